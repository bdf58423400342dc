section QR1
variable {p : Program} {l : Launch} {e : Env} {R : Room} {s : State} {m : MethodId} {args : Array Value} {below : List Frame} {meth : Method} {c : Code} {H : Heap} {locs : List Loc} {cells slots : Nat} {Q : State → Prop}
variable {cc : ByteArray} {pc nL : Nat} {ls : Array Slot} {rest : List Value} {own : String} {D : va_G} {cA : FieldType → ClassId} {sz : Nat} {al : Al} {iv : Iv} {rv : Rv}
/-- an index in its row, by its number -/
theorem ix_in {x : Int32} {n : Nat} (h0 : 0 ≤ x.toInt) (h1 : x.toInt < n) : vp_in x n := vp_in_iff.mpr ⟨h0, h1⟩
theorem ix_nat {x : Int32} (h0 : 0 ≤ x.toInt) : ((x.toNatClampNeg : Nat) : Int) = x.toInt := by
  have : x.toNatClampNeg = x.toInt.toNat := rfl
  rw [this]; omega
theorem ix_lt {x : Int32} {n : Nat} (h : vp_in x n) : x.toNatClampNeg < n := Nat.not_le.mp fun q => h (Or.inr q)
theorem q_iald (C : Cx p s m args c cc nL own D cA) (hU : UW D cA sz al iv rv H) {t i N : Nat} (kp : (pt t).1 = none ∧ (pt t).2.1 = N ∧ (pt t).2.2.1 = .int) (htg : ∀ k, (pt t).2.2.2 k = none) (hi : i < al.1 t) {x : Int32} (hin : vp_in x N) (hdg : decode cc pc = .ok (.iaload, 1))
    (kk : ∀ y : Int32, y = iv t i x.toNatClampNeg → W p l e R s m args below meth c H locs cells slots Q (F0 m (pc + 1) ls (.int y :: rest))) : W p l e R s m args below meth c H locs cells slots Q (F0 m pc ls (.int x :: .ref (al.2 t i) :: rest)) := by
  obtain ⟨⟨hx, hb, hml, hown, hts⟩, hK⟩ := C
  have hO := (hU.1 t i hi).ar kp.1
  rw [kp.2.1, kp.2.2] at hO
  exact W.iald (v := .int (iv t i x.toNatClampNeg)) hx hb hO ((hK.2.1 .int (by decide)).1 N _) (fun q => by cases q) (by show ¬ (x < 0 ∨ (arrV _ _ _).slots.size ≤ _); rw [arrV_size]; exact hin) (by rw [arrV_read _ _ (ix_lt hin), vl_int (htg _)]) rfl rfl hdg (kk _ rfl)
theorem q_zald (C : Cx p s m args c cc nL own D cA) (hU : UW D cA sz al iv rv H) {t i N : Nat} (kp : (pt t).1 = none ∧ (pt t).2.1 = N ∧ (pt t).2.2.1 = .boolean) (htg : ∀ k, (pt t).2.2.2 k = none) (hi : i < al.1 t) {x : Int32} (hin : vp_in x N) (hdg : decode cc pc = .ok (.baload, 1))
    (kk : ∀ y : Int32, y = iv t i x.toNatClampNeg → W p l e R s m args below meth c H locs cells slots Q (F0 m (pc + 1) ls (.int y :: rest))) : W p l e R s m args below meth c H locs cells slots Q (F0 m pc ls (.int x :: .ref (al.2 t i) :: rest)) := by
  obtain ⟨⟨hx, hb, hml, hown, hts⟩, hK⟩ := C
  have hO := (hU.1 t i hi).ar kp.1
  rw [kp.2.1, kp.2.2] at hO
  exact W.zald (v := .int (iv t i x.toNatClampNeg)) hx hb hO ((hK.2.1 .boolean (by decide)).1 N _) (fun q => by cases q) (by show ¬ (x < 0 ∨ (arrV _ _ _).slots.size ≤ _); rw [arrV_size]; exact hin) (by rw [arrV_read _ _ (ix_lt hin), vl_int (htg _)]) rfl rfl hdg (kk _ rfl)
theorem q_aald (C : Cx p s m args c cc nL own D cA) (hU : UW D cA sz al iv rv H) {t i N t' : Nat} {ty : FieldType} (kp : (pt t).1 = none ∧ (pt t).2.1 = N ∧ (pt t).2.2.1 = ty) (hty : ty ∈ aty) (hrf : ty.isReference = true) (htg : ∀ k, (pt t).2.2.2 k = some t') (hi : i < al.1 t) {x : Int32} (hin : vp_in x N) (hdg : decode cc pc = .ok (.aaload, 1))
    (kk : ∀ r : Option Nat, r = rv t i x.toNatClampNeg → W p l e R s m args below meth c H locs cells slots Q (F0 m (pc + 1) ls (rfv al t' r :: rest))) : W p l e R s m args below meth c H locs cells slots Q (F0 m pc ls (.int x :: .ref (al.2 t i) :: rest)) := by
  obtain ⟨⟨hx, hb, hml, hown, hts⟩, hK⟩ := C
  have hO := (hU.1 t i hi).ar kp.1
  rw [kp.2.1, kp.2.2] at hO
  exact W.aald (v := rfv al t' (rv t i x.toNatClampNeg)) hx hb hO ((hK.2.1 ty hty).1 N _) hrf (fun q => by cases q) (by show ¬ (x < 0 ∨ (arrV _ _ _).slots.size ≤ _); rw [arrV_size]; exact hin) (by rw [arrV_read _ _ (ix_lt hin), vl_ref (htg _)]) rfl rfl hdg (kk _ rfl)
theorem q_alen (C : Cx p s m args c cc nL own D cA) (hU : UW D cA sz al iv rv H) {t i N : Nat} {ty : FieldType} {v : Int32} (kp : (pt t).1 = none ∧ (pt t).2.1 = N ∧ (pt t).2.2.1 = ty) (hty : ty ∈ aty) (hi : i < al.1 t) (hv : N.toInt32 = v) (hdg : decode cc pc = .ok (.arraylength, 1))
    (kk : W p l e R s m args below meth c H locs cells slots Q (F0 m (pc + 1) ls (.int v :: rest))) : W p l e R s m args below meth c H locs cells slots Q (F0 m pc ls (.ref (al.2 t i) :: rest)) := by
  obtain ⟨⟨hx, hb, hml, hown, hts⟩, hK⟩ := C
  have hO := (hU.1 t i hi).ar kp.1
  rw [kp.2.1, kp.2.2] at hO
  exact W.alen hx hb hO ((hK.2.1 ty hty).1 N _) (by rw [arrV_size]; exact hv) rfl rfl hdg kk
theorem q_iast (C : Cx p s m args c cc nL own D cA) (hU : UW D cA sz al iv rv H) (hS : va_S (Aq sz) s.heap H locs) {t i N : Nat} (kp : (pt t).1 = none ∧ (pt t).2.1 = N ∧ (pt t).2.2.1 = .int) (htg : ∀ k, (pt t).2.2.2 k = none) (hi : i < al.1 t) {x v : Int32} (hin : vp_in x N) (hdg : decode cc pc = .ok (.iastore, 1))
    (kk : ∀ (H1 : Heap) (locs1 : List Loc), UW D cA sz al (up3 iv t i x.toNatClampNeg v) rv H1 → va_S (Aq sz) s.heap H1 locs1 → W p l e R s m args below meth c H1 locs1 cells slots Q (F0 m (pc + 1) ls rest)) : W p l e R s m args below meth c H locs cells slots Q (F0 m pc ls (.int v :: .int x :: .ref (al.2 t i) :: rest)) := by
  obtain ⟨⟨hx, hb, hml, hown, hts⟩, hK⟩ := C
  have hO := (hU.1 t i hi).ar kp.1
  rw [kp.2.1, kp.2.2] at hO
  refine W.iast hx hb hO ((hK.2.1 .int (by decide)).1 N _) (fun q => by cases q) (by show ¬ (x < 0 ∨ (arrV _ _ _).slots.size ≤ _); rw [arrV_size]; exact hin) rfl rfl hdg fun H1 e1 z oq => ?_
  refine kk H1 _ (hU.wr hi (cellAt.ofAr kp.1 ?_) oq vl_up_int_ne) (hS.put z oq (hU.2.2 t i hi))
  rw [e1, kp.2.1, kp.2.2, vl_up_int (htg _), arrV_store]
theorem nz01 {v : Int32} (h0 : 0 ≤ v.toInt) (h1 : v.toInt ≤ 1) : narrow .boolean (.int v) = .int v ∧ fits .boolean (.int v) = true := by
  have h : v = 0 ∨ v = 1 := by
    rcases (show v.toInt = 0 ∨ v.toInt = 1 by omega) with h | h
    · left; exact (fa_eq _ _).mpr (by rw [h]; rfl)
    · right; exact (fa_eq _ _).mpr (by rw [h]; rfl)
  rcases h with rfl | rfl <;> exact ⟨by decide, by decide⟩
theorem q_zast (C : Cx p s m args c cc nL own D cA) (hU : UW D cA sz al iv rv H) (hS : va_S (Aq sz) s.heap H locs) {t i N : Nat} (kp : (pt t).1 = none ∧ (pt t).2.1 = N ∧ (pt t).2.2.1 = .boolean) (htg : ∀ k, (pt t).2.2.2 k = none) (hi : i < al.1 t) {x v : Int32} (hin : vp_in x N) (h0 : 0 ≤ v.toInt) (h1 : v.toInt ≤ 1) (hdg : decode cc pc = .ok (.bastore, 1))
    (kk : ∀ (H1 : Heap) (locs1 : List Loc), UW D cA sz al (up3 iv t i x.toNatClampNeg v) rv H1 → va_S (Aq sz) s.heap H1 locs1 → W p l e R s m args below meth c H1 locs1 cells slots Q (F0 m (pc + 1) ls rest)) : W p l e R s m args below meth c H locs cells slots Q (F0 m pc ls (.int v :: .int x :: .ref (al.2 t i) :: rest)) := by
  obtain ⟨⟨hx, hb, hml, hown, hts⟩, hK⟩ := C
  have hO := (hU.1 t i hi).ar kp.1
  rw [kp.2.1, kp.2.2] at hO
  refine W.zast hx hb hO ((hK.2.1 .boolean (by decide)).1 N _) (fun q => by cases q) (by show ¬ (x < 0 ∨ (arrV _ _ _).slots.size ≤ _); rw [arrV_size]; exact hin) rfl rfl hdg fun H1 e1 z oq => ?_
  refine kk H1 _ (hU.wr hi (cellAt.ofAr kp.1 ?_) oq vl_up_int_ne) (hS.put z oq (hU.2.2 t i hi))
  rw [e1, kp.2.1, kp.2.2, vl_up_int (htg _), arrV_store, (nz01 h0 h1).1]
theorem q_aast (C : Cx p s m args c cc nL own D cA) (hU : UW D cA sz al iv rv H) (hS : va_S (Aq sz) s.heap H locs) {t i N t' ci j : Nat} {q : vw_C} (kp : (pt t).1 = none ∧ (pt t).2.1 = N ∧ (pt t).2.2.1 = .object q.1) (hty : FieldType.object q.1 ∈ aty) (htg : ∀ k, (pt t).2.2.2 k = some t') (hi : i < al.1 t) (kp' : (pt t').1 = some ci) (hc : vwCl[ci]? = some q) (hj : j < al.1 t') {x : Int32} (hin : vp_in x N) (hdg : decode cc pc = .ok (.aastore, 1))
    (kk : ∀ (H1 : Heap) (locs1 : List Loc), UW D cA sz al iv (up3 rv t i x.toNatClampNeg (some j)) H1 → va_S (Aq sz) s.heap H1 locs1 → W p l e R s m args below meth c H1 locs1 cells slots Q (F0 m (pc + 1) ls rest)) : W p l e R s m args below meth c H locs cells slots Q (F0 m pc ls (.ref (al.2 t' j) :: .int x :: .ref (al.2 t i) :: rest)) := by
  obtain ⟨⟨hx, hb, hml, hown, hts⟩, hK⟩ := C
  have hO := (hU.1 t i hi).ar kp.1
  rw [kp.2.1, kp.2.2] at hO
  obtain ⟨cellV, g1, g2, g3, -⟩ := (hU.1 t' j hj).ob kp'
  have hcls := (hK.1.1 ci q hc).2
  obtain ⟨kA, comp, k1, k2, k3, -⟩ := (hK.2.1 _ hty).2
  have hcomp : comp = D.1 ci := Option.some.inj (k3.symm.trans hcls.1)
  subst hcomp
  obtain ⟨kC, hkC, -⟩ := hcls.2
  have hlt := ix_lt hin
  have h0 : ¬ x < 0 := fun q => hin (Or.inl q)
  refine W.aast hx hb hO (fun q h => by cases h) (fun h => by cases h) k1 k2 rfl hkC ⟨h0, by show _ < (arrV _ _ _).slots.size; rw [arrV_size]; exact hlt⟩ g1 (fun q h => by rw [g3] at h; cases h) (by rw [g2]; exact hkC) (by rw [g2]; exact va_assign hcls) rfl rfl hdg fun H1 e1 z oq => ?_
  refine kk H1 _ (hU.wr hi (cellAt.ofAr kp.1 ?_) oq vl_up_ref_ne) (hS.put z oq (hU.2.2 t i hi))
  rw [e1, kp.2.1, kp.2.2, vl_up_ref (htg _), arrV_store]
  rfl
-- branches, by numbers
theorem b_icmp_eq (hx : p.tables.exec = Jvm.exec) (hb : c.code = cc) {x y : Int32} {off : Int} {tgt : Nat} (hdg : decode cc pc = .ok (.if_icmp .eq off, 3)) (ht : (pc : Int) + off = (tgt : Int)) (kt : x.toInt = y.toInt → W p l e R s m args below meth c H locs cells slots Q (F0 m tgt ls rest)) (kf : ¬ x.toInt = y.toInt → W p l e R s m args below meth c H locs cells slots Q (F0 m (pc + 3) ls rest)) : W p l e R s m args below meth c H locs cells slots Q (F0 m pc ls (.int y :: .int x :: rest)) := lv_icmp_eq hx hb hdg ht (fun h => kt (by rw [h])) (fun h => kf (fun q => h ((fa_eq _ _).mpr q)))
theorem b_icmp_ne (hx : p.tables.exec = Jvm.exec) (hb : c.code = cc) {x y : Int32} {off : Int} {tgt : Nat} (hdg : decode cc pc = .ok (.if_icmp .ne off, 3)) (ht : (pc : Int) + off = (tgt : Int)) (kt : ¬ x.toInt = y.toInt → W p l e R s m args below meth c H locs cells slots Q (F0 m tgt ls rest)) (kf : x.toInt = y.toInt → W p l e R s m args below meth c H locs cells slots Q (F0 m (pc + 3) ls rest)) : W p l e R s m args below meth c H locs cells slots Q (F0 m pc ls (.int y :: .int x :: rest)) := lv_icmp_ne hx hb hdg ht (fun h => kt (fun q => h ((fa_eq _ _).mpr q))) (fun h => kf (by rw [h]))
theorem b_icmp_lt (hx : p.tables.exec = Jvm.exec) (hb : c.code = cc) {x y : Int32} {off : Int} {tgt : Nat} (hdg : decode cc pc = .ok (.if_icmp .lt off, 3)) (ht : (pc : Int) + off = (tgt : Int)) (kt : x.toInt < y.toInt → W p l e R s m args below meth c H locs cells slots Q (F0 m tgt ls rest)) (kf : y.toInt ≤ x.toInt → W p l e R s m args below meth c H locs cells slots Q (F0 m (pc + 3) ls rest)) : W p l e R s m args below meth c H locs cells slots Q (F0 m pc ls (.int y :: .int x :: rest)) := lv_icmp_lt hx hb hdg ht (fun h => kt ((fa_lt _ _).mp h)) (fun h => kf (Int.not_lt.mp (fun q => h ((fa_lt _ _).mpr q))))
theorem b_icmp_ge (hx : p.tables.exec = Jvm.exec) (hb : c.code = cc) {x y : Int32} {off : Int} {tgt : Nat} (hdg : decode cc pc = .ok (.if_icmp .ge off, 3)) (ht : (pc : Int) + off = (tgt : Int)) (kt : y.toInt ≤ x.toInt → W p l e R s m args below meth c H locs cells slots Q (F0 m tgt ls rest)) (kf : x.toInt < y.toInt → W p l e R s m args below meth c H locs cells slots Q (F0 m (pc + 3) ls rest)) : W p l e R s m args below meth c H locs cells slots Q (F0 m pc ls (.int y :: .int x :: rest)) := lv_icmp_ge hx hb hdg ht (fun h => kt ((fa_le _ _).mp h)) (fun h => kf (Int.not_le.mp (fun q => h ((fa_le _ _).mpr q))))
theorem b_icmp_gt (hx : p.tables.exec = Jvm.exec) (hb : c.code = cc) {x y : Int32} {off : Int} {tgt : Nat} (hdg : decode cc pc = .ok (.if_icmp .gt off, 3)) (ht : (pc : Int) + off = (tgt : Int)) (kt : y.toInt < x.toInt → W p l e R s m args below meth c H locs cells slots Q (F0 m tgt ls rest)) (kf : x.toInt ≤ y.toInt → W p l e R s m args below meth c H locs cells slots Q (F0 m (pc + 3) ls rest)) : W p l e R s m args below meth c H locs cells slots Q (F0 m pc ls (.int y :: .int x :: rest)) := lv_icmp_gt hx hb hdg ht (fun h => kt ((fa_lt _ _).mp h)) (fun h => kf (Int.not_lt.mp (fun q => h ((fa_lt _ _).mpr q))))
theorem b_icmp_le (hx : p.tables.exec = Jvm.exec) (hb : c.code = cc) {x y : Int32} {off : Int} {tgt : Nat} (hdg : decode cc pc = .ok (.if_icmp .le off, 3)) (ht : (pc : Int) + off = (tgt : Int)) (kt : x.toInt ≤ y.toInt → W p l e R s m args below meth c H locs cells slots Q (F0 m tgt ls rest)) (kf : y.toInt < x.toInt → W p l e R s m args below meth c H locs cells slots Q (F0 m (pc + 3) ls rest)) : W p l e R s m args below meth c H locs cells slots Q (F0 m pc ls (.int y :: .int x :: rest)) := lv_icmp_le hx hb hdg ht (fun h => kt ((fa_le _ _).mp h)) (fun h => kf (Int.not_le.mp (fun q => h ((fa_le _ _).mpr q))))
theorem b_if_eq (hx : p.tables.exec = Jvm.exec) (hb : c.code = cc) {x : Int32} {off : Int} {tgt : Nat} (hdg : decode cc pc = .ok (.ifCond .eq off, 3)) (ht : (pc : Int) + off = (tgt : Int)) (kt : x.toInt = 0 → W p l e R s m args below meth c H locs cells slots Q (F0 m tgt ls rest)) (kf : ¬ x.toInt = 0 → W p l e R s m args below meth c H locs cells slots Q (F0 m (pc + 3) ls rest)) : W p l e R s m args below meth c H locs cells slots Q (F0 m pc ls (.int x :: rest)) := lv_if_eq hx hb hdg ht (fun h => kt (by rw [h]; rfl)) (fun h => kf (fun q => h ((fa_eq _ _).mpr (by rw [q]; rfl))))
theorem b_if_ne (hx : p.tables.exec = Jvm.exec) (hb : c.code = cc) {x : Int32} {off : Int} {tgt : Nat} (hdg : decode cc pc = .ok (.ifCond .ne off, 3)) (ht : (pc : Int) + off = (tgt : Int)) (kt : ¬ x.toInt = 0 → W p l e R s m args below meth c H locs cells slots Q (F0 m tgt ls rest)) (kf : x.toInt = 0 → W p l e R s m args below meth c H locs cells slots Q (F0 m (pc + 3) ls rest)) : W p l e R s m args below meth c H locs cells slots Q (F0 m pc ls (.int x :: rest)) := lv_if_ne hx hb hdg ht (fun h => kt (fun q => h ((fa_eq _ _).mpr (by rw [q]; rfl)))) (fun h => kf (by rw [h]; rfl))
theorem b_if_lt (hx : p.tables.exec = Jvm.exec) (hb : c.code = cc) {x : Int32} {off : Int} {tgt : Nat} (hdg : decode cc pc = .ok (.ifCond .lt off, 3)) (ht : (pc : Int) + off = (tgt : Int)) (kt : x.toInt < 0 → W p l e R s m args below meth c H locs cells slots Q (F0 m tgt ls rest)) (kf : 0 ≤ x.toInt → W p l e R s m args below meth c H locs cells slots Q (F0 m (pc + 3) ls rest)) : W p l e R s m args below meth c H locs cells slots Q (F0 m pc ls (.int x :: rest)) := lv_if_lt hx hb hdg ht (fun h => kt ((fa_lt x 0).mp h)) (fun h => kf (Int.not_lt.mp (fun q => h ((fa_lt x 0).mpr q))))
theorem b_if_ge (hx : p.tables.exec = Jvm.exec) (hb : c.code = cc) {x : Int32} {off : Int} {tgt : Nat} (hdg : decode cc pc = .ok (.ifCond .ge off, 3)) (ht : (pc : Int) + off = (tgt : Int)) (kt : 0 ≤ x.toInt → W p l e R s m args below meth c H locs cells slots Q (F0 m tgt ls rest)) (kf : x.toInt < 0 → W p l e R s m args below meth c H locs cells slots Q (F0 m (pc + 3) ls rest)) : W p l e R s m args below meth c H locs cells slots Q (F0 m pc ls (.int x :: rest)) := lv_if_ge hx hb hdg ht (fun h => kt ((fa_le 0 x).mp h)) (fun h => kf (Int.not_le.mp (fun q => h ((fa_le 0 x).mpr q))))
theorem b_if_gt (hx : p.tables.exec = Jvm.exec) (hb : c.code = cc) {x : Int32} {off : Int} {tgt : Nat} (hdg : decode cc pc = .ok (.ifCond .gt off, 3)) (ht : (pc : Int) + off = (tgt : Int)) (kt : 0 < x.toInt → W p l e R s m args below meth c H locs cells slots Q (F0 m tgt ls rest)) (kf : x.toInt ≤ 0 → W p l e R s m args below meth c H locs cells slots Q (F0 m (pc + 3) ls rest)) : W p l e R s m args below meth c H locs cells slots Q (F0 m pc ls (.int x :: rest)) := lv_if_gt hx hb hdg ht (fun h => kt ((fa_lt 0 x).mp h)) (fun h => kf (Int.not_lt.mp (fun q => h ((fa_lt 0 x).mpr q))))
theorem b_if_le (hx : p.tables.exec = Jvm.exec) (hb : c.code = cc) {x : Int32} {off : Int} {tgt : Nat} (hdg : decode cc pc = .ok (.ifCond .le off, 3)) (ht : (pc : Int) + off = (tgt : Int)) (kt : x.toInt ≤ 0 → W p l e R s m args below meth c H locs cells slots Q (F0 m tgt ls rest)) (kf : 0 < x.toInt → W p l e R s m args below meth c H locs cells slots Q (F0 m (pc + 3) ls rest)) : W p l e R s m args below meth c H locs cells slots Q (F0 m pc ls (.int x :: rest)) := lv_if_le hx hb hdg ht (fun h => kt ((fa_le x 0).mp h)) (fun h => kf (Int.not_le.mp (fun q => h ((fa_le x 0).mpr q))))
theorem b_table (hx : p.tables.exec = Jvm.exec) (hb : c.code = cc) {dflt lo hi : Int} {offs : Array Int} {len : Nat} {x : Int32} (hdg : decode cc pc = .ok (.tableswitch dflt lo hi offs, len)) (dt : Nat) (hd : (pc : Int) + dflt = (dt : Int)) (tg : List Nat) (hlen : hi + 1 - lo = tg.length) (ho : ∀ j : Nat, j < tg.length → ∃ off t, offs[j]? = some off ∧ tg[j]? = some t ∧ (pc : Int) + off = (t : Int))
    (kd : (x.toInt < lo ∨ hi < x.toInt) → W p l e R s m args below meth c H locs cells slots Q (F0 m dt ls rest)) (kt : ∀ (j t : Nat), tg[j]? = some t → x.toInt = lo + j → W p l e R s m args below meth c H locs cells slots Q (F0 m t ls rest)) : W p l e R s m args below meth c H locs cells slots Q (F0 m pc ls (.int x :: rest)) := by
  by_cases h : x.toInt < lo ∨ hi < x.toInt
  · exact lv_tableOut hx hb hdg h hd (kd h)
  · have h1 : ¬ x.toInt < lo := fun q => h (Or.inl q)
    have h2 : ¬ hi < x.toInt := fun q => h (Or.inr q)
    obtain ⟨off, t, e1, e2, e3⟩ := ho (x.toInt - lo).toNat (by omega)
    exact lv_tableIn hx hb hdg h1 h2 e1 e3 (kt _ t e2 (by omega))
-- null or not
theorem b_ifnull (hx : p.tables.exec = Jvm.exec) (hb : c.code = cc) {t' : Nat} {r : Option Nat} {off : Int} {tgt : Nat} (hdg : decode cc pc = .ok (.ifnull off, 3)) (ht : (pc : Int) + off = (tgt : Int)) (kt : r = none → W p l e R s m args below meth c H locs cells slots Q (F0 m tgt ls rest)) (kf : ∀ j, r = some j → W p l e R s m args below meth c H locs cells slots Q (F0 m (pc + 3) ls rest)) : W p l e R s m args below meth c H locs cells slots Q (F0 m pc ls (rfv al t' r :: rest)) := by
  cases r with
  | none => exact lv_ifnullN hx hb hdg ht (kt rfl)
  | some j => exact lv_ifnull hx hb hdg (kf j rfl)
theorem b_ifnonnull (hx : p.tables.exec = Jvm.exec) (hb : c.code = cc) {t' : Nat} {r : Option Nat} {off : Int} {tgt : Nat} (hdg : decode cc pc = .ok (.ifnonnull off, 3)) (ht : (pc : Int) + off = (tgt : Int)) (kt : ∀ j, r = some j → W p l e R s m args below meth c H locs cells slots Q (F0 m tgt ls rest)) (kf : r = none → W p l e R s m args below meth c H locs cells slots Q (F0 m (pc + 3) ls rest)) : W p l e R s m args below meth c H locs cells slots Q (F0 m pc ls (rfv al t' r :: rest)) := by
  cases r with
  | none => exact lv_ifnonnullN hx hb hdg (kf rfl)
  | some j => exact lv_ifnonnull hx hb hdg ht (kt j rfl)
theorem b_acmp_ne (hx : p.tables.exec = Jvm.exec) (hb : c.code = cc) (hU : UW D cA sz al iv rv H) {t i j : Nat} (hi : i < al.1 t) (hj : j < al.1 t) {off : Int} {tgt : Nat} (hdg : decode cc pc = .ok (.if_acmp .ne off, 3)) (ht : (pc : Int) + off = (tgt : Int)) (kt : ¬ i = j → W p l e R s m args below meth c H locs cells slots Q (F0 m tgt ls rest)) (kf : i = j → W p l e R s m args below meth c H locs cells slots Q (F0 m (pc + 3) ls rest)) : W p l e R s m args below meth c H locs cells slots Q (F0 m pc ls (.ref (al.2 t j) :: .ref (al.2 t i) :: rest)) :=
  lv_acmp_ne (rx := some (al.2 t i)) (ry := some (al.2 t j)) hx hb hdg ht (fun h => kt (fun q => h (by rw [q]))) (fun h => kf (hU.2.1 t i t j hi hj (Option.some.inj h)).2)
-- returns
theorem q_iret {post : Int32 → Iv → Rv → Prop} (C : Cx p s m args c cc nL own D cA) (hr : meth.sig.returnType = some .int) (hlk : meth.locks = false) (hU : UW D cA sz al iv rv H) (hS : va_S (Aq sz) s.heap H locs) {r : Int32} (hp : post r iv rv) (hdg : decode cc pc = .ok (.ireturn, 1)) :
    W p l e R s m args below meth c H locs cells slots (MQ below (QI D cA sz al post) args s cells slots (Aq sz)) (F0 m pc ls [.int r]) :=
  W.iret C.1.1 C.1.2.1 hr (fun t ht hW => ⟨⟨r, iv, rv, rfl, hp, by rw [ht]; exact hU⟩, hS.F ht⟩) hS.2.2 hdg hlk
theorem q_zret {post : Int32 → Iv → Rv → Prop} (C : Cx p s m args c cc nL own D cA) (hr : meth.sig.returnType = some .boolean) (hlk : meth.locks = false) (hU : UW D cA sz al iv rv H) (hS : va_S (Aq sz) s.heap H locs) {r : Int32} (h0 : 0 ≤ r.toInt) (h1 : r.toInt ≤ 1) (hp : post r iv rv) (hdg : decode cc pc = .ok (.ireturn, 1)) :
    W p l e R s m args below meth c H locs cells slots (MQ below (QI D cA sz al post) args s cells slots (Aq sz)) (F0 m pc ls [.int r]) :=
  W.zret C.1.1 C.1.2.1 hr (nz01 h0 h1).1 (fun t ht hW => ⟨⟨r, iv, rv, rfl, hp, by rw [ht]; exact hU⟩, hS.F ht⟩) hS.2.2 hdg hlk
theorem q_vret {post : Iv → Rv → Prop} (C : Cx p s m args c cc nL own D cA) (hr : meth.sig.returnType = none) (hlk : meth.locks = false) (hU : UW D cA sz al iv rv H) (hS : va_S (Aq sz) s.heap H locs) (hp : post iv rv) (hdg : decode cc pc = .ok (.return_, 1)) :
    W p l e R s m args below meth c H locs cells slots (MQ below (QV D cA sz al post) args s cells slots (Aq sz)) (F0 m pc ls []) :=
  W.vret C.1.1 C.1.2.1 hr (fun t ht hW => ⟨⟨iv, rv, rfl, hp, by rw [ht]; exact hU⟩, hS.F ht⟩) hS.2.2 hdg hlk
theorem q_aret {post : Option Nat → Iv → Rv → Prop} {rt : FieldType} {t' : Nat} (C : Cx p s m args c cc nL own D cA) (hr : meth.sig.returnType = some rt) (hrt : (∃ n, rt = .object n) ∨ ∃ t, rt = .array t) (hlk : meth.locks = false) (hU : UW D cA sz al iv rv H) (hS : va_S (Aq sz) s.heap H locs) {r : Option Nat} (hp : post r iv rv) (hdg : decode cc pc = .ok (.areturn, 1)) :
    W p l e R s m args below meth c H locs cells slots (MQ below (QR D cA sz al t' post) args s cells slots (Aq sz)) (F0 m pc ls [rfv al t' r]) :=
  W.aret C.1.1 C.1.2.1 hr hrt (va_rf_or _) (fun t ht hW => ⟨⟨r, iv, rv, rfl, hp, by rw [ht]; exact hU⟩, hS.F ht⟩) hS.2.2 hdg hlk
-- a method
theorem mk_met {y : MethodName} {ret : Option FieldType} {rmm : Room} {vs : List Value} {Qc : Array Value → State → Outcome → State → Prop} {mc ms : Nat} (hy : plainName y.cls = true) (hn : (lg_sl vs).length ≤ nL) (ho : y.cls = own)
    (body : ∀ (p : Program) (e : Env) (s : State) (m : MethodId) (below : List Frame) (meth : Method) (c : Code) (ls : Array Slot), Cx p s m vs.toArray c cc nL own D cA → meth.sig.returnType = ret → meth.locks = false → meth.name = y.name → UW D cA sz al iv rv s.heap → va_S (Aq sz) s.heap s.heap [] → lv_has ls nL (lv_args 0 vs) → W p l e rmm s m vs.toArray below meth c s.heap [] 0 0 (MQ below Qc vs.toArray s mc ms (Aq sz)) (F0 m 0 ls [])) :
    Met l y (wd y cc nL ret) rmm (PcW D cA sz al iv rv vs) Qc mc ms (Aq sz) := by
  refine Met.ofW (cc := cc) (maxL := nL) (ret := ret) hy rfl ?_
  intro p e s m args below meth c s₁ B hml hv
  obtain ⟨rfl, hU, hK⟩ := hv
  have hts := atoms_spec (ws := wd y cc nL ret) B.pre
  have hl := lv_entry vs (n := nL) hn
  rw [lg_entry_eq]
  exact body p e s m below meth c _ ⟨⟨B.exec, B.bytes, hml, by rw [← ho]; exact findClass_of_methodNamed B.named, fun w h => hts w (List.mem_cons_of_mem _ h)⟩, hK⟩ B.returns B.notSynchronized (name_of_methodNamed B.named B.method).1 hU va_S.rf hl
-- calls
theorem cb_of {y : MethodName} {bytes : ByteArray} {maxL mc ms n index : Nat} {ret : Option FieldType} {rmm : Room} (hts : ∀ w ∈ BW, w.before args s = true) (hcode : Cond.code y bytes maxL ret ∈ BW) (hini : Cond.initialized y.cls ∈ BW) (hl : Cond.methodLink own index y ∈ BW) (hd : y.cls ≠ "java/lang/invoke/MethodHandle" ∧ y.cls ≠ "java/lang/invoke/VarHandle" ∧ (parseMethodDescriptor y.desc).map (fun d => d.parameters.length) = some n) (hrc : rmm.cells = mc) (hrs : rmm.slots = ms) (hR : rmm.frames + 1 ≤ R.frames ∧ 8 + (maxL + 11) + rmm.locals ≤ R.locals) :
    CallB R s args own index y bytes maxL ret (wd y bytes maxL ret) rmm mc ms n :=
  callB_of n hts (gdw hcode) rfl hrc hrs (hts _ hini) (hts _ hl) hd hR
theorem q_runV {y : MethodName} {bytes : ByteArray} {maxL mc ms n index t i ci : Nat} {ret : Option FieldType} {rmm : Room} {As : List Value} {q : vw_C} {Qc : Array Value → State → Outcome → State → Prop} {st : List Value} (C : Cx p s m args c cc nL own D cA) (hU : UW D cA sz al iv rv H)
    (hM : Met l y (wd y bytes maxL ret) rmm (PcW D cA sz al iv rv (.ref (al.2 t i) :: As)) Qc mc ms (Aq sz)) (vm : VM y bytes maxL ret n) (hl : Cond.methodLink own index y ∈ BW) (kp : (pt t).1 = some ci) (hc : vwCl[ci]? = some q) (hq : q.1 = y.cls) (hi : i < al.1 t) (hls : ls.size = nL) (hn : As.length = n) (hst : st = As.reverse ++ .ref (al.2 t i) :: rest)
    (hrm : (rest.map fun v => v.category).sum ≤ 8) (hdg : decode cc pc = .ok (.invokevirtual index, 3)) (hrc : rmm.cells = mc) (hrs : rmm.slots = ms) (hR : rmm.frames + 1 ≤ R.frames ∧ 8 + (maxL + 11) + rmm.locals ≤ R.locals) (hf : cells + mc ≤ R.cells ∧ slots + ms ≤ R.slots) :
    va_Run p l e R s m args below meth c H locs cells slots mc ms (F0 m pc ls st) rest (Qc (Value.ref (al.2 t i) :: As).toArray) (Aq sz) := by
  obtain ⟨v1, v2, v3, v4, v5⟩ := vm
  have hts := C.1.2.2.2.2
  have hK := C.2
  obtain ⟨cell, g1, g2, g3, -⟩ := (hU.1 t i hi).ob kp
  refine va_runV (C := y.cls) (As := As) (rest := rest) C.1 hM ⟨cb_of hts v1 v4 hl v5 hrc hrs hR, hts _ v2, hts _ v3⟩ ⟨PcW.blind, ⟨cell, g1, by rw [g3]; rfl, ?_⟩, fun U hH hW => ⟨rfl, by rw [hH]; exact hU, hK.warm hW⟩⟩ rfl hn hls hst (lv_room hrm) hdg hf
  rw [g2, ← hq]; exact (hK.1.1 ci q hc).2.1
theorem q_runI {y : MethodName} {bytes : ByteArray} {maxL mc ms n index b : Nat} {rmm : Room} {As : List Value} {Qc : Array Value → State → Outcome → State → Prop} {st : List Value} (C : Cx p s m args c cc nL own D cA) (hU : UW D cA sz al iv rv H)
    (hM : Met l y (wd y bytes maxL none) rmm (PcW D cA sz al iv rv (.ref b :: As)) Qc mc ms (Aq sz)) (hcode : Cond.code y bytes maxL none ∈ BW) (him : Cond.instanceMethod y ∈ BW) (hini : Cond.initialized y.cls ∈ BW) (hl : Cond.methodLink own index y ∈ BW) (hy1 : y.name = "<init>") (hd : y.cls ≠ "java/lang/invoke/MethodHandle" ∧ y.cls ≠ "java/lang/invoke/VarHandle" ∧ (parseMethodDescriptor y.desc).map (fun d => d.parameters.length) = some n) (hls : ls.size = nL) (hn : As.length = n) (hst : st = As.reverse ++ .ref b :: rest)
    (hrm : (rest.map fun v => v.category).sum ≤ 8) (hdg : decode cc pc = .ok (.invokespecial index, 3)) (hrc : rmm.cells = mc) (hrs : rmm.slots = ms) (hR : rmm.frames + 1 ≤ R.frames ∧ 8 + (maxL + 11) + rmm.locals ≤ R.locals) (hf : cells + mc ≤ R.cells ∧ slots + ms ≤ R.slots) :
    va_Run p l e R s m args below meth c H locs cells slots mc ms (F0 m pc ls st) rest (Qc (Value.ref b :: As).toArray) (Aq sz) := by
  have hts := C.1.2.2.2.2
  have hK := C.2
  exact va_runI (As := As) (rest := rest) C.1 hM ⟨cb_of hts hcode hini hl hd hrc hrs hR, hy1, hts _ him⟩ ⟨PcW.blind, fun U hH hW => ⟨rfl, by rw [hH]; exact hU, hK.warm hW⟩⟩ rfl hn hls hst (lv_room hrm) hdg hf
theorem q_runS {y : MethodName} {bytes : ByteArray} {maxL mc ms n index : Nat} {ret : Option FieldType} {rmm : Room} {As : List Value} {Qc : Array Value → State → Outcome → State → Prop} {st : List Value} (C : Cx p s m args c cc nL own D cA) (hU : UW D cA sz al iv rv H)
    (hM : Met l y (wd y bytes maxL ret) rmm (PcW D cA sz al iv rv As) Qc mc ms (Aq sz)) (sm : SM y bytes maxL ret n) (hl : Cond.methodLink own index y ∈ BW) (hls : ls.size = nL) (hn : As.length = n) (hst : st = As.reverse ++ rest)
    (hrm : (rest.map fun v => v.category).sum ≤ 8) (hdg : decode cc pc = .ok (.invokestatic index, 3)) (hrc : rmm.cells = mc) (hrs : rmm.slots = ms) (hR : rmm.frames + 1 ≤ R.frames ∧ 8 + (maxL + 11) + rmm.locals ≤ R.locals) (hf : cells + mc ≤ R.cells ∧ slots + ms ≤ R.slots) :
    va_Run p l e R s m args below meth c H locs cells slots mc ms (F0 m pc ls st) rest (Qc As.toArray) (Aq sz) := by
  obtain ⟨v1, v2, v4, v5⟩ := sm
  have hts := C.1.2.2.2.2
  have hK := C.2
  exact va_runS (As := As) (rest := rest) C.1 hM ⟨cb_of hts v1 v4 hl v5 hrc hrs hR, hts _ v2⟩ ⟨PcW.blind, fun U hH hW => ⟨rfl, by rw [hH]; exact hU, hK.warm hW⟩⟩ rfl hn hls hst (lv_room hrm) hdg hf
theorem q_runSN {y : MethodName} {bytes : ByteArray} {maxL mc ms n index : Nat} {ret : Option FieldType} {rmm : Room} {As : List Value} {Qc : Array Value → State → Outcome → State → Prop} {st : List Value} {host : String} (C : Cx p s m args c cc nL own D cA) (hU : UW D cA sz al iv rv H)
    (hM : Met l y (wd y bytes maxL ret) rmm (PcW D cA sz al iv rv As) Qc mc ms (Aq sz)) (sm : SM y bytes maxL ret n) (hl : va_Nw (.methodLinkNest own index y host) s) (hls : ls.size = nL) (hn : As.length = n) (hst : st = As.reverse ++ rest)
    (hrm : (rest.map fun v => v.category).sum ≤ 8) (hdg : decode cc pc = .ok (.invokestatic index, 3)) (hrc : rmm.cells = mc) (hrs : rmm.slots = ms) (hR : rmm.frames + 1 ≤ R.frames ∧ 8 + (maxL + 11) + rmm.locals ≤ R.locals) (hf : cells + mc ≤ R.cells ∧ slots + ms ≤ R.slots) :
    va_Run p l e R s m args below meth c H locs cells slots mc ms (F0 m pc ls st) rest (Qc As.toArray) (Aq sz) := by
  obtain ⟨v1, v2, v4, v5⟩ := sm
  have hts := C.1.2.2.2.2
  have hK := C.2
  exact va_runSN (As := As) (rest := rest) C.1 hM ⟨va_cnB n hts (gdw v1) rfl hrc hrs hl (hts _ v4) v5 hR, hts _ v2, trivial⟩ ⟨PcW.blind, fun U hH hW => ⟨rfl, by rw [hH]; exact hU, hK.warm hW⟩⟩ rfl hn hls hst (lv_room hrm) hdg hf
theorem q_ci {mc ms : Nat} {st : List Value} {a : Array Value} {post : Int32 → Iv → Rv → Prop} (hr : va_Run p l e R s m args below meth c H locs cells slots mc ms (F0 m pc ls st) rest (QI D cA sz al post a) (Aq sz)) (hS : va_S (Aq sz) s.heap H locs)
    (kk : ∀ (r : Int32) (iv' : Iv) (rv' : Rv) (H1 : Heap) (locs1 : List Loc), post r iv' rv' → UW D cA sz al iv' rv' H1 → va_S (Aq sz) s.heap H1 locs1 → W p l e R s m args below meth c H1 locs1 (cells + mc) (slots + ms) Q (F0 m (pc + 3) ls (.int r :: rest))) : W p l e R s m args below meth c H locs cells slots Q (F0 m pc ls st) := by
  intro T hT X
  obtain ⟨v, st₀, t, T', L, h0, X', hL, e1, e2, ⟨⟨r, iv', rv', hv, hp, hb⟩, hz, hk⟩, go⟩ := hr T hT X
  cases hv
  rw [h0] at hz hk
  obtain ⟨t2, a1, b1⟩ := kk r iv' rv' t.heap (locs ++ L) hp hb ⟨Nat.le_trans hS.1 hz, fun q h1 h2 => (hk q (Nat.lt_of_lt_of_le h1 hS.1) h2).trans (hS.2.1 q h1 h2), t_lL hS.2.2 hL⟩ T' e1 X'
  exact ⟨t2, go t2 a1, b1⟩
theorem q_cv {mc ms : Nat} {st : List Value} {a : Array Value} {post : Iv → Rv → Prop} (hr : va_Run p l e R s m args below meth c H locs cells slots mc ms (F0 m pc ls st) rest (QV D cA sz al post a) (Aq sz)) (hS : va_S (Aq sz) s.heap H locs)
    (kk : ∀ (iv' : Iv) (rv' : Rv) (H1 : Heap) (locs1 : List Loc), post iv' rv' → UW D cA sz al iv' rv' H1 → va_S (Aq sz) s.heap H1 locs1 → W p l e R s m args below meth c H1 locs1 (cells + mc) (slots + ms) Q (F0 m (pc + 3) ls rest)) : W p l e R s m args below meth c H locs cells slots Q (F0 m pc ls st) := by
  intro T hT X
  obtain ⟨v, st₀, t, T', L, h0, X', hL, e1, e2, ⟨⟨iv', rv', hv, hp, hb⟩, hz, hk⟩, go⟩ := hr T hT X
  cases hv
  rw [h0] at hz hk
  obtain ⟨t2, a1, b1⟩ := kk iv' rv' t.heap (locs ++ L) hp hb ⟨Nat.le_trans hS.1 hz, fun q h1 h2 => (hk q (Nat.lt_of_lt_of_le h1 hS.1) h2).trans (hS.2.1 q h1 h2), t_lL hS.2.2 hL⟩ T' e1 X'
  exact ⟨t2, go t2 a1, b1⟩
theorem q_cr {mc ms t' : Nat} {st : List Value} {a : Array Value} {post : Option Nat → Iv → Rv → Prop} (hr : va_Run p l e R s m args below meth c H locs cells slots mc ms (F0 m pc ls st) rest (QR D cA sz al t' post a) (Aq sz)) (hS : va_S (Aq sz) s.heap H locs)
    (kk : ∀ (r : Option Nat) (iv' : Iv) (rv' : Rv) (H1 : Heap) (locs1 : List Loc), post r iv' rv' → UW D cA sz al iv' rv' H1 → va_S (Aq sz) s.heap H1 locs1 → W p l e R s m args below meth c H1 locs1 (cells + mc) (slots + ms) Q (F0 m (pc + 3) ls (rfv al t' r :: rest))) : W p l e R s m args below meth c H locs cells slots Q (F0 m pc ls st) := by
  intro T hT X
  obtain ⟨v, st₀, t, T', L, h0, X', hL, e1, e2, ⟨⟨r, iv', rv', hv, hp, hb⟩, hz, hk⟩, go⟩ := hr T hT X
  cases hv
  rw [h0] at hz hk
  obtain ⟨t2, a1, b1⟩ := kk r iv' rv' t.heap (locs ++ L) hp hb ⟨Nat.le_trans hS.1 hz, fun q h1 h2 => (hk q (Nat.lt_of_lt_of_le h1 hS.1) h2).trans (hS.2.1 q h1 h2), t_lL hS.2.2 hL⟩ T' e1 X'
  exact ⟨t2, go t2 a1, b1⟩
end QR1
