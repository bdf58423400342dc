def KVL (L : List (Nat × Nat × Int32)) (iv : Iv) : Prop := ∀ q, q ∈ L → iv q.1 0 q.2.1 = q.2.2
theorem KVL.nil {iv : Iv} : KVL [] iv := fun _ h => by cases h
theorem KVL.nw {L : List (Nat × Nat × Int32)} {iv : Iv} {t i : Nat} (h : KVL L iv) (ht : ∀ q, q ∈ L → q.1 ≠ t) : KVL L (clr iv t i 0) := fun q hq => by
  rw [clr_ne (fun z => ht q hq z.1)]; exact h q hq
theorem KVL.up {L : List (Nat × Nat × Int32)} {iv : Iv} {t k : Nat} {x v : Int32} (h : KVL L iv) (hx : x.toNatClampNeg = k) (ht : ∀ q, q ∈ L → ¬ (q.1 = t ∧ q.2.1 = k)) : KVL ((t, k, v) :: L) (up3 iv t 0 x.toNatClampNeg v) := fun q hq => by
  rw [hx]
  rcases List.mem_cons.mp hq with rfl | hq
  · exact up3_self _ _ _ _ _
  · rw [up3_ne (fun z => ht q hq ⟨z.1, z.2.2⟩)]; exact h q hq
theorem KVL.put {L : List (Nat × Nat × Int32)} {iv : Iv} {t i k : Nat} {v : Int32} (h : KVL L iv) (ht : ∀ q, q ∈ L → q.1 ≠ t) : KVL L (up3 iv t i k v) := fun q hq => by
  rw [up3_ne (fun z => ht q hq z.1)]; exact h q hq
section CIR2
variable {p : Program} {l : Launch} {e : Env} {R : Room} {s : State} {m : MethodId} {args : Array Value} {below : List Frame} {meth : Method} {c : Code} {H : Heap} {locs : List Loc} {cells slots : Nat} {Q : State → Prop}
variable {cc : ByteArray} {pc nL : Nat} {ls : Array Slot} {rest : List Value} {own : String} {D : va_G} {cA : FieldType → ClassId} {sz : Nat} {al al1 : Al} {iv iv1 : Iv} {rv rv1 : Rv} {t0 i0 o : Nat} {N : Nat → Nat} {M : Mo} {L : List Nat}
theorem q_ra2 (C : Cx p s m args c cc nL own D cA) (hz0 : sz ≤ s.heap.size) (hU : UW D cA sz al1 iv1 rv1 H) (hS : va_S (Aq sz) s.heap H locs) (hI : CI t0 i0 o N M L al iv rv al1 iv1 rv1) {t n : Nat} {atype : ArrayType} {ty : FieldType} (hat : newarray.typeOf atype = ty) (h2 : ty = .int ∨ ty = .boolean) (kp : (pt t).1 = none ∧ (pt t).2.1 = n ∧ (pt t).2.2.1 = ty) (htg : ∀ k, (pt t).2.2.2 k = none) (ht : t0 ≠ t) (hac : Cond.arrayClass ty ∈ BW)
    {x : Int32} (hn : ¬ x < 0) (hN : x.toNatClampNeg = n) (hby : n * 8 ≤ 536870912) (hcells : cells + 1 ≤ R.cells) (hslots : slots + n ≤ R.slots) (hdg : decode cc pc = .ok (.newarray atype, 2))
    (kk : ∀ (al2 : Al) (iv2 : Iv) (rv2 : Rv) (H2 : Heap) (a : Nat), UW D cA sz al2 iv2 rv2 H2 → va_S (Aq sz) s.heap H2 locs → CI t0 i0 o (nx N t) M L al iv rv al2 iv2 rv2 → al2.2 t (al1.1 t) = a → al1.1 t < al2.1 t → iv2 = clr iv1 t (al1.1 t) 0 → W p l e R s m args below meth c H2 locs (cells + 1) (slots + n) Q (F0 m (pc + 2) ls (.ref a :: rest))) : W p l e R s m args below meth c H locs cells slots Q (F0 m pc ls (.int x :: rest)) := by
  refine q_newp (t := t) C hU hS hI.2.1 (Nat.le_trans hz0 hS.1) hat h2 kp htg hac hn hN hby hcells hslots hdg (fun a H1 hU1 hS1 _ => ?_)
  exact kk _ _ _ H1 a hU1 hS1 (hI.new t a ht) grow_new (by rw [grow_ct]; simp) rfl
theorem q_is2 (C : Cx p s m args c cc nL own D cA) (hU : UW D cA sz al1 iv1 rv1 H) (hS : va_S (Aq sz) s.heap H locs) (hI : CI t0 i0 o N M L al iv rv al1 iv1 rv1) {t i a n : Nat} (kp : (pt t).1 = none ∧ (pt t).2.1 = n ∧ (pt t).2.2.1 = .int) (htg : ∀ k, (pt t).2.2.2 k = none) (ha : al1.2 t i = a) (hi : i < al1.1 t) {x v : Int32} (hin : vp_in x n) (hm : ∀ k, MD M t k) (hr : ∀ k, (rg t k).1 ≤ v.toInt ∧ v.toInt ≤ (rg t k).2) (hdg : decode cc pc = .ok (.iastore, 1))
    (kk : ∀ (iv2 : Iv) (H2 : Heap) (locs2 : List Loc), UW D cA sz al1 iv2 rv1 H2 → va_S (Aq sz) s.heap H2 locs2 → CI t0 i0 o N M L al iv rv al1 iv2 rv1 → iv2 = up3 iv1 t i x.toNatClampNeg v → W p l e R s m args below meth c H2 locs2 cells slots Q (F0 m (pc + 1) ls rest)) : W p l e R s m args below meth c H locs cells slots Q (F0 m pc ls (.int v :: .int x :: .ref a :: rest)) := by
  subst ha
  exact q_iast (t := t) C hU hS kp htg hi hin hdg (fun H1 locs1 hU1 hS1 => kk _ H1 locs1 hU1 hS1 (hI.puti (hm _) (hr _)) rfl)
end CIR2
def KV (iv : Iv) : Prop := KVL [(15, 3, 5), (15, 2, 45), (15, 1, 60), (15, 0, 30), (3, 9, 9), (3, 8, 8), (3, 7, 7), (3, 6, 6), (3, 5, 5), (3, 4, 4), (3, 3, 3), (3, 2, 2), (3, 1, 1), (3, 0, 0)] iv ∧ ∀ k : Nat, k < 4 → iv 31 0 k = 365
theorem c36 {x : Int32} {n : Nat} (h : (n : Int) < x.toInt) : x.toInt ≤ n → False := fun q => by omega
set_option maxHeartbeats 40000000 in
set_option maxRecDepth 100000 in
theorem c_X12_init {l : Launch} {D : va_G} {cA : FieldType → ClassId} {sz : Nat} {al : Al} {iv : Iv} {rv : Rv} (hR : RG al iv) (hB : RB al rv) (i0 : Nat) (hi0 : i0 < al.1 0) (cz : ∀ t, 1 ≤ t → t ≤ 48 → al.1 t = 0) : Met l yX12_init (wd yX12_init cX12_init 2 none) (rmA 1 48 1795) (PcA D cA sz al iv rv [.ref (al.2 0 i0)] (fun _ => True)) (QVA D cA sz (fun al' iv' rv' => RG al' iv' ∧ RB al' rv' ∧ EXT (nx (nx (nx (nx (nx (nx (nx (nx (nx (nx (nx (nx (nx (nx (nx (nx (nx (nx (nx (nx (nx (nx (nx (nx (nx (nx (nx (nx (nx (nx (nx (nx (nx (nx (nx (nx (nx (nx (nx (nx (nx (nx (nx (nx (nx (nx (nx (nx (fun _ => 0) 1) 2) 3) 4) 5) 6) 7) 8) 9) 10) 11) 12) 13) 14) 15) 16) 17) 18) 19) 20) 21) 22) 23) 24) 25) 26) 27) 28) 29) 30) 31) 32) 33) 34) 35) 36) 37) 38) 39) 40) 41) 42) 43) 44) 45) 46) 47) 48) ([3, 15, 31], [(0, 1), (0, 2), (0, 3), (0, 4), (0, 7), (0, 8), (0, 9), (0, 10), (0, 11), (0, 12), (0, 13), (0, 14), (0, 15), (0, 16), (0, 17), (0, 18), (0, 19), (0, 21), (0, 22), (0, 23), (0, 25), (0, 26), (0, 27), (0, 28), (0, 29), (0, 31), (0, 32), (0, 33), (0, 34), (0, 35), (0, 36), (0, 38), (0, 39), (0, 40), (0, 42), (0, 43), (0, 44), (0, 45), (0, 46), (0, 47), (0, 49), (0, 50), (0, 51), (0, 52), (0, 53), (0, 54), (0, 58), (0, 59)]) al iv rv al' iv' rv' ∧ NN 0 i0 [59, 58, 54, 53, 52, 51, 50, 49, 47, 46, 45, 44, 43, 42, 40, 39, 38, 36, 35, 34, 33, 32, 31, 29, 28, 27, 26, 25, 23, 22, 21, 19, 18, 17, 16, 15, 14, 13, 12, 11, 10, 9, 8, 7, 4, 3, 2, 1] rv' ∧ KV iv')) 48 1795 (Aq sz) := by
  refine mk_b (by decide) (Nat.le_of_ble_eq_true rfl) rfl ?_
  intro p e s m args below meth c ls Q C hnm hU hS hz0 _ hl hret
  have hx := C.1.1
  have hb := C.1.2.1
  have k0 : (0 : Int32).toInt = 0 := by decide
  have k1 : (1 : Int32).toInt = 1 := by decide
  have k2 : (2 : Int32).toInt = 2 := by decide
  have k3 : (3 : Int32).toInt = 3 := by decide
  have k4 : (4 : Int32).toInt = 4 := by decide
  have k5 : (5 : Int32).toInt = 5 := by decide
  have k6 : (6 : Int32).toInt = 6 := by decide
  have k7 : (7 : Int32).toInt = 7 := by decide
  have k8 : (8 : Int32).toInt = 8 := by decide
  have k9 : (9 : Int32).toInt = 9 := by decide
  have k10 : (10 : Int32).toInt = 10 := by decide
  have k20 : (20 : Int32).toInt = 20 := by decide
  have k30 : (30 : Int32).toInt = 30 := by decide
  have k32 : (32 : Int32).toInt = 32 := by decide
  have k40 : (40 : Int32).toInt = 40 := by decide
  have k45 : (45 : Int32).toInt = 45 := by decide
  have k60 : (60 : Int32).toInt = 60 := by decide
  have k80 : (80 : Int32).toInt = 80 := by decide
  have k100 : (100 : Int32).toInt = 100 := by decide
  have k150 : (150 : Int32).toInt = 150 := by decide
  have k365 : (365 : Int32).toInt = 365 := by decide
  obtain ⟨o, ho⟩ : ∃ z, al.2 0 i0 = z := ⟨_, rfl⟩
  have hl : lv_has ls 2 [(0, .ref o)] := by rw [← ho]; exact hl
  have hI : CI 0 i0 o (fun _ => 0) ([3, 15, 31], [(0, 1), (0, 2), (0, 3), (0, 4), (0, 7), (0, 8), (0, 9), (0, 10), (0, 11), (0, 12), (0, 13), (0, 14), (0, 15), (0, 16), (0, 17), (0, 18), (0, 19), (0, 21), (0, 22), (0, 23), (0, 25), (0, 26), (0, 27), (0, 28), (0, 29), (0, 31), (0, 32), (0, 33), (0, 34), (0, 35), (0, 36), (0, 38), (0, 39), (0, 40), (0, 42), (0, 43), (0, 44), (0, 45), (0, 46), (0, 47), (0, 49), (0, 50), (0, 51), (0, 52), (0, 53), (0, 54), (0, 58), (0, 59)]) [] al iv rv al iv rv := ⟨hR, hB, EXT.rf, NN.nil, ho, hi0⟩
  clear hR hB
  have hV : KVL [] iv := KVL.nil
  refine lv_aload_n hx hb dX12_init_0 rfl (lv_at hl 0 rfl) ?_
  refine W.objInit hx hb C.1.2.2.2.1 (C.1.2.2.2.2 _ oi_X12) (C.1.2.2.2.2 _ oi_m) (C.1.2.2.2.2 _ oi_c) rfl (by rw [C.1.2.2.1]; exact hl.1) rfl dX12_init_1 (Nat.le_of_ble_eq_true rfl) (Nat.le_of_ble_eq_true rfl) ?_
  refine W.eq (g2 := F0 m 4 ls []) rfl ?_
  refine lv_aload_n hx hb dX12_init_4 rfl (lv_at hl 0 rfl) ?_
  refine lv_bipush (v := 10) hx hb dX12_init_5 (by decide) ?_
  refine q_ra2 (t := 1) (ty := .int) C hz0 hU hS hI rfl (Or.inl rfl) k_1 (fun _ => rfl) (by decide) ac_int (by decide) (by decide) (by decide) (Nat.le_of_ble_eq_true rfl) (Nat.le_of_ble_eq_true rfl) dX12_init_7 (fun al1 iv1 rv1 H a hU hS hI ha hi ei => ?_)
  have hV : KVL [] iv1 := by rw [ei]; exact hV.nw (by decide)
  clear ei
  refine W.widen (k := 1) (n := 10) (Nat.le_of_ble_eq_true rfl) (Nat.le_of_ble_eq_true rfl) ?_
  refine q_rp (t0 := 0) (t := 1) (k := 1) C hnm hU hS hI k_0 (hc := rfl) uwX12 tyX12 tyX12_ok nmX12 (by decide) rfl rfl rfl (by decide) fl_X12_7 (fun _ => rfl) (fun _ => rfl) ha hi dX12_init_9 (fun rv1 H locs hU hS hI => ?_)
  clear ha hi
  refine lv_aload_n hx hb dX12_init_12 rfl (lv_at hl 0 rfl) ?_
  refine lv_bipush (v := 100) hx hb dX12_init_13 (by decide) ?_
  refine q_ra2 (t := 2) (ty := .int) C hz0 hU hS hI rfl (Or.inl rfl) k_2 (fun _ => rfl) (by decide) ac_int (by decide) (by decide) (by decide) (Nat.le_of_ble_eq_true rfl) (Nat.le_of_ble_eq_true rfl) dX12_init_15 (fun al1 iv1 rv1 H a hU hS hI ha hi ei => ?_)
  have hV : KVL [] iv1 := by rw [ei]; exact hV.nw (by decide)
  clear ei
  refine W.widen (k := 2) (n := 110) (Nat.le_of_ble_eq_true rfl) (Nat.le_of_ble_eq_true rfl) ?_
  refine q_rp (t0 := 0) (t := 2) (k := 2) C hnm hU hS hI k_0 (hc := rfl) uwX12 tyX12 tyX12_ok nmX12 (by decide) rfl rfl rfl (by decide) fl_X12_13 (fun _ => rfl) (fun _ => rfl) ha hi dX12_init_17 (fun rv1 H locs hU hS hI => ?_)
  clear ha hi
  refine lv_aload_n hx hb dX12_init_20 rfl (lv_at hl 0 rfl) ?_
  refine lv_bipush (v := 10) hx hb dX12_init_21 (by decide) ?_
  have zi : al1.1 3 = 0 := by rw [hI.2.2.1.1 3, cz 3 (by decide) (by decide)]; rfl
  refine q_ra2 (t := 3) (ty := .int) C hz0 hU hS hI rfl (Or.inl rfl) k_3 (fun _ => rfl) (by decide) ac_int (by decide) (by decide) (by decide) (Nat.le_of_ble_eq_true rfl) (Nat.le_of_ble_eq_true rfl) dX12_init_23 (fun al1 iv1 rv1 H a hU hS hI ha hi ei => ?_)
  have hV : KVL [] iv1 := by rw [ei]; exact hV.nw (by decide)
  clear ei
  rw [zi] at ha hi
  clear zi
  refine W.widen (k := 3) (n := 120) (Nat.le_of_ble_eq_true rfl) (Nat.le_of_ble_eq_true rfl) ?_
  refine lv_dup hx hb dX12_init_25 rfl ?_
  refine lv_iconst (v := 0) hx hb dX12_init_26 (by decide) ?_
  refine lv_iconst (v := 0) hx hb dX12_init_27 (by decide) ?_
  refine q_is2 (t := 3) (i := 0) C hU hS hI k_3 (fun _ => rfl) ha hi (x := 0) (ix_in (by decide) (by decide)) (fun _ => Or.inl (by decide)) (fun _ => ⟨show (0 : Int) ≤ _ by decide, show _ ≤ (9 : Int) by decide⟩) dX12_init_28 (fun iv1 H locs hU hS hI ei => ?_)
  have hV : KVL [(3, 0, 0)] iv1 := by rw [ei]; exact hV.up (by decide) (by decide)
  clear ei
  refine lv_dup hx hb dX12_init_29 rfl ?_
  refine lv_iconst (v := 1) hx hb dX12_init_30 (by decide) ?_
  refine lv_iconst (v := 1) hx hb dX12_init_31 (by decide) ?_
  refine q_is2 (t := 3) (i := 0) C hU hS hI k_3 (fun _ => rfl) ha hi (x := 1) (ix_in (by decide) (by decide)) (fun _ => Or.inl (by decide)) (fun _ => ⟨show (0 : Int) ≤ _ by decide, show _ ≤ (9 : Int) by decide⟩) dX12_init_32 (fun iv1 H locs hU hS hI ei => ?_)
  have hV : KVL [(3, 1, 1), (3, 0, 0)] iv1 := by rw [ei]; exact hV.up (by decide) (by decide)
  clear ei
  refine lv_dup hx hb dX12_init_33 rfl ?_
  refine lv_iconst (v := 2) hx hb dX12_init_34 (by decide) ?_
  refine lv_iconst (v := 2) hx hb dX12_init_35 (by decide) ?_
  refine q_is2 (t := 3) (i := 0) C hU hS hI k_3 (fun _ => rfl) ha hi (x := 2) (ix_in (by decide) (by decide)) (fun _ => Or.inl (by decide)) (fun _ => ⟨show (0 : Int) ≤ _ by decide, show _ ≤ (9 : Int) by decide⟩) dX12_init_36 (fun iv1 H locs hU hS hI ei => ?_)
  have hV : KVL [(3, 2, 2), (3, 1, 1), (3, 0, 0)] iv1 := by rw [ei]; exact hV.up (by decide) (by decide)
  clear ei
  refine lv_dup hx hb dX12_init_37 rfl ?_
  refine lv_iconst (v := 3) hx hb dX12_init_38 (by decide) ?_
  refine lv_iconst (v := 3) hx hb dX12_init_39 (by decide) ?_
  refine q_is2 (t := 3) (i := 0) C hU hS hI k_3 (fun _ => rfl) ha hi (x := 3) (ix_in (by decide) (by decide)) (fun _ => Or.inl (by decide)) (fun _ => ⟨show (0 : Int) ≤ _ by decide, show _ ≤ (9 : Int) by decide⟩) dX12_init_40 (fun iv1 H locs hU hS hI ei => ?_)
  have hV : KVL [(3, 3, 3), (3, 2, 2), (3, 1, 1), (3, 0, 0)] iv1 := by rw [ei]; exact hV.up (by decide) (by decide)
  clear ei
  refine lv_dup hx hb dX12_init_41 rfl ?_
  refine lv_iconst (v := 4) hx hb dX12_init_42 (by decide) ?_
  refine lv_iconst (v := 4) hx hb dX12_init_43 (by decide) ?_
  refine q_is2 (t := 3) (i := 0) C hU hS hI k_3 (fun _ => rfl) ha hi (x := 4) (ix_in (by decide) (by decide)) (fun _ => Or.inl (by decide)) (fun _ => ⟨show (0 : Int) ≤ _ by decide, show _ ≤ (9 : Int) by decide⟩) dX12_init_44 (fun iv1 H locs hU hS hI ei => ?_)
  have hV : KVL [(3, 4, 4), (3, 3, 3), (3, 2, 2), (3, 1, 1), (3, 0, 0)] iv1 := by rw [ei]; exact hV.up (by decide) (by decide)
  clear ei
  refine lv_dup hx hb dX12_init_45 rfl ?_
  refine lv_iconst (v := 5) hx hb dX12_init_46 (by decide) ?_
  refine lv_iconst (v := 5) hx hb dX12_init_47 (by decide) ?_
  refine q_is2 (t := 3) (i := 0) C hU hS hI k_3 (fun _ => rfl) ha hi (x := 5) (ix_in (by decide) (by decide)) (fun _ => Or.inl (by decide)) (fun _ => ⟨show (0 : Int) ≤ _ by decide, show _ ≤ (9 : Int) by decide⟩) dX12_init_48 (fun iv1 H locs hU hS hI ei => ?_)
  have hV : KVL [(3, 5, 5), (3, 4, 4), (3, 3, 3), (3, 2, 2), (3, 1, 1), (3, 0, 0)] iv1 := by rw [ei]; exact hV.up (by decide) (by decide)
  clear ei
  refine lv_dup hx hb dX12_init_49 rfl ?_
  refine lv_bipush (v := 6) hx hb dX12_init_50 (by decide) ?_
  refine lv_bipush (v := 6) hx hb dX12_init_52 (by decide) ?_
  refine q_is2 (t := 3) (i := 0) C hU hS hI k_3 (fun _ => rfl) ha hi (x := 6) (ix_in (by decide) (by decide)) (fun _ => Or.inl (by decide)) (fun _ => ⟨show (0 : Int) ≤ _ by decide, show _ ≤ (9 : Int) by decide⟩) dX12_init_54 (fun iv1 H locs hU hS hI ei => ?_)
  have hV : KVL [(3, 6, 6), (3, 5, 5), (3, 4, 4), (3, 3, 3), (3, 2, 2), (3, 1, 1), (3, 0, 0)] iv1 := by rw [ei]; exact hV.up (by decide) (by decide)
  clear ei
  refine lv_dup hx hb dX12_init_55 rfl ?_
  refine lv_bipush (v := 7) hx hb dX12_init_56 (by decide) ?_
  refine lv_bipush (v := 7) hx hb dX12_init_58 (by decide) ?_
  refine q_is2 (t := 3) (i := 0) C hU hS hI k_3 (fun _ => rfl) ha hi (x := 7) (ix_in (by decide) (by decide)) (fun _ => Or.inl (by decide)) (fun _ => ⟨show (0 : Int) ≤ _ by decide, show _ ≤ (9 : Int) by decide⟩) dX12_init_60 (fun iv1 H locs hU hS hI ei => ?_)
  have hV : KVL [(3, 7, 7), (3, 6, 6), (3, 5, 5), (3, 4, 4), (3, 3, 3), (3, 2, 2), (3, 1, 1), (3, 0, 0)] iv1 := by rw [ei]; exact hV.up (by decide) (by decide)
  clear ei
  refine lv_dup hx hb dX12_init_61 rfl ?_
  refine lv_bipush (v := 8) hx hb dX12_init_62 (by decide) ?_
  refine lv_bipush (v := 8) hx hb dX12_init_64 (by decide) ?_
  refine q_is2 (t := 3) (i := 0) C hU hS hI k_3 (fun _ => rfl) ha hi (x := 8) (ix_in (by decide) (by decide)) (fun _ => Or.inl (by decide)) (fun _ => ⟨show (0 : Int) ≤ _ by decide, show _ ≤ (9 : Int) by decide⟩) dX12_init_66 (fun iv1 H locs hU hS hI ei => ?_)
  have hV : KVL [(3, 8, 8), (3, 7, 7), (3, 6, 6), (3, 5, 5), (3, 4, 4), (3, 3, 3), (3, 2, 2), (3, 1, 1), (3, 0, 0)] iv1 := by rw [ei]; exact hV.up (by decide) (by decide)
  clear ei
  refine lv_dup hx hb dX12_init_67 rfl ?_
  refine lv_bipush (v := 9) hx hb dX12_init_68 (by decide) ?_
  refine lv_bipush (v := 9) hx hb dX12_init_70 (by decide) ?_
  refine q_is2 (t := 3) (i := 0) C hU hS hI k_3 (fun _ => rfl) ha hi (x := 9) (ix_in (by decide) (by decide)) (fun _ => Or.inl (by decide)) (fun _ => ⟨show (0 : Int) ≤ _ by decide, show _ ≤ (9 : Int) by decide⟩) dX12_init_72 (fun iv1 H locs hU hS hI ei => ?_)
  have hV : KVL [(3, 9, 9), (3, 8, 8), (3, 7, 7), (3, 6, 6), (3, 5, 5), (3, 4, 4), (3, 3, 3), (3, 2, 2), (3, 1, 1), (3, 0, 0)] iv1 := by rw [ei]; exact hV.up (by decide) (by decide)
  clear ei
  refine q_rp (t0 := 0) (t := 3) (k := 3) C hnm hU hS hI k_0 (hc := rfl) uwX12 tyX12 tyX12_ok nmX12 (by decide) rfl rfl rfl (by decide) fl_X12_16 (fun _ => rfl) (fun _ => rfl) ha hi dX12_init_73 (fun rv1 H locs hU hS hI => ?_)
  clear ha hi
  refine lv_aload_n hx hb dX12_init_76 rfl (lv_at hl 0 rfl) ?_
  refine lv_bipush (v := 10) hx hb dX12_init_77 (by decide) ?_
  refine q_ra2 (t := 4) (ty := .int) C hz0 hU hS hI rfl (Or.inl rfl) k_4 (fun _ => rfl) (by decide) ac_int (by decide) (by decide) (by decide) (Nat.le_of_ble_eq_true rfl) (Nat.le_of_ble_eq_true rfl) dX12_init_79 (fun al1 iv1 rv1 H a hU hS hI ha hi ei => ?_)
  have hV : KVL [(3, 9, 9), (3, 8, 8), (3, 7, 7), (3, 6, 6), (3, 5, 5), (3, 4, 4), (3, 3, 3), (3, 2, 2), (3, 1, 1), (3, 0, 0)] iv1 := by rw [ei]; exact hV.nw (by decide)
  clear ei
  refine W.widen (k := 4) (n := 130) (Nat.le_of_ble_eq_true rfl) (Nat.le_of_ble_eq_true rfl) ?_
  refine q_rp (t0 := 0) (t := 4) (k := 4) C hnm hU hS hI k_0 (hc := rfl) uwX12 tyX12 tyX12_ok nmX12 (by decide) rfl rfl rfl (by decide) fl_X12_19 (fun _ => rfl) (fun _ => rfl) ha hi dX12_init_81 (fun rv1 H locs hU hS hI => ?_)
  clear ha hi
  refine lv_aload_n hx hb dX12_init_84 rfl (lv_at hl 0 rfl) ?_
  refine lv_bipush (v := 40) hx hb dX12_init_85 (by decide) ?_
  refine q_ra2 (t := 5) (ty := .int) C hz0 hU hS hI rfl (Or.inl rfl) k_5 (fun _ => rfl) (by decide) ac_int (by decide) (by decide) (by decide) (Nat.le_of_ble_eq_true rfl) (Nat.le_of_ble_eq_true rfl) dX12_init_87 (fun al1 iv1 rv1 H a hU hS hI ha hi ei => ?_)
  have hV : KVL [(3, 9, 9), (3, 8, 8), (3, 7, 7), (3, 6, 6), (3, 5, 5), (3, 4, 4), (3, 3, 3), (3, 2, 2), (3, 1, 1), (3, 0, 0)] iv1 := by rw [ei]; exact hV.nw (by decide)
  clear ei
  refine W.widen (k := 5) (n := 170) (Nat.le_of_ble_eq_true rfl) (Nat.le_of_ble_eq_true rfl) ?_
  refine q_rp (t0 := 0) (t := 5) (k := 7) C hnm hU hS hI k_0 (hc := rfl) uwX12 tyX12 tyX12_ok nmX12 (by decide) rfl rfl rfl (by decide) fl_X12_22 (fun _ => rfl) (fun _ => rfl) ha hi dX12_init_89 (fun rv1 H locs hU hS hI => ?_)
  clear ha hi
  refine lv_aload_n hx hb dX12_init_92 rfl (lv_at hl 0 rfl) ?_
  refine lv_bipush (v := 40) hx hb dX12_init_93 (by decide) ?_
  refine q_ra2 (t := 6) (ty := .int) C hz0 hU hS hI rfl (Or.inl rfl) k_6 (fun _ => rfl) (by decide) ac_int (by decide) (by decide) (by decide) (Nat.le_of_ble_eq_true rfl) (Nat.le_of_ble_eq_true rfl) dX12_init_95 (fun al1 iv1 rv1 H a hU hS hI ha hi ei => ?_)
  have hV : KVL [(3, 9, 9), (3, 8, 8), (3, 7, 7), (3, 6, 6), (3, 5, 5), (3, 4, 4), (3, 3, 3), (3, 2, 2), (3, 1, 1), (3, 0, 0)] iv1 := by rw [ei]; exact hV.nw (by decide)
  clear ei
  refine W.widen (k := 6) (n := 210) (Nat.le_of_ble_eq_true rfl) (Nat.le_of_ble_eq_true rfl) ?_
  refine q_rp (t0 := 0) (t := 6) (k := 8) C hnm hU hS hI k_0 (hc := rfl) uwX12 tyX12 tyX12_ok nmX12 (by decide) rfl rfl rfl (by decide) fl_X12_25 (fun _ => rfl) (fun _ => rfl) ha hi dX12_init_97 (fun rv1 H locs hU hS hI => ?_)
  clear ha hi
  refine lv_aload_n hx hb dX12_init_100 rfl (lv_at hl 0 rfl) ?_
  refine lv_bipush (v := 40) hx hb dX12_init_101 (by decide) ?_
  refine q_ra2 (t := 7) (ty := .int) C hz0 hU hS hI rfl (Or.inl rfl) k_7 (fun _ => rfl) (by decide) ac_int (by decide) (by decide) (by decide) (Nat.le_of_ble_eq_true rfl) (Nat.le_of_ble_eq_true rfl) dX12_init_103 (fun al1 iv1 rv1 H a hU hS hI ha hi ei => ?_)
  have hV : KVL [(3, 9, 9), (3, 8, 8), (3, 7, 7), (3, 6, 6), (3, 5, 5), (3, 4, 4), (3, 3, 3), (3, 2, 2), (3, 1, 1), (3, 0, 0)] iv1 := by rw [ei]; exact hV.nw (by decide)
  clear ei
  refine W.widen (k := 7) (n := 250) (Nat.le_of_ble_eq_true rfl) (Nat.le_of_ble_eq_true rfl) ?_
  refine q_rp (t0 := 0) (t := 7) (k := 9) C hnm hU hS hI k_0 (hc := rfl) uwX12 tyX12 tyX12_ok nmX12 (by decide) rfl rfl rfl (by decide) fl_X12_28 (fun _ => rfl) (fun _ => rfl) ha hi dX12_init_105 (fun rv1 H locs hU hS hI => ?_)
  clear ha hi
  refine lv_aload_n hx hb dX12_init_108 rfl (lv_at hl 0 rfl) ?_
  refine lv_bipush (v := 40) hx hb dX12_init_109 (by decide) ?_
  refine q_ra2 (t := 8) (ty := .int) C hz0 hU hS hI rfl (Or.inl rfl) k_8 (fun _ => rfl) (by decide) ac_int (by decide) (by decide) (by decide) (Nat.le_of_ble_eq_true rfl) (Nat.le_of_ble_eq_true rfl) dX12_init_111 (fun al1 iv1 rv1 H a hU hS hI ha hi ei => ?_)
  have hV : KVL [(3, 9, 9), (3, 8, 8), (3, 7, 7), (3, 6, 6), (3, 5, 5), (3, 4, 4), (3, 3, 3), (3, 2, 2), (3, 1, 1), (3, 0, 0)] iv1 := by rw [ei]; exact hV.nw (by decide)
  clear ei
  refine W.widen (k := 8) (n := 290) (Nat.le_of_ble_eq_true rfl) (Nat.le_of_ble_eq_true rfl) ?_
  refine q_rp (t0 := 0) (t := 8) (k := 10) C hnm hU hS hI k_0 (hc := rfl) uwX12 tyX12 tyX12_ok nmX12 (by decide) rfl rfl rfl (by decide) fl_X12_31 (fun _ => rfl) (fun _ => rfl) ha hi dX12_init_113 (fun rv1 H locs hU hS hI => ?_)
  clear ha hi
  refine lv_aload_n hx hb dX12_init_116 rfl (lv_at hl 0 rfl) ?_
  refine lv_bipush (v := 40) hx hb dX12_init_117 (by decide) ?_
  refine q_ra2 (t := 9) (ty := .int) C hz0 hU hS hI rfl (Or.inl rfl) k_9 (fun _ => rfl) (by decide) ac_int (by decide) (by decide) (by decide) (Nat.le_of_ble_eq_true rfl) (Nat.le_of_ble_eq_true rfl) dX12_init_119 (fun al1 iv1 rv1 H a hU hS hI ha hi ei => ?_)
  have hV : KVL [(3, 9, 9), (3, 8, 8), (3, 7, 7), (3, 6, 6), (3, 5, 5), (3, 4, 4), (3, 3, 3), (3, 2, 2), (3, 1, 1), (3, 0, 0)] iv1 := by rw [ei]; exact hV.nw (by decide)
  clear ei
  refine W.widen (k := 9) (n := 330) (Nat.le_of_ble_eq_true rfl) (Nat.le_of_ble_eq_true rfl) ?_
  refine q_rp (t0 := 0) (t := 9) (k := 11) C hnm hU hS hI k_0 (hc := rfl) uwX12 tyX12 tyX12_ok nmX12 (by decide) rfl rfl rfl (by decide) fl_X12_34 (fun _ => rfl) (fun _ => rfl) ha hi dX12_init_121 (fun rv1 H locs hU hS hI => ?_)
  clear ha hi
  refine lv_aload_n hx hb dX12_init_124 rfl (lv_at hl 0 rfl) ?_
  refine lv_bipush (v := 40) hx hb dX12_init_125 (by decide) ?_
  refine q_ra2 (t := 10) (ty := .int) C hz0 hU hS hI rfl (Or.inl rfl) k_10 (fun _ => rfl) (by decide) ac_int (by decide) (by decide) (by decide) (Nat.le_of_ble_eq_true rfl) (Nat.le_of_ble_eq_true rfl) dX12_init_127 (fun al1 iv1 rv1 H a hU hS hI ha hi ei => ?_)
  have hV : KVL [(3, 9, 9), (3, 8, 8), (3, 7, 7), (3, 6, 6), (3, 5, 5), (3, 4, 4), (3, 3, 3), (3, 2, 2), (3, 1, 1), (3, 0, 0)] iv1 := by rw [ei]; exact hV.nw (by decide)
  clear ei
  refine W.widen (k := 10) (n := 370) (Nat.le_of_ble_eq_true rfl) (Nat.le_of_ble_eq_true rfl) ?_
  refine q_rp (t0 := 0) (t := 10) (k := 12) C hnm hU hS hI k_0 (hc := rfl) uwX12 tyX12 tyX12_ok nmX12 (by decide) rfl rfl rfl (by decide) fl_X12_37 (fun _ => rfl) (fun _ => rfl) ha hi dX12_init_129 (fun rv1 H locs hU hS hI => ?_)
  clear ha hi
  refine lv_aload_n hx hb dX12_init_132 rfl (lv_at hl 0 rfl) ?_
  refine lv_bipush (v := 40) hx hb dX12_init_133 (by decide) ?_
  refine q_ra2 (t := 11) (ty := .boolean) C hz0 hU hS hI rfl (Or.inr rfl) k_11 (fun _ => rfl) (by decide) ac_boolean (by decide) (by decide) (by decide) (Nat.le_of_ble_eq_true rfl) (Nat.le_of_ble_eq_true rfl) dX12_init_135 (fun al1 iv1 rv1 H a hU hS hI ha hi ei => ?_)
  have hV : KVL [(3, 9, 9), (3, 8, 8), (3, 7, 7), (3, 6, 6), (3, 5, 5), (3, 4, 4), (3, 3, 3), (3, 2, 2), (3, 1, 1), (3, 0, 0)] iv1 := by rw [ei]; exact hV.nw (by decide)
  clear ei
  refine W.widen (k := 11) (n := 410) (Nat.le_of_ble_eq_true rfl) (Nat.le_of_ble_eq_true rfl) ?_
  refine q_rp (t0 := 0) (t := 11) (k := 13) C hnm hU hS hI k_0 (hc := rfl) uwX12 tyX12 tyX12_ok nmX12 (by decide) rfl rfl rfl (by decide) fl_X12_40 (fun _ => rfl) (fun _ => rfl) ha hi dX12_init_137 (fun rv1 H locs hU hS hI => ?_)
  clear ha hi
  refine lv_aload_n hx hb dX12_init_140 rfl (lv_at hl 0 rfl) ?_
  refine lv_bipush (v := 40) hx hb dX12_init_141 (by decide) ?_
  refine q_ra2 (t := 12) (ty := .int) C hz0 hU hS hI rfl (Or.inl rfl) k_12 (fun _ => rfl) (by decide) ac_int (by decide) (by decide) (by decide) (Nat.le_of_ble_eq_true rfl) (Nat.le_of_ble_eq_true rfl) dX12_init_143 (fun al1 iv1 rv1 H a hU hS hI ha hi ei => ?_)
  have hV : KVL [(3, 9, 9), (3, 8, 8), (3, 7, 7), (3, 6, 6), (3, 5, 5), (3, 4, 4), (3, 3, 3), (3, 2, 2), (3, 1, 1), (3, 0, 0)] iv1 := by rw [ei]; exact hV.nw (by decide)
  clear ei
  refine W.widen (k := 12) (n := 450) (Nat.le_of_ble_eq_true rfl) (Nat.le_of_ble_eq_true rfl) ?_
  refine q_rp (t0 := 0) (t := 12) (k := 14) C hnm hU hS hI k_0 (hc := rfl) uwX12 tyX12 tyX12_ok nmX12 (by decide) rfl rfl rfl (by decide) fl_X12_44 (fun _ => rfl) (fun _ => rfl) ha hi dX12_init_145 (fun rv1 H locs hU hS hI => ?_)
  clear ha hi
  refine lv_aload_n hx hb dX12_init_148 rfl (lv_at hl 0 rfl) ?_
  refine lv_bipush (v := 40) hx hb dX12_init_149 (by decide) ?_
  refine q_ra2 (t := 13) (ty := .int) C hz0 hU hS hI rfl (Or.inl rfl) k_13 (fun _ => rfl) (by decide) ac_int (by decide) (by decide) (by decide) (Nat.le_of_ble_eq_true rfl) (Nat.le_of_ble_eq_true rfl) dX12_init_151 (fun al1 iv1 rv1 H a hU hS hI ha hi ei => ?_)
  have hV : KVL [(3, 9, 9), (3, 8, 8), (3, 7, 7), (3, 6, 6), (3, 5, 5), (3, 4, 4), (3, 3, 3), (3, 2, 2), (3, 1, 1), (3, 0, 0)] iv1 := by rw [ei]; exact hV.nw (by decide)
  clear ei
  refine W.widen (k := 13) (n := 490) (Nat.le_of_ble_eq_true rfl) (Nat.le_of_ble_eq_true rfl) ?_
  refine q_rp (t0 := 0) (t := 13) (k := 15) C hnm hU hS hI k_0 (hc := rfl) uwX12 tyX12 tyX12_ok nmX12 (by decide) rfl rfl rfl (by decide) fl_X12_47 (fun _ => rfl) (fun _ => rfl) ha hi dX12_init_153 (fun rv1 H locs hU hS hI => ?_)
  clear ha hi
  refine lv_aload_n hx hb dX12_init_156 rfl (lv_at hl 0 rfl) ?_
  refine lv_bipush (v := 40) hx hb dX12_init_157 (by decide) ?_
  refine q_ra2 (t := 14) (ty := .int) C hz0 hU hS hI rfl (Or.inl rfl) k_14 (fun _ => rfl) (by decide) ac_int (by decide) (by decide) (by decide) (Nat.le_of_ble_eq_true rfl) (Nat.le_of_ble_eq_true rfl) dX12_init_159 (fun al1 iv1 rv1 H a hU hS hI ha hi ei => ?_)
  have hV : KVL [(3, 9, 9), (3, 8, 8), (3, 7, 7), (3, 6, 6), (3, 5, 5), (3, 4, 4), (3, 3, 3), (3, 2, 2), (3, 1, 1), (3, 0, 0)] iv1 := by rw [ei]; exact hV.nw (by decide)
  clear ei
  refine W.widen (k := 14) (n := 530) (Nat.le_of_ble_eq_true rfl) (Nat.le_of_ble_eq_true rfl) ?_
  refine q_rp (t0 := 0) (t := 14) (k := 16) C hnm hU hS hI k_0 (hc := rfl) uwX12 tyX12 tyX12_ok nmX12 (by decide) rfl rfl rfl (by decide) fl_X12_50 (fun _ => rfl) (fun _ => rfl) ha hi dX12_init_161 (fun rv1 H locs hU hS hI => ?_)
  clear ha hi
  refine lv_aload_n hx hb dX12_init_164 rfl (lv_at hl 0 rfl) ?_
  refine lv_iconst (v := 4) hx hb dX12_init_165 (by decide) ?_
  have zi : al1.1 15 = 0 := by rw [hI.2.2.1.1 15, cz 15 (by decide) (by decide)]; rfl
  refine q_ra2 (t := 15) (ty := .int) C hz0 hU hS hI rfl (Or.inl rfl) k_15 (fun _ => rfl) (by decide) ac_int (by decide) (by decide) (by decide) (Nat.le_of_ble_eq_true rfl) (Nat.le_of_ble_eq_true rfl) dX12_init_166 (fun al1 iv1 rv1 H a hU hS hI ha hi ei => ?_)
  have hV : KVL [(3, 9, 9), (3, 8, 8), (3, 7, 7), (3, 6, 6), (3, 5, 5), (3, 4, 4), (3, 3, 3), (3, 2, 2), (3, 1, 1), (3, 0, 0)] iv1 := by rw [ei]; exact hV.nw (by decide)
  clear ei
  rw [zi] at ha hi
  clear zi
  refine W.widen (k := 15) (n := 534) (Nat.le_of_ble_eq_true rfl) (Nat.le_of_ble_eq_true rfl) ?_
  refine lv_dup hx hb dX12_init_168 rfl ?_
  refine lv_iconst (v := 0) hx hb dX12_init_169 (by decide) ?_
  refine lv_bipush (v := 30) hx hb dX12_init_170 (by decide) ?_
  refine q_is2 (t := 15) (i := 0) C hU hS hI k_15 (fun _ => rfl) ha hi (x := 0) (ix_in (by decide) (by decide)) (fun _ => Or.inl (by decide)) (fun _ => ⟨show (0 : Int) ≤ _ by decide, show _ ≤ (900 : Int) by decide⟩) dX12_init_172 (fun iv1 H locs hU hS hI ei => ?_)
  have hV : KVL [(15, 0, 30), (3, 9, 9), (3, 8, 8), (3, 7, 7), (3, 6, 6), (3, 5, 5), (3, 4, 4), (3, 3, 3), (3, 2, 2), (3, 1, 1), (3, 0, 0)] iv1 := by rw [ei]; exact hV.up (by decide) (by decide)
  clear ei
  refine lv_dup hx hb dX12_init_173 rfl ?_
  refine lv_iconst (v := 1) hx hb dX12_init_174 (by decide) ?_
  refine lv_bipush (v := 60) hx hb dX12_init_175 (by decide) ?_
  refine q_is2 (t := 15) (i := 0) C hU hS hI k_15 (fun _ => rfl) ha hi (x := 1) (ix_in (by decide) (by decide)) (fun _ => Or.inl (by decide)) (fun _ => ⟨show (0 : Int) ≤ _ by decide, show _ ≤ (900 : Int) by decide⟩) dX12_init_177 (fun iv1 H locs hU hS hI ei => ?_)
  have hV : KVL [(15, 1, 60), (15, 0, 30), (3, 9, 9), (3, 8, 8), (3, 7, 7), (3, 6, 6), (3, 5, 5), (3, 4, 4), (3, 3, 3), (3, 2, 2), (3, 1, 1), (3, 0, 0)] iv1 := by rw [ei]; exact hV.up (by decide) (by decide)
  clear ei
  refine lv_dup hx hb dX12_init_178 rfl ?_
  refine lv_iconst (v := 2) hx hb dX12_init_179 (by decide) ?_
  refine lv_bipush (v := 45) hx hb dX12_init_180 (by decide) ?_
  refine q_is2 (t := 15) (i := 0) C hU hS hI k_15 (fun _ => rfl) ha hi (x := 2) (ix_in (by decide) (by decide)) (fun _ => Or.inl (by decide)) (fun _ => ⟨show (0 : Int) ≤ _ by decide, show _ ≤ (900 : Int) by decide⟩) dX12_init_182 (fun iv1 H locs hU hS hI ei => ?_)
  have hV : KVL [(15, 2, 45), (15, 1, 60), (15, 0, 30), (3, 9, 9), (3, 8, 8), (3, 7, 7), (3, 6, 6), (3, 5, 5), (3, 4, 4), (3, 3, 3), (3, 2, 2), (3, 1, 1), (3, 0, 0)] iv1 := by rw [ei]; exact hV.up (by decide) (by decide)
  clear ei
  refine lv_dup hx hb dX12_init_183 rfl ?_
  refine lv_iconst (v := 3) hx hb dX12_init_184 (by decide) ?_
  refine lv_iconst (v := 5) hx hb dX12_init_185 (by decide) ?_
  refine q_is2 (t := 15) (i := 0) C hU hS hI k_15 (fun _ => rfl) ha hi (x := 3) (ix_in (by decide) (by decide)) (fun _ => Or.inl (by decide)) (fun _ => ⟨show (0 : Int) ≤ _ by decide, show _ ≤ (900 : Int) by decide⟩) dX12_init_186 (fun iv1 H locs hU hS hI ei => ?_)
  have hV : KVL [(15, 3, 5), (15, 2, 45), (15, 1, 60), (15, 0, 30), (3, 9, 9), (3, 8, 8), (3, 7, 7), (3, 6, 6), (3, 5, 5), (3, 4, 4), (3, 3, 3), (3, 2, 2), (3, 1, 1), (3, 0, 0)] iv1 := by rw [ei]; exact hV.up (by decide) (by decide)
  clear ei
  refine q_rp (t0 := 0) (t := 15) (k := 17) C hnm hU hS hI k_0 (hc := rfl) uwX12 tyX12 tyX12_ok nmX12 (by decide) rfl rfl rfl (by decide) fl_X12_53 (fun _ => rfl) (fun _ => rfl) ha hi dX12_init_187 (fun rv1 H locs hU hS hI => ?_)
  clear ha hi
  refine lv_aload_n hx hb dX12_init_190 rfl (lv_at hl 0 rfl) ?_
  refine lv_bipush (v := 7) hx hb dX12_init_191 (by decide) ?_
  refine q_ra2 (t := 16) (ty := .int) C hz0 hU hS hI rfl (Or.inl rfl) k_16 (fun _ => rfl) (by decide) ac_int (by decide) (by decide) (by decide) (Nat.le_of_ble_eq_true rfl) (Nat.le_of_ble_eq_true rfl) dX12_init_193 (fun al1 iv1 rv1 H a hU hS hI ha hi ei => ?_)
  have hV : KVL [(15, 3, 5), (15, 2, 45), (15, 1, 60), (15, 0, 30), (3, 9, 9), (3, 8, 8), (3, 7, 7), (3, 6, 6), (3, 5, 5), (3, 4, 4), (3, 3, 3), (3, 2, 2), (3, 1, 1), (3, 0, 0)] iv1 := by rw [ei]; exact hV.nw (by decide)
  clear ei
  refine W.widen (k := 16) (n := 541) (Nat.le_of_ble_eq_true rfl) (Nat.le_of_ble_eq_true rfl) ?_
  refine q_rp (t0 := 0) (t := 16) (k := 18) C hnm hU hS hI k_0 (hc := rfl) uwX12 tyX12 tyX12_ok nmX12 (by decide) rfl rfl rfl (by decide) fl_X12_56 (fun _ => rfl) (fun _ => rfl) ha hi dX12_init_195 (fun rv1 H locs hU hS hI => ?_)
  clear ha hi
  refine lv_aload_n hx hb dX12_init_198 rfl (lv_at hl 0 rfl) ?_
  refine lv_bipush (v := 6) hx hb dX12_init_199 (by decide) ?_
  refine q_ra2 (t := 17) (ty := .int) C hz0 hU hS hI rfl (Or.inl rfl) k_17 (fun _ => rfl) (by decide) ac_int (by decide) (by decide) (by decide) (Nat.le_of_ble_eq_true rfl) (Nat.le_of_ble_eq_true rfl) dX12_init_201 (fun al1 iv1 rv1 H a hU hS hI ha hi ei => ?_)
  have hV : KVL [(15, 3, 5), (15, 2, 45), (15, 1, 60), (15, 0, 30), (3, 9, 9), (3, 8, 8), (3, 7, 7), (3, 6, 6), (3, 5, 5), (3, 4, 4), (3, 3, 3), (3, 2, 2), (3, 1, 1), (3, 0, 0)] iv1 := by rw [ei]; exact hV.nw (by decide)
  clear ei
  refine W.widen (k := 17) (n := 547) (Nat.le_of_ble_eq_true rfl) (Nat.le_of_ble_eq_true rfl) ?_
  refine q_rp (t0 := 0) (t := 17) (k := 19) C hnm hU hS hI k_0 (hc := rfl) uwX12 tyX12 tyX12_ok nmX12 (by decide) rfl rfl rfl (by decide) fl_X12_59 (fun _ => rfl) (fun _ => rfl) ha hi dX12_init_203 (fun rv1 H locs hU hS hI => ?_)
  clear ha hi
  refine lv_aload_n hx hb dX12_init_206 rfl (lv_at hl 0 rfl) ?_
  refine lv_bipush (v := 80) hx hb dX12_init_207 (by decide) ?_
  refine q_ra2 (t := 18) (ty := .int) C hz0 hU hS hI rfl (Or.inl rfl) k_18 (fun _ => rfl) (by decide) ac_int (by decide) (by decide) (by decide) (Nat.le_of_ble_eq_true rfl) (Nat.le_of_ble_eq_true rfl) dX12_init_209 (fun al1 iv1 rv1 H a hU hS hI ha hi ei => ?_)
  have hV : KVL [(15, 3, 5), (15, 2, 45), (15, 1, 60), (15, 0, 30), (3, 9, 9), (3, 8, 8), (3, 7, 7), (3, 6, 6), (3, 5, 5), (3, 4, 4), (3, 3, 3), (3, 2, 2), (3, 1, 1), (3, 0, 0)] iv1 := by rw [ei]; exact hV.nw (by decide)
  clear ei
  refine W.widen (k := 18) (n := 627) (Nat.le_of_ble_eq_true rfl) (Nat.le_of_ble_eq_true rfl) ?_
  refine q_rp (t0 := 0) (t := 18) (k := 21) C hnm hU hS hI k_0 (hc := rfl) uwX12 tyX12 tyX12_ok nmX12 (by decide) rfl rfl rfl (by decide) fl_X12_62 (fun _ => rfl) (fun _ => rfl) ha hi dX12_init_211 (fun rv1 H locs hU hS hI => ?_)
  clear ha hi
  refine lv_aload_n hx hb dX12_init_214 rfl (lv_at hl 0 rfl) ?_
  refine lv_bipush (v := 20) hx hb dX12_init_215 (by decide) ?_
  refine q_ra2 (t := 19) (ty := .int) C hz0 hU hS hI rfl (Or.inl rfl) k_19 (fun _ => rfl) (by decide) ac_int (by decide) (by decide) (by decide) (Nat.le_of_ble_eq_true rfl) (Nat.le_of_ble_eq_true rfl) dX12_init_217 (fun al1 iv1 rv1 H a hU hS hI ha hi ei => ?_)
  have hV : KVL [(15, 3, 5), (15, 2, 45), (15, 1, 60), (15, 0, 30), (3, 9, 9), (3, 8, 8), (3, 7, 7), (3, 6, 6), (3, 5, 5), (3, 4, 4), (3, 3, 3), (3, 2, 2), (3, 1, 1), (3, 0, 0)] iv1 := by rw [ei]; exact hV.nw (by decide)
  clear ei
  refine W.widen (k := 19) (n := 647) (Nat.le_of_ble_eq_true rfl) (Nat.le_of_ble_eq_true rfl) ?_
  refine q_rp (t0 := 0) (t := 19) (k := 22) C hnm hU hS hI k_0 (hc := rfl) uwX12 tyX12 tyX12_ok nmX12 (by decide) rfl rfl rfl (by decide) fl_X12_65 (fun _ => rfl) (fun _ => rfl) ha hi dX12_init_219 (fun rv1 H locs hU hS hI => ?_)
  clear ha hi
  refine lv_aload_n hx hb dX12_init_222 rfl (lv_at hl 0 rfl) ?_
  refine lv_bipush (v := 40) hx hb dX12_init_223 (by decide) ?_
  refine q_ra2 (t := 20) (ty := .boolean) C hz0 hU hS hI rfl (Or.inr rfl) k_20 (fun _ => rfl) (by decide) ac_boolean (by decide) (by decide) (by decide) (Nat.le_of_ble_eq_true rfl) (Nat.le_of_ble_eq_true rfl) dX12_init_225 (fun al1 iv1 rv1 H a hU hS hI ha hi ei => ?_)
  have hV : KVL [(15, 3, 5), (15, 2, 45), (15, 1, 60), (15, 0, 30), (3, 9, 9), (3, 8, 8), (3, 7, 7), (3, 6, 6), (3, 5, 5), (3, 4, 4), (3, 3, 3), (3, 2, 2), (3, 1, 1), (3, 0, 0)] iv1 := by rw [ei]; exact hV.nw (by decide)
  clear ei
  refine W.widen (k := 20) (n := 687) (Nat.le_of_ble_eq_true rfl) (Nat.le_of_ble_eq_true rfl) ?_
  refine q_rp (t0 := 0) (t := 20) (k := 23) C hnm hU hS hI k_0 (hc := rfl) uwX12 tyX12 tyX12_ok nmX12 (by decide) rfl rfl rfl (by decide) fl_X12_68 (fun _ => rfl) (fun _ => rfl) ha hi dX12_init_227 (fun rv1 H locs hU hS hI => ?_)
  clear ha hi
  refine lv_aload_n hx hb dX12_init_230 rfl (lv_at hl 0 rfl) ?_
  refine lv_bipush (v := 30) hx hb dX12_init_231 (by decide) ?_
  refine q_ra2 (t := 21) (ty := .int) C hz0 hU hS hI rfl (Or.inl rfl) k_21 (fun _ => rfl) (by decide) ac_int (by decide) (by decide) (by decide) (Nat.le_of_ble_eq_true rfl) (Nat.le_of_ble_eq_true rfl) dX12_init_233 (fun al1 iv1 rv1 H a hU hS hI ha hi ei => ?_)
  have hV : KVL [(15, 3, 5), (15, 2, 45), (15, 1, 60), (15, 0, 30), (3, 9, 9), (3, 8, 8), (3, 7, 7), (3, 6, 6), (3, 5, 5), (3, 4, 4), (3, 3, 3), (3, 2, 2), (3, 1, 1), (3, 0, 0)] iv1 := by rw [ei]; exact hV.nw (by decide)
  clear ei
  refine W.widen (k := 21) (n := 717) (Nat.le_of_ble_eq_true rfl) (Nat.le_of_ble_eq_true rfl) ?_
  refine q_rp (t0 := 0) (t := 21) (k := 25) C hnm hU hS hI k_0 (hc := rfl) uwX12 tyX12 tyX12_ok nmX12 (by decide) rfl rfl rfl (by decide) fl_X12_71 (fun _ => rfl) (fun _ => rfl) ha hi dX12_init_235 (fun rv1 H locs hU hS hI => ?_)
  clear ha hi
  refine lv_aload_n hx hb dX12_init_238 rfl (lv_at hl 0 rfl) ?_
  refine lv_bipush (v := 30) hx hb dX12_init_239 (by decide) ?_
  refine q_ra2 (t := 22) (ty := .int) C hz0 hU hS hI rfl (Or.inl rfl) k_22 (fun _ => rfl) (by decide) ac_int (by decide) (by decide) (by decide) (Nat.le_of_ble_eq_true rfl) (Nat.le_of_ble_eq_true rfl) dX12_init_241 (fun al1 iv1 rv1 H a hU hS hI ha hi ei => ?_)
  have hV : KVL [(15, 3, 5), (15, 2, 45), (15, 1, 60), (15, 0, 30), (3, 9, 9), (3, 8, 8), (3, 7, 7), (3, 6, 6), (3, 5, 5), (3, 4, 4), (3, 3, 3), (3, 2, 2), (3, 1, 1), (3, 0, 0)] iv1 := by rw [ei]; exact hV.nw (by decide)
  clear ei
  refine W.widen (k := 22) (n := 747) (Nat.le_of_ble_eq_true rfl) (Nat.le_of_ble_eq_true rfl) ?_
  refine q_rp (t0 := 0) (t := 22) (k := 26) C hnm hU hS hI k_0 (hc := rfl) uwX12 tyX12 tyX12_ok nmX12 (by decide) rfl rfl rfl (by decide) fl_X12_74 (fun _ => rfl) (fun _ => rfl) ha hi dX12_init_243 (fun rv1 H locs hU hS hI => ?_)
  clear ha hi
  refine lv_aload_n hx hb dX12_init_246 rfl (lv_at hl 0 rfl) ?_
  refine lv_bipush (v := 30) hx hb dX12_init_247 (by decide) ?_
  refine q_ra2 (t := 23) (ty := .int) C hz0 hU hS hI rfl (Or.inl rfl) k_23 (fun _ => rfl) (by decide) ac_int (by decide) (by decide) (by decide) (Nat.le_of_ble_eq_true rfl) (Nat.le_of_ble_eq_true rfl) dX12_init_249 (fun al1 iv1 rv1 H a hU hS hI ha hi ei => ?_)
  have hV : KVL [(15, 3, 5), (15, 2, 45), (15, 1, 60), (15, 0, 30), (3, 9, 9), (3, 8, 8), (3, 7, 7), (3, 6, 6), (3, 5, 5), (3, 4, 4), (3, 3, 3), (3, 2, 2), (3, 1, 1), (3, 0, 0)] iv1 := by rw [ei]; exact hV.nw (by decide)
  clear ei
  refine W.widen (k := 23) (n := 777) (Nat.le_of_ble_eq_true rfl) (Nat.le_of_ble_eq_true rfl) ?_
  refine q_rp (t0 := 0) (t := 23) (k := 27) C hnm hU hS hI k_0 (hc := rfl) uwX12 tyX12 tyX12_ok nmX12 (by decide) rfl rfl rfl (by decide) fl_X12_77 (fun _ => rfl) (fun _ => rfl) ha hi dX12_init_251 (fun rv1 H locs hU hS hI => ?_)
  clear ha hi
  refine lv_aload_n hx hb dX12_init_254 rfl (lv_at hl 0 rfl) ?_
  refine lv_bipush (v := 30) hx hb dX12_init_255 (by decide) ?_
  refine q_ra2 (t := 24) (ty := .int) C hz0 hU hS hI rfl (Or.inl rfl) k_24 (fun _ => rfl) (by decide) ac_int (by decide) (by decide) (by decide) (Nat.le_of_ble_eq_true rfl) (Nat.le_of_ble_eq_true rfl) dX12_init_257 (fun al1 iv1 rv1 H a hU hS hI ha hi ei => ?_)
  have hV : KVL [(15, 3, 5), (15, 2, 45), (15, 1, 60), (15, 0, 30), (3, 9, 9), (3, 8, 8), (3, 7, 7), (3, 6, 6), (3, 5, 5), (3, 4, 4), (3, 3, 3), (3, 2, 2), (3, 1, 1), (3, 0, 0)] iv1 := by rw [ei]; exact hV.nw (by decide)
  clear ei
  refine W.widen (k := 24) (n := 807) (Nat.le_of_ble_eq_true rfl) (Nat.le_of_ble_eq_true rfl) ?_
  refine q_rp (t0 := 0) (t := 24) (k := 28) C hnm hU hS hI k_0 (hc := rfl) uwX12 tyX12 tyX12_ok nmX12 (by decide) rfl rfl rfl (by decide) fl_X12_80 (fun _ => rfl) (fun _ => rfl) ha hi dX12_init_259 (fun rv1 H locs hU hS hI => ?_)
  clear ha hi
  refine lv_aload_n hx hb dX12_init_262 rfl (lv_at hl 0 rfl) ?_
  refine lv_bipush (v := 30) hx hb dX12_init_263 (by decide) ?_
  refine q_ra2 (t := 25) (ty := .int) C hz0 hU hS hI rfl (Or.inl rfl) k_25 (fun _ => rfl) (by decide) ac_int (by decide) (by decide) (by decide) (Nat.le_of_ble_eq_true rfl) (Nat.le_of_ble_eq_true rfl) dX12_init_265 (fun al1 iv1 rv1 H a hU hS hI ha hi ei => ?_)
  have hV : KVL [(15, 3, 5), (15, 2, 45), (15, 1, 60), (15, 0, 30), (3, 9, 9), (3, 8, 8), (3, 7, 7), (3, 6, 6), (3, 5, 5), (3, 4, 4), (3, 3, 3), (3, 2, 2), (3, 1, 1), (3, 0, 0)] iv1 := by rw [ei]; exact hV.nw (by decide)
  clear ei
  refine W.widen (k := 25) (n := 837) (Nat.le_of_ble_eq_true rfl) (Nat.le_of_ble_eq_true rfl) ?_
  refine q_rp (t0 := 0) (t := 25) (k := 29) C hnm hU hS hI k_0 (hc := rfl) uwX12 tyX12 tyX12_ok nmX12 (by decide) rfl rfl rfl (by decide) fl_X12_83 (fun _ => rfl) (fun _ => rfl) ha hi dX12_init_267 (fun rv1 H locs hU hS hI => ?_)
  clear ha hi
  refine lv_aload_n hx hb dX12_init_270 rfl (lv_at hl 0 rfl) ?_
  refine lv_bipush (v := 40) hx hb dX12_init_271 (by decide) ?_
  refine q_ra2 (t := 26) (ty := .int) C hz0 hU hS hI rfl (Or.inl rfl) k_26 (fun _ => rfl) (by decide) ac_int (by decide) (by decide) (by decide) (Nat.le_of_ble_eq_true rfl) (Nat.le_of_ble_eq_true rfl) dX12_init_273 (fun al1 iv1 rv1 H a hU hS hI ha hi ei => ?_)
  have hV : KVL [(15, 3, 5), (15, 2, 45), (15, 1, 60), (15, 0, 30), (3, 9, 9), (3, 8, 8), (3, 7, 7), (3, 6, 6), (3, 5, 5), (3, 4, 4), (3, 3, 3), (3, 2, 2), (3, 1, 1), (3, 0, 0)] iv1 := by rw [ei]; exact hV.nw (by decide)
  clear ei
  refine W.widen (k := 26) (n := 877) (Nat.le_of_ble_eq_true rfl) (Nat.le_of_ble_eq_true rfl) ?_
  refine q_rp (t0 := 0) (t := 26) (k := 31) C hnm hU hS hI k_0 (hc := rfl) uwX12 tyX12 tyX12_ok nmX12 (by decide) rfl rfl rfl (by decide) fl_X12_86 (fun _ => rfl) (fun _ => rfl) ha hi dX12_init_275 (fun rv1 H locs hU hS hI => ?_)
  clear ha hi
  refine lv_aload_n hx hb dX12_init_278 rfl (lv_at hl 0 rfl) ?_
  refine lv_bipush (v := 40) hx hb dX12_init_279 (by decide) ?_
  refine q_ra2 (t := 27) (ty := .int) C hz0 hU hS hI rfl (Or.inl rfl) k_27 (fun _ => rfl) (by decide) ac_int (by decide) (by decide) (by decide) (Nat.le_of_ble_eq_true rfl) (Nat.le_of_ble_eq_true rfl) dX12_init_281 (fun al1 iv1 rv1 H a hU hS hI ha hi ei => ?_)
  have hV : KVL [(15, 3, 5), (15, 2, 45), (15, 1, 60), (15, 0, 30), (3, 9, 9), (3, 8, 8), (3, 7, 7), (3, 6, 6), (3, 5, 5), (3, 4, 4), (3, 3, 3), (3, 2, 2), (3, 1, 1), (3, 0, 0)] iv1 := by rw [ei]; exact hV.nw (by decide)
  clear ei
  refine W.widen (k := 27) (n := 917) (Nat.le_of_ble_eq_true rfl) (Nat.le_of_ble_eq_true rfl) ?_
  refine q_rp (t0 := 0) (t := 27) (k := 32) C hnm hU hS hI k_0 (hc := rfl) uwX12 tyX12 tyX12_ok nmX12 (by decide) rfl rfl rfl (by decide) fl_X12_89 (fun _ => rfl) (fun _ => rfl) ha hi dX12_init_283 (fun rv1 H locs hU hS hI => ?_)
  clear ha hi
  refine lv_aload_n hx hb dX12_init_286 rfl (lv_at hl 0 rfl) ?_
  refine lv_bipush (v := 40) hx hb dX12_init_287 (by decide) ?_
  refine q_ra2 (t := 28) (ty := .int) C hz0 hU hS hI rfl (Or.inl rfl) k_28 (fun _ => rfl) (by decide) ac_int (by decide) (by decide) (by decide) (Nat.le_of_ble_eq_true rfl) (Nat.le_of_ble_eq_true rfl) dX12_init_289 (fun al1 iv1 rv1 H a hU hS hI ha hi ei => ?_)
  have hV : KVL [(15, 3, 5), (15, 2, 45), (15, 1, 60), (15, 0, 30), (3, 9, 9), (3, 8, 8), (3, 7, 7), (3, 6, 6), (3, 5, 5), (3, 4, 4), (3, 3, 3), (3, 2, 2), (3, 1, 1), (3, 0, 0)] iv1 := by rw [ei]; exact hV.nw (by decide)
  clear ei
  refine W.widen (k := 28) (n := 957) (Nat.le_of_ble_eq_true rfl) (Nat.le_of_ble_eq_true rfl) ?_
  refine q_rp (t0 := 0) (t := 28) (k := 33) C hnm hU hS hI k_0 (hc := rfl) uwX12 tyX12 tyX12_ok nmX12 (by decide) rfl rfl rfl (by decide) fl_X12_92 (fun _ => rfl) (fun _ => rfl) ha hi dX12_init_291 (fun rv1 H locs hU hS hI => ?_)
  clear ha hi
  refine lv_aload_n hx hb dX12_init_294 rfl (lv_at hl 0 rfl) ?_
  refine lv_bipush (v := 40) hx hb dX12_init_295 (by decide) ?_
  refine q_ra2 (t := 29) (ty := .int) C hz0 hU hS hI rfl (Or.inl rfl) k_29 (fun _ => rfl) (by decide) ac_int (by decide) (by decide) (by decide) (Nat.le_of_ble_eq_true rfl) (Nat.le_of_ble_eq_true rfl) dX12_init_297 (fun al1 iv1 rv1 H a hU hS hI ha hi ei => ?_)
  have hV : KVL [(15, 3, 5), (15, 2, 45), (15, 1, 60), (15, 0, 30), (3, 9, 9), (3, 8, 8), (3, 7, 7), (3, 6, 6), (3, 5, 5), (3, 4, 4), (3, 3, 3), (3, 2, 2), (3, 1, 1), (3, 0, 0)] iv1 := by rw [ei]; exact hV.nw (by decide)
  clear ei
  refine W.widen (k := 29) (n := 997) (Nat.le_of_ble_eq_true rfl) (Nat.le_of_ble_eq_true rfl) ?_
  refine q_rp (t0 := 0) (t := 29) (k := 34) C hnm hU hS hI k_0 (hc := rfl) uwX12 tyX12 tyX12_ok nmX12 (by decide) rfl rfl rfl (by decide) fl_X12_95 (fun _ => rfl) (fun _ => rfl) ha hi dX12_init_299 (fun rv1 H locs hU hS hI => ?_)
  clear ha hi
  refine lv_aload_n hx hb dX12_init_302 rfl (lv_at hl 0 rfl) ?_
  refine lv_bipush (v := 40) hx hb dX12_init_303 (by decide) ?_
  refine q_ra2 (t := 30) (ty := .boolean) C hz0 hU hS hI rfl (Or.inr rfl) k_30 (fun _ => rfl) (by decide) ac_boolean (by decide) (by decide) (by decide) (Nat.le_of_ble_eq_true rfl) (Nat.le_of_ble_eq_true rfl) dX12_init_305 (fun al1 iv1 rv1 H a hU hS hI ha hi ei => ?_)
  have hV : KVL [(15, 3, 5), (15, 2, 45), (15, 1, 60), (15, 0, 30), (3, 9, 9), (3, 8, 8), (3, 7, 7), (3, 6, 6), (3, 5, 5), (3, 4, 4), (3, 3, 3), (3, 2, 2), (3, 1, 1), (3, 0, 0)] iv1 := by rw [ei]; exact hV.nw (by decide)
  clear ei
  refine W.widen (k := 30) (n := 1037) (Nat.le_of_ble_eq_true rfl) (Nat.le_of_ble_eq_true rfl) ?_
  refine q_rp (t0 := 0) (t := 30) (k := 35) C hnm hU hS hI k_0 (hc := rfl) uwX12 tyX12 tyX12_ok nmX12 (by decide) rfl rfl rfl (by decide) fl_X12_98 (fun _ => rfl) (fun _ => rfl) ha hi dX12_init_307 (fun rv1 H locs hU hS hI => ?_)
  clear ha hi
  refine lv_aload_n hx hb dX12_init_310 rfl (lv_at hl 0 rfl) ?_
  refine lv_iconst (v := 4) hx hb dX12_init_311 (by decide) ?_
  refine q_ra2 (t := 31) (ty := .int) C hz0 hU hS hI rfl (Or.inl rfl) k_31 (fun _ => rfl) (by decide) ac_int (by decide) (by decide) (by decide) (Nat.le_of_ble_eq_true rfl) (Nat.le_of_ble_eq_true rfl) dX12_init_312 (fun al1 iv1 rv1 H a hU hS hI ha hi ei => ?_)
  have hV : KVL [(15, 3, 5), (15, 2, 45), (15, 1, 60), (15, 0, 30), (3, 9, 9), (3, 8, 8), (3, 7, 7), (3, 6, 6), (3, 5, 5), (3, 4, 4), (3, 3, 3), (3, 2, 2), (3, 1, 1), (3, 0, 0)] iv1 := by rw [ei]; exact hV.nw (by decide)
  clear ei
  refine W.widen (k := 31) (n := 1041) (Nat.le_of_ble_eq_true rfl) (Nat.le_of_ble_eq_true rfl) ?_
  refine q_rp (t0 := 0) (t := 31) (k := 36) C hnm hU hS hI k_0 (hc := rfl) uwX12 tyX12 tyX12_ok nmX12 (by decide) rfl rfl rfl (by decide) fl_X12_101 (fun _ => rfl) (fun _ => rfl) ha hi dX12_init_314 (fun rv1 H locs hU hS hI => ?_)
  clear ha hi
  refine lv_aload_n hx hb dX12_init_317 rfl (lv_at hl 0 rfl) ?_
  refine lv_bipush (v := 20) hx hb dX12_init_318 (by decide) ?_
  refine q_ra2 (t := 32) (ty := .int) C hz0 hU hS hI rfl (Or.inl rfl) k_32 (fun _ => rfl) (by decide) ac_int (by decide) (by decide) (by decide) (Nat.le_of_ble_eq_true rfl) (Nat.le_of_ble_eq_true rfl) dX12_init_320 (fun al1 iv1 rv1 H a hU hS hI ha hi ei => ?_)
  have hV : KVL [(15, 3, 5), (15, 2, 45), (15, 1, 60), (15, 0, 30), (3, 9, 9), (3, 8, 8), (3, 7, 7), (3, 6, 6), (3, 5, 5), (3, 4, 4), (3, 3, 3), (3, 2, 2), (3, 1, 1), (3, 0, 0)] iv1 := by rw [ei]; exact hV.nw (by decide)
  clear ei
  refine W.widen (k := 32) (n := 1061) (Nat.le_of_ble_eq_true rfl) (Nat.le_of_ble_eq_true rfl) ?_
  refine q_rp (t0 := 0) (t := 32) (k := 38) C hnm hU hS hI k_0 (hc := rfl) uwX12 tyX12 tyX12_ok nmX12 (by decide) rfl rfl rfl (by decide) fl_X12_104 (fun _ => rfl) (fun _ => rfl) ha hi dX12_init_322 (fun rv1 H locs hU hS hI => ?_)
  clear ha hi
  refine lv_aload_n hx hb dX12_init_325 rfl (lv_at hl 0 rfl) ?_
  refine lv_bipush (v := 20) hx hb dX12_init_326 (by decide) ?_
  refine q_ra2 (t := 33) (ty := .int) C hz0 hU hS hI rfl (Or.inl rfl) k_33 (fun _ => rfl) (by decide) ac_int (by decide) (by decide) (by decide) (Nat.le_of_ble_eq_true rfl) (Nat.le_of_ble_eq_true rfl) dX12_init_328 (fun al1 iv1 rv1 H a hU hS hI ha hi ei => ?_)
  have hV : KVL [(15, 3, 5), (15, 2, 45), (15, 1, 60), (15, 0, 30), (3, 9, 9), (3, 8, 8), (3, 7, 7), (3, 6, 6), (3, 5, 5), (3, 4, 4), (3, 3, 3), (3, 2, 2), (3, 1, 1), (3, 0, 0)] iv1 := by rw [ei]; exact hV.nw (by decide)
  clear ei
  refine W.widen (k := 33) (n := 1081) (Nat.le_of_ble_eq_true rfl) (Nat.le_of_ble_eq_true rfl) ?_
  refine q_rp (t0 := 0) (t := 33) (k := 39) C hnm hU hS hI k_0 (hc := rfl) uwX12 tyX12 tyX12_ok nmX12 (by decide) rfl rfl rfl (by decide) fl_X12_107 (fun _ => rfl) (fun _ => rfl) ha hi dX12_init_330 (fun rv1 H locs hU hS hI => ?_)
  clear ha hi
  refine lv_aload_n hx hb dX12_init_333 rfl (lv_at hl 0 rfl) ?_
  refine lv_bipush (v := 20) hx hb dX12_init_334 (by decide) ?_
  refine q_ra2 (t := 34) (ty := .int) C hz0 hU hS hI rfl (Or.inl rfl) k_34 (fun _ => rfl) (by decide) ac_int (by decide) (by decide) (by decide) (Nat.le_of_ble_eq_true rfl) (Nat.le_of_ble_eq_true rfl) dX12_init_336 (fun al1 iv1 rv1 H a hU hS hI ha hi ei => ?_)
  have hV : KVL [(15, 3, 5), (15, 2, 45), (15, 1, 60), (15, 0, 30), (3, 9, 9), (3, 8, 8), (3, 7, 7), (3, 6, 6), (3, 5, 5), (3, 4, 4), (3, 3, 3), (3, 2, 2), (3, 1, 1), (3, 0, 0)] iv1 := by rw [ei]; exact hV.nw (by decide)
  clear ei
  refine W.widen (k := 34) (n := 1101) (Nat.le_of_ble_eq_true rfl) (Nat.le_of_ble_eq_true rfl) ?_
  refine q_rp (t0 := 0) (t := 34) (k := 40) C hnm hU hS hI k_0 (hc := rfl) uwX12 tyX12 tyX12_ok nmX12 (by decide) rfl rfl rfl (by decide) fl_X12_110 (fun _ => rfl) (fun _ => rfl) ha hi dX12_init_338 (fun rv1 H locs hU hS hI => ?_)
  clear ha hi
  refine lv_aload_n hx hb dX12_init_341 rfl (lv_at hl 0 rfl) ?_
  refine lv_bipush (v := 30) hx hb dX12_init_342 (by decide) ?_
  refine q_ra2 (t := 35) (ty := .int) C hz0 hU hS hI rfl (Or.inl rfl) k_35 (fun _ => rfl) (by decide) ac_int (by decide) (by decide) (by decide) (Nat.le_of_ble_eq_true rfl) (Nat.le_of_ble_eq_true rfl) dX12_init_344 (fun al1 iv1 rv1 H a hU hS hI ha hi ei => ?_)
  have hV : KVL [(15, 3, 5), (15, 2, 45), (15, 1, 60), (15, 0, 30), (3, 9, 9), (3, 8, 8), (3, 7, 7), (3, 6, 6), (3, 5, 5), (3, 4, 4), (3, 3, 3), (3, 2, 2), (3, 1, 1), (3, 0, 0)] iv1 := by rw [ei]; exact hV.nw (by decide)
  clear ei
  refine W.widen (k := 35) (n := 1131) (Nat.le_of_ble_eq_true rfl) (Nat.le_of_ble_eq_true rfl) ?_
  refine q_rp (t0 := 0) (t := 35) (k := 42) C hnm hU hS hI k_0 (hc := rfl) uwX12 tyX12 tyX12_ok nmX12 (by decide) rfl rfl rfl (by decide) fl_X12_113 (fun _ => rfl) (fun _ => rfl) ha hi dX12_init_346 (fun rv1 H locs hU hS hI => ?_)
  clear ha hi
  refine lv_aload_n hx hb dX12_init_349 rfl (lv_at hl 0 rfl) ?_
  refine lv_bipush (v := 30) hx hb dX12_init_350 (by decide) ?_
  refine q_ra2 (t := 36) (ty := .int) C hz0 hU hS hI rfl (Or.inl rfl) k_36 (fun _ => rfl) (by decide) ac_int (by decide) (by decide) (by decide) (Nat.le_of_ble_eq_true rfl) (Nat.le_of_ble_eq_true rfl) dX12_init_352 (fun al1 iv1 rv1 H a hU hS hI ha hi ei => ?_)
  have hV : KVL [(15, 3, 5), (15, 2, 45), (15, 1, 60), (15, 0, 30), (3, 9, 9), (3, 8, 8), (3, 7, 7), (3, 6, 6), (3, 5, 5), (3, 4, 4), (3, 3, 3), (3, 2, 2), (3, 1, 1), (3, 0, 0)] iv1 := by rw [ei]; exact hV.nw (by decide)
  clear ei
  refine W.widen (k := 36) (n := 1161) (Nat.le_of_ble_eq_true rfl) (Nat.le_of_ble_eq_true rfl) ?_
  refine q_rp (t0 := 0) (t := 36) (k := 43) C hnm hU hS hI k_0 (hc := rfl) uwX12 tyX12 tyX12_ok nmX12 (by decide) rfl rfl rfl (by decide) fl_X12_116 (fun _ => rfl) (fun _ => rfl) ha hi dX12_init_354 (fun rv1 H locs hU hS hI => ?_)
  clear ha hi
  refine lv_aload_n hx hb dX12_init_357 rfl (lv_at hl 0 rfl) ?_
  refine lv_bipush (v := 100) hx hb dX12_init_358 (by decide) ?_
  refine q_ra2 (t := 37) (ty := .int) C hz0 hU hS hI rfl (Or.inl rfl) k_37 (fun _ => rfl) (by decide) ac_int (by decide) (by decide) (by decide) (Nat.le_of_ble_eq_true rfl) (Nat.le_of_ble_eq_true rfl) dX12_init_360 (fun al1 iv1 rv1 H a hU hS hI ha hi ei => ?_)
  have hV : KVL [(15, 3, 5), (15, 2, 45), (15, 1, 60), (15, 0, 30), (3, 9, 9), (3, 8, 8), (3, 7, 7), (3, 6, 6), (3, 5, 5), (3, 4, 4), (3, 3, 3), (3, 2, 2), (3, 1, 1), (3, 0, 0)] iv1 := by rw [ei]; exact hV.nw (by decide)
  clear ei
  refine W.widen (k := 37) (n := 1261) (Nat.le_of_ble_eq_true rfl) (Nat.le_of_ble_eq_true rfl) ?_
  refine q_rp (t0 := 0) (t := 37) (k := 44) C hnm hU hS hI k_0 (hc := rfl) uwX12 tyX12 tyX12_ok nmX12 (by decide) rfl rfl rfl (by decide) fl_X12_119 (fun _ => rfl) (fun _ => rfl) ha hi dX12_init_362 (fun rv1 H locs hU hS hI => ?_)
  clear ha hi
  refine lv_aload_n hx hb dX12_init_365 rfl (lv_at hl 0 rfl) ?_
  refine lv_sipush (v := 150) hx hb dX12_init_366 (by decide) ?_
  refine q_ra2 (t := 38) (ty := .int) C hz0 hU hS hI rfl (Or.inl rfl) k_38 (fun _ => rfl) (by decide) ac_int (by decide) (by decide) (by decide) (Nat.le_of_ble_eq_true rfl) (Nat.le_of_ble_eq_true rfl) dX12_init_369 (fun al1 iv1 rv1 H a hU hS hI ha hi ei => ?_)
  have hV : KVL [(15, 3, 5), (15, 2, 45), (15, 1, 60), (15, 0, 30), (3, 9, 9), (3, 8, 8), (3, 7, 7), (3, 6, 6), (3, 5, 5), (3, 4, 4), (3, 3, 3), (3, 2, 2), (3, 1, 1), (3, 0, 0)] iv1 := by rw [ei]; exact hV.nw (by decide)
  clear ei
  refine W.widen (k := 38) (n := 1411) (Nat.le_of_ble_eq_true rfl) (Nat.le_of_ble_eq_true rfl) ?_
  refine q_rp (t0 := 0) (t := 38) (k := 45) C hnm hU hS hI k_0 (hc := rfl) uwX12 tyX12 tyX12_ok nmX12 (by decide) rfl rfl rfl (by decide) fl_X12_122 (fun _ => rfl) (fun _ => rfl) ha hi dX12_init_371 (fun rv1 H locs hU hS hI => ?_)
  clear ha hi
  refine lv_aload_n hx hb dX12_init_374 rfl (lv_at hl 0 rfl) ?_
  refine lv_bipush (v := 32) hx hb dX12_init_375 (by decide) ?_
  refine q_ra2 (t := 39) (ty := .int) C hz0 hU hS hI rfl (Or.inl rfl) k_39 (fun _ => rfl) (by decide) ac_int (by decide) (by decide) (by decide) (Nat.le_of_ble_eq_true rfl) (Nat.le_of_ble_eq_true rfl) dX12_init_377 (fun al1 iv1 rv1 H a hU hS hI ha hi ei => ?_)
  have hV : KVL [(15, 3, 5), (15, 2, 45), (15, 1, 60), (15, 0, 30), (3, 9, 9), (3, 8, 8), (3, 7, 7), (3, 6, 6), (3, 5, 5), (3, 4, 4), (3, 3, 3), (3, 2, 2), (3, 1, 1), (3, 0, 0)] iv1 := by rw [ei]; exact hV.nw (by decide)
  clear ei
  refine W.widen (k := 39) (n := 1443) (Nat.le_of_ble_eq_true rfl) (Nat.le_of_ble_eq_true rfl) ?_
  refine q_rp (t0 := 0) (t := 39) (k := 46) C hnm hU hS hI k_0 (hc := rfl) uwX12 tyX12 tyX12_ok nmX12 (by decide) rfl rfl rfl (by decide) fl_X12_125 (fun _ => rfl) (fun _ => rfl) ha hi dX12_init_379 (fun rv1 H locs hU hS hI => ?_)
  clear ha hi
  refine lv_aload_n hx hb dX12_init_382 rfl (lv_at hl 0 rfl) ?_
  refine lv_bipush (v := 32) hx hb dX12_init_383 (by decide) ?_
  refine q_ra2 (t := 40) (ty := .int) C hz0 hU hS hI rfl (Or.inl rfl) k_40 (fun _ => rfl) (by decide) ac_int (by decide) (by decide) (by decide) (Nat.le_of_ble_eq_true rfl) (Nat.le_of_ble_eq_true rfl) dX12_init_385 (fun al1 iv1 rv1 H a hU hS hI ha hi ei => ?_)
  have hV : KVL [(15, 3, 5), (15, 2, 45), (15, 1, 60), (15, 0, 30), (3, 9, 9), (3, 8, 8), (3, 7, 7), (3, 6, 6), (3, 5, 5), (3, 4, 4), (3, 3, 3), (3, 2, 2), (3, 1, 1), (3, 0, 0)] iv1 := by rw [ei]; exact hV.nw (by decide)
  clear ei
  refine W.widen (k := 40) (n := 1475) (Nat.le_of_ble_eq_true rfl) (Nat.le_of_ble_eq_true rfl) ?_
  refine q_rp (t0 := 0) (t := 40) (k := 47) C hnm hU hS hI k_0 (hc := rfl) uwX12 tyX12 tyX12_ok nmX12 (by decide) rfl rfl rfl (by decide) fl_X12_128 (fun _ => rfl) (fun _ => rfl) ha hi dX12_init_387 (fun rv1 H locs hU hS hI => ?_)
  clear ha hi
  refine lv_aload_n hx hb dX12_init_390 rfl (lv_at hl 0 rfl) ?_
  refine lv_bipush (v := 40) hx hb dX12_init_391 (by decide) ?_
  refine q_ra2 (t := 41) (ty := .int) C hz0 hU hS hI rfl (Or.inl rfl) k_41 (fun _ => rfl) (by decide) ac_int (by decide) (by decide) (by decide) (Nat.le_of_ble_eq_true rfl) (Nat.le_of_ble_eq_true rfl) dX12_init_393 (fun al1 iv1 rv1 H a hU hS hI ha hi ei => ?_)
  have hV : KVL [(15, 3, 5), (15, 2, 45), (15, 1, 60), (15, 0, 30), (3, 9, 9), (3, 8, 8), (3, 7, 7), (3, 6, 6), (3, 5, 5), (3, 4, 4), (3, 3, 3), (3, 2, 2), (3, 1, 1), (3, 0, 0)] iv1 := by rw [ei]; exact hV.nw (by decide)
  clear ei
  refine W.widen (k := 41) (n := 1515) (Nat.le_of_ble_eq_true rfl) (Nat.le_of_ble_eq_true rfl) ?_
  refine q_rp (t0 := 0) (t := 41) (k := 49) C hnm hU hS hI k_0 (hc := rfl) uwX12 tyX12 tyX12_ok nmX12 (by decide) rfl rfl rfl (by decide) fl_X12_131 (fun _ => rfl) (fun _ => rfl) ha hi dX12_init_395 (fun rv1 H locs hU hS hI => ?_)
  clear ha hi
  refine lv_aload_n hx hb dX12_init_398 rfl (lv_at hl 0 rfl) ?_
  refine lv_bipush (v := 40) hx hb dX12_init_399 (by decide) ?_
  refine q_ra2 (t := 42) (ty := .int) C hz0 hU hS hI rfl (Or.inl rfl) k_42 (fun _ => rfl) (by decide) ac_int (by decide) (by decide) (by decide) (Nat.le_of_ble_eq_true rfl) (Nat.le_of_ble_eq_true rfl) dX12_init_401 (fun al1 iv1 rv1 H a hU hS hI ha hi ei => ?_)
  have hV : KVL [(15, 3, 5), (15, 2, 45), (15, 1, 60), (15, 0, 30), (3, 9, 9), (3, 8, 8), (3, 7, 7), (3, 6, 6), (3, 5, 5), (3, 4, 4), (3, 3, 3), (3, 2, 2), (3, 1, 1), (3, 0, 0)] iv1 := by rw [ei]; exact hV.nw (by decide)
  clear ei
  refine W.widen (k := 42) (n := 1555) (Nat.le_of_ble_eq_true rfl) (Nat.le_of_ble_eq_true rfl) ?_
  refine q_rp (t0 := 0) (t := 42) (k := 50) C hnm hU hS hI k_0 (hc := rfl) uwX12 tyX12 tyX12_ok nmX12 (by decide) rfl rfl rfl (by decide) fl_X12_134 (fun _ => rfl) (fun _ => rfl) ha hi dX12_init_403 (fun rv1 H locs hU hS hI => ?_)
  clear ha hi
  refine lv_aload_n hx hb dX12_init_406 rfl (lv_at hl 0 rfl) ?_
  refine lv_bipush (v := 40) hx hb dX12_init_407 (by decide) ?_
  refine q_ra2 (t := 43) (ty := .int) C hz0 hU hS hI rfl (Or.inl rfl) k_43 (fun _ => rfl) (by decide) ac_int (by decide) (by decide) (by decide) (Nat.le_of_ble_eq_true rfl) (Nat.le_of_ble_eq_true rfl) dX12_init_409 (fun al1 iv1 rv1 H a hU hS hI ha hi ei => ?_)
  have hV : KVL [(15, 3, 5), (15, 2, 45), (15, 1, 60), (15, 0, 30), (3, 9, 9), (3, 8, 8), (3, 7, 7), (3, 6, 6), (3, 5, 5), (3, 4, 4), (3, 3, 3), (3, 2, 2), (3, 1, 1), (3, 0, 0)] iv1 := by rw [ei]; exact hV.nw (by decide)
  clear ei
  refine W.widen (k := 43) (n := 1595) (Nat.le_of_ble_eq_true rfl) (Nat.le_of_ble_eq_true rfl) ?_
  refine q_rp (t0 := 0) (t := 43) (k := 51) C hnm hU hS hI k_0 (hc := rfl) uwX12 tyX12 tyX12_ok nmX12 (by decide) rfl rfl rfl (by decide) fl_X12_137 (fun _ => rfl) (fun _ => rfl) ha hi dX12_init_411 (fun rv1 H locs hU hS hI => ?_)
  clear ha hi
  refine lv_aload_n hx hb dX12_init_414 rfl (lv_at hl 0 rfl) ?_
  refine lv_bipush (v := 40) hx hb dX12_init_415 (by decide) ?_
  refine q_ra2 (t := 44) (ty := .int) C hz0 hU hS hI rfl (Or.inl rfl) k_44 (fun _ => rfl) (by decide) ac_int (by decide) (by decide) (by decide) (Nat.le_of_ble_eq_true rfl) (Nat.le_of_ble_eq_true rfl) dX12_init_417 (fun al1 iv1 rv1 H a hU hS hI ha hi ei => ?_)
  have hV : KVL [(15, 3, 5), (15, 2, 45), (15, 1, 60), (15, 0, 30), (3, 9, 9), (3, 8, 8), (3, 7, 7), (3, 6, 6), (3, 5, 5), (3, 4, 4), (3, 3, 3), (3, 2, 2), (3, 1, 1), (3, 0, 0)] iv1 := by rw [ei]; exact hV.nw (by decide)
  clear ei
  refine W.widen (k := 44) (n := 1635) (Nat.le_of_ble_eq_true rfl) (Nat.le_of_ble_eq_true rfl) ?_
  refine q_rp (t0 := 0) (t := 44) (k := 52) C hnm hU hS hI k_0 (hc := rfl) uwX12 tyX12 tyX12_ok nmX12 (by decide) rfl rfl rfl (by decide) fl_X12_140 (fun _ => rfl) (fun _ => rfl) ha hi dX12_init_419 (fun rv1 H locs hU hS hI => ?_)
  clear ha hi
  refine lv_aload_n hx hb dX12_init_422 rfl (lv_at hl 0 rfl) ?_
  refine lv_bipush (v := 40) hx hb dX12_init_423 (by decide) ?_
  refine q_ra2 (t := 45) (ty := .boolean) C hz0 hU hS hI rfl (Or.inr rfl) k_45 (fun _ => rfl) (by decide) ac_boolean (by decide) (by decide) (by decide) (Nat.le_of_ble_eq_true rfl) (Nat.le_of_ble_eq_true rfl) dX12_init_425 (fun al1 iv1 rv1 H a hU hS hI ha hi ei => ?_)
  have hV : KVL [(15, 3, 5), (15, 2, 45), (15, 1, 60), (15, 0, 30), (3, 9, 9), (3, 8, 8), (3, 7, 7), (3, 6, 6), (3, 5, 5), (3, 4, 4), (3, 3, 3), (3, 2, 2), (3, 1, 1), (3, 0, 0)] iv1 := by rw [ei]; exact hV.nw (by decide)
  clear ei
  refine W.widen (k := 45) (n := 1675) (Nat.le_of_ble_eq_true rfl) (Nat.le_of_ble_eq_true rfl) ?_
  refine q_rp (t0 := 0) (t := 45) (k := 53) C hnm hU hS hI k_0 (hc := rfl) uwX12 tyX12 tyX12_ok nmX12 (by decide) rfl rfl rfl (by decide) fl_X12_143 (fun _ => rfl) (fun _ => rfl) ha hi dX12_init_427 (fun rv1 H locs hU hS hI => ?_)
  clear ha hi
  refine lv_aload_n hx hb dX12_init_430 rfl (lv_at hl 0 rfl) ?_
  refine lv_bipush (v := 40) hx hb dX12_init_431 (by decide) ?_
  refine q_ra2 (t := 46) (ty := .int) C hz0 hU hS hI rfl (Or.inl rfl) k_46 (fun _ => rfl) (by decide) ac_int (by decide) (by decide) (by decide) (Nat.le_of_ble_eq_true rfl) (Nat.le_of_ble_eq_true rfl) dX12_init_433 (fun al1 iv1 rv1 H a hU hS hI ha hi ei => ?_)
  have hV : KVL [(15, 3, 5), (15, 2, 45), (15, 1, 60), (15, 0, 30), (3, 9, 9), (3, 8, 8), (3, 7, 7), (3, 6, 6), (3, 5, 5), (3, 4, 4), (3, 3, 3), (3, 2, 2), (3, 1, 1), (3, 0, 0)] iv1 := by rw [ei]; exact hV.nw (by decide)
  clear ei
  refine W.widen (k := 46) (n := 1715) (Nat.le_of_ble_eq_true rfl) (Nat.le_of_ble_eq_true rfl) ?_
  refine q_rp (t0 := 0) (t := 46) (k := 54) C hnm hU hS hI k_0 (hc := rfl) uwX12 tyX12 tyX12_ok nmX12 (by decide) rfl rfl rfl (by decide) fl_X12_146 (fun _ => rfl) (fun _ => rfl) ha hi dX12_init_435 (fun rv1 H locs hU hS hI => ?_)
  clear ha hi
  refine lv_aload_n hx hb dX12_init_438 rfl (lv_at hl 0 rfl) ?_
  refine lv_bipush (v := 40) hx hb dX12_init_439 (by decide) ?_
  refine q_ra2 (t := 47) (ty := .int) C hz0 hU hS hI rfl (Or.inl rfl) k_47 (fun _ => rfl) (by decide) ac_int (by decide) (by decide) (by decide) (Nat.le_of_ble_eq_true rfl) (Nat.le_of_ble_eq_true rfl) dX12_init_441 (fun al1 iv1 rv1 H a hU hS hI ha hi ei => ?_)
  have hV : KVL [(15, 3, 5), (15, 2, 45), (15, 1, 60), (15, 0, 30), (3, 9, 9), (3, 8, 8), (3, 7, 7), (3, 6, 6), (3, 5, 5), (3, 4, 4), (3, 3, 3), (3, 2, 2), (3, 1, 1), (3, 0, 0)] iv1 := by rw [ei]; exact hV.nw (by decide)
  clear ei
  refine W.widen (k := 47) (n := 1755) (Nat.le_of_ble_eq_true rfl) (Nat.le_of_ble_eq_true rfl) ?_
  refine q_rp (t0 := 0) (t := 47) (k := 58) C hnm hU hS hI k_0 (hc := rfl) uwX12 tyX12 tyX12_ok nmX12 (by decide) rfl rfl rfl (by decide) fl_X12_149 (fun _ => rfl) (fun _ => rfl) ha hi dX12_init_443 (fun rv1 H locs hU hS hI => ?_)
  clear ha hi
  refine lv_aload_n hx hb dX12_init_446 rfl (lv_at hl 0 rfl) ?_
  refine lv_bipush (v := 40) hx hb dX12_init_447 (by decide) ?_
  refine q_ra2 (t := 48) (ty := .int) C hz0 hU hS hI rfl (Or.inl rfl) k_48 (fun _ => rfl) (by decide) ac_int (by decide) (by decide) (by decide) (Nat.le_of_ble_eq_true rfl) (Nat.le_of_ble_eq_true rfl) dX12_init_449 (fun al1 iv1 rv1 H a hU hS hI ha hi ei => ?_)
  have hV : KVL [(15, 3, 5), (15, 2, 45), (15, 1, 60), (15, 0, 30), (3, 9, 9), (3, 8, 8), (3, 7, 7), (3, 6, 6), (3, 5, 5), (3, 4, 4), (3, 3, 3), (3, 2, 2), (3, 1, 1), (3, 0, 0)] iv1 := by rw [ei]; exact hV.nw (by decide)
  clear ei
  refine W.widen (k := 48) (n := 1795) (Nat.le_of_ble_eq_true rfl) (Nat.le_of_ble_eq_true rfl) ?_
  refine q_rp (t0 := 0) (t := 48) (k := 59) C hnm hU hS hI k_0 (hc := rfl) uwX12 tyX12 tyX12_ok nmX12 (by decide) rfl rfl rfl (by decide) fl_X12_152 (fun _ => rfl) (fun _ => rfl) ha hi dX12_init_451 (fun rv1 H locs hU hS hI => ?_)
  clear ha hi
  refine lv_iconst (v := 0) hx hb dX12_init_454 (by decide) ?_
  obtain ⟨hR, hB, hE, hN, ho_o, hi_o⟩ := hI
  refine lv_istore_n (lv' := [(1, .int 0), (0, .ref o)]) hx hb dX12_init_455 rfl hl (by decide) rfl (fun ls hl => ?_)
  obtain ⟨jb, ejb⟩ := hN 36 (by decide)
  have hjb : jb < al1.1 31 := hB 0 i0 36 31 hi_o (by decide) rfl jb ejb
  have c31 : al1.1 31 = 1 := by rw [hE.1 31, cz 31 (by decide) (by decide)]; rfl
  have jb0 : jb = 0 := by omega
  subst jb0
  have LP : ∀ (n : Nat) (x : Int32) (iv1 : Iv) (H : Heap) (locs : List Loc) (ls : Array Slot), lv_has ls 2 [(1, .int x), (0, .ref o)] → (0 ≤ x.toInt ∧ x.toInt ≤ 4) → (4 - x.toInt).toNat < n → (KVL [(15, 3, 5), (15, 2, 45), (15, 1, 60), (15, 0, 30), (3, 9, 9), (3, 8, 8), (3, 7, 7), (3, 6, 6), (3, 5, 5), (3, 4, 4), (3, 3, 3), (3, 2, 2), (3, 1, 1), (3, 0, 0)] iv1 ∧ ∀ k : Nat, (k : Int) < x.toInt → iv1 31 0 k = 365) → RG al1 iv1 → EXT (nx (nx (nx (nx (nx (nx (nx (nx (nx (nx (nx (nx (nx (nx (nx (nx (nx (nx (nx (nx (nx (nx (nx (nx (nx (nx (nx (nx (nx (nx (nx (nx (nx (nx (nx (nx (nx (nx (nx (nx (nx (nx (nx (nx (nx (nx (nx (nx (fun _ => 0) 1) 2) 3) 4) 5) 6) 7) 8) 9) 10) 11) 12) 13) 14) 15) 16) 17) 18) 19) 20) 21) 22) 23) 24) 25) 26) 27) 28) 29) 30) 31) 32) 33) 34) 35) 36) 37) 38) 39) 40) 41) 42) 43) 44) 45) 46) 47) 48) ([3, 15, 31], [(0, 1), (0, 2), (0, 3), (0, 4), (0, 7), (0, 8), (0, 9), (0, 10), (0, 11), (0, 12), (0, 13), (0, 14), (0, 15), (0, 16), (0, 17), (0, 18), (0, 19), (0, 21), (0, 22), (0, 23), (0, 25), (0, 26), (0, 27), (0, 28), (0, 29), (0, 31), (0, 32), (0, 33), (0, 34), (0, 35), (0, 36), (0, 38), (0, 39), (0, 40), (0, 42), (0, 43), (0, 44), (0, 45), (0, 46), (0, 47), (0, 49), (0, 50), (0, 51), (0, 52), (0, 53), (0, 54), (0, 58), (0, 59)]) al iv rv al1 iv1 rv1 → UW D cA sz al1 iv1 rv1 H → va_S (Aq sz) s.heap H locs → W p l e (rmA 1 48 1795) s m args below meth c H locs 48 1795 Q (F0 m 456 ls []) := by
    intro n
    induction n with
    | zero =>
      intro x iv1 H locs ls hl hxr hm
      exact absurd hm (Nat.not_lt_zero _)
    | succ n ih =>
      intro x iv1 H locs ls hl hxr hm hV hR hE hU hS
      refine lv_iload_n hx hb dX12_init_456 rfl (lv_at hl 0 rfl) ?_
      refine lv_iconst (v := 4) hx hb dX12_init_457 (by decide) ?_
      refine b_icmp_ge (tgt := 476) hx hb dX12_init_458 (by decide) (fun cx => ?_) (fun cx => ?_)
      · exact hret ⟨hR, hB, hE, hN, hV.1, fun k hk => hV.2 k (by omega)⟩ hU hS dX12_init_476
      · refine lv_aload_n hx hb dX12_init_461 rfl (lv_at hl 1 rfl) ?_
        refine W.eq (g2 := F0 m 462 ls [.ref (al1.2 0 i0)]) (by rw [ho_o]) ?_
        refine q_getr (t := 0) (i := i0) (k := 36) (t' := 31) (j := 0) C hU k_0 (hc := rfl) uwX12 hi_o (by decide) rfl rfl fl_X12_101 dX12_init_462 ejb ?_
        refine lv_iload_n hx hb dX12_init_465 rfl (lv_at hl 0 rfl) ?_
        refine lv_sipush (v := 365) hx hb dX12_init_466 (by decide) ?_
        refine s_31 (i := 0) C hU hS hjb (x := x) (by omega) (by omega) dX12_init_469 (fun iv2 H locs ei2 hU hS => ?_)
        obtain ⟨y, ey⟩ : ∃ y : Int32, y = x + 1 := ⟨_, rfl⟩
        have ty : y.toInt = x.toInt + (1 : Int32).toInt := by rw [ey]; exact fb_addI (by omega) (by omega)
        refine lv_iinc (v := y) (lv' := [(1, .int y), (0, .ref o)]) hx hb dX12_init_470 hl (k := 0) rfl (by rw [ey]; rfl) (by decide) rfl (fun ls hl => ?_)
        refine lv_goto (tgt := 456) hx hb dX12_init_473 (by decide) ?_
        have hE2 := hE.puti (t := 31) (i := 0) (k := x.toNatClampNeg) (x := 365) (Or.inl (by decide))
        rw [← ei2] at hE2
        have hV2 : KVL [(15, 3, 5), (15, 2, 45), (15, 1, 60), (15, 0, 30), (3, 9, 9), (3, 8, 8), (3, 7, 7), (3, 6, 6), (3, 5, 5), (3, 4, 4), (3, 3, 3), (3, 2, 2), (3, 1, 1), (3, 0, 0)] iv2 ∧ ∀ k : Nat, (k : Int) < y.toInt → iv2 31 0 k = 365 := by
          rw [ei2]
          refine ⟨hV.1.put (by decide), fun k hk => ?_⟩
          by_cases z : k = x.toNatClampNeg
          · rw [z]; exact up3_self _ _ _ _ _
          · rw [up3_ne (fun w => z w.2.2)]; exact hV.2 k (by have := ix_nat hxr.1; omega)
        exact ih y iv2 _ _ _ hl (by omega) (by omega) hV2 (by rw [ei2]; exact hR.put (show _ ∧ _ from ⟨show (0 : Int) ≤ _ by omega, show _ ≤ (3000 : Int) by omega⟩)) hE2 hU hS
  exact LP 5 0 _ _ _ _ hl (by omega) (by omega) ⟨hV, fun k hk => by exfalso; omega⟩ hR hE hU hS
