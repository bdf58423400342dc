section
def KVL (L : List (Nat × Nat × Int32)) (iv : Iv) : Prop := ∀ q, q ∈ L → iv q.1 0 q.2.1 = q.2.2
theorem KVL.nil {iv : Iv} : KVL [] iv := fun _ h => by cases h
theorem KVL.nw {L : List (Nat × Nat × Int32)} {iv : Iv} {t i : Nat} (h : KVL L iv) (ht : ∀ q, q ∈ L → q.1 ≠ t) : KVL L (clr iv t i 0) := fun q hq => by
  rw [clr_ne (fun z => ht q hq z.1)]; exact h q hq
theorem KVL.up {L : List (Nat × Nat × Int32)} {iv : Iv} {t k : Nat} {x v : Int32} (h : KVL L iv) (hx : x.toNatClampNeg = k) (ht : ∀ q, q ∈ L → ¬ (q.1 = t ∧ q.2.1 = k)) : KVL ((t, k, v) :: L) (up3 iv t 0 x.toNatClampNeg v) := fun q hq => by
  rw [hx]
  rcases List.mem_cons.mp hq with rfl | hq
  · exact up3_self _ _ _ _ _
  · rw [up3_ne (fun z => ht q hq ⟨z.1, z.2.2⟩)]; exact h q hq
theorem KVL.put {L : List (Nat × Nat × Int32)} {iv : Iv} {t i k : Nat} {v : Int32} (h : KVL L iv) (ht : ∀ q, q ∈ L → q.1 ≠ t) : KVL L (up3 iv t i k v) := fun q hq => by
  rw [up3_ne (fun z => ht q hq z.1)]; exact h q hq
section CIR2
variable {p : Program} {l : Launch} {e : Env} {R : Room} {s : State} {m : MethodId} {args : Array Value} {below : List Frame} {meth : Method} {c : Code} {H : Heap} {locs : List Loc} {cells slots : Nat} {Q : State → Prop}
variable {cc : ByteArray} {pc nL : Nat} {ls : Array Slot} {rest : List Value} {own : String} {D : va_G} {cA : FieldType → ClassId} {sz : Nat} {al al1 : Al} {iv iv1 : Iv} {rv rv1 : Rv} {t0 i0 o : Nat} {N : Nat → Nat} {M : Mo} {L : List Nat}
theorem q_ra2 (C : Cx p s m args c cc nL own D cA) (hz0 : sz ≤ s.heap.size) (hU : UW D cA sz al1 iv1 rv1 H) (hS : va_S (Aq sz) s.heap H locs) (hI : CI t0 i0 o N M L al iv rv al1 iv1 rv1) {t n : Nat} {atype : ArrayType} {ty : FieldType} (hat : newarray.typeOf atype = ty) (h2 : ty = .int ∨ ty = .boolean) (kp : (pt t).1 = none ∧ (pt t).2.1 = n ∧ (pt t).2.2.1 = ty) (htg : ∀ k, (pt t).2.2.2 k = none) (ht : t0 ≠ t) (hac : Cond.arrayClass ty ∈ BW)
    {x : Int32} (hn : ¬ x < 0) (hN : x.toNatClampNeg = n) (hby : n * 8 ≤ 536870912) (hcells : cells + 1 ≤ R.cells) (hslots : slots + n ≤ R.slots) (hdg : decode cc pc = .ok (.newarray atype, 2))
    (kk : ∀ (al2 : Al) (iv2 : Iv) (rv2 : Rv) (H2 : Heap) (a : Nat), UW D cA sz al2 iv2 rv2 H2 → va_S (Aq sz) s.heap H2 locs → CI t0 i0 o (nx N t) M L al iv rv al2 iv2 rv2 → al2.2 t (al1.1 t) = a → al1.1 t < al2.1 t → iv2 = clr iv1 t (al1.1 t) 0 → W p l e R s m args below meth c H2 locs (cells + 1) (slots + n) Q (F0 m (pc + 2) ls (.ref a :: rest))) : W p l e R s m args below meth c H locs cells slots Q (F0 m pc ls (.int x :: rest)) := by
  refine q_newp (t := t) C hU hS hI.2.1 (Nat.le_trans hz0 hS.1) hat h2 kp htg hac hn hN hby hcells hslots hdg (fun a H1 hU1 hS1 _ => ?_)
  exact kk _ _ _ H1 a hU1 hS1 (hI.new t a ht) grow_new (by rw [grow_ct]; simp) rfl
theorem q_is2 (C : Cx p s m args c cc nL own D cA) (hU : UW D cA sz al1 iv1 rv1 H) (hS : va_S (Aq sz) s.heap H locs) (hI : CI t0 i0 o N M L al iv rv al1 iv1 rv1) {t i a n : Nat} (kp : (pt t).1 = none ∧ (pt t).2.1 = n ∧ (pt t).2.2.1 = .int) (htg : ∀ k, (pt t).2.2.2 k = none) (ha : al1.2 t i = a) (hi : i < al1.1 t) {x v : Int32} (hin : vp_in x n) (hm : ∀ k, MD M t k) (hr : ∀ k, (rg t k).1 ≤ v.toInt ∧ v.toInt ≤ (rg t k).2) (hdg : decode cc pc = .ok (.iastore, 1))
    (kk : ∀ (iv2 : Iv) (H2 : Heap) (locs2 : List Loc), UW D cA sz al1 iv2 rv1 H2 → va_S (Aq sz) s.heap H2 locs2 → CI t0 i0 o N M L al iv rv al1 iv2 rv1 → iv2 = up3 iv1 t i x.toNatClampNeg v → W p l e R s m args below meth c H2 locs2 cells slots Q (F0 m (pc + 1) ls rest)) : W p l e R s m args below meth c H locs cells slots Q (F0 m pc ls (.int v :: .int x :: .ref a :: rest)) := by
  subst ha
  exact q_iast (t := t) C hU hS kp htg hi hin hdg (fun H1 locs1 hU1 hS1 => kk _ H1 locs1 hU1 hS1 (hI.puti (hm _) (hr _)) rfl)
end CIR2
def KV (iv : Iv) : Prop := KVL [(15, 3, 5), (15, 2, 45), (15, 1, 60), (15, 0, 30), (3, 9, 9), (3, 8, 8), (3, 7, 7), (3, 6, 6), (3, 5, 5), (3, 4, 4), (3, 3, 3), (3, 2, 2), (3, 1, 1), (3, 0, 0)] iv ∧ ∀ k : Nat, k < 4 → iv 31 0 k = 365
theorem c36 {x : Int32} {n : Nat} (h : (n : Int) < x.toInt) : x.toInt ≤ n → False := fun q => by omega
set_option maxHeartbeats 40000000 in
set_option maxRecDepth 100000 in
theorem c_X12_init {l : Launch} {D : va_G} {cA : FieldType → ClassId} {sz : Nat} {al : Al} {iv : Iv} {rv : Rv} (hR : RG al iv) (hB : RB al rv) (i0 : Nat) (hi0 : i0 < al.1 0) (cz : ∀ t, 1 ≤ t → t ≤ 48 → al.1 t = 0) : Met l yX12_init (wd yX12_init cX12_init 2 none) (rmA 1 48 1795) (PcA D cA sz al iv rv [.ref (al.2 0 i0)] (fun _ => True)) (QVA D cA sz (fun al' iv' rv' => RG al' iv' ∧ RB al' rv' ∧ EXT (nx (nx (nx (nx (nx (nx (nx (nx (nx (nx (nx (nx (nx (nx (nx (nx (nx (nx (nx (nx (nx (nx (nx (nx (nx (nx (nx (nx (nx (nx (nx (nx (nx (nx (nx (nx (nx (nx (nx (nx (nx (nx (nx (nx (nx (nx (nx (nx (fun _ => 0) 1) 2) 3) 4) 5) 6) 7) 8) 9) 10) 11) 12) 13) 14) 15) 16) 17) 18) 19) 20) 21) 22) 23) 24) 25) 26) 27) 28) 29) 30) 31) 32) 33) 34) 35) 36) 37) 38) 39) 40) 41) 42) 43) 44) 45) 46) 47) 48) ([3, 15, 31], [(0, 1), (0, 2), (0, 3), (0, 4), (0, 7), (0, 8), (0, 9), (0, 10), (0, 11), (0, 12), (0, 13), (0, 14), (0, 15), (0, 16), (0, 17), (0, 18), (0, 19), (0, 21), (0, 22), (0, 23), (0, 25), (0, 26), (0, 27), (0, 28), (0, 29), (0, 31), (0, 32), (0, 33), (0, 34), (0, 35), (0, 36), (0, 38), (0, 39), (0, 40), (0, 42), (0, 43), (0, 44), (0, 45), (0, 46), (0, 47), (0, 49), (0, 50), (0, 51), (0, 52), (0, 53), (0, 54), (0, 58), (0, 59)]) al iv rv al' iv' rv' ∧ NN 0 i0 [59, 58, 54, 53, 52, 51, 50, 49, 47, 46, 45, 44, 43, 42, 40, 39, 38, 36, 35, 34, 33, 32, 31, 29, 28, 27, 26, 25, 23, 22, 21, 19, 18, 17, 16, 15, 14, 13, 12, 11, 10, 9, 8, 7, 4, 3, 2, 1] rv' ∧ KV iv')) 48 1795 (Aq sz) := by
  refine mk_b (by decide) (Nat.le_of_ble_eq_true rfl) rfl ?_
  intro p e s m args below meth c ls Q C hnm hU hS hz0 _ hl hret
  have hx := C.1.1
  have hb := C.1.2.1
  have k0 : (0 : Int32).toInt = 0 := by decide
  have k1 : (1 : Int32).toInt = 1 := by decide
  have k2 : (2 : Int32).toInt = 2 := by decide
  have k3 : (3 : Int32).toInt = 3 := by decide
  have k4 : (4 : Int32).toInt = 4 := by decide
  have k5 : (5 : Int32).toInt = 5 := by decide
  have k6 : (6 : Int32).toInt = 6 := by decide
  have k7 : (7 : Int32).toInt = 7 := by decide
  have k8 : (8 : Int32).toInt = 8 := by decide
  have k9 : (9 : Int32).toInt = 9 := by decide
  have k10 : (10 : Int32).toInt = 10 := by decide
  have k20 : (20 : Int32).toInt = 20 := by decide
  have k30 : (30 : Int32).toInt = 30 := by decide
  have k32 : (32 : Int32).toInt = 32 := by decide
  have k40 : (40 : Int32).toInt = 40 := by decide
  have k45 : (45 : Int32).toInt = 45 := by decide
  have k60 : (60 : Int32).toInt = 60 := by decide
  have k80 : (80 : Int32).toInt = 80 := by decide
  have k100 : (100 : Int32).toInt = 100 := by decide
  have k150 : (150 : Int32).toInt = 150 := by decide
  have k365 : (365 : Int32).toInt = 365 := by decide
  obtain ⟨o, ho⟩ : ∃ z, al.2 0 i0 = z := ⟨_, rfl⟩
  have hl : lv_has ls 2 [(0, .ref o)] := by rw [← ho]; exact hl
  have hI : CI 0 i0 o (fun _ => 0) ([3, 15, 31], [(0, 1), (0, 2), (0, 3), (0, 4), (0, 7), (0, 8), (0, 9), (0, 10), (0, 11), (0, 12), (0, 13), (0, 14), (0, 15), (0, 16), (0, 17), (0, 18), (0, 19), (0, 21), (0, 22), (0, 23), (0, 25), (0, 26), (0, 27), (0, 28), (0, 29), (0, 31), (0, 32), (0, 33), (0, 34), (0, 35), (0, 36), (0, 38), (0, 39), (0, 40), (0, 42), (0, 43), (0, 44), (0, 45), (0, 46), (0, 47), (0, 49), (0, 50), (0, 51), (0, 52), (0, 53), (0, 54), (0, 58), (0, 59)]) [] al iv rv al iv rv := ⟨hR, hB, EXT.rf, NN.nil, ho, hi0⟩
  clear hR hB
  have hV : KVL [] iv := KVL.nil
  refine lv_aload_n hx hb dX12_init_0 rfl (lv_at hl 0 rfl) ?_
  refine W.objInit hx hb C.1.2.2.2.1 (C.1.2.2.2.2 _ oi_X12) (C.1.2.2.2.2 _ oi_m) (C.1.2.2.2.2 _ oi_c) rfl (by rw [C.1.2.2.1]; exact hl.1) rfl dX12_init_1 (Nat.le_of_ble_eq_true rfl) (Nat.le_of_ble_eq_true rfl) ?_
  refine W.eq (g2 := F0 m 4 ls []) rfl ?_
  refine lv_aload_n hx hb dX12_init_4 rfl (lv_at hl 0 rfl) ?_
  refine lv_bipush (v := 10) hx hb dX12_init_5 (by decide) ?_
  refine q_ra2 (t := 1) (ty := .int) C hz0 hU hS hI rfl (Or.inl rfl) k_1 (fun _ => rfl) (by decide) ac_int (by decide) (by decide) (by decide) (Nat.le_of_ble_eq_true rfl) (Nat.le_of_ble_eq_true rfl) dX12_init_7 (fun al1 iv1 rv1 H a hU hS hI ha hi ei => ?_)
  have hV : KVL [] iv1 := by rw [ei]; exact hV.nw (by decide)
  clear ei
  refine W.widen (k := 1) (n := 10) (Nat.le_of_ble_eq_true rfl) (Nat.le_of_ble_eq_true rfl) ?_
  refine q_rp (t0 := 0) (t := 1) (k := 1) C hnm hU hS hI k_0 (hc := rfl) uwX12 tyX12 tyX12_ok nmX12 (by decide) rfl rfl rfl (by decide) fl_X12_7 (fun _ => rfl) (fun _ => rfl) ha hi dX12_init_9 (fun rv1 H locs hU hS hI => ?_)
  clear ha hi
  refine lv_aload_n hx hb dX12_init_12 rfl (lv_at hl 0 rfl) ?_
  refine lv_bipush (v := 100) hx hb dX12_init_13 (by decide) ?_
  refine q_ra2 (t := 2) (ty := .int) C hz0 hU hS hI rfl (Or.inl rfl) k_2 (fun _ => rfl) (by decide) ac_int (by decide) (by decide) (by decide) (Nat.le_of_ble_eq_true rfl) (Nat.le_of_ble_eq_true rfl) dX12_init_15 (fun al1 iv1 rv1 H a hU hS hI ha hi ei => ?_)
  have hV : KVL [] iv1 := by rw [ei]; exact hV.nw (by decide)
  clear ei
  refine W.widen (k := 2) (n := 110) (Nat.le_of_ble_eq_true rfl) (Nat.le_of_ble_eq_true rfl) ?_
  refine q_rp (t0 := 0) (t := 2) (k := 2) C hnm hU hS hI k_0 (hc := rfl) uwX12 tyX12 tyX12_ok nmX12 (by decide) rfl rfl rfl (by decide) fl_X12_13 (fun _ => rfl) (fun _ => rfl) ha hi dX12_init_17 (fun rv1 H locs hU hS hI => ?_)
  clear ha hi
  refine lv_aload_n hx hb dX12_init_20 rfl (lv_at hl 0 rfl) ?_
  refine lv_bipush (v := 10) hx hb dX12_init_21 (by decide) ?_
  have zi : al1.1 3 = 0 := by rw [hI.2.2.1.1 3, cz 3 (by decide) (by decide)]; rfl
  refine q_ra2 (t := 3) (ty := .int) C hz0 hU hS hI rfl (Or.inl rfl) k_3 (fun _ => rfl) (by decide) ac_int (by decide) (by decide) (by decide) (Nat.le_of_ble_eq_true rfl) (Nat.le_of_ble_eq_true rfl) dX12_init_23 (fun al1 iv1 rv1 H a hU hS hI ha hi ei => ?_)
  have hV : KVL [] iv1 := by rw [ei]; exact hV.nw (by decide)
  clear ei
  rw [zi] at ha hi
  clear zi
  refine W.widen (k := 3) (n := 120) (Nat.le_of_ble_eq_true rfl) (Nat.le_of_ble_eq_true rfl) ?_
  refine lv_dup hx hb dX12_init_25 rfl ?_
  refine lv_iconst (v := 0) hx hb dX12_init_26 (by decide) ?_
  refine lv_iconst (v := 0) hx hb dX12_init_27 (by decide) ?_
  refine q_is2 (t := 3) (i := 0) C hU hS hI k_3 (fun _ => rfl) ha hi (x := 0) (ix_in (by decide) (by decide)) (fun _ => Or.inl (by decide)) (fun _ => ⟨show (0 : Int) ≤ _ by decide, show _ ≤ (9 : Int) by decide⟩) dX12_init_28 (fun iv1 H locs hU hS hI ei => ?_)
  have hV : KVL [(3, 0, 0)] iv1 := by rw [ei]; exact hV.up (by decide) (by decide)
  clear ei
  refine lv_dup hx hb dX12_init_29 rfl ?_
  refine lv_iconst (v := 1) hx hb dX12_init_30 (by decide) ?_
  refine lv_iconst (v := 1) hx hb dX12_init_31 (by decide) ?_
  refine q_is2 (t := 3) (i := 0) C hU hS hI k_3 (fun _ => rfl) ha hi (x := 1) (ix_in (by decide) (by decide)) (fun _ => Or.inl (by decide)) (fun _ => ⟨show (0 : Int) ≤ _ by decide, show _ ≤ (9 : Int) by decide⟩) dX12_init_32 (fun iv1 H locs hU hS hI ei => ?_)
  have hV : KVL [(3, 1, 1), (3, 0, 0)] iv1 := by rw [ei]; exact hV.up (by decide) (by decide)
  clear ei
  refine lv_dup hx hb dX12_init_33 rfl ?_
  refine lv_iconst (v := 2) hx hb dX12_init_34 (by decide) ?_
  refine lv_iconst (v := 2) hx hb dX12_init_35 (by decide) ?_
  refine q_is2 (t := 3) (i := 0) C hU hS hI k_3 (fun _ => rfl) ha hi (x := 2) (ix_in (by decide) (by decide)) (fun _ => Or.inl (by decide)) (fun _ => ⟨show (0 : Int) ≤ _ by decide, show _ ≤ (9 : Int) by decide⟩) dX12_init_36 (fun iv1 H locs hU hS hI ei => ?_)
  have hV : KVL [(3, 2, 2), (3, 1, 1), (3, 0, 0)] iv1 := by rw [ei]; exact hV.up (by decide) (by decide)
  clear ei
  refine lv_dup hx hb dX12_init_37 rfl ?_
  refine lv_iconst (v := 3) hx hb dX12_init_38 (by decide) ?_
  refine lv_iconst (v := 3) hx hb dX12_init_39 (by decide) ?_
  refine q_is2 (t := 3) (i := 0) C hU hS hI k_3 (fun _ => rfl) ha hi (x := 3) (ix_in (by decide) (by decide)) (fun _ => Or.inl (by decide)) (fun _ => ⟨show (0 : Int) ≤ _ by decide, show _ ≤ (9 : Int) by decide⟩) dX12_init_40 (fun iv1 H locs hU hS hI ei => ?_)
  have hV : KVL [(3, 3, 3), (3, 2, 2), (3, 1, 1), (3, 0, 0)] iv1 := by rw [ei]; exact hV.up (by decide) (by decide)
  clear ei
  refine lv_dup hx hb dX12_init_41 rfl ?_
  refine lv_iconst (v := 4) hx hb dX12_init_42 (by decide) ?_
  refine lv_iconst (v := 4) hx hb dX12_init_43 (by decide) ?_
  refine q_is2 (t := 3) (i := 0) C hU hS hI k_3 (fun _ => rfl) ha hi (x := 4) (ix_in (by decide) (by decide)) (fun _ => Or.inl (by decide)) (fun _ => ⟨show (0 : Int) ≤ _ by decide, show _ ≤ (9 : Int) by decide⟩) dX12_init_44 (fun iv1 H locs hU hS hI ei => ?_)
  have hV : KVL [(3, 4, 4), (3, 3, 3), (3, 2, 2), (3, 1, 1), (3, 0, 0)] iv1 := by rw [ei]; exact hV.up (by decide) (by decide)
  clear ei
  refine lv_dup hx hb dX12_init_45 rfl ?_
  refine lv_iconst (v := 5) hx hb dX12_init_46 (by decide) ?_
  refine lv_iconst (v := 5) hx hb dX12_init_47 (by decide) ?_
  refine q_is2 (t := 3) (i := 0) C hU hS hI k_3 (fun _ => rfl) ha hi (x := 5) (ix_in (by decide) (by decide)) (fun _ => Or.inl (by decide)) (fun _ => ⟨show (0 : Int) ≤ _ by decide, show _ ≤ (9 : Int) by decide⟩) dX12_init_48 (fun iv1 H locs hU hS hI ei => ?_)
  have hV : KVL [(3, 5, 5), (3, 4, 4), (3, 3, 3), (3, 2, 2), (3, 1, 1), (3, 0, 0)] iv1 := by rw [ei]; exact hV.up (by decide) (by decide)
  clear ei
  refine lv_dup hx hb dX12_init_49 rfl ?_
  refine lv_bipush (v := 6) hx hb dX12_init_50 (by decide) ?_
  refine lv_bipush (v := 6) hx hb dX12_init_52 (by decide) ?_
  refine q_is2 (t := 3) (i := 0) C hU hS hI k_3 (fun _ => rfl) ha hi (x := 6) (ix_in (by decide) (by decide)) (fun _ => Or.inl (by decide)) (fun _ => ⟨show (0 : Int) ≤ _ by decide, show _ ≤ (9 : Int) by decide⟩) dX12_init_54 (fun iv1 H locs hU hS hI ei => ?_)
  have hV : KVL [(3, 6, 6), (3, 5, 5), (3, 4, 4), (3, 3, 3), (3, 2, 2), (3, 1, 1), (3, 0, 0)] iv1 := by rw [ei]; exact hV.up (by decide) (by decide)
  clear ei
  refine lv_dup hx hb dX12_init_55 rfl ?_
  refine lv_bipush (v := 7) hx hb dX12_init_56 (by decide) ?_
  refine lv_bipush (v := 7) hx hb dX12_init_58 (by decide) ?_
  refine q_is2 (t := 3) (i := 0) C hU hS hI k_3 (fun _ => rfl) ha hi (x := 7) (ix_in (by decide) (by decide)) (fun _ => Or.inl (by decide)) (fun _ => ⟨show (0 : Int) ≤ _ by decide, show _ ≤ (9 : Int) by decide⟩) dX12_init_60 (fun iv1 H locs hU hS hI ei => ?_)
  have hV : KVL [(3, 7, 7), (3, 6, 6), (3, 5, 5), (3, 4, 4), (3, 3, 3), (3, 2, 2), (3, 1, 1), (3, 0, 0)] iv1 := by rw [ei]; exact hV.up (by decide) (by decide)
  clear ei
  refine lv_dup hx hb dX12_init_61 rfl ?_
  refine lv_bipush (v := 8) hx hb dX12_init_62 (by decide) ?_
  refine lv_bipush (v := 8) hx hb dX12_init_64 (by decide) ?_
  refine q_is2 (t := 3) (i := 0) C hU hS hI k_3 (fun _ => rfl) ha hi (x := 8) (ix_in (by decide) (by decide)) (fun _ => Or.inl (by decide)) (fun _ => ⟨show (0 : Int) ≤ _ by decide, show _ ≤ (9 : Int) by decide⟩) dX12_init_66 (fun iv1 H locs hU hS hI ei => ?_)
  have hV : KVL [(3, 8, 8), (3, 7, 7), (3, 6, 6), (3, 5, 5), (3, 4, 4), (3, 3, 3), (3, 2, 2), (3, 1, 1), (3, 0, 0)] iv1 := by rw [ei]; exact hV.up (by decide) (by decide)
  clear ei
  refine lv_dup hx hb dX12_init_67 rfl ?_
  refine lv_bipush (v := 9) hx hb dX12_init_68 (by decide) ?_
  refine lv_bipush (v := 9) hx hb dX12_init_70 (by decide) ?_
  refine q_is2 (t := 3) (i := 0) C hU hS hI k_3 (fun _ => rfl) ha hi (x := 9) (ix_in (by decide) (by decide)) (fun _ => Or.inl (by decide)) (fun _ => ⟨show (0 : Int) ≤ _ by decide, show _ ≤ (9 : Int) by decide⟩) dX12_init_72 (fun iv1 H locs hU hS hI ei => ?_)
  have hV : KVL [(3, 9, 9), (3, 8, 8), (3, 7, 7), (3, 6, 6), (3, 5, 5), (3, 4, 4), (3, 3, 3), (3, 2, 2), (3, 1, 1), (3, 0, 0)] iv1 := by rw [ei]; exact hV.up (by decide) (by decide)
  clear ei
  refine q_rp (t0 := 0) (t := 3) (k := 3) C hnm hU hS hI k_0 (hc := rfl) uwX12 tyX12 tyX12_ok nmX12 (by decide) rfl rfl rfl (by decide) fl_X12_16 (fun _ => rfl) (fun _ => rfl) ha hi dX12_init_73 (fun rv1 H locs hU hS hI => ?_)
  clear ha hi
  refine lv_aload_n hx hb dX12_init_76 rfl (lv_at hl 0 rfl) ?_
  refine lv_bipush (v := 10) hx hb dX12_init_77 (by decide) ?_
  refine q_ra2 (t := 4) (ty := .int) C hz0 hU hS hI rfl (Or.inl rfl) k_4 (fun _ => rfl) (by decide) ac_int (by decide) (by decide) (by decide) (Nat.le_of_ble_eq_true rfl) (Nat.le_of_ble_eq_true rfl) dX12_init_79 (fun al1 iv1 rv1 H a hU hS hI ha hi ei => ?_)
  have hV : KVL [(3, 9, 9), (3, 8, 8), (3, 7, 7), (3, 6, 6), (3, 5, 5), (3, 4, 4), (3, 3, 3), (3, 2, 2), (3, 1, 1), (3, 0, 0)] iv1 := by rw [ei]; exact hV.nw (by decide)
  clear ei
  refine W.widen (k := 4) (n := 130) (Nat.le_of_ble_eq_true rfl) (Nat.le_of_ble_eq_true rfl) ?_
  refine q_rp (t0 := 0) (t := 4) (k := 4) C hnm hU hS hI k_0 (hc := rfl) uwX12 tyX12 tyX12_ok nmX12 (by decide) rfl rfl rfl (by decide) fl_X12_19 (fun _ => rfl) (fun _ => rfl) ha hi dX12_init_81 (fun rv1 H locs hU hS hI => ?_)
  clear ha hi
  refine lv_aload_n hx hb dX12_init_84 rfl (lv_at hl 0 rfl) ?_
  refine lv_bipush (v := 40) hx hb dX12_init_85 (by decide) ?_
  refine q_ra2 (t := 5) (ty := .int) C hz0 hU hS hI rfl (Or.inl rfl) k_5 (fun _ => rfl) (by decide) ac_int (by decide) (by decide) (by decide) (Nat.le_of_ble_eq_true rfl) (Nat.le_of_ble_eq_true rfl) dX12_init_87 (fun al1 iv1 rv1 H a hU hS hI ha hi ei => ?_)
  have hV : KVL [(3, 9, 9), (3, 8, 8), (3, 7, 7), (3, 6, 6), (3, 5, 5), (3, 4, 4), (3, 3, 3), (3, 2, 2), (3, 1, 1), (3, 0, 0)] iv1 := by rw [ei]; exact hV.nw (by decide)
  clear ei
  refine W.widen (k := 5) (n := 170) (Nat.le_of_ble_eq_true rfl) (Nat.le_of_ble_eq_true rfl) ?_
  refine q_rp (t0 := 0) (t := 5) (k := 7) C hnm hU hS hI k_0 (hc := rfl) uwX12 tyX12 tyX12_ok nmX12 (by decide) rfl rfl rfl (by decide) fl_X12_22 (fun _ => rfl) (fun _ => rfl) ha hi dX12_init_89 (fun rv1 H locs hU hS hI => ?_)
  clear ha hi
  refine lv_aload_n hx hb dX12_init_92 rfl (lv_at hl 0 rfl) ?_
  refine lv_bipush (v := 40) hx hb dX12_init_93 (by decide) ?_
  refine q_ra2 (t := 6) (ty := .int) C hz0 hU hS hI rfl (Or.inl rfl) k_6 (fun _ => rfl) (by decide) ac_int (by decide) (by decide) (by decide) (Nat.le_of_ble_eq_true rfl) (Nat.le_of_ble_eq_true rfl) dX12_init_95 (fun al1 iv1 rv1 H a hU hS hI ha hi ei => ?_)
  have hV : KVL [(3, 9, 9), (3, 8, 8), (3, 7, 7), (3, 6, 6), (3, 5, 5), (3, 4, 4), (3, 3, 3), (3, 2, 2), (3, 1, 1), (3, 0, 0)] iv1 := by rw [ei]; exact hV.nw (by decide)
  clear ei
  refine W.widen (k := 6) (n := 210) (Nat.le_of_ble_eq_true rfl) (Nat.le_of_ble_eq_true rfl) ?_
  refine q_rp (t0 := 0) (t := 6) (k := 8) C hnm hU hS hI k_0 (hc := rfl) uwX12 tyX12 tyX12_ok nmX12 (by decide) rfl rfl rfl (by decide) fl_X12_25 (fun _ => rfl) (fun _ => rfl) ha hi dX12_init_97 (fun rv1 H locs hU hS hI => ?_)
  clear ha hi
  refine lv_aload_n hx hb dX12_init_100 rfl (lv_at hl 0 rfl) ?_
  refine lv_bipush (v := 40) hx hb dX12_init_101 (by decide) ?_
  refine q_ra2 (t := 7) (ty := .int) C hz0 hU hS hI rfl (Or.inl rfl) k_7 (fun _ => rfl) (by decide) ac_int (by decide) (by decide) (by decide) (Nat.le_of_ble_eq_true rfl) (Nat.le_of_ble_eq_true rfl) dX12_init_103 (fun al1 iv1 rv1 H a hU hS hI ha hi ei => ?_)
  have hV : KVL [(3, 9, 9), (3, 8, 8), (3, 7, 7), (3, 6, 6), (3, 5, 5), (3, 4, 4), (3, 3, 3), (3, 2, 2), (3, 1, 1), (3, 0, 0)] iv1 := by rw [ei]; exact hV.nw (by decide)
  clear ei
  refine W.widen (k := 7) (n := 250) (Nat.le_of_ble_eq_true rfl) (Nat.le_of_ble_eq_true rfl) ?_
  refine q_rp (t0 := 0) (t := 7) (k := 9) C hnm hU hS hI k_0 (hc := rfl) uwX12 tyX12 tyX12_ok nmX12 (by decide) rfl rfl rfl (by decide) fl_X12_28 (fun _ => rfl) (fun _ => rfl) ha hi dX12_init_105 (fun rv1 H locs hU hS hI => ?_)
  clear ha hi
  refine lv_aload_n hx hb dX12_init_108 rfl (lv_at hl 0 rfl) ?_
  refine lv_bipush (v := 40) hx hb dX12_init_109 (by decide) ?_
  refine q_ra2 (t := 8) (ty := .int) C hz0 hU hS hI rfl (Or.inl rfl) k_8 (fun _ => rfl) (by decide) ac_int (by decide) (by decide) (by decide) (Nat.le_of_ble_eq_true rfl) (Nat.le_of_ble_eq_true rfl) dX12_init_111 (fun al1 iv1 rv1 H a hU hS hI ha hi ei => ?_)
  have hV : KVL [(3, 9, 9), (3, 8, 8), (3, 7, 7), (3, 6, 6), (3, 5, 5), (3, 4, 4), (3, 3, 3), (3, 2, 2), (3, 1, 1), (3, 0, 0)] iv1 := by rw [ei]; exact hV.nw (by decide)
  clear ei
  refine W.widen (k := 8) (n := 290) (Nat.le_of_ble_eq_true rfl) (Nat.le_of_ble_eq_true rfl) ?_
  refine q_rp (t0 := 0) (t := 8) (k := 10) C hnm hU hS hI k_0 (hc := rfl) uwX12 tyX12 tyX12_ok nmX12 (by decide) rfl rfl rfl (by decide) fl_X12_31 (fun _ => rfl) (fun _ => rfl) ha hi dX12_init_113 (fun rv1 H locs hU hS hI => ?_)
  clear ha hi
  refine lv_aload_n hx hb dX12_init_116 rfl (lv_at hl 0 rfl) ?_
  refine lv_bipush (v := 40) hx hb dX12_init_117 (by decide) ?_
  refine q_ra2 (t := 9) (ty := .int) C hz0 hU hS hI rfl (Or.inl rfl) k_9 (fun _ => rfl) (by decide) ac_int (by decide) (by decide) (by decide) (Nat.le_of_ble_eq_true rfl) (Nat.le_of_ble_eq_true rfl) dX12_init_119 (fun al1 iv1 rv1 H a hU hS hI ha hi ei => ?_)
  have hV : KVL [(3, 9, 9), (3, 8, 8), (3, 7, 7), (3, 6, 6), (3, 5, 5), (3, 4, 4), (3, 3, 3), (3, 2, 2), (3, 1, 1), (3, 0, 0)] iv1 := by rw [ei]; exact hV.nw (by decide)
  clear ei
  refine W.widen (k := 9) (n := 330) (Nat.le_of_ble_eq_true rfl) (Nat.le_of_ble_eq_true rfl) ?_
  refine q_rp (t0 := 0) (t := 9) (k := 11) C hnm hU hS hI k_0 (hc := rfl) uwX12 tyX12 tyX12_ok nmX12 (by decide) rfl rfl rfl (by decide) fl_X12_34 (fun _ => rfl) (fun _ => rfl) ha hi dX12_init_121 (fun rv1 H locs hU hS hI => ?_)
  clear ha hi
  refine lv_aload_n hx hb dX12_init_124 rfl (lv_at hl 0 rfl) ?_
  refine lv_bipush (v := 40) hx hb dX12_init_125 (by decide) ?_
  refine q_ra2 (t := 10) (ty := .int) C hz0 hU hS hI rfl (Or.inl rfl) k_10 (fun _ => rfl) (by decide) ac_int (by decide) (by decide) (by decide) (Nat.le_of_ble_eq_true rfl) (Nat.le_of_ble_eq_true rfl) dX12_init_127 (fun al1 iv1 rv1 H a hU hS hI ha hi ei => ?_)
  have hV : KVL [(3, 9, 9), (3, 8, 8), (3, 7, 7), (3, 6, 6), (3, 5, 5), (3, 4, 4), (3, 3, 3), (3, 2, 2), (3, 1, 1), (3, 0, 0)] iv1 := by rw [ei]; exact hV.nw (by decide)
  clear ei
  refine W.widen (k := 10) (n := 370) (Nat.le_of_ble_eq_true rfl) (Nat.le_of_ble_eq_true rfl) ?_
  refine q_rp (t0 := 0) (t := 10) (k := 12) C hnm hU hS hI k_0 (hc := rfl) uwX12 tyX12 tyX12_ok nmX12 (by decide) rfl rfl rfl (by decide) fl_X12_37 (fun _ => rfl) (fun _ => rfl) ha hi dX12_init_129 (fun rv1 H locs hU hS hI => ?_)
  clear ha hi
  refine lv_aload_n hx hb dX12_init_132 rfl (lv_at hl 0 rfl) ?_
  refine lv_bipush (v := 40) hx hb dX12_init_133 (by decide) ?_
  refine q_ra2 (t := 11) (ty := .boolean) C hz0 hU hS hI rfl (Or.inr rfl) k_11 (fun _ => rfl) (by decide) ac_boolean (by decide) (by decide) (by decide) (Nat.le_of_ble_eq_true rfl) (Nat.le_of_ble_eq_true rfl) dX12_init_135 (fun al1 iv1 rv1 H a hU hS hI ha hi ei => ?_)
  have hV : KVL [(3, 9, 9), (3, 8, 8), (3, 7, 7), (3, 6, 6), (3, 5, 5), (3, 4, 4), (3, 3, 3), (3, 2, 2), (3, 1, 1), (3, 0, 0)] iv1 := by rw [ei]; exact hV.nw (by decide)
  clear ei
  refine W.widen (k := 11) (n := 410) (Nat.le_of_ble_eq_true rfl) (Nat.le_of_ble_eq_true rfl) ?_
  refine q_rp (t0 := 0) (t := 11) (k := 13) C hnm hU hS hI k_0 (hc := rfl) uwX12 tyX12 tyX12_ok nmX12 (by decide) rfl rfl rfl (by decide) fl_X12_40 (fun _ => rfl) (fun _ => rfl) ha hi dX12_init_137 (fun rv1 H locs hU hS hI => ?_)
  clear ha hi
  refine lv_aload_n hx hb dX12_init_140 rfl (lv_at hl 0 rfl) ?_
  refine lv_bipush (v := 40) hx hb dX12_init_141 (by decide) ?_
  refine q_ra2 (t := 12) (ty := .int) C hz0 hU hS hI rfl (Or.inl rfl) k_12 (fun _ => rfl) (by decide) ac_int (by decide) (by decide) (by decide) (Nat.le_of_ble_eq_true rfl) (Nat.le_of_ble_eq_true rfl) dX12_init_143 (fun al1 iv1 rv1 H a hU hS hI ha hi ei => ?_)
  have hV : KVL [(3, 9, 9), (3, 8, 8), (3, 7, 7), (3, 6, 6), (3, 5, 5), (3, 4, 4), (3, 3, 3), (3, 2, 2), (3, 1, 1), (3, 0, 0)] iv1 := by rw [ei]; exact hV.nw (by decide)
  clear ei
  refine W.widen (k := 12) (n := 450) (Nat.le_of_ble_eq_true rfl) (Nat.le_of_ble_eq_true rfl) ?_
  refine q_rp (t0 := 0) (t := 12) (k := 14) C hnm hU hS hI k_0 (hc := rfl) uwX12 tyX12 tyX12_ok nmX12 (by decide) rfl rfl rfl (by decide) fl_X12_44 (fun _ => rfl) (fun _ => rfl) ha hi dX12_init_145 (fun rv1 H locs hU hS hI => ?_)
  clear ha hi
  refine lv_aload_n hx hb dX12_init_148 rfl (lv_at hl 0 rfl) ?_
  refine lv_bipush (v := 40) hx hb dX12_init_149 (by decide) ?_
  refine q_ra2 (t := 13) (ty := .int) C hz0 hU hS hI rfl (Or.inl rfl) k_13 (fun _ => rfl) (by decide) ac_int (by decide) (by decide) (by decide) (Nat.le_of_ble_eq_true rfl) (Nat.le_of_ble_eq_true rfl) dX12_init_151 (fun al1 iv1 rv1 H a hU hS hI ha hi ei => ?_)
  have hV : KVL [(3, 9, 9), (3, 8, 8), (3, 7, 7), (3, 6, 6), (3, 5, 5), (3, 4, 4), (3, 3, 3), (3, 2, 2), (3, 1, 1), (3, 0, 0)] iv1 := by rw [ei]; exact hV.nw (by decide)
  clear ei
  refine W.widen (k := 13) (n := 490) (Nat.le_of_ble_eq_true rfl) (Nat.le_of_ble_eq_true rfl) ?_
  refine q_rp (t0 := 0) (t := 13) (k := 15) C hnm hU hS hI k_0 (hc := rfl) uwX12 tyX12 tyX12_ok nmX12 (by decide) rfl rfl rfl (by decide) fl_X12_47 (fun _ => rfl) (fun _ => rfl) ha hi dX12_init_153 (fun rv1 H locs hU hS hI => ?_)
  clear ha hi
  refine lv_aload_n hx hb dX12_init_156 rfl (lv_at hl 0 rfl) ?_
  refine lv_bipush (v := 40) hx hb dX12_init_157 (by decide) ?_
  refine q_ra2 (t := 14) (ty := .int) C hz0 hU hS hI rfl (Or.inl rfl) k_14 (fun _ => rfl) (by decide) ac_int (by decide) (by decide) (by decide) (Nat.le_of_ble_eq_true rfl) (Nat.le_of_ble_eq_true rfl) dX12_init_159 (fun al1 iv1 rv1 H a hU hS hI ha hi ei => ?_)
  have hV : KVL [(3, 9, 9), (3, 8, 8), (3, 7, 7), (3, 6, 6), (3, 5, 5), (3, 4, 4), (3, 3, 3), (3, 2, 2), (3, 1, 1), (3, 0, 0)] iv1 := by rw [ei]; exact hV.nw (by decide)
  clear ei
  refine W.widen (k := 14) (n := 530) (Nat.le_of_ble_eq_true rfl) (Nat.le_of_ble_eq_true rfl) ?_
  refine q_rp (t0 := 0) (t := 14) (k := 16) C hnm hU hS hI k_0 (hc := rfl) uwX12 tyX12 tyX12_ok nmX12 (by decide) rfl rfl rfl (by decide) fl_X12_50 (fun _ => rfl) (fun _ => rfl) ha hi dX12_init_161 (fun rv1 H locs hU hS hI => ?_)
  clear ha hi
  refine lv_aload_n hx hb dX12_init_164 rfl (lv_at hl 0 rfl) ?_
  refine lv_iconst (v := 4) hx hb dX12_init_165 (by decide) ?_
  have zi : al1.1 15 = 0 := by rw [hI.2.2.1.1 15, cz 15 (by decide) (by decide)]; rfl
  refine q_ra2 (t := 15) (ty := .int) C hz0 hU hS hI rfl (Or.inl rfl) k_15 (fun _ => rfl) (by decide) ac_int (by decide) (by decide) (by decide) (Nat.le_of_ble_eq_true rfl) (Nat.le_of_ble_eq_true rfl) dX12_init_166 (fun al1 iv1 rv1 H a hU hS hI ha hi ei => ?_)
  have hV : KVL [(3, 9, 9), (3, 8, 8), (3, 7, 7), (3, 6, 6), (3, 5, 5), (3, 4, 4), (3, 3, 3), (3, 2, 2), (3, 1, 1), (3, 0, 0)] iv1 := by rw [ei]; exact hV.nw (by decide)
  clear ei
  rw [zi] at ha hi
  clear zi
  refine W.widen (k := 15) (n := 534) (Nat.le_of_ble_eq_true rfl) (Nat.le_of_ble_eq_true rfl) ?_
  refine lv_dup hx hb dX12_init_168 rfl ?_
  refine lv_iconst (v := 0) hx hb dX12_init_169 (by decide) ?_
  refine lv_bipush (v := 30) hx hb dX12_init_170 (by decide) ?_
  refine q_is2 (t := 15) (i := 0) C hU hS hI k_15 (fun _ => rfl) ha hi (x := 0) (ix_in (by decide) (by decide)) (fun _ => Or.inl (by decide)) (fun _ => ⟨show (0 : Int) ≤ _ by decide, show _ ≤ (900 : Int) by decide⟩) dX12_init_172 (fun iv1 H locs hU hS hI ei => ?_)
  have hV : KVL [(15, 0, 30), (3, 9, 9), (3, 8, 8), (3, 7, 7), (3, 6, 6), (3, 5, 5), (3, 4, 4), (3, 3, 3), (3, 2, 2), (3, 1, 1), (3, 0, 0)] iv1 := by rw [ei]; exact hV.up (by decide) (by decide)
  clear ei
  refine lv_dup hx hb dX12_init_173 rfl ?_
  refine lv_iconst (v := 1) hx hb dX12_init_174 (by decide) ?_
  refine lv_bipush (v := 60) hx hb dX12_init_175 (by decide) ?_
  refine q_is2 (t := 15) (i := 0) C hU hS hI k_15 (fun _ => rfl) ha hi (x := 1) (ix_in (by decide) (by decide)) (fun _ => Or.inl (by decide)) (fun _ => ⟨show (0 : Int) ≤ _ by decide, show _ ≤ (900 : Int) by decide⟩) dX12_init_177 (fun iv1 H locs hU hS hI ei => ?_)
  have hV : KVL [(15, 1, 60), (15, 0, 30), (3, 9, 9), (3, 8, 8), (3, 7, 7), (3, 6, 6), (3, 5, 5), (3, 4, 4), (3, 3, 3), (3, 2, 2), (3, 1, 1), (3, 0, 0)] iv1 := by rw [ei]; exact hV.up (by decide) (by decide)
  clear ei
  refine lv_dup hx hb dX12_init_178 rfl ?_
  refine lv_iconst (v := 2) hx hb dX12_init_179 (by decide) ?_
  refine lv_bipush (v := 45) hx hb dX12_init_180 (by decide) ?_
  refine q_is2 (t := 15) (i := 0) C hU hS hI k_15 (fun _ => rfl) ha hi (x := 2) (ix_in (by decide) (by decide)) (fun _ => Or.inl (by decide)) (fun _ => ⟨show (0 : Int) ≤ _ by decide, show _ ≤ (900 : Int) by decide⟩) dX12_init_182 (fun iv1 H locs hU hS hI ei => ?_)
  have hV : KVL [(15, 2, 45), (15, 1, 60), (15, 0, 30), (3, 9, 9), (3, 8, 8), (3, 7, 7), (3, 6, 6), (3, 5, 5), (3, 4, 4), (3, 3, 3), (3, 2, 2), (3, 1, 1), (3, 0, 0)] iv1 := by rw [ei]; exact hV.up (by decide) (by decide)
  clear ei
  refine lv_dup hx hb dX12_init_183 rfl ?_
  refine lv_iconst (v := 3) hx hb dX12_init_184 (by decide) ?_
  refine lv_iconst (v := 5) hx hb dX12_init_185 (by decide) ?_
  refine q_is2 (t := 15) (i := 0) C hU hS hI k_15 (fun _ => rfl) ha hi (x := 3) (ix_in (by decide) (by decide)) (fun _ => Or.inl (by decide)) (fun _ => ⟨show (0 : Int) ≤ _ by decide, show _ ≤ (900 : Int) by decide⟩) dX12_init_186 (fun iv1 H locs hU hS hI ei => ?_)
  have hV : KVL [(15, 3, 5), (15, 2, 45), (15, 1, 60), (15, 0, 30), (3, 9, 9), (3, 8, 8), (3, 7, 7), (3, 6, 6), (3, 5, 5), (3, 4, 4), (3, 3, 3), (3, 2, 2), (3, 1, 1), (3, 0, 0)] iv1 := by rw [ei]; exact hV.up (by decide) (by decide)
  clear ei
  refine q_rp (t0 := 0) (t := 15) (k := 17) C hnm hU hS hI k_0 (hc := rfl) uwX12 tyX12 tyX12_ok nmX12 (by decide) rfl rfl rfl (by decide) fl_X12_53 (fun _ => rfl) (fun _ => rfl) ha hi dX12_init_187 (fun rv1 H locs hU hS hI => ?_)
  clear ha hi
  refine lv_aload_n hx hb dX12_init_190 rfl (lv_at hl 0 rfl) ?_
  refine lv_bipush (v := 7) hx hb dX12_init_191 (by decide) ?_
  refine q_ra2 (t := 16) (ty := .int) C hz0 hU hS hI rfl (Or.inl rfl) k_16 (fun _ => rfl) (by decide) ac_int (by decide) (by decide) (by decide) (Nat.le_of_ble_eq_true rfl) (Nat.le_of_ble_eq_true rfl) dX12_init_193 (fun al1 iv1 rv1 H a hU hS hI ha hi ei => ?_)
  have hV : KVL [(15, 3, 5), (15, 2, 45), (15, 1, 60), (15, 0, 30), (3, 9, 9), (3, 8, 8), (3, 7, 7), (3, 6, 6), (3, 5, 5), (3, 4, 4), (3, 3, 3), (3, 2, 2), (3, 1, 1), (3, 0, 0)] iv1 := by rw [ei]; exact hV.nw (by decide)
  clear ei
  refine W.widen (k := 16) (n := 541) (Nat.le_of_ble_eq_true rfl) (Nat.le_of_ble_eq_true rfl) ?_
  refine q_rp (t0 := 0) (t := 16) (k := 18) C hnm hU hS hI k_0 (hc := rfl) uwX12 tyX12 tyX12_ok nmX12 (by decide) rfl rfl rfl (by decide) fl_X12_56 (fun _ => rfl) (fun _ => rfl) ha hi dX12_init_195 (fun rv1 H locs hU hS hI => ?_)
  clear ha hi
  refine lv_aload_n hx hb dX12_init_198 rfl (lv_at hl 0 rfl) ?_
  refine lv_bipush (v := 6) hx hb dX12_init_199 (by decide) ?_
  refine q_ra2 (t := 17) (ty := .int) C hz0 hU hS hI rfl (Or.inl rfl) k_17 (fun _ => rfl) (by decide) ac_int (by decide) (by decide) (by decide) (Nat.le_of_ble_eq_true rfl) (Nat.le_of_ble_eq_true rfl) dX12_init_201 (fun al1 iv1 rv1 H a hU hS hI ha hi ei => ?_)
  have hV : KVL [(15, 3, 5), (15, 2, 45), (15, 1, 60), (15, 0, 30), (3, 9, 9), (3, 8, 8), (3, 7, 7), (3, 6, 6), (3, 5, 5), (3, 4, 4), (3, 3, 3), (3, 2, 2), (3, 1, 1), (3, 0, 0)] iv1 := by rw [ei]; exact hV.nw (by decide)
  clear ei
  refine W.widen (k := 17) (n := 547) (Nat.le_of_ble_eq_true rfl) (Nat.le_of_ble_eq_true rfl) ?_
  refine q_rp (t0 := 0) (t := 17) (k := 19) C hnm hU hS hI k_0 (hc := rfl) uwX12 tyX12 tyX12_ok nmX12 (by decide) rfl rfl rfl (by decide) fl_X12_59 (fun _ => rfl) (fun _ => rfl) ha hi dX12_init_203 (fun rv1 H locs hU hS hI => ?_)
  clear ha hi
  refine lv_aload_n hx hb dX12_init_206 rfl (lv_at hl 0 rfl) ?_
  refine lv_bipush (v := 80) hx hb dX12_init_207 (by decide) ?_
  refine q_ra2 (t := 18) (ty := .int) C hz0 hU hS hI rfl (Or.inl rfl) k_18 (fun _ => rfl) (by decide) ac_int (by decide) (by decide) (by decide) (Nat.le_of_ble_eq_true rfl) (Nat.le_of_ble_eq_true rfl) dX12_init_209 (fun al1 iv1 rv1 H a hU hS hI ha hi ei => ?_)
  have hV : KVL [(15, 3, 5), (15, 2, 45), (15, 1, 60), (15, 0, 30), (3, 9, 9), (3, 8, 8), (3, 7, 7), (3, 6, 6), (3, 5, 5), (3, 4, 4), (3, 3, 3), (3, 2, 2), (3, 1, 1), (3, 0, 0)] iv1 := by rw [ei]; exact hV.nw (by decide)
  clear ei
  refine W.widen (k := 18) (n := 627) (Nat.le_of_ble_eq_true rfl) (Nat.le_of_ble_eq_true rfl) ?_
  refine q_rp (t0 := 0) (t := 18) (k := 21) C hnm hU hS hI k_0 (hc := rfl) uwX12 tyX12 tyX12_ok nmX12 (by decide) rfl rfl rfl (by decide) fl_X12_62 (fun _ => rfl) (fun _ => rfl) ha hi dX12_init_211 (fun rv1 H locs hU hS hI => ?_)
  clear ha hi
  refine lv_aload_n hx hb dX12_init_214 rfl (lv_at hl 0 rfl) ?_
  refine lv_bipush (v := 20) hx hb dX12_init_215 (by decide) ?_
  refine q_ra2 (t := 19) (ty := .int) C hz0 hU hS hI rfl (Or.inl rfl) k_19 (fun _ => rfl) (by decide) ac_int (by decide) (by decide) (by decide) (Nat.le_of_ble_eq_true rfl) (Nat.le_of_ble_eq_true rfl) dX12_init_217 (fun al1 iv1 rv1 H a hU hS hI ha hi ei => ?_)
  have hV : KVL [(15, 3, 5), (15, 2, 45), (15, 1, 60), (15, 0, 30), (3, 9, 9), (3, 8, 8), (3, 7, 7), (3, 6, 6), (3, 5, 5), (3, 4, 4), (3, 3, 3), (3, 2, 2), (3, 1, 1), (3, 0, 0)] iv1 := by rw [ei]; exact hV.nw (by decide)
  clear ei
  refine W.widen (k := 19) (n := 647) (Nat.le_of_ble_eq_true rfl) (Nat.le_of_ble_eq_true rfl) ?_
  refine q_rp (t0 := 0) (t := 19) (k := 22) C hnm hU hS hI k_0 (hc := rfl) uwX12 tyX12 tyX12_ok nmX12 (by decide) rfl rfl rfl (by decide) fl_X12_65 (fun _ => rfl) (fun _ => rfl) ha hi dX12_init_219 (fun rv1 H locs hU hS hI => ?_)
  clear ha hi
  refine lv_aload_n hx hb dX12_init_222 rfl (lv_at hl 0 rfl) ?_
  refine lv_bipush (v := 40) hx hb dX12_init_223 (by decide) ?_
  refine q_ra2 (t := 20) (ty := .boolean) C hz0 hU hS hI rfl (Or.inr rfl) k_20 (fun _ => rfl) (by decide) ac_boolean (by decide) (by decide) (by decide) (Nat.le_of_ble_eq_true rfl) (Nat.le_of_ble_eq_true rfl) dX12_init_225 (fun al1 iv1 rv1 H a hU hS hI ha hi ei => ?_)
  have hV : KVL [(15, 3, 5), (15, 2, 45), (15, 1, 60), (15, 0, 30), (3, 9, 9), (3, 8, 8), (3, 7, 7), (3, 6, 6), (3, 5, 5), (3, 4, 4), (3, 3, 3), (3, 2, 2), (3, 1, 1), (3, 0, 0)] iv1 := by rw [ei]; exact hV.nw (by decide)
  clear ei
  refine W.widen (k := 20) (n := 687) (Nat.le_of_ble_eq_true rfl) (Nat.le_of_ble_eq_true rfl) ?_
  refine q_rp (t0 := 0) (t := 20) (k := 23) C hnm hU hS hI k_0 (hc := rfl) uwX12 tyX12 tyX12_ok nmX12 (by decide) rfl rfl rfl (by decide) fl_X12_68 (fun _ => rfl) (fun _ => rfl) ha hi dX12_init_227 (fun rv1 H locs hU hS hI => ?_)
  clear ha hi
  refine lv_aload_n hx hb dX12_init_230 rfl (lv_at hl 0 rfl) ?_
  refine lv_bipush (v := 30) hx hb dX12_init_231 (by decide) ?_
  refine q_ra2 (t := 21) (ty := .int) C hz0 hU hS hI rfl (Or.inl rfl) k_21 (fun _ => rfl) (by decide) ac_int (by decide) (by decide) (by decide) (Nat.le_of_ble_eq_true rfl) (Nat.le_of_ble_eq_true rfl) dX12_init_233 (fun al1 iv1 rv1 H a hU hS hI ha hi ei => ?_)
  have hV : KVL [(15, 3, 5), (15, 2, 45), (15, 1, 60), (15, 0, 30), (3, 9, 9), (3, 8, 8), (3, 7, 7), (3, 6, 6), (3, 5, 5), (3, 4, 4), (3, 3, 3), (3, 2, 2), (3, 1, 1), (3, 0, 0)] iv1 := by rw [ei]; exact hV.nw (by decide)
  clear ei
  refine W.widen (k := 21) (n := 717) (Nat.le_of_ble_eq_true rfl) (Nat.le_of_ble_eq_true rfl) ?_
  refine q_rp (t0 := 0) (t := 21) (k := 25) C hnm hU hS hI k_0 (hc := rfl) uwX12 tyX12 tyX12_ok nmX12 (by decide) rfl rfl rfl (by decide) fl_X12_71 (fun _ => rfl) (fun _ => rfl) ha hi dX12_init_235 (fun rv1 H locs hU hS hI => ?_)
  clear ha hi
  refine lv_aload_n hx hb dX12_init_238 rfl (lv_at hl 0 rfl) ?_
  refine lv_bipush (v := 30) hx hb dX12_init_239 (by decide) ?_
  refine q_ra2 (t := 22) (ty := .int) C hz0 hU hS hI rfl (Or.inl rfl) k_22 (fun _ => rfl) (by decide) ac_int (by decide) (by decide) (by decide) (Nat.le_of_ble_eq_true rfl) (Nat.le_of_ble_eq_true rfl) dX12_init_241 (fun al1 iv1 rv1 H a hU hS hI ha hi ei => ?_)
  have hV : KVL [(15, 3, 5), (15, 2, 45), (15, 1, 60), (15, 0, 30), (3, 9, 9), (3, 8, 8), (3, 7, 7), (3, 6, 6), (3, 5, 5), (3, 4, 4), (3, 3, 3), (3, 2, 2), (3, 1, 1), (3, 0, 0)] iv1 := by rw [ei]; exact hV.nw (by decide)
  clear ei
  refine W.widen (k := 22) (n := 747) (Nat.le_of_ble_eq_true rfl) (Nat.le_of_ble_eq_true rfl) ?_
  refine q_rp (t0 := 0) (t := 22) (k := 26) C hnm hU hS hI k_0 (hc := rfl) uwX12 tyX12 tyX12_ok nmX12 (by decide) rfl rfl rfl (by decide) fl_X12_74 (fun _ => rfl) (fun _ => rfl) ha hi dX12_init_243 (fun rv1 H locs hU hS hI => ?_)
  clear ha hi
  refine lv_aload_n hx hb dX12_init_246 rfl (lv_at hl 0 rfl) ?_
  refine lv_bipush (v := 30) hx hb dX12_init_247 (by decide) ?_
  refine q_ra2 (t := 23) (ty := .int) C hz0 hU hS hI rfl (Or.inl rfl) k_23 (fun _ => rfl) (by decide) ac_int (by decide) (by decide) (by decide) (Nat.le_of_ble_eq_true rfl) (Nat.le_of_ble_eq_true rfl) dX12_init_249 (fun al1 iv1 rv1 H a hU hS hI ha hi ei => ?_)
  have hV : KVL [(15, 3, 5), (15, 2, 45), (15, 1, 60), (15, 0, 30), (3, 9, 9), (3, 8, 8), (3, 7, 7), (3, 6, 6), (3, 5, 5), (3, 4, 4), (3, 3, 3), (3, 2, 2), (3, 1, 1), (3, 0, 0)] iv1 := by rw [ei]; exact hV.nw (by decide)
  clear ei
  refine W.widen (k := 23) (n := 777) (Nat.le_of_ble_eq_true rfl) (Nat.le_of_ble_eq_true rfl) ?_
  refine q_rp (t0 := 0) (t := 23) (k := 27) C hnm hU hS hI k_0 (hc := rfl) uwX12 tyX12 tyX12_ok nmX12 (by decide) rfl rfl rfl (by decide) fl_X12_77 (fun _ => rfl) (fun _ => rfl) ha hi dX12_init_251 (fun rv1 H locs hU hS hI => ?_)
  clear ha hi
  refine lv_aload_n hx hb dX12_init_254 rfl (lv_at hl 0 rfl) ?_
  refine lv_bipush (v := 30) hx hb dX12_init_255 (by decide) ?_
  refine q_ra2 (t := 24) (ty := .int) C hz0 hU hS hI rfl (Or.inl rfl) k_24 (fun _ => rfl) (by decide) ac_int (by decide) (by decide) (by decide) (Nat.le_of_ble_eq_true rfl) (Nat.le_of_ble_eq_true rfl) dX12_init_257 (fun al1 iv1 rv1 H a hU hS hI ha hi ei => ?_)
  have hV : KVL [(15, 3, 5), (15, 2, 45), (15, 1, 60), (15, 0, 30), (3, 9, 9), (3, 8, 8), (3, 7, 7), (3, 6, 6), (3, 5, 5), (3, 4, 4), (3, 3, 3), (3, 2, 2), (3, 1, 1), (3, 0, 0)] iv1 := by rw [ei]; exact hV.nw (by decide)
  clear ei
  refine W.widen (k := 24) (n := 807) (Nat.le_of_ble_eq_true rfl) (Nat.le_of_ble_eq_true rfl) ?_
  refine q_rp (t0 := 0) (t := 24) (k := 28) C hnm hU hS hI k_0 (hc := rfl) uwX12 tyX12 tyX12_ok nmX12 (by decide) rfl rfl rfl (by decide) fl_X12_80 (fun _ => rfl) (fun _ => rfl) ha hi dX12_init_259 (fun rv1 H locs hU hS hI => ?_)
  clear ha hi
  refine lv_aload_n hx hb dX12_init_262 rfl (lv_at hl 0 rfl) ?_
  refine lv_bipush (v := 30) hx hb dX12_init_263 (by decide) ?_
  refine q_ra2 (t := 25) (ty := .int) C hz0 hU hS hI rfl (Or.inl rfl) k_25 (fun _ => rfl) (by decide) ac_int (by decide) (by decide) (by decide) (Nat.le_of_ble_eq_true rfl) (Nat.le_of_ble_eq_true rfl) dX12_init_265 (fun al1 iv1 rv1 H a hU hS hI ha hi ei => ?_)
  have hV : KVL [(15, 3, 5), (15, 2, 45), (15, 1, 60), (15, 0, 30), (3, 9, 9), (3, 8, 8), (3, 7, 7), (3, 6, 6), (3, 5, 5), (3, 4, 4), (3, 3, 3), (3, 2, 2), (3, 1, 1), (3, 0, 0)] iv1 := by rw [ei]; exact hV.nw (by decide)
  clear ei
  refine W.widen (k := 25) (n := 837) (Nat.le_of_ble_eq_true rfl) (Nat.le_of_ble_eq_true rfl) ?_
  refine q_rp (t0 := 0) (t := 25) (k := 29) C hnm hU hS hI k_0 (hc := rfl) uwX12 tyX12 tyX12_ok nmX12 (by decide) rfl rfl rfl (by decide) fl_X12_83 (fun _ => rfl) (fun _ => rfl) ha hi dX12_init_267 (fun rv1 H locs hU hS hI => ?_)
  clear ha hi
  refine lv_aload_n hx hb dX12_init_270 rfl (lv_at hl 0 rfl) ?_
  refine lv_bipush (v := 40) hx hb dX12_init_271 (by decide) ?_
  refine q_ra2 (t := 26) (ty := .int) C hz0 hU hS hI rfl (Or.inl rfl) k_26 (fun _ => rfl) (by decide) ac_int (by decide) (by decide) (by decide) (Nat.le_of_ble_eq_true rfl) (Nat.le_of_ble_eq_true rfl) dX12_init_273 (fun al1 iv1 rv1 H a hU hS hI ha hi ei => ?_)
  have hV : KVL [(15, 3, 5), (15, 2, 45), (15, 1, 60), (15, 0, 30), (3, 9, 9), (3, 8, 8), (3, 7, 7), (3, 6, 6), (3, 5, 5), (3, 4, 4), (3, 3, 3), (3, 2, 2), (3, 1, 1), (3, 0, 0)] iv1 := by rw [ei]; exact hV.nw (by decide)
  clear ei
  refine W.widen (k := 26) (n := 877) (Nat.le_of_ble_eq_true rfl) (Nat.le_of_ble_eq_true rfl) ?_
  refine q_rp (t0 := 0) (t := 26) (k := 31) C hnm hU hS hI k_0 (hc := rfl) uwX12 tyX12 tyX12_ok nmX12 (by decide) rfl rfl rfl (by decide) fl_X12_86 (fun _ => rfl) (fun _ => rfl) ha hi dX12_init_275 (fun rv1 H locs hU hS hI => ?_)
  clear ha hi
  refine lv_aload_n hx hb dX12_init_278 rfl (lv_at hl 0 rfl) ?_
  refine lv_bipush (v := 40) hx hb dX12_init_279 (by decide) ?_
  refine q_ra2 (t := 27) (ty := .int) C hz0 hU hS hI rfl (Or.inl rfl) k_27 (fun _ => rfl) (by decide) ac_int (by decide) (by decide) (by decide) (Nat.le_of_ble_eq_true rfl) (Nat.le_of_ble_eq_true rfl) dX12_init_281 (fun al1 iv1 rv1 H a hU hS hI ha hi ei => ?_)
  have hV : KVL [(15, 3, 5), (15, 2, 45), (15, 1, 60), (15, 0, 30), (3, 9, 9), (3, 8, 8), (3, 7, 7), (3, 6, 6), (3, 5, 5), (3, 4, 4), (3, 3, 3), (3, 2, 2), (3, 1, 1), (3, 0, 0)] iv1 := by rw [ei]; exact hV.nw (by decide)
  clear ei
  refine W.widen (k := 27) (n := 917) (Nat.le_of_ble_eq_true rfl) (Nat.le_of_ble_eq_true rfl) ?_
  refine q_rp (t0 := 0) (t := 27) (k := 32) C hnm hU hS hI k_0 (hc := rfl) uwX12 tyX12 tyX12_ok nmX12 (by decide) rfl rfl rfl (by decide) fl_X12_89 (fun _ => rfl) (fun _ => rfl) ha hi dX12_init_283 (fun rv1 H locs hU hS hI => ?_)
  clear ha hi
  refine lv_aload_n hx hb dX12_init_286 rfl (lv_at hl 0 rfl) ?_
  refine lv_bipush (v := 40) hx hb dX12_init_287 (by decide) ?_
  refine q_ra2 (t := 28) (ty := .int) C hz0 hU hS hI rfl (Or.inl rfl) k_28 (fun _ => rfl) (by decide) ac_int (by decide) (by decide) (by decide) (Nat.le_of_ble_eq_true rfl) (Nat.le_of_ble_eq_true rfl) dX12_init_289 (fun al1 iv1 rv1 H a hU hS hI ha hi ei => ?_)
  have hV : KVL [(15, 3, 5), (15, 2, 45), (15, 1, 60), (15, 0, 30), (3, 9, 9), (3, 8, 8), (3, 7, 7), (3, 6, 6), (3, 5, 5), (3, 4, 4), (3, 3, 3), (3, 2, 2), (3, 1, 1), (3, 0, 0)] iv1 := by rw [ei]; exact hV.nw (by decide)
  clear ei
  refine W.widen (k := 28) (n := 957) (Nat.le_of_ble_eq_true rfl) (Nat.le_of_ble_eq_true rfl) ?_
  refine q_rp (t0 := 0) (t := 28) (k := 33) C hnm hU hS hI k_0 (hc := rfl) uwX12 tyX12 tyX12_ok nmX12 (by decide) rfl rfl rfl (by decide) fl_X12_92 (fun _ => rfl) (fun _ => rfl) ha hi dX12_init_291 (fun rv1 H locs hU hS hI => ?_)
  clear ha hi
  refine lv_aload_n hx hb dX12_init_294 rfl (lv_at hl 0 rfl) ?_
  refine lv_bipush (v := 40) hx hb dX12_init_295 (by decide) ?_
  refine q_ra2 (t := 29) (ty := .int) C hz0 hU hS hI rfl (Or.inl rfl) k_29 (fun _ => rfl) (by decide) ac_int (by decide) (by decide) (by decide) (Nat.le_of_ble_eq_true rfl) (Nat.le_of_ble_eq_true rfl) dX12_init_297 (fun al1 iv1 rv1 H a hU hS hI ha hi ei => ?_)
  have hV : KVL [(15, 3, 5), (15, 2, 45), (15, 1, 60), (15, 0, 30), (3, 9, 9), (3, 8, 8), (3, 7, 7), (3, 6, 6), (3, 5, 5), (3, 4, 4), (3, 3, 3), (3, 2, 2), (3, 1, 1), (3, 0, 0)] iv1 := by rw [ei]; exact hV.nw (by decide)
  clear ei
  refine W.widen (k := 29) (n := 997) (Nat.le_of_ble_eq_true rfl) (Nat.le_of_ble_eq_true rfl) ?_
  refine q_rp (t0 := 0) (t := 29) (k := 34) C hnm hU hS hI k_0 (hc := rfl) uwX12 tyX12 tyX12_ok nmX12 (by decide) rfl rfl rfl (by decide) fl_X12_95 (fun _ => rfl) (fun _ => rfl) ha hi dX12_init_299 (fun rv1 H locs hU hS hI => ?_)
  clear ha hi
  refine lv_aload_n hx hb dX12_init_302 rfl (lv_at hl 0 rfl) ?_
  refine lv_bipush (v := 40) hx hb dX12_init_303 (by decide) ?_
  refine q_ra2 (t := 30) (ty := .boolean) C hz0 hU hS hI rfl (Or.inr rfl) k_30 (fun _ => rfl) (by decide) ac_boolean (by decide) (by decide) (by decide) (Nat.le_of_ble_eq_true rfl) (Nat.le_of_ble_eq_true rfl) dX12_init_305 (fun al1 iv1 rv1 H a hU hS hI ha hi ei => ?_)
  have hV : KVL [(15, 3, 5), (15, 2, 45), (15, 1, 60), (15, 0, 30), (3, 9, 9), (3, 8, 8), (3, 7, 7), (3, 6, 6), (3, 5, 5), (3, 4, 4), (3, 3, 3), (3, 2, 2), (3, 1, 1), (3, 0, 0)] iv1 := by rw [ei]; exact hV.nw (by decide)
  clear ei
  refine W.widen (k := 30) (n := 1037) (Nat.le_of_ble_eq_true rfl) (Nat.le_of_ble_eq_true rfl) ?_
  refine q_rp (t0 := 0) (t := 30) (k := 35) C hnm hU hS hI k_0 (hc := rfl) uwX12 tyX12 tyX12_ok nmX12 (by decide) rfl rfl rfl (by decide) fl_X12_98 (fun _ => rfl) (fun _ => rfl) ha hi dX12_init_307 (fun rv1 H locs hU hS hI => ?_)
  clear ha hi
  refine lv_aload_n hx hb dX12_init_310 rfl (lv_at hl 0 rfl) ?_
  refine lv_iconst (v := 4) hx hb dX12_init_311 (by decide) ?_
  refine q_ra2 (t := 31) (ty := .int) C hz0 hU hS hI rfl (Or.inl rfl) k_31 (fun _ => rfl) (by decide) ac_int (by decide) (by decide) (by decide) (Nat.le_of_ble_eq_true rfl) (Nat.le_of_ble_eq_true rfl) dX12_init_312 (fun al1 iv1 rv1 H a hU hS hI ha hi ei => ?_)
  have hV : KVL [(15, 3, 5), (15, 2, 45), (15, 1, 60), (15, 0, 30), (3, 9, 9), (3, 8, 8), (3, 7, 7), (3, 6, 6), (3, 5, 5), (3, 4, 4), (3, 3, 3), (3, 2, 2), (3, 1, 1), (3, 0, 0)] iv1 := by rw [ei]; exact hV.nw (by decide)
  clear ei
  refine W.widen (k := 31) (n := 1041) (Nat.le_of_ble_eq_true rfl) (Nat.le_of_ble_eq_true rfl) ?_
  refine q_rp (t0 := 0) (t := 31) (k := 36) C hnm hU hS hI k_0 (hc := rfl) uwX12 tyX12 tyX12_ok nmX12 (by decide) rfl rfl rfl (by decide) fl_X12_101 (fun _ => rfl) (fun _ => rfl) ha hi dX12_init_314 (fun rv1 H locs hU hS hI => ?_)
  clear ha hi
  refine lv_aload_n hx hb dX12_init_317 rfl (lv_at hl 0 rfl) ?_
  refine lv_bipush (v := 20) hx hb dX12_init_318 (by decide) ?_
  refine q_ra2 (t := 32) (ty := .int) C hz0 hU hS hI rfl (Or.inl rfl) k_32 (fun _ => rfl) (by decide) ac_int (by decide) (by decide) (by decide) (Nat.le_of_ble_eq_true rfl) (Nat.le_of_ble_eq_true rfl) dX12_init_320 (fun al1 iv1 rv1 H a hU hS hI ha hi ei => ?_)
  have hV : KVL [(15, 3, 5), (15, 2, 45), (15, 1, 60), (15, 0, 30), (3, 9, 9), (3, 8, 8), (3, 7, 7), (3, 6, 6), (3, 5, 5), (3, 4, 4), (3, 3, 3), (3, 2, 2), (3, 1, 1), (3, 0, 0)] iv1 := by rw [ei]; exact hV.nw (by decide)
  clear ei
  refine W.widen (k := 32) (n := 1061) (Nat.le_of_ble_eq_true rfl) (Nat.le_of_ble_eq_true rfl) ?_
  refine q_rp (t0 := 0) (t := 32) (k := 38) C hnm hU hS hI k_0 (hc := rfl) uwX12 tyX12 tyX12_ok nmX12 (by decide) rfl rfl rfl (by decide) fl_X12_104 (fun _ => rfl) (fun _ => rfl) ha hi dX12_init_322 (fun rv1 H locs hU hS hI => ?_)
  clear ha hi
  refine lv_aload_n hx hb dX12_init_325 rfl (lv_at hl 0 rfl) ?_
  refine lv_bipush (v := 20) hx hb dX12_init_326 (by decide) ?_
  refine q_ra2 (t := 33) (ty := .int) C hz0 hU hS hI rfl (Or.inl rfl) k_33 (fun _ => rfl) (by decide) ac_int (by decide) (by decide) (by decide) (Nat.le_of_ble_eq_true rfl) (Nat.le_of_ble_eq_true rfl) dX12_init_328 (fun al1 iv1 rv1 H a hU hS hI ha hi ei => ?_)
  have hV : KVL [(15, 3, 5), (15, 2, 45), (15, 1, 60), (15, 0, 30), (3, 9, 9), (3, 8, 8), (3, 7, 7), (3, 6, 6), (3, 5, 5), (3, 4, 4), (3, 3, 3), (3, 2, 2), (3, 1, 1), (3, 0, 0)] iv1 := by rw [ei]; exact hV.nw (by decide)
  clear ei
  refine W.widen (k := 33) (n := 1081) (Nat.le_of_ble_eq_true rfl) (Nat.le_of_ble_eq_true rfl) ?_
  refine q_rp (t0 := 0) (t := 33) (k := 39) C hnm hU hS hI k_0 (hc := rfl) uwX12 tyX12 tyX12_ok nmX12 (by decide) rfl rfl rfl (by decide) fl_X12_107 (fun _ => rfl) (fun _ => rfl) ha hi dX12_init_330 (fun rv1 H locs hU hS hI => ?_)
  clear ha hi
  refine lv_aload_n hx hb dX12_init_333 rfl (lv_at hl 0 rfl) ?_
  refine lv_bipush (v := 20) hx hb dX12_init_334 (by decide) ?_
  refine q_ra2 (t := 34) (ty := .int) C hz0 hU hS hI rfl (Or.inl rfl) k_34 (fun _ => rfl) (by decide) ac_int (by decide) (by decide) (by decide) (Nat.le_of_ble_eq_true rfl) (Nat.le_of_ble_eq_true rfl) dX12_init_336 (fun al1 iv1 rv1 H a hU hS hI ha hi ei => ?_)
  have hV : KVL [(15, 3, 5), (15, 2, 45), (15, 1, 60), (15, 0, 30), (3, 9, 9), (3, 8, 8), (3, 7, 7), (3, 6, 6), (3, 5, 5), (3, 4, 4), (3, 3, 3), (3, 2, 2), (3, 1, 1), (3, 0, 0)] iv1 := by rw [ei]; exact hV.nw (by decide)
  clear ei
  refine W.widen (k := 34) (n := 1101) (Nat.le_of_ble_eq_true rfl) (Nat.le_of_ble_eq_true rfl) ?_
  refine q_rp (t0 := 0) (t := 34) (k := 40) C hnm hU hS hI k_0 (hc := rfl) uwX12 tyX12 tyX12_ok nmX12 (by decide) rfl rfl rfl (by decide) fl_X12_110 (fun _ => rfl) (fun _ => rfl) ha hi dX12_init_338 (fun rv1 H locs hU hS hI => ?_)
  clear ha hi
  refine lv_aload_n hx hb dX12_init_341 rfl (lv_at hl 0 rfl) ?_
  refine lv_bipush (v := 30) hx hb dX12_init_342 (by decide) ?_
  refine q_ra2 (t := 35) (ty := .int) C hz0 hU hS hI rfl (Or.inl rfl) k_35 (fun _ => rfl) (by decide) ac_int (by decide) (by decide) (by decide) (Nat.le_of_ble_eq_true rfl) (Nat.le_of_ble_eq_true rfl) dX12_init_344 (fun al1 iv1 rv1 H a hU hS hI ha hi ei => ?_)
  have hV : KVL [(15, 3, 5), (15, 2, 45), (15, 1, 60), (15, 0, 30), (3, 9, 9), (3, 8, 8), (3, 7, 7), (3, 6, 6), (3, 5, 5), (3, 4, 4), (3, 3, 3), (3, 2, 2), (3, 1, 1), (3, 0, 0)] iv1 := by rw [ei]; exact hV.nw (by decide)
  clear ei
  refine W.widen (k := 35) (n := 1131) (Nat.le_of_ble_eq_true rfl) (Nat.le_of_ble_eq_true rfl) ?_
  refine q_rp (t0 := 0) (t := 35) (k := 42) C hnm hU hS hI k_0 (hc := rfl) uwX12 tyX12 tyX12_ok nmX12 (by decide) rfl rfl rfl (by decide) fl_X12_113 (fun _ => rfl) (fun _ => rfl) ha hi dX12_init_346 (fun rv1 H locs hU hS hI => ?_)
  clear ha hi
  refine lv_aload_n hx hb dX12_init_349 rfl (lv_at hl 0 rfl) ?_
  refine lv_bipush (v := 30) hx hb dX12_init_350 (by decide) ?_
  refine q_ra2 (t := 36) (ty := .int) C hz0 hU hS hI rfl (Or.inl rfl) k_36 (fun _ => rfl) (by decide) ac_int (by decide) (by decide) (by decide) (Nat.le_of_ble_eq_true rfl) (Nat.le_of_ble_eq_true rfl) dX12_init_352 (fun al1 iv1 rv1 H a hU hS hI ha hi ei => ?_)
  have hV : KVL [(15, 3, 5), (15, 2, 45), (15, 1, 60), (15, 0, 30), (3, 9, 9), (3, 8, 8), (3, 7, 7), (3, 6, 6), (3, 5, 5), (3, 4, 4), (3, 3, 3), (3, 2, 2), (3, 1, 1), (3, 0, 0)] iv1 := by rw [ei]; exact hV.nw (by decide)
  clear ei
  refine W.widen (k := 36) (n := 1161) (Nat.le_of_ble_eq_true rfl) (Nat.le_of_ble_eq_true rfl) ?_
  refine q_rp (t0 := 0) (t := 36) (k := 43) C hnm hU hS hI k_0 (hc := rfl) uwX12 tyX12 tyX12_ok nmX12 (by decide) rfl rfl rfl (by decide) fl_X12_116 (fun _ => rfl) (fun _ => rfl) ha hi dX12_init_354 (fun rv1 H locs hU hS hI => ?_)
  clear ha hi
  refine lv_aload_n hx hb dX12_init_357 rfl (lv_at hl 0 rfl) ?_
  refine lv_bipush (v := 100) hx hb dX12_init_358 (by decide) ?_
  refine q_ra2 (t := 37) (ty := .int) C hz0 hU hS hI rfl (Or.inl rfl) k_37 (fun _ => rfl) (by decide) ac_int (by decide) (by decide) (by decide) (Nat.le_of_ble_eq_true rfl) (Nat.le_of_ble_eq_true rfl) dX12_init_360 (fun al1 iv1 rv1 H a hU hS hI ha hi ei => ?_)
  have hV : KVL [(15, 3, 5), (15, 2, 45), (15, 1, 60), (15, 0, 30), (3, 9, 9), (3, 8, 8), (3, 7, 7), (3, 6, 6), (3, 5, 5), (3, 4, 4), (3, 3, 3), (3, 2, 2), (3, 1, 1), (3, 0, 0)] iv1 := by rw [ei]; exact hV.nw (by decide)
  clear ei
  refine W.widen (k := 37) (n := 1261) (Nat.le_of_ble_eq_true rfl) (Nat.le_of_ble_eq_true rfl) ?_
  refine q_rp (t0 := 0) (t := 37) (k := 44) C hnm hU hS hI k_0 (hc := rfl) uwX12 tyX12 tyX12_ok nmX12 (by decide) rfl rfl rfl (by decide) fl_X12_119 (fun _ => rfl) (fun _ => rfl) ha hi dX12_init_362 (fun rv1 H locs hU hS hI => ?_)
  clear ha hi
  refine lv_aload_n hx hb dX12_init_365 rfl (lv_at hl 0 rfl) ?_
  refine lv_sipush (v := 150) hx hb dX12_init_366 (by decide) ?_
  refine q_ra2 (t := 38) (ty := .int) C hz0 hU hS hI rfl (Or.inl rfl) k_38 (fun _ => rfl) (by decide) ac_int (by decide) (by decide) (by decide) (Nat.le_of_ble_eq_true rfl) (Nat.le_of_ble_eq_true rfl) dX12_init_369 (fun al1 iv1 rv1 H a hU hS hI ha hi ei => ?_)
  have hV : KVL [(15, 3, 5), (15, 2, 45), (15, 1, 60), (15, 0, 30), (3, 9, 9), (3, 8, 8), (3, 7, 7), (3, 6, 6), (3, 5, 5), (3, 4, 4), (3, 3, 3), (3, 2, 2), (3, 1, 1), (3, 0, 0)] iv1 := by rw [ei]; exact hV.nw (by decide)
  clear ei
  refine W.widen (k := 38) (n := 1411) (Nat.le_of_ble_eq_true rfl) (Nat.le_of_ble_eq_true rfl) ?_
  refine q_rp (t0 := 0) (t := 38) (k := 45) C hnm hU hS hI k_0 (hc := rfl) uwX12 tyX12 tyX12_ok nmX12 (by decide) rfl rfl rfl (by decide) fl_X12_122 (fun _ => rfl) (fun _ => rfl) ha hi dX12_init_371 (fun rv1 H locs hU hS hI => ?_)
  clear ha hi
  refine lv_aload_n hx hb dX12_init_374 rfl (lv_at hl 0 rfl) ?_
  refine lv_bipush (v := 32) hx hb dX12_init_375 (by decide) ?_
  refine q_ra2 (t := 39) (ty := .int) C hz0 hU hS hI rfl (Or.inl rfl) k_39 (fun _ => rfl) (by decide) ac_int (by decide) (by decide) (by decide) (Nat.le_of_ble_eq_true rfl) (Nat.le_of_ble_eq_true rfl) dX12_init_377 (fun al1 iv1 rv1 H a hU hS hI ha hi ei => ?_)
  have hV : KVL [(15, 3, 5), (15, 2, 45), (15, 1, 60), (15, 0, 30), (3, 9, 9), (3, 8, 8), (3, 7, 7), (3, 6, 6), (3, 5, 5), (3, 4, 4), (3, 3, 3), (3, 2, 2), (3, 1, 1), (3, 0, 0)] iv1 := by rw [ei]; exact hV.nw (by decide)
  clear ei
  refine W.widen (k := 39) (n := 1443) (Nat.le_of_ble_eq_true rfl) (Nat.le_of_ble_eq_true rfl) ?_
  refine q_rp (t0 := 0) (t := 39) (k := 46) C hnm hU hS hI k_0 (hc := rfl) uwX12 tyX12 tyX12_ok nmX12 (by decide) rfl rfl rfl (by decide) fl_X12_125 (fun _ => rfl) (fun _ => rfl) ha hi dX12_init_379 (fun rv1 H locs hU hS hI => ?_)
  clear ha hi
  refine lv_aload_n hx hb dX12_init_382 rfl (lv_at hl 0 rfl) ?_
  refine lv_bipush (v := 32) hx hb dX12_init_383 (by decide) ?_
  refine q_ra2 (t := 40) (ty := .int) C hz0 hU hS hI rfl (Or.inl rfl) k_40 (fun _ => rfl) (by decide) ac_int (by decide) (by decide) (by decide) (Nat.le_of_ble_eq_true rfl) (Nat.le_of_ble_eq_true rfl) dX12_init_385 (fun al1 iv1 rv1 H a hU hS hI ha hi ei => ?_)
  have hV : KVL [(15, 3, 5), (15, 2, 45), (15, 1, 60), (15, 0, 30), (3, 9, 9), (3, 8, 8), (3, 7, 7), (3, 6, 6), (3, 5, 5), (3, 4, 4), (3, 3, 3), (3, 2, 2), (3, 1, 1), (3, 0, 0)] iv1 := by rw [ei]; exact hV.nw (by decide)
  clear ei
  refine W.widen (k := 40) (n := 1475) (Nat.le_of_ble_eq_true rfl) (Nat.le_of_ble_eq_true rfl) ?_
  refine q_rp (t0 := 0) (t := 40) (k := 47) C hnm hU hS hI k_0 (hc := rfl) uwX12 tyX12 tyX12_ok nmX12 (by decide) rfl rfl rfl (by decide) fl_X12_128 (fun _ => rfl) (fun _ => rfl) ha hi dX12_init_387 (fun rv1 H locs hU hS hI => ?_)
  clear ha hi
  refine lv_aload_n hx hb dX12_init_390 rfl (lv_at hl 0 rfl) ?_
  refine lv_bipush (v := 40) hx hb dX12_init_391 (by decide) ?_
  refine q_ra2 (t := 41) (ty := .int) C hz0 hU hS hI rfl (Or.inl rfl) k_41 (fun _ => rfl) (by decide) ac_int (by decide) (by decide) (by decide) (Nat.le_of_ble_eq_true rfl) (Nat.le_of_ble_eq_true rfl) dX12_init_393 (fun al1 iv1 rv1 H a hU hS hI ha hi ei => ?_)
  have hV : KVL [(15, 3, 5), (15, 2, 45), (15, 1, 60), (15, 0, 30), (3, 9, 9), (3, 8, 8), (3, 7, 7), (3, 6, 6), (3, 5, 5), (3, 4, 4), (3, 3, 3), (3, 2, 2), (3, 1, 1), (3, 0, 0)] iv1 := by rw [ei]; exact hV.nw (by decide)
  clear ei
  refine W.widen (k := 41) (n := 1515) (Nat.le_of_ble_eq_true rfl) (Nat.le_of_ble_eq_true rfl) ?_
  refine q_rp (t0 := 0) (t := 41) (k := 49) C hnm hU hS hI k_0 (hc := rfl) uwX12 tyX12 tyX12_ok nmX12 (by decide) rfl rfl rfl (by decide) fl_X12_131 (fun _ => rfl) (fun _ => rfl) ha hi dX12_init_395 (fun rv1 H locs hU hS hI => ?_)
  clear ha hi
  refine lv_aload_n hx hb dX12_init_398 rfl (lv_at hl 0 rfl) ?_
  refine lv_bipush (v := 40) hx hb dX12_init_399 (by decide) ?_
  refine q_ra2 (t := 42) (ty := .int) C hz0 hU hS hI rfl (Or.inl rfl) k_42 (fun _ => rfl) (by decide) ac_int (by decide) (by decide) (by decide) (Nat.le_of_ble_eq_true rfl) (Nat.le_of_ble_eq_true rfl) dX12_init_401 (fun al1 iv1 rv1 H a hU hS hI ha hi ei => ?_)
  have hV : KVL [(15, 3, 5), (15, 2, 45), (15, 1, 60), (15, 0, 30), (3, 9, 9), (3, 8, 8), (3, 7, 7), (3, 6, 6), (3, 5, 5), (3, 4, 4), (3, 3, 3), (3, 2, 2), (3, 1, 1), (3, 0, 0)] iv1 := by rw [ei]; exact hV.nw (by decide)
  clear ei
  refine W.widen (k := 42) (n := 1555) (Nat.le_of_ble_eq_true rfl) (Nat.le_of_ble_eq_true rfl) ?_
  refine q_rp (t0 := 0) (t := 42) (k := 50) C hnm hU hS hI k_0 (hc := rfl) uwX12 tyX12 tyX12_ok nmX12 (by decide) rfl rfl rfl (by decide) fl_X12_134 (fun _ => rfl) (fun _ => rfl) ha hi dX12_init_403 (fun rv1 H locs hU hS hI => ?_)
  clear ha hi
  refine lv_aload_n hx hb dX12_init_406 rfl (lv_at hl 0 rfl) ?_
  refine lv_bipush (v := 40) hx hb dX12_init_407 (by decide) ?_
  refine q_ra2 (t := 43) (ty := .int) C hz0 hU hS hI rfl (Or.inl rfl) k_43 (fun _ => rfl) (by decide) ac_int (by decide) (by decide) (by decide) (Nat.le_of_ble_eq_true rfl) (Nat.le_of_ble_eq_true rfl) dX12_init_409 (fun al1 iv1 rv1 H a hU hS hI ha hi ei => ?_)
  have hV : KVL [(15, 3, 5), (15, 2, 45), (15, 1, 60), (15, 0, 30), (3, 9, 9), (3, 8, 8), (3, 7, 7), (3, 6, 6), (3, 5, 5), (3, 4, 4), (3, 3, 3), (3, 2, 2), (3, 1, 1), (3, 0, 0)] iv1 := by rw [ei]; exact hV.nw (by decide)
  clear ei
  refine W.widen (k := 43) (n := 1595) (Nat.le_of_ble_eq_true rfl) (Nat.le_of_ble_eq_true rfl) ?_
  refine q_rp (t0 := 0) (t := 43) (k := 51) C hnm hU hS hI k_0 (hc := rfl) uwX12 tyX12 tyX12_ok nmX12 (by decide) rfl rfl rfl (by decide) fl_X12_137 (fun _ => rfl) (fun _ => rfl) ha hi dX12_init_411 (fun rv1 H locs hU hS hI => ?_)
  clear ha hi
  refine lv_aload_n hx hb dX12_init_414 rfl (lv_at hl 0 rfl) ?_
  refine lv_bipush (v := 40) hx hb dX12_init_415 (by decide) ?_
  refine q_ra2 (t := 44) (ty := .int) C hz0 hU hS hI rfl (Or.inl rfl) k_44 (fun _ => rfl) (by decide) ac_int (by decide) (by decide) (by decide) (Nat.le_of_ble_eq_true rfl) (Nat.le_of_ble_eq_true rfl) dX12_init_417 (fun al1 iv1 rv1 H a hU hS hI ha hi ei => ?_)
  have hV : KVL [(15, 3, 5), (15, 2, 45), (15, 1, 60), (15, 0, 30), (3, 9, 9), (3, 8, 8), (3, 7, 7), (3, 6, 6), (3, 5, 5), (3, 4, 4), (3, 3, 3), (3, 2, 2), (3, 1, 1), (3, 0, 0)] iv1 := by rw [ei]; exact hV.nw (by decide)
  clear ei
  refine W.widen (k := 44) (n := 1635) (Nat.le_of_ble_eq_true rfl) (Nat.le_of_ble_eq_true rfl) ?_
  refine q_rp (t0 := 0) (t := 44) (k := 52) C hnm hU hS hI k_0 (hc := rfl) uwX12 tyX12 tyX12_ok nmX12 (by decide) rfl rfl rfl (by decide) fl_X12_140 (fun _ => rfl) (fun _ => rfl) ha hi dX12_init_419 (fun rv1 H locs hU hS hI => ?_)
  clear ha hi
  refine lv_aload_n hx hb dX12_init_422 rfl (lv_at hl 0 rfl) ?_
  refine lv_bipush (v := 40) hx hb dX12_init_423 (by decide) ?_
  refine q_ra2 (t := 45) (ty := .boolean) C hz0 hU hS hI rfl (Or.inr rfl) k_45 (fun _ => rfl) (by decide) ac_boolean (by decide) (by decide) (by decide) (Nat.le_of_ble_eq_true rfl) (Nat.le_of_ble_eq_true rfl) dX12_init_425 (fun al1 iv1 rv1 H a hU hS hI ha hi ei => ?_)
  have hV : KVL [(15, 3, 5), (15, 2, 45), (15, 1, 60), (15, 0, 30), (3, 9, 9), (3, 8, 8), (3, 7, 7), (3, 6, 6), (3, 5, 5), (3, 4, 4), (3, 3, 3), (3, 2, 2), (3, 1, 1), (3, 0, 0)] iv1 := by rw [ei]; exact hV.nw (by decide)
  clear ei
  refine W.widen (k := 45) (n := 1675) (Nat.le_of_ble_eq_true rfl) (Nat.le_of_ble_eq_true rfl) ?_
  refine q_rp (t0 := 0) (t := 45) (k := 53) C hnm hU hS hI k_0 (hc := rfl) uwX12 tyX12 tyX12_ok nmX12 (by decide) rfl rfl rfl (by decide) fl_X12_143 (fun _ => rfl) (fun _ => rfl) ha hi dX12_init_427 (fun rv1 H locs hU hS hI => ?_)
  clear ha hi
  refine lv_aload_n hx hb dX12_init_430 rfl (lv_at hl 0 rfl) ?_
  refine lv_bipush (v := 40) hx hb dX12_init_431 (by decide) ?_
  refine q_ra2 (t := 46) (ty := .int) C hz0 hU hS hI rfl (Or.inl rfl) k_46 (fun _ => rfl) (by decide) ac_int (by decide) (by decide) (by decide) (Nat.le_of_ble_eq_true rfl) (Nat.le_of_ble_eq_true rfl) dX12_init_433 (fun al1 iv1 rv1 H a hU hS hI ha hi ei => ?_)
  have hV : KVL [(15, 3, 5), (15, 2, 45), (15, 1, 60), (15, 0, 30), (3, 9, 9), (3, 8, 8), (3, 7, 7), (3, 6, 6), (3, 5, 5), (3, 4, 4), (3, 3, 3), (3, 2, 2), (3, 1, 1), (3, 0, 0)] iv1 := by rw [ei]; exact hV.nw (by decide)
  clear ei
  refine W.widen (k := 46) (n := 1715) (Nat.le_of_ble_eq_true rfl) (Nat.le_of_ble_eq_true rfl) ?_
  refine q_rp (t0 := 0) (t := 46) (k := 54) C hnm hU hS hI k_0 (hc := rfl) uwX12 tyX12 tyX12_ok nmX12 (by decide) rfl rfl rfl (by decide) fl_X12_146 (fun _ => rfl) (fun _ => rfl) ha hi dX12_init_435 (fun rv1 H locs hU hS hI => ?_)
  clear ha hi
  refine lv_aload_n hx hb dX12_init_438 rfl (lv_at hl 0 rfl) ?_
  refine lv_bipush (v := 40) hx hb dX12_init_439 (by decide) ?_
  refine q_ra2 (t := 47) (ty := .int) C hz0 hU hS hI rfl (Or.inl rfl) k_47 (fun _ => rfl) (by decide) ac_int (by decide) (by decide) (by decide) (Nat.le_of_ble_eq_true rfl) (Nat.le_of_ble_eq_true rfl) dX12_init_441 (fun al1 iv1 rv1 H a hU hS hI ha hi ei => ?_)
  have hV : KVL [(15, 3, 5), (15, 2, 45), (15, 1, 60), (15, 0, 30), (3, 9, 9), (3, 8, 8), (3, 7, 7), (3, 6, 6), (3, 5, 5), (3, 4, 4), (3, 3, 3), (3, 2, 2), (3, 1, 1), (3, 0, 0)] iv1 := by rw [ei]; exact hV.nw (by decide)
  clear ei
  refine W.widen (k := 47) (n := 1755) (Nat.le_of_ble_eq_true rfl) (Nat.le_of_ble_eq_true rfl) ?_
  refine q_rp (t0 := 0) (t := 47) (k := 58) C hnm hU hS hI k_0 (hc := rfl) uwX12 tyX12 tyX12_ok nmX12 (by decide) rfl rfl rfl (by decide) fl_X12_149 (fun _ => rfl) (fun _ => rfl) ha hi dX12_init_443 (fun rv1 H locs hU hS hI => ?_)
  clear ha hi
  refine lv_aload_n hx hb dX12_init_446 rfl (lv_at hl 0 rfl) ?_
  refine lv_bipush (v := 40) hx hb dX12_init_447 (by decide) ?_
  refine q_ra2 (t := 48) (ty := .int) C hz0 hU hS hI rfl (Or.inl rfl) k_48 (fun _ => rfl) (by decide) ac_int (by decide) (by decide) (by decide) (Nat.le_of_ble_eq_true rfl) (Nat.le_of_ble_eq_true rfl) dX12_init_449 (fun al1 iv1 rv1 H a hU hS hI ha hi ei => ?_)
  have hV : KVL [(15, 3, 5), (15, 2, 45), (15, 1, 60), (15, 0, 30), (3, 9, 9), (3, 8, 8), (3, 7, 7), (3, 6, 6), (3, 5, 5), (3, 4, 4), (3, 3, 3), (3, 2, 2), (3, 1, 1), (3, 0, 0)] iv1 := by rw [ei]; exact hV.nw (by decide)
  clear ei
  refine W.widen (k := 48) (n := 1795) (Nat.le_of_ble_eq_true rfl) (Nat.le_of_ble_eq_true rfl) ?_
  refine q_rp (t0 := 0) (t := 48) (k := 59) C hnm hU hS hI k_0 (hc := rfl) uwX12 tyX12 tyX12_ok nmX12 (by decide) rfl rfl rfl (by decide) fl_X12_152 (fun _ => rfl) (fun _ => rfl) ha hi dX12_init_451 (fun rv1 H locs hU hS hI => ?_)
  clear ha hi
  refine lv_iconst (v := 0) hx hb dX12_init_454 (by decide) ?_
  obtain ⟨hR, hB, hE, hN, ho_o, hi_o⟩ := hI
  refine lv_istore_n (lv' := [(1, .int 0), (0, .ref o)]) hx hb dX12_init_455 rfl hl (by decide) rfl (fun ls hl => ?_)
  obtain ⟨jb, ejb⟩ := hN 36 (by decide)
  have hjb : jb < al1.1 31 := hB 0 i0 36 31 hi_o (by decide) rfl jb ejb
  have c31 : al1.1 31 = 1 := by rw [hE.1 31, cz 31 (by decide) (by decide)]; rfl
  have jb0 : jb = 0 := by omega
  subst jb0
  have LP : ∀ (n : Nat) (x : Int32) (iv1 : Iv) (H : Heap) (locs : List Loc) (ls : Array Slot), lv_has ls 2 [(1, .int x), (0, .ref o)] → (0 ≤ x.toInt ∧ x.toInt ≤ 4) → (4 - x.toInt).toNat < n → (KVL [(15, 3, 5), (15, 2, 45), (15, 1, 60), (15, 0, 30), (3, 9, 9), (3, 8, 8), (3, 7, 7), (3, 6, 6), (3, 5, 5), (3, 4, 4), (3, 3, 3), (3, 2, 2), (3, 1, 1), (3, 0, 0)] iv1 ∧ ∀ k : Nat, (k : Int) < x.toInt → iv1 31 0 k = 365) → RG al1 iv1 → EXT (nx (nx (nx (nx (nx (nx (nx (nx (nx (nx (nx (nx (nx (nx (nx (nx (nx (nx (nx (nx (nx (nx (nx (nx (nx (nx (nx (nx (nx (nx (nx (nx (nx (nx (nx (nx (nx (nx (nx (nx (nx (nx (nx (nx (nx (nx (nx (nx (fun _ => 0) 1) 2) 3) 4) 5) 6) 7) 8) 9) 10) 11) 12) 13) 14) 15) 16) 17) 18) 19) 20) 21) 22) 23) 24) 25) 26) 27) 28) 29) 30) 31) 32) 33) 34) 35) 36) 37) 38) 39) 40) 41) 42) 43) 44) 45) 46) 47) 48) ([3, 15, 31], [(0, 1), (0, 2), (0, 3), (0, 4), (0, 7), (0, 8), (0, 9), (0, 10), (0, 11), (0, 12), (0, 13), (0, 14), (0, 15), (0, 16), (0, 17), (0, 18), (0, 19), (0, 21), (0, 22), (0, 23), (0, 25), (0, 26), (0, 27), (0, 28), (0, 29), (0, 31), (0, 32), (0, 33), (0, 34), (0, 35), (0, 36), (0, 38), (0, 39), (0, 40), (0, 42), (0, 43), (0, 44), (0, 45), (0, 46), (0, 47), (0, 49), (0, 50), (0, 51), (0, 52), (0, 53), (0, 54), (0, 58), (0, 59)]) al iv rv al1 iv1 rv1 → UW D cA sz al1 iv1 rv1 H → va_S (Aq sz) s.heap H locs → W p l e (rmA 1 48 1795) s m args below meth c H locs 48 1795 Q (F0 m 456 ls []) := by
    intro n
    induction n with
    | zero =>
      intro x iv1 H locs ls hl hxr hm
      exact absurd hm (Nat.not_lt_zero _)
    | succ n ih =>
      intro x iv1 H locs ls hl hxr hm hV hR hE hU hS
      refine lv_iload_n hx hb dX12_init_456 rfl (lv_at hl 0 rfl) ?_
      refine lv_iconst (v := 4) hx hb dX12_init_457 (by decide) ?_
      refine b_icmp_ge (tgt := 476) hx hb dX12_init_458 (by decide) (fun cx => ?_) (fun cx => ?_)
      · exact hret ⟨hR, hB, hE, hN, hV.1, fun k hk => hV.2 k (by omega)⟩ hU hS dX12_init_476
      · refine lv_aload_n hx hb dX12_init_461 rfl (lv_at hl 1 rfl) ?_
        refine W.eq (g2 := F0 m 462 ls [.ref (al1.2 0 i0)]) (by rw [ho_o]) ?_
        refine q_getr (t := 0) (i := i0) (k := 36) (t' := 31) (j := 0) C hU k_0 (hc := rfl) uwX12 hi_o (by decide) rfl rfl fl_X12_101 dX12_init_462 ejb ?_
        refine lv_iload_n hx hb dX12_init_465 rfl (lv_at hl 0 rfl) ?_
        refine lv_sipush (v := 365) hx hb dX12_init_466 (by decide) ?_
        refine s_31 (i := 0) C hU hS hjb (x := x) (by omega) (by omega) dX12_init_469 (fun iv2 H locs ei2 hU hS => ?_)
        obtain ⟨y, ey⟩ : ∃ y : Int32, y = x + 1 := ⟨_, rfl⟩
        have ty : y.toInt = x.toInt + (1 : Int32).toInt := by rw [ey]; exact fb_addI (by omega) (by omega)
        refine lv_iinc (v := y) (lv' := [(1, .int y), (0, .ref o)]) hx hb dX12_init_470 hl (k := 0) rfl (by rw [ey]; rfl) (by decide) rfl (fun ls hl => ?_)
        refine lv_goto (tgt := 456) hx hb dX12_init_473 (by decide) ?_
        have hE2 := hE.puti (t := 31) (i := 0) (k := x.toNatClampNeg) (x := 365) (Or.inl (by decide))
        rw [← ei2] at hE2
        have hV2 : KVL [(15, 3, 5), (15, 2, 45), (15, 1, 60), (15, 0, 30), (3, 9, 9), (3, 8, 8), (3, 7, 7), (3, 6, 6), (3, 5, 5), (3, 4, 4), (3, 3, 3), (3, 2, 2), (3, 1, 1), (3, 0, 0)] iv2 ∧ ∀ k : Nat, (k : Int) < y.toInt → iv2 31 0 k = 365 := by
          rw [ei2]
          refine ⟨hV.1.put (by decide), fun k hk => ?_⟩
          by_cases z : k = x.toNatClampNeg
          · rw [z]; exact up3_self _ _ _ _ _
          · rw [up3_ne (fun w => z w.2.2)]; exact hV.2 k (by have := ix_nat hxr.1; omega)
        exact ih y iv2 _ _ _ hl (by omega) (by omega) hV2 (by rw [ei2]; exact hR.put (show _ ∧ _ from ⟨show (0 : Int) ≤ _ by omega, show _ ≤ (3000 : Int) by omega⟩)) hE2 hU hS
  exact LP 5 0 _ _ _ _ hl (by omega) (by omega) ⟨hV, fun k hk => by exfalso; omega⟩ hR hE hU hS
end
section
theorem wk_1 : Cond.methodLink RX11 62 ⟨"[I", "clone", "()Ljava/lang/Object;"⟩ ∈ BW := bw 304 (by decide +kernel) rfl
theorem wk_2 : Cond.sameMethod "[I" "java/lang/Object" "clone" "()Ljava/lang/Object;" ∈ BW := bw 305 (by decide +kernel) rfl
theorem wk_3 : Cond.native ⟨"java/lang/Object", "clone", "()Ljava/lang/Object;"⟩ ∈ BW := bw 306 (by decide +kernel) rfl
theorem wk_4 : Cond.instanceMethod ⟨"java/lang/Object", "clone", "()Ljava/lang/Object;"⟩ ∈ BW := bw 307 (by decide +kernel) rfl
theorem wk_5 : Cond.selects "[I" ⟨"[I", "clone", "()Ljava/lang/Object;"⟩ ⟨"java/lang/Object", "clone", "()Ljava/lang/Object;"⟩ ∈ BW := bw 308 (by decide +kernel) rfl
def EA (t N : Nat) (f : Nat → Int32) (cI : ClassId) (A : Nat → Prop) (H : Heap) : Prop := ∃ cell : Cell, H[t]? = some cell ∧ cell.cls = cI ∧ cell.vm ≠ .unknown ∧ (∀ k, cell.vm ≠ .statics k) ∧ cell.slots.size = N ∧ (∀ j : Nat, j < N → cell.slots[j]? = some (.int (f j))) ∧ ¬ A t
theorem EA.kept {t N : Nat} {f : Nat → Int32} {cI : ClassId} {A : Nat → Prop} {H H1 : Heap} (h : EA t N f cI A H) (hq : ∀ a : Nat, a < H.size → ¬ A a → H1[a]? = H[a]?) : EA t N f cI A H1 := by
  obtain ⟨cell, h1, h2, h3, h4, h5, h6, h7⟩ := h
  exact ⟨cell, by rw [hq t (Array.getElem?_eq_some_iff.mp h1).1 h7]; exact h1, h2, h3, h4, h5, h6, h7⟩
def fst4 : Nat → Int32 := fun j => if j = 0 then 30 else if j = 1 then 60 else if j = 2 then 45 else 5
def lst4 : Nat → Int32 := fun j => if j = 3 then 1 else 0
def grt4 : Nat → Int32 := fun j => if j = 0 then 200 else if j = 1 then 900 else if j = 2 then 300 else 9
def SX (cA : FieldType → ClassId) (sz : Nat) (U : State) (H : Heap) : Prop :=
  (∃ t : Nat, va_Z RX11 "FIRST_SETTING" "[I" (.ref t) (Aq sz) U H ∧ EA t 4 fst4 (cA .int) (Aq sz) H) ∧
  (∃ t : Nat, va_Z RX11 "LEAST_SETTING" "[I" (.ref t) (Aq sz) U H ∧ va_T .int t 4 (fun j => .int (lst4 j)) (Aq sz) U H) ∧
  (∃ t : Nat, va_Z RX11 "GREATEST_SETTING" "[I" (.ref t) (Aq sz) U H ∧ va_T .int t 4 (fun j => .int (grt4 j)) (Aq sz) U H) ∧ va_Nw (.castable "[I" "java/lang/Cloneable") U
theorem SX.moved {cA : FieldType → ClassId} {sz : Nat} {u U : State} {H : Heap} (hvm : u.vm.Alike U.vm) (hc : va_Nw (.castable "[I" "java/lang/Cloneable") u → va_Nw (.castable "[I" "java/lang/Cloneable") U) (h : SX cA sz u H) : SX cA sz U H := by
  obtain ⟨⟨t1, a1, b1⟩, ⟨t2, a2, b2⟩, ⟨t3, a3, b3⟩, n⟩ := h
  exact ⟨⟨t1, a1.moved hvm, b1⟩, ⟨t2, a2.moved hvm, b2.moved hvm⟩, ⟨t3, a3.moved hvm, b3.moved hvm⟩, hc n⟩
theorem SX.kept {cA : FieldType → ClassId} {sz : Nat} {U : State} {H H1 : Heap} (h : SX cA sz U H) (hq : ∀ a : Nat, a < H.size → ¬ Aq sz a → H1[a]? = H[a]?) : SX cA sz U H1 := by
  obtain ⟨⟨t1, a1, b1⟩, ⟨t2, a2, b2⟩, ⟨t3, a3, b3⟩, n⟩ := h
  exact ⟨⟨t1, a1.kept hq, b1.kept hq⟩, ⟨t2, a2.kept hq, b2.kept hq⟩, ⟨t3, a3.kept hq, b3.kept hq⟩, n⟩
theorem SX.to {cA : FieldType → ClassId} {sz : Nat} {s U : State} {H : Heap} {locs : List Loc} (h : SX cA sz s s.heap) (hS : va_S (Aq sz) s.heap H locs) (hH : U.heap = H) (hW : s.WarmedH U.vm) : SX cA sz U U.heap := by
  rw [hH]; exact (h.kept hS.2.1).moved hW.alike (va_Nw.warmC hW)
theorem SX.calling {cA : FieldType → ClassId} {sz : Nat} (U : State) (g : JFrame) (mk : MethodId) (a : Array Value) (h : SX cA sz U U.heap) : SX cA sz (U.calling g mk a) (U.calling g mk a).heap := SX.moved (u := U) (Vm.Alike.refl U.vm) (fun q => va_Nw.same rfl rfl q) h
-- a cell born with numbers in it
def clf (iv : Iv) (t i : Nat) (f : Nat → Int32) : Iv := fun t' i' k' => if t' = t ∧ i' = i then f k' else iv t' i' k'
theorem clf_ne {iv : Iv} {t i t' i' k' : Nat} {f : Nat → Int32} (h : ¬ (t' = t ∧ i' = i)) : clf iv t i f t' i' k' = iv t' i' k' := by simp only [clf, if_neg h]
theorem clf_self {iv : Iv} {t i k' : Nat} {f : Nat → Int32} : clf iv t i f t i k' = f k' := by simp [clf]
theorem grow_lt {al : Al} {t a t1 i1 : Nat} (h : i1 < (grow al t a).1 t1) (e : ¬ (t1 = t ∧ i1 = al.1 t)) : i1 < al.1 t1 := by
  rw [grow_ct] at h
  by_cases q : t1 = t
  · subst q; simp at h; rcases Nat.lt_or_ge i1 (al.1 t1) with z | z
    · exact z
    · exact absurd ⟨rfl, by omega⟩ e
  · simp [q] at h; exact h
theorem UW.newf {D : va_G} {cA : FieldType → ClassId} {sz : Nat} {al : Al} {iv : Iv} {rv : Rv} {H H1 : Heap} (hU : UW D cA sz al iv rv H) (hB : RB al rv) {t : Nat} {f : Nat → Int32} (hz : sz ≤ H.size) (o : ∀ q : Nat, q < H.size → H1[q]? = H[q]?)
    (hc : cellAt D cA t H.size (fun k => match (pt t).2.2.2 k with | none => .int (f k) | some _ => .null) H1) : UW D cA sz (grow al t H.size) (clf iv t (al.1 t) f) (clr rv t (al.1 t) none) H1 := by
  have split : ∀ t1 i1, i1 < (grow al t H.size).1 t1 → (t1 = t ∧ i1 = al.1 t) ∨ (i1 < al.1 t1 ∧ ¬ (t1 = t ∧ i1 = al.1 t)) := by
    intro t1 i1 h
    by_cases e : t1 = t ∧ i1 = al.1 t
    · exact Or.inl e
    · exact Or.inr ⟨grow_lt h e, e⟩
  refine ⟨fun t1 i1 h => ?_, fun t1 i1 t2 i2 h1 h2 e => ?_, fun t1 i1 h => ?_⟩
  · rcases split t1 i1 h with ⟨rfl, rfl⟩ | ⟨h1, e⟩
    · rw [grow_new]
      refine hc.congr (fun k hk => ?_)
      cases hp : (pt t1).2.2.2 k with
      | none => simp only [vl, hp, clf_self]
      | some t' => simp only [vl, hp, clr_self]; rfl
    · rw [grow_ad h1]
      refine ((hU.1 t1 i1 h1).kept (o _ (hU.1 t1 i1 h1).lt)).congr (fun k hk => ?_)
      cases hp : (pt t1).2.2.2 k with
      | none => simp only [vl, hp, clf_ne e]
      | some t' =>
        simp only [vl, hp, clr_ne e]
        cases hr : rv t1 i1 k with
        | none => rfl
        | some j =>
          have hj := hB t1 i1 k t' h1 hk hp j hr
          show va_rf (some (al.2 t' j)) = va_rf (some ((grow al t H.size).2 t' j))
          rw [grow_ad hj]
  · rcases split t1 i1 h1 with ⟨rfl, rfl⟩ | ⟨g1, e1⟩ <;> rcases split t2 i2 h2 with ⟨rfl, rfl⟩ | ⟨g2, e2⟩
    · exact ⟨rfl, rfl⟩
    · rw [grow_new, grow_ad g2] at e; have := (hU.1 t2 i2 g2).lt; omega
    · rw [grow_new, grow_ad g1] at e; have := (hU.1 t1 i1 g1).lt; omega
    · rw [grow_ad g1, grow_ad g2] at e; exact hU.2.1 t1 i1 t2 i2 g1 g2 e
  · rcases split t1 i1 h with ⟨rfl, rfl⟩ | ⟨g1, e1⟩
    · rw [grow_new]; exact hz
    · rw [grow_ad g1]; exact hU.2.2 t1 i1 g1
theorem RG.newf {al : Al} {iv : Iv} (h : RG al iv) (t a : Nat) {f : Nat → Int32} (hf : ∀ k, k < (pt t).2.1 → (rg t k).1 ≤ (f k).toInt ∧ (f k).toInt ≤ (rg t k).2) : RG (grow al t a) (clf iv t (al.1 t) f) := by
  intro t1 i1 k1 h1 h2
  by_cases e : t1 = t ∧ i1 = al.1 t
  · obtain ⟨rfl, rfl⟩ := e; rw [clf_self]; exact hf k1 h2
  · rw [clf_ne e]; exact h t1 i1 k1 (grow_lt h1 e) h2
theorem EXT.newf {N : Nat → Nat} {M : Mo} {al al1 : Al} {iv iv1 : Iv} {rv rv1 : Rv} (h : EXT N M al iv rv al1 iv1 rv1) (t a : Nat) {f : Nat → Int32} (hm : t ∈ M.1) : EXT (nx N t) M al iv rv (grow al1 t a) (clf iv1 t (al1.1 t) f) (clr rv1 t (al1.1 t) none) := by
  obtain ⟨h1, h2, h3, h4⟩ := h
  refine ⟨fun t' => by rw [grow_ct, h1]; unfold nx; omega, fun t' i' q => ?_, fun t' i' k' q m => ?_, fun t' i' k' q1 q2 m => ?_⟩
  · rw [grow_ad (by rw [h1]; omega)]; exact h2 t' i' q
  · have e : ¬ (t' = t ∧ i' = al1.1 t) := fun z => m (Or.inl (by rw [z.1]; exact hm))
    rw [clf_ne e, clr_ne e]; exact h3 t' i' k' q m
  · have e : ¬ (t' = t ∧ i' = al1.1 t) := fun z => m (Or.inl (by rw [z.1]; exact hm))
    rw [clf_ne e, clr_ne e]; exact h4 t' i' k' q1 (grow_lt q2 e) m
theorem CI.newf {t0 i0 o : Nat} {N : Nat → Nat} {M : Mo} {L : List Nat} {al al1 : Al} {iv iv1 : Iv} {rv rv1 : Rv} (h : CI t0 i0 o N M L al iv rv al1 iv1 rv1) (t a : Nat) (ht : t0 ≠ t) {f : Nat → Int32} (hm : t ∈ M.1) (hf : ∀ k, k < (pt t).2.1 → (rg t k).1 ≤ (f k).toInt ∧ (f k).toInt ≤ (rg t k).2) : CI t0 i0 o (nx N t) M L al iv rv (grow al1 t a) (clf iv1 t (al1.1 t) f) (clr rv1 t (al1.1 t) none) := by
  obtain ⟨h1, h2, h3, h4, h5, h6⟩ := h
  refine ⟨h1.newf t a hf, h2.new t a, h3.newf t a hm, h4.keep (fun k => clr_ne (fun z => ht z.1)), ?_, ?_⟩
  · rw [grow_ad h6]; exact h5
  · rw [grow_ct]; omega
section STT
variable {p : Program} {l : Launch} {e : Env} {R : Room} {s : State} {m : MethodId} {args : Array Value} {below : List Frame} {meth : Method} {c : Code} {H : Heap} {locs : List Loc} {cells slots : Nat} {Q : State → Prop}
variable {cc : ByteArray} {pc nL : Nat} {ls : Array Slot} {rest : List Value} {own : String} {D : va_G} {cA : FieldType → ClassId} {sz : Nat} {al : Al} {iv : Iv} {rv : Rv}
theorem q_gets (C : Cx p s m args c cc nL own D cA) {n d : String} {v : Value} {index : Nat} (hZ : va_Z RX11 n d v (Aq sz) s s.heap) (hS : va_S (Aq sz) s.heap H locs) (hl : Cond.fieldLink own index RX11 n d ∈ BW) (hdg : decode cc pc = .ok (.getstatic index, 3))
    (kk : W p l e R s m args below meth c H locs cells slots Q (F0 m (pc + 3) ls (v :: rest))) : W p l e R s m args below meth c H locs cells slots Q (F0 m pc ls rest) :=
  va_gets C.1.1 C.1.2.1 hZ hS C.1.2.2.2.1 (C.1.2.2.2.2 _ hl) (fun _ h => h) hdg kk
theorem q_clone (C : Cx p s m args c cc nL RX11 D cA) (hU : UW D cA sz al iv rv H) (hS : va_S (Aq sz) s.heap H locs) (hB : RB al rv) (hz : sz ≤ H.size) {t t0 : Nat} {f : Nat → Int32} (hE : EA t0 4 f (cA .int) (Aq sz) s.heap) (hcb : va_Nw (.castable "[I" "java/lang/Cloneable") s) (kp : (pt t).1 = none ∧ (pt t).2.1 = 4 ∧ (pt t).2.2.1 = .int) (htg : ∀ k, (pt t).2.2.2 k = none) (hls : ls.size = nL)
    (hframes : 1 ≤ R.frames) (hlocals : (rest.map fun v => v.category).sum + 14 ≤ R.locals) (hcells : cells + 1 ≤ R.cells) (hslots : slots + 4 ≤ R.slots) (hdg : decode cc pc = .ok (.invokevirtual 62, 3))
    (kk : ∀ (a : Nat) (H1 : Heap), UW D cA sz (grow al t a) (clf iv t (al.1 t) f) (clr rv t (al.1 t) none) H1 → va_S (Aq sz) s.heap H1 locs → (∃ cell : Cell, H1[a]? = some cell ∧ cell.vm.isStatics = false ∧ s.vm.findClass "[I" = some cell.cls) → W p l e R s m args below meth c H1 locs (cells + 1) (slots + 4) Q (F0 m (pc + 3) ls (.ref a :: rest))) : W p l e R s m args below meth c H locs cells slots Q (F0 m pc ls (.ref t0 :: rest)) := by
  obtain ⟨⟨hx, hb, hml, hown, hts⟩, hK⟩ := C
  obtain ⟨hA1, hA2⟩ := hK.2.1 .int (by decide)
  have hnm : s.vm.findClass "[I" = some (cA .int) := hA2
  obtain ⟨cell, e1, e2, e3, e4, e5, e6, e7⟩ := hE
  have eH : H[t0]? = some cell := by rw [hS.2.1 t0 (Array.getElem?_eq_some_iff.mp e1).1 e7]; exact e1
  obtain ⟨c0, t0', f1, f2, f3⟩ := Cond.castable_spec (va_Nw.use (A := args) rfl hcb)
  cases hnm.symm.trans f1
  obtain ⟨-, kS, hkS, compS, hkindS⟩ := hA1 0 (fun _ => .null)
  intro T hT X
  obtain ⟨-, kA, hkA, comp, hkind⟩ := State.isArrayOf_alike X.warmed.alike (hA1 0 (fun _ => .null))
  have hsl : cell.slots = (arrV (cA .int) 4 (fun k => .int (f k))).slots := by
    apply Array.ext
    · rw [e5, arrV_size]
    · intro i h1 h2
      have hi : i < 4 := by omega
      have a1 := e6 i hi
      have a2 := arrV_read (cA .int) (fun k => Value.int (f k)) hi
      rw [Array.getElem?_eq_getElem h1] at a1
      rw [Array.getElem?_eq_getElem h2] at a2
      exact (Option.some.inj a1).trans (Option.some.inj a2).symm
  obtain ⟨vm', X', st⟩ := X.cloneArray hx hown (hts _ wk_1) (hts _ wk_2) (hts _ wk_3) (hts _ wk_4) (hts _ wk_5) (a := t0) (cell := cell) (by rw [hT]; exact eH) e4 e3 (by rw [e2]; exact hnm) f2 (by rw [e2]; exact f3)
    (fun i v hv => by
      rw [e2]
      have hk' : T.vm.classes[cA .int]? = some kA := hkA
      have hi : i < 4 := by have := (Array.getElem?_eq_some_iff.mp hv).1; omega
      rw [e6 i hi] at hv
      cases hv
      simp [State.fitsSlot, State.slotType?, hk', hkind, fits])
    (g := F0 m pc ls (.ref t0 :: rest)) rfl (by rw [hml]; exact hls) rfl (by rw [hb]; exact hdg) hframes (by show 2 * 0 + _ + 14 ≤ _; omega) hcells (by rw [e5]; exact hslots) (hloader := by rw [e2]; exact Vm.clonesLoader_of_array hkS hkindS)
  have hcl : ({ cls := cell.cls, slots := cell.slots } : Cell) = arrV (cA .int) 4 (fun k => .int (f k)) := by
    rw [e2, hsl]; rfl
  rw [hcl, e5] at X'
  rw [hcl] at st
  generalize hH1 : H.push (arrV (cA .int) 4 (fun k => .int (f k))) = H1
  have z1 : H1.size = H.size + 1 := by rw [← hH1, Array.size_push]
  have d1 : H1[H.size]? = some (arrV (cA .int) 4 (fun k => .int (f k))) := by rw [← hH1, Array.getElem?_push_size]
  have o1 : ∀ q : Nat, q < H.size → H1[q]? = H[q]? := fun q hq => by rw [← hH1, Array.getElem?_push, if_neg (Nat.ne_of_lt hq)]
  obtain ⟨t2, b1, b2⟩ := kk H.size H1 (hU.newf hB hz o1 (cellAt.ofAr kp.1 (by rw [d1, kp.2.1, kp.2.2]; congr 2; funext k; rw [htg k]))) (hS_new hS z1 o1) ⟨_, d1, rfl, hnm⟩ _ (by show T.heap.push _ = _; rw [hT]; exact hH1) X'
  exact ⟨t2, st t2 (by rw [hT]; exact b1), b2⟩
end STT
end
section
set_option maxHeartbeats 4000000 in
set_option maxRecDepth 100000 in
theorem c_X8_initx {l : Launch} {D : va_G} {cA : FieldType → ClassId} {sz : Nat} {al : Al} {iv : Iv} {rv : Rv} (hR : RG al iv) (hB : RB al rv) (i0 : Nat) (hi0 : i0 < al.1 65) (num : Int32) (li : Nat) (hli : li < al.1 62) (pre0 : 0 ≤ num.toInt ∧ num.toInt ≤ 19) : Met l yX8_init (wd yX8_init cX8_init 3 none) (rmA 1 2 9) (PcA D cA sz al iv rv [.ref (al.2 65 i0), .int num, .ref (al.2 62 li)] (fun _ => True)) (QVA D cA sz (fun al' iv' rv' => RG al' iv' ∧ RB al' rv' ∧ EXT (nx (nx (fun _ => 0) 66) 67) ([66], [(65, 0), (65, 1), (65, 2), (65, 3), (65, 4), (65, 5)]) al iv rv al' iv' rv' ∧ NN 65 i0 [5, 3, 2, 1] rv' ∧ (∃ a_7 a_21 : Nat, al' = (grow (grow al 66 a_7) 67 a_21) ∧ iv' = (clr (up3 (clr (up3 iv 65 i0 0 num) 66 (al.1 66) 0) 65 i0 4 1) 67 (al.1 67) 0) ∧ rv' = (up3 (clr (up3 (up3 (clr (up3 (up3 rv 65 i0 1 (some li)) 65 i0 2 (some li)) 66 (al.1 66) none) 65 i0 3 (some (al.1 66))) 66 (al.1 66) (0 : Int32).toNatClampNeg (some li)) 67 (al.1 67) none) 65 i0 5 (some (al.1 67)))))) 2 9 (Aq sz) := by
  refine mk_a (by decide) (Nat.le_of_ble_eq_true rfl) rfl ?_
  intro p e s m below meth c ls C hr hlk hnm hU hS hz _ hl
  have hx := C.1.1
  have hb := C.1.2.1
  have k0 : (0 : Int32).toInt = 0 := by decide
  have k1 : (1 : Int32).toInt = 1 := by decide
  have k4 : (4 : Int32).toInt = 4 := by decide
  have k5 : (5 : Int32).toInt = 5 := by decide
  obtain ⟨o, ho_o⟩ : ∃ z, al.2 65 i0 = z := ⟨_, rfl⟩
  have hi_o := hi0
  obtain ⟨oli, ho_oli⟩ : ∃ z, al.2 62 li = z := ⟨_, rfl⟩
  have hi_oli := hli
  have hl : lv_has ls 3 [(0, .ref o), (1, .int num), (2, .ref oli)] := by rw [← ho_o, ← ho_oli]; exact hl
  have hE : EXT (fun _ => 0) ([66], [(65, 0), (65, 1), (65, 2), (65, 3), (65, 4), (65, 5)]) al iv rv al iv rv := EXT.rf
  have hN : NN 65 i0 [] rv := NN.nil
  have hz0 := hz
  refine lv_aload_n hx hb dX8_init_0 rfl (lv_at hl 0 rfl) ?_
  refine W.objInit hx hb C.1.2.2.2.1 (C.1.2.2.2.2 _ oi_X8) (C.1.2.2.2.2 _ oi_m) (C.1.2.2.2.2 _ oi_c) rfl (by rw [C.1.2.2.1]; exact hl.1) rfl dX8_init_1 (Nat.le_of_ble_eq_true rfl) (Nat.le_of_ble_eq_true rfl) ?_
  refine W.eq (g2 := F0 m 4 ls []) rfl ?_
  refine lv_aload_n hx hb dX8_init_4 rfl (lv_at hl 0 rfl) ?_
  refine lv_iload_n hx hb dX8_init_5 rfl (lv_at hl 1 rfl) ?_
  refine W.eq (g2 := F0 m 6 ls [.int num, .ref (al.2 65 i0)]) (by rw [ho_o]) ?_
  refine q_puti (t := 65) (i := i0) (k := 0) C hU hS k_65 (hc := rfl) uwX8 tyX8 tyX8_ok nmX8 hi_o (by decide) rfl (Or.inr ⟨rfl, hnm, rfl⟩) rfl fl_X8_9 dX8_init_6 rfl rfl (fun H locs hU hS => ?_)
  have hz : sz ≤ H.size := Nat.le_trans hz0 hS.1
  obtain ⟨iv_1, ei_2⟩ : ∃ z, z = up3 iv 65 i0 0 num := ⟨_, rfl⟩
  rw [← ei_2] at hU
  have hR : RG al iv_1 := by rw [ei_2]; exact hR.put (show _ ∧ _ from ⟨show (0 : Int) ≤ _ by omega, show _ ≤ (19 : Int) by omega⟩)
  have hE := hE.puti (t := 65) (i := i0) (k := 0) (x := num) (by decide)
  rw [← ei_2] at hE
  refine lv_aload_n hx hb dX8_init_9 rfl (lv_at hl 0 rfl) ?_
  refine lv_aload_n hx hb dX8_init_10 rfl (lv_at hl 2 rfl) ?_
  refine W.eq (g2 := F0 m 11 ls [.ref (al.2 62 li), .ref (al.2 65 i0)]) (by rw [ho_oli, ho_o]) ?_
  refine q_putr (t := 65) (i := i0) (k := 1) (t' := 62) (j := li) C hU hS k_65 (hc := rfl) uwX8 tyX8 tyX8_ok nmX8 hi_o (by decide) rfl (Or.inr ⟨rfl, hnm, rfl⟩) rfl fl_X8_15 dX8_init_11 (fun _ => rfl) (fun _ => rfl) (fun H locs hU hS => ?_)
  have hz : sz ≤ H.size := Nat.le_trans hz0 hS.1
  obtain ⟨rv_3, er_4⟩ : ∃ z, z = up3 rv 65 i0 1 (some li) := ⟨_, rfl⟩
  rw [← er_4] at hU
  have hB : RB al rv_3 := by rw [er_4]; exact hB.put rfl hi_oli
  have hE := hE.putr (t := 65) (i := i0) (k := 1) (x := some li) (by decide)
  rw [← er_4] at hE
  have hN : NN 65 i0 [1] rv_3 := by rw [er_4]; exact hN.put 1 li
  refine lv_aload_n hx hb dX8_init_14 rfl (lv_at hl 0 rfl) ?_
  refine lv_aload_n hx hb dX8_init_15 rfl (lv_at hl 2 rfl) ?_
  refine W.eq (g2 := F0 m 16 ls [.ref (al.2 62 li), .ref (al.2 65 i0)]) (by rw [ho_oli, ho_o]) ?_
  refine q_putr (t := 65) (i := i0) (k := 2) (t' := 62) (j := li) C hU hS k_65 (hc := rfl) uwX8 tyX8 tyX8_ok nmX8 hi_o (by decide) rfl (Or.inl rfl) rfl fl_X8_19 dX8_init_16 (fun _ => rfl) (fun _ => rfl) (fun H locs hU hS => ?_)
  have hz : sz ≤ H.size := Nat.le_trans hz0 hS.1
  obtain ⟨rv_5, er_6⟩ : ∃ z, z = up3 rv_3 65 i0 2 (some li) := ⟨_, rfl⟩
  rw [← er_6] at hU
  have hB : RB al rv_5 := by rw [er_6]; exact hB.put rfl hi_oli
  have hE := hE.putr (t := 65) (i := i0) (k := 2) (x := some li) (by decide)
  rw [← er_6] at hE
  have hN : NN 65 i0 [2, 1] rv_5 := by rw [er_6]; exact hN.put 2 li
  refine lv_aload_n hx hb dX8_init_19 rfl (lv_at hl 0 rfl) ?_
  refine lv_iconst (v := 4) hx hb dX8_init_20 (by decide) ?_
  refine q_newr (t := 66) (Cn := "LateClaims$Leg") C hU hS hB hz k_66 (by decide) (fun _ => rfl) kl_X8_22 C.2.2.2.1.2.1 (by decide) (by decide) (by decide) (Nat.le_of_ble_eq_true rfl) (Nat.le_of_ble_eq_true rfl) dX8_init_21 (fun a_7 H hU hS hz => ?_)
  have hc_14 : al.1 66 = al.1 66 := hE.1 66
  have hE9 := hE.new 66 a_7
  have hR9 := hR.new 66 a_7
  have hB9 := hB.new 66 a_7
  have hn9 := grow_new (al := al) (t := 66) (a := a_7)
  rw [hc_14] at hU hE9 hR9 hB9 hn9
  obtain ⟨al_8, ea_11⟩ : ∃ z, z = grow al 66 a_7 := ⟨_, rfl⟩
  obtain ⟨iv_9, ei_12⟩ : ∃ z, z = clr iv_1 66 (al.1 66) 0 := ⟨_, rfl⟩
  obtain ⟨rv_10, er_13⟩ : ∃ z, z = clr rv_5 66 (al.1 66) none := ⟨_, rfl⟩
  rw [← ea_11] at hU hE9 hR9 hB9 hn9
  rw [← ei_12] at hU hE9 hR9
  rw [← er_13] at hU hE9 hB9
  have ho_o : al_8.2 65 i0 = o := by rw [ea_11, grow_ad hi_o]; exact ho_o
  have hi_o : i0 < al_8.1 65 := by rw [ea_11, grow_ct]; omega
  have ho_oli : al_8.2 62 li = oli := by rw [ea_11, grow_ad hi_oli]; exact ho_oli
  have hi_oli : li < al_8.1 62 := by rw [ea_11, grow_ct]; omega
  have ho_a_7 : al_8.2 66 (al.1 66) = a_7 := hn9
  have hi_a_7 : (al.1 66) < al_8.1 66 := by rw [ea_11, grow_ct, hc_14]; simp
  have hN : NN 65 i0 [2, 1] rv_10 := hN.keep (fun k => by rw [er_13]; exact clr_ne (fun z => absurd z.1 (by decide)))
  have hE := hE9
  have hR := hR9
  have hB := hB9
  refine W.widen (k := 1) (n := 4) (Nat.le_of_ble_eq_true rfl) (Nat.le_of_ble_eq_true rfl) ?_
  refine W.eq (g2 := F0 m 24 ls [.ref (al_8.2 66 (al.1 66)), .ref (al_8.2 65 i0)]) (by rw [ho_a_7, ho_o]) ?_
  refine q_putr (t := 65) (i := i0) (k := 3) (t' := 66) (j := (al.1 66)) C hU hS k_65 (hc := rfl) uwX8 tyX8 tyX8_ok nmX8 hi_o (by decide) rfl (Or.inr ⟨rfl, hnm, rfl⟩) rfl fl_X8_24 dX8_init_24 (fun _ => rfl) (fun _ => rfl) (fun H locs hU hS => ?_)
  have hz : sz ≤ H.size := Nat.le_trans hz0 hS.1
  obtain ⟨rv_15, er_16⟩ : ∃ z, z = up3 rv_10 65 i0 3 (some (al.1 66)) := ⟨_, rfl⟩
  rw [← er_16] at hU
  have hB : RB al_8 rv_15 := by rw [er_16]; exact hB.put rfl hi_a_7
  have hE := hE.putr (t := 65) (i := i0) (k := 3) (x := some (al.1 66)) (by decide)
  rw [← er_16] at hE
  have hN : NN 65 i0 [3, 2, 1] rv_15 := by rw [er_16]; exact hN.put 3 (al.1 66)
  refine lv_aload_n hx hb dX8_init_27 rfl (lv_at hl 0 rfl) ?_
  refine W.eq (g2 := F0 m 28 ls [.ref (al_8.2 65 i0)]) (by rw [ho_o]) ?_
  refine q_getr (t := 65) (i := i0) (k := 3) (t' := 66) (j := (al.1 66)) C hU k_65 (hc := rfl) uwX8 hi_o (by decide) rfl rfl fl_X8_24 dX8_init_28 (by rw [er_16]; exact up3_self _ _ _ _ _) ?_
  refine W.eq (g2 := F0 m 31 ls [.ref a_7]) (by rw [ho_a_7]) ?_
  refine lv_iconst (v := 0) hx hb dX8_init_31 (by decide) ?_
  refine lv_aload_n hx hb dX8_init_32 rfl (lv_at hl 2 rfl) ?_
  refine W.eq (g2 := F0 m 33 ls [.ref (al_8.2 62 li), .int 0, .ref (al_8.2 66 (al.1 66))]) (by rw [ho_oli, ho_a_7]) ?_
  refine s_66 (i := (al.1 66)) (j := li) C hU hS hi_a_7 hi_oli (x := 0) (by omega) (by omega) dX8_init_33 (fun rv_17 H locs er_18 hU hS => ?_)
  have hz : sz ≤ H.size := Nat.le_trans hz0 hS.1
  have hB : RB al_8 rv_17 := by rw [er_18]; exact hB.put rfl hi_oli
  have hE := hE.putr (t := 66) (i := (al.1 66)) (k := (0 : Int32).toNatClampNeg) (x := some li) (Or.inl (by decide))
  rw [← er_18] at hE
  have hN : NN 65 i0 [3, 2, 1] rv_17 := hN.keep (fun k => by rw [er_18]; exact up3_ne (fun z => absurd z.1 (by decide)))
  refine lv_aload_n hx hb dX8_init_34 rfl (lv_at hl 0 rfl) ?_
  refine lv_iconst (v := 1) hx hb dX8_init_35 (by decide) ?_
  refine W.eq (g2 := F0 m 36 ls [.int 1, .ref (al_8.2 65 i0)]) (by rw [ho_o]) ?_
  refine q_puti (t := 65) (i := i0) (k := 4) C hU hS k_65 (hc := rfl) uwX8 tyX8 tyX8_ok nmX8 hi_o (by decide) rfl (Or.inl rfl) rfl fl_X8_28 dX8_init_36 rfl rfl (fun H locs hU hS => ?_)
  have hz : sz ≤ H.size := Nat.le_trans hz0 hS.1
  obtain ⟨iv_19, ei_20⟩ : ∃ z, z = up3 iv_9 65 i0 4 1 := ⟨_, rfl⟩
  rw [← ei_20] at hU
  have hR : RG al_8 iv_19 := by rw [ei_20]; exact hR.put (show _ ∧ _ from ⟨show (0 : Int) ≤ _ by omega, show _ ≤ (4 : Int) by omega⟩)
  have hE := hE.puti (t := 65) (i := i0) (k := 4) (x := 1) (by decide)
  rw [← ei_20] at hE
  refine lv_aload_n hx hb dX8_init_39 rfl (lv_at hl 0 rfl) ?_
  refine lv_iconst (v := 5) hx hb dX8_init_40 (by decide) ?_
  refine q_newp (t := 67) (ty := .int) C hU hS hB hz rfl (Or.inl rfl) k_67 (fun _ => rfl) ac_int (by decide) (by decide) (by decide) (Nat.le_of_ble_eq_true rfl) (Nat.le_of_ble_eq_true rfl) dX8_init_41 (fun a_21 H hU hS hz => ?_)
  have hc_28 : al_8.1 67 = al.1 67 := hE.1 67
  have hE9 := hE.new 67 a_21
  have hR9 := hR.new 67 a_21
  have hB9 := hB.new 67 a_21
  have hn9 := grow_new (al := al_8) (t := 67) (a := a_21)
  rw [hc_28] at hU hE9 hR9 hB9 hn9
  obtain ⟨al_22, ea_25⟩ : ∃ z, z = grow al_8 67 a_21 := ⟨_, rfl⟩
  obtain ⟨iv_23, ei_26⟩ : ∃ z, z = clr iv_19 67 (al.1 67) 0 := ⟨_, rfl⟩
  obtain ⟨rv_24, er_27⟩ : ∃ z, z = clr rv_17 67 (al.1 67) none := ⟨_, rfl⟩
  rw [← ea_25] at hU hE9 hR9 hB9 hn9
  rw [← ei_26] at hU hE9 hR9
  rw [← er_27] at hU hE9 hB9
  have ho_a_7 : al_22.2 66 (al.1 66) = a_7 := by rw [ea_25, grow_ad hi_a_7]; exact ho_a_7
  have hi_a_7 : (al.1 66) < al_22.1 66 := by rw [ea_25, grow_ct]; omega
  have ho_o : al_22.2 65 i0 = o := by rw [ea_25, grow_ad hi_o]; exact ho_o
  have hi_o : i0 < al_22.1 65 := by rw [ea_25, grow_ct]; omega
  have ho_oli : al_22.2 62 li = oli := by rw [ea_25, grow_ad hi_oli]; exact ho_oli
  have hi_oli : li < al_22.1 62 := by rw [ea_25, grow_ct]; omega
  have ho_a_21 : al_22.2 67 (al.1 67) = a_21 := hn9
  have hi_a_21 : (al.1 67) < al_22.1 67 := by rw [ea_25, grow_ct, hc_28]; simp
  have hN : NN 65 i0 [3, 2, 1] rv_24 := hN.keep (fun k => by rw [er_27]; exact clr_ne (fun z => absurd z.1 (by decide)))
  have hE := hE9
  have hR := hR9
  have hB := hB9
  refine W.widen (k := 2) (n := 9) (Nat.le_of_ble_eq_true rfl) (Nat.le_of_ble_eq_true rfl) ?_
  refine W.eq (g2 := F0 m 43 ls [.ref (al_22.2 67 (al.1 67)), .ref (al_22.2 65 i0)]) (by rw [ho_a_21, ho_o]) ?_
  refine q_putr (t := 65) (i := i0) (k := 5) (t' := 67) (j := (al.1 67)) C hU hS k_65 (hc := rfl) uwX8 tyX8 tyX8_ok nmX8 hi_o (by decide) rfl (Or.inr ⟨rfl, hnm, rfl⟩) rfl fl_X8_31 dX8_init_43 (fun _ => rfl) (fun _ => rfl) (fun H locs hU hS => ?_)
  have hz : sz ≤ H.size := Nat.le_trans hz0 hS.1
  obtain ⟨rv_29, er_30⟩ : ∃ z, z = up3 rv_24 65 i0 5 (some (al.1 67)) := ⟨_, rfl⟩
  rw [← er_30] at hU
  have hB : RB al_22 rv_29 := by rw [er_30]; exact hB.put rfl hi_a_21
  have hE := hE.putr (t := 65) (i := i0) (k := 5) (x := some (al.1 67)) (by decide)
  rw [← er_30] at hE
  have hN : NN 65 i0 [5, 3, 2, 1] rv_29 := by rw [er_30]; exact hN.put 5 (al.1 67)
  exact q_vretA C hr hlk hU hS (⟨hR, hB, hE, hN, ⟨a_7, a_21, by rw [ea_25, ea_11], by rw [ei_26, ei_20, ei_12, ei_2], by rw [er_30, er_27, er_18, er_16, er_13, er_6, er_4]⟩⟩) dX8_init_46
set_option maxHeartbeats 4000000 in
set_option maxRecDepth 100000 in
theorem c_X2_initx {l : Launch} {D : va_G} {cA : FieldType → ClassId} {sz : Nat} {al : Al} {iv : Iv} {rv : Rv} (hR : RG al iv) (hB : RB al rv) (i0 : Nat) (hi0 : i0 < al.1 88) (ti : Nat) (hti : ti < al.1 65) (d : Int32) (pre0 : 0 ≤ d.toInt ∧ d.toInt ≤ 4000) : Met l yX2_init (wd yX2_init cX2_init 3 none) (rmA 1 1 5) (PcA D cA sz al iv rv [.ref (al.2 88 i0), .ref (al.2 65 ti), .int d] (fun _ => True)) (QVA D cA sz (fun al' iv' rv' => RG al' iv' ∧ RB al' rv' ∧ EXT (nx (fun _ => 0) 89) ([], [(88, 0), (88, 1), (88, 2)]) al iv rv al' iv' rv' ∧ NN 88 i0 [2, 0] rv' ∧ (∃ a_5 : Nat, al' = (grow al 89 a_5) ∧ iv' = (clr (up3 iv 88 i0 1 d) 89 (al.1 89) 0) ∧ rv' = (up3 (clr (up3 rv 88 i0 0 (some ti)) 89 (al.1 89) none) 88 i0 2 (some (al.1 89)))))) 1 5 (Aq sz) := by
  refine mk_a (by decide) (Nat.le_of_ble_eq_true rfl) rfl ?_
  intro p e s m below meth c ls C hr hlk hnm hU hS hz _ hl
  have hx := C.1.1
  have hb := C.1.2.1
  have k5 : (5 : Int32).toInt = 5 := by decide
  obtain ⟨o, ho_o⟩ : ∃ z, al.2 88 i0 = z := ⟨_, rfl⟩
  have hi_o := hi0
  obtain ⟨oti, ho_oti⟩ : ∃ z, al.2 65 ti = z := ⟨_, rfl⟩
  have hi_oti := hti
  have hl : lv_has ls 3 [(0, .ref o), (1, .ref oti), (2, .int d)] := by rw [← ho_o, ← ho_oti]; exact hl
  have hE : EXT (fun _ => 0) ([], [(88, 0), (88, 1), (88, 2)]) al iv rv al iv rv := EXT.rf
  have hN : NN 88 i0 [] rv := NN.nil
  have hz0 := hz
  refine lv_aload_n hx hb dX2_init_0 rfl (lv_at hl 0 rfl) ?_
  refine W.objInit hx hb C.1.2.2.2.1 (C.1.2.2.2.2 _ oi_X2) (C.1.2.2.2.2 _ oi_m) (C.1.2.2.2.2 _ oi_c) rfl (by rw [C.1.2.2.1]; exact hl.1) rfl dX2_init_1 (Nat.le_of_ble_eq_true rfl) (Nat.le_of_ble_eq_true rfl) ?_
  refine W.eq (g2 := F0 m 4 ls []) rfl ?_
  refine lv_aload_n hx hb dX2_init_4 rfl (lv_at hl 0 rfl) ?_
  refine lv_aload_n hx hb dX2_init_5 rfl (lv_at hl 1 rfl) ?_
  refine W.eq (g2 := F0 m 6 ls [.ref (al.2 65 ti), .ref (al.2 88 i0)]) (by rw [ho_oti, ho_o]) ?_
  refine q_putr (t := 88) (i := i0) (k := 0) (t' := 65) (j := ti) C hU hS k_88 (hc := rfl) uwX2 tyX2 tyX2_ok nmX2 hi_o (by decide) rfl (Or.inr ⟨rfl, hnm, rfl⟩) rfl fl_X2_9 dX2_init_6 (fun _ => rfl) (fun _ => rfl) (fun H locs hU hS => ?_)
  have hz : sz ≤ H.size := Nat.le_trans hz0 hS.1
  obtain ⟨rv_1, er_2⟩ : ∃ z, z = up3 rv 88 i0 0 (some ti) := ⟨_, rfl⟩
  rw [← er_2] at hU
  have hB : RB al rv_1 := by rw [er_2]; exact hB.put rfl hi_oti
  have hE := hE.putr (t := 88) (i := i0) (k := 0) (x := some ti) (by decide)
  rw [← er_2] at hE
  have hN : NN 88 i0 [0] rv_1 := by rw [er_2]; exact hN.put 0 ti
  refine lv_aload_n hx hb dX2_init_9 rfl (lv_at hl 0 rfl) ?_
  refine lv_iload_n hx hb dX2_init_10 rfl (lv_at hl 2 rfl) ?_
  refine W.eq (g2 := F0 m 11 ls [.int d, .ref (al.2 88 i0)]) (by rw [ho_o]) ?_
  refine q_puti (t := 88) (i := i0) (k := 1) C hU hS k_88 (hc := rfl) uwX2 tyX2 tyX2_ok nmX2 hi_o (by decide) rfl (Or.inr ⟨rfl, hnm, rfl⟩) rfl fl_X2_15 dX2_init_11 rfl rfl (fun H locs hU hS => ?_)
  have hz : sz ≤ H.size := Nat.le_trans hz0 hS.1
  obtain ⟨iv_3, ei_4⟩ : ∃ z, z = up3 iv 88 i0 1 d := ⟨_, rfl⟩
  rw [← ei_4] at hU
  have hR : RG al iv_3 := by rw [ei_4]; exact hR.put (show _ ∧ _ from ⟨show (0 : Int) ≤ _ by omega, show _ ≤ (4000 : Int) by omega⟩)
  have hE := hE.puti (t := 88) (i := i0) (k := 1) (x := d) (by decide)
  rw [← ei_4] at hE
  refine lv_aload_n hx hb dX2_init_14 rfl (lv_at hl 0 rfl) ?_
  refine lv_iconst (v := 5) hx hb dX2_init_15 (by decide) ?_
  refine q_newp (t := 89) (ty := .int) C hU hS hB hz rfl (Or.inl rfl) k_89 (fun _ => rfl) ac_int (by decide) (by decide) (by decide) (Nat.le_of_ble_eq_true rfl) (Nat.le_of_ble_eq_true rfl) dX2_init_16 (fun a_5 H hU hS hz => ?_)
  have hc_12 : al.1 89 = al.1 89 := hE.1 89
  have hE9 := hE.new 89 a_5
  have hR9 := hR.new 89 a_5
  have hB9 := hB.new 89 a_5
  have hn9 := grow_new (al := al) (t := 89) (a := a_5)
  rw [hc_12] at hU hE9 hR9 hB9 hn9
  obtain ⟨al_6, ea_9⟩ : ∃ z, z = grow al 89 a_5 := ⟨_, rfl⟩
  obtain ⟨iv_7, ei_10⟩ : ∃ z, z = clr iv_3 89 (al.1 89) 0 := ⟨_, rfl⟩
  obtain ⟨rv_8, er_11⟩ : ∃ z, z = clr rv_1 89 (al.1 89) none := ⟨_, rfl⟩
  rw [← ea_9] at hU hE9 hR9 hB9 hn9
  rw [← ei_10] at hU hE9 hR9
  rw [← er_11] at hU hE9 hB9
  have ho_o : al_6.2 88 i0 = o := by rw [ea_9, grow_ad hi_o]; exact ho_o
  have hi_o : i0 < al_6.1 88 := by rw [ea_9, grow_ct]; omega
  have ho_oti : al_6.2 65 ti = oti := by rw [ea_9, grow_ad hi_oti]; exact ho_oti
  have hi_oti : ti < al_6.1 65 := by rw [ea_9, grow_ct]; omega
  have ho_a_5 : al_6.2 89 (al.1 89) = a_5 := hn9
  have hi_a_5 : (al.1 89) < al_6.1 89 := by rw [ea_9, grow_ct, hc_12]; simp
  have hN : NN 88 i0 [0] rv_8 := hN.keep (fun k => by rw [er_11]; exact clr_ne (fun z => absurd z.1 (by decide)))
  have hE := hE9
  have hR := hR9
  have hB := hB9
  refine W.widen (k := 1) (n := 5) (Nat.le_of_ble_eq_true rfl) (Nat.le_of_ble_eq_true rfl) ?_
  refine W.eq (g2 := F0 m 18 ls [.ref (al_6.2 89 (al.1 89)), .ref (al_6.2 88 i0)]) (by rw [ho_a_5, ho_o]) ?_
  refine q_putr (t := 88) (i := i0) (k := 2) (t' := 89) (j := (al.1 89)) C hU hS k_88 (hc := rfl) uwX2 tyX2 tyX2_ok nmX2 hi_o (by decide) rfl (Or.inr ⟨rfl, hnm, rfl⟩) rfl fl_X2_19 dX2_init_18 (fun _ => rfl) (fun _ => rfl) (fun H locs hU hS => ?_)
  have hz : sz ≤ H.size := Nat.le_trans hz0 hS.1
  obtain ⟨rv_13, er_14⟩ : ∃ z, z = up3 rv_8 88 i0 2 (some (al.1 89)) := ⟨_, rfl⟩
  rw [← er_14] at hU
  have hB : RB al_6 rv_13 := by rw [er_14]; exact hB.put rfl hi_a_5
  have hE := hE.putr (t := 88) (i := i0) (k := 2) (x := some (al.1 89)) (by decide)
  rw [← er_14] at hE
  have hN : NN 88 i0 [2, 0] rv_13 := by rw [er_14]; exact hN.put 2 (al.1 89)
  exact q_vretA C hr hlk hU hS (⟨hR, hB, hE, hN, ⟨a_5, by rw [ea_9], by rw [ei_10, ei_4], by rw [er_14, er_11, er_2]⟩⟩) dX2_init_21
end
section
-- what an adder leaves: more cells, the old ones as they were but in md
def EX (md : Mo) (al : Al) (iv : Iv) (rv : Rv) (al' : Al) (iv' : Iv) (rv' : Rv) : Prop :=
  (∀ t, al.1 t ≤ al'.1 t) ∧ (∀ t i, i < al.1 t → al'.2 t i = al.2 t i) ∧ (∀ t i k, i < al.1 t → ¬ MD md t k → iv' t i k = iv t i k ∧ rv' t i k = rv t i k)
theorem EX.of {md : Mo} {al : Al} {iv iv' : Iv} {rv rv' : Rv} (h1 : FR md iv iv') (h2 : FR md rv rv') : EX md al iv rv al iv' rv' := ⟨fun _ => Nat.le_refl _, fun _ _ _ => rfl, fun t i k _ m => ⟨h1 t i k m, h2 t i k m⟩⟩
theorem EX.mono {a b : Mo} {al al' : Al} {iv iv' : Iv} {rv rv' : Rv} (h : EX a al iv rv al' iv' rv') (hs : subM a b) : EX b al iv rv al' iv' rv' := ⟨h.1, h.2.1, fun t i k q m => h.2.2 t i k q (fun w => m (w.sub hs))⟩
theorem EX.tr {a b : Mo} {al al1 al2 : Al} {iv iv1 iv2 : Iv} {rv rv1 rv2 : Rv} (h : EX a al iv rv al1 iv1 rv1) (g : EX b al1 iv1 rv1 al2 iv2 rv2) {m : Mo} (ha : subM a m) (hb : subM b m) : EX m al iv rv al2 iv2 rv2 := by
  refine ⟨fun t => Nat.le_trans (h.1 t) (g.1 t), fun t i q => ?_, fun t i k q w => ?_⟩
  · rw [g.2.1 t i (Nat.lt_of_lt_of_le q (h.1 t))]; exact h.2.1 t i q
  · have z1 := g.2.2 t i k (Nat.lt_of_lt_of_le q (h.1 t)) (fun y => w (y.sub hb))
    have z2 := h.2.2 t i k q (fun y => w (y.sub ha))
    exact ⟨z1.1.trans z2.1, z1.2.trans z2.2⟩
theorem MD.no {md : Mo} {t k : Nat} (ht : t ∉ md.1 ∧ t ∉ md.2.map (fun p => p.1)) : ¬ MD md t k := fun q => by
  rcases q with q | q
  · exact ht.1 q
  · exact ht.2 (List.mem_map.mpr ⟨_, q, rfl⟩)
theorem RF.rb {al : Al} {rv : Rv} (h : RF al rv) : RB al rv := fun t i k t' h1 h2 h3 j h4 => (h t i k t' h1 h2 h3).1 j h4
theorem RF.ext {al al' : Al} {rv rv' : Rv} (hF : RF al rv) (hB : RB al' rv') (ho : ∀ t i k, i < al.1 t → nnl t k = true → rv' t i k = rv t i k) (hn : ∀ t i k t', al.1 t ≤ i → i < al'.1 t → k < (pt t).2.1 → (pt t).2.2.2 k = some t' → nnl t k = true → ∃ j, rv' t i k = some j) : RF al' rv' := by
  intro t i k t' h1 h2 h3
  refine ⟨fun j hj => hB t i k t' h1 h2 h3 j hj, fun hk => ?_⟩
  rcases Nat.lt_or_ge i (al.1 t) with q | q
  · rw [ho t i k q hk]; exact (hF t i k t' q h2 h3).2 hk
  · exact hn t i k t' q h1 h2 h3 hk
/-- a store whose cells of the watched kinds are as they were; what an adder changes is told apart -/
theorem SP.keep1 {al al' : Al} {iv iv' : Iv} {rv rv' : Rv} (h : SP al iv rv) (hC : CN al) (hc : ∀ t, t ≠ 62 → al'.1 t = al.1 t) (ho : ∀ t i k, i < al.1 t → ¬ MD ([58], [(57, 1)]) t k → iv' t i k = iv t i k ∧ rv' t i k = rv t i k)
    (h1 : (∀ i : Nat, i < al'.1 62 → rv' 58 0 i = some i) ∧ (iv' 57 0 1).toInt = al'.1 62) : SP al' iv' rv' := by
  obtain ⟨-, ⟨x3, x4⟩, ⟨x5, x6⟩, ⟨x7, x8, x9⟩, x10, x11, x12, x13, x14⟩ := h
  have s1 : ∀ t, t ∈ sng → 0 < al.1 t := fun t ht => by rw [hC.1 t ht]; decide
  have c65 := hc 65 (by decide)
  have c88 := hc 88 (by decide)
  have c66 : al.1 66 = al.1 65 := hC.2.2.2.1
  have c56 : al.1 56 = 10 := hC.2.1
  refine ⟨h1, ⟨fun i hi => ?_, ?_⟩, ⟨fun i hi => ?_, ?_⟩, ⟨fun i hi => ?_, fun i hi => ?_, fun i hi => ?_⟩, fun i hi => ⟨?_, ?_, fun k hk => ?_⟩, fun i hi => ?_, fun t ht => ?_, fun c hc => ?_, fun k hk => ?_⟩
  · rw [(ho 64 0 i (s1 64 (by decide)) (MD.no (by decide))).2]; exact x3 i (by omega)
  · rw [(ho 63 0 1 (s1 63 (by decide)) (by decide)).1, c65]; exact x4
  · rw [(ho 85 0 i (s1 85 (by decide)) (MD.no (by decide))).2]; exact x5 i (by omega)
  · rw [(ho 84 0 1 (s1 84 (by decide)) (by decide)).1, c88]; exact x6
  · rw [(ho 53 0 i (s1 53 (by decide)) (MD.no (by decide))).2]; exact x7 i hi
  · rw [(ho 54 0 i (s1 54 (by decide)) (MD.no (by decide))).2]; exact x8 i hi
  · rw [(ho 56 i 0 (by omega) (by decide)).1]; exact x9 i hi
  · rw [(ho 65 i 3 (by omega) (by decide)).2]; exact (x10 i (by omega)).1
  · rw [(ho 65 i 5 (by omega) (by decide)).2]; exact (x10 i (by omega)).2.1
  · rw [(ho 65 i 4 (by omega) (by decide)).1] at hk
    rw [(ho 66 i k (by omega) (MD.no (by decide))).2]; exact (x10 i (by omega)).2.2 k hk
  · rw [(ho 88 i 2 (by omega) (by decide)).2]; exact x11 i (by omega)
  · rw [(ho 0 0 20 (s1 0 (by decide)) (by decide)).1] at ht
    rw [(ho 19 0 t (s1 19 (by decide)) (MD.no (by decide))).1]; exact x12 t ht
  · rw [(ho 0 0 41 (s1 0 (by decide)) (by decide)).1] at hc
    rw [(ho 35 0 c (s1 35 (by decide)) (MD.no (by decide))).1, (ho 0 0 20 (s1 0 (by decide)) (by decide)).1]; exact x13 c hc
  · rw [(ho 0 0 6 (s1 0 (by decide)) (by decide)).1] at hk
    rw [(ho 9 0 k (s1 9 (by decide)) (MD.no (by decide))).1, (ho 10 0 k (s1 10 (by decide)) (MD.no (by decide))).1]; exact x14 k hk
theorem SP.keep2 {al al' : Al} {iv iv' : Iv} {rv rv' : Rv} (h : SP al iv rv) (hC : CN al) (hc : ∀ t, t ≠ 65 → t ≠ 66 → t ≠ 67 → al'.1 t = al.1 t) (hc1 : al'.1 65 = al.1 65 + 1) (ho : ∀ t i k, i < al.1 t → ¬ MD ([64], [(63, 1)]) t k → iv' t i k = iv t i k ∧ rv' t i k = rv t i k)
    (h1 : (∀ i : Nat, i < al'.1 65 → rv' 64 0 i = some i) ∧ (iv' 63 0 1).toInt = al'.1 65) (h2 : rv' 65 (al.1 65) 3 = some (al.1 65) ∧ rv' 65 (al.1 65) 5 = some (al.1 65) ∧ ∀ k : Nat, (k : Int) < (iv' 65 (al.1 65) 4).toInt → ∃ j, rv' 66 (al.1 65) k = some j) : SP al' iv' rv' := by
  obtain ⟨⟨x1, x2⟩, -, ⟨x5, x6⟩, ⟨x7, x8, x9⟩, x10, x11, x12, x13, x14⟩ := h
  have s1 : ∀ t, t ∈ sng → 0 < al.1 t := fun t ht => by rw [hC.1 t ht]; decide
  have c62 := hc 62 (by decide) (by decide) (by decide)
  have c88 := hc 88 (by decide) (by decide) (by decide)
  have c66 : al.1 66 = al.1 65 := hC.2.2.2.1
  have c56 : al.1 56 = 10 := hC.2.1
  refine ⟨⟨fun i hi => ?_, ?_⟩, h1, ⟨fun i hi => ?_, ?_⟩, ⟨fun i hi => ?_, fun i hi => ?_, fun i hi => ?_⟩, fun i hi => ?_, fun i hi => ?_, fun t ht => ?_, fun c hc => ?_, fun k hk => ?_⟩
  · rw [(ho 58 0 i (s1 58 (by decide)) (MD.no (by decide))).2]; exact x1 i (by omega)
  · rw [(ho 57 0 1 (s1 57 (by decide)) (by decide)).1, c62]; exact x2
  · rw [(ho 85 0 i (s1 85 (by decide)) (MD.no (by decide))).2]; exact x5 i (by omega)
  · rw [(ho 84 0 1 (s1 84 (by decide)) (by decide)).1, c88]; exact x6
  · rw [(ho 53 0 i (s1 53 (by decide)) (MD.no (by decide))).2]; exact x7 i hi
  · rw [(ho 54 0 i (s1 54 (by decide)) (MD.no (by decide))).2]; exact x8 i hi
  · rw [(ho 56 i 0 (by omega) (by decide)).1]; exact x9 i hi
  · rcases Nat.lt_or_ge i (al.1 65) with q | q
    · refine ⟨?_, ?_, fun k hk => ?_⟩
      · rw [(ho 65 i 3 (by omega) (by decide)).2]; exact (x10 i (by omega)).1
      · rw [(ho 65 i 5 (by omega) (by decide)).2]; exact (x10 i (by omega)).2.1
      · rw [(ho 65 i 4 (by omega) (by decide)).1] at hk
        rw [(ho 66 i k (by omega) (MD.no (by decide))).2]; exact (x10 i (by omega)).2.2 k hk
    · have e : i = al.1 65 := by omega
      rw [e]; exact h2
  · rw [(ho 88 i 2 (by omega) (by decide)).2]; exact x11 i (by omega)
  · rw [(ho 0 0 20 (s1 0 (by decide)) (by decide)).1] at ht
    rw [(ho 19 0 t (s1 19 (by decide)) (MD.no (by decide))).1]; exact x12 t ht
  · rw [(ho 0 0 41 (s1 0 (by decide)) (by decide)).1] at hc
    rw [(ho 35 0 c (s1 35 (by decide)) (MD.no (by decide))).1, (ho 0 0 20 (s1 0 (by decide)) (by decide)).1]; exact x13 c hc
  · rw [(ho 0 0 6 (s1 0 (by decide)) (by decide)).1] at hk
    rw [(ho 9 0 k (s1 9 (by decide)) (MD.no (by decide))).1, (ho 10 0 k (s1 10 (by decide)) (MD.no (by decide))).1]; exact x14 k hk
theorem SP.keep3 {al al' : Al} {iv iv' : Iv} {rv rv' : Rv} (h : SP al iv rv) (hC : CN al) (hc : ∀ t, t ≠ 88 → t ≠ 89 → al'.1 t = al.1 t) (hc1 : al'.1 88 = al.1 88 + 1) (ho : ∀ t i k, i < al.1 t → ¬ MD ([85], [(84, 1), (65, 6)]) t k → iv' t i k = iv t i k ∧ rv' t i k = rv t i k)
    (h1 : (∀ i : Nat, i < al'.1 88 → rv' 85 0 i = some i) ∧ (iv' 84 0 1).toInt = al'.1 88) (h2 : rv' 88 (al.1 88) 2 = some (al.1 88)) : SP al' iv' rv' := by
  obtain ⟨⟨x1, x2⟩, ⟨x3, x4⟩, -, ⟨x7, x8, x9⟩, x10, x11, x12, x13, x14⟩ := h
  have s1 : ∀ t, t ∈ sng → 0 < al.1 t := fun t ht => by rw [hC.1 t ht]; decide
  have c62 := hc 62 (by decide) (by decide)
  have c65 := hc 65 (by decide) (by decide)
  have c66 : al.1 66 = al.1 65 := hC.2.2.2.1
  have c56 : al.1 56 = 10 := hC.2.1
  refine ⟨⟨fun i hi => ?_, ?_⟩, ⟨fun i hi => ?_, ?_⟩, h1, ⟨fun i hi => ?_, fun i hi => ?_, fun i hi => ?_⟩, fun i hi => ⟨?_, ?_, fun k hk => ?_⟩, fun i hi => ?_, fun t ht => ?_, fun c hc => ?_, fun k hk => ?_⟩
  · rw [(ho 58 0 i (s1 58 (by decide)) (MD.no (by decide))).2]; exact x1 i (by omega)
  · rw [(ho 57 0 1 (s1 57 (by decide)) (by decide)).1, c62]; exact x2
  · rw [(ho 64 0 i (s1 64 (by decide)) (MD.no (by decide))).2]; exact x3 i (by omega)
  · rw [(ho 63 0 1 (s1 63 (by decide)) (by decide)).1, c65]; exact x4
  · rw [(ho 53 0 i (s1 53 (by decide)) (MD.no (by decide))).2]; exact x7 i hi
  · rw [(ho 54 0 i (s1 54 (by decide)) (MD.no (by decide))).2]; exact x8 i hi
  · rw [(ho 56 i 0 (by omega) (by decide)).1]; exact x9 i hi
  · rw [(ho 65 i 3 (by omega) (by decide)).2]; exact (x10 i (by omega)).1
  · rw [(ho 65 i 5 (by omega) (by decide)).2]; exact (x10 i (by omega)).2.1
  · rw [(ho 65 i 4 (by omega) (by decide)).1] at hk
    rw [(ho 66 i k (by omega) (MD.no (by decide))).2]; exact (x10 i (by omega)).2.2 k hk
  · rcases Nat.lt_or_ge i (al.1 88) with q | q
    · rw [(ho 88 i 2 (by omega) (by decide)).2]; exact x11 i q
    · have e : i = al.1 88 := by omega
      rw [e]; exact h2
  · rw [(ho 0 0 20 (s1 0 (by decide)) (by decide)).1] at ht
    rw [(ho 19 0 t (s1 19 (by decide)) (MD.no (by decide))).1]; exact x12 t ht
  · rw [(ho 0 0 41 (s1 0 (by decide)) (by decide)).1] at hc
    rw [(ho 35 0 c (s1 35 (by decide)) (MD.no (by decide))).1, (ho 0 0 20 (s1 0 (by decide)) (by decide)).1]; exact x13 c hc
  · rw [(ho 0 0 6 (s1 0 (by decide)) (by decide)).1] at hk
    rw [(ho 9 0 k (s1 9 (by decide)) (MD.no (by decide))).1, (ho 10 0 k (s1 10 (by decide)) (MD.no (by decide))).1]; exact x14 k hk
-- a new LEG
def legIv (iv : Iv) (n : Nat) (num pl cr lv_ ar siz : Int32) : Iv := up3 (up3 (up3 (up3 (up3 (up3 (clr iv 62 n 0) 62 n 0 num) 62 n 3 pl) 62 n 4 cr) 62 n 5 lv_) 62 n 6 ar) 57 0 1 siz
def legRv (rv : Rv) (n pf pt_ : Nat) : Rv := up3 (up3 (up3 (clr rv 62 n none) 62 n 1 (some pf)) 62 n 2 (some pt_)) 58 0 n (some n)
theorem legIv_o {iv : Iv} {n : Nat} {num pl cr lv_ ar siz : Int32} {t i k : Nat} (q : ¬ (t = 62 ∧ i = n)) (q2 : ¬ (t = 57 ∧ i = 0 ∧ k = 1)) : legIv iv n num pl cr lv_ ar siz t i k = iv t i k := by
  have z : ∀ {a : Nat}, ¬ (t = 62 ∧ i = n ∧ k = a) := fun w => q ⟨w.1, w.2.1⟩
  unfold legIv
  rw [up3_ne q2, up3_ne z, up3_ne z, up3_ne z, up3_ne z, up3_ne z, clr_ne q]
theorem legRv_o {rv : Rv} {n pf pt_ t i k : Nat} (q : ¬ (t = 62 ∧ i = n)) (q2 : ¬ (t = 58 ∧ i = 0 ∧ k = n)) : legRv rv n pf pt_ t i k = rv t i k := by
  have z : ∀ {a : Nat}, ¬ (t = 62 ∧ i = n ∧ k = a) := fun w => q ⟨w.1, w.2.1⟩
  unfold legRv
  rw [up3_ne q2, up3_ne z, up3_ne z, clr_ne q]
theorem leg_GI {al : Al} {iv : Iv} {rv : Rv} (hG : GI al iv rv) (a : Nat) {num pl cr lv_ ar siz : Int32} {pf pt_ : Nat} (hpf : pf < al.1 56) (hpt : pt_ < al.1 56) (hnum : num.toInt = al.1 62) (hsiz : siz.toInt = al.1 62 + 1) (hlt : al.1 62 < 40) (h3 : 0 ≤ pl.toInt ∧ pl.toInt ≤ 5) (h4 : 0 ≤ cr.toInt ∧ cr.toInt ≤ 5) (h5 : 0 ≤ lv_.toInt ∧ lv_.toInt ≤ 20000) (h6 : 0 ≤ ar.toInt ∧ ar.toInt ≤ 20000) :
    GI (grow al 62 a) (legIv iv (al.1 62) num pl cr lv_ ar siz) (legRv rv (al.1 62) pf pt_) ∧ EX ([58], [(57, 1)]) al iv rv (grow al 62 a) (legIv iv (al.1 62) num pl cr lv_ ar siz) (legRv rv (al.1 62) pf pt_) := by
  obtain ⟨hR, hF, hC, hP⟩ := hG
  have ct := grow_ct al 62 a
  have old : ∀ t i k, i < al.1 t → ¬ MD ([58], [(57, 1)]) t k → legIv iv (al.1 62) num pl cr lv_ ar siz t i k = iv t i k ∧ legRv rv (al.1 62) pf pt_ t i k = rv t i k := fun t i k q m => by
    have e : ¬ (t = 62 ∧ i = al.1 62) := fun z => by obtain ⟨rfl, rfl⟩ := z; exact Nat.lt_irrefl _ q
    exact ⟨legIv_o e (fun z => m (by obtain ⟨rfl, -, rfl⟩ := z; decide)), legRv_o e (fun z => m (by obtain ⟨rfl, -, -⟩ := z; exact Or.inl (by decide)))⟩
  have hB : RB (grow al 62 a) (legRv rv (al.1 62) pf pt_) := by
    refine RB.put (t1 := 62) (RB.put (t1 := 56) (RB.put (t1 := 56) (hF.rb.new 62 a) rfl ?_) rfl ?_) rfl ?_
    · rw [ct]; simp; exact hpf
    · rw [ct]; simp; exact hpt
    · rw [ct]; simp
  have c58 : al.1 58 = 1 := hC.1 58 (by decide)
  refine ⟨⟨?_, ?_, ?_, ?_⟩, fun t => by rw [ct]; omega, fun t i q => grow_ad q, old⟩
  · refine RG.put (RG.put (RG.put (RG.put (RG.put (RG.put (hR.new 62 a) ?_) ?_) ?_) ?_) ?_) ?_
    · exact ⟨show (0 : Int) ≤ _ by omega, show _ ≤ (39 : Int) by omega⟩
    · exact h3
    · exact h4
    · exact h5
    · exact h6
    · exact ⟨show (0 : Int) ≤ _ by omega, show _ ≤ (40 : Int) by omega⟩
  · refine hF.ext hB (fun t i k q m => ?_) (fun t i k t' q1 q2 q3 q4 q5 => ?_)
    · have e : ¬ (t = 62 ∧ i = al.1 62) := fun z => by obtain ⟨rfl, rfl⟩ := z; exact Nat.lt_irrefl _ q
      exact legRv_o e (fun z => by obtain ⟨rfl, -, -⟩ := z; cases m)
    · have e : t = 62 ∧ i = al.1 62 := by
        rw [ct] at q2
        by_cases z : t = 62
        · subst z; simp at q2; exact ⟨rfl, by omega⟩
        · simp [z] at q2; omega
      obtain ⟨rfl, rfl⟩ := e
      unfold legRv
      rw [up3_ne (fun z => absurd z.1 (by decide))]
      have hk : k = 1 ∨ k = 2 := by
        have q3' : k < 15 := q3
        match k, q3', q4 with
        | 1, _, _ => exact Or.inl rfl
        | 2, _, _ => exact Or.inr rfl
        | 0, _, h => cases h
        | 3, _, h => cases h
        | 4, _, h => cases h
        | 5, _, h => cases h
        | 6, _, h => cases h
        | 7, _, h => cases h
        | 8, _, h => cases h
        | 9, _, h => cases h
        | 10, _, h => cases h
        | 11, _, h => cases h
        | 12, _, h => cases h
        | 13, _, h => cases h
        | 14, _, h => cases h
      rcases hk with rfl | rfl
      · rw [up3_ne (fun z => absurd z.2.2 (by decide)), up3_self]; exact ⟨_, rfl⟩
      · rw [up3_self]; exact ⟨_, rfl⟩
  · refine ⟨fun t ht => ?_, ?_, ?_, ?_, ?_, ?_⟩
    · rw [ct, if_neg (fun e => by subst e; exact absurd ht (by decide))]; exact hC.1 t ht
    · rw [ct]; exact hC.2.1
    · rw [ct]; exact hC.2.2.1
    · rw [ct, ct]; exact hC.2.2.2.1
    · rw [ct, ct]; exact hC.2.2.2.2.1
    · rw [ct, ct]; exact hC.2.2.2.2.2
  · refine hP.keep1 hC (fun t e => by rw [ct, if_neg e]; rfl) old ⟨fun i hi => ?_, ?_⟩
    · rw [ct] at hi
      simp at hi
      by_cases z : i = al.1 62
      · subst z; exact up3_self _ _ _ _ _
      · rw [legRv_o (fun w => absurd w.1 (by decide)) (fun w => z w.2.2)]; exact hP.1.1 i (by omega)
    · rw [ct]
      show (up3 _ 57 0 1 siz 57 0 1).toInt = _
      rw [up3_self, hsiz]; simp
end
section
set_option maxHeartbeats 4000000 in
set_option maxRecDepth 100000 in
theorem c_X10_add {l : Launch} {D : va_G} {cA : FieldType → ClassId} {sz : Nat} {al : Al} {iv : Iv} {rv : Rv} (hG : GI al iv rv) (pf : Nat) (hpf : pf < al.1 56) (pt_ : Nat) (hpt : pt_ < al.1 56) (pl cr lv_ ar : Int32) (pre0 : (iv 57 0 1).toInt < 40) (h3 : 0 ≤ pl.toInt ∧ pl.toInt ≤ 5) (h4 : 0 ≤ cr.toInt ∧ cr.toInt ≤ 5) (h5 : 0 ≤ lv_.toInt ∧ lv_.toInt ≤ 20000) (h6 : 0 ≤ ar.toInt ∧ ar.toInt ≤ 20000) :
    Met l yX10_add (wd yX10_add cX10_add 7 (some .int)) (rmA 2 1 15) (PcA D cA sz al iv rv [.ref (al.2 57 0), .ref (al.2 56 pf), .ref (al.2 56 pt_), .int pl, .int cr, .int lv_, .int ar] (fun _ => True))
      (QIA D cA sz (fun r al' iv' rv' => GI al' iv' rv' ∧ EX ([58], [(57, 1)]) al iv rv al' iv' rv' ∧ r = iv 57 0 1 ∧ ∃ (a : Nat) (siz : Int32), siz.toInt = al.1 62 + 1 ∧ al' = grow al 62 a ∧ iv' = legIv iv (al.1 62) r pl cr lv_ ar siz ∧ rv' = legRv rv (al.1 62) pf pt_)) 1 15 (Aq sz) := by
  refine mk_a (by decide) (Nat.le_of_ble_eq_true rfl) rfl ?_
  intro p e s m below meth c ls C hr hlk hnm hU hS hz _ hl
  have hx := C.1.1
  have hb := C.1.2.1
  have hz0 := hz
  have k1 : (1 : Int32).toInt = 1 := by decide
  have hB := hG.2.1.rb
  have hR := hG.1
  have n62 : (iv 57 0 1).toInt = al.1 62 := hG.2.2.2.1.2
  have hl : lv_has ls 7 [(0, .ref (al.2 57 0)), (1, .ref (al.2 56 pf)), (2, .ref (al.2 56 pt_)), (3, .int pl), (4, .int cr), (5, .int lv_), (6, .int ar)] := hl
  refine lv_aload_n hx hb dX10_add_0 rfl (lv_at hl 0 rfl) ?_
  refine g_57_0 C hU hG (h1_57 hG) fl_X10_13 dX10_add_1 ?_
  refine lv_aload_n hx hb dX10_add_4 rfl (lv_at hl 0 rfl) ?_
  refine g_57_1 C hU hG (h1_57 hG) fl_X10_28 dX10_add_5 (fun x ex lx ux => ?_)
  have tx := congrArg Int32.toInt ex
  refine q_newo (t := 62) C hU hS hB hz k_62 (hc := rfl) uwX5 tyX5 tyX5_ok (by decide +kernel) kl_X10_11 ib_X5 iz_X5 (Nat.le_of_ble_eq_true rfl) (Nat.le_of_ble_eq_true rfl) dX10_add_8 (fun a H hU hS hz => ?_)
  have hR1 := hR.new 62 a
  have hB1 := hB.new 62 a
  obtain ⟨al1, ea⟩ : ∃ z, z = grow al 62 a := ⟨_, rfl⟩
  rw [← ea] at hU hR1 hB1
  have A57 : al1.2 57 0 = al.2 57 0 := by rw [ea, grow_ad (h1_57 hG)]
  have A58 : al1.2 58 0 = al.2 58 0 := by rw [ea, grow_ad (h1_58 hG)]
  have Apf : al1.2 56 pf = al.2 56 pf := by rw [ea, grow_ad hpf]
  have Apt : al1.2 56 pt_ = al.2 56 pt_ := by rw [ea, grow_ad hpt]
  have An : al1.2 62 (al.1 62) = a := by rw [ea]; exact grow_new
  have i57 : 0 < al1.1 57 := by rw [ea, grow_ct]; exact Nat.lt_add_right _ (h1_57 hG)
  have i58 : 0 < al1.1 58 := by rw [ea, grow_ct]; exact Nat.lt_add_right _ (h1_58 hG)
  have ipf : pf < al1.1 56 := by rw [ea, grow_ct]; exact Nat.lt_add_right _ hpf
  have ipt : pt_ < al1.1 56 := by rw [ea, grow_ct]; exact Nat.lt_add_right _ hpt
  have inn : al.1 62 < al1.1 62 := by rw [ea, grow_ct]; simp
  refine lv_dup hx hb dX10_add_11 rfl ?_
  refine lv_aload_n hx hb dX10_add_12 rfl (lv_at hl 0 rfl) ?_
  refine W.eq (g2 := F0 m 13 ls [.ref (al1.2 57 0), .ref a, .ref a, .int x, .ref (al.2 58 0)]) (by rw [A57]) ?_
  refine q_geti (t := 57) (i := 0) (k := 1) C hU k_57 (hc := rfl) uwX10 i57 (by decide) rfl rfl fl_X10_28 dX10_add_13 (fun x2 ex2 => ?_)
  rw [clr_ne (fun z => absurd z.1 (by decide))] at ex2
  have e2 : x2 = x := ex2.trans ex.symm
  refine lv_aload_n hx hb dX10_add_16 rfl (lv_at hl 1 rfl) ?_
  refine lv_aload_n hx hb dX10_add_17 rfl (lv_at hl 2 rfl) ?_
  refine lv_iload_n hx hb dX10_add_18 rfl (lv_at hl 3 rfl) ?_
  refine lv_iload hx hb dX10_add_19 (lv_at hl 4 rfl) ?_
  refine lv_iload hx hb dX10_add_21 (lv_at hl 5 rfl) ?_
  refine lv_iload hx hb dX10_add_23 (lv_at hl 6 rfl) ?_
  refine W.eq (g2 := F0 m 25 ls [.int ar, .int lv_, .int cr, .int pl, .ref (al1.2 56 pt_), .ref (al1.2 56 pf), .int x2, .ref (al1.2 62 (al.1 62)), .ref a, .int x, .ref (al.2 58 0)]) (by rw [Apf, Apt, An]) ?_
  refine q_cvA (q_runIA (n := 7) (b := al1.2 62 (al.1 62)) (As := [.int x2, .ref (al1.2 56 pf), .ref (al1.2 56 pt_), .int pl, .int cr, .int lv_, .int ar]) (rest := [.ref a, .int x, .ref (al.2 58 0)]) C hU hz (fun _ _ _ => trivial) (fun _ _ _ _ _ => trivial) (c_X5_init hR1 hB1 (al.1 62) inn x2 pf ipf pt_ ipt pl cr lv_ ar) cw_X5_init im_X5_init iz_X5 ml_X10_36 rfl (by decide +kernel) hl.1 rfl rfl (Nat.le_of_ble_eq_true rfl) dX10_add_25 rfl rfl ⟨Nat.le_of_ble_eq_true rfl, Nat.le_of_ble_eq_true rfl⟩ ⟨Nat.le_of_ble_eq_true rfl, Nat.le_of_ble_eq_true rfl⟩) hS hz (fun al4 iv4 rv4 H locs hp hU hS hz => ?_)
  obtain ⟨p1, p2, p3⟩ := hp
  rw [p1] at hU
  refine W.eq (g2 := F0 m 28 ls [.ref (al1.2 62 (al.1 62)), .int x, .ref (al1.2 58 0)]) (by rw [An, A58]) ?_
  refine s_58 (i := 0) (j := al.1 62) C hU hS i58 inn (x := x) (by omega) (by omega) dX10_add_28 (fun rv5 H locs er5 hU hS => ?_)
  refine lv_aload_n hx hb dX10_add_29 rfl (lv_at hl 0 rfl) ?_
  refine lv_dup hx hb dX10_add_30 rfl ?_
  refine W.eq (g2 := F0 m 31 ls [.ref (al1.2 57 0), .ref (al1.2 57 0)]) (by rw [A57]) ?_
  refine q_geti (t := 57) (i := 0) (k := 1) C hU k_57 (hc := rfl) uwX10 i57 (by decide) rfl rfl fl_X10_28 dX10_add_31 (fun x3 ex3 => ?_)
  have f3 : x3 = x := by
    rw [ex3, p2, up3_ne (fun z => absurd z.1 (by decide)), up3_ne (fun z => absurd z.1 (by decide)), up3_ne (fun z => absurd z.1 (by decide)), up3_ne (fun z => absurd z.1 (by decide)), up3_ne (fun z => absurd z.1 (by decide)), clr_ne (fun z => absurd z.1 (by decide)), ex]
  have t3 := congrArg Int32.toInt f3
  refine lv_iconst (v := 1) hx hb dX10_add_34 (by decide) ?_
  refine lv_iadd hx hb dX10_add_35 ?_
  refine lv_topi (fun y ey => ?_)
  have ty : y.toInt = x3.toInt + (1 : Int32).toInt := by rw [ey]; exact fb_addI (by omega) (by omega)
  refine p_57_1 C hU hS i57 fl_X10_28 dX10_add_36 (fun iv6 H locs ei6 hU hS => ?_)
  refine lv_aload_n hx hb dX10_add_39 rfl (lv_at hl 0 rfl) ?_
  refine W.eq (g2 := F0 m 40 ls [.ref (al1.2 57 0)]) (by rw [A57]) ?_
  refine q_geti (t := 57) (i := 0) (k := 1) C hU k_57 (hc := rfl) uwX10 i57 (by decide) rfl rfl fl_X10_28 dX10_add_40 (fun x4 ex4 => ?_)
  rw [ei6, up3_self] at ex4
  refine lv_iconst (v := 1) hx hb dX10_add_43 (by decide) ?_
  refine lv_isub hx hb dX10_add_44 ?_
  refine lv_topi (fun r er => ?_)
  have tr : r.toInt = x4.toInt - (1 : Int32).toInt := by rw [er]; exact fb_subI (by rw [ex4]; omega) (by rw [ex4]; omega)
  rw [ex4] at tr
  have rr : r = iv 57 0 1 := (fa_eq _ _).mpr (by omega)
  have xn : x.toNatClampNeg = al.1 62 := by rw [clamp_n]; omega
  have q := leg_GI hG a (num := r) (siz := y) (pl := pl) (cr := cr) (lv_ := lv_) (ar := ar) hpf hpt (by rw [rr]; exact n62) (by omega) (by omega) h3 h4 h5 h6
  have ei : iv6 = legIv iv (al.1 62) r pl cr lv_ ar y := by
    rw [ei6, p2, show x2 = r from (e2.trans ex).trans rr.symm]; rfl
  have ev : rv5 = legRv rv (al.1 62) pf pt_ := by rw [er5, p3, xn]; rfl
  rw [← ei, ← ev, ← ea] at q
  exact q_iretA C hr hlk hU hS ⟨q.1, q.2, rr, a, y, by omega, ea, ei, ev⟩ dX10_add_45
end
section
-- a new TICKET
def tickIv (iv : Iv) (n : Nat) (num siz : Int32) : Iv := up3 (clr (up3 (clr (up3 (clr iv 65 n 0) 65 n 0 num) 66 n 0) 65 n 4 1) 67 n 0) 63 0 1 siz
def tickRv (rv : Rv) (n li : Nat) : Rv := up3 (up3 (clr (up3 (up3 (clr (up3 (up3 (clr rv 65 n none) 65 n 1 (some li)) 65 n 2 (some li)) 66 n none) 65 n 3 (some n)) 66 n 0 (some li)) 67 n none) 65 n 5 (some n)) 64 0 n (some n)
theorem tickIv_o {iv : Iv} {n : Nat} {num siz : Int32} {t i k : Nat} (q : ¬ ((t = 65 ∨ t = 66 ∨ t = 67) ∧ i = n)) (q2 : ¬ (t = 63 ∧ i = 0 ∧ k = 1)) : tickIv iv n num siz t i k = iv t i k := by
  have z : ∀ {a : Nat}, ¬ (t = 65 ∧ i = n ∧ k = a) := fun w => q ⟨Or.inl w.1, w.2.1⟩
  unfold tickIv
  rw [up3_ne q2, clr_ne (fun w => q ⟨Or.inr (Or.inr w.1), w.2⟩), up3_ne z, clr_ne (fun w => q ⟨Or.inr (Or.inl w.1), w.2⟩), up3_ne z, clr_ne (fun w => q ⟨Or.inl w.1, w.2⟩)]
theorem tickRv_o {rv : Rv} {n li : Nat} {t i k : Nat} (q : ¬ ((t = 65 ∨ t = 66 ∨ t = 67) ∧ i = n)) (q2 : ¬ (t = 64 ∧ i = 0 ∧ k = n)) : tickRv rv n li t i k = rv t i k := by
  have z : ∀ {a : Nat}, ¬ (t = 65 ∧ i = n ∧ k = a) := fun w => q ⟨Or.inl w.1, w.2.1⟩
  unfold tickRv
  rw [up3_ne q2, up3_ne z, clr_ne (fun w => q ⟨Or.inr (Or.inr w.1), w.2⟩), up3_ne (fun w => q ⟨Or.inr (Or.inl w.1), w.2.1⟩), up3_ne z, clr_ne (fun w => q ⟨Or.inr (Or.inl w.1), w.2⟩), up3_ne z, up3_ne z, clr_ne (fun w => q ⟨Or.inl w.1, w.2⟩)]
theorem tick_GI {al al' : Al} {iv : Iv} {rv : Rv} (hG : GI al iv rv) {num siz : Int32} {li : Nat} (ct : ∀ t, al'.1 t = al.1 t + (if t = 65 ∨ t = 66 ∨ t = 67 then 1 else 0)) (hA : ∀ t i, i < al.1 t → al'.2 t i = al.2 t i) (hRn : RG al' (tickIv iv (al.1 65) num siz)) (hB : RB al' (tickRv rv (al.1 65) li)) (hsiz : siz.toInt = al.1 65 + 1) :
    GI al' (tickIv iv (al.1 65) num siz) (tickRv rv (al.1 65) li) ∧ EX ([64], [(63, 1)]) al iv rv al' (tickIv iv (al.1 65) num siz) (tickRv rv (al.1 65) li) := by
  obtain ⟨hR, hF, hC, hP⟩ := hG
  have c66 : al.1 66 = al.1 65 := hC.2.2.2.1
  have c67 : al.1 67 = al.1 65 := hC.2.2.2.2.1
  have ne : ∀ t i, i < al.1 t → ¬ ((t = 65 ∨ t = 66 ∨ t = 67) ∧ i = al.1 65) := fun t i q z => by
    obtain ⟨z1, z2⟩ := z
    rcases z1 with rfl | rfl | rfl <;> omega
  have old : ∀ t i k, i < al.1 t → ¬ MD ([64], [(63, 1)]) t k → tickIv iv (al.1 65) num siz t i k = iv t i k ∧ tickRv rv (al.1 65) li t i k = rv t i k := fun t i k q m =>
    ⟨tickIv_o (ne t i q) (fun z => m (by obtain ⟨rfl, -, rfl⟩ := z; decide)), tickRv_o (ne t i q) (fun z => m (by obtain ⟨rfl, -, -⟩ := z; exact Or.inl (by decide)))⟩
  refine ⟨⟨hRn, ?_, ?_, ?_⟩, fun t => by rw [ct]; omega, hA, old⟩
  · refine hF.ext hB (fun t i k q m => tickRv_o (ne t i q) (fun z => by obtain ⟨rfl, -, -⟩ := z; cases m)) (fun t i k t' q1 q2 q3 q4 q5 => ?_)
    rw [ct] at q2
    have e : (t = 65 ∨ t = 66 ∨ t = 67) := by
      by_cases z : t = 65 ∨ t = 66 ∨ t = 67
      · exact z
      · simp [z] at q2; omega
    simp [e] at q2
    rcases e with rfl | rfl | rfl
    · have ei : i = al.1 65 := by omega
      subst ei
      unfold tickRv
      rw [up3_ne (fun z => absurd z.1 (by decide))]
      have hk : k = 1 ∨ k = 2 ∨ k = 3 ∨ k = 5 := by
        have q3' : k < 7 := q3
        match k, q3', q4 with
        | 0, _, h => cases h
        | 1, _, _ => exact Or.inl rfl
        | 2, _, _ => exact Or.inr (Or.inl rfl)
        | 3, _, _ => exact Or.inr (Or.inr (Or.inl rfl))
        | 4, _, h => cases h
        | 5, _, _ => exact Or.inr (Or.inr (Or.inr rfl))
        | 6, _, h => cases h
      rcases hk with rfl | rfl | rfl | rfl
      · rw [up3_ne (fun z => absurd z.2.2 (by decide)), clr_ne (fun z => absurd z.1 (by decide)), up3_ne (fun z => absurd z.1 (by decide)), up3_ne (fun z => absurd z.2.2 (by decide)), clr_ne (fun z => absurd z.1 (by decide)), up3_ne (fun z => absurd z.2.2 (by decide)), up3_self]; exact ⟨_, rfl⟩
      · rw [up3_ne (fun z => absurd z.2.2 (by decide)), clr_ne (fun z => absurd z.1 (by decide)), up3_ne (fun z => absurd z.1 (by decide)), up3_ne (fun z => absurd z.2.2 (by decide)), clr_ne (fun z => absurd z.1 (by decide)), up3_self]; exact ⟨_, rfl⟩
      · rw [up3_ne (fun z => absurd z.2.2 (by decide)), clr_ne (fun z => absurd z.1 (by decide)), up3_ne (fun z => absurd z.1 (by decide)), up3_self]; exact ⟨_, rfl⟩
      · rw [up3_self]; exact ⟨_, rfl⟩
    · cases q5
    · cases q4
  · refine ⟨fun t ht => ?_, ?_, ?_, ?_, ?_, ?_⟩
    · rw [ct, if_neg (fun e => by rcases e with rfl | rfl | rfl <;> exact absurd ht (by decide))]; exact hC.1 t ht
    · rw [ct]; exact hC.2.1
    · rw [ct]; exact hC.2.2.1
    · rw [ct, ct]; simp; exact c66
    · rw [ct, ct]; simp; exact c67
    · rw [ct, ct]; exact hC.2.2.2.2.2
  · refine hP.keep2 hC (fun t e1 e2 e3 => by rw [ct]; simp [e1, e2, e3]) (by rw [ct]; simp) old ⟨fun i hi => ?_, ?_⟩ ⟨?_, ?_, fun k hk => ?_⟩
    · rw [ct] at hi
      simp at hi
      by_cases z : i = al.1 65
      · subst z; exact up3_self _ _ _ _ _
      · rw [tickRv_o (fun w => by rcases w.1 with q | q | q <;> exact absurd q (by decide)) (fun w => z w.2.2)]; exact hP.2.1.1 i (by omega)
    · rw [ct]
      show (up3 _ 63 0 1 siz 63 0 1).toInt = _
      rw [up3_self, hsiz]; simp
    · unfold tickRv
      rw [up3_ne (fun z => absurd z.1 (by decide)), up3_ne (fun z => absurd z.2.2 (by decide)), clr_ne (fun z => absurd z.1 (by decide)), up3_ne (fun z => absurd z.1 (by decide)), up3_self]
    · unfold tickRv
      rw [up3_ne (fun z => absurd z.1 (by decide)), up3_self]
    · have e4 : tickIv iv (al.1 65) num siz 65 (al.1 65) 4 = 1 := by
        unfold tickIv
        rw [up3_ne (fun z => absurd z.1 (by decide)), clr_ne (fun z => absurd z.1 (by decide)), up3_self]
      rw [e4, show (1 : Int32).toInt = 1 from by decide] at hk
      have k0 : k = 0 := by omega
      subst k0
      unfold tickRv
      rw [up3_ne (fun z => absurd z.1 (by decide)), up3_ne (fun z => absurd z.1 (by decide)), clr_ne (fun z => absurd z.1 (by decide)), up3_self]
      exact ⟨_, rfl⟩
set_option maxHeartbeats 4000000 in
set_option maxRecDepth 100000 in
theorem c_X9_add {l : Launch} {D : va_G} {cA : FieldType → ClassId} {sz : Nat} {al : Al} {iv : Iv} {rv : Rv} (hG : GI al iv rv) (li : Nat) (hli : li < al.1 62) (pre0 : (iv 63 0 1).toInt < 20) :
    Met l yX9_add (wd yX9_add cX9_add 2 (some .int)) (rmA 2 3 16) (PcA D cA sz al iv rv [.ref (al.2 63 0), .ref (al.2 62 li)] (fun _ => True))
      (QIA D cA sz (fun r al' iv' rv' => GI al' iv' rv' ∧ EX ([64], [(63, 1)]) al iv rv al' iv' rv' ∧ r = iv 63 0 1 ∧ ∃ (a a6 a7 : Nat) (siz : Int32), siz.toInt = al.1 65 + 1 ∧ al' = grow (grow (grow al 65 a) 66 a6) 67 a7 ∧ iv' = tickIv iv (al.1 65) r siz ∧ rv' = tickRv rv (al.1 65) li)) 3 16 (Aq sz) := by
  refine mk_a (by decide) (Nat.le_of_ble_eq_true rfl) rfl ?_
  intro p e s m below meth c ls C hr hlk hnm hU hS hz _ hl
  have hx := C.1.1
  have hb := C.1.2.1
  have hz0 := hz
  have k1 : (1 : Int32).toInt = 1 := by decide
  have hB := hG.2.1.rb
  have hR := hG.1
  have n65 : (iv 63 0 1).toInt = al.1 65 := hG.2.2.2.2.1.2
  have c66 : al.1 66 = al.1 65 := hG.2.2.1.2.2.2.1
  have c67 : al.1 67 = al.1 65 := hG.2.2.1.2.2.2.2.1
  have hl : lv_has ls 2 [(0, .ref (al.2 63 0)), (1, .ref (al.2 62 li))] := hl
  refine lv_aload_n hx hb dX9_add_0 rfl (lv_at hl 0 rfl) ?_
  refine g_63_0 C hU hG (h1_63 hG) fl_X9_11 dX9_add_1 ?_
  refine lv_aload_n hx hb dX9_add_4 rfl (lv_at hl 0 rfl) ?_
  refine g_63_1 C hU hG (h1_63 hG) fl_X9_15 dX9_add_5 (fun x ex lx ux => ?_)
  have tx := congrArg Int32.toInt ex
  refine q_newo (t := 65) C hU hS hB hz k_65 (hc := rfl) uwX8 tyX8 tyX8_ok (by decide +kernel) kl_X9_9 ib_X8 iz_X8 (Nat.le_of_ble_eq_true rfl) (Nat.le_of_ble_eq_true rfl) dX9_add_8 (fun a H hU hS hz => ?_)
  have hR1 := hR.new 65 a
  have hB1 := hB.new 65 a
  obtain ⟨al1, ea⟩ : ∃ z, z = grow al 65 a := ⟨_, rfl⟩
  rw [← ea] at hU hR1 hB1
  have ct1 := fun t => show al1.1 t = al.1 t + (if t = 65 then 1 else 0) by rw [ea]; exact grow_ct al 65 a t
  have A63 : al1.2 63 0 = al.2 63 0 := by rw [ea, grow_ad (h1_63 hG)]
  have Ali : al1.2 62 li = al.2 62 li := by rw [ea, grow_ad hli]
  have An : al1.2 65 (al.1 65) = a := by rw [ea]; exact grow_new
  have i63 : 0 < al1.1 63 := by rw [ct1]; exact Nat.lt_add_right _ (h1_63 hG)
  have ili : li < al1.1 62 := by rw [ct1]; exact Nat.lt_add_right _ hli
  have inn : al.1 65 < al1.1 65 := by rw [ct1]; simp
  refine lv_dup hx hb dX9_add_11 rfl ?_
  refine lv_aload_n hx hb dX9_add_12 rfl (lv_at hl 0 rfl) ?_
  refine W.eq (g2 := F0 m 13 ls [.ref (al1.2 63 0), .ref a, .ref a, .int x, .ref (al.2 64 0)]) (by rw [A63]) ?_
  refine q_geti (t := 63) (i := 0) (k := 1) C hU k_63 (hc := rfl) uwX9 i63 (by decide) rfl rfl fl_X9_15 dX9_add_13 (fun x2 ex2 => ?_)
  rw [clr_ne (fun z => absurd z.1 (by decide))] at ex2
  have e2 : x2 = x := ex2.trans ex.symm
  have t2 := congrArg Int32.toInt e2
  refine lv_aload_n hx hb dX9_add_16 rfl (lv_at hl 1 rfl) ?_
  refine W.eq (g2 := F0 m 17 ls [.ref (al1.2 62 li), .int x2, .ref (al1.2 65 (al.1 65)), .ref a, .int x, .ref (al.2 64 0)]) (by rw [Ali, An]) ?_
  refine q_cvA (q_runIA (n := 2) (b := al1.2 65 (al.1 65)) (As := [.int x2, .ref (al1.2 62 li)]) (rest := [.ref a, .int x, .ref (al.2 64 0)]) C hU hz (fun _ _ _ => trivial) (fun _ _ _ _ _ => trivial) (c_X8_initx hR1 hB1 (al.1 65) inn x2 li ili ⟨by omega, by omega⟩) cw_X8_init im_X8_init iz_X8 ml_X9_25 rfl (by decide +kernel) hl.1 rfl rfl (Nat.le_of_ble_eq_true rfl) dX9_add_17 rfl rfl ⟨Nat.le_of_ble_eq_true rfl, Nat.le_of_ble_eq_true rfl⟩ ⟨Nat.le_of_ble_eq_true rfl, Nat.le_of_ble_eq_true rfl⟩) hS hz (fun al4 iv4 rv4 H locs hp hU hS hz => ?_)
  obtain ⟨hR4, hB4, hE4, -, a6, a7, p1, p2, p3⟩ := hp
  have d66 : al1.1 66 = al.1 65 := by rw [ct1]; exact c66
  have d67 : al1.1 67 = al.1 65 := by rw [ct1]; exact c67
  rw [d66, d67] at p2 p3
  have ct4 : ∀ t, al4.1 t = al.1 t + (if t = 65 ∨ t = 66 ∨ t = 67 then 1 else 0) := fun t => by
    rw [p1, grow_ct, grow_ct, ct1]
    by_cases z5 : t = 65
    · subst z5; simp
    · by_cases z6 : t = 66
      · subst z6; simp
      · by_cases z7 : t = 67
        · subst z7; simp
        · simp [z5, z6, z7]
  have hA4 : ∀ t i, i < al.1 t → al4.2 t i = al.2 t i := fun t i q => by
    have q1 : i < al1.1 t := by rw [ct1]; omega
    rw [hE4.2.1 t i q1, ea, grow_ad q]
  have B63 : al4.2 63 0 = al.2 63 0 := hA4 63 0 (h1_63 hG)
  have B64 : al4.2 64 0 = al.2 64 0 := hA4 64 0 (h1_64 hG)
  have Bn : al4.2 65 (al.1 65) = a := by rw [hE4.2.1 65 _ inn]; exact An
  have j63 : 0 < al4.1 63 := by rw [ct4]; exact Nat.lt_add_right _ (h1_63 hG)
  have j64 : 0 < al4.1 64 := by rw [ct4]; exact Nat.lt_add_right _ (h1_64 hG)
  have jnn : al.1 65 < al4.1 65 := by rw [ct4]; simp
  refine W.eq (g2 := F0 m 20 ls [.ref (al4.2 65 (al.1 65)), .int x, .ref (al4.2 64 0)]) (by rw [Bn, B64]) ?_
  refine s_64 (i := 0) (j := al.1 65) C hU hS j64 jnn (x := x) (by omega) (by omega) dX9_add_20 (fun rv5 H locs er5 hU hS => ?_)
  refine lv_aload_n hx hb dX9_add_21 rfl (lv_at hl 0 rfl) ?_
  refine lv_dup hx hb dX9_add_22 rfl ?_
  refine W.eq (g2 := F0 m 23 ls [.ref (al4.2 63 0), .ref (al4.2 63 0)]) (by rw [B63]) ?_
  refine q_geti (t := 63) (i := 0) (k := 1) C hU k_63 (hc := rfl) uwX9 j63 (by decide) rfl rfl fl_X9_15 dX9_add_23 (fun x3 ex3 => ?_)
  have f3 : x3 = x := by
    rw [ex3, p2, clr_ne (fun z => absurd z.1 (by decide)), up3_ne (fun z => absurd z.1 (by decide)), clr_ne (fun z => absurd z.1 (by decide)), up3_ne (fun z => absurd z.1 (by decide)), clr_ne (fun z => absurd z.1 (by decide)), ex]
  have t3 := congrArg Int32.toInt f3
  refine lv_iconst (v := 1) hx hb dX9_add_26 (by decide) ?_
  refine lv_iadd hx hb dX9_add_27 ?_
  refine lv_topi (fun y ey => ?_)
  have ty : y.toInt = x3.toInt + (1 : Int32).toInt := by rw [ey]; exact fb_addI (by omega) (by omega)
  refine p_63_1 C hU hS j63 fl_X9_15 dX9_add_28 (fun iv6 H locs ei6 hU hS => ?_)
  refine lv_aload_n hx hb dX9_add_31 rfl (lv_at hl 0 rfl) ?_
  refine W.eq (g2 := F0 m 32 ls [.ref (al4.2 63 0)]) (by rw [B63]) ?_
  refine q_geti (t := 63) (i := 0) (k := 1) C hU k_63 (hc := rfl) uwX9 j63 (by decide) rfl rfl fl_X9_15 dX9_add_32 (fun x4 ex4 => ?_)
  rw [ei6, up3_self] at ex4
  refine lv_iconst (v := 1) hx hb dX9_add_35 (by decide) ?_
  refine lv_isub hx hb dX9_add_36 ?_
  refine lv_topi (fun r er => ?_)
  have tr : r.toInt = x4.toInt - (1 : Int32).toInt := by rw [er]; exact fb_subI (by rw [ex4]; omega) (by rw [ex4]; omega)
  rw [ex4] at tr
  have rr : r = iv 63 0 1 := (fa_eq _ _).mpr (by omega)
  have xn : x.toNatClampNeg = al.1 65 := by rw [clamp_n]; omega
  have ei : iv6 = tickIv iv (al.1 65) r y := by
    rw [ei6, p2, show x2 = r from (e2.trans ex).trans rr.symm]; rfl
  have ev : rv5 = tickRv rv (al.1 65) li := by rw [er5, p3, xn]; rfl
  have hR6 : RG al4 iv6 := by rw [ei6]; exact hR4.put (show _ ∧ _ from ⟨show (0 : Int) ≤ _ by omega, show _ ≤ (20 : Int) by omega⟩)
  have hB6 : RB al4 rv5 := by rw [er5]; exact hB4.put rfl jnn
  rw [ei] at hR6
  rw [ev] at hB6
  have q := tick_GI hG ct4 hA4 hR6 hB6 (by omega)
  rw [← ei, ← ev] at q
  exact q_iretA C hr hlk hU hS ⟨q.1, q.2, rr, a, a6, a7, y, by omega, by rw [p1, ea], ei, ev⟩ dX9_add_37
end
section
-- a new CLAIM
def claimIv (iv : Iv) (n ti : Nat) (d siz : Int32) : Iv := up3 (up3 (clr (up3 (clr iv 88 n 0) 88 n 1 d) 89 n 0) 65 ti 6 1) 84 0 1 siz
def claimRv (rv : Rv) (n ti : Nat) : Rv := up3 (up3 (clr (up3 (clr rv 88 n none) 88 n 0 (some ti)) 89 n none) 88 n 2 (some n)) 85 0 n (some n)
theorem claimIv_o {iv : Iv} {n ti : Nat} {d siz : Int32} {t i k : Nat} (q : ¬ ((t = 88 ∨ t = 89) ∧ i = n)) (q1 : ¬ (t = 65 ∧ i = ti ∧ k = 6)) (q2 : ¬ (t = 84 ∧ i = 0 ∧ k = 1)) : claimIv iv n ti d siz t i k = iv t i k := by
  unfold claimIv
  rw [up3_ne q2, up3_ne q1, clr_ne (fun w => q ⟨Or.inr w.1, w.2⟩), up3_ne (fun w => q ⟨Or.inl w.1, w.2.1⟩), clr_ne (fun w => q ⟨Or.inl w.1, w.2⟩)]
theorem claimRv_o {rv : Rv} {n ti : Nat} {t i k : Nat} (q : ¬ ((t = 88 ∨ t = 89) ∧ i = n)) (q2 : ¬ (t = 85 ∧ i = 0 ∧ k = n)) : claimRv rv n ti t i k = rv t i k := by
  unfold claimRv
  rw [up3_ne q2, up3_ne (fun w => q ⟨Or.inl w.1, w.2.1⟩), clr_ne (fun w => q ⟨Or.inr w.1, w.2⟩), up3_ne (fun w => q ⟨Or.inl w.1, w.2.1⟩), clr_ne (fun w => q ⟨Or.inl w.1, w.2⟩)]
theorem claim_GI {al al' : Al} {iv : Iv} {rv : Rv} (hG : GI al iv rv) {d siz : Int32} {ti : Nat} (ct : ∀ t, al'.1 t = al.1 t + (if t = 88 ∨ t = 89 then 1 else 0)) (hA : ∀ t i, i < al.1 t → al'.2 t i = al.2 t i) (hRn : RG al' (claimIv iv (al.1 88) ti d siz)) (hB : RB al' (claimRv rv (al.1 88) ti)) (hsiz : siz.toInt = al.1 88 + 1) :
    GI al' (claimIv iv (al.1 88) ti d siz) (claimRv rv (al.1 88) ti) ∧ EX ([85], [(84, 1), (65, 6)]) al iv rv al' (claimIv iv (al.1 88) ti d siz) (claimRv rv (al.1 88) ti) := by
  obtain ⟨hR, hF, hC, hP⟩ := hG
  have c89 : al.1 89 = al.1 88 := hC.2.2.2.2.2
  have ne : ∀ t i, i < al.1 t → ¬ ((t = 88 ∨ t = 89) ∧ i = al.1 88) := fun t i q z => by
    obtain ⟨z1, z2⟩ := z
    rcases z1 with rfl | rfl <;> omega
  have old : ∀ t i k, i < al.1 t → ¬ MD ([85], [(84, 1), (65, 6)]) t k → claimIv iv (al.1 88) ti d siz t i k = iv t i k ∧ claimRv rv (al.1 88) ti t i k = rv t i k := fun t i k q m =>
    ⟨claimIv_o (ne t i q) (fun z => m (by obtain ⟨rfl, -, rfl⟩ := z; decide)) (fun z => m (by obtain ⟨rfl, -, rfl⟩ := z; decide)), claimRv_o (ne t i q) (fun z => m (by obtain ⟨rfl, -, -⟩ := z; exact Or.inl (by decide)))⟩
  refine ⟨⟨hRn, ?_, ?_, ?_⟩, fun t => by rw [ct]; omega, hA, old⟩
  · refine hF.ext hB (fun t i k q m => claimRv_o (ne t i q) (fun z => by obtain ⟨rfl, -, -⟩ := z; cases m)) (fun t i k t' q1 q2 q3 q4 q5 => ?_)
    rw [ct] at q2
    have e : (t = 88 ∨ t = 89) := by
      by_cases z : t = 88 ∨ t = 89
      · exact z
      · simp [z] at q2; omega
    simp [e] at q2
    rcases e with rfl | rfl
    · have ei : i = al.1 88 := by omega
      subst ei
      unfold claimRv
      rw [up3_ne (fun z => absurd z.1 (by decide))]
      have hk : k = 0 ∨ k = 2 := by
        have q3' : k < 4 := q3
        match k, q3', q4 with
        | 0, _, _ => exact Or.inl rfl
        | 1, _, h => cases h
        | 2, _, _ => exact Or.inr rfl
        | 3, _, h => cases h
      rcases hk with rfl | rfl
      · rw [up3_ne (fun z => absurd z.2.2 (by decide)), clr_ne (fun z => absurd z.1 (by decide)), up3_self]; exact ⟨_, rfl⟩
      · rw [up3_self]; exact ⟨_, rfl⟩
    · cases q4
  · refine ⟨fun t ht => ?_, ?_, ?_, ?_, ?_, ?_⟩
    · rw [ct, if_neg (fun e => by rcases e with rfl | rfl <;> exact absurd ht (by decide))]; exact hC.1 t ht
    · rw [ct]; exact hC.2.1
    · rw [ct]; exact hC.2.2.1
    · rw [ct, ct]; exact hC.2.2.2.1
    · rw [ct, ct]; exact hC.2.2.2.2.1
    · rw [ct, ct]; simp; exact c89
  · refine hP.keep3 hC (fun t e1 e2 => by rw [ct]; simp [e1, e2]) (by rw [ct]; simp) old ⟨fun i hi => ?_, ?_⟩ ?_
    · rw [ct] at hi
      simp at hi
      by_cases z : i = al.1 88
      · subst z; exact up3_self _ _ _ _ _
      · rw [claimRv_o (fun w => by rcases w.1 with q | q <;> exact absurd q (by decide)) (fun w => z w.2.2)]; exact hP.2.2.1.1 i (by omega)
    · rw [ct]
      show (up3 _ 84 0 1 siz 84 0 1).toInt = _
      rw [up3_self, hsiz]; simp
    · unfold claimRv
      rw [up3_ne (fun z => absurd z.1 (by decide)), up3_self]
set_option maxHeartbeats 4000000 in
set_option maxRecDepth 100000 in
theorem c_X3_add {l : Launch} {D : va_G} {cA : FieldType → ClassId} {sz : Nat} {al : Al} {iv : Iv} {rv : Rv} (hG : GI al iv rv) (ti : Nat) (hti : ti < al.1 65) (d : Int32) (pre0 : (iv 84 0 1).toInt < 30) (pre1 : 0 ≤ d.toInt ∧ d.toInt ≤ 4000) :
    Met l yX3_add (wd yX3_add cX3_add 3 (some .int)) (rmA 2 2 9) (PcA D cA sz al iv rv [.ref (al.2 84 0), .ref (al.2 65 ti), .int d] (fun _ => True))
      (QIA D cA sz (fun r al' iv' rv' => GI al' iv' rv' ∧ EX ([85], [(84, 1), (65, 6)]) al iv rv al' iv' rv' ∧ r = iv 84 0 1 ∧ ∃ (a a9 : Nat) (siz : Int32), siz.toInt = al.1 88 + 1 ∧ al' = grow (grow al 88 a) 89 a9 ∧ iv' = claimIv iv (al.1 88) ti d siz ∧ rv' = claimRv rv (al.1 88) ti)) 2 9 (Aq sz) := by
  refine mk_a (by decide) (Nat.le_of_ble_eq_true rfl) rfl ?_
  intro p e s m below meth c ls C hr hlk hnm hU hS hz _ hl
  have hx := C.1.1
  have hb := C.1.2.1
  have hz0 := hz
  have k1 : (1 : Int32).toInt = 1 := by decide
  have hB := hG.2.1.rb
  have hR := hG.1
  have n88 : (iv 84 0 1).toInt = al.1 88 := hG.2.2.2.2.2.1.2
  have c89 : al.1 89 = al.1 88 := hG.2.2.1.2.2.2.2.2
  have hl : lv_has ls 3 [(0, .ref (al.2 84 0)), (1, .ref (al.2 65 ti)), (2, .int d)] := hl
  refine lv_aload_n hx hb dX3_add_0 rfl (lv_at hl 0 rfl) ?_
  refine g_84_0 C hU hG (h1_84 hG) fl_X3_13 dX3_add_1 ?_
  refine lv_aload_n hx hb dX3_add_4 rfl (lv_at hl 0 rfl) ?_
  refine g_84_1 C hU hG (h1_84 hG) fl_X3_24 dX3_add_5 (fun x ex lx ux => ?_)
  have tx := congrArg Int32.toInt ex
  refine q_newo (t := 88) C hU hS hB hz k_88 (hc := rfl) uwX2 tyX2 tyX2_ok (by decide +kernel) kl_X3_11 ib_X2 iz_X2 (Nat.le_of_ble_eq_true rfl) (Nat.le_of_ble_eq_true rfl) dX3_add_8 (fun a H hU hS hz => ?_)
  have hR1 := hR.new 88 a
  have hB1 := hB.new 88 a
  obtain ⟨al1, ea⟩ : ∃ z, z = grow al 88 a := ⟨_, rfl⟩
  rw [← ea] at hU hR1 hB1
  have ct1 := fun t => show al1.1 t = al.1 t + (if t = 88 then 1 else 0) by rw [ea]; exact grow_ct al 88 a t
  have Ati : al1.2 65 ti = al.2 65 ti := by rw [ea, grow_ad hti]
  have An : al1.2 88 (al.1 88) = a := by rw [ea]; exact grow_new
  have iti : ti < al1.1 65 := by rw [ct1]; exact Nat.lt_add_right _ hti
  have inn : al.1 88 < al1.1 88 := by rw [ct1]; simp
  refine lv_dup hx hb dX3_add_11 rfl ?_
  refine lv_aload_n hx hb dX3_add_12 rfl (lv_at hl 1 rfl) ?_
  refine lv_iload_n hx hb dX3_add_13 rfl (lv_at hl 2 rfl) ?_
  refine W.eq (g2 := F0 m 14 ls [.int d, .ref (al1.2 65 ti), .ref (al1.2 88 (al.1 88)), .ref a, .int x, .ref (al.2 85 0)]) (by rw [Ati, An]) ?_
  refine q_cvA (q_runIA (n := 2) (b := al1.2 88 (al.1 88)) (As := [.ref (al1.2 65 ti), .int d]) (rest := [.ref a, .int x, .ref (al.2 85 0)]) C hU hz (fun _ _ _ => trivial) (fun _ _ _ _ _ => trivial) (c_X2_initx hR1 hB1 (al.1 88) inn ti iti d pre1) cw_X2_init im_X2_init iz_X2 ml_X3_32 rfl (by decide +kernel) hl.1 rfl rfl (Nat.le_of_ble_eq_true rfl) dX3_add_14 rfl rfl ⟨Nat.le_of_ble_eq_true rfl, Nat.le_of_ble_eq_true rfl⟩ ⟨Nat.le_of_ble_eq_true rfl, Nat.le_of_ble_eq_true rfl⟩) hS hz (fun al4 iv4 rv4 H locs hp hU hS hz => ?_)
  obtain ⟨hR4, hB4, hE4, -, a9, p1, p2, p3⟩ := hp
  have d89 : al1.1 89 = al.1 88 := by rw [ct1]; exact c89
  rw [d89] at p2 p3
  have ct4 : ∀ t, al4.1 t = al.1 t + (if t = 88 ∨ t = 89 then 1 else 0) := fun t => by
    rw [p1, grow_ct, ct1]
    by_cases z5 : t = 88
    · subst z5; simp
    · by_cases z6 : t = 89
      · subst z6; simp
      · simp [z5, z6]
  have hA4 : ∀ t i, i < al.1 t → al4.2 t i = al.2 t i := fun t i q => by
    have q1 : i < al1.1 t := by rw [ct1]; omega
    rw [hE4.2.1 t i q1, ea, grow_ad q]
  have B84 : al4.2 84 0 = al.2 84 0 := hA4 84 0 (h1_84 hG)
  have B85 : al4.2 85 0 = al.2 85 0 := hA4 85 0 (h1_85 hG)
  have Bti : al4.2 65 ti = al.2 65 ti := hA4 65 ti hti
  have Bn : al4.2 88 (al.1 88) = a := by rw [hE4.2.1 88 _ inn]; exact An
  have j84 : 0 < al4.1 84 := by rw [ct4]; exact Nat.lt_add_right _ (h1_84 hG)
  have j85 : 0 < al4.1 85 := by rw [ct4]; exact Nat.lt_add_right _ (h1_85 hG)
  have jti : ti < al4.1 65 := by rw [ct4]; exact Nat.lt_add_right _ hti
  have jnn : al.1 88 < al4.1 88 := by rw [ct4]; simp
  refine W.eq (g2 := F0 m 17 ls [.ref (al4.2 88 (al.1 88)), .int x, .ref (al4.2 85 0)]) (by rw [Bn, B85]) ?_
  refine s_85 (i := 0) (j := al.1 88) C hU hS j85 jnn (x := x) (by omega) (by omega) dX3_add_17 (fun rv5 H locs er5 hU hS => ?_)
  refine lv_aload_n hx hb dX3_add_18 rfl (lv_at hl 1 rfl) ?_
  refine lv_iconst (v := 1) hx hb dX3_add_19 (by decide) ?_
  refine W.eq (g2 := F0 m 20 ls [.int 1, .ref (al4.2 65 ti)]) (by rw [Bti]) ?_
  refine p_65_6 C hU hS jti fl_X3_35 dX3_add_20 (by decide) (by decide) (fun iv5 H locs ei5 hU hS => ?_)
  refine lv_aload_n hx hb dX3_add_23 rfl (lv_at hl 0 rfl) ?_
  refine lv_dup hx hb dX3_add_24 rfl ?_
  refine W.eq (g2 := F0 m 25 ls [.ref (al4.2 84 0), .ref (al4.2 84 0)]) (by rw [B84]) ?_
  refine q_geti (t := 84) (i := 0) (k := 1) C hU k_84 (hc := rfl) uwX3 j84 (by decide) rfl rfl fl_X3_24 dX3_add_25 (fun x3 ex3 => ?_)
  have f3 : x3 = x := by
    rw [ex3, ei5, up3_ne (fun z => absurd z.1 (by decide)), p2, clr_ne (fun z => absurd z.1 (by decide)), up3_ne (fun z => absurd z.1 (by decide)), clr_ne (fun z => absurd z.1 (by decide)), ex]
  have t3 := congrArg Int32.toInt f3
  refine lv_iconst (v := 1) hx hb dX3_add_28 (by decide) ?_
  refine lv_iadd hx hb dX3_add_29 ?_
  refine lv_topi (fun y ey => ?_)
  have ty : y.toInt = x3.toInt + (1 : Int32).toInt := by rw [ey]; exact fb_addI (by omega) (by omega)
  refine p_84_1 C hU hS j84 fl_X3_24 dX3_add_30 (fun iv6 H locs ei6 hU hS => ?_)
  refine lv_aload_n hx hb dX3_add_33 rfl (lv_at hl 0 rfl) ?_
  refine W.eq (g2 := F0 m 34 ls [.ref (al4.2 84 0)]) (by rw [B84]) ?_
  refine q_geti (t := 84) (i := 0) (k := 1) C hU k_84 (hc := rfl) uwX3 j84 (by decide) rfl rfl fl_X3_24 dX3_add_34 (fun x4 ex4 => ?_)
  rw [ei6, up3_self] at ex4
  refine lv_iconst (v := 1) hx hb dX3_add_37 (by decide) ?_
  refine lv_isub hx hb dX3_add_38 ?_
  refine lv_topi (fun r er => ?_)
  have tr : r.toInt = x4.toInt - (1 : Int32).toInt := by rw [er]; exact fb_subI (by rw [ex4]; omega) (by rw [ex4]; omega)
  rw [ex4] at tr
  have rr : r = iv 84 0 1 := (fa_eq _ _).mpr (by omega)
  have xn : x.toNatClampNeg = al.1 88 := by rw [clamp_n]; omega
  have ei : iv6 = claimIv iv (al.1 88) ti d y := by rw [ei6, ei5, p2]; rfl
  have ev : rv5 = claimRv rv (al.1 88) ti := by rw [er5, p3, xn]; rfl
  have hR6 : RG al4 iv6 := by
    rw [ei6, ei5]
    exact (hR4.put (show _ ∧ _ from ⟨show (0 : Int) ≤ _ by decide, show _ ≤ (1 : Int) by decide⟩)).put (show _ ∧ _ from ⟨show (0 : Int) ≤ _ by omega, show _ ≤ (30 : Int) by omega⟩)
  have hB6 : RB al4 rv5 := by rw [er5]; exact hB4.put rfl jnn
  rw [ei] at hR6
  rw [ev] at hB6
  have q := claim_GI hG ct4 hA4 hR6 hB6 (by omega)
  rw [← ei, ← ev] at q
  exact q_iretA C hr hlk hU hS ⟨q.1, q.2, rr, a, a9, y, by omega, by rw [p1, ea], ei, ev⟩ dX3_add_39
end
section
theorem lst4_rng (j : Nat) : 0 ≤ (lst4 j).toInt ∧ (lst4 j).toInt ≤ 900 := by
  unfold lst4
  split <;> exact ⟨by decide, by decide⟩
theorem grt4_rng (j : Nat) : 0 ≤ (grt4 j).toInt ∧ (grt4 j).toInt ≤ 900 := by
  unfold grt4
  split
  · exact ⟨by decide, by decide⟩
  · split
    · exact ⟨by decide, by decide⟩
    · split <;> exact ⟨by decide, by decide⟩
section MK2
variable {l : Launch} {cc : ByteArray} {nL : Nat} {own : String} {D : va_G} {cA : FieldType → ClassId} {sz : Nat} {al : Al} {iv : Iv} {rv : Rv}
theorem mk_is {y : MethodName} {rmm : Room} {vs : List Value} {X : State → Prop} {post : Int32 → Iv → Rv → Prop} (hy : plainName y.cls = true) (hn : (lg_sl vs).length ≤ nL) (ho : y.cls = own)
    (body : ∀ (p : Program) (e : Env) (s : State) (m : MethodId) (args : Array Value) (below : List Frame) (meth : Method) (c : Code) (ls : Array Slot) (Q : State → Prop) (H : Heap) (locs : List Loc), Cx p s m args c cc nL own D cA → UW D cA sz al iv rv H → va_S (Aq sz) s.heap H locs → X s → sz ≤ s.heap.size → lv_has ls nL (lv_args 0 vs) →
      (∀ {r : Int32} {iv' : Iv} {rv' : Rv} {H : Heap} {locs : List Loc} {pc : Nat} {ls : Array Slot}, post r iv' rv' → UW D cA sz al iv' rv' H → va_S (Aq sz) s.heap H locs → decode cc pc = .ok (.ireturn, 1) → W p l e rmm s m args below meth c H locs 0 0 Q (F0 m pc ls [.int r])) →
      W p l e rmm s m args below meth c H locs 0 0 Q (F0 m 0 ls [])) :
    Met l y (wd y cc nL (some .int)) rmm (PcA D cA sz al iv rv vs X) (QI D cA sz al post) 0 0 (Aq sz) :=
  mk_a hy hn ho (fun p e s m below meth c ls C hr hlk _ hU hS hz hX hl => body p e s m _ below meth c ls _ _ _ C hU hS hX hz hl (fun hp hU hS hdg => q_iret C hr hlk hU hS hp hdg))
theorem mk_ia {y : MethodName} {rmm : Room} {vs : List Value} {X : State → Prop} {post : Int32 → Al → Iv → Rv → Prop} {mc ms : Nat} (hy : plainName y.cls = true) (hn : (lg_sl vs).length ≤ nL) (ho : y.cls = own)
    (body : ∀ (p : Program) (e : Env) (s : State) (m : MethodId) (args : Array Value) (below : List Frame) (meth : Method) (c : Code) (ls : Array Slot) (Q : State → Prop) (H : Heap) (locs : List Loc), Cx p s m args c cc nL own D cA → UW D cA sz al iv rv H → va_S (Aq sz) s.heap H locs → X s → sz ≤ s.heap.size → lv_has ls nL (lv_args 0 vs) →
      (∀ {r : Int32} {al' : Al} {iv' : Iv} {rv' : Rv} {H : Heap} {locs : List Loc} {pc : Nat} {ls : Array Slot}, post r al' iv' rv' → UW D cA sz al' iv' rv' H → va_S (Aq sz) s.heap H locs → decode cc pc = .ok (.ireturn, 1) → W p l e rmm s m args below meth c H locs mc ms Q (F0 m pc ls [.int r])) →
      W p l e rmm s m args below meth c H locs 0 0 Q (F0 m 0 ls [])) :
    Met l y (wd y cc nL (some .int)) rmm (PcA D cA sz al iv rv vs X) (QIA D cA sz post) mc ms (Aq sz) :=
  mk_a hy hn ho (fun p e s m below meth c ls C hr hlk _ hU hS hz hX hl => body p e s m _ below meth c ls _ _ _ C hU hS hX hz hl (fun hp hU hS hdg => q_iretA C hr hlk hU hS hp hdg))
end MK2
end
