set_option maxHeartbeats 40000000 in
set_option maxRecDepth 100000 in
theorem c_X12_init {l : Launch} {D : va_G} {cA : FieldType → ClassId} {sz : Nat} {al : Al} {iv : Iv} {rv : Rv} (hR : RG al iv) (hB : RB al rv) (i0 : Nat) (hi0 : i0 < al.1 0) : Met l yX12_init (wd yX12_init cX12_init 2 none) (rmA 1 48 1795) (PcA D cA sz al iv rv [.ref (al.2 0 i0)] (fun _ => True)) (QVA D cA sz (fun al' iv' rv' => RG al' iv' ∧ RB al' rv' ∧ EXT (nx (nx (nx (nx (nx (nx (nx (nx (nx (nx (nx (nx (nx (nx (nx (nx (nx (nx (nx (nx (nx (nx (nx (nx (nx (nx (nx (nx (nx (nx (nx (nx (nx (nx (nx (nx (nx (nx (nx (nx (nx (nx (nx (nx (nx (nx (nx (nx (fun _ => 0) 1) 2) 3) 4) 5) 6) 7) 8) 9) 10) 11) 12) 13) 14) 15) 16) 17) 18) 19) 20) 21) 22) 23) 24) 25) 26) 27) 28) 29) 30) 31) 32) 33) 34) 35) 36) 37) 38) 39) 40) 41) 42) 43) 44) 45) 46) 47) 48) ([3, 15, 31], [(0, 1), (0, 2), (0, 3), (0, 4), (0, 7), (0, 8), (0, 9), (0, 10), (0, 11), (0, 12), (0, 13), (0, 14), (0, 15), (0, 16), (0, 17), (0, 18), (0, 19), (0, 21), (0, 22), (0, 23), (0, 25), (0, 26), (0, 27), (0, 28), (0, 29), (0, 31), (0, 32), (0, 33), (0, 34), (0, 35), (0, 36), (0, 38), (0, 39), (0, 40), (0, 42), (0, 43), (0, 44), (0, 45), (0, 46), (0, 47), (0, 49), (0, 50), (0, 51), (0, 52), (0, 53), (0, 54), (0, 58), (0, 59)]) al iv rv al' iv' rv' ∧ NN 0 i0 [59, 58, 54, 53, 52, 51, 50, 49, 47, 46, 45, 44, 43, 42, 40, 39, 38, 36, 35, 34, 33, 32, 31, 29, 28, 27, 26, 25, 23, 22, 21, 19, 18, 17, 16, 15, 14, 13, 12, 11, 10, 9, 8, 7, 4, 3, 2, 1] rv')) 48 1795 (Aq sz) := by
  refine mk_b (by decide) (Nat.le_of_ble_eq_true rfl) rfl ?_
  intro p e s m args below meth c ls Q C hnm hU hS hz _ hl hret
  have hx := C.1.1
  have hb := C.1.2.1
  have k0 : (0 : Int32).toInt = 0 := by decide
  have k1 : (1 : Int32).toInt = 1 := by decide
  have k2 : (2 : Int32).toInt = 2 := by decide
  have k3 : (3 : Int32).toInt = 3 := by decide
  have k4 : (4 : Int32).toInt = 4 := by decide
  have k5 : (5 : Int32).toInt = 5 := by decide
  have k6 : (6 : Int32).toInt = 6 := by decide
  have k7 : (7 : Int32).toInt = 7 := by decide
  have k8 : (8 : Int32).toInt = 8 := by decide
  have k9 : (9 : Int32).toInt = 9 := by decide
  have k10 : (10 : Int32).toInt = 10 := by decide
  have k20 : (20 : Int32).toInt = 20 := by decide
  have k30 : (30 : Int32).toInt = 30 := by decide
  have k32 : (32 : Int32).toInt = 32 := by decide
  have k40 : (40 : Int32).toInt = 40 := by decide
  have k45 : (45 : Int32).toInt = 45 := by decide
  have k60 : (60 : Int32).toInt = 60 := by decide
  have k80 : (80 : Int32).toInt = 80 := by decide
  have k100 : (100 : Int32).toInt = 100 := by decide
  have k150 : (150 : Int32).toInt = 150 := by decide
  have k365 : (365 : Int32).toInt = 365 := by decide
  obtain ⟨o, ho_o⟩ : ∃ z, al.2 0 i0 = z := ⟨_, rfl⟩
  have hi_o := hi0
  have hl : lv_has ls 2 [(0, .ref o)] := by rw [← ho_o]; exact hl
  have hE : EXT (fun _ => 0) ([3, 15, 31], [(0, 1), (0, 2), (0, 3), (0, 4), (0, 7), (0, 8), (0, 9), (0, 10), (0, 11), (0, 12), (0, 13), (0, 14), (0, 15), (0, 16), (0, 17), (0, 18), (0, 19), (0, 21), (0, 22), (0, 23), (0, 25), (0, 26), (0, 27), (0, 28), (0, 29), (0, 31), (0, 32), (0, 33), (0, 34), (0, 35), (0, 36), (0, 38), (0, 39), (0, 40), (0, 42), (0, 43), (0, 44), (0, 45), (0, 46), (0, 47), (0, 49), (0, 50), (0, 51), (0, 52), (0, 53), (0, 54), (0, 58), (0, 59)]) al iv rv al iv rv := EXT.rf
  have hN : NN 0 i0 [] rv := NN.nil
  have hz0 := hz
  refine lv_aload_n hx hb dX12_init_0 rfl (lv_at hl 0 rfl) ?_
  refine W.objInit hx hb C.1.2.2.2.1 (C.1.2.2.2.2 _ oi_X12) (C.1.2.2.2.2 _ oi_m) (C.1.2.2.2.2 _ oi_c) rfl (by rw [C.1.2.2.1]; exact hl.1) rfl dX12_init_1 (Nat.le_of_ble_eq_true rfl) (Nat.le_of_ble_eq_true rfl) ?_
  refine W.eq (g2 := F0 m 4 ls []) rfl ?_
  refine lv_aload_n hx hb dX12_init_4 rfl (lv_at hl 0 rfl) ?_
  refine lv_bipush (v := 10) hx hb dX12_init_5 (by decide) ?_
  refine q_newp (t := 1) (ty := .int) C hU hS hB hz rfl (Or.inl rfl) k_1 (fun _ => rfl) ac_int (by decide) (by decide) (by decide) (Nat.le_of_ble_eq_true rfl) (Nat.le_of_ble_eq_true rfl) dX12_init_7 (fun a_1 H hU hS hz => ?_)
  have hc_8 : al.1 1 = al.1 1 := hE.1 1
  have hE9 := hE.new 1 a_1
  have hR9 := hR.new 1 a_1
  have hB9 := hB.new 1 a_1
  have hn9 := grow_new (al := al) (t := 1) (a := a_1)
  rw [hc_8] at hU hE9 hR9 hB9 hn9
  obtain ⟨al_2, ea_5⟩ : ∃ z, z = grow al 1 a_1 := ⟨_, rfl⟩
  obtain ⟨iv_3, ei_6⟩ : ∃ z, z = clr iv 1 (al.1 1) 0 := ⟨_, rfl⟩
  obtain ⟨rv_4, er_7⟩ : ∃ z, z = clr rv 1 (al.1 1) none := ⟨_, rfl⟩
  rw [← ea_5] at hU hE9 hR9 hB9 hn9
  rw [← ei_6] at hU hE9 hR9
  rw [← er_7] at hU hE9 hB9
  have ho_o : al_2.2 0 i0 = o := by rw [ea_5, grow_ad hi_o]; exact ho_o
  have hi_o : i0 < al_2.1 0 := by rw [ea_5, grow_ct]; omega
  have ho_a_1 : al_2.2 1 (al.1 1) = a_1 := hn9
  have hi_a_1 : (al.1 1) < al_2.1 1 := by rw [ea_5, grow_ct, hc_8]; simp
  have hN : NN 0 i0 [] rv_4 := hN.keep (fun k => by rw [er_7]; exact clr_ne (fun z => absurd z.1 (by decide)))
  have hE := hE9
  have hR := hR9
  have hB := hB9
  refine W.widen (k := 1) (n := 10) (Nat.le_of_ble_eq_true rfl) (Nat.le_of_ble_eq_true rfl) ?_
  refine W.eq (g2 := F0 m 9 ls [.ref (al_2.2 1 (al.1 1)), .ref (al_2.2 0 i0)]) (by rw [ho_a_1, ho_o]) ?_
  refine q_putr (t := 0) (i := i0) (k := 1) (t' := 1) (j := (al.1 1)) C hU hS k_0 (hc := rfl) uwX12 tyX12 tyX12_ok nmX12 hi_o (by decide) rfl (Or.inr ⟨rfl, hnm, rfl⟩) rfl fl_X12_7 dX12_init_9 (fun _ => rfl) (fun _ => rfl) (fun H locs hU hS => ?_)
  have hz : sz ≤ H.size := Nat.le_trans hz0 hS.1
  obtain ⟨rv_9, er_10⟩ : ∃ z, z = up3 rv_4 0 i0 1 (some (al.1 1)) := ⟨_, rfl⟩
  rw [← er_10] at hU
  have hB : RB al_2 rv_9 := by rw [er_10]; exact hB.put rfl hi_a_1
  have hE := hE.putr (t := 0) (i := i0) (k := 1) (x := some (al.1 1)) (by decide)
  rw [← er_10] at hE
  have hN : NN 0 i0 [1] rv_9 := by rw [er_10]; exact hN.put 1 (al.1 1)
  refine lv_aload_n hx hb dX12_init_12 rfl (lv_at hl 0 rfl) ?_
  refine lv_bipush (v := 100) hx hb dX12_init_13 (by decide) ?_
  refine q_newp (t := 2) (ty := .int) C hU hS hB hz rfl (Or.inl rfl) k_2 (fun _ => rfl) ac_int (by decide) (by decide) (by decide) (Nat.le_of_ble_eq_true rfl) (Nat.le_of_ble_eq_true rfl) dX12_init_15 (fun a_11 H hU hS hz => ?_)
  have hc_18 : al_2.1 2 = al.1 2 := hE.1 2
  have hE9 := hE.new 2 a_11
  have hR9 := hR.new 2 a_11
  have hB9 := hB.new 2 a_11
  have hn9 := grow_new (al := al_2) (t := 2) (a := a_11)
  rw [hc_18] at hU hE9 hR9 hB9 hn9
  obtain ⟨al_12, ea_15⟩ : ∃ z, z = grow al_2 2 a_11 := ⟨_, rfl⟩
  obtain ⟨iv_13, ei_16⟩ : ∃ z, z = clr iv_3 2 (al.1 2) 0 := ⟨_, rfl⟩
  obtain ⟨rv_14, er_17⟩ : ∃ z, z = clr rv_9 2 (al.1 2) none := ⟨_, rfl⟩
  rw [← ea_15] at hU hE9 hR9 hB9 hn9
  rw [← ei_16] at hU hE9 hR9
  rw [← er_17] at hU hE9 hB9
  have ho_a_1 : al_12.2 1 (al.1 1) = a_1 := by rw [ea_15, grow_ad hi_a_1]; exact ho_a_1
  have hi_a_1 : (al.1 1) < al_12.1 1 := by rw [ea_15, grow_ct]; omega
  have ho_o : al_12.2 0 i0 = o := by rw [ea_15, grow_ad hi_o]; exact ho_o
  have hi_o : i0 < al_12.1 0 := by rw [ea_15, grow_ct]; omega
  have ho_a_11 : al_12.2 2 (al.1 2) = a_11 := hn9
  have hi_a_11 : (al.1 2) < al_12.1 2 := by rw [ea_15, grow_ct, hc_18]; simp
  have hN : NN 0 i0 [1] rv_14 := hN.keep (fun k => by rw [er_17]; exact clr_ne (fun z => absurd z.1 (by decide)))
  have hE := hE9
  have hR := hR9
  have hB := hB9
  refine W.widen (k := 2) (n := 110) (Nat.le_of_ble_eq_true rfl) (Nat.le_of_ble_eq_true rfl) ?_
  refine W.eq (g2 := F0 m 17 ls [.ref (al_12.2 2 (al.1 2)), .ref (al_12.2 0 i0)]) (by rw [ho_a_11, ho_o]) ?_
  refine q_putr (t := 0) (i := i0) (k := 2) (t' := 2) (j := (al.1 2)) C hU hS k_0 (hc := rfl) uwX12 tyX12 tyX12_ok nmX12 hi_o (by decide) rfl (Or.inr ⟨rfl, hnm, rfl⟩) rfl fl_X12_13 dX12_init_17 (fun _ => rfl) (fun _ => rfl) (fun H locs hU hS => ?_)
  have hz : sz ≤ H.size := Nat.le_trans hz0 hS.1
  obtain ⟨rv_19, er_20⟩ : ∃ z, z = up3 rv_14 0 i0 2 (some (al.1 2)) := ⟨_, rfl⟩
  rw [← er_20] at hU
  have hB : RB al_12 rv_19 := by rw [er_20]; exact hB.put rfl hi_a_11
  have hE := hE.putr (t := 0) (i := i0) (k := 2) (x := some (al.1 2)) (by decide)
  rw [← er_20] at hE
  have hN : NN 0 i0 [2, 1] rv_19 := by rw [er_20]; exact hN.put 2 (al.1 2)
  refine lv_aload_n hx hb dX12_init_20 rfl (lv_at hl 0 rfl) ?_
  refine lv_bipush (v := 10) hx hb dX12_init_21 (by decide) ?_
  refine q_newp (t := 3) (ty := .int) C hU hS hB hz rfl (Or.inl rfl) k_3 (fun _ => rfl) ac_int (by decide) (by decide) (by decide) (Nat.le_of_ble_eq_true rfl) (Nat.le_of_ble_eq_true rfl) dX12_init_23 (fun a_21 H hU hS hz => ?_)
  have hc_28 : al_12.1 3 = al.1 3 := hE.1 3
  have hE9 := hE.new 3 a_21
  have hR9 := hR.new 3 a_21
  have hB9 := hB.new 3 a_21
  have hn9 := grow_new (al := al_12) (t := 3) (a := a_21)
  rw [hc_28] at hU hE9 hR9 hB9 hn9
  obtain ⟨al_22, ea_25⟩ : ∃ z, z = grow al_12 3 a_21 := ⟨_, rfl⟩
  obtain ⟨iv_23, ei_26⟩ : ∃ z, z = clr iv_13 3 (al.1 3) 0 := ⟨_, rfl⟩
  obtain ⟨rv_24, er_27⟩ : ∃ z, z = clr rv_19 3 (al.1 3) none := ⟨_, rfl⟩
  rw [← ea_25] at hU hE9 hR9 hB9 hn9
  rw [← ei_26] at hU hE9 hR9
  rw [← er_27] at hU hE9 hB9
  have ho_a_1 : al_22.2 1 (al.1 1) = a_1 := by rw [ea_25, grow_ad hi_a_1]; exact ho_a_1
  have hi_a_1 : (al.1 1) < al_22.1 1 := by rw [ea_25, grow_ct]; omega
  have ho_a_11 : al_22.2 2 (al.1 2) = a_11 := by rw [ea_25, grow_ad hi_a_11]; exact ho_a_11
  have hi_a_11 : (al.1 2) < al_22.1 2 := by rw [ea_25, grow_ct]; omega
  have ho_o : al_22.2 0 i0 = o := by rw [ea_25, grow_ad hi_o]; exact ho_o
  have hi_o : i0 < al_22.1 0 := by rw [ea_25, grow_ct]; omega
  have ho_a_21 : al_22.2 3 (al.1 3) = a_21 := hn9
  have hi_a_21 : (al.1 3) < al_22.1 3 := by rw [ea_25, grow_ct, hc_28]; simp
  have hN : NN 0 i0 [2, 1] rv_24 := hN.keep (fun k => by rw [er_27]; exact clr_ne (fun z => absurd z.1 (by decide)))
  have hE := hE9
  have hR := hR9
  have hB := hB9
  refine W.widen (k := 3) (n := 120) (Nat.le_of_ble_eq_true rfl) (Nat.le_of_ble_eq_true rfl) ?_
  refine lv_dup hx hb dX12_init_25 rfl ?_
  refine lv_iconst (v := 0) hx hb dX12_init_26 (by decide) ?_
  refine lv_iconst (v := 0) hx hb dX12_init_27 (by decide) ?_
  refine W.eq (g2 := F0 m 28 ls [.int 0, .int 0, .ref (al_22.2 3 (al.1 3)), .ref (al_22.2 3 (al.1 3)), .ref o]) (by rw [ho_a_21]) ?_
  refine s_3 (i := (al.1 3)) C hU hS hi_a_21 (x := 0) (by omega) (by omega) dX12_init_28 (fun iv_29 H locs ei_30 hU hS => ?_)
  have hz : sz ≤ H.size := Nat.le_trans hz0 hS.1
  refine W.eq (g2 := F0 m 29 ls [.ref a_21, .ref o]) (by rw [ho_a_21]) ?_
  have hR : RG al_22 iv_29 := by rw [ei_30]; exact hR.put (show _ ∧ _ from ⟨show (0 : Int) ≤ _ by omega, show _ ≤ (9 : Int) by omega⟩)
  have hE := hE.puti (t := 3) (i := (al.1 3)) (k := (0 : Int32).toNatClampNeg) (x := 0) (Or.inl (by decide))
  rw [← ei_30] at hE
  refine lv_dup hx hb dX12_init_29 rfl ?_
  refine lv_iconst (v := 1) hx hb dX12_init_30 (by decide) ?_
  refine lv_iconst (v := 1) hx hb dX12_init_31 (by decide) ?_
  refine W.eq (g2 := F0 m 32 ls [.int 1, .int 1, .ref (al_22.2 3 (al.1 3)), .ref (al_22.2 3 (al.1 3)), .ref o]) (by rw [ho_a_21]) ?_
  refine s_3 (i := (al.1 3)) C hU hS hi_a_21 (x := 1) (by omega) (by omega) dX12_init_32 (fun iv_31 H locs ei_32 hU hS => ?_)
  have hz : sz ≤ H.size := Nat.le_trans hz0 hS.1
  refine W.eq (g2 := F0 m 33 ls [.ref a_21, .ref o]) (by rw [ho_a_21]) ?_
  have hR : RG al_22 iv_31 := by rw [ei_32]; exact hR.put (show _ ∧ _ from ⟨show (0 : Int) ≤ _ by omega, show _ ≤ (9 : Int) by omega⟩)
  have hE := hE.puti (t := 3) (i := (al.1 3)) (k := (1 : Int32).toNatClampNeg) (x := 1) (Or.inl (by decide))
  rw [← ei_32] at hE
  refine lv_dup hx hb dX12_init_33 rfl ?_
  refine lv_iconst (v := 2) hx hb dX12_init_34 (by decide) ?_
  refine lv_iconst (v := 2) hx hb dX12_init_35 (by decide) ?_
  refine W.eq (g2 := F0 m 36 ls [.int 2, .int 2, .ref (al_22.2 3 (al.1 3)), .ref (al_22.2 3 (al.1 3)), .ref o]) (by rw [ho_a_21]) ?_
  refine s_3 (i := (al.1 3)) C hU hS hi_a_21 (x := 2) (by omega) (by omega) dX12_init_36 (fun iv_33 H locs ei_34 hU hS => ?_)
  have hz : sz ≤ H.size := Nat.le_trans hz0 hS.1
  refine W.eq (g2 := F0 m 37 ls [.ref a_21, .ref o]) (by rw [ho_a_21]) ?_
  have hR : RG al_22 iv_33 := by rw [ei_34]; exact hR.put (show _ ∧ _ from ⟨show (0 : Int) ≤ _ by omega, show _ ≤ (9 : Int) by omega⟩)
  have hE := hE.puti (t := 3) (i := (al.1 3)) (k := (2 : Int32).toNatClampNeg) (x := 2) (Or.inl (by decide))
  rw [← ei_34] at hE
  refine lv_dup hx hb dX12_init_37 rfl ?_
  refine lv_iconst (v := 3) hx hb dX12_init_38 (by decide) ?_
  refine lv_iconst (v := 3) hx hb dX12_init_39 (by decide) ?_
  refine W.eq (g2 := F0 m 40 ls [.int 3, .int 3, .ref (al_22.2 3 (al.1 3)), .ref (al_22.2 3 (al.1 3)), .ref o]) (by rw [ho_a_21]) ?_
  refine s_3 (i := (al.1 3)) C hU hS hi_a_21 (x := 3) (by omega) (by omega) dX12_init_40 (fun iv_35 H locs ei_36 hU hS => ?_)
  have hz : sz ≤ H.size := Nat.le_trans hz0 hS.1
  refine W.eq (g2 := F0 m 41 ls [.ref a_21, .ref o]) (by rw [ho_a_21]) ?_
  have hR : RG al_22 iv_35 := by rw [ei_36]; exact hR.put (show _ ∧ _ from ⟨show (0 : Int) ≤ _ by omega, show _ ≤ (9 : Int) by omega⟩)
  have hE := hE.puti (t := 3) (i := (al.1 3)) (k := (3 : Int32).toNatClampNeg) (x := 3) (Or.inl (by decide))
  rw [← ei_36] at hE
  refine lv_dup hx hb dX12_init_41 rfl ?_
  refine lv_iconst (v := 4) hx hb dX12_init_42 (by decide) ?_
  refine lv_iconst (v := 4) hx hb dX12_init_43 (by decide) ?_
  refine W.eq (g2 := F0 m 44 ls [.int 4, .int 4, .ref (al_22.2 3 (al.1 3)), .ref (al_22.2 3 (al.1 3)), .ref o]) (by rw [ho_a_21]) ?_
  refine s_3 (i := (al.1 3)) C hU hS hi_a_21 (x := 4) (by omega) (by omega) dX12_init_44 (fun iv_37 H locs ei_38 hU hS => ?_)
  have hz : sz ≤ H.size := Nat.le_trans hz0 hS.1
  refine W.eq (g2 := F0 m 45 ls [.ref a_21, .ref o]) (by rw [ho_a_21]) ?_
  have hR : RG al_22 iv_37 := by rw [ei_38]; exact hR.put (show _ ∧ _ from ⟨show (0 : Int) ≤ _ by omega, show _ ≤ (9 : Int) by omega⟩)
  have hE := hE.puti (t := 3) (i := (al.1 3)) (k := (4 : Int32).toNatClampNeg) (x := 4) (Or.inl (by decide))
  rw [← ei_38] at hE
  refine lv_dup hx hb dX12_init_45 rfl ?_
  refine lv_iconst (v := 5) hx hb dX12_init_46 (by decide) ?_
  refine lv_iconst (v := 5) hx hb dX12_init_47 (by decide) ?_
  refine W.eq (g2 := F0 m 48 ls [.int 5, .int 5, .ref (al_22.2 3 (al.1 3)), .ref (al_22.2 3 (al.1 3)), .ref o]) (by rw [ho_a_21]) ?_
  refine s_3 (i := (al.1 3)) C hU hS hi_a_21 (x := 5) (by omega) (by omega) dX12_init_48 (fun iv_39 H locs ei_40 hU hS => ?_)
  have hz : sz ≤ H.size := Nat.le_trans hz0 hS.1
  refine W.eq (g2 := F0 m 49 ls [.ref a_21, .ref o]) (by rw [ho_a_21]) ?_
  have hR : RG al_22 iv_39 := by rw [ei_40]; exact hR.put (show _ ∧ _ from ⟨show (0 : Int) ≤ _ by omega, show _ ≤ (9 : Int) by omega⟩)
  have hE := hE.puti (t := 3) (i := (al.1 3)) (k := (5 : Int32).toNatClampNeg) (x := 5) (Or.inl (by decide))
  rw [← ei_40] at hE
  refine lv_dup hx hb dX12_init_49 rfl ?_
  refine lv_bipush (v := 6) hx hb dX12_init_50 (by decide) ?_
  refine lv_bipush (v := 6) hx hb dX12_init_52 (by decide) ?_
  refine W.eq (g2 := F0 m 54 ls [.int 6, .int 6, .ref (al_22.2 3 (al.1 3)), .ref (al_22.2 3 (al.1 3)), .ref o]) (by rw [ho_a_21]) ?_
  refine s_3 (i := (al.1 3)) C hU hS hi_a_21 (x := 6) (by omega) (by omega) dX12_init_54 (fun iv_41 H locs ei_42 hU hS => ?_)
  have hz : sz ≤ H.size := Nat.le_trans hz0 hS.1
  refine W.eq (g2 := F0 m 55 ls [.ref a_21, .ref o]) (by rw [ho_a_21]) ?_
  have hR : RG al_22 iv_41 := by rw [ei_42]; exact hR.put (show _ ∧ _ from ⟨show (0 : Int) ≤ _ by omega, show _ ≤ (9 : Int) by omega⟩)
  have hE := hE.puti (t := 3) (i := (al.1 3)) (k := (6 : Int32).toNatClampNeg) (x := 6) (Or.inl (by decide))
  rw [← ei_42] at hE
  refine lv_dup hx hb dX12_init_55 rfl ?_
  refine lv_bipush (v := 7) hx hb dX12_init_56 (by decide) ?_
  refine lv_bipush (v := 7) hx hb dX12_init_58 (by decide) ?_
  refine W.eq (g2 := F0 m 60 ls [.int 7, .int 7, .ref (al_22.2 3 (al.1 3)), .ref (al_22.2 3 (al.1 3)), .ref o]) (by rw [ho_a_21]) ?_
  refine s_3 (i := (al.1 3)) C hU hS hi_a_21 (x := 7) (by omega) (by omega) dX12_init_60 (fun iv_43 H locs ei_44 hU hS => ?_)
  have hz : sz ≤ H.size := Nat.le_trans hz0 hS.1
  refine W.eq (g2 := F0 m 61 ls [.ref a_21, .ref o]) (by rw [ho_a_21]) ?_
  have hR : RG al_22 iv_43 := by rw [ei_44]; exact hR.put (show _ ∧ _ from ⟨show (0 : Int) ≤ _ by omega, show _ ≤ (9 : Int) by omega⟩)
  have hE := hE.puti (t := 3) (i := (al.1 3)) (k := (7 : Int32).toNatClampNeg) (x := 7) (Or.inl (by decide))
  rw [← ei_44] at hE
  refine lv_dup hx hb dX12_init_61 rfl ?_
  refine lv_bipush (v := 8) hx hb dX12_init_62 (by decide) ?_
  refine lv_bipush (v := 8) hx hb dX12_init_64 (by decide) ?_
  refine W.eq (g2 := F0 m 66 ls [.int 8, .int 8, .ref (al_22.2 3 (al.1 3)), .ref (al_22.2 3 (al.1 3)), .ref o]) (by rw [ho_a_21]) ?_
  refine s_3 (i := (al.1 3)) C hU hS hi_a_21 (x := 8) (by omega) (by omega) dX12_init_66 (fun iv_45 H locs ei_46 hU hS => ?_)
  have hz : sz ≤ H.size := Nat.le_trans hz0 hS.1
  refine W.eq (g2 := F0 m 67 ls [.ref a_21, .ref o]) (by rw [ho_a_21]) ?_
  have hR : RG al_22 iv_45 := by rw [ei_46]; exact hR.put (show _ ∧ _ from ⟨show (0 : Int) ≤ _ by omega, show _ ≤ (9 : Int) by omega⟩)
  have hE := hE.puti (t := 3) (i := (al.1 3)) (k := (8 : Int32).toNatClampNeg) (x := 8) (Or.inl (by decide))
  rw [← ei_46] at hE
  refine lv_dup hx hb dX12_init_67 rfl ?_
  refine lv_bipush (v := 9) hx hb dX12_init_68 (by decide) ?_
  refine lv_bipush (v := 9) hx hb dX12_init_70 (by decide) ?_
  refine W.eq (g2 := F0 m 72 ls [.int 9, .int 9, .ref (al_22.2 3 (al.1 3)), .ref (al_22.2 3 (al.1 3)), .ref o]) (by rw [ho_a_21]) ?_
  refine s_3 (i := (al.1 3)) C hU hS hi_a_21 (x := 9) (by omega) (by omega) dX12_init_72 (fun iv_47 H locs ei_48 hU hS => ?_)
  have hz : sz ≤ H.size := Nat.le_trans hz0 hS.1
  refine W.eq (g2 := F0 m 73 ls [.ref a_21, .ref o]) (by rw [ho_a_21]) ?_
  have hR : RG al_22 iv_47 := by rw [ei_48]; exact hR.put (show _ ∧ _ from ⟨show (0 : Int) ≤ _ by omega, show _ ≤ (9 : Int) by omega⟩)
  have hE := hE.puti (t := 3) (i := (al.1 3)) (k := (9 : Int32).toNatClampNeg) (x := 9) (Or.inl (by decide))
  rw [← ei_48] at hE
  refine W.eq (g2 := F0 m 73 ls [.ref (al_22.2 3 (al.1 3)), .ref (al_22.2 0 i0)]) (by rw [ho_a_21, ho_o]) ?_
  refine q_putr (t := 0) (i := i0) (k := 3) (t' := 3) (j := (al.1 3)) C hU hS k_0 (hc := rfl) uwX12 tyX12 tyX12_ok nmX12 hi_o (by decide) rfl (Or.inr ⟨rfl, hnm, rfl⟩) rfl fl_X12_16 dX12_init_73 (fun _ => rfl) (fun _ => rfl) (fun H locs hU hS => ?_)
  have hz : sz ≤ H.size := Nat.le_trans hz0 hS.1
  obtain ⟨rv_49, er_50⟩ : ∃ z, z = up3 rv_24 0 i0 3 (some (al.1 3)) := ⟨_, rfl⟩
  rw [← er_50] at hU
  have hB : RB al_22 rv_49 := by rw [er_50]; exact hB.put rfl hi_a_21
  have hE := hE.putr (t := 0) (i := i0) (k := 3) (x := some (al.1 3)) (by decide)
  rw [← er_50] at hE
  have hN : NN 0 i0 [3, 2, 1] rv_49 := by rw [er_50]; exact hN.put 3 (al.1 3)
  refine lv_aload_n hx hb dX12_init_76 rfl (lv_at hl 0 rfl) ?_
  refine lv_bipush (v := 10) hx hb dX12_init_77 (by decide) ?_
  refine q_newp (t := 4) (ty := .int) C hU hS hB hz rfl (Or.inl rfl) k_4 (fun _ => rfl) ac_int (by decide) (by decide) (by decide) (Nat.le_of_ble_eq_true rfl) (Nat.le_of_ble_eq_true rfl) dX12_init_79 (fun a_51 H hU hS hz => ?_)
  have hc_58 : al_22.1 4 = al.1 4 := hE.1 4
  have hE9 := hE.new 4 a_51
  have hR9 := hR.new 4 a_51
  have hB9 := hB.new 4 a_51
  have hn9 := grow_new (al := al_22) (t := 4) (a := a_51)
  rw [hc_58] at hU hE9 hR9 hB9 hn9
  obtain ⟨al_52, ea_55⟩ : ∃ z, z = grow al_22 4 a_51 := ⟨_, rfl⟩
  obtain ⟨iv_53, ei_56⟩ : ∃ z, z = clr iv_47 4 (al.1 4) 0 := ⟨_, rfl⟩
  obtain ⟨rv_54, er_57⟩ : ∃ z, z = clr rv_49 4 (al.1 4) none := ⟨_, rfl⟩
  rw [← ea_55] at hU hE9 hR9 hB9 hn9
  rw [← ei_56] at hU hE9 hR9
  rw [← er_57] at hU hE9 hB9
  have ho_a_1 : al_52.2 1 (al.1 1) = a_1 := by rw [ea_55, grow_ad hi_a_1]; exact ho_a_1
  have hi_a_1 : (al.1 1) < al_52.1 1 := by rw [ea_55, grow_ct]; omega
  have ho_a_11 : al_52.2 2 (al.1 2) = a_11 := by rw [ea_55, grow_ad hi_a_11]; exact ho_a_11
  have hi_a_11 : (al.1 2) < al_52.1 2 := by rw [ea_55, grow_ct]; omega
  have ho_a_21 : al_52.2 3 (al.1 3) = a_21 := by rw [ea_55, grow_ad hi_a_21]; exact ho_a_21
  have hi_a_21 : (al.1 3) < al_52.1 3 := by rw [ea_55, grow_ct]; omega
  have ho_o : al_52.2 0 i0 = o := by rw [ea_55, grow_ad hi_o]; exact ho_o
  have hi_o : i0 < al_52.1 0 := by rw [ea_55, grow_ct]; omega
  have ho_a_51 : al_52.2 4 (al.1 4) = a_51 := hn9
  have hi_a_51 : (al.1 4) < al_52.1 4 := by rw [ea_55, grow_ct, hc_58]; simp
  have hN : NN 0 i0 [3, 2, 1] rv_54 := hN.keep (fun k => by rw [er_57]; exact clr_ne (fun z => absurd z.1 (by decide)))
  have hE := hE9
  have hR := hR9
  have hB := hB9
  refine W.widen (k := 4) (n := 130) (Nat.le_of_ble_eq_true rfl) (Nat.le_of_ble_eq_true rfl) ?_
  refine W.eq (g2 := F0 m 81 ls [.ref (al_52.2 4 (al.1 4)), .ref (al_52.2 0 i0)]) (by rw [ho_a_51, ho_o]) ?_
  refine q_putr (t := 0) (i := i0) (k := 4) (t' := 4) (j := (al.1 4)) C hU hS k_0 (hc := rfl) uwX12 tyX12 tyX12_ok nmX12 hi_o (by decide) rfl (Or.inr ⟨rfl, hnm, rfl⟩) rfl fl_X12_19 dX12_init_81 (fun _ => rfl) (fun _ => rfl) (fun H locs hU hS => ?_)
  have hz : sz ≤ H.size := Nat.le_trans hz0 hS.1
  obtain ⟨rv_59, er_60⟩ : ∃ z, z = up3 rv_54 0 i0 4 (some (al.1 4)) := ⟨_, rfl⟩
  rw [← er_60] at hU
  have hB : RB al_52 rv_59 := by rw [er_60]; exact hB.put rfl hi_a_51
  have hE := hE.putr (t := 0) (i := i0) (k := 4) (x := some (al.1 4)) (by decide)
  rw [← er_60] at hE
  have hN : NN 0 i0 [4, 3, 2, 1] rv_59 := by rw [er_60]; exact hN.put 4 (al.1 4)
  refine lv_aload_n hx hb dX12_init_84 rfl (lv_at hl 0 rfl) ?_
  refine lv_bipush (v := 40) hx hb dX12_init_85 (by decide) ?_
  refine q_newp (t := 5) (ty := .int) C hU hS hB hz rfl (Or.inl rfl) k_5 (fun _ => rfl) ac_int (by decide) (by decide) (by decide) (Nat.le_of_ble_eq_true rfl) (Nat.le_of_ble_eq_true rfl) dX12_init_87 (fun a_61 H hU hS hz => ?_)
  have hc_68 : al_52.1 5 = al.1 5 := hE.1 5
  have hE9 := hE.new 5 a_61
  have hR9 := hR.new 5 a_61
  have hB9 := hB.new 5 a_61
  have hn9 := grow_new (al := al_52) (t := 5) (a := a_61)
  rw [hc_68] at hU hE9 hR9 hB9 hn9
  obtain ⟨al_62, ea_65⟩ : ∃ z, z = grow al_52 5 a_61 := ⟨_, rfl⟩
  obtain ⟨iv_63, ei_66⟩ : ∃ z, z = clr iv_53 5 (al.1 5) 0 := ⟨_, rfl⟩
  obtain ⟨rv_64, er_67⟩ : ∃ z, z = clr rv_59 5 (al.1 5) none := ⟨_, rfl⟩
  rw [← ea_65] at hU hE9 hR9 hB9 hn9
  rw [← ei_66] at hU hE9 hR9
  rw [← er_67] at hU hE9 hB9
  have ho_a_1 : al_62.2 1 (al.1 1) = a_1 := by rw [ea_65, grow_ad hi_a_1]; exact ho_a_1
  have hi_a_1 : (al.1 1) < al_62.1 1 := by rw [ea_65, grow_ct]; omega
  have ho_a_11 : al_62.2 2 (al.1 2) = a_11 := by rw [ea_65, grow_ad hi_a_11]; exact ho_a_11
  have hi_a_11 : (al.1 2) < al_62.1 2 := by rw [ea_65, grow_ct]; omega
  have ho_a_21 : al_62.2 3 (al.1 3) = a_21 := by rw [ea_65, grow_ad hi_a_21]; exact ho_a_21
  have hi_a_21 : (al.1 3) < al_62.1 3 := by rw [ea_65, grow_ct]; omega
  have ho_a_51 : al_62.2 4 (al.1 4) = a_51 := by rw [ea_65, grow_ad hi_a_51]; exact ho_a_51
  have hi_a_51 : (al.1 4) < al_62.1 4 := by rw [ea_65, grow_ct]; omega
  have ho_o : al_62.2 0 i0 = o := by rw [ea_65, grow_ad hi_o]; exact ho_o
  have hi_o : i0 < al_62.1 0 := by rw [ea_65, grow_ct]; omega
  have ho_a_61 : al_62.2 5 (al.1 5) = a_61 := hn9
  have hi_a_61 : (al.1 5) < al_62.1 5 := by rw [ea_65, grow_ct, hc_68]; simp
  have hN : NN 0 i0 [4, 3, 2, 1] rv_64 := hN.keep (fun k => by rw [er_67]; exact clr_ne (fun z => absurd z.1 (by decide)))
  have hE := hE9
  have hR := hR9
  have hB := hB9
  refine W.widen (k := 5) (n := 170) (Nat.le_of_ble_eq_true rfl) (Nat.le_of_ble_eq_true rfl) ?_
  refine W.eq (g2 := F0 m 89 ls [.ref (al_62.2 5 (al.1 5)), .ref (al_62.2 0 i0)]) (by rw [ho_a_61, ho_o]) ?_
  refine q_putr (t := 0) (i := i0) (k := 7) (t' := 5) (j := (al.1 5)) C hU hS k_0 (hc := rfl) uwX12 tyX12 tyX12_ok nmX12 hi_o (by decide) rfl (Or.inr ⟨rfl, hnm, rfl⟩) rfl fl_X12_22 dX12_init_89 (fun _ => rfl) (fun _ => rfl) (fun H locs hU hS => ?_)
  have hz : sz ≤ H.size := Nat.le_trans hz0 hS.1
  obtain ⟨rv_69, er_70⟩ : ∃ z, z = up3 rv_64 0 i0 7 (some (al.1 5)) := ⟨_, rfl⟩
  rw [← er_70] at hU
  have hB : RB al_62 rv_69 := by rw [er_70]; exact hB.put rfl hi_a_61
  have hE := hE.putr (t := 0) (i := i0) (k := 7) (x := some (al.1 5)) (by decide)
  rw [← er_70] at hE
  have hN : NN 0 i0 [7, 4, 3, 2, 1] rv_69 := by rw [er_70]; exact hN.put 7 (al.1 5)
  refine lv_aload_n hx hb dX12_init_92 rfl (lv_at hl 0 rfl) ?_
  refine lv_bipush (v := 40) hx hb dX12_init_93 (by decide) ?_
  refine q_newp (t := 6) (ty := .int) C hU hS hB hz rfl (Or.inl rfl) k_6 (fun _ => rfl) ac_int (by decide) (by decide) (by decide) (Nat.le_of_ble_eq_true rfl) (Nat.le_of_ble_eq_true rfl) dX12_init_95 (fun a_71 H hU hS hz => ?_)
  have hc_78 : al_62.1 6 = al.1 6 := hE.1 6
  have hE9 := hE.new 6 a_71
  have hR9 := hR.new 6 a_71
  have hB9 := hB.new 6 a_71
  have hn9 := grow_new (al := al_62) (t := 6) (a := a_71)
  rw [hc_78] at hU hE9 hR9 hB9 hn9
  obtain ⟨al_72, ea_75⟩ : ∃ z, z = grow al_62 6 a_71 := ⟨_, rfl⟩
  obtain ⟨iv_73, ei_76⟩ : ∃ z, z = clr iv_63 6 (al.1 6) 0 := ⟨_, rfl⟩
  obtain ⟨rv_74, er_77⟩ : ∃ z, z = clr rv_69 6 (al.1 6) none := ⟨_, rfl⟩
  rw [← ea_75] at hU hE9 hR9 hB9 hn9
  rw [← ei_76] at hU hE9 hR9
  rw [← er_77] at hU hE9 hB9
  have ho_a_1 : al_72.2 1 (al.1 1) = a_1 := by rw [ea_75, grow_ad hi_a_1]; exact ho_a_1
  have hi_a_1 : (al.1 1) < al_72.1 1 := by rw [ea_75, grow_ct]; omega
  have ho_a_11 : al_72.2 2 (al.1 2) = a_11 := by rw [ea_75, grow_ad hi_a_11]; exact ho_a_11
  have hi_a_11 : (al.1 2) < al_72.1 2 := by rw [ea_75, grow_ct]; omega
  have ho_a_21 : al_72.2 3 (al.1 3) = a_21 := by rw [ea_75, grow_ad hi_a_21]; exact ho_a_21
  have hi_a_21 : (al.1 3) < al_72.1 3 := by rw [ea_75, grow_ct]; omega
  have ho_a_51 : al_72.2 4 (al.1 4) = a_51 := by rw [ea_75, grow_ad hi_a_51]; exact ho_a_51
  have hi_a_51 : (al.1 4) < al_72.1 4 := by rw [ea_75, grow_ct]; omega
  have ho_a_61 : al_72.2 5 (al.1 5) = a_61 := by rw [ea_75, grow_ad hi_a_61]; exact ho_a_61
  have hi_a_61 : (al.1 5) < al_72.1 5 := by rw [ea_75, grow_ct]; omega
  have ho_o : al_72.2 0 i0 = o := by rw [ea_75, grow_ad hi_o]; exact ho_o
  have hi_o : i0 < al_72.1 0 := by rw [ea_75, grow_ct]; omega
  have ho_a_71 : al_72.2 6 (al.1 6) = a_71 := hn9
  have hi_a_71 : (al.1 6) < al_72.1 6 := by rw [ea_75, grow_ct, hc_78]; simp
  have hN : NN 0 i0 [7, 4, 3, 2, 1] rv_74 := hN.keep (fun k => by rw [er_77]; exact clr_ne (fun z => absurd z.1 (by decide)))
  have hE := hE9
  have hR := hR9
  have hB := hB9
  refine W.widen (k := 6) (n := 210) (Nat.le_of_ble_eq_true rfl) (Nat.le_of_ble_eq_true rfl) ?_
  refine W.eq (g2 := F0 m 97 ls [.ref (al_72.2 6 (al.1 6)), .ref (al_72.2 0 i0)]) (by rw [ho_a_71, ho_o]) ?_
  refine q_putr (t := 0) (i := i0) (k := 8) (t' := 6) (j := (al.1 6)) C hU hS k_0 (hc := rfl) uwX12 tyX12 tyX12_ok nmX12 hi_o (by decide) rfl (Or.inr ⟨rfl, hnm, rfl⟩) rfl fl_X12_25 dX12_init_97 (fun _ => rfl) (fun _ => rfl) (fun H locs hU hS => ?_)
  have hz : sz ≤ H.size := Nat.le_trans hz0 hS.1
  obtain ⟨rv_79, er_80⟩ : ∃ z, z = up3 rv_74 0 i0 8 (some (al.1 6)) := ⟨_, rfl⟩
  rw [← er_80] at hU
  have hB : RB al_72 rv_79 := by rw [er_80]; exact hB.put rfl hi_a_71
  have hE := hE.putr (t := 0) (i := i0) (k := 8) (x := some (al.1 6)) (by decide)
  rw [← er_80] at hE
  have hN : NN 0 i0 [8, 7, 4, 3, 2, 1] rv_79 := by rw [er_80]; exact hN.put 8 (al.1 6)
  refine lv_aload_n hx hb dX12_init_100 rfl (lv_at hl 0 rfl) ?_
  refine lv_bipush (v := 40) hx hb dX12_init_101 (by decide) ?_
  refine q_newp (t := 7) (ty := .int) C hU hS hB hz rfl (Or.inl rfl) k_7 (fun _ => rfl) ac_int (by decide) (by decide) (by decide) (Nat.le_of_ble_eq_true rfl) (Nat.le_of_ble_eq_true rfl) dX12_init_103 (fun a_81 H hU hS hz => ?_)
  have hc_88 : al_72.1 7 = al.1 7 := hE.1 7
  have hE9 := hE.new 7 a_81
  have hR9 := hR.new 7 a_81
  have hB9 := hB.new 7 a_81
  have hn9 := grow_new (al := al_72) (t := 7) (a := a_81)
  rw [hc_88] at hU hE9 hR9 hB9 hn9
  obtain ⟨al_82, ea_85⟩ : ∃ z, z = grow al_72 7 a_81 := ⟨_, rfl⟩
  obtain ⟨iv_83, ei_86⟩ : ∃ z, z = clr iv_73 7 (al.1 7) 0 := ⟨_, rfl⟩
  obtain ⟨rv_84, er_87⟩ : ∃ z, z = clr rv_79 7 (al.1 7) none := ⟨_, rfl⟩
  rw [← ea_85] at hU hE9 hR9 hB9 hn9
  rw [← ei_86] at hU hE9 hR9
  rw [← er_87] at hU hE9 hB9
  have ho_a_1 : al_82.2 1 (al.1 1) = a_1 := by rw [ea_85, grow_ad hi_a_1]; exact ho_a_1
  have hi_a_1 : (al.1 1) < al_82.1 1 := by rw [ea_85, grow_ct]; omega
  have ho_a_11 : al_82.2 2 (al.1 2) = a_11 := by rw [ea_85, grow_ad hi_a_11]; exact ho_a_11
  have hi_a_11 : (al.1 2) < al_82.1 2 := by rw [ea_85, grow_ct]; omega
  have ho_a_21 : al_82.2 3 (al.1 3) = a_21 := by rw [ea_85, grow_ad hi_a_21]; exact ho_a_21
  have hi_a_21 : (al.1 3) < al_82.1 3 := by rw [ea_85, grow_ct]; omega
  have ho_a_51 : al_82.2 4 (al.1 4) = a_51 := by rw [ea_85, grow_ad hi_a_51]; exact ho_a_51
  have hi_a_51 : (al.1 4) < al_82.1 4 := by rw [ea_85, grow_ct]; omega
  have ho_a_61 : al_82.2 5 (al.1 5) = a_61 := by rw [ea_85, grow_ad hi_a_61]; exact ho_a_61
  have hi_a_61 : (al.1 5) < al_82.1 5 := by rw [ea_85, grow_ct]; omega
  have ho_a_71 : al_82.2 6 (al.1 6) = a_71 := by rw [ea_85, grow_ad hi_a_71]; exact ho_a_71
  have hi_a_71 : (al.1 6) < al_82.1 6 := by rw [ea_85, grow_ct]; omega
  have ho_o : al_82.2 0 i0 = o := by rw [ea_85, grow_ad hi_o]; exact ho_o
  have hi_o : i0 < al_82.1 0 := by rw [ea_85, grow_ct]; omega
  have ho_a_81 : al_82.2 7 (al.1 7) = a_81 := hn9
  have hi_a_81 : (al.1 7) < al_82.1 7 := by rw [ea_85, grow_ct, hc_88]; simp
  have hN : NN 0 i0 [8, 7, 4, 3, 2, 1] rv_84 := hN.keep (fun k => by rw [er_87]; exact clr_ne (fun z => absurd z.1 (by decide)))
  have hE := hE9
  have hR := hR9
  have hB := hB9
  refine W.widen (k := 7) (n := 250) (Nat.le_of_ble_eq_true rfl) (Nat.le_of_ble_eq_true rfl) ?_
  refine W.eq (g2 := F0 m 105 ls [.ref (al_82.2 7 (al.1 7)), .ref (al_82.2 0 i0)]) (by rw [ho_a_81, ho_o]) ?_
  refine q_putr (t := 0) (i := i0) (k := 9) (t' := 7) (j := (al.1 7)) C hU hS k_0 (hc := rfl) uwX12 tyX12 tyX12_ok nmX12 hi_o (by decide) rfl (Or.inr ⟨rfl, hnm, rfl⟩) rfl fl_X12_28 dX12_init_105 (fun _ => rfl) (fun _ => rfl) (fun H locs hU hS => ?_)
  have hz : sz ≤ H.size := Nat.le_trans hz0 hS.1
  obtain ⟨rv_89, er_90⟩ : ∃ z, z = up3 rv_84 0 i0 9 (some (al.1 7)) := ⟨_, rfl⟩
  rw [← er_90] at hU
  have hB : RB al_82 rv_89 := by rw [er_90]; exact hB.put rfl hi_a_81
  have hE := hE.putr (t := 0) (i := i0) (k := 9) (x := some (al.1 7)) (by decide)
  rw [← er_90] at hE
  have hN : NN 0 i0 [9, 8, 7, 4, 3, 2, 1] rv_89 := by rw [er_90]; exact hN.put 9 (al.1 7)
  refine lv_aload_n hx hb dX12_init_108 rfl (lv_at hl 0 rfl) ?_
  refine lv_bipush (v := 40) hx hb dX12_init_109 (by decide) ?_
  refine q_newp (t := 8) (ty := .int) C hU hS hB hz rfl (Or.inl rfl) k_8 (fun _ => rfl) ac_int (by decide) (by decide) (by decide) (Nat.le_of_ble_eq_true rfl) (Nat.le_of_ble_eq_true rfl) dX12_init_111 (fun a_91 H hU hS hz => ?_)
  have hc_98 : al_82.1 8 = al.1 8 := hE.1 8
  have hE9 := hE.new 8 a_91
  have hR9 := hR.new 8 a_91
  have hB9 := hB.new 8 a_91
  have hn9 := grow_new (al := al_82) (t := 8) (a := a_91)
  rw [hc_98] at hU hE9 hR9 hB9 hn9
  obtain ⟨al_92, ea_95⟩ : ∃ z, z = grow al_82 8 a_91 := ⟨_, rfl⟩
  obtain ⟨iv_93, ei_96⟩ : ∃ z, z = clr iv_83 8 (al.1 8) 0 := ⟨_, rfl⟩
  obtain ⟨rv_94, er_97⟩ : ∃ z, z = clr rv_89 8 (al.1 8) none := ⟨_, rfl⟩
  rw [← ea_95] at hU hE9 hR9 hB9 hn9
  rw [← ei_96] at hU hE9 hR9
  rw [← er_97] at hU hE9 hB9
  have ho_a_1 : al_92.2 1 (al.1 1) = a_1 := by rw [ea_95, grow_ad hi_a_1]; exact ho_a_1
  have hi_a_1 : (al.1 1) < al_92.1 1 := by rw [ea_95, grow_ct]; omega
  have ho_a_11 : al_92.2 2 (al.1 2) = a_11 := by rw [ea_95, grow_ad hi_a_11]; exact ho_a_11
  have hi_a_11 : (al.1 2) < al_92.1 2 := by rw [ea_95, grow_ct]; omega
  have ho_a_21 : al_92.2 3 (al.1 3) = a_21 := by rw [ea_95, grow_ad hi_a_21]; exact ho_a_21
  have hi_a_21 : (al.1 3) < al_92.1 3 := by rw [ea_95, grow_ct]; omega
  have ho_a_51 : al_92.2 4 (al.1 4) = a_51 := by rw [ea_95, grow_ad hi_a_51]; exact ho_a_51
  have hi_a_51 : (al.1 4) < al_92.1 4 := by rw [ea_95, grow_ct]; omega
  have ho_a_61 : al_92.2 5 (al.1 5) = a_61 := by rw [ea_95, grow_ad hi_a_61]; exact ho_a_61
  have hi_a_61 : (al.1 5) < al_92.1 5 := by rw [ea_95, grow_ct]; omega
  have ho_a_71 : al_92.2 6 (al.1 6) = a_71 := by rw [ea_95, grow_ad hi_a_71]; exact ho_a_71
  have hi_a_71 : (al.1 6) < al_92.1 6 := by rw [ea_95, grow_ct]; omega
  have ho_a_81 : al_92.2 7 (al.1 7) = a_81 := by rw [ea_95, grow_ad hi_a_81]; exact ho_a_81
  have hi_a_81 : (al.1 7) < al_92.1 7 := by rw [ea_95, grow_ct]; omega
  have ho_o : al_92.2 0 i0 = o := by rw [ea_95, grow_ad hi_o]; exact ho_o
  have hi_o : i0 < al_92.1 0 := by rw [ea_95, grow_ct]; omega
  have ho_a_91 : al_92.2 8 (al.1 8) = a_91 := hn9
  have hi_a_91 : (al.1 8) < al_92.1 8 := by rw [ea_95, grow_ct, hc_98]; simp
  have hN : NN 0 i0 [9, 8, 7, 4, 3, 2, 1] rv_94 := hN.keep (fun k => by rw [er_97]; exact clr_ne (fun z => absurd z.1 (by decide)))
  have hE := hE9
  have hR := hR9
  have hB := hB9
  refine W.widen (k := 8) (n := 290) (Nat.le_of_ble_eq_true rfl) (Nat.le_of_ble_eq_true rfl) ?_
  refine W.eq (g2 := F0 m 113 ls [.ref (al_92.2 8 (al.1 8)), .ref (al_92.2 0 i0)]) (by rw [ho_a_91, ho_o]) ?_
  refine q_putr (t := 0) (i := i0) (k := 10) (t' := 8) (j := (al.1 8)) C hU hS k_0 (hc := rfl) uwX12 tyX12 tyX12_ok nmX12 hi_o (by decide) rfl (Or.inr ⟨rfl, hnm, rfl⟩) rfl fl_X12_31 dX12_init_113 (fun _ => rfl) (fun _ => rfl) (fun H locs hU hS => ?_)
  have hz : sz ≤ H.size := Nat.le_trans hz0 hS.1
  obtain ⟨rv_99, er_100⟩ : ∃ z, z = up3 rv_94 0 i0 10 (some (al.1 8)) := ⟨_, rfl⟩
  rw [← er_100] at hU
  have hB : RB al_92 rv_99 := by rw [er_100]; exact hB.put rfl hi_a_91
  have hE := hE.putr (t := 0) (i := i0) (k := 10) (x := some (al.1 8)) (by decide)
  rw [← er_100] at hE
  have hN : NN 0 i0 [10, 9, 8, 7, 4, 3, 2, 1] rv_99 := by rw [er_100]; exact hN.put 10 (al.1 8)
  refine lv_aload_n hx hb dX12_init_116 rfl (lv_at hl 0 rfl) ?_
  refine lv_bipush (v := 40) hx hb dX12_init_117 (by decide) ?_
  refine q_newp (t := 9) (ty := .int) C hU hS hB hz rfl (Or.inl rfl) k_9 (fun _ => rfl) ac_int (by decide) (by decide) (by decide) (Nat.le_of_ble_eq_true rfl) (Nat.le_of_ble_eq_true rfl) dX12_init_119 (fun a_101 H hU hS hz => ?_)
  have hc_108 : al_92.1 9 = al.1 9 := hE.1 9
  have hE9 := hE.new 9 a_101
  have hR9 := hR.new 9 a_101
  have hB9 := hB.new 9 a_101
  have hn9 := grow_new (al := al_92) (t := 9) (a := a_101)
  rw [hc_108] at hU hE9 hR9 hB9 hn9
  obtain ⟨al_102, ea_105⟩ : ∃ z, z = grow al_92 9 a_101 := ⟨_, rfl⟩
  obtain ⟨iv_103, ei_106⟩ : ∃ z, z = clr iv_93 9 (al.1 9) 0 := ⟨_, rfl⟩
  obtain ⟨rv_104, er_107⟩ : ∃ z, z = clr rv_99 9 (al.1 9) none := ⟨_, rfl⟩
  rw [← ea_105] at hU hE9 hR9 hB9 hn9
  rw [← ei_106] at hU hE9 hR9
  rw [← er_107] at hU hE9 hB9
  have ho_a_1 : al_102.2 1 (al.1 1) = a_1 := by rw [ea_105, grow_ad hi_a_1]; exact ho_a_1
  have hi_a_1 : (al.1 1) < al_102.1 1 := by rw [ea_105, grow_ct]; omega
  have ho_a_11 : al_102.2 2 (al.1 2) = a_11 := by rw [ea_105, grow_ad hi_a_11]; exact ho_a_11
  have hi_a_11 : (al.1 2) < al_102.1 2 := by rw [ea_105, grow_ct]; omega
  have ho_a_21 : al_102.2 3 (al.1 3) = a_21 := by rw [ea_105, grow_ad hi_a_21]; exact ho_a_21
  have hi_a_21 : (al.1 3) < al_102.1 3 := by rw [ea_105, grow_ct]; omega
  have ho_a_51 : al_102.2 4 (al.1 4) = a_51 := by rw [ea_105, grow_ad hi_a_51]; exact ho_a_51
  have hi_a_51 : (al.1 4) < al_102.1 4 := by rw [ea_105, grow_ct]; omega
  have ho_a_61 : al_102.2 5 (al.1 5) = a_61 := by rw [ea_105, grow_ad hi_a_61]; exact ho_a_61
  have hi_a_61 : (al.1 5) < al_102.1 5 := by rw [ea_105, grow_ct]; omega
  have ho_a_71 : al_102.2 6 (al.1 6) = a_71 := by rw [ea_105, grow_ad hi_a_71]; exact ho_a_71
  have hi_a_71 : (al.1 6) < al_102.1 6 := by rw [ea_105, grow_ct]; omega
  have ho_a_81 : al_102.2 7 (al.1 7) = a_81 := by rw [ea_105, grow_ad hi_a_81]; exact ho_a_81
  have hi_a_81 : (al.1 7) < al_102.1 7 := by rw [ea_105, grow_ct]; omega
  have ho_a_91 : al_102.2 8 (al.1 8) = a_91 := by rw [ea_105, grow_ad hi_a_91]; exact ho_a_91
  have hi_a_91 : (al.1 8) < al_102.1 8 := by rw [ea_105, grow_ct]; omega
  have ho_o : al_102.2 0 i0 = o := by rw [ea_105, grow_ad hi_o]; exact ho_o
  have hi_o : i0 < al_102.1 0 := by rw [ea_105, grow_ct]; omega
  have ho_a_101 : al_102.2 9 (al.1 9) = a_101 := hn9
  have hi_a_101 : (al.1 9) < al_102.1 9 := by rw [ea_105, grow_ct, hc_108]; simp
  have hN : NN 0 i0 [10, 9, 8, 7, 4, 3, 2, 1] rv_104 := hN.keep (fun k => by rw [er_107]; exact clr_ne (fun z => absurd z.1 (by decide)))
  have hE := hE9
  have hR := hR9
  have hB := hB9
  refine W.widen (k := 9) (n := 330) (Nat.le_of_ble_eq_true rfl) (Nat.le_of_ble_eq_true rfl) ?_
  refine W.eq (g2 := F0 m 121 ls [.ref (al_102.2 9 (al.1 9)), .ref (al_102.2 0 i0)]) (by rw [ho_a_101, ho_o]) ?_
  refine q_putr (t := 0) (i := i0) (k := 11) (t' := 9) (j := (al.1 9)) C hU hS k_0 (hc := rfl) uwX12 tyX12 tyX12_ok nmX12 hi_o (by decide) rfl (Or.inr ⟨rfl, hnm, rfl⟩) rfl fl_X12_34 dX12_init_121 (fun _ => rfl) (fun _ => rfl) (fun H locs hU hS => ?_)
  have hz : sz ≤ H.size := Nat.le_trans hz0 hS.1
  obtain ⟨rv_109, er_110⟩ : ∃ z, z = up3 rv_104 0 i0 11 (some (al.1 9)) := ⟨_, rfl⟩
  rw [← er_110] at hU
  have hB : RB al_102 rv_109 := by rw [er_110]; exact hB.put rfl hi_a_101
  have hE := hE.putr (t := 0) (i := i0) (k := 11) (x := some (al.1 9)) (by decide)
  rw [← er_110] at hE
  have hN : NN 0 i0 [11, 10, 9, 8, 7, 4, 3, 2, 1] rv_109 := by rw [er_110]; exact hN.put 11 (al.1 9)
  refine lv_aload_n hx hb dX12_init_124 rfl (lv_at hl 0 rfl) ?_
  refine lv_bipush (v := 40) hx hb dX12_init_125 (by decide) ?_
  refine q_newp (t := 10) (ty := .int) C hU hS hB hz rfl (Or.inl rfl) k_10 (fun _ => rfl) ac_int (by decide) (by decide) (by decide) (Nat.le_of_ble_eq_true rfl) (Nat.le_of_ble_eq_true rfl) dX12_init_127 (fun a_111 H hU hS hz => ?_)
  have hc_118 : al_102.1 10 = al.1 10 := hE.1 10
  have hE9 := hE.new 10 a_111
  have hR9 := hR.new 10 a_111
  have hB9 := hB.new 10 a_111
  have hn9 := grow_new (al := al_102) (t := 10) (a := a_111)
  rw [hc_118] at hU hE9 hR9 hB9 hn9
  obtain ⟨al_112, ea_115⟩ : ∃ z, z = grow al_102 10 a_111 := ⟨_, rfl⟩
  obtain ⟨iv_113, ei_116⟩ : ∃ z, z = clr iv_103 10 (al.1 10) 0 := ⟨_, rfl⟩
  obtain ⟨rv_114, er_117⟩ : ∃ z, z = clr rv_109 10 (al.1 10) none := ⟨_, rfl⟩
  rw [← ea_115] at hU hE9 hR9 hB9 hn9
  rw [← ei_116] at hU hE9 hR9
  rw [← er_117] at hU hE9 hB9
  have ho_a_1 : al_112.2 1 (al.1 1) = a_1 := by rw [ea_115, grow_ad hi_a_1]; exact ho_a_1
  have hi_a_1 : (al.1 1) < al_112.1 1 := by rw [ea_115, grow_ct]; omega
  have ho_a_101 : al_112.2 9 (al.1 9) = a_101 := by rw [ea_115, grow_ad hi_a_101]; exact ho_a_101
  have hi_a_101 : (al.1 9) < al_112.1 9 := by rw [ea_115, grow_ct]; omega
  have ho_a_11 : al_112.2 2 (al.1 2) = a_11 := by rw [ea_115, grow_ad hi_a_11]; exact ho_a_11
  have hi_a_11 : (al.1 2) < al_112.1 2 := by rw [ea_115, grow_ct]; omega
  have ho_a_21 : al_112.2 3 (al.1 3) = a_21 := by rw [ea_115, grow_ad hi_a_21]; exact ho_a_21
  have hi_a_21 : (al.1 3) < al_112.1 3 := by rw [ea_115, grow_ct]; omega
  have ho_a_51 : al_112.2 4 (al.1 4) = a_51 := by rw [ea_115, grow_ad hi_a_51]; exact ho_a_51
  have hi_a_51 : (al.1 4) < al_112.1 4 := by rw [ea_115, grow_ct]; omega
  have ho_a_61 : al_112.2 5 (al.1 5) = a_61 := by rw [ea_115, grow_ad hi_a_61]; exact ho_a_61
  have hi_a_61 : (al.1 5) < al_112.1 5 := by rw [ea_115, grow_ct]; omega
  have ho_a_71 : al_112.2 6 (al.1 6) = a_71 := by rw [ea_115, grow_ad hi_a_71]; exact ho_a_71
  have hi_a_71 : (al.1 6) < al_112.1 6 := by rw [ea_115, grow_ct]; omega
  have ho_a_81 : al_112.2 7 (al.1 7) = a_81 := by rw [ea_115, grow_ad hi_a_81]; exact ho_a_81
  have hi_a_81 : (al.1 7) < al_112.1 7 := by rw [ea_115, grow_ct]; omega
  have ho_a_91 : al_112.2 8 (al.1 8) = a_91 := by rw [ea_115, grow_ad hi_a_91]; exact ho_a_91
  have hi_a_91 : (al.1 8) < al_112.1 8 := by rw [ea_115, grow_ct]; omega
  have ho_o : al_112.2 0 i0 = o := by rw [ea_115, grow_ad hi_o]; exact ho_o
  have hi_o : i0 < al_112.1 0 := by rw [ea_115, grow_ct]; omega
  have ho_a_111 : al_112.2 10 (al.1 10) = a_111 := hn9
  have hi_a_111 : (al.1 10) < al_112.1 10 := by rw [ea_115, grow_ct, hc_118]; simp
  have hN : NN 0 i0 [11, 10, 9, 8, 7, 4, 3, 2, 1] rv_114 := hN.keep (fun k => by rw [er_117]; exact clr_ne (fun z => absurd z.1 (by decide)))
  have hE := hE9
  have hR := hR9
  have hB := hB9
  refine W.widen (k := 10) (n := 370) (Nat.le_of_ble_eq_true rfl) (Nat.le_of_ble_eq_true rfl) ?_
  refine W.eq (g2 := F0 m 129 ls [.ref (al_112.2 10 (al.1 10)), .ref (al_112.2 0 i0)]) (by rw [ho_a_111, ho_o]) ?_
  refine q_putr (t := 0) (i := i0) (k := 12) (t' := 10) (j := (al.1 10)) C hU hS k_0 (hc := rfl) uwX12 tyX12 tyX12_ok nmX12 hi_o (by decide) rfl (Or.inr ⟨rfl, hnm, rfl⟩) rfl fl_X12_37 dX12_init_129 (fun _ => rfl) (fun _ => rfl) (fun H locs hU hS => ?_)
  have hz : sz ≤ H.size := Nat.le_trans hz0 hS.1
  obtain ⟨rv_119, er_120⟩ : ∃ z, z = up3 rv_114 0 i0 12 (some (al.1 10)) := ⟨_, rfl⟩
  rw [← er_120] at hU
  have hB : RB al_112 rv_119 := by rw [er_120]; exact hB.put rfl hi_a_111
  have hE := hE.putr (t := 0) (i := i0) (k := 12) (x := some (al.1 10)) (by decide)
  rw [← er_120] at hE
  have hN : NN 0 i0 [12, 11, 10, 9, 8, 7, 4, 3, 2, 1] rv_119 := by rw [er_120]; exact hN.put 12 (al.1 10)
  refine lv_aload_n hx hb dX12_init_132 rfl (lv_at hl 0 rfl) ?_
  refine lv_bipush (v := 40) hx hb dX12_init_133 (by decide) ?_
  refine q_newp (t := 11) (ty := .boolean) C hU hS hB hz rfl (Or.inr rfl) k_11 (fun _ => rfl) ac_boolean (by decide) (by decide) (by decide) (Nat.le_of_ble_eq_true rfl) (Nat.le_of_ble_eq_true rfl) dX12_init_135 (fun a_121 H hU hS hz => ?_)
  have hc_128 : al_112.1 11 = al.1 11 := hE.1 11
  have hE9 := hE.new 11 a_121
  have hR9 := hR.new 11 a_121
  have hB9 := hB.new 11 a_121
  have hn9 := grow_new (al := al_112) (t := 11) (a := a_121)
  rw [hc_128] at hU hE9 hR9 hB9 hn9
  obtain ⟨al_122, ea_125⟩ : ∃ z, z = grow al_112 11 a_121 := ⟨_, rfl⟩
  obtain ⟨iv_123, ei_126⟩ : ∃ z, z = clr iv_113 11 (al.1 11) 0 := ⟨_, rfl⟩
  obtain ⟨rv_124, er_127⟩ : ∃ z, z = clr rv_119 11 (al.1 11) none := ⟨_, rfl⟩
  rw [← ea_125] at hU hE9 hR9 hB9 hn9
  rw [← ei_126] at hU hE9 hR9
  rw [← er_127] at hU hE9 hB9
  have ho_a_1 : al_122.2 1 (al.1 1) = a_1 := by rw [ea_125, grow_ad hi_a_1]; exact ho_a_1
  have hi_a_1 : (al.1 1) < al_122.1 1 := by rw [ea_125, grow_ct]; omega
  have ho_a_101 : al_122.2 9 (al.1 9) = a_101 := by rw [ea_125, grow_ad hi_a_101]; exact ho_a_101
  have hi_a_101 : (al.1 9) < al_122.1 9 := by rw [ea_125, grow_ct]; omega
  have ho_a_11 : al_122.2 2 (al.1 2) = a_11 := by rw [ea_125, grow_ad hi_a_11]; exact ho_a_11
  have hi_a_11 : (al.1 2) < al_122.1 2 := by rw [ea_125, grow_ct]; omega
  have ho_a_111 : al_122.2 10 (al.1 10) = a_111 := by rw [ea_125, grow_ad hi_a_111]; exact ho_a_111
  have hi_a_111 : (al.1 10) < al_122.1 10 := by rw [ea_125, grow_ct]; omega
  have ho_a_21 : al_122.2 3 (al.1 3) = a_21 := by rw [ea_125, grow_ad hi_a_21]; exact ho_a_21
  have hi_a_21 : (al.1 3) < al_122.1 3 := by rw [ea_125, grow_ct]; omega
  have ho_a_51 : al_122.2 4 (al.1 4) = a_51 := by rw [ea_125, grow_ad hi_a_51]; exact ho_a_51
  have hi_a_51 : (al.1 4) < al_122.1 4 := by rw [ea_125, grow_ct]; omega
  have ho_a_61 : al_122.2 5 (al.1 5) = a_61 := by rw [ea_125, grow_ad hi_a_61]; exact ho_a_61
  have hi_a_61 : (al.1 5) < al_122.1 5 := by rw [ea_125, grow_ct]; omega
  have ho_a_71 : al_122.2 6 (al.1 6) = a_71 := by rw [ea_125, grow_ad hi_a_71]; exact ho_a_71
  have hi_a_71 : (al.1 6) < al_122.1 6 := by rw [ea_125, grow_ct]; omega
  have ho_a_81 : al_122.2 7 (al.1 7) = a_81 := by rw [ea_125, grow_ad hi_a_81]; exact ho_a_81
  have hi_a_81 : (al.1 7) < al_122.1 7 := by rw [ea_125, grow_ct]; omega
  have ho_a_91 : al_122.2 8 (al.1 8) = a_91 := by rw [ea_125, grow_ad hi_a_91]; exact ho_a_91
  have hi_a_91 : (al.1 8) < al_122.1 8 := by rw [ea_125, grow_ct]; omega
  have ho_o : al_122.2 0 i0 = o := by rw [ea_125, grow_ad hi_o]; exact ho_o
  have hi_o : i0 < al_122.1 0 := by rw [ea_125, grow_ct]; omega
  have ho_a_121 : al_122.2 11 (al.1 11) = a_121 := hn9
  have hi_a_121 : (al.1 11) < al_122.1 11 := by rw [ea_125, grow_ct, hc_128]; simp
  have hN : NN 0 i0 [12, 11, 10, 9, 8, 7, 4, 3, 2, 1] rv_124 := hN.keep (fun k => by rw [er_127]; exact clr_ne (fun z => absurd z.1 (by decide)))
  have hE := hE9
  have hR := hR9
  have hB := hB9
  refine W.widen (k := 11) (n := 410) (Nat.le_of_ble_eq_true rfl) (Nat.le_of_ble_eq_true rfl) ?_
  refine W.eq (g2 := F0 m 137 ls [.ref (al_122.2 11 (al.1 11)), .ref (al_122.2 0 i0)]) (by rw [ho_a_121, ho_o]) ?_
  refine q_putr (t := 0) (i := i0) (k := 13) (t' := 11) (j := (al.1 11)) C hU hS k_0 (hc := rfl) uwX12 tyX12 tyX12_ok nmX12 hi_o (by decide) rfl (Or.inr ⟨rfl, hnm, rfl⟩) rfl fl_X12_40 dX12_init_137 (fun _ => rfl) (fun _ => rfl) (fun H locs hU hS => ?_)
  have hz : sz ≤ H.size := Nat.le_trans hz0 hS.1
  obtain ⟨rv_129, er_130⟩ : ∃ z, z = up3 rv_124 0 i0 13 (some (al.1 11)) := ⟨_, rfl⟩
  rw [← er_130] at hU
  have hB : RB al_122 rv_129 := by rw [er_130]; exact hB.put rfl hi_a_121
  have hE := hE.putr (t := 0) (i := i0) (k := 13) (x := some (al.1 11)) (by decide)
  rw [← er_130] at hE
  have hN : NN 0 i0 [13, 12, 11, 10, 9, 8, 7, 4, 3, 2, 1] rv_129 := by rw [er_130]; exact hN.put 13 (al.1 11)
  refine lv_aload_n hx hb dX12_init_140 rfl (lv_at hl 0 rfl) ?_
  refine lv_bipush (v := 40) hx hb dX12_init_141 (by decide) ?_
  refine q_newp (t := 12) (ty := .int) C hU hS hB hz rfl (Or.inl rfl) k_12 (fun _ => rfl) ac_int (by decide) (by decide) (by decide) (Nat.le_of_ble_eq_true rfl) (Nat.le_of_ble_eq_true rfl) dX12_init_143 (fun a_131 H hU hS hz => ?_)
  have hc_138 : al_122.1 12 = al.1 12 := hE.1 12
  have hE9 := hE.new 12 a_131
  have hR9 := hR.new 12 a_131
  have hB9 := hB.new 12 a_131
  have hn9 := grow_new (al := al_122) (t := 12) (a := a_131)
  rw [hc_138] at hU hE9 hR9 hB9 hn9
  obtain ⟨al_132, ea_135⟩ : ∃ z, z = grow al_122 12 a_131 := ⟨_, rfl⟩
  obtain ⟨iv_133, ei_136⟩ : ∃ z, z = clr iv_123 12 (al.1 12) 0 := ⟨_, rfl⟩
  obtain ⟨rv_134, er_137⟩ : ∃ z, z = clr rv_129 12 (al.1 12) none := ⟨_, rfl⟩
  rw [← ea_135] at hU hE9 hR9 hB9 hn9
  rw [← ei_136] at hU hE9 hR9
  rw [← er_137] at hU hE9 hB9
  have ho_a_1 : al_132.2 1 (al.1 1) = a_1 := by rw [ea_135, grow_ad hi_a_1]; exact ho_a_1
  have hi_a_1 : (al.1 1) < al_132.1 1 := by rw [ea_135, grow_ct]; omega
  have ho_a_101 : al_132.2 9 (al.1 9) = a_101 := by rw [ea_135, grow_ad hi_a_101]; exact ho_a_101
  have hi_a_101 : (al.1 9) < al_132.1 9 := by rw [ea_135, grow_ct]; omega
  have ho_a_11 : al_132.2 2 (al.1 2) = a_11 := by rw [ea_135, grow_ad hi_a_11]; exact ho_a_11
  have hi_a_11 : (al.1 2) < al_132.1 2 := by rw [ea_135, grow_ct]; omega
  have ho_a_111 : al_132.2 10 (al.1 10) = a_111 := by rw [ea_135, grow_ad hi_a_111]; exact ho_a_111
  have hi_a_111 : (al.1 10) < al_132.1 10 := by rw [ea_135, grow_ct]; omega
  have ho_a_121 : al_132.2 11 (al.1 11) = a_121 := by rw [ea_135, grow_ad hi_a_121]; exact ho_a_121
  have hi_a_121 : (al.1 11) < al_132.1 11 := by rw [ea_135, grow_ct]; omega
  have ho_a_21 : al_132.2 3 (al.1 3) = a_21 := by rw [ea_135, grow_ad hi_a_21]; exact ho_a_21
  have hi_a_21 : (al.1 3) < al_132.1 3 := by rw [ea_135, grow_ct]; omega
  have ho_a_51 : al_132.2 4 (al.1 4) = a_51 := by rw [ea_135, grow_ad hi_a_51]; exact ho_a_51
  have hi_a_51 : (al.1 4) < al_132.1 4 := by rw [ea_135, grow_ct]; omega
  have ho_a_61 : al_132.2 5 (al.1 5) = a_61 := by rw [ea_135, grow_ad hi_a_61]; exact ho_a_61
  have hi_a_61 : (al.1 5) < al_132.1 5 := by rw [ea_135, grow_ct]; omega
  have ho_a_71 : al_132.2 6 (al.1 6) = a_71 := by rw [ea_135, grow_ad hi_a_71]; exact ho_a_71
  have hi_a_71 : (al.1 6) < al_132.1 6 := by rw [ea_135, grow_ct]; omega
  have ho_a_81 : al_132.2 7 (al.1 7) = a_81 := by rw [ea_135, grow_ad hi_a_81]; exact ho_a_81
  have hi_a_81 : (al.1 7) < al_132.1 7 := by rw [ea_135, grow_ct]; omega
  have ho_a_91 : al_132.2 8 (al.1 8) = a_91 := by rw [ea_135, grow_ad hi_a_91]; exact ho_a_91
  have hi_a_91 : (al.1 8) < al_132.1 8 := by rw [ea_135, grow_ct]; omega
  have ho_o : al_132.2 0 i0 = o := by rw [ea_135, grow_ad hi_o]; exact ho_o
  have hi_o : i0 < al_132.1 0 := by rw [ea_135, grow_ct]; omega
  have ho_a_131 : al_132.2 12 (al.1 12) = a_131 := hn9
  have hi_a_131 : (al.1 12) < al_132.1 12 := by rw [ea_135, grow_ct, hc_138]; simp
  have hN : NN 0 i0 [13, 12, 11, 10, 9, 8, 7, 4, 3, 2, 1] rv_134 := hN.keep (fun k => by rw [er_137]; exact clr_ne (fun z => absurd z.1 (by decide)))
  have hE := hE9
  have hR := hR9
  have hB := hB9
  refine W.widen (k := 12) (n := 450) (Nat.le_of_ble_eq_true rfl) (Nat.le_of_ble_eq_true rfl) ?_
  refine W.eq (g2 := F0 m 145 ls [.ref (al_132.2 12 (al.1 12)), .ref (al_132.2 0 i0)]) (by rw [ho_a_131, ho_o]) ?_
  refine q_putr (t := 0) (i := i0) (k := 14) (t' := 12) (j := (al.1 12)) C hU hS k_0 (hc := rfl) uwX12 tyX12 tyX12_ok nmX12 hi_o (by decide) rfl (Or.inr ⟨rfl, hnm, rfl⟩) rfl fl_X12_44 dX12_init_145 (fun _ => rfl) (fun _ => rfl) (fun H locs hU hS => ?_)
  have hz : sz ≤ H.size := Nat.le_trans hz0 hS.1
  obtain ⟨rv_139, er_140⟩ : ∃ z, z = up3 rv_134 0 i0 14 (some (al.1 12)) := ⟨_, rfl⟩
  rw [← er_140] at hU
  have hB : RB al_132 rv_139 := by rw [er_140]; exact hB.put rfl hi_a_131
  have hE := hE.putr (t := 0) (i := i0) (k := 14) (x := some (al.1 12)) (by decide)
  rw [← er_140] at hE
  have hN : NN 0 i0 [14, 13, 12, 11, 10, 9, 8, 7, 4, 3, 2, 1] rv_139 := by rw [er_140]; exact hN.put 14 (al.1 12)
  refine lv_aload_n hx hb dX12_init_148 rfl (lv_at hl 0 rfl) ?_
  refine lv_bipush (v := 40) hx hb dX12_init_149 (by decide) ?_
  refine q_newp (t := 13) (ty := .int) C hU hS hB hz rfl (Or.inl rfl) k_13 (fun _ => rfl) ac_int (by decide) (by decide) (by decide) (Nat.le_of_ble_eq_true rfl) (Nat.le_of_ble_eq_true rfl) dX12_init_151 (fun a_141 H hU hS hz => ?_)
  have hc_148 : al_132.1 13 = al.1 13 := hE.1 13
  have hE9 := hE.new 13 a_141
  have hR9 := hR.new 13 a_141
  have hB9 := hB.new 13 a_141
  have hn9 := grow_new (al := al_132) (t := 13) (a := a_141)
  rw [hc_148] at hU hE9 hR9 hB9 hn9
  obtain ⟨al_142, ea_145⟩ : ∃ z, z = grow al_132 13 a_141 := ⟨_, rfl⟩
  obtain ⟨iv_143, ei_146⟩ : ∃ z, z = clr iv_133 13 (al.1 13) 0 := ⟨_, rfl⟩
  obtain ⟨rv_144, er_147⟩ : ∃ z, z = clr rv_139 13 (al.1 13) none := ⟨_, rfl⟩
  rw [← ea_145] at hU hE9 hR9 hB9 hn9
  rw [← ei_146] at hU hE9 hR9
  rw [← er_147] at hU hE9 hB9
  have ho_a_1 : al_142.2 1 (al.1 1) = a_1 := by rw [ea_145, grow_ad hi_a_1]; exact ho_a_1
  have hi_a_1 : (al.1 1) < al_142.1 1 := by rw [ea_145, grow_ct]; omega
  have ho_a_101 : al_142.2 9 (al.1 9) = a_101 := by rw [ea_145, grow_ad hi_a_101]; exact ho_a_101
  have hi_a_101 : (al.1 9) < al_142.1 9 := by rw [ea_145, grow_ct]; omega
  have ho_a_11 : al_142.2 2 (al.1 2) = a_11 := by rw [ea_145, grow_ad hi_a_11]; exact ho_a_11
  have hi_a_11 : (al.1 2) < al_142.1 2 := by rw [ea_145, grow_ct]; omega
  have ho_a_111 : al_142.2 10 (al.1 10) = a_111 := by rw [ea_145, grow_ad hi_a_111]; exact ho_a_111
  have hi_a_111 : (al.1 10) < al_142.1 10 := by rw [ea_145, grow_ct]; omega
  have ho_a_121 : al_142.2 11 (al.1 11) = a_121 := by rw [ea_145, grow_ad hi_a_121]; exact ho_a_121
  have hi_a_121 : (al.1 11) < al_142.1 11 := by rw [ea_145, grow_ct]; omega
  have ho_a_131 : al_142.2 12 (al.1 12) = a_131 := by rw [ea_145, grow_ad hi_a_131]; exact ho_a_131
  have hi_a_131 : (al.1 12) < al_142.1 12 := by rw [ea_145, grow_ct]; omega
  have ho_a_21 : al_142.2 3 (al.1 3) = a_21 := by rw [ea_145, grow_ad hi_a_21]; exact ho_a_21
  have hi_a_21 : (al.1 3) < al_142.1 3 := by rw [ea_145, grow_ct]; omega
  have ho_a_51 : al_142.2 4 (al.1 4) = a_51 := by rw [ea_145, grow_ad hi_a_51]; exact ho_a_51
  have hi_a_51 : (al.1 4) < al_142.1 4 := by rw [ea_145, grow_ct]; omega
  have ho_a_61 : al_142.2 5 (al.1 5) = a_61 := by rw [ea_145, grow_ad hi_a_61]; exact ho_a_61
  have hi_a_61 : (al.1 5) < al_142.1 5 := by rw [ea_145, grow_ct]; omega
  have ho_a_71 : al_142.2 6 (al.1 6) = a_71 := by rw [ea_145, grow_ad hi_a_71]; exact ho_a_71
  have hi_a_71 : (al.1 6) < al_142.1 6 := by rw [ea_145, grow_ct]; omega
  have ho_a_81 : al_142.2 7 (al.1 7) = a_81 := by rw [ea_145, grow_ad hi_a_81]; exact ho_a_81
  have hi_a_81 : (al.1 7) < al_142.1 7 := by rw [ea_145, grow_ct]; omega
  have ho_a_91 : al_142.2 8 (al.1 8) = a_91 := by rw [ea_145, grow_ad hi_a_91]; exact ho_a_91
  have hi_a_91 : (al.1 8) < al_142.1 8 := by rw [ea_145, grow_ct]; omega
  have ho_o : al_142.2 0 i0 = o := by rw [ea_145, grow_ad hi_o]; exact ho_o
  have hi_o : i0 < al_142.1 0 := by rw [ea_145, grow_ct]; omega
  have ho_a_141 : al_142.2 13 (al.1 13) = a_141 := hn9
  have hi_a_141 : (al.1 13) < al_142.1 13 := by rw [ea_145, grow_ct, hc_148]; simp
  have hN : NN 0 i0 [14, 13, 12, 11, 10, 9, 8, 7, 4, 3, 2, 1] rv_144 := hN.keep (fun k => by rw [er_147]; exact clr_ne (fun z => absurd z.1 (by decide)))
  have hE := hE9
  have hR := hR9
  have hB := hB9
  refine W.widen (k := 13) (n := 490) (Nat.le_of_ble_eq_true rfl) (Nat.le_of_ble_eq_true rfl) ?_
  refine W.eq (g2 := F0 m 153 ls [.ref (al_142.2 13 (al.1 13)), .ref (al_142.2 0 i0)]) (by rw [ho_a_141, ho_o]) ?_
  refine q_putr (t := 0) (i := i0) (k := 15) (t' := 13) (j := (al.1 13)) C hU hS k_0 (hc := rfl) uwX12 tyX12 tyX12_ok nmX12 hi_o (by decide) rfl (Or.inr ⟨rfl, hnm, rfl⟩) rfl fl_X12_47 dX12_init_153 (fun _ => rfl) (fun _ => rfl) (fun H locs hU hS => ?_)
  have hz : sz ≤ H.size := Nat.le_trans hz0 hS.1
  obtain ⟨rv_149, er_150⟩ : ∃ z, z = up3 rv_144 0 i0 15 (some (al.1 13)) := ⟨_, rfl⟩
  rw [← er_150] at hU
  have hB : RB al_142 rv_149 := by rw [er_150]; exact hB.put rfl hi_a_141
  have hE := hE.putr (t := 0) (i := i0) (k := 15) (x := some (al.1 13)) (by decide)
  rw [← er_150] at hE
  have hN : NN 0 i0 [15, 14, 13, 12, 11, 10, 9, 8, 7, 4, 3, 2, 1] rv_149 := by rw [er_150]; exact hN.put 15 (al.1 13)
  refine lv_aload_n hx hb dX12_init_156 rfl (lv_at hl 0 rfl) ?_
  refine lv_bipush (v := 40) hx hb dX12_init_157 (by decide) ?_
  refine q_newp (t := 14) (ty := .int) C hU hS hB hz rfl (Or.inl rfl) k_14 (fun _ => rfl) ac_int (by decide) (by decide) (by decide) (Nat.le_of_ble_eq_true rfl) (Nat.le_of_ble_eq_true rfl) dX12_init_159 (fun a_151 H hU hS hz => ?_)
  have hc_158 : al_142.1 14 = al.1 14 := hE.1 14
  have hE9 := hE.new 14 a_151
  have hR9 := hR.new 14 a_151
  have hB9 := hB.new 14 a_151
  have hn9 := grow_new (al := al_142) (t := 14) (a := a_151)
  rw [hc_158] at hU hE9 hR9 hB9 hn9
  obtain ⟨al_152, ea_155⟩ : ∃ z, z = grow al_142 14 a_151 := ⟨_, rfl⟩
  obtain ⟨iv_153, ei_156⟩ : ∃ z, z = clr iv_143 14 (al.1 14) 0 := ⟨_, rfl⟩
  obtain ⟨rv_154, er_157⟩ : ∃ z, z = clr rv_149 14 (al.1 14) none := ⟨_, rfl⟩
  rw [← ea_155] at hU hE9 hR9 hB9 hn9
  rw [← ei_156] at hU hE9 hR9
  rw [← er_157] at hU hE9 hB9
  have ho_a_1 : al_152.2 1 (al.1 1) = a_1 := by rw [ea_155, grow_ad hi_a_1]; exact ho_a_1
  have hi_a_1 : (al.1 1) < al_152.1 1 := by rw [ea_155, grow_ct]; omega
  have ho_a_101 : al_152.2 9 (al.1 9) = a_101 := by rw [ea_155, grow_ad hi_a_101]; exact ho_a_101
  have hi_a_101 : (al.1 9) < al_152.1 9 := by rw [ea_155, grow_ct]; omega
  have ho_a_11 : al_152.2 2 (al.1 2) = a_11 := by rw [ea_155, grow_ad hi_a_11]; exact ho_a_11
  have hi_a_11 : (al.1 2) < al_152.1 2 := by rw [ea_155, grow_ct]; omega
  have ho_a_111 : al_152.2 10 (al.1 10) = a_111 := by rw [ea_155, grow_ad hi_a_111]; exact ho_a_111
  have hi_a_111 : (al.1 10) < al_152.1 10 := by rw [ea_155, grow_ct]; omega
  have ho_a_121 : al_152.2 11 (al.1 11) = a_121 := by rw [ea_155, grow_ad hi_a_121]; exact ho_a_121
  have hi_a_121 : (al.1 11) < al_152.1 11 := by rw [ea_155, grow_ct]; omega
  have ho_a_131 : al_152.2 12 (al.1 12) = a_131 := by rw [ea_155, grow_ad hi_a_131]; exact ho_a_131
  have hi_a_131 : (al.1 12) < al_152.1 12 := by rw [ea_155, grow_ct]; omega
  have ho_a_141 : al_152.2 13 (al.1 13) = a_141 := by rw [ea_155, grow_ad hi_a_141]; exact ho_a_141
  have hi_a_141 : (al.1 13) < al_152.1 13 := by rw [ea_155, grow_ct]; omega
  have ho_a_21 : al_152.2 3 (al.1 3) = a_21 := by rw [ea_155, grow_ad hi_a_21]; exact ho_a_21
  have hi_a_21 : (al.1 3) < al_152.1 3 := by rw [ea_155, grow_ct]; omega
  have ho_a_51 : al_152.2 4 (al.1 4) = a_51 := by rw [ea_155, grow_ad hi_a_51]; exact ho_a_51
  have hi_a_51 : (al.1 4) < al_152.1 4 := by rw [ea_155, grow_ct]; omega
  have ho_a_61 : al_152.2 5 (al.1 5) = a_61 := by rw [ea_155, grow_ad hi_a_61]; exact ho_a_61
  have hi_a_61 : (al.1 5) < al_152.1 5 := by rw [ea_155, grow_ct]; omega
  have ho_a_71 : al_152.2 6 (al.1 6) = a_71 := by rw [ea_155, grow_ad hi_a_71]; exact ho_a_71
  have hi_a_71 : (al.1 6) < al_152.1 6 := by rw [ea_155, grow_ct]; omega
  have ho_a_81 : al_152.2 7 (al.1 7) = a_81 := by rw [ea_155, grow_ad hi_a_81]; exact ho_a_81
  have hi_a_81 : (al.1 7) < al_152.1 7 := by rw [ea_155, grow_ct]; omega
  have ho_a_91 : al_152.2 8 (al.1 8) = a_91 := by rw [ea_155, grow_ad hi_a_91]; exact ho_a_91
  have hi_a_91 : (al.1 8) < al_152.1 8 := by rw [ea_155, grow_ct]; omega
  have ho_o : al_152.2 0 i0 = o := by rw [ea_155, grow_ad hi_o]; exact ho_o
  have hi_o : i0 < al_152.1 0 := by rw [ea_155, grow_ct]; omega
  have ho_a_151 : al_152.2 14 (al.1 14) = a_151 := hn9
  have hi_a_151 : (al.1 14) < al_152.1 14 := by rw [ea_155, grow_ct, hc_158]; simp
  have hN : NN 0 i0 [15, 14, 13, 12, 11, 10, 9, 8, 7, 4, 3, 2, 1] rv_154 := hN.keep (fun k => by rw [er_157]; exact clr_ne (fun z => absurd z.1 (by decide)))
  have hE := hE9
  have hR := hR9
  have hB := hB9
  refine W.widen (k := 14) (n := 530) (Nat.le_of_ble_eq_true rfl) (Nat.le_of_ble_eq_true rfl) ?_
  refine W.eq (g2 := F0 m 161 ls [.ref (al_152.2 14 (al.1 14)), .ref (al_152.2 0 i0)]) (by rw [ho_a_151, ho_o]) ?_
  refine q_putr (t := 0) (i := i0) (k := 16) (t' := 14) (j := (al.1 14)) C hU hS k_0 (hc := rfl) uwX12 tyX12 tyX12_ok nmX12 hi_o (by decide) rfl (Or.inr ⟨rfl, hnm, rfl⟩) rfl fl_X12_50 dX12_init_161 (fun _ => rfl) (fun _ => rfl) (fun H locs hU hS => ?_)
  have hz : sz ≤ H.size := Nat.le_trans hz0 hS.1
  obtain ⟨rv_159, er_160⟩ : ∃ z, z = up3 rv_154 0 i0 16 (some (al.1 14)) := ⟨_, rfl⟩
  rw [← er_160] at hU
  have hB : RB al_152 rv_159 := by rw [er_160]; exact hB.put rfl hi_a_151
  have hE := hE.putr (t := 0) (i := i0) (k := 16) (x := some (al.1 14)) (by decide)
  rw [← er_160] at hE
  have hN : NN 0 i0 [16, 15, 14, 13, 12, 11, 10, 9, 8, 7, 4, 3, 2, 1] rv_159 := by rw [er_160]; exact hN.put 16 (al.1 14)
  refine lv_aload_n hx hb dX12_init_164 rfl (lv_at hl 0 rfl) ?_
  refine lv_iconst (v := 4) hx hb dX12_init_165 (by decide) ?_
  refine q_newp (t := 15) (ty := .int) C hU hS hB hz rfl (Or.inl rfl) k_15 (fun _ => rfl) ac_int (by decide) (by decide) (by decide) (Nat.le_of_ble_eq_true rfl) (Nat.le_of_ble_eq_true rfl) dX12_init_166 (fun a_161 H hU hS hz => ?_)
  have hc_168 : al_152.1 15 = al.1 15 := hE.1 15
  have hE9 := hE.new 15 a_161
  have hR9 := hR.new 15 a_161
  have hB9 := hB.new 15 a_161
  have hn9 := grow_new (al := al_152) (t := 15) (a := a_161)
  rw [hc_168] at hU hE9 hR9 hB9 hn9
  obtain ⟨al_162, ea_165⟩ : ∃ z, z = grow al_152 15 a_161 := ⟨_, rfl⟩
  obtain ⟨iv_163, ei_166⟩ : ∃ z, z = clr iv_153 15 (al.1 15) 0 := ⟨_, rfl⟩
  obtain ⟨rv_164, er_167⟩ : ∃ z, z = clr rv_159 15 (al.1 15) none := ⟨_, rfl⟩
  rw [← ea_165] at hU hE9 hR9 hB9 hn9
  rw [← ei_166] at hU hE9 hR9
  rw [← er_167] at hU hE9 hB9
  have ho_a_1 : al_162.2 1 (al.1 1) = a_1 := by rw [ea_165, grow_ad hi_a_1]; exact ho_a_1
  have hi_a_1 : (al.1 1) < al_162.1 1 := by rw [ea_165, grow_ct]; omega
  have ho_a_101 : al_162.2 9 (al.1 9) = a_101 := by rw [ea_165, grow_ad hi_a_101]; exact ho_a_101
  have hi_a_101 : (al.1 9) < al_162.1 9 := by rw [ea_165, grow_ct]; omega
  have ho_a_11 : al_162.2 2 (al.1 2) = a_11 := by rw [ea_165, grow_ad hi_a_11]; exact ho_a_11
  have hi_a_11 : (al.1 2) < al_162.1 2 := by rw [ea_165, grow_ct]; omega
  have ho_a_111 : al_162.2 10 (al.1 10) = a_111 := by rw [ea_165, grow_ad hi_a_111]; exact ho_a_111
  have hi_a_111 : (al.1 10) < al_162.1 10 := by rw [ea_165, grow_ct]; omega
  have ho_a_121 : al_162.2 11 (al.1 11) = a_121 := by rw [ea_165, grow_ad hi_a_121]; exact ho_a_121
  have hi_a_121 : (al.1 11) < al_162.1 11 := by rw [ea_165, grow_ct]; omega
  have ho_a_131 : al_162.2 12 (al.1 12) = a_131 := by rw [ea_165, grow_ad hi_a_131]; exact ho_a_131
  have hi_a_131 : (al.1 12) < al_162.1 12 := by rw [ea_165, grow_ct]; omega
  have ho_a_141 : al_162.2 13 (al.1 13) = a_141 := by rw [ea_165, grow_ad hi_a_141]; exact ho_a_141
  have hi_a_141 : (al.1 13) < al_162.1 13 := by rw [ea_165, grow_ct]; omega
  have ho_a_151 : al_162.2 14 (al.1 14) = a_151 := by rw [ea_165, grow_ad hi_a_151]; exact ho_a_151
  have hi_a_151 : (al.1 14) < al_162.1 14 := by rw [ea_165, grow_ct]; omega
  have ho_a_21 : al_162.2 3 (al.1 3) = a_21 := by rw [ea_165, grow_ad hi_a_21]; exact ho_a_21
  have hi_a_21 : (al.1 3) < al_162.1 3 := by rw [ea_165, grow_ct]; omega
  have ho_a_51 : al_162.2 4 (al.1 4) = a_51 := by rw [ea_165, grow_ad hi_a_51]; exact ho_a_51
  have hi_a_51 : (al.1 4) < al_162.1 4 := by rw [ea_165, grow_ct]; omega
  have ho_a_61 : al_162.2 5 (al.1 5) = a_61 := by rw [ea_165, grow_ad hi_a_61]; exact ho_a_61
  have hi_a_61 : (al.1 5) < al_162.1 5 := by rw [ea_165, grow_ct]; omega
  have ho_a_71 : al_162.2 6 (al.1 6) = a_71 := by rw [ea_165, grow_ad hi_a_71]; exact ho_a_71
  have hi_a_71 : (al.1 6) < al_162.1 6 := by rw [ea_165, grow_ct]; omega
  have ho_a_81 : al_162.2 7 (al.1 7) = a_81 := by rw [ea_165, grow_ad hi_a_81]; exact ho_a_81
  have hi_a_81 : (al.1 7) < al_162.1 7 := by rw [ea_165, grow_ct]; omega
  have ho_a_91 : al_162.2 8 (al.1 8) = a_91 := by rw [ea_165, grow_ad hi_a_91]; exact ho_a_91
  have hi_a_91 : (al.1 8) < al_162.1 8 := by rw [ea_165, grow_ct]; omega
  have ho_o : al_162.2 0 i0 = o := by rw [ea_165, grow_ad hi_o]; exact ho_o
  have hi_o : i0 < al_162.1 0 := by rw [ea_165, grow_ct]; omega
  have ho_a_161 : al_162.2 15 (al.1 15) = a_161 := hn9
  have hi_a_161 : (al.1 15) < al_162.1 15 := by rw [ea_165, grow_ct, hc_168]; simp
  have hN : NN 0 i0 [16, 15, 14, 13, 12, 11, 10, 9, 8, 7, 4, 3, 2, 1] rv_164 := hN.keep (fun k => by rw [er_167]; exact clr_ne (fun z => absurd z.1 (by decide)))
  have hE := hE9
  have hR := hR9
  have hB := hB9
  refine W.widen (k := 15) (n := 534) (Nat.le_of_ble_eq_true rfl) (Nat.le_of_ble_eq_true rfl) ?_
  refine lv_dup hx hb dX12_init_168 rfl ?_
  refine lv_iconst (v := 0) hx hb dX12_init_169 (by decide) ?_
  refine lv_bipush (v := 30) hx hb dX12_init_170 (by decide) ?_
  refine W.eq (g2 := F0 m 172 ls [.int 30, .int 0, .ref (al_162.2 15 (al.1 15)), .ref (al_162.2 15 (al.1 15)), .ref o]) (by rw [ho_a_161]) ?_
  refine s_15 (i := (al.1 15)) C hU hS hi_a_161 (x := 0) (by omega) (by omega) dX12_init_172 (fun iv_169 H locs ei_170 hU hS => ?_)
  have hz : sz ≤ H.size := Nat.le_trans hz0 hS.1
  refine W.eq (g2 := F0 m 173 ls [.ref a_161, .ref o]) (by rw [ho_a_161]) ?_
  have hR : RG al_162 iv_169 := by rw [ei_170]; exact hR.put (show _ ∧ _ from ⟨show (0 : Int) ≤ _ by omega, show _ ≤ (900 : Int) by omega⟩)
  have hE := hE.puti (t := 15) (i := (al.1 15)) (k := (0 : Int32).toNatClampNeg) (x := 30) (Or.inl (by decide))
  rw [← ei_170] at hE
  refine lv_dup hx hb dX12_init_173 rfl ?_
  refine lv_iconst (v := 1) hx hb dX12_init_174 (by decide) ?_
  refine lv_bipush (v := 60) hx hb dX12_init_175 (by decide) ?_
  refine W.eq (g2 := F0 m 177 ls [.int 60, .int 1, .ref (al_162.2 15 (al.1 15)), .ref (al_162.2 15 (al.1 15)), .ref o]) (by rw [ho_a_161]) ?_
  refine s_15 (i := (al.1 15)) C hU hS hi_a_161 (x := 1) (by omega) (by omega) dX12_init_177 (fun iv_171 H locs ei_172 hU hS => ?_)
  have hz : sz ≤ H.size := Nat.le_trans hz0 hS.1
  refine W.eq (g2 := F0 m 178 ls [.ref a_161, .ref o]) (by rw [ho_a_161]) ?_
  have hR : RG al_162 iv_171 := by rw [ei_172]; exact hR.put (show _ ∧ _ from ⟨show (0 : Int) ≤ _ by omega, show _ ≤ (900 : Int) by omega⟩)
  have hE := hE.puti (t := 15) (i := (al.1 15)) (k := (1 : Int32).toNatClampNeg) (x := 60) (Or.inl (by decide))
  rw [← ei_172] at hE
  refine lv_dup hx hb dX12_init_178 rfl ?_
  refine lv_iconst (v := 2) hx hb dX12_init_179 (by decide) ?_
  refine lv_bipush (v := 45) hx hb dX12_init_180 (by decide) ?_
  refine W.eq (g2 := F0 m 182 ls [.int 45, .int 2, .ref (al_162.2 15 (al.1 15)), .ref (al_162.2 15 (al.1 15)), .ref o]) (by rw [ho_a_161]) ?_
  refine s_15 (i := (al.1 15)) C hU hS hi_a_161 (x := 2) (by omega) (by omega) dX12_init_182 (fun iv_173 H locs ei_174 hU hS => ?_)
  have hz : sz ≤ H.size := Nat.le_trans hz0 hS.1
  refine W.eq (g2 := F0 m 183 ls [.ref a_161, .ref o]) (by rw [ho_a_161]) ?_
  have hR : RG al_162 iv_173 := by rw [ei_174]; exact hR.put (show _ ∧ _ from ⟨show (0 : Int) ≤ _ by omega, show _ ≤ (900 : Int) by omega⟩)
  have hE := hE.puti (t := 15) (i := (al.1 15)) (k := (2 : Int32).toNatClampNeg) (x := 45) (Or.inl (by decide))
  rw [← ei_174] at hE
  refine lv_dup hx hb dX12_init_183 rfl ?_
  refine lv_iconst (v := 3) hx hb dX12_init_184 (by decide) ?_
  refine lv_iconst (v := 5) hx hb dX12_init_185 (by decide) ?_
  refine W.eq (g2 := F0 m 186 ls [.int 5, .int 3, .ref (al_162.2 15 (al.1 15)), .ref (al_162.2 15 (al.1 15)), .ref o]) (by rw [ho_a_161]) ?_
  refine s_15 (i := (al.1 15)) C hU hS hi_a_161 (x := 3) (by omega) (by omega) dX12_init_186 (fun iv_175 H locs ei_176 hU hS => ?_)
  have hz : sz ≤ H.size := Nat.le_trans hz0 hS.1
  refine W.eq (g2 := F0 m 187 ls [.ref a_161, .ref o]) (by rw [ho_a_161]) ?_
  have hR : RG al_162 iv_175 := by rw [ei_176]; exact hR.put (show _ ∧ _ from ⟨show (0 : Int) ≤ _ by omega, show _ ≤ (900 : Int) by omega⟩)
  have hE := hE.puti (t := 15) (i := (al.1 15)) (k := (3 : Int32).toNatClampNeg) (x := 5) (Or.inl (by decide))
  rw [← ei_176] at hE
  refine W.eq (g2 := F0 m 187 ls [.ref (al_162.2 15 (al.1 15)), .ref (al_162.2 0 i0)]) (by rw [ho_a_161, ho_o]) ?_
  refine q_putr (t := 0) (i := i0) (k := 17) (t' := 15) (j := (al.1 15)) C hU hS k_0 (hc := rfl) uwX12 tyX12 tyX12_ok nmX12 hi_o (by decide) rfl (Or.inr ⟨rfl, hnm, rfl⟩) rfl fl_X12_53 dX12_init_187 (fun _ => rfl) (fun _ => rfl) (fun H locs hU hS => ?_)
  have hz : sz ≤ H.size := Nat.le_trans hz0 hS.1
  obtain ⟨rv_177, er_178⟩ : ∃ z, z = up3 rv_164 0 i0 17 (some (al.1 15)) := ⟨_, rfl⟩
  rw [← er_178] at hU
  have hB : RB al_162 rv_177 := by rw [er_178]; exact hB.put rfl hi_a_161
  have hE := hE.putr (t := 0) (i := i0) (k := 17) (x := some (al.1 15)) (by decide)
  rw [← er_178] at hE
  have hN : NN 0 i0 [17, 16, 15, 14, 13, 12, 11, 10, 9, 8, 7, 4, 3, 2, 1] rv_177 := by rw [er_178]; exact hN.put 17 (al.1 15)
  refine lv_aload_n hx hb dX12_init_190 rfl (lv_at hl 0 rfl) ?_
  refine lv_bipush (v := 7) hx hb dX12_init_191 (by decide) ?_
  refine q_newp (t := 16) (ty := .int) C hU hS hB hz rfl (Or.inl rfl) k_16 (fun _ => rfl) ac_int (by decide) (by decide) (by decide) (Nat.le_of_ble_eq_true rfl) (Nat.le_of_ble_eq_true rfl) dX12_init_193 (fun a_179 H hU hS hz => ?_)
  have hc_186 : al_162.1 16 = al.1 16 := hE.1 16
  have hE9 := hE.new 16 a_179
  have hR9 := hR.new 16 a_179
  have hB9 := hB.new 16 a_179
  have hn9 := grow_new (al := al_162) (t := 16) (a := a_179)
  rw [hc_186] at hU hE9 hR9 hB9 hn9
  obtain ⟨al_180, ea_183⟩ : ∃ z, z = grow al_162 16 a_179 := ⟨_, rfl⟩
  obtain ⟨iv_181, ei_184⟩ : ∃ z, z = clr iv_175 16 (al.1 16) 0 := ⟨_, rfl⟩
  obtain ⟨rv_182, er_185⟩ : ∃ z, z = clr rv_177 16 (al.1 16) none := ⟨_, rfl⟩
  rw [← ea_183] at hU hE9 hR9 hB9 hn9
  rw [← ei_184] at hU hE9 hR9
  rw [← er_185] at hU hE9 hB9
  have ho_a_1 : al_180.2 1 (al.1 1) = a_1 := by rw [ea_183, grow_ad hi_a_1]; exact ho_a_1
  have hi_a_1 : (al.1 1) < al_180.1 1 := by rw [ea_183, grow_ct]; omega
  have ho_a_101 : al_180.2 9 (al.1 9) = a_101 := by rw [ea_183, grow_ad hi_a_101]; exact ho_a_101
  have hi_a_101 : (al.1 9) < al_180.1 9 := by rw [ea_183, grow_ct]; omega
  have ho_a_11 : al_180.2 2 (al.1 2) = a_11 := by rw [ea_183, grow_ad hi_a_11]; exact ho_a_11
  have hi_a_11 : (al.1 2) < al_180.1 2 := by rw [ea_183, grow_ct]; omega
  have ho_a_111 : al_180.2 10 (al.1 10) = a_111 := by rw [ea_183, grow_ad hi_a_111]; exact ho_a_111
  have hi_a_111 : (al.1 10) < al_180.1 10 := by rw [ea_183, grow_ct]; omega
  have ho_a_121 : al_180.2 11 (al.1 11) = a_121 := by rw [ea_183, grow_ad hi_a_121]; exact ho_a_121
  have hi_a_121 : (al.1 11) < al_180.1 11 := by rw [ea_183, grow_ct]; omega
  have ho_a_131 : al_180.2 12 (al.1 12) = a_131 := by rw [ea_183, grow_ad hi_a_131]; exact ho_a_131
  have hi_a_131 : (al.1 12) < al_180.1 12 := by rw [ea_183, grow_ct]; omega
  have ho_a_141 : al_180.2 13 (al.1 13) = a_141 := by rw [ea_183, grow_ad hi_a_141]; exact ho_a_141
  have hi_a_141 : (al.1 13) < al_180.1 13 := by rw [ea_183, grow_ct]; omega
  have ho_a_151 : al_180.2 14 (al.1 14) = a_151 := by rw [ea_183, grow_ad hi_a_151]; exact ho_a_151
  have hi_a_151 : (al.1 14) < al_180.1 14 := by rw [ea_183, grow_ct]; omega
  have ho_a_161 : al_180.2 15 (al.1 15) = a_161 := by rw [ea_183, grow_ad hi_a_161]; exact ho_a_161
  have hi_a_161 : (al.1 15) < al_180.1 15 := by rw [ea_183, grow_ct]; omega
  have ho_a_21 : al_180.2 3 (al.1 3) = a_21 := by rw [ea_183, grow_ad hi_a_21]; exact ho_a_21
  have hi_a_21 : (al.1 3) < al_180.1 3 := by rw [ea_183, grow_ct]; omega
  have ho_a_51 : al_180.2 4 (al.1 4) = a_51 := by rw [ea_183, grow_ad hi_a_51]; exact ho_a_51
  have hi_a_51 : (al.1 4) < al_180.1 4 := by rw [ea_183, grow_ct]; omega
  have ho_a_61 : al_180.2 5 (al.1 5) = a_61 := by rw [ea_183, grow_ad hi_a_61]; exact ho_a_61
  have hi_a_61 : (al.1 5) < al_180.1 5 := by rw [ea_183, grow_ct]; omega
  have ho_a_71 : al_180.2 6 (al.1 6) = a_71 := by rw [ea_183, grow_ad hi_a_71]; exact ho_a_71
  have hi_a_71 : (al.1 6) < al_180.1 6 := by rw [ea_183, grow_ct]; omega
  have ho_a_81 : al_180.2 7 (al.1 7) = a_81 := by rw [ea_183, grow_ad hi_a_81]; exact ho_a_81
  have hi_a_81 : (al.1 7) < al_180.1 7 := by rw [ea_183, grow_ct]; omega
  have ho_a_91 : al_180.2 8 (al.1 8) = a_91 := by rw [ea_183, grow_ad hi_a_91]; exact ho_a_91
  have hi_a_91 : (al.1 8) < al_180.1 8 := by rw [ea_183, grow_ct]; omega
  have ho_o : al_180.2 0 i0 = o := by rw [ea_183, grow_ad hi_o]; exact ho_o
  have hi_o : i0 < al_180.1 0 := by rw [ea_183, grow_ct]; omega
  have ho_a_179 : al_180.2 16 (al.1 16) = a_179 := hn9
  have hi_a_179 : (al.1 16) < al_180.1 16 := by rw [ea_183, grow_ct, hc_186]; simp
  have hN : NN 0 i0 [17, 16, 15, 14, 13, 12, 11, 10, 9, 8, 7, 4, 3, 2, 1] rv_182 := hN.keep (fun k => by rw [er_185]; exact clr_ne (fun z => absurd z.1 (by decide)))
  have hE := hE9
  have hR := hR9
  have hB := hB9
  refine W.widen (k := 16) (n := 541) (Nat.le_of_ble_eq_true rfl) (Nat.le_of_ble_eq_true rfl) ?_
  refine W.eq (g2 := F0 m 195 ls [.ref (al_180.2 16 (al.1 16)), .ref (al_180.2 0 i0)]) (by rw [ho_a_179, ho_o]) ?_
  refine q_putr (t := 0) (i := i0) (k := 18) (t' := 16) (j := (al.1 16)) C hU hS k_0 (hc := rfl) uwX12 tyX12 tyX12_ok nmX12 hi_o (by decide) rfl (Or.inr ⟨rfl, hnm, rfl⟩) rfl fl_X12_56 dX12_init_195 (fun _ => rfl) (fun _ => rfl) (fun H locs hU hS => ?_)
  have hz : sz ≤ H.size := Nat.le_trans hz0 hS.1
  obtain ⟨rv_187, er_188⟩ : ∃ z, z = up3 rv_182 0 i0 18 (some (al.1 16)) := ⟨_, rfl⟩
  rw [← er_188] at hU
  have hB : RB al_180 rv_187 := by rw [er_188]; exact hB.put rfl hi_a_179
  have hE := hE.putr (t := 0) (i := i0) (k := 18) (x := some (al.1 16)) (by decide)
  rw [← er_188] at hE
  have hN : NN 0 i0 [18, 17, 16, 15, 14, 13, 12, 11, 10, 9, 8, 7, 4, 3, 2, 1] rv_187 := by rw [er_188]; exact hN.put 18 (al.1 16)
  refine lv_aload_n hx hb dX12_init_198 rfl (lv_at hl 0 rfl) ?_
  refine lv_bipush (v := 6) hx hb dX12_init_199 (by decide) ?_
  refine q_newp (t := 17) (ty := .int) C hU hS hB hz rfl (Or.inl rfl) k_17 (fun _ => rfl) ac_int (by decide) (by decide) (by decide) (Nat.le_of_ble_eq_true rfl) (Nat.le_of_ble_eq_true rfl) dX12_init_201 (fun a_189 H hU hS hz => ?_)
  have hc_196 : al_180.1 17 = al.1 17 := hE.1 17
  have hE9 := hE.new 17 a_189
  have hR9 := hR.new 17 a_189
  have hB9 := hB.new 17 a_189
  have hn9 := grow_new (al := al_180) (t := 17) (a := a_189)
  rw [hc_196] at hU hE9 hR9 hB9 hn9
  obtain ⟨al_190, ea_193⟩ : ∃ z, z = grow al_180 17 a_189 := ⟨_, rfl⟩
  obtain ⟨iv_191, ei_194⟩ : ∃ z, z = clr iv_181 17 (al.1 17) 0 := ⟨_, rfl⟩
  obtain ⟨rv_192, er_195⟩ : ∃ z, z = clr rv_187 17 (al.1 17) none := ⟨_, rfl⟩
  rw [← ea_193] at hU hE9 hR9 hB9 hn9
  rw [← ei_194] at hU hE9 hR9
  rw [← er_195] at hU hE9 hB9
  have ho_a_1 : al_190.2 1 (al.1 1) = a_1 := by rw [ea_193, grow_ad hi_a_1]; exact ho_a_1
  have hi_a_1 : (al.1 1) < al_190.1 1 := by rw [ea_193, grow_ct]; omega
  have ho_a_101 : al_190.2 9 (al.1 9) = a_101 := by rw [ea_193, grow_ad hi_a_101]; exact ho_a_101
  have hi_a_101 : (al.1 9) < al_190.1 9 := by rw [ea_193, grow_ct]; omega
  have ho_a_11 : al_190.2 2 (al.1 2) = a_11 := by rw [ea_193, grow_ad hi_a_11]; exact ho_a_11
  have hi_a_11 : (al.1 2) < al_190.1 2 := by rw [ea_193, grow_ct]; omega
  have ho_a_111 : al_190.2 10 (al.1 10) = a_111 := by rw [ea_193, grow_ad hi_a_111]; exact ho_a_111
  have hi_a_111 : (al.1 10) < al_190.1 10 := by rw [ea_193, grow_ct]; omega
  have ho_a_121 : al_190.2 11 (al.1 11) = a_121 := by rw [ea_193, grow_ad hi_a_121]; exact ho_a_121
  have hi_a_121 : (al.1 11) < al_190.1 11 := by rw [ea_193, grow_ct]; omega
  have ho_a_131 : al_190.2 12 (al.1 12) = a_131 := by rw [ea_193, grow_ad hi_a_131]; exact ho_a_131
  have hi_a_131 : (al.1 12) < al_190.1 12 := by rw [ea_193, grow_ct]; omega
  have ho_a_141 : al_190.2 13 (al.1 13) = a_141 := by rw [ea_193, grow_ad hi_a_141]; exact ho_a_141
  have hi_a_141 : (al.1 13) < al_190.1 13 := by rw [ea_193, grow_ct]; omega
  have ho_a_151 : al_190.2 14 (al.1 14) = a_151 := by rw [ea_193, grow_ad hi_a_151]; exact ho_a_151
  have hi_a_151 : (al.1 14) < al_190.1 14 := by rw [ea_193, grow_ct]; omega
  have ho_a_161 : al_190.2 15 (al.1 15) = a_161 := by rw [ea_193, grow_ad hi_a_161]; exact ho_a_161
  have hi_a_161 : (al.1 15) < al_190.1 15 := by rw [ea_193, grow_ct]; omega
  have ho_a_179 : al_190.2 16 (al.1 16) = a_179 := by rw [ea_193, grow_ad hi_a_179]; exact ho_a_179
  have hi_a_179 : (al.1 16) < al_190.1 16 := by rw [ea_193, grow_ct]; omega
  have ho_a_21 : al_190.2 3 (al.1 3) = a_21 := by rw [ea_193, grow_ad hi_a_21]; exact ho_a_21
  have hi_a_21 : (al.1 3) < al_190.1 3 := by rw [ea_193, grow_ct]; omega
  have ho_a_51 : al_190.2 4 (al.1 4) = a_51 := by rw [ea_193, grow_ad hi_a_51]; exact ho_a_51
  have hi_a_51 : (al.1 4) < al_190.1 4 := by rw [ea_193, grow_ct]; omega
  have ho_a_61 : al_190.2 5 (al.1 5) = a_61 := by rw [ea_193, grow_ad hi_a_61]; exact ho_a_61
  have hi_a_61 : (al.1 5) < al_190.1 5 := by rw [ea_193, grow_ct]; omega
  have ho_a_71 : al_190.2 6 (al.1 6) = a_71 := by rw [ea_193, grow_ad hi_a_71]; exact ho_a_71
  have hi_a_71 : (al.1 6) < al_190.1 6 := by rw [ea_193, grow_ct]; omega
  have ho_a_81 : al_190.2 7 (al.1 7) = a_81 := by rw [ea_193, grow_ad hi_a_81]; exact ho_a_81
  have hi_a_81 : (al.1 7) < al_190.1 7 := by rw [ea_193, grow_ct]; omega
  have ho_a_91 : al_190.2 8 (al.1 8) = a_91 := by rw [ea_193, grow_ad hi_a_91]; exact ho_a_91
  have hi_a_91 : (al.1 8) < al_190.1 8 := by rw [ea_193, grow_ct]; omega
  have ho_o : al_190.2 0 i0 = o := by rw [ea_193, grow_ad hi_o]; exact ho_o
  have hi_o : i0 < al_190.1 0 := by rw [ea_193, grow_ct]; omega
  have ho_a_189 : al_190.2 17 (al.1 17) = a_189 := hn9
  have hi_a_189 : (al.1 17) < al_190.1 17 := by rw [ea_193, grow_ct, hc_196]; simp
  have hN : NN 0 i0 [18, 17, 16, 15, 14, 13, 12, 11, 10, 9, 8, 7, 4, 3, 2, 1] rv_192 := hN.keep (fun k => by rw [er_195]; exact clr_ne (fun z => absurd z.1 (by decide)))
  have hE := hE9
  have hR := hR9
  have hB := hB9
  refine W.widen (k := 17) (n := 547) (Nat.le_of_ble_eq_true rfl) (Nat.le_of_ble_eq_true rfl) ?_
  refine W.eq (g2 := F0 m 203 ls [.ref (al_190.2 17 (al.1 17)), .ref (al_190.2 0 i0)]) (by rw [ho_a_189, ho_o]) ?_
  refine q_putr (t := 0) (i := i0) (k := 19) (t' := 17) (j := (al.1 17)) C hU hS k_0 (hc := rfl) uwX12 tyX12 tyX12_ok nmX12 hi_o (by decide) rfl (Or.inr ⟨rfl, hnm, rfl⟩) rfl fl_X12_59 dX12_init_203 (fun _ => rfl) (fun _ => rfl) (fun H locs hU hS => ?_)
  have hz : sz ≤ H.size := Nat.le_trans hz0 hS.1
  obtain ⟨rv_197, er_198⟩ : ∃ z, z = up3 rv_192 0 i0 19 (some (al.1 17)) := ⟨_, rfl⟩
  rw [← er_198] at hU
  have hB : RB al_190 rv_197 := by rw [er_198]; exact hB.put rfl hi_a_189
  have hE := hE.putr (t := 0) (i := i0) (k := 19) (x := some (al.1 17)) (by decide)
  rw [← er_198] at hE
  have hN : NN 0 i0 [19, 18, 17, 16, 15, 14, 13, 12, 11, 10, 9, 8, 7, 4, 3, 2, 1] rv_197 := by rw [er_198]; exact hN.put 19 (al.1 17)
  refine lv_aload_n hx hb dX12_init_206 rfl (lv_at hl 0 rfl) ?_
  refine lv_bipush (v := 80) hx hb dX12_init_207 (by decide) ?_
  refine q_newp (t := 18) (ty := .int) C hU hS hB hz rfl (Or.inl rfl) k_18 (fun _ => rfl) ac_int (by decide) (by decide) (by decide) (Nat.le_of_ble_eq_true rfl) (Nat.le_of_ble_eq_true rfl) dX12_init_209 (fun a_199 H hU hS hz => ?_)
  have hc_206 : al_190.1 18 = al.1 18 := hE.1 18
  have hE9 := hE.new 18 a_199
  have hR9 := hR.new 18 a_199
  have hB9 := hB.new 18 a_199
  have hn9 := grow_new (al := al_190) (t := 18) (a := a_199)
  rw [hc_206] at hU hE9 hR9 hB9 hn9
  obtain ⟨al_200, ea_203⟩ : ∃ z, z = grow al_190 18 a_199 := ⟨_, rfl⟩
  obtain ⟨iv_201, ei_204⟩ : ∃ z, z = clr iv_191 18 (al.1 18) 0 := ⟨_, rfl⟩
  obtain ⟨rv_202, er_205⟩ : ∃ z, z = clr rv_197 18 (al.1 18) none := ⟨_, rfl⟩
  rw [← ea_203] at hU hE9 hR9 hB9 hn9
  rw [← ei_204] at hU hE9 hR9
  rw [← er_205] at hU hE9 hB9
  have ho_a_1 : al_200.2 1 (al.1 1) = a_1 := by rw [ea_203, grow_ad hi_a_1]; exact ho_a_1
  have hi_a_1 : (al.1 1) < al_200.1 1 := by rw [ea_203, grow_ct]; omega
  have ho_a_101 : al_200.2 9 (al.1 9) = a_101 := by rw [ea_203, grow_ad hi_a_101]; exact ho_a_101
  have hi_a_101 : (al.1 9) < al_200.1 9 := by rw [ea_203, grow_ct]; omega
  have ho_a_11 : al_200.2 2 (al.1 2) = a_11 := by rw [ea_203, grow_ad hi_a_11]; exact ho_a_11
  have hi_a_11 : (al.1 2) < al_200.1 2 := by rw [ea_203, grow_ct]; omega
  have ho_a_111 : al_200.2 10 (al.1 10) = a_111 := by rw [ea_203, grow_ad hi_a_111]; exact ho_a_111
  have hi_a_111 : (al.1 10) < al_200.1 10 := by rw [ea_203, grow_ct]; omega
  have ho_a_121 : al_200.2 11 (al.1 11) = a_121 := by rw [ea_203, grow_ad hi_a_121]; exact ho_a_121
  have hi_a_121 : (al.1 11) < al_200.1 11 := by rw [ea_203, grow_ct]; omega
  have ho_a_131 : al_200.2 12 (al.1 12) = a_131 := by rw [ea_203, grow_ad hi_a_131]; exact ho_a_131
  have hi_a_131 : (al.1 12) < al_200.1 12 := by rw [ea_203, grow_ct]; omega
  have ho_a_141 : al_200.2 13 (al.1 13) = a_141 := by rw [ea_203, grow_ad hi_a_141]; exact ho_a_141
  have hi_a_141 : (al.1 13) < al_200.1 13 := by rw [ea_203, grow_ct]; omega
  have ho_a_151 : al_200.2 14 (al.1 14) = a_151 := by rw [ea_203, grow_ad hi_a_151]; exact ho_a_151
  have hi_a_151 : (al.1 14) < al_200.1 14 := by rw [ea_203, grow_ct]; omega
  have ho_a_161 : al_200.2 15 (al.1 15) = a_161 := by rw [ea_203, grow_ad hi_a_161]; exact ho_a_161
  have hi_a_161 : (al.1 15) < al_200.1 15 := by rw [ea_203, grow_ct]; omega
  have ho_a_179 : al_200.2 16 (al.1 16) = a_179 := by rw [ea_203, grow_ad hi_a_179]; exact ho_a_179
  have hi_a_179 : (al.1 16) < al_200.1 16 := by rw [ea_203, grow_ct]; omega
  have ho_a_189 : al_200.2 17 (al.1 17) = a_189 := by rw [ea_203, grow_ad hi_a_189]; exact ho_a_189
  have hi_a_189 : (al.1 17) < al_200.1 17 := by rw [ea_203, grow_ct]; omega
  have ho_a_21 : al_200.2 3 (al.1 3) = a_21 := by rw [ea_203, grow_ad hi_a_21]; exact ho_a_21
  have hi_a_21 : (al.1 3) < al_200.1 3 := by rw [ea_203, grow_ct]; omega
  have ho_a_51 : al_200.2 4 (al.1 4) = a_51 := by rw [ea_203, grow_ad hi_a_51]; exact ho_a_51
  have hi_a_51 : (al.1 4) < al_200.1 4 := by rw [ea_203, grow_ct]; omega
  have ho_a_61 : al_200.2 5 (al.1 5) = a_61 := by rw [ea_203, grow_ad hi_a_61]; exact ho_a_61
  have hi_a_61 : (al.1 5) < al_200.1 5 := by rw [ea_203, grow_ct]; omega
  have ho_a_71 : al_200.2 6 (al.1 6) = a_71 := by rw [ea_203, grow_ad hi_a_71]; exact ho_a_71
  have hi_a_71 : (al.1 6) < al_200.1 6 := by rw [ea_203, grow_ct]; omega
  have ho_a_81 : al_200.2 7 (al.1 7) = a_81 := by rw [ea_203, grow_ad hi_a_81]; exact ho_a_81
  have hi_a_81 : (al.1 7) < al_200.1 7 := by rw [ea_203, grow_ct]; omega
  have ho_a_91 : al_200.2 8 (al.1 8) = a_91 := by rw [ea_203, grow_ad hi_a_91]; exact ho_a_91
  have hi_a_91 : (al.1 8) < al_200.1 8 := by rw [ea_203, grow_ct]; omega
  have ho_o : al_200.2 0 i0 = o := by rw [ea_203, grow_ad hi_o]; exact ho_o
  have hi_o : i0 < al_200.1 0 := by rw [ea_203, grow_ct]; omega
  have ho_a_199 : al_200.2 18 (al.1 18) = a_199 := hn9
  have hi_a_199 : (al.1 18) < al_200.1 18 := by rw [ea_203, grow_ct, hc_206]; simp
  have hN : NN 0 i0 [19, 18, 17, 16, 15, 14, 13, 12, 11, 10, 9, 8, 7, 4, 3, 2, 1] rv_202 := hN.keep (fun k => by rw [er_205]; exact clr_ne (fun z => absurd z.1 (by decide)))
  have hE := hE9
  have hR := hR9
  have hB := hB9
  refine W.widen (k := 18) (n := 627) (Nat.le_of_ble_eq_true rfl) (Nat.le_of_ble_eq_true rfl) ?_
  refine W.eq (g2 := F0 m 211 ls [.ref (al_200.2 18 (al.1 18)), .ref (al_200.2 0 i0)]) (by rw [ho_a_199, ho_o]) ?_
  refine q_putr (t := 0) (i := i0) (k := 21) (t' := 18) (j := (al.1 18)) C hU hS k_0 (hc := rfl) uwX12 tyX12 tyX12_ok nmX12 hi_o (by decide) rfl (Or.inr ⟨rfl, hnm, rfl⟩) rfl fl_X12_62 dX12_init_211 (fun _ => rfl) (fun _ => rfl) (fun H locs hU hS => ?_)
  have hz : sz ≤ H.size := Nat.le_trans hz0 hS.1
  obtain ⟨rv_207, er_208⟩ : ∃ z, z = up3 rv_202 0 i0 21 (some (al.1 18)) := ⟨_, rfl⟩
  rw [← er_208] at hU
  have hB : RB al_200 rv_207 := by rw [er_208]; exact hB.put rfl hi_a_199
  have hE := hE.putr (t := 0) (i := i0) (k := 21) (x := some (al.1 18)) (by decide)
  rw [← er_208] at hE
  have hN : NN 0 i0 [21, 19, 18, 17, 16, 15, 14, 13, 12, 11, 10, 9, 8, 7, 4, 3, 2, 1] rv_207 := by rw [er_208]; exact hN.put 21 (al.1 18)
  refine lv_aload_n hx hb dX12_init_214 rfl (lv_at hl 0 rfl) ?_
  refine lv_bipush (v := 20) hx hb dX12_init_215 (by decide) ?_
  refine q_newp (t := 19) (ty := .int) C hU hS hB hz rfl (Or.inl rfl) k_19 (fun _ => rfl) ac_int (by decide) (by decide) (by decide) (Nat.le_of_ble_eq_true rfl) (Nat.le_of_ble_eq_true rfl) dX12_init_217 (fun a_209 H hU hS hz => ?_)
  have hc_216 : al_200.1 19 = al.1 19 := hE.1 19
  have hE9 := hE.new 19 a_209
  have hR9 := hR.new 19 a_209
  have hB9 := hB.new 19 a_209
  have hn9 := grow_new (al := al_200) (t := 19) (a := a_209)
  rw [hc_216] at hU hE9 hR9 hB9 hn9
  obtain ⟨al_210, ea_213⟩ : ∃ z, z = grow al_200 19 a_209 := ⟨_, rfl⟩
  obtain ⟨iv_211, ei_214⟩ : ∃ z, z = clr iv_201 19 (al.1 19) 0 := ⟨_, rfl⟩
  obtain ⟨rv_212, er_215⟩ : ∃ z, z = clr rv_207 19 (al.1 19) none := ⟨_, rfl⟩
  rw [← ea_213] at hU hE9 hR9 hB9 hn9
  rw [← ei_214] at hU hE9 hR9
  rw [← er_215] at hU hE9 hB9
  have ho_a_1 : al_210.2 1 (al.1 1) = a_1 := by rw [ea_213, grow_ad hi_a_1]; exact ho_a_1
  have hi_a_1 : (al.1 1) < al_210.1 1 := by rw [ea_213, grow_ct]; omega
  have ho_a_101 : al_210.2 9 (al.1 9) = a_101 := by rw [ea_213, grow_ad hi_a_101]; exact ho_a_101
  have hi_a_101 : (al.1 9) < al_210.1 9 := by rw [ea_213, grow_ct]; omega
  have ho_a_11 : al_210.2 2 (al.1 2) = a_11 := by rw [ea_213, grow_ad hi_a_11]; exact ho_a_11
  have hi_a_11 : (al.1 2) < al_210.1 2 := by rw [ea_213, grow_ct]; omega
  have ho_a_111 : al_210.2 10 (al.1 10) = a_111 := by rw [ea_213, grow_ad hi_a_111]; exact ho_a_111
  have hi_a_111 : (al.1 10) < al_210.1 10 := by rw [ea_213, grow_ct]; omega
  have ho_a_121 : al_210.2 11 (al.1 11) = a_121 := by rw [ea_213, grow_ad hi_a_121]; exact ho_a_121
  have hi_a_121 : (al.1 11) < al_210.1 11 := by rw [ea_213, grow_ct]; omega
  have ho_a_131 : al_210.2 12 (al.1 12) = a_131 := by rw [ea_213, grow_ad hi_a_131]; exact ho_a_131
  have hi_a_131 : (al.1 12) < al_210.1 12 := by rw [ea_213, grow_ct]; omega
  have ho_a_141 : al_210.2 13 (al.1 13) = a_141 := by rw [ea_213, grow_ad hi_a_141]; exact ho_a_141
  have hi_a_141 : (al.1 13) < al_210.1 13 := by rw [ea_213, grow_ct]; omega
  have ho_a_151 : al_210.2 14 (al.1 14) = a_151 := by rw [ea_213, grow_ad hi_a_151]; exact ho_a_151
  have hi_a_151 : (al.1 14) < al_210.1 14 := by rw [ea_213, grow_ct]; omega
  have ho_a_161 : al_210.2 15 (al.1 15) = a_161 := by rw [ea_213, grow_ad hi_a_161]; exact ho_a_161
  have hi_a_161 : (al.1 15) < al_210.1 15 := by rw [ea_213, grow_ct]; omega
  have ho_a_179 : al_210.2 16 (al.1 16) = a_179 := by rw [ea_213, grow_ad hi_a_179]; exact ho_a_179
  have hi_a_179 : (al.1 16) < al_210.1 16 := by rw [ea_213, grow_ct]; omega
  have ho_a_189 : al_210.2 17 (al.1 17) = a_189 := by rw [ea_213, grow_ad hi_a_189]; exact ho_a_189
  have hi_a_189 : (al.1 17) < al_210.1 17 := by rw [ea_213, grow_ct]; omega
  have ho_a_199 : al_210.2 18 (al.1 18) = a_199 := by rw [ea_213, grow_ad hi_a_199]; exact ho_a_199
  have hi_a_199 : (al.1 18) < al_210.1 18 := by rw [ea_213, grow_ct]; omega
  have ho_a_21 : al_210.2 3 (al.1 3) = a_21 := by rw [ea_213, grow_ad hi_a_21]; exact ho_a_21
  have hi_a_21 : (al.1 3) < al_210.1 3 := by rw [ea_213, grow_ct]; omega
  have ho_a_51 : al_210.2 4 (al.1 4) = a_51 := by rw [ea_213, grow_ad hi_a_51]; exact ho_a_51
  have hi_a_51 : (al.1 4) < al_210.1 4 := by rw [ea_213, grow_ct]; omega
  have ho_a_61 : al_210.2 5 (al.1 5) = a_61 := by rw [ea_213, grow_ad hi_a_61]; exact ho_a_61
  have hi_a_61 : (al.1 5) < al_210.1 5 := by rw [ea_213, grow_ct]; omega
  have ho_a_71 : al_210.2 6 (al.1 6) = a_71 := by rw [ea_213, grow_ad hi_a_71]; exact ho_a_71
  have hi_a_71 : (al.1 6) < al_210.1 6 := by rw [ea_213, grow_ct]; omega
  have ho_a_81 : al_210.2 7 (al.1 7) = a_81 := by rw [ea_213, grow_ad hi_a_81]; exact ho_a_81
  have hi_a_81 : (al.1 7) < al_210.1 7 := by rw [ea_213, grow_ct]; omega
  have ho_a_91 : al_210.2 8 (al.1 8) = a_91 := by rw [ea_213, grow_ad hi_a_91]; exact ho_a_91
  have hi_a_91 : (al.1 8) < al_210.1 8 := by rw [ea_213, grow_ct]; omega
  have ho_o : al_210.2 0 i0 = o := by rw [ea_213, grow_ad hi_o]; exact ho_o
  have hi_o : i0 < al_210.1 0 := by rw [ea_213, grow_ct]; omega
  have ho_a_209 : al_210.2 19 (al.1 19) = a_209 := hn9
  have hi_a_209 : (al.1 19) < al_210.1 19 := by rw [ea_213, grow_ct, hc_216]; simp
  have hN : NN 0 i0 [21, 19, 18, 17, 16, 15, 14, 13, 12, 11, 10, 9, 8, 7, 4, 3, 2, 1] rv_212 := hN.keep (fun k => by rw [er_215]; exact clr_ne (fun z => absurd z.1 (by decide)))
  have hE := hE9
  have hR := hR9
  have hB := hB9
  refine W.widen (k := 19) (n := 647) (Nat.le_of_ble_eq_true rfl) (Nat.le_of_ble_eq_true rfl) ?_
  refine W.eq (g2 := F0 m 219 ls [.ref (al_210.2 19 (al.1 19)), .ref (al_210.2 0 i0)]) (by rw [ho_a_209, ho_o]) ?_
  refine q_putr (t := 0) (i := i0) (k := 22) (t' := 19) (j := (al.1 19)) C hU hS k_0 (hc := rfl) uwX12 tyX12 tyX12_ok nmX12 hi_o (by decide) rfl (Or.inr ⟨rfl, hnm, rfl⟩) rfl fl_X12_65 dX12_init_219 (fun _ => rfl) (fun _ => rfl) (fun H locs hU hS => ?_)
  have hz : sz ≤ H.size := Nat.le_trans hz0 hS.1
  obtain ⟨rv_217, er_218⟩ : ∃ z, z = up3 rv_212 0 i0 22 (some (al.1 19)) := ⟨_, rfl⟩
  rw [← er_218] at hU
  have hB : RB al_210 rv_217 := by rw [er_218]; exact hB.put rfl hi_a_209
  have hE := hE.putr (t := 0) (i := i0) (k := 22) (x := some (al.1 19)) (by decide)
  rw [← er_218] at hE
  have hN : NN 0 i0 [22, 21, 19, 18, 17, 16, 15, 14, 13, 12, 11, 10, 9, 8, 7, 4, 3, 2, 1] rv_217 := by rw [er_218]; exact hN.put 22 (al.1 19)
  refine lv_aload_n hx hb dX12_init_222 rfl (lv_at hl 0 rfl) ?_
  refine lv_bipush (v := 40) hx hb dX12_init_223 (by decide) ?_
  refine q_newp (t := 20) (ty := .boolean) C hU hS hB hz rfl (Or.inr rfl) k_20 (fun _ => rfl) ac_boolean (by decide) (by decide) (by decide) (Nat.le_of_ble_eq_true rfl) (Nat.le_of_ble_eq_true rfl) dX12_init_225 (fun a_219 H hU hS hz => ?_)
  have hc_226 : al_210.1 20 = al.1 20 := hE.1 20
  have hE9 := hE.new 20 a_219
  have hR9 := hR.new 20 a_219
  have hB9 := hB.new 20 a_219
  have hn9 := grow_new (al := al_210) (t := 20) (a := a_219)
  rw [hc_226] at hU hE9 hR9 hB9 hn9
  obtain ⟨al_220, ea_223⟩ : ∃ z, z = grow al_210 20 a_219 := ⟨_, rfl⟩
  obtain ⟨iv_221, ei_224⟩ : ∃ z, z = clr iv_211 20 (al.1 20) 0 := ⟨_, rfl⟩
  obtain ⟨rv_222, er_225⟩ : ∃ z, z = clr rv_217 20 (al.1 20) none := ⟨_, rfl⟩
  rw [← ea_223] at hU hE9 hR9 hB9 hn9
  rw [← ei_224] at hU hE9 hR9
  rw [← er_225] at hU hE9 hB9
  have ho_a_1 : al_220.2 1 (al.1 1) = a_1 := by rw [ea_223, grow_ad hi_a_1]; exact ho_a_1
  have hi_a_1 : (al.1 1) < al_220.1 1 := by rw [ea_223, grow_ct]; omega
  have ho_a_101 : al_220.2 9 (al.1 9) = a_101 := by rw [ea_223, grow_ad hi_a_101]; exact ho_a_101
  have hi_a_101 : (al.1 9) < al_220.1 9 := by rw [ea_223, grow_ct]; omega
  have ho_a_11 : al_220.2 2 (al.1 2) = a_11 := by rw [ea_223, grow_ad hi_a_11]; exact ho_a_11
  have hi_a_11 : (al.1 2) < al_220.1 2 := by rw [ea_223, grow_ct]; omega
  have ho_a_111 : al_220.2 10 (al.1 10) = a_111 := by rw [ea_223, grow_ad hi_a_111]; exact ho_a_111
  have hi_a_111 : (al.1 10) < al_220.1 10 := by rw [ea_223, grow_ct]; omega
  have ho_a_121 : al_220.2 11 (al.1 11) = a_121 := by rw [ea_223, grow_ad hi_a_121]; exact ho_a_121
  have hi_a_121 : (al.1 11) < al_220.1 11 := by rw [ea_223, grow_ct]; omega
  have ho_a_131 : al_220.2 12 (al.1 12) = a_131 := by rw [ea_223, grow_ad hi_a_131]; exact ho_a_131
  have hi_a_131 : (al.1 12) < al_220.1 12 := by rw [ea_223, grow_ct]; omega
  have ho_a_141 : al_220.2 13 (al.1 13) = a_141 := by rw [ea_223, grow_ad hi_a_141]; exact ho_a_141
  have hi_a_141 : (al.1 13) < al_220.1 13 := by rw [ea_223, grow_ct]; omega
  have ho_a_151 : al_220.2 14 (al.1 14) = a_151 := by rw [ea_223, grow_ad hi_a_151]; exact ho_a_151
  have hi_a_151 : (al.1 14) < al_220.1 14 := by rw [ea_223, grow_ct]; omega
  have ho_a_161 : al_220.2 15 (al.1 15) = a_161 := by rw [ea_223, grow_ad hi_a_161]; exact ho_a_161
  have hi_a_161 : (al.1 15) < al_220.1 15 := by rw [ea_223, grow_ct]; omega
  have ho_a_179 : al_220.2 16 (al.1 16) = a_179 := by rw [ea_223, grow_ad hi_a_179]; exact ho_a_179
  have hi_a_179 : (al.1 16) < al_220.1 16 := by rw [ea_223, grow_ct]; omega
  have ho_a_189 : al_220.2 17 (al.1 17) = a_189 := by rw [ea_223, grow_ad hi_a_189]; exact ho_a_189
  have hi_a_189 : (al.1 17) < al_220.1 17 := by rw [ea_223, grow_ct]; omega
  have ho_a_199 : al_220.2 18 (al.1 18) = a_199 := by rw [ea_223, grow_ad hi_a_199]; exact ho_a_199
  have hi_a_199 : (al.1 18) < al_220.1 18 := by rw [ea_223, grow_ct]; omega
  have ho_a_209 : al_220.2 19 (al.1 19) = a_209 := by rw [ea_223, grow_ad hi_a_209]; exact ho_a_209
  have hi_a_209 : (al.1 19) < al_220.1 19 := by rw [ea_223, grow_ct]; omega
  have ho_a_21 : al_220.2 3 (al.1 3) = a_21 := by rw [ea_223, grow_ad hi_a_21]; exact ho_a_21
  have hi_a_21 : (al.1 3) < al_220.1 3 := by rw [ea_223, grow_ct]; omega
  have ho_a_51 : al_220.2 4 (al.1 4) = a_51 := by rw [ea_223, grow_ad hi_a_51]; exact ho_a_51
  have hi_a_51 : (al.1 4) < al_220.1 4 := by rw [ea_223, grow_ct]; omega
  have ho_a_61 : al_220.2 5 (al.1 5) = a_61 := by rw [ea_223, grow_ad hi_a_61]; exact ho_a_61
  have hi_a_61 : (al.1 5) < al_220.1 5 := by rw [ea_223, grow_ct]; omega
  have ho_a_71 : al_220.2 6 (al.1 6) = a_71 := by rw [ea_223, grow_ad hi_a_71]; exact ho_a_71
  have hi_a_71 : (al.1 6) < al_220.1 6 := by rw [ea_223, grow_ct]; omega
  have ho_a_81 : al_220.2 7 (al.1 7) = a_81 := by rw [ea_223, grow_ad hi_a_81]; exact ho_a_81
  have hi_a_81 : (al.1 7) < al_220.1 7 := by rw [ea_223, grow_ct]; omega
  have ho_a_91 : al_220.2 8 (al.1 8) = a_91 := by rw [ea_223, grow_ad hi_a_91]; exact ho_a_91
  have hi_a_91 : (al.1 8) < al_220.1 8 := by rw [ea_223, grow_ct]; omega
  have ho_o : al_220.2 0 i0 = o := by rw [ea_223, grow_ad hi_o]; exact ho_o
  have hi_o : i0 < al_220.1 0 := by rw [ea_223, grow_ct]; omega
  have ho_a_219 : al_220.2 20 (al.1 20) = a_219 := hn9
  have hi_a_219 : (al.1 20) < al_220.1 20 := by rw [ea_223, grow_ct, hc_226]; simp
  have hN : NN 0 i0 [22, 21, 19, 18, 17, 16, 15, 14, 13, 12, 11, 10, 9, 8, 7, 4, 3, 2, 1] rv_222 := hN.keep (fun k => by rw [er_225]; exact clr_ne (fun z => absurd z.1 (by decide)))
  have hE := hE9
  have hR := hR9
  have hB := hB9
  refine W.widen (k := 20) (n := 687) (Nat.le_of_ble_eq_true rfl) (Nat.le_of_ble_eq_true rfl) ?_
  refine W.eq (g2 := F0 m 227 ls [.ref (al_220.2 20 (al.1 20)), .ref (al_220.2 0 i0)]) (by rw [ho_a_219, ho_o]) ?_
  refine q_putr (t := 0) (i := i0) (k := 23) (t' := 20) (j := (al.1 20)) C hU hS k_0 (hc := rfl) uwX12 tyX12 tyX12_ok nmX12 hi_o (by decide) rfl (Or.inr ⟨rfl, hnm, rfl⟩) rfl fl_X12_68 dX12_init_227 (fun _ => rfl) (fun _ => rfl) (fun H locs hU hS => ?_)
  have hz : sz ≤ H.size := Nat.le_trans hz0 hS.1
  obtain ⟨rv_227, er_228⟩ : ∃ z, z = up3 rv_222 0 i0 23 (some (al.1 20)) := ⟨_, rfl⟩
  rw [← er_228] at hU
  have hB : RB al_220 rv_227 := by rw [er_228]; exact hB.put rfl hi_a_219
  have hE := hE.putr (t := 0) (i := i0) (k := 23) (x := some (al.1 20)) (by decide)
  rw [← er_228] at hE
  have hN : NN 0 i0 [23, 22, 21, 19, 18, 17, 16, 15, 14, 13, 12, 11, 10, 9, 8, 7, 4, 3, 2, 1] rv_227 := by rw [er_228]; exact hN.put 23 (al.1 20)
  refine lv_aload_n hx hb dX12_init_230 rfl (lv_at hl 0 rfl) ?_
  refine lv_bipush (v := 30) hx hb dX12_init_231 (by decide) ?_
  refine q_newp (t := 21) (ty := .int) C hU hS hB hz rfl (Or.inl rfl) k_21 (fun _ => rfl) ac_int (by decide) (by decide) (by decide) (Nat.le_of_ble_eq_true rfl) (Nat.le_of_ble_eq_true rfl) dX12_init_233 (fun a_229 H hU hS hz => ?_)
  have hc_236 : al_220.1 21 = al.1 21 := hE.1 21
  have hE9 := hE.new 21 a_229
  have hR9 := hR.new 21 a_229
  have hB9 := hB.new 21 a_229
  have hn9 := grow_new (al := al_220) (t := 21) (a := a_229)
  rw [hc_236] at hU hE9 hR9 hB9 hn9
  obtain ⟨al_230, ea_233⟩ : ∃ z, z = grow al_220 21 a_229 := ⟨_, rfl⟩
  obtain ⟨iv_231, ei_234⟩ : ∃ z, z = clr iv_221 21 (al.1 21) 0 := ⟨_, rfl⟩
  obtain ⟨rv_232, er_235⟩ : ∃ z, z = clr rv_227 21 (al.1 21) none := ⟨_, rfl⟩
  rw [← ea_233] at hU hE9 hR9 hB9 hn9
  rw [← ei_234] at hU hE9 hR9
  rw [← er_235] at hU hE9 hB9
  have ho_a_1 : al_230.2 1 (al.1 1) = a_1 := by rw [ea_233, grow_ad hi_a_1]; exact ho_a_1
  have hi_a_1 : (al.1 1) < al_230.1 1 := by rw [ea_233, grow_ct]; omega
  have ho_a_101 : al_230.2 9 (al.1 9) = a_101 := by rw [ea_233, grow_ad hi_a_101]; exact ho_a_101
  have hi_a_101 : (al.1 9) < al_230.1 9 := by rw [ea_233, grow_ct]; omega
  have ho_a_11 : al_230.2 2 (al.1 2) = a_11 := by rw [ea_233, grow_ad hi_a_11]; exact ho_a_11
  have hi_a_11 : (al.1 2) < al_230.1 2 := by rw [ea_233, grow_ct]; omega
  have ho_a_111 : al_230.2 10 (al.1 10) = a_111 := by rw [ea_233, grow_ad hi_a_111]; exact ho_a_111
  have hi_a_111 : (al.1 10) < al_230.1 10 := by rw [ea_233, grow_ct]; omega
  have ho_a_121 : al_230.2 11 (al.1 11) = a_121 := by rw [ea_233, grow_ad hi_a_121]; exact ho_a_121
  have hi_a_121 : (al.1 11) < al_230.1 11 := by rw [ea_233, grow_ct]; omega
  have ho_a_131 : al_230.2 12 (al.1 12) = a_131 := by rw [ea_233, grow_ad hi_a_131]; exact ho_a_131
  have hi_a_131 : (al.1 12) < al_230.1 12 := by rw [ea_233, grow_ct]; omega
  have ho_a_141 : al_230.2 13 (al.1 13) = a_141 := by rw [ea_233, grow_ad hi_a_141]; exact ho_a_141
  have hi_a_141 : (al.1 13) < al_230.1 13 := by rw [ea_233, grow_ct]; omega
  have ho_a_151 : al_230.2 14 (al.1 14) = a_151 := by rw [ea_233, grow_ad hi_a_151]; exact ho_a_151
  have hi_a_151 : (al.1 14) < al_230.1 14 := by rw [ea_233, grow_ct]; omega
  have ho_a_161 : al_230.2 15 (al.1 15) = a_161 := by rw [ea_233, grow_ad hi_a_161]; exact ho_a_161
  have hi_a_161 : (al.1 15) < al_230.1 15 := by rw [ea_233, grow_ct]; omega
  have ho_a_179 : al_230.2 16 (al.1 16) = a_179 := by rw [ea_233, grow_ad hi_a_179]; exact ho_a_179
  have hi_a_179 : (al.1 16) < al_230.1 16 := by rw [ea_233, grow_ct]; omega
  have ho_a_189 : al_230.2 17 (al.1 17) = a_189 := by rw [ea_233, grow_ad hi_a_189]; exact ho_a_189
  have hi_a_189 : (al.1 17) < al_230.1 17 := by rw [ea_233, grow_ct]; omega
  have ho_a_199 : al_230.2 18 (al.1 18) = a_199 := by rw [ea_233, grow_ad hi_a_199]; exact ho_a_199
  have hi_a_199 : (al.1 18) < al_230.1 18 := by rw [ea_233, grow_ct]; omega
  have ho_a_209 : al_230.2 19 (al.1 19) = a_209 := by rw [ea_233, grow_ad hi_a_209]; exact ho_a_209
  have hi_a_209 : (al.1 19) < al_230.1 19 := by rw [ea_233, grow_ct]; omega
  have ho_a_21 : al_230.2 3 (al.1 3) = a_21 := by rw [ea_233, grow_ad hi_a_21]; exact ho_a_21
  have hi_a_21 : (al.1 3) < al_230.1 3 := by rw [ea_233, grow_ct]; omega
  have ho_a_219 : al_230.2 20 (al.1 20) = a_219 := by rw [ea_233, grow_ad hi_a_219]; exact ho_a_219
  have hi_a_219 : (al.1 20) < al_230.1 20 := by rw [ea_233, grow_ct]; omega
  have ho_a_51 : al_230.2 4 (al.1 4) = a_51 := by rw [ea_233, grow_ad hi_a_51]; exact ho_a_51
  have hi_a_51 : (al.1 4) < al_230.1 4 := by rw [ea_233, grow_ct]; omega
  have ho_a_61 : al_230.2 5 (al.1 5) = a_61 := by rw [ea_233, grow_ad hi_a_61]; exact ho_a_61
  have hi_a_61 : (al.1 5) < al_230.1 5 := by rw [ea_233, grow_ct]; omega
  have ho_a_71 : al_230.2 6 (al.1 6) = a_71 := by rw [ea_233, grow_ad hi_a_71]; exact ho_a_71
  have hi_a_71 : (al.1 6) < al_230.1 6 := by rw [ea_233, grow_ct]; omega
  have ho_a_81 : al_230.2 7 (al.1 7) = a_81 := by rw [ea_233, grow_ad hi_a_81]; exact ho_a_81
  have hi_a_81 : (al.1 7) < al_230.1 7 := by rw [ea_233, grow_ct]; omega
  have ho_a_91 : al_230.2 8 (al.1 8) = a_91 := by rw [ea_233, grow_ad hi_a_91]; exact ho_a_91
  have hi_a_91 : (al.1 8) < al_230.1 8 := by rw [ea_233, grow_ct]; omega
  have ho_o : al_230.2 0 i0 = o := by rw [ea_233, grow_ad hi_o]; exact ho_o
  have hi_o : i0 < al_230.1 0 := by rw [ea_233, grow_ct]; omega
  have ho_a_229 : al_230.2 21 (al.1 21) = a_229 := hn9
  have hi_a_229 : (al.1 21) < al_230.1 21 := by rw [ea_233, grow_ct, hc_236]; simp
  have hN : NN 0 i0 [23, 22, 21, 19, 18, 17, 16, 15, 14, 13, 12, 11, 10, 9, 8, 7, 4, 3, 2, 1] rv_232 := hN.keep (fun k => by rw [er_235]; exact clr_ne (fun z => absurd z.1 (by decide)))
  have hE := hE9
  have hR := hR9
  have hB := hB9
  refine W.widen (k := 21) (n := 717) (Nat.le_of_ble_eq_true rfl) (Nat.le_of_ble_eq_true rfl) ?_
  refine W.eq (g2 := F0 m 235 ls [.ref (al_230.2 21 (al.1 21)), .ref (al_230.2 0 i0)]) (by rw [ho_a_229, ho_o]) ?_
  refine q_putr (t := 0) (i := i0) (k := 25) (t' := 21) (j := (al.1 21)) C hU hS k_0 (hc := rfl) uwX12 tyX12 tyX12_ok nmX12 hi_o (by decide) rfl (Or.inr ⟨rfl, hnm, rfl⟩) rfl fl_X12_71 dX12_init_235 (fun _ => rfl) (fun _ => rfl) (fun H locs hU hS => ?_)
  have hz : sz ≤ H.size := Nat.le_trans hz0 hS.1
  obtain ⟨rv_237, er_238⟩ : ∃ z, z = up3 rv_232 0 i0 25 (some (al.1 21)) := ⟨_, rfl⟩
  rw [← er_238] at hU
  have hB : RB al_230 rv_237 := by rw [er_238]; exact hB.put rfl hi_a_229
  have hE := hE.putr (t := 0) (i := i0) (k := 25) (x := some (al.1 21)) (by decide)
  rw [← er_238] at hE
  have hN : NN 0 i0 [25, 23, 22, 21, 19, 18, 17, 16, 15, 14, 13, 12, 11, 10, 9, 8, 7, 4, 3, 2, 1] rv_237 := by rw [er_238]; exact hN.put 25 (al.1 21)
  refine lv_aload_n hx hb dX12_init_238 rfl (lv_at hl 0 rfl) ?_
  refine lv_bipush (v := 30) hx hb dX12_init_239 (by decide) ?_
  refine q_newp (t := 22) (ty := .int) C hU hS hB hz rfl (Or.inl rfl) k_22 (fun _ => rfl) ac_int (by decide) (by decide) (by decide) (Nat.le_of_ble_eq_true rfl) (Nat.le_of_ble_eq_true rfl) dX12_init_241 (fun a_239 H hU hS hz => ?_)
  have hc_246 : al_230.1 22 = al.1 22 := hE.1 22
  have hE9 := hE.new 22 a_239
  have hR9 := hR.new 22 a_239
  have hB9 := hB.new 22 a_239
  have hn9 := grow_new (al := al_230) (t := 22) (a := a_239)
  rw [hc_246] at hU hE9 hR9 hB9 hn9
  obtain ⟨al_240, ea_243⟩ : ∃ z, z = grow al_230 22 a_239 := ⟨_, rfl⟩
  obtain ⟨iv_241, ei_244⟩ : ∃ z, z = clr iv_231 22 (al.1 22) 0 := ⟨_, rfl⟩
  obtain ⟨rv_242, er_245⟩ : ∃ z, z = clr rv_237 22 (al.1 22) none := ⟨_, rfl⟩
  rw [← ea_243] at hU hE9 hR9 hB9 hn9
  rw [← ei_244] at hU hE9 hR9
  rw [← er_245] at hU hE9 hB9
  have ho_a_1 : al_240.2 1 (al.1 1) = a_1 := by rw [ea_243, grow_ad hi_a_1]; exact ho_a_1
  have hi_a_1 : (al.1 1) < al_240.1 1 := by rw [ea_243, grow_ct]; omega
  have ho_a_101 : al_240.2 9 (al.1 9) = a_101 := by rw [ea_243, grow_ad hi_a_101]; exact ho_a_101
  have hi_a_101 : (al.1 9) < al_240.1 9 := by rw [ea_243, grow_ct]; omega
  have ho_a_11 : al_240.2 2 (al.1 2) = a_11 := by rw [ea_243, grow_ad hi_a_11]; exact ho_a_11
  have hi_a_11 : (al.1 2) < al_240.1 2 := by rw [ea_243, grow_ct]; omega
  have ho_a_111 : al_240.2 10 (al.1 10) = a_111 := by rw [ea_243, grow_ad hi_a_111]; exact ho_a_111
  have hi_a_111 : (al.1 10) < al_240.1 10 := by rw [ea_243, grow_ct]; omega
  have ho_a_121 : al_240.2 11 (al.1 11) = a_121 := by rw [ea_243, grow_ad hi_a_121]; exact ho_a_121
  have hi_a_121 : (al.1 11) < al_240.1 11 := by rw [ea_243, grow_ct]; omega
  have ho_a_131 : al_240.2 12 (al.1 12) = a_131 := by rw [ea_243, grow_ad hi_a_131]; exact ho_a_131
  have hi_a_131 : (al.1 12) < al_240.1 12 := by rw [ea_243, grow_ct]; omega
  have ho_a_141 : al_240.2 13 (al.1 13) = a_141 := by rw [ea_243, grow_ad hi_a_141]; exact ho_a_141
  have hi_a_141 : (al.1 13) < al_240.1 13 := by rw [ea_243, grow_ct]; omega
  have ho_a_151 : al_240.2 14 (al.1 14) = a_151 := by rw [ea_243, grow_ad hi_a_151]; exact ho_a_151
  have hi_a_151 : (al.1 14) < al_240.1 14 := by rw [ea_243, grow_ct]; omega
  have ho_a_161 : al_240.2 15 (al.1 15) = a_161 := by rw [ea_243, grow_ad hi_a_161]; exact ho_a_161
  have hi_a_161 : (al.1 15) < al_240.1 15 := by rw [ea_243, grow_ct]; omega
  have ho_a_179 : al_240.2 16 (al.1 16) = a_179 := by rw [ea_243, grow_ad hi_a_179]; exact ho_a_179
  have hi_a_179 : (al.1 16) < al_240.1 16 := by rw [ea_243, grow_ct]; omega
  have ho_a_189 : al_240.2 17 (al.1 17) = a_189 := by rw [ea_243, grow_ad hi_a_189]; exact ho_a_189
  have hi_a_189 : (al.1 17) < al_240.1 17 := by rw [ea_243, grow_ct]; omega
  have ho_a_199 : al_240.2 18 (al.1 18) = a_199 := by rw [ea_243, grow_ad hi_a_199]; exact ho_a_199
  have hi_a_199 : (al.1 18) < al_240.1 18 := by rw [ea_243, grow_ct]; omega
  have ho_a_209 : al_240.2 19 (al.1 19) = a_209 := by rw [ea_243, grow_ad hi_a_209]; exact ho_a_209
  have hi_a_209 : (al.1 19) < al_240.1 19 := by rw [ea_243, grow_ct]; omega
  have ho_a_21 : al_240.2 3 (al.1 3) = a_21 := by rw [ea_243, grow_ad hi_a_21]; exact ho_a_21
  have hi_a_21 : (al.1 3) < al_240.1 3 := by rw [ea_243, grow_ct]; omega
  have ho_a_219 : al_240.2 20 (al.1 20) = a_219 := by rw [ea_243, grow_ad hi_a_219]; exact ho_a_219
  have hi_a_219 : (al.1 20) < al_240.1 20 := by rw [ea_243, grow_ct]; omega
  have ho_a_229 : al_240.2 21 (al.1 21) = a_229 := by rw [ea_243, grow_ad hi_a_229]; exact ho_a_229
  have hi_a_229 : (al.1 21) < al_240.1 21 := by rw [ea_243, grow_ct]; omega
  have ho_a_51 : al_240.2 4 (al.1 4) = a_51 := by rw [ea_243, grow_ad hi_a_51]; exact ho_a_51
  have hi_a_51 : (al.1 4) < al_240.1 4 := by rw [ea_243, grow_ct]; omega
  have ho_a_61 : al_240.2 5 (al.1 5) = a_61 := by rw [ea_243, grow_ad hi_a_61]; exact ho_a_61
  have hi_a_61 : (al.1 5) < al_240.1 5 := by rw [ea_243, grow_ct]; omega
  have ho_a_71 : al_240.2 6 (al.1 6) = a_71 := by rw [ea_243, grow_ad hi_a_71]; exact ho_a_71
  have hi_a_71 : (al.1 6) < al_240.1 6 := by rw [ea_243, grow_ct]; omega
  have ho_a_81 : al_240.2 7 (al.1 7) = a_81 := by rw [ea_243, grow_ad hi_a_81]; exact ho_a_81
  have hi_a_81 : (al.1 7) < al_240.1 7 := by rw [ea_243, grow_ct]; omega
  have ho_a_91 : al_240.2 8 (al.1 8) = a_91 := by rw [ea_243, grow_ad hi_a_91]; exact ho_a_91
  have hi_a_91 : (al.1 8) < al_240.1 8 := by rw [ea_243, grow_ct]; omega
  have ho_o : al_240.2 0 i0 = o := by rw [ea_243, grow_ad hi_o]; exact ho_o
  have hi_o : i0 < al_240.1 0 := by rw [ea_243, grow_ct]; omega
  have ho_a_239 : al_240.2 22 (al.1 22) = a_239 := hn9
  have hi_a_239 : (al.1 22) < al_240.1 22 := by rw [ea_243, grow_ct, hc_246]; simp
  have hN : NN 0 i0 [25, 23, 22, 21, 19, 18, 17, 16, 15, 14, 13, 12, 11, 10, 9, 8, 7, 4, 3, 2, 1] rv_242 := hN.keep (fun k => by rw [er_245]; exact clr_ne (fun z => absurd z.1 (by decide)))
  have hE := hE9
  have hR := hR9
  have hB := hB9
  refine W.widen (k := 22) (n := 747) (Nat.le_of_ble_eq_true rfl) (Nat.le_of_ble_eq_true rfl) ?_
  refine W.eq (g2 := F0 m 243 ls [.ref (al_240.2 22 (al.1 22)), .ref (al_240.2 0 i0)]) (by rw [ho_a_239, ho_o]) ?_
  refine q_putr (t := 0) (i := i0) (k := 26) (t' := 22) (j := (al.1 22)) C hU hS k_0 (hc := rfl) uwX12 tyX12 tyX12_ok nmX12 hi_o (by decide) rfl (Or.inr ⟨rfl, hnm, rfl⟩) rfl fl_X12_74 dX12_init_243 (fun _ => rfl) (fun _ => rfl) (fun H locs hU hS => ?_)
  have hz : sz ≤ H.size := Nat.le_trans hz0 hS.1
  obtain ⟨rv_247, er_248⟩ : ∃ z, z = up3 rv_242 0 i0 26 (some (al.1 22)) := ⟨_, rfl⟩
  rw [← er_248] at hU
  have hB : RB al_240 rv_247 := by rw [er_248]; exact hB.put rfl hi_a_239
  have hE := hE.putr (t := 0) (i := i0) (k := 26) (x := some (al.1 22)) (by decide)
  rw [← er_248] at hE
  have hN : NN 0 i0 [26, 25, 23, 22, 21, 19, 18, 17, 16, 15, 14, 13, 12, 11, 10, 9, 8, 7, 4, 3, 2, 1] rv_247 := by rw [er_248]; exact hN.put 26 (al.1 22)
  refine lv_aload_n hx hb dX12_init_246 rfl (lv_at hl 0 rfl) ?_
  refine lv_bipush (v := 30) hx hb dX12_init_247 (by decide) ?_
  refine q_newp (t := 23) (ty := .int) C hU hS hB hz rfl (Or.inl rfl) k_23 (fun _ => rfl) ac_int (by decide) (by decide) (by decide) (Nat.le_of_ble_eq_true rfl) (Nat.le_of_ble_eq_true rfl) dX12_init_249 (fun a_249 H hU hS hz => ?_)
  have hc_256 : al_240.1 23 = al.1 23 := hE.1 23
  have hE9 := hE.new 23 a_249
  have hR9 := hR.new 23 a_249
  have hB9 := hB.new 23 a_249
  have hn9 := grow_new (al := al_240) (t := 23) (a := a_249)
  rw [hc_256] at hU hE9 hR9 hB9 hn9
  obtain ⟨al_250, ea_253⟩ : ∃ z, z = grow al_240 23 a_249 := ⟨_, rfl⟩
  obtain ⟨iv_251, ei_254⟩ : ∃ z, z = clr iv_241 23 (al.1 23) 0 := ⟨_, rfl⟩
  obtain ⟨rv_252, er_255⟩ : ∃ z, z = clr rv_247 23 (al.1 23) none := ⟨_, rfl⟩
  rw [← ea_253] at hU hE9 hR9 hB9 hn9
  rw [← ei_254] at hU hE9 hR9
  rw [← er_255] at hU hE9 hB9
  have ho_a_1 : al_250.2 1 (al.1 1) = a_1 := by rw [ea_253, grow_ad hi_a_1]; exact ho_a_1
  have hi_a_1 : (al.1 1) < al_250.1 1 := by rw [ea_253, grow_ct]; omega
  have ho_a_101 : al_250.2 9 (al.1 9) = a_101 := by rw [ea_253, grow_ad hi_a_101]; exact ho_a_101
  have hi_a_101 : (al.1 9) < al_250.1 9 := by rw [ea_253, grow_ct]; omega
  have ho_a_11 : al_250.2 2 (al.1 2) = a_11 := by rw [ea_253, grow_ad hi_a_11]; exact ho_a_11
  have hi_a_11 : (al.1 2) < al_250.1 2 := by rw [ea_253, grow_ct]; omega
  have ho_a_111 : al_250.2 10 (al.1 10) = a_111 := by rw [ea_253, grow_ad hi_a_111]; exact ho_a_111
  have hi_a_111 : (al.1 10) < al_250.1 10 := by rw [ea_253, grow_ct]; omega
  have ho_a_121 : al_250.2 11 (al.1 11) = a_121 := by rw [ea_253, grow_ad hi_a_121]; exact ho_a_121
  have hi_a_121 : (al.1 11) < al_250.1 11 := by rw [ea_253, grow_ct]; omega
  have ho_a_131 : al_250.2 12 (al.1 12) = a_131 := by rw [ea_253, grow_ad hi_a_131]; exact ho_a_131
  have hi_a_131 : (al.1 12) < al_250.1 12 := by rw [ea_253, grow_ct]; omega
  have ho_a_141 : al_250.2 13 (al.1 13) = a_141 := by rw [ea_253, grow_ad hi_a_141]; exact ho_a_141
  have hi_a_141 : (al.1 13) < al_250.1 13 := by rw [ea_253, grow_ct]; omega
  have ho_a_151 : al_250.2 14 (al.1 14) = a_151 := by rw [ea_253, grow_ad hi_a_151]; exact ho_a_151
  have hi_a_151 : (al.1 14) < al_250.1 14 := by rw [ea_253, grow_ct]; omega
  have ho_a_161 : al_250.2 15 (al.1 15) = a_161 := by rw [ea_253, grow_ad hi_a_161]; exact ho_a_161
  have hi_a_161 : (al.1 15) < al_250.1 15 := by rw [ea_253, grow_ct]; omega
  have ho_a_179 : al_250.2 16 (al.1 16) = a_179 := by rw [ea_253, grow_ad hi_a_179]; exact ho_a_179
  have hi_a_179 : (al.1 16) < al_250.1 16 := by rw [ea_253, grow_ct]; omega
  have ho_a_189 : al_250.2 17 (al.1 17) = a_189 := by rw [ea_253, grow_ad hi_a_189]; exact ho_a_189
  have hi_a_189 : (al.1 17) < al_250.1 17 := by rw [ea_253, grow_ct]; omega
  have ho_a_199 : al_250.2 18 (al.1 18) = a_199 := by rw [ea_253, grow_ad hi_a_199]; exact ho_a_199
  have hi_a_199 : (al.1 18) < al_250.1 18 := by rw [ea_253, grow_ct]; omega
  have ho_a_209 : al_250.2 19 (al.1 19) = a_209 := by rw [ea_253, grow_ad hi_a_209]; exact ho_a_209
  have hi_a_209 : (al.1 19) < al_250.1 19 := by rw [ea_253, grow_ct]; omega
  have ho_a_21 : al_250.2 3 (al.1 3) = a_21 := by rw [ea_253, grow_ad hi_a_21]; exact ho_a_21
  have hi_a_21 : (al.1 3) < al_250.1 3 := by rw [ea_253, grow_ct]; omega
  have ho_a_219 : al_250.2 20 (al.1 20) = a_219 := by rw [ea_253, grow_ad hi_a_219]; exact ho_a_219
  have hi_a_219 : (al.1 20) < al_250.1 20 := by rw [ea_253, grow_ct]; omega
  have ho_a_229 : al_250.2 21 (al.1 21) = a_229 := by rw [ea_253, grow_ad hi_a_229]; exact ho_a_229
  have hi_a_229 : (al.1 21) < al_250.1 21 := by rw [ea_253, grow_ct]; omega
  have ho_a_239 : al_250.2 22 (al.1 22) = a_239 := by rw [ea_253, grow_ad hi_a_239]; exact ho_a_239
  have hi_a_239 : (al.1 22) < al_250.1 22 := by rw [ea_253, grow_ct]; omega
  have ho_a_51 : al_250.2 4 (al.1 4) = a_51 := by rw [ea_253, grow_ad hi_a_51]; exact ho_a_51
  have hi_a_51 : (al.1 4) < al_250.1 4 := by rw [ea_253, grow_ct]; omega
  have ho_a_61 : al_250.2 5 (al.1 5) = a_61 := by rw [ea_253, grow_ad hi_a_61]; exact ho_a_61
  have hi_a_61 : (al.1 5) < al_250.1 5 := by rw [ea_253, grow_ct]; omega
  have ho_a_71 : al_250.2 6 (al.1 6) = a_71 := by rw [ea_253, grow_ad hi_a_71]; exact ho_a_71
  have hi_a_71 : (al.1 6) < al_250.1 6 := by rw [ea_253, grow_ct]; omega
  have ho_a_81 : al_250.2 7 (al.1 7) = a_81 := by rw [ea_253, grow_ad hi_a_81]; exact ho_a_81
  have hi_a_81 : (al.1 7) < al_250.1 7 := by rw [ea_253, grow_ct]; omega
  have ho_a_91 : al_250.2 8 (al.1 8) = a_91 := by rw [ea_253, grow_ad hi_a_91]; exact ho_a_91
  have hi_a_91 : (al.1 8) < al_250.1 8 := by rw [ea_253, grow_ct]; omega
  have ho_o : al_250.2 0 i0 = o := by rw [ea_253, grow_ad hi_o]; exact ho_o
  have hi_o : i0 < al_250.1 0 := by rw [ea_253, grow_ct]; omega
  have ho_a_249 : al_250.2 23 (al.1 23) = a_249 := hn9
  have hi_a_249 : (al.1 23) < al_250.1 23 := by rw [ea_253, grow_ct, hc_256]; simp
  have hN : NN 0 i0 [26, 25, 23, 22, 21, 19, 18, 17, 16, 15, 14, 13, 12, 11, 10, 9, 8, 7, 4, 3, 2, 1] rv_252 := hN.keep (fun k => by rw [er_255]; exact clr_ne (fun z => absurd z.1 (by decide)))
  have hE := hE9
  have hR := hR9
  have hB := hB9
  refine W.widen (k := 23) (n := 777) (Nat.le_of_ble_eq_true rfl) (Nat.le_of_ble_eq_true rfl) ?_
  refine W.eq (g2 := F0 m 251 ls [.ref (al_250.2 23 (al.1 23)), .ref (al_250.2 0 i0)]) (by rw [ho_a_249, ho_o]) ?_
  refine q_putr (t := 0) (i := i0) (k := 27) (t' := 23) (j := (al.1 23)) C hU hS k_0 (hc := rfl) uwX12 tyX12 tyX12_ok nmX12 hi_o (by decide) rfl (Or.inr ⟨rfl, hnm, rfl⟩) rfl fl_X12_77 dX12_init_251 (fun _ => rfl) (fun _ => rfl) (fun H locs hU hS => ?_)
  have hz : sz ≤ H.size := Nat.le_trans hz0 hS.1
  obtain ⟨rv_257, er_258⟩ : ∃ z, z = up3 rv_252 0 i0 27 (some (al.1 23)) := ⟨_, rfl⟩
  rw [← er_258] at hU
  have hB : RB al_250 rv_257 := by rw [er_258]; exact hB.put rfl hi_a_249
  have hE := hE.putr (t := 0) (i := i0) (k := 27) (x := some (al.1 23)) (by decide)
  rw [← er_258] at hE
  have hN : NN 0 i0 [27, 26, 25, 23, 22, 21, 19, 18, 17, 16, 15, 14, 13, 12, 11, 10, 9, 8, 7, 4, 3, 2, 1] rv_257 := by rw [er_258]; exact hN.put 27 (al.1 23)
  refine lv_aload_n hx hb dX12_init_254 rfl (lv_at hl 0 rfl) ?_
  refine lv_bipush (v := 30) hx hb dX12_init_255 (by decide) ?_
  refine q_newp (t := 24) (ty := .int) C hU hS hB hz rfl (Or.inl rfl) k_24 (fun _ => rfl) ac_int (by decide) (by decide) (by decide) (Nat.le_of_ble_eq_true rfl) (Nat.le_of_ble_eq_true rfl) dX12_init_257 (fun a_259 H hU hS hz => ?_)
  have hc_266 : al_250.1 24 = al.1 24 := hE.1 24
  have hE9 := hE.new 24 a_259
  have hR9 := hR.new 24 a_259
  have hB9 := hB.new 24 a_259
  have hn9 := grow_new (al := al_250) (t := 24) (a := a_259)
  rw [hc_266] at hU hE9 hR9 hB9 hn9
  obtain ⟨al_260, ea_263⟩ : ∃ z, z = grow al_250 24 a_259 := ⟨_, rfl⟩
  obtain ⟨iv_261, ei_264⟩ : ∃ z, z = clr iv_251 24 (al.1 24) 0 := ⟨_, rfl⟩
  obtain ⟨rv_262, er_265⟩ : ∃ z, z = clr rv_257 24 (al.1 24) none := ⟨_, rfl⟩
  rw [← ea_263] at hU hE9 hR9 hB9 hn9
  rw [← ei_264] at hU hE9 hR9
  rw [← er_265] at hU hE9 hB9
  have ho_a_1 : al_260.2 1 (al.1 1) = a_1 := by rw [ea_263, grow_ad hi_a_1]; exact ho_a_1
  have hi_a_1 : (al.1 1) < al_260.1 1 := by rw [ea_263, grow_ct]; omega
  have ho_a_101 : al_260.2 9 (al.1 9) = a_101 := by rw [ea_263, grow_ad hi_a_101]; exact ho_a_101
  have hi_a_101 : (al.1 9) < al_260.1 9 := by rw [ea_263, grow_ct]; omega
  have ho_a_11 : al_260.2 2 (al.1 2) = a_11 := by rw [ea_263, grow_ad hi_a_11]; exact ho_a_11
  have hi_a_11 : (al.1 2) < al_260.1 2 := by rw [ea_263, grow_ct]; omega
  have ho_a_111 : al_260.2 10 (al.1 10) = a_111 := by rw [ea_263, grow_ad hi_a_111]; exact ho_a_111
  have hi_a_111 : (al.1 10) < al_260.1 10 := by rw [ea_263, grow_ct]; omega
  have ho_a_121 : al_260.2 11 (al.1 11) = a_121 := by rw [ea_263, grow_ad hi_a_121]; exact ho_a_121
  have hi_a_121 : (al.1 11) < al_260.1 11 := by rw [ea_263, grow_ct]; omega
  have ho_a_131 : al_260.2 12 (al.1 12) = a_131 := by rw [ea_263, grow_ad hi_a_131]; exact ho_a_131
  have hi_a_131 : (al.1 12) < al_260.1 12 := by rw [ea_263, grow_ct]; omega
  have ho_a_141 : al_260.2 13 (al.1 13) = a_141 := by rw [ea_263, grow_ad hi_a_141]; exact ho_a_141
  have hi_a_141 : (al.1 13) < al_260.1 13 := by rw [ea_263, grow_ct]; omega
  have ho_a_151 : al_260.2 14 (al.1 14) = a_151 := by rw [ea_263, grow_ad hi_a_151]; exact ho_a_151
  have hi_a_151 : (al.1 14) < al_260.1 14 := by rw [ea_263, grow_ct]; omega
  have ho_a_161 : al_260.2 15 (al.1 15) = a_161 := by rw [ea_263, grow_ad hi_a_161]; exact ho_a_161
  have hi_a_161 : (al.1 15) < al_260.1 15 := by rw [ea_263, grow_ct]; omega
  have ho_a_179 : al_260.2 16 (al.1 16) = a_179 := by rw [ea_263, grow_ad hi_a_179]; exact ho_a_179
  have hi_a_179 : (al.1 16) < al_260.1 16 := by rw [ea_263, grow_ct]; omega
  have ho_a_189 : al_260.2 17 (al.1 17) = a_189 := by rw [ea_263, grow_ad hi_a_189]; exact ho_a_189
  have hi_a_189 : (al.1 17) < al_260.1 17 := by rw [ea_263, grow_ct]; omega
  have ho_a_199 : al_260.2 18 (al.1 18) = a_199 := by rw [ea_263, grow_ad hi_a_199]; exact ho_a_199
  have hi_a_199 : (al.1 18) < al_260.1 18 := by rw [ea_263, grow_ct]; omega
  have ho_a_209 : al_260.2 19 (al.1 19) = a_209 := by rw [ea_263, grow_ad hi_a_209]; exact ho_a_209
  have hi_a_209 : (al.1 19) < al_260.1 19 := by rw [ea_263, grow_ct]; omega
  have ho_a_21 : al_260.2 3 (al.1 3) = a_21 := by rw [ea_263, grow_ad hi_a_21]; exact ho_a_21
  have hi_a_21 : (al.1 3) < al_260.1 3 := by rw [ea_263, grow_ct]; omega
  have ho_a_219 : al_260.2 20 (al.1 20) = a_219 := by rw [ea_263, grow_ad hi_a_219]; exact ho_a_219
  have hi_a_219 : (al.1 20) < al_260.1 20 := by rw [ea_263, grow_ct]; omega
  have ho_a_229 : al_260.2 21 (al.1 21) = a_229 := by rw [ea_263, grow_ad hi_a_229]; exact ho_a_229
  have hi_a_229 : (al.1 21) < al_260.1 21 := by rw [ea_263, grow_ct]; omega
  have ho_a_239 : al_260.2 22 (al.1 22) = a_239 := by rw [ea_263, grow_ad hi_a_239]; exact ho_a_239
  have hi_a_239 : (al.1 22) < al_260.1 22 := by rw [ea_263, grow_ct]; omega
  have ho_a_249 : al_260.2 23 (al.1 23) = a_249 := by rw [ea_263, grow_ad hi_a_249]; exact ho_a_249
  have hi_a_249 : (al.1 23) < al_260.1 23 := by rw [ea_263, grow_ct]; omega
  have ho_a_51 : al_260.2 4 (al.1 4) = a_51 := by rw [ea_263, grow_ad hi_a_51]; exact ho_a_51
  have hi_a_51 : (al.1 4) < al_260.1 4 := by rw [ea_263, grow_ct]; omega
  have ho_a_61 : al_260.2 5 (al.1 5) = a_61 := by rw [ea_263, grow_ad hi_a_61]; exact ho_a_61
  have hi_a_61 : (al.1 5) < al_260.1 5 := by rw [ea_263, grow_ct]; omega
  have ho_a_71 : al_260.2 6 (al.1 6) = a_71 := by rw [ea_263, grow_ad hi_a_71]; exact ho_a_71
  have hi_a_71 : (al.1 6) < al_260.1 6 := by rw [ea_263, grow_ct]; omega
  have ho_a_81 : al_260.2 7 (al.1 7) = a_81 := by rw [ea_263, grow_ad hi_a_81]; exact ho_a_81
  have hi_a_81 : (al.1 7) < al_260.1 7 := by rw [ea_263, grow_ct]; omega
  have ho_a_91 : al_260.2 8 (al.1 8) = a_91 := by rw [ea_263, grow_ad hi_a_91]; exact ho_a_91
  have hi_a_91 : (al.1 8) < al_260.1 8 := by rw [ea_263, grow_ct]; omega
  have ho_o : al_260.2 0 i0 = o := by rw [ea_263, grow_ad hi_o]; exact ho_o
  have hi_o : i0 < al_260.1 0 := by rw [ea_263, grow_ct]; omega
  have ho_a_259 : al_260.2 24 (al.1 24) = a_259 := hn9
  have hi_a_259 : (al.1 24) < al_260.1 24 := by rw [ea_263, grow_ct, hc_266]; simp
  have hN : NN 0 i0 [27, 26, 25, 23, 22, 21, 19, 18, 17, 16, 15, 14, 13, 12, 11, 10, 9, 8, 7, 4, 3, 2, 1] rv_262 := hN.keep (fun k => by rw [er_265]; exact clr_ne (fun z => absurd z.1 (by decide)))
  have hE := hE9
  have hR := hR9
  have hB := hB9
  refine W.widen (k := 24) (n := 807) (Nat.le_of_ble_eq_true rfl) (Nat.le_of_ble_eq_true rfl) ?_
  refine W.eq (g2 := F0 m 259 ls [.ref (al_260.2 24 (al.1 24)), .ref (al_260.2 0 i0)]) (by rw [ho_a_259, ho_o]) ?_
  refine q_putr (t := 0) (i := i0) (k := 28) (t' := 24) (j := (al.1 24)) C hU hS k_0 (hc := rfl) uwX12 tyX12 tyX12_ok nmX12 hi_o (by decide) rfl (Or.inr ⟨rfl, hnm, rfl⟩) rfl fl_X12_80 dX12_init_259 (fun _ => rfl) (fun _ => rfl) (fun H locs hU hS => ?_)
  have hz : sz ≤ H.size := Nat.le_trans hz0 hS.1
  obtain ⟨rv_267, er_268⟩ : ∃ z, z = up3 rv_262 0 i0 28 (some (al.1 24)) := ⟨_, rfl⟩
  rw [← er_268] at hU
  have hB : RB al_260 rv_267 := by rw [er_268]; exact hB.put rfl hi_a_259
  have hE := hE.putr (t := 0) (i := i0) (k := 28) (x := some (al.1 24)) (by decide)
  rw [← er_268] at hE
  have hN : NN 0 i0 [28, 27, 26, 25, 23, 22, 21, 19, 18, 17, 16, 15, 14, 13, 12, 11, 10, 9, 8, 7, 4, 3, 2, 1] rv_267 := by rw [er_268]; exact hN.put 28 (al.1 24)
  refine lv_aload_n hx hb dX12_init_262 rfl (lv_at hl 0 rfl) ?_
  refine lv_bipush (v := 30) hx hb dX12_init_263 (by decide) ?_
  refine q_newp (t := 25) (ty := .int) C hU hS hB hz rfl (Or.inl rfl) k_25 (fun _ => rfl) ac_int (by decide) (by decide) (by decide) (Nat.le_of_ble_eq_true rfl) (Nat.le_of_ble_eq_true rfl) dX12_init_265 (fun a_269 H hU hS hz => ?_)
  have hc_276 : al_260.1 25 = al.1 25 := hE.1 25
  have hE9 := hE.new 25 a_269
  have hR9 := hR.new 25 a_269
  have hB9 := hB.new 25 a_269
  have hn9 := grow_new (al := al_260) (t := 25) (a := a_269)
  rw [hc_276] at hU hE9 hR9 hB9 hn9
  obtain ⟨al_270, ea_273⟩ : ∃ z, z = grow al_260 25 a_269 := ⟨_, rfl⟩
  obtain ⟨iv_271, ei_274⟩ : ∃ z, z = clr iv_261 25 (al.1 25) 0 := ⟨_, rfl⟩
  obtain ⟨rv_272, er_275⟩ : ∃ z, z = clr rv_267 25 (al.1 25) none := ⟨_, rfl⟩
  rw [← ea_273] at hU hE9 hR9 hB9 hn9
  rw [← ei_274] at hU hE9 hR9
  rw [← er_275] at hU hE9 hB9
  have ho_a_1 : al_270.2 1 (al.1 1) = a_1 := by rw [ea_273, grow_ad hi_a_1]; exact ho_a_1
  have hi_a_1 : (al.1 1) < al_270.1 1 := by rw [ea_273, grow_ct]; omega
  have ho_a_101 : al_270.2 9 (al.1 9) = a_101 := by rw [ea_273, grow_ad hi_a_101]; exact ho_a_101
  have hi_a_101 : (al.1 9) < al_270.1 9 := by rw [ea_273, grow_ct]; omega
  have ho_a_11 : al_270.2 2 (al.1 2) = a_11 := by rw [ea_273, grow_ad hi_a_11]; exact ho_a_11
  have hi_a_11 : (al.1 2) < al_270.1 2 := by rw [ea_273, grow_ct]; omega
  have ho_a_111 : al_270.2 10 (al.1 10) = a_111 := by rw [ea_273, grow_ad hi_a_111]; exact ho_a_111
  have hi_a_111 : (al.1 10) < al_270.1 10 := by rw [ea_273, grow_ct]; omega
  have ho_a_121 : al_270.2 11 (al.1 11) = a_121 := by rw [ea_273, grow_ad hi_a_121]; exact ho_a_121
  have hi_a_121 : (al.1 11) < al_270.1 11 := by rw [ea_273, grow_ct]; omega
  have ho_a_131 : al_270.2 12 (al.1 12) = a_131 := by rw [ea_273, grow_ad hi_a_131]; exact ho_a_131
  have hi_a_131 : (al.1 12) < al_270.1 12 := by rw [ea_273, grow_ct]; omega
  have ho_a_141 : al_270.2 13 (al.1 13) = a_141 := by rw [ea_273, grow_ad hi_a_141]; exact ho_a_141
  have hi_a_141 : (al.1 13) < al_270.1 13 := by rw [ea_273, grow_ct]; omega
  have ho_a_151 : al_270.2 14 (al.1 14) = a_151 := by rw [ea_273, grow_ad hi_a_151]; exact ho_a_151
  have hi_a_151 : (al.1 14) < al_270.1 14 := by rw [ea_273, grow_ct]; omega
  have ho_a_161 : al_270.2 15 (al.1 15) = a_161 := by rw [ea_273, grow_ad hi_a_161]; exact ho_a_161
  have hi_a_161 : (al.1 15) < al_270.1 15 := by rw [ea_273, grow_ct]; omega
  have ho_a_179 : al_270.2 16 (al.1 16) = a_179 := by rw [ea_273, grow_ad hi_a_179]; exact ho_a_179
  have hi_a_179 : (al.1 16) < al_270.1 16 := by rw [ea_273, grow_ct]; omega
  have ho_a_189 : al_270.2 17 (al.1 17) = a_189 := by rw [ea_273, grow_ad hi_a_189]; exact ho_a_189
  have hi_a_189 : (al.1 17) < al_270.1 17 := by rw [ea_273, grow_ct]; omega
  have ho_a_199 : al_270.2 18 (al.1 18) = a_199 := by rw [ea_273, grow_ad hi_a_199]; exact ho_a_199
  have hi_a_199 : (al.1 18) < al_270.1 18 := by rw [ea_273, grow_ct]; omega
  have ho_a_209 : al_270.2 19 (al.1 19) = a_209 := by rw [ea_273, grow_ad hi_a_209]; exact ho_a_209
  have hi_a_209 : (al.1 19) < al_270.1 19 := by rw [ea_273, grow_ct]; omega
  have ho_a_21 : al_270.2 3 (al.1 3) = a_21 := by rw [ea_273, grow_ad hi_a_21]; exact ho_a_21
  have hi_a_21 : (al.1 3) < al_270.1 3 := by rw [ea_273, grow_ct]; omega
  have ho_a_219 : al_270.2 20 (al.1 20) = a_219 := by rw [ea_273, grow_ad hi_a_219]; exact ho_a_219
  have hi_a_219 : (al.1 20) < al_270.1 20 := by rw [ea_273, grow_ct]; omega
  have ho_a_229 : al_270.2 21 (al.1 21) = a_229 := by rw [ea_273, grow_ad hi_a_229]; exact ho_a_229
  have hi_a_229 : (al.1 21) < al_270.1 21 := by rw [ea_273, grow_ct]; omega
  have ho_a_239 : al_270.2 22 (al.1 22) = a_239 := by rw [ea_273, grow_ad hi_a_239]; exact ho_a_239
  have hi_a_239 : (al.1 22) < al_270.1 22 := by rw [ea_273, grow_ct]; omega
  have ho_a_249 : al_270.2 23 (al.1 23) = a_249 := by rw [ea_273, grow_ad hi_a_249]; exact ho_a_249
  have hi_a_249 : (al.1 23) < al_270.1 23 := by rw [ea_273, grow_ct]; omega
  have ho_a_259 : al_270.2 24 (al.1 24) = a_259 := by rw [ea_273, grow_ad hi_a_259]; exact ho_a_259
  have hi_a_259 : (al.1 24) < al_270.1 24 := by rw [ea_273, grow_ct]; omega
  have ho_a_51 : al_270.2 4 (al.1 4) = a_51 := by rw [ea_273, grow_ad hi_a_51]; exact ho_a_51
  have hi_a_51 : (al.1 4) < al_270.1 4 := by rw [ea_273, grow_ct]; omega
  have ho_a_61 : al_270.2 5 (al.1 5) = a_61 := by rw [ea_273, grow_ad hi_a_61]; exact ho_a_61
  have hi_a_61 : (al.1 5) < al_270.1 5 := by rw [ea_273, grow_ct]; omega
  have ho_a_71 : al_270.2 6 (al.1 6) = a_71 := by rw [ea_273, grow_ad hi_a_71]; exact ho_a_71
  have hi_a_71 : (al.1 6) < al_270.1 6 := by rw [ea_273, grow_ct]; omega
  have ho_a_81 : al_270.2 7 (al.1 7) = a_81 := by rw [ea_273, grow_ad hi_a_81]; exact ho_a_81
  have hi_a_81 : (al.1 7) < al_270.1 7 := by rw [ea_273, grow_ct]; omega
  have ho_a_91 : al_270.2 8 (al.1 8) = a_91 := by rw [ea_273, grow_ad hi_a_91]; exact ho_a_91
  have hi_a_91 : (al.1 8) < al_270.1 8 := by rw [ea_273, grow_ct]; omega
  have ho_o : al_270.2 0 i0 = o := by rw [ea_273, grow_ad hi_o]; exact ho_o
  have hi_o : i0 < al_270.1 0 := by rw [ea_273, grow_ct]; omega
  have ho_a_269 : al_270.2 25 (al.1 25) = a_269 := hn9
  have hi_a_269 : (al.1 25) < al_270.1 25 := by rw [ea_273, grow_ct, hc_276]; simp
  have hN : NN 0 i0 [28, 27, 26, 25, 23, 22, 21, 19, 18, 17, 16, 15, 14, 13, 12, 11, 10, 9, 8, 7, 4, 3, 2, 1] rv_272 := hN.keep (fun k => by rw [er_275]; exact clr_ne (fun z => absurd z.1 (by decide)))
  have hE := hE9
  have hR := hR9
  have hB := hB9
  refine W.widen (k := 25) (n := 837) (Nat.le_of_ble_eq_true rfl) (Nat.le_of_ble_eq_true rfl) ?_
  refine W.eq (g2 := F0 m 267 ls [.ref (al_270.2 25 (al.1 25)), .ref (al_270.2 0 i0)]) (by rw [ho_a_269, ho_o]) ?_
  refine q_putr (t := 0) (i := i0) (k := 29) (t' := 25) (j := (al.1 25)) C hU hS k_0 (hc := rfl) uwX12 tyX12 tyX12_ok nmX12 hi_o (by decide) rfl (Or.inr ⟨rfl, hnm, rfl⟩) rfl fl_X12_83 dX12_init_267 (fun _ => rfl) (fun _ => rfl) (fun H locs hU hS => ?_)
  have hz : sz ≤ H.size := Nat.le_trans hz0 hS.1
  obtain ⟨rv_277, er_278⟩ : ∃ z, z = up3 rv_272 0 i0 29 (some (al.1 25)) := ⟨_, rfl⟩
  rw [← er_278] at hU
  have hB : RB al_270 rv_277 := by rw [er_278]; exact hB.put rfl hi_a_269
  have hE := hE.putr (t := 0) (i := i0) (k := 29) (x := some (al.1 25)) (by decide)
  rw [← er_278] at hE
  have hN : NN 0 i0 [29, 28, 27, 26, 25, 23, 22, 21, 19, 18, 17, 16, 15, 14, 13, 12, 11, 10, 9, 8, 7, 4, 3, 2, 1] rv_277 := by rw [er_278]; exact hN.put 29 (al.1 25)
  refine lv_aload_n hx hb dX12_init_270 rfl (lv_at hl 0 rfl) ?_
  refine lv_bipush (v := 40) hx hb dX12_init_271 (by decide) ?_
  refine q_newp (t := 26) (ty := .int) C hU hS hB hz rfl (Or.inl rfl) k_26 (fun _ => rfl) ac_int (by decide) (by decide) (by decide) (Nat.le_of_ble_eq_true rfl) (Nat.le_of_ble_eq_true rfl) dX12_init_273 (fun a_279 H hU hS hz => ?_)
  have hc_286 : al_270.1 26 = al.1 26 := hE.1 26
  have hE9 := hE.new 26 a_279
  have hR9 := hR.new 26 a_279
  have hB9 := hB.new 26 a_279
  have hn9 := grow_new (al := al_270) (t := 26) (a := a_279)
  rw [hc_286] at hU hE9 hR9 hB9 hn9
  obtain ⟨al_280, ea_283⟩ : ∃ z, z = grow al_270 26 a_279 := ⟨_, rfl⟩
  obtain ⟨iv_281, ei_284⟩ : ∃ z, z = clr iv_271 26 (al.1 26) 0 := ⟨_, rfl⟩
  obtain ⟨rv_282, er_285⟩ : ∃ z, z = clr rv_277 26 (al.1 26) none := ⟨_, rfl⟩
  rw [← ea_283] at hU hE9 hR9 hB9 hn9
  rw [← ei_284] at hU hE9 hR9
  rw [← er_285] at hU hE9 hB9
  have ho_a_1 : al_280.2 1 (al.1 1) = a_1 := by rw [ea_283, grow_ad hi_a_1]; exact ho_a_1
  have hi_a_1 : (al.1 1) < al_280.1 1 := by rw [ea_283, grow_ct]; omega
  have ho_a_101 : al_280.2 9 (al.1 9) = a_101 := by rw [ea_283, grow_ad hi_a_101]; exact ho_a_101
  have hi_a_101 : (al.1 9) < al_280.1 9 := by rw [ea_283, grow_ct]; omega
  have ho_a_11 : al_280.2 2 (al.1 2) = a_11 := by rw [ea_283, grow_ad hi_a_11]; exact ho_a_11
  have hi_a_11 : (al.1 2) < al_280.1 2 := by rw [ea_283, grow_ct]; omega
  have ho_a_111 : al_280.2 10 (al.1 10) = a_111 := by rw [ea_283, grow_ad hi_a_111]; exact ho_a_111
  have hi_a_111 : (al.1 10) < al_280.1 10 := by rw [ea_283, grow_ct]; omega
  have ho_a_121 : al_280.2 11 (al.1 11) = a_121 := by rw [ea_283, grow_ad hi_a_121]; exact ho_a_121
  have hi_a_121 : (al.1 11) < al_280.1 11 := by rw [ea_283, grow_ct]; omega
  have ho_a_131 : al_280.2 12 (al.1 12) = a_131 := by rw [ea_283, grow_ad hi_a_131]; exact ho_a_131
  have hi_a_131 : (al.1 12) < al_280.1 12 := by rw [ea_283, grow_ct]; omega
  have ho_a_141 : al_280.2 13 (al.1 13) = a_141 := by rw [ea_283, grow_ad hi_a_141]; exact ho_a_141
  have hi_a_141 : (al.1 13) < al_280.1 13 := by rw [ea_283, grow_ct]; omega
  have ho_a_151 : al_280.2 14 (al.1 14) = a_151 := by rw [ea_283, grow_ad hi_a_151]; exact ho_a_151
  have hi_a_151 : (al.1 14) < al_280.1 14 := by rw [ea_283, grow_ct]; omega
  have ho_a_161 : al_280.2 15 (al.1 15) = a_161 := by rw [ea_283, grow_ad hi_a_161]; exact ho_a_161
  have hi_a_161 : (al.1 15) < al_280.1 15 := by rw [ea_283, grow_ct]; omega
  have ho_a_179 : al_280.2 16 (al.1 16) = a_179 := by rw [ea_283, grow_ad hi_a_179]; exact ho_a_179
  have hi_a_179 : (al.1 16) < al_280.1 16 := by rw [ea_283, grow_ct]; omega
  have ho_a_189 : al_280.2 17 (al.1 17) = a_189 := by rw [ea_283, grow_ad hi_a_189]; exact ho_a_189
  have hi_a_189 : (al.1 17) < al_280.1 17 := by rw [ea_283, grow_ct]; omega
  have ho_a_199 : al_280.2 18 (al.1 18) = a_199 := by rw [ea_283, grow_ad hi_a_199]; exact ho_a_199
  have hi_a_199 : (al.1 18) < al_280.1 18 := by rw [ea_283, grow_ct]; omega
  have ho_a_209 : al_280.2 19 (al.1 19) = a_209 := by rw [ea_283, grow_ad hi_a_209]; exact ho_a_209
  have hi_a_209 : (al.1 19) < al_280.1 19 := by rw [ea_283, grow_ct]; omega
  have ho_a_21 : al_280.2 3 (al.1 3) = a_21 := by rw [ea_283, grow_ad hi_a_21]; exact ho_a_21
  have hi_a_21 : (al.1 3) < al_280.1 3 := by rw [ea_283, grow_ct]; omega
  have ho_a_219 : al_280.2 20 (al.1 20) = a_219 := by rw [ea_283, grow_ad hi_a_219]; exact ho_a_219
  have hi_a_219 : (al.1 20) < al_280.1 20 := by rw [ea_283, grow_ct]; omega
  have ho_a_229 : al_280.2 21 (al.1 21) = a_229 := by rw [ea_283, grow_ad hi_a_229]; exact ho_a_229
  have hi_a_229 : (al.1 21) < al_280.1 21 := by rw [ea_283, grow_ct]; omega
  have ho_a_239 : al_280.2 22 (al.1 22) = a_239 := by rw [ea_283, grow_ad hi_a_239]; exact ho_a_239
  have hi_a_239 : (al.1 22) < al_280.1 22 := by rw [ea_283, grow_ct]; omega
  have ho_a_249 : al_280.2 23 (al.1 23) = a_249 := by rw [ea_283, grow_ad hi_a_249]; exact ho_a_249
  have hi_a_249 : (al.1 23) < al_280.1 23 := by rw [ea_283, grow_ct]; omega
  have ho_a_259 : al_280.2 24 (al.1 24) = a_259 := by rw [ea_283, grow_ad hi_a_259]; exact ho_a_259
  have hi_a_259 : (al.1 24) < al_280.1 24 := by rw [ea_283, grow_ct]; omega
  have ho_a_269 : al_280.2 25 (al.1 25) = a_269 := by rw [ea_283, grow_ad hi_a_269]; exact ho_a_269
  have hi_a_269 : (al.1 25) < al_280.1 25 := by rw [ea_283, grow_ct]; omega
  have ho_a_51 : al_280.2 4 (al.1 4) = a_51 := by rw [ea_283, grow_ad hi_a_51]; exact ho_a_51
  have hi_a_51 : (al.1 4) < al_280.1 4 := by rw [ea_283, grow_ct]; omega
  have ho_a_61 : al_280.2 5 (al.1 5) = a_61 := by rw [ea_283, grow_ad hi_a_61]; exact ho_a_61
  have hi_a_61 : (al.1 5) < al_280.1 5 := by rw [ea_283, grow_ct]; omega
  have ho_a_71 : al_280.2 6 (al.1 6) = a_71 := by rw [ea_283, grow_ad hi_a_71]; exact ho_a_71
  have hi_a_71 : (al.1 6) < al_280.1 6 := by rw [ea_283, grow_ct]; omega
  have ho_a_81 : al_280.2 7 (al.1 7) = a_81 := by rw [ea_283, grow_ad hi_a_81]; exact ho_a_81
  have hi_a_81 : (al.1 7) < al_280.1 7 := by rw [ea_283, grow_ct]; omega
  have ho_a_91 : al_280.2 8 (al.1 8) = a_91 := by rw [ea_283, grow_ad hi_a_91]; exact ho_a_91
  have hi_a_91 : (al.1 8) < al_280.1 8 := by rw [ea_283, grow_ct]; omega
  have ho_o : al_280.2 0 i0 = o := by rw [ea_283, grow_ad hi_o]; exact ho_o
  have hi_o : i0 < al_280.1 0 := by rw [ea_283, grow_ct]; omega
  have ho_a_279 : al_280.2 26 (al.1 26) = a_279 := hn9
  have hi_a_279 : (al.1 26) < al_280.1 26 := by rw [ea_283, grow_ct, hc_286]; simp
  have hN : NN 0 i0 [29, 28, 27, 26, 25, 23, 22, 21, 19, 18, 17, 16, 15, 14, 13, 12, 11, 10, 9, 8, 7, 4, 3, 2, 1] rv_282 := hN.keep (fun k => by rw [er_285]; exact clr_ne (fun z => absurd z.1 (by decide)))
  have hE := hE9
  have hR := hR9
  have hB := hB9
  refine W.widen (k := 26) (n := 877) (Nat.le_of_ble_eq_true rfl) (Nat.le_of_ble_eq_true rfl) ?_
  refine W.eq (g2 := F0 m 275 ls [.ref (al_280.2 26 (al.1 26)), .ref (al_280.2 0 i0)]) (by rw [ho_a_279, ho_o]) ?_
  refine q_putr (t := 0) (i := i0) (k := 31) (t' := 26) (j := (al.1 26)) C hU hS k_0 (hc := rfl) uwX12 tyX12 tyX12_ok nmX12 hi_o (by decide) rfl (Or.inr ⟨rfl, hnm, rfl⟩) rfl fl_X12_86 dX12_init_275 (fun _ => rfl) (fun _ => rfl) (fun H locs hU hS => ?_)
  have hz : sz ≤ H.size := Nat.le_trans hz0 hS.1
  obtain ⟨rv_287, er_288⟩ : ∃ z, z = up3 rv_282 0 i0 31 (some (al.1 26)) := ⟨_, rfl⟩
  rw [← er_288] at hU
  have hB : RB al_280 rv_287 := by rw [er_288]; exact hB.put rfl hi_a_279
  have hE := hE.putr (t := 0) (i := i0) (k := 31) (x := some (al.1 26)) (by decide)
  rw [← er_288] at hE
  have hN : NN 0 i0 [31, 29, 28, 27, 26, 25, 23, 22, 21, 19, 18, 17, 16, 15, 14, 13, 12, 11, 10, 9, 8, 7, 4, 3, 2, 1] rv_287 := by rw [er_288]; exact hN.put 31 (al.1 26)
  refine lv_aload_n hx hb dX12_init_278 rfl (lv_at hl 0 rfl) ?_
  refine lv_bipush (v := 40) hx hb dX12_init_279 (by decide) ?_
  refine q_newp (t := 27) (ty := .int) C hU hS hB hz rfl (Or.inl rfl) k_27 (fun _ => rfl) ac_int (by decide) (by decide) (by decide) (Nat.le_of_ble_eq_true rfl) (Nat.le_of_ble_eq_true rfl) dX12_init_281 (fun a_289 H hU hS hz => ?_)
  have hc_296 : al_280.1 27 = al.1 27 := hE.1 27
  have hE9 := hE.new 27 a_289
  have hR9 := hR.new 27 a_289
  have hB9 := hB.new 27 a_289
  have hn9 := grow_new (al := al_280) (t := 27) (a := a_289)
  rw [hc_296] at hU hE9 hR9 hB9 hn9
  obtain ⟨al_290, ea_293⟩ : ∃ z, z = grow al_280 27 a_289 := ⟨_, rfl⟩
  obtain ⟨iv_291, ei_294⟩ : ∃ z, z = clr iv_281 27 (al.1 27) 0 := ⟨_, rfl⟩
  obtain ⟨rv_292, er_295⟩ : ∃ z, z = clr rv_287 27 (al.1 27) none := ⟨_, rfl⟩
  rw [← ea_293] at hU hE9 hR9 hB9 hn9
  rw [← ei_294] at hU hE9 hR9
  rw [← er_295] at hU hE9 hB9
  have ho_a_1 : al_290.2 1 (al.1 1) = a_1 := by rw [ea_293, grow_ad hi_a_1]; exact ho_a_1
  have hi_a_1 : (al.1 1) < al_290.1 1 := by rw [ea_293, grow_ct]; omega
  have ho_a_101 : al_290.2 9 (al.1 9) = a_101 := by rw [ea_293, grow_ad hi_a_101]; exact ho_a_101
  have hi_a_101 : (al.1 9) < al_290.1 9 := by rw [ea_293, grow_ct]; omega
  have ho_a_11 : al_290.2 2 (al.1 2) = a_11 := by rw [ea_293, grow_ad hi_a_11]; exact ho_a_11
  have hi_a_11 : (al.1 2) < al_290.1 2 := by rw [ea_293, grow_ct]; omega
  have ho_a_111 : al_290.2 10 (al.1 10) = a_111 := by rw [ea_293, grow_ad hi_a_111]; exact ho_a_111
  have hi_a_111 : (al.1 10) < al_290.1 10 := by rw [ea_293, grow_ct]; omega
  have ho_a_121 : al_290.2 11 (al.1 11) = a_121 := by rw [ea_293, grow_ad hi_a_121]; exact ho_a_121
  have hi_a_121 : (al.1 11) < al_290.1 11 := by rw [ea_293, grow_ct]; omega
  have ho_a_131 : al_290.2 12 (al.1 12) = a_131 := by rw [ea_293, grow_ad hi_a_131]; exact ho_a_131
  have hi_a_131 : (al.1 12) < al_290.1 12 := by rw [ea_293, grow_ct]; omega
  have ho_a_141 : al_290.2 13 (al.1 13) = a_141 := by rw [ea_293, grow_ad hi_a_141]; exact ho_a_141
  have hi_a_141 : (al.1 13) < al_290.1 13 := by rw [ea_293, grow_ct]; omega
  have ho_a_151 : al_290.2 14 (al.1 14) = a_151 := by rw [ea_293, grow_ad hi_a_151]; exact ho_a_151
  have hi_a_151 : (al.1 14) < al_290.1 14 := by rw [ea_293, grow_ct]; omega
  have ho_a_161 : al_290.2 15 (al.1 15) = a_161 := by rw [ea_293, grow_ad hi_a_161]; exact ho_a_161
  have hi_a_161 : (al.1 15) < al_290.1 15 := by rw [ea_293, grow_ct]; omega
  have ho_a_179 : al_290.2 16 (al.1 16) = a_179 := by rw [ea_293, grow_ad hi_a_179]; exact ho_a_179
  have hi_a_179 : (al.1 16) < al_290.1 16 := by rw [ea_293, grow_ct]; omega
  have ho_a_189 : al_290.2 17 (al.1 17) = a_189 := by rw [ea_293, grow_ad hi_a_189]; exact ho_a_189
  have hi_a_189 : (al.1 17) < al_290.1 17 := by rw [ea_293, grow_ct]; omega
  have ho_a_199 : al_290.2 18 (al.1 18) = a_199 := by rw [ea_293, grow_ad hi_a_199]; exact ho_a_199
  have hi_a_199 : (al.1 18) < al_290.1 18 := by rw [ea_293, grow_ct]; omega
  have ho_a_209 : al_290.2 19 (al.1 19) = a_209 := by rw [ea_293, grow_ad hi_a_209]; exact ho_a_209
  have hi_a_209 : (al.1 19) < al_290.1 19 := by rw [ea_293, grow_ct]; omega
  have ho_a_21 : al_290.2 3 (al.1 3) = a_21 := by rw [ea_293, grow_ad hi_a_21]; exact ho_a_21
  have hi_a_21 : (al.1 3) < al_290.1 3 := by rw [ea_293, grow_ct]; omega
  have ho_a_219 : al_290.2 20 (al.1 20) = a_219 := by rw [ea_293, grow_ad hi_a_219]; exact ho_a_219
  have hi_a_219 : (al.1 20) < al_290.1 20 := by rw [ea_293, grow_ct]; omega
  have ho_a_229 : al_290.2 21 (al.1 21) = a_229 := by rw [ea_293, grow_ad hi_a_229]; exact ho_a_229
  have hi_a_229 : (al.1 21) < al_290.1 21 := by rw [ea_293, grow_ct]; omega
  have ho_a_239 : al_290.2 22 (al.1 22) = a_239 := by rw [ea_293, grow_ad hi_a_239]; exact ho_a_239
  have hi_a_239 : (al.1 22) < al_290.1 22 := by rw [ea_293, grow_ct]; omega
  have ho_a_249 : al_290.2 23 (al.1 23) = a_249 := by rw [ea_293, grow_ad hi_a_249]; exact ho_a_249
  have hi_a_249 : (al.1 23) < al_290.1 23 := by rw [ea_293, grow_ct]; omega
  have ho_a_259 : al_290.2 24 (al.1 24) = a_259 := by rw [ea_293, grow_ad hi_a_259]; exact ho_a_259
  have hi_a_259 : (al.1 24) < al_290.1 24 := by rw [ea_293, grow_ct]; omega
  have ho_a_269 : al_290.2 25 (al.1 25) = a_269 := by rw [ea_293, grow_ad hi_a_269]; exact ho_a_269
  have hi_a_269 : (al.1 25) < al_290.1 25 := by rw [ea_293, grow_ct]; omega
  have ho_a_279 : al_290.2 26 (al.1 26) = a_279 := by rw [ea_293, grow_ad hi_a_279]; exact ho_a_279
  have hi_a_279 : (al.1 26) < al_290.1 26 := by rw [ea_293, grow_ct]; omega
  have ho_a_51 : al_290.2 4 (al.1 4) = a_51 := by rw [ea_293, grow_ad hi_a_51]; exact ho_a_51
  have hi_a_51 : (al.1 4) < al_290.1 4 := by rw [ea_293, grow_ct]; omega
  have ho_a_61 : al_290.2 5 (al.1 5) = a_61 := by rw [ea_293, grow_ad hi_a_61]; exact ho_a_61
  have hi_a_61 : (al.1 5) < al_290.1 5 := by rw [ea_293, grow_ct]; omega
  have ho_a_71 : al_290.2 6 (al.1 6) = a_71 := by rw [ea_293, grow_ad hi_a_71]; exact ho_a_71
  have hi_a_71 : (al.1 6) < al_290.1 6 := by rw [ea_293, grow_ct]; omega
  have ho_a_81 : al_290.2 7 (al.1 7) = a_81 := by rw [ea_293, grow_ad hi_a_81]; exact ho_a_81
  have hi_a_81 : (al.1 7) < al_290.1 7 := by rw [ea_293, grow_ct]; omega
  have ho_a_91 : al_290.2 8 (al.1 8) = a_91 := by rw [ea_293, grow_ad hi_a_91]; exact ho_a_91
  have hi_a_91 : (al.1 8) < al_290.1 8 := by rw [ea_293, grow_ct]; omega
  have ho_o : al_290.2 0 i0 = o := by rw [ea_293, grow_ad hi_o]; exact ho_o
  have hi_o : i0 < al_290.1 0 := by rw [ea_293, grow_ct]; omega
  have ho_a_289 : al_290.2 27 (al.1 27) = a_289 := hn9
  have hi_a_289 : (al.1 27) < al_290.1 27 := by rw [ea_293, grow_ct, hc_296]; simp
  have hN : NN 0 i0 [31, 29, 28, 27, 26, 25, 23, 22, 21, 19, 18, 17, 16, 15, 14, 13, 12, 11, 10, 9, 8, 7, 4, 3, 2, 1] rv_292 := hN.keep (fun k => by rw [er_295]; exact clr_ne (fun z => absurd z.1 (by decide)))
  have hE := hE9
  have hR := hR9
  have hB := hB9
  refine W.widen (k := 27) (n := 917) (Nat.le_of_ble_eq_true rfl) (Nat.le_of_ble_eq_true rfl) ?_
  refine W.eq (g2 := F0 m 283 ls [.ref (al_290.2 27 (al.1 27)), .ref (al_290.2 0 i0)]) (by rw [ho_a_289, ho_o]) ?_
  refine q_putr (t := 0) (i := i0) (k := 32) (t' := 27) (j := (al.1 27)) C hU hS k_0 (hc := rfl) uwX12 tyX12 tyX12_ok nmX12 hi_o (by decide) rfl (Or.inr ⟨rfl, hnm, rfl⟩) rfl fl_X12_89 dX12_init_283 (fun _ => rfl) (fun _ => rfl) (fun H locs hU hS => ?_)
  have hz : sz ≤ H.size := Nat.le_trans hz0 hS.1
  obtain ⟨rv_297, er_298⟩ : ∃ z, z = up3 rv_292 0 i0 32 (some (al.1 27)) := ⟨_, rfl⟩
  rw [← er_298] at hU
  have hB : RB al_290 rv_297 := by rw [er_298]; exact hB.put rfl hi_a_289
  have hE := hE.putr (t := 0) (i := i0) (k := 32) (x := some (al.1 27)) (by decide)
  rw [← er_298] at hE
  have hN : NN 0 i0 [32, 31, 29, 28, 27, 26, 25, 23, 22, 21, 19, 18, 17, 16, 15, 14, 13, 12, 11, 10, 9, 8, 7, 4, 3, 2, 1] rv_297 := by rw [er_298]; exact hN.put 32 (al.1 27)
  refine lv_aload_n hx hb dX12_init_286 rfl (lv_at hl 0 rfl) ?_
  refine lv_bipush (v := 40) hx hb dX12_init_287 (by decide) ?_
  refine q_newp (t := 28) (ty := .int) C hU hS hB hz rfl (Or.inl rfl) k_28 (fun _ => rfl) ac_int (by decide) (by decide) (by decide) (Nat.le_of_ble_eq_true rfl) (Nat.le_of_ble_eq_true rfl) dX12_init_289 (fun a_299 H hU hS hz => ?_)
  have hc_306 : al_290.1 28 = al.1 28 := hE.1 28
  have hE9 := hE.new 28 a_299
  have hR9 := hR.new 28 a_299
  have hB9 := hB.new 28 a_299
  have hn9 := grow_new (al := al_290) (t := 28) (a := a_299)
  rw [hc_306] at hU hE9 hR9 hB9 hn9
  obtain ⟨al_300, ea_303⟩ : ∃ z, z = grow al_290 28 a_299 := ⟨_, rfl⟩
  obtain ⟨iv_301, ei_304⟩ : ∃ z, z = clr iv_291 28 (al.1 28) 0 := ⟨_, rfl⟩
  obtain ⟨rv_302, er_305⟩ : ∃ z, z = clr rv_297 28 (al.1 28) none := ⟨_, rfl⟩
  rw [← ea_303] at hU hE9 hR9 hB9 hn9
  rw [← ei_304] at hU hE9 hR9
  rw [← er_305] at hU hE9 hB9
  have ho_a_1 : al_300.2 1 (al.1 1) = a_1 := by rw [ea_303, grow_ad hi_a_1]; exact ho_a_1
  have hi_a_1 : (al.1 1) < al_300.1 1 := by rw [ea_303, grow_ct]; omega
  have ho_a_101 : al_300.2 9 (al.1 9) = a_101 := by rw [ea_303, grow_ad hi_a_101]; exact ho_a_101
  have hi_a_101 : (al.1 9) < al_300.1 9 := by rw [ea_303, grow_ct]; omega
  have ho_a_11 : al_300.2 2 (al.1 2) = a_11 := by rw [ea_303, grow_ad hi_a_11]; exact ho_a_11
  have hi_a_11 : (al.1 2) < al_300.1 2 := by rw [ea_303, grow_ct]; omega
  have ho_a_111 : al_300.2 10 (al.1 10) = a_111 := by rw [ea_303, grow_ad hi_a_111]; exact ho_a_111
  have hi_a_111 : (al.1 10) < al_300.1 10 := by rw [ea_303, grow_ct]; omega
  have ho_a_121 : al_300.2 11 (al.1 11) = a_121 := by rw [ea_303, grow_ad hi_a_121]; exact ho_a_121
  have hi_a_121 : (al.1 11) < al_300.1 11 := by rw [ea_303, grow_ct]; omega
  have ho_a_131 : al_300.2 12 (al.1 12) = a_131 := by rw [ea_303, grow_ad hi_a_131]; exact ho_a_131
  have hi_a_131 : (al.1 12) < al_300.1 12 := by rw [ea_303, grow_ct]; omega
  have ho_a_141 : al_300.2 13 (al.1 13) = a_141 := by rw [ea_303, grow_ad hi_a_141]; exact ho_a_141
  have hi_a_141 : (al.1 13) < al_300.1 13 := by rw [ea_303, grow_ct]; omega
  have ho_a_151 : al_300.2 14 (al.1 14) = a_151 := by rw [ea_303, grow_ad hi_a_151]; exact ho_a_151
  have hi_a_151 : (al.1 14) < al_300.1 14 := by rw [ea_303, grow_ct]; omega
  have ho_a_161 : al_300.2 15 (al.1 15) = a_161 := by rw [ea_303, grow_ad hi_a_161]; exact ho_a_161
  have hi_a_161 : (al.1 15) < al_300.1 15 := by rw [ea_303, grow_ct]; omega
  have ho_a_179 : al_300.2 16 (al.1 16) = a_179 := by rw [ea_303, grow_ad hi_a_179]; exact ho_a_179
  have hi_a_179 : (al.1 16) < al_300.1 16 := by rw [ea_303, grow_ct]; omega
  have ho_a_189 : al_300.2 17 (al.1 17) = a_189 := by rw [ea_303, grow_ad hi_a_189]; exact ho_a_189
  have hi_a_189 : (al.1 17) < al_300.1 17 := by rw [ea_303, grow_ct]; omega
  have ho_a_199 : al_300.2 18 (al.1 18) = a_199 := by rw [ea_303, grow_ad hi_a_199]; exact ho_a_199
  have hi_a_199 : (al.1 18) < al_300.1 18 := by rw [ea_303, grow_ct]; omega
  have ho_a_209 : al_300.2 19 (al.1 19) = a_209 := by rw [ea_303, grow_ad hi_a_209]; exact ho_a_209
  have hi_a_209 : (al.1 19) < al_300.1 19 := by rw [ea_303, grow_ct]; omega
  have ho_a_21 : al_300.2 3 (al.1 3) = a_21 := by rw [ea_303, grow_ad hi_a_21]; exact ho_a_21
  have hi_a_21 : (al.1 3) < al_300.1 3 := by rw [ea_303, grow_ct]; omega
  have ho_a_219 : al_300.2 20 (al.1 20) = a_219 := by rw [ea_303, grow_ad hi_a_219]; exact ho_a_219
  have hi_a_219 : (al.1 20) < al_300.1 20 := by rw [ea_303, grow_ct]; omega
  have ho_a_229 : al_300.2 21 (al.1 21) = a_229 := by rw [ea_303, grow_ad hi_a_229]; exact ho_a_229
  have hi_a_229 : (al.1 21) < al_300.1 21 := by rw [ea_303, grow_ct]; omega
  have ho_a_239 : al_300.2 22 (al.1 22) = a_239 := by rw [ea_303, grow_ad hi_a_239]; exact ho_a_239
  have hi_a_239 : (al.1 22) < al_300.1 22 := by rw [ea_303, grow_ct]; omega
  have ho_a_249 : al_300.2 23 (al.1 23) = a_249 := by rw [ea_303, grow_ad hi_a_249]; exact ho_a_249
  have hi_a_249 : (al.1 23) < al_300.1 23 := by rw [ea_303, grow_ct]; omega
  have ho_a_259 : al_300.2 24 (al.1 24) = a_259 := by rw [ea_303, grow_ad hi_a_259]; exact ho_a_259
  have hi_a_259 : (al.1 24) < al_300.1 24 := by rw [ea_303, grow_ct]; omega
  have ho_a_269 : al_300.2 25 (al.1 25) = a_269 := by rw [ea_303, grow_ad hi_a_269]; exact ho_a_269
  have hi_a_269 : (al.1 25) < al_300.1 25 := by rw [ea_303, grow_ct]; omega
  have ho_a_279 : al_300.2 26 (al.1 26) = a_279 := by rw [ea_303, grow_ad hi_a_279]; exact ho_a_279
  have hi_a_279 : (al.1 26) < al_300.1 26 := by rw [ea_303, grow_ct]; omega
  have ho_a_289 : al_300.2 27 (al.1 27) = a_289 := by rw [ea_303, grow_ad hi_a_289]; exact ho_a_289
  have hi_a_289 : (al.1 27) < al_300.1 27 := by rw [ea_303, grow_ct]; omega
  have ho_a_51 : al_300.2 4 (al.1 4) = a_51 := by rw [ea_303, grow_ad hi_a_51]; exact ho_a_51
  have hi_a_51 : (al.1 4) < al_300.1 4 := by rw [ea_303, grow_ct]; omega
  have ho_a_61 : al_300.2 5 (al.1 5) = a_61 := by rw [ea_303, grow_ad hi_a_61]; exact ho_a_61
  have hi_a_61 : (al.1 5) < al_300.1 5 := by rw [ea_303, grow_ct]; omega
  have ho_a_71 : al_300.2 6 (al.1 6) = a_71 := by rw [ea_303, grow_ad hi_a_71]; exact ho_a_71
  have hi_a_71 : (al.1 6) < al_300.1 6 := by rw [ea_303, grow_ct]; omega
  have ho_a_81 : al_300.2 7 (al.1 7) = a_81 := by rw [ea_303, grow_ad hi_a_81]; exact ho_a_81
  have hi_a_81 : (al.1 7) < al_300.1 7 := by rw [ea_303, grow_ct]; omega
  have ho_a_91 : al_300.2 8 (al.1 8) = a_91 := by rw [ea_303, grow_ad hi_a_91]; exact ho_a_91
  have hi_a_91 : (al.1 8) < al_300.1 8 := by rw [ea_303, grow_ct]; omega
  have ho_o : al_300.2 0 i0 = o := by rw [ea_303, grow_ad hi_o]; exact ho_o
  have hi_o : i0 < al_300.1 0 := by rw [ea_303, grow_ct]; omega
  have ho_a_299 : al_300.2 28 (al.1 28) = a_299 := hn9
  have hi_a_299 : (al.1 28) < al_300.1 28 := by rw [ea_303, grow_ct, hc_306]; simp
  have hN : NN 0 i0 [32, 31, 29, 28, 27, 26, 25, 23, 22, 21, 19, 18, 17, 16, 15, 14, 13, 12, 11, 10, 9, 8, 7, 4, 3, 2, 1] rv_302 := hN.keep (fun k => by rw [er_305]; exact clr_ne (fun z => absurd z.1 (by decide)))
  have hE := hE9
  have hR := hR9
  have hB := hB9
  refine W.widen (k := 28) (n := 957) (Nat.le_of_ble_eq_true rfl) (Nat.le_of_ble_eq_true rfl) ?_
  refine W.eq (g2 := F0 m 291 ls [.ref (al_300.2 28 (al.1 28)), .ref (al_300.2 0 i0)]) (by rw [ho_a_299, ho_o]) ?_
  refine q_putr (t := 0) (i := i0) (k := 33) (t' := 28) (j := (al.1 28)) C hU hS k_0 (hc := rfl) uwX12 tyX12 tyX12_ok nmX12 hi_o (by decide) rfl (Or.inr ⟨rfl, hnm, rfl⟩) rfl fl_X12_92 dX12_init_291 (fun _ => rfl) (fun _ => rfl) (fun H locs hU hS => ?_)
  have hz : sz ≤ H.size := Nat.le_trans hz0 hS.1
  obtain ⟨rv_307, er_308⟩ : ∃ z, z = up3 rv_302 0 i0 33 (some (al.1 28)) := ⟨_, rfl⟩
  rw [← er_308] at hU
  have hB : RB al_300 rv_307 := by rw [er_308]; exact hB.put rfl hi_a_299
  have hE := hE.putr (t := 0) (i := i0) (k := 33) (x := some (al.1 28)) (by decide)
  rw [← er_308] at hE
  have hN : NN 0 i0 [33, 32, 31, 29, 28, 27, 26, 25, 23, 22, 21, 19, 18, 17, 16, 15, 14, 13, 12, 11, 10, 9, 8, 7, 4, 3, 2, 1] rv_307 := by rw [er_308]; exact hN.put 33 (al.1 28)
  refine lv_aload_n hx hb dX12_init_294 rfl (lv_at hl 0 rfl) ?_
  refine lv_bipush (v := 40) hx hb dX12_init_295 (by decide) ?_
  refine q_newp (t := 29) (ty := .int) C hU hS hB hz rfl (Or.inl rfl) k_29 (fun _ => rfl) ac_int (by decide) (by decide) (by decide) (Nat.le_of_ble_eq_true rfl) (Nat.le_of_ble_eq_true rfl) dX12_init_297 (fun a_309 H hU hS hz => ?_)
  have hc_316 : al_300.1 29 = al.1 29 := hE.1 29
  have hE9 := hE.new 29 a_309
  have hR9 := hR.new 29 a_309
  have hB9 := hB.new 29 a_309
  have hn9 := grow_new (al := al_300) (t := 29) (a := a_309)
  rw [hc_316] at hU hE9 hR9 hB9 hn9
  obtain ⟨al_310, ea_313⟩ : ∃ z, z = grow al_300 29 a_309 := ⟨_, rfl⟩
  obtain ⟨iv_311, ei_314⟩ : ∃ z, z = clr iv_301 29 (al.1 29) 0 := ⟨_, rfl⟩
  obtain ⟨rv_312, er_315⟩ : ∃ z, z = clr rv_307 29 (al.1 29) none := ⟨_, rfl⟩
  rw [← ea_313] at hU hE9 hR9 hB9 hn9
  rw [← ei_314] at hU hE9 hR9
  rw [← er_315] at hU hE9 hB9
  have ho_a_1 : al_310.2 1 (al.1 1) = a_1 := by rw [ea_313, grow_ad hi_a_1]; exact ho_a_1
  have hi_a_1 : (al.1 1) < al_310.1 1 := by rw [ea_313, grow_ct]; omega
  have ho_a_101 : al_310.2 9 (al.1 9) = a_101 := by rw [ea_313, grow_ad hi_a_101]; exact ho_a_101
  have hi_a_101 : (al.1 9) < al_310.1 9 := by rw [ea_313, grow_ct]; omega
  have ho_a_11 : al_310.2 2 (al.1 2) = a_11 := by rw [ea_313, grow_ad hi_a_11]; exact ho_a_11
  have hi_a_11 : (al.1 2) < al_310.1 2 := by rw [ea_313, grow_ct]; omega
  have ho_a_111 : al_310.2 10 (al.1 10) = a_111 := by rw [ea_313, grow_ad hi_a_111]; exact ho_a_111
  have hi_a_111 : (al.1 10) < al_310.1 10 := by rw [ea_313, grow_ct]; omega
  have ho_a_121 : al_310.2 11 (al.1 11) = a_121 := by rw [ea_313, grow_ad hi_a_121]; exact ho_a_121
  have hi_a_121 : (al.1 11) < al_310.1 11 := by rw [ea_313, grow_ct]; omega
  have ho_a_131 : al_310.2 12 (al.1 12) = a_131 := by rw [ea_313, grow_ad hi_a_131]; exact ho_a_131
  have hi_a_131 : (al.1 12) < al_310.1 12 := by rw [ea_313, grow_ct]; omega
  have ho_a_141 : al_310.2 13 (al.1 13) = a_141 := by rw [ea_313, grow_ad hi_a_141]; exact ho_a_141
  have hi_a_141 : (al.1 13) < al_310.1 13 := by rw [ea_313, grow_ct]; omega
  have ho_a_151 : al_310.2 14 (al.1 14) = a_151 := by rw [ea_313, grow_ad hi_a_151]; exact ho_a_151
  have hi_a_151 : (al.1 14) < al_310.1 14 := by rw [ea_313, grow_ct]; omega
  have ho_a_161 : al_310.2 15 (al.1 15) = a_161 := by rw [ea_313, grow_ad hi_a_161]; exact ho_a_161
  have hi_a_161 : (al.1 15) < al_310.1 15 := by rw [ea_313, grow_ct]; omega
  have ho_a_179 : al_310.2 16 (al.1 16) = a_179 := by rw [ea_313, grow_ad hi_a_179]; exact ho_a_179
  have hi_a_179 : (al.1 16) < al_310.1 16 := by rw [ea_313, grow_ct]; omega
  have ho_a_189 : al_310.2 17 (al.1 17) = a_189 := by rw [ea_313, grow_ad hi_a_189]; exact ho_a_189
  have hi_a_189 : (al.1 17) < al_310.1 17 := by rw [ea_313, grow_ct]; omega
  have ho_a_199 : al_310.2 18 (al.1 18) = a_199 := by rw [ea_313, grow_ad hi_a_199]; exact ho_a_199
  have hi_a_199 : (al.1 18) < al_310.1 18 := by rw [ea_313, grow_ct]; omega
  have ho_a_209 : al_310.2 19 (al.1 19) = a_209 := by rw [ea_313, grow_ad hi_a_209]; exact ho_a_209
  have hi_a_209 : (al.1 19) < al_310.1 19 := by rw [ea_313, grow_ct]; omega
  have ho_a_21 : al_310.2 3 (al.1 3) = a_21 := by rw [ea_313, grow_ad hi_a_21]; exact ho_a_21
  have hi_a_21 : (al.1 3) < al_310.1 3 := by rw [ea_313, grow_ct]; omega
  have ho_a_219 : al_310.2 20 (al.1 20) = a_219 := by rw [ea_313, grow_ad hi_a_219]; exact ho_a_219
  have hi_a_219 : (al.1 20) < al_310.1 20 := by rw [ea_313, grow_ct]; omega
  have ho_a_229 : al_310.2 21 (al.1 21) = a_229 := by rw [ea_313, grow_ad hi_a_229]; exact ho_a_229
  have hi_a_229 : (al.1 21) < al_310.1 21 := by rw [ea_313, grow_ct]; omega
  have ho_a_239 : al_310.2 22 (al.1 22) = a_239 := by rw [ea_313, grow_ad hi_a_239]; exact ho_a_239
  have hi_a_239 : (al.1 22) < al_310.1 22 := by rw [ea_313, grow_ct]; omega
  have ho_a_249 : al_310.2 23 (al.1 23) = a_249 := by rw [ea_313, grow_ad hi_a_249]; exact ho_a_249
  have hi_a_249 : (al.1 23) < al_310.1 23 := by rw [ea_313, grow_ct]; omega
  have ho_a_259 : al_310.2 24 (al.1 24) = a_259 := by rw [ea_313, grow_ad hi_a_259]; exact ho_a_259
  have hi_a_259 : (al.1 24) < al_310.1 24 := by rw [ea_313, grow_ct]; omega
  have ho_a_269 : al_310.2 25 (al.1 25) = a_269 := by rw [ea_313, grow_ad hi_a_269]; exact ho_a_269
  have hi_a_269 : (al.1 25) < al_310.1 25 := by rw [ea_313, grow_ct]; omega
  have ho_a_279 : al_310.2 26 (al.1 26) = a_279 := by rw [ea_313, grow_ad hi_a_279]; exact ho_a_279
  have hi_a_279 : (al.1 26) < al_310.1 26 := by rw [ea_313, grow_ct]; omega
  have ho_a_289 : al_310.2 27 (al.1 27) = a_289 := by rw [ea_313, grow_ad hi_a_289]; exact ho_a_289
  have hi_a_289 : (al.1 27) < al_310.1 27 := by rw [ea_313, grow_ct]; omega
  have ho_a_299 : al_310.2 28 (al.1 28) = a_299 := by rw [ea_313, grow_ad hi_a_299]; exact ho_a_299
  have hi_a_299 : (al.1 28) < al_310.1 28 := by rw [ea_313, grow_ct]; omega
  have ho_a_51 : al_310.2 4 (al.1 4) = a_51 := by rw [ea_313, grow_ad hi_a_51]; exact ho_a_51
  have hi_a_51 : (al.1 4) < al_310.1 4 := by rw [ea_313, grow_ct]; omega
  have ho_a_61 : al_310.2 5 (al.1 5) = a_61 := by rw [ea_313, grow_ad hi_a_61]; exact ho_a_61
  have hi_a_61 : (al.1 5) < al_310.1 5 := by rw [ea_313, grow_ct]; omega
  have ho_a_71 : al_310.2 6 (al.1 6) = a_71 := by rw [ea_313, grow_ad hi_a_71]; exact ho_a_71
  have hi_a_71 : (al.1 6) < al_310.1 6 := by rw [ea_313, grow_ct]; omega
  have ho_a_81 : al_310.2 7 (al.1 7) = a_81 := by rw [ea_313, grow_ad hi_a_81]; exact ho_a_81
  have hi_a_81 : (al.1 7) < al_310.1 7 := by rw [ea_313, grow_ct]; omega
  have ho_a_91 : al_310.2 8 (al.1 8) = a_91 := by rw [ea_313, grow_ad hi_a_91]; exact ho_a_91
  have hi_a_91 : (al.1 8) < al_310.1 8 := by rw [ea_313, grow_ct]; omega
  have ho_o : al_310.2 0 i0 = o := by rw [ea_313, grow_ad hi_o]; exact ho_o
  have hi_o : i0 < al_310.1 0 := by rw [ea_313, grow_ct]; omega
  have ho_a_309 : al_310.2 29 (al.1 29) = a_309 := hn9
  have hi_a_309 : (al.1 29) < al_310.1 29 := by rw [ea_313, grow_ct, hc_316]; simp
  have hN : NN 0 i0 [33, 32, 31, 29, 28, 27, 26, 25, 23, 22, 21, 19, 18, 17, 16, 15, 14, 13, 12, 11, 10, 9, 8, 7, 4, 3, 2, 1] rv_312 := hN.keep (fun k => by rw [er_315]; exact clr_ne (fun z => absurd z.1 (by decide)))
  have hE := hE9
  have hR := hR9
  have hB := hB9
  refine W.widen (k := 29) (n := 997) (Nat.le_of_ble_eq_true rfl) (Nat.le_of_ble_eq_true rfl) ?_
  refine W.eq (g2 := F0 m 299 ls [.ref (al_310.2 29 (al.1 29)), .ref (al_310.2 0 i0)]) (by rw [ho_a_309, ho_o]) ?_
  refine q_putr (t := 0) (i := i0) (k := 34) (t' := 29) (j := (al.1 29)) C hU hS k_0 (hc := rfl) uwX12 tyX12 tyX12_ok nmX12 hi_o (by decide) rfl (Or.inr ⟨rfl, hnm, rfl⟩) rfl fl_X12_95 dX12_init_299 (fun _ => rfl) (fun _ => rfl) (fun H locs hU hS => ?_)
  have hz : sz ≤ H.size := Nat.le_trans hz0 hS.1
  obtain ⟨rv_317, er_318⟩ : ∃ z, z = up3 rv_312 0 i0 34 (some (al.1 29)) := ⟨_, rfl⟩
  rw [← er_318] at hU
  have hB : RB al_310 rv_317 := by rw [er_318]; exact hB.put rfl hi_a_309
  have hE := hE.putr (t := 0) (i := i0) (k := 34) (x := some (al.1 29)) (by decide)
  rw [← er_318] at hE
  have hN : NN 0 i0 [34, 33, 32, 31, 29, 28, 27, 26, 25, 23, 22, 21, 19, 18, 17, 16, 15, 14, 13, 12, 11, 10, 9, 8, 7, 4, 3, 2, 1] rv_317 := by rw [er_318]; exact hN.put 34 (al.1 29)
  refine lv_aload_n hx hb dX12_init_302 rfl (lv_at hl 0 rfl) ?_
  refine lv_bipush (v := 40) hx hb dX12_init_303 (by decide) ?_
  refine q_newp (t := 30) (ty := .boolean) C hU hS hB hz rfl (Or.inr rfl) k_30 (fun _ => rfl) ac_boolean (by decide) (by decide) (by decide) (Nat.le_of_ble_eq_true rfl) (Nat.le_of_ble_eq_true rfl) dX12_init_305 (fun a_319 H hU hS hz => ?_)
  have hc_326 : al_310.1 30 = al.1 30 := hE.1 30
  have hE9 := hE.new 30 a_319
  have hR9 := hR.new 30 a_319
  have hB9 := hB.new 30 a_319
  have hn9 := grow_new (al := al_310) (t := 30) (a := a_319)
  rw [hc_326] at hU hE9 hR9 hB9 hn9
  obtain ⟨al_320, ea_323⟩ : ∃ z, z = grow al_310 30 a_319 := ⟨_, rfl⟩
  obtain ⟨iv_321, ei_324⟩ : ∃ z, z = clr iv_311 30 (al.1 30) 0 := ⟨_, rfl⟩
  obtain ⟨rv_322, er_325⟩ : ∃ z, z = clr rv_317 30 (al.1 30) none := ⟨_, rfl⟩
  rw [← ea_323] at hU hE9 hR9 hB9 hn9
  rw [← ei_324] at hU hE9 hR9
  rw [← er_325] at hU hE9 hB9
  have ho_a_1 : al_320.2 1 (al.1 1) = a_1 := by rw [ea_323, grow_ad hi_a_1]; exact ho_a_1
  have hi_a_1 : (al.1 1) < al_320.1 1 := by rw [ea_323, grow_ct]; omega
  have ho_a_101 : al_320.2 9 (al.1 9) = a_101 := by rw [ea_323, grow_ad hi_a_101]; exact ho_a_101
  have hi_a_101 : (al.1 9) < al_320.1 9 := by rw [ea_323, grow_ct]; omega
  have ho_a_11 : al_320.2 2 (al.1 2) = a_11 := by rw [ea_323, grow_ad hi_a_11]; exact ho_a_11
  have hi_a_11 : (al.1 2) < al_320.1 2 := by rw [ea_323, grow_ct]; omega
  have ho_a_111 : al_320.2 10 (al.1 10) = a_111 := by rw [ea_323, grow_ad hi_a_111]; exact ho_a_111
  have hi_a_111 : (al.1 10) < al_320.1 10 := by rw [ea_323, grow_ct]; omega
  have ho_a_121 : al_320.2 11 (al.1 11) = a_121 := by rw [ea_323, grow_ad hi_a_121]; exact ho_a_121
  have hi_a_121 : (al.1 11) < al_320.1 11 := by rw [ea_323, grow_ct]; omega
  have ho_a_131 : al_320.2 12 (al.1 12) = a_131 := by rw [ea_323, grow_ad hi_a_131]; exact ho_a_131
  have hi_a_131 : (al.1 12) < al_320.1 12 := by rw [ea_323, grow_ct]; omega
  have ho_a_141 : al_320.2 13 (al.1 13) = a_141 := by rw [ea_323, grow_ad hi_a_141]; exact ho_a_141
  have hi_a_141 : (al.1 13) < al_320.1 13 := by rw [ea_323, grow_ct]; omega
  have ho_a_151 : al_320.2 14 (al.1 14) = a_151 := by rw [ea_323, grow_ad hi_a_151]; exact ho_a_151
  have hi_a_151 : (al.1 14) < al_320.1 14 := by rw [ea_323, grow_ct]; omega
  have ho_a_161 : al_320.2 15 (al.1 15) = a_161 := by rw [ea_323, grow_ad hi_a_161]; exact ho_a_161
  have hi_a_161 : (al.1 15) < al_320.1 15 := by rw [ea_323, grow_ct]; omega
  have ho_a_179 : al_320.2 16 (al.1 16) = a_179 := by rw [ea_323, grow_ad hi_a_179]; exact ho_a_179
  have hi_a_179 : (al.1 16) < al_320.1 16 := by rw [ea_323, grow_ct]; omega
  have ho_a_189 : al_320.2 17 (al.1 17) = a_189 := by rw [ea_323, grow_ad hi_a_189]; exact ho_a_189
  have hi_a_189 : (al.1 17) < al_320.1 17 := by rw [ea_323, grow_ct]; omega
  have ho_a_199 : al_320.2 18 (al.1 18) = a_199 := by rw [ea_323, grow_ad hi_a_199]; exact ho_a_199
  have hi_a_199 : (al.1 18) < al_320.1 18 := by rw [ea_323, grow_ct]; omega
  have ho_a_209 : al_320.2 19 (al.1 19) = a_209 := by rw [ea_323, grow_ad hi_a_209]; exact ho_a_209
  have hi_a_209 : (al.1 19) < al_320.1 19 := by rw [ea_323, grow_ct]; omega
  have ho_a_21 : al_320.2 3 (al.1 3) = a_21 := by rw [ea_323, grow_ad hi_a_21]; exact ho_a_21
  have hi_a_21 : (al.1 3) < al_320.1 3 := by rw [ea_323, grow_ct]; omega
  have ho_a_219 : al_320.2 20 (al.1 20) = a_219 := by rw [ea_323, grow_ad hi_a_219]; exact ho_a_219
  have hi_a_219 : (al.1 20) < al_320.1 20 := by rw [ea_323, grow_ct]; omega
  have ho_a_229 : al_320.2 21 (al.1 21) = a_229 := by rw [ea_323, grow_ad hi_a_229]; exact ho_a_229
  have hi_a_229 : (al.1 21) < al_320.1 21 := by rw [ea_323, grow_ct]; omega
  have ho_a_239 : al_320.2 22 (al.1 22) = a_239 := by rw [ea_323, grow_ad hi_a_239]; exact ho_a_239
  have hi_a_239 : (al.1 22) < al_320.1 22 := by rw [ea_323, grow_ct]; omega
  have ho_a_249 : al_320.2 23 (al.1 23) = a_249 := by rw [ea_323, grow_ad hi_a_249]; exact ho_a_249
  have hi_a_249 : (al.1 23) < al_320.1 23 := by rw [ea_323, grow_ct]; omega
  have ho_a_259 : al_320.2 24 (al.1 24) = a_259 := by rw [ea_323, grow_ad hi_a_259]; exact ho_a_259
  have hi_a_259 : (al.1 24) < al_320.1 24 := by rw [ea_323, grow_ct]; omega
  have ho_a_269 : al_320.2 25 (al.1 25) = a_269 := by rw [ea_323, grow_ad hi_a_269]; exact ho_a_269
  have hi_a_269 : (al.1 25) < al_320.1 25 := by rw [ea_323, grow_ct]; omega
  have ho_a_279 : al_320.2 26 (al.1 26) = a_279 := by rw [ea_323, grow_ad hi_a_279]; exact ho_a_279
  have hi_a_279 : (al.1 26) < al_320.1 26 := by rw [ea_323, grow_ct]; omega
  have ho_a_289 : al_320.2 27 (al.1 27) = a_289 := by rw [ea_323, grow_ad hi_a_289]; exact ho_a_289
  have hi_a_289 : (al.1 27) < al_320.1 27 := by rw [ea_323, grow_ct]; omega
  have ho_a_299 : al_320.2 28 (al.1 28) = a_299 := by rw [ea_323, grow_ad hi_a_299]; exact ho_a_299
  have hi_a_299 : (al.1 28) < al_320.1 28 := by rw [ea_323, grow_ct]; omega
  have ho_a_309 : al_320.2 29 (al.1 29) = a_309 := by rw [ea_323, grow_ad hi_a_309]; exact ho_a_309
  have hi_a_309 : (al.1 29) < al_320.1 29 := by rw [ea_323, grow_ct]; omega
  have ho_a_51 : al_320.2 4 (al.1 4) = a_51 := by rw [ea_323, grow_ad hi_a_51]; exact ho_a_51
  have hi_a_51 : (al.1 4) < al_320.1 4 := by rw [ea_323, grow_ct]; omega
  have ho_a_61 : al_320.2 5 (al.1 5) = a_61 := by rw [ea_323, grow_ad hi_a_61]; exact ho_a_61
  have hi_a_61 : (al.1 5) < al_320.1 5 := by rw [ea_323, grow_ct]; omega
  have ho_a_71 : al_320.2 6 (al.1 6) = a_71 := by rw [ea_323, grow_ad hi_a_71]; exact ho_a_71
  have hi_a_71 : (al.1 6) < al_320.1 6 := by rw [ea_323, grow_ct]; omega
  have ho_a_81 : al_320.2 7 (al.1 7) = a_81 := by rw [ea_323, grow_ad hi_a_81]; exact ho_a_81
  have hi_a_81 : (al.1 7) < al_320.1 7 := by rw [ea_323, grow_ct]; omega
  have ho_a_91 : al_320.2 8 (al.1 8) = a_91 := by rw [ea_323, grow_ad hi_a_91]; exact ho_a_91
  have hi_a_91 : (al.1 8) < al_320.1 8 := by rw [ea_323, grow_ct]; omega
  have ho_o : al_320.2 0 i0 = o := by rw [ea_323, grow_ad hi_o]; exact ho_o
  have hi_o : i0 < al_320.1 0 := by rw [ea_323, grow_ct]; omega
  have ho_a_319 : al_320.2 30 (al.1 30) = a_319 := hn9
  have hi_a_319 : (al.1 30) < al_320.1 30 := by rw [ea_323, grow_ct, hc_326]; simp
  have hN : NN 0 i0 [34, 33, 32, 31, 29, 28, 27, 26, 25, 23, 22, 21, 19, 18, 17, 16, 15, 14, 13, 12, 11, 10, 9, 8, 7, 4, 3, 2, 1] rv_322 := hN.keep (fun k => by rw [er_325]; exact clr_ne (fun z => absurd z.1 (by decide)))
  have hE := hE9
  have hR := hR9
  have hB := hB9
  refine W.widen (k := 30) (n := 1037) (Nat.le_of_ble_eq_true rfl) (Nat.le_of_ble_eq_true rfl) ?_
  refine W.eq (g2 := F0 m 307 ls [.ref (al_320.2 30 (al.1 30)), .ref (al_320.2 0 i0)]) (by rw [ho_a_319, ho_o]) ?_
  refine q_putr (t := 0) (i := i0) (k := 35) (t' := 30) (j := (al.1 30)) C hU hS k_0 (hc := rfl) uwX12 tyX12 tyX12_ok nmX12 hi_o (by decide) rfl (Or.inr ⟨rfl, hnm, rfl⟩) rfl fl_X12_98 dX12_init_307 (fun _ => rfl) (fun _ => rfl) (fun H locs hU hS => ?_)
  have hz : sz ≤ H.size := Nat.le_trans hz0 hS.1
  obtain ⟨rv_327, er_328⟩ : ∃ z, z = up3 rv_322 0 i0 35 (some (al.1 30)) := ⟨_, rfl⟩
  rw [← er_328] at hU
  have hB : RB al_320 rv_327 := by rw [er_328]; exact hB.put rfl hi_a_319
  have hE := hE.putr (t := 0) (i := i0) (k := 35) (x := some (al.1 30)) (by decide)
  rw [← er_328] at hE
  have hN : NN 0 i0 [35, 34, 33, 32, 31, 29, 28, 27, 26, 25, 23, 22, 21, 19, 18, 17, 16, 15, 14, 13, 12, 11, 10, 9, 8, 7, 4, 3, 2, 1] rv_327 := by rw [er_328]; exact hN.put 35 (al.1 30)
  refine lv_aload_n hx hb dX12_init_310 rfl (lv_at hl 0 rfl) ?_
  refine lv_iconst (v := 4) hx hb dX12_init_311 (by decide) ?_
  refine q_newp (t := 31) (ty := .int) C hU hS hB hz rfl (Or.inl rfl) k_31 (fun _ => rfl) ac_int (by decide) (by decide) (by decide) (Nat.le_of_ble_eq_true rfl) (Nat.le_of_ble_eq_true rfl) dX12_init_312 (fun a_329 H hU hS hz => ?_)
  have hc_336 : al_320.1 31 = al.1 31 := hE.1 31
  have hE9 := hE.new 31 a_329
  have hR9 := hR.new 31 a_329
  have hB9 := hB.new 31 a_329
  have hn9 := grow_new (al := al_320) (t := 31) (a := a_329)
  rw [hc_336] at hU hE9 hR9 hB9 hn9
  obtain ⟨al_330, ea_333⟩ : ∃ z, z = grow al_320 31 a_329 := ⟨_, rfl⟩
  obtain ⟨iv_331, ei_334⟩ : ∃ z, z = clr iv_321 31 (al.1 31) 0 := ⟨_, rfl⟩
  obtain ⟨rv_332, er_335⟩ : ∃ z, z = clr rv_327 31 (al.1 31) none := ⟨_, rfl⟩
  rw [← ea_333] at hU hE9 hR9 hB9 hn9
  rw [← ei_334] at hU hE9 hR9
  rw [← er_335] at hU hE9 hB9
  have ho_a_1 : al_330.2 1 (al.1 1) = a_1 := by rw [ea_333, grow_ad hi_a_1]; exact ho_a_1
  have hi_a_1 : (al.1 1) < al_330.1 1 := by rw [ea_333, grow_ct]; omega
  have ho_a_101 : al_330.2 9 (al.1 9) = a_101 := by rw [ea_333, grow_ad hi_a_101]; exact ho_a_101
  have hi_a_101 : (al.1 9) < al_330.1 9 := by rw [ea_333, grow_ct]; omega
  have ho_a_11 : al_330.2 2 (al.1 2) = a_11 := by rw [ea_333, grow_ad hi_a_11]; exact ho_a_11
  have hi_a_11 : (al.1 2) < al_330.1 2 := by rw [ea_333, grow_ct]; omega
  have ho_a_111 : al_330.2 10 (al.1 10) = a_111 := by rw [ea_333, grow_ad hi_a_111]; exact ho_a_111
  have hi_a_111 : (al.1 10) < al_330.1 10 := by rw [ea_333, grow_ct]; omega
  have ho_a_121 : al_330.2 11 (al.1 11) = a_121 := by rw [ea_333, grow_ad hi_a_121]; exact ho_a_121
  have hi_a_121 : (al.1 11) < al_330.1 11 := by rw [ea_333, grow_ct]; omega
  have ho_a_131 : al_330.2 12 (al.1 12) = a_131 := by rw [ea_333, grow_ad hi_a_131]; exact ho_a_131
  have hi_a_131 : (al.1 12) < al_330.1 12 := by rw [ea_333, grow_ct]; omega
  have ho_a_141 : al_330.2 13 (al.1 13) = a_141 := by rw [ea_333, grow_ad hi_a_141]; exact ho_a_141
  have hi_a_141 : (al.1 13) < al_330.1 13 := by rw [ea_333, grow_ct]; omega
  have ho_a_151 : al_330.2 14 (al.1 14) = a_151 := by rw [ea_333, grow_ad hi_a_151]; exact ho_a_151
  have hi_a_151 : (al.1 14) < al_330.1 14 := by rw [ea_333, grow_ct]; omega
  have ho_a_161 : al_330.2 15 (al.1 15) = a_161 := by rw [ea_333, grow_ad hi_a_161]; exact ho_a_161
  have hi_a_161 : (al.1 15) < al_330.1 15 := by rw [ea_333, grow_ct]; omega
  have ho_a_179 : al_330.2 16 (al.1 16) = a_179 := by rw [ea_333, grow_ad hi_a_179]; exact ho_a_179
  have hi_a_179 : (al.1 16) < al_330.1 16 := by rw [ea_333, grow_ct]; omega
  have ho_a_189 : al_330.2 17 (al.1 17) = a_189 := by rw [ea_333, grow_ad hi_a_189]; exact ho_a_189
  have hi_a_189 : (al.1 17) < al_330.1 17 := by rw [ea_333, grow_ct]; omega
  have ho_a_199 : al_330.2 18 (al.1 18) = a_199 := by rw [ea_333, grow_ad hi_a_199]; exact ho_a_199
  have hi_a_199 : (al.1 18) < al_330.1 18 := by rw [ea_333, grow_ct]; omega
  have ho_a_209 : al_330.2 19 (al.1 19) = a_209 := by rw [ea_333, grow_ad hi_a_209]; exact ho_a_209
  have hi_a_209 : (al.1 19) < al_330.1 19 := by rw [ea_333, grow_ct]; omega
  have ho_a_21 : al_330.2 3 (al.1 3) = a_21 := by rw [ea_333, grow_ad hi_a_21]; exact ho_a_21
  have hi_a_21 : (al.1 3) < al_330.1 3 := by rw [ea_333, grow_ct]; omega
  have ho_a_219 : al_330.2 20 (al.1 20) = a_219 := by rw [ea_333, grow_ad hi_a_219]; exact ho_a_219
  have hi_a_219 : (al.1 20) < al_330.1 20 := by rw [ea_333, grow_ct]; omega
  have ho_a_229 : al_330.2 21 (al.1 21) = a_229 := by rw [ea_333, grow_ad hi_a_229]; exact ho_a_229
  have hi_a_229 : (al.1 21) < al_330.1 21 := by rw [ea_333, grow_ct]; omega
  have ho_a_239 : al_330.2 22 (al.1 22) = a_239 := by rw [ea_333, grow_ad hi_a_239]; exact ho_a_239
  have hi_a_239 : (al.1 22) < al_330.1 22 := by rw [ea_333, grow_ct]; omega
  have ho_a_249 : al_330.2 23 (al.1 23) = a_249 := by rw [ea_333, grow_ad hi_a_249]; exact ho_a_249
  have hi_a_249 : (al.1 23) < al_330.1 23 := by rw [ea_333, grow_ct]; omega
  have ho_a_259 : al_330.2 24 (al.1 24) = a_259 := by rw [ea_333, grow_ad hi_a_259]; exact ho_a_259
  have hi_a_259 : (al.1 24) < al_330.1 24 := by rw [ea_333, grow_ct]; omega
  have ho_a_269 : al_330.2 25 (al.1 25) = a_269 := by rw [ea_333, grow_ad hi_a_269]; exact ho_a_269
  have hi_a_269 : (al.1 25) < al_330.1 25 := by rw [ea_333, grow_ct]; omega
  have ho_a_279 : al_330.2 26 (al.1 26) = a_279 := by rw [ea_333, grow_ad hi_a_279]; exact ho_a_279
  have hi_a_279 : (al.1 26) < al_330.1 26 := by rw [ea_333, grow_ct]; omega
  have ho_a_289 : al_330.2 27 (al.1 27) = a_289 := by rw [ea_333, grow_ad hi_a_289]; exact ho_a_289
  have hi_a_289 : (al.1 27) < al_330.1 27 := by rw [ea_333, grow_ct]; omega
  have ho_a_299 : al_330.2 28 (al.1 28) = a_299 := by rw [ea_333, grow_ad hi_a_299]; exact ho_a_299
  have hi_a_299 : (al.1 28) < al_330.1 28 := by rw [ea_333, grow_ct]; omega
  have ho_a_309 : al_330.2 29 (al.1 29) = a_309 := by rw [ea_333, grow_ad hi_a_309]; exact ho_a_309
  have hi_a_309 : (al.1 29) < al_330.1 29 := by rw [ea_333, grow_ct]; omega
  have ho_a_319 : al_330.2 30 (al.1 30) = a_319 := by rw [ea_333, grow_ad hi_a_319]; exact ho_a_319
  have hi_a_319 : (al.1 30) < al_330.1 30 := by rw [ea_333, grow_ct]; omega
  have ho_a_51 : al_330.2 4 (al.1 4) = a_51 := by rw [ea_333, grow_ad hi_a_51]; exact ho_a_51
  have hi_a_51 : (al.1 4) < al_330.1 4 := by rw [ea_333, grow_ct]; omega
  have ho_a_61 : al_330.2 5 (al.1 5) = a_61 := by rw [ea_333, grow_ad hi_a_61]; exact ho_a_61
  have hi_a_61 : (al.1 5) < al_330.1 5 := by rw [ea_333, grow_ct]; omega
  have ho_a_71 : al_330.2 6 (al.1 6) = a_71 := by rw [ea_333, grow_ad hi_a_71]; exact ho_a_71
  have hi_a_71 : (al.1 6) < al_330.1 6 := by rw [ea_333, grow_ct]; omega
  have ho_a_81 : al_330.2 7 (al.1 7) = a_81 := by rw [ea_333, grow_ad hi_a_81]; exact ho_a_81
  have hi_a_81 : (al.1 7) < al_330.1 7 := by rw [ea_333, grow_ct]; omega
  have ho_a_91 : al_330.2 8 (al.1 8) = a_91 := by rw [ea_333, grow_ad hi_a_91]; exact ho_a_91
  have hi_a_91 : (al.1 8) < al_330.1 8 := by rw [ea_333, grow_ct]; omega
  have ho_o : al_330.2 0 i0 = o := by rw [ea_333, grow_ad hi_o]; exact ho_o
  have hi_o : i0 < al_330.1 0 := by rw [ea_333, grow_ct]; omega
  have ho_a_329 : al_330.2 31 (al.1 31) = a_329 := hn9
  have hi_a_329 : (al.1 31) < al_330.1 31 := by rw [ea_333, grow_ct, hc_336]; simp
  have hN : NN 0 i0 [35, 34, 33, 32, 31, 29, 28, 27, 26, 25, 23, 22, 21, 19, 18, 17, 16, 15, 14, 13, 12, 11, 10, 9, 8, 7, 4, 3, 2, 1] rv_332 := hN.keep (fun k => by rw [er_335]; exact clr_ne (fun z => absurd z.1 (by decide)))
  have hE := hE9
  have hR := hR9
  have hB := hB9
  refine W.widen (k := 31) (n := 1041) (Nat.le_of_ble_eq_true rfl) (Nat.le_of_ble_eq_true rfl) ?_
  refine W.eq (g2 := F0 m 314 ls [.ref (al_330.2 31 (al.1 31)), .ref (al_330.2 0 i0)]) (by rw [ho_a_329, ho_o]) ?_
  refine q_putr (t := 0) (i := i0) (k := 36) (t' := 31) (j := (al.1 31)) C hU hS k_0 (hc := rfl) uwX12 tyX12 tyX12_ok nmX12 hi_o (by decide) rfl (Or.inr ⟨rfl, hnm, rfl⟩) rfl fl_X12_101 dX12_init_314 (fun _ => rfl) (fun _ => rfl) (fun H locs hU hS => ?_)
  have hz : sz ≤ H.size := Nat.le_trans hz0 hS.1
  obtain ⟨rv_337, er_338⟩ : ∃ z, z = up3 rv_332 0 i0 36 (some (al.1 31)) := ⟨_, rfl⟩
  rw [← er_338] at hU
  have hB : RB al_330 rv_337 := by rw [er_338]; exact hB.put rfl hi_a_329
  have hE := hE.putr (t := 0) (i := i0) (k := 36) (x := some (al.1 31)) (by decide)
  rw [← er_338] at hE
  have hN : NN 0 i0 [36, 35, 34, 33, 32, 31, 29, 28, 27, 26, 25, 23, 22, 21, 19, 18, 17, 16, 15, 14, 13, 12, 11, 10, 9, 8, 7, 4, 3, 2, 1] rv_337 := by rw [er_338]; exact hN.put 36 (al.1 31)
  refine lv_aload_n hx hb dX12_init_317 rfl (lv_at hl 0 rfl) ?_
  refine lv_bipush (v := 20) hx hb dX12_init_318 (by decide) ?_
  refine q_newp (t := 32) (ty := .int) C hU hS hB hz rfl (Or.inl rfl) k_32 (fun _ => rfl) ac_int (by decide) (by decide) (by decide) (Nat.le_of_ble_eq_true rfl) (Nat.le_of_ble_eq_true rfl) dX12_init_320 (fun a_339 H hU hS hz => ?_)
  have hc_346 : al_330.1 32 = al.1 32 := hE.1 32
  have hE9 := hE.new 32 a_339
  have hR9 := hR.new 32 a_339
  have hB9 := hB.new 32 a_339
  have hn9 := grow_new (al := al_330) (t := 32) (a := a_339)
  rw [hc_346] at hU hE9 hR9 hB9 hn9
  obtain ⟨al_340, ea_343⟩ : ∃ z, z = grow al_330 32 a_339 := ⟨_, rfl⟩
  obtain ⟨iv_341, ei_344⟩ : ∃ z, z = clr iv_331 32 (al.1 32) 0 := ⟨_, rfl⟩
  obtain ⟨rv_342, er_345⟩ : ∃ z, z = clr rv_337 32 (al.1 32) none := ⟨_, rfl⟩
  rw [← ea_343] at hU hE9 hR9 hB9 hn9
  rw [← ei_344] at hU hE9 hR9
  rw [← er_345] at hU hE9 hB9
  have ho_a_1 : al_340.2 1 (al.1 1) = a_1 := by rw [ea_343, grow_ad hi_a_1]; exact ho_a_1
  have hi_a_1 : (al.1 1) < al_340.1 1 := by rw [ea_343, grow_ct]; omega
  have ho_a_101 : al_340.2 9 (al.1 9) = a_101 := by rw [ea_343, grow_ad hi_a_101]; exact ho_a_101
  have hi_a_101 : (al.1 9) < al_340.1 9 := by rw [ea_343, grow_ct]; omega
  have ho_a_11 : al_340.2 2 (al.1 2) = a_11 := by rw [ea_343, grow_ad hi_a_11]; exact ho_a_11
  have hi_a_11 : (al.1 2) < al_340.1 2 := by rw [ea_343, grow_ct]; omega
  have ho_a_111 : al_340.2 10 (al.1 10) = a_111 := by rw [ea_343, grow_ad hi_a_111]; exact ho_a_111
  have hi_a_111 : (al.1 10) < al_340.1 10 := by rw [ea_343, grow_ct]; omega
  have ho_a_121 : al_340.2 11 (al.1 11) = a_121 := by rw [ea_343, grow_ad hi_a_121]; exact ho_a_121
  have hi_a_121 : (al.1 11) < al_340.1 11 := by rw [ea_343, grow_ct]; omega
  have ho_a_131 : al_340.2 12 (al.1 12) = a_131 := by rw [ea_343, grow_ad hi_a_131]; exact ho_a_131
  have hi_a_131 : (al.1 12) < al_340.1 12 := by rw [ea_343, grow_ct]; omega
  have ho_a_141 : al_340.2 13 (al.1 13) = a_141 := by rw [ea_343, grow_ad hi_a_141]; exact ho_a_141
  have hi_a_141 : (al.1 13) < al_340.1 13 := by rw [ea_343, grow_ct]; omega
  have ho_a_151 : al_340.2 14 (al.1 14) = a_151 := by rw [ea_343, grow_ad hi_a_151]; exact ho_a_151
  have hi_a_151 : (al.1 14) < al_340.1 14 := by rw [ea_343, grow_ct]; omega
  have ho_a_161 : al_340.2 15 (al.1 15) = a_161 := by rw [ea_343, grow_ad hi_a_161]; exact ho_a_161
  have hi_a_161 : (al.1 15) < al_340.1 15 := by rw [ea_343, grow_ct]; omega
  have ho_a_179 : al_340.2 16 (al.1 16) = a_179 := by rw [ea_343, grow_ad hi_a_179]; exact ho_a_179
  have hi_a_179 : (al.1 16) < al_340.1 16 := by rw [ea_343, grow_ct]; omega
  have ho_a_189 : al_340.2 17 (al.1 17) = a_189 := by rw [ea_343, grow_ad hi_a_189]; exact ho_a_189
  have hi_a_189 : (al.1 17) < al_340.1 17 := by rw [ea_343, grow_ct]; omega
  have ho_a_199 : al_340.2 18 (al.1 18) = a_199 := by rw [ea_343, grow_ad hi_a_199]; exact ho_a_199
  have hi_a_199 : (al.1 18) < al_340.1 18 := by rw [ea_343, grow_ct]; omega
  have ho_a_209 : al_340.2 19 (al.1 19) = a_209 := by rw [ea_343, grow_ad hi_a_209]; exact ho_a_209
  have hi_a_209 : (al.1 19) < al_340.1 19 := by rw [ea_343, grow_ct]; omega
  have ho_a_21 : al_340.2 3 (al.1 3) = a_21 := by rw [ea_343, grow_ad hi_a_21]; exact ho_a_21
  have hi_a_21 : (al.1 3) < al_340.1 3 := by rw [ea_343, grow_ct]; omega
  have ho_a_219 : al_340.2 20 (al.1 20) = a_219 := by rw [ea_343, grow_ad hi_a_219]; exact ho_a_219
  have hi_a_219 : (al.1 20) < al_340.1 20 := by rw [ea_343, grow_ct]; omega
  have ho_a_229 : al_340.2 21 (al.1 21) = a_229 := by rw [ea_343, grow_ad hi_a_229]; exact ho_a_229
  have hi_a_229 : (al.1 21) < al_340.1 21 := by rw [ea_343, grow_ct]; omega
  have ho_a_239 : al_340.2 22 (al.1 22) = a_239 := by rw [ea_343, grow_ad hi_a_239]; exact ho_a_239
  have hi_a_239 : (al.1 22) < al_340.1 22 := by rw [ea_343, grow_ct]; omega
  have ho_a_249 : al_340.2 23 (al.1 23) = a_249 := by rw [ea_343, grow_ad hi_a_249]; exact ho_a_249
  have hi_a_249 : (al.1 23) < al_340.1 23 := by rw [ea_343, grow_ct]; omega
  have ho_a_259 : al_340.2 24 (al.1 24) = a_259 := by rw [ea_343, grow_ad hi_a_259]; exact ho_a_259
  have hi_a_259 : (al.1 24) < al_340.1 24 := by rw [ea_343, grow_ct]; omega
  have ho_a_269 : al_340.2 25 (al.1 25) = a_269 := by rw [ea_343, grow_ad hi_a_269]; exact ho_a_269
  have hi_a_269 : (al.1 25) < al_340.1 25 := by rw [ea_343, grow_ct]; omega
  have ho_a_279 : al_340.2 26 (al.1 26) = a_279 := by rw [ea_343, grow_ad hi_a_279]; exact ho_a_279
  have hi_a_279 : (al.1 26) < al_340.1 26 := by rw [ea_343, grow_ct]; omega
  have ho_a_289 : al_340.2 27 (al.1 27) = a_289 := by rw [ea_343, grow_ad hi_a_289]; exact ho_a_289
  have hi_a_289 : (al.1 27) < al_340.1 27 := by rw [ea_343, grow_ct]; omega
  have ho_a_299 : al_340.2 28 (al.1 28) = a_299 := by rw [ea_343, grow_ad hi_a_299]; exact ho_a_299
  have hi_a_299 : (al.1 28) < al_340.1 28 := by rw [ea_343, grow_ct]; omega
  have ho_a_309 : al_340.2 29 (al.1 29) = a_309 := by rw [ea_343, grow_ad hi_a_309]; exact ho_a_309
  have hi_a_309 : (al.1 29) < al_340.1 29 := by rw [ea_343, grow_ct]; omega
  have ho_a_319 : al_340.2 30 (al.1 30) = a_319 := by rw [ea_343, grow_ad hi_a_319]; exact ho_a_319
  have hi_a_319 : (al.1 30) < al_340.1 30 := by rw [ea_343, grow_ct]; omega
  have ho_a_329 : al_340.2 31 (al.1 31) = a_329 := by rw [ea_343, grow_ad hi_a_329]; exact ho_a_329
  have hi_a_329 : (al.1 31) < al_340.1 31 := by rw [ea_343, grow_ct]; omega
  have ho_a_51 : al_340.2 4 (al.1 4) = a_51 := by rw [ea_343, grow_ad hi_a_51]; exact ho_a_51
  have hi_a_51 : (al.1 4) < al_340.1 4 := by rw [ea_343, grow_ct]; omega
  have ho_a_61 : al_340.2 5 (al.1 5) = a_61 := by rw [ea_343, grow_ad hi_a_61]; exact ho_a_61
  have hi_a_61 : (al.1 5) < al_340.1 5 := by rw [ea_343, grow_ct]; omega
  have ho_a_71 : al_340.2 6 (al.1 6) = a_71 := by rw [ea_343, grow_ad hi_a_71]; exact ho_a_71
  have hi_a_71 : (al.1 6) < al_340.1 6 := by rw [ea_343, grow_ct]; omega
  have ho_a_81 : al_340.2 7 (al.1 7) = a_81 := by rw [ea_343, grow_ad hi_a_81]; exact ho_a_81
  have hi_a_81 : (al.1 7) < al_340.1 7 := by rw [ea_343, grow_ct]; omega
  have ho_a_91 : al_340.2 8 (al.1 8) = a_91 := by rw [ea_343, grow_ad hi_a_91]; exact ho_a_91
  have hi_a_91 : (al.1 8) < al_340.1 8 := by rw [ea_343, grow_ct]; omega
  have ho_o : al_340.2 0 i0 = o := by rw [ea_343, grow_ad hi_o]; exact ho_o
  have hi_o : i0 < al_340.1 0 := by rw [ea_343, grow_ct]; omega
  have ho_a_339 : al_340.2 32 (al.1 32) = a_339 := hn9
  have hi_a_339 : (al.1 32) < al_340.1 32 := by rw [ea_343, grow_ct, hc_346]; simp
  have hN : NN 0 i0 [36, 35, 34, 33, 32, 31, 29, 28, 27, 26, 25, 23, 22, 21, 19, 18, 17, 16, 15, 14, 13, 12, 11, 10, 9, 8, 7, 4, 3, 2, 1] rv_342 := hN.keep (fun k => by rw [er_345]; exact clr_ne (fun z => absurd z.1 (by decide)))
  have hE := hE9
  have hR := hR9
  have hB := hB9
  refine W.widen (k := 32) (n := 1061) (Nat.le_of_ble_eq_true rfl) (Nat.le_of_ble_eq_true rfl) ?_
  refine W.eq (g2 := F0 m 322 ls [.ref (al_340.2 32 (al.1 32)), .ref (al_340.2 0 i0)]) (by rw [ho_a_339, ho_o]) ?_
  refine q_putr (t := 0) (i := i0) (k := 38) (t' := 32) (j := (al.1 32)) C hU hS k_0 (hc := rfl) uwX12 tyX12 tyX12_ok nmX12 hi_o (by decide) rfl (Or.inr ⟨rfl, hnm, rfl⟩) rfl fl_X12_104 dX12_init_322 (fun _ => rfl) (fun _ => rfl) (fun H locs hU hS => ?_)
  have hz : sz ≤ H.size := Nat.le_trans hz0 hS.1
  obtain ⟨rv_347, er_348⟩ : ∃ z, z = up3 rv_342 0 i0 38 (some (al.1 32)) := ⟨_, rfl⟩
  rw [← er_348] at hU
  have hB : RB al_340 rv_347 := by rw [er_348]; exact hB.put rfl hi_a_339
  have hE := hE.putr (t := 0) (i := i0) (k := 38) (x := some (al.1 32)) (by decide)
  rw [← er_348] at hE
  have hN : NN 0 i0 [38, 36, 35, 34, 33, 32, 31, 29, 28, 27, 26, 25, 23, 22, 21, 19, 18, 17, 16, 15, 14, 13, 12, 11, 10, 9, 8, 7, 4, 3, 2, 1] rv_347 := by rw [er_348]; exact hN.put 38 (al.1 32)
  refine lv_aload_n hx hb dX12_init_325 rfl (lv_at hl 0 rfl) ?_
  refine lv_bipush (v := 20) hx hb dX12_init_326 (by decide) ?_
  refine q_newp (t := 33) (ty := .int) C hU hS hB hz rfl (Or.inl rfl) k_33 (fun _ => rfl) ac_int (by decide) (by decide) (by decide) (Nat.le_of_ble_eq_true rfl) (Nat.le_of_ble_eq_true rfl) dX12_init_328 (fun a_349 H hU hS hz => ?_)
  have hc_356 : al_340.1 33 = al.1 33 := hE.1 33
  have hE9 := hE.new 33 a_349
  have hR9 := hR.new 33 a_349
  have hB9 := hB.new 33 a_349
  have hn9 := grow_new (al := al_340) (t := 33) (a := a_349)
  rw [hc_356] at hU hE9 hR9 hB9 hn9
  obtain ⟨al_350, ea_353⟩ : ∃ z, z = grow al_340 33 a_349 := ⟨_, rfl⟩
  obtain ⟨iv_351, ei_354⟩ : ∃ z, z = clr iv_341 33 (al.1 33) 0 := ⟨_, rfl⟩
  obtain ⟨rv_352, er_355⟩ : ∃ z, z = clr rv_347 33 (al.1 33) none := ⟨_, rfl⟩
  rw [← ea_353] at hU hE9 hR9 hB9 hn9
  rw [← ei_354] at hU hE9 hR9
  rw [← er_355] at hU hE9 hB9
  have ho_a_1 : al_350.2 1 (al.1 1) = a_1 := by rw [ea_353, grow_ad hi_a_1]; exact ho_a_1
  have hi_a_1 : (al.1 1) < al_350.1 1 := by rw [ea_353, grow_ct]; omega
  have ho_a_101 : al_350.2 9 (al.1 9) = a_101 := by rw [ea_353, grow_ad hi_a_101]; exact ho_a_101
  have hi_a_101 : (al.1 9) < al_350.1 9 := by rw [ea_353, grow_ct]; omega
  have ho_a_11 : al_350.2 2 (al.1 2) = a_11 := by rw [ea_353, grow_ad hi_a_11]; exact ho_a_11
  have hi_a_11 : (al.1 2) < al_350.1 2 := by rw [ea_353, grow_ct]; omega
  have ho_a_111 : al_350.2 10 (al.1 10) = a_111 := by rw [ea_353, grow_ad hi_a_111]; exact ho_a_111
  have hi_a_111 : (al.1 10) < al_350.1 10 := by rw [ea_353, grow_ct]; omega
  have ho_a_121 : al_350.2 11 (al.1 11) = a_121 := by rw [ea_353, grow_ad hi_a_121]; exact ho_a_121
  have hi_a_121 : (al.1 11) < al_350.1 11 := by rw [ea_353, grow_ct]; omega
  have ho_a_131 : al_350.2 12 (al.1 12) = a_131 := by rw [ea_353, grow_ad hi_a_131]; exact ho_a_131
  have hi_a_131 : (al.1 12) < al_350.1 12 := by rw [ea_353, grow_ct]; omega
  have ho_a_141 : al_350.2 13 (al.1 13) = a_141 := by rw [ea_353, grow_ad hi_a_141]; exact ho_a_141
  have hi_a_141 : (al.1 13) < al_350.1 13 := by rw [ea_353, grow_ct]; omega
  have ho_a_151 : al_350.2 14 (al.1 14) = a_151 := by rw [ea_353, grow_ad hi_a_151]; exact ho_a_151
  have hi_a_151 : (al.1 14) < al_350.1 14 := by rw [ea_353, grow_ct]; omega
  have ho_a_161 : al_350.2 15 (al.1 15) = a_161 := by rw [ea_353, grow_ad hi_a_161]; exact ho_a_161
  have hi_a_161 : (al.1 15) < al_350.1 15 := by rw [ea_353, grow_ct]; omega
  have ho_a_179 : al_350.2 16 (al.1 16) = a_179 := by rw [ea_353, grow_ad hi_a_179]; exact ho_a_179
  have hi_a_179 : (al.1 16) < al_350.1 16 := by rw [ea_353, grow_ct]; omega
  have ho_a_189 : al_350.2 17 (al.1 17) = a_189 := by rw [ea_353, grow_ad hi_a_189]; exact ho_a_189
  have hi_a_189 : (al.1 17) < al_350.1 17 := by rw [ea_353, grow_ct]; omega
  have ho_a_199 : al_350.2 18 (al.1 18) = a_199 := by rw [ea_353, grow_ad hi_a_199]; exact ho_a_199
  have hi_a_199 : (al.1 18) < al_350.1 18 := by rw [ea_353, grow_ct]; omega
  have ho_a_209 : al_350.2 19 (al.1 19) = a_209 := by rw [ea_353, grow_ad hi_a_209]; exact ho_a_209
  have hi_a_209 : (al.1 19) < al_350.1 19 := by rw [ea_353, grow_ct]; omega
  have ho_a_21 : al_350.2 3 (al.1 3) = a_21 := by rw [ea_353, grow_ad hi_a_21]; exact ho_a_21
  have hi_a_21 : (al.1 3) < al_350.1 3 := by rw [ea_353, grow_ct]; omega
  have ho_a_219 : al_350.2 20 (al.1 20) = a_219 := by rw [ea_353, grow_ad hi_a_219]; exact ho_a_219
  have hi_a_219 : (al.1 20) < al_350.1 20 := by rw [ea_353, grow_ct]; omega
  have ho_a_229 : al_350.2 21 (al.1 21) = a_229 := by rw [ea_353, grow_ad hi_a_229]; exact ho_a_229
  have hi_a_229 : (al.1 21) < al_350.1 21 := by rw [ea_353, grow_ct]; omega
  have ho_a_239 : al_350.2 22 (al.1 22) = a_239 := by rw [ea_353, grow_ad hi_a_239]; exact ho_a_239
  have hi_a_239 : (al.1 22) < al_350.1 22 := by rw [ea_353, grow_ct]; omega
  have ho_a_249 : al_350.2 23 (al.1 23) = a_249 := by rw [ea_353, grow_ad hi_a_249]; exact ho_a_249
  have hi_a_249 : (al.1 23) < al_350.1 23 := by rw [ea_353, grow_ct]; omega
  have ho_a_259 : al_350.2 24 (al.1 24) = a_259 := by rw [ea_353, grow_ad hi_a_259]; exact ho_a_259
  have hi_a_259 : (al.1 24) < al_350.1 24 := by rw [ea_353, grow_ct]; omega
  have ho_a_269 : al_350.2 25 (al.1 25) = a_269 := by rw [ea_353, grow_ad hi_a_269]; exact ho_a_269
  have hi_a_269 : (al.1 25) < al_350.1 25 := by rw [ea_353, grow_ct]; omega
  have ho_a_279 : al_350.2 26 (al.1 26) = a_279 := by rw [ea_353, grow_ad hi_a_279]; exact ho_a_279
  have hi_a_279 : (al.1 26) < al_350.1 26 := by rw [ea_353, grow_ct]; omega
  have ho_a_289 : al_350.2 27 (al.1 27) = a_289 := by rw [ea_353, grow_ad hi_a_289]; exact ho_a_289
  have hi_a_289 : (al.1 27) < al_350.1 27 := by rw [ea_353, grow_ct]; omega
  have ho_a_299 : al_350.2 28 (al.1 28) = a_299 := by rw [ea_353, grow_ad hi_a_299]; exact ho_a_299
  have hi_a_299 : (al.1 28) < al_350.1 28 := by rw [ea_353, grow_ct]; omega
  have ho_a_309 : al_350.2 29 (al.1 29) = a_309 := by rw [ea_353, grow_ad hi_a_309]; exact ho_a_309
  have hi_a_309 : (al.1 29) < al_350.1 29 := by rw [ea_353, grow_ct]; omega
  have ho_a_319 : al_350.2 30 (al.1 30) = a_319 := by rw [ea_353, grow_ad hi_a_319]; exact ho_a_319
  have hi_a_319 : (al.1 30) < al_350.1 30 := by rw [ea_353, grow_ct]; omega
  have ho_a_329 : al_350.2 31 (al.1 31) = a_329 := by rw [ea_353, grow_ad hi_a_329]; exact ho_a_329
  have hi_a_329 : (al.1 31) < al_350.1 31 := by rw [ea_353, grow_ct]; omega
  have ho_a_339 : al_350.2 32 (al.1 32) = a_339 := by rw [ea_353, grow_ad hi_a_339]; exact ho_a_339
  have hi_a_339 : (al.1 32) < al_350.1 32 := by rw [ea_353, grow_ct]; omega
  have ho_a_51 : al_350.2 4 (al.1 4) = a_51 := by rw [ea_353, grow_ad hi_a_51]; exact ho_a_51
  have hi_a_51 : (al.1 4) < al_350.1 4 := by rw [ea_353, grow_ct]; omega
  have ho_a_61 : al_350.2 5 (al.1 5) = a_61 := by rw [ea_353, grow_ad hi_a_61]; exact ho_a_61
  have hi_a_61 : (al.1 5) < al_350.1 5 := by rw [ea_353, grow_ct]; omega
  have ho_a_71 : al_350.2 6 (al.1 6) = a_71 := by rw [ea_353, grow_ad hi_a_71]; exact ho_a_71
  have hi_a_71 : (al.1 6) < al_350.1 6 := by rw [ea_353, grow_ct]; omega
  have ho_a_81 : al_350.2 7 (al.1 7) = a_81 := by rw [ea_353, grow_ad hi_a_81]; exact ho_a_81
  have hi_a_81 : (al.1 7) < al_350.1 7 := by rw [ea_353, grow_ct]; omega
  have ho_a_91 : al_350.2 8 (al.1 8) = a_91 := by rw [ea_353, grow_ad hi_a_91]; exact ho_a_91
  have hi_a_91 : (al.1 8) < al_350.1 8 := by rw [ea_353, grow_ct]; omega
  have ho_o : al_350.2 0 i0 = o := by rw [ea_353, grow_ad hi_o]; exact ho_o
  have hi_o : i0 < al_350.1 0 := by rw [ea_353, grow_ct]; omega
  have ho_a_349 : al_350.2 33 (al.1 33) = a_349 := hn9
  have hi_a_349 : (al.1 33) < al_350.1 33 := by rw [ea_353, grow_ct, hc_356]; simp
  have hN : NN 0 i0 [38, 36, 35, 34, 33, 32, 31, 29, 28, 27, 26, 25, 23, 22, 21, 19, 18, 17, 16, 15, 14, 13, 12, 11, 10, 9, 8, 7, 4, 3, 2, 1] rv_352 := hN.keep (fun k => by rw [er_355]; exact clr_ne (fun z => absurd z.1 (by decide)))
  have hE := hE9
  have hR := hR9
  have hB := hB9
  refine W.widen (k := 33) (n := 1081) (Nat.le_of_ble_eq_true rfl) (Nat.le_of_ble_eq_true rfl) ?_
  refine W.eq (g2 := F0 m 330 ls [.ref (al_350.2 33 (al.1 33)), .ref (al_350.2 0 i0)]) (by rw [ho_a_349, ho_o]) ?_
  refine q_putr (t := 0) (i := i0) (k := 39) (t' := 33) (j := (al.1 33)) C hU hS k_0 (hc := rfl) uwX12 tyX12 tyX12_ok nmX12 hi_o (by decide) rfl (Or.inr ⟨rfl, hnm, rfl⟩) rfl fl_X12_107 dX12_init_330 (fun _ => rfl) (fun _ => rfl) (fun H locs hU hS => ?_)
  have hz : sz ≤ H.size := Nat.le_trans hz0 hS.1
  obtain ⟨rv_357, er_358⟩ : ∃ z, z = up3 rv_352 0 i0 39 (some (al.1 33)) := ⟨_, rfl⟩
  rw [← er_358] at hU
  have hB : RB al_350 rv_357 := by rw [er_358]; exact hB.put rfl hi_a_349
  have hE := hE.putr (t := 0) (i := i0) (k := 39) (x := some (al.1 33)) (by decide)
  rw [← er_358] at hE
  have hN : NN 0 i0 [39, 38, 36, 35, 34, 33, 32, 31, 29, 28, 27, 26, 25, 23, 22, 21, 19, 18, 17, 16, 15, 14, 13, 12, 11, 10, 9, 8, 7, 4, 3, 2, 1] rv_357 := by rw [er_358]; exact hN.put 39 (al.1 33)
  refine lv_aload_n hx hb dX12_init_333 rfl (lv_at hl 0 rfl) ?_
  refine lv_bipush (v := 20) hx hb dX12_init_334 (by decide) ?_
  refine q_newp (t := 34) (ty := .int) C hU hS hB hz rfl (Or.inl rfl) k_34 (fun _ => rfl) ac_int (by decide) (by decide) (by decide) (Nat.le_of_ble_eq_true rfl) (Nat.le_of_ble_eq_true rfl) dX12_init_336 (fun a_359 H hU hS hz => ?_)
  have hc_366 : al_350.1 34 = al.1 34 := hE.1 34
  have hE9 := hE.new 34 a_359
  have hR9 := hR.new 34 a_359
  have hB9 := hB.new 34 a_359
  have hn9 := grow_new (al := al_350) (t := 34) (a := a_359)
  rw [hc_366] at hU hE9 hR9 hB9 hn9
  obtain ⟨al_360, ea_363⟩ : ∃ z, z = grow al_350 34 a_359 := ⟨_, rfl⟩
  obtain ⟨iv_361, ei_364⟩ : ∃ z, z = clr iv_351 34 (al.1 34) 0 := ⟨_, rfl⟩
  obtain ⟨rv_362, er_365⟩ : ∃ z, z = clr rv_357 34 (al.1 34) none := ⟨_, rfl⟩
  rw [← ea_363] at hU hE9 hR9 hB9 hn9
  rw [← ei_364] at hU hE9 hR9
  rw [← er_365] at hU hE9 hB9
  have ho_a_1 : al_360.2 1 (al.1 1) = a_1 := by rw [ea_363, grow_ad hi_a_1]; exact ho_a_1
  have hi_a_1 : (al.1 1) < al_360.1 1 := by rw [ea_363, grow_ct]; omega
  have ho_a_101 : al_360.2 9 (al.1 9) = a_101 := by rw [ea_363, grow_ad hi_a_101]; exact ho_a_101
  have hi_a_101 : (al.1 9) < al_360.1 9 := by rw [ea_363, grow_ct]; omega
  have ho_a_11 : al_360.2 2 (al.1 2) = a_11 := by rw [ea_363, grow_ad hi_a_11]; exact ho_a_11
  have hi_a_11 : (al.1 2) < al_360.1 2 := by rw [ea_363, grow_ct]; omega
  have ho_a_111 : al_360.2 10 (al.1 10) = a_111 := by rw [ea_363, grow_ad hi_a_111]; exact ho_a_111
  have hi_a_111 : (al.1 10) < al_360.1 10 := by rw [ea_363, grow_ct]; omega
  have ho_a_121 : al_360.2 11 (al.1 11) = a_121 := by rw [ea_363, grow_ad hi_a_121]; exact ho_a_121
  have hi_a_121 : (al.1 11) < al_360.1 11 := by rw [ea_363, grow_ct]; omega
  have ho_a_131 : al_360.2 12 (al.1 12) = a_131 := by rw [ea_363, grow_ad hi_a_131]; exact ho_a_131
  have hi_a_131 : (al.1 12) < al_360.1 12 := by rw [ea_363, grow_ct]; omega
  have ho_a_141 : al_360.2 13 (al.1 13) = a_141 := by rw [ea_363, grow_ad hi_a_141]; exact ho_a_141
  have hi_a_141 : (al.1 13) < al_360.1 13 := by rw [ea_363, grow_ct]; omega
  have ho_a_151 : al_360.2 14 (al.1 14) = a_151 := by rw [ea_363, grow_ad hi_a_151]; exact ho_a_151
  have hi_a_151 : (al.1 14) < al_360.1 14 := by rw [ea_363, grow_ct]; omega
  have ho_a_161 : al_360.2 15 (al.1 15) = a_161 := by rw [ea_363, grow_ad hi_a_161]; exact ho_a_161
  have hi_a_161 : (al.1 15) < al_360.1 15 := by rw [ea_363, grow_ct]; omega
  have ho_a_179 : al_360.2 16 (al.1 16) = a_179 := by rw [ea_363, grow_ad hi_a_179]; exact ho_a_179
  have hi_a_179 : (al.1 16) < al_360.1 16 := by rw [ea_363, grow_ct]; omega
  have ho_a_189 : al_360.2 17 (al.1 17) = a_189 := by rw [ea_363, grow_ad hi_a_189]; exact ho_a_189
  have hi_a_189 : (al.1 17) < al_360.1 17 := by rw [ea_363, grow_ct]; omega
  have ho_a_199 : al_360.2 18 (al.1 18) = a_199 := by rw [ea_363, grow_ad hi_a_199]; exact ho_a_199
  have hi_a_199 : (al.1 18) < al_360.1 18 := by rw [ea_363, grow_ct]; omega
  have ho_a_209 : al_360.2 19 (al.1 19) = a_209 := by rw [ea_363, grow_ad hi_a_209]; exact ho_a_209
  have hi_a_209 : (al.1 19) < al_360.1 19 := by rw [ea_363, grow_ct]; omega
  have ho_a_21 : al_360.2 3 (al.1 3) = a_21 := by rw [ea_363, grow_ad hi_a_21]; exact ho_a_21
  have hi_a_21 : (al.1 3) < al_360.1 3 := by rw [ea_363, grow_ct]; omega
  have ho_a_219 : al_360.2 20 (al.1 20) = a_219 := by rw [ea_363, grow_ad hi_a_219]; exact ho_a_219
  have hi_a_219 : (al.1 20) < al_360.1 20 := by rw [ea_363, grow_ct]; omega
  have ho_a_229 : al_360.2 21 (al.1 21) = a_229 := by rw [ea_363, grow_ad hi_a_229]; exact ho_a_229
  have hi_a_229 : (al.1 21) < al_360.1 21 := by rw [ea_363, grow_ct]; omega
  have ho_a_239 : al_360.2 22 (al.1 22) = a_239 := by rw [ea_363, grow_ad hi_a_239]; exact ho_a_239
  have hi_a_239 : (al.1 22) < al_360.1 22 := by rw [ea_363, grow_ct]; omega
  have ho_a_249 : al_360.2 23 (al.1 23) = a_249 := by rw [ea_363, grow_ad hi_a_249]; exact ho_a_249
  have hi_a_249 : (al.1 23) < al_360.1 23 := by rw [ea_363, grow_ct]; omega
  have ho_a_259 : al_360.2 24 (al.1 24) = a_259 := by rw [ea_363, grow_ad hi_a_259]; exact ho_a_259
  have hi_a_259 : (al.1 24) < al_360.1 24 := by rw [ea_363, grow_ct]; omega
  have ho_a_269 : al_360.2 25 (al.1 25) = a_269 := by rw [ea_363, grow_ad hi_a_269]; exact ho_a_269
  have hi_a_269 : (al.1 25) < al_360.1 25 := by rw [ea_363, grow_ct]; omega
  have ho_a_279 : al_360.2 26 (al.1 26) = a_279 := by rw [ea_363, grow_ad hi_a_279]; exact ho_a_279
  have hi_a_279 : (al.1 26) < al_360.1 26 := by rw [ea_363, grow_ct]; omega
  have ho_a_289 : al_360.2 27 (al.1 27) = a_289 := by rw [ea_363, grow_ad hi_a_289]; exact ho_a_289
  have hi_a_289 : (al.1 27) < al_360.1 27 := by rw [ea_363, grow_ct]; omega
  have ho_a_299 : al_360.2 28 (al.1 28) = a_299 := by rw [ea_363, grow_ad hi_a_299]; exact ho_a_299
  have hi_a_299 : (al.1 28) < al_360.1 28 := by rw [ea_363, grow_ct]; omega
  have ho_a_309 : al_360.2 29 (al.1 29) = a_309 := by rw [ea_363, grow_ad hi_a_309]; exact ho_a_309
  have hi_a_309 : (al.1 29) < al_360.1 29 := by rw [ea_363, grow_ct]; omega
  have ho_a_319 : al_360.2 30 (al.1 30) = a_319 := by rw [ea_363, grow_ad hi_a_319]; exact ho_a_319
  have hi_a_319 : (al.1 30) < al_360.1 30 := by rw [ea_363, grow_ct]; omega
  have ho_a_329 : al_360.2 31 (al.1 31) = a_329 := by rw [ea_363, grow_ad hi_a_329]; exact ho_a_329
  have hi_a_329 : (al.1 31) < al_360.1 31 := by rw [ea_363, grow_ct]; omega
  have ho_a_339 : al_360.2 32 (al.1 32) = a_339 := by rw [ea_363, grow_ad hi_a_339]; exact ho_a_339
  have hi_a_339 : (al.1 32) < al_360.1 32 := by rw [ea_363, grow_ct]; omega
  have ho_a_349 : al_360.2 33 (al.1 33) = a_349 := by rw [ea_363, grow_ad hi_a_349]; exact ho_a_349
  have hi_a_349 : (al.1 33) < al_360.1 33 := by rw [ea_363, grow_ct]; omega
  have ho_a_51 : al_360.2 4 (al.1 4) = a_51 := by rw [ea_363, grow_ad hi_a_51]; exact ho_a_51
  have hi_a_51 : (al.1 4) < al_360.1 4 := by rw [ea_363, grow_ct]; omega
  have ho_a_61 : al_360.2 5 (al.1 5) = a_61 := by rw [ea_363, grow_ad hi_a_61]; exact ho_a_61
  have hi_a_61 : (al.1 5) < al_360.1 5 := by rw [ea_363, grow_ct]; omega
  have ho_a_71 : al_360.2 6 (al.1 6) = a_71 := by rw [ea_363, grow_ad hi_a_71]; exact ho_a_71
  have hi_a_71 : (al.1 6) < al_360.1 6 := by rw [ea_363, grow_ct]; omega
  have ho_a_81 : al_360.2 7 (al.1 7) = a_81 := by rw [ea_363, grow_ad hi_a_81]; exact ho_a_81
  have hi_a_81 : (al.1 7) < al_360.1 7 := by rw [ea_363, grow_ct]; omega
  have ho_a_91 : al_360.2 8 (al.1 8) = a_91 := by rw [ea_363, grow_ad hi_a_91]; exact ho_a_91
  have hi_a_91 : (al.1 8) < al_360.1 8 := by rw [ea_363, grow_ct]; omega
  have ho_o : al_360.2 0 i0 = o := by rw [ea_363, grow_ad hi_o]; exact ho_o
  have hi_o : i0 < al_360.1 0 := by rw [ea_363, grow_ct]; omega
  have ho_a_359 : al_360.2 34 (al.1 34) = a_359 := hn9
  have hi_a_359 : (al.1 34) < al_360.1 34 := by rw [ea_363, grow_ct, hc_366]; simp
  have hN : NN 0 i0 [39, 38, 36, 35, 34, 33, 32, 31, 29, 28, 27, 26, 25, 23, 22, 21, 19, 18, 17, 16, 15, 14, 13, 12, 11, 10, 9, 8, 7, 4, 3, 2, 1] rv_362 := hN.keep (fun k => by rw [er_365]; exact clr_ne (fun z => absurd z.1 (by decide)))
  have hE := hE9
  have hR := hR9
  have hB := hB9
  refine W.widen (k := 34) (n := 1101) (Nat.le_of_ble_eq_true rfl) (Nat.le_of_ble_eq_true rfl) ?_
  refine W.eq (g2 := F0 m 338 ls [.ref (al_360.2 34 (al.1 34)), .ref (al_360.2 0 i0)]) (by rw [ho_a_359, ho_o]) ?_
  refine q_putr (t := 0) (i := i0) (k := 40) (t' := 34) (j := (al.1 34)) C hU hS k_0 (hc := rfl) uwX12 tyX12 tyX12_ok nmX12 hi_o (by decide) rfl (Or.inr ⟨rfl, hnm, rfl⟩) rfl fl_X12_110 dX12_init_338 (fun _ => rfl) (fun _ => rfl) (fun H locs hU hS => ?_)
  have hz : sz ≤ H.size := Nat.le_trans hz0 hS.1
  obtain ⟨rv_367, er_368⟩ : ∃ z, z = up3 rv_362 0 i0 40 (some (al.1 34)) := ⟨_, rfl⟩
  rw [← er_368] at hU
  have hB : RB al_360 rv_367 := by rw [er_368]; exact hB.put rfl hi_a_359
  have hE := hE.putr (t := 0) (i := i0) (k := 40) (x := some (al.1 34)) (by decide)
  rw [← er_368] at hE
  have hN : NN 0 i0 [40, 39, 38, 36, 35, 34, 33, 32, 31, 29, 28, 27, 26, 25, 23, 22, 21, 19, 18, 17, 16, 15, 14, 13, 12, 11, 10, 9, 8, 7, 4, 3, 2, 1] rv_367 := by rw [er_368]; exact hN.put 40 (al.1 34)
  refine lv_aload_n hx hb dX12_init_341 rfl (lv_at hl 0 rfl) ?_
  refine lv_bipush (v := 30) hx hb dX12_init_342 (by decide) ?_
  refine q_newp (t := 35) (ty := .int) C hU hS hB hz rfl (Or.inl rfl) k_35 (fun _ => rfl) ac_int (by decide) (by decide) (by decide) (Nat.le_of_ble_eq_true rfl) (Nat.le_of_ble_eq_true rfl) dX12_init_344 (fun a_369 H hU hS hz => ?_)
  have hc_376 : al_360.1 35 = al.1 35 := hE.1 35
  have hE9 := hE.new 35 a_369
  have hR9 := hR.new 35 a_369
  have hB9 := hB.new 35 a_369
  have hn9 := grow_new (al := al_360) (t := 35) (a := a_369)
  rw [hc_376] at hU hE9 hR9 hB9 hn9
  obtain ⟨al_370, ea_373⟩ : ∃ z, z = grow al_360 35 a_369 := ⟨_, rfl⟩
  obtain ⟨iv_371, ei_374⟩ : ∃ z, z = clr iv_361 35 (al.1 35) 0 := ⟨_, rfl⟩
  obtain ⟨rv_372, er_375⟩ : ∃ z, z = clr rv_367 35 (al.1 35) none := ⟨_, rfl⟩
  rw [← ea_373] at hU hE9 hR9 hB9 hn9
  rw [← ei_374] at hU hE9 hR9
  rw [← er_375] at hU hE9 hB9
  have ho_a_1 : al_370.2 1 (al.1 1) = a_1 := by rw [ea_373, grow_ad hi_a_1]; exact ho_a_1
  have hi_a_1 : (al.1 1) < al_370.1 1 := by rw [ea_373, grow_ct]; omega
  have ho_a_101 : al_370.2 9 (al.1 9) = a_101 := by rw [ea_373, grow_ad hi_a_101]; exact ho_a_101
  have hi_a_101 : (al.1 9) < al_370.1 9 := by rw [ea_373, grow_ct]; omega
  have ho_a_11 : al_370.2 2 (al.1 2) = a_11 := by rw [ea_373, grow_ad hi_a_11]; exact ho_a_11
  have hi_a_11 : (al.1 2) < al_370.1 2 := by rw [ea_373, grow_ct]; omega
  have ho_a_111 : al_370.2 10 (al.1 10) = a_111 := by rw [ea_373, grow_ad hi_a_111]; exact ho_a_111
  have hi_a_111 : (al.1 10) < al_370.1 10 := by rw [ea_373, grow_ct]; omega
  have ho_a_121 : al_370.2 11 (al.1 11) = a_121 := by rw [ea_373, grow_ad hi_a_121]; exact ho_a_121
  have hi_a_121 : (al.1 11) < al_370.1 11 := by rw [ea_373, grow_ct]; omega
  have ho_a_131 : al_370.2 12 (al.1 12) = a_131 := by rw [ea_373, grow_ad hi_a_131]; exact ho_a_131
  have hi_a_131 : (al.1 12) < al_370.1 12 := by rw [ea_373, grow_ct]; omega
  have ho_a_141 : al_370.2 13 (al.1 13) = a_141 := by rw [ea_373, grow_ad hi_a_141]; exact ho_a_141
  have hi_a_141 : (al.1 13) < al_370.1 13 := by rw [ea_373, grow_ct]; omega
  have ho_a_151 : al_370.2 14 (al.1 14) = a_151 := by rw [ea_373, grow_ad hi_a_151]; exact ho_a_151
  have hi_a_151 : (al.1 14) < al_370.1 14 := by rw [ea_373, grow_ct]; omega
  have ho_a_161 : al_370.2 15 (al.1 15) = a_161 := by rw [ea_373, grow_ad hi_a_161]; exact ho_a_161
  have hi_a_161 : (al.1 15) < al_370.1 15 := by rw [ea_373, grow_ct]; omega
  have ho_a_179 : al_370.2 16 (al.1 16) = a_179 := by rw [ea_373, grow_ad hi_a_179]; exact ho_a_179
  have hi_a_179 : (al.1 16) < al_370.1 16 := by rw [ea_373, grow_ct]; omega
  have ho_a_189 : al_370.2 17 (al.1 17) = a_189 := by rw [ea_373, grow_ad hi_a_189]; exact ho_a_189
  have hi_a_189 : (al.1 17) < al_370.1 17 := by rw [ea_373, grow_ct]; omega
  have ho_a_199 : al_370.2 18 (al.1 18) = a_199 := by rw [ea_373, grow_ad hi_a_199]; exact ho_a_199
  have hi_a_199 : (al.1 18) < al_370.1 18 := by rw [ea_373, grow_ct]; omega
  have ho_a_209 : al_370.2 19 (al.1 19) = a_209 := by rw [ea_373, grow_ad hi_a_209]; exact ho_a_209
  have hi_a_209 : (al.1 19) < al_370.1 19 := by rw [ea_373, grow_ct]; omega
  have ho_a_21 : al_370.2 3 (al.1 3) = a_21 := by rw [ea_373, grow_ad hi_a_21]; exact ho_a_21
  have hi_a_21 : (al.1 3) < al_370.1 3 := by rw [ea_373, grow_ct]; omega
  have ho_a_219 : al_370.2 20 (al.1 20) = a_219 := by rw [ea_373, grow_ad hi_a_219]; exact ho_a_219
  have hi_a_219 : (al.1 20) < al_370.1 20 := by rw [ea_373, grow_ct]; omega
  have ho_a_229 : al_370.2 21 (al.1 21) = a_229 := by rw [ea_373, grow_ad hi_a_229]; exact ho_a_229
  have hi_a_229 : (al.1 21) < al_370.1 21 := by rw [ea_373, grow_ct]; omega
  have ho_a_239 : al_370.2 22 (al.1 22) = a_239 := by rw [ea_373, grow_ad hi_a_239]; exact ho_a_239
  have hi_a_239 : (al.1 22) < al_370.1 22 := by rw [ea_373, grow_ct]; omega
  have ho_a_249 : al_370.2 23 (al.1 23) = a_249 := by rw [ea_373, grow_ad hi_a_249]; exact ho_a_249
  have hi_a_249 : (al.1 23) < al_370.1 23 := by rw [ea_373, grow_ct]; omega
  have ho_a_259 : al_370.2 24 (al.1 24) = a_259 := by rw [ea_373, grow_ad hi_a_259]; exact ho_a_259
  have hi_a_259 : (al.1 24) < al_370.1 24 := by rw [ea_373, grow_ct]; omega
  have ho_a_269 : al_370.2 25 (al.1 25) = a_269 := by rw [ea_373, grow_ad hi_a_269]; exact ho_a_269
  have hi_a_269 : (al.1 25) < al_370.1 25 := by rw [ea_373, grow_ct]; omega
  have ho_a_279 : al_370.2 26 (al.1 26) = a_279 := by rw [ea_373, grow_ad hi_a_279]; exact ho_a_279
  have hi_a_279 : (al.1 26) < al_370.1 26 := by rw [ea_373, grow_ct]; omega
  have ho_a_289 : al_370.2 27 (al.1 27) = a_289 := by rw [ea_373, grow_ad hi_a_289]; exact ho_a_289
  have hi_a_289 : (al.1 27) < al_370.1 27 := by rw [ea_373, grow_ct]; omega
  have ho_a_299 : al_370.2 28 (al.1 28) = a_299 := by rw [ea_373, grow_ad hi_a_299]; exact ho_a_299
  have hi_a_299 : (al.1 28) < al_370.1 28 := by rw [ea_373, grow_ct]; omega
  have ho_a_309 : al_370.2 29 (al.1 29) = a_309 := by rw [ea_373, grow_ad hi_a_309]; exact ho_a_309
  have hi_a_309 : (al.1 29) < al_370.1 29 := by rw [ea_373, grow_ct]; omega
  have ho_a_319 : al_370.2 30 (al.1 30) = a_319 := by rw [ea_373, grow_ad hi_a_319]; exact ho_a_319
  have hi_a_319 : (al.1 30) < al_370.1 30 := by rw [ea_373, grow_ct]; omega
  have ho_a_329 : al_370.2 31 (al.1 31) = a_329 := by rw [ea_373, grow_ad hi_a_329]; exact ho_a_329
  have hi_a_329 : (al.1 31) < al_370.1 31 := by rw [ea_373, grow_ct]; omega
  have ho_a_339 : al_370.2 32 (al.1 32) = a_339 := by rw [ea_373, grow_ad hi_a_339]; exact ho_a_339
  have hi_a_339 : (al.1 32) < al_370.1 32 := by rw [ea_373, grow_ct]; omega
  have ho_a_349 : al_370.2 33 (al.1 33) = a_349 := by rw [ea_373, grow_ad hi_a_349]; exact ho_a_349
  have hi_a_349 : (al.1 33) < al_370.1 33 := by rw [ea_373, grow_ct]; omega
  have ho_a_359 : al_370.2 34 (al.1 34) = a_359 := by rw [ea_373, grow_ad hi_a_359]; exact ho_a_359
  have hi_a_359 : (al.1 34) < al_370.1 34 := by rw [ea_373, grow_ct]; omega
  have ho_a_51 : al_370.2 4 (al.1 4) = a_51 := by rw [ea_373, grow_ad hi_a_51]; exact ho_a_51
  have hi_a_51 : (al.1 4) < al_370.1 4 := by rw [ea_373, grow_ct]; omega
  have ho_a_61 : al_370.2 5 (al.1 5) = a_61 := by rw [ea_373, grow_ad hi_a_61]; exact ho_a_61
  have hi_a_61 : (al.1 5) < al_370.1 5 := by rw [ea_373, grow_ct]; omega
  have ho_a_71 : al_370.2 6 (al.1 6) = a_71 := by rw [ea_373, grow_ad hi_a_71]; exact ho_a_71
  have hi_a_71 : (al.1 6) < al_370.1 6 := by rw [ea_373, grow_ct]; omega
  have ho_a_81 : al_370.2 7 (al.1 7) = a_81 := by rw [ea_373, grow_ad hi_a_81]; exact ho_a_81
  have hi_a_81 : (al.1 7) < al_370.1 7 := by rw [ea_373, grow_ct]; omega
  have ho_a_91 : al_370.2 8 (al.1 8) = a_91 := by rw [ea_373, grow_ad hi_a_91]; exact ho_a_91
  have hi_a_91 : (al.1 8) < al_370.1 8 := by rw [ea_373, grow_ct]; omega
  have ho_o : al_370.2 0 i0 = o := by rw [ea_373, grow_ad hi_o]; exact ho_o
  have hi_o : i0 < al_370.1 0 := by rw [ea_373, grow_ct]; omega
  have ho_a_369 : al_370.2 35 (al.1 35) = a_369 := hn9
  have hi_a_369 : (al.1 35) < al_370.1 35 := by rw [ea_373, grow_ct, hc_376]; simp
  have hN : NN 0 i0 [40, 39, 38, 36, 35, 34, 33, 32, 31, 29, 28, 27, 26, 25, 23, 22, 21, 19, 18, 17, 16, 15, 14, 13, 12, 11, 10, 9, 8, 7, 4, 3, 2, 1] rv_372 := hN.keep (fun k => by rw [er_375]; exact clr_ne (fun z => absurd z.1 (by decide)))
  have hE := hE9
  have hR := hR9
  have hB := hB9
  refine W.widen (k := 35) (n := 1131) (Nat.le_of_ble_eq_true rfl) (Nat.le_of_ble_eq_true rfl) ?_
  refine W.eq (g2 := F0 m 346 ls [.ref (al_370.2 35 (al.1 35)), .ref (al_370.2 0 i0)]) (by rw [ho_a_369, ho_o]) ?_
  refine q_putr (t := 0) (i := i0) (k := 42) (t' := 35) (j := (al.1 35)) C hU hS k_0 (hc := rfl) uwX12 tyX12 tyX12_ok nmX12 hi_o (by decide) rfl (Or.inr ⟨rfl, hnm, rfl⟩) rfl fl_X12_113 dX12_init_346 (fun _ => rfl) (fun _ => rfl) (fun H locs hU hS => ?_)
  have hz : sz ≤ H.size := Nat.le_trans hz0 hS.1
  obtain ⟨rv_377, er_378⟩ : ∃ z, z = up3 rv_372 0 i0 42 (some (al.1 35)) := ⟨_, rfl⟩
  rw [← er_378] at hU
  have hB : RB al_370 rv_377 := by rw [er_378]; exact hB.put rfl hi_a_369
  have hE := hE.putr (t := 0) (i := i0) (k := 42) (x := some (al.1 35)) (by decide)
  rw [← er_378] at hE
  have hN : NN 0 i0 [42, 40, 39, 38, 36, 35, 34, 33, 32, 31, 29, 28, 27, 26, 25, 23, 22, 21, 19, 18, 17, 16, 15, 14, 13, 12, 11, 10, 9, 8, 7, 4, 3, 2, 1] rv_377 := by rw [er_378]; exact hN.put 42 (al.1 35)
  refine lv_aload_n hx hb dX12_init_349 rfl (lv_at hl 0 rfl) ?_
  refine lv_bipush (v := 30) hx hb dX12_init_350 (by decide) ?_
  refine q_newp (t := 36) (ty := .int) C hU hS hB hz rfl (Or.inl rfl) k_36 (fun _ => rfl) ac_int (by decide) (by decide) (by decide) (Nat.le_of_ble_eq_true rfl) (Nat.le_of_ble_eq_true rfl) dX12_init_352 (fun a_379 H hU hS hz => ?_)
  have hc_386 : al_370.1 36 = al.1 36 := hE.1 36
  have hE9 := hE.new 36 a_379
  have hR9 := hR.new 36 a_379
  have hB9 := hB.new 36 a_379
  have hn9 := grow_new (al := al_370) (t := 36) (a := a_379)
  rw [hc_386] at hU hE9 hR9 hB9 hn9
  obtain ⟨al_380, ea_383⟩ : ∃ z, z = grow al_370 36 a_379 := ⟨_, rfl⟩
  obtain ⟨iv_381, ei_384⟩ : ∃ z, z = clr iv_371 36 (al.1 36) 0 := ⟨_, rfl⟩
  obtain ⟨rv_382, er_385⟩ : ∃ z, z = clr rv_377 36 (al.1 36) none := ⟨_, rfl⟩
  rw [← ea_383] at hU hE9 hR9 hB9 hn9
  rw [← ei_384] at hU hE9 hR9
  rw [← er_385] at hU hE9 hB9
  have ho_a_1 : al_380.2 1 (al.1 1) = a_1 := by rw [ea_383, grow_ad hi_a_1]; exact ho_a_1
  have hi_a_1 : (al.1 1) < al_380.1 1 := by rw [ea_383, grow_ct]; omega
  have ho_a_101 : al_380.2 9 (al.1 9) = a_101 := by rw [ea_383, grow_ad hi_a_101]; exact ho_a_101
  have hi_a_101 : (al.1 9) < al_380.1 9 := by rw [ea_383, grow_ct]; omega
  have ho_a_11 : al_380.2 2 (al.1 2) = a_11 := by rw [ea_383, grow_ad hi_a_11]; exact ho_a_11
  have hi_a_11 : (al.1 2) < al_380.1 2 := by rw [ea_383, grow_ct]; omega
  have ho_a_111 : al_380.2 10 (al.1 10) = a_111 := by rw [ea_383, grow_ad hi_a_111]; exact ho_a_111
  have hi_a_111 : (al.1 10) < al_380.1 10 := by rw [ea_383, grow_ct]; omega
  have ho_a_121 : al_380.2 11 (al.1 11) = a_121 := by rw [ea_383, grow_ad hi_a_121]; exact ho_a_121
  have hi_a_121 : (al.1 11) < al_380.1 11 := by rw [ea_383, grow_ct]; omega
  have ho_a_131 : al_380.2 12 (al.1 12) = a_131 := by rw [ea_383, grow_ad hi_a_131]; exact ho_a_131
  have hi_a_131 : (al.1 12) < al_380.1 12 := by rw [ea_383, grow_ct]; omega
  have ho_a_141 : al_380.2 13 (al.1 13) = a_141 := by rw [ea_383, grow_ad hi_a_141]; exact ho_a_141
  have hi_a_141 : (al.1 13) < al_380.1 13 := by rw [ea_383, grow_ct]; omega
  have ho_a_151 : al_380.2 14 (al.1 14) = a_151 := by rw [ea_383, grow_ad hi_a_151]; exact ho_a_151
  have hi_a_151 : (al.1 14) < al_380.1 14 := by rw [ea_383, grow_ct]; omega
  have ho_a_161 : al_380.2 15 (al.1 15) = a_161 := by rw [ea_383, grow_ad hi_a_161]; exact ho_a_161
  have hi_a_161 : (al.1 15) < al_380.1 15 := by rw [ea_383, grow_ct]; omega
  have ho_a_179 : al_380.2 16 (al.1 16) = a_179 := by rw [ea_383, grow_ad hi_a_179]; exact ho_a_179
  have hi_a_179 : (al.1 16) < al_380.1 16 := by rw [ea_383, grow_ct]; omega
  have ho_a_189 : al_380.2 17 (al.1 17) = a_189 := by rw [ea_383, grow_ad hi_a_189]; exact ho_a_189
  have hi_a_189 : (al.1 17) < al_380.1 17 := by rw [ea_383, grow_ct]; omega
  have ho_a_199 : al_380.2 18 (al.1 18) = a_199 := by rw [ea_383, grow_ad hi_a_199]; exact ho_a_199
  have hi_a_199 : (al.1 18) < al_380.1 18 := by rw [ea_383, grow_ct]; omega
  have ho_a_209 : al_380.2 19 (al.1 19) = a_209 := by rw [ea_383, grow_ad hi_a_209]; exact ho_a_209
  have hi_a_209 : (al.1 19) < al_380.1 19 := by rw [ea_383, grow_ct]; omega
  have ho_a_21 : al_380.2 3 (al.1 3) = a_21 := by rw [ea_383, grow_ad hi_a_21]; exact ho_a_21
  have hi_a_21 : (al.1 3) < al_380.1 3 := by rw [ea_383, grow_ct]; omega
  have ho_a_219 : al_380.2 20 (al.1 20) = a_219 := by rw [ea_383, grow_ad hi_a_219]; exact ho_a_219
  have hi_a_219 : (al.1 20) < al_380.1 20 := by rw [ea_383, grow_ct]; omega
  have ho_a_229 : al_380.2 21 (al.1 21) = a_229 := by rw [ea_383, grow_ad hi_a_229]; exact ho_a_229
  have hi_a_229 : (al.1 21) < al_380.1 21 := by rw [ea_383, grow_ct]; omega
  have ho_a_239 : al_380.2 22 (al.1 22) = a_239 := by rw [ea_383, grow_ad hi_a_239]; exact ho_a_239
  have hi_a_239 : (al.1 22) < al_380.1 22 := by rw [ea_383, grow_ct]; omega
  have ho_a_249 : al_380.2 23 (al.1 23) = a_249 := by rw [ea_383, grow_ad hi_a_249]; exact ho_a_249
  have hi_a_249 : (al.1 23) < al_380.1 23 := by rw [ea_383, grow_ct]; omega
  have ho_a_259 : al_380.2 24 (al.1 24) = a_259 := by rw [ea_383, grow_ad hi_a_259]; exact ho_a_259
  have hi_a_259 : (al.1 24) < al_380.1 24 := by rw [ea_383, grow_ct]; omega
  have ho_a_269 : al_380.2 25 (al.1 25) = a_269 := by rw [ea_383, grow_ad hi_a_269]; exact ho_a_269
  have hi_a_269 : (al.1 25) < al_380.1 25 := by rw [ea_383, grow_ct]; omega
  have ho_a_279 : al_380.2 26 (al.1 26) = a_279 := by rw [ea_383, grow_ad hi_a_279]; exact ho_a_279
  have hi_a_279 : (al.1 26) < al_380.1 26 := by rw [ea_383, grow_ct]; omega
  have ho_a_289 : al_380.2 27 (al.1 27) = a_289 := by rw [ea_383, grow_ad hi_a_289]; exact ho_a_289
  have hi_a_289 : (al.1 27) < al_380.1 27 := by rw [ea_383, grow_ct]; omega
  have ho_a_299 : al_380.2 28 (al.1 28) = a_299 := by rw [ea_383, grow_ad hi_a_299]; exact ho_a_299
  have hi_a_299 : (al.1 28) < al_380.1 28 := by rw [ea_383, grow_ct]; omega
  have ho_a_309 : al_380.2 29 (al.1 29) = a_309 := by rw [ea_383, grow_ad hi_a_309]; exact ho_a_309
  have hi_a_309 : (al.1 29) < al_380.1 29 := by rw [ea_383, grow_ct]; omega
  have ho_a_319 : al_380.2 30 (al.1 30) = a_319 := by rw [ea_383, grow_ad hi_a_319]; exact ho_a_319
  have hi_a_319 : (al.1 30) < al_380.1 30 := by rw [ea_383, grow_ct]; omega
  have ho_a_329 : al_380.2 31 (al.1 31) = a_329 := by rw [ea_383, grow_ad hi_a_329]; exact ho_a_329
  have hi_a_329 : (al.1 31) < al_380.1 31 := by rw [ea_383, grow_ct]; omega
  have ho_a_339 : al_380.2 32 (al.1 32) = a_339 := by rw [ea_383, grow_ad hi_a_339]; exact ho_a_339
  have hi_a_339 : (al.1 32) < al_380.1 32 := by rw [ea_383, grow_ct]; omega
  have ho_a_349 : al_380.2 33 (al.1 33) = a_349 := by rw [ea_383, grow_ad hi_a_349]; exact ho_a_349
  have hi_a_349 : (al.1 33) < al_380.1 33 := by rw [ea_383, grow_ct]; omega
  have ho_a_359 : al_380.2 34 (al.1 34) = a_359 := by rw [ea_383, grow_ad hi_a_359]; exact ho_a_359
  have hi_a_359 : (al.1 34) < al_380.1 34 := by rw [ea_383, grow_ct]; omega
  have ho_a_369 : al_380.2 35 (al.1 35) = a_369 := by rw [ea_383, grow_ad hi_a_369]; exact ho_a_369
  have hi_a_369 : (al.1 35) < al_380.1 35 := by rw [ea_383, grow_ct]; omega
  have ho_a_51 : al_380.2 4 (al.1 4) = a_51 := by rw [ea_383, grow_ad hi_a_51]; exact ho_a_51
  have hi_a_51 : (al.1 4) < al_380.1 4 := by rw [ea_383, grow_ct]; omega
  have ho_a_61 : al_380.2 5 (al.1 5) = a_61 := by rw [ea_383, grow_ad hi_a_61]; exact ho_a_61
  have hi_a_61 : (al.1 5) < al_380.1 5 := by rw [ea_383, grow_ct]; omega
  have ho_a_71 : al_380.2 6 (al.1 6) = a_71 := by rw [ea_383, grow_ad hi_a_71]; exact ho_a_71
  have hi_a_71 : (al.1 6) < al_380.1 6 := by rw [ea_383, grow_ct]; omega
  have ho_a_81 : al_380.2 7 (al.1 7) = a_81 := by rw [ea_383, grow_ad hi_a_81]; exact ho_a_81
  have hi_a_81 : (al.1 7) < al_380.1 7 := by rw [ea_383, grow_ct]; omega
  have ho_a_91 : al_380.2 8 (al.1 8) = a_91 := by rw [ea_383, grow_ad hi_a_91]; exact ho_a_91
  have hi_a_91 : (al.1 8) < al_380.1 8 := by rw [ea_383, grow_ct]; omega
  have ho_o : al_380.2 0 i0 = o := by rw [ea_383, grow_ad hi_o]; exact ho_o
  have hi_o : i0 < al_380.1 0 := by rw [ea_383, grow_ct]; omega
  have ho_a_379 : al_380.2 36 (al.1 36) = a_379 := hn9
  have hi_a_379 : (al.1 36) < al_380.1 36 := by rw [ea_383, grow_ct, hc_386]; simp
  have hN : NN 0 i0 [42, 40, 39, 38, 36, 35, 34, 33, 32, 31, 29, 28, 27, 26, 25, 23, 22, 21, 19, 18, 17, 16, 15, 14, 13, 12, 11, 10, 9, 8, 7, 4, 3, 2, 1] rv_382 := hN.keep (fun k => by rw [er_385]; exact clr_ne (fun z => absurd z.1 (by decide)))
  have hE := hE9
  have hR := hR9
  have hB := hB9
  refine W.widen (k := 36) (n := 1161) (Nat.le_of_ble_eq_true rfl) (Nat.le_of_ble_eq_true rfl) ?_
  refine W.eq (g2 := F0 m 354 ls [.ref (al_380.2 36 (al.1 36)), .ref (al_380.2 0 i0)]) (by rw [ho_a_379, ho_o]) ?_
  refine q_putr (t := 0) (i := i0) (k := 43) (t' := 36) (j := (al.1 36)) C hU hS k_0 (hc := rfl) uwX12 tyX12 tyX12_ok nmX12 hi_o (by decide) rfl (Or.inr ⟨rfl, hnm, rfl⟩) rfl fl_X12_116 dX12_init_354 (fun _ => rfl) (fun _ => rfl) (fun H locs hU hS => ?_)
  have hz : sz ≤ H.size := Nat.le_trans hz0 hS.1
  obtain ⟨rv_387, er_388⟩ : ∃ z, z = up3 rv_382 0 i0 43 (some (al.1 36)) := ⟨_, rfl⟩
  rw [← er_388] at hU
  have hB : RB al_380 rv_387 := by rw [er_388]; exact hB.put rfl hi_a_379
  have hE := hE.putr (t := 0) (i := i0) (k := 43) (x := some (al.1 36)) (by decide)
  rw [← er_388] at hE
  have hN : NN 0 i0 [43, 42, 40, 39, 38, 36, 35, 34, 33, 32, 31, 29, 28, 27, 26, 25, 23, 22, 21, 19, 18, 17, 16, 15, 14, 13, 12, 11, 10, 9, 8, 7, 4, 3, 2, 1] rv_387 := by rw [er_388]; exact hN.put 43 (al.1 36)
  refine lv_aload_n hx hb dX12_init_357 rfl (lv_at hl 0 rfl) ?_
  refine lv_bipush (v := 100) hx hb dX12_init_358 (by decide) ?_
  refine q_newp (t := 37) (ty := .int) C hU hS hB hz rfl (Or.inl rfl) k_37 (fun _ => rfl) ac_int (by decide) (by decide) (by decide) (Nat.le_of_ble_eq_true rfl) (Nat.le_of_ble_eq_true rfl) dX12_init_360 (fun a_389 H hU hS hz => ?_)
  have hc_396 : al_380.1 37 = al.1 37 := hE.1 37
  have hE9 := hE.new 37 a_389
  have hR9 := hR.new 37 a_389
  have hB9 := hB.new 37 a_389
  have hn9 := grow_new (al := al_380) (t := 37) (a := a_389)
  rw [hc_396] at hU hE9 hR9 hB9 hn9
  obtain ⟨al_390, ea_393⟩ : ∃ z, z = grow al_380 37 a_389 := ⟨_, rfl⟩
  obtain ⟨iv_391, ei_394⟩ : ∃ z, z = clr iv_381 37 (al.1 37) 0 := ⟨_, rfl⟩
  obtain ⟨rv_392, er_395⟩ : ∃ z, z = clr rv_387 37 (al.1 37) none := ⟨_, rfl⟩
  rw [← ea_393] at hU hE9 hR9 hB9 hn9
  rw [← ei_394] at hU hE9 hR9
  rw [← er_395] at hU hE9 hB9
  have ho_a_1 : al_390.2 1 (al.1 1) = a_1 := by rw [ea_393, grow_ad hi_a_1]; exact ho_a_1
  have hi_a_1 : (al.1 1) < al_390.1 1 := by rw [ea_393, grow_ct]; omega
  have ho_a_101 : al_390.2 9 (al.1 9) = a_101 := by rw [ea_393, grow_ad hi_a_101]; exact ho_a_101
  have hi_a_101 : (al.1 9) < al_390.1 9 := by rw [ea_393, grow_ct]; omega
  have ho_a_11 : al_390.2 2 (al.1 2) = a_11 := by rw [ea_393, grow_ad hi_a_11]; exact ho_a_11
  have hi_a_11 : (al.1 2) < al_390.1 2 := by rw [ea_393, grow_ct]; omega
  have ho_a_111 : al_390.2 10 (al.1 10) = a_111 := by rw [ea_393, grow_ad hi_a_111]; exact ho_a_111
  have hi_a_111 : (al.1 10) < al_390.1 10 := by rw [ea_393, grow_ct]; omega
  have ho_a_121 : al_390.2 11 (al.1 11) = a_121 := by rw [ea_393, grow_ad hi_a_121]; exact ho_a_121
  have hi_a_121 : (al.1 11) < al_390.1 11 := by rw [ea_393, grow_ct]; omega
  have ho_a_131 : al_390.2 12 (al.1 12) = a_131 := by rw [ea_393, grow_ad hi_a_131]; exact ho_a_131
  have hi_a_131 : (al.1 12) < al_390.1 12 := by rw [ea_393, grow_ct]; omega
  have ho_a_141 : al_390.2 13 (al.1 13) = a_141 := by rw [ea_393, grow_ad hi_a_141]; exact ho_a_141
  have hi_a_141 : (al.1 13) < al_390.1 13 := by rw [ea_393, grow_ct]; omega
  have ho_a_151 : al_390.2 14 (al.1 14) = a_151 := by rw [ea_393, grow_ad hi_a_151]; exact ho_a_151
  have hi_a_151 : (al.1 14) < al_390.1 14 := by rw [ea_393, grow_ct]; omega
  have ho_a_161 : al_390.2 15 (al.1 15) = a_161 := by rw [ea_393, grow_ad hi_a_161]; exact ho_a_161
  have hi_a_161 : (al.1 15) < al_390.1 15 := by rw [ea_393, grow_ct]; omega
  have ho_a_179 : al_390.2 16 (al.1 16) = a_179 := by rw [ea_393, grow_ad hi_a_179]; exact ho_a_179
  have hi_a_179 : (al.1 16) < al_390.1 16 := by rw [ea_393, grow_ct]; omega
  have ho_a_189 : al_390.2 17 (al.1 17) = a_189 := by rw [ea_393, grow_ad hi_a_189]; exact ho_a_189
  have hi_a_189 : (al.1 17) < al_390.1 17 := by rw [ea_393, grow_ct]; omega
  have ho_a_199 : al_390.2 18 (al.1 18) = a_199 := by rw [ea_393, grow_ad hi_a_199]; exact ho_a_199
  have hi_a_199 : (al.1 18) < al_390.1 18 := by rw [ea_393, grow_ct]; omega
  have ho_a_209 : al_390.2 19 (al.1 19) = a_209 := by rw [ea_393, grow_ad hi_a_209]; exact ho_a_209
  have hi_a_209 : (al.1 19) < al_390.1 19 := by rw [ea_393, grow_ct]; omega
  have ho_a_21 : al_390.2 3 (al.1 3) = a_21 := by rw [ea_393, grow_ad hi_a_21]; exact ho_a_21
  have hi_a_21 : (al.1 3) < al_390.1 3 := by rw [ea_393, grow_ct]; omega
  have ho_a_219 : al_390.2 20 (al.1 20) = a_219 := by rw [ea_393, grow_ad hi_a_219]; exact ho_a_219
  have hi_a_219 : (al.1 20) < al_390.1 20 := by rw [ea_393, grow_ct]; omega
  have ho_a_229 : al_390.2 21 (al.1 21) = a_229 := by rw [ea_393, grow_ad hi_a_229]; exact ho_a_229
  have hi_a_229 : (al.1 21) < al_390.1 21 := by rw [ea_393, grow_ct]; omega
  have ho_a_239 : al_390.2 22 (al.1 22) = a_239 := by rw [ea_393, grow_ad hi_a_239]; exact ho_a_239
  have hi_a_239 : (al.1 22) < al_390.1 22 := by rw [ea_393, grow_ct]; omega
  have ho_a_249 : al_390.2 23 (al.1 23) = a_249 := by rw [ea_393, grow_ad hi_a_249]; exact ho_a_249
  have hi_a_249 : (al.1 23) < al_390.1 23 := by rw [ea_393, grow_ct]; omega
  have ho_a_259 : al_390.2 24 (al.1 24) = a_259 := by rw [ea_393, grow_ad hi_a_259]; exact ho_a_259
  have hi_a_259 : (al.1 24) < al_390.1 24 := by rw [ea_393, grow_ct]; omega
  have ho_a_269 : al_390.2 25 (al.1 25) = a_269 := by rw [ea_393, grow_ad hi_a_269]; exact ho_a_269
  have hi_a_269 : (al.1 25) < al_390.1 25 := by rw [ea_393, grow_ct]; omega
  have ho_a_279 : al_390.2 26 (al.1 26) = a_279 := by rw [ea_393, grow_ad hi_a_279]; exact ho_a_279
  have hi_a_279 : (al.1 26) < al_390.1 26 := by rw [ea_393, grow_ct]; omega
  have ho_a_289 : al_390.2 27 (al.1 27) = a_289 := by rw [ea_393, grow_ad hi_a_289]; exact ho_a_289
  have hi_a_289 : (al.1 27) < al_390.1 27 := by rw [ea_393, grow_ct]; omega
  have ho_a_299 : al_390.2 28 (al.1 28) = a_299 := by rw [ea_393, grow_ad hi_a_299]; exact ho_a_299
  have hi_a_299 : (al.1 28) < al_390.1 28 := by rw [ea_393, grow_ct]; omega
  have ho_a_309 : al_390.2 29 (al.1 29) = a_309 := by rw [ea_393, grow_ad hi_a_309]; exact ho_a_309
  have hi_a_309 : (al.1 29) < al_390.1 29 := by rw [ea_393, grow_ct]; omega
  have ho_a_319 : al_390.2 30 (al.1 30) = a_319 := by rw [ea_393, grow_ad hi_a_319]; exact ho_a_319
  have hi_a_319 : (al.1 30) < al_390.1 30 := by rw [ea_393, grow_ct]; omega
  have ho_a_329 : al_390.2 31 (al.1 31) = a_329 := by rw [ea_393, grow_ad hi_a_329]; exact ho_a_329
  have hi_a_329 : (al.1 31) < al_390.1 31 := by rw [ea_393, grow_ct]; omega
  have ho_a_339 : al_390.2 32 (al.1 32) = a_339 := by rw [ea_393, grow_ad hi_a_339]; exact ho_a_339
  have hi_a_339 : (al.1 32) < al_390.1 32 := by rw [ea_393, grow_ct]; omega
  have ho_a_349 : al_390.2 33 (al.1 33) = a_349 := by rw [ea_393, grow_ad hi_a_349]; exact ho_a_349
  have hi_a_349 : (al.1 33) < al_390.1 33 := by rw [ea_393, grow_ct]; omega
  have ho_a_359 : al_390.2 34 (al.1 34) = a_359 := by rw [ea_393, grow_ad hi_a_359]; exact ho_a_359
  have hi_a_359 : (al.1 34) < al_390.1 34 := by rw [ea_393, grow_ct]; omega
  have ho_a_369 : al_390.2 35 (al.1 35) = a_369 := by rw [ea_393, grow_ad hi_a_369]; exact ho_a_369
  have hi_a_369 : (al.1 35) < al_390.1 35 := by rw [ea_393, grow_ct]; omega
  have ho_a_379 : al_390.2 36 (al.1 36) = a_379 := by rw [ea_393, grow_ad hi_a_379]; exact ho_a_379
  have hi_a_379 : (al.1 36) < al_390.1 36 := by rw [ea_393, grow_ct]; omega
  have ho_a_51 : al_390.2 4 (al.1 4) = a_51 := by rw [ea_393, grow_ad hi_a_51]; exact ho_a_51
  have hi_a_51 : (al.1 4) < al_390.1 4 := by rw [ea_393, grow_ct]; omega
  have ho_a_61 : al_390.2 5 (al.1 5) = a_61 := by rw [ea_393, grow_ad hi_a_61]; exact ho_a_61
  have hi_a_61 : (al.1 5) < al_390.1 5 := by rw [ea_393, grow_ct]; omega
  have ho_a_71 : al_390.2 6 (al.1 6) = a_71 := by rw [ea_393, grow_ad hi_a_71]; exact ho_a_71
  have hi_a_71 : (al.1 6) < al_390.1 6 := by rw [ea_393, grow_ct]; omega
  have ho_a_81 : al_390.2 7 (al.1 7) = a_81 := by rw [ea_393, grow_ad hi_a_81]; exact ho_a_81
  have hi_a_81 : (al.1 7) < al_390.1 7 := by rw [ea_393, grow_ct]; omega
  have ho_a_91 : al_390.2 8 (al.1 8) = a_91 := by rw [ea_393, grow_ad hi_a_91]; exact ho_a_91
  have hi_a_91 : (al.1 8) < al_390.1 8 := by rw [ea_393, grow_ct]; omega
  have ho_o : al_390.2 0 i0 = o := by rw [ea_393, grow_ad hi_o]; exact ho_o
  have hi_o : i0 < al_390.1 0 := by rw [ea_393, grow_ct]; omega
  have ho_a_389 : al_390.2 37 (al.1 37) = a_389 := hn9
  have hi_a_389 : (al.1 37) < al_390.1 37 := by rw [ea_393, grow_ct, hc_396]; simp
  have hN : NN 0 i0 [43, 42, 40, 39, 38, 36, 35, 34, 33, 32, 31, 29, 28, 27, 26, 25, 23, 22, 21, 19, 18, 17, 16, 15, 14, 13, 12, 11, 10, 9, 8, 7, 4, 3, 2, 1] rv_392 := hN.keep (fun k => by rw [er_395]; exact clr_ne (fun z => absurd z.1 (by decide)))
  have hE := hE9
  have hR := hR9
  have hB := hB9
  refine W.widen (k := 37) (n := 1261) (Nat.le_of_ble_eq_true rfl) (Nat.le_of_ble_eq_true rfl) ?_
  refine W.eq (g2 := F0 m 362 ls [.ref (al_390.2 37 (al.1 37)), .ref (al_390.2 0 i0)]) (by rw [ho_a_389, ho_o]) ?_
  refine q_putr (t := 0) (i := i0) (k := 44) (t' := 37) (j := (al.1 37)) C hU hS k_0 (hc := rfl) uwX12 tyX12 tyX12_ok nmX12 hi_o (by decide) rfl (Or.inr ⟨rfl, hnm, rfl⟩) rfl fl_X12_119 dX12_init_362 (fun _ => rfl) (fun _ => rfl) (fun H locs hU hS => ?_)
  have hz : sz ≤ H.size := Nat.le_trans hz0 hS.1
  obtain ⟨rv_397, er_398⟩ : ∃ z, z = up3 rv_392 0 i0 44 (some (al.1 37)) := ⟨_, rfl⟩
  rw [← er_398] at hU
  have hB : RB al_390 rv_397 := by rw [er_398]; exact hB.put rfl hi_a_389
  have hE := hE.putr (t := 0) (i := i0) (k := 44) (x := some (al.1 37)) (by decide)
  rw [← er_398] at hE
  have hN : NN 0 i0 [44, 43, 42, 40, 39, 38, 36, 35, 34, 33, 32, 31, 29, 28, 27, 26, 25, 23, 22, 21, 19, 18, 17, 16, 15, 14, 13, 12, 11, 10, 9, 8, 7, 4, 3, 2, 1] rv_397 := by rw [er_398]; exact hN.put 44 (al.1 37)
  refine lv_aload_n hx hb dX12_init_365 rfl (lv_at hl 0 rfl) ?_
  refine lv_sipush (v := 150) hx hb dX12_init_366 (by decide) ?_
  refine q_newp (t := 38) (ty := .int) C hU hS hB hz rfl (Or.inl rfl) k_38 (fun _ => rfl) ac_int (by decide) (by decide) (by decide) (Nat.le_of_ble_eq_true rfl) (Nat.le_of_ble_eq_true rfl) dX12_init_369 (fun a_399 H hU hS hz => ?_)
  have hc_406 : al_390.1 38 = al.1 38 := hE.1 38
  have hE9 := hE.new 38 a_399
  have hR9 := hR.new 38 a_399
  have hB9 := hB.new 38 a_399
  have hn9 := grow_new (al := al_390) (t := 38) (a := a_399)
  rw [hc_406] at hU hE9 hR9 hB9 hn9
  obtain ⟨al_400, ea_403⟩ : ∃ z, z = grow al_390 38 a_399 := ⟨_, rfl⟩
  obtain ⟨iv_401, ei_404⟩ : ∃ z, z = clr iv_391 38 (al.1 38) 0 := ⟨_, rfl⟩
  obtain ⟨rv_402, er_405⟩ : ∃ z, z = clr rv_397 38 (al.1 38) none := ⟨_, rfl⟩
  rw [← ea_403] at hU hE9 hR9 hB9 hn9
  rw [← ei_404] at hU hE9 hR9
  rw [← er_405] at hU hE9 hB9
  have ho_a_1 : al_400.2 1 (al.1 1) = a_1 := by rw [ea_403, grow_ad hi_a_1]; exact ho_a_1
  have hi_a_1 : (al.1 1) < al_400.1 1 := by rw [ea_403, grow_ct]; omega
  have ho_a_101 : al_400.2 9 (al.1 9) = a_101 := by rw [ea_403, grow_ad hi_a_101]; exact ho_a_101
  have hi_a_101 : (al.1 9) < al_400.1 9 := by rw [ea_403, grow_ct]; omega
  have ho_a_11 : al_400.2 2 (al.1 2) = a_11 := by rw [ea_403, grow_ad hi_a_11]; exact ho_a_11
  have hi_a_11 : (al.1 2) < al_400.1 2 := by rw [ea_403, grow_ct]; omega
  have ho_a_111 : al_400.2 10 (al.1 10) = a_111 := by rw [ea_403, grow_ad hi_a_111]; exact ho_a_111
  have hi_a_111 : (al.1 10) < al_400.1 10 := by rw [ea_403, grow_ct]; omega
  have ho_a_121 : al_400.2 11 (al.1 11) = a_121 := by rw [ea_403, grow_ad hi_a_121]; exact ho_a_121
  have hi_a_121 : (al.1 11) < al_400.1 11 := by rw [ea_403, grow_ct]; omega
  have ho_a_131 : al_400.2 12 (al.1 12) = a_131 := by rw [ea_403, grow_ad hi_a_131]; exact ho_a_131
  have hi_a_131 : (al.1 12) < al_400.1 12 := by rw [ea_403, grow_ct]; omega
  have ho_a_141 : al_400.2 13 (al.1 13) = a_141 := by rw [ea_403, grow_ad hi_a_141]; exact ho_a_141
  have hi_a_141 : (al.1 13) < al_400.1 13 := by rw [ea_403, grow_ct]; omega
  have ho_a_151 : al_400.2 14 (al.1 14) = a_151 := by rw [ea_403, grow_ad hi_a_151]; exact ho_a_151
  have hi_a_151 : (al.1 14) < al_400.1 14 := by rw [ea_403, grow_ct]; omega
  have ho_a_161 : al_400.2 15 (al.1 15) = a_161 := by rw [ea_403, grow_ad hi_a_161]; exact ho_a_161
  have hi_a_161 : (al.1 15) < al_400.1 15 := by rw [ea_403, grow_ct]; omega
  have ho_a_179 : al_400.2 16 (al.1 16) = a_179 := by rw [ea_403, grow_ad hi_a_179]; exact ho_a_179
  have hi_a_179 : (al.1 16) < al_400.1 16 := by rw [ea_403, grow_ct]; omega
  have ho_a_189 : al_400.2 17 (al.1 17) = a_189 := by rw [ea_403, grow_ad hi_a_189]; exact ho_a_189
  have hi_a_189 : (al.1 17) < al_400.1 17 := by rw [ea_403, grow_ct]; omega
  have ho_a_199 : al_400.2 18 (al.1 18) = a_199 := by rw [ea_403, grow_ad hi_a_199]; exact ho_a_199
  have hi_a_199 : (al.1 18) < al_400.1 18 := by rw [ea_403, grow_ct]; omega
  have ho_a_209 : al_400.2 19 (al.1 19) = a_209 := by rw [ea_403, grow_ad hi_a_209]; exact ho_a_209
  have hi_a_209 : (al.1 19) < al_400.1 19 := by rw [ea_403, grow_ct]; omega
  have ho_a_21 : al_400.2 3 (al.1 3) = a_21 := by rw [ea_403, grow_ad hi_a_21]; exact ho_a_21
  have hi_a_21 : (al.1 3) < al_400.1 3 := by rw [ea_403, grow_ct]; omega
  have ho_a_219 : al_400.2 20 (al.1 20) = a_219 := by rw [ea_403, grow_ad hi_a_219]; exact ho_a_219
  have hi_a_219 : (al.1 20) < al_400.1 20 := by rw [ea_403, grow_ct]; omega
  have ho_a_229 : al_400.2 21 (al.1 21) = a_229 := by rw [ea_403, grow_ad hi_a_229]; exact ho_a_229
  have hi_a_229 : (al.1 21) < al_400.1 21 := by rw [ea_403, grow_ct]; omega
  have ho_a_239 : al_400.2 22 (al.1 22) = a_239 := by rw [ea_403, grow_ad hi_a_239]; exact ho_a_239
  have hi_a_239 : (al.1 22) < al_400.1 22 := by rw [ea_403, grow_ct]; omega
  have ho_a_249 : al_400.2 23 (al.1 23) = a_249 := by rw [ea_403, grow_ad hi_a_249]; exact ho_a_249
  have hi_a_249 : (al.1 23) < al_400.1 23 := by rw [ea_403, grow_ct]; omega
  have ho_a_259 : al_400.2 24 (al.1 24) = a_259 := by rw [ea_403, grow_ad hi_a_259]; exact ho_a_259
  have hi_a_259 : (al.1 24) < al_400.1 24 := by rw [ea_403, grow_ct]; omega
  have ho_a_269 : al_400.2 25 (al.1 25) = a_269 := by rw [ea_403, grow_ad hi_a_269]; exact ho_a_269
  have hi_a_269 : (al.1 25) < al_400.1 25 := by rw [ea_403, grow_ct]; omega
  have ho_a_279 : al_400.2 26 (al.1 26) = a_279 := by rw [ea_403, grow_ad hi_a_279]; exact ho_a_279
  have hi_a_279 : (al.1 26) < al_400.1 26 := by rw [ea_403, grow_ct]; omega
  have ho_a_289 : al_400.2 27 (al.1 27) = a_289 := by rw [ea_403, grow_ad hi_a_289]; exact ho_a_289
  have hi_a_289 : (al.1 27) < al_400.1 27 := by rw [ea_403, grow_ct]; omega
  have ho_a_299 : al_400.2 28 (al.1 28) = a_299 := by rw [ea_403, grow_ad hi_a_299]; exact ho_a_299
  have hi_a_299 : (al.1 28) < al_400.1 28 := by rw [ea_403, grow_ct]; omega
  have ho_a_309 : al_400.2 29 (al.1 29) = a_309 := by rw [ea_403, grow_ad hi_a_309]; exact ho_a_309
  have hi_a_309 : (al.1 29) < al_400.1 29 := by rw [ea_403, grow_ct]; omega
  have ho_a_319 : al_400.2 30 (al.1 30) = a_319 := by rw [ea_403, grow_ad hi_a_319]; exact ho_a_319
  have hi_a_319 : (al.1 30) < al_400.1 30 := by rw [ea_403, grow_ct]; omega
  have ho_a_329 : al_400.2 31 (al.1 31) = a_329 := by rw [ea_403, grow_ad hi_a_329]; exact ho_a_329
  have hi_a_329 : (al.1 31) < al_400.1 31 := by rw [ea_403, grow_ct]; omega
  have ho_a_339 : al_400.2 32 (al.1 32) = a_339 := by rw [ea_403, grow_ad hi_a_339]; exact ho_a_339
  have hi_a_339 : (al.1 32) < al_400.1 32 := by rw [ea_403, grow_ct]; omega
  have ho_a_349 : al_400.2 33 (al.1 33) = a_349 := by rw [ea_403, grow_ad hi_a_349]; exact ho_a_349
  have hi_a_349 : (al.1 33) < al_400.1 33 := by rw [ea_403, grow_ct]; omega
  have ho_a_359 : al_400.2 34 (al.1 34) = a_359 := by rw [ea_403, grow_ad hi_a_359]; exact ho_a_359
  have hi_a_359 : (al.1 34) < al_400.1 34 := by rw [ea_403, grow_ct]; omega
  have ho_a_369 : al_400.2 35 (al.1 35) = a_369 := by rw [ea_403, grow_ad hi_a_369]; exact ho_a_369
  have hi_a_369 : (al.1 35) < al_400.1 35 := by rw [ea_403, grow_ct]; omega
  have ho_a_379 : al_400.2 36 (al.1 36) = a_379 := by rw [ea_403, grow_ad hi_a_379]; exact ho_a_379
  have hi_a_379 : (al.1 36) < al_400.1 36 := by rw [ea_403, grow_ct]; omega
  have ho_a_389 : al_400.2 37 (al.1 37) = a_389 := by rw [ea_403, grow_ad hi_a_389]; exact ho_a_389
  have hi_a_389 : (al.1 37) < al_400.1 37 := by rw [ea_403, grow_ct]; omega
  have ho_a_51 : al_400.2 4 (al.1 4) = a_51 := by rw [ea_403, grow_ad hi_a_51]; exact ho_a_51
  have hi_a_51 : (al.1 4) < al_400.1 4 := by rw [ea_403, grow_ct]; omega
  have ho_a_61 : al_400.2 5 (al.1 5) = a_61 := by rw [ea_403, grow_ad hi_a_61]; exact ho_a_61
  have hi_a_61 : (al.1 5) < al_400.1 5 := by rw [ea_403, grow_ct]; omega
  have ho_a_71 : al_400.2 6 (al.1 6) = a_71 := by rw [ea_403, grow_ad hi_a_71]; exact ho_a_71
  have hi_a_71 : (al.1 6) < al_400.1 6 := by rw [ea_403, grow_ct]; omega
  have ho_a_81 : al_400.2 7 (al.1 7) = a_81 := by rw [ea_403, grow_ad hi_a_81]; exact ho_a_81
  have hi_a_81 : (al.1 7) < al_400.1 7 := by rw [ea_403, grow_ct]; omega
  have ho_a_91 : al_400.2 8 (al.1 8) = a_91 := by rw [ea_403, grow_ad hi_a_91]; exact ho_a_91
  have hi_a_91 : (al.1 8) < al_400.1 8 := by rw [ea_403, grow_ct]; omega
  have ho_o : al_400.2 0 i0 = o := by rw [ea_403, grow_ad hi_o]; exact ho_o
  have hi_o : i0 < al_400.1 0 := by rw [ea_403, grow_ct]; omega
  have ho_a_399 : al_400.2 38 (al.1 38) = a_399 := hn9
  have hi_a_399 : (al.1 38) < al_400.1 38 := by rw [ea_403, grow_ct, hc_406]; simp
  have hN : NN 0 i0 [44, 43, 42, 40, 39, 38, 36, 35, 34, 33, 32, 31, 29, 28, 27, 26, 25, 23, 22, 21, 19, 18, 17, 16, 15, 14, 13, 12, 11, 10, 9, 8, 7, 4, 3, 2, 1] rv_402 := hN.keep (fun k => by rw [er_405]; exact clr_ne (fun z => absurd z.1 (by decide)))
  have hE := hE9
  have hR := hR9
  have hB := hB9
  refine W.widen (k := 38) (n := 1411) (Nat.le_of_ble_eq_true rfl) (Nat.le_of_ble_eq_true rfl) ?_
  refine W.eq (g2 := F0 m 371 ls [.ref (al_400.2 38 (al.1 38)), .ref (al_400.2 0 i0)]) (by rw [ho_a_399, ho_o]) ?_
  refine q_putr (t := 0) (i := i0) (k := 45) (t' := 38) (j := (al.1 38)) C hU hS k_0 (hc := rfl) uwX12 tyX12 tyX12_ok nmX12 hi_o (by decide) rfl (Or.inr ⟨rfl, hnm, rfl⟩) rfl fl_X12_122 dX12_init_371 (fun _ => rfl) (fun _ => rfl) (fun H locs hU hS => ?_)
  have hz : sz ≤ H.size := Nat.le_trans hz0 hS.1
  obtain ⟨rv_407, er_408⟩ : ∃ z, z = up3 rv_402 0 i0 45 (some (al.1 38)) := ⟨_, rfl⟩
  rw [← er_408] at hU
  have hB : RB al_400 rv_407 := by rw [er_408]; exact hB.put rfl hi_a_399
  have hE := hE.putr (t := 0) (i := i0) (k := 45) (x := some (al.1 38)) (by decide)
  rw [← er_408] at hE
  have hN : NN 0 i0 [45, 44, 43, 42, 40, 39, 38, 36, 35, 34, 33, 32, 31, 29, 28, 27, 26, 25, 23, 22, 21, 19, 18, 17, 16, 15, 14, 13, 12, 11, 10, 9, 8, 7, 4, 3, 2, 1] rv_407 := by rw [er_408]; exact hN.put 45 (al.1 38)
  refine lv_aload_n hx hb dX12_init_374 rfl (lv_at hl 0 rfl) ?_
  refine lv_bipush (v := 32) hx hb dX12_init_375 (by decide) ?_
  refine q_newp (t := 39) (ty := .int) C hU hS hB hz rfl (Or.inl rfl) k_39 (fun _ => rfl) ac_int (by decide) (by decide) (by decide) (Nat.le_of_ble_eq_true rfl) (Nat.le_of_ble_eq_true rfl) dX12_init_377 (fun a_409 H hU hS hz => ?_)
  have hc_416 : al_400.1 39 = al.1 39 := hE.1 39
  have hE9 := hE.new 39 a_409
  have hR9 := hR.new 39 a_409
  have hB9 := hB.new 39 a_409
  have hn9 := grow_new (al := al_400) (t := 39) (a := a_409)
  rw [hc_416] at hU hE9 hR9 hB9 hn9
  obtain ⟨al_410, ea_413⟩ : ∃ z, z = grow al_400 39 a_409 := ⟨_, rfl⟩
  obtain ⟨iv_411, ei_414⟩ : ∃ z, z = clr iv_401 39 (al.1 39) 0 := ⟨_, rfl⟩
  obtain ⟨rv_412, er_415⟩ : ∃ z, z = clr rv_407 39 (al.1 39) none := ⟨_, rfl⟩
  rw [← ea_413] at hU hE9 hR9 hB9 hn9
  rw [← ei_414] at hU hE9 hR9
  rw [← er_415] at hU hE9 hB9
  have ho_a_1 : al_410.2 1 (al.1 1) = a_1 := by rw [ea_413, grow_ad hi_a_1]; exact ho_a_1
  have hi_a_1 : (al.1 1) < al_410.1 1 := by rw [ea_413, grow_ct]; omega
  have ho_a_101 : al_410.2 9 (al.1 9) = a_101 := by rw [ea_413, grow_ad hi_a_101]; exact ho_a_101
  have hi_a_101 : (al.1 9) < al_410.1 9 := by rw [ea_413, grow_ct]; omega
  have ho_a_11 : al_410.2 2 (al.1 2) = a_11 := by rw [ea_413, grow_ad hi_a_11]; exact ho_a_11
  have hi_a_11 : (al.1 2) < al_410.1 2 := by rw [ea_413, grow_ct]; omega
  have ho_a_111 : al_410.2 10 (al.1 10) = a_111 := by rw [ea_413, grow_ad hi_a_111]; exact ho_a_111
  have hi_a_111 : (al.1 10) < al_410.1 10 := by rw [ea_413, grow_ct]; omega
  have ho_a_121 : al_410.2 11 (al.1 11) = a_121 := by rw [ea_413, grow_ad hi_a_121]; exact ho_a_121
  have hi_a_121 : (al.1 11) < al_410.1 11 := by rw [ea_413, grow_ct]; omega
  have ho_a_131 : al_410.2 12 (al.1 12) = a_131 := by rw [ea_413, grow_ad hi_a_131]; exact ho_a_131
  have hi_a_131 : (al.1 12) < al_410.1 12 := by rw [ea_413, grow_ct]; omega
  have ho_a_141 : al_410.2 13 (al.1 13) = a_141 := by rw [ea_413, grow_ad hi_a_141]; exact ho_a_141
  have hi_a_141 : (al.1 13) < al_410.1 13 := by rw [ea_413, grow_ct]; omega
  have ho_a_151 : al_410.2 14 (al.1 14) = a_151 := by rw [ea_413, grow_ad hi_a_151]; exact ho_a_151
  have hi_a_151 : (al.1 14) < al_410.1 14 := by rw [ea_413, grow_ct]; omega
  have ho_a_161 : al_410.2 15 (al.1 15) = a_161 := by rw [ea_413, grow_ad hi_a_161]; exact ho_a_161
  have hi_a_161 : (al.1 15) < al_410.1 15 := by rw [ea_413, grow_ct]; omega
  have ho_a_179 : al_410.2 16 (al.1 16) = a_179 := by rw [ea_413, grow_ad hi_a_179]; exact ho_a_179
  have hi_a_179 : (al.1 16) < al_410.1 16 := by rw [ea_413, grow_ct]; omega
  have ho_a_189 : al_410.2 17 (al.1 17) = a_189 := by rw [ea_413, grow_ad hi_a_189]; exact ho_a_189
  have hi_a_189 : (al.1 17) < al_410.1 17 := by rw [ea_413, grow_ct]; omega
  have ho_a_199 : al_410.2 18 (al.1 18) = a_199 := by rw [ea_413, grow_ad hi_a_199]; exact ho_a_199
  have hi_a_199 : (al.1 18) < al_410.1 18 := by rw [ea_413, grow_ct]; omega
  have ho_a_209 : al_410.2 19 (al.1 19) = a_209 := by rw [ea_413, grow_ad hi_a_209]; exact ho_a_209
  have hi_a_209 : (al.1 19) < al_410.1 19 := by rw [ea_413, grow_ct]; omega
  have ho_a_21 : al_410.2 3 (al.1 3) = a_21 := by rw [ea_413, grow_ad hi_a_21]; exact ho_a_21
  have hi_a_21 : (al.1 3) < al_410.1 3 := by rw [ea_413, grow_ct]; omega
  have ho_a_219 : al_410.2 20 (al.1 20) = a_219 := by rw [ea_413, grow_ad hi_a_219]; exact ho_a_219
  have hi_a_219 : (al.1 20) < al_410.1 20 := by rw [ea_413, grow_ct]; omega
  have ho_a_229 : al_410.2 21 (al.1 21) = a_229 := by rw [ea_413, grow_ad hi_a_229]; exact ho_a_229
  have hi_a_229 : (al.1 21) < al_410.1 21 := by rw [ea_413, grow_ct]; omega
  have ho_a_239 : al_410.2 22 (al.1 22) = a_239 := by rw [ea_413, grow_ad hi_a_239]; exact ho_a_239
  have hi_a_239 : (al.1 22) < al_410.1 22 := by rw [ea_413, grow_ct]; omega
  have ho_a_249 : al_410.2 23 (al.1 23) = a_249 := by rw [ea_413, grow_ad hi_a_249]; exact ho_a_249
  have hi_a_249 : (al.1 23) < al_410.1 23 := by rw [ea_413, grow_ct]; omega
  have ho_a_259 : al_410.2 24 (al.1 24) = a_259 := by rw [ea_413, grow_ad hi_a_259]; exact ho_a_259
  have hi_a_259 : (al.1 24) < al_410.1 24 := by rw [ea_413, grow_ct]; omega
  have ho_a_269 : al_410.2 25 (al.1 25) = a_269 := by rw [ea_413, grow_ad hi_a_269]; exact ho_a_269
  have hi_a_269 : (al.1 25) < al_410.1 25 := by rw [ea_413, grow_ct]; omega
  have ho_a_279 : al_410.2 26 (al.1 26) = a_279 := by rw [ea_413, grow_ad hi_a_279]; exact ho_a_279
  have hi_a_279 : (al.1 26) < al_410.1 26 := by rw [ea_413, grow_ct]; omega
  have ho_a_289 : al_410.2 27 (al.1 27) = a_289 := by rw [ea_413, grow_ad hi_a_289]; exact ho_a_289
  have hi_a_289 : (al.1 27) < al_410.1 27 := by rw [ea_413, grow_ct]; omega
  have ho_a_299 : al_410.2 28 (al.1 28) = a_299 := by rw [ea_413, grow_ad hi_a_299]; exact ho_a_299
  have hi_a_299 : (al.1 28) < al_410.1 28 := by rw [ea_413, grow_ct]; omega
  have ho_a_309 : al_410.2 29 (al.1 29) = a_309 := by rw [ea_413, grow_ad hi_a_309]; exact ho_a_309
  have hi_a_309 : (al.1 29) < al_410.1 29 := by rw [ea_413, grow_ct]; omega
  have ho_a_319 : al_410.2 30 (al.1 30) = a_319 := by rw [ea_413, grow_ad hi_a_319]; exact ho_a_319
  have hi_a_319 : (al.1 30) < al_410.1 30 := by rw [ea_413, grow_ct]; omega
  have ho_a_329 : al_410.2 31 (al.1 31) = a_329 := by rw [ea_413, grow_ad hi_a_329]; exact ho_a_329
  have hi_a_329 : (al.1 31) < al_410.1 31 := by rw [ea_413, grow_ct]; omega
  have ho_a_339 : al_410.2 32 (al.1 32) = a_339 := by rw [ea_413, grow_ad hi_a_339]; exact ho_a_339
  have hi_a_339 : (al.1 32) < al_410.1 32 := by rw [ea_413, grow_ct]; omega
  have ho_a_349 : al_410.2 33 (al.1 33) = a_349 := by rw [ea_413, grow_ad hi_a_349]; exact ho_a_349
  have hi_a_349 : (al.1 33) < al_410.1 33 := by rw [ea_413, grow_ct]; omega
  have ho_a_359 : al_410.2 34 (al.1 34) = a_359 := by rw [ea_413, grow_ad hi_a_359]; exact ho_a_359
  have hi_a_359 : (al.1 34) < al_410.1 34 := by rw [ea_413, grow_ct]; omega
  have ho_a_369 : al_410.2 35 (al.1 35) = a_369 := by rw [ea_413, grow_ad hi_a_369]; exact ho_a_369
  have hi_a_369 : (al.1 35) < al_410.1 35 := by rw [ea_413, grow_ct]; omega
  have ho_a_379 : al_410.2 36 (al.1 36) = a_379 := by rw [ea_413, grow_ad hi_a_379]; exact ho_a_379
  have hi_a_379 : (al.1 36) < al_410.1 36 := by rw [ea_413, grow_ct]; omega
  have ho_a_389 : al_410.2 37 (al.1 37) = a_389 := by rw [ea_413, grow_ad hi_a_389]; exact ho_a_389
  have hi_a_389 : (al.1 37) < al_410.1 37 := by rw [ea_413, grow_ct]; omega
  have ho_a_399 : al_410.2 38 (al.1 38) = a_399 := by rw [ea_413, grow_ad hi_a_399]; exact ho_a_399
  have hi_a_399 : (al.1 38) < al_410.1 38 := by rw [ea_413, grow_ct]; omega
  have ho_a_51 : al_410.2 4 (al.1 4) = a_51 := by rw [ea_413, grow_ad hi_a_51]; exact ho_a_51
  have hi_a_51 : (al.1 4) < al_410.1 4 := by rw [ea_413, grow_ct]; omega
  have ho_a_61 : al_410.2 5 (al.1 5) = a_61 := by rw [ea_413, grow_ad hi_a_61]; exact ho_a_61
  have hi_a_61 : (al.1 5) < al_410.1 5 := by rw [ea_413, grow_ct]; omega
  have ho_a_71 : al_410.2 6 (al.1 6) = a_71 := by rw [ea_413, grow_ad hi_a_71]; exact ho_a_71
  have hi_a_71 : (al.1 6) < al_410.1 6 := by rw [ea_413, grow_ct]; omega
  have ho_a_81 : al_410.2 7 (al.1 7) = a_81 := by rw [ea_413, grow_ad hi_a_81]; exact ho_a_81
  have hi_a_81 : (al.1 7) < al_410.1 7 := by rw [ea_413, grow_ct]; omega
  have ho_a_91 : al_410.2 8 (al.1 8) = a_91 := by rw [ea_413, grow_ad hi_a_91]; exact ho_a_91
  have hi_a_91 : (al.1 8) < al_410.1 8 := by rw [ea_413, grow_ct]; omega
  have ho_o : al_410.2 0 i0 = o := by rw [ea_413, grow_ad hi_o]; exact ho_o
  have hi_o : i0 < al_410.1 0 := by rw [ea_413, grow_ct]; omega
  have ho_a_409 : al_410.2 39 (al.1 39) = a_409 := hn9
  have hi_a_409 : (al.1 39) < al_410.1 39 := by rw [ea_413, grow_ct, hc_416]; simp
  have hN : NN 0 i0 [45, 44, 43, 42, 40, 39, 38, 36, 35, 34, 33, 32, 31, 29, 28, 27, 26, 25, 23, 22, 21, 19, 18, 17, 16, 15, 14, 13, 12, 11, 10, 9, 8, 7, 4, 3, 2, 1] rv_412 := hN.keep (fun k => by rw [er_415]; exact clr_ne (fun z => absurd z.1 (by decide)))
  have hE := hE9
  have hR := hR9
  have hB := hB9
  refine W.widen (k := 39) (n := 1443) (Nat.le_of_ble_eq_true rfl) (Nat.le_of_ble_eq_true rfl) ?_
  refine W.eq (g2 := F0 m 379 ls [.ref (al_410.2 39 (al.1 39)), .ref (al_410.2 0 i0)]) (by rw [ho_a_409, ho_o]) ?_
  refine q_putr (t := 0) (i := i0) (k := 46) (t' := 39) (j := (al.1 39)) C hU hS k_0 (hc := rfl) uwX12 tyX12 tyX12_ok nmX12 hi_o (by decide) rfl (Or.inr ⟨rfl, hnm, rfl⟩) rfl fl_X12_125 dX12_init_379 (fun _ => rfl) (fun _ => rfl) (fun H locs hU hS => ?_)
  have hz : sz ≤ H.size := Nat.le_trans hz0 hS.1
  obtain ⟨rv_417, er_418⟩ : ∃ z, z = up3 rv_412 0 i0 46 (some (al.1 39)) := ⟨_, rfl⟩
  rw [← er_418] at hU
  have hB : RB al_410 rv_417 := by rw [er_418]; exact hB.put rfl hi_a_409
  have hE := hE.putr (t := 0) (i := i0) (k := 46) (x := some (al.1 39)) (by decide)
  rw [← er_418] at hE
  have hN : NN 0 i0 [46, 45, 44, 43, 42, 40, 39, 38, 36, 35, 34, 33, 32, 31, 29, 28, 27, 26, 25, 23, 22, 21, 19, 18, 17, 16, 15, 14, 13, 12, 11, 10, 9, 8, 7, 4, 3, 2, 1] rv_417 := by rw [er_418]; exact hN.put 46 (al.1 39)
  refine lv_aload_n hx hb dX12_init_382 rfl (lv_at hl 0 rfl) ?_
  refine lv_bipush (v := 32) hx hb dX12_init_383 (by decide) ?_
  refine q_newp (t := 40) (ty := .int) C hU hS hB hz rfl (Or.inl rfl) k_40 (fun _ => rfl) ac_int (by decide) (by decide) (by decide) (Nat.le_of_ble_eq_true rfl) (Nat.le_of_ble_eq_true rfl) dX12_init_385 (fun a_419 H hU hS hz => ?_)
  have hc_426 : al_410.1 40 = al.1 40 := hE.1 40
  have hE9 := hE.new 40 a_419
  have hR9 := hR.new 40 a_419
  have hB9 := hB.new 40 a_419
  have hn9 := grow_new (al := al_410) (t := 40) (a := a_419)
  rw [hc_426] at hU hE9 hR9 hB9 hn9
  obtain ⟨al_420, ea_423⟩ : ∃ z, z = grow al_410 40 a_419 := ⟨_, rfl⟩
  obtain ⟨iv_421, ei_424⟩ : ∃ z, z = clr iv_411 40 (al.1 40) 0 := ⟨_, rfl⟩
  obtain ⟨rv_422, er_425⟩ : ∃ z, z = clr rv_417 40 (al.1 40) none := ⟨_, rfl⟩
  rw [← ea_423] at hU hE9 hR9 hB9 hn9
  rw [← ei_424] at hU hE9 hR9
  rw [← er_425] at hU hE9 hB9
  have ho_a_1 : al_420.2 1 (al.1 1) = a_1 := by rw [ea_423, grow_ad hi_a_1]; exact ho_a_1
  have hi_a_1 : (al.1 1) < al_420.1 1 := by rw [ea_423, grow_ct]; omega
  have ho_a_101 : al_420.2 9 (al.1 9) = a_101 := by rw [ea_423, grow_ad hi_a_101]; exact ho_a_101
  have hi_a_101 : (al.1 9) < al_420.1 9 := by rw [ea_423, grow_ct]; omega
  have ho_a_11 : al_420.2 2 (al.1 2) = a_11 := by rw [ea_423, grow_ad hi_a_11]; exact ho_a_11
  have hi_a_11 : (al.1 2) < al_420.1 2 := by rw [ea_423, grow_ct]; omega
  have ho_a_111 : al_420.2 10 (al.1 10) = a_111 := by rw [ea_423, grow_ad hi_a_111]; exact ho_a_111
  have hi_a_111 : (al.1 10) < al_420.1 10 := by rw [ea_423, grow_ct]; omega
  have ho_a_121 : al_420.2 11 (al.1 11) = a_121 := by rw [ea_423, grow_ad hi_a_121]; exact ho_a_121
  have hi_a_121 : (al.1 11) < al_420.1 11 := by rw [ea_423, grow_ct]; omega
  have ho_a_131 : al_420.2 12 (al.1 12) = a_131 := by rw [ea_423, grow_ad hi_a_131]; exact ho_a_131
  have hi_a_131 : (al.1 12) < al_420.1 12 := by rw [ea_423, grow_ct]; omega
  have ho_a_141 : al_420.2 13 (al.1 13) = a_141 := by rw [ea_423, grow_ad hi_a_141]; exact ho_a_141
  have hi_a_141 : (al.1 13) < al_420.1 13 := by rw [ea_423, grow_ct]; omega
  have ho_a_151 : al_420.2 14 (al.1 14) = a_151 := by rw [ea_423, grow_ad hi_a_151]; exact ho_a_151
  have hi_a_151 : (al.1 14) < al_420.1 14 := by rw [ea_423, grow_ct]; omega
  have ho_a_161 : al_420.2 15 (al.1 15) = a_161 := by rw [ea_423, grow_ad hi_a_161]; exact ho_a_161
  have hi_a_161 : (al.1 15) < al_420.1 15 := by rw [ea_423, grow_ct]; omega
  have ho_a_179 : al_420.2 16 (al.1 16) = a_179 := by rw [ea_423, grow_ad hi_a_179]; exact ho_a_179
  have hi_a_179 : (al.1 16) < al_420.1 16 := by rw [ea_423, grow_ct]; omega
  have ho_a_189 : al_420.2 17 (al.1 17) = a_189 := by rw [ea_423, grow_ad hi_a_189]; exact ho_a_189
  have hi_a_189 : (al.1 17) < al_420.1 17 := by rw [ea_423, grow_ct]; omega
  have ho_a_199 : al_420.2 18 (al.1 18) = a_199 := by rw [ea_423, grow_ad hi_a_199]; exact ho_a_199
  have hi_a_199 : (al.1 18) < al_420.1 18 := by rw [ea_423, grow_ct]; omega
  have ho_a_209 : al_420.2 19 (al.1 19) = a_209 := by rw [ea_423, grow_ad hi_a_209]; exact ho_a_209
  have hi_a_209 : (al.1 19) < al_420.1 19 := by rw [ea_423, grow_ct]; omega
  have ho_a_21 : al_420.2 3 (al.1 3) = a_21 := by rw [ea_423, grow_ad hi_a_21]; exact ho_a_21
  have hi_a_21 : (al.1 3) < al_420.1 3 := by rw [ea_423, grow_ct]; omega
  have ho_a_219 : al_420.2 20 (al.1 20) = a_219 := by rw [ea_423, grow_ad hi_a_219]; exact ho_a_219
  have hi_a_219 : (al.1 20) < al_420.1 20 := by rw [ea_423, grow_ct]; omega
  have ho_a_229 : al_420.2 21 (al.1 21) = a_229 := by rw [ea_423, grow_ad hi_a_229]; exact ho_a_229
  have hi_a_229 : (al.1 21) < al_420.1 21 := by rw [ea_423, grow_ct]; omega
  have ho_a_239 : al_420.2 22 (al.1 22) = a_239 := by rw [ea_423, grow_ad hi_a_239]; exact ho_a_239
  have hi_a_239 : (al.1 22) < al_420.1 22 := by rw [ea_423, grow_ct]; omega
  have ho_a_249 : al_420.2 23 (al.1 23) = a_249 := by rw [ea_423, grow_ad hi_a_249]; exact ho_a_249
  have hi_a_249 : (al.1 23) < al_420.1 23 := by rw [ea_423, grow_ct]; omega
  have ho_a_259 : al_420.2 24 (al.1 24) = a_259 := by rw [ea_423, grow_ad hi_a_259]; exact ho_a_259
  have hi_a_259 : (al.1 24) < al_420.1 24 := by rw [ea_423, grow_ct]; omega
  have ho_a_269 : al_420.2 25 (al.1 25) = a_269 := by rw [ea_423, grow_ad hi_a_269]; exact ho_a_269
  have hi_a_269 : (al.1 25) < al_420.1 25 := by rw [ea_423, grow_ct]; omega
  have ho_a_279 : al_420.2 26 (al.1 26) = a_279 := by rw [ea_423, grow_ad hi_a_279]; exact ho_a_279
  have hi_a_279 : (al.1 26) < al_420.1 26 := by rw [ea_423, grow_ct]; omega
  have ho_a_289 : al_420.2 27 (al.1 27) = a_289 := by rw [ea_423, grow_ad hi_a_289]; exact ho_a_289
  have hi_a_289 : (al.1 27) < al_420.1 27 := by rw [ea_423, grow_ct]; omega
  have ho_a_299 : al_420.2 28 (al.1 28) = a_299 := by rw [ea_423, grow_ad hi_a_299]; exact ho_a_299
  have hi_a_299 : (al.1 28) < al_420.1 28 := by rw [ea_423, grow_ct]; omega
  have ho_a_309 : al_420.2 29 (al.1 29) = a_309 := by rw [ea_423, grow_ad hi_a_309]; exact ho_a_309
  have hi_a_309 : (al.1 29) < al_420.1 29 := by rw [ea_423, grow_ct]; omega
  have ho_a_319 : al_420.2 30 (al.1 30) = a_319 := by rw [ea_423, grow_ad hi_a_319]; exact ho_a_319
  have hi_a_319 : (al.1 30) < al_420.1 30 := by rw [ea_423, grow_ct]; omega
  have ho_a_329 : al_420.2 31 (al.1 31) = a_329 := by rw [ea_423, grow_ad hi_a_329]; exact ho_a_329
  have hi_a_329 : (al.1 31) < al_420.1 31 := by rw [ea_423, grow_ct]; omega
  have ho_a_339 : al_420.2 32 (al.1 32) = a_339 := by rw [ea_423, grow_ad hi_a_339]; exact ho_a_339
  have hi_a_339 : (al.1 32) < al_420.1 32 := by rw [ea_423, grow_ct]; omega
  have ho_a_349 : al_420.2 33 (al.1 33) = a_349 := by rw [ea_423, grow_ad hi_a_349]; exact ho_a_349
  have hi_a_349 : (al.1 33) < al_420.1 33 := by rw [ea_423, grow_ct]; omega
  have ho_a_359 : al_420.2 34 (al.1 34) = a_359 := by rw [ea_423, grow_ad hi_a_359]; exact ho_a_359
  have hi_a_359 : (al.1 34) < al_420.1 34 := by rw [ea_423, grow_ct]; omega
  have ho_a_369 : al_420.2 35 (al.1 35) = a_369 := by rw [ea_423, grow_ad hi_a_369]; exact ho_a_369
  have hi_a_369 : (al.1 35) < al_420.1 35 := by rw [ea_423, grow_ct]; omega
  have ho_a_379 : al_420.2 36 (al.1 36) = a_379 := by rw [ea_423, grow_ad hi_a_379]; exact ho_a_379
  have hi_a_379 : (al.1 36) < al_420.1 36 := by rw [ea_423, grow_ct]; omega
  have ho_a_389 : al_420.2 37 (al.1 37) = a_389 := by rw [ea_423, grow_ad hi_a_389]; exact ho_a_389
  have hi_a_389 : (al.1 37) < al_420.1 37 := by rw [ea_423, grow_ct]; omega
  have ho_a_399 : al_420.2 38 (al.1 38) = a_399 := by rw [ea_423, grow_ad hi_a_399]; exact ho_a_399
  have hi_a_399 : (al.1 38) < al_420.1 38 := by rw [ea_423, grow_ct]; omega
  have ho_a_409 : al_420.2 39 (al.1 39) = a_409 := by rw [ea_423, grow_ad hi_a_409]; exact ho_a_409
  have hi_a_409 : (al.1 39) < al_420.1 39 := by rw [ea_423, grow_ct]; omega
  have ho_a_51 : al_420.2 4 (al.1 4) = a_51 := by rw [ea_423, grow_ad hi_a_51]; exact ho_a_51
  have hi_a_51 : (al.1 4) < al_420.1 4 := by rw [ea_423, grow_ct]; omega
  have ho_a_61 : al_420.2 5 (al.1 5) = a_61 := by rw [ea_423, grow_ad hi_a_61]; exact ho_a_61
  have hi_a_61 : (al.1 5) < al_420.1 5 := by rw [ea_423, grow_ct]; omega
  have ho_a_71 : al_420.2 6 (al.1 6) = a_71 := by rw [ea_423, grow_ad hi_a_71]; exact ho_a_71
  have hi_a_71 : (al.1 6) < al_420.1 6 := by rw [ea_423, grow_ct]; omega
  have ho_a_81 : al_420.2 7 (al.1 7) = a_81 := by rw [ea_423, grow_ad hi_a_81]; exact ho_a_81
  have hi_a_81 : (al.1 7) < al_420.1 7 := by rw [ea_423, grow_ct]; omega
  have ho_a_91 : al_420.2 8 (al.1 8) = a_91 := by rw [ea_423, grow_ad hi_a_91]; exact ho_a_91
  have hi_a_91 : (al.1 8) < al_420.1 8 := by rw [ea_423, grow_ct]; omega
  have ho_o : al_420.2 0 i0 = o := by rw [ea_423, grow_ad hi_o]; exact ho_o
  have hi_o : i0 < al_420.1 0 := by rw [ea_423, grow_ct]; omega
  have ho_a_419 : al_420.2 40 (al.1 40) = a_419 := hn9
  have hi_a_419 : (al.1 40) < al_420.1 40 := by rw [ea_423, grow_ct, hc_426]; simp
  have hN : NN 0 i0 [46, 45, 44, 43, 42, 40, 39, 38, 36, 35, 34, 33, 32, 31, 29, 28, 27, 26, 25, 23, 22, 21, 19, 18, 17, 16, 15, 14, 13, 12, 11, 10, 9, 8, 7, 4, 3, 2, 1] rv_422 := hN.keep (fun k => by rw [er_425]; exact clr_ne (fun z => absurd z.1 (by decide)))
  have hE := hE9
  have hR := hR9
  have hB := hB9
  refine W.widen (k := 40) (n := 1475) (Nat.le_of_ble_eq_true rfl) (Nat.le_of_ble_eq_true rfl) ?_
  refine W.eq (g2 := F0 m 387 ls [.ref (al_420.2 40 (al.1 40)), .ref (al_420.2 0 i0)]) (by rw [ho_a_419, ho_o]) ?_
  refine q_putr (t := 0) (i := i0) (k := 47) (t' := 40) (j := (al.1 40)) C hU hS k_0 (hc := rfl) uwX12 tyX12 tyX12_ok nmX12 hi_o (by decide) rfl (Or.inr ⟨rfl, hnm, rfl⟩) rfl fl_X12_128 dX12_init_387 (fun _ => rfl) (fun _ => rfl) (fun H locs hU hS => ?_)
  have hz : sz ≤ H.size := Nat.le_trans hz0 hS.1
  obtain ⟨rv_427, er_428⟩ : ∃ z, z = up3 rv_422 0 i0 47 (some (al.1 40)) := ⟨_, rfl⟩
  rw [← er_428] at hU
  have hB : RB al_420 rv_427 := by rw [er_428]; exact hB.put rfl hi_a_419
  have hE := hE.putr (t := 0) (i := i0) (k := 47) (x := some (al.1 40)) (by decide)
  rw [← er_428] at hE
  have hN : NN 0 i0 [47, 46, 45, 44, 43, 42, 40, 39, 38, 36, 35, 34, 33, 32, 31, 29, 28, 27, 26, 25, 23, 22, 21, 19, 18, 17, 16, 15, 14, 13, 12, 11, 10, 9, 8, 7, 4, 3, 2, 1] rv_427 := by rw [er_428]; exact hN.put 47 (al.1 40)
  refine lv_aload_n hx hb dX12_init_390 rfl (lv_at hl 0 rfl) ?_
  refine lv_bipush (v := 40) hx hb dX12_init_391 (by decide) ?_
  refine q_newp (t := 41) (ty := .int) C hU hS hB hz rfl (Or.inl rfl) k_41 (fun _ => rfl) ac_int (by decide) (by decide) (by decide) (Nat.le_of_ble_eq_true rfl) (Nat.le_of_ble_eq_true rfl) dX12_init_393 (fun a_429 H hU hS hz => ?_)
  have hc_436 : al_420.1 41 = al.1 41 := hE.1 41
  have hE9 := hE.new 41 a_429
  have hR9 := hR.new 41 a_429
  have hB9 := hB.new 41 a_429
  have hn9 := grow_new (al := al_420) (t := 41) (a := a_429)
  rw [hc_436] at hU hE9 hR9 hB9 hn9
  obtain ⟨al_430, ea_433⟩ : ∃ z, z = grow al_420 41 a_429 := ⟨_, rfl⟩
  obtain ⟨iv_431, ei_434⟩ : ∃ z, z = clr iv_421 41 (al.1 41) 0 := ⟨_, rfl⟩
  obtain ⟨rv_432, er_435⟩ : ∃ z, z = clr rv_427 41 (al.1 41) none := ⟨_, rfl⟩
  rw [← ea_433] at hU hE9 hR9 hB9 hn9
  rw [← ei_434] at hU hE9 hR9
  rw [← er_435] at hU hE9 hB9
  have ho_a_1 : al_430.2 1 (al.1 1) = a_1 := by rw [ea_433, grow_ad hi_a_1]; exact ho_a_1
  have hi_a_1 : (al.1 1) < al_430.1 1 := by rw [ea_433, grow_ct]; omega
  have ho_a_101 : al_430.2 9 (al.1 9) = a_101 := by rw [ea_433, grow_ad hi_a_101]; exact ho_a_101
  have hi_a_101 : (al.1 9) < al_430.1 9 := by rw [ea_433, grow_ct]; omega
  have ho_a_11 : al_430.2 2 (al.1 2) = a_11 := by rw [ea_433, grow_ad hi_a_11]; exact ho_a_11
  have hi_a_11 : (al.1 2) < al_430.1 2 := by rw [ea_433, grow_ct]; omega
  have ho_a_111 : al_430.2 10 (al.1 10) = a_111 := by rw [ea_433, grow_ad hi_a_111]; exact ho_a_111
  have hi_a_111 : (al.1 10) < al_430.1 10 := by rw [ea_433, grow_ct]; omega
  have ho_a_121 : al_430.2 11 (al.1 11) = a_121 := by rw [ea_433, grow_ad hi_a_121]; exact ho_a_121
  have hi_a_121 : (al.1 11) < al_430.1 11 := by rw [ea_433, grow_ct]; omega
  have ho_a_131 : al_430.2 12 (al.1 12) = a_131 := by rw [ea_433, grow_ad hi_a_131]; exact ho_a_131
  have hi_a_131 : (al.1 12) < al_430.1 12 := by rw [ea_433, grow_ct]; omega
  have ho_a_141 : al_430.2 13 (al.1 13) = a_141 := by rw [ea_433, grow_ad hi_a_141]; exact ho_a_141
  have hi_a_141 : (al.1 13) < al_430.1 13 := by rw [ea_433, grow_ct]; omega
  have ho_a_151 : al_430.2 14 (al.1 14) = a_151 := by rw [ea_433, grow_ad hi_a_151]; exact ho_a_151
  have hi_a_151 : (al.1 14) < al_430.1 14 := by rw [ea_433, grow_ct]; omega
  have ho_a_161 : al_430.2 15 (al.1 15) = a_161 := by rw [ea_433, grow_ad hi_a_161]; exact ho_a_161
  have hi_a_161 : (al.1 15) < al_430.1 15 := by rw [ea_433, grow_ct]; omega
  have ho_a_179 : al_430.2 16 (al.1 16) = a_179 := by rw [ea_433, grow_ad hi_a_179]; exact ho_a_179
  have hi_a_179 : (al.1 16) < al_430.1 16 := by rw [ea_433, grow_ct]; omega
  have ho_a_189 : al_430.2 17 (al.1 17) = a_189 := by rw [ea_433, grow_ad hi_a_189]; exact ho_a_189
  have hi_a_189 : (al.1 17) < al_430.1 17 := by rw [ea_433, grow_ct]; omega
  have ho_a_199 : al_430.2 18 (al.1 18) = a_199 := by rw [ea_433, grow_ad hi_a_199]; exact ho_a_199
  have hi_a_199 : (al.1 18) < al_430.1 18 := by rw [ea_433, grow_ct]; omega
  have ho_a_209 : al_430.2 19 (al.1 19) = a_209 := by rw [ea_433, grow_ad hi_a_209]; exact ho_a_209
  have hi_a_209 : (al.1 19) < al_430.1 19 := by rw [ea_433, grow_ct]; omega
  have ho_a_21 : al_430.2 3 (al.1 3) = a_21 := by rw [ea_433, grow_ad hi_a_21]; exact ho_a_21
  have hi_a_21 : (al.1 3) < al_430.1 3 := by rw [ea_433, grow_ct]; omega
  have ho_a_219 : al_430.2 20 (al.1 20) = a_219 := by rw [ea_433, grow_ad hi_a_219]; exact ho_a_219
  have hi_a_219 : (al.1 20) < al_430.1 20 := by rw [ea_433, grow_ct]; omega
  have ho_a_229 : al_430.2 21 (al.1 21) = a_229 := by rw [ea_433, grow_ad hi_a_229]; exact ho_a_229
  have hi_a_229 : (al.1 21) < al_430.1 21 := by rw [ea_433, grow_ct]; omega
  have ho_a_239 : al_430.2 22 (al.1 22) = a_239 := by rw [ea_433, grow_ad hi_a_239]; exact ho_a_239
  have hi_a_239 : (al.1 22) < al_430.1 22 := by rw [ea_433, grow_ct]; omega
  have ho_a_249 : al_430.2 23 (al.1 23) = a_249 := by rw [ea_433, grow_ad hi_a_249]; exact ho_a_249
  have hi_a_249 : (al.1 23) < al_430.1 23 := by rw [ea_433, grow_ct]; omega
  have ho_a_259 : al_430.2 24 (al.1 24) = a_259 := by rw [ea_433, grow_ad hi_a_259]; exact ho_a_259
  have hi_a_259 : (al.1 24) < al_430.1 24 := by rw [ea_433, grow_ct]; omega
  have ho_a_269 : al_430.2 25 (al.1 25) = a_269 := by rw [ea_433, grow_ad hi_a_269]; exact ho_a_269
  have hi_a_269 : (al.1 25) < al_430.1 25 := by rw [ea_433, grow_ct]; omega
  have ho_a_279 : al_430.2 26 (al.1 26) = a_279 := by rw [ea_433, grow_ad hi_a_279]; exact ho_a_279
  have hi_a_279 : (al.1 26) < al_430.1 26 := by rw [ea_433, grow_ct]; omega
  have ho_a_289 : al_430.2 27 (al.1 27) = a_289 := by rw [ea_433, grow_ad hi_a_289]; exact ho_a_289
  have hi_a_289 : (al.1 27) < al_430.1 27 := by rw [ea_433, grow_ct]; omega
  have ho_a_299 : al_430.2 28 (al.1 28) = a_299 := by rw [ea_433, grow_ad hi_a_299]; exact ho_a_299
  have hi_a_299 : (al.1 28) < al_430.1 28 := by rw [ea_433, grow_ct]; omega
  have ho_a_309 : al_430.2 29 (al.1 29) = a_309 := by rw [ea_433, grow_ad hi_a_309]; exact ho_a_309
  have hi_a_309 : (al.1 29) < al_430.1 29 := by rw [ea_433, grow_ct]; omega
  have ho_a_319 : al_430.2 30 (al.1 30) = a_319 := by rw [ea_433, grow_ad hi_a_319]; exact ho_a_319
  have hi_a_319 : (al.1 30) < al_430.1 30 := by rw [ea_433, grow_ct]; omega
  have ho_a_329 : al_430.2 31 (al.1 31) = a_329 := by rw [ea_433, grow_ad hi_a_329]; exact ho_a_329
  have hi_a_329 : (al.1 31) < al_430.1 31 := by rw [ea_433, grow_ct]; omega
  have ho_a_339 : al_430.2 32 (al.1 32) = a_339 := by rw [ea_433, grow_ad hi_a_339]; exact ho_a_339
  have hi_a_339 : (al.1 32) < al_430.1 32 := by rw [ea_433, grow_ct]; omega
  have ho_a_349 : al_430.2 33 (al.1 33) = a_349 := by rw [ea_433, grow_ad hi_a_349]; exact ho_a_349
  have hi_a_349 : (al.1 33) < al_430.1 33 := by rw [ea_433, grow_ct]; omega
  have ho_a_359 : al_430.2 34 (al.1 34) = a_359 := by rw [ea_433, grow_ad hi_a_359]; exact ho_a_359
  have hi_a_359 : (al.1 34) < al_430.1 34 := by rw [ea_433, grow_ct]; omega
  have ho_a_369 : al_430.2 35 (al.1 35) = a_369 := by rw [ea_433, grow_ad hi_a_369]; exact ho_a_369
  have hi_a_369 : (al.1 35) < al_430.1 35 := by rw [ea_433, grow_ct]; omega
  have ho_a_379 : al_430.2 36 (al.1 36) = a_379 := by rw [ea_433, grow_ad hi_a_379]; exact ho_a_379
  have hi_a_379 : (al.1 36) < al_430.1 36 := by rw [ea_433, grow_ct]; omega
  have ho_a_389 : al_430.2 37 (al.1 37) = a_389 := by rw [ea_433, grow_ad hi_a_389]; exact ho_a_389
  have hi_a_389 : (al.1 37) < al_430.1 37 := by rw [ea_433, grow_ct]; omega
  have ho_a_399 : al_430.2 38 (al.1 38) = a_399 := by rw [ea_433, grow_ad hi_a_399]; exact ho_a_399
  have hi_a_399 : (al.1 38) < al_430.1 38 := by rw [ea_433, grow_ct]; omega
  have ho_a_409 : al_430.2 39 (al.1 39) = a_409 := by rw [ea_433, grow_ad hi_a_409]; exact ho_a_409
  have hi_a_409 : (al.1 39) < al_430.1 39 := by rw [ea_433, grow_ct]; omega
  have ho_a_419 : al_430.2 40 (al.1 40) = a_419 := by rw [ea_433, grow_ad hi_a_419]; exact ho_a_419
  have hi_a_419 : (al.1 40) < al_430.1 40 := by rw [ea_433, grow_ct]; omega
  have ho_a_51 : al_430.2 4 (al.1 4) = a_51 := by rw [ea_433, grow_ad hi_a_51]; exact ho_a_51
  have hi_a_51 : (al.1 4) < al_430.1 4 := by rw [ea_433, grow_ct]; omega
  have ho_a_61 : al_430.2 5 (al.1 5) = a_61 := by rw [ea_433, grow_ad hi_a_61]; exact ho_a_61
  have hi_a_61 : (al.1 5) < al_430.1 5 := by rw [ea_433, grow_ct]; omega
  have ho_a_71 : al_430.2 6 (al.1 6) = a_71 := by rw [ea_433, grow_ad hi_a_71]; exact ho_a_71
  have hi_a_71 : (al.1 6) < al_430.1 6 := by rw [ea_433, grow_ct]; omega
  have ho_a_81 : al_430.2 7 (al.1 7) = a_81 := by rw [ea_433, grow_ad hi_a_81]; exact ho_a_81
  have hi_a_81 : (al.1 7) < al_430.1 7 := by rw [ea_433, grow_ct]; omega
  have ho_a_91 : al_430.2 8 (al.1 8) = a_91 := by rw [ea_433, grow_ad hi_a_91]; exact ho_a_91
  have hi_a_91 : (al.1 8) < al_430.1 8 := by rw [ea_433, grow_ct]; omega
  have ho_o : al_430.2 0 i0 = o := by rw [ea_433, grow_ad hi_o]; exact ho_o
  have hi_o : i0 < al_430.1 0 := by rw [ea_433, grow_ct]; omega
  have ho_a_429 : al_430.2 41 (al.1 41) = a_429 := hn9
  have hi_a_429 : (al.1 41) < al_430.1 41 := by rw [ea_433, grow_ct, hc_436]; simp
  have hN : NN 0 i0 [47, 46, 45, 44, 43, 42, 40, 39, 38, 36, 35, 34, 33, 32, 31, 29, 28, 27, 26, 25, 23, 22, 21, 19, 18, 17, 16, 15, 14, 13, 12, 11, 10, 9, 8, 7, 4, 3, 2, 1] rv_432 := hN.keep (fun k => by rw [er_435]; exact clr_ne (fun z => absurd z.1 (by decide)))
  have hE := hE9
  have hR := hR9
  have hB := hB9
  refine W.widen (k := 41) (n := 1515) (Nat.le_of_ble_eq_true rfl) (Nat.le_of_ble_eq_true rfl) ?_
  refine W.eq (g2 := F0 m 395 ls [.ref (al_430.2 41 (al.1 41)), .ref (al_430.2 0 i0)]) (by rw [ho_a_429, ho_o]) ?_
  refine q_putr (t := 0) (i := i0) (k := 49) (t' := 41) (j := (al.1 41)) C hU hS k_0 (hc := rfl) uwX12 tyX12 tyX12_ok nmX12 hi_o (by decide) rfl (Or.inr ⟨rfl, hnm, rfl⟩) rfl fl_X12_131 dX12_init_395 (fun _ => rfl) (fun _ => rfl) (fun H locs hU hS => ?_)
  have hz : sz ≤ H.size := Nat.le_trans hz0 hS.1
  obtain ⟨rv_437, er_438⟩ : ∃ z, z = up3 rv_432 0 i0 49 (some (al.1 41)) := ⟨_, rfl⟩
  rw [← er_438] at hU
  have hB : RB al_430 rv_437 := by rw [er_438]; exact hB.put rfl hi_a_429
  have hE := hE.putr (t := 0) (i := i0) (k := 49) (x := some (al.1 41)) (by decide)
  rw [← er_438] at hE
  have hN : NN 0 i0 [49, 47, 46, 45, 44, 43, 42, 40, 39, 38, 36, 35, 34, 33, 32, 31, 29, 28, 27, 26, 25, 23, 22, 21, 19, 18, 17, 16, 15, 14, 13, 12, 11, 10, 9, 8, 7, 4, 3, 2, 1] rv_437 := by rw [er_438]; exact hN.put 49 (al.1 41)
  refine lv_aload_n hx hb dX12_init_398 rfl (lv_at hl 0 rfl) ?_
  refine lv_bipush (v := 40) hx hb dX12_init_399 (by decide) ?_
  refine q_newp (t := 42) (ty := .int) C hU hS hB hz rfl (Or.inl rfl) k_42 (fun _ => rfl) ac_int (by decide) (by decide) (by decide) (Nat.le_of_ble_eq_true rfl) (Nat.le_of_ble_eq_true rfl) dX12_init_401 (fun a_439 H hU hS hz => ?_)
  have hc_446 : al_430.1 42 = al.1 42 := hE.1 42
  have hE9 := hE.new 42 a_439
  have hR9 := hR.new 42 a_439
  have hB9 := hB.new 42 a_439
  have hn9 := grow_new (al := al_430) (t := 42) (a := a_439)
  rw [hc_446] at hU hE9 hR9 hB9 hn9
  obtain ⟨al_440, ea_443⟩ : ∃ z, z = grow al_430 42 a_439 := ⟨_, rfl⟩
  obtain ⟨iv_441, ei_444⟩ : ∃ z, z = clr iv_431 42 (al.1 42) 0 := ⟨_, rfl⟩
  obtain ⟨rv_442, er_445⟩ : ∃ z, z = clr rv_437 42 (al.1 42) none := ⟨_, rfl⟩
  rw [← ea_443] at hU hE9 hR9 hB9 hn9
  rw [← ei_444] at hU hE9 hR9
  rw [← er_445] at hU hE9 hB9
  have ho_a_1 : al_440.2 1 (al.1 1) = a_1 := by rw [ea_443, grow_ad hi_a_1]; exact ho_a_1
  have hi_a_1 : (al.1 1) < al_440.1 1 := by rw [ea_443, grow_ct]; omega
  have ho_a_101 : al_440.2 9 (al.1 9) = a_101 := by rw [ea_443, grow_ad hi_a_101]; exact ho_a_101
  have hi_a_101 : (al.1 9) < al_440.1 9 := by rw [ea_443, grow_ct]; omega
  have ho_a_11 : al_440.2 2 (al.1 2) = a_11 := by rw [ea_443, grow_ad hi_a_11]; exact ho_a_11
  have hi_a_11 : (al.1 2) < al_440.1 2 := by rw [ea_443, grow_ct]; omega
  have ho_a_111 : al_440.2 10 (al.1 10) = a_111 := by rw [ea_443, grow_ad hi_a_111]; exact ho_a_111
  have hi_a_111 : (al.1 10) < al_440.1 10 := by rw [ea_443, grow_ct]; omega
  have ho_a_121 : al_440.2 11 (al.1 11) = a_121 := by rw [ea_443, grow_ad hi_a_121]; exact ho_a_121
  have hi_a_121 : (al.1 11) < al_440.1 11 := by rw [ea_443, grow_ct]; omega
  have ho_a_131 : al_440.2 12 (al.1 12) = a_131 := by rw [ea_443, grow_ad hi_a_131]; exact ho_a_131
  have hi_a_131 : (al.1 12) < al_440.1 12 := by rw [ea_443, grow_ct]; omega
  have ho_a_141 : al_440.2 13 (al.1 13) = a_141 := by rw [ea_443, grow_ad hi_a_141]; exact ho_a_141
  have hi_a_141 : (al.1 13) < al_440.1 13 := by rw [ea_443, grow_ct]; omega
  have ho_a_151 : al_440.2 14 (al.1 14) = a_151 := by rw [ea_443, grow_ad hi_a_151]; exact ho_a_151
  have hi_a_151 : (al.1 14) < al_440.1 14 := by rw [ea_443, grow_ct]; omega
  have ho_a_161 : al_440.2 15 (al.1 15) = a_161 := by rw [ea_443, grow_ad hi_a_161]; exact ho_a_161
  have hi_a_161 : (al.1 15) < al_440.1 15 := by rw [ea_443, grow_ct]; omega
  have ho_a_179 : al_440.2 16 (al.1 16) = a_179 := by rw [ea_443, grow_ad hi_a_179]; exact ho_a_179
  have hi_a_179 : (al.1 16) < al_440.1 16 := by rw [ea_443, grow_ct]; omega
  have ho_a_189 : al_440.2 17 (al.1 17) = a_189 := by rw [ea_443, grow_ad hi_a_189]; exact ho_a_189
  have hi_a_189 : (al.1 17) < al_440.1 17 := by rw [ea_443, grow_ct]; omega
  have ho_a_199 : al_440.2 18 (al.1 18) = a_199 := by rw [ea_443, grow_ad hi_a_199]; exact ho_a_199
  have hi_a_199 : (al.1 18) < al_440.1 18 := by rw [ea_443, grow_ct]; omega
  have ho_a_209 : al_440.2 19 (al.1 19) = a_209 := by rw [ea_443, grow_ad hi_a_209]; exact ho_a_209
  have hi_a_209 : (al.1 19) < al_440.1 19 := by rw [ea_443, grow_ct]; omega
  have ho_a_21 : al_440.2 3 (al.1 3) = a_21 := by rw [ea_443, grow_ad hi_a_21]; exact ho_a_21
  have hi_a_21 : (al.1 3) < al_440.1 3 := by rw [ea_443, grow_ct]; omega
  have ho_a_219 : al_440.2 20 (al.1 20) = a_219 := by rw [ea_443, grow_ad hi_a_219]; exact ho_a_219
  have hi_a_219 : (al.1 20) < al_440.1 20 := by rw [ea_443, grow_ct]; omega
  have ho_a_229 : al_440.2 21 (al.1 21) = a_229 := by rw [ea_443, grow_ad hi_a_229]; exact ho_a_229
  have hi_a_229 : (al.1 21) < al_440.1 21 := by rw [ea_443, grow_ct]; omega
  have ho_a_239 : al_440.2 22 (al.1 22) = a_239 := by rw [ea_443, grow_ad hi_a_239]; exact ho_a_239
  have hi_a_239 : (al.1 22) < al_440.1 22 := by rw [ea_443, grow_ct]; omega
  have ho_a_249 : al_440.2 23 (al.1 23) = a_249 := by rw [ea_443, grow_ad hi_a_249]; exact ho_a_249
  have hi_a_249 : (al.1 23) < al_440.1 23 := by rw [ea_443, grow_ct]; omega
  have ho_a_259 : al_440.2 24 (al.1 24) = a_259 := by rw [ea_443, grow_ad hi_a_259]; exact ho_a_259
  have hi_a_259 : (al.1 24) < al_440.1 24 := by rw [ea_443, grow_ct]; omega
  have ho_a_269 : al_440.2 25 (al.1 25) = a_269 := by rw [ea_443, grow_ad hi_a_269]; exact ho_a_269
  have hi_a_269 : (al.1 25) < al_440.1 25 := by rw [ea_443, grow_ct]; omega
  have ho_a_279 : al_440.2 26 (al.1 26) = a_279 := by rw [ea_443, grow_ad hi_a_279]; exact ho_a_279
  have hi_a_279 : (al.1 26) < al_440.1 26 := by rw [ea_443, grow_ct]; omega
  have ho_a_289 : al_440.2 27 (al.1 27) = a_289 := by rw [ea_443, grow_ad hi_a_289]; exact ho_a_289
  have hi_a_289 : (al.1 27) < al_440.1 27 := by rw [ea_443, grow_ct]; omega
  have ho_a_299 : al_440.2 28 (al.1 28) = a_299 := by rw [ea_443, grow_ad hi_a_299]; exact ho_a_299
  have hi_a_299 : (al.1 28) < al_440.1 28 := by rw [ea_443, grow_ct]; omega
  have ho_a_309 : al_440.2 29 (al.1 29) = a_309 := by rw [ea_443, grow_ad hi_a_309]; exact ho_a_309
  have hi_a_309 : (al.1 29) < al_440.1 29 := by rw [ea_443, grow_ct]; omega
  have ho_a_319 : al_440.2 30 (al.1 30) = a_319 := by rw [ea_443, grow_ad hi_a_319]; exact ho_a_319
  have hi_a_319 : (al.1 30) < al_440.1 30 := by rw [ea_443, grow_ct]; omega
  have ho_a_329 : al_440.2 31 (al.1 31) = a_329 := by rw [ea_443, grow_ad hi_a_329]; exact ho_a_329
  have hi_a_329 : (al.1 31) < al_440.1 31 := by rw [ea_443, grow_ct]; omega
  have ho_a_339 : al_440.2 32 (al.1 32) = a_339 := by rw [ea_443, grow_ad hi_a_339]; exact ho_a_339
  have hi_a_339 : (al.1 32) < al_440.1 32 := by rw [ea_443, grow_ct]; omega
  have ho_a_349 : al_440.2 33 (al.1 33) = a_349 := by rw [ea_443, grow_ad hi_a_349]; exact ho_a_349
  have hi_a_349 : (al.1 33) < al_440.1 33 := by rw [ea_443, grow_ct]; omega
  have ho_a_359 : al_440.2 34 (al.1 34) = a_359 := by rw [ea_443, grow_ad hi_a_359]; exact ho_a_359
  have hi_a_359 : (al.1 34) < al_440.1 34 := by rw [ea_443, grow_ct]; omega
  have ho_a_369 : al_440.2 35 (al.1 35) = a_369 := by rw [ea_443, grow_ad hi_a_369]; exact ho_a_369
  have hi_a_369 : (al.1 35) < al_440.1 35 := by rw [ea_443, grow_ct]; omega
  have ho_a_379 : al_440.2 36 (al.1 36) = a_379 := by rw [ea_443, grow_ad hi_a_379]; exact ho_a_379
  have hi_a_379 : (al.1 36) < al_440.1 36 := by rw [ea_443, grow_ct]; omega
  have ho_a_389 : al_440.2 37 (al.1 37) = a_389 := by rw [ea_443, grow_ad hi_a_389]; exact ho_a_389
  have hi_a_389 : (al.1 37) < al_440.1 37 := by rw [ea_443, grow_ct]; omega
  have ho_a_399 : al_440.2 38 (al.1 38) = a_399 := by rw [ea_443, grow_ad hi_a_399]; exact ho_a_399
  have hi_a_399 : (al.1 38) < al_440.1 38 := by rw [ea_443, grow_ct]; omega
  have ho_a_409 : al_440.2 39 (al.1 39) = a_409 := by rw [ea_443, grow_ad hi_a_409]; exact ho_a_409
  have hi_a_409 : (al.1 39) < al_440.1 39 := by rw [ea_443, grow_ct]; omega
  have ho_a_419 : al_440.2 40 (al.1 40) = a_419 := by rw [ea_443, grow_ad hi_a_419]; exact ho_a_419
  have hi_a_419 : (al.1 40) < al_440.1 40 := by rw [ea_443, grow_ct]; omega
  have ho_a_429 : al_440.2 41 (al.1 41) = a_429 := by rw [ea_443, grow_ad hi_a_429]; exact ho_a_429
  have hi_a_429 : (al.1 41) < al_440.1 41 := by rw [ea_443, grow_ct]; omega
  have ho_a_51 : al_440.2 4 (al.1 4) = a_51 := by rw [ea_443, grow_ad hi_a_51]; exact ho_a_51
  have hi_a_51 : (al.1 4) < al_440.1 4 := by rw [ea_443, grow_ct]; omega
  have ho_a_61 : al_440.2 5 (al.1 5) = a_61 := by rw [ea_443, grow_ad hi_a_61]; exact ho_a_61
  have hi_a_61 : (al.1 5) < al_440.1 5 := by rw [ea_443, grow_ct]; omega
  have ho_a_71 : al_440.2 6 (al.1 6) = a_71 := by rw [ea_443, grow_ad hi_a_71]; exact ho_a_71
  have hi_a_71 : (al.1 6) < al_440.1 6 := by rw [ea_443, grow_ct]; omega
  have ho_a_81 : al_440.2 7 (al.1 7) = a_81 := by rw [ea_443, grow_ad hi_a_81]; exact ho_a_81
  have hi_a_81 : (al.1 7) < al_440.1 7 := by rw [ea_443, grow_ct]; omega
  have ho_a_91 : al_440.2 8 (al.1 8) = a_91 := by rw [ea_443, grow_ad hi_a_91]; exact ho_a_91
  have hi_a_91 : (al.1 8) < al_440.1 8 := by rw [ea_443, grow_ct]; omega
  have ho_o : al_440.2 0 i0 = o := by rw [ea_443, grow_ad hi_o]; exact ho_o
  have hi_o : i0 < al_440.1 0 := by rw [ea_443, grow_ct]; omega
  have ho_a_439 : al_440.2 42 (al.1 42) = a_439 := hn9
  have hi_a_439 : (al.1 42) < al_440.1 42 := by rw [ea_443, grow_ct, hc_446]; simp
  have hN : NN 0 i0 [49, 47, 46, 45, 44, 43, 42, 40, 39, 38, 36, 35, 34, 33, 32, 31, 29, 28, 27, 26, 25, 23, 22, 21, 19, 18, 17, 16, 15, 14, 13, 12, 11, 10, 9, 8, 7, 4, 3, 2, 1] rv_442 := hN.keep (fun k => by rw [er_445]; exact clr_ne (fun z => absurd z.1 (by decide)))
  have hE := hE9
  have hR := hR9
  have hB := hB9
  refine W.widen (k := 42) (n := 1555) (Nat.le_of_ble_eq_true rfl) (Nat.le_of_ble_eq_true rfl) ?_
  refine W.eq (g2 := F0 m 403 ls [.ref (al_440.2 42 (al.1 42)), .ref (al_440.2 0 i0)]) (by rw [ho_a_439, ho_o]) ?_
  refine q_putr (t := 0) (i := i0) (k := 50) (t' := 42) (j := (al.1 42)) C hU hS k_0 (hc := rfl) uwX12 tyX12 tyX12_ok nmX12 hi_o (by decide) rfl (Or.inr ⟨rfl, hnm, rfl⟩) rfl fl_X12_134 dX12_init_403 (fun _ => rfl) (fun _ => rfl) (fun H locs hU hS => ?_)
  have hz : sz ≤ H.size := Nat.le_trans hz0 hS.1
  obtain ⟨rv_447, er_448⟩ : ∃ z, z = up3 rv_442 0 i0 50 (some (al.1 42)) := ⟨_, rfl⟩
  rw [← er_448] at hU
  have hB : RB al_440 rv_447 := by rw [er_448]; exact hB.put rfl hi_a_439
  have hE := hE.putr (t := 0) (i := i0) (k := 50) (x := some (al.1 42)) (by decide)
  rw [← er_448] at hE
  have hN : NN 0 i0 [50, 49, 47, 46, 45, 44, 43, 42, 40, 39, 38, 36, 35, 34, 33, 32, 31, 29, 28, 27, 26, 25, 23, 22, 21, 19, 18, 17, 16, 15, 14, 13, 12, 11, 10, 9, 8, 7, 4, 3, 2, 1] rv_447 := by rw [er_448]; exact hN.put 50 (al.1 42)
  refine lv_aload_n hx hb dX12_init_406 rfl (lv_at hl 0 rfl) ?_
  refine lv_bipush (v := 40) hx hb dX12_init_407 (by decide) ?_
  refine q_newp (t := 43) (ty := .int) C hU hS hB hz rfl (Or.inl rfl) k_43 (fun _ => rfl) ac_int (by decide) (by decide) (by decide) (Nat.le_of_ble_eq_true rfl) (Nat.le_of_ble_eq_true rfl) dX12_init_409 (fun a_449 H hU hS hz => ?_)
  have hc_456 : al_440.1 43 = al.1 43 := hE.1 43
  have hE9 := hE.new 43 a_449
  have hR9 := hR.new 43 a_449
  have hB9 := hB.new 43 a_449
  have hn9 := grow_new (al := al_440) (t := 43) (a := a_449)
  rw [hc_456] at hU hE9 hR9 hB9 hn9
  obtain ⟨al_450, ea_453⟩ : ∃ z, z = grow al_440 43 a_449 := ⟨_, rfl⟩
  obtain ⟨iv_451, ei_454⟩ : ∃ z, z = clr iv_441 43 (al.1 43) 0 := ⟨_, rfl⟩
  obtain ⟨rv_452, er_455⟩ : ∃ z, z = clr rv_447 43 (al.1 43) none := ⟨_, rfl⟩
  rw [← ea_453] at hU hE9 hR9 hB9 hn9
  rw [← ei_454] at hU hE9 hR9
  rw [← er_455] at hU hE9 hB9
  have ho_a_1 : al_450.2 1 (al.1 1) = a_1 := by rw [ea_453, grow_ad hi_a_1]; exact ho_a_1
  have hi_a_1 : (al.1 1) < al_450.1 1 := by rw [ea_453, grow_ct]; omega
  have ho_a_101 : al_450.2 9 (al.1 9) = a_101 := by rw [ea_453, grow_ad hi_a_101]; exact ho_a_101
  have hi_a_101 : (al.1 9) < al_450.1 9 := by rw [ea_453, grow_ct]; omega
  have ho_a_11 : al_450.2 2 (al.1 2) = a_11 := by rw [ea_453, grow_ad hi_a_11]; exact ho_a_11
  have hi_a_11 : (al.1 2) < al_450.1 2 := by rw [ea_453, grow_ct]; omega
  have ho_a_111 : al_450.2 10 (al.1 10) = a_111 := by rw [ea_453, grow_ad hi_a_111]; exact ho_a_111
  have hi_a_111 : (al.1 10) < al_450.1 10 := by rw [ea_453, grow_ct]; omega
  have ho_a_121 : al_450.2 11 (al.1 11) = a_121 := by rw [ea_453, grow_ad hi_a_121]; exact ho_a_121
  have hi_a_121 : (al.1 11) < al_450.1 11 := by rw [ea_453, grow_ct]; omega
  have ho_a_131 : al_450.2 12 (al.1 12) = a_131 := by rw [ea_453, grow_ad hi_a_131]; exact ho_a_131
  have hi_a_131 : (al.1 12) < al_450.1 12 := by rw [ea_453, grow_ct]; omega
  have ho_a_141 : al_450.2 13 (al.1 13) = a_141 := by rw [ea_453, grow_ad hi_a_141]; exact ho_a_141
  have hi_a_141 : (al.1 13) < al_450.1 13 := by rw [ea_453, grow_ct]; omega
  have ho_a_151 : al_450.2 14 (al.1 14) = a_151 := by rw [ea_453, grow_ad hi_a_151]; exact ho_a_151
  have hi_a_151 : (al.1 14) < al_450.1 14 := by rw [ea_453, grow_ct]; omega
  have ho_a_161 : al_450.2 15 (al.1 15) = a_161 := by rw [ea_453, grow_ad hi_a_161]; exact ho_a_161
  have hi_a_161 : (al.1 15) < al_450.1 15 := by rw [ea_453, grow_ct]; omega
  have ho_a_179 : al_450.2 16 (al.1 16) = a_179 := by rw [ea_453, grow_ad hi_a_179]; exact ho_a_179
  have hi_a_179 : (al.1 16) < al_450.1 16 := by rw [ea_453, grow_ct]; omega
  have ho_a_189 : al_450.2 17 (al.1 17) = a_189 := by rw [ea_453, grow_ad hi_a_189]; exact ho_a_189
  have hi_a_189 : (al.1 17) < al_450.1 17 := by rw [ea_453, grow_ct]; omega
  have ho_a_199 : al_450.2 18 (al.1 18) = a_199 := by rw [ea_453, grow_ad hi_a_199]; exact ho_a_199
  have hi_a_199 : (al.1 18) < al_450.1 18 := by rw [ea_453, grow_ct]; omega
  have ho_a_209 : al_450.2 19 (al.1 19) = a_209 := by rw [ea_453, grow_ad hi_a_209]; exact ho_a_209
  have hi_a_209 : (al.1 19) < al_450.1 19 := by rw [ea_453, grow_ct]; omega
  have ho_a_21 : al_450.2 3 (al.1 3) = a_21 := by rw [ea_453, grow_ad hi_a_21]; exact ho_a_21
  have hi_a_21 : (al.1 3) < al_450.1 3 := by rw [ea_453, grow_ct]; omega
  have ho_a_219 : al_450.2 20 (al.1 20) = a_219 := by rw [ea_453, grow_ad hi_a_219]; exact ho_a_219
  have hi_a_219 : (al.1 20) < al_450.1 20 := by rw [ea_453, grow_ct]; omega
  have ho_a_229 : al_450.2 21 (al.1 21) = a_229 := by rw [ea_453, grow_ad hi_a_229]; exact ho_a_229
  have hi_a_229 : (al.1 21) < al_450.1 21 := by rw [ea_453, grow_ct]; omega
  have ho_a_239 : al_450.2 22 (al.1 22) = a_239 := by rw [ea_453, grow_ad hi_a_239]; exact ho_a_239
  have hi_a_239 : (al.1 22) < al_450.1 22 := by rw [ea_453, grow_ct]; omega
  have ho_a_249 : al_450.2 23 (al.1 23) = a_249 := by rw [ea_453, grow_ad hi_a_249]; exact ho_a_249
  have hi_a_249 : (al.1 23) < al_450.1 23 := by rw [ea_453, grow_ct]; omega
  have ho_a_259 : al_450.2 24 (al.1 24) = a_259 := by rw [ea_453, grow_ad hi_a_259]; exact ho_a_259
  have hi_a_259 : (al.1 24) < al_450.1 24 := by rw [ea_453, grow_ct]; omega
  have ho_a_269 : al_450.2 25 (al.1 25) = a_269 := by rw [ea_453, grow_ad hi_a_269]; exact ho_a_269
  have hi_a_269 : (al.1 25) < al_450.1 25 := by rw [ea_453, grow_ct]; omega
  have ho_a_279 : al_450.2 26 (al.1 26) = a_279 := by rw [ea_453, grow_ad hi_a_279]; exact ho_a_279
  have hi_a_279 : (al.1 26) < al_450.1 26 := by rw [ea_453, grow_ct]; omega
  have ho_a_289 : al_450.2 27 (al.1 27) = a_289 := by rw [ea_453, grow_ad hi_a_289]; exact ho_a_289
  have hi_a_289 : (al.1 27) < al_450.1 27 := by rw [ea_453, grow_ct]; omega
  have ho_a_299 : al_450.2 28 (al.1 28) = a_299 := by rw [ea_453, grow_ad hi_a_299]; exact ho_a_299
  have hi_a_299 : (al.1 28) < al_450.1 28 := by rw [ea_453, grow_ct]; omega
  have ho_a_309 : al_450.2 29 (al.1 29) = a_309 := by rw [ea_453, grow_ad hi_a_309]; exact ho_a_309
  have hi_a_309 : (al.1 29) < al_450.1 29 := by rw [ea_453, grow_ct]; omega
  have ho_a_319 : al_450.2 30 (al.1 30) = a_319 := by rw [ea_453, grow_ad hi_a_319]; exact ho_a_319
  have hi_a_319 : (al.1 30) < al_450.1 30 := by rw [ea_453, grow_ct]; omega
  have ho_a_329 : al_450.2 31 (al.1 31) = a_329 := by rw [ea_453, grow_ad hi_a_329]; exact ho_a_329
  have hi_a_329 : (al.1 31) < al_450.1 31 := by rw [ea_453, grow_ct]; omega
  have ho_a_339 : al_450.2 32 (al.1 32) = a_339 := by rw [ea_453, grow_ad hi_a_339]; exact ho_a_339
  have hi_a_339 : (al.1 32) < al_450.1 32 := by rw [ea_453, grow_ct]; omega
  have ho_a_349 : al_450.2 33 (al.1 33) = a_349 := by rw [ea_453, grow_ad hi_a_349]; exact ho_a_349
  have hi_a_349 : (al.1 33) < al_450.1 33 := by rw [ea_453, grow_ct]; omega
  have ho_a_359 : al_450.2 34 (al.1 34) = a_359 := by rw [ea_453, grow_ad hi_a_359]; exact ho_a_359
  have hi_a_359 : (al.1 34) < al_450.1 34 := by rw [ea_453, grow_ct]; omega
  have ho_a_369 : al_450.2 35 (al.1 35) = a_369 := by rw [ea_453, grow_ad hi_a_369]; exact ho_a_369
  have hi_a_369 : (al.1 35) < al_450.1 35 := by rw [ea_453, grow_ct]; omega
  have ho_a_379 : al_450.2 36 (al.1 36) = a_379 := by rw [ea_453, grow_ad hi_a_379]; exact ho_a_379
  have hi_a_379 : (al.1 36) < al_450.1 36 := by rw [ea_453, grow_ct]; omega
  have ho_a_389 : al_450.2 37 (al.1 37) = a_389 := by rw [ea_453, grow_ad hi_a_389]; exact ho_a_389
  have hi_a_389 : (al.1 37) < al_450.1 37 := by rw [ea_453, grow_ct]; omega
  have ho_a_399 : al_450.2 38 (al.1 38) = a_399 := by rw [ea_453, grow_ad hi_a_399]; exact ho_a_399
  have hi_a_399 : (al.1 38) < al_450.1 38 := by rw [ea_453, grow_ct]; omega
  have ho_a_409 : al_450.2 39 (al.1 39) = a_409 := by rw [ea_453, grow_ad hi_a_409]; exact ho_a_409
  have hi_a_409 : (al.1 39) < al_450.1 39 := by rw [ea_453, grow_ct]; omega
  have ho_a_419 : al_450.2 40 (al.1 40) = a_419 := by rw [ea_453, grow_ad hi_a_419]; exact ho_a_419
  have hi_a_419 : (al.1 40) < al_450.1 40 := by rw [ea_453, grow_ct]; omega
  have ho_a_429 : al_450.2 41 (al.1 41) = a_429 := by rw [ea_453, grow_ad hi_a_429]; exact ho_a_429
  have hi_a_429 : (al.1 41) < al_450.1 41 := by rw [ea_453, grow_ct]; omega
  have ho_a_439 : al_450.2 42 (al.1 42) = a_439 := by rw [ea_453, grow_ad hi_a_439]; exact ho_a_439
  have hi_a_439 : (al.1 42) < al_450.1 42 := by rw [ea_453, grow_ct]; omega
  have ho_a_51 : al_450.2 4 (al.1 4) = a_51 := by rw [ea_453, grow_ad hi_a_51]; exact ho_a_51
  have hi_a_51 : (al.1 4) < al_450.1 4 := by rw [ea_453, grow_ct]; omega
  have ho_a_61 : al_450.2 5 (al.1 5) = a_61 := by rw [ea_453, grow_ad hi_a_61]; exact ho_a_61
  have hi_a_61 : (al.1 5) < al_450.1 5 := by rw [ea_453, grow_ct]; omega
  have ho_a_71 : al_450.2 6 (al.1 6) = a_71 := by rw [ea_453, grow_ad hi_a_71]; exact ho_a_71
  have hi_a_71 : (al.1 6) < al_450.1 6 := by rw [ea_453, grow_ct]; omega
  have ho_a_81 : al_450.2 7 (al.1 7) = a_81 := by rw [ea_453, grow_ad hi_a_81]; exact ho_a_81
  have hi_a_81 : (al.1 7) < al_450.1 7 := by rw [ea_453, grow_ct]; omega
  have ho_a_91 : al_450.2 8 (al.1 8) = a_91 := by rw [ea_453, grow_ad hi_a_91]; exact ho_a_91
  have hi_a_91 : (al.1 8) < al_450.1 8 := by rw [ea_453, grow_ct]; omega
  have ho_o : al_450.2 0 i0 = o := by rw [ea_453, grow_ad hi_o]; exact ho_o
  have hi_o : i0 < al_450.1 0 := by rw [ea_453, grow_ct]; omega
  have ho_a_449 : al_450.2 43 (al.1 43) = a_449 := hn9
  have hi_a_449 : (al.1 43) < al_450.1 43 := by rw [ea_453, grow_ct, hc_456]; simp
  have hN : NN 0 i0 [50, 49, 47, 46, 45, 44, 43, 42, 40, 39, 38, 36, 35, 34, 33, 32, 31, 29, 28, 27, 26, 25, 23, 22, 21, 19, 18, 17, 16, 15, 14, 13, 12, 11, 10, 9, 8, 7, 4, 3, 2, 1] rv_452 := hN.keep (fun k => by rw [er_455]; exact clr_ne (fun z => absurd z.1 (by decide)))
  have hE := hE9
  have hR := hR9
  have hB := hB9
  refine W.widen (k := 43) (n := 1595) (Nat.le_of_ble_eq_true rfl) (Nat.le_of_ble_eq_true rfl) ?_
  refine W.eq (g2 := F0 m 411 ls [.ref (al_450.2 43 (al.1 43)), .ref (al_450.2 0 i0)]) (by rw [ho_a_449, ho_o]) ?_
  refine q_putr (t := 0) (i := i0) (k := 51) (t' := 43) (j := (al.1 43)) C hU hS k_0 (hc := rfl) uwX12 tyX12 tyX12_ok nmX12 hi_o (by decide) rfl (Or.inr ⟨rfl, hnm, rfl⟩) rfl fl_X12_137 dX12_init_411 (fun _ => rfl) (fun _ => rfl) (fun H locs hU hS => ?_)
  have hz : sz ≤ H.size := Nat.le_trans hz0 hS.1
  obtain ⟨rv_457, er_458⟩ : ∃ z, z = up3 rv_452 0 i0 51 (some (al.1 43)) := ⟨_, rfl⟩
  rw [← er_458] at hU
  have hB : RB al_450 rv_457 := by rw [er_458]; exact hB.put rfl hi_a_449
  have hE := hE.putr (t := 0) (i := i0) (k := 51) (x := some (al.1 43)) (by decide)
  rw [← er_458] at hE
  have hN : NN 0 i0 [51, 50, 49, 47, 46, 45, 44, 43, 42, 40, 39, 38, 36, 35, 34, 33, 32, 31, 29, 28, 27, 26, 25, 23, 22, 21, 19, 18, 17, 16, 15, 14, 13, 12, 11, 10, 9, 8, 7, 4, 3, 2, 1] rv_457 := by rw [er_458]; exact hN.put 51 (al.1 43)
  refine lv_aload_n hx hb dX12_init_414 rfl (lv_at hl 0 rfl) ?_
  refine lv_bipush (v := 40) hx hb dX12_init_415 (by decide) ?_
  refine q_newp (t := 44) (ty := .int) C hU hS hB hz rfl (Or.inl rfl) k_44 (fun _ => rfl) ac_int (by decide) (by decide) (by decide) (Nat.le_of_ble_eq_true rfl) (Nat.le_of_ble_eq_true rfl) dX12_init_417 (fun a_459 H hU hS hz => ?_)
  have hc_466 : al_450.1 44 = al.1 44 := hE.1 44
  have hE9 := hE.new 44 a_459
  have hR9 := hR.new 44 a_459
  have hB9 := hB.new 44 a_459
  have hn9 := grow_new (al := al_450) (t := 44) (a := a_459)
  rw [hc_466] at hU hE9 hR9 hB9 hn9
  obtain ⟨al_460, ea_463⟩ : ∃ z, z = grow al_450 44 a_459 := ⟨_, rfl⟩
  obtain ⟨iv_461, ei_464⟩ : ∃ z, z = clr iv_451 44 (al.1 44) 0 := ⟨_, rfl⟩
  obtain ⟨rv_462, er_465⟩ : ∃ z, z = clr rv_457 44 (al.1 44) none := ⟨_, rfl⟩
  rw [← ea_463] at hU hE9 hR9 hB9 hn9
  rw [← ei_464] at hU hE9 hR9
  rw [← er_465] at hU hE9 hB9
  have ho_a_1 : al_460.2 1 (al.1 1) = a_1 := by rw [ea_463, grow_ad hi_a_1]; exact ho_a_1
  have hi_a_1 : (al.1 1) < al_460.1 1 := by rw [ea_463, grow_ct]; omega
  have ho_a_101 : al_460.2 9 (al.1 9) = a_101 := by rw [ea_463, grow_ad hi_a_101]; exact ho_a_101
  have hi_a_101 : (al.1 9) < al_460.1 9 := by rw [ea_463, grow_ct]; omega
  have ho_a_11 : al_460.2 2 (al.1 2) = a_11 := by rw [ea_463, grow_ad hi_a_11]; exact ho_a_11
  have hi_a_11 : (al.1 2) < al_460.1 2 := by rw [ea_463, grow_ct]; omega
  have ho_a_111 : al_460.2 10 (al.1 10) = a_111 := by rw [ea_463, grow_ad hi_a_111]; exact ho_a_111
  have hi_a_111 : (al.1 10) < al_460.1 10 := by rw [ea_463, grow_ct]; omega
  have ho_a_121 : al_460.2 11 (al.1 11) = a_121 := by rw [ea_463, grow_ad hi_a_121]; exact ho_a_121
  have hi_a_121 : (al.1 11) < al_460.1 11 := by rw [ea_463, grow_ct]; omega
  have ho_a_131 : al_460.2 12 (al.1 12) = a_131 := by rw [ea_463, grow_ad hi_a_131]; exact ho_a_131
  have hi_a_131 : (al.1 12) < al_460.1 12 := by rw [ea_463, grow_ct]; omega
  have ho_a_141 : al_460.2 13 (al.1 13) = a_141 := by rw [ea_463, grow_ad hi_a_141]; exact ho_a_141
  have hi_a_141 : (al.1 13) < al_460.1 13 := by rw [ea_463, grow_ct]; omega
  have ho_a_151 : al_460.2 14 (al.1 14) = a_151 := by rw [ea_463, grow_ad hi_a_151]; exact ho_a_151
  have hi_a_151 : (al.1 14) < al_460.1 14 := by rw [ea_463, grow_ct]; omega
  have ho_a_161 : al_460.2 15 (al.1 15) = a_161 := by rw [ea_463, grow_ad hi_a_161]; exact ho_a_161
  have hi_a_161 : (al.1 15) < al_460.1 15 := by rw [ea_463, grow_ct]; omega
  have ho_a_179 : al_460.2 16 (al.1 16) = a_179 := by rw [ea_463, grow_ad hi_a_179]; exact ho_a_179
  have hi_a_179 : (al.1 16) < al_460.1 16 := by rw [ea_463, grow_ct]; omega
  have ho_a_189 : al_460.2 17 (al.1 17) = a_189 := by rw [ea_463, grow_ad hi_a_189]; exact ho_a_189
  have hi_a_189 : (al.1 17) < al_460.1 17 := by rw [ea_463, grow_ct]; omega
  have ho_a_199 : al_460.2 18 (al.1 18) = a_199 := by rw [ea_463, grow_ad hi_a_199]; exact ho_a_199
  have hi_a_199 : (al.1 18) < al_460.1 18 := by rw [ea_463, grow_ct]; omega
  have ho_a_209 : al_460.2 19 (al.1 19) = a_209 := by rw [ea_463, grow_ad hi_a_209]; exact ho_a_209
  have hi_a_209 : (al.1 19) < al_460.1 19 := by rw [ea_463, grow_ct]; omega
  have ho_a_21 : al_460.2 3 (al.1 3) = a_21 := by rw [ea_463, grow_ad hi_a_21]; exact ho_a_21
  have hi_a_21 : (al.1 3) < al_460.1 3 := by rw [ea_463, grow_ct]; omega
  have ho_a_219 : al_460.2 20 (al.1 20) = a_219 := by rw [ea_463, grow_ad hi_a_219]; exact ho_a_219
  have hi_a_219 : (al.1 20) < al_460.1 20 := by rw [ea_463, grow_ct]; omega
  have ho_a_229 : al_460.2 21 (al.1 21) = a_229 := by rw [ea_463, grow_ad hi_a_229]; exact ho_a_229
  have hi_a_229 : (al.1 21) < al_460.1 21 := by rw [ea_463, grow_ct]; omega
  have ho_a_239 : al_460.2 22 (al.1 22) = a_239 := by rw [ea_463, grow_ad hi_a_239]; exact ho_a_239
  have hi_a_239 : (al.1 22) < al_460.1 22 := by rw [ea_463, grow_ct]; omega
  have ho_a_249 : al_460.2 23 (al.1 23) = a_249 := by rw [ea_463, grow_ad hi_a_249]; exact ho_a_249
  have hi_a_249 : (al.1 23) < al_460.1 23 := by rw [ea_463, grow_ct]; omega
  have ho_a_259 : al_460.2 24 (al.1 24) = a_259 := by rw [ea_463, grow_ad hi_a_259]; exact ho_a_259
  have hi_a_259 : (al.1 24) < al_460.1 24 := by rw [ea_463, grow_ct]; omega
  have ho_a_269 : al_460.2 25 (al.1 25) = a_269 := by rw [ea_463, grow_ad hi_a_269]; exact ho_a_269
  have hi_a_269 : (al.1 25) < al_460.1 25 := by rw [ea_463, grow_ct]; omega
  have ho_a_279 : al_460.2 26 (al.1 26) = a_279 := by rw [ea_463, grow_ad hi_a_279]; exact ho_a_279
  have hi_a_279 : (al.1 26) < al_460.1 26 := by rw [ea_463, grow_ct]; omega
  have ho_a_289 : al_460.2 27 (al.1 27) = a_289 := by rw [ea_463, grow_ad hi_a_289]; exact ho_a_289
  have hi_a_289 : (al.1 27) < al_460.1 27 := by rw [ea_463, grow_ct]; omega
  have ho_a_299 : al_460.2 28 (al.1 28) = a_299 := by rw [ea_463, grow_ad hi_a_299]; exact ho_a_299
  have hi_a_299 : (al.1 28) < al_460.1 28 := by rw [ea_463, grow_ct]; omega
  have ho_a_309 : al_460.2 29 (al.1 29) = a_309 := by rw [ea_463, grow_ad hi_a_309]; exact ho_a_309
  have hi_a_309 : (al.1 29) < al_460.1 29 := by rw [ea_463, grow_ct]; omega
  have ho_a_319 : al_460.2 30 (al.1 30) = a_319 := by rw [ea_463, grow_ad hi_a_319]; exact ho_a_319
  have hi_a_319 : (al.1 30) < al_460.1 30 := by rw [ea_463, grow_ct]; omega
  have ho_a_329 : al_460.2 31 (al.1 31) = a_329 := by rw [ea_463, grow_ad hi_a_329]; exact ho_a_329
  have hi_a_329 : (al.1 31) < al_460.1 31 := by rw [ea_463, grow_ct]; omega
  have ho_a_339 : al_460.2 32 (al.1 32) = a_339 := by rw [ea_463, grow_ad hi_a_339]; exact ho_a_339
  have hi_a_339 : (al.1 32) < al_460.1 32 := by rw [ea_463, grow_ct]; omega
  have ho_a_349 : al_460.2 33 (al.1 33) = a_349 := by rw [ea_463, grow_ad hi_a_349]; exact ho_a_349
  have hi_a_349 : (al.1 33) < al_460.1 33 := by rw [ea_463, grow_ct]; omega
  have ho_a_359 : al_460.2 34 (al.1 34) = a_359 := by rw [ea_463, grow_ad hi_a_359]; exact ho_a_359
  have hi_a_359 : (al.1 34) < al_460.1 34 := by rw [ea_463, grow_ct]; omega
  have ho_a_369 : al_460.2 35 (al.1 35) = a_369 := by rw [ea_463, grow_ad hi_a_369]; exact ho_a_369
  have hi_a_369 : (al.1 35) < al_460.1 35 := by rw [ea_463, grow_ct]; omega
  have ho_a_379 : al_460.2 36 (al.1 36) = a_379 := by rw [ea_463, grow_ad hi_a_379]; exact ho_a_379
  have hi_a_379 : (al.1 36) < al_460.1 36 := by rw [ea_463, grow_ct]; omega
  have ho_a_389 : al_460.2 37 (al.1 37) = a_389 := by rw [ea_463, grow_ad hi_a_389]; exact ho_a_389
  have hi_a_389 : (al.1 37) < al_460.1 37 := by rw [ea_463, grow_ct]; omega
  have ho_a_399 : al_460.2 38 (al.1 38) = a_399 := by rw [ea_463, grow_ad hi_a_399]; exact ho_a_399
  have hi_a_399 : (al.1 38) < al_460.1 38 := by rw [ea_463, grow_ct]; omega
  have ho_a_409 : al_460.2 39 (al.1 39) = a_409 := by rw [ea_463, grow_ad hi_a_409]; exact ho_a_409
  have hi_a_409 : (al.1 39) < al_460.1 39 := by rw [ea_463, grow_ct]; omega
  have ho_a_419 : al_460.2 40 (al.1 40) = a_419 := by rw [ea_463, grow_ad hi_a_419]; exact ho_a_419
  have hi_a_419 : (al.1 40) < al_460.1 40 := by rw [ea_463, grow_ct]; omega
  have ho_a_429 : al_460.2 41 (al.1 41) = a_429 := by rw [ea_463, grow_ad hi_a_429]; exact ho_a_429
  have hi_a_429 : (al.1 41) < al_460.1 41 := by rw [ea_463, grow_ct]; omega
  have ho_a_439 : al_460.2 42 (al.1 42) = a_439 := by rw [ea_463, grow_ad hi_a_439]; exact ho_a_439
  have hi_a_439 : (al.1 42) < al_460.1 42 := by rw [ea_463, grow_ct]; omega
  have ho_a_449 : al_460.2 43 (al.1 43) = a_449 := by rw [ea_463, grow_ad hi_a_449]; exact ho_a_449
  have hi_a_449 : (al.1 43) < al_460.1 43 := by rw [ea_463, grow_ct]; omega
  have ho_a_51 : al_460.2 4 (al.1 4) = a_51 := by rw [ea_463, grow_ad hi_a_51]; exact ho_a_51
  have hi_a_51 : (al.1 4) < al_460.1 4 := by rw [ea_463, grow_ct]; omega
  have ho_a_61 : al_460.2 5 (al.1 5) = a_61 := by rw [ea_463, grow_ad hi_a_61]; exact ho_a_61
  have hi_a_61 : (al.1 5) < al_460.1 5 := by rw [ea_463, grow_ct]; omega
  have ho_a_71 : al_460.2 6 (al.1 6) = a_71 := by rw [ea_463, grow_ad hi_a_71]; exact ho_a_71
  have hi_a_71 : (al.1 6) < al_460.1 6 := by rw [ea_463, grow_ct]; omega
  have ho_a_81 : al_460.2 7 (al.1 7) = a_81 := by rw [ea_463, grow_ad hi_a_81]; exact ho_a_81
  have hi_a_81 : (al.1 7) < al_460.1 7 := by rw [ea_463, grow_ct]; omega
  have ho_a_91 : al_460.2 8 (al.1 8) = a_91 := by rw [ea_463, grow_ad hi_a_91]; exact ho_a_91
  have hi_a_91 : (al.1 8) < al_460.1 8 := by rw [ea_463, grow_ct]; omega
  have ho_o : al_460.2 0 i0 = o := by rw [ea_463, grow_ad hi_o]; exact ho_o
  have hi_o : i0 < al_460.1 0 := by rw [ea_463, grow_ct]; omega
  have ho_a_459 : al_460.2 44 (al.1 44) = a_459 := hn9
  have hi_a_459 : (al.1 44) < al_460.1 44 := by rw [ea_463, grow_ct, hc_466]; simp
  have hN : NN 0 i0 [51, 50, 49, 47, 46, 45, 44, 43, 42, 40, 39, 38, 36, 35, 34, 33, 32, 31, 29, 28, 27, 26, 25, 23, 22, 21, 19, 18, 17, 16, 15, 14, 13, 12, 11, 10, 9, 8, 7, 4, 3, 2, 1] rv_462 := hN.keep (fun k => by rw [er_465]; exact clr_ne (fun z => absurd z.1 (by decide)))
  have hE := hE9
  have hR := hR9
  have hB := hB9
  refine W.widen (k := 44) (n := 1635) (Nat.le_of_ble_eq_true rfl) (Nat.le_of_ble_eq_true rfl) ?_
  refine W.eq (g2 := F0 m 419 ls [.ref (al_460.2 44 (al.1 44)), .ref (al_460.2 0 i0)]) (by rw [ho_a_459, ho_o]) ?_
  refine q_putr (t := 0) (i := i0) (k := 52) (t' := 44) (j := (al.1 44)) C hU hS k_0 (hc := rfl) uwX12 tyX12 tyX12_ok nmX12 hi_o (by decide) rfl (Or.inr ⟨rfl, hnm, rfl⟩) rfl fl_X12_140 dX12_init_419 (fun _ => rfl) (fun _ => rfl) (fun H locs hU hS => ?_)
  have hz : sz ≤ H.size := Nat.le_trans hz0 hS.1
  obtain ⟨rv_467, er_468⟩ : ∃ z, z = up3 rv_462 0 i0 52 (some (al.1 44)) := ⟨_, rfl⟩
  rw [← er_468] at hU
  have hB : RB al_460 rv_467 := by rw [er_468]; exact hB.put rfl hi_a_459
  have hE := hE.putr (t := 0) (i := i0) (k := 52) (x := some (al.1 44)) (by decide)
  rw [← er_468] at hE
  have hN : NN 0 i0 [52, 51, 50, 49, 47, 46, 45, 44, 43, 42, 40, 39, 38, 36, 35, 34, 33, 32, 31, 29, 28, 27, 26, 25, 23, 22, 21, 19, 18, 17, 16, 15, 14, 13, 12, 11, 10, 9, 8, 7, 4, 3, 2, 1] rv_467 := by rw [er_468]; exact hN.put 52 (al.1 44)
  refine lv_aload_n hx hb dX12_init_422 rfl (lv_at hl 0 rfl) ?_
  refine lv_bipush (v := 40) hx hb dX12_init_423 (by decide) ?_
  refine q_newp (t := 45) (ty := .boolean) C hU hS hB hz rfl (Or.inr rfl) k_45 (fun _ => rfl) ac_boolean (by decide) (by decide) (by decide) (Nat.le_of_ble_eq_true rfl) (Nat.le_of_ble_eq_true rfl) dX12_init_425 (fun a_469 H hU hS hz => ?_)
  have hc_476 : al_460.1 45 = al.1 45 := hE.1 45
  have hE9 := hE.new 45 a_469
  have hR9 := hR.new 45 a_469
  have hB9 := hB.new 45 a_469
  have hn9 := grow_new (al := al_460) (t := 45) (a := a_469)
  rw [hc_476] at hU hE9 hR9 hB9 hn9
  obtain ⟨al_470, ea_473⟩ : ∃ z, z = grow al_460 45 a_469 := ⟨_, rfl⟩
  obtain ⟨iv_471, ei_474⟩ : ∃ z, z = clr iv_461 45 (al.1 45) 0 := ⟨_, rfl⟩
  obtain ⟨rv_472, er_475⟩ : ∃ z, z = clr rv_467 45 (al.1 45) none := ⟨_, rfl⟩
  rw [← ea_473] at hU hE9 hR9 hB9 hn9
  rw [← ei_474] at hU hE9 hR9
  rw [← er_475] at hU hE9 hB9
  have ho_a_1 : al_470.2 1 (al.1 1) = a_1 := by rw [ea_473, grow_ad hi_a_1]; exact ho_a_1
  have hi_a_1 : (al.1 1) < al_470.1 1 := by rw [ea_473, grow_ct]; omega
  have ho_a_101 : al_470.2 9 (al.1 9) = a_101 := by rw [ea_473, grow_ad hi_a_101]; exact ho_a_101
  have hi_a_101 : (al.1 9) < al_470.1 9 := by rw [ea_473, grow_ct]; omega
  have ho_a_11 : al_470.2 2 (al.1 2) = a_11 := by rw [ea_473, grow_ad hi_a_11]; exact ho_a_11
  have hi_a_11 : (al.1 2) < al_470.1 2 := by rw [ea_473, grow_ct]; omega
  have ho_a_111 : al_470.2 10 (al.1 10) = a_111 := by rw [ea_473, grow_ad hi_a_111]; exact ho_a_111
  have hi_a_111 : (al.1 10) < al_470.1 10 := by rw [ea_473, grow_ct]; omega
  have ho_a_121 : al_470.2 11 (al.1 11) = a_121 := by rw [ea_473, grow_ad hi_a_121]; exact ho_a_121
  have hi_a_121 : (al.1 11) < al_470.1 11 := by rw [ea_473, grow_ct]; omega
  have ho_a_131 : al_470.2 12 (al.1 12) = a_131 := by rw [ea_473, grow_ad hi_a_131]; exact ho_a_131
  have hi_a_131 : (al.1 12) < al_470.1 12 := by rw [ea_473, grow_ct]; omega
  have ho_a_141 : al_470.2 13 (al.1 13) = a_141 := by rw [ea_473, grow_ad hi_a_141]; exact ho_a_141
  have hi_a_141 : (al.1 13) < al_470.1 13 := by rw [ea_473, grow_ct]; omega
  have ho_a_151 : al_470.2 14 (al.1 14) = a_151 := by rw [ea_473, grow_ad hi_a_151]; exact ho_a_151
  have hi_a_151 : (al.1 14) < al_470.1 14 := by rw [ea_473, grow_ct]; omega
  have ho_a_161 : al_470.2 15 (al.1 15) = a_161 := by rw [ea_473, grow_ad hi_a_161]; exact ho_a_161
  have hi_a_161 : (al.1 15) < al_470.1 15 := by rw [ea_473, grow_ct]; omega
  have ho_a_179 : al_470.2 16 (al.1 16) = a_179 := by rw [ea_473, grow_ad hi_a_179]; exact ho_a_179
  have hi_a_179 : (al.1 16) < al_470.1 16 := by rw [ea_473, grow_ct]; omega
  have ho_a_189 : al_470.2 17 (al.1 17) = a_189 := by rw [ea_473, grow_ad hi_a_189]; exact ho_a_189
  have hi_a_189 : (al.1 17) < al_470.1 17 := by rw [ea_473, grow_ct]; omega
  have ho_a_199 : al_470.2 18 (al.1 18) = a_199 := by rw [ea_473, grow_ad hi_a_199]; exact ho_a_199
  have hi_a_199 : (al.1 18) < al_470.1 18 := by rw [ea_473, grow_ct]; omega
  have ho_a_209 : al_470.2 19 (al.1 19) = a_209 := by rw [ea_473, grow_ad hi_a_209]; exact ho_a_209
  have hi_a_209 : (al.1 19) < al_470.1 19 := by rw [ea_473, grow_ct]; omega
  have ho_a_21 : al_470.2 3 (al.1 3) = a_21 := by rw [ea_473, grow_ad hi_a_21]; exact ho_a_21
  have hi_a_21 : (al.1 3) < al_470.1 3 := by rw [ea_473, grow_ct]; omega
  have ho_a_219 : al_470.2 20 (al.1 20) = a_219 := by rw [ea_473, grow_ad hi_a_219]; exact ho_a_219
  have hi_a_219 : (al.1 20) < al_470.1 20 := by rw [ea_473, grow_ct]; omega
  have ho_a_229 : al_470.2 21 (al.1 21) = a_229 := by rw [ea_473, grow_ad hi_a_229]; exact ho_a_229
  have hi_a_229 : (al.1 21) < al_470.1 21 := by rw [ea_473, grow_ct]; omega
  have ho_a_239 : al_470.2 22 (al.1 22) = a_239 := by rw [ea_473, grow_ad hi_a_239]; exact ho_a_239
  have hi_a_239 : (al.1 22) < al_470.1 22 := by rw [ea_473, grow_ct]; omega
  have ho_a_249 : al_470.2 23 (al.1 23) = a_249 := by rw [ea_473, grow_ad hi_a_249]; exact ho_a_249
  have hi_a_249 : (al.1 23) < al_470.1 23 := by rw [ea_473, grow_ct]; omega
  have ho_a_259 : al_470.2 24 (al.1 24) = a_259 := by rw [ea_473, grow_ad hi_a_259]; exact ho_a_259
  have hi_a_259 : (al.1 24) < al_470.1 24 := by rw [ea_473, grow_ct]; omega
  have ho_a_269 : al_470.2 25 (al.1 25) = a_269 := by rw [ea_473, grow_ad hi_a_269]; exact ho_a_269
  have hi_a_269 : (al.1 25) < al_470.1 25 := by rw [ea_473, grow_ct]; omega
  have ho_a_279 : al_470.2 26 (al.1 26) = a_279 := by rw [ea_473, grow_ad hi_a_279]; exact ho_a_279
  have hi_a_279 : (al.1 26) < al_470.1 26 := by rw [ea_473, grow_ct]; omega
  have ho_a_289 : al_470.2 27 (al.1 27) = a_289 := by rw [ea_473, grow_ad hi_a_289]; exact ho_a_289
  have hi_a_289 : (al.1 27) < al_470.1 27 := by rw [ea_473, grow_ct]; omega
  have ho_a_299 : al_470.2 28 (al.1 28) = a_299 := by rw [ea_473, grow_ad hi_a_299]; exact ho_a_299
  have hi_a_299 : (al.1 28) < al_470.1 28 := by rw [ea_473, grow_ct]; omega
  have ho_a_309 : al_470.2 29 (al.1 29) = a_309 := by rw [ea_473, grow_ad hi_a_309]; exact ho_a_309
  have hi_a_309 : (al.1 29) < al_470.1 29 := by rw [ea_473, grow_ct]; omega
  have ho_a_319 : al_470.2 30 (al.1 30) = a_319 := by rw [ea_473, grow_ad hi_a_319]; exact ho_a_319
  have hi_a_319 : (al.1 30) < al_470.1 30 := by rw [ea_473, grow_ct]; omega
  have ho_a_329 : al_470.2 31 (al.1 31) = a_329 := by rw [ea_473, grow_ad hi_a_329]; exact ho_a_329
  have hi_a_329 : (al.1 31) < al_470.1 31 := by rw [ea_473, grow_ct]; omega
  have ho_a_339 : al_470.2 32 (al.1 32) = a_339 := by rw [ea_473, grow_ad hi_a_339]; exact ho_a_339
  have hi_a_339 : (al.1 32) < al_470.1 32 := by rw [ea_473, grow_ct]; omega
  have ho_a_349 : al_470.2 33 (al.1 33) = a_349 := by rw [ea_473, grow_ad hi_a_349]; exact ho_a_349
  have hi_a_349 : (al.1 33) < al_470.1 33 := by rw [ea_473, grow_ct]; omega
  have ho_a_359 : al_470.2 34 (al.1 34) = a_359 := by rw [ea_473, grow_ad hi_a_359]; exact ho_a_359
  have hi_a_359 : (al.1 34) < al_470.1 34 := by rw [ea_473, grow_ct]; omega
  have ho_a_369 : al_470.2 35 (al.1 35) = a_369 := by rw [ea_473, grow_ad hi_a_369]; exact ho_a_369
  have hi_a_369 : (al.1 35) < al_470.1 35 := by rw [ea_473, grow_ct]; omega
  have ho_a_379 : al_470.2 36 (al.1 36) = a_379 := by rw [ea_473, grow_ad hi_a_379]; exact ho_a_379
  have hi_a_379 : (al.1 36) < al_470.1 36 := by rw [ea_473, grow_ct]; omega
  have ho_a_389 : al_470.2 37 (al.1 37) = a_389 := by rw [ea_473, grow_ad hi_a_389]; exact ho_a_389
  have hi_a_389 : (al.1 37) < al_470.1 37 := by rw [ea_473, grow_ct]; omega
  have ho_a_399 : al_470.2 38 (al.1 38) = a_399 := by rw [ea_473, grow_ad hi_a_399]; exact ho_a_399
  have hi_a_399 : (al.1 38) < al_470.1 38 := by rw [ea_473, grow_ct]; omega
  have ho_a_409 : al_470.2 39 (al.1 39) = a_409 := by rw [ea_473, grow_ad hi_a_409]; exact ho_a_409
  have hi_a_409 : (al.1 39) < al_470.1 39 := by rw [ea_473, grow_ct]; omega
  have ho_a_419 : al_470.2 40 (al.1 40) = a_419 := by rw [ea_473, grow_ad hi_a_419]; exact ho_a_419
  have hi_a_419 : (al.1 40) < al_470.1 40 := by rw [ea_473, grow_ct]; omega
  have ho_a_429 : al_470.2 41 (al.1 41) = a_429 := by rw [ea_473, grow_ad hi_a_429]; exact ho_a_429
  have hi_a_429 : (al.1 41) < al_470.1 41 := by rw [ea_473, grow_ct]; omega
  have ho_a_439 : al_470.2 42 (al.1 42) = a_439 := by rw [ea_473, grow_ad hi_a_439]; exact ho_a_439
  have hi_a_439 : (al.1 42) < al_470.1 42 := by rw [ea_473, grow_ct]; omega
  have ho_a_449 : al_470.2 43 (al.1 43) = a_449 := by rw [ea_473, grow_ad hi_a_449]; exact ho_a_449
  have hi_a_449 : (al.1 43) < al_470.1 43 := by rw [ea_473, grow_ct]; omega
  have ho_a_459 : al_470.2 44 (al.1 44) = a_459 := by rw [ea_473, grow_ad hi_a_459]; exact ho_a_459
  have hi_a_459 : (al.1 44) < al_470.1 44 := by rw [ea_473, grow_ct]; omega
  have ho_a_51 : al_470.2 4 (al.1 4) = a_51 := by rw [ea_473, grow_ad hi_a_51]; exact ho_a_51
  have hi_a_51 : (al.1 4) < al_470.1 4 := by rw [ea_473, grow_ct]; omega
  have ho_a_61 : al_470.2 5 (al.1 5) = a_61 := by rw [ea_473, grow_ad hi_a_61]; exact ho_a_61
  have hi_a_61 : (al.1 5) < al_470.1 5 := by rw [ea_473, grow_ct]; omega
  have ho_a_71 : al_470.2 6 (al.1 6) = a_71 := by rw [ea_473, grow_ad hi_a_71]; exact ho_a_71
  have hi_a_71 : (al.1 6) < al_470.1 6 := by rw [ea_473, grow_ct]; omega
  have ho_a_81 : al_470.2 7 (al.1 7) = a_81 := by rw [ea_473, grow_ad hi_a_81]; exact ho_a_81
  have hi_a_81 : (al.1 7) < al_470.1 7 := by rw [ea_473, grow_ct]; omega
  have ho_a_91 : al_470.2 8 (al.1 8) = a_91 := by rw [ea_473, grow_ad hi_a_91]; exact ho_a_91
  have hi_a_91 : (al.1 8) < al_470.1 8 := by rw [ea_473, grow_ct]; omega
  have ho_o : al_470.2 0 i0 = o := by rw [ea_473, grow_ad hi_o]; exact ho_o
  have hi_o : i0 < al_470.1 0 := by rw [ea_473, grow_ct]; omega
  have ho_a_469 : al_470.2 45 (al.1 45) = a_469 := hn9
  have hi_a_469 : (al.1 45) < al_470.1 45 := by rw [ea_473, grow_ct, hc_476]; simp
  have hN : NN 0 i0 [52, 51, 50, 49, 47, 46, 45, 44, 43, 42, 40, 39, 38, 36, 35, 34, 33, 32, 31, 29, 28, 27, 26, 25, 23, 22, 21, 19, 18, 17, 16, 15, 14, 13, 12, 11, 10, 9, 8, 7, 4, 3, 2, 1] rv_472 := hN.keep (fun k => by rw [er_475]; exact clr_ne (fun z => absurd z.1 (by decide)))
  have hE := hE9
  have hR := hR9
  have hB := hB9
  refine W.widen (k := 45) (n := 1675) (Nat.le_of_ble_eq_true rfl) (Nat.le_of_ble_eq_true rfl) ?_
  refine W.eq (g2 := F0 m 427 ls [.ref (al_470.2 45 (al.1 45)), .ref (al_470.2 0 i0)]) (by rw [ho_a_469, ho_o]) ?_
  refine q_putr (t := 0) (i := i0) (k := 53) (t' := 45) (j := (al.1 45)) C hU hS k_0 (hc := rfl) uwX12 tyX12 tyX12_ok nmX12 hi_o (by decide) rfl (Or.inr ⟨rfl, hnm, rfl⟩) rfl fl_X12_143 dX12_init_427 (fun _ => rfl) (fun _ => rfl) (fun H locs hU hS => ?_)
  have hz : sz ≤ H.size := Nat.le_trans hz0 hS.1
  obtain ⟨rv_477, er_478⟩ : ∃ z, z = up3 rv_472 0 i0 53 (some (al.1 45)) := ⟨_, rfl⟩
  rw [← er_478] at hU
  have hB : RB al_470 rv_477 := by rw [er_478]; exact hB.put rfl hi_a_469
  have hE := hE.putr (t := 0) (i := i0) (k := 53) (x := some (al.1 45)) (by decide)
  rw [← er_478] at hE
  have hN : NN 0 i0 [53, 52, 51, 50, 49, 47, 46, 45, 44, 43, 42, 40, 39, 38, 36, 35, 34, 33, 32, 31, 29, 28, 27, 26, 25, 23, 22, 21, 19, 18, 17, 16, 15, 14, 13, 12, 11, 10, 9, 8, 7, 4, 3, 2, 1] rv_477 := by rw [er_478]; exact hN.put 53 (al.1 45)
  refine lv_aload_n hx hb dX12_init_430 rfl (lv_at hl 0 rfl) ?_
  refine lv_bipush (v := 40) hx hb dX12_init_431 (by decide) ?_
  refine q_newp (t := 46) (ty := .int) C hU hS hB hz rfl (Or.inl rfl) k_46 (fun _ => rfl) ac_int (by decide) (by decide) (by decide) (Nat.le_of_ble_eq_true rfl) (Nat.le_of_ble_eq_true rfl) dX12_init_433 (fun a_479 H hU hS hz => ?_)
  have hc_486 : al_470.1 46 = al.1 46 := hE.1 46
  have hE9 := hE.new 46 a_479
  have hR9 := hR.new 46 a_479
  have hB9 := hB.new 46 a_479
  have hn9 := grow_new (al := al_470) (t := 46) (a := a_479)
  rw [hc_486] at hU hE9 hR9 hB9 hn9
  obtain ⟨al_480, ea_483⟩ : ∃ z, z = grow al_470 46 a_479 := ⟨_, rfl⟩
  obtain ⟨iv_481, ei_484⟩ : ∃ z, z = clr iv_471 46 (al.1 46) 0 := ⟨_, rfl⟩
  obtain ⟨rv_482, er_485⟩ : ∃ z, z = clr rv_477 46 (al.1 46) none := ⟨_, rfl⟩
  rw [← ea_483] at hU hE9 hR9 hB9 hn9
  rw [← ei_484] at hU hE9 hR9
  rw [← er_485] at hU hE9 hB9
  have ho_a_1 : al_480.2 1 (al.1 1) = a_1 := by rw [ea_483, grow_ad hi_a_1]; exact ho_a_1
  have hi_a_1 : (al.1 1) < al_480.1 1 := by rw [ea_483, grow_ct]; omega
  have ho_a_101 : al_480.2 9 (al.1 9) = a_101 := by rw [ea_483, grow_ad hi_a_101]; exact ho_a_101
  have hi_a_101 : (al.1 9) < al_480.1 9 := by rw [ea_483, grow_ct]; omega
  have ho_a_11 : al_480.2 2 (al.1 2) = a_11 := by rw [ea_483, grow_ad hi_a_11]; exact ho_a_11
  have hi_a_11 : (al.1 2) < al_480.1 2 := by rw [ea_483, grow_ct]; omega
  have ho_a_111 : al_480.2 10 (al.1 10) = a_111 := by rw [ea_483, grow_ad hi_a_111]; exact ho_a_111
  have hi_a_111 : (al.1 10) < al_480.1 10 := by rw [ea_483, grow_ct]; omega
  have ho_a_121 : al_480.2 11 (al.1 11) = a_121 := by rw [ea_483, grow_ad hi_a_121]; exact ho_a_121
  have hi_a_121 : (al.1 11) < al_480.1 11 := by rw [ea_483, grow_ct]; omega
  have ho_a_131 : al_480.2 12 (al.1 12) = a_131 := by rw [ea_483, grow_ad hi_a_131]; exact ho_a_131
  have hi_a_131 : (al.1 12) < al_480.1 12 := by rw [ea_483, grow_ct]; omega
  have ho_a_141 : al_480.2 13 (al.1 13) = a_141 := by rw [ea_483, grow_ad hi_a_141]; exact ho_a_141
  have hi_a_141 : (al.1 13) < al_480.1 13 := by rw [ea_483, grow_ct]; omega
  have ho_a_151 : al_480.2 14 (al.1 14) = a_151 := by rw [ea_483, grow_ad hi_a_151]; exact ho_a_151
  have hi_a_151 : (al.1 14) < al_480.1 14 := by rw [ea_483, grow_ct]; omega
  have ho_a_161 : al_480.2 15 (al.1 15) = a_161 := by rw [ea_483, grow_ad hi_a_161]; exact ho_a_161
  have hi_a_161 : (al.1 15) < al_480.1 15 := by rw [ea_483, grow_ct]; omega
  have ho_a_179 : al_480.2 16 (al.1 16) = a_179 := by rw [ea_483, grow_ad hi_a_179]; exact ho_a_179
  have hi_a_179 : (al.1 16) < al_480.1 16 := by rw [ea_483, grow_ct]; omega
  have ho_a_189 : al_480.2 17 (al.1 17) = a_189 := by rw [ea_483, grow_ad hi_a_189]; exact ho_a_189
  have hi_a_189 : (al.1 17) < al_480.1 17 := by rw [ea_483, grow_ct]; omega
  have ho_a_199 : al_480.2 18 (al.1 18) = a_199 := by rw [ea_483, grow_ad hi_a_199]; exact ho_a_199
  have hi_a_199 : (al.1 18) < al_480.1 18 := by rw [ea_483, grow_ct]; omega
  have ho_a_209 : al_480.2 19 (al.1 19) = a_209 := by rw [ea_483, grow_ad hi_a_209]; exact ho_a_209
  have hi_a_209 : (al.1 19) < al_480.1 19 := by rw [ea_483, grow_ct]; omega
  have ho_a_21 : al_480.2 3 (al.1 3) = a_21 := by rw [ea_483, grow_ad hi_a_21]; exact ho_a_21
  have hi_a_21 : (al.1 3) < al_480.1 3 := by rw [ea_483, grow_ct]; omega
  have ho_a_219 : al_480.2 20 (al.1 20) = a_219 := by rw [ea_483, grow_ad hi_a_219]; exact ho_a_219
  have hi_a_219 : (al.1 20) < al_480.1 20 := by rw [ea_483, grow_ct]; omega
  have ho_a_229 : al_480.2 21 (al.1 21) = a_229 := by rw [ea_483, grow_ad hi_a_229]; exact ho_a_229
  have hi_a_229 : (al.1 21) < al_480.1 21 := by rw [ea_483, grow_ct]; omega
  have ho_a_239 : al_480.2 22 (al.1 22) = a_239 := by rw [ea_483, grow_ad hi_a_239]; exact ho_a_239
  have hi_a_239 : (al.1 22) < al_480.1 22 := by rw [ea_483, grow_ct]; omega
  have ho_a_249 : al_480.2 23 (al.1 23) = a_249 := by rw [ea_483, grow_ad hi_a_249]; exact ho_a_249
  have hi_a_249 : (al.1 23) < al_480.1 23 := by rw [ea_483, grow_ct]; omega
  have ho_a_259 : al_480.2 24 (al.1 24) = a_259 := by rw [ea_483, grow_ad hi_a_259]; exact ho_a_259
  have hi_a_259 : (al.1 24) < al_480.1 24 := by rw [ea_483, grow_ct]; omega
  have ho_a_269 : al_480.2 25 (al.1 25) = a_269 := by rw [ea_483, grow_ad hi_a_269]; exact ho_a_269
  have hi_a_269 : (al.1 25) < al_480.1 25 := by rw [ea_483, grow_ct]; omega
  have ho_a_279 : al_480.2 26 (al.1 26) = a_279 := by rw [ea_483, grow_ad hi_a_279]; exact ho_a_279
  have hi_a_279 : (al.1 26) < al_480.1 26 := by rw [ea_483, grow_ct]; omega
  have ho_a_289 : al_480.2 27 (al.1 27) = a_289 := by rw [ea_483, grow_ad hi_a_289]; exact ho_a_289
  have hi_a_289 : (al.1 27) < al_480.1 27 := by rw [ea_483, grow_ct]; omega
  have ho_a_299 : al_480.2 28 (al.1 28) = a_299 := by rw [ea_483, grow_ad hi_a_299]; exact ho_a_299
  have hi_a_299 : (al.1 28) < al_480.1 28 := by rw [ea_483, grow_ct]; omega
  have ho_a_309 : al_480.2 29 (al.1 29) = a_309 := by rw [ea_483, grow_ad hi_a_309]; exact ho_a_309
  have hi_a_309 : (al.1 29) < al_480.1 29 := by rw [ea_483, grow_ct]; omega
  have ho_a_319 : al_480.2 30 (al.1 30) = a_319 := by rw [ea_483, grow_ad hi_a_319]; exact ho_a_319
  have hi_a_319 : (al.1 30) < al_480.1 30 := by rw [ea_483, grow_ct]; omega
  have ho_a_329 : al_480.2 31 (al.1 31) = a_329 := by rw [ea_483, grow_ad hi_a_329]; exact ho_a_329
  have hi_a_329 : (al.1 31) < al_480.1 31 := by rw [ea_483, grow_ct]; omega
  have ho_a_339 : al_480.2 32 (al.1 32) = a_339 := by rw [ea_483, grow_ad hi_a_339]; exact ho_a_339
  have hi_a_339 : (al.1 32) < al_480.1 32 := by rw [ea_483, grow_ct]; omega
  have ho_a_349 : al_480.2 33 (al.1 33) = a_349 := by rw [ea_483, grow_ad hi_a_349]; exact ho_a_349
  have hi_a_349 : (al.1 33) < al_480.1 33 := by rw [ea_483, grow_ct]; omega
  have ho_a_359 : al_480.2 34 (al.1 34) = a_359 := by rw [ea_483, grow_ad hi_a_359]; exact ho_a_359
  have hi_a_359 : (al.1 34) < al_480.1 34 := by rw [ea_483, grow_ct]; omega
  have ho_a_369 : al_480.2 35 (al.1 35) = a_369 := by rw [ea_483, grow_ad hi_a_369]; exact ho_a_369
  have hi_a_369 : (al.1 35) < al_480.1 35 := by rw [ea_483, grow_ct]; omega
  have ho_a_379 : al_480.2 36 (al.1 36) = a_379 := by rw [ea_483, grow_ad hi_a_379]; exact ho_a_379
  have hi_a_379 : (al.1 36) < al_480.1 36 := by rw [ea_483, grow_ct]; omega
  have ho_a_389 : al_480.2 37 (al.1 37) = a_389 := by rw [ea_483, grow_ad hi_a_389]; exact ho_a_389
  have hi_a_389 : (al.1 37) < al_480.1 37 := by rw [ea_483, grow_ct]; omega
  have ho_a_399 : al_480.2 38 (al.1 38) = a_399 := by rw [ea_483, grow_ad hi_a_399]; exact ho_a_399
  have hi_a_399 : (al.1 38) < al_480.1 38 := by rw [ea_483, grow_ct]; omega
  have ho_a_409 : al_480.2 39 (al.1 39) = a_409 := by rw [ea_483, grow_ad hi_a_409]; exact ho_a_409
  have hi_a_409 : (al.1 39) < al_480.1 39 := by rw [ea_483, grow_ct]; omega
  have ho_a_419 : al_480.2 40 (al.1 40) = a_419 := by rw [ea_483, grow_ad hi_a_419]; exact ho_a_419
  have hi_a_419 : (al.1 40) < al_480.1 40 := by rw [ea_483, grow_ct]; omega
  have ho_a_429 : al_480.2 41 (al.1 41) = a_429 := by rw [ea_483, grow_ad hi_a_429]; exact ho_a_429
  have hi_a_429 : (al.1 41) < al_480.1 41 := by rw [ea_483, grow_ct]; omega
  have ho_a_439 : al_480.2 42 (al.1 42) = a_439 := by rw [ea_483, grow_ad hi_a_439]; exact ho_a_439
  have hi_a_439 : (al.1 42) < al_480.1 42 := by rw [ea_483, grow_ct]; omega
  have ho_a_449 : al_480.2 43 (al.1 43) = a_449 := by rw [ea_483, grow_ad hi_a_449]; exact ho_a_449
  have hi_a_449 : (al.1 43) < al_480.1 43 := by rw [ea_483, grow_ct]; omega
  have ho_a_459 : al_480.2 44 (al.1 44) = a_459 := by rw [ea_483, grow_ad hi_a_459]; exact ho_a_459
  have hi_a_459 : (al.1 44) < al_480.1 44 := by rw [ea_483, grow_ct]; omega
  have ho_a_469 : al_480.2 45 (al.1 45) = a_469 := by rw [ea_483, grow_ad hi_a_469]; exact ho_a_469
  have hi_a_469 : (al.1 45) < al_480.1 45 := by rw [ea_483, grow_ct]; omega
  have ho_a_51 : al_480.2 4 (al.1 4) = a_51 := by rw [ea_483, grow_ad hi_a_51]; exact ho_a_51
  have hi_a_51 : (al.1 4) < al_480.1 4 := by rw [ea_483, grow_ct]; omega
  have ho_a_61 : al_480.2 5 (al.1 5) = a_61 := by rw [ea_483, grow_ad hi_a_61]; exact ho_a_61
  have hi_a_61 : (al.1 5) < al_480.1 5 := by rw [ea_483, grow_ct]; omega
  have ho_a_71 : al_480.2 6 (al.1 6) = a_71 := by rw [ea_483, grow_ad hi_a_71]; exact ho_a_71
  have hi_a_71 : (al.1 6) < al_480.1 6 := by rw [ea_483, grow_ct]; omega
  have ho_a_81 : al_480.2 7 (al.1 7) = a_81 := by rw [ea_483, grow_ad hi_a_81]; exact ho_a_81
  have hi_a_81 : (al.1 7) < al_480.1 7 := by rw [ea_483, grow_ct]; omega
  have ho_a_91 : al_480.2 8 (al.1 8) = a_91 := by rw [ea_483, grow_ad hi_a_91]; exact ho_a_91
  have hi_a_91 : (al.1 8) < al_480.1 8 := by rw [ea_483, grow_ct]; omega
  have ho_o : al_480.2 0 i0 = o := by rw [ea_483, grow_ad hi_o]; exact ho_o
  have hi_o : i0 < al_480.1 0 := by rw [ea_483, grow_ct]; omega
  have ho_a_479 : al_480.2 46 (al.1 46) = a_479 := hn9
  have hi_a_479 : (al.1 46) < al_480.1 46 := by rw [ea_483, grow_ct, hc_486]; simp
  have hN : NN 0 i0 [53, 52, 51, 50, 49, 47, 46, 45, 44, 43, 42, 40, 39, 38, 36, 35, 34, 33, 32, 31, 29, 28, 27, 26, 25, 23, 22, 21, 19, 18, 17, 16, 15, 14, 13, 12, 11, 10, 9, 8, 7, 4, 3, 2, 1] rv_482 := hN.keep (fun k => by rw [er_485]; exact clr_ne (fun z => absurd z.1 (by decide)))
  have hE := hE9
  have hR := hR9
  have hB := hB9
  refine W.widen (k := 46) (n := 1715) (Nat.le_of_ble_eq_true rfl) (Nat.le_of_ble_eq_true rfl) ?_
  refine W.eq (g2 := F0 m 435 ls [.ref (al_480.2 46 (al.1 46)), .ref (al_480.2 0 i0)]) (by rw [ho_a_479, ho_o]) ?_
  refine q_putr (t := 0) (i := i0) (k := 54) (t' := 46) (j := (al.1 46)) C hU hS k_0 (hc := rfl) uwX12 tyX12 tyX12_ok nmX12 hi_o (by decide) rfl (Or.inr ⟨rfl, hnm, rfl⟩) rfl fl_X12_146 dX12_init_435 (fun _ => rfl) (fun _ => rfl) (fun H locs hU hS => ?_)
  have hz : sz ≤ H.size := Nat.le_trans hz0 hS.1
  obtain ⟨rv_487, er_488⟩ : ∃ z, z = up3 rv_482 0 i0 54 (some (al.1 46)) := ⟨_, rfl⟩
  rw [← er_488] at hU
  have hB : RB al_480 rv_487 := by rw [er_488]; exact hB.put rfl hi_a_479
  have hE := hE.putr (t := 0) (i := i0) (k := 54) (x := some (al.1 46)) (by decide)
  rw [← er_488] at hE
  have hN : NN 0 i0 [54, 53, 52, 51, 50, 49, 47, 46, 45, 44, 43, 42, 40, 39, 38, 36, 35, 34, 33, 32, 31, 29, 28, 27, 26, 25, 23, 22, 21, 19, 18, 17, 16, 15, 14, 13, 12, 11, 10, 9, 8, 7, 4, 3, 2, 1] rv_487 := by rw [er_488]; exact hN.put 54 (al.1 46)
  refine lv_aload_n hx hb dX12_init_438 rfl (lv_at hl 0 rfl) ?_
  refine lv_bipush (v := 40) hx hb dX12_init_439 (by decide) ?_
  refine q_newp (t := 47) (ty := .int) C hU hS hB hz rfl (Or.inl rfl) k_47 (fun _ => rfl) ac_int (by decide) (by decide) (by decide) (Nat.le_of_ble_eq_true rfl) (Nat.le_of_ble_eq_true rfl) dX12_init_441 (fun a_489 H hU hS hz => ?_)
  have hc_496 : al_480.1 47 = al.1 47 := hE.1 47
  have hE9 := hE.new 47 a_489
  have hR9 := hR.new 47 a_489
  have hB9 := hB.new 47 a_489
  have hn9 := grow_new (al := al_480) (t := 47) (a := a_489)
  rw [hc_496] at hU hE9 hR9 hB9 hn9
  obtain ⟨al_490, ea_493⟩ : ∃ z, z = grow al_480 47 a_489 := ⟨_, rfl⟩
  obtain ⟨iv_491, ei_494⟩ : ∃ z, z = clr iv_481 47 (al.1 47) 0 := ⟨_, rfl⟩
  obtain ⟨rv_492, er_495⟩ : ∃ z, z = clr rv_487 47 (al.1 47) none := ⟨_, rfl⟩
  rw [← ea_493] at hU hE9 hR9 hB9 hn9
  rw [← ei_494] at hU hE9 hR9
  rw [← er_495] at hU hE9 hB9
  have ho_a_1 : al_490.2 1 (al.1 1) = a_1 := by rw [ea_493, grow_ad hi_a_1]; exact ho_a_1
  have hi_a_1 : (al.1 1) < al_490.1 1 := by rw [ea_493, grow_ct]; omega
  have ho_a_101 : al_490.2 9 (al.1 9) = a_101 := by rw [ea_493, grow_ad hi_a_101]; exact ho_a_101
  have hi_a_101 : (al.1 9) < al_490.1 9 := by rw [ea_493, grow_ct]; omega
  have ho_a_11 : al_490.2 2 (al.1 2) = a_11 := by rw [ea_493, grow_ad hi_a_11]; exact ho_a_11
  have hi_a_11 : (al.1 2) < al_490.1 2 := by rw [ea_493, grow_ct]; omega
  have ho_a_111 : al_490.2 10 (al.1 10) = a_111 := by rw [ea_493, grow_ad hi_a_111]; exact ho_a_111
  have hi_a_111 : (al.1 10) < al_490.1 10 := by rw [ea_493, grow_ct]; omega
  have ho_a_121 : al_490.2 11 (al.1 11) = a_121 := by rw [ea_493, grow_ad hi_a_121]; exact ho_a_121
  have hi_a_121 : (al.1 11) < al_490.1 11 := by rw [ea_493, grow_ct]; omega
  have ho_a_131 : al_490.2 12 (al.1 12) = a_131 := by rw [ea_493, grow_ad hi_a_131]; exact ho_a_131
  have hi_a_131 : (al.1 12) < al_490.1 12 := by rw [ea_493, grow_ct]; omega
  have ho_a_141 : al_490.2 13 (al.1 13) = a_141 := by rw [ea_493, grow_ad hi_a_141]; exact ho_a_141
  have hi_a_141 : (al.1 13) < al_490.1 13 := by rw [ea_493, grow_ct]; omega
  have ho_a_151 : al_490.2 14 (al.1 14) = a_151 := by rw [ea_493, grow_ad hi_a_151]; exact ho_a_151
  have hi_a_151 : (al.1 14) < al_490.1 14 := by rw [ea_493, grow_ct]; omega
  have ho_a_161 : al_490.2 15 (al.1 15) = a_161 := by rw [ea_493, grow_ad hi_a_161]; exact ho_a_161
  have hi_a_161 : (al.1 15) < al_490.1 15 := by rw [ea_493, grow_ct]; omega
  have ho_a_179 : al_490.2 16 (al.1 16) = a_179 := by rw [ea_493, grow_ad hi_a_179]; exact ho_a_179
  have hi_a_179 : (al.1 16) < al_490.1 16 := by rw [ea_493, grow_ct]; omega
  have ho_a_189 : al_490.2 17 (al.1 17) = a_189 := by rw [ea_493, grow_ad hi_a_189]; exact ho_a_189
  have hi_a_189 : (al.1 17) < al_490.1 17 := by rw [ea_493, grow_ct]; omega
  have ho_a_199 : al_490.2 18 (al.1 18) = a_199 := by rw [ea_493, grow_ad hi_a_199]; exact ho_a_199
  have hi_a_199 : (al.1 18) < al_490.1 18 := by rw [ea_493, grow_ct]; omega
  have ho_a_209 : al_490.2 19 (al.1 19) = a_209 := by rw [ea_493, grow_ad hi_a_209]; exact ho_a_209
  have hi_a_209 : (al.1 19) < al_490.1 19 := by rw [ea_493, grow_ct]; omega
  have ho_a_21 : al_490.2 3 (al.1 3) = a_21 := by rw [ea_493, grow_ad hi_a_21]; exact ho_a_21
  have hi_a_21 : (al.1 3) < al_490.1 3 := by rw [ea_493, grow_ct]; omega
  have ho_a_219 : al_490.2 20 (al.1 20) = a_219 := by rw [ea_493, grow_ad hi_a_219]; exact ho_a_219
  have hi_a_219 : (al.1 20) < al_490.1 20 := by rw [ea_493, grow_ct]; omega
  have ho_a_229 : al_490.2 21 (al.1 21) = a_229 := by rw [ea_493, grow_ad hi_a_229]; exact ho_a_229
  have hi_a_229 : (al.1 21) < al_490.1 21 := by rw [ea_493, grow_ct]; omega
  have ho_a_239 : al_490.2 22 (al.1 22) = a_239 := by rw [ea_493, grow_ad hi_a_239]; exact ho_a_239
  have hi_a_239 : (al.1 22) < al_490.1 22 := by rw [ea_493, grow_ct]; omega
  have ho_a_249 : al_490.2 23 (al.1 23) = a_249 := by rw [ea_493, grow_ad hi_a_249]; exact ho_a_249
  have hi_a_249 : (al.1 23) < al_490.1 23 := by rw [ea_493, grow_ct]; omega
  have ho_a_259 : al_490.2 24 (al.1 24) = a_259 := by rw [ea_493, grow_ad hi_a_259]; exact ho_a_259
  have hi_a_259 : (al.1 24) < al_490.1 24 := by rw [ea_493, grow_ct]; omega
  have ho_a_269 : al_490.2 25 (al.1 25) = a_269 := by rw [ea_493, grow_ad hi_a_269]; exact ho_a_269
  have hi_a_269 : (al.1 25) < al_490.1 25 := by rw [ea_493, grow_ct]; omega
  have ho_a_279 : al_490.2 26 (al.1 26) = a_279 := by rw [ea_493, grow_ad hi_a_279]; exact ho_a_279
  have hi_a_279 : (al.1 26) < al_490.1 26 := by rw [ea_493, grow_ct]; omega
  have ho_a_289 : al_490.2 27 (al.1 27) = a_289 := by rw [ea_493, grow_ad hi_a_289]; exact ho_a_289
  have hi_a_289 : (al.1 27) < al_490.1 27 := by rw [ea_493, grow_ct]; omega
  have ho_a_299 : al_490.2 28 (al.1 28) = a_299 := by rw [ea_493, grow_ad hi_a_299]; exact ho_a_299
  have hi_a_299 : (al.1 28) < al_490.1 28 := by rw [ea_493, grow_ct]; omega
  have ho_a_309 : al_490.2 29 (al.1 29) = a_309 := by rw [ea_493, grow_ad hi_a_309]; exact ho_a_309
  have hi_a_309 : (al.1 29) < al_490.1 29 := by rw [ea_493, grow_ct]; omega
  have ho_a_319 : al_490.2 30 (al.1 30) = a_319 := by rw [ea_493, grow_ad hi_a_319]; exact ho_a_319
  have hi_a_319 : (al.1 30) < al_490.1 30 := by rw [ea_493, grow_ct]; omega
  have ho_a_329 : al_490.2 31 (al.1 31) = a_329 := by rw [ea_493, grow_ad hi_a_329]; exact ho_a_329
  have hi_a_329 : (al.1 31) < al_490.1 31 := by rw [ea_493, grow_ct]; omega
  have ho_a_339 : al_490.2 32 (al.1 32) = a_339 := by rw [ea_493, grow_ad hi_a_339]; exact ho_a_339
  have hi_a_339 : (al.1 32) < al_490.1 32 := by rw [ea_493, grow_ct]; omega
  have ho_a_349 : al_490.2 33 (al.1 33) = a_349 := by rw [ea_493, grow_ad hi_a_349]; exact ho_a_349
  have hi_a_349 : (al.1 33) < al_490.1 33 := by rw [ea_493, grow_ct]; omega
  have ho_a_359 : al_490.2 34 (al.1 34) = a_359 := by rw [ea_493, grow_ad hi_a_359]; exact ho_a_359
  have hi_a_359 : (al.1 34) < al_490.1 34 := by rw [ea_493, grow_ct]; omega
  have ho_a_369 : al_490.2 35 (al.1 35) = a_369 := by rw [ea_493, grow_ad hi_a_369]; exact ho_a_369
  have hi_a_369 : (al.1 35) < al_490.1 35 := by rw [ea_493, grow_ct]; omega
  have ho_a_379 : al_490.2 36 (al.1 36) = a_379 := by rw [ea_493, grow_ad hi_a_379]; exact ho_a_379
  have hi_a_379 : (al.1 36) < al_490.1 36 := by rw [ea_493, grow_ct]; omega
  have ho_a_389 : al_490.2 37 (al.1 37) = a_389 := by rw [ea_493, grow_ad hi_a_389]; exact ho_a_389
  have hi_a_389 : (al.1 37) < al_490.1 37 := by rw [ea_493, grow_ct]; omega
  have ho_a_399 : al_490.2 38 (al.1 38) = a_399 := by rw [ea_493, grow_ad hi_a_399]; exact ho_a_399
  have hi_a_399 : (al.1 38) < al_490.1 38 := by rw [ea_493, grow_ct]; omega
  have ho_a_409 : al_490.2 39 (al.1 39) = a_409 := by rw [ea_493, grow_ad hi_a_409]; exact ho_a_409
  have hi_a_409 : (al.1 39) < al_490.1 39 := by rw [ea_493, grow_ct]; omega
  have ho_a_419 : al_490.2 40 (al.1 40) = a_419 := by rw [ea_493, grow_ad hi_a_419]; exact ho_a_419
  have hi_a_419 : (al.1 40) < al_490.1 40 := by rw [ea_493, grow_ct]; omega
  have ho_a_429 : al_490.2 41 (al.1 41) = a_429 := by rw [ea_493, grow_ad hi_a_429]; exact ho_a_429
  have hi_a_429 : (al.1 41) < al_490.1 41 := by rw [ea_493, grow_ct]; omega
  have ho_a_439 : al_490.2 42 (al.1 42) = a_439 := by rw [ea_493, grow_ad hi_a_439]; exact ho_a_439
  have hi_a_439 : (al.1 42) < al_490.1 42 := by rw [ea_493, grow_ct]; omega
  have ho_a_449 : al_490.2 43 (al.1 43) = a_449 := by rw [ea_493, grow_ad hi_a_449]; exact ho_a_449
  have hi_a_449 : (al.1 43) < al_490.1 43 := by rw [ea_493, grow_ct]; omega
  have ho_a_459 : al_490.2 44 (al.1 44) = a_459 := by rw [ea_493, grow_ad hi_a_459]; exact ho_a_459
  have hi_a_459 : (al.1 44) < al_490.1 44 := by rw [ea_493, grow_ct]; omega
  have ho_a_469 : al_490.2 45 (al.1 45) = a_469 := by rw [ea_493, grow_ad hi_a_469]; exact ho_a_469
  have hi_a_469 : (al.1 45) < al_490.1 45 := by rw [ea_493, grow_ct]; omega
  have ho_a_479 : al_490.2 46 (al.1 46) = a_479 := by rw [ea_493, grow_ad hi_a_479]; exact ho_a_479
  have hi_a_479 : (al.1 46) < al_490.1 46 := by rw [ea_493, grow_ct]; omega
  have ho_a_51 : al_490.2 4 (al.1 4) = a_51 := by rw [ea_493, grow_ad hi_a_51]; exact ho_a_51
  have hi_a_51 : (al.1 4) < al_490.1 4 := by rw [ea_493, grow_ct]; omega
  have ho_a_61 : al_490.2 5 (al.1 5) = a_61 := by rw [ea_493, grow_ad hi_a_61]; exact ho_a_61
  have hi_a_61 : (al.1 5) < al_490.1 5 := by rw [ea_493, grow_ct]; omega
  have ho_a_71 : al_490.2 6 (al.1 6) = a_71 := by rw [ea_493, grow_ad hi_a_71]; exact ho_a_71
  have hi_a_71 : (al.1 6) < al_490.1 6 := by rw [ea_493, grow_ct]; omega
  have ho_a_81 : al_490.2 7 (al.1 7) = a_81 := by rw [ea_493, grow_ad hi_a_81]; exact ho_a_81
  have hi_a_81 : (al.1 7) < al_490.1 7 := by rw [ea_493, grow_ct]; omega
  have ho_a_91 : al_490.2 8 (al.1 8) = a_91 := by rw [ea_493, grow_ad hi_a_91]; exact ho_a_91
  have hi_a_91 : (al.1 8) < al_490.1 8 := by rw [ea_493, grow_ct]; omega
  have ho_o : al_490.2 0 i0 = o := by rw [ea_493, grow_ad hi_o]; exact ho_o
  have hi_o : i0 < al_490.1 0 := by rw [ea_493, grow_ct]; omega
  have ho_a_489 : al_490.2 47 (al.1 47) = a_489 := hn9
  have hi_a_489 : (al.1 47) < al_490.1 47 := by rw [ea_493, grow_ct, hc_496]; simp
  have hN : NN 0 i0 [54, 53, 52, 51, 50, 49, 47, 46, 45, 44, 43, 42, 40, 39, 38, 36, 35, 34, 33, 32, 31, 29, 28, 27, 26, 25, 23, 22, 21, 19, 18, 17, 16, 15, 14, 13, 12, 11, 10, 9, 8, 7, 4, 3, 2, 1] rv_492 := hN.keep (fun k => by rw [er_495]; exact clr_ne (fun z => absurd z.1 (by decide)))
  have hE := hE9
  have hR := hR9
  have hB := hB9
  refine W.widen (k := 47) (n := 1755) (Nat.le_of_ble_eq_true rfl) (Nat.le_of_ble_eq_true rfl) ?_
  refine W.eq (g2 := F0 m 443 ls [.ref (al_490.2 47 (al.1 47)), .ref (al_490.2 0 i0)]) (by rw [ho_a_489, ho_o]) ?_
  refine q_putr (t := 0) (i := i0) (k := 58) (t' := 47) (j := (al.1 47)) C hU hS k_0 (hc := rfl) uwX12 tyX12 tyX12_ok nmX12 hi_o (by decide) rfl (Or.inr ⟨rfl, hnm, rfl⟩) rfl fl_X12_149 dX12_init_443 (fun _ => rfl) (fun _ => rfl) (fun H locs hU hS => ?_)
  have hz : sz ≤ H.size := Nat.le_trans hz0 hS.1
  obtain ⟨rv_497, er_498⟩ : ∃ z, z = up3 rv_492 0 i0 58 (some (al.1 47)) := ⟨_, rfl⟩
  rw [← er_498] at hU
  have hB : RB al_490 rv_497 := by rw [er_498]; exact hB.put rfl hi_a_489
  have hE := hE.putr (t := 0) (i := i0) (k := 58) (x := some (al.1 47)) (by decide)
  rw [← er_498] at hE
  have hN : NN 0 i0 [58, 54, 53, 52, 51, 50, 49, 47, 46, 45, 44, 43, 42, 40, 39, 38, 36, 35, 34, 33, 32, 31, 29, 28, 27, 26, 25, 23, 22, 21, 19, 18, 17, 16, 15, 14, 13, 12, 11, 10, 9, 8, 7, 4, 3, 2, 1] rv_497 := by rw [er_498]; exact hN.put 58 (al.1 47)
  refine lv_aload_n hx hb dX12_init_446 rfl (lv_at hl 0 rfl) ?_
  refine lv_bipush (v := 40) hx hb dX12_init_447 (by decide) ?_
  refine q_newp (t := 48) (ty := .int) C hU hS hB hz rfl (Or.inl rfl) k_48 (fun _ => rfl) ac_int (by decide) (by decide) (by decide) (Nat.le_of_ble_eq_true rfl) (Nat.le_of_ble_eq_true rfl) dX12_init_449 (fun a_499 H hU hS hz => ?_)
  have hc_506 : al_490.1 48 = al.1 48 := hE.1 48
  have hE9 := hE.new 48 a_499
  have hR9 := hR.new 48 a_499
  have hB9 := hB.new 48 a_499
  have hn9 := grow_new (al := al_490) (t := 48) (a := a_499)
  rw [hc_506] at hU hE9 hR9 hB9 hn9
  obtain ⟨al_500, ea_503⟩ : ∃ z, z = grow al_490 48 a_499 := ⟨_, rfl⟩
  obtain ⟨iv_501, ei_504⟩ : ∃ z, z = clr iv_491 48 (al.1 48) 0 := ⟨_, rfl⟩
  obtain ⟨rv_502, er_505⟩ : ∃ z, z = clr rv_497 48 (al.1 48) none := ⟨_, rfl⟩
  rw [← ea_503] at hU hE9 hR9 hB9 hn9
  rw [← ei_504] at hU hE9 hR9
  rw [← er_505] at hU hE9 hB9
  have ho_a_1 : al_500.2 1 (al.1 1) = a_1 := by rw [ea_503, grow_ad hi_a_1]; exact ho_a_1
  have hi_a_1 : (al.1 1) < al_500.1 1 := by rw [ea_503, grow_ct]; omega
  have ho_a_101 : al_500.2 9 (al.1 9) = a_101 := by rw [ea_503, grow_ad hi_a_101]; exact ho_a_101
  have hi_a_101 : (al.1 9) < al_500.1 9 := by rw [ea_503, grow_ct]; omega
  have ho_a_11 : al_500.2 2 (al.1 2) = a_11 := by rw [ea_503, grow_ad hi_a_11]; exact ho_a_11
  have hi_a_11 : (al.1 2) < al_500.1 2 := by rw [ea_503, grow_ct]; omega
  have ho_a_111 : al_500.2 10 (al.1 10) = a_111 := by rw [ea_503, grow_ad hi_a_111]; exact ho_a_111
  have hi_a_111 : (al.1 10) < al_500.1 10 := by rw [ea_503, grow_ct]; omega
  have ho_a_121 : al_500.2 11 (al.1 11) = a_121 := by rw [ea_503, grow_ad hi_a_121]; exact ho_a_121
  have hi_a_121 : (al.1 11) < al_500.1 11 := by rw [ea_503, grow_ct]; omega
  have ho_a_131 : al_500.2 12 (al.1 12) = a_131 := by rw [ea_503, grow_ad hi_a_131]; exact ho_a_131
  have hi_a_131 : (al.1 12) < al_500.1 12 := by rw [ea_503, grow_ct]; omega
  have ho_a_141 : al_500.2 13 (al.1 13) = a_141 := by rw [ea_503, grow_ad hi_a_141]; exact ho_a_141
  have hi_a_141 : (al.1 13) < al_500.1 13 := by rw [ea_503, grow_ct]; omega
  have ho_a_151 : al_500.2 14 (al.1 14) = a_151 := by rw [ea_503, grow_ad hi_a_151]; exact ho_a_151
  have hi_a_151 : (al.1 14) < al_500.1 14 := by rw [ea_503, grow_ct]; omega
  have ho_a_161 : al_500.2 15 (al.1 15) = a_161 := by rw [ea_503, grow_ad hi_a_161]; exact ho_a_161
  have hi_a_161 : (al.1 15) < al_500.1 15 := by rw [ea_503, grow_ct]; omega
  have ho_a_179 : al_500.2 16 (al.1 16) = a_179 := by rw [ea_503, grow_ad hi_a_179]; exact ho_a_179
  have hi_a_179 : (al.1 16) < al_500.1 16 := by rw [ea_503, grow_ct]; omega
  have ho_a_189 : al_500.2 17 (al.1 17) = a_189 := by rw [ea_503, grow_ad hi_a_189]; exact ho_a_189
  have hi_a_189 : (al.1 17) < al_500.1 17 := by rw [ea_503, grow_ct]; omega
  have ho_a_199 : al_500.2 18 (al.1 18) = a_199 := by rw [ea_503, grow_ad hi_a_199]; exact ho_a_199
  have hi_a_199 : (al.1 18) < al_500.1 18 := by rw [ea_503, grow_ct]; omega
  have ho_a_209 : al_500.2 19 (al.1 19) = a_209 := by rw [ea_503, grow_ad hi_a_209]; exact ho_a_209
  have hi_a_209 : (al.1 19) < al_500.1 19 := by rw [ea_503, grow_ct]; omega
  have ho_a_21 : al_500.2 3 (al.1 3) = a_21 := by rw [ea_503, grow_ad hi_a_21]; exact ho_a_21
  have hi_a_21 : (al.1 3) < al_500.1 3 := by rw [ea_503, grow_ct]; omega
  have ho_a_219 : al_500.2 20 (al.1 20) = a_219 := by rw [ea_503, grow_ad hi_a_219]; exact ho_a_219
  have hi_a_219 : (al.1 20) < al_500.1 20 := by rw [ea_503, grow_ct]; omega
  have ho_a_229 : al_500.2 21 (al.1 21) = a_229 := by rw [ea_503, grow_ad hi_a_229]; exact ho_a_229
  have hi_a_229 : (al.1 21) < al_500.1 21 := by rw [ea_503, grow_ct]; omega
  have ho_a_239 : al_500.2 22 (al.1 22) = a_239 := by rw [ea_503, grow_ad hi_a_239]; exact ho_a_239
  have hi_a_239 : (al.1 22) < al_500.1 22 := by rw [ea_503, grow_ct]; omega
  have ho_a_249 : al_500.2 23 (al.1 23) = a_249 := by rw [ea_503, grow_ad hi_a_249]; exact ho_a_249
  have hi_a_249 : (al.1 23) < al_500.1 23 := by rw [ea_503, grow_ct]; omega
  have ho_a_259 : al_500.2 24 (al.1 24) = a_259 := by rw [ea_503, grow_ad hi_a_259]; exact ho_a_259
  have hi_a_259 : (al.1 24) < al_500.1 24 := by rw [ea_503, grow_ct]; omega
  have ho_a_269 : al_500.2 25 (al.1 25) = a_269 := by rw [ea_503, grow_ad hi_a_269]; exact ho_a_269
  have hi_a_269 : (al.1 25) < al_500.1 25 := by rw [ea_503, grow_ct]; omega
  have ho_a_279 : al_500.2 26 (al.1 26) = a_279 := by rw [ea_503, grow_ad hi_a_279]; exact ho_a_279
  have hi_a_279 : (al.1 26) < al_500.1 26 := by rw [ea_503, grow_ct]; omega
  have ho_a_289 : al_500.2 27 (al.1 27) = a_289 := by rw [ea_503, grow_ad hi_a_289]; exact ho_a_289
  have hi_a_289 : (al.1 27) < al_500.1 27 := by rw [ea_503, grow_ct]; omega
  have ho_a_299 : al_500.2 28 (al.1 28) = a_299 := by rw [ea_503, grow_ad hi_a_299]; exact ho_a_299
  have hi_a_299 : (al.1 28) < al_500.1 28 := by rw [ea_503, grow_ct]; omega
  have ho_a_309 : al_500.2 29 (al.1 29) = a_309 := by rw [ea_503, grow_ad hi_a_309]; exact ho_a_309
  have hi_a_309 : (al.1 29) < al_500.1 29 := by rw [ea_503, grow_ct]; omega
  have ho_a_319 : al_500.2 30 (al.1 30) = a_319 := by rw [ea_503, grow_ad hi_a_319]; exact ho_a_319
  have hi_a_319 : (al.1 30) < al_500.1 30 := by rw [ea_503, grow_ct]; omega
  have ho_a_329 : al_500.2 31 (al.1 31) = a_329 := by rw [ea_503, grow_ad hi_a_329]; exact ho_a_329
  have hi_a_329 : (al.1 31) < al_500.1 31 := by rw [ea_503, grow_ct]; omega
  have ho_a_339 : al_500.2 32 (al.1 32) = a_339 := by rw [ea_503, grow_ad hi_a_339]; exact ho_a_339
  have hi_a_339 : (al.1 32) < al_500.1 32 := by rw [ea_503, grow_ct]; omega
  have ho_a_349 : al_500.2 33 (al.1 33) = a_349 := by rw [ea_503, grow_ad hi_a_349]; exact ho_a_349
  have hi_a_349 : (al.1 33) < al_500.1 33 := by rw [ea_503, grow_ct]; omega
  have ho_a_359 : al_500.2 34 (al.1 34) = a_359 := by rw [ea_503, grow_ad hi_a_359]; exact ho_a_359
  have hi_a_359 : (al.1 34) < al_500.1 34 := by rw [ea_503, grow_ct]; omega
  have ho_a_369 : al_500.2 35 (al.1 35) = a_369 := by rw [ea_503, grow_ad hi_a_369]; exact ho_a_369
  have hi_a_369 : (al.1 35) < al_500.1 35 := by rw [ea_503, grow_ct]; omega
  have ho_a_379 : al_500.2 36 (al.1 36) = a_379 := by rw [ea_503, grow_ad hi_a_379]; exact ho_a_379
  have hi_a_379 : (al.1 36) < al_500.1 36 := by rw [ea_503, grow_ct]; omega
  have ho_a_389 : al_500.2 37 (al.1 37) = a_389 := by rw [ea_503, grow_ad hi_a_389]; exact ho_a_389
  have hi_a_389 : (al.1 37) < al_500.1 37 := by rw [ea_503, grow_ct]; omega
  have ho_a_399 : al_500.2 38 (al.1 38) = a_399 := by rw [ea_503, grow_ad hi_a_399]; exact ho_a_399
  have hi_a_399 : (al.1 38) < al_500.1 38 := by rw [ea_503, grow_ct]; omega
  have ho_a_409 : al_500.2 39 (al.1 39) = a_409 := by rw [ea_503, grow_ad hi_a_409]; exact ho_a_409
  have hi_a_409 : (al.1 39) < al_500.1 39 := by rw [ea_503, grow_ct]; omega
  have ho_a_419 : al_500.2 40 (al.1 40) = a_419 := by rw [ea_503, grow_ad hi_a_419]; exact ho_a_419
  have hi_a_419 : (al.1 40) < al_500.1 40 := by rw [ea_503, grow_ct]; omega
  have ho_a_429 : al_500.2 41 (al.1 41) = a_429 := by rw [ea_503, grow_ad hi_a_429]; exact ho_a_429
  have hi_a_429 : (al.1 41) < al_500.1 41 := by rw [ea_503, grow_ct]; omega
  have ho_a_439 : al_500.2 42 (al.1 42) = a_439 := by rw [ea_503, grow_ad hi_a_439]; exact ho_a_439
  have hi_a_439 : (al.1 42) < al_500.1 42 := by rw [ea_503, grow_ct]; omega
  have ho_a_449 : al_500.2 43 (al.1 43) = a_449 := by rw [ea_503, grow_ad hi_a_449]; exact ho_a_449
  have hi_a_449 : (al.1 43) < al_500.1 43 := by rw [ea_503, grow_ct]; omega
  have ho_a_459 : al_500.2 44 (al.1 44) = a_459 := by rw [ea_503, grow_ad hi_a_459]; exact ho_a_459
  have hi_a_459 : (al.1 44) < al_500.1 44 := by rw [ea_503, grow_ct]; omega
  have ho_a_469 : al_500.2 45 (al.1 45) = a_469 := by rw [ea_503, grow_ad hi_a_469]; exact ho_a_469
  have hi_a_469 : (al.1 45) < al_500.1 45 := by rw [ea_503, grow_ct]; omega
  have ho_a_479 : al_500.2 46 (al.1 46) = a_479 := by rw [ea_503, grow_ad hi_a_479]; exact ho_a_479
  have hi_a_479 : (al.1 46) < al_500.1 46 := by rw [ea_503, grow_ct]; omega
  have ho_a_489 : al_500.2 47 (al.1 47) = a_489 := by rw [ea_503, grow_ad hi_a_489]; exact ho_a_489
  have hi_a_489 : (al.1 47) < al_500.1 47 := by rw [ea_503, grow_ct]; omega
  have ho_a_51 : al_500.2 4 (al.1 4) = a_51 := by rw [ea_503, grow_ad hi_a_51]; exact ho_a_51
  have hi_a_51 : (al.1 4) < al_500.1 4 := by rw [ea_503, grow_ct]; omega
  have ho_a_61 : al_500.2 5 (al.1 5) = a_61 := by rw [ea_503, grow_ad hi_a_61]; exact ho_a_61
  have hi_a_61 : (al.1 5) < al_500.1 5 := by rw [ea_503, grow_ct]; omega
  have ho_a_71 : al_500.2 6 (al.1 6) = a_71 := by rw [ea_503, grow_ad hi_a_71]; exact ho_a_71
  have hi_a_71 : (al.1 6) < al_500.1 6 := by rw [ea_503, grow_ct]; omega
  have ho_a_81 : al_500.2 7 (al.1 7) = a_81 := by rw [ea_503, grow_ad hi_a_81]; exact ho_a_81
  have hi_a_81 : (al.1 7) < al_500.1 7 := by rw [ea_503, grow_ct]; omega
  have ho_a_91 : al_500.2 8 (al.1 8) = a_91 := by rw [ea_503, grow_ad hi_a_91]; exact ho_a_91
  have hi_a_91 : (al.1 8) < al_500.1 8 := by rw [ea_503, grow_ct]; omega
  have ho_o : al_500.2 0 i0 = o := by rw [ea_503, grow_ad hi_o]; exact ho_o
  have hi_o : i0 < al_500.1 0 := by rw [ea_503, grow_ct]; omega
  have ho_a_499 : al_500.2 48 (al.1 48) = a_499 := hn9
  have hi_a_499 : (al.1 48) < al_500.1 48 := by rw [ea_503, grow_ct, hc_506]; simp
  have hN : NN 0 i0 [58, 54, 53, 52, 51, 50, 49, 47, 46, 45, 44, 43, 42, 40, 39, 38, 36, 35, 34, 33, 32, 31, 29, 28, 27, 26, 25, 23, 22, 21, 19, 18, 17, 16, 15, 14, 13, 12, 11, 10, 9, 8, 7, 4, 3, 2, 1] rv_502 := hN.keep (fun k => by rw [er_505]; exact clr_ne (fun z => absurd z.1 (by decide)))
  have hE := hE9
  have hR := hR9
  have hB := hB9
  refine W.widen (k := 48) (n := 1795) (Nat.le_of_ble_eq_true rfl) (Nat.le_of_ble_eq_true rfl) ?_
  refine W.eq (g2 := F0 m 451 ls [.ref (al_500.2 48 (al.1 48)), .ref (al_500.2 0 i0)]) (by rw [ho_a_499, ho_o]) ?_
  refine q_putr (t := 0) (i := i0) (k := 59) (t' := 48) (j := (al.1 48)) C hU hS k_0 (hc := rfl) uwX12 tyX12 tyX12_ok nmX12 hi_o (by decide) rfl (Or.inr ⟨rfl, hnm, rfl⟩) rfl fl_X12_152 dX12_init_451 (fun _ => rfl) (fun _ => rfl) (fun H locs hU hS => ?_)
  have hz : sz ≤ H.size := Nat.le_trans hz0 hS.1
  obtain ⟨rv_507, er_508⟩ : ∃ z, z = up3 rv_502 0 i0 59 (some (al.1 48)) := ⟨_, rfl⟩
  rw [← er_508] at hU
  have hB : RB al_500 rv_507 := by rw [er_508]; exact hB.put rfl hi_a_499
  have hE := hE.putr (t := 0) (i := i0) (k := 59) (x := some (al.1 48)) (by decide)
  rw [← er_508] at hE
  have hN : NN 0 i0 [59, 58, 54, 53, 52, 51, 50, 49, 47, 46, 45, 44, 43, 42, 40, 39, 38, 36, 35, 34, 33, 32, 31, 29, 28, 27, 26, 25, 23, 22, 21, 19, 18, 17, 16, 15, 14, 13, 12, 11, 10, 9, 8, 7, 4, 3, 2, 1] rv_507 := by rw [er_508]; exact hN.put 59 (al.1 48)
  refine lv_iconst (v := 0) hx hb dX12_init_454 (by decide) ?_
  refine lv_istore_n (lv' := [(1, .int 0), (0, .ref o)]) hx hb dX12_init_455 rfl hl (by decide) rfl (fun ls hl => ?_)
  obtain ⟨jb, ejb⟩ := hN 36 (by decide)
  have hjb : jb < al_500.1 31 := hB 0 i0 36 31 hi_o (by decide) rfl jb ejb
  have LP : ∀ (n : Nat) (x : Int32) (iv1 : Iv) (H : Heap) (locs : List Loc) (ls : Array Slot), lv_has ls 2 [(1, .int x), (0, .ref o)] → (0 ≤ x.toInt ∧ x.toInt ≤ 4) → (4 - x.toInt).toNat < n → RG al_500 iv1 → EXT (nx (nx (nx (nx (nx (nx (nx (nx (nx (nx (nx (nx (nx (nx (nx (nx (nx (nx (nx (nx (nx (nx (nx (nx (nx (nx (nx (nx (nx (nx (nx (nx (nx (nx (nx (nx (nx (nx (nx (nx (nx (nx (nx (nx (nx (nx (nx (nx (fun _ => 0) 1) 2) 3) 4) 5) 6) 7) 8) 9) 10) 11) 12) 13) 14) 15) 16) 17) 18) 19) 20) 21) 22) 23) 24) 25) 26) 27) 28) 29) 30) 31) 32) 33) 34) 35) 36) 37) 38) 39) 40) 41) 42) 43) 44) 45) 46) 47) 48) ([3, 15, 31], [(0, 1), (0, 2), (0, 3), (0, 4), (0, 7), (0, 8), (0, 9), (0, 10), (0, 11), (0, 12), (0, 13), (0, 14), (0, 15), (0, 16), (0, 17), (0, 18), (0, 19), (0, 21), (0, 22), (0, 23), (0, 25), (0, 26), (0, 27), (0, 28), (0, 29), (0, 31), (0, 32), (0, 33), (0, 34), (0, 35), (0, 36), (0, 38), (0, 39), (0, 40), (0, 42), (0, 43), (0, 44), (0, 45), (0, 46), (0, 47), (0, 49), (0, 50), (0, 51), (0, 52), (0, 53), (0, 54), (0, 58), (0, 59)]) al iv rv al_500 iv1 rv_507 → UW D cA sz al_500 iv1 rv_507 H → va_S (Aq sz) s.heap H locs → W p l e (rmA 1 48 1795) s m args below meth c H locs 48 1795 Q (F0 m 456 ls []) := by
    intro n
    induction n with
    | zero =>
      intro x iv1 H locs ls hl hxr hm
      exact absurd hm (Nat.not_lt_zero _)
    | succ n ih =>
      intro x iv1 H locs ls hl hxr hm hR hE hU hS
      refine lv_iload_n hx hb dX12_init_456 rfl (lv_at hl 0 rfl) ?_
      refine lv_iconst (v := 4) hx hb dX12_init_457 (by decide) ?_
      refine b_icmp_ge (tgt := 476) hx hb dX12_init_458 (by decide) (fun cx => ?_) (fun cx => ?_)
      · exact hret ⟨hR, hB, hE, hN⟩ hU hS dX12_init_476
      · refine lv_aload_n hx hb dX12_init_461 rfl (lv_at hl 1 rfl) ?_
        refine W.eq (g2 := F0 m 462 ls [.ref (al_500.2 0 i0)]) (by rw [ho_o]) ?_
        refine q_getr (t := 0) (i := i0) (k := 36) (t' := 31) (j := jb) C hU k_0 (hc := rfl) uwX12 hi_o (by decide) rfl rfl fl_X12_101 dX12_init_462 ejb ?_
        refine lv_iload_n hx hb dX12_init_465 rfl (lv_at hl 0 rfl) ?_
        refine lv_sipush (v := 365) hx hb dX12_init_466 (by decide) ?_
        refine s_31 (i := jb) C hU hS hjb (x := x) (by omega) (by omega) dX12_init_469 (fun iv2 H locs ei2 hU hS => ?_)
        obtain ⟨y, ey⟩ : ∃ y : Int32, y = x + 1 := ⟨_, rfl⟩
        have ty : y.toInt = x.toInt + (1 : Int32).toInt := by rw [ey]; exact fb_addI (by omega) (by omega)
        refine lv_iinc (v := y) (lv' := [(1, .int y), (0, .ref o)]) hx hb dX12_init_470 hl (k := 0) rfl (by rw [ey]; rfl) (by decide) rfl (fun ls hl => ?_)
        refine lv_goto (tgt := 456) hx hb dX12_init_473 (by decide) ?_
        have hE2 := hE.puti (t := 31) (i := jb) (k := x.toNatClampNeg) (x := 365) (Or.inl (by decide))
        rw [← ei2] at hE2
        exact ih y iv2 _ _ _ hl (by omega) (by omega) (by rw [ei2]; exact hR.put (show _ ∧ _ from ⟨show (0 : Int) ≤ _ by omega, show _ ≤ (3000 : Int) by omega⟩)) hE2 hU hS
  exact LP 5 0 _ _ _ _ hl (by omega) (by omega) hR hE hU hS
