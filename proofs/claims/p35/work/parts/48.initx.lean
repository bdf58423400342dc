set_option maxHeartbeats 4000000 in
set_option maxRecDepth 100000 in
theorem c_X8_initx {l : Launch} {D : va_G} {cA : FieldType → ClassId} {sz : Nat} {al : Al} {iv : Iv} {rv : Rv} (hR : RG al iv) (hB : RB al rv) (i0 : Nat) (hi0 : i0 < al.1 65) (num : Int32) (li : Nat) (hli : li < al.1 62) (pre0 : 0 ≤ num.toInt ∧ num.toInt ≤ 19) : Met l yX8_init (wd yX8_init cX8_init 3 none) (rmA 1 2 9) (PcA D cA sz al iv rv [.ref (al.2 65 i0), .int num, .ref (al.2 62 li)] (fun _ => True)) (QVA D cA sz (fun al' iv' rv' => RG al' iv' ∧ RB al' rv' ∧ EXT (nx (nx (fun _ => 0) 66) 67) ([66], [(65, 0), (65, 1), (65, 2), (65, 3), (65, 4), (65, 5)]) al iv rv al' iv' rv' ∧ NN 65 i0 [5, 3, 2, 1] rv' ∧ (∃ a_7 a_21 : Nat, al' = (grow (grow al 66 a_7) 67 a_21) ∧ iv' = (clr (up3 (clr (up3 iv 65 i0 0 num) 66 (al.1 66) 0) 65 i0 4 1) 67 (al.1 67) 0) ∧ rv' = (up3 (clr (up3 (up3 (clr (up3 (up3 rv 65 i0 1 (some li)) 65 i0 2 (some li)) 66 (al.1 66) none) 65 i0 3 (some (al.1 66))) 66 (al.1 66) (0 : Int32).toNatClampNeg (some li)) 67 (al.1 67) none) 65 i0 5 (some (al.1 67)))))) 2 9 (Aq sz) := by
  refine mk_a (by decide) (Nat.le_of_ble_eq_true rfl) rfl ?_
  intro p e s m below meth c ls C hr hlk hnm hU hS hz _ hl
  have hx := C.1.1
  have hb := C.1.2.1
  have k0 : (0 : Int32).toInt = 0 := by decide
  have k1 : (1 : Int32).toInt = 1 := by decide
  have k4 : (4 : Int32).toInt = 4 := by decide
  have k5 : (5 : Int32).toInt = 5 := by decide
  obtain ⟨o, ho_o⟩ : ∃ z, al.2 65 i0 = z := ⟨_, rfl⟩
  have hi_o := hi0
  obtain ⟨oli, ho_oli⟩ : ∃ z, al.2 62 li = z := ⟨_, rfl⟩
  have hi_oli := hli
  have hl : lv_has ls 3 [(0, .ref o), (1, .int num), (2, .ref oli)] := by rw [← ho_o, ← ho_oli]; exact hl
  have hE : EXT (fun _ => 0) ([66], [(65, 0), (65, 1), (65, 2), (65, 3), (65, 4), (65, 5)]) al iv rv al iv rv := EXT.rf
  have hN : NN 65 i0 [] rv := NN.nil
  have hz0 := hz
  refine lv_aload_n hx hb dX8_init_0 rfl (lv_at hl 0 rfl) ?_
  refine W.objInit hx hb C.1.2.2.2.1 (C.1.2.2.2.2 _ oi_X8) (C.1.2.2.2.2 _ oi_m) (C.1.2.2.2.2 _ oi_c) rfl (by rw [C.1.2.2.1]; exact hl.1) rfl dX8_init_1 (Nat.le_of_ble_eq_true rfl) (Nat.le_of_ble_eq_true rfl) ?_
  refine W.eq (g2 := F0 m 4 ls []) rfl ?_
  refine lv_aload_n hx hb dX8_init_4 rfl (lv_at hl 0 rfl) ?_
  refine lv_iload_n hx hb dX8_init_5 rfl (lv_at hl 1 rfl) ?_
  refine W.eq (g2 := F0 m 6 ls [.int num, .ref (al.2 65 i0)]) (by rw [ho_o]) ?_
  refine q_puti (t := 65) (i := i0) (k := 0) C hU hS k_65 (hc := rfl) uwX8 tyX8 tyX8_ok nmX8 hi_o (by decide) rfl (Or.inr ⟨rfl, hnm, rfl⟩) rfl fl_X8_9 dX8_init_6 rfl rfl (fun H locs hU hS => ?_)
  have hz : sz ≤ H.size := Nat.le_trans hz0 hS.1
  obtain ⟨iv_1, ei_2⟩ : ∃ z, z = up3 iv 65 i0 0 num := ⟨_, rfl⟩
  rw [← ei_2] at hU
  have hR : RG al iv_1 := by rw [ei_2]; exact hR.put (show _ ∧ _ from ⟨show (0 : Int) ≤ _ by omega, show _ ≤ (19 : Int) by omega⟩)
  have hE := hE.puti (t := 65) (i := i0) (k := 0) (x := num) (by decide)
  rw [← ei_2] at hE
  refine lv_aload_n hx hb dX8_init_9 rfl (lv_at hl 0 rfl) ?_
  refine lv_aload_n hx hb dX8_init_10 rfl (lv_at hl 2 rfl) ?_
  refine W.eq (g2 := F0 m 11 ls [.ref (al.2 62 li), .ref (al.2 65 i0)]) (by rw [ho_oli, ho_o]) ?_
  refine q_putr (t := 65) (i := i0) (k := 1) (t' := 62) (j := li) C hU hS k_65 (hc := rfl) uwX8 tyX8 tyX8_ok nmX8 hi_o (by decide) rfl (Or.inr ⟨rfl, hnm, rfl⟩) rfl fl_X8_15 dX8_init_11 (fun _ => rfl) (fun _ => rfl) (fun H locs hU hS => ?_)
  have hz : sz ≤ H.size := Nat.le_trans hz0 hS.1
  obtain ⟨rv_3, er_4⟩ : ∃ z, z = up3 rv 65 i0 1 (some li) := ⟨_, rfl⟩
  rw [← er_4] at hU
  have hB : RB al rv_3 := by rw [er_4]; exact hB.put rfl hi_oli
  have hE := hE.putr (t := 65) (i := i0) (k := 1) (x := some li) (by decide)
  rw [← er_4] at hE
  have hN : NN 65 i0 [1] rv_3 := by rw [er_4]; exact hN.put 1 li
  refine lv_aload_n hx hb dX8_init_14 rfl (lv_at hl 0 rfl) ?_
  refine lv_aload_n hx hb dX8_init_15 rfl (lv_at hl 2 rfl) ?_
  refine W.eq (g2 := F0 m 16 ls [.ref (al.2 62 li), .ref (al.2 65 i0)]) (by rw [ho_oli, ho_o]) ?_
  refine q_putr (t := 65) (i := i0) (k := 2) (t' := 62) (j := li) C hU hS k_65 (hc := rfl) uwX8 tyX8 tyX8_ok nmX8 hi_o (by decide) rfl (Or.inl rfl) rfl fl_X8_19 dX8_init_16 (fun _ => rfl) (fun _ => rfl) (fun H locs hU hS => ?_)
  have hz : sz ≤ H.size := Nat.le_trans hz0 hS.1
  obtain ⟨rv_5, er_6⟩ : ∃ z, z = up3 rv_3 65 i0 2 (some li) := ⟨_, rfl⟩
  rw [← er_6] at hU
  have hB : RB al rv_5 := by rw [er_6]; exact hB.put rfl hi_oli
  have hE := hE.putr (t := 65) (i := i0) (k := 2) (x := some li) (by decide)
  rw [← er_6] at hE
  have hN : NN 65 i0 [2, 1] rv_5 := by rw [er_6]; exact hN.put 2 li
  refine lv_aload_n hx hb dX8_init_19 rfl (lv_at hl 0 rfl) ?_
  refine lv_iconst (v := 4) hx hb dX8_init_20 (by decide) ?_
  refine q_newr (t := 66) (Cn := "LateClaims$Leg") C hU hS hB hz k_66 (by decide) (fun _ => rfl) kl_X8_22 C.2.2.2.1.2.1 (by decide) (by decide) (by decide) (Nat.le_of_ble_eq_true rfl) (Nat.le_of_ble_eq_true rfl) dX8_init_21 (fun a_7 H hU hS hz => ?_)
  have hc_14 : al.1 66 = al.1 66 := hE.1 66
  have hE9 := hE.new 66 a_7
  have hR9 := hR.new 66 a_7
  have hB9 := hB.new 66 a_7
  have hn9 := grow_new (al := al) (t := 66) (a := a_7)
  rw [hc_14] at hU hE9 hR9 hB9 hn9
  obtain ⟨al_8, ea_11⟩ : ∃ z, z = grow al 66 a_7 := ⟨_, rfl⟩
  obtain ⟨iv_9, ei_12⟩ : ∃ z, z = clr iv_1 66 (al.1 66) 0 := ⟨_, rfl⟩
  obtain ⟨rv_10, er_13⟩ : ∃ z, z = clr rv_5 66 (al.1 66) none := ⟨_, rfl⟩
  rw [← ea_11] at hU hE9 hR9 hB9 hn9
  rw [← ei_12] at hU hE9 hR9
  rw [← er_13] at hU hE9 hB9
  have ho_o : al_8.2 65 i0 = o := by rw [ea_11, grow_ad hi_o]; exact ho_o
  have hi_o : i0 < al_8.1 65 := by rw [ea_11, grow_ct]; omega
  have ho_oli : al_8.2 62 li = oli := by rw [ea_11, grow_ad hi_oli]; exact ho_oli
  have hi_oli : li < al_8.1 62 := by rw [ea_11, grow_ct]; omega
  have ho_a_7 : al_8.2 66 (al.1 66) = a_7 := hn9
  have hi_a_7 : (al.1 66) < al_8.1 66 := by rw [ea_11, grow_ct, hc_14]; simp
  have hN : NN 65 i0 [2, 1] rv_10 := hN.keep (fun k => by rw [er_13]; exact clr_ne (fun z => absurd z.1 (by decide)))
  have hE := hE9
  have hR := hR9
  have hB := hB9
  refine W.widen (k := 1) (n := 4) (Nat.le_of_ble_eq_true rfl) (Nat.le_of_ble_eq_true rfl) ?_
  refine W.eq (g2 := F0 m 24 ls [.ref (al_8.2 66 (al.1 66)), .ref (al_8.2 65 i0)]) (by rw [ho_a_7, ho_o]) ?_
  refine q_putr (t := 65) (i := i0) (k := 3) (t' := 66) (j := (al.1 66)) C hU hS k_65 (hc := rfl) uwX8 tyX8 tyX8_ok nmX8 hi_o (by decide) rfl (Or.inr ⟨rfl, hnm, rfl⟩) rfl fl_X8_24 dX8_init_24 (fun _ => rfl) (fun _ => rfl) (fun H locs hU hS => ?_)
  have hz : sz ≤ H.size := Nat.le_trans hz0 hS.1
  obtain ⟨rv_15, er_16⟩ : ∃ z, z = up3 rv_10 65 i0 3 (some (al.1 66)) := ⟨_, rfl⟩
  rw [← er_16] at hU
  have hB : RB al_8 rv_15 := by rw [er_16]; exact hB.put rfl hi_a_7
  have hE := hE.putr (t := 65) (i := i0) (k := 3) (x := some (al.1 66)) (by decide)
  rw [← er_16] at hE
  have hN : NN 65 i0 [3, 2, 1] rv_15 := by rw [er_16]; exact hN.put 3 (al.1 66)
  refine lv_aload_n hx hb dX8_init_27 rfl (lv_at hl 0 rfl) ?_
  refine W.eq (g2 := F0 m 28 ls [.ref (al_8.2 65 i0)]) (by rw [ho_o]) ?_
  refine q_getr (t := 65) (i := i0) (k := 3) (t' := 66) (j := (al.1 66)) C hU k_65 (hc := rfl) uwX8 hi_o (by decide) rfl rfl fl_X8_24 dX8_init_28 (by rw [er_16]; exact up3_self _ _ _ _ _) ?_
  refine W.eq (g2 := F0 m 31 ls [.ref a_7]) (by rw [ho_a_7]) ?_
  refine lv_iconst (v := 0) hx hb dX8_init_31 (by decide) ?_
  refine lv_aload_n hx hb dX8_init_32 rfl (lv_at hl 2 rfl) ?_
  refine W.eq (g2 := F0 m 33 ls [.ref (al_8.2 62 li), .int 0, .ref (al_8.2 66 (al.1 66))]) (by rw [ho_oli, ho_a_7]) ?_
  refine s_66 (i := (al.1 66)) (j := li) C hU hS hi_a_7 hi_oli (x := 0) (by omega) (by omega) dX8_init_33 (fun rv_17 H locs er_18 hU hS => ?_)
  have hz : sz ≤ H.size := Nat.le_trans hz0 hS.1
  have hB : RB al_8 rv_17 := by rw [er_18]; exact hB.put rfl hi_oli
  have hE := hE.putr (t := 66) (i := (al.1 66)) (k := (0 : Int32).toNatClampNeg) (x := some li) (Or.inl (by decide))
  rw [← er_18] at hE
  have hN : NN 65 i0 [3, 2, 1] rv_17 := hN.keep (fun k => by rw [er_18]; exact up3_ne (fun z => absurd z.1 (by decide)))
  refine lv_aload_n hx hb dX8_init_34 rfl (lv_at hl 0 rfl) ?_
  refine lv_iconst (v := 1) hx hb dX8_init_35 (by decide) ?_
  refine W.eq (g2 := F0 m 36 ls [.int 1, .ref (al_8.2 65 i0)]) (by rw [ho_o]) ?_
  refine q_puti (t := 65) (i := i0) (k := 4) C hU hS k_65 (hc := rfl) uwX8 tyX8 tyX8_ok nmX8 hi_o (by decide) rfl (Or.inl rfl) rfl fl_X8_28 dX8_init_36 rfl rfl (fun H locs hU hS => ?_)
  have hz : sz ≤ H.size := Nat.le_trans hz0 hS.1
  obtain ⟨iv_19, ei_20⟩ : ∃ z, z = up3 iv_9 65 i0 4 1 := ⟨_, rfl⟩
  rw [← ei_20] at hU
  have hR : RG al_8 iv_19 := by rw [ei_20]; exact hR.put (show _ ∧ _ from ⟨show (0 : Int) ≤ _ by omega, show _ ≤ (4 : Int) by omega⟩)
  have hE := hE.puti (t := 65) (i := i0) (k := 4) (x := 1) (by decide)
  rw [← ei_20] at hE
  refine lv_aload_n hx hb dX8_init_39 rfl (lv_at hl 0 rfl) ?_
  refine lv_iconst (v := 5) hx hb dX8_init_40 (by decide) ?_
  refine q_newp (t := 67) (ty := .int) C hU hS hB hz rfl (Or.inl rfl) k_67 (fun _ => rfl) ac_int (by decide) (by decide) (by decide) (Nat.le_of_ble_eq_true rfl) (Nat.le_of_ble_eq_true rfl) dX8_init_41 (fun a_21 H hU hS hz => ?_)
  have hc_28 : al_8.1 67 = al.1 67 := hE.1 67
  have hE9 := hE.new 67 a_21
  have hR9 := hR.new 67 a_21
  have hB9 := hB.new 67 a_21
  have hn9 := grow_new (al := al_8) (t := 67) (a := a_21)
  rw [hc_28] at hU hE9 hR9 hB9 hn9
  obtain ⟨al_22, ea_25⟩ : ∃ z, z = grow al_8 67 a_21 := ⟨_, rfl⟩
  obtain ⟨iv_23, ei_26⟩ : ∃ z, z = clr iv_19 67 (al.1 67) 0 := ⟨_, rfl⟩
  obtain ⟨rv_24, er_27⟩ : ∃ z, z = clr rv_17 67 (al.1 67) none := ⟨_, rfl⟩
  rw [← ea_25] at hU hE9 hR9 hB9 hn9
  rw [← ei_26] at hU hE9 hR9
  rw [← er_27] at hU hE9 hB9
  have ho_a_7 : al_22.2 66 (al.1 66) = a_7 := by rw [ea_25, grow_ad hi_a_7]; exact ho_a_7
  have hi_a_7 : (al.1 66) < al_22.1 66 := by rw [ea_25, grow_ct]; omega
  have ho_o : al_22.2 65 i0 = o := by rw [ea_25, grow_ad hi_o]; exact ho_o
  have hi_o : i0 < al_22.1 65 := by rw [ea_25, grow_ct]; omega
  have ho_oli : al_22.2 62 li = oli := by rw [ea_25, grow_ad hi_oli]; exact ho_oli
  have hi_oli : li < al_22.1 62 := by rw [ea_25, grow_ct]; omega
  have ho_a_21 : al_22.2 67 (al.1 67) = a_21 := hn9
  have hi_a_21 : (al.1 67) < al_22.1 67 := by rw [ea_25, grow_ct, hc_28]; simp
  have hN : NN 65 i0 [3, 2, 1] rv_24 := hN.keep (fun k => by rw [er_27]; exact clr_ne (fun z => absurd z.1 (by decide)))
  have hE := hE9
  have hR := hR9
  have hB := hB9
  refine W.widen (k := 2) (n := 9) (Nat.le_of_ble_eq_true rfl) (Nat.le_of_ble_eq_true rfl) ?_
  refine W.eq (g2 := F0 m 43 ls [.ref (al_22.2 67 (al.1 67)), .ref (al_22.2 65 i0)]) (by rw [ho_a_21, ho_o]) ?_
  refine q_putr (t := 65) (i := i0) (k := 5) (t' := 67) (j := (al.1 67)) C hU hS k_65 (hc := rfl) uwX8 tyX8 tyX8_ok nmX8 hi_o (by decide) rfl (Or.inr ⟨rfl, hnm, rfl⟩) rfl fl_X8_31 dX8_init_43 (fun _ => rfl) (fun _ => rfl) (fun H locs hU hS => ?_)
  have hz : sz ≤ H.size := Nat.le_trans hz0 hS.1
  obtain ⟨rv_29, er_30⟩ : ∃ z, z = up3 rv_24 65 i0 5 (some (al.1 67)) := ⟨_, rfl⟩
  rw [← er_30] at hU
  have hB : RB al_22 rv_29 := by rw [er_30]; exact hB.put rfl hi_a_21
  have hE := hE.putr (t := 65) (i := i0) (k := 5) (x := some (al.1 67)) (by decide)
  rw [← er_30] at hE
  have hN : NN 65 i0 [5, 3, 2, 1] rv_29 := by rw [er_30]; exact hN.put 5 (al.1 67)
  exact q_vretA C hr hlk hU hS (⟨hR, hB, hE, hN, ⟨a_7, a_21, by rw [ea_25, ea_11], by rw [ei_26, ei_20, ei_12, ei_2], by rw [er_30, er_27, er_18, er_16, er_13, er_6, er_4]⟩⟩) dX8_init_46
set_option maxHeartbeats 4000000 in
set_option maxRecDepth 100000 in
theorem c_X2_initx {l : Launch} {D : va_G} {cA : FieldType → ClassId} {sz : Nat} {al : Al} {iv : Iv} {rv : Rv} (hR : RG al iv) (hB : RB al rv) (i0 : Nat) (hi0 : i0 < al.1 88) (ti : Nat) (hti : ti < al.1 65) (d : Int32) (pre0 : 0 ≤ d.toInt ∧ d.toInt ≤ 4000) : Met l yX2_init (wd yX2_init cX2_init 3 none) (rmA 1 1 5) (PcA D cA sz al iv rv [.ref (al.2 88 i0), .ref (al.2 65 ti), .int d] (fun _ => True)) (QVA D cA sz (fun al' iv' rv' => RG al' iv' ∧ RB al' rv' ∧ EXT (nx (fun _ => 0) 89) ([], [(88, 0), (88, 1), (88, 2)]) al iv rv al' iv' rv' ∧ NN 88 i0 [2, 0] rv' ∧ (∃ a_5 : Nat, al' = (grow al 89 a_5) ∧ iv' = (clr (up3 iv 88 i0 1 d) 89 (al.1 89) 0) ∧ rv' = (up3 (clr (up3 rv 88 i0 0 (some ti)) 89 (al.1 89) none) 88 i0 2 (some (al.1 89)))))) 1 5 (Aq sz) := by
  refine mk_a (by decide) (Nat.le_of_ble_eq_true rfl) rfl ?_
  intro p e s m below meth c ls C hr hlk hnm hU hS hz _ hl
  have hx := C.1.1
  have hb := C.1.2.1
  have k5 : (5 : Int32).toInt = 5 := by decide
  obtain ⟨o, ho_o⟩ : ∃ z, al.2 88 i0 = z := ⟨_, rfl⟩
  have hi_o := hi0
  obtain ⟨oti, ho_oti⟩ : ∃ z, al.2 65 ti = z := ⟨_, rfl⟩
  have hi_oti := hti
  have hl : lv_has ls 3 [(0, .ref o), (1, .ref oti), (2, .int d)] := by rw [← ho_o, ← ho_oti]; exact hl
  have hE : EXT (fun _ => 0) ([], [(88, 0), (88, 1), (88, 2)]) al iv rv al iv rv := EXT.rf
  have hN : NN 88 i0 [] rv := NN.nil
  have hz0 := hz
  refine lv_aload_n hx hb dX2_init_0 rfl (lv_at hl 0 rfl) ?_
  refine W.objInit hx hb C.1.2.2.2.1 (C.1.2.2.2.2 _ oi_X2) (C.1.2.2.2.2 _ oi_m) (C.1.2.2.2.2 _ oi_c) rfl (by rw [C.1.2.2.1]; exact hl.1) rfl dX2_init_1 (Nat.le_of_ble_eq_true rfl) (Nat.le_of_ble_eq_true rfl) ?_
  refine W.eq (g2 := F0 m 4 ls []) rfl ?_
  refine lv_aload_n hx hb dX2_init_4 rfl (lv_at hl 0 rfl) ?_
  refine lv_aload_n hx hb dX2_init_5 rfl (lv_at hl 1 rfl) ?_
  refine W.eq (g2 := F0 m 6 ls [.ref (al.2 65 ti), .ref (al.2 88 i0)]) (by rw [ho_oti, ho_o]) ?_
  refine q_putr (t := 88) (i := i0) (k := 0) (t' := 65) (j := ti) C hU hS k_88 (hc := rfl) uwX2 tyX2 tyX2_ok nmX2 hi_o (by decide) rfl (Or.inr ⟨rfl, hnm, rfl⟩) rfl fl_X2_9 dX2_init_6 (fun _ => rfl) (fun _ => rfl) (fun H locs hU hS => ?_)
  have hz : sz ≤ H.size := Nat.le_trans hz0 hS.1
  obtain ⟨rv_1, er_2⟩ : ∃ z, z = up3 rv 88 i0 0 (some ti) := ⟨_, rfl⟩
  rw [← er_2] at hU
  have hB : RB al rv_1 := by rw [er_2]; exact hB.put rfl hi_oti
  have hE := hE.putr (t := 88) (i := i0) (k := 0) (x := some ti) (by decide)
  rw [← er_2] at hE
  have hN : NN 88 i0 [0] rv_1 := by rw [er_2]; exact hN.put 0 ti
  refine lv_aload_n hx hb dX2_init_9 rfl (lv_at hl 0 rfl) ?_
  refine lv_iload_n hx hb dX2_init_10 rfl (lv_at hl 2 rfl) ?_
  refine W.eq (g2 := F0 m 11 ls [.int d, .ref (al.2 88 i0)]) (by rw [ho_o]) ?_
  refine q_puti (t := 88) (i := i0) (k := 1) C hU hS k_88 (hc := rfl) uwX2 tyX2 tyX2_ok nmX2 hi_o (by decide) rfl (Or.inr ⟨rfl, hnm, rfl⟩) rfl fl_X2_15 dX2_init_11 rfl rfl (fun H locs hU hS => ?_)
  have hz : sz ≤ H.size := Nat.le_trans hz0 hS.1
  obtain ⟨iv_3, ei_4⟩ : ∃ z, z = up3 iv 88 i0 1 d := ⟨_, rfl⟩
  rw [← ei_4] at hU
  have hR : RG al iv_3 := by rw [ei_4]; exact hR.put (show _ ∧ _ from ⟨show (0 : Int) ≤ _ by omega, show _ ≤ (4000 : Int) by omega⟩)
  have hE := hE.puti (t := 88) (i := i0) (k := 1) (x := d) (by decide)
  rw [← ei_4] at hE
  refine lv_aload_n hx hb dX2_init_14 rfl (lv_at hl 0 rfl) ?_
  refine lv_iconst (v := 5) hx hb dX2_init_15 (by decide) ?_
  refine q_newp (t := 89) (ty := .int) C hU hS hB hz rfl (Or.inl rfl) k_89 (fun _ => rfl) ac_int (by decide) (by decide) (by decide) (Nat.le_of_ble_eq_true rfl) (Nat.le_of_ble_eq_true rfl) dX2_init_16 (fun a_5 H hU hS hz => ?_)
  have hc_12 : al.1 89 = al.1 89 := hE.1 89
  have hE9 := hE.new 89 a_5
  have hR9 := hR.new 89 a_5
  have hB9 := hB.new 89 a_5
  have hn9 := grow_new (al := al) (t := 89) (a := a_5)
  rw [hc_12] at hU hE9 hR9 hB9 hn9
  obtain ⟨al_6, ea_9⟩ : ∃ z, z = grow al 89 a_5 := ⟨_, rfl⟩
  obtain ⟨iv_7, ei_10⟩ : ∃ z, z = clr iv_3 89 (al.1 89) 0 := ⟨_, rfl⟩
  obtain ⟨rv_8, er_11⟩ : ∃ z, z = clr rv_1 89 (al.1 89) none := ⟨_, rfl⟩
  rw [← ea_9] at hU hE9 hR9 hB9 hn9
  rw [← ei_10] at hU hE9 hR9
  rw [← er_11] at hU hE9 hB9
  have ho_o : al_6.2 88 i0 = o := by rw [ea_9, grow_ad hi_o]; exact ho_o
  have hi_o : i0 < al_6.1 88 := by rw [ea_9, grow_ct]; omega
  have ho_oti : al_6.2 65 ti = oti := by rw [ea_9, grow_ad hi_oti]; exact ho_oti
  have hi_oti : ti < al_6.1 65 := by rw [ea_9, grow_ct]; omega
  have ho_a_5 : al_6.2 89 (al.1 89) = a_5 := hn9
  have hi_a_5 : (al.1 89) < al_6.1 89 := by rw [ea_9, grow_ct, hc_12]; simp
  have hN : NN 88 i0 [0] rv_8 := hN.keep (fun k => by rw [er_11]; exact clr_ne (fun z => absurd z.1 (by decide)))
  have hE := hE9
  have hR := hR9
  have hB := hB9
  refine W.widen (k := 1) (n := 5) (Nat.le_of_ble_eq_true rfl) (Nat.le_of_ble_eq_true rfl) ?_
  refine W.eq (g2 := F0 m 18 ls [.ref (al_6.2 89 (al.1 89)), .ref (al_6.2 88 i0)]) (by rw [ho_a_5, ho_o]) ?_
  refine q_putr (t := 88) (i := i0) (k := 2) (t' := 89) (j := (al.1 89)) C hU hS k_88 (hc := rfl) uwX2 tyX2 tyX2_ok nmX2 hi_o (by decide) rfl (Or.inr ⟨rfl, hnm, rfl⟩) rfl fl_X2_19 dX2_init_18 (fun _ => rfl) (fun _ => rfl) (fun H locs hU hS => ?_)
  have hz : sz ≤ H.size := Nat.le_trans hz0 hS.1
  obtain ⟨rv_13, er_14⟩ : ∃ z, z = up3 rv_8 88 i0 2 (some (al.1 89)) := ⟨_, rfl⟩
  rw [← er_14] at hU
  have hB : RB al_6 rv_13 := by rw [er_14]; exact hB.put rfl hi_a_5
  have hE := hE.putr (t := 88) (i := i0) (k := 2) (x := some (al.1 89)) (by decide)
  rw [← er_14] at hE
  have hN : NN 88 i0 [2, 0] rv_13 := by rw [er_14]; exact hN.put 2 (al.1 89)
  exact q_vretA C hr hlk hU hS (⟨hR, hB, hE, hN, ⟨a_5, by rw [ea_9], by rw [ei_10, ei_4], by rw [er_14, er_11, er_2]⟩⟩) dX2_init_21
