set_option maxHeartbeats 4000000 in
set_option maxRecDepth 100000 in
theorem c_X12_days {l : Launch} {D : va_G} {cA : FieldType → ClassId} {sz : Nat} {al : Al} {iv : Iv} {rv : Rv} (hG : GI al iv rv) (n : Int32) : Met l yX12_days (wd yX12_days cX12_days 2 (some .int)) (rm 1) (PcW D cA sz al iv rv [.ref (al.2 0 0), .int n]) (QI D cA sz al (fI al ([16], [(0, 0)]) iv rv (fun r iv' rv' => True))) 0 0 (Aq sz) := by
  refine mk_i (by decide) (Nat.le_of_ble_eq_true rfl) rfl ?_
  intro p e s m args below meth c ls Q H locs C hU hS hl hret
  have hx := C.1.1
  have hb := C.1.2.1
  have hl : lv_has ls 2 [(0, .ref (al.2 0 0)), (1, .int n)] := hl
  have hG0 := hG
  have h6 := le6 hG
  have h20 := le20 hG
  have h41 := le41 hG
  have hF1 : FR ([16], [(0, 0)]) iv iv := FR.rf
  have hF2 : FR ([16], [(0, 0)]) rv rv := FR.rf
  have km6 : ((-6) : Int32).toInt = -6 := by decide
  have km4 : ((-4) : Int32).toInt = -4 := by decide
  have k1 : (1 : Int32).toInt = 1 := by decide
  have k4000 : (4000 : Int32).toInt = 4000 := by decide
  refine lv_iload_n hx hb dX12_days_0 rfl (lv_at hl 1 rfl) ?_
  refine lv_iconst (v := 1) hx hb dX12_days_1 (by decide) ?_
  refine b_icmp_ge (tgt := 12) hx hb dX12_days_2 (by decide) (fun c_1 => ?_) (fun c_1 => ?_)
  ·
    refine lv_iload_n hx hb dX12_days_12 rfl (lv_at hl 1 rfl) ?_
    refine lv_sipush (v := 4000) hx hb dX12_days_13 (by decide) ?_
    refine lv_aload_n hx hb dX12_days_16 rfl (lv_at hl 0 rfl) ?_
    refine g_0_0 C hU hG (h1_0 hG) fl_X12_168 dX12_days_17 (fun x_2 e_3 le_3 ue_3 => ?_)
    have te_3 := congrArg Int32.toInt e_3
    refine lv_isub hx hb dX12_days_20 ?_
    refine lv_topi (fun x_4 e_5 => ?_)
    have te_5 : x_4.toInt = (4000 : Int32).toInt - (x_2 : Int32).toInt := by rw [e_5]; exact fb_subI (by omega) (by omega)
    refine b_icmp_le (tgt := 31) hx hb dX12_days_21 (by decide) (fun c_6 => ?_) (fun c_6 => ?_)
    ·
      refine lv_aload_n hx hb dX12_days_31 rfl (lv_at hl 0 rfl) ?_
      refine lv_dup hx hb dX12_days_32 rfl ?_
      refine g_0_0 C hU hG (h1_0 hG) fl_X12_168 dX12_days_33 (fun x_7 e_8 le_8 ue_8 => ?_)
      have te_8 := congrArg Int32.toInt e_8
      refine lv_iload_n hx hb dX12_days_36 rfl (lv_at hl 1 rfl) ?_
      refine lv_iadd hx hb dX12_days_37 ?_
      refine lv_topi (fun x_9 e_10 => ?_)
      have te_10 : x_9.toInt = (x_7 : Int32).toInt + (n : Int32).toInt := by rw [e_10]; exact fb_addI (by omega) (by omega)
      refine p_0_0 C hU hS (h1_0 hG) fl_X12_168 dX12_days_38 (fun iv_11 H locs ei_12 hU hS => ?_)
      have hG : GI al iv_11 rv := by rw [ei_12]; exact hG.puti (show _ ∧ _ from ⟨show (0 : Int) ≤ _ by omega, show _ ≤ (4000 : Int) by omega⟩) (nsF (by decide))
      have hF1 : FR ([16], [(0, 0)]) iv iv_11 := by rw [ei_12]; exact hF1.put (by decide)
      refine lv_aload_n hx hb dX12_days_41 rfl (lv_at hl 0 rfl) ?_
      refine g_0_0 C hU hG (h1_0 hG) fl_X12_168 dX12_days_42 (fun x_13 e_14 le_14 ue_14 => ?_)
      have te_14 := congrArg Int32.toInt e_14
      exact hret (⟨hG, hF1, hF2, trivial⟩) hU hS dX12_days_45
    ·
      refine lv_aload_n hx hb dX12_days_24 rfl (lv_at hl 0 rfl) ?_
      refine lv_bipush (v := (-6)) hx hb dX12_days_25 (by decide) ?_
      refine q_fi (q_runV (t := 0) (i := 0) (As := [.int (-6)]) (rest := []) C hU (c_X12_refuse hG (-6) (by omega)) vm_X12_refuse ml_X12_164 k_0.1 (hc := rfl) rfl (h1_0 hG) hl.1 rfl rfl (Nat.le_of_ble_eq_true rfl) dX12_days_27 rfl rfl ⟨Nat.le_of_ble_eq_true rfl, Nat.le_of_ble_eq_true rfl⟩ ⟨Nat.le_refl _, Nat.le_refl _⟩) hS (fun x_20 iv_16 rv_17 H locs hG fa_18 fb_19 hp_15 hU hS => ?_)
      have hF1 := hF1.tr (m := ([16], [(0, 0)])) fa_18 (by decide)
      have hF2 := hF2.tr (m := ([16], [(0, 0)])) fb_19 (by decide)
      exact hret (⟨hG, hF1, hF2, trivial⟩) hU hS dX12_days_30
  ·
    refine lv_aload_n hx hb dX12_days_5 rfl (lv_at hl 0 rfl) ?_
    refine lv_bipush (v := (-4)) hx hb dX12_days_6 (by decide) ?_
    refine q_fi (q_runV (t := 0) (i := 0) (As := [.int (-4)]) (rest := []) C hU (c_X12_refuse hG (-4) (by omega)) vm_X12_refuse ml_X12_164 k_0.1 (hc := rfl) rfl (h1_0 hG) hl.1 rfl rfl (Nat.le_of_ble_eq_true rfl) dX12_days_8 rfl rfl ⟨Nat.le_of_ble_eq_true rfl, Nat.le_of_ble_eq_true rfl⟩ ⟨Nat.le_refl _, Nat.le_refl _⟩) hS (fun x_26 iv_22 rv_23 H locs hG fa_24 fb_25 hp_21 hU hS => ?_)
    have hF1 := hF1.tr (m := ([16], [(0, 0)])) fa_24 (by decide)
    have hF2 := hF2.tr (m := ([16], [(0, 0)])) fb_25 (by decide)
    exact hret (⟨hG, hF1, hF2, trivial⟩) hU hS dX12_days_11
set_option maxHeartbeats 4000000 in
set_option maxRecDepth 100000 in
theorem c_X12_miles {l : Launch} {D : va_G} {cA : FieldType → ClassId} {sz : Nat} {al : Al} {iv : Iv} {rv : Rv} (hG : GI al iv rv) (a : Int32) (b : Int32) (v : Int32) : Met l yX12_miles (wd yX12_miles cX12_miles 5 (some .int)) (rm 2) (PcW D cA sz al iv rv [.ref (al.2 0 0), .int a, .int b, .int v]) (QI D cA sz al (fI al ([16, 2], []) iv rv (fun r iv' rv' => True))) 0 0 (Aq sz) := by
  refine mk_i (by decide) (Nat.le_of_ble_eq_true rfl) rfl ?_
  intro p e s m args below meth c ls Q H locs C hU hS hl hret
  have hx := C.1.1
  have hb := C.1.2.1
  have hl : lv_has ls 5 [(0, .ref (al.2 0 0)), (1, .int a), (2, .int b), (3, .int v)] := hl
  have hG0 := hG
  have h6 := le6 hG
  have h20 := le20 hG
  have h41 := le41 hG
  have hF1 : FR ([16, 2], []) iv iv := FR.rf
  have hF2 : FR ([16, 2], []) rv rv := FR.rf
  have km6 : ((-6) : Int32).toInt = -6 := by decide
  have km4 : ((-4) : Int32).toInt = -4 := by decide
  have km1 : ((-1) : Int32).toInt = -1 := by decide
  have k10 : (10 : Int32).toInt = 10 := by decide
  have k9999 : (9999 : Int32).toInt = 9999 := by decide
  refine lv_iload_n hx hb dX12_miles_0 rfl (lv_at hl 1 rfl) ?_
  refine q_pi (q_runS (As := [.int a]) (rest := []) C hU (c_X12_isPort  a ) sm_X12_isPort ml_X12_171 hl.1 rfl rfl (Nat.le_of_ble_eq_true rfl) dX12_miles_1 rfl rfl ⟨Nat.le_of_ble_eq_true rfl, Nat.le_of_ble_eq_true rfl⟩ ⟨Nat.le_refl _, Nat.le_refl _⟩) hS (fun x_2 H locs hp_1 hU hS => ?_)
  refine b_if_eq (tgt := 19) hx hb dX12_miles_4 (by decide) (fun c_3 => ?_) (fun c_3 => ?_)
  ·
    refine lv_aload_n hx hb dX12_miles_19 rfl (lv_at hl 0 rfl) ?_
    refine lv_iconst (v := (-1)) hx hb dX12_miles_20 (by decide) ?_
    refine q_fi (q_runV (t := 0) (i := 0) (As := [.int (-1)]) (rest := []) C hU (c_X12_refuse hG (-1) (by omega)) vm_X12_refuse ml_X12_164 k_0.1 (hc := rfl) rfl (h1_0 hG) hl.1 rfl rfl (Nat.le_of_ble_eq_true rfl) dX12_miles_21 rfl rfl ⟨Nat.le_of_ble_eq_true rfl, Nat.le_of_ble_eq_true rfl⟩ ⟨Nat.le_refl _, Nat.le_refl _⟩) hS (fun x_9 iv_5 rv_6 H locs hG fa_7 fb_8 hp_4 hU hS => ?_)
    have hF1 := hF1.tr (m := ([16, 2], [])) fa_7 (by decide)
    have hF2 := hF2.tr (m := ([16, 2], [])) fb_8 (by decide)
    exact hret (⟨hG, hF1, hF2, trivial⟩) hU hS dX12_miles_24
  ·
    refine lv_iload_n hx hb dX12_miles_7 rfl (lv_at hl 2 rfl) ?_
    refine q_pi (q_runS (As := [.int b]) (rest := []) C hU (c_X12_isPort  b ) sm_X12_isPort ml_X12_171 hl.1 rfl rfl (Nat.le_of_ble_eq_true rfl) dX12_miles_8 rfl rfl ⟨Nat.le_of_ble_eq_true rfl, Nat.le_of_ble_eq_true rfl⟩ ⟨Nat.le_refl _, Nat.le_refl _⟩) hS (fun x_11 H locs hp_10 hU hS => ?_)
    refine b_if_eq (tgt := 19) hx hb dX12_miles_11 (by decide) (fun c_12 => ?_) (fun c_12 => ?_)
    ·
      refine lv_aload_n hx hb dX12_miles_19 rfl (lv_at hl 0 rfl) ?_
      refine lv_iconst (v := (-1)) hx hb dX12_miles_20 (by decide) ?_
      refine q_fi (q_runV (t := 0) (i := 0) (As := [.int (-1)]) (rest := []) C hU (c_X12_refuse hG (-1) (by omega)) vm_X12_refuse ml_X12_164 k_0.1 (hc := rfl) rfl (h1_0 hG) hl.1 rfl rfl (Nat.le_of_ble_eq_true rfl) dX12_miles_21 rfl rfl ⟨Nat.le_of_ble_eq_true rfl, Nat.le_of_ble_eq_true rfl⟩ ⟨Nat.le_refl _, Nat.le_refl _⟩) hS (fun x_18 iv_14 rv_15 H locs hG fa_16 fb_17 hp_13 hU hS => ?_)
      have hF1 := hF1.tr (m := ([16, 2], [])) fa_16 (by decide)
      have hF2 := hF2.tr (m := ([16, 2], [])) fb_17 (by decide)
      exact hret (⟨hG, hF1, hF2, trivial⟩) hU hS dX12_miles_24
    ·
      refine lv_iload_n hx hb dX12_miles_14 rfl (lv_at hl 1 rfl) ?_
      refine lv_iload_n hx hb dX12_miles_15 rfl (lv_at hl 2 rfl) ?_
      refine b_icmp_ne (tgt := 25) hx hb dX12_miles_16 (by decide) (fun c_19 => ?_) (fun c_19 => ?_)
      ·
        refine lv_iload_n hx hb dX12_miles_25 rfl (lv_at hl 3 rfl) ?_
        refine b_if_ge (tgt := 36) hx hb dX12_miles_26 (by decide) (fun c_20 => ?_) (fun c_20 => ?_)
        ·
          refine lv_iload_n hx hb dX12_miles_36 rfl (lv_at hl 3 rfl) ?_
          refine lv_sipush (v := 9999) hx hb dX12_miles_37 (by decide) ?_
          refine b_icmp_le (tgt := 50) hx hb dX12_miles_40 (by decide) (fun c_21 => ?_) (fun c_21 => ?_)
          ·
            refine lv_aload_n hx hb dX12_miles_50 rfl (lv_at hl 0 rfl) ?_
            refine g_0_2 C hU hG (h1_0 hG) fl_X12_13 dX12_miles_51 ?_
            refine lv_bipush (v := 10) hx hb dX12_miles_54 (by decide) ?_
            refine lv_iload_n hx hb dX12_miles_56 rfl (lv_at hl 1 rfl) ?_
            refine lv_imul hx hb dX12_miles_57 ?_
            refine lv_topi (fun x_22 e_23 => ?_)
            have te_23 : x_22.toInt = 10 * (a : Int32).toInt := by rw [e_23, fb_mulI (by rw [show (10 : Int32).toInt = 10 from by decide]; omega) (by rw [show (10 : Int32).toInt = 10 from by decide]; omega), show (10 : Int32).toInt = 10 from by decide]
            refine lv_iload_n hx hb dX12_miles_58 rfl (lv_at hl 2 rfl) ?_
            refine lv_iadd hx hb dX12_miles_59 ?_
            refine lv_topi (fun x_24 e_25 => ?_)
            have te_25 : x_24.toInt = (x_22 : Int32).toInt + (b : Int32).toInt := by rw [e_25]; exact fb_addI (by omega) (by omega)
            refine a_2 C hU hG (h1_2 hG) (x := x_24) (by omega) (by omega) dX12_miles_60 (fun x_26 e_27 => ?_)
            have te_27 := congrArg Int32.toInt e_27
            refine lv_istore (lv' := [(4, .int x_26), (0, .ref (al.2 0 0)), (1, .int a), (2, .int b), (3, .int v)]) hx hb dX12_miles_61 hl (by decide) rfl (fun ls hl => ?_)
            refine lv_aload_n hx hb dX12_miles_63 rfl (lv_at hl 1 rfl) ?_
            refine g_0_2 C hU hG (h1_0 hG) fl_X12_13 dX12_miles_64 ?_
            refine lv_bipush (v := 10) hx hb dX12_miles_67 (by decide) ?_
            refine lv_iload_n hx hb dX12_miles_69 rfl (lv_at hl 2 rfl) ?_
            refine lv_imul hx hb dX12_miles_70 ?_
            refine lv_topi (fun x_28 e_29 => ?_)
            have te_29 : x_28.toInt = 10 * (a : Int32).toInt := by rw [e_29, fb_mulI (by rw [show (10 : Int32).toInt = 10 from by decide]; omega) (by rw [show (10 : Int32).toInt = 10 from by decide]; omega), show (10 : Int32).toInt = 10 from by decide]
            refine lv_iload_n hx hb dX12_miles_71 rfl (lv_at hl 3 rfl) ?_
            refine lv_iadd hx hb dX12_miles_72 ?_
            refine lv_topi (fun x_30 e_31 => ?_)
            have te_31 : x_30.toInt = (x_28 : Int32).toInt + (b : Int32).toInt := by rw [e_31]; exact fb_addI (by omega) (by omega)
            refine lv_iload_n hx hb dX12_miles_73 rfl (lv_at hl 4 rfl) ?_
            refine s_2 C hU hS (h1_2 hG) (x := x_30) (by omega) (by omega) dX12_miles_74 (fun iv_32 H locs ei_33 hU hS => ?_)
            have hG : GI al iv_32 rv := by rw [ei_33]; exact hG.puti (show _ ∧ _ from ⟨(fb_rng _).1, Int.le_of_lt_add_one (fb_rng _).2⟩) (nsA (by decide) _)
            have hF1 : FR ([16, 2], []) iv iv_32 := by rw [ei_33]; exact hF1.put (Or.inl (by decide))
            refine lv_aload_n hx hb dX12_miles_75 rfl (lv_at hl 1 rfl) ?_
            refine g_0_2 C hU hG (h1_0 hG) fl_X12_13 dX12_miles_76 ?_
            refine lv_bipush (v := 10) hx hb dX12_miles_79 (by decide) ?_
            refine lv_iload_n hx hb dX12_miles_81 rfl (lv_at hl 3 rfl) ?_
            refine lv_imul hx hb dX12_miles_82 ?_
            refine lv_topi (fun x_34 e_35 => ?_)
            have te_35 : x_34.toInt = 10 * (b : Int32).toInt := by rw [e_35, fb_mulI (by rw [show (10 : Int32).toInt = 10 from by decide]; omega) (by rw [show (10 : Int32).toInt = 10 from by decide]; omega), show (10 : Int32).toInt = 10 from by decide]
            refine lv_iload_n hx hb dX12_miles_83 rfl (lv_at hl 2 rfl) ?_
            refine lv_iadd hx hb dX12_miles_84 ?_
            refine lv_topi (fun x_36 e_37 => ?_)
            have te_37 : x_36.toInt = (x_34 : Int32).toInt + (a : Int32).toInt := by rw [e_37]; exact fb_addI (by omega) (by omega)
            refine lv_iload_n hx hb dX12_miles_85 rfl (lv_at hl 4 rfl) ?_
            refine s_2 C hU hS (h1_2 hG) (x := x_36) (by omega) (by omega) dX12_miles_86 (fun iv_38 H locs ei_39 hU hS => ?_)
            have hG : GI al iv_38 rv := by rw [ei_39]; exact hG.puti (show _ ∧ _ from ⟨(fb_rng _).1, Int.le_of_lt_add_one (fb_rng _).2⟩) (nsA (by decide) _)
            have hF1 : FR ([16, 2], []) iv iv_38 := by rw [ei_39]; exact hF1.put (Or.inl (by decide))
            refine lv_iload hx hb dX12_miles_87 (lv_at hl 0 rfl) ?_
            exact hret (⟨hG, hF1, hF2, trivial⟩) hU hS dX12_miles_89
          ·
            refine lv_aload_n hx hb dX12_miles_43 rfl (lv_at hl 0 rfl) ?_
            refine lv_bipush (v := (-6)) hx hb dX12_miles_44 (by decide) ?_
            refine q_fi (q_runV (t := 0) (i := 0) (As := [.int (-6)]) (rest := []) C hU (c_X12_refuse hG (-6) (by omega)) vm_X12_refuse ml_X12_164 k_0.1 (hc := rfl) rfl (h1_0 hG) hl.1 rfl rfl (Nat.le_of_ble_eq_true rfl) dX12_miles_46 rfl rfl ⟨Nat.le_of_ble_eq_true rfl, Nat.le_of_ble_eq_true rfl⟩ ⟨Nat.le_refl _, Nat.le_refl _⟩) hS (fun x_45 iv_41 rv_42 H locs hG fa_43 fb_44 hp_40 hU hS => ?_)
            have hF1 := hF1.tr (m := ([16, 2], [])) fa_43 (by decide)
            have hF2 := hF2.tr (m := ([16, 2], [])) fb_44 (by decide)
            exact hret (⟨hG, hF1, hF2, trivial⟩) hU hS dX12_miles_49
        ·
          refine lv_aload_n hx hb dX12_miles_29 rfl (lv_at hl 0 rfl) ?_
          refine lv_bipush (v := (-4)) hx hb dX12_miles_30 (by decide) ?_
          refine q_fi (q_runV (t := 0) (i := 0) (As := [.int (-4)]) (rest := []) C hU (c_X12_refuse hG (-4) (by omega)) vm_X12_refuse ml_X12_164 k_0.1 (hc := rfl) rfl (h1_0 hG) hl.1 rfl rfl (Nat.le_of_ble_eq_true rfl) dX12_miles_32 rfl rfl ⟨Nat.le_of_ble_eq_true rfl, Nat.le_of_ble_eq_true rfl⟩ ⟨Nat.le_refl _, Nat.le_refl _⟩) hS (fun x_51 iv_47 rv_48 H locs hG fa_49 fb_50 hp_46 hU hS => ?_)
          have hF1 := hF1.tr (m := ([16, 2], [])) fa_49 (by decide)
          have hF2 := hF2.tr (m := ([16, 2], [])) fb_50 (by decide)
          exact hret (⟨hG, hF1, hF2, trivial⟩) hU hS dX12_miles_35
      ·
        refine lv_aload_n hx hb dX12_miles_19 rfl (lv_at hl 0 rfl) ?_
        refine lv_iconst (v := (-1)) hx hb dX12_miles_20 (by decide) ?_
        refine q_fi (q_runV (t := 0) (i := 0) (As := [.int (-1)]) (rest := []) C hU (c_X12_refuse hG (-1) (by omega)) vm_X12_refuse ml_X12_164 k_0.1 (hc := rfl) rfl (h1_0 hG) hl.1 rfl rfl (Nat.le_of_ble_eq_true rfl) dX12_miles_21 rfl rfl ⟨Nat.le_of_ble_eq_true rfl, Nat.le_of_ble_eq_true rfl⟩ ⟨Nat.le_refl _, Nat.le_refl _⟩) hS (fun x_57 iv_53 rv_54 H locs hG fa_55 fb_56 hp_52 hU hS => ?_)
        have hF1 := hF1.tr (m := ([16, 2], [])) fa_55 (by decide)
        have hF2 := hF2.tr (m := ([16, 2], [])) fb_56 (by decide)
        exact hret (⟨hG, hF1, hF2, trivial⟩) hU hS dX12_miles_24
set_option maxHeartbeats 4000000 in
set_option maxRecDepth 100000 in
theorem c_X12_seen {l : Launch} {D : va_G} {cA : FieldType → ClassId} {sz : Nat} {al : Al} {iv : Iv} {rv : Rv} (hG : GI al iv rv) (a : Int32) (b : Int32) (by_ : Int32) : Met l yX12_seen (wd yX12_seen cX12_seen 9 (some .int)) (rm 2) (PcW D cA sz al iv rv [.ref (al.2 0 0), .int a, .int b, .int by_]) (QI D cA sz al (fI al ([16, 4, 3], [(0, 5)]) iv rv (fun r iv' rv' => True))) 0 0 (Aq sz) := by
  refine mk_i (by decide) (Nat.le_of_ble_eq_true rfl) rfl ?_
  intro p e s m args below meth c ls Q H locs C hU hS hl hret
  have hx := C.1.1
  have hb := C.1.2.1
  have hl : lv_has ls 9 [(0, .ref (al.2 0 0)), (1, .int a), (2, .int b), (3, .int by_)] := hl
  have hG0 := hG
  have h6 := le6 hG
  have h20 := le20 hG
  have h41 := le41 hG
  have hF1 : FR ([16, 4, 3], [(0, 5)]) iv iv := FR.rf
  have hF2 : FR ([16, 4, 3], [(0, 5)]) rv rv := FR.rf
  have km600 : ((-600) : Int32).toInt = -600 := by decide
  have km6 : ((-6) : Int32).toInt = -6 := by decide
  have km4 : ((-4) : Int32).toInt = -4 := by decide
  have km1 : ((-1) : Int32).toInt = -1 := by decide
  have k0 : (0 : Int32).toInt = 0 := by decide
  have k1 : (1 : Int32).toInt = 1 := by decide
  have k10 : (10 : Int32).toInt = 10 := by decide
  have k600 : (600 : Int32).toInt = 600 := by decide
  refine lv_iload_n hx hb dX12_seen_0 rfl (lv_at hl 1 rfl) ?_
  refine q_pi (q_runS (As := [.int a]) (rest := []) C hU (c_X12_isPort  a ) sm_X12_isPort ml_X12_171 hl.1 rfl rfl (Nat.le_of_ble_eq_true rfl) dX12_seen_1 rfl rfl ⟨Nat.le_of_ble_eq_true rfl, Nat.le_of_ble_eq_true rfl⟩ ⟨Nat.le_refl _, Nat.le_refl _⟩) hS (fun x_2 H locs hp_1 hU hS => ?_)
  refine b_if_eq (tgt := 19) hx hb dX12_seen_4 (by decide) (fun c_3 => ?_) (fun c_3 => ?_)
  ·
    refine lv_aload_n hx hb dX12_seen_19 rfl (lv_at hl 0 rfl) ?_
    refine lv_iconst (v := (-1)) hx hb dX12_seen_20 (by decide) ?_
    refine q_fi (q_runV (t := 0) (i := 0) (As := [.int (-1)]) (rest := []) C hU (c_X12_refuse hG (-1) (by omega)) vm_X12_refuse ml_X12_164 k_0.1 (hc := rfl) rfl (h1_0 hG) hl.1 rfl rfl (Nat.le_of_ble_eq_true rfl) dX12_seen_21 rfl rfl ⟨Nat.le_of_ble_eq_true rfl, Nat.le_of_ble_eq_true rfl⟩ ⟨Nat.le_refl _, Nat.le_refl _⟩) hS (fun x_9 iv_5 rv_6 H locs hG fa_7 fb_8 hp_4 hU hS => ?_)
    have hF1 := hF1.tr (m := ([16, 4, 3], [(0, 5)])) fa_7 (by decide)
    have hF2 := hF2.tr (m := ([16, 4, 3], [(0, 5)])) fb_8 (by decide)
    exact hret (⟨hG, hF1, hF2, trivial⟩) hU hS dX12_seen_24
  ·
    refine lv_iload_n hx hb dX12_seen_7 rfl (lv_at hl 2 rfl) ?_
    refine q_pi (q_runS (As := [.int b]) (rest := []) C hU (c_X12_isPort  b ) sm_X12_isPort ml_X12_171 hl.1 rfl rfl (Nat.le_of_ble_eq_true rfl) dX12_seen_8 rfl rfl ⟨Nat.le_of_ble_eq_true rfl, Nat.le_of_ble_eq_true rfl⟩ ⟨Nat.le_refl _, Nat.le_refl _⟩) hS (fun x_11 H locs hp_10 hU hS => ?_)
    refine b_if_eq (tgt := 19) hx hb dX12_seen_11 (by decide) (fun c_12 => ?_) (fun c_12 => ?_)
    ·
      refine lv_aload_n hx hb dX12_seen_19 rfl (lv_at hl 0 rfl) ?_
      refine lv_iconst (v := (-1)) hx hb dX12_seen_20 (by decide) ?_
      refine q_fi (q_runV (t := 0) (i := 0) (As := [.int (-1)]) (rest := []) C hU (c_X12_refuse hG (-1) (by omega)) vm_X12_refuse ml_X12_164 k_0.1 (hc := rfl) rfl (h1_0 hG) hl.1 rfl rfl (Nat.le_of_ble_eq_true rfl) dX12_seen_21 rfl rfl ⟨Nat.le_of_ble_eq_true rfl, Nat.le_of_ble_eq_true rfl⟩ ⟨Nat.le_refl _, Nat.le_refl _⟩) hS (fun x_18 iv_14 rv_15 H locs hG fa_16 fb_17 hp_13 hU hS => ?_)
      have hF1 := hF1.tr (m := ([16, 4, 3], [(0, 5)])) fa_16 (by decide)
      have hF2 := hF2.tr (m := ([16, 4, 3], [(0, 5)])) fb_17 (by decide)
      exact hret (⟨hG, hF1, hF2, trivial⟩) hU hS dX12_seen_24
    ·
      refine lv_iload_n hx hb dX12_seen_14 rfl (lv_at hl 1 rfl) ?_
      refine lv_iload_n hx hb dX12_seen_15 rfl (lv_at hl 2 rfl) ?_
      refine b_icmp_ne (tgt := 25) hx hb dX12_seen_16 (by decide) (fun c_19 => ?_) (fun c_19 => ?_)
      ·
        refine lv_iload_n hx hb dX12_seen_25 rfl (lv_at hl 3 rfl) ?_
        refine lv_sipush (v := (-600)) hx hb dX12_seen_26 (by decide) ?_
        refine b_icmp_ge (tgt := 39) hx hb dX12_seen_29 (by decide) (fun c_20 => ?_) (fun c_20 => ?_)
        ·
          refine lv_iload_n hx hb dX12_seen_39 rfl (lv_at hl 3 rfl) ?_
          refine lv_sipush (v := 600) hx hb dX12_seen_40 (by decide) ?_
          refine b_icmp_le (tgt := 53) hx hb dX12_seen_43 (by decide) (fun c_21 => ?_) (fun c_21 => ?_)
          ·
            refine lv_aload_n hx hb dX12_seen_53 rfl (lv_at hl 0 rfl) ?_
            refine g_0_3 C hU hG (h1_0 hG) fl_X12_16 dX12_seen_54 ?_
            refine lv_iload_n hx hb dX12_seen_57 rfl (lv_at hl 1 rfl) ?_
            refine a_3 C hU hG (h1_3 hG) (x := a) (by omega) (by omega) dX12_seen_58 (fun x_22 e_23 le_23 ue_23 => ?_)
            have te_23 := congrArg Int32.toInt e_23
            refine lv_aload_n hx hb dX12_seen_59 rfl (lv_at hl 0 rfl) ?_
            refine g_0_3 C hU hG (h1_0 hG) fl_X12_16 dX12_seen_60 ?_
            refine lv_iload_n hx hb dX12_seen_63 rfl (lv_at hl 2 rfl) ?_
            refine a_3 C hU hG (h1_3 hG) (x := b) (by omega) (by omega) dX12_seen_64 (fun x_24 e_25 le_25 ue_25 => ?_)
            have te_25 := congrArg Int32.toInt e_25
            refine b_icmp_ne (tgt := 122) hx hb dX12_seen_65 (by decide) (fun c_26 => ?_) (fun c_26 => ?_)
            ·
              refine lv_iload_n hx hb dX12_seen_122 rfl (lv_at hl 3 rfl) ?_
              refine lv_aload_n hx hb dX12_seen_123 rfl (lv_at hl 0 rfl) ?_
              refine g_0_4 C hU hG (h1_0 hG) fl_X12_19 dX12_seen_124 ?_
              refine lv_iload_n hx hb dX12_seen_127 rfl (lv_at hl 1 rfl) ?_
              refine a_4 C hU hG (h1_4 hG) (x := a) (by omega) (by omega) dX12_seen_128 (fun x_27 e_28 => ?_)
              have te_28 := congrArg Int32.toInt e_28
              refine lv_isub hx hb dX12_seen_129 ?_
              refine lv_topi (fun x_29 e_30 => ?_)
              refine lv_aload_n hx hb dX12_seen_130 rfl (lv_at hl 0 rfl) ?_
              refine g_0_4 C hU hG (h1_0 hG) fl_X12_19 dX12_seen_131 ?_
              refine lv_iload_n hx hb dX12_seen_134 rfl (lv_at hl 2 rfl) ?_
              refine a_4 C hU hG (h1_4 hG) (x := b) (by omega) (by omega) dX12_seen_135 (fun x_31 e_32 => ?_)
              have te_32 := congrArg Int32.toInt e_32
              refine lv_iadd hx hb dX12_seen_136 ?_
              refine lv_topi (fun x_33 e_34 => ?_)
              refine lv_istore (lv' := [(4, .int x_33), (0, .ref (al.2 0 0)), (1, .int a), (2, .int b), (3, .int by_)]) hx hb dX12_seen_137 hl (by decide) rfl (fun ls hl => ?_)
              refine lv_aload_n hx hb dX12_seen_139 rfl (lv_at hl 1 rfl) ?_
              refine g_0_3 C hU hG (h1_0 hG) fl_X12_16 dX12_seen_140 ?_
              refine lv_iload_n hx hb dX12_seen_143 rfl (lv_at hl 2 rfl) ?_
              refine a_3 C hU hG (h1_3 hG) (x := a) (by omega) (by omega) dX12_seen_144 (fun x_35 e_36 le_36 ue_36 => ?_)
              have te_36 := congrArg Int32.toInt e_36
              refine lv_istore (lv' := [(5, .int x_35), (4, .int x_33), (0, .ref (al.2 0 0)), (1, .int a), (2, .int b), (3, .int by_)]) hx hb dX12_seen_145 hl (by decide) rfl (fun ls hl => ?_)
              refine lv_aload_n hx hb dX12_seen_147 rfl (lv_at hl 2 rfl) ?_
              refine g_0_3 C hU hG (h1_0 hG) fl_X12_16 dX12_seen_148 ?_
              refine lv_iload_n hx hb dX12_seen_151 rfl (lv_at hl 4 rfl) ?_
              refine a_3 C hU hG (h1_3 hG) (x := b) (by omega) (by omega) dX12_seen_152 (fun x_37 e_38 le_38 ue_38 => ?_)
              have te_38 := congrArg Int32.toInt e_38
              refine lv_istore (lv' := [(6, .int x_37), (5, .int x_35), (4, .int x_33), (0, .ref (al.2 0 0)), (1, .int a), (2, .int b), (3, .int by_)]) hx hb dX12_seen_153 hl (by decide) rfl (fun ls hl => ?_)
              refine lv_iload hx hb dX12_seen_155 (lv_at hl 1 rfl) ?_
              refine lv_iload hx hb dX12_seen_157 (lv_at hl 0 rfl) ?_
              have J_169 : ∀ (v_39 : Int32) (ls : Array Slot), lv_has ls 9 [(0, .ref (al.2 0 0)), (4, .int x_33), (5, .int x_35), (6, .int x_37)] → (0 ≤ v_39.toInt ∧ v_39.toInt ≤ 9) → W p l e (rm 2) s m args below meth c H locs 0 0 Q (F0 m 169 ls [.int v_39]) := by
                intro v_39 ls hl i169_0
                refine lv_istore (lv' := [(7, .int v_39), (0, .ref (al.2 0 0)), (4, .int x_33), (5, .int x_35), (6, .int x_37)]) hx hb dX12_seen_169 hl (by decide) rfl (fun ls hl => ?_)
                refine lv_iconst (v := 0) hx hb dX12_seen_171 (by decide) ?_
                refine lv_istore (lv' := [(8, .int 0), (7, .int v_39), (0, .ref (al.2 0 0)), (4, .int x_33), (5, .int x_35), (6, .int x_37)]) hx hb dX12_seen_172 hl (by decide) rfl (fun ls hl => ?_)
                have J_174 : ∀ (n_174 : Nat) (l8_40 : Int32) (iv_41 : Iv) (rv_42 : Rv) (H : Heap) (locs : List Loc) (ls : Array Slot), lv_has ls 9 [(0, .ref (al.2 0 0)), (4, .int x_33), (5, .int x_35), (6, .int x_37), (7, .int v_39), (8, .int l8_40)] → GI al iv_41 rv_42 → FR ([16, 4, 3], [(0, 5)]) iv iv_41 → FR ([16, 4, 3], [(0, 5)]) rv rv_42 → UW D cA sz al iv_41 rv_42 H → va_S (Aq sz) s.heap H locs → (0 ≤ l8_40.toInt ∧ l8_40.toInt ≤ 10) → (10 - l8_40.toInt).toNat < n_174 → W p l e (rm 2) s m args below meth c H locs 0 0 Q (F0 m 174 ls []) := by
                  intro n_174
                  induction n_174 with
                  | zero =>
                    intro l8_40 iv_41 rv_42 H locs ls hl hG hF1 hF2 hU hS i174_0 hm_174
                    exact absurd hm_174 (Nat.not_lt_zero _)
                  | succ n_174 ih_174 =>
                    intro l8_40 iv_41 rv_42 H locs ls hl hG hF1 hF2 hU hS i174_0 hm_174
                    refine lv_iload hx hb dX12_seen_174 (lv_at hl 5 rfl) ?_
                    refine lv_bipush (v := 10) hx hb dX12_seen_176 (by decide) ?_
                    refine b_icmp_ge (tgt := 270) hx hb dX12_seen_178 (by decide) (fun c_43 => ?_) (fun c_43 => ?_)
                    ·
                      refine lv_iconst (v := 1) hx hb dX12_seen_270 (by decide) ?_
                      exact hret (⟨hG, hF1, hF2, trivial⟩) hU hS dX12_seen_271
                    ·
                      refine lv_iload hx hb dX12_seen_181 (lv_at hl 4 rfl) ?_
                      refine lv_iload hx hb dX12_seen_183 (lv_at hl 2 rfl) ?_
                      have J_264 : ∀ (iv_44 : Iv) (rv_45 : Rv) (H : Heap) (locs : List Loc) (ls : Array Slot), lv_has ls 9 [(0, .ref (al.2 0 0)), (4, .int x_33), (5, .int x_35), (6, .int x_37), (7, .int v_39), (8, .int l8_40)] → GI al iv_44 rv_45 → FR ([16, 4, 3], [(0, 5)]) iv iv_44 → FR ([16, 4, 3], [(0, 5)]) rv rv_45 → UW D cA sz al iv_44 rv_45 H → va_S (Aq sz) s.heap H locs → W p l e (rm 2) s m args below meth c H locs 0 0 Q (F0 m 264 ls []) := by
                        intro iv_44 rv_45 H locs ls hl hG hF1 hF2 hU hS
                        obtain ⟨x_46, e_47⟩ : ∃ y : Int32, y = l8_40 + 1 := ⟨_, rfl⟩
                        have te_47 : x_46.toInt = (l8_40 : Int32).toInt + (1 : Int32).toInt := by rw [e_47]; exact fb_addI (by omega) (by omega)
                        refine lv_iinc (v := x_46) (lv' := [(8, .int x_46), (0, .ref (al.2 0 0)), (4, .int x_33), (5, .int x_35), (6, .int x_37), (7, .int v_39)]) hx hb dX12_seen_264 hl (k := 5) rfl (by rw [e_47]; rfl) (by decide) rfl (fun ls hl => ?_)
                        refine lv_goto (tgt := 174) hx hb dX12_seen_267 (by decide) ?_
                        exact ih_174 x_46 _ _ _ _ _ (lv_sub hl [1, 2, 3, 4, 5, 0] rfl) hG hF1 hF2 hU hS (by omega) (by omega)
                      have J_224 : ∀ (ls : Array Slot), lv_has ls 9 [(0, .ref (al.2 0 0)), (4, .int x_33), (5, .int x_35), (6, .int x_37), (7, .int v_39), (8, .int l8_40)] → W p l e (rm 2) s m args below meth c H locs 0 0 Q (F0 m 224 ls []) := by
                        intro ls hl
                        refine lv_iload hx hb dX12_seen_224 (lv_at hl 4 rfl) ?_
                        refine lv_iload hx hb dX12_seen_226 (lv_at hl 3 rfl) ?_
                        refine b_icmp_ne (tgt := 264) hx hb dX12_seen_228 (by decide) (fun c_48 => ?_) (fun c_48 => ?_)
                        ·
                          exact J_264 _ _ _ _ _ (lv_sub hl [0, 1, 2, 3, 4, 5] rfl) hG hF1 hF2 hU hS
                        ·
                          refine lv_aload_n hx hb dX12_seen_231 rfl (lv_at hl 0 rfl) ?_
                          refine g_0_3 C hU hG (h1_0 hG) fl_X12_16 dX12_seen_232 ?_
                          refine lv_iload hx hb dX12_seen_235 (lv_at hl 5 rfl) ?_
                          refine a_3 C hU hG (h1_3 hG) (x := l8_40) (by omega) (by omega) dX12_seen_237 (fun x_49 e_50 le_50 ue_50 => ?_)
                          have te_50 := congrArg Int32.toInt e_50
                          refine lv_iload hx hb dX12_seen_238 (lv_at hl 2 rfl) ?_
                          refine b_icmp_ne (tgt := 264) hx hb dX12_seen_240 (by decide) (fun c_51 => ?_) (fun c_51 => ?_)
                          ·
                            exact J_264 _ _ _ _ _ (lv_sub hl [0, 1, 2, 3, 4, 5] rfl) hG hF1 hF2 hU hS
                          ·
                            refine lv_aload_n hx hb dX12_seen_243 rfl (lv_at hl 0 rfl) ?_
                            refine g_0_4 C hU hG (h1_0 hG) fl_X12_19 dX12_seen_244 ?_
                            refine lv_iload hx hb dX12_seen_247 (lv_at hl 5 rfl) ?_
                            refine lv_dup2_11 hx hb dX12_seen_249 rfl rfl ?_
                            refine a_4 C hU hG (h1_4 hG) (x := l8_40) (by omega) (by omega) dX12_seen_250 (fun x_52 e_53 => ?_)
                            have te_53 := congrArg Int32.toInt e_53
                            refine lv_iload hx hb dX12_seen_251 (lv_at hl 1 rfl) ?_
                            refine lv_iadd hx hb dX12_seen_253 ?_
                            refine lv_topi (fun x_54 e_55 => ?_)
                            refine s_4 C hU hS (h1_4 hG) (x := l8_40) (by omega) (by omega) dX12_seen_254 (fun iv_56 H locs ei_57 hU hS => ?_)
                            have hG : GI al iv_56 rv_42 := by rw [ei_57]; exact hG.puti (show _ ∧ _ from ⟨(fb_rng _).1, Int.le_of_lt_add_one (fb_rng _).2⟩) (nsA (by decide) _)
                            have hF1 : FR ([16, 4, 3], [(0, 5)]) iv iv_56 := by rw [ei_57]; exact hF1.put (Or.inl (by decide))
                            have kf_58 := congrArg Int32.toInt (show iv_56 0 0 5 = iv_41 0 0 5 by rw [ei_57]; exact up3_ne (fun z => absurd z.1 (by decide)))
                            refine lv_aload_n hx hb dX12_seen_255 rfl (lv_at hl 0 rfl) ?_
                            refine g_0_3 C hU hG (h1_0 hG) fl_X12_16 dX12_seen_256 ?_
                            refine lv_iload hx hb dX12_seen_259 (lv_at hl 5 rfl) ?_
                            refine lv_iload hx hb dX12_seen_261 (lv_at hl 4 rfl) ?_
                            refine s_3 C hU hS (h1_3 hG) (x := l8_40) (by omega) (by omega) dX12_seen_263 (fun iv_59 H locs ei_60 hU hS => ?_)
                            have hG : GI al iv_59 rv_42 := by rw [ei_60]; exact hG.puti (show _ ∧ _ from ⟨show (0 : Int) ≤ _ by omega, show _ ≤ (9 : Int) by omega⟩) (nsA (by decide) _)
                            have hF1 : FR ([16, 4, 3], [(0, 5)]) iv iv_59 := by rw [ei_60]; exact hF1.put (Or.inl (by decide))
                            have kf_61 := congrArg Int32.toInt (show iv_59 0 0 5 = iv_56 0 0 5 by rw [ei_60]; exact up3_ne (fun z => absurd z.1 (by decide)))
                            exact J_264 _ _ _ _ _ (lv_sub hl [0, 1, 2, 3, 4, 5] rfl) hG hF1 hF2 hU hS
                      refine b_icmp_ne (tgt := 224) hx hb dX12_seen_185 (by decide) (fun c_62 => ?_) (fun c_62 => ?_)
                      ·
                        exact J_224 _ (lv_sub hl [0, 1, 2, 3, 4, 5] rfl)
                      ·
                        refine lv_aload_n hx hb dX12_seen_188 rfl (lv_at hl 0 rfl) ?_
                        refine g_0_3 C hU hG (h1_0 hG) fl_X12_16 dX12_seen_189 ?_
                        refine lv_iload hx hb dX12_seen_192 (lv_at hl 5 rfl) ?_
                        refine a_3 C hU hG (h1_3 hG) (x := l8_40) (by omega) (by omega) dX12_seen_194 (fun x_63 e_64 le_64 ue_64 => ?_)
                        have te_64 := congrArg Int32.toInt e_64
                        refine lv_iload hx hb dX12_seen_195 (lv_at hl 3 rfl) ?_
                        refine b_icmp_ne (tgt := 224) hx hb dX12_seen_197 (by decide) (fun c_65 => ?_) (fun c_65 => ?_)
                        ·
                          exact J_224 _ (lv_sub hl [0, 1, 2, 3, 4, 5] rfl)
                        ·
                          refine lv_aload_n hx hb dX12_seen_200 rfl (lv_at hl 0 rfl) ?_
                          refine g_0_4 C hU hG (h1_0 hG) fl_X12_19 dX12_seen_201 ?_
                          refine lv_iload hx hb dX12_seen_204 (lv_at hl 5 rfl) ?_
                          refine lv_dup2_11 hx hb dX12_seen_206 rfl rfl ?_
                          refine a_4 C hU hG (h1_4 hG) (x := l8_40) (by omega) (by omega) dX12_seen_207 (fun x_66 e_67 => ?_)
                          have te_67 := congrArg Int32.toInt e_67
                          refine lv_iload hx hb dX12_seen_208 (lv_at hl 1 rfl) ?_
                          refine lv_isub hx hb dX12_seen_210 ?_
                          refine lv_topi (fun x_68 e_69 => ?_)
                          refine s_4 C hU hS (h1_4 hG) (x := l8_40) (by omega) (by omega) dX12_seen_211 (fun iv_70 H locs ei_71 hU hS => ?_)
                          have hG : GI al iv_70 rv_42 := by rw [ei_71]; exact hG.puti (show _ ∧ _ from ⟨(fb_rng _).1, Int.le_of_lt_add_one (fb_rng _).2⟩) (nsA (by decide) _)
                          have hF1 : FR ([16, 4, 3], [(0, 5)]) iv iv_70 := by rw [ei_71]; exact hF1.put (Or.inl (by decide))
                          have kf_72 := congrArg Int32.toInt (show iv_70 0 0 5 = iv_41 0 0 5 by rw [ei_71]; exact up3_ne (fun z => absurd z.1 (by decide)))
                          refine lv_aload_n hx hb dX12_seen_212 rfl (lv_at hl 0 rfl) ?_
                          refine g_0_3 C hU hG (h1_0 hG) fl_X12_16 dX12_seen_213 ?_
                          refine lv_iload hx hb dX12_seen_216 (lv_at hl 5 rfl) ?_
                          refine lv_iload hx hb dX12_seen_218 (lv_at hl 4 rfl) ?_
                          refine s_3 C hU hS (h1_3 hG) (x := l8_40) (by omega) (by omega) dX12_seen_220 (fun iv_73 H locs ei_74 hU hS => ?_)
                          have hG : GI al iv_73 rv_42 := by rw [ei_74]; exact hG.puti (show _ ∧ _ from ⟨show (0 : Int) ≤ _ by omega, show _ ≤ (9 : Int) by omega⟩) (nsA (by decide) _)
                          have hF1 : FR ([16, 4, 3], [(0, 5)]) iv iv_73 := by rw [ei_74]; exact hF1.put (Or.inl (by decide))
                          have kf_75 := congrArg Int32.toInt (show iv_73 0 0 5 = iv_70 0 0 5 by rw [ei_74]; exact up3_ne (fun z => absurd z.1 (by decide)))
                          refine lv_goto (tgt := 264) hx hb dX12_seen_221 (by decide) ?_
                          exact J_264 _ _ _ _ _ (lv_sub hl [0, 1, 2, 3, 4, 5] rfl) hG hF1 hF2 hU hS
                exact J_174 _ 0 _ _ _ _ _ (lv_sub hl [2, 3, 4, 5, 1, 0] rfl) hG hF1 hF2 hU hS (by omega) (Nat.lt_succ_self _)
              refine b_icmp_ge (tgt := 167) hx hb dX12_seen_159 (by decide) (fun c_76 => ?_) (fun c_76 => ?_)
              ·
                refine lv_iload hx hb dX12_seen_167 (lv_at hl 0 rfl) ?_
                exact J_169 x_37 _ (lv_sub hl [3, 2, 1, 0] rfl) (by omega)
              ·
                refine lv_iload hx hb dX12_seen_162 (lv_at hl 1 rfl) ?_
                refine lv_goto (tgt := 169) hx hb dX12_seen_164 (by decide) ?_
                exact J_169 x_35 _ (lv_sub hl [3, 2, 1, 0] rfl) (by omega)
            ·
              refine lv_aload_n hx hb dX12_seen_68 rfl (lv_at hl 0 rfl) ?_
              refine g_0_4 C hU hG (h1_0 hG) fl_X12_19 dX12_seen_69 ?_
              refine lv_iload_n hx hb dX12_seen_72 rfl (lv_at hl 1 rfl) ?_
              refine a_4 C hU hG (h1_4 hG) (x := a) (by omega) (by omega) dX12_seen_73 (fun x_77 e_78 => ?_)
              have te_78 := congrArg Int32.toInt e_78
              refine lv_aload_n hx hb dX12_seen_74 rfl (lv_at hl 0 rfl) ?_
              refine g_0_4 C hU hG (h1_0 hG) fl_X12_19 dX12_seen_75 ?_
              refine lv_iload_n hx hb dX12_seen_78 rfl (lv_at hl 2 rfl) ?_
              refine a_4 C hU hG (h1_4 hG) (x := b) (by omega) (by omega) dX12_seen_79 (fun x_79 e_80 => ?_)
              have te_80 := congrArg Int32.toInt e_80
              refine lv_isub hx hb dX12_seen_80 ?_
              refine lv_topi (fun x_81 e_82 => ?_)
              refine lv_iload_n hx hb dX12_seen_81 rfl (lv_at hl 3 rfl) ?_
              have J_90 : ∀ (v_83 : Int32) (ls : Array Slot), lv_has ls 9 [(0, .ref (al.2 0 0))] → (0 ≤ v_83.toInt ∧ v_83.toInt ≤ 1) → W p l e (rm 2) s m args below meth c H locs 0 0 Q (F0 m 90 ls [.int v_83]) := by
                intro v_83 ls hl i90_0
                refine lv_istore (lv' := [(4, .int v_83), (0, .ref (al.2 0 0))]) hx hb dX12_seen_90 hl (by decide) rfl (fun ls hl => ?_)
                refine lv_aload_n hx hb dX12_seen_92 rfl (lv_at hl 1 rfl) ?_
                refine lv_dup hx hb dX12_seen_93 rfl ?_
                refine g_0_5 C hU hG (h1_0 hG) fl_X12_175 dX12_seen_94 (fun x_84 e_85 => ?_)
                have te_85 := congrArg Int32.toInt e_85
                refine lv_iload hx hb dX12_seen_97 (lv_at hl 0 rfl) ?_
                refine b_if_eq (tgt := 106) hx hb dX12_seen_99 (by decide) (fun c_86 => ?_) (fun c_86 => ?_)
                ·
                  refine lv_iconst (v := 1) hx hb dX12_seen_106 (by decide) ?_
                  refine lv_iadd hx hb dX12_seen_107 ?_
                  refine lv_topi (fun x_87 e_88 => ?_)
                  refine p_0_5 C hU hS (h1_0 hG) fl_X12_175 dX12_seen_108 (fun iv_89 H locs ei_90 hU hS => ?_)
                  have hG : GI al iv_89 rv := by rw [ei_90]; exact hG.puti (show _ ∧ _ from ⟨(fb_rng _).1, Int.le_of_lt_add_one (fb_rng _).2⟩) (nsF (by decide))
                  have hF1 : FR ([16, 4, 3], [(0, 5)]) iv iv_89 := by rw [ei_90]; exact hF1.put (by decide)
                  refine lv_iload hx hb dX12_seen_111 (lv_at hl 0 rfl) ?_
                  refine b_if_eq (tgt := 120) hx hb dX12_seen_113 (by decide) (fun c_91 => ?_) (fun c_91 => ?_)
                  ·
                    refine lv_iconst (v := 0) hx hb dX12_seen_120 (by decide) ?_
                    exact hret (⟨hG, hF1, hF2, trivial⟩) hU hS dX12_seen_121
                  ·
                    refine lv_iconst (v := 1) hx hb dX12_seen_116 (by decide) ?_
                    refine lv_goto (tgt := 121) hx hb dX12_seen_117 (by decide) ?_
                    exact hret (⟨hG, hF1, hF2, trivial⟩) hU hS dX12_seen_121
                ·
                  refine lv_iconst (v := 0) hx hb dX12_seen_102 (by decide) ?_
                  refine lv_goto (tgt := 107) hx hb dX12_seen_103 (by decide) ?_
                  refine lv_iadd hx hb dX12_seen_107 ?_
                  refine lv_topi (fun x_92 e_93 => ?_)
                  refine p_0_5 C hU hS (h1_0 hG) fl_X12_175 dX12_seen_108 (fun iv_94 H locs ei_95 hU hS => ?_)
                  have hG : GI al iv_94 rv := by rw [ei_95]; exact hG.puti (show _ ∧ _ from ⟨(fb_rng _).1, Int.le_of_lt_add_one (fb_rng _).2⟩) (nsF (by decide))
                  have hF1 : FR ([16, 4, 3], [(0, 5)]) iv iv_94 := by rw [ei_95]; exact hF1.put (by decide)
                  refine lv_iload hx hb dX12_seen_111 (lv_at hl 0 rfl) ?_
                  refine b_if_eq (tgt := 120) hx hb dX12_seen_113 (by decide) (fun c_96 => ?_) (fun c_96 => ?_)
                  ·
                    refine lv_iconst (v := 0) hx hb dX12_seen_120 (by decide) ?_
                    exact hret (⟨hG, hF1, hF2, trivial⟩) hU hS dX12_seen_121
                  ·
                    refine lv_iconst (v := 1) hx hb dX12_seen_116 (by decide) ?_
                    refine lv_goto (tgt := 121) hx hb dX12_seen_117 (by decide) ?_
                    exact hret (⟨hG, hF1, hF2, trivial⟩) hU hS dX12_seen_121
              refine b_icmp_ne (tgt := 89) hx hb dX12_seen_82 (by decide) (fun c_97 => ?_) (fun c_97 => ?_)
              ·
                refine lv_iconst (v := 0) hx hb dX12_seen_89 (by decide) ?_
                exact J_90 0 _ (lv_sub hl [0] rfl) (by omega)
              ·
                refine lv_iconst (v := 1) hx hb dX12_seen_85 (by decide) ?_
                refine lv_goto (tgt := 90) hx hb dX12_seen_86 (by decide) ?_
                exact J_90 1 _ (lv_sub hl [0] rfl) (by omega)
          ·
            refine lv_aload_n hx hb dX12_seen_46 rfl (lv_at hl 0 rfl) ?_
            refine lv_bipush (v := (-6)) hx hb dX12_seen_47 (by decide) ?_
            refine q_fi (q_runV (t := 0) (i := 0) (As := [.int (-6)]) (rest := []) C hU (c_X12_refuse hG (-6) (by omega)) vm_X12_refuse ml_X12_164 k_0.1 (hc := rfl) rfl (h1_0 hG) hl.1 rfl rfl (Nat.le_of_ble_eq_true rfl) dX12_seen_49 rfl rfl ⟨Nat.le_of_ble_eq_true rfl, Nat.le_of_ble_eq_true rfl⟩ ⟨Nat.le_refl _, Nat.le_refl _⟩) hS (fun x_103 iv_99 rv_100 H locs hG fa_101 fb_102 hp_98 hU hS => ?_)
            have hF1 := hF1.tr (m := ([16, 4, 3], [(0, 5)])) fa_101 (by decide)
            have hF2 := hF2.tr (m := ([16, 4, 3], [(0, 5)])) fb_102 (by decide)
            exact hret (⟨hG, hF1, hF2, trivial⟩) hU hS dX12_seen_52
        ·
          refine lv_aload_n hx hb dX12_seen_32 rfl (lv_at hl 0 rfl) ?_
          refine lv_bipush (v := (-4)) hx hb dX12_seen_33 (by decide) ?_
          refine q_fi (q_runV (t := 0) (i := 0) (As := [.int (-4)]) (rest := []) C hU (c_X12_refuse hG (-4) (by omega)) vm_X12_refuse ml_X12_164 k_0.1 (hc := rfl) rfl (h1_0 hG) hl.1 rfl rfl (Nat.le_of_ble_eq_true rfl) dX12_seen_35 rfl rfl ⟨Nat.le_of_ble_eq_true rfl, Nat.le_of_ble_eq_true rfl⟩ ⟨Nat.le_refl _, Nat.le_refl _⟩) hS (fun x_109 iv_105 rv_106 H locs hG fa_107 fb_108 hp_104 hU hS => ?_)
          have hF1 := hF1.tr (m := ([16, 4, 3], [(0, 5)])) fa_107 (by decide)
          have hF2 := hF2.tr (m := ([16, 4, 3], [(0, 5)])) fb_108 (by decide)
          exact hret (⟨hG, hF1, hF2, trivial⟩) hU hS dX12_seen_38
      ·
        refine lv_aload_n hx hb dX12_seen_19 rfl (lv_at hl 0 rfl) ?_
        refine lv_iconst (v := (-1)) hx hb dX12_seen_20 (by decide) ?_
        refine q_fi (q_runV (t := 0) (i := 0) (As := [.int (-1)]) (rest := []) C hU (c_X12_refuse hG (-1) (by omega)) vm_X12_refuse ml_X12_164 k_0.1 (hc := rfl) rfl (h1_0 hG) hl.1 rfl rfl (Nat.le_of_ble_eq_true rfl) dX12_seen_21 rfl rfl ⟨Nat.le_of_ble_eq_true rfl, Nat.le_of_ble_eq_true rfl⟩ ⟨Nat.le_refl _, Nat.le_refl _⟩) hS (fun x_115 iv_111 rv_112 H locs hG fa_113 fb_114 hp_110 hU hS => ?_)
        have hF1 := hF1.tr (m := ([16, 4, 3], [(0, 5)])) fa_113 (by decide)
        have hF2 := hF2.tr (m := ([16, 4, 3], [(0, 5)])) fb_114 (by decide)
        exact hret (⟨hG, hF1, hF2, trivial⟩) hU hS dX12_seen_24
set_option maxHeartbeats 4000000 in
set_option maxRecDepth 100000 in
theorem c_X12_off {l : Launch} {D : va_G} {cA : FieldType → ClassId} {sz : Nat} {al : Al} {iv : Iv} {rv : Rv} (hG : GI al iv rv) (a : Int32) : Met l yX12_off (wd yX12_off cX12_off 2 (some .int)) (rm 2) (PcW D cA sz al iv rv [.ref (al.2 0 0), .int a]) (QI D cA sz al (fI al ([16], []) iv rv (fun r iv' rv' => True))) 0 0 (Aq sz) := by
  refine mk_i (by decide) (Nat.le_of_ble_eq_true rfl) rfl ?_
  intro p e s m args below meth c ls Q H locs C hU hS hl hret
  have hx := C.1.1
  have hb := C.1.2.1
  have hl : lv_has ls 2 [(0, .ref (al.2 0 0)), (1, .int a)] := hl
  have hG0 := hG
  have h6 := le6 hG
  have h20 := le20 hG
  have h41 := le41 hG
  have hF1 : FR ([16], []) iv iv := FR.rf
  have hF2 : FR ([16], []) rv rv := FR.rf
  have km1 : ((-1) : Int32).toInt = -1 := by decide
  refine lv_iload_n hx hb dX12_off_0 rfl (lv_at hl 1 rfl) ?_
  refine q_pi (q_runS (As := [.int a]) (rest := []) C hU (c_X12_isPort  a ) sm_X12_isPort ml_X12_171 hl.1 rfl rfl (Nat.le_of_ble_eq_true rfl) dX12_off_1 rfl rfl ⟨Nat.le_of_ble_eq_true rfl, Nat.le_of_ble_eq_true rfl⟩ ⟨Nat.le_refl _, Nat.le_refl _⟩) hS (fun x_2 H locs hp_1 hU hS => ?_)
  refine b_if_eq (tgt := 16) hx hb dX12_off_4 (by decide) (fun c_3 => ?_) (fun c_3 => ?_)
  ·
    refine lv_aload_n hx hb dX12_off_16 rfl (lv_at hl 0 rfl) ?_
    refine lv_iconst (v := (-1)) hx hb dX12_off_17 (by decide) ?_
    refine q_fi (q_runV (t := 0) (i := 0) (As := [.int (-1)]) (rest := []) C hU (c_X12_refuseFar hG (-1) (by omega)) vm_X12_refuseFar ml_X12_178 k_0.1 (hc := rfl) rfl (h1_0 hG) hl.1 rfl rfl (Nat.le_of_ble_eq_true rfl) dX12_off_18 rfl rfl ⟨Nat.le_of_ble_eq_true rfl, Nat.le_of_ble_eq_true rfl⟩ ⟨Nat.le_refl _, Nat.le_refl _⟩) hS (fun x_9 iv_5 rv_6 H locs hG fa_7 fb_8 hp_4 hU hS => ?_)
    have hF1 := hF1.tr (m := ([16], [])) fa_7 (by decide)
    have hF2 := hF2.tr (m := ([16], [])) fb_8 (by decide)
    exact hret (⟨hG, hF1, hF2, trivial⟩) hU hS dX12_off_21
  ·
    refine lv_aload_n hx hb dX12_off_7 rfl (lv_at hl 0 rfl) ?_
    refine g_0_4 C hU hG (h1_0 hG) fl_X12_19 dX12_off_8 ?_
    refine lv_iload_n hx hb dX12_off_11 rfl (lv_at hl 1 rfl) ?_
    refine a_4 C hU hG (h1_4 hG) (x := a) (by omega) (by omega) dX12_off_12 (fun x_10 e_11 => ?_)
    have te_11 := congrArg Int32.toInt e_11
    refine lv_goto (tgt := 21) hx hb dX12_off_13 (by decide) ?_
    exact hret (⟨hG, hF1, hF2, trivial⟩) hU hS dX12_off_21
set_option maxHeartbeats 4000000 in
set_option maxRecDepth 100000 in
theorem c_X12_log {l : Launch} {D : va_G} {cA : FieldType → ClassId} {sz : Nat} {al : Al} {iv : Iv} {rv : Rv} (hG : GI al iv rv) (lg : Int32) (a : Int32) (b : Int32) : Met l yX12_log (wd yX12_log cX12_log 5 (some .int)) (rm 2) (PcW D cA sz al iv rv [.ref (al.2 0 0), .int lg, .int a, .int b]) (QI D cA sz al (fI al ([16, 11, 12, 13], []) iv rv (fun r iv' rv' => True))) 0 0 (Aq sz) := by
  refine mk_i (by decide) (Nat.le_of_ble_eq_true rfl) rfl ?_
  intro p e s m args below meth c ls Q H locs C hU hS hl hret
  have hx := C.1.1
  have hb := C.1.2.1
  have hl : lv_has ls 5 [(0, .ref (al.2 0 0)), (1, .int lg), (2, .int a), (3, .int b)] := hl
  have hG0 := hG
  have h6 := le6 hG
  have h20 := le20 hG
  have h41 := le41 hG
  have hF1 : FR ([16, 11, 12, 13], []) iv iv := FR.rf
  have hF2 : FR ([16, 11, 12, 13], []) rv rv := FR.rf
  have km6 : ((-6) : Int32).toInt = -6 := by decide
  have km4 : ((-4) : Int32).toInt = -4 := by decide
  have km1 : ((-1) : Int32).toInt = -1 := by decide
  have k0 : (0 : Int32).toInt = 0 := by decide
  have k1 : (1 : Int32).toInt = 1 := by decide
  have k30000 : (30000 : Int32).toInt = 30000 := by decide
  refine lv_aload_n hx hb dX12_log_0 rfl (lv_at hl 0 rfl) ?_
  refine lv_iload_n hx hb dX12_log_1 rfl (lv_at hl 1 rfl) ?_
  refine q_pi (q_runV (t := 0) (i := 0) (As := [.int lg]) (rest := []) C hU (c_X12_isLeg hG lg ) vm_X12_isLeg ml_X12_181 k_0.1 (hc := rfl) rfl (h1_0 hG) hl.1 rfl rfl (Nat.le_of_ble_eq_true rfl) dX12_log_2 rfl rfl ⟨Nat.le_of_ble_eq_true rfl, Nat.le_of_ble_eq_true rfl⟩ ⟨Nat.le_refl _, Nat.le_refl _⟩) hS (fun x_2 H locs hp_1 hU hS => ?_)
  refine b_if_ne (tgt := 14) hx hb dX12_log_5 (by decide) (fun c_3 => ?_) (fun c_3 => ?_)
  ·
    refine lv_iload_n hx hb dX12_log_14 rfl (lv_at hl 2 rfl) ?_
    refine b_if_lt (tgt := 22) hx hb dX12_log_15 (by decide) (fun c_4 => ?_) (fun c_4 => ?_)
    ·
      refine lv_aload_n hx hb dX12_log_22 rfl (lv_at hl 0 rfl) ?_
      refine lv_bipush (v := (-4)) hx hb dX12_log_23 (by decide) ?_
      refine q_fi (q_runV (t := 0) (i := 0) (As := [.int (-4)]) (rest := []) C hU (c_X12_refuse hG (-4) (by omega)) vm_X12_refuse ml_X12_164 k_0.1 (hc := rfl) rfl (h1_0 hG) hl.1 rfl rfl (Nat.le_of_ble_eq_true rfl) dX12_log_25 rfl rfl ⟨Nat.le_of_ble_eq_true rfl, Nat.le_of_ble_eq_true rfl⟩ ⟨Nat.le_refl _, Nat.le_refl _⟩) hS (fun x_10 iv_6 rv_7 H locs hG fa_8 fb_9 hp_5 hU hS => ?_)
      have hF1 := hF1.tr (m := ([16, 11, 12, 13], [])) fa_8 (by decide)
      have hF2 := hF2.tr (m := ([16, 11, 12, 13], [])) fb_9 (by decide)
      exact hret (⟨hG, hF1, hF2, trivial⟩) hU hS dX12_log_28
    ·
      refine lv_iload_n hx hb dX12_log_18 rfl (lv_at hl 3 rfl) ?_
      refine b_if_ge (tgt := 29) hx hb dX12_log_19 (by decide) (fun c_11 => ?_) (fun c_11 => ?_)
      ·
        refine lv_iload_n hx hb dX12_log_29 rfl (lv_at hl 2 rfl) ?_
        refine lv_sipush (v := 30000) hx hb dX12_log_30 (by decide) ?_
        refine b_icmp_gt (tgt := 43) hx hb dX12_log_33 (by decide) (fun c_12 => ?_) (fun c_12 => ?_)
        ·
          refine lv_aload_n hx hb dX12_log_43 rfl (lv_at hl 0 rfl) ?_
          refine lv_bipush (v := (-6)) hx hb dX12_log_44 (by decide) ?_
          refine q_fi (q_runV (t := 0) (i := 0) (As := [.int (-6)]) (rest := []) C hU (c_X12_refuse hG (-6) (by omega)) vm_X12_refuse ml_X12_164 k_0.1 (hc := rfl) rfl (h1_0 hG) hl.1 rfl rfl (Nat.le_of_ble_eq_true rfl) dX12_log_46 rfl rfl ⟨Nat.le_of_ble_eq_true rfl, Nat.le_of_ble_eq_true rfl⟩ ⟨Nat.le_refl _, Nat.le_refl _⟩) hS (fun x_18 iv_14 rv_15 H locs hG fa_16 fb_17 hp_13 hU hS => ?_)
          have hF1 := hF1.tr (m := ([16, 11, 12, 13], [])) fa_16 (by decide)
          have hF2 := hF2.tr (m := ([16, 11, 12, 13], [])) fb_17 (by decide)
          exact hret (⟨hG, hF1, hF2, trivial⟩) hU hS dX12_log_49
        ·
          refine lv_iload_n hx hb dX12_log_36 rfl (lv_at hl 3 rfl) ?_
          refine lv_sipush (v := 30000) hx hb dX12_log_37 (by decide) ?_
          refine b_icmp_le (tgt := 50) hx hb dX12_log_40 (by decide) (fun c_19 => ?_) (fun c_19 => ?_)
          ·
            refine lv_aload_n hx hb dX12_log_50 rfl (lv_at hl 0 rfl) ?_
            refine g_0_13 C hU hG (h1_0 hG) fl_X12_40 dX12_log_51 ?_
            refine lv_iload_n hx hb dX12_log_54 rfl (lv_at hl 1 rfl) ?_
            refine a_11 C hU hG (h1_11 hG) (x := lg) (by omega) (by omega) dX12_log_55 (fun x_20 e_21 le_21 ue_21 => ?_)
            have te_21 := congrArg Int32.toInt e_21
            refine lv_istore (lv' := [(4, .int x_20), (0, .ref (al.2 0 0)), (1, .int lg), (2, .int a), (3, .int b)]) hx hb dX12_log_56 hl (by decide) rfl (fun ls hl => ?_)
            refine lv_aload_n hx hb dX12_log_58 rfl (lv_at hl 1 rfl) ?_
            refine g_0_13 C hU hG (h1_0 hG) fl_X12_40 dX12_log_59 ?_
            refine lv_iload_n hx hb dX12_log_62 rfl (lv_at hl 2 rfl) ?_
            refine lv_iconst (v := 1) hx hb dX12_log_63 (by decide) ?_
            refine s_11 C hU hS (h1_11 hG) (x := lg) (by omega) (by omega) (by omega) (by omega) dX12_log_64 (fun iv_22 H locs ei_23 hU hS => ?_)
            have hG : GI al iv_22 rv := by rw [ei_23]; exact hG.puti (show _ ∧ _ from ⟨show (0 : Int) ≤ _ by omega, show _ ≤ (1 : Int) by omega⟩) (nsA (by decide) _)
            have hF1 : FR ([16, 11, 12, 13], []) iv iv_22 := by rw [ei_23]; exact hF1.put (Or.inl (by decide))
            refine lv_aload_n hx hb dX12_log_65 rfl (lv_at hl 1 rfl) ?_
            refine g_0_14 C hU hG (h1_0 hG) fl_X12_44 dX12_log_66 ?_
            refine lv_iload_n hx hb dX12_log_69 rfl (lv_at hl 2 rfl) ?_
            refine lv_iload_n hx hb dX12_log_70 rfl (lv_at hl 3 rfl) ?_
            refine s_12 C hU hS (h1_12 hG) (x := lg) (by omega) (by omega) dX12_log_71 (fun iv_24 H locs ei_25 hU hS => ?_)
            have hG : GI al iv_24 rv := by rw [ei_25]; exact hG.puti (show _ ∧ _ from ⟨show (0 : Int) ≤ _ by omega, show _ ≤ (30000 : Int) by omega⟩) (nsA (by decide) _)
            have hF1 : FR ([16, 11, 12, 13], []) iv iv_24 := by rw [ei_25]; exact hF1.put (Or.inl (by decide))
            refine lv_aload_n hx hb dX12_log_72 rfl (lv_at hl 1 rfl) ?_
            refine g_0_15 C hU hG (h1_0 hG) fl_X12_47 dX12_log_73 ?_
            refine lv_iload_n hx hb dX12_log_76 rfl (lv_at hl 2 rfl) ?_
            refine lv_iload_n hx hb dX12_log_77 rfl (lv_at hl 4 rfl) ?_
            refine s_13 C hU hS (h1_13 hG) (x := lg) (by omega) (by omega) dX12_log_78 (fun iv_26 H locs ei_27 hU hS => ?_)
            have hG : GI al iv_26 rv := by rw [ei_27]; exact hG.puti (show _ ∧ _ from ⟨show (0 : Int) ≤ _ by omega, show _ ≤ (30000 : Int) by omega⟩) (nsA (by decide) _)
            have hF1 : FR ([16, 11, 12, 13], []) iv iv_26 := by rw [ei_27]; exact hF1.put (Or.inl (by decide))
            refine lv_iload hx hb dX12_log_79 (lv_at hl 0 rfl) ?_
            refine b_if_eq (tgt := 88) hx hb dX12_log_81 (by decide) (fun c_28 => ?_) (fun c_28 => ?_)
            ·
              refine lv_iconst (v := 1) hx hb dX12_log_88 (by decide) ?_
              exact hret (⟨hG, hF1, hF2, trivial⟩) hU hS dX12_log_89
            ·
              refine lv_iconst (v := 0) hx hb dX12_log_84 (by decide) ?_
              refine lv_goto (tgt := 89) hx hb dX12_log_85 (by decide) ?_
              exact hret (⟨hG, hF1, hF2, trivial⟩) hU hS dX12_log_89
          ·
            refine lv_aload_n hx hb dX12_log_43 rfl (lv_at hl 0 rfl) ?_
            refine lv_bipush (v := (-6)) hx hb dX12_log_44 (by decide) ?_
            refine q_fi (q_runV (t := 0) (i := 0) (As := [.int (-6)]) (rest := []) C hU (c_X12_refuse hG (-6) (by omega)) vm_X12_refuse ml_X12_164 k_0.1 (hc := rfl) rfl (h1_0 hG) hl.1 rfl rfl (Nat.le_of_ble_eq_true rfl) dX12_log_46 rfl rfl ⟨Nat.le_of_ble_eq_true rfl, Nat.le_of_ble_eq_true rfl⟩ ⟨Nat.le_refl _, Nat.le_refl _⟩) hS (fun x_34 iv_30 rv_31 H locs hG fa_32 fb_33 hp_29 hU hS => ?_)
            have hF1 := hF1.tr (m := ([16, 11, 12, 13], [])) fa_32 (by decide)
            have hF2 := hF2.tr (m := ([16, 11, 12, 13], [])) fb_33 (by decide)
            exact hret (⟨hG, hF1, hF2, trivial⟩) hU hS dX12_log_49
      ·
        refine lv_aload_n hx hb dX12_log_22 rfl (lv_at hl 0 rfl) ?_
        refine lv_bipush (v := (-4)) hx hb dX12_log_23 (by decide) ?_
        refine q_fi (q_runV (t := 0) (i := 0) (As := [.int (-4)]) (rest := []) C hU (c_X12_refuse hG (-4) (by omega)) vm_X12_refuse ml_X12_164 k_0.1 (hc := rfl) rfl (h1_0 hG) hl.1 rfl rfl (Nat.le_of_ble_eq_true rfl) dX12_log_25 rfl rfl ⟨Nat.le_of_ble_eq_true rfl, Nat.le_of_ble_eq_true rfl⟩ ⟨Nat.le_refl _, Nat.le_refl _⟩) hS (fun x_40 iv_36 rv_37 H locs hG fa_38 fb_39 hp_35 hU hS => ?_)
        have hF1 := hF1.tr (m := ([16, 11, 12, 13], [])) fa_38 (by decide)
        have hF2 := hF2.tr (m := ([16, 11, 12, 13], [])) fb_39 (by decide)
        exact hret (⟨hG, hF1, hF2, trivial⟩) hU hS dX12_log_28
  ·
    refine lv_aload_n hx hb dX12_log_8 rfl (lv_at hl 0 rfl) ?_
    refine lv_iconst (v := (-1)) hx hb dX12_log_9 (by decide) ?_
    refine q_fi (q_runV (t := 0) (i := 0) (As := [.int (-1)]) (rest := []) C hU (c_X12_refuse hG (-1) (by omega)) vm_X12_refuse ml_X12_164 k_0.1 (hc := rfl) rfl (h1_0 hG) hl.1 rfl rfl (Nat.le_of_ble_eq_true rfl) dX12_log_10 rfl rfl ⟨Nat.le_of_ble_eq_true rfl, Nat.le_of_ble_eq_true rfl⟩ ⟨Nat.le_refl _, Nat.le_refl _⟩) hS (fun x_46 iv_42 rv_43 H locs hG fa_44 fb_45 hp_41 hU hS => ?_)
    have hF1 := hF1.tr (m := ([16, 11, 12, 13], [])) fa_44 (by decide)
    have hF2 := hF2.tr (m := ([16, 11, 12, 13], [])) fb_45 (by decide)
    exact hret (⟨hG, hF1, hF2, trivial⟩) hU hS dX12_log_13
set_option maxHeartbeats 4000000 in
set_option maxRecDepth 100000 in
theorem c_X12_cause {l : Launch} {D : va_G} {cA : FieldType → ClassId} {sz : Nat} {al : Al} {iv : Iv} {rv : Rv} (hG : GI al iv rv) (lg : Int32) (cs : Int32) : Met l yX12_cause (wd yX12_cause cX12_cause 4 (some .int)) (rm 2) (PcW D cA sz al iv rv [.ref (al.2 0 0), .int lg, .int cs]) (QI D cA sz al (fI al ([16, 14], []) iv rv (fun r iv' rv' => True))) 0 0 (Aq sz) := by
  refine mk_i (by decide) (Nat.le_of_ble_eq_true rfl) rfl ?_
  intro p e s m args below meth c ls Q H locs C hU hS hl hret
  have hx := C.1.1
  have hb := C.1.2.1
  have hl : lv_has ls 4 [(0, .ref (al.2 0 0)), (1, .int lg), (2, .int cs)] := hl
  have hG0 := hG
  have h6 := le6 hG
  have h20 := le20 hG
  have h41 := le41 hG
  have hF1 : FR ([16, 14], []) iv iv := FR.rf
  have hF2 : FR ([16, 14], []) rv rv := FR.rf
  have km1 : ((-1) : Int32).toInt = -1 := by decide
  refine lv_aload_n hx hb dX12_cause_0 rfl (lv_at hl 0 rfl) ?_
  refine lv_iload_n hx hb dX12_cause_1 rfl (lv_at hl 1 rfl) ?_
  refine q_pi (q_runV (t := 0) (i := 0) (As := [.int lg]) (rest := []) C hU (c_X12_isLeg hG lg ) vm_X12_isLeg ml_X12_181 k_0.1 (hc := rfl) rfl (h1_0 hG) hl.1 rfl rfl (Nat.le_of_ble_eq_true rfl) dX12_cause_2 rfl rfl ⟨Nat.le_of_ble_eq_true rfl, Nat.le_of_ble_eq_true rfl⟩ ⟨Nat.le_refl _, Nat.le_refl _⟩) hS (fun x_2 H locs hp_1 hU hS => ?_)
  refine b_if_eq (tgt := 15) hx hb dX12_cause_5 (by decide) (fun c_3 => ?_) (fun c_3 => ?_)
  ·
    refine lv_aload_n hx hb dX12_cause_15 rfl (lv_at hl 0 rfl) ?_
    refine lv_iconst (v := (-1)) hx hb dX12_cause_16 (by decide) ?_
    refine q_fi (q_runV (t := 0) (i := 0) (As := [.int (-1)]) (rest := []) C hU (c_X12_refuse hG (-1) (by omega)) vm_X12_refuse ml_X12_164 k_0.1 (hc := rfl) rfl (h1_0 hG) hl.1 rfl rfl (Nat.le_of_ble_eq_true rfl) dX12_cause_17 rfl rfl ⟨Nat.le_of_ble_eq_true rfl, Nat.le_of_ble_eq_true rfl⟩ ⟨Nat.le_refl _, Nat.le_refl _⟩) hS (fun x_9 iv_5 rv_6 H locs hG fa_7 fb_8 hp_4 hU hS => ?_)
    have hF1 := hF1.tr (m := ([16, 14], [])) fa_7 (by decide)
    have hF2 := hF2.tr (m := ([16, 14], [])) fb_8 (by decide)
    exact hret (⟨hG, hF1, hF2, trivial⟩) hU hS dX12_cause_20
  ·
    refine lv_iload_n hx hb dX12_cause_8 rfl (lv_at hl 2 rfl) ?_
    refine q_pi (q_runS (As := [.int cs]) (rest := []) C hU (c_X12_isCause  cs ) sm_X12_isCause ml_X12_184 hl.1 rfl rfl (Nat.le_of_ble_eq_true rfl) dX12_cause_9 rfl rfl ⟨Nat.le_of_ble_eq_true rfl, Nat.le_of_ble_eq_true rfl⟩ ⟨Nat.le_refl _, Nat.le_refl _⟩) hS (fun x_11 H locs hp_10 hU hS => ?_)
    refine b_if_ne (tgt := 21) hx hb dX12_cause_12 (by decide) (fun c_12 => ?_) (fun c_12 => ?_)
    ·
      refine lv_aload_n hx hb dX12_cause_21 rfl (lv_at hl 0 rfl) ?_
      refine g_0_16 C hU hG (h1_0 hG) fl_X12_50 dX12_cause_22 ?_
      refine lv_iload_n hx hb dX12_cause_25 rfl (lv_at hl 1 rfl) ?_
      refine a_14 C hU hG (h1_14 hG) (x := lg) (by omega) (by omega) dX12_cause_26 (fun x_13 e_14 le_14 ue_14 => ?_)
      have te_14 := congrArg Int32.toInt e_14
      refine lv_istore_n (lv' := [(3, .int x_13), (0, .ref (al.2 0 0)), (1, .int lg), (2, .int cs)]) hx hb dX12_cause_27 rfl hl (by decide) rfl (fun ls hl => ?_)
      refine lv_aload_n hx hb dX12_cause_28 rfl (lv_at hl 1 rfl) ?_
      refine g_0_16 C hU hG (h1_0 hG) fl_X12_50 dX12_cause_29 ?_
      refine lv_iload_n hx hb dX12_cause_32 rfl (lv_at hl 2 rfl) ?_
      refine lv_iload_n hx hb dX12_cause_33 rfl (lv_at hl 3 rfl) ?_
      refine s_14 C hU hS (h1_14 hG) (x := lg) (by omega) (by omega) dX12_cause_34 (fun iv_15 H locs ei_16 hU hS => ?_)
      have hG : GI al iv_15 rv := by rw [ei_16]; exact hG.puti (show _ ∧ _ from ⟨show (0 : Int) ≤ _ by omega, show _ ≤ (5 : Int) by omega⟩) (nsA (by decide) _)
      have hF1 : FR ([16, 14], []) iv iv_15 := by rw [ei_16]; exact hF1.put (Or.inl (by decide))
      refine lv_iload_n hx hb dX12_cause_35 rfl (lv_at hl 0 rfl) ?_
      exact hret (⟨hG, hF1, hF2, trivial⟩) hU hS dX12_cause_36
    ·
      refine lv_aload_n hx hb dX12_cause_15 rfl (lv_at hl 0 rfl) ?_
      refine lv_iconst (v := (-1)) hx hb dX12_cause_16 (by decide) ?_
      refine q_fi (q_runV (t := 0) (i := 0) (As := [.int (-1)]) (rest := []) C hU (c_X12_refuse hG (-1) (by omega)) vm_X12_refuse ml_X12_164 k_0.1 (hc := rfl) rfl (h1_0 hG) hl.1 rfl rfl (Nat.le_of_ble_eq_true rfl) dX12_cause_17 rfl rfl ⟨Nat.le_of_ble_eq_true rfl, Nat.le_of_ble_eq_true rfl⟩ ⟨Nat.le_refl _, Nat.le_refl _⟩) hS (fun x_22 iv_18 rv_19 H locs hG fa_20 fb_21 hp_17 hU hS => ?_)
      have hF1 := hF1.tr (m := ([16, 14], [])) fa_20 (by decide)
      have hF2 := hF2.tr (m := ([16, 14], [])) fb_21 (by decide)
      exact hret (⟨hG, hF1, hF2, trivial⟩) hU hS dX12_cause_20
set_option maxHeartbeats 4000000 in
set_option maxRecDepth 100000 in
theorem c_X12_set {l : Launch} {D : va_G} {cA : FieldType → ClassId} {sz : Nat} {al : Al} {iv : Iv} {rv : Rv} (hG : GI al iv rv) (what : Int32) (v : Int32) : Met l yX12_set (wd yX12_set cX12_set 4 (some .int)) (rm 1) (PcW D cA sz al iv rv [.ref (al.2 0 0), .int what, .int v]) (QI D cA sz al (fI al ([16, 15], []) iv rv (fun r iv' rv' => True))) 0 0 (Aq sz) := by
  refine mk_i (by decide) (Nat.le_of_ble_eq_true rfl) rfl ?_
  intro p e s m args below meth c ls Q H locs C hU hS hl hret
  have hx := C.1.1
  have hb := C.1.2.1
  have hl : lv_has ls 4 [(0, .ref (al.2 0 0)), (1, .int what), (2, .int v)] := hl
  have hG0 := hG
  have h6 := le6 hG
  have h20 := le20 hG
  have h41 := le41 hG
  have hF1 : FR ([16, 15], []) iv iv := FR.rf
  have hF2 : FR ([16, 15], []) rv rv := FR.rf
  have km6 : ((-6) : Int32).toInt = -6 := by decide
  have km4 : ((-4) : Int32).toInt = -4 := by decide
  have km2 : ((-2) : Int32).toInt = -2 := by decide
  have k0 : (0 : Int32).toInt = 0 := by decide
  have k1 : (1 : Int32).toInt = 1 := by decide
  have k2 : (2 : Int32).toInt = 2 := by decide
  have k3 : (3 : Int32).toInt = 3 := by decide
  have k9 : (9 : Int32).toInt = 9 := by decide
  have k200 : (200 : Int32).toInt = 200 := by decide
  have k300 : (300 : Int32).toInt = 300 := by decide
  have k900 : (900 : Int32).toInt = 900 := by decide
  refine lv_iload_n hx hb dX12_set_0 rfl (lv_at hl 1 rfl) ?_
  refine lv_iconst (v := 0) hx hb dX12_set_1 (by decide) ?_
  refine lv_iconst (v := 3) hx hb dX12_set_2 (by decide) ?_
  refine q_pi (q_runS (As := [.int what, .int 0, .int 3]) (rest := []) C hU (c_X12_in  what 0 3 ) sm_X12_in ml_X12_156 hl.1 rfl rfl (Nat.le_of_ble_eq_true rfl) dX12_set_3 rfl rfl ⟨Nat.le_of_ble_eq_true rfl, Nat.le_of_ble_eq_true rfl⟩ ⟨Nat.le_refl _, Nat.le_refl _⟩) hS (fun x_2 H locs hp_1 hU hS => ?_)
  refine b_if_ne (tgt := 16) hx hb dX12_set_6 (by decide) (fun c_3 => ?_) (fun c_3 => ?_)
  ·
    refine lv_iload_n hx hb dX12_set_16 rfl (lv_at hl 2 rfl) ?_
    refine lv_iload_n hx hb dX12_set_17 rfl (lv_at hl 1 rfl) ?_
    refine lv_iconst (v := 3) hx hb dX12_set_18 (by decide) ?_
    have J_27 : ∀ (v_4 : Int32) (ls : Array Slot), lv_has ls 4 [(0, .ref (al.2 0 0)), (1, .int what), (2, .int v)] → (0 ≤ v_4.toInt ∧ v_4.toInt ≤ 1) → W p l e (rm 1) s m args below meth c H locs 0 0 Q (F0 m 27 ls [.int v_4, .int v]) := by
      intro v_4 ls hl i27_0
      refine b_icmp_ge (tgt := 37) hx hb dX12_set_27 (by decide) (fun c_5 => ?_) (fun c_5 => ?_)
      ·
        refine lv_iload_n hx hb dX12_set_37 rfl (lv_at hl 2 rfl) ?_
        refine lv_iload_n hx hb dX12_set_38 rfl (lv_at hl 1 rfl) ?_
        have J_72 : ∀ (v_6 : Int32) (ls : Array Slot), lv_has ls 4 [(0, .ref (al.2 0 0)), (1, .int what), (2, .int v)] → (9 ≤ v_6.toInt ∧ v_6.toInt ≤ 900) → W p l e (rm 1) s m args below meth c H locs 0 0 Q (F0 m 72 ls [.int v_6, .int v]) := by
          intro v_6 ls hl i72_0
          refine b_icmp_le (tgt := 82) hx hb dX12_set_72 (by decide) (fun c_7 => ?_) (fun c_7 => ?_)
          ·
            refine lv_aload_n hx hb dX12_set_82 rfl (lv_at hl 0 rfl) ?_
            refine g_0_17 C hU hG (h1_0 hG) fl_X12_53 dX12_set_83 ?_
            refine lv_iload_n hx hb dX12_set_86 rfl (lv_at hl 1 rfl) ?_
            refine a_15 C hU hG (h1_15 hG) (x := what) (by omega) (by omega) dX12_set_87 (fun x_8 e_9 le_9 ue_9 => ?_)
            have te_9 := congrArg Int32.toInt e_9
            refine lv_istore_n (lv' := [(3, .int x_8), (0, .ref (al.2 0 0)), (1, .int what), (2, .int v)]) hx hb dX12_set_88 rfl hl (by decide) rfl (fun ls hl => ?_)
            refine lv_aload_n hx hb dX12_set_89 rfl (lv_at hl 1 rfl) ?_
            refine g_0_17 C hU hG (h1_0 hG) fl_X12_53 dX12_set_90 ?_
            refine lv_iload_n hx hb dX12_set_93 rfl (lv_at hl 2 rfl) ?_
            refine lv_iload_n hx hb dX12_set_94 rfl (lv_at hl 3 rfl) ?_
            refine s_15 C hU hS (h1_15 hG) (x := what) (by omega) (by omega) dX12_set_95 (fun iv_10 H locs ei_11 hU hS => ?_)
            have hG : GI al iv_10 rv := by rw [ei_11]; exact hG.puti (show _ ∧ _ from ⟨show (0 : Int) ≤ _ by omega, show _ ≤ (900 : Int) by omega⟩) (nsA (by decide) _)
            have hF1 : FR ([16, 15], []) iv iv_10 := by rw [ei_11]; exact hF1.put (Or.inl (by decide))
            refine lv_iload_n hx hb dX12_set_96 rfl (lv_at hl 0 rfl) ?_
            exact hret (⟨hG, hF1, hF2, trivial⟩) hU hS dX12_set_97
          ·
            refine lv_aload_n hx hb dX12_set_75 rfl (lv_at hl 0 rfl) ?_
            refine lv_bipush (v := (-6)) hx hb dX12_set_76 (by decide) ?_
            refine q_fi (q_runV (t := 0) (i := 0) (As := [.int (-6)]) (rest := []) C hU (c_X12_refuse hG (-6) (by omega)) vm_X12_refuse ml_X12_164 k_0.1 (hc := rfl) rfl (h1_0 hG) hl.1 rfl rfl (Nat.le_of_ble_eq_true rfl) dX12_set_78 rfl rfl ⟨Nat.le_of_ble_eq_true rfl, Nat.le_of_ble_eq_true rfl⟩ ⟨Nat.le_refl _, Nat.le_refl _⟩) hS (fun x_17 iv_13 rv_14 H locs hG fa_15 fb_16 hp_12 hU hS => ?_)
            have hF1 := hF1.tr (m := ([16, 15], [])) fa_15 (by decide)
            have hF2 := hF2.tr (m := ([16, 15], [])) fb_16 (by decide)
            exact hret (⟨hG, hF1, hF2, trivial⟩) hU hS dX12_set_81
        refine b_if_ne (tgt := 48) hx hb dX12_set_39 (by decide) (fun c_18 => ?_) (fun c_18 => ?_)
        ·
          refine lv_iload_n hx hb dX12_set_48 rfl (lv_at hl 1 rfl) ?_
          refine lv_iconst (v := 1) hx hb dX12_set_49 (by decide) ?_
          refine b_icmp_ne (tgt := 59) hx hb dX12_set_50 (by decide) (fun c_19 => ?_) (fun c_19 => ?_)
          ·
            refine lv_iload_n hx hb dX12_set_59 rfl (lv_at hl 1 rfl) ?_
            refine lv_iconst (v := 2) hx hb dX12_set_60 (by decide) ?_
            refine b_icmp_ne (tgt := 70) hx hb dX12_set_61 (by decide) (fun c_20 => ?_) (fun c_20 => ?_)
            ·
              refine lv_bipush (v := 9) hx hb dX12_set_70 (by decide) ?_
              exact J_72 9 _ (lv_sub hl [0, 1, 2] rfl) (by omega)
            ·
              refine lv_sipush (v := 300) hx hb dX12_set_64 (by decide) ?_
              refine lv_goto (tgt := 72) hx hb dX12_set_67 (by decide) ?_
              exact J_72 300 _ (lv_sub hl [0, 1, 2] rfl) (by omega)
          ·
            refine lv_sipush (v := 900) hx hb dX12_set_53 (by decide) ?_
            refine lv_goto (tgt := 72) hx hb dX12_set_56 (by decide) ?_
            exact J_72 900 _ (lv_sub hl [0, 1, 2] rfl) (by omega)
        ·
          refine lv_sipush (v := 200) hx hb dX12_set_42 (by decide) ?_
          refine lv_goto (tgt := 72) hx hb dX12_set_45 (by decide) ?_
          exact J_72 200 _ (lv_sub hl [0, 1, 2] rfl) (by omega)
      ·
        refine lv_aload_n hx hb dX12_set_30 rfl (lv_at hl 0 rfl) ?_
        refine lv_bipush (v := (-4)) hx hb dX12_set_31 (by decide) ?_
        refine q_fi (q_runV (t := 0) (i := 0) (As := [.int (-4)]) (rest := []) C hU (c_X12_refuse hG (-4) (by omega)) vm_X12_refuse ml_X12_164 k_0.1 (hc := rfl) rfl (h1_0 hG) hl.1 rfl rfl (Nat.le_of_ble_eq_true rfl) dX12_set_33 rfl rfl ⟨Nat.le_of_ble_eq_true rfl, Nat.le_of_ble_eq_true rfl⟩ ⟨Nat.le_refl _, Nat.le_refl _⟩) hS (fun x_26 iv_22 rv_23 H locs hG fa_24 fb_25 hp_21 hU hS => ?_)
        have hF1 := hF1.tr (m := ([16, 15], [])) fa_24 (by decide)
        have hF2 := hF2.tr (m := ([16, 15], [])) fb_25 (by decide)
        exact hret (⟨hG, hF1, hF2, trivial⟩) hU hS dX12_set_36
    refine b_icmp_ne (tgt := 26) hx hb dX12_set_19 (by decide) (fun c_27 => ?_) (fun c_27 => ?_)
    ·
      refine lv_iconst (v := 0) hx hb dX12_set_26 (by decide) ?_
      exact J_27 0 _ (lv_sub hl [0, 1, 2] rfl) (by omega)
    ·
      refine lv_iconst (v := 1) hx hb dX12_set_22 (by decide) ?_
      refine lv_goto (tgt := 27) hx hb dX12_set_23 (by decide) ?_
      exact J_27 1 _ (lv_sub hl [0, 1, 2] rfl) (by omega)
  ·
    refine lv_aload_n hx hb dX12_set_9 rfl (lv_at hl 0 rfl) ?_
    refine lv_bipush (v := (-2)) hx hb dX12_set_10 (by decide) ?_
    refine q_fi (q_runV (t := 0) (i := 0) (As := [.int (-2)]) (rest := []) C hU (c_X12_refuse hG (-2) (by omega)) vm_X12_refuse ml_X12_164 k_0.1 (hc := rfl) rfl (h1_0 hG) hl.1 rfl rfl (Nat.le_of_ble_eq_true rfl) dX12_set_12 rfl rfl ⟨Nat.le_of_ble_eq_true rfl, Nat.le_of_ble_eq_true rfl⟩ ⟨Nat.le_refl _, Nat.le_refl _⟩) hS (fun x_33 iv_29 rv_30 H locs hG fa_31 fb_32 hp_28 hU hS => ?_)
    have hF1 := hF1.tr (m := ([16, 15], [])) fa_31 (by decide)
    have hF2 := hF2.tr (m := ([16, 15], [])) fb_32 (by decide)
    exact hret (⟨hG, hF1, hF2, trivial⟩) hU hS dX12_set_15
set_option maxHeartbeats 4000000 in
set_option maxRecDepth 100000 in
theorem c_X12_legOf {l : Launch} {D : va_G} {cA : FieldType → ClassId} {sz : Nat} {al : Al} {iv : Iv} {rv : Rv} (hG : GI al iv rv) (lg : Int32) (what : Int32) : Met l yX12_legOf (wd yX12_legOf cX12_legOf 3 (some .int)) (rm 6) (PcW D cA sz al iv rv [.ref (al.2 0 0), .int lg, .int what]) (QI D cA sz al (fI al ([16], []) iv rv (fun r iv' rv' => True))) 0 0 (Aq sz) := by
  refine mk_i (by decide) (Nat.le_of_ble_eq_true rfl) rfl ?_
  intro p e s m args below meth c ls Q H locs C hU hS hl hret
  have hx := C.1.1
  have hb := C.1.2.1
  have hl : lv_has ls 3 [(0, .ref (al.2 0 0)), (1, .int lg), (2, .int what)] := hl
  have hG0 := hG
  have h6 := le6 hG
  have h20 := le20 hG
  have h41 := le41 hG
  have hF1 : FR ([16], []) iv iv := FR.rf
  have hF2 : FR ([16], []) rv rv := FR.rf
  have km5 : ((-5) : Int32).toInt = -5 := by decide
  have km2 : ((-2) : Int32).toInt = -2 := by decide
  have km1 : ((-1) : Int32).toInt = -1 := by decide
  have k0 : (0 : Int32).toInt = 0 := by decide
  have k1 : (1 : Int32).toInt = 1 := by decide
  have k5 : (5 : Int32).toInt = 5 := by decide
  refine lv_aload_n hx hb dX12_legOf_0 rfl (lv_at hl 0 rfl) ?_
  refine lv_iload_n hx hb dX12_legOf_1 rfl (lv_at hl 1 rfl) ?_
  refine q_pi (q_runV (t := 0) (i := 0) (As := [.int lg]) (rest := []) C hU (c_X12_isLeg hG lg ) vm_X12_isLeg ml_X12_181 k_0.1 (hc := rfl) rfl (h1_0 hG) hl.1 rfl rfl (Nat.le_of_ble_eq_true rfl) dX12_legOf_2 rfl rfl ⟨Nat.le_of_ble_eq_true rfl, Nat.le_of_ble_eq_true rfl⟩ ⟨Nat.le_refl _, Nat.le_refl _⟩) hS (fun x_2 H locs hp_1 hU hS => ?_)
  refine b_if_ne (tgt := 14) hx hb dX12_legOf_5 (by decide) (fun c_3 => ?_) (fun c_3 => ?_)
  ·
    refine lv_iload_n hx hb dX12_legOf_14 rfl (lv_at hl 2 rfl) ?_
    refine lv_iconst (v := 0) hx hb dX12_legOf_15 (by decide) ?_
    refine lv_iconst (v := 5) hx hb dX12_legOf_16 (by decide) ?_
    refine q_pi (q_runS (As := [.int what, .int 0, .int 5]) (rest := []) C hU (c_X12_in  what 0 5 ) sm_X12_in ml_X12_156 hl.1 rfl rfl (Nat.le_of_ble_eq_true rfl) dX12_legOf_17 rfl rfl ⟨Nat.le_of_ble_eq_true rfl, Nat.le_of_ble_eq_true rfl⟩ ⟨Nat.le_refl _, Nat.le_refl _⟩) hS (fun x_5 H locs hp_4 hU hS => ?_)
    refine b_if_ne (tgt := 30) hx hb dX12_legOf_20 (by decide) (fun c_6 => ?_) (fun c_6 => ?_)
    ·
      refine lv_aload_n hx hb dX12_legOf_30 rfl (lv_at hl 0 rfl) ?_
      refine g_0_13 C hU hG (h1_0 hG) fl_X12_40 dX12_legOf_31 ?_
      refine lv_iload_n hx hb dX12_legOf_34 rfl (lv_at hl 1 rfl) ?_
      refine a_11 C hU hG (h1_11 hG) (x := lg) (by omega) (by omega) dX12_legOf_35 (fun x_7 e_8 le_8 ue_8 => ?_)
      have te_8 := congrArg Int32.toInt e_8
      refine b_if_ne (tgt := 46) hx hb dX12_legOf_36 (by decide) (fun c_9 => ?_) (fun c_9 => ?_)
      ·
        refine lv_iload_n hx hb dX12_legOf_46 rfl (lv_at hl 2 rfl) ?_
        refine b_table hx hb dX12_legOf_47 112 (by decide) [80, 86, 92, 99, 106] (by decide) (fun j hj => ?_) (fun c_10 => ?_) (fun j tt htt c_10 => ?_)
        ·
          match j, hj with
          | 0, _ => exact ⟨33, 80, by decide, by decide, by decide⟩
          | 1, _ => exact ⟨39, 86, by decide, by decide, by decide⟩
          | 2, _ => exact ⟨45, 92, by decide, by decide, by decide⟩
          | 3, _ => exact ⟨52, 99, by decide, by decide, by decide⟩
          | 4, _ => exact ⟨59, 106, by decide, by decide, by decide⟩
          | q + 5, hq => exact absurd hq (by simp)
        ·
          refine lv_aload_n hx hb dX12_legOf_112 rfl (lv_at hl 0 rfl) ?_
          refine lv_iload_n hx hb dX12_legOf_113 rfl (lv_at hl 1 rfl) ?_
          refine q_pi (q_runV (t := 0) (i := 0) (As := [.int lg]) (rest := []) C hU (c_X12_lateOf hG lg (by omega)) vm_X12_lateOf ml_X12_210 k_0.1 (hc := rfl) rfl (h1_0 hG) hl.1 rfl rfl (Nat.le_of_ble_eq_true rfl) dX12_legOf_114 rfl rfl ⟨Nat.le_of_ble_eq_true rfl, Nat.le_of_ble_eq_true rfl⟩ ⟨Nat.le_refl _, Nat.le_refl _⟩) hS (fun x_12 H locs hp_11 hU hS => ?_)
          have q_13 := hp_11.2
          have tq_13 := congrArg Int32.toInt q_13
          refine lv_aload_n hx hb dX12_legOf_117 rfl (lv_at hl 0 rfl) ?_
          refine lv_iload_n hx hb dX12_legOf_118 rfl (lv_at hl 1 rfl) ?_
          refine q_pi (q_runV (t := 0) (i := 0) (As := [.int lg]) (rest := [.int x_12]) C hU (c_X12_handedOf hG lg (by omega)) vm_X12_handedOf ml_X12_216 k_0.1 (hc := rfl) rfl (h1_0 hG) hl.1 rfl rfl (Nat.le_of_ble_eq_true rfl) dX12_legOf_119 rfl rfl ⟨Nat.le_of_ble_eq_true rfl, Nat.le_of_ble_eq_true rfl⟩ ⟨Nat.le_refl _, Nat.le_refl _⟩) hS (fun x_15 H locs hp_14 hU hS => ?_)
          have q_16 := hp_14.2
          have tq_16 := congrArg Int32.toInt q_16
          refine lv_isub hx hb dX12_legOf_122 ?_
          refine lv_topi (fun x_17 e_18 => ?_)
          have w_19 := fb_rng x_12
          have w_20 := fb_rng x_15
          have te_18 : x_17.toInt = (x_12 : Int32).toInt - (x_15 : Int32).toInt := by rw [e_18]; exact fb_subI (by omega) (by omega)
          exact hret (⟨hG, hF1, hF2, trivial⟩) hU hS dX12_legOf_123
        ·
          match j, htt with
          | 0, htt =>
            cases htt
            refine lv_aload_n hx hb dX12_legOf_80 rfl (lv_at hl 0 rfl) ?_
            refine lv_iload_n hx hb dX12_legOf_81 rfl (lv_at hl 1 rfl) ?_
            refine q_pi (q_runV (t := 0) (i := 0) (As := [.int lg]) (rest := []) C hU (c_X12_lateOf hG lg (by omega)) vm_X12_lateOf ml_X12_210 k_0.1 (hc := rfl) rfl (h1_0 hG) hl.1 rfl rfl (Nat.le_of_ble_eq_true rfl) dX12_legOf_82 rfl rfl ⟨Nat.le_of_ble_eq_true rfl, Nat.le_of_ble_eq_true rfl⟩ ⟨Nat.le_refl _, Nat.le_refl _⟩) hS (fun x_22 H locs hp_21 hU hS => ?_)
            have q_23 := hp_21.2
            have tq_23 := congrArg Int32.toInt q_23
            exact hret (⟨hG, hF1, hF2, trivial⟩) hU hS dX12_legOf_85
          | 1, htt =>
            cases htt
            refine lv_aload_n hx hb dX12_legOf_86 rfl (lv_at hl 0 rfl) ?_
            refine lv_iload_n hx hb dX12_legOf_87 rfl (lv_at hl 1 rfl) ?_
            refine q_pi (q_runV (t := 0) (i := 0) (As := [.int lg]) (rest := []) C hU (c_X12_outlateOf hG lg (by omega)) vm_X12_outlateOf ml_X12_200 k_0.1 (hc := rfl) rfl (h1_0 hG) hl.1 rfl rfl (Nat.le_of_ble_eq_true rfl) dX12_legOf_88 rfl rfl ⟨Nat.le_of_ble_eq_true rfl, Nat.le_of_ble_eq_true rfl⟩ ⟨Nat.le_refl _, Nat.le_refl _⟩) hS (fun x_25 H locs hp_24 hU hS => ?_)
            have q_26 := hp_24.2
            have tq_26 := congrArg Int32.toInt q_26
            exact hret (⟨hG, hF1, hF2, trivial⟩) hU hS dX12_legOf_91
          | 2, htt =>
            cases htt
            refine lv_aload_n hx hb dX12_legOf_92 rfl (lv_at hl 0 rfl) ?_
            refine lv_iload_n hx hb dX12_legOf_93 rfl (lv_at hl 1 rfl) ?_
            refine lv_iconst (v := 0) hx hb dX12_legOf_94 (by decide) ?_
            refine q_pi (q_runV (t := 0) (i := 0) (As := [.int lg, .int 0]) (rest := []) C hU (c_X12_waitOf hG lg 0 (by omega)) vm_X12_waitOf ml_X12_207 k_0.1 (hc := rfl) rfl (h1_0 hG) hl.1 rfl rfl (Nat.le_of_ble_eq_true rfl) dX12_legOf_95 rfl rfl ⟨Nat.le_of_ble_eq_true rfl, Nat.le_of_ble_eq_true rfl⟩ ⟨Nat.le_refl _, Nat.le_refl _⟩) hS (fun x_28 H locs hp_27 hU hS => ?_)
            have q_29 := hp_27.2
            have tq_29 := congrArg Int32.toInt q_29
            exact hret (⟨hG, hF1, hF2, trivial⟩) hU hS dX12_legOf_98
          | 3, htt =>
            cases htt
            refine lv_aload_n hx hb dX12_legOf_99 rfl (lv_at hl 0 rfl) ?_
            refine lv_iload_n hx hb dX12_legOf_100 rfl (lv_at hl 1 rfl) ?_
            refine lv_iconst (v := 1) hx hb dX12_legOf_101 (by decide) ?_
            refine q_pi (q_runV (t := 0) (i := 0) (As := [.int lg, .int 1]) (rest := []) C hU (c_X12_waitOf hG lg 1 (by omega)) vm_X12_waitOf ml_X12_207 k_0.1 (hc := rfl) rfl (h1_0 hG) hl.1 rfl rfl (Nat.le_of_ble_eq_true rfl) dX12_legOf_102 rfl rfl ⟨Nat.le_of_ble_eq_true rfl, Nat.le_of_ble_eq_true rfl⟩ ⟨Nat.le_refl _, Nat.le_refl _⟩) hS (fun x_31 H locs hp_30 hU hS => ?_)
            have q_32 := hp_30.2
            have tq_32 := congrArg Int32.toInt q_32
            exact hret (⟨hG, hF1, hF2, trivial⟩) hU hS dX12_legOf_105
          | 4, htt =>
            cases htt
            refine lv_aload_n hx hb dX12_legOf_106 rfl (lv_at hl 0 rfl) ?_
            refine lv_iload_n hx hb dX12_legOf_107 rfl (lv_at hl 1 rfl) ?_
            refine q_pi (q_runV (t := 0) (i := 0) (As := [.int lg]) (rest := []) C hU (c_X12_handedOf hG lg (by omega)) vm_X12_handedOf ml_X12_216 k_0.1 (hc := rfl) rfl (h1_0 hG) hl.1 rfl rfl (Nat.le_of_ble_eq_true rfl) dX12_legOf_108 rfl rfl ⟨Nat.le_of_ble_eq_true rfl, Nat.le_of_ble_eq_true rfl⟩ ⟨Nat.le_refl _, Nat.le_refl _⟩) hS (fun x_34 H locs hp_33 hU hS => ?_)
            have q_35 := hp_33.2
            have tq_35 := congrArg Int32.toInt q_35
            exact hret (⟨hG, hF1, hF2, trivial⟩) hU hS dX12_legOf_111
          | q + 5, htt => simp at htt
      ·
        refine lv_aload_n hx hb dX12_legOf_39 rfl (lv_at hl 0 rfl) ?_
        refine lv_bipush (v := (-5)) hx hb dX12_legOf_40 (by decide) ?_
        refine q_fi (q_runV (t := 0) (i := 0) (As := [.int (-5)]) (rest := []) C hU (c_X12_refuse hG (-5) (by omega)) vm_X12_refuse ml_X12_164 k_0.1 (hc := rfl) rfl (h1_0 hG) hl.1 rfl rfl (Nat.le_of_ble_eq_true rfl) dX12_legOf_42 rfl rfl ⟨Nat.le_of_ble_eq_true rfl, Nat.le_of_ble_eq_true rfl⟩ ⟨Nat.le_refl _, Nat.le_refl _⟩) hS (fun x_41 iv_37 rv_38 H locs hG fa_39 fb_40 hp_36 hU hS => ?_)
        have hF1 := hF1.tr (m := ([16], [])) fa_39 (by decide)
        have hF2 := hF2.tr (m := ([16], [])) fb_40 (by decide)
        exact hret (⟨hG, hF1, hF2, trivial⟩) hU hS dX12_legOf_45
    ·
      refine lv_aload_n hx hb dX12_legOf_23 rfl (lv_at hl 0 rfl) ?_
      refine lv_bipush (v := (-2)) hx hb dX12_legOf_24 (by decide) ?_
      refine q_fi (q_runV (t := 0) (i := 0) (As := [.int (-2)]) (rest := []) C hU (c_X12_refuse hG (-2) (by omega)) vm_X12_refuse ml_X12_164 k_0.1 (hc := rfl) rfl (h1_0 hG) hl.1 rfl rfl (Nat.le_of_ble_eq_true rfl) dX12_legOf_26 rfl rfl ⟨Nat.le_of_ble_eq_true rfl, Nat.le_of_ble_eq_true rfl⟩ ⟨Nat.le_refl _, Nat.le_refl _⟩) hS (fun x_47 iv_43 rv_44 H locs hG fa_45 fb_46 hp_42 hU hS => ?_)
      have hF1 := hF1.tr (m := ([16], [])) fa_45 (by decide)
      have hF2 := hF2.tr (m := ([16], [])) fb_46 (by decide)
      exact hret (⟨hG, hF1, hF2, trivial⟩) hU hS dX12_legOf_29
  ·
    refine lv_aload_n hx hb dX12_legOf_8 rfl (lv_at hl 0 rfl) ?_
    refine lv_iconst (v := (-1)) hx hb dX12_legOf_9 (by decide) ?_
    refine q_fi (q_runV (t := 0) (i := 0) (As := [.int (-1)]) (rest := []) C hU (c_X12_refuse hG (-1) (by omega)) vm_X12_refuse ml_X12_164 k_0.1 (hc := rfl) rfl (h1_0 hG) hl.1 rfl rfl (Nat.le_of_ble_eq_true rfl) dX12_legOf_10 rfl rfl ⟨Nat.le_of_ble_eq_true rfl, Nat.le_of_ble_eq_true rfl⟩ ⟨Nat.le_refl _, Nat.le_refl _⟩) hS (fun x_53 iv_49 rv_50 H locs hG fa_51 fb_52 hp_48 hU hS => ?_)
    have hF1 := hF1.tr (m := ([16], [])) fa_51 (by decide)
    have hF2 := hF2.tr (m := ([16], [])) fb_52 (by decide)
    exact hret (⟨hG, hF1, hF2, trivial⟩) hU hS dX12_legOf_13
set_option maxHeartbeats 4000000 in
set_option maxRecDepth 100000 in
theorem c_X12_ahead {l : Launch} {D : va_G} {cA : FieldType → ClassId} {sz : Nat} {al : Al} {iv : Iv} {rv : Rv} (hG : GI al iv rv) (lg : Int32) (bb : Int32) (pre0 : 0 ≤ bb.toInt ∧ bb.toInt ≤ 1) : Met l yX12_ahead (wd yX12_ahead cX12_ahead 4 (some .int)) (rm 2) (PcW D cA sz al iv rv [.ref (al.2 0 0), .int lg, .int bb]) (QI D cA sz al (fI al ([16], []) iv rv (fun r iv' rv' => True))) 0 0 (Aq sz) := by
  refine mk_i (by decide) (Nat.le_of_ble_eq_true rfl) rfl ?_
  intro p e s m args below meth c ls Q H locs C hU hS hl hret
  have hx := C.1.1
  have hb := C.1.2.1
  have hl : lv_has ls 4 [(0, .ref (al.2 0 0)), (1, .int lg), (2, .int bb)] := hl
  have hG0 := hG
  have h6 := le6 hG
  have h20 := le20 hG
  have h41 := le41 hG
  have hF1 : FR ([16], []) iv iv := FR.rf
  have hF2 : FR ([16], []) rv rv := FR.rf
  have km9 : ((-9) : Int32).toInt = -9 := by decide
  have km1 : ((-1) : Int32).toInt = -1 := by decide
  refine lv_aload_n hx hb dX12_ahead_0 rfl (lv_at hl 0 rfl) ?_
  refine lv_iload_n hx hb dX12_ahead_1 rfl (lv_at hl 1 rfl) ?_
  refine q_pi (q_runV (t := 0) (i := 0) (As := [.int lg]) (rest := []) C hU (c_X12_isLeg hG lg ) vm_X12_isLeg ml_X12_181 k_0.1 (hc := rfl) rfl (h1_0 hG) hl.1 rfl rfl (Nat.le_of_ble_eq_true rfl) dX12_ahead_2 rfl rfl ⟨Nat.le_of_ble_eq_true rfl, Nat.le_of_ble_eq_true rfl⟩ ⟨Nat.le_refl _, Nat.le_refl _⟩) hS (fun x_2 H locs hp_1 hU hS => ?_)
  refine b_if_ne (tgt := 14) hx hb dX12_ahead_5 (by decide) (fun c_3 => ?_) (fun c_3 => ?_)
  ·
    refine lv_aload_n hx hb dX12_ahead_14 rfl (lv_at hl 0 rfl) ?_
    refine lv_iload_n hx hb dX12_ahead_15 rfl (lv_at hl 1 rfl) ?_
    refine lv_iload_n hx hb dX12_ahead_16 rfl (lv_at hl 2 rfl) ?_
    refine q_pi (q_runV (t := 0) (i := 0) (As := [.int lg, .int bb]) (rest := []) C hU (c_X12_aheadOf hG lg bb (by omega)) vm_X12_aheadOf ml_X12_196 k_0.1 (hc := rfl) rfl (h1_0 hG) hl.1 rfl rfl (Nat.le_of_ble_eq_true rfl) dX12_ahead_17 rfl rfl ⟨Nat.le_of_ble_eq_true rfl, Nat.le_of_ble_eq_true rfl⟩ ⟨Nat.le_refl _, Nat.le_refl _⟩) hS (fun x_5 H locs hp_4 hU hS => ?_)
    have q_6 := hp_4.2.1
    have tq_6 := congrArg Int32.toInt q_6
    refine lv_istore_n (lv' := [(3, .int x_5), (0, .ref (al.2 0 0)), (1, .int lg), (2, .int bb)]) hx hb dX12_ahead_20 rfl hl (by decide) rfl (fun ls hl => ?_)
    refine lv_iload_n hx hb dX12_ahead_21 rfl (lv_at hl 0 rfl) ?_
    refine b_if_ge (tgt := 30) hx hb dX12_ahead_22 (by decide) (fun c_7 => ?_) (fun c_7 => ?_)
    ·
      refine lv_iload_n hx hb dX12_ahead_30 rfl (lv_at hl 0 rfl) ?_
      exact hret (⟨hG, hF1, hF2, trivial⟩) hU hS dX12_ahead_31
    ·
      refine lv_bipush (v := (-9)) hx hb dX12_ahead_25 (by decide) ?_
      refine lv_goto (tgt := 31) hx hb dX12_ahead_27 (by decide) ?_
      exact hret (⟨hG, hF1, hF2, trivial⟩) hU hS dX12_ahead_31
  ·
    refine lv_aload_n hx hb dX12_ahead_8 rfl (lv_at hl 0 rfl) ?_
    refine lv_iconst (v := (-1)) hx hb dX12_ahead_9 (by decide) ?_
    refine q_fi (q_runV (t := 0) (i := 0) (As := [.int (-1)]) (rest := []) C hU (c_X12_refuse hG (-1) (by omega)) vm_X12_refuse ml_X12_164 k_0.1 (hc := rfl) rfl (h1_0 hG) hl.1 rfl rfl (Nat.le_of_ble_eq_true rfl) dX12_ahead_10 rfl rfl ⟨Nat.le_of_ble_eq_true rfl, Nat.le_of_ble_eq_true rfl⟩ ⟨Nat.le_refl _, Nat.le_refl _⟩) hS (fun x_13 iv_9 rv_10 H locs hG fa_11 fb_12 hp_8 hU hS => ?_)
    have hF1 := hF1.tr (m := ([16], [])) fa_11 (by decide)
    have hF2 := hF2.tr (m := ([16], [])) fb_12 (by decide)
    exact hret (⟨hG, hF1, hF2, trivial⟩) hU hS dX12_ahead_13
set_option maxHeartbeats 4000000 in
set_option maxRecDepth 100000 in
theorem c_X12_minutes {l : Launch} {D : va_G} {cA : FieldType → ClassId} {sz : Nat} {al : Al} {iv : Iv} {rv : Rv} (hG : GI al iv rv) (lg : Int32) (cs : Int32) : Met l yX12_minutes (wd yX12_minutes cX12_minutes 3 (some .int)) (rm 7) (PcW D cA sz al iv rv [.ref (al.2 0 0), .int lg, .int cs]) (QI D cA sz al (fI al ([16, 17], []) iv rv (fun r iv' rv' => True))) 0 0 (Aq sz) := by
  refine mk_i (by decide) (Nat.le_of_ble_eq_true rfl) rfl ?_
  intro p e s m args below meth c ls Q H locs C hU hS hl hret
  have hx := C.1.1
  have hb := C.1.2.1
  have hl : lv_has ls 3 [(0, .ref (al.2 0 0)), (1, .int lg), (2, .int cs)] := hl
  have hG0 := hG
  have h6 := le6 hG
  have h20 := le20 hG
  have h41 := le41 hG
  have hF1 : FR ([16, 17], []) iv iv := FR.rf
  have hF2 : FR ([16, 17], []) rv rv := FR.rf
  have km5 : ((-5) : Int32).toInt = -5 := by decide
  have km1 : ((-1) : Int32).toInt = -1 := by decide
  refine lv_aload_n hx hb dX12_minutes_0 rfl (lv_at hl 0 rfl) ?_
  refine lv_iload_n hx hb dX12_minutes_1 rfl (lv_at hl 1 rfl) ?_
  refine q_pi (q_runV (t := 0) (i := 0) (As := [.int lg]) (rest := []) C hU (c_X12_isLeg hG lg ) vm_X12_isLeg ml_X12_181 k_0.1 (hc := rfl) rfl (h1_0 hG) hl.1 rfl rfl (Nat.le_of_ble_eq_true rfl) dX12_minutes_2 rfl rfl ⟨Nat.le_of_ble_eq_true rfl, Nat.le_of_ble_eq_true rfl⟩ ⟨Nat.le_refl _, Nat.le_refl _⟩) hS (fun x_2 H locs hp_1 hU hS => ?_)
  refine b_if_eq (tgt := 15) hx hb dX12_minutes_5 (by decide) (fun c_3 => ?_) (fun c_3 => ?_)
  ·
    refine lv_aload_n hx hb dX12_minutes_15 rfl (lv_at hl 0 rfl) ?_
    refine lv_iconst (v := (-1)) hx hb dX12_minutes_16 (by decide) ?_
    refine q_fi (q_runV (t := 0) (i := 0) (As := [.int (-1)]) (rest := []) C hU (c_X12_refuse hG (-1) (by omega)) vm_X12_refuse ml_X12_164 k_0.1 (hc := rfl) rfl (h1_0 hG) hl.1 rfl rfl (Nat.le_of_ble_eq_true rfl) dX12_minutes_17 rfl rfl ⟨Nat.le_of_ble_eq_true rfl, Nat.le_of_ble_eq_true rfl⟩ ⟨Nat.le_refl _, Nat.le_refl _⟩) hS (fun x_9 iv_5 rv_6 H locs hG fa_7 fb_8 hp_4 hU hS => ?_)
    have hF1 := hF1.tr (m := ([16, 17], [])) fa_7 (by decide)
    have hF2 := hF2.tr (m := ([16, 17], [])) fb_8 (by decide)
    exact hret (⟨hG, hF1, hF2, trivial⟩) hU hS dX12_minutes_20
  ·
    refine lv_iload_n hx hb dX12_minutes_8 rfl (lv_at hl 2 rfl) ?_
    refine q_pi (q_runS (As := [.int cs]) (rest := []) C hU (c_X12_isCause  cs ) sm_X12_isCause ml_X12_184 hl.1 rfl rfl (Nat.le_of_ble_eq_true rfl) dX12_minutes_9 rfl rfl ⟨Nat.le_of_ble_eq_true rfl, Nat.le_of_ble_eq_true rfl⟩ ⟨Nat.le_refl _, Nat.le_refl _⟩) hS (fun x_11 H locs hp_10 hU hS => ?_)
    refine b_if_ne (tgt := 21) hx hb dX12_minutes_12 (by decide) (fun c_12 => ?_) (fun c_12 => ?_)
    ·
      refine lv_aload_n hx hb dX12_minutes_21 rfl (lv_at hl 0 rfl) ?_
      refine g_0_13 C hU hG (h1_0 hG) fl_X12_40 dX12_minutes_22 ?_
      refine lv_iload_n hx hb dX12_minutes_25 rfl (lv_at hl 1 rfl) ?_
      refine a_11 C hU hG (h1_11 hG) (x := lg) (by omega) (by omega) dX12_minutes_26 (fun x_13 e_14 le_14 ue_14 => ?_)
      have te_14 := congrArg Int32.toInt e_14
      refine b_if_ne (tgt := 37) hx hb dX12_minutes_27 (by decide) (fun c_15 => ?_) (fun c_15 => ?_)
      ·
        refine lv_aload_n hx hb dX12_minutes_37 rfl (lv_at hl 0 rfl) ?_
        refine lv_iload_n hx hb dX12_minutes_38 rfl (lv_at hl 1 rfl) ?_
        refine q_fv (q_runV (t := 0) (i := 0) (As := [.int lg]) (rest := []) C hU (c_X12_findMinutes hG lg (by omega)) vm_X12_findMinutes ml_X12_219 k_0.1 (hc := rfl) rfl (h1_0 hG) hl.1 rfl rfl (Nat.le_of_ble_eq_true rfl) dX12_minutes_39 rfl rfl ⟨Nat.le_of_ble_eq_true rfl, Nat.le_of_ble_eq_true rfl⟩ ⟨Nat.le_refl _, Nat.le_refl _⟩) hS (fun iv_17 rv_18 H locs hG fa_19 fb_20 hp_16 hU hS => ?_)
        have hF1 := hF1.tr (m := ([16, 17], [])) fa_19 (by decide)
        have hF2 := hF2.tr (m := ([16, 17], [])) fb_20 (by decide)
        refine lv_aload_n hx hb dX12_minutes_42 rfl (lv_at hl 0 rfl) ?_
        refine g_0_19 C hU hG (h1_0 hG) fl_X12_59 dX12_minutes_43 ?_
        refine lv_iload_n hx hb dX12_minutes_46 rfl (lv_at hl 2 rfl) ?_
        refine a_17 C hU hG (h1_17 hG) (x := cs) (by omega) (by omega) dX12_minutes_47 (fun x_21 e_22 => ?_)
        have te_22 := congrArg Int32.toInt e_22
        exact hret (⟨hG, hF1, hF2, trivial⟩) hU hS dX12_minutes_48
      ·
        refine lv_aload_n hx hb dX12_minutes_30 rfl (lv_at hl 0 rfl) ?_
        refine lv_bipush (v := (-5)) hx hb dX12_minutes_31 (by decide) ?_
        refine q_fi (q_runV (t := 0) (i := 0) (As := [.int (-5)]) (rest := []) C hU (c_X12_refuse hG (-5) (by omega)) vm_X12_refuse ml_X12_164 k_0.1 (hc := rfl) rfl (h1_0 hG) hl.1 rfl rfl (Nat.le_of_ble_eq_true rfl) dX12_minutes_33 rfl rfl ⟨Nat.le_of_ble_eq_true rfl, Nat.le_of_ble_eq_true rfl⟩ ⟨Nat.le_refl _, Nat.le_refl _⟩) hS (fun x_28 iv_24 rv_25 H locs hG fa_26 fb_27 hp_23 hU hS => ?_)
        have hF1 := hF1.tr (m := ([16, 17], [])) fa_26 (by decide)
        have hF2 := hF2.tr (m := ([16, 17], [])) fb_27 (by decide)
        exact hret (⟨hG, hF1, hF2, trivial⟩) hU hS dX12_minutes_36
    ·
      refine lv_aload_n hx hb dX12_minutes_15 rfl (lv_at hl 0 rfl) ?_
      refine lv_iconst (v := (-1)) hx hb dX12_minutes_16 (by decide) ?_
      refine q_fi (q_runV (t := 0) (i := 0) (As := [.int (-1)]) (rest := []) C hU (c_X12_refuse hG (-1) (by omega)) vm_X12_refuse ml_X12_164 k_0.1 (hc := rfl) rfl (h1_0 hG) hl.1 rfl rfl (Nat.le_of_ble_eq_true rfl) dX12_minutes_17 rfl rfl ⟨Nat.le_of_ble_eq_true rfl, Nat.le_of_ble_eq_true rfl⟩ ⟨Nat.le_refl _, Nat.le_refl _⟩) hS (fun x_34 iv_30 rv_31 H locs hG fa_32 fb_33 hp_29 hU hS => ?_)
      have hF1 := hF1.tr (m := ([16, 17], [])) fa_32 (by decide)
      have hF2 := hF2.tr (m := ([16, 17], [])) fb_33 (by decide)
      exact hret (⟨hG, hF1, hF2, trivial⟩) hU hS dX12_minutes_20
set_option maxHeartbeats 4000000 in
set_option maxRecDepth 100000 in
theorem c_X12_saved {l : Launch} {D : va_G} {cA : FieldType → ClassId} {sz : Nat} {al : Al} {iv : Iv} {rv : Rv} (hG : GI al iv rv) (lg : Int32) (fr : Int32) : Met l yX12_saved (wd yX12_saved cX12_saved 4 (some .int)) (rm 4) (PcW D cA sz al iv rv [.ref (al.2 0 0), .int lg, .int fr]) (QI D cA sz al (fI al ([16], []) iv rv (fun r iv' rv' => True))) 0 0 (Aq sz) := by
  refine mk_i (by decide) (Nat.le_of_ble_eq_true rfl) rfl ?_
  intro p e s m args below meth c ls Q H locs C hU hS hl hret
  have hx := C.1.1
  have hb := C.1.2.1
  have hl : lv_has ls 4 [(0, .ref (al.2 0 0)), (1, .int lg), (2, .int fr)] := hl
  have hG0 := hG
  have h6 := le6 hG
  have h20 := le20 hG
  have h41 := le41 hG
  have hF1 : FR ([16], []) iv iv := FR.rf
  have hF2 : FR ([16], []) rv rv := FR.rf
  have km6 : ((-6) : Int32).toInt = -6 := by decide
  have km5 : ((-5) : Int32).toInt = -5 := by decide
  have km4 : ((-4) : Int32).toInt = -4 := by decide
  have km1 : ((-1) : Int32).toInt = -1 := by decide
  have k1 : (1 : Int32).toInt = 1 := by decide
  have k30000 : (30000 : Int32).toInt = 30000 := by decide
  refine lv_aload_n hx hb dX12_saved_0 rfl (lv_at hl 0 rfl) ?_
  refine lv_iload_n hx hb dX12_saved_1 rfl (lv_at hl 1 rfl) ?_
  refine q_pi (q_runV (t := 0) (i := 0) (As := [.int lg]) (rest := []) C hU (c_X12_isLeg hG lg ) vm_X12_isLeg ml_X12_181 k_0.1 (hc := rfl) rfl (h1_0 hG) hl.1 rfl rfl (Nat.le_of_ble_eq_true rfl) dX12_saved_2 rfl rfl ⟨Nat.le_of_ble_eq_true rfl, Nat.le_of_ble_eq_true rfl⟩ ⟨Nat.le_refl _, Nat.le_refl _⟩) hS (fun x_2 H locs hp_1 hU hS => ?_)
  refine b_if_ne (tgt := 14) hx hb dX12_saved_5 (by decide) (fun c_3 => ?_) (fun c_3 => ?_)
  ·
    refine lv_aload_n hx hb dX12_saved_14 rfl (lv_at hl 0 rfl) ?_
    refine g_0_13 C hU hG (h1_0 hG) fl_X12_40 dX12_saved_15 ?_
    refine lv_iload_n hx hb dX12_saved_18 rfl (lv_at hl 1 rfl) ?_
    refine a_11 C hU hG (h1_11 hG) (x := lg) (by omega) (by omega) dX12_saved_19 (fun x_4 e_5 le_5 ue_5 => ?_)
    have te_5 := congrArg Int32.toInt e_5
    refine b_if_ne (tgt := 30) hx hb dX12_saved_20 (by decide) (fun c_6 => ?_) (fun c_6 => ?_)
    ·
      refine lv_iload_n hx hb dX12_saved_30 rfl (lv_at hl 2 rfl) ?_
      refine b_if_ge (tgt := 41) hx hb dX12_saved_31 (by decide) (fun c_7 => ?_) (fun c_7 => ?_)
      ·
        refine lv_iload_n hx hb dX12_saved_41 rfl (lv_at hl 2 rfl) ?_
        refine lv_sipush (v := 30000) hx hb dX12_saved_42 (by decide) ?_
        refine b_icmp_le (tgt := 55) hx hb dX12_saved_45 (by decide) (fun c_8 => ?_) (fun c_8 => ?_)
        ·
          refine lv_aload_n hx hb dX12_saved_55 rfl (lv_at hl 0 rfl) ?_
          refine g_0_11 C hU hG (h1_0 hG) fl_X12_34 dX12_saved_56 ?_
          refine lv_iload_n hx hb dX12_saved_59 rfl (lv_at hl 1 rfl) ?_
          refine a_9 C hU hG (h1_9 hG) (x := lg) (by omega) (by omega) dX12_saved_60 (fun x_9 e_10 le_10 ue_10 => ?_)
          have te_10 := congrArg Int32.toInt e_10
          refine lv_aload_n hx hb dX12_saved_61 rfl (lv_at hl 0 rfl) ?_
          refine lv_iload_n hx hb dX12_saved_62 rfl (lv_at hl 1 rfl) ?_
          refine lv_iconst (v := 1) hx hb dX12_saved_63 (by decide) ?_
          refine q_pi (q_runV (t := 0) (i := 0) (As := [.int lg, .int 1]) (rest := [.int x_9]) C hU (c_X12_waitOf hG lg 1 (by omega)) vm_X12_waitOf ml_X12_207 k_0.1 (hc := rfl) rfl (h1_0 hG) hl.1 rfl rfl (Nat.le_of_ble_eq_true rfl) dX12_saved_64 rfl rfl ⟨Nat.le_of_ble_eq_true rfl, Nat.le_of_ble_eq_true rfl⟩ ⟨Nat.le_refl _, Nat.le_refl _⟩) hS (fun x_12 H locs hp_11 hU hS => ?_)
          have q_13 := hp_11.2
          have tq_13 := congrArg Int32.toInt q_13
          refine lv_iadd hx hb dX12_saved_67 ?_
          refine lv_topi (fun x_14 e_15 => ?_)
          refine lv_istore_n (lv' := [(3, .int x_14), (0, .ref (al.2 0 0)), (1, .int lg), (2, .int fr)]) hx hb dX12_saved_68 rfl hl (by decide) rfl (fun ls hl => ?_)
          refine lv_iload_n hx hb dX12_saved_69 rfl (lv_at hl 3 rfl) ?_
          refine lv_iload_n hx hb dX12_saved_70 rfl (lv_at hl 0 rfl) ?_
          refine b_icmp_le (tgt := 78) hx hb dX12_saved_71 (by decide) (fun c_16 => ?_) (fun c_16 => ?_)
          ·
            refine lv_iload_n hx hb dX12_saved_78 rfl (lv_at hl 0 rfl) ?_
            refine lv_istore_n (lv' := [(3, .int x_14), (0, .ref (al.2 0 0)), (1, .int lg), (2, .int fr)]) hx hb dX12_saved_79 rfl hl (by decide) rfl (fun ls hl => ?_)
            refine lv_aload_n hx hb dX12_saved_80 rfl (lv_at hl 1 rfl) ?_
            refine lv_iload_n hx hb dX12_saved_81 rfl (lv_at hl 2 rfl) ?_
            refine q_pi (q_runV (t := 0) (i := 0) (As := [.int lg]) (rest := []) C hU (c_X12_rightLeave hG lg (by omega)) vm_X12_rightLeave ml_X12_193 k_0.1 (hc := rfl) rfl (h1_0 hG) hl.1 rfl rfl (Nat.le_of_ble_eq_true rfl) dX12_saved_82 rfl rfl ⟨Nat.le_of_ble_eq_true rfl, Nat.le_of_ble_eq_true rfl⟩ ⟨Nat.le_refl _, Nat.le_refl _⟩) hS (fun x_18 H locs hp_17 hU hS => ?_)
            have q_19 := hp_17.2
            have tq_19 := congrArg Int32.toInt q_19
            refine lv_iload_n hx hb dX12_saved_85 rfl (lv_at hl 0 rfl) ?_
            refine lv_isub hx hb dX12_saved_86 ?_
            refine lv_topi (fun x_20 e_21 => ?_)
            have w_22 := fb_rng x_18
            have w_23 := fb_rng x_14
            have te_21 : x_20.toInt = (x_18 : Int32).toInt - (x_14 : Int32).toInt := by rw [e_21]; exact fb_subI (by omega) (by omega)
            refine q_pi (q_runS (As := [.int x_20]) (rest := []) C hU (c_X12_over  x_20 ) sm_X12_over ml_X12_187 hl.1 rfl rfl (Nat.le_of_ble_eq_true rfl) dX12_saved_87 rfl rfl ⟨Nat.le_of_ble_eq_true rfl, Nat.le_of_ble_eq_true rfl⟩ ⟨Nat.le_refl _, Nat.le_refl _⟩) hS (fun x_25 H locs hp_24 hU hS => ?_)
            have q_26 := hp_24.2
            have tq_26 := congrArg Int32.toInt q_26
            exact hret (⟨hG, hF1, hF2, trivial⟩) hU hS dX12_saved_90
          ·
            refine lv_iload_n hx hb dX12_saved_74 rfl (lv_at hl 3 rfl) ?_
            refine lv_goto (tgt := 79) hx hb dX12_saved_75 (by decide) ?_
            refine lv_istore_n (lv' := [(3, .int fr), (0, .ref (al.2 0 0)), (1, .int lg), (2, .int fr)]) hx hb dX12_saved_79 rfl hl (by decide) rfl (fun ls hl => ?_)
            refine lv_aload_n hx hb dX12_saved_80 rfl (lv_at hl 1 rfl) ?_
            refine lv_iload_n hx hb dX12_saved_81 rfl (lv_at hl 2 rfl) ?_
            refine q_pi (q_runV (t := 0) (i := 0) (As := [.int lg]) (rest := []) C hU (c_X12_rightLeave hG lg (by omega)) vm_X12_rightLeave ml_X12_193 k_0.1 (hc := rfl) rfl (h1_0 hG) hl.1 rfl rfl (Nat.le_of_ble_eq_true rfl) dX12_saved_82 rfl rfl ⟨Nat.le_of_ble_eq_true rfl, Nat.le_of_ble_eq_true rfl⟩ ⟨Nat.le_refl _, Nat.le_refl _⟩) hS (fun x_28 H locs hp_27 hU hS => ?_)
            have q_29 := hp_27.2
            have tq_29 := congrArg Int32.toInt q_29
            refine lv_iload_n hx hb dX12_saved_85 rfl (lv_at hl 0 rfl) ?_
            refine lv_isub hx hb dX12_saved_86 ?_
            refine lv_topi (fun x_30 e_31 => ?_)
            have w_32 := fb_rng x_28
            have te_31 : x_30.toInt = (x_28 : Int32).toInt - (fr : Int32).toInt := by rw [e_31]; exact fb_subI (by omega) (by omega)
            refine q_pi (q_runS (As := [.int x_30]) (rest := []) C hU (c_X12_over  x_30 ) sm_X12_over ml_X12_187 hl.1 rfl rfl (Nat.le_of_ble_eq_true rfl) dX12_saved_87 rfl rfl ⟨Nat.le_of_ble_eq_true rfl, Nat.le_of_ble_eq_true rfl⟩ ⟨Nat.le_refl _, Nat.le_refl _⟩) hS (fun x_34 H locs hp_33 hU hS => ?_)
            have q_35 := hp_33.2
            have tq_35 := congrArg Int32.toInt q_35
            exact hret (⟨hG, hF1, hF2, trivial⟩) hU hS dX12_saved_90
        ·
          refine lv_aload_n hx hb dX12_saved_48 rfl (lv_at hl 0 rfl) ?_
          refine lv_bipush (v := (-6)) hx hb dX12_saved_49 (by decide) ?_
          refine q_fi (q_runV (t := 0) (i := 0) (As := [.int (-6)]) (rest := []) C hU (c_X12_refuse hG (-6) (by omega)) vm_X12_refuse ml_X12_164 k_0.1 (hc := rfl) rfl (h1_0 hG) hl.1 rfl rfl (Nat.le_of_ble_eq_true rfl) dX12_saved_51 rfl rfl ⟨Nat.le_of_ble_eq_true rfl, Nat.le_of_ble_eq_true rfl⟩ ⟨Nat.le_refl _, Nat.le_refl _⟩) hS (fun x_41 iv_37 rv_38 H locs hG fa_39 fb_40 hp_36 hU hS => ?_)
          have hF1 := hF1.tr (m := ([16], [])) fa_39 (by decide)
          have hF2 := hF2.tr (m := ([16], [])) fb_40 (by decide)
          exact hret (⟨hG, hF1, hF2, trivial⟩) hU hS dX12_saved_54
      ·
        refine lv_aload_n hx hb dX12_saved_34 rfl (lv_at hl 0 rfl) ?_
        refine lv_bipush (v := (-4)) hx hb dX12_saved_35 (by decide) ?_
        refine q_fi (q_runV (t := 0) (i := 0) (As := [.int (-4)]) (rest := []) C hU (c_X12_refuse hG (-4) (by omega)) vm_X12_refuse ml_X12_164 k_0.1 (hc := rfl) rfl (h1_0 hG) hl.1 rfl rfl (Nat.le_of_ble_eq_true rfl) dX12_saved_37 rfl rfl ⟨Nat.le_of_ble_eq_true rfl, Nat.le_of_ble_eq_true rfl⟩ ⟨Nat.le_refl _, Nat.le_refl _⟩) hS (fun x_47 iv_43 rv_44 H locs hG fa_45 fb_46 hp_42 hU hS => ?_)
        have hF1 := hF1.tr (m := ([16], [])) fa_45 (by decide)
        have hF2 := hF2.tr (m := ([16], [])) fb_46 (by decide)
        exact hret (⟨hG, hF1, hF2, trivial⟩) hU hS dX12_saved_40
    ·
      refine lv_aload_n hx hb dX12_saved_23 rfl (lv_at hl 0 rfl) ?_
      refine lv_bipush (v := (-5)) hx hb dX12_saved_24 (by decide) ?_
      refine q_fi (q_runV (t := 0) (i := 0) (As := [.int (-5)]) (rest := []) C hU (c_X12_refuse hG (-5) (by omega)) vm_X12_refuse ml_X12_164 k_0.1 (hc := rfl) rfl (h1_0 hG) hl.1 rfl rfl (Nat.le_of_ble_eq_true rfl) dX12_saved_26 rfl rfl ⟨Nat.le_of_ble_eq_true rfl, Nat.le_of_ble_eq_true rfl⟩ ⟨Nat.le_refl _, Nat.le_refl _⟩) hS (fun x_53 iv_49 rv_50 H locs hG fa_51 fb_52 hp_48 hU hS => ?_)
      have hF1 := hF1.tr (m := ([16], [])) fa_51 (by decide)
      have hF2 := hF2.tr (m := ([16], [])) fb_52 (by decide)
      exact hret (⟨hG, hF1, hF2, trivial⟩) hU hS dX12_saved_29
  ·
    refine lv_aload_n hx hb dX12_saved_8 rfl (lv_at hl 0 rfl) ?_
    refine lv_iconst (v := (-1)) hx hb dX12_saved_9 (by decide) ?_
    refine q_fi (q_runV (t := 0) (i := 0) (As := [.int (-1)]) (rest := []) C hU (c_X12_refuse hG (-1) (by omega)) vm_X12_refuse ml_X12_164 k_0.1 (hc := rfl) rfl (h1_0 hG) hl.1 rfl rfl (Nat.le_of_ble_eq_true rfl) dX12_saved_10 rfl rfl ⟨Nat.le_of_ble_eq_true rfl, Nat.le_of_ble_eq_true rfl⟩ ⟨Nat.le_refl _, Nat.le_refl _⟩) hS (fun x_59 iv_55 rv_56 H locs hG fa_57 fb_58 hp_54 hU hS => ?_)
    have hF1 := hF1.tr (m := ([16], [])) fa_57 (by decide)
    have hF2 := hF2.tr (m := ([16], [])) fb_58 (by decide)
    exact hret (⟨hG, hF1, hF2, trivial⟩) hU hS dX12_saved_13
set_option maxHeartbeats 4000000 in
set_option maxRecDepth 100000 in
theorem c_X12_land {l : Launch} {D : va_G} {cA : FieldType → ClassId} {sz : Nat} {al : Al} {iv : Iv} {rv : Rv} (hG : GI al iv rv) (a : Int32) (v : Int32) : Met l yX12_land (wd yX12_land cX12_land 4 (some .int)) (rm 2) (PcW D cA sz al iv rv [.ref (al.2 0 0), .int a, .int v]) (QI D cA sz al (fI al ([16, 1], []) iv rv (fun r iv' rv' => True))) 0 0 (Aq sz) := by
  refine mk_i (by decide) (Nat.le_of_ble_eq_true rfl) rfl ?_
  intro p e s m args below meth c ls Q H locs C hU hS hl hret
  have hx := C.1.1
  have hb := C.1.2.1
  have hl : lv_has ls 4 [(0, .ref (al.2 0 0)), (1, .int a), (2, .int v)] := hl
  have hG0 := hG
  have h6 := le6 hG
  have h20 := le20 hG
  have h41 := le41 hG
  have hF1 : FR ([16, 1], []) iv iv := FR.rf
  have hF2 : FR ([16, 1], []) rv rv := FR.rf
  have km1 : ((-1) : Int32).toInt = -1 := by decide
  have k0 : (0 : Int32).toInt = 0 := by decide
  have k3 : (3 : Int32).toInt = 3 := by decide
  refine lv_iload_n hx hb dX12_land_0 rfl (lv_at hl 1 rfl) ?_
  refine q_pi (q_runS (As := [.int a]) (rest := []) C hU (c_X12_isPort  a ) sm_X12_isPort ml_X12_171 hl.1 rfl rfl (Nat.le_of_ble_eq_true rfl) dX12_land_1 rfl rfl ⟨Nat.le_of_ble_eq_true rfl, Nat.le_of_ble_eq_true rfl⟩ ⟨Nat.le_refl _, Nat.le_refl _⟩) hS (fun x_2 H locs hp_1 hU hS => ?_)
  refine b_if_eq (tgt := 16) hx hb dX12_land_4 (by decide) (fun c_3 => ?_) (fun c_3 => ?_)
  ·
    refine lv_aload_n hx hb dX12_land_16 rfl (lv_at hl 0 rfl) ?_
    refine lv_iconst (v := (-1)) hx hb dX12_land_17 (by decide) ?_
    refine q_fi (q_runV (t := 0) (i := 0) (As := [.int (-1)]) (rest := []) C hU (c_X12_refuse hG (-1) (by omega)) vm_X12_refuse ml_X12_164 k_0.1 (hc := rfl) rfl (h1_0 hG) hl.1 rfl rfl (Nat.le_of_ble_eq_true rfl) dX12_land_18 rfl rfl ⟨Nat.le_of_ble_eq_true rfl, Nat.le_of_ble_eq_true rfl⟩ ⟨Nat.le_refl _, Nat.le_refl _⟩) hS (fun x_9 iv_5 rv_6 H locs hG fa_7 fb_8 hp_4 hU hS => ?_)
    have hF1 := hF1.tr (m := ([16, 1], [])) fa_7 (by decide)
    have hF2 := hF2.tr (m := ([16, 1], [])) fb_8 (by decide)
    exact hret (⟨hG, hF1, hF2, trivial⟩) hU hS dX12_land_21
  ·
    refine lv_iload_n hx hb dX12_land_7 rfl (lv_at hl 2 rfl) ?_
    refine lv_iconst (v := 0) hx hb dX12_land_8 (by decide) ?_
    refine lv_iconst (v := 3) hx hb dX12_land_9 (by decide) ?_
    refine q_pi (q_runS (As := [.int v, .int 0, .int 3]) (rest := []) C hU (c_X12_in  v 0 3 ) sm_X12_in ml_X12_156 hl.1 rfl rfl (Nat.le_of_ble_eq_true rfl) dX12_land_10 rfl rfl ⟨Nat.le_of_ble_eq_true rfl, Nat.le_of_ble_eq_true rfl⟩ ⟨Nat.le_refl _, Nat.le_refl _⟩) hS (fun x_11 H locs hp_10 hU hS => ?_)
    refine b_if_ne (tgt := 22) hx hb dX12_land_13 (by decide) (fun c_12 => ?_) (fun c_12 => ?_)
    ·
      refine lv_aload_n hx hb dX12_land_22 rfl (lv_at hl 0 rfl) ?_
      refine g_0_1 C hU hG (h1_0 hG) fl_X12_7 dX12_land_23 ?_
      refine lv_iload_n hx hb dX12_land_26 rfl (lv_at hl 1 rfl) ?_
      refine a_1 C hU hG (h1_1 hG) (x := a) (by omega) (by omega) dX12_land_27 (fun x_13 e_14 le_14 ue_14 => ?_)
      have te_14 := congrArg Int32.toInt e_14
      refine lv_istore_n (lv' := [(3, .int x_13), (0, .ref (al.2 0 0)), (1, .int a), (2, .int v)]) hx hb dX12_land_28 rfl hl (by decide) rfl (fun ls hl => ?_)
      refine lv_aload_n hx hb dX12_land_29 rfl (lv_at hl 1 rfl) ?_
      refine g_0_1 C hU hG (h1_0 hG) fl_X12_7 dX12_land_30 ?_
      refine lv_iload_n hx hb dX12_land_33 rfl (lv_at hl 2 rfl) ?_
      refine lv_iload_n hx hb dX12_land_34 rfl (lv_at hl 3 rfl) ?_
      refine s_1 C hU hS (h1_1 hG) (x := a) (by omega) (by omega) dX12_land_35 (fun iv_15 H locs ei_16 hU hS => ?_)
      have hG : GI al iv_15 rv := by rw [ei_16]; exact hG.puti (show _ ∧ _ from ⟨show (0 : Int) ≤ _ by omega, show _ ≤ (3 : Int) by omega⟩) (nsA (by decide) _)
      have hF1 : FR ([16, 1], []) iv iv_15 := by rw [ei_16]; exact hF1.put (Or.inl (by decide))
      refine lv_iload_n hx hb dX12_land_36 rfl (lv_at hl 0 rfl) ?_
      exact hret (⟨hG, hF1, hF2, trivial⟩) hU hS dX12_land_37
    ·
      refine lv_aload_n hx hb dX12_land_16 rfl (lv_at hl 0 rfl) ?_
      refine lv_iconst (v := (-1)) hx hb dX12_land_17 (by decide) ?_
      refine q_fi (q_runV (t := 0) (i := 0) (As := [.int (-1)]) (rest := []) C hU (c_X12_refuse hG (-1) (by omega)) vm_X12_refuse ml_X12_164 k_0.1 (hc := rfl) rfl (h1_0 hG) hl.1 rfl rfl (Nat.le_of_ble_eq_true rfl) dX12_land_18 rfl rfl ⟨Nat.le_of_ble_eq_true rfl, Nat.le_of_ble_eq_true rfl⟩ ⟨Nat.le_refl _, Nat.le_refl _⟩) hS (fun x_22 iv_18 rv_19 H locs hG fa_20 fb_21 hp_17 hU hS => ?_)
      have hF1 := hF1.tr (m := ([16, 1], [])) fa_20 (by decide)
      have hF2 := hF2.tr (m := ([16, 1], [])) fb_21 (by decide)
      exact hret (⟨hG, hF1, hF2, trivial⟩) hU hS dX12_land_21
