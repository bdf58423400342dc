section
set_option maxHeartbeats 4000000 in
set_option maxRecDepth 100000 in
theorem c_X12_days_x {l : Launch} {D : va_G} {cA : FieldType → ClassId} {sz : Nat} {al : Al} {iv : Iv} {rv : Rv} (hG : GI al iv rv) (n : Int32) : Met l yX12_days (wd yX12_days cX12_days 2 (some .int)) (rm 1) (PcW D cA sz al iv rv [.ref (al.2 0 0), .int n]) (QI D cA sz al (fI al ([16], [(0, 0)]) iv rv (fun r iv' rv' => (iv' 0 0 0).toInt = dayF n.toInt (iv 0 0 0).toInt))) 0 0 (Aq sz) := by
  refine mk_i (by decide) (Nat.le_of_ble_eq_true rfl) rfl ?_
  intro p e s m args below meth c ls Q H locs C hU hS hl hret
  have hx := C.1.1
  have hb := C.1.2.1
  have hl : lv_has ls 2 [(0, .ref (al.2 0 0)), (1, .int n)] := hl
  have hG0 := hG
  have h6 := le6 hG
  have h20 := le20 hG
  have h41 := le41 hG
  have hF1 : FR ([16], [(0, 0)]) iv iv := FR.rf
  have hF2 : FR ([16], [(0, 0)]) rv rv := FR.rf
  have km6 : ((-6) : Int32).toInt = -6 := by decide
  have km4 : ((-4) : Int32).toInt = -4 := by decide
  have k1 : (1 : Int32).toInt = 1 := by decide
  have k4000 : (4000 : Int32).toInt = 4000 := by decide
  refine lv_iload_n hx hb dX12_days_0 rfl (lv_at hl 1 rfl) ?_
  refine lv_iconst (v := 1) hx hb dX12_days_1 (by decide) ?_
  refine b_icmp_ge (tgt := 12) hx hb dX12_days_2 (by decide) (fun c_1 => ?_) (fun c_1 => ?_)
  ·
    refine lv_iload_n hx hb dX12_days_12 rfl (lv_at hl 1 rfl) ?_
    refine lv_sipush (v := 4000) hx hb dX12_days_13 (by decide) ?_
    refine lv_aload_n hx hb dX12_days_16 rfl (lv_at hl 0 rfl) ?_
    refine g_0_0 C hU hG (h1_0 hG) fl_X12_168 dX12_days_17 (fun x_2 e_3 le_3 ue_3 => ?_)
    have te_3 := congrArg Int32.toInt e_3
    refine lv_isub hx hb dX12_days_20 ?_
    refine lv_topi (fun x_4 e_5 => ?_)
    have te_5 : x_4.toInt = (4000 : Int32).toInt - (x_2 : Int32).toInt := by rw [e_5]; exact fb_subI (by omega) (by omega)
    refine b_icmp_le (tgt := 31) hx hb dX12_days_21 (by decide) (fun c_6 => ?_) (fun c_6 => ?_)
    ·
      refine lv_aload_n hx hb dX12_days_31 rfl (lv_at hl 0 rfl) ?_
      refine lv_dup hx hb dX12_days_32 rfl ?_
      refine g_0_0 C hU hG (h1_0 hG) fl_X12_168 dX12_days_33 (fun x_7 e_8 le_8 ue_8 => ?_)
      have te_8 := congrArg Int32.toInt e_8
      refine lv_iload_n hx hb dX12_days_36 rfl (lv_at hl 1 rfl) ?_
      refine lv_iadd hx hb dX12_days_37 ?_
      refine lv_topi (fun x_9 e_10 => ?_)
      have te_10 : x_9.toInt = (x_7 : Int32).toInt + (n : Int32).toInt := by rw [e_10]; exact fb_addI (by omega) (by omega)
      refine p_0_0 C hU hS (h1_0 hG) fl_X12_168 dX12_days_38 (fun iv_11 H locs ei_12 hU hS => ?_)
      have hG : GI al iv_11 rv := by rw [ei_12]; exact hG.puti (show _ ∧ _ from ⟨show (0 : Int) ≤ _ by omega, show _ ≤ (4000 : Int) by omega⟩) (nsF (by decide))
      have hF1 : FR ([16], [(0, 0)]) iv iv_11 := by rw [ei_12]; exact hF1.put (by decide)
      refine lv_aload_n hx hb dX12_days_41 rfl (lv_at hl 0 rfl) ?_
      refine g_0_0 C hU hG (h1_0 hG) fl_X12_168 dX12_days_42 (fun x_13 e_14 le_14 ue_14 => ?_)
      have te_14 := congrArg Int32.toInt e_14
      exact hret (⟨hG, hF1, hF2, by show _ = _; rw [ei_12, up3_self]; unfold dayF; split <;> omega⟩) hU hS dX12_days_45
    ·
      refine lv_aload_n hx hb dX12_days_24 rfl (lv_at hl 0 rfl) ?_
      refine lv_bipush (v := (-6)) hx hb dX12_days_25 (by decide) ?_
      refine q_fi (q_runV (t := 0) (i := 0) (As := [.int (-6)]) (rest := []) C hU (c_X12_refuse hG (-6) (by omega)) vm_X12_refuse ml_X12_164 k_0.1 (hc := rfl) rfl (h1_0 hG) hl.1 rfl rfl (Nat.le_of_ble_eq_true rfl) dX12_days_27 rfl rfl ⟨Nat.le_of_ble_eq_true rfl, Nat.le_of_ble_eq_true rfl⟩ ⟨Nat.le_refl _, Nat.le_refl _⟩) hS (fun x_20 iv_16 rv_17 H locs hG fa_18 fb_19 hp_15 hU hS => ?_)
      have hF1 := hF1.tr (m := ([16], [(0, 0)])) fa_18 (by decide)
      have hF2 := hF2.tr (m := ([16], [(0, 0)])) fb_19 (by decide)
      exact hret (⟨hG, hF1, hF2, by show _ = _; rw [fa_18 0 0 0 (by decide)]; unfold dayF; split <;> omega⟩) hU hS dX12_days_30
  ·
    refine lv_aload_n hx hb dX12_days_5 rfl (lv_at hl 0 rfl) ?_
    refine lv_bipush (v := (-4)) hx hb dX12_days_6 (by decide) ?_
    refine q_fi (q_runV (t := 0) (i := 0) (As := [.int (-4)]) (rest := []) C hU (c_X12_refuse hG (-4) (by omega)) vm_X12_refuse ml_X12_164 k_0.1 (hc := rfl) rfl (h1_0 hG) hl.1 rfl rfl (Nat.le_of_ble_eq_true rfl) dX12_days_8 rfl rfl ⟨Nat.le_of_ble_eq_true rfl, Nat.le_of_ble_eq_true rfl⟩ ⟨Nat.le_refl _, Nat.le_refl _⟩) hS (fun x_26 iv_22 rv_23 H locs hG fa_24 fb_25 hp_21 hU hS => ?_)
    have hF1 := hF1.tr (m := ([16], [(0, 0)])) fa_24 (by decide)
    have hF2 := hF2.tr (m := ([16], [(0, 0)])) fb_25 (by decide)
    exact hret (⟨hG, hF1, hF2, by show _ = _; rw [fa_24 0 0 0 (by decide)]; unfold dayF; split <;> omega⟩) hU hS dX12_days_11
set_option maxHeartbeats 4000000 in
set_option maxRecDepth 100000 in
theorem c_X11_days_x {l : Launch} {D : va_G} {cA : FieldType → ClassId} {sz : Nat} {al : Al} {iv : Iv} {rv : Rv} (hG : GI al iv rv) (n : Int32) : Met l yX11_days (wd yX11_days cX11_days 2 (some .int)) (rm 2) (PcW D cA sz al iv rv [.ref (al.2 49 0), .int n]) (QI D cA sz al (fI al ([51], [(49, 9)]) iv rv (fun r iv' rv' => (iv' 49 0 9).toInt = dayF n.toInt (iv 49 0 9).toInt))) 0 0 (Aq sz) := by
  refine mk_i (by decide) (Nat.le_of_ble_eq_true rfl) rfl ?_
  intro p e s m args below meth c ls Q H locs C hU hS hl hret
  have hx := C.1.1
  have hb := C.1.2.1
  have hl : lv_has ls 2 [(0, .ref (al.2 49 0)), (1, .int n)] := hl
  have hG0 := hG
  have hF1 : FR ([51], [(49, 9)]) iv iv := FR.rf
  have hF2 : FR ([51], [(49, 9)]) rv rv := FR.rf
  have km6 : ((-6) : Int32).toInt = -6 := by decide
  have km4 : ((-4) : Int32).toInt = -4 := by decide
  have k4000 : (4000 : Int32).toInt = 4000 := by decide
  refine lv_iload_n hx hb dX11_days_0 rfl (lv_at hl 1 rfl) ?_
  refine b_if_ge (tgt := 11) hx hb dX11_days_1 (by decide) (fun c_1 => ?_) (fun c_1 => ?_)
  ·
    refine lv_iload_n hx hb dX11_days_11 rfl (lv_at hl 1 rfl) ?_
    refine lv_sipush (v := 4000) hx hb dX11_days_12 (by decide) ?_
    refine lv_aload_n hx hb dX11_days_15 rfl (lv_at hl 0 rfl) ?_
    refine g_49_9 C hU hG (h1_49 hG) fl_X11_73 dX11_days_16 (fun x_2 e_3 le_3 ue_3 => ?_)
    have te_3 := congrArg Int32.toInt e_3
    refine lv_isub hx hb dX11_days_19 ?_
    refine lv_topi (fun x_4 e_5 => ?_)
    have te_5 : x_4.toInt = (4000 : Int32).toInt - (x_2 : Int32).toInt := by rw [e_5]; exact fb_subI (by omega) (by omega)
    refine b_icmp_le (tgt := 30) hx hb dX11_days_20 (by decide) (fun c_6 => ?_) (fun c_6 => ?_)
    ·
      refine lv_aload_n hx hb dX11_days_30 rfl (lv_at hl 0 rfl) ?_
      refine lv_dup hx hb dX11_days_31 rfl ?_
      refine g_49_9 C hU hG (h1_49 hG) fl_X11_73 dX11_days_32 (fun x_7 e_8 le_8 ue_8 => ?_)
      have te_8 := congrArg Int32.toInt e_8
      refine lv_iload_n hx hb dX11_days_35 rfl (lv_at hl 1 rfl) ?_
      refine lv_iadd hx hb dX11_days_36 ?_
      refine lv_topi (fun x_9 e_10 => ?_)
      have te_10 : x_9.toInt = (x_7 : Int32).toInt + (n : Int32).toInt := by rw [e_10]; exact fb_addI (by omega) (by omega)
      refine p_49_9 C hU hS (h1_49 hG) fl_X11_73 dX11_days_37 (fun iv_11 H locs ei_12 hU hS => ?_)
      have hG : GI al iv_11 rv := by rw [ei_12]; exact hG.puti (show _ ∧ _ from ⟨show (0 : Int) ≤ _ by omega, show _ ≤ (4000 : Int) by omega⟩) (nsF (by decide))
      have hF1 : FR ([51], [(49, 9)]) iv iv_11 := by rw [ei_12]; exact hF1.put (by decide)
      refine lv_aload_n hx hb dX11_days_40 rfl (lv_at hl 0 rfl) ?_
      refine g_49_9 C hU hG (h1_49 hG) fl_X11_73 dX11_days_41 (fun x_13 e_14 le_14 ue_14 => ?_)
      have te_14 := congrArg Int32.toInt e_14
      exact hret (⟨hG, hF1, hF2, by show _ = _; rw [ei_12, up3_self]; unfold dayF; split <;> omega⟩) hU hS dX11_days_44
    ·
      refine lv_aload_n hx hb dX11_days_23 rfl (lv_at hl 0 rfl) ?_
      refine lv_bipush (v := (-6)) hx hb dX11_days_24 (by decide) ?_
      refine q_fi (q_runV (t := 49) (i := 0) (As := [.int (-6)]) (rest := []) C hU (c_X11_refuse hG (-6) (by omega)) vm_X11_refuse ml_X11_77 k_49.1 (hc := rfl) rfl (h1_49 hG) hl.1 rfl rfl (Nat.le_of_ble_eq_true rfl) dX11_days_26 rfl rfl ⟨Nat.le_of_ble_eq_true rfl, Nat.le_of_ble_eq_true rfl⟩ ⟨Nat.le_refl _, Nat.le_refl _⟩) hS (fun x_20 iv_16 rv_17 H locs hG fa_18 fb_19 hp_15 hU hS => ?_)
      have hF1 := hF1.tr (m := ([51], [(49, 9)])) fa_18 (by decide)
      have hF2 := hF2.tr (m := ([51], [(49, 9)])) fb_19 (by decide)
      exact hret (⟨hG, hF1, hF2, by show _ = _; rw [fa_18 49 0 9 (by decide)]; unfold dayF; split <;> omega⟩) hU hS dX11_days_29
  ·
    refine lv_aload_n hx hb dX11_days_4 rfl (lv_at hl 0 rfl) ?_
    refine lv_bipush (v := (-4)) hx hb dX11_days_5 (by decide) ?_
    refine q_fi (q_runV (t := 49) (i := 0) (As := [.int (-4)]) (rest := []) C hU (c_X11_refuse hG (-4) (by omega)) vm_X11_refuse ml_X11_77 k_49.1 (hc := rfl) rfl (h1_49 hG) hl.1 rfl rfl (Nat.le_of_ble_eq_true rfl) dX11_days_7 rfl rfl ⟨Nat.le_of_ble_eq_true rfl, Nat.le_of_ble_eq_true rfl⟩ ⟨Nat.le_refl _, Nat.le_refl _⟩) hS (fun x_26 iv_22 rv_23 H locs hG fa_24 fb_25 hp_21 hU hS => ?_)
    have hF1 := hF1.tr (m := ([51], [(49, 9)])) fa_24 (by decide)
    have hF2 := hF2.tr (m := ([51], [(49, 9)])) fb_25 (by decide)
    exact hret (⟨hG, hF1, hF2, by show _ = _; rw [fa_24 49 0 9 (by decide)]; unfold dayF; split <;> omega⟩) hU hS dX11_days_10
set_option maxHeartbeats 4000000 in
set_option maxRecDepth 100000 in
theorem c_X12_law_y {l : Launch} {D : va_G} {cA : FieldType → ClassId} {sz : Nat} {al : Al} {iv : Iv} {rv : Rv} (hG : GI al iv rv) (lw : Int32) (d : Int32) (mm : Int32) (far : Int32) (sm : Int32) : Met l yX12_law (wd yX12_law cX12_law 6 (some .int)) (rm 2) (PcW D cA sz al iv rv [.ref (al.2 0 0), .int lw, .int d, .int mm, .int far, .int sm]) (QI D cA sz al (fI al ([16, 21, 22, 23, 24, 25], [(0, 24)]) iv rv (fun r iv' rv' => (spLaw lw d mm far sm (iv 0 0 0).toInt (iv 0 0 24).toInt = 0 ∧ r.toInt = (iv 0 0 24).toInt ∧ (iv' 0 0 24).toInt = (iv 0 0 24).toInt + 1 ∧ (∀ k : Nat, iv' 21 0 k = (if k = (iv 0 0 24).toNatClampNeg then lw else iv 21 0 k) ∧ iv' 22 0 k = (if k = (iv 0 0 24).toNatClampNeg then d else iv 22 0 k) ∧ iv' 23 0 k = (if k = (iv 0 0 24).toNatClampNeg then mm else iv 23 0 k) ∧ iv' 24 0 k = (if k = (iv 0 0 24).toNatClampNeg then far else iv 24 0 k) ∧ iv' 25 0 k = (if k = (iv 0 0 24).toNatClampNeg then sm else iv 25 0 k))) ∨ (spLaw lw d mm far sm (iv 0 0 0).toInt (iv 0 0 24).toInt ≠ 0 ∧ r = spLaw lw d mm far sm (iv 0 0 0).toInt (iv 0 0 24).toInt ∧ iv' 0 0 24 = iv 0 0 24 ∧ (∀ k : Nat, iv' 21 0 k = iv 21 0 k ∧ iv' 22 0 k = iv 22 0 k ∧ iv' 23 0 k = iv 23 0 k ∧ iv' 24 0 k = iv 24 0 k ∧ iv' 25 0 k = iv 25 0 k))))) 0 0 (Aq sz) := by
  refine mk_i (by decide) (Nat.le_of_ble_eq_true rfl) rfl ?_
  intro p e s m args below meth c ls Q H locs C hU hS hl hret
  have hx := C.1.1
  have hb := C.1.2.1
  have hl : lv_has ls 6 [(0, .ref (al.2 0 0)), (1, .int lw), (2, .int d), (3, .int mm), (4, .int far), (5, .int sm)] := hl
  have hG0 := hG
  have h6 := le6 hG
  have h20 := le20 hG
  have h41 := le41 hG
  have hF1 : FR ([16, 21, 22, 23, 24, 25], [(0, 24)]) iv iv := FR.rf
  have hF2 : FR ([16, 21, 22, 23, 24, 25], [(0, 24)]) rv rv := FR.rf
  have km6 : ((-6) : Int32).toInt = -6 := by decide
  have km4 : ((-4) : Int32).toInt = -4 := by decide
  have km1 : ((-1) : Int32).toInt = -1 := by decide
  have k1 : (1 : Int32).toInt = 1 := by decide
  have k30 : (30 : Int32).toInt = 30 := by decide
  have k4000 : (4000 : Int32).toInt = 4000 := by decide
  have k9999 : (9999 : Int32).toInt = 9999 := by decide
  refine lv_iload_n hx hb dX12_law_0 rfl (lv_at hl 1 rfl) ?_
  refine q_pi (q_runS (As := [.int lw]) (rest := []) C hU (c_X12_isLand  lw ) sm_X12_isLand ml_X12_244 hl.1 rfl rfl (Nat.le_of_ble_eq_true rfl) dX12_law_1 rfl rfl ⟨Nat.le_of_ble_eq_true rfl, Nat.le_of_ble_eq_true rfl⟩ ⟨Nat.le_refl _, Nat.le_refl _⟩) hS (fun x_2 H locs hp_1 hU hS => ?_)
  refine b_if_ne (tgt := 13) hx hb dX12_law_4 (by decide) (fun c_3 => ?_) (fun c_3 => ?_)
  ·
    refine lv_iload_n hx hb dX12_law_13 rfl (lv_at hl 2 rfl) ?_
    refine lv_aload_n hx hb dX12_law_14 rfl (lv_at hl 0 rfl) ?_
    refine g_0_0 C hU hG (h1_0 hG) fl_X12_168 dX12_law_15 (fun x_4 e_5 le_5 ue_5 => ?_)
    have te_5 := congrArg Int32.toInt e_5
    refine b_icmp_lt (tgt := 35) hx hb dX12_law_18 (by decide) (fun c_6 => ?_) (fun c_6 => ?_)
    ·
      refine lv_aload_n hx hb dX12_law_35 rfl (lv_at hl 0 rfl) ?_
      refine lv_bipush (v := (-4)) hx hb dX12_law_36 (by decide) ?_
      refine q_fi (q_runV (t := 0) (i := 0) (As := [.int (-4)]) (rest := []) C hU (c_X12_refuse hG (-4) (by omega)) vm_X12_refuse ml_X12_164 k_0.1 (hc := rfl) rfl (h1_0 hG) hl.1 rfl rfl (Nat.le_of_ble_eq_true rfl) dX12_law_38 rfl rfl ⟨Nat.le_of_ble_eq_true rfl, Nat.le_of_ble_eq_true rfl⟩ ⟨Nat.le_refl _, Nat.le_refl _⟩) hS (fun x_12 iv_8 rv_9 H locs hG fa_10 fb_11 hp_7 hU hS => ?_)
      have hF1 := hF1.tr (m := ([16, 21, 22, 23, 24, 25], [(0, 24)])) fa_10 (by decide)
      have hF2 := hF2.tr (m := ([16, 21, 22, 23, 24, 25], [(0, 24)])) fb_11 (by decide)
      exact hret (⟨hG, hF1, hF2, sp_no (z := (-4)) (by unfold spLaw; (repeat' split) <;> first | rfl | omega) (by decide) hp_7 (⟨fa_10 0 0 24 (by decide), fun k => ⟨fa_10.arr 21 0 k (by decide), fa_10.arr 22 0 k (by decide), fa_10.arr 23 0 k (by decide), fa_10.arr 24 0 k (by decide), fa_10.arr 25 0 k (by decide)⟩⟩)⟩) hU hS dX12_law_41
    ·
      refine lv_iload_n hx hb dX12_law_21 rfl (lv_at hl 3 rfl) ?_
      refine b_if_lt (tgt := 35) hx hb dX12_law_22 (by decide) (fun c_13 => ?_) (fun c_13 => ?_)
      ·
        refine lv_aload_n hx hb dX12_law_35 rfl (lv_at hl 0 rfl) ?_
        refine lv_bipush (v := (-4)) hx hb dX12_law_36 (by decide) ?_
        refine q_fi (q_runV (t := 0) (i := 0) (As := [.int (-4)]) (rest := []) C hU (c_X12_refuse hG (-4) (by omega)) vm_X12_refuse ml_X12_164 k_0.1 (hc := rfl) rfl (h1_0 hG) hl.1 rfl rfl (Nat.le_of_ble_eq_true rfl) dX12_law_38 rfl rfl ⟨Nat.le_of_ble_eq_true rfl, Nat.le_of_ble_eq_true rfl⟩ ⟨Nat.le_refl _, Nat.le_refl _⟩) hS (fun x_19 iv_15 rv_16 H locs hG fa_17 fb_18 hp_14 hU hS => ?_)
        have hF1 := hF1.tr (m := ([16, 21, 22, 23, 24, 25], [(0, 24)])) fa_17 (by decide)
        have hF2 := hF2.tr (m := ([16, 21, 22, 23, 24, 25], [(0, 24)])) fb_18 (by decide)
        exact hret (⟨hG, hF1, hF2, sp_no (z := (-4)) (by unfold spLaw; (repeat' split) <;> first | rfl | omega) (by decide) hp_14 (⟨fa_17 0 0 24 (by decide), fun k => ⟨fa_17.arr 21 0 k (by decide), fa_17.arr 22 0 k (by decide), fa_17.arr 23 0 k (by decide), fa_17.arr 24 0 k (by decide), fa_17.arr 25 0 k (by decide)⟩⟩)⟩) hU hS dX12_law_41
      ·
        refine lv_iload hx hb dX12_law_25 (lv_at hl 4 rfl) ?_
        refine b_if_lt (tgt := 35) hx hb dX12_law_27 (by decide) (fun c_20 => ?_) (fun c_20 => ?_)
        ·
          refine lv_aload_n hx hb dX12_law_35 rfl (lv_at hl 0 rfl) ?_
          refine lv_bipush (v := (-4)) hx hb dX12_law_36 (by decide) ?_
          refine q_fi (q_runV (t := 0) (i := 0) (As := [.int (-4)]) (rest := []) C hU (c_X12_refuse hG (-4) (by omega)) vm_X12_refuse ml_X12_164 k_0.1 (hc := rfl) rfl (h1_0 hG) hl.1 rfl rfl (Nat.le_of_ble_eq_true rfl) dX12_law_38 rfl rfl ⟨Nat.le_of_ble_eq_true rfl, Nat.le_of_ble_eq_true rfl⟩ ⟨Nat.le_refl _, Nat.le_refl _⟩) hS (fun x_26 iv_22 rv_23 H locs hG fa_24 fb_25 hp_21 hU hS => ?_)
          have hF1 := hF1.tr (m := ([16, 21, 22, 23, 24, 25], [(0, 24)])) fa_24 (by decide)
          have hF2 := hF2.tr (m := ([16, 21, 22, 23, 24, 25], [(0, 24)])) fb_25 (by decide)
          exact hret (⟨hG, hF1, hF2, sp_no (z := (-4)) (by unfold spLaw; (repeat' split) <;> first | rfl | omega) (by decide) hp_21 (⟨fa_24 0 0 24 (by decide), fun k => ⟨fa_24.arr 21 0 k (by decide), fa_24.arr 22 0 k (by decide), fa_24.arr 23 0 k (by decide), fa_24.arr 24 0 k (by decide), fa_24.arr 25 0 k (by decide)⟩⟩)⟩) hU hS dX12_law_41
        ·
          refine lv_iload hx hb dX12_law_30 (lv_at hl 5 rfl) ?_
          refine b_if_ge (tgt := 42) hx hb dX12_law_32 (by decide) (fun c_27 => ?_) (fun c_27 => ?_)
          ·
            refine lv_iload_n hx hb dX12_law_42 rfl (lv_at hl 2 rfl) ?_
            refine lv_sipush (v := 4000) hx hb dX12_law_43 (by decide) ?_
            refine b_icmp_gt (tgt := 81) hx hb dX12_law_46 (by decide) (fun c_28 => ?_) (fun c_28 => ?_)
            ·
              refine lv_aload_n hx hb dX12_law_81 rfl (lv_at hl 0 rfl) ?_
              refine lv_bipush (v := (-6)) hx hb dX12_law_82 (by decide) ?_
              refine q_fi (q_runV (t := 0) (i := 0) (As := [.int (-6)]) (rest := []) C hU (c_X12_refuse hG (-6) (by omega)) vm_X12_refuse ml_X12_164 k_0.1 (hc := rfl) rfl (h1_0 hG) hl.1 rfl rfl (Nat.le_of_ble_eq_true rfl) dX12_law_84 rfl rfl ⟨Nat.le_of_ble_eq_true rfl, Nat.le_of_ble_eq_true rfl⟩ ⟨Nat.le_refl _, Nat.le_refl _⟩) hS (fun x_34 iv_30 rv_31 H locs hG fa_32 fb_33 hp_29 hU hS => ?_)
              have hF1 := hF1.tr (m := ([16, 21, 22, 23, 24, 25], [(0, 24)])) fa_32 (by decide)
              have hF2 := hF2.tr (m := ([16, 21, 22, 23, 24, 25], [(0, 24)])) fb_33 (by decide)
              exact hret (⟨hG, hF1, hF2, sp_no (z := (-6)) (by unfold spLaw; (repeat' split) <;> first | rfl | omega) (by decide) hp_29 (⟨fa_32 0 0 24 (by decide), fun k => ⟨fa_32.arr 21 0 k (by decide), fa_32.arr 22 0 k (by decide), fa_32.arr 23 0 k (by decide), fa_32.arr 24 0 k (by decide), fa_32.arr 25 0 k (by decide)⟩⟩)⟩) hU hS dX12_law_87
            ·
              refine lv_iload_n hx hb dX12_law_49 rfl (lv_at hl 3 rfl) ?_
              refine lv_sipush (v := 9999) hx hb dX12_law_50 (by decide) ?_
              refine b_icmp_gt (tgt := 81) hx hb dX12_law_53 (by decide) (fun c_35 => ?_) (fun c_35 => ?_)
              ·
                refine lv_aload_n hx hb dX12_law_81 rfl (lv_at hl 0 rfl) ?_
                refine lv_bipush (v := (-6)) hx hb dX12_law_82 (by decide) ?_
                refine q_fi (q_runV (t := 0) (i := 0) (As := [.int (-6)]) (rest := []) C hU (c_X12_refuse hG (-6) (by omega)) vm_X12_refuse ml_X12_164 k_0.1 (hc := rfl) rfl (h1_0 hG) hl.1 rfl rfl (Nat.le_of_ble_eq_true rfl) dX12_law_84 rfl rfl ⟨Nat.le_of_ble_eq_true rfl, Nat.le_of_ble_eq_true rfl⟩ ⟨Nat.le_refl _, Nat.le_refl _⟩) hS (fun x_41 iv_37 rv_38 H locs hG fa_39 fb_40 hp_36 hU hS => ?_)
                have hF1 := hF1.tr (m := ([16, 21, 22, 23, 24, 25], [(0, 24)])) fa_39 (by decide)
                have hF2 := hF2.tr (m := ([16, 21, 22, 23, 24, 25], [(0, 24)])) fb_40 (by decide)
                exact hret (⟨hG, hF1, hF2, sp_no (z := (-6)) (by unfold spLaw; (repeat' split) <;> first | rfl | omega) (by decide) hp_36 (⟨fa_39 0 0 24 (by decide), fun k => ⟨fa_39.arr 21 0 k (by decide), fa_39.arr 22 0 k (by decide), fa_39.arr 23 0 k (by decide), fa_39.arr 24 0 k (by decide), fa_39.arr 25 0 k (by decide)⟩⟩)⟩) hU hS dX12_law_87
              ·
                refine lv_iload hx hb dX12_law_56 (lv_at hl 4 rfl) ?_
                refine lv_sipush (v := 9999) hx hb dX12_law_58 (by decide) ?_
                refine b_icmp_gt (tgt := 81) hx hb dX12_law_61 (by decide) (fun c_42 => ?_) (fun c_42 => ?_)
                ·
                  refine lv_aload_n hx hb dX12_law_81 rfl (lv_at hl 0 rfl) ?_
                  refine lv_bipush (v := (-6)) hx hb dX12_law_82 (by decide) ?_
                  refine q_fi (q_runV (t := 0) (i := 0) (As := [.int (-6)]) (rest := []) C hU (c_X12_refuse hG (-6) (by omega)) vm_X12_refuse ml_X12_164 k_0.1 (hc := rfl) rfl (h1_0 hG) hl.1 rfl rfl (Nat.le_of_ble_eq_true rfl) dX12_law_84 rfl rfl ⟨Nat.le_of_ble_eq_true rfl, Nat.le_of_ble_eq_true rfl⟩ ⟨Nat.le_refl _, Nat.le_refl _⟩) hS (fun x_48 iv_44 rv_45 H locs hG fa_46 fb_47 hp_43 hU hS => ?_)
                  have hF1 := hF1.tr (m := ([16, 21, 22, 23, 24, 25], [(0, 24)])) fa_46 (by decide)
                  have hF2 := hF2.tr (m := ([16, 21, 22, 23, 24, 25], [(0, 24)])) fb_47 (by decide)
                  exact hret (⟨hG, hF1, hF2, sp_no (z := (-6)) (by unfold spLaw; (repeat' split) <;> first | rfl | omega) (by decide) hp_43 (⟨fa_46 0 0 24 (by decide), fun k => ⟨fa_46.arr 21 0 k (by decide), fa_46.arr 22 0 k (by decide), fa_46.arr 23 0 k (by decide), fa_46.arr 24 0 k (by decide), fa_46.arr 25 0 k (by decide)⟩⟩)⟩) hU hS dX12_law_87
                ·
                  refine lv_iload hx hb dX12_law_64 (lv_at hl 5 rfl) ?_
                  refine lv_sipush (v := 9999) hx hb dX12_law_66 (by decide) ?_
                  refine b_icmp_gt (tgt := 81) hx hb dX12_law_69 (by decide) (fun c_49 => ?_) (fun c_49 => ?_)
                  ·
                    refine lv_aload_n hx hb dX12_law_81 rfl (lv_at hl 0 rfl) ?_
                    refine lv_bipush (v := (-6)) hx hb dX12_law_82 (by decide) ?_
                    refine q_fi (q_runV (t := 0) (i := 0) (As := [.int (-6)]) (rest := []) C hU (c_X12_refuse hG (-6) (by omega)) vm_X12_refuse ml_X12_164 k_0.1 (hc := rfl) rfl (h1_0 hG) hl.1 rfl rfl (Nat.le_of_ble_eq_true rfl) dX12_law_84 rfl rfl ⟨Nat.le_of_ble_eq_true rfl, Nat.le_of_ble_eq_true rfl⟩ ⟨Nat.le_refl _, Nat.le_refl _⟩) hS (fun x_55 iv_51 rv_52 H locs hG fa_53 fb_54 hp_50 hU hS => ?_)
                    have hF1 := hF1.tr (m := ([16, 21, 22, 23, 24, 25], [(0, 24)])) fa_53 (by decide)
                    have hF2 := hF2.tr (m := ([16, 21, 22, 23, 24, 25], [(0, 24)])) fb_54 (by decide)
                    exact hret (⟨hG, hF1, hF2, sp_no (z := (-6)) (by unfold spLaw; (repeat' split) <;> first | rfl | omega) (by decide) hp_50 (⟨fa_53 0 0 24 (by decide), fun k => ⟨fa_53.arr 21 0 k (by decide), fa_53.arr 22 0 k (by decide), fa_53.arr 23 0 k (by decide), fa_53.arr 24 0 k (by decide), fa_53.arr 25 0 k (by decide)⟩⟩)⟩) hU hS dX12_law_87
                  ·
                    refine lv_aload_n hx hb dX12_law_72 rfl (lv_at hl 0 rfl) ?_
                    refine g_0_24 C hU hG (h1_0 hG) fl_X12_247 dX12_law_73 (fun x_56 e_57 le_57 ue_57 => ?_)
                    have te_57 := congrArg Int32.toInt e_57
                    refine lv_bipush (v := 30) hx hb dX12_law_76 (by decide) ?_
                    refine b_icmp_ne (tgt := 88) hx hb dX12_law_78 (by decide) (fun c_58 => ?_) (fun c_58 => ?_)
                    ·
                      refine lv_aload_n hx hb dX12_law_88 rfl (lv_at hl 0 rfl) ?_
                      refine g_0_25 C hU hG (h1_0 hG) fl_X12_71 dX12_law_89 ?_
                      refine lv_aload_n hx hb dX12_law_92 rfl (lv_at hl 0 rfl) ?_
                      refine g_0_24 C hU hG (h1_0 hG) fl_X12_247 dX12_law_93 (fun x_59 e_60 le_60 ue_60 => ?_)
                      have te_60 := congrArg Int32.toInt e_60
                      refine lv_iload_n hx hb dX12_law_96 rfl (lv_at hl 1 rfl) ?_
                      refine s_21 C hU hS (h1_21 hG) (x := x_59) (by omega) (by omega) dX12_law_97 (fun iv_61 H locs ei_62 hU hS => ?_)
                      have hG : GI al iv_61 rv := by rw [ei_62]; exact hG.puti (show _ ∧ _ from ⟨show (0 : Int) ≤ _ by omega, show _ ≤ (3 : Int) by omega⟩) (nsA (by decide) _)
                      have hF1 : FR ([16, 21, 22, 23, 24, 25], [(0, 24)]) iv iv_61 := by rw [ei_62]; exact hF1.put (Or.inl (by decide))
                      have kf_63 := congrArg Int32.toInt (show iv_61 0 0 24 = iv 0 0 24 by rw [ei_62]; exact up3_ne (fun z => absurd z.1 (by decide)))
                      refine lv_aload_n hx hb dX12_law_98 rfl (lv_at hl 0 rfl) ?_
                      refine g_0_26 C hU hG (h1_0 hG) fl_X12_74 dX12_law_99 ?_
                      refine lv_aload_n hx hb dX12_law_102 rfl (lv_at hl 0 rfl) ?_
                      refine g_0_24 C hU hG (h1_0 hG) fl_X12_247 dX12_law_103 (fun x_64 e_65 le_65 ue_65 => ?_)
                      have te_65 := congrArg Int32.toInt e_65
                      refine lv_iload_n hx hb dX12_law_106 rfl (lv_at hl 2 rfl) ?_
                      refine s_22 C hU hS (h1_22 hG) (x := x_64) (by omega) (by omega) dX12_law_107 (fun iv_66 H locs ei_67 hU hS => ?_)
                      have hG : GI al iv_66 rv := by rw [ei_67]; exact hG.puti (show _ ∧ _ from ⟨show (0 : Int) ≤ _ by omega, show _ ≤ (4000 : Int) by omega⟩) (nsA (by decide) _)
                      have hF1 : FR ([16, 21, 22, 23, 24, 25], [(0, 24)]) iv iv_66 := by rw [ei_67]; exact hF1.put (Or.inl (by decide))
                      have kf_68 := congrArg Int32.toInt (show iv_66 0 0 24 = iv_61 0 0 24 by rw [ei_67]; exact up3_ne (fun z => absurd z.1 (by decide)))
                      refine lv_aload_n hx hb dX12_law_108 rfl (lv_at hl 0 rfl) ?_
                      refine g_0_27 C hU hG (h1_0 hG) fl_X12_77 dX12_law_109 ?_
                      refine lv_aload_n hx hb dX12_law_112 rfl (lv_at hl 0 rfl) ?_
                      refine g_0_24 C hU hG (h1_0 hG) fl_X12_247 dX12_law_113 (fun x_69 e_70 le_70 ue_70 => ?_)
                      have te_70 := congrArg Int32.toInt e_70
                      refine lv_iload_n hx hb dX12_law_116 rfl (lv_at hl 3 rfl) ?_
                      refine s_23 C hU hS (h1_23 hG) (x := x_69) (by omega) (by omega) dX12_law_117 (fun iv_71 H locs ei_72 hU hS => ?_)
                      have hG : GI al iv_71 rv := by rw [ei_72]; exact hG.puti (show _ ∧ _ from ⟨show (0 : Int) ≤ _ by omega, show _ ≤ (9999 : Int) by omega⟩) (nsA (by decide) _)
                      have hF1 : FR ([16, 21, 22, 23, 24, 25], [(0, 24)]) iv iv_71 := by rw [ei_72]; exact hF1.put (Or.inl (by decide))
                      have kf_73 := congrArg Int32.toInt (show iv_71 0 0 24 = iv_66 0 0 24 by rw [ei_72]; exact up3_ne (fun z => absurd z.1 (by decide)))
                      refine lv_aload_n hx hb dX12_law_118 rfl (lv_at hl 0 rfl) ?_
                      refine g_0_28 C hU hG (h1_0 hG) fl_X12_80 dX12_law_119 ?_
                      refine lv_aload_n hx hb dX12_law_122 rfl (lv_at hl 0 rfl) ?_
                      refine g_0_24 C hU hG (h1_0 hG) fl_X12_247 dX12_law_123 (fun x_74 e_75 le_75 ue_75 => ?_)
                      have te_75 := congrArg Int32.toInt e_75
                      refine lv_iload hx hb dX12_law_126 (lv_at hl 4 rfl) ?_
                      refine s_24 C hU hS (h1_24 hG) (x := x_74) (by omega) (by omega) dX12_law_128 (fun iv_76 H locs ei_77 hU hS => ?_)
                      have hG : GI al iv_76 rv := by rw [ei_77]; exact hG.puti (show _ ∧ _ from ⟨show (0 : Int) ≤ _ by omega, show _ ≤ (9999 : Int) by omega⟩) (nsA (by decide) _)
                      have hF1 : FR ([16, 21, 22, 23, 24, 25], [(0, 24)]) iv iv_76 := by rw [ei_77]; exact hF1.put (Or.inl (by decide))
                      have kf_78 := congrArg Int32.toInt (show iv_76 0 0 24 = iv_71 0 0 24 by rw [ei_77]; exact up3_ne (fun z => absurd z.1 (by decide)))
                      refine lv_aload_n hx hb dX12_law_129 rfl (lv_at hl 0 rfl) ?_
                      refine g_0_29 C hU hG (h1_0 hG) fl_X12_83 dX12_law_130 ?_
                      refine lv_aload_n hx hb dX12_law_133 rfl (lv_at hl 0 rfl) ?_
                      refine g_0_24 C hU hG (h1_0 hG) fl_X12_247 dX12_law_134 (fun x_79 e_80 le_80 ue_80 => ?_)
                      have te_80 := congrArg Int32.toInt e_80
                      refine lv_iload hx hb dX12_law_137 (lv_at hl 5 rfl) ?_
                      refine s_25 C hU hS (h1_25 hG) (x := x_79) (by omega) (by omega) dX12_law_139 (fun iv_81 H locs ei_82 hU hS => ?_)
                      have hG : GI al iv_81 rv := by rw [ei_82]; exact hG.puti (show _ ∧ _ from ⟨show (0 : Int) ≤ _ by omega, show _ ≤ (9999 : Int) by omega⟩) (nsA (by decide) _)
                      have hF1 : FR ([16, 21, 22, 23, 24, 25], [(0, 24)]) iv iv_81 := by rw [ei_82]; exact hF1.put (Or.inl (by decide))
                      have kf_83 := congrArg Int32.toInt (show iv_81 0 0 24 = iv_76 0 0 24 by rw [ei_82]; exact up3_ne (fun z => absurd z.1 (by decide)))
                      refine lv_aload_n hx hb dX12_law_140 rfl (lv_at hl 0 rfl) ?_
                      refine lv_dup hx hb dX12_law_141 rfl ?_
                      refine g_0_24 C hU hG (h1_0 hG) fl_X12_247 dX12_law_142 (fun x_84 e_85 le_85 ue_85 => ?_)
                      have te_85 := congrArg Int32.toInt e_85
                      refine lv_iconst (v := 1) hx hb dX12_law_145 (by decide) ?_
                      refine lv_iadd hx hb dX12_law_146 ?_
                      refine lv_topi (fun x_86 e_87 => ?_)
                      have te_87 : x_86.toInt = (x_84 : Int32).toInt + (1 : Int32).toInt := by rw [e_87]; exact fb_addI (by omega) (by omega)
                      refine p_0_24 C hU hS (h1_0 hG) fl_X12_247 dX12_law_147 (fun iv_88 H locs ei_89 hU hS => ?_)
                      have hG : GI al iv_88 rv := by rw [ei_89]; exact hG.puti (show _ ∧ _ from ⟨show (0 : Int) ≤ _ by omega, show _ ≤ (30 : Int) by omega⟩) (nsF (by decide))
                      have hF1 : FR ([16, 21, 22, 23, 24, 25], [(0, 24)]) iv iv_88 := by rw [ei_89]; exact hF1.put (by decide)
                      refine lv_aload_n hx hb dX12_law_150 rfl (lv_at hl 0 rfl) ?_
                      refine g_0_24 C hU hG (h1_0 hG) fl_X12_247 dX12_law_151 (fun x_90 e_91 le_91 ue_91 => ?_)
                      have te_91 := congrArg Int32.toInt e_91
                      have hz_ := e_91
                      rw [ei_89, up3_self] at hz_
                      have tz_ := congrArg Int32.toInt hz_
                      refine lv_iconst (v := 1) hx hb dX12_law_154 (by decide) ?_
                      refine lv_isub hx hb dX12_law_155 ?_
                      refine lv_topi (fun x_92 e_93 => ?_)
                      have te_93 : x_92.toInt = (x_90 : Int32).toInt - (1 : Int32).toInt := by rw [e_93]; exact fb_subI (by omega) (by omega)
                      exact hret (⟨hG, hF1, hF2, Or.inl ⟨(by unfold spLaw; (repeat' split) <;> first | rfl | omega), by omega, by rw [ei_89, up3_self]; omega, fun k => ⟨by rw [ei_89, up3_ne (fun z => absurd z.1 (by decide)), ei_82, up3_ne (fun z => absurd z.1 (by decide)), ei_77, up3_ne (fun z => absurd z.1 (by decide)), ei_72, up3_ne (fun z => absurd z.1 (by decide)), ei_67, up3_ne (fun z => absurd z.1 (by decide)), ei_62, clamp_eq (show (x_59 : Int32).toInt = (iv 0 0 24).toInt by omega), up3_k], by rw [ei_89, up3_ne (fun z => absurd z.1 (by decide)), ei_82, up3_ne (fun z => absurd z.1 (by decide)), ei_77, up3_ne (fun z => absurd z.1 (by decide)), ei_72, up3_ne (fun z => absurd z.1 (by decide)), ei_67, clamp_eq (show (x_64 : Int32).toInt = (iv 0 0 24).toInt by omega), up3_k, ei_62, up3_ne (fun z => absurd z.1 (by decide))], by rw [ei_89, up3_ne (fun z => absurd z.1 (by decide)), ei_82, up3_ne (fun z => absurd z.1 (by decide)), ei_77, up3_ne (fun z => absurd z.1 (by decide)), ei_72, clamp_eq (show (x_69 : Int32).toInt = (iv 0 0 24).toInt by omega), up3_k, ei_67, up3_ne (fun z => absurd z.1 (by decide)), ei_62, up3_ne (fun z => absurd z.1 (by decide))], by rw [ei_89, up3_ne (fun z => absurd z.1 (by decide)), ei_82, up3_ne (fun z => absurd z.1 (by decide)), ei_77, clamp_eq (show (x_74 : Int32).toInt = (iv 0 0 24).toInt by omega), up3_k, ei_72, up3_ne (fun z => absurd z.1 (by decide)), ei_67, up3_ne (fun z => absurd z.1 (by decide)), ei_62, up3_ne (fun z => absurd z.1 (by decide))], by rw [ei_89, up3_ne (fun z => absurd z.1 (by decide)), ei_82, clamp_eq (show (x_79 : Int32).toInt = (iv 0 0 24).toInt by omega), up3_k, ei_77, up3_ne (fun z => absurd z.1 (by decide)), ei_72, up3_ne (fun z => absurd z.1 (by decide)), ei_67, up3_ne (fun z => absurd z.1 (by decide)), ei_62, up3_ne (fun z => absurd z.1 (by decide))]⟩⟩⟩) hU hS dX12_law_156
                    ·
                      refine lv_aload_n hx hb dX12_law_81 rfl (lv_at hl 0 rfl) ?_
                      refine lv_bipush (v := (-6)) hx hb dX12_law_82 (by decide) ?_
                      refine q_fi (q_runV (t := 0) (i := 0) (As := [.int (-6)]) (rest := []) C hU (c_X12_refuse hG (-6) (by omega)) vm_X12_refuse ml_X12_164 k_0.1 (hc := rfl) rfl (h1_0 hG) hl.1 rfl rfl (Nat.le_of_ble_eq_true rfl) dX12_law_84 rfl rfl ⟨Nat.le_of_ble_eq_true rfl, Nat.le_of_ble_eq_true rfl⟩ ⟨Nat.le_refl _, Nat.le_refl _⟩) hS (fun x_99 iv_95 rv_96 H locs hG fa_97 fb_98 hp_94 hU hS => ?_)
                      have hF1 := hF1.tr (m := ([16, 21, 22, 23, 24, 25], [(0, 24)])) fa_97 (by decide)
                      have hF2 := hF2.tr (m := ([16, 21, 22, 23, 24, 25], [(0, 24)])) fb_98 (by decide)
                      exact hret (⟨hG, hF1, hF2, sp_no (z := (-6)) (by unfold spLaw; (repeat' split) <;> first | rfl | omega) (by decide) hp_94 (⟨fa_97 0 0 24 (by decide), fun k => ⟨fa_97.arr 21 0 k (by decide), fa_97.arr 22 0 k (by decide), fa_97.arr 23 0 k (by decide), fa_97.arr 24 0 k (by decide), fa_97.arr 25 0 k (by decide)⟩⟩)⟩) hU hS dX12_law_87
          ·
            refine lv_aload_n hx hb dX12_law_35 rfl (lv_at hl 0 rfl) ?_
            refine lv_bipush (v := (-4)) hx hb dX12_law_36 (by decide) ?_
            refine q_fi (q_runV (t := 0) (i := 0) (As := [.int (-4)]) (rest := []) C hU (c_X12_refuse hG (-4) (by omega)) vm_X12_refuse ml_X12_164 k_0.1 (hc := rfl) rfl (h1_0 hG) hl.1 rfl rfl (Nat.le_of_ble_eq_true rfl) dX12_law_38 rfl rfl ⟨Nat.le_of_ble_eq_true rfl, Nat.le_of_ble_eq_true rfl⟩ ⟨Nat.le_refl _, Nat.le_refl _⟩) hS (fun x_105 iv_101 rv_102 H locs hG fa_103 fb_104 hp_100 hU hS => ?_)
            have hF1 := hF1.tr (m := ([16, 21, 22, 23, 24, 25], [(0, 24)])) fa_103 (by decide)
            have hF2 := hF2.tr (m := ([16, 21, 22, 23, 24, 25], [(0, 24)])) fb_104 (by decide)
            exact hret (⟨hG, hF1, hF2, sp_no (z := (-4)) (by unfold spLaw; (repeat' split) <;> first | rfl | omega) (by decide) hp_100 (⟨fa_103 0 0 24 (by decide), fun k => ⟨fa_103.arr 21 0 k (by decide), fa_103.arr 22 0 k (by decide), fa_103.arr 23 0 k (by decide), fa_103.arr 24 0 k (by decide), fa_103.arr 25 0 k (by decide)⟩⟩)⟩) hU hS dX12_law_41
  ·
    refine lv_aload_n hx hb dX12_law_7 rfl (lv_at hl 0 rfl) ?_
    refine lv_iconst (v := (-1)) hx hb dX12_law_8 (by decide) ?_
    refine q_fi (q_runV (t := 0) (i := 0) (As := [.int (-1)]) (rest := []) C hU (c_X12_refuse hG (-1) (by omega)) vm_X12_refuse ml_X12_164 k_0.1 (hc := rfl) rfl (h1_0 hG) hl.1 rfl rfl (Nat.le_of_ble_eq_true rfl) dX12_law_9 rfl rfl ⟨Nat.le_of_ble_eq_true rfl, Nat.le_of_ble_eq_true rfl⟩ ⟨Nat.le_refl _, Nat.le_refl _⟩) hS (fun x_111 iv_107 rv_108 H locs hG fa_109 fb_110 hp_106 hU hS => ?_)
    have hF1 := hF1.tr (m := ([16, 21, 22, 23, 24, 25], [(0, 24)])) fa_109 (by decide)
    have hF2 := hF2.tr (m := ([16, 21, 22, 23, 24, 25], [(0, 24)])) fb_110 (by decide)
    exact hret (⟨hG, hF1, hF2, sp_no (z := (-1)) (by unfold spLaw; (repeat' split) <;> first | rfl | omega) (by decide) hp_106 (⟨fa_109 0 0 24 (by decide), fun k => ⟨fa_109.arr 21 0 k (by decide), fa_109.arr 22 0 k (by decide), fa_109.arr 23 0 k (by decide), fa_109.arr 24 0 k (by decide), fa_109.arr 25 0 k (by decide)⟩⟩)⟩) hU hS dX12_law_12
set_option maxHeartbeats 4000000 in
set_option maxRecDepth 100000 in
theorem c_X4_add_y {l : Launch} {D : va_G} {cA : FieldType → ClassId} {sz : Nat} {al : Al} {iv : Iv} {rv : Rv} (hG : GI al iv rv) (a : Int32) (d : Int32) (mm : Int32) (far : Int32) (sm : Int32) (pre0 : (iv 68 0 5).toInt < 30) (pre1 : 0 ≤ a.toInt ∧ a.toInt ≤ 9999) (pre2 : 0 ≤ d.toInt ∧ d.toInt ≤ 9999) (pre3 : 0 ≤ mm.toInt ∧ mm.toInt ≤ 9999) (pre4 : 0 ≤ far.toInt ∧ far.toInt ≤ 9999) (pre5 : 0 ≤ sm.toInt ∧ sm.toInt ≤ 9999) : Met l yX4_add (wd yX4_add cX4_add 6 (some .int)) (rm 0) (PcW D cA sz al iv rv [.ref (al.2 68 0), .int a, .int d, .int mm, .int far, .int sm]) (QI D cA sz al (fI al ([69, 70, 71, 72, 73], [(68, 5)]) iv rv (fun r iv' rv' => r.toInt = (iv 68 0 5).toInt ∧ (iv' 68 0 5).toInt = (iv 68 0 5).toInt + 1 ∧ (∀ k : Nat, iv' 69 0 k = (if k = (iv 68 0 5).toNatClampNeg then a else iv 69 0 k) ∧ iv' 70 0 k = (if k = (iv 68 0 5).toNatClampNeg then d else iv 70 0 k) ∧ iv' 71 0 k = (if k = (iv 68 0 5).toNatClampNeg then mm else iv 71 0 k) ∧ iv' 72 0 k = (if k = (iv 68 0 5).toNatClampNeg then far else iv 72 0 k) ∧ iv' 73 0 k = (if k = (iv 68 0 5).toNatClampNeg then sm else iv 73 0 k))))) 0 0 (Aq sz) := by
  refine mk_i (by decide) (Nat.le_of_ble_eq_true rfl) rfl ?_
  intro p e s m args below meth c ls Q H locs C hU hS hl hret
  have hx := C.1.1
  have hb := C.1.2.1
  have hl : lv_has ls 6 [(0, .ref (al.2 68 0)), (1, .int a), (2, .int d), (3, .int mm), (4, .int far), (5, .int sm)] := hl
  have hG0 := hG
  have hF1 : FR ([69, 70, 71, 72, 73], [(68, 5)]) iv iv := FR.rf
  have hF2 : FR ([69, 70, 71, 72, 73], [(68, 5)]) rv rv := FR.rf
  have k1 : (1 : Int32).toInt = 1 := by decide
  refine lv_aload_n hx hb dX4_add_0 rfl (lv_at hl 0 rfl) ?_
  refine g_68_0 C hU hG (h1_68 hG) fl_X4_11 dX4_add_1 ?_
  refine lv_aload_n hx hb dX4_add_4 rfl (lv_at hl 0 rfl) ?_
  refine g_68_5 C hU hG (h1_68 hG) fl_X4_43 dX4_add_5 (fun x_1 e_2 le_2 ue_2 => ?_)
  have te_2 := congrArg Int32.toInt e_2
  refine lv_iload_n hx hb dX4_add_8 rfl (lv_at hl 1 rfl) ?_
  refine s_69 C hU hS (h1_69 hG) (x := x_1) (by omega) (by omega) dX4_add_9 (fun iv_3 H locs ei_4 hU hS => ?_)
  have hG : GI al iv_3 rv := by rw [ei_4]; exact hG.puti (show _ ∧ _ from ⟨show (0 : Int) ≤ _ by omega, show _ ≤ (9999 : Int) by omega⟩) (nsA (by decide) _)
  have hF1 : FR ([69, 70, 71, 72, 73], [(68, 5)]) iv iv_3 := by rw [ei_4]; exact hF1.put (Or.inl (by decide))
  have kf_5 := congrArg Int32.toInt (show iv_3 68 0 5 = iv 68 0 5 by rw [ei_4]; exact up3_ne (fun z => absurd z.1 (by decide)))
  refine lv_aload_n hx hb dX4_add_10 rfl (lv_at hl 0 rfl) ?_
  refine g_68_1 C hU hG (h1_68 hG) fl_X4_15 dX4_add_11 ?_
  refine lv_aload_n hx hb dX4_add_14 rfl (lv_at hl 0 rfl) ?_
  refine g_68_5 C hU hG (h1_68 hG) fl_X4_43 dX4_add_15 (fun x_6 e_7 le_7 ue_7 => ?_)
  have te_7 := congrArg Int32.toInt e_7
  refine lv_iload_n hx hb dX4_add_18 rfl (lv_at hl 2 rfl) ?_
  refine s_70 C hU hS (h1_70 hG) (x := x_6) (by omega) (by omega) dX4_add_19 (fun iv_8 H locs ei_9 hU hS => ?_)
  have hG : GI al iv_8 rv := by rw [ei_9]; exact hG.puti (show _ ∧ _ from ⟨show (0 : Int) ≤ _ by omega, show _ ≤ (9999 : Int) by omega⟩) (nsA (by decide) _)
  have hF1 : FR ([69, 70, 71, 72, 73], [(68, 5)]) iv iv_8 := by rw [ei_9]; exact hF1.put (Or.inl (by decide))
  have kf_10 := congrArg Int32.toInt (show iv_8 68 0 5 = iv_3 68 0 5 by rw [ei_9]; exact up3_ne (fun z => absurd z.1 (by decide)))
  refine lv_aload_n hx hb dX4_add_20 rfl (lv_at hl 0 rfl) ?_
  refine g_68_2 C hU hG (h1_68 hG) fl_X4_18 dX4_add_21 ?_
  refine lv_aload_n hx hb dX4_add_24 rfl (lv_at hl 0 rfl) ?_
  refine g_68_5 C hU hG (h1_68 hG) fl_X4_43 dX4_add_25 (fun x_11 e_12 le_12 ue_12 => ?_)
  have te_12 := congrArg Int32.toInt e_12
  refine lv_iload_n hx hb dX4_add_28 rfl (lv_at hl 3 rfl) ?_
  refine s_71 C hU hS (h1_71 hG) (x := x_11) (by omega) (by omega) dX4_add_29 (fun iv_13 H locs ei_14 hU hS => ?_)
  have hG : GI al iv_13 rv := by rw [ei_14]; exact hG.puti (show _ ∧ _ from ⟨show (0 : Int) ≤ _ by omega, show _ ≤ (9999 : Int) by omega⟩) (nsA (by decide) _)
  have hF1 : FR ([69, 70, 71, 72, 73], [(68, 5)]) iv iv_13 := by rw [ei_14]; exact hF1.put (Or.inl (by decide))
  have kf_15 := congrArg Int32.toInt (show iv_13 68 0 5 = iv_8 68 0 5 by rw [ei_14]; exact up3_ne (fun z => absurd z.1 (by decide)))
  refine lv_aload_n hx hb dX4_add_30 rfl (lv_at hl 0 rfl) ?_
  refine g_68_3 C hU hG (h1_68 hG) fl_X4_21 dX4_add_31 ?_
  refine lv_aload_n hx hb dX4_add_34 rfl (lv_at hl 0 rfl) ?_
  refine g_68_5 C hU hG (h1_68 hG) fl_X4_43 dX4_add_35 (fun x_16 e_17 le_17 ue_17 => ?_)
  have te_17 := congrArg Int32.toInt e_17
  refine lv_iload hx hb dX4_add_38 (lv_at hl 4 rfl) ?_
  refine s_72 C hU hS (h1_72 hG) (x := x_16) (by omega) (by omega) dX4_add_40 (fun iv_18 H locs ei_19 hU hS => ?_)
  have hG : GI al iv_18 rv := by rw [ei_19]; exact hG.puti (show _ ∧ _ from ⟨show (0 : Int) ≤ _ by omega, show _ ≤ (9999 : Int) by omega⟩) (nsA (by decide) _)
  have hF1 : FR ([69, 70, 71, 72, 73], [(68, 5)]) iv iv_18 := by rw [ei_19]; exact hF1.put (Or.inl (by decide))
  have kf_20 := congrArg Int32.toInt (show iv_18 68 0 5 = iv_13 68 0 5 by rw [ei_19]; exact up3_ne (fun z => absurd z.1 (by decide)))
  refine lv_aload_n hx hb dX4_add_41 rfl (lv_at hl 0 rfl) ?_
  refine g_68_4 C hU hG (h1_68 hG) fl_X4_24 dX4_add_42 ?_
  refine lv_aload_n hx hb dX4_add_45 rfl (lv_at hl 0 rfl) ?_
  refine g_68_5 C hU hG (h1_68 hG) fl_X4_43 dX4_add_46 (fun x_21 e_22 le_22 ue_22 => ?_)
  have te_22 := congrArg Int32.toInt e_22
  refine lv_iload hx hb dX4_add_49 (lv_at hl 5 rfl) ?_
  refine s_73 C hU hS (h1_73 hG) (x := x_21) (by omega) (by omega) dX4_add_51 (fun iv_23 H locs ei_24 hU hS => ?_)
  have hG : GI al iv_23 rv := by rw [ei_24]; exact hG.puti (show _ ∧ _ from ⟨show (0 : Int) ≤ _ by omega, show _ ≤ (9999 : Int) by omega⟩) (nsA (by decide) _)
  have hF1 : FR ([69, 70, 71, 72, 73], [(68, 5)]) iv iv_23 := by rw [ei_24]; exact hF1.put (Or.inl (by decide))
  have kf_25 := congrArg Int32.toInt (show iv_23 68 0 5 = iv_18 68 0 5 by rw [ei_24]; exact up3_ne (fun z => absurd z.1 (by decide)))
  refine lv_aload_n hx hb dX4_add_52 rfl (lv_at hl 0 rfl) ?_
  refine lv_dup hx hb dX4_add_53 rfl ?_
  refine g_68_5 C hU hG (h1_68 hG) fl_X4_43 dX4_add_54 (fun x_26 e_27 le_27 ue_27 => ?_)
  have te_27 := congrArg Int32.toInt e_27
  refine lv_iconst (v := 1) hx hb dX4_add_57 (by decide) ?_
  refine lv_iadd hx hb dX4_add_58 ?_
  refine lv_topi (fun x_28 e_29 => ?_)
  have te_29 : x_28.toInt = (x_26 : Int32).toInt + (1 : Int32).toInt := by rw [e_29]; exact fb_addI (by omega) (by omega)
  refine p_68_5 C hU hS (h1_68 hG) fl_X4_43 dX4_add_59 (fun iv_30 H locs ei_31 hU hS => ?_)
  have hG : GI al iv_30 rv := by rw [ei_31]; exact hG.puti (show _ ∧ _ from ⟨show (0 : Int) ≤ _ by omega, show _ ≤ (30 : Int) by omega⟩) (nsF (by decide))
  have hF1 : FR ([69, 70, 71, 72, 73], [(68, 5)]) iv iv_30 := by rw [ei_31]; exact hF1.put (by decide)
  refine lv_aload_n hx hb dX4_add_62 rfl (lv_at hl 0 rfl) ?_
  refine g_68_5 C hU hG (h1_68 hG) fl_X4_43 dX4_add_63 (fun x_32 e_33 le_33 ue_33 => ?_)
  have te_33 := congrArg Int32.toInt e_33
  have hz_ := e_33
  rw [ei_31, up3_self] at hz_
  have tz_ := congrArg Int32.toInt hz_
  refine lv_iconst (v := 1) hx hb dX4_add_66 (by decide) ?_
  refine lv_isub hx hb dX4_add_67 ?_
  refine lv_topi (fun x_34 e_35 => ?_)
  have te_35 : x_34.toInt = (x_32 : Int32).toInt - (1 : Int32).toInt := by rw [e_35]; exact fb_subI (by omega) (by omega)
  exact hret (⟨hG, hF1, hF2, ⟨by omega, by rw [ei_31, up3_self]; omega, fun k => ⟨by rw [ei_31, up3_ne (fun z => absurd z.1 (by decide)), ei_24, up3_ne (fun z => absurd z.1 (by decide)), ei_19, up3_ne (fun z => absurd z.1 (by decide)), ei_14, up3_ne (fun z => absurd z.1 (by decide)), ei_9, up3_ne (fun z => absurd z.1 (by decide)), ei_4, clamp_eq (show (x_1 : Int32).toInt = (iv 68 0 5).toInt by omega), up3_k], by rw [ei_31, up3_ne (fun z => absurd z.1 (by decide)), ei_24, up3_ne (fun z => absurd z.1 (by decide)), ei_19, up3_ne (fun z => absurd z.1 (by decide)), ei_14, up3_ne (fun z => absurd z.1 (by decide)), ei_9, clamp_eq (show (x_6 : Int32).toInt = (iv 68 0 5).toInt by omega), up3_k, ei_4, up3_ne (fun z => absurd z.1 (by decide))], by rw [ei_31, up3_ne (fun z => absurd z.1 (by decide)), ei_24, up3_ne (fun z => absurd z.1 (by decide)), ei_19, up3_ne (fun z => absurd z.1 (by decide)), ei_14, clamp_eq (show (x_11 : Int32).toInt = (iv 68 0 5).toInt by omega), up3_k, ei_9, up3_ne (fun z => absurd z.1 (by decide)), ei_4, up3_ne (fun z => absurd z.1 (by decide))], by rw [ei_31, up3_ne (fun z => absurd z.1 (by decide)), ei_24, up3_ne (fun z => absurd z.1 (by decide)), ei_19, clamp_eq (show (x_16 : Int32).toInt = (iv 68 0 5).toInt by omega), up3_k, ei_14, up3_ne (fun z => absurd z.1 (by decide)), ei_9, up3_ne (fun z => absurd z.1 (by decide)), ei_4, up3_ne (fun z => absurd z.1 (by decide))], by rw [ei_31, up3_ne (fun z => absurd z.1 (by decide)), ei_24, clamp_eq (show (x_21 : Int32).toInt = (iv 68 0 5).toInt by omega), up3_k, ei_19, up3_ne (fun z => absurd z.1 (by decide)), ei_14, up3_ne (fun z => absurd z.1 (by decide)), ei_9, up3_ne (fun z => absurd z.1 (by decide)), ei_4, up3_ne (fun z => absurd z.1 (by decide))]⟩⟩⟩) hU hS dX4_add_68
set_option maxHeartbeats 4000000 in
set_option maxRecDepth 100000 in
theorem c_X11_law_y {l : Launch} {D : va_G} {cA : FieldType → ClassId} {sz : Nat} {al : Al} {iv : Iv} {rv : Rv} (hG : GI al iv rv) (lw : Int32) (d : Int32) (mm : Int32) (far : Int32) (sm : Int32) : Met l yX11_law (wd yX11_law cX11_law 6 (some .int)) (rm 2) (PcW D cA sz al iv rv [.ref (al.2 49 0), .int lw, .int d, .int mm, .int far, .int sm]) (QI D cA sz al (fI al ([51, 69, 70, 71, 72, 73], [(68, 5)]) iv rv (fun r iv' rv' => (spLaw lw d mm far sm (iv 49 0 9).toInt (iv 68 0 5).toInt = 0 ∧ r.toInt = (iv 68 0 5).toInt ∧ (iv' 68 0 5).toInt = (iv 68 0 5).toInt + 1 ∧ (∀ k : Nat, iv' 69 0 k = (if k = (iv 68 0 5).toNatClampNeg then lw else iv 69 0 k) ∧ iv' 70 0 k = (if k = (iv 68 0 5).toNatClampNeg then d else iv 70 0 k) ∧ iv' 71 0 k = (if k = (iv 68 0 5).toNatClampNeg then mm else iv 71 0 k) ∧ iv' 72 0 k = (if k = (iv 68 0 5).toNatClampNeg then far else iv 72 0 k) ∧ iv' 73 0 k = (if k = (iv 68 0 5).toNatClampNeg then sm else iv 73 0 k))) ∨ (spLaw lw d mm far sm (iv 49 0 9).toInt (iv 68 0 5).toInt ≠ 0 ∧ r = spLaw lw d mm far sm (iv 49 0 9).toInt (iv 68 0 5).toInt ∧ iv' 68 0 5 = iv 68 0 5 ∧ (∀ k : Nat, iv' 69 0 k = iv 69 0 k ∧ iv' 70 0 k = iv 70 0 k ∧ iv' 71 0 k = iv 71 0 k ∧ iv' 72 0 k = iv 72 0 k ∧ iv' 73 0 k = iv 73 0 k))))) 0 0 (Aq sz) := by
  refine mk_i (by decide) (Nat.le_of_ble_eq_true rfl) rfl ?_
  intro p e s m args below meth c ls Q H locs C hU hS hl hret
  have hx := C.1.1
  have hb := C.1.2.1
  have hl : lv_has ls 6 [(0, .ref (al.2 49 0)), (1, .int lw), (2, .int d), (3, .int mm), (4, .int far), (5, .int sm)] := hl
  have hG0 := hG
  have hF1 : FR ([51, 69, 70, 71, 72, 73], [(68, 5)]) iv iv := FR.rf
  have hF2 : FR ([51, 69, 70, 71, 72, 73], [(68, 5)]) rv rv := FR.rf
  have km6 : ((-6) : Int32).toInt = -6 := by decide
  have km4 : ((-4) : Int32).toInt = -4 := by decide
  have km1 : ((-1) : Int32).toInt = -1 := by decide
  have k4 : (4 : Int32).toInt = 4 := by decide
  have k4000 : (4000 : Int32).toInt = 4000 := by decide
  have k9999 : (9999 : Int32).toInt = 9999 := by decide
  refine lv_iconst (v := 4) hx hb dX11_law_0 (by decide) ?_
  refine lv_iload_n hx hb dX11_law_1 rfl (lv_at hl 1 rfl) ?_
  refine q_pi (q_runS (As := [.int 4, .int lw]) (rest := []) C hU (c_X11_isOneOf  4 lw ) sm_X11_isOneOf ml_X11_85 hl.1 rfl rfl (Nat.le_of_ble_eq_true rfl) dX11_law_2 rfl rfl ⟨Nat.le_of_ble_eq_true rfl, Nat.le_of_ble_eq_true rfl⟩ ⟨Nat.le_refl _, Nat.le_refl _⟩) hS (fun x_2 H locs hp_1 hU hS => ?_)
  refine b_if_ne (tgt := 14) hx hb dX11_law_5 (by decide) (fun c_3 => ?_) (fun c_3 => ?_)
  ·
    refine lv_iload_n hx hb dX11_law_14 rfl (lv_at hl 2 rfl) ?_
    refine lv_aload_n hx hb dX11_law_15 rfl (lv_at hl 0 rfl) ?_
    refine g_49_9 C hU hG (h1_49 hG) fl_X11_73 dX11_law_16 (fun x_4 e_5 le_5 ue_5 => ?_)
    have te_5 := congrArg Int32.toInt e_5
    refine b_icmp_lt (tgt := 36) hx hb dX11_law_19 (by decide) (fun c_6 => ?_) (fun c_6 => ?_)
    ·
      refine lv_aload_n hx hb dX11_law_36 rfl (lv_at hl 0 rfl) ?_
      refine lv_bipush (v := (-4)) hx hb dX11_law_37 (by decide) ?_
      refine q_fi (q_runV (t := 49) (i := 0) (As := [.int (-4)]) (rest := []) C hU (c_X11_refuse hG (-4) (by omega)) vm_X11_refuse ml_X11_77 k_49.1 (hc := rfl) rfl (h1_49 hG) hl.1 rfl rfl (Nat.le_of_ble_eq_true rfl) dX11_law_39 rfl rfl ⟨Nat.le_of_ble_eq_true rfl, Nat.le_of_ble_eq_true rfl⟩ ⟨Nat.le_refl _, Nat.le_refl _⟩) hS (fun x_12 iv_8 rv_9 H locs hG fa_10 fb_11 hp_7 hU hS => ?_)
      have hF1 := hF1.tr (m := ([51, 69, 70, 71, 72, 73], [(68, 5)])) fa_10 (by decide)
      have hF2 := hF2.tr (m := ([51, 69, 70, 71, 72, 73], [(68, 5)])) fb_11 (by decide)
      exact hret (⟨hG, hF1, hF2, sp_no (z := (-4)) (by unfold spLaw; (repeat' split) <;> first | rfl | omega) (by decide) hp_7 (⟨fa_10 68 0 5 (by decide), fun k => ⟨fa_10.arr 69 0 k (by decide), fa_10.arr 70 0 k (by decide), fa_10.arr 71 0 k (by decide), fa_10.arr 72 0 k (by decide), fa_10.arr 73 0 k (by decide)⟩⟩)⟩) hU hS dX11_law_42
    ·
      refine lv_iload_n hx hb dX11_law_22 rfl (lv_at hl 3 rfl) ?_
      refine b_if_lt (tgt := 36) hx hb dX11_law_23 (by decide) (fun c_13 => ?_) (fun c_13 => ?_)
      ·
        refine lv_aload_n hx hb dX11_law_36 rfl (lv_at hl 0 rfl) ?_
        refine lv_bipush (v := (-4)) hx hb dX11_law_37 (by decide) ?_
        refine q_fi (q_runV (t := 49) (i := 0) (As := [.int (-4)]) (rest := []) C hU (c_X11_refuse hG (-4) (by omega)) vm_X11_refuse ml_X11_77 k_49.1 (hc := rfl) rfl (h1_49 hG) hl.1 rfl rfl (Nat.le_of_ble_eq_true rfl) dX11_law_39 rfl rfl ⟨Nat.le_of_ble_eq_true rfl, Nat.le_of_ble_eq_true rfl⟩ ⟨Nat.le_refl _, Nat.le_refl _⟩) hS (fun x_19 iv_15 rv_16 H locs hG fa_17 fb_18 hp_14 hU hS => ?_)
        have hF1 := hF1.tr (m := ([51, 69, 70, 71, 72, 73], [(68, 5)])) fa_17 (by decide)
        have hF2 := hF2.tr (m := ([51, 69, 70, 71, 72, 73], [(68, 5)])) fb_18 (by decide)
        exact hret (⟨hG, hF1, hF2, sp_no (z := (-4)) (by unfold spLaw; (repeat' split) <;> first | rfl | omega) (by decide) hp_14 (⟨fa_17 68 0 5 (by decide), fun k => ⟨fa_17.arr 69 0 k (by decide), fa_17.arr 70 0 k (by decide), fa_17.arr 71 0 k (by decide), fa_17.arr 72 0 k (by decide), fa_17.arr 73 0 k (by decide)⟩⟩)⟩) hU hS dX11_law_42
      ·
        refine lv_iload hx hb dX11_law_26 (lv_at hl 4 rfl) ?_
        refine b_if_lt (tgt := 36) hx hb dX11_law_28 (by decide) (fun c_20 => ?_) (fun c_20 => ?_)
        ·
          refine lv_aload_n hx hb dX11_law_36 rfl (lv_at hl 0 rfl) ?_
          refine lv_bipush (v := (-4)) hx hb dX11_law_37 (by decide) ?_
          refine q_fi (q_runV (t := 49) (i := 0) (As := [.int (-4)]) (rest := []) C hU (c_X11_refuse hG (-4) (by omega)) vm_X11_refuse ml_X11_77 k_49.1 (hc := rfl) rfl (h1_49 hG) hl.1 rfl rfl (Nat.le_of_ble_eq_true rfl) dX11_law_39 rfl rfl ⟨Nat.le_of_ble_eq_true rfl, Nat.le_of_ble_eq_true rfl⟩ ⟨Nat.le_refl _, Nat.le_refl _⟩) hS (fun x_26 iv_22 rv_23 H locs hG fa_24 fb_25 hp_21 hU hS => ?_)
          have hF1 := hF1.tr (m := ([51, 69, 70, 71, 72, 73], [(68, 5)])) fa_24 (by decide)
          have hF2 := hF2.tr (m := ([51, 69, 70, 71, 72, 73], [(68, 5)])) fb_25 (by decide)
          exact hret (⟨hG, hF1, hF2, sp_no (z := (-4)) (by unfold spLaw; (repeat' split) <;> first | rfl | omega) (by decide) hp_21 (⟨fa_24 68 0 5 (by decide), fun k => ⟨fa_24.arr 69 0 k (by decide), fa_24.arr 70 0 k (by decide), fa_24.arr 71 0 k (by decide), fa_24.arr 72 0 k (by decide), fa_24.arr 73 0 k (by decide)⟩⟩)⟩) hU hS dX11_law_42
        ·
          refine lv_iload hx hb dX11_law_31 (lv_at hl 5 rfl) ?_
          refine b_if_ge (tgt := 43) hx hb dX11_law_33 (by decide) (fun c_27 => ?_) (fun c_27 => ?_)
          ·
            refine lv_iload_n hx hb dX11_law_43 rfl (lv_at hl 2 rfl) ?_
            refine lv_sipush (v := 4000) hx hb dX11_law_44 (by decide) ?_
            refine b_icmp_gt (tgt := 73) hx hb dX11_law_47 (by decide) (fun c_28 => ?_) (fun c_28 => ?_)
            ·
              refine lv_aload_n hx hb dX11_law_73 rfl (lv_at hl 0 rfl) ?_
              refine lv_bipush (v := (-6)) hx hb dX11_law_74 (by decide) ?_
              refine q_fi (q_runV (t := 49) (i := 0) (As := [.int (-6)]) (rest := []) C hU (c_X11_refuse hG (-6) (by omega)) vm_X11_refuse ml_X11_77 k_49.1 (hc := rfl) rfl (h1_49 hG) hl.1 rfl rfl (Nat.le_of_ble_eq_true rfl) dX11_law_76 rfl rfl ⟨Nat.le_of_ble_eq_true rfl, Nat.le_of_ble_eq_true rfl⟩ ⟨Nat.le_refl _, Nat.le_refl _⟩) hS (fun x_34 iv_30 rv_31 H locs hG fa_32 fb_33 hp_29 hU hS => ?_)
              have hF1 := hF1.tr (m := ([51, 69, 70, 71, 72, 73], [(68, 5)])) fa_32 (by decide)
              have hF2 := hF2.tr (m := ([51, 69, 70, 71, 72, 73], [(68, 5)])) fb_33 (by decide)
              exact hret (⟨hG, hF1, hF2, sp_no (z := (-6)) (by unfold spLaw; (repeat' split) <;> first | rfl | omega) (by decide) hp_29 (⟨fa_32 68 0 5 (by decide), fun k => ⟨fa_32.arr 69 0 k (by decide), fa_32.arr 70 0 k (by decide), fa_32.arr 71 0 k (by decide), fa_32.arr 72 0 k (by decide), fa_32.arr 73 0 k (by decide)⟩⟩)⟩) hU hS dX11_law_79
            ·
              refine lv_iload_n hx hb dX11_law_50 rfl (lv_at hl 3 rfl) ?_
              refine lv_sipush (v := 9999) hx hb dX11_law_51 (by decide) ?_
              refine b_icmp_gt (tgt := 73) hx hb dX11_law_54 (by decide) (fun c_35 => ?_) (fun c_35 => ?_)
              ·
                refine lv_aload_n hx hb dX11_law_73 rfl (lv_at hl 0 rfl) ?_
                refine lv_bipush (v := (-6)) hx hb dX11_law_74 (by decide) ?_
                refine q_fi (q_runV (t := 49) (i := 0) (As := [.int (-6)]) (rest := []) C hU (c_X11_refuse hG (-6) (by omega)) vm_X11_refuse ml_X11_77 k_49.1 (hc := rfl) rfl (h1_49 hG) hl.1 rfl rfl (Nat.le_of_ble_eq_true rfl) dX11_law_76 rfl rfl ⟨Nat.le_of_ble_eq_true rfl, Nat.le_of_ble_eq_true rfl⟩ ⟨Nat.le_refl _, Nat.le_refl _⟩) hS (fun x_41 iv_37 rv_38 H locs hG fa_39 fb_40 hp_36 hU hS => ?_)
                have hF1 := hF1.tr (m := ([51, 69, 70, 71, 72, 73], [(68, 5)])) fa_39 (by decide)
                have hF2 := hF2.tr (m := ([51, 69, 70, 71, 72, 73], [(68, 5)])) fb_40 (by decide)
                exact hret (⟨hG, hF1, hF2, sp_no (z := (-6)) (by unfold spLaw; (repeat' split) <;> first | rfl | omega) (by decide) hp_36 (⟨fa_39 68 0 5 (by decide), fun k => ⟨fa_39.arr 69 0 k (by decide), fa_39.arr 70 0 k (by decide), fa_39.arr 71 0 k (by decide), fa_39.arr 72 0 k (by decide), fa_39.arr 73 0 k (by decide)⟩⟩)⟩) hU hS dX11_law_79
              ·
                refine lv_iload hx hb dX11_law_57 (lv_at hl 4 rfl) ?_
                refine lv_sipush (v := 9999) hx hb dX11_law_59 (by decide) ?_
                refine b_icmp_gt (tgt := 73) hx hb dX11_law_62 (by decide) (fun c_42 => ?_) (fun c_42 => ?_)
                ·
                  refine lv_aload_n hx hb dX11_law_73 rfl (lv_at hl 0 rfl) ?_
                  refine lv_bipush (v := (-6)) hx hb dX11_law_74 (by decide) ?_
                  refine q_fi (q_runV (t := 49) (i := 0) (As := [.int (-6)]) (rest := []) C hU (c_X11_refuse hG (-6) (by omega)) vm_X11_refuse ml_X11_77 k_49.1 (hc := rfl) rfl (h1_49 hG) hl.1 rfl rfl (Nat.le_of_ble_eq_true rfl) dX11_law_76 rfl rfl ⟨Nat.le_of_ble_eq_true rfl, Nat.le_of_ble_eq_true rfl⟩ ⟨Nat.le_refl _, Nat.le_refl _⟩) hS (fun x_48 iv_44 rv_45 H locs hG fa_46 fb_47 hp_43 hU hS => ?_)
                  have hF1 := hF1.tr (m := ([51, 69, 70, 71, 72, 73], [(68, 5)])) fa_46 (by decide)
                  have hF2 := hF2.tr (m := ([51, 69, 70, 71, 72, 73], [(68, 5)])) fb_47 (by decide)
                  exact hret (⟨hG, hF1, hF2, sp_no (z := (-6)) (by unfold spLaw; (repeat' split) <;> first | rfl | omega) (by decide) hp_43 (⟨fa_46 68 0 5 (by decide), fun k => ⟨fa_46.arr 69 0 k (by decide), fa_46.arr 70 0 k (by decide), fa_46.arr 71 0 k (by decide), fa_46.arr 72 0 k (by decide), fa_46.arr 73 0 k (by decide)⟩⟩)⟩) hU hS dX11_law_79
                ·
                  refine lv_iload hx hb dX11_law_65 (lv_at hl 5 rfl) ?_
                  refine lv_sipush (v := 9999) hx hb dX11_law_67 (by decide) ?_
                  refine b_icmp_le (tgt := 80) hx hb dX11_law_70 (by decide) (fun c_49 => ?_) (fun c_49 => ?_)
                  ·
                    refine lv_aload_n hx hb dX11_law_80 rfl (lv_at hl 0 rfl) ?_
                    refine g_49_3 C hU hG (h1_49 hG) fl_X11_33 dX11_law_81 ?_
                    refine q_pi (q_runV (t := 68) (i := 0) (As := []) (rest := []) C hU (c_X4_isFull hG  ) vm_X4_isFull ml_X11_221 k_68.1 (hc := rfl) rfl (h1_68 hG) hl.1 rfl rfl (Nat.le_of_ble_eq_true rfl) dX11_law_84 rfl rfl ⟨Nat.le_of_ble_eq_true rfl, Nat.le_of_ble_eq_true rfl⟩ ⟨Nat.le_refl _, Nat.le_refl _⟩) hS (fun x_51 H locs hp_50 hU hS => ?_)
                    refine b_if_eq (tgt := 97) hx hb dX11_law_87 (by decide) (fun c_52 => ?_) (fun c_52 => ?_)
                    ·
                      refine lv_aload_n hx hb dX11_law_97 rfl (lv_at hl 0 rfl) ?_
                      refine g_49_3 C hU hG (h1_49 hG) fl_X11_33 dX11_law_98 ?_
                      refine lv_iload_n hx hb dX11_law_101 rfl (lv_at hl 1 rfl) ?_
                      refine lv_iload_n hx hb dX11_law_102 rfl (lv_at hl 2 rfl) ?_
                      refine lv_iload_n hx hb dX11_law_103 rfl (lv_at hl 3 rfl) ?_
                      refine lv_iload hx hb dX11_law_104 (lv_at hl 4 rfl) ?_
                      refine lv_iload hx hb dX11_law_106 (lv_at hl 5 rfl) ?_
                      refine q_fi (q_runV (t := 68) (i := 0) (As := [.int lw, .int d, .int mm, .int far, .int sm]) (rest := []) C hU (c_X4_add_y hG lw d mm far sm (by omega) (by omega) (by omega) (by omega) (by omega) (by omega)) vm_X4_add ml_X11_222 k_68.1 (hc := rfl) rfl (h1_68 hG) hl.1 rfl rfl (Nat.le_of_ble_eq_true rfl) dX11_law_108 rfl rfl ⟨Nat.le_of_ble_eq_true rfl, Nat.le_of_ble_eq_true rfl⟩ ⟨Nat.le_refl _, Nat.le_refl _⟩) hS (fun x_58 iv_54 rv_55 H locs hG fa_56 fb_57 hp_53 hU hS => ?_)
                      have hF1 := hF1.tr (m := ([51, 69, 70, 71, 72, 73], [(68, 5)])) fa_56 (by decide)
                      have hF2 := hF2.tr (m := ([51, 69, 70, 71, 72, 73], [(68, 5)])) fb_57 (by decide)
                      exact hret (⟨hG, hF1, hF2, Or.inl ⟨(by unfold spLaw; (repeat' split) <;> first | rfl | omega), hp_53.1, hp_53.2.1, hp_53.2.2⟩⟩) hU hS dX11_law_111
                    ·
                      refine lv_aload_n hx hb dX11_law_90 rfl (lv_at hl 0 rfl) ?_
                      refine lv_bipush (v := (-6)) hx hb dX11_law_91 (by decide) ?_
                      refine q_fi (q_runV (t := 49) (i := 0) (As := [.int (-6)]) (rest := []) C hU (c_X11_refuse hG (-6) (by omega)) vm_X11_refuse ml_X11_77 k_49.1 (hc := rfl) rfl (h1_49 hG) hl.1 rfl rfl (Nat.le_of_ble_eq_true rfl) dX11_law_93 rfl rfl ⟨Nat.le_of_ble_eq_true rfl, Nat.le_of_ble_eq_true rfl⟩ ⟨Nat.le_refl _, Nat.le_refl _⟩) hS (fun x_64 iv_60 rv_61 H locs hG fa_62 fb_63 hp_59 hU hS => ?_)
                      have hF1 := hF1.tr (m := ([51, 69, 70, 71, 72, 73], [(68, 5)])) fa_62 (by decide)
                      have hF2 := hF2.tr (m := ([51, 69, 70, 71, 72, 73], [(68, 5)])) fb_63 (by decide)
                      exact hret (⟨hG, hF1, hF2, sp_no (z := (-6)) (by unfold spLaw; (repeat' split) <;> first | rfl | omega) (by decide) hp_59 (⟨fa_62 68 0 5 (by decide), fun k => ⟨fa_62.arr 69 0 k (by decide), fa_62.arr 70 0 k (by decide), fa_62.arr 71 0 k (by decide), fa_62.arr 72 0 k (by decide), fa_62.arr 73 0 k (by decide)⟩⟩)⟩) hU hS dX11_law_96
                  ·
                    refine lv_aload_n hx hb dX11_law_73 rfl (lv_at hl 0 rfl) ?_
                    refine lv_bipush (v := (-6)) hx hb dX11_law_74 (by decide) ?_
                    refine q_fi (q_runV (t := 49) (i := 0) (As := [.int (-6)]) (rest := []) C hU (c_X11_refuse hG (-6) (by omega)) vm_X11_refuse ml_X11_77 k_49.1 (hc := rfl) rfl (h1_49 hG) hl.1 rfl rfl (Nat.le_of_ble_eq_true rfl) dX11_law_76 rfl rfl ⟨Nat.le_of_ble_eq_true rfl, Nat.le_of_ble_eq_true rfl⟩ ⟨Nat.le_refl _, Nat.le_refl _⟩) hS (fun x_70 iv_66 rv_67 H locs hG fa_68 fb_69 hp_65 hU hS => ?_)
                    have hF1 := hF1.tr (m := ([51, 69, 70, 71, 72, 73], [(68, 5)])) fa_68 (by decide)
                    have hF2 := hF2.tr (m := ([51, 69, 70, 71, 72, 73], [(68, 5)])) fb_69 (by decide)
                    exact hret (⟨hG, hF1, hF2, sp_no (z := (-6)) (by unfold spLaw; (repeat' split) <;> first | rfl | omega) (by decide) hp_65 (⟨fa_68 68 0 5 (by decide), fun k => ⟨fa_68.arr 69 0 k (by decide), fa_68.arr 70 0 k (by decide), fa_68.arr 71 0 k (by decide), fa_68.arr 72 0 k (by decide), fa_68.arr 73 0 k (by decide)⟩⟩)⟩) hU hS dX11_law_79
          ·
            refine lv_aload_n hx hb dX11_law_36 rfl (lv_at hl 0 rfl) ?_
            refine lv_bipush (v := (-4)) hx hb dX11_law_37 (by decide) ?_
            refine q_fi (q_runV (t := 49) (i := 0) (As := [.int (-4)]) (rest := []) C hU (c_X11_refuse hG (-4) (by omega)) vm_X11_refuse ml_X11_77 k_49.1 (hc := rfl) rfl (h1_49 hG) hl.1 rfl rfl (Nat.le_of_ble_eq_true rfl) dX11_law_39 rfl rfl ⟨Nat.le_of_ble_eq_true rfl, Nat.le_of_ble_eq_true rfl⟩ ⟨Nat.le_refl _, Nat.le_refl _⟩) hS (fun x_76 iv_72 rv_73 H locs hG fa_74 fb_75 hp_71 hU hS => ?_)
            have hF1 := hF1.tr (m := ([51, 69, 70, 71, 72, 73], [(68, 5)])) fa_74 (by decide)
            have hF2 := hF2.tr (m := ([51, 69, 70, 71, 72, 73], [(68, 5)])) fb_75 (by decide)
            exact hret (⟨hG, hF1, hF2, sp_no (z := (-4)) (by unfold spLaw; (repeat' split) <;> first | rfl | omega) (by decide) hp_71 (⟨fa_74 68 0 5 (by decide), fun k => ⟨fa_74.arr 69 0 k (by decide), fa_74.arr 70 0 k (by decide), fa_74.arr 71 0 k (by decide), fa_74.arr 72 0 k (by decide), fa_74.arr 73 0 k (by decide)⟩⟩)⟩) hU hS dX11_law_42
  ·
    refine lv_aload_n hx hb dX11_law_8 rfl (lv_at hl 0 rfl) ?_
    refine lv_iconst (v := (-1)) hx hb dX11_law_9 (by decide) ?_
    refine q_fi (q_runV (t := 49) (i := 0) (As := [.int (-1)]) (rest := []) C hU (c_X11_refuse hG (-1) (by omega)) vm_X11_refuse ml_X11_77 k_49.1 (hc := rfl) rfl (h1_49 hG) hl.1 rfl rfl (Nat.le_of_ble_eq_true rfl) dX11_law_10 rfl rfl ⟨Nat.le_of_ble_eq_true rfl, Nat.le_of_ble_eq_true rfl⟩ ⟨Nat.le_refl _, Nat.le_refl _⟩) hS (fun x_82 iv_78 rv_79 H locs hG fa_80 fb_81 hp_77 hU hS => ?_)
    have hF1 := hF1.tr (m := ([51, 69, 70, 71, 72, 73], [(68, 5)])) fa_80 (by decide)
    have hF2 := hF2.tr (m := ([51, 69, 70, 71, 72, 73], [(68, 5)])) fb_81 (by decide)
    exact hret (⟨hG, hF1, hF2, sp_no (z := (-1)) (by unfold spLaw; (repeat' split) <;> first | rfl | omega) (by decide) hp_77 (⟨fa_80 68 0 5 (by decide), fun k => ⟨fa_80.arr 69 0 k (by decide), fa_80.arr 70 0 k (by decide), fa_80.arr 71 0 k (by decide), fa_80.arr 72 0 k (by decide), fa_80.arr 73 0 k (by decide)⟩⟩)⟩) hU hS dX11_law_13
end
section
theorem Cday.s_days {al al1 : Al} {iv iv1 iv2 : Iv} {rv rv1 rv2 : Rv} {n : Int32} (hG : GI al iv rv) (hCday : Cday iv rv) (p1 : (iv1 49 0 9).toInt = dayF n.toInt (iv 49 0 9).toInt) (p2 : (iv2 0 0 0).toInt = dayF n.toInt (iv1 0 0 0).toInt) (x1 : EX ([51], [(49, 9)]) al iv rv al1 iv1 rv1) (f2 : FR ([16], [(0, 0)]) iv1 iv2) (g2 : FR ([16], [(0, 0)]) rv1 rv2) : Cday iv2 rv2 := by
  have a0 := (x1.2.2 0 0 0 (h1_0 hG) (by decide)).1
  have a9 := f2 49 0 9 (by decide)
  unfold Cday
  have z : iv 0 0 0 = iv 49 0 9 := hCday
  exact (fa_eq _ _).mpr (by rw [p2, a9, p1, a0, z])
theorem Claw.s_law {al al1 : Al} {iv iv1 iv2 : Iv} {rv rv1 rv2 : Rv} {lw d mm far sm r1 r2 : Int32} (hG : GI al iv rv) (hCday : Cday iv rv) (hClaw : Claw iv rv) (p1 : (spLaw lw d mm far sm (iv 49 0 9).toInt (iv 68 0 5).toInt = 0 ∧ r1.toInt = (iv 68 0 5).toInt ∧ (iv1 68 0 5).toInt = (iv 68 0 5).toInt + 1 ∧ (∀ k : Nat, iv1 69 0 k = (if k = (iv 68 0 5).toNatClampNeg then lw else iv 69 0 k) ∧ iv1 70 0 k = (if k = (iv 68 0 5).toNatClampNeg then d else iv 70 0 k) ∧ iv1 71 0 k = (if k = (iv 68 0 5).toNatClampNeg then mm else iv 71 0 k) ∧ iv1 72 0 k = (if k = (iv 68 0 5).toNatClampNeg then far else iv 72 0 k) ∧ iv1 73 0 k = (if k = (iv 68 0 5).toNatClampNeg then sm else iv 73 0 k))) ∨ (spLaw lw d mm far sm (iv 49 0 9).toInt (iv 68 0 5).toInt ≠ 0 ∧ r1 = spLaw lw d mm far sm (iv 49 0 9).toInt (iv 68 0 5).toInt ∧ iv1 68 0 5 = iv 68 0 5 ∧ (∀ k : Nat, iv1 69 0 k = iv 69 0 k ∧ iv1 70 0 k = iv 70 0 k ∧ iv1 71 0 k = iv 71 0 k ∧ iv1 72 0 k = iv 72 0 k ∧ iv1 73 0 k = iv 73 0 k))) (p2 : (spLaw lw d mm far sm (iv1 0 0 0).toInt (iv1 0 0 24).toInt = 0 ∧ r2.toInt = (iv1 0 0 24).toInt ∧ (iv2 0 0 24).toInt = (iv1 0 0 24).toInt + 1 ∧ (∀ k : Nat, iv2 21 0 k = (if k = (iv1 0 0 24).toNatClampNeg then lw else iv1 21 0 k) ∧ iv2 22 0 k = (if k = (iv1 0 0 24).toNatClampNeg then d else iv1 22 0 k) ∧ iv2 23 0 k = (if k = (iv1 0 0 24).toNatClampNeg then mm else iv1 23 0 k) ∧ iv2 24 0 k = (if k = (iv1 0 0 24).toNatClampNeg then far else iv1 24 0 k) ∧ iv2 25 0 k = (if k = (iv1 0 0 24).toNatClampNeg then sm else iv1 25 0 k))) ∨ (spLaw lw d mm far sm (iv1 0 0 0).toInt (iv1 0 0 24).toInt ≠ 0 ∧ r2 = spLaw lw d mm far sm (iv1 0 0 0).toInt (iv1 0 0 24).toInt ∧ iv2 0 0 24 = iv1 0 0 24 ∧ (∀ k : Nat, iv2 21 0 k = iv1 21 0 k ∧ iv2 22 0 k = iv1 22 0 k ∧ iv2 23 0 k = iv1 23 0 k ∧ iv2 24 0 k = iv1 24 0 k ∧ iv2 25 0 k = iv1 25 0 k))) (x1 : EX ([51, 69, 70, 71, 72, 73], [(68, 5)]) al iv rv al1 iv1 rv1) (f2 : FR ([16, 21, 22, 23, 24, 25], [(0, 24)]) iv1 iv2) (g2 : FR ([16, 21, 22, 23, 24, 25], [(0, 24)]) rv1 rv2) : Claw iv2 rv2 := by
  have eN : iv1 0 0 24 = iv 68 0 5 := by rw [(x1.2.2 0 0 24 (h1_0 hG) (by decide)).1]; exact hClaw.1
  have eD : iv1 0 0 0 = iv 49 0 9 := by rw [(x1.2.2 0 0 0 (h1_0 hG) (by decide)).1]; exact hCday
  rw [eN, eD] at p2
  have c5 := f2 68 0 5 (by decide)
  have mo : ∀ k : Nat, iv1 21 0 k = iv 21 0 k ∧ iv1 22 0 k = iv 22 0 k ∧ iv1 23 0 k = iv 23 0 k ∧ iv1 24 0 k = iv 24 0 k ∧ iv1 25 0 k = iv 25 0 k := fun k => ⟨(x1.2.2 21 0 k (h1_21 hG) (MD.no (by decide))).1, (x1.2.2 22 0 k (h1_22 hG) (MD.no (by decide))).1, (x1.2.2 23 0 k (h1_23 hG) (MD.no (by decide))).1, (x1.2.2 24 0 k (h1_24 hG) (MD.no (by decide))).1, (x1.2.2 25 0 k (h1_25 hG) (MD.no (by decide))).1⟩
  rcases two_cases p1 p2 with ⟨o, ⟨q1, q2, E⟩, ⟨s1, s2, M⟩⟩ | ⟨o, ⟨q1, q2, E⟩, ⟨s1, s2, M⟩⟩
  · refine ⟨(fa_eq _ _).mpr (by rw [c5]; omega), fun k => ?_⟩
    obtain ⟨m0, m1, m2, m3, m4⟩ := M k
    obtain ⟨e0, e1, e2, e3, e4⟩ := E k
    obtain ⟨h0, h1, h2, h3, h4⟩ := hClaw.2 k
    obtain ⟨o0, o1, o2, o3, o4⟩ := mo k
    rw [m0, m1, m2, m3, m4, f2.arr 69 0 k (by decide), f2.arr 70 0 k (by decide), f2.arr 71 0 k (by decide), f2.arr 72 0 k (by decide), f2.arr 73 0 k (by decide), e0, e1, e2, e3, e4, o0, o1, o2, o3, o4, h0, h1, h2, h3, h4]
    exact ⟨rfl, rfl, rfl, rfl, rfl⟩
  · refine ⟨by rw [c5, q2, s2], fun k => ?_⟩
    obtain ⟨m0, m1, m2, m3, m4⟩ := M k
    obtain ⟨e0, e1, e2, e3, e4⟩ := E k
    obtain ⟨h0, h1, h2, h3, h4⟩ := hClaw.2 k
    obtain ⟨o0, o1, o2, o3, o4⟩ := mo k
    rw [m0, m1, m2, m3, m4, f2.arr 69 0 k (by decide), f2.arr 70 0 k (by decide), f2.arr 71 0 k (by decide), f2.arr 72 0 k (by decide), f2.arr 73 0 k (by decide), e0, e1, e2, e3, e4, o0, o1, o2, o3, o4, h0, h1, h2, h3, h4]
    exact ⟨rfl, rfl, rfl, rfl, rfl⟩
theorem ans_law {al al1 : Al} {iv iv1 iv2 : Iv} {rv rv1 rv2 : Rv} {lw d mm far sm r1 r2 : Int32} (hG : GI al iv rv) (hCday : Cday iv rv) (hClaw : Claw iv rv) (p1 : (spLaw lw d mm far sm (iv 49 0 9).toInt (iv 68 0 5).toInt = 0 ∧ r1.toInt = (iv 68 0 5).toInt ∧ (iv1 68 0 5).toInt = (iv 68 0 5).toInt + 1 ∧ (∀ k : Nat, iv1 69 0 k = (if k = (iv 68 0 5).toNatClampNeg then lw else iv 69 0 k) ∧ iv1 70 0 k = (if k = (iv 68 0 5).toNatClampNeg then d else iv 70 0 k) ∧ iv1 71 0 k = (if k = (iv 68 0 5).toNatClampNeg then mm else iv 71 0 k) ∧ iv1 72 0 k = (if k = (iv 68 0 5).toNatClampNeg then far else iv 72 0 k) ∧ iv1 73 0 k = (if k = (iv 68 0 5).toNatClampNeg then sm else iv 73 0 k))) ∨ (spLaw lw d mm far sm (iv 49 0 9).toInt (iv 68 0 5).toInt ≠ 0 ∧ r1 = spLaw lw d mm far sm (iv 49 0 9).toInt (iv 68 0 5).toInt ∧ iv1 68 0 5 = iv 68 0 5 ∧ (∀ k : Nat, iv1 69 0 k = iv 69 0 k ∧ iv1 70 0 k = iv 70 0 k ∧ iv1 71 0 k = iv 71 0 k ∧ iv1 72 0 k = iv 72 0 k ∧ iv1 73 0 k = iv 73 0 k))) (p2 : (spLaw lw d mm far sm (iv1 0 0 0).toInt (iv1 0 0 24).toInt = 0 ∧ r2.toInt = (iv1 0 0 24).toInt ∧ (iv2 0 0 24).toInt = (iv1 0 0 24).toInt + 1 ∧ (∀ k : Nat, iv2 21 0 k = (if k = (iv1 0 0 24).toNatClampNeg then lw else iv1 21 0 k) ∧ iv2 22 0 k = (if k = (iv1 0 0 24).toNatClampNeg then d else iv1 22 0 k) ∧ iv2 23 0 k = (if k = (iv1 0 0 24).toNatClampNeg then mm else iv1 23 0 k) ∧ iv2 24 0 k = (if k = (iv1 0 0 24).toNatClampNeg then far else iv1 24 0 k) ∧ iv2 25 0 k = (if k = (iv1 0 0 24).toNatClampNeg then sm else iv1 25 0 k))) ∨ (spLaw lw d mm far sm (iv1 0 0 0).toInt (iv1 0 0 24).toInt ≠ 0 ∧ r2 = spLaw lw d mm far sm (iv1 0 0 0).toInt (iv1 0 0 24).toInt ∧ iv2 0 0 24 = iv1 0 0 24 ∧ (∀ k : Nat, iv2 21 0 k = iv1 21 0 k ∧ iv2 22 0 k = iv1 22 0 k ∧ iv2 23 0 k = iv1 23 0 k ∧ iv2 24 0 k = iv1 24 0 k ∧ iv2 25 0 k = iv1 25 0 k))) (x1 : EX ([51, 69, 70, 71, 72, 73], [(68, 5)]) al iv rv al1 iv1 rv1) (f2 : FR ([16, 21, 22, 23, 24, 25], [(0, 24)]) iv1 iv2) (g2 : FR ([16, 21, 22, 23, 24, 25], [(0, 24)]) rv1 rv2) : r1 = r2 := by
  have eN : iv1 0 0 24 = iv 68 0 5 := by rw [(x1.2.2 0 0 24 (h1_0 hG) (by decide)).1]; exact hClaw.1
  have eD : iv1 0 0 0 = iv 49 0 9 := by rw [(x1.2.2 0 0 0 (h1_0 hG) (by decide)).1]; exact hCday
  rw [eN, eD] at p2
  rcases two_cases p1 p2 with ⟨o, ⟨q1, q2, E⟩, ⟨s1, s2, M⟩⟩ | ⟨o, ⟨q1, q2, E⟩, ⟨s1, s2, M⟩⟩
  · exact (fa_eq _ _).mpr (by omega)
  · rw [q1, s1]
def REL (iv : Iv) (rv : Rv) : Prop := Cday iv rv ∧ Claw iv rv
abbrev rT : List Nat := [21, 22, 23, 24, 25, 69, 70, 71, 72, 73]
abbrev rF : List (Nat × Nat) := [(0, 0), (49, 9), (0, 24), (68, 5)]
theorem sT_Cday {md : Mo} (h : RC rT rF md) : RC T_Cday F_Cday md := ⟨fun t ht => h.1 t ((by decide : ∀ t, t ∈ T_Cday → t ∈ rT) t ht), fun q hq => h.2 q ((by decide : ∀ q, q ∈ F_Cday → q ∈ rF) q hq)⟩
theorem sT_Claw {md : Mo} (h : RC rT rF md) : RC T_Claw F_Claw md := ⟨fun t ht => h.1 t ((by decide : ∀ t, t ∈ T_Claw → t ∈ rT) t ht), fun q hq => h.2 q ((by decide : ∀ q, q ∈ F_Claw → q ∈ rF) q hq)⟩
theorem REL.fr {al : Al} {iv iv' : Iv} {rv rv' : Rv} {md : Mo} (h : REL iv rv) (hG : GI al iv rv) (f : FR md iv iv') (g : FR md rv rv') (hd : RC rT rF md) : REL iv' rv' := ⟨Cday.keep h.1 hG (KP.fr f g (sT_Cday hd)), Claw.keep h.2 hG (KP.fr f g (sT_Claw hd))⟩
theorem REL.ex {al al' : Al} {iv iv' : Iv} {rv rv' : Rv} {md : Mo} (h : REL iv rv) (hG : GI al iv rv) (g : EX md al iv rv al' iv' rv') (hd : RC rT rF md) : REL iv' rv' := ⟨Cday.keep h.1 hG (KP.ex g (sT_Cday hd)), Claw.keep h.2 hG (KP.ex g (sT_Claw hd))⟩
theorem REL.s_days {al al1 : Al} {iv iv1 iv2 : Iv} {rv rv1 rv2 : Rv} {n : Int32} (hG : GI al iv rv) (h : REL iv rv) (p1 : (iv1 49 0 9).toInt = dayF n.toInt (iv 49 0 9).toInt) (p2 : (iv2 0 0 0).toInt = dayF n.toInt (iv1 0 0 0).toInt) (x1 : EX ([51], [(49, 9)]) al iv rv al1 iv1 rv1) (f2 : FR ([16], [(0, 0)]) iv1 iv2) (g2 : FR ([16], [(0, 0)]) rv1 rv2) : REL iv2 rv2 := ⟨Cday.s_days hG h.1 p1 p2 x1 f2 g2, Claw.keep h.2 hG (KP.two x1 f2 g2 (by decide) (by decide))⟩
theorem REL.s_law {al al1 : Al} {iv iv1 iv2 : Iv} {rv rv1 rv2 : Rv} {lw d mm far sm r1 r2 : Int32} (hG : GI al iv rv) (h : REL iv rv) (p1 : (spLaw lw d mm far sm (iv 49 0 9).toInt (iv 68 0 5).toInt = 0 ∧ r1.toInt = (iv 68 0 5).toInt ∧ (iv1 68 0 5).toInt = (iv 68 0 5).toInt + 1 ∧ (∀ k : Nat, iv1 69 0 k = (if k = (iv 68 0 5).toNatClampNeg then lw else iv 69 0 k) ∧ iv1 70 0 k = (if k = (iv 68 0 5).toNatClampNeg then d else iv 70 0 k) ∧ iv1 71 0 k = (if k = (iv 68 0 5).toNatClampNeg then mm else iv 71 0 k) ∧ iv1 72 0 k = (if k = (iv 68 0 5).toNatClampNeg then far else iv 72 0 k) ∧ iv1 73 0 k = (if k = (iv 68 0 5).toNatClampNeg then sm else iv 73 0 k))) ∨ (spLaw lw d mm far sm (iv 49 0 9).toInt (iv 68 0 5).toInt ≠ 0 ∧ r1 = spLaw lw d mm far sm (iv 49 0 9).toInt (iv 68 0 5).toInt ∧ iv1 68 0 5 = iv 68 0 5 ∧ (∀ k : Nat, iv1 69 0 k = iv 69 0 k ∧ iv1 70 0 k = iv 70 0 k ∧ iv1 71 0 k = iv 71 0 k ∧ iv1 72 0 k = iv 72 0 k ∧ iv1 73 0 k = iv 73 0 k))) (p2 : (spLaw lw d mm far sm (iv1 0 0 0).toInt (iv1 0 0 24).toInt = 0 ∧ r2.toInt = (iv1 0 0 24).toInt ∧ (iv2 0 0 24).toInt = (iv1 0 0 24).toInt + 1 ∧ (∀ k : Nat, iv2 21 0 k = (if k = (iv1 0 0 24).toNatClampNeg then lw else iv1 21 0 k) ∧ iv2 22 0 k = (if k = (iv1 0 0 24).toNatClampNeg then d else iv1 22 0 k) ∧ iv2 23 0 k = (if k = (iv1 0 0 24).toNatClampNeg then mm else iv1 23 0 k) ∧ iv2 24 0 k = (if k = (iv1 0 0 24).toNatClampNeg then far else iv1 24 0 k) ∧ iv2 25 0 k = (if k = (iv1 0 0 24).toNatClampNeg then sm else iv1 25 0 k))) ∨ (spLaw lw d mm far sm (iv1 0 0 0).toInt (iv1 0 0 24).toInt ≠ 0 ∧ r2 = spLaw lw d mm far sm (iv1 0 0 0).toInt (iv1 0 0 24).toInt ∧ iv2 0 0 24 = iv1 0 0 24 ∧ (∀ k : Nat, iv2 21 0 k = iv1 21 0 k ∧ iv2 22 0 k = iv1 22 0 k ∧ iv2 23 0 k = iv1 23 0 k ∧ iv2 24 0 k = iv1 24 0 k ∧ iv2 25 0 k = iv1 25 0 k))) (x1 : EX ([51, 69, 70, 71, 72, 73], [(68, 5)]) al iv rv al1 iv1 rv1) (f2 : FR ([16, 21, 22, 23, 24, 25], [(0, 24)]) iv1 iv2) (g2 : FR ([16, 21, 22, 23, 24, 25], [(0, 24)]) rv1 rv2) : REL iv2 rv2 := ⟨Cday.keep h.1 hG (KP.two x1 f2 g2 (by decide) (by decide)), Claw.s_law hG h.1 h.2 p1 p2 x1 f2 g2⟩
theorem REL.a_law {al al1 : Al} {iv iv1 iv2 : Iv} {rv rv1 rv2 : Rv} {lw d mm far sm r1 r2 : Int32} (hG : GI al iv rv) (h : REL iv rv) (p1 : (spLaw lw d mm far sm (iv 49 0 9).toInt (iv 68 0 5).toInt = 0 ∧ r1.toInt = (iv 68 0 5).toInt ∧ (iv1 68 0 5).toInt = (iv 68 0 5).toInt + 1 ∧ (∀ k : Nat, iv1 69 0 k = (if k = (iv 68 0 5).toNatClampNeg then lw else iv 69 0 k) ∧ iv1 70 0 k = (if k = (iv 68 0 5).toNatClampNeg then d else iv 70 0 k) ∧ iv1 71 0 k = (if k = (iv 68 0 5).toNatClampNeg then mm else iv 71 0 k) ∧ iv1 72 0 k = (if k = (iv 68 0 5).toNatClampNeg then far else iv 72 0 k) ∧ iv1 73 0 k = (if k = (iv 68 0 5).toNatClampNeg then sm else iv 73 0 k))) ∨ (spLaw lw d mm far sm (iv 49 0 9).toInt (iv 68 0 5).toInt ≠ 0 ∧ r1 = spLaw lw d mm far sm (iv 49 0 9).toInt (iv 68 0 5).toInt ∧ iv1 68 0 5 = iv 68 0 5 ∧ (∀ k : Nat, iv1 69 0 k = iv 69 0 k ∧ iv1 70 0 k = iv 70 0 k ∧ iv1 71 0 k = iv 71 0 k ∧ iv1 72 0 k = iv 72 0 k ∧ iv1 73 0 k = iv 73 0 k))) (p2 : (spLaw lw d mm far sm (iv1 0 0 0).toInt (iv1 0 0 24).toInt = 0 ∧ r2.toInt = (iv1 0 0 24).toInt ∧ (iv2 0 0 24).toInt = (iv1 0 0 24).toInt + 1 ∧ (∀ k : Nat, iv2 21 0 k = (if k = (iv1 0 0 24).toNatClampNeg then lw else iv1 21 0 k) ∧ iv2 22 0 k = (if k = (iv1 0 0 24).toNatClampNeg then d else iv1 22 0 k) ∧ iv2 23 0 k = (if k = (iv1 0 0 24).toNatClampNeg then mm else iv1 23 0 k) ∧ iv2 24 0 k = (if k = (iv1 0 0 24).toNatClampNeg then far else iv1 24 0 k) ∧ iv2 25 0 k = (if k = (iv1 0 0 24).toNatClampNeg then sm else iv1 25 0 k))) ∨ (spLaw lw d mm far sm (iv1 0 0 0).toInt (iv1 0 0 24).toInt ≠ 0 ∧ r2 = spLaw lw d mm far sm (iv1 0 0 0).toInt (iv1 0 0 24).toInt ∧ iv2 0 0 24 = iv1 0 0 24 ∧ (∀ k : Nat, iv2 21 0 k = iv1 21 0 k ∧ iv2 22 0 k = iv1 22 0 k ∧ iv2 23 0 k = iv1 23 0 k ∧ iv2 24 0 k = iv1 24 0 k ∧ iv2 25 0 k = iv1 25 0 k))) (x1 : EX ([51, 69, 70, 71, 72, 73], [(68, 5)]) al iv rv al1 iv1 rv1) (f2 : FR ([16, 21, 22, 23, 24, 25], [(0, 24)]) iv1 iv2) (g2 : FR ([16, 21, 22, 23, 24, 25], [(0, 24)]) rv1 rv2) : r1 = r2 := ans_law hG h.1 h.2 p1 p2 x1 f2 g2
def LSt (ox om : Nat) (al : Al) (iv : Iv) (rv : Rv) : Prop := GI al iv rv ∧ al.2 49 0 = ox ∧ al.2 0 0 = om ∧ REL iv rv
def LX (p : Program) (s : State) (m : MethodId) (c : Code) (b L : Nat) (xs : Nat → Int32) (D : va_G) (cA : FieldType → ClassId) : Prop := Cx p s m #[Value.ref b] c cL_law 4 RL D cA ∧ va_X b L xs s s.heap ∧ b < s.heap.size ∧ SX cA s.heap.size s s.heap ∧ L ≤ 3584
def bz (x : Int32) : Int32 := if x = 0 then 0 else 1
theorem bz_0 {x : Int32} (h : x.toInt = (0 : Int32).toInt) : (0 : Int32) = bz x := by
  have : x = 0 := (fa_eq _ _).mpr h
  rw [this]; rfl
theorem bz_1 {x : Int32} (h : ¬ x.toInt = (0 : Int32).toInt) : (1 : Int32) = bz x := by
  unfold bz; rw [if_neg (fun e => h (by rw [e]))]
section LR
variable {p : Program} {l : Launch} {e : Env} {R : Room} {s : State} {m : MethodId} {args : Array Value} {below : List Frame} {meth : Method} {c : Code} {H : Heap} {locs : List Loc} {cells slots : Nat} {Q : State → Prop}
variable {cc : ByteArray} {pc nL : Nat} {ls : Array Slot} {rest : List Value} {own : String} {D : va_G} {cA : FieldType → ClassId} {sz : Nat} {al : Al} {iv : Iv} {rv : Rv} {b L : Nat} {xs : Nat → Int32}
theorem q_ai (X : LX p s m c b L xs D cA) (hS : va_S (Aq s.heap.size) s.heap H locs) {i k v : Int32} (hk : 0 ≤ k.toInt ∧ k.toInt ≤ 6) (hi : 0 ≤ i.toInt ∧ i.toInt + 6 < L) (ev : xs (i + k).toNatClampNeg = v) (d1 : decode cL_law pc = .ok (.iadd, 1)) (d2 : decode cL_law (pc + 1) = .ok (.iaload, 1))
    (kk : W p l e R s m #[Value.ref b] below meth c H locs cells slots Q (F0 m (pc + 2) ls (.int v :: rest))) : W p l e R s m #[Value.ref b] below meth c H locs cells slots Q (F0 m pc ls (.int k :: .int i :: .ref b :: rest)) := by
  obtain ⟨C, hX, hbl, -, hL⟩ := X
  have ti : (i + k).toInt = i.toInt + k.toInt := fb_addI (by omega) (by omega)
  refine lv_iadd C.1.1 C.1.2.1 d1 ?_
  refine va_sld (A := Aq s.heap.size) C.1.1 C.1.2.1 hX hbl (fun z => absurd hbl (Nat.not_lt.mpr z)) hS (ix_in (by omega) (by omega)) d2 ?_
  rw [ev]; exact kk
theorem q_runVX {y : MethodName} {bytes : ByteArray} {maxL mc ms n index t i ci : Nat} {ret : Option FieldType} {rmm : Room} {As : List Value} {q : vw_C} {Qc : Array Value → State → Outcome → State → Prop} {X : State → Prop} {st : List Value} (C : Cx p s m args c cc nL own D cA) (hU : UW D cA sz al iv rv H) (hz : sz ≤ H.size)
    (hX1 : ∀ U : State, U.heap = H → s.WarmedH U.vm → X U) (hX2 : ∀ (U : State) (g : JFrame) (mk : MethodId) (a : Array Value), X U → X (U.calling g mk a))
    (hM : Met l y (wd y bytes maxL ret) rmm (PcA D cA sz al iv rv (.ref (al.2 t i) :: As) X) Qc mc ms (Aq sz)) (vm : VM y bytes maxL ret n) (hl : Cond.methodLink own index y ∈ BW) (kp : (pt t).1 = some ci) (hc : vwCl[ci]? = some q) (hq : q.1 = y.cls) (hi : i < al.1 t) (hls : ls.size = nL) (hn : As.length = n) (hst : st = As.reverse ++ .ref (al.2 t i) :: rest)
    (hrm : (rest.map fun v => v.category).sum ≤ 8) (hdg : decode cc pc = .ok (.invokevirtual index, 3)) (hrc : rmm.cells = mc) (hrs : rmm.slots = ms) (hR : rmm.frames + 1 ≤ R.frames ∧ 8 + (maxL + 11) + rmm.locals ≤ R.locals) (hf : cells + mc ≤ R.cells ∧ slots + ms ≤ R.slots) :
    va_Run p l e R s m args below meth c H locs cells slots mc ms (F0 m pc ls st) rest (Qc (Value.ref (al.2 t i) :: As).toArray) (Aq sz) := by
  obtain ⟨v1, v2, v3, v4, v5⟩ := vm
  have hts := C.1.2.2.2.2
  have hK := C.2
  obtain ⟨cell, g1, g2, g3, -⟩ := (hU.1 t i hi).ob kp
  refine va_runV (C := y.cls) (As := As) (rest := rest) C.1 hM ⟨cb_of hts v1 v4 hl v5 hrc hrs hR, hts _ v2, hts _ v3⟩ ⟨fun a U g mk q => ⟨q.1, q.2.1, q.2.2.1.calling g mk a, q.2.2.2.1, hX2 U g mk a q.2.2.2.2⟩, ⟨cell, g1, by rw [g3]; rfl, ?_⟩, fun U hH hW => ⟨rfl, by rw [hH]; exact hU, hK.warm hW, by rw [hH]; exact hz, hX1 U hH hW⟩⟩ rfl hn hls hst (lv_room hrm) hdg hf
  rw [g2, ← hq]; exact (hK.1.1 ci q hc).2.1
end LR
end
section
set_option maxHeartbeats 4000000 in
set_option maxRecDepth 100000 in
theorem law_0 {p : Program} {l : Launch} {e : Env} {s : State} {m : MethodId} {below : List Frame} {meth : Method} {c : Code} {b L : Nat} {xs : Nat → Int32} {D : va_G} {cA : FieldType → ClassId} {ls : Array Slot} {Q : State → Prop} {H : Heap} {locs : List Loc} {cells slots : Nat} {i : Int32} {ox om : Nat} {al : Al} {iv : Iv} {rv : Rv} (X : LX p s m c b L xs D cA) (hl : lv_has ls 4 [(3, .int i), (2, .ref om), (1, .ref ox), (0, .ref b)]) (hi : 0 ≤ i.toInt ∧ i.toInt + 6 < L) (hQ : LSt ox om al iv rv) (hU : UW D cA s.heap.size al iv rv H) (hS : va_S (Aq s.heap.size) s.heap H locs) (hc : cells + 3 ≤ 600000 ∧ slots + 16 ≤ 7302250)
    (kk : ∀ (al' : Al) (iv' : Iv) (rv' : Rv) (H' : Heap) (locs' : List Loc), LSt ox om al' iv' rv' → UW D cA s.heap.size al' iv' rv' H' → va_S (Aq s.heap.size) s.heap H' locs' → W p l e room_1 s m #[Value.ref b] below meth c H' locs' (cells + 3) (slots + 16) Q (F0 m 1475 ls [])) : W p l e room_1 s m #[Value.ref b] below meth c H locs cells slots Q (F0 m 188 ls []) := by
  obtain ⟨hG, hox, hom, hRel⟩ := hQ
  have C := X.1
  have hx := C.1.1
  have hb := C.1.2.1
  obtain ⟨v1, e1⟩ : ∃ z, xs (i + 1).toNatClampNeg = z := ⟨_, rfl⟩
  refine lv_aload_n hx hb dL_law_188 rfl (lv_at hl 2 rfl) ?_
  refine lv_aload_n hx hb dL_law_189 rfl (lv_at hl 3 rfl) ?_
  refine lv_iload_n hx hb dL_law_190 rfl (lv_at hl 0 rfl) ?_
  refine lv_iconst (v := 1) hx hb dL_law_191 (by decide) ?_
  refine q_ai X hS (k := 1) (by decide) hi e1 dL_law_192 dL_law_193 ?_
  have hG0 := hG
  have hGp := hG
  refine W.eq (g2 := F0 m 194 ls [.int v1, .ref (al.2 49 0)]) (by rw [hox]) ?_
  refine q_fi (q_runV (t := 49) (i := 0) (As := [.int v1]) (rest := []) C hU (c_X11_days_x hG v1) vm_X11_days ml_L_13 k_49.1 (hc := rfl) rfl (h1_49 hG) hl.1 rfl rfl (Nat.le_of_ble_eq_true rfl) dL_law_194 rfl rfl ⟨Nat.le_of_ble_eq_true rfl, Nat.le_of_ble_eq_true rfl⟩ ⟨by show cells + 0 ≤ 600000; omega, by show slots + 0 ≤ 7302250; omega⟩) hS (fun r1 iv1 rv1 H locs hG f1 g1 hp1 hU hS => ?_)
  refine lv_pop hx hb dL_law_197 rfl ?_
  refine lv_aload_n hx hb dL_law_198 rfl (lv_at hl 1 rfl) ?_
  refine lv_aload_n hx hb dL_law_199 rfl (lv_at hl 3 rfl) ?_
  refine lv_iload_n hx hb dL_law_200 rfl (lv_at hl 0 rfl) ?_
  refine lv_iconst (v := 1) hx hb dL_law_201 (by decide) ?_
  refine q_ai X hS (k := 1) (by decide) hi e1 dL_law_202 dL_law_203 ?_
  have hGp := hG
  refine W.eq (g2 := F0 m 204 ls [.int v1, .ref (al.2 0 0)]) (by rw [hom]) ?_
  refine q_fi (q_runV (t := 0) (i := 0) (As := [.int v1]) (rest := []) C hU (c_X12_days_x hG v1) vm_X12_days ml_L_17 k_0.1 (hc := rfl) rfl (h1_0 hG) hl.1 rfl rfl (Nat.le_of_ble_eq_true rfl) dL_law_204 rfl rfl ⟨Nat.le_of_ble_eq_true rfl, Nat.le_of_ble_eq_true rfl⟩ ⟨by show cells + 0 ≤ 600000; omega, by show slots + 0 ≤ 7302250; omega⟩) hS (fun r2 iv2 rv2 H locs hG f2 g2 hp2 hU hS => ?_)
  have hRel := REL.s_days hG0 hRel hp1 hp2 (EX.of f1 g1) f2 g2
  refine lv_pop hx hb dL_law_207 rfl ?_
  refine lv_goto (tgt := 1475) hx hb dL_law_208 (by decide) ?_
  refine W.widen (k := cells + 3) (n := slots + 16) (by omega) (by omega) ?_
  exact kk _ _ _ _ _ ⟨hG, hox, hom, hRel⟩ hU hS
set_option maxHeartbeats 4000000 in
set_option maxRecDepth 100000 in
theorem law_1 {p : Program} {l : Launch} {e : Env} {s : State} {m : MethodId} {below : List Frame} {meth : Method} {c : Code} {b L : Nat} {xs : Nat → Int32} {D : va_G} {cA : FieldType → ClassId} {ls : Array Slot} {Q : State → Prop} {H : Heap} {locs : List Loc} {cells slots : Nat} {i : Int32} {ox om : Nat} {al : Al} {iv : Iv} {rv : Rv} (X : LX p s m c b L xs D cA) (hl : lv_has ls 4 [(3, .int i), (2, .ref om), (1, .ref ox), (0, .ref b)]) (hi : 0 ≤ i.toInt ∧ i.toInt + 6 < L) (hQ : LSt ox om al iv rv) (hU : UW D cA s.heap.size al iv rv H) (hS : va_S (Aq s.heap.size) s.heap H locs) (hc : cells + 3 ≤ 600000 ∧ slots + 16 ≤ 7302250)
    (kk : ∀ (al' : Al) (iv' : Iv) (rv' : Rv) (H' : Heap) (locs' : List Loc), LSt ox om al' iv' rv' → UW D cA s.heap.size al' iv' rv' H' → va_S (Aq s.heap.size) s.heap H' locs' → W p l e room_1 s m #[Value.ref b] below meth c H' locs' (cells + 3) (slots + 16) Q (F0 m 1475 ls [])) : W p l e room_1 s m #[Value.ref b] below meth c H locs cells slots Q (F0 m 211 ls []) := by
  obtain ⟨hG, hox, hom, hRel⟩ := hQ
  have C := X.1
  have hx := C.1.1
  have hb := C.1.2.1
  obtain ⟨v1, e1⟩ : ∃ z, xs (i + 1).toNatClampNeg = z := ⟨_, rfl⟩
  obtain ⟨v2, e2⟩ : ∃ z, xs (i + 2).toNatClampNeg = z := ⟨_, rfl⟩
  refine lv_aload_n hx hb dL_law_211 rfl (lv_at hl 2 rfl) ?_
  refine lv_aload_n hx hb dL_law_212 rfl (lv_at hl 3 rfl) ?_
  refine lv_iload_n hx hb dL_law_213 rfl (lv_at hl 0 rfl) ?_
  refine lv_iconst (v := 1) hx hb dL_law_214 (by decide) ?_
  refine q_ai X hS (k := 1) (by decide) hi e1 dL_law_215 dL_law_216 ?_
  refine lv_aload_n hx hb dL_law_217 rfl (lv_at hl 3 rfl) ?_
  refine lv_iload_n hx hb dL_law_218 rfl (lv_at hl 0 rfl) ?_
  refine lv_iconst (v := 2) hx hb dL_law_219 (by decide) ?_
  refine q_ai X hS (k := 2) (by decide) hi e2 dL_law_220 dL_law_221 ?_
  have hG0 := hG
  have hGp := hG
  refine W.eq (g2 := F0 m 222 ls [.int v2, .int v1, .ref (al.2 49 0)]) (by rw [hox]) ?_
  refine q_fi (q_runV (t := 49) (i := 0) (As := [.int v1, .int v2]) (rest := []) C hU (c_X11_land hG v1 v2) vm_X11_land ml_L_18 k_49.1 (hc := rfl) rfl (h1_49 hG) hl.1 rfl rfl (Nat.le_of_ble_eq_true rfl) dL_law_222 rfl rfl ⟨Nat.le_of_ble_eq_true rfl, Nat.le_of_ble_eq_true rfl⟩ ⟨by show cells + 0 ≤ 600000; omega, by show slots + 0 ≤ 7302250; omega⟩) hS (fun r1 iv1 rv1 H locs hG f1 g1 hp1 hU hS => ?_)
  have hRel := hRel.fr hGp f1 g1 (by decide)
  refine lv_pop hx hb dL_law_225 rfl ?_
  refine lv_aload_n hx hb dL_law_226 rfl (lv_at hl 1 rfl) ?_
  refine lv_aload_n hx hb dL_law_227 rfl (lv_at hl 3 rfl) ?_
  refine lv_iload_n hx hb dL_law_228 rfl (lv_at hl 0 rfl) ?_
  refine lv_iconst (v := 1) hx hb dL_law_229 (by decide) ?_
  refine q_ai X hS (k := 1) (by decide) hi e1 dL_law_230 dL_law_231 ?_
  refine lv_aload_n hx hb dL_law_232 rfl (lv_at hl 3 rfl) ?_
  refine lv_iload_n hx hb dL_law_233 rfl (lv_at hl 0 rfl) ?_
  refine lv_iconst (v := 2) hx hb dL_law_234 (by decide) ?_
  refine q_ai X hS (k := 2) (by decide) hi e2 dL_law_235 dL_law_236 ?_
  have hGp := hG
  refine W.eq (g2 := F0 m 237 ls [.int v2, .int v1, .ref (al.2 0 0)]) (by rw [hom]) ?_
  refine q_fi (q_runV (t := 0) (i := 0) (As := [.int v1, .int v2]) (rest := []) C hU (c_X12_land hG v1 v2) vm_X12_land ml_L_22 k_0.1 (hc := rfl) rfl (h1_0 hG) hl.1 rfl rfl (Nat.le_of_ble_eq_true rfl) dL_law_237 rfl rfl ⟨Nat.le_of_ble_eq_true rfl, Nat.le_of_ble_eq_true rfl⟩ ⟨by show cells + 0 ≤ 600000; omega, by show slots + 0 ≤ 7302250; omega⟩) hS (fun r2 iv2 rv2 H locs hG f2 g2 hp2 hU hS => ?_)
  have hRel := hRel.fr hGp f2 g2 (by decide)
  refine lv_pop hx hb dL_law_240 rfl ?_
  refine lv_goto (tgt := 1475) hx hb dL_law_241 (by decide) ?_
  refine W.widen (k := cells + 3) (n := slots + 16) (by omega) (by omega) ?_
  exact kk _ _ _ _ _ ⟨hG, hox, hom, hRel⟩ hU hS
set_option maxHeartbeats 4000000 in
set_option maxRecDepth 100000 in
theorem law_2 {p : Program} {l : Launch} {e : Env} {s : State} {m : MethodId} {below : List Frame} {meth : Method} {c : Code} {b L : Nat} {xs : Nat → Int32} {D : va_G} {cA : FieldType → ClassId} {ls : Array Slot} {Q : State → Prop} {H : Heap} {locs : List Loc} {cells slots : Nat} {i : Int32} {ox om : Nat} {al : Al} {iv : Iv} {rv : Rv} (X : LX p s m c b L xs D cA) (hl : lv_has ls 4 [(3, .int i), (2, .ref om), (1, .ref ox), (0, .ref b)]) (hi : 0 ≤ i.toInt ∧ i.toInt + 6 < L) (hQ : LSt ox om al iv rv) (hU : UW D cA s.heap.size al iv rv H) (hS : va_S (Aq s.heap.size) s.heap H locs) (hc : cells + 3 ≤ 600000 ∧ slots + 16 ≤ 7302250)
    (kk : ∀ (al' : Al) (iv' : Iv) (rv' : Rv) (H' : Heap) (locs' : List Loc), LSt ox om al' iv' rv' → UW D cA s.heap.size al' iv' rv' H' → va_S (Aq s.heap.size) s.heap H' locs' → W p l e room_1 s m #[Value.ref b] below meth c H' locs' (cells + 3) (slots + 16) Q (F0 m 1475 ls [])) : W p l e room_1 s m #[Value.ref b] below meth c H locs cells slots Q (F0 m 244 ls []) := by
  obtain ⟨hG, hox, hom, hRel⟩ := hQ
  have C := X.1
  have hx := C.1.1
  have hb := C.1.2.1
  obtain ⟨v1, e1⟩ : ∃ z, xs (i + 1).toNatClampNeg = z := ⟨_, rfl⟩
  obtain ⟨v2, e2⟩ : ∃ z, xs (i + 2).toNatClampNeg = z := ⟨_, rfl⟩
  obtain ⟨v3, e3⟩ : ∃ z, xs (i + 3).toNatClampNeg = z := ⟨_, rfl⟩
  refine lv_aload_n hx hb dL_law_244 rfl (lv_at hl 2 rfl) ?_
  refine lv_aload_n hx hb dL_law_245 rfl (lv_at hl 3 rfl) ?_
  refine lv_iload_n hx hb dL_law_246 rfl (lv_at hl 0 rfl) ?_
  refine lv_iconst (v := 1) hx hb dL_law_247 (by decide) ?_
  refine q_ai X hS (k := 1) (by decide) hi e1 dL_law_248 dL_law_249 ?_
  refine lv_aload_n hx hb dL_law_250 rfl (lv_at hl 3 rfl) ?_
  refine lv_iload_n hx hb dL_law_251 rfl (lv_at hl 0 rfl) ?_
  refine lv_iconst (v := 2) hx hb dL_law_252 (by decide) ?_
  refine q_ai X hS (k := 2) (by decide) hi e2 dL_law_253 dL_law_254 ?_
  refine lv_aload_n hx hb dL_law_255 rfl (lv_at hl 3 rfl) ?_
  refine lv_iload_n hx hb dL_law_256 rfl (lv_at hl 0 rfl) ?_
  refine lv_iconst (v := 3) hx hb dL_law_257 (by decide) ?_
  refine q_ai X hS (k := 3) (by decide) hi e3 dL_law_258 dL_law_259 ?_
  have hG0 := hG
  have hGp := hG
  refine W.eq (g2 := F0 m 260 ls [.int v3, .int v2, .int v1, .ref (al.2 49 0)]) (by rw [hox]) ?_
  refine q_fi (q_runV (t := 49) (i := 0) (As := [.int v1, .int v2, .int v3]) (rest := []) C hU (c_X11_miles hG v1 v2 v3) vm_X11_miles ml_L_23 k_49.1 (hc := rfl) rfl (h1_49 hG) hl.1 rfl rfl (Nat.le_of_ble_eq_true rfl) dL_law_260 rfl rfl ⟨Nat.le_of_ble_eq_true rfl, Nat.le_of_ble_eq_true rfl⟩ ⟨by show cells + 0 ≤ 600000; omega, by show slots + 0 ≤ 7302250; omega⟩) hS (fun r1 iv1 rv1 H locs hG f1 g1 hp1 hU hS => ?_)
  have hRel := hRel.fr hGp f1 g1 (by decide)
  refine lv_pop hx hb dL_law_263 rfl ?_
  refine lv_aload_n hx hb dL_law_264 rfl (lv_at hl 1 rfl) ?_
  refine lv_aload_n hx hb dL_law_265 rfl (lv_at hl 3 rfl) ?_
  refine lv_iload_n hx hb dL_law_266 rfl (lv_at hl 0 rfl) ?_
  refine lv_iconst (v := 1) hx hb dL_law_267 (by decide) ?_
  refine q_ai X hS (k := 1) (by decide) hi e1 dL_law_268 dL_law_269 ?_
  refine lv_aload_n hx hb dL_law_270 rfl (lv_at hl 3 rfl) ?_
  refine lv_iload_n hx hb dL_law_271 rfl (lv_at hl 0 rfl) ?_
  refine lv_iconst (v := 2) hx hb dL_law_272 (by decide) ?_
  refine q_ai X hS (k := 2) (by decide) hi e2 dL_law_273 dL_law_274 ?_
  refine lv_aload_n hx hb dL_law_275 rfl (lv_at hl 3 rfl) ?_
  refine lv_iload_n hx hb dL_law_276 rfl (lv_at hl 0 rfl) ?_
  refine lv_iconst (v := 3) hx hb dL_law_277 (by decide) ?_
  refine q_ai X hS (k := 3) (by decide) hi e3 dL_law_278 dL_law_279 ?_
  have hGp := hG
  refine W.eq (g2 := F0 m 280 ls [.int v3, .int v2, .int v1, .ref (al.2 0 0)]) (by rw [hom]) ?_
  refine q_fi (q_runV (t := 0) (i := 0) (As := [.int v1, .int v2, .int v3]) (rest := []) C hU (c_X12_miles hG v1 v2 v3) vm_X12_miles ml_L_27 k_0.1 (hc := rfl) rfl (h1_0 hG) hl.1 rfl rfl (Nat.le_of_ble_eq_true rfl) dL_law_280 rfl rfl ⟨Nat.le_of_ble_eq_true rfl, Nat.le_of_ble_eq_true rfl⟩ ⟨by show cells + 0 ≤ 600000; omega, by show slots + 0 ≤ 7302250; omega⟩) hS (fun r2 iv2 rv2 H locs hG f2 g2 hp2 hU hS => ?_)
  have hRel := hRel.fr hGp f2 g2 (by decide)
  refine lv_pop hx hb dL_law_283 rfl ?_
  refine lv_goto (tgt := 1475) hx hb dL_law_284 (by decide) ?_
  refine W.widen (k := cells + 3) (n := slots + 16) (by omega) (by omega) ?_
  exact kk _ _ _ _ _ ⟨hG, hox, hom, hRel⟩ hU hS
set_option maxHeartbeats 4000000 in
set_option maxRecDepth 100000 in
theorem law_3 {p : Program} {l : Launch} {e : Env} {s : State} {m : MethodId} {below : List Frame} {meth : Method} {c : Code} {b L : Nat} {xs : Nat → Int32} {D : va_G} {cA : FieldType → ClassId} {ls : Array Slot} {Q : State → Prop} {H : Heap} {locs : List Loc} {cells slots : Nat} {i : Int32} {ox om : Nat} {al : Al} {iv : Iv} {rv : Rv} (X : LX p s m c b L xs D cA) (hl : lv_has ls 4 [(3, .int i), (2, .ref om), (1, .ref ox), (0, .ref b)]) (hi : 0 ≤ i.toInt ∧ i.toInt + 6 < L) (hQ : LSt ox om al iv rv) (hU : UW D cA s.heap.size al iv rv H) (hS : va_S (Aq s.heap.size) s.heap H locs) (hc : cells + 3 ≤ 600000 ∧ slots + 16 ≤ 7302250)
    (kk : ∀ (al' : Al) (iv' : Iv) (rv' : Rv) (H' : Heap) (locs' : List Loc), LSt ox om al' iv' rv' → UW D cA s.heap.size al' iv' rv' H' → va_S (Aq s.heap.size) s.heap H' locs' → W p l e room_1 s m #[Value.ref b] below meth c H' locs' (cells + 3) (slots + 16) Q (F0 m 1475 ls [])) : W p l e room_1 s m #[Value.ref b] below meth c H locs cells slots Q (F0 m 287 ls []) := by
  obtain ⟨hG, hox, hom, hRel⟩ := hQ
  have C := X.1
  have hx := C.1.1
  have hb := C.1.2.1
  obtain ⟨v1, e1⟩ : ∃ z, xs (i + 1).toNatClampNeg = z := ⟨_, rfl⟩
  obtain ⟨v2, e2⟩ : ∃ z, xs (i + 2).toNatClampNeg = z := ⟨_, rfl⟩
  obtain ⟨v3, e3⟩ : ∃ z, xs (i + 3).toNatClampNeg = z := ⟨_, rfl⟩
  refine lv_aload_n hx hb dL_law_287 rfl (lv_at hl 2 rfl) ?_
  refine lv_aload_n hx hb dL_law_288 rfl (lv_at hl 3 rfl) ?_
  refine lv_iload_n hx hb dL_law_289 rfl (lv_at hl 0 rfl) ?_
  refine lv_iconst (v := 1) hx hb dL_law_290 (by decide) ?_
  refine q_ai X hS (k := 1) (by decide) hi e1 dL_law_291 dL_law_292 ?_
  refine lv_aload_n hx hb dL_law_293 rfl (lv_at hl 3 rfl) ?_
  refine lv_iload_n hx hb dL_law_294 rfl (lv_at hl 0 rfl) ?_
  refine lv_iconst (v := 2) hx hb dL_law_295 (by decide) ?_
  refine q_ai X hS (k := 2) (by decide) hi e2 dL_law_296 dL_law_297 ?_
  refine lv_aload_n hx hb dL_law_298 rfl (lv_at hl 3 rfl) ?_
  refine lv_iload_n hx hb dL_law_299 rfl (lv_at hl 0 rfl) ?_
  refine lv_iconst (v := 3) hx hb dL_law_300 (by decide) ?_
  refine q_ai X hS (k := 3) (by decide) hi e3 dL_law_301 dL_law_302 ?_
  have hG0 := hG
  have hGp := hG
  refine W.eq (g2 := F0 m 303 ls [.int v3, .int v2, .int v1, .ref (al.2 49 0)]) (by rw [hox]) ?_
  refine q_fi (q_runV (t := 49) (i := 0) (As := [.int v1, .int v2, .int v3]) (rest := []) C hU (c_X11_seen hG v1 v2 v3) vm_X11_seen ml_L_28 k_49.1 (hc := rfl) rfl (h1_49 hG) hl.1 rfl rfl (Nat.le_of_ble_eq_true rfl) dL_law_303 rfl rfl ⟨Nat.le_of_ble_eq_true rfl, Nat.le_of_ble_eq_true rfl⟩ ⟨by show cells + 0 ≤ 600000; omega, by show slots + 0 ≤ 7302250; omega⟩) hS (fun r1 iv1 rv1 H locs hG f1 g1 hp1 hU hS => ?_)
  have hRel := hRel.fr hGp f1 g1 (by decide)
  refine lv_pop hx hb dL_law_306 rfl ?_
  refine lv_aload_n hx hb dL_law_307 rfl (lv_at hl 1 rfl) ?_
  refine lv_aload_n hx hb dL_law_308 rfl (lv_at hl 3 rfl) ?_
  refine lv_iload_n hx hb dL_law_309 rfl (lv_at hl 0 rfl) ?_
  refine lv_iconst (v := 1) hx hb dL_law_310 (by decide) ?_
  refine q_ai X hS (k := 1) (by decide) hi e1 dL_law_311 dL_law_312 ?_
  refine lv_aload_n hx hb dL_law_313 rfl (lv_at hl 3 rfl) ?_
  refine lv_iload_n hx hb dL_law_314 rfl (lv_at hl 0 rfl) ?_
  refine lv_iconst (v := 2) hx hb dL_law_315 (by decide) ?_
  refine q_ai X hS (k := 2) (by decide) hi e2 dL_law_316 dL_law_317 ?_
  refine lv_aload_n hx hb dL_law_318 rfl (lv_at hl 3 rfl) ?_
  refine lv_iload_n hx hb dL_law_319 rfl (lv_at hl 0 rfl) ?_
  refine lv_iconst (v := 3) hx hb dL_law_320 (by decide) ?_
  refine q_ai X hS (k := 3) (by decide) hi e3 dL_law_321 dL_law_322 ?_
  have hGp := hG
  refine W.eq (g2 := F0 m 323 ls [.int v3, .int v2, .int v1, .ref (al.2 0 0)]) (by rw [hom]) ?_
  refine q_fi (q_runV (t := 0) (i := 0) (As := [.int v1, .int v2, .int v3]) (rest := []) C hU (c_X12_seen hG v1 v2 v3) vm_X12_seen ml_L_31 k_0.1 (hc := rfl) rfl (h1_0 hG) hl.1 rfl rfl (Nat.le_of_ble_eq_true rfl) dL_law_323 rfl rfl ⟨Nat.le_of_ble_eq_true rfl, Nat.le_of_ble_eq_true rfl⟩ ⟨by show cells + 0 ≤ 600000; omega, by show slots + 0 ≤ 7302250; omega⟩) hS (fun r2 iv2 rv2 H locs hG f2 g2 hp2 hU hS => ?_)
  have hRel := hRel.fr hGp f2 g2 (by decide)
  refine lv_pop hx hb dL_law_326 rfl ?_
  refine lv_goto (tgt := 1475) hx hb dL_law_327 (by decide) ?_
  refine W.widen (k := cells + 3) (n := slots + 16) (by omega) (by omega) ?_
  exact kk _ _ _ _ _ ⟨hG, hox, hom, hRel⟩ hU hS
set_option maxHeartbeats 4000000 in
set_option maxRecDepth 100000 in
theorem law_4 {p : Program} {l : Launch} {e : Env} {s : State} {m : MethodId} {below : List Frame} {meth : Method} {c : Code} {b L : Nat} {xs : Nat → Int32} {D : va_G} {cA : FieldType → ClassId} {ls : Array Slot} {Q : State → Prop} {H : Heap} {locs : List Loc} {cells slots : Nat} {i : Int32} {ox om : Nat} {al : Al} {iv : Iv} {rv : Rv} (X : LX p s m c b L xs D cA) (hl : lv_has ls 4 [(3, .int i), (2, .ref om), (1, .ref ox), (0, .ref b)]) (hi : 0 ≤ i.toInt ∧ i.toInt + 6 < L) (hQ : LSt ox om al iv rv) (hU : UW D cA s.heap.size al iv rv H) (hS : va_S (Aq s.heap.size) s.heap H locs) (hc : cells + 3 ≤ 600000 ∧ slots + 16 ≤ 7302250)
    (kk : ∀ (al' : Al) (iv' : Iv) (rv' : Rv) (H' : Heap) (locs' : List Loc), LSt ox om al' iv' rv' → UW D cA s.heap.size al' iv' rv' H' → va_S (Aq s.heap.size) s.heap H' locs' → W p l e room_1 s m #[Value.ref b] below meth c H' locs' (cells + 3) (slots + 16) Q (F0 m 1475 ls [])) : W p l e room_1 s m #[Value.ref b] below meth c H locs cells slots Q (F0 m 330 ls []) := by
  obtain ⟨hG, hox, hom, hRel⟩ := hQ
  have C := X.1
  have hx := C.1.1
  have hb := C.1.2.1
  obtain ⟨v1, e1⟩ : ∃ z, xs (i + 1).toNatClampNeg = z := ⟨_, rfl⟩
  refine lv_aload_n hx hb dL_law_330 rfl (lv_at hl 2 rfl) ?_
  refine lv_aload_n hx hb dL_law_331 rfl (lv_at hl 3 rfl) ?_
  refine lv_iload_n hx hb dL_law_332 rfl (lv_at hl 0 rfl) ?_
  refine lv_iconst (v := 1) hx hb dL_law_333 (by decide) ?_
  refine q_ai X hS (k := 1) (by decide) hi e1 dL_law_334 dL_law_335 ?_
  have hG0 := hG
  have hGp := hG
  refine W.eq (g2 := F0 m 336 ls [.int v1, .ref (al.2 49 0)]) (by rw [hox]) ?_
  refine q_fi (q_runV (t := 49) (i := 0) (As := [.int v1]) (rest := []) C hU (c_X11_off hG v1) vm_X11_off ml_L_32 k_49.1 (hc := rfl) rfl (h1_49 hG) hl.1 rfl rfl (Nat.le_of_ble_eq_true rfl) dL_law_336 rfl rfl ⟨Nat.le_of_ble_eq_true rfl, Nat.le_of_ble_eq_true rfl⟩ ⟨by show cells + 0 ≤ 600000; omega, by show slots + 0 ≤ 7302250; omega⟩) hS (fun r1 iv1 rv1 H locs hG f1 g1 hp1 hU hS => ?_)
  have hRel := hRel.fr hGp f1 g1 (by decide)
  refine lv_pop hx hb dL_law_339 rfl ?_
  refine lv_aload_n hx hb dL_law_340 rfl (lv_at hl 1 rfl) ?_
  refine lv_aload_n hx hb dL_law_341 rfl (lv_at hl 3 rfl) ?_
  refine lv_iload_n hx hb dL_law_342 rfl (lv_at hl 0 rfl) ?_
  refine lv_iconst (v := 1) hx hb dL_law_343 (by decide) ?_
  refine q_ai X hS (k := 1) (by decide) hi e1 dL_law_344 dL_law_345 ?_
  have hGp := hG
  refine W.eq (g2 := F0 m 346 ls [.int v1, .ref (al.2 0 0)]) (by rw [hom]) ?_
  refine q_fi (q_runV (t := 0) (i := 0) (As := [.int v1]) (rest := []) C hU (c_X12_off hG v1) vm_X12_off ml_L_35 k_0.1 (hc := rfl) rfl (h1_0 hG) hl.1 rfl rfl (Nat.le_of_ble_eq_true rfl) dL_law_346 rfl rfl ⟨Nat.le_of_ble_eq_true rfl, Nat.le_of_ble_eq_true rfl⟩ ⟨by show cells + 0 ≤ 600000; omega, by show slots + 0 ≤ 7302250; omega⟩) hS (fun r2 iv2 rv2 H locs hG f2 g2 hp2 hU hS => ?_)
  have hRel := hRel.fr hGp f2 g2 (by decide)
  refine lv_pop hx hb dL_law_349 rfl ?_
  refine lv_goto (tgt := 1475) hx hb dL_law_350 (by decide) ?_
  refine W.widen (k := cells + 3) (n := slots + 16) (by omega) (by omega) ?_
  exact kk _ _ _ _ _ ⟨hG, hox, hom, hRel⟩ hU hS
set_option maxHeartbeats 4000000 in
set_option maxRecDepth 100000 in
theorem law_5 {p : Program} {l : Launch} {e : Env} {s : State} {m : MethodId} {below : List Frame} {meth : Method} {c : Code} {b L : Nat} {xs : Nat → Int32} {D : va_G} {cA : FieldType → ClassId} {ls : Array Slot} {Q : State → Prop} {H : Heap} {locs : List Loc} {cells slots : Nat} {i : Int32} {ox om : Nat} {al : Al} {iv : Iv} {rv : Rv} (X : LX p s m c b L xs D cA) (hl : lv_has ls 4 [(3, .int i), (2, .ref om), (1, .ref ox), (0, .ref b)]) (hi : 0 ≤ i.toInt ∧ i.toInt + 6 < L) (hQ : LSt ox om al iv rv) (hU : UW D cA s.heap.size al iv rv H) (hS : va_S (Aq s.heap.size) s.heap H locs) (hc : cells + 3 ≤ 600000 ∧ slots + 16 ≤ 7302250)
    (kk : ∀ (al' : Al) (iv' : Iv) (rv' : Rv) (H' : Heap) (locs' : List Loc), LSt ox om al' iv' rv' → UW D cA s.heap.size al' iv' rv' H' → va_S (Aq s.heap.size) s.heap H' locs' → W p l e room_1 s m #[Value.ref b] below meth c H' locs' (cells + 3) (slots + 16) Q (F0 m 1475 ls [])) : W p l e room_1 s m #[Value.ref b] below meth c H locs cells slots Q (F0 m 353 ls []) := by
  obtain ⟨hG, hox, hom, hRel⟩ := hQ
  have C := X.1
  have hx := C.1.1
  have hb := C.1.2.1
  obtain ⟨v1, e1⟩ : ∃ z, xs (i + 1).toNatClampNeg = z := ⟨_, rfl⟩
  obtain ⟨v2, e2⟩ : ∃ z, xs (i + 2).toNatClampNeg = z := ⟨_, rfl⟩
  obtain ⟨v3, e3⟩ : ∃ z, xs (i + 3).toNatClampNeg = z := ⟨_, rfl⟩
  obtain ⟨v4, e4⟩ : ∃ z, xs (i + 4).toNatClampNeg = z := ⟨_, rfl⟩
  obtain ⟨v5, e5⟩ : ∃ z, xs (i + 5).toNatClampNeg = z := ⟨_, rfl⟩
  obtain ⟨v6, e6⟩ : ∃ z, xs (i + 6).toNatClampNeg = z := ⟨_, rfl⟩
  refine lv_aload_n hx hb dL_law_353 rfl (lv_at hl 2 rfl) ?_
  refine lv_aload_n hx hb dL_law_354 rfl (lv_at hl 3 rfl) ?_
  refine lv_iload_n hx hb dL_law_355 rfl (lv_at hl 0 rfl) ?_
  refine lv_iconst (v := 1) hx hb dL_law_356 (by decide) ?_
  refine q_ai X hS (k := 1) (by decide) hi e1 dL_law_357 dL_law_358 ?_
  refine lv_aload_n hx hb dL_law_359 rfl (lv_at hl 3 rfl) ?_
  refine lv_iload_n hx hb dL_law_360 rfl (lv_at hl 0 rfl) ?_
  refine lv_iconst (v := 2) hx hb dL_law_361 (by decide) ?_
  refine q_ai X hS (k := 2) (by decide) hi e2 dL_law_362 dL_law_363 ?_
  refine lv_aload_n hx hb dL_law_364 rfl (lv_at hl 3 rfl) ?_
  refine lv_iload_n hx hb dL_law_365 rfl (lv_at hl 0 rfl) ?_
  refine lv_iconst (v := 3) hx hb dL_law_366 (by decide) ?_
  refine q_ai X hS (k := 3) (by decide) hi e3 dL_law_367 dL_law_368 ?_
  refine lv_aload_n hx hb dL_law_369 rfl (lv_at hl 3 rfl) ?_
  refine lv_iload_n hx hb dL_law_370 rfl (lv_at hl 0 rfl) ?_
  refine lv_iconst (v := 4) hx hb dL_law_371 (by decide) ?_
  refine q_ai X hS (k := 4) (by decide) hi e4 dL_law_372 dL_law_373 ?_
  refine lv_aload_n hx hb dL_law_374 rfl (lv_at hl 3 rfl) ?_
  refine lv_iload_n hx hb dL_law_375 rfl (lv_at hl 0 rfl) ?_
  refine lv_iconst (v := 5) hx hb dL_law_376 (by decide) ?_
  refine q_ai X hS (k := 5) (by decide) hi e5 dL_law_377 dL_law_378 ?_
  refine lv_aload_n hx hb dL_law_379 rfl (lv_at hl 3 rfl) ?_
  refine lv_iload_n hx hb dL_law_380 rfl (lv_at hl 0 rfl) ?_
  refine lv_bipush (v := 6) hx hb dL_law_381 (by decide) ?_
  refine q_ai X hS (k := 6) (by decide) hi e6 dL_law_383 dL_law_384 ?_
  have hG0 := hG
  have hGp := hG
  refine W.eq (g2 := F0 m 385 ls [.int v6, .int v5, .int v4, .int v3, .int v2, .int v1, .ref (al.2 49 0)]) (by rw [hox]) ?_
  refine q_ciA (q_runVA (t := 49) (i := 0) (As := [.int v1, .int v2, .int v3, .int v4, .int v5, .int v6]) (rest := []) C hU hS.1 (c_X11_leg hG v1 v2 v3 v4 v5 v6) vm_X11_leg ml_L_36 k_49.1 (hc := rfl) rfl (h1_49 hG) hl.1 rfl rfl (Nat.le_of_ble_eq_true rfl) dL_law_385 rfl rfl ⟨Nat.le_of_ble_eq_true rfl, Nat.le_of_ble_eq_true rfl⟩ ⟨by show cells + 1 ≤ 600000; omega, by show slots + 15 ≤ 7302250; omega⟩) hS hS.1 (fun r1 al1 iv1 rv1 H locs hp1 hU hS _ => ?_)
  obtain ⟨hG1, hE1, hp1⟩ := hp1
  have hRel := hRel.ex hGp hE1 (by decide)
  have hox := (hE1.2.1 49 0 (h1_49 hG)).trans hox
  have hom := (hE1.2.1 0 0 (h1_0 hG)).trans hom
  have hG := hG1
  refine W.widen (k := cells + 3) (n := slots + 16) (by omega) (by omega) ?_
  refine lv_pop hx hb dL_law_388 rfl ?_
  refine lv_aload_n hx hb dL_law_389 rfl (lv_at hl 1 rfl) ?_
  refine lv_aload_n hx hb dL_law_390 rfl (lv_at hl 3 rfl) ?_
  refine lv_iload_n hx hb dL_law_391 rfl (lv_at hl 0 rfl) ?_
  refine lv_iconst (v := 1) hx hb dL_law_392 (by decide) ?_
  refine q_ai X hS (k := 1) (by decide) hi e1 dL_law_393 dL_law_394 ?_
  refine lv_aload_n hx hb dL_law_395 rfl (lv_at hl 3 rfl) ?_
  refine lv_iload_n hx hb dL_law_396 rfl (lv_at hl 0 rfl) ?_
  refine lv_iconst (v := 2) hx hb dL_law_397 (by decide) ?_
  refine q_ai X hS (k := 2) (by decide) hi e2 dL_law_398 dL_law_399 ?_
  refine lv_aload_n hx hb dL_law_400 rfl (lv_at hl 3 rfl) ?_
  refine lv_iload_n hx hb dL_law_401 rfl (lv_at hl 0 rfl) ?_
  refine lv_iconst (v := 3) hx hb dL_law_402 (by decide) ?_
  refine q_ai X hS (k := 3) (by decide) hi e3 dL_law_403 dL_law_404 ?_
  refine lv_aload_n hx hb dL_law_405 rfl (lv_at hl 3 rfl) ?_
  refine lv_iload_n hx hb dL_law_406 rfl (lv_at hl 0 rfl) ?_
  refine lv_iconst (v := 4) hx hb dL_law_407 (by decide) ?_
  refine q_ai X hS (k := 4) (by decide) hi e4 dL_law_408 dL_law_409 ?_
  refine lv_aload_n hx hb dL_law_410 rfl (lv_at hl 3 rfl) ?_
  refine lv_iload_n hx hb dL_law_411 rfl (lv_at hl 0 rfl) ?_
  refine lv_iconst (v := 5) hx hb dL_law_412 (by decide) ?_
  refine q_ai X hS (k := 5) (by decide) hi e5 dL_law_413 dL_law_414 ?_
  refine lv_aload_n hx hb dL_law_415 rfl (lv_at hl 3 rfl) ?_
  refine lv_iload_n hx hb dL_law_416 rfl (lv_at hl 0 rfl) ?_
  refine lv_bipush (v := 6) hx hb dL_law_417 (by decide) ?_
  refine q_ai X hS (k := 6) (by decide) hi e6 dL_law_419 dL_law_420 ?_
  have hGp := hG
  refine W.eq (g2 := F0 m 421 ls [.int v6, .int v5, .int v4, .int v3, .int v2, .int v1, .ref (al1.2 0 0)]) (by rw [hom]) ?_
  refine q_fi (q_runV (t := 0) (i := 0) (As := [.int v1, .int v2, .int v3, .int v4, .int v5, .int v6]) (rest := []) C hU (c_X12_leg hG v1 v2 v3 v4 v5 v6) vm_X12_leg ml_L_40 k_0.1 (hc := rfl) rfl (h1_0 hG) hl.1 rfl rfl (Nat.le_of_ble_eq_true rfl) dL_law_421 rfl rfl ⟨Nat.le_of_ble_eq_true rfl, Nat.le_of_ble_eq_true rfl⟩ ⟨by show (cells + 3) + 0 ≤ 600000; omega, by show (slots + 16) + 0 ≤ 7302250; omega⟩) hS (fun r2 iv2 rv2 H locs hG f2 g2 hp2 hU hS => ?_)
  have hRel := hRel.fr hGp f2 g2 (by decide)
  refine lv_pop hx hb dL_law_424 rfl ?_
  refine lv_goto (tgt := 1475) hx hb dL_law_425 (by decide) ?_
  exact kk _ _ _ _ _ ⟨hG, hox, hom, hRel⟩ hU hS
set_option maxHeartbeats 4000000 in
set_option maxRecDepth 100000 in
theorem law_6 {p : Program} {l : Launch} {e : Env} {s : State} {m : MethodId} {below : List Frame} {meth : Method} {c : Code} {b L : Nat} {xs : Nat → Int32} {D : va_G} {cA : FieldType → ClassId} {ls : Array Slot} {Q : State → Prop} {H : Heap} {locs : List Loc} {cells slots : Nat} {i : Int32} {ox om : Nat} {al : Al} {iv : Iv} {rv : Rv} (X : LX p s m c b L xs D cA) (hl : lv_has ls 4 [(3, .int i), (2, .ref om), (1, .ref ox), (0, .ref b)]) (hi : 0 ≤ i.toInt ∧ i.toInt + 6 < L) (hQ : LSt ox om al iv rv) (hU : UW D cA s.heap.size al iv rv H) (hS : va_S (Aq s.heap.size) s.heap H locs) (hc : cells + 3 ≤ 600000 ∧ slots + 16 ≤ 7302250)
    (kk : ∀ (al' : Al) (iv' : Iv) (rv' : Rv) (H' : Heap) (locs' : List Loc), LSt ox om al' iv' rv' → UW D cA s.heap.size al' iv' rv' H' → va_S (Aq s.heap.size) s.heap H' locs' → W p l e room_1 s m #[Value.ref b] below meth c H' locs' (cells + 3) (slots + 16) Q (F0 m 1475 ls [])) : W p l e room_1 s m #[Value.ref b] below meth c H locs cells slots Q (F0 m 428 ls []) := by
  obtain ⟨hG, hox, hom, hRel⟩ := hQ
  have C := X.1
  have hx := C.1.1
  have hb := C.1.2.1
  obtain ⟨v1, e1⟩ : ∃ z, xs (i + 1).toNatClampNeg = z := ⟨_, rfl⟩
  obtain ⟨v2, e2⟩ : ∃ z, xs (i + 2).toNatClampNeg = z := ⟨_, rfl⟩
  obtain ⟨v3, e3⟩ : ∃ z, xs (i + 3).toNatClampNeg = z := ⟨_, rfl⟩
  refine lv_aload_n hx hb dL_law_428 rfl (lv_at hl 2 rfl) ?_
  refine lv_aload_n hx hb dL_law_429 rfl (lv_at hl 3 rfl) ?_
  refine lv_iload_n hx hb dL_law_430 rfl (lv_at hl 0 rfl) ?_
  refine lv_iconst (v := 1) hx hb dL_law_431 (by decide) ?_
  refine q_ai X hS (k := 1) (by decide) hi e1 dL_law_432 dL_law_433 ?_
  refine lv_aload_n hx hb dL_law_434 rfl (lv_at hl 3 rfl) ?_
  refine lv_iload_n hx hb dL_law_435 rfl (lv_at hl 0 rfl) ?_
  refine lv_iconst (v := 2) hx hb dL_law_436 (by decide) ?_
  refine q_ai X hS (k := 2) (by decide) hi e2 dL_law_437 dL_law_438 ?_
  refine lv_aload_n hx hb dL_law_439 rfl (lv_at hl 3 rfl) ?_
  refine lv_iload_n hx hb dL_law_440 rfl (lv_at hl 0 rfl) ?_
  refine lv_iconst (v := 3) hx hb dL_law_441 (by decide) ?_
  refine q_ai X hS (k := 3) (by decide) hi e3 dL_law_442 dL_law_443 ?_
  have hG0 := hG
  have hGp := hG
  refine W.eq (g2 := F0 m 444 ls [.int v3, .int v2, .int v1, .ref (al.2 49 0)]) (by rw [hox]) ?_
  refine q_fi (q_runV (t := 49) (i := 0) (As := [.int v1, .int v2, .int v3]) (rest := []) C hU (c_X11_log hG v1 v2 v3) vm_X11_log ml_L_41 k_49.1 (hc := rfl) rfl (h1_49 hG) hl.1 rfl rfl (Nat.le_of_ble_eq_true rfl) dL_law_444 rfl rfl ⟨Nat.le_of_ble_eq_true rfl, Nat.le_of_ble_eq_true rfl⟩ ⟨by show cells + 0 ≤ 600000; omega, by show slots + 0 ≤ 7302250; omega⟩) hS (fun r1 iv1 rv1 H locs hG f1 g1 hp1 hU hS => ?_)
  have hRel := hRel.fr hGp f1 g1 (by decide)
  refine lv_pop hx hb dL_law_447 rfl ?_
  refine lv_aload_n hx hb dL_law_448 rfl (lv_at hl 1 rfl) ?_
  refine lv_aload_n hx hb dL_law_449 rfl (lv_at hl 3 rfl) ?_
  refine lv_iload_n hx hb dL_law_450 rfl (lv_at hl 0 rfl) ?_
  refine lv_iconst (v := 1) hx hb dL_law_451 (by decide) ?_
  refine q_ai X hS (k := 1) (by decide) hi e1 dL_law_452 dL_law_453 ?_
  refine lv_aload_n hx hb dL_law_454 rfl (lv_at hl 3 rfl) ?_
  refine lv_iload_n hx hb dL_law_455 rfl (lv_at hl 0 rfl) ?_
  refine lv_iconst (v := 2) hx hb dL_law_456 (by decide) ?_
  refine q_ai X hS (k := 2) (by decide) hi e2 dL_law_457 dL_law_458 ?_
  refine lv_aload_n hx hb dL_law_459 rfl (lv_at hl 3 rfl) ?_
  refine lv_iload_n hx hb dL_law_460 rfl (lv_at hl 0 rfl) ?_
  refine lv_iconst (v := 3) hx hb dL_law_461 (by decide) ?_
  refine q_ai X hS (k := 3) (by decide) hi e3 dL_law_462 dL_law_463 ?_
  have hGp := hG
  refine W.eq (g2 := F0 m 464 ls [.int v3, .int v2, .int v1, .ref (al.2 0 0)]) (by rw [hom]) ?_
  refine q_fi (q_runV (t := 0) (i := 0) (As := [.int v1, .int v2, .int v3]) (rest := []) C hU (c_X12_log hG v1 v2 v3) vm_X12_log ml_L_44 k_0.1 (hc := rfl) rfl (h1_0 hG) hl.1 rfl rfl (Nat.le_of_ble_eq_true rfl) dL_law_464 rfl rfl ⟨Nat.le_of_ble_eq_true rfl, Nat.le_of_ble_eq_true rfl⟩ ⟨by show cells + 0 ≤ 600000; omega, by show slots + 0 ≤ 7302250; omega⟩) hS (fun r2 iv2 rv2 H locs hG f2 g2 hp2 hU hS => ?_)
  have hRel := hRel.fr hGp f2 g2 (by decide)
  refine lv_pop hx hb dL_law_467 rfl ?_
  refine lv_goto (tgt := 1475) hx hb dL_law_468 (by decide) ?_
  refine W.widen (k := cells + 3) (n := slots + 16) (by omega) (by omega) ?_
  exact kk _ _ _ _ _ ⟨hG, hox, hom, hRel⟩ hU hS
set_option maxHeartbeats 4000000 in
set_option maxRecDepth 100000 in
theorem law_7 {p : Program} {l : Launch} {e : Env} {s : State} {m : MethodId} {below : List Frame} {meth : Method} {c : Code} {b L : Nat} {xs : Nat → Int32} {D : va_G} {cA : FieldType → ClassId} {ls : Array Slot} {Q : State → Prop} {H : Heap} {locs : List Loc} {cells slots : Nat} {i : Int32} {ox om : Nat} {al : Al} {iv : Iv} {rv : Rv} (X : LX p s m c b L xs D cA) (hl : lv_has ls 4 [(3, .int i), (2, .ref om), (1, .ref ox), (0, .ref b)]) (hi : 0 ≤ i.toInt ∧ i.toInt + 6 < L) (hQ : LSt ox om al iv rv) (hU : UW D cA s.heap.size al iv rv H) (hS : va_S (Aq s.heap.size) s.heap H locs) (hc : cells + 3 ≤ 600000 ∧ slots + 16 ≤ 7302250)
    (kk : ∀ (al' : Al) (iv' : Iv) (rv' : Rv) (H' : Heap) (locs' : List Loc), LSt ox om al' iv' rv' → UW D cA s.heap.size al' iv' rv' H' → va_S (Aq s.heap.size) s.heap H' locs' → W p l e room_1 s m #[Value.ref b] below meth c H' locs' (cells + 3) (slots + 16) Q (F0 m 1475 ls [])) : W p l e room_1 s m #[Value.ref b] below meth c H locs cells slots Q (F0 m 471 ls []) := by
  obtain ⟨hG, hox, hom, hRel⟩ := hQ
  have C := X.1
  have hx := C.1.1
  have hb := C.1.2.1
  obtain ⟨v1, e1⟩ : ∃ z, xs (i + 1).toNatClampNeg = z := ⟨_, rfl⟩
  obtain ⟨v2, e2⟩ : ∃ z, xs (i + 2).toNatClampNeg = z := ⟨_, rfl⟩
  refine lv_aload_n hx hb dL_law_471 rfl (lv_at hl 2 rfl) ?_
  refine lv_aload_n hx hb dL_law_472 rfl (lv_at hl 3 rfl) ?_
  refine lv_iload_n hx hb dL_law_473 rfl (lv_at hl 0 rfl) ?_
  refine lv_iconst (v := 1) hx hb dL_law_474 (by decide) ?_
  refine q_ai X hS (k := 1) (by decide) hi e1 dL_law_475 dL_law_476 ?_
  refine lv_aload_n hx hb dL_law_477 rfl (lv_at hl 3 rfl) ?_
  refine lv_iload_n hx hb dL_law_478 rfl (lv_at hl 0 rfl) ?_
  refine lv_iconst (v := 2) hx hb dL_law_479 (by decide) ?_
  refine q_ai X hS (k := 2) (by decide) hi e2 dL_law_480 dL_law_481 ?_
  have hG0 := hG
  have hGp := hG
  refine W.eq (g2 := F0 m 482 ls [.int v2, .int v1, .ref (al.2 49 0)]) (by rw [hox]) ?_
  refine q_fi (q_runV (t := 49) (i := 0) (As := [.int v1, .int v2]) (rest := []) C hU (c_X11_cause hG v1 v2) vm_X11_cause ml_L_45 k_49.1 (hc := rfl) rfl (h1_49 hG) hl.1 rfl rfl (Nat.le_of_ble_eq_true rfl) dL_law_482 rfl rfl ⟨Nat.le_of_ble_eq_true rfl, Nat.le_of_ble_eq_true rfl⟩ ⟨by show cells + 0 ≤ 600000; omega, by show slots + 0 ≤ 7302250; omega⟩) hS (fun r1 iv1 rv1 H locs hG f1 g1 hp1 hU hS => ?_)
  have hRel := hRel.fr hGp f1 g1 (by decide)
  refine lv_pop hx hb dL_law_485 rfl ?_
  refine lv_aload_n hx hb dL_law_486 rfl (lv_at hl 1 rfl) ?_
  refine lv_aload_n hx hb dL_law_487 rfl (lv_at hl 3 rfl) ?_
  refine lv_iload_n hx hb dL_law_488 rfl (lv_at hl 0 rfl) ?_
  refine lv_iconst (v := 1) hx hb dL_law_489 (by decide) ?_
  refine q_ai X hS (k := 1) (by decide) hi e1 dL_law_490 dL_law_491 ?_
  refine lv_aload_n hx hb dL_law_492 rfl (lv_at hl 3 rfl) ?_
  refine lv_iload_n hx hb dL_law_493 rfl (lv_at hl 0 rfl) ?_
  refine lv_iconst (v := 2) hx hb dL_law_494 (by decide) ?_
  refine q_ai X hS (k := 2) (by decide) hi e2 dL_law_495 dL_law_496 ?_
  have hGp := hG
  refine W.eq (g2 := F0 m 497 ls [.int v2, .int v1, .ref (al.2 0 0)]) (by rw [hom]) ?_
  refine q_fi (q_runV (t := 0) (i := 0) (As := [.int v1, .int v2]) (rest := []) C hU (c_X12_cause hG v1 v2) vm_X12_cause ml_L_48 k_0.1 (hc := rfl) rfl (h1_0 hG) hl.1 rfl rfl (Nat.le_of_ble_eq_true rfl) dL_law_497 rfl rfl ⟨Nat.le_of_ble_eq_true rfl, Nat.le_of_ble_eq_true rfl⟩ ⟨by show cells + 0 ≤ 600000; omega, by show slots + 0 ≤ 7302250; omega⟩) hS (fun r2 iv2 rv2 H locs hG f2 g2 hp2 hU hS => ?_)
  have hRel := hRel.fr hGp f2 g2 (by decide)
  refine lv_pop hx hb dL_law_500 rfl ?_
  refine lv_goto (tgt := 1475) hx hb dL_law_501 (by decide) ?_
  refine W.widen (k := cells + 3) (n := slots + 16) (by omega) (by omega) ?_
  exact kk _ _ _ _ _ ⟨hG, hox, hom, hRel⟩ hU hS
set_option maxHeartbeats 4000000 in
set_option maxRecDepth 100000 in
theorem law_8 {p : Program} {l : Launch} {e : Env} {s : State} {m : MethodId} {below : List Frame} {meth : Method} {c : Code} {b L : Nat} {xs : Nat → Int32} {D : va_G} {cA : FieldType → ClassId} {ls : Array Slot} {Q : State → Prop} {H : Heap} {locs : List Loc} {cells slots : Nat} {i : Int32} {ox om : Nat} {al : Al} {iv : Iv} {rv : Rv} (X : LX p s m c b L xs D cA) (hl : lv_has ls 4 [(3, .int i), (2, .ref om), (1, .ref ox), (0, .ref b)]) (hi : 0 ≤ i.toInt ∧ i.toInt + 6 < L) (hQ : LSt ox om al iv rv) (hU : UW D cA s.heap.size al iv rv H) (hS : va_S (Aq s.heap.size) s.heap H locs) (hc : cells + 3 ≤ 600000 ∧ slots + 16 ≤ 7302250)
    (kk : ∀ (al' : Al) (iv' : Iv) (rv' : Rv) (H' : Heap) (locs' : List Loc), LSt ox om al' iv' rv' → UW D cA s.heap.size al' iv' rv' H' → va_S (Aq s.heap.size) s.heap H' locs' → W p l e room_1 s m #[Value.ref b] below meth c H' locs' (cells + 3) (slots + 16) Q (F0 m 1475 ls [])) : W p l e room_1 s m #[Value.ref b] below meth c H locs cells slots Q (F0 m 504 ls []) := by
  obtain ⟨hG, hox, hom, hRel⟩ := hQ
  have C := X.1
  have hx := C.1.1
  have hb := C.1.2.1
  obtain ⟨v1, e1⟩ : ∃ z, xs (i + 1).toNatClampNeg = z := ⟨_, rfl⟩
  obtain ⟨v2, e2⟩ : ∃ z, xs (i + 2).toNatClampNeg = z := ⟨_, rfl⟩
  refine lv_aload_n hx hb dL_law_504 rfl (lv_at hl 2 rfl) ?_
  refine lv_aload_n hx hb dL_law_505 rfl (lv_at hl 3 rfl) ?_
  refine lv_iload_n hx hb dL_law_506 rfl (lv_at hl 0 rfl) ?_
  refine lv_iconst (v := 1) hx hb dL_law_507 (by decide) ?_
  refine q_ai X hS (k := 1) (by decide) hi e1 dL_law_508 dL_law_509 ?_
  refine lv_aload_n hx hb dL_law_510 rfl (lv_at hl 3 rfl) ?_
  refine lv_iload_n hx hb dL_law_511 rfl (lv_at hl 0 rfl) ?_
  refine lv_iconst (v := 2) hx hb dL_law_512 (by decide) ?_
  refine q_ai X hS (k := 2) (by decide) hi e2 dL_law_513 dL_law_514 ?_
  have hG0 := hG
  have hGp := hG
  refine W.eq (g2 := F0 m 515 ls [.int v2, .int v1, .ref (al.2 49 0)]) (by rw [hox]) ?_
  refine q_fi (q_runVX (t := 49) (i := 0) (As := [.int v1, .int v2]) (rest := []) C hU hS.1 (fun U hH hW => X.2.2.2.1.to hS hH hW) SX.calling (c_X11_set hG v1 v2) vm_X11_set ml_L_49 k_49.1 (hc := rfl) rfl (h1_49 hG) hl.1 rfl rfl (Nat.le_of_ble_eq_true rfl) dL_law_515 rfl rfl ⟨Nat.le_of_ble_eq_true rfl, Nat.le_of_ble_eq_true rfl⟩ ⟨by show cells + 0 ≤ 600000; omega, by show slots + 0 ≤ 7302250; omega⟩) hS (fun r1 iv1 rv1 H locs hG f1 g1 hp1 hU hS => ?_)
  have hRel := hRel.fr hGp f1 g1 (by decide)
  refine lv_pop hx hb dL_law_518 rfl ?_
  refine lv_aload_n hx hb dL_law_519 rfl (lv_at hl 1 rfl) ?_
  refine lv_aload_n hx hb dL_law_520 rfl (lv_at hl 3 rfl) ?_
  refine lv_iload_n hx hb dL_law_521 rfl (lv_at hl 0 rfl) ?_
  refine lv_iconst (v := 1) hx hb dL_law_522 (by decide) ?_
  refine q_ai X hS (k := 1) (by decide) hi e1 dL_law_523 dL_law_524 ?_
  refine lv_aload_n hx hb dL_law_525 rfl (lv_at hl 3 rfl) ?_
  refine lv_iload_n hx hb dL_law_526 rfl (lv_at hl 0 rfl) ?_
  refine lv_iconst (v := 2) hx hb dL_law_527 (by decide) ?_
  refine q_ai X hS (k := 2) (by decide) hi e2 dL_law_528 dL_law_529 ?_
  have hGp := hG
  refine W.eq (g2 := F0 m 530 ls [.int v2, .int v1, .ref (al.2 0 0)]) (by rw [hom]) ?_
  refine q_fi (q_runV (t := 0) (i := 0) (As := [.int v1, .int v2]) (rest := []) C hU (c_X12_set hG v1 v2) vm_X12_set ml_L_52 k_0.1 (hc := rfl) rfl (h1_0 hG) hl.1 rfl rfl (Nat.le_of_ble_eq_true rfl) dL_law_530 rfl rfl ⟨Nat.le_of_ble_eq_true rfl, Nat.le_of_ble_eq_true rfl⟩ ⟨by show cells + 0 ≤ 600000; omega, by show slots + 0 ≤ 7302250; omega⟩) hS (fun r2 iv2 rv2 H locs hG f2 g2 hp2 hU hS => ?_)
  have hRel := hRel.fr hGp f2 g2 (by decide)
  refine lv_pop hx hb dL_law_533 rfl ?_
  refine lv_goto (tgt := 1475) hx hb dL_law_534 (by decide) ?_
  refine W.widen (k := cells + 3) (n := slots + 16) (by omega) (by omega) ?_
  exact kk _ _ _ _ _ ⟨hG, hox, hom, hRel⟩ hU hS
end
section
set_option maxHeartbeats 4000000 in
set_option maxRecDepth 100000 in
theorem law_9 {p : Program} {l : Launch} {e : Env} {s : State} {m : MethodId} {below : List Frame} {meth : Method} {c : Code} {b L : Nat} {xs : Nat → Int32} {D : va_G} {cA : FieldType → ClassId} {ls : Array Slot} {Q : State → Prop} {H : Heap} {locs : List Loc} {cells slots : Nat} {i : Int32} {ox om : Nat} {al : Al} {iv : Iv} {rv : Rv} (X : LX p s m c b L xs D cA) (hl : lv_has ls 4 [(3, .int i), (2, .ref om), (1, .ref ox), (0, .ref b)]) (hi : 0 ≤ i.toInt ∧ i.toInt + 6 < L) (hQ : LSt ox om al iv rv) (hU : UW D cA s.heap.size al iv rv H) (hS : va_S (Aq s.heap.size) s.heap H locs) (hc : cells + 3 ≤ 600000 ∧ slots + 16 ≤ 7302250)
    (kk : ∀ (al' : Al) (iv' : Iv) (rv' : Rv) (H' : Heap) (locs' : List Loc), LSt ox om al' iv' rv' → UW D cA s.heap.size al' iv' rv' H' → va_S (Aq s.heap.size) s.heap H' locs' → W p l e room_1 s m #[Value.ref b] below meth c H' locs' (cells + 3) (slots + 16) Q (F0 m 1475 ls [])) : W p l e room_1 s m #[Value.ref b] below meth c H locs cells slots Q (F0 m 537 ls []) := by
  obtain ⟨hG, hox, hom, hRel⟩ := hQ
  have C := X.1
  have hx := C.1.1
  have hb := C.1.2.1
  obtain ⟨v1, e1⟩ : ∃ z, xs (i + 1).toNatClampNeg = z := ⟨_, rfl⟩
  obtain ⟨v2, e2⟩ : ∃ z, xs (i + 2).toNatClampNeg = z := ⟨_, rfl⟩
  refine lv_aload_n hx hb dL_law_537 rfl (lv_at hl 2 rfl) ?_
  refine lv_aload_n hx hb dL_law_538 rfl (lv_at hl 3 rfl) ?_
  refine lv_iload_n hx hb dL_law_539 rfl (lv_at hl 0 rfl) ?_
  refine lv_iconst (v := 1) hx hb dL_law_540 (by decide) ?_
  refine q_ai X hS (k := 1) (by decide) hi e1 dL_law_541 dL_law_542 ?_
  refine lv_aload_n hx hb dL_law_543 rfl (lv_at hl 3 rfl) ?_
  refine lv_iload_n hx hb dL_law_544 rfl (lv_at hl 0 rfl) ?_
  refine lv_iconst (v := 2) hx hb dL_law_545 (by decide) ?_
  refine q_ai X hS (k := 2) (by decide) hi e2 dL_law_546 dL_law_547 ?_
  have hG0 := hG
  have hGp := hG
  refine W.eq (g2 := F0 m 548 ls [.int v2, .int v1, .ref (al.2 49 0)]) (by rw [hox]) ?_
  refine q_fi (q_runV (t := 49) (i := 0) (As := [.int v1, .int v2]) (rest := []) C hU (c_X11_legOf hG v1 v2) vm_X11_legOf ml_L_53 k_49.1 (hc := rfl) rfl (h1_49 hG) hl.1 rfl rfl (Nat.le_of_ble_eq_true rfl) dL_law_548 rfl rfl ⟨Nat.le_of_ble_eq_true rfl, Nat.le_of_ble_eq_true rfl⟩ ⟨by show cells + 0 ≤ 600000; omega, by show slots + 0 ≤ 7302250; omega⟩) hS (fun r1 iv1 rv1 H locs hG f1 g1 hp1 hU hS => ?_)
  have hRel := hRel.fr hGp f1 g1 (by decide)
  refine lv_pop hx hb dL_law_551 rfl ?_
  refine lv_aload_n hx hb dL_law_552 rfl (lv_at hl 1 rfl) ?_
  refine lv_aload_n hx hb dL_law_553 rfl (lv_at hl 3 rfl) ?_
  refine lv_iload_n hx hb dL_law_554 rfl (lv_at hl 0 rfl) ?_
  refine lv_iconst (v := 1) hx hb dL_law_555 (by decide) ?_
  refine q_ai X hS (k := 1) (by decide) hi e1 dL_law_556 dL_law_557 ?_
  refine lv_aload_n hx hb dL_law_558 rfl (lv_at hl 3 rfl) ?_
  refine lv_iload_n hx hb dL_law_559 rfl (lv_at hl 0 rfl) ?_
  refine lv_iconst (v := 2) hx hb dL_law_560 (by decide) ?_
  refine q_ai X hS (k := 2) (by decide) hi e2 dL_law_561 dL_law_562 ?_
  have hGp := hG
  refine W.eq (g2 := F0 m 563 ls [.int v2, .int v1, .ref (al.2 0 0)]) (by rw [hom]) ?_
  refine q_fi (q_runV (t := 0) (i := 0) (As := [.int v1, .int v2]) (rest := []) C hU (c_X12_legOf hG v1 v2) vm_X12_legOf ml_L_56 k_0.1 (hc := rfl) rfl (h1_0 hG) hl.1 rfl rfl (Nat.le_of_ble_eq_true rfl) dL_law_563 rfl rfl ⟨Nat.le_of_ble_eq_true rfl, Nat.le_of_ble_eq_true rfl⟩ ⟨by show cells + 0 ≤ 600000; omega, by show slots + 0 ≤ 7302250; omega⟩) hS (fun r2 iv2 rv2 H locs hG f2 g2 hp2 hU hS => ?_)
  have hRel := hRel.fr hGp f2 g2 (by decide)
  refine lv_pop hx hb dL_law_566 rfl ?_
  refine lv_goto (tgt := 1475) hx hb dL_law_567 (by decide) ?_
  refine W.widen (k := cells + 3) (n := slots + 16) (by omega) (by omega) ?_
  exact kk _ _ _ _ _ ⟨hG, hox, hom, hRel⟩ hU hS
set_option maxHeartbeats 4000000 in
set_option maxRecDepth 100000 in
theorem law_10 {p : Program} {l : Launch} {e : Env} {s : State} {m : MethodId} {below : List Frame} {meth : Method} {c : Code} {b L : Nat} {xs : Nat → Int32} {D : va_G} {cA : FieldType → ClassId} {ls : Array Slot} {Q : State → Prop} {H : Heap} {locs : List Loc} {cells slots : Nat} {i : Int32} {ox om : Nat} {al : Al} {iv : Iv} {rv : Rv} (X : LX p s m c b L xs D cA) (hl : lv_has ls 4 [(3, .int i), (2, .ref om), (1, .ref ox), (0, .ref b)]) (hi : 0 ≤ i.toInt ∧ i.toInt + 6 < L) (hQ : LSt ox om al iv rv) (hU : UW D cA s.heap.size al iv rv H) (hS : va_S (Aq s.heap.size) s.heap H locs) (hc : cells + 3 ≤ 600000 ∧ slots + 16 ≤ 7302250)
    (kk : ∀ (al' : Al) (iv' : Iv) (rv' : Rv) (H' : Heap) (locs' : List Loc), LSt ox om al' iv' rv' → UW D cA s.heap.size al' iv' rv' H' → va_S (Aq s.heap.size) s.heap H' locs' → W p l e room_1 s m #[Value.ref b] below meth c H' locs' (cells + 3) (slots + 16) Q (F0 m 1475 ls [])) : W p l e room_1 s m #[Value.ref b] below meth c H locs cells slots Q (F0 m 570 ls []) := by
  obtain ⟨hG, hox, hom, hRel⟩ := hQ
  have C := X.1
  have hx := C.1.1
  have hb := C.1.2.1
  obtain ⟨v1, e1⟩ : ∃ z, xs (i + 1).toNatClampNeg = z := ⟨_, rfl⟩
  obtain ⟨v2, e2⟩ : ∃ z, xs (i + 2).toNatClampNeg = z := ⟨_, rfl⟩
  refine lv_aload_n hx hb dL_law_570 rfl (lv_at hl 2 rfl) ?_
  refine lv_aload_n hx hb dL_law_571 rfl (lv_at hl 3 rfl) ?_
  refine lv_iload_n hx hb dL_law_572 rfl (lv_at hl 0 rfl) ?_
  refine lv_iconst (v := 1) hx hb dL_law_573 (by decide) ?_
  refine q_ai X hS (k := 1) (by decide) hi e1 dL_law_574 dL_law_575 ?_
  refine lv_aload_n hx hb dL_law_576 rfl (lv_at hl 3 rfl) ?_
  refine lv_iload_n hx hb dL_law_577 rfl (lv_at hl 0 rfl) ?_
  refine lv_iconst (v := 2) hx hb dL_law_578 (by decide) ?_
  refine q_ai X hS (k := 2) (by decide) hi e2 dL_law_579 dL_law_580 ?_
  have J_589 : ∀ zv2 : Int32, (0 ≤ zv2.toInt ∧ zv2.toInt ≤ 1) → zv2 = bz v2 → W p l e room_1 s m #[Value.ref b] below meth c H locs cells slots Q (F0 m 589 ls [.int zv2, .int v1, .ref ox]) := by
    intro zv2 rzv2 qzv2
    have hG0 := hG
    have hGp := hG
    refine W.eq (g2 := F0 m 589 ls [.int zv2, .int v1, .ref (al.2 49 0)]) (by rw [hox]) ?_
    refine q_fi (q_runV (t := 49) (i := 0) (As := [.int v1, .int zv2]) (rest := []) C hU (c_X11_ahead hG v1 zv2) vm_X11_ahead ml_L_57 k_49.1 (hc := rfl) rfl (h1_49 hG) hl.1 rfl rfl (Nat.le_of_ble_eq_true rfl) dL_law_589 rfl rfl ⟨Nat.le_of_ble_eq_true rfl, Nat.le_of_ble_eq_true rfl⟩ ⟨by show cells + 0 ≤ 600000; omega, by show slots + 0 ≤ 7302250; omega⟩) hS (fun r1 iv1 rv1 H locs hG f1 g1 hp1 hU hS => ?_)
    have hRel := hRel.fr hGp f1 g1 (by decide)
    refine lv_pop hx hb dL_law_592 rfl ?_
    refine lv_aload_n hx hb dL_law_593 rfl (lv_at hl 1 rfl) ?_
    refine lv_aload_n hx hb dL_law_594 rfl (lv_at hl 3 rfl) ?_
    refine lv_iload_n hx hb dL_law_595 rfl (lv_at hl 0 rfl) ?_
    refine lv_iconst (v := 1) hx hb dL_law_596 (by decide) ?_
    refine q_ai X hS (k := 1) (by decide) hi e1 dL_law_597 dL_law_598 ?_
    refine lv_aload_n hx hb dL_law_599 rfl (lv_at hl 3 rfl) ?_
    refine lv_iload_n hx hb dL_law_600 rfl (lv_at hl 0 rfl) ?_
    refine lv_iconst (v := 2) hx hb dL_law_601 (by decide) ?_
    refine q_ai X hS (k := 2) (by decide) hi e2 dL_law_602 dL_law_603 ?_
    have J_612 : ∀ zv2m : Int32, (0 ≤ zv2m.toInt ∧ zv2m.toInt ≤ 1) → zv2m = bz v2 → W p l e room_1 s m #[Value.ref b] below meth c H locs cells slots Q (F0 m 612 ls [.int zv2m, .int v1, .ref om]) := by
      intro zv2m rzv2m qzv2m
      have hGp := hG
      refine W.eq (g2 := F0 m 612 ls [.int zv2m, .int v1, .ref (al.2 0 0)]) (by rw [hom]) ?_
      refine q_fi (q_runV (t := 0) (i := 0) (As := [.int v1, .int zv2m]) (rest := []) C hU (c_X12_ahead hG v1 zv2m rzv2m) vm_X12_ahead ml_L_61 k_0.1 (hc := rfl) rfl (h1_0 hG) hl.1 rfl rfl (Nat.le_of_ble_eq_true rfl) dL_law_612 rfl rfl ⟨Nat.le_of_ble_eq_true rfl, Nat.le_of_ble_eq_true rfl⟩ ⟨by show cells + 0 ≤ 600000; omega, by show slots + 0 ≤ 7302250; omega⟩) hS (fun r2 iv2 rv2 H locs hG f2 g2 hp2 hU hS => ?_)
      have hRel := hRel.fr hGp f2 g2 (by decide)
      refine lv_pop hx hb dL_law_615 rfl ?_
      refine lv_goto (tgt := 1475) hx hb dL_law_616 (by decide) ?_
      refine W.widen (k := cells + 3) (n := slots + 16) (by omega) (by omega) ?_
      exact kk _ _ _ _ _ ⟨hG, hox, hom, hRel⟩ hU hS
    refine b_if_eq (tgt := 611) hx hb dL_law_604 (by decide) (fun c0 => ?_) (fun c0 => ?_)
    · refine lv_iconst (v := 0) hx hb dL_law_611 (by decide) ?_
      exact J_612 0 ⟨by decide, by decide⟩ (bz_0 c0)
    · refine lv_iconst (v := 1) hx hb dL_law_607 (by decide) ?_
      refine lv_goto (tgt := 612) hx hb dL_law_608 (by decide) ?_
      exact J_612 1 ⟨by decide, by decide⟩ (bz_1 c0)
  refine b_if_eq (tgt := 588) hx hb dL_law_581 (by decide) (fun c0 => ?_) (fun c0 => ?_)
  · refine lv_iconst (v := 0) hx hb dL_law_588 (by decide) ?_
    exact J_589 0 ⟨by decide, by decide⟩ (bz_0 c0)
  · refine lv_iconst (v := 1) hx hb dL_law_584 (by decide) ?_
    refine lv_goto (tgt := 589) hx hb dL_law_585 (by decide) ?_
    exact J_589 1 ⟨by decide, by decide⟩ (bz_1 c0)
set_option maxHeartbeats 4000000 in
set_option maxRecDepth 100000 in
theorem law_11 {p : Program} {l : Launch} {e : Env} {s : State} {m : MethodId} {below : List Frame} {meth : Method} {c : Code} {b L : Nat} {xs : Nat → Int32} {D : va_G} {cA : FieldType → ClassId} {ls : Array Slot} {Q : State → Prop} {H : Heap} {locs : List Loc} {cells slots : Nat} {i : Int32} {ox om : Nat} {al : Al} {iv : Iv} {rv : Rv} (X : LX p s m c b L xs D cA) (hl : lv_has ls 4 [(3, .int i), (2, .ref om), (1, .ref ox), (0, .ref b)]) (hi : 0 ≤ i.toInt ∧ i.toInt + 6 < L) (hQ : LSt ox om al iv rv) (hU : UW D cA s.heap.size al iv rv H) (hS : va_S (Aq s.heap.size) s.heap H locs) (hc : cells + 3 ≤ 600000 ∧ slots + 16 ≤ 7302250)
    (kk : ∀ (al' : Al) (iv' : Iv) (rv' : Rv) (H' : Heap) (locs' : List Loc), LSt ox om al' iv' rv' → UW D cA s.heap.size al' iv' rv' H' → va_S (Aq s.heap.size) s.heap H' locs' → W p l e room_1 s m #[Value.ref b] below meth c H' locs' (cells + 3) (slots + 16) Q (F0 m 1475 ls [])) : W p l e room_1 s m #[Value.ref b] below meth c H locs cells slots Q (F0 m 619 ls []) := by
  obtain ⟨hG, hox, hom, hRel⟩ := hQ
  have C := X.1
  have hx := C.1.1
  have hb := C.1.2.1
  obtain ⟨v1, e1⟩ : ∃ z, xs (i + 1).toNatClampNeg = z := ⟨_, rfl⟩
  obtain ⟨v2, e2⟩ : ∃ z, xs (i + 2).toNatClampNeg = z := ⟨_, rfl⟩
  refine lv_aload_n hx hb dL_law_619 rfl (lv_at hl 2 rfl) ?_
  refine lv_aload_n hx hb dL_law_620 rfl (lv_at hl 3 rfl) ?_
  refine lv_iload_n hx hb dL_law_621 rfl (lv_at hl 0 rfl) ?_
  refine lv_iconst (v := 1) hx hb dL_law_622 (by decide) ?_
  refine q_ai X hS (k := 1) (by decide) hi e1 dL_law_623 dL_law_624 ?_
  refine lv_aload_n hx hb dL_law_625 rfl (lv_at hl 3 rfl) ?_
  refine lv_iload_n hx hb dL_law_626 rfl (lv_at hl 0 rfl) ?_
  refine lv_iconst (v := 2) hx hb dL_law_627 (by decide) ?_
  refine q_ai X hS (k := 2) (by decide) hi e2 dL_law_628 dL_law_629 ?_
  have hG0 := hG
  have hGp := hG
  refine W.eq (g2 := F0 m 630 ls [.int v2, .int v1, .ref (al.2 49 0)]) (by rw [hox]) ?_
  refine q_fi (q_runV (t := 49) (i := 0) (As := [.int v1, .int v2]) (rest := []) C hU (c_X11_minutes hG v1 v2) vm_X11_minutes ml_L_62 k_49.1 (hc := rfl) rfl (h1_49 hG) hl.1 rfl rfl (Nat.le_of_ble_eq_true rfl) dL_law_630 rfl rfl ⟨Nat.le_of_ble_eq_true rfl, Nat.le_of_ble_eq_true rfl⟩ ⟨by show cells + 0 ≤ 600000; omega, by show slots + 0 ≤ 7302250; omega⟩) hS (fun r1 iv1 rv1 H locs hG f1 g1 hp1 hU hS => ?_)
  have hRel := hRel.fr hGp f1 g1 (by decide)
  refine lv_pop hx hb dL_law_633 rfl ?_
  refine lv_aload_n hx hb dL_law_634 rfl (lv_at hl 1 rfl) ?_
  refine lv_aload_n hx hb dL_law_635 rfl (lv_at hl 3 rfl) ?_
  refine lv_iload_n hx hb dL_law_636 rfl (lv_at hl 0 rfl) ?_
  refine lv_iconst (v := 1) hx hb dL_law_637 (by decide) ?_
  refine q_ai X hS (k := 1) (by decide) hi e1 dL_law_638 dL_law_639 ?_
  refine lv_aload_n hx hb dL_law_640 rfl (lv_at hl 3 rfl) ?_
  refine lv_iload_n hx hb dL_law_641 rfl (lv_at hl 0 rfl) ?_
  refine lv_iconst (v := 2) hx hb dL_law_642 (by decide) ?_
  refine q_ai X hS (k := 2) (by decide) hi e2 dL_law_643 dL_law_644 ?_
  have hGp := hG
  refine W.eq (g2 := F0 m 645 ls [.int v2, .int v1, .ref (al.2 0 0)]) (by rw [hom]) ?_
  refine q_fi (q_runV (t := 0) (i := 0) (As := [.int v1, .int v2]) (rest := []) C hU (c_X12_minutes hG v1 v2) vm_X12_minutes ml_L_65 k_0.1 (hc := rfl) rfl (h1_0 hG) hl.1 rfl rfl (Nat.le_of_ble_eq_true rfl) dL_law_645 rfl rfl ⟨Nat.le_of_ble_eq_true rfl, Nat.le_of_ble_eq_true rfl⟩ ⟨by show cells + 0 ≤ 600000; omega, by show slots + 0 ≤ 7302250; omega⟩) hS (fun r2 iv2 rv2 H locs hG f2 g2 hp2 hU hS => ?_)
  have hRel := hRel.fr hGp f2 g2 (by decide)
  refine lv_pop hx hb dL_law_648 rfl ?_
  refine lv_goto (tgt := 1475) hx hb dL_law_649 (by decide) ?_
  refine W.widen (k := cells + 3) (n := slots + 16) (by omega) (by omega) ?_
  exact kk _ _ _ _ _ ⟨hG, hox, hom, hRel⟩ hU hS
set_option maxHeartbeats 4000000 in
set_option maxRecDepth 100000 in
theorem law_12 {p : Program} {l : Launch} {e : Env} {s : State} {m : MethodId} {below : List Frame} {meth : Method} {c : Code} {b L : Nat} {xs : Nat → Int32} {D : va_G} {cA : FieldType → ClassId} {ls : Array Slot} {Q : State → Prop} {H : Heap} {locs : List Loc} {cells slots : Nat} {i : Int32} {ox om : Nat} {al : Al} {iv : Iv} {rv : Rv} (X : LX p s m c b L xs D cA) (hl : lv_has ls 4 [(3, .int i), (2, .ref om), (1, .ref ox), (0, .ref b)]) (hi : 0 ≤ i.toInt ∧ i.toInt + 6 < L) (hQ : LSt ox om al iv rv) (hU : UW D cA s.heap.size al iv rv H) (hS : va_S (Aq s.heap.size) s.heap H locs) (hc : cells + 3 ≤ 600000 ∧ slots + 16 ≤ 7302250)
    (kk : ∀ (al' : Al) (iv' : Iv) (rv' : Rv) (H' : Heap) (locs' : List Loc), LSt ox om al' iv' rv' → UW D cA s.heap.size al' iv' rv' H' → va_S (Aq s.heap.size) s.heap H' locs' → W p l e room_1 s m #[Value.ref b] below meth c H' locs' (cells + 3) (slots + 16) Q (F0 m 1475 ls [])) : W p l e room_1 s m #[Value.ref b] below meth c H locs cells slots Q (F0 m 652 ls []) := by
  obtain ⟨hG, hox, hom, hRel⟩ := hQ
  have C := X.1
  have hx := C.1.1
  have hb := C.1.2.1
  obtain ⟨v1, e1⟩ : ∃ z, xs (i + 1).toNatClampNeg = z := ⟨_, rfl⟩
  obtain ⟨v2, e2⟩ : ∃ z, xs (i + 2).toNatClampNeg = z := ⟨_, rfl⟩
  refine lv_aload_n hx hb dL_law_652 rfl (lv_at hl 2 rfl) ?_
  refine lv_aload_n hx hb dL_law_653 rfl (lv_at hl 3 rfl) ?_
  refine lv_iload_n hx hb dL_law_654 rfl (lv_at hl 0 rfl) ?_
  refine lv_iconst (v := 1) hx hb dL_law_655 (by decide) ?_
  refine q_ai X hS (k := 1) (by decide) hi e1 dL_law_656 dL_law_657 ?_
  refine lv_aload_n hx hb dL_law_658 rfl (lv_at hl 3 rfl) ?_
  refine lv_iload_n hx hb dL_law_659 rfl (lv_at hl 0 rfl) ?_
  refine lv_iconst (v := 2) hx hb dL_law_660 (by decide) ?_
  refine q_ai X hS (k := 2) (by decide) hi e2 dL_law_661 dL_law_662 ?_
  have hG0 := hG
  have hGp := hG
  refine W.eq (g2 := F0 m 663 ls [.int v2, .int v1, .ref (al.2 49 0)]) (by rw [hox]) ?_
  refine q_fi (q_runV (t := 49) (i := 0) (As := [.int v1, .int v2]) (rest := []) C hU (c_X11_saved hG v1 v2) vm_X11_saved ml_L_66 k_49.1 (hc := rfl) rfl (h1_49 hG) hl.1 rfl rfl (Nat.le_of_ble_eq_true rfl) dL_law_663 rfl rfl ⟨Nat.le_of_ble_eq_true rfl, Nat.le_of_ble_eq_true rfl⟩ ⟨by show cells + 0 ≤ 600000; omega, by show slots + 0 ≤ 7302250; omega⟩) hS (fun r1 iv1 rv1 H locs hG f1 g1 hp1 hU hS => ?_)
  have hRel := hRel.fr hGp f1 g1 (by decide)
  refine lv_pop hx hb dL_law_666 rfl ?_
  refine lv_aload_n hx hb dL_law_667 rfl (lv_at hl 1 rfl) ?_
  refine lv_aload_n hx hb dL_law_668 rfl (lv_at hl 3 rfl) ?_
  refine lv_iload_n hx hb dL_law_669 rfl (lv_at hl 0 rfl) ?_
  refine lv_iconst (v := 1) hx hb dL_law_670 (by decide) ?_
  refine q_ai X hS (k := 1) (by decide) hi e1 dL_law_671 dL_law_672 ?_
  refine lv_aload_n hx hb dL_law_673 rfl (lv_at hl 3 rfl) ?_
  refine lv_iload_n hx hb dL_law_674 rfl (lv_at hl 0 rfl) ?_
  refine lv_iconst (v := 2) hx hb dL_law_675 (by decide) ?_
  refine q_ai X hS (k := 2) (by decide) hi e2 dL_law_676 dL_law_677 ?_
  have hGp := hG
  refine W.eq (g2 := F0 m 678 ls [.int v2, .int v1, .ref (al.2 0 0)]) (by rw [hom]) ?_
  refine q_fi (q_runV (t := 0) (i := 0) (As := [.int v1, .int v2]) (rest := []) C hU (c_X12_saved hG v1 v2) vm_X12_saved ml_L_69 k_0.1 (hc := rfl) rfl (h1_0 hG) hl.1 rfl rfl (Nat.le_of_ble_eq_true rfl) dL_law_678 rfl rfl ⟨Nat.le_of_ble_eq_true rfl, Nat.le_of_ble_eq_true rfl⟩ ⟨by show cells + 0 ≤ 600000; omega, by show slots + 0 ≤ 7302250; omega⟩) hS (fun r2 iv2 rv2 H locs hG f2 g2 hp2 hU hS => ?_)
  have hRel := hRel.fr hGp f2 g2 (by decide)
  refine lv_pop hx hb dL_law_681 rfl ?_
  refine lv_goto (tgt := 1475) hx hb dL_law_682 (by decide) ?_
  refine W.widen (k := cells + 3) (n := slots + 16) (by omega) (by omega) ?_
  exact kk _ _ _ _ _ ⟨hG, hox, hom, hRel⟩ hU hS
set_option maxHeartbeats 4000000 in
set_option maxRecDepth 100000 in
theorem law_13 {p : Program} {l : Launch} {e : Env} {s : State} {m : MethodId} {below : List Frame} {meth : Method} {c : Code} {b L : Nat} {xs : Nat → Int32} {D : va_G} {cA : FieldType → ClassId} {ls : Array Slot} {Q : State → Prop} {H : Heap} {locs : List Loc} {cells slots : Nat} {i : Int32} {ox om : Nat} {al : Al} {iv : Iv} {rv : Rv} (X : LX p s m c b L xs D cA) (hl : lv_has ls 4 [(3, .int i), (2, .ref om), (1, .ref ox), (0, .ref b)]) (hi : 0 ≤ i.toInt ∧ i.toInt + 6 < L) (hQ : LSt ox om al iv rv) (hU : UW D cA s.heap.size al iv rv H) (hS : va_S (Aq s.heap.size) s.heap H locs) (hc : cells + 3 ≤ 600000 ∧ slots + 16 ≤ 7302250)
    (kk : ∀ (al' : Al) (iv' : Iv) (rv' : Rv) (H' : Heap) (locs' : List Loc), LSt ox om al' iv' rv' → UW D cA s.heap.size al' iv' rv' H' → va_S (Aq s.heap.size) s.heap H' locs' → W p l e room_1 s m #[Value.ref b] below meth c H' locs' (cells + 3) (slots + 16) Q (F0 m 1475 ls [])) : W p l e room_1 s m #[Value.ref b] below meth c H locs cells slots Q (F0 m 685 ls []) := by
  obtain ⟨hG, hox, hom, hRel⟩ := hQ
  have C := X.1
  have hx := C.1.1
  have hb := C.1.2.1
  obtain ⟨v1, e1⟩ : ∃ z, xs (i + 1).toNatClampNeg = z := ⟨_, rfl⟩
  refine lv_aload_n hx hb dL_law_685 rfl (lv_at hl 2 rfl) ?_
  refine lv_aload_n hx hb dL_law_686 rfl (lv_at hl 3 rfl) ?_
  refine lv_iload_n hx hb dL_law_687 rfl (lv_at hl 0 rfl) ?_
  refine lv_iconst (v := 1) hx hb dL_law_688 (by decide) ?_
  refine q_ai X hS (k := 1) (by decide) hi e1 dL_law_689 dL_law_690 ?_
  have hG0 := hG
  have hGp := hG
  refine W.eq (g2 := F0 m 691 ls [.int v1, .ref (al.2 49 0)]) (by rw [hox]) ?_
  refine q_ciA (q_runVA (t := 49) (i := 0) (As := [.int v1]) (rest := []) C hU hS.1 (c_X11_traveller hG v1) vm_X11_traveller ml_L_70 k_49.1 (hc := rfl) rfl (h1_49 hG) hl.1 rfl rfl (Nat.le_of_ble_eq_true rfl) dL_law_691 rfl rfl ⟨Nat.le_of_ble_eq_true rfl, Nat.le_of_ble_eq_true rfl⟩ ⟨by show cells + 3 ≤ 600000; omega, by show slots + 16 ≤ 7302250; omega⟩) hS hS.1 (fun r1 al1 iv1 rv1 H locs hp1 hU hS _ => ?_)
  obtain ⟨hG1, hE1, hp1⟩ := hp1
  have hRel := hRel.ex hGp hE1 (by decide)
  have hox := (hE1.2.1 49 0 (h1_49 hG)).trans hox
  have hom := (hE1.2.1 0 0 (h1_0 hG)).trans hom
  have hG := hG1
  refine W.widen (k := cells + 3) (n := slots + 16) (by omega) (by omega) ?_
  refine lv_pop hx hb dL_law_694 rfl ?_
  refine lv_aload_n hx hb dL_law_695 rfl (lv_at hl 1 rfl) ?_
  refine lv_aload_n hx hb dL_law_696 rfl (lv_at hl 3 rfl) ?_
  refine lv_iload_n hx hb dL_law_697 rfl (lv_at hl 0 rfl) ?_
  refine lv_iconst (v := 1) hx hb dL_law_698 (by decide) ?_
  refine q_ai X hS (k := 1) (by decide) hi e1 dL_law_699 dL_law_700 ?_
  have hGp := hG
  refine W.eq (g2 := F0 m 701 ls [.int v1, .ref (al1.2 0 0)]) (by rw [hom]) ?_
  refine q_fi (q_runV (t := 0) (i := 0) (As := [.int v1]) (rest := []) C hU (c_X12_traveller hG v1) vm_X12_traveller ml_L_73 k_0.1 (hc := rfl) rfl (h1_0 hG) hl.1 rfl rfl (Nat.le_of_ble_eq_true rfl) dL_law_701 rfl rfl ⟨Nat.le_of_ble_eq_true rfl, Nat.le_of_ble_eq_true rfl⟩ ⟨by show (cells + 3) + 0 ≤ 600000; omega, by show (slots + 16) + 0 ≤ 7302250; omega⟩) hS (fun r2 iv2 rv2 H locs hG f2 g2 hp2 hU hS => ?_)
  have hRel := hRel.fr hGp f2 g2 (by decide)
  refine lv_pop hx hb dL_law_704 rfl ?_
  refine lv_goto (tgt := 1475) hx hb dL_law_705 (by decide) ?_
  exact kk _ _ _ _ _ ⟨hG, hox, hom, hRel⟩ hU hS
set_option maxHeartbeats 4000000 in
set_option maxRecDepth 100000 in
theorem law_14 {p : Program} {l : Launch} {e : Env} {s : State} {m : MethodId} {below : List Frame} {meth : Method} {c : Code} {b L : Nat} {xs : Nat → Int32} {D : va_G} {cA : FieldType → ClassId} {ls : Array Slot} {Q : State → Prop} {H : Heap} {locs : List Loc} {cells slots : Nat} {i : Int32} {ox om : Nat} {al : Al} {iv : Iv} {rv : Rv} (X : LX p s m c b L xs D cA) (hl : lv_has ls 4 [(3, .int i), (2, .ref om), (1, .ref ox), (0, .ref b)]) (hi : 0 ≤ i.toInt ∧ i.toInt + 6 < L) (hQ : LSt ox om al iv rv) (hU : UW D cA s.heap.size al iv rv H) (hS : va_S (Aq s.heap.size) s.heap H locs) (hc : cells + 3 ≤ 600000 ∧ slots + 16 ≤ 7302250)
    (kk : ∀ (al' : Al) (iv' : Iv) (rv' : Rv) (H' : Heap) (locs' : List Loc), LSt ox om al' iv' rv' → UW D cA s.heap.size al' iv' rv' H' → va_S (Aq s.heap.size) s.heap H' locs' → W p l e room_1 s m #[Value.ref b] below meth c H' locs' (cells + 3) (slots + 16) Q (F0 m 1475 ls [])) : W p l e room_1 s m #[Value.ref b] below meth c H locs cells slots Q (F0 m 708 ls []) := by
  obtain ⟨hG, hox, hom, hRel⟩ := hQ
  have C := X.1
  have hx := C.1.1
  have hb := C.1.2.1
  obtain ⟨v1, e1⟩ : ∃ z, xs (i + 1).toNatClampNeg = z := ⟨_, rfl⟩
  obtain ⟨v2, e2⟩ : ∃ z, xs (i + 2).toNatClampNeg = z := ⟨_, rfl⟩
  refine lv_aload_n hx hb dL_law_708 rfl (lv_at hl 2 rfl) ?_
  refine lv_aload_n hx hb dL_law_709 rfl (lv_at hl 3 rfl) ?_
  refine lv_iload_n hx hb dL_law_710 rfl (lv_at hl 0 rfl) ?_
  refine lv_iconst (v := 1) hx hb dL_law_711 (by decide) ?_
  refine q_ai X hS (k := 1) (by decide) hi e1 dL_law_712 dL_law_713 ?_
  refine lv_aload_n hx hb dL_law_714 rfl (lv_at hl 3 rfl) ?_
  refine lv_iload_n hx hb dL_law_715 rfl (lv_at hl 0 rfl) ?_
  refine lv_iconst (v := 2) hx hb dL_law_716 (by decide) ?_
  refine q_ai X hS (k := 2) (by decide) hi e2 dL_law_717 dL_law_718 ?_
  have hG0 := hG
  have hGp := hG
  refine W.eq (g2 := F0 m 719 ls [.int v2, .int v1, .ref (al.2 49 0)]) (by rw [hox]) ?_
  refine q_fi (q_runV (t := 49) (i := 0) (As := [.int v1, .int v2]) (rest := []) C hU (c_X11_then hG v1 v2) vm_X11_then ml_L_74 k_49.1 (hc := rfl) rfl (h1_49 hG) hl.1 rfl rfl (Nat.le_of_ble_eq_true rfl) dL_law_719 rfl rfl ⟨Nat.le_of_ble_eq_true rfl, Nat.le_of_ble_eq_true rfl⟩ ⟨by show cells + 0 ≤ 600000; omega, by show slots + 0 ≤ 7302250; omega⟩) hS (fun r1 iv1 rv1 H locs hG f1 g1 hp1 hU hS => ?_)
  have hRel := hRel.fr hGp f1 g1 (by decide)
  refine lv_pop hx hb dL_law_722 rfl ?_
  refine lv_aload_n hx hb dL_law_723 rfl (lv_at hl 1 rfl) ?_
  refine lv_aload_n hx hb dL_law_724 rfl (lv_at hl 3 rfl) ?_
  refine lv_iload_n hx hb dL_law_725 rfl (lv_at hl 0 rfl) ?_
  refine lv_iconst (v := 1) hx hb dL_law_726 (by decide) ?_
  refine q_ai X hS (k := 1) (by decide) hi e1 dL_law_727 dL_law_728 ?_
  refine lv_aload_n hx hb dL_law_729 rfl (lv_at hl 3 rfl) ?_
  refine lv_iload_n hx hb dL_law_730 rfl (lv_at hl 0 rfl) ?_
  refine lv_iconst (v := 2) hx hb dL_law_731 (by decide) ?_
  refine q_ai X hS (k := 2) (by decide) hi e2 dL_law_732 dL_law_733 ?_
  have hGp := hG
  refine W.eq (g2 := F0 m 734 ls [.int v2, .int v1, .ref (al.2 0 0)]) (by rw [hom]) ?_
  refine q_fi (q_runV (t := 0) (i := 0) (As := [.int v1, .int v2]) (rest := []) C hU (c_X12_then hG v1 v2) vm_X12_then ml_L_77 k_0.1 (hc := rfl) rfl (h1_0 hG) hl.1 rfl rfl (Nat.le_of_ble_eq_true rfl) dL_law_734 rfl rfl ⟨Nat.le_of_ble_eq_true rfl, Nat.le_of_ble_eq_true rfl⟩ ⟨by show cells + 0 ≤ 600000; omega, by show slots + 0 ≤ 7302250; omega⟩) hS (fun r2 iv2 rv2 H locs hG f2 g2 hp2 hU hS => ?_)
  have hRel := hRel.fr hGp f2 g2 (by decide)
  refine lv_pop hx hb dL_law_737 rfl ?_
  refine lv_goto (tgt := 1475) hx hb dL_law_738 (by decide) ?_
  refine W.widen (k := cells + 3) (n := slots + 16) (by omega) (by omega) ?_
  exact kk _ _ _ _ _ ⟨hG, hox, hom, hRel⟩ hU hS
set_option maxHeartbeats 4000000 in
set_option maxRecDepth 100000 in
theorem law_15 {p : Program} {l : Launch} {e : Env} {s : State} {m : MethodId} {below : List Frame} {meth : Method} {c : Code} {b L : Nat} {xs : Nat → Int32} {D : va_G} {cA : FieldType → ClassId} {ls : Array Slot} {Q : State → Prop} {H : Heap} {locs : List Loc} {cells slots : Nat} {i : Int32} {ox om : Nat} {al : Al} {iv : Iv} {rv : Rv} (X : LX p s m c b L xs D cA) (hl : lv_has ls 4 [(3, .int i), (2, .ref om), (1, .ref ox), (0, .ref b)]) (hi : 0 ≤ i.toInt ∧ i.toInt + 6 < L) (hQ : LSt ox om al iv rv) (hU : UW D cA s.heap.size al iv rv H) (hS : va_S (Aq s.heap.size) s.heap H locs) (hc : cells + 3 ≤ 600000 ∧ slots + 16 ≤ 7302250)
    (kk : ∀ (al' : Al) (iv' : Iv) (rv' : Rv) (H' : Heap) (locs' : List Loc), LSt ox om al' iv' rv' → UW D cA s.heap.size al' iv' rv' H' → va_S (Aq s.heap.size) s.heap H' locs' → W p l e room_1 s m #[Value.ref b] below meth c H' locs' (cells + 3) (slots + 16) Q (F0 m 1475 ls [])) : W p l e room_1 s m #[Value.ref b] below meth c H locs cells slots Q (F0 m 741 ls []) := by
  obtain ⟨hG, hox, hom, hRel⟩ := hQ
  have C := X.1
  have hx := C.1.1
  have hb := C.1.2.1
  obtain ⟨v1, e1⟩ : ∃ z, xs (i + 1).toNatClampNeg = z := ⟨_, rfl⟩
  refine lv_aload_n hx hb dL_law_741 rfl (lv_at hl 2 rfl) ?_
  refine lv_aload_n hx hb dL_law_742 rfl (lv_at hl 3 rfl) ?_
  refine lv_iload_n hx hb dL_law_743 rfl (lv_at hl 0 rfl) ?_
  refine lv_iconst (v := 1) hx hb dL_law_744 (by decide) ?_
  refine q_ai X hS (k := 1) (by decide) hi e1 dL_law_745 dL_law_746 ?_
  have hG0 := hG
  have hGp := hG
  refine W.eq (g2 := F0 m 747 ls [.int v1, .ref (al.2 49 0)]) (by rw [hox]) ?_
  refine q_fi (q_runV (t := 49) (i := 0) (As := [.int v1]) (rest := []) C hU (c_X11_missed hG v1) vm_X11_missed ml_L_78 k_49.1 (hc := rfl) rfl (h1_49 hG) hl.1 rfl rfl (Nat.le_of_ble_eq_true rfl) dL_law_747 rfl rfl ⟨Nat.le_of_ble_eq_true rfl, Nat.le_of_ble_eq_true rfl⟩ ⟨by show cells + 0 ≤ 600000; omega, by show slots + 0 ≤ 7302250; omega⟩) hS (fun r1 iv1 rv1 H locs hG f1 g1 hp1 hU hS => ?_)
  have hRel := hRel.fr hGp f1 g1 (by decide)
  refine lv_pop hx hb dL_law_750 rfl ?_
  refine lv_aload_n hx hb dL_law_751 rfl (lv_at hl 1 rfl) ?_
  refine lv_aload_n hx hb dL_law_752 rfl (lv_at hl 3 rfl) ?_
  refine lv_iload_n hx hb dL_law_753 rfl (lv_at hl 0 rfl) ?_
  refine lv_iconst (v := 1) hx hb dL_law_754 (by decide) ?_
  refine q_ai X hS (k := 1) (by decide) hi e1 dL_law_755 dL_law_756 ?_
  have hGp := hG
  refine W.eq (g2 := F0 m 757 ls [.int v1, .ref (al.2 0 0)]) (by rw [hom]) ?_
  refine q_fi (q_runV (t := 0) (i := 0) (As := [.int v1]) (rest := []) C hU (c_X12_missed hG v1) vm_X12_missed ml_L_81 k_0.1 (hc := rfl) rfl (h1_0 hG) hl.1 rfl rfl (Nat.le_of_ble_eq_true rfl) dL_law_757 rfl rfl ⟨Nat.le_of_ble_eq_true rfl, Nat.le_of_ble_eq_true rfl⟩ ⟨by show cells + 0 ≤ 600000; omega, by show slots + 0 ≤ 7302250; omega⟩) hS (fun r2 iv2 rv2 H locs hG f2 g2 hp2 hU hS => ?_)
  have hRel := hRel.fr hGp f2 g2 (by decide)
  refine lv_pop hx hb dL_law_760 rfl ?_
  refine lv_goto (tgt := 1475) hx hb dL_law_761 (by decide) ?_
  refine W.widen (k := cells + 3) (n := slots + 16) (by omega) (by omega) ?_
  exact kk _ _ _ _ _ ⟨hG, hox, hom, hRel⟩ hU hS
set_option maxHeartbeats 4000000 in
set_option maxRecDepth 100000 in
theorem law_16 {p : Program} {l : Launch} {e : Env} {s : State} {m : MethodId} {below : List Frame} {meth : Method} {c : Code} {b L : Nat} {xs : Nat → Int32} {D : va_G} {cA : FieldType → ClassId} {ls : Array Slot} {Q : State → Prop} {H : Heap} {locs : List Loc} {cells slots : Nat} {i : Int32} {ox om : Nat} {al : Al} {iv : Iv} {rv : Rv} (X : LX p s m c b L xs D cA) (hl : lv_has ls 4 [(3, .int i), (2, .ref om), (1, .ref ox), (0, .ref b)]) (hi : 0 ≤ i.toInt ∧ i.toInt + 6 < L) (hQ : LSt ox om al iv rv) (hU : UW D cA s.heap.size al iv rv H) (hS : va_S (Aq s.heap.size) s.heap H locs) (hc : cells + 3 ≤ 600000 ∧ slots + 16 ≤ 7302250)
    (kk : ∀ (al' : Al) (iv' : Iv) (rv' : Rv) (H' : Heap) (locs' : List Loc), LSt ox om al' iv' rv' → UW D cA s.heap.size al' iv' rv' H' → va_S (Aq s.heap.size) s.heap H' locs' → W p l e room_1 s m #[Value.ref b] below meth c H' locs' (cells + 3) (slots + 16) Q (F0 m 1475 ls [])) : W p l e room_1 s m #[Value.ref b] below meth c H locs cells slots Q (F0 m 764 ls []) := by
  obtain ⟨hG, hox, hom, hRel⟩ := hQ
  have C := X.1
  have hx := C.1.1
  have hb := C.1.2.1
  obtain ⟨v1, e1⟩ : ∃ z, xs (i + 1).toNatClampNeg = z := ⟨_, rfl⟩
  refine lv_aload_n hx hb dL_law_764 rfl (lv_at hl 2 rfl) ?_
  refine lv_aload_n hx hb dL_law_765 rfl (lv_at hl 3 rfl) ?_
  refine lv_iload_n hx hb dL_law_766 rfl (lv_at hl 0 rfl) ?_
  refine lv_iconst (v := 1) hx hb dL_law_767 (by decide) ?_
  refine q_ai X hS (k := 1) (by decide) hi e1 dL_law_768 dL_law_769 ?_
  have hG0 := hG
  have hGp := hG
  refine W.eq (g2 := F0 m 770 ls [.int v1, .ref (al.2 49 0)]) (by rw [hox]) ?_
  refine q_fi (q_runV (t := 49) (i := 0) (As := [.int v1]) (rest := []) C hU (c_X11_soonest hG v1) vm_X11_soonest ml_L_82 k_49.1 (hc := rfl) rfl (h1_49 hG) hl.1 rfl rfl (Nat.le_of_ble_eq_true rfl) dL_law_770 rfl rfl ⟨Nat.le_of_ble_eq_true rfl, Nat.le_of_ble_eq_true rfl⟩ ⟨by show cells + 0 ≤ 600000; omega, by show slots + 0 ≤ 7302250; omega⟩) hS (fun r1 iv1 rv1 H locs hG f1 g1 hp1 hU hS => ?_)
  have hRel := hRel.fr hGp f1 g1 (by decide)
  refine lv_pop hx hb dL_law_773 rfl ?_
  refine lv_aload_n hx hb dL_law_774 rfl (lv_at hl 1 rfl) ?_
  refine lv_aload_n hx hb dL_law_775 rfl (lv_at hl 3 rfl) ?_
  refine lv_iload_n hx hb dL_law_776 rfl (lv_at hl 0 rfl) ?_
  refine lv_iconst (v := 1) hx hb dL_law_777 (by decide) ?_
  refine q_ai X hS (k := 1) (by decide) hi e1 dL_law_778 dL_law_779 ?_
  have hGp := hG
  refine W.eq (g2 := F0 m 780 ls [.int v1, .ref (al.2 0 0)]) (by rw [hom]) ?_
  refine q_fi (q_runV (t := 0) (i := 0) (As := [.int v1]) (rest := []) C hU (c_X12_soonest hG v1) vm_X12_soonest ml_L_85 k_0.1 (hc := rfl) rfl (h1_0 hG) hl.1 rfl rfl (Nat.le_of_ble_eq_true rfl) dL_law_780 rfl rfl ⟨Nat.le_of_ble_eq_true rfl, Nat.le_of_ble_eq_true rfl⟩ ⟨by show cells + 0 ≤ 600000; omega, by show slots + 0 ≤ 7302250; omega⟩) hS (fun r2 iv2 rv2 H locs hG f2 g2 hp2 hU hS => ?_)
  have hRel := hRel.fr hGp f2 g2 (by decide)
  refine lv_pop hx hb dL_law_783 rfl ?_
  refine lv_goto (tgt := 1475) hx hb dL_law_784 (by decide) ?_
  refine W.widen (k := cells + 3) (n := slots + 16) (by omega) (by omega) ?_
  exact kk _ _ _ _ _ ⟨hG, hox, hom, hRel⟩ hU hS
set_option maxHeartbeats 4000000 in
set_option maxRecDepth 100000 in
theorem law_17 {p : Program} {l : Launch} {e : Env} {s : State} {m : MethodId} {below : List Frame} {meth : Method} {c : Code} {b L : Nat} {xs : Nat → Int32} {D : va_G} {cA : FieldType → ClassId} {ls : Array Slot} {Q : State → Prop} {H : Heap} {locs : List Loc} {cells slots : Nat} {i : Int32} {ox om : Nat} {al : Al} {iv : Iv} {rv : Rv} (X : LX p s m c b L xs D cA) (hl : lv_has ls 4 [(3, .int i), (2, .ref om), (1, .ref ox), (0, .ref b)]) (hi : 0 ≤ i.toInt ∧ i.toInt + 6 < L) (hQ : LSt ox om al iv rv) (hU : UW D cA s.heap.size al iv rv H) (hS : va_S (Aq s.heap.size) s.heap H locs) (hc : cells + 3 ≤ 600000 ∧ slots + 16 ≤ 7302250)
    (kk : ∀ (al' : Al) (iv' : Iv) (rv' : Rv) (H' : Heap) (locs' : List Loc), LSt ox om al' iv' rv' → UW D cA s.heap.size al' iv' rv' H' → va_S (Aq s.heap.size) s.heap H' locs' → W p l e room_1 s m #[Value.ref b] below meth c H' locs' (cells + 3) (slots + 16) Q (F0 m 1475 ls [])) : W p l e room_1 s m #[Value.ref b] below meth c H locs cells slots Q (F0 m 787 ls []) := by
  obtain ⟨hG, hox, hom, hRel⟩ := hQ
  have C := X.1
  have hx := C.1.1
  have hb := C.1.2.1
  obtain ⟨v1, e1⟩ : ∃ z, xs (i + 1).toNatClampNeg = z := ⟨_, rfl⟩
  refine lv_aload_n hx hb dL_law_787 rfl (lv_at hl 2 rfl) ?_
  refine lv_aload_n hx hb dL_law_788 rfl (lv_at hl 3 rfl) ?_
  refine lv_iload_n hx hb dL_law_789 rfl (lv_at hl 0 rfl) ?_
  refine lv_iconst (v := 1) hx hb dL_law_790 (by decide) ?_
  refine q_ai X hS (k := 1) (by decide) hi e1 dL_law_791 dL_law_792 ?_
  have hG0 := hG
  have hGp := hG
  refine W.eq (g2 := F0 m 793 ls [.int v1, .ref (al.2 49 0)]) (by rw [hox]) ?_
  refine q_fi (q_runV (t := 49) (i := 0) (As := [.int v1]) (rest := []) C hU (c_X11_hours hG v1) vm_X11_hours ml_L_86 k_49.1 (hc := rfl) rfl (h1_49 hG) hl.1 rfl rfl (Nat.le_of_ble_eq_true rfl) dL_law_793 rfl rfl ⟨Nat.le_of_ble_eq_true rfl, Nat.le_of_ble_eq_true rfl⟩ ⟨by show cells + 0 ≤ 600000; omega, by show slots + 0 ≤ 7302250; omega⟩) hS (fun r1 iv1 rv1 H locs hG f1 g1 hp1 hU hS => ?_)
  have hRel := hRel.fr hGp f1 g1 (by decide)
  refine lv_pop hx hb dL_law_796 rfl ?_
  refine lv_aload_n hx hb dL_law_797 rfl (lv_at hl 1 rfl) ?_
  refine lv_aload_n hx hb dL_law_798 rfl (lv_at hl 3 rfl) ?_
  refine lv_iload_n hx hb dL_law_799 rfl (lv_at hl 0 rfl) ?_
  refine lv_iconst (v := 1) hx hb dL_law_800 (by decide) ?_
  refine q_ai X hS (k := 1) (by decide) hi e1 dL_law_801 dL_law_802 ?_
  have hGp := hG
  refine W.eq (g2 := F0 m 803 ls [.int v1, .ref (al.2 0 0)]) (by rw [hom]) ?_
  refine q_fi (q_runV (t := 0) (i := 0) (As := [.int v1]) (rest := []) C hU (c_X12_hours hG v1) vm_X12_hours ml_L_89 k_0.1 (hc := rfl) rfl (h1_0 hG) hl.1 rfl rfl (Nat.le_of_ble_eq_true rfl) dL_law_803 rfl rfl ⟨Nat.le_of_ble_eq_true rfl, Nat.le_of_ble_eq_true rfl⟩ ⟨by show cells + 0 ≤ 600000; omega, by show slots + 0 ≤ 7302250; omega⟩) hS (fun r2 iv2 rv2 H locs hG f2 g2 hp2 hU hS => ?_)
  have hRel := hRel.fr hGp f2 g2 (by decide)
  refine lv_pop hx hb dL_law_806 rfl ?_
  refine lv_goto (tgt := 1475) hx hb dL_law_807 (by decide) ?_
  refine W.widen (k := cells + 3) (n := slots + 16) (by omega) (by omega) ?_
  exact kk _ _ _ _ _ ⟨hG, hox, hom, hRel⟩ hU hS
end
