section
set_option maxHeartbeats 4000000 in
set_option maxRecDepth 100000 in
theorem c_X12_days_x {l : Launch} {D : va_G} {cA : FieldType → ClassId} {sz : Nat} {al : Al} {iv : Iv} {rv : Rv} (hG : GI al iv rv) (n : Int32) : Met l yX12_days (wd yX12_days cX12_days 2 (some .int)) (rm 1) (PcW D cA sz al iv rv [.ref (al.2 0 0), .int n]) (QI D cA sz al (fI al ([16], [(0, 0)]) iv rv (fun r iv' rv' => (iv' 0 0 0).toInt = dayF n.toInt (iv 0 0 0).toInt))) 0 0 (Aq sz) := by
  refine mk_i (by decide) (Nat.le_of_ble_eq_true rfl) rfl ?_
  intro p e s m args below meth c ls Q H locs C hU hS hl hret
  have hx := C.1.1
  have hb := C.1.2.1
  have hl : lv_has ls 2 [(0, .ref (al.2 0 0)), (1, .int n)] := hl
  have hG0 := hG
  have h6 := le6 hG
  have h20 := le20 hG
  have h41 := le41 hG
  have hF1 : FR ([16], [(0, 0)]) iv iv := FR.rf
  have hF2 : FR ([16], [(0, 0)]) rv rv := FR.rf
  have km6 : ((-6) : Int32).toInt = -6 := by decide
  have km4 : ((-4) : Int32).toInt = -4 := by decide
  have k1 : (1 : Int32).toInt = 1 := by decide
  have k4000 : (4000 : Int32).toInt = 4000 := by decide
  refine lv_iload_n hx hb dX12_days_0 rfl (lv_at hl 1 rfl) ?_
  refine lv_iconst (v := 1) hx hb dX12_days_1 (by decide) ?_
  refine b_icmp_ge (tgt := 12) hx hb dX12_days_2 (by decide) (fun c_1 => ?_) (fun c_1 => ?_)
  ·
    refine lv_iload_n hx hb dX12_days_12 rfl (lv_at hl 1 rfl) ?_
    refine lv_sipush (v := 4000) hx hb dX12_days_13 (by decide) ?_
    refine lv_aload_n hx hb dX12_days_16 rfl (lv_at hl 0 rfl) ?_
    refine g_0_0 C hU hG (h1_0 hG) fl_X12_168 dX12_days_17 (fun x_2 e_3 le_3 ue_3 => ?_)
    have te_3 := congrArg Int32.toInt e_3
    refine lv_isub hx hb dX12_days_20 ?_
    refine lv_topi (fun x_4 e_5 => ?_)
    have te_5 : x_4.toInt = (4000 : Int32).toInt - (x_2 : Int32).toInt := by rw [e_5]; exact fb_subI (by omega) (by omega)
    refine b_icmp_le (tgt := 31) hx hb dX12_days_21 (by decide) (fun c_6 => ?_) (fun c_6 => ?_)
    ·
      refine lv_aload_n hx hb dX12_days_31 rfl (lv_at hl 0 rfl) ?_
      refine lv_dup hx hb dX12_days_32 rfl ?_
      refine g_0_0 C hU hG (h1_0 hG) fl_X12_168 dX12_days_33 (fun x_7 e_8 le_8 ue_8 => ?_)
      have te_8 := congrArg Int32.toInt e_8
      refine lv_iload_n hx hb dX12_days_36 rfl (lv_at hl 1 rfl) ?_
      refine lv_iadd hx hb dX12_days_37 ?_
      refine lv_topi (fun x_9 e_10 => ?_)
      have te_10 : x_9.toInt = (x_7 : Int32).toInt + (n : Int32).toInt := by rw [e_10]; exact fb_addI (by omega) (by omega)
      refine p_0_0 C hU hS (h1_0 hG) fl_X12_168 dX12_days_38 (fun iv_11 H locs ei_12 hU hS => ?_)
      have hG : GI al iv_11 rv := by rw [ei_12]; exact hG.puti (show _ ∧ _ from ⟨show (0 : Int) ≤ _ by omega, show _ ≤ (4000 : Int) by omega⟩) (nsF (by decide))
      have hF1 : FR ([16], [(0, 0)]) iv iv_11 := by rw [ei_12]; exact hF1.put (by decide)
      refine lv_aload_n hx hb dX12_days_41 rfl (lv_at hl 0 rfl) ?_
      refine g_0_0 C hU hG (h1_0 hG) fl_X12_168 dX12_days_42 (fun x_13 e_14 le_14 ue_14 => ?_)
      have te_14 := congrArg Int32.toInt e_14
      exact hret (⟨hG, hF1, hF2, by show _ = _; rw [ei_12, up3_self]; unfold dayF; split <;> omega⟩) hU hS dX12_days_45
    ·
      refine lv_aload_n hx hb dX12_days_24 rfl (lv_at hl 0 rfl) ?_
      refine lv_bipush (v := (-6)) hx hb dX12_days_25 (by decide) ?_
      refine q_fi (q_runV (t := 0) (i := 0) (As := [.int (-6)]) (rest := []) C hU (c_X12_refuse hG (-6) (by omega)) vm_X12_refuse ml_X12_164 k_0.1 (hc := rfl) rfl (h1_0 hG) hl.1 rfl rfl (Nat.le_of_ble_eq_true rfl) dX12_days_27 rfl rfl ⟨Nat.le_of_ble_eq_true rfl, Nat.le_of_ble_eq_true rfl⟩ ⟨Nat.le_refl _, Nat.le_refl _⟩) hS (fun x_20 iv_16 rv_17 H locs hG fa_18 fb_19 hp_15 hU hS => ?_)
      have hF1 := hF1.tr (m := ([16], [(0, 0)])) fa_18 (by decide)
      have hF2 := hF2.tr (m := ([16], [(0, 0)])) fb_19 (by decide)
      exact hret (⟨hG, hF1, hF2, by show _ = _; rw [fa_18 0 0 0 (by decide)]; unfold dayF; split <;> omega⟩) hU hS dX12_days_30
  ·
    refine lv_aload_n hx hb dX12_days_5 rfl (lv_at hl 0 rfl) ?_
    refine lv_bipush (v := (-4)) hx hb dX12_days_6 (by decide) ?_
    refine q_fi (q_runV (t := 0) (i := 0) (As := [.int (-4)]) (rest := []) C hU (c_X12_refuse hG (-4) (by omega)) vm_X12_refuse ml_X12_164 k_0.1 (hc := rfl) rfl (h1_0 hG) hl.1 rfl rfl (Nat.le_of_ble_eq_true rfl) dX12_days_8 rfl rfl ⟨Nat.le_of_ble_eq_true rfl, Nat.le_of_ble_eq_true rfl⟩ ⟨Nat.le_refl _, Nat.le_refl _⟩) hS (fun x_26 iv_22 rv_23 H locs hG fa_24 fb_25 hp_21 hU hS => ?_)
    have hF1 := hF1.tr (m := ([16], [(0, 0)])) fa_24 (by decide)
    have hF2 := hF2.tr (m := ([16], [(0, 0)])) fb_25 (by decide)
    exact hret (⟨hG, hF1, hF2, by show _ = _; rw [fa_24 0 0 0 (by decide)]; unfold dayF; split <;> omega⟩) hU hS dX12_days_11
set_option maxHeartbeats 4000000 in
set_option maxRecDepth 100000 in
theorem c_X11_days_x {l : Launch} {D : va_G} {cA : FieldType → ClassId} {sz : Nat} {al : Al} {iv : Iv} {rv : Rv} (hG : GI al iv rv) (n : Int32) : Met l yX11_days (wd yX11_days cX11_days 2 (some .int)) (rm 2) (PcW D cA sz al iv rv [.ref (al.2 49 0), .int n]) (QI D cA sz al (fI al ([51], [(49, 9)]) iv rv (fun r iv' rv' => (iv' 49 0 9).toInt = dayF n.toInt (iv 49 0 9).toInt))) 0 0 (Aq sz) := by
  refine mk_i (by decide) (Nat.le_of_ble_eq_true rfl) rfl ?_
  intro p e s m args below meth c ls Q H locs C hU hS hl hret
  have hx := C.1.1
  have hb := C.1.2.1
  have hl : lv_has ls 2 [(0, .ref (al.2 49 0)), (1, .int n)] := hl
  have hG0 := hG
  have hF1 : FR ([51], [(49, 9)]) iv iv := FR.rf
  have hF2 : FR ([51], [(49, 9)]) rv rv := FR.rf
  have km6 : ((-6) : Int32).toInt = -6 := by decide
  have km4 : ((-4) : Int32).toInt = -4 := by decide
  have k4000 : (4000 : Int32).toInt = 4000 := by decide
  refine lv_iload_n hx hb dX11_days_0 rfl (lv_at hl 1 rfl) ?_
  refine b_if_ge (tgt := 11) hx hb dX11_days_1 (by decide) (fun c_1 => ?_) (fun c_1 => ?_)
  ·
    refine lv_iload_n hx hb dX11_days_11 rfl (lv_at hl 1 rfl) ?_
    refine lv_sipush (v := 4000) hx hb dX11_days_12 (by decide) ?_
    refine lv_aload_n hx hb dX11_days_15 rfl (lv_at hl 0 rfl) ?_
    refine g_49_9 C hU hG (h1_49 hG) fl_X11_73 dX11_days_16 (fun x_2 e_3 le_3 ue_3 => ?_)
    have te_3 := congrArg Int32.toInt e_3
    refine lv_isub hx hb dX11_days_19 ?_
    refine lv_topi (fun x_4 e_5 => ?_)
    have te_5 : x_4.toInt = (4000 : Int32).toInt - (x_2 : Int32).toInt := by rw [e_5]; exact fb_subI (by omega) (by omega)
    refine b_icmp_le (tgt := 30) hx hb dX11_days_20 (by decide) (fun c_6 => ?_) (fun c_6 => ?_)
    ·
      refine lv_aload_n hx hb dX11_days_30 rfl (lv_at hl 0 rfl) ?_
      refine lv_dup hx hb dX11_days_31 rfl ?_
      refine g_49_9 C hU hG (h1_49 hG) fl_X11_73 dX11_days_32 (fun x_7 e_8 le_8 ue_8 => ?_)
      have te_8 := congrArg Int32.toInt e_8
      refine lv_iload_n hx hb dX11_days_35 rfl (lv_at hl 1 rfl) ?_
      refine lv_iadd hx hb dX11_days_36 ?_
      refine lv_topi (fun x_9 e_10 => ?_)
      have te_10 : x_9.toInt = (x_7 : Int32).toInt + (n : Int32).toInt := by rw [e_10]; exact fb_addI (by omega) (by omega)
      refine p_49_9 C hU hS (h1_49 hG) fl_X11_73 dX11_days_37 (fun iv_11 H locs ei_12 hU hS => ?_)
      have hG : GI al iv_11 rv := by rw [ei_12]; exact hG.puti (show _ ∧ _ from ⟨show (0 : Int) ≤ _ by omega, show _ ≤ (4000 : Int) by omega⟩) (nsF (by decide))
      have hF1 : FR ([51], [(49, 9)]) iv iv_11 := by rw [ei_12]; exact hF1.put (by decide)
      refine lv_aload_n hx hb dX11_days_40 rfl (lv_at hl 0 rfl) ?_
      refine g_49_9 C hU hG (h1_49 hG) fl_X11_73 dX11_days_41 (fun x_13 e_14 le_14 ue_14 => ?_)
      have te_14 := congrArg Int32.toInt e_14
      exact hret (⟨hG, hF1, hF2, by show _ = _; rw [ei_12, up3_self]; unfold dayF; split <;> omega⟩) hU hS dX11_days_44
    ·
      refine lv_aload_n hx hb dX11_days_23 rfl (lv_at hl 0 rfl) ?_
      refine lv_bipush (v := (-6)) hx hb dX11_days_24 (by decide) ?_
      refine q_fi (q_runV (t := 49) (i := 0) (As := [.int (-6)]) (rest := []) C hU (c_X11_refuse hG (-6) (by omega)) vm_X11_refuse ml_X11_77 k_49.1 (hc := rfl) rfl (h1_49 hG) hl.1 rfl rfl (Nat.le_of_ble_eq_true rfl) dX11_days_26 rfl rfl ⟨Nat.le_of_ble_eq_true rfl, Nat.le_of_ble_eq_true rfl⟩ ⟨Nat.le_refl _, Nat.le_refl _⟩) hS (fun x_20 iv_16 rv_17 H locs hG fa_18 fb_19 hp_15 hU hS => ?_)
      have hF1 := hF1.tr (m := ([51], [(49, 9)])) fa_18 (by decide)
      have hF2 := hF2.tr (m := ([51], [(49, 9)])) fb_19 (by decide)
      exact hret (⟨hG, hF1, hF2, by show _ = _; rw [fa_18 49 0 9 (by decide)]; unfold dayF; split <;> omega⟩) hU hS dX11_days_29
  ·
    refine lv_aload_n hx hb dX11_days_4 rfl (lv_at hl 0 rfl) ?_
    refine lv_bipush (v := (-4)) hx hb dX11_days_5 (by decide) ?_
    refine q_fi (q_runV (t := 49) (i := 0) (As := [.int (-4)]) (rest := []) C hU (c_X11_refuse hG (-4) (by omega)) vm_X11_refuse ml_X11_77 k_49.1 (hc := rfl) rfl (h1_49 hG) hl.1 rfl rfl (Nat.le_of_ble_eq_true rfl) dX11_days_7 rfl rfl ⟨Nat.le_of_ble_eq_true rfl, Nat.le_of_ble_eq_true rfl⟩ ⟨Nat.le_refl _, Nat.le_refl _⟩) hS (fun x_26 iv_22 rv_23 H locs hG fa_24 fb_25 hp_21 hU hS => ?_)
    have hF1 := hF1.tr (m := ([51], [(49, 9)])) fa_24 (by decide)
    have hF2 := hF2.tr (m := ([51], [(49, 9)])) fb_25 (by decide)
    exact hret (⟨hG, hF1, hF2, by show _ = _; rw [fa_24 49 0 9 (by decide)]; unfold dayF; split <;> omega⟩) hU hS dX11_days_10
set_option maxHeartbeats 4000000 in
set_option maxRecDepth 100000 in
theorem c_X12_land_x {l : Launch} {D : va_G} {cA : FieldType → ClassId} {sz : Nat} {al : Al} {iv : Iv} {rv : Rv} (hG : GI al iv rv) (a : Int32) (v : Int32) : Met l yX12_land (wd yX12_land cX12_land 4 (some .int)) (rm 2) (PcW D cA sz al iv rv [.ref (al.2 0 0), .int a, .int v]) (QI D cA sz al (fI al ([16, 1], []) iv rv (fun r iv' rv' => (((0 ≤ a.toInt ∧ a.toInt ≤ 9) ∧ (0 ≤ v.toInt ∧ v.toInt ≤ 3)) ∧ r = iv 1 0 a.toNatClampNeg ∧ ∀ k, iv' 1 0 k = if k = a.toNatClampNeg then v else iv 1 0 k) ∨ ((¬ ((0 ≤ a.toInt ∧ a.toInt ≤ 9) ∧ (0 ≤ v.toInt ∧ v.toInt ≤ 3))) ∧ r = -1 ∧ ∀ k, iv' 1 0 k = iv 1 0 k)))) 0 0 (Aq sz) := by
  refine mk_i (by decide) (Nat.le_of_ble_eq_true rfl) rfl ?_
  intro p e s m args below meth c ls Q H locs C hU hS hl hret
  have hx := C.1.1
  have hb := C.1.2.1
  have hl : lv_has ls 4 [(0, .ref (al.2 0 0)), (1, .int a), (2, .int v)] := hl
  have hG0 := hG
  have h6 := le6 hG
  have h20 := le20 hG
  have h41 := le41 hG
  have hF1 : FR ([16, 1], []) iv iv := FR.rf
  have hF2 : FR ([16, 1], []) rv rv := FR.rf
  have km1 : ((-1) : Int32).toInt = -1 := by decide
  have k0 : (0 : Int32).toInt = 0 := by decide
  have k3 : (3 : Int32).toInt = 3 := by decide
  refine lv_iload_n hx hb dX12_land_0 rfl (lv_at hl 1 rfl) ?_
  refine q_pi (q_runS (As := [.int a]) (rest := []) C hU (c_X12_isPort  a ) sm_X12_isPort ml_X12_171 hl.1 rfl rfl (Nat.le_of_ble_eq_true rfl) dX12_land_1 rfl rfl ⟨Nat.le_of_ble_eq_true rfl, Nat.le_of_ble_eq_true rfl⟩ ⟨Nat.le_refl _, Nat.le_refl _⟩) hS (fun x_2 H locs hp_1 hU hS => ?_)
  refine b_if_eq (tgt := 16) hx hb dX12_land_4 (by decide) (fun c_3 => ?_) (fun c_3 => ?_)
  ·
    refine lv_aload_n hx hb dX12_land_16 rfl (lv_at hl 0 rfl) ?_
    refine lv_iconst (v := (-1)) hx hb dX12_land_17 (by decide) ?_
    refine q_fi (q_runV (t := 0) (i := 0) (As := [.int (-1)]) (rest := []) C hU (c_X12_refuse hG (-1) (by omega)) vm_X12_refuse ml_X12_164 k_0.1 (hc := rfl) rfl (h1_0 hG) hl.1 rfl rfl (Nat.le_of_ble_eq_true rfl) dX12_land_18 rfl rfl ⟨Nat.le_of_ble_eq_true rfl, Nat.le_of_ble_eq_true rfl⟩ ⟨Nat.le_refl _, Nat.le_refl _⟩) hS (fun x_9 iv_5 rv_6 H locs hG fa_7 fb_8 hp_4 hU hS => ?_)
    have hF1 := hF1.tr (m := ([16, 1], [])) fa_7 (by decide)
    have hF2 := hF2.tr (m := ([16, 1], [])) fb_8 (by decide)
    exact hret (⟨hG, hF1, hF2, Or.inr ⟨by omega, hp_4, fun k => fa_7.arr 1 0 k (by decide)⟩⟩) hU hS dX12_land_21
  ·
    refine lv_iload_n hx hb dX12_land_7 rfl (lv_at hl 2 rfl) ?_
    refine lv_iconst (v := 0) hx hb dX12_land_8 (by decide) ?_
    refine lv_iconst (v := 3) hx hb dX12_land_9 (by decide) ?_
    refine q_pi (q_runS (As := [.int v, .int 0, .int 3]) (rest := []) C hU (c_X12_in  v 0 3 ) sm_X12_in ml_X12_156 hl.1 rfl rfl (Nat.le_of_ble_eq_true rfl) dX12_land_10 rfl rfl ⟨Nat.le_of_ble_eq_true rfl, Nat.le_of_ble_eq_true rfl⟩ ⟨Nat.le_refl _, Nat.le_refl _⟩) hS (fun x_11 H locs hp_10 hU hS => ?_)
    refine b_if_ne (tgt := 22) hx hb dX12_land_13 (by decide) (fun c_12 => ?_) (fun c_12 => ?_)
    ·
      refine lv_aload_n hx hb dX12_land_22 rfl (lv_at hl 0 rfl) ?_
      refine g_0_1 C hU hG (h1_0 hG) fl_X12_7 dX12_land_23 ?_
      refine lv_iload_n hx hb dX12_land_26 rfl (lv_at hl 1 rfl) ?_
      refine a_1 C hU hG (h1_1 hG) (x := a) (by omega) (by omega) dX12_land_27 (fun x_13 e_14 le_14 ue_14 => ?_)
      have te_14 := congrArg Int32.toInt e_14
      refine lv_istore_n (lv' := [(3, .int x_13), (0, .ref (al.2 0 0)), (1, .int a), (2, .int v)]) hx hb dX12_land_28 rfl hl (by decide) rfl (fun ls hl => ?_)
      refine lv_aload_n hx hb dX12_land_29 rfl (lv_at hl 1 rfl) ?_
      refine g_0_1 C hU hG (h1_0 hG) fl_X12_7 dX12_land_30 ?_
      refine lv_iload_n hx hb dX12_land_33 rfl (lv_at hl 2 rfl) ?_
      refine lv_iload_n hx hb dX12_land_34 rfl (lv_at hl 3 rfl) ?_
      refine s_1 C hU hS (h1_1 hG) (x := a) (by omega) (by omega) dX12_land_35 (fun iv_15 H locs ei_16 hU hS => ?_)
      have hG : GI al iv_15 rv := by rw [ei_16]; exact hG.puti (show _ ∧ _ from ⟨show (0 : Int) ≤ _ by omega, show _ ≤ (3 : Int) by omega⟩) (nsA (by decide) _)
      have hF1 : FR ([16, 1], []) iv iv_15 := by rw [ei_16]; exact hF1.put (Or.inl (by decide))
      refine lv_iload_n hx hb dX12_land_36 rfl (lv_at hl 0 rfl) ?_
      exact hret (⟨hG, hF1, hF2, Or.inl ⟨by omega, e_14, fun k => by rw [ei_16]; simp [up3]⟩⟩) hU hS dX12_land_37
    ·
      refine lv_aload_n hx hb dX12_land_16 rfl (lv_at hl 0 rfl) ?_
      refine lv_iconst (v := (-1)) hx hb dX12_land_17 (by decide) ?_
      refine q_fi (q_runV (t := 0) (i := 0) (As := [.int (-1)]) (rest := []) C hU (c_X12_refuse hG (-1) (by omega)) vm_X12_refuse ml_X12_164 k_0.1 (hc := rfl) rfl (h1_0 hG) hl.1 rfl rfl (Nat.le_of_ble_eq_true rfl) dX12_land_18 rfl rfl ⟨Nat.le_of_ble_eq_true rfl, Nat.le_of_ble_eq_true rfl⟩ ⟨Nat.le_refl _, Nat.le_refl _⟩) hS (fun x_22 iv_18 rv_19 H locs hG fa_20 fb_21 hp_17 hU hS => ?_)
      have hF1 := hF1.tr (m := ([16, 1], [])) fa_20 (by decide)
      have hF2 := hF2.tr (m := ([16, 1], [])) fb_21 (by decide)
      exact hret (⟨hG, hF1, hF2, Or.inr ⟨by omega, hp_17, fun k => fa_20.arr 1 0 k (by decide)⟩⟩) hU hS dX12_land_21
set_option maxHeartbeats 4000000 in
set_option maxRecDepth 100000 in
theorem c_X11_land_x {l : Launch} {D : va_G} {cA : FieldType → ClassId} {sz : Nat} {al : Al} {iv : Iv} {rv : Rv} (hG : GI al iv rv) (a : Int32) (v : Int32) : Met l yX11_land (wd yX11_land cX11_land 5 (some .int)) (rm 2) (PcW D cA sz al iv rv [.ref (al.2 49 0), .int a, .int v]) (QI D cA sz al (fI al ([51], [(56, 1)]) iv rv (fun r iv' rv' => (((0 ≤ a.toInt ∧ a.toInt ≤ 9) ∧ (0 ≤ v.toInt ∧ v.toInt ≤ 3)) ∧ r = iv 56 a.toNatClampNeg 1 ∧ ∀ k, iv' 56 k 1 = if k = a.toNatClampNeg then v else iv 56 k 1) ∨ ((¬ ((0 ≤ a.toInt ∧ a.toInt ≤ 9) ∧ (0 ≤ v.toInt ∧ v.toInt ≤ 3))) ∧ r = -1 ∧ ∀ k, iv' 56 k 1 = iv 56 k 1)))) 0 0 (Aq sz) := by
  refine mk_i (by decide) (Nat.le_of_ble_eq_true rfl) rfl ?_
  intro p e s m args below meth c ls Q H locs C hU hS hl hret
  have hx := C.1.1
  have hb := C.1.2.1
  have hl : lv_has ls 5 [(0, .ref (al.2 49 0)), (1, .int a), (2, .int v)] := hl
  have hG0 := hG
  have hF1 : FR ([51], [(56, 1)]) iv iv := FR.rf
  have hF2 : FR ([51], [(56, 1)]) rv rv := FR.rf
  have km1 : ((-1) : Int32).toInt = -1 := by decide
  have k4 : (4 : Int32).toInt = 4 := by decide
  refine lv_aload_n hx hb dX11_land_0 rfl (lv_at hl 0 rfl) ?_
  refine g_49_0 C hU hG (h1_49 hG) fl_X11_10 dX11_land_1 ?_
  refine lv_iload_n hx hb dX11_land_4 rfl (lv_at hl 1 rfl) ?_
  refine q_pr (q_runV (t := 52) (i := 0) (As := [.int a]) (rest := []) C hU (c_X7_find hG a ) vm_X7_find ml_X11_81 k_52.1 (hc := rfl) rfl (h1_52 hG) hl.1 rfl rfl (Nat.le_of_ble_eq_true rfl) dX11_land_5 rfl rfl ⟨Nat.le_of_ble_eq_true rfl, Nat.le_of_ble_eq_true rfl⟩ ⟨Nat.le_refl _, Nat.le_refl _⟩) hS (fun r_2 H locs hp_1 hU hS => ?_)
  have hb_3 := hp_1.1
  refine b_astore_n (lv' := [(3, rfv al 56 r_2), (0, .ref (al.2 49 0)), (1, .int a), (2, .int v)]) hx hb dX11_land_8 rfl hl (by decide) rfl (fun ls hl => ?_)
  refine b_aload_n (al := al) (t' := 56) (r := r_2) hx hb dX11_land_9 rfl (lv_at hl 0 rfl) ?_
  refine b_ifnull (tgt := 21) hx hb dX11_land_10 (by decide) (fun ej_6 => ?_) (fun j_5 ej_6 => ?_)
  ·
    subst ej_6
    have hl : lv_has ls 5 [(3, rfv al 56 none), (0, .ref (al.2 49 0)), (1, .int a), (2, .int v)] := hl
    have hq := hp_1.2.2 rfl
    refine lv_aload_n hx hb dX11_land_21 rfl (lv_at hl 1 rfl) ?_
    refine lv_iconst (v := (-1)) hx hb dX11_land_22 (by decide) ?_
    refine q_fi (q_runV (t := 49) (i := 0) (As := [.int (-1)]) (rest := []) C hU (c_X11_refuse hG (-1) (by omega)) vm_X11_refuse ml_X11_77 k_49.1 (hc := rfl) rfl (h1_49 hG) hl.1 rfl rfl (Nat.le_of_ble_eq_true rfl) dX11_land_23 rfl rfl ⟨Nat.le_of_ble_eq_true rfl, Nat.le_of_ble_eq_true rfl⟩ ⟨Nat.le_refl _, Nat.le_refl _⟩) hS (fun x_12 iv_8 rv_9 H locs hG fa_10 fb_11 hp_7 hU hS => ?_)
    have hF1 := hF1.tr (m := ([51], [(56, 1)])) fa_10 (by decide)
    have hF2 := hF2.tr (m := ([51], [(56, 1)])) fb_11 (by decide)
    exact hret (⟨hG, hF1, hF2, Or.inr ⟨by omega, hp_7, fun k => fa_10 56 k 1 (by decide)⟩⟩) hU hS dX11_land_26
  ·
    subst ej_6
    have hl : lv_has ls 5 [(3, .ref (al.2 56 j_5)), (0, .ref (al.2 49 0)), (1, .int a), (2, .int v)] := hl
    have hb_13 : j_5 < al.1 56 := hb_3 j_5 rfl
    have hq := hp_1.2.1 _ rfl
    refine lv_iconst (v := 4) hx hb dX11_land_13 (by decide) ?_
    refine lv_iload_n hx hb dX11_land_14 rfl (lv_at hl 3 rfl) ?_
    refine q_pi (q_runS (As := [.int 4, .int v]) (rest := []) C hU (c_X11_isOneOf  4 v ) sm_X11_isOneOf ml_X11_85 hl.1 rfl rfl (Nat.le_of_ble_eq_true rfl) dX11_land_15 rfl rfl ⟨Nat.le_of_ble_eq_true rfl, Nat.le_of_ble_eq_true rfl⟩ ⟨Nat.le_refl _, Nat.le_refl _⟩) hS (fun x_15 H locs hp_14 hU hS => ?_)
    refine b_if_ne (tgt := 27) hx hb dX11_land_18 (by decide) (fun c_16 => ?_) (fun c_16 => ?_)
    ·
      refine lv_aload_n hx hb dX11_land_27 rfl (lv_at hl 0 rfl) ?_
      refine g_56_1 C hU hG hb_13 fl_X11_89 dX11_land_28 (fun x_17 e_18 le_18 ue_18 => ?_)
      have te_18 := congrArg Int32.toInt e_18
      refine lv_istore (lv' := [(4, .int x_17), (3, .ref (al.2 56 j_5)), (0, .ref (al.2 49 0)), (1, .int a), (2, .int v)]) hx hb dX11_land_31 hl (by decide) rfl (fun ls hl => ?_)
      refine lv_aload_n hx hb dX11_land_33 rfl (lv_at hl 1 rfl) ?_
      refine lv_iload_n hx hb dX11_land_34 rfl (lv_at hl 4 rfl) ?_
      refine p_56_1 C hU hS hb_13 fl_X11_89 dX11_land_35 (fun iv_19 H locs ei_20 hU hS => ?_)
      have hG : GI al iv_19 rv := by rw [ei_20]; exact hG.puti (show _ ∧ _ from ⟨show (0 : Int) ≤ _ by omega, show _ ≤ (3 : Int) by omega⟩) (nsF (by decide))
      have hF1 : FR ([51], [(56, 1)]) iv iv_19 := by rw [ei_20]; exact hF1.put (by decide)
      refine lv_iload hx hb dX11_land_38 (lv_at hl 0 rfl) ?_
      exact hret (⟨hG, hF1, hF2, Or.inl ⟨by omega, by rw [e_18, hq.1], fun k => by rw [ei_20, hq.1]; simp [up3]⟩⟩) hU hS dX11_land_40
    ·
      refine lv_aload_n hx hb dX11_land_21 rfl (lv_at hl 1 rfl) ?_
      refine lv_iconst (v := (-1)) hx hb dX11_land_22 (by decide) ?_
      refine q_fi (q_runV (t := 49) (i := 0) (As := [.int (-1)]) (rest := []) C hU (c_X11_refuse hG (-1) (by omega)) vm_X11_refuse ml_X11_77 k_49.1 (hc := rfl) rfl (h1_49 hG) hl.1 rfl rfl (Nat.le_of_ble_eq_true rfl) dX11_land_23 rfl rfl ⟨Nat.le_of_ble_eq_true rfl, Nat.le_of_ble_eq_true rfl⟩ ⟨Nat.le_refl _, Nat.le_refl _⟩) hS (fun x_26 iv_22 rv_23 H locs hG fa_24 fb_25 hp_21 hU hS => ?_)
      have hF1 := hF1.tr (m := ([51], [(56, 1)])) fa_24 (by decide)
      have hF2 := hF2.tr (m := ([51], [(56, 1)])) fb_25 (by decide)
      exact hret (⟨hG, hF1, hF2, Or.inr ⟨by omega, hp_21, fun k => fa_24 56 k 1 (by decide)⟩⟩) hU hS dX11_land_26
set_option maxHeartbeats 4000000 in
set_option maxRecDepth 100000 in
theorem c_X12_miles_x {l : Launch} {D : va_G} {cA : FieldType → ClassId} {sz : Nat} {al : Al} {iv : Iv} {rv : Rv} (hG : GI al iv rv) (a : Int32) (b : Int32) (v : Int32) : Met l yX12_miles (wd yX12_miles cX12_miles 5 (some .int)) (rm 2) (PcW D cA sz al iv rv [.ref (al.2 0 0), .int a, .int b, .int v]) (QI D cA sz al (fI al ([16, 2], []) iv rv (fun r iv' rv' => (spMiles a b v = 0 ∧ r = iv 2 0 (10 * a.toNatClampNeg + b.toNatClampNeg) ∧ ∀ k, iv' 2 0 k = if k = 10 * a.toNatClampNeg + b.toNatClampNeg ∨ k = 10 * b.toNatClampNeg + a.toNatClampNeg then v else iv 2 0 k) ∨ (spMiles a b v ≠ 0 ∧ r = spMiles a b v ∧ ∀ k, iv' 2 0 k = iv 2 0 k)))) 0 0 (Aq sz) := by
  refine mk_i (by decide) (Nat.le_of_ble_eq_true rfl) rfl ?_
  intro p e s m args below meth c ls Q H locs C hU hS hl hret
  have hx := C.1.1
  have hb := C.1.2.1
  have hl : lv_has ls 5 [(0, .ref (al.2 0 0)), (1, .int a), (2, .int b), (3, .int v)] := hl
  have hG0 := hG
  have h6 := le6 hG
  have h20 := le20 hG
  have h41 := le41 hG
  have hF1 : FR ([16, 2], []) iv iv := FR.rf
  have hF2 : FR ([16, 2], []) rv rv := FR.rf
  have km6 : ((-6) : Int32).toInt = -6 := by decide
  have km4 : ((-4) : Int32).toInt = -4 := by decide
  have km1 : ((-1) : Int32).toInt = -1 := by decide
  have k10 : (10 : Int32).toInt = 10 := by decide
  have k9999 : (9999 : Int32).toInt = 9999 := by decide
  refine lv_iload_n hx hb dX12_miles_0 rfl (lv_at hl 1 rfl) ?_
  refine q_pi (q_runS (As := [.int a]) (rest := []) C hU (c_X12_isPort  a ) sm_X12_isPort ml_X12_171 hl.1 rfl rfl (Nat.le_of_ble_eq_true rfl) dX12_miles_1 rfl rfl ⟨Nat.le_of_ble_eq_true rfl, Nat.le_of_ble_eq_true rfl⟩ ⟨Nat.le_refl _, Nat.le_refl _⟩) hS (fun x_2 H locs hp_1 hU hS => ?_)
  refine b_if_eq (tgt := 19) hx hb dX12_miles_4 (by decide) (fun c_3 => ?_) (fun c_3 => ?_)
  ·
    refine lv_aload_n hx hb dX12_miles_19 rfl (lv_at hl 0 rfl) ?_
    refine lv_iconst (v := (-1)) hx hb dX12_miles_20 (by decide) ?_
    refine q_fi (q_runV (t := 0) (i := 0) (As := [.int (-1)]) (rest := []) C hU (c_X12_refuse hG (-1) (by omega)) vm_X12_refuse ml_X12_164 k_0.1 (hc := rfl) rfl (h1_0 hG) hl.1 rfl rfl (Nat.le_of_ble_eq_true rfl) dX12_miles_21 rfl rfl ⟨Nat.le_of_ble_eq_true rfl, Nat.le_of_ble_eq_true rfl⟩ ⟨Nat.le_refl _, Nat.le_refl _⟩) hS (fun x_9 iv_5 rv_6 H locs hG fa_7 fb_8 hp_4 hU hS => ?_)
    have hF1 := hF1.tr (m := ([16, 2], [])) fa_7 (by decide)
    have hF2 := hF2.tr (m := ([16, 2], [])) fb_8 (by decide)
    exact hret (⟨hG, hF1, hF2, sp_no (z := (-1)) (by unfold spMiles; (repeat' split) <;> first | rfl | omega) (by decide) hp_4 (fun k => fa_7.arr 2 0 k (by decide))⟩) hU hS dX12_miles_24
  ·
    refine lv_iload_n hx hb dX12_miles_7 rfl (lv_at hl 2 rfl) ?_
    refine q_pi (q_runS (As := [.int b]) (rest := []) C hU (c_X12_isPort  b ) sm_X12_isPort ml_X12_171 hl.1 rfl rfl (Nat.le_of_ble_eq_true rfl) dX12_miles_8 rfl rfl ⟨Nat.le_of_ble_eq_true rfl, Nat.le_of_ble_eq_true rfl⟩ ⟨Nat.le_refl _, Nat.le_refl _⟩) hS (fun x_11 H locs hp_10 hU hS => ?_)
    refine b_if_eq (tgt := 19) hx hb dX12_miles_11 (by decide) (fun c_12 => ?_) (fun c_12 => ?_)
    ·
      refine lv_aload_n hx hb dX12_miles_19 rfl (lv_at hl 0 rfl) ?_
      refine lv_iconst (v := (-1)) hx hb dX12_miles_20 (by decide) ?_
      refine q_fi (q_runV (t := 0) (i := 0) (As := [.int (-1)]) (rest := []) C hU (c_X12_refuse hG (-1) (by omega)) vm_X12_refuse ml_X12_164 k_0.1 (hc := rfl) rfl (h1_0 hG) hl.1 rfl rfl (Nat.le_of_ble_eq_true rfl) dX12_miles_21 rfl rfl ⟨Nat.le_of_ble_eq_true rfl, Nat.le_of_ble_eq_true rfl⟩ ⟨Nat.le_refl _, Nat.le_refl _⟩) hS (fun x_18 iv_14 rv_15 H locs hG fa_16 fb_17 hp_13 hU hS => ?_)
      have hF1 := hF1.tr (m := ([16, 2], [])) fa_16 (by decide)
      have hF2 := hF2.tr (m := ([16, 2], [])) fb_17 (by decide)
      exact hret (⟨hG, hF1, hF2, sp_no (z := (-1)) (by unfold spMiles; (repeat' split) <;> first | rfl | omega) (by decide) hp_13 (fun k => fa_16.arr 2 0 k (by decide))⟩) hU hS dX12_miles_24
    ·
      refine lv_iload_n hx hb dX12_miles_14 rfl (lv_at hl 1 rfl) ?_
      refine lv_iload_n hx hb dX12_miles_15 rfl (lv_at hl 2 rfl) ?_
      refine b_icmp_ne (tgt := 25) hx hb dX12_miles_16 (by decide) (fun c_19 => ?_) (fun c_19 => ?_)
      ·
        refine lv_iload_n hx hb dX12_miles_25 rfl (lv_at hl 3 rfl) ?_
        refine b_if_ge (tgt := 36) hx hb dX12_miles_26 (by decide) (fun c_20 => ?_) (fun c_20 => ?_)
        ·
          refine lv_iload_n hx hb dX12_miles_36 rfl (lv_at hl 3 rfl) ?_
          refine lv_sipush (v := 9999) hx hb dX12_miles_37 (by decide) ?_
          refine b_icmp_le (tgt := 50) hx hb dX12_miles_40 (by decide) (fun c_21 => ?_) (fun c_21 => ?_)
          ·
            refine lv_aload_n hx hb dX12_miles_50 rfl (lv_at hl 0 rfl) ?_
            refine g_0_2 C hU hG (h1_0 hG) fl_X12_13 dX12_miles_51 ?_
            refine lv_bipush (v := 10) hx hb dX12_miles_54 (by decide) ?_
            refine lv_iload_n hx hb dX12_miles_56 rfl (lv_at hl 1 rfl) ?_
            refine lv_imul hx hb dX12_miles_57 ?_
            refine lv_topi (fun x_22 e_23 => ?_)
            have te_23 : x_22.toInt = 10 * (a : Int32).toInt := by rw [e_23, fb_mulI (by rw [show (10 : Int32).toInt = 10 from by decide]; omega) (by rw [show (10 : Int32).toInt = 10 from by decide]; omega), show (10 : Int32).toInt = 10 from by decide]
            refine lv_iload_n hx hb dX12_miles_58 rfl (lv_at hl 2 rfl) ?_
            refine lv_iadd hx hb dX12_miles_59 ?_
            refine lv_topi (fun x_24 e_25 => ?_)
            have te_25 : x_24.toInt = (x_22 : Int32).toInt + (b : Int32).toInt := by rw [e_25]; exact fb_addI (by omega) (by omega)
            refine a_2 C hU hG (h1_2 hG) (x := x_24) (by omega) (by omega) dX12_miles_60 (fun x_26 e_27 => ?_)
            have te_27 := congrArg Int32.toInt e_27
            refine lv_istore (lv' := [(4, .int x_26), (0, .ref (al.2 0 0)), (1, .int a), (2, .int b), (3, .int v)]) hx hb dX12_miles_61 hl (by decide) rfl (fun ls hl => ?_)
            refine lv_aload_n hx hb dX12_miles_63 rfl (lv_at hl 1 rfl) ?_
            refine g_0_2 C hU hG (h1_0 hG) fl_X12_13 dX12_miles_64 ?_
            refine lv_bipush (v := 10) hx hb dX12_miles_67 (by decide) ?_
            refine lv_iload_n hx hb dX12_miles_69 rfl (lv_at hl 2 rfl) ?_
            refine lv_imul hx hb dX12_miles_70 ?_
            refine lv_topi (fun x_28 e_29 => ?_)
            have te_29 : x_28.toInt = 10 * (a : Int32).toInt := by rw [e_29, fb_mulI (by rw [show (10 : Int32).toInt = 10 from by decide]; omega) (by rw [show (10 : Int32).toInt = 10 from by decide]; omega), show (10 : Int32).toInt = 10 from by decide]
            refine lv_iload_n hx hb dX12_miles_71 rfl (lv_at hl 3 rfl) ?_
            refine lv_iadd hx hb dX12_miles_72 ?_
            refine lv_topi (fun x_30 e_31 => ?_)
            have te_31 : x_30.toInt = (x_28 : Int32).toInt + (b : Int32).toInt := by rw [e_31]; exact fb_addI (by omega) (by omega)
            refine lv_iload_n hx hb dX12_miles_73 rfl (lv_at hl 4 rfl) ?_
            refine s_2 C hU hS (h1_2 hG) (x := x_30) (by omega) (by omega) dX12_miles_74 (fun iv_32 H locs ei_33 hU hS => ?_)
            have hG : GI al iv_32 rv := by rw [ei_33]; exact hG.puti (show _ ∧ _ from ⟨(fb_rng _).1, Int.le_of_lt_add_one (fb_rng _).2⟩) (nsA (by decide) _)
            have hF1 : FR ([16, 2], []) iv iv_32 := by rw [ei_33]; exact hF1.put (Or.inl (by decide))
            refine lv_aload_n hx hb dX12_miles_75 rfl (lv_at hl 1 rfl) ?_
            refine g_0_2 C hU hG (h1_0 hG) fl_X12_13 dX12_miles_76 ?_
            refine lv_bipush (v := 10) hx hb dX12_miles_79 (by decide) ?_
            refine lv_iload_n hx hb dX12_miles_81 rfl (lv_at hl 3 rfl) ?_
            refine lv_imul hx hb dX12_miles_82 ?_
            refine lv_topi (fun x_34 e_35 => ?_)
            have te_35 : x_34.toInt = 10 * (b : Int32).toInt := by rw [e_35, fb_mulI (by rw [show (10 : Int32).toInt = 10 from by decide]; omega) (by rw [show (10 : Int32).toInt = 10 from by decide]; omega), show (10 : Int32).toInt = 10 from by decide]
            refine lv_iload_n hx hb dX12_miles_83 rfl (lv_at hl 2 rfl) ?_
            refine lv_iadd hx hb dX12_miles_84 ?_
            refine lv_topi (fun x_36 e_37 => ?_)
            have te_37 : x_36.toInt = (x_34 : Int32).toInt + (a : Int32).toInt := by rw [e_37]; exact fb_addI (by omega) (by omega)
            refine lv_iload_n hx hb dX12_miles_85 rfl (lv_at hl 4 rfl) ?_
            refine s_2 C hU hS (h1_2 hG) (x := x_36) (by omega) (by omega) dX12_miles_86 (fun iv_38 H locs ei_39 hU hS => ?_)
            have hG : GI al iv_38 rv := by rw [ei_39]; exact hG.puti (show _ ∧ _ from ⟨(fb_rng _).1, Int.le_of_lt_add_one (fb_rng _).2⟩) (nsA (by decide) _)
            have hF1 : FR ([16, 2], []) iv iv_38 := by rw [ei_39]; exact hF1.put (Or.inl (by decide))
            refine lv_iload hx hb dX12_miles_87 (lv_at hl 0 rfl) ?_
            exact hret (⟨hG, hF1, hF2, Or.inl ⟨(by unfold spMiles; (repeat' split) <;> first | rfl | omega), by rw [e_27, show (x_24 : Int32).toNatClampNeg = 10 * a.toNatClampNeg + b.toNatClampNeg from by simp only [clamp_n]; omega], fun k => by rw [ei_39, ei_33, show (x_30 : Int32).toNatClampNeg = 10 * a.toNatClampNeg + b.toNatClampNeg from by simp only [clamp_n]; omega, show (x_36 : Int32).toNatClampNeg = 10 * b.toNatClampNeg + a.toNatClampNeg from by simp only [clamp_n]; omega]; exact up2_if⟩⟩) hU hS dX12_miles_89
          ·
            refine lv_aload_n hx hb dX12_miles_43 rfl (lv_at hl 0 rfl) ?_
            refine lv_bipush (v := (-6)) hx hb dX12_miles_44 (by decide) ?_
            refine q_fi (q_runV (t := 0) (i := 0) (As := [.int (-6)]) (rest := []) C hU (c_X12_refuse hG (-6) (by omega)) vm_X12_refuse ml_X12_164 k_0.1 (hc := rfl) rfl (h1_0 hG) hl.1 rfl rfl (Nat.le_of_ble_eq_true rfl) dX12_miles_46 rfl rfl ⟨Nat.le_of_ble_eq_true rfl, Nat.le_of_ble_eq_true rfl⟩ ⟨Nat.le_refl _, Nat.le_refl _⟩) hS (fun x_45 iv_41 rv_42 H locs hG fa_43 fb_44 hp_40 hU hS => ?_)
            have hF1 := hF1.tr (m := ([16, 2], [])) fa_43 (by decide)
            have hF2 := hF2.tr (m := ([16, 2], [])) fb_44 (by decide)
            exact hret (⟨hG, hF1, hF2, sp_no (z := (-6)) (by unfold spMiles; (repeat' split) <;> first | rfl | omega) (by decide) hp_40 (fun k => fa_43.arr 2 0 k (by decide))⟩) hU hS dX12_miles_49
        ·
          refine lv_aload_n hx hb dX12_miles_29 rfl (lv_at hl 0 rfl) ?_
          refine lv_bipush (v := (-4)) hx hb dX12_miles_30 (by decide) ?_
          refine q_fi (q_runV (t := 0) (i := 0) (As := [.int (-4)]) (rest := []) C hU (c_X12_refuse hG (-4) (by omega)) vm_X12_refuse ml_X12_164 k_0.1 (hc := rfl) rfl (h1_0 hG) hl.1 rfl rfl (Nat.le_of_ble_eq_true rfl) dX12_miles_32 rfl rfl ⟨Nat.le_of_ble_eq_true rfl, Nat.le_of_ble_eq_true rfl⟩ ⟨Nat.le_refl _, Nat.le_refl _⟩) hS (fun x_51 iv_47 rv_48 H locs hG fa_49 fb_50 hp_46 hU hS => ?_)
          have hF1 := hF1.tr (m := ([16, 2], [])) fa_49 (by decide)
          have hF2 := hF2.tr (m := ([16, 2], [])) fb_50 (by decide)
          exact hret (⟨hG, hF1, hF2, sp_no (z := (-4)) (by unfold spMiles; (repeat' split) <;> first | rfl | omega) (by decide) hp_46 (fun k => fa_49.arr 2 0 k (by decide))⟩) hU hS dX12_miles_35
      ·
        refine lv_aload_n hx hb dX12_miles_19 rfl (lv_at hl 0 rfl) ?_
        refine lv_iconst (v := (-1)) hx hb dX12_miles_20 (by decide) ?_
        refine q_fi (q_runV (t := 0) (i := 0) (As := [.int (-1)]) (rest := []) C hU (c_X12_refuse hG (-1) (by omega)) vm_X12_refuse ml_X12_164 k_0.1 (hc := rfl) rfl (h1_0 hG) hl.1 rfl rfl (Nat.le_of_ble_eq_true rfl) dX12_miles_21 rfl rfl ⟨Nat.le_of_ble_eq_true rfl, Nat.le_of_ble_eq_true rfl⟩ ⟨Nat.le_refl _, Nat.le_refl _⟩) hS (fun x_57 iv_53 rv_54 H locs hG fa_55 fb_56 hp_52 hU hS => ?_)
        have hF1 := hF1.tr (m := ([16, 2], [])) fa_55 (by decide)
        have hF2 := hF2.tr (m := ([16, 2], [])) fb_56 (by decide)
        exact hret (⟨hG, hF1, hF2, sp_no (z := (-1)) (by unfold spMiles; (repeat' split) <;> first | rfl | omega) (by decide) hp_52 (fun k => fa_55.arr 2 0 k (by decide))⟩) hU hS dX12_miles_24
set_option maxHeartbeats 4000000 in
set_option maxRecDepth 100000 in
theorem c_X7_milesBetween_x {l : Launch} {D : va_G} {cA : FieldType → ClassId} {sz : Nat} {al : Al} {iv : Iv} {rv : Rv} (hG : GI al iv rv) (pi : Nat) (hpi : pi < al.1 56) (pj : Nat) (hpj : pj < al.1 56) : Met l yX7_milesBetween (wd yX7_milesBetween cX7_milesBetween 3 (some .int)) (rm 0) (PcW D cA sz al iv rv [.ref (al.2 52 0), .ref (al.2 56 pi), .ref (al.2 56 pj)]) (QI D cA sz al (pI iv rv (fun r => r = iv 55 pi pj))) 0 0 (Aq sz) := by
  refine mk_i (by decide) (Nat.le_of_ble_eq_true rfl) rfl ?_
  intro p e s m args below meth c ls Q H locs C hU hS hl hret
  have hx := C.1.1
  have hb := C.1.2.1
  have hl : lv_has ls 3 [(0, .ref (al.2 52 0)), (1, .ref (al.2 56 pi)), (2, .ref (al.2 56 pj))] := hl
  have hG0 := hG
  refine lv_aload_n hx hb dX7_milesBetween_0 rfl (lv_at hl 0 rfl) ?_
  refine g_52_1 C hU hG (h1_52 hG) fl_X7_20 dX7_milesBetween_1 ?_
  refine lv_aload_n hx hb dX7_milesBetween_4 rfl (lv_at hl 1 rfl) ?_
  refine g_56_0 C hU hG hpi fl_X7_29 dX7_milesBetween_5 (fun x_1 e_2 le_2 ue_2 => ?_)
  have te_2 := congrArg Int32.toInt e_2
  refine a_54 C hU hG (h1_54 hG) (x := x_1) (by omega) (by omega) dX7_milesBetween_8 (fun j_3 ej_4 hb_5 => ?_)
  refine lv_aload_n hx hb dX7_milesBetween_9 rfl (lv_at hl 2 rfl) ?_
  refine g_56_0 C hU hG hpj fl_X7_29 dX7_milesBetween_10 (fun x_6 e_7 le_7 ue_7 => ?_)
  have te_7 := congrArg Int32.toInt e_7
  refine a_55 C hU hG hb_5 (x := x_6) (by omega) (by omega) dX7_milesBetween_13 (fun x_8 e_9 => ?_)
  have te_9 := congrArg Int32.toInt e_9
  exact hret (⟨rfl, rfl, by rw [e_9, (mbw hG hpi hpj te_2 ej_4 te_7).1, (mbw hG hpi hpj te_2 ej_4 te_7).2]⟩) hU hS dX7_milesBetween_14
set_option maxHeartbeats 4000000 in
set_option maxRecDepth 100000 in
theorem c_X7_setMiles_x {l : Launch} {D : va_G} {cA : FieldType → ClassId} {sz : Nat} {al : Al} {iv : Iv} {rv : Rv} (hG : GI al iv rv) (pi : Nat) (hpi : pi < al.1 56) (pj : Nat) (hpj : pj < al.1 56) (v : Int32) : Met l yX7_setMiles (wd yX7_setMiles cX7_setMiles 4 none) (rm 0) (PcW D cA sz al iv rv [.ref (al.2 52 0), .ref (al.2 56 pi), .ref (al.2 56 pj), .int v]) (QV D cA sz al (fV al ([55], []) iv rv (fun iv' rv' => ∀ i k, iv' 55 i k = if (i = pi ∧ k = pj) ∨ (i = pj ∧ k = pi) then v else iv 55 i k))) 0 0 (Aq sz) := by
  refine mk_v (by decide) (Nat.le_of_ble_eq_true rfl) rfl ?_
  intro p e s m args below meth c ls Q H locs C hU hS hl hret
  have hx := C.1.1
  have hb := C.1.2.1
  have hl : lv_has ls 4 [(0, .ref (al.2 52 0)), (1, .ref (al.2 56 pi)), (2, .ref (al.2 56 pj)), (3, .int v)] := hl
  have hG0 := hG
  have hF1 : FR ([55], []) iv iv := FR.rf
  have hF2 : FR ([55], []) rv rv := FR.rf
  refine lv_aload_n hx hb dX7_setMiles_0 rfl (lv_at hl 0 rfl) ?_
  refine g_52_1 C hU hG (h1_52 hG) fl_X7_20 dX7_setMiles_1 ?_
  refine lv_aload_n hx hb dX7_setMiles_4 rfl (lv_at hl 1 rfl) ?_
  refine g_56_0 C hU hG hpi fl_X7_29 dX7_setMiles_5 (fun x_1 e_2 le_2 ue_2 => ?_)
  have te_2 := congrArg Int32.toInt e_2
  refine a_54 C hU hG (h1_54 hG) (x := x_1) (by omega) (by omega) dX7_setMiles_8 (fun j_3 ej_4 hb_5 => ?_)
  refine lv_aload_n hx hb dX7_setMiles_9 rfl (lv_at hl 2 rfl) ?_
  refine g_56_0 C hU hG hpj fl_X7_29 dX7_setMiles_10 (fun x_6 e_7 le_7 ue_7 => ?_)
  have te_7 := congrArg Int32.toInt e_7
  refine lv_iload_n hx hb dX7_setMiles_13 rfl (lv_at hl 3 rfl) ?_
  refine s_55 C hU hS hb_5 (x := x_6) (by omega) (by omega) dX7_setMiles_14 (fun iv_8 H locs ei_9 hU hS => ?_)
  have hG : GI al iv_8 rv := by rw [ei_9]; exact hG.puti (show _ ∧ _ from ⟨(fb_rng _).1, Int.le_of_lt_add_one (fb_rng _).2⟩) (nsA (by decide) _)
  have hF1 : FR ([55], []) iv iv_8 := by rw [ei_9]; exact hF1.put (Or.inl (by decide))
  refine lv_aload_n hx hb dX7_setMiles_15 rfl (lv_at hl 0 rfl) ?_
  refine g_52_1 C hU hG (h1_52 hG) fl_X7_20 dX7_setMiles_16 ?_
  refine lv_aload_n hx hb dX7_setMiles_19 rfl (lv_at hl 2 rfl) ?_
  refine g_56_0 C hU hG hpj fl_X7_29 dX7_setMiles_20 (fun x_10 e_11 le_11 ue_11 => ?_)
  have te_11 := congrArg Int32.toInt e_11
  have ne_11 : x_10.toInt = (iv 56 pj 0).toInt := by rw [e_11, hF1 56 pj 0 (by decide)]
  refine a_54 C hU hG (h1_54 hG) (x := x_10) (by omega) (by omega) dX7_setMiles_23 (fun j_12 ej_13 hb_14 => ?_)
  refine lv_aload_n hx hb dX7_setMiles_24 rfl (lv_at hl 1 rfl) ?_
  refine g_56_0 C hU hG hpi fl_X7_29 dX7_setMiles_25 (fun x_15 e_16 le_16 ue_16 => ?_)
  have te_16 := congrArg Int32.toInt e_16
  have ne_16 : x_15.toInt = (iv 56 pi 0).toInt := by rw [e_16, hF1 56 pi 0 (by decide)]
  refine lv_iload_n hx hb dX7_setMiles_28 rfl (lv_at hl 3 rfl) ?_
  refine s_55 C hU hS hb_14 (x := x_15) (by omega) (by omega) dX7_setMiles_29 (fun iv_17 H locs ei_18 hU hS => ?_)
  have hG : GI al iv_17 rv := by rw [ei_18]; exact hG.puti (show _ ∧ _ from ⟨(fb_rng _).1, Int.le_of_lt_add_one (fb_rng _).2⟩) (nsA (by decide) _)
  have hF1 : FR ([55], []) iv iv_17 := by rw [ei_18]; exact hF1.put (Or.inl (by decide))
  exact hret (⟨hG, hF1, hF2, fun i k => by rw [ei_18, ei_9, (mbw hG0 hpi hpj te_2 ej_4 te_7).1, (mbw hG0 hpi hpj te_2 ej_4 te_7).2, (mbw hG0 hpj hpi ne_11 ej_13 ne_16).1, (mbw hG0 hpj hpi ne_11 ej_13 ne_16).2]; exact up2_ij⟩) hU hS dX7_setMiles_30
set_option maxHeartbeats 4000000 in
set_option maxRecDepth 100000 in
theorem c_X11_miles_x {l : Launch} {D : va_G} {cA : FieldType → ClassId} {sz : Nat} {al : Al} {iv : Iv} {rv : Rv} (hG : GI al iv rv) (a : Int32) (b : Int32) (v : Int32) : Met l yX11_miles (wd yX11_miles cX11_miles 7 (some .int)) (rm 2) (PcW D cA sz al iv rv [.ref (al.2 49 0), .int a, .int b, .int v]) (QI D cA sz al (fI al ([51, 55], []) iv rv (fun r iv' rv' => (spMiles a b v = 0 ∧ r = iv 55 a.toNatClampNeg b.toNatClampNeg ∧ ∀ i k, iv' 55 i k = if (i = a.toNatClampNeg ∧ k = b.toNatClampNeg) ∨ (i = b.toNatClampNeg ∧ k = a.toNatClampNeg) then v else iv 55 i k) ∨ (spMiles a b v ≠ 0 ∧ r = spMiles a b v ∧ ∀ i k, iv' 55 i k = iv 55 i k)))) 0 0 (Aq sz) := by
  refine mk_i (by decide) (Nat.le_of_ble_eq_true rfl) rfl ?_
  intro p e s m args below meth c ls Q H locs C hU hS hl hret
  have hx := C.1.1
  have hb := C.1.2.1
  have hl : lv_has ls 7 [(0, .ref (al.2 49 0)), (1, .int a), (2, .int b), (3, .int v)] := hl
  have hG0 := hG
  have hF1 : FR ([51, 55], []) iv iv := FR.rf
  have hF2 : FR ([51, 55], []) rv rv := FR.rf
  have km6 : ((-6) : Int32).toInt = -6 := by decide
  have km4 : ((-4) : Int32).toInt = -4 := by decide
  have km1 : ((-1) : Int32).toInt = -1 := by decide
  have k9999 : (9999 : Int32).toInt = 9999 := by decide
  refine lv_aload_n hx hb dX11_miles_0 rfl (lv_at hl 0 rfl) ?_
  refine g_49_0 C hU hG (h1_49 hG) fl_X11_10 dX11_miles_1 ?_
  refine lv_iload_n hx hb dX11_miles_4 rfl (lv_at hl 1 rfl) ?_
  refine q_pr (q_runV (t := 52) (i := 0) (As := [.int a]) (rest := []) C hU (c_X7_find hG a ) vm_X7_find ml_X11_81 k_52.1 (hc := rfl) rfl (h1_52 hG) hl.1 rfl rfl (Nat.le_of_ble_eq_true rfl) dX11_miles_5 rfl rfl ⟨Nat.le_of_ble_eq_true rfl, Nat.le_of_ble_eq_true rfl⟩ ⟨Nat.le_refl _, Nat.le_refl _⟩) hS (fun r_2 H locs hp_1 hU hS => ?_)
  have hb_3 := hp_1.1
  refine b_astore (lv' := [(4, rfv al 56 r_2), (0, .ref (al.2 49 0)), (1, .int a), (2, .int b), (3, .int v)]) hx hb dX11_miles_8 hl (by decide) rfl (fun ls hl => ?_)
  refine lv_aload_n hx hb dX11_miles_10 rfl (lv_at hl 1 rfl) ?_
  refine g_49_0 C hU hG (h1_49 hG) fl_X11_10 dX11_miles_11 ?_
  refine lv_iload_n hx hb dX11_miles_14 rfl (lv_at hl 3 rfl) ?_
  refine q_pr (q_runV (t := 52) (i := 0) (As := [.int b]) (rest := []) C hU (c_X7_find hG b ) vm_X7_find ml_X11_81 k_52.1 (hc := rfl) rfl (h1_52 hG) hl.1 rfl rfl (Nat.le_of_ble_eq_true rfl) dX11_miles_15 rfl rfl ⟨Nat.le_of_ble_eq_true rfl, Nat.le_of_ble_eq_true rfl⟩ ⟨Nat.le_refl _, Nat.le_refl _⟩) hS (fun r_5 H locs hp_4 hU hS => ?_)
  have hb_6 := hp_4.1
  refine b_astore (lv' := [(5, rfv al 56 r_5), (4, rfv al 56 r_2), (0, .ref (al.2 49 0)), (1, .int a), (2, .int b), (3, .int v)]) hx hb dX11_miles_18 hl (by decide) (by simp [List.filter_cons, rfv_cat]) (fun ls hl => ?_)
  refine b_aload (al := al) (t' := 56) (r := r_2) hx hb dX11_miles_20 (lv_at hl 1 rfl) ?_
  refine b_ifnull (tgt := 37) hx hb dX11_miles_22 (by decide) (fun ej_9 => ?_) (fun j_8 ej_9 => ?_)
  ·
    subst ej_9
    have hl : lv_has ls 7 [(5, rfv al 56 r_5), (4, rfv al 56 none), (0, .ref (al.2 49 0)), (1, .int a), (2, .int b), (3, .int v)] := hl
    have hq4 := hp_1.2.2 rfl
    refine lv_aload_n hx hb dX11_miles_37 rfl (lv_at hl 2 rfl) ?_
    refine lv_iconst (v := (-1)) hx hb dX11_miles_38 (by decide) ?_
    refine q_fi (q_runV (t := 49) (i := 0) (As := [.int (-1)]) (rest := []) C hU (c_X11_refuse hG (-1) (by omega)) vm_X11_refuse ml_X11_77 k_49.1 (hc := rfl) rfl (h1_49 hG) hl.1 rfl rfl (Nat.le_of_ble_eq_true rfl) dX11_miles_39 rfl rfl ⟨Nat.le_of_ble_eq_true rfl, Nat.le_of_ble_eq_true rfl⟩ ⟨Nat.le_refl _, Nat.le_refl _⟩) hS (fun x_15 iv_11 rv_12 H locs hG fa_13 fb_14 hp_10 hU hS => ?_)
    have hF1 := hF1.tr (m := ([51, 55], [])) fa_13 (by decide)
    have hF2 := hF2.tr (m := ([51, 55], [])) fb_14 (by decide)
    exact hret (⟨hG, hF1, hF2, sp_no (z := (-1)) (by unfold spMiles; (repeat' split) <;> first | rfl | omega) (by decide) hp_10 (fun i k => fa_13.arr 55 i k (by decide))⟩) hU hS dX11_miles_42
  ·
    subst ej_9
    have hl : lv_has ls 7 [(5, rfv al 56 r_5), (4, .ref (al.2 56 j_8)), (0, .ref (al.2 49 0)), (1, .int a), (2, .int b), (3, .int v)] := hl
    have hb_16 : j_8 < al.1 56 := hb_3 j_8 rfl
    have hq4 := hp_1.2.1 _ rfl
    have hn4 := hq4.1
    rw [clamp_n] at hn4
    refine b_aload (al := al) (t' := 56) (r := r_5) hx hb dX11_miles_25 (lv_at hl 0 rfl) ?_
    refine b_ifnull (tgt := 37) hx hb dX11_miles_27 (by decide) (fun ej_19 => ?_) (fun j_18 ej_19 => ?_)
    ·
      subst ej_19
      have hl : lv_has ls 7 [(5, rfv al 56 none), (4, .ref (al.2 56 j_8)), (0, .ref (al.2 49 0)), (1, .int a), (2, .int b), (3, .int v)] := hl
      have hq5 := hp_4.2.2 rfl
      refine lv_aload_n hx hb dX11_miles_37 rfl (lv_at hl 2 rfl) ?_
      refine lv_iconst (v := (-1)) hx hb dX11_miles_38 (by decide) ?_
      refine q_fi (q_runV (t := 49) (i := 0) (As := [.int (-1)]) (rest := []) C hU (c_X11_refuse hG (-1) (by omega)) vm_X11_refuse ml_X11_77 k_49.1 (hc := rfl) rfl (h1_49 hG) hl.1 rfl rfl (Nat.le_of_ble_eq_true rfl) dX11_miles_39 rfl rfl ⟨Nat.le_of_ble_eq_true rfl, Nat.le_of_ble_eq_true rfl⟩ ⟨Nat.le_refl _, Nat.le_refl _⟩) hS (fun x_25 iv_21 rv_22 H locs hG fa_23 fb_24 hp_20 hU hS => ?_)
      have hF1 := hF1.tr (m := ([51, 55], [])) fa_23 (by decide)
      have hF2 := hF2.tr (m := ([51, 55], [])) fb_24 (by decide)
      exact hret (⟨hG, hF1, hF2, sp_no (z := (-1)) (by unfold spMiles; (repeat' split) <;> first | rfl | omega) (by decide) hp_20 (fun i k => fa_23.arr 55 i k (by decide))⟩) hU hS dX11_miles_42
    ·
      subst ej_19
      have hl : lv_has ls 7 [(5, .ref (al.2 56 j_18)), (4, .ref (al.2 56 j_8)), (0, .ref (al.2 49 0)), (1, .int a), (2, .int b), (3, .int v)] := hl
      have hb_26 : j_18 < al.1 56 := hb_6 j_18 rfl
      have hq5 := hp_4.2.1 _ rfl
      have hn5 := hq5.1
      rw [clamp_n] at hn5
      refine lv_aload hx hb dX11_miles_30 (lv_at hl 1 rfl) ?_
      refine lv_aload hx hb dX11_miles_32 (lv_at hl 0 rfl) ?_
      refine b_acmp_ne (tgt := 43) hx hb hU hb_16 hb_26 dX11_miles_34 (by decide) (fun c_27 => ?_) (fun c_27 => ?_)
      ·
        refine lv_iload_n hx hb dX11_miles_43 rfl (lv_at hl 5 rfl) ?_
        refine b_if_ge (tgt := 54) hx hb dX11_miles_44 (by decide) (fun c_28 => ?_) (fun c_28 => ?_)
        ·
          refine lv_iload_n hx hb dX11_miles_54 rfl (lv_at hl 5 rfl) ?_
          refine lv_sipush (v := 9999) hx hb dX11_miles_55 (by decide) ?_
          refine b_icmp_le (tgt := 68) hx hb dX11_miles_58 (by decide) (fun c_29 => ?_) (fun c_29 => ?_)
          ·
            refine lv_aload_n hx hb dX11_miles_68 rfl (lv_at hl 2 rfl) ?_
            refine g_49_0 C hU hG (h1_49 hG) fl_X11_10 dX11_miles_69 ?_
            refine lv_aload hx hb dX11_miles_72 (lv_at hl 1 rfl) ?_
            refine lv_aload hx hb dX11_miles_74 (lv_at hl 0 rfl) ?_
            refine q_pi (q_runV (t := 52) (i := 0) (As := [.ref (al.2 56 j_8), .ref (al.2 56 j_18)]) (rest := []) C hU (c_X7_milesBetween_x hG (j_8) hb_16 (j_18) hb_26 ) vm_X7_milesBetween ml_X11_94 k_52.1 (hc := rfl) rfl (h1_52 hG) hl.1 rfl rfl (Nat.le_of_ble_eq_true rfl) dX11_miles_76 rfl rfl ⟨Nat.le_of_ble_eq_true rfl, Nat.le_of_ble_eq_true rfl⟩ ⟨Nat.le_refl _, Nat.le_refl _⟩) hS (fun x_31 H locs hp_30 hU hS => ?_)
            refine lv_istore (lv' := [(6, .int x_31), (5, .ref (al.2 56 j_18)), (4, .ref (al.2 56 j_8)), (0, .ref (al.2 49 0)), (1, .int a), (2, .int b), (3, .int v)]) hx hb dX11_miles_79 hl (by decide) rfl (fun ls hl => ?_)
            refine lv_aload_n hx hb dX11_miles_81 rfl (lv_at hl 3 rfl) ?_
            refine g_49_0 C hU hG (h1_49 hG) fl_X11_10 dX11_miles_82 ?_
            refine lv_aload hx hb dX11_miles_85 (lv_at hl 2 rfl) ?_
            refine lv_aload hx hb dX11_miles_87 (lv_at hl 1 rfl) ?_
            refine lv_iload_n hx hb dX11_miles_89 rfl (lv_at hl 6 rfl) ?_
            refine q_fv (q_runV (t := 52) (i := 0) (As := [.ref (al.2 56 j_8), .ref (al.2 56 j_18), .int v]) (rest := []) C hU (c_X7_setMiles_x hG (j_8) hb_16 (j_18) hb_26 v ) vm_X7_setMiles ml_X11_98 k_52.1 (hc := rfl) rfl (h1_52 hG) hl.1 rfl rfl (Nat.le_of_ble_eq_true rfl) dX11_miles_90 rfl rfl ⟨Nat.le_of_ble_eq_true rfl, Nat.le_of_ble_eq_true rfl⟩ ⟨Nat.le_refl _, Nat.le_refl _⟩) hS (fun iv_33 rv_34 H locs hG fa_35 fb_36 hp_32 hU hS => ?_)
            have hF1 := hF1.tr (m := ([51, 55], [])) fa_35 (by decide)
            have hF2 := hF2.tr (m := ([51, 55], [])) fb_36 (by decide)
            refine lv_iload hx hb dX11_miles_93 (lv_at hl 0 rfl) ?_
            exact hret (⟨hG, hF1, hF2, Or.inl ⟨(by unfold spMiles; (repeat' split) <;> first | rfl | omega), by rw [hp_30, hq4.1, hq5.1], fun i k => by rw [hp_32 i k, hq4.1, hq5.1]⟩⟩) hU hS dX11_miles_95
          ·
            refine lv_aload_n hx hb dX11_miles_61 rfl (lv_at hl 2 rfl) ?_
            refine lv_bipush (v := (-6)) hx hb dX11_miles_62 (by decide) ?_
            refine q_fi (q_runV (t := 49) (i := 0) (As := [.int (-6)]) (rest := []) C hU (c_X11_refuse hG (-6) (by omega)) vm_X11_refuse ml_X11_77 k_49.1 (hc := rfl) rfl (h1_49 hG) hl.1 rfl rfl (Nat.le_of_ble_eq_true rfl) dX11_miles_64 rfl rfl ⟨Nat.le_of_ble_eq_true rfl, Nat.le_of_ble_eq_true rfl⟩ ⟨Nat.le_refl _, Nat.le_refl _⟩) hS (fun x_42 iv_38 rv_39 H locs hG fa_40 fb_41 hp_37 hU hS => ?_)
            have hF1 := hF1.tr (m := ([51, 55], [])) fa_40 (by decide)
            have hF2 := hF2.tr (m := ([51, 55], [])) fb_41 (by decide)
            exact hret (⟨hG, hF1, hF2, sp_no (z := (-6)) (by unfold spMiles; (repeat' split) <;> first | rfl | omega) (by decide) hp_37 (fun i k => fa_40.arr 55 i k (by decide))⟩) hU hS dX11_miles_67
        ·
          refine lv_aload_n hx hb dX11_miles_47 rfl (lv_at hl 2 rfl) ?_
          refine lv_bipush (v := (-4)) hx hb dX11_miles_48 (by decide) ?_
          refine q_fi (q_runV (t := 49) (i := 0) (As := [.int (-4)]) (rest := []) C hU (c_X11_refuse hG (-4) (by omega)) vm_X11_refuse ml_X11_77 k_49.1 (hc := rfl) rfl (h1_49 hG) hl.1 rfl rfl (Nat.le_of_ble_eq_true rfl) dX11_miles_50 rfl rfl ⟨Nat.le_of_ble_eq_true rfl, Nat.le_of_ble_eq_true rfl⟩ ⟨Nat.le_refl _, Nat.le_refl _⟩) hS (fun x_48 iv_44 rv_45 H locs hG fa_46 fb_47 hp_43 hU hS => ?_)
          have hF1 := hF1.tr (m := ([51, 55], [])) fa_46 (by decide)
          have hF2 := hF2.tr (m := ([51, 55], [])) fb_47 (by decide)
          exact hret (⟨hG, hF1, hF2, sp_no (z := (-4)) (by unfold spMiles; (repeat' split) <;> first | rfl | omega) (by decide) hp_43 (fun i k => fa_46.arr 55 i k (by decide))⟩) hU hS dX11_miles_53
      ·
        refine lv_aload_n hx hb dX11_miles_37 rfl (lv_at hl 2 rfl) ?_
        refine lv_iconst (v := (-1)) hx hb dX11_miles_38 (by decide) ?_
        refine q_fi (q_runV (t := 49) (i := 0) (As := [.int (-1)]) (rest := []) C hU (c_X11_refuse hG (-1) (by omega)) vm_X11_refuse ml_X11_77 k_49.1 (hc := rfl) rfl (h1_49 hG) hl.1 rfl rfl (Nat.le_of_ble_eq_true rfl) dX11_miles_39 rfl rfl ⟨Nat.le_of_ble_eq_true rfl, Nat.le_of_ble_eq_true rfl⟩ ⟨Nat.le_refl _, Nat.le_refl _⟩) hS (fun x_54 iv_50 rv_51 H locs hG fa_52 fb_53 hp_49 hU hS => ?_)
        have hF1 := hF1.tr (m := ([51, 55], [])) fa_52 (by decide)
        have hF2 := hF2.tr (m := ([51, 55], [])) fb_53 (by decide)
        exact hret (⟨hG, hF1, hF2, sp_no (z := (-1)) (by unfold spMiles; (repeat' split) <;> first | rfl | omega) (by decide) hp_49 (fun i k => fa_52.arr 55 i k (by decide))⟩) hU hS dX11_miles_42
end
section
set_option maxHeartbeats 4000000 in
set_option maxRecDepth 100000 in
theorem c_X12_law_y {l : Launch} {D : va_G} {cA : FieldType → ClassId} {sz : Nat} {al : Al} {iv : Iv} {rv : Rv} (hG : GI al iv rv) (lw : Int32) (d : Int32) (mm : Int32) (far : Int32) (sm : Int32) : Met l yX12_law (wd yX12_law cX12_law 6 (some .int)) (rm 2) (PcW D cA sz al iv rv [.ref (al.2 0 0), .int lw, .int d, .int mm, .int far, .int sm]) (QI D cA sz al (fI al ([16, 21, 22, 23, 24, 25], [(0, 24)]) iv rv (fun r iv' rv' => (spLaw lw d mm far sm (iv 0 0 0).toInt (iv 0 0 24).toInt = 0 ∧ r.toInt = (iv 0 0 24).toInt ∧ (iv' 0 0 24).toInt = (iv 0 0 24).toInt + 1 ∧ (∀ k : Nat, iv' 21 0 k = (if k = (iv 0 0 24).toNatClampNeg then lw else iv 21 0 k) ∧ iv' 22 0 k = (if k = (iv 0 0 24).toNatClampNeg then d else iv 22 0 k) ∧ iv' 23 0 k = (if k = (iv 0 0 24).toNatClampNeg then mm else iv 23 0 k) ∧ iv' 24 0 k = (if k = (iv 0 0 24).toNatClampNeg then far else iv 24 0 k) ∧ iv' 25 0 k = (if k = (iv 0 0 24).toNatClampNeg then sm else iv 25 0 k))) ∨ (spLaw lw d mm far sm (iv 0 0 0).toInt (iv 0 0 24).toInt ≠ 0 ∧ r = spLaw lw d mm far sm (iv 0 0 0).toInt (iv 0 0 24).toInt ∧ iv' 0 0 24 = iv 0 0 24 ∧ (∀ k : Nat, iv' 21 0 k = iv 21 0 k ∧ iv' 22 0 k = iv 22 0 k ∧ iv' 23 0 k = iv 23 0 k ∧ iv' 24 0 k = iv 24 0 k ∧ iv' 25 0 k = iv 25 0 k))))) 0 0 (Aq sz) := by
  refine mk_i (by decide) (Nat.le_of_ble_eq_true rfl) rfl ?_
  intro p e s m args below meth c ls Q H locs C hU hS hl hret
  have hx := C.1.1
  have hb := C.1.2.1
  have hl : lv_has ls 6 [(0, .ref (al.2 0 0)), (1, .int lw), (2, .int d), (3, .int mm), (4, .int far), (5, .int sm)] := hl
  have hG0 := hG
  have h6 := le6 hG
  have h20 := le20 hG
  have h41 := le41 hG
  have hF1 : FR ([16, 21, 22, 23, 24, 25], [(0, 24)]) iv iv := FR.rf
  have hF2 : FR ([16, 21, 22, 23, 24, 25], [(0, 24)]) rv rv := FR.rf
  have km6 : ((-6) : Int32).toInt = -6 := by decide
  have km4 : ((-4) : Int32).toInt = -4 := by decide
  have km1 : ((-1) : Int32).toInt = -1 := by decide
  have k1 : (1 : Int32).toInt = 1 := by decide
  have k30 : (30 : Int32).toInt = 30 := by decide
  have k4000 : (4000 : Int32).toInt = 4000 := by decide
  have k9999 : (9999 : Int32).toInt = 9999 := by decide
  refine lv_iload_n hx hb dX12_law_0 rfl (lv_at hl 1 rfl) ?_
  refine q_pi (q_runS (As := [.int lw]) (rest := []) C hU (c_X12_isLand  lw ) sm_X12_isLand ml_X12_244 hl.1 rfl rfl (Nat.le_of_ble_eq_true rfl) dX12_law_1 rfl rfl ⟨Nat.le_of_ble_eq_true rfl, Nat.le_of_ble_eq_true rfl⟩ ⟨Nat.le_refl _, Nat.le_refl _⟩) hS (fun x_2 H locs hp_1 hU hS => ?_)
  refine b_if_ne (tgt := 13) hx hb dX12_law_4 (by decide) (fun c_3 => ?_) (fun c_3 => ?_)
  ·
    refine lv_iload_n hx hb dX12_law_13 rfl (lv_at hl 2 rfl) ?_
    refine lv_aload_n hx hb dX12_law_14 rfl (lv_at hl 0 rfl) ?_
    refine g_0_0 C hU hG (h1_0 hG) fl_X12_168 dX12_law_15 (fun x_4 e_5 le_5 ue_5 => ?_)
    have te_5 := congrArg Int32.toInt e_5
    refine b_icmp_lt (tgt := 35) hx hb dX12_law_18 (by decide) (fun c_6 => ?_) (fun c_6 => ?_)
    ·
      refine lv_aload_n hx hb dX12_law_35 rfl (lv_at hl 0 rfl) ?_
      refine lv_bipush (v := (-4)) hx hb dX12_law_36 (by decide) ?_
      refine q_fi (q_runV (t := 0) (i := 0) (As := [.int (-4)]) (rest := []) C hU (c_X12_refuse hG (-4) (by omega)) vm_X12_refuse ml_X12_164 k_0.1 (hc := rfl) rfl (h1_0 hG) hl.1 rfl rfl (Nat.le_of_ble_eq_true rfl) dX12_law_38 rfl rfl ⟨Nat.le_of_ble_eq_true rfl, Nat.le_of_ble_eq_true rfl⟩ ⟨Nat.le_refl _, Nat.le_refl _⟩) hS (fun x_12 iv_8 rv_9 H locs hG fa_10 fb_11 hp_7 hU hS => ?_)
      have hF1 := hF1.tr (m := ([16, 21, 22, 23, 24, 25], [(0, 24)])) fa_10 (by decide)
      have hF2 := hF2.tr (m := ([16, 21, 22, 23, 24, 25], [(0, 24)])) fb_11 (by decide)
      exact hret (⟨hG, hF1, hF2, sp_no (z := (-4)) (by unfold spLaw; (repeat' split) <;> first | rfl | omega) (by decide) hp_7 (⟨fa_10 0 0 24 (by decide), fun k => ⟨fa_10.arr 21 0 k (by decide), fa_10.arr 22 0 k (by decide), fa_10.arr 23 0 k (by decide), fa_10.arr 24 0 k (by decide), fa_10.arr 25 0 k (by decide)⟩⟩)⟩) hU hS dX12_law_41
    ·
      refine lv_iload_n hx hb dX12_law_21 rfl (lv_at hl 3 rfl) ?_
      refine b_if_lt (tgt := 35) hx hb dX12_law_22 (by decide) (fun c_13 => ?_) (fun c_13 => ?_)
      ·
        refine lv_aload_n hx hb dX12_law_35 rfl (lv_at hl 0 rfl) ?_
        refine lv_bipush (v := (-4)) hx hb dX12_law_36 (by decide) ?_
        refine q_fi (q_runV (t := 0) (i := 0) (As := [.int (-4)]) (rest := []) C hU (c_X12_refuse hG (-4) (by omega)) vm_X12_refuse ml_X12_164 k_0.1 (hc := rfl) rfl (h1_0 hG) hl.1 rfl rfl (Nat.le_of_ble_eq_true rfl) dX12_law_38 rfl rfl ⟨Nat.le_of_ble_eq_true rfl, Nat.le_of_ble_eq_true rfl⟩ ⟨Nat.le_refl _, Nat.le_refl _⟩) hS (fun x_19 iv_15 rv_16 H locs hG fa_17 fb_18 hp_14 hU hS => ?_)
        have hF1 := hF1.tr (m := ([16, 21, 22, 23, 24, 25], [(0, 24)])) fa_17 (by decide)
        have hF2 := hF2.tr (m := ([16, 21, 22, 23, 24, 25], [(0, 24)])) fb_18 (by decide)
        exact hret (⟨hG, hF1, hF2, sp_no (z := (-4)) (by unfold spLaw; (repeat' split) <;> first | rfl | omega) (by decide) hp_14 (⟨fa_17 0 0 24 (by decide), fun k => ⟨fa_17.arr 21 0 k (by decide), fa_17.arr 22 0 k (by decide), fa_17.arr 23 0 k (by decide), fa_17.arr 24 0 k (by decide), fa_17.arr 25 0 k (by decide)⟩⟩)⟩) hU hS dX12_law_41
      ·
        refine lv_iload hx hb dX12_law_25 (lv_at hl 4 rfl) ?_
        refine b_if_lt (tgt := 35) hx hb dX12_law_27 (by decide) (fun c_20 => ?_) (fun c_20 => ?_)
        ·
          refine lv_aload_n hx hb dX12_law_35 rfl (lv_at hl 0 rfl) ?_
          refine lv_bipush (v := (-4)) hx hb dX12_law_36 (by decide) ?_
          refine q_fi (q_runV (t := 0) (i := 0) (As := [.int (-4)]) (rest := []) C hU (c_X12_refuse hG (-4) (by omega)) vm_X12_refuse ml_X12_164 k_0.1 (hc := rfl) rfl (h1_0 hG) hl.1 rfl rfl (Nat.le_of_ble_eq_true rfl) dX12_law_38 rfl rfl ⟨Nat.le_of_ble_eq_true rfl, Nat.le_of_ble_eq_true rfl⟩ ⟨Nat.le_refl _, Nat.le_refl _⟩) hS (fun x_26 iv_22 rv_23 H locs hG fa_24 fb_25 hp_21 hU hS => ?_)
          have hF1 := hF1.tr (m := ([16, 21, 22, 23, 24, 25], [(0, 24)])) fa_24 (by decide)
          have hF2 := hF2.tr (m := ([16, 21, 22, 23, 24, 25], [(0, 24)])) fb_25 (by decide)
          exact hret (⟨hG, hF1, hF2, sp_no (z := (-4)) (by unfold spLaw; (repeat' split) <;> first | rfl | omega) (by decide) hp_21 (⟨fa_24 0 0 24 (by decide), fun k => ⟨fa_24.arr 21 0 k (by decide), fa_24.arr 22 0 k (by decide), fa_24.arr 23 0 k (by decide), fa_24.arr 24 0 k (by decide), fa_24.arr 25 0 k (by decide)⟩⟩)⟩) hU hS dX12_law_41
        ·
          refine lv_iload hx hb dX12_law_30 (lv_at hl 5 rfl) ?_
          refine b_if_ge (tgt := 42) hx hb dX12_law_32 (by decide) (fun c_27 => ?_) (fun c_27 => ?_)
          ·
            refine lv_iload_n hx hb dX12_law_42 rfl (lv_at hl 2 rfl) ?_
            refine lv_sipush (v := 4000) hx hb dX12_law_43 (by decide) ?_
            refine b_icmp_gt (tgt := 81) hx hb dX12_law_46 (by decide) (fun c_28 => ?_) (fun c_28 => ?_)
            ·
              refine lv_aload_n hx hb dX12_law_81 rfl (lv_at hl 0 rfl) ?_
              refine lv_bipush (v := (-6)) hx hb dX12_law_82 (by decide) ?_
              refine q_fi (q_runV (t := 0) (i := 0) (As := [.int (-6)]) (rest := []) C hU (c_X12_refuse hG (-6) (by omega)) vm_X12_refuse ml_X12_164 k_0.1 (hc := rfl) rfl (h1_0 hG) hl.1 rfl rfl (Nat.le_of_ble_eq_true rfl) dX12_law_84 rfl rfl ⟨Nat.le_of_ble_eq_true rfl, Nat.le_of_ble_eq_true rfl⟩ ⟨Nat.le_refl _, Nat.le_refl _⟩) hS (fun x_34 iv_30 rv_31 H locs hG fa_32 fb_33 hp_29 hU hS => ?_)
              have hF1 := hF1.tr (m := ([16, 21, 22, 23, 24, 25], [(0, 24)])) fa_32 (by decide)
              have hF2 := hF2.tr (m := ([16, 21, 22, 23, 24, 25], [(0, 24)])) fb_33 (by decide)
              exact hret (⟨hG, hF1, hF2, sp_no (z := (-6)) (by unfold spLaw; (repeat' split) <;> first | rfl | omega) (by decide) hp_29 (⟨fa_32 0 0 24 (by decide), fun k => ⟨fa_32.arr 21 0 k (by decide), fa_32.arr 22 0 k (by decide), fa_32.arr 23 0 k (by decide), fa_32.arr 24 0 k (by decide), fa_32.arr 25 0 k (by decide)⟩⟩)⟩) hU hS dX12_law_87
            ·
              refine lv_iload_n hx hb dX12_law_49 rfl (lv_at hl 3 rfl) ?_
              refine lv_sipush (v := 9999) hx hb dX12_law_50 (by decide) ?_
              refine b_icmp_gt (tgt := 81) hx hb dX12_law_53 (by decide) (fun c_35 => ?_) (fun c_35 => ?_)
              ·
                refine lv_aload_n hx hb dX12_law_81 rfl (lv_at hl 0 rfl) ?_
                refine lv_bipush (v := (-6)) hx hb dX12_law_82 (by decide) ?_
                refine q_fi (q_runV (t := 0) (i := 0) (As := [.int (-6)]) (rest := []) C hU (c_X12_refuse hG (-6) (by omega)) vm_X12_refuse ml_X12_164 k_0.1 (hc := rfl) rfl (h1_0 hG) hl.1 rfl rfl (Nat.le_of_ble_eq_true rfl) dX12_law_84 rfl rfl ⟨Nat.le_of_ble_eq_true rfl, Nat.le_of_ble_eq_true rfl⟩ ⟨Nat.le_refl _, Nat.le_refl _⟩) hS (fun x_41 iv_37 rv_38 H locs hG fa_39 fb_40 hp_36 hU hS => ?_)
                have hF1 := hF1.tr (m := ([16, 21, 22, 23, 24, 25], [(0, 24)])) fa_39 (by decide)
                have hF2 := hF2.tr (m := ([16, 21, 22, 23, 24, 25], [(0, 24)])) fb_40 (by decide)
                exact hret (⟨hG, hF1, hF2, sp_no (z := (-6)) (by unfold spLaw; (repeat' split) <;> first | rfl | omega) (by decide) hp_36 (⟨fa_39 0 0 24 (by decide), fun k => ⟨fa_39.arr 21 0 k (by decide), fa_39.arr 22 0 k (by decide), fa_39.arr 23 0 k (by decide), fa_39.arr 24 0 k (by decide), fa_39.arr 25 0 k (by decide)⟩⟩)⟩) hU hS dX12_law_87
              ·
                refine lv_iload hx hb dX12_law_56 (lv_at hl 4 rfl) ?_
                refine lv_sipush (v := 9999) hx hb dX12_law_58 (by decide) ?_
                refine b_icmp_gt (tgt := 81) hx hb dX12_law_61 (by decide) (fun c_42 => ?_) (fun c_42 => ?_)
                ·
                  refine lv_aload_n hx hb dX12_law_81 rfl (lv_at hl 0 rfl) ?_
                  refine lv_bipush (v := (-6)) hx hb dX12_law_82 (by decide) ?_
                  refine q_fi (q_runV (t := 0) (i := 0) (As := [.int (-6)]) (rest := []) C hU (c_X12_refuse hG (-6) (by omega)) vm_X12_refuse ml_X12_164 k_0.1 (hc := rfl) rfl (h1_0 hG) hl.1 rfl rfl (Nat.le_of_ble_eq_true rfl) dX12_law_84 rfl rfl ⟨Nat.le_of_ble_eq_true rfl, Nat.le_of_ble_eq_true rfl⟩ ⟨Nat.le_refl _, Nat.le_refl _⟩) hS (fun x_48 iv_44 rv_45 H locs hG fa_46 fb_47 hp_43 hU hS => ?_)
                  have hF1 := hF1.tr (m := ([16, 21, 22, 23, 24, 25], [(0, 24)])) fa_46 (by decide)
                  have hF2 := hF2.tr (m := ([16, 21, 22, 23, 24, 25], [(0, 24)])) fb_47 (by decide)
                  exact hret (⟨hG, hF1, hF2, sp_no (z := (-6)) (by unfold spLaw; (repeat' split) <;> first | rfl | omega) (by decide) hp_43 (⟨fa_46 0 0 24 (by decide), fun k => ⟨fa_46.arr 21 0 k (by decide), fa_46.arr 22 0 k (by decide), fa_46.arr 23 0 k (by decide), fa_46.arr 24 0 k (by decide), fa_46.arr 25 0 k (by decide)⟩⟩)⟩) hU hS dX12_law_87
                ·
                  refine lv_iload hx hb dX12_law_64 (lv_at hl 5 rfl) ?_
                  refine lv_sipush (v := 9999) hx hb dX12_law_66 (by decide) ?_
                  refine b_icmp_gt (tgt := 81) hx hb dX12_law_69 (by decide) (fun c_49 => ?_) (fun c_49 => ?_)
                  ·
                    refine lv_aload_n hx hb dX12_law_81 rfl (lv_at hl 0 rfl) ?_
                    refine lv_bipush (v := (-6)) hx hb dX12_law_82 (by decide) ?_
                    refine q_fi (q_runV (t := 0) (i := 0) (As := [.int (-6)]) (rest := []) C hU (c_X12_refuse hG (-6) (by omega)) vm_X12_refuse ml_X12_164 k_0.1 (hc := rfl) rfl (h1_0 hG) hl.1 rfl rfl (Nat.le_of_ble_eq_true rfl) dX12_law_84 rfl rfl ⟨Nat.le_of_ble_eq_true rfl, Nat.le_of_ble_eq_true rfl⟩ ⟨Nat.le_refl _, Nat.le_refl _⟩) hS (fun x_55 iv_51 rv_52 H locs hG fa_53 fb_54 hp_50 hU hS => ?_)
                    have hF1 := hF1.tr (m := ([16, 21, 22, 23, 24, 25], [(0, 24)])) fa_53 (by decide)
                    have hF2 := hF2.tr (m := ([16, 21, 22, 23, 24, 25], [(0, 24)])) fb_54 (by decide)
                    exact hret (⟨hG, hF1, hF2, sp_no (z := (-6)) (by unfold spLaw; (repeat' split) <;> first | rfl | omega) (by decide) hp_50 (⟨fa_53 0 0 24 (by decide), fun k => ⟨fa_53.arr 21 0 k (by decide), fa_53.arr 22 0 k (by decide), fa_53.arr 23 0 k (by decide), fa_53.arr 24 0 k (by decide), fa_53.arr 25 0 k (by decide)⟩⟩)⟩) hU hS dX12_law_87
                  ·
                    refine lv_aload_n hx hb dX12_law_72 rfl (lv_at hl 0 rfl) ?_
                    refine g_0_24 C hU hG (h1_0 hG) fl_X12_247 dX12_law_73 (fun x_56 e_57 le_57 ue_57 => ?_)
                    have te_57 := congrArg Int32.toInt e_57
                    refine lv_bipush (v := 30) hx hb dX12_law_76 (by decide) ?_
                    refine b_icmp_ne (tgt := 88) hx hb dX12_law_78 (by decide) (fun c_58 => ?_) (fun c_58 => ?_)
                    ·
                      refine lv_aload_n hx hb dX12_law_88 rfl (lv_at hl 0 rfl) ?_
                      refine g_0_25 C hU hG (h1_0 hG) fl_X12_71 dX12_law_89 ?_
                      refine lv_aload_n hx hb dX12_law_92 rfl (lv_at hl 0 rfl) ?_
                      refine g_0_24 C hU hG (h1_0 hG) fl_X12_247 dX12_law_93 (fun x_59 e_60 le_60 ue_60 => ?_)
                      have te_60 := congrArg Int32.toInt e_60
                      refine lv_iload_n hx hb dX12_law_96 rfl (lv_at hl 1 rfl) ?_
                      refine s_21 C hU hS (h1_21 hG) (x := x_59) (by omega) (by omega) dX12_law_97 (fun iv_61 H locs ei_62 hU hS => ?_)
                      have hG : GI al iv_61 rv := by rw [ei_62]; exact hG.puti (show _ ∧ _ from ⟨show (0 : Int) ≤ _ by omega, show _ ≤ (3 : Int) by omega⟩) (nsA (by decide) _)
                      have hF1 : FR ([16, 21, 22, 23, 24, 25], [(0, 24)]) iv iv_61 := by rw [ei_62]; exact hF1.put (Or.inl (by decide))
                      have kf_63 := congrArg Int32.toInt (show iv_61 0 0 24 = iv 0 0 24 by rw [ei_62]; exact up3_ne (fun z => absurd z.1 (by decide)))
                      refine lv_aload_n hx hb dX12_law_98 rfl (lv_at hl 0 rfl) ?_
                      refine g_0_26 C hU hG (h1_0 hG) fl_X12_74 dX12_law_99 ?_
                      refine lv_aload_n hx hb dX12_law_102 rfl (lv_at hl 0 rfl) ?_
                      refine g_0_24 C hU hG (h1_0 hG) fl_X12_247 dX12_law_103 (fun x_64 e_65 le_65 ue_65 => ?_)
                      have te_65 := congrArg Int32.toInt e_65
                      refine lv_iload_n hx hb dX12_law_106 rfl (lv_at hl 2 rfl) ?_
                      refine s_22 C hU hS (h1_22 hG) (x := x_64) (by omega) (by omega) dX12_law_107 (fun iv_66 H locs ei_67 hU hS => ?_)
                      have hG : GI al iv_66 rv := by rw [ei_67]; exact hG.puti (show _ ∧ _ from ⟨show (0 : Int) ≤ _ by omega, show _ ≤ (4000 : Int) by omega⟩) (nsA (by decide) _)
                      have hF1 : FR ([16, 21, 22, 23, 24, 25], [(0, 24)]) iv iv_66 := by rw [ei_67]; exact hF1.put (Or.inl (by decide))
                      have kf_68 := congrArg Int32.toInt (show iv_66 0 0 24 = iv_61 0 0 24 by rw [ei_67]; exact up3_ne (fun z => absurd z.1 (by decide)))
                      refine lv_aload_n hx hb dX12_law_108 rfl (lv_at hl 0 rfl) ?_
                      refine g_0_27 C hU hG (h1_0 hG) fl_X12_77 dX12_law_109 ?_
                      refine lv_aload_n hx hb dX12_law_112 rfl (lv_at hl 0 rfl) ?_
                      refine g_0_24 C hU hG (h1_0 hG) fl_X12_247 dX12_law_113 (fun x_69 e_70 le_70 ue_70 => ?_)
                      have te_70 := congrArg Int32.toInt e_70
                      refine lv_iload_n hx hb dX12_law_116 rfl (lv_at hl 3 rfl) ?_
                      refine s_23 C hU hS (h1_23 hG) (x := x_69) (by omega) (by omega) dX12_law_117 (fun iv_71 H locs ei_72 hU hS => ?_)
                      have hG : GI al iv_71 rv := by rw [ei_72]; exact hG.puti (show _ ∧ _ from ⟨show (0 : Int) ≤ _ by omega, show _ ≤ (9999 : Int) by omega⟩) (nsA (by decide) _)
                      have hF1 : FR ([16, 21, 22, 23, 24, 25], [(0, 24)]) iv iv_71 := by rw [ei_72]; exact hF1.put (Or.inl (by decide))
                      have kf_73 := congrArg Int32.toInt (show iv_71 0 0 24 = iv_66 0 0 24 by rw [ei_72]; exact up3_ne (fun z => absurd z.1 (by decide)))
                      refine lv_aload_n hx hb dX12_law_118 rfl (lv_at hl 0 rfl) ?_
                      refine g_0_28 C hU hG (h1_0 hG) fl_X12_80 dX12_law_119 ?_
                      refine lv_aload_n hx hb dX12_law_122 rfl (lv_at hl 0 rfl) ?_
                      refine g_0_24 C hU hG (h1_0 hG) fl_X12_247 dX12_law_123 (fun x_74 e_75 le_75 ue_75 => ?_)
                      have te_75 := congrArg Int32.toInt e_75
                      refine lv_iload hx hb dX12_law_126 (lv_at hl 4 rfl) ?_
                      refine s_24 C hU hS (h1_24 hG) (x := x_74) (by omega) (by omega) dX12_law_128 (fun iv_76 H locs ei_77 hU hS => ?_)
                      have hG : GI al iv_76 rv := by rw [ei_77]; exact hG.puti (show _ ∧ _ from ⟨show (0 : Int) ≤ _ by omega, show _ ≤ (9999 : Int) by omega⟩) (nsA (by decide) _)
                      have hF1 : FR ([16, 21, 22, 23, 24, 25], [(0, 24)]) iv iv_76 := by rw [ei_77]; exact hF1.put (Or.inl (by decide))
                      have kf_78 := congrArg Int32.toInt (show iv_76 0 0 24 = iv_71 0 0 24 by rw [ei_77]; exact up3_ne (fun z => absurd z.1 (by decide)))
                      refine lv_aload_n hx hb dX12_law_129 rfl (lv_at hl 0 rfl) ?_
                      refine g_0_29 C hU hG (h1_0 hG) fl_X12_83 dX12_law_130 ?_
                      refine lv_aload_n hx hb dX12_law_133 rfl (lv_at hl 0 rfl) ?_
                      refine g_0_24 C hU hG (h1_0 hG) fl_X12_247 dX12_law_134 (fun x_79 e_80 le_80 ue_80 => ?_)
                      have te_80 := congrArg Int32.toInt e_80
                      refine lv_iload hx hb dX12_law_137 (lv_at hl 5 rfl) ?_
                      refine s_25 C hU hS (h1_25 hG) (x := x_79) (by omega) (by omega) dX12_law_139 (fun iv_81 H locs ei_82 hU hS => ?_)
                      have hG : GI al iv_81 rv := by rw [ei_82]; exact hG.puti (show _ ∧ _ from ⟨show (0 : Int) ≤ _ by omega, show _ ≤ (9999 : Int) by omega⟩) (nsA (by decide) _)
                      have hF1 : FR ([16, 21, 22, 23, 24, 25], [(0, 24)]) iv iv_81 := by rw [ei_82]; exact hF1.put (Or.inl (by decide))
                      have kf_83 := congrArg Int32.toInt (show iv_81 0 0 24 = iv_76 0 0 24 by rw [ei_82]; exact up3_ne (fun z => absurd z.1 (by decide)))
                      refine lv_aload_n hx hb dX12_law_140 rfl (lv_at hl 0 rfl) ?_
                      refine lv_dup hx hb dX12_law_141 rfl ?_
                      refine g_0_24 C hU hG (h1_0 hG) fl_X12_247 dX12_law_142 (fun x_84 e_85 le_85 ue_85 => ?_)
                      have te_85 := congrArg Int32.toInt e_85
                      refine lv_iconst (v := 1) hx hb dX12_law_145 (by decide) ?_
                      refine lv_iadd hx hb dX12_law_146 ?_
                      refine lv_topi (fun x_86 e_87 => ?_)
                      have te_87 : x_86.toInt = (x_84 : Int32).toInt + (1 : Int32).toInt := by rw [e_87]; exact fb_addI (by omega) (by omega)
                      refine p_0_24 C hU hS (h1_0 hG) fl_X12_247 dX12_law_147 (fun iv_88 H locs ei_89 hU hS => ?_)
                      have hG : GI al iv_88 rv := by rw [ei_89]; exact hG.puti (show _ ∧ _ from ⟨show (0 : Int) ≤ _ by omega, show _ ≤ (30 : Int) by omega⟩) (nsF (by decide))
                      have hF1 : FR ([16, 21, 22, 23, 24, 25], [(0, 24)]) iv iv_88 := by rw [ei_89]; exact hF1.put (by decide)
                      refine lv_aload_n hx hb dX12_law_150 rfl (lv_at hl 0 rfl) ?_
                      refine g_0_24 C hU hG (h1_0 hG) fl_X12_247 dX12_law_151 (fun x_90 e_91 le_91 ue_91 => ?_)
                      have te_91 := congrArg Int32.toInt e_91
                      have hz_ := e_91
                      rw [ei_89, up3_self] at hz_
                      have tz_ := congrArg Int32.toInt hz_
                      refine lv_iconst (v := 1) hx hb dX12_law_154 (by decide) ?_
                      refine lv_isub hx hb dX12_law_155 ?_
                      refine lv_topi (fun x_92 e_93 => ?_)
                      have te_93 : x_92.toInt = (x_90 : Int32).toInt - (1 : Int32).toInt := by rw [e_93]; exact fb_subI (by omega) (by omega)
                      exact hret (⟨hG, hF1, hF2, Or.inl ⟨(by unfold spLaw; (repeat' split) <;> first | rfl | omega), by omega, by rw [ei_89, up3_self]; omega, fun k => ⟨by rw [ei_89, up3_ne (fun z => absurd z.1 (by decide)), ei_82, up3_ne (fun z => absurd z.1 (by decide)), ei_77, up3_ne (fun z => absurd z.1 (by decide)), ei_72, up3_ne (fun z => absurd z.1 (by decide)), ei_67, up3_ne (fun z => absurd z.1 (by decide)), ei_62, clamp_eq (show (x_59 : Int32).toInt = (iv 0 0 24).toInt by omega), up3_k], by rw [ei_89, up3_ne (fun z => absurd z.1 (by decide)), ei_82, up3_ne (fun z => absurd z.1 (by decide)), ei_77, up3_ne (fun z => absurd z.1 (by decide)), ei_72, up3_ne (fun z => absurd z.1 (by decide)), ei_67, clamp_eq (show (x_64 : Int32).toInt = (iv 0 0 24).toInt by omega), up3_k, ei_62, up3_ne (fun z => absurd z.1 (by decide))], by rw [ei_89, up3_ne (fun z => absurd z.1 (by decide)), ei_82, up3_ne (fun z => absurd z.1 (by decide)), ei_77, up3_ne (fun z => absurd z.1 (by decide)), ei_72, clamp_eq (show (x_69 : Int32).toInt = (iv 0 0 24).toInt by omega), up3_k, ei_67, up3_ne (fun z => absurd z.1 (by decide)), ei_62, up3_ne (fun z => absurd z.1 (by decide))], by rw [ei_89, up3_ne (fun z => absurd z.1 (by decide)), ei_82, up3_ne (fun z => absurd z.1 (by decide)), ei_77, clamp_eq (show (x_74 : Int32).toInt = (iv 0 0 24).toInt by omega), up3_k, ei_72, up3_ne (fun z => absurd z.1 (by decide)), ei_67, up3_ne (fun z => absurd z.1 (by decide)), ei_62, up3_ne (fun z => absurd z.1 (by decide))], by rw [ei_89, up3_ne (fun z => absurd z.1 (by decide)), ei_82, clamp_eq (show (x_79 : Int32).toInt = (iv 0 0 24).toInt by omega), up3_k, ei_77, up3_ne (fun z => absurd z.1 (by decide)), ei_72, up3_ne (fun z => absurd z.1 (by decide)), ei_67, up3_ne (fun z => absurd z.1 (by decide)), ei_62, up3_ne (fun z => absurd z.1 (by decide))]⟩⟩⟩) hU hS dX12_law_156
                    ·
                      refine lv_aload_n hx hb dX12_law_81 rfl (lv_at hl 0 rfl) ?_
                      refine lv_bipush (v := (-6)) hx hb dX12_law_82 (by decide) ?_
                      refine q_fi (q_runV (t := 0) (i := 0) (As := [.int (-6)]) (rest := []) C hU (c_X12_refuse hG (-6) (by omega)) vm_X12_refuse ml_X12_164 k_0.1 (hc := rfl) rfl (h1_0 hG) hl.1 rfl rfl (Nat.le_of_ble_eq_true rfl) dX12_law_84 rfl rfl ⟨Nat.le_of_ble_eq_true rfl, Nat.le_of_ble_eq_true rfl⟩ ⟨Nat.le_refl _, Nat.le_refl _⟩) hS (fun x_99 iv_95 rv_96 H locs hG fa_97 fb_98 hp_94 hU hS => ?_)
                      have hF1 := hF1.tr (m := ([16, 21, 22, 23, 24, 25], [(0, 24)])) fa_97 (by decide)
                      have hF2 := hF2.tr (m := ([16, 21, 22, 23, 24, 25], [(0, 24)])) fb_98 (by decide)
                      exact hret (⟨hG, hF1, hF2, sp_no (z := (-6)) (by unfold spLaw; (repeat' split) <;> first | rfl | omega) (by decide) hp_94 (⟨fa_97 0 0 24 (by decide), fun k => ⟨fa_97.arr 21 0 k (by decide), fa_97.arr 22 0 k (by decide), fa_97.arr 23 0 k (by decide), fa_97.arr 24 0 k (by decide), fa_97.arr 25 0 k (by decide)⟩⟩)⟩) hU hS dX12_law_87
          ·
            refine lv_aload_n hx hb dX12_law_35 rfl (lv_at hl 0 rfl) ?_
            refine lv_bipush (v := (-4)) hx hb dX12_law_36 (by decide) ?_
            refine q_fi (q_runV (t := 0) (i := 0) (As := [.int (-4)]) (rest := []) C hU (c_X12_refuse hG (-4) (by omega)) vm_X12_refuse ml_X12_164 k_0.1 (hc := rfl) rfl (h1_0 hG) hl.1 rfl rfl (Nat.le_of_ble_eq_true rfl) dX12_law_38 rfl rfl ⟨Nat.le_of_ble_eq_true rfl, Nat.le_of_ble_eq_true rfl⟩ ⟨Nat.le_refl _, Nat.le_refl _⟩) hS (fun x_105 iv_101 rv_102 H locs hG fa_103 fb_104 hp_100 hU hS => ?_)
            have hF1 := hF1.tr (m := ([16, 21, 22, 23, 24, 25], [(0, 24)])) fa_103 (by decide)
            have hF2 := hF2.tr (m := ([16, 21, 22, 23, 24, 25], [(0, 24)])) fb_104 (by decide)
            exact hret (⟨hG, hF1, hF2, sp_no (z := (-4)) (by unfold spLaw; (repeat' split) <;> first | rfl | omega) (by decide) hp_100 (⟨fa_103 0 0 24 (by decide), fun k => ⟨fa_103.arr 21 0 k (by decide), fa_103.arr 22 0 k (by decide), fa_103.arr 23 0 k (by decide), fa_103.arr 24 0 k (by decide), fa_103.arr 25 0 k (by decide)⟩⟩)⟩) hU hS dX12_law_41
  ·
    refine lv_aload_n hx hb dX12_law_7 rfl (lv_at hl 0 rfl) ?_
    refine lv_iconst (v := (-1)) hx hb dX12_law_8 (by decide) ?_
    refine q_fi (q_runV (t := 0) (i := 0) (As := [.int (-1)]) (rest := []) C hU (c_X12_refuse hG (-1) (by omega)) vm_X12_refuse ml_X12_164 k_0.1 (hc := rfl) rfl (h1_0 hG) hl.1 rfl rfl (Nat.le_of_ble_eq_true rfl) dX12_law_9 rfl rfl ⟨Nat.le_of_ble_eq_true rfl, Nat.le_of_ble_eq_true rfl⟩ ⟨Nat.le_refl _, Nat.le_refl _⟩) hS (fun x_111 iv_107 rv_108 H locs hG fa_109 fb_110 hp_106 hU hS => ?_)
    have hF1 := hF1.tr (m := ([16, 21, 22, 23, 24, 25], [(0, 24)])) fa_109 (by decide)
    have hF2 := hF2.tr (m := ([16, 21, 22, 23, 24, 25], [(0, 24)])) fb_110 (by decide)
    exact hret (⟨hG, hF1, hF2, sp_no (z := (-1)) (by unfold spLaw; (repeat' split) <;> first | rfl | omega) (by decide) hp_106 (⟨fa_109 0 0 24 (by decide), fun k => ⟨fa_109.arr 21 0 k (by decide), fa_109.arr 22 0 k (by decide), fa_109.arr 23 0 k (by decide), fa_109.arr 24 0 k (by decide), fa_109.arr 25 0 k (by decide)⟩⟩)⟩) hU hS dX12_law_12
set_option maxHeartbeats 4000000 in
set_option maxRecDepth 100000 in
theorem c_X4_add_y {l : Launch} {D : va_G} {cA : FieldType → ClassId} {sz : Nat} {al : Al} {iv : Iv} {rv : Rv} (hG : GI al iv rv) (a : Int32) (d : Int32) (mm : Int32) (far : Int32) (sm : Int32) (pre0 : (iv 68 0 5).toInt < 30) (pre1 : 0 ≤ a.toInt ∧ a.toInt ≤ 9999) (pre2 : 0 ≤ d.toInt ∧ d.toInt ≤ 9999) (pre3 : 0 ≤ mm.toInt ∧ mm.toInt ≤ 9999) (pre4 : 0 ≤ far.toInt ∧ far.toInt ≤ 9999) (pre5 : 0 ≤ sm.toInt ∧ sm.toInt ≤ 9999) : Met l yX4_add (wd yX4_add cX4_add 6 (some .int)) (rm 0) (PcW D cA sz al iv rv [.ref (al.2 68 0), .int a, .int d, .int mm, .int far, .int sm]) (QI D cA sz al (fI al ([69, 70, 71, 72, 73], [(68, 5)]) iv rv (fun r iv' rv' => r.toInt = (iv 68 0 5).toInt ∧ (iv' 68 0 5).toInt = (iv 68 0 5).toInt + 1 ∧ (∀ k : Nat, iv' 69 0 k = (if k = (iv 68 0 5).toNatClampNeg then a else iv 69 0 k) ∧ iv' 70 0 k = (if k = (iv 68 0 5).toNatClampNeg then d else iv 70 0 k) ∧ iv' 71 0 k = (if k = (iv 68 0 5).toNatClampNeg then mm else iv 71 0 k) ∧ iv' 72 0 k = (if k = (iv 68 0 5).toNatClampNeg then far else iv 72 0 k) ∧ iv' 73 0 k = (if k = (iv 68 0 5).toNatClampNeg then sm else iv 73 0 k))))) 0 0 (Aq sz) := by
  refine mk_i (by decide) (Nat.le_of_ble_eq_true rfl) rfl ?_
  intro p e s m args below meth c ls Q H locs C hU hS hl hret
  have hx := C.1.1
  have hb := C.1.2.1
  have hl : lv_has ls 6 [(0, .ref (al.2 68 0)), (1, .int a), (2, .int d), (3, .int mm), (4, .int far), (5, .int sm)] := hl
  have hG0 := hG
  have hF1 : FR ([69, 70, 71, 72, 73], [(68, 5)]) iv iv := FR.rf
  have hF2 : FR ([69, 70, 71, 72, 73], [(68, 5)]) rv rv := FR.rf
  have k1 : (1 : Int32).toInt = 1 := by decide
  refine lv_aload_n hx hb dX4_add_0 rfl (lv_at hl 0 rfl) ?_
  refine g_68_0 C hU hG (h1_68 hG) fl_X4_11 dX4_add_1 ?_
  refine lv_aload_n hx hb dX4_add_4 rfl (lv_at hl 0 rfl) ?_
  refine g_68_5 C hU hG (h1_68 hG) fl_X4_43 dX4_add_5 (fun x_1 e_2 le_2 ue_2 => ?_)
  have te_2 := congrArg Int32.toInt e_2
  refine lv_iload_n hx hb dX4_add_8 rfl (lv_at hl 1 rfl) ?_
  refine s_69 C hU hS (h1_69 hG) (x := x_1) (by omega) (by omega) dX4_add_9 (fun iv_3 H locs ei_4 hU hS => ?_)
  have hG : GI al iv_3 rv := by rw [ei_4]; exact hG.puti (show _ ∧ _ from ⟨show (0 : Int) ≤ _ by omega, show _ ≤ (9999 : Int) by omega⟩) (nsA (by decide) _)
  have hF1 : FR ([69, 70, 71, 72, 73], [(68, 5)]) iv iv_3 := by rw [ei_4]; exact hF1.put (Or.inl (by decide))
  have kf_5 := congrArg Int32.toInt (show iv_3 68 0 5 = iv 68 0 5 by rw [ei_4]; exact up3_ne (fun z => absurd z.1 (by decide)))
  refine lv_aload_n hx hb dX4_add_10 rfl (lv_at hl 0 rfl) ?_
  refine g_68_1 C hU hG (h1_68 hG) fl_X4_15 dX4_add_11 ?_
  refine lv_aload_n hx hb dX4_add_14 rfl (lv_at hl 0 rfl) ?_
  refine g_68_5 C hU hG (h1_68 hG) fl_X4_43 dX4_add_15 (fun x_6 e_7 le_7 ue_7 => ?_)
  have te_7 := congrArg Int32.toInt e_7
  refine lv_iload_n hx hb dX4_add_18 rfl (lv_at hl 2 rfl) ?_
  refine s_70 C hU hS (h1_70 hG) (x := x_6) (by omega) (by omega) dX4_add_19 (fun iv_8 H locs ei_9 hU hS => ?_)
  have hG : GI al iv_8 rv := by rw [ei_9]; exact hG.puti (show _ ∧ _ from ⟨show (0 : Int) ≤ _ by omega, show _ ≤ (9999 : Int) by omega⟩) (nsA (by decide) _)
  have hF1 : FR ([69, 70, 71, 72, 73], [(68, 5)]) iv iv_8 := by rw [ei_9]; exact hF1.put (Or.inl (by decide))
  have kf_10 := congrArg Int32.toInt (show iv_8 68 0 5 = iv_3 68 0 5 by rw [ei_9]; exact up3_ne (fun z => absurd z.1 (by decide)))
  refine lv_aload_n hx hb dX4_add_20 rfl (lv_at hl 0 rfl) ?_
  refine g_68_2 C hU hG (h1_68 hG) fl_X4_18 dX4_add_21 ?_
  refine lv_aload_n hx hb dX4_add_24 rfl (lv_at hl 0 rfl) ?_
  refine g_68_5 C hU hG (h1_68 hG) fl_X4_43 dX4_add_25 (fun x_11 e_12 le_12 ue_12 => ?_)
  have te_12 := congrArg Int32.toInt e_12
  refine lv_iload_n hx hb dX4_add_28 rfl (lv_at hl 3 rfl) ?_
  refine s_71 C hU hS (h1_71 hG) (x := x_11) (by omega) (by omega) dX4_add_29 (fun iv_13 H locs ei_14 hU hS => ?_)
  have hG : GI al iv_13 rv := by rw [ei_14]; exact hG.puti (show _ ∧ _ from ⟨show (0 : Int) ≤ _ by omega, show _ ≤ (9999 : Int) by omega⟩) (nsA (by decide) _)
  have hF1 : FR ([69, 70, 71, 72, 73], [(68, 5)]) iv iv_13 := by rw [ei_14]; exact hF1.put (Or.inl (by decide))
  have kf_15 := congrArg Int32.toInt (show iv_13 68 0 5 = iv_8 68 0 5 by rw [ei_14]; exact up3_ne (fun z => absurd z.1 (by decide)))
  refine lv_aload_n hx hb dX4_add_30 rfl (lv_at hl 0 rfl) ?_
  refine g_68_3 C hU hG (h1_68 hG) fl_X4_21 dX4_add_31 ?_
  refine lv_aload_n hx hb dX4_add_34 rfl (lv_at hl 0 rfl) ?_
  refine g_68_5 C hU hG (h1_68 hG) fl_X4_43 dX4_add_35 (fun x_16 e_17 le_17 ue_17 => ?_)
  have te_17 := congrArg Int32.toInt e_17
  refine lv_iload hx hb dX4_add_38 (lv_at hl 4 rfl) ?_
  refine s_72 C hU hS (h1_72 hG) (x := x_16) (by omega) (by omega) dX4_add_40 (fun iv_18 H locs ei_19 hU hS => ?_)
  have hG : GI al iv_18 rv := by rw [ei_19]; exact hG.puti (show _ ∧ _ from ⟨show (0 : Int) ≤ _ by omega, show _ ≤ (9999 : Int) by omega⟩) (nsA (by decide) _)
  have hF1 : FR ([69, 70, 71, 72, 73], [(68, 5)]) iv iv_18 := by rw [ei_19]; exact hF1.put (Or.inl (by decide))
  have kf_20 := congrArg Int32.toInt (show iv_18 68 0 5 = iv_13 68 0 5 by rw [ei_19]; exact up3_ne (fun z => absurd z.1 (by decide)))
  refine lv_aload_n hx hb dX4_add_41 rfl (lv_at hl 0 rfl) ?_
  refine g_68_4 C hU hG (h1_68 hG) fl_X4_24 dX4_add_42 ?_
  refine lv_aload_n hx hb dX4_add_45 rfl (lv_at hl 0 rfl) ?_
  refine g_68_5 C hU hG (h1_68 hG) fl_X4_43 dX4_add_46 (fun x_21 e_22 le_22 ue_22 => ?_)
  have te_22 := congrArg Int32.toInt e_22
  refine lv_iload hx hb dX4_add_49 (lv_at hl 5 rfl) ?_
  refine s_73 C hU hS (h1_73 hG) (x := x_21) (by omega) (by omega) dX4_add_51 (fun iv_23 H locs ei_24 hU hS => ?_)
  have hG : GI al iv_23 rv := by rw [ei_24]; exact hG.puti (show _ ∧ _ from ⟨show (0 : Int) ≤ _ by omega, show _ ≤ (9999 : Int) by omega⟩) (nsA (by decide) _)
  have hF1 : FR ([69, 70, 71, 72, 73], [(68, 5)]) iv iv_23 := by rw [ei_24]; exact hF1.put (Or.inl (by decide))
  have kf_25 := congrArg Int32.toInt (show iv_23 68 0 5 = iv_18 68 0 5 by rw [ei_24]; exact up3_ne (fun z => absurd z.1 (by decide)))
  refine lv_aload_n hx hb dX4_add_52 rfl (lv_at hl 0 rfl) ?_
  refine lv_dup hx hb dX4_add_53 rfl ?_
  refine g_68_5 C hU hG (h1_68 hG) fl_X4_43 dX4_add_54 (fun x_26 e_27 le_27 ue_27 => ?_)
  have te_27 := congrArg Int32.toInt e_27
  refine lv_iconst (v := 1) hx hb dX4_add_57 (by decide) ?_
  refine lv_iadd hx hb dX4_add_58 ?_
  refine lv_topi (fun x_28 e_29 => ?_)
  have te_29 : x_28.toInt = (x_26 : Int32).toInt + (1 : Int32).toInt := by rw [e_29]; exact fb_addI (by omega) (by omega)
  refine p_68_5 C hU hS (h1_68 hG) fl_X4_43 dX4_add_59 (fun iv_30 H locs ei_31 hU hS => ?_)
  have hG : GI al iv_30 rv := by rw [ei_31]; exact hG.puti (show _ ∧ _ from ⟨show (0 : Int) ≤ _ by omega, show _ ≤ (30 : Int) by omega⟩) (nsF (by decide))
  have hF1 : FR ([69, 70, 71, 72, 73], [(68, 5)]) iv iv_30 := by rw [ei_31]; exact hF1.put (by decide)
  refine lv_aload_n hx hb dX4_add_62 rfl (lv_at hl 0 rfl) ?_
  refine g_68_5 C hU hG (h1_68 hG) fl_X4_43 dX4_add_63 (fun x_32 e_33 le_33 ue_33 => ?_)
  have te_33 := congrArg Int32.toInt e_33
  have hz_ := e_33
  rw [ei_31, up3_self] at hz_
  have tz_ := congrArg Int32.toInt hz_
  refine lv_iconst (v := 1) hx hb dX4_add_66 (by decide) ?_
  refine lv_isub hx hb dX4_add_67 ?_
  refine lv_topi (fun x_34 e_35 => ?_)
  have te_35 : x_34.toInt = (x_32 : Int32).toInt - (1 : Int32).toInt := by rw [e_35]; exact fb_subI (by omega) (by omega)
  exact hret (⟨hG, hF1, hF2, ⟨by omega, by rw [ei_31, up3_self]; omega, fun k => ⟨by rw [ei_31, up3_ne (fun z => absurd z.1 (by decide)), ei_24, up3_ne (fun z => absurd z.1 (by decide)), ei_19, up3_ne (fun z => absurd z.1 (by decide)), ei_14, up3_ne (fun z => absurd z.1 (by decide)), ei_9, up3_ne (fun z => absurd z.1 (by decide)), ei_4, clamp_eq (show (x_1 : Int32).toInt = (iv 68 0 5).toInt by omega), up3_k], by rw [ei_31, up3_ne (fun z => absurd z.1 (by decide)), ei_24, up3_ne (fun z => absurd z.1 (by decide)), ei_19, up3_ne (fun z => absurd z.1 (by decide)), ei_14, up3_ne (fun z => absurd z.1 (by decide)), ei_9, clamp_eq (show (x_6 : Int32).toInt = (iv 68 0 5).toInt by omega), up3_k, ei_4, up3_ne (fun z => absurd z.1 (by decide))], by rw [ei_31, up3_ne (fun z => absurd z.1 (by decide)), ei_24, up3_ne (fun z => absurd z.1 (by decide)), ei_19, up3_ne (fun z => absurd z.1 (by decide)), ei_14, clamp_eq (show (x_11 : Int32).toInt = (iv 68 0 5).toInt by omega), up3_k, ei_9, up3_ne (fun z => absurd z.1 (by decide)), ei_4, up3_ne (fun z => absurd z.1 (by decide))], by rw [ei_31, up3_ne (fun z => absurd z.1 (by decide)), ei_24, up3_ne (fun z => absurd z.1 (by decide)), ei_19, clamp_eq (show (x_16 : Int32).toInt = (iv 68 0 5).toInt by omega), up3_k, ei_14, up3_ne (fun z => absurd z.1 (by decide)), ei_9, up3_ne (fun z => absurd z.1 (by decide)), ei_4, up3_ne (fun z => absurd z.1 (by decide))], by rw [ei_31, up3_ne (fun z => absurd z.1 (by decide)), ei_24, clamp_eq (show (x_21 : Int32).toInt = (iv 68 0 5).toInt by omega), up3_k, ei_19, up3_ne (fun z => absurd z.1 (by decide)), ei_14, up3_ne (fun z => absurd z.1 (by decide)), ei_9, up3_ne (fun z => absurd z.1 (by decide)), ei_4, up3_ne (fun z => absurd z.1 (by decide))]⟩⟩⟩) hU hS dX4_add_68
set_option maxHeartbeats 4000000 in
set_option maxRecDepth 100000 in
theorem c_X11_law_y {l : Launch} {D : va_G} {cA : FieldType → ClassId} {sz : Nat} {al : Al} {iv : Iv} {rv : Rv} (hG : GI al iv rv) (lw : Int32) (d : Int32) (mm : Int32) (far : Int32) (sm : Int32) : Met l yX11_law (wd yX11_law cX11_law 6 (some .int)) (rm 2) (PcW D cA sz al iv rv [.ref (al.2 49 0), .int lw, .int d, .int mm, .int far, .int sm]) (QI D cA sz al (fI al ([51, 69, 70, 71, 72, 73], [(68, 5)]) iv rv (fun r iv' rv' => (spLaw lw d mm far sm (iv 49 0 9).toInt (iv 68 0 5).toInt = 0 ∧ r.toInt = (iv 68 0 5).toInt ∧ (iv' 68 0 5).toInt = (iv 68 0 5).toInt + 1 ∧ (∀ k : Nat, iv' 69 0 k = (if k = (iv 68 0 5).toNatClampNeg then lw else iv 69 0 k) ∧ iv' 70 0 k = (if k = (iv 68 0 5).toNatClampNeg then d else iv 70 0 k) ∧ iv' 71 0 k = (if k = (iv 68 0 5).toNatClampNeg then mm else iv 71 0 k) ∧ iv' 72 0 k = (if k = (iv 68 0 5).toNatClampNeg then far else iv 72 0 k) ∧ iv' 73 0 k = (if k = (iv 68 0 5).toNatClampNeg then sm else iv 73 0 k))) ∨ (spLaw lw d mm far sm (iv 49 0 9).toInt (iv 68 0 5).toInt ≠ 0 ∧ r = spLaw lw d mm far sm (iv 49 0 9).toInt (iv 68 0 5).toInt ∧ iv' 68 0 5 = iv 68 0 5 ∧ (∀ k : Nat, iv' 69 0 k = iv 69 0 k ∧ iv' 70 0 k = iv 70 0 k ∧ iv' 71 0 k = iv 71 0 k ∧ iv' 72 0 k = iv 72 0 k ∧ iv' 73 0 k = iv 73 0 k))))) 0 0 (Aq sz) := by
  refine mk_i (by decide) (Nat.le_of_ble_eq_true rfl) rfl ?_
  intro p e s m args below meth c ls Q H locs C hU hS hl hret
  have hx := C.1.1
  have hb := C.1.2.1
  have hl : lv_has ls 6 [(0, .ref (al.2 49 0)), (1, .int lw), (2, .int d), (3, .int mm), (4, .int far), (5, .int sm)] := hl
  have hG0 := hG
  have hF1 : FR ([51, 69, 70, 71, 72, 73], [(68, 5)]) iv iv := FR.rf
  have hF2 : FR ([51, 69, 70, 71, 72, 73], [(68, 5)]) rv rv := FR.rf
  have km6 : ((-6) : Int32).toInt = -6 := by decide
  have km4 : ((-4) : Int32).toInt = -4 := by decide
  have km1 : ((-1) : Int32).toInt = -1 := by decide
  have k4 : (4 : Int32).toInt = 4 := by decide
  have k4000 : (4000 : Int32).toInt = 4000 := by decide
  have k9999 : (9999 : Int32).toInt = 9999 := by decide
  refine lv_iconst (v := 4) hx hb dX11_law_0 (by decide) ?_
  refine lv_iload_n hx hb dX11_law_1 rfl (lv_at hl 1 rfl) ?_
  refine q_pi (q_runS (As := [.int 4, .int lw]) (rest := []) C hU (c_X11_isOneOf  4 lw ) sm_X11_isOneOf ml_X11_85 hl.1 rfl rfl (Nat.le_of_ble_eq_true rfl) dX11_law_2 rfl rfl ⟨Nat.le_of_ble_eq_true rfl, Nat.le_of_ble_eq_true rfl⟩ ⟨Nat.le_refl _, Nat.le_refl _⟩) hS (fun x_2 H locs hp_1 hU hS => ?_)
  refine b_if_ne (tgt := 14) hx hb dX11_law_5 (by decide) (fun c_3 => ?_) (fun c_3 => ?_)
  ·
    refine lv_iload_n hx hb dX11_law_14 rfl (lv_at hl 2 rfl) ?_
    refine lv_aload_n hx hb dX11_law_15 rfl (lv_at hl 0 rfl) ?_
    refine g_49_9 C hU hG (h1_49 hG) fl_X11_73 dX11_law_16 (fun x_4 e_5 le_5 ue_5 => ?_)
    have te_5 := congrArg Int32.toInt e_5
    refine b_icmp_lt (tgt := 36) hx hb dX11_law_19 (by decide) (fun c_6 => ?_) (fun c_6 => ?_)
    ·
      refine lv_aload_n hx hb dX11_law_36 rfl (lv_at hl 0 rfl) ?_
      refine lv_bipush (v := (-4)) hx hb dX11_law_37 (by decide) ?_
      refine q_fi (q_runV (t := 49) (i := 0) (As := [.int (-4)]) (rest := []) C hU (c_X11_refuse hG (-4) (by omega)) vm_X11_refuse ml_X11_77 k_49.1 (hc := rfl) rfl (h1_49 hG) hl.1 rfl rfl (Nat.le_of_ble_eq_true rfl) dX11_law_39 rfl rfl ⟨Nat.le_of_ble_eq_true rfl, Nat.le_of_ble_eq_true rfl⟩ ⟨Nat.le_refl _, Nat.le_refl _⟩) hS (fun x_12 iv_8 rv_9 H locs hG fa_10 fb_11 hp_7 hU hS => ?_)
      have hF1 := hF1.tr (m := ([51, 69, 70, 71, 72, 73], [(68, 5)])) fa_10 (by decide)
      have hF2 := hF2.tr (m := ([51, 69, 70, 71, 72, 73], [(68, 5)])) fb_11 (by decide)
      exact hret (⟨hG, hF1, hF2, sp_no (z := (-4)) (by unfold spLaw; (repeat' split) <;> first | rfl | omega) (by decide) hp_7 (⟨fa_10 68 0 5 (by decide), fun k => ⟨fa_10.arr 69 0 k (by decide), fa_10.arr 70 0 k (by decide), fa_10.arr 71 0 k (by decide), fa_10.arr 72 0 k (by decide), fa_10.arr 73 0 k (by decide)⟩⟩)⟩) hU hS dX11_law_42
    ·
      refine lv_iload_n hx hb dX11_law_22 rfl (lv_at hl 3 rfl) ?_
      refine b_if_lt (tgt := 36) hx hb dX11_law_23 (by decide) (fun c_13 => ?_) (fun c_13 => ?_)
      ·
        refine lv_aload_n hx hb dX11_law_36 rfl (lv_at hl 0 rfl) ?_
        refine lv_bipush (v := (-4)) hx hb dX11_law_37 (by decide) ?_
        refine q_fi (q_runV (t := 49) (i := 0) (As := [.int (-4)]) (rest := []) C hU (c_X11_refuse hG (-4) (by omega)) vm_X11_refuse ml_X11_77 k_49.1 (hc := rfl) rfl (h1_49 hG) hl.1 rfl rfl (Nat.le_of_ble_eq_true rfl) dX11_law_39 rfl rfl ⟨Nat.le_of_ble_eq_true rfl, Nat.le_of_ble_eq_true rfl⟩ ⟨Nat.le_refl _, Nat.le_refl _⟩) hS (fun x_19 iv_15 rv_16 H locs hG fa_17 fb_18 hp_14 hU hS => ?_)
        have hF1 := hF1.tr (m := ([51, 69, 70, 71, 72, 73], [(68, 5)])) fa_17 (by decide)
        have hF2 := hF2.tr (m := ([51, 69, 70, 71, 72, 73], [(68, 5)])) fb_18 (by decide)
        exact hret (⟨hG, hF1, hF2, sp_no (z := (-4)) (by unfold spLaw; (repeat' split) <;> first | rfl | omega) (by decide) hp_14 (⟨fa_17 68 0 5 (by decide), fun k => ⟨fa_17.arr 69 0 k (by decide), fa_17.arr 70 0 k (by decide), fa_17.arr 71 0 k (by decide), fa_17.arr 72 0 k (by decide), fa_17.arr 73 0 k (by decide)⟩⟩)⟩) hU hS dX11_law_42
      ·
        refine lv_iload hx hb dX11_law_26 (lv_at hl 4 rfl) ?_
        refine b_if_lt (tgt := 36) hx hb dX11_law_28 (by decide) (fun c_20 => ?_) (fun c_20 => ?_)
        ·
          refine lv_aload_n hx hb dX11_law_36 rfl (lv_at hl 0 rfl) ?_
          refine lv_bipush (v := (-4)) hx hb dX11_law_37 (by decide) ?_
          refine q_fi (q_runV (t := 49) (i := 0) (As := [.int (-4)]) (rest := []) C hU (c_X11_refuse hG (-4) (by omega)) vm_X11_refuse ml_X11_77 k_49.1 (hc := rfl) rfl (h1_49 hG) hl.1 rfl rfl (Nat.le_of_ble_eq_true rfl) dX11_law_39 rfl rfl ⟨Nat.le_of_ble_eq_true rfl, Nat.le_of_ble_eq_true rfl⟩ ⟨Nat.le_refl _, Nat.le_refl _⟩) hS (fun x_26 iv_22 rv_23 H locs hG fa_24 fb_25 hp_21 hU hS => ?_)
          have hF1 := hF1.tr (m := ([51, 69, 70, 71, 72, 73], [(68, 5)])) fa_24 (by decide)
          have hF2 := hF2.tr (m := ([51, 69, 70, 71, 72, 73], [(68, 5)])) fb_25 (by decide)
          exact hret (⟨hG, hF1, hF2, sp_no (z := (-4)) (by unfold spLaw; (repeat' split) <;> first | rfl | omega) (by decide) hp_21 (⟨fa_24 68 0 5 (by decide), fun k => ⟨fa_24.arr 69 0 k (by decide), fa_24.arr 70 0 k (by decide), fa_24.arr 71 0 k (by decide), fa_24.arr 72 0 k (by decide), fa_24.arr 73 0 k (by decide)⟩⟩)⟩) hU hS dX11_law_42
        ·
          refine lv_iload hx hb dX11_law_31 (lv_at hl 5 rfl) ?_
          refine b_if_ge (tgt := 43) hx hb dX11_law_33 (by decide) (fun c_27 => ?_) (fun c_27 => ?_)
          ·
            refine lv_iload_n hx hb dX11_law_43 rfl (lv_at hl 2 rfl) ?_
            refine lv_sipush (v := 4000) hx hb dX11_law_44 (by decide) ?_
            refine b_icmp_gt (tgt := 73) hx hb dX11_law_47 (by decide) (fun c_28 => ?_) (fun c_28 => ?_)
            ·
              refine lv_aload_n hx hb dX11_law_73 rfl (lv_at hl 0 rfl) ?_
              refine lv_bipush (v := (-6)) hx hb dX11_law_74 (by decide) ?_
              refine q_fi (q_runV (t := 49) (i := 0) (As := [.int (-6)]) (rest := []) C hU (c_X11_refuse hG (-6) (by omega)) vm_X11_refuse ml_X11_77 k_49.1 (hc := rfl) rfl (h1_49 hG) hl.1 rfl rfl (Nat.le_of_ble_eq_true rfl) dX11_law_76 rfl rfl ⟨Nat.le_of_ble_eq_true rfl, Nat.le_of_ble_eq_true rfl⟩ ⟨Nat.le_refl _, Nat.le_refl _⟩) hS (fun x_34 iv_30 rv_31 H locs hG fa_32 fb_33 hp_29 hU hS => ?_)
              have hF1 := hF1.tr (m := ([51, 69, 70, 71, 72, 73], [(68, 5)])) fa_32 (by decide)
              have hF2 := hF2.tr (m := ([51, 69, 70, 71, 72, 73], [(68, 5)])) fb_33 (by decide)
              exact hret (⟨hG, hF1, hF2, sp_no (z := (-6)) (by unfold spLaw; (repeat' split) <;> first | rfl | omega) (by decide) hp_29 (⟨fa_32 68 0 5 (by decide), fun k => ⟨fa_32.arr 69 0 k (by decide), fa_32.arr 70 0 k (by decide), fa_32.arr 71 0 k (by decide), fa_32.arr 72 0 k (by decide), fa_32.arr 73 0 k (by decide)⟩⟩)⟩) hU hS dX11_law_79
            ·
              refine lv_iload_n hx hb dX11_law_50 rfl (lv_at hl 3 rfl) ?_
              refine lv_sipush (v := 9999) hx hb dX11_law_51 (by decide) ?_
              refine b_icmp_gt (tgt := 73) hx hb dX11_law_54 (by decide) (fun c_35 => ?_) (fun c_35 => ?_)
              ·
                refine lv_aload_n hx hb dX11_law_73 rfl (lv_at hl 0 rfl) ?_
                refine lv_bipush (v := (-6)) hx hb dX11_law_74 (by decide) ?_
                refine q_fi (q_runV (t := 49) (i := 0) (As := [.int (-6)]) (rest := []) C hU (c_X11_refuse hG (-6) (by omega)) vm_X11_refuse ml_X11_77 k_49.1 (hc := rfl) rfl (h1_49 hG) hl.1 rfl rfl (Nat.le_of_ble_eq_true rfl) dX11_law_76 rfl rfl ⟨Nat.le_of_ble_eq_true rfl, Nat.le_of_ble_eq_true rfl⟩ ⟨Nat.le_refl _, Nat.le_refl _⟩) hS (fun x_41 iv_37 rv_38 H locs hG fa_39 fb_40 hp_36 hU hS => ?_)
                have hF1 := hF1.tr (m := ([51, 69, 70, 71, 72, 73], [(68, 5)])) fa_39 (by decide)
                have hF2 := hF2.tr (m := ([51, 69, 70, 71, 72, 73], [(68, 5)])) fb_40 (by decide)
                exact hret (⟨hG, hF1, hF2, sp_no (z := (-6)) (by unfold spLaw; (repeat' split) <;> first | rfl | omega) (by decide) hp_36 (⟨fa_39 68 0 5 (by decide), fun k => ⟨fa_39.arr 69 0 k (by decide), fa_39.arr 70 0 k (by decide), fa_39.arr 71 0 k (by decide), fa_39.arr 72 0 k (by decide), fa_39.arr 73 0 k (by decide)⟩⟩)⟩) hU hS dX11_law_79
              ·
                refine lv_iload hx hb dX11_law_57 (lv_at hl 4 rfl) ?_
                refine lv_sipush (v := 9999) hx hb dX11_law_59 (by decide) ?_
                refine b_icmp_gt (tgt := 73) hx hb dX11_law_62 (by decide) (fun c_42 => ?_) (fun c_42 => ?_)
                ·
                  refine lv_aload_n hx hb dX11_law_73 rfl (lv_at hl 0 rfl) ?_
                  refine lv_bipush (v := (-6)) hx hb dX11_law_74 (by decide) ?_
                  refine q_fi (q_runV (t := 49) (i := 0) (As := [.int (-6)]) (rest := []) C hU (c_X11_refuse hG (-6) (by omega)) vm_X11_refuse ml_X11_77 k_49.1 (hc := rfl) rfl (h1_49 hG) hl.1 rfl rfl (Nat.le_of_ble_eq_true rfl) dX11_law_76 rfl rfl ⟨Nat.le_of_ble_eq_true rfl, Nat.le_of_ble_eq_true rfl⟩ ⟨Nat.le_refl _, Nat.le_refl _⟩) hS (fun x_48 iv_44 rv_45 H locs hG fa_46 fb_47 hp_43 hU hS => ?_)
                  have hF1 := hF1.tr (m := ([51, 69, 70, 71, 72, 73], [(68, 5)])) fa_46 (by decide)
                  have hF2 := hF2.tr (m := ([51, 69, 70, 71, 72, 73], [(68, 5)])) fb_47 (by decide)
                  exact hret (⟨hG, hF1, hF2, sp_no (z := (-6)) (by unfold spLaw; (repeat' split) <;> first | rfl | omega) (by decide) hp_43 (⟨fa_46 68 0 5 (by decide), fun k => ⟨fa_46.arr 69 0 k (by decide), fa_46.arr 70 0 k (by decide), fa_46.arr 71 0 k (by decide), fa_46.arr 72 0 k (by decide), fa_46.arr 73 0 k (by decide)⟩⟩)⟩) hU hS dX11_law_79
                ·
                  refine lv_iload hx hb dX11_law_65 (lv_at hl 5 rfl) ?_
                  refine lv_sipush (v := 9999) hx hb dX11_law_67 (by decide) ?_
                  refine b_icmp_le (tgt := 80) hx hb dX11_law_70 (by decide) (fun c_49 => ?_) (fun c_49 => ?_)
                  ·
                    refine lv_aload_n hx hb dX11_law_80 rfl (lv_at hl 0 rfl) ?_
                    refine g_49_3 C hU hG (h1_49 hG) fl_X11_33 dX11_law_81 ?_
                    refine q_pi (q_runV (t := 68) (i := 0) (As := []) (rest := []) C hU (c_X4_isFull hG  ) vm_X4_isFull ml_X11_221 k_68.1 (hc := rfl) rfl (h1_68 hG) hl.1 rfl rfl (Nat.le_of_ble_eq_true rfl) dX11_law_84 rfl rfl ⟨Nat.le_of_ble_eq_true rfl, Nat.le_of_ble_eq_true rfl⟩ ⟨Nat.le_refl _, Nat.le_refl _⟩) hS (fun x_51 H locs hp_50 hU hS => ?_)
                    refine b_if_eq (tgt := 97) hx hb dX11_law_87 (by decide) (fun c_52 => ?_) (fun c_52 => ?_)
                    ·
                      refine lv_aload_n hx hb dX11_law_97 rfl (lv_at hl 0 rfl) ?_
                      refine g_49_3 C hU hG (h1_49 hG) fl_X11_33 dX11_law_98 ?_
                      refine lv_iload_n hx hb dX11_law_101 rfl (lv_at hl 1 rfl) ?_
                      refine lv_iload_n hx hb dX11_law_102 rfl (lv_at hl 2 rfl) ?_
                      refine lv_iload_n hx hb dX11_law_103 rfl (lv_at hl 3 rfl) ?_
                      refine lv_iload hx hb dX11_law_104 (lv_at hl 4 rfl) ?_
                      refine lv_iload hx hb dX11_law_106 (lv_at hl 5 rfl) ?_
                      refine q_fi (q_runV (t := 68) (i := 0) (As := [.int lw, .int d, .int mm, .int far, .int sm]) (rest := []) C hU (c_X4_add_y hG lw d mm far sm (by omega) (by omega) (by omega) (by omega) (by omega) (by omega)) vm_X4_add ml_X11_222 k_68.1 (hc := rfl) rfl (h1_68 hG) hl.1 rfl rfl (Nat.le_of_ble_eq_true rfl) dX11_law_108 rfl rfl ⟨Nat.le_of_ble_eq_true rfl, Nat.le_of_ble_eq_true rfl⟩ ⟨Nat.le_refl _, Nat.le_refl _⟩) hS (fun x_58 iv_54 rv_55 H locs hG fa_56 fb_57 hp_53 hU hS => ?_)
                      have hF1 := hF1.tr (m := ([51, 69, 70, 71, 72, 73], [(68, 5)])) fa_56 (by decide)
                      have hF2 := hF2.tr (m := ([51, 69, 70, 71, 72, 73], [(68, 5)])) fb_57 (by decide)
                      exact hret (⟨hG, hF1, hF2, Or.inl ⟨(by unfold spLaw; (repeat' split) <;> first | rfl | omega), hp_53.1, hp_53.2.1, hp_53.2.2⟩⟩) hU hS dX11_law_111
                    ·
                      refine lv_aload_n hx hb dX11_law_90 rfl (lv_at hl 0 rfl) ?_
                      refine lv_bipush (v := (-6)) hx hb dX11_law_91 (by decide) ?_
                      refine q_fi (q_runV (t := 49) (i := 0) (As := [.int (-6)]) (rest := []) C hU (c_X11_refuse hG (-6) (by omega)) vm_X11_refuse ml_X11_77 k_49.1 (hc := rfl) rfl (h1_49 hG) hl.1 rfl rfl (Nat.le_of_ble_eq_true rfl) dX11_law_93 rfl rfl ⟨Nat.le_of_ble_eq_true rfl, Nat.le_of_ble_eq_true rfl⟩ ⟨Nat.le_refl _, Nat.le_refl _⟩) hS (fun x_64 iv_60 rv_61 H locs hG fa_62 fb_63 hp_59 hU hS => ?_)
                      have hF1 := hF1.tr (m := ([51, 69, 70, 71, 72, 73], [(68, 5)])) fa_62 (by decide)
                      have hF2 := hF2.tr (m := ([51, 69, 70, 71, 72, 73], [(68, 5)])) fb_63 (by decide)
                      exact hret (⟨hG, hF1, hF2, sp_no (z := (-6)) (by unfold spLaw; (repeat' split) <;> first | rfl | omega) (by decide) hp_59 (⟨fa_62 68 0 5 (by decide), fun k => ⟨fa_62.arr 69 0 k (by decide), fa_62.arr 70 0 k (by decide), fa_62.arr 71 0 k (by decide), fa_62.arr 72 0 k (by decide), fa_62.arr 73 0 k (by decide)⟩⟩)⟩) hU hS dX11_law_96
                  ·
                    refine lv_aload_n hx hb dX11_law_73 rfl (lv_at hl 0 rfl) ?_
                    refine lv_bipush (v := (-6)) hx hb dX11_law_74 (by decide) ?_
                    refine q_fi (q_runV (t := 49) (i := 0) (As := [.int (-6)]) (rest := []) C hU (c_X11_refuse hG (-6) (by omega)) vm_X11_refuse ml_X11_77 k_49.1 (hc := rfl) rfl (h1_49 hG) hl.1 rfl rfl (Nat.le_of_ble_eq_true rfl) dX11_law_76 rfl rfl ⟨Nat.le_of_ble_eq_true rfl, Nat.le_of_ble_eq_true rfl⟩ ⟨Nat.le_refl _, Nat.le_refl _⟩) hS (fun x_70 iv_66 rv_67 H locs hG fa_68 fb_69 hp_65 hU hS => ?_)
                    have hF1 := hF1.tr (m := ([51, 69, 70, 71, 72, 73], [(68, 5)])) fa_68 (by decide)
                    have hF2 := hF2.tr (m := ([51, 69, 70, 71, 72, 73], [(68, 5)])) fb_69 (by decide)
                    exact hret (⟨hG, hF1, hF2, sp_no (z := (-6)) (by unfold spLaw; (repeat' split) <;> first | rfl | omega) (by decide) hp_65 (⟨fa_68 68 0 5 (by decide), fun k => ⟨fa_68.arr 69 0 k (by decide), fa_68.arr 70 0 k (by decide), fa_68.arr 71 0 k (by decide), fa_68.arr 72 0 k (by decide), fa_68.arr 73 0 k (by decide)⟩⟩)⟩) hU hS dX11_law_79
          ·
            refine lv_aload_n hx hb dX11_law_36 rfl (lv_at hl 0 rfl) ?_
            refine lv_bipush (v := (-4)) hx hb dX11_law_37 (by decide) ?_
            refine q_fi (q_runV (t := 49) (i := 0) (As := [.int (-4)]) (rest := []) C hU (c_X11_refuse hG (-4) (by omega)) vm_X11_refuse ml_X11_77 k_49.1 (hc := rfl) rfl (h1_49 hG) hl.1 rfl rfl (Nat.le_of_ble_eq_true rfl) dX11_law_39 rfl rfl ⟨Nat.le_of_ble_eq_true rfl, Nat.le_of_ble_eq_true rfl⟩ ⟨Nat.le_refl _, Nat.le_refl _⟩) hS (fun x_76 iv_72 rv_73 H locs hG fa_74 fb_75 hp_71 hU hS => ?_)
            have hF1 := hF1.tr (m := ([51, 69, 70, 71, 72, 73], [(68, 5)])) fa_74 (by decide)
            have hF2 := hF2.tr (m := ([51, 69, 70, 71, 72, 73], [(68, 5)])) fb_75 (by decide)
            exact hret (⟨hG, hF1, hF2, sp_no (z := (-4)) (by unfold spLaw; (repeat' split) <;> first | rfl | omega) (by decide) hp_71 (⟨fa_74 68 0 5 (by decide), fun k => ⟨fa_74.arr 69 0 k (by decide), fa_74.arr 70 0 k (by decide), fa_74.arr 71 0 k (by decide), fa_74.arr 72 0 k (by decide), fa_74.arr 73 0 k (by decide)⟩⟩)⟩) hU hS dX11_law_42
  ·
    refine lv_aload_n hx hb dX11_law_8 rfl (lv_at hl 0 rfl) ?_
    refine lv_iconst (v := (-1)) hx hb dX11_law_9 (by decide) ?_
    refine q_fi (q_runV (t := 49) (i := 0) (As := [.int (-1)]) (rest := []) C hU (c_X11_refuse hG (-1) (by omega)) vm_X11_refuse ml_X11_77 k_49.1 (hc := rfl) rfl (h1_49 hG) hl.1 rfl rfl (Nat.le_of_ble_eq_true rfl) dX11_law_10 rfl rfl ⟨Nat.le_of_ble_eq_true rfl, Nat.le_of_ble_eq_true rfl⟩ ⟨Nat.le_refl _, Nat.le_refl _⟩) hS (fun x_82 iv_78 rv_79 H locs hG fa_80 fb_81 hp_77 hU hS => ?_)
    have hF1 := hF1.tr (m := ([51, 69, 70, 71, 72, 73], [(68, 5)])) fa_80 (by decide)
    have hF2 := hF2.tr (m := ([51, 69, 70, 71, 72, 73], [(68, 5)])) fb_81 (by decide)
    exact hret (⟨hG, hF1, hF2, sp_no (z := (-1)) (by unfold spLaw; (repeat' split) <;> first | rfl | omega) (by decide) hp_77 (⟨fa_80 68 0 5 (by decide), fun k => ⟨fa_80.arr 69 0 k (by decide), fa_80.arr 70 0 k (by decide), fa_80.arr 71 0 k (by decide), fa_80.arr 72 0 k (by decide), fa_80.arr 73 0 k (by decide)⟩⟩)⟩) hU hS dX11_law_13
set_option maxHeartbeats 4000000 in
set_option maxRecDepth 100000 in
theorem c_X12_excuse_y {l : Launch} {D : va_G} {cA : FieldType → ClassId} {sz : Nat} {al : Al} {iv : Iv} {rv : Rv} (hG : GI al iv rv) (lw : Int32) (cs : Int32) (d : Int32) (on : Int32) (pre0 : 0 ≤ on.toInt ∧ on.toInt ≤ 1) : Met l yX12_excuse (wd yX12_excuse cX12_excuse 5 (some .int)) (rm 2) (PcW D cA sz al iv rv [.ref (al.2 0 0), .int lw, .int cs, .int d, .int on]) (QI D cA sz al (fI al ([16, 26, 27, 28, 29, 30], [(0, 30)]) iv rv (fun r iv' rv' => (spExc lw cs d (iv 0 0 30).toInt = 0 ∧ r.toInt = (iv 0 0 30).toInt + 1 ∧ (iv' 0 0 30).toInt = (iv 0 0 30).toInt + 1 ∧ (∀ k : Nat, iv' 26 0 k = (if k = (iv 0 0 30).toNatClampNeg then lw else iv 26 0 k) ∧ iv' 27 0 k = (if k = (iv 0 0 30).toNatClampNeg then cs else iv 27 0 k) ∧ iv' 28 0 k = (if k = (iv 0 0 30).toNatClampNeg then d else iv 28 0 k) ∧ iv' 29 0 k = (if k = (iv 0 0 30).toNatClampNeg then iv 0 0 0 else iv 29 0 k) ∧ iv' 30 0 k = (if k = (iv 0 0 30).toNatClampNeg then on else iv 30 0 k))) ∨ (spExc lw cs d (iv 0 0 30).toInt ≠ 0 ∧ r = spExc lw cs d (iv 0 0 30).toInt ∧ iv' 0 0 30 = iv 0 0 30 ∧ (∀ k : Nat, iv' 26 0 k = iv 26 0 k ∧ iv' 27 0 k = iv 27 0 k ∧ iv' 28 0 k = iv 28 0 k ∧ iv' 29 0 k = iv 29 0 k ∧ iv' 30 0 k = iv 30 0 k))))) 0 0 (Aq sz) := by
  refine mk_i (by decide) (Nat.le_of_ble_eq_true rfl) rfl ?_
  intro p e s m args below meth c ls Q H locs C hU hS hl hret
  have hx := C.1.1
  have hb := C.1.2.1
  have hl : lv_has ls 5 [(0, .ref (al.2 0 0)), (1, .int lw), (2, .int cs), (3, .int d), (4, .int on)] := hl
  have hG0 := hG
  have h6 := le6 hG
  have h20 := le20 hG
  have h41 := le41 hG
  have hF1 : FR ([16, 26, 27, 28, 29, 30], [(0, 30)]) iv iv := FR.rf
  have hF2 : FR ([16, 26, 27, 28, 29, 30], [(0, 30)]) rv rv := FR.rf
  have km6 : ((-6) : Int32).toInt = -6 := by decide
  have km4 : ((-4) : Int32).toInt = -4 := by decide
  have km1 : ((-1) : Int32).toInt = -1 := by decide
  have k1 : (1 : Int32).toInt = 1 := by decide
  have k40 : (40 : Int32).toInt = 40 := by decide
  have k4000 : (4000 : Int32).toInt = 4000 := by decide
  refine lv_iload_n hx hb dX12_excuse_0 rfl (lv_at hl 1 rfl) ?_
  refine q_pi (q_runS (As := [.int lw]) (rest := []) C hU (c_X12_isLand  lw ) sm_X12_isLand ml_X12_244 hl.1 rfl rfl (Nat.le_of_ble_eq_true rfl) dX12_excuse_1 rfl rfl ⟨Nat.le_of_ble_eq_true rfl, Nat.le_of_ble_eq_true rfl⟩ ⟨Nat.le_refl _, Nat.le_refl _⟩) hS (fun x_2 H locs hp_1 hU hS => ?_)
  refine b_if_eq (tgt := 14) hx hb dX12_excuse_4 (by decide) (fun c_3 => ?_) (fun c_3 => ?_)
  ·
    refine lv_aload_n hx hb dX12_excuse_14 rfl (lv_at hl 0 rfl) ?_
    refine lv_iconst (v := (-1)) hx hb dX12_excuse_15 (by decide) ?_
    refine q_fi (q_runV (t := 0) (i := 0) (As := [.int (-1)]) (rest := []) C hU (c_X12_refuse hG (-1) (by omega)) vm_X12_refuse ml_X12_164 k_0.1 (hc := rfl) rfl (h1_0 hG) hl.1 rfl rfl (Nat.le_of_ble_eq_true rfl) dX12_excuse_16 rfl rfl ⟨Nat.le_of_ble_eq_true rfl, Nat.le_of_ble_eq_true rfl⟩ ⟨Nat.le_refl _, Nat.le_refl _⟩) hS (fun x_9 iv_5 rv_6 H locs hG fa_7 fb_8 hp_4 hU hS => ?_)
    have hF1 := hF1.tr (m := ([16, 26, 27, 28, 29, 30], [(0, 30)])) fa_7 (by decide)
    have hF2 := hF2.tr (m := ([16, 26, 27, 28, 29, 30], [(0, 30)])) fb_8 (by decide)
    exact hret (⟨hG, hF1, hF2, sp_no (z := (-1)) (by unfold spExc; (repeat' split) <;> first | rfl | omega) (by decide) hp_4 (⟨fa_7 0 0 30 (by decide), fun k => ⟨fa_7.arr 26 0 k (by decide), fa_7.arr 27 0 k (by decide), fa_7.arr 28 0 k (by decide), fa_7.arr 29 0 k (by decide), fa_7.arr 30 0 k (by decide)⟩⟩)⟩) hU hS dX12_excuse_19
  ·
    refine lv_iload_n hx hb dX12_excuse_7 rfl (lv_at hl 2 rfl) ?_
    refine q_pi (q_runS (As := [.int cs]) (rest := []) C hU (c_X12_isCause  cs ) sm_X12_isCause ml_X12_184 hl.1 rfl rfl (Nat.le_of_ble_eq_true rfl) dX12_excuse_8 rfl rfl ⟨Nat.le_of_ble_eq_true rfl, Nat.le_of_ble_eq_true rfl⟩ ⟨Nat.le_refl _, Nat.le_refl _⟩) hS (fun x_11 H locs hp_10 hU hS => ?_)
    refine b_if_ne (tgt := 20) hx hb dX12_excuse_11 (by decide) (fun c_12 => ?_) (fun c_12 => ?_)
    ·
      refine lv_iload_n hx hb dX12_excuse_20 rfl (lv_at hl 3 rfl) ?_
      refine b_if_ge (tgt := 31) hx hb dX12_excuse_21 (by decide) (fun c_13 => ?_) (fun c_13 => ?_)
      ·
        refine lv_iload_n hx hb dX12_excuse_31 rfl (lv_at hl 3 rfl) ?_
        refine lv_sipush (v := 4000) hx hb dX12_excuse_32 (by decide) ?_
        refine b_icmp_gt (tgt := 47) hx hb dX12_excuse_35 (by decide) (fun c_14 => ?_) (fun c_14 => ?_)
        ·
          refine lv_aload_n hx hb dX12_excuse_47 rfl (lv_at hl 0 rfl) ?_
          refine lv_bipush (v := (-6)) hx hb dX12_excuse_48 (by decide) ?_
          refine q_fi (q_runV (t := 0) (i := 0) (As := [.int (-6)]) (rest := []) C hU (c_X12_refuse hG (-6) (by omega)) vm_X12_refuse ml_X12_164 k_0.1 (hc := rfl) rfl (h1_0 hG) hl.1 rfl rfl (Nat.le_of_ble_eq_true rfl) dX12_excuse_50 rfl rfl ⟨Nat.le_of_ble_eq_true rfl, Nat.le_of_ble_eq_true rfl⟩ ⟨Nat.le_refl _, Nat.le_refl _⟩) hS (fun x_20 iv_16 rv_17 H locs hG fa_18 fb_19 hp_15 hU hS => ?_)
          have hF1 := hF1.tr (m := ([16, 26, 27, 28, 29, 30], [(0, 30)])) fa_18 (by decide)
          have hF2 := hF2.tr (m := ([16, 26, 27, 28, 29, 30], [(0, 30)])) fb_19 (by decide)
          exact hret (⟨hG, hF1, hF2, sp_no (z := (-6)) (by unfold spExc; (repeat' split) <;> first | rfl | omega) (by decide) hp_15 (⟨fa_18 0 0 30 (by decide), fun k => ⟨fa_18.arr 26 0 k (by decide), fa_18.arr 27 0 k (by decide), fa_18.arr 28 0 k (by decide), fa_18.arr 29 0 k (by decide), fa_18.arr 30 0 k (by decide)⟩⟩)⟩) hU hS dX12_excuse_53
        ·
          refine lv_aload_n hx hb dX12_excuse_38 rfl (lv_at hl 0 rfl) ?_
          refine g_0_30 C hU hG (h1_0 hG) fl_X12_250 dX12_excuse_39 (fun x_21 e_22 le_22 ue_22 => ?_)
          have te_22 := congrArg Int32.toInt e_22
          refine lv_bipush (v := 40) hx hb dX12_excuse_42 (by decide) ?_
          refine b_icmp_ne (tgt := 54) hx hb dX12_excuse_44 (by decide) (fun c_23 => ?_) (fun c_23 => ?_)
          ·
            refine lv_aload_n hx hb dX12_excuse_54 rfl (lv_at hl 0 rfl) ?_
            refine g_0_31 C hU hG (h1_0 hG) fl_X12_86 dX12_excuse_55 ?_
            refine lv_aload_n hx hb dX12_excuse_58 rfl (lv_at hl 0 rfl) ?_
            refine g_0_30 C hU hG (h1_0 hG) fl_X12_250 dX12_excuse_59 (fun x_24 e_25 le_25 ue_25 => ?_)
            have te_25 := congrArg Int32.toInt e_25
            refine lv_iload_n hx hb dX12_excuse_62 rfl (lv_at hl 1 rfl) ?_
            refine s_26 C hU hS (h1_26 hG) (x := x_24) (by omega) (by omega) dX12_excuse_63 (fun iv_26 H locs ei_27 hU hS => ?_)
            have hG : GI al iv_26 rv := by rw [ei_27]; exact hG.puti (show _ ∧ _ from ⟨show (0 : Int) ≤ _ by omega, show _ ≤ (3 : Int) by omega⟩) (nsA (by decide) _)
            have hF1 : FR ([16, 26, 27, 28, 29, 30], [(0, 30)]) iv iv_26 := by rw [ei_27]; exact hF1.put (Or.inl (by decide))
            have kf_28 := congrArg Int32.toInt (show iv_26 0 0 30 = iv 0 0 30 by rw [ei_27]; exact up3_ne (fun z => absurd z.1 (by decide)))
            refine lv_aload_n hx hb dX12_excuse_64 rfl (lv_at hl 0 rfl) ?_
            refine g_0_32 C hU hG (h1_0 hG) fl_X12_89 dX12_excuse_65 ?_
            refine lv_aload_n hx hb dX12_excuse_68 rfl (lv_at hl 0 rfl) ?_
            refine g_0_30 C hU hG (h1_0 hG) fl_X12_250 dX12_excuse_69 (fun x_29 e_30 le_30 ue_30 => ?_)
            have te_30 := congrArg Int32.toInt e_30
            refine lv_iload_n hx hb dX12_excuse_72 rfl (lv_at hl 2 rfl) ?_
            refine s_27 C hU hS (h1_27 hG) (x := x_29) (by omega) (by omega) dX12_excuse_73 (fun iv_31 H locs ei_32 hU hS => ?_)
            have hG : GI al iv_31 rv := by rw [ei_32]; exact hG.puti (show _ ∧ _ from ⟨show (0 : Int) ≤ _ by omega, show _ ≤ (5 : Int) by omega⟩) (nsA (by decide) _)
            have hF1 : FR ([16, 26, 27, 28, 29, 30], [(0, 30)]) iv iv_31 := by rw [ei_32]; exact hF1.put (Or.inl (by decide))
            have kf_33 := congrArg Int32.toInt (show iv_31 0 0 30 = iv_26 0 0 30 by rw [ei_32]; exact up3_ne (fun z => absurd z.1 (by decide)))
            refine lv_aload_n hx hb dX12_excuse_74 rfl (lv_at hl 0 rfl) ?_
            refine g_0_33 C hU hG (h1_0 hG) fl_X12_92 dX12_excuse_75 ?_
            refine lv_aload_n hx hb dX12_excuse_78 rfl (lv_at hl 0 rfl) ?_
            refine g_0_30 C hU hG (h1_0 hG) fl_X12_250 dX12_excuse_79 (fun x_34 e_35 le_35 ue_35 => ?_)
            have te_35 := congrArg Int32.toInt e_35
            refine lv_iload_n hx hb dX12_excuse_82 rfl (lv_at hl 3 rfl) ?_
            refine s_28 C hU hS (h1_28 hG) (x := x_34) (by omega) (by omega) dX12_excuse_83 (fun iv_36 H locs ei_37 hU hS => ?_)
            have hG : GI al iv_36 rv := by rw [ei_37]; exact hG.puti (show _ ∧ _ from ⟨show (0 : Int) ≤ _ by omega, show _ ≤ (4000 : Int) by omega⟩) (nsA (by decide) _)
            have hF1 : FR ([16, 26, 27, 28, 29, 30], [(0, 30)]) iv iv_36 := by rw [ei_37]; exact hF1.put (Or.inl (by decide))
            have kf_38 := congrArg Int32.toInt (show iv_36 0 0 30 = iv_31 0 0 30 by rw [ei_37]; exact up3_ne (fun z => absurd z.1 (by decide)))
            refine lv_aload_n hx hb dX12_excuse_84 rfl (lv_at hl 0 rfl) ?_
            refine g_0_34 C hU hG (h1_0 hG) fl_X12_95 dX12_excuse_85 ?_
            refine lv_aload_n hx hb dX12_excuse_88 rfl (lv_at hl 0 rfl) ?_
            refine g_0_30 C hU hG (h1_0 hG) fl_X12_250 dX12_excuse_89 (fun x_39 e_40 le_40 ue_40 => ?_)
            have te_40 := congrArg Int32.toInt e_40
            refine lv_aload_n hx hb dX12_excuse_92 rfl (lv_at hl 0 rfl) ?_
            refine g_0_0 C hU hG (h1_0 hG) fl_X12_168 dX12_excuse_93 (fun x_41 e_42 le_42 ue_42 => ?_)
            have te_42 := congrArg Int32.toInt e_42
            have ne_42 : x_41.toInt = (iv 0 0 0).toInt := by rw [e_42, hF1 0 0 0 (by decide)]
            have htold : x_41 = iv 0 0 0 := by rw [e_42, ei_37, up3_ne (fun z => absurd z.1 (by decide)), ei_32, up3_ne (fun z => absurd z.1 (by decide)), ei_27, up3_ne (fun z => absurd z.1 (by decide))]
            refine s_29 C hU hS (h1_29 hG) (x := x_39) (by omega) (by omega) dX12_excuse_96 (fun iv_43 H locs ei_44 hU hS => ?_)
            have hG : GI al iv_43 rv := by rw [ei_44]; exact hG.puti (show _ ∧ _ from ⟨show (0 : Int) ≤ _ by omega, show _ ≤ (4000 : Int) by omega⟩) (nsA (by decide) _)
            have hF1 : FR ([16, 26, 27, 28, 29, 30], [(0, 30)]) iv iv_43 := by rw [ei_44]; exact hF1.put (Or.inl (by decide))
            have kf_45 := congrArg Int32.toInt (show iv_43 0 0 30 = iv_36 0 0 30 by rw [ei_44]; exact up3_ne (fun z => absurd z.1 (by decide)))
            refine lv_aload_n hx hb dX12_excuse_97 rfl (lv_at hl 0 rfl) ?_
            refine g_0_35 C hU hG (h1_0 hG) fl_X12_98 dX12_excuse_98 ?_
            refine lv_aload_n hx hb dX12_excuse_101 rfl (lv_at hl 0 rfl) ?_
            refine g_0_30 C hU hG (h1_0 hG) fl_X12_250 dX12_excuse_102 (fun x_46 e_47 le_47 ue_47 => ?_)
            have te_47 := congrArg Int32.toInt e_47
            refine lv_iload hx hb dX12_excuse_105 (lv_at hl 4 rfl) ?_
            refine s_30 C hU hS (h1_30 hG) (x := x_46) (by omega) (by omega) (by omega) (by omega) dX12_excuse_107 (fun iv_48 H locs ei_49 hU hS => ?_)
            have hG : GI al iv_48 rv := by rw [ei_49]; exact hG.puti (show _ ∧ _ from ⟨show (0 : Int) ≤ _ by omega, show _ ≤ (1 : Int) by omega⟩) (nsA (by decide) _)
            have hF1 : FR ([16, 26, 27, 28, 29, 30], [(0, 30)]) iv iv_48 := by rw [ei_49]; exact hF1.put (Or.inl (by decide))
            have kf_50 := congrArg Int32.toInt (show iv_48 0 0 30 = iv_43 0 0 30 by rw [ei_49]; exact up3_ne (fun z => absurd z.1 (by decide)))
            refine lv_aload_n hx hb dX12_excuse_108 rfl (lv_at hl 0 rfl) ?_
            refine lv_dup hx hb dX12_excuse_109 rfl ?_
            refine g_0_30 C hU hG (h1_0 hG) fl_X12_250 dX12_excuse_110 (fun x_51 e_52 le_52 ue_52 => ?_)
            have te_52 := congrArg Int32.toInt e_52
            refine lv_iconst (v := 1) hx hb dX12_excuse_113 (by decide) ?_
            refine lv_iadd hx hb dX12_excuse_114 ?_
            refine lv_topi (fun x_53 e_54 => ?_)
            have te_54 : x_53.toInt = (x_51 : Int32).toInt + (1 : Int32).toInt := by rw [e_54]; exact fb_addI (by omega) (by omega)
            refine p_0_30 C hU hS (h1_0 hG) fl_X12_250 dX12_excuse_115 (fun iv_55 H locs ei_56 hU hS => ?_)
            have hG : GI al iv_55 rv := by rw [ei_56]; exact hG.puti (show _ ∧ _ from ⟨show (0 : Int) ≤ _ by omega, show _ ≤ (40 : Int) by omega⟩) (nsF (by decide))
            have hF1 : FR ([16, 26, 27, 28, 29, 30], [(0, 30)]) iv iv_55 := by rw [ei_56]; exact hF1.put (by decide)
            refine lv_aload_n hx hb dX12_excuse_118 rfl (lv_at hl 0 rfl) ?_
            refine g_0_30 C hU hG (h1_0 hG) fl_X12_250 dX12_excuse_119 (fun x_57 e_58 le_58 ue_58 => ?_)
            have te_58 := congrArg Int32.toInt e_58
            have hz_ := e_58
            rw [ei_56, up3_self] at hz_
            have tz_ := congrArg Int32.toInt hz_
            exact hret (⟨hG, hF1, hF2, Or.inl ⟨(by unfold spExc; (repeat' split) <;> first | rfl | omega), by omega, by rw [ei_56, up3_self]; omega, fun k => ⟨by rw [ei_56, up3_ne (fun z => absurd z.1 (by decide)), ei_49, up3_ne (fun z => absurd z.1 (by decide)), ei_44, up3_ne (fun z => absurd z.1 (by decide)), ei_37, up3_ne (fun z => absurd z.1 (by decide)), ei_32, up3_ne (fun z => absurd z.1 (by decide)), ei_27, clamp_eq (show (x_24 : Int32).toInt = (iv 0 0 30).toInt by omega), up3_k], by rw [ei_56, up3_ne (fun z => absurd z.1 (by decide)), ei_49, up3_ne (fun z => absurd z.1 (by decide)), ei_44, up3_ne (fun z => absurd z.1 (by decide)), ei_37, up3_ne (fun z => absurd z.1 (by decide)), ei_32, clamp_eq (show (x_29 : Int32).toInt = (iv 0 0 30).toInt by omega), up3_k, ei_27, up3_ne (fun z => absurd z.1 (by decide))], by rw [ei_56, up3_ne (fun z => absurd z.1 (by decide)), ei_49, up3_ne (fun z => absurd z.1 (by decide)), ei_44, up3_ne (fun z => absurd z.1 (by decide)), ei_37, clamp_eq (show (x_34 : Int32).toInt = (iv 0 0 30).toInt by omega), up3_k, ei_32, up3_ne (fun z => absurd z.1 (by decide)), ei_27, up3_ne (fun z => absurd z.1 (by decide))], by rw [ei_56, up3_ne (fun z => absurd z.1 (by decide)), ei_49, up3_ne (fun z => absurd z.1 (by decide)), ei_44, clamp_eq (show (x_39 : Int32).toInt = (iv 0 0 30).toInt by omega), up3_k, htold, ei_37, up3_ne (fun z => absurd z.1 (by decide)), ei_32, up3_ne (fun z => absurd z.1 (by decide)), ei_27, up3_ne (fun z => absurd z.1 (by decide))], by rw [ei_56, up3_ne (fun z => absurd z.1 (by decide)), ei_49, clamp_eq (show (x_46 : Int32).toInt = (iv 0 0 30).toInt by omega), up3_k, ei_44, up3_ne (fun z => absurd z.1 (by decide)), ei_37, up3_ne (fun z => absurd z.1 (by decide)), ei_32, up3_ne (fun z => absurd z.1 (by decide)), ei_27, up3_ne (fun z => absurd z.1 (by decide))]⟩⟩⟩) hU hS dX12_excuse_122
          ·
            refine lv_aload_n hx hb dX12_excuse_47 rfl (lv_at hl 0 rfl) ?_
            refine lv_bipush (v := (-6)) hx hb dX12_excuse_48 (by decide) ?_
            refine q_fi (q_runV (t := 0) (i := 0) (As := [.int (-6)]) (rest := []) C hU (c_X12_refuse hG (-6) (by omega)) vm_X12_refuse ml_X12_164 k_0.1 (hc := rfl) rfl (h1_0 hG) hl.1 rfl rfl (Nat.le_of_ble_eq_true rfl) dX12_excuse_50 rfl rfl ⟨Nat.le_of_ble_eq_true rfl, Nat.le_of_ble_eq_true rfl⟩ ⟨Nat.le_refl _, Nat.le_refl _⟩) hS (fun x_64 iv_60 rv_61 H locs hG fa_62 fb_63 hp_59 hU hS => ?_)
            have hF1 := hF1.tr (m := ([16, 26, 27, 28, 29, 30], [(0, 30)])) fa_62 (by decide)
            have hF2 := hF2.tr (m := ([16, 26, 27, 28, 29, 30], [(0, 30)])) fb_63 (by decide)
            exact hret (⟨hG, hF1, hF2, sp_no (z := (-6)) (by unfold spExc; (repeat' split) <;> first | rfl | omega) (by decide) hp_59 (⟨fa_62 0 0 30 (by decide), fun k => ⟨fa_62.arr 26 0 k (by decide), fa_62.arr 27 0 k (by decide), fa_62.arr 28 0 k (by decide), fa_62.arr 29 0 k (by decide), fa_62.arr 30 0 k (by decide)⟩⟩)⟩) hU hS dX12_excuse_53
      ·
        refine lv_aload_n hx hb dX12_excuse_24 rfl (lv_at hl 0 rfl) ?_
        refine lv_bipush (v := (-4)) hx hb dX12_excuse_25 (by decide) ?_
        refine q_fi (q_runV (t := 0) (i := 0) (As := [.int (-4)]) (rest := []) C hU (c_X12_refuse hG (-4) (by omega)) vm_X12_refuse ml_X12_164 k_0.1 (hc := rfl) rfl (h1_0 hG) hl.1 rfl rfl (Nat.le_of_ble_eq_true rfl) dX12_excuse_27 rfl rfl ⟨Nat.le_of_ble_eq_true rfl, Nat.le_of_ble_eq_true rfl⟩ ⟨Nat.le_refl _, Nat.le_refl _⟩) hS (fun x_70 iv_66 rv_67 H locs hG fa_68 fb_69 hp_65 hU hS => ?_)
        have hF1 := hF1.tr (m := ([16, 26, 27, 28, 29, 30], [(0, 30)])) fa_68 (by decide)
        have hF2 := hF2.tr (m := ([16, 26, 27, 28, 29, 30], [(0, 30)])) fb_69 (by decide)
        exact hret (⟨hG, hF1, hF2, sp_no (z := (-4)) (by unfold spExc; (repeat' split) <;> first | rfl | omega) (by decide) hp_65 (⟨fa_68 0 0 30 (by decide), fun k => ⟨fa_68.arr 26 0 k (by decide), fa_68.arr 27 0 k (by decide), fa_68.arr 28 0 k (by decide), fa_68.arr 29 0 k (by decide), fa_68.arr 30 0 k (by decide)⟩⟩)⟩) hU hS dX12_excuse_30
    ·
      refine lv_aload_n hx hb dX12_excuse_14 rfl (lv_at hl 0 rfl) ?_
      refine lv_iconst (v := (-1)) hx hb dX12_excuse_15 (by decide) ?_
      refine q_fi (q_runV (t := 0) (i := 0) (As := [.int (-1)]) (rest := []) C hU (c_X12_refuse hG (-1) (by omega)) vm_X12_refuse ml_X12_164 k_0.1 (hc := rfl) rfl (h1_0 hG) hl.1 rfl rfl (Nat.le_of_ble_eq_true rfl) dX12_excuse_16 rfl rfl ⟨Nat.le_of_ble_eq_true rfl, Nat.le_of_ble_eq_true rfl⟩ ⟨Nat.le_refl _, Nat.le_refl _⟩) hS (fun x_76 iv_72 rv_73 H locs hG fa_74 fb_75 hp_71 hU hS => ?_)
      have hF1 := hF1.tr (m := ([16, 26, 27, 28, 29, 30], [(0, 30)])) fa_74 (by decide)
      have hF2 := hF2.tr (m := ([16, 26, 27, 28, 29, 30], [(0, 30)])) fb_75 (by decide)
      exact hret (⟨hG, hF1, hF2, sp_no (z := (-1)) (by unfold spExc; (repeat' split) <;> first | rfl | omega) (by decide) hp_71 (⟨fa_74 0 0 30 (by decide), fun k => ⟨fa_74.arr 26 0 k (by decide), fa_74.arr 27 0 k (by decide), fa_74.arr 28 0 k (by decide), fa_74.arr 29 0 k (by decide), fa_74.arr 30 0 k (by decide)⟩⟩)⟩) hU hS dX12_excuse_19
end
