set_option maxHeartbeats 4000000 in
set_option maxRecDepth 100000 in
theorem c_X12_days_x {l : Launch} {D : va_G} {cA : FieldType → ClassId} {sz : Nat} {al : Al} {iv : Iv} {rv : Rv} (hG : GI al iv rv) (n : Int32) : Met l yX12_days (wd yX12_days cX12_days 2 (some .int)) (rm 1) (PcW D cA sz al iv rv [.ref (al.2 0 0), .int n]) (QI D cA sz al (fI al ([16], [(0, 0)]) iv rv (fun r iv' rv' => (iv' 0 0 0).toInt = dayF n.toInt (iv 0 0 0).toInt))) 0 0 (Aq sz) := by
  refine mk_i (by decide) (Nat.le_of_ble_eq_true rfl) rfl ?_
  intro p e s m args below meth c ls Q H locs C hU hS hl hret
  have hx := C.1.1
  have hb := C.1.2.1
  have hl : lv_has ls 2 [(0, .ref (al.2 0 0)), (1, .int n)] := hl
  have hG0 := hG
  have h6 := le6 hG
  have h20 := le20 hG
  have h41 := le41 hG
  have hF1 : FR ([16], [(0, 0)]) iv iv := FR.rf
  have hF2 : FR ([16], [(0, 0)]) rv rv := FR.rf
  have km6 : ((-6) : Int32).toInt = -6 := by decide
  have km4 : ((-4) : Int32).toInt = -4 := by decide
  have k1 : (1 : Int32).toInt = 1 := by decide
  have k4000 : (4000 : Int32).toInt = 4000 := by decide
  refine lv_iload_n hx hb dX12_days_0 rfl (lv_at hl 1 rfl) ?_
  refine lv_iconst (v := 1) hx hb dX12_days_1 (by decide) ?_
  refine b_icmp_ge (tgt := 12) hx hb dX12_days_2 (by decide) (fun c_1 => ?_) (fun c_1 => ?_)
  ·
    refine lv_iload_n hx hb dX12_days_12 rfl (lv_at hl 1 rfl) ?_
    refine lv_sipush (v := 4000) hx hb dX12_days_13 (by decide) ?_
    refine lv_aload_n hx hb dX12_days_16 rfl (lv_at hl 0 rfl) ?_
    refine g_0_0 C hU hG (h1_0 hG) fl_X12_168 dX12_days_17 (fun x_2 e_3 le_3 ue_3 => ?_)
    have te_3 := congrArg Int32.toInt e_3
    refine lv_isub hx hb dX12_days_20 ?_
    refine lv_topi (fun x_4 e_5 => ?_)
    have te_5 : x_4.toInt = (4000 : Int32).toInt - (x_2 : Int32).toInt := by rw [e_5]; exact fb_subI (by omega) (by omega)
    refine b_icmp_le (tgt := 31) hx hb dX12_days_21 (by decide) (fun c_6 => ?_) (fun c_6 => ?_)
    ·
      refine lv_aload_n hx hb dX12_days_31 rfl (lv_at hl 0 rfl) ?_
      refine lv_dup hx hb dX12_days_32 rfl ?_
      refine g_0_0 C hU hG (h1_0 hG) fl_X12_168 dX12_days_33 (fun x_7 e_8 le_8 ue_8 => ?_)
      have te_8 := congrArg Int32.toInt e_8
      refine lv_iload_n hx hb dX12_days_36 rfl (lv_at hl 1 rfl) ?_
      refine lv_iadd hx hb dX12_days_37 ?_
      refine lv_topi (fun x_9 e_10 => ?_)
      have te_10 : x_9.toInt = (x_7 : Int32).toInt + (n : Int32).toInt := by rw [e_10]; exact fb_addI (by omega) (by omega)
      refine p_0_0 C hU hS (h1_0 hG) fl_X12_168 dX12_days_38 (fun iv_11 H locs ei_12 hU hS => ?_)
      have hG : GI al iv_11 rv := by rw [ei_12]; exact hG.puti (show _ ∧ _ from ⟨show (0 : Int) ≤ _ by omega, show _ ≤ (4000 : Int) by omega⟩) (nsF (by decide))
      have hF1 : FR ([16], [(0, 0)]) iv iv_11 := by rw [ei_12]; exact hF1.put (by decide)
      refine lv_aload_n hx hb dX12_days_41 rfl (lv_at hl 0 rfl) ?_
      refine g_0_0 C hU hG (h1_0 hG) fl_X12_168 dX12_days_42 (fun x_13 e_14 le_14 ue_14 => ?_)
      have te_14 := congrArg Int32.toInt e_14
      exact hret (⟨hG, hF1, hF2, by show _ = _; rw [ei_12, up3_self]; unfold dayF; split <;> omega⟩) hU hS dX12_days_45
    ·
      refine lv_aload_n hx hb dX12_days_24 rfl (lv_at hl 0 rfl) ?_
      refine lv_bipush (v := (-6)) hx hb dX12_days_25 (by decide) ?_
      refine q_fi (q_runV (t := 0) (i := 0) (As := [.int (-6)]) (rest := []) C hU (c_X12_refuse hG (-6) (by omega)) vm_X12_refuse ml_X12_164 k_0.1 (hc := rfl) rfl (h1_0 hG) hl.1 rfl rfl (Nat.le_of_ble_eq_true rfl) dX12_days_27 rfl rfl ⟨Nat.le_of_ble_eq_true rfl, Nat.le_of_ble_eq_true rfl⟩ ⟨Nat.le_refl _, Nat.le_refl _⟩) hS (fun x_20 iv_16 rv_17 H locs hG fa_18 fb_19 hp_15 hU hS => ?_)
      have hF1 := hF1.tr (m := ([16], [(0, 0)])) fa_18 (by decide)
      have hF2 := hF2.tr (m := ([16], [(0, 0)])) fb_19 (by decide)
      exact hret (⟨hG, hF1, hF2, by show _ = _; rw [fa_18 0 0 0 (by decide)]; unfold dayF; split <;> omega⟩) hU hS dX12_days_30
  ·
    refine lv_aload_n hx hb dX12_days_5 rfl (lv_at hl 0 rfl) ?_
    refine lv_bipush (v := (-4)) hx hb dX12_days_6 (by decide) ?_
    refine q_fi (q_runV (t := 0) (i := 0) (As := [.int (-4)]) (rest := []) C hU (c_X12_refuse hG (-4) (by omega)) vm_X12_refuse ml_X12_164 k_0.1 (hc := rfl) rfl (h1_0 hG) hl.1 rfl rfl (Nat.le_of_ble_eq_true rfl) dX12_days_8 rfl rfl ⟨Nat.le_of_ble_eq_true rfl, Nat.le_of_ble_eq_true rfl⟩ ⟨Nat.le_refl _, Nat.le_refl _⟩) hS (fun x_26 iv_22 rv_23 H locs hG fa_24 fb_25 hp_21 hU hS => ?_)
    have hF1 := hF1.tr (m := ([16], [(0, 0)])) fa_24 (by decide)
    have hF2 := hF2.tr (m := ([16], [(0, 0)])) fb_25 (by decide)
    exact hret (⟨hG, hF1, hF2, by show _ = _; rw [fa_24 0 0 0 (by decide)]; unfold dayF; split <;> omega⟩) hU hS dX12_days_11
set_option maxHeartbeats 4000000 in
set_option maxRecDepth 100000 in
theorem c_X11_days_x {l : Launch} {D : va_G} {cA : FieldType → ClassId} {sz : Nat} {al : Al} {iv : Iv} {rv : Rv} (hG : GI al iv rv) (n : Int32) : Met l yX11_days (wd yX11_days cX11_days 2 (some .int)) (rm 2) (PcW D cA sz al iv rv [.ref (al.2 49 0), .int n]) (QI D cA sz al (fI al ([51], [(49, 9)]) iv rv (fun r iv' rv' => (iv' 49 0 9).toInt = dayF n.toInt (iv 49 0 9).toInt))) 0 0 (Aq sz) := by
  refine mk_i (by decide) (Nat.le_of_ble_eq_true rfl) rfl ?_
  intro p e s m args below meth c ls Q H locs C hU hS hl hret
  have hx := C.1.1
  have hb := C.1.2.1
  have hl : lv_has ls 2 [(0, .ref (al.2 49 0)), (1, .int n)] := hl
  have hG0 := hG
  have hF1 : FR ([51], [(49, 9)]) iv iv := FR.rf
  have hF2 : FR ([51], [(49, 9)]) rv rv := FR.rf
  have km6 : ((-6) : Int32).toInt = -6 := by decide
  have km4 : ((-4) : Int32).toInt = -4 := by decide
  have k4000 : (4000 : Int32).toInt = 4000 := by decide
  refine lv_iload_n hx hb dX11_days_0 rfl (lv_at hl 1 rfl) ?_
  refine b_if_ge (tgt := 11) hx hb dX11_days_1 (by decide) (fun c_1 => ?_) (fun c_1 => ?_)
  ·
    refine lv_iload_n hx hb dX11_days_11 rfl (lv_at hl 1 rfl) ?_
    refine lv_sipush (v := 4000) hx hb dX11_days_12 (by decide) ?_
    refine lv_aload_n hx hb dX11_days_15 rfl (lv_at hl 0 rfl) ?_
    refine g_49_9 C hU hG (h1_49 hG) fl_X11_73 dX11_days_16 (fun x_2 e_3 le_3 ue_3 => ?_)
    have te_3 := congrArg Int32.toInt e_3
    refine lv_isub hx hb dX11_days_19 ?_
    refine lv_topi (fun x_4 e_5 => ?_)
    have te_5 : x_4.toInt = (4000 : Int32).toInt - (x_2 : Int32).toInt := by rw [e_5]; exact fb_subI (by omega) (by omega)
    refine b_icmp_le (tgt := 30) hx hb dX11_days_20 (by decide) (fun c_6 => ?_) (fun c_6 => ?_)
    ·
      refine lv_aload_n hx hb dX11_days_30 rfl (lv_at hl 0 rfl) ?_
      refine lv_dup hx hb dX11_days_31 rfl ?_
      refine g_49_9 C hU hG (h1_49 hG) fl_X11_73 dX11_days_32 (fun x_7 e_8 le_8 ue_8 => ?_)
      have te_8 := congrArg Int32.toInt e_8
      refine lv_iload_n hx hb dX11_days_35 rfl (lv_at hl 1 rfl) ?_
      refine lv_iadd hx hb dX11_days_36 ?_
      refine lv_topi (fun x_9 e_10 => ?_)
      have te_10 : x_9.toInt = (x_7 : Int32).toInt + (n : Int32).toInt := by rw [e_10]; exact fb_addI (by omega) (by omega)
      refine p_49_9 C hU hS (h1_49 hG) fl_X11_73 dX11_days_37 (fun iv_11 H locs ei_12 hU hS => ?_)
      have hG : GI al iv_11 rv := by rw [ei_12]; exact hG.puti (show _ ∧ _ from ⟨show (0 : Int) ≤ _ by omega, show _ ≤ (4000 : Int) by omega⟩) (nsF (by decide))
      have hF1 : FR ([51], [(49, 9)]) iv iv_11 := by rw [ei_12]; exact hF1.put (by decide)
      refine lv_aload_n hx hb dX11_days_40 rfl (lv_at hl 0 rfl) ?_
      refine g_49_9 C hU hG (h1_49 hG) fl_X11_73 dX11_days_41 (fun x_13 e_14 le_14 ue_14 => ?_)
      have te_14 := congrArg Int32.toInt e_14
      exact hret (⟨hG, hF1, hF2, by show _ = _; rw [ei_12, up3_self]; unfold dayF; split <;> omega⟩) hU hS dX11_days_44
    ·
      refine lv_aload_n hx hb dX11_days_23 rfl (lv_at hl 0 rfl) ?_
      refine lv_bipush (v := (-6)) hx hb dX11_days_24 (by decide) ?_
      refine q_fi (q_runV (t := 49) (i := 0) (As := [.int (-6)]) (rest := []) C hU (c_X11_refuse hG (-6) (by omega)) vm_X11_refuse ml_X11_77 k_49.1 (hc := rfl) rfl (h1_49 hG) hl.1 rfl rfl (Nat.le_of_ble_eq_true rfl) dX11_days_26 rfl rfl ⟨Nat.le_of_ble_eq_true rfl, Nat.le_of_ble_eq_true rfl⟩ ⟨Nat.le_refl _, Nat.le_refl _⟩) hS (fun x_20 iv_16 rv_17 H locs hG fa_18 fb_19 hp_15 hU hS => ?_)
      have hF1 := hF1.tr (m := ([51], [(49, 9)])) fa_18 (by decide)
      have hF2 := hF2.tr (m := ([51], [(49, 9)])) fb_19 (by decide)
      exact hret (⟨hG, hF1, hF2, by show _ = _; rw [fa_18 49 0 9 (by decide)]; unfold dayF; split <;> omega⟩) hU hS dX11_days_29
  ·
    refine lv_aload_n hx hb dX11_days_4 rfl (lv_at hl 0 rfl) ?_
    refine lv_bipush (v := (-4)) hx hb dX11_days_5 (by decide) ?_
    refine q_fi (q_runV (t := 49) (i := 0) (As := [.int (-4)]) (rest := []) C hU (c_X11_refuse hG (-4) (by omega)) vm_X11_refuse ml_X11_77 k_49.1 (hc := rfl) rfl (h1_49 hG) hl.1 rfl rfl (Nat.le_of_ble_eq_true rfl) dX11_days_7 rfl rfl ⟨Nat.le_of_ble_eq_true rfl, Nat.le_of_ble_eq_true rfl⟩ ⟨Nat.le_refl _, Nat.le_refl _⟩) hS (fun x_26 iv_22 rv_23 H locs hG fa_24 fb_25 hp_21 hU hS => ?_)
    have hF1 := hF1.tr (m := ([51], [(49, 9)])) fa_24 (by decide)
    have hF2 := hF2.tr (m := ([51], [(49, 9)])) fb_25 (by decide)
    exact hret (⟨hG, hF1, hF2, by show _ = _; rw [fa_24 49 0 9 (by decide)]; unfold dayF; split <;> omega⟩) hU hS dX11_days_10
set_option maxHeartbeats 4000000 in
set_option maxRecDepth 100000 in
theorem c_X12_land_x {l : Launch} {D : va_G} {cA : FieldType → ClassId} {sz : Nat} {al : Al} {iv : Iv} {rv : Rv} (hG : GI al iv rv) (a : Int32) (v : Int32) : Met l yX12_land (wd yX12_land cX12_land 4 (some .int)) (rm 2) (PcW D cA sz al iv rv [.ref (al.2 0 0), .int a, .int v]) (QI D cA sz al (fI al ([16, 1], []) iv rv (fun r iv' rv' => (((0 ≤ a.toInt ∧ a.toInt ≤ 9) ∧ (0 ≤ v.toInt ∧ v.toInt ≤ 3)) ∧ r = iv 1 0 a.toNatClampNeg ∧ ∀ k, iv' 1 0 k = if k = a.toNatClampNeg then v else iv 1 0 k) ∨ ((¬ ((0 ≤ a.toInt ∧ a.toInt ≤ 9) ∧ (0 ≤ v.toInt ∧ v.toInt ≤ 3))) ∧ r = -1 ∧ ∀ k, iv' 1 0 k = iv 1 0 k)))) 0 0 (Aq sz) := by
  refine mk_i (by decide) (Nat.le_of_ble_eq_true rfl) rfl ?_
  intro p e s m args below meth c ls Q H locs C hU hS hl hret
  have hx := C.1.1
  have hb := C.1.2.1
  have hl : lv_has ls 4 [(0, .ref (al.2 0 0)), (1, .int a), (2, .int v)] := hl
  have hG0 := hG
  have h6 := le6 hG
  have h20 := le20 hG
  have h41 := le41 hG
  have hF1 : FR ([16, 1], []) iv iv := FR.rf
  have hF2 : FR ([16, 1], []) rv rv := FR.rf
  have km1 : ((-1) : Int32).toInt = -1 := by decide
  have k0 : (0 : Int32).toInt = 0 := by decide
  have k3 : (3 : Int32).toInt = 3 := by decide
  refine lv_iload_n hx hb dX12_land_0 rfl (lv_at hl 1 rfl) ?_
  refine q_pi (q_runS (As := [.int a]) (rest := []) C hU (c_X12_isPort  a ) sm_X12_isPort ml_X12_171 hl.1 rfl rfl (Nat.le_of_ble_eq_true rfl) dX12_land_1 rfl rfl ⟨Nat.le_of_ble_eq_true rfl, Nat.le_of_ble_eq_true rfl⟩ ⟨Nat.le_refl _, Nat.le_refl _⟩) hS (fun x_2 H locs hp_1 hU hS => ?_)
  refine b_if_eq (tgt := 16) hx hb dX12_land_4 (by decide) (fun c_3 => ?_) (fun c_3 => ?_)
  ·
    refine lv_aload_n hx hb dX12_land_16 rfl (lv_at hl 0 rfl) ?_
    refine lv_iconst (v := (-1)) hx hb dX12_land_17 (by decide) ?_
    refine q_fi (q_runV (t := 0) (i := 0) (As := [.int (-1)]) (rest := []) C hU (c_X12_refuse hG (-1) (by omega)) vm_X12_refuse ml_X12_164 k_0.1 (hc := rfl) rfl (h1_0 hG) hl.1 rfl rfl (Nat.le_of_ble_eq_true rfl) dX12_land_18 rfl rfl ⟨Nat.le_of_ble_eq_true rfl, Nat.le_of_ble_eq_true rfl⟩ ⟨Nat.le_refl _, Nat.le_refl _⟩) hS (fun x_9 iv_5 rv_6 H locs hG fa_7 fb_8 hp_4 hU hS => ?_)
    have hF1 := hF1.tr (m := ([16, 1], [])) fa_7 (by decide)
    have hF2 := hF2.tr (m := ([16, 1], [])) fb_8 (by decide)
    exact hret (⟨hG, hF1, hF2, Or.inr ⟨by omega, hp_4, fun k => fa_7.arr 1 0 k (by decide)⟩⟩) hU hS dX12_land_21
  ·
    refine lv_iload_n hx hb dX12_land_7 rfl (lv_at hl 2 rfl) ?_
    refine lv_iconst (v := 0) hx hb dX12_land_8 (by decide) ?_
    refine lv_iconst (v := 3) hx hb dX12_land_9 (by decide) ?_
    refine q_pi (q_runS (As := [.int v, .int 0, .int 3]) (rest := []) C hU (c_X12_in  v 0 3 ) sm_X12_in ml_X12_156 hl.1 rfl rfl (Nat.le_of_ble_eq_true rfl) dX12_land_10 rfl rfl ⟨Nat.le_of_ble_eq_true rfl, Nat.le_of_ble_eq_true rfl⟩ ⟨Nat.le_refl _, Nat.le_refl _⟩) hS (fun x_11 H locs hp_10 hU hS => ?_)
    refine b_if_ne (tgt := 22) hx hb dX12_land_13 (by decide) (fun c_12 => ?_) (fun c_12 => ?_)
    ·
      refine lv_aload_n hx hb dX12_land_22 rfl (lv_at hl 0 rfl) ?_
      refine g_0_1 C hU hG (h1_0 hG) fl_X12_7 dX12_land_23 ?_
      refine lv_iload_n hx hb dX12_land_26 rfl (lv_at hl 1 rfl) ?_
      refine a_1 C hU hG (h1_1 hG) (x := a) (by omega) (by omega) dX12_land_27 (fun x_13 e_14 le_14 ue_14 => ?_)
      have te_14 := congrArg Int32.toInt e_14
      refine lv_istore_n (lv' := [(3, .int x_13), (0, .ref (al.2 0 0)), (1, .int a), (2, .int v)]) hx hb dX12_land_28 rfl hl (by decide) rfl (fun ls hl => ?_)
      refine lv_aload_n hx hb dX12_land_29 rfl (lv_at hl 1 rfl) ?_
      refine g_0_1 C hU hG (h1_0 hG) fl_X12_7 dX12_land_30 ?_
      refine lv_iload_n hx hb dX12_land_33 rfl (lv_at hl 2 rfl) ?_
      refine lv_iload_n hx hb dX12_land_34 rfl (lv_at hl 3 rfl) ?_
      refine s_1 C hU hS (h1_1 hG) (x := a) (by omega) (by omega) dX12_land_35 (fun iv_15 H locs ei_16 hU hS => ?_)
      have hG : GI al iv_15 rv := by rw [ei_16]; exact hG.puti (show _ ∧ _ from ⟨show (0 : Int) ≤ _ by omega, show _ ≤ (3 : Int) by omega⟩) (nsA (by decide) _)
      have hF1 : FR ([16, 1], []) iv iv_15 := by rw [ei_16]; exact hF1.put (Or.inl (by decide))
      refine lv_iload_n hx hb dX12_land_36 rfl (lv_at hl 0 rfl) ?_
      exact hret (⟨hG, hF1, hF2, Or.inl ⟨by omega, e_14, fun k => by rw [ei_16]; simp [up3]⟩⟩) hU hS dX12_land_37
    ·
      refine lv_aload_n hx hb dX12_land_16 rfl (lv_at hl 0 rfl) ?_
      refine lv_iconst (v := (-1)) hx hb dX12_land_17 (by decide) ?_
      refine q_fi (q_runV (t := 0) (i := 0) (As := [.int (-1)]) (rest := []) C hU (c_X12_refuse hG (-1) (by omega)) vm_X12_refuse ml_X12_164 k_0.1 (hc := rfl) rfl (h1_0 hG) hl.1 rfl rfl (Nat.le_of_ble_eq_true rfl) dX12_land_18 rfl rfl ⟨Nat.le_of_ble_eq_true rfl, Nat.le_of_ble_eq_true rfl⟩ ⟨Nat.le_refl _, Nat.le_refl _⟩) hS (fun x_22 iv_18 rv_19 H locs hG fa_20 fb_21 hp_17 hU hS => ?_)
      have hF1 := hF1.tr (m := ([16, 1], [])) fa_20 (by decide)
      have hF2 := hF2.tr (m := ([16, 1], [])) fb_21 (by decide)
      exact hret (⟨hG, hF1, hF2, Or.inr ⟨by omega, hp_17, fun k => fa_20.arr 1 0 k (by decide)⟩⟩) hU hS dX12_land_21
set_option maxHeartbeats 4000000 in
set_option maxRecDepth 100000 in
theorem c_X11_land_x {l : Launch} {D : va_G} {cA : FieldType → ClassId} {sz : Nat} {al : Al} {iv : Iv} {rv : Rv} (hG : GI al iv rv) (a : Int32) (v : Int32) : Met l yX11_land (wd yX11_land cX11_land 5 (some .int)) (rm 2) (PcW D cA sz al iv rv [.ref (al.2 49 0), .int a, .int v]) (QI D cA sz al (fI al ([51], [(56, 1)]) iv rv (fun r iv' rv' => (((0 ≤ a.toInt ∧ a.toInt ≤ 9) ∧ (0 ≤ v.toInt ∧ v.toInt ≤ 3)) ∧ r = iv 56 a.toNatClampNeg 1 ∧ ∀ k, iv' 56 k 1 = if k = a.toNatClampNeg then v else iv 56 k 1) ∨ ((¬ ((0 ≤ a.toInt ∧ a.toInt ≤ 9) ∧ (0 ≤ v.toInt ∧ v.toInt ≤ 3))) ∧ r = -1 ∧ ∀ k, iv' 56 k 1 = iv 56 k 1)))) 0 0 (Aq sz) := by
  refine mk_i (by decide) (Nat.le_of_ble_eq_true rfl) rfl ?_
  intro p e s m args below meth c ls Q H locs C hU hS hl hret
  have hx := C.1.1
  have hb := C.1.2.1
  have hl : lv_has ls 5 [(0, .ref (al.2 49 0)), (1, .int a), (2, .int v)] := hl
  have hG0 := hG
  have hF1 : FR ([51], [(56, 1)]) iv iv := FR.rf
  have hF2 : FR ([51], [(56, 1)]) rv rv := FR.rf
  have km1 : ((-1) : Int32).toInt = -1 := by decide
  have k4 : (4 : Int32).toInt = 4 := by decide
  refine lv_aload_n hx hb dX11_land_0 rfl (lv_at hl 0 rfl) ?_
  refine g_49_0 C hU hG (h1_49 hG) fl_X11_10 dX11_land_1 ?_
  refine lv_iload_n hx hb dX11_land_4 rfl (lv_at hl 1 rfl) ?_
  refine q_pr (q_runV (t := 52) (i := 0) (As := [.int a]) (rest := []) C hU (c_X7_find hG a ) vm_X7_find ml_X11_81 k_52.1 (hc := rfl) rfl (h1_52 hG) hl.1 rfl rfl (Nat.le_of_ble_eq_true rfl) dX11_land_5 rfl rfl ⟨Nat.le_of_ble_eq_true rfl, Nat.le_of_ble_eq_true rfl⟩ ⟨Nat.le_refl _, Nat.le_refl _⟩) hS (fun r_2 H locs hp_1 hU hS => ?_)
  have hb_3 := hp_1.1
  refine b_astore_n (lv' := [(3, rfv al 56 r_2), (0, .ref (al.2 49 0)), (1, .int a), (2, .int v)]) hx hb dX11_land_8 rfl hl (by decide) rfl (fun ls hl => ?_)
  refine b_aload_n (al := al) (t' := 56) (r := r_2) hx hb dX11_land_9 rfl (lv_at hl 0 rfl) ?_
  refine b_ifnull (tgt := 21) hx hb dX11_land_10 (by decide) (fun ej_6 => ?_) (fun j_5 ej_6 => ?_)
  ·
    subst ej_6
    have hl : lv_has ls 5 [(3, rfv al 56 none), (0, .ref (al.2 49 0)), (1, .int a), (2, .int v)] := hl
    have hq := hp_1.2.2 rfl
    refine lv_aload_n hx hb dX11_land_21 rfl (lv_at hl 1 rfl) ?_
    refine lv_iconst (v := (-1)) hx hb dX11_land_22 (by decide) ?_
    refine q_fi (q_runV (t := 49) (i := 0) (As := [.int (-1)]) (rest := []) C hU (c_X11_refuse hG (-1) (by omega)) vm_X11_refuse ml_X11_77 k_49.1 (hc := rfl) rfl (h1_49 hG) hl.1 rfl rfl (Nat.le_of_ble_eq_true rfl) dX11_land_23 rfl rfl ⟨Nat.le_of_ble_eq_true rfl, Nat.le_of_ble_eq_true rfl⟩ ⟨Nat.le_refl _, Nat.le_refl _⟩) hS (fun x_12 iv_8 rv_9 H locs hG fa_10 fb_11 hp_7 hU hS => ?_)
    have hF1 := hF1.tr (m := ([51], [(56, 1)])) fa_10 (by decide)
    have hF2 := hF2.tr (m := ([51], [(56, 1)])) fb_11 (by decide)
    exact hret (⟨hG, hF1, hF2, Or.inr ⟨by omega, hp_7, fun k => fa_10 56 k 1 (by decide)⟩⟩) hU hS dX11_land_26
  ·
    subst ej_6
    have hl : lv_has ls 5 [(3, .ref (al.2 56 j_5)), (0, .ref (al.2 49 0)), (1, .int a), (2, .int v)] := hl
    have hb_13 : j_5 < al.1 56 := hb_3 j_5 rfl
    have hq := hp_1.2.1 _ rfl
    refine lv_iconst (v := 4) hx hb dX11_land_13 (by decide) ?_
    refine lv_iload_n hx hb dX11_land_14 rfl (lv_at hl 3 rfl) ?_
    refine q_pi (q_runS (As := [.int 4, .int v]) (rest := []) C hU (c_X11_isOneOf  4 v ) sm_X11_isOneOf ml_X11_85 hl.1 rfl rfl (Nat.le_of_ble_eq_true rfl) dX11_land_15 rfl rfl ⟨Nat.le_of_ble_eq_true rfl, Nat.le_of_ble_eq_true rfl⟩ ⟨Nat.le_refl _, Nat.le_refl _⟩) hS (fun x_15 H locs hp_14 hU hS => ?_)
    refine b_if_ne (tgt := 27) hx hb dX11_land_18 (by decide) (fun c_16 => ?_) (fun c_16 => ?_)
    ·
      refine lv_aload_n hx hb dX11_land_27 rfl (lv_at hl 0 rfl) ?_
      refine g_56_1 C hU hG hb_13 fl_X11_89 dX11_land_28 (fun x_17 e_18 le_18 ue_18 => ?_)
      have te_18 := congrArg Int32.toInt e_18
      refine lv_istore (lv' := [(4, .int x_17), (3, .ref (al.2 56 j_5)), (0, .ref (al.2 49 0)), (1, .int a), (2, .int v)]) hx hb dX11_land_31 hl (by decide) rfl (fun ls hl => ?_)
      refine lv_aload_n hx hb dX11_land_33 rfl (lv_at hl 1 rfl) ?_
      refine lv_iload_n hx hb dX11_land_34 rfl (lv_at hl 4 rfl) ?_
      refine p_56_1 C hU hS hb_13 fl_X11_89 dX11_land_35 (fun iv_19 H locs ei_20 hU hS => ?_)
      have hG : GI al iv_19 rv := by rw [ei_20]; exact hG.puti (show _ ∧ _ from ⟨show (0 : Int) ≤ _ by omega, show _ ≤ (3 : Int) by omega⟩) (nsF (by decide))
      have hF1 : FR ([51], [(56, 1)]) iv iv_19 := by rw [ei_20]; exact hF1.put (by decide)
      refine lv_iload hx hb dX11_land_38 (lv_at hl 0 rfl) ?_
      exact hret (⟨hG, hF1, hF2, Or.inl ⟨by omega, by rw [e_18, hq.1], fun k => by rw [ei_20, hq.1]; simp [up3]⟩⟩) hU hS dX11_land_40
    ·
      refine lv_aload_n hx hb dX11_land_21 rfl (lv_at hl 1 rfl) ?_
      refine lv_iconst (v := (-1)) hx hb dX11_land_22 (by decide) ?_
      refine q_fi (q_runV (t := 49) (i := 0) (As := [.int (-1)]) (rest := []) C hU (c_X11_refuse hG (-1) (by omega)) vm_X11_refuse ml_X11_77 k_49.1 (hc := rfl) rfl (h1_49 hG) hl.1 rfl rfl (Nat.le_of_ble_eq_true rfl) dX11_land_23 rfl rfl ⟨Nat.le_of_ble_eq_true rfl, Nat.le_of_ble_eq_true rfl⟩ ⟨Nat.le_refl _, Nat.le_refl _⟩) hS (fun x_26 iv_22 rv_23 H locs hG fa_24 fb_25 hp_21 hU hS => ?_)
      have hF1 := hF1.tr (m := ([51], [(56, 1)])) fa_24 (by decide)
      have hF2 := hF2.tr (m := ([51], [(56, 1)])) fb_25 (by decide)
      exact hret (⟨hG, hF1, hF2, Or.inr ⟨by omega, hp_21, fun k => fa_24 56 k 1 (by decide)⟩⟩) hU hS dX11_land_26
set_option maxHeartbeats 4000000 in
set_option maxRecDepth 100000 in
theorem c_X12_miles_x {l : Launch} {D : va_G} {cA : FieldType → ClassId} {sz : Nat} {al : Al} {iv : Iv} {rv : Rv} (hG : GI al iv rv) (a : Int32) (b : Int32) (v : Int32) : Met l yX12_miles (wd yX12_miles cX12_miles 5 (some .int)) (rm 2) (PcW D cA sz al iv rv [.ref (al.2 0 0), .int a, .int b, .int v]) (QI D cA sz al (fI al ([16, 2], []) iv rv (fun r iv' rv' => (spMiles a b v = 0 ∧ r = iv 2 0 (10 * a.toNatClampNeg + b.toNatClampNeg) ∧ ∀ k, iv' 2 0 k = if k = 10 * a.toNatClampNeg + b.toNatClampNeg ∨ k = 10 * b.toNatClampNeg + a.toNatClampNeg then v else iv 2 0 k) ∨ (spMiles a b v ≠ 0 ∧ r = spMiles a b v ∧ ∀ k, iv' 2 0 k = iv 2 0 k)))) 0 0 (Aq sz) := by
  refine mk_i (by decide) (Nat.le_of_ble_eq_true rfl) rfl ?_
  intro p e s m args below meth c ls Q H locs C hU hS hl hret
  have hx := C.1.1
  have hb := C.1.2.1
  have hl : lv_has ls 5 [(0, .ref (al.2 0 0)), (1, .int a), (2, .int b), (3, .int v)] := hl
  have hG0 := hG
  have h6 := le6 hG
  have h20 := le20 hG
  have h41 := le41 hG
  have hF1 : FR ([16, 2], []) iv iv := FR.rf
  have hF2 : FR ([16, 2], []) rv rv := FR.rf
  have km6 : ((-6) : Int32).toInt = -6 := by decide
  have km4 : ((-4) : Int32).toInt = -4 := by decide
  have km1 : ((-1) : Int32).toInt = -1 := by decide
  have k10 : (10 : Int32).toInt = 10 := by decide
  have k9999 : (9999 : Int32).toInt = 9999 := by decide
  refine lv_iload_n hx hb dX12_miles_0 rfl (lv_at hl 1 rfl) ?_
  refine q_pi (q_runS (As := [.int a]) (rest := []) C hU (c_X12_isPort  a ) sm_X12_isPort ml_X12_171 hl.1 rfl rfl (Nat.le_of_ble_eq_true rfl) dX12_miles_1 rfl rfl ⟨Nat.le_of_ble_eq_true rfl, Nat.le_of_ble_eq_true rfl⟩ ⟨Nat.le_refl _, Nat.le_refl _⟩) hS (fun x_2 H locs hp_1 hU hS => ?_)
  refine b_if_eq (tgt := 19) hx hb dX12_miles_4 (by decide) (fun c_3 => ?_) (fun c_3 => ?_)
  ·
    refine lv_aload_n hx hb dX12_miles_19 rfl (lv_at hl 0 rfl) ?_
    refine lv_iconst (v := (-1)) hx hb dX12_miles_20 (by decide) ?_
    refine q_fi (q_runV (t := 0) (i := 0) (As := [.int (-1)]) (rest := []) C hU (c_X12_refuse hG (-1) (by omega)) vm_X12_refuse ml_X12_164 k_0.1 (hc := rfl) rfl (h1_0 hG) hl.1 rfl rfl (Nat.le_of_ble_eq_true rfl) dX12_miles_21 rfl rfl ⟨Nat.le_of_ble_eq_true rfl, Nat.le_of_ble_eq_true rfl⟩ ⟨Nat.le_refl _, Nat.le_refl _⟩) hS (fun x_9 iv_5 rv_6 H locs hG fa_7 fb_8 hp_4 hU hS => ?_)
    have hF1 := hF1.tr (m := ([16, 2], [])) fa_7 (by decide)
    have hF2 := hF2.tr (m := ([16, 2], [])) fb_8 (by decide)
    exact hret (⟨hG, hF1, hF2, sp_no (z := (-1)) (by unfold spMiles; (repeat' split) <;> first | rfl | omega) (by decide) hp_4 (fun k => fa_7.arr 2 0 k (by decide))⟩) hU hS dX12_miles_24
  ·
    refine lv_iload_n hx hb dX12_miles_7 rfl (lv_at hl 2 rfl) ?_
    refine q_pi (q_runS (As := [.int b]) (rest := []) C hU (c_X12_isPort  b ) sm_X12_isPort ml_X12_171 hl.1 rfl rfl (Nat.le_of_ble_eq_true rfl) dX12_miles_8 rfl rfl ⟨Nat.le_of_ble_eq_true rfl, Nat.le_of_ble_eq_true rfl⟩ ⟨Nat.le_refl _, Nat.le_refl _⟩) hS (fun x_11 H locs hp_10 hU hS => ?_)
    refine b_if_eq (tgt := 19) hx hb dX12_miles_11 (by decide) (fun c_12 => ?_) (fun c_12 => ?_)
    ·
      refine lv_aload_n hx hb dX12_miles_19 rfl (lv_at hl 0 rfl) ?_
      refine lv_iconst (v := (-1)) hx hb dX12_miles_20 (by decide) ?_
      refine q_fi (q_runV (t := 0) (i := 0) (As := [.int (-1)]) (rest := []) C hU (c_X12_refuse hG (-1) (by omega)) vm_X12_refuse ml_X12_164 k_0.1 (hc := rfl) rfl (h1_0 hG) hl.1 rfl rfl (Nat.le_of_ble_eq_true rfl) dX12_miles_21 rfl rfl ⟨Nat.le_of_ble_eq_true rfl, Nat.le_of_ble_eq_true rfl⟩ ⟨Nat.le_refl _, Nat.le_refl _⟩) hS (fun x_18 iv_14 rv_15 H locs hG fa_16 fb_17 hp_13 hU hS => ?_)
      have hF1 := hF1.tr (m := ([16, 2], [])) fa_16 (by decide)
      have hF2 := hF2.tr (m := ([16, 2], [])) fb_17 (by decide)
      exact hret (⟨hG, hF1, hF2, sp_no (z := (-1)) (by unfold spMiles; (repeat' split) <;> first | rfl | omega) (by decide) hp_13 (fun k => fa_16.arr 2 0 k (by decide))⟩) hU hS dX12_miles_24
    ·
      refine lv_iload_n hx hb dX12_miles_14 rfl (lv_at hl 1 rfl) ?_
      refine lv_iload_n hx hb dX12_miles_15 rfl (lv_at hl 2 rfl) ?_
      refine b_icmp_ne (tgt := 25) hx hb dX12_miles_16 (by decide) (fun c_19 => ?_) (fun c_19 => ?_)
      ·
        refine lv_iload_n hx hb dX12_miles_25 rfl (lv_at hl 3 rfl) ?_
        refine b_if_ge (tgt := 36) hx hb dX12_miles_26 (by decide) (fun c_20 => ?_) (fun c_20 => ?_)
        ·
          refine lv_iload_n hx hb dX12_miles_36 rfl (lv_at hl 3 rfl) ?_
          refine lv_sipush (v := 9999) hx hb dX12_miles_37 (by decide) ?_
          refine b_icmp_le (tgt := 50) hx hb dX12_miles_40 (by decide) (fun c_21 => ?_) (fun c_21 => ?_)
          ·
            refine lv_aload_n hx hb dX12_miles_50 rfl (lv_at hl 0 rfl) ?_
            refine g_0_2 C hU hG (h1_0 hG) fl_X12_13 dX12_miles_51 ?_
            refine lv_bipush (v := 10) hx hb dX12_miles_54 (by decide) ?_
            refine lv_iload_n hx hb dX12_miles_56 rfl (lv_at hl 1 rfl) ?_
            refine lv_imul hx hb dX12_miles_57 ?_
            refine lv_topi (fun x_22 e_23 => ?_)
            have te_23 : x_22.toInt = 10 * (a : Int32).toInt := by rw [e_23, fb_mulI (by rw [show (10 : Int32).toInt = 10 from by decide]; omega) (by rw [show (10 : Int32).toInt = 10 from by decide]; omega), show (10 : Int32).toInt = 10 from by decide]
            refine lv_iload_n hx hb dX12_miles_58 rfl (lv_at hl 2 rfl) ?_
            refine lv_iadd hx hb dX12_miles_59 ?_
            refine lv_topi (fun x_24 e_25 => ?_)
            have te_25 : x_24.toInt = (x_22 : Int32).toInt + (b : Int32).toInt := by rw [e_25]; exact fb_addI (by omega) (by omega)
            refine a_2 C hU hG (h1_2 hG) (x := x_24) (by omega) (by omega) dX12_miles_60 (fun x_26 e_27 => ?_)
            have te_27 := congrArg Int32.toInt e_27
            refine lv_istore (lv' := [(4, .int x_26), (0, .ref (al.2 0 0)), (1, .int a), (2, .int b), (3, .int v)]) hx hb dX12_miles_61 hl (by decide) rfl (fun ls hl => ?_)
            refine lv_aload_n hx hb dX12_miles_63 rfl (lv_at hl 1 rfl) ?_
            refine g_0_2 C hU hG (h1_0 hG) fl_X12_13 dX12_miles_64 ?_
            refine lv_bipush (v := 10) hx hb dX12_miles_67 (by decide) ?_
            refine lv_iload_n hx hb dX12_miles_69 rfl (lv_at hl 2 rfl) ?_
            refine lv_imul hx hb dX12_miles_70 ?_
            refine lv_topi (fun x_28 e_29 => ?_)
            have te_29 : x_28.toInt = 10 * (a : Int32).toInt := by rw [e_29, fb_mulI (by rw [show (10 : Int32).toInt = 10 from by decide]; omega) (by rw [show (10 : Int32).toInt = 10 from by decide]; omega), show (10 : Int32).toInt = 10 from by decide]
            refine lv_iload_n hx hb dX12_miles_71 rfl (lv_at hl 3 rfl) ?_
            refine lv_iadd hx hb dX12_miles_72 ?_
            refine lv_topi (fun x_30 e_31 => ?_)
            have te_31 : x_30.toInt = (x_28 : Int32).toInt + (b : Int32).toInt := by rw [e_31]; exact fb_addI (by omega) (by omega)
            refine lv_iload_n hx hb dX12_miles_73 rfl (lv_at hl 4 rfl) ?_
            refine s_2 C hU hS (h1_2 hG) (x := x_30) (by omega) (by omega) dX12_miles_74 (fun iv_32 H locs ei_33 hU hS => ?_)
            have hG : GI al iv_32 rv := by rw [ei_33]; exact hG.puti (show _ ∧ _ from ⟨(fb_rng _).1, Int.le_of_lt_add_one (fb_rng _).2⟩) (nsA (by decide) _)
            have hF1 : FR ([16, 2], []) iv iv_32 := by rw [ei_33]; exact hF1.put (Or.inl (by decide))
            refine lv_aload_n hx hb dX12_miles_75 rfl (lv_at hl 1 rfl) ?_
            refine g_0_2 C hU hG (h1_0 hG) fl_X12_13 dX12_miles_76 ?_
            refine lv_bipush (v := 10) hx hb dX12_miles_79 (by decide) ?_
            refine lv_iload_n hx hb dX12_miles_81 rfl (lv_at hl 3 rfl) ?_
            refine lv_imul hx hb dX12_miles_82 ?_
            refine lv_topi (fun x_34 e_35 => ?_)
            have te_35 : x_34.toInt = 10 * (b : Int32).toInt := by rw [e_35, fb_mulI (by rw [show (10 : Int32).toInt = 10 from by decide]; omega) (by rw [show (10 : Int32).toInt = 10 from by decide]; omega), show (10 : Int32).toInt = 10 from by decide]
            refine lv_iload_n hx hb dX12_miles_83 rfl (lv_at hl 2 rfl) ?_
            refine lv_iadd hx hb dX12_miles_84 ?_
            refine lv_topi (fun x_36 e_37 => ?_)
            have te_37 : x_36.toInt = (x_34 : Int32).toInt + (a : Int32).toInt := by rw [e_37]; exact fb_addI (by omega) (by omega)
            refine lv_iload_n hx hb dX12_miles_85 rfl (lv_at hl 4 rfl) ?_
            refine s_2 C hU hS (h1_2 hG) (x := x_36) (by omega) (by omega) dX12_miles_86 (fun iv_38 H locs ei_39 hU hS => ?_)
            have hG : GI al iv_38 rv := by rw [ei_39]; exact hG.puti (show _ ∧ _ from ⟨(fb_rng _).1, Int.le_of_lt_add_one (fb_rng _).2⟩) (nsA (by decide) _)
            have hF1 : FR ([16, 2], []) iv iv_38 := by rw [ei_39]; exact hF1.put (Or.inl (by decide))
            refine lv_iload hx hb dX12_miles_87 (lv_at hl 0 rfl) ?_
            exact hret (⟨hG, hF1, hF2, Or.inl ⟨(by unfold spMiles; (repeat' split) <;> first | rfl | omega), by rw [e_27, show (x_24 : Int32).toNatClampNeg = 10 * a.toNatClampNeg + b.toNatClampNeg from by simp only [clamp_n]; omega], fun k => by rw [ei_39, ei_33, show (x_30 : Int32).toNatClampNeg = 10 * a.toNatClampNeg + b.toNatClampNeg from by simp only [clamp_n]; omega, show (x_36 : Int32).toNatClampNeg = 10 * b.toNatClampNeg + a.toNatClampNeg from by simp only [clamp_n]; omega]; exact up2_if⟩⟩) hU hS dX12_miles_89
          ·
            refine lv_aload_n hx hb dX12_miles_43 rfl (lv_at hl 0 rfl) ?_
            refine lv_bipush (v := (-6)) hx hb dX12_miles_44 (by decide) ?_
            refine q_fi (q_runV (t := 0) (i := 0) (As := [.int (-6)]) (rest := []) C hU (c_X12_refuse hG (-6) (by omega)) vm_X12_refuse ml_X12_164 k_0.1 (hc := rfl) rfl (h1_0 hG) hl.1 rfl rfl (Nat.le_of_ble_eq_true rfl) dX12_miles_46 rfl rfl ⟨Nat.le_of_ble_eq_true rfl, Nat.le_of_ble_eq_true rfl⟩ ⟨Nat.le_refl _, Nat.le_refl _⟩) hS (fun x_45 iv_41 rv_42 H locs hG fa_43 fb_44 hp_40 hU hS => ?_)
            have hF1 := hF1.tr (m := ([16, 2], [])) fa_43 (by decide)
            have hF2 := hF2.tr (m := ([16, 2], [])) fb_44 (by decide)
            exact hret (⟨hG, hF1, hF2, sp_no (z := (-6)) (by unfold spMiles; (repeat' split) <;> first | rfl | omega) (by decide) hp_40 (fun k => fa_43.arr 2 0 k (by decide))⟩) hU hS dX12_miles_49
        ·
          refine lv_aload_n hx hb dX12_miles_29 rfl (lv_at hl 0 rfl) ?_
          refine lv_bipush (v := (-4)) hx hb dX12_miles_30 (by decide) ?_
          refine q_fi (q_runV (t := 0) (i := 0) (As := [.int (-4)]) (rest := []) C hU (c_X12_refuse hG (-4) (by omega)) vm_X12_refuse ml_X12_164 k_0.1 (hc := rfl) rfl (h1_0 hG) hl.1 rfl rfl (Nat.le_of_ble_eq_true rfl) dX12_miles_32 rfl rfl ⟨Nat.le_of_ble_eq_true rfl, Nat.le_of_ble_eq_true rfl⟩ ⟨Nat.le_refl _, Nat.le_refl _⟩) hS (fun x_51 iv_47 rv_48 H locs hG fa_49 fb_50 hp_46 hU hS => ?_)
          have hF1 := hF1.tr (m := ([16, 2], [])) fa_49 (by decide)
          have hF2 := hF2.tr (m := ([16, 2], [])) fb_50 (by decide)
          exact hret (⟨hG, hF1, hF2, sp_no (z := (-4)) (by unfold spMiles; (repeat' split) <;> first | rfl | omega) (by decide) hp_46 (fun k => fa_49.arr 2 0 k (by decide))⟩) hU hS dX12_miles_35
      ·
        refine lv_aload_n hx hb dX12_miles_19 rfl (lv_at hl 0 rfl) ?_
        refine lv_iconst (v := (-1)) hx hb dX12_miles_20 (by decide) ?_
        refine q_fi (q_runV (t := 0) (i := 0) (As := [.int (-1)]) (rest := []) C hU (c_X12_refuse hG (-1) (by omega)) vm_X12_refuse ml_X12_164 k_0.1 (hc := rfl) rfl (h1_0 hG) hl.1 rfl rfl (Nat.le_of_ble_eq_true rfl) dX12_miles_21 rfl rfl ⟨Nat.le_of_ble_eq_true rfl, Nat.le_of_ble_eq_true rfl⟩ ⟨Nat.le_refl _, Nat.le_refl _⟩) hS (fun x_57 iv_53 rv_54 H locs hG fa_55 fb_56 hp_52 hU hS => ?_)
        have hF1 := hF1.tr (m := ([16, 2], [])) fa_55 (by decide)
        have hF2 := hF2.tr (m := ([16, 2], [])) fb_56 (by decide)
        exact hret (⟨hG, hF1, hF2, sp_no (z := (-1)) (by unfold spMiles; (repeat' split) <;> first | rfl | omega) (by decide) hp_52 (fun k => fa_55.arr 2 0 k (by decide))⟩) hU hS dX12_miles_24
set_option maxHeartbeats 4000000 in
set_option maxRecDepth 100000 in
theorem c_X7_milesBetween_x {l : Launch} {D : va_G} {cA : FieldType → ClassId} {sz : Nat} {al : Al} {iv : Iv} {rv : Rv} (hG : GI al iv rv) (pi : Nat) (hpi : pi < al.1 56) (pj : Nat) (hpj : pj < al.1 56) : Met l yX7_milesBetween (wd yX7_milesBetween cX7_milesBetween 3 (some .int)) (rm 0) (PcW D cA sz al iv rv [.ref (al.2 52 0), .ref (al.2 56 pi), .ref (al.2 56 pj)]) (QI D cA sz al (pI iv rv (fun r => r = iv 55 pi pj))) 0 0 (Aq sz) := by
  refine mk_i (by decide) (Nat.le_of_ble_eq_true rfl) rfl ?_
  intro p e s m args below meth c ls Q H locs C hU hS hl hret
  have hx := C.1.1
  have hb := C.1.2.1
  have hl : lv_has ls 3 [(0, .ref (al.2 52 0)), (1, .ref (al.2 56 pi)), (2, .ref (al.2 56 pj))] := hl
  have hG0 := hG
  refine lv_aload_n hx hb dX7_milesBetween_0 rfl (lv_at hl 0 rfl) ?_
  refine g_52_1 C hU hG (h1_52 hG) fl_X7_20 dX7_milesBetween_1 ?_
  refine lv_aload_n hx hb dX7_milesBetween_4 rfl (lv_at hl 1 rfl) ?_
  refine g_56_0 C hU hG hpi fl_X7_29 dX7_milesBetween_5 (fun x_1 e_2 le_2 ue_2 => ?_)
  have te_2 := congrArg Int32.toInt e_2
  refine a_54 C hU hG (h1_54 hG) (x := x_1) (by omega) (by omega) dX7_milesBetween_8 (fun j_3 ej_4 hb_5 => ?_)
  refine lv_aload_n hx hb dX7_milesBetween_9 rfl (lv_at hl 2 rfl) ?_
  refine g_56_0 C hU hG hpj fl_X7_29 dX7_milesBetween_10 (fun x_6 e_7 le_7 ue_7 => ?_)
  have te_7 := congrArg Int32.toInt e_7
  refine a_55 C hU hG hb_5 (x := x_6) (by omega) (by omega) dX7_milesBetween_13 (fun x_8 e_9 => ?_)
  have te_9 := congrArg Int32.toInt e_9
  exact hret (⟨rfl, rfl, by rw [e_9, (mbw hG hpi hpj te_2 ej_4 te_7).1, (mbw hG hpi hpj te_2 ej_4 te_7).2]⟩) hU hS dX7_milesBetween_14
set_option maxHeartbeats 4000000 in
set_option maxRecDepth 100000 in
theorem c_X7_setMiles_x {l : Launch} {D : va_G} {cA : FieldType → ClassId} {sz : Nat} {al : Al} {iv : Iv} {rv : Rv} (hG : GI al iv rv) (pi : Nat) (hpi : pi < al.1 56) (pj : Nat) (hpj : pj < al.1 56) (v : Int32) : Met l yX7_setMiles (wd yX7_setMiles cX7_setMiles 4 none) (rm 0) (PcW D cA sz al iv rv [.ref (al.2 52 0), .ref (al.2 56 pi), .ref (al.2 56 pj), .int v]) (QV D cA sz al (fV al ([55], []) iv rv (fun iv' rv' => ∀ i k, iv' 55 i k = if (i = pi ∧ k = pj) ∨ (i = pj ∧ k = pi) then v else iv 55 i k))) 0 0 (Aq sz) := by
  refine mk_v (by decide) (Nat.le_of_ble_eq_true rfl) rfl ?_
  intro p e s m args below meth c ls Q H locs C hU hS hl hret
  have hx := C.1.1
  have hb := C.1.2.1
  have hl : lv_has ls 4 [(0, .ref (al.2 52 0)), (1, .ref (al.2 56 pi)), (2, .ref (al.2 56 pj)), (3, .int v)] := hl
  have hG0 := hG
  have hF1 : FR ([55], []) iv iv := FR.rf
  have hF2 : FR ([55], []) rv rv := FR.rf
  refine lv_aload_n hx hb dX7_setMiles_0 rfl (lv_at hl 0 rfl) ?_
  refine g_52_1 C hU hG (h1_52 hG) fl_X7_20 dX7_setMiles_1 ?_
  refine lv_aload_n hx hb dX7_setMiles_4 rfl (lv_at hl 1 rfl) ?_
  refine g_56_0 C hU hG hpi fl_X7_29 dX7_setMiles_5 (fun x_1 e_2 le_2 ue_2 => ?_)
  have te_2 := congrArg Int32.toInt e_2
  refine a_54 C hU hG (h1_54 hG) (x := x_1) (by omega) (by omega) dX7_setMiles_8 (fun j_3 ej_4 hb_5 => ?_)
  refine lv_aload_n hx hb dX7_setMiles_9 rfl (lv_at hl 2 rfl) ?_
  refine g_56_0 C hU hG hpj fl_X7_29 dX7_setMiles_10 (fun x_6 e_7 le_7 ue_7 => ?_)
  have te_7 := congrArg Int32.toInt e_7
  refine lv_iload_n hx hb dX7_setMiles_13 rfl (lv_at hl 3 rfl) ?_
  refine s_55 C hU hS hb_5 (x := x_6) (by omega) (by omega) dX7_setMiles_14 (fun iv_8 H locs ei_9 hU hS => ?_)
  have hG : GI al iv_8 rv := by rw [ei_9]; exact hG.puti (show _ ∧ _ from ⟨(fb_rng _).1, Int.le_of_lt_add_one (fb_rng _).2⟩) (nsA (by decide) _)
  have hF1 : FR ([55], []) iv iv_8 := by rw [ei_9]; exact hF1.put (Or.inl (by decide))
  refine lv_aload_n hx hb dX7_setMiles_15 rfl (lv_at hl 0 rfl) ?_
  refine g_52_1 C hU hG (h1_52 hG) fl_X7_20 dX7_setMiles_16 ?_
  refine lv_aload_n hx hb dX7_setMiles_19 rfl (lv_at hl 2 rfl) ?_
  refine g_56_0 C hU hG hpj fl_X7_29 dX7_setMiles_20 (fun x_10 e_11 le_11 ue_11 => ?_)
  have te_11 := congrArg Int32.toInt e_11
  have ne_11 : x_10.toInt = (iv 56 pj 0).toInt := by rw [e_11, hF1 56 pj 0 (by decide)]
  refine a_54 C hU hG (h1_54 hG) (x := x_10) (by omega) (by omega) dX7_setMiles_23 (fun j_12 ej_13 hb_14 => ?_)
  refine lv_aload_n hx hb dX7_setMiles_24 rfl (lv_at hl 1 rfl) ?_
  refine g_56_0 C hU hG hpi fl_X7_29 dX7_setMiles_25 (fun x_15 e_16 le_16 ue_16 => ?_)
  have te_16 := congrArg Int32.toInt e_16
  have ne_16 : x_15.toInt = (iv 56 pi 0).toInt := by rw [e_16, hF1 56 pi 0 (by decide)]
  refine lv_iload_n hx hb dX7_setMiles_28 rfl (lv_at hl 3 rfl) ?_
  refine s_55 C hU hS hb_14 (x := x_15) (by omega) (by omega) dX7_setMiles_29 (fun iv_17 H locs ei_18 hU hS => ?_)
  have hG : GI al iv_17 rv := by rw [ei_18]; exact hG.puti (show _ ∧ _ from ⟨(fb_rng _).1, Int.le_of_lt_add_one (fb_rng _).2⟩) (nsA (by decide) _)
  have hF1 : FR ([55], []) iv iv_17 := by rw [ei_18]; exact hF1.put (Or.inl (by decide))
  exact hret (⟨hG, hF1, hF2, fun i k => by rw [ei_18, ei_9, (mbw hG0 hpi hpj te_2 ej_4 te_7).1, (mbw hG0 hpi hpj te_2 ej_4 te_7).2, (mbw hG0 hpj hpi ne_11 ej_13 ne_16).1, (mbw hG0 hpj hpi ne_11 ej_13 ne_16).2]; exact up2_ij⟩) hU hS dX7_setMiles_30
set_option maxHeartbeats 4000000 in
set_option maxRecDepth 100000 in
theorem c_X11_miles_x {l : Launch} {D : va_G} {cA : FieldType → ClassId} {sz : Nat} {al : Al} {iv : Iv} {rv : Rv} (hG : GI al iv rv) (a : Int32) (b : Int32) (v : Int32) : Met l yX11_miles (wd yX11_miles cX11_miles 7 (some .int)) (rm 2) (PcW D cA sz al iv rv [.ref (al.2 49 0), .int a, .int b, .int v]) (QI D cA sz al (fI al ([51, 55], []) iv rv (fun r iv' rv' => (spMiles a b v = 0 ∧ r = iv 55 a.toNatClampNeg b.toNatClampNeg ∧ ∀ i k, iv' 55 i k = if (i = a.toNatClampNeg ∧ k = b.toNatClampNeg) ∨ (i = b.toNatClampNeg ∧ k = a.toNatClampNeg) then v else iv 55 i k) ∨ (spMiles a b v ≠ 0 ∧ r = spMiles a b v ∧ ∀ i k, iv' 55 i k = iv 55 i k)))) 0 0 (Aq sz) := by
  refine mk_i (by decide) (Nat.le_of_ble_eq_true rfl) rfl ?_
  intro p e s m args below meth c ls Q H locs C hU hS hl hret
  have hx := C.1.1
  have hb := C.1.2.1
  have hl : lv_has ls 7 [(0, .ref (al.2 49 0)), (1, .int a), (2, .int b), (3, .int v)] := hl
  have hG0 := hG
  have hF1 : FR ([51, 55], []) iv iv := FR.rf
  have hF2 : FR ([51, 55], []) rv rv := FR.rf
  have km6 : ((-6) : Int32).toInt = -6 := by decide
  have km4 : ((-4) : Int32).toInt = -4 := by decide
  have km1 : ((-1) : Int32).toInt = -1 := by decide
  have k9999 : (9999 : Int32).toInt = 9999 := by decide
  refine lv_aload_n hx hb dX11_miles_0 rfl (lv_at hl 0 rfl) ?_
  refine g_49_0 C hU hG (h1_49 hG) fl_X11_10 dX11_miles_1 ?_
  refine lv_iload_n hx hb dX11_miles_4 rfl (lv_at hl 1 rfl) ?_
  refine q_pr (q_runV (t := 52) (i := 0) (As := [.int a]) (rest := []) C hU (c_X7_find hG a ) vm_X7_find ml_X11_81 k_52.1 (hc := rfl) rfl (h1_52 hG) hl.1 rfl rfl (Nat.le_of_ble_eq_true rfl) dX11_miles_5 rfl rfl ⟨Nat.le_of_ble_eq_true rfl, Nat.le_of_ble_eq_true rfl⟩ ⟨Nat.le_refl _, Nat.le_refl _⟩) hS (fun r_2 H locs hp_1 hU hS => ?_)
  have hb_3 := hp_1.1
  refine b_astore (lv' := [(4, rfv al 56 r_2), (0, .ref (al.2 49 0)), (1, .int a), (2, .int b), (3, .int v)]) hx hb dX11_miles_8 hl (by decide) rfl (fun ls hl => ?_)
  refine lv_aload_n hx hb dX11_miles_10 rfl (lv_at hl 1 rfl) ?_
  refine g_49_0 C hU hG (h1_49 hG) fl_X11_10 dX11_miles_11 ?_
  refine lv_iload_n hx hb dX11_miles_14 rfl (lv_at hl 3 rfl) ?_
  refine q_pr (q_runV (t := 52) (i := 0) (As := [.int b]) (rest := []) C hU (c_X7_find hG b ) vm_X7_find ml_X11_81 k_52.1 (hc := rfl) rfl (h1_52 hG) hl.1 rfl rfl (Nat.le_of_ble_eq_true rfl) dX11_miles_15 rfl rfl ⟨Nat.le_of_ble_eq_true rfl, Nat.le_of_ble_eq_true rfl⟩ ⟨Nat.le_refl _, Nat.le_refl _⟩) hS (fun r_5 H locs hp_4 hU hS => ?_)
  have hb_6 := hp_4.1
  refine b_astore (lv' := [(5, rfv al 56 r_5), (4, rfv al 56 r_2), (0, .ref (al.2 49 0)), (1, .int a), (2, .int b), (3, .int v)]) hx hb dX11_miles_18 hl (by decide) (by simp [List.filter_cons, rfv_cat]) (fun ls hl => ?_)
  refine b_aload (al := al) (t' := 56) (r := r_2) hx hb dX11_miles_20 (lv_at hl 1 rfl) ?_
  refine b_ifnull (tgt := 37) hx hb dX11_miles_22 (by decide) (fun ej_9 => ?_) (fun j_8 ej_9 => ?_)
  ·
    subst ej_9
    have hl : lv_has ls 7 [(5, rfv al 56 r_5), (4, rfv al 56 none), (0, .ref (al.2 49 0)), (1, .int a), (2, .int b), (3, .int v)] := hl
    have hq4 := hp_1.2.2 rfl
    refine lv_aload_n hx hb dX11_miles_37 rfl (lv_at hl 2 rfl) ?_
    refine lv_iconst (v := (-1)) hx hb dX11_miles_38 (by decide) ?_
    refine q_fi (q_runV (t := 49) (i := 0) (As := [.int (-1)]) (rest := []) C hU (c_X11_refuse hG (-1) (by omega)) vm_X11_refuse ml_X11_77 k_49.1 (hc := rfl) rfl (h1_49 hG) hl.1 rfl rfl (Nat.le_of_ble_eq_true rfl) dX11_miles_39 rfl rfl ⟨Nat.le_of_ble_eq_true rfl, Nat.le_of_ble_eq_true rfl⟩ ⟨Nat.le_refl _, Nat.le_refl _⟩) hS (fun x_15 iv_11 rv_12 H locs hG fa_13 fb_14 hp_10 hU hS => ?_)
    have hF1 := hF1.tr (m := ([51, 55], [])) fa_13 (by decide)
    have hF2 := hF2.tr (m := ([51, 55], [])) fb_14 (by decide)
    exact hret (⟨hG, hF1, hF2, sp_no (z := (-1)) (by unfold spMiles; (repeat' split) <;> first | rfl | omega) (by decide) hp_10 (fun i k => fa_13.arr 55 i k (by decide))⟩) hU hS dX11_miles_42
  ·
    subst ej_9
    have hl : lv_has ls 7 [(5, rfv al 56 r_5), (4, .ref (al.2 56 j_8)), (0, .ref (al.2 49 0)), (1, .int a), (2, .int b), (3, .int v)] := hl
    have hb_16 : j_8 < al.1 56 := hb_3 j_8 rfl
    have hq4 := hp_1.2.1 _ rfl
    have hn4 := hq4.1
    rw [clamp_n] at hn4
    refine b_aload (al := al) (t' := 56) (r := r_5) hx hb dX11_miles_25 (lv_at hl 0 rfl) ?_
    refine b_ifnull (tgt := 37) hx hb dX11_miles_27 (by decide) (fun ej_19 => ?_) (fun j_18 ej_19 => ?_)
    ·
      subst ej_19
      have hl : lv_has ls 7 [(5, rfv al 56 none), (4, .ref (al.2 56 j_8)), (0, .ref (al.2 49 0)), (1, .int a), (2, .int b), (3, .int v)] := hl
      have hq5 := hp_4.2.2 rfl
      refine lv_aload_n hx hb dX11_miles_37 rfl (lv_at hl 2 rfl) ?_
      refine lv_iconst (v := (-1)) hx hb dX11_miles_38 (by decide) ?_
      refine q_fi (q_runV (t := 49) (i := 0) (As := [.int (-1)]) (rest := []) C hU (c_X11_refuse hG (-1) (by omega)) vm_X11_refuse ml_X11_77 k_49.1 (hc := rfl) rfl (h1_49 hG) hl.1 rfl rfl (Nat.le_of_ble_eq_true rfl) dX11_miles_39 rfl rfl ⟨Nat.le_of_ble_eq_true rfl, Nat.le_of_ble_eq_true rfl⟩ ⟨Nat.le_refl _, Nat.le_refl _⟩) hS (fun x_25 iv_21 rv_22 H locs hG fa_23 fb_24 hp_20 hU hS => ?_)
      have hF1 := hF1.tr (m := ([51, 55], [])) fa_23 (by decide)
      have hF2 := hF2.tr (m := ([51, 55], [])) fb_24 (by decide)
      exact hret (⟨hG, hF1, hF2, sp_no (z := (-1)) (by unfold spMiles; (repeat' split) <;> first | rfl | omega) (by decide) hp_20 (fun i k => fa_23.arr 55 i k (by decide))⟩) hU hS dX11_miles_42
    ·
      subst ej_19
      have hl : lv_has ls 7 [(5, .ref (al.2 56 j_18)), (4, .ref (al.2 56 j_8)), (0, .ref (al.2 49 0)), (1, .int a), (2, .int b), (3, .int v)] := hl
      have hb_26 : j_18 < al.1 56 := hb_6 j_18 rfl
      have hq5 := hp_4.2.1 _ rfl
      have hn5 := hq5.1
      rw [clamp_n] at hn5
      refine lv_aload hx hb dX11_miles_30 (lv_at hl 1 rfl) ?_
      refine lv_aload hx hb dX11_miles_32 (lv_at hl 0 rfl) ?_
      refine b_acmp_ne (tgt := 43) hx hb hU hb_16 hb_26 dX11_miles_34 (by decide) (fun c_27 => ?_) (fun c_27 => ?_)
      ·
        refine lv_iload_n hx hb dX11_miles_43 rfl (lv_at hl 5 rfl) ?_
        refine b_if_ge (tgt := 54) hx hb dX11_miles_44 (by decide) (fun c_28 => ?_) (fun c_28 => ?_)
        ·
          refine lv_iload_n hx hb dX11_miles_54 rfl (lv_at hl 5 rfl) ?_
          refine lv_sipush (v := 9999) hx hb dX11_miles_55 (by decide) ?_
          refine b_icmp_le (tgt := 68) hx hb dX11_miles_58 (by decide) (fun c_29 => ?_) (fun c_29 => ?_)
          ·
            refine lv_aload_n hx hb dX11_miles_68 rfl (lv_at hl 2 rfl) ?_
            refine g_49_0 C hU hG (h1_49 hG) fl_X11_10 dX11_miles_69 ?_
            refine lv_aload hx hb dX11_miles_72 (lv_at hl 1 rfl) ?_
            refine lv_aload hx hb dX11_miles_74 (lv_at hl 0 rfl) ?_
            refine q_pi (q_runV (t := 52) (i := 0) (As := [.ref (al.2 56 j_8), .ref (al.2 56 j_18)]) (rest := []) C hU (c_X7_milesBetween_x hG (j_8) hb_16 (j_18) hb_26 ) vm_X7_milesBetween ml_X11_94 k_52.1 (hc := rfl) rfl (h1_52 hG) hl.1 rfl rfl (Nat.le_of_ble_eq_true rfl) dX11_miles_76 rfl rfl ⟨Nat.le_of_ble_eq_true rfl, Nat.le_of_ble_eq_true rfl⟩ ⟨Nat.le_refl _, Nat.le_refl _⟩) hS (fun x_31 H locs hp_30 hU hS => ?_)
            refine lv_istore (lv' := [(6, .int x_31), (5, .ref (al.2 56 j_18)), (4, .ref (al.2 56 j_8)), (0, .ref (al.2 49 0)), (1, .int a), (2, .int b), (3, .int v)]) hx hb dX11_miles_79 hl (by decide) rfl (fun ls hl => ?_)
            refine lv_aload_n hx hb dX11_miles_81 rfl (lv_at hl 3 rfl) ?_
            refine g_49_0 C hU hG (h1_49 hG) fl_X11_10 dX11_miles_82 ?_
            refine lv_aload hx hb dX11_miles_85 (lv_at hl 2 rfl) ?_
            refine lv_aload hx hb dX11_miles_87 (lv_at hl 1 rfl) ?_
            refine lv_iload_n hx hb dX11_miles_89 rfl (lv_at hl 6 rfl) ?_
            refine q_fv (q_runV (t := 52) (i := 0) (As := [.ref (al.2 56 j_8), .ref (al.2 56 j_18), .int v]) (rest := []) C hU (c_X7_setMiles_x hG (j_8) hb_16 (j_18) hb_26 v ) vm_X7_setMiles ml_X11_98 k_52.1 (hc := rfl) rfl (h1_52 hG) hl.1 rfl rfl (Nat.le_of_ble_eq_true rfl) dX11_miles_90 rfl rfl ⟨Nat.le_of_ble_eq_true rfl, Nat.le_of_ble_eq_true rfl⟩ ⟨Nat.le_refl _, Nat.le_refl _⟩) hS (fun iv_33 rv_34 H locs hG fa_35 fb_36 hp_32 hU hS => ?_)
            have hF1 := hF1.tr (m := ([51, 55], [])) fa_35 (by decide)
            have hF2 := hF2.tr (m := ([51, 55], [])) fb_36 (by decide)
            refine lv_iload hx hb dX11_miles_93 (lv_at hl 0 rfl) ?_
            exact hret (⟨hG, hF1, hF2, Or.inl ⟨(by unfold spMiles; (repeat' split) <;> first | rfl | omega), by rw [hp_30, hq4.1, hq5.1], fun i k => by rw [hp_32 i k, hq4.1, hq5.1]⟩⟩) hU hS dX11_miles_95
          ·
            refine lv_aload_n hx hb dX11_miles_61 rfl (lv_at hl 2 rfl) ?_
            refine lv_bipush (v := (-6)) hx hb dX11_miles_62 (by decide) ?_
            refine q_fi (q_runV (t := 49) (i := 0) (As := [.int (-6)]) (rest := []) C hU (c_X11_refuse hG (-6) (by omega)) vm_X11_refuse ml_X11_77 k_49.1 (hc := rfl) rfl (h1_49 hG) hl.1 rfl rfl (Nat.le_of_ble_eq_true rfl) dX11_miles_64 rfl rfl ⟨Nat.le_of_ble_eq_true rfl, Nat.le_of_ble_eq_true rfl⟩ ⟨Nat.le_refl _, Nat.le_refl _⟩) hS (fun x_42 iv_38 rv_39 H locs hG fa_40 fb_41 hp_37 hU hS => ?_)
            have hF1 := hF1.tr (m := ([51, 55], [])) fa_40 (by decide)
            have hF2 := hF2.tr (m := ([51, 55], [])) fb_41 (by decide)
            exact hret (⟨hG, hF1, hF2, sp_no (z := (-6)) (by unfold spMiles; (repeat' split) <;> first | rfl | omega) (by decide) hp_37 (fun i k => fa_40.arr 55 i k (by decide))⟩) hU hS dX11_miles_67
        ·
          refine lv_aload_n hx hb dX11_miles_47 rfl (lv_at hl 2 rfl) ?_
          refine lv_bipush (v := (-4)) hx hb dX11_miles_48 (by decide) ?_
          refine q_fi (q_runV (t := 49) (i := 0) (As := [.int (-4)]) (rest := []) C hU (c_X11_refuse hG (-4) (by omega)) vm_X11_refuse ml_X11_77 k_49.1 (hc := rfl) rfl (h1_49 hG) hl.1 rfl rfl (Nat.le_of_ble_eq_true rfl) dX11_miles_50 rfl rfl ⟨Nat.le_of_ble_eq_true rfl, Nat.le_of_ble_eq_true rfl⟩ ⟨Nat.le_refl _, Nat.le_refl _⟩) hS (fun x_48 iv_44 rv_45 H locs hG fa_46 fb_47 hp_43 hU hS => ?_)
          have hF1 := hF1.tr (m := ([51, 55], [])) fa_46 (by decide)
          have hF2 := hF2.tr (m := ([51, 55], [])) fb_47 (by decide)
          exact hret (⟨hG, hF1, hF2, sp_no (z := (-4)) (by unfold spMiles; (repeat' split) <;> first | rfl | omega) (by decide) hp_43 (fun i k => fa_46.arr 55 i k (by decide))⟩) hU hS dX11_miles_53
      ·
        refine lv_aload_n hx hb dX11_miles_37 rfl (lv_at hl 2 rfl) ?_
        refine lv_iconst (v := (-1)) hx hb dX11_miles_38 (by decide) ?_
        refine q_fi (q_runV (t := 49) (i := 0) (As := [.int (-1)]) (rest := []) C hU (c_X11_refuse hG (-1) (by omega)) vm_X11_refuse ml_X11_77 k_49.1 (hc := rfl) rfl (h1_49 hG) hl.1 rfl rfl (Nat.le_of_ble_eq_true rfl) dX11_miles_39 rfl rfl ⟨Nat.le_of_ble_eq_true rfl, Nat.le_of_ble_eq_true rfl⟩ ⟨Nat.le_refl _, Nat.le_refl _⟩) hS (fun x_54 iv_50 rv_51 H locs hG fa_52 fb_53 hp_49 hU hS => ?_)
        have hF1 := hF1.tr (m := ([51, 55], [])) fa_52 (by decide)
        have hF2 := hF2.tr (m := ([51, 55], [])) fb_53 (by decide)
        exact hret (⟨hG, hF1, hF2, sp_no (z := (-1)) (by unfold spMiles; (repeat' split) <;> first | rfl | omega) (by decide) hp_49 (fun i k => fa_52.arr 55 i k (by decide))⟩) hU hS dX11_miles_42
