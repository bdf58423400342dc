set_option maxHeartbeats 4000000 in
set_option maxRecDepth 100000 in
theorem c_X12_land_x {l : Launch} {D : va_G} {cA : FieldType → ClassId} {sz : Nat} {al : Al} {iv : Iv} {rv : Rv} (hG : GI al iv rv) (a : Int32) (v : Int32) : Met l yX12_land (wd yX12_land cX12_land 4 (some .int)) (rm 2) (PcW D cA sz al iv rv [.ref (al.2 0 0), .int a, .int v]) (QI D cA sz al (fI al ([16, 1], []) iv rv (fun r iv' rv' => (((0 ≤ a.toInt ∧ a.toInt ≤ 9) ∧ (0 ≤ v.toInt ∧ v.toInt ≤ 3)) ∧ r = iv 1 0 a.toNatClampNeg ∧ ∀ k, iv' 1 0 k = if k = a.toNatClampNeg then v else iv 1 0 k) ∨ ((¬ ((0 ≤ a.toInt ∧ a.toInt ≤ 9) ∧ (0 ≤ v.toInt ∧ v.toInt ≤ 3))) ∧ r = -1 ∧ ∀ k, iv' 1 0 k = iv 1 0 k)))) 0 0 (Aq sz) := by
  refine mk_i (by decide) (Nat.le_of_ble_eq_true rfl) rfl ?_
  intro p e s m args below meth c ls Q H locs C hU hS hl hret
  have hx := C.1.1
  have hb := C.1.2.1
  have hl : lv_has ls 4 [(0, .ref (al.2 0 0)), (1, .int a), (2, .int v)] := hl
  have hG0 := hG
  have h6 := le6 hG
  have h20 := le20 hG
  have h41 := le41 hG
  have hF1 : FR ([16, 1], []) iv iv := FR.rf
  have hF2 : FR ([16, 1], []) rv rv := FR.rf
  have km1 : ((-1) : Int32).toInt = -1 := by decide
  have k0 : (0 : Int32).toInt = 0 := by decide
  have k3 : (3 : Int32).toInt = 3 := by decide
  refine lv_iload_n hx hb dX12_land_0 rfl (lv_at hl 1 rfl) ?_
  refine q_pi (q_runS (As := [.int a]) (rest := []) C hU (c_X12_isPort  a ) sm_X12_isPort ml_X12_171 hl.1 rfl rfl (Nat.le_of_ble_eq_true rfl) dX12_land_1 rfl rfl ⟨Nat.le_of_ble_eq_true rfl, Nat.le_of_ble_eq_true rfl⟩ ⟨Nat.le_refl _, Nat.le_refl _⟩) hS (fun x_2 H locs hp_1 hU hS => ?_)
  refine b_if_eq (tgt := 16) hx hb dX12_land_4 (by decide) (fun c_3 => ?_) (fun c_3 => ?_)
  ·
    refine lv_aload_n hx hb dX12_land_16 rfl (lv_at hl 0 rfl) ?_
    refine lv_iconst (v := (-1)) hx hb dX12_land_17 (by decide) ?_
    refine q_fi (q_runV (t := 0) (i := 0) (As := [.int (-1)]) (rest := []) C hU (c_X12_refuse hG (-1) (by omega)) vm_X12_refuse ml_X12_164 k_0.1 (hc := rfl) rfl (h1_0 hG) hl.1 rfl rfl (Nat.le_of_ble_eq_true rfl) dX12_land_18 rfl rfl ⟨Nat.le_of_ble_eq_true rfl, Nat.le_of_ble_eq_true rfl⟩ ⟨Nat.le_refl _, Nat.le_refl _⟩) hS (fun x_9 iv_5 rv_6 H locs hG fa_7 fb_8 hp_4 hU hS => ?_)
    have hF1 := hF1.tr (m := ([16, 1], [])) fa_7 (by decide)
    have hF2 := hF2.tr (m := ([16, 1], [])) fb_8 (by decide)
    exact hret (⟨hG, hF1, hF2, Or.inr ⟨by omega, hp_4, fun k => fa_7.arr 1 0 k (by decide)⟩⟩) hU hS dX12_land_21
  ·
    refine lv_iload_n hx hb dX12_land_7 rfl (lv_at hl 2 rfl) ?_
    refine lv_iconst (v := 0) hx hb dX12_land_8 (by decide) ?_
    refine lv_iconst (v := 3) hx hb dX12_land_9 (by decide) ?_
    refine q_pi (q_runS (As := [.int v, .int 0, .int 3]) (rest := []) C hU (c_X12_in  v 0 3 ) sm_X12_in ml_X12_156 hl.1 rfl rfl (Nat.le_of_ble_eq_true rfl) dX12_land_10 rfl rfl ⟨Nat.le_of_ble_eq_true rfl, Nat.le_of_ble_eq_true rfl⟩ ⟨Nat.le_refl _, Nat.le_refl _⟩) hS (fun x_11 H locs hp_10 hU hS => ?_)
    refine b_if_ne (tgt := 22) hx hb dX12_land_13 (by decide) (fun c_12 => ?_) (fun c_12 => ?_)
    ·
      refine lv_aload_n hx hb dX12_land_22 rfl (lv_at hl 0 rfl) ?_
      refine g_0_1 C hU hG (h1_0 hG) fl_X12_7 dX12_land_23 ?_
      refine lv_iload_n hx hb dX12_land_26 rfl (lv_at hl 1 rfl) ?_
      refine a_1 C hU hG (h1_1 hG) (x := a) (by omega) (by omega) dX12_land_27 (fun x_13 e_14 le_14 ue_14 => ?_)
      have te_14 := congrArg Int32.toInt e_14
      refine lv_istore_n (lv' := [(3, .int x_13), (0, .ref (al.2 0 0)), (1, .int a), (2, .int v)]) hx hb dX12_land_28 rfl hl (by decide) rfl (fun ls hl => ?_)
      refine lv_aload_n hx hb dX12_land_29 rfl (lv_at hl 1 rfl) ?_
      refine g_0_1 C hU hG (h1_0 hG) fl_X12_7 dX12_land_30 ?_
      refine lv_iload_n hx hb dX12_land_33 rfl (lv_at hl 2 rfl) ?_
      refine lv_iload_n hx hb dX12_land_34 rfl (lv_at hl 3 rfl) ?_
      refine s_1 C hU hS (h1_1 hG) (x := a) (by omega) (by omega) dX12_land_35 (fun iv_15 H locs ei_16 hU hS => ?_)
      have hG : GI al iv_15 rv := by rw [ei_16]; exact hG.puti (show _ ∧ _ from ⟨show (0 : Int) ≤ _ by omega, show _ ≤ (3 : Int) by omega⟩) (nsA (by decide) _)
      have hF1 : FR ([16, 1], []) iv iv_15 := by rw [ei_16]; exact hF1.put (Or.inl (by decide))
      refine lv_iload_n hx hb dX12_land_36 rfl (lv_at hl 0 rfl) ?_
      exact hret (⟨hG, hF1, hF2, Or.inl ⟨by omega, e_14, fun k => by rw [ei_16]; simp [up3]⟩⟩) hU hS dX12_land_37
    ·
      refine lv_aload_n hx hb dX12_land_16 rfl (lv_at hl 0 rfl) ?_
      refine lv_iconst (v := (-1)) hx hb dX12_land_17 (by decide) ?_
      refine q_fi (q_runV (t := 0) (i := 0) (As := [.int (-1)]) (rest := []) C hU (c_X12_refuse hG (-1) (by omega)) vm_X12_refuse ml_X12_164 k_0.1 (hc := rfl) rfl (h1_0 hG) hl.1 rfl rfl (Nat.le_of_ble_eq_true rfl) dX12_land_18 rfl rfl ⟨Nat.le_of_ble_eq_true rfl, Nat.le_of_ble_eq_true rfl⟩ ⟨Nat.le_refl _, Nat.le_refl _⟩) hS (fun x_22 iv_18 rv_19 H locs hG fa_20 fb_21 hp_17 hU hS => ?_)
      have hF1 := hF1.tr (m := ([16, 1], [])) fa_20 (by decide)
      have hF2 := hF2.tr (m := ([16, 1], [])) fb_21 (by decide)
      exact hret (⟨hG, hF1, hF2, Or.inr ⟨by omega, hp_17, fun k => fa_20.arr 1 0 k (by decide)⟩⟩) hU hS dX12_land_21
set_option maxHeartbeats 4000000 in
set_option maxRecDepth 100000 in
theorem c_X11_land_x {l : Launch} {D : va_G} {cA : FieldType → ClassId} {sz : Nat} {al : Al} {iv : Iv} {rv : Rv} (hG : GI al iv rv) (a : Int32) (v : Int32) : Met l yX11_land (wd yX11_land cX11_land 5 (some .int)) (rm 2) (PcW D cA sz al iv rv [.ref (al.2 49 0), .int a, .int v]) (QI D cA sz al (fI al ([51], [(56, 1)]) iv rv (fun r iv' rv' => (((0 ≤ a.toInt ∧ a.toInt ≤ 9) ∧ (0 ≤ v.toInt ∧ v.toInt ≤ 3)) ∧ r = iv 56 a.toNatClampNeg 1 ∧ ∀ k, iv' 56 k 1 = if k = a.toNatClampNeg then v else iv 56 k 1) ∨ ((¬ ((0 ≤ a.toInt ∧ a.toInt ≤ 9) ∧ (0 ≤ v.toInt ∧ v.toInt ≤ 3))) ∧ r = -1 ∧ ∀ k, iv' 56 k 1 = iv 56 k 1)))) 0 0 (Aq sz) := by
  refine mk_i (by decide) (Nat.le_of_ble_eq_true rfl) rfl ?_
  intro p e s m args below meth c ls Q H locs C hU hS hl hret
  have hx := C.1.1
  have hb := C.1.2.1
  have hl : lv_has ls 5 [(0, .ref (al.2 49 0)), (1, .int a), (2, .int v)] := hl
  have hG0 := hG
  have hF1 : FR ([51], [(56, 1)]) iv iv := FR.rf
  have hF2 : FR ([51], [(56, 1)]) rv rv := FR.rf
  have km1 : ((-1) : Int32).toInt = -1 := by decide
  have k4 : (4 : Int32).toInt = 4 := by decide
  refine lv_aload_n hx hb dX11_land_0 rfl (lv_at hl 0 rfl) ?_
  refine g_49_0 C hU hG (h1_49 hG) fl_X11_10 dX11_land_1 ?_
  refine lv_iload_n hx hb dX11_land_4 rfl (lv_at hl 1 rfl) ?_
  refine q_pr (q_runV (t := 52) (i := 0) (As := [.int a]) (rest := []) C hU (c_X7_find hG a ) vm_X7_find ml_X11_81 k_52.1 (hc := rfl) rfl (h1_52 hG) hl.1 rfl rfl (Nat.le_of_ble_eq_true rfl) dX11_land_5 rfl rfl ⟨Nat.le_of_ble_eq_true rfl, Nat.le_of_ble_eq_true rfl⟩ ⟨Nat.le_refl _, Nat.le_refl _⟩) hS (fun r_2 H locs hp_1 hU hS => ?_)
  have hb_3 := hp_1.1
  refine b_astore_n (lv' := [(3, rfv al 56 r_2), (0, .ref (al.2 49 0)), (1, .int a), (2, .int v)]) hx hb dX11_land_8 rfl hl (by decide) rfl (fun ls hl => ?_)
  refine b_aload_n (al := al) (t' := 56) (r := r_2) hx hb dX11_land_9 rfl (lv_at hl 0 rfl) ?_
  refine b_ifnull (tgt := 21) hx hb dX11_land_10 (by decide) (fun ej_6 => ?_) (fun j_5 ej_6 => ?_)
  ·
    subst ej_6
    have hl : lv_has ls 5 [(3, rfv al 56 none), (0, .ref (al.2 49 0)), (1, .int a), (2, .int v)] := hl
    have hq := hp_1.2.2 rfl
    refine lv_aload_n hx hb dX11_land_21 rfl (lv_at hl 1 rfl) ?_
    refine lv_iconst (v := (-1)) hx hb dX11_land_22 (by decide) ?_
    refine q_fi (q_runV (t := 49) (i := 0) (As := [.int (-1)]) (rest := []) C hU (c_X11_refuse hG (-1) (by omega)) vm_X11_refuse ml_X11_77 k_49.1 (hc := rfl) rfl (h1_49 hG) hl.1 rfl rfl (Nat.le_of_ble_eq_true rfl) dX11_land_23 rfl rfl ⟨Nat.le_of_ble_eq_true rfl, Nat.le_of_ble_eq_true rfl⟩ ⟨Nat.le_refl _, Nat.le_refl _⟩) hS (fun x_12 iv_8 rv_9 H locs hG fa_10 fb_11 hp_7 hU hS => ?_)
    have hF1 := hF1.tr (m := ([51], [(56, 1)])) fa_10 (by decide)
    have hF2 := hF2.tr (m := ([51], [(56, 1)])) fb_11 (by decide)
    exact hret (⟨hG, hF1, hF2, Or.inr ⟨by omega, hp_7, fun k => fa_10 56 k 1 (by decide)⟩⟩) hU hS dX11_land_26
  ·
    subst ej_6
    have hl : lv_has ls 5 [(3, .ref (al.2 56 j_5)), (0, .ref (al.2 49 0)), (1, .int a), (2, .int v)] := hl
    have hb_13 : j_5 < al.1 56 := hb_3 j_5 rfl
    have hq := hp_1.2.1 _ rfl
    refine lv_iconst (v := 4) hx hb dX11_land_13 (by decide) ?_
    refine lv_iload_n hx hb dX11_land_14 rfl (lv_at hl 3 rfl) ?_
    refine q_pi (q_runS (As := [.int 4, .int v]) (rest := []) C hU (c_X11_isOneOf  4 v ) sm_X11_isOneOf ml_X11_85 hl.1 rfl rfl (Nat.le_of_ble_eq_true rfl) dX11_land_15 rfl rfl ⟨Nat.le_of_ble_eq_true rfl, Nat.le_of_ble_eq_true rfl⟩ ⟨Nat.le_refl _, Nat.le_refl _⟩) hS (fun x_15 H locs hp_14 hU hS => ?_)
    refine b_if_ne (tgt := 27) hx hb dX11_land_18 (by decide) (fun c_16 => ?_) (fun c_16 => ?_)
    ·
      refine lv_aload_n hx hb dX11_land_27 rfl (lv_at hl 0 rfl) ?_
      refine g_56_1 C hU hG hb_13 fl_X11_89 dX11_land_28 (fun x_17 e_18 le_18 ue_18 => ?_)
      have te_18 := congrArg Int32.toInt e_18
      refine lv_istore (lv' := [(4, .int x_17), (3, .ref (al.2 56 j_5)), (0, .ref (al.2 49 0)), (1, .int a), (2, .int v)]) hx hb dX11_land_31 hl (by decide) rfl (fun ls hl => ?_)
      refine lv_aload_n hx hb dX11_land_33 rfl (lv_at hl 1 rfl) ?_
      refine lv_iload_n hx hb dX11_land_34 rfl (lv_at hl 4 rfl) ?_
      refine p_56_1 C hU hS hb_13 fl_X11_89 dX11_land_35 (fun iv_19 H locs ei_20 hU hS => ?_)
      have hG : GI al iv_19 rv := by rw [ei_20]; exact hG.puti (show _ ∧ _ from ⟨show (0 : Int) ≤ _ by omega, show _ ≤ (3 : Int) by omega⟩) (nsF (by decide))
      have hF1 : FR ([51], [(56, 1)]) iv iv_19 := by rw [ei_20]; exact hF1.put (by decide)
      refine lv_iload hx hb dX11_land_38 (lv_at hl 0 rfl) ?_
      exact hret (⟨hG, hF1, hF2, Or.inl ⟨by omega, by rw [e_18, hq.1], fun k => by rw [ei_20, hq.1]; simp [up3]⟩⟩) hU hS dX11_land_40
    ·
      refine lv_aload_n hx hb dX11_land_21 rfl (lv_at hl 1 rfl) ?_
      refine lv_iconst (v := (-1)) hx hb dX11_land_22 (by decide) ?_
      refine q_fi (q_runV (t := 49) (i := 0) (As := [.int (-1)]) (rest := []) C hU (c_X11_refuse hG (-1) (by omega)) vm_X11_refuse ml_X11_77 k_49.1 (hc := rfl) rfl (h1_49 hG) hl.1 rfl rfl (Nat.le_of_ble_eq_true rfl) dX11_land_23 rfl rfl ⟨Nat.le_of_ble_eq_true rfl, Nat.le_of_ble_eq_true rfl⟩ ⟨Nat.le_refl _, Nat.le_refl _⟩) hS (fun x_26 iv_22 rv_23 H locs hG fa_24 fb_25 hp_21 hU hS => ?_)
      have hF1 := hF1.tr (m := ([51], [(56, 1)])) fa_24 (by decide)
      have hF2 := hF2.tr (m := ([51], [(56, 1)])) fb_25 (by decide)
      exact hret (⟨hG, hF1, hF2, Or.inr ⟨by omega, hp_21, fun k => fa_24 56 k 1 (by decide)⟩⟩) hU hS dX11_land_26
