set_option maxHeartbeats 4000000 in
set_option maxRecDepth 100000 in
theorem c_X12_bar_x {l : Launch} {D : va_G} {cA : FieldType → ClassId} {sz : Nat} {al : Al} {iv : Iv} {rv : Rv} (hG : GI al iv rv) (lw : Int32) (n : Int32) : Met l yX12_bar (wd yX12_bar cX12_bar 4 (some .int)) (rm 2) (PcW D cA sz al iv rv [.ref (al.2 0 0), .int lw, .int n]) (QI D cA sz al (fI al ([16, 31], []) iv rv (fun r iv' rv' => (spBar lw n = 0 ∧ r = iv 31 0 lw.toNatClampNeg ∧ ∀ k, iv' 31 0 k = if k = lw.toNatClampNeg then n else iv 31 0 k) ∨ (spBar lw n ≠ 0 ∧ r = spBar lw n ∧ ∀ k, iv' 31 0 k = iv 31 0 k)))) 0 0 (Aq sz) := by
  refine mk_i (by decide) (Nat.le_of_ble_eq_true rfl) rfl ?_
  intro p e s m args below meth c ls Q H locs C hU hS hl hret
  have hx := C.1.1
  have hb := C.1.2.1
  have hl : lv_has ls 4 [(0, .ref (al.2 0 0)), (1, .int lw), (2, .int n)] := hl
  have hG0 := hG
  have h6 := le6 hG
  have h20 := le20 hG
  have h41 := le41 hG
  have hF1 : FR ([16, 31], []) iv iv := FR.rf
  have hF2 : FR ([16, 31], []) rv rv := FR.rf
  have km6 : ((-6) : Int32).toInt = -6 := by decide
  have km4 : ((-4) : Int32).toInt = -4 := by decide
  have km1 : ((-1) : Int32).toInt = -1 := by decide
  have k1 : (1 : Int32).toInt = 1 := by decide
  have k3000 : (3000 : Int32).toInt = 3000 := by decide
  refine lv_iload_n hx hb dX12_bar_0 rfl (lv_at hl 1 rfl) ?_
  refine q_pi (q_runS (As := [.int lw]) (rest := []) C hU (c_X12_isLand  lw ) sm_X12_isLand ml_X12_244 hl.1 rfl rfl (Nat.le_of_ble_eq_true rfl) dX12_bar_1 rfl rfl ⟨Nat.le_of_ble_eq_true rfl, Nat.le_of_ble_eq_true rfl⟩ ⟨Nat.le_refl _, Nat.le_refl _⟩) hS (fun x_2 H locs hp_1 hU hS => ?_)
  refine b_if_ne (tgt := 13) hx hb dX12_bar_4 (by decide) (fun c_3 => ?_) (fun c_3 => ?_)
  ·
    refine lv_iload_n hx hb dX12_bar_13 rfl (lv_at hl 2 rfl) ?_
    refine lv_iconst (v := 1) hx hb dX12_bar_14 (by decide) ?_
    refine b_icmp_ge (tgt := 25) hx hb dX12_bar_15 (by decide) (fun c_4 => ?_) (fun c_4 => ?_)
    ·
      refine lv_iload_n hx hb dX12_bar_25 rfl (lv_at hl 2 rfl) ?_
      refine lv_sipush (v := 3000) hx hb dX12_bar_26 (by decide) ?_
      refine b_icmp_le (tgt := 39) hx hb dX12_bar_29 (by decide) (fun c_5 => ?_) (fun c_5 => ?_)
      ·
        refine lv_aload_n hx hb dX12_bar_39 rfl (lv_at hl 0 rfl) ?_
        refine g_0_36 C hU hG (h1_0 hG) fl_X12_101 dX12_bar_40 ?_
        refine lv_iload_n hx hb dX12_bar_43 rfl (lv_at hl 1 rfl) ?_
        refine a_31 C hU hG (h1_31 hG) (x := lw) (by omega) (by omega) dX12_bar_44 (fun x_6 e_7 le_7 ue_7 => ?_)
        have te_7 := congrArg Int32.toInt e_7
        refine lv_istore_n (lv' := [(3, .int x_6), (0, .ref (al.2 0 0)), (1, .int lw), (2, .int n)]) hx hb dX12_bar_45 rfl hl (by decide) rfl (fun ls hl => ?_)
        refine lv_aload_n hx hb dX12_bar_46 rfl (lv_at hl 1 rfl) ?_
        refine g_0_36 C hU hG (h1_0 hG) fl_X12_101 dX12_bar_47 ?_
        refine lv_iload_n hx hb dX12_bar_50 rfl (lv_at hl 2 rfl) ?_
        refine lv_iload_n hx hb dX12_bar_51 rfl (lv_at hl 3 rfl) ?_
        refine s_31 C hU hS (h1_31 hG) (x := lw) (by omega) (by omega) dX12_bar_52 (fun iv_8 H locs ei_9 hU hS => ?_)
        have hG : GI al iv_8 rv := by rw [ei_9]; exact hG.puti (show _ ∧ _ from ⟨show (0 : Int) ≤ _ by omega, show _ ≤ (3000 : Int) by omega⟩) (nsA (by decide) _)
        have hF1 : FR ([16, 31], []) iv iv_8 := by rw [ei_9]; exact hF1.put (Or.inl (by decide))
        refine lv_iload_n hx hb dX12_bar_53 rfl (lv_at hl 0 rfl) ?_
        exact hret (⟨hG, hF1, hF2, Or.inl ⟨(by unfold spBar; (repeat' split) <;> first | rfl | omega), e_7, fun k => by rw [ei_9]; simp [up3]⟩⟩) hU hS dX12_bar_54
      ·
        refine lv_aload_n hx hb dX12_bar_32 rfl (lv_at hl 0 rfl) ?_
        refine lv_bipush (v := (-6)) hx hb dX12_bar_33 (by decide) ?_
        refine q_fi (q_runV (t := 0) (i := 0) (As := [.int (-6)]) (rest := []) C hU (c_X12_refuse hG (-6) (by omega)) vm_X12_refuse ml_X12_164 k_0.1 (hc := rfl) rfl (h1_0 hG) hl.1 rfl rfl (Nat.le_of_ble_eq_true rfl) dX12_bar_35 rfl rfl ⟨Nat.le_of_ble_eq_true rfl, Nat.le_of_ble_eq_true rfl⟩ ⟨Nat.le_refl _, Nat.le_refl _⟩) hS (fun x_15 iv_11 rv_12 H locs hG fa_13 fb_14 hp_10 hU hS => ?_)
        have hF1 := hF1.tr (m := ([16, 31], [])) fa_13 (by decide)
        have hF2 := hF2.tr (m := ([16, 31], [])) fb_14 (by decide)
        exact hret (⟨hG, hF1, hF2, sp_no (z := (-6)) (by unfold spBar; (repeat' split) <;> first | rfl | omega) (by decide) hp_10 (fun k => fa_13.arr 31 0 k (by decide))⟩) hU hS dX12_bar_38
    ·
      refine lv_aload_n hx hb dX12_bar_18 rfl (lv_at hl 0 rfl) ?_
      refine lv_bipush (v := (-4)) hx hb dX12_bar_19 (by decide) ?_
      refine q_fi (q_runV (t := 0) (i := 0) (As := [.int (-4)]) (rest := []) C hU (c_X12_refuse hG (-4) (by omega)) vm_X12_refuse ml_X12_164 k_0.1 (hc := rfl) rfl (h1_0 hG) hl.1 rfl rfl (Nat.le_of_ble_eq_true rfl) dX12_bar_21 rfl rfl ⟨Nat.le_of_ble_eq_true rfl, Nat.le_of_ble_eq_true rfl⟩ ⟨Nat.le_refl _, Nat.le_refl _⟩) hS (fun x_21 iv_17 rv_18 H locs hG fa_19 fb_20 hp_16 hU hS => ?_)
      have hF1 := hF1.tr (m := ([16, 31], [])) fa_19 (by decide)
      have hF2 := hF2.tr (m := ([16, 31], [])) fb_20 (by decide)
      exact hret (⟨hG, hF1, hF2, sp_no (z := (-4)) (by unfold spBar; (repeat' split) <;> first | rfl | omega) (by decide) hp_16 (fun k => fa_19.arr 31 0 k (by decide))⟩) hU hS dX12_bar_24
  ·
    refine lv_aload_n hx hb dX12_bar_7 rfl (lv_at hl 0 rfl) ?_
    refine lv_iconst (v := (-1)) hx hb dX12_bar_8 (by decide) ?_
    refine q_fi (q_runV (t := 0) (i := 0) (As := [.int (-1)]) (rest := []) C hU (c_X12_refuse hG (-1) (by omega)) vm_X12_refuse ml_X12_164 k_0.1 (hc := rfl) rfl (h1_0 hG) hl.1 rfl rfl (Nat.le_of_ble_eq_true rfl) dX12_bar_9 rfl rfl ⟨Nat.le_of_ble_eq_true rfl, Nat.le_of_ble_eq_true rfl⟩ ⟨Nat.le_refl _, Nat.le_refl _⟩) hS (fun x_27 iv_23 rv_24 H locs hG fa_25 fb_26 hp_22 hU hS => ?_)
    have hF1 := hF1.tr (m := ([16, 31], [])) fa_25 (by decide)
    have hF2 := hF2.tr (m := ([16, 31], [])) fb_26 (by decide)
    exact hret (⟨hG, hF1, hF2, sp_no (z := (-1)) (by unfold spBar; (repeat' split) <;> first | rfl | omega) (by decide) hp_22 (fun k => fa_25.arr 31 0 k (by decide))⟩) hU hS dX12_bar_12
set_option maxHeartbeats 4000000 in
set_option maxRecDepth 100000 in
theorem c_X11_bar_x {l : Launch} {D : va_G} {cA : FieldType → ClassId} {sz : Nat} {al : Al} {iv : Iv} {rv : Rv} (hG : GI al iv rv) (lw : Int32) (n : Int32) : Met l yX11_bar (wd yX11_bar cX11_bar 4 (some .int)) (rm 2) (PcW D cA sz al iv rv [.ref (al.2 49 0), .int lw, .int n]) (QI D cA sz al (fI al ([51, 80], []) iv rv (fun r iv' rv' => (spBar lw n = 0 ∧ r = iv 80 0 lw.toNatClampNeg ∧ ∀ k, iv' 80 0 k = if k = lw.toNatClampNeg then n else iv 80 0 k) ∨ (spBar lw n ≠ 0 ∧ r = spBar lw n ∧ ∀ k, iv' 80 0 k = iv 80 0 k)))) 0 0 (Aq sz) := by
  refine mk_i (by decide) (Nat.le_of_ble_eq_true rfl) rfl ?_
  intro p e s m args below meth c ls Q H locs C hU hS hl hret
  have hx := C.1.1
  have hb := C.1.2.1
  have hl : lv_has ls 4 [(0, .ref (al.2 49 0)), (1, .int lw), (2, .int n)] := hl
  have hG0 := hG
  have hF1 : FR ([51, 80], []) iv iv := FR.rf
  have hF2 : FR ([51, 80], []) rv rv := FR.rf
  have km6 : ((-6) : Int32).toInt = -6 := by decide
  have km4 : ((-4) : Int32).toInt = -4 := by decide
  have km1 : ((-1) : Int32).toInt = -1 := by decide
  have k1 : (1 : Int32).toInt = 1 := by decide
  have k4 : (4 : Int32).toInt = 4 := by decide
  have k3000 : (3000 : Int32).toInt = 3000 := by decide
  refine lv_iconst (v := 4) hx hb dX11_bar_0 (by decide) ?_
  refine lv_iload_n hx hb dX11_bar_1 rfl (lv_at hl 1 rfl) ?_
  refine q_pi (q_runS (As := [.int 4, .int lw]) (rest := []) C hU (c_X11_isOneOf  4 lw ) sm_X11_isOneOf ml_X11_85 hl.1 rfl rfl (Nat.le_of_ble_eq_true rfl) dX11_bar_2 rfl rfl ⟨Nat.le_of_ble_eq_true rfl, Nat.le_of_ble_eq_true rfl⟩ ⟨Nat.le_refl _, Nat.le_refl _⟩) hS (fun x_2 H locs hp_1 hU hS => ?_)
  refine b_if_ne (tgt := 14) hx hb dX11_bar_5 (by decide) (fun c_3 => ?_) (fun c_3 => ?_)
  ·
    refine lv_iload_n hx hb dX11_bar_14 rfl (lv_at hl 2 rfl) ?_
    refine lv_iconst (v := 1) hx hb dX11_bar_15 (by decide) ?_
    refine b_icmp_ge (tgt := 26) hx hb dX11_bar_16 (by decide) (fun c_4 => ?_) (fun c_4 => ?_)
    ·
      refine lv_iload_n hx hb dX11_bar_26 rfl (lv_at hl 2 rfl) ?_
      refine lv_sipush (v := 3000) hx hb dX11_bar_27 (by decide) ?_
      refine b_icmp_le (tgt := 40) hx hb dX11_bar_30 (by decide) (fun c_5 => ?_) (fun c_5 => ?_)
      ·
        refine lv_aload_n hx hb dX11_bar_40 rfl (lv_at hl 0 rfl) ?_
        refine g_49_4 C hU hG (h1_49 hG) fl_X11_40 dX11_bar_41 ?_
        refine g_79_0 C hU hG (h1_79 hG) fl_X11_247 dX11_bar_44 ?_
        refine lv_iload_n hx hb dX11_bar_47 rfl (lv_at hl 1 rfl) ?_
        refine a_80 C hU hG (h1_80 hG) (x := lw) (by omega) (by omega) dX11_bar_48 (fun x_6 e_7 le_7 ue_7 => ?_)
        have te_7 := congrArg Int32.toInt e_7
        refine lv_istore_n (lv' := [(3, .int x_6), (0, .ref (al.2 49 0)), (1, .int lw), (2, .int n)]) hx hb dX11_bar_49 rfl hl (by decide) rfl (fun ls hl => ?_)
        refine lv_aload_n hx hb dX11_bar_50 rfl (lv_at hl 1 rfl) ?_
        refine g_49_4 C hU hG (h1_49 hG) fl_X11_40 dX11_bar_51 ?_
        refine g_79_0 C hU hG (h1_79 hG) fl_X11_247 dX11_bar_54 ?_
        refine lv_iload_n hx hb dX11_bar_57 rfl (lv_at hl 2 rfl) ?_
        refine lv_iload_n hx hb dX11_bar_58 rfl (lv_at hl 3 rfl) ?_
        refine s_80 C hU hS (h1_80 hG) (x := lw) (by omega) (by omega) dX11_bar_59 (fun iv_8 H locs ei_9 hU hS => ?_)
        have hG : GI al iv_8 rv := by rw [ei_9]; exact hG.puti (show _ ∧ _ from ⟨show (0 : Int) ≤ _ by omega, show _ ≤ (3000 : Int) by omega⟩) (nsA (by decide) _)
        have hF1 : FR ([51, 80], []) iv iv_8 := by rw [ei_9]; exact hF1.put (Or.inl (by decide))
        refine lv_iload_n hx hb dX11_bar_60 rfl (lv_at hl 0 rfl) ?_
        exact hret (⟨hG, hF1, hF2, Or.inl ⟨(by unfold spBar; (repeat' split) <;> first | rfl | omega), e_7, fun k => by rw [ei_9]; simp [up3]⟩⟩) hU hS dX11_bar_61
      ·
        refine lv_aload_n hx hb dX11_bar_33 rfl (lv_at hl 0 rfl) ?_
        refine lv_bipush (v := (-6)) hx hb dX11_bar_34 (by decide) ?_
        refine q_fi (q_runV (t := 49) (i := 0) (As := [.int (-6)]) (rest := []) C hU (c_X11_refuse hG (-6) (by omega)) vm_X11_refuse ml_X11_77 k_49.1 (hc := rfl) rfl (h1_49 hG) hl.1 rfl rfl (Nat.le_of_ble_eq_true rfl) dX11_bar_36 rfl rfl ⟨Nat.le_of_ble_eq_true rfl, Nat.le_of_ble_eq_true rfl⟩ ⟨Nat.le_refl _, Nat.le_refl _⟩) hS (fun x_15 iv_11 rv_12 H locs hG fa_13 fb_14 hp_10 hU hS => ?_)
        have hF1 := hF1.tr (m := ([51, 80], [])) fa_13 (by decide)
        have hF2 := hF2.tr (m := ([51, 80], [])) fb_14 (by decide)
        exact hret (⟨hG, hF1, hF2, sp_no (z := (-6)) (by unfold spBar; (repeat' split) <;> first | rfl | omega) (by decide) hp_10 (fun k => fa_13.arr 80 0 k (by decide))⟩) hU hS dX11_bar_39
    ·
      refine lv_aload_n hx hb dX11_bar_19 rfl (lv_at hl 0 rfl) ?_
      refine lv_bipush (v := (-4)) hx hb dX11_bar_20 (by decide) ?_
      refine q_fi (q_runV (t := 49) (i := 0) (As := [.int (-4)]) (rest := []) C hU (c_X11_refuse hG (-4) (by omega)) vm_X11_refuse ml_X11_77 k_49.1 (hc := rfl) rfl (h1_49 hG) hl.1 rfl rfl (Nat.le_of_ble_eq_true rfl) dX11_bar_22 rfl rfl ⟨Nat.le_of_ble_eq_true rfl, Nat.le_of_ble_eq_true rfl⟩ ⟨Nat.le_refl _, Nat.le_refl _⟩) hS (fun x_21 iv_17 rv_18 H locs hG fa_19 fb_20 hp_16 hU hS => ?_)
      have hF1 := hF1.tr (m := ([51, 80], [])) fa_19 (by decide)
      have hF2 := hF2.tr (m := ([51, 80], [])) fb_20 (by decide)
      exact hret (⟨hG, hF1, hF2, sp_no (z := (-4)) (by unfold spBar; (repeat' split) <;> first | rfl | omega) (by decide) hp_16 (fun k => fa_19.arr 80 0 k (by decide))⟩) hU hS dX11_bar_25
  ·
    refine lv_aload_n hx hb dX11_bar_8 rfl (lv_at hl 0 rfl) ?_
    refine lv_iconst (v := (-1)) hx hb dX11_bar_9 (by decide) ?_
    refine q_fi (q_runV (t := 49) (i := 0) (As := [.int (-1)]) (rest := []) C hU (c_X11_refuse hG (-1) (by omega)) vm_X11_refuse ml_X11_77 k_49.1 (hc := rfl) rfl (h1_49 hG) hl.1 rfl rfl (Nat.le_of_ble_eq_true rfl) dX11_bar_10 rfl rfl ⟨Nat.le_of_ble_eq_true rfl, Nat.le_of_ble_eq_true rfl⟩ ⟨Nat.le_refl _, Nat.le_refl _⟩) hS (fun x_27 iv_23 rv_24 H locs hG fa_25 fb_26 hp_22 hU hS => ?_)
    have hF1 := hF1.tr (m := ([51, 80], [])) fa_25 (by decide)
    have hF2 := hF2.tr (m := ([51, 80], [])) fb_26 (by decide)
    exact hret (⟨hG, hF1, hF2, sp_no (z := (-1)) (by unfold spBar; (repeat' split) <;> first | rfl | omega) (by decide) hp_22 (fun k => fa_25.arr 80 0 k (by decide))⟩) hU hS dX11_bar_13
