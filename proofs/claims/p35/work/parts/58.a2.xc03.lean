set_option maxHeartbeats 4000000 in
set_option maxRecDepth 100000 in
theorem c_X12_traveller_y {l : Launch} {D : va_G} {cA : FieldType → ClassId} {sz : Nat} {al : Al} {iv : Iv} {rv : Rv} (hG : GI al iv rv) (lg : Int32) : Met l yX12_traveller (wd yX12_traveller cX12_traveller 2 (some .int)) (rm 2) (PcW D cA sz al iv rv [.ref (al.2 0 0), .int lg]) (QI D cA sz al (fI al ([16, 18, 19], [(0, 20)]) iv rv (fun r iv' rv' => (spTrav lg (iv 0 0 6).toInt (iv 0 0 20).toInt = 0 ∧ r.toInt = (iv 0 0 20).toInt ∧ (iv' 0 0 20).toInt = (iv 0 0 20).toInt + 1 ∧ (∀ k : Nat, iv' 18 0 k = (if k = 4 * (iv 0 0 20).toNatClampNeg then lg else iv 18 0 k) ∧ iv' 19 0 k = (if k = (iv 0 0 20).toNatClampNeg then 1 else iv 19 0 k))) ∨ (spTrav lg (iv 0 0 6).toInt (iv 0 0 20).toInt ≠ 0 ∧ r = spTrav lg (iv 0 0 6).toInt (iv 0 0 20).toInt ∧ iv' 0 0 20 = iv 0 0 20 ∧ (∀ k : Nat, iv' 18 0 k = iv 18 0 k ∧ iv' 19 0 k = iv 19 0 k))))) 0 0 (Aq sz) := by
  refine mk_i (by decide) (Nat.le_of_ble_eq_true rfl) rfl ?_
  intro p e s m args below meth c ls Q H locs C hU hS hl hret
  have hx := C.1.1
  have hb := C.1.2.1
  have hl : lv_has ls 2 [(0, .ref (al.2 0 0)), (1, .int lg)] := hl
  have hG0 := hG
  have h6 := le6 hG
  have h20 := le20 hG
  have h41 := le41 hG
  have hF1 : FR ([16, 18, 19], [(0, 20)]) iv iv := FR.rf
  have hF2 : FR ([16, 18, 19], [(0, 20)]) rv rv := FR.rf
  have km6 : ((-6) : Int32).toInt = -6 := by decide
  have km1 : ((-1) : Int32).toInt = -1 := by decide
  have k1 : (1 : Int32).toInt = 1 := by decide
  have k4 : (4 : Int32).toInt = 4 := by decide
  have k20 : (20 : Int32).toInt = 20 := by decide
  refine lv_aload_n hx hb dX12_traveller_0 rfl (lv_at hl 0 rfl) ?_
  refine lv_iload_n hx hb dX12_traveller_1 rfl (lv_at hl 1 rfl) ?_
  refine q_pi (q_runV (t := 0) (i := 0) (As := [.int lg]) (rest := []) C hU (c_X12_isLeg hG lg ) vm_X12_isLeg ml_X12_181 k_0.1 (hc := rfl) rfl (h1_0 hG) hl.1 rfl rfl (Nat.le_of_ble_eq_true rfl) dX12_traveller_2 rfl rfl ⟨Nat.le_of_ble_eq_true rfl, Nat.le_of_ble_eq_true rfl⟩ ⟨Nat.le_refl _, Nat.le_refl _⟩) hS (fun x_2 H locs hp_1 hU hS => ?_)
  refine b_if_ne (tgt := 14) hx hb dX12_traveller_5 (by decide) (fun c_3 => ?_) (fun c_3 => ?_)
  ·
    refine lv_aload_n hx hb dX12_traveller_14 rfl (lv_at hl 0 rfl) ?_
    refine g_0_20 C hU hG (h1_0 hG) fl_X12_223 dX12_traveller_15 (fun x_4 e_5 le_5 ue_5 => ?_)
    have te_5 := congrArg Int32.toInt e_5
    refine lv_bipush (v := 20) hx hb dX12_traveller_18 (by decide) ?_
    refine b_icmp_ne (tgt := 30) hx hb dX12_traveller_20 (by decide) (fun c_6 => ?_) (fun c_6 => ?_)
    ·
      refine lv_aload_n hx hb dX12_traveller_30 rfl (lv_at hl 0 rfl) ?_
      refine g_0_21 C hU hG (h1_0 hG) fl_X12_62 dX12_traveller_31 ?_
      refine lv_iconst (v := 4) hx hb dX12_traveller_34 (by decide) ?_
      refine lv_aload_n hx hb dX12_traveller_35 rfl (lv_at hl 0 rfl) ?_
      refine g_0_20 C hU hG (h1_0 hG) fl_X12_223 dX12_traveller_36 (fun x_7 e_8 le_8 ue_8 => ?_)
      have te_8 := congrArg Int32.toInt e_8
      refine lv_imul hx hb dX12_traveller_39 ?_
      refine lv_topi (fun x_9 e_10 => ?_)
      have te_10 : x_9.toInt = 4 * (x_7 : Int32).toInt := by rw [e_10, fb_mulI (by rw [show (4 : Int32).toInt = 4 from by decide]; omega) (by rw [show (4 : Int32).toInt = 4 from by decide]; omega), show (4 : Int32).toInt = 4 from by decide]
      refine lv_iload_n hx hb dX12_traveller_40 rfl (lv_at hl 1 rfl) ?_
      refine s_18 C hU hS (h1_18 hG) (x := x_9) (by omega) (by omega) dX12_traveller_41 (fun iv_11 H locs ei_12 hU hS => ?_)
      have hG : GI al iv_11 rv := by rw [ei_12]; exact hG.puti (show _ ∧ _ from ⟨show (0 : Int) ≤ _ by omega, show _ ≤ (39 : Int) by omega⟩) (nsA (by decide) _)
      have hF1 : FR ([16, 18, 19], [(0, 20)]) iv iv_11 := by rw [ei_12]; exact hF1.put (Or.inl (by decide))
      have kf_13 := congrArg Int32.toInt (show iv_11 0 0 20 = iv 0 0 20 by rw [ei_12]; exact up3_ne (fun z => absurd z.1 (by decide)))
      refine lv_aload_n hx hb dX12_traveller_42 rfl (lv_at hl 0 rfl) ?_
      refine g_0_22 C hU hG (h1_0 hG) fl_X12_65 dX12_traveller_43 ?_
      refine lv_aload_n hx hb dX12_traveller_46 rfl (lv_at hl 0 rfl) ?_
      refine g_0_20 C hU hG (h1_0 hG) fl_X12_223 dX12_traveller_47 (fun x_14 e_15 le_15 ue_15 => ?_)
      have te_15 := congrArg Int32.toInt e_15
      refine lv_iconst (v := 1) hx hb dX12_traveller_50 (by decide) ?_
      refine s_19 C hU hS (h1_19 hG) (x := x_14) (by omega) (by omega) dX12_traveller_51 (fun iv_16 H locs ei_17 hU hS => ?_)
      have hG : GI al iv_16 rv := by rw [ei_17]; exact hG.put19 ⟨by omega, by omega⟩
      have hF1 : FR ([16, 18, 19], [(0, 20)]) iv iv_16 := by rw [ei_17]; exact hF1.put (Or.inl (by decide))
      have kf_18 := congrArg Int32.toInt (show iv_16 0 0 20 = iv_11 0 0 20 by rw [ei_17]; exact up3_ne (fun z => absurd z.1 (by decide)))
      refine lv_aload_n hx hb dX12_traveller_52 rfl (lv_at hl 0 rfl) ?_
      refine lv_dup hx hb dX12_traveller_53 rfl ?_
      refine g_0_20 C hU hG (h1_0 hG) fl_X12_223 dX12_traveller_54 (fun x_19 e_20 le_20 ue_20 => ?_)
      have te_20 := congrArg Int32.toInt e_20
      have a1 : iv_16 19 0 x_19.toNatClampNeg = 1 := by rw [ei_17, clamp_eq (show x_19.toInt = x_14.toInt by omega)]; exact up3_self _ _ _ _ _
      refine lv_iconst (v := 1) hx hb dX12_traveller_57 (by decide) ?_
      refine lv_iadd hx hb dX12_traveller_58 ?_
      refine lv_topi (fun x_21 e_22 => ?_)
      have te_22 : x_21.toInt = (x_19 : Int32).toInt + (1 : Int32).toInt := by rw [e_22]; exact fb_addI (by omega) (by omega)
      refine p_0_20 C hU hS (h1_0 hG) fl_X12_223 dX12_traveller_59 (fun iv_23 H locs ei_24 hU hS => ?_)
      have hG : GI al iv_23 rv := by rw [ei_24]; exact hG.put20 (x := x_19) ⟨by omega, by omega⟩ (by omega) (by omega) (by rw [a1]; omega)
      have hF1 : FR ([16, 18, 19], [(0, 20)]) iv iv_23 := by rw [ei_24]; exact hF1.put (by decide)
      refine lv_aload_n hx hb dX12_traveller_62 rfl (lv_at hl 0 rfl) ?_
      refine g_0_20 C hU hG (h1_0 hG) fl_X12_223 dX12_traveller_63 (fun x_25 e_26 le_26 ue_26 => ?_)
      have te_26 := congrArg Int32.toInt e_26
      have hz_ := e_26
      rw [ei_24, up3_self] at hz_
      have tz_ := congrArg Int32.toInt hz_
      refine lv_iconst (v := 1) hx hb dX12_traveller_66 (by decide) ?_
      refine lv_isub hx hb dX12_traveller_67 ?_
      refine lv_topi (fun x_27 e_28 => ?_)
      have te_28 : x_27.toInt = (x_25 : Int32).toInt - (1 : Int32).toInt := by rw [e_28]; exact fb_subI (by omega) (by omega)
      exact hret (⟨hG, hF1, hF2, Or.inl ⟨(by unfold spTrav; (repeat' split) <;> first | rfl | omega), by omega, by rw [ei_24, up3_self]; omega, fun k => tr_ok ei_12 ei_17 ei_24 (by omega) (by omega)⟩⟩) hU hS dX12_traveller_68
    ·
      refine lv_aload_n hx hb dX12_traveller_23 rfl (lv_at hl 0 rfl) ?_
      refine lv_bipush (v := (-6)) hx hb dX12_traveller_24 (by decide) ?_
      refine q_fi (q_runV (t := 0) (i := 0) (As := [.int (-6)]) (rest := []) C hU (c_X12_refuse hG (-6) (by omega)) vm_X12_refuse ml_X12_164 k_0.1 (hc := rfl) rfl (h1_0 hG) hl.1 rfl rfl (Nat.le_of_ble_eq_true rfl) dX12_traveller_26 rfl rfl ⟨Nat.le_of_ble_eq_true rfl, Nat.le_of_ble_eq_true rfl⟩ ⟨Nat.le_refl _, Nat.le_refl _⟩) hS (fun x_34 iv_30 rv_31 H locs hG fa_32 fb_33 hp_29 hU hS => ?_)
      have hF1 := hF1.tr (m := ([16, 18, 19], [(0, 20)])) fa_32 (by decide)
      have hF2 := hF2.tr (m := ([16, 18, 19], [(0, 20)])) fb_33 (by decide)
      exact hret (⟨hG, hF1, hF2, sp_no (z := (-6)) (by unfold spTrav; (repeat' split) <;> first | rfl | omega) (by decide) hp_29 (⟨fa_32 0 0 20 (by decide), fun k => ⟨fa_32.arr 18 0 k (by decide), fa_32.arr 19 0 k (by decide)⟩⟩)⟩) hU hS dX12_traveller_29
  ·
    refine lv_aload_n hx hb dX12_traveller_8 rfl (lv_at hl 0 rfl) ?_
    refine lv_iconst (v := (-1)) hx hb dX12_traveller_9 (by decide) ?_
    refine q_fi (q_runV (t := 0) (i := 0) (As := [.int (-1)]) (rest := []) C hU (c_X12_refuse hG (-1) (by omega)) vm_X12_refuse ml_X12_164 k_0.1 (hc := rfl) rfl (h1_0 hG) hl.1 rfl rfl (Nat.le_of_ble_eq_true rfl) dX12_traveller_10 rfl rfl ⟨Nat.le_of_ble_eq_true rfl, Nat.le_of_ble_eq_true rfl⟩ ⟨Nat.le_refl _, Nat.le_refl _⟩) hS (fun x_40 iv_36 rv_37 H locs hG fa_38 fb_39 hp_35 hU hS => ?_)
    have hF1 := hF1.tr (m := ([16, 18, 19], [(0, 20)])) fa_38 (by decide)
    have hF2 := hF2.tr (m := ([16, 18, 19], [(0, 20)])) fb_39 (by decide)
    exact hret (⟨hG, hF1, hF2, sp_no (z := (-1)) (by unfold spTrav; (repeat' split) <;> first | rfl | omega) (by decide) hp_35 (⟨fa_38 0 0 20 (by decide), fun k => ⟨fa_38.arr 18 0 k (by decide), fa_38.arr 19 0 k (by decide)⟩⟩)⟩) hU hS dX12_traveller_13
set_option maxHeartbeats 4000000 in
set_option maxRecDepth 100000 in
theorem c_X11_traveller_y {l : Launch} {D : va_G} {cA : FieldType → ClassId} {sz : Nat} {al : Al} {iv : Iv} {rv : Rv} (hG : GI al iv rv) (lg : Int32) : Met l yX11_traveller (wd yX11_traveller cX11_traveller 3 (some .int)) (rmA 3 3 16) (PcA D cA sz al iv rv [.ref (al.2 49 0), .int lg] (fun _ => True)) (QIA D cA sz (fun r al' iv' rv' => GI al' iv' rv' ∧ EX ([51, 64], [(63, 1)]) al iv rv al' iv' rv' ∧ ((spTrav lg (iv 57 0 1).toInt (iv 63 0 1).toInt = 0 ∧ r.toInt = (iv 63 0 1).toInt ∧ (iv' 63 0 1).toInt = (iv 63 0 1).toInt + 1 ∧ ∃ (aa a6 a7 : Nat) (siz : Int32), siz.toInt = al.1 65 + 1 ∧ al' = grow (grow (grow al 65 aa) 66 a6) 67 a7 ∧ iv' = tickIv iv (al.1 65) r siz ∧ rv' = tickRv rv (al.1 65) lg.toNatClampNeg) ∨ (spTrav lg (iv 57 0 1).toInt (iv 63 0 1).toInt ≠ 0 ∧ r = spTrav lg (iv 57 0 1).toInt (iv 63 0 1).toInt ∧ iv' 63 0 1 = iv 63 0 1)))) 3 16 (Aq sz) := by
  refine mk_ia (by decide) (Nat.le_of_ble_eq_true rfl) rfl ?_
  intro p e s m args below meth c ls Q H locs C hU hS hX hz0 hl hret
  have hx := C.1.1
  have hb := C.1.2.1
  have hl : lv_has ls 3 [(0, .ref (al.2 49 0)), (1, .int lg)] := hl
  have hG0 := hG
  have hF1 : FR ([51, 64], [(63, 1)]) iv iv := FR.rf
  have hF2 : FR ([51, 64], [(63, 1)]) rv rv := FR.rf
  have km6 : ((-6) : Int32).toInt = -6 := by decide
  have km1 : ((-1) : Int32).toInt = -1 := by decide
  refine lv_aload_n hx hb dX11_traveller_0 rfl (lv_at hl 0 rfl) ?_
  refine g_49_1 C hU hG (h1_49 hG) fl_X11_19 dX11_traveller_1 ?_
  refine lv_iload_n hx hb dX11_traveller_4 rfl (lv_at hl 1 rfl) ?_
  refine q_pr (q_runV (t := 57) (i := 0) (As := [.int lg]) (rest := []) C hU (c_X10_find hG lg ) vm_X10_find ml_X11_123 k_57.1 (hc := rfl) rfl (h1_57 hG) hl.1 rfl rfl (Nat.le_of_ble_eq_true rfl) dX11_traveller_5 rfl rfl ⟨Nat.le_of_ble_eq_true rfl, Nat.le_of_ble_eq_true rfl⟩ ⟨Nat.le_of_ble_eq_true rfl, Nat.le_of_ble_eq_true rfl⟩) hS (fun r_2 H locs hp_1 hU hS => ?_)
  have hb_3 := hp_1.1
  refine b_astore_n (lv' := [(2, rfv al 62 r_2), (0, .ref (al.2 49 0)), (1, .int lg)]) hx hb dX11_traveller_8 rfl hl (by decide) rfl (fun ls hl => ?_)
  refine b_aload_n (al := al) (t' := 62) (r := r_2) hx hb dX11_traveller_9 rfl (lv_at hl 0 rfl) ?_
  refine b_ifnonnull (tgt := 19) hx hb dX11_traveller_10 (by decide) (fun j_5 ej_6 => ?_) (fun ej_6 => ?_)
  ·
    subst ej_6
    have hl : lv_has ls 3 [(2, .ref (al.2 62 j_5)), (0, .ref (al.2 49 0)), (1, .int lg)] := hl
    have hb_7 : j_5 < al.1 62 := hb_3 j_5 rfl
    have hq4 := hp_1.2.1 _ rfl
    have hn4 := hq4.1
    rw [clamp_n] at hn4
    refine lv_aload_n hx hb dX11_traveller_19 rfl (lv_at hl 1 rfl) ?_
    refine g_49_2 C hU hG (h1_49 hG) fl_X11_26 dX11_traveller_20 ?_
    refine q_pi (q_runV (t := 63) (i := 0) (As := []) (rest := []) C hU (c_X9_isFull hG  ) vm_X9_isFull ml_X11_189 k_63.1 (hc := rfl) rfl (h1_63 hG) hl.1 rfl rfl (Nat.le_of_ble_eq_true rfl) dX11_traveller_23 rfl rfl ⟨Nat.le_of_ble_eq_true rfl, Nat.le_of_ble_eq_true rfl⟩ ⟨Nat.le_of_ble_eq_true rfl, Nat.le_of_ble_eq_true rfl⟩) hS (fun x_9 H locs hp_8 hU hS => ?_)
    refine b_if_eq (tgt := 36) hx hb dX11_traveller_26 (by decide) (fun c_10 => ?_) (fun c_10 => ?_)
    ·
      refine lv_aload_n hx hb dX11_traveller_36 rfl (lv_at hl 1 rfl) ?_
      refine g_49_2 C hU hG (h1_49 hG) fl_X11_26 dX11_traveller_37 ?_
      refine lv_aload_n hx hb dX11_traveller_40 rfl (lv_at hl 0 rfl) ?_
      refine q_ciA (q_runVA (t := 63) (i := 0) (As := [.ref (al.2 62 j_5)]) (rest := []) C hU (Nat.le_trans hz0 hS.1) (c_X9_add hG (j_5) hb_7 (by omega)) vm_X9_add ml_X11_190 k_63.1 (hc := rfl) rfl (h1_63 hG) hl.1 rfl rfl (Nat.le_of_ble_eq_true rfl) dX11_traveller_41 rfl rfl ⟨Nat.le_of_ble_eq_true rfl, Nat.le_of_ble_eq_true rfl⟩ ⟨Nat.le_of_ble_eq_true rfl, Nat.le_of_ble_eq_true rfl⟩) hS (Nat.le_trans hz0 hS.1) (fun x_12 al' iv' rv' H locs hp_11 hU hS _ => ?_)
      exact hret (⟨hp_11.1, (EX.of hF1 hF2).tr hp_11.2.1 (by decide) (by decide), Or.inl ⟨(by unfold spTrav; (repeat' split) <;> first | rfl | omega), by rw [hp_11.2.2.1], tick_cnt hG0 hp_11.2.2.2, (by have z := hp_11.2.2.2; rw [hq4.1] at z; exact z)⟩⟩) hU hS dX11_traveller_44
    ·
      refine lv_aload_n hx hb dX11_traveller_29 rfl (lv_at hl 1 rfl) ?_
      refine lv_bipush (v := (-6)) hx hb dX11_traveller_30 (by decide) ?_
      refine q_fi (q_runV (t := 49) (i := 0) (As := [.int (-6)]) (rest := []) C hU (c_X11_refuse hG (-6) (by omega)) vm_X11_refuse ml_X11_77 k_49.1 (hc := rfl) rfl (h1_49 hG) hl.1 rfl rfl (Nat.le_of_ble_eq_true rfl) dX11_traveller_32 rfl rfl ⟨Nat.le_of_ble_eq_true rfl, Nat.le_of_ble_eq_true rfl⟩ ⟨Nat.le_of_ble_eq_true rfl, Nat.le_of_ble_eq_true rfl⟩) hS (fun x_18 iv_14 rv_15 H locs hG fa_16 fb_17 hp_13 hU hS => ?_)
      have hF1 := hF1.tr (m := ([51, 64], [(63, 1)])) fa_16 (by decide)
      have hF2 := hF2.tr (m := ([51, 64], [(63, 1)])) fb_17 (by decide)
      refine W.widen (k := 3) (n := 16) (Nat.zero_le _) (Nat.zero_le _) ?_
      exact hret (⟨hG, EX.of hF1 hF2, sp_no (z := (-6)) (by unfold spTrav; (repeat' split) <;> first | rfl | omega) (by decide) hp_13 (fa_16 63 0 1 (by decide))⟩) hU hS dX11_traveller_35
  ·
    subst ej_6
    have hl : lv_has ls 3 [(2, rfv al 62 none), (0, .ref (al.2 49 0)), (1, .int lg)] := hl
    have hq4 := hp_1.2.2 rfl
    refine lv_aload_n hx hb dX11_traveller_13 rfl (lv_at hl 1 rfl) ?_
    refine lv_iconst (v := (-1)) hx hb dX11_traveller_14 (by decide) ?_
    refine q_fi (q_runV (t := 49) (i := 0) (As := [.int (-1)]) (rest := []) C hU (c_X11_refuse hG (-1) (by omega)) vm_X11_refuse ml_X11_77 k_49.1 (hc := rfl) rfl (h1_49 hG) hl.1 rfl rfl (Nat.le_of_ble_eq_true rfl) dX11_traveller_15 rfl rfl ⟨Nat.le_of_ble_eq_true rfl, Nat.le_of_ble_eq_true rfl⟩ ⟨Nat.le_of_ble_eq_true rfl, Nat.le_of_ble_eq_true rfl⟩) hS (fun x_24 iv_20 rv_21 H locs hG fa_22 fb_23 hp_19 hU hS => ?_)
    have hF1 := hF1.tr (m := ([51, 64], [(63, 1)])) fa_22 (by decide)
    have hF2 := hF2.tr (m := ([51, 64], [(63, 1)])) fb_23 (by decide)
    refine W.widen (k := 3) (n := 16) (Nat.zero_le _) (Nat.zero_le _) ?_
    exact hret (⟨hG, EX.of hF1 hF2, sp_no (z := (-1)) (by unfold spTrav; (repeat' split) <;> first | rfl | omega) (by decide) hp_19 (fa_22 63 0 1 (by decide))⟩) hU hS dX11_traveller_18
set_option maxHeartbeats 4000000 in
set_option maxRecDepth 100000 in
theorem c_X12_then_x {l : Launch} {D : va_G} {cA : FieldType → ClassId} {sz : Nat} {al : Al} {iv : Iv} {rv : Rv} (hG : GI al iv rv) (tt : Int32) (lg : Int32) : Met l yX12_then (wd yX12_then cX12_then 4 (some .int)) (rm 2) (PcW D cA sz al iv rv [.ref (al.2 0 0), .int tt, .int lg]) (QI D cA sz al (fI al ([16, 18, 19], []) iv rv (fun r iv' rv' => (spThen iv tt lg = 0 ∧ r.toInt = (iv 19 0 tt.toNatClampNeg).toInt + 1 ∧ (∀ k : Nat, iv' 18 0 k = (if k = 4 * tt.toNatClampNeg + (iv 19 0 tt.toNatClampNeg).toNatClampNeg then lg else iv 18 0 k) ∧ (iv' 19 0 k).toInt = (if k = tt.toNatClampNeg then (iv 19 0 tt.toNatClampNeg).toInt + 1 else (iv 19 0 k).toInt))) ∨ (spThen iv tt lg ≠ 0 ∧ r = spThen iv tt lg ∧ ∀ k : Nat, iv' 18 0 k = iv 18 0 k ∧ iv' 19 0 k = iv 19 0 k)))) 0 0 (Aq sz) := by
  refine mk_i (by decide) (Nat.le_of_ble_eq_true rfl) rfl ?_
  intro p e s m args below meth c ls Q H locs C hU hS hl hret
  have hx := C.1.1
  have hb := C.1.2.1
  have hl : lv_has ls 4 [(0, .ref (al.2 0 0)), (1, .int tt), (2, .int lg)] := hl
  have hG0 := hG
  have h6 := le6 hG
  have h20 := le20 hG
  have h41 := le41 hG
  have hF1 : FR ([16, 18, 19], []) iv iv := FR.rf
  have hF2 : FR ([16, 18, 19], []) rv rv := FR.rf
  have km6 : ((-6) : Int32).toInt = -6 := by decide
  have km3 : ((-3) : Int32).toInt = -3 := by decide
  have km1 : ((-1) : Int32).toInt = -1 := by decide
  have k1 : (1 : Int32).toInt = 1 := by decide
  have k2 : (2 : Int32).toInt = 2 := by decide
  have k4 : (4 : Int32).toInt = 4 := by decide
  refine lv_aload_n hx hb dX12_then_0 rfl (lv_at hl 0 rfl) ?_
  refine lv_iload_n hx hb dX12_then_1 rfl (lv_at hl 1 rfl) ?_
  refine q_pi (q_runV (t := 0) (i := 0) (As := [.int tt]) (rest := []) C hU (c_X12_isTraveller hG tt ) vm_X12_isTraveller ml_X12_226 k_0.1 (hc := rfl) rfl (h1_0 hG) hl.1 rfl rfl (Nat.le_of_ble_eq_true rfl) dX12_then_2 rfl rfl ⟨Nat.le_of_ble_eq_true rfl, Nat.le_of_ble_eq_true rfl⟩ ⟨Nat.le_refl _, Nat.le_refl _⟩) hS (fun x_2 H locs hp_1 hU hS => ?_)
  refine b_if_eq (tgt := 16) hx hb dX12_then_5 (by decide) (fun c_3 => ?_) (fun c_3 => ?_)
  ·
    refine lv_aload_n hx hb dX12_then_16 rfl (lv_at hl 0 rfl) ?_
    refine lv_iconst (v := (-1)) hx hb dX12_then_17 (by decide) ?_
    refine q_fi (q_runV (t := 0) (i := 0) (As := [.int (-1)]) (rest := []) C hU (c_X12_refuse hG (-1) (by omega)) vm_X12_refuse ml_X12_164 k_0.1 (hc := rfl) rfl (h1_0 hG) hl.1 rfl rfl (Nat.le_of_ble_eq_true rfl) dX12_then_18 rfl rfl ⟨Nat.le_of_ble_eq_true rfl, Nat.le_of_ble_eq_true rfl⟩ ⟨Nat.le_refl _, Nat.le_refl _⟩) hS (fun x_9 iv_5 rv_6 H locs hG fa_7 fb_8 hp_4 hU hS => ?_)
    have hF1 := hF1.tr (m := ([16, 18, 19], [])) fa_7 (by decide)
    have hF2 := hF2.tr (m := ([16, 18, 19], [])) fb_8 (by decide)
    exact hret (⟨hG, hF1, hF2, sp_no (z := (-1)) (by unfold spThen; (repeat' split) <;> first | rfl | omega) (by decide) hp_4 (fun k => ⟨fa_7.arr 18 0 k (by decide), fa_7.arr 19 0 k (by decide)⟩)⟩) hU hS dX12_then_21
  ·
    refine lv_aload_n hx hb dX12_then_8 rfl (lv_at hl 0 rfl) ?_
    refine lv_iload_n hx hb dX12_then_9 rfl (lv_at hl 2 rfl) ?_
    refine q_pi (q_runV (t := 0) (i := 0) (As := [.int lg]) (rest := []) C hU (c_X12_isLeg hG lg ) vm_X12_isLeg ml_X12_181 k_0.1 (hc := rfl) rfl (h1_0 hG) hl.1 rfl rfl (Nat.le_of_ble_eq_true rfl) dX12_then_10 rfl rfl ⟨Nat.le_of_ble_eq_true rfl, Nat.le_of_ble_eq_true rfl⟩ ⟨Nat.le_refl _, Nat.le_refl _⟩) hS (fun x_11 H locs hp_10 hU hS => ?_)
    refine b_if_ne (tgt := 22) hx hb dX12_then_13 (by decide) (fun c_12 => ?_) (fun c_12 => ?_)
    ·
      refine lv_aload_n hx hb dX12_then_22 rfl (lv_at hl 0 rfl) ?_
      have hq := rm1 hG (x := tt) (by omega) (by omega)
      refine g_0_21 C hU hG (h1_0 hG) fl_X12_62 dX12_then_23 ?_
      refine lv_iconst (v := 4) hx hb dX12_then_26 (by decide) ?_
      refine lv_iload_n hx hb dX12_then_27 rfl (lv_at hl 1 rfl) ?_
      refine lv_imul hx hb dX12_then_28 ?_
      refine lv_topi (fun x_13 e_14 => ?_)
      have te_14 : x_13.toInt = 4 * (tt : Int32).toInt := by rw [e_14, fb_mulI (by rw [show (4 : Int32).toInt = 4 from by decide]; omega) (by rw [show (4 : Int32).toInt = 4 from by decide]; omega), show (4 : Int32).toInt = 4 from by decide]
      refine lv_aload_n hx hb dX12_then_29 rfl (lv_at hl 0 rfl) ?_
      refine g_0_22 C hU hG (h1_0 hG) fl_X12_65 dX12_then_30 ?_
      refine lv_iload_n hx hb dX12_then_33 rfl (lv_at hl 1 rfl) ?_
      refine a_19 C hU hG (h1_19 hG) (x := tt) (by omega) (by omega) dX12_then_34 (fun x_15 e_16 le_16 ue_16 => ?_)
      have te_16 := congrArg Int32.toInt e_16
      refine lv_iadd hx hb dX12_then_35 ?_
      refine lv_topi (fun x_17 e_18 => ?_)
      have te_18 : x_17.toInt = (x_13 : Int32).toInt + (x_15 : Int32).toInt := by rw [e_18]; exact fb_addI (by omega) (by omega)
      refine lv_iconst (v := 1) hx hb dX12_then_36 (by decide) ?_
      refine lv_isub hx hb dX12_then_37 ?_
      refine lv_topi (fun x_19 e_20 => ?_)
      have te_20 : x_19.toInt = (x_17 : Int32).toInt - (1 : Int32).toInt := by rw [e_20]; exact fb_subI (by omega) (by omega)
      refine a_18 C hU hG (h1_18 hG) (x := x_19) (by omega) (by omega) dX12_then_38 (fun x_21 e_22 le_22 ue_22 => ?_)
      have te_22 := congrArg Int32.toInt e_22
      have hL := th_ix (t := tt) e_22 e_16 (by omega) (by omega) (by omega)
      refine lv_istore_n (lv' := [(3, .int x_21), (0, .ref (al.2 0 0)), (1, .int tt), (2, .int lg)]) hx hb dX12_then_39 rfl hl (by decide) rfl (fun ls hl => ?_)
      refine lv_aload_n hx hb dX12_then_40 rfl (lv_at hl 1 rfl) ?_
      refine g_0_7 C hU hG (h1_0 hG) fl_X12_22 dX12_then_41 ?_
      refine lv_iload_n hx hb dX12_then_44 rfl (lv_at hl 3 rfl) ?_
      refine a_5 C hU hG (h1_5 hG) (x := lg) (by omega) (by omega) dX12_then_45 (fun x_23 e_24 le_24 ue_24 => ?_)
      have te_24 := congrArg Int32.toInt e_24
      refine lv_aload_n hx hb dX12_then_46 rfl (lv_at hl 1 rfl) ?_
      refine g_0_8 C hU hG (h1_0 hG) fl_X12_25 dX12_then_47 ?_
      refine lv_iload_n hx hb dX12_then_50 rfl (lv_at hl 0 rfl) ?_
      refine a_6 C hU hG (h1_6 hG) (x := x_21) (by omega) (by omega) dX12_then_51 (fun x_25 e_26 le_26 ue_26 => ?_)
      have te_26 := congrArg Int32.toInt e_26
      have h51 := e_26
      rw [hL] at h51
      have t51 := congrArg Int32.toInt h51
      refine b_icmp_ne (tgt := 77) hx hb dX12_then_52 (by decide) (fun c_27 => ?_) (fun c_27 => ?_)
      ·
        refine lv_aload_n hx hb dX12_then_77 rfl (lv_at hl 1 rfl) ?_
        refine lv_bipush (v := (-3)) hx hb dX12_then_78 (by decide) ?_
        refine q_fi (q_runV (t := 0) (i := 0) (As := [.int (-3)]) (rest := []) C hU (c_X12_refuse hG (-3) (by omega)) vm_X12_refuse ml_X12_164 k_0.1 (hc := rfl) rfl (h1_0 hG) hl.1 rfl rfl (Nat.le_of_ble_eq_true rfl) dX12_then_80 rfl rfl ⟨Nat.le_of_ble_eq_true rfl, Nat.le_of_ble_eq_true rfl⟩ ⟨Nat.le_refl _, Nat.le_refl _⟩) hS (fun x_33 iv_29 rv_30 H locs hG fa_31 fb_32 hp_28 hU hS => ?_)
        have hF1 := hF1.tr (m := ([16, 18, 19], [])) fa_31 (by decide)
        have hF2 := hF2.tr (m := ([16, 18, 19], [])) fb_32 (by decide)
        exact hret (⟨hG, hF1, hF2, sp_no (z := (-3)) (by unfold spThen; (repeat' split) <;> first | rfl | omega) (by decide) hp_28 (fun k => ⟨fa_31.arr 18 0 k (by decide), fa_31.arr 19 0 k (by decide)⟩)⟩) hU hS dX12_then_83
      ·
        refine lv_aload_n hx hb dX12_then_55 rfl (lv_at hl 1 rfl) ?_
        refine g_0_11 C hU hG (h1_0 hG) fl_X12_34 dX12_then_56 ?_
        refine lv_iload_n hx hb dX12_then_59 rfl (lv_at hl 3 rfl) ?_
        refine a_9 C hU hG (h1_9 hG) (x := lg) (by omega) (by omega) dX12_then_60 (fun x_34 e_35 le_35 ue_35 => ?_)
        have te_35 := congrArg Int32.toInt e_35
        refine lv_aload_n hx hb dX12_then_61 rfl (lv_at hl 1 rfl) ?_
        refine g_0_12 C hU hG (h1_0 hG) fl_X12_37 dX12_then_62 ?_
        refine lv_iload_n hx hb dX12_then_65 rfl (lv_at hl 0 rfl) ?_
        refine a_10 C hU hG (h1_10 hG) (x := x_21) (by omega) (by omega) dX12_then_66 (fun x_36 e_37 le_37 ue_37 => ?_)
        have te_37 := congrArg Int32.toInt e_37
        have h66 := e_37
        rw [hL] at h66
        have t66 := congrArg Int32.toInt h66
        refine lv_aload_n hx hb dX12_then_67 rfl (lv_at hl 1 rfl) ?_
        refine g_0_17 C hU hG (h1_0 hG) fl_X12_53 dX12_then_68 ?_
        refine lv_iconst (v := 2) hx hb dX12_then_71 (by decide) ?_
        refine a_15 C hU hG (h1_15 hG) (x := 2) (by omega) (by omega) dX12_then_72 (fun x_38 e_39 le_39 ue_39 => ?_)
        have te_39 := congrArg Int32.toInt e_39
        have t72 : x_38.toInt = (iv 15 0 2).toInt := by rw [e_39]; rfl
        refine lv_iadd hx hb dX12_then_73 ?_
        refine lv_topi (fun x_40 e_41 => ?_)
        have te_41 : x_40.toInt = (x_36 : Int32).toInt + (x_38 : Int32).toInt := by rw [e_41]; exact fb_addI (by omega) (by omega)
        refine b_icmp_ge (tgt := 84) hx hb dX12_then_74 (by decide) (fun c_42 => ?_) (fun c_42 => ?_)
        ·
          refine lv_aload_n hx hb dX12_then_84 rfl (lv_at hl 1 rfl) ?_
          refine g_0_22 C hU hG (h1_0 hG) fl_X12_65 dX12_then_85 ?_
          refine lv_iload_n hx hb dX12_then_88 rfl (lv_at hl 2 rfl) ?_
          refine a_19 C hU hG (h1_19 hG) (x := tt) (by omega) (by omega) dX12_then_89 (fun x_43 e_44 le_44 ue_44 => ?_)
          have te_44 := congrArg Int32.toInt e_44
          refine lv_iconst (v := 4) hx hb dX12_then_90 (by decide) ?_
          refine b_icmp_ne (tgt := 101) hx hb dX12_then_91 (by decide) (fun c_45 => ?_) (fun c_45 => ?_)
          ·
            refine lv_aload_n hx hb dX12_then_101 rfl (lv_at hl 1 rfl) ?_
            refine g_0_21 C hU hG (h1_0 hG) fl_X12_62 dX12_then_102 ?_
            refine lv_iconst (v := 4) hx hb dX12_then_105 (by decide) ?_
            refine lv_iload_n hx hb dX12_then_106 rfl (lv_at hl 2 rfl) ?_
            refine lv_imul hx hb dX12_then_107 ?_
            refine lv_topi (fun x_46 e_47 => ?_)
            have te_47 : x_46.toInt = 4 * (tt : Int32).toInt := by rw [e_47, fb_mulI (by rw [show (4 : Int32).toInt = 4 from by decide]; omega) (by rw [show (4 : Int32).toInt = 4 from by decide]; omega), show (4 : Int32).toInt = 4 from by decide]
            refine lv_aload_n hx hb dX12_then_108 rfl (lv_at hl 1 rfl) ?_
            refine g_0_22 C hU hG (h1_0 hG) fl_X12_65 dX12_then_109 ?_
            refine lv_iload_n hx hb dX12_then_112 rfl (lv_at hl 2 rfl) ?_
            refine a_19 C hU hG (h1_19 hG) (x := tt) (by omega) (by omega) dX12_then_113 (fun x_48 e_49 le_49 ue_49 => ?_)
            have te_49 := congrArg Int32.toInt e_49
            refine lv_iadd hx hb dX12_then_114 ?_
            refine lv_topi (fun x_50 e_51 => ?_)
            have te_51 : x_50.toInt = (x_46 : Int32).toInt + (x_48 : Int32).toInt := by rw [e_51]; exact fb_addI (by omega) (by omega)
            refine lv_iload_n hx hb dX12_then_115 rfl (lv_at hl 3 rfl) ?_
            refine s_18 C hU hS (h1_18 hG) (x := x_50) (by omega) (by omega) dX12_then_116 (fun iv_52 H locs ei_53 hU hS => ?_)
            have hG : GI al iv_52 rv := by rw [ei_53]; exact hG.puti (show _ ∧ _ from ⟨show (0 : Int) ≤ _ by omega, show _ ≤ (39 : Int) by omega⟩) (nsA (by decide) _)
            have hF1 : FR ([16, 18, 19], []) iv iv_52 := by rw [ei_53]; exact hF1.put (Or.inl (by decide))
            have kf_54 := congrArg Int32.toInt (show iv_52 19 0 tt.toNatClampNeg = iv 19 0 tt.toNatClampNeg by rw [ei_53]; exact up3_ne (fun z => absurd z.1 (by decide)))
            refine lv_aload_n hx hb dX12_then_117 rfl (lv_at hl 1 rfl) ?_
            refine g_0_22 C hU hG (h1_0 hG) fl_X12_65 dX12_then_118 ?_
            refine lv_iload_n hx hb dX12_then_121 rfl (lv_at hl 2 rfl) ?_
            refine lv_dup2_11 hx hb dX12_then_122 rfl rfl ?_
            refine a_19 C hU hG (h1_19 hG) (x := tt) (by omega) (by omega) dX12_then_123 (fun x_55 e_56 le_56 ue_56 => ?_)
            have te_56 := congrArg Int32.toInt e_56
            refine lv_iconst (v := 1) hx hb dX12_then_124 (by decide) ?_
            refine lv_iadd hx hb dX12_then_125 ?_
            refine lv_topi (fun x_57 e_58 => ?_)
            have te_58 : x_57.toInt = (x_55 : Int32).toInt + (1 : Int32).toInt := by rw [e_58]; exact fb_addI (by omega) (by omega)
            refine s_19 C hU hS (h1_19 hG) (x := tt) (by omega) (by omega) dX12_then_126 (fun iv_59 H locs ei_60 hU hS => ?_)
            have hG : GI al iv_59 rv := by rw [ei_60]; exact hG.put19 ⟨by omega, by omega⟩
            have hF1 : FR ([16, 18, 19], []) iv iv_59 := by rw [ei_60]; exact hF1.put (Or.inl (by decide))
            refine lv_aload_n hx hb dX12_then_127 rfl (lv_at hl 1 rfl) ?_
            refine g_0_22 C hU hG (h1_0 hG) fl_X12_65 dX12_then_128 ?_
            refine lv_iload_n hx hb dX12_then_131 rfl (lv_at hl 2 rfl) ?_
            refine a_19 C hU hG (h1_19 hG) (x := tt) (by omega) (by omega) dX12_then_132 (fun x_61 e_62 le_62 ue_62 => ?_)
            have te_62 := congrArg Int32.toInt e_62
            exact hret (⟨hG, hF1, hF2, Or.inl ⟨(by unfold spThen; (repeat' split) <;> first | rfl | omega), th_r e_62 ei_60 e_58 e_56 ei_53 (by omega), fun k => th_ok e_49 ei_53 e_56 e_58 ei_60 (by omega) (by omega)⟩⟩) hU hS dX12_then_133
          ·
            refine lv_aload_n hx hb dX12_then_94 rfl (lv_at hl 1 rfl) ?_
            refine lv_bipush (v := (-6)) hx hb dX12_then_95 (by decide) ?_
            refine q_fi (q_runV (t := 0) (i := 0) (As := [.int (-6)]) (rest := []) C hU (c_X12_refuse hG (-6) (by omega)) vm_X12_refuse ml_X12_164 k_0.1 (hc := rfl) rfl (h1_0 hG) hl.1 rfl rfl (Nat.le_of_ble_eq_true rfl) dX12_then_97 rfl rfl ⟨Nat.le_of_ble_eq_true rfl, Nat.le_of_ble_eq_true rfl⟩ ⟨Nat.le_refl _, Nat.le_refl _⟩) hS (fun x_68 iv_64 rv_65 H locs hG fa_66 fb_67 hp_63 hU hS => ?_)
            have hF1 := hF1.tr (m := ([16, 18, 19], [])) fa_66 (by decide)
            have hF2 := hF2.tr (m := ([16, 18, 19], [])) fb_67 (by decide)
            exact hret (⟨hG, hF1, hF2, sp_no (z := (-6)) (by unfold spThen; (repeat' split) <;> first | rfl | omega) (by decide) hp_63 (fun k => ⟨fa_66.arr 18 0 k (by decide), fa_66.arr 19 0 k (by decide)⟩)⟩) hU hS dX12_then_100
        ·
          refine lv_aload_n hx hb dX12_then_77 rfl (lv_at hl 1 rfl) ?_
          refine lv_bipush (v := (-3)) hx hb dX12_then_78 (by decide) ?_
          refine q_fi (q_runV (t := 0) (i := 0) (As := [.int (-3)]) (rest := []) C hU (c_X12_refuse hG (-3) (by omega)) vm_X12_refuse ml_X12_164 k_0.1 (hc := rfl) rfl (h1_0 hG) hl.1 rfl rfl (Nat.le_of_ble_eq_true rfl) dX12_then_80 rfl rfl ⟨Nat.le_of_ble_eq_true rfl, Nat.le_of_ble_eq_true rfl⟩ ⟨Nat.le_refl _, Nat.le_refl _⟩) hS (fun x_74 iv_70 rv_71 H locs hG fa_72 fb_73 hp_69 hU hS => ?_)
          have hF1 := hF1.tr (m := ([16, 18, 19], [])) fa_72 (by decide)
          have hF2 := hF2.tr (m := ([16, 18, 19], [])) fb_73 (by decide)
          exact hret (⟨hG, hF1, hF2, sp_no (z := (-3)) (by unfold spThen; (repeat' split) <;> first | rfl | omega) (by decide) hp_69 (fun k => ⟨fa_72.arr 18 0 k (by decide), fa_72.arr 19 0 k (by decide)⟩)⟩) hU hS dX12_then_83
    ·
      refine lv_aload_n hx hb dX12_then_16 rfl (lv_at hl 0 rfl) ?_
      refine lv_iconst (v := (-1)) hx hb dX12_then_17 (by decide) ?_
      refine q_fi (q_runV (t := 0) (i := 0) (As := [.int (-1)]) (rest := []) C hU (c_X12_refuse hG (-1) (by omega)) vm_X12_refuse ml_X12_164 k_0.1 (hc := rfl) rfl (h1_0 hG) hl.1 rfl rfl (Nat.le_of_ble_eq_true rfl) dX12_then_18 rfl rfl ⟨Nat.le_of_ble_eq_true rfl, Nat.le_of_ble_eq_true rfl⟩ ⟨Nat.le_refl _, Nat.le_refl _⟩) hS (fun x_80 iv_76 rv_77 H locs hG fa_78 fb_79 hp_75 hU hS => ?_)
      have hF1 := hF1.tr (m := ([16, 18, 19], [])) fa_78 (by decide)
      have hF2 := hF2.tr (m := ([16, 18, 19], [])) fb_79 (by decide)
      exact hret (⟨hG, hF1, hF2, sp_no (z := (-1)) (by unfold spThen; (repeat' split) <;> first | rfl | omega) (by decide) hp_75 (fun k => ⟨fa_78.arr 18 0 k (by decide), fa_78.arr 19 0 k (by decide)⟩)⟩) hU hS dX12_then_21
set_option maxHeartbeats 4000000 in
set_option maxRecDepth 100000 in
theorem c_X8_isFollowedBy_x {l : Launch} {D : va_G} {cA : FieldType → ClassId} {sz : Nat} {al : Al} {iv : Iv} {rv : Rv} (hG : GI al iv rv) (ti : Nat) (hti : ti < al.1 65) (li : Nat) (hli : li < al.1 62) (conn : Int32) : Met l yX8_isFollowedBy (wd yX8_isFollowedBy cX8_isFollowedBy 3 (some .boolean)) (rm 0) (PcW D cA sz al iv rv [.ref (al.2 65 ti), .ref (al.2 62 li), .int conn]) (QI D cA sz al (pI iv rv (fun r => (0 ≤ r.toInt ∧ r.toInt ≤ 1) ∧ (∀ p q o : Nat, rv 62 li 1 = some p → rv 65 ti 2 = some q → rv 62 q 2 = some o → ((p = o ∧ conn.toInt ≤ (iv 62 li 5).toInt - (iv 62 q 6).toInt) ∧ r.toInt = 1) ∨ ((¬ (p = o ∧ conn.toInt ≤ (iv 62 li 5).toInt - (iv 62 q 6).toInt)) ∧ r.toInt = 0))))) 0 0 (Aq sz) := by
  refine mk_z (by decide) (Nat.le_of_ble_eq_true rfl) rfl ?_
  intro p e s m args below meth c ls Q H locs C hU hS hl hret
  have hx := C.1.1
  have hb := C.1.2.1
  have hl : lv_has ls 3 [(0, .ref (al.2 65 ti)), (1, .ref (al.2 62 li)), (2, .int conn)] := hl
  have hG0 := hG
  have k0 : (0 : Int32).toInt = 0 := by decide
  have k1 : (1 : Int32).toInt = 1 := by decide
  refine lv_aload_n hx hb dX8_isFollowedBy_0 rfl (lv_at hl 1 rfl) ?_
  refine g_62_1 C hU hG hli fl_X8_35 dX8_isFollowedBy_1 (fun j_1 ej_2 hb_3 => ?_)
  refine lv_aload_n hx hb dX8_isFollowedBy_4 rfl (lv_at hl 0 rfl) ?_
  refine g_65_2 C hU hG hti fl_X8_19 dX8_isFollowedBy_5 (fun j_4 ej_5 hb_6 => ?_)
  refine g_62_2 C hU hG hb_6 fl_X8_39 dX8_isFollowedBy_8 (fun j_7 ej_8 hb_9 => ?_)
  refine b_acmp_ne (tgt := 34) hx hb hU hb_3 hb_9 dX8_isFollowedBy_11 (by decide) (fun c_10 => ?_) (fun c_10 => ?_)
  ·
    refine lv_iconst (v := 0) hx hb dX8_isFollowedBy_34 (by decide) ?_
    exact hret (by omega) (by omega) (⟨rfl, rfl, ⟨⟨by omega, by omega⟩, fun p q o h1 h2 h3 => by first | exact fb_1 ej_2 ej_5 ej_8 h1 h2 h3 c_10 True.intro (by omega) (by decide) | exact fb_2 ej_2 ej_5 ej_8 h1 h2 h3 c_10 (by decide) | exact fb_3 ej_5 h2 True.intro (by omega) (by decide)⟩⟩) hU hS dX8_isFollowedBy_35
  ·
    refine lv_aload_n hx hb dX8_isFollowedBy_14 rfl (lv_at hl 1 rfl) ?_
    refine g_62_5 C hU hG hli fl_X8_42 dX8_isFollowedBy_15 (fun x_11 e_12 le_12 ue_12 => ?_)
    have te_12 := congrArg Int32.toInt e_12
    refine lv_aload_n hx hb dX8_isFollowedBy_18 rfl (lv_at hl 0 rfl) ?_
    refine g_65_2 C hU hG hti fl_X8_19 dX8_isFollowedBy_19 (fun j_13 ej_14 hb_15 => ?_)
    refine g_62_6 C hU hG hb_15 fl_X8_45 dX8_isFollowedBy_22 (fun x_16 e_17 le_17 ue_17 => ?_)
    have te_17 := congrArg Int32.toInt e_17
    refine lv_isub hx hb dX8_isFollowedBy_25 ?_
    refine lv_topi (fun x_18 e_19 => ?_)
    have te_19 : x_18.toInt = (x_11 : Int32).toInt - (x_16 : Int32).toInt := by rw [e_19]; exact fb_subI (by omega) (by omega)
    refine lv_iload_n hx hb dX8_isFollowedBy_26 rfl (lv_at hl 2 rfl) ?_
    refine b_icmp_lt (tgt := 34) hx hb dX8_isFollowedBy_27 (by decide) (fun c_20 => ?_) (fun c_20 => ?_)
    ·
      refine lv_iconst (v := 0) hx hb dX8_isFollowedBy_34 (by decide) ?_
      exact hret (by omega) (by omega) (⟨rfl, rfl, ⟨⟨by omega, by omega⟩, fun p q o h1 h2 h3 => by first | exact fb_1 ej_2 ej_5 ej_8 h1 h2 h3 c_10 ej_14 (by omega) (by decide) | exact fb_2 ej_2 ej_5 ej_8 h1 h2 h3 c_10 (by decide) | exact fb_3 ej_5 h2 ej_14 (by omega) (by decide)⟩⟩) hU hS dX8_isFollowedBy_35
    ·
      refine lv_iconst (v := 1) hx hb dX8_isFollowedBy_30 (by decide) ?_
      refine lv_goto (tgt := 35) hx hb dX8_isFollowedBy_31 (by decide) ?_
      exact hret (by omega) (by omega) (⟨rfl, rfl, ⟨⟨by omega, by omega⟩, fun p q o h1 h2 h3 => by first | exact fb_1 ej_2 ej_5 ej_8 h1 h2 h3 c_10 ej_14 (by omega) (by decide) | exact fb_2 ej_2 ej_5 ej_8 h1 h2 h3 c_10 (by decide) | exact fb_3 ej_5 h2 ej_14 (by omega) (by decide)⟩⟩) hU hS dX8_isFollowedBy_35
set_option maxHeartbeats 4000000 in
set_option maxRecDepth 100000 in
theorem c_X8_add_x {l : Launch} {D : va_G} {cA : FieldType → ClassId} {sz : Nat} {al : Al} {iv : Iv} {rv : Rv} (hG : GI al iv rv) (ti : Nat) (hti : ti < al.1 65) (li : Nat) (hli : li < al.1 62) (pre0 : (iv 65 ti 4).toInt < 4) : Met l yX8_add (wd yX8_add cX8_add 2 none) (rm 0) (PcW D cA sz al iv rv [.ref (al.2 65 ti), .ref (al.2 62 li)]) (QV D cA sz al (fV al ([66], [(65, 2), (65, 4)]) iv rv (fun iv' rv' => thX iv rv iv' rv' ti li))) 0 0 (Aq sz) := by
  refine mk_v (by decide) (Nat.le_of_ble_eq_true rfl) rfl ?_
  intro p e s m args below meth c ls Q H locs C hU hS hl hret
  have hx := C.1.1
  have hb := C.1.2.1
  have hl : lv_has ls 2 [(0, .ref (al.2 65 ti)), (1, .ref (al.2 62 li))] := hl
  have hG0 := hG
  have hF1 : FR ([66], [(65, 2), (65, 4)]) iv iv := FR.rf
  have hF2 : FR ([66], [(65, 2), (65, 4)]) rv rv := FR.rf
  have k1 : (1 : Int32).toInt = 1 := by decide
  refine lv_aload_n hx hb dX8_add_0 rfl (lv_at hl 0 rfl) ?_
  refine g_65_3 C hU hG hti fl_X8_24 dX8_add_1 (fun hb_1 => ?_)
  refine lv_aload_n hx hb dX8_add_4 rfl (lv_at hl 0 rfl) ?_
  refine g_65_4 C hU hG hti fl_X8_28 dX8_add_5 (fun x_2 e_3 le_3 ue_3 => ?_)
  have te_3 := congrArg Int32.toInt e_3
  refine lv_aload_n hx hb dX8_add_8 rfl (lv_at hl 1 rfl) ?_
  refine s_66 C hU hS hb_1 hli (x := x_2) (by omega) (by omega) dX8_add_9 (fun rv_4 H locs er_5 hU hS => ?_)
  have hG : GI al iv rv_4 := by rw [er_5]; exact hG.put66 hli
  have hF2 : FR ([66], [(65, 2), (65, 4)]) rv rv_4 := by rw [er_5]; exact hF2.put (Or.inl (by decide))
  refine lv_aload_n hx hb dX8_add_10 rfl (lv_at hl 0 rfl) ?_
  refine lv_aload_n hx hb dX8_add_11 rfl (lv_at hl 1 rfl) ?_
  refine p_65_2 C hU hS hti fl_X8_19 dX8_add_12 (fun rv_6 H locs er_7 hU hS => ?_)
  have hG : GI al iv rv_6 := by rw [er_7]; exact hG.putr rfl hli (nsF (by decide))
  have hF2 : FR ([66], [(65, 2), (65, 4)]) rv rv_6 := by rw [er_7]; exact hF2.put (by decide)
  refine lv_aload_n hx hb dX8_add_15 rfl (lv_at hl 0 rfl) ?_
  refine lv_dup hx hb dX8_add_16 rfl ?_
  refine g_65_4 C hU hG hti fl_X8_28 dX8_add_17 (fun x_8 e_9 le_9 ue_9 => ?_)
  have te_9 := congrArg Int32.toInt e_9
  refine lv_iconst (v := 1) hx hb dX8_add_20 (by decide) ?_
  refine lv_iadd hx hb dX8_add_21 ?_
  refine lv_topi (fun x_10 e_11 => ?_)
  have te_11 : x_10.toInt = (x_8 : Int32).toInt + (1 : Int32).toInt := by rw [e_11]; exact fb_addI (by omega) (by omega)
  refine p_65_4 C hU hS hti fl_X8_28 dX8_add_22 (fun iv_12 H locs ei_13 hU hS => ?_)
  have hG : GI al iv_12 rv_6 := by rw [ei_13]; exact hG.put65 (x := x_8) (j := li) ⟨by omega, by omega⟩ (by omega) (by omega) (by omega) (by rw [er_7, up3_ne (fun z => absurd z.1 (by decide)), er_5, clamp_eq (show x_8.toInt = x_2.toInt by omega)]; exact up3_self _ _ _ _ _)
  have hF1 : FR ([66], [(65, 2), (65, 4)]) iv iv_12 := by rw [ei_13]; exact hF1.put (by decide)
  exact hret (⟨hG, hF1, hF2, thx_ok er_5 er_7 e_9 e_11 ei_13 (by omega)⟩) hU hS dX8_add_25
set_option maxHeartbeats 4000000 in
set_option maxRecDepth 100000 in
theorem c_X11_then_x {l : Launch} {D : va_G} {cA : FieldType → ClassId} {sz : Nat} {al : Al} {iv : Iv} {rv : Rv} (hG : GI al iv rv) (tt : Int32) (lg : Int32) (pre0 : BT iv rv) : Met l yX11_then (wd yX11_then cX11_then 5 (some .int)) (rm 2) (PcW D cA sz al iv rv [.ref (al.2 49 0), .int tt, .int lg]) (QI D cA sz al (fI al ([51, 66], [(65, 2), (65, 4)]) iv rv (fun r iv' rv' => (spThen iv tt lg = 0 ∧ r.toInt = (iv 19 0 tt.toNatClampNeg).toInt + 1 ∧ thX iv rv iv' rv' tt.toNatClampNeg lg.toNatClampNeg) ∨ (spThen iv tt lg ≠ 0 ∧ r = spThen iv tt lg ∧ (∀ k : Nat, iv' 65 k 4 = iv 65 k 4) ∧ (∀ i k : Nat, rv' 66 i k = rv 66 i k) ∧ (∀ k : Nat, rv' 65 k 2 = rv 65 k 2))))) 0 0 (Aq sz) := by
  refine mk_i (by decide) (Nat.le_of_ble_eq_true rfl) rfl ?_
  intro p e s m args below meth c ls Q H locs C hU hS hl hret
  have hx := C.1.1
  have hb := C.1.2.1
  have hl : lv_has ls 5 [(0, .ref (al.2 49 0)), (1, .int tt), (2, .int lg)] := hl
  have hG0 := hG
  have hn6 := congrArg Int32.toInt pre0.1
  have hn20 := congrArg Int32.toInt pre0.2.2.2.1
  have hF1 : FR ([51, 66], [(65, 2), (65, 4)]) iv iv := FR.rf
  have hF2 : FR ([51, 66], [(65, 2), (65, 4)]) rv rv := FR.rf
  have km6 : ((-6) : Int32).toInt = -6 := by decide
  have km3 : ((-3) : Int32).toInt = -3 := by decide
  have km1 : ((-1) : Int32).toInt = -1 := by decide
  have k2 : (2 : Int32).toInt = 2 := by decide
  refine lv_aload_n hx hb dX11_then_0 rfl (lv_at hl 0 rfl) ?_
  refine g_49_2 C hU hG (h1_49 hG) fl_X11_26 dX11_then_1 ?_
  refine lv_iload_n hx hb dX11_then_4 rfl (lv_at hl 1 rfl) ?_
  refine q_pr (q_runV (t := 63) (i := 0) (As := [.int tt]) (rest := []) C hU (c_X9_find hG tt ) vm_X9_find ml_X11_192 k_63.1 (hc := rfl) rfl (h1_63 hG) hl.1 rfl rfl (Nat.le_of_ble_eq_true rfl) dX11_then_5 rfl rfl ⟨Nat.le_of_ble_eq_true rfl, Nat.le_of_ble_eq_true rfl⟩ ⟨Nat.le_refl _, Nat.le_refl _⟩) hS (fun r_2 H locs hp_1 hU hS => ?_)
  have hb_3 := hp_1.1
  refine b_astore_n (lv' := [(3, rfv al 65 r_2), (0, .ref (al.2 49 0)), (1, .int tt), (2, .int lg)]) hx hb dX11_then_8 rfl hl (by decide) rfl (fun ls hl => ?_)
  refine lv_aload_n hx hb dX11_then_9 rfl (lv_at hl 1 rfl) ?_
  refine g_49_1 C hU hG (h1_49 hG) fl_X11_19 dX11_then_10 ?_
  refine lv_iload_n hx hb dX11_then_13 rfl (lv_at hl 3 rfl) ?_
  refine q_pr (q_runV (t := 57) (i := 0) (As := [.int lg]) (rest := []) C hU (c_X10_find hG lg ) vm_X10_find ml_X11_123 k_57.1 (hc := rfl) rfl (h1_57 hG) hl.1 rfl rfl (Nat.le_of_ble_eq_true rfl) dX11_then_14 rfl rfl ⟨Nat.le_of_ble_eq_true rfl, Nat.le_of_ble_eq_true rfl⟩ ⟨Nat.le_refl _, Nat.le_refl _⟩) hS (fun r_5 H locs hp_4 hU hS => ?_)
  have hb_6 := hp_4.1
  refine b_astore (lv' := [(4, rfv al 62 r_5), (3, rfv al 65 r_2), (0, .ref (al.2 49 0)), (1, .int tt), (2, .int lg)]) hx hb dX11_then_17 hl (by decide) (by simp [List.filter_cons, rfv_cat]) (fun ls hl => ?_)
  refine b_aload_n (al := al) (t' := 65) (r := r_2) hx hb dX11_then_19 rfl (lv_at hl 1 rfl) ?_
  refine b_ifnull (tgt := 28) hx hb dX11_then_20 (by decide) (fun ej_9 => ?_) (fun j_8 ej_9 => ?_)
  ·
    subst ej_9
    have hl : lv_has ls 5 [(4, rfv al 62 r_5), (3, rfv al 65 none), (0, .ref (al.2 49 0)), (1, .int tt), (2, .int lg)] := hl
    have hq3 := hp_1.2.2 rfl
    refine lv_aload_n hx hb dX11_then_28 rfl (lv_at hl 2 rfl) ?_
    refine lv_iconst (v := (-1)) hx hb dX11_then_29 (by decide) ?_
    refine q_fi (q_runV (t := 49) (i := 0) (As := [.int (-1)]) (rest := []) C hU (c_X11_refuse hG (-1) (by omega)) vm_X11_refuse ml_X11_77 k_49.1 (hc := rfl) rfl (h1_49 hG) hl.1 rfl rfl (Nat.le_of_ble_eq_true rfl) dX11_then_30 rfl rfl ⟨Nat.le_of_ble_eq_true rfl, Nat.le_of_ble_eq_true rfl⟩ ⟨Nat.le_refl _, Nat.le_refl _⟩) hS (fun x_15 iv_11 rv_12 H locs hG fa_13 fb_14 hp_10 hU hS => ?_)
    have hF1 := hF1.tr (m := ([51, 66], [(65, 2), (65, 4)])) fa_13 (by decide)
    have hF2 := hF2.tr (m := ([51, 66], [(65, 2), (65, 4)])) fb_14 (by decide)
    exact hret (⟨hG, hF1, hF2, sp_no (z := (-1)) (by unfold spThen; (repeat' split) <;> first | rfl | omega) (by decide) hp_10 (⟨fun k => fa_13 65 k 4 (by decide), fun i k => fb_14.arr 66 i k (by decide), fun k => fb_14 65 k 2 (by decide)⟩)⟩) hU hS dX11_then_33
  ·
    subst ej_9
    have hl : lv_has ls 5 [(4, rfv al 62 r_5), (3, .ref (al.2 65 j_8)), (0, .ref (al.2 49 0)), (1, .int tt), (2, .int lg)] := hl
    have hb_16 : j_8 < al.1 65 := hb_3 j_8 rfl
    have hq3 := hp_1.2.1 _ rfl
    have hn3 := hq3.1
    rw [clamp_n] at hn3
    refine b_aload (al := al) (t' := 62) (r := r_5) hx hb dX11_then_23 (lv_at hl 0 rfl) ?_
    refine b_ifnonnull (tgt := 34) hx hb dX11_then_25 (by decide) (fun j_18 ej_19 => ?_) (fun ej_19 => ?_)
    ·
      subst ej_19
      have hl : lv_has ls 5 [(4, .ref (al.2 62 j_18)), (3, .ref (al.2 65 j_8)), (0, .ref (al.2 49 0)), (1, .int tt), (2, .int lg)] := hl
      have hb_20 : j_18 < al.1 62 := hb_6 j_18 rfl
      have hq4 := hp_4.2.1 _ rfl
      have hn4 := hq4.1
      rw [clamp_n] at hn4
      refine lv_aload_n hx hb dX11_then_34 rfl (lv_at hl 1 rfl) ?_
      refine lv_aload hx hb dX11_then_35 (lv_at hl 0 rfl) ?_
      refine lv_aload_n hx hb dX11_then_37 rfl (lv_at hl 2 rfl) ?_
      refine g_49_7 C hU hG (h1_49 hG) fl_X11_67 dX11_then_38 ?_
      refine lv_iconst (v := 2) hx hb dX11_then_41 (by decide) ?_
      refine a_50 C hU hG (h1_50 hG) (x := 2) (by omega) (by omega) dX11_then_42 (fun x_21 e_22 le_22 ue_22 => ?_)
      have te_22 := congrArg Int32.toInt e_22
      refine q_pi (q_runV (t := 65) (i := j_8) (As := [.ref (al.2 62 j_18), .int x_21]) (rest := []) C hU (c_X8_isFollowedBy_x hG (j_8) hb_16 (j_18) hb_20 x_21 ) vm_X8_isFollowedBy ml_X11_195 k_65.1 (hc := rfl) rfl hb_16 hl.1 rfl rfl (Nat.le_of_ble_eq_true rfl) dX11_then_43 rfl rfl ⟨Nat.le_of_ble_eq_true rfl, Nat.le_of_ble_eq_true rfl⟩ ⟨Nat.le_refl _, Nat.le_refl _⟩) hS (fun x_24 H locs hp_23 hU hS => ?_)
      have hth := then_x hG0 pre0 hb_16 hb_20 hq3.1 hq4.1 e_22 hp_23.2
      refine b_if_ne (tgt := 56) hx hb dX11_then_46 (by decide) (fun c_25 => ?_) (fun c_25 => ?_)
      ·
        refine lv_aload_n hx hb dX11_then_56 rfl (lv_at hl 1 rfl) ?_
        refine q_pi (q_runV (t := 65) (i := j_8) (As := []) (rest := []) C hU (c_X8_isFull hG (j_8) hb_16 ) vm_X8_isFull ml_X11_201 k_65.1 (hc := rfl) rfl hb_16 hl.1 rfl rfl (Nat.le_of_ble_eq_true rfl) dX11_then_57 rfl rfl ⟨Nat.le_of_ble_eq_true rfl, Nat.le_of_ble_eq_true rfl⟩ ⟨Nat.le_refl _, Nat.le_refl _⟩) hS (fun x_27 H locs hp_26 hU hS => ?_)
        refine b_if_eq (tgt := 70) hx hb dX11_then_60 (by decide) (fun c_28 => ?_) (fun c_28 => ?_)
        ·
          refine lv_aload_n hx hb dX11_then_70 rfl (lv_at hl 1 rfl) ?_
          refine lv_aload hx hb dX11_then_71 (lv_at hl 0 rfl) ?_
          refine q_fv (q_runV (t := 65) (i := j_8) (As := [.ref (al.2 62 j_18)]) (rest := []) C hU (c_X8_add_x hG (j_8) hb_16 (j_18) hb_20 (by omega)) vm_X8_add ml_X11_202 k_65.1 (hc := rfl) rfl hb_16 hl.1 rfl rfl (Nat.le_of_ble_eq_true rfl) dX11_then_73 rfl rfl ⟨Nat.le_of_ble_eq_true rfl, Nat.le_of_ble_eq_true rfl⟩ ⟨Nat.le_refl _, Nat.le_refl _⟩) hS (fun iv_30 rv_31 H locs hG fa_32 fb_33 hp_29 hU hS => ?_)
          have hF1 := hF1.tr (m := ([51, 66], [(65, 2), (65, 4)])) fa_32 (by decide)
          have hF2 := hF2.tr (m := ([51, 66], [(65, 2), (65, 4)])) fb_33 (by decide)
          refine lv_aload_n hx hb dX11_then_76 rfl (lv_at hl 1 rfl) ?_
          refine g_65_4 C hU hG hb_16 fl_X11_205 dX11_then_77 (fun x_34 e_35 le_35 ue_35 => ?_)
          have te_35 := congrArg Int32.toInt e_35
          exact hret (⟨hG, hF1, hF2, Or.inl ⟨(by unfold spThen; (repeat' split) <;> first | rfl | omega), by have z := congrArg Int32.toInt e_35; rw [(hp_29).1, if_pos rfl] at z; omega, by have z := hp_29; rw [hq3.1, hq4.1] at z; exact z⟩⟩) hU hS dX11_then_80
        ·
          refine lv_aload_n hx hb dX11_then_63 rfl (lv_at hl 2 rfl) ?_
          refine lv_bipush (v := (-6)) hx hb dX11_then_64 (by decide) ?_
          refine q_fi (q_runV (t := 49) (i := 0) (As := [.int (-6)]) (rest := []) C hU (c_X11_refuse hG (-6) (by omega)) vm_X11_refuse ml_X11_77 k_49.1 (hc := rfl) rfl (h1_49 hG) hl.1 rfl rfl (Nat.le_of_ble_eq_true rfl) dX11_then_66 rfl rfl ⟨Nat.le_of_ble_eq_true rfl, Nat.le_of_ble_eq_true rfl⟩ ⟨Nat.le_refl _, Nat.le_refl _⟩) hS (fun x_41 iv_37 rv_38 H locs hG fa_39 fb_40 hp_36 hU hS => ?_)
          have hF1 := hF1.tr (m := ([51, 66], [(65, 2), (65, 4)])) fa_39 (by decide)
          have hF2 := hF2.tr (m := ([51, 66], [(65, 2), (65, 4)])) fb_40 (by decide)
          exact hret (⟨hG, hF1, hF2, sp_no (z := (-6)) (by unfold spThen; (repeat' split) <;> first | rfl | omega) (by decide) hp_36 (⟨fun k => fa_39 65 k 4 (by decide), fun i k => fb_40.arr 66 i k (by decide), fun k => fb_40 65 k 2 (by decide)⟩)⟩) hU hS dX11_then_69
      ·
        refine lv_aload_n hx hb dX11_then_49 rfl (lv_at hl 2 rfl) ?_
        refine lv_bipush (v := (-3)) hx hb dX11_then_50 (by decide) ?_
        refine q_fi (q_runV (t := 49) (i := 0) (As := [.int (-3)]) (rest := []) C hU (c_X11_refuse hG (-3) (by omega)) vm_X11_refuse ml_X11_77 k_49.1 (hc := rfl) rfl (h1_49 hG) hl.1 rfl rfl (Nat.le_of_ble_eq_true rfl) dX11_then_52 rfl rfl ⟨Nat.le_of_ble_eq_true rfl, Nat.le_of_ble_eq_true rfl⟩ ⟨Nat.le_refl _, Nat.le_refl _⟩) hS (fun x_47 iv_43 rv_44 H locs hG fa_45 fb_46 hp_42 hU hS => ?_)
        have hF1 := hF1.tr (m := ([51, 66], [(65, 2), (65, 4)])) fa_45 (by decide)
        have hF2 := hF2.tr (m := ([51, 66], [(65, 2), (65, 4)])) fb_46 (by decide)
        exact hret (⟨hG, hF1, hF2, sp_no (z := (-3)) (by unfold spThen; (repeat' split) <;> first | rfl | omega) (by decide) hp_42 (⟨fun k => fa_45 65 k 4 (by decide), fun i k => fb_46.arr 66 i k (by decide), fun k => fb_46 65 k 2 (by decide)⟩)⟩) hU hS dX11_then_55
    ·
      subst ej_19
      have hl : lv_has ls 5 [(4, rfv al 62 none), (3, .ref (al.2 65 j_8)), (0, .ref (al.2 49 0)), (1, .int tt), (2, .int lg)] := hl
      have hq4 := hp_4.2.2 rfl
      refine lv_aload_n hx hb dX11_then_28 rfl (lv_at hl 2 rfl) ?_
      refine lv_iconst (v := (-1)) hx hb dX11_then_29 (by decide) ?_
      refine q_fi (q_runV (t := 49) (i := 0) (As := [.int (-1)]) (rest := []) C hU (c_X11_refuse hG (-1) (by omega)) vm_X11_refuse ml_X11_77 k_49.1 (hc := rfl) rfl (h1_49 hG) hl.1 rfl rfl (Nat.le_of_ble_eq_true rfl) dX11_then_30 rfl rfl ⟨Nat.le_of_ble_eq_true rfl, Nat.le_of_ble_eq_true rfl⟩ ⟨Nat.le_refl _, Nat.le_refl _⟩) hS (fun x_53 iv_49 rv_50 H locs hG fa_51 fb_52 hp_48 hU hS => ?_)
      have hF1 := hF1.tr (m := ([51, 66], [(65, 2), (65, 4)])) fa_51 (by decide)
      have hF2 := hF2.tr (m := ([51, 66], [(65, 2), (65, 4)])) fb_52 (by decide)
      exact hret (⟨hG, hF1, hF2, sp_no (z := (-1)) (by unfold spThen; (repeat' split) <;> first | rfl | omega) (by decide) hp_48 (⟨fun k => fa_51 65 k 4 (by decide), fun i k => fb_52.arr 66 i k (by decide), fun k => fb_52 65 k 2 (by decide)⟩)⟩) hU hS dX11_then_33
