set_option maxHeartbeats 4000000 in
set_option maxRecDepth 100000 in
theorem c_X1_add_y {l : Launch} {D : va_G} {cA : FieldType → ClassId} {sz : Nat} {al : Al} {iv : Iv} {rv : Rv} (hG : GI al iv rv) (a : Int32) (cs : Int32) (mm : Int32) (far : Int32) (won : Int32) (cost : Int32) (pre0 : (iv 90 0 6).toInt < 40) (pre1 : 0 ≤ a.toInt ∧ a.toInt ≤ 9999) (pre2 : 0 ≤ cs.toInt ∧ cs.toInt ≤ 9999) (pre3 : 0 ≤ mm.toInt ∧ mm.toInt ≤ 9999) (pre4 : 0 ≤ far.toInt ∧ far.toInt ≤ 9999) (pre5 : 0 ≤ cost.toInt ∧ cost.toInt ≤ 9999) (pre6 : 0 ≤ won.toInt ∧ won.toInt ≤ 1) : Met l yX1_add (wd yX1_add cX1_add 7 (some .int)) (rm 0) (PcW D cA sz al iv rv [.ref (al.2 90 0), .int a, .int cs, .int mm, .int far, .int won, .int cost]) (QI D cA sz al (fI al ([91, 92, 93, 94, 95, 96], [(90, 6)]) iv rv (fun r iv' rv' => r.toInt = (iv 90 0 6).toInt ∧ (iv' 90 0 6).toInt = (iv 90 0 6).toInt + 1 ∧ (∀ k : Nat, iv' 91 0 k = (if k = (iv 90 0 6).toNatClampNeg then a else iv 91 0 k) ∧ iv' 92 0 k = (if k = (iv 90 0 6).toNatClampNeg then cs else iv 92 0 k) ∧ iv' 93 0 k = (if k = (iv 90 0 6).toNatClampNeg then mm else iv 93 0 k) ∧ iv' 94 0 k = (if k = (iv 90 0 6).toNatClampNeg then far else iv 94 0 k) ∧ iv' 95 0 k = (if k = (iv 90 0 6).toNatClampNeg then won else iv 95 0 k) ∧ iv' 96 0 k = (if k = (iv 90 0 6).toNatClampNeg then cost else iv 96 0 k))))) 0 0 (Aq sz) := by
  refine mk_i (by decide) (Nat.le_of_ble_eq_true rfl) rfl ?_
  intro p e s m args below meth c ls Q H locs C hU hS hl hret
  have hx := C.1.1
  have hb := C.1.2.1
  have hl : lv_has ls 7 [(0, .ref (al.2 90 0)), (1, .int a), (2, .int cs), (3, .int mm), (4, .int far), (5, .int won), (6, .int cost)] := hl
  have hG0 := hG
  have hF1 : FR ([91, 92, 93, 94, 95, 96], [(90, 6)]) iv iv := FR.rf
  have hF2 : FR ([91, 92, 93, 94, 95, 96], [(90, 6)]) rv rv := FR.rf
  have k1 : (1 : Int32).toInt = 1 := by decide
  refine lv_aload_n hx hb dX1_add_0 rfl (lv_at hl 0 rfl) ?_
  refine g_90_0 C hU hG (h1_90 hG) fl_X1_11 dX1_add_1 ?_
  refine lv_aload_n hx hb dX1_add_4 rfl (lv_at hl 0 rfl) ?_
  refine g_90_6 C hU hG (h1_90 hG) fl_X1_34 dX1_add_5 (fun x_1 e_2 le_2 ue_2 => ?_)
  have te_2 := congrArg Int32.toInt e_2
  refine lv_iload_n hx hb dX1_add_8 rfl (lv_at hl 1 rfl) ?_
  refine s_91 C hU hS (h1_91 hG) (x := x_1) (by omega) (by omega) dX1_add_9 (fun iv_3 H locs ei_4 hU hS => ?_)
  have hG : GI al iv_3 rv := by rw [ei_4]; exact hG.puti (show _ ∧ _ from ⟨show (0 : Int) ≤ _ by omega, show _ ≤ (9999 : Int) by omega⟩) (nsA (by decide) _)
  have hF1 : FR ([91, 92, 93, 94, 95, 96], [(90, 6)]) iv iv_3 := by rw [ei_4]; exact hF1.put (Or.inl (by decide))
  have kf_5 := congrArg Int32.toInt (show iv_3 90 0 6 = iv 90 0 6 by rw [ei_4]; exact up3_ne (fun z => absurd z.1 (by decide)))
  refine lv_aload_n hx hb dX1_add_10 rfl (lv_at hl 0 rfl) ?_
  refine g_90_1 C hU hG (h1_90 hG) fl_X1_15 dX1_add_11 ?_
  refine lv_aload_n hx hb dX1_add_14 rfl (lv_at hl 0 rfl) ?_
  refine g_90_6 C hU hG (h1_90 hG) fl_X1_34 dX1_add_15 (fun x_6 e_7 le_7 ue_7 => ?_)
  have te_7 := congrArg Int32.toInt e_7
  refine lv_iload_n hx hb dX1_add_18 rfl (lv_at hl 2 rfl) ?_
  refine s_92 C hU hS (h1_92 hG) (x := x_6) (by omega) (by omega) dX1_add_19 (fun iv_8 H locs ei_9 hU hS => ?_)
  have hG : GI al iv_8 rv := by rw [ei_9]; exact hG.puti (show _ ∧ _ from ⟨show (0 : Int) ≤ _ by omega, show _ ≤ (9999 : Int) by omega⟩) (nsA (by decide) _)
  have hF1 : FR ([91, 92, 93, 94, 95, 96], [(90, 6)]) iv iv_8 := by rw [ei_9]; exact hF1.put (Or.inl (by decide))
  have kf_10 := congrArg Int32.toInt (show iv_8 90 0 6 = iv_3 90 0 6 by rw [ei_9]; exact up3_ne (fun z => absurd z.1 (by decide)))
  refine lv_aload_n hx hb dX1_add_20 rfl (lv_at hl 0 rfl) ?_
  refine g_90_2 C hU hG (h1_90 hG) fl_X1_18 dX1_add_21 ?_
  refine lv_aload_n hx hb dX1_add_24 rfl (lv_at hl 0 rfl) ?_
  refine g_90_6 C hU hG (h1_90 hG) fl_X1_34 dX1_add_25 (fun x_11 e_12 le_12 ue_12 => ?_)
  have te_12 := congrArg Int32.toInt e_12
  refine lv_iload_n hx hb dX1_add_28 rfl (lv_at hl 3 rfl) ?_
  refine s_93 C hU hS (h1_93 hG) (x := x_11) (by omega) (by omega) dX1_add_29 (fun iv_13 H locs ei_14 hU hS => ?_)
  have hG : GI al iv_13 rv := by rw [ei_14]; exact hG.puti (show _ ∧ _ from ⟨show (0 : Int) ≤ _ by omega, show _ ≤ (9999 : Int) by omega⟩) (nsA (by decide) _)
  have hF1 : FR ([91, 92, 93, 94, 95, 96], [(90, 6)]) iv iv_13 := by rw [ei_14]; exact hF1.put (Or.inl (by decide))
  have kf_15 := congrArg Int32.toInt (show iv_13 90 0 6 = iv_8 90 0 6 by rw [ei_14]; exact up3_ne (fun z => absurd z.1 (by decide)))
  refine lv_aload_n hx hb dX1_add_30 rfl (lv_at hl 0 rfl) ?_
  refine g_90_3 C hU hG (h1_90 hG) fl_X1_21 dX1_add_31 ?_
  refine lv_aload_n hx hb dX1_add_34 rfl (lv_at hl 0 rfl) ?_
  refine g_90_6 C hU hG (h1_90 hG) fl_X1_34 dX1_add_35 (fun x_16 e_17 le_17 ue_17 => ?_)
  have te_17 := congrArg Int32.toInt e_17
  refine lv_iload hx hb dX1_add_38 (lv_at hl 4 rfl) ?_
  refine s_94 C hU hS (h1_94 hG) (x := x_16) (by omega) (by omega) dX1_add_40 (fun iv_18 H locs ei_19 hU hS => ?_)
  have hG : GI al iv_18 rv := by rw [ei_19]; exact hG.puti (show _ ∧ _ from ⟨show (0 : Int) ≤ _ by omega, show _ ≤ (9999 : Int) by omega⟩) (nsA (by decide) _)
  have hF1 : FR ([91, 92, 93, 94, 95, 96], [(90, 6)]) iv iv_18 := by rw [ei_19]; exact hF1.put (Or.inl (by decide))
  have kf_20 := congrArg Int32.toInt (show iv_18 90 0 6 = iv_13 90 0 6 by rw [ei_19]; exact up3_ne (fun z => absurd z.1 (by decide)))
  refine lv_aload_n hx hb dX1_add_41 rfl (lv_at hl 0 rfl) ?_
  refine g_90_4 C hU hG (h1_90 hG) fl_X1_24 dX1_add_42 ?_
  refine lv_aload_n hx hb dX1_add_45 rfl (lv_at hl 0 rfl) ?_
  refine g_90_6 C hU hG (h1_90 hG) fl_X1_34 dX1_add_46 (fun x_21 e_22 le_22 ue_22 => ?_)
  have te_22 := congrArg Int32.toInt e_22
  refine lv_iload hx hb dX1_add_49 (lv_at hl 5 rfl) ?_
  refine s_95 C hU hS (h1_95 hG) (x := x_21) (by omega) (by omega) (by omega) (by omega) dX1_add_51 (fun iv_23 H locs ei_24 hU hS => ?_)
  have hG : GI al iv_23 rv := by rw [ei_24]; exact hG.puti (show _ ∧ _ from ⟨show (0 : Int) ≤ _ by omega, show _ ≤ (1 : Int) by omega⟩) (nsA (by decide) _)
  have hF1 : FR ([91, 92, 93, 94, 95, 96], [(90, 6)]) iv iv_23 := by rw [ei_24]; exact hF1.put (Or.inl (by decide))
  have kf_25 := congrArg Int32.toInt (show iv_23 90 0 6 = iv_18 90 0 6 by rw [ei_24]; exact up3_ne (fun z => absurd z.1 (by decide)))
  refine lv_aload_n hx hb dX1_add_52 rfl (lv_at hl 0 rfl) ?_
  refine g_90_5 C hU hG (h1_90 hG) fl_X1_28 dX1_add_53 ?_
  refine lv_aload_n hx hb dX1_add_56 rfl (lv_at hl 0 rfl) ?_
  refine g_90_6 C hU hG (h1_90 hG) fl_X1_34 dX1_add_57 (fun x_26 e_27 le_27 ue_27 => ?_)
  have te_27 := congrArg Int32.toInt e_27
  refine lv_iload hx hb dX1_add_60 (lv_at hl 6 rfl) ?_
  refine s_96 C hU hS (h1_96 hG) (x := x_26) (by omega) (by omega) dX1_add_62 (fun iv_28 H locs ei_29 hU hS => ?_)
  have hG : GI al iv_28 rv := by rw [ei_29]; exact hG.puti (show _ ∧ _ from ⟨show (0 : Int) ≤ _ by omega, show _ ≤ (9999 : Int) by omega⟩) (nsA (by decide) _)
  have hF1 : FR ([91, 92, 93, 94, 95, 96], [(90, 6)]) iv iv_28 := by rw [ei_29]; exact hF1.put (Or.inl (by decide))
  have kf_30 := congrArg Int32.toInt (show iv_28 90 0 6 = iv_23 90 0 6 by rw [ei_29]; exact up3_ne (fun z => absurd z.1 (by decide)))
  refine lv_aload_n hx hb dX1_add_63 rfl (lv_at hl 0 rfl) ?_
  refine lv_dup hx hb dX1_add_64 rfl ?_
  refine g_90_6 C hU hG (h1_90 hG) fl_X1_34 dX1_add_65 (fun x_31 e_32 le_32 ue_32 => ?_)
  have te_32 := congrArg Int32.toInt e_32
  refine lv_iconst (v := 1) hx hb dX1_add_68 (by decide) ?_
  refine lv_iadd hx hb dX1_add_69 ?_
  refine lv_topi (fun x_33 e_34 => ?_)
  have te_34 : x_33.toInt = (x_31 : Int32).toInt + (1 : Int32).toInt := by rw [e_34]; exact fb_addI (by omega) (by omega)
  refine p_90_6 C hU hS (h1_90 hG) fl_X1_34 dX1_add_70 (fun iv_35 H locs ei_36 hU hS => ?_)
  have hG : GI al iv_35 rv := by rw [ei_36]; exact hG.puti (show _ ∧ _ from ⟨show (0 : Int) ≤ _ by omega, show _ ≤ (40 : Int) by omega⟩) (nsF (by decide))
  have hF1 : FR ([91, 92, 93, 94, 95, 96], [(90, 6)]) iv iv_35 := by rw [ei_36]; exact hF1.put (by decide)
  refine lv_aload_n hx hb dX1_add_73 rfl (lv_at hl 0 rfl) ?_
  refine g_90_6 C hU hG (h1_90 hG) fl_X1_34 dX1_add_74 (fun x_37 e_38 le_38 ue_38 => ?_)
  have te_38 := congrArg Int32.toInt e_38
  have hz_ := e_38
  rw [ei_36, up3_self] at hz_
  have tz_ := congrArg Int32.toInt hz_
  refine lv_iconst (v := 1) hx hb dX1_add_77 (by decide) ?_
  refine lv_isub hx hb dX1_add_78 ?_
  refine lv_topi (fun x_39 e_40 => ?_)
  have te_40 : x_39.toInt = (x_37 : Int32).toInt - (1 : Int32).toInt := by rw [e_40]; exact fb_subI (by omega) (by omega)
  exact hret (⟨hG, hF1, hF2, ⟨by omega, by rw [ei_36, up3_self]; omega, fun k => ⟨by rw [ei_36, up3_ne (fun z => absurd z.1 (by decide)), ei_29, up3_ne (fun z => absurd z.1 (by decide)), ei_24, up3_ne (fun z => absurd z.1 (by decide)), ei_19, up3_ne (fun z => absurd z.1 (by decide)), ei_14, up3_ne (fun z => absurd z.1 (by decide)), ei_9, up3_ne (fun z => absurd z.1 (by decide)), ei_4, clamp_eq (show (x_1 : Int32).toInt = (iv 90 0 6).toInt by omega), up3_k], by rw [ei_36, up3_ne (fun z => absurd z.1 (by decide)), ei_29, up3_ne (fun z => absurd z.1 (by decide)), ei_24, up3_ne (fun z => absurd z.1 (by decide)), ei_19, up3_ne (fun z => absurd z.1 (by decide)), ei_14, up3_ne (fun z => absurd z.1 (by decide)), ei_9, clamp_eq (show (x_6 : Int32).toInt = (iv 90 0 6).toInt by omega), up3_k, ei_4, up3_ne (fun z => absurd z.1 (by decide))], by rw [ei_36, up3_ne (fun z => absurd z.1 (by decide)), ei_29, up3_ne (fun z => absurd z.1 (by decide)), ei_24, up3_ne (fun z => absurd z.1 (by decide)), ei_19, up3_ne (fun z => absurd z.1 (by decide)), ei_14, clamp_eq (show (x_11 : Int32).toInt = (iv 90 0 6).toInt by omega), up3_k, ei_9, up3_ne (fun z => absurd z.1 (by decide)), ei_4, up3_ne (fun z => absurd z.1 (by decide))], by rw [ei_36, up3_ne (fun z => absurd z.1 (by decide)), ei_29, up3_ne (fun z => absurd z.1 (by decide)), ei_24, up3_ne (fun z => absurd z.1 (by decide)), ei_19, clamp_eq (show (x_16 : Int32).toInt = (iv 90 0 6).toInt by omega), up3_k, ei_14, up3_ne (fun z => absurd z.1 (by decide)), ei_9, up3_ne (fun z => absurd z.1 (by decide)), ei_4, up3_ne (fun z => absurd z.1 (by decide))], by rw [ei_36, up3_ne (fun z => absurd z.1 (by decide)), ei_29, up3_ne (fun z => absurd z.1 (by decide)), ei_24, clamp_eq (show (x_21 : Int32).toInt = (iv 90 0 6).toInt by omega), up3_k, ei_19, up3_ne (fun z => absurd z.1 (by decide)), ei_14, up3_ne (fun z => absurd z.1 (by decide)), ei_9, up3_ne (fun z => absurd z.1 (by decide)), ei_4, up3_ne (fun z => absurd z.1 (by decide))], by rw [ei_36, up3_ne (fun z => absurd z.1 (by decide)), ei_29, clamp_eq (show (x_26 : Int32).toInt = (iv 90 0 6).toInt by omega), up3_k, ei_24, up3_ne (fun z => absurd z.1 (by decide)), ei_19, up3_ne (fun z => absurd z.1 (by decide)), ei_14, up3_ne (fun z => absurd z.1 (by decide)), ei_9, up3_ne (fun z => absurd z.1 (by decide)), ei_4, up3_ne (fun z => absurd z.1 (by decide))]⟩⟩⟩) hU hS dX1_add_79
set_option maxHeartbeats 4000000 in
set_option maxRecDepth 100000 in
theorem c_X11_judged_y {l : Launch} {D : va_G} {cA : FieldType → ClassId} {sz : Nat} {al : Al} {iv : Iv} {rv : Rv} (hG : GI al iv rv) (lw : Int32) (cs : Int32) (mm : Int32) (far : Int32) (won : Int32) (cost : Int32) (pre0 : 0 ≤ won.toInt ∧ won.toInt ≤ 1) : Met l yX11_judged (wd yX11_judged cX11_judged 7 (some .int)) (rm 2) (PcW D cA sz al iv rv [.ref (al.2 49 0), .int lw, .int cs, .int mm, .int far, .int won, .int cost]) (QI D cA sz al (fI al ([51, 91, 92, 93, 94, 95, 96], [(90, 6)]) iv rv (fun r iv' rv' => (spJud lw cs mm far cost (iv 90 0 6).toInt = 0 ∧ r.toInt = (iv 90 0 6).toInt ∧ (iv' 90 0 6).toInt = (iv 90 0 6).toInt + 1 ∧ (∀ k : Nat, iv' 91 0 k = (if k = (iv 90 0 6).toNatClampNeg then lw else iv 91 0 k) ∧ iv' 92 0 k = (if k = (iv 90 0 6).toNatClampNeg then cs else iv 92 0 k) ∧ iv' 93 0 k = (if k = (iv 90 0 6).toNatClampNeg then mm else iv 93 0 k) ∧ iv' 94 0 k = (if k = (iv 90 0 6).toNatClampNeg then far else iv 94 0 k) ∧ iv' 95 0 k = (if k = (iv 90 0 6).toNatClampNeg then won else iv 95 0 k) ∧ iv' 96 0 k = (if k = (iv 90 0 6).toNatClampNeg then cost else iv 96 0 k))) ∨ (spJud lw cs mm far cost (iv 90 0 6).toInt ≠ 0 ∧ r = spJud lw cs mm far cost (iv 90 0 6).toInt ∧ iv' 90 0 6 = iv 90 0 6 ∧ (∀ k : Nat, iv' 91 0 k = iv 91 0 k ∧ iv' 92 0 k = iv 92 0 k ∧ iv' 93 0 k = iv 93 0 k ∧ iv' 94 0 k = iv 94 0 k ∧ iv' 95 0 k = iv 95 0 k ∧ iv' 96 0 k = iv 96 0 k))))) 0 0 (Aq sz) := by
  refine mk_i (by decide) (Nat.le_of_ble_eq_true rfl) rfl ?_
  intro p e s m args below meth c ls Q H locs C hU hS hl hret
  have hx := C.1.1
  have hb := C.1.2.1
  have hl : lv_has ls 7 [(0, .ref (al.2 49 0)), (1, .int lw), (2, .int cs), (3, .int mm), (4, .int far), (5, .int won), (6, .int cost)] := hl
  have hG0 := hG
  have hF1 : FR ([51, 91, 92, 93, 94, 95, 96], [(90, 6)]) iv iv := FR.rf
  have hF2 : FR ([51, 91, 92, 93, 94, 95, 96], [(90, 6)]) rv rv := FR.rf
  have km6 : ((-6) : Int32).toInt = -6 := by decide
  have km4 : ((-4) : Int32).toInt = -4 := by decide
  have km1 : ((-1) : Int32).toInt = -1 := by decide
  have k4 : (4 : Int32).toInt = 4 := by decide
  have k6 : (6 : Int32).toInt = 6 := by decide
  have k9999 : (9999 : Int32).toInt = 9999 := by decide
  refine lv_iconst (v := 4) hx hb dX11_judged_0 (by decide) ?_
  refine lv_iload_n hx hb dX11_judged_1 rfl (lv_at hl 1 rfl) ?_
  refine q_pi (q_runS (As := [.int 4, .int lw]) (rest := []) C hU (c_X11_isOneOf  4 lw ) sm_X11_isOneOf ml_X11_85 hl.1 rfl rfl (Nat.le_of_ble_eq_true rfl) dX11_judged_2 rfl rfl ⟨Nat.le_of_ble_eq_true rfl, Nat.le_of_ble_eq_true rfl⟩ ⟨Nat.le_refl _, Nat.le_refl _⟩) hS (fun x_2 H locs hp_1 hU hS => ?_)
  refine b_if_eq (tgt := 17) hx hb dX11_judged_5 (by decide) (fun c_3 => ?_) (fun c_3 => ?_)
  ·
    refine lv_aload_n hx hb dX11_judged_17 rfl (lv_at hl 0 rfl) ?_
    refine lv_iconst (v := (-1)) hx hb dX11_judged_18 (by decide) ?_
    refine q_fi (q_runV (t := 49) (i := 0) (As := [.int (-1)]) (rest := []) C hU (c_X11_refuse hG (-1) (by omega)) vm_X11_refuse ml_X11_77 k_49.1 (hc := rfl) rfl (h1_49 hG) hl.1 rfl rfl (Nat.le_of_ble_eq_true rfl) dX11_judged_19 rfl rfl ⟨Nat.le_of_ble_eq_true rfl, Nat.le_of_ble_eq_true rfl⟩ ⟨Nat.le_refl _, Nat.le_refl _⟩) hS (fun x_9 iv_5 rv_6 H locs hG fa_7 fb_8 hp_4 hU hS => ?_)
    have hF1 := hF1.tr (m := ([51, 91, 92, 93, 94, 95, 96], [(90, 6)])) fa_7 (by decide)
    have hF2 := hF2.tr (m := ([51, 91, 92, 93, 94, 95, 96], [(90, 6)])) fb_8 (by decide)
    exact hret (⟨hG, hF1, hF2, sp_no (z := (-1)) (by unfold spJud; (repeat' split) <;> first | rfl | omega) (by decide) hp_4 (⟨fa_7 90 0 6 (by decide), fun k => ⟨fa_7.arr 91 0 k (by decide), fa_7.arr 92 0 k (by decide), fa_7.arr 93 0 k (by decide), fa_7.arr 94 0 k (by decide), fa_7.arr 95 0 k (by decide), fa_7.arr 96 0 k (by decide)⟩⟩)⟩) hU hS dX11_judged_22
  ·
    refine lv_bipush (v := 6) hx hb dX11_judged_8 (by decide) ?_
    refine lv_iload_n hx hb dX11_judged_10 rfl (lv_at hl 2 rfl) ?_
    refine q_pi (q_runS (As := [.int 6, .int cs]) (rest := []) C hU (c_X11_isOneOf  6 cs ) sm_X11_isOneOf ml_X11_85 hl.1 rfl rfl (Nat.le_of_ble_eq_true rfl) dX11_judged_11 rfl rfl ⟨Nat.le_of_ble_eq_true rfl, Nat.le_of_ble_eq_true rfl⟩ ⟨Nat.le_refl _, Nat.le_refl _⟩) hS (fun x_11 H locs hp_10 hU hS => ?_)
    refine b_if_ne (tgt := 23) hx hb dX11_judged_14 (by decide) (fun c_12 => ?_) (fun c_12 => ?_)
    ·
      refine lv_iload_n hx hb dX11_judged_23 rfl (lv_at hl 3 rfl) ?_
      refine b_if_lt (tgt := 37) hx hb dX11_judged_24 (by decide) (fun c_13 => ?_) (fun c_13 => ?_)
      ·
        refine lv_aload_n hx hb dX11_judged_37 rfl (lv_at hl 0 rfl) ?_
        refine lv_bipush (v := (-4)) hx hb dX11_judged_38 (by decide) ?_
        refine q_fi (q_runV (t := 49) (i := 0) (As := [.int (-4)]) (rest := []) C hU (c_X11_refuse hG (-4) (by omega)) vm_X11_refuse ml_X11_77 k_49.1 (hc := rfl) rfl (h1_49 hG) hl.1 rfl rfl (Nat.le_of_ble_eq_true rfl) dX11_judged_40 rfl rfl ⟨Nat.le_of_ble_eq_true rfl, Nat.le_of_ble_eq_true rfl⟩ ⟨Nat.le_refl _, Nat.le_refl _⟩) hS (fun x_19 iv_15 rv_16 H locs hG fa_17 fb_18 hp_14 hU hS => ?_)
        have hF1 := hF1.tr (m := ([51, 91, 92, 93, 94, 95, 96], [(90, 6)])) fa_17 (by decide)
        have hF2 := hF2.tr (m := ([51, 91, 92, 93, 94, 95, 96], [(90, 6)])) fb_18 (by decide)
        exact hret (⟨hG, hF1, hF2, sp_no (z := (-4)) (by unfold spJud; (repeat' split) <;> first | rfl | omega) (by decide) hp_14 (⟨fa_17 90 0 6 (by decide), fun k => ⟨fa_17.arr 91 0 k (by decide), fa_17.arr 92 0 k (by decide), fa_17.arr 93 0 k (by decide), fa_17.arr 94 0 k (by decide), fa_17.arr 95 0 k (by decide), fa_17.arr 96 0 k (by decide)⟩⟩)⟩) hU hS dX11_judged_43
      ·
        refine lv_iload hx hb dX11_judged_27 (lv_at hl 4 rfl) ?_
        refine b_if_lt (tgt := 37) hx hb dX11_judged_29 (by decide) (fun c_20 => ?_) (fun c_20 => ?_)
        ·
          refine lv_aload_n hx hb dX11_judged_37 rfl (lv_at hl 0 rfl) ?_
          refine lv_bipush (v := (-4)) hx hb dX11_judged_38 (by decide) ?_
          refine q_fi (q_runV (t := 49) (i := 0) (As := [.int (-4)]) (rest := []) C hU (c_X11_refuse hG (-4) (by omega)) vm_X11_refuse ml_X11_77 k_49.1 (hc := rfl) rfl (h1_49 hG) hl.1 rfl rfl (Nat.le_of_ble_eq_true rfl) dX11_judged_40 rfl rfl ⟨Nat.le_of_ble_eq_true rfl, Nat.le_of_ble_eq_true rfl⟩ ⟨Nat.le_refl _, Nat.le_refl _⟩) hS (fun x_26 iv_22 rv_23 H locs hG fa_24 fb_25 hp_21 hU hS => ?_)
          have hF1 := hF1.tr (m := ([51, 91, 92, 93, 94, 95, 96], [(90, 6)])) fa_24 (by decide)
          have hF2 := hF2.tr (m := ([51, 91, 92, 93, 94, 95, 96], [(90, 6)])) fb_25 (by decide)
          exact hret (⟨hG, hF1, hF2, sp_no (z := (-4)) (by unfold spJud; (repeat' split) <;> first | rfl | omega) (by decide) hp_21 (⟨fa_24 90 0 6 (by decide), fun k => ⟨fa_24.arr 91 0 k (by decide), fa_24.arr 92 0 k (by decide), fa_24.arr 93 0 k (by decide), fa_24.arr 94 0 k (by decide), fa_24.arr 95 0 k (by decide), fa_24.arr 96 0 k (by decide)⟩⟩)⟩) hU hS dX11_judged_43
        ·
          refine lv_iload hx hb dX11_judged_32 (lv_at hl 6 rfl) ?_
          refine b_if_ge (tgt := 44) hx hb dX11_judged_34 (by decide) (fun c_27 => ?_) (fun c_27 => ?_)
          ·
            refine lv_iload_n hx hb dX11_judged_44 rfl (lv_at hl 3 rfl) ?_
            refine lv_sipush (v := 9999) hx hb dX11_judged_45 (by decide) ?_
            refine b_icmp_gt (tgt := 77) hx hb dX11_judged_48 (by decide) (fun c_28 => ?_) (fun c_28 => ?_)
            ·
              refine lv_aload_n hx hb dX11_judged_77 rfl (lv_at hl 0 rfl) ?_
              refine lv_bipush (v := (-6)) hx hb dX11_judged_78 (by decide) ?_
              refine q_fi (q_runV (t := 49) (i := 0) (As := [.int (-6)]) (rest := []) C hU (c_X11_refuse hG (-6) (by omega)) vm_X11_refuse ml_X11_77 k_49.1 (hc := rfl) rfl (h1_49 hG) hl.1 rfl rfl (Nat.le_of_ble_eq_true rfl) dX11_judged_80 rfl rfl ⟨Nat.le_of_ble_eq_true rfl, Nat.le_of_ble_eq_true rfl⟩ ⟨Nat.le_refl _, Nat.le_refl _⟩) hS (fun x_34 iv_30 rv_31 H locs hG fa_32 fb_33 hp_29 hU hS => ?_)
              have hF1 := hF1.tr (m := ([51, 91, 92, 93, 94, 95, 96], [(90, 6)])) fa_32 (by decide)
              have hF2 := hF2.tr (m := ([51, 91, 92, 93, 94, 95, 96], [(90, 6)])) fb_33 (by decide)
              exact hret (⟨hG, hF1, hF2, sp_no (z := (-6)) (by unfold spJud; (repeat' split) <;> first | rfl | omega) (by decide) hp_29 (⟨fa_32 90 0 6 (by decide), fun k => ⟨fa_32.arr 91 0 k (by decide), fa_32.arr 92 0 k (by decide), fa_32.arr 93 0 k (by decide), fa_32.arr 94 0 k (by decide), fa_32.arr 95 0 k (by decide), fa_32.arr 96 0 k (by decide)⟩⟩)⟩) hU hS dX11_judged_83
            ·
              refine lv_iload hx hb dX11_judged_51 (lv_at hl 4 rfl) ?_
              refine lv_sipush (v := 9999) hx hb dX11_judged_53 (by decide) ?_
              refine b_icmp_gt (tgt := 77) hx hb dX11_judged_56 (by decide) (fun c_35 => ?_) (fun c_35 => ?_)
              ·
                refine lv_aload_n hx hb dX11_judged_77 rfl (lv_at hl 0 rfl) ?_
                refine lv_bipush (v := (-6)) hx hb dX11_judged_78 (by decide) ?_
                refine q_fi (q_runV (t := 49) (i := 0) (As := [.int (-6)]) (rest := []) C hU (c_X11_refuse hG (-6) (by omega)) vm_X11_refuse ml_X11_77 k_49.1 (hc := rfl) rfl (h1_49 hG) hl.1 rfl rfl (Nat.le_of_ble_eq_true rfl) dX11_judged_80 rfl rfl ⟨Nat.le_of_ble_eq_true rfl, Nat.le_of_ble_eq_true rfl⟩ ⟨Nat.le_refl _, Nat.le_refl _⟩) hS (fun x_41 iv_37 rv_38 H locs hG fa_39 fb_40 hp_36 hU hS => ?_)
                have hF1 := hF1.tr (m := ([51, 91, 92, 93, 94, 95, 96], [(90, 6)])) fa_39 (by decide)
                have hF2 := hF2.tr (m := ([51, 91, 92, 93, 94, 95, 96], [(90, 6)])) fb_40 (by decide)
                exact hret (⟨hG, hF1, hF2, sp_no (z := (-6)) (by unfold spJud; (repeat' split) <;> first | rfl | omega) (by decide) hp_36 (⟨fa_39 90 0 6 (by decide), fun k => ⟨fa_39.arr 91 0 k (by decide), fa_39.arr 92 0 k (by decide), fa_39.arr 93 0 k (by decide), fa_39.arr 94 0 k (by decide), fa_39.arr 95 0 k (by decide), fa_39.arr 96 0 k (by decide)⟩⟩)⟩) hU hS dX11_judged_83
              ·
                refine lv_iload hx hb dX11_judged_59 (lv_at hl 6 rfl) ?_
                refine lv_sipush (v := 9999) hx hb dX11_judged_61 (by decide) ?_
                refine b_icmp_gt (tgt := 77) hx hb dX11_judged_64 (by decide) (fun c_42 => ?_) (fun c_42 => ?_)
                ·
                  refine lv_aload_n hx hb dX11_judged_77 rfl (lv_at hl 0 rfl) ?_
                  refine lv_bipush (v := (-6)) hx hb dX11_judged_78 (by decide) ?_
                  refine q_fi (q_runV (t := 49) (i := 0) (As := [.int (-6)]) (rest := []) C hU (c_X11_refuse hG (-6) (by omega)) vm_X11_refuse ml_X11_77 k_49.1 (hc := rfl) rfl (h1_49 hG) hl.1 rfl rfl (Nat.le_of_ble_eq_true rfl) dX11_judged_80 rfl rfl ⟨Nat.le_of_ble_eq_true rfl, Nat.le_of_ble_eq_true rfl⟩ ⟨Nat.le_refl _, Nat.le_refl _⟩) hS (fun x_48 iv_44 rv_45 H locs hG fa_46 fb_47 hp_43 hU hS => ?_)
                  have hF1 := hF1.tr (m := ([51, 91, 92, 93, 94, 95, 96], [(90, 6)])) fa_46 (by decide)
                  have hF2 := hF2.tr (m := ([51, 91, 92, 93, 94, 95, 96], [(90, 6)])) fb_47 (by decide)
                  exact hret (⟨hG, hF1, hF2, sp_no (z := (-6)) (by unfold spJud; (repeat' split) <;> first | rfl | omega) (by decide) hp_43 (⟨fa_46 90 0 6 (by decide), fun k => ⟨fa_46.arr 91 0 k (by decide), fa_46.arr 92 0 k (by decide), fa_46.arr 93 0 k (by decide), fa_46.arr 94 0 k (by decide), fa_46.arr 95 0 k (by decide), fa_46.arr 96 0 k (by decide)⟩⟩)⟩) hU hS dX11_judged_83
                ·
                  refine lv_aload_n hx hb dX11_judged_67 rfl (lv_at hl 0 rfl) ?_
                  refine g_49_6 C hU hG (h1_49 hG) fl_X11_54 dX11_judged_68 ?_
                  refine q_pi (q_runV (t := 90) (i := 0) (As := []) (rest := []) C hU (c_X1_isFull hG  ) vm_X1_isFull ml_X11_304 k_90.1 (hc := rfl) rfl (h1_90 hG) hl.1 rfl rfl (Nat.le_of_ble_eq_true rfl) dX11_judged_71 rfl rfl ⟨Nat.le_of_ble_eq_true rfl, Nat.le_of_ble_eq_true rfl⟩ ⟨Nat.le_refl _, Nat.le_refl _⟩) hS (fun x_50 H locs hp_49 hU hS => ?_)
                  refine b_if_eq (tgt := 84) hx hb dX11_judged_74 (by decide) (fun c_51 => ?_) (fun c_51 => ?_)
                  ·
                    refine lv_aload_n hx hb dX11_judged_84 rfl (lv_at hl 0 rfl) ?_
                    refine g_49_6 C hU hG (h1_49 hG) fl_X11_54 dX11_judged_85 ?_
                    refine lv_iload_n hx hb dX11_judged_88 rfl (lv_at hl 1 rfl) ?_
                    refine lv_iload_n hx hb dX11_judged_89 rfl (lv_at hl 2 rfl) ?_
                    refine lv_iload_n hx hb dX11_judged_90 rfl (lv_at hl 3 rfl) ?_
                    refine lv_iload hx hb dX11_judged_91 (lv_at hl 4 rfl) ?_
                    refine lv_iload hx hb dX11_judged_93 (lv_at hl 5 rfl) ?_
                    refine lv_iload hx hb dX11_judged_95 (lv_at hl 6 rfl) ?_
                    refine q_fi (q_runV (t := 90) (i := 0) (As := [.int lw, .int cs, .int mm, .int far, .int won, .int cost]) (rest := []) C hU (c_X1_add_y hG lw cs mm far won cost (by omega) (by omega) (by omega) (by omega) (by omega) (by omega) (by omega)) vm_X1_add ml_X11_305 k_90.1 (hc := rfl) rfl (h1_90 hG) hl.1 rfl rfl (Nat.le_of_ble_eq_true rfl) dX11_judged_97 rfl rfl ⟨Nat.le_of_ble_eq_true rfl, Nat.le_of_ble_eq_true rfl⟩ ⟨Nat.le_refl _, Nat.le_refl _⟩) hS (fun x_57 iv_53 rv_54 H locs hG fa_55 fb_56 hp_52 hU hS => ?_)
                    have hF1 := hF1.tr (m := ([51, 91, 92, 93, 94, 95, 96], [(90, 6)])) fa_55 (by decide)
                    have hF2 := hF2.tr (m := ([51, 91, 92, 93, 94, 95, 96], [(90, 6)])) fb_56 (by decide)
                    exact hret (⟨hG, hF1, hF2, Or.inl ⟨(by unfold spJud; (repeat' split) <;> first | rfl | omega), hp_52.1, hp_52.2.1, hp_52.2.2⟩⟩) hU hS dX11_judged_100
                  ·
                    refine lv_aload_n hx hb dX11_judged_77 rfl (lv_at hl 0 rfl) ?_
                    refine lv_bipush (v := (-6)) hx hb dX11_judged_78 (by decide) ?_
                    refine q_fi (q_runV (t := 49) (i := 0) (As := [.int (-6)]) (rest := []) C hU (c_X11_refuse hG (-6) (by omega)) vm_X11_refuse ml_X11_77 k_49.1 (hc := rfl) rfl (h1_49 hG) hl.1 rfl rfl (Nat.le_of_ble_eq_true rfl) dX11_judged_80 rfl rfl ⟨Nat.le_of_ble_eq_true rfl, Nat.le_of_ble_eq_true rfl⟩ ⟨Nat.le_refl _, Nat.le_refl _⟩) hS (fun x_63 iv_59 rv_60 H locs hG fa_61 fb_62 hp_58 hU hS => ?_)
                    have hF1 := hF1.tr (m := ([51, 91, 92, 93, 94, 95, 96], [(90, 6)])) fa_61 (by decide)
                    have hF2 := hF2.tr (m := ([51, 91, 92, 93, 94, 95, 96], [(90, 6)])) fb_62 (by decide)
                    exact hret (⟨hG, hF1, hF2, sp_no (z := (-6)) (by unfold spJud; (repeat' split) <;> first | rfl | omega) (by decide) hp_58 (⟨fa_61 90 0 6 (by decide), fun k => ⟨fa_61.arr 91 0 k (by decide), fa_61.arr 92 0 k (by decide), fa_61.arr 93 0 k (by decide), fa_61.arr 94 0 k (by decide), fa_61.arr 95 0 k (by decide), fa_61.arr 96 0 k (by decide)⟩⟩)⟩) hU hS dX11_judged_83
          ·
            refine lv_aload_n hx hb dX11_judged_37 rfl (lv_at hl 0 rfl) ?_
            refine lv_bipush (v := (-4)) hx hb dX11_judged_38 (by decide) ?_
            refine q_fi (q_runV (t := 49) (i := 0) (As := [.int (-4)]) (rest := []) C hU (c_X11_refuse hG (-4) (by omega)) vm_X11_refuse ml_X11_77 k_49.1 (hc := rfl) rfl (h1_49 hG) hl.1 rfl rfl (Nat.le_of_ble_eq_true rfl) dX11_judged_40 rfl rfl ⟨Nat.le_of_ble_eq_true rfl, Nat.le_of_ble_eq_true rfl⟩ ⟨Nat.le_refl _, Nat.le_refl _⟩) hS (fun x_69 iv_65 rv_66 H locs hG fa_67 fb_68 hp_64 hU hS => ?_)
            have hF1 := hF1.tr (m := ([51, 91, 92, 93, 94, 95, 96], [(90, 6)])) fa_67 (by decide)
            have hF2 := hF2.tr (m := ([51, 91, 92, 93, 94, 95, 96], [(90, 6)])) fb_68 (by decide)
            exact hret (⟨hG, hF1, hF2, sp_no (z := (-4)) (by unfold spJud; (repeat' split) <;> first | rfl | omega) (by decide) hp_64 (⟨fa_67 90 0 6 (by decide), fun k => ⟨fa_67.arr 91 0 k (by decide), fa_67.arr 92 0 k (by decide), fa_67.arr 93 0 k (by decide), fa_67.arr 94 0 k (by decide), fa_67.arr 95 0 k (by decide), fa_67.arr 96 0 k (by decide)⟩⟩)⟩) hU hS dX11_judged_43
    ·
      refine lv_aload_n hx hb dX11_judged_17 rfl (lv_at hl 0 rfl) ?_
      refine lv_iconst (v := (-1)) hx hb dX11_judged_18 (by decide) ?_
      refine q_fi (q_runV (t := 49) (i := 0) (As := [.int (-1)]) (rest := []) C hU (c_X11_refuse hG (-1) (by omega)) vm_X11_refuse ml_X11_77 k_49.1 (hc := rfl) rfl (h1_49 hG) hl.1 rfl rfl (Nat.le_of_ble_eq_true rfl) dX11_judged_19 rfl rfl ⟨Nat.le_of_ble_eq_true rfl, Nat.le_of_ble_eq_true rfl⟩ ⟨Nat.le_refl _, Nat.le_refl _⟩) hS (fun x_75 iv_71 rv_72 H locs hG fa_73 fb_74 hp_70 hU hS => ?_)
      have hF1 := hF1.tr (m := ([51, 91, 92, 93, 94, 95, 96], [(90, 6)])) fa_73 (by decide)
      have hF2 := hF2.tr (m := ([51, 91, 92, 93, 94, 95, 96], [(90, 6)])) fb_74 (by decide)
      exact hret (⟨hG, hF1, hF2, sp_no (z := (-1)) (by unfold spJud; (repeat' split) <;> first | rfl | omega) (by decide) hp_70 (⟨fa_73 90 0 6 (by decide), fun k => ⟨fa_73.arr 91 0 k (by decide), fa_73.arr 92 0 k (by decide), fa_73.arr 93 0 k (by decide), fa_73.arr 94 0 k (by decide), fa_73.arr 95 0 k (by decide), fa_73.arr 96 0 k (by decide)⟩⟩)⟩) hU hS dX11_judged_22
set_option maxHeartbeats 4000000 in
set_option maxRecDepth 100000 in
theorem c_X12_hasLaw_x {l : Launch} {D : va_G} {cA : FieldType → ClassId} {sz : Nat} {al : Al} {iv : Iv} {rv : Rv} (hG : GI al iv rv) (lw : Int32) (d : Int32) : Met l yX12_hasLaw (wd yX12_hasLaw cX12_hasLaw 5 (some .boolean)) (rm 0) (PcW D cA sz al iv rv [.ref (al.2 0 0), .int lw, .int d]) (QI D cA sz al (pI iv rv (fun r => (0 ≤ r.toInt ∧ r.toInt ≤ 1) ∧ (r = hlF iv lw d)))) 0 0 (Aq sz) := by
  refine mk_z (by decide) (Nat.le_of_ble_eq_true rfl) rfl ?_
  intro p e s m args below meth c ls Q H locs C hU hS hl hret
  have hx := C.1.1
  have hb := C.1.2.1
  have hl : lv_has ls 5 [(0, .ref (al.2 0 0)), (1, .int lw), (2, .int d)] := hl
  have hG0 := hG
  have h6 := le6 hG
  have h20 := le20 hG
  have h41 := le41 hG
  have l24 := le24 hG
  have k0 : (0 : Int32).toInt = 0 := by decide
  have k1 : (1 : Int32).toInt = 1 := by decide
  refine lv_iconst (v := 0) hx hb dX12_hasLaw_0 (by decide) ?_
  refine lv_istore_n (lv' := [(3, .int 0), (0, .ref (al.2 0 0)), (1, .int lw), (2, .int d)]) hx hb dX12_hasLaw_1 rfl hl (by decide) rfl (fun ls hl => ?_)
  refine lv_iconst (v := 0) hx hb dX12_hasLaw_2 (by decide) ?_
  refine lv_istore (lv' := [(4, .int 0), (3, .int 0), (0, .ref (al.2 0 0)), (1, .int lw), (2, .int d)]) hx hb dX12_hasLaw_3 hl (by decide) rfl (fun ls hl => ?_)
  have J_5 : ∀ (n_5 : Nat) (l3_1 : Int32) (l4_2 : Int32) (ls : Array Slot), lv_has ls 5 [(0, .ref (al.2 0 0)), (1, .int lw), (2, .int d), (3, .int l3_1), (4, .int l4_2)] → (0 ≤ l3_1.toInt ∧ l3_1.toInt ≤ 1) → (0 ≤ l4_2.toInt ∧ l4_2.toInt ≤ 30) → l3_1 = hlN iv lw.toInt d.toInt l4_2.toNatClampNeg → l4_2.toInt ≤ (iv 0 0 24).toInt → (30 - l4_2.toInt).toNat < n_5 → W p l e (rm 0) s m args below meth c H locs 0 0 Q (F0 m 5 ls []) := by
    intro n_5
    induction n_5 with
    | zero =>
      intro l3_1 l4_2 ls hl i5_0 i5_1 i5_2 i5_3 hm_5
      exact absurd hm_5 (Nat.not_lt_zero _)
    | succ n_5 ih_5 =>
      intro l3_1 l4_2 ls hl i5_0 i5_1 i5_2 i5_3 hm_5
      refine lv_iload hx hb dX12_hasLaw_5 (lv_at hl 4 rfl) ?_
      refine lv_aload_n hx hb dX12_hasLaw_7 rfl (lv_at hl 0 rfl) ?_
      refine g_0_24 C hU hG (h1_0 hG) fl_X12_247 dX12_hasLaw_8 (fun x_3 e_4 le_4 ue_4 => ?_)
      have te_4 := congrArg Int32.toInt e_4
      refine b_icmp_ge (tgt := 52) hx hb dX12_hasLaw_11 (by decide) (fun c_5 => ?_) (fun c_5 => ?_)
      ·
        refine lv_iload_n hx hb dX12_hasLaw_52 rfl (lv_at hl 3 rfl) ?_
        exact hret (by omega) (by omega) (⟨rfl, rfl, ⟨⟨by omega, by omega⟩, by unfold hlF; rw [i5_2, clamp_eq (show (l4_2 : Int32).toInt = (iv 0 0 24).toInt by omega)]⟩⟩) hU hS dX12_hasLaw_53
      ·
        refine lv_iload_n hx hb dX12_hasLaw_14 rfl (lv_at hl 3 rfl) ?_
        have J_45 : ∀ (v_6 : Int32) (ls : Array Slot), lv_has ls 5 [(0, .ref (al.2 0 0)), (1, .int lw), (2, .int d), (4, .int l4_2)] → (0 ≤ v_6.toInt ∧ v_6.toInt ≤ 1) → v_6 = hlN iv lw.toInt d.toInt (l4_2.toNatClampNeg + 1) → W p l e (rm 0) s m args below meth c H locs 0 0 Q (F0 m 45 ls [.int v_6]) := by
          intro v_6 ls hl i45_0 i45_1
          refine lv_istore_n (lv' := [(3, .int v_6), (0, .ref (al.2 0 0)), (1, .int lw), (2, .int d), (4, .int l4_2)]) hx hb dX12_hasLaw_45 rfl hl (by decide) rfl (fun ls hl => ?_)
          obtain ⟨x_7, e_8⟩ : ∃ y : Int32, y = l4_2 + 1 := ⟨_, rfl⟩
          have te_8 : x_7.toInt = (l4_2 : Int32).toInt + (1 : Int32).toInt := by rw [e_8]; exact fb_addI (by omega) (by omega)
          refine lv_iinc (v := x_7) (lv' := [(4, .int x_7), (3, .int v_6), (0, .ref (al.2 0 0)), (1, .int lw), (2, .int d)]) hx hb dX12_hasLaw_46 hl (k := 4) rfl (by rw [e_8]; rfl) (by decide) rfl (fun ls hl => ?_)
          refine lv_goto (tgt := 5) hx hb dX12_hasLaw_49 (by decide) ?_
          exact ih_5 v_6 x_7 _ (lv_sub hl [2, 3, 4, 1, 0] rfl) (by omega) (by omega) (by first | exact hl_up (by omega) (by omega) i45_1 | exact hl_0) (by omega) (by omega)
        have J_40 : ∀ (ls : Array Slot), lv_has ls 5 [(0, .ref (al.2 0 0)), (1, .int lw), (2, .int d), (4, .int l4_2)] → ((¬ l3_1.toInt = 0) ∨ ((iv 21 0 l4_2.toNatClampNeg).toInt = lw.toInt ∧ (iv 22 0 l4_2.toNatClampNeg).toInt ≤ d.toInt)) → W p l e (rm 0) s m args below meth c H locs 0 0 Q (F0 m 40 ls []) := by
          intro ls hl i40_0
          refine lv_iconst (v := 1) hx hb dX12_hasLaw_40 (by decide) ?_
          refine lv_goto (tgt := 45) hx hb dX12_hasLaw_41 (by decide) ?_
          exact J_45 1 _ (lv_sub hl [0, 1, 2, 3] rfl) (by omega) (by first | exact hl_y i5_2 i40_0 | exact hl_n i5_2 True.intro)
        refine b_if_ne (tgt := 40) hx hb dX12_hasLaw_15 (by decide) (fun c_9 => ?_) (fun c_9 => ?_)
        ·
          exact J_40 _ (lv_sub hl [0, 1, 2, 4] rfl) (by omega)
        ·
          refine lv_aload_n hx hb dX12_hasLaw_18 rfl (lv_at hl 0 rfl) ?_
          refine g_0_25 C hU hG (h1_0 hG) fl_X12_71 dX12_hasLaw_19 ?_
          refine lv_iload hx hb dX12_hasLaw_22 (lv_at hl 4 rfl) ?_
          refine a_21 C hU hG (h1_21 hG) (x := l4_2) (by omega) (by omega) dX12_hasLaw_24 (fun x_10 e_11 le_11 ue_11 => ?_)
          have te_11 := congrArg Int32.toInt e_11
          refine lv_iload_n hx hb dX12_hasLaw_25 rfl (lv_at hl 1 rfl) ?_
          have J_44 : ∀ (ls : Array Slot), lv_has ls 5 [(0, .ref (al.2 0 0)), (1, .int lw), (2, .int d), (4, .int l4_2)] → (¬ ((¬ l3_1.toInt = 0) ∨ ((iv 21 0 l4_2.toNatClampNeg).toInt = lw.toInt ∧ (iv 22 0 l4_2.toNatClampNeg).toInt ≤ d.toInt))) → W p l e (rm 0) s m args below meth c H locs 0 0 Q (F0 m 44 ls []) := by
            intro ls hl i44_0
            refine lv_iconst (v := 0) hx hb dX12_hasLaw_44 (by decide) ?_
            exact J_45 0 _ (lv_sub hl [0, 1, 2, 3] rfl) (by omega) (by first | exact hl_y i5_2 i40_0 | exact hl_n i5_2 i44_0)
          refine b_icmp_ne (tgt := 44) hx hb dX12_hasLaw_26 (by decide) (fun c_12 => ?_) (fun c_12 => ?_)
          ·
            exact J_44 _ (lv_sub hl [0, 1, 2, 4] rfl) (by omega)
          ·
            refine lv_aload_n hx hb dX12_hasLaw_29 rfl (lv_at hl 0 rfl) ?_
            refine g_0_26 C hU hG (h1_0 hG) fl_X12_74 dX12_hasLaw_30 ?_
            refine lv_iload hx hb dX12_hasLaw_33 (lv_at hl 4 rfl) ?_
            refine a_22 C hU hG (h1_22 hG) (x := l4_2) (by omega) (by omega) dX12_hasLaw_35 (fun x_13 e_14 le_14 ue_14 => ?_)
            have te_14 := congrArg Int32.toInt e_14
            refine lv_iload_n hx hb dX12_hasLaw_36 rfl (lv_at hl 2 rfl) ?_
            refine b_icmp_gt (tgt := 44) hx hb dX12_hasLaw_37 (by decide) (fun c_15 => ?_) (fun c_15 => ?_)
            ·
              exact J_44 _ (lv_sub hl [0, 1, 2, 4] rfl) (by omega)
            ·
              exact J_40 _ (lv_sub hl [0, 1, 2, 4] rfl) (by omega)
  exact J_5 _ 0 0 _ (lv_sub hl [2, 3, 4, 1, 0] rfl) (by omega) (by omega) (by first | exact hl_up (by omega) (by omega) i45_1 | exact hl_0) (by omega) (Nat.lt_succ_self _)
set_option maxHeartbeats 4000000 in
set_option maxRecDepth 100000 in
theorem c_X12_lawOf_x {l : Launch} {D : va_G} {cA : FieldType → ClassId} {sz : Nat} {al : Al} {iv : Iv} {rv : Rv} (hG : GI al iv rv) (tt : Int32) (d : Int32) (pre0 : 0 ≤ tt.toInt ∧ tt.toInt < (iv 0 0 20).toInt) : Met l yX12_lawOf (wd yX12_lawOf cX12_lawOf 5 (some .int)) (rm 1) (PcW D cA sz al iv rv [.ref (al.2 0 0), .int tt, .int d]) (QI D cA sz al (pI iv rv (fun r => (-9 ≤ r.toInt ∧ r.toInt ≤ 3) ∧ (r = lwF iv tt.toNatClampNeg d ∧ (r.toInt = -9 ∨ 0 ≤ r.toInt))))) 0 0 (Aq sz) := by
  refine mk_i (by decide) (Nat.le_of_ble_eq_true rfl) rfl ?_
  intro p e s m args below meth c ls Q H locs C hU hS hl hret
  have hx := C.1.1
  have hb := C.1.2.1
  have hl : lv_has ls 5 [(0, .ref (al.2 0 0)), (1, .int tt), (2, .int d)] := hl
  have hG0 := hG
  have h6 := le6 hG
  have h20 := le20 hG
  have h41 := le41 hG
  have h20 := le20 hG
  have km9 : ((-9) : Int32).toInt = -9 := by decide
  refine lv_aload_n hx hb dX12_lawOf_0 rfl (lv_at hl 0 rfl) ?_
  refine g_0_1 C hU hG (h1_0 hG) fl_X12_7 dX12_lawOf_1 ?_
  refine lv_aload_n hx hb dX12_lawOf_4 rfl (lv_at hl 0 rfl) ?_
  refine g_0_7 C hU hG (h1_0 hG) fl_X12_22 dX12_lawOf_5 ?_
  refine lv_aload_n hx hb dX12_lawOf_8 rfl (lv_at hl 0 rfl) ?_
  refine lv_iload_n hx hb dX12_lawOf_9 rfl (lv_at hl 1 rfl) ?_
  refine q_pi (q_runV (t := 0) (i := 0) (As := [.int tt]) (rest := [.ref (al.2 5 0), .ref (al.2 1 0)]) C hU (c_X12_firstLeg_x hG tt (by omega)) vm_X12_firstLeg ml_X12_253 k_0.1 (hc := rfl) rfl (h1_0 hG) hl.1 rfl rfl (Nat.le_of_ble_eq_true rfl) dX12_lawOf_10 rfl rfl ⟨Nat.le_of_ble_eq_true rfl, Nat.le_of_ble_eq_true rfl⟩ ⟨Nat.le_refl _, Nat.le_refl _⟩) hS (fun x_2 H locs hp_1 hU hS => ?_)
  refine a_5 C hU hG (h1_5 hG) (x := x_2) (by omega) (by omega) dX12_lawOf_13 (fun x_3 e_4 le_4 ue_4 => ?_)
  have te_4 := congrArg Int32.toInt e_4
  have h13 := e_4
  rw [hp_1.2] at h13
  refine a_1 C hU hG (h1_1 hG) (x := x_3) (by omega) (by omega) dX12_lawOf_14 (fun x_5 e_6 le_6 ue_6 => ?_)
  have te_6 := congrArg Int32.toInt e_6
  have h14 := e_6
  rw [h13] at h14
  refine lv_istore_n (lv' := [(3, .int x_5), (0, .ref (al.2 0 0)), (1, .int tt), (2, .int d)]) hx hb dX12_lawOf_15 rfl hl (by decide) rfl (fun ls hl => ?_)
  refine lv_aload_n hx hb dX12_lawOf_16 rfl (lv_at hl 1 rfl) ?_
  refine g_0_1 C hU hG (h1_0 hG) fl_X12_7 dX12_lawOf_17 ?_
  refine lv_aload_n hx hb dX12_lawOf_20 rfl (lv_at hl 1 rfl) ?_
  refine g_0_8 C hU hG (h1_0 hG) fl_X12_25 dX12_lawOf_21 ?_
  refine lv_aload_n hx hb dX12_lawOf_24 rfl (lv_at hl 1 rfl) ?_
  refine lv_iload_n hx hb dX12_lawOf_25 rfl (lv_at hl 2 rfl) ?_
  refine q_pi (q_runV (t := 0) (i := 0) (As := [.int tt]) (rest := [.ref (al.2 6 0), .ref (al.2 1 0)]) C hU (c_X12_lastLeg_x hG tt (by omega)) vm_X12_lastLeg ml_X12_232 k_0.1 (hc := rfl) rfl (h1_0 hG) hl.1 rfl rfl (Nat.le_of_ble_eq_true rfl) dX12_lawOf_26 rfl rfl ⟨Nat.le_of_ble_eq_true rfl, Nat.le_of_ble_eq_true rfl⟩ ⟨Nat.le_refl _, Nat.le_refl _⟩) hS (fun x_8 H locs hp_7 hU hS => ?_)
  refine a_6 C hU hG (h1_6 hG) (x := x_8) (by omega) (by omega) dX12_lawOf_29 (fun x_9 e_10 le_10 ue_10 => ?_)
  have te_10 := congrArg Int32.toInt e_10
  have h29 := e_10
  rw [hp_7.2] at h29
  refine a_1 C hU hG (h1_1 hG) (x := x_9) (by omega) (by omega) dX12_lawOf_30 (fun x_11 e_12 le_12 ue_12 => ?_)
  have te_12 := congrArg Int32.toInt e_12
  have h30 := e_12
  rw [h29] at h30
  refine lv_istore (lv' := [(4, .int x_11), (3, .int x_5), (0, .ref (al.2 0 0)), (1, .int tt), (2, .int d)]) hx hb dX12_lawOf_31 hl (by decide) rfl (fun ls hl => ?_)
  refine lv_aload_n hx hb dX12_lawOf_33 rfl (lv_at hl 2 rfl) ?_
  refine lv_iload_n hx hb dX12_lawOf_34 rfl (lv_at hl 1 rfl) ?_
  refine lv_iload_n hx hb dX12_lawOf_35 rfl (lv_at hl 4 rfl) ?_
  refine q_pi (q_runV (t := 0) (i := 0) (As := [.int x_5, .int d]) (rest := []) C hU (c_X12_hasLaw_x hG x_5 d ) vm_X12_hasLaw ml_X12_256 k_0.1 (hc := rfl) rfl (h1_0 hG) hl.1 rfl rfl (Nat.le_of_ble_eq_true rfl) dX12_lawOf_36 rfl rfl ⟨Nat.le_of_ble_eq_true rfl, Nat.le_of_ble_eq_true rfl⟩ ⟨Nat.le_refl _, Nat.le_refl _⟩) hS (fun x_14 H locs hp_13 hU hS => ?_)
  have h36 := hp_13.2
  have t36 := congrArg Int32.toInt h36
  rw [h14] at t36
  refine b_if_eq (tgt := 46) hx hb dX12_lawOf_39 (by decide) (fun c_15 => ?_) (fun c_15 => ?_)
  ·
    refine lv_aload_n hx hb dX12_lawOf_46 rfl (lv_at hl 2 rfl) ?_
    refine lv_iload hx hb dX12_lawOf_47 (lv_at hl 0 rfl) ?_
    refine lv_iload_n hx hb dX12_lawOf_49 rfl (lv_at hl 4 rfl) ?_
    refine q_pi (q_runV (t := 0) (i := 0) (As := [.int x_11, .int d]) (rest := []) C hU (c_X12_hasLaw_x hG x_11 d ) vm_X12_hasLaw ml_X12_256 k_0.1 (hc := rfl) rfl (h1_0 hG) hl.1 rfl rfl (Nat.le_of_ble_eq_true rfl) dX12_lawOf_50 rfl rfl ⟨Nat.le_of_ble_eq_true rfl, Nat.le_of_ble_eq_true rfl⟩ ⟨Nat.le_refl _, Nat.le_refl _⟩) hS (fun x_17 H locs hp_16 hU hS => ?_)
    have h50 := hp_16.2
    have t50 := congrArg Int32.toInt h50
    rw [h30] at t50
    refine b_if_eq (tgt := 61) hx hb dX12_lawOf_53 (by decide) (fun c_18 => ?_) (fun c_18 => ?_)
    ·
      refine lv_bipush (v := (-9)) hx hb dX12_lawOf_61 (by decide) ?_
      exact hret (⟨rfl, rfl, ⟨⟨by omega, by omega⟩, ⟨by unfold lwF; first | (rw [if_neg (by omega), if_neg (by omega)]; done) | (rw [if_neg (by omega), if_pos (by omega)]; exact h30) | (rw [if_pos (by omega)]; exact h14), by omega⟩⟩⟩) hU hS dX12_lawOf_63
    ·
      refine lv_iload hx hb dX12_lawOf_56 (lv_at hl 0 rfl) ?_
      refine lv_goto (tgt := 63) hx hb dX12_lawOf_58 (by decide) ?_
      exact hret (⟨rfl, rfl, ⟨⟨by omega, by omega⟩, ⟨by unfold lwF; first | (rw [if_neg (by omega), if_neg (by omega)]; done) | (rw [if_neg (by omega), if_pos (by omega)]; exact h30) | (rw [if_pos (by omega)]; exact h14), by omega⟩⟩⟩) hU hS dX12_lawOf_63
  ·
    refine lv_iload_n hx hb dX12_lawOf_42 rfl (lv_at hl 1 rfl) ?_
    refine lv_goto (tgt := 63) hx hb dX12_lawOf_43 (by decide) ?_
    exact hret (⟨rfl, rfl, ⟨⟨by omega, by omega⟩, ⟨by unfold lwF; first | (rw [if_neg (by omega), if_neg (by omega)]; done) | (rw [if_neg (by omega), if_pos (by omega)]; exact h30) | (rw [if_pos (by omega)]; exact h14), by omega⟩⟩⟩) hU hS dX12_lawOf_63
set_option maxHeartbeats 4000000 in
set_option maxRecDepth 100000 in
theorem c_X12_milesOf_x {l : Launch} {D : va_G} {cA : FieldType → ClassId} {sz : Nat} {al : Al} {iv : Iv} {rv : Rv} (hG : GI al iv rv) (tt : Int32) (pre0 : 0 ≤ tt.toInt ∧ tt.toInt < (iv 0 0 20).toInt) : Met l yX12_milesOf (wd yX12_milesOf cX12_milesOf 2 (some .int)) (rm 1) (PcW D cA sz al iv rv [.ref (al.2 0 0), .int tt]) (QI D cA sz al (pI iv rv (fun r => r = miF iv tt.toNatClampNeg))) 0 0 (Aq sz) := by
  refine mk_i (by decide) (Nat.le_of_ble_eq_true rfl) rfl ?_
  intro p e s m args below meth c ls Q H locs C hU hS hl hret
  have hx := C.1.1
  have hb := C.1.2.1
  have hl : lv_has ls 2 [(0, .ref (al.2 0 0)), (1, .int tt)] := hl
  have hG0 := hG
  have h6 := le6 hG
  have h20 := le20 hG
  have h41 := le41 hG
  have h20 := le20 hG
  have k10 : (10 : Int32).toInt = 10 := by decide
  refine lv_aload_n hx hb dX12_milesOf_0 rfl (lv_at hl 0 rfl) ?_
  refine g_0_2 C hU hG (h1_0 hG) fl_X12_13 dX12_milesOf_1 ?_
  refine lv_bipush (v := 10) hx hb dX12_milesOf_4 (by decide) ?_
  refine lv_aload_n hx hb dX12_milesOf_6 rfl (lv_at hl 0 rfl) ?_
  refine g_0_7 C hU hG (h1_0 hG) fl_X12_22 dX12_milesOf_7 ?_
  refine lv_aload_n hx hb dX12_milesOf_10 rfl (lv_at hl 0 rfl) ?_
  refine lv_iload_n hx hb dX12_milesOf_11 rfl (lv_at hl 1 rfl) ?_
  refine q_pi (q_runV (t := 0) (i := 0) (As := [.int tt]) (rest := [.ref (al.2 5 0), .int 10, .ref (al.2 2 0)]) C hU (c_X12_firstLeg_x hG tt (by omega)) vm_X12_firstLeg ml_X12_253 k_0.1 (hc := rfl) rfl (h1_0 hG) hl.1 rfl rfl (Nat.le_of_ble_eq_true rfl) dX12_milesOf_12 rfl rfl ⟨Nat.le_of_ble_eq_true rfl, Nat.le_of_ble_eq_true rfl⟩ ⟨Nat.le_refl _, Nat.le_refl _⟩) hS (fun x_2 H locs hp_1 hU hS => ?_)
  refine a_5 C hU hG (h1_5 hG) (x := x_2) (by omega) (by omega) dX12_milesOf_15 (fun x_3 e_4 le_4 ue_4 => ?_)
  have te_4 := congrArg Int32.toInt e_4
  have h15 := e_4
  rw [hp_1.2] at h15
  refine lv_imul hx hb dX12_milesOf_16 ?_
  refine lv_topi (fun x_5 e_6 => ?_)
  have te_6 : x_5.toInt = 10 * (x_3 : Int32).toInt := by rw [e_6, fb_mulI (by rw [show (10 : Int32).toInt = 10 from by decide]; omega) (by rw [show (10 : Int32).toInt = 10 from by decide]; omega), show (10 : Int32).toInt = 10 from by decide]
  refine lv_aload_n hx hb dX12_milesOf_17 rfl (lv_at hl 0 rfl) ?_
  refine g_0_8 C hU hG (h1_0 hG) fl_X12_25 dX12_milesOf_18 ?_
  refine lv_aload_n hx hb dX12_milesOf_21 rfl (lv_at hl 0 rfl) ?_
  refine lv_iload_n hx hb dX12_milesOf_22 rfl (lv_at hl 1 rfl) ?_
  refine q_pi (q_runV (t := 0) (i := 0) (As := [.int tt]) (rest := [.ref (al.2 6 0), .int x_5, .ref (al.2 2 0)]) C hU (c_X12_lastLeg_x hG tt (by omega)) vm_X12_lastLeg ml_X12_232 k_0.1 (hc := rfl) rfl (h1_0 hG) hl.1 rfl rfl (Nat.le_of_ble_eq_true rfl) dX12_milesOf_23 rfl rfl ⟨Nat.le_of_ble_eq_true rfl, Nat.le_of_ble_eq_true rfl⟩ ⟨Nat.le_refl _, Nat.le_refl _⟩) hS (fun x_8 H locs hp_7 hU hS => ?_)
  refine a_6 C hU hG (h1_6 hG) (x := x_8) (by omega) (by omega) dX12_milesOf_26 (fun x_9 e_10 le_10 ue_10 => ?_)
  have te_10 := congrArg Int32.toInt e_10
  have h26 := e_10
  rw [hp_7.2] at h26
  refine lv_iadd hx hb dX12_milesOf_27 ?_
  refine lv_topi (fun x_11 e_12 => ?_)
  have te_12 : x_11.toInt = (x_5 : Int32).toInt + (x_9 : Int32).toInt := by rw [e_12]; exact fb_addI (by omega) (by omega)
  refine a_2 C hU hG (h1_2 hG) (x := x_11) (by omega) (by omega) dX12_milesOf_28 (fun x_13 e_14 => ?_)
  have te_14 := congrArg Int32.toInt e_14
  exact hret (⟨rfl, rfl, mi_ok e_14 h15 h26 (by omega) (by omega)⟩) hU hS dX12_milesOf_29
set_option maxHeartbeats 4000000 in
set_option maxRecDepth 100000 in
theorem c_X12_isExcused_x {l : Launch} {D : va_G} {cA : FieldType → ClassId} {sz : Nat} {al : Al} {iv : Iv} {rv : Rv} (hG : GI al iv rv) (tt : Int32) (d : Int32) (pre0 : 0 ≤ tt.toInt ∧ tt.toInt < (iv 0 0 20).toInt) (pre1 : BT iv rv) : Met l yX12_isExcused (wd yX12_isExcused cX12_isExcused 9 (some .boolean)) (rm 8) (PcW D cA sz al iv rv [.ref (al.2 0 0), .int tt, .int d]) (QI D cA sz al (fI al ([17], []) iv rv (fun r iv' rv' => (0 ≤ r.toInt ∧ r.toInt ≤ 1) ∧ (r = exF iv tt.toNatClampNeg d)))) 0 0 (Aq sz) := by
  refine mk_z (by decide) (Nat.le_of_ble_eq_true rfl) rfl ?_
  intro p e s m args below meth c ls Q H locs C hU hS hl hret
  have hx := C.1.1
  have hb := C.1.2.1
  have hl : lv_has ls 9 [(0, .ref (al.2 0 0)), (1, .int tt), (2, .int d)] := hl
  have hG0 := hG
  have h6 := le6 hG
  have h20 := le20 hG
  have h41 := le41 hG
  have h20 := le20 hG
  have l30 := le30 hG
  have hF1 : FR ([17], []) iv iv := FR.rf
  have hF2 : FR ([17], []) rv rv := FR.rf
  have k0 : (0 : Int32).toInt = 0 := by decide
  have k1 : (1 : Int32).toInt = 1 := by decide
  have k1440 : (1440 : Int32).toInt = 1440 := by decide
  refine lv_aload_n hx hb dX12_isExcused_0 rfl (lv_at hl 0 rfl) ?_
  refine lv_iload_n hx hb dX12_isExcused_1 rfl (lv_at hl 1 rfl) ?_
  refine lv_iload_n hx hb dX12_isExcused_2 rfl (lv_at hl 2 rfl) ?_
  refine q_pi (q_runV (t := 0) (i := 0) (As := [.int tt, .int d]) (rest := []) C hU (c_X12_lawOf_x hG tt d (by omega)) vm_X12_lawOf ml_X12_260 k_0.1 (hc := rfl) rfl (h1_0 hG) hl.1 rfl rfl (Nat.le_of_ble_eq_true rfl) dX12_isExcused_3 rfl rfl ⟨Nat.le_of_ble_eq_true rfl, Nat.le_of_ble_eq_true rfl⟩ ⟨Nat.le_refl _, Nat.le_refl _⟩) hS (fun x_2 H locs hp_1 hU hS => ?_)
  refine lv_istore_n (lv' := [(3, .int x_2), (0, .ref (al.2 0 0)), (1, .int tt), (2, .int d)]) hx hb dX12_isExcused_6 rfl hl (by decide) rfl (fun ls hl => ?_)
  refine lv_aload_n hx hb dX12_isExcused_7 rfl (lv_at hl 1 rfl) ?_
  refine lv_iload_n hx hb dX12_isExcused_8 rfl (lv_at hl 2 rfl) ?_
  refine q_fi (q_runV (t := 0) (i := 0) (As := [.int tt]) (rest := []) C hU (c_X12_blameOf_x hG tt (by omega) (pre1)) vm_X12_blameOf ml_X12_241 k_0.1 (hc := rfl) rfl (h1_0 hG) hl.1 rfl rfl (Nat.le_of_ble_eq_true rfl) dX12_isExcused_9 rfl rfl ⟨Nat.le_of_ble_eq_true rfl, Nat.le_of_ble_eq_true rfl⟩ ⟨Nat.le_refl _, Nat.le_refl _⟩) hS (fun x_8 iv_4 rv_5 H locs hG fa_6 fb_7 hp_3 hU hS => ?_)
  have hF1 := hF1.tr (m := ([17], [])) fa_6 (by decide)
  have hF2 := hF2.tr (m := ([17], [])) fb_7 (by decide)
  have kf_9 := congrArg Int32.toInt (hF1 0 0 20 (by decide))
  refine lv_istore (lv' := [(4, .int x_8), (3, .int x_2), (0, .ref (al.2 0 0)), (1, .int tt), (2, .int d)]) hx hb dX12_isExcused_12 hl (by decide) rfl (fun ls hl => ?_)
  refine lv_aload_n hx hb dX12_isExcused_14 rfl (lv_at hl 2 rfl) ?_
  refine g_0_11 C hU hG (h1_0 hG) fl_X12_34 dX12_isExcused_15 ?_
  refine lv_aload_n hx hb dX12_isExcused_18 rfl (lv_at hl 2 rfl) ?_
  refine lv_iload_n hx hb dX12_isExcused_19 rfl (lv_at hl 3 rfl) ?_
  refine q_pi (q_runV (t := 0) (i := 0) (As := [.int tt]) (rest := [.ref (al.2 9 0)]) C hU (c_X12_firstLeg_x hG tt (by omega)) vm_X12_firstLeg ml_X12_253 k_0.1 (hc := rfl) rfl (h1_0 hG) hl.1 rfl rfl (Nat.le_of_ble_eq_true rfl) dX12_isExcused_20 rfl rfl ⟨Nat.le_of_ble_eq_true rfl, Nat.le_of_ble_eq_true rfl⟩ ⟨Nat.le_refl _, Nat.le_refl _⟩) hS (fun x_11 H locs hp_10 hU hS => ?_)
  refine a_9 C hU hG (h1_9 hG) (x := x_11) (by omega) (by omega) dX12_isExcused_23 (fun x_12 e_13 le_13 ue_13 => ?_)
  have te_13 := congrArg Int32.toInt e_13
  have ne_13 : x_12.toInt = (iv 9 0 (x_11 : Int32).toNatClampNeg).toInt := by rw [e_13, hF1.arr 9 0 (x_11 : Int32).toNatClampNeg (by decide)]
  have h23 := e_13
  rw [hp_10.2, rwL_17 (fr17 hF1), fr17 hF1 9 0 _ (by decide)] at h23
  refine lv_sipush (v := 1440) hx hb dX12_isExcused_24 (by decide) ?_
  refine lv_idiv hx hb dX12_isExcused_27 (by decide) ?_
  refine lv_topi (fun x_14 e_15 => ?_)
  have te_15 : 0 ≤ x_14.toInt ∧ x_14.toInt ≤ (x_12 : Int32).toInt := by rw [e_15]; exact div_rng (by omega) (by omega)
  have h27 := e_15
  rw [h23] at h27
  refine lv_istore (lv' := [(5, .int x_14), (4, .int x_8), (3, .int x_2), (0, .ref (al.2 0 0)), (1, .int tt), (2, .int d)]) hx hb dX12_isExcused_28 hl (by decide) rfl (fun ls hl => ?_)
  refine lv_iconst (v := 0) hx hb dX12_isExcused_30 (by decide) ?_
  refine lv_istore (lv' := [(6, .int 0), (5, .int x_14), (4, .int x_8), (3, .int x_2), (0, .ref (al.2 0 0)), (1, .int tt), (2, .int d)]) hx hb dX12_isExcused_31 hl (by decide) rfl (fun ls hl => ?_)
  refine lv_iconst (v := 0) hx hb dX12_isExcused_33 (by decide) ?_
  refine lv_istore (lv' := [(7, .int 0), (6, .int 0), (5, .int x_14), (4, .int x_8), (3, .int x_2), (0, .ref (al.2 0 0)), (1, .int tt), (2, .int d)]) hx hb dX12_isExcused_34 hl (by decide) rfl (fun ls hl => ?_)
  have J_36 : ∀ (n_36 : Nat) (l6_16 : Int32) (l7_17 : Int32) (ls : Array Slot), lv_has ls 9 [(0, .ref (al.2 0 0)), (3, .int x_2), (4, .int x_8), (5, .int x_14), (6, .int l6_16), (7, .int l7_17)] → (0 ≤ l6_16.toInt ∧ l6_16.toInt ≤ 1) → (0 ≤ l7_17.toInt ∧ l7_17.toInt ≤ 40) → l6_16 = exN iv x_2.toInt x_8.toInt x_14.toInt l7_17.toNatClampNeg → l7_17.toInt ≤ (iv 0 0 30).toInt → (40 - l7_17.toInt).toNat < n_36 → W p l e (rm 8) s m args below meth c H locs 0 0 Q (F0 m 36 ls []) := by
    intro n_36
    induction n_36 with
    | zero =>
      intro l6_16 l7_17 ls hl i36_0 i36_1 i36_2 i36_3 hm_36
      exact absurd hm_36 (Nat.not_lt_zero _)
    | succ n_36 ih_36 =>
      intro l6_16 l7_17 ls hl i36_0 i36_1 i36_2 i36_3 hm_36
      refine lv_iload hx hb dX12_isExcused_36 (lv_at hl 5 rfl) ?_
      refine lv_aload_n hx hb dX12_isExcused_38 rfl (lv_at hl 0 rfl) ?_
      refine g_0_30 C hU hG (h1_0 hG) fl_X12_250 dX12_isExcused_39 (fun x_18 e_19 le_19 ue_19 => ?_)
      have te_19 := congrArg Int32.toInt e_19
      have ne_19 : x_18.toInt = (iv 0 0 30).toInt := by rw [e_19, hF1 0 0 30 (by decide)]
      refine b_icmp_ge (tgt := 124) hx hb dX12_isExcused_42 (by decide) (fun c_20 => ?_) (fun c_20 => ?_)
      ·
        refine lv_iload hx hb dX12_isExcused_124 (lv_at hl 4 rfl) ?_
        exact hret (by omega) (by omega) (⟨hG, hF1, hF2, ⟨⟨by omega, by omega⟩, by unfold exF; rw [i36_2, clamp_eq (show (l7_17 : Int32).toInt = (iv 0 0 30).toInt by omega), hp_1.2.1, hp_3.2, h27]⟩⟩) hU hS dX12_isExcused_126
      ·
        refine lv_aload_n hx hb dX12_isExcused_45 rfl (lv_at hl 0 rfl) ?_
        refine g_0_31 C hU hG (h1_0 hG) fl_X12_86 dX12_isExcused_46 ?_
        refine lv_iload hx hb dX12_isExcused_49 (lv_at hl 5 rfl) ?_
        refine a_26 C hU hG (h1_26 hG) (x := l7_17) (by omega) (by omega) dX12_isExcused_51 (fun x_21 e_22 le_22 ue_22 => ?_)
        have te_22 := congrArg Int32.toInt e_22
        have ne_22 : x_21.toInt = (iv 26 0 (l7_17 : Int32).toNatClampNeg).toInt := by rw [e_22, hF1.arr 26 0 (l7_17 : Int32).toNatClampNeg (by decide)]
        refine lv_iload_n hx hb dX12_isExcused_52 rfl (lv_at hl 1 rfl) ?_
        have J_97 : ∀ (v_23 : Int32) (ls : Array Slot), lv_has ls 9 [(0, .ref (al.2 0 0)), (3, .int x_2), (4, .int x_8), (5, .int x_14), (6, .int l6_16), (7, .int l7_17)] → (0 ≤ v_23.toInt ∧ v_23.toInt ≤ 1) → ((v_23.toInt = 1 ∧ ((iv 26 0 l7_17.toNatClampNeg).toInt = x_2.toInt ∧ (iv 27 0 l7_17.toNatClampNeg).toInt = x_8.toInt ∧ (iv 29 0 l7_17.toNatClampNeg).toInt ≤ x_14.toInt ∧ (iv 28 0 l7_17.toNatClampNeg).toInt ≤ x_14.toInt)) ∨ (v_23.toInt = 0 ∧ ¬ ((iv 26 0 l7_17.toNatClampNeg).toInt = x_2.toInt ∧ (iv 27 0 l7_17.toNatClampNeg).toInt = x_8.toInt ∧ (iv 29 0 l7_17.toNatClampNeg).toInt ≤ x_14.toInt ∧ (iv 28 0 l7_17.toNatClampNeg).toInt ≤ x_14.toInt))) → W p l e (rm 8) s m args below meth c H locs 0 0 Q (F0 m 97 ls [.int v_23]) := by
          intro v_23 ls hl i97_0 i97_1
          refine lv_istore (lv' := [(8, .int v_23), (0, .ref (al.2 0 0)), (3, .int x_2), (4, .int x_8), (5, .int x_14), (6, .int l6_16), (7, .int l7_17)]) hx hb dX12_isExcused_97 hl (by decide) rfl (fun ls hl => ?_)
          refine lv_iload hx hb dX12_isExcused_99 (lv_at hl 0 rfl) ?_
          have J_116 : ∀ (v_24 : Int32) (ls : Array Slot), lv_has ls 9 [(0, .ref (al.2 0 0)), (3, .int x_2), (4, .int x_8), (5, .int x_14), (7, .int l7_17)] → (0 ≤ v_24.toInt ∧ v_24.toInt ≤ 1) → v_24 = exN iv x_2.toInt x_8.toInt x_14.toInt (l7_17.toNatClampNeg + 1) → W p l e (rm 8) s m args below meth c H locs 0 0 Q (F0 m 116 ls [.int v_24]) := by
            intro v_24 ls hl i116_0 i116_1
            refine lv_istore (lv' := [(6, .int v_24), (0, .ref (al.2 0 0)), (3, .int x_2), (4, .int x_8), (5, .int x_14), (7, .int l7_17)]) hx hb dX12_isExcused_116 hl (by decide) rfl (fun ls hl => ?_)
            obtain ⟨x_25, e_26⟩ : ∃ y : Int32, y = l7_17 + 1 := ⟨_, rfl⟩
            have te_26 : x_25.toInt = (l7_17 : Int32).toInt + (1 : Int32).toInt := by rw [e_26]; exact fb_addI (by omega) (by omega)
            refine lv_iinc (v := x_25) (lv' := [(7, .int x_25), (6, .int v_24), (0, .ref (al.2 0 0)), (3, .int x_2), (4, .int x_8), (5, .int x_14)]) hx hb dX12_isExcused_118 hl (k := 5) rfl (by rw [e_26]; rfl) (by decide) rfl (fun ls hl => ?_)
            refine lv_goto (tgt := 36) hx hb dX12_isExcused_121 (by decide) ?_
            exact ih_36 v_24 x_25 _ (lv_sub hl [2, 3, 4, 5, 1, 0] rfl) (by omega) (by omega) (by first | exact ex_up (by omega) (by omega) i116_1 | exact ex_0) (by omega) (by omega)
          refine b_if_eq (tgt := 114) hx hb dX12_isExcused_101 (by decide) (fun c_27 => ?_) (fun c_27 => ?_)
          ·
            refine lv_iload hx hb dX12_isExcused_114 (lv_at hl 5 rfl) ?_
            exact J_116 l6_16 _ (lv_sub hl [1, 2, 3, 4, 6] rfl) (by omega) (by first | exact ex_y i36_2 i97_1 (by omega) (True.intro.trans (fr17 hF1 30 0 _ (by decide))) | exact ex_n i36_2 i97_1 (by omega))
          ·
            refine lv_aload_n hx hb dX12_isExcused_104 rfl (lv_at hl 1 rfl) ?_
            refine g_0_35 C hU hG (h1_0 hG) fl_X12_98 dX12_isExcused_105 ?_
            refine lv_iload hx hb dX12_isExcused_108 (lv_at hl 6 rfl) ?_
            refine a_30 C hU hG (h1_30 hG) (x := l7_17) (by omega) (by omega) dX12_isExcused_110 (fun x_28 e_29 le_29 ue_29 => ?_)
            have te_29 := congrArg Int32.toInt e_29
            have ne_29 : x_28.toInt = (iv 30 0 (l7_17 : Int32).toNatClampNeg).toInt := by rw [e_29, hF1.arr 30 0 (l7_17 : Int32).toNatClampNeg (by decide)]
            refine lv_goto (tgt := 116) hx hb dX12_isExcused_111 (by decide) ?_
            exact J_116 x_28 _ (lv_sub hl [1, 2, 3, 4, 6] rfl) (by omega) (by first | exact ex_y i36_2 i97_1 (by omega) (e_29.trans (fr17 hF1 30 0 _ (by decide))) | exact ex_n i36_2 i97_1 (by omega))
        have J_96 : ∀ (ls : Array Slot), lv_has ls 9 [(0, .ref (al.2 0 0)), (3, .int x_2), (4, .int x_8), (5, .int x_14), (6, .int l6_16), (7, .int l7_17)] → (¬ ((iv 26 0 l7_17.toNatClampNeg).toInt = x_2.toInt ∧ (iv 27 0 l7_17.toNatClampNeg).toInt = x_8.toInt ∧ (iv 29 0 l7_17.toNatClampNeg).toInt ≤ x_14.toInt ∧ (iv 28 0 l7_17.toNatClampNeg).toInt ≤ x_14.toInt)) → W p l e (rm 8) s m args below meth c H locs 0 0 Q (F0 m 96 ls []) := by
          intro ls hl i96_0
          refine lv_iconst (v := 0) hx hb dX12_isExcused_96 (by decide) ?_
          exact J_97 0 _ (lv_sub hl [0, 1, 2, 3, 4, 5] rfl) (by omega) (by omega)
        refine b_icmp_ne (tgt := 96) hx hb dX12_isExcused_53 (by decide) (fun c_30 => ?_) (fun c_30 => ?_)
        ·
          exact J_96 _ (lv_sub hl [0, 1, 2, 3, 4, 5] rfl) (by omega)
        ·
          refine lv_aload_n hx hb dX12_isExcused_56 rfl (lv_at hl 0 rfl) ?_
          refine g_0_32 C hU hG (h1_0 hG) fl_X12_89 dX12_isExcused_57 ?_
          refine lv_iload hx hb dX12_isExcused_60 (lv_at hl 5 rfl) ?_
          refine a_27 C hU hG (h1_27 hG) (x := l7_17) (by omega) (by omega) dX12_isExcused_62 (fun x_31 e_32 le_32 ue_32 => ?_)
          have te_32 := congrArg Int32.toInt e_32
          have ne_32 : x_31.toInt = (iv 27 0 (l7_17 : Int32).toNatClampNeg).toInt := by rw [e_32, hF1.arr 27 0 (l7_17 : Int32).toNatClampNeg (by decide)]
          refine lv_iload hx hb dX12_isExcused_63 (lv_at hl 2 rfl) ?_
          refine b_icmp_ne (tgt := 96) hx hb dX12_isExcused_65 (by decide) (fun c_33 => ?_) (fun c_33 => ?_)
          ·
            exact J_96 _ (lv_sub hl [0, 1, 2, 3, 4, 5] rfl) (by omega)
          ·
            refine lv_aload_n hx hb dX12_isExcused_68 rfl (lv_at hl 0 rfl) ?_
            refine g_0_34 C hU hG (h1_0 hG) fl_X12_95 dX12_isExcused_69 ?_
            refine lv_iload hx hb dX12_isExcused_72 (lv_at hl 5 rfl) ?_
            refine a_29 C hU hG (h1_29 hG) (x := l7_17) (by omega) (by omega) dX12_isExcused_74 (fun x_34 e_35 le_35 ue_35 => ?_)
            have te_35 := congrArg Int32.toInt e_35
            have ne_35 : x_34.toInt = (iv 29 0 (l7_17 : Int32).toNatClampNeg).toInt := by rw [e_35, hF1.arr 29 0 (l7_17 : Int32).toNatClampNeg (by decide)]
            refine lv_iload hx hb dX12_isExcused_75 (lv_at hl 3 rfl) ?_
            refine b_icmp_gt (tgt := 96) hx hb dX12_isExcused_77 (by decide) (fun c_36 => ?_) (fun c_36 => ?_)
            ·
              exact J_96 _ (lv_sub hl [0, 1, 2, 3, 4, 5] rfl) (by omega)
            ·
              refine lv_aload_n hx hb dX12_isExcused_80 rfl (lv_at hl 0 rfl) ?_
              refine g_0_33 C hU hG (h1_0 hG) fl_X12_92 dX12_isExcused_81 ?_
              refine lv_iload hx hb dX12_isExcused_84 (lv_at hl 5 rfl) ?_
              refine a_28 C hU hG (h1_28 hG) (x := l7_17) (by omega) (by omega) dX12_isExcused_86 (fun x_37 e_38 le_38 ue_38 => ?_)
              have te_38 := congrArg Int32.toInt e_38
              have ne_38 : x_37.toInt = (iv 28 0 (l7_17 : Int32).toNatClampNeg).toInt := by rw [e_38, hF1.arr 28 0 (l7_17 : Int32).toNatClampNeg (by decide)]
              refine lv_iload hx hb dX12_isExcused_87 (lv_at hl 3 rfl) ?_
              refine b_icmp_gt (tgt := 96) hx hb dX12_isExcused_89 (by decide) (fun c_39 => ?_) (fun c_39 => ?_)
              ·
                exact J_96 _ (lv_sub hl [0, 1, 2, 3, 4, 5] rfl) (by omega)
              ·
                refine lv_iconst (v := 1) hx hb dX12_isExcused_92 (by decide) ?_
                refine lv_goto (tgt := 97) hx hb dX12_isExcused_93 (by decide) ?_
                exact J_97 1 _ (lv_sub hl [0, 1, 2, 3, 4, 5] rfl) (by omega) (by omega)
  exact J_36 _ 0 0 _ (lv_sub hl [5, 4, 3, 2, 1, 0] rfl) (by omega) (by omega) (by first | exact ex_up (by omega) (by omega) i116_1 | exact ex_0) (by omega) (Nat.lt_succ_self _)
