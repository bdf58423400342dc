section
set_option maxHeartbeats 4000000 in
set_option maxRecDepth 100000 in
theorem c_X4_addExcuse_y {l : Launch} {D : va_G} {cA : FieldType → ClassId} {sz : Nat} {al : Al} {iv : Iv} {rv : Rv} (hG : GI al iv rv) (a : Int32) (cs : Int32) (d : Int32) (told : Int32) (on : Int32) (pre0 : (iv 68 0 11).toInt < 40) (pre1 : 0 ≤ on.toInt ∧ on.toInt ≤ 1) : Met l yX4_addExcuse (wd yX4_addExcuse cX4_addExcuse 6 (some .int)) (rm 0) (PcW D cA sz al iv rv [.ref (al.2 68 0), .int a, .int cs, .int d, .int told, .int on]) (QI D cA sz al (fI al ([74, 75, 76, 77, 78], [(68, 11)]) iv rv (fun r iv' rv' => r.toInt = (iv 68 0 11).toInt + 1 ∧ (iv' 68 0 11).toInt = (iv 68 0 11).toInt + 1 ∧ (∀ k : Nat, iv' 74 0 k = (if k = (iv 68 0 11).toNatClampNeg then a else iv 74 0 k) ∧ iv' 75 0 k = (if k = (iv 68 0 11).toNatClampNeg then cs else iv 75 0 k) ∧ iv' 76 0 k = (if k = (iv 68 0 11).toNatClampNeg then d else iv 76 0 k) ∧ iv' 77 0 k = (if k = (iv 68 0 11).toNatClampNeg then told else iv 77 0 k) ∧ iv' 78 0 k = (if k = (iv 68 0 11).toNatClampNeg then on else iv 78 0 k))))) 0 0 (Aq sz) := by
  refine mk_i (by decide) (Nat.le_of_ble_eq_true rfl) rfl ?_
  intro p e s m args below meth c ls Q H locs C hU hS hl hret
  have hx := C.1.1
  have hb := C.1.2.1
  have hl : lv_has ls 6 [(0, .ref (al.2 68 0)), (1, .int a), (2, .int cs), (3, .int d), (4, .int told), (5, .int on)] := hl
  have hG0 := hG
  have hF1 : FR ([74, 75, 76, 77, 78], [(68, 11)]) iv iv := FR.rf
  have hF2 : FR ([74, 75, 76, 77, 78], [(68, 11)]) rv rv := FR.rf
  have k1 : (1 : Int32).toInt = 1 := by decide
  refine lv_aload_n hx hb dX4_addExcuse_0 rfl (lv_at hl 0 rfl) ?_
  refine g_68_6 C hU hG (h1_68 hG) fl_X4_27 dX4_addExcuse_1 ?_
  refine lv_aload_n hx hb dX4_addExcuse_4 rfl (lv_at hl 0 rfl) ?_
  refine g_68_11 C hU hG (h1_68 hG) fl_X4_47 dX4_addExcuse_5 (fun x_1 e_2 le_2 ue_2 => ?_)
  have te_2 := congrArg Int32.toInt e_2
  refine lv_iload_n hx hb dX4_addExcuse_8 rfl (lv_at hl 1 rfl) ?_
  refine s_74 C hU hS (h1_74 hG) (x := x_1) (by omega) (by omega) dX4_addExcuse_9 (fun iv_3 H locs ei_4 hU hS => ?_)
  have hG : GI al iv_3 rv := by rw [ei_4]; exact hG.puti (show _ ∧ _ from ⟨(fb_rng _).1, Int.le_of_lt_add_one (fb_rng _).2⟩) (nsA (by decide) _)
  have hF1 : FR ([74, 75, 76, 77, 78], [(68, 11)]) iv iv_3 := by rw [ei_4]; exact hF1.put (Or.inl (by decide))
  have kf_5 := congrArg Int32.toInt (show iv_3 68 0 11 = iv 68 0 11 by rw [ei_4]; exact up3_ne (fun z => absurd z.1 (by decide)))
  refine lv_aload_n hx hb dX4_addExcuse_10 rfl (lv_at hl 0 rfl) ?_
  refine g_68_7 C hU hG (h1_68 hG) fl_X4_30 dX4_addExcuse_11 ?_
  refine lv_aload_n hx hb dX4_addExcuse_14 rfl (lv_at hl 0 rfl) ?_
  refine g_68_11 C hU hG (h1_68 hG) fl_X4_47 dX4_addExcuse_15 (fun x_6 e_7 le_7 ue_7 => ?_)
  have te_7 := congrArg Int32.toInt e_7
  refine lv_iload_n hx hb dX4_addExcuse_18 rfl (lv_at hl 2 rfl) ?_
  refine s_75 C hU hS (h1_75 hG) (x := x_6) (by omega) (by omega) dX4_addExcuse_19 (fun iv_8 H locs ei_9 hU hS => ?_)
  have hG : GI al iv_8 rv := by rw [ei_9]; exact hG.puti (show _ ∧ _ from ⟨(fb_rng _).1, Int.le_of_lt_add_one (fb_rng _).2⟩) (nsA (by decide) _)
  have hF1 : FR ([74, 75, 76, 77, 78], [(68, 11)]) iv iv_8 := by rw [ei_9]; exact hF1.put (Or.inl (by decide))
  have kf_10 := congrArg Int32.toInt (show iv_8 68 0 11 = iv_3 68 0 11 by rw [ei_9]; exact up3_ne (fun z => absurd z.1 (by decide)))
  refine lv_aload_n hx hb dX4_addExcuse_20 rfl (lv_at hl 0 rfl) ?_
  refine g_68_8 C hU hG (h1_68 hG) fl_X4_33 dX4_addExcuse_21 ?_
  refine lv_aload_n hx hb dX4_addExcuse_24 rfl (lv_at hl 0 rfl) ?_
  refine g_68_11 C hU hG (h1_68 hG) fl_X4_47 dX4_addExcuse_25 (fun x_11 e_12 le_12 ue_12 => ?_)
  have te_12 := congrArg Int32.toInt e_12
  refine lv_iload_n hx hb dX4_addExcuse_28 rfl (lv_at hl 3 rfl) ?_
  refine s_76 C hU hS (h1_76 hG) (x := x_11) (by omega) (by omega) dX4_addExcuse_29 (fun iv_13 H locs ei_14 hU hS => ?_)
  have hG : GI al iv_13 rv := by rw [ei_14]; exact hG.puti (show _ ∧ _ from ⟨(fb_rng _).1, Int.le_of_lt_add_one (fb_rng _).2⟩) (nsA (by decide) _)
  have hF1 : FR ([74, 75, 76, 77, 78], [(68, 11)]) iv iv_13 := by rw [ei_14]; exact hF1.put (Or.inl (by decide))
  have kf_15 := congrArg Int32.toInt (show iv_13 68 0 11 = iv_8 68 0 11 by rw [ei_14]; exact up3_ne (fun z => absurd z.1 (by decide)))
  refine lv_aload_n hx hb dX4_addExcuse_30 rfl (lv_at hl 0 rfl) ?_
  refine g_68_9 C hU hG (h1_68 hG) fl_X4_36 dX4_addExcuse_31 ?_
  refine lv_aload_n hx hb dX4_addExcuse_34 rfl (lv_at hl 0 rfl) ?_
  refine g_68_11 C hU hG (h1_68 hG) fl_X4_47 dX4_addExcuse_35 (fun x_16 e_17 le_17 ue_17 => ?_)
  have te_17 := congrArg Int32.toInt e_17
  refine lv_iload hx hb dX4_addExcuse_38 (lv_at hl 4 rfl) ?_
  refine s_77 C hU hS (h1_77 hG) (x := x_16) (by omega) (by omega) dX4_addExcuse_40 (fun iv_18 H locs ei_19 hU hS => ?_)
  have hG : GI al iv_18 rv := by rw [ei_19]; exact hG.puti (show _ ∧ _ from ⟨(fb_rng _).1, Int.le_of_lt_add_one (fb_rng _).2⟩) (nsA (by decide) _)
  have hF1 : FR ([74, 75, 76, 77, 78], [(68, 11)]) iv iv_18 := by rw [ei_19]; exact hF1.put (Or.inl (by decide))
  have kf_20 := congrArg Int32.toInt (show iv_18 68 0 11 = iv_13 68 0 11 by rw [ei_19]; exact up3_ne (fun z => absurd z.1 (by decide)))
  refine lv_aload_n hx hb dX4_addExcuse_41 rfl (lv_at hl 0 rfl) ?_
  refine g_68_10 C hU hG (h1_68 hG) fl_X4_39 dX4_addExcuse_42 ?_
  refine lv_aload_n hx hb dX4_addExcuse_45 rfl (lv_at hl 0 rfl) ?_
  refine g_68_11 C hU hG (h1_68 hG) fl_X4_47 dX4_addExcuse_46 (fun x_21 e_22 le_22 ue_22 => ?_)
  have te_22 := congrArg Int32.toInt e_22
  refine lv_iload hx hb dX4_addExcuse_49 (lv_at hl 5 rfl) ?_
  refine s_78 C hU hS (h1_78 hG) (x := x_21) (by omega) (by omega) (by omega) (by omega) dX4_addExcuse_51 (fun iv_23 H locs ei_24 hU hS => ?_)
  have hG : GI al iv_23 rv := by rw [ei_24]; exact hG.puti (show _ ∧ _ from ⟨show (0 : Int) ≤ _ by omega, show _ ≤ (1 : Int) by omega⟩) (nsA (by decide) _)
  have hF1 : FR ([74, 75, 76, 77, 78], [(68, 11)]) iv iv_23 := by rw [ei_24]; exact hF1.put (Or.inl (by decide))
  have kf_25 := congrArg Int32.toInt (show iv_23 68 0 11 = iv_18 68 0 11 by rw [ei_24]; exact up3_ne (fun z => absurd z.1 (by decide)))
  refine lv_aload_n hx hb dX4_addExcuse_52 rfl (lv_at hl 0 rfl) ?_
  refine lv_dup hx hb dX4_addExcuse_53 rfl ?_
  refine g_68_11 C hU hG (h1_68 hG) fl_X4_47 dX4_addExcuse_54 (fun x_26 e_27 le_27 ue_27 => ?_)
  have te_27 := congrArg Int32.toInt e_27
  refine lv_iconst (v := 1) hx hb dX4_addExcuse_57 (by decide) ?_
  refine lv_iadd hx hb dX4_addExcuse_58 ?_
  refine lv_topi (fun x_28 e_29 => ?_)
  have te_29 : x_28.toInt = (x_26 : Int32).toInt + (1 : Int32).toInt := by rw [e_29]; exact fb_addI (by omega) (by omega)
  refine p_68_11 C hU hS (h1_68 hG) fl_X4_47 dX4_addExcuse_59 (fun iv_30 H locs ei_31 hU hS => ?_)
  have hG : GI al iv_30 rv := by rw [ei_31]; exact hG.puti (show _ ∧ _ from ⟨show (0 : Int) ≤ _ by omega, show _ ≤ (40 : Int) by omega⟩) (nsF (by decide))
  have hF1 : FR ([74, 75, 76, 77, 78], [(68, 11)]) iv iv_30 := by rw [ei_31]; exact hF1.put (by decide)
  refine lv_aload_n hx hb dX4_addExcuse_62 rfl (lv_at hl 0 rfl) ?_
  refine g_68_11 C hU hG (h1_68 hG) fl_X4_47 dX4_addExcuse_63 (fun x_32 e_33 le_33 ue_33 => ?_)
  have te_33 := congrArg Int32.toInt e_33
  have hz_ := e_33
  rw [ei_31, up3_self] at hz_
  have tz_ := congrArg Int32.toInt hz_
  exact hret (⟨hG, hF1, hF2, ⟨by omega, by rw [ei_31, up3_self]; omega, fun k => ⟨by rw [ei_31, up3_ne (fun z => absurd z.1 (by decide)), ei_24, up3_ne (fun z => absurd z.1 (by decide)), ei_19, up3_ne (fun z => absurd z.1 (by decide)), ei_14, up3_ne (fun z => absurd z.1 (by decide)), ei_9, up3_ne (fun z => absurd z.1 (by decide)), ei_4, clamp_eq (show (x_1 : Int32).toInt = (iv 68 0 11).toInt by omega), up3_k], by rw [ei_31, up3_ne (fun z => absurd z.1 (by decide)), ei_24, up3_ne (fun z => absurd z.1 (by decide)), ei_19, up3_ne (fun z => absurd z.1 (by decide)), ei_14, up3_ne (fun z => absurd z.1 (by decide)), ei_9, clamp_eq (show (x_6 : Int32).toInt = (iv 68 0 11).toInt by omega), up3_k, ei_4, up3_ne (fun z => absurd z.1 (by decide))], by rw [ei_31, up3_ne (fun z => absurd z.1 (by decide)), ei_24, up3_ne (fun z => absurd z.1 (by decide)), ei_19, up3_ne (fun z => absurd z.1 (by decide)), ei_14, clamp_eq (show (x_11 : Int32).toInt = (iv 68 0 11).toInt by omega), up3_k, ei_9, up3_ne (fun z => absurd z.1 (by decide)), ei_4, up3_ne (fun z => absurd z.1 (by decide))], by rw [ei_31, up3_ne (fun z => absurd z.1 (by decide)), ei_24, up3_ne (fun z => absurd z.1 (by decide)), ei_19, clamp_eq (show (x_16 : Int32).toInt = (iv 68 0 11).toInt by omega), up3_k, ei_14, up3_ne (fun z => absurd z.1 (by decide)), ei_9, up3_ne (fun z => absurd z.1 (by decide)), ei_4, up3_ne (fun z => absurd z.1 (by decide))], by rw [ei_31, up3_ne (fun z => absurd z.1 (by decide)), ei_24, clamp_eq (show (x_21 : Int32).toInt = (iv 68 0 11).toInt by omega), up3_k, ei_19, up3_ne (fun z => absurd z.1 (by decide)), ei_14, up3_ne (fun z => absurd z.1 (by decide)), ei_9, up3_ne (fun z => absurd z.1 (by decide)), ei_4, up3_ne (fun z => absurd z.1 (by decide))]⟩⟩⟩) hU hS dX4_addExcuse_66
set_option maxHeartbeats 4000000 in
set_option maxRecDepth 100000 in
theorem c_X11_excuse_y {l : Launch} {D : va_G} {cA : FieldType → ClassId} {sz : Nat} {al : Al} {iv : Iv} {rv : Rv} (hG : GI al iv rv) (lw : Int32) (cs : Int32) (d : Int32) (on : Int32) (pre0 : 0 ≤ on.toInt ∧ on.toInt ≤ 1) : Met l yX11_excuse (wd yX11_excuse cX11_excuse 5 (some .int)) (rm 2) (PcW D cA sz al iv rv [.ref (al.2 49 0), .int lw, .int cs, .int d, .int on]) (QI D cA sz al (fI al ([51, 74, 75, 76, 77, 78], [(68, 11)]) iv rv (fun r iv' rv' => (spExc lw cs d (iv 68 0 11).toInt = 0 ∧ r.toInt = (iv 68 0 11).toInt + 1 ∧ (iv' 68 0 11).toInt = (iv 68 0 11).toInt + 1 ∧ (∀ k : Nat, iv' 74 0 k = (if k = (iv 68 0 11).toNatClampNeg then lw else iv 74 0 k) ∧ iv' 75 0 k = (if k = (iv 68 0 11).toNatClampNeg then cs else iv 75 0 k) ∧ iv' 76 0 k = (if k = (iv 68 0 11).toNatClampNeg then d else iv 76 0 k) ∧ iv' 77 0 k = (if k = (iv 68 0 11).toNatClampNeg then iv 49 0 9 else iv 77 0 k) ∧ iv' 78 0 k = (if k = (iv 68 0 11).toNatClampNeg then on else iv 78 0 k))) ∨ (spExc lw cs d (iv 68 0 11).toInt ≠ 0 ∧ r = spExc lw cs d (iv 68 0 11).toInt ∧ iv' 68 0 11 = iv 68 0 11 ∧ (∀ k : Nat, iv' 74 0 k = iv 74 0 k ∧ iv' 75 0 k = iv 75 0 k ∧ iv' 76 0 k = iv 76 0 k ∧ iv' 77 0 k = iv 77 0 k ∧ iv' 78 0 k = iv 78 0 k))))) 0 0 (Aq sz) := by
  refine mk_i (by decide) (Nat.le_of_ble_eq_true rfl) rfl ?_
  intro p e s m args below meth c ls Q H locs C hU hS hl hret
  have hx := C.1.1
  have hb := C.1.2.1
  have hl : lv_has ls 5 [(0, .ref (al.2 49 0)), (1, .int lw), (2, .int cs), (3, .int d), (4, .int on)] := hl
  have hG0 := hG
  have hF1 : FR ([51, 74, 75, 76, 77, 78], [(68, 11)]) iv iv := FR.rf
  have hF2 : FR ([51, 74, 75, 76, 77, 78], [(68, 11)]) rv rv := FR.rf
  have km6 : ((-6) : Int32).toInt = -6 := by decide
  have km4 : ((-4) : Int32).toInt = -4 := by decide
  have km1 : ((-1) : Int32).toInt = -1 := by decide
  have k4 : (4 : Int32).toInt = 4 := by decide
  have k6 : (6 : Int32).toInt = 6 := by decide
  have k4000 : (4000 : Int32).toInt = 4000 := by decide
  refine lv_iconst (v := 4) hx hb dX11_excuse_0 (by decide) ?_
  refine lv_iload_n hx hb dX11_excuse_1 rfl (lv_at hl 1 rfl) ?_
  refine q_pi (q_runS (As := [.int 4, .int lw]) (rest := []) C hU (c_X11_isOneOf  4 lw ) sm_X11_isOneOf ml_X11_85 hl.1 rfl rfl (Nat.le_of_ble_eq_true rfl) dX11_excuse_2 rfl rfl ⟨Nat.le_of_ble_eq_true rfl, Nat.le_of_ble_eq_true rfl⟩ ⟨Nat.le_refl _, Nat.le_refl _⟩) hS (fun x_2 H locs hp_1 hU hS => ?_)
  refine b_if_eq (tgt := 17) hx hb dX11_excuse_5 (by decide) (fun c_3 => ?_) (fun c_3 => ?_)
  ·
    refine lv_aload_n hx hb dX11_excuse_17 rfl (lv_at hl 0 rfl) ?_
    refine lv_iconst (v := (-1)) hx hb dX11_excuse_18 (by decide) ?_
    refine q_fi (q_runV (t := 49) (i := 0) (As := [.int (-1)]) (rest := []) C hU (c_X11_refuse hG (-1) (by omega)) vm_X11_refuse ml_X11_77 k_49.1 (hc := rfl) rfl (h1_49 hG) hl.1 rfl rfl (Nat.le_of_ble_eq_true rfl) dX11_excuse_19 rfl rfl ⟨Nat.le_of_ble_eq_true rfl, Nat.le_of_ble_eq_true rfl⟩ ⟨Nat.le_refl _, Nat.le_refl _⟩) hS (fun x_9 iv_5 rv_6 H locs hG fa_7 fb_8 hp_4 hU hS => ?_)
    have hF1 := hF1.tr (m := ([51, 74, 75, 76, 77, 78], [(68, 11)])) fa_7 (by decide)
    have hF2 := hF2.tr (m := ([51, 74, 75, 76, 77, 78], [(68, 11)])) fb_8 (by decide)
    exact hret (⟨hG, hF1, hF2, sp_no (z := (-1)) (by unfold spExc; (repeat' split) <;> first | rfl | omega) (by decide) hp_4 (⟨fa_7 68 0 11 (by decide), fun k => ⟨fa_7.arr 74 0 k (by decide), fa_7.arr 75 0 k (by decide), fa_7.arr 76 0 k (by decide), fa_7.arr 77 0 k (by decide), fa_7.arr 78 0 k (by decide)⟩⟩)⟩) hU hS dX11_excuse_22
  ·
    refine lv_bipush (v := 6) hx hb dX11_excuse_8 (by decide) ?_
    refine lv_iload_n hx hb dX11_excuse_10 rfl (lv_at hl 2 rfl) ?_
    refine q_pi (q_runS (As := [.int 6, .int cs]) (rest := []) C hU (c_X11_isOneOf  6 cs ) sm_X11_isOneOf ml_X11_85 hl.1 rfl rfl (Nat.le_of_ble_eq_true rfl) dX11_excuse_11 rfl rfl ⟨Nat.le_of_ble_eq_true rfl, Nat.le_of_ble_eq_true rfl⟩ ⟨Nat.le_refl _, Nat.le_refl _⟩) hS (fun x_11 H locs hp_10 hU hS => ?_)
    refine b_if_ne (tgt := 23) hx hb dX11_excuse_14 (by decide) (fun c_12 => ?_) (fun c_12 => ?_)
    ·
      refine lv_iload_n hx hb dX11_excuse_23 rfl (lv_at hl 3 rfl) ?_
      refine b_if_ge (tgt := 34) hx hb dX11_excuse_24 (by decide) (fun c_13 => ?_) (fun c_13 => ?_)
      ·
        refine lv_iload_n hx hb dX11_excuse_34 rfl (lv_at hl 3 rfl) ?_
        refine lv_sipush (v := 4000) hx hb dX11_excuse_35 (by decide) ?_
        refine b_icmp_gt (tgt := 51) hx hb dX11_excuse_38 (by decide) (fun c_14 => ?_) (fun c_14 => ?_)
        ·
          refine lv_aload_n hx hb dX11_excuse_51 rfl (lv_at hl 0 rfl) ?_
          refine lv_bipush (v := (-6)) hx hb dX11_excuse_52 (by decide) ?_
          refine q_fi (q_runV (t := 49) (i := 0) (As := [.int (-6)]) (rest := []) C hU (c_X11_refuse hG (-6) (by omega)) vm_X11_refuse ml_X11_77 k_49.1 (hc := rfl) rfl (h1_49 hG) hl.1 rfl rfl (Nat.le_of_ble_eq_true rfl) dX11_excuse_54 rfl rfl ⟨Nat.le_of_ble_eq_true rfl, Nat.le_of_ble_eq_true rfl⟩ ⟨Nat.le_refl _, Nat.le_refl _⟩) hS (fun x_20 iv_16 rv_17 H locs hG fa_18 fb_19 hp_15 hU hS => ?_)
          have hF1 := hF1.tr (m := ([51, 74, 75, 76, 77, 78], [(68, 11)])) fa_18 (by decide)
          have hF2 := hF2.tr (m := ([51, 74, 75, 76, 77, 78], [(68, 11)])) fb_19 (by decide)
          exact hret (⟨hG, hF1, hF2, sp_no (z := (-6)) (by unfold spExc; (repeat' split) <;> first | rfl | omega) (by decide) hp_15 (⟨fa_18 68 0 11 (by decide), fun k => ⟨fa_18.arr 74 0 k (by decide), fa_18.arr 75 0 k (by decide), fa_18.arr 76 0 k (by decide), fa_18.arr 77 0 k (by decide), fa_18.arr 78 0 k (by decide)⟩⟩)⟩) hU hS dX11_excuse_57
        ·
          refine lv_aload_n hx hb dX11_excuse_41 rfl (lv_at hl 0 rfl) ?_
          refine g_49_3 C hU hG (h1_49 hG) fl_X11_33 dX11_excuse_42 ?_
          refine q_pi (q_runV (t := 68) (i := 0) (As := []) (rest := []) C hU (c_X4_isFullOfExcuses hG  ) vm_X4_isFullOfExcuses ml_X11_225 k_68.1 (hc := rfl) rfl (h1_68 hG) hl.1 rfl rfl (Nat.le_of_ble_eq_true rfl) dX11_excuse_45 rfl rfl ⟨Nat.le_of_ble_eq_true rfl, Nat.le_of_ble_eq_true rfl⟩ ⟨Nat.le_refl _, Nat.le_refl _⟩) hS (fun x_22 H locs hp_21 hU hS => ?_)
          refine b_if_eq (tgt := 58) hx hb dX11_excuse_48 (by decide) (fun c_23 => ?_) (fun c_23 => ?_)
          ·
            refine lv_aload_n hx hb dX11_excuse_58 rfl (lv_at hl 0 rfl) ?_
            refine g_49_3 C hU hG (h1_49 hG) fl_X11_33 dX11_excuse_59 ?_
            refine lv_iload_n hx hb dX11_excuse_62 rfl (lv_at hl 1 rfl) ?_
            refine lv_iload_n hx hb dX11_excuse_63 rfl (lv_at hl 2 rfl) ?_
            refine lv_iload_n hx hb dX11_excuse_64 rfl (lv_at hl 3 rfl) ?_
            refine lv_aload_n hx hb dX11_excuse_65 rfl (lv_at hl 0 rfl) ?_
            refine g_49_9 C hU hG (h1_49 hG) fl_X11_73 dX11_excuse_66 (fun x_24 e_25 le_25 ue_25 => ?_)
            have te_25 := congrArg Int32.toInt e_25
            refine lv_iload hx hb dX11_excuse_69 (lv_at hl 4 rfl) ?_
            refine q_fi (q_runV (t := 68) (i := 0) (As := [.int lw, .int cs, .int d, .int x_24, .int on]) (rest := []) C hU (c_X4_addExcuse_y hG lw cs d x_24 on (by omega) (by omega)) vm_X4_addExcuse ml_X11_228 k_68.1 (hc := rfl) rfl (h1_68 hG) hl.1 rfl rfl (Nat.le_of_ble_eq_true rfl) dX11_excuse_71 rfl rfl ⟨Nat.le_of_ble_eq_true rfl, Nat.le_of_ble_eq_true rfl⟩ ⟨Nat.le_refl _, Nat.le_refl _⟩) hS (fun x_31 iv_27 rv_28 H locs hG fa_29 fb_30 hp_26 hU hS => ?_)
            have hF1 := hF1.tr (m := ([51, 74, 75, 76, 77, 78], [(68, 11)])) fa_29 (by decide)
            have hF2 := hF2.tr (m := ([51, 74, 75, 76, 77, 78], [(68, 11)])) fb_30 (by decide)
            exact hret (⟨hG, hF1, hF2, Or.inl ⟨(by unfold spExc; (repeat' split) <;> first | rfl | omega), hp_26.1, hp_26.2.1, by have z := hp_26.2.2; rw [e_25] at z; exact z⟩⟩) hU hS dX11_excuse_74
          ·
            refine lv_aload_n hx hb dX11_excuse_51 rfl (lv_at hl 0 rfl) ?_
            refine lv_bipush (v := (-6)) hx hb dX11_excuse_52 (by decide) ?_
            refine q_fi (q_runV (t := 49) (i := 0) (As := [.int (-6)]) (rest := []) C hU (c_X11_refuse hG (-6) (by omega)) vm_X11_refuse ml_X11_77 k_49.1 (hc := rfl) rfl (h1_49 hG) hl.1 rfl rfl (Nat.le_of_ble_eq_true rfl) dX11_excuse_54 rfl rfl ⟨Nat.le_of_ble_eq_true rfl, Nat.le_of_ble_eq_true rfl⟩ ⟨Nat.le_refl _, Nat.le_refl _⟩) hS (fun x_37 iv_33 rv_34 H locs hG fa_35 fb_36 hp_32 hU hS => ?_)
            have hF1 := hF1.tr (m := ([51, 74, 75, 76, 77, 78], [(68, 11)])) fa_35 (by decide)
            have hF2 := hF2.tr (m := ([51, 74, 75, 76, 77, 78], [(68, 11)])) fb_36 (by decide)
            exact hret (⟨hG, hF1, hF2, sp_no (z := (-6)) (by unfold spExc; (repeat' split) <;> first | rfl | omega) (by decide) hp_32 (⟨fa_35 68 0 11 (by decide), fun k => ⟨fa_35.arr 74 0 k (by decide), fa_35.arr 75 0 k (by decide), fa_35.arr 76 0 k (by decide), fa_35.arr 77 0 k (by decide), fa_35.arr 78 0 k (by decide)⟩⟩)⟩) hU hS dX11_excuse_57
      ·
        refine lv_aload_n hx hb dX11_excuse_27 rfl (lv_at hl 0 rfl) ?_
        refine lv_bipush (v := (-4)) hx hb dX11_excuse_28 (by decide) ?_
        refine q_fi (q_runV (t := 49) (i := 0) (As := [.int (-4)]) (rest := []) C hU (c_X11_refuse hG (-4) (by omega)) vm_X11_refuse ml_X11_77 k_49.1 (hc := rfl) rfl (h1_49 hG) hl.1 rfl rfl (Nat.le_of_ble_eq_true rfl) dX11_excuse_30 rfl rfl ⟨Nat.le_of_ble_eq_true rfl, Nat.le_of_ble_eq_true rfl⟩ ⟨Nat.le_refl _, Nat.le_refl _⟩) hS (fun x_43 iv_39 rv_40 H locs hG fa_41 fb_42 hp_38 hU hS => ?_)
        have hF1 := hF1.tr (m := ([51, 74, 75, 76, 77, 78], [(68, 11)])) fa_41 (by decide)
        have hF2 := hF2.tr (m := ([51, 74, 75, 76, 77, 78], [(68, 11)])) fb_42 (by decide)
        exact hret (⟨hG, hF1, hF2, sp_no (z := (-4)) (by unfold spExc; (repeat' split) <;> first | rfl | omega) (by decide) hp_38 (⟨fa_41 68 0 11 (by decide), fun k => ⟨fa_41.arr 74 0 k (by decide), fa_41.arr 75 0 k (by decide), fa_41.arr 76 0 k (by decide), fa_41.arr 77 0 k (by decide), fa_41.arr 78 0 k (by decide)⟩⟩)⟩) hU hS dX11_excuse_33
    ·
      refine lv_aload_n hx hb dX11_excuse_17 rfl (lv_at hl 0 rfl) ?_
      refine lv_iconst (v := (-1)) hx hb dX11_excuse_18 (by decide) ?_
      refine q_fi (q_runV (t := 49) (i := 0) (As := [.int (-1)]) (rest := []) C hU (c_X11_refuse hG (-1) (by omega)) vm_X11_refuse ml_X11_77 k_49.1 (hc := rfl) rfl (h1_49 hG) hl.1 rfl rfl (Nat.le_of_ble_eq_true rfl) dX11_excuse_19 rfl rfl ⟨Nat.le_of_ble_eq_true rfl, Nat.le_of_ble_eq_true rfl⟩ ⟨Nat.le_refl _, Nat.le_refl _⟩) hS (fun x_49 iv_45 rv_46 H locs hG fa_47 fb_48 hp_44 hU hS => ?_)
      have hF1 := hF1.tr (m := ([51, 74, 75, 76, 77, 78], [(68, 11)])) fa_47 (by decide)
      have hF2 := hF2.tr (m := ([51, 74, 75, 76, 77, 78], [(68, 11)])) fb_48 (by decide)
      exact hret (⟨hG, hF1, hF2, sp_no (z := (-1)) (by unfold spExc; (repeat' split) <;> first | rfl | omega) (by decide) hp_44 (⟨fa_47 68 0 11 (by decide), fun k => ⟨fa_47.arr 74 0 k (by decide), fa_47.arr 75 0 k (by decide), fa_47.arr 76 0 k (by decide), fa_47.arr 77 0 k (by decide), fa_47.arr 78 0 k (by decide)⟩⟩)⟩) hU hS dX11_excuse_22
set_option maxHeartbeats 4000000 in
set_option maxRecDepth 100000 in
theorem c_X12_stop_y {l : Launch} {D : va_G} {cA : FieldType → ClassId} {sz : Nat} {al : Al} {iv : Iv} {rv : Rv} (hG : GI al iv rv) (lw : Int32) (a : Int32) (b : Int32) : Met l yX12_stop (wd yX12_stop cX12_stop 4 (some .int)) (rm 2) (PcW D cA sz al iv rv [.ref (al.2 0 0), .int lw, .int a, .int b]) (QI D cA sz al (fI al ([16, 32, 33, 34], [(0, 37)]) iv rv (fun r iv' rv' => (spStop lw a b (iv 0 0 37).toInt = 0 ∧ r.toInt = (iv 0 0 37).toInt + 1 ∧ (iv' 0 0 37).toInt = (iv 0 0 37).toInt + 1 ∧ (∀ k : Nat, iv' 32 0 k = (if k = (iv 0 0 37).toNatClampNeg then lw else iv 32 0 k) ∧ iv' 33 0 k = (if k = (iv 0 0 37).toNatClampNeg then a else iv 33 0 k) ∧ iv' 34 0 k = (if k = (iv 0 0 37).toNatClampNeg then b else iv 34 0 k))) ∨ (spStop lw a b (iv 0 0 37).toInt ≠ 0 ∧ r = spStop lw a b (iv 0 0 37).toInt ∧ iv' 0 0 37 = iv 0 0 37 ∧ (∀ k : Nat, iv' 32 0 k = iv 32 0 k ∧ iv' 33 0 k = iv 33 0 k ∧ iv' 34 0 k = iv 34 0 k))))) 0 0 (Aq sz) := by
  refine mk_i (by decide) (Nat.le_of_ble_eq_true rfl) rfl ?_
  intro p e s m args below meth c ls Q H locs C hU hS hl hret
  have hx := C.1.1
  have hb := C.1.2.1
  have hl : lv_has ls 4 [(0, .ref (al.2 0 0)), (1, .int lw), (2, .int a), (3, .int b)] := hl
  have hG0 := hG
  have h6 := le6 hG
  have h20 := le20 hG
  have h41 := le41 hG
  have hF1 : FR ([16, 32, 33, 34], [(0, 37)]) iv iv := FR.rf
  have hF2 : FR ([16, 32, 33, 34], [(0, 37)]) rv rv := FR.rf
  have km6 : ((-6) : Int32).toInt = -6 := by decide
  have km4 : ((-4) : Int32).toInt = -4 := by decide
  have km1 : ((-1) : Int32).toInt = -1 := by decide
  have k1 : (1 : Int32).toInt = 1 := by decide
  have k20 : (20 : Int32).toInt = 20 := by decide
  have k4000 : (4000 : Int32).toInt = 4000 := by decide
  refine lv_iload_n hx hb dX12_stop_0 rfl (lv_at hl 1 rfl) ?_
  refine q_pi (q_runS (As := [.int lw]) (rest := []) C hU (c_X12_isLand  lw ) sm_X12_isLand ml_X12_244 hl.1 rfl rfl (Nat.le_of_ble_eq_true rfl) dX12_stop_1 rfl rfl ⟨Nat.le_of_ble_eq_true rfl, Nat.le_of_ble_eq_true rfl⟩ ⟨Nat.le_refl _, Nat.le_refl _⟩) hS (fun x_2 H locs hp_1 hU hS => ?_)
  refine b_if_ne (tgt := 13) hx hb dX12_stop_4 (by decide) (fun c_3 => ?_) (fun c_3 => ?_)
  ·
    refine lv_iload_n hx hb dX12_stop_13 rfl (lv_at hl 2 rfl) ?_
    refine b_if_lt (tgt := 22) hx hb dX12_stop_14 (by decide) (fun c_4 => ?_) (fun c_4 => ?_)
    ·
      refine lv_aload_n hx hb dX12_stop_22 rfl (lv_at hl 0 rfl) ?_
      refine lv_bipush (v := (-4)) hx hb dX12_stop_23 (by decide) ?_
      refine q_fi (q_runV (t := 0) (i := 0) (As := [.int (-4)]) (rest := []) C hU (c_X12_refuse hG (-4) (by omega)) vm_X12_refuse ml_X12_164 k_0.1 (hc := rfl) rfl (h1_0 hG) hl.1 rfl rfl (Nat.le_of_ble_eq_true rfl) dX12_stop_25 rfl rfl ⟨Nat.le_of_ble_eq_true rfl, Nat.le_of_ble_eq_true rfl⟩ ⟨Nat.le_refl _, Nat.le_refl _⟩) hS (fun x_10 iv_6 rv_7 H locs hG fa_8 fb_9 hp_5 hU hS => ?_)
      have hF1 := hF1.tr (m := ([16, 32, 33, 34], [(0, 37)])) fa_8 (by decide)
      have hF2 := hF2.tr (m := ([16, 32, 33, 34], [(0, 37)])) fb_9 (by decide)
      exact hret (⟨hG, hF1, hF2, sp_no (z := (-4)) (by unfold spStop; (repeat' split) <;> first | rfl | omega) (by decide) hp_5 (⟨fa_8 0 0 37 (by decide), fun k => ⟨fa_8.arr 32 0 k (by decide), fa_8.arr 33 0 k (by decide), fa_8.arr 34 0 k (by decide)⟩⟩)⟩) hU hS dX12_stop_28
    ·
      refine lv_iload_n hx hb dX12_stop_17 rfl (lv_at hl 3 rfl) ?_
      refine lv_iload_n hx hb dX12_stop_18 rfl (lv_at hl 2 rfl) ?_
      refine b_icmp_ge (tgt := 29) hx hb dX12_stop_19 (by decide) (fun c_11 => ?_) (fun c_11 => ?_)
      ·
        refine lv_iload_n hx hb dX12_stop_29 rfl (lv_at hl 3 rfl) ?_
        refine lv_sipush (v := 4000) hx hb dX12_stop_30 (by decide) ?_
        refine b_icmp_gt (tgt := 45) hx hb dX12_stop_33 (by decide) (fun c_12 => ?_) (fun c_12 => ?_)
        ·
          refine lv_aload_n hx hb dX12_stop_45 rfl (lv_at hl 0 rfl) ?_
          refine lv_bipush (v := (-6)) hx hb dX12_stop_46 (by decide) ?_
          refine q_fi (q_runV (t := 0) (i := 0) (As := [.int (-6)]) (rest := []) C hU (c_X12_refuse hG (-6) (by omega)) vm_X12_refuse ml_X12_164 k_0.1 (hc := rfl) rfl (h1_0 hG) hl.1 rfl rfl (Nat.le_of_ble_eq_true rfl) dX12_stop_48 rfl rfl ⟨Nat.le_of_ble_eq_true rfl, Nat.le_of_ble_eq_true rfl⟩ ⟨Nat.le_refl _, Nat.le_refl _⟩) hS (fun x_18 iv_14 rv_15 H locs hG fa_16 fb_17 hp_13 hU hS => ?_)
          have hF1 := hF1.tr (m := ([16, 32, 33, 34], [(0, 37)])) fa_16 (by decide)
          have hF2 := hF2.tr (m := ([16, 32, 33, 34], [(0, 37)])) fb_17 (by decide)
          exact hret (⟨hG, hF1, hF2, sp_no (z := (-6)) (by unfold spStop; (repeat' split) <;> first | rfl | omega) (by decide) hp_13 (⟨fa_16 0 0 37 (by decide), fun k => ⟨fa_16.arr 32 0 k (by decide), fa_16.arr 33 0 k (by decide), fa_16.arr 34 0 k (by decide)⟩⟩)⟩) hU hS dX12_stop_51
        ·
          refine lv_aload_n hx hb dX12_stop_36 rfl (lv_at hl 0 rfl) ?_
          refine g_0_37 C hU hG (h1_0 hG) fl_X12_272 dX12_stop_37 (fun x_19 e_20 le_20 ue_20 => ?_)
          have te_20 := congrArg Int32.toInt e_20
          refine lv_bipush (v := 20) hx hb dX12_stop_40 (by decide) ?_
          refine b_icmp_ne (tgt := 52) hx hb dX12_stop_42 (by decide) (fun c_21 => ?_) (fun c_21 => ?_)
          ·
            refine lv_aload_n hx hb dX12_stop_52 rfl (lv_at hl 0 rfl) ?_
            refine g_0_38 C hU hG (h1_0 hG) fl_X12_104 dX12_stop_53 ?_
            refine lv_aload_n hx hb dX12_stop_56 rfl (lv_at hl 0 rfl) ?_
            refine g_0_37 C hU hG (h1_0 hG) fl_X12_272 dX12_stop_57 (fun x_22 e_23 le_23 ue_23 => ?_)
            have te_23 := congrArg Int32.toInt e_23
            refine lv_iload_n hx hb dX12_stop_60 rfl (lv_at hl 1 rfl) ?_
            refine s_32 C hU hS (h1_32 hG) (x := x_22) (by omega) (by omega) dX12_stop_61 (fun iv_24 H locs ei_25 hU hS => ?_)
            have hG : GI al iv_24 rv := by rw [ei_25]; exact hG.puti (show _ ∧ _ from ⟨(fb_rng _).1, Int.le_of_lt_add_one (fb_rng _).2⟩) (nsA (by decide) _)
            have hF1 : FR ([16, 32, 33, 34], [(0, 37)]) iv iv_24 := by rw [ei_25]; exact hF1.put (Or.inl (by decide))
            have kf_26 := congrArg Int32.toInt (show iv_24 0 0 37 = iv 0 0 37 by rw [ei_25]; exact up3_ne (fun z => absurd z.1 (by decide)))
            refine lv_aload_n hx hb dX12_stop_62 rfl (lv_at hl 0 rfl) ?_
            refine g_0_39 C hU hG (h1_0 hG) fl_X12_107 dX12_stop_63 ?_
            refine lv_aload_n hx hb dX12_stop_66 rfl (lv_at hl 0 rfl) ?_
            refine g_0_37 C hU hG (h1_0 hG) fl_X12_272 dX12_stop_67 (fun x_27 e_28 le_28 ue_28 => ?_)
            have te_28 := congrArg Int32.toInt e_28
            refine lv_iload_n hx hb dX12_stop_70 rfl (lv_at hl 2 rfl) ?_
            refine s_33 C hU hS (h1_33 hG) (x := x_27) (by omega) (by omega) dX12_stop_71 (fun iv_29 H locs ei_30 hU hS => ?_)
            have hG : GI al iv_29 rv := by rw [ei_30]; exact hG.puti (show _ ∧ _ from ⟨(fb_rng _).1, Int.le_of_lt_add_one (fb_rng _).2⟩) (nsA (by decide) _)
            have hF1 : FR ([16, 32, 33, 34], [(0, 37)]) iv iv_29 := by rw [ei_30]; exact hF1.put (Or.inl (by decide))
            have kf_31 := congrArg Int32.toInt (show iv_29 0 0 37 = iv_24 0 0 37 by rw [ei_30]; exact up3_ne (fun z => absurd z.1 (by decide)))
            refine lv_aload_n hx hb dX12_stop_72 rfl (lv_at hl 0 rfl) ?_
            refine g_0_40 C hU hG (h1_0 hG) fl_X12_110 dX12_stop_73 ?_
            refine lv_aload_n hx hb dX12_stop_76 rfl (lv_at hl 0 rfl) ?_
            refine g_0_37 C hU hG (h1_0 hG) fl_X12_272 dX12_stop_77 (fun x_32 e_33 le_33 ue_33 => ?_)
            have te_33 := congrArg Int32.toInt e_33
            refine lv_iload_n hx hb dX12_stop_80 rfl (lv_at hl 3 rfl) ?_
            refine s_34 C hU hS (h1_34 hG) (x := x_32) (by omega) (by omega) dX12_stop_81 (fun iv_34 H locs ei_35 hU hS => ?_)
            have hG : GI al iv_34 rv := by rw [ei_35]; exact hG.puti (show _ ∧ _ from ⟨(fb_rng _).1, Int.le_of_lt_add_one (fb_rng _).2⟩) (nsA (by decide) _)
            have hF1 : FR ([16, 32, 33, 34], [(0, 37)]) iv iv_34 := by rw [ei_35]; exact hF1.put (Or.inl (by decide))
            have kf_36 := congrArg Int32.toInt (show iv_34 0 0 37 = iv_29 0 0 37 by rw [ei_35]; exact up3_ne (fun z => absurd z.1 (by decide)))
            refine lv_aload_n hx hb dX12_stop_82 rfl (lv_at hl 0 rfl) ?_
            refine lv_dup hx hb dX12_stop_83 rfl ?_
            refine g_0_37 C hU hG (h1_0 hG) fl_X12_272 dX12_stop_84 (fun x_37 e_38 le_38 ue_38 => ?_)
            have te_38 := congrArg Int32.toInt e_38
            refine lv_iconst (v := 1) hx hb dX12_stop_87 (by decide) ?_
            refine lv_iadd hx hb dX12_stop_88 ?_
            refine lv_topi (fun x_39 e_40 => ?_)
            have te_40 : x_39.toInt = (x_37 : Int32).toInt + (1 : Int32).toInt := by rw [e_40]; exact fb_addI (by omega) (by omega)
            refine p_0_37 C hU hS (h1_0 hG) fl_X12_272 dX12_stop_89 (fun iv_41 H locs ei_42 hU hS => ?_)
            have hG : GI al iv_41 rv := by rw [ei_42]; exact hG.puti (show _ ∧ _ from ⟨show (0 : Int) ≤ _ by omega, show _ ≤ (20 : Int) by omega⟩) (nsF (by decide))
            have hF1 : FR ([16, 32, 33, 34], [(0, 37)]) iv iv_41 := by rw [ei_42]; exact hF1.put (by decide)
            refine lv_aload_n hx hb dX12_stop_92 rfl (lv_at hl 0 rfl) ?_
            refine g_0_37 C hU hG (h1_0 hG) fl_X12_272 dX12_stop_93 (fun x_43 e_44 le_44 ue_44 => ?_)
            have te_44 := congrArg Int32.toInt e_44
            have hz_ := e_44
            rw [ei_42, up3_self] at hz_
            have tz_ := congrArg Int32.toInt hz_
            exact hret (⟨hG, hF1, hF2, Or.inl ⟨(by unfold spStop; (repeat' split) <;> first | rfl | omega), by omega, by rw [ei_42, up3_self]; omega, fun k => ⟨by rw [ei_42, up3_ne (fun z => absurd z.1 (by decide)), ei_35, up3_ne (fun z => absurd z.1 (by decide)), ei_30, up3_ne (fun z => absurd z.1 (by decide)), ei_25, clamp_eq (show (x_22 : Int32).toInt = (iv 0 0 37).toInt by omega), up3_k], by rw [ei_42, up3_ne (fun z => absurd z.1 (by decide)), ei_35, up3_ne (fun z => absurd z.1 (by decide)), ei_30, clamp_eq (show (x_27 : Int32).toInt = (iv 0 0 37).toInt by omega), up3_k, ei_25, up3_ne (fun z => absurd z.1 (by decide))], by rw [ei_42, up3_ne (fun z => absurd z.1 (by decide)), ei_35, clamp_eq (show (x_32 : Int32).toInt = (iv 0 0 37).toInt by omega), up3_k, ei_30, up3_ne (fun z => absurd z.1 (by decide)), ei_25, up3_ne (fun z => absurd z.1 (by decide))]⟩⟩⟩) hU hS dX12_stop_96
          ·
            refine lv_aload_n hx hb dX12_stop_45 rfl (lv_at hl 0 rfl) ?_
            refine lv_bipush (v := (-6)) hx hb dX12_stop_46 (by decide) ?_
            refine q_fi (q_runV (t := 0) (i := 0) (As := [.int (-6)]) (rest := []) C hU (c_X12_refuse hG (-6) (by omega)) vm_X12_refuse ml_X12_164 k_0.1 (hc := rfl) rfl (h1_0 hG) hl.1 rfl rfl (Nat.le_of_ble_eq_true rfl) dX12_stop_48 rfl rfl ⟨Nat.le_of_ble_eq_true rfl, Nat.le_of_ble_eq_true rfl⟩ ⟨Nat.le_refl _, Nat.le_refl _⟩) hS (fun x_50 iv_46 rv_47 H locs hG fa_48 fb_49 hp_45 hU hS => ?_)
            have hF1 := hF1.tr (m := ([16, 32, 33, 34], [(0, 37)])) fa_48 (by decide)
            have hF2 := hF2.tr (m := ([16, 32, 33, 34], [(0, 37)])) fb_49 (by decide)
            exact hret (⟨hG, hF1, hF2, sp_no (z := (-6)) (by unfold spStop; (repeat' split) <;> first | rfl | omega) (by decide) hp_45 (⟨fa_48 0 0 37 (by decide), fun k => ⟨fa_48.arr 32 0 k (by decide), fa_48.arr 33 0 k (by decide), fa_48.arr 34 0 k (by decide)⟩⟩)⟩) hU hS dX12_stop_51
      ·
        refine lv_aload_n hx hb dX12_stop_22 rfl (lv_at hl 0 rfl) ?_
        refine lv_bipush (v := (-4)) hx hb dX12_stop_23 (by decide) ?_
        refine q_fi (q_runV (t := 0) (i := 0) (As := [.int (-4)]) (rest := []) C hU (c_X12_refuse hG (-4) (by omega)) vm_X12_refuse ml_X12_164 k_0.1 (hc := rfl) rfl (h1_0 hG) hl.1 rfl rfl (Nat.le_of_ble_eq_true rfl) dX12_stop_25 rfl rfl ⟨Nat.le_of_ble_eq_true rfl, Nat.le_of_ble_eq_true rfl⟩ ⟨Nat.le_refl _, Nat.le_refl _⟩) hS (fun x_56 iv_52 rv_53 H locs hG fa_54 fb_55 hp_51 hU hS => ?_)
        have hF1 := hF1.tr (m := ([16, 32, 33, 34], [(0, 37)])) fa_54 (by decide)
        have hF2 := hF2.tr (m := ([16, 32, 33, 34], [(0, 37)])) fb_55 (by decide)
        exact hret (⟨hG, hF1, hF2, sp_no (z := (-4)) (by unfold spStop; (repeat' split) <;> first | rfl | omega) (by decide) hp_51 (⟨fa_54 0 0 37 (by decide), fun k => ⟨fa_54.arr 32 0 k (by decide), fa_54.arr 33 0 k (by decide), fa_54.arr 34 0 k (by decide)⟩⟩)⟩) hU hS dX12_stop_28
  ·
    refine lv_aload_n hx hb dX12_stop_7 rfl (lv_at hl 0 rfl) ?_
    refine lv_iconst (v := (-1)) hx hb dX12_stop_8 (by decide) ?_
    refine q_fi (q_runV (t := 0) (i := 0) (As := [.int (-1)]) (rest := []) C hU (c_X12_refuse hG (-1) (by omega)) vm_X12_refuse ml_X12_164 k_0.1 (hc := rfl) rfl (h1_0 hG) hl.1 rfl rfl (Nat.le_of_ble_eq_true rfl) dX12_stop_9 rfl rfl ⟨Nat.le_of_ble_eq_true rfl, Nat.le_of_ble_eq_true rfl⟩ ⟨Nat.le_refl _, Nat.le_refl _⟩) hS (fun x_62 iv_58 rv_59 H locs hG fa_60 fb_61 hp_57 hU hS => ?_)
    have hF1 := hF1.tr (m := ([16, 32, 33, 34], [(0, 37)])) fa_60 (by decide)
    have hF2 := hF2.tr (m := ([16, 32, 33, 34], [(0, 37)])) fb_61 (by decide)
    exact hret (⟨hG, hF1, hF2, sp_no (z := (-1)) (by unfold spStop; (repeat' split) <;> first | rfl | omega) (by decide) hp_57 (⟨fa_60 0 0 37 (by decide), fun k => ⟨fa_60.arr 32 0 k (by decide), fa_60.arr 33 0 k (by decide), fa_60.arr 34 0 k (by decide)⟩⟩)⟩) hU hS dX12_stop_12
set_option maxHeartbeats 4000000 in
set_option maxRecDepth 100000 in
theorem c_X0_addStop_y {l : Launch} {D : va_G} {cA : FieldType → ClassId} {sz : Nat} {al : Al} {iv : Iv} {rv : Rv} (hG : GI al iv rv) (ld : Int32) (a : Int32) (b : Int32) (pre0 : (iv 79 0 4).toInt < 20) (pre1 : 0 ≤ ld.toInt ∧ ld.toInt ≤ 4000) (pre2 : 0 ≤ a.toInt ∧ a.toInt ≤ 4000) (pre3 : 0 ≤ b.toInt ∧ b.toInt ≤ 4000) : Met l yX0_addStop (wd yX0_addStop cX0_addStop 4 (some .int)) (rm 0) (PcW D cA sz al iv rv [.ref (al.2 79 0), .int ld, .int a, .int b]) (QI D cA sz al (fI al ([81, 82, 83], [(79, 4)]) iv rv (fun r iv' rv' => r.toInt = (iv 79 0 4).toInt + 1 ∧ (iv' 79 0 4).toInt = (iv 79 0 4).toInt + 1 ∧ (∀ k : Nat, iv' 81 0 k = (if k = (iv 79 0 4).toNatClampNeg then ld else iv 81 0 k) ∧ iv' 82 0 k = (if k = (iv 79 0 4).toNatClampNeg then a else iv 82 0 k) ∧ iv' 83 0 k = (if k = (iv 79 0 4).toNatClampNeg then b else iv 83 0 k))))) 0 0 (Aq sz) := by
  refine mk_i (by decide) (Nat.le_of_ble_eq_true rfl) rfl ?_
  intro p e s m args below meth c ls Q H locs C hU hS hl hret
  have hx := C.1.1
  have hb := C.1.2.1
  have hl : lv_has ls 4 [(0, .ref (al.2 79 0)), (1, .int ld), (2, .int a), (3, .int b)] := hl
  have hG0 := hG
  have hF1 : FR ([81, 82, 83], [(79, 4)]) iv iv := FR.rf
  have hF2 : FR ([81, 82, 83], [(79, 4)]) rv rv := FR.rf
  have k1 : (1 : Int32).toInt = 1 := by decide
  refine lv_aload_n hx hb dX0_addStop_0 rfl (lv_at hl 0 rfl) ?_
  refine g_79_1 C hU hG (h1_79 hG) fl_X0_21 dX0_addStop_1 ?_
  refine lv_aload_n hx hb dX0_addStop_4 rfl (lv_at hl 0 rfl) ?_
  refine g_79_4 C hU hG (h1_79 hG) fl_X0_30 dX0_addStop_5 (fun x_1 e_2 le_2 ue_2 => ?_)
  have te_2 := congrArg Int32.toInt e_2
  refine lv_iload_n hx hb dX0_addStop_8 rfl (lv_at hl 1 rfl) ?_
  refine s_81 C hU hS (h1_81 hG) (x := x_1) (by omega) (by omega) dX0_addStop_9 (fun iv_3 H locs ei_4 hU hS => ?_)
  have hG : GI al iv_3 rv := by rw [ei_4]; exact hG.puti (show _ ∧ _ from ⟨show (0 : Int) ≤ _ by omega, show _ ≤ (4000 : Int) by omega⟩) (nsA (by decide) _)
  have hF1 : FR ([81, 82, 83], [(79, 4)]) iv iv_3 := by rw [ei_4]; exact hF1.put (Or.inl (by decide))
  have kf_5 := congrArg Int32.toInt (show iv_3 79 0 4 = iv 79 0 4 by rw [ei_4]; exact up3_ne (fun z => absurd z.1 (by decide)))
  refine lv_aload_n hx hb dX0_addStop_10 rfl (lv_at hl 0 rfl) ?_
  refine g_79_2 C hU hG (h1_79 hG) fl_X0_24 dX0_addStop_11 ?_
  refine lv_aload_n hx hb dX0_addStop_14 rfl (lv_at hl 0 rfl) ?_
  refine g_79_4 C hU hG (h1_79 hG) fl_X0_30 dX0_addStop_15 (fun x_6 e_7 le_7 ue_7 => ?_)
  have te_7 := congrArg Int32.toInt e_7
  refine lv_iload_n hx hb dX0_addStop_18 rfl (lv_at hl 2 rfl) ?_
  refine s_82 C hU hS (h1_82 hG) (x := x_6) (by omega) (by omega) dX0_addStop_19 (fun iv_8 H locs ei_9 hU hS => ?_)
  have hG : GI al iv_8 rv := by rw [ei_9]; exact hG.puti (show _ ∧ _ from ⟨show (0 : Int) ≤ _ by omega, show _ ≤ (4000 : Int) by omega⟩) (nsA (by decide) _)
  have hF1 : FR ([81, 82, 83], [(79, 4)]) iv iv_8 := by rw [ei_9]; exact hF1.put (Or.inl (by decide))
  have kf_10 := congrArg Int32.toInt (show iv_8 79 0 4 = iv_3 79 0 4 by rw [ei_9]; exact up3_ne (fun z => absurd z.1 (by decide)))
  refine lv_aload_n hx hb dX0_addStop_20 rfl (lv_at hl 0 rfl) ?_
  refine g_79_3 C hU hG (h1_79 hG) fl_X0_27 dX0_addStop_21 ?_
  refine lv_aload_n hx hb dX0_addStop_24 rfl (lv_at hl 0 rfl) ?_
  refine g_79_4 C hU hG (h1_79 hG) fl_X0_30 dX0_addStop_25 (fun x_11 e_12 le_12 ue_12 => ?_)
  have te_12 := congrArg Int32.toInt e_12
  refine lv_iload_n hx hb dX0_addStop_28 rfl (lv_at hl 3 rfl) ?_
  refine s_83 C hU hS (h1_83 hG) (x := x_11) (by omega) (by omega) dX0_addStop_29 (fun iv_13 H locs ei_14 hU hS => ?_)
  have hG : GI al iv_13 rv := by rw [ei_14]; exact hG.puti (show _ ∧ _ from ⟨show (0 : Int) ≤ _ by omega, show _ ≤ (4000 : Int) by omega⟩) (nsA (by decide) _)
  have hF1 : FR ([81, 82, 83], [(79, 4)]) iv iv_13 := by rw [ei_14]; exact hF1.put (Or.inl (by decide))
  have kf_15 := congrArg Int32.toInt (show iv_13 79 0 4 = iv_8 79 0 4 by rw [ei_14]; exact up3_ne (fun z => absurd z.1 (by decide)))
  refine lv_aload_n hx hb dX0_addStop_30 rfl (lv_at hl 0 rfl) ?_
  refine lv_dup hx hb dX0_addStop_31 rfl ?_
  refine g_79_4 C hU hG (h1_79 hG) fl_X0_30 dX0_addStop_32 (fun x_16 e_17 le_17 ue_17 => ?_)
  have te_17 := congrArg Int32.toInt e_17
  refine lv_iconst (v := 1) hx hb dX0_addStop_35 (by decide) ?_
  refine lv_iadd hx hb dX0_addStop_36 ?_
  refine lv_topi (fun x_18 e_19 => ?_)
  have te_19 : x_18.toInt = (x_16 : Int32).toInt + (1 : Int32).toInt := by rw [e_19]; exact fb_addI (by omega) (by omega)
  refine p_79_4 C hU hS (h1_79 hG) fl_X0_30 dX0_addStop_37 (fun iv_20 H locs ei_21 hU hS => ?_)
  have hG : GI al iv_20 rv := by rw [ei_21]; exact hG.puti (show _ ∧ _ from ⟨show (0 : Int) ≤ _ by omega, show _ ≤ (20 : Int) by omega⟩) (nsF (by decide))
  have hF1 : FR ([81, 82, 83], [(79, 4)]) iv iv_20 := by rw [ei_21]; exact hF1.put (by decide)
  refine lv_aload_n hx hb dX0_addStop_40 rfl (lv_at hl 0 rfl) ?_
  refine g_79_4 C hU hG (h1_79 hG) fl_X0_30 dX0_addStop_41 (fun x_22 e_23 le_23 ue_23 => ?_)
  have te_23 := congrArg Int32.toInt e_23
  have hz_ := e_23
  rw [ei_21, up3_self] at hz_
  have tz_ := congrArg Int32.toInt hz_
  exact hret (⟨hG, hF1, hF2, ⟨by omega, by rw [ei_21, up3_self]; omega, fun k => ⟨by rw [ei_21, up3_ne (fun z => absurd z.1 (by decide)), ei_14, up3_ne (fun z => absurd z.1 (by decide)), ei_9, up3_ne (fun z => absurd z.1 (by decide)), ei_4, clamp_eq (show (x_1 : Int32).toInt = (iv 79 0 4).toInt by omega), up3_k], by rw [ei_21, up3_ne (fun z => absurd z.1 (by decide)), ei_14, up3_ne (fun z => absurd z.1 (by decide)), ei_9, clamp_eq (show (x_6 : Int32).toInt = (iv 79 0 4).toInt by omega), up3_k, ei_4, up3_ne (fun z => absurd z.1 (by decide))], by rw [ei_21, up3_ne (fun z => absurd z.1 (by decide)), ei_14, clamp_eq (show (x_11 : Int32).toInt = (iv 79 0 4).toInt by omega), up3_k, ei_9, up3_ne (fun z => absurd z.1 (by decide)), ei_4, up3_ne (fun z => absurd z.1 (by decide))]⟩⟩⟩) hU hS dX0_addStop_44
set_option maxHeartbeats 4000000 in
set_option maxRecDepth 100000 in
theorem c_X11_stop_y {l : Launch} {D : va_G} {cA : FieldType → ClassId} {sz : Nat} {al : Al} {iv : Iv} {rv : Rv} (hG : GI al iv rv) (lw : Int32) (a : Int32) (b : Int32) : Met l yX11_stop (wd yX11_stop cX11_stop 4 (some .int)) (rm 2) (PcW D cA sz al iv rv [.ref (al.2 49 0), .int lw, .int a, .int b]) (QI D cA sz al (fI al ([51, 81, 82, 83], [(79, 4)]) iv rv (fun r iv' rv' => (spStop lw a b (iv 79 0 4).toInt = 0 ∧ r.toInt = (iv 79 0 4).toInt + 1 ∧ (iv' 79 0 4).toInt = (iv 79 0 4).toInt + 1 ∧ (∀ k : Nat, iv' 81 0 k = (if k = (iv 79 0 4).toNatClampNeg then lw else iv 81 0 k) ∧ iv' 82 0 k = (if k = (iv 79 0 4).toNatClampNeg then a else iv 82 0 k) ∧ iv' 83 0 k = (if k = (iv 79 0 4).toNatClampNeg then b else iv 83 0 k))) ∨ (spStop lw a b (iv 79 0 4).toInt ≠ 0 ∧ r = spStop lw a b (iv 79 0 4).toInt ∧ iv' 79 0 4 = iv 79 0 4 ∧ (∀ k : Nat, iv' 81 0 k = iv 81 0 k ∧ iv' 82 0 k = iv 82 0 k ∧ iv' 83 0 k = iv 83 0 k))))) 0 0 (Aq sz) := by
  refine mk_i (by decide) (Nat.le_of_ble_eq_true rfl) rfl ?_
  intro p e s m args below meth c ls Q H locs C hU hS hl hret
  have hx := C.1.1
  have hb := C.1.2.1
  have hl : lv_has ls 4 [(0, .ref (al.2 49 0)), (1, .int lw), (2, .int a), (3, .int b)] := hl
  have hG0 := hG
  have hF1 : FR ([51, 81, 82, 83], [(79, 4)]) iv iv := FR.rf
  have hF2 : FR ([51, 81, 82, 83], [(79, 4)]) rv rv := FR.rf
  have km6 : ((-6) : Int32).toInt = -6 := by decide
  have km4 : ((-4) : Int32).toInt = -4 := by decide
  have km1 : ((-1) : Int32).toInt = -1 := by decide
  have k4 : (4 : Int32).toInt = 4 := by decide
  have k4000 : (4000 : Int32).toInt = 4000 := by decide
  refine lv_iconst (v := 4) hx hb dX11_stop_0 (by decide) ?_
  refine lv_iload_n hx hb dX11_stop_1 rfl (lv_at hl 1 rfl) ?_
  refine q_pi (q_runS (As := [.int 4, .int lw]) (rest := []) C hU (c_X11_isOneOf  4 lw ) sm_X11_isOneOf ml_X11_85 hl.1 rfl rfl (Nat.le_of_ble_eq_true rfl) dX11_stop_2 rfl rfl ⟨Nat.le_of_ble_eq_true rfl, Nat.le_of_ble_eq_true rfl⟩ ⟨Nat.le_refl _, Nat.le_refl _⟩) hS (fun x_2 H locs hp_1 hU hS => ?_)
  refine b_if_ne (tgt := 14) hx hb dX11_stop_5 (by decide) (fun c_3 => ?_) (fun c_3 => ?_)
  ·
    refine lv_iload_n hx hb dX11_stop_14 rfl (lv_at hl 2 rfl) ?_
    refine b_if_lt (tgt := 23) hx hb dX11_stop_15 (by decide) (fun c_4 => ?_) (fun c_4 => ?_)
    ·
      refine lv_aload_n hx hb dX11_stop_23 rfl (lv_at hl 0 rfl) ?_
      refine lv_bipush (v := (-4)) hx hb dX11_stop_24 (by decide) ?_
      refine q_fi (q_runV (t := 49) (i := 0) (As := [.int (-4)]) (rest := []) C hU (c_X11_refuse hG (-4) (by omega)) vm_X11_refuse ml_X11_77 k_49.1 (hc := rfl) rfl (h1_49 hG) hl.1 rfl rfl (Nat.le_of_ble_eq_true rfl) dX11_stop_26 rfl rfl ⟨Nat.le_of_ble_eq_true rfl, Nat.le_of_ble_eq_true rfl⟩ ⟨Nat.le_refl _, Nat.le_refl _⟩) hS (fun x_10 iv_6 rv_7 H locs hG fa_8 fb_9 hp_5 hU hS => ?_)
      have hF1 := hF1.tr (m := ([51, 81, 82, 83], [(79, 4)])) fa_8 (by decide)
      have hF2 := hF2.tr (m := ([51, 81, 82, 83], [(79, 4)])) fb_9 (by decide)
      exact hret (⟨hG, hF1, hF2, sp_no (z := (-4)) (by unfold spStop; (repeat' split) <;> first | rfl | omega) (by decide) hp_5 (⟨fa_8 79 0 4 (by decide), fun k => ⟨fa_8.arr 81 0 k (by decide), fa_8.arr 82 0 k (by decide), fa_8.arr 83 0 k (by decide)⟩⟩)⟩) hU hS dX11_stop_29
    ·
      refine lv_iload_n hx hb dX11_stop_18 rfl (lv_at hl 3 rfl) ?_
      refine lv_iload_n hx hb dX11_stop_19 rfl (lv_at hl 2 rfl) ?_
      refine b_icmp_ge (tgt := 30) hx hb dX11_stop_20 (by decide) (fun c_11 => ?_) (fun c_11 => ?_)
      ·
        refine lv_iload_n hx hb dX11_stop_30 rfl (lv_at hl 2 rfl) ?_
        refine lv_sipush (v := 4000) hx hb dX11_stop_31 (by decide) ?_
        refine b_icmp_gt (tgt := 54) hx hb dX11_stop_34 (by decide) (fun c_12 => ?_) (fun c_12 => ?_)
        ·
          refine lv_aload_n hx hb dX11_stop_54 rfl (lv_at hl 0 rfl) ?_
          refine lv_bipush (v := (-6)) hx hb dX11_stop_55 (by decide) ?_
          refine q_fi (q_runV (t := 49) (i := 0) (As := [.int (-6)]) (rest := []) C hU (c_X11_refuse hG (-6) (by omega)) vm_X11_refuse ml_X11_77 k_49.1 (hc := rfl) rfl (h1_49 hG) hl.1 rfl rfl (Nat.le_of_ble_eq_true rfl) dX11_stop_57 rfl rfl ⟨Nat.le_of_ble_eq_true rfl, Nat.le_of_ble_eq_true rfl⟩ ⟨Nat.le_refl _, Nat.le_refl _⟩) hS (fun x_18 iv_14 rv_15 H locs hG fa_16 fb_17 hp_13 hU hS => ?_)
          have hF1 := hF1.tr (m := ([51, 81, 82, 83], [(79, 4)])) fa_16 (by decide)
          have hF2 := hF2.tr (m := ([51, 81, 82, 83], [(79, 4)])) fb_17 (by decide)
          exact hret (⟨hG, hF1, hF2, sp_no (z := (-6)) (by unfold spStop; (repeat' split) <;> first | rfl | omega) (by decide) hp_13 (⟨fa_16 79 0 4 (by decide), fun k => ⟨fa_16.arr 81 0 k (by decide), fa_16.arr 82 0 k (by decide), fa_16.arr 83 0 k (by decide)⟩⟩)⟩) hU hS dX11_stop_60
        ·
          refine lv_iload_n hx hb dX11_stop_37 rfl (lv_at hl 3 rfl) ?_
          refine lv_sipush (v := 4000) hx hb dX11_stop_38 (by decide) ?_
          refine b_icmp_gt (tgt := 54) hx hb dX11_stop_41 (by decide) (fun c_19 => ?_) (fun c_19 => ?_)
          ·
            refine lv_aload_n hx hb dX11_stop_54 rfl (lv_at hl 0 rfl) ?_
            refine lv_bipush (v := (-6)) hx hb dX11_stop_55 (by decide) ?_
            refine q_fi (q_runV (t := 49) (i := 0) (As := [.int (-6)]) (rest := []) C hU (c_X11_refuse hG (-6) (by omega)) vm_X11_refuse ml_X11_77 k_49.1 (hc := rfl) rfl (h1_49 hG) hl.1 rfl rfl (Nat.le_of_ble_eq_true rfl) dX11_stop_57 rfl rfl ⟨Nat.le_of_ble_eq_true rfl, Nat.le_of_ble_eq_true rfl⟩ ⟨Nat.le_refl _, Nat.le_refl _⟩) hS (fun x_25 iv_21 rv_22 H locs hG fa_23 fb_24 hp_20 hU hS => ?_)
            have hF1 := hF1.tr (m := ([51, 81, 82, 83], [(79, 4)])) fa_23 (by decide)
            have hF2 := hF2.tr (m := ([51, 81, 82, 83], [(79, 4)])) fb_24 (by decide)
            exact hret (⟨hG, hF1, hF2, sp_no (z := (-6)) (by unfold spStop; (repeat' split) <;> first | rfl | omega) (by decide) hp_20 (⟨fa_23 79 0 4 (by decide), fun k => ⟨fa_23.arr 81 0 k (by decide), fa_23.arr 82 0 k (by decide), fa_23.arr 83 0 k (by decide)⟩⟩)⟩) hU hS dX11_stop_60
          ·
            refine lv_aload_n hx hb dX11_stop_44 rfl (lv_at hl 0 rfl) ?_
            refine g_49_4 C hU hG (h1_49 hG) fl_X11_40 dX11_stop_45 ?_
            refine q_pi (q_runV (t := 79) (i := 0) (As := []) (rest := []) C hU (c_X0_isFull hG  ) vm_X0_isFull ml_X11_250 k_79.1 (hc := rfl) rfl (h1_79 hG) hl.1 rfl rfl (Nat.le_of_ble_eq_true rfl) dX11_stop_48 rfl rfl ⟨Nat.le_of_ble_eq_true rfl, Nat.le_of_ble_eq_true rfl⟩ ⟨Nat.le_refl _, Nat.le_refl _⟩) hS (fun x_27 H locs hp_26 hU hS => ?_)
            refine b_if_eq (tgt := 61) hx hb dX11_stop_51 (by decide) (fun c_28 => ?_) (fun c_28 => ?_)
            ·
              refine lv_aload_n hx hb dX11_stop_61 rfl (lv_at hl 0 rfl) ?_
              refine g_49_4 C hU hG (h1_49 hG) fl_X11_40 dX11_stop_62 ?_
              refine lv_iload_n hx hb dX11_stop_65 rfl (lv_at hl 1 rfl) ?_
              refine lv_iload_n hx hb dX11_stop_66 rfl (lv_at hl 2 rfl) ?_
              refine lv_iload_n hx hb dX11_stop_67 rfl (lv_at hl 3 rfl) ?_
              refine q_fi (q_runV (t := 79) (i := 0) (As := [.int lw, .int a, .int b]) (rest := []) C hU (c_X0_addStop_y hG lw a b (by omega) (by omega) (by omega) (by omega)) vm_X0_addStop ml_X11_251 k_79.1 (hc := rfl) rfl (h1_79 hG) hl.1 rfl rfl (Nat.le_of_ble_eq_true rfl) dX11_stop_68 rfl rfl ⟨Nat.le_of_ble_eq_true rfl, Nat.le_of_ble_eq_true rfl⟩ ⟨Nat.le_refl _, Nat.le_refl _⟩) hS (fun x_34 iv_30 rv_31 H locs hG fa_32 fb_33 hp_29 hU hS => ?_)
              have hF1 := hF1.tr (m := ([51, 81, 82, 83], [(79, 4)])) fa_32 (by decide)
              have hF2 := hF2.tr (m := ([51, 81, 82, 83], [(79, 4)])) fb_33 (by decide)
              exact hret (⟨hG, hF1, hF2, Or.inl ⟨(by unfold spStop; (repeat' split) <;> first | rfl | omega), hp_29.1, hp_29.2.1, hp_29.2.2⟩⟩) hU hS dX11_stop_71
            ·
              refine lv_aload_n hx hb dX11_stop_54 rfl (lv_at hl 0 rfl) ?_
              refine lv_bipush (v := (-6)) hx hb dX11_stop_55 (by decide) ?_
              refine q_fi (q_runV (t := 49) (i := 0) (As := [.int (-6)]) (rest := []) C hU (c_X11_refuse hG (-6) (by omega)) vm_X11_refuse ml_X11_77 k_49.1 (hc := rfl) rfl (h1_49 hG) hl.1 rfl rfl (Nat.le_of_ble_eq_true rfl) dX11_stop_57 rfl rfl ⟨Nat.le_of_ble_eq_true rfl, Nat.le_of_ble_eq_true rfl⟩ ⟨Nat.le_refl _, Nat.le_refl _⟩) hS (fun x_40 iv_36 rv_37 H locs hG fa_38 fb_39 hp_35 hU hS => ?_)
              have hF1 := hF1.tr (m := ([51, 81, 82, 83], [(79, 4)])) fa_38 (by decide)
              have hF2 := hF2.tr (m := ([51, 81, 82, 83], [(79, 4)])) fb_39 (by decide)
              exact hret (⟨hG, hF1, hF2, sp_no (z := (-6)) (by unfold spStop; (repeat' split) <;> first | rfl | omega) (by decide) hp_35 (⟨fa_38 79 0 4 (by decide), fun k => ⟨fa_38.arr 81 0 k (by decide), fa_38.arr 82 0 k (by decide), fa_38.arr 83 0 k (by decide)⟩⟩)⟩) hU hS dX11_stop_60
      ·
        refine lv_aload_n hx hb dX11_stop_23 rfl (lv_at hl 0 rfl) ?_
        refine lv_bipush (v := (-4)) hx hb dX11_stop_24 (by decide) ?_
        refine q_fi (q_runV (t := 49) (i := 0) (As := [.int (-4)]) (rest := []) C hU (c_X11_refuse hG (-4) (by omega)) vm_X11_refuse ml_X11_77 k_49.1 (hc := rfl) rfl (h1_49 hG) hl.1 rfl rfl (Nat.le_of_ble_eq_true rfl) dX11_stop_26 rfl rfl ⟨Nat.le_of_ble_eq_true rfl, Nat.le_of_ble_eq_true rfl⟩ ⟨Nat.le_refl _, Nat.le_refl _⟩) hS (fun x_46 iv_42 rv_43 H locs hG fa_44 fb_45 hp_41 hU hS => ?_)
        have hF1 := hF1.tr (m := ([51, 81, 82, 83], [(79, 4)])) fa_44 (by decide)
        have hF2 := hF2.tr (m := ([51, 81, 82, 83], [(79, 4)])) fb_45 (by decide)
        exact hret (⟨hG, hF1, hF2, sp_no (z := (-4)) (by unfold spStop; (repeat' split) <;> first | rfl | omega) (by decide) hp_41 (⟨fa_44 79 0 4 (by decide), fun k => ⟨fa_44.arr 81 0 k (by decide), fa_44.arr 82 0 k (by decide), fa_44.arr 83 0 k (by decide)⟩⟩)⟩) hU hS dX11_stop_29
  ·
    refine lv_aload_n hx hb dX11_stop_8 rfl (lv_at hl 0 rfl) ?_
    refine lv_iconst (v := (-1)) hx hb dX11_stop_9 (by decide) ?_
    refine q_fi (q_runV (t := 49) (i := 0) (As := [.int (-1)]) (rest := []) C hU (c_X11_refuse hG (-1) (by omega)) vm_X11_refuse ml_X11_77 k_49.1 (hc := rfl) rfl (h1_49 hG) hl.1 rfl rfl (Nat.le_of_ble_eq_true rfl) dX11_stop_10 rfl rfl ⟨Nat.le_of_ble_eq_true rfl, Nat.le_of_ble_eq_true rfl⟩ ⟨Nat.le_refl _, Nat.le_refl _⟩) hS (fun x_52 iv_48 rv_49 H locs hG fa_50 fb_51 hp_47 hU hS => ?_)
    have hF1 := hF1.tr (m := ([51, 81, 82, 83], [(79, 4)])) fa_50 (by decide)
    have hF2 := hF2.tr (m := ([51, 81, 82, 83], [(79, 4)])) fb_51 (by decide)
    exact hret (⟨hG, hF1, hF2, sp_no (z := (-1)) (by unfold spStop; (repeat' split) <;> first | rfl | omega) (by decide) hp_47 (⟨fa_50 79 0 4 (by decide), fun k => ⟨fa_50.arr 81 0 k (by decide), fa_50.arr 82 0 k (by decide), fa_50.arr 83 0 k (by decide)⟩⟩)⟩) hU hS dX11_stop_13
set_option maxHeartbeats 4000000 in
set_option maxRecDepth 100000 in
theorem c_X12_hasLaw_x {l : Launch} {D : va_G} {cA : FieldType → ClassId} {sz : Nat} {al : Al} {iv : Iv} {rv : Rv} (hG : GI al iv rv) (lw : Int32) (d : Int32) : Met l yX12_hasLaw (wd yX12_hasLaw cX12_hasLaw 5 (some .boolean)) (rm 0) (PcW D cA sz al iv rv [.ref (al.2 0 0), .int lw, .int d]) (QI D cA sz al (pI iv rv (fun r => (0 ≤ r.toInt ∧ r.toInt ≤ 1) ∧ (r = hlF iv lw d)))) 0 0 (Aq sz) := by
  refine mk_z (by decide) (Nat.le_of_ble_eq_true rfl) rfl ?_
  intro p e s m args below meth c ls Q H locs C hU hS hl hret
  have hx := C.1.1
  have hb := C.1.2.1
  have hl : lv_has ls 5 [(0, .ref (al.2 0 0)), (1, .int lw), (2, .int d)] := hl
  have hG0 := hG
  have h6 := le6 hG
  have h20 := le20 hG
  have h41 := le41 hG
  have l24 := le24 hG
  have k0 : (0 : Int32).toInt = 0 := by decide
  have k1 : (1 : Int32).toInt = 1 := by decide
  refine lv_iconst (v := 0) hx hb dX12_hasLaw_0 (by decide) ?_
  refine lv_istore_n (lv' := [(3, .int 0), (0, .ref (al.2 0 0)), (1, .int lw), (2, .int d)]) hx hb dX12_hasLaw_1 rfl hl (by decide) rfl (fun ls hl => ?_)
  refine lv_iconst (v := 0) hx hb dX12_hasLaw_2 (by decide) ?_
  refine lv_istore (lv' := [(4, .int 0), (3, .int 0), (0, .ref (al.2 0 0)), (1, .int lw), (2, .int d)]) hx hb dX12_hasLaw_3 hl (by decide) rfl (fun ls hl => ?_)
  have J_5 : ∀ (n_5 : Nat) (l3_1 : Int32) (l4_2 : Int32) (ls : Array Slot), lv_has ls 5 [(0, .ref (al.2 0 0)), (1, .int lw), (2, .int d), (3, .int l3_1), (4, .int l4_2)] → (0 ≤ l3_1.toInt ∧ l3_1.toInt ≤ 1) → (0 ≤ l4_2.toInt ∧ l4_2.toInt ≤ 30) → l3_1 = hlN iv lw.toInt d.toInt l4_2.toNatClampNeg → l4_2.toInt ≤ (iv 0 0 24).toInt → (30 - l4_2.toInt).toNat < n_5 → W p l e (rm 0) s m args below meth c H locs 0 0 Q (F0 m 5 ls []) := by
    intro n_5
    induction n_5 with
    | zero =>
      intro l3_1 l4_2 ls hl i5_0 i5_1 i5_2 i5_3 hm_5
      exact absurd hm_5 (Nat.not_lt_zero _)
    | succ n_5 ih_5 =>
      intro l3_1 l4_2 ls hl i5_0 i5_1 i5_2 i5_3 hm_5
      refine lv_iload hx hb dX12_hasLaw_5 (lv_at hl 4 rfl) ?_
      refine lv_aload_n hx hb dX12_hasLaw_7 rfl (lv_at hl 0 rfl) ?_
      refine g_0_24 C hU hG (h1_0 hG) fl_X12_247 dX12_hasLaw_8 (fun x_3 e_4 le_4 ue_4 => ?_)
      have te_4 := congrArg Int32.toInt e_4
      refine b_icmp_ge (tgt := 52) hx hb dX12_hasLaw_11 (by decide) (fun c_5 => ?_) (fun c_5 => ?_)
      ·
        refine lv_iload_n hx hb dX12_hasLaw_52 rfl (lv_at hl 3 rfl) ?_
        exact hret (by omega) (by omega) (⟨rfl, rfl, ⟨⟨by omega, by omega⟩, by unfold hlF; rw [i5_2, clamp_eq (show (l4_2 : Int32).toInt = (iv 0 0 24).toInt by omega)]⟩⟩) hU hS dX12_hasLaw_53
      ·
        refine lv_iload_n hx hb dX12_hasLaw_14 rfl (lv_at hl 3 rfl) ?_
        have J_45 : ∀ (v_6 : Int32) (ls : Array Slot), lv_has ls 5 [(0, .ref (al.2 0 0)), (1, .int lw), (2, .int d), (4, .int l4_2)] → (0 ≤ v_6.toInt ∧ v_6.toInt ≤ 1) → v_6 = hlN iv lw.toInt d.toInt (l4_2.toNatClampNeg + 1) → W p l e (rm 0) s m args below meth c H locs 0 0 Q (F0 m 45 ls [.int v_6]) := by
          intro v_6 ls hl i45_0 i45_1
          refine lv_istore_n (lv' := [(3, .int v_6), (0, .ref (al.2 0 0)), (1, .int lw), (2, .int d), (4, .int l4_2)]) hx hb dX12_hasLaw_45 rfl hl (by decide) rfl (fun ls hl => ?_)
          obtain ⟨x_7, e_8⟩ : ∃ y : Int32, y = l4_2 + 1 := ⟨_, rfl⟩
          have te_8 : x_7.toInt = (l4_2 : Int32).toInt + (1 : Int32).toInt := by rw [e_8]; exact fb_addI (by omega) (by omega)
          refine lv_iinc (v := x_7) (lv' := [(4, .int x_7), (3, .int v_6), (0, .ref (al.2 0 0)), (1, .int lw), (2, .int d)]) hx hb dX12_hasLaw_46 hl (k := 4) rfl (by rw [e_8]; rfl) (by decide) rfl (fun ls hl => ?_)
          refine lv_goto (tgt := 5) hx hb dX12_hasLaw_49 (by decide) ?_
          exact ih_5 v_6 x_7 _ (lv_sub hl [2, 3, 4, 1, 0] rfl) (by omega) (by omega) (by first | exact hl_up (by omega) (by omega) i45_1 | exact hl_0) (by omega) (by omega)
        have J_40 : ∀ (ls : Array Slot), lv_has ls 5 [(0, .ref (al.2 0 0)), (1, .int lw), (2, .int d), (4, .int l4_2)] → ((¬ l3_1.toInt = 0) ∨ ((iv 21 0 l4_2.toNatClampNeg).toInt = lw.toInt ∧ (iv 22 0 l4_2.toNatClampNeg).toInt ≤ d.toInt)) → W p l e (rm 0) s m args below meth c H locs 0 0 Q (F0 m 40 ls []) := by
          intro ls hl i40_0
          refine lv_iconst (v := 1) hx hb dX12_hasLaw_40 (by decide) ?_
          refine lv_goto (tgt := 45) hx hb dX12_hasLaw_41 (by decide) ?_
          exact J_45 1 _ (lv_sub hl [0, 1, 2, 3] rfl) (by omega) (by first | exact hl_y i5_2 i40_0 | exact hl_n i5_2 True.intro)
        refine b_if_ne (tgt := 40) hx hb dX12_hasLaw_15 (by decide) (fun c_9 => ?_) (fun c_9 => ?_)
        ·
          exact J_40 _ (lv_sub hl [0, 1, 2, 4] rfl) (by omega)
        ·
          refine lv_aload_n hx hb dX12_hasLaw_18 rfl (lv_at hl 0 rfl) ?_
          refine g_0_25 C hU hG (h1_0 hG) fl_X12_71 dX12_hasLaw_19 ?_
          refine lv_iload hx hb dX12_hasLaw_22 (lv_at hl 4 rfl) ?_
          refine a_21 C hU hG (h1_21 hG) (x := l4_2) (by omega) (by omega) dX12_hasLaw_24 (fun x_10 e_11 le_11 ue_11 => ?_)
          have te_11 := congrArg Int32.toInt e_11
          refine lv_iload_n hx hb dX12_hasLaw_25 rfl (lv_at hl 1 rfl) ?_
          have J_44 : ∀ (ls : Array Slot), lv_has ls 5 [(0, .ref (al.2 0 0)), (1, .int lw), (2, .int d), (4, .int l4_2)] → (¬ ((¬ l3_1.toInt = 0) ∨ ((iv 21 0 l4_2.toNatClampNeg).toInt = lw.toInt ∧ (iv 22 0 l4_2.toNatClampNeg).toInt ≤ d.toInt))) → W p l e (rm 0) s m args below meth c H locs 0 0 Q (F0 m 44 ls []) := by
            intro ls hl i44_0
            refine lv_iconst (v := 0) hx hb dX12_hasLaw_44 (by decide) ?_
            exact J_45 0 _ (lv_sub hl [0, 1, 2, 3] rfl) (by omega) (by first | exact hl_y i5_2 i40_0 | exact hl_n i5_2 i44_0)
          refine b_icmp_ne (tgt := 44) hx hb dX12_hasLaw_26 (by decide) (fun c_12 => ?_) (fun c_12 => ?_)
          ·
            exact J_44 _ (lv_sub hl [0, 1, 2, 4] rfl) (by omega)
          ·
            refine lv_aload_n hx hb dX12_hasLaw_29 rfl (lv_at hl 0 rfl) ?_
            refine g_0_26 C hU hG (h1_0 hG) fl_X12_74 dX12_hasLaw_30 ?_
            refine lv_iload hx hb dX12_hasLaw_33 (lv_at hl 4 rfl) ?_
            refine a_22 C hU hG (h1_22 hG) (x := l4_2) (by omega) (by omega) dX12_hasLaw_35 (fun x_13 e_14 le_14 ue_14 => ?_)
            have te_14 := congrArg Int32.toInt e_14
            refine lv_iload_n hx hb dX12_hasLaw_36 rfl (lv_at hl 2 rfl) ?_
            refine b_icmp_gt (tgt := 44) hx hb dX12_hasLaw_37 (by decide) (fun c_15 => ?_) (fun c_15 => ?_)
            ·
              exact J_44 _ (lv_sub hl [0, 1, 2, 4] rfl) (by omega)
            ·
              exact J_40 _ (lv_sub hl [0, 1, 2, 4] rfl) (by omega)
  exact J_5 _ 0 0 _ (lv_sub hl [2, 3, 4, 1, 0] rfl) (by omega) (by omega) (by first | exact hl_up (by omega) (by omega) i45_1 | exact hl_0) (by omega) (Nat.lt_succ_self _)
end
section
set_option maxHeartbeats 4000000 in
set_option maxRecDepth 100000 in
theorem c_X12_lawOf_x {l : Launch} {D : va_G} {cA : FieldType → ClassId} {sz : Nat} {al : Al} {iv : Iv} {rv : Rv} (hG : GI al iv rv) (tt : Int32) (d : Int32) (pre0 : 0 ≤ tt.toInt ∧ tt.toInt < (iv 0 0 20).toInt) : Met l yX12_lawOf (wd yX12_lawOf cX12_lawOf 5 (some .int)) (rm 1) (PcW D cA sz al iv rv [.ref (al.2 0 0), .int tt, .int d]) (QI D cA sz al (pI iv rv (fun r => (-9 ≤ r.toInt ∧ r.toInt ≤ 3) ∧ (r = lwF iv tt.toNatClampNeg d ∧ (r.toInt = -9 ∨ 0 ≤ r.toInt))))) 0 0 (Aq sz) := by
  refine mk_i (by decide) (Nat.le_of_ble_eq_true rfl) rfl ?_
  intro p e s m args below meth c ls Q H locs C hU hS hl hret
  have hx := C.1.1
  have hb := C.1.2.1
  have hl : lv_has ls 5 [(0, .ref (al.2 0 0)), (1, .int tt), (2, .int d)] := hl
  have hG0 := hG
  have h6 := le6 hG
  have h20 := le20 hG
  have h41 := le41 hG
  have h20 := le20 hG
  have km9 : ((-9) : Int32).toInt = -9 := by decide
  refine lv_aload_n hx hb dX12_lawOf_0 rfl (lv_at hl 0 rfl) ?_
  refine g_0_1 C hU hG (h1_0 hG) fl_X12_7 dX12_lawOf_1 ?_
  refine lv_aload_n hx hb dX12_lawOf_4 rfl (lv_at hl 0 rfl) ?_
  refine g_0_7 C hU hG (h1_0 hG) fl_X12_22 dX12_lawOf_5 ?_
  refine lv_aload_n hx hb dX12_lawOf_8 rfl (lv_at hl 0 rfl) ?_
  refine lv_iload_n hx hb dX12_lawOf_9 rfl (lv_at hl 1 rfl) ?_
  refine q_pi (q_runV (t := 0) (i := 0) (As := [.int tt]) (rest := [.ref (al.2 5 0), .ref (al.2 1 0)]) C hU (c_X12_firstLeg_x hG tt (by omega)) vm_X12_firstLeg ml_X12_253 k_0.1 (hc := rfl) rfl (h1_0 hG) hl.1 rfl rfl (Nat.le_of_ble_eq_true rfl) dX12_lawOf_10 rfl rfl ⟨Nat.le_of_ble_eq_true rfl, Nat.le_of_ble_eq_true rfl⟩ ⟨Nat.le_refl _, Nat.le_refl _⟩) hS (fun x_2 H locs hp_1 hU hS => ?_)
  refine a_5 C hU hG (h1_5 hG) (x := x_2) (by omega) (by omega) dX12_lawOf_13 (fun x_3 e_4 le_4 ue_4 => ?_)
  have te_4 := congrArg Int32.toInt e_4
  have h13 := e_4
  rw [hp_1.2] at h13
  refine a_1 C hU hG (h1_1 hG) (x := x_3) (by omega) (by omega) dX12_lawOf_14 (fun x_5 e_6 le_6 ue_6 => ?_)
  have te_6 := congrArg Int32.toInt e_6
  have h14 := e_6
  rw [h13] at h14
  refine lv_istore_n (lv' := [(3, .int x_5), (0, .ref (al.2 0 0)), (1, .int tt), (2, .int d)]) hx hb dX12_lawOf_15 rfl hl (by decide) rfl (fun ls hl => ?_)
  refine lv_aload_n hx hb dX12_lawOf_16 rfl (lv_at hl 1 rfl) ?_
  refine g_0_1 C hU hG (h1_0 hG) fl_X12_7 dX12_lawOf_17 ?_
  refine lv_aload_n hx hb dX12_lawOf_20 rfl (lv_at hl 1 rfl) ?_
  refine g_0_8 C hU hG (h1_0 hG) fl_X12_25 dX12_lawOf_21 ?_
  refine lv_aload_n hx hb dX12_lawOf_24 rfl (lv_at hl 1 rfl) ?_
  refine lv_iload_n hx hb dX12_lawOf_25 rfl (lv_at hl 2 rfl) ?_
  refine q_pi (q_runV (t := 0) (i := 0) (As := [.int tt]) (rest := [.ref (al.2 6 0), .ref (al.2 1 0)]) C hU (c_X12_lastLeg_x hG tt (by omega)) vm_X12_lastLeg ml_X12_232 k_0.1 (hc := rfl) rfl (h1_0 hG) hl.1 rfl rfl (Nat.le_of_ble_eq_true rfl) dX12_lawOf_26 rfl rfl ⟨Nat.le_of_ble_eq_true rfl, Nat.le_of_ble_eq_true rfl⟩ ⟨Nat.le_refl _, Nat.le_refl _⟩) hS (fun x_8 H locs hp_7 hU hS => ?_)
  refine a_6 C hU hG (h1_6 hG) (x := x_8) (by omega) (by omega) dX12_lawOf_29 (fun x_9 e_10 le_10 ue_10 => ?_)
  have te_10 := congrArg Int32.toInt e_10
  have h29 := e_10
  rw [hp_7.2] at h29
  refine a_1 C hU hG (h1_1 hG) (x := x_9) (by omega) (by omega) dX12_lawOf_30 (fun x_11 e_12 le_12 ue_12 => ?_)
  have te_12 := congrArg Int32.toInt e_12
  have h30 := e_12
  rw [h29] at h30
  refine lv_istore (lv' := [(4, .int x_11), (3, .int x_5), (0, .ref (al.2 0 0)), (1, .int tt), (2, .int d)]) hx hb dX12_lawOf_31 hl (by decide) rfl (fun ls hl => ?_)
  refine lv_aload_n hx hb dX12_lawOf_33 rfl (lv_at hl 2 rfl) ?_
  refine lv_iload_n hx hb dX12_lawOf_34 rfl (lv_at hl 1 rfl) ?_
  refine lv_iload_n hx hb dX12_lawOf_35 rfl (lv_at hl 4 rfl) ?_
  refine q_pi (q_runV (t := 0) (i := 0) (As := [.int x_5, .int d]) (rest := []) C hU (c_X12_hasLaw_x hG x_5 d ) vm_X12_hasLaw ml_X12_256 k_0.1 (hc := rfl) rfl (h1_0 hG) hl.1 rfl rfl (Nat.le_of_ble_eq_true rfl) dX12_lawOf_36 rfl rfl ⟨Nat.le_of_ble_eq_true rfl, Nat.le_of_ble_eq_true rfl⟩ ⟨Nat.le_refl _, Nat.le_refl _⟩) hS (fun x_14 H locs hp_13 hU hS => ?_)
  have h36 := hp_13.2
  have t36 := congrArg Int32.toInt h36
  rw [h14] at t36
  refine b_if_eq (tgt := 46) hx hb dX12_lawOf_39 (by decide) (fun c_15 => ?_) (fun c_15 => ?_)
  ·
    refine lv_aload_n hx hb dX12_lawOf_46 rfl (lv_at hl 2 rfl) ?_
    refine lv_iload hx hb dX12_lawOf_47 (lv_at hl 0 rfl) ?_
    refine lv_iload_n hx hb dX12_lawOf_49 rfl (lv_at hl 4 rfl) ?_
    refine q_pi (q_runV (t := 0) (i := 0) (As := [.int x_11, .int d]) (rest := []) C hU (c_X12_hasLaw_x hG x_11 d ) vm_X12_hasLaw ml_X12_256 k_0.1 (hc := rfl) rfl (h1_0 hG) hl.1 rfl rfl (Nat.le_of_ble_eq_true rfl) dX12_lawOf_50 rfl rfl ⟨Nat.le_of_ble_eq_true rfl, Nat.le_of_ble_eq_true rfl⟩ ⟨Nat.le_refl _, Nat.le_refl _⟩) hS (fun x_17 H locs hp_16 hU hS => ?_)
    have h50 := hp_16.2
    have t50 := congrArg Int32.toInt h50
    rw [h30] at t50
    refine b_if_eq (tgt := 61) hx hb dX12_lawOf_53 (by decide) (fun c_18 => ?_) (fun c_18 => ?_)
    ·
      refine lv_bipush (v := (-9)) hx hb dX12_lawOf_61 (by decide) ?_
      exact hret (⟨rfl, rfl, ⟨⟨by omega, by omega⟩, ⟨by unfold lwF; first | (rw [if_neg (by omega), if_neg (by omega)]; done) | (rw [if_neg (by omega), if_pos (by omega)]; exact h30) | (rw [if_pos (by omega)]; exact h14), by omega⟩⟩⟩) hU hS dX12_lawOf_63
    ·
      refine lv_iload hx hb dX12_lawOf_56 (lv_at hl 0 rfl) ?_
      refine lv_goto (tgt := 63) hx hb dX12_lawOf_58 (by decide) ?_
      exact hret (⟨rfl, rfl, ⟨⟨by omega, by omega⟩, ⟨by unfold lwF; first | (rw [if_neg (by omega), if_neg (by omega)]; done) | (rw [if_neg (by omega), if_pos (by omega)]; exact h30) | (rw [if_pos (by omega)]; exact h14), by omega⟩⟩⟩) hU hS dX12_lawOf_63
  ·
    refine lv_iload_n hx hb dX12_lawOf_42 rfl (lv_at hl 1 rfl) ?_
    refine lv_goto (tgt := 63) hx hb dX12_lawOf_43 (by decide) ?_
    exact hret (⟨rfl, rfl, ⟨⟨by omega, by omega⟩, ⟨by unfold lwF; first | (rw [if_neg (by omega), if_neg (by omega)]; done) | (rw [if_neg (by omega), if_pos (by omega)]; exact h30) | (rw [if_pos (by omega)]; exact h14), by omega⟩⟩⟩) hU hS dX12_lawOf_63
set_option maxHeartbeats 4000000 in
set_option maxRecDepth 100000 in
theorem c_X12_isExcused_x {l : Launch} {D : va_G} {cA : FieldType → ClassId} {sz : Nat} {al : Al} {iv : Iv} {rv : Rv} (hG : GI al iv rv) (tt : Int32) (d : Int32) (pre0 : 0 ≤ tt.toInt ∧ tt.toInt < (iv 0 0 20).toInt) (pre1 : BT iv rv) : Met l yX12_isExcused (wd yX12_isExcused cX12_isExcused 9 (some .boolean)) (rm 8) (PcW D cA sz al iv rv [.ref (al.2 0 0), .int tt, .int d]) (QI D cA sz al (fI al ([17], []) iv rv (fun r iv' rv' => (0 ≤ r.toInt ∧ r.toInt ≤ 1) ∧ (r = exF iv tt.toNatClampNeg d)))) 0 0 (Aq sz) := by
  refine mk_z (by decide) (Nat.le_of_ble_eq_true rfl) rfl ?_
  intro p e s m args below meth c ls Q H locs C hU hS hl hret
  have hx := C.1.1
  have hb := C.1.2.1
  have hl : lv_has ls 9 [(0, .ref (al.2 0 0)), (1, .int tt), (2, .int d)] := hl
  have hG0 := hG
  have h6 := le6 hG
  have h20 := le20 hG
  have h41 := le41 hG
  have h20 := le20 hG
  have l30 := le30 hG
  have hF1 : FR ([17], []) iv iv := FR.rf
  have hF2 : FR ([17], []) rv rv := FR.rf
  have k0 : (0 : Int32).toInt = 0 := by decide
  have k1 : (1 : Int32).toInt = 1 := by decide
  have k1440 : (1440 : Int32).toInt = 1440 := by decide
  refine lv_aload_n hx hb dX12_isExcused_0 rfl (lv_at hl 0 rfl) ?_
  refine lv_iload_n hx hb dX12_isExcused_1 rfl (lv_at hl 1 rfl) ?_
  refine lv_iload_n hx hb dX12_isExcused_2 rfl (lv_at hl 2 rfl) ?_
  refine q_pi (q_runV (t := 0) (i := 0) (As := [.int tt, .int d]) (rest := []) C hU (c_X12_lawOf_x hG tt d (by omega)) vm_X12_lawOf ml_X12_260 k_0.1 (hc := rfl) rfl (h1_0 hG) hl.1 rfl rfl (Nat.le_of_ble_eq_true rfl) dX12_isExcused_3 rfl rfl ⟨Nat.le_of_ble_eq_true rfl, Nat.le_of_ble_eq_true rfl⟩ ⟨Nat.le_refl _, Nat.le_refl _⟩) hS (fun x_2 H locs hp_1 hU hS => ?_)
  refine lv_istore_n (lv' := [(3, .int x_2), (0, .ref (al.2 0 0)), (1, .int tt), (2, .int d)]) hx hb dX12_isExcused_6 rfl hl (by decide) rfl (fun ls hl => ?_)
  refine lv_aload_n hx hb dX12_isExcused_7 rfl (lv_at hl 1 rfl) ?_
  refine lv_iload_n hx hb dX12_isExcused_8 rfl (lv_at hl 2 rfl) ?_
  refine q_fi (q_runV (t := 0) (i := 0) (As := [.int tt]) (rest := []) C hU (c_X12_blameOf_x hG tt (by omega) (pre1)) vm_X12_blameOf ml_X12_241 k_0.1 (hc := rfl) rfl (h1_0 hG) hl.1 rfl rfl (Nat.le_of_ble_eq_true rfl) dX12_isExcused_9 rfl rfl ⟨Nat.le_of_ble_eq_true rfl, Nat.le_of_ble_eq_true rfl⟩ ⟨Nat.le_refl _, Nat.le_refl _⟩) hS (fun x_8 iv_4 rv_5 H locs hG fa_6 fb_7 hp_3 hU hS => ?_)
  have hF1 := hF1.tr (m := ([17], [])) fa_6 (by decide)
  have hF2 := hF2.tr (m := ([17], [])) fb_7 (by decide)
  have kf_9 := congrArg Int32.toInt (hF1 0 0 20 (by decide))
  refine lv_istore (lv' := [(4, .int x_8), (3, .int x_2), (0, .ref (al.2 0 0)), (1, .int tt), (2, .int d)]) hx hb dX12_isExcused_12 hl (by decide) rfl (fun ls hl => ?_)
  refine lv_aload_n hx hb dX12_isExcused_14 rfl (lv_at hl 2 rfl) ?_
  refine g_0_11 C hU hG (h1_0 hG) fl_X12_34 dX12_isExcused_15 ?_
  refine lv_aload_n hx hb dX12_isExcused_18 rfl (lv_at hl 2 rfl) ?_
  refine lv_iload_n hx hb dX12_isExcused_19 rfl (lv_at hl 3 rfl) ?_
  refine q_pi (q_runV (t := 0) (i := 0) (As := [.int tt]) (rest := [.ref (al.2 9 0)]) C hU (c_X12_firstLeg_x hG tt (by omega)) vm_X12_firstLeg ml_X12_253 k_0.1 (hc := rfl) rfl (h1_0 hG) hl.1 rfl rfl (Nat.le_of_ble_eq_true rfl) dX12_isExcused_20 rfl rfl ⟨Nat.le_of_ble_eq_true rfl, Nat.le_of_ble_eq_true rfl⟩ ⟨Nat.le_refl _, Nat.le_refl _⟩) hS (fun x_11 H locs hp_10 hU hS => ?_)
  refine a_9 C hU hG (h1_9 hG) (x := x_11) (by omega) (by omega) dX12_isExcused_23 (fun x_12 e_13 le_13 ue_13 => ?_)
  have te_13 := congrArg Int32.toInt e_13
  have ne_13 : x_12.toInt = (iv 9 0 (x_11 : Int32).toNatClampNeg).toInt := by rw [e_13, hF1.arr 9 0 (x_11 : Int32).toNatClampNeg (by decide)]
  have h23 := e_13
  rw [hp_10.2, rwL_17 (fr17 hF1), fr17 hF1 9 0 _ (by decide)] at h23
  refine lv_sipush (v := 1440) hx hb dX12_isExcused_24 (by decide) ?_
  refine lv_idiv hx hb dX12_isExcused_27 (by decide) ?_
  refine lv_topi (fun x_14 e_15 => ?_)
  have te_15 : 0 ≤ x_14.toInt ∧ x_14.toInt ≤ (x_12 : Int32).toInt := by rw [e_15]; exact div_rng (by omega) (by omega)
  have h27 := e_15
  rw [h23] at h27
  refine lv_istore (lv' := [(5, .int x_14), (4, .int x_8), (3, .int x_2), (0, .ref (al.2 0 0)), (1, .int tt), (2, .int d)]) hx hb dX12_isExcused_28 hl (by decide) rfl (fun ls hl => ?_)
  refine lv_iconst (v := 0) hx hb dX12_isExcused_30 (by decide) ?_
  refine lv_istore (lv' := [(6, .int 0), (5, .int x_14), (4, .int x_8), (3, .int x_2), (0, .ref (al.2 0 0)), (1, .int tt), (2, .int d)]) hx hb dX12_isExcused_31 hl (by decide) rfl (fun ls hl => ?_)
  refine lv_iconst (v := 0) hx hb dX12_isExcused_33 (by decide) ?_
  refine lv_istore (lv' := [(7, .int 0), (6, .int 0), (5, .int x_14), (4, .int x_8), (3, .int x_2), (0, .ref (al.2 0 0)), (1, .int tt), (2, .int d)]) hx hb dX12_isExcused_34 hl (by decide) rfl (fun ls hl => ?_)
  have J_36 : ∀ (n_36 : Nat) (l6_16 : Int32) (l7_17 : Int32) (ls : Array Slot), lv_has ls 9 [(0, .ref (al.2 0 0)), (3, .int x_2), (4, .int x_8), (5, .int x_14), (6, .int l6_16), (7, .int l7_17)] → (0 ≤ l6_16.toInt ∧ l6_16.toInt ≤ 1) → (0 ≤ l7_17.toInt ∧ l7_17.toInt ≤ 40) → l6_16 = exN iv x_2.toInt x_8.toInt x_14.toInt l7_17.toNatClampNeg → l7_17.toInt ≤ (iv 0 0 30).toInt → (40 - l7_17.toInt).toNat < n_36 → W p l e (rm 8) s m args below meth c H locs 0 0 Q (F0 m 36 ls []) := by
    intro n_36
    induction n_36 with
    | zero =>
      intro l6_16 l7_17 ls hl i36_0 i36_1 i36_2 i36_3 hm_36
      exact absurd hm_36 (Nat.not_lt_zero _)
    | succ n_36 ih_36 =>
      intro l6_16 l7_17 ls hl i36_0 i36_1 i36_2 i36_3 hm_36
      refine lv_iload hx hb dX12_isExcused_36 (lv_at hl 5 rfl) ?_
      refine lv_aload_n hx hb dX12_isExcused_38 rfl (lv_at hl 0 rfl) ?_
      refine g_0_30 C hU hG (h1_0 hG) fl_X12_250 dX12_isExcused_39 (fun x_18 e_19 le_19 ue_19 => ?_)
      have te_19 := congrArg Int32.toInt e_19
      have ne_19 : x_18.toInt = (iv 0 0 30).toInt := by rw [e_19, hF1 0 0 30 (by decide)]
      refine b_icmp_ge (tgt := 124) hx hb dX12_isExcused_42 (by decide) (fun c_20 => ?_) (fun c_20 => ?_)
      ·
        refine lv_iload hx hb dX12_isExcused_124 (lv_at hl 4 rfl) ?_
        exact hret (by omega) (by omega) (⟨hG, hF1, hF2, ⟨⟨by omega, by omega⟩, by unfold exF; rw [i36_2, clamp_eq (show (l7_17 : Int32).toInt = (iv 0 0 30).toInt by omega), hp_1.2.1, hp_3.2, h27]⟩⟩) hU hS dX12_isExcused_126
      ·
        refine lv_aload_n hx hb dX12_isExcused_45 rfl (lv_at hl 0 rfl) ?_
        refine g_0_31 C hU hG (h1_0 hG) fl_X12_86 dX12_isExcused_46 ?_
        refine lv_iload hx hb dX12_isExcused_49 (lv_at hl 5 rfl) ?_
        refine a_26 C hU hG (h1_26 hG) (x := l7_17) (by omega) (by omega) dX12_isExcused_51 (fun x_21 e_22 le_22 ue_22 => ?_)
        have te_22 := congrArg Int32.toInt e_22
        have ne_22 : x_21.toInt = (iv 26 0 (l7_17 : Int32).toNatClampNeg).toInt := by rw [e_22, hF1.arr 26 0 (l7_17 : Int32).toNatClampNeg (by decide)]
        refine lv_iload_n hx hb dX12_isExcused_52 rfl (lv_at hl 1 rfl) ?_
        have J_97 : ∀ (v_23 : Int32) (ls : Array Slot), lv_has ls 9 [(0, .ref (al.2 0 0)), (3, .int x_2), (4, .int x_8), (5, .int x_14), (6, .int l6_16), (7, .int l7_17)] → (0 ≤ v_23.toInt ∧ v_23.toInt ≤ 1) → ((v_23.toInt = 1 ∧ ((iv 26 0 l7_17.toNatClampNeg).toInt = x_2.toInt ∧ (iv 27 0 l7_17.toNatClampNeg).toInt = x_8.toInt ∧ (iv 29 0 l7_17.toNatClampNeg).toInt ≤ x_14.toInt ∧ (iv 28 0 l7_17.toNatClampNeg).toInt ≤ x_14.toInt)) ∨ (v_23.toInt = 0 ∧ ¬ ((iv 26 0 l7_17.toNatClampNeg).toInt = x_2.toInt ∧ (iv 27 0 l7_17.toNatClampNeg).toInt = x_8.toInt ∧ (iv 29 0 l7_17.toNatClampNeg).toInt ≤ x_14.toInt ∧ (iv 28 0 l7_17.toNatClampNeg).toInt ≤ x_14.toInt))) → W p l e (rm 8) s m args below meth c H locs 0 0 Q (F0 m 97 ls [.int v_23]) := by
          intro v_23 ls hl i97_0 i97_1
          refine lv_istore (lv' := [(8, .int v_23), (0, .ref (al.2 0 0)), (3, .int x_2), (4, .int x_8), (5, .int x_14), (6, .int l6_16), (7, .int l7_17)]) hx hb dX12_isExcused_97 hl (by decide) rfl (fun ls hl => ?_)
          refine lv_iload hx hb dX12_isExcused_99 (lv_at hl 0 rfl) ?_
          have J_116 : ∀ (v_24 : Int32) (ls : Array Slot), lv_has ls 9 [(0, .ref (al.2 0 0)), (3, .int x_2), (4, .int x_8), (5, .int x_14), (7, .int l7_17)] → (0 ≤ v_24.toInt ∧ v_24.toInt ≤ 1) → v_24 = exN iv x_2.toInt x_8.toInt x_14.toInt (l7_17.toNatClampNeg + 1) → W p l e (rm 8) s m args below meth c H locs 0 0 Q (F0 m 116 ls [.int v_24]) := by
            intro v_24 ls hl i116_0 i116_1
            refine lv_istore (lv' := [(6, .int v_24), (0, .ref (al.2 0 0)), (3, .int x_2), (4, .int x_8), (5, .int x_14), (7, .int l7_17)]) hx hb dX12_isExcused_116 hl (by decide) rfl (fun ls hl => ?_)
            obtain ⟨x_25, e_26⟩ : ∃ y : Int32, y = l7_17 + 1 := ⟨_, rfl⟩
            have te_26 : x_25.toInt = (l7_17 : Int32).toInt + (1 : Int32).toInt := by rw [e_26]; exact fb_addI (by omega) (by omega)
            refine lv_iinc (v := x_25) (lv' := [(7, .int x_25), (6, .int v_24), (0, .ref (al.2 0 0)), (3, .int x_2), (4, .int x_8), (5, .int x_14)]) hx hb dX12_isExcused_118 hl (k := 5) rfl (by rw [e_26]; rfl) (by decide) rfl (fun ls hl => ?_)
            refine lv_goto (tgt := 36) hx hb dX12_isExcused_121 (by decide) ?_
            exact ih_36 v_24 x_25 _ (lv_sub hl [2, 3, 4, 5, 1, 0] rfl) (by omega) (by omega) (by first | exact ex_up (by omega) (by omega) i116_1 | exact ex_0) (by omega) (by omega)
          refine b_if_eq (tgt := 114) hx hb dX12_isExcused_101 (by decide) (fun c_27 => ?_) (fun c_27 => ?_)
          ·
            refine lv_iload hx hb dX12_isExcused_114 (lv_at hl 5 rfl) ?_
            exact J_116 l6_16 _ (lv_sub hl [1, 2, 3, 4, 6] rfl) (by omega) (by first | exact ex_y i36_2 i97_1 (by omega) (True.intro.trans (fr17 hF1 30 0 _ (by decide))) | exact ex_n i36_2 i97_1 (by omega))
          ·
            refine lv_aload_n hx hb dX12_isExcused_104 rfl (lv_at hl 1 rfl) ?_
            refine g_0_35 C hU hG (h1_0 hG) fl_X12_98 dX12_isExcused_105 ?_
            refine lv_iload hx hb dX12_isExcused_108 (lv_at hl 6 rfl) ?_
            refine a_30 C hU hG (h1_30 hG) (x := l7_17) (by omega) (by omega) dX12_isExcused_110 (fun x_28 e_29 le_29 ue_29 => ?_)
            have te_29 := congrArg Int32.toInt e_29
            have ne_29 : x_28.toInt = (iv 30 0 (l7_17 : Int32).toNatClampNeg).toInt := by rw [e_29, hF1.arr 30 0 (l7_17 : Int32).toNatClampNeg (by decide)]
            refine lv_goto (tgt := 116) hx hb dX12_isExcused_111 (by decide) ?_
            exact J_116 x_28 _ (lv_sub hl [1, 2, 3, 4, 6] rfl) (by omega) (by first | exact ex_y i36_2 i97_1 (by omega) (e_29.trans (fr17 hF1 30 0 _ (by decide))) | exact ex_n i36_2 i97_1 (by omega))
        have J_96 : ∀ (ls : Array Slot), lv_has ls 9 [(0, .ref (al.2 0 0)), (3, .int x_2), (4, .int x_8), (5, .int x_14), (6, .int l6_16), (7, .int l7_17)] → (¬ ((iv 26 0 l7_17.toNatClampNeg).toInt = x_2.toInt ∧ (iv 27 0 l7_17.toNatClampNeg).toInt = x_8.toInt ∧ (iv 29 0 l7_17.toNatClampNeg).toInt ≤ x_14.toInt ∧ (iv 28 0 l7_17.toNatClampNeg).toInt ≤ x_14.toInt)) → W p l e (rm 8) s m args below meth c H locs 0 0 Q (F0 m 96 ls []) := by
          intro ls hl i96_0
          refine lv_iconst (v := 0) hx hb dX12_isExcused_96 (by decide) ?_
          exact J_97 0 _ (lv_sub hl [0, 1, 2, 3, 4, 5] rfl) (by omega) (by omega)
        refine b_icmp_ne (tgt := 96) hx hb dX12_isExcused_53 (by decide) (fun c_30 => ?_) (fun c_30 => ?_)
        ·
          exact J_96 _ (lv_sub hl [0, 1, 2, 3, 4, 5] rfl) (by omega)
        ·
          refine lv_aload_n hx hb dX12_isExcused_56 rfl (lv_at hl 0 rfl) ?_
          refine g_0_32 C hU hG (h1_0 hG) fl_X12_89 dX12_isExcused_57 ?_
          refine lv_iload hx hb dX12_isExcused_60 (lv_at hl 5 rfl) ?_
          refine a_27 C hU hG (h1_27 hG) (x := l7_17) (by omega) (by omega) dX12_isExcused_62 (fun x_31 e_32 le_32 ue_32 => ?_)
          have te_32 := congrArg Int32.toInt e_32
          have ne_32 : x_31.toInt = (iv 27 0 (l7_17 : Int32).toNatClampNeg).toInt := by rw [e_32, hF1.arr 27 0 (l7_17 : Int32).toNatClampNeg (by decide)]
          refine lv_iload hx hb dX12_isExcused_63 (lv_at hl 2 rfl) ?_
          refine b_icmp_ne (tgt := 96) hx hb dX12_isExcused_65 (by decide) (fun c_33 => ?_) (fun c_33 => ?_)
          ·
            exact J_96 _ (lv_sub hl [0, 1, 2, 3, 4, 5] rfl) (by omega)
          ·
            refine lv_aload_n hx hb dX12_isExcused_68 rfl (lv_at hl 0 rfl) ?_
            refine g_0_34 C hU hG (h1_0 hG) fl_X12_95 dX12_isExcused_69 ?_
            refine lv_iload hx hb dX12_isExcused_72 (lv_at hl 5 rfl) ?_
            refine a_29 C hU hG (h1_29 hG) (x := l7_17) (by omega) (by omega) dX12_isExcused_74 (fun x_34 e_35 le_35 ue_35 => ?_)
            have te_35 := congrArg Int32.toInt e_35
            have ne_35 : x_34.toInt = (iv 29 0 (l7_17 : Int32).toNatClampNeg).toInt := by rw [e_35, hF1.arr 29 0 (l7_17 : Int32).toNatClampNeg (by decide)]
            refine lv_iload hx hb dX12_isExcused_75 (lv_at hl 3 rfl) ?_
            refine b_icmp_gt (tgt := 96) hx hb dX12_isExcused_77 (by decide) (fun c_36 => ?_) (fun c_36 => ?_)
            ·
              exact J_96 _ (lv_sub hl [0, 1, 2, 3, 4, 5] rfl) (by omega)
            ·
              refine lv_aload_n hx hb dX12_isExcused_80 rfl (lv_at hl 0 rfl) ?_
              refine g_0_33 C hU hG (h1_0 hG) fl_X12_92 dX12_isExcused_81 ?_
              refine lv_iload hx hb dX12_isExcused_84 (lv_at hl 5 rfl) ?_
              refine a_28 C hU hG (h1_28 hG) (x := l7_17) (by omega) (by omega) dX12_isExcused_86 (fun x_37 e_38 le_38 ue_38 => ?_)
              have te_38 := congrArg Int32.toInt e_38
              have ne_38 : x_37.toInt = (iv 28 0 (l7_17 : Int32).toNatClampNeg).toInt := by rw [e_38, hF1.arr 28 0 (l7_17 : Int32).toNatClampNeg (by decide)]
              refine lv_iload hx hb dX12_isExcused_87 (lv_at hl 3 rfl) ?_
              refine b_icmp_gt (tgt := 96) hx hb dX12_isExcused_89 (by decide) (fun c_39 => ?_) (fun c_39 => ?_)
              ·
                exact J_96 _ (lv_sub hl [0, 1, 2, 3, 4, 5] rfl) (by omega)
              ·
                refine lv_iconst (v := 1) hx hb dX12_isExcused_92 (by decide) ?_
                refine lv_goto (tgt := 97) hx hb dX12_isExcused_93 (by decide) ?_
                exact J_97 1 _ (lv_sub hl [0, 1, 2, 3, 4, 5] rfl) (by omega) (by omega)
  exact J_36 _ 0 0 _ (lv_sub hl [5, 4, 3, 2, 1, 0] rfl) (by omega) (by omega) (by first | exact ex_up (by omega) (by omega) i116_1 | exact ex_0) (by omega) (Nat.lt_succ_self _)
set_option maxHeartbeats 4000000 in
set_option maxRecDepth 100000 in
theorem c_X12_milesOf_x {l : Launch} {D : va_G} {cA : FieldType → ClassId} {sz : Nat} {al : Al} {iv : Iv} {rv : Rv} (hG : GI al iv rv) (tt : Int32) (pre0 : 0 ≤ tt.toInt ∧ tt.toInt < (iv 0 0 20).toInt) : Met l yX12_milesOf (wd yX12_milesOf cX12_milesOf 2 (some .int)) (rm 1) (PcW D cA sz al iv rv [.ref (al.2 0 0), .int tt]) (QI D cA sz al (pI iv rv (fun r => r = miF iv tt.toNatClampNeg))) 0 0 (Aq sz) := by
  refine mk_i (by decide) (Nat.le_of_ble_eq_true rfl) rfl ?_
  intro p e s m args below meth c ls Q H locs C hU hS hl hret
  have hx := C.1.1
  have hb := C.1.2.1
  have hl : lv_has ls 2 [(0, .ref (al.2 0 0)), (1, .int tt)] := hl
  have hG0 := hG
  have h6 := le6 hG
  have h20 := le20 hG
  have h41 := le41 hG
  have h20 := le20 hG
  have k10 : (10 : Int32).toInt = 10 := by decide
  refine lv_aload_n hx hb dX12_milesOf_0 rfl (lv_at hl 0 rfl) ?_
  refine g_0_2 C hU hG (h1_0 hG) fl_X12_13 dX12_milesOf_1 ?_
  refine lv_bipush (v := 10) hx hb dX12_milesOf_4 (by decide) ?_
  refine lv_aload_n hx hb dX12_milesOf_6 rfl (lv_at hl 0 rfl) ?_
  refine g_0_7 C hU hG (h1_0 hG) fl_X12_22 dX12_milesOf_7 ?_
  refine lv_aload_n hx hb dX12_milesOf_10 rfl (lv_at hl 0 rfl) ?_
  refine lv_iload_n hx hb dX12_milesOf_11 rfl (lv_at hl 1 rfl) ?_
  refine q_pi (q_runV (t := 0) (i := 0) (As := [.int tt]) (rest := [.ref (al.2 5 0), .int 10, .ref (al.2 2 0)]) C hU (c_X12_firstLeg_x hG tt (by omega)) vm_X12_firstLeg ml_X12_253 k_0.1 (hc := rfl) rfl (h1_0 hG) hl.1 rfl rfl (Nat.le_of_ble_eq_true rfl) dX12_milesOf_12 rfl rfl ⟨Nat.le_of_ble_eq_true rfl, Nat.le_of_ble_eq_true rfl⟩ ⟨Nat.le_refl _, Nat.le_refl _⟩) hS (fun x_2 H locs hp_1 hU hS => ?_)
  refine a_5 C hU hG (h1_5 hG) (x := x_2) (by omega) (by omega) dX12_milesOf_15 (fun x_3 e_4 le_4 ue_4 => ?_)
  have te_4 := congrArg Int32.toInt e_4
  have h15 := e_4
  rw [hp_1.2] at h15
  refine lv_imul hx hb dX12_milesOf_16 ?_
  refine lv_topi (fun x_5 e_6 => ?_)
  have te_6 : x_5.toInt = 10 * (x_3 : Int32).toInt := by rw [e_6, fb_mulI (by rw [show (10 : Int32).toInt = 10 from by decide]; omega) (by rw [show (10 : Int32).toInt = 10 from by decide]; omega), show (10 : Int32).toInt = 10 from by decide]
  refine lv_aload_n hx hb dX12_milesOf_17 rfl (lv_at hl 0 rfl) ?_
  refine g_0_8 C hU hG (h1_0 hG) fl_X12_25 dX12_milesOf_18 ?_
  refine lv_aload_n hx hb dX12_milesOf_21 rfl (lv_at hl 0 rfl) ?_
  refine lv_iload_n hx hb dX12_milesOf_22 rfl (lv_at hl 1 rfl) ?_
  refine q_pi (q_runV (t := 0) (i := 0) (As := [.int tt]) (rest := [.ref (al.2 6 0), .int x_5, .ref (al.2 2 0)]) C hU (c_X12_lastLeg_x hG tt (by omega)) vm_X12_lastLeg ml_X12_232 k_0.1 (hc := rfl) rfl (h1_0 hG) hl.1 rfl rfl (Nat.le_of_ble_eq_true rfl) dX12_milesOf_23 rfl rfl ⟨Nat.le_of_ble_eq_true rfl, Nat.le_of_ble_eq_true rfl⟩ ⟨Nat.le_refl _, Nat.le_refl _⟩) hS (fun x_8 H locs hp_7 hU hS => ?_)
  refine a_6 C hU hG (h1_6 hG) (x := x_8) (by omega) (by omega) dX12_milesOf_26 (fun x_9 e_10 le_10 ue_10 => ?_)
  have te_10 := congrArg Int32.toInt e_10
  have h26 := e_10
  rw [hp_7.2] at h26
  refine lv_iadd hx hb dX12_milesOf_27 ?_
  refine lv_topi (fun x_11 e_12 => ?_)
  have te_12 : x_11.toInt = (x_5 : Int32).toInt + (x_9 : Int32).toInt := by rw [e_12]; exact fb_addI (by omega) (by omega)
  refine a_2 C hU hG (h1_2 hG) (x := x_11) (by omega) (by omega) dX12_milesOf_28 (fun x_13 e_14 => ?_)
  have te_14 := congrArg Int32.toInt e_14
  exact hret (⟨rfl, rfl, mi_ok e_14 h15 h26 (by omega) (by omega)⟩) hU hS dX12_milesOf_29
set_option maxHeartbeats 4000000 in
set_option maxRecDepth 100000 in
theorem c_X12_sumOf_x {l : Launch} {D : va_G} {cA : FieldType → ClassId} {sz : Nat} {al : Al} {iv : Iv} {rv : Rv} (hG : GI al iv rv) (tt : Int32) (d : Int32) (pre0 : 0 ≤ tt.toInt ∧ tt.toInt < (iv 0 0 20).toInt) (pre1 : BT iv rv) : Met l yX12_sumOf (wd yX12_sumOf cX12_sumOf 8 (some .int)) (rm 9) (PcW D cA sz al iv rv [.ref (al.2 0 0), .int tt, .int d]) (QI D cA sz al (fI al ([17, 20], []) iv rv (fun r iv' rv' => r = smF iv tt.toNatClampNeg d))) 0 0 (Aq sz) := by
  refine mk_i (by decide) (Nat.le_of_ble_eq_true rfl) rfl ?_
  intro p e s m args below meth c ls Q H locs C hU hS hl hret
  have hx := C.1.1
  have hb := C.1.2.1
  have hl : lv_has ls 8 [(0, .ref (al.2 0 0)), (1, .int tt), (2, .int d)] := hl
  have hG0 := hG
  have h6 := le6 hG
  have h20 := le20 hG
  have h41 := le41 hG
  have h20 := le20 hG
  have l24 := le24 hG
  have hF1 : FR ([17, 20], []) iv iv := FR.rf
  have hF2 : FR ([17, 20], []) rv rv := FR.rf
  have k0 : (0 : Int32).toInt = 0 := by decide
  have k1 : (1 : Int32).toInt = 1 := by decide
  refine lv_aload_n hx hb dX12_sumOf_0 rfl (lv_at hl 0 rfl) ?_
  refine lv_iload_n hx hb dX12_sumOf_1 rfl (lv_at hl 1 rfl) ?_
  refine lv_iload_n hx hb dX12_sumOf_2 rfl (lv_at hl 2 rfl) ?_
  refine q_pi (q_runV (t := 0) (i := 0) (As := [.int tt, .int d]) (rest := []) C hU (c_X12_lawOf_x hG tt d (by omega)) vm_X12_lawOf ml_X12_260 k_0.1 (hc := rfl) rfl (h1_0 hG) hl.1 rfl rfl (Nat.le_of_ble_eq_true rfl) dX12_sumOf_3 rfl rfl ⟨Nat.le_of_ble_eq_true rfl, Nat.le_of_ble_eq_true rfl⟩ ⟨Nat.le_refl _, Nat.le_refl _⟩) hS (fun x_2 H locs hp_1 hU hS => ?_)
  refine lv_istore_n (lv' := [(3, .int x_2), (0, .ref (al.2 0 0)), (1, .int tt), (2, .int d)]) hx hb dX12_sumOf_6 rfl hl (by decide) rfl (fun ls hl => ?_)
  have hlw := hp_1.2.1
  have tlw := congrArg Int32.toInt hlw
  refine lv_iload_n hx hb dX12_sumOf_7 rfl (lv_at hl 0 rfl) ?_
  refine b_if_lt (tgt := 20) hx hb dX12_sumOf_8 (by decide) (fun c_3 => ?_) (fun c_3 => ?_)
  ·
    refine lv_iconst (v := 0) hx hb dX12_sumOf_20 (by decide) ?_
    exact hret (⟨hG, hF1, hF2, by unfold smF; rw [if_pos (by omega)]⟩) hU hS dX12_sumOf_21
  ·
    refine lv_aload_n hx hb dX12_sumOf_11 rfl (lv_at hl 1 rfl) ?_
    refine lv_iload_n hx hb dX12_sumOf_12 rfl (lv_at hl 2 rfl) ?_
    refine lv_iload_n hx hb dX12_sumOf_13 rfl (lv_at hl 3 rfl) ?_
    refine q_fi (q_runV (t := 0) (i := 0) (As := [.int tt, .int d]) (rest := []) C hU (c_X12_isExcused_x hG tt d (by omega) (pre1)) vm_X12_isExcused ml_X12_263 k_0.1 (hc := rfl) rfl (h1_0 hG) hl.1 rfl rfl (Nat.le_of_ble_eq_true rfl) dX12_sumOf_14 rfl rfl ⟨Nat.le_of_ble_eq_true rfl, Nat.le_of_ble_eq_true rfl⟩ ⟨Nat.le_refl _, Nat.le_refl _⟩) hS (fun x_9 iv_5 rv_6 H locs hG fa_7 fb_8 hp_4 hU hS => ?_)
    have hF1 := hF1.tr (m := ([17, 20], [])) fa_7 (by decide)
    have hF2 := hF2.tr (m := ([17, 20], [])) fb_8 (by decide)
    have kf_10 := congrArg Int32.toInt (hF1 0 0 20 (by decide))
    have hex := hp_4.2
    have tex := congrArg Int32.toInt hex
    have hFb := hF1
    refine b_if_eq (tgt := 22) hx hb dX12_sumOf_17 (by decide) (fun c_11 => ?_) (fun c_11 => ?_)
    ·
      refine lv_aload_n hx hb dX12_sumOf_22 rfl (lv_at hl 1 rfl) ?_
      refine lv_iload_n hx hb dX12_sumOf_23 rfl (lv_at hl 2 rfl) ?_
      refine q_fi (q_runV (t := 0) (i := 0) (As := [.int tt]) (rest := []) C hU (c_X12_hoursOf_x hG tt (by omega)) vm_X12_hoursOf ml_X12_238 k_0.1 (hc := rfl) rfl (h1_0 hG) hl.1 rfl rfl (Nat.le_of_ble_eq_true rfl) dX12_sumOf_24 rfl rfl ⟨Nat.le_of_ble_eq_true rfl, Nat.le_of_ble_eq_true rfl⟩ ⟨Nat.le_refl _, Nat.le_refl _⟩) hS (fun x_17 iv_13 rv_14 H locs hG fa_15 fb_16 hp_12 hU hS => ?_)
      have hF1 := hF1.tr (m := ([17, 20], [])) fa_15 (by decide)
      have hF2 := hF2.tr (m := ([17, 20], [])) fb_16 (by decide)
      have kf_18 := congrArg Int32.toInt (hF1 0 0 20 (by decide))
      have hho := hp_12.trans (ho_m (ma_fr hFb) _)
      refine lv_istore (lv' := [(4, .int x_17), (3, .int x_2), (0, .ref (al.2 0 0)), (1, .int tt), (2, .int d)]) hx hb dX12_sumOf_27 hl (by decide) rfl (fun ls hl => ?_)
      refine lv_iconst (v := 0) hx hb dX12_sumOf_29 (by decide) ?_
      refine lv_istore (lv' := [(5, .int 0), (4, .int x_17), (3, .int x_2), (0, .ref (al.2 0 0)), (1, .int tt), (2, .int d)]) hx hb dX12_sumOf_30 hl (by decide) rfl (fun ls hl => ?_)
      refine lv_iconst (v := 0) hx hb dX12_sumOf_32 (by decide) ?_
      refine lv_istore (lv' := [(6, .int 0), (5, .int 0), (4, .int x_17), (3, .int x_2), (0, .ref (al.2 0 0)), (1, .int tt), (2, .int d)]) hx hb dX12_sumOf_33 hl (by decide) rfl (fun ls hl => ?_)
      have J_35 : ∀ (n_35 : Nat) (l5_19 : Int32) (l6_20 : Int32) (H : Heap) (locs : List Loc) (ls : Array Slot), lv_has ls 8 [(0, .ref (al.2 0 0)), (1, .int tt), (2, .int d), (3, .int x_2), (4, .int x_17), (5, .int l5_19), (6, .int l6_20)] → UW D cA sz al iv_13 rv_14 H → va_S (Aq sz) s.heap H locs → (0 ≤ l6_20.toInt ∧ l6_20.toInt ≤ 30) → l5_19 = gsN iv x_2.toInt d.toInt x_17.toInt (miF iv tt.toNatClampNeg).toInt l6_20.toNatClampNeg → l6_20.toInt ≤ (iv 0 0 24).toInt → (30 - l6_20.toInt).toNat < n_35 → W p l e (rm 9) s m args below meth c H locs 0 0 Q (F0 m 35 ls []) := by
        intro n_35
        induction n_35 with
        | zero =>
          intro l5_19 l6_20 H locs ls hl hU hS i35_0 i35_1 i35_2 hm_35
          exact absurd hm_35 (Nat.not_lt_zero _)
        | succ n_35 ih_35 =>
          intro l5_19 l6_20 H locs ls hl hU hS i35_0 i35_1 i35_2 hm_35
          refine lv_iload hx hb dX12_sumOf_35 (lv_at hl 6 rfl) ?_
          refine lv_aload_n hx hb dX12_sumOf_37 rfl (lv_at hl 0 rfl) ?_
          refine g_0_24 C hU hG (h1_0 hG) fl_X12_247 dX12_sumOf_38 (fun x_21 e_22 le_22 ue_22 => ?_)
          have te_22 := congrArg Int32.toInt e_22
          have ne_22 : x_21.toInt = (iv 0 0 24).toInt := by rw [e_22, hF1 0 0 24 (by decide)]
          refine b_icmp_ge (tgt := 137) hx hb dX12_sumOf_41 (by decide) (fun c_23 => ?_) (fun c_23 => ?_)
          ·
            refine lv_iload hx hb dX12_sumOf_137 (lv_at hl 5 rfl) ?_
            exact hret (⟨hG, hF1, hF2, by unfold smF; rw [if_neg (by omega), i35_1, clamp_eq (show (l6_20 : Int32).toInt = (iv 0 0 24).toInt by omega), hlw, hho]⟩) hU hS dX12_sumOf_139
          ·
            refine lv_aload_n hx hb dX12_sumOf_44 rfl (lv_at hl 0 rfl) ?_
            refine g_0_25 C hU hG (h1_0 hG) fl_X12_71 dX12_sumOf_45 ?_
            refine lv_iload hx hb dX12_sumOf_48 (lv_at hl 6 rfl) ?_
            refine a_21 C hU hG (h1_21 hG) (x := l6_20) (by omega) (by omega) dX12_sumOf_50 (fun x_24 e_25 le_25 ue_25 => ?_)
            have te_25 := congrArg Int32.toInt e_25
            have ne_25 : x_24.toInt = (iv 21 0 (l6_20 : Int32).toNatClampNeg).toInt := by rw [e_25, hF1.arr 21 0 (l6_20 : Int32).toNatClampNeg (by decide)]
            refine lv_iload_n hx hb dX12_sumOf_51 rfl (lv_at hl 3 rfl) ?_
            have J_98 : ∀ (v_26 : Int32) (H : Heap) (locs : List Loc) (ls : Array Slot), lv_has ls 8 [(0, .ref (al.2 0 0)), (1, .int tt), (2, .int d), (3, .int x_2), (4, .int x_17), (5, .int l5_19), (6, .int l6_20)] → UW D cA sz al iv_13 rv_14 H → va_S (Aq sz) s.heap H locs → (0 ≤ v_26.toInt ∧ v_26.toInt ≤ 1) → ((v_26.toInt = 1 ∧ ((iv 21 0 l6_20.toNatClampNeg).toInt = x_2.toInt ∧ (iv 22 0 l6_20.toNatClampNeg).toInt ≤ d.toInt ∧ (iv 23 0 l6_20.toNatClampNeg).toInt ≤ x_17.toInt ∧ (iv 24 0 l6_20.toNatClampNeg).toInt ≤ (miF iv tt.toNatClampNeg).toInt)) ∨ (v_26.toInt = 0 ∧ ¬ ((iv 21 0 l6_20.toNatClampNeg).toInt = x_2.toInt ∧ (iv 22 0 l6_20.toNatClampNeg).toInt ≤ d.toInt ∧ (iv 23 0 l6_20.toNatClampNeg).toInt ≤ x_17.toInt ∧ (iv 24 0 l6_20.toNatClampNeg).toInt ≤ (miF iv tt.toNatClampNeg).toInt))) → W p l e (rm 9) s m args below meth c H locs 0 0 Q (F0 m 98 ls [.int v_26]) := by
              intro v_26 H locs ls hl hU hS i98_0 i98_1
              refine lv_istore (lv' := [(7, .int v_26), (0, .ref (al.2 0 0)), (1, .int tt), (2, .int d), (3, .int x_2), (4, .int x_17), (5, .int l5_19), (6, .int l6_20)]) hx hb dX12_sumOf_98 hl (by decide) rfl (fun ls hl => ?_)
              refine lv_iload hx hb dX12_sumOf_100 (lv_at hl 0 rfl) ?_
              have J_129 : ∀ (v_27 : Int32) (ls : Array Slot), lv_has ls 8 [(0, .ref (al.2 0 0)), (1, .int tt), (2, .int d), (3, .int x_2), (4, .int x_17), (6, .int l6_20)] → v_27 = gsN iv x_2.toInt d.toInt x_17.toInt (miF iv tt.toNatClampNeg).toInt (l6_20.toNatClampNeg + 1) → W p l e (rm 9) s m args below meth c H locs 0 0 Q (F0 m 129 ls [.int v_27]) := by
                intro v_27 ls hl i129_0
                refine lv_istore (lv' := [(5, .int v_27), (0, .ref (al.2 0 0)), (1, .int tt), (2, .int d), (3, .int x_2), (4, .int x_17), (6, .int l6_20)]) hx hb dX12_sumOf_129 hl (by decide) rfl (fun ls hl => ?_)
                obtain ⟨x_28, e_29⟩ : ∃ y : Int32, y = l6_20 + 1 := ⟨_, rfl⟩
                have te_29 : x_28.toInt = (l6_20 : Int32).toInt + (1 : Int32).toInt := by rw [e_29]; exact fb_addI (by omega) (by omega)
                refine lv_iinc (v := x_28) (lv' := [(6, .int x_28), (5, .int v_27), (0, .ref (al.2 0 0)), (1, .int tt), (2, .int d), (3, .int x_2), (4, .int x_17)]) hx hb dX12_sumOf_131 hl (k := 6) rfl (by rw [e_29]; rfl) (by decide) rfl (fun ls hl => ?_)
                refine lv_goto (tgt := 35) hx hb dX12_sumOf_134 (by decide) ?_
                exact ih_35 v_27 x_28 _ _ _ (lv_sub hl [2, 3, 4, 5, 6, 1, 0] rfl) hU hS (by omega) (by first | exact gs_up (by omega) (by omega) i129_0 | exact gs_0) (by omega) (by omega)
              have J_127 : ∀ (ls : Array Slot), lv_has ls 8 [(0, .ref (al.2 0 0)), (1, .int tt), (2, .int d), (3, .int x_2), (4, .int x_17), (5, .int l5_19), (6, .int l6_20)] → (¬ (((iv 21 0 l6_20.toNatClampNeg).toInt = x_2.toInt ∧ (iv 22 0 l6_20.toNatClampNeg).toInt ≤ d.toInt ∧ (iv 23 0 l6_20.toNatClampNeg).toInt ≤ x_17.toInt ∧ (iv 24 0 l6_20.toNatClampNeg).toInt ≤ (miF iv tt.toNatClampNeg).toInt) ∧ (l5_19.toInt < (iv 25 0 l6_20.toNatClampNeg).toInt))) → W p l e (rm 9) s m args below meth c H locs 0 0 Q (F0 m 127 ls []) := by
                intro ls hl i127_0
                refine lv_iload hx hb dX12_sumOf_127 (lv_at hl 5 rfl) ?_
                exact J_129 l5_19 _ (lv_sub hl [0, 1, 2, 3, 4, 6] rfl) (by first | exact gs_y i35_1 i98_1 (by omega) (by omega) (True.intro.trans ((ma_fr hF1) 25 _ (by decide))) | exact gs_n i35_1 i127_0)
              refine b_if_eq (tgt := 127) hx hb dX12_sumOf_102 (by decide) (fun c_30 => ?_) (fun c_30 => ?_)
              ·
                exact J_127 _ (lv_sub hl [1, 2, 3, 4, 5, 6, 7] rfl) (by omega)
              ·
                refine lv_aload_n hx hb dX12_sumOf_105 rfl (lv_at hl 1 rfl) ?_
                refine g_0_29 C hU hG (h1_0 hG) fl_X12_83 dX12_sumOf_106 ?_
                refine lv_iload hx hb dX12_sumOf_109 (lv_at hl 7 rfl) ?_
                refine a_25 C hU hG (h1_25 hG) (x := l6_20) (by omega) (by omega) dX12_sumOf_111 (fun x_31 e_32 le_32 ue_32 => ?_)
                have te_32 := congrArg Int32.toInt e_32
                have ne_32 : x_31.toInt = (iv 25 0 (l6_20 : Int32).toNatClampNeg).toInt := by rw [e_32, hF1.arr 25 0 (l6_20 : Int32).toNatClampNeg (by decide)]
                refine lv_iload hx hb dX12_sumOf_112 (lv_at hl 6 rfl) ?_
                refine b_icmp_le (tgt := 127) hx hb dX12_sumOf_114 (by decide) (fun c_33 => ?_) (fun c_33 => ?_)
                ·
                  exact J_127 _ (lv_sub hl [1, 2, 3, 4, 5, 6, 7] rfl) (by omega)
                ·
                  refine lv_aload_n hx hb dX12_sumOf_117 rfl (lv_at hl 1 rfl) ?_
                  refine g_0_29 C hU hG (h1_0 hG) fl_X12_83 dX12_sumOf_118 ?_
                  refine lv_iload hx hb dX12_sumOf_121 (lv_at hl 7 rfl) ?_
                  refine a_25 C hU hG (h1_25 hG) (x := l6_20) (by omega) (by omega) dX12_sumOf_123 (fun x_34 e_35 le_35 ue_35 => ?_)
                  have te_35 := congrArg Int32.toInt e_35
                  have ne_35 : x_34.toInt = (iv 25 0 (l6_20 : Int32).toNatClampNeg).toInt := by rw [e_35, hF1.arr 25 0 (l6_20 : Int32).toNatClampNeg (by decide)]
                  refine lv_goto (tgt := 129) hx hb dX12_sumOf_124 (by decide) ?_
                  exact J_129 x_34 _ (lv_sub hl [1, 2, 3, 4, 5, 7] rfl) (by first | exact gs_y i35_1 i98_1 (by omega) (by omega) (e_35.trans ((ma_fr hF1) 25 _ (by decide))) | exact gs_n i35_1 i127_0)
            have J_97 : ∀ (H : Heap) (locs : List Loc) (ls : Array Slot), lv_has ls 8 [(0, .ref (al.2 0 0)), (1, .int tt), (2, .int d), (3, .int x_2), (4, .int x_17), (5, .int l5_19), (6, .int l6_20)] → UW D cA sz al iv_13 rv_14 H → va_S (Aq sz) s.heap H locs → (¬ ((iv 21 0 l6_20.toNatClampNeg).toInt = x_2.toInt ∧ (iv 22 0 l6_20.toNatClampNeg).toInt ≤ d.toInt ∧ (iv 23 0 l6_20.toNatClampNeg).toInt ≤ x_17.toInt ∧ (iv 24 0 l6_20.toNatClampNeg).toInt ≤ (miF iv tt.toNatClampNeg).toInt)) → W p l e (rm 9) s m args below meth c H locs 0 0 Q (F0 m 97 ls []) := by
              intro H locs ls hl hU hS i97_0
              refine lv_iconst (v := 0) hx hb dX12_sumOf_97 (by decide) ?_
              exact J_98 0 _ _ _ (lv_sub hl [0, 1, 2, 3, 4, 5, 6] rfl) hU hS (by omega) (by omega)
            refine b_icmp_ne (tgt := 97) hx hb dX12_sumOf_52 (by decide) (fun c_36 => ?_) (fun c_36 => ?_)
            ·
              exact J_97 _ _ _ (lv_sub hl [0, 1, 2, 3, 4, 5, 6] rfl) hU hS (by omega)
            ·
              refine lv_aload_n hx hb dX12_sumOf_55 rfl (lv_at hl 0 rfl) ?_
              refine g_0_26 C hU hG (h1_0 hG) fl_X12_74 dX12_sumOf_56 ?_
              refine lv_iload hx hb dX12_sumOf_59 (lv_at hl 6 rfl) ?_
              refine a_22 C hU hG (h1_22 hG) (x := l6_20) (by omega) (by omega) dX12_sumOf_61 (fun x_37 e_38 le_38 ue_38 => ?_)
              have te_38 := congrArg Int32.toInt e_38
              have ne_38 : x_37.toInt = (iv 22 0 (l6_20 : Int32).toNatClampNeg).toInt := by rw [e_38, hF1.arr 22 0 (l6_20 : Int32).toNatClampNeg (by decide)]
              refine lv_iload_n hx hb dX12_sumOf_62 rfl (lv_at hl 2 rfl) ?_
              refine b_icmp_gt (tgt := 97) hx hb dX12_sumOf_63 (by decide) (fun c_39 => ?_) (fun c_39 => ?_)
              ·
                exact J_97 _ _ _ (lv_sub hl [0, 1, 2, 3, 4, 5, 6] rfl) hU hS (by omega)
              ·
                refine lv_iload hx hb dX12_sumOf_66 (lv_at hl 4 rfl) ?_
                refine lv_aload_n hx hb dX12_sumOf_68 rfl (lv_at hl 0 rfl) ?_
                refine g_0_27 C hU hG (h1_0 hG) fl_X12_77 dX12_sumOf_69 ?_
                refine lv_iload hx hb dX12_sumOf_72 (lv_at hl 6 rfl) ?_
                refine a_23 C hU hG (h1_23 hG) (x := l6_20) (by omega) (by omega) dX12_sumOf_74 (fun x_40 e_41 le_41 ue_41 => ?_)
                have te_41 := congrArg Int32.toInt e_41
                have ne_41 : x_40.toInt = (iv 23 0 (l6_20 : Int32).toNatClampNeg).toInt := by rw [e_41, hF1.arr 23 0 (l6_20 : Int32).toNatClampNeg (by decide)]
                refine b_icmp_lt (tgt := 97) hx hb dX12_sumOf_75 (by decide) (fun c_42 => ?_) (fun c_42 => ?_)
                ·
                  exact J_97 _ _ _ (lv_sub hl [0, 1, 2, 3, 4, 5, 6] rfl) hU hS (by omega)
                ·
                  refine lv_aload_n hx hb dX12_sumOf_78 rfl (lv_at hl 0 rfl) ?_
                  refine lv_iload_n hx hb dX12_sumOf_79 rfl (lv_at hl 1 rfl) ?_
                  refine q_pi (q_runV (t := 0) (i := 0) (As := [.int tt]) (rest := []) C hU (c_X12_milesOf_x hG tt (by omega)) vm_X12_milesOf ml_X12_266 k_0.1 (hc := rfl) rfl (h1_0 hG) hl.1 rfl rfl (Nat.le_of_ble_eq_true rfl) dX12_sumOf_80 rfl rfl ⟨Nat.le_of_ble_eq_true rfl, Nat.le_of_ble_eq_true rfl⟩ ⟨Nat.le_refl _, Nat.le_refl _⟩) hS (fun x_44 H locs hp_43 hU hS => ?_)
                  have t80 := congrArg Int32.toInt (hp_43.trans (mi_m (ma_fr hF1) _))
                  refine lv_aload_n hx hb dX12_sumOf_83 rfl (lv_at hl 0 rfl) ?_
                  refine g_0_28 C hU hG (h1_0 hG) fl_X12_80 dX12_sumOf_84 ?_
                  refine lv_iload hx hb dX12_sumOf_87 (lv_at hl 6 rfl) ?_
                  refine a_24 C hU hG (h1_24 hG) (x := l6_20) (by omega) (by omega) dX12_sumOf_89 (fun x_45 e_46 le_46 ue_46 => ?_)
                  have te_46 := congrArg Int32.toInt e_46
                  have ne_46 : x_45.toInt = (iv 24 0 (l6_20 : Int32).toNatClampNeg).toInt := by rw [e_46, hF1.arr 24 0 (l6_20 : Int32).toNatClampNeg (by decide)]
                  refine b_icmp_lt (tgt := 97) hx hb dX12_sumOf_90 (by decide) (fun c_47 => ?_) (fun c_47 => ?_)
                  ·
                    exact J_97 _ _ _ (lv_sub hl [0, 1, 2, 3, 4, 5, 6] rfl) hU hS (by omega)
                  ·
                    refine lv_iconst (v := 1) hx hb dX12_sumOf_93 (by decide) ?_
                    refine lv_goto (tgt := 98) hx hb dX12_sumOf_94 (by decide) ?_
                    exact J_98 1 _ _ _ (lv_sub hl [0, 1, 2, 3, 4, 5, 6] rfl) hU hS (by omega) (by omega)
      exact J_35 _ 0 0 _ _ _ (lv_sub hl [4, 5, 6, 3, 2, 1, 0] rfl) hU hS (by omega) (by first | exact gs_up (by omega) (by omega) i129_0 | exact gs_0) (by omega) (Nat.lt_succ_self _)
    ·
      refine lv_iconst (v := 0) hx hb dX12_sumOf_20 (by decide) ?_
      exact hret (⟨hG, hF1, hF2, by unfold smF; rw [if_pos (by omega)]⟩) hU hS dX12_sumOf_21
set_option maxHeartbeats 4000000 in
set_option maxRecDepth 100000 in
theorem c_X4_isInForce_x {l : Launch} {D : va_G} {cA : FieldType → ClassId} {sz : Nat} {al : Al} {iv : Iv} {rv : Rv} (hG : GI al iv rv) (row : Int32) (ld : Int32) (d : Int32) (pre0 : 0 ≤ row.toInt ∧ row.toInt < 30) : Met l yX4_isInForce (wd yX4_isInForce cX4_isInForce 4 (some .boolean)) (rm 0) (PcW D cA sz al iv rv [.ref (al.2 68 0), .int row, .int ld, .int d]) (QI D cA sz al (pI iv rv (fun r => (0 ≤ r.toInt ∧ r.toInt ≤ 1) ∧ (((iv 69 0 row.toNatClampNeg).toInt = ld.toInt ∧ (iv 70 0 row.toNatClampNeg).toInt ≤ d.toInt ∧ r.toInt = 1) ∨ ((¬ ((iv 69 0 row.toNatClampNeg).toInt = ld.toInt ∧ (iv 70 0 row.toNatClampNeg).toInt ≤ d.toInt)) ∧ r.toInt = 0))))) 0 0 (Aq sz) := by
  refine mk_z (by decide) (Nat.le_of_ble_eq_true rfl) rfl ?_
  intro p e s m args below meth c ls Q H locs C hU hS hl hret
  have hx := C.1.1
  have hb := C.1.2.1
  have hl : lv_has ls 4 [(0, .ref (al.2 68 0)), (1, .int row), (2, .int ld), (3, .int d)] := hl
  have hG0 := hG
  have k0 : (0 : Int32).toInt = 0 := by decide
  have k1 : (1 : Int32).toInt = 1 := by decide
  refine lv_aload_n hx hb dX4_isInForce_0 rfl (lv_at hl 0 rfl) ?_
  refine g_68_0 C hU hG (h1_68 hG) fl_X4_11 dX4_isInForce_1 ?_
  refine lv_iload_n hx hb dX4_isInForce_4 rfl (lv_at hl 1 rfl) ?_
  refine a_69 C hU hG (h1_69 hG) (x := row) (by omega) (by omega) dX4_isInForce_5 (fun x_1 e_2 le_2 ue_2 => ?_)
  have te_2 := congrArg Int32.toInt e_2
  refine lv_iload_n hx hb dX4_isInForce_6 rfl (lv_at hl 2 rfl) ?_
  refine b_icmp_ne (tgt := 24) hx hb dX4_isInForce_7 (by decide) (fun c_3 => ?_) (fun c_3 => ?_)
  ·
    refine lv_iconst (v := 0) hx hb dX4_isInForce_24 (by decide) ?_
    exact hret (by omega) (by omega) (⟨rfl, rfl, ⟨⟨by omega, by omega⟩, by omega⟩⟩) hU hS dX4_isInForce_25
  ·
    refine lv_aload_n hx hb dX4_isInForce_10 rfl (lv_at hl 0 rfl) ?_
    refine g_68_1 C hU hG (h1_68 hG) fl_X4_15 dX4_isInForce_11 ?_
    refine lv_iload_n hx hb dX4_isInForce_14 rfl (lv_at hl 1 rfl) ?_
    refine a_70 C hU hG (h1_70 hG) (x := row) (by omega) (by omega) dX4_isInForce_15 (fun x_4 e_5 le_5 ue_5 => ?_)
    have te_5 := congrArg Int32.toInt e_5
    refine lv_iload_n hx hb dX4_isInForce_16 rfl (lv_at hl 3 rfl) ?_
    refine b_icmp_gt (tgt := 24) hx hb dX4_isInForce_17 (by decide) (fun c_6 => ?_) (fun c_6 => ?_)
    ·
      refine lv_iconst (v := 0) hx hb dX4_isInForce_24 (by decide) ?_
      exact hret (by omega) (by omega) (⟨rfl, rfl, ⟨⟨by omega, by omega⟩, by omega⟩⟩) hU hS dX4_isInForce_25
    ·
      refine lv_iconst (v := 1) hx hb dX4_isInForce_20 (by decide) ?_
      refine lv_goto (tgt := 25) hx hb dX4_isInForce_21 (by decide) ?_
      exact hret (by omega) (by omega) (⟨rfl, rfl, ⟨⟨by omega, by omega⟩, by omega⟩⟩) hU hS dX4_isInForce_25
set_option maxHeartbeats 4000000 in
set_option maxRecDepth 100000 in
theorem c_X4_hasRows_x {l : Launch} {D : va_G} {cA : FieldType → ClassId} {sz : Nat} {al : Al} {iv : Iv} {rv : Rv} (hG : GI al iv rv) (ld : Int32) (d : Int32) (pre0 : Claw iv rv) : Met l yX4_hasRows (wd yX4_hasRows cX4_hasRows 4 (some .boolean)) (rm 1) (PcW D cA sz al iv rv [.ref (al.2 68 0), .int ld, .int d]) (QI D cA sz al (pI iv rv (fun r => (0 ≤ r.toInt ∧ r.toInt ≤ 1) ∧ (r = hlF iv ld d)))) 0 0 (Aq sz) := by
  refine mk_z (by decide) (Nat.le_of_ble_eq_true rfl) rfl ?_
  intro p e s m args below meth c ls Q H locs C hU hS hl hret
  have hx := C.1.1
  have hb := C.1.2.1
  have hl : lv_has ls 4 [(0, .ref (al.2 68 0)), (1, .int ld), (2, .int d)] := hl
  have hG0 := hG
  have hcn := congrArg Int32.toInt pre0.1
  have l24 := le24 hG
  have k0 : (0 : Int32).toInt = 0 := by decide
  have k1 : (1 : Int32).toInt = 1 := by decide
  refine lv_iconst (v := 0) hx hb dX4_hasRows_0 (by decide) ?_
  refine lv_istore_n (lv' := [(3, .int 0), (0, .ref (al.2 68 0)), (1, .int ld), (2, .int d)]) hx hb dX4_hasRows_1 rfl hl (by decide) rfl (fun ls hl => ?_)
  have J_2 : ∀ (n_2 : Nat) (l3_1 : Int32) (H : Heap) (locs : List Loc) (ls : Array Slot), lv_has ls 4 [(0, .ref (al.2 68 0)), (1, .int ld), (2, .int d), (3, .int l3_1)] → UW D cA sz al iv rv H → va_S (Aq sz) s.heap H locs → (0 ≤ l3_1.toInt ∧ l3_1.toInt ≤ 30) → (hlN iv ld.toInt d.toInt l3_1.toNatClampNeg).toInt = 0 → l3_1.toInt ≤ (iv 68 0 5).toInt → (30 - l3_1.toInt).toNat < n_2 → W p l e (rm 1) s m args below meth c H locs 0 0 Q (F0 m 2 ls []) := by
    intro n_2
    induction n_2 with
    | zero =>
      intro l3_1 H locs ls hl hU hS i2_0 i2_1 i2_2 hm_2
      exact absurd hm_2 (Nat.not_lt_zero _)
    | succ n_2 ih_2 =>
      intro l3_1 H locs ls hl hU hS i2_0 i2_1 i2_2 hm_2
      refine lv_iload_n hx hb dX4_hasRows_2 rfl (lv_at hl 3 rfl) ?_
      refine lv_aload_n hx hb dX4_hasRows_3 rfl (lv_at hl 0 rfl) ?_
      refine g_68_5 C hU hG (h1_68 hG) fl_X4_43 dX4_hasRows_4 (fun x_2 e_3 le_3 ue_3 => ?_)
      have te_3 := congrArg Int32.toInt e_3
      refine b_icmp_ge (tgt := 28) hx hb dX4_hasRows_7 (by decide) (fun c_4 => ?_) (fun c_4 => ?_)
      ·
        refine lv_iconst (v := 0) hx hb dX4_hasRows_28 (by decide) ?_
        exact hret (by omega) (by omega) (⟨rfl, rfl, ⟨⟨by omega, by omega⟩, hx_2 i2_1 (by omega)⟩⟩) hU hS dX4_hasRows_29
      ·
        refine lv_aload_n hx hb dX4_hasRows_10 rfl (lv_at hl 0 rfl) ?_
        refine lv_iload_n hx hb dX4_hasRows_11 rfl (lv_at hl 3 rfl) ?_
        refine lv_iload_n hx hb dX4_hasRows_12 rfl (lv_at hl 1 rfl) ?_
        refine lv_iload_n hx hb dX4_hasRows_13 rfl (lv_at hl 2 rfl) ?_
        refine q_pi (q_runV (t := 68) (i := 0) (As := [.int l3_1, .int ld, .int d]) (rest := []) C hU (c_X4_isInForce_x hG l3_1 ld d (by omega)) vm_X4_isInForce ml_X4_77 k_68.1 (hc := rfl) rfl (h1_68 hG) hl.1 rfl rfl (Nat.le_of_ble_eq_true rfl) dX4_hasRows_14 rfl rfl ⟨Nat.le_of_ble_eq_true rfl, Nat.le_of_ble_eq_true rfl⟩ ⟨Nat.le_refl _, Nat.le_refl _⟩) hS (fun x_6 H locs hp_5 hU hS => ?_)
        have hk := lw_t pre0 l3_1.toNatClampNeg
        refine b_if_eq (tgt := 22) hx hb dX4_hasRows_17 (by decide) (fun c_7 => ?_) (fun c_7 => ?_)
        ·
          obtain ⟨x_8, e_9⟩ : ∃ y : Int32, y = l3_1 + 1 := ⟨_, rfl⟩
          have te_9 : x_8.toInt = (l3_1 : Int32).toInt + (1 : Int32).toInt := by rw [e_9]; exact fb_addI (by omega) (by omega)
          refine lv_iinc (v := x_8) (lv' := [(3, .int x_8), (0, .ref (al.2 68 0)), (1, .int ld), (2, .int d)]) hx hb dX4_hasRows_22 hl (k := 3) rfl (by rw [e_9]; rfl) (by decide) rfl (fun ls hl => ?_)
          refine lv_goto (tgt := 2) hx hb dX4_hasRows_25 (by decide) ?_
          exact ih_2 x_8 _ _ _ (lv_sub hl [1, 2, 3, 0] rfl) hU hS (by omega) (by first | exact hx_up (by omega) (by omega) i2_1 (by omega) | exact hx_0) (by omega) (by omega)
        ·
          refine lv_iconst (v := 1) hx hb dX4_hasRows_20 (by decide) ?_
          exact hret (by omega) (by omega) (⟨rfl, rfl, ⟨⟨by omega, by omega⟩, hx_1 i2_1 (by omega) (by omega)⟩⟩) hU hS dX4_hasRows_21
  exact J_2 _ 0 _ _ _ (lv_sub hl [1, 2, 3, 0] rfl) hU hS (by omega) (by first | exact hx_up (by omega) (by omega) i2_1 (by omega) | exact hx_0) (by omega) (Nat.lt_succ_self _)
end
section
set_option maxHeartbeats 4000000 in
set_option maxRecDepth 100000 in
theorem c_X4_landFor_x {l : Launch} {D : va_G} {cA : FieldType → ClassId} {sz : Nat} {al : Al} {iv : Iv} {rv : Rv} (hG : GI al iv rv) (ti : Nat) (hti : ti < al.1 65) (d : Int32) (pre0 : BQ iv rv) : Met l yX4_landFor (wd yX4_landFor cX4_landFor 5 (some .int)) (rm 2) (PcW D cA sz al iv rv [.ref (al.2 68 0), .ref (al.2 65 ti), .int d]) (QI D cA sz al (pI iv rv (fun r => (-9 ≤ r.toInt ∧ r.toInt ≤ 3) ∧ (r = lwF iv ti d ∧ (r.toInt = -9 ∨ 0 ≤ r.toInt))))) 0 0 (Aq sz) := by
  refine mk_i (by decide) (Nat.le_of_ble_eq_true rfl) rfl ?_
  intro p e s m args below meth c ls Q H locs C hU hS hl hret
  have hx := C.1.1
  have hb := C.1.2.1
  have hl : lv_has ls 5 [(0, .ref (al.2 68 0)), (1, .ref (al.2 65 ti)), (2, .int d)] := hl
  have hG0 := hG
  have htk := tk_k hG (bb_bm pre0.1) hti
  have km9 : ((-9) : Int32).toInt = -9 := by decide
  refine lv_aload_n hx hb dX4_landFor_0 rfl (lv_at hl 1 rfl) ?_
  refine g_65_1 C hU hG hti fl_X4_50 dX4_landFor_1 (fun j_1 ej_2 hb_3 => ?_)
  refine g_62_1 C hU hG hb_3 fl_X4_56 dX4_landFor_4 (fun j_4 ej_5 hb_6 => ?_)
  refine g_56_1 C hU hG hb_6 fl_X4_62 dX4_landFor_7 (fun x_7 e_8 le_8 ue_8 => ?_)
  have te_8 := congrArg Int32.toInt e_8
  have h7 := ld_first hG0 pre0 htk ej_2 ej_5 e_8
  refine lv_istore_n (lv' := [(3, .int x_7), (0, .ref (al.2 68 0)), (1, .ref (al.2 65 ti)), (2, .int d)]) hx hb dX4_landFor_10 rfl hl (by decide) rfl (fun ls hl => ?_)
  refine lv_aload_n hx hb dX4_landFor_11 rfl (lv_at hl 1 rfl) ?_
  refine lv_iload_n hx hb dX4_landFor_12 rfl (lv_at hl 0 rfl) ?_
  refine lv_iload_n hx hb dX4_landFor_13 rfl (lv_at hl 3 rfl) ?_
  refine q_pi (q_runV (t := 68) (i := 0) (As := [.int x_7, .int d]) (rest := []) C hU (c_X4_hasRows_x hG x_7 d (pre0.2.2.1)) vm_X4_hasRows ml_X4_67 k_68.1 (hc := rfl) rfl (h1_68 hG) hl.1 rfl rfl (Nat.le_of_ble_eq_true rfl) dX4_landFor_14 rfl rfl ⟨Nat.le_of_ble_eq_true rfl, Nat.le_of_ble_eq_true rfl⟩ ⟨Nat.le_refl _, Nat.le_refl _⟩) hS (fun x_10 H locs hp_9 hU hS => ?_)
  have t14 := congrArg Int32.toInt hp_9.2
  rw [h7] at t14
  refine b_if_eq (tgt := 22) hx hb dX4_landFor_17 (by decide) (fun c_11 => ?_) (fun c_11 => ?_)
  ·
    refine lv_aload_n hx hb dX4_landFor_22 rfl (lv_at hl 2 rfl) ?_
    refine g_65_2 C hU hG hti fl_X4_71 dX4_landFor_23 (fun j_12 ej_13 hb_14 => ?_)
    refine g_62_2 C hU hG hb_14 fl_X4_74 dX4_landFor_26 (fun j_15 ej_16 hb_17 => ?_)
    refine g_56_1 C hU hG hb_17 fl_X4_62 dX4_landFor_29 (fun x_18 e_19 le_19 ue_19 => ?_)
    have te_19 := congrArg Int32.toInt e_19
    have h29 := ld_last hG0 pre0 hti htk ej_13 ej_16 e_19
    refine lv_istore (lv' := [(4, .int x_18), (3, .int x_7), (0, .ref (al.2 68 0)), (1, .ref (al.2 65 ti)), (2, .int d)]) hx hb dX4_landFor_32 hl (by decide) rfl (fun ls hl => ?_)
    refine lv_aload_n hx hb dX4_landFor_34 rfl (lv_at hl 2 rfl) ?_
    refine lv_iload hx hb dX4_landFor_35 (lv_at hl 0 rfl) ?_
    refine lv_iload_n hx hb dX4_landFor_37 rfl (lv_at hl 4 rfl) ?_
    refine q_pi (q_runV (t := 68) (i := 0) (As := [.int x_18, .int d]) (rest := []) C hU (c_X4_hasRows_x hG x_18 d (pre0.2.2.1)) vm_X4_hasRows ml_X4_67 k_68.1 (hc := rfl) rfl (h1_68 hG) hl.1 rfl rfl (Nat.le_of_ble_eq_true rfl) dX4_landFor_38 rfl rfl ⟨Nat.le_of_ble_eq_true rfl, Nat.le_of_ble_eq_true rfl⟩ ⟨Nat.le_refl _, Nat.le_refl _⟩) hS (fun x_21 H locs hp_20 hU hS => ?_)
    have t38 := congrArg Int32.toInt hp_20.2
    rw [h29] at t38
    refine b_if_eq (tgt := 49) hx hb dX4_landFor_41 (by decide) (fun c_22 => ?_) (fun c_22 => ?_)
    ·
      refine lv_bipush (v := (-9)) hx hb dX4_landFor_49 (by decide) ?_
      exact hret (⟨rfl, rfl, ⟨⟨by omega, by omega⟩, ⟨by unfold lwF; first | (rw [if_neg (by omega), if_neg (by omega)]; done) | (rw [if_neg (by omega), if_pos (by omega)]; exact h29), by omega⟩⟩⟩) hU hS dX4_landFor_51
    ·
      refine lv_iload hx hb dX4_landFor_44 (lv_at hl 0 rfl) ?_
      refine lv_goto (tgt := 51) hx hb dX4_landFor_46 (by decide) ?_
      exact hret (⟨rfl, rfl, ⟨⟨by omega, by omega⟩, ⟨by unfold lwF; first | (rw [if_neg (by omega), if_neg (by omega)]; done) | (rw [if_neg (by omega), if_pos (by omega)]; exact h29), by omega⟩⟩⟩) hU hS dX4_landFor_51
  ·
    refine lv_iload_n hx hb dX4_landFor_20 rfl (lv_at hl 0 rfl) ?_
    exact hret (⟨rfl, rfl, ⟨⟨by omega, by omega⟩, ⟨by unfold lwF; rw [if_pos (by omega)]; exact h7, by omega⟩⟩⟩) hU hS dX4_landFor_21
set_option maxHeartbeats 4000000 in
set_option maxRecDepth 100000 in
theorem c_X8_leaveDay_x {l : Launch} {D : va_G} {cA : FieldType → ClassId} {sz : Nat} {al : Al} {iv : Iv} {rv : Rv} (hG : GI al iv rv) (ti : Nat) (hti : ti < al.1 65) (pre0 : BM iv rv) : Met l yX8_leaveDay (wd yX8_leaveDay cX8_leaveDay 1 (some .int)) (rm 0) (PcW D cA sz al iv rv [.ref (al.2 65 ti)]) (QI D cA sz al (pI iv rv (fun r => r = iv 9 0 (rwL iv ti 0) / 1440))) 0 0 (Aq sz) := by
  refine mk_i (by decide) (Nat.le_of_ble_eq_true rfl) rfl ?_
  intro p e s m args below meth c ls Q H locs C hU hS hl hret
  have hx := C.1.1
  have hb := C.1.2.1
  have hl : lv_has ls 1 [(0, .ref (al.2 65 ti))] := hl
  have hG0 := hG
  have htk := tk_k hG pre0 hti
  have k1440 : (1440 : Int32).toInt = 1440 := by decide
  refine lv_aload_n hx hb dX8_leaveDay_0 rfl (lv_at hl 0 rfl) ?_
  refine g_65_1 C hU hG hti fl_X8_15 dX8_leaveDay_1 (fun j_1 ej_2 hb_3 => ?_)
  refine g_62_5 C hU hG hb_3 fl_X8_42 dX8_leaveDay_4 (fun x_4 e_5 le_5 ue_5 => ?_)
  have te_5 := congrArg Int32.toInt e_5
  refine lv_sipush (v := 1440) hx hb dX8_leaveDay_7 (by decide) ?_
  refine lv_idiv hx hb dX8_leaveDay_10 (by decide) ?_
  refine lv_topi (fun x_6 e_7 => ?_)
  have te_7 : 0 ≤ x_6.toInt ∧ x_6.toInt ≤ (x_4 : Int32).toInt := by rw [e_7]; exact div_rng (by omega) (by omega)
  exact hret (⟨rfl, rfl, by rw [e_7, ld_lv hG0 pre0 hti htk ej_2 e_5]⟩) hU hS dX8_leaveDay_11
set_option maxHeartbeats 4000000 in
set_option maxRecDepth 100000 in
theorem c_X4_isExcused_x {l : Launch} {D : va_G} {cA : FieldType → ClassId} {sz : Nat} {al : Al} {iv : Iv} {rv : Rv} (hG : GI al iv rv) (ld : Int32) (cs : Int32) (ld2 : Int32) (pre0 : Cexc iv rv) : Met l yX4_isExcused (wd yX4_isExcused cX4_isExcused 7 (some .boolean)) (rm 0) (PcW D cA sz al iv rv [.ref (al.2 68 0), .int ld, .int cs, .int ld2]) (QI D cA sz al (pI iv rv (fun r => (0 ≤ r.toInt ∧ r.toInt ≤ 1) ∧ (r = exN iv ld.toInt cs.toInt ld2.toInt (iv 0 0 30).toNatClampNeg)))) 0 0 (Aq sz) := by
  refine mk_z (by decide) (Nat.le_of_ble_eq_true rfl) rfl ?_
  intro p e s m args below meth c ls Q H locs C hU hS hl hret
  have hx := C.1.1
  have hb := C.1.2.1
  have hl : lv_has ls 7 [(0, .ref (al.2 68 0)), (1, .int ld), (2, .int cs), (3, .int ld2)] := hl
  have hG0 := hG
  have hcn := congrArg Int32.toInt pre0.1
  have l30 := le30 hG
  have k0 : (0 : Int32).toInt = 0 := by decide
  have k1 : (1 : Int32).toInt = 1 := by decide
  refine lv_iconst (v := 0) hx hb dX4_isExcused_0 (by decide) ?_
  refine lv_istore (lv' := [(4, .int 0), (0, .ref (al.2 68 0)), (1, .int ld), (2, .int cs), (3, .int ld2)]) hx hb dX4_isExcused_1 hl (by decide) rfl (fun ls hl => ?_)
  refine lv_iconst (v := 0) hx hb dX4_isExcused_3 (by decide) ?_
  refine lv_istore (lv' := [(5, .int 0), (4, .int 0), (0, .ref (al.2 68 0)), (1, .int ld), (2, .int cs), (3, .int ld2)]) hx hb dX4_isExcused_4 hl (by decide) rfl (fun ls hl => ?_)
  have J_6 : ∀ (n_6 : Nat) (l4_1 : Int32) (l5_2 : Int32) (ls : Array Slot), lv_has ls 7 [(0, .ref (al.2 68 0)), (1, .int ld), (2, .int cs), (3, .int ld2), (4, .int l4_1), (5, .int l5_2)] → (0 ≤ l4_1.toInt ∧ l4_1.toInt ≤ 1) → (0 ≤ l5_2.toInt ∧ l5_2.toInt ≤ 40) → l4_1 = exN iv ld.toInt cs.toInt ld2.toInt l5_2.toNatClampNeg → l5_2.toInt ≤ (iv 68 0 11).toInt → (40 - l5_2.toInt).toNat < n_6 → W p l e (rm 0) s m args below meth c H locs 0 0 Q (F0 m 6 ls []) := by
    intro n_6
    induction n_6 with
    | zero =>
      intro l4_1 l5_2 ls hl i6_0 i6_1 i6_2 i6_3 hm_6
      exact absurd hm_6 (Nat.not_lt_zero _)
    | succ n_6 ih_6 =>
      intro l4_1 l5_2 ls hl i6_0 i6_1 i6_2 i6_3 hm_6
      refine lv_iload hx hb dX4_isExcused_6 (lv_at hl 5 rfl) ?_
      refine lv_aload_n hx hb dX4_isExcused_8 rfl (lv_at hl 0 rfl) ?_
      refine g_68_11 C hU hG (h1_68 hG) fl_X4_47 dX4_isExcused_9 (fun x_3 e_4 le_4 ue_4 => ?_)
      have te_4 := congrArg Int32.toInt e_4
      refine b_icmp_ge (tgt := 86) hx hb dX4_isExcused_12 (by decide) (fun c_5 => ?_) (fun c_5 => ?_)
      ·
        refine lv_iload hx hb dX4_isExcused_86 (lv_at hl 4 rfl) ?_
        exact hret (by omega) (by omega) (⟨rfl, rfl, ⟨⟨by omega, by omega⟩, by rw [i6_2, clamp_eq (show (l5_2 : Int32).toInt = (iv 0 0 30).toInt by omega)]⟩⟩) hU hS dX4_isExcused_88
      ·
        refine lv_aload_n hx hb dX4_isExcused_15 rfl (lv_at hl 0 rfl) ?_
        have hk := xc_t pre0 l5_2.toNatClampNeg
        refine g_68_6 C hU hG (h1_68 hG) fl_X4_27 dX4_isExcused_16 ?_
        refine lv_iload hx hb dX4_isExcused_19 (lv_at hl 5 rfl) ?_
        refine a_74 C hU hG (h1_74 hG) (x := l5_2) (by omega) (by omega) dX4_isExcused_21 (fun x_6 e_7 => ?_)
        have te_7 := congrArg Int32.toInt e_7
        refine lv_iload_n hx hb dX4_isExcused_22 rfl (lv_at hl 1 rfl) ?_
        have J_42 : ∀ (v_8 : Int32) (ls : Array Slot), lv_has ls 7 [(0, .ref (al.2 68 0)), (1, .int ld), (2, .int cs), (3, .int ld2), (4, .int l4_1), (5, .int l5_2)] → (0 ≤ v_8.toInt ∧ v_8.toInt ≤ 1) → ((v_8.toInt = 1 ∧ ((iv 26 0 l5_2.toNatClampNeg).toInt = ld.toInt ∧ (iv 27 0 l5_2.toNatClampNeg).toInt = cs.toInt)) ∨ (v_8.toInt = 0 ∧ ¬ ((iv 26 0 l5_2.toNatClampNeg).toInt = ld.toInt ∧ (iv 27 0 l5_2.toNatClampNeg).toInt = cs.toInt))) → W p l e (rm 0) s m args below meth c H locs 0 0 Q (F0 m 42 ls [.int v_8]) := by
          intro v_8 ls hl i42_0 i42_1
          refine lv_istore (lv' := [(6, .int v_8), (0, .ref (al.2 68 0)), (1, .int ld), (2, .int cs), (3, .int ld2), (4, .int l4_1), (5, .int l5_2)]) hx hb dX4_isExcused_42 hl (by decide) rfl (fun ls hl => ?_)
          refine lv_iload hx hb dX4_isExcused_44 (lv_at hl 0 rfl) ?_
          have J_80 : ∀ (l4_9 : Int32) (ls : Array Slot), lv_has ls 7 [(0, .ref (al.2 68 0)), (1, .int ld), (2, .int cs), (3, .int ld2), (5, .int l5_2), (4, .int l4_9)] → (0 ≤ l4_9.toInt ∧ l4_9.toInt ≤ 1) → l4_9 = exN iv ld.toInt cs.toInt ld2.toInt (l5_2.toNatClampNeg + 1) → W p l e (rm 0) s m args below meth c H locs 0 0 Q (F0 m 80 ls []) := by
            intro l4_9 ls hl i80_0 i80_1
            obtain ⟨x_10, e_11⟩ : ∃ y : Int32, y = l5_2 + 1 := ⟨_, rfl⟩
            have te_11 : x_10.toInt = (l5_2 : Int32).toInt + (1 : Int32).toInt := by rw [e_11]; exact fb_addI (by omega) (by omega)
            refine lv_iinc (v := x_10) (lv' := [(5, .int x_10), (0, .ref (al.2 68 0)), (1, .int ld), (2, .int cs), (3, .int ld2), (4, .int l4_9)]) hx hb dX4_isExcused_80 hl (k := 4) rfl (by rw [e_11]; rfl) (by decide) rfl (fun ls hl => ?_)
            refine lv_goto (tgt := 6) hx hb dX4_isExcused_83 (by decide) ?_
            exact ih_6 l4_9 x_10 _ (lv_sub hl [1, 2, 3, 4, 5, 0] rfl) (by omega) (by omega) (by first | exact ex_up (by omega) (by omega) i80_1 | exact ex_0) (by omega) (by omega)
          refine b_if_eq (tgt := 80) hx hb dX4_isExcused_46 (by decide) (fun c_12 => ?_) (fun c_12 => ?_)
          ·
            exact J_80 l4_1 _ (lv_sub hl [1, 2, 3, 4, 6, 5] rfl) (by omega) (by first | exact ex_y1 i6_2 (by omega) (True.intro.trans (pre0.2 _).2.2.2.2.symm) | exact ex_n1 i6_2 (by omega))
          ·
            refine lv_aload_n hx hb dX4_isExcused_49 rfl (lv_at hl 1 rfl) ?_
            refine g_68_9 C hU hG (h1_68 hG) fl_X4_36 dX4_isExcused_50 ?_
            refine lv_iload hx hb dX4_isExcused_53 (lv_at hl 6 rfl) ?_
            refine a_77 C hU hG (h1_77 hG) (x := l5_2) (by omega) (by omega) dX4_isExcused_55 (fun x_13 e_14 => ?_)
            have te_14 := congrArg Int32.toInt e_14
            refine lv_iload_n hx hb dX4_isExcused_56 rfl (lv_at hl 4 rfl) ?_
            refine b_icmp_gt (tgt := 80) hx hb dX4_isExcused_57 (by decide) (fun c_15 => ?_) (fun c_15 => ?_)
            ·
              exact J_80 l4_1 _ (lv_sub hl [1, 2, 3, 4, 6, 5] rfl) (by omega) (by first | exact ex_y1 i6_2 (by omega) (True.intro.trans (pre0.2 _).2.2.2.2.symm) | exact ex_n1 i6_2 (by omega))
            ·
              refine lv_aload_n hx hb dX4_isExcused_60 rfl (lv_at hl 1 rfl) ?_
              refine g_68_8 C hU hG (h1_68 hG) fl_X4_33 dX4_isExcused_61 ?_
              refine lv_iload hx hb dX4_isExcused_64 (lv_at hl 6 rfl) ?_
              refine a_76 C hU hG (h1_76 hG) (x := l5_2) (by omega) (by omega) dX4_isExcused_66 (fun x_16 e_17 => ?_)
              have te_17 := congrArg Int32.toInt e_17
              refine lv_iload_n hx hb dX4_isExcused_67 rfl (lv_at hl 4 rfl) ?_
              refine b_icmp_gt (tgt := 80) hx hb dX4_isExcused_68 (by decide) (fun c_18 => ?_) (fun c_18 => ?_)
              ·
                exact J_80 l4_1 _ (lv_sub hl [1, 2, 3, 4, 6, 5] rfl) (by omega) (by first | exact ex_y1 i6_2 (by omega) (True.intro.trans (pre0.2 _).2.2.2.2.symm) | exact ex_n1 i6_2 (by omega))
              ·
                refine lv_aload_n hx hb dX4_isExcused_71 rfl (lv_at hl 1 rfl) ?_
                refine g_68_10 C hU hG (h1_68 hG) fl_X4_39 dX4_isExcused_72 ?_
                refine lv_iload hx hb dX4_isExcused_75 (lv_at hl 6 rfl) ?_
                refine a_78 C hU hG (h1_78 hG) (x := l5_2) (by omega) (by omega) dX4_isExcused_77 (fun x_19 e_20 le_20 ue_20 => ?_)
                have te_20 := congrArg Int32.toInt e_20
                refine lv_istore (lv' := [(4, .int x_19), (6, .int v_8), (0, .ref (al.2 68 0)), (1, .int ld), (2, .int cs), (3, .int ld2), (5, .int l5_2)]) hx hb dX4_isExcused_78 hl (by decide) rfl (fun ls hl => ?_)
                exact J_80 x_19 _ (lv_sub hl [2, 3, 4, 5, 6, 0] rfl) (by omega) (by first | exact ex_y1 i6_2 (by omega) (e_20.trans (pre0.2 _).2.2.2.2.symm) | exact ex_n1 i6_2 (by omega))
        have J_41 : ∀ (ls : Array Slot), lv_has ls 7 [(0, .ref (al.2 68 0)), (1, .int ld), (2, .int cs), (3, .int ld2), (4, .int l4_1), (5, .int l5_2)] → (¬ ((iv 26 0 l5_2.toNatClampNeg).toInt = ld.toInt ∧ (iv 27 0 l5_2.toNatClampNeg).toInt = cs.toInt)) → W p l e (rm 0) s m args below meth c H locs 0 0 Q (F0 m 41 ls []) := by
          intro ls hl i41_0
          refine lv_iconst (v := 0) hx hb dX4_isExcused_41 (by decide) ?_
          exact J_42 0 _ (lv_sub hl [0, 1, 2, 3, 4, 5] rfl) (by omega) (by omega)
        refine b_icmp_ne (tgt := 41) hx hb dX4_isExcused_23 (by decide) (fun c_21 => ?_) (fun c_21 => ?_)
        ·
          exact J_41 _ (lv_sub hl [0, 1, 2, 3, 4, 5] rfl) (by omega)
        ·
          refine lv_aload_n hx hb dX4_isExcused_26 rfl (lv_at hl 0 rfl) ?_
          refine g_68_7 C hU hG (h1_68 hG) fl_X4_30 dX4_isExcused_27 ?_
          refine lv_iload hx hb dX4_isExcused_30 (lv_at hl 5 rfl) ?_
          refine a_75 C hU hG (h1_75 hG) (x := l5_2) (by omega) (by omega) dX4_isExcused_32 (fun x_22 e_23 => ?_)
          have te_23 := congrArg Int32.toInt e_23
          refine lv_iload_n hx hb dX4_isExcused_33 rfl (lv_at hl 2 rfl) ?_
          refine b_icmp_ne (tgt := 41) hx hb dX4_isExcused_34 (by decide) (fun c_24 => ?_) (fun c_24 => ?_)
          ·
            exact J_41 _ (lv_sub hl [0, 1, 2, 3, 4, 5] rfl) (by omega)
          ·
            refine lv_iconst (v := 1) hx hb dX4_isExcused_37 (by decide) ?_
            refine lv_goto (tgt := 42) hx hb dX4_isExcused_38 (by decide) ?_
            exact J_42 1 _ (lv_sub hl [0, 1, 2, 3, 4, 5] rfl) (by omega) (by omega)
  exact J_6 _ 0 0 _ (lv_sub hl [2, 3, 4, 5, 1, 0] rfl) (by omega) (by omega) (by first | exact ex_up (by omega) (by omega) i80_1 | exact ex_0) (by omega) (Nat.lt_succ_self _)
set_option maxHeartbeats 4000000 in
set_option maxRecDepth 100000 in
theorem c_X11_milesOf_x {l : Launch} {D : va_G} {cA : FieldType → ClassId} {sz : Nat} {al : Al} {iv : Iv} {rv : Rv} (hG : GI al iv rv) (ti : Nat) (hti : ti < al.1 65) (pre0 : BQ iv rv) : Met l yX11_milesOf (wd yX11_milesOf cX11_milesOf 2 (some .int)) (rm 1) (PcW D cA sz al iv rv [.ref (al.2 49 0), .ref (al.2 65 ti)]) (QI D cA sz al (pI iv rv (fun r => r = miF iv ti))) 0 0 (Aq sz) := by
  refine mk_i (by decide) (Nat.le_of_ble_eq_true rfl) rfl ?_
  intro p e s m args below meth c ls Q H locs C hU hS hl hret
  have hx := C.1.1
  have hb := C.1.2.1
  have hl : lv_has ls 2 [(0, .ref (al.2 49 0)), (1, .ref (al.2 65 ti))] := hl
  have hG0 := hG
  have htk := tk_k hG (bb_bm pre0.1) hti
  refine lv_aload_n hx hb dX11_milesOf_0 rfl (lv_at hl 0 rfl) ?_
  refine g_49_0 C hU hG (h1_49 hG) fl_X11_10 dX11_milesOf_1 ?_
  refine lv_aload_n hx hb dX11_milesOf_4 rfl (lv_at hl 1 rfl) ?_
  refine g_65_1 C hU hG hti fl_X11_381 dX11_milesOf_5 (fun j_1 ej_2 hb_3 => ?_)
  refine g_62_1 C hU hG hb_3 fl_X11_354 dX11_milesOf_8 (fun j_4 ej_5 hb_6 => ?_)
  refine lv_aload_n hx hb dX11_milesOf_11 rfl (lv_at hl 1 rfl) ?_
  refine g_65_2 C hU hG hti fl_X11_343 dX11_milesOf_12 (fun j_7 ej_8 hb_9 => ?_)
  refine g_62_2 C hU hG hb_9 fl_X11_358 dX11_milesOf_15 (fun j_10 ej_11 hb_12 => ?_)
  refine q_pi (q_runV (t := 52) (i := 0) (As := [.ref (al.2 56 j_4), .ref (al.2 56 j_10)]) (rest := []) C hU (c_X7_milesBetween_x hG (j_4) hb_6 (j_10) hb_12 ) vm_X7_milesBetween ml_X11_94 k_52.1 (hc := rfl) rfl (h1_52 hG) hl.1 rfl rfl (Nat.le_of_ble_eq_true rfl) dX11_milesOf_18 rfl rfl ⟨Nat.le_of_ble_eq_true rfl, Nat.le_of_ble_eq_true rfl⟩ ⟨Nat.le_refl _, Nat.le_refl _⟩) hS (fun x_14 H locs hp_13 hU hS => ?_)
  exact hret (⟨rfl, rfl, by rw [hp_13]; exact ml_x hG0 pre0 hti htk ej_2 ej_5 ej_8 ej_11⟩) hU hS dX11_milesOf_21
set_option maxHeartbeats 4000000 in
set_option maxRecDepth 100000 in
theorem c_X4_greatestSum_x {l : Launch} {D : va_G} {cA : FieldType → ClassId} {sz : Nat} {al : Al} {iv : Iv} {rv : Rv} (hG : GI al iv rv) (ld : Int32) (d : Int32) (mm : Int32) (far : Int32) (pre0 : Claw iv rv) : Met l yX4_greatestSum (wd yX4_greatestSum cX4_greatestSum 8 (some .int)) (rm 1) (PcW D cA sz al iv rv [.ref (al.2 68 0), .int ld, .int d, .int mm, .int far]) (QI D cA sz al (pI iv rv (fun r => r = gsN iv ld.toInt d.toInt mm.toInt far.toInt (iv 0 0 24).toNatClampNeg))) 0 0 (Aq sz) := by
  refine mk_i (by decide) (Nat.le_of_ble_eq_true rfl) rfl ?_
  intro p e s m args below meth c ls Q H locs C hU hS hl hret
  have hx := C.1.1
  have hb := C.1.2.1
  have hl : lv_has ls 8 [(0, .ref (al.2 68 0)), (1, .int ld), (2, .int d), (3, .int mm), (4, .int far)] := hl
  have hG0 := hG
  have hcn := congrArg Int32.toInt pre0.1
  have l24 := le24 hG
  have k0 : (0 : Int32).toInt = 0 := by decide
  have k1 : (1 : Int32).toInt = 1 := by decide
  refine lv_iconst (v := 0) hx hb dX4_greatestSum_0 (by decide) ?_
  refine lv_istore (lv' := [(5, .int 0), (0, .ref (al.2 68 0)), (1, .int ld), (2, .int d), (3, .int mm), (4, .int far)]) hx hb dX4_greatestSum_1 hl (by decide) rfl (fun ls hl => ?_)
  refine lv_iconst (v := 0) hx hb dX4_greatestSum_3 (by decide) ?_
  refine lv_istore (lv' := [(6, .int 0), (5, .int 0), (0, .ref (al.2 68 0)), (1, .int ld), (2, .int d), (3, .int mm), (4, .int far)]) hx hb dX4_greatestSum_4 hl (by decide) rfl (fun ls hl => ?_)
  have J_6 : ∀ (n_6 : Nat) (l5_1 : Int32) (l6_2 : Int32) (H : Heap) (locs : List Loc) (ls : Array Slot), lv_has ls 8 [(0, .ref (al.2 68 0)), (1, .int ld), (2, .int d), (3, .int mm), (4, .int far), (5, .int l5_1), (6, .int l6_2)] → UW D cA sz al iv rv H → va_S (Aq sz) s.heap H locs → (0 ≤ l6_2.toInt ∧ l6_2.toInt ≤ 30) → l5_1 = gsN iv ld.toInt d.toInt mm.toInt far.toInt l6_2.toNatClampNeg → l6_2.toInt ≤ (iv 68 0 5).toInt → (30 - l6_2.toInt).toNat < n_6 → W p l e (rm 1) s m args below meth c H locs 0 0 Q (F0 m 6 ls []) := by
    intro n_6
    induction n_6 with
    | zero =>
      intro l5_1 l6_2 H locs ls hl hU hS i6_0 i6_1 i6_2 hm_6
      exact absurd hm_6 (Nat.not_lt_zero _)
    | succ n_6 ih_6 =>
      intro l5_1 l6_2 H locs ls hl hU hS i6_0 i6_1 i6_2 hm_6
      refine lv_iload hx hb dX4_greatestSum_6 (lv_at hl 6 rfl) ?_
      refine lv_aload_n hx hb dX4_greatestSum_8 rfl (lv_at hl 0 rfl) ?_
      refine g_68_5 C hU hG (h1_68 hG) fl_X4_43 dX4_greatestSum_9 (fun x_3 e_4 le_4 ue_4 => ?_)
      have te_4 := congrArg Int32.toInt e_4
      refine b_icmp_ge (tgt := 88) hx hb dX4_greatestSum_12 (by decide) (fun c_5 => ?_) (fun c_5 => ?_)
      ·
        refine lv_iload hx hb dX4_greatestSum_88 (lv_at hl 5 rfl) ?_
        exact hret (⟨rfl, rfl, by rw [i6_1, clamp_eq (show (l6_2 : Int32).toInt = (iv 0 0 24).toInt by omega)]⟩) hU hS dX4_greatestSum_90
      ·
        refine lv_aload_n hx hb dX4_greatestSum_15 rfl (lv_at hl 0 rfl) ?_
        have hk := lw_t pre0 l6_2.toNatClampNeg
        refine lv_iload hx hb dX4_greatestSum_16 (lv_at hl 6 rfl) ?_
        refine lv_iload_n hx hb dX4_greatestSum_18 rfl (lv_at hl 1 rfl) ?_
        refine lv_iload_n hx hb dX4_greatestSum_19 rfl (lv_at hl 2 rfl) ?_
        refine q_pi (q_runV (t := 68) (i := 0) (As := [.int l6_2, .int ld, .int d]) (rest := []) C hU (c_X4_isInForce_x hG l6_2 ld d (by omega)) vm_X4_isInForce ml_X4_77 k_68.1 (hc := rfl) rfl (h1_68 hG) hl.1 rfl rfl (Nat.le_of_ble_eq_true rfl) dX4_greatestSum_20 rfl rfl ⟨Nat.le_of_ble_eq_true rfl, Nat.le_of_ble_eq_true rfl⟩ ⟨Nat.le_refl _, Nat.le_refl _⟩) hS (fun x_7 H locs hp_6 hU hS => ?_)
        have J_54 : ∀ (v_8 : Int32) (ls : Array Slot), lv_has ls 8 [(0, .ref (al.2 68 0)), (1, .int ld), (2, .int d), (3, .int mm), (4, .int far), (5, .int l5_1), (6, .int l6_2)] → (0 ≤ v_8.toInt ∧ v_8.toInt ≤ 1) → ((v_8.toInt = 1 ∧ ((iv 21 0 l6_2.toNatClampNeg).toInt = ld.toInt ∧ (iv 22 0 l6_2.toNatClampNeg).toInt ≤ d.toInt ∧ (iv 23 0 l6_2.toNatClampNeg).toInt ≤ mm.toInt ∧ (iv 24 0 l6_2.toNatClampNeg).toInt ≤ far.toInt)) ∨ (v_8.toInt = 0 ∧ ¬ ((iv 21 0 l6_2.toNatClampNeg).toInt = ld.toInt ∧ (iv 22 0 l6_2.toNatClampNeg).toInt ≤ d.toInt ∧ (iv 23 0 l6_2.toNatClampNeg).toInt ≤ mm.toInt ∧ (iv 24 0 l6_2.toNatClampNeg).toInt ≤ far.toInt))) → W p l e (rm 1) s m args below meth c H locs 0 0 Q (F0 m 54 ls [.int v_8]) := by
          intro v_8 ls hl i54_0 i54_1
          refine lv_istore (lv' := [(7, .int v_8), (0, .ref (al.2 68 0)), (1, .int ld), (2, .int d), (3, .int mm), (4, .int far), (5, .int l5_1), (6, .int l6_2)]) hx hb dX4_greatestSum_54 hl (by decide) rfl (fun ls hl => ?_)
          refine lv_iload hx hb dX4_greatestSum_56 (lv_at hl 0 rfl) ?_
          have J_82 : ∀ (l5_9 : Int32) (ls : Array Slot), lv_has ls 8 [(0, .ref (al.2 68 0)), (1, .int ld), (2, .int d), (3, .int mm), (4, .int far), (6, .int l6_2), (5, .int l5_9)] → l5_9 = gsN iv ld.toInt d.toInt mm.toInt far.toInt (l6_2.toNatClampNeg + 1) → W p l e (rm 1) s m args below meth c H locs 0 0 Q (F0 m 82 ls []) := by
            intro l5_9 ls hl i82_0
            obtain ⟨x_10, e_11⟩ : ∃ y : Int32, y = l6_2 + 1 := ⟨_, rfl⟩
            have te_11 : x_10.toInt = (l6_2 : Int32).toInt + (1 : Int32).toInt := by rw [e_11]; exact fb_addI (by omega) (by omega)
            refine lv_iinc (v := x_10) (lv' := [(6, .int x_10), (0, .ref (al.2 68 0)), (1, .int ld), (2, .int d), (3, .int mm), (4, .int far), (5, .int l5_9)]) hx hb dX4_greatestSum_82 hl (k := 5) rfl (by rw [e_11]; rfl) (by decide) rfl (fun ls hl => ?_)
            refine lv_goto (tgt := 6) hx hb dX4_greatestSum_85 (by decide) ?_
            exact ih_6 l5_9 x_10 _ _ _ (lv_sub hl [1, 2, 3, 4, 5, 6, 0] rfl) hU hS (by omega) (by first | exact gs_up (by omega) (by omega) i82_0 | exact gs_0) (by omega) (by omega)
          refine b_if_eq (tgt := 82) hx hb dX4_greatestSum_58 (by decide) (fun c_12 => ?_) (fun c_12 => ?_)
          ·
            exact J_82 l5_1 _ (lv_sub hl [1, 2, 3, 4, 5, 7, 6] rfl) (by first | exact gs_y i6_1 i54_1 (by omega) (by omega) (True.intro.trans (pre0.2 _).2.2.2.2.symm) | exact gs_n i6_1 (by omega))
          ·
            refine lv_aload_n hx hb dX4_greatestSum_61 rfl (lv_at hl 1 rfl) ?_
            refine g_68_4 C hU hG (h1_68 hG) fl_X4_24 dX4_greatestSum_62 ?_
            refine lv_iload hx hb dX4_greatestSum_65 (lv_at hl 7 rfl) ?_
            refine a_73 C hU hG (h1_73 hG) (x := l6_2) (by omega) (by omega) dX4_greatestSum_67 (fun x_13 e_14 le_14 ue_14 => ?_)
            have te_14 := congrArg Int32.toInt e_14
            refine lv_iload hx hb dX4_greatestSum_68 (lv_at hl 6 rfl) ?_
            refine b_icmp_le (tgt := 82) hx hb dX4_greatestSum_70 (by decide) (fun c_15 => ?_) (fun c_15 => ?_)
            ·
              exact J_82 l5_1 _ (lv_sub hl [1, 2, 3, 4, 5, 7, 6] rfl) (by first | exact gs_y i6_1 i54_1 (by omega) (by omega) (True.intro.trans (pre0.2 _).2.2.2.2.symm) | exact gs_n i6_1 (by omega))
            ·
              refine lv_aload_n hx hb dX4_greatestSum_73 rfl (lv_at hl 1 rfl) ?_
              refine g_68_4 C hU hG (h1_68 hG) fl_X4_24 dX4_greatestSum_74 ?_
              refine lv_iload hx hb dX4_greatestSum_77 (lv_at hl 7 rfl) ?_
              refine a_73 C hU hG (h1_73 hG) (x := l6_2) (by omega) (by omega) dX4_greatestSum_79 (fun x_16 e_17 le_17 ue_17 => ?_)
              have te_17 := congrArg Int32.toInt e_17
              refine lv_istore (lv' := [(5, .int x_16), (7, .int v_8), (0, .ref (al.2 68 0)), (1, .int ld), (2, .int d), (3, .int mm), (4, .int far), (6, .int l6_2)]) hx hb dX4_greatestSum_80 hl (by decide) rfl (fun ls hl => ?_)
              exact J_82 x_16 _ (lv_sub hl [2, 3, 4, 5, 6, 7, 0] rfl) (by first | exact gs_y i6_1 i54_1 (by omega) (by omega) (e_17.trans (pre0.2 _).2.2.2.2.symm) | exact gs_n i6_1 (by omega))
        have J_53 : ∀ (ls : Array Slot), lv_has ls 8 [(0, .ref (al.2 68 0)), (1, .int ld), (2, .int d), (3, .int mm), (4, .int far), (5, .int l5_1), (6, .int l6_2)] → (¬ ((iv 21 0 l6_2.toNatClampNeg).toInt = ld.toInt ∧ (iv 22 0 l6_2.toNatClampNeg).toInt ≤ d.toInt ∧ (iv 23 0 l6_2.toNatClampNeg).toInt ≤ mm.toInt ∧ (iv 24 0 l6_2.toNatClampNeg).toInt ≤ far.toInt)) → W p l e (rm 1) s m args below meth c H locs 0 0 Q (F0 m 53 ls []) := by
          intro ls hl i53_0
          refine lv_iconst (v := 0) hx hb dX4_greatestSum_53 (by decide) ?_
          exact J_54 0 _ (lv_sub hl [0, 1, 2, 3, 4, 5, 6] rfl) (by omega) (by omega)
        refine b_if_eq (tgt := 53) hx hb dX4_greatestSum_23 (by decide) (fun c_18 => ?_) (fun c_18 => ?_)
        ·
          exact J_53 _ (lv_sub hl [0, 1, 2, 3, 4, 5, 6] rfl) (by omega)
        ·
          refine lv_aload_n hx hb dX4_greatestSum_26 rfl (lv_at hl 0 rfl) ?_
          refine g_68_2 C hU hG (h1_68 hG) fl_X4_18 dX4_greatestSum_27 ?_
          refine lv_iload hx hb dX4_greatestSum_30 (lv_at hl 6 rfl) ?_
          refine a_71 C hU hG (h1_71 hG) (x := l6_2) (by omega) (by omega) dX4_greatestSum_32 (fun x_19 e_20 le_20 ue_20 => ?_)
          have te_20 := congrArg Int32.toInt e_20
          refine lv_iload_n hx hb dX4_greatestSum_33 rfl (lv_at hl 3 rfl) ?_
          refine b_icmp_gt (tgt := 53) hx hb dX4_greatestSum_34 (by decide) (fun c_21 => ?_) (fun c_21 => ?_)
          ·
            exact J_53 _ (lv_sub hl [0, 1, 2, 3, 4, 5, 6] rfl) (by omega)
          ·
            refine lv_aload_n hx hb dX4_greatestSum_37 rfl (lv_at hl 0 rfl) ?_
            refine g_68_3 C hU hG (h1_68 hG) fl_X4_21 dX4_greatestSum_38 ?_
            refine lv_iload hx hb dX4_greatestSum_41 (lv_at hl 6 rfl) ?_
            refine a_72 C hU hG (h1_72 hG) (x := l6_2) (by omega) (by omega) dX4_greatestSum_43 (fun x_22 e_23 le_23 ue_23 => ?_)
            have te_23 := congrArg Int32.toInt e_23
            refine lv_iload hx hb dX4_greatestSum_44 (lv_at hl 4 rfl) ?_
            refine b_icmp_gt (tgt := 53) hx hb dX4_greatestSum_46 (by decide) (fun c_24 => ?_) (fun c_24 => ?_)
            ·
              exact J_53 _ (lv_sub hl [0, 1, 2, 3, 4, 5, 6] rfl) (by omega)
            ·
              refine lv_iconst (v := 1) hx hb dX4_greatestSum_49 (by decide) ?_
              refine lv_goto (tgt := 54) hx hb dX4_greatestSum_50 (by decide) ?_
              exact J_54 1 _ (lv_sub hl [0, 1, 2, 3, 4, 5, 6] rfl) (by omega) (by omega)
  exact J_6 _ 0 0 _ _ _ (lv_sub hl [2, 3, 4, 5, 6, 1, 0] rfl) hU hS (by omega) (by first | exact gs_up (by omega) (by omega) i82_0 | exact gs_0) (by omega) (Nat.lt_succ_self _)
set_option maxHeartbeats 4000000 in
set_option maxRecDepth 100000 in
theorem c_X11_sumFor_x {l : Launch} {D : va_G} {cA : FieldType → ClassId} {sz : Nat} {al : Al} {iv : Iv} {rv : Rv} (hG : GI al iv rv) (ti : Nat) (hti : ti < al.1 65) (d : Int32) (pre0 : BQ iv rv) : Met l yX11_sumFor (wd yX11_sumFor cX11_sumFor 4 (some .int)) (rm 4) (PcW D cA sz al iv rv [.ref (al.2 49 0), .ref (al.2 65 ti), .int d]) (QI D cA sz al (fI al ([59, 60, 61], []) iv rv (fun r iv' rv' => r = smF iv ti d))) 0 0 (Aq sz) := by
  refine mk_i (by decide) (Nat.le_of_ble_eq_true rfl) rfl ?_
  intro p e s m args below meth c ls Q H locs C hU hS hl hret
  have hx := C.1.1
  have hb := C.1.2.1
  have hl : lv_has ls 4 [(0, .ref (al.2 49 0)), (1, .ref (al.2 65 ti)), (2, .int d)] := hl
  have hG0 := hG
  have hF1 : FR ([59, 60, 61], []) iv iv := FR.rf
  have hF2 : FR ([59, 60, 61], []) rv rv := FR.rf
  have km9 : ((-9) : Int32).toInt = -9 := by decide
  have k0 : (0 : Int32).toInt = 0 := by decide
  refine lv_aload_n hx hb dX11_sumFor_0 rfl (lv_at hl 0 rfl) ?_
  refine g_49_3 C hU hG (h1_49 hG) fl_X11_33 dX11_sumFor_1 ?_
  refine lv_aload_n hx hb dX11_sumFor_4 rfl (lv_at hl 1 rfl) ?_
  refine lv_iload_n hx hb dX11_sumFor_5 rfl (lv_at hl 2 rfl) ?_
  refine q_pi (q_runV (t := 68) (i := 0) (As := [.ref (al.2 65 ti), .int d]) (rest := []) C hU (c_X4_landFor_x hG (ti) hti d (pre0)) vm_X4_landFor ml_X11_236 k_68.1 (hc := rfl) rfl (h1_68 hG) hl.1 rfl rfl (Nat.le_of_ble_eq_true rfl) dX11_sumFor_6 rfl rfl ⟨Nat.le_of_ble_eq_true rfl, Nat.le_of_ble_eq_true rfl⟩ ⟨Nat.le_refl _, Nat.le_refl _⟩) hS (fun x_2 H locs hp_1 hU hS => ?_)
  refine lv_istore_n (lv' := [(3, .int x_2), (0, .ref (al.2 49 0)), (1, .ref (al.2 65 ti)), (2, .int d)]) hx hb dX11_sumFor_9 rfl hl (by decide) rfl (fun ls hl => ?_)
  have hlw := hp_1.2.1
  have tlw := congrArg Int32.toInt hlw
  have olw := hp_1.2.2
  refine lv_iload_n hx hb dX11_sumFor_10 rfl (lv_at hl 0 rfl) ?_
  refine lv_bipush (v := (-9)) hx hb dX11_sumFor_11 (by decide) ?_
  refine b_icmp_eq (tgt := 36) hx hb dX11_sumFor_13 (by decide) (fun c_3 => ?_) (fun c_3 => ?_)
  ·
    refine lv_iconst (v := 0) hx hb dX11_sumFor_36 (by decide) ?_
    exact hret (⟨hG, hF1, hF2, by unfold smF; rw [if_pos (by omega)]⟩) hU hS dX11_sumFor_37
  ·
    refine lv_aload_n hx hb dX11_sumFor_16 rfl (lv_at hl 1 rfl) ?_
    refine g_49_3 C hU hG (h1_49 hG) fl_X11_33 dX11_sumFor_17 ?_
    refine lv_iload_n hx hb dX11_sumFor_20 rfl (lv_at hl 0 rfl) ?_
    refine lv_aload_n hx hb dX11_sumFor_21 rfl (lv_at hl 1 rfl) ?_
    refine lv_aload_n hx hb dX11_sumFor_22 rfl (lv_at hl 2 rfl) ?_
    refine q_fi (q_runV (t := 49) (i := 0) (As := [.ref (al.2 65 ti)]) (rest := [.int x_2, .ref (al.2 68 0)]) C hU (c_X11_blameOf_x hG (ti) hti (pre0.1)) vm_X11_blameOf ml_X11_218 k_49.1 (hc := rfl) rfl (h1_49 hG) hl.1 rfl rfl (Nat.le_of_ble_eq_true rfl) dX11_sumFor_23 rfl rfl ⟨Nat.le_of_ble_eq_true rfl, Nat.le_of_ble_eq_true rfl⟩ ⟨Nat.le_refl _, Nat.le_refl _⟩) hS (fun x_9 iv_5 rv_6 H locs hG fa_7 fb_8 hp_4 hU hS => ?_)
    have hF1 := hF1.tr (m := ([59, 60, 61], [])) fa_7 (by decide)
    have hF2 := hF2.tr (m := ([59, 60, 61], [])) fb_8 (by decide)
    have hBQ := bq_fr hG0 pre0 hF1 hF2
    have hMA := ma_fr hF1
    refine lv_aload_n hx hb dX11_sumFor_26 rfl (lv_at hl 2 rfl) ?_
    refine q_pi (q_runV (t := 65) (i := ti) (As := []) (rest := [.int x_9, .int x_2, .ref (al.2 68 0)]) C hU (c_X8_leaveDay_x hG (ti) hti (bb_bm hBQ.1)) vm_X8_leaveDay ml_X11_239 k_65.1 (hc := rfl) rfl hti hl.1 rfl rfl (Nat.le_of_ble_eq_true rfl) dX11_sumFor_27 rfl rfl ⟨Nat.le_of_ble_eq_true rfl, Nat.le_of_ble_eq_true rfl⟩ ⟨Nat.le_refl _, Nat.le_refl _⟩) hS (fun x_11 H locs hp_10 hU hS => ?_)
    refine q_pi (q_runV (t := 68) (i := 0) (As := [.int x_2, .int x_9, .int x_11]) (rest := []) C hU (c_X4_isExcused_x hG x_2 x_9 x_11 (hBQ.2.2.2.1)) vm_X4_isExcused ml_X11_243 k_68.1 (hc := rfl) rfl (h1_68 hG) hl.1 rfl rfl (Nat.le_of_ble_eq_true rfl) dX11_sumFor_30 rfl rfl ⟨Nat.le_of_ble_eq_true rfl, Nat.le_of_ble_eq_true rfl⟩ ⟨Nat.le_refl _, Nat.le_refl _⟩) hS (fun x_13 H locs hp_12 hU hS => ?_)
    have tex := congrArg Int32.toInt (sf_ex hp_12.2 hp_10 hp_4 hlw hMA)
    refine b_if_eq (tgt := 38) hx hb dX11_sumFor_33 (by decide) (fun c_14 => ?_) (fun c_14 => ?_)
    ·
      have hBQ2 := bq_fr hG0 pre0 hF1 hF2
      have hMA2 := ma_fr hF1
      refine lv_aload_n hx hb dX11_sumFor_38 rfl (lv_at hl 1 rfl) ?_
      refine g_49_3 C hU hG (h1_49 hG) fl_X11_33 dX11_sumFor_39 ?_
      refine lv_iload_n hx hb dX11_sumFor_42 rfl (lv_at hl 0 rfl) ?_
      refine lv_iload_n hx hb dX11_sumFor_43 rfl (lv_at hl 3 rfl) ?_
      refine lv_aload_n hx hb dX11_sumFor_44 rfl (lv_at hl 1 rfl) ?_
      refine lv_aload_n hx hb dX11_sumFor_45 rfl (lv_at hl 2 rfl) ?_
      refine q_fi (q_runV (t := 49) (i := 0) (As := [.ref (al.2 65 ti)]) (rest := [.int d, .int x_2, .ref (al.2 68 0)]) C hU (c_X11_hoursOf_x hG (ti) hti (⟨bb_bm hBQ2.1, hBQ2.2.1⟩)) vm_X11_hoursOf ml_X11_215 k_49.1 (hc := rfl) rfl (h1_49 hG) hl.1 rfl rfl (Nat.le_of_ble_eq_true rfl) dX11_sumFor_46 rfl rfl ⟨Nat.le_of_ble_eq_true rfl, Nat.le_of_ble_eq_true rfl⟩ ⟨Nat.le_refl _, Nat.le_refl _⟩) hS (fun x_20 iv_16 rv_17 H locs hG fa_18 fb_19 hp_15 hU hS => ?_)
      have hF1 := hF1.tr (m := ([59, 60, 61], [])) fa_18 (by decide)
      have hF2 := hF2.tr (m := ([59, 60, 61], [])) fb_19 (by decide)
      have hBQ3 := bq_fr hG0 pre0 hF1 hF2
      have hMA3 := ma_fr hF1
      refine lv_aload_n hx hb dX11_sumFor_49 rfl (lv_at hl 1 rfl) ?_
      refine lv_aload_n hx hb dX11_sumFor_50 rfl (lv_at hl 2 rfl) ?_
      refine q_pi (q_runV (t := 49) (i := 0) (As := [.ref (al.2 65 ti)]) (rest := [.int x_20, .int d, .int x_2, .ref (al.2 68 0)]) C hU (c_X11_milesOf_x hG (ti) hti (hBQ3)) vm_X11_milesOf ml_X11_374 k_49.1 (hc := rfl) rfl (h1_49 hG) hl.1 rfl rfl (Nat.le_of_ble_eq_true rfl) dX11_sumFor_51 rfl rfl ⟨Nat.le_of_ble_eq_true rfl, Nat.le_of_ble_eq_true rfl⟩ ⟨Nat.le_refl _, Nat.le_refl _⟩) hS (fun x_22 H locs hp_21 hU hS => ?_)
      refine q_pi (q_runV (t := 68) (i := 0) (As := [.int x_2, .int d, .int x_20, .int x_22]) (rest := []) C hU (c_X4_greatestSum_x hG x_2 d x_20 x_22 (hBQ3.2.2.1)) vm_X4_greatestSum ml_X11_377 k_68.1 (hc := rfl) rfl (h1_68 hG) hl.1 rfl rfl (Nat.le_of_ble_eq_true rfl) dX11_sumFor_54 rfl rfl ⟨Nat.le_of_ble_eq_true rfl, Nat.le_of_ble_eq_true rfl⟩ ⟨Nat.le_refl _, Nat.le_refl _⟩) hS (fun x_24 H locs hp_23 hU hS => ?_)
      exact hret (⟨hG, hF1, hF2, by unfold smF; rw [if_neg (by omega)]; exact sf_gs hp_23 hlw (hp_15.trans (ho_m hMA2 _)) (hp_21.trans (mi_m hMA3 _)) hMA3⟩) hU hS dX11_sumFor_57
    ·
      refine lv_iconst (v := 0) hx hb dX11_sumFor_36 (by decide) ?_
      exact hret (⟨hG, hF1, hF2, by unfold smF; rw [if_pos (by omega)]⟩) hU hS dX11_sumFor_37
end
section
def ownN (iv : Iv) (t : Int) : Nat → Int32
  | 0 => 0
  | n + 1 => if (¬ (ownN iv t n).toInt = 0) ∨ (iv 35 0 n).toInt = t then 1 else 0
def spClaim (iv : Iv) (t : Int32) : Int32 := if ¬ (0 ≤ t.toInt ∧ t.toInt < (iv 0 0 20).toInt) then -1 else if ¬ (ownN iv t.toInt (iv 0 0 41).toNatClampNeg).toInt = 0 then -3 else if 30 ≤ (iv 0 0 41).toInt then -6 else 0
theorem own_iff {iv : Iv} {t : Int} : ∀ n : Nat, (¬ (ownN iv t n).toInt = 0) ↔ ∃ c : Nat, c < n ∧ (iv 35 0 c).toInt = t
  | 0 => ⟨fun h => absurd (show (0 : Int32).toInt = 0 by decide) h, fun ⟨_, h, _⟩ => absurd h (Nat.not_lt_zero _)⟩
  | n + 1 => by
    have ih := own_iff (iv := iv) (t := t) n
    show (¬ (if (¬ (ownN iv t n).toInt = 0) ∨ (iv 35 0 n).toInt = t then (1 : Int32) else 0).toInt = 0) ↔ _
    by_cases q : (¬ (ownN iv t n).toInt = 0) ∨ (iv 35 0 n).toInt = t
    · rw [if_pos q]
      refine ⟨fun _ => ?_, fun _ => by decide⟩
      rcases q with q | q
      · obtain ⟨c, h1, h2⟩ := ih.mp q; exact ⟨c, by omega, h2⟩
      · exact ⟨n, Nat.lt_succ_self _, q⟩
    · rw [if_neg q]
      refine ⟨fun z => absurd (show (0 : Int32).toInt = 0 by decide) z, fun ⟨c, h1, h2⟩ => ?_⟩
      exfalso
      by_cases e : c = n
      · rw [e] at h2; exact q (Or.inr h2)
      · exact q (Or.inl (ih.mpr ⟨c, by omega, h2⟩))
theorem own_0 {iv : Iv} {t : Int} : (ownN iv t (0 : Int32).toNatClampNeg).toInt = 0 := by
  rw [show (0 : Int32).toNatClampNeg = 0 from by decide]; show (0 : Int32).toInt = 0; decide
theorem own_up {iv : Iv} {t : Int} {x y : Int32} (h : y.toInt = x.toInt + 1) (h0 : 0 ≤ x.toInt) (i : (ownN iv t x.toNatClampNeg).toInt = 0) (c : ¬ (iv 35 0 x.toNatClampNeg).toInt = t) : (ownN iv t y.toNatClampNeg).toInt = 0 := by
  rw [clamp_s h h0]
  show (if (¬ (ownN iv t x.toNatClampNeg).toInt = 0) ∨ (iv 35 0 x.toNatClampNeg).toInt = t then (1 : Int32) else 0).toInt = 0
  rw [if_neg (fun z => z.elim (fun w => w i) c)]; decide
theorem own_end {iv : Iv} {t : Int} {x : Int32} (i : (ownN iv t x.toNatClampNeg).toInt = 0) (h : x.toInt = (iv 0 0 41).toInt) : (ownN iv t (iv 0 0 41).toNatClampNeg).toInt = 0 := by rw [← clamp_eq h]; exact i
theorem own_hit {iv : Iv} {t : Int} {x : Int32} (c : (iv 35 0 x.toNatClampNeg).toInt = t) (h : 0 ≤ x.toInt ∧ x.toInt < (iv 0 0 41).toInt) : ¬ (ownN iv t (iv 0 0 41).toNatClampNeg).toInt = 0 := (own_iff _).mpr ⟨x.toNatClampNeg, by rw [clamp_n, clamp_n]; omega, c⟩
theorem ownN_m {iv iv' : Iv} (h : MA iv iv') (t : Int) : ∀ n : Nat, ownN iv' t n = ownN iv t n
  | 0 => rfl
  | n + 1 => by
    show (if (¬ (ownN iv' t n).toInt = 0) ∨ (iv' 35 0 n).toInt = t then (1 : Int32) else 0) = (if (¬ (ownN iv t n).toInt = 0) ∨ (iv 35 0 n).toInt = t then (1 : Int32) else 0)
    rw [ownN_m h t n, h 35 _ (by decide)]
theorem spClaim_m {iv iv' : Iv} (h : MA iv iv') (t : Int32) : spClaim iv' t = spClaim iv t := by
  unfold spClaim; rw [ownN_m h, h 0 _ (by decide), h 0 _ (by decide)]
theorem claim_cnt {al al' : Al} {iv iv' : Iv} {rv rv' : Rv} (hG : GI al iv rv) {ti : Nat} {d : Int32} (h : ∃ (a a9 : Nat) (siz : Int32), siz.toInt = al.1 88 + 1 ∧ al' = grow (grow al 88 a) 89 a9 ∧ iv' = claimIv iv (al.1 88) ti d siz ∧ rv' = claimRv rv (al.1 88) ti) : (iv' 84 0 1).toInt = (iv 84 0 1).toInt + 1 := by
  obtain ⟨a, a9, siz, hs, -, e, -⟩ := h
  have n := hG.2.2.2.2.2.1.2
  rw [e, n, ← hs]
  exact congrArg Int32.toInt (up3_self _ _ _ _ _)
def sdN (iv : Iv) (c : Nat) : Nat → Int32
  | 0 => 0
  | n + 1 => sdN iv c n + iv 38 0 (5 * c + n)
theorem sd_0 {iv : Iv} {c : Nat} : (0 : Int32) = sdN iv c (0 : Int32).toNatClampNeg := by
  rw [show (0 : Int32).toNatClampNeg = 0 from by decide]; rfl
theorem sd_up {iv : Iv} {c s x y z w u : Int32} (i : s = sdN iv c.toNatClampNeg x.toNatClampNeg) (e : z = iv 38 0 u.toNatClampNeg) (ew : w = s + z) (hu : u.toInt = 5 * c.toInt + x.toInt ∧ 0 ≤ c.toInt) (hy : y.toInt = x.toInt + 1) (h0 : 0 ≤ x.toInt) : w = sdN iv c.toNatClampNeg y.toNatClampNeg := by
  have q : u.toNatClampNeg = 5 * c.toNatClampNeg + x.toNatClampNeg := by simp only [clamp_n]; omega
  rw [clamp_s hy h0, ew, i, e, q]; rfl
def spPay (iv : Iv) (c p v : Int32) : Int32 := if ¬ ((0 ≤ c.toInt ∧ c.toInt < (iv 0 0 41).toInt) ∧ (0 ≤ p.toInt ∧ p.toInt ≤ 4)) then -1 else if v.toInt < 1 then -4 else if 9999 < v.toInt ∨ 99999 < (sdN iv c.toNatClampNeg 5 + v).toInt then -6 else 0
theorem py_ok {iv iv' : Iv} {c p v x z u : Int32} {k : Nat} (e : x = iv 38 0 u.toNatClampNeg) (ez : z = x + v) (ei : iv' = up3 iv 38 0 u.toNatClampNeg z) (hu : u.toInt = 5 * c.toInt + p.toInt) (h0 : 0 ≤ c.toInt ∧ 0 ≤ p.toInt) : iv' 38 0 k = (if k = 5 * c.toNatClampNeg + p.toNatClampNeg then iv 38 0 (5 * c.toNatClampNeg + p.toNatClampNeg) + v else iv 38 0 k) := by
  have q : u.toNatClampNeg = 5 * c.toNatClampNeg + p.toNatClampNeg := by simp only [clamp_n]; omega
  rw [q] at e ei
  rw [ei, up3_k, ez, e]
theorem py_x {iv : Iv} {c n p i k : Nat} {x z v : Int32} (e : x = iv 89 c p) (ez : z = x + v) (hc : c = n) : up3 iv 89 n p z 89 i k = (if i = n ∧ k = p then iv 89 n p + v else iv 89 i k) := by
  subst hc; rw [ez, e]; simp [up3]
theorem py_s {iv iv1 : Iv} {c n p k : Nat} {x z v y : Int32} (e : x = iv1 88 c 3) (ez : z = x + v) (e1 : iv1 = up3 iv 89 c p y) (hc : c = n) : up3 iv1 88 n 3 z 88 k 3 = (if k = n then iv 88 n 3 + v else iv 88 k 3) := by
  subst hc
  by_cases q : k = c
  · rw [q, up3_self, if_pos rfl, ez, e, e1, up3_ne (fun z => absurd z.1 (by decide))]
  · rw [up3_ne (fun z => q z.2.1), if_neg q, e1, up3_ne (fun z => absurd z.1 (by decide))]
theorem sdN_m {iv iv' : Iv} (h : MA iv iv') (c : Nat) : ∀ n : Nat, sdN iv' c n = sdN iv c n
  | 0 => rfl
  | n + 1 => by
    show sdN iv' c n + iv' 38 0 (5 * c + n) = sdN iv c n + iv 38 0 (5 * c + n)
    rw [sdN_m h c n, h 38 _ (by decide)]
theorem spPay_m {iv iv' : Iv} (h : MA iv iv') (c p v : Int32) : spPay iv' c p v = spPay iv c p v := by
  unfold spPay; rw [sdN_m h, h 0 _ (by decide)]
theorem sd_add {iv iv' : Iv} {c q : Nat} {v : Int32} (hq : q < 5) (h : ∀ k : Nat, iv' 38 0 k = (if k = 5 * c + q then iv 38 0 (5 * c + q) + v else iv 38 0 k)) : sdN iv' c 5 = sdN iv c 5 + v := by
  show 0 + iv' 38 0 (5 * c + 0) + iv' 38 0 (5 * c + 1) + iv' 38 0 (5 * c + 2) + iv' 38 0 (5 * c + 3) + iv' 38 0 (5 * c + 4) = 0 + iv 38 0 (5 * c + 0) + iv 38 0 (5 * c + 1) + iv 38 0 (5 * c + 2) + iv 38 0 (5 * c + 3) + iv 38 0 (5 * c + 4) + v
  rw [h, h, h, h, h]
  match q, hq with
  | 0, _ => rw [if_pos rfl, if_neg (by omega), if_neg (by omega), if_neg (by omega), if_neg (by omega)]; grind
  | 1, _ => rw [if_neg (by omega), if_pos rfl, if_neg (by omega), if_neg (by omega), if_neg (by omega)]; grind
  | 2, _ => rw [if_neg (by omega), if_neg (by omega), if_pos rfl, if_neg (by omega), if_neg (by omega)]; grind
  | 3, _ => rw [if_neg (by omega), if_neg (by omega), if_neg (by omega), if_pos rfl, if_neg (by omega)]; grind
  | 4, _ => rw [if_neg (by omega), if_neg (by omega), if_neg (by omega), if_neg (by omega), if_pos rfl]; grind
theorem sd_keep {iv iv' : Iv} {c : Nat} (h : ∀ p : Nat, p < 5 → iv' 38 0 (5 * c + p) = iv 38 0 (5 * c + p)) : sdN iv' c 5 = sdN iv c 5 := by
  show 0 + iv' 38 0 (5 * c + 0) + iv' 38 0 (5 * c + 1) + iv' 38 0 (5 * c + 2) + iv' 38 0 (5 * c + 3) + iv' 38 0 (5 * c + 4) = 0 + iv 38 0 (5 * c + 0) + iv 38 0 (5 * c + 1) + iv 38 0 (5 * c + 2) + iv 38 0 (5 * c + 3) + iv 38 0 (5 * c + 4)
  rw [h 0 (by decide), h 1 (by decide), h 2 (by decide), h 3 (by decide), h 4 (by decide)]
end
section
def Cclm (iv : Iv) (rv : Rv) : Prop := iv 0 0 41 = iv 84 0 1 ∧ (∀ c : Nat, (c : Int) < (iv 84 0 1).toInt → rv 88 c 0 = some (iv 35 0 c).toNatClampNeg ∧ iv 36 0 c = iv 88 c 1) ∧ (∀ t : Nat, (t : Int) < (iv 63 0 1).toInt → (¬ (iv 65 t 6).toInt = 0 ↔ ∃ c : Nat, (c : Int) < (iv 84 0 1).toInt ∧ (iv 35 0 c).toNatClampNeg = t))
abbrev T_Cclm : List Nat := [35, 36]
abbrev F_Cclm : List (Nat × Nat) := [(0, 41), (84, 1), (88, 0), (88, 1), (65, 6), (63, 1)]
theorem Cclm.keep {al : Al} {iv iv' : Iv} {rv rv' : Rv} (h : Cclm iv rv) (hG : GI al iv rv) (e : KP T_Cclm F_Cclm al iv rv iv' rv') : Cclm iv' rv' := by
  have e84 := (e 84 0 1 (h1_84 hG) (Or.inr (by decide))).1
  have e35 : ∀ c, iv' 35 0 c = iv 35 0 c := fun c => (e 35 0 c (h1_35 hG) (Or.inl (by decide))).1
  have n := hG.2.2.2.2.2.1.2
  have n5 := hG.2.2.2.2.1.2
  refine ⟨by rw [e84, (e 0 0 41 (h1_0 hG) (Or.inr (by decide))).1]; exact h.1, fun c hc => ?_, fun t ht => ?_⟩
  · rw [e84] at hc
    rw [e35, (e 36 0 c (h1_36 hG) (Or.inl (by decide))).1, (e 88 c 0 (by omega) (Or.inr (by decide))).2, (e 88 c 1 (by omega) (Or.inr (by decide))).1]; exact h.2.1 c hc
  · rw [(e 63 0 1 (h1_63 hG) (Or.inr (by decide))).1] at ht
    rw [(e 65 t 6 (by omega) (Or.inr (by decide))).1, e84]
    simp only [e35]
    exact h.2.2 t ht
def Cpay (iv : Iv) (rv : Rv) : Prop := (∀ c p : Nat, (c : Int) < (iv 84 0 1).toInt → p < 5 → iv 38 0 (5 * c + p) = iv 89 c p) ∧ (∀ c : Nat, (c : Int) < (iv 84 0 1).toInt → iv 88 c 3 = sdN iv c 5) ∧ (∀ c p : Nat, (iv 84 0 1).toInt ≤ c → p < 5 → iv 38 0 (5 * c + p) = 0)
abbrev T_Cpay : List Nat := [38, 89]
abbrev F_Cpay : List (Nat × Nat) := [(84, 1), (88, 3)]
theorem Cpay.keep {al : Al} {iv iv' : Iv} {rv rv' : Rv} (h : Cpay iv rv) (hG : GI al iv rv) (e : KP T_Cpay F_Cpay al iv rv iv' rv') : Cpay iv' rv' := by
  have e84 := (e 84 0 1 (h1_84 hG) (Or.inr (by decide))).1
  have e38 : ∀ k, iv' 38 0 k = iv 38 0 k := fun k => (e 38 0 k (h1_38 hG) (Or.inl (by decide))).1
  have n := hG.2.2.2.2.2.1.2
  have n9 : al.1 89 = al.1 88 := hG.2.2.1.2.2.2.2.2
  refine ⟨fun c p hc hp => ?_, fun c hc => ?_, fun c p hc hp => ?_⟩
  · rw [e84] at hc
    rw [e38, (e 89 c p (by omega) (Or.inl (by decide))).1]; exact h.1 c p hc hp
  · rw [e84] at hc
    rw [(e 88 c 3 (by omega) (Or.inr (by decide))).1, sd_keep (fun p _ => e38 _)]; exact h.2.1 c hc
  · rw [e84] at hc
    rw [e38]; exact h.2.2 c p hc hp
theorem spPay_ok {iv : Iv} {c p v : Int32} (h : spPay iv c p v = 0) : (0 ≤ c.toInt ∧ c.toInt < (iv 0 0 41).toInt) ∧ (0 ≤ p.toInt ∧ p.toInt ≤ 4) := by
  unfold spPay at h
  by_cases q : ¬ ((0 ≤ c.toInt ∧ c.toInt < (iv 0 0 41).toInt) ∧ (0 ≤ p.toInt ∧ p.toInt ≤ 4))
  · rw [if_pos q] at h; exact absurd h (by decide)
  · exact ⟨by omega, by omega⟩
def BK (iv : Iv) (rv : Rv) : Prop := Ctkn iv rv ∧ Cclm iv rv
theorem cl_own {al : Al} {iv : Iv} {rv : Rv} (hG : GI al iv rv) (h : BK iv rv) {j : Nat} {t x : Int32} (hj : j < al.1 65) (ej : j = t.toNatClampNeg) (e : x = iv 65 j 6) (h0 : 0 ≤ t.toInt := by omega) : (¬ x.toInt = 0 ∧ ¬ (ownN iv t.toInt (iv 0 0 41).toNatClampNeg).toInt = 0) ∨ (x.toInt = 0 ∧ (ownN iv t.toInt (iv 0 0 41).toNatClampNeg).toInt = 0) := by
  have n := hG.2.2.2.2.1.2
  have n41 := congrArg Int32.toInt h.2.1
  have c := ix_nat h0
  have q := h.2.2.2 j (by omega)
  have o := own_iff (iv := iv) (t := t.toInt) (iv 0 0 41).toNatClampNeg
  have cn : (iv 0 0 41).toNatClampNeg = (iv 0 0 41).toInt.toNat := clamp_n
  have bridge : (∃ c : Nat, (c : Int) < (iv 84 0 1).toInt ∧ (iv 35 0 c).toNatClampNeg = j) ↔ (∃ c : Nat, c < (iv 0 0 41).toNatClampNeg ∧ (iv 35 0 c).toInt = t.toInt) := by
    have r : ∀ c : Nat, c < 30 → 0 ≤ (iv 35 0 c).toInt := fun c hc => (hG.1 35 0 c (h1_35 hG) hc).1
    have l41 := le41 hG
    constructor
    · rintro ⟨c, h1, h2⟩
      have := r c (by omega)
      have k : (iv 35 0 c).toNatClampNeg = (iv 35 0 c).toInt.toNat := clamp_n
      exact ⟨c, by omega, by omega⟩
    · rintro ⟨c, h1, h2⟩
      exact ⟨c, by omega, by rw [clamp_n, h2]; omega⟩
  rw [← e] at q
  by_cases w : x.toInt = 0
  · refine Or.inr ⟨w, ?_⟩
    by_cases z : (ownN iv t.toInt (iv 0 0 41).toNatClampNeg).toInt = 0
    · exact z
    · exact absurd w (q.mpr (bridge.mpr (o.mp z)))
  · exact Or.inl ⟨w, o.mpr (bridge.mp (q.mp w))⟩
def BP (iv : Iv) (rv : Rv) : Prop := Cclm iv rv ∧ Cpay iv rv
end
