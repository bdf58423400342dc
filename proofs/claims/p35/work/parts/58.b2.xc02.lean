set_option maxHeartbeats 4000000 in
set_option maxRecDepth 100000 in
theorem c_X4_addExcuse_y {l : Launch} {D : va_G} {cA : FieldType → ClassId} {sz : Nat} {al : Al} {iv : Iv} {rv : Rv} (hG : GI al iv rv) (a : Int32) (cs : Int32) (d : Int32) (told : Int32) (on : Int32) (pre0 : (iv 68 0 11).toInt < 40) (pre1 : 0 ≤ on.toInt ∧ on.toInt ≤ 1) : Met l yX4_addExcuse (wd yX4_addExcuse cX4_addExcuse 6 (some .int)) (rm 0) (PcW D cA sz al iv rv [.ref (al.2 68 0), .int a, .int cs, .int d, .int told, .int on]) (QI D cA sz al (fI al ([74, 75, 76, 77, 78], [(68, 11)]) iv rv (fun r iv' rv' => r.toInt = (iv 68 0 11).toInt + 1 ∧ (iv' 68 0 11).toInt = (iv 68 0 11).toInt + 1 ∧ (∀ k : Nat, iv' 74 0 k = (if k = (iv 68 0 11).toNatClampNeg then a else iv 74 0 k) ∧ iv' 75 0 k = (if k = (iv 68 0 11).toNatClampNeg then cs else iv 75 0 k) ∧ iv' 76 0 k = (if k = (iv 68 0 11).toNatClampNeg then d else iv 76 0 k) ∧ iv' 77 0 k = (if k = (iv 68 0 11).toNatClampNeg then told else iv 77 0 k) ∧ iv' 78 0 k = (if k = (iv 68 0 11).toNatClampNeg then on else iv 78 0 k))))) 0 0 (Aq sz) := by
  refine mk_i (by decide) (Nat.le_of_ble_eq_true rfl) rfl ?_
  intro p e s m args below meth c ls Q H locs C hU hS hl hret
  have hx := C.1.1
  have hb := C.1.2.1
  have hl : lv_has ls 6 [(0, .ref (al.2 68 0)), (1, .int a), (2, .int cs), (3, .int d), (4, .int told), (5, .int on)] := hl
  have hG0 := hG
  have hF1 : FR ([74, 75, 76, 77, 78], [(68, 11)]) iv iv := FR.rf
  have hF2 : FR ([74, 75, 76, 77, 78], [(68, 11)]) rv rv := FR.rf
  have k1 : (1 : Int32).toInt = 1 := by decide
  refine lv_aload_n hx hb dX4_addExcuse_0 rfl (lv_at hl 0 rfl) ?_
  refine g_68_6 C hU hG (h1_68 hG) fl_X4_27 dX4_addExcuse_1 ?_
  refine lv_aload_n hx hb dX4_addExcuse_4 rfl (lv_at hl 0 rfl) ?_
  refine g_68_11 C hU hG (h1_68 hG) fl_X4_47 dX4_addExcuse_5 (fun x_1 e_2 le_2 ue_2 => ?_)
  have te_2 := congrArg Int32.toInt e_2
  refine lv_iload_n hx hb dX4_addExcuse_8 rfl (lv_at hl 1 rfl) ?_
  refine s_74 C hU hS (h1_74 hG) (x := x_1) (by omega) (by omega) dX4_addExcuse_9 (fun iv_3 H locs ei_4 hU hS => ?_)
  have hG : GI al iv_3 rv := by rw [ei_4]; exact hG.puti (show _ ∧ _ from ⟨(fb_rng _).1, Int.le_of_lt_add_one (fb_rng _).2⟩) (nsA (by decide) _)
  have hF1 : FR ([74, 75, 76, 77, 78], [(68, 11)]) iv iv_3 := by rw [ei_4]; exact hF1.put (Or.inl (by decide))
  have kf_5 := congrArg Int32.toInt (show iv_3 68 0 11 = iv 68 0 11 by rw [ei_4]; exact up3_ne (fun z => absurd z.1 (by decide)))
  refine lv_aload_n hx hb dX4_addExcuse_10 rfl (lv_at hl 0 rfl) ?_
  refine g_68_7 C hU hG (h1_68 hG) fl_X4_30 dX4_addExcuse_11 ?_
  refine lv_aload_n hx hb dX4_addExcuse_14 rfl (lv_at hl 0 rfl) ?_
  refine g_68_11 C hU hG (h1_68 hG) fl_X4_47 dX4_addExcuse_15 (fun x_6 e_7 le_7 ue_7 => ?_)
  have te_7 := congrArg Int32.toInt e_7
  refine lv_iload_n hx hb dX4_addExcuse_18 rfl (lv_at hl 2 rfl) ?_
  refine s_75 C hU hS (h1_75 hG) (x := x_6) (by omega) (by omega) dX4_addExcuse_19 (fun iv_8 H locs ei_9 hU hS => ?_)
  have hG : GI al iv_8 rv := by rw [ei_9]; exact hG.puti (show _ ∧ _ from ⟨(fb_rng _).1, Int.le_of_lt_add_one (fb_rng _).2⟩) (nsA (by decide) _)
  have hF1 : FR ([74, 75, 76, 77, 78], [(68, 11)]) iv iv_8 := by rw [ei_9]; exact hF1.put (Or.inl (by decide))
  have kf_10 := congrArg Int32.toInt (show iv_8 68 0 11 = iv_3 68 0 11 by rw [ei_9]; exact up3_ne (fun z => absurd z.1 (by decide)))
  refine lv_aload_n hx hb dX4_addExcuse_20 rfl (lv_at hl 0 rfl) ?_
  refine g_68_8 C hU hG (h1_68 hG) fl_X4_33 dX4_addExcuse_21 ?_
  refine lv_aload_n hx hb dX4_addExcuse_24 rfl (lv_at hl 0 rfl) ?_
  refine g_68_11 C hU hG (h1_68 hG) fl_X4_47 dX4_addExcuse_25 (fun x_11 e_12 le_12 ue_12 => ?_)
  have te_12 := congrArg Int32.toInt e_12
  refine lv_iload_n hx hb dX4_addExcuse_28 rfl (lv_at hl 3 rfl) ?_
  refine s_76 C hU hS (h1_76 hG) (x := x_11) (by omega) (by omega) dX4_addExcuse_29 (fun iv_13 H locs ei_14 hU hS => ?_)
  have hG : GI al iv_13 rv := by rw [ei_14]; exact hG.puti (show _ ∧ _ from ⟨(fb_rng _).1, Int.le_of_lt_add_one (fb_rng _).2⟩) (nsA (by decide) _)
  have hF1 : FR ([74, 75, 76, 77, 78], [(68, 11)]) iv iv_13 := by rw [ei_14]; exact hF1.put (Or.inl (by decide))
  have kf_15 := congrArg Int32.toInt (show iv_13 68 0 11 = iv_8 68 0 11 by rw [ei_14]; exact up3_ne (fun z => absurd z.1 (by decide)))
  refine lv_aload_n hx hb dX4_addExcuse_30 rfl (lv_at hl 0 rfl) ?_
  refine g_68_9 C hU hG (h1_68 hG) fl_X4_36 dX4_addExcuse_31 ?_
  refine lv_aload_n hx hb dX4_addExcuse_34 rfl (lv_at hl 0 rfl) ?_
  refine g_68_11 C hU hG (h1_68 hG) fl_X4_47 dX4_addExcuse_35 (fun x_16 e_17 le_17 ue_17 => ?_)
  have te_17 := congrArg Int32.toInt e_17
  refine lv_iload hx hb dX4_addExcuse_38 (lv_at hl 4 rfl) ?_
  refine s_77 C hU hS (h1_77 hG) (x := x_16) (by omega) (by omega) dX4_addExcuse_40 (fun iv_18 H locs ei_19 hU hS => ?_)
  have hG : GI al iv_18 rv := by rw [ei_19]; exact hG.puti (show _ ∧ _ from ⟨(fb_rng _).1, Int.le_of_lt_add_one (fb_rng _).2⟩) (nsA (by decide) _)
  have hF1 : FR ([74, 75, 76, 77, 78], [(68, 11)]) iv iv_18 := by rw [ei_19]; exact hF1.put (Or.inl (by decide))
  have kf_20 := congrArg Int32.toInt (show iv_18 68 0 11 = iv_13 68 0 11 by rw [ei_19]; exact up3_ne (fun z => absurd z.1 (by decide)))
  refine lv_aload_n hx hb dX4_addExcuse_41 rfl (lv_at hl 0 rfl) ?_
  refine g_68_10 C hU hG (h1_68 hG) fl_X4_39 dX4_addExcuse_42 ?_
  refine lv_aload_n hx hb dX4_addExcuse_45 rfl (lv_at hl 0 rfl) ?_
  refine g_68_11 C hU hG (h1_68 hG) fl_X4_47 dX4_addExcuse_46 (fun x_21 e_22 le_22 ue_22 => ?_)
  have te_22 := congrArg Int32.toInt e_22
  refine lv_iload hx hb dX4_addExcuse_49 (lv_at hl 5 rfl) ?_
  refine s_78 C hU hS (h1_78 hG) (x := x_21) (by omega) (by omega) (by omega) (by omega) dX4_addExcuse_51 (fun iv_23 H locs ei_24 hU hS => ?_)
  have hG : GI al iv_23 rv := by rw [ei_24]; exact hG.puti (show _ ∧ _ from ⟨show (0 : Int) ≤ _ by omega, show _ ≤ (1 : Int) by omega⟩) (nsA (by decide) _)
  have hF1 : FR ([74, 75, 76, 77, 78], [(68, 11)]) iv iv_23 := by rw [ei_24]; exact hF1.put (Or.inl (by decide))
  have kf_25 := congrArg Int32.toInt (show iv_23 68 0 11 = iv_18 68 0 11 by rw [ei_24]; exact up3_ne (fun z => absurd z.1 (by decide)))
  refine lv_aload_n hx hb dX4_addExcuse_52 rfl (lv_at hl 0 rfl) ?_
  refine lv_dup hx hb dX4_addExcuse_53 rfl ?_
  refine g_68_11 C hU hG (h1_68 hG) fl_X4_47 dX4_addExcuse_54 (fun x_26 e_27 le_27 ue_27 => ?_)
  have te_27 := congrArg Int32.toInt e_27
  refine lv_iconst (v := 1) hx hb dX4_addExcuse_57 (by decide) ?_
  refine lv_iadd hx hb dX4_addExcuse_58 ?_
  refine lv_topi (fun x_28 e_29 => ?_)
  have te_29 : x_28.toInt = (x_26 : Int32).toInt + (1 : Int32).toInt := by rw [e_29]; exact fb_addI (by omega) (by omega)
  refine p_68_11 C hU hS (h1_68 hG) fl_X4_47 dX4_addExcuse_59 (fun iv_30 H locs ei_31 hU hS => ?_)
  have hG : GI al iv_30 rv := by rw [ei_31]; exact hG.puti (show _ ∧ _ from ⟨show (0 : Int) ≤ _ by omega, show _ ≤ (40 : Int) by omega⟩) (nsF (by decide))
  have hF1 : FR ([74, 75, 76, 77, 78], [(68, 11)]) iv iv_30 := by rw [ei_31]; exact hF1.put (by decide)
  refine lv_aload_n hx hb dX4_addExcuse_62 rfl (lv_at hl 0 rfl) ?_
  refine g_68_11 C hU hG (h1_68 hG) fl_X4_47 dX4_addExcuse_63 (fun x_32 e_33 le_33 ue_33 => ?_)
  have te_33 := congrArg Int32.toInt e_33
  have hz_ := e_33
  rw [ei_31, up3_self] at hz_
  have tz_ := congrArg Int32.toInt hz_
  exact hret (⟨hG, hF1, hF2, ⟨by omega, by rw [ei_31, up3_self]; omega, fun k => ⟨by rw [ei_31, up3_ne (fun z => absurd z.1 (by decide)), ei_24, up3_ne (fun z => absurd z.1 (by decide)), ei_19, up3_ne (fun z => absurd z.1 (by decide)), ei_14, up3_ne (fun z => absurd z.1 (by decide)), ei_9, up3_ne (fun z => absurd z.1 (by decide)), ei_4, clamp_eq (show (x_1 : Int32).toInt = (iv 68 0 11).toInt by omega), up3_k], by rw [ei_31, up3_ne (fun z => absurd z.1 (by decide)), ei_24, up3_ne (fun z => absurd z.1 (by decide)), ei_19, up3_ne (fun z => absurd z.1 (by decide)), ei_14, up3_ne (fun z => absurd z.1 (by decide)), ei_9, clamp_eq (show (x_6 : Int32).toInt = (iv 68 0 11).toInt by omega), up3_k, ei_4, up3_ne (fun z => absurd z.1 (by decide))], by rw [ei_31, up3_ne (fun z => absurd z.1 (by decide)), ei_24, up3_ne (fun z => absurd z.1 (by decide)), ei_19, up3_ne (fun z => absurd z.1 (by decide)), ei_14, clamp_eq (show (x_11 : Int32).toInt = (iv 68 0 11).toInt by omega), up3_k, ei_9, up3_ne (fun z => absurd z.1 (by decide)), ei_4, up3_ne (fun z => absurd z.1 (by decide))], by rw [ei_31, up3_ne (fun z => absurd z.1 (by decide)), ei_24, up3_ne (fun z => absurd z.1 (by decide)), ei_19, clamp_eq (show (x_16 : Int32).toInt = (iv 68 0 11).toInt by omega), up3_k, ei_14, up3_ne (fun z => absurd z.1 (by decide)), ei_9, up3_ne (fun z => absurd z.1 (by decide)), ei_4, up3_ne (fun z => absurd z.1 (by decide))], by rw [ei_31, up3_ne (fun z => absurd z.1 (by decide)), ei_24, clamp_eq (show (x_21 : Int32).toInt = (iv 68 0 11).toInt by omega), up3_k, ei_19, up3_ne (fun z => absurd z.1 (by decide)), ei_14, up3_ne (fun z => absurd z.1 (by decide)), ei_9, up3_ne (fun z => absurd z.1 (by decide)), ei_4, up3_ne (fun z => absurd z.1 (by decide))]⟩⟩⟩) hU hS dX4_addExcuse_66
set_option maxHeartbeats 4000000 in
set_option maxRecDepth 100000 in
theorem c_X11_excuse_y {l : Launch} {D : va_G} {cA : FieldType → ClassId} {sz : Nat} {al : Al} {iv : Iv} {rv : Rv} (hG : GI al iv rv) (lw : Int32) (cs : Int32) (d : Int32) (on : Int32) (pre0 : 0 ≤ on.toInt ∧ on.toInt ≤ 1) : Met l yX11_excuse (wd yX11_excuse cX11_excuse 5 (some .int)) (rm 2) (PcW D cA sz al iv rv [.ref (al.2 49 0), .int lw, .int cs, .int d, .int on]) (QI D cA sz al (fI al ([51, 74, 75, 76, 77, 78], [(68, 11)]) iv rv (fun r iv' rv' => (spExc lw cs d (iv 68 0 11).toInt = 0 ∧ r.toInt = (iv 68 0 11).toInt + 1 ∧ (iv' 68 0 11).toInt = (iv 68 0 11).toInt + 1 ∧ (∀ k : Nat, iv' 74 0 k = (if k = (iv 68 0 11).toNatClampNeg then lw else iv 74 0 k) ∧ iv' 75 0 k = (if k = (iv 68 0 11).toNatClampNeg then cs else iv 75 0 k) ∧ iv' 76 0 k = (if k = (iv 68 0 11).toNatClampNeg then d else iv 76 0 k) ∧ iv' 77 0 k = (if k = (iv 68 0 11).toNatClampNeg then iv 49 0 9 else iv 77 0 k) ∧ iv' 78 0 k = (if k = (iv 68 0 11).toNatClampNeg then on else iv 78 0 k))) ∨ (spExc lw cs d (iv 68 0 11).toInt ≠ 0 ∧ r = spExc lw cs d (iv 68 0 11).toInt ∧ iv' 68 0 11 = iv 68 0 11 ∧ (∀ k : Nat, iv' 74 0 k = iv 74 0 k ∧ iv' 75 0 k = iv 75 0 k ∧ iv' 76 0 k = iv 76 0 k ∧ iv' 77 0 k = iv 77 0 k ∧ iv' 78 0 k = iv 78 0 k))))) 0 0 (Aq sz) := by
  refine mk_i (by decide) (Nat.le_of_ble_eq_true rfl) rfl ?_
  intro p e s m args below meth c ls Q H locs C hU hS hl hret
  have hx := C.1.1
  have hb := C.1.2.1
  have hl : lv_has ls 5 [(0, .ref (al.2 49 0)), (1, .int lw), (2, .int cs), (3, .int d), (4, .int on)] := hl
  have hG0 := hG
  have hF1 : FR ([51, 74, 75, 76, 77, 78], [(68, 11)]) iv iv := FR.rf
  have hF2 : FR ([51, 74, 75, 76, 77, 78], [(68, 11)]) rv rv := FR.rf
  have km6 : ((-6) : Int32).toInt = -6 := by decide
  have km4 : ((-4) : Int32).toInt = -4 := by decide
  have km1 : ((-1) : Int32).toInt = -1 := by decide
  have k4 : (4 : Int32).toInt = 4 := by decide
  have k6 : (6 : Int32).toInt = 6 := by decide
  have k4000 : (4000 : Int32).toInt = 4000 := by decide
  refine lv_iconst (v := 4) hx hb dX11_excuse_0 (by decide) ?_
  refine lv_iload_n hx hb dX11_excuse_1 rfl (lv_at hl 1 rfl) ?_
  refine q_pi (q_runS (As := [.int 4, .int lw]) (rest := []) C hU (c_X11_isOneOf  4 lw ) sm_X11_isOneOf ml_X11_85 hl.1 rfl rfl (Nat.le_of_ble_eq_true rfl) dX11_excuse_2 rfl rfl ⟨Nat.le_of_ble_eq_true rfl, Nat.le_of_ble_eq_true rfl⟩ ⟨Nat.le_refl _, Nat.le_refl _⟩) hS (fun x_2 H locs hp_1 hU hS => ?_)
  refine b_if_eq (tgt := 17) hx hb dX11_excuse_5 (by decide) (fun c_3 => ?_) (fun c_3 => ?_)
  ·
    refine lv_aload_n hx hb dX11_excuse_17 rfl (lv_at hl 0 rfl) ?_
    refine lv_iconst (v := (-1)) hx hb dX11_excuse_18 (by decide) ?_
    refine q_fi (q_runV (t := 49) (i := 0) (As := [.int (-1)]) (rest := []) C hU (c_X11_refuse hG (-1) (by omega)) vm_X11_refuse ml_X11_77 k_49.1 (hc := rfl) rfl (h1_49 hG) hl.1 rfl rfl (Nat.le_of_ble_eq_true rfl) dX11_excuse_19 rfl rfl ⟨Nat.le_of_ble_eq_true rfl, Nat.le_of_ble_eq_true rfl⟩ ⟨Nat.le_refl _, Nat.le_refl _⟩) hS (fun x_9 iv_5 rv_6 H locs hG fa_7 fb_8 hp_4 hU hS => ?_)
    have hF1 := hF1.tr (m := ([51, 74, 75, 76, 77, 78], [(68, 11)])) fa_7 (by decide)
    have hF2 := hF2.tr (m := ([51, 74, 75, 76, 77, 78], [(68, 11)])) fb_8 (by decide)
    exact hret (⟨hG, hF1, hF2, sp_no (z := (-1)) (by unfold spExc; (repeat' split) <;> first | rfl | omega) (by decide) hp_4 (⟨fa_7 68 0 11 (by decide), fun k => ⟨fa_7.arr 74 0 k (by decide), fa_7.arr 75 0 k (by decide), fa_7.arr 76 0 k (by decide), fa_7.arr 77 0 k (by decide), fa_7.arr 78 0 k (by decide)⟩⟩)⟩) hU hS dX11_excuse_22
  ·
    refine lv_bipush (v := 6) hx hb dX11_excuse_8 (by decide) ?_
    refine lv_iload_n hx hb dX11_excuse_10 rfl (lv_at hl 2 rfl) ?_
    refine q_pi (q_runS (As := [.int 6, .int cs]) (rest := []) C hU (c_X11_isOneOf  6 cs ) sm_X11_isOneOf ml_X11_85 hl.1 rfl rfl (Nat.le_of_ble_eq_true rfl) dX11_excuse_11 rfl rfl ⟨Nat.le_of_ble_eq_true rfl, Nat.le_of_ble_eq_true rfl⟩ ⟨Nat.le_refl _, Nat.le_refl _⟩) hS (fun x_11 H locs hp_10 hU hS => ?_)
    refine b_if_ne (tgt := 23) hx hb dX11_excuse_14 (by decide) (fun c_12 => ?_) (fun c_12 => ?_)
    ·
      refine lv_iload_n hx hb dX11_excuse_23 rfl (lv_at hl 3 rfl) ?_
      refine b_if_ge (tgt := 34) hx hb dX11_excuse_24 (by decide) (fun c_13 => ?_) (fun c_13 => ?_)
      ·
        refine lv_iload_n hx hb dX11_excuse_34 rfl (lv_at hl 3 rfl) ?_
        refine lv_sipush (v := 4000) hx hb dX11_excuse_35 (by decide) ?_
        refine b_icmp_gt (tgt := 51) hx hb dX11_excuse_38 (by decide) (fun c_14 => ?_) (fun c_14 => ?_)
        ·
          refine lv_aload_n hx hb dX11_excuse_51 rfl (lv_at hl 0 rfl) ?_
          refine lv_bipush (v := (-6)) hx hb dX11_excuse_52 (by decide) ?_
          refine q_fi (q_runV (t := 49) (i := 0) (As := [.int (-6)]) (rest := []) C hU (c_X11_refuse hG (-6) (by omega)) vm_X11_refuse ml_X11_77 k_49.1 (hc := rfl) rfl (h1_49 hG) hl.1 rfl rfl (Nat.le_of_ble_eq_true rfl) dX11_excuse_54 rfl rfl ⟨Nat.le_of_ble_eq_true rfl, Nat.le_of_ble_eq_true rfl⟩ ⟨Nat.le_refl _, Nat.le_refl _⟩) hS (fun x_20 iv_16 rv_17 H locs hG fa_18 fb_19 hp_15 hU hS => ?_)
          have hF1 := hF1.tr (m := ([51, 74, 75, 76, 77, 78], [(68, 11)])) fa_18 (by decide)
          have hF2 := hF2.tr (m := ([51, 74, 75, 76, 77, 78], [(68, 11)])) fb_19 (by decide)
          exact hret (⟨hG, hF1, hF2, sp_no (z := (-6)) (by unfold spExc; (repeat' split) <;> first | rfl | omega) (by decide) hp_15 (⟨fa_18 68 0 11 (by decide), fun k => ⟨fa_18.arr 74 0 k (by decide), fa_18.arr 75 0 k (by decide), fa_18.arr 76 0 k (by decide), fa_18.arr 77 0 k (by decide), fa_18.arr 78 0 k (by decide)⟩⟩)⟩) hU hS dX11_excuse_57
        ·
          refine lv_aload_n hx hb dX11_excuse_41 rfl (lv_at hl 0 rfl) ?_
          refine g_49_3 C hU hG (h1_49 hG) fl_X11_33 dX11_excuse_42 ?_
          refine q_pi (q_runV (t := 68) (i := 0) (As := []) (rest := []) C hU (c_X4_isFullOfExcuses hG  ) vm_X4_isFullOfExcuses ml_X11_225 k_68.1 (hc := rfl) rfl (h1_68 hG) hl.1 rfl rfl (Nat.le_of_ble_eq_true rfl) dX11_excuse_45 rfl rfl ⟨Nat.le_of_ble_eq_true rfl, Nat.le_of_ble_eq_true rfl⟩ ⟨Nat.le_refl _, Nat.le_refl _⟩) hS (fun x_22 H locs hp_21 hU hS => ?_)
          refine b_if_eq (tgt := 58) hx hb dX11_excuse_48 (by decide) (fun c_23 => ?_) (fun c_23 => ?_)
          ·
            refine lv_aload_n hx hb dX11_excuse_58 rfl (lv_at hl 0 rfl) ?_
            refine g_49_3 C hU hG (h1_49 hG) fl_X11_33 dX11_excuse_59 ?_
            refine lv_iload_n hx hb dX11_excuse_62 rfl (lv_at hl 1 rfl) ?_
            refine lv_iload_n hx hb dX11_excuse_63 rfl (lv_at hl 2 rfl) ?_
            refine lv_iload_n hx hb dX11_excuse_64 rfl (lv_at hl 3 rfl) ?_
            refine lv_aload_n hx hb dX11_excuse_65 rfl (lv_at hl 0 rfl) ?_
            refine g_49_9 C hU hG (h1_49 hG) fl_X11_73 dX11_excuse_66 (fun x_24 e_25 le_25 ue_25 => ?_)
            have te_25 := congrArg Int32.toInt e_25
            refine lv_iload hx hb dX11_excuse_69 (lv_at hl 4 rfl) ?_
            refine q_fi (q_runV (t := 68) (i := 0) (As := [.int lw, .int cs, .int d, .int x_24, .int on]) (rest := []) C hU (c_X4_addExcuse_y hG lw cs d x_24 on (by omega) (by omega)) vm_X4_addExcuse ml_X11_228 k_68.1 (hc := rfl) rfl (h1_68 hG) hl.1 rfl rfl (Nat.le_of_ble_eq_true rfl) dX11_excuse_71 rfl rfl ⟨Nat.le_of_ble_eq_true rfl, Nat.le_of_ble_eq_true rfl⟩ ⟨Nat.le_refl _, Nat.le_refl _⟩) hS (fun x_31 iv_27 rv_28 H locs hG fa_29 fb_30 hp_26 hU hS => ?_)
            have hF1 := hF1.tr (m := ([51, 74, 75, 76, 77, 78], [(68, 11)])) fa_29 (by decide)
            have hF2 := hF2.tr (m := ([51, 74, 75, 76, 77, 78], [(68, 11)])) fb_30 (by decide)
            exact hret (⟨hG, hF1, hF2, Or.inl ⟨(by unfold spExc; (repeat' split) <;> first | rfl | omega), hp_26.1, hp_26.2.1, by have z := hp_26.2.2; rw [e_25] at z; exact z⟩⟩) hU hS dX11_excuse_74
          ·
            refine lv_aload_n hx hb dX11_excuse_51 rfl (lv_at hl 0 rfl) ?_
            refine lv_bipush (v := (-6)) hx hb dX11_excuse_52 (by decide) ?_
            refine q_fi (q_runV (t := 49) (i := 0) (As := [.int (-6)]) (rest := []) C hU (c_X11_refuse hG (-6) (by omega)) vm_X11_refuse ml_X11_77 k_49.1 (hc := rfl) rfl (h1_49 hG) hl.1 rfl rfl (Nat.le_of_ble_eq_true rfl) dX11_excuse_54 rfl rfl ⟨Nat.le_of_ble_eq_true rfl, Nat.le_of_ble_eq_true rfl⟩ ⟨Nat.le_refl _, Nat.le_refl _⟩) hS (fun x_37 iv_33 rv_34 H locs hG fa_35 fb_36 hp_32 hU hS => ?_)
            have hF1 := hF1.tr (m := ([51, 74, 75, 76, 77, 78], [(68, 11)])) fa_35 (by decide)
            have hF2 := hF2.tr (m := ([51, 74, 75, 76, 77, 78], [(68, 11)])) fb_36 (by decide)
            exact hret (⟨hG, hF1, hF2, sp_no (z := (-6)) (by unfold spExc; (repeat' split) <;> first | rfl | omega) (by decide) hp_32 (⟨fa_35 68 0 11 (by decide), fun k => ⟨fa_35.arr 74 0 k (by decide), fa_35.arr 75 0 k (by decide), fa_35.arr 76 0 k (by decide), fa_35.arr 77 0 k (by decide), fa_35.arr 78 0 k (by decide)⟩⟩)⟩) hU hS dX11_excuse_57
      ·
        refine lv_aload_n hx hb dX11_excuse_27 rfl (lv_at hl 0 rfl) ?_
        refine lv_bipush (v := (-4)) hx hb dX11_excuse_28 (by decide) ?_
        refine q_fi (q_runV (t := 49) (i := 0) (As := [.int (-4)]) (rest := []) C hU (c_X11_refuse hG (-4) (by omega)) vm_X11_refuse ml_X11_77 k_49.1 (hc := rfl) rfl (h1_49 hG) hl.1 rfl rfl (Nat.le_of_ble_eq_true rfl) dX11_excuse_30 rfl rfl ⟨Nat.le_of_ble_eq_true rfl, Nat.le_of_ble_eq_true rfl⟩ ⟨Nat.le_refl _, Nat.le_refl _⟩) hS (fun x_43 iv_39 rv_40 H locs hG fa_41 fb_42 hp_38 hU hS => ?_)
        have hF1 := hF1.tr (m := ([51, 74, 75, 76, 77, 78], [(68, 11)])) fa_41 (by decide)
        have hF2 := hF2.tr (m := ([51, 74, 75, 76, 77, 78], [(68, 11)])) fb_42 (by decide)
        exact hret (⟨hG, hF1, hF2, sp_no (z := (-4)) (by unfold spExc; (repeat' split) <;> first | rfl | omega) (by decide) hp_38 (⟨fa_41 68 0 11 (by decide), fun k => ⟨fa_41.arr 74 0 k (by decide), fa_41.arr 75 0 k (by decide), fa_41.arr 76 0 k (by decide), fa_41.arr 77 0 k (by decide), fa_41.arr 78 0 k (by decide)⟩⟩)⟩) hU hS dX11_excuse_33
    ·
      refine lv_aload_n hx hb dX11_excuse_17 rfl (lv_at hl 0 rfl) ?_
      refine lv_iconst (v := (-1)) hx hb dX11_excuse_18 (by decide) ?_
      refine q_fi (q_runV (t := 49) (i := 0) (As := [.int (-1)]) (rest := []) C hU (c_X11_refuse hG (-1) (by omega)) vm_X11_refuse ml_X11_77 k_49.1 (hc := rfl) rfl (h1_49 hG) hl.1 rfl rfl (Nat.le_of_ble_eq_true rfl) dX11_excuse_19 rfl rfl ⟨Nat.le_of_ble_eq_true rfl, Nat.le_of_ble_eq_true rfl⟩ ⟨Nat.le_refl _, Nat.le_refl _⟩) hS (fun x_49 iv_45 rv_46 H locs hG fa_47 fb_48 hp_44 hU hS => ?_)
      have hF1 := hF1.tr (m := ([51, 74, 75, 76, 77, 78], [(68, 11)])) fa_47 (by decide)
      have hF2 := hF2.tr (m := ([51, 74, 75, 76, 77, 78], [(68, 11)])) fb_48 (by decide)
      exact hret (⟨hG, hF1, hF2, sp_no (z := (-1)) (by unfold spExc; (repeat' split) <;> first | rfl | omega) (by decide) hp_44 (⟨fa_47 68 0 11 (by decide), fun k => ⟨fa_47.arr 74 0 k (by decide), fa_47.arr 75 0 k (by decide), fa_47.arr 76 0 k (by decide), fa_47.arr 77 0 k (by decide), fa_47.arr 78 0 k (by decide)⟩⟩)⟩) hU hS dX11_excuse_22
set_option maxHeartbeats 4000000 in
set_option maxRecDepth 100000 in
theorem c_X12_stop_y {l : Launch} {D : va_G} {cA : FieldType → ClassId} {sz : Nat} {al : Al} {iv : Iv} {rv : Rv} (hG : GI al iv rv) (lw : Int32) (a : Int32) (b : Int32) : Met l yX12_stop (wd yX12_stop cX12_stop 4 (some .int)) (rm 2) (PcW D cA sz al iv rv [.ref (al.2 0 0), .int lw, .int a, .int b]) (QI D cA sz al (fI al ([16, 32, 33, 34], [(0, 37)]) iv rv (fun r iv' rv' => (spStop lw a b (iv 0 0 37).toInt = 0 ∧ r.toInt = (iv 0 0 37).toInt + 1 ∧ (iv' 0 0 37).toInt = (iv 0 0 37).toInt + 1 ∧ (∀ k : Nat, iv' 32 0 k = (if k = (iv 0 0 37).toNatClampNeg then lw else iv 32 0 k) ∧ iv' 33 0 k = (if k = (iv 0 0 37).toNatClampNeg then a else iv 33 0 k) ∧ iv' 34 0 k = (if k = (iv 0 0 37).toNatClampNeg then b else iv 34 0 k))) ∨ (spStop lw a b (iv 0 0 37).toInt ≠ 0 ∧ r = spStop lw a b (iv 0 0 37).toInt ∧ iv' 0 0 37 = iv 0 0 37 ∧ (∀ k : Nat, iv' 32 0 k = iv 32 0 k ∧ iv' 33 0 k = iv 33 0 k ∧ iv' 34 0 k = iv 34 0 k))))) 0 0 (Aq sz) := by
  refine mk_i (by decide) (Nat.le_of_ble_eq_true rfl) rfl ?_
  intro p e s m args below meth c ls Q H locs C hU hS hl hret
  have hx := C.1.1
  have hb := C.1.2.1
  have hl : lv_has ls 4 [(0, .ref (al.2 0 0)), (1, .int lw), (2, .int a), (3, .int b)] := hl
  have hG0 := hG
  have h6 := le6 hG
  have h20 := le20 hG
  have h41 := le41 hG
  have hF1 : FR ([16, 32, 33, 34], [(0, 37)]) iv iv := FR.rf
  have hF2 : FR ([16, 32, 33, 34], [(0, 37)]) rv rv := FR.rf
  have km6 : ((-6) : Int32).toInt = -6 := by decide
  have km4 : ((-4) : Int32).toInt = -4 := by decide
  have km1 : ((-1) : Int32).toInt = -1 := by decide
  have k1 : (1 : Int32).toInt = 1 := by decide
  have k20 : (20 : Int32).toInt = 20 := by decide
  have k4000 : (4000 : Int32).toInt = 4000 := by decide
  refine lv_iload_n hx hb dX12_stop_0 rfl (lv_at hl 1 rfl) ?_
  refine q_pi (q_runS (As := [.int lw]) (rest := []) C hU (c_X12_isLand  lw ) sm_X12_isLand ml_X12_244 hl.1 rfl rfl (Nat.le_of_ble_eq_true rfl) dX12_stop_1 rfl rfl ⟨Nat.le_of_ble_eq_true rfl, Nat.le_of_ble_eq_true rfl⟩ ⟨Nat.le_refl _, Nat.le_refl _⟩) hS (fun x_2 H locs hp_1 hU hS => ?_)
  refine b_if_ne (tgt := 13) hx hb dX12_stop_4 (by decide) (fun c_3 => ?_) (fun c_3 => ?_)
  ·
    refine lv_iload_n hx hb dX12_stop_13 rfl (lv_at hl 2 rfl) ?_
    refine b_if_lt (tgt := 22) hx hb dX12_stop_14 (by decide) (fun c_4 => ?_) (fun c_4 => ?_)
    ·
      refine lv_aload_n hx hb dX12_stop_22 rfl (lv_at hl 0 rfl) ?_
      refine lv_bipush (v := (-4)) hx hb dX12_stop_23 (by decide) ?_
      refine q_fi (q_runV (t := 0) (i := 0) (As := [.int (-4)]) (rest := []) C hU (c_X12_refuse hG (-4) (by omega)) vm_X12_refuse ml_X12_164 k_0.1 (hc := rfl) rfl (h1_0 hG) hl.1 rfl rfl (Nat.le_of_ble_eq_true rfl) dX12_stop_25 rfl rfl ⟨Nat.le_of_ble_eq_true rfl, Nat.le_of_ble_eq_true rfl⟩ ⟨Nat.le_refl _, Nat.le_refl _⟩) hS (fun x_10 iv_6 rv_7 H locs hG fa_8 fb_9 hp_5 hU hS => ?_)
      have hF1 := hF1.tr (m := ([16, 32, 33, 34], [(0, 37)])) fa_8 (by decide)
      have hF2 := hF2.tr (m := ([16, 32, 33, 34], [(0, 37)])) fb_9 (by decide)
      exact hret (⟨hG, hF1, hF2, sp_no (z := (-4)) (by unfold spStop; (repeat' split) <;> first | rfl | omega) (by decide) hp_5 (⟨fa_8 0 0 37 (by decide), fun k => ⟨fa_8.arr 32 0 k (by decide), fa_8.arr 33 0 k (by decide), fa_8.arr 34 0 k (by decide)⟩⟩)⟩) hU hS dX12_stop_28
    ·
      refine lv_iload_n hx hb dX12_stop_17 rfl (lv_at hl 3 rfl) ?_
      refine lv_iload_n hx hb dX12_stop_18 rfl (lv_at hl 2 rfl) ?_
      refine b_icmp_ge (tgt := 29) hx hb dX12_stop_19 (by decide) (fun c_11 => ?_) (fun c_11 => ?_)
      ·
        refine lv_iload_n hx hb dX12_stop_29 rfl (lv_at hl 3 rfl) ?_
        refine lv_sipush (v := 4000) hx hb dX12_stop_30 (by decide) ?_
        refine b_icmp_gt (tgt := 45) hx hb dX12_stop_33 (by decide) (fun c_12 => ?_) (fun c_12 => ?_)
        ·
          refine lv_aload_n hx hb dX12_stop_45 rfl (lv_at hl 0 rfl) ?_
          refine lv_bipush (v := (-6)) hx hb dX12_stop_46 (by decide) ?_
          refine q_fi (q_runV (t := 0) (i := 0) (As := [.int (-6)]) (rest := []) C hU (c_X12_refuse hG (-6) (by omega)) vm_X12_refuse ml_X12_164 k_0.1 (hc := rfl) rfl (h1_0 hG) hl.1 rfl rfl (Nat.le_of_ble_eq_true rfl) dX12_stop_48 rfl rfl ⟨Nat.le_of_ble_eq_true rfl, Nat.le_of_ble_eq_true rfl⟩ ⟨Nat.le_refl _, Nat.le_refl _⟩) hS (fun x_18 iv_14 rv_15 H locs hG fa_16 fb_17 hp_13 hU hS => ?_)
          have hF1 := hF1.tr (m := ([16, 32, 33, 34], [(0, 37)])) fa_16 (by decide)
          have hF2 := hF2.tr (m := ([16, 32, 33, 34], [(0, 37)])) fb_17 (by decide)
          exact hret (⟨hG, hF1, hF2, sp_no (z := (-6)) (by unfold spStop; (repeat' split) <;> first | rfl | omega) (by decide) hp_13 (⟨fa_16 0 0 37 (by decide), fun k => ⟨fa_16.arr 32 0 k (by decide), fa_16.arr 33 0 k (by decide), fa_16.arr 34 0 k (by decide)⟩⟩)⟩) hU hS dX12_stop_51
        ·
          refine lv_aload_n hx hb dX12_stop_36 rfl (lv_at hl 0 rfl) ?_
          refine g_0_37 C hU hG (h1_0 hG) fl_X12_272 dX12_stop_37 (fun x_19 e_20 le_20 ue_20 => ?_)
          have te_20 := congrArg Int32.toInt e_20
          refine lv_bipush (v := 20) hx hb dX12_stop_40 (by decide) ?_
          refine b_icmp_ne (tgt := 52) hx hb dX12_stop_42 (by decide) (fun c_21 => ?_) (fun c_21 => ?_)
          ·
            refine lv_aload_n hx hb dX12_stop_52 rfl (lv_at hl 0 rfl) ?_
            refine g_0_38 C hU hG (h1_0 hG) fl_X12_104 dX12_stop_53 ?_
            refine lv_aload_n hx hb dX12_stop_56 rfl (lv_at hl 0 rfl) ?_
            refine g_0_37 C hU hG (h1_0 hG) fl_X12_272 dX12_stop_57 (fun x_22 e_23 le_23 ue_23 => ?_)
            have te_23 := congrArg Int32.toInt e_23
            refine lv_iload_n hx hb dX12_stop_60 rfl (lv_at hl 1 rfl) ?_
            refine s_32 C hU hS (h1_32 hG) (x := x_22) (by omega) (by omega) dX12_stop_61 (fun iv_24 H locs ei_25 hU hS => ?_)
            have hG : GI al iv_24 rv := by rw [ei_25]; exact hG.puti (show _ ∧ _ from ⟨(fb_rng _).1, Int.le_of_lt_add_one (fb_rng _).2⟩) (nsA (by decide) _)
            have hF1 : FR ([16, 32, 33, 34], [(0, 37)]) iv iv_24 := by rw [ei_25]; exact hF1.put (Or.inl (by decide))
            have kf_26 := congrArg Int32.toInt (show iv_24 0 0 37 = iv 0 0 37 by rw [ei_25]; exact up3_ne (fun z => absurd z.1 (by decide)))
            refine lv_aload_n hx hb dX12_stop_62 rfl (lv_at hl 0 rfl) ?_
            refine g_0_39 C hU hG (h1_0 hG) fl_X12_107 dX12_stop_63 ?_
            refine lv_aload_n hx hb dX12_stop_66 rfl (lv_at hl 0 rfl) ?_
            refine g_0_37 C hU hG (h1_0 hG) fl_X12_272 dX12_stop_67 (fun x_27 e_28 le_28 ue_28 => ?_)
            have te_28 := congrArg Int32.toInt e_28
            refine lv_iload_n hx hb dX12_stop_70 rfl (lv_at hl 2 rfl) ?_
            refine s_33 C hU hS (h1_33 hG) (x := x_27) (by omega) (by omega) dX12_stop_71 (fun iv_29 H locs ei_30 hU hS => ?_)
            have hG : GI al iv_29 rv := by rw [ei_30]; exact hG.puti (show _ ∧ _ from ⟨(fb_rng _).1, Int.le_of_lt_add_one (fb_rng _).2⟩) (nsA (by decide) _)
            have hF1 : FR ([16, 32, 33, 34], [(0, 37)]) iv iv_29 := by rw [ei_30]; exact hF1.put (Or.inl (by decide))
            have kf_31 := congrArg Int32.toInt (show iv_29 0 0 37 = iv_24 0 0 37 by rw [ei_30]; exact up3_ne (fun z => absurd z.1 (by decide)))
            refine lv_aload_n hx hb dX12_stop_72 rfl (lv_at hl 0 rfl) ?_
            refine g_0_40 C hU hG (h1_0 hG) fl_X12_110 dX12_stop_73 ?_
            refine lv_aload_n hx hb dX12_stop_76 rfl (lv_at hl 0 rfl) ?_
            refine g_0_37 C hU hG (h1_0 hG) fl_X12_272 dX12_stop_77 (fun x_32 e_33 le_33 ue_33 => ?_)
            have te_33 := congrArg Int32.toInt e_33
            refine lv_iload_n hx hb dX12_stop_80 rfl (lv_at hl 3 rfl) ?_
            refine s_34 C hU hS (h1_34 hG) (x := x_32) (by omega) (by omega) dX12_stop_81 (fun iv_34 H locs ei_35 hU hS => ?_)
            have hG : GI al iv_34 rv := by rw [ei_35]; exact hG.puti (show _ ∧ _ from ⟨(fb_rng _).1, Int.le_of_lt_add_one (fb_rng _).2⟩) (nsA (by decide) _)
            have hF1 : FR ([16, 32, 33, 34], [(0, 37)]) iv iv_34 := by rw [ei_35]; exact hF1.put (Or.inl (by decide))
            have kf_36 := congrArg Int32.toInt (show iv_34 0 0 37 = iv_29 0 0 37 by rw [ei_35]; exact up3_ne (fun z => absurd z.1 (by decide)))
            refine lv_aload_n hx hb dX12_stop_82 rfl (lv_at hl 0 rfl) ?_
            refine lv_dup hx hb dX12_stop_83 rfl ?_
            refine g_0_37 C hU hG (h1_0 hG) fl_X12_272 dX12_stop_84 (fun x_37 e_38 le_38 ue_38 => ?_)
            have te_38 := congrArg Int32.toInt e_38
            refine lv_iconst (v := 1) hx hb dX12_stop_87 (by decide) ?_
            refine lv_iadd hx hb dX12_stop_88 ?_
            refine lv_topi (fun x_39 e_40 => ?_)
            have te_40 : x_39.toInt = (x_37 : Int32).toInt + (1 : Int32).toInt := by rw [e_40]; exact fb_addI (by omega) (by omega)
            refine p_0_37 C hU hS (h1_0 hG) fl_X12_272 dX12_stop_89 (fun iv_41 H locs ei_42 hU hS => ?_)
            have hG : GI al iv_41 rv := by rw [ei_42]; exact hG.puti (show _ ∧ _ from ⟨show (0 : Int) ≤ _ by omega, show _ ≤ (20 : Int) by omega⟩) (nsF (by decide))
            have hF1 : FR ([16, 32, 33, 34], [(0, 37)]) iv iv_41 := by rw [ei_42]; exact hF1.put (by decide)
            refine lv_aload_n hx hb dX12_stop_92 rfl (lv_at hl 0 rfl) ?_
            refine g_0_37 C hU hG (h1_0 hG) fl_X12_272 dX12_stop_93 (fun x_43 e_44 le_44 ue_44 => ?_)
            have te_44 := congrArg Int32.toInt e_44
            have hz_ := e_44
            rw [ei_42, up3_self] at hz_
            have tz_ := congrArg Int32.toInt hz_
            exact hret (⟨hG, hF1, hF2, Or.inl ⟨(by unfold spStop; (repeat' split) <;> first | rfl | omega), by omega, by rw [ei_42, up3_self]; omega, fun k => ⟨by rw [ei_42, up3_ne (fun z => absurd z.1 (by decide)), ei_35, up3_ne (fun z => absurd z.1 (by decide)), ei_30, up3_ne (fun z => absurd z.1 (by decide)), ei_25, clamp_eq (show (x_22 : Int32).toInt = (iv 0 0 37).toInt by omega), up3_k], by rw [ei_42, up3_ne (fun z => absurd z.1 (by decide)), ei_35, up3_ne (fun z => absurd z.1 (by decide)), ei_30, clamp_eq (show (x_27 : Int32).toInt = (iv 0 0 37).toInt by omega), up3_k, ei_25, up3_ne (fun z => absurd z.1 (by decide))], by rw [ei_42, up3_ne (fun z => absurd z.1 (by decide)), ei_35, clamp_eq (show (x_32 : Int32).toInt = (iv 0 0 37).toInt by omega), up3_k, ei_30, up3_ne (fun z => absurd z.1 (by decide)), ei_25, up3_ne (fun z => absurd z.1 (by decide))]⟩⟩⟩) hU hS dX12_stop_96
          ·
            refine lv_aload_n hx hb dX12_stop_45 rfl (lv_at hl 0 rfl) ?_
            refine lv_bipush (v := (-6)) hx hb dX12_stop_46 (by decide) ?_
            refine q_fi (q_runV (t := 0) (i := 0) (As := [.int (-6)]) (rest := []) C hU (c_X12_refuse hG (-6) (by omega)) vm_X12_refuse ml_X12_164 k_0.1 (hc := rfl) rfl (h1_0 hG) hl.1 rfl rfl (Nat.le_of_ble_eq_true rfl) dX12_stop_48 rfl rfl ⟨Nat.le_of_ble_eq_true rfl, Nat.le_of_ble_eq_true rfl⟩ ⟨Nat.le_refl _, Nat.le_refl _⟩) hS (fun x_50 iv_46 rv_47 H locs hG fa_48 fb_49 hp_45 hU hS => ?_)
            have hF1 := hF1.tr (m := ([16, 32, 33, 34], [(0, 37)])) fa_48 (by decide)
            have hF2 := hF2.tr (m := ([16, 32, 33, 34], [(0, 37)])) fb_49 (by decide)
            exact hret (⟨hG, hF1, hF2, sp_no (z := (-6)) (by unfold spStop; (repeat' split) <;> first | rfl | omega) (by decide) hp_45 (⟨fa_48 0 0 37 (by decide), fun k => ⟨fa_48.arr 32 0 k (by decide), fa_48.arr 33 0 k (by decide), fa_48.arr 34 0 k (by decide)⟩⟩)⟩) hU hS dX12_stop_51
      ·
        refine lv_aload_n hx hb dX12_stop_22 rfl (lv_at hl 0 rfl) ?_
        refine lv_bipush (v := (-4)) hx hb dX12_stop_23 (by decide) ?_
        refine q_fi (q_runV (t := 0) (i := 0) (As := [.int (-4)]) (rest := []) C hU (c_X12_refuse hG (-4) (by omega)) vm_X12_refuse ml_X12_164 k_0.1 (hc := rfl) rfl (h1_0 hG) hl.1 rfl rfl (Nat.le_of_ble_eq_true rfl) dX12_stop_25 rfl rfl ⟨Nat.le_of_ble_eq_true rfl, Nat.le_of_ble_eq_true rfl⟩ ⟨Nat.le_refl _, Nat.le_refl _⟩) hS (fun x_56 iv_52 rv_53 H locs hG fa_54 fb_55 hp_51 hU hS => ?_)
        have hF1 := hF1.tr (m := ([16, 32, 33, 34], [(0, 37)])) fa_54 (by decide)
        have hF2 := hF2.tr (m := ([16, 32, 33, 34], [(0, 37)])) fb_55 (by decide)
        exact hret (⟨hG, hF1, hF2, sp_no (z := (-4)) (by unfold spStop; (repeat' split) <;> first | rfl | omega) (by decide) hp_51 (⟨fa_54 0 0 37 (by decide), fun k => ⟨fa_54.arr 32 0 k (by decide), fa_54.arr 33 0 k (by decide), fa_54.arr 34 0 k (by decide)⟩⟩)⟩) hU hS dX12_stop_28
  ·
    refine lv_aload_n hx hb dX12_stop_7 rfl (lv_at hl 0 rfl) ?_
    refine lv_iconst (v := (-1)) hx hb dX12_stop_8 (by decide) ?_
    refine q_fi (q_runV (t := 0) (i := 0) (As := [.int (-1)]) (rest := []) C hU (c_X12_refuse hG (-1) (by omega)) vm_X12_refuse ml_X12_164 k_0.1 (hc := rfl) rfl (h1_0 hG) hl.1 rfl rfl (Nat.le_of_ble_eq_true rfl) dX12_stop_9 rfl rfl ⟨Nat.le_of_ble_eq_true rfl, Nat.le_of_ble_eq_true rfl⟩ ⟨Nat.le_refl _, Nat.le_refl _⟩) hS (fun x_62 iv_58 rv_59 H locs hG fa_60 fb_61 hp_57 hU hS => ?_)
    have hF1 := hF1.tr (m := ([16, 32, 33, 34], [(0, 37)])) fa_60 (by decide)
    have hF2 := hF2.tr (m := ([16, 32, 33, 34], [(0, 37)])) fb_61 (by decide)
    exact hret (⟨hG, hF1, hF2, sp_no (z := (-1)) (by unfold spStop; (repeat' split) <;> first | rfl | omega) (by decide) hp_57 (⟨fa_60 0 0 37 (by decide), fun k => ⟨fa_60.arr 32 0 k (by decide), fa_60.arr 33 0 k (by decide), fa_60.arr 34 0 k (by decide)⟩⟩)⟩) hU hS dX12_stop_12
set_option maxHeartbeats 4000000 in
set_option maxRecDepth 100000 in
theorem c_X0_addStop_y {l : Launch} {D : va_G} {cA : FieldType → ClassId} {sz : Nat} {al : Al} {iv : Iv} {rv : Rv} (hG : GI al iv rv) (ld : Int32) (a : Int32) (b : Int32) (pre0 : (iv 79 0 4).toInt < 20) (pre1 : 0 ≤ ld.toInt ∧ ld.toInt ≤ 4000) (pre2 : 0 ≤ a.toInt ∧ a.toInt ≤ 4000) (pre3 : 0 ≤ b.toInt ∧ b.toInt ≤ 4000) : Met l yX0_addStop (wd yX0_addStop cX0_addStop 4 (some .int)) (rm 0) (PcW D cA sz al iv rv [.ref (al.2 79 0), .int ld, .int a, .int b]) (QI D cA sz al (fI al ([81, 82, 83], [(79, 4)]) iv rv (fun r iv' rv' => r.toInt = (iv 79 0 4).toInt + 1 ∧ (iv' 79 0 4).toInt = (iv 79 0 4).toInt + 1 ∧ (∀ k : Nat, iv' 81 0 k = (if k = (iv 79 0 4).toNatClampNeg then ld else iv 81 0 k) ∧ iv' 82 0 k = (if k = (iv 79 0 4).toNatClampNeg then a else iv 82 0 k) ∧ iv' 83 0 k = (if k = (iv 79 0 4).toNatClampNeg then b else iv 83 0 k))))) 0 0 (Aq sz) := by
  refine mk_i (by decide) (Nat.le_of_ble_eq_true rfl) rfl ?_
  intro p e s m args below meth c ls Q H locs C hU hS hl hret
  have hx := C.1.1
  have hb := C.1.2.1
  have hl : lv_has ls 4 [(0, .ref (al.2 79 0)), (1, .int ld), (2, .int a), (3, .int b)] := hl
  have hG0 := hG
  have hF1 : FR ([81, 82, 83], [(79, 4)]) iv iv := FR.rf
  have hF2 : FR ([81, 82, 83], [(79, 4)]) rv rv := FR.rf
  have k1 : (1 : Int32).toInt = 1 := by decide
  refine lv_aload_n hx hb dX0_addStop_0 rfl (lv_at hl 0 rfl) ?_
  refine g_79_1 C hU hG (h1_79 hG) fl_X0_21 dX0_addStop_1 ?_
  refine lv_aload_n hx hb dX0_addStop_4 rfl (lv_at hl 0 rfl) ?_
  refine g_79_4 C hU hG (h1_79 hG) fl_X0_30 dX0_addStop_5 (fun x_1 e_2 le_2 ue_2 => ?_)
  have te_2 := congrArg Int32.toInt e_2
  refine lv_iload_n hx hb dX0_addStop_8 rfl (lv_at hl 1 rfl) ?_
  refine s_81 C hU hS (h1_81 hG) (x := x_1) (by omega) (by omega) dX0_addStop_9 (fun iv_3 H locs ei_4 hU hS => ?_)
  have hG : GI al iv_3 rv := by rw [ei_4]; exact hG.puti (show _ ∧ _ from ⟨show (0 : Int) ≤ _ by omega, show _ ≤ (4000 : Int) by omega⟩) (nsA (by decide) _)
  have hF1 : FR ([81, 82, 83], [(79, 4)]) iv iv_3 := by rw [ei_4]; exact hF1.put (Or.inl (by decide))
  have kf_5 := congrArg Int32.toInt (show iv_3 79 0 4 = iv 79 0 4 by rw [ei_4]; exact up3_ne (fun z => absurd z.1 (by decide)))
  refine lv_aload_n hx hb dX0_addStop_10 rfl (lv_at hl 0 rfl) ?_
  refine g_79_2 C hU hG (h1_79 hG) fl_X0_24 dX0_addStop_11 ?_
  refine lv_aload_n hx hb dX0_addStop_14 rfl (lv_at hl 0 rfl) ?_
  refine g_79_4 C hU hG (h1_79 hG) fl_X0_30 dX0_addStop_15 (fun x_6 e_7 le_7 ue_7 => ?_)
  have te_7 := congrArg Int32.toInt e_7
  refine lv_iload_n hx hb dX0_addStop_18 rfl (lv_at hl 2 rfl) ?_
  refine s_82 C hU hS (h1_82 hG) (x := x_6) (by omega) (by omega) dX0_addStop_19 (fun iv_8 H locs ei_9 hU hS => ?_)
  have hG : GI al iv_8 rv := by rw [ei_9]; exact hG.puti (show _ ∧ _ from ⟨show (0 : Int) ≤ _ by omega, show _ ≤ (4000 : Int) by omega⟩) (nsA (by decide) _)
  have hF1 : FR ([81, 82, 83], [(79, 4)]) iv iv_8 := by rw [ei_9]; exact hF1.put (Or.inl (by decide))
  have kf_10 := congrArg Int32.toInt (show iv_8 79 0 4 = iv_3 79 0 4 by rw [ei_9]; exact up3_ne (fun z => absurd z.1 (by decide)))
  refine lv_aload_n hx hb dX0_addStop_20 rfl (lv_at hl 0 rfl) ?_
  refine g_79_3 C hU hG (h1_79 hG) fl_X0_27 dX0_addStop_21 ?_
  refine lv_aload_n hx hb dX0_addStop_24 rfl (lv_at hl 0 rfl) ?_
  refine g_79_4 C hU hG (h1_79 hG) fl_X0_30 dX0_addStop_25 (fun x_11 e_12 le_12 ue_12 => ?_)
  have te_12 := congrArg Int32.toInt e_12
  refine lv_iload_n hx hb dX0_addStop_28 rfl (lv_at hl 3 rfl) ?_
  refine s_83 C hU hS (h1_83 hG) (x := x_11) (by omega) (by omega) dX0_addStop_29 (fun iv_13 H locs ei_14 hU hS => ?_)
  have hG : GI al iv_13 rv := by rw [ei_14]; exact hG.puti (show _ ∧ _ from ⟨show (0 : Int) ≤ _ by omega, show _ ≤ (4000 : Int) by omega⟩) (nsA (by decide) _)
  have hF1 : FR ([81, 82, 83], [(79, 4)]) iv iv_13 := by rw [ei_14]; exact hF1.put (Or.inl (by decide))
  have kf_15 := congrArg Int32.toInt (show iv_13 79 0 4 = iv_8 79 0 4 by rw [ei_14]; exact up3_ne (fun z => absurd z.1 (by decide)))
  refine lv_aload_n hx hb dX0_addStop_30 rfl (lv_at hl 0 rfl) ?_
  refine lv_dup hx hb dX0_addStop_31 rfl ?_
  refine g_79_4 C hU hG (h1_79 hG) fl_X0_30 dX0_addStop_32 (fun x_16 e_17 le_17 ue_17 => ?_)
  have te_17 := congrArg Int32.toInt e_17
  refine lv_iconst (v := 1) hx hb dX0_addStop_35 (by decide) ?_
  refine lv_iadd hx hb dX0_addStop_36 ?_
  refine lv_topi (fun x_18 e_19 => ?_)
  have te_19 : x_18.toInt = (x_16 : Int32).toInt + (1 : Int32).toInt := by rw [e_19]; exact fb_addI (by omega) (by omega)
  refine p_79_4 C hU hS (h1_79 hG) fl_X0_30 dX0_addStop_37 (fun iv_20 H locs ei_21 hU hS => ?_)
  have hG : GI al iv_20 rv := by rw [ei_21]; exact hG.puti (show _ ∧ _ from ⟨show (0 : Int) ≤ _ by omega, show _ ≤ (20 : Int) by omega⟩) (nsF (by decide))
  have hF1 : FR ([81, 82, 83], [(79, 4)]) iv iv_20 := by rw [ei_21]; exact hF1.put (by decide)
  refine lv_aload_n hx hb dX0_addStop_40 rfl (lv_at hl 0 rfl) ?_
  refine g_79_4 C hU hG (h1_79 hG) fl_X0_30 dX0_addStop_41 (fun x_22 e_23 le_23 ue_23 => ?_)
  have te_23 := congrArg Int32.toInt e_23
  have hz_ := e_23
  rw [ei_21, up3_self] at hz_
  have tz_ := congrArg Int32.toInt hz_
  exact hret (⟨hG, hF1, hF2, ⟨by omega, by rw [ei_21, up3_self]; omega, fun k => ⟨by rw [ei_21, up3_ne (fun z => absurd z.1 (by decide)), ei_14, up3_ne (fun z => absurd z.1 (by decide)), ei_9, up3_ne (fun z => absurd z.1 (by decide)), ei_4, clamp_eq (show (x_1 : Int32).toInt = (iv 79 0 4).toInt by omega), up3_k], by rw [ei_21, up3_ne (fun z => absurd z.1 (by decide)), ei_14, up3_ne (fun z => absurd z.1 (by decide)), ei_9, clamp_eq (show (x_6 : Int32).toInt = (iv 79 0 4).toInt by omega), up3_k, ei_4, up3_ne (fun z => absurd z.1 (by decide))], by rw [ei_21, up3_ne (fun z => absurd z.1 (by decide)), ei_14, clamp_eq (show (x_11 : Int32).toInt = (iv 79 0 4).toInt by omega), up3_k, ei_9, up3_ne (fun z => absurd z.1 (by decide)), ei_4, up3_ne (fun z => absurd z.1 (by decide))]⟩⟩⟩) hU hS dX0_addStop_44
set_option maxHeartbeats 4000000 in
set_option maxRecDepth 100000 in
theorem c_X11_stop_y {l : Launch} {D : va_G} {cA : FieldType → ClassId} {sz : Nat} {al : Al} {iv : Iv} {rv : Rv} (hG : GI al iv rv) (lw : Int32) (a : Int32) (b : Int32) : Met l yX11_stop (wd yX11_stop cX11_stop 4 (some .int)) (rm 2) (PcW D cA sz al iv rv [.ref (al.2 49 0), .int lw, .int a, .int b]) (QI D cA sz al (fI al ([51, 81, 82, 83], [(79, 4)]) iv rv (fun r iv' rv' => (spStop lw a b (iv 79 0 4).toInt = 0 ∧ r.toInt = (iv 79 0 4).toInt + 1 ∧ (iv' 79 0 4).toInt = (iv 79 0 4).toInt + 1 ∧ (∀ k : Nat, iv' 81 0 k = (if k = (iv 79 0 4).toNatClampNeg then lw else iv 81 0 k) ∧ iv' 82 0 k = (if k = (iv 79 0 4).toNatClampNeg then a else iv 82 0 k) ∧ iv' 83 0 k = (if k = (iv 79 0 4).toNatClampNeg then b else iv 83 0 k))) ∨ (spStop lw a b (iv 79 0 4).toInt ≠ 0 ∧ r = spStop lw a b (iv 79 0 4).toInt ∧ iv' 79 0 4 = iv 79 0 4 ∧ (∀ k : Nat, iv' 81 0 k = iv 81 0 k ∧ iv' 82 0 k = iv 82 0 k ∧ iv' 83 0 k = iv 83 0 k))))) 0 0 (Aq sz) := by
  refine mk_i (by decide) (Nat.le_of_ble_eq_true rfl) rfl ?_
  intro p e s m args below meth c ls Q H locs C hU hS hl hret
  have hx := C.1.1
  have hb := C.1.2.1
  have hl : lv_has ls 4 [(0, .ref (al.2 49 0)), (1, .int lw), (2, .int a), (3, .int b)] := hl
  have hG0 := hG
  have hF1 : FR ([51, 81, 82, 83], [(79, 4)]) iv iv := FR.rf
  have hF2 : FR ([51, 81, 82, 83], [(79, 4)]) rv rv := FR.rf
  have km6 : ((-6) : Int32).toInt = -6 := by decide
  have km4 : ((-4) : Int32).toInt = -4 := by decide
  have km1 : ((-1) : Int32).toInt = -1 := by decide
  have k4 : (4 : Int32).toInt = 4 := by decide
  have k4000 : (4000 : Int32).toInt = 4000 := by decide
  refine lv_iconst (v := 4) hx hb dX11_stop_0 (by decide) ?_
  refine lv_iload_n hx hb dX11_stop_1 rfl (lv_at hl 1 rfl) ?_
  refine q_pi (q_runS (As := [.int 4, .int lw]) (rest := []) C hU (c_X11_isOneOf  4 lw ) sm_X11_isOneOf ml_X11_85 hl.1 rfl rfl (Nat.le_of_ble_eq_true rfl) dX11_stop_2 rfl rfl ⟨Nat.le_of_ble_eq_true rfl, Nat.le_of_ble_eq_true rfl⟩ ⟨Nat.le_refl _, Nat.le_refl _⟩) hS (fun x_2 H locs hp_1 hU hS => ?_)
  refine b_if_ne (tgt := 14) hx hb dX11_stop_5 (by decide) (fun c_3 => ?_) (fun c_3 => ?_)
  ·
    refine lv_iload_n hx hb dX11_stop_14 rfl (lv_at hl 2 rfl) ?_
    refine b_if_lt (tgt := 23) hx hb dX11_stop_15 (by decide) (fun c_4 => ?_) (fun c_4 => ?_)
    ·
      refine lv_aload_n hx hb dX11_stop_23 rfl (lv_at hl 0 rfl) ?_
      refine lv_bipush (v := (-4)) hx hb dX11_stop_24 (by decide) ?_
      refine q_fi (q_runV (t := 49) (i := 0) (As := [.int (-4)]) (rest := []) C hU (c_X11_refuse hG (-4) (by omega)) vm_X11_refuse ml_X11_77 k_49.1 (hc := rfl) rfl (h1_49 hG) hl.1 rfl rfl (Nat.le_of_ble_eq_true rfl) dX11_stop_26 rfl rfl ⟨Nat.le_of_ble_eq_true rfl, Nat.le_of_ble_eq_true rfl⟩ ⟨Nat.le_refl _, Nat.le_refl _⟩) hS (fun x_10 iv_6 rv_7 H locs hG fa_8 fb_9 hp_5 hU hS => ?_)
      have hF1 := hF1.tr (m := ([51, 81, 82, 83], [(79, 4)])) fa_8 (by decide)
      have hF2 := hF2.tr (m := ([51, 81, 82, 83], [(79, 4)])) fb_9 (by decide)
      exact hret (⟨hG, hF1, hF2, sp_no (z := (-4)) (by unfold spStop; (repeat' split) <;> first | rfl | omega) (by decide) hp_5 (⟨fa_8 79 0 4 (by decide), fun k => ⟨fa_8.arr 81 0 k (by decide), fa_8.arr 82 0 k (by decide), fa_8.arr 83 0 k (by decide)⟩⟩)⟩) hU hS dX11_stop_29
    ·
      refine lv_iload_n hx hb dX11_stop_18 rfl (lv_at hl 3 rfl) ?_
      refine lv_iload_n hx hb dX11_stop_19 rfl (lv_at hl 2 rfl) ?_
      refine b_icmp_ge (tgt := 30) hx hb dX11_stop_20 (by decide) (fun c_11 => ?_) (fun c_11 => ?_)
      ·
        refine lv_iload_n hx hb dX11_stop_30 rfl (lv_at hl 2 rfl) ?_
        refine lv_sipush (v := 4000) hx hb dX11_stop_31 (by decide) ?_
        refine b_icmp_gt (tgt := 54) hx hb dX11_stop_34 (by decide) (fun c_12 => ?_) (fun c_12 => ?_)
        ·
          refine lv_aload_n hx hb dX11_stop_54 rfl (lv_at hl 0 rfl) ?_
          refine lv_bipush (v := (-6)) hx hb dX11_stop_55 (by decide) ?_
          refine q_fi (q_runV (t := 49) (i := 0) (As := [.int (-6)]) (rest := []) C hU (c_X11_refuse hG (-6) (by omega)) vm_X11_refuse ml_X11_77 k_49.1 (hc := rfl) rfl (h1_49 hG) hl.1 rfl rfl (Nat.le_of_ble_eq_true rfl) dX11_stop_57 rfl rfl ⟨Nat.le_of_ble_eq_true rfl, Nat.le_of_ble_eq_true rfl⟩ ⟨Nat.le_refl _, Nat.le_refl _⟩) hS (fun x_18 iv_14 rv_15 H locs hG fa_16 fb_17 hp_13 hU hS => ?_)
          have hF1 := hF1.tr (m := ([51, 81, 82, 83], [(79, 4)])) fa_16 (by decide)
          have hF2 := hF2.tr (m := ([51, 81, 82, 83], [(79, 4)])) fb_17 (by decide)
          exact hret (⟨hG, hF1, hF2, sp_no (z := (-6)) (by unfold spStop; (repeat' split) <;> first | rfl | omega) (by decide) hp_13 (⟨fa_16 79 0 4 (by decide), fun k => ⟨fa_16.arr 81 0 k (by decide), fa_16.arr 82 0 k (by decide), fa_16.arr 83 0 k (by decide)⟩⟩)⟩) hU hS dX11_stop_60
        ·
          refine lv_iload_n hx hb dX11_stop_37 rfl (lv_at hl 3 rfl) ?_
          refine lv_sipush (v := 4000) hx hb dX11_stop_38 (by decide) ?_
          refine b_icmp_gt (tgt := 54) hx hb dX11_stop_41 (by decide) (fun c_19 => ?_) (fun c_19 => ?_)
          ·
            refine lv_aload_n hx hb dX11_stop_54 rfl (lv_at hl 0 rfl) ?_
            refine lv_bipush (v := (-6)) hx hb dX11_stop_55 (by decide) ?_
            refine q_fi (q_runV (t := 49) (i := 0) (As := [.int (-6)]) (rest := []) C hU (c_X11_refuse hG (-6) (by omega)) vm_X11_refuse ml_X11_77 k_49.1 (hc := rfl) rfl (h1_49 hG) hl.1 rfl rfl (Nat.le_of_ble_eq_true rfl) dX11_stop_57 rfl rfl ⟨Nat.le_of_ble_eq_true rfl, Nat.le_of_ble_eq_true rfl⟩ ⟨Nat.le_refl _, Nat.le_refl _⟩) hS (fun x_25 iv_21 rv_22 H locs hG fa_23 fb_24 hp_20 hU hS => ?_)
            have hF1 := hF1.tr (m := ([51, 81, 82, 83], [(79, 4)])) fa_23 (by decide)
            have hF2 := hF2.tr (m := ([51, 81, 82, 83], [(79, 4)])) fb_24 (by decide)
            exact hret (⟨hG, hF1, hF2, sp_no (z := (-6)) (by unfold spStop; (repeat' split) <;> first | rfl | omega) (by decide) hp_20 (⟨fa_23 79 0 4 (by decide), fun k => ⟨fa_23.arr 81 0 k (by decide), fa_23.arr 82 0 k (by decide), fa_23.arr 83 0 k (by decide)⟩⟩)⟩) hU hS dX11_stop_60
          ·
            refine lv_aload_n hx hb dX11_stop_44 rfl (lv_at hl 0 rfl) ?_
            refine g_49_4 C hU hG (h1_49 hG) fl_X11_40 dX11_stop_45 ?_
            refine q_pi (q_runV (t := 79) (i := 0) (As := []) (rest := []) C hU (c_X0_isFull hG  ) vm_X0_isFull ml_X11_250 k_79.1 (hc := rfl) rfl (h1_79 hG) hl.1 rfl rfl (Nat.le_of_ble_eq_true rfl) dX11_stop_48 rfl rfl ⟨Nat.le_of_ble_eq_true rfl, Nat.le_of_ble_eq_true rfl⟩ ⟨Nat.le_refl _, Nat.le_refl _⟩) hS (fun x_27 H locs hp_26 hU hS => ?_)
            refine b_if_eq (tgt := 61) hx hb dX11_stop_51 (by decide) (fun c_28 => ?_) (fun c_28 => ?_)
            ·
              refine lv_aload_n hx hb dX11_stop_61 rfl (lv_at hl 0 rfl) ?_
              refine g_49_4 C hU hG (h1_49 hG) fl_X11_40 dX11_stop_62 ?_
              refine lv_iload_n hx hb dX11_stop_65 rfl (lv_at hl 1 rfl) ?_
              refine lv_iload_n hx hb dX11_stop_66 rfl (lv_at hl 2 rfl) ?_
              refine lv_iload_n hx hb dX11_stop_67 rfl (lv_at hl 3 rfl) ?_
              refine q_fi (q_runV (t := 79) (i := 0) (As := [.int lw, .int a, .int b]) (rest := []) C hU (c_X0_addStop_y hG lw a b (by omega) (by omega) (by omega) (by omega)) vm_X0_addStop ml_X11_251 k_79.1 (hc := rfl) rfl (h1_79 hG) hl.1 rfl rfl (Nat.le_of_ble_eq_true rfl) dX11_stop_68 rfl rfl ⟨Nat.le_of_ble_eq_true rfl, Nat.le_of_ble_eq_true rfl⟩ ⟨Nat.le_refl _, Nat.le_refl _⟩) hS (fun x_34 iv_30 rv_31 H locs hG fa_32 fb_33 hp_29 hU hS => ?_)
              have hF1 := hF1.tr (m := ([51, 81, 82, 83], [(79, 4)])) fa_32 (by decide)
              have hF2 := hF2.tr (m := ([51, 81, 82, 83], [(79, 4)])) fb_33 (by decide)
              exact hret (⟨hG, hF1, hF2, Or.inl ⟨(by unfold spStop; (repeat' split) <;> first | rfl | omega), hp_29.1, hp_29.2.1, hp_29.2.2⟩⟩) hU hS dX11_stop_71
            ·
              refine lv_aload_n hx hb dX11_stop_54 rfl (lv_at hl 0 rfl) ?_
              refine lv_bipush (v := (-6)) hx hb dX11_stop_55 (by decide) ?_
              refine q_fi (q_runV (t := 49) (i := 0) (As := [.int (-6)]) (rest := []) C hU (c_X11_refuse hG (-6) (by omega)) vm_X11_refuse ml_X11_77 k_49.1 (hc := rfl) rfl (h1_49 hG) hl.1 rfl rfl (Nat.le_of_ble_eq_true rfl) dX11_stop_57 rfl rfl ⟨Nat.le_of_ble_eq_true rfl, Nat.le_of_ble_eq_true rfl⟩ ⟨Nat.le_refl _, Nat.le_refl _⟩) hS (fun x_40 iv_36 rv_37 H locs hG fa_38 fb_39 hp_35 hU hS => ?_)
              have hF1 := hF1.tr (m := ([51, 81, 82, 83], [(79, 4)])) fa_38 (by decide)
              have hF2 := hF2.tr (m := ([51, 81, 82, 83], [(79, 4)])) fb_39 (by decide)
              exact hret (⟨hG, hF1, hF2, sp_no (z := (-6)) (by unfold spStop; (repeat' split) <;> first | rfl | omega) (by decide) hp_35 (⟨fa_38 79 0 4 (by decide), fun k => ⟨fa_38.arr 81 0 k (by decide), fa_38.arr 82 0 k (by decide), fa_38.arr 83 0 k (by decide)⟩⟩)⟩) hU hS dX11_stop_60
      ·
        refine lv_aload_n hx hb dX11_stop_23 rfl (lv_at hl 0 rfl) ?_
        refine lv_bipush (v := (-4)) hx hb dX11_stop_24 (by decide) ?_
        refine q_fi (q_runV (t := 49) (i := 0) (As := [.int (-4)]) (rest := []) C hU (c_X11_refuse hG (-4) (by omega)) vm_X11_refuse ml_X11_77 k_49.1 (hc := rfl) rfl (h1_49 hG) hl.1 rfl rfl (Nat.le_of_ble_eq_true rfl) dX11_stop_26 rfl rfl ⟨Nat.le_of_ble_eq_true rfl, Nat.le_of_ble_eq_true rfl⟩ ⟨Nat.le_refl _, Nat.le_refl _⟩) hS (fun x_46 iv_42 rv_43 H locs hG fa_44 fb_45 hp_41 hU hS => ?_)
        have hF1 := hF1.tr (m := ([51, 81, 82, 83], [(79, 4)])) fa_44 (by decide)
        have hF2 := hF2.tr (m := ([51, 81, 82, 83], [(79, 4)])) fb_45 (by decide)
        exact hret (⟨hG, hF1, hF2, sp_no (z := (-4)) (by unfold spStop; (repeat' split) <;> first | rfl | omega) (by decide) hp_41 (⟨fa_44 79 0 4 (by decide), fun k => ⟨fa_44.arr 81 0 k (by decide), fa_44.arr 82 0 k (by decide), fa_44.arr 83 0 k (by decide)⟩⟩)⟩) hU hS dX11_stop_29
  ·
    refine lv_aload_n hx hb dX11_stop_8 rfl (lv_at hl 0 rfl) ?_
    refine lv_iconst (v := (-1)) hx hb dX11_stop_9 (by decide) ?_
    refine q_fi (q_runV (t := 49) (i := 0) (As := [.int (-1)]) (rest := []) C hU (c_X11_refuse hG (-1) (by omega)) vm_X11_refuse ml_X11_77 k_49.1 (hc := rfl) rfl (h1_49 hG) hl.1 rfl rfl (Nat.le_of_ble_eq_true rfl) dX11_stop_10 rfl rfl ⟨Nat.le_of_ble_eq_true rfl, Nat.le_of_ble_eq_true rfl⟩ ⟨Nat.le_refl _, Nat.le_refl _⟩) hS (fun x_52 iv_48 rv_49 H locs hG fa_50 fb_51 hp_47 hU hS => ?_)
    have hF1 := hF1.tr (m := ([51, 81, 82, 83], [(79, 4)])) fa_50 (by decide)
    have hF2 := hF2.tr (m := ([51, 81, 82, 83], [(79, 4)])) fb_51 (by decide)
    exact hret (⟨hG, hF1, hF2, sp_no (z := (-1)) (by unfold spStop; (repeat' split) <;> first | rfl | omega) (by decide) hp_47 (⟨fa_50 79 0 4 (by decide), fun k => ⟨fa_50.arr 81 0 k (by decide), fa_50.arr 82 0 k (by decide), fa_50.arr 83 0 k (by decide)⟩⟩)⟩) hU hS dX11_stop_13
set_option maxHeartbeats 4000000 in
set_option maxRecDepth 100000 in
theorem c_X12_judged_y {l : Launch} {D : va_G} {cA : FieldType → ClassId} {sz : Nat} {al : Al} {iv : Iv} {rv : Rv} (hG : GI al iv rv) (lw : Int32) (cs : Int32) (mm : Int32) (far : Int32) (won : Int32) (cost : Int32) (pre0 : 0 ≤ won.toInt ∧ won.toInt ≤ 1) : Met l yX12_judged (wd yX12_judged cX12_judged 7 (some .int)) (rm 2) (PcW D cA sz al iv rv [.ref (al.2 0 0), .int lw, .int cs, .int mm, .int far, .int won, .int cost]) (QI D cA sz al (fI al ([16, 41, 42, 43, 44, 45, 46], [(0, 48)]) iv rv (fun r iv' rv' => (spJud lw cs mm far cost (iv 0 0 48).toInt = 0 ∧ r.toInt = (iv 0 0 48).toInt ∧ (iv' 0 0 48).toInt = (iv 0 0 48).toInt + 1 ∧ (∀ k : Nat, iv' 41 0 k = (if k = (iv 0 0 48).toNatClampNeg then lw else iv 41 0 k) ∧ iv' 42 0 k = (if k = (iv 0 0 48).toNatClampNeg then cs else iv 42 0 k) ∧ iv' 43 0 k = (if k = (iv 0 0 48).toNatClampNeg then mm else iv 43 0 k) ∧ iv' 44 0 k = (if k = (iv 0 0 48).toNatClampNeg then far else iv 44 0 k) ∧ iv' 45 0 k = (if k = (iv 0 0 48).toNatClampNeg then won else iv 45 0 k) ∧ iv' 46 0 k = (if k = (iv 0 0 48).toNatClampNeg then cost else iv 46 0 k))) ∨ (spJud lw cs mm far cost (iv 0 0 48).toInt ≠ 0 ∧ r = spJud lw cs mm far cost (iv 0 0 48).toInt ∧ iv' 0 0 48 = iv 0 0 48 ∧ (∀ k : Nat, iv' 41 0 k = iv 41 0 k ∧ iv' 42 0 k = iv 42 0 k ∧ iv' 43 0 k = iv 43 0 k ∧ iv' 44 0 k = iv 44 0 k ∧ iv' 45 0 k = iv 45 0 k ∧ iv' 46 0 k = iv 46 0 k))))) 0 0 (Aq sz) := by
  refine mk_i (by decide) (Nat.le_of_ble_eq_true rfl) rfl ?_
  intro p e s m args below meth c ls Q H locs C hU hS hl hret
  have hx := C.1.1
  have hb := C.1.2.1
  have hl : lv_has ls 7 [(0, .ref (al.2 0 0)), (1, .int lw), (2, .int cs), (3, .int mm), (4, .int far), (5, .int won), (6, .int cost)] := hl
  have hG0 := hG
  have h6 := le6 hG
  have h20 := le20 hG
  have h41 := le41 hG
  have hF1 : FR ([16, 41, 42, 43, 44, 45, 46], [(0, 48)]) iv iv := FR.rf
  have hF2 : FR ([16, 41, 42, 43, 44, 45, 46], [(0, 48)]) rv rv := FR.rf
  have km6 : ((-6) : Int32).toInt = -6 := by decide
  have km4 : ((-4) : Int32).toInt = -4 := by decide
  have km1 : ((-1) : Int32).toInt = -1 := by decide
  have k1 : (1 : Int32).toInt = 1 := by decide
  have k40 : (40 : Int32).toInt = 40 := by decide
  have k9999 : (9999 : Int32).toInt = 9999 := by decide
  refine lv_iload_n hx hb dX12_judged_0 rfl (lv_at hl 1 rfl) ?_
  refine q_pi (q_runS (As := [.int lw]) (rest := []) C hU (c_X12_isLand  lw ) sm_X12_isLand ml_X12_244 hl.1 rfl rfl (Nat.le_of_ble_eq_true rfl) dX12_judged_1 rfl rfl ⟨Nat.le_of_ble_eq_true rfl, Nat.le_of_ble_eq_true rfl⟩ ⟨Nat.le_refl _, Nat.le_refl _⟩) hS (fun x_2 H locs hp_1 hU hS => ?_)
  refine b_if_eq (tgt := 14) hx hb dX12_judged_4 (by decide) (fun c_3 => ?_) (fun c_3 => ?_)
  ·
    refine lv_aload_n hx hb dX12_judged_14 rfl (lv_at hl 0 rfl) ?_
    refine lv_iconst (v := (-1)) hx hb dX12_judged_15 (by decide) ?_
    refine q_fi (q_runV (t := 0) (i := 0) (As := [.int (-1)]) (rest := []) C hU (c_X12_refuse hG (-1) (by omega)) vm_X12_refuse ml_X12_164 k_0.1 (hc := rfl) rfl (h1_0 hG) hl.1 rfl rfl (Nat.le_of_ble_eq_true rfl) dX12_judged_16 rfl rfl ⟨Nat.le_of_ble_eq_true rfl, Nat.le_of_ble_eq_true rfl⟩ ⟨Nat.le_refl _, Nat.le_refl _⟩) hS (fun x_9 iv_5 rv_6 H locs hG fa_7 fb_8 hp_4 hU hS => ?_)
    have hF1 := hF1.tr (m := ([16, 41, 42, 43, 44, 45, 46], [(0, 48)])) fa_7 (by decide)
    have hF2 := hF2.tr (m := ([16, 41, 42, 43, 44, 45, 46], [(0, 48)])) fb_8 (by decide)
    exact hret (⟨hG, hF1, hF2, sp_no (z := (-1)) (by unfold spJud; (repeat' split) <;> first | rfl | omega) (by decide) hp_4 (⟨fa_7 0 0 48 (by decide), fun k => ⟨fa_7.arr 41 0 k (by decide), fa_7.arr 42 0 k (by decide), fa_7.arr 43 0 k (by decide), fa_7.arr 44 0 k (by decide), fa_7.arr 45 0 k (by decide), fa_7.arr 46 0 k (by decide)⟩⟩)⟩) hU hS dX12_judged_19
  ·
    refine lv_iload_n hx hb dX12_judged_7 rfl (lv_at hl 2 rfl) ?_
    refine q_pi (q_runS (As := [.int cs]) (rest := []) C hU (c_X12_isCause  cs ) sm_X12_isCause ml_X12_184 hl.1 rfl rfl (Nat.le_of_ble_eq_true rfl) dX12_judged_8 rfl rfl ⟨Nat.le_of_ble_eq_true rfl, Nat.le_of_ble_eq_true rfl⟩ ⟨Nat.le_refl _, Nat.le_refl _⟩) hS (fun x_11 H locs hp_10 hU hS => ?_)
    refine b_if_ne (tgt := 20) hx hb dX12_judged_11 (by decide) (fun c_12 => ?_) (fun c_12 => ?_)
    ·
      refine lv_iload_n hx hb dX12_judged_20 rfl (lv_at hl 3 rfl) ?_
      refine b_if_lt (tgt := 34) hx hb dX12_judged_21 (by decide) (fun c_13 => ?_) (fun c_13 => ?_)
      ·
        refine lv_aload_n hx hb dX12_judged_34 rfl (lv_at hl 0 rfl) ?_
        refine lv_bipush (v := (-4)) hx hb dX12_judged_35 (by decide) ?_
        refine q_fi (q_runV (t := 0) (i := 0) (As := [.int (-4)]) (rest := []) C hU (c_X12_refuse hG (-4) (by omega)) vm_X12_refuse ml_X12_164 k_0.1 (hc := rfl) rfl (h1_0 hG) hl.1 rfl rfl (Nat.le_of_ble_eq_true rfl) dX12_judged_37 rfl rfl ⟨Nat.le_of_ble_eq_true rfl, Nat.le_of_ble_eq_true rfl⟩ ⟨Nat.le_refl _, Nat.le_refl _⟩) hS (fun x_19 iv_15 rv_16 H locs hG fa_17 fb_18 hp_14 hU hS => ?_)
        have hF1 := hF1.tr (m := ([16, 41, 42, 43, 44, 45, 46], [(0, 48)])) fa_17 (by decide)
        have hF2 := hF2.tr (m := ([16, 41, 42, 43, 44, 45, 46], [(0, 48)])) fb_18 (by decide)
        exact hret (⟨hG, hF1, hF2, sp_no (z := (-4)) (by unfold spJud; (repeat' split) <;> first | rfl | omega) (by decide) hp_14 (⟨fa_17 0 0 48 (by decide), fun k => ⟨fa_17.arr 41 0 k (by decide), fa_17.arr 42 0 k (by decide), fa_17.arr 43 0 k (by decide), fa_17.arr 44 0 k (by decide), fa_17.arr 45 0 k (by decide), fa_17.arr 46 0 k (by decide)⟩⟩)⟩) hU hS dX12_judged_40
      ·
        refine lv_iload hx hb dX12_judged_24 (lv_at hl 4 rfl) ?_
        refine b_if_lt (tgt := 34) hx hb dX12_judged_26 (by decide) (fun c_20 => ?_) (fun c_20 => ?_)
        ·
          refine lv_aload_n hx hb dX12_judged_34 rfl (lv_at hl 0 rfl) ?_
          refine lv_bipush (v := (-4)) hx hb dX12_judged_35 (by decide) ?_
          refine q_fi (q_runV (t := 0) (i := 0) (As := [.int (-4)]) (rest := []) C hU (c_X12_refuse hG (-4) (by omega)) vm_X12_refuse ml_X12_164 k_0.1 (hc := rfl) rfl (h1_0 hG) hl.1 rfl rfl (Nat.le_of_ble_eq_true rfl) dX12_judged_37 rfl rfl ⟨Nat.le_of_ble_eq_true rfl, Nat.le_of_ble_eq_true rfl⟩ ⟨Nat.le_refl _, Nat.le_refl _⟩) hS (fun x_26 iv_22 rv_23 H locs hG fa_24 fb_25 hp_21 hU hS => ?_)
          have hF1 := hF1.tr (m := ([16, 41, 42, 43, 44, 45, 46], [(0, 48)])) fa_24 (by decide)
          have hF2 := hF2.tr (m := ([16, 41, 42, 43, 44, 45, 46], [(0, 48)])) fb_25 (by decide)
          exact hret (⟨hG, hF1, hF2, sp_no (z := (-4)) (by unfold spJud; (repeat' split) <;> first | rfl | omega) (by decide) hp_21 (⟨fa_24 0 0 48 (by decide), fun k => ⟨fa_24.arr 41 0 k (by decide), fa_24.arr 42 0 k (by decide), fa_24.arr 43 0 k (by decide), fa_24.arr 44 0 k (by decide), fa_24.arr 45 0 k (by decide), fa_24.arr 46 0 k (by decide)⟩⟩)⟩) hU hS dX12_judged_40
        ·
          refine lv_iload hx hb dX12_judged_29 (lv_at hl 6 rfl) ?_
          refine b_if_ge (tgt := 41) hx hb dX12_judged_31 (by decide) (fun c_27 => ?_) (fun c_27 => ?_)
          ·
            refine lv_iload_n hx hb dX12_judged_41 rfl (lv_at hl 3 rfl) ?_
            refine lv_sipush (v := 9999) hx hb dX12_judged_42 (by decide) ?_
            refine b_icmp_gt (tgt := 73) hx hb dX12_judged_45 (by decide) (fun c_28 => ?_) (fun c_28 => ?_)
            ·
              refine lv_aload_n hx hb dX12_judged_73 rfl (lv_at hl 0 rfl) ?_
              refine lv_bipush (v := (-6)) hx hb dX12_judged_74 (by decide) ?_
              refine q_fi (q_runV (t := 0) (i := 0) (As := [.int (-6)]) (rest := []) C hU (c_X12_refuse hG (-6) (by omega)) vm_X12_refuse ml_X12_164 k_0.1 (hc := rfl) rfl (h1_0 hG) hl.1 rfl rfl (Nat.le_of_ble_eq_true rfl) dX12_judged_76 rfl rfl ⟨Nat.le_of_ble_eq_true rfl, Nat.le_of_ble_eq_true rfl⟩ ⟨Nat.le_refl _, Nat.le_refl _⟩) hS (fun x_34 iv_30 rv_31 H locs hG fa_32 fb_33 hp_29 hU hS => ?_)
              have hF1 := hF1.tr (m := ([16, 41, 42, 43, 44, 45, 46], [(0, 48)])) fa_32 (by decide)
              have hF2 := hF2.tr (m := ([16, 41, 42, 43, 44, 45, 46], [(0, 48)])) fb_33 (by decide)
              exact hret (⟨hG, hF1, hF2, sp_no (z := (-6)) (by unfold spJud; (repeat' split) <;> first | rfl | omega) (by decide) hp_29 (⟨fa_32 0 0 48 (by decide), fun k => ⟨fa_32.arr 41 0 k (by decide), fa_32.arr 42 0 k (by decide), fa_32.arr 43 0 k (by decide), fa_32.arr 44 0 k (by decide), fa_32.arr 45 0 k (by decide), fa_32.arr 46 0 k (by decide)⟩⟩)⟩) hU hS dX12_judged_79
            ·
              refine lv_iload hx hb dX12_judged_48 (lv_at hl 4 rfl) ?_
              refine lv_sipush (v := 9999) hx hb dX12_judged_50 (by decide) ?_
              refine b_icmp_gt (tgt := 73) hx hb dX12_judged_53 (by decide) (fun c_35 => ?_) (fun c_35 => ?_)
              ·
                refine lv_aload_n hx hb dX12_judged_73 rfl (lv_at hl 0 rfl) ?_
                refine lv_bipush (v := (-6)) hx hb dX12_judged_74 (by decide) ?_
                refine q_fi (q_runV (t := 0) (i := 0) (As := [.int (-6)]) (rest := []) C hU (c_X12_refuse hG (-6) (by omega)) vm_X12_refuse ml_X12_164 k_0.1 (hc := rfl) rfl (h1_0 hG) hl.1 rfl rfl (Nat.le_of_ble_eq_true rfl) dX12_judged_76 rfl rfl ⟨Nat.le_of_ble_eq_true rfl, Nat.le_of_ble_eq_true rfl⟩ ⟨Nat.le_refl _, Nat.le_refl _⟩) hS (fun x_41 iv_37 rv_38 H locs hG fa_39 fb_40 hp_36 hU hS => ?_)
                have hF1 := hF1.tr (m := ([16, 41, 42, 43, 44, 45, 46], [(0, 48)])) fa_39 (by decide)
                have hF2 := hF2.tr (m := ([16, 41, 42, 43, 44, 45, 46], [(0, 48)])) fb_40 (by decide)
                exact hret (⟨hG, hF1, hF2, sp_no (z := (-6)) (by unfold spJud; (repeat' split) <;> first | rfl | omega) (by decide) hp_36 (⟨fa_39 0 0 48 (by decide), fun k => ⟨fa_39.arr 41 0 k (by decide), fa_39.arr 42 0 k (by decide), fa_39.arr 43 0 k (by decide), fa_39.arr 44 0 k (by decide), fa_39.arr 45 0 k (by decide), fa_39.arr 46 0 k (by decide)⟩⟩)⟩) hU hS dX12_judged_79
              ·
                refine lv_iload hx hb dX12_judged_56 (lv_at hl 6 rfl) ?_
                refine lv_sipush (v := 9999) hx hb dX12_judged_58 (by decide) ?_
                refine b_icmp_gt (tgt := 73) hx hb dX12_judged_61 (by decide) (fun c_42 => ?_) (fun c_42 => ?_)
                ·
                  refine lv_aload_n hx hb dX12_judged_73 rfl (lv_at hl 0 rfl) ?_
                  refine lv_bipush (v := (-6)) hx hb dX12_judged_74 (by decide) ?_
                  refine q_fi (q_runV (t := 0) (i := 0) (As := [.int (-6)]) (rest := []) C hU (c_X12_refuse hG (-6) (by omega)) vm_X12_refuse ml_X12_164 k_0.1 (hc := rfl) rfl (h1_0 hG) hl.1 rfl rfl (Nat.le_of_ble_eq_true rfl) dX12_judged_76 rfl rfl ⟨Nat.le_of_ble_eq_true rfl, Nat.le_of_ble_eq_true rfl⟩ ⟨Nat.le_refl _, Nat.le_refl _⟩) hS (fun x_48 iv_44 rv_45 H locs hG fa_46 fb_47 hp_43 hU hS => ?_)
                  have hF1 := hF1.tr (m := ([16, 41, 42, 43, 44, 45, 46], [(0, 48)])) fa_46 (by decide)
                  have hF2 := hF2.tr (m := ([16, 41, 42, 43, 44, 45, 46], [(0, 48)])) fb_47 (by decide)
                  exact hret (⟨hG, hF1, hF2, sp_no (z := (-6)) (by unfold spJud; (repeat' split) <;> first | rfl | omega) (by decide) hp_43 (⟨fa_46 0 0 48 (by decide), fun k => ⟨fa_46.arr 41 0 k (by decide), fa_46.arr 42 0 k (by decide), fa_46.arr 43 0 k (by decide), fa_46.arr 44 0 k (by decide), fa_46.arr 45 0 k (by decide), fa_46.arr 46 0 k (by decide)⟩⟩)⟩) hU hS dX12_judged_79
                ·
                  refine lv_aload_n hx hb dX12_judged_64 rfl (lv_at hl 0 rfl) ?_
                  refine g_0_48 C hU hG (h1_0 hG) fl_X12_300 dX12_judged_65 (fun x_49 e_50 le_50 ue_50 => ?_)
                  have te_50 := congrArg Int32.toInt e_50
                  refine lv_bipush (v := 40) hx hb dX12_judged_68 (by decide) ?_
                  refine b_icmp_ne (tgt := 80) hx hb dX12_judged_70 (by decide) (fun c_51 => ?_) (fun c_51 => ?_)
                  ·
                    refine lv_aload_n hx hb dX12_judged_80 rfl (lv_at hl 0 rfl) ?_
                    refine g_0_49 C hU hG (h1_0 hG) fl_X12_131 dX12_judged_81 ?_
                    refine lv_aload_n hx hb dX12_judged_84 rfl (lv_at hl 0 rfl) ?_
                    refine g_0_48 C hU hG (h1_0 hG) fl_X12_300 dX12_judged_85 (fun x_52 e_53 le_53 ue_53 => ?_)
                    have te_53 := congrArg Int32.toInt e_53
                    refine lv_iload_n hx hb dX12_judged_88 rfl (lv_at hl 1 rfl) ?_
                    refine s_41 C hU hS (h1_41 hG) (x := x_52) (by omega) (by omega) dX12_judged_89 (fun iv_54 H locs ei_55 hU hS => ?_)
                    have hG : GI al iv_54 rv := by rw [ei_55]; exact hG.puti (show _ ∧ _ from ⟨(fb_rng _).1, Int.le_of_lt_add_one (fb_rng _).2⟩) (nsA (by decide) _)
                    have hF1 : FR ([16, 41, 42, 43, 44, 45, 46], [(0, 48)]) iv iv_54 := by rw [ei_55]; exact hF1.put (Or.inl (by decide))
                    have kf_56 := congrArg Int32.toInt (show iv_54 0 0 48 = iv 0 0 48 by rw [ei_55]; exact up3_ne (fun z => absurd z.1 (by decide)))
                    refine lv_aload_n hx hb dX12_judged_90 rfl (lv_at hl 0 rfl) ?_
                    refine g_0_50 C hU hG (h1_0 hG) fl_X12_134 dX12_judged_91 ?_
                    refine lv_aload_n hx hb dX12_judged_94 rfl (lv_at hl 0 rfl) ?_
                    refine g_0_48 C hU hG (h1_0 hG) fl_X12_300 dX12_judged_95 (fun x_57 e_58 le_58 ue_58 => ?_)
                    have te_58 := congrArg Int32.toInt e_58
                    refine lv_iload_n hx hb dX12_judged_98 rfl (lv_at hl 2 rfl) ?_
                    refine s_42 C hU hS (h1_42 hG) (x := x_57) (by omega) (by omega) dX12_judged_99 (fun iv_59 H locs ei_60 hU hS => ?_)
                    have hG : GI al iv_59 rv := by rw [ei_60]; exact hG.puti (show _ ∧ _ from ⟨(fb_rng _).1, Int.le_of_lt_add_one (fb_rng _).2⟩) (nsA (by decide) _)
                    have hF1 : FR ([16, 41, 42, 43, 44, 45, 46], [(0, 48)]) iv iv_59 := by rw [ei_60]; exact hF1.put (Or.inl (by decide))
                    have kf_61 := congrArg Int32.toInt (show iv_59 0 0 48 = iv_54 0 0 48 by rw [ei_60]; exact up3_ne (fun z => absurd z.1 (by decide)))
                    refine lv_aload_n hx hb dX12_judged_100 rfl (lv_at hl 0 rfl) ?_
                    refine g_0_51 C hU hG (h1_0 hG) fl_X12_137 dX12_judged_101 ?_
                    refine lv_aload_n hx hb dX12_judged_104 rfl (lv_at hl 0 rfl) ?_
                    refine g_0_48 C hU hG (h1_0 hG) fl_X12_300 dX12_judged_105 (fun x_62 e_63 le_63 ue_63 => ?_)
                    have te_63 := congrArg Int32.toInt e_63
                    refine lv_iload_n hx hb dX12_judged_108 rfl (lv_at hl 3 rfl) ?_
                    refine s_43 C hU hS (h1_43 hG) (x := x_62) (by omega) (by omega) dX12_judged_109 (fun iv_64 H locs ei_65 hU hS => ?_)
                    have hG : GI al iv_64 rv := by rw [ei_65]; exact hG.puti (show _ ∧ _ from ⟨show (0 : Int) ≤ _ by omega, show _ ≤ (9999 : Int) by omega⟩) (nsA (by decide) _)
                    have hF1 : FR ([16, 41, 42, 43, 44, 45, 46], [(0, 48)]) iv iv_64 := by rw [ei_65]; exact hF1.put (Or.inl (by decide))
                    have kf_66 := congrArg Int32.toInt (show iv_64 0 0 48 = iv_59 0 0 48 by rw [ei_65]; exact up3_ne (fun z => absurd z.1 (by decide)))
                    refine lv_aload_n hx hb dX12_judged_110 rfl (lv_at hl 0 rfl) ?_
                    refine g_0_52 C hU hG (h1_0 hG) fl_X12_140 dX12_judged_111 ?_
                    refine lv_aload_n hx hb dX12_judged_114 rfl (lv_at hl 0 rfl) ?_
                    refine g_0_48 C hU hG (h1_0 hG) fl_X12_300 dX12_judged_115 (fun x_67 e_68 le_68 ue_68 => ?_)
                    have te_68 := congrArg Int32.toInt e_68
                    refine lv_iload hx hb dX12_judged_118 (lv_at hl 4 rfl) ?_
                    refine s_44 C hU hS (h1_44 hG) (x := x_67) (by omega) (by omega) dX12_judged_120 (fun iv_69 H locs ei_70 hU hS => ?_)
                    have hG : GI al iv_69 rv := by rw [ei_70]; exact hG.puti (show _ ∧ _ from ⟨show (0 : Int) ≤ _ by omega, show _ ≤ (9999 : Int) by omega⟩) (nsA (by decide) _)
                    have hF1 : FR ([16, 41, 42, 43, 44, 45, 46], [(0, 48)]) iv iv_69 := by rw [ei_70]; exact hF1.put (Or.inl (by decide))
                    have kf_71 := congrArg Int32.toInt (show iv_69 0 0 48 = iv_64 0 0 48 by rw [ei_70]; exact up3_ne (fun z => absurd z.1 (by decide)))
                    refine lv_aload_n hx hb dX12_judged_121 rfl (lv_at hl 0 rfl) ?_
                    refine g_0_53 C hU hG (h1_0 hG) fl_X12_143 dX12_judged_122 ?_
                    refine lv_aload_n hx hb dX12_judged_125 rfl (lv_at hl 0 rfl) ?_
                    refine g_0_48 C hU hG (h1_0 hG) fl_X12_300 dX12_judged_126 (fun x_72 e_73 le_73 ue_73 => ?_)
                    have te_73 := congrArg Int32.toInt e_73
                    refine lv_iload hx hb dX12_judged_129 (lv_at hl 5 rfl) ?_
                    refine s_45 C hU hS (h1_45 hG) (x := x_72) (by omega) (by omega) (by omega) (by omega) dX12_judged_131 (fun iv_74 H locs ei_75 hU hS => ?_)
                    have hG : GI al iv_74 rv := by rw [ei_75]; exact hG.puti (show _ ∧ _ from ⟨show (0 : Int) ≤ _ by omega, show _ ≤ (1 : Int) by omega⟩) (nsA (by decide) _)
                    have hF1 : FR ([16, 41, 42, 43, 44, 45, 46], [(0, 48)]) iv iv_74 := by rw [ei_75]; exact hF1.put (Or.inl (by decide))
                    have kf_76 := congrArg Int32.toInt (show iv_74 0 0 48 = iv_69 0 0 48 by rw [ei_75]; exact up3_ne (fun z => absurd z.1 (by decide)))
                    refine lv_aload_n hx hb dX12_judged_132 rfl (lv_at hl 0 rfl) ?_
                    refine g_0_54 C hU hG (h1_0 hG) fl_X12_146 dX12_judged_133 ?_
                    refine lv_aload_n hx hb dX12_judged_136 rfl (lv_at hl 0 rfl) ?_
                    refine g_0_48 C hU hG (h1_0 hG) fl_X12_300 dX12_judged_137 (fun x_77 e_78 le_78 ue_78 => ?_)
                    have te_78 := congrArg Int32.toInt e_78
                    refine lv_iload hx hb dX12_judged_140 (lv_at hl 6 rfl) ?_
                    refine s_46 C hU hS (h1_46 hG) (x := x_77) (by omega) (by omega) dX12_judged_142 (fun iv_79 H locs ei_80 hU hS => ?_)
                    have hG : GI al iv_79 rv := by rw [ei_80]; exact hG.puti (show _ ∧ _ from ⟨show (0 : Int) ≤ _ by omega, show _ ≤ (9999 : Int) by omega⟩) (nsA (by decide) _)
                    have hF1 : FR ([16, 41, 42, 43, 44, 45, 46], [(0, 48)]) iv iv_79 := by rw [ei_80]; exact hF1.put (Or.inl (by decide))
                    have kf_81 := congrArg Int32.toInt (show iv_79 0 0 48 = iv_74 0 0 48 by rw [ei_80]; exact up3_ne (fun z => absurd z.1 (by decide)))
                    refine lv_aload_n hx hb dX12_judged_143 rfl (lv_at hl 0 rfl) ?_
                    refine lv_dup hx hb dX12_judged_144 rfl ?_
                    refine g_0_48 C hU hG (h1_0 hG) fl_X12_300 dX12_judged_145 (fun x_82 e_83 le_83 ue_83 => ?_)
                    have te_83 := congrArg Int32.toInt e_83
                    refine lv_iconst (v := 1) hx hb dX12_judged_148 (by decide) ?_
                    refine lv_iadd hx hb dX12_judged_149 ?_
                    refine lv_topi (fun x_84 e_85 => ?_)
                    have te_85 : x_84.toInt = (x_82 : Int32).toInt + (1 : Int32).toInt := by rw [e_85]; exact fb_addI (by omega) (by omega)
                    refine p_0_48 C hU hS (h1_0 hG) fl_X12_300 dX12_judged_150 (fun iv_86 H locs ei_87 hU hS => ?_)
                    have hG : GI al iv_86 rv := by rw [ei_87]; exact hG.puti (show _ ∧ _ from ⟨show (0 : Int) ≤ _ by omega, show _ ≤ (40 : Int) by omega⟩) (nsF (by decide))
                    have hF1 : FR ([16, 41, 42, 43, 44, 45, 46], [(0, 48)]) iv iv_86 := by rw [ei_87]; exact hF1.put (by decide)
                    refine lv_aload_n hx hb dX12_judged_153 rfl (lv_at hl 0 rfl) ?_
                    refine g_0_48 C hU hG (h1_0 hG) fl_X12_300 dX12_judged_154 (fun x_88 e_89 le_89 ue_89 => ?_)
                    have te_89 := congrArg Int32.toInt e_89
                    have hz_ := e_89
                    rw [ei_87, up3_self] at hz_
                    have tz_ := congrArg Int32.toInt hz_
                    refine lv_iconst (v := 1) hx hb dX12_judged_157 (by decide) ?_
                    refine lv_isub hx hb dX12_judged_158 ?_
                    refine lv_topi (fun x_90 e_91 => ?_)
                    have te_91 : x_90.toInt = (x_88 : Int32).toInt - (1 : Int32).toInt := by rw [e_91]; exact fb_subI (by omega) (by omega)
                    exact hret (⟨hG, hF1, hF2, Or.inl ⟨(by unfold spJud; (repeat' split) <;> first | rfl | omega), by omega, by rw [ei_87, up3_self]; omega, fun k => ⟨by rw [ei_87, up3_ne (fun z => absurd z.1 (by decide)), ei_80, up3_ne (fun z => absurd z.1 (by decide)), ei_75, up3_ne (fun z => absurd z.1 (by decide)), ei_70, up3_ne (fun z => absurd z.1 (by decide)), ei_65, up3_ne (fun z => absurd z.1 (by decide)), ei_60, up3_ne (fun z => absurd z.1 (by decide)), ei_55, clamp_eq (show (x_52 : Int32).toInt = (iv 0 0 48).toInt by omega), up3_k], by rw [ei_87, up3_ne (fun z => absurd z.1 (by decide)), ei_80, up3_ne (fun z => absurd z.1 (by decide)), ei_75, up3_ne (fun z => absurd z.1 (by decide)), ei_70, up3_ne (fun z => absurd z.1 (by decide)), ei_65, up3_ne (fun z => absurd z.1 (by decide)), ei_60, clamp_eq (show (x_57 : Int32).toInt = (iv 0 0 48).toInt by omega), up3_k, ei_55, up3_ne (fun z => absurd z.1 (by decide))], by rw [ei_87, up3_ne (fun z => absurd z.1 (by decide)), ei_80, up3_ne (fun z => absurd z.1 (by decide)), ei_75, up3_ne (fun z => absurd z.1 (by decide)), ei_70, up3_ne (fun z => absurd z.1 (by decide)), ei_65, clamp_eq (show (x_62 : Int32).toInt = (iv 0 0 48).toInt by omega), up3_k, ei_60, up3_ne (fun z => absurd z.1 (by decide)), ei_55, up3_ne (fun z => absurd z.1 (by decide))], by rw [ei_87, up3_ne (fun z => absurd z.1 (by decide)), ei_80, up3_ne (fun z => absurd z.1 (by decide)), ei_75, up3_ne (fun z => absurd z.1 (by decide)), ei_70, clamp_eq (show (x_67 : Int32).toInt = (iv 0 0 48).toInt by omega), up3_k, ei_65, up3_ne (fun z => absurd z.1 (by decide)), ei_60, up3_ne (fun z => absurd z.1 (by decide)), ei_55, up3_ne (fun z => absurd z.1 (by decide))], by rw [ei_87, up3_ne (fun z => absurd z.1 (by decide)), ei_80, up3_ne (fun z => absurd z.1 (by decide)), ei_75, clamp_eq (show (x_72 : Int32).toInt = (iv 0 0 48).toInt by omega), up3_k, ei_70, up3_ne (fun z => absurd z.1 (by decide)), ei_65, up3_ne (fun z => absurd z.1 (by decide)), ei_60, up3_ne (fun z => absurd z.1 (by decide)), ei_55, up3_ne (fun z => absurd z.1 (by decide))], by rw [ei_87, up3_ne (fun z => absurd z.1 (by decide)), ei_80, clamp_eq (show (x_77 : Int32).toInt = (iv 0 0 48).toInt by omega), up3_k, ei_75, up3_ne (fun z => absurd z.1 (by decide)), ei_70, up3_ne (fun z => absurd z.1 (by decide)), ei_65, up3_ne (fun z => absurd z.1 (by decide)), ei_60, up3_ne (fun z => absurd z.1 (by decide)), ei_55, up3_ne (fun z => absurd z.1 (by decide))]⟩⟩⟩) hU hS dX12_judged_159
                  ·
                    refine lv_aload_n hx hb dX12_judged_73 rfl (lv_at hl 0 rfl) ?_
                    refine lv_bipush (v := (-6)) hx hb dX12_judged_74 (by decide) ?_
                    refine q_fi (q_runV (t := 0) (i := 0) (As := [.int (-6)]) (rest := []) C hU (c_X12_refuse hG (-6) (by omega)) vm_X12_refuse ml_X12_164 k_0.1 (hc := rfl) rfl (h1_0 hG) hl.1 rfl rfl (Nat.le_of_ble_eq_true rfl) dX12_judged_76 rfl rfl ⟨Nat.le_of_ble_eq_true rfl, Nat.le_of_ble_eq_true rfl⟩ ⟨Nat.le_refl _, Nat.le_refl _⟩) hS (fun x_97 iv_93 rv_94 H locs hG fa_95 fb_96 hp_92 hU hS => ?_)
                    have hF1 := hF1.tr (m := ([16, 41, 42, 43, 44, 45, 46], [(0, 48)])) fa_95 (by decide)
                    have hF2 := hF2.tr (m := ([16, 41, 42, 43, 44, 45, 46], [(0, 48)])) fb_96 (by decide)
                    exact hret (⟨hG, hF1, hF2, sp_no (z := (-6)) (by unfold spJud; (repeat' split) <;> first | rfl | omega) (by decide) hp_92 (⟨fa_95 0 0 48 (by decide), fun k => ⟨fa_95.arr 41 0 k (by decide), fa_95.arr 42 0 k (by decide), fa_95.arr 43 0 k (by decide), fa_95.arr 44 0 k (by decide), fa_95.arr 45 0 k (by decide), fa_95.arr 46 0 k (by decide)⟩⟩)⟩) hU hS dX12_judged_79
          ·
            refine lv_aload_n hx hb dX12_judged_34 rfl (lv_at hl 0 rfl) ?_
            refine lv_bipush (v := (-4)) hx hb dX12_judged_35 (by decide) ?_
            refine q_fi (q_runV (t := 0) (i := 0) (As := [.int (-4)]) (rest := []) C hU (c_X12_refuse hG (-4) (by omega)) vm_X12_refuse ml_X12_164 k_0.1 (hc := rfl) rfl (h1_0 hG) hl.1 rfl rfl (Nat.le_of_ble_eq_true rfl) dX12_judged_37 rfl rfl ⟨Nat.le_of_ble_eq_true rfl, Nat.le_of_ble_eq_true rfl⟩ ⟨Nat.le_refl _, Nat.le_refl _⟩) hS (fun x_103 iv_99 rv_100 H locs hG fa_101 fb_102 hp_98 hU hS => ?_)
            have hF1 := hF1.tr (m := ([16, 41, 42, 43, 44, 45, 46], [(0, 48)])) fa_101 (by decide)
            have hF2 := hF2.tr (m := ([16, 41, 42, 43, 44, 45, 46], [(0, 48)])) fb_102 (by decide)
            exact hret (⟨hG, hF1, hF2, sp_no (z := (-4)) (by unfold spJud; (repeat' split) <;> first | rfl | omega) (by decide) hp_98 (⟨fa_101 0 0 48 (by decide), fun k => ⟨fa_101.arr 41 0 k (by decide), fa_101.arr 42 0 k (by decide), fa_101.arr 43 0 k (by decide), fa_101.arr 44 0 k (by decide), fa_101.arr 45 0 k (by decide), fa_101.arr 46 0 k (by decide)⟩⟩)⟩) hU hS dX12_judged_40
    ·
      refine lv_aload_n hx hb dX12_judged_14 rfl (lv_at hl 0 rfl) ?_
      refine lv_iconst (v := (-1)) hx hb dX12_judged_15 (by decide) ?_
      refine q_fi (q_runV (t := 0) (i := 0) (As := [.int (-1)]) (rest := []) C hU (c_X12_refuse hG (-1) (by omega)) vm_X12_refuse ml_X12_164 k_0.1 (hc := rfl) rfl (h1_0 hG) hl.1 rfl rfl (Nat.le_of_ble_eq_true rfl) dX12_judged_16 rfl rfl ⟨Nat.le_of_ble_eq_true rfl, Nat.le_of_ble_eq_true rfl⟩ ⟨Nat.le_refl _, Nat.le_refl _⟩) hS (fun x_109 iv_105 rv_106 H locs hG fa_107 fb_108 hp_104 hU hS => ?_)
      have hF1 := hF1.tr (m := ([16, 41, 42, 43, 44, 45, 46], [(0, 48)])) fa_107 (by decide)
      have hF2 := hF2.tr (m := ([16, 41, 42, 43, 44, 45, 46], [(0, 48)])) fb_108 (by decide)
      exact hret (⟨hG, hF1, hF2, sp_no (z := (-1)) (by unfold spJud; (repeat' split) <;> first | rfl | omega) (by decide) hp_104 (⟨fa_107 0 0 48 (by decide), fun k => ⟨fa_107.arr 41 0 k (by decide), fa_107.arr 42 0 k (by decide), fa_107.arr 43 0 k (by decide), fa_107.arr 44 0 k (by decide), fa_107.arr 45 0 k (by decide), fa_107.arr 46 0 k (by decide)⟩⟩)⟩) hU hS dX12_judged_19
