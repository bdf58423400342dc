section
set_option maxHeartbeats 4000000 in
set_option maxRecDepth 100000 in
theorem c_X11_sum {l : Launch} {D : va_G} {cA : FieldType → ClassId} {sz : Nat} {al : Al} {iv : Iv} {rv : Rv} (hG : GI al iv rv) (tt : Int32) (d : Int32) (what : Int32) : Met l yX11_sum (wd yX11_sum cX11_sum 6 (some .int)) (rm 5) (PcW D cA sz al iv rv [.ref (al.2 49 0), .int tt, .int d, .int what]) (QI D cA sz al (fI al ([51, 59, 60, 61], []) iv rv (fun r iv' rv' => True))) 0 0 (Aq sz) := by
  refine mk_i (by decide) (Nat.le_of_ble_eq_true rfl) rfl ?_
  intro p e s m args below meth c ls Q H locs C hU hS hl hret
  have hx := C.1.1
  have hb := C.1.2.1
  have hl : lv_has ls 6 [(0, .ref (al.2 49 0)), (1, .int tt), (2, .int d), (3, .int what)] := hl
  have hG0 := hG
  have hF1 : FR ([51, 59, 60, 61], []) iv iv := FR.rf
  have hF2 : FR ([51, 59, 60, 61], []) rv rv := FR.rf
  have km6 : ((-6) : Int32).toInt = -6 := by decide
  have km4 : ((-4) : Int32).toInt = -4 := by decide
  have km2 : ((-2) : Int32).toInt = -2 := by decide
  have km1 : ((-1) : Int32).toInt = -1 := by decide
  have k0 : (0 : Int32).toInt = 0 := by decide
  have k1 : (1 : Int32).toInt = 1 := by decide
  have k3 : (3 : Int32).toInt = 3 := by decide
  have k4000 : (4000 : Int32).toInt = 4000 := by decide
  refine lv_aload_n hx hb dX11_sum_0 rfl (lv_at hl 0 rfl) ?_
  refine g_49_2 C hU hG (h1_49 hG) fl_X11_26 dX11_sum_1 ?_
  refine lv_iload_n hx hb dX11_sum_4 rfl (lv_at hl 1 rfl) ?_
  refine q_pr (q_runV (t := 63) (i := 0) (As := [.int tt]) (rest := []) C hU (c_X9_find hG tt ) vm_X9_find ml_X11_192 k_63.1 (hc := rfl) rfl (h1_63 hG) hl.1 rfl rfl (Nat.le_of_ble_eq_true rfl) dX11_sum_5 rfl rfl ⟨Nat.le_of_ble_eq_true rfl, Nat.le_of_ble_eq_true rfl⟩ ⟨Nat.le_refl _, Nat.le_refl _⟩) hS (fun r_2 H locs hp_1 hU hS => ?_)
  have hb_3 := hp_1.1
  refine b_astore (lv' := [(4, rfv al 65 r_2), (0, .ref (al.2 49 0)), (1, .int tt), (2, .int d), (3, .int what)]) hx hb dX11_sum_8 hl (by decide) rfl (fun ls hl => ?_)
  refine b_aload (al := al) (t' := 65) (r := r_2) hx hb dX11_sum_10 (lv_at hl 0 rfl) ?_
  refine b_ifnonnull (tgt := 21) hx hb dX11_sum_12 (by decide) (fun j_5 ej_6 => ?_) (fun ej_6 => ?_)
  ·
    subst ej_6
    have hl : lv_has ls 6 [(4, .ref (al.2 65 j_5)), (0, .ref (al.2 49 0)), (1, .int tt), (2, .int d), (3, .int what)] := hl
    have hb_7 : j_5 < al.1 65 := hb_3 j_5 rfl
    refine lv_iconst (v := 3) hx hb dX11_sum_21 (by decide) ?_
    refine lv_iload_n hx hb dX11_sum_22 rfl (lv_at hl 4 rfl) ?_
    refine q_pi (q_runS (As := [.int 3, .int what]) (rest := []) C hU (c_X11_isOneOf  3 what ) sm_X11_isOneOf ml_X11_85 hl.1 rfl rfl (Nat.le_of_ble_eq_true rfl) dX11_sum_23 rfl rfl ⟨Nat.le_of_ble_eq_true rfl, Nat.le_of_ble_eq_true rfl⟩ ⟨Nat.le_refl _, Nat.le_refl _⟩) hS (fun x_9 H locs hp_8 hU hS => ?_)
    refine b_if_ne (tgt := 36) hx hb dX11_sum_26 (by decide) (fun c_10 => ?_) (fun c_10 => ?_)
    ·
      refine lv_iload_n hx hb dX11_sum_36 rfl (lv_at hl 3 rfl) ?_
      refine b_if_ge (tgt := 47) hx hb dX11_sum_37 (by decide) (fun c_11 => ?_) (fun c_11 => ?_)
      ·
        refine lv_iload_n hx hb dX11_sum_47 rfl (lv_at hl 3 rfl) ?_
        refine lv_sipush (v := 4000) hx hb dX11_sum_48 (by decide) ?_
        refine b_icmp_le (tgt := 61) hx hb dX11_sum_51 (by decide) (fun c_12 => ?_) (fun c_12 => ?_)
        ·
          refine lv_iload_n hx hb dX11_sum_61 rfl (lv_at hl 4 rfl) ?_
          refine b_if_ne (tgt := 73) hx hb dX11_sum_62 (by decide) (fun c_13 => ?_) (fun c_13 => ?_)
          ·
            refine lv_aload_n hx hb dX11_sum_73 rfl (lv_at hl 1 rfl) ?_
            refine g_49_3 C hU hG (h1_49 hG) fl_X11_33 dX11_sum_74 ?_
            refine lv_aload hx hb dX11_sum_77 (lv_at hl 0 rfl) ?_
            refine lv_iload_n hx hb dX11_sum_79 rfl (lv_at hl 3 rfl) ?_
            refine q_pi (q_runV (t := 68) (i := 0) (As := [.ref (al.2 65 j_5), .int d]) (rest := []) C hU (c_X4_landFor hG (j_5) hb_7 d ) vm_X4_landFor ml_X11_236 k_68.1 (hc := rfl) rfl (h1_68 hG) hl.1 rfl rfl (Nat.le_of_ble_eq_true rfl) dX11_sum_80 rfl rfl ⟨Nat.le_of_ble_eq_true rfl, Nat.le_of_ble_eq_true rfl⟩ ⟨Nat.le_refl _, Nat.le_refl _⟩) hS (fun x_15 H locs hp_14 hU hS => ?_)
            refine lv_istore (lv' := [(5, .int x_15), (4, .ref (al.2 65 j_5)), (0, .ref (al.2 49 0)), (1, .int tt), (2, .int d), (3, .int what)]) hx hb dX11_sum_83 hl (by decide) rfl (fun ls hl => ?_)
            refine lv_iload_n hx hb dX11_sum_85 rfl (lv_at hl 5 rfl) ?_
            refine lv_iconst (v := 1) hx hb dX11_sum_86 (by decide) ?_
            refine b_icmp_ne (tgt := 93) hx hb dX11_sum_87 (by decide) (fun c_16 => ?_) (fun c_16 => ?_)
            ·
              refine lv_aload_n hx hb dX11_sum_93 rfl (lv_at hl 2 rfl) ?_
              refine g_49_3 C hU hG (h1_49 hG) fl_X11_33 dX11_sum_94 ?_
              refine lv_iload hx hb dX11_sum_97 (lv_at hl 0 rfl) ?_
              refine lv_aload_n hx hb dX11_sum_99 rfl (lv_at hl 2 rfl) ?_
              refine lv_aload hx hb dX11_sum_100 (lv_at hl 1 rfl) ?_
              refine q_fi (q_runV (t := 49) (i := 0) (As := [.ref (al.2 65 j_5)]) (rest := [.int x_15, .ref (al.2 68 0)]) C hU (c_X11_blameOf hG (j_5) hb_7 ) vm_X11_blameOf ml_X11_218 k_49.1 (hc := rfl) rfl (h1_49 hG) hl.1 rfl rfl (Nat.le_of_ble_eq_true rfl) dX11_sum_102 rfl rfl ⟨Nat.le_of_ble_eq_true rfl, Nat.le_of_ble_eq_true rfl⟩ ⟨Nat.le_refl _, Nat.le_refl _⟩) hS (fun x_22 iv_18 rv_19 H locs hG fa_20 fb_21 hp_17 hU hS => ?_)
              have hF1 := hF1.tr (m := ([51, 59, 60, 61], [])) fa_20 (by decide)
              have hF2 := hF2.tr (m := ([51, 59, 60, 61], [])) fb_21 (by decide)
              refine lv_aload hx hb dX11_sum_105 (lv_at hl 1 rfl) ?_
              refine q_pi (q_runV (t := 65) (i := j_5) (As := []) (rest := [.int x_22, .int x_15, .ref (al.2 68 0)]) C hU (c_X8_leaveDay hG (j_5) hb_7 ) vm_X8_leaveDay ml_X11_239 k_65.1 (hc := rfl) rfl hb_7 hl.1 rfl rfl (Nat.le_of_ble_eq_true rfl) dX11_sum_107 rfl rfl ⟨Nat.le_of_ble_eq_true rfl, Nat.le_of_ble_eq_true rfl⟩ ⟨Nat.le_refl _, Nat.le_refl _⟩) hS (fun x_24 H locs hp_23 hU hS => ?_)
              refine q_pi (q_runV (t := 68) (i := 0) (As := [.int x_15, .int x_22, .int x_24]) (rest := []) C hU (c_X4_isExcused hG x_15 x_22 x_24 ) vm_X4_isExcused ml_X11_243 k_68.1 (hc := rfl) rfl (h1_68 hG) hl.1 rfl rfl (Nat.le_of_ble_eq_true rfl) dX11_sum_110 rfl rfl ⟨Nat.le_of_ble_eq_true rfl, Nat.le_of_ble_eq_true rfl⟩ ⟨Nat.le_refl _, Nat.le_refl _⟩) hS (fun x_26 H locs hp_25 hU hS => ?_)
              refine b_if_eq (tgt := 120) hx hb dX11_sum_113 (by decide) (fun c_27 => ?_) (fun c_27 => ?_)
              ·
                refine lv_iconst (v := 0) hx hb dX11_sum_120 (by decide) ?_
                exact hret (⟨hG, hF1, hF2, trivial⟩) hU hS dX11_sum_121
              ·
                refine lv_iconst (v := 1) hx hb dX11_sum_116 (by decide) ?_
                refine lv_goto (tgt := 121) hx hb dX11_sum_117 (by decide) ?_
                exact hret (⟨hG, hF1, hF2, trivial⟩) hU hS dX11_sum_121
            ·
              refine lv_iload hx hb dX11_sum_90 (lv_at hl 0 rfl) ?_
              exact hret (⟨hG, hF1, hF2, trivial⟩) hU hS dX11_sum_92
          ·
            refine lv_aload_n hx hb dX11_sum_65 rfl (lv_at hl 1 rfl) ?_
            refine lv_aload hx hb dX11_sum_66 (lv_at hl 0 rfl) ?_
            refine lv_iload_n hx hb dX11_sum_68 rfl (lv_at hl 3 rfl) ?_
            refine q_fi (q_runV (t := 49) (i := 0) (As := [.ref (al.2 65 j_5), .int d]) (rest := []) C hU (c_X11_sumFor hG (j_5) hb_7 d ) vm_X11_sumFor ml_X11_232 k_49.1 (hc := rfl) rfl (h1_49 hG) hl.1 rfl rfl (Nat.le_of_ble_eq_true rfl) dX11_sum_69 rfl rfl ⟨Nat.le_of_ble_eq_true rfl, Nat.le_of_ble_eq_true rfl⟩ ⟨Nat.le_refl _, Nat.le_refl _⟩) hS (fun x_33 iv_29 rv_30 H locs hG fa_31 fb_32 hp_28 hU hS => ?_)
            have hF1 := hF1.tr (m := ([51, 59, 60, 61], [])) fa_31 (by decide)
            have hF2 := hF2.tr (m := ([51, 59, 60, 61], [])) fb_32 (by decide)
            exact hret (⟨hG, hF1, hF2, trivial⟩) hU hS dX11_sum_72
        ·
          refine lv_aload_n hx hb dX11_sum_54 rfl (lv_at hl 1 rfl) ?_
          refine lv_bipush (v := (-6)) hx hb dX11_sum_55 (by decide) ?_
          refine q_fi (q_runV (t := 49) (i := 0) (As := [.int (-6)]) (rest := []) C hU (c_X11_refuse hG (-6) (by omega)) vm_X11_refuse ml_X11_77 k_49.1 (hc := rfl) rfl (h1_49 hG) hl.1 rfl rfl (Nat.le_of_ble_eq_true rfl) dX11_sum_57 rfl rfl ⟨Nat.le_of_ble_eq_true rfl, Nat.le_of_ble_eq_true rfl⟩ ⟨Nat.le_refl _, Nat.le_refl _⟩) hS (fun x_39 iv_35 rv_36 H locs hG fa_37 fb_38 hp_34 hU hS => ?_)
          have hF1 := hF1.tr (m := ([51, 59, 60, 61], [])) fa_37 (by decide)
          have hF2 := hF2.tr (m := ([51, 59, 60, 61], [])) fb_38 (by decide)
          exact hret (⟨hG, hF1, hF2, trivial⟩) hU hS dX11_sum_60
      ·
        refine lv_aload_n hx hb dX11_sum_40 rfl (lv_at hl 1 rfl) ?_
        refine lv_bipush (v := (-4)) hx hb dX11_sum_41 (by decide) ?_
        refine q_fi (q_runV (t := 49) (i := 0) (As := [.int (-4)]) (rest := []) C hU (c_X11_refuse hG (-4) (by omega)) vm_X11_refuse ml_X11_77 k_49.1 (hc := rfl) rfl (h1_49 hG) hl.1 rfl rfl (Nat.le_of_ble_eq_true rfl) dX11_sum_43 rfl rfl ⟨Nat.le_of_ble_eq_true rfl, Nat.le_of_ble_eq_true rfl⟩ ⟨Nat.le_refl _, Nat.le_refl _⟩) hS (fun x_45 iv_41 rv_42 H locs hG fa_43 fb_44 hp_40 hU hS => ?_)
        have hF1 := hF1.tr (m := ([51, 59, 60, 61], [])) fa_43 (by decide)
        have hF2 := hF2.tr (m := ([51, 59, 60, 61], [])) fb_44 (by decide)
        exact hret (⟨hG, hF1, hF2, trivial⟩) hU hS dX11_sum_46
    ·
      refine lv_aload_n hx hb dX11_sum_29 rfl (lv_at hl 1 rfl) ?_
      refine lv_bipush (v := (-2)) hx hb dX11_sum_30 (by decide) ?_
      refine q_fi (q_runV (t := 49) (i := 0) (As := [.int (-2)]) (rest := []) C hU (c_X11_refuse hG (-2) (by omega)) vm_X11_refuse ml_X11_77 k_49.1 (hc := rfl) rfl (h1_49 hG) hl.1 rfl rfl (Nat.le_of_ble_eq_true rfl) dX11_sum_32 rfl rfl ⟨Nat.le_of_ble_eq_true rfl, Nat.le_of_ble_eq_true rfl⟩ ⟨Nat.le_refl _, Nat.le_refl _⟩) hS (fun x_51 iv_47 rv_48 H locs hG fa_49 fb_50 hp_46 hU hS => ?_)
      have hF1 := hF1.tr (m := ([51, 59, 60, 61], [])) fa_49 (by decide)
      have hF2 := hF2.tr (m := ([51, 59, 60, 61], [])) fb_50 (by decide)
      exact hret (⟨hG, hF1, hF2, trivial⟩) hU hS dX11_sum_35
  ·
    subst ej_6
    have hl : lv_has ls 6 [(4, rfv al 65 none), (0, .ref (al.2 49 0)), (1, .int tt), (2, .int d), (3, .int what)] := hl
    refine lv_aload_n hx hb dX11_sum_15 rfl (lv_at hl 1 rfl) ?_
    refine lv_iconst (v := (-1)) hx hb dX11_sum_16 (by decide) ?_
    refine q_fi (q_runV (t := 49) (i := 0) (As := [.int (-1)]) (rest := []) C hU (c_X11_refuse hG (-1) (by omega)) vm_X11_refuse ml_X11_77 k_49.1 (hc := rfl) rfl (h1_49 hG) hl.1 rfl rfl (Nat.le_of_ble_eq_true rfl) dX11_sum_17 rfl rfl ⟨Nat.le_of_ble_eq_true rfl, Nat.le_of_ble_eq_true rfl⟩ ⟨Nat.le_refl _, Nat.le_refl _⟩) hS (fun x_57 iv_53 rv_54 H locs hG fa_55 fb_56 hp_52 hU hS => ?_)
    have hF1 := hF1.tr (m := ([51, 59, 60, 61], [])) fa_55 (by decide)
    have hF2 := hF2.tr (m := ([51, 59, 60, 61], [])) fb_56 (by decide)
    exact hret (⟨hG, hF1, hF2, trivial⟩) hU hS dX11_sum_20
set_option maxHeartbeats 4000000 in
set_option maxRecDepth 100000 in
theorem c_X11_bar {l : Launch} {D : va_G} {cA : FieldType → ClassId} {sz : Nat} {al : Al} {iv : Iv} {rv : Rv} (hG : GI al iv rv) (lw : Int32) (n : Int32) : Met l yX11_bar (wd yX11_bar cX11_bar 4 (some .int)) (rm 2) (PcW D cA sz al iv rv [.ref (al.2 49 0), .int lw, .int n]) (QI D cA sz al (fI al ([51, 80], []) iv rv (fun r iv' rv' => True))) 0 0 (Aq sz) := by
  refine mk_i (by decide) (Nat.le_of_ble_eq_true rfl) rfl ?_
  intro p e s m args below meth c ls Q H locs C hU hS hl hret
  have hx := C.1.1
  have hb := C.1.2.1
  have hl : lv_has ls 4 [(0, .ref (al.2 49 0)), (1, .int lw), (2, .int n)] := hl
  have hG0 := hG
  have hF1 : FR ([51, 80], []) iv iv := FR.rf
  have hF2 : FR ([51, 80], []) rv rv := FR.rf
  have km6 : ((-6) : Int32).toInt = -6 := by decide
  have km4 : ((-4) : Int32).toInt = -4 := by decide
  have km1 : ((-1) : Int32).toInt = -1 := by decide
  have k1 : (1 : Int32).toInt = 1 := by decide
  have k4 : (4 : Int32).toInt = 4 := by decide
  have k3000 : (3000 : Int32).toInt = 3000 := by decide
  refine lv_iconst (v := 4) hx hb dX11_bar_0 (by decide) ?_
  refine lv_iload_n hx hb dX11_bar_1 rfl (lv_at hl 1 rfl) ?_
  refine q_pi (q_runS (As := [.int 4, .int lw]) (rest := []) C hU (c_X11_isOneOf  4 lw ) sm_X11_isOneOf ml_X11_85 hl.1 rfl rfl (Nat.le_of_ble_eq_true rfl) dX11_bar_2 rfl rfl ⟨Nat.le_of_ble_eq_true rfl, Nat.le_of_ble_eq_true rfl⟩ ⟨Nat.le_refl _, Nat.le_refl _⟩) hS (fun x_2 H locs hp_1 hU hS => ?_)
  refine b_if_ne (tgt := 14) hx hb dX11_bar_5 (by decide) (fun c_3 => ?_) (fun c_3 => ?_)
  ·
    refine lv_iload_n hx hb dX11_bar_14 rfl (lv_at hl 2 rfl) ?_
    refine lv_iconst (v := 1) hx hb dX11_bar_15 (by decide) ?_
    refine b_icmp_ge (tgt := 26) hx hb dX11_bar_16 (by decide) (fun c_4 => ?_) (fun c_4 => ?_)
    ·
      refine lv_iload_n hx hb dX11_bar_26 rfl (lv_at hl 2 rfl) ?_
      refine lv_sipush (v := 3000) hx hb dX11_bar_27 (by decide) ?_
      refine b_icmp_le (tgt := 40) hx hb dX11_bar_30 (by decide) (fun c_5 => ?_) (fun c_5 => ?_)
      ·
        refine lv_aload_n hx hb dX11_bar_40 rfl (lv_at hl 0 rfl) ?_
        refine g_49_4 C hU hG (h1_49 hG) fl_X11_40 dX11_bar_41 ?_
        refine g_79_0 C hU hG (h1_79 hG) fl_X11_247 dX11_bar_44 ?_
        refine lv_iload_n hx hb dX11_bar_47 rfl (lv_at hl 1 rfl) ?_
        refine a_80 C hU hG (h1_80 hG) (x := lw) (by omega) (by omega) dX11_bar_48 (fun x_6 e_7 le_7 ue_7 => ?_)
        have te_7 := congrArg Int32.toInt e_7
        refine lv_istore_n (lv' := [(3, .int x_6), (0, .ref (al.2 49 0)), (1, .int lw), (2, .int n)]) hx hb dX11_bar_49 rfl hl (by decide) rfl (fun ls hl => ?_)
        refine lv_aload_n hx hb dX11_bar_50 rfl (lv_at hl 1 rfl) ?_
        refine g_49_4 C hU hG (h1_49 hG) fl_X11_40 dX11_bar_51 ?_
        refine g_79_0 C hU hG (h1_79 hG) fl_X11_247 dX11_bar_54 ?_
        refine lv_iload_n hx hb dX11_bar_57 rfl (lv_at hl 2 rfl) ?_
        refine lv_iload_n hx hb dX11_bar_58 rfl (lv_at hl 3 rfl) ?_
        refine s_80 C hU hS (h1_80 hG) (x := lw) (by omega) (by omega) dX11_bar_59 (fun iv_8 H locs ei_9 hU hS => ?_)
        have hG : GI al iv_8 rv := by rw [ei_9]; exact hG.puti (show _ ∧ _ from ⟨show (0 : Int) ≤ _ by omega, show _ ≤ (3000 : Int) by omega⟩) (nsA (by decide) _)
        have hF1 : FR ([51, 80], []) iv iv_8 := by rw [ei_9]; exact hF1.put (Or.inl (by decide))
        refine lv_iload_n hx hb dX11_bar_60 rfl (lv_at hl 0 rfl) ?_
        exact hret (⟨hG, hF1, hF2, trivial⟩) hU hS dX11_bar_61
      ·
        refine lv_aload_n hx hb dX11_bar_33 rfl (lv_at hl 0 rfl) ?_
        refine lv_bipush (v := (-6)) hx hb dX11_bar_34 (by decide) ?_
        refine q_fi (q_runV (t := 49) (i := 0) (As := [.int (-6)]) (rest := []) C hU (c_X11_refuse hG (-6) (by omega)) vm_X11_refuse ml_X11_77 k_49.1 (hc := rfl) rfl (h1_49 hG) hl.1 rfl rfl (Nat.le_of_ble_eq_true rfl) dX11_bar_36 rfl rfl ⟨Nat.le_of_ble_eq_true rfl, Nat.le_of_ble_eq_true rfl⟩ ⟨Nat.le_refl _, Nat.le_refl _⟩) hS (fun x_15 iv_11 rv_12 H locs hG fa_13 fb_14 hp_10 hU hS => ?_)
        have hF1 := hF1.tr (m := ([51, 80], [])) fa_13 (by decide)
        have hF2 := hF2.tr (m := ([51, 80], [])) fb_14 (by decide)
        exact hret (⟨hG, hF1, hF2, trivial⟩) hU hS dX11_bar_39
    ·
      refine lv_aload_n hx hb dX11_bar_19 rfl (lv_at hl 0 rfl) ?_
      refine lv_bipush (v := (-4)) hx hb dX11_bar_20 (by decide) ?_
      refine q_fi (q_runV (t := 49) (i := 0) (As := [.int (-4)]) (rest := []) C hU (c_X11_refuse hG (-4) (by omega)) vm_X11_refuse ml_X11_77 k_49.1 (hc := rfl) rfl (h1_49 hG) hl.1 rfl rfl (Nat.le_of_ble_eq_true rfl) dX11_bar_22 rfl rfl ⟨Nat.le_of_ble_eq_true rfl, Nat.le_of_ble_eq_true rfl⟩ ⟨Nat.le_refl _, Nat.le_refl _⟩) hS (fun x_21 iv_17 rv_18 H locs hG fa_19 fb_20 hp_16 hU hS => ?_)
      have hF1 := hF1.tr (m := ([51, 80], [])) fa_19 (by decide)
      have hF2 := hF2.tr (m := ([51, 80], [])) fb_20 (by decide)
      exact hret (⟨hG, hF1, hF2, trivial⟩) hU hS dX11_bar_25
  ·
    refine lv_aload_n hx hb dX11_bar_8 rfl (lv_at hl 0 rfl) ?_
    refine lv_iconst (v := (-1)) hx hb dX11_bar_9 (by decide) ?_
    refine q_fi (q_runV (t := 49) (i := 0) (As := [.int (-1)]) (rest := []) C hU (c_X11_refuse hG (-1) (by omega)) vm_X11_refuse ml_X11_77 k_49.1 (hc := rfl) rfl (h1_49 hG) hl.1 rfl rfl (Nat.le_of_ble_eq_true rfl) dX11_bar_10 rfl rfl ⟨Nat.le_of_ble_eq_true rfl, Nat.le_of_ble_eq_true rfl⟩ ⟨Nat.le_refl _, Nat.le_refl _⟩) hS (fun x_27 iv_23 rv_24 H locs hG fa_25 fb_26 hp_22 hU hS => ?_)
    have hF1 := hF1.tr (m := ([51, 80], [])) fa_25 (by decide)
    have hF2 := hF2.tr (m := ([51, 80], [])) fb_26 (by decide)
    exact hret (⟨hG, hF1, hF2, trivial⟩) hU hS dX11_bar_13
set_option maxHeartbeats 4000000 in
set_option maxRecDepth 100000 in
theorem c_X11_stop {l : Launch} {D : va_G} {cA : FieldType → ClassId} {sz : Nat} {al : Al} {iv : Iv} {rv : Rv} (hG : GI al iv rv) (lw : Int32) (a : Int32) (b : Int32) : Met l yX11_stop (wd yX11_stop cX11_stop 4 (some .int)) (rm 2) (PcW D cA sz al iv rv [.ref (al.2 49 0), .int lw, .int a, .int b]) (QI D cA sz al (fI al ([51, 81, 82, 83], [(79, 4)]) iv rv (fun r iv' rv' => True))) 0 0 (Aq sz) := by
  refine mk_i (by decide) (Nat.le_of_ble_eq_true rfl) rfl ?_
  intro p e s m args below meth c ls Q H locs C hU hS hl hret
  have hx := C.1.1
  have hb := C.1.2.1
  have hl : lv_has ls 4 [(0, .ref (al.2 49 0)), (1, .int lw), (2, .int a), (3, .int b)] := hl
  have hG0 := hG
  have hF1 : FR ([51, 81, 82, 83], [(79, 4)]) iv iv := FR.rf
  have hF2 : FR ([51, 81, 82, 83], [(79, 4)]) rv rv := FR.rf
  have km6 : ((-6) : Int32).toInt = -6 := by decide
  have km4 : ((-4) : Int32).toInt = -4 := by decide
  have km1 : ((-1) : Int32).toInt = -1 := by decide
  have k4 : (4 : Int32).toInt = 4 := by decide
  have k4000 : (4000 : Int32).toInt = 4000 := by decide
  refine lv_iconst (v := 4) hx hb dX11_stop_0 (by decide) ?_
  refine lv_iload_n hx hb dX11_stop_1 rfl (lv_at hl 1 rfl) ?_
  refine q_pi (q_runS (As := [.int 4, .int lw]) (rest := []) C hU (c_X11_isOneOf  4 lw ) sm_X11_isOneOf ml_X11_85 hl.1 rfl rfl (Nat.le_of_ble_eq_true rfl) dX11_stop_2 rfl rfl ⟨Nat.le_of_ble_eq_true rfl, Nat.le_of_ble_eq_true rfl⟩ ⟨Nat.le_refl _, Nat.le_refl _⟩) hS (fun x_2 H locs hp_1 hU hS => ?_)
  refine b_if_ne (tgt := 14) hx hb dX11_stop_5 (by decide) (fun c_3 => ?_) (fun c_3 => ?_)
  ·
    refine lv_iload_n hx hb dX11_stop_14 rfl (lv_at hl 2 rfl) ?_
    refine b_if_lt (tgt := 23) hx hb dX11_stop_15 (by decide) (fun c_4 => ?_) (fun c_4 => ?_)
    ·
      refine lv_aload_n hx hb dX11_stop_23 rfl (lv_at hl 0 rfl) ?_
      refine lv_bipush (v := (-4)) hx hb dX11_stop_24 (by decide) ?_
      refine q_fi (q_runV (t := 49) (i := 0) (As := [.int (-4)]) (rest := []) C hU (c_X11_refuse hG (-4) (by omega)) vm_X11_refuse ml_X11_77 k_49.1 (hc := rfl) rfl (h1_49 hG) hl.1 rfl rfl (Nat.le_of_ble_eq_true rfl) dX11_stop_26 rfl rfl ⟨Nat.le_of_ble_eq_true rfl, Nat.le_of_ble_eq_true rfl⟩ ⟨Nat.le_refl _, Nat.le_refl _⟩) hS (fun x_10 iv_6 rv_7 H locs hG fa_8 fb_9 hp_5 hU hS => ?_)
      have hF1 := hF1.tr (m := ([51, 81, 82, 83], [(79, 4)])) fa_8 (by decide)
      have hF2 := hF2.tr (m := ([51, 81, 82, 83], [(79, 4)])) fb_9 (by decide)
      exact hret (⟨hG, hF1, hF2, trivial⟩) hU hS dX11_stop_29
    ·
      refine lv_iload_n hx hb dX11_stop_18 rfl (lv_at hl 3 rfl) ?_
      refine lv_iload_n hx hb dX11_stop_19 rfl (lv_at hl 2 rfl) ?_
      refine b_icmp_ge (tgt := 30) hx hb dX11_stop_20 (by decide) (fun c_11 => ?_) (fun c_11 => ?_)
      ·
        refine lv_iload_n hx hb dX11_stop_30 rfl (lv_at hl 2 rfl) ?_
        refine lv_sipush (v := 4000) hx hb dX11_stop_31 (by decide) ?_
        refine b_icmp_gt (tgt := 54) hx hb dX11_stop_34 (by decide) (fun c_12 => ?_) (fun c_12 => ?_)
        ·
          refine lv_aload_n hx hb dX11_stop_54 rfl (lv_at hl 0 rfl) ?_
          refine lv_bipush (v := (-6)) hx hb dX11_stop_55 (by decide) ?_
          refine q_fi (q_runV (t := 49) (i := 0) (As := [.int (-6)]) (rest := []) C hU (c_X11_refuse hG (-6) (by omega)) vm_X11_refuse ml_X11_77 k_49.1 (hc := rfl) rfl (h1_49 hG) hl.1 rfl rfl (Nat.le_of_ble_eq_true rfl) dX11_stop_57 rfl rfl ⟨Nat.le_of_ble_eq_true rfl, Nat.le_of_ble_eq_true rfl⟩ ⟨Nat.le_refl _, Nat.le_refl _⟩) hS (fun x_18 iv_14 rv_15 H locs hG fa_16 fb_17 hp_13 hU hS => ?_)
          have hF1 := hF1.tr (m := ([51, 81, 82, 83], [(79, 4)])) fa_16 (by decide)
          have hF2 := hF2.tr (m := ([51, 81, 82, 83], [(79, 4)])) fb_17 (by decide)
          exact hret (⟨hG, hF1, hF2, trivial⟩) hU hS dX11_stop_60
        ·
          refine lv_iload_n hx hb dX11_stop_37 rfl (lv_at hl 3 rfl) ?_
          refine lv_sipush (v := 4000) hx hb dX11_stop_38 (by decide) ?_
          refine b_icmp_gt (tgt := 54) hx hb dX11_stop_41 (by decide) (fun c_19 => ?_) (fun c_19 => ?_)
          ·
            refine lv_aload_n hx hb dX11_stop_54 rfl (lv_at hl 0 rfl) ?_
            refine lv_bipush (v := (-6)) hx hb dX11_stop_55 (by decide) ?_
            refine q_fi (q_runV (t := 49) (i := 0) (As := [.int (-6)]) (rest := []) C hU (c_X11_refuse hG (-6) (by omega)) vm_X11_refuse ml_X11_77 k_49.1 (hc := rfl) rfl (h1_49 hG) hl.1 rfl rfl (Nat.le_of_ble_eq_true rfl) dX11_stop_57 rfl rfl ⟨Nat.le_of_ble_eq_true rfl, Nat.le_of_ble_eq_true rfl⟩ ⟨Nat.le_refl _, Nat.le_refl _⟩) hS (fun x_25 iv_21 rv_22 H locs hG fa_23 fb_24 hp_20 hU hS => ?_)
            have hF1 := hF1.tr (m := ([51, 81, 82, 83], [(79, 4)])) fa_23 (by decide)
            have hF2 := hF2.tr (m := ([51, 81, 82, 83], [(79, 4)])) fb_24 (by decide)
            exact hret (⟨hG, hF1, hF2, trivial⟩) hU hS dX11_stop_60
          ·
            refine lv_aload_n hx hb dX11_stop_44 rfl (lv_at hl 0 rfl) ?_
            refine g_49_4 C hU hG (h1_49 hG) fl_X11_40 dX11_stop_45 ?_
            refine q_pi (q_runV (t := 79) (i := 0) (As := []) (rest := []) C hU (c_X0_isFull hG  ) vm_X0_isFull ml_X11_250 k_79.1 (hc := rfl) rfl (h1_79 hG) hl.1 rfl rfl (Nat.le_of_ble_eq_true rfl) dX11_stop_48 rfl rfl ⟨Nat.le_of_ble_eq_true rfl, Nat.le_of_ble_eq_true rfl⟩ ⟨Nat.le_refl _, Nat.le_refl _⟩) hS (fun x_27 H locs hp_26 hU hS => ?_)
            refine b_if_eq (tgt := 61) hx hb dX11_stop_51 (by decide) (fun c_28 => ?_) (fun c_28 => ?_)
            ·
              refine lv_aload_n hx hb dX11_stop_61 rfl (lv_at hl 0 rfl) ?_
              refine g_49_4 C hU hG (h1_49 hG) fl_X11_40 dX11_stop_62 ?_
              refine lv_iload_n hx hb dX11_stop_65 rfl (lv_at hl 1 rfl) ?_
              refine lv_iload_n hx hb dX11_stop_66 rfl (lv_at hl 2 rfl) ?_
              refine lv_iload_n hx hb dX11_stop_67 rfl (lv_at hl 3 rfl) ?_
              refine q_fi (q_runV (t := 79) (i := 0) (As := [.int lw, .int a, .int b]) (rest := []) C hU (c_X0_addStop hG lw a b (by omega) (by omega) (by omega) (by omega)) vm_X0_addStop ml_X11_251 k_79.1 (hc := rfl) rfl (h1_79 hG) hl.1 rfl rfl (Nat.le_of_ble_eq_true rfl) dX11_stop_68 rfl rfl ⟨Nat.le_of_ble_eq_true rfl, Nat.le_of_ble_eq_true rfl⟩ ⟨Nat.le_refl _, Nat.le_refl _⟩) hS (fun x_34 iv_30 rv_31 H locs hG fa_32 fb_33 hp_29 hU hS => ?_)
              have hF1 := hF1.tr (m := ([51, 81, 82, 83], [(79, 4)])) fa_32 (by decide)
              have hF2 := hF2.tr (m := ([51, 81, 82, 83], [(79, 4)])) fb_33 (by decide)
              exact hret (⟨hG, hF1, hF2, trivial⟩) hU hS dX11_stop_71
            ·
              refine lv_aload_n hx hb dX11_stop_54 rfl (lv_at hl 0 rfl) ?_
              refine lv_bipush (v := (-6)) hx hb dX11_stop_55 (by decide) ?_
              refine q_fi (q_runV (t := 49) (i := 0) (As := [.int (-6)]) (rest := []) C hU (c_X11_refuse hG (-6) (by omega)) vm_X11_refuse ml_X11_77 k_49.1 (hc := rfl) rfl (h1_49 hG) hl.1 rfl rfl (Nat.le_of_ble_eq_true rfl) dX11_stop_57 rfl rfl ⟨Nat.le_of_ble_eq_true rfl, Nat.le_of_ble_eq_true rfl⟩ ⟨Nat.le_refl _, Nat.le_refl _⟩) hS (fun x_40 iv_36 rv_37 H locs hG fa_38 fb_39 hp_35 hU hS => ?_)
              have hF1 := hF1.tr (m := ([51, 81, 82, 83], [(79, 4)])) fa_38 (by decide)
              have hF2 := hF2.tr (m := ([51, 81, 82, 83], [(79, 4)])) fb_39 (by decide)
              exact hret (⟨hG, hF1, hF2, trivial⟩) hU hS dX11_stop_60
      ·
        refine lv_aload_n hx hb dX11_stop_23 rfl (lv_at hl 0 rfl) ?_
        refine lv_bipush (v := (-4)) hx hb dX11_stop_24 (by decide) ?_
        refine q_fi (q_runV (t := 49) (i := 0) (As := [.int (-4)]) (rest := []) C hU (c_X11_refuse hG (-4) (by omega)) vm_X11_refuse ml_X11_77 k_49.1 (hc := rfl) rfl (h1_49 hG) hl.1 rfl rfl (Nat.le_of_ble_eq_true rfl) dX11_stop_26 rfl rfl ⟨Nat.le_of_ble_eq_true rfl, Nat.le_of_ble_eq_true rfl⟩ ⟨Nat.le_refl _, Nat.le_refl _⟩) hS (fun x_46 iv_42 rv_43 H locs hG fa_44 fb_45 hp_41 hU hS => ?_)
        have hF1 := hF1.tr (m := ([51, 81, 82, 83], [(79, 4)])) fa_44 (by decide)
        have hF2 := hF2.tr (m := ([51, 81, 82, 83], [(79, 4)])) fb_45 (by decide)
        exact hret (⟨hG, hF1, hF2, trivial⟩) hU hS dX11_stop_29
  ·
    refine lv_aload_n hx hb dX11_stop_8 rfl (lv_at hl 0 rfl) ?_
    refine lv_iconst (v := (-1)) hx hb dX11_stop_9 (by decide) ?_
    refine q_fi (q_runV (t := 49) (i := 0) (As := [.int (-1)]) (rest := []) C hU (c_X11_refuse hG (-1) (by omega)) vm_X11_refuse ml_X11_77 k_49.1 (hc := rfl) rfl (h1_49 hG) hl.1 rfl rfl (Nat.le_of_ble_eq_true rfl) dX11_stop_10 rfl rfl ⟨Nat.le_of_ble_eq_true rfl, Nat.le_of_ble_eq_true rfl⟩ ⟨Nat.le_refl _, Nat.le_refl _⟩) hS (fun x_52 iv_48 rv_49 H locs hG fa_50 fb_51 hp_47 hU hS => ?_)
    have hF1 := hF1.tr (m := ([51, 81, 82, 83], [(79, 4)])) fa_50 (by decide)
    have hF2 := hF2.tr (m := ([51, 81, 82, 83], [(79, 4)])) fb_51 (by decide)
    exact hret (⟨hG, hF1, hF2, trivial⟩) hU hS dX11_stop_13
set_option maxHeartbeats 4000000 in
set_option maxRecDepth 100000 in
theorem c_X11_claimOf {l : Launch} {D : va_G} {cA : FieldType → ClassId} {sz : Nat} {al : Al} {iv : Iv} {rv : Rv} (hG : GI al iv rv) (cl : Int32) (what : Int32) : Met l yX11_claimOf (wd yX11_claimOf cX11_claimOf 4 (some .int)) (rm 6) (PcW D cA sz al iv rv [.ref (al.2 49 0), .int cl, .int what]) (QI D cA sz al (fI al ([51, 59, 60, 61], []) iv rv (fun r iv' rv' => True))) 0 0 (Aq sz) := by
  refine mk_i (by decide) (Nat.le_of_ble_eq_true rfl) rfl ?_
  intro p e s m args below meth c ls Q H locs C hU hS hl hret
  have hx := C.1.1
  have hb := C.1.2.1
  have hl : lv_has ls 4 [(0, .ref (al.2 49 0)), (1, .int cl), (2, .int what)] := hl
  have hG0 := hG
  have hF1 : FR ([51, 59, 60, 61], []) iv iv := FR.rf
  have hF2 : FR ([51, 59, 60, 61], []) rv rv := FR.rf
  have km2 : ((-2) : Int32).toInt = -2 := by decide
  have km1 : ((-1) : Int32).toInt = -1 := by decide
  have k0 : (0 : Int32).toInt = 0 := by decide
  have k1 : (1 : Int32).toInt = 1 := by decide
  refine lv_aload_n hx hb dX11_claimOf_0 rfl (lv_at hl 0 rfl) ?_
  refine g_49_5 C hU hG (h1_49 hG) fl_X11_47 dX11_claimOf_1 ?_
  refine lv_iload_n hx hb dX11_claimOf_4 rfl (lv_at hl 1 rfl) ?_
  refine q_pr (q_runV (t := 84) (i := 0) (As := [.int cl]) (rest := []) C hU (c_X3_find hG cl ) vm_X3_find ml_X11_261 k_84.1 (hc := rfl) rfl (h1_84 hG) hl.1 rfl rfl (Nat.le_of_ble_eq_true rfl) dX11_claimOf_5 rfl rfl ⟨Nat.le_of_ble_eq_true rfl, Nat.le_of_ble_eq_true rfl⟩ ⟨Nat.le_refl _, Nat.le_refl _⟩) hS (fun r_2 H locs hp_1 hU hS => ?_)
  have hb_3 := hp_1.1
  refine b_astore_n (lv' := [(3, rfv al 88 r_2), (0, .ref (al.2 49 0)), (1, .int cl), (2, .int what)]) hx hb dX11_claimOf_8 rfl hl (by decide) rfl (fun ls hl => ?_)
  refine b_aload_n (al := al) (t' := 88) (r := r_2) hx hb dX11_claimOf_9 rfl (lv_at hl 0 rfl) ?_
  refine b_ifnonnull (tgt := 19) hx hb dX11_claimOf_10 (by decide) (fun j_5 ej_6 => ?_) (fun ej_6 => ?_)
  ·
    subst ej_6
    have hl : lv_has ls 4 [(3, .ref (al.2 88 j_5)), (0, .ref (al.2 49 0)), (1, .int cl), (2, .int what)] := hl
    have hb_7 : j_5 < al.1 88 := hb_3 j_5 rfl
    refine lv_iload_n hx hb dX11_claimOf_19 rfl (lv_at hl 3 rfl) ?_
    refine b_table hx hb dX11_claimOf_20 113 (by decide) [60, 68, 73, 87, 93, 98] (by decide) (fun j hj => ?_) (fun c_8 => ?_) (fun j tt htt c_8 => ?_)
    ·
      match j, hj with
      | 0, _ => exact ⟨40, 60, by decide, by decide, by decide⟩
      | 1, _ => exact ⟨48, 68, by decide, by decide, by decide⟩
      | 2, _ => exact ⟨53, 73, by decide, by decide, by decide⟩
      | 3, _ => exact ⟨67, 87, by decide, by decide, by decide⟩
      | 4, _ => exact ⟨73, 93, by decide, by decide, by decide⟩
      | 5, _ => exact ⟨78, 98, by decide, by decide, by decide⟩
      | q + 6, hq => exact absurd hq (by simp)
    ·
      refine lv_aload_n hx hb dX11_claimOf_113 rfl (lv_at hl 1 rfl) ?_
      refine lv_bipush (v := (-2)) hx hb dX11_claimOf_114 (by decide) ?_
      refine q_fi (q_runV (t := 49) (i := 0) (As := [.int (-2)]) (rest := []) C hU (c_X11_refuse hG (-2) (by omega)) vm_X11_refuse ml_X11_77 k_49.1 (hc := rfl) rfl (h1_49 hG) hl.1 rfl rfl (Nat.le_of_ble_eq_true rfl) dX11_claimOf_116 rfl rfl ⟨Nat.le_of_ble_eq_true rfl, Nat.le_of_ble_eq_true rfl⟩ ⟨Nat.le_refl _, Nat.le_refl _⟩) hS (fun x_14 iv_10 rv_11 H locs hG fa_12 fb_13 hp_9 hU hS => ?_)
      have hF1 := hF1.tr (m := ([51, 59, 60, 61], [])) fa_12 (by decide)
      have hF2 := hF2.tr (m := ([51, 59, 60, 61], [])) fb_13 (by decide)
      exact hret (⟨hG, hF1, hF2, trivial⟩) hU hS dX11_claimOf_119
    ·
      match j, htt with
      | 0, htt =>
        cases htt
        refine lv_aload_n hx hb dX11_claimOf_60 rfl (lv_at hl 0 rfl) ?_
        refine g_88_0 C hU hG hb_7 fl_X11_264 dX11_claimOf_61 (fun j_15 ej_16 hb_17 => ?_)
        refine g_65_0 C hU hG hb_17 fl_X11_270 dX11_claimOf_64 (fun x_18 e_19 le_19 ue_19 => ?_)
        have te_19 := congrArg Int32.toInt e_19
        exact hret (⟨hG, hF1, hF2, trivial⟩) hU hS dX11_claimOf_67
      | 1, htt =>
        cases htt
        refine lv_aload_n hx hb dX11_claimOf_68 rfl (lv_at hl 0 rfl) ?_
        refine g_88_1 C hU hG hb_7 fl_X11_271 dX11_claimOf_69 (fun x_20 e_21 le_21 ue_21 => ?_)
        have te_21 := congrArg Int32.toInt e_21
        exact hret (⟨hG, hF1, hF2, trivial⟩) hU hS dX11_claimOf_72
      | 2, htt =>
        cases htt
        refine lv_aload_n hx hb dX11_claimOf_73 rfl (lv_at hl 1 rfl) ?_
        refine lv_aload_n hx hb dX11_claimOf_74 rfl (lv_at hl 0 rfl) ?_
        refine q_pi (q_runV (t := 49) (i := 0) (As := [.ref (al.2 88 j_5)]) (rest := []) C hU (c_X11_isBarred hG (j_5) hb_7 ) vm_X11_isBarred ml_X11_274 k_49.1 (hc := rfl) rfl (h1_49 hG) hl.1 rfl rfl (Nat.le_of_ble_eq_true rfl) dX11_claimOf_75 rfl rfl ⟨Nat.le_of_ble_eq_true rfl, Nat.le_of_ble_eq_true rfl⟩ ⟨Nat.le_refl _, Nat.le_refl _⟩) hS (fun x_23 H locs hp_22 hU hS => ?_)
        refine b_if_eq (tgt := 85) hx hb dX11_claimOf_78 (by decide) (fun c_24 => ?_) (fun c_24 => ?_)
        ·
          refine lv_iconst (v := 0) hx hb dX11_claimOf_85 (by decide) ?_
          exact hret (⟨hG, hF1, hF2, trivial⟩) hU hS dX11_claimOf_86
        ·
          refine lv_iconst (v := 1) hx hb dX11_claimOf_81 (by decide) ?_
          refine lv_goto (tgt := 86) hx hb dX11_claimOf_82 (by decide) ?_
          exact hret (⟨hG, hF1, hF2, trivial⟩) hU hS dX11_claimOf_86
      | 3, htt =>
        cases htt
        refine lv_aload_n hx hb dX11_claimOf_87 rfl (lv_at hl 1 rfl) ?_
        refine lv_aload_n hx hb dX11_claimOf_88 rfl (lv_at hl 0 rfl) ?_
        refine q_fi (q_runV (t := 49) (i := 0) (As := [.ref (al.2 88 j_5)]) (rest := []) C hU (c_X11_worthOf hG (j_5) hb_7 ) vm_X11_worthOf ml_X11_278 k_49.1 (hc := rfl) rfl (h1_49 hG) hl.1 rfl rfl (Nat.le_of_ble_eq_true rfl) dX11_claimOf_89 rfl rfl ⟨Nat.le_of_ble_eq_true rfl, Nat.le_of_ble_eq_true rfl⟩ ⟨Nat.le_refl _, Nat.le_refl _⟩) hS (fun x_30 iv_26 rv_27 H locs hG fa_28 fb_29 hp_25 hU hS => ?_)
        have hF1 := hF1.tr (m := ([51, 59, 60, 61], [])) fa_28 (by decide)
        have hF2 := hF2.tr (m := ([51, 59, 60, 61], [])) fb_29 (by decide)
        exact hret (⟨hG, hF1, hF2, trivial⟩) hU hS dX11_claimOf_92
      | 4, htt =>
        cases htt
        refine lv_aload_n hx hb dX11_claimOf_93 rfl (lv_at hl 0 rfl) ?_
        refine g_88_3 C hU hG hb_7 fl_X11_282 dX11_claimOf_94 (fun x_31 e_32 => ?_)
        have te_32 := congrArg Int32.toInt e_32
        exact hret (⟨hG, hF1, hF2, trivial⟩) hU hS dX11_claimOf_97
      | 5, htt =>
        cases htt
        refine lv_iconst (v := 0) hx hb dX11_claimOf_98 (by decide) ?_
        refine lv_aload_n hx hb dX11_claimOf_99 rfl (lv_at hl 0 rfl) ?_
        refine g_88_3 C hU hG hb_7 fl_X11_282 dX11_claimOf_100 (fun x_33 e_34 => ?_)
        have te_34 := congrArg Int32.toInt e_34
        refine lv_aload_n hx hb dX11_claimOf_103 rfl (lv_at hl 1 rfl) ?_
        refine lv_aload_n hx hb dX11_claimOf_104 rfl (lv_at hl 0 rfl) ?_
        refine q_fi (q_runV (t := 49) (i := 0) (As := [.ref (al.2 88 j_5)]) (rest := [.int x_33, .int 0]) C hU (c_X11_worthOf hG (j_5) hb_7 ) vm_X11_worthOf ml_X11_278 k_49.1 (hc := rfl) rfl (h1_49 hG) hl.1 rfl rfl (Nat.le_of_ble_eq_true rfl) dX11_claimOf_105 rfl rfl ⟨Nat.le_of_ble_eq_true rfl, Nat.le_of_ble_eq_true rfl⟩ ⟨Nat.le_refl _, Nat.le_refl _⟩) hS (fun x_40 iv_36 rv_37 H locs hG fa_38 fb_39 hp_35 hU hS => ?_)
        have hF1 := hF1.tr (m := ([51, 59, 60, 61], [])) fa_38 (by decide)
        have hF2 := hF2.tr (m := ([51, 59, 60, 61], [])) fb_39 (by decide)
        refine lv_isub hx hb dX11_claimOf_108 ?_
        refine lv_topi (fun x_41 e_42 => ?_)
        refine q_max C hl.1 ml_X11_180 (Nat.le_of_ble_eq_true rfl) (Nat.le_of_ble_eq_true rfl) (Nat.le_refl _) (Nat.le_refl _) dX11_claimOf_109 (fun x_43 q_44 tq_44 => ?_)
        exact hret (⟨hG, hF1, hF2, trivial⟩) hU hS dX11_claimOf_112
      | q + 6, htt => simp at htt
  ·
    subst ej_6
    have hl : lv_has ls 4 [(3, rfv al 88 none), (0, .ref (al.2 49 0)), (1, .int cl), (2, .int what)] := hl
    refine lv_aload_n hx hb dX11_claimOf_13 rfl (lv_at hl 1 rfl) ?_
    refine lv_iconst (v := (-1)) hx hb dX11_claimOf_14 (by decide) ?_
    refine q_fi (q_runV (t := 49) (i := 0) (As := [.int (-1)]) (rest := []) C hU (c_X11_refuse hG (-1) (by omega)) vm_X11_refuse ml_X11_77 k_49.1 (hc := rfl) rfl (h1_49 hG) hl.1 rfl rfl (Nat.le_of_ble_eq_true rfl) dX11_claimOf_15 rfl rfl ⟨Nat.le_of_ble_eq_true rfl, Nat.le_of_ble_eq_true rfl⟩ ⟨Nat.le_refl _, Nat.le_refl _⟩) hS (fun x_50 iv_46 rv_47 H locs hG fa_48 fb_49 hp_45 hU hS => ?_)
    have hF1 := hF1.tr (m := ([51, 59, 60, 61], [])) fa_48 (by decide)
    have hF2 := hF2.tr (m := ([51, 59, 60, 61], [])) fb_49 (by decide)
    exact hret (⟨hG, hF1, hF2, trivial⟩) hU hS dX11_claimOf_18
set_option maxHeartbeats 4000000 in
set_option maxRecDepth 100000 in
theorem c_X11_owes {l : Launch} {D : va_G} {cA : FieldType → ClassId} {sz : Nat} {al : Al} {iv : Iv} {rv : Rv} (hG : GI al iv rv) (pp : Int32) (tt : Int32) (v : Int32) : Met l yX11_owes (wd yX11_owes cX11_owes 6 (some .int)) (rm 2) (PcW D cA sz al iv rv [.ref (al.2 49 0), .int pp, .int tt, .int v]) (QI D cA sz al (fI al ([51, 67], []) iv rv (fun r iv' rv' => True))) 0 0 (Aq sz) := by
  refine mk_i (by decide) (Nat.le_of_ble_eq_true rfl) rfl ?_
  intro p e s m args below meth c ls Q H locs C hU hS hl hret
  have hx := C.1.1
  have hb := C.1.2.1
  have hl : lv_has ls 6 [(0, .ref (al.2 49 0)), (1, .int pp), (2, .int tt), (3, .int v)] := hl
  have hG0 := hG
  have hF1 : FR ([51, 67], []) iv iv := FR.rf
  have hF2 : FR ([51, 67], []) rv rv := FR.rf
  have km6 : ((-6) : Int32).toInt = -6 := by decide
  have km4 : ((-4) : Int32).toInt = -4 := by decide
  have km1 : ((-1) : Int32).toInt = -1 := by decide
  have k5 : (5 : Int32).toInt = 5 := by decide
  have k9999 : (9999 : Int32).toInt = 9999 := by decide
  refine lv_aload_n hx hb dX11_owes_0 rfl (lv_at hl 0 rfl) ?_
  refine g_49_2 C hU hG (h1_49 hG) fl_X11_26 dX11_owes_1 ?_
  refine lv_iload_n hx hb dX11_owes_4 rfl (lv_at hl 2 rfl) ?_
  refine q_pr (q_runV (t := 63) (i := 0) (As := [.int tt]) (rest := []) C hU (c_X9_find hG tt ) vm_X9_find ml_X11_192 k_63.1 (hc := rfl) rfl (h1_63 hG) hl.1 rfl rfl (Nat.le_of_ble_eq_true rfl) dX11_owes_5 rfl rfl ⟨Nat.le_of_ble_eq_true rfl, Nat.le_of_ble_eq_true rfl⟩ ⟨Nat.le_refl _, Nat.le_refl _⟩) hS (fun r_2 H locs hp_1 hU hS => ?_)
  have hb_3 := hp_1.1
  refine b_astore (lv' := [(4, rfv al 65 r_2), (0, .ref (al.2 49 0)), (1, .int pp), (2, .int tt), (3, .int v)]) hx hb dX11_owes_8 hl (by decide) rfl (fun ls hl => ?_)
  refine lv_iconst (v := 5) hx hb dX11_owes_10 (by decide) ?_
  refine lv_iload_n hx hb dX11_owes_11 rfl (lv_at hl 2 rfl) ?_
  refine q_pi (q_runS (As := [.int 5, .int pp]) (rest := []) C hU (c_X11_isOneOf  5 pp ) sm_X11_isOneOf ml_X11_85 hl.1 rfl rfl (Nat.le_of_ble_eq_true rfl) dX11_owes_12 rfl rfl ⟨Nat.le_of_ble_eq_true rfl, Nat.le_of_ble_eq_true rfl⟩ ⟨Nat.le_refl _, Nat.le_refl _⟩) hS (fun x_5 H locs hp_4 hU hS => ?_)
  refine b_if_eq (tgt := 23) hx hb dX11_owes_15 (by decide) (fun c_6 => ?_) (fun c_6 => ?_)
  ·
    refine lv_aload_n hx hb dX11_owes_23 rfl (lv_at hl 1 rfl) ?_
    refine lv_iconst (v := (-1)) hx hb dX11_owes_24 (by decide) ?_
    refine q_fi (q_runV (t := 49) (i := 0) (As := [.int (-1)]) (rest := []) C hU (c_X11_refuse hG (-1) (by omega)) vm_X11_refuse ml_X11_77 k_49.1 (hc := rfl) rfl (h1_49 hG) hl.1 rfl rfl (Nat.le_of_ble_eq_true rfl) dX11_owes_25 rfl rfl ⟨Nat.le_of_ble_eq_true rfl, Nat.le_of_ble_eq_true rfl⟩ ⟨Nat.le_refl _, Nat.le_refl _⟩) hS (fun x_12 iv_8 rv_9 H locs hG fa_10 fb_11 hp_7 hU hS => ?_)
    have hF1 := hF1.tr (m := ([51, 67], [])) fa_10 (by decide)
    have hF2 := hF2.tr (m := ([51, 67], [])) fb_11 (by decide)
    exact hret (⟨hG, hF1, hF2, trivial⟩) hU hS dX11_owes_28
  ·
    refine b_aload (al := al) (t' := 65) (r := r_2) hx hb dX11_owes_18 (lv_at hl 0 rfl) ?_
    refine b_ifnonnull (tgt := 29) hx hb dX11_owes_20 (by decide) (fun j_14 ej_15 => ?_) (fun ej_15 => ?_)
    ·
      subst ej_15
      have hl : lv_has ls 6 [(4, .ref (al.2 65 j_14)), (0, .ref (al.2 49 0)), (1, .int pp), (2, .int tt), (3, .int v)] := hl
      have hb_16 : j_14 < al.1 65 := hb_3 j_14 rfl
      refine lv_iload_n hx hb dX11_owes_29 rfl (lv_at hl 4 rfl) ?_
      refine b_if_ge (tgt := 40) hx hb dX11_owes_30 (by decide) (fun c_17 => ?_) (fun c_17 => ?_)
      ·
        refine lv_iload_n hx hb dX11_owes_40 rfl (lv_at hl 4 rfl) ?_
        refine lv_sipush (v := 9999) hx hb dX11_owes_41 (by decide) ?_
        refine b_icmp_le (tgt := 54) hx hb dX11_owes_44 (by decide) (fun c_18 => ?_) (fun c_18 => ?_)
        ·
          refine lv_aload hx hb dX11_owes_54 (lv_at hl 0 rfl) ?_
          refine g_65_5 C hU hG hb_16 fl_X11_285 dX11_owes_56 (fun hb_19 => ?_)
          refine lv_iload_n hx hb dX11_owes_59 rfl (lv_at hl 2 rfl) ?_
          refine a_67 C hU hG hb_19 (x := pp) (by omega) (by omega) dX11_owes_60 (fun x_20 e_21 => ?_)
          have te_21 := congrArg Int32.toInt e_21
          refine lv_istore (lv' := [(5, .int x_20), (4, .ref (al.2 65 j_14)), (0, .ref (al.2 49 0)), (1, .int pp), (2, .int tt), (3, .int v)]) hx hb dX11_owes_61 hl (by decide) rfl (fun ls hl => ?_)
          refine lv_aload hx hb dX11_owes_63 (lv_at hl 1 rfl) ?_
          refine g_65_5 C hU hG hb_16 fl_X11_285 dX11_owes_65 (fun hb_22 => ?_)
          refine lv_iload_n hx hb dX11_owes_68 rfl (lv_at hl 3 rfl) ?_
          refine lv_iload_n hx hb dX11_owes_69 rfl (lv_at hl 5 rfl) ?_
          refine s_67 C hU hS hb_22 (x := pp) (by omega) (by omega) dX11_owes_70 (fun iv_23 H locs ei_24 hU hS => ?_)
          have hG : GI al iv_23 rv := by rw [ei_24]; exact hG.puti (show _ ∧ _ from ⟨(fb_rng _).1, Int.le_of_lt_add_one (fb_rng _).2⟩) (nsA (by decide) _)
          have hF1 : FR ([51, 67], []) iv iv_23 := by rw [ei_24]; exact hF1.put (Or.inl (by decide))
          refine lv_iload hx hb dX11_owes_71 (lv_at hl 0 rfl) ?_
          exact hret (⟨hG, hF1, hF2, trivial⟩) hU hS dX11_owes_73
        ·
          refine lv_aload_n hx hb dX11_owes_47 rfl (lv_at hl 1 rfl) ?_
          refine lv_bipush (v := (-6)) hx hb dX11_owes_48 (by decide) ?_
          refine q_fi (q_runV (t := 49) (i := 0) (As := [.int (-6)]) (rest := []) C hU (c_X11_refuse hG (-6) (by omega)) vm_X11_refuse ml_X11_77 k_49.1 (hc := rfl) rfl (h1_49 hG) hl.1 rfl rfl (Nat.le_of_ble_eq_true rfl) dX11_owes_50 rfl rfl ⟨Nat.le_of_ble_eq_true rfl, Nat.le_of_ble_eq_true rfl⟩ ⟨Nat.le_refl _, Nat.le_refl _⟩) hS (fun x_30 iv_26 rv_27 H locs hG fa_28 fb_29 hp_25 hU hS => ?_)
          have hF1 := hF1.tr (m := ([51, 67], [])) fa_28 (by decide)
          have hF2 := hF2.tr (m := ([51, 67], [])) fb_29 (by decide)
          exact hret (⟨hG, hF1, hF2, trivial⟩) hU hS dX11_owes_53
      ·
        refine lv_aload_n hx hb dX11_owes_33 rfl (lv_at hl 1 rfl) ?_
        refine lv_bipush (v := (-4)) hx hb dX11_owes_34 (by decide) ?_
        refine q_fi (q_runV (t := 49) (i := 0) (As := [.int (-4)]) (rest := []) C hU (c_X11_refuse hG (-4) (by omega)) vm_X11_refuse ml_X11_77 k_49.1 (hc := rfl) rfl (h1_49 hG) hl.1 rfl rfl (Nat.le_of_ble_eq_true rfl) dX11_owes_36 rfl rfl ⟨Nat.le_of_ble_eq_true rfl, Nat.le_of_ble_eq_true rfl⟩ ⟨Nat.le_refl _, Nat.le_refl _⟩) hS (fun x_36 iv_32 rv_33 H locs hG fa_34 fb_35 hp_31 hU hS => ?_)
        have hF1 := hF1.tr (m := ([51, 67], [])) fa_34 (by decide)
        have hF2 := hF2.tr (m := ([51, 67], [])) fb_35 (by decide)
        exact hret (⟨hG, hF1, hF2, trivial⟩) hU hS dX11_owes_39
    ·
      subst ej_15
      have hl : lv_has ls 6 [(4, rfv al 65 none), (0, .ref (al.2 49 0)), (1, .int pp), (2, .int tt), (3, .int v)] := hl
      refine lv_aload_n hx hb dX11_owes_23 rfl (lv_at hl 1 rfl) ?_
      refine lv_iconst (v := (-1)) hx hb dX11_owes_24 (by decide) ?_
      refine q_fi (q_runV (t := 49) (i := 0) (As := [.int (-1)]) (rest := []) C hU (c_X11_refuse hG (-1) (by omega)) vm_X11_refuse ml_X11_77 k_49.1 (hc := rfl) rfl (h1_49 hG) hl.1 rfl rfl (Nat.le_of_ble_eq_true rfl) dX11_owes_25 rfl rfl ⟨Nat.le_of_ble_eq_true rfl, Nat.le_of_ble_eq_true rfl⟩ ⟨Nat.le_refl _, Nat.le_refl _⟩) hS (fun x_42 iv_38 rv_39 H locs hG fa_40 fb_41 hp_37 hU hS => ?_)
      have hF1 := hF1.tr (m := ([51, 67], [])) fa_40 (by decide)
      have hF2 := hF2.tr (m := ([51, 67], [])) fb_41 (by decide)
      exact hret (⟨hG, hF1, hF2, trivial⟩) hU hS dX11_owes_28
set_option maxHeartbeats 4000000 in
set_option maxRecDepth 100000 in
theorem c_X11_pay {l : Launch} {D : va_G} {cA : FieldType → ClassId} {sz : Nat} {al : Al} {iv : Iv} {rv : Rv} (hG : GI al iv rv) (cl : Int32) (pp : Int32) (v : Int32) : Met l yX11_pay (wd yX11_pay cX11_pay 5 (some .int)) (rm 2) (PcW D cA sz al iv rv [.ref (al.2 49 0), .int cl, .int pp, .int v]) (QI D cA sz al (fI al ([51, 89], [(88, 3)]) iv rv (fun r iv' rv' => True))) 0 0 (Aq sz) := by
  refine mk_i (by decide) (Nat.le_of_ble_eq_true rfl) rfl ?_
  intro p e s m args below meth c ls Q H locs C hU hS hl hret
  have hx := C.1.1
  have hb := C.1.2.1
  have hl : lv_has ls 5 [(0, .ref (al.2 49 0)), (1, .int cl), (2, .int pp), (3, .int v)] := hl
  have hG0 := hG
  have hF1 : FR ([51, 89], [(88, 3)]) iv iv := FR.rf
  have hF2 : FR ([51, 89], [(88, 3)]) rv rv := FR.rf
  have km6 : ((-6) : Int32).toInt = -6 := by decide
  have km4 : ((-4) : Int32).toInt = -4 := by decide
  have km1 : ((-1) : Int32).toInt = -1 := by decide
  have k1 : (1 : Int32).toInt = 1 := by decide
  have k5 : (5 : Int32).toInt = 5 := by decide
  have k9999 : (9999 : Int32).toInt = 9999 := by decide
  have k99999 : (99999 : Int32).toInt = 99999 := by decide
  refine lv_aload_n hx hb dX11_pay_0 rfl (lv_at hl 0 rfl) ?_
  refine g_49_5 C hU hG (h1_49 hG) fl_X11_47 dX11_pay_1 ?_
  refine lv_iload_n hx hb dX11_pay_4 rfl (lv_at hl 1 rfl) ?_
  refine q_pr (q_runV (t := 84) (i := 0) (As := [.int cl]) (rest := []) C hU (c_X3_find hG cl ) vm_X3_find ml_X11_261 k_84.1 (hc := rfl) rfl (h1_84 hG) hl.1 rfl rfl (Nat.le_of_ble_eq_true rfl) dX11_pay_5 rfl rfl ⟨Nat.le_of_ble_eq_true rfl, Nat.le_of_ble_eq_true rfl⟩ ⟨Nat.le_refl _, Nat.le_refl _⟩) hS (fun r_2 H locs hp_1 hU hS => ?_)
  have hb_3 := hp_1.1
  refine b_astore (lv' := [(4, rfv al 88 r_2), (0, .ref (al.2 49 0)), (1, .int cl), (2, .int pp), (3, .int v)]) hx hb dX11_pay_8 hl (by decide) rfl (fun ls hl => ?_)
  refine b_aload (al := al) (t' := 88) (r := r_2) hx hb dX11_pay_10 (lv_at hl 0 rfl) ?_
  refine b_ifnull (tgt := 23) hx hb dX11_pay_12 (by decide) (fun ej_6 => ?_) (fun j_5 ej_6 => ?_)
  ·
    subst ej_6
    have hl : lv_has ls 5 [(4, rfv al 88 none), (0, .ref (al.2 49 0)), (1, .int cl), (2, .int pp), (3, .int v)] := hl
    refine lv_aload_n hx hb dX11_pay_23 rfl (lv_at hl 1 rfl) ?_
    refine lv_iconst (v := (-1)) hx hb dX11_pay_24 (by decide) ?_
    refine q_fi (q_runV (t := 49) (i := 0) (As := [.int (-1)]) (rest := []) C hU (c_X11_refuse hG (-1) (by omega)) vm_X11_refuse ml_X11_77 k_49.1 (hc := rfl) rfl (h1_49 hG) hl.1 rfl rfl (Nat.le_of_ble_eq_true rfl) dX11_pay_25 rfl rfl ⟨Nat.le_of_ble_eq_true rfl, Nat.le_of_ble_eq_true rfl⟩ ⟨Nat.le_refl _, Nat.le_refl _⟩) hS (fun x_12 iv_8 rv_9 H locs hG fa_10 fb_11 hp_7 hU hS => ?_)
    have hF1 := hF1.tr (m := ([51, 89], [(88, 3)])) fa_10 (by decide)
    have hF2 := hF2.tr (m := ([51, 89], [(88, 3)])) fb_11 (by decide)
    exact hret (⟨hG, hF1, hF2, trivial⟩) hU hS dX11_pay_28
  ·
    subst ej_6
    have hl : lv_has ls 5 [(4, .ref (al.2 88 j_5)), (0, .ref (al.2 49 0)), (1, .int cl), (2, .int pp), (3, .int v)] := hl
    have hb_13 : j_5 < al.1 88 := hb_3 j_5 rfl
    refine lv_iconst (v := 5) hx hb dX11_pay_15 (by decide) ?_
    refine lv_iload_n hx hb dX11_pay_16 rfl (lv_at hl 3 rfl) ?_
    refine q_pi (q_runS (As := [.int 5, .int pp]) (rest := []) C hU (c_X11_isOneOf  5 pp ) sm_X11_isOneOf ml_X11_85 hl.1 rfl rfl (Nat.le_of_ble_eq_true rfl) dX11_pay_17 rfl rfl ⟨Nat.le_of_ble_eq_true rfl, Nat.le_of_ble_eq_true rfl⟩ ⟨Nat.le_refl _, Nat.le_refl _⟩) hS (fun x_15 H locs hp_14 hU hS => ?_)
    refine b_if_ne (tgt := 29) hx hb dX11_pay_20 (by decide) (fun c_16 => ?_) (fun c_16 => ?_)
    ·
      refine lv_iload_n hx hb dX11_pay_29 rfl (lv_at hl 4 rfl) ?_
      refine lv_iconst (v := 1) hx hb dX11_pay_30 (by decide) ?_
      refine b_icmp_ge (tgt := 41) hx hb dX11_pay_31 (by decide) (fun c_17 => ?_) (fun c_17 => ?_)
      ·
        refine lv_iload_n hx hb dX11_pay_41 rfl (lv_at hl 4 rfl) ?_
        refine lv_sipush (v := 9999) hx hb dX11_pay_42 (by decide) ?_
        refine b_icmp_gt (tgt := 61) hx hb dX11_pay_45 (by decide) (fun c_18 => ?_) (fun c_18 => ?_)
        ·
          refine lv_aload_n hx hb dX11_pay_61 rfl (lv_at hl 1 rfl) ?_
          refine lv_bipush (v := (-6)) hx hb dX11_pay_62 (by decide) ?_
          refine q_fi (q_runV (t := 49) (i := 0) (As := [.int (-6)]) (rest := []) C hU (c_X11_refuse hG (-6) (by omega)) vm_X11_refuse ml_X11_77 k_49.1 (hc := rfl) rfl (h1_49 hG) hl.1 rfl rfl (Nat.le_of_ble_eq_true rfl) dX11_pay_64 rfl rfl ⟨Nat.le_of_ble_eq_true rfl, Nat.le_of_ble_eq_true rfl⟩ ⟨Nat.le_refl _, Nat.le_refl _⟩) hS (fun x_24 iv_20 rv_21 H locs hG fa_22 fb_23 hp_19 hU hS => ?_)
          have hF1 := hF1.tr (m := ([51, 89], [(88, 3)])) fa_22 (by decide)
          have hF2 := hF2.tr (m := ([51, 89], [(88, 3)])) fb_23 (by decide)
          exact hret (⟨hG, hF1, hF2, trivial⟩) hU hS dX11_pay_67
        ·
          refine lv_aload hx hb dX11_pay_48 (lv_at hl 0 rfl) ?_
          refine g_88_3 C hU hG hb_13 fl_X11_282 dX11_pay_50 (fun x_25 e_26 => ?_)
          have te_26 := congrArg Int32.toInt e_26
          refine lv_iload_n hx hb dX11_pay_53 rfl (lv_at hl 4 rfl) ?_
          refine lv_iadd hx hb dX11_pay_54 ?_
          refine lv_topi (fun x_27 e_28 => ?_)
          refine lv_ldcw (v := 99999) hx hb C.1.2.2.2.1 (C.1.2.2.2.2 _ ct_X11_288) dX11_pay_55 ?_
          refine b_icmp_le (tgt := 68) hx hb dX11_pay_58 (by decide) (fun c_29 => ?_) (fun c_29 => ?_)
          ·
            refine lv_aload hx hb dX11_pay_68 (lv_at hl 0 rfl) ?_
            refine g_88_2 C hU hG hb_13 fl_X11_289 dX11_pay_70 (fun hb_30 => ?_)
            refine lv_iload_n hx hb dX11_pay_73 rfl (lv_at hl 3 rfl) ?_
            refine lv_dup2_11 hx hb dX11_pay_74 rfl rfl ?_
            refine a_89 C hU hG hb_30 (x := pp) (by omega) (by omega) dX11_pay_75 (fun x_31 e_32 => ?_)
            have te_32 := congrArg Int32.toInt e_32
            refine lv_iload_n hx hb dX11_pay_76 rfl (lv_at hl 4 rfl) ?_
            refine lv_iadd hx hb dX11_pay_77 ?_
            refine lv_topi (fun x_33 e_34 => ?_)
            refine s_89 C hU hS hb_30 (x := pp) (by omega) (by omega) dX11_pay_78 (fun iv_35 H locs ei_36 hU hS => ?_)
            have hG : GI al iv_35 rv := by rw [ei_36]; exact hG.puti (show _ ∧ _ from ⟨(fb_rng _).1, Int.le_of_lt_add_one (fb_rng _).2⟩) (nsA (by decide) _)
            have hF1 : FR ([51, 89], [(88, 3)]) iv iv_35 := by rw [ei_36]; exact hF1.put (Or.inl (by decide))
            refine lv_aload hx hb dX11_pay_79 (lv_at hl 0 rfl) ?_
            refine lv_dup hx hb dX11_pay_81 rfl ?_
            refine g_88_3 C hU hG hb_13 fl_X11_282 dX11_pay_82 (fun x_37 e_38 => ?_)
            have te_38 := congrArg Int32.toInt e_38
            refine lv_iload_n hx hb dX11_pay_85 rfl (lv_at hl 4 rfl) ?_
            refine lv_iadd hx hb dX11_pay_86 ?_
            refine lv_topi (fun x_39 e_40 => ?_)
            refine p_88_3 C hU hS hb_13 fl_X11_282 dX11_pay_87 (fun iv_41 H locs ei_42 hU hS => ?_)
            have hG : GI al iv_41 rv := by rw [ei_42]; exact hG.puti (show _ ∧ _ from ⟨(fb_rng _).1, Int.le_of_lt_add_one (fb_rng _).2⟩) (nsF (by decide))
            have hF1 : FR ([51, 89], [(88, 3)]) iv iv_41 := by rw [ei_42]; exact hF1.put (by decide)
            refine lv_aload hx hb dX11_pay_90 (lv_at hl 0 rfl) ?_
            refine g_88_3 C hU hG hb_13 fl_X11_282 dX11_pay_92 (fun x_43 e_44 => ?_)
            have te_44 := congrArg Int32.toInt e_44
            exact hret (⟨hG, hF1, hF2, trivial⟩) hU hS dX11_pay_95
          ·
            refine lv_aload_n hx hb dX11_pay_61 rfl (lv_at hl 1 rfl) ?_
            refine lv_bipush (v := (-6)) hx hb dX11_pay_62 (by decide) ?_
            refine q_fi (q_runV (t := 49) (i := 0) (As := [.int (-6)]) (rest := []) C hU (c_X11_refuse hG (-6) (by omega)) vm_X11_refuse ml_X11_77 k_49.1 (hc := rfl) rfl (h1_49 hG) hl.1 rfl rfl (Nat.le_of_ble_eq_true rfl) dX11_pay_64 rfl rfl ⟨Nat.le_of_ble_eq_true rfl, Nat.le_of_ble_eq_true rfl⟩ ⟨Nat.le_refl _, Nat.le_refl _⟩) hS (fun x_50 iv_46 rv_47 H locs hG fa_48 fb_49 hp_45 hU hS => ?_)
            have hF1 := hF1.tr (m := ([51, 89], [(88, 3)])) fa_48 (by decide)
            have hF2 := hF2.tr (m := ([51, 89], [(88, 3)])) fb_49 (by decide)
            exact hret (⟨hG, hF1, hF2, trivial⟩) hU hS dX11_pay_67
      ·
        refine lv_aload_n hx hb dX11_pay_34 rfl (lv_at hl 1 rfl) ?_
        refine lv_bipush (v := (-4)) hx hb dX11_pay_35 (by decide) ?_
        refine q_fi (q_runV (t := 49) (i := 0) (As := [.int (-4)]) (rest := []) C hU (c_X11_refuse hG (-4) (by omega)) vm_X11_refuse ml_X11_77 k_49.1 (hc := rfl) rfl (h1_49 hG) hl.1 rfl rfl (Nat.le_of_ble_eq_true rfl) dX11_pay_37 rfl rfl ⟨Nat.le_of_ble_eq_true rfl, Nat.le_of_ble_eq_true rfl⟩ ⟨Nat.le_refl _, Nat.le_refl _⟩) hS (fun x_56 iv_52 rv_53 H locs hG fa_54 fb_55 hp_51 hU hS => ?_)
        have hF1 := hF1.tr (m := ([51, 89], [(88, 3)])) fa_54 (by decide)
        have hF2 := hF2.tr (m := ([51, 89], [(88, 3)])) fb_55 (by decide)
        exact hret (⟨hG, hF1, hF2, trivial⟩) hU hS dX11_pay_40
    ·
      refine lv_aload_n hx hb dX11_pay_23 rfl (lv_at hl 1 rfl) ?_
      refine lv_iconst (v := (-1)) hx hb dX11_pay_24 (by decide) ?_
      refine q_fi (q_runV (t := 49) (i := 0) (As := [.int (-1)]) (rest := []) C hU (c_X11_refuse hG (-1) (by omega)) vm_X11_refuse ml_X11_77 k_49.1 (hc := rfl) rfl (h1_49 hG) hl.1 rfl rfl (Nat.le_of_ble_eq_true rfl) dX11_pay_25 rfl rfl ⟨Nat.le_of_ble_eq_true rfl, Nat.le_of_ble_eq_true rfl⟩ ⟨Nat.le_refl _, Nat.le_refl _⟩) hS (fun x_62 iv_58 rv_59 H locs hG fa_60 fb_61 hp_57 hU hS => ?_)
      have hF1 := hF1.tr (m := ([51, 89], [(88, 3)])) fa_60 (by decide)
      have hF2 := hF2.tr (m := ([51, 89], [(88, 3)])) fb_61 (by decide)
      exact hret (⟨hG, hF1, hF2, trivial⟩) hU hS dX11_pay_28
set_option maxHeartbeats 4000000 in
set_option maxRecDepth 100000 in
theorem c_X11_due {l : Launch} {D : va_G} {cA : FieldType → ClassId} {sz : Nat} {al : Al} {iv : Iv} {rv : Rv} (hG : GI al iv rv) (cl : Int32) (pp : Int32) : Met l yX11_due (wd yX11_due cX11_due 4 (some .int)) (rm 6) (PcW D cA sz al iv rv [.ref (al.2 49 0), .int cl, .int pp]) (QI D cA sz al (fI al ([51, 59, 60, 61], []) iv rv (fun r iv' rv' => True))) 0 0 (Aq sz) := by
  refine mk_i (by decide) (Nat.le_of_ble_eq_true rfl) rfl ?_
  intro p e s m args below meth c ls Q H locs C hU hS hl hret
  have hx := C.1.1
  have hb := C.1.2.1
  have hl : lv_has ls 4 [(0, .ref (al.2 49 0)), (1, .int cl), (2, .int pp)] := hl
  have hG0 := hG
  have hF1 : FR ([51, 59, 60, 61], []) iv iv := FR.rf
  have hF2 : FR ([51, 59, 60, 61], []) rv rv := FR.rf
  have km1 : ((-1) : Int32).toInt = -1 := by decide
  have k5 : (5 : Int32).toInt = 5 := by decide
  refine lv_aload_n hx hb dX11_due_0 rfl (lv_at hl 0 rfl) ?_
  refine g_49_5 C hU hG (h1_49 hG) fl_X11_47 dX11_due_1 ?_
  refine lv_iload_n hx hb dX11_due_4 rfl (lv_at hl 1 rfl) ?_
  refine q_pr (q_runV (t := 84) (i := 0) (As := [.int cl]) (rest := []) C hU (c_X3_find hG cl ) vm_X3_find ml_X11_261 k_84.1 (hc := rfl) rfl (h1_84 hG) hl.1 rfl rfl (Nat.le_of_ble_eq_true rfl) dX11_due_5 rfl rfl ⟨Nat.le_of_ble_eq_true rfl, Nat.le_of_ble_eq_true rfl⟩ ⟨Nat.le_refl _, Nat.le_refl _⟩) hS (fun r_2 H locs hp_1 hU hS => ?_)
  have hb_3 := hp_1.1
  refine b_astore_n (lv' := [(3, rfv al 88 r_2), (0, .ref (al.2 49 0)), (1, .int cl), (2, .int pp)]) hx hb dX11_due_8 rfl hl (by decide) rfl (fun ls hl => ?_)
  refine b_aload_n (al := al) (t' := 88) (r := r_2) hx hb dX11_due_9 rfl (lv_at hl 0 rfl) ?_
  refine b_ifnull (tgt := 21) hx hb dX11_due_10 (by decide) (fun ej_6 => ?_) (fun j_5 ej_6 => ?_)
  ·
    subst ej_6
    have hl : lv_has ls 4 [(3, rfv al 88 none), (0, .ref (al.2 49 0)), (1, .int cl), (2, .int pp)] := hl
    refine lv_aload_n hx hb dX11_due_21 rfl (lv_at hl 1 rfl) ?_
    refine lv_iconst (v := (-1)) hx hb dX11_due_22 (by decide) ?_
    refine q_fi (q_runV (t := 49) (i := 0) (As := [.int (-1)]) (rest := []) C hU (c_X11_refuse hG (-1) (by omega)) vm_X11_refuse ml_X11_77 k_49.1 (hc := rfl) rfl (h1_49 hG) hl.1 rfl rfl (Nat.le_of_ble_eq_true rfl) dX11_due_23 rfl rfl ⟨Nat.le_of_ble_eq_true rfl, Nat.le_of_ble_eq_true rfl⟩ ⟨Nat.le_refl _, Nat.le_refl _⟩) hS (fun x_12 iv_8 rv_9 H locs hG fa_10 fb_11 hp_7 hU hS => ?_)
    have hF1 := hF1.tr (m := ([51, 59, 60, 61], [])) fa_10 (by decide)
    have hF2 := hF2.tr (m := ([51, 59, 60, 61], [])) fb_11 (by decide)
    exact hret (⟨hG, hF1, hF2, trivial⟩) hU hS dX11_due_26
  ·
    subst ej_6
    have hl : lv_has ls 4 [(3, .ref (al.2 88 j_5)), (0, .ref (al.2 49 0)), (1, .int cl), (2, .int pp)] := hl
    have hb_13 : j_5 < al.1 88 := hb_3 j_5 rfl
    refine lv_iconst (v := 5) hx hb dX11_due_13 (by decide) ?_
    refine lv_iload_n hx hb dX11_due_14 rfl (lv_at hl 3 rfl) ?_
    refine q_pi (q_runS (As := [.int 5, .int pp]) (rest := []) C hU (c_X11_isOneOf  5 pp ) sm_X11_isOneOf ml_X11_85 hl.1 rfl rfl (Nat.le_of_ble_eq_true rfl) dX11_due_15 rfl rfl ⟨Nat.le_of_ble_eq_true rfl, Nat.le_of_ble_eq_true rfl⟩ ⟨Nat.le_refl _, Nat.le_refl _⟩) hS (fun x_15 H locs hp_14 hU hS => ?_)
    refine b_if_ne (tgt := 27) hx hb dX11_due_18 (by decide) (fun c_16 => ?_) (fun c_16 => ?_)
    ·
      refine lv_aload_n hx hb dX11_due_27 rfl (lv_at hl 0 rfl) ?_
      refine lv_iload_n hx hb dX11_due_28 rfl (lv_at hl 3 rfl) ?_
      refine lv_aload_n hx hb dX11_due_29 rfl (lv_at hl 1 rfl) ?_
      refine lv_aload_n hx hb dX11_due_30 rfl (lv_at hl 0 rfl) ?_
      refine q_fi (q_runV (t := 49) (i := 0) (As := [.ref (al.2 88 j_5)]) (rest := [.int pp, .ref (al.2 88 j_5)]) C hU (c_X11_worthOf hG (j_5) hb_13 ) vm_X11_worthOf ml_X11_278 k_49.1 (hc := rfl) rfl (h1_49 hG) hl.1 rfl rfl (Nat.le_of_ble_eq_true rfl) dX11_due_31 rfl rfl ⟨Nat.le_of_ble_eq_true rfl, Nat.le_of_ble_eq_true rfl⟩ ⟨Nat.le_refl _, Nat.le_refl _⟩) hS (fun x_22 iv_18 rv_19 H locs hG fa_20 fb_21 hp_17 hU hS => ?_)
      have hF1 := hF1.tr (m := ([51, 59, 60, 61], [])) fa_20 (by decide)
      have hF2 := hF2.tr (m := ([51, 59, 60, 61], [])) fb_21 (by decide)
      refine q_pi (q_runV (t := 88) (i := j_5) (As := [.int pp, .int x_22]) (rest := []) C hU (c_X2_partOf hG (j_5) hb_13 pp x_22 ) vm_X2_partOf ml_X11_292 k_88.1 (hc := rfl) rfl hb_13 hl.1 rfl rfl (Nat.le_of_ble_eq_true rfl) dX11_due_34 rfl rfl ⟨Nat.le_of_ble_eq_true rfl, Nat.le_of_ble_eq_true rfl⟩ ⟨Nat.le_refl _, Nat.le_refl _⟩) hS (fun x_24 H locs hp_23 hU hS => ?_)
      exact hret (⟨hG, hF1, hF2, trivial⟩) hU hS dX11_due_37
    ·
      refine lv_aload_n hx hb dX11_due_21 rfl (lv_at hl 1 rfl) ?_
      refine lv_iconst (v := (-1)) hx hb dX11_due_22 (by decide) ?_
      refine q_fi (q_runV (t := 49) (i := 0) (As := [.int (-1)]) (rest := []) C hU (c_X11_refuse hG (-1) (by omega)) vm_X11_refuse ml_X11_77 k_49.1 (hc := rfl) rfl (h1_49 hG) hl.1 rfl rfl (Nat.le_of_ble_eq_true rfl) dX11_due_23 rfl rfl ⟨Nat.le_of_ble_eq_true rfl, Nat.le_of_ble_eq_true rfl⟩ ⟨Nat.le_refl _, Nat.le_refl _⟩) hS (fun x_30 iv_26 rv_27 H locs hG fa_28 fb_29 hp_25 hU hS => ?_)
      have hF1 := hF1.tr (m := ([51, 59, 60, 61], [])) fa_28 (by decide)
      have hF2 := hF2.tr (m := ([51, 59, 60, 61], [])) fb_29 (by decide)
      exact hret (⟨hG, hF1, hF2, trivial⟩) hU hS dX11_due_26
set_option maxHeartbeats 4000000 in
set_option maxRecDepth 100000 in
theorem c_X11_balance {l : Launch} {D : va_G} {cA : FieldType → ClassId} {sz : Nat} {al : Al} {iv : Iv} {rv : Rv} (hG : GI al iv rv) (pp : Int32) : Met l yX11_balance (wd yX11_balance cX11_balance 2 (some .int)) (rm 7) (PcW D cA sz al iv rv [.ref (al.2 49 0), .int pp]) (QI D cA sz al (fI al ([51, 59, 60, 61, 86], []) iv rv (fun r iv' rv' => True))) 0 0 (Aq sz) := by
  refine mk_i (by decide) (Nat.le_of_ble_eq_true rfl) rfl ?_
  intro p e s m args below meth c ls Q H locs C hU hS hl hret
  have hx := C.1.1
  have hb := C.1.2.1
  have hl : lv_has ls 2 [(0, .ref (al.2 49 0)), (1, .int pp)] := hl
  have hG0 := hG
  have hF1 : FR ([51, 59, 60, 61, 86], []) iv iv := FR.rf
  have hF2 : FR ([51, 59, 60, 61, 86], []) rv rv := FR.rf
  have km1 : ((-1) : Int32).toInt = -1 := by decide
  have k5 : (5 : Int32).toInt = 5 := by decide
  refine lv_iconst (v := 5) hx hb dX11_balance_0 (by decide) ?_
  refine lv_iload_n hx hb dX11_balance_1 rfl (lv_at hl 1 rfl) ?_
  refine q_pi (q_runS (As := [.int 5, .int pp]) (rest := []) C hU (c_X11_isOneOf  5 pp ) sm_X11_isOneOf ml_X11_85 hl.1 rfl rfl (Nat.le_of_ble_eq_true rfl) dX11_balance_2 rfl rfl ⟨Nat.le_of_ble_eq_true rfl, Nat.le_of_ble_eq_true rfl⟩ ⟨Nat.le_refl _, Nat.le_refl _⟩) hS (fun x_2 H locs hp_1 hU hS => ?_)
  refine b_if_ne (tgt := 14) hx hb dX11_balance_5 (by decide) (fun c_3 => ?_) (fun c_3 => ?_)
  ·
    refine lv_aload_n hx hb dX11_balance_14 rfl (lv_at hl 0 rfl) ?_
    refine q_fv (q_runV (t := 49) (i := 0) (As := []) (rest := []) C hU (c_X11_settleUp hG  ) vm_X11_settleUp ml_X11_295 k_49.1 (hc := rfl) rfl (h1_49 hG) hl.1 rfl rfl (Nat.le_of_ble_eq_true rfl) dX11_balance_15 rfl rfl ⟨Nat.le_of_ble_eq_true rfl, Nat.le_of_ble_eq_true rfl⟩ ⟨Nat.le_refl _, Nat.le_refl _⟩) hS (fun iv_5 rv_6 H locs hG fa_7 fb_8 hp_4 hU hS => ?_)
    have hF1 := hF1.tr (m := ([51, 59, 60, 61, 86], [])) fa_7 (by decide)
    have hF2 := hF2.tr (m := ([51, 59, 60, 61, 86], [])) fb_8 (by decide)
    refine lv_aload_n hx hb dX11_balance_18 rfl (lv_at hl 0 rfl) ?_
    refine g_49_5 C hU hG (h1_49 hG) fl_X11_47 dX11_balance_19 ?_
    refine g_84_2 C hU hG (h1_84 hG) fl_X11_298 dX11_balance_22 ?_
    refine lv_iload_n hx hb dX11_balance_25 rfl (lv_at hl 1 rfl) ?_
    refine a_86 C hU hG (h1_86 hG) (x := pp) (by omega) (by omega) dX11_balance_26 (fun x_9 e_10 => ?_)
    have te_10 := congrArg Int32.toInt e_10
    exact hret (⟨hG, hF1, hF2, trivial⟩) hU hS dX11_balance_27
  ·
    refine lv_aload_n hx hb dX11_balance_8 rfl (lv_at hl 0 rfl) ?_
    refine lv_iconst (v := (-1)) hx hb dX11_balance_9 (by decide) ?_
    refine q_fi (q_runV (t := 49) (i := 0) (As := [.int (-1)]) (rest := []) C hU (c_X11_refuseBeyond hG (-1) (by omega)) vm_X11_refuseBeyond ml_X11_109 k_49.1 (hc := rfl) rfl (h1_49 hG) hl.1 rfl rfl (Nat.le_of_ble_eq_true rfl) dX11_balance_10 rfl rfl ⟨Nat.le_of_ble_eq_true rfl, Nat.le_of_ble_eq_true rfl⟩ ⟨Nat.le_refl _, Nat.le_refl _⟩) hS (fun x_16 iv_12 rv_13 H locs hG fa_14 fb_15 hp_11 hU hS => ?_)
    have hF1 := hF1.tr (m := ([51, 59, 60, 61, 86], [])) fa_14 (by decide)
    have hF2 := hF2.tr (m := ([51, 59, 60, 61, 86], [])) fb_15 (by decide)
    exact hret (⟨hG, hF1, hF2, trivial⟩) hU hS dX11_balance_13
set_option maxHeartbeats 4000000 in
set_option maxRecDepth 100000 in
theorem c_X11_back {l : Launch} {D : va_G} {cA : FieldType → ClassId} {sz : Nat} {al : Al} {iv : Iv} {rv : Rv} (hG : GI al iv rv) : Met l yX11_back (wd yX11_back cX11_back 1 (some .int)) (rm 7) (PcW D cA sz al iv rv [.ref (al.2 49 0)]) (QI D cA sz al (fI al ([59, 60, 61, 86, 87], []) iv rv (fun r iv' rv' => True))) 0 0 (Aq sz) := by
  refine mk_i (by decide) (Nat.le_of_ble_eq_true rfl) rfl ?_
  intro p e s m args below meth c ls Q H locs C hU hS hl hret
  have hx := C.1.1
  have hb := C.1.2.1
  have hl : lv_has ls 1 [(0, .ref (al.2 49 0))] := hl
  have hG0 := hG
  have hF1 : FR ([59, 60, 61, 86, 87], []) iv iv := FR.rf
  have hF2 : FR ([59, 60, 61, 86, 87], []) rv rv := FR.rf
  refine lv_aload_n hx hb dX11_back_0 rfl (lv_at hl 0 rfl) ?_
  refine q_fv (q_runV (t := 49) (i := 0) (As := []) (rest := []) C hU (c_X11_settleUp hG  ) vm_X11_settleUp ml_X11_295 k_49.1 (hc := rfl) rfl (h1_49 hG) hl.1 rfl rfl (Nat.le_of_ble_eq_true rfl) dX11_back_1 rfl rfl ⟨Nat.le_of_ble_eq_true rfl, Nat.le_of_ble_eq_true rfl⟩ ⟨Nat.le_refl _, Nat.le_refl _⟩) hS (fun iv_2 rv_3 H locs hG fa_4 fb_5 hp_1 hU hS => ?_)
  have hF1 := hF1.tr (m := ([59, 60, 61, 86, 87], [])) fa_4 (by decide)
  have hF2 := hF2.tr (m := ([59, 60, 61, 86, 87], [])) fb_5 (by decide)
  refine lv_aload_n hx hb dX11_back_4 rfl (lv_at hl 0 rfl) ?_
  refine g_49_5 C hU hG (h1_49 hG) fl_X11_47 dX11_back_5 ?_
  refine q_fi (q_runV (t := 84) (i := 0) (As := []) (rest := []) C hU (c_X3_fewestPayments hG  ) vm_X3_fewestPayments ml_X11_301 k_84.1 (hc := rfl) rfl (h1_84 hG) hl.1 rfl rfl (Nat.le_of_ble_eq_true rfl) dX11_back_8 rfl rfl ⟨Nat.le_of_ble_eq_true rfl, Nat.le_of_ble_eq_true rfl⟩ ⟨Nat.le_refl _, Nat.le_refl _⟩) hS (fun x_11 iv_7 rv_8 H locs hG fa_9 fb_10 hp_6 hU hS => ?_)
  have hF1 := hF1.tr (m := ([59, 60, 61, 86, 87], [])) fa_9 (by decide)
  have hF2 := hF2.tr (m := ([59, 60, 61, 86, 87], [])) fb_10 (by decide)
  exact hret (⟨hG, hF1, hF2, trivial⟩) hU hS dX11_back_11
set_option maxHeartbeats 4000000 in
set_option maxRecDepth 100000 in
theorem c_X11_judged {l : Launch} {D : va_G} {cA : FieldType → ClassId} {sz : Nat} {al : Al} {iv : Iv} {rv : Rv} (hG : GI al iv rv) (lw : Int32) (cs : Int32) (mm : Int32) (far : Int32) (won : Int32) (cost : Int32) (pre0 : 0 ≤ won.toInt ∧ won.toInt ≤ 1) : Met l yX11_judged (wd yX11_judged cX11_judged 7 (some .int)) (rm 2) (PcW D cA sz al iv rv [.ref (al.2 49 0), .int lw, .int cs, .int mm, .int far, .int won, .int cost]) (QI D cA sz al (fI al ([51, 91, 92, 93, 94, 95, 96], [(90, 6)]) iv rv (fun r iv' rv' => True))) 0 0 (Aq sz) := by
  refine mk_i (by decide) (Nat.le_of_ble_eq_true rfl) rfl ?_
  intro p e s m args below meth c ls Q H locs C hU hS hl hret
  have hx := C.1.1
  have hb := C.1.2.1
  have hl : lv_has ls 7 [(0, .ref (al.2 49 0)), (1, .int lw), (2, .int cs), (3, .int mm), (4, .int far), (5, .int won), (6, .int cost)] := hl
  have hG0 := hG
  have hF1 : FR ([51, 91, 92, 93, 94, 95, 96], [(90, 6)]) iv iv := FR.rf
  have hF2 : FR ([51, 91, 92, 93, 94, 95, 96], [(90, 6)]) rv rv := FR.rf
  have km6 : ((-6) : Int32).toInt = -6 := by decide
  have km4 : ((-4) : Int32).toInt = -4 := by decide
  have km1 : ((-1) : Int32).toInt = -1 := by decide
  have k4 : (4 : Int32).toInt = 4 := by decide
  have k6 : (6 : Int32).toInt = 6 := by decide
  have k9999 : (9999 : Int32).toInt = 9999 := by decide
  refine lv_iconst (v := 4) hx hb dX11_judged_0 (by decide) ?_
  refine lv_iload_n hx hb dX11_judged_1 rfl (lv_at hl 1 rfl) ?_
  refine q_pi (q_runS (As := [.int 4, .int lw]) (rest := []) C hU (c_X11_isOneOf  4 lw ) sm_X11_isOneOf ml_X11_85 hl.1 rfl rfl (Nat.le_of_ble_eq_true rfl) dX11_judged_2 rfl rfl ⟨Nat.le_of_ble_eq_true rfl, Nat.le_of_ble_eq_true rfl⟩ ⟨Nat.le_refl _, Nat.le_refl _⟩) hS (fun x_2 H locs hp_1 hU hS => ?_)
  refine b_if_eq (tgt := 17) hx hb dX11_judged_5 (by decide) (fun c_3 => ?_) (fun c_3 => ?_)
  ·
    refine lv_aload_n hx hb dX11_judged_17 rfl (lv_at hl 0 rfl) ?_
    refine lv_iconst (v := (-1)) hx hb dX11_judged_18 (by decide) ?_
    refine q_fi (q_runV (t := 49) (i := 0) (As := [.int (-1)]) (rest := []) C hU (c_X11_refuse hG (-1) (by omega)) vm_X11_refuse ml_X11_77 k_49.1 (hc := rfl) rfl (h1_49 hG) hl.1 rfl rfl (Nat.le_of_ble_eq_true rfl) dX11_judged_19 rfl rfl ⟨Nat.le_of_ble_eq_true rfl, Nat.le_of_ble_eq_true rfl⟩ ⟨Nat.le_refl _, Nat.le_refl _⟩) hS (fun x_9 iv_5 rv_6 H locs hG fa_7 fb_8 hp_4 hU hS => ?_)
    have hF1 := hF1.tr (m := ([51, 91, 92, 93, 94, 95, 96], [(90, 6)])) fa_7 (by decide)
    have hF2 := hF2.tr (m := ([51, 91, 92, 93, 94, 95, 96], [(90, 6)])) fb_8 (by decide)
    exact hret (⟨hG, hF1, hF2, trivial⟩) hU hS dX11_judged_22
  ·
    refine lv_bipush (v := 6) hx hb dX11_judged_8 (by decide) ?_
    refine lv_iload_n hx hb dX11_judged_10 rfl (lv_at hl 2 rfl) ?_
    refine q_pi (q_runS (As := [.int 6, .int cs]) (rest := []) C hU (c_X11_isOneOf  6 cs ) sm_X11_isOneOf ml_X11_85 hl.1 rfl rfl (Nat.le_of_ble_eq_true rfl) dX11_judged_11 rfl rfl ⟨Nat.le_of_ble_eq_true rfl, Nat.le_of_ble_eq_true rfl⟩ ⟨Nat.le_refl _, Nat.le_refl _⟩) hS (fun x_11 H locs hp_10 hU hS => ?_)
    refine b_if_ne (tgt := 23) hx hb dX11_judged_14 (by decide) (fun c_12 => ?_) (fun c_12 => ?_)
    ·
      refine lv_iload_n hx hb dX11_judged_23 rfl (lv_at hl 3 rfl) ?_
      refine b_if_lt (tgt := 37) hx hb dX11_judged_24 (by decide) (fun c_13 => ?_) (fun c_13 => ?_)
      ·
        refine lv_aload_n hx hb dX11_judged_37 rfl (lv_at hl 0 rfl) ?_
        refine lv_bipush (v := (-4)) hx hb dX11_judged_38 (by decide) ?_
        refine q_fi (q_runV (t := 49) (i := 0) (As := [.int (-4)]) (rest := []) C hU (c_X11_refuse hG (-4) (by omega)) vm_X11_refuse ml_X11_77 k_49.1 (hc := rfl) rfl (h1_49 hG) hl.1 rfl rfl (Nat.le_of_ble_eq_true rfl) dX11_judged_40 rfl rfl ⟨Nat.le_of_ble_eq_true rfl, Nat.le_of_ble_eq_true rfl⟩ ⟨Nat.le_refl _, Nat.le_refl _⟩) hS (fun x_19 iv_15 rv_16 H locs hG fa_17 fb_18 hp_14 hU hS => ?_)
        have hF1 := hF1.tr (m := ([51, 91, 92, 93, 94, 95, 96], [(90, 6)])) fa_17 (by decide)
        have hF2 := hF2.tr (m := ([51, 91, 92, 93, 94, 95, 96], [(90, 6)])) fb_18 (by decide)
        exact hret (⟨hG, hF1, hF2, trivial⟩) hU hS dX11_judged_43
      ·
        refine lv_iload hx hb dX11_judged_27 (lv_at hl 4 rfl) ?_
        refine b_if_lt (tgt := 37) hx hb dX11_judged_29 (by decide) (fun c_20 => ?_) (fun c_20 => ?_)
        ·
          refine lv_aload_n hx hb dX11_judged_37 rfl (lv_at hl 0 rfl) ?_
          refine lv_bipush (v := (-4)) hx hb dX11_judged_38 (by decide) ?_
          refine q_fi (q_runV (t := 49) (i := 0) (As := [.int (-4)]) (rest := []) C hU (c_X11_refuse hG (-4) (by omega)) vm_X11_refuse ml_X11_77 k_49.1 (hc := rfl) rfl (h1_49 hG) hl.1 rfl rfl (Nat.le_of_ble_eq_true rfl) dX11_judged_40 rfl rfl ⟨Nat.le_of_ble_eq_true rfl, Nat.le_of_ble_eq_true rfl⟩ ⟨Nat.le_refl _, Nat.le_refl _⟩) hS (fun x_26 iv_22 rv_23 H locs hG fa_24 fb_25 hp_21 hU hS => ?_)
          have hF1 := hF1.tr (m := ([51, 91, 92, 93, 94, 95, 96], [(90, 6)])) fa_24 (by decide)
          have hF2 := hF2.tr (m := ([51, 91, 92, 93, 94, 95, 96], [(90, 6)])) fb_25 (by decide)
          exact hret (⟨hG, hF1, hF2, trivial⟩) hU hS dX11_judged_43
        ·
          refine lv_iload hx hb dX11_judged_32 (lv_at hl 6 rfl) ?_
          refine b_if_ge (tgt := 44) hx hb dX11_judged_34 (by decide) (fun c_27 => ?_) (fun c_27 => ?_)
          ·
            refine lv_iload_n hx hb dX11_judged_44 rfl (lv_at hl 3 rfl) ?_
            refine lv_sipush (v := 9999) hx hb dX11_judged_45 (by decide) ?_
            refine b_icmp_gt (tgt := 77) hx hb dX11_judged_48 (by decide) (fun c_28 => ?_) (fun c_28 => ?_)
            ·
              refine lv_aload_n hx hb dX11_judged_77 rfl (lv_at hl 0 rfl) ?_
              refine lv_bipush (v := (-6)) hx hb dX11_judged_78 (by decide) ?_
              refine q_fi (q_runV (t := 49) (i := 0) (As := [.int (-6)]) (rest := []) C hU (c_X11_refuse hG (-6) (by omega)) vm_X11_refuse ml_X11_77 k_49.1 (hc := rfl) rfl (h1_49 hG) hl.1 rfl rfl (Nat.le_of_ble_eq_true rfl) dX11_judged_80 rfl rfl ⟨Nat.le_of_ble_eq_true rfl, Nat.le_of_ble_eq_true rfl⟩ ⟨Nat.le_refl _, Nat.le_refl _⟩) hS (fun x_34 iv_30 rv_31 H locs hG fa_32 fb_33 hp_29 hU hS => ?_)
              have hF1 := hF1.tr (m := ([51, 91, 92, 93, 94, 95, 96], [(90, 6)])) fa_32 (by decide)
              have hF2 := hF2.tr (m := ([51, 91, 92, 93, 94, 95, 96], [(90, 6)])) fb_33 (by decide)
              exact hret (⟨hG, hF1, hF2, trivial⟩) hU hS dX11_judged_83
            ·
              refine lv_iload hx hb dX11_judged_51 (lv_at hl 4 rfl) ?_
              refine lv_sipush (v := 9999) hx hb dX11_judged_53 (by decide) ?_
              refine b_icmp_gt (tgt := 77) hx hb dX11_judged_56 (by decide) (fun c_35 => ?_) (fun c_35 => ?_)
              ·
                refine lv_aload_n hx hb dX11_judged_77 rfl (lv_at hl 0 rfl) ?_
                refine lv_bipush (v := (-6)) hx hb dX11_judged_78 (by decide) ?_
                refine q_fi (q_runV (t := 49) (i := 0) (As := [.int (-6)]) (rest := []) C hU (c_X11_refuse hG (-6) (by omega)) vm_X11_refuse ml_X11_77 k_49.1 (hc := rfl) rfl (h1_49 hG) hl.1 rfl rfl (Nat.le_of_ble_eq_true rfl) dX11_judged_80 rfl rfl ⟨Nat.le_of_ble_eq_true rfl, Nat.le_of_ble_eq_true rfl⟩ ⟨Nat.le_refl _, Nat.le_refl _⟩) hS (fun x_41 iv_37 rv_38 H locs hG fa_39 fb_40 hp_36 hU hS => ?_)
                have hF1 := hF1.tr (m := ([51, 91, 92, 93, 94, 95, 96], [(90, 6)])) fa_39 (by decide)
                have hF2 := hF2.tr (m := ([51, 91, 92, 93, 94, 95, 96], [(90, 6)])) fb_40 (by decide)
                exact hret (⟨hG, hF1, hF2, trivial⟩) hU hS dX11_judged_83
              ·
                refine lv_iload hx hb dX11_judged_59 (lv_at hl 6 rfl) ?_
                refine lv_sipush (v := 9999) hx hb dX11_judged_61 (by decide) ?_
                refine b_icmp_gt (tgt := 77) hx hb dX11_judged_64 (by decide) (fun c_42 => ?_) (fun c_42 => ?_)
                ·
                  refine lv_aload_n hx hb dX11_judged_77 rfl (lv_at hl 0 rfl) ?_
                  refine lv_bipush (v := (-6)) hx hb dX11_judged_78 (by decide) ?_
                  refine q_fi (q_runV (t := 49) (i := 0) (As := [.int (-6)]) (rest := []) C hU (c_X11_refuse hG (-6) (by omega)) vm_X11_refuse ml_X11_77 k_49.1 (hc := rfl) rfl (h1_49 hG) hl.1 rfl rfl (Nat.le_of_ble_eq_true rfl) dX11_judged_80 rfl rfl ⟨Nat.le_of_ble_eq_true rfl, Nat.le_of_ble_eq_true rfl⟩ ⟨Nat.le_refl _, Nat.le_refl _⟩) hS (fun x_48 iv_44 rv_45 H locs hG fa_46 fb_47 hp_43 hU hS => ?_)
                  have hF1 := hF1.tr (m := ([51, 91, 92, 93, 94, 95, 96], [(90, 6)])) fa_46 (by decide)
                  have hF2 := hF2.tr (m := ([51, 91, 92, 93, 94, 95, 96], [(90, 6)])) fb_47 (by decide)
                  exact hret (⟨hG, hF1, hF2, trivial⟩) hU hS dX11_judged_83
                ·
                  refine lv_aload_n hx hb dX11_judged_67 rfl (lv_at hl 0 rfl) ?_
                  refine g_49_6 C hU hG (h1_49 hG) fl_X11_54 dX11_judged_68 ?_
                  refine q_pi (q_runV (t := 90) (i := 0) (As := []) (rest := []) C hU (c_X1_isFull hG  ) vm_X1_isFull ml_X11_304 k_90.1 (hc := rfl) rfl (h1_90 hG) hl.1 rfl rfl (Nat.le_of_ble_eq_true rfl) dX11_judged_71 rfl rfl ⟨Nat.le_of_ble_eq_true rfl, Nat.le_of_ble_eq_true rfl⟩ ⟨Nat.le_refl _, Nat.le_refl _⟩) hS (fun x_50 H locs hp_49 hU hS => ?_)
                  refine b_if_eq (tgt := 84) hx hb dX11_judged_74 (by decide) (fun c_51 => ?_) (fun c_51 => ?_)
                  ·
                    refine lv_aload_n hx hb dX11_judged_84 rfl (lv_at hl 0 rfl) ?_
                    refine g_49_6 C hU hG (h1_49 hG) fl_X11_54 dX11_judged_85 ?_
                    refine lv_iload_n hx hb dX11_judged_88 rfl (lv_at hl 1 rfl) ?_
                    refine lv_iload_n hx hb dX11_judged_89 rfl (lv_at hl 2 rfl) ?_
                    refine lv_iload_n hx hb dX11_judged_90 rfl (lv_at hl 3 rfl) ?_
                    refine lv_iload hx hb dX11_judged_91 (lv_at hl 4 rfl) ?_
                    refine lv_iload hx hb dX11_judged_93 (lv_at hl 5 rfl) ?_
                    refine lv_iload hx hb dX11_judged_95 (lv_at hl 6 rfl) ?_
                    refine q_fi (q_runV (t := 90) (i := 0) (As := [.int lw, .int cs, .int mm, .int far, .int won, .int cost]) (rest := []) C hU (c_X1_add hG lw cs mm far won cost (by omega) (by omega) (by omega) (by omega) (by omega) (by omega) (by omega)) vm_X1_add ml_X11_305 k_90.1 (hc := rfl) rfl (h1_90 hG) hl.1 rfl rfl (Nat.le_of_ble_eq_true rfl) dX11_judged_97 rfl rfl ⟨Nat.le_of_ble_eq_true rfl, Nat.le_of_ble_eq_true rfl⟩ ⟨Nat.le_refl _, Nat.le_refl _⟩) hS (fun x_57 iv_53 rv_54 H locs hG fa_55 fb_56 hp_52 hU hS => ?_)
                    have hF1 := hF1.tr (m := ([51, 91, 92, 93, 94, 95, 96], [(90, 6)])) fa_55 (by decide)
                    have hF2 := hF2.tr (m := ([51, 91, 92, 93, 94, 95, 96], [(90, 6)])) fb_56 (by decide)
                    exact hret (⟨hG, hF1, hF2, trivial⟩) hU hS dX11_judged_100
                  ·
                    refine lv_aload_n hx hb dX11_judged_77 rfl (lv_at hl 0 rfl) ?_
                    refine lv_bipush (v := (-6)) hx hb dX11_judged_78 (by decide) ?_
                    refine q_fi (q_runV (t := 49) (i := 0) (As := [.int (-6)]) (rest := []) C hU (c_X11_refuse hG (-6) (by omega)) vm_X11_refuse ml_X11_77 k_49.1 (hc := rfl) rfl (h1_49 hG) hl.1 rfl rfl (Nat.le_of_ble_eq_true rfl) dX11_judged_80 rfl rfl ⟨Nat.le_of_ble_eq_true rfl, Nat.le_of_ble_eq_true rfl⟩ ⟨Nat.le_refl _, Nat.le_refl _⟩) hS (fun x_63 iv_59 rv_60 H locs hG fa_61 fb_62 hp_58 hU hS => ?_)
                    have hF1 := hF1.tr (m := ([51, 91, 92, 93, 94, 95, 96], [(90, 6)])) fa_61 (by decide)
                    have hF2 := hF2.tr (m := ([51, 91, 92, 93, 94, 95, 96], [(90, 6)])) fb_62 (by decide)
                    exact hret (⟨hG, hF1, hF2, trivial⟩) hU hS dX11_judged_83
          ·
            refine lv_aload_n hx hb dX11_judged_37 rfl (lv_at hl 0 rfl) ?_
            refine lv_bipush (v := (-4)) hx hb dX11_judged_38 (by decide) ?_
            refine q_fi (q_runV (t := 49) (i := 0) (As := [.int (-4)]) (rest := []) C hU (c_X11_refuse hG (-4) (by omega)) vm_X11_refuse ml_X11_77 k_49.1 (hc := rfl) rfl (h1_49 hG) hl.1 rfl rfl (Nat.le_of_ble_eq_true rfl) dX11_judged_40 rfl rfl ⟨Nat.le_of_ble_eq_true rfl, Nat.le_of_ble_eq_true rfl⟩ ⟨Nat.le_refl _, Nat.le_refl _⟩) hS (fun x_69 iv_65 rv_66 H locs hG fa_67 fb_68 hp_64 hU hS => ?_)
            have hF1 := hF1.tr (m := ([51, 91, 92, 93, 94, 95, 96], [(90, 6)])) fa_67 (by decide)
            have hF2 := hF2.tr (m := ([51, 91, 92, 93, 94, 95, 96], [(90, 6)])) fb_68 (by decide)
            exact hret (⟨hG, hF1, hF2, trivial⟩) hU hS dX11_judged_43
    ·
      refine lv_aload_n hx hb dX11_judged_17 rfl (lv_at hl 0 rfl) ?_
      refine lv_iconst (v := (-1)) hx hb dX11_judged_18 (by decide) ?_
      refine q_fi (q_runV (t := 49) (i := 0) (As := [.int (-1)]) (rest := []) C hU (c_X11_refuse hG (-1) (by omega)) vm_X11_refuse ml_X11_77 k_49.1 (hc := rfl) rfl (h1_49 hG) hl.1 rfl rfl (Nat.le_of_ble_eq_true rfl) dX11_judged_19 rfl rfl ⟨Nat.le_of_ble_eq_true rfl, Nat.le_of_ble_eq_true rfl⟩ ⟨Nat.le_refl _, Nat.le_refl _⟩) hS (fun x_75 iv_71 rv_72 H locs hG fa_73 fb_74 hp_70 hU hS => ?_)
      have hF1 := hF1.tr (m := ([51, 91, 92, 93, 94, 95, 96], [(90, 6)])) fa_73 (by decide)
      have hF2 := hF2.tr (m := ([51, 91, 92, 93, 94, 95, 96], [(90, 6)])) fb_74 (by decide)
      exact hret (⟨hG, hF1, hF2, trivial⟩) hU hS dX11_judged_22
set_option maxHeartbeats 4000000 in
set_option maxRecDepth 100000 in
theorem c_X11_odds {l : Launch} {D : va_G} {cA : FieldType → ClassId} {sz : Nat} {al : Al} {iv : Iv} {rv : Rv} (hG : GI al iv rv) (cl : Int32) (what : Int32) : Met l yX11_odds (wd yX11_odds cX11_odds 4 (some .int)) (rm 6) (PcW D cA sz al iv rv [.ref (al.2 49 0), .int cl, .int what]) (QI D cA sz al (fI al ([51, 59, 60, 61, 97], [(90, 8), (90, 9), (90, 10)]) iv rv (fun r iv' rv' => True))) 0 0 (Aq sz) := by
  refine mk_i (by decide) (Nat.le_of_ble_eq_true rfl) rfl ?_
  intro p e s m args below meth c ls Q H locs C hU hS hl hret
  have hx := C.1.1
  have hb := C.1.2.1
  have hl : lv_has ls 4 [(0, .ref (al.2 49 0)), (1, .int cl), (2, .int what)] := hl
  have hG0 := hG
  have hF1 : FR ([51, 59, 60, 61, 97], [(90, 8), (90, 9), (90, 10)]) iv iv := FR.rf
  have hF2 : FR ([51, 59, 60, 61, 97], [(90, 8), (90, 9), (90, 10)]) rv rv := FR.rf
  have km2 : ((-2) : Int32).toInt = -2 := by decide
  have km1 : ((-1) : Int32).toInt = -1 := by decide
  have k1 : (1 : Int32).toInt = 1 := by decide
  have k3 : (3 : Int32).toInt = 3 := by decide
  refine lv_aload_n hx hb dX11_odds_0 rfl (lv_at hl 0 rfl) ?_
  refine g_49_5 C hU hG (h1_49 hG) fl_X11_47 dX11_odds_1 ?_
  refine lv_iload_n hx hb dX11_odds_4 rfl (lv_at hl 1 rfl) ?_
  refine q_pr (q_runV (t := 84) (i := 0) (As := [.int cl]) (rest := []) C hU (c_X3_find hG cl ) vm_X3_find ml_X11_261 k_84.1 (hc := rfl) rfl (h1_84 hG) hl.1 rfl rfl (Nat.le_of_ble_eq_true rfl) dX11_odds_5 rfl rfl ⟨Nat.le_of_ble_eq_true rfl, Nat.le_of_ble_eq_true rfl⟩ ⟨Nat.le_refl _, Nat.le_refl _⟩) hS (fun r_2 H locs hp_1 hU hS => ?_)
  have hb_3 := hp_1.1
  refine b_astore_n (lv' := [(3, rfv al 88 r_2), (0, .ref (al.2 49 0)), (1, .int cl), (2, .int what)]) hx hb dX11_odds_8 rfl hl (by decide) rfl (fun ls hl => ?_)
  refine b_aload_n (al := al) (t' := 88) (r := r_2) hx hb dX11_odds_9 rfl (lv_at hl 0 rfl) ?_
  refine b_ifnonnull (tgt := 19) hx hb dX11_odds_10 (by decide) (fun j_5 ej_6 => ?_) (fun ej_6 => ?_)
  ·
    subst ej_6
    have hl : lv_has ls 4 [(3, .ref (al.2 88 j_5)), (0, .ref (al.2 49 0)), (1, .int cl), (2, .int what)] := hl
    have hb_7 : j_5 < al.1 88 := hb_3 j_5 rfl
    refine lv_iconst (v := 3) hx hb dX11_odds_19 (by decide) ?_
    refine lv_iload_n hx hb dX11_odds_20 rfl (lv_at hl 3 rfl) ?_
    refine q_pi (q_runS (As := [.int 3, .int what]) (rest := []) C hU (c_X11_isOneOf  3 what ) sm_X11_isOneOf ml_X11_85 hl.1 rfl rfl (Nat.le_of_ble_eq_true rfl) dX11_odds_21 rfl rfl ⟨Nat.le_of_ble_eq_true rfl, Nat.le_of_ble_eq_true rfl⟩ ⟨Nat.le_refl _, Nat.le_refl _⟩) hS (fun x_9 H locs hp_8 hU hS => ?_)
    refine b_if_ne (tgt := 34) hx hb dX11_odds_24 (by decide) (fun c_10 => ?_) (fun c_10 => ?_)
    ·
      refine lv_aload_n hx hb dX11_odds_34 rfl (lv_at hl 1 rfl) ?_
      refine lv_aload_n hx hb dX11_odds_35 rfl (lv_at hl 0 rfl) ?_
      refine q_fv (q_runV (t := 49) (i := 0) (As := [.ref (al.2 88 j_5)]) (rest := []) C hU (c_X11_chooseLike hG (j_5) hb_7 ) vm_X11_chooseLike ml_X11_308 k_49.1 (hc := rfl) rfl (h1_49 hG) hl.1 rfl rfl (Nat.le_of_ble_eq_true rfl) dX11_odds_36 rfl rfl ⟨Nat.le_of_ble_eq_true rfl, Nat.le_of_ble_eq_true rfl⟩ ⟨Nat.le_refl _, Nat.le_refl _⟩) hS (fun iv_12 rv_13 H locs hG fa_14 fb_15 hp_11 hU hS => ?_)
      have hF1 := hF1.tr (m := ([51, 59, 60, 61, 97], [(90, 8), (90, 9), (90, 10)])) fa_14 (by decide)
      have hF2 := hF2.tr (m := ([51, 59, 60, 61, 97], [(90, 8), (90, 9), (90, 10)])) fb_15 (by decide)
      refine lv_iload_n hx hb dX11_odds_39 rfl (lv_at hl 3 rfl) ?_
      refine b_if_ne (tgt := 51) hx hb dX11_odds_40 (by decide) (fun c_16 => ?_) (fun c_16 => ?_)
      ·
        refine lv_iload_n hx hb dX11_odds_51 rfl (lv_at hl 3 rfl) ?_
        refine lv_iconst (v := 1) hx hb dX11_odds_52 (by decide) ?_
        refine b_icmp_ne (tgt := 64) hx hb dX11_odds_53 (by decide) (fun c_17 => ?_) (fun c_17 => ?_)
        ·
          refine lv_aload_n hx hb dX11_odds_64 rfl (lv_at hl 1 rfl) ?_
          refine g_49_6 C hU hG (h1_49 hG) fl_X11_54 dX11_odds_65 ?_
          refine lv_aload_n hx hb dX11_odds_68 rfl (lv_at hl 1 rfl) ?_
          refine lv_aload_n hx hb dX11_odds_69 rfl (lv_at hl 0 rfl) ?_
          refine q_fi (q_runV (t := 49) (i := 0) (As := [.ref (al.2 88 j_5)]) (rest := [.ref (al.2 90 0)]) C hU (c_X11_worthOf hG (j_5) hb_7 ) vm_X11_worthOf ml_X11_278 k_49.1 (hc := rfl) rfl (h1_49 hG) hl.1 rfl rfl (Nat.le_of_ble_eq_true rfl) dX11_odds_70 rfl rfl ⟨Nat.le_of_ble_eq_true rfl, Nat.le_of_ble_eq_true rfl⟩ ⟨Nat.le_refl _, Nat.le_refl _⟩) hS (fun x_23 iv_19 rv_20 H locs hG fa_21 fb_22 hp_18 hU hS => ?_)
          have hF1 := hF1.tr (m := ([51, 59, 60, 61, 97], [(90, 8), (90, 9), (90, 10)])) fa_21 (by decide)
          have hF2 := hF2.tr (m := ([51, 59, 60, 61, 97], [(90, 8), (90, 9), (90, 10)])) fb_22 (by decide)
          refine q_pi (q_runV (t := 90) (i := 0) (As := [.int x_23]) (rest := []) C hU (c_X1_goingOnTimesChosen hG x_23 ) vm_X1_goingOnTimesChosen ml_X11_318 k_90.1 (hc := rfl) rfl (h1_90 hG) hl.1 rfl rfl (Nat.le_of_ble_eq_true rfl) dX11_odds_73 rfl rfl ⟨Nat.le_of_ble_eq_true rfl, Nat.le_of_ble_eq_true rfl⟩ ⟨Nat.le_refl _, Nat.le_refl _⟩) hS (fun x_25 H locs hp_24 hU hS => ?_)
          exact hret (⟨hG, hF1, hF2, trivial⟩) hU hS dX11_odds_76
        ·
          refine lv_aload_n hx hb dX11_odds_56 rfl (lv_at hl 1 rfl) ?_
          refine g_49_6 C hU hG (h1_49 hG) fl_X11_54 dX11_odds_57 ?_
          refine g_90_8 C hU hG (h1_90 hG) fl_X11_315 dX11_odds_60 (fun x_26 e_27 => ?_)
          have te_27 := congrArg Int32.toInt e_27
          exact hret (⟨hG, hF1, hF2, trivial⟩) hU hS dX11_odds_63
      ·
        refine lv_aload_n hx hb dX11_odds_43 rfl (lv_at hl 1 rfl) ?_
        refine g_49_6 C hU hG (h1_49 hG) fl_X11_54 dX11_odds_44 ?_
        refine g_90_9 C hU hG (h1_90 hG) fl_X11_312 dX11_odds_47 (fun x_28 e_29 => ?_)
        have te_29 := congrArg Int32.toInt e_29
        exact hret (⟨hG, hF1, hF2, trivial⟩) hU hS dX11_odds_50
    ·
      refine lv_aload_n hx hb dX11_odds_27 rfl (lv_at hl 1 rfl) ?_
      refine lv_bipush (v := (-2)) hx hb dX11_odds_28 (by decide) ?_
      refine q_fi (q_runV (t := 49) (i := 0) (As := [.int (-2)]) (rest := []) C hU (c_X11_refuseBeyond hG (-2) (by omega)) vm_X11_refuseBeyond ml_X11_109 k_49.1 (hc := rfl) rfl (h1_49 hG) hl.1 rfl rfl (Nat.le_of_ble_eq_true rfl) dX11_odds_30 rfl rfl ⟨Nat.le_of_ble_eq_true rfl, Nat.le_of_ble_eq_true rfl⟩ ⟨Nat.le_refl _, Nat.le_refl _⟩) hS (fun x_35 iv_31 rv_32 H locs hG fa_33 fb_34 hp_30 hU hS => ?_)
      have hF1 := hF1.tr (m := ([51, 59, 60, 61, 97], [(90, 8), (90, 9), (90, 10)])) fa_33 (by decide)
      have hF2 := hF2.tr (m := ([51, 59, 60, 61, 97], [(90, 8), (90, 9), (90, 10)])) fb_34 (by decide)
      exact hret (⟨hG, hF1, hF2, trivial⟩) hU hS dX11_odds_33
  ·
    subst ej_6
    have hl : lv_has ls 4 [(3, rfv al 88 none), (0, .ref (al.2 49 0)), (1, .int cl), (2, .int what)] := hl
    refine lv_aload_n hx hb dX11_odds_13 rfl (lv_at hl 1 rfl) ?_
    refine lv_iconst (v := (-1)) hx hb dX11_odds_14 (by decide) ?_
    refine q_fi (q_runV (t := 49) (i := 0) (As := [.int (-1)]) (rest := []) C hU (c_X11_refuseBeyond hG (-1) (by omega)) vm_X11_refuseBeyond ml_X11_109 k_49.1 (hc := rfl) rfl (h1_49 hG) hl.1 rfl rfl (Nat.le_of_ble_eq_true rfl) dX11_odds_15 rfl rfl ⟨Nat.le_of_ble_eq_true rfl, Nat.le_of_ble_eq_true rfl⟩ ⟨Nat.le_refl _, Nat.le_refl _⟩) hS (fun x_41 iv_37 rv_38 H locs hG fa_39 fb_40 hp_36 hU hS => ?_)
    have hF1 := hF1.tr (m := ([51, 59, 60, 61, 97], [(90, 8), (90, 9), (90, 10)])) fa_39 (by decide)
    have hF2 := hF2.tr (m := ([51, 59, 60, 61, 97], [(90, 8), (90, 9), (90, 10)])) fb_40 (by decide)
    exact hret (⟨hG, hF1, hF2, trivial⟩) hU hS dX11_odds_18
set_option maxHeartbeats 4000000 in
set_option maxRecDepth 100000 in
theorem c_X11_good {l : Launch} {D : va_G} {cA : FieldType → ClassId} {sz : Nat} {al : Al} {iv : Iv} {rv : Rv} (hG : GI al iv rv) (cl : Int32) (v : Int32) : Met l yX11_good (wd yX11_good cX11_good 6 (some .int)) (rm 6) (PcW D cA sz al iv rv [.ref (al.2 49 0), .int cl, .int v]) (QI D cA sz al (fI al ([51, 59, 60, 61, 97], [(90, 8), (90, 9), (90, 10)]) iv rv (fun r iv' rv' => True))) 0 0 (Aq sz) := by
  refine mk_i (by decide) (Nat.le_of_ble_eq_true rfl) rfl ?_
  intro p e s m args below meth c ls Q H locs C hU hS hl hret
  have hx := C.1.1
  have hb := C.1.2.1
  have hl : lv_has ls 6 [(0, .ref (al.2 49 0)), (1, .int cl), (2, .int v)] := hl
  have hG0 := hG
  have hF1 : FR ([51, 59, 60, 61, 97], [(90, 8), (90, 9), (90, 10)]) iv iv := FR.rf
  have hF2 : FR ([51, 59, 60, 61, 97], [(90, 8), (90, 9), (90, 10)]) rv rv := FR.rf
  have km6 : ((-6) : Int32).toInt = -6 := by decide
  have km4 : ((-4) : Int32).toInt = -4 := by decide
  have km1 : ((-1) : Int32).toInt = -1 := by decide
  have k0 : (0 : Int32).toInt = 0 := by decide
  have k1 : (1 : Int32).toInt = 1 := by decide
  have k2 : (2 : Int32).toInt = 2 := by decide
  have k9999 : (9999 : Int32).toInt = 9999 := by decide
  refine lv_aload_n hx hb dX11_good_0 rfl (lv_at hl 0 rfl) ?_
  refine g_49_5 C hU hG (h1_49 hG) fl_X11_47 dX11_good_1 ?_
  refine lv_iload_n hx hb dX11_good_4 rfl (lv_at hl 1 rfl) ?_
  refine q_pr (q_runV (t := 84) (i := 0) (As := [.int cl]) (rest := []) C hU (c_X3_find hG cl ) vm_X3_find ml_X11_261 k_84.1 (hc := rfl) rfl (h1_84 hG) hl.1 rfl rfl (Nat.le_of_ble_eq_true rfl) dX11_good_5 rfl rfl ⟨Nat.le_of_ble_eq_true rfl, Nat.le_of_ble_eq_true rfl⟩ ⟨Nat.le_refl _, Nat.le_refl _⟩) hS (fun r_2 H locs hp_1 hU hS => ?_)
  have hb_3 := hp_1.1
  refine b_astore_n (lv' := [(3, rfv al 88 r_2), (0, .ref (al.2 49 0)), (1, .int cl), (2, .int v)]) hx hb dX11_good_8 rfl hl (by decide) rfl (fun ls hl => ?_)
  refine b_aload_n (al := al) (t' := 88) (r := r_2) hx hb dX11_good_9 rfl (lv_at hl 0 rfl) ?_
  refine b_ifnonnull (tgt := 19) hx hb dX11_good_10 (by decide) (fun j_5 ej_6 => ?_) (fun ej_6 => ?_)
  ·
    subst ej_6
    have hl : lv_has ls 6 [(3, .ref (al.2 88 j_5)), (0, .ref (al.2 49 0)), (1, .int cl), (2, .int v)] := hl
    have hb_7 : j_5 < al.1 88 := hb_3 j_5 rfl
    refine lv_iload_n hx hb dX11_good_19 rfl (lv_at hl 3 rfl) ?_
    refine b_if_ge (tgt := 30) hx hb dX11_good_20 (by decide) (fun c_8 => ?_) (fun c_8 => ?_)
    ·
      refine lv_iload_n hx hb dX11_good_30 rfl (lv_at hl 3 rfl) ?_
      refine lv_sipush (v := 9999) hx hb dX11_good_31 (by decide) ?_
      refine b_icmp_le (tgt := 44) hx hb dX11_good_34 (by decide) (fun c_9 => ?_) (fun c_9 => ?_)
      ·
        refine lv_aload_n hx hb dX11_good_44 rfl (lv_at hl 1 rfl) ?_
        refine lv_aload_n hx hb dX11_good_45 rfl (lv_at hl 0 rfl) ?_
        refine q_fv (q_runV (t := 49) (i := 0) (As := [.ref (al.2 88 j_5)]) (rest := []) C hU (c_X11_chooseLike hG (j_5) hb_7 ) vm_X11_chooseLike ml_X11_308 k_49.1 (hc := rfl) rfl (h1_49 hG) hl.1 rfl rfl (Nat.le_of_ble_eq_true rfl) dX11_good_46 rfl rfl ⟨Nat.le_of_ble_eq_true rfl, Nat.le_of_ble_eq_true rfl⟩ ⟨Nat.le_refl _, Nat.le_refl _⟩) hS (fun iv_11 rv_12 H locs hG fa_13 fb_14 hp_10 hU hS => ?_)
        have hF1 := hF1.tr (m := ([51, 59, 60, 61, 97], [(90, 8), (90, 9), (90, 10)])) fa_13 (by decide)
        have hF2 := hF2.tr (m := ([51, 59, 60, 61, 97], [(90, 8), (90, 9), (90, 10)])) fb_14 (by decide)
        refine lv_aload_n hx hb dX11_good_49 rfl (lv_at hl 1 rfl) ?_
        refine lv_aload_n hx hb dX11_good_50 rfl (lv_at hl 0 rfl) ?_
        refine q_fi (q_runV (t := 49) (i := 0) (As := [.ref (al.2 88 j_5)]) (rest := []) C hU (c_X11_worthOf hG (j_5) hb_7 ) vm_X11_worthOf ml_X11_278 k_49.1 (hc := rfl) rfl (h1_49 hG) hl.1 rfl rfl (Nat.le_of_ble_eq_true rfl) dX11_good_51 rfl rfl ⟨Nat.le_of_ble_eq_true rfl, Nat.le_of_ble_eq_true rfl⟩ ⟨Nat.le_refl _, Nat.le_refl _⟩) hS (fun x_20 iv_16 rv_17 H locs hG fa_18 fb_19 hp_15 hU hS => ?_)
        have hF1 := hF1.tr (m := ([51, 59, 60, 61, 97], [(90, 8), (90, 9), (90, 10)])) fa_18 (by decide)
        have hF2 := hF2.tr (m := ([51, 59, 60, 61, 97], [(90, 8), (90, 9), (90, 10)])) fb_19 (by decide)
        refine lv_istore (lv' := [(4, .int x_20), (3, .ref (al.2 88 j_5)), (0, .ref (al.2 49 0)), (1, .int cl), (2, .int v)]) hx hb dX11_good_54 hl (by decide) rfl (fun ls hl => ?_)
        refine lv_aload_n hx hb dX11_good_56 rfl (lv_at hl 2 rfl) ?_
        refine g_49_6 C hU hG (h1_49 hG) fl_X11_54 dX11_good_57 ?_
        refine g_90_8 C hU hG (h1_90 hG) fl_X11_315 dX11_good_60 (fun x_21 e_22 => ?_)
        have te_22 := congrArg Int32.toInt e_22
        refine b_if_ne (tgt := 82) hx hb dX11_good_63 (by decide) (fun c_23 => ?_) (fun c_23 => ?_)
        ·
          refine lv_iload_n hx hb dX11_good_82 rfl (lv_at hl 4 rfl) ?_
          refine lv_aload_n hx hb dX11_good_83 rfl (lv_at hl 2 rfl) ?_
          refine g_49_6 C hU hG (h1_49 hG) fl_X11_54 dX11_good_84 ?_
          refine g_90_8 C hU hG (h1_90 hG) fl_X11_315 dX11_good_87 (fun x_24 e_25 => ?_)
          have te_25 := congrArg Int32.toInt e_25
          refine lv_imul hx hb dX11_good_90 ?_
          refine lv_topi (fun x_26 e_27 => ?_)
          refine lv_aload_n hx hb dX11_good_91 rfl (lv_at hl 2 rfl) ?_
          refine g_49_6 C hU hG (h1_49 hG) fl_X11_54 dX11_good_92 ?_
          refine lv_iload hx hb dX11_good_95 (lv_at hl 0 rfl) ?_
          refine q_pi (q_runV (t := 90) (i := 0) (As := [.int x_20]) (rest := [.int x_26]) C hU (c_X1_goingOnTimesChosen hG x_20 ) vm_X1_goingOnTimesChosen ml_X11_318 k_90.1 (hc := rfl) rfl (h1_90 hG) hl.1 rfl rfl (Nat.le_of_ble_eq_true rfl) dX11_good_97 rfl rfl ⟨Nat.le_of_ble_eq_true rfl, Nat.le_of_ble_eq_true rfl⟩ ⟨Nat.le_refl _, Nat.le_refl _⟩) hS (fun x_29 H locs hp_28 hU hS => ?_)
          refine b_icmp_lt (tgt := 107) hx hb dX11_good_100 (by decide) (fun c_30 => ?_) (fun c_30 => ?_)
          ·
            refine lv_iconst (v := 0) hx hb dX11_good_107 (by decide) ?_
            refine lv_istore (lv' := [(5, .int 0), (4, .int x_20), (3, .ref (al.2 88 j_5)), (0, .ref (al.2 49 0)), (1, .int cl), (2, .int v)]) hx hb dX11_good_108 hl (by decide) rfl (fun ls hl => ?_)
            refine lv_iload hx hb dX11_good_110 (lv_at hl 0 rfl) ?_
            refine b_if_eq (tgt := 119) hx hb dX11_good_112 (by decide) (fun c_31 => ?_) (fun c_31 => ?_)
            ·
              refine lv_iconst (v := 0) hx hb dX11_good_119 (by decide) ?_
              exact hret (⟨hG, hF1, hF2, trivial⟩) hU hS dX11_good_120
            ·
              refine lv_iconst (v := 1) hx hb dX11_good_115 (by decide) ?_
              refine lv_goto (tgt := 120) hx hb dX11_good_116 (by decide) ?_
              exact hret (⟨hG, hF1, hF2, trivial⟩) hU hS dX11_good_120
          ·
            refine lv_iconst (v := 1) hx hb dX11_good_103 (by decide) ?_
            refine lv_goto (tgt := 108) hx hb dX11_good_104 (by decide) ?_
            refine lv_istore (lv' := [(5, .int 1), (4, .int x_20), (3, .ref (al.2 88 j_5)), (0, .ref (al.2 49 0)), (1, .int cl), (2, .int v)]) hx hb dX11_good_108 hl (by decide) rfl (fun ls hl => ?_)
            refine lv_iload hx hb dX11_good_110 (lv_at hl 0 rfl) ?_
            refine b_if_eq (tgt := 119) hx hb dX11_good_112 (by decide) (fun c_32 => ?_) (fun c_32 => ?_)
            ·
              refine lv_iconst (v := 0) hx hb dX11_good_119 (by decide) ?_
              exact hret (⟨hG, hF1, hF2, trivial⟩) hU hS dX11_good_120
            ·
              refine lv_iconst (v := 1) hx hb dX11_good_115 (by decide) ?_
              refine lv_goto (tgt := 120) hx hb dX11_good_116 (by decide) ?_
              exact hret (⟨hG, hF1, hF2, trivial⟩) hU hS dX11_good_120
        ·
          refine lv_iload_n hx hb dX11_good_66 rfl (lv_at hl 4 rfl) ?_
          refine lv_iconst (v := 2) hx hb dX11_good_67 (by decide) ?_
          refine lv_imul hx hb dX11_good_68 ?_
          refine lv_topi (fun x_33 e_34 => ?_)
          have te_34 : x_33.toInt = 2 * (v : Int32).toInt := by rw [e_34, fb_mulI (by rw [show (2 : Int32).toInt = 2 from by decide]; omega) (by rw [show (2 : Int32).toInt = 2 from by decide]; omega), show (2 : Int32).toInt = 2 from by decide]; omega
          refine lv_iload hx hb dX11_good_69 (lv_at hl 0 rfl) ?_
          refine b_icmp_lt (tgt := 78) hx hb dX11_good_71 (by decide) (fun c_35 => ?_) (fun c_35 => ?_)
          ·
            refine lv_iconst (v := 0) hx hb dX11_good_78 (by decide) ?_
            refine lv_goto (tgt := 108) hx hb dX11_good_79 (by decide) ?_
            refine lv_istore (lv' := [(5, .int 0), (4, .int x_20), (3, .ref (al.2 88 j_5)), (0, .ref (al.2 49 0)), (1, .int cl), (2, .int v)]) hx hb dX11_good_108 hl (by decide) rfl (fun ls hl => ?_)
            refine lv_iload hx hb dX11_good_110 (lv_at hl 0 rfl) ?_
            refine b_if_eq (tgt := 119) hx hb dX11_good_112 (by decide) (fun c_36 => ?_) (fun c_36 => ?_)
            ·
              refine lv_iconst (v := 0) hx hb dX11_good_119 (by decide) ?_
              exact hret (⟨hG, hF1, hF2, trivial⟩) hU hS dX11_good_120
            ·
              refine lv_iconst (v := 1) hx hb dX11_good_115 (by decide) ?_
              refine lv_goto (tgt := 120) hx hb dX11_good_116 (by decide) ?_
              exact hret (⟨hG, hF1, hF2, trivial⟩) hU hS dX11_good_120
          ·
            refine lv_iconst (v := 1) hx hb dX11_good_74 (by decide) ?_
            refine lv_goto (tgt := 108) hx hb dX11_good_75 (by decide) ?_
            refine lv_istore (lv' := [(5, .int 1), (4, .int x_20), (3, .ref (al.2 88 j_5)), (0, .ref (al.2 49 0)), (1, .int cl), (2, .int v)]) hx hb dX11_good_108 hl (by decide) rfl (fun ls hl => ?_)
            refine lv_iload hx hb dX11_good_110 (lv_at hl 0 rfl) ?_
            refine b_if_eq (tgt := 119) hx hb dX11_good_112 (by decide) (fun c_37 => ?_) (fun c_37 => ?_)
            ·
              refine lv_iconst (v := 0) hx hb dX11_good_119 (by decide) ?_
              exact hret (⟨hG, hF1, hF2, trivial⟩) hU hS dX11_good_120
            ·
              refine lv_iconst (v := 1) hx hb dX11_good_115 (by decide) ?_
              refine lv_goto (tgt := 120) hx hb dX11_good_116 (by decide) ?_
              exact hret (⟨hG, hF1, hF2, trivial⟩) hU hS dX11_good_120
      ·
        refine lv_aload_n hx hb dX11_good_37 rfl (lv_at hl 1 rfl) ?_
        refine lv_bipush (v := (-6)) hx hb dX11_good_38 (by decide) ?_
        refine q_fi (q_runV (t := 49) (i := 0) (As := [.int (-6)]) (rest := []) C hU (c_X11_refuse hG (-6) (by omega)) vm_X11_refuse ml_X11_77 k_49.1 (hc := rfl) rfl (h1_49 hG) hl.1 rfl rfl (Nat.le_of_ble_eq_true rfl) dX11_good_40 rfl rfl ⟨Nat.le_of_ble_eq_true rfl, Nat.le_of_ble_eq_true rfl⟩ ⟨Nat.le_refl _, Nat.le_refl _⟩) hS (fun x_43 iv_39 rv_40 H locs hG fa_41 fb_42 hp_38 hU hS => ?_)
        have hF1 := hF1.tr (m := ([51, 59, 60, 61, 97], [(90, 8), (90, 9), (90, 10)])) fa_41 (by decide)
        have hF2 := hF2.tr (m := ([51, 59, 60, 61, 97], [(90, 8), (90, 9), (90, 10)])) fb_42 (by decide)
        exact hret (⟨hG, hF1, hF2, trivial⟩) hU hS dX11_good_43
    ·
      refine lv_aload_n hx hb dX11_good_23 rfl (lv_at hl 1 rfl) ?_
      refine lv_bipush (v := (-4)) hx hb dX11_good_24 (by decide) ?_
      refine q_fi (q_runV (t := 49) (i := 0) (As := [.int (-4)]) (rest := []) C hU (c_X11_refuse hG (-4) (by omega)) vm_X11_refuse ml_X11_77 k_49.1 (hc := rfl) rfl (h1_49 hG) hl.1 rfl rfl (Nat.le_of_ble_eq_true rfl) dX11_good_26 rfl rfl ⟨Nat.le_of_ble_eq_true rfl, Nat.le_of_ble_eq_true rfl⟩ ⟨Nat.le_refl _, Nat.le_refl _⟩) hS (fun x_49 iv_45 rv_46 H locs hG fa_47 fb_48 hp_44 hU hS => ?_)
      have hF1 := hF1.tr (m := ([51, 59, 60, 61, 97], [(90, 8), (90, 9), (90, 10)])) fa_47 (by decide)
      have hF2 := hF2.tr (m := ([51, 59, 60, 61, 97], [(90, 8), (90, 9), (90, 10)])) fb_48 (by decide)
      exact hret (⟨hG, hF1, hF2, trivial⟩) hU hS dX11_good_29
  ·
    subst ej_6
    have hl : lv_has ls 6 [(3, rfv al 88 none), (0, .ref (al.2 49 0)), (1, .int cl), (2, .int v)] := hl
    refine lv_aload_n hx hb dX11_good_13 rfl (lv_at hl 1 rfl) ?_
    refine lv_iconst (v := (-1)) hx hb dX11_good_14 (by decide) ?_
    refine q_fi (q_runV (t := 49) (i := 0) (As := [.int (-1)]) (rest := []) C hU (c_X11_refuse hG (-1) (by omega)) vm_X11_refuse ml_X11_77 k_49.1 (hc := rfl) rfl (h1_49 hG) hl.1 rfl rfl (Nat.le_of_ble_eq_true rfl) dX11_good_15 rfl rfl ⟨Nat.le_of_ble_eq_true rfl, Nat.le_of_ble_eq_true rfl⟩ ⟨Nat.le_refl _, Nat.le_refl _⟩) hS (fun x_55 iv_51 rv_52 H locs hG fa_53 fb_54 hp_50 hU hS => ?_)
    have hF1 := hF1.tr (m := ([51, 59, 60, 61, 97], [(90, 8), (90, 9), (90, 10)])) fa_53 (by decide)
    have hF2 := hF2.tr (m := ([51, 59, 60, 61, 97], [(90, 8), (90, 9), (90, 10)])) fb_54 (by decide)
    exact hret (⟨hG, hF1, hF2, trivial⟩) hU hS dX11_good_18
set_option maxHeartbeats 4000000 in
set_option maxRecDepth 100000 in
theorem c_X11_count {l : Launch} {D : va_G} {cA : FieldType → ClassId} {sz : Nat} {al : Al} {iv : Iv} {rv : Rv} (hG : GI al iv rv) (what : Int32) : Met l yX11_count (wd yX11_count cX11_count 2 (some .int)) (rm 5) (PcW D cA sz al iv rv [.ref (al.2 49 0), .int what]) (QI D cA sz al (fI al ([51], []) iv rv (fun r iv' rv' => True))) 0 0 (Aq sz) := by
  refine mk_i (by decide) (Nat.le_of_ble_eq_true rfl) rfl ?_
  intro p e s m args below meth c ls Q H locs C hU hS hl hret
  have hx := C.1.1
  have hb := C.1.2.1
  have hl : lv_has ls 2 [(0, .ref (al.2 49 0)), (1, .int what)] := hl
  have hG0 := hG
  have hF1 : FR ([51], []) iv iv := FR.rf
  have hF2 : FR ([51], []) rv rv := FR.rf
  have km9 : ((-9) : Int32).toInt = -9 := by decide
  have k7 : (7 : Int32).toInt = 7 := by decide
  have k10 : (10 : Int32).toInt = 10 := by decide
  refine lv_iload_n hx hb dX11_count_0 rfl (lv_at hl 1 rfl) ?_
  refine b_table hx hb dX11_count_1 118 (by decide) [52, 57, 65, 73, 81, 89, 97, 102, 110] (by decide) (fun j hj => ?_) (fun c_1 => ?_) (fun j tt htt c_1 => ?_)
  ·
    match j, hj with
    | 0, _ => exact ⟨51, 52, by decide, by decide, by decide⟩
    | 1, _ => exact ⟨56, 57, by decide, by decide, by decide⟩
    | 2, _ => exact ⟨64, 65, by decide, by decide, by decide⟩
    | 3, _ => exact ⟨72, 73, by decide, by decide, by decide⟩
    | 4, _ => exact ⟨80, 81, by decide, by decide, by decide⟩
    | 5, _ => exact ⟨88, 89, by decide, by decide, by decide⟩
    | 6, _ => exact ⟨96, 97, by decide, by decide, by decide⟩
    | 7, _ => exact ⟨101, 102, by decide, by decide, by decide⟩
    | 8, _ => exact ⟨109, 110, by decide, by decide, by decide⟩
    | q + 9, hq => exact absurd hq (by simp)
  ·
    refine lv_iload_n hx hb dX11_count_118 rfl (lv_at hl 1 rfl) ?_
    refine lv_bipush (v := 10) hx hb dX11_count_119 (by decide) ?_
    refine b_icmp_le (tgt := 148) hx hb dX11_count_121 (by decide) (fun c_2 => ?_) (fun c_2 => ?_)
    ·
      refine lv_bipush (v := (-9)) hx hb dX11_count_148 (by decide) ?_
      exact hret (⟨hG, hF1, hF2, trivial⟩) hU hS dX11_count_150
    ·
      refine lv_iload_n hx hb dX11_count_124 rfl (lv_at hl 1 rfl) ?_
      refine lv_bipush (v := 10) hx hb dX11_count_125 (by decide) ?_
      refine lv_isub hx hb dX11_count_127 ?_
      refine lv_topi (fun x_3 e_4 => ?_)
      have w_5 := fb_rng what
      have te_4 : x_3.toInt = (what : Int32).toInt - (10 : Int32).toInt := by rw [e_4]; exact fb_subI (by omega) (by omega)
      refine lv_aload_n hx hb dX11_count_128 rfl (lv_at hl 0 rfl) ?_
      refine g_49_8 C hU hG (h1_49 hG) fl_X11_70 dX11_count_129 ?_
      refine q_alen (t := 51) (v := 7) C hU k_51 (by decide) (h1_51 hG) (by decide) dX11_count_132 ?_
      refine b_icmp_ge (tgt := 148) hx hb dX11_count_133 (by decide) (fun c_6 => ?_) (fun c_6 => ?_)
      ·
        refine lv_bipush (v := (-9)) hx hb dX11_count_148 (by decide) ?_
        exact hret (⟨hG, hF1, hF2, trivial⟩) hU hS dX11_count_150
      ·
        refine lv_aload_n hx hb dX11_count_136 rfl (lv_at hl 0 rfl) ?_
        refine g_49_8 C hU hG (h1_49 hG) fl_X11_70 dX11_count_137 ?_
        refine lv_iload_n hx hb dX11_count_140 rfl (lv_at hl 1 rfl) ?_
        refine lv_bipush (v := 10) hx hb dX11_count_141 (by decide) ?_
        refine lv_isub hx hb dX11_count_143 ?_
        refine lv_topi (fun x_7 e_8 => ?_)
        have w_9 := fb_rng what
        have te_8 : x_7.toInt = (what : Int32).toInt - (10 : Int32).toInt := by rw [e_8]; exact fb_subI (by omega) (by omega)
        refine a_51 C hU hG (h1_51 hG) (x := x_7) (by omega) (by omega) dX11_count_144 (fun x_10 e_11 => ?_)
        have te_11 := congrArg Int32.toInt e_11
        refine lv_goto (tgt := 150) hx hb dX11_count_145 (by decide) ?_
        exact hret (⟨hG, hF1, hF2, trivial⟩) hU hS dX11_count_150
  ·
    match j, htt with
    | 0, htt =>
      cases htt
      refine lv_aload_n hx hb dX11_count_52 rfl (lv_at hl 0 rfl) ?_
      refine g_49_9 C hU hG (h1_49 hG) fl_X11_73 dX11_count_53 (fun x_12 e_13 le_13 ue_13 => ?_)
      have te_13 := congrArg Int32.toInt e_13
      exact hret (⟨hG, hF1, hF2, trivial⟩) hU hS dX11_count_56
    | 1, htt =>
      cases htt
      refine lv_aload_n hx hb dX11_count_57 rfl (lv_at hl 0 rfl) ?_
      refine g_49_1 C hU hG (h1_49 hG) fl_X11_19 dX11_count_58 ?_
      refine g_57_1 C hU hG (h1_57 hG) fl_X11_321 dX11_count_61 (fun x_14 e_15 le_15 ue_15 => ?_)
      have te_15 := congrArg Int32.toInt e_15
      exact hret (⟨hG, hF1, hF2, trivial⟩) hU hS dX11_count_64
    | 2, htt =>
      cases htt
      refine lv_aload_n hx hb dX11_count_65 rfl (lv_at hl 0 rfl) ?_
      refine g_49_1 C hU hG (h1_49 hG) fl_X11_19 dX11_count_66 ?_
      refine q_pi (q_runV (t := 57) (i := 0) (As := []) (rest := []) C hU (c_X10_countLogged hG  ) vm_X10_countLogged ml_X11_322 k_57.1 (hc := rfl) rfl (h1_57 hG) hl.1 rfl rfl (Nat.le_of_ble_eq_true rfl) dX11_count_69 rfl rfl ⟨Nat.le_of_ble_eq_true rfl, Nat.le_of_ble_eq_true rfl⟩ ⟨Nat.le_refl _, Nat.le_refl _⟩) hS (fun x_17 H locs hp_16 hU hS => ?_)
      exact hret (⟨hG, hF1, hF2, trivial⟩) hU hS dX11_count_72
    | 3, htt =>
      cases htt
      refine lv_aload_n hx hb dX11_count_73 rfl (lv_at hl 0 rfl) ?_
      refine g_49_2 C hU hG (h1_49 hG) fl_X11_26 dX11_count_74 ?_
      refine g_63_1 C hU hG (h1_63 hG) fl_X11_325 dX11_count_77 (fun x_18 e_19 le_19 ue_19 => ?_)
      have te_19 := congrArg Int32.toInt e_19
      exact hret (⟨hG, hF1, hF2, trivial⟩) hU hS dX11_count_80
    | 4, htt =>
      cases htt
      refine lv_aload_n hx hb dX11_count_81 rfl (lv_at hl 0 rfl) ?_
      refine g_49_3 C hU hG (h1_49 hG) fl_X11_33 dX11_count_82 ?_
      refine g_68_5 C hU hG (h1_68 hG) fl_X11_326 dX11_count_85 (fun x_20 e_21 le_21 ue_21 => ?_)
      have te_21 := congrArg Int32.toInt e_21
      exact hret (⟨hG, hF1, hF2, trivial⟩) hU hS dX11_count_88
    | 5, htt =>
      cases htt
      refine lv_aload_n hx hb dX11_count_89 rfl (lv_at hl 0 rfl) ?_
      refine g_49_5 C hU hG (h1_49 hG) fl_X11_47 dX11_count_90 ?_
      refine g_84_1 C hU hG (h1_84 hG) fl_X11_327 dX11_count_93 (fun x_22 e_23 le_23 ue_23 => ?_)
      have te_23 := congrArg Int32.toInt e_23
      exact hret (⟨hG, hF1, hF2, trivial⟩) hU hS dX11_count_96
    | 6, htt =>
      cases htt
      refine lv_aload_n hx hb dX11_count_97 rfl (lv_at hl 0 rfl) ?_
      refine q_pi (q_runV (t := 49) (i := 0) (As := []) (rest := []) C hU (c_X11_countBarred hG  ) vm_X11_countBarred ml_X11_328 k_49.1 (hc := rfl) rfl (h1_49 hG) hl.1 rfl rfl (Nat.le_of_ble_eq_true rfl) dX11_count_98 rfl rfl ⟨Nat.le_of_ble_eq_true rfl, Nat.le_of_ble_eq_true rfl⟩ ⟨Nat.le_refl _, Nat.le_refl _⟩) hS (fun x_25 H locs hp_24 hU hS => ?_)
      exact hret (⟨hG, hF1, hF2, trivial⟩) hU hS dX11_count_101
    | 7, htt =>
      cases htt
      refine lv_aload_n hx hb dX11_count_102 rfl (lv_at hl 0 rfl) ?_
      refine g_49_6 C hU hG (h1_49 hG) fl_X11_54 dX11_count_103 ?_
      refine g_90_6 C hU hG (h1_90 hG) fl_X11_331 dX11_count_106 (fun x_26 e_27 le_27 ue_27 => ?_)
      have te_27 := congrArg Int32.toInt e_27
      exact hret (⟨hG, hF1, hF2, trivial⟩) hU hS dX11_count_109
    | 8, htt =>
      cases htt
      refine lv_aload_n hx hb dX11_count_110 rfl (lv_at hl 0 rfl) ?_
      refine g_49_0 C hU hG (h1_49 hG) fl_X11_10 dX11_count_111 ?_
      refine g_52_2 C hU hG (h1_52 hG) fl_X11_332 dX11_count_114 (fun x_28 e_29 => ?_)
      have te_29 := congrArg Int32.toInt e_29
      exact hret (⟨hG, hF1, hF2, trivial⟩) hU hS dX11_count_117
    | q + 9, htt => simp at htt
end
section
-- making cells
def grow (al : Al) (t a : Nat) : Al := (fun t' => if t' = t then al.1 t + 1 else al.1 t', fun t' i' => if t' = t ∧ i' = al.1 t then a else al.2 t' i')
def clr {α : Type} (f : Nat → Nat → Nat → α) (t i : Nat) (z : α) : Nat → Nat → Nat → α := fun t' i' k' => if t' = t ∧ i' = i then z else f t' i' k'
theorem clr_ne {α : Type} {f : Nat → Nat → Nat → α} {t i t' i' k' : Nat} {z : α} (h : ¬ (t' = t ∧ i' = i)) : clr f t i z t' i' k' = f t' i' k' := by simp only [clr, if_neg h]
theorem clr_self {α : Type} {f : Nat → Nat → Nat → α} {t i k' : Nat} {z : α} : clr f t i z t i k' = z := by simp [clr]
theorem grow_ct (al : Al) (t a t' : Nat) : (grow al t a).1 t' = al.1 t' + (if t' = t then 1 else 0) := by
  by_cases h : t' = t
  · subst h; simp [grow]
  · simp [grow, h]
theorem grow_ad {al : Al} {t a t' i' : Nat} (h : i' < al.1 t') : (grow al t a).2 t' i' = al.2 t' i' := by
  have : ¬ (t' = t ∧ i' = al.1 t) := fun q => by obtain ⟨rfl, rfl⟩ := q; exact Nat.lt_irrefl _ h
  simp only [grow, if_neg this]
theorem grow_new {al : Al} {t a : Nat} : (grow al t a).2 t (al.1 t) = a := by simp [grow]
/-- every reference is to a cell that is there -/
def RB (al : Al) (rv : Rv) : Prop := ∀ t i k t', i < al.1 t → k < (pt t).2.1 → (pt t).2.2.2 k = some t' → ∀ j, rv t i k = some j → j < al.1 t'
theorem RB.new {al : Al} {rv : Rv} (h : RB al rv) (t a : Nat) : RB (grow al t a) (clr rv t (al.1 t) none) := by
  intro t1 i1 k1 t2 h1 h2 h3 j h4
  by_cases e : t1 = t ∧ i1 = al.1 t
  · obtain ⟨rfl, rfl⟩ := e; rw [clr_self] at h4; cases h4
  · rw [clr_ne e] at h4
    have h5 : i1 < al.1 t1 := by
      rw [grow_ct] at h1
      by_cases q : t1 = t
      · subst q; simp at h1; rcases Nat.lt_or_ge i1 (al.1 t1) with z | z
        · exact z
        · exact absurd ⟨rfl, by omega⟩ e
      · simp [q] at h1; exact h1
    have := h t1 i1 k1 t2 h5 h2 h3 j h4
    rw [grow_ct]; omega
theorem RB.put {al : Al} {rv : Rv} (h : RB al rv) {t i k t1 j : Nat} (ht : (pt t).2.2.2 k = some t1) (hj : j < al.1 t1) : RB al (up3 rv t i k (some j)) := by
  intro t' i' k' t2 h1 h2 h3 j' h4
  rcases up3_cases (f := rv) (t := t) (i := i) (k := k) (t' := t') (i' := i') (k' := k') (x := some j) with ⟨rfl, rfl, rfl, e⟩ | e
  · rw [e] at h4; cases h4
    have : t1 = t2 := Option.some.inj (ht.symm.trans h3)
    subst this; exact hj
  · rw [e] at h4; exact h t' i' k' t2 h1 h2 h3 j' h4
theorem rg0 : ∀ t k : Nat, (rg t k).1 ≤ 0 ∧ 0 ≤ (rg t k).2 := by
  intro t k
  unfold rg
  split <;> first | exact ⟨by decide, by decide⟩ | (split <;> first | exact ⟨by decide, by decide⟩)
theorem RG.new {al : Al} {iv : Iv} (h : RG al iv) (t a : Nat) : RG (grow al t a) (clr iv t (al.1 t) 0) := by
  intro t1 i1 k1 h1 h2
  by_cases e : t1 = t ∧ i1 = al.1 t
  · obtain ⟨rfl, rfl⟩ := e; rw [clr_self]; exact rg0 t1 k1
  · rw [clr_ne e]
    refine h t1 i1 k1 ?_ h2
    rw [grow_ct] at h1
    by_cases q : t1 = t
    · subst q; simp at h1; rcases Nat.lt_or_ge i1 (al.1 t1) with z | z
      · exact z
      · exact absurd ⟨rfl, by omega⟩ e
    · simp [q] at h1; exact h1
theorem cellAt.congr {D : va_G} {cA : FieldType → ClassId} {t a : Nat} {V V' : Nat → Value} {H : Heap} (g : cellAt D cA t a V H) (h : ∀ k, k < (pt t).2.1 → V k = V' k) : cellAt D cA t a V' H := by
  cases hp : (pt t).1 with
  | none =>
    refine cellAt.ofAr hp ((g.ar hp).trans ?_)
    congr 1
    unfold arrV
    congr 1
    apply Array.ext
    · simp
    · intro i h1 h2
      simp at h1 ⊢
      exact h i h1
  | some ci => exact cellAt.ofOb hp ((g.ob hp).to h)
theorem UW.new {D : va_G} {cA : FieldType → ClassId} {sz : Nat} {al : Al} {iv : Iv} {rv : Rv} {H H1 : Heap} (hU : UW D cA sz al iv rv H) (hB : RB al rv) {t : Nat} (hz : sz ≤ H.size) (o : ∀ q : Nat, q < H.size → H1[q]? = H[q]?)
    (hc : cellAt D cA t H.size (fun k => match (pt t).2.2.2 k with | none => .int 0 | some _ => .null) H1) : UW D cA sz (grow al t H.size) (clr iv t (al.1 t) 0) (clr rv t (al.1 t) none) H1 := by
  have split : ∀ t1 i1, i1 < (grow al t H.size).1 t1 → (t1 = t ∧ i1 = al.1 t) ∨ (i1 < al.1 t1 ∧ ¬ (t1 = t ∧ i1 = al.1 t)) := by
    intro t1 i1 h
    rw [grow_ct] at h
    by_cases e : t1 = t ∧ i1 = al.1 t
    · exact Or.inl e
    · right
      refine ⟨?_, e⟩
      by_cases q : t1 = t
      · subst q; simp at h; rcases Nat.lt_or_ge i1 (al.1 t1) with z | z
        · exact z
        · exact absurd ⟨rfl, by omega⟩ e
      · simp [q] at h; exact h
  refine ⟨fun t1 i1 h => ?_, fun t1 i1 t2 i2 h1 h2 e => ?_, fun t1 i1 h => ?_⟩
  · rcases split t1 i1 h with ⟨rfl, rfl⟩ | ⟨h1, e⟩
    · rw [grow_new]
      refine hc.congr (fun k hk => ?_)
      cases hp : (pt t1).2.2.2 k with
      | none => simp only [vl, hp, clr_self]
      | some t' => simp only [vl, hp, clr_self]; rfl
    · rw [grow_ad h1]
      refine ((hU.1 t1 i1 h1).kept (o _ (hU.1 t1 i1 h1).lt)).congr (fun k hk => ?_)
      cases hp : (pt t1).2.2.2 k with
      | none => simp only [vl, hp, clr_ne e]
      | some t' =>
        simp only [vl, hp, clr_ne e]
        cases hr : rv t1 i1 k with
        | none => rfl
        | some j =>
          have hj := hB t1 i1 k t' h1 hk hp j hr
          show va_rf (some (al.2 t' j)) = va_rf (some ((grow al t H.size).2 t' j))
          rw [grow_ad hj]
  · rcases split t1 i1 h1 with ⟨rfl, rfl⟩ | ⟨g1, e1⟩ <;> rcases split t2 i2 h2 with ⟨rfl, rfl⟩ | ⟨g2, e2⟩
    · exact ⟨rfl, rfl⟩
    · rw [grow_new, grow_ad g2] at e; have := (hU.1 t2 i2 g2).lt; omega
    · rw [grow_new, grow_ad g1] at e; have := (hU.1 t1 i1 g1).lt; omega
    · rw [grow_ad g1, grow_ad g2] at e; exact hU.2.1 t1 i1 t2 i2 g1 g2 e
  · rcases split t1 i1 h with ⟨rfl, rfl⟩ | ⟨g1, e1⟩
    · rw [grow_new]; exact hz
    · rw [grow_ad g1]; exact hU.2.2 t1 i1 g1
/-- what came: N new cells (a number a pool); old cells stay but in the slots of M; new ones are blank but in those -/
def EXT (N : Nat → Nat) (M : Mo) (al : Al) (iv : Iv) (rv : Rv) (al' : Al) (iv' : Iv) (rv' : Rv) : Prop :=
  (∀ t, al'.1 t = al.1 t + N t) ∧ (∀ t i, i < al.1 t → al'.2 t i = al.2 t i) ∧
  (∀ t i k, i < al.1 t → ¬ MD M t k → iv' t i k = iv t i k ∧ rv' t i k = rv t i k) ∧
  (∀ t i k, al.1 t ≤ i → i < al'.1 t → ¬ MD M t k → iv' t i k = 0 ∧ rv' t i k = none)
def nx (N : Nat → Nat) (t : Nat) : Nat → Nat := fun t' => N t' + (if t' = t then 1 else 0)
theorem EXT.rf {M : Mo} {al : Al} {iv : Iv} {rv : Rv} : EXT (fun _ => 0) M al iv rv al iv rv := ⟨fun _ => rfl, fun _ _ _ => rfl, fun _ _ _ _ _ => ⟨rfl, rfl⟩, fun _ _ _ h1 h2 => absurd h2 (by omega)⟩
theorem EXT.new {N : Nat → Nat} {M : Mo} {al al1 : Al} {iv iv1 : Iv} {rv rv1 : Rv} (h : EXT N M al iv rv al1 iv1 rv1) (t a : Nat) : EXT (nx N t) M al iv rv (grow al1 t a) (clr iv1 t (al1.1 t) 0) (clr rv1 t (al1.1 t) none) := by
  obtain ⟨h1, h2, h3, h4⟩ := h
  refine ⟨fun t' => by rw [grow_ct, h1]; unfold nx; omega, fun t' i' q => ?_, fun t' i' k' q m => ?_, fun t' i' k' q1 q2 m => ?_⟩
  · rw [grow_ad (by rw [h1]; omega)]; exact h2 t' i' q
  · have e : ¬ (t' = t ∧ i' = al1.1 t) := fun z => by obtain ⟨rfl, rfl⟩ := z; have := h1 t'; omega
    rw [clr_ne e, clr_ne e]; exact h3 t' i' k' q m
  · by_cases e : t' = t ∧ i' = al1.1 t
    · obtain ⟨rfl, rfl⟩ := e; rw [clr_self, clr_self]; exact ⟨rfl, rfl⟩
    · rw [clr_ne e, clr_ne e]
      refine h4 t' i' k' q1 ?_ m
      rw [grow_ct] at q2
      by_cases z : t' = t
      · subst z; simp at q2; rcases Nat.lt_or_ge i' (al1.1 t') with y | y
        · exact y
        · exact absurd ⟨rfl, by omega⟩ e
      · simp [z] at q2; exact q2
theorem EXT.puti {N : Nat → Nat} {M : Mo} {al al1 : Al} {iv iv1 : Iv} {rv rv1 : Rv} (h : EXT N M al iv rv al1 iv1 rv1) {t i k : Nat} {x : Int32} (hm : MD M t k) : EXT N M al iv rv al1 (up3 iv1 t i k x) rv1 := by
  obtain ⟨h1, h2, h3, h4⟩ := h
  refine ⟨h1, h2, fun t' i' k' q m => ?_, fun t' i' k' q1 q2 m => ?_⟩
  · rw [up3_ne (fun z => m (by obtain ⟨rfl, -, rfl⟩ := z; exact hm))]; exact h3 t' i' k' q m
  · rw [up3_ne (fun z => m (by obtain ⟨rfl, -, rfl⟩ := z; exact hm))]; exact h4 t' i' k' q1 q2 m
theorem EXT.putr {N : Nat → Nat} {M : Mo} {al al1 : Al} {iv iv1 : Iv} {rv rv1 : Rv} (h : EXT N M al iv rv al1 iv1 rv1) {t i k : Nat} {x : Option Nat} (hm : MD M t k) : EXT N M al iv rv al1 iv1 (up3 rv1 t i k x) := by
  obtain ⟨h1, h2, h3, h4⟩ := h
  refine ⟨h1, h2, fun t' i' k' q m => ?_, fun t' i' k' q1 q2 m => ?_⟩
  · rw [up3_ne (fun z => m (by obtain ⟨rfl, -, rfl⟩ := z; exact hm))]; exact h3 t' i' k' q m
  · rw [up3_ne (fun z => m (by obtain ⟨rfl, -, rfl⟩ := z; exact hm))]; exact h4 t' i' k' q1 q2 m
theorem MD.sub {a b : Mo} (h : subM a b) {t k : Nat} (q : MD a t k) : MD b t k := q.elim (fun z => Or.inl (h.1 t z)) (fun z => Or.inr (h.2 _ z))
theorem EXT.tr {N N1 : Nat → Nat} {M M1 : Mo} {al al1 al2 : Al} {iv iv1 iv2 : Iv} {rv rv1 rv2 : Rv} (h : EXT N M al iv rv al1 iv1 rv1) (g : EXT N1 M1 al1 iv1 rv1 al2 iv2 rv2) (hs : subM M1 M) : EXT (fun t => N t + N1 t) M al iv rv al2 iv2 rv2 := by
  obtain ⟨h1, h2, h3, h4⟩ := h
  obtain ⟨g1, g2, g3, g4⟩ := g
  refine ⟨fun t => by rw [g1, h1]; exact Nat.add_assoc _ _ _, fun t i q => ?_, fun t i k q m => ?_, fun t i k q1 q2 m => ?_⟩
  · rw [g2 t i (by rw [h1]; omega)]; exact h2 t i q
  · have z := g3 t i k (by rw [h1]; omega) (fun w => m (w.sub hs))
    rw [z.1, z.2]; exact h3 t i k q m
  · rcases Nat.lt_or_ge i (al1.1 t) with y | y
    · have z := g3 t i k y (fun w => m (w.sub hs))
      rw [z.1, z.2]; exact h4 t i k q1 y m
    · exact g4 t i k y q2 (fun w => m (w.sub hs))
/-- the references of one cell that are set -/
def NN (t i : Nat) (L : List Nat) (rv : Rv) : Prop := ∀ k, k ∈ L → ∃ j, rv t i k = some j
theorem NN.nil {t i : Nat} {rv : Rv} : NN t i [] rv := fun _ h => by cases h
theorem NN.put {t i : Nat} {L : List Nat} {rv : Rv} (h : NN t i L rv) (k j : Nat) : NN t i (k :: L) (up3 rv t i k (some j)) := fun k' q => by
  by_cases e : k' = k
  · subst e; exact ⟨j, up3_self _ _ _ _ _⟩
  · rw [up3_ne (fun z => e z.2.2)]
    exact h k' ((List.mem_cons.mp q).resolve_left e)
theorem NN.keep {t i : Nat} {L : List Nat} {rv rv' : Rv} (h : NN t i L rv) (e : ∀ k, rv' t i k = rv t i k) : NN t i L rv' := fun k q => by rw [e k]; exact h k q
end
section
def PcA (D : va_G) (cA : FieldType → ClassId) (sz : Nat) (al : Al) (iv : Iv) (rv : Rv) (vs : List Value) (X : State → Prop) : Array Value → State → Prop := va_Pc vs (fun U => UW D cA sz al iv rv U.heap ∧ KU D cA U ∧ sz ≤ U.heap.size ∧ X U)
def QVA (D : va_G) (cA : FieldType → ClassId) (sz : Nat) (post : Al → Iv → Rv → Prop) : Array Value → State → Outcome → State → Prop := fun _ st oc t =>
  (∃ (al : Al) (iv : Iv) (rv : Rv), oc = .returned none ∧ post al iv rv ∧ UW D cA sz al iv rv t.heap) ∧ va_F (Aq sz) st t
def QIA (D : va_G) (cA : FieldType → ClassId) (sz : Nat) (post : Int32 → Al → Iv → Rv → Prop) : Array Value → State → Outcome → State → Prop := fun _ st oc t =>
  (∃ (r : Int32) (al : Al) (iv : Iv) (rv : Rv), oc = .returned (some (.int r)) ∧ post r al iv rv ∧ UW D cA sz al iv rv t.heap) ∧ va_F (Aq sz) st t
section AR
variable {p : Program} {l : Launch} {e : Env} {R : Room} {s : State} {m : MethodId} {args : Array Value} {below : List Frame} {meth : Method} {c : Code} {H : Heap} {locs : List Loc} {cells slots : Nat} {Q : State → Prop}
variable {cc : ByteArray} {pc nL : Nat} {ls : Array Slot} {rest : List Value} {own : String} {D : va_G} {cA : FieldType → ClassId} {sz : Nat} {al : Al} {iv : Iv} {rv : Rv}
theorem hS_new {H1 : Heap} (hS : va_S (Aq sz) s.heap H locs) (z1 : H1.size = H.size + 1) (o1 : ∀ q : Nat, q < H.size → H1[q]? = H[q]?) : va_S (Aq sz) s.heap H1 locs :=
  ⟨Nat.le_trans hS.1 (by omega), fun x h1 h2 => (o1 x (Nat.lt_of_lt_of_le h1 hS.1)).trans (hS.2.1 x h1 h2), hS.2.2⟩
theorem q_newo (C : Cx p s m args c cc nL own D cA) (hU : UW D cA sz al iv rv H) (hS : va_S (Aq sz) s.heap H locs) (hB : RB al rv) (hz : sz ≤ H.size) {t ci N index : Nat} {Cn : String} {T : u_T} (kp : (pt t).1 = some ci ∧ (pt t).2.1 = N) (hc : vwCl[ci]? = some (Cn, T, N)) (hin : ∀ w ∈ u_ws Cn T N, w ∈ BW)
    (ty : Nat → FieldType) (hty : ∀ k, k < N → parseFieldDescriptor (T k).2.2.1 = some (ty k)) (hdef : ∀ k, k < N → defaultValue (ty k) = (match (pt t).2.2.2 k with | none => .int 0 | some _ => .null)) (hcl : Cond.classLink own index Cn ∈ BW) (hib : Cond.instantiable Cn N ∈ BW) (hiz : Cond.initialized Cn ∈ BW)
    (hcells : cells + 1 ≤ R.cells) (hslots : slots + N ≤ R.slots) (hdg : decode cc pc = .ok (.new index, 3))
    (kk : ∀ (a : Nat) (H1 : Heap), UW D cA sz (grow al t a) (clr iv t (al.1 t) 0) (clr rv t (al.1 t) none) H1 → va_S (Aq sz) s.heap H1 locs → sz ≤ H1.size → W p l e R s m args below meth c H1 locs (cells + 1) (slots + N) Q (F0 m (pc + 3) ls (.ref a :: rest))) : W p l e R s m args below meth c H locs cells slots Q (F0 m pc ls rest) := by
  obtain ⟨⟨hx, hb, hml, hown, hts⟩, hK⟩ := C
  have hKn := hK.1.1 ci _ hc
  refine W.newcK hx hb hown (hts _ hcl) (hts _ hib) (hts _ hiz) rfl hdg hcells hslots hKn.2.1 rfl fun H1 kC hkC e1 z1 o1 => ?_
  refine kk H.size H1 (hU.new hB hz o1 (cellAt.ofOb kp.1 ?_)) (hS_new hS z1 o1) (by omega)
  rw [kp.2]
  exact (u_born ty hts hin hKn hkC e1 hty).to hdef
theorem q_newp (C : Cx p s m args c cc nL own D cA) (hU : UW D cA sz al iv rv H) (hS : va_S (Aq sz) s.heap H locs) (hB : RB al rv) (hz : sz ≤ H.size) {t N : Nat} {atype : ArrayType} {ty : FieldType} (hat : newarray.typeOf atype = ty) (h2 : ty = .int ∨ ty = .boolean) (kp : (pt t).1 = none ∧ (pt t).2.1 = N ∧ (pt t).2.2.1 = ty) (htg : ∀ k, (pt t).2.2.2 k = none) (hac : Cond.arrayClass ty ∈ BW)
    {n : Int32} (hn : ¬ n < 0) (hN : n.toNatClampNeg = N) (hby : N * 8 ≤ 536870912) (hcells : cells + 1 ≤ R.cells) (hslots : slots + N ≤ R.slots) (hdg : decode cc pc = .ok (.newarray atype, 2))
    (kk : ∀ (a : Nat) (H1 : Heap), UW D cA sz (grow al t a) (clr iv t (al.1 t) 0) (clr rv t (al.1 t) none) H1 → va_S (Aq sz) s.heap H1 locs → sz ≤ H1.size → W p l e R s m args below meth c H1 locs (cells + 1) (slots + N) Q (F0 m (pc + 2) ls (.ref a :: rest))) : W p l e R s m args below meth c H locs cells slots Q (F0 m pc ls (.int n :: rest)) := by
  obtain ⟨⟨hx, hb, hml, hown, hts⟩, hK⟩ := C
  have hr := (hK.2.1 ty (by rcases h2 with rfl | rfl <;> decide)).2
  refine va_newaK hx hb (by rw [hat]; exact hts _ hac) rfl hdg rfl hn hN (by rw [hat]; rcases h2 with rfl | rfl <;> simp [componentBytes] <;> omega) hcells hslots rfl fun H1 cA' e1 z1 o1 hAr hNm => ?_
  refine kk H.size H1 (hU.new hB hz o1 (cellAt.ofAr kp.1 ?_)) (hS_new hS z1 o1) (by omega)
  have hcA : cA' = cA ty := by
    rw [hat] at hNm
    rcases h2 with rfl | rfl <;> exact Option.some.inj (hNm.symm.trans hr)
  rw [e1, kp.2.1, kp.2.2, hcA, hat]
  congr 2
  funext k
  rw [htg k]
  rcases h2 with rfl | rfl <;> rfl
theorem q_newr (C : Cx p s m args c cc nL own D cA) (hU : UW D cA sz al iv rv H) (hS : va_S (Aq sz) s.heap H locs) (hB : RB al rv) (hz : sz ≤ H.size) {t t' N index : Nat} {Cn : String} (kp : (pt t).1 = none ∧ (pt t).2.1 = N ∧ (pt t).2.2.1 = .object Cn) (hty : FieldType.object Cn ∈ aty) (htg : ∀ k, (pt t).2.2.2 k = some t') (hcl : Cond.classLink own index Cn ∈ BW) (hao : va_AO Cn s)
    {n : Int32} (hn : ¬ n < 0) (hN : n.toNatClampNeg = N) (hby : N * 4 ≤ 536870912) (hcells : cells + 1 ≤ R.cells) (hslots : slots + N ≤ R.slots) (hdg : decode cc pc = .ok (.anewarray index, 3))
    (kk : ∀ (a : Nat) (H1 : Heap), UW D cA sz (grow al t a) (clr iv t (al.1 t) 0) (clr rv t (al.1 t) none) H1 → va_S (Aq sz) s.heap H1 locs → sz ≤ H1.size → W p l e R s m args below meth c H1 locs (cells + 1) (slots + N) Q (F0 m (pc + 3) ls (.ref a :: rest))) : W p l e R s m args below meth c H locs cells slots Q (F0 m pc ls (.int n :: rest)) := by
  obtain ⟨⟨hx, hb, hml, hown, hts⟩, hK⟩ := C
  obtain ⟨kA', comp', -, -, -, hr⟩ := (hK.2.1 _ hty).2
  subst hN
  refine W.anew hx hb hown (hts _ hcl) (va_AO.use hao) rfl hdg rfl hn hby hcells hslots fun cA' kA comp f1 f2 f3 f4 => ?_
  generalize hH1 : H.push ({ cls := cA', slots := Array.replicate n.toNatClampNeg .null, vm := .none } : Cell) = H1
  have z1 : H1.size = H.size + 1 := by rw [← hH1, Array.size_push]
  have e1 : H1[H.size]? = some (arrV cA' n.toNatClampNeg (fun _ => .null)) := by rw [← hH1, Array.getElem?_push_size, ← arrV_new]
  have o1 : ∀ q : Nat, q < H.size → H1[q]? = H[q]? := fun q hq => by rw [← hH1, Array.getElem?_push, if_neg (Nat.ne_of_lt hq)]
  refine kk H.size H1 (hU.new hB hz o1 (cellAt.ofAr kp.1 ?_)) (hS_new hS z1 o1) (by omega)
  have hcA : cA' = cA (.object Cn) := Option.some.inj (f1.symm.trans hr)
  rw [e1, kp.2.1, kp.2.2, hcA]
  congr 2
  funext k
  rw [htg k]
/-- a constructor or an adder: it may make cells -/
theorem mk_a {y : MethodName} {ret : Option FieldType} {rmm : Room} {vs : List Value} {X : State → Prop} {Qc : Array Value → State → Outcome → State → Prop} {mc ms : Nat} (hy : plainName y.cls = true) (hn : (lg_sl vs).length ≤ nL) (ho : y.cls = own)
    (body : ∀ (p : Program) (e : Env) (s : State) (m : MethodId) (below : List Frame) (meth : Method) (c : Code) (ls : Array Slot), Cx p s m vs.toArray c cc nL own D cA → meth.sig.returnType = ret → meth.locks = false → meth.name = y.name → UW D cA sz al iv rv s.heap → va_S (Aq sz) s.heap s.heap [] → sz ≤ s.heap.size → X s → lv_has ls nL (lv_args 0 vs) → W p l e rmm s m vs.toArray below meth c s.heap [] 0 0 (MQ below Qc vs.toArray s mc ms (Aq sz)) (F0 m 0 ls [])) :
    Met l y (wd y cc nL ret) rmm (PcA D cA sz al iv rv vs X) Qc mc ms (Aq sz) := by
  refine Met.ofW (cc := cc) (maxL := nL) (ret := ret) hy rfl ?_
  intro p e s m args below meth c s₁ B hml hv
  obtain ⟨rfl, hU, hK, hz, hX⟩ := hv
  have hts := atoms_spec (ws := wd y cc nL ret) B.pre
  have hl := lv_entry vs (n := nL) hn
  rw [lg_entry_eq]
  exact body p e s m below meth c _ ⟨⟨B.exec, B.bytes, hml, by rw [← ho]; exact findClass_of_methodNamed B.named, fun w h => hts w (List.mem_cons_of_mem _ h)⟩, hK⟩ B.returns B.notSynchronized (name_of_methodNamed B.named B.method).1 hU va_S.rf hz hX hl
theorem q_vretA {post : Al → Iv → Rv → Prop} (C : Cx p s m args c cc nL own D cA) (hr : meth.sig.returnType = none) (hlk : meth.locks = false) (hU : UW D cA sz al iv rv H) (hS : va_S (Aq sz) s.heap H locs) (hp : post al iv rv) (hdg : decode cc pc = .ok (.return_, 1)) :
    W p l e R s m args below meth c H locs cells slots (MQ below (QVA D cA sz post) args s cells slots (Aq sz)) (F0 m pc ls []) :=
  W.vret C.1.1 C.1.2.1 hr (fun t ht hW => ⟨⟨al, iv, rv, rfl, hp, by rw [ht]; exact hU⟩, hS.F ht⟩) hS.2.2 hdg hlk
theorem q_iretA {post : Int32 → Al → Iv → Rv → Prop} (C : Cx p s m args c cc nL own D cA) (hr : meth.sig.returnType = some .int) (hlk : meth.locks = false) (hU : UW D cA sz al iv rv H) (hS : va_S (Aq sz) s.heap H locs) {r : Int32} (hp : post r al iv rv) (hdg : decode cc pc = .ok (.ireturn, 1)) :
    W p l e R s m args below meth c H locs cells slots (MQ below (QIA D cA sz post) args s cells slots (Aq sz)) (F0 m pc ls [.int r]) :=
  W.iret C.1.1 C.1.2.1 hr (fun t ht hW => ⟨⟨r, al, iv, rv, rfl, hp, by rw [ht]; exact hU⟩, hS.F ht⟩) hS.2.2 hdg hlk
theorem q_runIA {y : MethodName} {bytes : ByteArray} {maxL mc ms n index b : Nat} {rmm : Room} {As : List Value} {X : State → Prop} {Qc : Array Value → State → Outcome → State → Prop} {st : List Value} (C : Cx p s m args c cc nL own D cA) (hU : UW D cA sz al iv rv H) (hz : sz ≤ H.size)
    (hX1 : ∀ U : State, U.heap = H → s.WarmedH U.vm → X U) (hX2 : ∀ (U : State) (g : JFrame) (mk : MethodId) (a : Array Value), X U → X (U.calling g mk a))
    (hM : Met l y (wd y bytes maxL none) rmm (PcA D cA sz al iv rv (.ref b :: As) X) Qc mc ms (Aq sz)) (hcode : Cond.code y bytes maxL none ∈ BW) (him : Cond.instanceMethod y ∈ BW) (hini : Cond.initialized y.cls ∈ BW) (hl : Cond.methodLink own index y ∈ BW) (hy1 : y.name = "<init>") (hd : y.cls ≠ "java/lang/invoke/MethodHandle" ∧ y.cls ≠ "java/lang/invoke/VarHandle" ∧ (parseMethodDescriptor y.desc).map (fun d => d.parameters.length) = some n) (hls : ls.size = nL) (hn : As.length = n) (hst : st = As.reverse ++ .ref b :: rest)
    (hrm : (rest.map fun v => v.category).sum ≤ 8) (hdg : decode cc pc = .ok (.invokespecial index, 3)) (hrc : rmm.cells = mc) (hrs : rmm.slots = ms) (hR : rmm.frames + 1 ≤ R.frames ∧ 8 + (maxL + 11) + rmm.locals ≤ R.locals) (hf : cells + mc ≤ R.cells ∧ slots + ms ≤ R.slots) :
    va_Run p l e R s m args below meth c H locs cells slots mc ms (F0 m pc ls st) rest (Qc (Value.ref b :: As).toArray) (Aq sz) := by
  have hts := C.1.2.2.2.2
  have hK := C.2
  exact va_runI (As := As) (rest := rest) C.1 hM ⟨cb_of hts hcode hini hl hd hrc hrs hR, hy1, hts _ him⟩ ⟨fun a U g mk q => ⟨q.1, q.2.1, q.2.2.1.calling g mk a, q.2.2.2.1, hX2 U g mk a q.2.2.2.2⟩, fun U hH hW => ⟨rfl, by rw [hH]; exact hU, hK.warm hW, by rw [hH]; exact hz, hX1 U hH hW⟩⟩ rfl hn hls hst (lv_room hrm) hdg hf
theorem q_runVA {y : MethodName} {bytes : ByteArray} {maxL mc ms n index t i ci : Nat} {ret : Option FieldType} {rmm : Room} {As : List Value} {q : vw_C} {Qc : Array Value → State → Outcome → State → Prop} {st : List Value} (C : Cx p s m args c cc nL own D cA) (hU : UW D cA sz al iv rv H) (hz : sz ≤ H.size)
    (hM : Met l y (wd y bytes maxL ret) rmm (PcA D cA sz al iv rv (.ref (al.2 t i) :: As) (fun _ => True)) Qc mc ms (Aq sz)) (vm : VM y bytes maxL ret n) (hl : Cond.methodLink own index y ∈ BW) (kp : (pt t).1 = some ci) (hc : vwCl[ci]? = some q) (hq : q.1 = y.cls) (hi : i < al.1 t) (hls : ls.size = nL) (hn : As.length = n) (hst : st = As.reverse ++ .ref (al.2 t i) :: rest)
    (hrm : (rest.map fun v => v.category).sum ≤ 8) (hdg : decode cc pc = .ok (.invokevirtual index, 3)) (hrc : rmm.cells = mc) (hrs : rmm.slots = ms) (hR : rmm.frames + 1 ≤ R.frames ∧ 8 + (maxL + 11) + rmm.locals ≤ R.locals) (hf : cells + mc ≤ R.cells ∧ slots + ms ≤ R.slots) :
    va_Run p l e R s m args below meth c H locs cells slots mc ms (F0 m pc ls st) rest (Qc (Value.ref (al.2 t i) :: As).toArray) (Aq sz) := by
  obtain ⟨v1, v2, v3, v4, v5⟩ := vm
  have hts := C.1.2.2.2.2
  have hK := C.2
  obtain ⟨cell, g1, g2, g3, -⟩ := (hU.1 t i hi).ob kp
  refine va_runV (C := y.cls) (As := As) (rest := rest) C.1 hM ⟨cb_of hts v1 v4 hl v5 hrc hrs hR, hts _ v2, hts _ v3⟩ ⟨fun a U g mk q => ⟨q.1, q.2.1, q.2.2.1.calling g mk a, q.2.2.2.1, trivial⟩, ⟨cell, g1, by rw [g3]; rfl, ?_⟩, fun U hH hW => ⟨rfl, by rw [hH]; exact hU, hK.warm hW, by rw [hH]; exact hz, trivial⟩⟩ rfl hn hls hst (lv_room hrm) hdg hf
  rw [g2, ← hq]; exact (hK.1.1 ci q hc).2.1
theorem q_cvA {mc ms : Nat} {st : List Value} {a : Array Value} {post : Al → Iv → Rv → Prop} (hr : va_Run p l e R s m args below meth c H locs cells slots mc ms (F0 m pc ls st) rest (QVA D cA sz post a) (Aq sz)) (hS : va_S (Aq sz) s.heap H locs) (hz : sz ≤ H.size)
    (kk : ∀ (al' : Al) (iv' : Iv) (rv' : Rv) (H1 : Heap) (locs1 : List Loc), post al' iv' rv' → UW D cA sz al' iv' rv' H1 → va_S (Aq sz) s.heap H1 locs1 → sz ≤ H1.size → W p l e R s m args below meth c H1 locs1 (cells + mc) (slots + ms) Q (F0 m (pc + 3) ls rest)) : W p l e R s m args below meth c H locs cells slots Q (F0 m pc ls st) := by
  intro T hT X
  obtain ⟨v, st₀, t, T', L, h0, X', hL, e1, e2, ⟨⟨al', iv', rv', hv, hp, hb⟩, hz1, hk⟩, go⟩ := hr T hT X
  cases hv
  rw [h0] at hz1 hk
  obtain ⟨t2, a1, b1⟩ := kk al' iv' rv' t.heap (locs ++ L) hp hb ⟨Nat.le_trans hS.1 hz1, fun q h1 h2 => (hk q (Nat.lt_of_lt_of_le h1 hS.1) h2).trans (hS.2.1 q h1 h2), t_lL hS.2.2 hL⟩ (Nat.le_trans hz hz1) T' e1 X'
  exact ⟨t2, go t2 a1, b1⟩
theorem q_ciA {mc ms : Nat} {st : List Value} {a : Array Value} {post : Int32 → Al → Iv → Rv → Prop} (hr : va_Run p l e R s m args below meth c H locs cells slots mc ms (F0 m pc ls st) rest (QIA D cA sz post a) (Aq sz)) (hS : va_S (Aq sz) s.heap H locs) (hz : sz ≤ H.size)
    (kk : ∀ (r : Int32) (al' : Al) (iv' : Iv) (rv' : Rv) (H1 : Heap) (locs1 : List Loc), post r al' iv' rv' → UW D cA sz al' iv' rv' H1 → va_S (Aq sz) s.heap H1 locs1 → sz ≤ H1.size → W p l e R s m args below meth c H1 locs1 (cells + mc) (slots + ms) Q (F0 m (pc + 3) ls (.int r :: rest))) : W p l e R s m args below meth c H locs cells slots Q (F0 m pc ls st) := by
  intro T hT X
  obtain ⟨v, st₀, t, T', L, h0, X', hL, e1, e2, ⟨⟨r, al', iv', rv', hv, hp, hb⟩, hz1, hk⟩, go⟩ := hr T hT X
  cases hv
  rw [h0] at hz1 hk
  obtain ⟨t2, a1, b1⟩ := kk r al' iv' rv' t.heap (locs ++ L) hp hb ⟨Nat.le_trans hS.1 hz1, fun q h1 h2 => (hk q (Nat.lt_of_lt_of_le h1 hS.1) h2).trans (hS.2.1 q h1 h2), t_lL hS.2.2 hL⟩ (Nat.le_trans hz hz1) T' e1 X'
  exact ⟨t2, go t2 a1, b1⟩
end AR
end
