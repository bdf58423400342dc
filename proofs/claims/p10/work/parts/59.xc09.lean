set_option maxHeartbeats 4000000 in
set_option maxRecDepth 100000 in
theorem c_X12_saved_x {l : Launch} {D : va_G} {cA : FieldType → ClassId} {sz : Nat} {al : Al} {iv : Iv} {rv : Rv} (hG : GI al iv rv) (lg : Int32) (fr : Int32) : Met l yX12_saved (wd yX12_saved cX12_saved 4 (some .int)) (rm 4) (PcW D cA sz al iv rv [.ref (al.2 0 0), .int lg, .int fr]) (QI D cA sz al (fI al ([16], []) iv rv (fun r iv' rv' => r = svS iv lg fr))) 0 0 (Aq sz) := by
  refine mk_i (by decide) (Nat.le_of_ble_eq_true rfl) rfl ?_
  intro p e s m args below meth c ls Q H locs C hU hS hl hret
  have hx := C.1.1
  have hb := C.1.2.1
  have hl : lv_has ls 4 [(0, .ref (al.2 0 0)), (1, .int lg), (2, .int fr)] := hl
  have hG0 := hG
  have h6 := le6 hG
  have h20 := le20 hG
  have h41 := le41 hG
  have hF1 : FR ([16], []) iv iv := FR.rf
  have hF2 : FR ([16], []) rv rv := FR.rf
  have km6 : ((-6) : Int32).toInt = -6 := by decide
  have km5 : ((-5) : Int32).toInt = -5 := by decide
  have km4 : ((-4) : Int32).toInt = -4 := by decide
  have km1 : ((-1) : Int32).toInt = -1 := by decide
  have k1 : (1 : Int32).toInt = 1 := by decide
  have k30000 : (30000 : Int32).toInt = 30000 := by decide
  refine lv_aload_n hx hb dX12_saved_0 rfl (lv_at hl 0 rfl) ?_
  refine lv_iload_n hx hb dX12_saved_1 rfl (lv_at hl 1 rfl) ?_
  refine q_pi (q_runV (t := 0) (i := 0) (As := [.int lg]) (rest := []) C hU (c_X12_isLeg hG lg ) vm_X12_isLeg ml_X12_181 k_0.1 (hc := rfl) rfl (h1_0 hG) hl.1 rfl rfl (Nat.le_of_ble_eq_true rfl) dX12_saved_2 rfl rfl ⟨Nat.le_of_ble_eq_true rfl, Nat.le_of_ble_eq_true rfl⟩ ⟨Nat.le_refl _, Nat.le_refl _⟩) hS (fun x_2 H locs hp_1 hU hS => ?_)
  refine b_if_ne (tgt := 14) hx hb dX12_saved_5 (by decide) (fun c_3 => ?_) (fun c_3 => ?_)
  ·
    refine lv_aload_n hx hb dX12_saved_14 rfl (lv_at hl 0 rfl) ?_
    refine g_0_13 C hU hG (h1_0 hG) fl_X12_40 dX12_saved_15 ?_
    refine lv_iload_n hx hb dX12_saved_18 rfl (lv_at hl 1 rfl) ?_
    refine a_11 C hU hG (h1_11 hG) (x := lg) (by omega) (by omega) dX12_saved_19 (fun x_4 e_5 le_5 ue_5 => ?_)
    have te_5 := congrArg Int32.toInt e_5
    refine b_if_ne (tgt := 30) hx hb dX12_saved_20 (by decide) (fun c_6 => ?_) (fun c_6 => ?_)
    ·
      refine lv_iload_n hx hb dX12_saved_30 rfl (lv_at hl 2 rfl) ?_
      refine b_if_ge (tgt := 41) hx hb dX12_saved_31 (by decide) (fun c_7 => ?_) (fun c_7 => ?_)
      ·
        refine lv_iload_n hx hb dX12_saved_41 rfl (lv_at hl 2 rfl) ?_
        refine lv_sipush (v := 30000) hx hb dX12_saved_42 (by decide) ?_
        refine b_icmp_le (tgt := 55) hx hb dX12_saved_45 (by decide) (fun c_8 => ?_) (fun c_8 => ?_)
        ·
          refine lv_aload_n hx hb dX12_saved_55 rfl (lv_at hl 0 rfl) ?_
          refine g_0_11 C hU hG (h1_0 hG) fl_X12_34 dX12_saved_56 ?_
          refine lv_iload_n hx hb dX12_saved_59 rfl (lv_at hl 1 rfl) ?_
          refine a_9 C hU hG (h1_9 hG) (x := lg) (by omega) (by omega) dX12_saved_60 (fun x_9 e_10 le_10 ue_10 => ?_)
          have te_10 := congrArg Int32.toInt e_10
          refine lv_aload_n hx hb dX12_saved_61 rfl (lv_at hl 0 rfl) ?_
          refine lv_iload_n hx hb dX12_saved_62 rfl (lv_at hl 1 rfl) ?_
          refine lv_iconst (v := 1) hx hb dX12_saved_63 (by decide) ?_
          refine q_pi (q_runV (t := 0) (i := 0) (As := [.int lg, .int 1]) (rest := [.int x_9]) C hU (c_X12_waitOf hG lg 1 (by omega)) vm_X12_waitOf ml_X12_207 k_0.1 (hc := rfl) rfl (h1_0 hG) hl.1 rfl rfl (Nat.le_of_ble_eq_true rfl) dX12_saved_64 rfl rfl ⟨Nat.le_of_ble_eq_true rfl, Nat.le_of_ble_eq_true rfl⟩ ⟨Nat.le_refl _, Nat.le_refl _⟩) hS (fun x_12 H locs hp_11 hU hS => ?_)
          have q_13 := hp_11.2
          have tq_13 := congrArg Int32.toInt q_13
          refine lv_iadd hx hb dX12_saved_67 ?_
          refine lv_topi (fun x_14 e_15 => ?_)
          refine lv_istore_n (lv' := [(3, .int x_14), (0, .ref (al.2 0 0)), (1, .int lg), (2, .int fr)]) hx hb dX12_saved_68 rfl hl (by decide) rfl (fun ls hl => ?_)
          refine lv_iload_n hx hb dX12_saved_69 rfl (lv_at hl 3 rfl) ?_
          refine lv_iload_n hx hb dX12_saved_70 rfl (lv_at hl 0 rfl) ?_
          refine b_icmp_le (tgt := 78) hx hb dX12_saved_71 (by decide) (fun c_16 => ?_) (fun c_16 => ?_)
          ·
            refine lv_iload_n hx hb dX12_saved_78 rfl (lv_at hl 0 rfl) ?_
            refine lv_istore_n (lv' := [(3, .int x_14), (0, .ref (al.2 0 0)), (1, .int lg), (2, .int fr)]) hx hb dX12_saved_79 rfl hl (by decide) rfl (fun ls hl => ?_)
            refine lv_aload_n hx hb dX12_saved_80 rfl (lv_at hl 1 rfl) ?_
            refine lv_iload_n hx hb dX12_saved_81 rfl (lv_at hl 2 rfl) ?_
            refine q_pi (q_runV (t := 0) (i := 0) (As := [.int lg]) (rest := []) C hU (c_X12_rightLeave hG lg (by omega)) vm_X12_rightLeave ml_X12_193 k_0.1 (hc := rfl) rfl (h1_0 hG) hl.1 rfl rfl (Nat.le_of_ble_eq_true rfl) dX12_saved_82 rfl rfl ⟨Nat.le_of_ble_eq_true rfl, Nat.le_of_ble_eq_true rfl⟩ ⟨Nat.le_refl _, Nat.le_refl _⟩) hS (fun x_18 H locs hp_17 hU hS => ?_)
            have q_19 := hp_17.2
            have tq_19 := congrArg Int32.toInt q_19
            refine lv_iload_n hx hb dX12_saved_85 rfl (lv_at hl 0 rfl) ?_
            refine lv_isub hx hb dX12_saved_86 ?_
            refine lv_topi (fun x_20 e_21 => ?_)
            have w_22 := fb_rng x_18
            have w_23 := fb_rng x_14
            have te_21 : x_20.toInt = (x_18 : Int32).toInt - (x_14 : Int32).toInt := by rw [e_21]; exact fb_subI (by omega) (by omega)
            refine q_pi (q_runS (As := [.int x_20]) (rest := []) C hU (c_X12_over  x_20 ) sm_X12_over ml_X12_187 hl.1 rfl rfl (Nat.le_of_ble_eq_true rfl) dX12_saved_87 rfl rfl ⟨Nat.le_of_ble_eq_true rfl, Nat.le_of_ble_eq_true rfl⟩ ⟨Nat.le_refl _, Nat.le_refl _⟩) hS (fun x_25 H locs hp_24 hU hS => ?_)
            have q_26 := hp_24.2
            have tq_26 := congrArg Int32.toInt q_26
            exact hret (⟨hG, hF1, hF2, by unfold svS; rw [if_neg (by omega), if_neg (by omega), if_neg (by omega), if_neg (by omega), q_26, e_21, q_19, ← q_13, ← e_10, ← e_15]; first | rw [if_pos (by omega)] | rw [if_neg (by omega)]⟩) hU hS dX12_saved_90
          ·
            refine lv_iload_n hx hb dX12_saved_74 rfl (lv_at hl 3 rfl) ?_
            refine lv_goto (tgt := 79) hx hb dX12_saved_75 (by decide) ?_
            refine lv_istore_n (lv' := [(3, .int fr), (0, .ref (al.2 0 0)), (1, .int lg), (2, .int fr)]) hx hb dX12_saved_79 rfl hl (by decide) rfl (fun ls hl => ?_)
            refine lv_aload_n hx hb dX12_saved_80 rfl (lv_at hl 1 rfl) ?_
            refine lv_iload_n hx hb dX12_saved_81 rfl (lv_at hl 2 rfl) ?_
            refine q_pi (q_runV (t := 0) (i := 0) (As := [.int lg]) (rest := []) C hU (c_X12_rightLeave hG lg (by omega)) vm_X12_rightLeave ml_X12_193 k_0.1 (hc := rfl) rfl (h1_0 hG) hl.1 rfl rfl (Nat.le_of_ble_eq_true rfl) dX12_saved_82 rfl rfl ⟨Nat.le_of_ble_eq_true rfl, Nat.le_of_ble_eq_true rfl⟩ ⟨Nat.le_refl _, Nat.le_refl _⟩) hS (fun x_28 H locs hp_27 hU hS => ?_)
            have q_29 := hp_27.2
            have tq_29 := congrArg Int32.toInt q_29
            refine lv_iload_n hx hb dX12_saved_85 rfl (lv_at hl 0 rfl) ?_
            refine lv_isub hx hb dX12_saved_86 ?_
            refine lv_topi (fun x_30 e_31 => ?_)
            have w_32 := fb_rng x_28
            have te_31 : x_30.toInt = (x_28 : Int32).toInt - (fr : Int32).toInt := by rw [e_31]; exact fb_subI (by omega) (by omega)
            refine q_pi (q_runS (As := [.int x_30]) (rest := []) C hU (c_X12_over  x_30 ) sm_X12_over ml_X12_187 hl.1 rfl rfl (Nat.le_of_ble_eq_true rfl) dX12_saved_87 rfl rfl ⟨Nat.le_of_ble_eq_true rfl, Nat.le_of_ble_eq_true rfl⟩ ⟨Nat.le_refl _, Nat.le_refl _⟩) hS (fun x_34 H locs hp_33 hU hS => ?_)
            have q_35 := hp_33.2
            have tq_35 := congrArg Int32.toInt q_35
            exact hret (⟨hG, hF1, hF2, by unfold svS; rw [if_neg (by omega), if_neg (by omega), if_neg (by omega), if_neg (by omega), q_35, e_31, q_29, ← q_13, ← e_10, ← e_15]; first | rw [if_pos (by omega)] | rw [if_neg (by omega)]⟩) hU hS dX12_saved_90
        ·
          refine lv_aload_n hx hb dX12_saved_48 rfl (lv_at hl 0 rfl) ?_
          refine lv_bipush (v := (-6)) hx hb dX12_saved_49 (by decide) ?_
          refine q_fi (q_runV (t := 0) (i := 0) (As := [.int (-6)]) (rest := []) C hU (c_X12_refuse hG (-6) (by omega)) vm_X12_refuse ml_X12_164 k_0.1 (hc := rfl) rfl (h1_0 hG) hl.1 rfl rfl (Nat.le_of_ble_eq_true rfl) dX12_saved_51 rfl rfl ⟨Nat.le_of_ble_eq_true rfl, Nat.le_of_ble_eq_true rfl⟩ ⟨Nat.le_refl _, Nat.le_refl _⟩) hS (fun x_41 iv_37 rv_38 H locs hG fa_39 fb_40 hp_36 hU hS => ?_)
          have hF1 := hF1.tr (m := ([16], [])) fa_39 (by decide)
          have hF2 := hF2.tr (m := ([16], [])) fb_40 (by decide)
          exact hret (⟨hG, hF1, hF2, by unfold svS; rw [if_neg (by omega), if_neg (by omega), if_neg (by omega), if_pos (by omega)]; exact hp_36⟩) hU hS dX12_saved_54
      ·
        refine lv_aload_n hx hb dX12_saved_34 rfl (lv_at hl 0 rfl) ?_
        refine lv_bipush (v := (-4)) hx hb dX12_saved_35 (by decide) ?_
        refine q_fi (q_runV (t := 0) (i := 0) (As := [.int (-4)]) (rest := []) C hU (c_X12_refuse hG (-4) (by omega)) vm_X12_refuse ml_X12_164 k_0.1 (hc := rfl) rfl (h1_0 hG) hl.1 rfl rfl (Nat.le_of_ble_eq_true rfl) dX12_saved_37 rfl rfl ⟨Nat.le_of_ble_eq_true rfl, Nat.le_of_ble_eq_true rfl⟩ ⟨Nat.le_refl _, Nat.le_refl _⟩) hS (fun x_47 iv_43 rv_44 H locs hG fa_45 fb_46 hp_42 hU hS => ?_)
        have hF1 := hF1.tr (m := ([16], [])) fa_45 (by decide)
        have hF2 := hF2.tr (m := ([16], [])) fb_46 (by decide)
        exact hret (⟨hG, hF1, hF2, by unfold svS; rw [if_neg (by omega), if_neg (by omega), if_pos (by omega)]; exact hp_42⟩) hU hS dX12_saved_40
    ·
      refine lv_aload_n hx hb dX12_saved_23 rfl (lv_at hl 0 rfl) ?_
      refine lv_bipush (v := (-5)) hx hb dX12_saved_24 (by decide) ?_
      refine q_fi (q_runV (t := 0) (i := 0) (As := [.int (-5)]) (rest := []) C hU (c_X12_refuse hG (-5) (by omega)) vm_X12_refuse ml_X12_164 k_0.1 (hc := rfl) rfl (h1_0 hG) hl.1 rfl rfl (Nat.le_of_ble_eq_true rfl) dX12_saved_26 rfl rfl ⟨Nat.le_of_ble_eq_true rfl, Nat.le_of_ble_eq_true rfl⟩ ⟨Nat.le_refl _, Nat.le_refl _⟩) hS (fun x_53 iv_49 rv_50 H locs hG fa_51 fb_52 hp_48 hU hS => ?_)
      have hF1 := hF1.tr (m := ([16], [])) fa_51 (by decide)
      have hF2 := hF2.tr (m := ([16], [])) fb_52 (by decide)
      exact hret (⟨hG, hF1, hF2, by unfold svS; rw [if_neg (by omega), if_pos (by omega)]; exact hp_48⟩) hU hS dX12_saved_29
  ·
    refine lv_aload_n hx hb dX12_saved_8 rfl (lv_at hl 0 rfl) ?_
    refine lv_iconst (v := (-1)) hx hb dX12_saved_9 (by decide) ?_
    refine q_fi (q_runV (t := 0) (i := 0) (As := [.int (-1)]) (rest := []) C hU (c_X12_refuse hG (-1) (by omega)) vm_X12_refuse ml_X12_164 k_0.1 (hc := rfl) rfl (h1_0 hG) hl.1 rfl rfl (Nat.le_of_ble_eq_true rfl) dX12_saved_10 rfl rfl ⟨Nat.le_of_ble_eq_true rfl, Nat.le_of_ble_eq_true rfl⟩ ⟨Nat.le_refl _, Nat.le_refl _⟩) hS (fun x_59 iv_55 rv_56 H locs hG fa_57 fb_58 hp_54 hU hS => ?_)
    have hF1 := hF1.tr (m := ([16], [])) fa_57 (by decide)
    have hF2 := hF2.tr (m := ([16], [])) fb_58 (by decide)
    exact hret (⟨hG, hF1, hF2, by unfold svS; rw [if_pos (by omega)]; exact hp_54⟩) hU hS dX12_saved_13
set_option maxHeartbeats 4000000 in
set_option maxRecDepth 100000 in
theorem c_X11_saved_x {l : Launch} {D : va_G} {cA : FieldType → ClassId} {sz : Nat} {al : Al} {iv : Iv} {rv : Rv} (hG : GI al iv rv) (lg : Int32) (fr : Int32) (pre0 : BL iv rv) : Met l yX11_saved (wd yX11_saved cX11_saved 5 (some .int)) (rm 3) (PcW D cA sz al iv rv [.ref (al.2 49 0), .int lg, .int fr]) (QI D cA sz al (fI al ([51], []) iv rv (fun r iv' rv' => r = svS iv lg fr))) 0 0 (Aq sz) := by
  refine mk_i (by decide) (Nat.le_of_ble_eq_true rfl) rfl ?_
  intro p e s m args below meth c ls Q H locs C hU hS hl hret
  have hx := C.1.1
  have hb := C.1.2.1
  have hl : lv_has ls 5 [(0, .ref (al.2 49 0)), (1, .int lg), (2, .int fr)] := hl
  have hG0 := hG
  have hn6 := congrArg Int32.toInt pre0.1.1
  have hF1 : FR ([51], []) iv iv := FR.rf
  have hF2 : FR ([51], []) rv rv := FR.rf
  have km6 : ((-6) : Int32).toInt = -6 := by decide
  have km5 : ((-5) : Int32).toInt = -5 := by decide
  have km4 : ((-4) : Int32).toInt = -4 := by decide
  have km1 : ((-1) : Int32).toInt = -1 := by decide
  have k0 : (0 : Int32).toInt = 0 := by decide
  have k1 : (1 : Int32).toInt = 1 := by decide
  have k30000 : (30000 : Int32).toInt = 30000 := by decide
  refine lv_aload_n hx hb dX11_saved_0 rfl (lv_at hl 0 rfl) ?_
  refine g_49_1 C hU hG (h1_49 hG) fl_X11_19 dX11_saved_1 ?_
  refine lv_iload_n hx hb dX11_saved_4 rfl (lv_at hl 1 rfl) ?_
  refine q_pr (q_runV (t := 57) (i := 0) (As := [.int lg]) (rest := []) C hU (c_X10_find hG lg ) vm_X10_find ml_X11_123 k_57.1 (hc := rfl) rfl (h1_57 hG) hl.1 rfl rfl (Nat.le_of_ble_eq_true rfl) dX11_saved_5 rfl rfl ⟨Nat.le_of_ble_eq_true rfl, Nat.le_of_ble_eq_true rfl⟩ ⟨Nat.le_refl _, Nat.le_refl _⟩) hS (fun r_2 H locs hp_1 hU hS => ?_)
  have hb_3 := hp_1.1
  refine b_astore_n (lv' := [(3, rfv al 62 r_2), (0, .ref (al.2 49 0)), (1, .int lg), (2, .int fr)]) hx hb dX11_saved_8 rfl hl (by decide) rfl (fun ls hl => ?_)
  refine b_aload_n (al := al) (t' := 62) (r := r_2) hx hb dX11_saved_9 rfl (lv_at hl 0 rfl) ?_
  refine b_ifnonnull (tgt := 19) hx hb dX11_saved_10 (by decide) (fun j_5 ej_6 => ?_) (fun ej_6 => ?_)
  ·
    subst ej_6
    have hl : lv_has ls 5 [(3, .ref (al.2 62 j_5)), (0, .ref (al.2 49 0)), (1, .int lg), (2, .int fr)] := hl
    have hb_7 : j_5 < al.1 62 := hb_3 j_5 rfl
    have hq4 := hp_1.2.1 _ rfl
    have hn4 := hq4.1
    rw [clamp_n] at hn4
    refine lv_aload_n hx hb dX11_saved_19 rfl (lv_at hl 0 rfl) ?_
    refine g_62_7 C hU hG hb_7 fl_X11_126 dX11_saved_20 (fun x_8 e_9 le_9 ue_9 => ?_)
    have te_9 := congrArg Int32.toInt e_9
    have hl7 := lg_done hG0 pre0 hb_7 hq4.1
    refine b_if_ne (tgt := 33) hx hb dX11_saved_23 (by decide) (fun c_10 => ?_) (fun c_10 => ?_)
    ·
      refine lv_iload_n hx hb dX11_saved_33 rfl (lv_at hl 3 rfl) ?_
      refine b_if_ge (tgt := 44) hx hb dX11_saved_34 (by decide) (fun c_11 => ?_) (fun c_11 => ?_)
      ·
        refine lv_iload_n hx hb dX11_saved_44 rfl (lv_at hl 3 rfl) ?_
        refine lv_sipush (v := 30000) hx hb dX11_saved_45 (by decide) ?_
        refine b_icmp_le (tgt := 58) hx hb dX11_saved_48 (by decide) (fun c_12 => ?_) (fun c_12 => ?_)
        ·
          have hrt := rt_x hG0 pre0 hb_7 (by omega)
          refine lv_iload_n hx hb dX11_saved_58 rfl (lv_at hl 3 rfl) ?_
          refine lv_aload_n hx hb dX11_saved_59 rfl (lv_at hl 0 rfl) ?_
          refine g_62_5 C hU hG hb_7 fl_X11_177 dX11_saved_60 (fun x_13 e_14 le_14 ue_14 => ?_)
          have te_14 := congrArg Int32.toInt e_14
          refine lv_aload_n hx hb dX11_saved_63 rfl (lv_at hl 1 rfl) ?_
          refine lv_aload_n hx hb dX11_saved_64 rfl (lv_at hl 0 rfl) ?_
          refine lv_iconst (v := 1) hx hb dX11_saved_65 (by decide) ?_
          refine q_pi (q_runV (t := 49) (i := 0) (As := [.ref (al.2 62 j_5), .int 1]) (rest := [.int x_13, .int fr]) C hU (c_X11_waitOf_x hG (j_5) hb_7 1 (pre0) (by omega)) vm_X11_waitOf ml_X11_151 k_49.1 (hc := rfl) rfl (h1_49 hG) hl.1 rfl rfl (Nat.le_of_ble_eq_true rfl) dX11_saved_66 rfl rfl ⟨Nat.le_of_ble_eq_true rfl, Nat.le_of_ble_eq_true rfl⟩ ⟨Nat.le_refl _, Nat.le_refl _⟩) hS (fun x_16 H locs hp_15 hU hS => ?_)
          refine lv_iadd hx hb dX11_saved_69 ?_
          refine lv_topi (fun x_17 e_18 => ?_)
          refine q_max C hl.1 ml_X11_180 (Nat.le_of_ble_eq_true rfl) (Nat.le_of_ble_eq_true rfl) (Nat.le_refl _) (Nat.le_refl _) dX11_saved_70 (fun x_19 q_20 tq_20 => ?_)
          refine lv_istore (lv' := [(4, .int x_19), (3, .ref (al.2 62 j_5)), (0, .ref (al.2 49 0)), (1, .int lg), (2, .int fr)]) hx hb dX11_saved_73 hl (by decide) rfl (fun ls hl => ?_)
          refine lv_iconst (v := 0) hx hb dX11_saved_75 (by decide) ?_
          refine lv_aload_n hx hb dX11_saved_76 rfl (lv_at hl 1 rfl) ?_
          refine g_62_10 C hU hG hb_7 fl_X11_186 dX11_saved_77 (fun x_21 e_22 => ?_)
          have te_22 := congrArg Int32.toInt e_22
          refine lv_iload hx hb dX11_saved_80 (lv_at hl 0 rfl) ?_
          refine lv_isub hx hb dX11_saved_82 ?_
          refine lv_topi (fun x_23 e_24 => ?_)
          refine q_max C hl.1 ml_X11_180 (Nat.le_of_ble_eq_true rfl) (Nat.le_of_ble_eq_true rfl) (Nat.le_refl _) (Nat.le_refl _) dX11_saved_83 (fun x_25 q_26 tq_26 => ?_)
          exact hret (⟨hG, hF1, hF2, by unfold svS; rw [if_neg (by omega), if_neg (by omega), if_neg (by omega), if_neg (by omega), q_26, mx0, e_24, e_22, hrt.1, q_20, mxw, e_18, e_14, lf_lv hG0 pre0.1.2.1 hb_7, hp_15, hq4.1]⟩) hU hS dX11_saved_86
        ·
          refine lv_aload_n hx hb dX11_saved_51 rfl (lv_at hl 1 rfl) ?_
          refine lv_bipush (v := (-6)) hx hb dX11_saved_52 (by decide) ?_
          refine q_fi (q_runV (t := 49) (i := 0) (As := [.int (-6)]) (rest := []) C hU (c_X11_refuse hG (-6) (by omega)) vm_X11_refuse ml_X11_77 k_49.1 (hc := rfl) rfl (h1_49 hG) hl.1 rfl rfl (Nat.le_of_ble_eq_true rfl) dX11_saved_54 rfl rfl ⟨Nat.le_of_ble_eq_true rfl, Nat.le_of_ble_eq_true rfl⟩ ⟨Nat.le_refl _, Nat.le_refl _⟩) hS (fun x_32 iv_28 rv_29 H locs hG fa_30 fb_31 hp_27 hU hS => ?_)
          have hF1 := hF1.tr (m := ([51], [])) fa_30 (by decide)
          have hF2 := hF2.tr (m := ([51], [])) fb_31 (by decide)
          exact hret (⟨hG, hF1, hF2, by unfold svS; rw [if_neg (by omega), if_neg (by omega), if_neg (by omega), if_pos (by omega)]; exact hp_27⟩) hU hS dX11_saved_57
      ·
        refine lv_aload_n hx hb dX11_saved_37 rfl (lv_at hl 1 rfl) ?_
        refine lv_bipush (v := (-4)) hx hb dX11_saved_38 (by decide) ?_
        refine q_fi (q_runV (t := 49) (i := 0) (As := [.int (-4)]) (rest := []) C hU (c_X11_refuse hG (-4) (by omega)) vm_X11_refuse ml_X11_77 k_49.1 (hc := rfl) rfl (h1_49 hG) hl.1 rfl rfl (Nat.le_of_ble_eq_true rfl) dX11_saved_40 rfl rfl ⟨Nat.le_of_ble_eq_true rfl, Nat.le_of_ble_eq_true rfl⟩ ⟨Nat.le_refl _, Nat.le_refl _⟩) hS (fun x_38 iv_34 rv_35 H locs hG fa_36 fb_37 hp_33 hU hS => ?_)
        have hF1 := hF1.tr (m := ([51], [])) fa_36 (by decide)
        have hF2 := hF2.tr (m := ([51], [])) fb_37 (by decide)
        exact hret (⟨hG, hF1, hF2, by unfold svS; rw [if_neg (by omega), if_neg (by omega), if_pos (by omega)]; exact hp_33⟩) hU hS dX11_saved_43
    ·
      refine lv_aload_n hx hb dX11_saved_26 rfl (lv_at hl 1 rfl) ?_
      refine lv_bipush (v := (-5)) hx hb dX11_saved_27 (by decide) ?_
      refine q_fi (q_runV (t := 49) (i := 0) (As := [.int (-5)]) (rest := []) C hU (c_X11_refuse hG (-5) (by omega)) vm_X11_refuse ml_X11_77 k_49.1 (hc := rfl) rfl (h1_49 hG) hl.1 rfl rfl (Nat.le_of_ble_eq_true rfl) dX11_saved_29 rfl rfl ⟨Nat.le_of_ble_eq_true rfl, Nat.le_of_ble_eq_true rfl⟩ ⟨Nat.le_refl _, Nat.le_refl _⟩) hS (fun x_44 iv_40 rv_41 H locs hG fa_42 fb_43 hp_39 hU hS => ?_)
      have hF1 := hF1.tr (m := ([51], [])) fa_42 (by decide)
      have hF2 := hF2.tr (m := ([51], [])) fb_43 (by decide)
      exact hret (⟨hG, hF1, hF2, by unfold svS; rw [if_neg (by omega), if_pos (by omega)]; exact hp_39⟩) hU hS dX11_saved_32
  ·
    subst ej_6
    have hl : lv_has ls 5 [(3, rfv al 62 none), (0, .ref (al.2 49 0)), (1, .int lg), (2, .int fr)] := hl
    have hq4 := hp_1.2.2 rfl
    refine lv_aload_n hx hb dX11_saved_13 rfl (lv_at hl 1 rfl) ?_
    refine lv_iconst (v := (-1)) hx hb dX11_saved_14 (by decide) ?_
    refine q_fi (q_runV (t := 49) (i := 0) (As := [.int (-1)]) (rest := []) C hU (c_X11_refuse hG (-1) (by omega)) vm_X11_refuse ml_X11_77 k_49.1 (hc := rfl) rfl (h1_49 hG) hl.1 rfl rfl (Nat.le_of_ble_eq_true rfl) dX11_saved_15 rfl rfl ⟨Nat.le_of_ble_eq_true rfl, Nat.le_of_ble_eq_true rfl⟩ ⟨Nat.le_refl _, Nat.le_refl _⟩) hS (fun x_50 iv_46 rv_47 H locs hG fa_48 fb_49 hp_45 hU hS => ?_)
    have hF1 := hF1.tr (m := ([51], [])) fa_48 (by decide)
    have hF2 := hF2.tr (m := ([51], [])) fb_49 (by decide)
    exact hret (⟨hG, hF1, hF2, by unfold svS; rw [if_pos (by omega)]; exact hp_45⟩) hU hS dX11_saved_18
set_option maxHeartbeats 4000000 in
set_option maxRecDepth 100000 in
theorem c_X12_missed_x {l : Launch} {D : va_G} {cA : FieldType → ClassId} {sz : Nat} {al : Al} {iv : Iv} {rv : Rv} (hG : GI al iv rv) (tt : Int32) : Met l yX12_missed (wd yX12_missed cX12_missed 3 (some .int)) (rm 3) (PcW D cA sz al iv rv [.ref (al.2 0 0), .int tt]) (QI D cA sz al (fI al ([16], []) iv rv (fun r iv' rv' => r = miS iv tt))) 0 0 (Aq sz) := by
  refine mk_i (by decide) (Nat.le_of_ble_eq_true rfl) rfl ?_
  intro p e s m args below meth c ls Q H locs C hU hS hl hret
  have hx := C.1.1
  have hb := C.1.2.1
  have hl : lv_has ls 3 [(0, .ref (al.2 0 0)), (1, .int tt)] := hl
  have hG0 := hG
  have h6 := le6 hG
  have h20 := le20 hG
  have h41 := le41 hG
  have hF1 : FR ([16], []) iv iv := FR.rf
  have hF2 : FR ([16], []) rv rv := FR.rf
  have km9 : ((-9) : Int32).toInt = -9 := by decide
  have km1 : ((-1) : Int32).toInt = -1 := by decide
  refine lv_aload_n hx hb dX12_missed_0 rfl (lv_at hl 0 rfl) ?_
  refine lv_iload_n hx hb dX12_missed_1 rfl (lv_at hl 1 rfl) ?_
  refine q_pi (q_runV (t := 0) (i := 0) (As := [.int tt]) (rest := []) C hU (c_X12_isTraveller hG tt ) vm_X12_isTraveller ml_X12_226 k_0.1 (hc := rfl) rfl (h1_0 hG) hl.1 rfl rfl (Nat.le_of_ble_eq_true rfl) dX12_missed_2 rfl rfl ⟨Nat.le_of_ble_eq_true rfl, Nat.le_of_ble_eq_true rfl⟩ ⟨Nat.le_refl _, Nat.le_refl _⟩) hS (fun x_2 H locs hp_1 hU hS => ?_)
  refine b_if_ne (tgt := 14) hx hb dX12_missed_5 (by decide) (fun c_3 => ?_) (fun c_3 => ?_)
  ·
    refine lv_aload_n hx hb dX12_missed_14 rfl (lv_at hl 0 rfl) ?_
    refine lv_iload_n hx hb dX12_missed_15 rfl (lv_at hl 1 rfl) ?_
    refine q_pi (q_runV (t := 0) (i := 0) (As := [.int tt]) (rest := []) C hU (c_X12_missedOf_x hG tt (by omega)) vm_X12_missedOf ml_X12_229 k_0.1 (hc := rfl) rfl (h1_0 hG) hl.1 rfl rfl (Nat.le_of_ble_eq_true rfl) dX12_missed_16 rfl rfl ⟨Nat.le_of_ble_eq_true rfl, Nat.le_of_ble_eq_true rfl⟩ ⟨Nat.le_refl _, Nat.le_refl _⟩) hS (fun x_5 H locs hp_4 hU hS => ?_)
    refine lv_istore_n (lv' := [(2, .int x_5), (0, .ref (al.2 0 0)), (1, .int tt)]) hx hb dX12_missed_19 rfl hl (by decide) rfl (fun ls hl => ?_)
    refine lv_iload_n hx hb dX12_missed_20 rfl (lv_at hl 0 rfl) ?_
    refine b_if_ge (tgt := 29) hx hb dX12_missed_21 (by decide) (fun c_6 => ?_) (fun c_6 => ?_)
    ·
      refine lv_iload_n hx hb dX12_missed_29 rfl (lv_at hl 0 rfl) ?_
      exact hret (⟨hG, hF1, hF2, by unfold miS; have z := hp_4.2.1; have tz := congrArg Int32.toInt z; rw [if_neg (by omega)]; first | rw [if_pos (by omega)] | (rw [if_neg (by omega)]; exact z)⟩) hU hS dX12_missed_30
    ·
      refine lv_bipush (v := (-9)) hx hb dX12_missed_24 (by decide) ?_
      refine lv_goto (tgt := 30) hx hb dX12_missed_26 (by decide) ?_
      exact hret (⟨hG, hF1, hF2, by unfold miS; have z := hp_4.2.1; have tz := congrArg Int32.toInt z; rw [if_neg (by omega)]; first | rw [if_pos (by omega)] | (rw [if_neg (by omega)]; exact z)⟩) hU hS dX12_missed_30
  ·
    refine lv_aload_n hx hb dX12_missed_8 rfl (lv_at hl 0 rfl) ?_
    refine lv_iconst (v := (-1)) hx hb dX12_missed_9 (by decide) ?_
    refine q_fi (q_runV (t := 0) (i := 0) (As := [.int (-1)]) (rest := []) C hU (c_X12_refuse hG (-1) (by omega)) vm_X12_refuse ml_X12_164 k_0.1 (hc := rfl) rfl (h1_0 hG) hl.1 rfl rfl (Nat.le_of_ble_eq_true rfl) dX12_missed_10 rfl rfl ⟨Nat.le_of_ble_eq_true rfl, Nat.le_of_ble_eq_true rfl⟩ ⟨Nat.le_refl _, Nat.le_refl _⟩) hS (fun x_12 iv_8 rv_9 H locs hG fa_10 fb_11 hp_7 hU hS => ?_)
    have hF1 := hF1.tr (m := ([16], [])) fa_10 (by decide)
    have hF2 := hF2.tr (m := ([16], [])) fb_11 (by decide)
    exact hret (⟨hG, hF1, hF2, by unfold miS; rw [if_pos (by omega)]; exact hp_7⟩) hU hS dX12_missed_13
set_option maxHeartbeats 4000000 in
set_option maxRecDepth 100000 in
theorem c_X11_missed_x {l : Launch} {D : va_G} {cA : FieldType → ClassId} {sz : Nat} {al : Al} {iv : Iv} {rv : Rv} (hG : GI al iv rv) (tt : Int32) (pre0 : BM iv rv) : Met l yX11_missed (wd yX11_missed cX11_missed 3 (some .int)) (rm 2) (PcW D cA sz al iv rv [.ref (al.2 49 0), .int tt]) (QI D cA sz al (fI al ([51], []) iv rv (fun r iv' rv' => r = miS iv tt))) 0 0 (Aq sz) := by
  refine mk_i (by decide) (Nat.le_of_ble_eq_true rfl) rfl ?_
  intro p e s m args below meth c ls Q H locs C hU hS hl hret
  have hx := C.1.1
  have hb := C.1.2.1
  have hl : lv_has ls 3 [(0, .ref (al.2 49 0)), (1, .int tt)] := hl
  have hG0 := hG
  have hn20 := congrArg Int32.toInt pre0.2.1
  have hF1 : FR ([51], []) iv iv := FR.rf
  have hF2 : FR ([51], []) rv rv := FR.rf
  have km1 : ((-1) : Int32).toInt = -1 := by decide
  have k2 : (2 : Int32).toInt = 2 := by decide
  refine lv_aload_n hx hb dX11_missed_0 rfl (lv_at hl 0 rfl) ?_
  refine g_49_2 C hU hG (h1_49 hG) fl_X11_26 dX11_missed_1 ?_
  refine lv_iload_n hx hb dX11_missed_4 rfl (lv_at hl 1 rfl) ?_
  refine q_pr (q_runV (t := 63) (i := 0) (As := [.int tt]) (rest := []) C hU (c_X9_find hG tt ) vm_X9_find ml_X11_192 k_63.1 (hc := rfl) rfl (h1_63 hG) hl.1 rfl rfl (Nat.le_of_ble_eq_true rfl) dX11_missed_5 rfl rfl ⟨Nat.le_of_ble_eq_true rfl, Nat.le_of_ble_eq_true rfl⟩ ⟨Nat.le_refl _, Nat.le_refl _⟩) hS (fun r_2 H locs hp_1 hU hS => ?_)
  have hb_3 := hp_1.1
  refine b_astore_n (lv' := [(2, rfv al 65 r_2), (0, .ref (al.2 49 0)), (1, .int tt)]) hx hb dX11_missed_8 rfl hl (by decide) rfl (fun ls hl => ?_)
  refine b_aload_n (al := al) (t' := 65) (r := r_2) hx hb dX11_missed_9 rfl (lv_at hl 0 rfl) ?_
  refine b_ifnonnull (tgt := 19) hx hb dX11_missed_10 (by decide) (fun j_5 ej_6 => ?_) (fun ej_6 => ?_)
  ·
    subst ej_6
    have hl : lv_has ls 3 [(2, .ref (al.2 65 j_5)), (0, .ref (al.2 49 0)), (1, .int tt)] := hl
    have hb_7 : j_5 < al.1 65 := hb_3 j_5 rfl
    have hq3 := hp_1.2.1 _ rfl
    have hn3 := hq3.1
    rw [clamp_n] at hn3
    refine lv_aload_n hx hb dX11_missed_19 rfl (lv_at hl 0 rfl) ?_
    refine lv_aload_n hx hb dX11_missed_20 rfl (lv_at hl 1 rfl) ?_
    refine g_49_7 C hU hG (h1_49 hG) fl_X11_67 dX11_missed_21 ?_
    refine lv_iconst (v := 2) hx hb dX11_missed_24 (by decide) ?_
    refine a_50 C hU hG (h1_50 hG) (x := 2) (by omega) (by omega) dX11_missed_25 (fun x_8 e_9 le_9 ue_9 => ?_)
    have te_9 := congrArg Int32.toInt e_9
    refine q_pi (q_runV (t := 65) (i := j_5) (As := [.int x_8]) (rest := []) C hU (c_X8_missedPlace_x hG (j_5) hb_7 x_8 (pre0) (by rw [e_9]; exact (pre0.1.1.2.2 2 (by decide)).symm)) vm_X8_missedPlace ml_X11_208 k_65.1 (hc := rfl) rfl hb_7 hl.1 rfl rfl (Nat.le_of_ble_eq_true rfl) dX11_missed_26 rfl rfl ⟨Nat.le_of_ble_eq_true rfl, Nat.le_of_ble_eq_true rfl⟩ ⟨Nat.le_refl _, Nat.le_refl _⟩) hS (fun x_11 H locs hp_10 hU hS => ?_)
    exact hret (⟨hG, hF1, hF2, by unfold miS; rw [if_neg (by omega), hp_10.2.1, hq3.1]; rfl⟩) hU hS dX11_missed_29
  ·
    subst ej_6
    have hl : lv_has ls 3 [(2, rfv al 65 none), (0, .ref (al.2 49 0)), (1, .int tt)] := hl
    have hq3 := hp_1.2.2 rfl
    refine lv_aload_n hx hb dX11_missed_13 rfl (lv_at hl 1 rfl) ?_
    refine lv_iconst (v := (-1)) hx hb dX11_missed_14 (by decide) ?_
    refine q_fi (q_runV (t := 49) (i := 0) (As := [.int (-1)]) (rest := []) C hU (c_X11_refuse hG (-1) (by omega)) vm_X11_refuse ml_X11_77 k_49.1 (hc := rfl) rfl (h1_49 hG) hl.1 rfl rfl (Nat.le_of_ble_eq_true rfl) dX11_missed_15 rfl rfl ⟨Nat.le_of_ble_eq_true rfl, Nat.le_of_ble_eq_true rfl⟩ ⟨Nat.le_refl _, Nat.le_refl _⟩) hS (fun x_17 iv_13 rv_14 H locs hG fa_15 fb_16 hp_12 hU hS => ?_)
    have hF1 := hF1.tr (m := ([51], [])) fa_15 (by decide)
    have hF2 := hF2.tr (m := ([51], [])) fb_16 (by decide)
    exact hret (⟨hG, hF1, hF2, by unfold miS; rw [if_pos (by omega)]; exact hp_12⟩) hU hS dX11_missed_18
