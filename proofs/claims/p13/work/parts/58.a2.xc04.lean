set_option maxHeartbeats 4000000 in
set_option maxRecDepth 100000 in
theorem c_X11_minutes_x {l : Launch} {D : va_G} {cA : FieldType → ClassId} {sz : Nat} {al : Al} {iv : Iv} {rv : Rv} (hG : GI al iv rv) (lg : Int32) (cs : Int32) (pre0 : BC iv rv) : Met l yX11_minutes (wd yX11_minutes cX11_minutes 4 (some .int)) (rm 3) (PcW D cA sz al iv rv [.ref (al.2 49 0), .int lg, .int cs]) (QI D cA sz al (fI al ([51, 59], []) iv rv (fun r iv' rv' => r = mnS iv lg cs))) 0 0 (Aq sz) := by
  refine mk_i (by decide) (Nat.le_of_ble_eq_true rfl) rfl ?_
  intro p e s m args below meth c ls Q H locs C hU hS hl hret
  have hx := C.1.1
  have hb := C.1.2.1
  have hl : lv_has ls 4 [(0, .ref (al.2 49 0)), (1, .int lg), (2, .int cs)] := hl
  have hG0 := hG
  have hn6 := congrArg Int32.toInt pre0.1.1.1
  have hF1 : FR ([51, 59], []) iv iv := FR.rf
  have hF2 : FR ([51, 59], []) rv rv := FR.rf
  have km5 : ((-5) : Int32).toInt = -5 := by decide
  have km1 : ((-1) : Int32).toInt = -1 := by decide
  have k0 : (0 : Int32).toInt = 0 := by decide
  have k1 : (1 : Int32).toInt = 1 := by decide
  have k6 : (6 : Int32).toInt = 6 := by decide
  refine lv_aload_n hx hb dX11_minutes_0 rfl (lv_at hl 0 rfl) ?_
  refine g_49_1 C hU hG (h1_49 hG) fl_X11_19 dX11_minutes_1 ?_
  refine lv_iload_n hx hb dX11_minutes_4 rfl (lv_at hl 1 rfl) ?_
  refine q_pr (q_runV (t := 57) (i := 0) (As := [.int lg]) (rest := []) C hU (c_X10_find hG lg ) vm_X10_find ml_X11_123 k_57.1 (hc := rfl) rfl (h1_57 hG) hl.1 rfl rfl (Nat.le_of_ble_eq_true rfl) dX11_minutes_5 rfl rfl ⟨Nat.le_of_ble_eq_true rfl, Nat.le_of_ble_eq_true rfl⟩ ⟨Nat.le_refl _, Nat.le_refl _⟩) hS (fun r_2 H locs hp_1 hU hS => ?_)
  have hb_3 := hp_1.1
  refine b_astore_n (lv' := [(3, rfv al 62 r_2), (0, .ref (al.2 49 0)), (1, .int lg), (2, .int cs)]) hx hb dX11_minutes_8 rfl hl (by decide) rfl (fun ls hl => ?_)
  refine b_aload_n (al := al) (t' := 62) (r := r_2) hx hb dX11_minutes_9 rfl (lv_at hl 0 rfl) ?_
  refine b_ifnull (tgt := 22) hx hb dX11_minutes_10 (by decide) (fun ej_6 => ?_) (fun j_5 ej_6 => ?_)
  ·
    subst ej_6
    have hl : lv_has ls 4 [(3, rfv al 62 none), (0, .ref (al.2 49 0)), (1, .int lg), (2, .int cs)] := hl
    have hq4 := hp_1.2.2 rfl
    refine lv_aload_n hx hb dX11_minutes_22 rfl (lv_at hl 1 rfl) ?_
    refine lv_iconst (v := (-1)) hx hb dX11_minutes_23 (by decide) ?_
    refine q_fi (q_runV (t := 49) (i := 0) (As := [.int (-1)]) (rest := []) C hU (c_X11_refuse hG (-1) (by omega)) vm_X11_refuse ml_X11_77 k_49.1 (hc := rfl) rfl (h1_49 hG) hl.1 rfl rfl (Nat.le_of_ble_eq_true rfl) dX11_minutes_24 rfl rfl ⟨Nat.le_of_ble_eq_true rfl, Nat.le_of_ble_eq_true rfl⟩ ⟨Nat.le_refl _, Nat.le_refl _⟩) hS (fun x_12 iv_8 rv_9 H locs hG fa_10 fb_11 hp_7 hU hS => ?_)
    have hF1 := hF1.tr (m := ([51, 59], [])) fa_10 (by decide)
    have hF2 := hF2.tr (m := ([51, 59], [])) fb_11 (by decide)
    exact hret (⟨hG, hF1, hF2, by unfold mnS; rw [if_pos (by omega)]; exact hp_7⟩) hU hS dX11_minutes_27
  ·
    subst ej_6
    have hl : lv_has ls 4 [(3, .ref (al.2 62 j_5)), (0, .ref (al.2 49 0)), (1, .int lg), (2, .int cs)] := hl
    have hb_13 : j_5 < al.1 62 := hb_3 j_5 rfl
    have hq4 := hp_1.2.1 _ rfl
    have hn4 := hq4.1
    rw [clamp_n] at hn4
    refine lv_bipush (v := 6) hx hb dX11_minutes_13 (by decide) ?_
    refine lv_iload_n hx hb dX11_minutes_15 rfl (lv_at hl 3 rfl) ?_
    refine q_pi (q_runS (As := [.int 6, .int cs]) (rest := []) C hU (c_X11_isOneOf  6 cs ) sm_X11_isOneOf ml_X11_85 hl.1 rfl rfl (Nat.le_of_ble_eq_true rfl) dX11_minutes_16 rfl rfl ⟨Nat.le_of_ble_eq_true rfl, Nat.le_of_ble_eq_true rfl⟩ ⟨Nat.le_refl _, Nat.le_refl _⟩) hS (fun x_15 H locs hp_14 hU hS => ?_)
    refine b_if_ne (tgt := 28) hx hb dX11_minutes_19 (by decide) (fun c_16 => ?_) (fun c_16 => ?_)
    ·
      refine lv_aload_n hx hb dX11_minutes_28 rfl (lv_at hl 0 rfl) ?_
      refine g_62_7 C hU hG hb_13 fl_X11_126 dX11_minutes_29 (fun x_17 e_18 le_18 ue_18 => ?_)
      have te_18 := congrArg Int32.toInt e_18
      have hl7 := lg_done hG0 pre0.1 hb_13 hq4.1
      refine b_if_ne (tgt := 42) hx hb dX11_minutes_32 (by decide) (fun c_19 => ?_) (fun c_19 => ?_)
      ·
        refine lv_aload_n hx hb dX11_minutes_42 rfl (lv_at hl 1 rfl) ?_
        refine g_49_1 C hU hG (h1_49 hG) fl_X11_19 dX11_minutes_43 ?_
        refine lv_aload_n hx hb dX11_minutes_46 rfl (lv_at hl 0 rfl) ?_
        refine lv_aload_n hx hb dX11_minutes_47 rfl (lv_at hl 1 rfl) ?_
        refine g_49_7 C hU hG (h1_49 hG) fl_X11_67 dX11_minutes_48 ?_
        refine lv_iconst (v := 0) hx hb dX11_minutes_51 (by decide) ?_
        refine a_50 C hU hG (h1_50 hG) (x := 0) (by omega) (by omega) dX11_minutes_52 (fun x_20 e_21 le_21 ue_21 => ?_)
        have te_21 := congrArg Int32.toInt e_21
        refine lv_aload_n hx hb dX11_minutes_53 rfl (lv_at hl 1 rfl) ?_
        refine g_49_7 C hU hG (h1_49 hG) fl_X11_67 dX11_minutes_54 ?_
        refine lv_iconst (v := 1) hx hb dX11_minutes_57 (by decide) ?_
        refine a_50 C hU hG (h1_50 hG) (x := 1) (by omega) (by omega) dX11_minutes_58 (fun x_22 e_23 le_23 ue_23 => ?_)
        have te_23 := congrArg Int32.toInt e_23
        refine q_fv (q_runV (t := 57) (i := 0) (As := [.ref (al.2 62 j_5), .int x_20, .int x_22]) (rest := []) C hU (c_X10_trace_x hG (j_5) hb_13 x_20 x_22 (pre0) (by omega) (by rw [e_21]; exact (pre0.1.1.2.2 0 (by decide)).symm) (by rw [e_23]; exact (pre0.1.1.2.2 1 (by decide)).symm)) vm_X10_trace ml_X11_170 k_57.1 (hc := rfl) rfl (h1_57 hG) hl.1 rfl rfl (Nat.le_of_ble_eq_true rfl) dX11_minutes_59 rfl rfl ⟨Nat.le_of_ble_eq_true rfl, Nat.le_of_ble_eq_true rfl⟩ ⟨Nat.le_refl _, Nat.le_refl _⟩) hS (fun iv_25 rv_26 H locs hG fa_27 fb_28 hp_24 hU hS => ?_)
        have hF1 := hF1.tr (m := ([51, 59], [])) fa_27 (by decide)
        have hF2 := hF2.tr (m := ([51, 59], [])) fb_28 (by decide)
        refine lv_aload_n hx hb dX11_minutes_62 rfl (lv_at hl 1 rfl) ?_
        refine g_49_1 C hU hG (h1_49 hG) fl_X11_19 dX11_minutes_63 ?_
        refine g_57_2 C hU hG (h1_57 hG) fl_X11_174 dX11_minutes_66 ?_
        refine lv_iload_n hx hb dX11_minutes_69 rfl (lv_at hl 3 rfl) ?_
        refine a_59 C hU hG (h1_59 hG) (x := cs) (by omega) (by omega) dX11_minutes_70 (fun x_29 e_30 => ?_)
        have te_30 := congrArg Int32.toInt e_30
        exact hret (⟨hG, hF1, hF2, by unfold mnS; rw [if_neg (by omega), if_neg (by omega), e_30, ← hq4.1]; exact hp_24 _ (by rw [clamp_n]; omega)⟩) hU hS dX11_minutes_71
      ·
        refine lv_aload_n hx hb dX11_minutes_35 rfl (lv_at hl 1 rfl) ?_
        refine lv_bipush (v := (-5)) hx hb dX11_minutes_36 (by decide) ?_
        refine q_fi (q_runV (t := 49) (i := 0) (As := [.int (-5)]) (rest := []) C hU (c_X11_refuse hG (-5) (by omega)) vm_X11_refuse ml_X11_77 k_49.1 (hc := rfl) rfl (h1_49 hG) hl.1 rfl rfl (Nat.le_of_ble_eq_true rfl) dX11_minutes_38 rfl rfl ⟨Nat.le_of_ble_eq_true rfl, Nat.le_of_ble_eq_true rfl⟩ ⟨Nat.le_refl _, Nat.le_refl _⟩) hS (fun x_36 iv_32 rv_33 H locs hG fa_34 fb_35 hp_31 hU hS => ?_)
        have hF1 := hF1.tr (m := ([51, 59], [])) fa_34 (by decide)
        have hF2 := hF2.tr (m := ([51, 59], [])) fb_35 (by decide)
        exact hret (⟨hG, hF1, hF2, by unfold mnS; rw [if_neg (by omega), if_pos (by omega)]; exact hp_31⟩) hU hS dX11_minutes_41
    ·
      refine lv_aload_n hx hb dX11_minutes_22 rfl (lv_at hl 1 rfl) ?_
      refine lv_iconst (v := (-1)) hx hb dX11_minutes_23 (by decide) ?_
      refine q_fi (q_runV (t := 49) (i := 0) (As := [.int (-1)]) (rest := []) C hU (c_X11_refuse hG (-1) (by omega)) vm_X11_refuse ml_X11_77 k_49.1 (hc := rfl) rfl (h1_49 hG) hl.1 rfl rfl (Nat.le_of_ble_eq_true rfl) dX11_minutes_24 rfl rfl ⟨Nat.le_of_ble_eq_true rfl, Nat.le_of_ble_eq_true rfl⟩ ⟨Nat.le_refl _, Nat.le_refl _⟩) hS (fun x_42 iv_38 rv_39 H locs hG fa_40 fb_41 hp_37 hU hS => ?_)
      have hF1 := hF1.tr (m := ([51, 59], [])) fa_40 (by decide)
      have hF2 := hF2.tr (m := ([51, 59], [])) fb_41 (by decide)
      exact hret (⟨hG, hF1, hF2, by unfold mnS; rw [if_pos (by omega)]; exact hp_37⟩) hU hS dX11_minutes_27
