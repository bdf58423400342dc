set_option maxHeartbeats 4000000 in
set_option maxRecDepth 100000 in
theorem c_X11_waitOf_x {l : Launch} {D : va_G} {cA : FieldType → ClassId} {sz : Nat} {al : Al} {iv : Iv} {rv : Rv} (hG : GI al iv rv) (li : Nat) (hli : li < al.1 62) (crew : Int32) (pre0 : BL iv rv) (pre1 : ¬ (iv 62 li 7).toInt = 0) : Met l yX11_waitOf (wd yX11_waitOf cX11_waitOf 4 (some .int)) (rm 2) (PcW D cA sz al iv rv [.ref (al.2 49 0), .ref (al.2 62 li), .int crew]) (QI D cA sz al (pI iv rv (fun r => r = wtF iv li crew))) 0 0 (Aq sz) := by
  refine mk_i (by decide) (Nat.le_of_ble_eq_true rfl) rfl ?_
  intro p e s m args below meth c ls Q H locs C hU hS hl hret
  have hx := C.1.1
  have hb := C.1.2.1
  have hl : lv_has ls 4 [(0, .ref (al.2 49 0)), (1, .ref (al.2 62 li)), (2, .int crew)] := hl
  have hG0 := hG
  refine lv_aload_n hx hb dX11_waitOf_0 rfl (lv_at hl 0 rfl) ?_
  refine lv_iload_n hx hb dX11_waitOf_1 rfl (lv_at hl 2 rfl) ?_
  refine q_pi (q_runV (t := 49) (i := 0) (As := [.int crew]) (rest := []) C hU (c_X11_gapFor_x hG crew (pre0.1)) vm_X11_gapFor ml_X11_159 k_49.1 (hc := rfl) rfl (h1_49 hG) hl.1 rfl rfl (Nat.le_of_ble_eq_true rfl) dX11_waitOf_2 rfl rfl ⟨Nat.le_of_ble_eq_true rfl, Nat.le_of_ble_eq_true rfl⟩ ⟨Nat.le_refl _, Nat.le_refl _⟩) hS (fun x_2 H locs hp_1 hU hS => ?_)
  refine lv_istore_n (lv' := [(3, .int x_2), (0, .ref (al.2 49 0)), (1, .ref (al.2 62 li)), (2, .int crew)]) hx hb dX11_waitOf_5 rfl hl (by decide) rfl (fun ls hl => ?_)
  refine lv_aload_n hx hb dX11_waitOf_6 rfl (lv_at hl 2 rfl) ?_
  refine lv_aload_n hx hb dX11_waitOf_7 rfl (lv_at hl 1 rfl) ?_
  refine g_49_1 C hU hG (h1_49 hG) fl_X11_19 dX11_waitOf_8 ?_
  refine lv_aload_n hx hb dX11_waitOf_11 rfl (lv_at hl 2 rfl) ?_
  refine lv_iload_n hx hb dX11_waitOf_12 rfl (lv_at hl 3 rfl) ?_
  refine lv_iload_n hx hb dX11_waitOf_13 rfl (lv_at hl 0 rfl) ?_
  refine q_pr (q_runV (t := 57) (i := 0) (As := [.ref (al.2 62 li), .int crew, .int x_2]) (rest := [.ref (al.2 62 li)]) C hU (c_X10_aheadOf_x hG (li) hli crew x_2 (pre0.1) (hp_1.2)) vm_X10_aheadOf ml_X11_163 k_57.1 (hc := rfl) rfl (h1_57 hG) hl.1 rfl rfl (Nat.le_of_ble_eq_true rfl) dX11_waitOf_14 rfl rfl ⟨Nat.le_of_ble_eq_true rfl, Nat.le_of_ble_eq_true rfl⟩ ⟨Nat.le_refl _, Nat.le_refl _⟩) hS (fun r_4 H locs hp_3 hU hS => ?_)
  have hb_5 := hp_3.1
  refine lv_iload_n hx hb dX11_waitOf_17 rfl (lv_at hl 0 rfl) ?_
  refine q_pi (q_runV (t := 62) (i := li) (As := [rfv al 62 r_4, .int x_2]) (rest := []) C hU (c_X5_waitFor_x hG (li) hli r_4 hb_5 x_2 ) vm_X5_waitFor ml_X11_336 k_62.1 (hc := rfl) rfl hli hl.1 rfl rfl (Nat.le_of_ble_eq_true rfl) dX11_waitOf_18 rfl rfl ⟨Nat.le_of_ble_eq_true rfl, Nat.le_of_ble_eq_true rfl⟩ ⟨Nat.le_refl _, Nat.le_refl _⟩) hS (fun x_7 H locs hp_6 hU hS => ?_)
  exact hret (⟨rfl, rfl, by have z := hp_6; rw [hp_3.2, hp_1.2] at z; rw [z]; exact wt_x hG0 pre0 hli pre1⟩) hU hS dX11_waitOf_21
set_option maxHeartbeats 4000000 in
set_option maxRecDepth 100000 in
theorem c_X11_handedTo_x {l : Launch} {D : va_G} {cA : FieldType → ClassId} {sz : Nat} {al : Al} {iv : Iv} {rv : Rv} (hG : GI al iv rv) (li : Nat) (hli : li < al.1 62) (pre0 : BL iv rv) (pre1 : ¬ (iv 62 li 7).toInt = 0) : Met l yX11_handedTo (wd yX11_handedTo cX11_handedTo 2 (some .int)) (rm 3) (PcW D cA sz al iv rv [.ref (al.2 49 0), .ref (al.2 62 li)]) (QI D cA sz al (pI iv rv (fun r => r = hdF iv li))) 0 0 (Aq sz) := by
  refine mk_i (by decide) (Nat.le_of_ble_eq_true rfl) rfl ?_
  intro p e s m args below meth c ls Q H locs C hU hS hl hret
  have hx := C.1.1
  have hb := C.1.2.1
  have hl : lv_has ls 2 [(0, .ref (al.2 49 0)), (1, .ref (al.2 62 li))] := hl
  have hG0 := hG
  have k0 : (0 : Int32).toInt = 0 := by decide
  have k1 : (1 : Int32).toInt = 1 := by decide
  refine lv_aload_n hx hb dX11_handedTo_0 rfl (lv_at hl 1 rfl) ?_
  refine g_62_13 C hU hG hli fl_X11_145 dX11_handedTo_1 (fun x_1 e_2 => ?_)
  have te_2 := congrArg Int32.toInt e_2
  refine lv_aload_n hx hb dX11_handedTo_4 rfl (lv_at hl 0 rfl) ?_
  refine lv_aload_n hx hb dX11_handedTo_5 rfl (lv_at hl 1 rfl) ?_
  refine lv_iconst (v := 0) hx hb dX11_handedTo_6 (by decide) ?_
  refine q_pi (q_runV (t := 49) (i := 0) (As := [.ref (al.2 62 li), .int 0]) (rest := [.int x_1]) C hU (c_X11_waitOf_x hG (li) hli 0 (pre0) (pre1)) vm_X11_waitOf ml_X11_151 k_49.1 (hc := rfl) rfl (h1_49 hG) hl.1 rfl rfl (Nat.le_of_ble_eq_true rfl) dX11_handedTo_7 rfl rfl ⟨Nat.le_of_ble_eq_true rfl, Nat.le_of_ble_eq_true rfl⟩ ⟨Nat.le_refl _, Nat.le_refl _⟩) hS (fun x_4 H locs hp_3 hU hS => ?_)
  refine lv_aload_n hx hb dX11_handedTo_10 rfl (lv_at hl 0 rfl) ?_
  refine lv_aload_n hx hb dX11_handedTo_11 rfl (lv_at hl 1 rfl) ?_
  refine lv_iconst (v := 1) hx hb dX11_handedTo_12 (by decide) ?_
  refine q_pi (q_runV (t := 49) (i := 0) (As := [.ref (al.2 62 li), .int 1]) (rest := [.int x_4, .int x_1]) C hU (c_X11_waitOf_x hG (li) hli 1 (pre0) (pre1)) vm_X11_waitOf ml_X11_151 k_49.1 (hc := rfl) rfl (h1_49 hG) hl.1 rfl rfl (Nat.le_of_ble_eq_true rfl) dX11_handedTo_13 rfl rfl ⟨Nat.le_of_ble_eq_true rfl, Nat.le_of_ble_eq_true rfl⟩ ⟨Nat.le_refl _, Nat.le_refl _⟩) hS (fun x_6 H locs hp_5 hU hS => ?_)
  refine q_max C hl.1 ml_X11_180 (Nat.le_of_ble_eq_true rfl) (Nat.le_of_ble_eq_true rfl) (Nat.le_refl _) (Nat.le_refl _) dX11_handedTo_16 (fun x_7 q_8 tq_8 => ?_)
  refine q_min C hl.1 ml_X11_340 (Nat.le_of_ble_eq_true rfl) (Nat.le_of_ble_eq_true rfl) (Nat.le_refl _) (Nat.le_refl _) dX11_handedTo_19 (fun x_9 q_10 tq_10 => ?_)
  exact hret (⟨rfl, rfl, by rw [q_10, q_8, hp_3, hp_5, e_2]; exact hd_x hG0 pre0 hli pre1⟩) hU hS dX11_handedTo_22
set_option maxHeartbeats 4000000 in
set_option maxRecDepth 100000 in
theorem c_X11_legOf_x {l : Launch} {D : va_G} {cA : FieldType → ClassId} {sz : Nat} {al : Al} {iv : Iv} {rv : Rv} (hG : GI al iv rv) (lg : Int32) (what : Int32) (pre0 : BL iv rv) : Met l yX11_legOf (wd yX11_legOf cX11_legOf 4 (some .int)) (rm 4) (PcW D cA sz al iv rv [.ref (al.2 49 0), .int lg, .int what]) (QI D cA sz al (fI al ([51], []) iv rv (fun r iv' rv' => r = loS iv lg what))) 0 0 (Aq sz) := by
  refine mk_i (by decide) (Nat.le_of_ble_eq_true rfl) rfl ?_
  intro p e s m args below meth c ls Q H locs C hU hS hl hret
  have hx := C.1.1
  have hb := C.1.2.1
  have hl : lv_has ls 4 [(0, .ref (al.2 49 0)), (1, .int lg), (2, .int what)] := hl
  have hG0 := hG
  have hn6 := congrArg Int32.toInt pre0.1.1
  have hF1 : FR ([51], []) iv iv := FR.rf
  have hF2 : FR ([51], []) rv rv := FR.rf
  have km5 : ((-5) : Int32).toInt = -5 := by decide
  have km2 : ((-2) : Int32).toInt = -2 := by decide
  have km1 : ((-1) : Int32).toInt = -1 := by decide
  have k0 : (0 : Int32).toInt = 0 := by decide
  have k1 : (1 : Int32).toInt = 1 := by decide
  have k6 : (6 : Int32).toInt = 6 := by decide
  refine lv_aload_n hx hb dX11_legOf_0 rfl (lv_at hl 0 rfl) ?_
  refine g_49_1 C hU hG (h1_49 hG) fl_X11_19 dX11_legOf_1 ?_
  refine lv_iload_n hx hb dX11_legOf_4 rfl (lv_at hl 1 rfl) ?_
  refine q_pr (q_runV (t := 57) (i := 0) (As := [.int lg]) (rest := []) C hU (c_X10_find hG lg ) vm_X10_find ml_X11_123 k_57.1 (hc := rfl) rfl (h1_57 hG) hl.1 rfl rfl (Nat.le_of_ble_eq_true rfl) dX11_legOf_5 rfl rfl ⟨Nat.le_of_ble_eq_true rfl, Nat.le_of_ble_eq_true rfl⟩ ⟨Nat.le_refl _, Nat.le_refl _⟩) hS (fun r_2 H locs hp_1 hU hS => ?_)
  have hb_3 := hp_1.1
  refine b_astore_n (lv' := [(3, rfv al 62 r_2), (0, .ref (al.2 49 0)), (1, .int lg), (2, .int what)]) hx hb dX11_legOf_8 rfl hl (by decide) rfl (fun ls hl => ?_)
  refine b_aload_n (al := al) (t' := 62) (r := r_2) hx hb dX11_legOf_9 rfl (lv_at hl 0 rfl) ?_
  refine b_ifnonnull (tgt := 19) hx hb dX11_legOf_10 (by decide) (fun j_5 ej_6 => ?_) (fun ej_6 => ?_)
  ·
    subst ej_6
    have hl : lv_has ls 4 [(3, .ref (al.2 62 j_5)), (0, .ref (al.2 49 0)), (1, .int lg), (2, .int what)] := hl
    have hb_7 : j_5 < al.1 62 := hb_3 j_5 rfl
    have hq4 := hp_1.2.1 _ rfl
    have hn4 := hq4.1
    rw [clamp_n] at hn4
    refine lv_bipush (v := 6) hx hb dX11_legOf_19 (by decide) ?_
    refine lv_iload_n hx hb dX11_legOf_21 rfl (lv_at hl 3 rfl) ?_
    refine q_pi (q_runS (As := [.int 6, .int what]) (rest := []) C hU (c_X11_isOneOf  6 what ) sm_X11_isOneOf ml_X11_85 hl.1 rfl rfl (Nat.le_of_ble_eq_true rfl) dX11_legOf_22 rfl rfl ⟨Nat.le_of_ble_eq_true rfl, Nat.le_of_ble_eq_true rfl⟩ ⟨Nat.le_refl _, Nat.le_refl _⟩) hS (fun x_9 H locs hp_8 hU hS => ?_)
    refine b_if_ne (tgt := 35) hx hb dX11_legOf_25 (by decide) (fun c_10 => ?_) (fun c_10 => ?_)
    ·
      refine lv_aload_n hx hb dX11_legOf_35 rfl (lv_at hl 0 rfl) ?_
      refine g_62_7 C hU hG hb_7 fl_X11_126 dX11_legOf_36 (fun x_11 e_12 le_12 ue_12 => ?_)
      have te_12 := congrArg Int32.toInt e_12
      have hl7 := lg_done hG0 pre0 hb_7 hq4.1
      refine b_if_ne (tgt := 49) hx hb dX11_legOf_39 (by decide) (fun c_13 => ?_) (fun c_13 => ?_)
      ·
        refine lv_iload_n hx hb dX11_legOf_49 rfl (lv_at hl 3 rfl) ?_
        refine b_table hx hb dX11_legOf_50 114 (by decide) [84, 89, 94, 101, 108] (by decide) (fun j hj => ?_) (fun c_14 => ?_) (fun j tt htt c_14 => ?_)
        ·
          match j, hj with
          | 0, _ => exact ⟨34, 84, by decide, by decide, by decide⟩
          | 1, _ => exact ⟨39, 89, by decide, by decide, by decide⟩
          | 2, _ => exact ⟨44, 94, by decide, by decide, by decide⟩
          | 3, _ => exact ⟨51, 101, by decide, by decide, by decide⟩
          | 4, _ => exact ⟨58, 108, by decide, by decide, by decide⟩
          | q + 5, hq => exact absurd hq (by simp)
        ·
          have hrt := rt_x hG0 pre0 hb_7 (by omega)
          refine lv_aload_n hx hb dX11_legOf_114 rfl (lv_at hl 0 rfl) ?_
          refine g_62_13 C hU hG hb_7 fl_X11_145 dX11_legOf_115 (fun x_15 e_16 => ?_)
          have te_16 := congrArg Int32.toInt e_16
          refine lv_aload_n hx hb dX11_legOf_118 rfl (lv_at hl 1 rfl) ?_
          refine lv_aload_n hx hb dX11_legOf_119 rfl (lv_at hl 0 rfl) ?_
          refine q_pi (q_runV (t := 49) (i := 0) (As := [.ref (al.2 62 j_5)]) (rest := [.int x_15]) C hU (c_X11_handedTo_x hG (j_5) hb_7 (pre0) (by omega)) vm_X11_handedTo ml_X11_155 k_49.1 (hc := rfl) rfl (h1_49 hG) hl.1 rfl rfl (Nat.le_of_ble_eq_true rfl) dX11_legOf_120 rfl rfl ⟨Nat.le_of_ble_eq_true rfl, Nat.le_of_ble_eq_true rfl⟩ ⟨Nat.le_refl _, Nat.le_refl _⟩) hS (fun x_18 H locs hp_17 hU hS => ?_)
          refine lv_isub hx hb dX11_legOf_123 ?_
          refine lv_topi (fun x_19 e_20 => ?_)
          exact hret (⟨hG, hF1, hF2, by unfold loS; rw [if_neg (by omega), if_neg (by omega), if_neg (by omega), if_neg (by omega), if_neg (by omega), if_neg (by omega), if_neg (by omega), if_neg (by omega), e_20, e_16, hrt.2.2.2, hp_17, hq4.1]⟩) hU hS dX11_legOf_124
        ·
          match j, htt with
          | 0, htt =>
            cases htt
            have hrt := rt_x hG0 pre0 hb_7 (by omega)
            refine lv_aload_n hx hb dX11_legOf_84 rfl (lv_at hl 0 rfl) ?_
            refine g_62_13 C hU hG hb_7 fl_X11_145 dX11_legOf_85 (fun x_21 e_22 => ?_)
            have te_22 := congrArg Int32.toInt e_22
            exact hret (⟨hG, hF1, hF2, by unfold loS; rw [if_neg (by omega), if_neg (by omega), if_neg (by omega), if_pos (by omega), e_22, hrt.2.2.2, hq4.1]⟩) hU hS dX11_legOf_88
          | 1, htt =>
            cases htt
            have hrt := rt_x hG0 pre0 hb_7 (by omega)
            refine lv_aload_n hx hb dX11_legOf_89 rfl (lv_at hl 0 rfl) ?_
            refine g_62_12 C hU hG hb_7 fl_X11_148 dX11_legOf_90 (fun x_23 e_24 => ?_)
            have te_24 := congrArg Int32.toInt e_24
            exact hret (⟨hG, hF1, hF2, by unfold loS; rw [if_neg (by omega), if_neg (by omega), if_neg (by omega), if_neg (by omega), if_pos (by omega), e_24, hrt.2.2.1, hq4.1]⟩) hU hS dX11_legOf_93
          | 2, htt =>
            cases htt
            refine lv_aload_n hx hb dX11_legOf_94 rfl (lv_at hl 1 rfl) ?_
            refine lv_aload_n hx hb dX11_legOf_95 rfl (lv_at hl 0 rfl) ?_
            refine lv_iconst (v := 0) hx hb dX11_legOf_96 (by decide) ?_
            refine q_pi (q_runV (t := 49) (i := 0) (As := [.ref (al.2 62 j_5), .int 0]) (rest := []) C hU (c_X11_waitOf_x hG (j_5) hb_7 0 (pre0) (by omega)) vm_X11_waitOf ml_X11_151 k_49.1 (hc := rfl) rfl (h1_49 hG) hl.1 rfl rfl (Nat.le_of_ble_eq_true rfl) dX11_legOf_97 rfl rfl ⟨Nat.le_of_ble_eq_true rfl, Nat.le_of_ble_eq_true rfl⟩ ⟨Nat.le_refl _, Nat.le_refl _⟩) hS (fun x_26 H locs hp_25 hU hS => ?_)
            exact hret (⟨hG, hF1, hF2, by unfold loS; rw [if_neg (by omega), if_neg (by omega), if_neg (by omega), if_neg (by omega), if_neg (by omega), if_pos (by omega), hp_25, hq4.1]⟩) hU hS dX11_legOf_100
          | 3, htt =>
            cases htt
            refine lv_aload_n hx hb dX11_legOf_101 rfl (lv_at hl 1 rfl) ?_
            refine lv_aload_n hx hb dX11_legOf_102 rfl (lv_at hl 0 rfl) ?_
            refine lv_iconst (v := 1) hx hb dX11_legOf_103 (by decide) ?_
            refine q_pi (q_runV (t := 49) (i := 0) (As := [.ref (al.2 62 j_5), .int 1]) (rest := []) C hU (c_X11_waitOf_x hG (j_5) hb_7 1 (pre0) (by omega)) vm_X11_waitOf ml_X11_151 k_49.1 (hc := rfl) rfl (h1_49 hG) hl.1 rfl rfl (Nat.le_of_ble_eq_true rfl) dX11_legOf_104 rfl rfl ⟨Nat.le_of_ble_eq_true rfl, Nat.le_of_ble_eq_true rfl⟩ ⟨Nat.le_refl _, Nat.le_refl _⟩) hS (fun x_28 H locs hp_27 hU hS => ?_)
            exact hret (⟨hG, hF1, hF2, by unfold loS; rw [if_neg (by omega), if_neg (by omega), if_neg (by omega), if_neg (by omega), if_neg (by omega), if_neg (by omega), if_pos (by omega), hp_27, hq4.1]⟩) hU hS dX11_legOf_107
          | 4, htt =>
            cases htt
            refine lv_aload_n hx hb dX11_legOf_108 rfl (lv_at hl 1 rfl) ?_
            refine lv_aload_n hx hb dX11_legOf_109 rfl (lv_at hl 0 rfl) ?_
            refine q_pi (q_runV (t := 49) (i := 0) (As := [.ref (al.2 62 j_5)]) (rest := []) C hU (c_X11_handedTo_x hG (j_5) hb_7 (pre0) (by omega)) vm_X11_handedTo ml_X11_155 k_49.1 (hc := rfl) rfl (h1_49 hG) hl.1 rfl rfl (Nat.le_of_ble_eq_true rfl) dX11_legOf_110 rfl rfl ⟨Nat.le_of_ble_eq_true rfl, Nat.le_of_ble_eq_true rfl⟩ ⟨Nat.le_refl _, Nat.le_refl _⟩) hS (fun x_30 H locs hp_29 hU hS => ?_)
            exact hret (⟨hG, hF1, hF2, by unfold loS; rw [if_neg (by omega), if_neg (by omega), if_neg (by omega), if_neg (by omega), if_neg (by omega), if_neg (by omega), if_neg (by omega), if_pos (by omega), hp_29, hq4.1]⟩) hU hS dX11_legOf_113
          | q + 5, htt => simp at htt
      ·
        refine lv_aload_n hx hb dX11_legOf_42 rfl (lv_at hl 1 rfl) ?_
        refine lv_bipush (v := (-5)) hx hb dX11_legOf_43 (by decide) ?_
        refine q_fi (q_runV (t := 49) (i := 0) (As := [.int (-5)]) (rest := []) C hU (c_X11_refuse hG (-5) (by omega)) vm_X11_refuse ml_X11_77 k_49.1 (hc := rfl) rfl (h1_49 hG) hl.1 rfl rfl (Nat.le_of_ble_eq_true rfl) dX11_legOf_45 rfl rfl ⟨Nat.le_of_ble_eq_true rfl, Nat.le_of_ble_eq_true rfl⟩ ⟨Nat.le_refl _, Nat.le_refl _⟩) hS (fun x_36 iv_32 rv_33 H locs hG fa_34 fb_35 hp_31 hU hS => ?_)
        have hF1 := hF1.tr (m := ([51], [])) fa_34 (by decide)
        have hF2 := hF2.tr (m := ([51], [])) fb_35 (by decide)
        exact hret (⟨hG, hF1, hF2, by unfold loS; rw [if_neg (by omega), if_neg (by omega), if_pos (by omega)]; exact hp_31⟩) hU hS dX11_legOf_48
    ·
      refine lv_aload_n hx hb dX11_legOf_28 rfl (lv_at hl 1 rfl) ?_
      refine lv_bipush (v := (-2)) hx hb dX11_legOf_29 (by decide) ?_
      refine q_fi (q_runV (t := 49) (i := 0) (As := [.int (-2)]) (rest := []) C hU (c_X11_refuse hG (-2) (by omega)) vm_X11_refuse ml_X11_77 k_49.1 (hc := rfl) rfl (h1_49 hG) hl.1 rfl rfl (Nat.le_of_ble_eq_true rfl) dX11_legOf_31 rfl rfl ⟨Nat.le_of_ble_eq_true rfl, Nat.le_of_ble_eq_true rfl⟩ ⟨Nat.le_refl _, Nat.le_refl _⟩) hS (fun x_42 iv_38 rv_39 H locs hG fa_40 fb_41 hp_37 hU hS => ?_)
      have hF1 := hF1.tr (m := ([51], [])) fa_40 (by decide)
      have hF2 := hF2.tr (m := ([51], [])) fb_41 (by decide)
      exact hret (⟨hG, hF1, hF2, by unfold loS; rw [if_neg (by omega), if_pos (by omega)]; exact hp_37⟩) hU hS dX11_legOf_34
  ·
    subst ej_6
    have hl : lv_has ls 4 [(3, rfv al 62 none), (0, .ref (al.2 49 0)), (1, .int lg), (2, .int what)] := hl
    have hq4 := hp_1.2.2 rfl
    refine lv_aload_n hx hb dX11_legOf_13 rfl (lv_at hl 1 rfl) ?_
    refine lv_iconst (v := (-1)) hx hb dX11_legOf_14 (by decide) ?_
    refine q_fi (q_runV (t := 49) (i := 0) (As := [.int (-1)]) (rest := []) C hU (c_X11_refuse hG (-1) (by omega)) vm_X11_refuse ml_X11_77 k_49.1 (hc := rfl) rfl (h1_49 hG) hl.1 rfl rfl (Nat.le_of_ble_eq_true rfl) dX11_legOf_15 rfl rfl ⟨Nat.le_of_ble_eq_true rfl, Nat.le_of_ble_eq_true rfl⟩ ⟨Nat.le_refl _, Nat.le_refl _⟩) hS (fun x_48 iv_44 rv_45 H locs hG fa_46 fb_47 hp_43 hU hS => ?_)
    have hF1 := hF1.tr (m := ([51], [])) fa_46 (by decide)
    have hF2 := hF2.tr (m := ([51], [])) fb_47 (by decide)
    exact hret (⟨hG, hF1, hF2, by unfold loS; rw [if_pos (by omega)]; exact hp_43⟩) hU hS dX11_legOf_18
set_option maxHeartbeats 4000000 in
set_option maxRecDepth 100000 in
theorem c_X12_saved_x {l : Launch} {D : va_G} {cA : FieldType → ClassId} {sz : Nat} {al : Al} {iv : Iv} {rv : Rv} (hG : GI al iv rv) (lg : Int32) (fr : Int32) : Met l yX12_saved (wd yX12_saved cX12_saved 4 (some .int)) (rm 4) (PcW D cA sz al iv rv [.ref (al.2 0 0), .int lg, .int fr]) (QI D cA sz al (fI al ([16], []) iv rv (fun r iv' rv' => r = svS iv lg fr))) 0 0 (Aq sz) := by
  refine mk_i (by decide) (Nat.le_of_ble_eq_true rfl) rfl ?_
  intro p e s m args below meth c ls Q H locs C hU hS hl hret
  have hx := C.1.1
  have hb := C.1.2.1
  have hl : lv_has ls 4 [(0, .ref (al.2 0 0)), (1, .int lg), (2, .int fr)] := hl
  have hG0 := hG
  have h6 := le6 hG
  have h20 := le20 hG
  have h41 := le41 hG
  have hF1 : FR ([16], []) iv iv := FR.rf
  have hF2 : FR ([16], []) rv rv := FR.rf
  have km6 : ((-6) : Int32).toInt = -6 := by decide
  have km5 : ((-5) : Int32).toInt = -5 := by decide
  have km4 : ((-4) : Int32).toInt = -4 := by decide
  have km1 : ((-1) : Int32).toInt = -1 := by decide
  have k1 : (1 : Int32).toInt = 1 := by decide
  have k30000 : (30000 : Int32).toInt = 30000 := by decide
  refine lv_aload_n hx hb dX12_saved_0 rfl (lv_at hl 0 rfl) ?_
  refine lv_iload_n hx hb dX12_saved_1 rfl (lv_at hl 1 rfl) ?_
  refine q_pi (q_runV (t := 0) (i := 0) (As := [.int lg]) (rest := []) C hU (c_X12_isLeg hG lg ) vm_X12_isLeg ml_X12_181 k_0.1 (hc := rfl) rfl (h1_0 hG) hl.1 rfl rfl (Nat.le_of_ble_eq_true rfl) dX12_saved_2 rfl rfl ⟨Nat.le_of_ble_eq_true rfl, Nat.le_of_ble_eq_true rfl⟩ ⟨Nat.le_refl _, Nat.le_refl _⟩) hS (fun x_2 H locs hp_1 hU hS => ?_)
  refine b_if_ne (tgt := 14) hx hb dX12_saved_5 (by decide) (fun c_3 => ?_) (fun c_3 => ?_)
  ·
    refine lv_aload_n hx hb dX12_saved_14 rfl (lv_at hl 0 rfl) ?_
    refine g_0_13 C hU hG (h1_0 hG) fl_X12_40 dX12_saved_15 ?_
    refine lv_iload_n hx hb dX12_saved_18 rfl (lv_at hl 1 rfl) ?_
    refine a_11 C hU hG (h1_11 hG) (x := lg) (by omega) (by omega) dX12_saved_19 (fun x_4 e_5 le_5 ue_5 => ?_)
    have te_5 := congrArg Int32.toInt e_5
    refine b_if_ne (tgt := 30) hx hb dX12_saved_20 (by decide) (fun c_6 => ?_) (fun c_6 => ?_)
    ·
      refine lv_iload_n hx hb dX12_saved_30 rfl (lv_at hl 2 rfl) ?_
      refine b_if_ge (tgt := 41) hx hb dX12_saved_31 (by decide) (fun c_7 => ?_) (fun c_7 => ?_)
      ·
        refine lv_iload_n hx hb dX12_saved_41 rfl (lv_at hl 2 rfl) ?_
        refine lv_sipush (v := 30000) hx hb dX12_saved_42 (by decide) ?_
        refine b_icmp_le (tgt := 55) hx hb dX12_saved_45 (by decide) (fun c_8 => ?_) (fun c_8 => ?_)
        ·
          refine lv_aload_n hx hb dX12_saved_55 rfl (lv_at hl 0 rfl) ?_
          refine g_0_11 C hU hG (h1_0 hG) fl_X12_34 dX12_saved_56 ?_
          refine lv_iload_n hx hb dX12_saved_59 rfl (lv_at hl 1 rfl) ?_
          refine a_9 C hU hG (h1_9 hG) (x := lg) (by omega) (by omega) dX12_saved_60 (fun x_9 e_10 le_10 ue_10 => ?_)
          have te_10 := congrArg Int32.toInt e_10
          refine lv_aload_n hx hb dX12_saved_61 rfl (lv_at hl 0 rfl) ?_
          refine lv_iload_n hx hb dX12_saved_62 rfl (lv_at hl 1 rfl) ?_
          refine lv_iconst (v := 1) hx hb dX12_saved_63 (by decide) ?_
          refine q_pi (q_runV (t := 0) (i := 0) (As := [.int lg, .int 1]) (rest := [.int x_9]) C hU (c_X12_waitOf hG lg 1 (by omega)) vm_X12_waitOf ml_X12_207 k_0.1 (hc := rfl) rfl (h1_0 hG) hl.1 rfl rfl (Nat.le_of_ble_eq_true rfl) dX12_saved_64 rfl rfl ⟨Nat.le_of_ble_eq_true rfl, Nat.le_of_ble_eq_true rfl⟩ ⟨Nat.le_refl _, Nat.le_refl _⟩) hS (fun x_12 H locs hp_11 hU hS => ?_)
          have q_13 := hp_11.2
          have tq_13 := congrArg Int32.toInt q_13
          refine lv_iadd hx hb dX12_saved_67 ?_
          refine lv_topi (fun x_14 e_15 => ?_)
          refine lv_istore_n (lv' := [(3, .int x_14), (0, .ref (al.2 0 0)), (1, .int lg), (2, .int fr)]) hx hb dX12_saved_68 rfl hl (by decide) rfl (fun ls hl => ?_)
          refine lv_iload_n hx hb dX12_saved_69 rfl (lv_at hl 3 rfl) ?_
          refine lv_iload_n hx hb dX12_saved_70 rfl (lv_at hl 0 rfl) ?_
          refine b_icmp_le (tgt := 78) hx hb dX12_saved_71 (by decide) (fun c_16 => ?_) (fun c_16 => ?_)
          ·
            refine lv_iload_n hx hb dX12_saved_78 rfl (lv_at hl 0 rfl) ?_
            refine lv_istore_n (lv' := [(3, .int x_14), (0, .ref (al.2 0 0)), (1, .int lg), (2, .int fr)]) hx hb dX12_saved_79 rfl hl (by decide) rfl (fun ls hl => ?_)
            refine lv_aload_n hx hb dX12_saved_80 rfl (lv_at hl 1 rfl) ?_
            refine lv_iload_n hx hb dX12_saved_81 rfl (lv_at hl 2 rfl) ?_
            refine q_pi (q_runV (t := 0) (i := 0) (As := [.int lg]) (rest := []) C hU (c_X12_rightLeave hG lg (by omega)) vm_X12_rightLeave ml_X12_193 k_0.1 (hc := rfl) rfl (h1_0 hG) hl.1 rfl rfl (Nat.le_of_ble_eq_true rfl) dX12_saved_82 rfl rfl ⟨Nat.le_of_ble_eq_true rfl, Nat.le_of_ble_eq_true rfl⟩ ⟨Nat.le_refl _, Nat.le_refl _⟩) hS (fun x_18 H locs hp_17 hU hS => ?_)
            have q_19 := hp_17.2
            have tq_19 := congrArg Int32.toInt q_19
            refine lv_iload_n hx hb dX12_saved_85 rfl (lv_at hl 0 rfl) ?_
            refine lv_isub hx hb dX12_saved_86 ?_
            refine lv_topi (fun x_20 e_21 => ?_)
            have w_22 := fb_rng x_18
            have w_23 := fb_rng x_14
            have te_21 : x_20.toInt = (x_18 : Int32).toInt - (x_14 : Int32).toInt := by rw [e_21]; exact fb_subI (by omega) (by omega)
            refine q_pi (q_runS (As := [.int x_20]) (rest := []) C hU (c_X12_over  x_20 ) sm_X12_over ml_X12_187 hl.1 rfl rfl (Nat.le_of_ble_eq_true rfl) dX12_saved_87 rfl rfl ⟨Nat.le_of_ble_eq_true rfl, Nat.le_of_ble_eq_true rfl⟩ ⟨Nat.le_refl _, Nat.le_refl _⟩) hS (fun x_25 H locs hp_24 hU hS => ?_)
            have q_26 := hp_24.2
            have tq_26 := congrArg Int32.toInt q_26
            exact hret (⟨hG, hF1, hF2, by unfold svS; rw [if_neg (by omega), if_neg (by omega), if_neg (by omega), if_neg (by omega), q_26, e_21, q_19, ← q_13, ← e_10, ← e_15]; first | rw [if_pos (by omega)] | rw [if_neg (by omega)]⟩) hU hS dX12_saved_90
          ·
            refine lv_iload_n hx hb dX12_saved_74 rfl (lv_at hl 3 rfl) ?_
            refine lv_goto (tgt := 79) hx hb dX12_saved_75 (by decide) ?_
            refine lv_istore_n (lv' := [(3, .int fr), (0, .ref (al.2 0 0)), (1, .int lg), (2, .int fr)]) hx hb dX12_saved_79 rfl hl (by decide) rfl (fun ls hl => ?_)
            refine lv_aload_n hx hb dX12_saved_80 rfl (lv_at hl 1 rfl) ?_
            refine lv_iload_n hx hb dX12_saved_81 rfl (lv_at hl 2 rfl) ?_
            refine q_pi (q_runV (t := 0) (i := 0) (As := [.int lg]) (rest := []) C hU (c_X12_rightLeave hG lg (by omega)) vm_X12_rightLeave ml_X12_193 k_0.1 (hc := rfl) rfl (h1_0 hG) hl.1 rfl rfl (Nat.le_of_ble_eq_true rfl) dX12_saved_82 rfl rfl ⟨Nat.le_of_ble_eq_true rfl, Nat.le_of_ble_eq_true rfl⟩ ⟨Nat.le_refl _, Nat.le_refl _⟩) hS (fun x_28 H locs hp_27 hU hS => ?_)
            have q_29 := hp_27.2
            have tq_29 := congrArg Int32.toInt q_29
            refine lv_iload_n hx hb dX12_saved_85 rfl (lv_at hl 0 rfl) ?_
            refine lv_isub hx hb dX12_saved_86 ?_
            refine lv_topi (fun x_30 e_31 => ?_)
            have w_32 := fb_rng x_28
            have te_31 : x_30.toInt = (x_28 : Int32).toInt - (fr : Int32).toInt := by rw [e_31]; exact fb_subI (by omega) (by omega)
            refine q_pi (q_runS (As := [.int x_30]) (rest := []) C hU (c_X12_over  x_30 ) sm_X12_over ml_X12_187 hl.1 rfl rfl (Nat.le_of_ble_eq_true rfl) dX12_saved_87 rfl rfl ⟨Nat.le_of_ble_eq_true rfl, Nat.le_of_ble_eq_true rfl⟩ ⟨Nat.le_refl _, Nat.le_refl _⟩) hS (fun x_34 H locs hp_33 hU hS => ?_)
            have q_35 := hp_33.2
            have tq_35 := congrArg Int32.toInt q_35
            exact hret (⟨hG, hF1, hF2, by unfold svS; rw [if_neg (by omega), if_neg (by omega), if_neg (by omega), if_neg (by omega), q_35, e_31, q_29, ← q_13, ← e_10, ← e_15]; first | rw [if_pos (by omega)] | rw [if_neg (by omega)]⟩) hU hS dX12_saved_90
        ·
          refine lv_aload_n hx hb dX12_saved_48 rfl (lv_at hl 0 rfl) ?_
          refine lv_bipush (v := (-6)) hx hb dX12_saved_49 (by decide) ?_
          refine q_fi (q_runV (t := 0) (i := 0) (As := [.int (-6)]) (rest := []) C hU (c_X12_refuse hG (-6) (by omega)) vm_X12_refuse ml_X12_164 k_0.1 (hc := rfl) rfl (h1_0 hG) hl.1 rfl rfl (Nat.le_of_ble_eq_true rfl) dX12_saved_51 rfl rfl ⟨Nat.le_of_ble_eq_true rfl, Nat.le_of_ble_eq_true rfl⟩ ⟨Nat.le_refl _, Nat.le_refl _⟩) hS (fun x_41 iv_37 rv_38 H locs hG fa_39 fb_40 hp_36 hU hS => ?_)
          have hF1 := hF1.tr (m := ([16], [])) fa_39 (by decide)
          have hF2 := hF2.tr (m := ([16], [])) fb_40 (by decide)
          exact hret (⟨hG, hF1, hF2, by unfold svS; rw [if_neg (by omega), if_neg (by omega), if_neg (by omega), if_pos (by omega)]; exact hp_36⟩) hU hS dX12_saved_54
      ·
        refine lv_aload_n hx hb dX12_saved_34 rfl (lv_at hl 0 rfl) ?_
        refine lv_bipush (v := (-4)) hx hb dX12_saved_35 (by decide) ?_
        refine q_fi (q_runV (t := 0) (i := 0) (As := [.int (-4)]) (rest := []) C hU (c_X12_refuse hG (-4) (by omega)) vm_X12_refuse ml_X12_164 k_0.1 (hc := rfl) rfl (h1_0 hG) hl.1 rfl rfl (Nat.le_of_ble_eq_true rfl) dX12_saved_37 rfl rfl ⟨Nat.le_of_ble_eq_true rfl, Nat.le_of_ble_eq_true rfl⟩ ⟨Nat.le_refl _, Nat.le_refl _⟩) hS (fun x_47 iv_43 rv_44 H locs hG fa_45 fb_46 hp_42 hU hS => ?_)
        have hF1 := hF1.tr (m := ([16], [])) fa_45 (by decide)
        have hF2 := hF2.tr (m := ([16], [])) fb_46 (by decide)
        exact hret (⟨hG, hF1, hF2, by unfold svS; rw [if_neg (by omega), if_neg (by omega), if_pos (by omega)]; exact hp_42⟩) hU hS dX12_saved_40
    ·
      refine lv_aload_n hx hb dX12_saved_23 rfl (lv_at hl 0 rfl) ?_
      refine lv_bipush (v := (-5)) hx hb dX12_saved_24 (by decide) ?_
      refine q_fi (q_runV (t := 0) (i := 0) (As := [.int (-5)]) (rest := []) C hU (c_X12_refuse hG (-5) (by omega)) vm_X12_refuse ml_X12_164 k_0.1 (hc := rfl) rfl (h1_0 hG) hl.1 rfl rfl (Nat.le_of_ble_eq_true rfl) dX12_saved_26 rfl rfl ⟨Nat.le_of_ble_eq_true rfl, Nat.le_of_ble_eq_true rfl⟩ ⟨Nat.le_refl _, Nat.le_refl _⟩) hS (fun x_53 iv_49 rv_50 H locs hG fa_51 fb_52 hp_48 hU hS => ?_)
      have hF1 := hF1.tr (m := ([16], [])) fa_51 (by decide)
      have hF2 := hF2.tr (m := ([16], [])) fb_52 (by decide)
      exact hret (⟨hG, hF1, hF2, by unfold svS; rw [if_neg (by omega), if_pos (by omega)]; exact hp_48⟩) hU hS dX12_saved_29
  ·
    refine lv_aload_n hx hb dX12_saved_8 rfl (lv_at hl 0 rfl) ?_
    refine lv_iconst (v := (-1)) hx hb dX12_saved_9 (by decide) ?_
    refine q_fi (q_runV (t := 0) (i := 0) (As := [.int (-1)]) (rest := []) C hU (c_X12_refuse hG (-1) (by omega)) vm_X12_refuse ml_X12_164 k_0.1 (hc := rfl) rfl (h1_0 hG) hl.1 rfl rfl (Nat.le_of_ble_eq_true rfl) dX12_saved_10 rfl rfl ⟨Nat.le_of_ble_eq_true rfl, Nat.le_of_ble_eq_true rfl⟩ ⟨Nat.le_refl _, Nat.le_refl _⟩) hS (fun x_59 iv_55 rv_56 H locs hG fa_57 fb_58 hp_54 hU hS => ?_)
    have hF1 := hF1.tr (m := ([16], [])) fa_57 (by decide)
    have hF2 := hF2.tr (m := ([16], [])) fb_58 (by decide)
    exact hret (⟨hG, hF1, hF2, by unfold svS; rw [if_pos (by omega)]; exact hp_54⟩) hU hS dX12_saved_13
set_option maxHeartbeats 4000000 in
set_option maxRecDepth 100000 in
theorem c_X11_saved_x {l : Launch} {D : va_G} {cA : FieldType → ClassId} {sz : Nat} {al : Al} {iv : Iv} {rv : Rv} (hG : GI al iv rv) (lg : Int32) (fr : Int32) (pre0 : BL iv rv) : Met l yX11_saved (wd yX11_saved cX11_saved 5 (some .int)) (rm 3) (PcW D cA sz al iv rv [.ref (al.2 49 0), .int lg, .int fr]) (QI D cA sz al (fI al ([51], []) iv rv (fun r iv' rv' => r = svS iv lg fr))) 0 0 (Aq sz) := by
  refine mk_i (by decide) (Nat.le_of_ble_eq_true rfl) rfl ?_
  intro p e s m args below meth c ls Q H locs C hU hS hl hret
  have hx := C.1.1
  have hb := C.1.2.1
  have hl : lv_has ls 5 [(0, .ref (al.2 49 0)), (1, .int lg), (2, .int fr)] := hl
  have hG0 := hG
  have hn6 := congrArg Int32.toInt pre0.1.1
  have hF1 : FR ([51], []) iv iv := FR.rf
  have hF2 : FR ([51], []) rv rv := FR.rf
  have km6 : ((-6) : Int32).toInt = -6 := by decide
  have km5 : ((-5) : Int32).toInt = -5 := by decide
  have km4 : ((-4) : Int32).toInt = -4 := by decide
  have km1 : ((-1) : Int32).toInt = -1 := by decide
  have k0 : (0 : Int32).toInt = 0 := by decide
  have k1 : (1 : Int32).toInt = 1 := by decide
  have k30000 : (30000 : Int32).toInt = 30000 := by decide
  refine lv_aload_n hx hb dX11_saved_0 rfl (lv_at hl 0 rfl) ?_
  refine g_49_1 C hU hG (h1_49 hG) fl_X11_19 dX11_saved_1 ?_
  refine lv_iload_n hx hb dX11_saved_4 rfl (lv_at hl 1 rfl) ?_
  refine q_pr (q_runV (t := 57) (i := 0) (As := [.int lg]) (rest := []) C hU (c_X10_find hG lg ) vm_X10_find ml_X11_123 k_57.1 (hc := rfl) rfl (h1_57 hG) hl.1 rfl rfl (Nat.le_of_ble_eq_true rfl) dX11_saved_5 rfl rfl ⟨Nat.le_of_ble_eq_true rfl, Nat.le_of_ble_eq_true rfl⟩ ⟨Nat.le_refl _, Nat.le_refl _⟩) hS (fun r_2 H locs hp_1 hU hS => ?_)
  have hb_3 := hp_1.1
  refine b_astore_n (lv' := [(3, rfv al 62 r_2), (0, .ref (al.2 49 0)), (1, .int lg), (2, .int fr)]) hx hb dX11_saved_8 rfl hl (by decide) rfl (fun ls hl => ?_)
  refine b_aload_n (al := al) (t' := 62) (r := r_2) hx hb dX11_saved_9 rfl (lv_at hl 0 rfl) ?_
  refine b_ifnonnull (tgt := 19) hx hb dX11_saved_10 (by decide) (fun j_5 ej_6 => ?_) (fun ej_6 => ?_)
  ·
    subst ej_6
    have hl : lv_has ls 5 [(3, .ref (al.2 62 j_5)), (0, .ref (al.2 49 0)), (1, .int lg), (2, .int fr)] := hl
    have hb_7 : j_5 < al.1 62 := hb_3 j_5 rfl
    have hq4 := hp_1.2.1 _ rfl
    have hn4 := hq4.1
    rw [clamp_n] at hn4
    refine lv_aload_n hx hb dX11_saved_19 rfl (lv_at hl 0 rfl) ?_
    refine g_62_7 C hU hG hb_7 fl_X11_126 dX11_saved_20 (fun x_8 e_9 le_9 ue_9 => ?_)
    have te_9 := congrArg Int32.toInt e_9
    have hl7 := lg_done hG0 pre0 hb_7 hq4.1
    refine b_if_ne (tgt := 33) hx hb dX11_saved_23 (by decide) (fun c_10 => ?_) (fun c_10 => ?_)
    ·
      refine lv_iload_n hx hb dX11_saved_33 rfl (lv_at hl 3 rfl) ?_
      refine b_if_ge (tgt := 44) hx hb dX11_saved_34 (by decide) (fun c_11 => ?_) (fun c_11 => ?_)
      ·
        refine lv_iload_n hx hb dX11_saved_44 rfl (lv_at hl 3 rfl) ?_
        refine lv_sipush (v := 30000) hx hb dX11_saved_45 (by decide) ?_
        refine b_icmp_le (tgt := 58) hx hb dX11_saved_48 (by decide) (fun c_12 => ?_) (fun c_12 => ?_)
        ·
          have hrt := rt_x hG0 pre0 hb_7 (by omega)
          refine lv_iload_n hx hb dX11_saved_58 rfl (lv_at hl 3 rfl) ?_
          refine lv_aload_n hx hb dX11_saved_59 rfl (lv_at hl 0 rfl) ?_
          refine g_62_5 C hU hG hb_7 fl_X11_177 dX11_saved_60 (fun x_13 e_14 le_14 ue_14 => ?_)
          have te_14 := congrArg Int32.toInt e_14
          refine lv_aload_n hx hb dX11_saved_63 rfl (lv_at hl 1 rfl) ?_
          refine lv_aload_n hx hb dX11_saved_64 rfl (lv_at hl 0 rfl) ?_
          refine lv_iconst (v := 1) hx hb dX11_saved_65 (by decide) ?_
          refine q_pi (q_runV (t := 49) (i := 0) (As := [.ref (al.2 62 j_5), .int 1]) (rest := [.int x_13, .int fr]) C hU (c_X11_waitOf_x hG (j_5) hb_7 1 (pre0) (by omega)) vm_X11_waitOf ml_X11_151 k_49.1 (hc := rfl) rfl (h1_49 hG) hl.1 rfl rfl (Nat.le_of_ble_eq_true rfl) dX11_saved_66 rfl rfl ⟨Nat.le_of_ble_eq_true rfl, Nat.le_of_ble_eq_true rfl⟩ ⟨Nat.le_refl _, Nat.le_refl _⟩) hS (fun x_16 H locs hp_15 hU hS => ?_)
          refine lv_iadd hx hb dX11_saved_69 ?_
          refine lv_topi (fun x_17 e_18 => ?_)
          refine q_max C hl.1 ml_X11_180 (Nat.le_of_ble_eq_true rfl) (Nat.le_of_ble_eq_true rfl) (Nat.le_refl _) (Nat.le_refl _) dX11_saved_70 (fun x_19 q_20 tq_20 => ?_)
          refine lv_istore (lv' := [(4, .int x_19), (3, .ref (al.2 62 j_5)), (0, .ref (al.2 49 0)), (1, .int lg), (2, .int fr)]) hx hb dX11_saved_73 hl (by decide) rfl (fun ls hl => ?_)
          refine lv_iconst (v := 0) hx hb dX11_saved_75 (by decide) ?_
          refine lv_aload_n hx hb dX11_saved_76 rfl (lv_at hl 1 rfl) ?_
          refine g_62_10 C hU hG hb_7 fl_X11_186 dX11_saved_77 (fun x_21 e_22 => ?_)
          have te_22 := congrArg Int32.toInt e_22
          refine lv_iload hx hb dX11_saved_80 (lv_at hl 0 rfl) ?_
          refine lv_isub hx hb dX11_saved_82 ?_
          refine lv_topi (fun x_23 e_24 => ?_)
          refine q_max C hl.1 ml_X11_180 (Nat.le_of_ble_eq_true rfl) (Nat.le_of_ble_eq_true rfl) (Nat.le_refl _) (Nat.le_refl _) dX11_saved_83 (fun x_25 q_26 tq_26 => ?_)
          exact hret (⟨hG, hF1, hF2, by unfold svS; rw [if_neg (by omega), if_neg (by omega), if_neg (by omega), if_neg (by omega), q_26, mx0, e_24, e_22, hrt.1, q_20, mxw, e_18, e_14, lf_lv hG0 pre0.1.2.1 hb_7, hp_15, hq4.1]⟩) hU hS dX11_saved_86
        ·
          refine lv_aload_n hx hb dX11_saved_51 rfl (lv_at hl 1 rfl) ?_
          refine lv_bipush (v := (-6)) hx hb dX11_saved_52 (by decide) ?_
          refine q_fi (q_runV (t := 49) (i := 0) (As := [.int (-6)]) (rest := []) C hU (c_X11_refuse hG (-6) (by omega)) vm_X11_refuse ml_X11_77 k_49.1 (hc := rfl) rfl (h1_49 hG) hl.1 rfl rfl (Nat.le_of_ble_eq_true rfl) dX11_saved_54 rfl rfl ⟨Nat.le_of_ble_eq_true rfl, Nat.le_of_ble_eq_true rfl⟩ ⟨Nat.le_refl _, Nat.le_refl _⟩) hS (fun x_32 iv_28 rv_29 H locs hG fa_30 fb_31 hp_27 hU hS => ?_)
          have hF1 := hF1.tr (m := ([51], [])) fa_30 (by decide)
          have hF2 := hF2.tr (m := ([51], [])) fb_31 (by decide)
          exact hret (⟨hG, hF1, hF2, by unfold svS; rw [if_neg (by omega), if_neg (by omega), if_neg (by omega), if_pos (by omega)]; exact hp_27⟩) hU hS dX11_saved_57
      ·
        refine lv_aload_n hx hb dX11_saved_37 rfl (lv_at hl 1 rfl) ?_
        refine lv_bipush (v := (-4)) hx hb dX11_saved_38 (by decide) ?_
        refine q_fi (q_runV (t := 49) (i := 0) (As := [.int (-4)]) (rest := []) C hU (c_X11_refuse hG (-4) (by omega)) vm_X11_refuse ml_X11_77 k_49.1 (hc := rfl) rfl (h1_49 hG) hl.1 rfl rfl (Nat.le_of_ble_eq_true rfl) dX11_saved_40 rfl rfl ⟨Nat.le_of_ble_eq_true rfl, Nat.le_of_ble_eq_true rfl⟩ ⟨Nat.le_refl _, Nat.le_refl _⟩) hS (fun x_38 iv_34 rv_35 H locs hG fa_36 fb_37 hp_33 hU hS => ?_)
        have hF1 := hF1.tr (m := ([51], [])) fa_36 (by decide)
        have hF2 := hF2.tr (m := ([51], [])) fb_37 (by decide)
        exact hret (⟨hG, hF1, hF2, by unfold svS; rw [if_neg (by omega), if_neg (by omega), if_pos (by omega)]; exact hp_33⟩) hU hS dX11_saved_43
    ·
      refine lv_aload_n hx hb dX11_saved_26 rfl (lv_at hl 1 rfl) ?_
      refine lv_bipush (v := (-5)) hx hb dX11_saved_27 (by decide) ?_
      refine q_fi (q_runV (t := 49) (i := 0) (As := [.int (-5)]) (rest := []) C hU (c_X11_refuse hG (-5) (by omega)) vm_X11_refuse ml_X11_77 k_49.1 (hc := rfl) rfl (h1_49 hG) hl.1 rfl rfl (Nat.le_of_ble_eq_true rfl) dX11_saved_29 rfl rfl ⟨Nat.le_of_ble_eq_true rfl, Nat.le_of_ble_eq_true rfl⟩ ⟨Nat.le_refl _, Nat.le_refl _⟩) hS (fun x_44 iv_40 rv_41 H locs hG fa_42 fb_43 hp_39 hU hS => ?_)
      have hF1 := hF1.tr (m := ([51], [])) fa_42 (by decide)
      have hF2 := hF2.tr (m := ([51], [])) fb_43 (by decide)
      exact hret (⟨hG, hF1, hF2, by unfold svS; rw [if_neg (by omega), if_pos (by omega)]; exact hp_39⟩) hU hS dX11_saved_32
  ·
    subst ej_6
    have hl : lv_has ls 5 [(3, rfv al 62 none), (0, .ref (al.2 49 0)), (1, .int lg), (2, .int fr)] := hl
    have hq4 := hp_1.2.2 rfl
    refine lv_aload_n hx hb dX11_saved_13 rfl (lv_at hl 1 rfl) ?_
    refine lv_iconst (v := (-1)) hx hb dX11_saved_14 (by decide) ?_
    refine q_fi (q_runV (t := 49) (i := 0) (As := [.int (-1)]) (rest := []) C hU (c_X11_refuse hG (-1) (by omega)) vm_X11_refuse ml_X11_77 k_49.1 (hc := rfl) rfl (h1_49 hG) hl.1 rfl rfl (Nat.le_of_ble_eq_true rfl) dX11_saved_15 rfl rfl ⟨Nat.le_of_ble_eq_true rfl, Nat.le_of_ble_eq_true rfl⟩ ⟨Nat.le_refl _, Nat.le_refl _⟩) hS (fun x_50 iv_46 rv_47 H locs hG fa_48 fb_49 hp_45 hU hS => ?_)
    have hF1 := hF1.tr (m := ([51], [])) fa_48 (by decide)
    have hF2 := hF2.tr (m := ([51], [])) fb_49 (by decide)
    exact hret (⟨hG, hF1, hF2, by unfold svS; rw [if_pos (by omega)]; exact hp_45⟩) hU hS dX11_saved_18
set_option maxHeartbeats 4000000 in
set_option maxRecDepth 100000 in
theorem c_X12_missedOf_x {l : Launch} {D : va_G} {cA : FieldType → ClassId} {sz : Nat} {al : Al} {iv : Iv} {rv : Rv} (hG : GI al iv rv) (tt : Int32) (pre0 : 0 ≤ tt.toInt ∧ tt.toInt < (iv 0 0 20).toInt) : Met l yX12_missedOf (wd yX12_missedOf cX12_missedOf 4 (some .int)) (rm 2) (PcW D cA sz al iv rv [.ref (al.2 0 0), .int tt]) (QI D cA sz al (pI iv rv (fun r => (-1 ≤ r.toInt ∧ r.toInt ≤ 3) ∧ (r = msF iv tt.toNatClampNeg ∧ r.toInt < (iv 19 0 tt.toNatClampNeg).toInt)))) 0 0 (Aq sz) := by
  refine mk_i (by decide) (Nat.le_of_ble_eq_true rfl) rfl ?_
  intro p e s m args below meth c ls Q H locs C hU hS hl hret
  have hx := C.1.1
  have hb := C.1.2.1
  have hl : lv_has ls 4 [(0, .ref (al.2 0 0)), (1, .int tt)] := hl
  have hG0 := hG
  have h6 := le6 hG
  have h20 := le20 hG
  have h41 := le41 hG
  have h20 := le20 hG
  have km1 : ((-1) : Int32).toInt = -1 := by decide
  have k0 : (0 : Int32).toInt = 0 := by decide
  have k1 : (1 : Int32).toInt = 1 := by decide
  have k2 : (2 : Int32).toInt = 2 := by decide
  have k4 : (4 : Int32).toInt = 4 := by decide
  have hq := rm1 hG pre0.1 pre0.2
  refine lv_iconst (v := 0) hx hb dX12_missedOf_0 (by decide) ?_
  refine lv_istore_n (lv' := [(2, .int 0), (0, .ref (al.2 0 0)), (1, .int tt)]) hx hb dX12_missedOf_1 rfl hl (by decide) rfl (fun ls hl => ?_)
  have J_2 : ∀ (n_2 : Nat) (l2_1 : Int32) (H : Heap) (locs : List Loc) (ls : Array Slot), lv_has ls 4 [(0, .ref (al.2 0 0)), (1, .int tt), (2, .int l2_1)] → UW D cA sz al iv rv H → va_S (Aq sz) s.heap H locs → (0 ≤ l2_1.toInt ∧ l2_1.toInt ≤ 4) → (msN iv tt.toNatClampNeg l2_1.toNatClampNeg).toInt < 0 → l2_1.toInt ≤ (iv 19 0 tt.toNatClampNeg).toInt → (4 - l2_1.toInt).toNat < n_2 → W p l e (rm 2) s m args below meth c H locs 0 0 Q (F0 m 2 ls []) := by
    intro n_2
    induction n_2 with
    | zero =>
      intro l2_1 H locs ls hl hU hS i2_0 i2_1 i2_2 hm_2
      exact absurd hm_2 (Nat.not_lt_zero _)
    | succ n_2 ih_2 =>
      intro l2_1 H locs ls hl hU hS i2_0 i2_1 i2_2 hm_2
      refine lv_iload_n hx hb dX12_missedOf_2 rfl (lv_at hl 2 rfl) ?_
      refine lv_aload_n hx hb dX12_missedOf_3 rfl (lv_at hl 0 rfl) ?_
      refine g_0_22 C hU hG (h1_0 hG) fl_X12_65 dX12_missedOf_4 ?_
      refine lv_iload_n hx hb dX12_missedOf_7 rfl (lv_at hl 1 rfl) ?_
      refine a_19 C hU hG (h1_19 hG) (x := tt) (by omega) (by omega) dX12_missedOf_8 (fun x_2 e_3 le_3 ue_3 => ?_)
      have te_3 := congrArg Int32.toInt e_3
      refine b_icmp_ge (tgt := 75) hx hb dX12_missedOf_9 (by decide) (fun c_4 => ?_) (fun c_4 => ?_)
      ·
        refine lv_iconst (v := (-1)) hx hb dX12_missedOf_75 (by decide) ?_
        exact hret (⟨rfl, rfl, ⟨⟨by omega, by omega⟩, ⟨ms_end i2_1 (by omega), by omega⟩⟩⟩) hU hS dX12_missedOf_76
      ·
        refine lv_aload_n hx hb dX12_missedOf_12 rfl (lv_at hl 0 rfl) ?_
        refine g_0_21 C hU hG (h1_0 hG) fl_X12_62 dX12_missedOf_13 ?_
        refine lv_iconst (v := 4) hx hb dX12_missedOf_16 (by decide) ?_
        refine lv_iload_n hx hb dX12_missedOf_17 rfl (lv_at hl 1 rfl) ?_
        refine lv_imul hx hb dX12_missedOf_18 ?_
        refine lv_topi (fun x_5 e_6 => ?_)
        have te_6 : x_5.toInt = 4 * (tt : Int32).toInt := by rw [e_6, fb_mulI (by rw [show (4 : Int32).toInt = 4 from by decide]; omega) (by rw [show (4 : Int32).toInt = 4 from by decide]; omega), show (4 : Int32).toInt = 4 from by decide]
        refine lv_iload_n hx hb dX12_missedOf_19 rfl (lv_at hl 2 rfl) ?_
        refine lv_iadd hx hb dX12_missedOf_20 ?_
        refine lv_topi (fun x_7 e_8 => ?_)
        have te_8 : x_7.toInt = (x_5 : Int32).toInt + (l2_1 : Int32).toInt := by rw [e_8]; exact fb_addI (by omega) (by omega)
        refine a_18 C hU hG (h1_18 hG) (x := x_7) (by omega) (by omega) dX12_missedOf_21 (fun x_9 e_10 le_10 ue_10 => ?_)
        have te_10 := congrArg Int32.toInt e_10
        have hw := rw_ix (t := tt) (i := l2_1) e_10 (by omega) (by omega) (by omega)
        refine lv_istore_n (lv' := [(3, .int x_9), (0, .ref (al.2 0 0)), (1, .int tt), (2, .int l2_1)]) hx hb dX12_missedOf_22 rfl hl (by decide) rfl (fun ls hl => ?_)
        refine lv_aload_n hx hb dX12_missedOf_23 rfl (lv_at hl 1 rfl) ?_
        refine g_0_13 C hU hG (h1_0 hG) fl_X12_40 dX12_missedOf_24 ?_
        refine lv_iload_n hx hb dX12_missedOf_27 rfl (lv_at hl 0 rfl) ?_
        refine a_11 C hU hG (h1_11 hG) (x := x_9) (by omega) (by omega) dX12_missedOf_28 (fun x_11 e_12 le_12 ue_12 => ?_)
        have te_12 := congrArg Int32.toInt e_12
        have h28 := e_12
        rw [hw] at h28
        have t28 := congrArg Int32.toInt h28
        refine b_if_eq (tgt := 67) hx hb dX12_missedOf_29 (by decide) (fun c_13 => ?_) (fun c_13 => ?_)
        ·
          refine lv_iload_n hx hb dX12_missedOf_67 rfl (lv_at hl 3 rfl) ?_
          exact hret (⟨rfl, rfl, ⟨⟨by omega, by omega⟩, ⟨by first | exact ms_ret i2_1 (Or.inl (by omega)) (by omega) (by omega) (by omega) | exact ms_ret i2_1 (Or.inr ⟨by rw [clamp_n]; omega, bd_1 True.intro hw True.intro hw2 True.intro t63 (by omega)⟩) (by omega) (by omega) (by omega), by omega⟩⟩⟩) hU hS dX12_missedOf_68
        ·
          have hd : ¬ (iv 11 0 (rwL iv tt.toNatClampNeg l2_1.toNatClampNeg)).toInt = 0 := by omega
          refine lv_iload_n hx hb dX12_missedOf_32 rfl (lv_at hl 3 rfl) ?_
          have J_69 : ∀ (H : Heap) (locs : List Loc) (ls : Array Slot), lv_has ls 4 [(0, .ref (al.2 0 0)), (1, .int tt), (2, .int l2_1)] → UW D cA sz al iv rv H → va_S (Aq sz) s.heap H locs → ¬ bad iv tt.toNatClampNeg l2_1.toNatClampNeg → W p l e (rm 2) s m args below meth c H locs 0 0 Q (F0 m 69 ls []) := by
            intro H locs ls hl hU hS i69_0
            obtain ⟨x_14, e_15⟩ : ∃ y : Int32, y = l2_1 + 1 := ⟨_, rfl⟩
            have te_15 : x_14.toInt = (l2_1 : Int32).toInt + (1 : Int32).toInt := by rw [e_15]; exact fb_addI (by omega) (by omega)
            refine lv_iinc (v := x_14) (lv' := [(2, .int x_14), (0, .ref (al.2 0 0)), (1, .int tt)]) hx hb dX12_missedOf_69 hl (k := 2) rfl (by rw [e_15]; rfl) (by decide) rfl (fun ls hl => ?_)
            refine lv_goto (tgt := 2) hx hb dX12_missedOf_72 (by decide) ?_
            exact ih_2 x_14 _ _ _ (lv_sub hl [1, 2, 0] rfl) hU hS (by omega) (by first | exact ms_up (by omega) (by omega) i2_1 i69_0 | exact ms_0) (by omega) (by omega)
          refine b_if_le (tgt := 69) hx hb dX12_missedOf_33 (by decide) (fun c_16 => ?_) (fun c_16 => ?_)
          ·
            exact J_69 _ _ _ (lv_sub hl [1, 2, 3] rfl) hU hS (by first | exact nb_0 hd (by omega) | exact nb_1 hd True.intro hw True.intro hw2 True.intro t63 (by omega))
          ·
            refine lv_aload_n hx hb dX12_missedOf_36 rfl (lv_at hl 1 rfl) ?_
            refine lv_iload_n hx hb dX12_missedOf_37 rfl (lv_at hl 0 rfl) ?_
            refine q_pi (q_runV (t := 0) (i := 0) (As := [.int x_9]) (rest := []) C hU (c_X12_rightLeave hG x_9 (by omega)) vm_X12_rightLeave ml_X12_193 k_0.1 (hc := rfl) rfl (h1_0 hG) hl.1 rfl rfl (Nat.le_of_ble_eq_true rfl) dX12_missedOf_38 rfl rfl ⟨Nat.le_of_ble_eq_true rfl, Nat.le_of_ble_eq_true rfl⟩ ⟨Nat.le_refl _, Nat.le_refl _⟩) hS (fun x_18 H locs hp_17 hU hS => ?_)
            have q_19 := hp_17.2
            have tq_19 := congrArg Int32.toInt q_19
            refine lv_aload_n hx hb dX12_missedOf_41 rfl (lv_at hl 1 rfl) ?_
            refine lv_aload_n hx hb dX12_missedOf_42 rfl (lv_at hl 1 rfl) ?_
            refine g_0_21 C hU hG (h1_0 hG) fl_X12_62 dX12_missedOf_43 ?_
            refine lv_iconst (v := 4) hx hb dX12_missedOf_46 (by decide) ?_
            refine lv_iload_n hx hb dX12_missedOf_47 rfl (lv_at hl 2 rfl) ?_
            refine lv_imul hx hb dX12_missedOf_48 ?_
            refine lv_topi (fun x_20 e_21 => ?_)
            have te_21 : x_20.toInt = 4 * (tt : Int32).toInt := by rw [e_21, fb_mulI (by rw [show (4 : Int32).toInt = 4 from by decide]; omega) (by rw [show (4 : Int32).toInt = 4 from by decide]; omega), show (4 : Int32).toInt = 4 from by decide]
            refine lv_iload_n hx hb dX12_missedOf_49 rfl (lv_at hl 3 rfl) ?_
            refine lv_iadd hx hb dX12_missedOf_50 ?_
            refine lv_topi (fun x_22 e_23 => ?_)
            have te_23 : x_22.toInt = (x_20 : Int32).toInt + (l2_1 : Int32).toInt := by rw [e_23]; exact fb_addI (by omega) (by omega)
            refine lv_iconst (v := 1) hx hb dX12_missedOf_51 (by decide) ?_
            refine lv_isub hx hb dX12_missedOf_52 ?_
            refine lv_topi (fun x_24 e_25 => ?_)
            have te_25 : x_24.toInt = (x_22 : Int32).toInt - (1 : Int32).toInt := by rw [e_25]; exact fb_subI (by omega) (by omega)
            refine a_18 C hU hG (h1_18 hG) (x := x_24) (by omega) (by omega) dX12_missedOf_53 (fun x_26 e_27 le_27 ue_27 => ?_)
            have te_27 := congrArg Int32.toInt e_27
            have hw2 := rw_ix1 (t := tt) (i := l2_1) e_27 (by omega) (by omega) (by omega)
            refine q_pi (q_runV (t := 0) (i := 0) (As := [.int x_26]) (rest := [.int x_18]) C hU (c_X12_rightArrive hG x_26 (by omega)) vm_X12_rightArrive ml_X12_190 k_0.1 (hc := rfl) rfl (h1_0 hG) hl.1 rfl rfl (Nat.le_of_ble_eq_true rfl) dX12_missedOf_54 rfl rfl ⟨Nat.le_of_ble_eq_true rfl, Nat.le_of_ble_eq_true rfl⟩ ⟨Nat.le_refl _, Nat.le_refl _⟩) hS (fun x_29 H locs hp_28 hU hS => ?_)
            have q_30 := hp_28.2
            have tq_30 := congrArg Int32.toInt q_30
            refine lv_isub hx hb dX12_missedOf_57 ?_
            refine lv_topi (fun x_31 e_32 => ?_)
            have w_33 := fb_rng x_18
            have w_34 := fb_rng x_29
            have te_32 : x_31.toInt = (x_18 : Int32).toInt - (x_29 : Int32).toInt := by rw [e_32]; exact fb_subI (by omega) (by omega)
            refine lv_aload_n hx hb dX12_missedOf_58 rfl (lv_at hl 1 rfl) ?_
            refine g_0_17 C hU hG (h1_0 hG) fl_X12_53 dX12_missedOf_59 ?_
            refine lv_iconst (v := 2) hx hb dX12_missedOf_62 (by decide) ?_
            refine a_15 C hU hG (h1_15 hG) (x := 2) (by omega) (by omega) dX12_missedOf_63 (fun x_35 e_36 le_36 ue_36 => ?_)
            have te_36 := congrArg Int32.toInt e_36
            have t63 : x_35.toInt = (iv 15 0 2).toInt := by rw [e_36]; rfl
            refine b_icmp_ge (tgt := 69) hx hb dX12_missedOf_64 (by decide) (fun c_37 => ?_) (fun c_37 => ?_)
            ·
              exact J_69 _ _ _ (lv_sub hl [1, 2, 3] rfl) hU hS (by first | exact nb_0 hd (by omega) | exact nb_1 hd q_19 hw q_30 hw2 e_32 t63 (by omega))
            ·
              refine lv_iload_n hx hb dX12_missedOf_67 rfl (lv_at hl 3 rfl) ?_
              exact hret (⟨rfl, rfl, ⟨⟨by omega, by omega⟩, ⟨by first | exact ms_ret i2_1 (Or.inl (by omega)) (by omega) (by omega) (by omega) | exact ms_ret i2_1 (Or.inr ⟨by rw [clamp_n]; omega, bd_1 q_19 hw q_30 hw2 e_32 t63 (by omega)⟩) (by omega) (by omega) (by omega), by omega⟩⟩⟩) hU hS dX12_missedOf_68
  exact J_2 _ 0 _ _ _ (lv_sub hl [1, 2, 0] rfl) hU hS (by omega) (by first | exact ms_up (by omega) (by omega) i2_1 i69_0 | exact ms_0) (by omega) (Nat.lt_succ_self _)
