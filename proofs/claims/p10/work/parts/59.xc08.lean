set_option maxHeartbeats 4000000 in
set_option maxRecDepth 100000 in
theorem c_X12_hours_x {l : Launch} {D : va_G} {cA : FieldType → ClassId} {sz : Nat} {al : Al} {iv : Iv} {rv : Rv} (hG : GI al iv rv) (tt : Int32) : Met l yX12_hours (wd yX12_hours cX12_hours 2 (some .int)) (rm 5) (PcW D cA sz al iv rv [.ref (al.2 0 0), .int tt]) (QI D cA sz al (fI al ([16, 20], []) iv rv (fun r iv' rv' => r = hrS iv tt))) 0 0 (Aq sz) := by
  refine mk_i (by decide) (Nat.le_of_ble_eq_true rfl) rfl ?_
  intro p e s m args below meth c ls Q H locs C hU hS hl hret
  have hx := C.1.1
  have hb := C.1.2.1
  have hl : lv_has ls 2 [(0, .ref (al.2 0 0)), (1, .int tt)] := hl
  have hG0 := hG
  have h6 := le6 hG
  have h20 := le20 hG
  have h41 := le41 hG
  have hF1 : FR ([16, 20], []) iv iv := FR.rf
  have hF2 : FR ([16, 20], []) rv rv := FR.rf
  have km1 : ((-1) : Int32).toInt = -1 := by decide
  refine lv_aload_n hx hb dX12_hours_0 rfl (lv_at hl 0 rfl) ?_
  refine lv_iload_n hx hb dX12_hours_1 rfl (lv_at hl 1 rfl) ?_
  refine q_pi (q_runV (t := 0) (i := 0) (As := [.int tt]) (rest := []) C hU (c_X12_isTraveller hG tt ) vm_X12_isTraveller ml_X12_226 k_0.1 (hc := rfl) rfl (h1_0 hG) hl.1 rfl rfl (Nat.le_of_ble_eq_true rfl) dX12_hours_2 rfl rfl ⟨Nat.le_of_ble_eq_true rfl, Nat.le_of_ble_eq_true rfl⟩ ⟨Nat.le_refl _, Nat.le_refl _⟩) hS (fun x_2 H locs hp_1 hU hS => ?_)
  refine b_if_eq (tgt := 16) hx hb dX12_hours_5 (by decide) (fun c_3 => ?_) (fun c_3 => ?_)
  ·
    refine lv_aload_n hx hb dX12_hours_16 rfl (lv_at hl 0 rfl) ?_
    refine lv_iconst (v := (-1)) hx hb dX12_hours_17 (by decide) ?_
    refine q_fi (q_runV (t := 0) (i := 0) (As := [.int (-1)]) (rest := []) C hU (c_X12_refuse hG (-1) (by omega)) vm_X12_refuse ml_X12_164 k_0.1 (hc := rfl) rfl (h1_0 hG) hl.1 rfl rfl (Nat.le_of_ble_eq_true rfl) dX12_hours_18 rfl rfl ⟨Nat.le_of_ble_eq_true rfl, Nat.le_of_ble_eq_true rfl⟩ ⟨Nat.le_refl _, Nat.le_refl _⟩) hS (fun x_9 iv_5 rv_6 H locs hG fa_7 fb_8 hp_4 hU hS => ?_)
    have hF1 := hF1.tr (m := ([16, 20], [])) fa_7 (by decide)
    have hF2 := hF2.tr (m := ([16, 20], [])) fb_8 (by decide)
    exact hret (⟨hG, hF1, hF2, by unfold hrS; first | (rw [if_neg (by omega)]; exact True.intro) | (rw [if_pos (by omega)]; exact hp_4)⟩) hU hS dX12_hours_21
  ·
    refine lv_aload_n hx hb dX12_hours_8 rfl (lv_at hl 0 rfl) ?_
    refine lv_iload_n hx hb dX12_hours_9 rfl (lv_at hl 1 rfl) ?_
    refine q_fi (q_runV (t := 0) (i := 0) (As := [.int tt]) (rest := []) C hU (c_X12_hoursOf_x hG tt (by omega)) vm_X12_hoursOf ml_X12_238 k_0.1 (hc := rfl) rfl (h1_0 hG) hl.1 rfl rfl (Nat.le_of_ble_eq_true rfl) dX12_hours_10 rfl rfl ⟨Nat.le_of_ble_eq_true rfl, Nat.le_of_ble_eq_true rfl⟩ ⟨Nat.le_refl _, Nat.le_refl _⟩) hS (fun x_15 iv_11 rv_12 H locs hG fa_13 fb_14 hp_10 hU hS => ?_)
    have hF1 := hF1.tr (m := ([16, 20], [])) fa_13 (by decide)
    have hF2 := hF2.tr (m := ([16, 20], [])) fb_14 (by decide)
    refine lv_goto (tgt := 21) hx hb dX12_hours_13 (by decide) ?_
    exact hret (⟨hG, hF1, hF2, by unfold hrS; first | (rw [if_neg (by omega)]; exact hp_10) | (rw [if_pos (by omega)]; exact True.intro)⟩) hU hS dX12_hours_21
set_option maxHeartbeats 4000000 in
set_option maxRecDepth 100000 in
theorem c_X11_hoursOf_x {l : Launch} {D : va_G} {cA : FieldType → ClassId} {sz : Nat} {al : Al} {iv : Iv} {rv : Rv} (hG : GI al iv rv) (ti : Nat) (hti : ti < al.1 65) (pre0 : BS iv rv) : Met l yX11_hoursOf (wd yX11_hoursOf cX11_hoursOf 3 (some .int)) (rm 3) (PcW D cA sz al iv rv [.ref (al.2 49 0), .ref (al.2 65 ti)]) (QI D cA sz al (fI al ([60, 61], []) iv rv (fun r iv' rv' => r = hoF iv ti))) 0 0 (Aq sz) := by
  refine mk_i (by decide) (Nat.le_of_ble_eq_true rfl) rfl ?_
  intro p e s m args below meth c ls Q H locs C hU hS hl hret
  have hx := C.1.1
  have hb := C.1.2.1
  have hl : lv_has ls 3 [(0, .ref (al.2 49 0)), (1, .ref (al.2 65 ti))] := hl
  have hG0 := hG
  have htk := tk_k hG pre0.1 hti
  have hF1 : FR ([60, 61], []) iv iv := FR.rf
  have hF2 : FR ([60, 61], []) rv rv := FR.rf
  have km9 : ((-9) : Int32).toInt = -9 := by decide
  have k0 : (0 : Int32).toInt = 0 := by decide
  have k9999 : (9999 : Int32).toInt = 9999 := by decide
  refine lv_aload_n hx hb dX11_hoursOf_0 rfl (lv_at hl 0 rfl) ?_
  refine lv_aload_n hx hb dX11_hoursOf_1 rfl (lv_at hl 1 rfl) ?_
  refine q_fi (q_runV (t := 49) (i := 0) (As := [.ref (al.2 65 ti)]) (rest := []) C hU (c_X11_soonestOf_x hG (ti) hti (pre0)) vm_X11_soonestOf ml_X11_211 k_49.1 (hc := rfl) rfl (h1_49 hG) hl.1 rfl rfl (Nat.le_of_ble_eq_true rfl) dX11_hoursOf_2 rfl rfl ⟨Nat.le_of_ble_eq_true rfl, Nat.le_of_ble_eq_true rfl⟩ ⟨Nat.le_refl _, Nat.le_refl _⟩) hS (fun x_6 iv_2 rv_3 H locs hG fa_4 fb_5 hp_1 hU hS => ?_)
  have hF1 := hF1.tr (m := ([60, 61], [])) fa_4 (by decide)
  have hF2 := hF2.tr (m := ([60, 61], [])) fb_5 (by decide)
  refine lv_istore_n (lv' := [(2, .int x_6), (0, .ref (al.2 49 0)), (1, .ref (al.2 65 ti))]) hx hb dX11_hoursOf_5 rfl hl (by decide) rfl (fun ls hl => ?_)
  have hso := hp_1
  have tso := so_neg hso
  refine lv_iload_n hx hb dX11_hoursOf_6 rfl (lv_at hl 0 rfl) ?_
  refine lv_bipush (v := (-9)) hx hb dX11_hoursOf_7 (by decide) ?_
  refine b_icmp_ne (tgt := 18) hx hb dX11_hoursOf_9 (by decide) (fun c_7 => ?_) (fun c_7 => ?_)
  ·
    refine lv_iconst (v := 0) hx hb dX11_hoursOf_18 (by decide) ?_
    refine lv_iload_n hx hb dX11_hoursOf_19 rfl (lv_at hl 0 rfl) ?_
    refine lv_aload_n hx hb dX11_hoursOf_20 rfl (lv_at hl 2 rfl) ?_
    refine g_65_2 C hU hG hti fl_X11_343 dX11_hoursOf_21 (fun j_8 ej_9 hb_10 => ?_)
    have nej_9 : rv 65 ti 2 = some j_8 := (hF2 65 ti 2 (by decide)).symm.trans ej_9
    have hth := sx_last htk nej_9
    have hb21 := hb_10
    refine g_62_6 C hU hG hb_10 fl_X11_365 dX11_hoursOf_24 (fun x_11 e_12 le_12 ue_12 => ?_)
    have te_12 := congrArg Int32.toInt e_12
    have ne_12 : x_11.toInt = (iv 62 j_8 6).toInt := by rw [e_12, hF1 62 j_8 6 (by decide)]
    have h24 := sx_ar hG0 pre0.1 hb21 hth (e_12.trans (hF1 62 _ 6 (by decide)))
    refine lv_isub hx hb dX11_hoursOf_27 ?_
    refine lv_topi (fun x_13 e_14 => ?_)
    refine q_max C hl.1 ml_X11_180 (Nat.le_of_ble_eq_true rfl) (Nat.le_of_ble_eq_true rfl) (Nat.le_refl _) (Nat.le_refl _) dX11_hoursOf_28 (fun x_15 q_16 tq_16 => ?_)
    exact hret (⟨hG, hF1, hF2, by unfold hoF; first | rw [if_pos (by omega)] | rw [if_neg (by omega), q_16, mx0, e_14, h24, hso]⟩) hU hS dX11_hoursOf_31
  ·
    refine lv_sipush (v := 9999) hx hb dX11_hoursOf_12 (by decide) ?_
    refine lv_goto (tgt := 31) hx hb dX11_hoursOf_15 (by decide) ?_
    exact hret (⟨hG, hF1, hF2, by unfold hoF; first | rw [if_pos (by omega)] | rw [if_neg (by omega), True.intro, mx0, True.intro, h24, hso]⟩) hU hS dX11_hoursOf_31
set_option maxHeartbeats 4000000 in
set_option maxRecDepth 100000 in
theorem c_X11_hours_x {l : Launch} {D : va_G} {cA : FieldType → ClassId} {sz : Nat} {al : Al} {iv : Iv} {rv : Rv} (hG : GI al iv rv) (tt : Int32) (pre0 : BS iv rv) : Met l yX11_hours (wd yX11_hours cX11_hours 3 (some .int)) (rm 4) (PcW D cA sz al iv rv [.ref (al.2 49 0), .int tt]) (QI D cA sz al (fI al ([51, 60, 61], []) iv rv (fun r iv' rv' => r = hrS iv tt))) 0 0 (Aq sz) := by
  refine mk_i (by decide) (Nat.le_of_ble_eq_true rfl) rfl ?_
  intro p e s m args below meth c ls Q H locs C hU hS hl hret
  have hx := C.1.1
  have hb := C.1.2.1
  have hl : lv_has ls 3 [(0, .ref (al.2 49 0)), (1, .int tt)] := hl
  have hG0 := hG
  have hn20 := congrArg Int32.toInt pre0.1.2.1
  have hF1 : FR ([51, 60, 61], []) iv iv := FR.rf
  have hF2 : FR ([51, 60, 61], []) rv rv := FR.rf
  have km1 : ((-1) : Int32).toInt = -1 := by decide
  refine lv_aload_n hx hb dX11_hours_0 rfl (lv_at hl 0 rfl) ?_
  refine g_49_2 C hU hG (h1_49 hG) fl_X11_26 dX11_hours_1 ?_
  refine lv_iload_n hx hb dX11_hours_4 rfl (lv_at hl 1 rfl) ?_
  refine q_pr (q_runV (t := 63) (i := 0) (As := [.int tt]) (rest := []) C hU (c_X9_find hG tt ) vm_X9_find ml_X11_192 k_63.1 (hc := rfl) rfl (h1_63 hG) hl.1 rfl rfl (Nat.le_of_ble_eq_true rfl) dX11_hours_5 rfl rfl ⟨Nat.le_of_ble_eq_true rfl, Nat.le_of_ble_eq_true rfl⟩ ⟨Nat.le_refl _, Nat.le_refl _⟩) hS (fun r_2 H locs hp_1 hU hS => ?_)
  have hb_3 := hp_1.1
  refine b_astore_n (lv' := [(2, rfv al 65 r_2), (0, .ref (al.2 49 0)), (1, .int tt)]) hx hb dX11_hours_8 rfl hl (by decide) rfl (fun ls hl => ?_)
  refine b_aload_n (al := al) (t' := 65) (r := r_2) hx hb dX11_hours_9 rfl (lv_at hl 0 rfl) ?_
  refine b_ifnonnull (tgt := 19) hx hb dX11_hours_10 (by decide) (fun j_5 ej_6 => ?_) (fun ej_6 => ?_)
  ·
    subst ej_6
    have hl : lv_has ls 3 [(2, .ref (al.2 65 j_5)), (0, .ref (al.2 49 0)), (1, .int tt)] := hl
    have hb_7 : j_5 < al.1 65 := hb_3 j_5 rfl
    have hq3 := hp_1.2.1 _ rfl
    have hn3 := hq3.1
    rw [clamp_n] at hn3
    refine lv_aload_n hx hb dX11_hours_19 rfl (lv_at hl 1 rfl) ?_
    refine lv_aload_n hx hb dX11_hours_20 rfl (lv_at hl 0 rfl) ?_
    refine q_fi (q_runV (t := 49) (i := 0) (As := [.ref (al.2 65 j_5)]) (rest := []) C hU (c_X11_hoursOf_x hG (j_5) hb_7 (pre0)) vm_X11_hoursOf ml_X11_215 k_49.1 (hc := rfl) rfl (h1_49 hG) hl.1 rfl rfl (Nat.le_of_ble_eq_true rfl) dX11_hours_21 rfl rfl ⟨Nat.le_of_ble_eq_true rfl, Nat.le_of_ble_eq_true rfl⟩ ⟨Nat.le_refl _, Nat.le_refl _⟩) hS (fun x_13 iv_9 rv_10 H locs hG fa_11 fb_12 hp_8 hU hS => ?_)
    have hF1 := hF1.tr (m := ([51, 60, 61], [])) fa_11 (by decide)
    have hF2 := hF2.tr (m := ([51, 60, 61], [])) fb_12 (by decide)
    exact hret (⟨hG, hF1, hF2, by unfold hrS; rw [if_neg (by omega), hp_8, hq3.1]⟩) hU hS dX11_hours_24
  ·
    subst ej_6
    have hl : lv_has ls 3 [(2, rfv al 65 none), (0, .ref (al.2 49 0)), (1, .int tt)] := hl
    have hq3 := hp_1.2.2 rfl
    refine lv_aload_n hx hb dX11_hours_13 rfl (lv_at hl 1 rfl) ?_
    refine lv_iconst (v := (-1)) hx hb dX11_hours_14 (by decide) ?_
    refine q_fi (q_runV (t := 49) (i := 0) (As := [.int (-1)]) (rest := []) C hU (c_X11_refuse hG (-1) (by omega)) vm_X11_refuse ml_X11_77 k_49.1 (hc := rfl) rfl (h1_49 hG) hl.1 rfl rfl (Nat.le_of_ble_eq_true rfl) dX11_hours_15 rfl rfl ⟨Nat.le_of_ble_eq_true rfl, Nat.le_of_ble_eq_true rfl⟩ ⟨Nat.le_refl _, Nat.le_refl _⟩) hS (fun x_19 iv_15 rv_16 H locs hG fa_17 fb_18 hp_14 hU hS => ?_)
    have hF1 := hF1.tr (m := ([51, 60, 61], [])) fa_17 (by decide)
    have hF2 := hF2.tr (m := ([51, 60, 61], [])) fb_18 (by decide)
    exact hret (⟨hG, hF1, hF2, by unfold hrS; rw [if_pos (by omega)]; exact hp_14⟩) hU hS dX11_hours_18
set_option maxHeartbeats 4000000 in
set_option maxRecDepth 100000 in
theorem c_X12_ahead_x {l : Launch} {D : va_G} {cA : FieldType → ClassId} {sz : Nat} {al : Al} {iv : Iv} {rv : Rv} (hG : GI al iv rv) (lg : Int32) (bb : Int32) (pre0 : 0 ≤ bb.toInt ∧ bb.toInt ≤ 1) : Met l yX12_ahead (wd yX12_ahead cX12_ahead 4 (some .int)) (rm 2) (PcW D cA sz al iv rv [.ref (al.2 0 0), .int lg, .int bb]) (QI D cA sz al (fI al ([16], []) iv rv (fun r iv' rv' => r = ahS iv lg bb))) 0 0 (Aq sz) := by
  refine mk_i (by decide) (Nat.le_of_ble_eq_true rfl) rfl ?_
  intro p e s m args below meth c ls Q H locs C hU hS hl hret
  have hx := C.1.1
  have hb := C.1.2.1
  have hl : lv_has ls 4 [(0, .ref (al.2 0 0)), (1, .int lg), (2, .int bb)] := hl
  have hG0 := hG
  have h6 := le6 hG
  have h20 := le20 hG
  have h41 := le41 hG
  have hF1 : FR ([16], []) iv iv := FR.rf
  have hF2 : FR ([16], []) rv rv := FR.rf
  have km9 : ((-9) : Int32).toInt = -9 := by decide
  have km1 : ((-1) : Int32).toInt = -1 := by decide
  refine lv_aload_n hx hb dX12_ahead_0 rfl (lv_at hl 0 rfl) ?_
  refine lv_iload_n hx hb dX12_ahead_1 rfl (lv_at hl 1 rfl) ?_
  refine q_pi (q_runV (t := 0) (i := 0) (As := [.int lg]) (rest := []) C hU (c_X12_isLeg hG lg ) vm_X12_isLeg ml_X12_181 k_0.1 (hc := rfl) rfl (h1_0 hG) hl.1 rfl rfl (Nat.le_of_ble_eq_true rfl) dX12_ahead_2 rfl rfl ⟨Nat.le_of_ble_eq_true rfl, Nat.le_of_ble_eq_true rfl⟩ ⟨Nat.le_refl _, Nat.le_refl _⟩) hS (fun x_2 H locs hp_1 hU hS => ?_)
  refine b_if_ne (tgt := 14) hx hb dX12_ahead_5 (by decide) (fun c_3 => ?_) (fun c_3 => ?_)
  ·
    refine lv_aload_n hx hb dX12_ahead_14 rfl (lv_at hl 0 rfl) ?_
    refine lv_iload_n hx hb dX12_ahead_15 rfl (lv_at hl 1 rfl) ?_
    refine lv_iload_n hx hb dX12_ahead_16 rfl (lv_at hl 2 rfl) ?_
    refine q_pi (q_runV (t := 0) (i := 0) (As := [.int lg, .int bb]) (rest := []) C hU (c_X12_aheadOf hG lg bb (by omega)) vm_X12_aheadOf ml_X12_196 k_0.1 (hc := rfl) rfl (h1_0 hG) hl.1 rfl rfl (Nat.le_of_ble_eq_true rfl) dX12_ahead_17 rfl rfl ⟨Nat.le_of_ble_eq_true rfl, Nat.le_of_ble_eq_true rfl⟩ ⟨Nat.le_refl _, Nat.le_refl _⟩) hS (fun x_5 H locs hp_4 hU hS => ?_)
    have q_6 := hp_4.2.1
    have tq_6 := congrArg Int32.toInt q_6
    refine lv_istore_n (lv' := [(3, .int x_5), (0, .ref (al.2 0 0)), (1, .int lg), (2, .int bb)]) hx hb dX12_ahead_20 rfl hl (by decide) rfl (fun ls hl => ?_)
    refine lv_iload_n hx hb dX12_ahead_21 rfl (lv_at hl 0 rfl) ?_
    refine b_if_ge (tgt := 30) hx hb dX12_ahead_22 (by decide) (fun c_7 => ?_) (fun c_7 => ?_)
    ·
      refine lv_iload_n hx hb dX12_ahead_30 rfl (lv_at hl 0 rfl) ?_
      exact hret (⟨hG, hF1, hF2, by unfold ahS; have z := hp_4.2.1; have tz := congrArg Int32.toInt z; rw [if_neg (by omega)]; first | rw [if_pos (by omega)] | (rw [if_neg (by omega)]; exact z)⟩) hU hS dX12_ahead_31
    ·
      refine lv_bipush (v := (-9)) hx hb dX12_ahead_25 (by decide) ?_
      refine lv_goto (tgt := 31) hx hb dX12_ahead_27 (by decide) ?_
      exact hret (⟨hG, hF1, hF2, by unfold ahS; have z := hp_4.2.1; have tz := congrArg Int32.toInt z; rw [if_neg (by omega)]; first | rw [if_pos (by omega)] | (rw [if_neg (by omega)]; exact z)⟩) hU hS dX12_ahead_31
  ·
    refine lv_aload_n hx hb dX12_ahead_8 rfl (lv_at hl 0 rfl) ?_
    refine lv_iconst (v := (-1)) hx hb dX12_ahead_9 (by decide) ?_
    refine q_fi (q_runV (t := 0) (i := 0) (As := [.int (-1)]) (rest := []) C hU (c_X12_refuse hG (-1) (by omega)) vm_X12_refuse ml_X12_164 k_0.1 (hc := rfl) rfl (h1_0 hG) hl.1 rfl rfl (Nat.le_of_ble_eq_true rfl) dX12_ahead_10 rfl rfl ⟨Nat.le_of_ble_eq_true rfl, Nat.le_of_ble_eq_true rfl⟩ ⟨Nat.le_refl _, Nat.le_refl _⟩) hS (fun x_13 iv_9 rv_10 H locs hG fa_11 fb_12 hp_8 hU hS => ?_)
    have hF1 := hF1.tr (m := ([16], [])) fa_11 (by decide)
    have hF2 := hF2.tr (m := ([16], [])) fb_12 (by decide)
    exact hret (⟨hG, hF1, hF2, by unfold ahS; rw [if_pos (by omega)]; exact hp_8⟩) hU hS dX12_ahead_13
set_option maxHeartbeats 4000000 in
set_option maxRecDepth 100000 in
theorem c_X11_gapFor_x {l : Launch} {D : va_G} {cA : FieldType → ClassId} {sz : Nat} {al : Al} {iv : Iv} {rv : Rv} (hG : GI al iv rv) (crew : Int32) (pre0 : BA iv rv) : Met l yX11_gapFor (wd yX11_gapFor cX11_gapFor 2 (some .int)) (rm 0) (PcW D cA sz al iv rv [.ref (al.2 49 0), .int crew]) (QI D cA sz al (pI iv rv (fun r => (0 ≤ r.toInt ∧ r.toInt ≤ 900) ∧ (r = rsF iv crew)))) 0 0 (Aq sz) := by
  refine mk_i (by decide) (Nat.le_of_ble_eq_true rfl) rfl ?_
  intro p e s m args below meth c ls Q H locs C hU hS hl hret
  have hx := C.1.1
  have hb := C.1.2.1
  have hl : lv_has ls 2 [(0, .ref (al.2 49 0)), (1, .int crew)] := hl
  have hG0 := hG
  have k0 : (0 : Int32).toInt = 0 := by decide
  have k1 : (1 : Int32).toInt = 1 := by decide
  refine lv_iload_n hx hb dX11_gapFor_0 rfl (lv_at hl 1 rfl) ?_
  refine b_if_eq (tgt := 13) hx hb dX11_gapFor_1 (by decide) (fun c_1 => ?_) (fun c_1 => ?_)
  ·
    refine lv_aload_n hx hb dX11_gapFor_13 rfl (lv_at hl 0 rfl) ?_
    refine g_49_7 C hU hG (h1_49 hG) fl_X11_67 dX11_gapFor_14 ?_
    refine lv_iconst (v := 0) hx hb dX11_gapFor_17 (by decide) ?_
    refine a_50 C hU hG (h1_50 hG) (x := 0) (by omega) (by omega) dX11_gapFor_18 (fun x_2 e_3 le_3 ue_3 => ?_)
    have te_3 := congrArg Int32.toInt e_3
    exact hret (⟨rfl, rfl, ⟨⟨by omega, by omega⟩, by unfold rsF; split <;> first | (exfalso; omega) | (rw [pre0.2.2 0 (by decide)]; simp only [e_3]; rfl) | (rw [pre0.2.2 1 (by decide)]; simp only [e_3]; rfl)⟩⟩) hU hS dX11_gapFor_19
  ·
    refine lv_aload_n hx hb dX11_gapFor_4 rfl (lv_at hl 0 rfl) ?_
    refine g_49_7 C hU hG (h1_49 hG) fl_X11_67 dX11_gapFor_5 ?_
    refine lv_iconst (v := 1) hx hb dX11_gapFor_8 (by decide) ?_
    refine a_50 C hU hG (h1_50 hG) (x := 1) (by omega) (by omega) dX11_gapFor_9 (fun x_4 e_5 le_5 ue_5 => ?_)
    have te_5 := congrArg Int32.toInt e_5
    refine lv_goto (tgt := 19) hx hb dX11_gapFor_10 (by decide) ?_
    exact hret (⟨rfl, rfl, ⟨⟨by omega, by omega⟩, by unfold rsF; split <;> first | (exfalso; omega) | (rw [pre0.2.2 0 (by decide)]; simp only [e_5]; rfl) | (rw [pre0.2.2 1 (by decide)]; simp only [e_5]; rfl)⟩⟩) hU hS dX11_gapFor_19
set_option maxHeartbeats 4000000 in
set_option maxRecDepth 100000 in
theorem c_X11_ahead_x {l : Launch} {D : va_G} {cA : FieldType → ClassId} {sz : Nat} {al : Al} {iv : Iv} {rv : Rv} (hG : GI al iv rv) (lg : Int32) (bb : Int32) (pre0 : BA iv rv) : Met l yX11_ahead (wd yX11_ahead cX11_ahead 5 (some .int)) (rm 2) (PcW D cA sz al iv rv [.ref (al.2 49 0), .int lg, .int bb]) (QI D cA sz al (fI al ([51], []) iv rv (fun r iv' rv' => r = ahS iv lg bb))) 0 0 (Aq sz) := by
  refine mk_i (by decide) (Nat.le_of_ble_eq_true rfl) rfl ?_
  intro p e s m args below meth c ls Q H locs C hU hS hl hret
  have hx := C.1.1
  have hb := C.1.2.1
  have hl : lv_has ls 5 [(0, .ref (al.2 49 0)), (1, .int lg), (2, .int bb)] := hl
  have hG0 := hG
  have hn6 := congrArg Int32.toInt pre0.1
  have hF1 : FR ([51], []) iv iv := FR.rf
  have hF2 : FR ([51], []) rv rv := FR.rf
  have km9 : ((-9) : Int32).toInt = -9 := by decide
  have km1 : ((-1) : Int32).toInt = -1 := by decide
  refine lv_aload_n hx hb dX11_ahead_0 rfl (lv_at hl 0 rfl) ?_
  refine g_49_1 C hU hG (h1_49 hG) fl_X11_19 dX11_ahead_1 ?_
  refine lv_iload_n hx hb dX11_ahead_4 rfl (lv_at hl 1 rfl) ?_
  refine q_pr (q_runV (t := 57) (i := 0) (As := [.int lg]) (rest := []) C hU (c_X10_find hG lg ) vm_X10_find ml_X11_123 k_57.1 (hc := rfl) rfl (h1_57 hG) hl.1 rfl rfl (Nat.le_of_ble_eq_true rfl) dX11_ahead_5 rfl rfl ⟨Nat.le_of_ble_eq_true rfl, Nat.le_of_ble_eq_true rfl⟩ ⟨Nat.le_refl _, Nat.le_refl _⟩) hS (fun r_2 H locs hp_1 hU hS => ?_)
  have hb_3 := hp_1.1
  refine b_astore_n (lv' := [(3, rfv al 62 r_2), (0, .ref (al.2 49 0)), (1, .int lg), (2, .int bb)]) hx hb dX11_ahead_8 rfl hl (by decide) rfl (fun ls hl => ?_)
  refine b_aload_n (al := al) (t' := 62) (r := r_2) hx hb dX11_ahead_9 rfl (lv_at hl 0 rfl) ?_
  refine b_ifnonnull (tgt := 19) hx hb dX11_ahead_10 (by decide) (fun j_5 ej_6 => ?_) (fun ej_6 => ?_)
  ·
    subst ej_6
    have hl : lv_has ls 5 [(3, .ref (al.2 62 j_5)), (0, .ref (al.2 49 0)), (1, .int lg), (2, .int bb)] := hl
    have hb_7 : j_5 < al.1 62 := hb_3 j_5 rfl
    have hq4 := hp_1.2.1 _ rfl
    have hn4 := hq4.1
    rw [clamp_n] at hn4
    refine lv_aload_n hx hb dX11_ahead_19 rfl (lv_at hl 1 rfl) ?_
    refine g_49_1 C hU hG (h1_49 hG) fl_X11_19 dX11_ahead_20 ?_
    refine lv_aload_n hx hb dX11_ahead_23 rfl (lv_at hl 0 rfl) ?_
    refine lv_iload_n hx hb dX11_ahead_24 rfl (lv_at hl 3 rfl) ?_
    refine lv_aload_n hx hb dX11_ahead_25 rfl (lv_at hl 1 rfl) ?_
    refine lv_iload_n hx hb dX11_ahead_26 rfl (lv_at hl 3 rfl) ?_
    refine q_pi (q_runV (t := 49) (i := 0) (As := [.int bb]) (rest := [.int bb, .ref (al.2 62 j_5), .ref (al.2 57 0)]) C hU (c_X11_gapFor_x hG bb (pre0)) vm_X11_gapFor ml_X11_159 k_49.1 (hc := rfl) rfl (h1_49 hG) hl.1 rfl rfl (Nat.le_of_ble_eq_true rfl) dX11_ahead_27 rfl rfl ⟨Nat.le_of_ble_eq_true rfl, Nat.le_of_ble_eq_true rfl⟩ ⟨Nat.le_refl _, Nat.le_refl _⟩) hS (fun x_9 H locs hp_8 hU hS => ?_)
    refine q_pr (q_runV (t := 57) (i := 0) (As := [.ref (al.2 62 j_5), .int bb, .int x_9]) (rest := []) C hU (c_X10_aheadOf_x hG (j_5) hb_7 bb x_9 (pre0) (hp_8.2)) vm_X10_aheadOf ml_X11_163 k_57.1 (hc := rfl) rfl (h1_57 hG) hl.1 rfl rfl (Nat.le_of_ble_eq_true rfl) dX11_ahead_30 rfl rfl ⟨Nat.le_of_ble_eq_true rfl, Nat.le_of_ble_eq_true rfl⟩ ⟨Nat.le_refl _, Nat.le_refl _⟩) hS (fun r_11 H locs hp_10 hU hS => ?_)
    have hb_12 := hp_10.1
    refine b_astore (lv' := [(4, rfv al 62 r_11), (3, .ref (al.2 62 j_5)), (0, .ref (al.2 49 0)), (1, .int lg), (2, .int bb)]) hx hb dX11_ahead_33 hl (by decide) rfl (fun ls hl => ?_)
    refine b_aload (al := al) (t' := 62) (r := r_11) hx hb dX11_ahead_35 (lv_at hl 0 rfl) ?_
    refine b_ifnonnull (tgt := 45) hx hb dX11_ahead_37 (by decide) (fun j_14 ej_15 => ?_) (fun ej_15 => ?_)
    ·
      subst ej_15
      have hl : lv_has ls 5 [(4, .ref (al.2 62 j_14)), (3, .ref (al.2 62 j_5)), (0, .ref (al.2 49 0)), (1, .int lg), (2, .int bb)] := hl
      have hb_16 : j_14 < al.1 62 := hb_12 j_14 rfl
      refine lv_aload hx hb dX11_ahead_45 (lv_at hl 0 rfl) ?_
      refine g_62_0 C hU hG hb_16 fl_X11_167 dX11_ahead_47 (fun x_17 e_18 le_18 ue_18 => ?_)
      have te_18 := congrArg Int32.toInt e_18
      exact hret (⟨hG, hF1, hF2, by unfold ahS; have z := hp_10.2; rw [hq4.1] at z; rw [if_neg (by omega)]; first | rw [if_pos (oI_none z)] | (have y := oI_some z; rw [if_neg (by omega)]; exact ah_num hG0 pre0.2.1 hb_16 e_18 y)⟩) hU hS dX11_ahead_50
    ·
      subst ej_15
      have hl : lv_has ls 5 [(4, rfv al 62 none), (3, .ref (al.2 62 j_5)), (0, .ref (al.2 49 0)), (1, .int lg), (2, .int bb)] := hl
      refine lv_bipush (v := (-9)) hx hb dX11_ahead_40 (by decide) ?_
      refine lv_goto (tgt := 50) hx hb dX11_ahead_42 (by decide) ?_
      exact hret (⟨hG, hF1, hF2, by unfold ahS; have z := hp_10.2; rw [hq4.1] at z; rw [if_neg (by omega)]; first | rw [if_pos (oI_none z)] | (have y := oI_some z; rw [if_neg (by omega)]; exact ah_num hG0 pre0.2.1 hb_12 True.intro y)⟩) hU hS dX11_ahead_50
  ·
    subst ej_6
    have hl : lv_has ls 5 [(3, rfv al 62 none), (0, .ref (al.2 49 0)), (1, .int lg), (2, .int bb)] := hl
    have hq4 := hp_1.2.2 rfl
    refine lv_aload_n hx hb dX11_ahead_13 rfl (lv_at hl 1 rfl) ?_
    refine lv_iconst (v := (-1)) hx hb dX11_ahead_14 (by decide) ?_
    refine q_fi (q_runV (t := 49) (i := 0) (As := [.int (-1)]) (rest := []) C hU (c_X11_refuse hG (-1) (by omega)) vm_X11_refuse ml_X11_77 k_49.1 (hc := rfl) rfl (h1_49 hG) hl.1 rfl rfl (Nat.le_of_ble_eq_true rfl) dX11_ahead_15 rfl rfl ⟨Nat.le_of_ble_eq_true rfl, Nat.le_of_ble_eq_true rfl⟩ ⟨Nat.le_refl _, Nat.le_refl _⟩) hS (fun x_24 iv_20 rv_21 H locs hG fa_22 fb_23 hp_19 hU hS => ?_)
    have hF1 := hF1.tr (m := ([51], [])) fa_22 (by decide)
    have hF2 := hF2.tr (m := ([51], [])) fb_23 (by decide)
    exact hret (⟨hG, hF1, hF2, by unfold ahS; rw [if_pos (by omega)]; exact hp_19⟩) hU hS dX11_ahead_18
set_option maxHeartbeats 4000000 in
set_option maxRecDepth 100000 in
theorem c_X12_legOf_x {l : Launch} {D : va_G} {cA : FieldType → ClassId} {sz : Nat} {al : Al} {iv : Iv} {rv : Rv} (hG : GI al iv rv) (lg : Int32) (what : Int32) : Met l yX12_legOf (wd yX12_legOf cX12_legOf 3 (some .int)) (rm 6) (PcW D cA sz al iv rv [.ref (al.2 0 0), .int lg, .int what]) (QI D cA sz al (fI al ([16], []) iv rv (fun r iv' rv' => r = loS iv lg what))) 0 0 (Aq sz) := by
  refine mk_i (by decide) (Nat.le_of_ble_eq_true rfl) rfl ?_
  intro p e s m args below meth c ls Q H locs C hU hS hl hret
  have hx := C.1.1
  have hb := C.1.2.1
  have hl : lv_has ls 3 [(0, .ref (al.2 0 0)), (1, .int lg), (2, .int what)] := hl
  have hG0 := hG
  have h6 := le6 hG
  have h20 := le20 hG
  have h41 := le41 hG
  have hF1 : FR ([16], []) iv iv := FR.rf
  have hF2 : FR ([16], []) rv rv := FR.rf
  have km5 : ((-5) : Int32).toInt = -5 := by decide
  have km2 : ((-2) : Int32).toInt = -2 := by decide
  have km1 : ((-1) : Int32).toInt = -1 := by decide
  have k0 : (0 : Int32).toInt = 0 := by decide
  have k1 : (1 : Int32).toInt = 1 := by decide
  have k5 : (5 : Int32).toInt = 5 := by decide
  refine lv_aload_n hx hb dX12_legOf_0 rfl (lv_at hl 0 rfl) ?_
  refine lv_iload_n hx hb dX12_legOf_1 rfl (lv_at hl 1 rfl) ?_
  refine q_pi (q_runV (t := 0) (i := 0) (As := [.int lg]) (rest := []) C hU (c_X12_isLeg hG lg ) vm_X12_isLeg ml_X12_181 k_0.1 (hc := rfl) rfl (h1_0 hG) hl.1 rfl rfl (Nat.le_of_ble_eq_true rfl) dX12_legOf_2 rfl rfl ⟨Nat.le_of_ble_eq_true rfl, Nat.le_of_ble_eq_true rfl⟩ ⟨Nat.le_refl _, Nat.le_refl _⟩) hS (fun x_2 H locs hp_1 hU hS => ?_)
  refine b_if_ne (tgt := 14) hx hb dX12_legOf_5 (by decide) (fun c_3 => ?_) (fun c_3 => ?_)
  ·
    refine lv_iload_n hx hb dX12_legOf_14 rfl (lv_at hl 2 rfl) ?_
    refine lv_iconst (v := 0) hx hb dX12_legOf_15 (by decide) ?_
    refine lv_iconst (v := 5) hx hb dX12_legOf_16 (by decide) ?_
    refine q_pi (q_runS (As := [.int what, .int 0, .int 5]) (rest := []) C hU (c_X12_in  what 0 5 ) sm_X12_in ml_X12_156 hl.1 rfl rfl (Nat.le_of_ble_eq_true rfl) dX12_legOf_17 rfl rfl ⟨Nat.le_of_ble_eq_true rfl, Nat.le_of_ble_eq_true rfl⟩ ⟨Nat.le_refl _, Nat.le_refl _⟩) hS (fun x_5 H locs hp_4 hU hS => ?_)
    refine b_if_ne (tgt := 30) hx hb dX12_legOf_20 (by decide) (fun c_6 => ?_) (fun c_6 => ?_)
    ·
      refine lv_aload_n hx hb dX12_legOf_30 rfl (lv_at hl 0 rfl) ?_
      refine g_0_13 C hU hG (h1_0 hG) fl_X12_40 dX12_legOf_31 ?_
      refine lv_iload_n hx hb dX12_legOf_34 rfl (lv_at hl 1 rfl) ?_
      refine a_11 C hU hG (h1_11 hG) (x := lg) (by omega) (by omega) dX12_legOf_35 (fun x_7 e_8 le_8 ue_8 => ?_)
      have te_8 := congrArg Int32.toInt e_8
      refine b_if_ne (tgt := 46) hx hb dX12_legOf_36 (by decide) (fun c_9 => ?_) (fun c_9 => ?_)
      ·
        refine lv_iload_n hx hb dX12_legOf_46 rfl (lv_at hl 2 rfl) ?_
        refine b_table hx hb dX12_legOf_47 112 (by decide) [80, 86, 92, 99, 106] (by decide) (fun j hj => ?_) (fun c_10 => ?_) (fun j tt htt c_10 => ?_)
        ·
          match j, hj with
          | 0, _ => exact ⟨33, 80, by decide, by decide, by decide⟩
          | 1, _ => exact ⟨39, 86, by decide, by decide, by decide⟩
          | 2, _ => exact ⟨45, 92, by decide, by decide, by decide⟩
          | 3, _ => exact ⟨52, 99, by decide, by decide, by decide⟩
          | 4, _ => exact ⟨59, 106, by decide, by decide, by decide⟩
          | q + 5, hq => exact absurd hq (by simp)
        ·
          refine lv_aload_n hx hb dX12_legOf_112 rfl (lv_at hl 0 rfl) ?_
          refine lv_iload_n hx hb dX12_legOf_113 rfl (lv_at hl 1 rfl) ?_
          refine q_pi (q_runV (t := 0) (i := 0) (As := [.int lg]) (rest := []) C hU (c_X12_lateOf hG lg (by omega)) vm_X12_lateOf ml_X12_210 k_0.1 (hc := rfl) rfl (h1_0 hG) hl.1 rfl rfl (Nat.le_of_ble_eq_true rfl) dX12_legOf_114 rfl rfl ⟨Nat.le_of_ble_eq_true rfl, Nat.le_of_ble_eq_true rfl⟩ ⟨Nat.le_refl _, Nat.le_refl _⟩) hS (fun x_12 H locs hp_11 hU hS => ?_)
          have q_13 := hp_11.2
          have tq_13 := congrArg Int32.toInt q_13
          refine lv_aload_n hx hb dX12_legOf_117 rfl (lv_at hl 0 rfl) ?_
          refine lv_iload_n hx hb dX12_legOf_118 rfl (lv_at hl 1 rfl) ?_
          refine q_pi (q_runV (t := 0) (i := 0) (As := [.int lg]) (rest := [.int x_12]) C hU (c_X12_handedOf hG lg (by omega)) vm_X12_handedOf ml_X12_216 k_0.1 (hc := rfl) rfl (h1_0 hG) hl.1 rfl rfl (Nat.le_of_ble_eq_true rfl) dX12_legOf_119 rfl rfl ⟨Nat.le_of_ble_eq_true rfl, Nat.le_of_ble_eq_true rfl⟩ ⟨Nat.le_refl _, Nat.le_refl _⟩) hS (fun x_15 H locs hp_14 hU hS => ?_)
          have q_16 := hp_14.2
          have tq_16 := congrArg Int32.toInt q_16
          refine lv_isub hx hb dX12_legOf_122 ?_
          refine lv_topi (fun x_17 e_18 => ?_)
          have w_19 := fb_rng x_12
          have w_20 := fb_rng x_15
          have te_18 : x_17.toInt = (x_12 : Int32).toInt - (x_15 : Int32).toInt := by rw [e_18]; exact fb_subI (by omega) (by omega)
          exact hret (⟨hG, hF1, hF2, by unfold loS; rw [if_neg (by omega), if_neg (by omega), if_neg (by omega), if_neg (by omega), if_neg (by omega), if_neg (by omega), if_neg (by omega), if_neg (by omega), e_18, q_13, q_16]⟩) hU hS dX12_legOf_123
        ·
          match j, htt with
          | 0, htt =>
            cases htt
            refine lv_aload_n hx hb dX12_legOf_80 rfl (lv_at hl 0 rfl) ?_
            refine lv_iload_n hx hb dX12_legOf_81 rfl (lv_at hl 1 rfl) ?_
            refine q_pi (q_runV (t := 0) (i := 0) (As := [.int lg]) (rest := []) C hU (c_X12_lateOf hG lg (by omega)) vm_X12_lateOf ml_X12_210 k_0.1 (hc := rfl) rfl (h1_0 hG) hl.1 rfl rfl (Nat.le_of_ble_eq_true rfl) dX12_legOf_82 rfl rfl ⟨Nat.le_of_ble_eq_true rfl, Nat.le_of_ble_eq_true rfl⟩ ⟨Nat.le_refl _, Nat.le_refl _⟩) hS (fun x_22 H locs hp_21 hU hS => ?_)
            have q_23 := hp_21.2
            have tq_23 := congrArg Int32.toInt q_23
            exact hret (⟨hG, hF1, hF2, by unfold loS; rw [if_neg (by omega), if_neg (by omega), if_neg (by omega), if_pos (by omega)]; exact q_23⟩) hU hS dX12_legOf_85
          | 1, htt =>
            cases htt
            refine lv_aload_n hx hb dX12_legOf_86 rfl (lv_at hl 0 rfl) ?_
            refine lv_iload_n hx hb dX12_legOf_87 rfl (lv_at hl 1 rfl) ?_
            refine q_pi (q_runV (t := 0) (i := 0) (As := [.int lg]) (rest := []) C hU (c_X12_outlateOf hG lg (by omega)) vm_X12_outlateOf ml_X12_200 k_0.1 (hc := rfl) rfl (h1_0 hG) hl.1 rfl rfl (Nat.le_of_ble_eq_true rfl) dX12_legOf_88 rfl rfl ⟨Nat.le_of_ble_eq_true rfl, Nat.le_of_ble_eq_true rfl⟩ ⟨Nat.le_refl _, Nat.le_refl _⟩) hS (fun x_25 H locs hp_24 hU hS => ?_)
            have q_26 := hp_24.2
            have tq_26 := congrArg Int32.toInt q_26
            exact hret (⟨hG, hF1, hF2, by unfold loS; rw [if_neg (by omega), if_neg (by omega), if_neg (by omega), if_neg (by omega), if_pos (by omega)]; exact q_26⟩) hU hS dX12_legOf_91
          | 2, htt =>
            cases htt
            refine lv_aload_n hx hb dX12_legOf_92 rfl (lv_at hl 0 rfl) ?_
            refine lv_iload_n hx hb dX12_legOf_93 rfl (lv_at hl 1 rfl) ?_
            refine lv_iconst (v := 0) hx hb dX12_legOf_94 (by decide) ?_
            refine q_pi (q_runV (t := 0) (i := 0) (As := [.int lg, .int 0]) (rest := []) C hU (c_X12_waitOf hG lg 0 (by omega)) vm_X12_waitOf ml_X12_207 k_0.1 (hc := rfl) rfl (h1_0 hG) hl.1 rfl rfl (Nat.le_of_ble_eq_true rfl) dX12_legOf_95 rfl rfl ⟨Nat.le_of_ble_eq_true rfl, Nat.le_of_ble_eq_true rfl⟩ ⟨Nat.le_refl _, Nat.le_refl _⟩) hS (fun x_28 H locs hp_27 hU hS => ?_)
            have q_29 := hp_27.2
            have tq_29 := congrArg Int32.toInt q_29
            exact hret (⟨hG, hF1, hF2, by unfold loS; rw [if_neg (by omega), if_neg (by omega), if_neg (by omega), if_neg (by omega), if_neg (by omega), if_pos (by omega)]; exact q_29⟩) hU hS dX12_legOf_98
          | 3, htt =>
            cases htt
            refine lv_aload_n hx hb dX12_legOf_99 rfl (lv_at hl 0 rfl) ?_
            refine lv_iload_n hx hb dX12_legOf_100 rfl (lv_at hl 1 rfl) ?_
            refine lv_iconst (v := 1) hx hb dX12_legOf_101 (by decide) ?_
            refine q_pi (q_runV (t := 0) (i := 0) (As := [.int lg, .int 1]) (rest := []) C hU (c_X12_waitOf hG lg 1 (by omega)) vm_X12_waitOf ml_X12_207 k_0.1 (hc := rfl) rfl (h1_0 hG) hl.1 rfl rfl (Nat.le_of_ble_eq_true rfl) dX12_legOf_102 rfl rfl ⟨Nat.le_of_ble_eq_true rfl, Nat.le_of_ble_eq_true rfl⟩ ⟨Nat.le_refl _, Nat.le_refl _⟩) hS (fun x_31 H locs hp_30 hU hS => ?_)
            have q_32 := hp_30.2
            have tq_32 := congrArg Int32.toInt q_32
            exact hret (⟨hG, hF1, hF2, by unfold loS; rw [if_neg (by omega), if_neg (by omega), if_neg (by omega), if_neg (by omega), if_neg (by omega), if_neg (by omega), if_pos (by omega)]; exact q_32⟩) hU hS dX12_legOf_105
          | 4, htt =>
            cases htt
            refine lv_aload_n hx hb dX12_legOf_106 rfl (lv_at hl 0 rfl) ?_
            refine lv_iload_n hx hb dX12_legOf_107 rfl (lv_at hl 1 rfl) ?_
            refine q_pi (q_runV (t := 0) (i := 0) (As := [.int lg]) (rest := []) C hU (c_X12_handedOf hG lg (by omega)) vm_X12_handedOf ml_X12_216 k_0.1 (hc := rfl) rfl (h1_0 hG) hl.1 rfl rfl (Nat.le_of_ble_eq_true rfl) dX12_legOf_108 rfl rfl ⟨Nat.le_of_ble_eq_true rfl, Nat.le_of_ble_eq_true rfl⟩ ⟨Nat.le_refl _, Nat.le_refl _⟩) hS (fun x_34 H locs hp_33 hU hS => ?_)
            have q_35 := hp_33.2
            have tq_35 := congrArg Int32.toInt q_35
            exact hret (⟨hG, hF1, hF2, by unfold loS; rw [if_neg (by omega), if_neg (by omega), if_neg (by omega), if_neg (by omega), if_neg (by omega), if_neg (by omega), if_neg (by omega), if_pos (by omega)]; exact q_35⟩) hU hS dX12_legOf_111
          | q + 5, htt => simp at htt
      ·
        refine lv_aload_n hx hb dX12_legOf_39 rfl (lv_at hl 0 rfl) ?_
        refine lv_bipush (v := (-5)) hx hb dX12_legOf_40 (by decide) ?_
        refine q_fi (q_runV (t := 0) (i := 0) (As := [.int (-5)]) (rest := []) C hU (c_X12_refuse hG (-5) (by omega)) vm_X12_refuse ml_X12_164 k_0.1 (hc := rfl) rfl (h1_0 hG) hl.1 rfl rfl (Nat.le_of_ble_eq_true rfl) dX12_legOf_42 rfl rfl ⟨Nat.le_of_ble_eq_true rfl, Nat.le_of_ble_eq_true rfl⟩ ⟨Nat.le_refl _, Nat.le_refl _⟩) hS (fun x_41 iv_37 rv_38 H locs hG fa_39 fb_40 hp_36 hU hS => ?_)
        have hF1 := hF1.tr (m := ([16], [])) fa_39 (by decide)
        have hF2 := hF2.tr (m := ([16], [])) fb_40 (by decide)
        exact hret (⟨hG, hF1, hF2, by unfold loS; rw [if_neg (by omega), if_neg (by omega), if_pos (by omega)]; exact hp_36⟩) hU hS dX12_legOf_45
    ·
      refine lv_aload_n hx hb dX12_legOf_23 rfl (lv_at hl 0 rfl) ?_
      refine lv_bipush (v := (-2)) hx hb dX12_legOf_24 (by decide) ?_
      refine q_fi (q_runV (t := 0) (i := 0) (As := [.int (-2)]) (rest := []) C hU (c_X12_refuse hG (-2) (by omega)) vm_X12_refuse ml_X12_164 k_0.1 (hc := rfl) rfl (h1_0 hG) hl.1 rfl rfl (Nat.le_of_ble_eq_true rfl) dX12_legOf_26 rfl rfl ⟨Nat.le_of_ble_eq_true rfl, Nat.le_of_ble_eq_true rfl⟩ ⟨Nat.le_refl _, Nat.le_refl _⟩) hS (fun x_47 iv_43 rv_44 H locs hG fa_45 fb_46 hp_42 hU hS => ?_)
      have hF1 := hF1.tr (m := ([16], [])) fa_45 (by decide)
      have hF2 := hF2.tr (m := ([16], [])) fb_46 (by decide)
      exact hret (⟨hG, hF1, hF2, by unfold loS; rw [if_neg (by omega), if_pos (by omega)]; exact hp_42⟩) hU hS dX12_legOf_29
  ·
    refine lv_aload_n hx hb dX12_legOf_8 rfl (lv_at hl 0 rfl) ?_
    refine lv_iconst (v := (-1)) hx hb dX12_legOf_9 (by decide) ?_
    refine q_fi (q_runV (t := 0) (i := 0) (As := [.int (-1)]) (rest := []) C hU (c_X12_refuse hG (-1) (by omega)) vm_X12_refuse ml_X12_164 k_0.1 (hc := rfl) rfl (h1_0 hG) hl.1 rfl rfl (Nat.le_of_ble_eq_true rfl) dX12_legOf_10 rfl rfl ⟨Nat.le_of_ble_eq_true rfl, Nat.le_of_ble_eq_true rfl⟩ ⟨Nat.le_refl _, Nat.le_refl _⟩) hS (fun x_53 iv_49 rv_50 H locs hG fa_51 fb_52 hp_48 hU hS => ?_)
    have hF1 := hF1.tr (m := ([16], [])) fa_51 (by decide)
    have hF2 := hF2.tr (m := ([16], [])) fb_52 (by decide)
    exact hret (⟨hG, hF1, hF2, by unfold loS; rw [if_pos (by omega)]; exact hp_48⟩) hU hS dX12_legOf_13
set_option maxHeartbeats 4000000 in
set_option maxRecDepth 100000 in
theorem c_X11_waitOf_x {l : Launch} {D : va_G} {cA : FieldType → ClassId} {sz : Nat} {al : Al} {iv : Iv} {rv : Rv} (hG : GI al iv rv) (li : Nat) (hli : li < al.1 62) (crew : Int32) (pre0 : BL iv rv) (pre1 : ¬ (iv 62 li 7).toInt = 0) : Met l yX11_waitOf (wd yX11_waitOf cX11_waitOf 4 (some .int)) (rm 2) (PcW D cA sz al iv rv [.ref (al.2 49 0), .ref (al.2 62 li), .int crew]) (QI D cA sz al (pI iv rv (fun r => r = wtF iv li crew))) 0 0 (Aq sz) := by
  refine mk_i (by decide) (Nat.le_of_ble_eq_true rfl) rfl ?_
  intro p e s m args below meth c ls Q H locs C hU hS hl hret
  have hx := C.1.1
  have hb := C.1.2.1
  have hl : lv_has ls 4 [(0, .ref (al.2 49 0)), (1, .ref (al.2 62 li)), (2, .int crew)] := hl
  have hG0 := hG
  refine lv_aload_n hx hb dX11_waitOf_0 rfl (lv_at hl 0 rfl) ?_
  refine lv_iload_n hx hb dX11_waitOf_1 rfl (lv_at hl 2 rfl) ?_
  refine q_pi (q_runV (t := 49) (i := 0) (As := [.int crew]) (rest := []) C hU (c_X11_gapFor_x hG crew (pre0.1)) vm_X11_gapFor ml_X11_159 k_49.1 (hc := rfl) rfl (h1_49 hG) hl.1 rfl rfl (Nat.le_of_ble_eq_true rfl) dX11_waitOf_2 rfl rfl ⟨Nat.le_of_ble_eq_true rfl, Nat.le_of_ble_eq_true rfl⟩ ⟨Nat.le_refl _, Nat.le_refl _⟩) hS (fun x_2 H locs hp_1 hU hS => ?_)
  refine lv_istore_n (lv' := [(3, .int x_2), (0, .ref (al.2 49 0)), (1, .ref (al.2 62 li)), (2, .int crew)]) hx hb dX11_waitOf_5 rfl hl (by decide) rfl (fun ls hl => ?_)
  refine lv_aload_n hx hb dX11_waitOf_6 rfl (lv_at hl 2 rfl) ?_
  refine lv_aload_n hx hb dX11_waitOf_7 rfl (lv_at hl 1 rfl) ?_
  refine g_49_1 C hU hG (h1_49 hG) fl_X11_19 dX11_waitOf_8 ?_
  refine lv_aload_n hx hb dX11_waitOf_11 rfl (lv_at hl 2 rfl) ?_
  refine lv_iload_n hx hb dX11_waitOf_12 rfl (lv_at hl 3 rfl) ?_
  refine lv_iload_n hx hb dX11_waitOf_13 rfl (lv_at hl 0 rfl) ?_
  refine q_pr (q_runV (t := 57) (i := 0) (As := [.ref (al.2 62 li), .int crew, .int x_2]) (rest := [.ref (al.2 62 li)]) C hU (c_X10_aheadOf_x hG (li) hli crew x_2 (pre0.1) (hp_1.2)) vm_X10_aheadOf ml_X11_163 k_57.1 (hc := rfl) rfl (h1_57 hG) hl.1 rfl rfl (Nat.le_of_ble_eq_true rfl) dX11_waitOf_14 rfl rfl ⟨Nat.le_of_ble_eq_true rfl, Nat.le_of_ble_eq_true rfl⟩ ⟨Nat.le_refl _, Nat.le_refl _⟩) hS (fun r_4 H locs hp_3 hU hS => ?_)
  have hb_5 := hp_3.1
  refine lv_iload_n hx hb dX11_waitOf_17 rfl (lv_at hl 0 rfl) ?_
  refine q_pi (q_runV (t := 62) (i := li) (As := [rfv al 62 r_4, .int x_2]) (rest := []) C hU (c_X5_waitFor_x hG (li) hli r_4 hb_5 x_2 ) vm_X5_waitFor ml_X11_336 k_62.1 (hc := rfl) rfl hli hl.1 rfl rfl (Nat.le_of_ble_eq_true rfl) dX11_waitOf_18 rfl rfl ⟨Nat.le_of_ble_eq_true rfl, Nat.le_of_ble_eq_true rfl⟩ ⟨Nat.le_refl _, Nat.le_refl _⟩) hS (fun x_7 H locs hp_6 hU hS => ?_)
  exact hret (⟨rfl, rfl, by have z := hp_6; rw [hp_3.2, hp_1.2] at z; rw [z]; exact wt_x hG0 pre0 hli pre1⟩) hU hS dX11_waitOf_21
set_option maxHeartbeats 4000000 in
set_option maxRecDepth 100000 in
theorem c_X11_handedTo_x {l : Launch} {D : va_G} {cA : FieldType → ClassId} {sz : Nat} {al : Al} {iv : Iv} {rv : Rv} (hG : GI al iv rv) (li : Nat) (hli : li < al.1 62) (pre0 : BL iv rv) (pre1 : ¬ (iv 62 li 7).toInt = 0) : Met l yX11_handedTo (wd yX11_handedTo cX11_handedTo 2 (some .int)) (rm 3) (PcW D cA sz al iv rv [.ref (al.2 49 0), .ref (al.2 62 li)]) (QI D cA sz al (pI iv rv (fun r => r = hdF iv li))) 0 0 (Aq sz) := by
  refine mk_i (by decide) (Nat.le_of_ble_eq_true rfl) rfl ?_
  intro p e s m args below meth c ls Q H locs C hU hS hl hret
  have hx := C.1.1
  have hb := C.1.2.1
  have hl : lv_has ls 2 [(0, .ref (al.2 49 0)), (1, .ref (al.2 62 li))] := hl
  have hG0 := hG
  have k0 : (0 : Int32).toInt = 0 := by decide
  have k1 : (1 : Int32).toInt = 1 := by decide
  refine lv_aload_n hx hb dX11_handedTo_0 rfl (lv_at hl 1 rfl) ?_
  refine g_62_13 C hU hG hli fl_X11_145 dX11_handedTo_1 (fun x_1 e_2 => ?_)
  have te_2 := congrArg Int32.toInt e_2
  refine lv_aload_n hx hb dX11_handedTo_4 rfl (lv_at hl 0 rfl) ?_
  refine lv_aload_n hx hb dX11_handedTo_5 rfl (lv_at hl 1 rfl) ?_
  refine lv_iconst (v := 0) hx hb dX11_handedTo_6 (by decide) ?_
  refine q_pi (q_runV (t := 49) (i := 0) (As := [.ref (al.2 62 li), .int 0]) (rest := [.int x_1]) C hU (c_X11_waitOf_x hG (li) hli 0 (pre0) (pre1)) vm_X11_waitOf ml_X11_151 k_49.1 (hc := rfl) rfl (h1_49 hG) hl.1 rfl rfl (Nat.le_of_ble_eq_true rfl) dX11_handedTo_7 rfl rfl ⟨Nat.le_of_ble_eq_true rfl, Nat.le_of_ble_eq_true rfl⟩ ⟨Nat.le_refl _, Nat.le_refl _⟩) hS (fun x_4 H locs hp_3 hU hS => ?_)
  refine lv_aload_n hx hb dX11_handedTo_10 rfl (lv_at hl 0 rfl) ?_
  refine lv_aload_n hx hb dX11_handedTo_11 rfl (lv_at hl 1 rfl) ?_
  refine lv_iconst (v := 1) hx hb dX11_handedTo_12 (by decide) ?_
  refine q_pi (q_runV (t := 49) (i := 0) (As := [.ref (al.2 62 li), .int 1]) (rest := [.int x_4, .int x_1]) C hU (c_X11_waitOf_x hG (li) hli 1 (pre0) (pre1)) vm_X11_waitOf ml_X11_151 k_49.1 (hc := rfl) rfl (h1_49 hG) hl.1 rfl rfl (Nat.le_of_ble_eq_true rfl) dX11_handedTo_13 rfl rfl ⟨Nat.le_of_ble_eq_true rfl, Nat.le_of_ble_eq_true rfl⟩ ⟨Nat.le_refl _, Nat.le_refl _⟩) hS (fun x_6 H locs hp_5 hU hS => ?_)
  refine q_max C hl.1 ml_X11_180 (Nat.le_of_ble_eq_true rfl) (Nat.le_of_ble_eq_true rfl) (Nat.le_refl _) (Nat.le_refl _) dX11_handedTo_16 (fun x_7 q_8 tq_8 => ?_)
  refine q_min C hl.1 ml_X11_340 (Nat.le_of_ble_eq_true rfl) (Nat.le_of_ble_eq_true rfl) (Nat.le_refl _) (Nat.le_refl _) dX11_handedTo_19 (fun x_9 q_10 tq_10 => ?_)
  exact hret (⟨rfl, rfl, by rw [q_10, q_8, hp_3, hp_5, e_2]; exact hd_x hG0 pre0 hli pre1⟩) hU hS dX11_handedTo_22
set_option maxHeartbeats 4000000 in
set_option maxRecDepth 100000 in
theorem c_X11_legOf_x {l : Launch} {D : va_G} {cA : FieldType → ClassId} {sz : Nat} {al : Al} {iv : Iv} {rv : Rv} (hG : GI al iv rv) (lg : Int32) (what : Int32) (pre0 : BL iv rv) : Met l yX11_legOf (wd yX11_legOf cX11_legOf 4 (some .int)) (rm 4) (PcW D cA sz al iv rv [.ref (al.2 49 0), .int lg, .int what]) (QI D cA sz al (fI al ([51], []) iv rv (fun r iv' rv' => r = loS iv lg what))) 0 0 (Aq sz) := by
  refine mk_i (by decide) (Nat.le_of_ble_eq_true rfl) rfl ?_
  intro p e s m args below meth c ls Q H locs C hU hS hl hret
  have hx := C.1.1
  have hb := C.1.2.1
  have hl : lv_has ls 4 [(0, .ref (al.2 49 0)), (1, .int lg), (2, .int what)] := hl
  have hG0 := hG
  have hn6 := congrArg Int32.toInt pre0.1.1
  have hF1 : FR ([51], []) iv iv := FR.rf
  have hF2 : FR ([51], []) rv rv := FR.rf
  have km5 : ((-5) : Int32).toInt = -5 := by decide
  have km2 : ((-2) : Int32).toInt = -2 := by decide
  have km1 : ((-1) : Int32).toInt = -1 := by decide
  have k0 : (0 : Int32).toInt = 0 := by decide
  have k1 : (1 : Int32).toInt = 1 := by decide
  have k6 : (6 : Int32).toInt = 6 := by decide
  refine lv_aload_n hx hb dX11_legOf_0 rfl (lv_at hl 0 rfl) ?_
  refine g_49_1 C hU hG (h1_49 hG) fl_X11_19 dX11_legOf_1 ?_
  refine lv_iload_n hx hb dX11_legOf_4 rfl (lv_at hl 1 rfl) ?_
  refine q_pr (q_runV (t := 57) (i := 0) (As := [.int lg]) (rest := []) C hU (c_X10_find hG lg ) vm_X10_find ml_X11_123 k_57.1 (hc := rfl) rfl (h1_57 hG) hl.1 rfl rfl (Nat.le_of_ble_eq_true rfl) dX11_legOf_5 rfl rfl ⟨Nat.le_of_ble_eq_true rfl, Nat.le_of_ble_eq_true rfl⟩ ⟨Nat.le_refl _, Nat.le_refl _⟩) hS (fun r_2 H locs hp_1 hU hS => ?_)
  have hb_3 := hp_1.1
  refine b_astore_n (lv' := [(3, rfv al 62 r_2), (0, .ref (al.2 49 0)), (1, .int lg), (2, .int what)]) hx hb dX11_legOf_8 rfl hl (by decide) rfl (fun ls hl => ?_)
  refine b_aload_n (al := al) (t' := 62) (r := r_2) hx hb dX11_legOf_9 rfl (lv_at hl 0 rfl) ?_
  refine b_ifnonnull (tgt := 19) hx hb dX11_legOf_10 (by decide) (fun j_5 ej_6 => ?_) (fun ej_6 => ?_)
  ·
    subst ej_6
    have hl : lv_has ls 4 [(3, .ref (al.2 62 j_5)), (0, .ref (al.2 49 0)), (1, .int lg), (2, .int what)] := hl
    have hb_7 : j_5 < al.1 62 := hb_3 j_5 rfl
    have hq4 := hp_1.2.1 _ rfl
    have hn4 := hq4.1
    rw [clamp_n] at hn4
    refine lv_bipush (v := 6) hx hb dX11_legOf_19 (by decide) ?_
    refine lv_iload_n hx hb dX11_legOf_21 rfl (lv_at hl 3 rfl) ?_
    refine q_pi (q_runS (As := [.int 6, .int what]) (rest := []) C hU (c_X11_isOneOf  6 what ) sm_X11_isOneOf ml_X11_85 hl.1 rfl rfl (Nat.le_of_ble_eq_true rfl) dX11_legOf_22 rfl rfl ⟨Nat.le_of_ble_eq_true rfl, Nat.le_of_ble_eq_true rfl⟩ ⟨Nat.le_refl _, Nat.le_refl _⟩) hS (fun x_9 H locs hp_8 hU hS => ?_)
    refine b_if_ne (tgt := 35) hx hb dX11_legOf_25 (by decide) (fun c_10 => ?_) (fun c_10 => ?_)
    ·
      refine lv_aload_n hx hb dX11_legOf_35 rfl (lv_at hl 0 rfl) ?_
      refine g_62_7 C hU hG hb_7 fl_X11_126 dX11_legOf_36 (fun x_11 e_12 le_12 ue_12 => ?_)
      have te_12 := congrArg Int32.toInt e_12
      have hl7 := lg_done hG0 pre0 hb_7 hq4.1
      refine b_if_ne (tgt := 49) hx hb dX11_legOf_39 (by decide) (fun c_13 => ?_) (fun c_13 => ?_)
      ·
        refine lv_iload_n hx hb dX11_legOf_49 rfl (lv_at hl 3 rfl) ?_
        refine b_table hx hb dX11_legOf_50 114 (by decide) [84, 89, 94, 101, 108] (by decide) (fun j hj => ?_) (fun c_14 => ?_) (fun j tt htt c_14 => ?_)
        ·
          match j, hj with
          | 0, _ => exact ⟨34, 84, by decide, by decide, by decide⟩
          | 1, _ => exact ⟨39, 89, by decide, by decide, by decide⟩
          | 2, _ => exact ⟨44, 94, by decide, by decide, by decide⟩
          | 3, _ => exact ⟨51, 101, by decide, by decide, by decide⟩
          | 4, _ => exact ⟨58, 108, by decide, by decide, by decide⟩
          | q + 5, hq => exact absurd hq (by simp)
        ·
          have hrt := rt_x hG0 pre0 hb_7 (by omega)
          refine lv_aload_n hx hb dX11_legOf_114 rfl (lv_at hl 0 rfl) ?_
          refine g_62_13 C hU hG hb_7 fl_X11_145 dX11_legOf_115 (fun x_15 e_16 => ?_)
          have te_16 := congrArg Int32.toInt e_16
          refine lv_aload_n hx hb dX11_legOf_118 rfl (lv_at hl 1 rfl) ?_
          refine lv_aload_n hx hb dX11_legOf_119 rfl (lv_at hl 0 rfl) ?_
          refine q_pi (q_runV (t := 49) (i := 0) (As := [.ref (al.2 62 j_5)]) (rest := [.int x_15]) C hU (c_X11_handedTo_x hG (j_5) hb_7 (pre0) (by omega)) vm_X11_handedTo ml_X11_155 k_49.1 (hc := rfl) rfl (h1_49 hG) hl.1 rfl rfl (Nat.le_of_ble_eq_true rfl) dX11_legOf_120 rfl rfl ⟨Nat.le_of_ble_eq_true rfl, Nat.le_of_ble_eq_true rfl⟩ ⟨Nat.le_refl _, Nat.le_refl _⟩) hS (fun x_18 H locs hp_17 hU hS => ?_)
          refine lv_isub hx hb dX11_legOf_123 ?_
          refine lv_topi (fun x_19 e_20 => ?_)
          exact hret (⟨hG, hF1, hF2, by unfold loS; rw [if_neg (by omega), if_neg (by omega), if_neg (by omega), if_neg (by omega), if_neg (by omega), if_neg (by omega), if_neg (by omega), if_neg (by omega), e_20, e_16, hrt.2.2.2, hp_17, hq4.1]⟩) hU hS dX11_legOf_124
        ·
          match j, htt with
          | 0, htt =>
            cases htt
            have hrt := rt_x hG0 pre0 hb_7 (by omega)
            refine lv_aload_n hx hb dX11_legOf_84 rfl (lv_at hl 0 rfl) ?_
            refine g_62_13 C hU hG hb_7 fl_X11_145 dX11_legOf_85 (fun x_21 e_22 => ?_)
            have te_22 := congrArg Int32.toInt e_22
            exact hret (⟨hG, hF1, hF2, by unfold loS; rw [if_neg (by omega), if_neg (by omega), if_neg (by omega), if_pos (by omega), e_22, hrt.2.2.2, hq4.1]⟩) hU hS dX11_legOf_88
          | 1, htt =>
            cases htt
            have hrt := rt_x hG0 pre0 hb_7 (by omega)
            refine lv_aload_n hx hb dX11_legOf_89 rfl (lv_at hl 0 rfl) ?_
            refine g_62_12 C hU hG hb_7 fl_X11_148 dX11_legOf_90 (fun x_23 e_24 => ?_)
            have te_24 := congrArg Int32.toInt e_24
            exact hret (⟨hG, hF1, hF2, by unfold loS; rw [if_neg (by omega), if_neg (by omega), if_neg (by omega), if_neg (by omega), if_pos (by omega), e_24, hrt.2.2.1, hq4.1]⟩) hU hS dX11_legOf_93
          | 2, htt =>
            cases htt
            refine lv_aload_n hx hb dX11_legOf_94 rfl (lv_at hl 1 rfl) ?_
            refine lv_aload_n hx hb dX11_legOf_95 rfl (lv_at hl 0 rfl) ?_
            refine lv_iconst (v := 0) hx hb dX11_legOf_96 (by decide) ?_
            refine q_pi (q_runV (t := 49) (i := 0) (As := [.ref (al.2 62 j_5), .int 0]) (rest := []) C hU (c_X11_waitOf_x hG (j_5) hb_7 0 (pre0) (by omega)) vm_X11_waitOf ml_X11_151 k_49.1 (hc := rfl) rfl (h1_49 hG) hl.1 rfl rfl (Nat.le_of_ble_eq_true rfl) dX11_legOf_97 rfl rfl ⟨Nat.le_of_ble_eq_true rfl, Nat.le_of_ble_eq_true rfl⟩ ⟨Nat.le_refl _, Nat.le_refl _⟩) hS (fun x_26 H locs hp_25 hU hS => ?_)
            exact hret (⟨hG, hF1, hF2, by unfold loS; rw [if_neg (by omega), if_neg (by omega), if_neg (by omega), if_neg (by omega), if_neg (by omega), if_pos (by omega), hp_25, hq4.1]⟩) hU hS dX11_legOf_100
          | 3, htt =>
            cases htt
            refine lv_aload_n hx hb dX11_legOf_101 rfl (lv_at hl 1 rfl) ?_
            refine lv_aload_n hx hb dX11_legOf_102 rfl (lv_at hl 0 rfl) ?_
            refine lv_iconst (v := 1) hx hb dX11_legOf_103 (by decide) ?_
            refine q_pi (q_runV (t := 49) (i := 0) (As := [.ref (al.2 62 j_5), .int 1]) (rest := []) C hU (c_X11_waitOf_x hG (j_5) hb_7 1 (pre0) (by omega)) vm_X11_waitOf ml_X11_151 k_49.1 (hc := rfl) rfl (h1_49 hG) hl.1 rfl rfl (Nat.le_of_ble_eq_true rfl) dX11_legOf_104 rfl rfl ⟨Nat.le_of_ble_eq_true rfl, Nat.le_of_ble_eq_true rfl⟩ ⟨Nat.le_refl _, Nat.le_refl _⟩) hS (fun x_28 H locs hp_27 hU hS => ?_)
            exact hret (⟨hG, hF1, hF2, by unfold loS; rw [if_neg (by omega), if_neg (by omega), if_neg (by omega), if_neg (by omega), if_neg (by omega), if_neg (by omega), if_pos (by omega), hp_27, hq4.1]⟩) hU hS dX11_legOf_107
          | 4, htt =>
            cases htt
            refine lv_aload_n hx hb dX11_legOf_108 rfl (lv_at hl 1 rfl) ?_
            refine lv_aload_n hx hb dX11_legOf_109 rfl (lv_at hl 0 rfl) ?_
            refine q_pi (q_runV (t := 49) (i := 0) (As := [.ref (al.2 62 j_5)]) (rest := []) C hU (c_X11_handedTo_x hG (j_5) hb_7 (pre0) (by omega)) vm_X11_handedTo ml_X11_155 k_49.1 (hc := rfl) rfl (h1_49 hG) hl.1 rfl rfl (Nat.le_of_ble_eq_true rfl) dX11_legOf_110 rfl rfl ⟨Nat.le_of_ble_eq_true rfl, Nat.le_of_ble_eq_true rfl⟩ ⟨Nat.le_refl _, Nat.le_refl _⟩) hS (fun x_30 H locs hp_29 hU hS => ?_)
            exact hret (⟨hG, hF1, hF2, by unfold loS; rw [if_neg (by omega), if_neg (by omega), if_neg (by omega), if_neg (by omega), if_neg (by omega), if_neg (by omega), if_neg (by omega), if_pos (by omega), hp_29, hq4.1]⟩) hU hS dX11_legOf_113
          | q + 5, htt => simp at htt
      ·
        refine lv_aload_n hx hb dX11_legOf_42 rfl (lv_at hl 1 rfl) ?_
        refine lv_bipush (v := (-5)) hx hb dX11_legOf_43 (by decide) ?_
        refine q_fi (q_runV (t := 49) (i := 0) (As := [.int (-5)]) (rest := []) C hU (c_X11_refuse hG (-5) (by omega)) vm_X11_refuse ml_X11_77 k_49.1 (hc := rfl) rfl (h1_49 hG) hl.1 rfl rfl (Nat.le_of_ble_eq_true rfl) dX11_legOf_45 rfl rfl ⟨Nat.le_of_ble_eq_true rfl, Nat.le_of_ble_eq_true rfl⟩ ⟨Nat.le_refl _, Nat.le_refl _⟩) hS (fun x_36 iv_32 rv_33 H locs hG fa_34 fb_35 hp_31 hU hS => ?_)
        have hF1 := hF1.tr (m := ([51], [])) fa_34 (by decide)
        have hF2 := hF2.tr (m := ([51], [])) fb_35 (by decide)
        exact hret (⟨hG, hF1, hF2, by unfold loS; rw [if_neg (by omega), if_neg (by omega), if_pos (by omega)]; exact hp_31⟩) hU hS dX11_legOf_48
    ·
      refine lv_aload_n hx hb dX11_legOf_28 rfl (lv_at hl 1 rfl) ?_
      refine lv_bipush (v := (-2)) hx hb dX11_legOf_29 (by decide) ?_
      refine q_fi (q_runV (t := 49) (i := 0) (As := [.int (-2)]) (rest := []) C hU (c_X11_refuse hG (-2) (by omega)) vm_X11_refuse ml_X11_77 k_49.1 (hc := rfl) rfl (h1_49 hG) hl.1 rfl rfl (Nat.le_of_ble_eq_true rfl) dX11_legOf_31 rfl rfl ⟨Nat.le_of_ble_eq_true rfl, Nat.le_of_ble_eq_true rfl⟩ ⟨Nat.le_refl _, Nat.le_refl _⟩) hS (fun x_42 iv_38 rv_39 H locs hG fa_40 fb_41 hp_37 hU hS => ?_)
      have hF1 := hF1.tr (m := ([51], [])) fa_40 (by decide)
      have hF2 := hF2.tr (m := ([51], [])) fb_41 (by decide)
      exact hret (⟨hG, hF1, hF2, by unfold loS; rw [if_neg (by omega), if_pos (by omega)]; exact hp_37⟩) hU hS dX11_legOf_34
  ·
    subst ej_6
    have hl : lv_has ls 4 [(3, rfv al 62 none), (0, .ref (al.2 49 0)), (1, .int lg), (2, .int what)] := hl
    have hq4 := hp_1.2.2 rfl
    refine lv_aload_n hx hb dX11_legOf_13 rfl (lv_at hl 1 rfl) ?_
    refine lv_iconst (v := (-1)) hx hb dX11_legOf_14 (by decide) ?_
    refine q_fi (q_runV (t := 49) (i := 0) (As := [.int (-1)]) (rest := []) C hU (c_X11_refuse hG (-1) (by omega)) vm_X11_refuse ml_X11_77 k_49.1 (hc := rfl) rfl (h1_49 hG) hl.1 rfl rfl (Nat.le_of_ble_eq_true rfl) dX11_legOf_15 rfl rfl ⟨Nat.le_of_ble_eq_true rfl, Nat.le_of_ble_eq_true rfl⟩ ⟨Nat.le_refl _, Nat.le_refl _⟩) hS (fun x_48 iv_44 rv_45 H locs hG fa_46 fb_47 hp_43 hU hS => ?_)
    have hF1 := hF1.tr (m := ([51], [])) fa_46 (by decide)
    have hF2 := hF2.tr (m := ([51], [])) fb_47 (by decide)
    exact hret (⟨hG, hF1, hF2, by unfold loS; rw [if_pos (by omega)]; exact hp_43⟩) hU hS dX11_legOf_18
