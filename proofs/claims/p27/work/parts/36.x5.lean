set_option maxHeartbeats 4000000 in
set_option maxRecDepth 100000 in
theorem c_X11_days {l : Launch} {D : va_G} {cA : FieldType → ClassId} {sz : Nat} {al : Al} {iv : Iv} {rv : Rv} (hG : GI al iv rv) (n : Int32) : Met l yX11_days (wd yX11_days cX11_days 2 (some .int)) (rm 2) (PcW D cA sz al iv rv [.ref (al.2 49 0), .int n]) (QI D cA sz al (fI al ([51], [(49, 9)]) iv rv (fun r iv' rv' => True))) 0 0 (Aq sz) := by
  refine mk_i (by decide) (Nat.le_of_ble_eq_true rfl) rfl ?_
  intro p e s m args below meth c ls Q H locs C hU hS hl hret
  have hx := C.1.1
  have hb := C.1.2.1
  have hl : lv_has ls 2 [(0, .ref (al.2 49 0)), (1, .int n)] := hl
  have hG0 := hG
  have hF1 : FR ([51], [(49, 9)]) iv iv := FR.rf
  have hF2 : FR ([51], [(49, 9)]) rv rv := FR.rf
  have km6 : ((-6) : Int32).toInt = -6 := by decide
  have km4 : ((-4) : Int32).toInt = -4 := by decide
  have k4000 : (4000 : Int32).toInt = 4000 := by decide
  refine lv_iload_n hx hb dX11_days_0 rfl (lv_at hl 1 rfl) ?_
  refine b_if_ge (tgt := 11) hx hb dX11_days_1 (by decide) (fun c_1 => ?_) (fun c_1 => ?_)
  ·
    refine lv_iload_n hx hb dX11_days_11 rfl (lv_at hl 1 rfl) ?_
    refine lv_sipush (v := 4000) hx hb dX11_days_12 (by decide) ?_
    refine lv_aload_n hx hb dX11_days_15 rfl (lv_at hl 0 rfl) ?_
    refine g_49_9 C hU hG (h1_49 hG) fl_X11_73 dX11_days_16 (fun x_2 e_3 le_3 ue_3 => ?_)
    have te_3 := congrArg Int32.toInt e_3
    refine lv_isub hx hb dX11_days_19 ?_
    refine lv_topi (fun x_4 e_5 => ?_)
    have te_5 : x_4.toInt = (4000 : Int32).toInt - (x_2 : Int32).toInt := by rw [e_5]; exact fb_subI (by omega) (by omega)
    refine b_icmp_le (tgt := 30) hx hb dX11_days_20 (by decide) (fun c_6 => ?_) (fun c_6 => ?_)
    ·
      refine lv_aload_n hx hb dX11_days_30 rfl (lv_at hl 0 rfl) ?_
      refine lv_dup hx hb dX11_days_31 rfl ?_
      refine g_49_9 C hU hG (h1_49 hG) fl_X11_73 dX11_days_32 (fun x_7 e_8 le_8 ue_8 => ?_)
      have te_8 := congrArg Int32.toInt e_8
      refine lv_iload_n hx hb dX11_days_35 rfl (lv_at hl 1 rfl) ?_
      refine lv_iadd hx hb dX11_days_36 ?_
      refine lv_topi (fun x_9 e_10 => ?_)
      have te_10 : x_9.toInt = (x_7 : Int32).toInt + (n : Int32).toInt := by rw [e_10]; exact fb_addI (by omega) (by omega)
      refine p_49_9 C hU hS (h1_49 hG) fl_X11_73 dX11_days_37 (fun iv_11 H locs ei_12 hU hS => ?_)
      have hG : GI al iv_11 rv := by rw [ei_12]; exact hG.puti (show _ ∧ _ from ⟨show (0 : Int) ≤ _ by omega, show _ ≤ (4000 : Int) by omega⟩) (nsF (by decide))
      have hF1 : FR ([51], [(49, 9)]) iv iv_11 := by rw [ei_12]; exact hF1.put (by decide)
      refine lv_aload_n hx hb dX11_days_40 rfl (lv_at hl 0 rfl) ?_
      refine g_49_9 C hU hG (h1_49 hG) fl_X11_73 dX11_days_41 (fun x_13 e_14 le_14 ue_14 => ?_)
      have te_14 := congrArg Int32.toInt e_14
      exact hret (⟨hG, hF1, hF2, trivial⟩) hU hS dX11_days_44
    ·
      refine lv_aload_n hx hb dX11_days_23 rfl (lv_at hl 0 rfl) ?_
      refine lv_bipush (v := (-6)) hx hb dX11_days_24 (by decide) ?_
      refine q_fi (q_runV (t := 49) (i := 0) (As := [.int (-6)]) (rest := []) C hU (c_X11_refuse hG (-6) (by omega)) vm_X11_refuse ml_X11_77 k_49.1 (hc := rfl) rfl (h1_49 hG) hl.1 rfl rfl (Nat.le_of_ble_eq_true rfl) dX11_days_26 rfl rfl ⟨Nat.le_of_ble_eq_true rfl, Nat.le_of_ble_eq_true rfl⟩ ⟨Nat.le_refl _, Nat.le_refl _⟩) hS (fun x_20 iv_16 rv_17 H locs hG fa_18 fb_19 hp_15 hU hS => ?_)
      have hF1 := hF1.tr (m := ([51], [(49, 9)])) fa_18 (by decide)
      have hF2 := hF2.tr (m := ([51], [(49, 9)])) fb_19 (by decide)
      exact hret (⟨hG, hF1, hF2, trivial⟩) hU hS dX11_days_29
  ·
    refine lv_aload_n hx hb dX11_days_4 rfl (lv_at hl 0 rfl) ?_
    refine lv_bipush (v := (-4)) hx hb dX11_days_5 (by decide) ?_
    refine q_fi (q_runV (t := 49) (i := 0) (As := [.int (-4)]) (rest := []) C hU (c_X11_refuse hG (-4) (by omega)) vm_X11_refuse ml_X11_77 k_49.1 (hc := rfl) rfl (h1_49 hG) hl.1 rfl rfl (Nat.le_of_ble_eq_true rfl) dX11_days_7 rfl rfl ⟨Nat.le_of_ble_eq_true rfl, Nat.le_of_ble_eq_true rfl⟩ ⟨Nat.le_refl _, Nat.le_refl _⟩) hS (fun x_26 iv_22 rv_23 H locs hG fa_24 fb_25 hp_21 hU hS => ?_)
    have hF1 := hF1.tr (m := ([51], [(49, 9)])) fa_24 (by decide)
    have hF2 := hF2.tr (m := ([51], [(49, 9)])) fb_25 (by decide)
    exact hret (⟨hG, hF1, hF2, trivial⟩) hU hS dX11_days_10
set_option maxHeartbeats 4000000 in
set_option maxRecDepth 100000 in
theorem c_X11_land {l : Launch} {D : va_G} {cA : FieldType → ClassId} {sz : Nat} {al : Al} {iv : Iv} {rv : Rv} (hG : GI al iv rv) (a : Int32) (v : Int32) : Met l yX11_land (wd yX11_land cX11_land 5 (some .int)) (rm 2) (PcW D cA sz al iv rv [.ref (al.2 49 0), .int a, .int v]) (QI D cA sz al (fI al ([51], [(56, 1)]) iv rv (fun r iv' rv' => True))) 0 0 (Aq sz) := by
  refine mk_i (by decide) (Nat.le_of_ble_eq_true rfl) rfl ?_
  intro p e s m args below meth c ls Q H locs C hU hS hl hret
  have hx := C.1.1
  have hb := C.1.2.1
  have hl : lv_has ls 5 [(0, .ref (al.2 49 0)), (1, .int a), (2, .int v)] := hl
  have hG0 := hG
  have hF1 : FR ([51], [(56, 1)]) iv iv := FR.rf
  have hF2 : FR ([51], [(56, 1)]) rv rv := FR.rf
  have km1 : ((-1) : Int32).toInt = -1 := by decide
  have k4 : (4 : Int32).toInt = 4 := by decide
  refine lv_aload_n hx hb dX11_land_0 rfl (lv_at hl 0 rfl) ?_
  refine g_49_0 C hU hG (h1_49 hG) fl_X11_10 dX11_land_1 ?_
  refine lv_iload_n hx hb dX11_land_4 rfl (lv_at hl 1 rfl) ?_
  refine q_pr (q_runV (t := 52) (i := 0) (As := [.int a]) (rest := []) C hU (c_X7_find hG a ) vm_X7_find ml_X11_81 k_52.1 (hc := rfl) rfl (h1_52 hG) hl.1 rfl rfl (Nat.le_of_ble_eq_true rfl) dX11_land_5 rfl rfl ⟨Nat.le_of_ble_eq_true rfl, Nat.le_of_ble_eq_true rfl⟩ ⟨Nat.le_refl _, Nat.le_refl _⟩) hS (fun r_2 H locs hp_1 hU hS => ?_)
  have hb_3 := hp_1.1
  refine b_astore_n (lv' := [(3, rfv al 56 r_2), (0, .ref (al.2 49 0)), (1, .int a), (2, .int v)]) hx hb dX11_land_8 rfl hl (by decide) rfl (fun ls hl => ?_)
  refine b_aload_n (al := al) (t' := 56) (r := r_2) hx hb dX11_land_9 rfl (lv_at hl 0 rfl) ?_
  refine b_ifnull (tgt := 21) hx hb dX11_land_10 (by decide) (fun ej_6 => ?_) (fun j_5 ej_6 => ?_)
  ·
    subst ej_6
    have hl : lv_has ls 5 [(3, rfv al 56 none), (0, .ref (al.2 49 0)), (1, .int a), (2, .int v)] := hl
    refine lv_aload_n hx hb dX11_land_21 rfl (lv_at hl 1 rfl) ?_
    refine lv_iconst (v := (-1)) hx hb dX11_land_22 (by decide) ?_
    refine q_fi (q_runV (t := 49) (i := 0) (As := [.int (-1)]) (rest := []) C hU (c_X11_refuse hG (-1) (by omega)) vm_X11_refuse ml_X11_77 k_49.1 (hc := rfl) rfl (h1_49 hG) hl.1 rfl rfl (Nat.le_of_ble_eq_true rfl) dX11_land_23 rfl rfl ⟨Nat.le_of_ble_eq_true rfl, Nat.le_of_ble_eq_true rfl⟩ ⟨Nat.le_refl _, Nat.le_refl _⟩) hS (fun x_12 iv_8 rv_9 H locs hG fa_10 fb_11 hp_7 hU hS => ?_)
    have hF1 := hF1.tr (m := ([51], [(56, 1)])) fa_10 (by decide)
    have hF2 := hF2.tr (m := ([51], [(56, 1)])) fb_11 (by decide)
    exact hret (⟨hG, hF1, hF2, trivial⟩) hU hS dX11_land_26
  ·
    subst ej_6
    have hl : lv_has ls 5 [(3, .ref (al.2 56 j_5)), (0, .ref (al.2 49 0)), (1, .int a), (2, .int v)] := hl
    have hb_13 : j_5 < al.1 56 := hb_3 j_5 rfl
    refine lv_iconst (v := 4) hx hb dX11_land_13 (by decide) ?_
    refine lv_iload_n hx hb dX11_land_14 rfl (lv_at hl 3 rfl) ?_
    refine q_pi (q_runS (As := [.int 4, .int v]) (rest := []) C hU (c_X11_isOneOf  4 v ) sm_X11_isOneOf ml_X11_85 hl.1 rfl rfl (Nat.le_of_ble_eq_true rfl) dX11_land_15 rfl rfl ⟨Nat.le_of_ble_eq_true rfl, Nat.le_of_ble_eq_true rfl⟩ ⟨Nat.le_refl _, Nat.le_refl _⟩) hS (fun x_15 H locs hp_14 hU hS => ?_)
    refine b_if_ne (tgt := 27) hx hb dX11_land_18 (by decide) (fun c_16 => ?_) (fun c_16 => ?_)
    ·
      refine lv_aload_n hx hb dX11_land_27 rfl (lv_at hl 0 rfl) ?_
      refine g_56_1 C hU hG hb_13 fl_X11_89 dX11_land_28 (fun x_17 e_18 le_18 ue_18 => ?_)
      have te_18 := congrArg Int32.toInt e_18
      refine lv_istore (lv' := [(4, .int x_17), (3, .ref (al.2 56 j_5)), (0, .ref (al.2 49 0)), (1, .int a), (2, .int v)]) hx hb dX11_land_31 hl (by decide) rfl (fun ls hl => ?_)
      refine lv_aload_n hx hb dX11_land_33 rfl (lv_at hl 1 rfl) ?_
      refine lv_iload_n hx hb dX11_land_34 rfl (lv_at hl 4 rfl) ?_
      refine p_56_1 C hU hS hb_13 fl_X11_89 dX11_land_35 (fun iv_19 H locs ei_20 hU hS => ?_)
      have hG : GI al iv_19 rv := by rw [ei_20]; exact hG.puti (show _ ∧ _ from ⟨show (0 : Int) ≤ _ by omega, show _ ≤ (3 : Int) by omega⟩) (nsF (by decide))
      have hF1 : FR ([51], [(56, 1)]) iv iv_19 := by rw [ei_20]; exact hF1.put (by decide)
      refine lv_iload hx hb dX11_land_38 (lv_at hl 0 rfl) ?_
      exact hret (⟨hG, hF1, hF2, trivial⟩) hU hS dX11_land_40
    ·
      refine lv_aload_n hx hb dX11_land_21 rfl (lv_at hl 1 rfl) ?_
      refine lv_iconst (v := (-1)) hx hb dX11_land_22 (by decide) ?_
      refine q_fi (q_runV (t := 49) (i := 0) (As := [.int (-1)]) (rest := []) C hU (c_X11_refuse hG (-1) (by omega)) vm_X11_refuse ml_X11_77 k_49.1 (hc := rfl) rfl (h1_49 hG) hl.1 rfl rfl (Nat.le_of_ble_eq_true rfl) dX11_land_23 rfl rfl ⟨Nat.le_of_ble_eq_true rfl, Nat.le_of_ble_eq_true rfl⟩ ⟨Nat.le_refl _, Nat.le_refl _⟩) hS (fun x_26 iv_22 rv_23 H locs hG fa_24 fb_25 hp_21 hU hS => ?_)
      have hF1 := hF1.tr (m := ([51], [(56, 1)])) fa_24 (by decide)
      have hF2 := hF2.tr (m := ([51], [(56, 1)])) fb_25 (by decide)
      exact hret (⟨hG, hF1, hF2, trivial⟩) hU hS dX11_land_26
set_option maxHeartbeats 4000000 in
set_option maxRecDepth 100000 in
theorem c_X11_miles {l : Launch} {D : va_G} {cA : FieldType → ClassId} {sz : Nat} {al : Al} {iv : Iv} {rv : Rv} (hG : GI al iv rv) (a : Int32) (b : Int32) (v : Int32) : Met l yX11_miles (wd yX11_miles cX11_miles 7 (some .int)) (rm 2) (PcW D cA sz al iv rv [.ref (al.2 49 0), .int a, .int b, .int v]) (QI D cA sz al (fI al ([51, 55], []) iv rv (fun r iv' rv' => True))) 0 0 (Aq sz) := by
  refine mk_i (by decide) (Nat.le_of_ble_eq_true rfl) rfl ?_
  intro p e s m args below meth c ls Q H locs C hU hS hl hret
  have hx := C.1.1
  have hb := C.1.2.1
  have hl : lv_has ls 7 [(0, .ref (al.2 49 0)), (1, .int a), (2, .int b), (3, .int v)] := hl
  have hG0 := hG
  have hF1 : FR ([51, 55], []) iv iv := FR.rf
  have hF2 : FR ([51, 55], []) rv rv := FR.rf
  have km6 : ((-6) : Int32).toInt = -6 := by decide
  have km4 : ((-4) : Int32).toInt = -4 := by decide
  have km1 : ((-1) : Int32).toInt = -1 := by decide
  have k9999 : (9999 : Int32).toInt = 9999 := by decide
  refine lv_aload_n hx hb dX11_miles_0 rfl (lv_at hl 0 rfl) ?_
  refine g_49_0 C hU hG (h1_49 hG) fl_X11_10 dX11_miles_1 ?_
  refine lv_iload_n hx hb dX11_miles_4 rfl (lv_at hl 1 rfl) ?_
  refine q_pr (q_runV (t := 52) (i := 0) (As := [.int a]) (rest := []) C hU (c_X7_find hG a ) vm_X7_find ml_X11_81 k_52.1 (hc := rfl) rfl (h1_52 hG) hl.1 rfl rfl (Nat.le_of_ble_eq_true rfl) dX11_miles_5 rfl rfl ⟨Nat.le_of_ble_eq_true rfl, Nat.le_of_ble_eq_true rfl⟩ ⟨Nat.le_refl _, Nat.le_refl _⟩) hS (fun r_2 H locs hp_1 hU hS => ?_)
  have hb_3 := hp_1.1
  refine b_astore (lv' := [(4, rfv al 56 r_2), (0, .ref (al.2 49 0)), (1, .int a), (2, .int b), (3, .int v)]) hx hb dX11_miles_8 hl (by decide) rfl (fun ls hl => ?_)
  refine lv_aload_n hx hb dX11_miles_10 rfl (lv_at hl 1 rfl) ?_
  refine g_49_0 C hU hG (h1_49 hG) fl_X11_10 dX11_miles_11 ?_
  refine lv_iload_n hx hb dX11_miles_14 rfl (lv_at hl 3 rfl) ?_
  refine q_pr (q_runV (t := 52) (i := 0) (As := [.int b]) (rest := []) C hU (c_X7_find hG b ) vm_X7_find ml_X11_81 k_52.1 (hc := rfl) rfl (h1_52 hG) hl.1 rfl rfl (Nat.le_of_ble_eq_true rfl) dX11_miles_15 rfl rfl ⟨Nat.le_of_ble_eq_true rfl, Nat.le_of_ble_eq_true rfl⟩ ⟨Nat.le_refl _, Nat.le_refl _⟩) hS (fun r_5 H locs hp_4 hU hS => ?_)
  have hb_6 := hp_4.1
  refine b_astore (lv' := [(5, rfv al 56 r_5), (4, rfv al 56 r_2), (0, .ref (al.2 49 0)), (1, .int a), (2, .int b), (3, .int v)]) hx hb dX11_miles_18 hl (by decide) (by simp [List.filter_cons, rfv_cat]) (fun ls hl => ?_)
  refine b_aload (al := al) (t' := 56) (r := r_2) hx hb dX11_miles_20 (lv_at hl 1 rfl) ?_
  refine b_ifnull (tgt := 37) hx hb dX11_miles_22 (by decide) (fun ej_9 => ?_) (fun j_8 ej_9 => ?_)
  ·
    subst ej_9
    have hl : lv_has ls 7 [(5, rfv al 56 r_5), (4, rfv al 56 none), (0, .ref (al.2 49 0)), (1, .int a), (2, .int b), (3, .int v)] := hl
    refine lv_aload_n hx hb dX11_miles_37 rfl (lv_at hl 2 rfl) ?_
    refine lv_iconst (v := (-1)) hx hb dX11_miles_38 (by decide) ?_
    refine q_fi (q_runV (t := 49) (i := 0) (As := [.int (-1)]) (rest := []) C hU (c_X11_refuse hG (-1) (by omega)) vm_X11_refuse ml_X11_77 k_49.1 (hc := rfl) rfl (h1_49 hG) hl.1 rfl rfl (Nat.le_of_ble_eq_true rfl) dX11_miles_39 rfl rfl ⟨Nat.le_of_ble_eq_true rfl, Nat.le_of_ble_eq_true rfl⟩ ⟨Nat.le_refl _, Nat.le_refl _⟩) hS (fun x_15 iv_11 rv_12 H locs hG fa_13 fb_14 hp_10 hU hS => ?_)
    have hF1 := hF1.tr (m := ([51, 55], [])) fa_13 (by decide)
    have hF2 := hF2.tr (m := ([51, 55], [])) fb_14 (by decide)
    exact hret (⟨hG, hF1, hF2, trivial⟩) hU hS dX11_miles_42
  ·
    subst ej_9
    have hl : lv_has ls 7 [(5, rfv al 56 r_5), (4, .ref (al.2 56 j_8)), (0, .ref (al.2 49 0)), (1, .int a), (2, .int b), (3, .int v)] := hl
    have hb_16 : j_8 < al.1 56 := hb_3 j_8 rfl
    refine b_aload (al := al) (t' := 56) (r := r_5) hx hb dX11_miles_25 (lv_at hl 0 rfl) ?_
    refine b_ifnull (tgt := 37) hx hb dX11_miles_27 (by decide) (fun ej_19 => ?_) (fun j_18 ej_19 => ?_)
    ·
      subst ej_19
      have hl : lv_has ls 7 [(5, rfv al 56 none), (4, .ref (al.2 56 j_8)), (0, .ref (al.2 49 0)), (1, .int a), (2, .int b), (3, .int v)] := hl
      refine lv_aload_n hx hb dX11_miles_37 rfl (lv_at hl 2 rfl) ?_
      refine lv_iconst (v := (-1)) hx hb dX11_miles_38 (by decide) ?_
      refine q_fi (q_runV (t := 49) (i := 0) (As := [.int (-1)]) (rest := []) C hU (c_X11_refuse hG (-1) (by omega)) vm_X11_refuse ml_X11_77 k_49.1 (hc := rfl) rfl (h1_49 hG) hl.1 rfl rfl (Nat.le_of_ble_eq_true rfl) dX11_miles_39 rfl rfl ⟨Nat.le_of_ble_eq_true rfl, Nat.le_of_ble_eq_true rfl⟩ ⟨Nat.le_refl _, Nat.le_refl _⟩) hS (fun x_25 iv_21 rv_22 H locs hG fa_23 fb_24 hp_20 hU hS => ?_)
      have hF1 := hF1.tr (m := ([51, 55], [])) fa_23 (by decide)
      have hF2 := hF2.tr (m := ([51, 55], [])) fb_24 (by decide)
      exact hret (⟨hG, hF1, hF2, trivial⟩) hU hS dX11_miles_42
    ·
      subst ej_19
      have hl : lv_has ls 7 [(5, .ref (al.2 56 j_18)), (4, .ref (al.2 56 j_8)), (0, .ref (al.2 49 0)), (1, .int a), (2, .int b), (3, .int v)] := hl
      have hb_26 : j_18 < al.1 56 := hb_6 j_18 rfl
      refine lv_aload hx hb dX11_miles_30 (lv_at hl 1 rfl) ?_
      refine lv_aload hx hb dX11_miles_32 (lv_at hl 0 rfl) ?_
      refine b_acmp_ne (tgt := 43) hx hb hU hb_16 hb_26 dX11_miles_34 (by decide) (fun c_27 => ?_) (fun c_27 => ?_)
      ·
        refine lv_iload_n hx hb dX11_miles_43 rfl (lv_at hl 5 rfl) ?_
        refine b_if_ge (tgt := 54) hx hb dX11_miles_44 (by decide) (fun c_28 => ?_) (fun c_28 => ?_)
        ·
          refine lv_iload_n hx hb dX11_miles_54 rfl (lv_at hl 5 rfl) ?_
          refine lv_sipush (v := 9999) hx hb dX11_miles_55 (by decide) ?_
          refine b_icmp_le (tgt := 68) hx hb dX11_miles_58 (by decide) (fun c_29 => ?_) (fun c_29 => ?_)
          ·
            refine lv_aload_n hx hb dX11_miles_68 rfl (lv_at hl 2 rfl) ?_
            refine g_49_0 C hU hG (h1_49 hG) fl_X11_10 dX11_miles_69 ?_
            refine lv_aload hx hb dX11_miles_72 (lv_at hl 1 rfl) ?_
            refine lv_aload hx hb dX11_miles_74 (lv_at hl 0 rfl) ?_
            refine q_pi (q_runV (t := 52) (i := 0) (As := [.ref (al.2 56 j_8), .ref (al.2 56 j_18)]) (rest := []) C hU (c_X7_milesBetween hG (j_8) hb_16 (j_18) hb_26 ) vm_X7_milesBetween ml_X11_94 k_52.1 (hc := rfl) rfl (h1_52 hG) hl.1 rfl rfl (Nat.le_of_ble_eq_true rfl) dX11_miles_76 rfl rfl ⟨Nat.le_of_ble_eq_true rfl, Nat.le_of_ble_eq_true rfl⟩ ⟨Nat.le_refl _, Nat.le_refl _⟩) hS (fun x_31 H locs hp_30 hU hS => ?_)
            refine lv_istore (lv' := [(6, .int x_31), (5, .ref (al.2 56 j_18)), (4, .ref (al.2 56 j_8)), (0, .ref (al.2 49 0)), (1, .int a), (2, .int b), (3, .int v)]) hx hb dX11_miles_79 hl (by decide) rfl (fun ls hl => ?_)
            refine lv_aload_n hx hb dX11_miles_81 rfl (lv_at hl 3 rfl) ?_
            refine g_49_0 C hU hG (h1_49 hG) fl_X11_10 dX11_miles_82 ?_
            refine lv_aload hx hb dX11_miles_85 (lv_at hl 2 rfl) ?_
            refine lv_aload hx hb dX11_miles_87 (lv_at hl 1 rfl) ?_
            refine lv_iload_n hx hb dX11_miles_89 rfl (lv_at hl 6 rfl) ?_
            refine q_fv (q_runV (t := 52) (i := 0) (As := [.ref (al.2 56 j_8), .ref (al.2 56 j_18), .int v]) (rest := []) C hU (c_X7_setMiles hG (j_8) hb_16 (j_18) hb_26 v ) vm_X7_setMiles ml_X11_98 k_52.1 (hc := rfl) rfl (h1_52 hG) hl.1 rfl rfl (Nat.le_of_ble_eq_true rfl) dX11_miles_90 rfl rfl ⟨Nat.le_of_ble_eq_true rfl, Nat.le_of_ble_eq_true rfl⟩ ⟨Nat.le_refl _, Nat.le_refl _⟩) hS (fun iv_33 rv_34 H locs hG fa_35 fb_36 hp_32 hU hS => ?_)
            have hF1 := hF1.tr (m := ([51, 55], [])) fa_35 (by decide)
            have hF2 := hF2.tr (m := ([51, 55], [])) fb_36 (by decide)
            refine lv_iload hx hb dX11_miles_93 (lv_at hl 0 rfl) ?_
            exact hret (⟨hG, hF1, hF2, trivial⟩) hU hS dX11_miles_95
          ·
            refine lv_aload_n hx hb dX11_miles_61 rfl (lv_at hl 2 rfl) ?_
            refine lv_bipush (v := (-6)) hx hb dX11_miles_62 (by decide) ?_
            refine q_fi (q_runV (t := 49) (i := 0) (As := [.int (-6)]) (rest := []) C hU (c_X11_refuse hG (-6) (by omega)) vm_X11_refuse ml_X11_77 k_49.1 (hc := rfl) rfl (h1_49 hG) hl.1 rfl rfl (Nat.le_of_ble_eq_true rfl) dX11_miles_64 rfl rfl ⟨Nat.le_of_ble_eq_true rfl, Nat.le_of_ble_eq_true rfl⟩ ⟨Nat.le_refl _, Nat.le_refl _⟩) hS (fun x_42 iv_38 rv_39 H locs hG fa_40 fb_41 hp_37 hU hS => ?_)
            have hF1 := hF1.tr (m := ([51, 55], [])) fa_40 (by decide)
            have hF2 := hF2.tr (m := ([51, 55], [])) fb_41 (by decide)
            exact hret (⟨hG, hF1, hF2, trivial⟩) hU hS dX11_miles_67
        ·
          refine lv_aload_n hx hb dX11_miles_47 rfl (lv_at hl 2 rfl) ?_
          refine lv_bipush (v := (-4)) hx hb dX11_miles_48 (by decide) ?_
          refine q_fi (q_runV (t := 49) (i := 0) (As := [.int (-4)]) (rest := []) C hU (c_X11_refuse hG (-4) (by omega)) vm_X11_refuse ml_X11_77 k_49.1 (hc := rfl) rfl (h1_49 hG) hl.1 rfl rfl (Nat.le_of_ble_eq_true rfl) dX11_miles_50 rfl rfl ⟨Nat.le_of_ble_eq_true rfl, Nat.le_of_ble_eq_true rfl⟩ ⟨Nat.le_refl _, Nat.le_refl _⟩) hS (fun x_48 iv_44 rv_45 H locs hG fa_46 fb_47 hp_43 hU hS => ?_)
          have hF1 := hF1.tr (m := ([51, 55], [])) fa_46 (by decide)
          have hF2 := hF2.tr (m := ([51, 55], [])) fb_47 (by decide)
          exact hret (⟨hG, hF1, hF2, trivial⟩) hU hS dX11_miles_53
      ·
        refine lv_aload_n hx hb dX11_miles_37 rfl (lv_at hl 2 rfl) ?_
        refine lv_iconst (v := (-1)) hx hb dX11_miles_38 (by decide) ?_
        refine q_fi (q_runV (t := 49) (i := 0) (As := [.int (-1)]) (rest := []) C hU (c_X11_refuse hG (-1) (by omega)) vm_X11_refuse ml_X11_77 k_49.1 (hc := rfl) rfl (h1_49 hG) hl.1 rfl rfl (Nat.le_of_ble_eq_true rfl) dX11_miles_39 rfl rfl ⟨Nat.le_of_ble_eq_true rfl, Nat.le_of_ble_eq_true rfl⟩ ⟨Nat.le_refl _, Nat.le_refl _⟩) hS (fun x_54 iv_50 rv_51 H locs hG fa_52 fb_53 hp_49 hU hS => ?_)
        have hF1 := hF1.tr (m := ([51, 55], [])) fa_52 (by decide)
        have hF2 := hF2.tr (m := ([51, 55], [])) fb_53 (by decide)
        exact hret (⟨hG, hF1, hF2, trivial⟩) hU hS dX11_miles_42
set_option maxHeartbeats 4000000 in
set_option maxRecDepth 100000 in
theorem c_X11_seen {l : Launch} {D : va_G} {cA : FieldType → ClassId} {sz : Nat} {al : Al} {iv : Iv} {rv : Rv} (hG : GI al iv rv) (a : Int32) (b : Int32) (by_ : Int32) : Met l yX11_seen (wd yX11_seen cX11_seen 6 (some .int)) (rm 3) (PcW D cA sz al iv rv [.ref (al.2 49 0), .int a, .int b, .int by_]) (QI D cA sz al (fI al ([51], [(56, 2), (56, 3), (52, 2), (62, 10), (62, 11), (62, 12), (62, 13)]) iv rv (fun r iv' rv' => True))) 0 0 (Aq sz) := by
  refine mk_i (by decide) (Nat.le_of_ble_eq_true rfl) rfl ?_
  intro p e s m args below meth c ls Q H locs C hU hS hl hret
  have hx := C.1.1
  have hb := C.1.2.1
  have hl : lv_has ls 6 [(0, .ref (al.2 49 0)), (1, .int a), (2, .int b), (3, .int by_)] := hl
  have hG0 := hG
  have hF1 : FR ([51], [(56, 2), (56, 3), (52, 2), (62, 10), (62, 11), (62, 12), (62, 13)]) iv iv := FR.rf
  have hF2 : FR ([51], [(56, 2), (56, 3), (52, 2), (62, 10), (62, 11), (62, 12), (62, 13)]) rv rv := FR.rf
  have km600 : ((-600) : Int32).toInt = -600 := by decide
  have km6 : ((-6) : Int32).toInt = -6 := by decide
  have km4 : ((-4) : Int32).toInt = -4 := by decide
  have km1 : ((-1) : Int32).toInt = -1 := by decide
  have k0 : (0 : Int32).toInt = 0 := by decide
  have k1 : (1 : Int32).toInt = 1 := by decide
  have k600 : (600 : Int32).toInt = 600 := by decide
  refine lv_aload_n hx hb dX11_seen_0 rfl (lv_at hl 0 rfl) ?_
  refine g_49_0 C hU hG (h1_49 hG) fl_X11_10 dX11_seen_1 ?_
  refine lv_iload_n hx hb dX11_seen_4 rfl (lv_at hl 1 rfl) ?_
  refine q_pr (q_runV (t := 52) (i := 0) (As := [.int a]) (rest := []) C hU (c_X7_find hG a ) vm_X7_find ml_X11_81 k_52.1 (hc := rfl) rfl (h1_52 hG) hl.1 rfl rfl (Nat.le_of_ble_eq_true rfl) dX11_seen_5 rfl rfl ⟨Nat.le_of_ble_eq_true rfl, Nat.le_of_ble_eq_true rfl⟩ ⟨Nat.le_refl _, Nat.le_refl _⟩) hS (fun r_2 H locs hp_1 hU hS => ?_)
  have hb_3 := hp_1.1
  refine b_astore (lv' := [(4, rfv al 56 r_2), (0, .ref (al.2 49 0)), (1, .int a), (2, .int b), (3, .int by_)]) hx hb dX11_seen_8 hl (by decide) rfl (fun ls hl => ?_)
  refine lv_aload_n hx hb dX11_seen_10 rfl (lv_at hl 1 rfl) ?_
  refine g_49_0 C hU hG (h1_49 hG) fl_X11_10 dX11_seen_11 ?_
  refine lv_iload_n hx hb dX11_seen_14 rfl (lv_at hl 3 rfl) ?_
  refine q_pr (q_runV (t := 52) (i := 0) (As := [.int b]) (rest := []) C hU (c_X7_find hG b ) vm_X7_find ml_X11_81 k_52.1 (hc := rfl) rfl (h1_52 hG) hl.1 rfl rfl (Nat.le_of_ble_eq_true rfl) dX11_seen_15 rfl rfl ⟨Nat.le_of_ble_eq_true rfl, Nat.le_of_ble_eq_true rfl⟩ ⟨Nat.le_refl _, Nat.le_refl _⟩) hS (fun r_5 H locs hp_4 hU hS => ?_)
  have hb_6 := hp_4.1
  refine b_astore (lv' := [(5, rfv al 56 r_5), (4, rfv al 56 r_2), (0, .ref (al.2 49 0)), (1, .int a), (2, .int b), (3, .int by_)]) hx hb dX11_seen_18 hl (by decide) (by simp [List.filter_cons, rfv_cat]) (fun ls hl => ?_)
  refine b_aload (al := al) (t' := 56) (r := r_2) hx hb dX11_seen_20 (lv_at hl 1 rfl) ?_
  refine b_ifnull (tgt := 37) hx hb dX11_seen_22 (by decide) (fun ej_9 => ?_) (fun j_8 ej_9 => ?_)
  ·
    subst ej_9
    have hl : lv_has ls 6 [(5, rfv al 56 r_5), (4, rfv al 56 none), (0, .ref (al.2 49 0)), (1, .int a), (2, .int b), (3, .int by_)] := hl
    refine lv_aload_n hx hb dX11_seen_37 rfl (lv_at hl 2 rfl) ?_
    refine lv_iconst (v := (-1)) hx hb dX11_seen_38 (by decide) ?_
    refine q_fi (q_runV (t := 49) (i := 0) (As := [.int (-1)]) (rest := []) C hU (c_X11_refuse hG (-1) (by omega)) vm_X11_refuse ml_X11_77 k_49.1 (hc := rfl) rfl (h1_49 hG) hl.1 rfl rfl (Nat.le_of_ble_eq_true rfl) dX11_seen_39 rfl rfl ⟨Nat.le_of_ble_eq_true rfl, Nat.le_of_ble_eq_true rfl⟩ ⟨Nat.le_refl _, Nat.le_refl _⟩) hS (fun x_15 iv_11 rv_12 H locs hG fa_13 fb_14 hp_10 hU hS => ?_)
    have hF1 := hF1.tr (m := ([51], [(56, 2), (56, 3), (52, 2), (62, 10), (62, 11), (62, 12), (62, 13)])) fa_13 (by decide)
    have hF2 := hF2.tr (m := ([51], [(56, 2), (56, 3), (52, 2), (62, 10), (62, 11), (62, 12), (62, 13)])) fb_14 (by decide)
    exact hret (⟨hG, hF1, hF2, trivial⟩) hU hS dX11_seen_42
  ·
    subst ej_9
    have hl : lv_has ls 6 [(5, rfv al 56 r_5), (4, .ref (al.2 56 j_8)), (0, .ref (al.2 49 0)), (1, .int a), (2, .int b), (3, .int by_)] := hl
    have hb_16 : j_8 < al.1 56 := hb_3 j_8 rfl
    refine b_aload (al := al) (t' := 56) (r := r_5) hx hb dX11_seen_25 (lv_at hl 0 rfl) ?_
    refine b_ifnull (tgt := 37) hx hb dX11_seen_27 (by decide) (fun ej_19 => ?_) (fun j_18 ej_19 => ?_)
    ·
      subst ej_19
      have hl : lv_has ls 6 [(5, rfv al 56 none), (4, .ref (al.2 56 j_8)), (0, .ref (al.2 49 0)), (1, .int a), (2, .int b), (3, .int by_)] := hl
      refine lv_aload_n hx hb dX11_seen_37 rfl (lv_at hl 2 rfl) ?_
      refine lv_iconst (v := (-1)) hx hb dX11_seen_38 (by decide) ?_
      refine q_fi (q_runV (t := 49) (i := 0) (As := [.int (-1)]) (rest := []) C hU (c_X11_refuse hG (-1) (by omega)) vm_X11_refuse ml_X11_77 k_49.1 (hc := rfl) rfl (h1_49 hG) hl.1 rfl rfl (Nat.le_of_ble_eq_true rfl) dX11_seen_39 rfl rfl ⟨Nat.le_of_ble_eq_true rfl, Nat.le_of_ble_eq_true rfl⟩ ⟨Nat.le_refl _, Nat.le_refl _⟩) hS (fun x_25 iv_21 rv_22 H locs hG fa_23 fb_24 hp_20 hU hS => ?_)
      have hF1 := hF1.tr (m := ([51], [(56, 2), (56, 3), (52, 2), (62, 10), (62, 11), (62, 12), (62, 13)])) fa_23 (by decide)
      have hF2 := hF2.tr (m := ([51], [(56, 2), (56, 3), (52, 2), (62, 10), (62, 11), (62, 12), (62, 13)])) fb_24 (by decide)
      exact hret (⟨hG, hF1, hF2, trivial⟩) hU hS dX11_seen_42
    ·
      subst ej_19
      have hl : lv_has ls 6 [(5, .ref (al.2 56 j_18)), (4, .ref (al.2 56 j_8)), (0, .ref (al.2 49 0)), (1, .int a), (2, .int b), (3, .int by_)] := hl
      have hb_26 : j_18 < al.1 56 := hb_6 j_18 rfl
      refine lv_aload hx hb dX11_seen_30 (lv_at hl 1 rfl) ?_
      refine lv_aload hx hb dX11_seen_32 (lv_at hl 0 rfl) ?_
      refine b_acmp_ne (tgt := 43) hx hb hU hb_16 hb_26 dX11_seen_34 (by decide) (fun c_27 => ?_) (fun c_27 => ?_)
      ·
        refine lv_iload_n hx hb dX11_seen_43 rfl (lv_at hl 5 rfl) ?_
        refine lv_sipush (v := (-600)) hx hb dX11_seen_44 (by decide) ?_
        refine b_icmp_ge (tgt := 57) hx hb dX11_seen_47 (by decide) (fun c_28 => ?_) (fun c_28 => ?_)
        ·
          refine lv_iload_n hx hb dX11_seen_57 rfl (lv_at hl 5 rfl) ?_
          refine lv_sipush (v := 600) hx hb dX11_seen_58 (by decide) ?_
          refine b_icmp_le (tgt := 71) hx hb dX11_seen_61 (by decide) (fun c_29 => ?_) (fun c_29 => ?_)
          ·
            refine lv_aload_n hx hb dX11_seen_71 rfl (lv_at hl 2 rfl) ?_
            refine g_49_0 C hU hG (h1_49 hG) fl_X11_10 dX11_seen_72 ?_
            refine lv_aload hx hb dX11_seen_75 (lv_at hl 1 rfl) ?_
            refine lv_aload hx hb dX11_seen_77 (lv_at hl 0 rfl) ?_
            refine lv_iload_n hx hb dX11_seen_79 rfl (lv_at hl 5 rfl) ?_
            refine q_fi (q_runV (t := 52) (i := 0) (As := [.ref (al.2 56 j_8), .ref (al.2 56 j_18), .int by_]) (rest := []) C hU (c_X7_take hG (j_8) hb_16 (j_18) hb_26 by_ ) vm_X7_take ml_X11_102 k_52.1 (hc := rfl) rfl (h1_52 hG) hl.1 rfl rfl (Nat.le_of_ble_eq_true rfl) dX11_seen_80 rfl rfl ⟨Nat.le_of_ble_eq_true rfl, Nat.le_of_ble_eq_true rfl⟩ ⟨Nat.le_refl _, Nat.le_refl _⟩) hS (fun x_35 iv_31 rv_32 H locs hG fa_33 fb_34 hp_30 hU hS => ?_)
            have hF1 := hF1.tr (m := ([51], [(56, 2), (56, 3), (52, 2), (62, 10), (62, 11), (62, 12), (62, 13)])) fa_33 (by decide)
            have hF2 := hF2.tr (m := ([51], [(56, 2), (56, 3), (52, 2), (62, 10), (62, 11), (62, 12), (62, 13)])) fb_34 (by decide)
            refine b_if_ne (tgt := 88) hx hb dX11_seen_83 (by decide) (fun c_36 => ?_) (fun c_36 => ?_)
            ·
              refine lv_aload_n hx hb dX11_seen_88 rfl (lv_at hl 2 rfl) ?_
              refine g_49_1 C hU hG (h1_49 hG) fl_X11_19 dX11_seen_89 ?_
              refine q_fv (q_runV (t := 57) (i := 0) (As := []) (rest := []) C hU (c_X10_putRight hG  ) vm_X10_putRight ml_X11_106 k_57.1 (hc := rfl) rfl (h1_57 hG) hl.1 rfl rfl (Nat.le_of_ble_eq_true rfl) dX11_seen_92 rfl rfl ⟨Nat.le_of_ble_eq_true rfl, Nat.le_of_ble_eq_true rfl⟩ ⟨Nat.le_refl _, Nat.le_refl _⟩) hS (fun iv_38 rv_39 H locs hG fa_40 fb_41 hp_37 hU hS => ?_)
              have hF1 := hF1.tr (m := ([51], [(56, 2), (56, 3), (52, 2), (62, 10), (62, 11), (62, 12), (62, 13)])) fa_40 (by decide)
              have hF2 := hF2.tr (m := ([51], [(56, 2), (56, 3), (52, 2), (62, 10), (62, 11), (62, 12), (62, 13)])) fb_41 (by decide)
              refine lv_iconst (v := 1) hx hb dX11_seen_95 (by decide) ?_
              exact hret (⟨hG, hF1, hF2, trivial⟩) hU hS dX11_seen_96
            ·
              refine lv_iconst (v := 0) hx hb dX11_seen_86 (by decide) ?_
              exact hret (⟨hG, hF1, hF2, trivial⟩) hU hS dX11_seen_87
          ·
            refine lv_aload_n hx hb dX11_seen_64 rfl (lv_at hl 2 rfl) ?_
            refine lv_bipush (v := (-6)) hx hb dX11_seen_65 (by decide) ?_
            refine q_fi (q_runV (t := 49) (i := 0) (As := [.int (-6)]) (rest := []) C hU (c_X11_refuse hG (-6) (by omega)) vm_X11_refuse ml_X11_77 k_49.1 (hc := rfl) rfl (h1_49 hG) hl.1 rfl rfl (Nat.le_of_ble_eq_true rfl) dX11_seen_67 rfl rfl ⟨Nat.le_of_ble_eq_true rfl, Nat.le_of_ble_eq_true rfl⟩ ⟨Nat.le_refl _, Nat.le_refl _⟩) hS (fun x_47 iv_43 rv_44 H locs hG fa_45 fb_46 hp_42 hU hS => ?_)
            have hF1 := hF1.tr (m := ([51], [(56, 2), (56, 3), (52, 2), (62, 10), (62, 11), (62, 12), (62, 13)])) fa_45 (by decide)
            have hF2 := hF2.tr (m := ([51], [(56, 2), (56, 3), (52, 2), (62, 10), (62, 11), (62, 12), (62, 13)])) fb_46 (by decide)
            exact hret (⟨hG, hF1, hF2, trivial⟩) hU hS dX11_seen_70
        ·
          refine lv_aload_n hx hb dX11_seen_50 rfl (lv_at hl 2 rfl) ?_
          refine lv_bipush (v := (-4)) hx hb dX11_seen_51 (by decide) ?_
          refine q_fi (q_runV (t := 49) (i := 0) (As := [.int (-4)]) (rest := []) C hU (c_X11_refuse hG (-4) (by omega)) vm_X11_refuse ml_X11_77 k_49.1 (hc := rfl) rfl (h1_49 hG) hl.1 rfl rfl (Nat.le_of_ble_eq_true rfl) dX11_seen_53 rfl rfl ⟨Nat.le_of_ble_eq_true rfl, Nat.le_of_ble_eq_true rfl⟩ ⟨Nat.le_refl _, Nat.le_refl _⟩) hS (fun x_53 iv_49 rv_50 H locs hG fa_51 fb_52 hp_48 hU hS => ?_)
          have hF1 := hF1.tr (m := ([51], [(56, 2), (56, 3), (52, 2), (62, 10), (62, 11), (62, 12), (62, 13)])) fa_51 (by decide)
          have hF2 := hF2.tr (m := ([51], [(56, 2), (56, 3), (52, 2), (62, 10), (62, 11), (62, 12), (62, 13)])) fb_52 (by decide)
          exact hret (⟨hG, hF1, hF2, trivial⟩) hU hS dX11_seen_56
      ·
        refine lv_aload_n hx hb dX11_seen_37 rfl (lv_at hl 2 rfl) ?_
        refine lv_iconst (v := (-1)) hx hb dX11_seen_38 (by decide) ?_
        refine q_fi (q_runV (t := 49) (i := 0) (As := [.int (-1)]) (rest := []) C hU (c_X11_refuse hG (-1) (by omega)) vm_X11_refuse ml_X11_77 k_49.1 (hc := rfl) rfl (h1_49 hG) hl.1 rfl rfl (Nat.le_of_ble_eq_true rfl) dX11_seen_39 rfl rfl ⟨Nat.le_of_ble_eq_true rfl, Nat.le_of_ble_eq_true rfl⟩ ⟨Nat.le_refl _, Nat.le_refl _⟩) hS (fun x_59 iv_55 rv_56 H locs hG fa_57 fb_58 hp_54 hU hS => ?_)
        have hF1 := hF1.tr (m := ([51], [(56, 2), (56, 3), (52, 2), (62, 10), (62, 11), (62, 12), (62, 13)])) fa_57 (by decide)
        have hF2 := hF2.tr (m := ([51], [(56, 2), (56, 3), (52, 2), (62, 10), (62, 11), (62, 12), (62, 13)])) fb_58 (by decide)
        exact hret (⟨hG, hF1, hF2, trivial⟩) hU hS dX11_seen_42
set_option maxHeartbeats 4000000 in
set_option maxRecDepth 100000 in
theorem c_X11_off {l : Launch} {D : va_G} {cA : FieldType → ClassId} {sz : Nat} {al : Al} {iv : Iv} {rv : Rv} (hG : GI al iv rv) (a : Int32) : Met l yX11_off (wd yX11_off cX11_off 3 (some .int)) (rm 3) (PcW D cA sz al iv rv [.ref (al.2 49 0), .int a]) (QI D cA sz al (fI al ([51], []) iv rv (fun r iv' rv' => True))) 0 0 (Aq sz) := by
  refine mk_i (by decide) (Nat.le_of_ble_eq_true rfl) rfl ?_
  intro p e s m args below meth c ls Q H locs C hU hS hl hret
  have hx := C.1.1
  have hb := C.1.2.1
  have hl : lv_has ls 3 [(0, .ref (al.2 49 0)), (1, .int a)] := hl
  have hG0 := hG
  have hF1 : FR ([51], []) iv iv := FR.rf
  have hF2 : FR ([51], []) rv rv := FR.rf
  have km1 : ((-1) : Int32).toInt = -1 := by decide
  refine lv_aload_n hx hb dX11_off_0 rfl (lv_at hl 0 rfl) ?_
  refine g_49_0 C hU hG (h1_49 hG) fl_X11_10 dX11_off_1 ?_
  refine lv_iload_n hx hb dX11_off_4 rfl (lv_at hl 1 rfl) ?_
  refine q_pr (q_runV (t := 52) (i := 0) (As := [.int a]) (rest := []) C hU (c_X7_find hG a ) vm_X7_find ml_X11_81 k_52.1 (hc := rfl) rfl (h1_52 hG) hl.1 rfl rfl (Nat.le_of_ble_eq_true rfl) dX11_off_5 rfl rfl ⟨Nat.le_of_ble_eq_true rfl, Nat.le_of_ble_eq_true rfl⟩ ⟨Nat.le_refl _, Nat.le_refl _⟩) hS (fun r_2 H locs hp_1 hU hS => ?_)
  have hb_3 := hp_1.1
  refine b_astore_n (lv' := [(2, rfv al 56 r_2), (0, .ref (al.2 49 0)), (1, .int a)]) hx hb dX11_off_8 rfl hl (by decide) rfl (fun ls hl => ?_)
  refine b_aload_n (al := al) (t' := 56) (r := r_2) hx hb dX11_off_9 rfl (lv_at hl 0 rfl) ?_
  refine b_ifnonnull (tgt := 19) hx hb dX11_off_10 (by decide) (fun j_5 ej_6 => ?_) (fun ej_6 => ?_)
  ·
    subst ej_6
    have hl : lv_has ls 3 [(2, .ref (al.2 56 j_5)), (0, .ref (al.2 49 0)), (1, .int a)] := hl
    have hb_7 : j_5 < al.1 56 := hb_3 j_5 rfl
    refine lv_aload_n hx hb dX11_off_19 rfl (lv_at hl 0 rfl) ?_
    refine g_56_3 C hU hG hb_7 fl_X11_112 dX11_off_20 (fun x_8 e_9 => ?_)
    have te_9 := congrArg Int32.toInt e_9
    exact hret (⟨hG, hF1, hF2, trivial⟩) hU hS dX11_off_23
  ·
    subst ej_6
    have hl : lv_has ls 3 [(2, rfv al 56 none), (0, .ref (al.2 49 0)), (1, .int a)] := hl
    refine lv_aload_n hx hb dX11_off_13 rfl (lv_at hl 1 rfl) ?_
    refine lv_iconst (v := (-1)) hx hb dX11_off_14 (by decide) ?_
    refine q_fi (q_runV (t := 49) (i := 0) (As := [.int (-1)]) (rest := []) C hU (c_X11_refuseBeyond hG (-1) (by omega)) vm_X11_refuseBeyond ml_X11_109 k_49.1 (hc := rfl) rfl (h1_49 hG) hl.1 rfl rfl (Nat.le_of_ble_eq_true rfl) dX11_off_15 rfl rfl ⟨Nat.le_of_ble_eq_true rfl, Nat.le_of_ble_eq_true rfl⟩ ⟨Nat.le_refl _, Nat.le_refl _⟩) hS (fun x_15 iv_11 rv_12 H locs hG fa_13 fb_14 hp_10 hU hS => ?_)
    have hF1 := hF1.tr (m := ([51], [])) fa_13 (by decide)
    have hF2 := hF2.tr (m := ([51], [])) fb_14 (by decide)
    exact hret (⟨hG, hF1, hF2, trivial⟩) hU hS dX11_off_18
set_option maxHeartbeats 4000000 in
set_option maxRecDepth 100000 in
theorem c_X11_log {l : Launch} {D : va_G} {cA : FieldType → ClassId} {sz : Nat} {al : Al} {iv : Iv} {rv : Rv} (hG : GI al iv rv) (lg : Int32) (a : Int32) (b : Int32) : Met l yX11_log (wd yX11_log cX11_log 6 (some .int)) (rm 3) (PcW D cA sz al iv rv [.ref (al.2 49 0), .int lg, .int a, .int b]) (QI D cA sz al (fI al ([51], [(62, 10), (62, 11), (62, 12), (62, 13), (62, 7), (62, 8), (62, 9)]) iv rv (fun r iv' rv' => True))) 0 0 (Aq sz) := by
  refine mk_i (by decide) (Nat.le_of_ble_eq_true rfl) rfl ?_
  intro p e s m args below meth c ls Q H locs C hU hS hl hret
  have hx := C.1.1
  have hb := C.1.2.1
  have hl : lv_has ls 6 [(0, .ref (al.2 49 0)), (1, .int lg), (2, .int a), (3, .int b)] := hl
  have hG0 := hG
  have hF1 : FR ([51], [(62, 10), (62, 11), (62, 12), (62, 13), (62, 7), (62, 8), (62, 9)]) iv iv := FR.rf
  have hF2 : FR ([51], [(62, 10), (62, 11), (62, 12), (62, 13), (62, 7), (62, 8), (62, 9)]) rv rv := FR.rf
  have km6 : ((-6) : Int32).toInt = -6 := by decide
  have km4 : ((-4) : Int32).toInt = -4 := by decide
  have km1 : ((-1) : Int32).toInt = -1 := by decide
  have k0 : (0 : Int32).toInt = 0 := by decide
  have k1 : (1 : Int32).toInt = 1 := by decide
  have k30000 : (30000 : Int32).toInt = 30000 := by decide
  refine lv_aload_n hx hb dX11_log_0 rfl (lv_at hl 0 rfl) ?_
  refine g_49_1 C hU hG (h1_49 hG) fl_X11_19 dX11_log_1 ?_
  refine lv_iload_n hx hb dX11_log_4 rfl (lv_at hl 1 rfl) ?_
  refine q_pr (q_runV (t := 57) (i := 0) (As := [.int lg]) (rest := []) C hU (c_X10_find hG lg ) vm_X10_find ml_X11_123 k_57.1 (hc := rfl) rfl (h1_57 hG) hl.1 rfl rfl (Nat.le_of_ble_eq_true rfl) dX11_log_5 rfl rfl ⟨Nat.le_of_ble_eq_true rfl, Nat.le_of_ble_eq_true rfl⟩ ⟨Nat.le_refl _, Nat.le_refl _⟩) hS (fun r_2 H locs hp_1 hU hS => ?_)
  have hb_3 := hp_1.1
  refine b_astore (lv' := [(4, rfv al 62 r_2), (0, .ref (al.2 49 0)), (1, .int lg), (2, .int a), (3, .int b)]) hx hb dX11_log_8 hl (by decide) rfl (fun ls hl => ?_)
  refine b_aload (al := al) (t' := 62) (r := r_2) hx hb dX11_log_10 (lv_at hl 0 rfl) ?_
  refine b_ifnonnull (tgt := 21) hx hb dX11_log_12 (by decide) (fun j_5 ej_6 => ?_) (fun ej_6 => ?_)
  ·
    subst ej_6
    have hl : lv_has ls 6 [(4, .ref (al.2 62 j_5)), (0, .ref (al.2 49 0)), (1, .int lg), (2, .int a), (3, .int b)] := hl
    have hb_7 : j_5 < al.1 62 := hb_3 j_5 rfl
    refine lv_iload_n hx hb dX11_log_21 rfl (lv_at hl 3 rfl) ?_
    refine b_if_lt (tgt := 29) hx hb dX11_log_22 (by decide) (fun c_8 => ?_) (fun c_8 => ?_)
    ·
      refine lv_aload_n hx hb dX11_log_29 rfl (lv_at hl 1 rfl) ?_
      refine lv_bipush (v := (-4)) hx hb dX11_log_30 (by decide) ?_
      refine q_fi (q_runV (t := 49) (i := 0) (As := [.int (-4)]) (rest := []) C hU (c_X11_refuse hG (-4) (by omega)) vm_X11_refuse ml_X11_77 k_49.1 (hc := rfl) rfl (h1_49 hG) hl.1 rfl rfl (Nat.le_of_ble_eq_true rfl) dX11_log_32 rfl rfl ⟨Nat.le_of_ble_eq_true rfl, Nat.le_of_ble_eq_true rfl⟩ ⟨Nat.le_refl _, Nat.le_refl _⟩) hS (fun x_14 iv_10 rv_11 H locs hG fa_12 fb_13 hp_9 hU hS => ?_)
      have hF1 := hF1.tr (m := ([51], [(62, 10), (62, 11), (62, 12), (62, 13), (62, 7), (62, 8), (62, 9)])) fa_12 (by decide)
      have hF2 := hF2.tr (m := ([51], [(62, 10), (62, 11), (62, 12), (62, 13), (62, 7), (62, 8), (62, 9)])) fb_13 (by decide)
      exact hret (⟨hG, hF1, hF2, trivial⟩) hU hS dX11_log_35
    ·
      refine lv_iload_n hx hb dX11_log_25 rfl (lv_at hl 4 rfl) ?_
      refine b_if_ge (tgt := 36) hx hb dX11_log_26 (by decide) (fun c_15 => ?_) (fun c_15 => ?_)
      ·
        refine lv_iload_n hx hb dX11_log_36 rfl (lv_at hl 3 rfl) ?_
        refine lv_sipush (v := 30000) hx hb dX11_log_37 (by decide) ?_
        refine b_icmp_gt (tgt := 50) hx hb dX11_log_40 (by decide) (fun c_16 => ?_) (fun c_16 => ?_)
        ·
          refine lv_aload_n hx hb dX11_log_50 rfl (lv_at hl 1 rfl) ?_
          refine lv_bipush (v := (-6)) hx hb dX11_log_51 (by decide) ?_
          refine q_fi (q_runV (t := 49) (i := 0) (As := [.int (-6)]) (rest := []) C hU (c_X11_refuse hG (-6) (by omega)) vm_X11_refuse ml_X11_77 k_49.1 (hc := rfl) rfl (h1_49 hG) hl.1 rfl rfl (Nat.le_of_ble_eq_true rfl) dX11_log_53 rfl rfl ⟨Nat.le_of_ble_eq_true rfl, Nat.le_of_ble_eq_true rfl⟩ ⟨Nat.le_refl _, Nat.le_refl _⟩) hS (fun x_22 iv_18 rv_19 H locs hG fa_20 fb_21 hp_17 hU hS => ?_)
          have hF1 := hF1.tr (m := ([51], [(62, 10), (62, 11), (62, 12), (62, 13), (62, 7), (62, 8), (62, 9)])) fa_20 (by decide)
          have hF2 := hF2.tr (m := ([51], [(62, 10), (62, 11), (62, 12), (62, 13), (62, 7), (62, 8), (62, 9)])) fb_21 (by decide)
          exact hret (⟨hG, hF1, hF2, trivial⟩) hU hS dX11_log_56
        ·
          refine lv_iload_n hx hb dX11_log_43 rfl (lv_at hl 4 rfl) ?_
          refine lv_sipush (v := 30000) hx hb dX11_log_44 (by decide) ?_
          refine b_icmp_le (tgt := 57) hx hb dX11_log_47 (by decide) (fun c_23 => ?_) (fun c_23 => ?_)
          ·
            refine lv_aload hx hb dX11_log_57 (lv_at hl 0 rfl) ?_
            refine g_62_7 C hU hG hb_7 fl_X11_126 dX11_log_59 (fun x_24 e_25 le_25 ue_25 => ?_)
            have te_25 := congrArg Int32.toInt e_25
            refine lv_istore (lv' := [(5, .int x_24), (4, .ref (al.2 62 j_5)), (0, .ref (al.2 49 0)), (1, .int lg), (2, .int a), (3, .int b)]) hx hb dX11_log_62 hl (by decide) rfl (fun ls hl => ?_)
            refine lv_aload hx hb dX11_log_64 (lv_at hl 1 rfl) ?_
            refine lv_iload_n hx hb dX11_log_66 rfl (lv_at hl 4 rfl) ?_
            refine lv_iload_n hx hb dX11_log_67 rfl (lv_at hl 5 rfl) ?_
            refine q_fv (q_runV (t := 62) (i := j_5) (As := [.int a, .int b]) (rest := []) C hU (c_X5_enter hG (j_5) hb_7 a b (by omega) (by omega)) vm_X5_enter ml_X11_132 k_62.1 (hc := rfl) rfl hb_7 hl.1 rfl rfl (Nat.le_of_ble_eq_true rfl) dX11_log_68 rfl rfl ⟨Nat.le_of_ble_eq_true rfl, Nat.le_of_ble_eq_true rfl⟩ ⟨Nat.le_refl _, Nat.le_refl _⟩) hS (fun iv_27 rv_28 H locs hG fa_29 fb_30 hp_26 hU hS => ?_)
            have hF1 := hF1.tr (m := ([51], [(62, 10), (62, 11), (62, 12), (62, 13), (62, 7), (62, 8), (62, 9)])) fa_29 (by decide)
            have hF2 := hF2.tr (m := ([51], [(62, 10), (62, 11), (62, 12), (62, 13), (62, 7), (62, 8), (62, 9)])) fb_30 (by decide)
            refine lv_iload hx hb dX11_log_71 (lv_at hl 0 rfl) ?_
            refine b_if_eq (tgt := 80) hx hb dX11_log_73 (by decide) (fun c_31 => ?_) (fun c_31 => ?_)
            ·
              refine lv_iconst (v := 1) hx hb dX11_log_80 (by decide) ?_
              exact hret (⟨hG, hF1, hF2, trivial⟩) hU hS dX11_log_81
            ·
              refine lv_iconst (v := 0) hx hb dX11_log_76 (by decide) ?_
              refine lv_goto (tgt := 81) hx hb dX11_log_77 (by decide) ?_
              exact hret (⟨hG, hF1, hF2, trivial⟩) hU hS dX11_log_81
          ·
            refine lv_aload_n hx hb dX11_log_50 rfl (lv_at hl 1 rfl) ?_
            refine lv_bipush (v := (-6)) hx hb dX11_log_51 (by decide) ?_
            refine q_fi (q_runV (t := 49) (i := 0) (As := [.int (-6)]) (rest := []) C hU (c_X11_refuse hG (-6) (by omega)) vm_X11_refuse ml_X11_77 k_49.1 (hc := rfl) rfl (h1_49 hG) hl.1 rfl rfl (Nat.le_of_ble_eq_true rfl) dX11_log_53 rfl rfl ⟨Nat.le_of_ble_eq_true rfl, Nat.le_of_ble_eq_true rfl⟩ ⟨Nat.le_refl _, Nat.le_refl _⟩) hS (fun x_37 iv_33 rv_34 H locs hG fa_35 fb_36 hp_32 hU hS => ?_)
            have hF1 := hF1.tr (m := ([51], [(62, 10), (62, 11), (62, 12), (62, 13), (62, 7), (62, 8), (62, 9)])) fa_35 (by decide)
            have hF2 := hF2.tr (m := ([51], [(62, 10), (62, 11), (62, 12), (62, 13), (62, 7), (62, 8), (62, 9)])) fb_36 (by decide)
            exact hret (⟨hG, hF1, hF2, trivial⟩) hU hS dX11_log_56
      ·
        refine lv_aload_n hx hb dX11_log_29 rfl (lv_at hl 1 rfl) ?_
        refine lv_bipush (v := (-4)) hx hb dX11_log_30 (by decide) ?_
        refine q_fi (q_runV (t := 49) (i := 0) (As := [.int (-4)]) (rest := []) C hU (c_X11_refuse hG (-4) (by omega)) vm_X11_refuse ml_X11_77 k_49.1 (hc := rfl) rfl (h1_49 hG) hl.1 rfl rfl (Nat.le_of_ble_eq_true rfl) dX11_log_32 rfl rfl ⟨Nat.le_of_ble_eq_true rfl, Nat.le_of_ble_eq_true rfl⟩ ⟨Nat.le_refl _, Nat.le_refl _⟩) hS (fun x_43 iv_39 rv_40 H locs hG fa_41 fb_42 hp_38 hU hS => ?_)
        have hF1 := hF1.tr (m := ([51], [(62, 10), (62, 11), (62, 12), (62, 13), (62, 7), (62, 8), (62, 9)])) fa_41 (by decide)
        have hF2 := hF2.tr (m := ([51], [(62, 10), (62, 11), (62, 12), (62, 13), (62, 7), (62, 8), (62, 9)])) fb_42 (by decide)
        exact hret (⟨hG, hF1, hF2, trivial⟩) hU hS dX11_log_35
  ·
    subst ej_6
    have hl : lv_has ls 6 [(4, rfv al 62 none), (0, .ref (al.2 49 0)), (1, .int lg), (2, .int a), (3, .int b)] := hl
    refine lv_aload_n hx hb dX11_log_15 rfl (lv_at hl 1 rfl) ?_
    refine lv_iconst (v := (-1)) hx hb dX11_log_16 (by decide) ?_
    refine q_fi (q_runV (t := 49) (i := 0) (As := [.int (-1)]) (rest := []) C hU (c_X11_refuse hG (-1) (by omega)) vm_X11_refuse ml_X11_77 k_49.1 (hc := rfl) rfl (h1_49 hG) hl.1 rfl rfl (Nat.le_of_ble_eq_true rfl) dX11_log_17 rfl rfl ⟨Nat.le_of_ble_eq_true rfl, Nat.le_of_ble_eq_true rfl⟩ ⟨Nat.le_refl _, Nat.le_refl _⟩) hS (fun x_49 iv_45 rv_46 H locs hG fa_47 fb_48 hp_44 hU hS => ?_)
    have hF1 := hF1.tr (m := ([51], [(62, 10), (62, 11), (62, 12), (62, 13), (62, 7), (62, 8), (62, 9)])) fa_47 (by decide)
    have hF2 := hF2.tr (m := ([51], [(62, 10), (62, 11), (62, 12), (62, 13), (62, 7), (62, 8), (62, 9)])) fb_48 (by decide)
    exact hret (⟨hG, hF1, hF2, trivial⟩) hU hS dX11_log_20
set_option maxHeartbeats 4000000 in
set_option maxRecDepth 100000 in
theorem c_X11_cause {l : Launch} {D : va_G} {cA : FieldType → ClassId} {sz : Nat} {al : Al} {iv : Iv} {rv : Rv} (hG : GI al iv rv) (lg : Int32) (cs : Int32) : Met l yX11_cause (wd yX11_cause cX11_cause 5 (some .int)) (rm 2) (PcW D cA sz al iv rv [.ref (al.2 49 0), .int lg, .int cs]) (QI D cA sz al (fI al ([51], [(62, 14)]) iv rv (fun r iv' rv' => True))) 0 0 (Aq sz) := by
  refine mk_i (by decide) (Nat.le_of_ble_eq_true rfl) rfl ?_
  intro p e s m args below meth c ls Q H locs C hU hS hl hret
  have hx := C.1.1
  have hb := C.1.2.1
  have hl : lv_has ls 5 [(0, .ref (al.2 49 0)), (1, .int lg), (2, .int cs)] := hl
  have hG0 := hG
  have hF1 : FR ([51], [(62, 14)]) iv iv := FR.rf
  have hF2 : FR ([51], [(62, 14)]) rv rv := FR.rf
  have km1 : ((-1) : Int32).toInt = -1 := by decide
  have k6 : (6 : Int32).toInt = 6 := by decide
  refine lv_aload_n hx hb dX11_cause_0 rfl (lv_at hl 0 rfl) ?_
  refine g_49_1 C hU hG (h1_49 hG) fl_X11_19 dX11_cause_1 ?_
  refine lv_iload_n hx hb dX11_cause_4 rfl (lv_at hl 1 rfl) ?_
  refine q_pr (q_runV (t := 57) (i := 0) (As := [.int lg]) (rest := []) C hU (c_X10_find hG lg ) vm_X10_find ml_X11_123 k_57.1 (hc := rfl) rfl (h1_57 hG) hl.1 rfl rfl (Nat.le_of_ble_eq_true rfl) dX11_cause_5 rfl rfl ⟨Nat.le_of_ble_eq_true rfl, Nat.le_of_ble_eq_true rfl⟩ ⟨Nat.le_refl _, Nat.le_refl _⟩) hS (fun r_2 H locs hp_1 hU hS => ?_)
  have hb_3 := hp_1.1
  refine b_astore_n (lv' := [(3, rfv al 62 r_2), (0, .ref (al.2 49 0)), (1, .int lg), (2, .int cs)]) hx hb dX11_cause_8 rfl hl (by decide) rfl (fun ls hl => ?_)
  refine b_aload_n (al := al) (t' := 62) (r := r_2) hx hb dX11_cause_9 rfl (lv_at hl 0 rfl) ?_
  refine b_ifnull (tgt := 22) hx hb dX11_cause_10 (by decide) (fun ej_6 => ?_) (fun j_5 ej_6 => ?_)
  ·
    subst ej_6
    have hl : lv_has ls 5 [(3, rfv al 62 none), (0, .ref (al.2 49 0)), (1, .int lg), (2, .int cs)] := hl
    refine lv_aload_n hx hb dX11_cause_22 rfl (lv_at hl 1 rfl) ?_
    refine lv_iconst (v := (-1)) hx hb dX11_cause_23 (by decide) ?_
    refine q_fi (q_runV (t := 49) (i := 0) (As := [.int (-1)]) (rest := []) C hU (c_X11_refuse hG (-1) (by omega)) vm_X11_refuse ml_X11_77 k_49.1 (hc := rfl) rfl (h1_49 hG) hl.1 rfl rfl (Nat.le_of_ble_eq_true rfl) dX11_cause_24 rfl rfl ⟨Nat.le_of_ble_eq_true rfl, Nat.le_of_ble_eq_true rfl⟩ ⟨Nat.le_refl _, Nat.le_refl _⟩) hS (fun x_12 iv_8 rv_9 H locs hG fa_10 fb_11 hp_7 hU hS => ?_)
    have hF1 := hF1.tr (m := ([51], [(62, 14)])) fa_10 (by decide)
    have hF2 := hF2.tr (m := ([51], [(62, 14)])) fb_11 (by decide)
    exact hret (⟨hG, hF1, hF2, trivial⟩) hU hS dX11_cause_27
  ·
    subst ej_6
    have hl : lv_has ls 5 [(3, .ref (al.2 62 j_5)), (0, .ref (al.2 49 0)), (1, .int lg), (2, .int cs)] := hl
    have hb_13 : j_5 < al.1 62 := hb_3 j_5 rfl
    refine lv_bipush (v := 6) hx hb dX11_cause_13 (by decide) ?_
    refine lv_iload_n hx hb dX11_cause_15 rfl (lv_at hl 3 rfl) ?_
    refine q_pi (q_runS (As := [.int 6, .int cs]) (rest := []) C hU (c_X11_isOneOf  6 cs ) sm_X11_isOneOf ml_X11_85 hl.1 rfl rfl (Nat.le_of_ble_eq_true rfl) dX11_cause_16 rfl rfl ⟨Nat.le_of_ble_eq_true rfl, Nat.le_of_ble_eq_true rfl⟩ ⟨Nat.le_refl _, Nat.le_refl _⟩) hS (fun x_15 H locs hp_14 hU hS => ?_)
    refine b_if_ne (tgt := 28) hx hb dX11_cause_19 (by decide) (fun c_16 => ?_) (fun c_16 => ?_)
    ·
      refine lv_aload_n hx hb dX11_cause_28 rfl (lv_at hl 0 rfl) ?_
      refine g_62_14 C hU hG hb_13 fl_X11_136 dX11_cause_29 (fun x_17 e_18 le_18 ue_18 => ?_)
      have te_18 := congrArg Int32.toInt e_18
      refine lv_istore (lv' := [(4, .int x_17), (3, .ref (al.2 62 j_5)), (0, .ref (al.2 49 0)), (1, .int lg), (2, .int cs)]) hx hb dX11_cause_32 hl (by decide) rfl (fun ls hl => ?_)
      refine lv_aload_n hx hb dX11_cause_34 rfl (lv_at hl 1 rfl) ?_
      refine lv_iload_n hx hb dX11_cause_35 rfl (lv_at hl 4 rfl) ?_
      refine p_62_14 C hU hS hb_13 fl_X11_136 dX11_cause_36 (fun iv_19 H locs ei_20 hU hS => ?_)
      have hG : GI al iv_19 rv := by rw [ei_20]; exact hG.puti (show _ ∧ _ from ⟨show (0 : Int) ≤ _ by omega, show _ ≤ (5 : Int) by omega⟩) (nsF (by decide))
      have hF1 : FR ([51], [(62, 14)]) iv iv_19 := by rw [ei_20]; exact hF1.put (by decide)
      refine lv_iload hx hb dX11_cause_39 (lv_at hl 0 rfl) ?_
      exact hret (⟨hG, hF1, hF2, trivial⟩) hU hS dX11_cause_41
    ·
      refine lv_aload_n hx hb dX11_cause_22 rfl (lv_at hl 1 rfl) ?_
      refine lv_iconst (v := (-1)) hx hb dX11_cause_23 (by decide) ?_
      refine q_fi (q_runV (t := 49) (i := 0) (As := [.int (-1)]) (rest := []) C hU (c_X11_refuse hG (-1) (by omega)) vm_X11_refuse ml_X11_77 k_49.1 (hc := rfl) rfl (h1_49 hG) hl.1 rfl rfl (Nat.le_of_ble_eq_true rfl) dX11_cause_24 rfl rfl ⟨Nat.le_of_ble_eq_true rfl, Nat.le_of_ble_eq_true rfl⟩ ⟨Nat.le_refl _, Nat.le_refl _⟩) hS (fun x_26 iv_22 rv_23 H locs hG fa_24 fb_25 hp_21 hU hS => ?_)
      have hF1 := hF1.tr (m := ([51], [(62, 14)])) fa_24 (by decide)
      have hF2 := hF2.tr (m := ([51], [(62, 14)])) fb_25 (by decide)
      exact hret (⟨hG, hF1, hF2, trivial⟩) hU hS dX11_cause_27
set_option maxHeartbeats 4000000 in
set_option maxRecDepth 100000 in
theorem c_X11_legOf {l : Launch} {D : va_G} {cA : FieldType → ClassId} {sz : Nat} {al : Al} {iv : Iv} {rv : Rv} (hG : GI al iv rv) (lg : Int32) (what : Int32) : Met l yX11_legOf (wd yX11_legOf cX11_legOf 4 (some .int)) (rm 4) (PcW D cA sz al iv rv [.ref (al.2 49 0), .int lg, .int what]) (QI D cA sz al (fI al ([51], []) iv rv (fun r iv' rv' => True))) 0 0 (Aq sz) := by
  refine mk_i (by decide) (Nat.le_of_ble_eq_true rfl) rfl ?_
  intro p e s m args below meth c ls Q H locs C hU hS hl hret
  have hx := C.1.1
  have hb := C.1.2.1
  have hl : lv_has ls 4 [(0, .ref (al.2 49 0)), (1, .int lg), (2, .int what)] := hl
  have hG0 := hG
  have hF1 : FR ([51], []) iv iv := FR.rf
  have hF2 : FR ([51], []) rv rv := FR.rf
  have km5 : ((-5) : Int32).toInt = -5 := by decide
  have km2 : ((-2) : Int32).toInt = -2 := by decide
  have km1 : ((-1) : Int32).toInt = -1 := by decide
  have k0 : (0 : Int32).toInt = 0 := by decide
  have k1 : (1 : Int32).toInt = 1 := by decide
  have k6 : (6 : Int32).toInt = 6 := by decide
  refine lv_aload_n hx hb dX11_legOf_0 rfl (lv_at hl 0 rfl) ?_
  refine g_49_1 C hU hG (h1_49 hG) fl_X11_19 dX11_legOf_1 ?_
  refine lv_iload_n hx hb dX11_legOf_4 rfl (lv_at hl 1 rfl) ?_
  refine q_pr (q_runV (t := 57) (i := 0) (As := [.int lg]) (rest := []) C hU (c_X10_find hG lg ) vm_X10_find ml_X11_123 k_57.1 (hc := rfl) rfl (h1_57 hG) hl.1 rfl rfl (Nat.le_of_ble_eq_true rfl) dX11_legOf_5 rfl rfl ⟨Nat.le_of_ble_eq_true rfl, Nat.le_of_ble_eq_true rfl⟩ ⟨Nat.le_refl _, Nat.le_refl _⟩) hS (fun r_2 H locs hp_1 hU hS => ?_)
  have hb_3 := hp_1.1
  refine b_astore_n (lv' := [(3, rfv al 62 r_2), (0, .ref (al.2 49 0)), (1, .int lg), (2, .int what)]) hx hb dX11_legOf_8 rfl hl (by decide) rfl (fun ls hl => ?_)
  refine b_aload_n (al := al) (t' := 62) (r := r_2) hx hb dX11_legOf_9 rfl (lv_at hl 0 rfl) ?_
  refine b_ifnonnull (tgt := 19) hx hb dX11_legOf_10 (by decide) (fun j_5 ej_6 => ?_) (fun ej_6 => ?_)
  ·
    subst ej_6
    have hl : lv_has ls 4 [(3, .ref (al.2 62 j_5)), (0, .ref (al.2 49 0)), (1, .int lg), (2, .int what)] := hl
    have hb_7 : j_5 < al.1 62 := hb_3 j_5 rfl
    refine lv_bipush (v := 6) hx hb dX11_legOf_19 (by decide) ?_
    refine lv_iload_n hx hb dX11_legOf_21 rfl (lv_at hl 3 rfl) ?_
    refine q_pi (q_runS (As := [.int 6, .int what]) (rest := []) C hU (c_X11_isOneOf  6 what ) sm_X11_isOneOf ml_X11_85 hl.1 rfl rfl (Nat.le_of_ble_eq_true rfl) dX11_legOf_22 rfl rfl ⟨Nat.le_of_ble_eq_true rfl, Nat.le_of_ble_eq_true rfl⟩ ⟨Nat.le_refl _, Nat.le_refl _⟩) hS (fun x_9 H locs hp_8 hU hS => ?_)
    refine b_if_ne (tgt := 35) hx hb dX11_legOf_25 (by decide) (fun c_10 => ?_) (fun c_10 => ?_)
    ·
      refine lv_aload_n hx hb dX11_legOf_35 rfl (lv_at hl 0 rfl) ?_
      refine g_62_7 C hU hG hb_7 fl_X11_126 dX11_legOf_36 (fun x_11 e_12 le_12 ue_12 => ?_)
      have te_12 := congrArg Int32.toInt e_12
      refine b_if_ne (tgt := 49) hx hb dX11_legOf_39 (by decide) (fun c_13 => ?_) (fun c_13 => ?_)
      ·
        refine lv_iload_n hx hb dX11_legOf_49 rfl (lv_at hl 3 rfl) ?_
        refine b_table hx hb dX11_legOf_50 114 (by decide) [84, 89, 94, 101, 108] (by decide) (fun j hj => ?_) (fun c_14 => ?_) (fun j tt htt c_14 => ?_)
        ·
          match j, hj with
          | 0, _ => exact ⟨34, 84, by decide, by decide, by decide⟩
          | 1, _ => exact ⟨39, 89, by decide, by decide, by decide⟩
          | 2, _ => exact ⟨44, 94, by decide, by decide, by decide⟩
          | 3, _ => exact ⟨51, 101, by decide, by decide, by decide⟩
          | 4, _ => exact ⟨58, 108, by decide, by decide, by decide⟩
          | q + 5, hq => exact absurd hq (by simp)
        ·
          refine lv_aload_n hx hb dX11_legOf_114 rfl (lv_at hl 0 rfl) ?_
          refine g_62_13 C hU hG hb_7 fl_X11_145 dX11_legOf_115 (fun x_15 e_16 => ?_)
          have te_16 := congrArg Int32.toInt e_16
          refine lv_aload_n hx hb dX11_legOf_118 rfl (lv_at hl 1 rfl) ?_
          refine lv_aload_n hx hb dX11_legOf_119 rfl (lv_at hl 0 rfl) ?_
          refine q_pi (q_runV (t := 49) (i := 0) (As := [.ref (al.2 62 j_5)]) (rest := [.int x_15]) C hU (c_X11_handedTo hG (j_5) hb_7 ) vm_X11_handedTo ml_X11_155 k_49.1 (hc := rfl) rfl (h1_49 hG) hl.1 rfl rfl (Nat.le_of_ble_eq_true rfl) dX11_legOf_120 rfl rfl ⟨Nat.le_of_ble_eq_true rfl, Nat.le_of_ble_eq_true rfl⟩ ⟨Nat.le_refl _, Nat.le_refl _⟩) hS (fun x_18 H locs hp_17 hU hS => ?_)
          refine lv_isub hx hb dX11_legOf_123 ?_
          refine lv_topi (fun x_19 e_20 => ?_)
          exact hret (⟨hG, hF1, hF2, trivial⟩) hU hS dX11_legOf_124
        ·
          match j, htt with
          | 0, htt =>
            cases htt
            refine lv_aload_n hx hb dX11_legOf_84 rfl (lv_at hl 0 rfl) ?_
            refine g_62_13 C hU hG hb_7 fl_X11_145 dX11_legOf_85 (fun x_21 e_22 => ?_)
            have te_22 := congrArg Int32.toInt e_22
            exact hret (⟨hG, hF1, hF2, trivial⟩) hU hS dX11_legOf_88
          | 1, htt =>
            cases htt
            refine lv_aload_n hx hb dX11_legOf_89 rfl (lv_at hl 0 rfl) ?_
            refine g_62_12 C hU hG hb_7 fl_X11_148 dX11_legOf_90 (fun x_23 e_24 => ?_)
            have te_24 := congrArg Int32.toInt e_24
            exact hret (⟨hG, hF1, hF2, trivial⟩) hU hS dX11_legOf_93
          | 2, htt =>
            cases htt
            refine lv_aload_n hx hb dX11_legOf_94 rfl (lv_at hl 1 rfl) ?_
            refine lv_aload_n hx hb dX11_legOf_95 rfl (lv_at hl 0 rfl) ?_
            refine lv_iconst (v := 0) hx hb dX11_legOf_96 (by decide) ?_
            refine q_pi (q_runV (t := 49) (i := 0) (As := [.ref (al.2 62 j_5), .int 0]) (rest := []) C hU (c_X11_waitOf hG (j_5) hb_7 0 ) vm_X11_waitOf ml_X11_151 k_49.1 (hc := rfl) rfl (h1_49 hG) hl.1 rfl rfl (Nat.le_of_ble_eq_true rfl) dX11_legOf_97 rfl rfl ⟨Nat.le_of_ble_eq_true rfl, Nat.le_of_ble_eq_true rfl⟩ ⟨Nat.le_refl _, Nat.le_refl _⟩) hS (fun x_26 H locs hp_25 hU hS => ?_)
            exact hret (⟨hG, hF1, hF2, trivial⟩) hU hS dX11_legOf_100
          | 3, htt =>
            cases htt
            refine lv_aload_n hx hb dX11_legOf_101 rfl (lv_at hl 1 rfl) ?_
            refine lv_aload_n hx hb dX11_legOf_102 rfl (lv_at hl 0 rfl) ?_
            refine lv_iconst (v := 1) hx hb dX11_legOf_103 (by decide) ?_
            refine q_pi (q_runV (t := 49) (i := 0) (As := [.ref (al.2 62 j_5), .int 1]) (rest := []) C hU (c_X11_waitOf hG (j_5) hb_7 1 ) vm_X11_waitOf ml_X11_151 k_49.1 (hc := rfl) rfl (h1_49 hG) hl.1 rfl rfl (Nat.le_of_ble_eq_true rfl) dX11_legOf_104 rfl rfl ⟨Nat.le_of_ble_eq_true rfl, Nat.le_of_ble_eq_true rfl⟩ ⟨Nat.le_refl _, Nat.le_refl _⟩) hS (fun x_28 H locs hp_27 hU hS => ?_)
            exact hret (⟨hG, hF1, hF2, trivial⟩) hU hS dX11_legOf_107
          | 4, htt =>
            cases htt
            refine lv_aload_n hx hb dX11_legOf_108 rfl (lv_at hl 1 rfl) ?_
            refine lv_aload_n hx hb dX11_legOf_109 rfl (lv_at hl 0 rfl) ?_
            refine q_pi (q_runV (t := 49) (i := 0) (As := [.ref (al.2 62 j_5)]) (rest := []) C hU (c_X11_handedTo hG (j_5) hb_7 ) vm_X11_handedTo ml_X11_155 k_49.1 (hc := rfl) rfl (h1_49 hG) hl.1 rfl rfl (Nat.le_of_ble_eq_true rfl) dX11_legOf_110 rfl rfl ⟨Nat.le_of_ble_eq_true rfl, Nat.le_of_ble_eq_true rfl⟩ ⟨Nat.le_refl _, Nat.le_refl _⟩) hS (fun x_30 H locs hp_29 hU hS => ?_)
            exact hret (⟨hG, hF1, hF2, trivial⟩) hU hS dX11_legOf_113
          | q + 5, htt => simp at htt
      ·
        refine lv_aload_n hx hb dX11_legOf_42 rfl (lv_at hl 1 rfl) ?_
        refine lv_bipush (v := (-5)) hx hb dX11_legOf_43 (by decide) ?_
        refine q_fi (q_runV (t := 49) (i := 0) (As := [.int (-5)]) (rest := []) C hU (c_X11_refuse hG (-5) (by omega)) vm_X11_refuse ml_X11_77 k_49.1 (hc := rfl) rfl (h1_49 hG) hl.1 rfl rfl (Nat.le_of_ble_eq_true rfl) dX11_legOf_45 rfl rfl ⟨Nat.le_of_ble_eq_true rfl, Nat.le_of_ble_eq_true rfl⟩ ⟨Nat.le_refl _, Nat.le_refl _⟩) hS (fun x_36 iv_32 rv_33 H locs hG fa_34 fb_35 hp_31 hU hS => ?_)
        have hF1 := hF1.tr (m := ([51], [])) fa_34 (by decide)
        have hF2 := hF2.tr (m := ([51], [])) fb_35 (by decide)
        exact hret (⟨hG, hF1, hF2, trivial⟩) hU hS dX11_legOf_48
    ·
      refine lv_aload_n hx hb dX11_legOf_28 rfl (lv_at hl 1 rfl) ?_
      refine lv_bipush (v := (-2)) hx hb dX11_legOf_29 (by decide) ?_
      refine q_fi (q_runV (t := 49) (i := 0) (As := [.int (-2)]) (rest := []) C hU (c_X11_refuse hG (-2) (by omega)) vm_X11_refuse ml_X11_77 k_49.1 (hc := rfl) rfl (h1_49 hG) hl.1 rfl rfl (Nat.le_of_ble_eq_true rfl) dX11_legOf_31 rfl rfl ⟨Nat.le_of_ble_eq_true rfl, Nat.le_of_ble_eq_true rfl⟩ ⟨Nat.le_refl _, Nat.le_refl _⟩) hS (fun x_42 iv_38 rv_39 H locs hG fa_40 fb_41 hp_37 hU hS => ?_)
      have hF1 := hF1.tr (m := ([51], [])) fa_40 (by decide)
      have hF2 := hF2.tr (m := ([51], [])) fb_41 (by decide)
      exact hret (⟨hG, hF1, hF2, trivial⟩) hU hS dX11_legOf_34
  ·
    subst ej_6
    have hl : lv_has ls 4 [(3, rfv al 62 none), (0, .ref (al.2 49 0)), (1, .int lg), (2, .int what)] := hl
    refine lv_aload_n hx hb dX11_legOf_13 rfl (lv_at hl 1 rfl) ?_
    refine lv_iconst (v := (-1)) hx hb dX11_legOf_14 (by decide) ?_
    refine q_fi (q_runV (t := 49) (i := 0) (As := [.int (-1)]) (rest := []) C hU (c_X11_refuse hG (-1) (by omega)) vm_X11_refuse ml_X11_77 k_49.1 (hc := rfl) rfl (h1_49 hG) hl.1 rfl rfl (Nat.le_of_ble_eq_true rfl) dX11_legOf_15 rfl rfl ⟨Nat.le_of_ble_eq_true rfl, Nat.le_of_ble_eq_true rfl⟩ ⟨Nat.le_refl _, Nat.le_refl _⟩) hS (fun x_48 iv_44 rv_45 H locs hG fa_46 fb_47 hp_43 hU hS => ?_)
    have hF1 := hF1.tr (m := ([51], [])) fa_46 (by decide)
    have hF2 := hF2.tr (m := ([51], [])) fb_47 (by decide)
    exact hret (⟨hG, hF1, hF2, trivial⟩) hU hS dX11_legOf_18
set_option maxHeartbeats 4000000 in
set_option maxRecDepth 100000 in
theorem c_X11_ahead {l : Launch} {D : va_G} {cA : FieldType → ClassId} {sz : Nat} {al : Al} {iv : Iv} {rv : Rv} (hG : GI al iv rv) (lg : Int32) (bb : Int32) : Met l yX11_ahead (wd yX11_ahead cX11_ahead 5 (some .int)) (rm 2) (PcW D cA sz al iv rv [.ref (al.2 49 0), .int lg, .int bb]) (QI D cA sz al (fI al ([51], []) iv rv (fun r iv' rv' => True))) 0 0 (Aq sz) := by
  refine mk_i (by decide) (Nat.le_of_ble_eq_true rfl) rfl ?_
  intro p e s m args below meth c ls Q H locs C hU hS hl hret
  have hx := C.1.1
  have hb := C.1.2.1
  have hl : lv_has ls 5 [(0, .ref (al.2 49 0)), (1, .int lg), (2, .int bb)] := hl
  have hG0 := hG
  have hF1 : FR ([51], []) iv iv := FR.rf
  have hF2 : FR ([51], []) rv rv := FR.rf
  have km9 : ((-9) : Int32).toInt = -9 := by decide
  have km1 : ((-1) : Int32).toInt = -1 := by decide
  refine lv_aload_n hx hb dX11_ahead_0 rfl (lv_at hl 0 rfl) ?_
  refine g_49_1 C hU hG (h1_49 hG) fl_X11_19 dX11_ahead_1 ?_
  refine lv_iload_n hx hb dX11_ahead_4 rfl (lv_at hl 1 rfl) ?_
  refine q_pr (q_runV (t := 57) (i := 0) (As := [.int lg]) (rest := []) C hU (c_X10_find hG lg ) vm_X10_find ml_X11_123 k_57.1 (hc := rfl) rfl (h1_57 hG) hl.1 rfl rfl (Nat.le_of_ble_eq_true rfl) dX11_ahead_5 rfl rfl ⟨Nat.le_of_ble_eq_true rfl, Nat.le_of_ble_eq_true rfl⟩ ⟨Nat.le_refl _, Nat.le_refl _⟩) hS (fun r_2 H locs hp_1 hU hS => ?_)
  have hb_3 := hp_1.1
  refine b_astore_n (lv' := [(3, rfv al 62 r_2), (0, .ref (al.2 49 0)), (1, .int lg), (2, .int bb)]) hx hb dX11_ahead_8 rfl hl (by decide) rfl (fun ls hl => ?_)
  refine b_aload_n (al := al) (t' := 62) (r := r_2) hx hb dX11_ahead_9 rfl (lv_at hl 0 rfl) ?_
  refine b_ifnonnull (tgt := 19) hx hb dX11_ahead_10 (by decide) (fun j_5 ej_6 => ?_) (fun ej_6 => ?_)
  ·
    subst ej_6
    have hl : lv_has ls 5 [(3, .ref (al.2 62 j_5)), (0, .ref (al.2 49 0)), (1, .int lg), (2, .int bb)] := hl
    have hb_7 : j_5 < al.1 62 := hb_3 j_5 rfl
    refine lv_aload_n hx hb dX11_ahead_19 rfl (lv_at hl 1 rfl) ?_
    refine g_49_1 C hU hG (h1_49 hG) fl_X11_19 dX11_ahead_20 ?_
    refine lv_aload_n hx hb dX11_ahead_23 rfl (lv_at hl 0 rfl) ?_
    refine lv_iload_n hx hb dX11_ahead_24 rfl (lv_at hl 3 rfl) ?_
    refine lv_aload_n hx hb dX11_ahead_25 rfl (lv_at hl 1 rfl) ?_
    refine lv_iload_n hx hb dX11_ahead_26 rfl (lv_at hl 3 rfl) ?_
    refine q_pi (q_runV (t := 49) (i := 0) (As := [.int bb]) (rest := [.int bb, .ref (al.2 62 j_5), .ref (al.2 57 0)]) C hU (c_X11_gapFor hG bb ) vm_X11_gapFor ml_X11_159 k_49.1 (hc := rfl) rfl (h1_49 hG) hl.1 rfl rfl (Nat.le_of_ble_eq_true rfl) dX11_ahead_27 rfl rfl ⟨Nat.le_of_ble_eq_true rfl, Nat.le_of_ble_eq_true rfl⟩ ⟨Nat.le_refl _, Nat.le_refl _⟩) hS (fun x_9 H locs hp_8 hU hS => ?_)
    refine q_pr (q_runV (t := 57) (i := 0) (As := [.ref (al.2 62 j_5), .int bb, .int x_9]) (rest := []) C hU (c_X10_aheadOf hG (j_5) hb_7 bb x_9 ) vm_X10_aheadOf ml_X11_163 k_57.1 (hc := rfl) rfl (h1_57 hG) hl.1 rfl rfl (Nat.le_of_ble_eq_true rfl) dX11_ahead_30 rfl rfl ⟨Nat.le_of_ble_eq_true rfl, Nat.le_of_ble_eq_true rfl⟩ ⟨Nat.le_refl _, Nat.le_refl _⟩) hS (fun r_11 H locs hp_10 hU hS => ?_)
    have hb_12 := hp_10.1
    refine b_astore (lv' := [(4, rfv al 62 r_11), (3, .ref (al.2 62 j_5)), (0, .ref (al.2 49 0)), (1, .int lg), (2, .int bb)]) hx hb dX11_ahead_33 hl (by decide) rfl (fun ls hl => ?_)
    refine b_aload (al := al) (t' := 62) (r := r_11) hx hb dX11_ahead_35 (lv_at hl 0 rfl) ?_
    refine b_ifnonnull (tgt := 45) hx hb dX11_ahead_37 (by decide) (fun j_14 ej_15 => ?_) (fun ej_15 => ?_)
    ·
      subst ej_15
      have hl : lv_has ls 5 [(4, .ref (al.2 62 j_14)), (3, .ref (al.2 62 j_5)), (0, .ref (al.2 49 0)), (1, .int lg), (2, .int bb)] := hl
      have hb_16 : j_14 < al.1 62 := hb_12 j_14 rfl
      refine lv_aload hx hb dX11_ahead_45 (lv_at hl 0 rfl) ?_
      refine g_62_0 C hU hG hb_16 fl_X11_167 dX11_ahead_47 (fun x_17 e_18 le_18 ue_18 => ?_)
      have te_18 := congrArg Int32.toInt e_18
      exact hret (⟨hG, hF1, hF2, trivial⟩) hU hS dX11_ahead_50
    ·
      subst ej_15
      have hl : lv_has ls 5 [(4, rfv al 62 none), (3, .ref (al.2 62 j_5)), (0, .ref (al.2 49 0)), (1, .int lg), (2, .int bb)] := hl
      refine lv_bipush (v := (-9)) hx hb dX11_ahead_40 (by decide) ?_
      refine lv_goto (tgt := 50) hx hb dX11_ahead_42 (by decide) ?_
      exact hret (⟨hG, hF1, hF2, trivial⟩) hU hS dX11_ahead_50
  ·
    subst ej_6
    have hl : lv_has ls 5 [(3, rfv al 62 none), (0, .ref (al.2 49 0)), (1, .int lg), (2, .int bb)] := hl
    refine lv_aload_n hx hb dX11_ahead_13 rfl (lv_at hl 1 rfl) ?_
    refine lv_iconst (v := (-1)) hx hb dX11_ahead_14 (by decide) ?_
    refine q_fi (q_runV (t := 49) (i := 0) (As := [.int (-1)]) (rest := []) C hU (c_X11_refuse hG (-1) (by omega)) vm_X11_refuse ml_X11_77 k_49.1 (hc := rfl) rfl (h1_49 hG) hl.1 rfl rfl (Nat.le_of_ble_eq_true rfl) dX11_ahead_15 rfl rfl ⟨Nat.le_of_ble_eq_true rfl, Nat.le_of_ble_eq_true rfl⟩ ⟨Nat.le_refl _, Nat.le_refl _⟩) hS (fun x_24 iv_20 rv_21 H locs hG fa_22 fb_23 hp_19 hU hS => ?_)
    have hF1 := hF1.tr (m := ([51], [])) fa_22 (by decide)
    have hF2 := hF2.tr (m := ([51], [])) fb_23 (by decide)
    exact hret (⟨hG, hF1, hF2, trivial⟩) hU hS dX11_ahead_18
set_option maxHeartbeats 4000000 in
set_option maxRecDepth 100000 in
theorem c_X11_minutes {l : Launch} {D : va_G} {cA : FieldType → ClassId} {sz : Nat} {al : Al} {iv : Iv} {rv : Rv} (hG : GI al iv rv) (lg : Int32) (cs : Int32) : Met l yX11_minutes (wd yX11_minutes cX11_minutes 4 (some .int)) (rm 3) (PcW D cA sz al iv rv [.ref (al.2 49 0), .int lg, .int cs]) (QI D cA sz al (fI al ([51, 59], []) iv rv (fun r iv' rv' => True))) 0 0 (Aq sz) := by
  refine mk_i (by decide) (Nat.le_of_ble_eq_true rfl) rfl ?_
  intro p e s m args below meth c ls Q H locs C hU hS hl hret
  have hx := C.1.1
  have hb := C.1.2.1
  have hl : lv_has ls 4 [(0, .ref (al.2 49 0)), (1, .int lg), (2, .int cs)] := hl
  have hG0 := hG
  have hF1 : FR ([51, 59], []) iv iv := FR.rf
  have hF2 : FR ([51, 59], []) rv rv := FR.rf
  have km5 : ((-5) : Int32).toInt = -5 := by decide
  have km1 : ((-1) : Int32).toInt = -1 := by decide
  have k0 : (0 : Int32).toInt = 0 := by decide
  have k1 : (1 : Int32).toInt = 1 := by decide
  have k6 : (6 : Int32).toInt = 6 := by decide
  refine lv_aload_n hx hb dX11_minutes_0 rfl (lv_at hl 0 rfl) ?_
  refine g_49_1 C hU hG (h1_49 hG) fl_X11_19 dX11_minutes_1 ?_
  refine lv_iload_n hx hb dX11_minutes_4 rfl (lv_at hl 1 rfl) ?_
  refine q_pr (q_runV (t := 57) (i := 0) (As := [.int lg]) (rest := []) C hU (c_X10_find hG lg ) vm_X10_find ml_X11_123 k_57.1 (hc := rfl) rfl (h1_57 hG) hl.1 rfl rfl (Nat.le_of_ble_eq_true rfl) dX11_minutes_5 rfl rfl ⟨Nat.le_of_ble_eq_true rfl, Nat.le_of_ble_eq_true rfl⟩ ⟨Nat.le_refl _, Nat.le_refl _⟩) hS (fun r_2 H locs hp_1 hU hS => ?_)
  have hb_3 := hp_1.1
  refine b_astore_n (lv' := [(3, rfv al 62 r_2), (0, .ref (al.2 49 0)), (1, .int lg), (2, .int cs)]) hx hb dX11_minutes_8 rfl hl (by decide) rfl (fun ls hl => ?_)
  refine b_aload_n (al := al) (t' := 62) (r := r_2) hx hb dX11_minutes_9 rfl (lv_at hl 0 rfl) ?_
  refine b_ifnull (tgt := 22) hx hb dX11_minutes_10 (by decide) (fun ej_6 => ?_) (fun j_5 ej_6 => ?_)
  ·
    subst ej_6
    have hl : lv_has ls 4 [(3, rfv al 62 none), (0, .ref (al.2 49 0)), (1, .int lg), (2, .int cs)] := hl
    refine lv_aload_n hx hb dX11_minutes_22 rfl (lv_at hl 1 rfl) ?_
    refine lv_iconst (v := (-1)) hx hb dX11_minutes_23 (by decide) ?_
    refine q_fi (q_runV (t := 49) (i := 0) (As := [.int (-1)]) (rest := []) C hU (c_X11_refuse hG (-1) (by omega)) vm_X11_refuse ml_X11_77 k_49.1 (hc := rfl) rfl (h1_49 hG) hl.1 rfl rfl (Nat.le_of_ble_eq_true rfl) dX11_minutes_24 rfl rfl ⟨Nat.le_of_ble_eq_true rfl, Nat.le_of_ble_eq_true rfl⟩ ⟨Nat.le_refl _, Nat.le_refl _⟩) hS (fun x_12 iv_8 rv_9 H locs hG fa_10 fb_11 hp_7 hU hS => ?_)
    have hF1 := hF1.tr (m := ([51, 59], [])) fa_10 (by decide)
    have hF2 := hF2.tr (m := ([51, 59], [])) fb_11 (by decide)
    exact hret (⟨hG, hF1, hF2, trivial⟩) hU hS dX11_minutes_27
  ·
    subst ej_6
    have hl : lv_has ls 4 [(3, .ref (al.2 62 j_5)), (0, .ref (al.2 49 0)), (1, .int lg), (2, .int cs)] := hl
    have hb_13 : j_5 < al.1 62 := hb_3 j_5 rfl
    refine lv_bipush (v := 6) hx hb dX11_minutes_13 (by decide) ?_
    refine lv_iload_n hx hb dX11_minutes_15 rfl (lv_at hl 3 rfl) ?_
    refine q_pi (q_runS (As := [.int 6, .int cs]) (rest := []) C hU (c_X11_isOneOf  6 cs ) sm_X11_isOneOf ml_X11_85 hl.1 rfl rfl (Nat.le_of_ble_eq_true rfl) dX11_minutes_16 rfl rfl ⟨Nat.le_of_ble_eq_true rfl, Nat.le_of_ble_eq_true rfl⟩ ⟨Nat.le_refl _, Nat.le_refl _⟩) hS (fun x_15 H locs hp_14 hU hS => ?_)
    refine b_if_ne (tgt := 28) hx hb dX11_minutes_19 (by decide) (fun c_16 => ?_) (fun c_16 => ?_)
    ·
      refine lv_aload_n hx hb dX11_minutes_28 rfl (lv_at hl 0 rfl) ?_
      refine g_62_7 C hU hG hb_13 fl_X11_126 dX11_minutes_29 (fun x_17 e_18 le_18 ue_18 => ?_)
      have te_18 := congrArg Int32.toInt e_18
      refine b_if_ne (tgt := 42) hx hb dX11_minutes_32 (by decide) (fun c_19 => ?_) (fun c_19 => ?_)
      ·
        refine lv_aload_n hx hb dX11_minutes_42 rfl (lv_at hl 1 rfl) ?_
        refine g_49_1 C hU hG (h1_49 hG) fl_X11_19 dX11_minutes_43 ?_
        refine lv_aload_n hx hb dX11_minutes_46 rfl (lv_at hl 0 rfl) ?_
        refine lv_aload_n hx hb dX11_minutes_47 rfl (lv_at hl 1 rfl) ?_
        refine g_49_7 C hU hG (h1_49 hG) fl_X11_67 dX11_minutes_48 ?_
        refine lv_iconst (v := 0) hx hb dX11_minutes_51 (by decide) ?_
        refine a_50 C hU hG (h1_50 hG) (x := 0) (by omega) (by omega) dX11_minutes_52 (fun x_20 e_21 le_21 ue_21 => ?_)
        have te_21 := congrArg Int32.toInt e_21
        refine lv_aload_n hx hb dX11_minutes_53 rfl (lv_at hl 1 rfl) ?_
        refine g_49_7 C hU hG (h1_49 hG) fl_X11_67 dX11_minutes_54 ?_
        refine lv_iconst (v := 1) hx hb dX11_minutes_57 (by decide) ?_
        refine a_50 C hU hG (h1_50 hG) (x := 1) (by omega) (by omega) dX11_minutes_58 (fun x_22 e_23 le_23 ue_23 => ?_)
        have te_23 := congrArg Int32.toInt e_23
        refine q_fv (q_runV (t := 57) (i := 0) (As := [.ref (al.2 62 j_5), .int x_20, .int x_22]) (rest := []) C hU (c_X10_trace hG (j_5) hb_13 x_20 x_22 ) vm_X10_trace ml_X11_170 k_57.1 (hc := rfl) rfl (h1_57 hG) hl.1 rfl rfl (Nat.le_of_ble_eq_true rfl) dX11_minutes_59 rfl rfl ⟨Nat.le_of_ble_eq_true rfl, Nat.le_of_ble_eq_true rfl⟩ ⟨Nat.le_refl _, Nat.le_refl _⟩) hS (fun iv_25 rv_26 H locs hG fa_27 fb_28 hp_24 hU hS => ?_)
        have hF1 := hF1.tr (m := ([51, 59], [])) fa_27 (by decide)
        have hF2 := hF2.tr (m := ([51, 59], [])) fb_28 (by decide)
        refine lv_aload_n hx hb dX11_minutes_62 rfl (lv_at hl 1 rfl) ?_
        refine g_49_1 C hU hG (h1_49 hG) fl_X11_19 dX11_minutes_63 ?_
        refine g_57_2 C hU hG (h1_57 hG) fl_X11_174 dX11_minutes_66 ?_
        refine lv_iload_n hx hb dX11_minutes_69 rfl (lv_at hl 3 rfl) ?_
        refine a_59 C hU hG (h1_59 hG) (x := cs) (by omega) (by omega) dX11_minutes_70 (fun x_29 e_30 => ?_)
        have te_30 := congrArg Int32.toInt e_30
        exact hret (⟨hG, hF1, hF2, trivial⟩) hU hS dX11_minutes_71
      ·
        refine lv_aload_n hx hb dX11_minutes_35 rfl (lv_at hl 1 rfl) ?_
        refine lv_bipush (v := (-5)) hx hb dX11_minutes_36 (by decide) ?_
        refine q_fi (q_runV (t := 49) (i := 0) (As := [.int (-5)]) (rest := []) C hU (c_X11_refuse hG (-5) (by omega)) vm_X11_refuse ml_X11_77 k_49.1 (hc := rfl) rfl (h1_49 hG) hl.1 rfl rfl (Nat.le_of_ble_eq_true rfl) dX11_minutes_38 rfl rfl ⟨Nat.le_of_ble_eq_true rfl, Nat.le_of_ble_eq_true rfl⟩ ⟨Nat.le_refl _, Nat.le_refl _⟩) hS (fun x_36 iv_32 rv_33 H locs hG fa_34 fb_35 hp_31 hU hS => ?_)
        have hF1 := hF1.tr (m := ([51, 59], [])) fa_34 (by decide)
        have hF2 := hF2.tr (m := ([51, 59], [])) fb_35 (by decide)
        exact hret (⟨hG, hF1, hF2, trivial⟩) hU hS dX11_minutes_41
    ·
      refine lv_aload_n hx hb dX11_minutes_22 rfl (lv_at hl 1 rfl) ?_
      refine lv_iconst (v := (-1)) hx hb dX11_minutes_23 (by decide) ?_
      refine q_fi (q_runV (t := 49) (i := 0) (As := [.int (-1)]) (rest := []) C hU (c_X11_refuse hG (-1) (by omega)) vm_X11_refuse ml_X11_77 k_49.1 (hc := rfl) rfl (h1_49 hG) hl.1 rfl rfl (Nat.le_of_ble_eq_true rfl) dX11_minutes_24 rfl rfl ⟨Nat.le_of_ble_eq_true rfl, Nat.le_of_ble_eq_true rfl⟩ ⟨Nat.le_refl _, Nat.le_refl _⟩) hS (fun x_42 iv_38 rv_39 H locs hG fa_40 fb_41 hp_37 hU hS => ?_)
      have hF1 := hF1.tr (m := ([51, 59], [])) fa_40 (by decide)
      have hF2 := hF2.tr (m := ([51, 59], [])) fb_41 (by decide)
      exact hret (⟨hG, hF1, hF2, trivial⟩) hU hS dX11_minutes_27
set_option maxHeartbeats 4000000 in
set_option maxRecDepth 100000 in
theorem c_X11_saved {l : Launch} {D : va_G} {cA : FieldType → ClassId} {sz : Nat} {al : Al} {iv : Iv} {rv : Rv} (hG : GI al iv rv) (lg : Int32) (fr : Int32) : Met l yX11_saved (wd yX11_saved cX11_saved 5 (some .int)) (rm 3) (PcW D cA sz al iv rv [.ref (al.2 49 0), .int lg, .int fr]) (QI D cA sz al (fI al ([51], []) iv rv (fun r iv' rv' => True))) 0 0 (Aq sz) := by
  refine mk_i (by decide) (Nat.le_of_ble_eq_true rfl) rfl ?_
  intro p e s m args below meth c ls Q H locs C hU hS hl hret
  have hx := C.1.1
  have hb := C.1.2.1
  have hl : lv_has ls 5 [(0, .ref (al.2 49 0)), (1, .int lg), (2, .int fr)] := hl
  have hG0 := hG
  have hF1 : FR ([51], []) iv iv := FR.rf
  have hF2 : FR ([51], []) rv rv := FR.rf
  have km6 : ((-6) : Int32).toInt = -6 := by decide
  have km5 : ((-5) : Int32).toInt = -5 := by decide
  have km4 : ((-4) : Int32).toInt = -4 := by decide
  have km1 : ((-1) : Int32).toInt = -1 := by decide
  have k0 : (0 : Int32).toInt = 0 := by decide
  have k1 : (1 : Int32).toInt = 1 := by decide
  have k30000 : (30000 : Int32).toInt = 30000 := by decide
  refine lv_aload_n hx hb dX11_saved_0 rfl (lv_at hl 0 rfl) ?_
  refine g_49_1 C hU hG (h1_49 hG) fl_X11_19 dX11_saved_1 ?_
  refine lv_iload_n hx hb dX11_saved_4 rfl (lv_at hl 1 rfl) ?_
  refine q_pr (q_runV (t := 57) (i := 0) (As := [.int lg]) (rest := []) C hU (c_X10_find hG lg ) vm_X10_find ml_X11_123 k_57.1 (hc := rfl) rfl (h1_57 hG) hl.1 rfl rfl (Nat.le_of_ble_eq_true rfl) dX11_saved_5 rfl rfl ⟨Nat.le_of_ble_eq_true rfl, Nat.le_of_ble_eq_true rfl⟩ ⟨Nat.le_refl _, Nat.le_refl _⟩) hS (fun r_2 H locs hp_1 hU hS => ?_)
  have hb_3 := hp_1.1
  refine b_astore_n (lv' := [(3, rfv al 62 r_2), (0, .ref (al.2 49 0)), (1, .int lg), (2, .int fr)]) hx hb dX11_saved_8 rfl hl (by decide) rfl (fun ls hl => ?_)
  refine b_aload_n (al := al) (t' := 62) (r := r_2) hx hb dX11_saved_9 rfl (lv_at hl 0 rfl) ?_
  refine b_ifnonnull (tgt := 19) hx hb dX11_saved_10 (by decide) (fun j_5 ej_6 => ?_) (fun ej_6 => ?_)
  ·
    subst ej_6
    have hl : lv_has ls 5 [(3, .ref (al.2 62 j_5)), (0, .ref (al.2 49 0)), (1, .int lg), (2, .int fr)] := hl
    have hb_7 : j_5 < al.1 62 := hb_3 j_5 rfl
    refine lv_aload_n hx hb dX11_saved_19 rfl (lv_at hl 0 rfl) ?_
    refine g_62_7 C hU hG hb_7 fl_X11_126 dX11_saved_20 (fun x_8 e_9 le_9 ue_9 => ?_)
    have te_9 := congrArg Int32.toInt e_9
    refine b_if_ne (tgt := 33) hx hb dX11_saved_23 (by decide) (fun c_10 => ?_) (fun c_10 => ?_)
    ·
      refine lv_iload_n hx hb dX11_saved_33 rfl (lv_at hl 3 rfl) ?_
      refine b_if_ge (tgt := 44) hx hb dX11_saved_34 (by decide) (fun c_11 => ?_) (fun c_11 => ?_)
      ·
        refine lv_iload_n hx hb dX11_saved_44 rfl (lv_at hl 3 rfl) ?_
        refine lv_sipush (v := 30000) hx hb dX11_saved_45 (by decide) ?_
        refine b_icmp_le (tgt := 58) hx hb dX11_saved_48 (by decide) (fun c_12 => ?_) (fun c_12 => ?_)
        ·
          refine lv_iload_n hx hb dX11_saved_58 rfl (lv_at hl 3 rfl) ?_
          refine lv_aload_n hx hb dX11_saved_59 rfl (lv_at hl 0 rfl) ?_
          refine g_62_5 C hU hG hb_7 fl_X11_177 dX11_saved_60 (fun x_13 e_14 le_14 ue_14 => ?_)
          have te_14 := congrArg Int32.toInt e_14
          refine lv_aload_n hx hb dX11_saved_63 rfl (lv_at hl 1 rfl) ?_
          refine lv_aload_n hx hb dX11_saved_64 rfl (lv_at hl 0 rfl) ?_
          refine lv_iconst (v := 1) hx hb dX11_saved_65 (by decide) ?_
          refine q_pi (q_runV (t := 49) (i := 0) (As := [.ref (al.2 62 j_5), .int 1]) (rest := [.int x_13, .int fr]) C hU (c_X11_waitOf hG (j_5) hb_7 1 ) vm_X11_waitOf ml_X11_151 k_49.1 (hc := rfl) rfl (h1_49 hG) hl.1 rfl rfl (Nat.le_of_ble_eq_true rfl) dX11_saved_66 rfl rfl ⟨Nat.le_of_ble_eq_true rfl, Nat.le_of_ble_eq_true rfl⟩ ⟨Nat.le_refl _, Nat.le_refl _⟩) hS (fun x_16 H locs hp_15 hU hS => ?_)
          refine lv_iadd hx hb dX11_saved_69 ?_
          refine lv_topi (fun x_17 e_18 => ?_)
          refine q_max C hl.1 ml_X11_180 (Nat.le_of_ble_eq_true rfl) (Nat.le_of_ble_eq_true rfl) (Nat.le_refl _) (Nat.le_refl _) dX11_saved_70 (fun x_19 q_20 tq_20 => ?_)
          refine lv_istore (lv' := [(4, .int x_19), (3, .ref (al.2 62 j_5)), (0, .ref (al.2 49 0)), (1, .int lg), (2, .int fr)]) hx hb dX11_saved_73 hl (by decide) rfl (fun ls hl => ?_)
          refine lv_iconst (v := 0) hx hb dX11_saved_75 (by decide) ?_
          refine lv_aload_n hx hb dX11_saved_76 rfl (lv_at hl 1 rfl) ?_
          refine g_62_10 C hU hG hb_7 fl_X11_186 dX11_saved_77 (fun x_21 e_22 => ?_)
          have te_22 := congrArg Int32.toInt e_22
          refine lv_iload hx hb dX11_saved_80 (lv_at hl 0 rfl) ?_
          refine lv_isub hx hb dX11_saved_82 ?_
          refine lv_topi (fun x_23 e_24 => ?_)
          refine q_max C hl.1 ml_X11_180 (Nat.le_of_ble_eq_true rfl) (Nat.le_of_ble_eq_true rfl) (Nat.le_refl _) (Nat.le_refl _) dX11_saved_83 (fun x_25 q_26 tq_26 => ?_)
          exact hret (⟨hG, hF1, hF2, trivial⟩) hU hS dX11_saved_86
        ·
          refine lv_aload_n hx hb dX11_saved_51 rfl (lv_at hl 1 rfl) ?_
          refine lv_bipush (v := (-6)) hx hb dX11_saved_52 (by decide) ?_
          refine q_fi (q_runV (t := 49) (i := 0) (As := [.int (-6)]) (rest := []) C hU (c_X11_refuse hG (-6) (by omega)) vm_X11_refuse ml_X11_77 k_49.1 (hc := rfl) rfl (h1_49 hG) hl.1 rfl rfl (Nat.le_of_ble_eq_true rfl) dX11_saved_54 rfl rfl ⟨Nat.le_of_ble_eq_true rfl, Nat.le_of_ble_eq_true rfl⟩ ⟨Nat.le_refl _, Nat.le_refl _⟩) hS (fun x_32 iv_28 rv_29 H locs hG fa_30 fb_31 hp_27 hU hS => ?_)
          have hF1 := hF1.tr (m := ([51], [])) fa_30 (by decide)
          have hF2 := hF2.tr (m := ([51], [])) fb_31 (by decide)
          exact hret (⟨hG, hF1, hF2, trivial⟩) hU hS dX11_saved_57
      ·
        refine lv_aload_n hx hb dX11_saved_37 rfl (lv_at hl 1 rfl) ?_
        refine lv_bipush (v := (-4)) hx hb dX11_saved_38 (by decide) ?_
        refine q_fi (q_runV (t := 49) (i := 0) (As := [.int (-4)]) (rest := []) C hU (c_X11_refuse hG (-4) (by omega)) vm_X11_refuse ml_X11_77 k_49.1 (hc := rfl) rfl (h1_49 hG) hl.1 rfl rfl (Nat.le_of_ble_eq_true rfl) dX11_saved_40 rfl rfl ⟨Nat.le_of_ble_eq_true rfl, Nat.le_of_ble_eq_true rfl⟩ ⟨Nat.le_refl _, Nat.le_refl _⟩) hS (fun x_38 iv_34 rv_35 H locs hG fa_36 fb_37 hp_33 hU hS => ?_)
        have hF1 := hF1.tr (m := ([51], [])) fa_36 (by decide)
        have hF2 := hF2.tr (m := ([51], [])) fb_37 (by decide)
        exact hret (⟨hG, hF1, hF2, trivial⟩) hU hS dX11_saved_43
    ·
      refine lv_aload_n hx hb dX11_saved_26 rfl (lv_at hl 1 rfl) ?_
      refine lv_bipush (v := (-5)) hx hb dX11_saved_27 (by decide) ?_
      refine q_fi (q_runV (t := 49) (i := 0) (As := [.int (-5)]) (rest := []) C hU (c_X11_refuse hG (-5) (by omega)) vm_X11_refuse ml_X11_77 k_49.1 (hc := rfl) rfl (h1_49 hG) hl.1 rfl rfl (Nat.le_of_ble_eq_true rfl) dX11_saved_29 rfl rfl ⟨Nat.le_of_ble_eq_true rfl, Nat.le_of_ble_eq_true rfl⟩ ⟨Nat.le_refl _, Nat.le_refl _⟩) hS (fun x_44 iv_40 rv_41 H locs hG fa_42 fb_43 hp_39 hU hS => ?_)
      have hF1 := hF1.tr (m := ([51], [])) fa_42 (by decide)
      have hF2 := hF2.tr (m := ([51], [])) fb_43 (by decide)
      exact hret (⟨hG, hF1, hF2, trivial⟩) hU hS dX11_saved_32
  ·
    subst ej_6
    have hl : lv_has ls 5 [(3, rfv al 62 none), (0, .ref (al.2 49 0)), (1, .int lg), (2, .int fr)] := hl
    refine lv_aload_n hx hb dX11_saved_13 rfl (lv_at hl 1 rfl) ?_
    refine lv_iconst (v := (-1)) hx hb dX11_saved_14 (by decide) ?_
    refine q_fi (q_runV (t := 49) (i := 0) (As := [.int (-1)]) (rest := []) C hU (c_X11_refuse hG (-1) (by omega)) vm_X11_refuse ml_X11_77 k_49.1 (hc := rfl) rfl (h1_49 hG) hl.1 rfl rfl (Nat.le_of_ble_eq_true rfl) dX11_saved_15 rfl rfl ⟨Nat.le_of_ble_eq_true rfl, Nat.le_of_ble_eq_true rfl⟩ ⟨Nat.le_refl _, Nat.le_refl _⟩) hS (fun x_50 iv_46 rv_47 H locs hG fa_48 fb_49 hp_45 hU hS => ?_)
    have hF1 := hF1.tr (m := ([51], [])) fa_48 (by decide)
    have hF2 := hF2.tr (m := ([51], [])) fb_49 (by decide)
    exact hret (⟨hG, hF1, hF2, trivial⟩) hU hS dX11_saved_18
set_option maxHeartbeats 4000000 in
set_option maxRecDepth 100000 in
theorem c_X11_then {l : Launch} {D : va_G} {cA : FieldType → ClassId} {sz : Nat} {al : Al} {iv : Iv} {rv : Rv} (hG : GI al iv rv) (tt : Int32) (lg : Int32) : Met l yX11_then (wd yX11_then cX11_then 5 (some .int)) (rm 2) (PcW D cA sz al iv rv [.ref (al.2 49 0), .int tt, .int lg]) (QI D cA sz al (fI al ([51, 66], [(65, 2), (65, 4)]) iv rv (fun r iv' rv' => True))) 0 0 (Aq sz) := by
  refine mk_i (by decide) (Nat.le_of_ble_eq_true rfl) rfl ?_
  intro p e s m args below meth c ls Q H locs C hU hS hl hret
  have hx := C.1.1
  have hb := C.1.2.1
  have hl : lv_has ls 5 [(0, .ref (al.2 49 0)), (1, .int tt), (2, .int lg)] := hl
  have hG0 := hG
  have hF1 : FR ([51, 66], [(65, 2), (65, 4)]) iv iv := FR.rf
  have hF2 : FR ([51, 66], [(65, 2), (65, 4)]) rv rv := FR.rf
  have km6 : ((-6) : Int32).toInt = -6 := by decide
  have km3 : ((-3) : Int32).toInt = -3 := by decide
  have km1 : ((-1) : Int32).toInt = -1 := by decide
  have k2 : (2 : Int32).toInt = 2 := by decide
  refine lv_aload_n hx hb dX11_then_0 rfl (lv_at hl 0 rfl) ?_
  refine g_49_2 C hU hG (h1_49 hG) fl_X11_26 dX11_then_1 ?_
  refine lv_iload_n hx hb dX11_then_4 rfl (lv_at hl 1 rfl) ?_
  refine q_pr (q_runV (t := 63) (i := 0) (As := [.int tt]) (rest := []) C hU (c_X9_find hG tt ) vm_X9_find ml_X11_192 k_63.1 (hc := rfl) rfl (h1_63 hG) hl.1 rfl rfl (Nat.le_of_ble_eq_true rfl) dX11_then_5 rfl rfl ⟨Nat.le_of_ble_eq_true rfl, Nat.le_of_ble_eq_true rfl⟩ ⟨Nat.le_refl _, Nat.le_refl _⟩) hS (fun r_2 H locs hp_1 hU hS => ?_)
  have hb_3 := hp_1.1
  refine b_astore_n (lv' := [(3, rfv al 65 r_2), (0, .ref (al.2 49 0)), (1, .int tt), (2, .int lg)]) hx hb dX11_then_8 rfl hl (by decide) rfl (fun ls hl => ?_)
  refine lv_aload_n hx hb dX11_then_9 rfl (lv_at hl 1 rfl) ?_
  refine g_49_1 C hU hG (h1_49 hG) fl_X11_19 dX11_then_10 ?_
  refine lv_iload_n hx hb dX11_then_13 rfl (lv_at hl 3 rfl) ?_
  refine q_pr (q_runV (t := 57) (i := 0) (As := [.int lg]) (rest := []) C hU (c_X10_find hG lg ) vm_X10_find ml_X11_123 k_57.1 (hc := rfl) rfl (h1_57 hG) hl.1 rfl rfl (Nat.le_of_ble_eq_true rfl) dX11_then_14 rfl rfl ⟨Nat.le_of_ble_eq_true rfl, Nat.le_of_ble_eq_true rfl⟩ ⟨Nat.le_refl _, Nat.le_refl _⟩) hS (fun r_5 H locs hp_4 hU hS => ?_)
  have hb_6 := hp_4.1
  refine b_astore (lv' := [(4, rfv al 62 r_5), (3, rfv al 65 r_2), (0, .ref (al.2 49 0)), (1, .int tt), (2, .int lg)]) hx hb dX11_then_17 hl (by decide) (by simp [List.filter_cons, rfv_cat]) (fun ls hl => ?_)
  refine b_aload_n (al := al) (t' := 65) (r := r_2) hx hb dX11_then_19 rfl (lv_at hl 1 rfl) ?_
  refine b_ifnull (tgt := 28) hx hb dX11_then_20 (by decide) (fun ej_9 => ?_) (fun j_8 ej_9 => ?_)
  ·
    subst ej_9
    have hl : lv_has ls 5 [(4, rfv al 62 r_5), (3, rfv al 65 none), (0, .ref (al.2 49 0)), (1, .int tt), (2, .int lg)] := hl
    refine lv_aload_n hx hb dX11_then_28 rfl (lv_at hl 2 rfl) ?_
    refine lv_iconst (v := (-1)) hx hb dX11_then_29 (by decide) ?_
    refine q_fi (q_runV (t := 49) (i := 0) (As := [.int (-1)]) (rest := []) C hU (c_X11_refuse hG (-1) (by omega)) vm_X11_refuse ml_X11_77 k_49.1 (hc := rfl) rfl (h1_49 hG) hl.1 rfl rfl (Nat.le_of_ble_eq_true rfl) dX11_then_30 rfl rfl ⟨Nat.le_of_ble_eq_true rfl, Nat.le_of_ble_eq_true rfl⟩ ⟨Nat.le_refl _, Nat.le_refl _⟩) hS (fun x_15 iv_11 rv_12 H locs hG fa_13 fb_14 hp_10 hU hS => ?_)
    have hF1 := hF1.tr (m := ([51, 66], [(65, 2), (65, 4)])) fa_13 (by decide)
    have hF2 := hF2.tr (m := ([51, 66], [(65, 2), (65, 4)])) fb_14 (by decide)
    exact hret (⟨hG, hF1, hF2, trivial⟩) hU hS dX11_then_33
  ·
    subst ej_9
    have hl : lv_has ls 5 [(4, rfv al 62 r_5), (3, .ref (al.2 65 j_8)), (0, .ref (al.2 49 0)), (1, .int tt), (2, .int lg)] := hl
    have hb_16 : j_8 < al.1 65 := hb_3 j_8 rfl
    refine b_aload (al := al) (t' := 62) (r := r_5) hx hb dX11_then_23 (lv_at hl 0 rfl) ?_
    refine b_ifnonnull (tgt := 34) hx hb dX11_then_25 (by decide) (fun j_18 ej_19 => ?_) (fun ej_19 => ?_)
    ·
      subst ej_19
      have hl : lv_has ls 5 [(4, .ref (al.2 62 j_18)), (3, .ref (al.2 65 j_8)), (0, .ref (al.2 49 0)), (1, .int tt), (2, .int lg)] := hl
      have hb_20 : j_18 < al.1 62 := hb_6 j_18 rfl
      refine lv_aload_n hx hb dX11_then_34 rfl (lv_at hl 1 rfl) ?_
      refine lv_aload hx hb dX11_then_35 (lv_at hl 0 rfl) ?_
      refine lv_aload_n hx hb dX11_then_37 rfl (lv_at hl 2 rfl) ?_
      refine g_49_7 C hU hG (h1_49 hG) fl_X11_67 dX11_then_38 ?_
      refine lv_iconst (v := 2) hx hb dX11_then_41 (by decide) ?_
      refine a_50 C hU hG (h1_50 hG) (x := 2) (by omega) (by omega) dX11_then_42 (fun x_21 e_22 le_22 ue_22 => ?_)
      have te_22 := congrArg Int32.toInt e_22
      refine q_pi (q_runV (t := 65) (i := j_8) (As := [.ref (al.2 62 j_18), .int x_21]) (rest := []) C hU (c_X8_isFollowedBy hG (j_8) hb_16 (j_18) hb_20 x_21 ) vm_X8_isFollowedBy ml_X11_195 k_65.1 (hc := rfl) rfl hb_16 hl.1 rfl rfl (Nat.le_of_ble_eq_true rfl) dX11_then_43 rfl rfl ⟨Nat.le_of_ble_eq_true rfl, Nat.le_of_ble_eq_true rfl⟩ ⟨Nat.le_refl _, Nat.le_refl _⟩) hS (fun x_24 H locs hp_23 hU hS => ?_)
      refine b_if_ne (tgt := 56) hx hb dX11_then_46 (by decide) (fun c_25 => ?_) (fun c_25 => ?_)
      ·
        refine lv_aload_n hx hb dX11_then_56 rfl (lv_at hl 1 rfl) ?_
        refine q_pi (q_runV (t := 65) (i := j_8) (As := []) (rest := []) C hU (c_X8_isFull hG (j_8) hb_16 ) vm_X8_isFull ml_X11_201 k_65.1 (hc := rfl) rfl hb_16 hl.1 rfl rfl (Nat.le_of_ble_eq_true rfl) dX11_then_57 rfl rfl ⟨Nat.le_of_ble_eq_true rfl, Nat.le_of_ble_eq_true rfl⟩ ⟨Nat.le_refl _, Nat.le_refl _⟩) hS (fun x_27 H locs hp_26 hU hS => ?_)
        refine b_if_eq (tgt := 70) hx hb dX11_then_60 (by decide) (fun c_28 => ?_) (fun c_28 => ?_)
        ·
          refine lv_aload_n hx hb dX11_then_70 rfl (lv_at hl 1 rfl) ?_
          refine lv_aload hx hb dX11_then_71 (lv_at hl 0 rfl) ?_
          refine q_fv (q_runV (t := 65) (i := j_8) (As := [.ref (al.2 62 j_18)]) (rest := []) C hU (c_X8_add hG (j_8) hb_16 (j_18) hb_20 (by omega)) vm_X8_add ml_X11_202 k_65.1 (hc := rfl) rfl hb_16 hl.1 rfl rfl (Nat.le_of_ble_eq_true rfl) dX11_then_73 rfl rfl ⟨Nat.le_of_ble_eq_true rfl, Nat.le_of_ble_eq_true rfl⟩ ⟨Nat.le_refl _, Nat.le_refl _⟩) hS (fun iv_30 rv_31 H locs hG fa_32 fb_33 hp_29 hU hS => ?_)
          have hF1 := hF1.tr (m := ([51, 66], [(65, 2), (65, 4)])) fa_32 (by decide)
          have hF2 := hF2.tr (m := ([51, 66], [(65, 2), (65, 4)])) fb_33 (by decide)
          refine lv_aload_n hx hb dX11_then_76 rfl (lv_at hl 1 rfl) ?_
          refine g_65_4 C hU hG hb_16 fl_X11_205 dX11_then_77 (fun x_34 e_35 le_35 ue_35 => ?_)
          have te_35 := congrArg Int32.toInt e_35
          exact hret (⟨hG, hF1, hF2, trivial⟩) hU hS dX11_then_80
        ·
          refine lv_aload_n hx hb dX11_then_63 rfl (lv_at hl 2 rfl) ?_
          refine lv_bipush (v := (-6)) hx hb dX11_then_64 (by decide) ?_
          refine q_fi (q_runV (t := 49) (i := 0) (As := [.int (-6)]) (rest := []) C hU (c_X11_refuse hG (-6) (by omega)) vm_X11_refuse ml_X11_77 k_49.1 (hc := rfl) rfl (h1_49 hG) hl.1 rfl rfl (Nat.le_of_ble_eq_true rfl) dX11_then_66 rfl rfl ⟨Nat.le_of_ble_eq_true rfl, Nat.le_of_ble_eq_true rfl⟩ ⟨Nat.le_refl _, Nat.le_refl _⟩) hS (fun x_41 iv_37 rv_38 H locs hG fa_39 fb_40 hp_36 hU hS => ?_)
          have hF1 := hF1.tr (m := ([51, 66], [(65, 2), (65, 4)])) fa_39 (by decide)
          have hF2 := hF2.tr (m := ([51, 66], [(65, 2), (65, 4)])) fb_40 (by decide)
          exact hret (⟨hG, hF1, hF2, trivial⟩) hU hS dX11_then_69
      ·
        refine lv_aload_n hx hb dX11_then_49 rfl (lv_at hl 2 rfl) ?_
        refine lv_bipush (v := (-3)) hx hb dX11_then_50 (by decide) ?_
        refine q_fi (q_runV (t := 49) (i := 0) (As := [.int (-3)]) (rest := []) C hU (c_X11_refuse hG (-3) (by omega)) vm_X11_refuse ml_X11_77 k_49.1 (hc := rfl) rfl (h1_49 hG) hl.1 rfl rfl (Nat.le_of_ble_eq_true rfl) dX11_then_52 rfl rfl ⟨Nat.le_of_ble_eq_true rfl, Nat.le_of_ble_eq_true rfl⟩ ⟨Nat.le_refl _, Nat.le_refl _⟩) hS (fun x_47 iv_43 rv_44 H locs hG fa_45 fb_46 hp_42 hU hS => ?_)
        have hF1 := hF1.tr (m := ([51, 66], [(65, 2), (65, 4)])) fa_45 (by decide)
        have hF2 := hF2.tr (m := ([51, 66], [(65, 2), (65, 4)])) fb_46 (by decide)
        exact hret (⟨hG, hF1, hF2, trivial⟩) hU hS dX11_then_55
    ·
      subst ej_19
      have hl : lv_has ls 5 [(4, rfv al 62 none), (3, .ref (al.2 65 j_8)), (0, .ref (al.2 49 0)), (1, .int tt), (2, .int lg)] := hl
      refine lv_aload_n hx hb dX11_then_28 rfl (lv_at hl 2 rfl) ?_
      refine lv_iconst (v := (-1)) hx hb dX11_then_29 (by decide) ?_
      refine q_fi (q_runV (t := 49) (i := 0) (As := [.int (-1)]) (rest := []) C hU (c_X11_refuse hG (-1) (by omega)) vm_X11_refuse ml_X11_77 k_49.1 (hc := rfl) rfl (h1_49 hG) hl.1 rfl rfl (Nat.le_of_ble_eq_true rfl) dX11_then_30 rfl rfl ⟨Nat.le_of_ble_eq_true rfl, Nat.le_of_ble_eq_true rfl⟩ ⟨Nat.le_refl _, Nat.le_refl _⟩) hS (fun x_53 iv_49 rv_50 H locs hG fa_51 fb_52 hp_48 hU hS => ?_)
      have hF1 := hF1.tr (m := ([51, 66], [(65, 2), (65, 4)])) fa_51 (by decide)
      have hF2 := hF2.tr (m := ([51, 66], [(65, 2), (65, 4)])) fb_52 (by decide)
      exact hret (⟨hG, hF1, hF2, trivial⟩) hU hS dX11_then_33
set_option maxHeartbeats 4000000 in
set_option maxRecDepth 100000 in
theorem c_X11_missed {l : Launch} {D : va_G} {cA : FieldType → ClassId} {sz : Nat} {al : Al} {iv : Iv} {rv : Rv} (hG : GI al iv rv) (tt : Int32) : Met l yX11_missed (wd yX11_missed cX11_missed 3 (some .int)) (rm 2) (PcW D cA sz al iv rv [.ref (al.2 49 0), .int tt]) (QI D cA sz al (fI al ([51], []) iv rv (fun r iv' rv' => True))) 0 0 (Aq sz) := by
  refine mk_i (by decide) (Nat.le_of_ble_eq_true rfl) rfl ?_
  intro p e s m args below meth c ls Q H locs C hU hS hl hret
  have hx := C.1.1
  have hb := C.1.2.1
  have hl : lv_has ls 3 [(0, .ref (al.2 49 0)), (1, .int tt)] := hl
  have hG0 := hG
  have hF1 : FR ([51], []) iv iv := FR.rf
  have hF2 : FR ([51], []) rv rv := FR.rf
  have km1 : ((-1) : Int32).toInt = -1 := by decide
  have k2 : (2 : Int32).toInt = 2 := by decide
  refine lv_aload_n hx hb dX11_missed_0 rfl (lv_at hl 0 rfl) ?_
  refine g_49_2 C hU hG (h1_49 hG) fl_X11_26 dX11_missed_1 ?_
  refine lv_iload_n hx hb dX11_missed_4 rfl (lv_at hl 1 rfl) ?_
  refine q_pr (q_runV (t := 63) (i := 0) (As := [.int tt]) (rest := []) C hU (c_X9_find hG tt ) vm_X9_find ml_X11_192 k_63.1 (hc := rfl) rfl (h1_63 hG) hl.1 rfl rfl (Nat.le_of_ble_eq_true rfl) dX11_missed_5 rfl rfl ⟨Nat.le_of_ble_eq_true rfl, Nat.le_of_ble_eq_true rfl⟩ ⟨Nat.le_refl _, Nat.le_refl _⟩) hS (fun r_2 H locs hp_1 hU hS => ?_)
  have hb_3 := hp_1.1
  refine b_astore_n (lv' := [(2, rfv al 65 r_2), (0, .ref (al.2 49 0)), (1, .int tt)]) hx hb dX11_missed_8 rfl hl (by decide) rfl (fun ls hl => ?_)
  refine b_aload_n (al := al) (t' := 65) (r := r_2) hx hb dX11_missed_9 rfl (lv_at hl 0 rfl) ?_
  refine b_ifnonnull (tgt := 19) hx hb dX11_missed_10 (by decide) (fun j_5 ej_6 => ?_) (fun ej_6 => ?_)
  ·
    subst ej_6
    have hl : lv_has ls 3 [(2, .ref (al.2 65 j_5)), (0, .ref (al.2 49 0)), (1, .int tt)] := hl
    have hb_7 : j_5 < al.1 65 := hb_3 j_5 rfl
    refine lv_aload_n hx hb dX11_missed_19 rfl (lv_at hl 0 rfl) ?_
    refine lv_aload_n hx hb dX11_missed_20 rfl (lv_at hl 1 rfl) ?_
    refine g_49_7 C hU hG (h1_49 hG) fl_X11_67 dX11_missed_21 ?_
    refine lv_iconst (v := 2) hx hb dX11_missed_24 (by decide) ?_
    refine a_50 C hU hG (h1_50 hG) (x := 2) (by omega) (by omega) dX11_missed_25 (fun x_8 e_9 le_9 ue_9 => ?_)
    have te_9 := congrArg Int32.toInt e_9
    refine q_pi (q_runV (t := 65) (i := j_5) (As := [.int x_8]) (rest := []) C hU (c_X8_missedPlace hG (j_5) hb_7 x_8 ) vm_X8_missedPlace ml_X11_208 k_65.1 (hc := rfl) rfl hb_7 hl.1 rfl rfl (Nat.le_of_ble_eq_true rfl) dX11_missed_26 rfl rfl ⟨Nat.le_of_ble_eq_true rfl, Nat.le_of_ble_eq_true rfl⟩ ⟨Nat.le_refl _, Nat.le_refl _⟩) hS (fun x_11 H locs hp_10 hU hS => ?_)
    exact hret (⟨hG, hF1, hF2, trivial⟩) hU hS dX11_missed_29
  ·
    subst ej_6
    have hl : lv_has ls 3 [(2, rfv al 65 none), (0, .ref (al.2 49 0)), (1, .int tt)] := hl
    refine lv_aload_n hx hb dX11_missed_13 rfl (lv_at hl 1 rfl) ?_
    refine lv_iconst (v := (-1)) hx hb dX11_missed_14 (by decide) ?_
    refine q_fi (q_runV (t := 49) (i := 0) (As := [.int (-1)]) (rest := []) C hU (c_X11_refuse hG (-1) (by omega)) vm_X11_refuse ml_X11_77 k_49.1 (hc := rfl) rfl (h1_49 hG) hl.1 rfl rfl (Nat.le_of_ble_eq_true rfl) dX11_missed_15 rfl rfl ⟨Nat.le_of_ble_eq_true rfl, Nat.le_of_ble_eq_true rfl⟩ ⟨Nat.le_refl _, Nat.le_refl _⟩) hS (fun x_17 iv_13 rv_14 H locs hG fa_15 fb_16 hp_12 hU hS => ?_)
    have hF1 := hF1.tr (m := ([51], [])) fa_15 (by decide)
    have hF2 := hF2.tr (m := ([51], [])) fb_16 (by decide)
    exact hret (⟨hG, hF1, hF2, trivial⟩) hU hS dX11_missed_18
set_option maxHeartbeats 4000000 in
set_option maxRecDepth 100000 in
theorem c_X11_soonest {l : Launch} {D : va_G} {cA : FieldType → ClassId} {sz : Nat} {al : Al} {iv : Iv} {rv : Rv} (hG : GI al iv rv) (tt : Int32) : Met l yX11_soonest (wd yX11_soonest cX11_soonest 3 (some .int)) (rm 3) (PcW D cA sz al iv rv [.ref (al.2 49 0), .int tt]) (QI D cA sz al (fI al ([51, 60, 61], []) iv rv (fun r iv' rv' => True))) 0 0 (Aq sz) := by
  refine mk_i (by decide) (Nat.le_of_ble_eq_true rfl) rfl ?_
  intro p e s m args below meth c ls Q H locs C hU hS hl hret
  have hx := C.1.1
  have hb := C.1.2.1
  have hl : lv_has ls 3 [(0, .ref (al.2 49 0)), (1, .int tt)] := hl
  have hG0 := hG
  have hF1 : FR ([51, 60, 61], []) iv iv := FR.rf
  have hF2 : FR ([51, 60, 61], []) rv rv := FR.rf
  have km1 : ((-1) : Int32).toInt = -1 := by decide
  refine lv_aload_n hx hb dX11_soonest_0 rfl (lv_at hl 0 rfl) ?_
  refine g_49_2 C hU hG (h1_49 hG) fl_X11_26 dX11_soonest_1 ?_
  refine lv_iload_n hx hb dX11_soonest_4 rfl (lv_at hl 1 rfl) ?_
  refine q_pr (q_runV (t := 63) (i := 0) (As := [.int tt]) (rest := []) C hU (c_X9_find hG tt ) vm_X9_find ml_X11_192 k_63.1 (hc := rfl) rfl (h1_63 hG) hl.1 rfl rfl (Nat.le_of_ble_eq_true rfl) dX11_soonest_5 rfl rfl ⟨Nat.le_of_ble_eq_true rfl, Nat.le_of_ble_eq_true rfl⟩ ⟨Nat.le_refl _, Nat.le_refl _⟩) hS (fun r_2 H locs hp_1 hU hS => ?_)
  have hb_3 := hp_1.1
  refine b_astore_n (lv' := [(2, rfv al 65 r_2), (0, .ref (al.2 49 0)), (1, .int tt)]) hx hb dX11_soonest_8 rfl hl (by decide) rfl (fun ls hl => ?_)
  refine b_aload_n (al := al) (t' := 65) (r := r_2) hx hb dX11_soonest_9 rfl (lv_at hl 0 rfl) ?_
  refine b_ifnonnull (tgt := 19) hx hb dX11_soonest_10 (by decide) (fun j_5 ej_6 => ?_) (fun ej_6 => ?_)
  ·
    subst ej_6
    have hl : lv_has ls 3 [(2, .ref (al.2 65 j_5)), (0, .ref (al.2 49 0)), (1, .int tt)] := hl
    have hb_7 : j_5 < al.1 65 := hb_3 j_5 rfl
    refine lv_aload_n hx hb dX11_soonest_19 rfl (lv_at hl 1 rfl) ?_
    refine lv_aload_n hx hb dX11_soonest_20 rfl (lv_at hl 0 rfl) ?_
    refine q_fi (q_runV (t := 49) (i := 0) (As := [.ref (al.2 65 j_5)]) (rest := []) C hU (c_X11_soonestOf hG (j_5) hb_7 ) vm_X11_soonestOf ml_X11_211 k_49.1 (hc := rfl) rfl (h1_49 hG) hl.1 rfl rfl (Nat.le_of_ble_eq_true rfl) dX11_soonest_21 rfl rfl ⟨Nat.le_of_ble_eq_true rfl, Nat.le_of_ble_eq_true rfl⟩ ⟨Nat.le_refl _, Nat.le_refl _⟩) hS (fun x_13 iv_9 rv_10 H locs hG fa_11 fb_12 hp_8 hU hS => ?_)
    have hF1 := hF1.tr (m := ([51, 60, 61], [])) fa_11 (by decide)
    have hF2 := hF2.tr (m := ([51, 60, 61], [])) fb_12 (by decide)
    exact hret (⟨hG, hF1, hF2, trivial⟩) hU hS dX11_soonest_24
  ·
    subst ej_6
    have hl : lv_has ls 3 [(2, rfv al 65 none), (0, .ref (al.2 49 0)), (1, .int tt)] := hl
    refine lv_aload_n hx hb dX11_soonest_13 rfl (lv_at hl 1 rfl) ?_
    refine lv_iconst (v := (-1)) hx hb dX11_soonest_14 (by decide) ?_
    refine q_fi (q_runV (t := 49) (i := 0) (As := [.int (-1)]) (rest := []) C hU (c_X11_refuse hG (-1) (by omega)) vm_X11_refuse ml_X11_77 k_49.1 (hc := rfl) rfl (h1_49 hG) hl.1 rfl rfl (Nat.le_of_ble_eq_true rfl) dX11_soonest_15 rfl rfl ⟨Nat.le_of_ble_eq_true rfl, Nat.le_of_ble_eq_true rfl⟩ ⟨Nat.le_refl _, Nat.le_refl _⟩) hS (fun x_19 iv_15 rv_16 H locs hG fa_17 fb_18 hp_14 hU hS => ?_)
    have hF1 := hF1.tr (m := ([51, 60, 61], [])) fa_17 (by decide)
    have hF2 := hF2.tr (m := ([51, 60, 61], [])) fb_18 (by decide)
    exact hret (⟨hG, hF1, hF2, trivial⟩) hU hS dX11_soonest_18
set_option maxHeartbeats 4000000 in
set_option maxRecDepth 100000 in
theorem c_X11_hours {l : Launch} {D : va_G} {cA : FieldType → ClassId} {sz : Nat} {al : Al} {iv : Iv} {rv : Rv} (hG : GI al iv rv) (tt : Int32) : Met l yX11_hours (wd yX11_hours cX11_hours 3 (some .int)) (rm 4) (PcW D cA sz al iv rv [.ref (al.2 49 0), .int tt]) (QI D cA sz al (fI al ([51, 60, 61], []) iv rv (fun r iv' rv' => True))) 0 0 (Aq sz) := by
  refine mk_i (by decide) (Nat.le_of_ble_eq_true rfl) rfl ?_
  intro p e s m args below meth c ls Q H locs C hU hS hl hret
  have hx := C.1.1
  have hb := C.1.2.1
  have hl : lv_has ls 3 [(0, .ref (al.2 49 0)), (1, .int tt)] := hl
  have hG0 := hG
  have hF1 : FR ([51, 60, 61], []) iv iv := FR.rf
  have hF2 : FR ([51, 60, 61], []) rv rv := FR.rf
  have km1 : ((-1) : Int32).toInt = -1 := by decide
  refine lv_aload_n hx hb dX11_hours_0 rfl (lv_at hl 0 rfl) ?_
  refine g_49_2 C hU hG (h1_49 hG) fl_X11_26 dX11_hours_1 ?_
  refine lv_iload_n hx hb dX11_hours_4 rfl (lv_at hl 1 rfl) ?_
  refine q_pr (q_runV (t := 63) (i := 0) (As := [.int tt]) (rest := []) C hU (c_X9_find hG tt ) vm_X9_find ml_X11_192 k_63.1 (hc := rfl) rfl (h1_63 hG) hl.1 rfl rfl (Nat.le_of_ble_eq_true rfl) dX11_hours_5 rfl rfl ⟨Nat.le_of_ble_eq_true rfl, Nat.le_of_ble_eq_true rfl⟩ ⟨Nat.le_refl _, Nat.le_refl _⟩) hS (fun r_2 H locs hp_1 hU hS => ?_)
  have hb_3 := hp_1.1
  refine b_astore_n (lv' := [(2, rfv al 65 r_2), (0, .ref (al.2 49 0)), (1, .int tt)]) hx hb dX11_hours_8 rfl hl (by decide) rfl (fun ls hl => ?_)
  refine b_aload_n (al := al) (t' := 65) (r := r_2) hx hb dX11_hours_9 rfl (lv_at hl 0 rfl) ?_
  refine b_ifnonnull (tgt := 19) hx hb dX11_hours_10 (by decide) (fun j_5 ej_6 => ?_) (fun ej_6 => ?_)
  ·
    subst ej_6
    have hl : lv_has ls 3 [(2, .ref (al.2 65 j_5)), (0, .ref (al.2 49 0)), (1, .int tt)] := hl
    have hb_7 : j_5 < al.1 65 := hb_3 j_5 rfl
    refine lv_aload_n hx hb dX11_hours_19 rfl (lv_at hl 1 rfl) ?_
    refine lv_aload_n hx hb dX11_hours_20 rfl (lv_at hl 0 rfl) ?_
    refine q_fi (q_runV (t := 49) (i := 0) (As := [.ref (al.2 65 j_5)]) (rest := []) C hU (c_X11_hoursOf hG (j_5) hb_7 ) vm_X11_hoursOf ml_X11_215 k_49.1 (hc := rfl) rfl (h1_49 hG) hl.1 rfl rfl (Nat.le_of_ble_eq_true rfl) dX11_hours_21 rfl rfl ⟨Nat.le_of_ble_eq_true rfl, Nat.le_of_ble_eq_true rfl⟩ ⟨Nat.le_refl _, Nat.le_refl _⟩) hS (fun x_13 iv_9 rv_10 H locs hG fa_11 fb_12 hp_8 hU hS => ?_)
    have hF1 := hF1.tr (m := ([51, 60, 61], [])) fa_11 (by decide)
    have hF2 := hF2.tr (m := ([51, 60, 61], [])) fb_12 (by decide)
    exact hret (⟨hG, hF1, hF2, trivial⟩) hU hS dX11_hours_24
  ·
    subst ej_6
    have hl : lv_has ls 3 [(2, rfv al 65 none), (0, .ref (al.2 49 0)), (1, .int tt)] := hl
    refine lv_aload_n hx hb dX11_hours_13 rfl (lv_at hl 1 rfl) ?_
    refine lv_iconst (v := (-1)) hx hb dX11_hours_14 (by decide) ?_
    refine q_fi (q_runV (t := 49) (i := 0) (As := [.int (-1)]) (rest := []) C hU (c_X11_refuse hG (-1) (by omega)) vm_X11_refuse ml_X11_77 k_49.1 (hc := rfl) rfl (h1_49 hG) hl.1 rfl rfl (Nat.le_of_ble_eq_true rfl) dX11_hours_15 rfl rfl ⟨Nat.le_of_ble_eq_true rfl, Nat.le_of_ble_eq_true rfl⟩ ⟨Nat.le_refl _, Nat.le_refl _⟩) hS (fun x_19 iv_15 rv_16 H locs hG fa_17 fb_18 hp_14 hU hS => ?_)
    have hF1 := hF1.tr (m := ([51, 60, 61], [])) fa_17 (by decide)
    have hF2 := hF2.tr (m := ([51, 60, 61], [])) fb_18 (by decide)
    exact hret (⟨hG, hF1, hF2, trivial⟩) hU hS dX11_hours_18
set_option maxHeartbeats 4000000 in
set_option maxRecDepth 100000 in
theorem c_X11_blame {l : Launch} {D : va_G} {cA : FieldType → ClassId} {sz : Nat} {al : Al} {iv : Iv} {rv : Rv} (hG : GI al iv rv) (tt : Int32) : Met l yX11_blame (wd yX11_blame cX11_blame 3 (some .int)) (rm 4) (PcW D cA sz al iv rv [.ref (al.2 49 0), .int tt]) (QI D cA sz al (fI al ([51, 59], []) iv rv (fun r iv' rv' => True))) 0 0 (Aq sz) := by
  refine mk_i (by decide) (Nat.le_of_ble_eq_true rfl) rfl ?_
  intro p e s m args below meth c ls Q H locs C hU hS hl hret
  have hx := C.1.1
  have hb := C.1.2.1
  have hl : lv_has ls 3 [(0, .ref (al.2 49 0)), (1, .int tt)] := hl
  have hG0 := hG
  have hF1 : FR ([51, 59], []) iv iv := FR.rf
  have hF2 : FR ([51, 59], []) rv rv := FR.rf
  have km1 : ((-1) : Int32).toInt = -1 := by decide
  refine lv_aload_n hx hb dX11_blame_0 rfl (lv_at hl 0 rfl) ?_
  refine g_49_2 C hU hG (h1_49 hG) fl_X11_26 dX11_blame_1 ?_
  refine lv_iload_n hx hb dX11_blame_4 rfl (lv_at hl 1 rfl) ?_
  refine q_pr (q_runV (t := 63) (i := 0) (As := [.int tt]) (rest := []) C hU (c_X9_find hG tt ) vm_X9_find ml_X11_192 k_63.1 (hc := rfl) rfl (h1_63 hG) hl.1 rfl rfl (Nat.le_of_ble_eq_true rfl) dX11_blame_5 rfl rfl ⟨Nat.le_of_ble_eq_true rfl, Nat.le_of_ble_eq_true rfl⟩ ⟨Nat.le_refl _, Nat.le_refl _⟩) hS (fun r_2 H locs hp_1 hU hS => ?_)
  have hb_3 := hp_1.1
  refine b_astore_n (lv' := [(2, rfv al 65 r_2), (0, .ref (al.2 49 0)), (1, .int tt)]) hx hb dX11_blame_8 rfl hl (by decide) rfl (fun ls hl => ?_)
  refine b_aload_n (al := al) (t' := 65) (r := r_2) hx hb dX11_blame_9 rfl (lv_at hl 0 rfl) ?_
  refine b_ifnonnull (tgt := 19) hx hb dX11_blame_10 (by decide) (fun j_5 ej_6 => ?_) (fun ej_6 => ?_)
  ·
    subst ej_6
    have hl : lv_has ls 3 [(2, .ref (al.2 65 j_5)), (0, .ref (al.2 49 0)), (1, .int tt)] := hl
    have hb_7 : j_5 < al.1 65 := hb_3 j_5 rfl
    refine lv_aload_n hx hb dX11_blame_19 rfl (lv_at hl 1 rfl) ?_
    refine lv_aload_n hx hb dX11_blame_20 rfl (lv_at hl 0 rfl) ?_
    refine q_fi (q_runV (t := 49) (i := 0) (As := [.ref (al.2 65 j_5)]) (rest := []) C hU (c_X11_blameOf hG (j_5) hb_7 ) vm_X11_blameOf ml_X11_218 k_49.1 (hc := rfl) rfl (h1_49 hG) hl.1 rfl rfl (Nat.le_of_ble_eq_true rfl) dX11_blame_21 rfl rfl ⟨Nat.le_of_ble_eq_true rfl, Nat.le_of_ble_eq_true rfl⟩ ⟨Nat.le_refl _, Nat.le_refl _⟩) hS (fun x_13 iv_9 rv_10 H locs hG fa_11 fb_12 hp_8 hU hS => ?_)
    have hF1 := hF1.tr (m := ([51, 59], [])) fa_11 (by decide)
    have hF2 := hF2.tr (m := ([51, 59], [])) fb_12 (by decide)
    exact hret (⟨hG, hF1, hF2, trivial⟩) hU hS dX11_blame_24
  ·
    subst ej_6
    have hl : lv_has ls 3 [(2, rfv al 65 none), (0, .ref (al.2 49 0)), (1, .int tt)] := hl
    refine lv_aload_n hx hb dX11_blame_13 rfl (lv_at hl 1 rfl) ?_
    refine lv_iconst (v := (-1)) hx hb dX11_blame_14 (by decide) ?_
    refine q_fi (q_runV (t := 49) (i := 0) (As := [.int (-1)]) (rest := []) C hU (c_X11_refuse hG (-1) (by omega)) vm_X11_refuse ml_X11_77 k_49.1 (hc := rfl) rfl (h1_49 hG) hl.1 rfl rfl (Nat.le_of_ble_eq_true rfl) dX11_blame_15 rfl rfl ⟨Nat.le_of_ble_eq_true rfl, Nat.le_of_ble_eq_true rfl⟩ ⟨Nat.le_refl _, Nat.le_refl _⟩) hS (fun x_19 iv_15 rv_16 H locs hG fa_17 fb_18 hp_14 hU hS => ?_)
    have hF1 := hF1.tr (m := ([51, 59], [])) fa_17 (by decide)
    have hF2 := hF2.tr (m := ([51, 59], [])) fb_18 (by decide)
    exact hret (⟨hG, hF1, hF2, trivial⟩) hU hS dX11_blame_18
set_option maxHeartbeats 4000000 in
set_option maxRecDepth 100000 in
theorem c_X11_law {l : Launch} {D : va_G} {cA : FieldType → ClassId} {sz : Nat} {al : Al} {iv : Iv} {rv : Rv} (hG : GI al iv rv) (lw : Int32) (d : Int32) (mm : Int32) (far : Int32) (sm : Int32) : Met l yX11_law (wd yX11_law cX11_law 6 (some .int)) (rm 2) (PcW D cA sz al iv rv [.ref (al.2 49 0), .int lw, .int d, .int mm, .int far, .int sm]) (QI D cA sz al (fI al ([51, 69, 70, 71, 72, 73], [(68, 5)]) iv rv (fun r iv' rv' => True))) 0 0 (Aq sz) := by
  refine mk_i (by decide) (Nat.le_of_ble_eq_true rfl) rfl ?_
  intro p e s m args below meth c ls Q H locs C hU hS hl hret
  have hx := C.1.1
  have hb := C.1.2.1
  have hl : lv_has ls 6 [(0, .ref (al.2 49 0)), (1, .int lw), (2, .int d), (3, .int mm), (4, .int far), (5, .int sm)] := hl
  have hG0 := hG
  have hF1 : FR ([51, 69, 70, 71, 72, 73], [(68, 5)]) iv iv := FR.rf
  have hF2 : FR ([51, 69, 70, 71, 72, 73], [(68, 5)]) rv rv := FR.rf
  have km6 : ((-6) : Int32).toInt = -6 := by decide
  have km4 : ((-4) : Int32).toInt = -4 := by decide
  have km1 : ((-1) : Int32).toInt = -1 := by decide
  have k4 : (4 : Int32).toInt = 4 := by decide
  have k4000 : (4000 : Int32).toInt = 4000 := by decide
  have k9999 : (9999 : Int32).toInt = 9999 := by decide
  refine lv_iconst (v := 4) hx hb dX11_law_0 (by decide) ?_
  refine lv_iload_n hx hb dX11_law_1 rfl (lv_at hl 1 rfl) ?_
  refine q_pi (q_runS (As := [.int 4, .int lw]) (rest := []) C hU (c_X11_isOneOf  4 lw ) sm_X11_isOneOf ml_X11_85 hl.1 rfl rfl (Nat.le_of_ble_eq_true rfl) dX11_law_2 rfl rfl ⟨Nat.le_of_ble_eq_true rfl, Nat.le_of_ble_eq_true rfl⟩ ⟨Nat.le_refl _, Nat.le_refl _⟩) hS (fun x_2 H locs hp_1 hU hS => ?_)
  refine b_if_ne (tgt := 14) hx hb dX11_law_5 (by decide) (fun c_3 => ?_) (fun c_3 => ?_)
  ·
    refine lv_iload_n hx hb dX11_law_14 rfl (lv_at hl 2 rfl) ?_
    refine lv_aload_n hx hb dX11_law_15 rfl (lv_at hl 0 rfl) ?_
    refine g_49_9 C hU hG (h1_49 hG) fl_X11_73 dX11_law_16 (fun x_4 e_5 le_5 ue_5 => ?_)
    have te_5 := congrArg Int32.toInt e_5
    refine b_icmp_lt (tgt := 36) hx hb dX11_law_19 (by decide) (fun c_6 => ?_) (fun c_6 => ?_)
    ·
      refine lv_aload_n hx hb dX11_law_36 rfl (lv_at hl 0 rfl) ?_
      refine lv_bipush (v := (-4)) hx hb dX11_law_37 (by decide) ?_
      refine q_fi (q_runV (t := 49) (i := 0) (As := [.int (-4)]) (rest := []) C hU (c_X11_refuse hG (-4) (by omega)) vm_X11_refuse ml_X11_77 k_49.1 (hc := rfl) rfl (h1_49 hG) hl.1 rfl rfl (Nat.le_of_ble_eq_true rfl) dX11_law_39 rfl rfl ⟨Nat.le_of_ble_eq_true rfl, Nat.le_of_ble_eq_true rfl⟩ ⟨Nat.le_refl _, Nat.le_refl _⟩) hS (fun x_12 iv_8 rv_9 H locs hG fa_10 fb_11 hp_7 hU hS => ?_)
      have hF1 := hF1.tr (m := ([51, 69, 70, 71, 72, 73], [(68, 5)])) fa_10 (by decide)
      have hF2 := hF2.tr (m := ([51, 69, 70, 71, 72, 73], [(68, 5)])) fb_11 (by decide)
      exact hret (⟨hG, hF1, hF2, trivial⟩) hU hS dX11_law_42
    ·
      refine lv_iload_n hx hb dX11_law_22 rfl (lv_at hl 3 rfl) ?_
      refine b_if_lt (tgt := 36) hx hb dX11_law_23 (by decide) (fun c_13 => ?_) (fun c_13 => ?_)
      ·
        refine lv_aload_n hx hb dX11_law_36 rfl (lv_at hl 0 rfl) ?_
        refine lv_bipush (v := (-4)) hx hb dX11_law_37 (by decide) ?_
        refine q_fi (q_runV (t := 49) (i := 0) (As := [.int (-4)]) (rest := []) C hU (c_X11_refuse hG (-4) (by omega)) vm_X11_refuse ml_X11_77 k_49.1 (hc := rfl) rfl (h1_49 hG) hl.1 rfl rfl (Nat.le_of_ble_eq_true rfl) dX11_law_39 rfl rfl ⟨Nat.le_of_ble_eq_true rfl, Nat.le_of_ble_eq_true rfl⟩ ⟨Nat.le_refl _, Nat.le_refl _⟩) hS (fun x_19 iv_15 rv_16 H locs hG fa_17 fb_18 hp_14 hU hS => ?_)
        have hF1 := hF1.tr (m := ([51, 69, 70, 71, 72, 73], [(68, 5)])) fa_17 (by decide)
        have hF2 := hF2.tr (m := ([51, 69, 70, 71, 72, 73], [(68, 5)])) fb_18 (by decide)
        exact hret (⟨hG, hF1, hF2, trivial⟩) hU hS dX11_law_42
      ·
        refine lv_iload hx hb dX11_law_26 (lv_at hl 4 rfl) ?_
        refine b_if_lt (tgt := 36) hx hb dX11_law_28 (by decide) (fun c_20 => ?_) (fun c_20 => ?_)
        ·
          refine lv_aload_n hx hb dX11_law_36 rfl (lv_at hl 0 rfl) ?_
          refine lv_bipush (v := (-4)) hx hb dX11_law_37 (by decide) ?_
          refine q_fi (q_runV (t := 49) (i := 0) (As := [.int (-4)]) (rest := []) C hU (c_X11_refuse hG (-4) (by omega)) vm_X11_refuse ml_X11_77 k_49.1 (hc := rfl) rfl (h1_49 hG) hl.1 rfl rfl (Nat.le_of_ble_eq_true rfl) dX11_law_39 rfl rfl ⟨Nat.le_of_ble_eq_true rfl, Nat.le_of_ble_eq_true rfl⟩ ⟨Nat.le_refl _, Nat.le_refl _⟩) hS (fun x_26 iv_22 rv_23 H locs hG fa_24 fb_25 hp_21 hU hS => ?_)
          have hF1 := hF1.tr (m := ([51, 69, 70, 71, 72, 73], [(68, 5)])) fa_24 (by decide)
          have hF2 := hF2.tr (m := ([51, 69, 70, 71, 72, 73], [(68, 5)])) fb_25 (by decide)
          exact hret (⟨hG, hF1, hF2, trivial⟩) hU hS dX11_law_42
        ·
          refine lv_iload hx hb dX11_law_31 (lv_at hl 5 rfl) ?_
          refine b_if_ge (tgt := 43) hx hb dX11_law_33 (by decide) (fun c_27 => ?_) (fun c_27 => ?_)
          ·
            refine lv_iload_n hx hb dX11_law_43 rfl (lv_at hl 2 rfl) ?_
            refine lv_sipush (v := 4000) hx hb dX11_law_44 (by decide) ?_
            refine b_icmp_gt (tgt := 73) hx hb dX11_law_47 (by decide) (fun c_28 => ?_) (fun c_28 => ?_)
            ·
              refine lv_aload_n hx hb dX11_law_73 rfl (lv_at hl 0 rfl) ?_
              refine lv_bipush (v := (-6)) hx hb dX11_law_74 (by decide) ?_
              refine q_fi (q_runV (t := 49) (i := 0) (As := [.int (-6)]) (rest := []) C hU (c_X11_refuse hG (-6) (by omega)) vm_X11_refuse ml_X11_77 k_49.1 (hc := rfl) rfl (h1_49 hG) hl.1 rfl rfl (Nat.le_of_ble_eq_true rfl) dX11_law_76 rfl rfl ⟨Nat.le_of_ble_eq_true rfl, Nat.le_of_ble_eq_true rfl⟩ ⟨Nat.le_refl _, Nat.le_refl _⟩) hS (fun x_34 iv_30 rv_31 H locs hG fa_32 fb_33 hp_29 hU hS => ?_)
              have hF1 := hF1.tr (m := ([51, 69, 70, 71, 72, 73], [(68, 5)])) fa_32 (by decide)
              have hF2 := hF2.tr (m := ([51, 69, 70, 71, 72, 73], [(68, 5)])) fb_33 (by decide)
              exact hret (⟨hG, hF1, hF2, trivial⟩) hU hS dX11_law_79
            ·
              refine lv_iload_n hx hb dX11_law_50 rfl (lv_at hl 3 rfl) ?_
              refine lv_sipush (v := 9999) hx hb dX11_law_51 (by decide) ?_
              refine b_icmp_gt (tgt := 73) hx hb dX11_law_54 (by decide) (fun c_35 => ?_) (fun c_35 => ?_)
              ·
                refine lv_aload_n hx hb dX11_law_73 rfl (lv_at hl 0 rfl) ?_
                refine lv_bipush (v := (-6)) hx hb dX11_law_74 (by decide) ?_
                refine q_fi (q_runV (t := 49) (i := 0) (As := [.int (-6)]) (rest := []) C hU (c_X11_refuse hG (-6) (by omega)) vm_X11_refuse ml_X11_77 k_49.1 (hc := rfl) rfl (h1_49 hG) hl.1 rfl rfl (Nat.le_of_ble_eq_true rfl) dX11_law_76 rfl rfl ⟨Nat.le_of_ble_eq_true rfl, Nat.le_of_ble_eq_true rfl⟩ ⟨Nat.le_refl _, Nat.le_refl _⟩) hS (fun x_41 iv_37 rv_38 H locs hG fa_39 fb_40 hp_36 hU hS => ?_)
                have hF1 := hF1.tr (m := ([51, 69, 70, 71, 72, 73], [(68, 5)])) fa_39 (by decide)
                have hF2 := hF2.tr (m := ([51, 69, 70, 71, 72, 73], [(68, 5)])) fb_40 (by decide)
                exact hret (⟨hG, hF1, hF2, trivial⟩) hU hS dX11_law_79
              ·
                refine lv_iload hx hb dX11_law_57 (lv_at hl 4 rfl) ?_
                refine lv_sipush (v := 9999) hx hb dX11_law_59 (by decide) ?_
                refine b_icmp_gt (tgt := 73) hx hb dX11_law_62 (by decide) (fun c_42 => ?_) (fun c_42 => ?_)
                ·
                  refine lv_aload_n hx hb dX11_law_73 rfl (lv_at hl 0 rfl) ?_
                  refine lv_bipush (v := (-6)) hx hb dX11_law_74 (by decide) ?_
                  refine q_fi (q_runV (t := 49) (i := 0) (As := [.int (-6)]) (rest := []) C hU (c_X11_refuse hG (-6) (by omega)) vm_X11_refuse ml_X11_77 k_49.1 (hc := rfl) rfl (h1_49 hG) hl.1 rfl rfl (Nat.le_of_ble_eq_true rfl) dX11_law_76 rfl rfl ⟨Nat.le_of_ble_eq_true rfl, Nat.le_of_ble_eq_true rfl⟩ ⟨Nat.le_refl _, Nat.le_refl _⟩) hS (fun x_48 iv_44 rv_45 H locs hG fa_46 fb_47 hp_43 hU hS => ?_)
                  have hF1 := hF1.tr (m := ([51, 69, 70, 71, 72, 73], [(68, 5)])) fa_46 (by decide)
                  have hF2 := hF2.tr (m := ([51, 69, 70, 71, 72, 73], [(68, 5)])) fb_47 (by decide)
                  exact hret (⟨hG, hF1, hF2, trivial⟩) hU hS dX11_law_79
                ·
                  refine lv_iload hx hb dX11_law_65 (lv_at hl 5 rfl) ?_
                  refine lv_sipush (v := 9999) hx hb dX11_law_67 (by decide) ?_
                  refine b_icmp_le (tgt := 80) hx hb dX11_law_70 (by decide) (fun c_49 => ?_) (fun c_49 => ?_)
                  ·
                    refine lv_aload_n hx hb dX11_law_80 rfl (lv_at hl 0 rfl) ?_
                    refine g_49_3 C hU hG (h1_49 hG) fl_X11_33 dX11_law_81 ?_
                    refine q_pi (q_runV (t := 68) (i := 0) (As := []) (rest := []) C hU (c_X4_isFull hG  ) vm_X4_isFull ml_X11_221 k_68.1 (hc := rfl) rfl (h1_68 hG) hl.1 rfl rfl (Nat.le_of_ble_eq_true rfl) dX11_law_84 rfl rfl ⟨Nat.le_of_ble_eq_true rfl, Nat.le_of_ble_eq_true rfl⟩ ⟨Nat.le_refl _, Nat.le_refl _⟩) hS (fun x_51 H locs hp_50 hU hS => ?_)
                    refine b_if_eq (tgt := 97) hx hb dX11_law_87 (by decide) (fun c_52 => ?_) (fun c_52 => ?_)
                    ·
                      refine lv_aload_n hx hb dX11_law_97 rfl (lv_at hl 0 rfl) ?_
                      refine g_49_3 C hU hG (h1_49 hG) fl_X11_33 dX11_law_98 ?_
                      refine lv_iload_n hx hb dX11_law_101 rfl (lv_at hl 1 rfl) ?_
                      refine lv_iload_n hx hb dX11_law_102 rfl (lv_at hl 2 rfl) ?_
                      refine lv_iload_n hx hb dX11_law_103 rfl (lv_at hl 3 rfl) ?_
                      refine lv_iload hx hb dX11_law_104 (lv_at hl 4 rfl) ?_
                      refine lv_iload hx hb dX11_law_106 (lv_at hl 5 rfl) ?_
                      refine q_fi (q_runV (t := 68) (i := 0) (As := [.int lw, .int d, .int mm, .int far, .int sm]) (rest := []) C hU (c_X4_add hG lw d mm far sm (by omega) (by omega) (by omega) (by omega) (by omega) (by omega)) vm_X4_add ml_X11_222 k_68.1 (hc := rfl) rfl (h1_68 hG) hl.1 rfl rfl (Nat.le_of_ble_eq_true rfl) dX11_law_108 rfl rfl ⟨Nat.le_of_ble_eq_true rfl, Nat.le_of_ble_eq_true rfl⟩ ⟨Nat.le_refl _, Nat.le_refl _⟩) hS (fun x_58 iv_54 rv_55 H locs hG fa_56 fb_57 hp_53 hU hS => ?_)
                      have hF1 := hF1.tr (m := ([51, 69, 70, 71, 72, 73], [(68, 5)])) fa_56 (by decide)
                      have hF2 := hF2.tr (m := ([51, 69, 70, 71, 72, 73], [(68, 5)])) fb_57 (by decide)
                      exact hret (⟨hG, hF1, hF2, trivial⟩) hU hS dX11_law_111
                    ·
                      refine lv_aload_n hx hb dX11_law_90 rfl (lv_at hl 0 rfl) ?_
                      refine lv_bipush (v := (-6)) hx hb dX11_law_91 (by decide) ?_
                      refine q_fi (q_runV (t := 49) (i := 0) (As := [.int (-6)]) (rest := []) C hU (c_X11_refuse hG (-6) (by omega)) vm_X11_refuse ml_X11_77 k_49.1 (hc := rfl) rfl (h1_49 hG) hl.1 rfl rfl (Nat.le_of_ble_eq_true rfl) dX11_law_93 rfl rfl ⟨Nat.le_of_ble_eq_true rfl, Nat.le_of_ble_eq_true rfl⟩ ⟨Nat.le_refl _, Nat.le_refl _⟩) hS (fun x_64 iv_60 rv_61 H locs hG fa_62 fb_63 hp_59 hU hS => ?_)
                      have hF1 := hF1.tr (m := ([51, 69, 70, 71, 72, 73], [(68, 5)])) fa_62 (by decide)
                      have hF2 := hF2.tr (m := ([51, 69, 70, 71, 72, 73], [(68, 5)])) fb_63 (by decide)
                      exact hret (⟨hG, hF1, hF2, trivial⟩) hU hS dX11_law_96
                  ·
                    refine lv_aload_n hx hb dX11_law_73 rfl (lv_at hl 0 rfl) ?_
                    refine lv_bipush (v := (-6)) hx hb dX11_law_74 (by decide) ?_
                    refine q_fi (q_runV (t := 49) (i := 0) (As := [.int (-6)]) (rest := []) C hU (c_X11_refuse hG (-6) (by omega)) vm_X11_refuse ml_X11_77 k_49.1 (hc := rfl) rfl (h1_49 hG) hl.1 rfl rfl (Nat.le_of_ble_eq_true rfl) dX11_law_76 rfl rfl ⟨Nat.le_of_ble_eq_true rfl, Nat.le_of_ble_eq_true rfl⟩ ⟨Nat.le_refl _, Nat.le_refl _⟩) hS (fun x_70 iv_66 rv_67 H locs hG fa_68 fb_69 hp_65 hU hS => ?_)
                    have hF1 := hF1.tr (m := ([51, 69, 70, 71, 72, 73], [(68, 5)])) fa_68 (by decide)
                    have hF2 := hF2.tr (m := ([51, 69, 70, 71, 72, 73], [(68, 5)])) fb_69 (by decide)
                    exact hret (⟨hG, hF1, hF2, trivial⟩) hU hS dX11_law_79
          ·
            refine lv_aload_n hx hb dX11_law_36 rfl (lv_at hl 0 rfl) ?_
            refine lv_bipush (v := (-4)) hx hb dX11_law_37 (by decide) ?_
            refine q_fi (q_runV (t := 49) (i := 0) (As := [.int (-4)]) (rest := []) C hU (c_X11_refuse hG (-4) (by omega)) vm_X11_refuse ml_X11_77 k_49.1 (hc := rfl) rfl (h1_49 hG) hl.1 rfl rfl (Nat.le_of_ble_eq_true rfl) dX11_law_39 rfl rfl ⟨Nat.le_of_ble_eq_true rfl, Nat.le_of_ble_eq_true rfl⟩ ⟨Nat.le_refl _, Nat.le_refl _⟩) hS (fun x_76 iv_72 rv_73 H locs hG fa_74 fb_75 hp_71 hU hS => ?_)
            have hF1 := hF1.tr (m := ([51, 69, 70, 71, 72, 73], [(68, 5)])) fa_74 (by decide)
            have hF2 := hF2.tr (m := ([51, 69, 70, 71, 72, 73], [(68, 5)])) fb_75 (by decide)
            exact hret (⟨hG, hF1, hF2, trivial⟩) hU hS dX11_law_42
  ·
    refine lv_aload_n hx hb dX11_law_8 rfl (lv_at hl 0 rfl) ?_
    refine lv_iconst (v := (-1)) hx hb dX11_law_9 (by decide) ?_
    refine q_fi (q_runV (t := 49) (i := 0) (As := [.int (-1)]) (rest := []) C hU (c_X11_refuse hG (-1) (by omega)) vm_X11_refuse ml_X11_77 k_49.1 (hc := rfl) rfl (h1_49 hG) hl.1 rfl rfl (Nat.le_of_ble_eq_true rfl) dX11_law_10 rfl rfl ⟨Nat.le_of_ble_eq_true rfl, Nat.le_of_ble_eq_true rfl⟩ ⟨Nat.le_refl _, Nat.le_refl _⟩) hS (fun x_82 iv_78 rv_79 H locs hG fa_80 fb_81 hp_77 hU hS => ?_)
    have hF1 := hF1.tr (m := ([51, 69, 70, 71, 72, 73], [(68, 5)])) fa_80 (by decide)
    have hF2 := hF2.tr (m := ([51, 69, 70, 71, 72, 73], [(68, 5)])) fb_81 (by decide)
    exact hret (⟨hG, hF1, hF2, trivial⟩) hU hS dX11_law_13
set_option maxHeartbeats 4000000 in
set_option maxRecDepth 100000 in
theorem c_X11_excuse {l : Launch} {D : va_G} {cA : FieldType → ClassId} {sz : Nat} {al : Al} {iv : Iv} {rv : Rv} (hG : GI al iv rv) (lw : Int32) (cs : Int32) (d : Int32) (on : Int32) (pre0 : 0 ≤ on.toInt ∧ on.toInt ≤ 1) : Met l yX11_excuse (wd yX11_excuse cX11_excuse 5 (some .int)) (rm 2) (PcW D cA sz al iv rv [.ref (al.2 49 0), .int lw, .int cs, .int d, .int on]) (QI D cA sz al (fI al ([51, 74, 75, 76, 77, 78], [(68, 11)]) iv rv (fun r iv' rv' => True))) 0 0 (Aq sz) := by
  refine mk_i (by decide) (Nat.le_of_ble_eq_true rfl) rfl ?_
  intro p e s m args below meth c ls Q H locs C hU hS hl hret
  have hx := C.1.1
  have hb := C.1.2.1
  have hl : lv_has ls 5 [(0, .ref (al.2 49 0)), (1, .int lw), (2, .int cs), (3, .int d), (4, .int on)] := hl
  have hG0 := hG
  have hF1 : FR ([51, 74, 75, 76, 77, 78], [(68, 11)]) iv iv := FR.rf
  have hF2 : FR ([51, 74, 75, 76, 77, 78], [(68, 11)]) rv rv := FR.rf
  have km6 : ((-6) : Int32).toInt = -6 := by decide
  have km4 : ((-4) : Int32).toInt = -4 := by decide
  have km1 : ((-1) : Int32).toInt = -1 := by decide
  have k4 : (4 : Int32).toInt = 4 := by decide
  have k6 : (6 : Int32).toInt = 6 := by decide
  have k4000 : (4000 : Int32).toInt = 4000 := by decide
  refine lv_iconst (v := 4) hx hb dX11_excuse_0 (by decide) ?_
  refine lv_iload_n hx hb dX11_excuse_1 rfl (lv_at hl 1 rfl) ?_
  refine q_pi (q_runS (As := [.int 4, .int lw]) (rest := []) C hU (c_X11_isOneOf  4 lw ) sm_X11_isOneOf ml_X11_85 hl.1 rfl rfl (Nat.le_of_ble_eq_true rfl) dX11_excuse_2 rfl rfl ⟨Nat.le_of_ble_eq_true rfl, Nat.le_of_ble_eq_true rfl⟩ ⟨Nat.le_refl _, Nat.le_refl _⟩) hS (fun x_2 H locs hp_1 hU hS => ?_)
  refine b_if_eq (tgt := 17) hx hb dX11_excuse_5 (by decide) (fun c_3 => ?_) (fun c_3 => ?_)
  ·
    refine lv_aload_n hx hb dX11_excuse_17 rfl (lv_at hl 0 rfl) ?_
    refine lv_iconst (v := (-1)) hx hb dX11_excuse_18 (by decide) ?_
    refine q_fi (q_runV (t := 49) (i := 0) (As := [.int (-1)]) (rest := []) C hU (c_X11_refuse hG (-1) (by omega)) vm_X11_refuse ml_X11_77 k_49.1 (hc := rfl) rfl (h1_49 hG) hl.1 rfl rfl (Nat.le_of_ble_eq_true rfl) dX11_excuse_19 rfl rfl ⟨Nat.le_of_ble_eq_true rfl, Nat.le_of_ble_eq_true rfl⟩ ⟨Nat.le_refl _, Nat.le_refl _⟩) hS (fun x_9 iv_5 rv_6 H locs hG fa_7 fb_8 hp_4 hU hS => ?_)
    have hF1 := hF1.tr (m := ([51, 74, 75, 76, 77, 78], [(68, 11)])) fa_7 (by decide)
    have hF2 := hF2.tr (m := ([51, 74, 75, 76, 77, 78], [(68, 11)])) fb_8 (by decide)
    exact hret (⟨hG, hF1, hF2, trivial⟩) hU hS dX11_excuse_22
  ·
    refine lv_bipush (v := 6) hx hb dX11_excuse_8 (by decide) ?_
    refine lv_iload_n hx hb dX11_excuse_10 rfl (lv_at hl 2 rfl) ?_
    refine q_pi (q_runS (As := [.int 6, .int cs]) (rest := []) C hU (c_X11_isOneOf  6 cs ) sm_X11_isOneOf ml_X11_85 hl.1 rfl rfl (Nat.le_of_ble_eq_true rfl) dX11_excuse_11 rfl rfl ⟨Nat.le_of_ble_eq_true rfl, Nat.le_of_ble_eq_true rfl⟩ ⟨Nat.le_refl _, Nat.le_refl _⟩) hS (fun x_11 H locs hp_10 hU hS => ?_)
    refine b_if_ne (tgt := 23) hx hb dX11_excuse_14 (by decide) (fun c_12 => ?_) (fun c_12 => ?_)
    ·
      refine lv_iload_n hx hb dX11_excuse_23 rfl (lv_at hl 3 rfl) ?_
      refine b_if_ge (tgt := 34) hx hb dX11_excuse_24 (by decide) (fun c_13 => ?_) (fun c_13 => ?_)
      ·
        refine lv_iload_n hx hb dX11_excuse_34 rfl (lv_at hl 3 rfl) ?_
        refine lv_sipush (v := 4000) hx hb dX11_excuse_35 (by decide) ?_
        refine b_icmp_gt (tgt := 51) hx hb dX11_excuse_38 (by decide) (fun c_14 => ?_) (fun c_14 => ?_)
        ·
          refine lv_aload_n hx hb dX11_excuse_51 rfl (lv_at hl 0 rfl) ?_
          refine lv_bipush (v := (-6)) hx hb dX11_excuse_52 (by decide) ?_
          refine q_fi (q_runV (t := 49) (i := 0) (As := [.int (-6)]) (rest := []) C hU (c_X11_refuse hG (-6) (by omega)) vm_X11_refuse ml_X11_77 k_49.1 (hc := rfl) rfl (h1_49 hG) hl.1 rfl rfl (Nat.le_of_ble_eq_true rfl) dX11_excuse_54 rfl rfl ⟨Nat.le_of_ble_eq_true rfl, Nat.le_of_ble_eq_true rfl⟩ ⟨Nat.le_refl _, Nat.le_refl _⟩) hS (fun x_20 iv_16 rv_17 H locs hG fa_18 fb_19 hp_15 hU hS => ?_)
          have hF1 := hF1.tr (m := ([51, 74, 75, 76, 77, 78], [(68, 11)])) fa_18 (by decide)
          have hF2 := hF2.tr (m := ([51, 74, 75, 76, 77, 78], [(68, 11)])) fb_19 (by decide)
          exact hret (⟨hG, hF1, hF2, trivial⟩) hU hS dX11_excuse_57
        ·
          refine lv_aload_n hx hb dX11_excuse_41 rfl (lv_at hl 0 rfl) ?_
          refine g_49_3 C hU hG (h1_49 hG) fl_X11_33 dX11_excuse_42 ?_
          refine q_pi (q_runV (t := 68) (i := 0) (As := []) (rest := []) C hU (c_X4_isFullOfExcuses hG  ) vm_X4_isFullOfExcuses ml_X11_225 k_68.1 (hc := rfl) rfl (h1_68 hG) hl.1 rfl rfl (Nat.le_of_ble_eq_true rfl) dX11_excuse_45 rfl rfl ⟨Nat.le_of_ble_eq_true rfl, Nat.le_of_ble_eq_true rfl⟩ ⟨Nat.le_refl _, Nat.le_refl _⟩) hS (fun x_22 H locs hp_21 hU hS => ?_)
          refine b_if_eq (tgt := 58) hx hb dX11_excuse_48 (by decide) (fun c_23 => ?_) (fun c_23 => ?_)
          ·
            refine lv_aload_n hx hb dX11_excuse_58 rfl (lv_at hl 0 rfl) ?_
            refine g_49_3 C hU hG (h1_49 hG) fl_X11_33 dX11_excuse_59 ?_
            refine lv_iload_n hx hb dX11_excuse_62 rfl (lv_at hl 1 rfl) ?_
            refine lv_iload_n hx hb dX11_excuse_63 rfl (lv_at hl 2 rfl) ?_
            refine lv_iload_n hx hb dX11_excuse_64 rfl (lv_at hl 3 rfl) ?_
            refine lv_aload_n hx hb dX11_excuse_65 rfl (lv_at hl 0 rfl) ?_
            refine g_49_9 C hU hG (h1_49 hG) fl_X11_73 dX11_excuse_66 (fun x_24 e_25 le_25 ue_25 => ?_)
            have te_25 := congrArg Int32.toInt e_25
            refine lv_iload hx hb dX11_excuse_69 (lv_at hl 4 rfl) ?_
            refine q_fi (q_runV (t := 68) (i := 0) (As := [.int lw, .int cs, .int d, .int x_24, .int on]) (rest := []) C hU (c_X4_addExcuse hG lw cs d x_24 on (by omega) (by omega)) vm_X4_addExcuse ml_X11_228 k_68.1 (hc := rfl) rfl (h1_68 hG) hl.1 rfl rfl (Nat.le_of_ble_eq_true rfl) dX11_excuse_71 rfl rfl ⟨Nat.le_of_ble_eq_true rfl, Nat.le_of_ble_eq_true rfl⟩ ⟨Nat.le_refl _, Nat.le_refl _⟩) hS (fun x_31 iv_27 rv_28 H locs hG fa_29 fb_30 hp_26 hU hS => ?_)
            have hF1 := hF1.tr (m := ([51, 74, 75, 76, 77, 78], [(68, 11)])) fa_29 (by decide)
            have hF2 := hF2.tr (m := ([51, 74, 75, 76, 77, 78], [(68, 11)])) fb_30 (by decide)
            exact hret (⟨hG, hF1, hF2, trivial⟩) hU hS dX11_excuse_74
          ·
            refine lv_aload_n hx hb dX11_excuse_51 rfl (lv_at hl 0 rfl) ?_
            refine lv_bipush (v := (-6)) hx hb dX11_excuse_52 (by decide) ?_
            refine q_fi (q_runV (t := 49) (i := 0) (As := [.int (-6)]) (rest := []) C hU (c_X11_refuse hG (-6) (by omega)) vm_X11_refuse ml_X11_77 k_49.1 (hc := rfl) rfl (h1_49 hG) hl.1 rfl rfl (Nat.le_of_ble_eq_true rfl) dX11_excuse_54 rfl rfl ⟨Nat.le_of_ble_eq_true rfl, Nat.le_of_ble_eq_true rfl⟩ ⟨Nat.le_refl _, Nat.le_refl _⟩) hS (fun x_37 iv_33 rv_34 H locs hG fa_35 fb_36 hp_32 hU hS => ?_)
            have hF1 := hF1.tr (m := ([51, 74, 75, 76, 77, 78], [(68, 11)])) fa_35 (by decide)
            have hF2 := hF2.tr (m := ([51, 74, 75, 76, 77, 78], [(68, 11)])) fb_36 (by decide)
            exact hret (⟨hG, hF1, hF2, trivial⟩) hU hS dX11_excuse_57
      ·
        refine lv_aload_n hx hb dX11_excuse_27 rfl (lv_at hl 0 rfl) ?_
        refine lv_bipush (v := (-4)) hx hb dX11_excuse_28 (by decide) ?_
        refine q_fi (q_runV (t := 49) (i := 0) (As := [.int (-4)]) (rest := []) C hU (c_X11_refuse hG (-4) (by omega)) vm_X11_refuse ml_X11_77 k_49.1 (hc := rfl) rfl (h1_49 hG) hl.1 rfl rfl (Nat.le_of_ble_eq_true rfl) dX11_excuse_30 rfl rfl ⟨Nat.le_of_ble_eq_true rfl, Nat.le_of_ble_eq_true rfl⟩ ⟨Nat.le_refl _, Nat.le_refl _⟩) hS (fun x_43 iv_39 rv_40 H locs hG fa_41 fb_42 hp_38 hU hS => ?_)
        have hF1 := hF1.tr (m := ([51, 74, 75, 76, 77, 78], [(68, 11)])) fa_41 (by decide)
        have hF2 := hF2.tr (m := ([51, 74, 75, 76, 77, 78], [(68, 11)])) fb_42 (by decide)
        exact hret (⟨hG, hF1, hF2, trivial⟩) hU hS dX11_excuse_33
    ·
      refine lv_aload_n hx hb dX11_excuse_17 rfl (lv_at hl 0 rfl) ?_
      refine lv_iconst (v := (-1)) hx hb dX11_excuse_18 (by decide) ?_
      refine q_fi (q_runV (t := 49) (i := 0) (As := [.int (-1)]) (rest := []) C hU (c_X11_refuse hG (-1) (by omega)) vm_X11_refuse ml_X11_77 k_49.1 (hc := rfl) rfl (h1_49 hG) hl.1 rfl rfl (Nat.le_of_ble_eq_true rfl) dX11_excuse_19 rfl rfl ⟨Nat.le_of_ble_eq_true rfl, Nat.le_of_ble_eq_true rfl⟩ ⟨Nat.le_refl _, Nat.le_refl _⟩) hS (fun x_49 iv_45 rv_46 H locs hG fa_47 fb_48 hp_44 hU hS => ?_)
      have hF1 := hF1.tr (m := ([51, 74, 75, 76, 77, 78], [(68, 11)])) fa_47 (by decide)
      have hF2 := hF2.tr (m := ([51, 74, 75, 76, 77, 78], [(68, 11)])) fb_48 (by decide)
      exact hret (⟨hG, hF1, hF2, trivial⟩) hU hS dX11_excuse_22
