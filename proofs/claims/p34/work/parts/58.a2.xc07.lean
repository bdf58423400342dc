set_option maxHeartbeats 4000000 in
set_option maxRecDepth 100000 in
theorem c_X11_soonestOf_x {l : Launch} {D : va_G} {cA : FieldType → ClassId} {sz : Nat} {al : Al} {iv : Iv} {rv : Rv} (hG : GI al iv rv) (ti : Nat) (hti : ti < al.1 65) (pre0 : BS iv rv) : Met l yX11_soonestOf (wd yX11_soonestOf cX11_soonestOf 6 (some .int)) (rm 2) (PcW D cA sz al iv rv [.ref (al.2 49 0), .ref (al.2 65 ti)]) (QI D cA sz al (fI al ([60, 61], []) iv rv (fun r iv' rv' => r = soF iv ti))) 0 0 (Aq sz) := by
  refine mk_i (by decide) (Nat.le_of_ble_eq_true rfl) rfl ?_
  intro p e s m args below meth c ls Q H locs C hU hS hl hret
  have hx := C.1.1
  have hb := C.1.2.1
  have hl : lv_has ls 6 [(0, .ref (al.2 49 0)), (1, .ref (al.2 65 ti))] := hl
  have hG0 := hG
  have htk := tk_k hG pre0.1 hti
  have h19 : (iv 19 0 ti).toInt ≤ 40 := by rw [htk.1]; have := sz4 hG hti; omega
  have c19 := congrArg Int32.toInt htk.1
  have hF1 : FR ([60, 61], []) iv iv := FR.rf
  have hF2 : FR ([60, 61], []) rv rv := FR.rf
  have km9 : ((-9) : Int32).toInt = -9 := by decide
  have k1 : (1 : Int32).toInt = 1 := by decide
  have k2 : (2 : Int32).toInt = 2 := by decide
  refine lv_aload_n hx hb dX11_soonestOf_0 rfl (lv_at hl 0 rfl) ?_
  refine g_49_7 C hU hG (h1_49 hG) fl_X11_67 dX11_soonestOf_1 ?_
  refine lv_iconst (v := 2) hx hb dX11_soonestOf_4 (by decide) ?_
  refine a_50 C hU hG (h1_50 hG) (x := 2) (by omega) (by omega) dX11_soonestOf_5 (fun x_1 e_2 le_2 ue_2 => ?_)
  have te_2 := congrArg Int32.toInt e_2
  refine lv_istore_n (lv' := [(2, .int x_1), (0, .ref (al.2 49 0)), (1, .ref (al.2 65 ti))]) hx hb dX11_soonestOf_6 rfl hl (by decide) rfl (fun ls hl => ?_)
  refine lv_aload_n hx hb dX11_soonestOf_7 rfl (lv_at hl 2 rfl) ?_
  refine lv_iload_n hx hb dX11_soonestOf_8 rfl (lv_at hl 0 rfl) ?_
  refine q_pi (q_runV (t := 65) (i := ti) (As := [.int x_1]) (rest := []) C hU (c_X8_missedPlace_x hG (ti) hti x_1 (pre0.1) (by rw [e_2]; exact (pre0.1.1.1.2.2 2 (by decide)).symm)) vm_X8_missedPlace ml_X11_208 k_65.1 (hc := rfl) rfl hti hl.1 rfl rfl (Nat.le_of_ble_eq_true rfl) dX11_soonestOf_9 rfl rfl ⟨Nat.le_of_ble_eq_true rfl, Nat.le_of_ble_eq_true rfl⟩ ⟨Nat.le_refl _, Nat.le_refl _⟩) hS (fun x_4 H locs hp_3 hU hS => ?_)
  refine lv_istore_n (lv' := [(3, .int x_4), (2, .int x_1), (0, .ref (al.2 49 0)), (1, .ref (al.2 65 ti))]) hx hb dX11_soonestOf_12 rfl hl (by decide) rfl (fun ls hl => ?_)
  have hmp := hp_3.2.1
  have tmp := mpx_t hmp
  refine lv_iload_n hx hb dX11_soonestOf_13 rfl (lv_at hl 0 rfl) ?_
  refine lv_bipush (v := (-9)) hx hb dX11_soonestOf_14 (by decide) ?_
  refine b_icmp_ne (tgt := 27) hx hb dX11_soonestOf_16 (by decide) (fun c_5 => ?_) (fun c_5 => ?_)
  ·
    refine lv_aload_n hx hb dX11_soonestOf_27 rfl (lv_at hl 3 rfl) ?_
    refine g_65_3 C hU hG hti fl_X11_350 dX11_soonestOf_28 (fun hb_6 => ?_)
    refine lv_iload_n hx hb dX11_soonestOf_31 rfl (lv_at hl 0 rfl) ?_
    refine a_66 C hU hG hb_6 (x := x_4) (by omega) (by omega) dX11_soonestOf_32 (fun r_7 er_8 hb_9 => ?_)
    obtain ⟨j_10, ej_11⟩ : ∃ j, r_7 = some j := (tleg hG hti (by omega) (by omega)).imp (fun _ h => er_8.trans h)
    subst ej_11
    have hl : lv_has ls 6 [(3, .int x_4), (2, .int x_1), (0, .ref (al.2 49 0)), (1, .ref (al.2 65 ti))] := hl
    have hb_12 : j_10 < al.1 62 := hb_9 j_10 rfl
    refine lv_astore (lv' := [(4, .ref (al.2 62 j_10)), (3, .int x_4), (2, .int x_1), (0, .ref (al.2 49 0)), (1, .ref (al.2 65 ti))]) hx hb dX11_soonestOf_33 hl (by decide) rfl (fun ls hl => ?_)
    have hw4 := tk_ix hG0 pre0.1 hti er_8 (by omega) (by omega)
    have hms : x_4 = msF iv ti := tmp.elim (fun z => by omega) (fun z => z.1)
    have tms := congrArg Int32.toInt hms
    refine lv_iload_n hx hb dX11_soonestOf_35 rfl (lv_at hl 1 rfl) ?_
    have J_58 : ∀ (v_13 : Int32) (ls : Array Slot), lv_has ls 6 [(0, .ref (al.2 49 0)), (1, .ref (al.2 65 ti)), (2, .int x_1), (4, .ref (al.2 62 j_10))] → v_13.toInt = stT iv ti → W p l e (rm 2) s m args below meth c H locs 0 0 Q (F0 m 58 ls [.int v_13]) := by
      intro v_13 ls hl i58_0
      refine lv_istore (lv' := [(5, .int v_13), (0, .ref (al.2 49 0)), (1, .ref (al.2 65 ti)), (2, .int x_1), (4, .ref (al.2 62 j_10))]) hx hb dX11_soonestOf_58 hl (by decide) rfl (fun ls hl => ?_)
      refine lv_aload_n hx hb dX11_soonestOf_60 rfl (lv_at hl 1 rfl) ?_
      refine g_49_1 C hU hG (h1_49 hG) fl_X11_19 dX11_soonestOf_61 ?_
      refine lv_aload hx hb dX11_soonestOf_64 (lv_at hl 4 rfl) ?_
      refine g_62_1 C hU hG hb_12 fl_X11_354 dX11_soonestOf_66 (fun j_14 ej_15 hb_16 => ?_)
      have hfr := lf_fr hG0 pre0.1.1.1.2.1 hb_12 ej_15
      rw [hw4] at hfr
      refine lv_iload hx hb dX11_soonestOf_69 (lv_at hl 0 rfl) ?_
      refine lv_aload_n hx hb dX11_soonestOf_71 rfl (lv_at hl 2 rfl) ?_
      refine g_65_2 C hU hG hti fl_X11_343 dX11_soonestOf_72 (fun j_17 ej_18 hb_19 => ?_)
      have hth2 := sx_last htk ej_18
      have hb72 := hb_19
      refine g_62_2 C hU hG hb_19 fl_X11_358 dX11_soonestOf_75 (fun j_20 ej_21 hb_22 => ?_)
      have hto := lf_to hG0 pre0.1.1.1.2.1 hb72 rfl ej_21
      rw [hth2] at hto
      refine lv_iload_n hx hb dX11_soonestOf_78 rfl (lv_at hl 3 rfl) ?_
      refine q_fi (q_runV (t := 57) (i := 0) (As := [.ref (al.2 56 j_14), .int v_13, .ref (al.2 56 j_20), .int x_1]) (rest := []) C hU (c_X10_soonestBy_x hG (j_14) hb_16 v_13 (j_20) hb_22 x_1 (pre0.1.1) (pre0.2) (by rw [e_2]; exact (pre0.1.1.1.2.2 2 (by decide)).symm)) vm_X10_soonestBy ml_X11_361 k_57.1 (hc := rfl) rfl (h1_57 hG) hl.1 rfl rfl (Nat.le_of_ble_eq_true rfl) dX11_soonestOf_79 rfl rfl ⟨Nat.le_of_ble_eq_true rfl, Nat.le_of_ble_eq_true rfl⟩ ⟨Nat.le_refl _, Nat.le_refl _⟩) hS (fun x_28 iv_24 rv_25 H locs hG fa_26 fb_27 hp_23 hU hS => ?_)
      have hF1 := hF1.tr (m := ([60, 61], [])) fa_26 (by decide)
      have hF2 := hF2.tr (m := ([60, 61], [])) fb_27 (by decide)
      exact hret (⟨hG, hF1, hF2, by unfold soF; rw [if_neg (by omega), hp_23, hfr, hto, i58_0, hms]⟩) hU hS dX11_soonestOf_82
    refine b_if_ne (tgt := 47) hx hb dX11_soonestOf_36 (by decide) (fun c_29 => ?_) (fun c_29 => ?_)
    ·
      refine lv_aload_n hx hb dX11_soonestOf_47 rfl (lv_at hl 4 rfl) ?_
      refine g_65_3 C hU hG hti fl_X11_350 dX11_soonestOf_48 (fun hb_30 => ?_)
      refine lv_iload_n hx hb dX11_soonestOf_51 rfl (lv_at hl 1 rfl) ?_
      refine lv_iconst (v := 1) hx hb dX11_soonestOf_52 (by decide) ?_
      refine lv_isub hx hb dX11_soonestOf_53 ?_
      refine lv_topi (fun x_31 e_32 => ?_)
      have te_32 : x_31.toInt = (x_4 : Int32).toInt - (1 : Int32).toInt := by rw [e_32]; exact fb_subI (by omega) (by omega)
      refine a_66 C hU hG hb_30 (x := x_31) (by omega) (by omega) dX11_soonestOf_54 (fun r_33 er_34 hb_35 => ?_)
      obtain ⟨j_36, ej_37⟩ : ∃ j, r_33 = some j := (tleg hG hti (by omega) (by omega)).imp (fun _ h => er_34.trans h)
      subst ej_37
      have hl : lv_has ls 6 [(4, .ref (al.2 62 j_10)), (3, .int x_4), (2, .int x_1), (0, .ref (al.2 49 0)), (1, .ref (al.2 65 ti))] := hl
      have hb_38 : j_36 < al.1 62 := hb_35 j_36 rfl
      have hw5 := tk_ix1 (x := x_4) hG0 pre0.1 hti er_34 (by omega) (by omega) (by omega)
      have hrt5 := rt_x hG0 pre0.1.1 hb_38 (sx_lg hG0 pre0.1 hb_38 hw5 hms (by omega) h19)
      refine g_62_11 C hU hG hb_38 fl_X11_347 dX11_soonestOf_55 (fun x_39 e_40 => ?_)
      have te_40 := congrArg Int32.toInt e_40
      have h55 := e_40.trans hrt5.2.1
      rw [hw5] at h55
      have t55 := congrArg Int32.toInt h55
      exact J_58 x_39 _ (lv_sub hl [3, 4, 2, 0] rfl) (by unfold stT; rw [← hms]; first | (rw [if_pos (by rw [clamp_n]; omega)]; omega) | (rw [if_neg (by rw [clamp_n]; omega)]; omega))
    ·
      refine lv_aload hx hb dX11_soonestOf_39 (lv_at hl 0 rfl) ?_
      refine g_62_5 C hU hG hb_12 fl_X11_177 dX11_soonestOf_41 (fun x_41 e_42 le_42 ue_42 => ?_)
      have te_42 := congrArg Int32.toInt e_42
      have z3 : x_4.toNatClampNeg = 0 := by rw [clamp_n]; omega
      rw [z3] at hw4
      have t41 := sx_lv hG0 pre0.1 hb_12 hw4 e_42
      refine lv_goto (tgt := 58) hx hb dX11_soonestOf_44 (by decide) ?_
      exact J_58 x_41 _ (lv_sub hl [3, 4, 2, 0] rfl) (by unfold stT; rw [← hms]; first | (rw [if_pos (by rw [clamp_n]; omega)]; omega) | (rw [if_neg (by rw [clamp_n]; omega)]; omega))
  ·
    refine lv_aload_n hx hb dX11_soonestOf_19 rfl (lv_at hl 3 rfl) ?_
    refine g_65_2 C hU hG hti fl_X11_343 dX11_soonestOf_20 (fun j_43 ej_44 hb_45 => ?_)
    have hth := sx_last htk ej_44
    refine g_62_11 C hU hG hb_45 fl_X11_347 dX11_soonestOf_23 (fun x_46 e_47 => ?_)
    have te_47 := congrArg Int32.toInt e_47
    have h23 := sx_ra hG0 pre0.1 e_47 hth (by omega) hti htk
    exact hret (⟨hG, hF1, hF2, by unfold soF; rw [if_pos (by omega)]; exact h23⟩) hU hS dX11_soonestOf_26
set_option maxHeartbeats 4000000 in
set_option maxRecDepth 100000 in
theorem c_X11_hoursOf_x {l : Launch} {D : va_G} {cA : FieldType → ClassId} {sz : Nat} {al : Al} {iv : Iv} {rv : Rv} (hG : GI al iv rv) (ti : Nat) (hti : ti < al.1 65) (pre0 : BS iv rv) : Met l yX11_hoursOf (wd yX11_hoursOf cX11_hoursOf 3 (some .int)) (rm 3) (PcW D cA sz al iv rv [.ref (al.2 49 0), .ref (al.2 65 ti)]) (QI D cA sz al (fI al ([60, 61], []) iv rv (fun r iv' rv' => r = hoF iv ti))) 0 0 (Aq sz) := by
  refine mk_i (by decide) (Nat.le_of_ble_eq_true rfl) rfl ?_
  intro p e s m args below meth c ls Q H locs C hU hS hl hret
  have hx := C.1.1
  have hb := C.1.2.1
  have hl : lv_has ls 3 [(0, .ref (al.2 49 0)), (1, .ref (al.2 65 ti))] := hl
  have hG0 := hG
  have htk := tk_k hG pre0.1 hti
  have hF1 : FR ([60, 61], []) iv iv := FR.rf
  have hF2 : FR ([60, 61], []) rv rv := FR.rf
  have km9 : ((-9) : Int32).toInt = -9 := by decide
  have k0 : (0 : Int32).toInt = 0 := by decide
  have k9999 : (9999 : Int32).toInt = 9999 := by decide
  refine lv_aload_n hx hb dX11_hoursOf_0 rfl (lv_at hl 0 rfl) ?_
  refine lv_aload_n hx hb dX11_hoursOf_1 rfl (lv_at hl 1 rfl) ?_
  refine q_fi (q_runV (t := 49) (i := 0) (As := [.ref (al.2 65 ti)]) (rest := []) C hU (c_X11_soonestOf_x hG (ti) hti (pre0)) vm_X11_soonestOf ml_X11_211 k_49.1 (hc := rfl) rfl (h1_49 hG) hl.1 rfl rfl (Nat.le_of_ble_eq_true rfl) dX11_hoursOf_2 rfl rfl ⟨Nat.le_of_ble_eq_true rfl, Nat.le_of_ble_eq_true rfl⟩ ⟨Nat.le_refl _, Nat.le_refl _⟩) hS (fun x_6 iv_2 rv_3 H locs hG fa_4 fb_5 hp_1 hU hS => ?_)
  have hF1 := hF1.tr (m := ([60, 61], [])) fa_4 (by decide)
  have hF2 := hF2.tr (m := ([60, 61], [])) fb_5 (by decide)
  refine lv_istore_n (lv' := [(2, .int x_6), (0, .ref (al.2 49 0)), (1, .ref (al.2 65 ti))]) hx hb dX11_hoursOf_5 rfl hl (by decide) rfl (fun ls hl => ?_)
  have hso := hp_1
  have tso := so_neg hso
  refine lv_iload_n hx hb dX11_hoursOf_6 rfl (lv_at hl 0 rfl) ?_
  refine lv_bipush (v := (-9)) hx hb dX11_hoursOf_7 (by decide) ?_
  refine b_icmp_ne (tgt := 18) hx hb dX11_hoursOf_9 (by decide) (fun c_7 => ?_) (fun c_7 => ?_)
  ·
    refine lv_iconst (v := 0) hx hb dX11_hoursOf_18 (by decide) ?_
    refine lv_iload_n hx hb dX11_hoursOf_19 rfl (lv_at hl 0 rfl) ?_
    refine lv_aload_n hx hb dX11_hoursOf_20 rfl (lv_at hl 2 rfl) ?_
    refine g_65_2 C hU hG hti fl_X11_343 dX11_hoursOf_21 (fun j_8 ej_9 hb_10 => ?_)
    have nej_9 : rv 65 ti 2 = some j_8 := (hF2 65 ti 2 (by decide)).symm.trans ej_9
    have hth := sx_last htk nej_9
    have hb21 := hb_10
    refine g_62_6 C hU hG hb_10 fl_X11_365 dX11_hoursOf_24 (fun x_11 e_12 le_12 ue_12 => ?_)
    have te_12 := congrArg Int32.toInt e_12
    have ne_12 : x_11.toInt = (iv 62 j_8 6).toInt := by rw [e_12, hF1 62 j_8 6 (by decide)]
    have h24 := sx_ar hG0 pre0.1 hb21 hth (e_12.trans (hF1 62 _ 6 (by decide)))
    refine lv_isub hx hb dX11_hoursOf_27 ?_
    refine lv_topi (fun x_13 e_14 => ?_)
    refine q_max C hl.1 ml_X11_180 (Nat.le_of_ble_eq_true rfl) (Nat.le_of_ble_eq_true rfl) (Nat.le_refl _) (Nat.le_refl _) dX11_hoursOf_28 (fun x_15 q_16 tq_16 => ?_)
    exact hret (⟨hG, hF1, hF2, by unfold hoF; first | rw [if_pos (by omega)] | rw [if_neg (by omega), q_16, mx0, e_14, h24, hso]⟩) hU hS dX11_hoursOf_31
  ·
    refine lv_sipush (v := 9999) hx hb dX11_hoursOf_12 (by decide) ?_
    refine lv_goto (tgt := 31) hx hb dX11_hoursOf_15 (by decide) ?_
    exact hret (⟨hG, hF1, hF2, by unfold hoF; first | rw [if_pos (by omega)] | rw [if_neg (by omega), True.intro, mx0, True.intro, h24, hso]⟩) hU hS dX11_hoursOf_31
set_option maxHeartbeats 4000000 in
set_option maxRecDepth 100000 in
theorem c_X11_refuseBeyond_x {l : Launch} {D : va_G} {cA : FieldType → ClassId} {sz : Nat} {al : Al} {iv : Iv} {rv : Rv} (hG : GI al iv rv) (num : Int32) (pre0 : -6 ≤ num.toInt ∧ num.toInt ≤ -1) : Met l yX11_refuseBeyond (wd yX11_refuseBeyond cX11_refuseBeyond 2 (some .int)) (rm 2) (PcW D cA sz al iv rv [.ref (al.2 49 0), .int num]) (QI D cA sz al (fI al ([51], []) iv rv (fun r iv' rv' => r = 1000000000 - num))) 0 0 (Aq sz) := by
  refine mk_i (by decide) (Nat.le_of_ble_eq_true rfl) rfl ?_
  intro p e s m args below meth c ls Q H locs C hU hS hl hret
  have hx := C.1.1
  have hb := C.1.2.1
  have hl : lv_has ls 2 [(0, .ref (al.2 49 0)), (1, .int num)] := hl
  have hG0 := hG
  have hF1 : FR ([51], []) iv iv := FR.rf
  have hF2 : FR ([51], []) rv rv := FR.rf
  have k1000000000 : (1000000000 : Int32).toInt = 1000000000 := by decide
  refine lv_ldcw (v := 1000000000) hx hb C.1.2.2.2.1 (C.1.2.2.2.2 _ ct_X11_335) dX11_refuseBeyond_0 ?_
  refine lv_aload_n hx hb dX11_refuseBeyond_3 rfl (lv_at hl 0 rfl) ?_
  refine lv_iload_n hx hb dX11_refuseBeyond_4 rfl (lv_at hl 1 rfl) ?_
  refine q_fi (q_runV (t := 49) (i := 0) (As := [.int num]) (rest := [.int 1000000000]) C hU (c_X11_refuse hG num (by omega)) vm_X11_refuse ml_X11_77 k_49.1 (hc := rfl) rfl (h1_49 hG) hl.1 rfl rfl (Nat.le_of_ble_eq_true rfl) dX11_refuseBeyond_5 rfl rfl ⟨Nat.le_of_ble_eq_true rfl, Nat.le_of_ble_eq_true rfl⟩ ⟨Nat.le_refl _, Nat.le_refl _⟩) hS (fun x_6 iv_2 rv_3 H locs hG fa_4 fb_5 hp_1 hU hS => ?_)
  have hF1 := hF1.tr (m := ([51], [])) fa_4 (by decide)
  have hF2 := hF2.tr (m := ([51], [])) fb_5 (by decide)
  refine lv_isub hx hb dX11_refuseBeyond_8 ?_
  refine lv_topi (fun x_7 e_8 => ?_)
  exact hret (⟨hG, hF1, hF2, by have z := hp_1; simp only [e_8, z]⟩) hU hS dX11_refuseBeyond_9
