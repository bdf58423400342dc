set_option maxHeartbeats 4000000 in
set_option maxRecDepth 100000 in
theorem c_X11_waitOf {l : Launch} {D : va_G} {cA : FieldType → ClassId} {sz : Nat} {al : Al} {iv : Iv} {rv : Rv} (hG : GI al iv rv) (li : Nat) (hli : li < al.1 62) (crew : Int32) : Met l yX11_waitOf (wd yX11_waitOf cX11_waitOf 4 (some .int)) (rm 2) (PcW D cA sz al iv rv [.ref (al.2 49 0), .ref (al.2 62 li), .int crew]) (QI D cA sz al (pI iv rv (fun r => True))) 0 0 (Aq sz) := by
  refine mk_i (by decide) (Nat.le_of_ble_eq_true rfl) rfl ?_
  intro p e s m args below meth c ls Q H locs C hU hS hl hret
  have hx := C.1.1
  have hb := C.1.2.1
  have hl : lv_has ls 4 [(0, .ref (al.2 49 0)), (1, .ref (al.2 62 li)), (2, .int crew)] := hl
  have hG0 := hG
  refine lv_aload_n hx hb dX11_waitOf_0 rfl (lv_at hl 0 rfl) ?_
  refine lv_iload_n hx hb dX11_waitOf_1 rfl (lv_at hl 2 rfl) ?_
  refine q_pi (q_runV (t := 49) (i := 0) (As := [.int crew]) (rest := []) C hU (c_X11_gapFor hG crew ) vm_X11_gapFor ml_X11_159 k_49.1 (hc := rfl) rfl (h1_49 hG) hl.1 rfl rfl (Nat.le_of_ble_eq_true rfl) dX11_waitOf_2 rfl rfl ⟨Nat.le_of_ble_eq_true rfl, Nat.le_of_ble_eq_true rfl⟩ ⟨Nat.le_refl _, Nat.le_refl _⟩) hS (fun x_2 H locs hp_1 hU hS => ?_)
  refine lv_istore_n (lv' := [(3, .int x_2), (0, .ref (al.2 49 0)), (1, .ref (al.2 62 li)), (2, .int crew)]) hx hb dX11_waitOf_5 rfl hl (by decide) rfl (fun ls hl => ?_)
  refine lv_aload_n hx hb dX11_waitOf_6 rfl (lv_at hl 2 rfl) ?_
  refine lv_aload_n hx hb dX11_waitOf_7 rfl (lv_at hl 1 rfl) ?_
  refine g_49_1 C hU hG (h1_49 hG) fl_X11_19 dX11_waitOf_8 ?_
  refine lv_aload_n hx hb dX11_waitOf_11 rfl (lv_at hl 2 rfl) ?_
  refine lv_iload_n hx hb dX11_waitOf_12 rfl (lv_at hl 3 rfl) ?_
  refine lv_iload_n hx hb dX11_waitOf_13 rfl (lv_at hl 0 rfl) ?_
  refine q_pr (q_runV (t := 57) (i := 0) (As := [.ref (al.2 62 li), .int crew, .int x_2]) (rest := [.ref (al.2 62 li)]) C hU (c_X10_aheadOf hG (li) hli crew x_2 ) vm_X10_aheadOf ml_X11_163 k_57.1 (hc := rfl) rfl (h1_57 hG) hl.1 rfl rfl (Nat.le_of_ble_eq_true rfl) dX11_waitOf_14 rfl rfl ⟨Nat.le_of_ble_eq_true rfl, Nat.le_of_ble_eq_true rfl⟩ ⟨Nat.le_refl _, Nat.le_refl _⟩) hS (fun r_4 H locs hp_3 hU hS => ?_)
  have hb_5 := hp_3.1
  refine lv_iload_n hx hb dX11_waitOf_17 rfl (lv_at hl 0 rfl) ?_
  refine q_pi (q_runV (t := 62) (i := li) (As := [rfv al 62 r_4, .int x_2]) (rest := []) C hU (c_X5_waitFor hG (li) hli r_4 hb_5 x_2 ) vm_X5_waitFor ml_X11_336 k_62.1 (hc := rfl) rfl hli hl.1 rfl rfl (Nat.le_of_ble_eq_true rfl) dX11_waitOf_18 rfl rfl ⟨Nat.le_of_ble_eq_true rfl, Nat.le_of_ble_eq_true rfl⟩ ⟨Nat.le_refl _, Nat.le_refl _⟩) hS (fun x_7 H locs hp_6 hU hS => ?_)
  exact hret (⟨rfl, rfl, trivial⟩) hU hS dX11_waitOf_21
set_option maxHeartbeats 4000000 in
set_option maxRecDepth 100000 in
theorem c_X11_handedTo {l : Launch} {D : va_G} {cA : FieldType → ClassId} {sz : Nat} {al : Al} {iv : Iv} {rv : Rv} (hG : GI al iv rv) (li : Nat) (hli : li < al.1 62) : Met l yX11_handedTo (wd yX11_handedTo cX11_handedTo 2 (some .int)) (rm 3) (PcW D cA sz al iv rv [.ref (al.2 49 0), .ref (al.2 62 li)]) (QI D cA sz al (pI iv rv (fun r => True))) 0 0 (Aq sz) := by
  refine mk_i (by decide) (Nat.le_of_ble_eq_true rfl) rfl ?_
  intro p e s m args below meth c ls Q H locs C hU hS hl hret
  have hx := C.1.1
  have hb := C.1.2.1
  have hl : lv_has ls 2 [(0, .ref (al.2 49 0)), (1, .ref (al.2 62 li))] := hl
  have hG0 := hG
  have k0 : (0 : Int32).toInt = 0 := by decide
  have k1 : (1 : Int32).toInt = 1 := by decide
  refine lv_aload_n hx hb dX11_handedTo_0 rfl (lv_at hl 1 rfl) ?_
  refine g_62_13 C hU hG hli fl_X11_145 dX11_handedTo_1 (fun x_1 e_2 => ?_)
  have te_2 := congrArg Int32.toInt e_2
  refine lv_aload_n hx hb dX11_handedTo_4 rfl (lv_at hl 0 rfl) ?_
  refine lv_aload_n hx hb dX11_handedTo_5 rfl (lv_at hl 1 rfl) ?_
  refine lv_iconst (v := 0) hx hb dX11_handedTo_6 (by decide) ?_
  refine q_pi (q_runV (t := 49) (i := 0) (As := [.ref (al.2 62 li), .int 0]) (rest := [.int x_1]) C hU (c_X11_waitOf hG (li) hli 0 ) vm_X11_waitOf ml_X11_151 k_49.1 (hc := rfl) rfl (h1_49 hG) hl.1 rfl rfl (Nat.le_of_ble_eq_true rfl) dX11_handedTo_7 rfl rfl ⟨Nat.le_of_ble_eq_true rfl, Nat.le_of_ble_eq_true rfl⟩ ⟨Nat.le_refl _, Nat.le_refl _⟩) hS (fun x_4 H locs hp_3 hU hS => ?_)
  refine lv_aload_n hx hb dX11_handedTo_10 rfl (lv_at hl 0 rfl) ?_
  refine lv_aload_n hx hb dX11_handedTo_11 rfl (lv_at hl 1 rfl) ?_
  refine lv_iconst (v := 1) hx hb dX11_handedTo_12 (by decide) ?_
  refine q_pi (q_runV (t := 49) (i := 0) (As := [.ref (al.2 62 li), .int 1]) (rest := [.int x_4, .int x_1]) C hU (c_X11_waitOf hG (li) hli 1 ) vm_X11_waitOf ml_X11_151 k_49.1 (hc := rfl) rfl (h1_49 hG) hl.1 rfl rfl (Nat.le_of_ble_eq_true rfl) dX11_handedTo_13 rfl rfl ⟨Nat.le_of_ble_eq_true rfl, Nat.le_of_ble_eq_true rfl⟩ ⟨Nat.le_refl _, Nat.le_refl _⟩) hS (fun x_6 H locs hp_5 hU hS => ?_)
  refine q_max C hl.1 ml_X11_180 (Nat.le_of_ble_eq_true rfl) (Nat.le_of_ble_eq_true rfl) (Nat.le_refl _) (Nat.le_refl _) dX11_handedTo_16 (fun x_7 q_8 tq_8 => ?_)
  refine q_min C hl.1 ml_X11_340 (Nat.le_of_ble_eq_true rfl) (Nat.le_of_ble_eq_true rfl) (Nat.le_refl _) (Nat.le_refl _) dX11_handedTo_19 (fun x_9 q_10 tq_10 => ?_)
  exact hret (⟨rfl, rfl, trivial⟩) hU hS dX11_handedTo_22
set_option maxHeartbeats 4000000 in
set_option maxRecDepth 100000 in
theorem c_X11_soonestOf {l : Launch} {D : va_G} {cA : FieldType → ClassId} {sz : Nat} {al : Al} {iv : Iv} {rv : Rv} (hG : GI al iv rv) (ti : Nat) (hti : ti < al.1 65) : Met l yX11_soonestOf (wd yX11_soonestOf cX11_soonestOf 6 (some .int)) (rm 2) (PcW D cA sz al iv rv [.ref (al.2 49 0), .ref (al.2 65 ti)]) (QI D cA sz al (fI al ([60, 61], []) iv rv (fun r iv' rv' => True))) 0 0 (Aq sz) := by
  refine mk_i (by decide) (Nat.le_of_ble_eq_true rfl) rfl ?_
  intro p e s m args below meth c ls Q H locs C hU hS hl hret
  have hx := C.1.1
  have hb := C.1.2.1
  have hl : lv_has ls 6 [(0, .ref (al.2 49 0)), (1, .ref (al.2 65 ti))] := hl
  have hG0 := hG
  have hF1 : FR ([60, 61], []) iv iv := FR.rf
  have hF2 : FR ([60, 61], []) rv rv := FR.rf
  have km9 : ((-9) : Int32).toInt = -9 := by decide
  have k1 : (1 : Int32).toInt = 1 := by decide
  have k2 : (2 : Int32).toInt = 2 := by decide
  refine lv_aload_n hx hb dX11_soonestOf_0 rfl (lv_at hl 0 rfl) ?_
  refine g_49_7 C hU hG (h1_49 hG) fl_X11_67 dX11_soonestOf_1 ?_
  refine lv_iconst (v := 2) hx hb dX11_soonestOf_4 (by decide) ?_
  refine a_50 C hU hG (h1_50 hG) (x := 2) (by omega) (by omega) dX11_soonestOf_5 (fun x_1 e_2 le_2 ue_2 => ?_)
  have te_2 := congrArg Int32.toInt e_2
  refine lv_istore_n (lv' := [(2, .int x_1), (0, .ref (al.2 49 0)), (1, .ref (al.2 65 ti))]) hx hb dX11_soonestOf_6 rfl hl (by decide) rfl (fun ls hl => ?_)
  refine lv_aload_n hx hb dX11_soonestOf_7 rfl (lv_at hl 2 rfl) ?_
  refine lv_iload_n hx hb dX11_soonestOf_8 rfl (lv_at hl 0 rfl) ?_
  refine q_pi (q_runV (t := 65) (i := ti) (As := [.int x_1]) (rest := []) C hU (c_X8_missedPlace hG (ti) hti x_1 ) vm_X8_missedPlace ml_X11_208 k_65.1 (hc := rfl) rfl hti hl.1 rfl rfl (Nat.le_of_ble_eq_true rfl) dX11_soonestOf_9 rfl rfl ⟨Nat.le_of_ble_eq_true rfl, Nat.le_of_ble_eq_true rfl⟩ ⟨Nat.le_refl _, Nat.le_refl _⟩) hS (fun x_4 H locs hp_3 hU hS => ?_)
  refine lv_istore_n (lv' := [(3, .int x_4), (2, .int x_1), (0, .ref (al.2 49 0)), (1, .ref (al.2 65 ti))]) hx hb dX11_soonestOf_12 rfl hl (by decide) rfl (fun ls hl => ?_)
  refine lv_iload_n hx hb dX11_soonestOf_13 rfl (lv_at hl 0 rfl) ?_
  refine lv_bipush (v := (-9)) hx hb dX11_soonestOf_14 (by decide) ?_
  refine b_icmp_ne (tgt := 27) hx hb dX11_soonestOf_16 (by decide) (fun c_5 => ?_) (fun c_5 => ?_)
  ·
    refine lv_aload_n hx hb dX11_soonestOf_27 rfl (lv_at hl 3 rfl) ?_
    refine g_65_3 C hU hG hti fl_X11_350 dX11_soonestOf_28 (fun hb_6 => ?_)
    refine lv_iload_n hx hb dX11_soonestOf_31 rfl (lv_at hl 0 rfl) ?_
    refine a_66 C hU hG hb_6 (x := x_4) (by omega) (by omega) dX11_soonestOf_32 (fun r_7 er_8 hb_9 => ?_)
    obtain ⟨j_10, ej_11⟩ : ∃ j, r_7 = some j := (tleg hG hti (by omega) (by omega)).imp (fun _ h => er_8.trans h)
    subst ej_11
    have hl : lv_has ls 6 [(3, .int x_4), (2, .int x_1), (0, .ref (al.2 49 0)), (1, .ref (al.2 65 ti))] := hl
    have hb_12 : j_10 < al.1 62 := hb_9 j_10 rfl
    refine lv_astore (lv' := [(4, .ref (al.2 62 j_10)), (3, .int x_4), (2, .int x_1), (0, .ref (al.2 49 0)), (1, .ref (al.2 65 ti))]) hx hb dX11_soonestOf_33 hl (by decide) rfl (fun ls hl => ?_)
    refine lv_iload_n hx hb dX11_soonestOf_35 rfl (lv_at hl 1 rfl) ?_
    have J_58 : ∀ (v_13 : Int32) (ls : Array Slot), lv_has ls 6 [(0, .ref (al.2 49 0)), (1, .ref (al.2 65 ti)), (2, .int x_1), (4, .ref (al.2 62 j_10))] → W p l e (rm 2) s m args below meth c H locs 0 0 Q (F0 m 58 ls [.int v_13]) := by
      intro v_13 ls hl
      refine lv_istore (lv' := [(5, .int v_13), (0, .ref (al.2 49 0)), (1, .ref (al.2 65 ti)), (2, .int x_1), (4, .ref (al.2 62 j_10))]) hx hb dX11_soonestOf_58 hl (by decide) rfl (fun ls hl => ?_)
      refine lv_aload_n hx hb dX11_soonestOf_60 rfl (lv_at hl 1 rfl) ?_
      refine g_49_1 C hU hG (h1_49 hG) fl_X11_19 dX11_soonestOf_61 ?_
      refine lv_aload hx hb dX11_soonestOf_64 (lv_at hl 4 rfl) ?_
      refine g_62_1 C hU hG hb_12 fl_X11_354 dX11_soonestOf_66 (fun j_14 ej_15 hb_16 => ?_)
      refine lv_iload hx hb dX11_soonestOf_69 (lv_at hl 0 rfl) ?_
      refine lv_aload_n hx hb dX11_soonestOf_71 rfl (lv_at hl 2 rfl) ?_
      refine g_65_2 C hU hG hti fl_X11_343 dX11_soonestOf_72 (fun j_17 ej_18 hb_19 => ?_)
      refine g_62_2 C hU hG hb_19 fl_X11_358 dX11_soonestOf_75 (fun j_20 ej_21 hb_22 => ?_)
      refine lv_iload_n hx hb dX11_soonestOf_78 rfl (lv_at hl 3 rfl) ?_
      refine q_fi (q_runV (t := 57) (i := 0) (As := [.ref (al.2 56 j_14), .int v_13, .ref (al.2 56 j_20), .int x_1]) (rest := []) C hU (c_X10_soonestBy hG (j_14) hb_16 v_13 (j_20) hb_22 x_1 ) vm_X10_soonestBy ml_X11_361 k_57.1 (hc := rfl) rfl (h1_57 hG) hl.1 rfl rfl (Nat.le_of_ble_eq_true rfl) dX11_soonestOf_79 rfl rfl ⟨Nat.le_of_ble_eq_true rfl, Nat.le_of_ble_eq_true rfl⟩ ⟨Nat.le_refl _, Nat.le_refl _⟩) hS (fun x_28 iv_24 rv_25 H locs hG fa_26 fb_27 hp_23 hU hS => ?_)
      have hF1 := hF1.tr (m := ([60, 61], [])) fa_26 (by decide)
      have hF2 := hF2.tr (m := ([60, 61], [])) fb_27 (by decide)
      exact hret (⟨hG, hF1, hF2, trivial⟩) hU hS dX11_soonestOf_82
    refine b_if_ne (tgt := 47) hx hb dX11_soonestOf_36 (by decide) (fun c_29 => ?_) (fun c_29 => ?_)
    ·
      refine lv_aload_n hx hb dX11_soonestOf_47 rfl (lv_at hl 4 rfl) ?_
      refine g_65_3 C hU hG hti fl_X11_350 dX11_soonestOf_48 (fun hb_30 => ?_)
      refine lv_iload_n hx hb dX11_soonestOf_51 rfl (lv_at hl 1 rfl) ?_
      refine lv_iconst (v := 1) hx hb dX11_soonestOf_52 (by decide) ?_
      refine lv_isub hx hb dX11_soonestOf_53 ?_
      refine lv_topi (fun x_31 e_32 => ?_)
      have te_32 : x_31.toInt = (x_4 : Int32).toInt - (1 : Int32).toInt := by rw [e_32]; exact fb_subI (by omega) (by omega)
      refine a_66 C hU hG hb_30 (x := x_31) (by omega) (by omega) dX11_soonestOf_54 (fun r_33 er_34 hb_35 => ?_)
      obtain ⟨j_36, ej_37⟩ : ∃ j, r_33 = some j := (tleg hG hti (by omega) (by omega)).imp (fun _ h => er_34.trans h)
      subst ej_37
      have hl : lv_has ls 6 [(4, .ref (al.2 62 j_10)), (3, .int x_4), (2, .int x_1), (0, .ref (al.2 49 0)), (1, .ref (al.2 65 ti))] := hl
      have hb_38 : j_36 < al.1 62 := hb_35 j_36 rfl
      refine g_62_11 C hU hG hb_38 fl_X11_347 dX11_soonestOf_55 (fun x_39 e_40 => ?_)
      have te_40 := congrArg Int32.toInt e_40
      exact J_58 x_39 _ (lv_sub hl [3, 4, 2, 0] rfl)
    ·
      refine lv_aload hx hb dX11_soonestOf_39 (lv_at hl 0 rfl) ?_
      refine g_62_5 C hU hG hb_12 fl_X11_177 dX11_soonestOf_41 (fun x_41 e_42 le_42 ue_42 => ?_)
      have te_42 := congrArg Int32.toInt e_42
      refine lv_goto (tgt := 58) hx hb dX11_soonestOf_44 (by decide) ?_
      exact J_58 x_41 _ (lv_sub hl [3, 4, 2, 0] rfl)
  ·
    refine lv_aload_n hx hb dX11_soonestOf_19 rfl (lv_at hl 3 rfl) ?_
    refine g_65_2 C hU hG hti fl_X11_343 dX11_soonestOf_20 (fun j_43 ej_44 hb_45 => ?_)
    refine g_62_11 C hU hG hb_45 fl_X11_347 dX11_soonestOf_23 (fun x_46 e_47 => ?_)
    have te_47 := congrArg Int32.toInt e_47
    exact hret (⟨hG, hF1, hF2, trivial⟩) hU hS dX11_soonestOf_26
set_option maxHeartbeats 4000000 in
set_option maxRecDepth 100000 in
theorem c_X11_hoursOf {l : Launch} {D : va_G} {cA : FieldType → ClassId} {sz : Nat} {al : Al} {iv : Iv} {rv : Rv} (hG : GI al iv rv) (ti : Nat) (hti : ti < al.1 65) : Met l yX11_hoursOf (wd yX11_hoursOf cX11_hoursOf 3 (some .int)) (rm 3) (PcW D cA sz al iv rv [.ref (al.2 49 0), .ref (al.2 65 ti)]) (QI D cA sz al (fI al ([60, 61], []) iv rv (fun r iv' rv' => True))) 0 0 (Aq sz) := by
  refine mk_i (by decide) (Nat.le_of_ble_eq_true rfl) rfl ?_
  intro p e s m args below meth c ls Q H locs C hU hS hl hret
  have hx := C.1.1
  have hb := C.1.2.1
  have hl : lv_has ls 3 [(0, .ref (al.2 49 0)), (1, .ref (al.2 65 ti))] := hl
  have hG0 := hG
  have hF1 : FR ([60, 61], []) iv iv := FR.rf
  have hF2 : FR ([60, 61], []) rv rv := FR.rf
  have km9 : ((-9) : Int32).toInt = -9 := by decide
  have k0 : (0 : Int32).toInt = 0 := by decide
  have k9999 : (9999 : Int32).toInt = 9999 := by decide
  refine lv_aload_n hx hb dX11_hoursOf_0 rfl (lv_at hl 0 rfl) ?_
  refine lv_aload_n hx hb dX11_hoursOf_1 rfl (lv_at hl 1 rfl) ?_
  refine q_fi (q_runV (t := 49) (i := 0) (As := [.ref (al.2 65 ti)]) (rest := []) C hU (c_X11_soonestOf hG (ti) hti ) vm_X11_soonestOf ml_X11_211 k_49.1 (hc := rfl) rfl (h1_49 hG) hl.1 rfl rfl (Nat.le_of_ble_eq_true rfl) dX11_hoursOf_2 rfl rfl ⟨Nat.le_of_ble_eq_true rfl, Nat.le_of_ble_eq_true rfl⟩ ⟨Nat.le_refl _, Nat.le_refl _⟩) hS (fun x_6 iv_2 rv_3 H locs hG fa_4 fb_5 hp_1 hU hS => ?_)
  have hF1 := hF1.tr (m := ([60, 61], [])) fa_4 (by decide)
  have hF2 := hF2.tr (m := ([60, 61], [])) fb_5 (by decide)
  refine lv_istore_n (lv' := [(2, .int x_6), (0, .ref (al.2 49 0)), (1, .ref (al.2 65 ti))]) hx hb dX11_hoursOf_5 rfl hl (by decide) rfl (fun ls hl => ?_)
  refine lv_iload_n hx hb dX11_hoursOf_6 rfl (lv_at hl 0 rfl) ?_
  refine lv_bipush (v := (-9)) hx hb dX11_hoursOf_7 (by decide) ?_
  refine b_icmp_ne (tgt := 18) hx hb dX11_hoursOf_9 (by decide) (fun c_7 => ?_) (fun c_7 => ?_)
  ·
    refine lv_iconst (v := 0) hx hb dX11_hoursOf_18 (by decide) ?_
    refine lv_iload_n hx hb dX11_hoursOf_19 rfl (lv_at hl 0 rfl) ?_
    refine lv_aload_n hx hb dX11_hoursOf_20 rfl (lv_at hl 2 rfl) ?_
    refine g_65_2 C hU hG hti fl_X11_343 dX11_hoursOf_21 (fun j_8 ej_9 hb_10 => ?_)
    have nej_9 : rv 65 ti 2 = some j_8 := (hF2 65 ti 2 (by decide)).symm.trans ej_9
    refine g_62_6 C hU hG hb_10 fl_X11_365 dX11_hoursOf_24 (fun x_11 e_12 le_12 ue_12 => ?_)
    have te_12 := congrArg Int32.toInt e_12
    have ne_12 : x_11.toInt = (iv 62 j_8 6).toInt := by rw [e_12, hF1 62 j_8 6 (by decide)]
    refine lv_isub hx hb dX11_hoursOf_27 ?_
    refine lv_topi (fun x_13 e_14 => ?_)
    refine q_max C hl.1 ml_X11_180 (Nat.le_of_ble_eq_true rfl) (Nat.le_of_ble_eq_true rfl) (Nat.le_refl _) (Nat.le_refl _) dX11_hoursOf_28 (fun x_15 q_16 tq_16 => ?_)
    exact hret (⟨hG, hF1, hF2, trivial⟩) hU hS dX11_hoursOf_31
  ·
    refine lv_sipush (v := 9999) hx hb dX11_hoursOf_12 (by decide) ?_
    refine lv_goto (tgt := 31) hx hb dX11_hoursOf_15 (by decide) ?_
    exact hret (⟨hG, hF1, hF2, trivial⟩) hU hS dX11_hoursOf_31
set_option maxHeartbeats 4000000 in
set_option maxRecDepth 100000 in
theorem c_X11_blameOf {l : Launch} {D : va_G} {cA : FieldType → ClassId} {sz : Nat} {al : Al} {iv : Iv} {rv : Rv} (hG : GI al iv rv) (ti : Nat) (hti : ti < al.1 65) : Met l yX11_blameOf (wd yX11_blameOf cX11_blameOf 3 (some .int)) (rm 3) (PcW D cA sz al iv rv [.ref (al.2 49 0), .ref (al.2 65 ti)]) (QI D cA sz al (fI al ([59], []) iv rv (fun r iv' rv' => True))) 0 0 (Aq sz) := by
  refine mk_i (by decide) (Nat.le_of_ble_eq_true rfl) rfl ?_
  intro p e s m args below meth c ls Q H locs C hU hS hl hret
  have hx := C.1.1
  have hb := C.1.2.1
  have hl : lv_has ls 3 [(0, .ref (al.2 49 0)), (1, .ref (al.2 65 ti))] := hl
  have hG0 := hG
  have hF1 : FR ([59], []) iv iv := FR.rf
  have hF2 : FR ([59], []) rv rv := FR.rf
  have km9 : ((-9) : Int32).toInt = -9 := by decide
  have k0 : (0 : Int32).toInt = 0 := by decide
  have k1 : (1 : Int32).toInt = 1 := by decide
  have k2 : (2 : Int32).toInt = 2 := by decide
  refine lv_aload_n hx hb dX11_blameOf_0 rfl (lv_at hl 1 rfl) ?_
  refine lv_aload_n hx hb dX11_blameOf_1 rfl (lv_at hl 0 rfl) ?_
  refine g_49_7 C hU hG (h1_49 hG) fl_X11_67 dX11_blameOf_2 ?_
  refine lv_iconst (v := 2) hx hb dX11_blameOf_5 (by decide) ?_
  refine a_50 C hU hG (h1_50 hG) (x := 2) (by omega) (by omega) dX11_blameOf_6 (fun x_1 e_2 le_2 ue_2 => ?_)
  have te_2 := congrArg Int32.toInt e_2
  refine q_pr (q_runV (t := 65) (i := ti) (As := [.int x_1]) (rest := []) C hU (c_X8_legAtFault hG (ti) hti x_1 ) vm_X8_legAtFault ml_X11_368 k_65.1 (hc := rfl) rfl hti hl.1 rfl rfl (Nat.le_of_ble_eq_true rfl) dX11_blameOf_7 rfl rfl ⟨Nat.le_of_ble_eq_true rfl, Nat.le_of_ble_eq_true rfl⟩ ⟨Nat.le_refl _, Nat.le_refl _⟩) hS (fun r_4 H locs hp_3 hU hS => ?_)
  obtain ⟨⟨j_5, ej_6, hb_7⟩, hp_3⟩ := hp_3
  subst ej_6
  refine lv_astore_n (lv' := [(2, .ref (al.2 62 j_5)), (0, .ref (al.2 49 0)), (1, .ref (al.2 65 ti))]) hx hb dX11_blameOf_10 rfl hl (by decide) rfl (fun ls hl => ?_)
  refine lv_aload_n hx hb dX11_blameOf_11 rfl (lv_at hl 0 rfl) ?_
  refine g_62_7 C hU hG hb_7 fl_X11_126 dX11_blameOf_12 (fun x_8 e_9 le_9 ue_9 => ?_)
  have te_9 := congrArg Int32.toInt e_9
  refine b_if_eq (tgt := 25) hx hb dX11_blameOf_15 (by decide) (fun c_10 => ?_) (fun c_10 => ?_)
  ·
    refine lv_bipush (v := (-9)) hx hb dX11_blameOf_25 (by decide) ?_
    exact hret (⟨hG, hF1, hF2, trivial⟩) hU hS dX11_blameOf_27
  ·
    refine lv_aload_n hx hb dX11_blameOf_18 rfl (lv_at hl 0 rfl) ?_
    refine g_62_13 C hU hG hb_7 fl_X11_145 dX11_blameOf_19 (fun x_11 e_12 => ?_)
    have te_12 := congrArg Int32.toInt e_12
    refine b_if_ne (tgt := 28) hx hb dX11_blameOf_22 (by decide) (fun c_13 => ?_) (fun c_13 => ?_)
    ·
      refine lv_aload_n hx hb dX11_blameOf_28 rfl (lv_at hl 1 rfl) ?_
      refine g_49_1 C hU hG (h1_49 hG) fl_X11_19 dX11_blameOf_29 ?_
      refine lv_aload_n hx hb dX11_blameOf_32 rfl (lv_at hl 0 rfl) ?_
      refine lv_aload_n hx hb dX11_blameOf_33 rfl (lv_at hl 1 rfl) ?_
      refine g_49_7 C hU hG (h1_49 hG) fl_X11_67 dX11_blameOf_34 ?_
      refine lv_iconst (v := 0) hx hb dX11_blameOf_37 (by decide) ?_
      refine a_50 C hU hG (h1_50 hG) (x := 0) (by omega) (by omega) dX11_blameOf_38 (fun x_14 e_15 le_15 ue_15 => ?_)
      have te_15 := congrArg Int32.toInt e_15
      refine lv_aload_n hx hb dX11_blameOf_39 rfl (lv_at hl 1 rfl) ?_
      refine g_49_7 C hU hG (h1_49 hG) fl_X11_67 dX11_blameOf_40 ?_
      refine lv_iconst (v := 1) hx hb dX11_blameOf_43 (by decide) ?_
      refine a_50 C hU hG (h1_50 hG) (x := 1) (by omega) (by omega) dX11_blameOf_44 (fun x_16 e_17 le_17 ue_17 => ?_)
      have te_17 := congrArg Int32.toInt e_17
      refine q_fv (q_runV (t := 57) (i := 0) (As := [.ref (al.2 62 j_5), .int x_14, .int x_16]) (rest := []) C hU (c_X10_trace hG (j_5) hb_7 x_14 x_16 ) vm_X10_trace ml_X11_170 k_57.1 (hc := rfl) rfl (h1_57 hG) hl.1 rfl rfl (Nat.le_of_ble_eq_true rfl) dX11_blameOf_45 rfl rfl ⟨Nat.le_of_ble_eq_true rfl, Nat.le_of_ble_eq_true rfl⟩ ⟨Nat.le_refl _, Nat.le_refl _⟩) hS (fun iv_19 rv_20 H locs hG fa_21 fb_22 hp_18 hU hS => ?_)
      have hF1 := hF1.tr (m := ([59], [])) fa_21 (by decide)
      have hF2 := hF2.tr (m := ([59], [])) fb_22 (by decide)
      refine lv_aload_n hx hb dX11_blameOf_48 rfl (lv_at hl 1 rfl) ?_
      refine g_49_1 C hU hG (h1_49 hG) fl_X11_19 dX11_blameOf_49 ?_
      refine q_pi (q_runV (t := 57) (i := 0) (As := []) (rest := []) C hU (c_X10_greatestCause hG  ) vm_X10_greatestCause ml_X11_371 k_57.1 (hc := rfl) rfl (h1_57 hG) hl.1 rfl rfl (Nat.le_of_ble_eq_true rfl) dX11_blameOf_52 rfl rfl ⟨Nat.le_of_ble_eq_true rfl, Nat.le_of_ble_eq_true rfl⟩ ⟨Nat.le_refl _, Nat.le_refl _⟩) hS (fun x_24 H locs hp_23 hU hS => ?_)
      exact hret (⟨hG, hF1, hF2, trivial⟩) hU hS dX11_blameOf_55
    ·
      refine lv_bipush (v := (-9)) hx hb dX11_blameOf_25 (by decide) ?_
      exact hret (⟨hG, hF1, hF2, trivial⟩) hU hS dX11_blameOf_27
set_option maxHeartbeats 4000000 in
set_option maxRecDepth 100000 in
theorem c_X11_milesOf {l : Launch} {D : va_G} {cA : FieldType → ClassId} {sz : Nat} {al : Al} {iv : Iv} {rv : Rv} (hG : GI al iv rv) (ti : Nat) (hti : ti < al.1 65) : Met l yX11_milesOf (wd yX11_milesOf cX11_milesOf 2 (some .int)) (rm 1) (PcW D cA sz al iv rv [.ref (al.2 49 0), .ref (al.2 65 ti)]) (QI D cA sz al (pI iv rv (fun r => True))) 0 0 (Aq sz) := by
  refine mk_i (by decide) (Nat.le_of_ble_eq_true rfl) rfl ?_
  intro p e s m args below meth c ls Q H locs C hU hS hl hret
  have hx := C.1.1
  have hb := C.1.2.1
  have hl : lv_has ls 2 [(0, .ref (al.2 49 0)), (1, .ref (al.2 65 ti))] := hl
  have hG0 := hG
  refine lv_aload_n hx hb dX11_milesOf_0 rfl (lv_at hl 0 rfl) ?_
  refine g_49_0 C hU hG (h1_49 hG) fl_X11_10 dX11_milesOf_1 ?_
  refine lv_aload_n hx hb dX11_milesOf_4 rfl (lv_at hl 1 rfl) ?_
  refine g_65_1 C hU hG hti fl_X11_381 dX11_milesOf_5 (fun j_1 ej_2 hb_3 => ?_)
  refine g_62_1 C hU hG hb_3 fl_X11_354 dX11_milesOf_8 (fun j_4 ej_5 hb_6 => ?_)
  refine lv_aload_n hx hb dX11_milesOf_11 rfl (lv_at hl 1 rfl) ?_
  refine g_65_2 C hU hG hti fl_X11_343 dX11_milesOf_12 (fun j_7 ej_8 hb_9 => ?_)
  refine g_62_2 C hU hG hb_9 fl_X11_358 dX11_milesOf_15 (fun j_10 ej_11 hb_12 => ?_)
  refine q_pi (q_runV (t := 52) (i := 0) (As := [.ref (al.2 56 j_4), .ref (al.2 56 j_10)]) (rest := []) C hU (c_X7_milesBetween hG (j_4) hb_6 (j_10) hb_12 ) vm_X7_milesBetween ml_X11_94 k_52.1 (hc := rfl) rfl (h1_52 hG) hl.1 rfl rfl (Nat.le_of_ble_eq_true rfl) dX11_milesOf_18 rfl rfl ⟨Nat.le_of_ble_eq_true rfl, Nat.le_of_ble_eq_true rfl⟩ ⟨Nat.le_refl _, Nat.le_refl _⟩) hS (fun x_14 H locs hp_13 hU hS => ?_)
  exact hret (⟨rfl, rfl, trivial⟩) hU hS dX11_milesOf_21
set_option maxHeartbeats 4000000 in
set_option maxRecDepth 100000 in
theorem c_X11_sumFor {l : Launch} {D : va_G} {cA : FieldType → ClassId} {sz : Nat} {al : Al} {iv : Iv} {rv : Rv} (hG : GI al iv rv) (ti : Nat) (hti : ti < al.1 65) (d : Int32) : Met l yX11_sumFor (wd yX11_sumFor cX11_sumFor 4 (some .int)) (rm 4) (PcW D cA sz al iv rv [.ref (al.2 49 0), .ref (al.2 65 ti), .int d]) (QI D cA sz al (fI al ([59, 60, 61], []) iv rv (fun r iv' rv' => True))) 0 0 (Aq sz) := by
  refine mk_i (by decide) (Nat.le_of_ble_eq_true rfl) rfl ?_
  intro p e s m args below meth c ls Q H locs C hU hS hl hret
  have hx := C.1.1
  have hb := C.1.2.1
  have hl : lv_has ls 4 [(0, .ref (al.2 49 0)), (1, .ref (al.2 65 ti)), (2, .int d)] := hl
  have hG0 := hG
  have hF1 : FR ([59, 60, 61], []) iv iv := FR.rf
  have hF2 : FR ([59, 60, 61], []) rv rv := FR.rf
  have km9 : ((-9) : Int32).toInt = -9 := by decide
  have k0 : (0 : Int32).toInt = 0 := by decide
  refine lv_aload_n hx hb dX11_sumFor_0 rfl (lv_at hl 0 rfl) ?_
  refine g_49_3 C hU hG (h1_49 hG) fl_X11_33 dX11_sumFor_1 ?_
  refine lv_aload_n hx hb dX11_sumFor_4 rfl (lv_at hl 1 rfl) ?_
  refine lv_iload_n hx hb dX11_sumFor_5 rfl (lv_at hl 2 rfl) ?_
  refine q_pi (q_runV (t := 68) (i := 0) (As := [.ref (al.2 65 ti), .int d]) (rest := []) C hU (c_X4_landFor hG (ti) hti d ) vm_X4_landFor ml_X11_236 k_68.1 (hc := rfl) rfl (h1_68 hG) hl.1 rfl rfl (Nat.le_of_ble_eq_true rfl) dX11_sumFor_6 rfl rfl ⟨Nat.le_of_ble_eq_true rfl, Nat.le_of_ble_eq_true rfl⟩ ⟨Nat.le_refl _, Nat.le_refl _⟩) hS (fun x_2 H locs hp_1 hU hS => ?_)
  refine lv_istore_n (lv' := [(3, .int x_2), (0, .ref (al.2 49 0)), (1, .ref (al.2 65 ti)), (2, .int d)]) hx hb dX11_sumFor_9 rfl hl (by decide) rfl (fun ls hl => ?_)
  refine lv_iload_n hx hb dX11_sumFor_10 rfl (lv_at hl 0 rfl) ?_
  refine lv_bipush (v := (-9)) hx hb dX11_sumFor_11 (by decide) ?_
  refine b_icmp_eq (tgt := 36) hx hb dX11_sumFor_13 (by decide) (fun c_3 => ?_) (fun c_3 => ?_)
  ·
    refine lv_iconst (v := 0) hx hb dX11_sumFor_36 (by decide) ?_
    exact hret (⟨hG, hF1, hF2, trivial⟩) hU hS dX11_sumFor_37
  ·
    refine lv_aload_n hx hb dX11_sumFor_16 rfl (lv_at hl 1 rfl) ?_
    refine g_49_3 C hU hG (h1_49 hG) fl_X11_33 dX11_sumFor_17 ?_
    refine lv_iload_n hx hb dX11_sumFor_20 rfl (lv_at hl 0 rfl) ?_
    refine lv_aload_n hx hb dX11_sumFor_21 rfl (lv_at hl 1 rfl) ?_
    refine lv_aload_n hx hb dX11_sumFor_22 rfl (lv_at hl 2 rfl) ?_
    refine q_fi (q_runV (t := 49) (i := 0) (As := [.ref (al.2 65 ti)]) (rest := [.int x_2, .ref (al.2 68 0)]) C hU (c_X11_blameOf hG (ti) hti ) vm_X11_blameOf ml_X11_218 k_49.1 (hc := rfl) rfl (h1_49 hG) hl.1 rfl rfl (Nat.le_of_ble_eq_true rfl) dX11_sumFor_23 rfl rfl ⟨Nat.le_of_ble_eq_true rfl, Nat.le_of_ble_eq_true rfl⟩ ⟨Nat.le_refl _, Nat.le_refl _⟩) hS (fun x_9 iv_5 rv_6 H locs hG fa_7 fb_8 hp_4 hU hS => ?_)
    have hF1 := hF1.tr (m := ([59, 60, 61], [])) fa_7 (by decide)
    have hF2 := hF2.tr (m := ([59, 60, 61], [])) fb_8 (by decide)
    refine lv_aload_n hx hb dX11_sumFor_26 rfl (lv_at hl 2 rfl) ?_
    refine q_pi (q_runV (t := 65) (i := ti) (As := []) (rest := [.int x_9, .int x_2, .ref (al.2 68 0)]) C hU (c_X8_leaveDay hG (ti) hti ) vm_X8_leaveDay ml_X11_239 k_65.1 (hc := rfl) rfl hti hl.1 rfl rfl (Nat.le_of_ble_eq_true rfl) dX11_sumFor_27 rfl rfl ⟨Nat.le_of_ble_eq_true rfl, Nat.le_of_ble_eq_true rfl⟩ ⟨Nat.le_refl _, Nat.le_refl _⟩) hS (fun x_11 H locs hp_10 hU hS => ?_)
    refine q_pi (q_runV (t := 68) (i := 0) (As := [.int x_2, .int x_9, .int x_11]) (rest := []) C hU (c_X4_isExcused hG x_2 x_9 x_11 ) vm_X4_isExcused ml_X11_243 k_68.1 (hc := rfl) rfl (h1_68 hG) hl.1 rfl rfl (Nat.le_of_ble_eq_true rfl) dX11_sumFor_30 rfl rfl ⟨Nat.le_of_ble_eq_true rfl, Nat.le_of_ble_eq_true rfl⟩ ⟨Nat.le_refl _, Nat.le_refl _⟩) hS (fun x_13 H locs hp_12 hU hS => ?_)
    refine b_if_eq (tgt := 38) hx hb dX11_sumFor_33 (by decide) (fun c_14 => ?_) (fun c_14 => ?_)
    ·
      refine lv_aload_n hx hb dX11_sumFor_38 rfl (lv_at hl 1 rfl) ?_
      refine g_49_3 C hU hG (h1_49 hG) fl_X11_33 dX11_sumFor_39 ?_
      refine lv_iload_n hx hb dX11_sumFor_42 rfl (lv_at hl 0 rfl) ?_
      refine lv_iload_n hx hb dX11_sumFor_43 rfl (lv_at hl 3 rfl) ?_
      refine lv_aload_n hx hb dX11_sumFor_44 rfl (lv_at hl 1 rfl) ?_
      refine lv_aload_n hx hb dX11_sumFor_45 rfl (lv_at hl 2 rfl) ?_
      refine q_fi (q_runV (t := 49) (i := 0) (As := [.ref (al.2 65 ti)]) (rest := [.int d, .int x_2, .ref (al.2 68 0)]) C hU (c_X11_hoursOf hG (ti) hti ) vm_X11_hoursOf ml_X11_215 k_49.1 (hc := rfl) rfl (h1_49 hG) hl.1 rfl rfl (Nat.le_of_ble_eq_true rfl) dX11_sumFor_46 rfl rfl ⟨Nat.le_of_ble_eq_true rfl, Nat.le_of_ble_eq_true rfl⟩ ⟨Nat.le_refl _, Nat.le_refl _⟩) hS (fun x_20 iv_16 rv_17 H locs hG fa_18 fb_19 hp_15 hU hS => ?_)
      have hF1 := hF1.tr (m := ([59, 60, 61], [])) fa_18 (by decide)
      have hF2 := hF2.tr (m := ([59, 60, 61], [])) fb_19 (by decide)
      refine lv_aload_n hx hb dX11_sumFor_49 rfl (lv_at hl 1 rfl) ?_
      refine lv_aload_n hx hb dX11_sumFor_50 rfl (lv_at hl 2 rfl) ?_
      refine q_pi (q_runV (t := 49) (i := 0) (As := [.ref (al.2 65 ti)]) (rest := [.int x_20, .int d, .int x_2, .ref (al.2 68 0)]) C hU (c_X11_milesOf hG (ti) hti ) vm_X11_milesOf ml_X11_374 k_49.1 (hc := rfl) rfl (h1_49 hG) hl.1 rfl rfl (Nat.le_of_ble_eq_true rfl) dX11_sumFor_51 rfl rfl ⟨Nat.le_of_ble_eq_true rfl, Nat.le_of_ble_eq_true rfl⟩ ⟨Nat.le_refl _, Nat.le_refl _⟩) hS (fun x_22 H locs hp_21 hU hS => ?_)
      refine q_pi (q_runV (t := 68) (i := 0) (As := [.int x_2, .int d, .int x_20, .int x_22]) (rest := []) C hU (c_X4_greatestSum hG x_2 d x_20 x_22 ) vm_X4_greatestSum ml_X11_377 k_68.1 (hc := rfl) rfl (h1_68 hG) hl.1 rfl rfl (Nat.le_of_ble_eq_true rfl) dX11_sumFor_54 rfl rfl ⟨Nat.le_of_ble_eq_true rfl, Nat.le_of_ble_eq_true rfl⟩ ⟨Nat.le_refl _, Nat.le_refl _⟩) hS (fun x_24 H locs hp_23 hU hS => ?_)
      exact hret (⟨hG, hF1, hF2, trivial⟩) hU hS dX11_sumFor_57
    ·
      refine lv_iconst (v := 0) hx hb dX11_sumFor_36 (by decide) ?_
      exact hret (⟨hG, hF1, hF2, trivial⟩) hU hS dX11_sumFor_37
set_option maxHeartbeats 4000000 in
set_option maxRecDepth 100000 in
theorem c_X11_isBarred {l : Launch} {D : va_G} {cA : FieldType → ClassId} {sz : Nat} {al : Al} {iv : Iv} {rv : Rv} (hG : GI al iv rv) (ci : Nat) (hci : ci < al.1 88) : Met l yX11_isBarred (wd yX11_isBarred cX11_isBarred 3 (some .boolean)) (rm 3) (PcW D cA sz al iv rv [.ref (al.2 49 0), .ref (al.2 88 ci)]) (QI D cA sz al (pI iv rv (fun r => (0 ≤ r.toInt ∧ r.toInt ≤ 1) ∧ (True)))) 0 0 (Aq sz) := by
  refine mk_z (by decide) (Nat.le_of_ble_eq_true rfl) rfl ?_
  intro p e s m args below meth c ls Q H locs C hU hS hl hret
  have hx := C.1.1
  have hb := C.1.2.1
  have hl : lv_has ls 3 [(0, .ref (al.2 49 0)), (1, .ref (al.2 88 ci))] := hl
  have hG0 := hG
  have km9 : ((-9) : Int32).toInt = -9 := by decide
  have k0 : (0 : Int32).toInt = 0 := by decide
  have k1 : (1 : Int32).toInt = 1 := by decide
  refine lv_aload_n hx hb dX11_isBarred_0 rfl (lv_at hl 0 rfl) ?_
  refine g_49_3 C hU hG (h1_49 hG) fl_X11_33 dX11_isBarred_1 ?_
  refine lv_aload_n hx hb dX11_isBarred_4 rfl (lv_at hl 1 rfl) ?_
  refine g_88_0 C hU hG hci fl_X11_264 dX11_isBarred_5 (fun j_1 ej_2 hb_3 => ?_)
  refine lv_aload_n hx hb dX11_isBarred_8 rfl (lv_at hl 1 rfl) ?_
  refine g_88_1 C hU hG hci fl_X11_271 dX11_isBarred_9 (fun x_4 e_5 le_5 ue_5 => ?_)
  have te_5 := congrArg Int32.toInt e_5
  refine q_pi (q_runV (t := 68) (i := 0) (As := [.ref (al.2 65 j_1), .int x_4]) (rest := []) C hU (c_X4_landFor hG (j_1) hb_3 x_4 ) vm_X4_landFor ml_X11_236 k_68.1 (hc := rfl) rfl (h1_68 hG) hl.1 rfl rfl (Nat.le_of_ble_eq_true rfl) dX11_isBarred_12 rfl rfl ⟨Nat.le_of_ble_eq_true rfl, Nat.le_of_ble_eq_true rfl⟩ ⟨Nat.le_refl _, Nat.le_refl _⟩) hS (fun x_7 H locs hp_6 hU hS => ?_)
  refine lv_istore_n (lv' := [(2, .int x_7), (0, .ref (al.2 49 0)), (1, .ref (al.2 88 ci))]) hx hb dX11_isBarred_15 rfl hl (by decide) rfl (fun ls hl => ?_)
  refine lv_iload_n hx hb dX11_isBarred_16 rfl (lv_at hl 0 rfl) ?_
  refine lv_bipush (v := (-9)) hx hb dX11_isBarred_17 (by decide) ?_
  refine b_icmp_ne (tgt := 24) hx hb dX11_isBarred_19 (by decide) (fun c_8 => ?_) (fun c_8 => ?_)
  ·
    refine lv_aload_n hx hb dX11_isBarred_24 rfl (lv_at hl 1 rfl) ?_
    refine g_49_4 C hU hG (h1_49 hG) fl_X11_40 dX11_isBarred_25 ?_
    refine lv_iload_n hx hb dX11_isBarred_28 rfl (lv_at hl 0 rfl) ?_
    refine lv_aload_n hx hb dX11_isBarred_29 rfl (lv_at hl 2 rfl) ?_
    refine g_88_0 C hU hG hci fl_X11_264 dX11_isBarred_30 (fun j_9 ej_10 hb_11 => ?_)
    refine q_pi (q_runV (t := 65) (i := j_9) (As := []) (rest := [.int x_7, .ref (al.2 79 0)]) C hU (c_X8_arriveDay hG (j_9) hb_11 ) vm_X8_arriveDay ml_X11_384 k_65.1 (hc := rfl) rfl hb_11 hl.1 rfl rfl (Nat.le_of_ble_eq_true rfl) dX11_isBarred_33 rfl rfl ⟨Nat.le_of_ble_eq_true rfl, Nat.le_of_ble_eq_true rfl⟩ ⟨Nat.le_refl _, Nat.le_refl _⟩) hS (fun x_13 H locs hp_12 hU hS => ?_)
    refine lv_iconst (v := 1) hx hb dX11_isBarred_36 (by decide) ?_
    refine lv_iadd hx hb dX11_isBarred_37 ?_
    refine lv_topi (fun x_14 e_15 => ?_)
    refine lv_aload_n hx hb dX11_isBarred_38 rfl (lv_at hl 2 rfl) ?_
    refine g_88_1 C hU hG hci fl_X11_271 dX11_isBarred_39 (fun x_16 e_17 le_17 ue_17 => ?_)
    have te_17 := congrArg Int32.toInt e_17
    refine q_pi (q_runV (t := 79) (i := 0) (As := [.int x_7, .int x_14, .int x_16]) (rest := []) C hU (c_X0_daysThatRan hG x_7 x_14 x_16 ) vm_X0_daysThatRan ml_X11_387 k_79.1 (hc := rfl) rfl (h1_79 hG) hl.1 rfl rfl (Nat.le_of_ble_eq_true rfl) dX11_isBarred_42 rfl rfl ⟨Nat.le_of_ble_eq_true rfl, Nat.le_of_ble_eq_true rfl⟩ ⟨Nat.le_refl _, Nat.le_refl _⟩) hS (fun x_19 H locs hp_18 hU hS => ?_)
    refine lv_aload_n hx hb dX11_isBarred_45 rfl (lv_at hl 1 rfl) ?_
    refine g_49_4 C hU hG (h1_49 hG) fl_X11_40 dX11_isBarred_46 ?_
    refine g_79_0 C hU hG (h1_79 hG) fl_X11_247 dX11_isBarred_49 ?_
    refine lv_iload_n hx hb dX11_isBarred_52 rfl (lv_at hl 0 rfl) ?_
    refine a_80 C hU hG (h1_80 hG) (x := x_7) (by omega) (by omega) dX11_isBarred_53 (fun x_20 e_21 le_21 ue_21 => ?_)
    have te_21 := congrArg Int32.toInt e_21
    refine b_icmp_le (tgt := 61) hx hb dX11_isBarred_54 (by decide) (fun c_22 => ?_) (fun c_22 => ?_)
    ·
      refine lv_iconst (v := 0) hx hb dX11_isBarred_61 (by decide) ?_
      exact hret (by omega) (by omega) (⟨rfl, rfl, ⟨⟨by omega, by omega⟩, trivial⟩⟩) hU hS dX11_isBarred_62
    ·
      refine lv_iconst (v := 1) hx hb dX11_isBarred_57 (by decide) ?_
      refine lv_goto (tgt := 62) hx hb dX11_isBarred_58 (by decide) ?_
      exact hret (by omega) (by omega) (⟨rfl, rfl, ⟨⟨by omega, by omega⟩, trivial⟩⟩) hU hS dX11_isBarred_62
  ·
    refine lv_iconst (v := 0) hx hb dX11_isBarred_22 (by decide) ?_
    exact hret (by omega) (by omega) (⟨rfl, rfl, ⟨⟨by omega, by omega⟩, trivial⟩⟩) hU hS dX11_isBarred_23
set_option maxHeartbeats 4000000 in
set_option maxRecDepth 100000 in
theorem c_X11_worthOf {l : Launch} {D : va_G} {cA : FieldType → ClassId} {sz : Nat} {al : Al} {iv : Iv} {rv : Rv} (hG : GI al iv rv) (ci : Nat) (hci : ci < al.1 88) : Met l yX11_worthOf (wd yX11_worthOf cX11_worthOf 2 (some .int)) (rm 5) (PcW D cA sz al iv rv [.ref (al.2 49 0), .ref (al.2 88 ci)]) (QI D cA sz al (fI al ([59, 60, 61], []) iv rv (fun r iv' rv' => True))) 0 0 (Aq sz) := by
  refine mk_i (by decide) (Nat.le_of_ble_eq_true rfl) rfl ?_
  intro p e s m args below meth c ls Q H locs C hU hS hl hret
  have hx := C.1.1
  have hb := C.1.2.1
  have hl : lv_has ls 2 [(0, .ref (al.2 49 0)), (1, .ref (al.2 88 ci))] := hl
  have hG0 := hG
  have hF1 : FR ([59, 60, 61], []) iv iv := FR.rf
  have hF2 : FR ([59, 60, 61], []) rv rv := FR.rf
  have k0 : (0 : Int32).toInt = 0 := by decide
  refine lv_aload_n hx hb dX11_worthOf_0 rfl (lv_at hl 0 rfl) ?_
  refine lv_aload_n hx hb dX11_worthOf_1 rfl (lv_at hl 1 rfl) ?_
  refine q_pi (q_runV (t := 49) (i := 0) (As := [.ref (al.2 88 ci)]) (rest := []) C hU (c_X11_isBarred hG (ci) hci ) vm_X11_isBarred ml_X11_274 k_49.1 (hc := rfl) rfl (h1_49 hG) hl.1 rfl rfl (Nat.le_of_ble_eq_true rfl) dX11_worthOf_2 rfl rfl ⟨Nat.le_of_ble_eq_true rfl, Nat.le_of_ble_eq_true rfl⟩ ⟨Nat.le_refl _, Nat.le_refl _⟩) hS (fun x_2 H locs hp_1 hU hS => ?_)
  refine b_if_eq (tgt := 12) hx hb dX11_worthOf_5 (by decide) (fun c_3 => ?_) (fun c_3 => ?_)
  ·
    refine lv_aload_n hx hb dX11_worthOf_12 rfl (lv_at hl 0 rfl) ?_
    refine lv_aload_n hx hb dX11_worthOf_13 rfl (lv_at hl 1 rfl) ?_
    refine g_88_0 C hU hG hci fl_X11_264 dX11_worthOf_14 (fun j_4 ej_5 hb_6 => ?_)
    refine lv_aload_n hx hb dX11_worthOf_17 rfl (lv_at hl 1 rfl) ?_
    refine g_88_1 C hU hG hci fl_X11_271 dX11_worthOf_18 (fun x_7 e_8 le_8 ue_8 => ?_)
    have te_8 := congrArg Int32.toInt e_8
    refine q_fi (q_runV (t := 49) (i := 0) (As := [.ref (al.2 65 j_4), .int x_7]) (rest := []) C hU (c_X11_sumFor hG (j_4) hb_6 x_7 ) vm_X11_sumFor ml_X11_232 k_49.1 (hc := rfl) rfl (h1_49 hG) hl.1 rfl rfl (Nat.le_of_ble_eq_true rfl) dX11_worthOf_21 rfl rfl ⟨Nat.le_of_ble_eq_true rfl, Nat.le_of_ble_eq_true rfl⟩ ⟨Nat.le_refl _, Nat.le_refl _⟩) hS (fun x_14 iv_10 rv_11 H locs hG fa_12 fb_13 hp_9 hU hS => ?_)
    have hF1 := hF1.tr (m := ([59, 60, 61], [])) fa_12 (by decide)
    have hF2 := hF2.tr (m := ([59, 60, 61], [])) fb_13 (by decide)
    exact hret (⟨hG, hF1, hF2, trivial⟩) hU hS dX11_worthOf_24
  ·
    refine lv_iconst (v := 0) hx hb dX11_worthOf_8 (by decide) ?_
    refine lv_goto (tgt := 24) hx hb dX11_worthOf_9 (by decide) ?_
    exact hret (⟨hG, hF1, hF2, trivial⟩) hU hS dX11_worthOf_24
set_option maxHeartbeats 4000000 in
set_option maxRecDepth 100000 in
theorem c_X11_countBarred {l : Launch} {D : va_G} {cA : FieldType → ClassId} {sz : Nat} {al : Al} {iv : Iv} {rv : Rv} (hG : GI al iv rv) : Met l yX11_countBarred (wd yX11_countBarred cX11_countBarred 3 (some .int)) (rm 4) (PcW D cA sz al iv rv [.ref (al.2 49 0)]) (QI D cA sz al (pI iv rv (fun r => True))) 0 0 (Aq sz) := by
  refine mk_i (by decide) (Nat.le_of_ble_eq_true rfl) rfl ?_
  intro p e s m args below meth c ls Q H locs C hU hS hl hret
  have hx := C.1.1
  have hb := C.1.2.1
  have hl : lv_has ls 3 [(0, .ref (al.2 49 0))] := hl
  have hG0 := hG
  have k0 : (0 : Int32).toInt = 0 := by decide
  have k1 : (1 : Int32).toInt = 1 := by decide
  refine lv_iconst (v := 0) hx hb dX11_countBarred_0 (by decide) ?_
  refine lv_istore_n (lv' := [(1, .int 0), (0, .ref (al.2 49 0))]) hx hb dX11_countBarred_1 rfl hl (by decide) rfl (fun ls hl => ?_)
  refine lv_iconst (v := 0) hx hb dX11_countBarred_2 (by decide) ?_
  refine lv_istore_n (lv' := [(2, .int 0), (1, .int 0), (0, .ref (al.2 49 0))]) hx hb dX11_countBarred_3 rfl hl (by decide) rfl (fun ls hl => ?_)
  have J_4 : ∀ (n_4 : Nat) (l1_1 : Int32) (l2_2 : Int32) (H : Heap) (locs : List Loc) (ls : Array Slot), lv_has ls 3 [(0, .ref (al.2 49 0)), (1, .int l1_1), (2, .int l2_2)] → UW D cA sz al iv rv H → va_S (Aq sz) s.heap H locs → (0 ≤ l2_2.toInt ∧ l2_2.toInt ≤ 30) → (30 - l2_2.toInt).toNat < n_4 → W p l e (rm 4) s m args below meth c H locs 0 0 Q (F0 m 4 ls []) := by
    intro n_4
    induction n_4 with
    | zero =>
      intro l1_1 l2_2 H locs ls hl hU hS i4_0 hm_4
      exact absurd hm_4 (Nat.not_lt_zero _)
    | succ n_4 ih_4 =>
      intro l1_1 l2_2 H locs ls hl hU hS i4_0 hm_4
      refine lv_iload_n hx hb dX11_countBarred_4 rfl (lv_at hl 2 rfl) ?_
      refine lv_aload_n hx hb dX11_countBarred_5 rfl (lv_at hl 0 rfl) ?_
      refine g_49_5 C hU hG (h1_49 hG) fl_X11_47 dX11_countBarred_6 ?_
      refine g_84_1 C hU hG (h1_84 hG) fl_X11_327 dX11_countBarred_9 (fun x_3 e_4 le_4 ue_4 => ?_)
      have te_4 := congrArg Int32.toInt e_4
      refine b_icmp_ge (tgt := 40) hx hb dX11_countBarred_12 (by decide) (fun c_5 => ?_) (fun c_5 => ?_)
      ·
        refine lv_iload_n hx hb dX11_countBarred_40 rfl (lv_at hl 1 rfl) ?_
        exact hret (⟨rfl, rfl, trivial⟩) hU hS dX11_countBarred_41
      ·
        refine lv_aload_n hx hb dX11_countBarred_15 rfl (lv_at hl 0 rfl) ?_
        refine lv_aload_n hx hb dX11_countBarred_16 rfl (lv_at hl 0 rfl) ?_
        refine g_49_5 C hU hG (h1_49 hG) fl_X11_47 dX11_countBarred_17 ?_
        refine g_84_0 C hU hG (h1_84 hG) fl_X11_390 dX11_countBarred_20 ?_
        refine lv_iload_n hx hb dX11_countBarred_23 rfl (lv_at hl 2 rfl) ?_
        refine a_85 C hU hG (h1_85 hG) (x := l2_2) (by omega) (by omega) dX11_countBarred_24 (fun r_6 er_7 hb_8 => ?_)
        obtain ⟨j_9, ej_10⟩ : ∃ j, r_6 = some j := ⟨_, er_7.trans (call_ hG (by omega) (by omega))⟩
        subst ej_10
        have hl : lv_has ls 3 [(0, .ref (al.2 49 0)), (1, .int l1_1), (2, .int l2_2)] := hl
        have hb_11 : j_9 < al.1 88 := hb_8 j_9 rfl
        refine q_pi (q_runV (t := 49) (i := 0) (As := [.ref (al.2 88 j_9)]) (rest := []) C hU (c_X11_isBarred hG (j_9) hb_11 ) vm_X11_isBarred ml_X11_274 k_49.1 (hc := rfl) rfl (h1_49 hG) hl.1 rfl rfl (Nat.le_of_ble_eq_true rfl) dX11_countBarred_25 rfl rfl ⟨Nat.le_of_ble_eq_true rfl, Nat.le_of_ble_eq_true rfl⟩ ⟨Nat.le_refl _, Nat.le_refl _⟩) hS (fun x_13 H locs hp_12 hU hS => ?_)
        have J_34 : ∀ (l1_14 : Int32) (ls : Array Slot), lv_has ls 3 [(0, .ref (al.2 49 0)), (2, .int l2_2), (1, .int l1_14)] → W p l e (rm 4) s m args below meth c H locs 0 0 Q (F0 m 34 ls []) := by
          intro l1_14 ls hl
          obtain ⟨x_15, e_16⟩ : ∃ y : Int32, y = l2_2 + 1 := ⟨_, rfl⟩
          have te_16 : x_15.toInt = (l2_2 : Int32).toInt + (1 : Int32).toInt := by rw [e_16]; exact fb_addI (by omega) (by omega)
          refine lv_iinc (v := x_15) (lv' := [(2, .int x_15), (0, .ref (al.2 49 0)), (1, .int l1_14)]) hx hb dX11_countBarred_34 hl (k := 1) rfl (by rw [e_16]; rfl) (by decide) rfl (fun ls hl => ?_)
          refine lv_goto (tgt := 4) hx hb dX11_countBarred_37 (by decide) ?_
          exact ih_4 l1_14 x_15 _ _ _ (lv_sub hl [1, 2, 0] rfl) hU hS (by omega) (by omega)
        refine b_if_eq (tgt := 34) hx hb dX11_countBarred_28 (by decide) (fun c_17 => ?_) (fun c_17 => ?_)
        ·
          exact J_34 l1_1 _ (lv_sub hl [0, 2, 1] rfl)
        ·
          obtain ⟨x_18, e_19⟩ : ∃ y : Int32, y = l1_1 + 1 := ⟨_, rfl⟩
          refine lv_iinc (v := x_18) (lv' := [(1, .int x_18), (0, .ref (al.2 49 0)), (2, .int l2_2)]) hx hb dX11_countBarred_31 hl (k := 1) rfl (by rw [e_19]; rfl) (by decide) rfl (fun ls hl => ?_)
          exact J_34 x_18 _ (lv_sub hl [1, 2, 0] rfl)
  exact J_4 _ 0 0 _ _ _ (lv_sub hl [2, 1, 0] rfl) hU hS (by omega) (Nat.lt_succ_self _)
set_option maxHeartbeats 4000000 in
set_option maxRecDepth 100000 in
theorem c_X11_settleUp {l : Launch} {D : va_G} {cA : FieldType → ClassId} {sz : Nat} {al : Al} {iv : Iv} {rv : Rv} (hG : GI al iv rv) : Met l yX11_settleUp (wd yX11_settleUp cX11_settleUp 4 none) (rm 6) (PcW D cA sz al iv rv [.ref (al.2 49 0)]) (QV D cA sz al (fV al ([59, 60, 61, 86], []) iv rv (fun iv' rv' => True))) 0 0 (Aq sz) := by
  refine mk_v (by decide) (Nat.le_of_ble_eq_true rfl) rfl ?_
  intro p e s m args below meth c ls Q H locs C hU hS hl hret
  have hx := C.1.1
  have hb := C.1.2.1
  have hl : lv_has ls 4 [(0, .ref (al.2 49 0))] := hl
  have hG0 := hG
  have hF1 : FR ([59, 60, 61, 86], []) iv iv := FR.rf
  have hF2 : FR ([59, 60, 61, 86], []) rv rv := FR.rf
  have k0 : (0 : Int32).toInt = 0 := by decide
  have k1 : (1 : Int32).toInt = 1 := by decide
  refine lv_aload_n hx hb dX11_settleUp_0 rfl (lv_at hl 0 rfl) ?_
  refine g_49_5 C hU hG (h1_49 hG) fl_X11_47 dX11_settleUp_1 ?_
  refine g_84_2 C hU hG (h1_84 hG) fl_X11_298 dX11_settleUp_4 ?_
  refine lv_iconst (v := 0) hx hb dX11_settleUp_7 (by decide) ?_
  refine q_fv (q_runS (As := [.ref (al.2 86 0), .int 0]) (rest := []) C hU (c_J7_fill_53178_86 hG 0 ) sm_J7_fill_53178 ml_X11_394 hl.1 rfl rfl (Nat.le_of_ble_eq_true rfl) dX11_settleUp_8 rfl rfl ⟨Nat.le_of_ble_eq_true rfl, Nat.le_of_ble_eq_true rfl⟩ ⟨Nat.le_refl _, Nat.le_refl _⟩) hS (fun iv_2 rv_3 H locs hG fa_4 fb_5 hp_1 hU hS => ?_)
  have hF1 := hF1.tr (m := ([59, 60, 61, 86], [])) fa_4 (by decide)
  have hF2 := hF2.tr (m := ([59, 60, 61, 86], [])) fb_5 (by decide)
  refine lv_iconst (v := 0) hx hb dX11_settleUp_11 (by decide) ?_
  refine lv_istore_n (lv' := [(1, .int 0), (0, .ref (al.2 49 0))]) hx hb dX11_settleUp_12 rfl hl (by decide) rfl (fun ls hl => ?_)
  have J_13 : ∀ (n_13 : Nat) (l1_6 : Int32) (iv_7 : Iv) (rv_8 : Rv) (H : Heap) (locs : List Loc) (ls : Array Slot), lv_has ls 4 [(0, .ref (al.2 49 0)), (1, .int l1_6)] → GI al iv_7 rv_8 → FR ([59, 60, 61, 86], []) iv iv_7 → FR ([59, 60, 61, 86], []) rv rv_8 → UW D cA sz al iv_7 rv_8 H → va_S (Aq sz) s.heap H locs → (0 ≤ l1_6.toInt ∧ l1_6.toInt ≤ 30) → (30 - l1_6.toInt).toNat < n_13 → W p l e (rm 6) s m args below meth c H locs 0 0 Q (F0 m 13 ls []) := by
    intro n_13
    induction n_13 with
    | zero =>
      intro l1_6 iv_7 rv_8 H locs ls hl hG hF1 hF2 hU hS i13_0 hm_13
      exact absurd hm_13 (Nat.not_lt_zero _)
    | succ n_13 ih_13 =>
      intro l1_6 iv_7 rv_8 H locs ls hl hG hF1 hF2 hU hS i13_0 hm_13
      refine lv_iload_n hx hb dX11_settleUp_13 rfl (lv_at hl 1 rfl) ?_
      refine lv_aload_n hx hb dX11_settleUp_14 rfl (lv_at hl 0 rfl) ?_
      refine g_49_5 C hU hG (h1_49 hG) fl_X11_47 dX11_settleUp_15 ?_
      refine g_84_1 C hU hG (h1_84 hG) fl_X11_327 dX11_settleUp_18 (fun x_9 e_10 le_10 ue_10 => ?_)
      have te_10 := congrArg Int32.toInt e_10
      have ne_10 : x_9.toInt = (iv 84 0 1).toInt := by rw [e_10, hF1 84 0 1 (by decide)]
      refine b_icmp_ge (tgt := 63) hx hb dX11_settleUp_21 (by decide) (fun c_11 => ?_) (fun c_11 => ?_)
      ·
        exact hret (⟨hG, hF1, hF2, trivial⟩) hU hS dX11_settleUp_63
      ·
        refine lv_aload_n hx hb dX11_settleUp_24 rfl (lv_at hl 0 rfl) ?_
        refine g_49_5 C hU hG (h1_49 hG) fl_X11_47 dX11_settleUp_25 ?_
        refine g_84_0 C hU hG (h1_84 hG) fl_X11_390 dX11_settleUp_28 ?_
        refine lv_iload_n hx hb dX11_settleUp_31 rfl (lv_at hl 1 rfl) ?_
        refine a_85 C hU hG (h1_85 hG) (x := l1_6) (by omega) (by omega) dX11_settleUp_32 (fun r_12 er_13 hb_14 => ?_)
        have ner_13 : r_12 = rv 85 0 (l1_6 : Int32).toNatClampNeg := by rw [er_13, hF2.arr 85 0 _ (by decide)]
        obtain ⟨j_15, ej_16⟩ : ∃ j, r_12 = some j := ⟨_, er_13.trans (call_ hG (by omega) (by omega))⟩
        subst ej_16
        have hl : lv_has ls 4 [(0, .ref (al.2 49 0)), (1, .int l1_6)] := hl
        have hb_17 : j_15 < al.1 88 := hb_14 j_15 rfl
        refine lv_astore_n (lv' := [(2, .ref (al.2 88 j_15)), (0, .ref (al.2 49 0)), (1, .int l1_6)]) hx hb dX11_settleUp_33 rfl hl (by decide) rfl (fun ls hl => ?_)
        refine lv_aload_n hx hb dX11_settleUp_34 rfl (lv_at hl 1 rfl) ?_
        refine lv_aload_n hx hb dX11_settleUp_35 rfl (lv_at hl 0 rfl) ?_
        refine q_fi (q_runV (t := 49) (i := 0) (As := [.ref (al.2 88 j_15)]) (rest := []) C hU (c_X11_worthOf hG (j_15) hb_17 ) vm_X11_worthOf ml_X11_278 k_49.1 (hc := rfl) rfl (h1_49 hG) hl.1 rfl rfl (Nat.le_of_ble_eq_true rfl) dX11_settleUp_36 rfl rfl ⟨Nat.le_of_ble_eq_true rfl, Nat.le_of_ble_eq_true rfl⟩ ⟨Nat.le_refl _, Nat.le_refl _⟩) hS (fun x_23 iv_19 rv_20 H locs hG fa_21 fb_22 hp_18 hU hS => ?_)
        have hF1 := hF1.tr (m := ([59, 60, 61, 86], [])) fa_21 (by decide)
        have hF2 := hF2.tr (m := ([59, 60, 61, 86], [])) fb_22 (by decide)
        refine lv_istore_n (lv' := [(3, .int x_23), (2, .ref (al.2 88 j_15)), (0, .ref (al.2 49 0)), (1, .int l1_6)]) hx hb dX11_settleUp_39 rfl hl (by decide) rfl (fun ls hl => ?_)
        refine lv_aload_n hx hb dX11_settleUp_40 rfl (lv_at hl 1 rfl) ?_
        refine g_88_3 C hU hG hb_17 fl_X11_282 dX11_settleUp_41 (fun x_24 e_25 => ?_)
        have te_25 := congrArg Int32.toInt e_25
        have ne_25 : x_24.toInt = (iv 88 j_15 3).toInt := by rw [e_25, hF1 88 j_15 3 (by decide)]
        refine lv_iload_n hx hb dX11_settleUp_44 rfl (lv_at hl 0 rfl) ?_
        have J_57 : ∀ (iv_26 : Iv) (rv_27 : Rv) (H : Heap) (locs : List Loc) (ls : Array Slot), lv_has ls 4 [(0, .ref (al.2 49 0)), (1, .int l1_6)] → GI al iv_26 rv_27 → FR ([59, 60, 61, 86], []) iv iv_26 → FR ([59, 60, 61, 86], []) rv rv_27 → UW D cA sz al iv_26 rv_27 H → va_S (Aq sz) s.heap H locs → W p l e (rm 6) s m args below meth c H locs 0 0 Q (F0 m 57 ls []) := by
          intro iv_26 rv_27 H locs ls hl hG hF1 hF2 hU hS
          obtain ⟨x_28, e_29⟩ : ∃ y : Int32, y = l1_6 + 1 := ⟨_, rfl⟩
          have te_29 : x_28.toInt = (l1_6 : Int32).toInt + (1 : Int32).toInt := by rw [e_29]; exact fb_addI (by omega) (by omega)
          refine lv_iinc (v := x_28) (lv' := [(1, .int x_28), (0, .ref (al.2 49 0))]) hx hb dX11_settleUp_57 hl (k := 1) rfl (by rw [e_29]; rfl) (by decide) rfl (fun ls hl => ?_)
          refine lv_goto (tgt := 13) hx hb dX11_settleUp_60 (by decide) ?_
          exact ih_13 x_28 _ _ _ _ _ (lv_sub hl [1, 0] rfl) hG hF1 hF2 hU hS (by omega) (by omega)
        refine b_icmp_lt (tgt := 57) hx hb dX11_settleUp_45 (by decide) (fun c_30 => ?_) (fun c_30 => ?_)
        ·
          exact J_57 _ _ _ _ _ (lv_sub hl [2, 3] rfl) hG hF1 hF2 hU hS
        ·
          refine lv_aload_n hx hb dX11_settleUp_48 rfl (lv_at hl 2 rfl) ?_
          refine g_49_5 C hU hG (h1_49 hG) fl_X11_47 dX11_settleUp_49 ?_
          refine lv_aload_n hx hb dX11_settleUp_52 rfl (lv_at hl 1 rfl) ?_
          refine lv_iload_n hx hb dX11_settleUp_53 rfl (lv_at hl 0 rfl) ?_
          refine q_fv (q_runV (t := 84) (i := 0) (As := [.ref (al.2 88 j_15), .int x_23]) (rest := []) C hU (c_X3_addToBalances hG (j_15) hb_17 x_23 ) vm_X3_addToBalances ml_X11_400 k_84.1 (hc := rfl) rfl (h1_84 hG) hl.1 rfl rfl (Nat.le_of_ble_eq_true rfl) dX11_settleUp_54 rfl rfl ⟨Nat.le_of_ble_eq_true rfl, Nat.le_of_ble_eq_true rfl⟩ ⟨Nat.le_refl _, Nat.le_refl _⟩) hS (fun iv_32 rv_33 H locs hG fa_34 fb_35 hp_31 hU hS => ?_)
          have hF1 := hF1.tr (m := ([59, 60, 61, 86], [])) fa_34 (by decide)
          have hF2 := hF2.tr (m := ([59, 60, 61, 86], [])) fb_35 (by decide)
          exact J_57 _ _ _ _ _ (lv_sub hl [2, 3] rfl) hG hF1 hF2 hU hS
  exact J_13 _ 0 _ _ _ _ _ (lv_sub hl [1, 0] rfl) hG hF1 hF2 hU hS (by omega) (Nat.lt_succ_self _)
set_option maxHeartbeats 4000000 in
set_option maxRecDepth 100000 in
theorem c_X11_chooseLike {l : Launch} {D : va_G} {cA : FieldType → ClassId} {sz : Nat} {al : Al} {iv : Iv} {rv : Rv} (hG : GI al iv rv) (ci : Nat) (hci : ci < al.1 88) : Met l yX11_chooseLike (wd yX11_chooseLike cX11_chooseLike 4 none) (rm 4) (PcW D cA sz al iv rv [.ref (al.2 49 0), .ref (al.2 88 ci)]) (QV D cA sz al (fV al ([59, 60, 61, 97], [(90, 8), (90, 9), (90, 10)]) iv rv (fun iv' rv' => True))) 0 0 (Aq sz) := by
  refine mk_v (by decide) (Nat.le_of_ble_eq_true rfl) rfl ?_
  intro p e s m args below meth c ls Q H locs C hU hS hl hret
  have hx := C.1.1
  have hb := C.1.2.1
  have hl : lv_has ls 4 [(0, .ref (al.2 49 0)), (1, .ref (al.2 88 ci))] := hl
  have hG0 := hG
  have hF1 : FR ([59, 60, 61, 97], [(90, 8), (90, 9), (90, 10)]) iv iv := FR.rf
  have hF2 : FR ([59, 60, 61, 97], [(90, 8), (90, 9), (90, 10)]) rv rv := FR.rf
  have k3 : (3 : Int32).toInt = 3 := by decide
  refine lv_aload_n hx hb dX11_chooseLike_0 rfl (lv_at hl 1 rfl) ?_
  refine g_88_0 C hU hG hci fl_X11_264 dX11_chooseLike_1 (fun j_1 ej_2 hb_3 => ?_)
  refine lv_astore_n (lv' := [(2, .ref (al.2 65 j_1)), (0, .ref (al.2 49 0)), (1, .ref (al.2 88 ci))]) hx hb dX11_chooseLike_4 rfl hl (by decide) rfl (fun ls hl => ?_)
  refine lv_aload_n hx hb dX11_chooseLike_5 rfl (lv_at hl 1 rfl) ?_
  refine g_49_3 C hU hG (h1_49 hG) fl_X11_33 dX11_chooseLike_6 ?_
  refine lv_aload_n hx hb dX11_chooseLike_9 rfl (lv_at hl 0 rfl) ?_
  refine lv_aload_n hx hb dX11_chooseLike_10 rfl (lv_at hl 2 rfl) ?_
  refine g_88_1 C hU hG hci fl_X11_271 dX11_chooseLike_11 (fun x_4 e_5 le_5 ue_5 => ?_)
  have te_5 := congrArg Int32.toInt e_5
  refine q_pi (q_runV (t := 68) (i := 0) (As := [.ref (al.2 65 j_1), .int x_4]) (rest := []) C hU (c_X4_landFor hG (j_1) hb_3 x_4 ) vm_X4_landFor ml_X11_236 k_68.1 (hc := rfl) rfl (h1_68 hG) hl.1 rfl rfl (Nat.le_of_ble_eq_true rfl) dX11_chooseLike_14 rfl rfl ⟨Nat.le_of_ble_eq_true rfl, Nat.le_of_ble_eq_true rfl⟩ ⟨Nat.le_refl _, Nat.le_refl _⟩) hS (fun x_7 H locs hp_6 hU hS => ?_)
  refine lv_istore_n (lv' := [(3, .int x_7), (2, .ref (al.2 65 j_1)), (0, .ref (al.2 49 0)), (1, .ref (al.2 88 ci))]) hx hb dX11_chooseLike_17 rfl hl (by decide) rfl (fun ls hl => ?_)
  refine lv_aload_n hx hb dX11_chooseLike_18 rfl (lv_at hl 2 rfl) ?_
  refine g_49_6 C hU hG (h1_49 hG) fl_X11_54 dX11_chooseLike_19 ?_
  refine lv_iload_n hx hb dX11_chooseLike_22 rfl (lv_at hl 0 rfl) ?_
  refine lv_aload_n hx hb dX11_chooseLike_23 rfl (lv_at hl 2 rfl) ?_
  refine lv_aload_n hx hb dX11_chooseLike_24 rfl (lv_at hl 1 rfl) ?_
  refine q_fi (q_runV (t := 49) (i := 0) (As := [.ref (al.2 65 j_1)]) (rest := [.int x_7, .ref (al.2 90 0)]) C hU (c_X11_blameOf hG (j_1) hb_3 ) vm_X11_blameOf ml_X11_218 k_49.1 (hc := rfl) rfl (h1_49 hG) hl.1 rfl rfl (Nat.le_of_ble_eq_true rfl) dX11_chooseLike_25 rfl rfl ⟨Nat.le_of_ble_eq_true rfl, Nat.le_of_ble_eq_true rfl⟩ ⟨Nat.le_refl _, Nat.le_refl _⟩) hS (fun x_13 iv_9 rv_10 H locs hG fa_11 fb_12 hp_8 hU hS => ?_)
  have hF1 := hF1.tr (m := ([59, 60, 61, 97], [(90, 8), (90, 9), (90, 10)])) fa_11 (by decide)
  have hF2 := hF2.tr (m := ([59, 60, 61, 97], [(90, 8), (90, 9), (90, 10)])) fb_12 (by decide)
  refine lv_aload_n hx hb dX11_chooseLike_28 rfl (lv_at hl 2 rfl) ?_
  refine lv_aload_n hx hb dX11_chooseLike_29 rfl (lv_at hl 1 rfl) ?_
  refine q_fi (q_runV (t := 49) (i := 0) (As := [.ref (al.2 65 j_1)]) (rest := [.int x_13, .int x_7, .ref (al.2 90 0)]) C hU (c_X11_hoursOf hG (j_1) hb_3 ) vm_X11_hoursOf ml_X11_215 k_49.1 (hc := rfl) rfl (h1_49 hG) hl.1 rfl rfl (Nat.le_of_ble_eq_true rfl) dX11_chooseLike_30 rfl rfl ⟨Nat.le_of_ble_eq_true rfl, Nat.le_of_ble_eq_true rfl⟩ ⟨Nat.le_refl _, Nat.le_refl _⟩) hS (fun x_19 iv_15 rv_16 H locs hG fa_17 fb_18 hp_14 hU hS => ?_)
  have hF1 := hF1.tr (m := ([59, 60, 61, 97], [(90, 8), (90, 9), (90, 10)])) fa_17 (by decide)
  have hF2 := hF2.tr (m := ([59, 60, 61, 97], [(90, 8), (90, 9), (90, 10)])) fb_18 (by decide)
  refine lv_aload_n hx hb dX11_chooseLike_33 rfl (lv_at hl 2 rfl) ?_
  refine lv_aload_n hx hb dX11_chooseLike_34 rfl (lv_at hl 1 rfl) ?_
  refine q_pi (q_runV (t := 49) (i := 0) (As := [.ref (al.2 65 j_1)]) (rest := [.int x_19, .int x_13, .int x_7, .ref (al.2 90 0)]) C hU (c_X11_milesOf hG (j_1) hb_3 ) vm_X11_milesOf ml_X11_374 k_49.1 (hc := rfl) rfl (h1_49 hG) hl.1 rfl rfl (Nat.le_of_ble_eq_true rfl) dX11_chooseLike_35 rfl rfl ⟨Nat.le_of_ble_eq_true rfl, Nat.le_of_ble_eq_true rfl⟩ ⟨Nat.le_refl _, Nat.le_refl _⟩) hS (fun x_21 H locs hp_20 hU hS => ?_)
  refine q_fv (q_runV (t := 90) (i := 0) (As := [.int x_7, .int x_13, .int x_19, .int x_21]) (rest := []) C hU (c_X1_measure hG x_7 x_13 x_19 x_21 ) vm_X1_measure ml_X11_404 k_90.1 (hc := rfl) rfl (h1_90 hG) hl.1 rfl rfl (Nat.le_of_ble_eq_true rfl) dX11_chooseLike_38 rfl rfl ⟨Nat.le_of_ble_eq_true rfl, Nat.le_of_ble_eq_true rfl⟩ ⟨Nat.le_refl _, Nat.le_refl _⟩) hS (fun iv_23 rv_24 H locs hG fa_25 fb_26 hp_22 hU hS => ?_)
  have hF1 := hF1.tr (m := ([59, 60, 61, 97], [(90, 8), (90, 9), (90, 10)])) fa_25 (by decide)
  have hF2 := hF2.tr (m := ([59, 60, 61, 97], [(90, 8), (90, 9), (90, 10)])) fb_26 (by decide)
  refine lv_aload_n hx hb dX11_chooseLike_41 rfl (lv_at hl 2 rfl) ?_
  refine g_49_6 C hU hG (h1_49 hG) fl_X11_54 dX11_chooseLike_42 ?_
  refine lv_aload_n hx hb dX11_chooseLike_45 rfl (lv_at hl 2 rfl) ?_
  refine g_49_7 C hU hG (h1_49 hG) fl_X11_67 dX11_chooseLike_46 ?_
  refine lv_iconst (v := 3) hx hb dX11_chooseLike_49 (by decide) ?_
  refine a_50 C hU hG (h1_50 hG) (x := 3) (by omega) (by omega) dX11_chooseLike_50 (fun x_27 e_28 le_28 ue_28 => ?_)
  have te_28 := congrArg Int32.toInt e_28
  have ne_28 : x_27.toInt = (iv 50 0 (3 : Int32).toNatClampNeg).toInt := by rw [e_28, hF1.arr 50 0 (3 : Int32).toNatClampNeg (by decide)]
  refine q_fv (q_runV (t := 90) (i := 0) (As := [.int x_27]) (rest := []) C hU (c_X1_choose hG x_27 (by omega)) vm_X1_choose ml_X11_408 k_90.1 (hc := rfl) rfl (h1_90 hG) hl.1 rfl rfl (Nat.le_of_ble_eq_true rfl) dX11_chooseLike_51 rfl rfl ⟨Nat.le_of_ble_eq_true rfl, Nat.le_of_ble_eq_true rfl⟩ ⟨Nat.le_refl _, Nat.le_refl _⟩) hS (fun iv_30 rv_31 H locs hG fa_32 fb_33 hp_29 hU hS => ?_)
  have hF1 := hF1.tr (m := ([59, 60, 61, 97], [(90, 8), (90, 9), (90, 10)])) fa_32 (by decide)
  have hF2 := hF2.tr (m := ([59, 60, 61, 97], [(90, 8), (90, 9), (90, 10)])) fb_33 (by decide)
  exact hret (⟨hG, hF1, hF2, trivial⟩) hU hS dX11_chooseLike_54
