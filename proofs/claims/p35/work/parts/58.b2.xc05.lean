set_option maxHeartbeats 4000000 in
set_option maxRecDepth 100000 in
theorem c_X11_sumFor_x {l : Launch} {D : va_G} {cA : FieldType → ClassId} {sz : Nat} {al : Al} {iv : Iv} {rv : Rv} (hG : GI al iv rv) (ti : Nat) (hti : ti < al.1 65) (d : Int32) (pre0 : BQ iv rv) : Met l yX11_sumFor (wd yX11_sumFor cX11_sumFor 4 (some .int)) (rm 4) (PcW D cA sz al iv rv [.ref (al.2 49 0), .ref (al.2 65 ti), .int d]) (QI D cA sz al (fI al ([59, 60, 61], []) iv rv (fun r iv' rv' => r = smF iv ti d))) 0 0 (Aq sz) := by
  refine mk_i (by decide) (Nat.le_of_ble_eq_true rfl) rfl ?_
  intro p e s m args below meth c ls Q H locs C hU hS hl hret
  have hx := C.1.1
  have hb := C.1.2.1
  have hl : lv_has ls 4 [(0, .ref (al.2 49 0)), (1, .ref (al.2 65 ti)), (2, .int d)] := hl
  have hG0 := hG
  have hF1 : FR ([59, 60, 61], []) iv iv := FR.rf
  have hF2 : FR ([59, 60, 61], []) rv rv := FR.rf
  have km9 : ((-9) : Int32).toInt = -9 := by decide
  have k0 : (0 : Int32).toInt = 0 := by decide
  refine lv_aload_n hx hb dX11_sumFor_0 rfl (lv_at hl 0 rfl) ?_
  refine g_49_3 C hU hG (h1_49 hG) fl_X11_33 dX11_sumFor_1 ?_
  refine lv_aload_n hx hb dX11_sumFor_4 rfl (lv_at hl 1 rfl) ?_
  refine lv_iload_n hx hb dX11_sumFor_5 rfl (lv_at hl 2 rfl) ?_
  refine q_pi (q_runV (t := 68) (i := 0) (As := [.ref (al.2 65 ti), .int d]) (rest := []) C hU (c_X4_landFor_x hG (ti) hti d (pre0)) vm_X4_landFor ml_X11_236 k_68.1 (hc := rfl) rfl (h1_68 hG) hl.1 rfl rfl (Nat.le_of_ble_eq_true rfl) dX11_sumFor_6 rfl rfl ⟨Nat.le_of_ble_eq_true rfl, Nat.le_of_ble_eq_true rfl⟩ ⟨Nat.le_refl _, Nat.le_refl _⟩) hS (fun x_2 H locs hp_1 hU hS => ?_)
  refine lv_istore_n (lv' := [(3, .int x_2), (0, .ref (al.2 49 0)), (1, .ref (al.2 65 ti)), (2, .int d)]) hx hb dX11_sumFor_9 rfl hl (by decide) rfl (fun ls hl => ?_)
  have hlw := hp_1.2.1
  have tlw := congrArg Int32.toInt hlw
  have olw := hp_1.2.2
  refine lv_iload_n hx hb dX11_sumFor_10 rfl (lv_at hl 0 rfl) ?_
  refine lv_bipush (v := (-9)) hx hb dX11_sumFor_11 (by decide) ?_
  refine b_icmp_eq (tgt := 36) hx hb dX11_sumFor_13 (by decide) (fun c_3 => ?_) (fun c_3 => ?_)
  ·
    refine lv_iconst (v := 0) hx hb dX11_sumFor_36 (by decide) ?_
    exact hret (⟨hG, hF1, hF2, by unfold smF; rw [if_pos (by omega)]⟩) hU hS dX11_sumFor_37
  ·
    refine lv_aload_n hx hb dX11_sumFor_16 rfl (lv_at hl 1 rfl) ?_
    refine g_49_3 C hU hG (h1_49 hG) fl_X11_33 dX11_sumFor_17 ?_
    refine lv_iload_n hx hb dX11_sumFor_20 rfl (lv_at hl 0 rfl) ?_
    refine lv_aload_n hx hb dX11_sumFor_21 rfl (lv_at hl 1 rfl) ?_
    refine lv_aload_n hx hb dX11_sumFor_22 rfl (lv_at hl 2 rfl) ?_
    refine q_fi (q_runV (t := 49) (i := 0) (As := [.ref (al.2 65 ti)]) (rest := [.int x_2, .ref (al.2 68 0)]) C hU (c_X11_blameOf_x hG (ti) hti (pre0.1)) vm_X11_blameOf ml_X11_218 k_49.1 (hc := rfl) rfl (h1_49 hG) hl.1 rfl rfl (Nat.le_of_ble_eq_true rfl) dX11_sumFor_23 rfl rfl ⟨Nat.le_of_ble_eq_true rfl, Nat.le_of_ble_eq_true rfl⟩ ⟨Nat.le_refl _, Nat.le_refl _⟩) hS (fun x_9 iv_5 rv_6 H locs hG fa_7 fb_8 hp_4 hU hS => ?_)
    have hF1 := hF1.tr (m := ([59, 60, 61], [])) fa_7 (by decide)
    have hF2 := hF2.tr (m := ([59, 60, 61], [])) fb_8 (by decide)
    have hBQ := bq_fr hG0 pre0 hF1 hF2
    have hMA := ma_fr hF1
    refine lv_aload_n hx hb dX11_sumFor_26 rfl (lv_at hl 2 rfl) ?_
    refine q_pi (q_runV (t := 65) (i := ti) (As := []) (rest := [.int x_9, .int x_2, .ref (al.2 68 0)]) C hU (c_X8_leaveDay_x hG (ti) hti (bb_bm hBQ.1)) vm_X8_leaveDay ml_X11_239 k_65.1 (hc := rfl) rfl hti hl.1 rfl rfl (Nat.le_of_ble_eq_true rfl) dX11_sumFor_27 rfl rfl ⟨Nat.le_of_ble_eq_true rfl, Nat.le_of_ble_eq_true rfl⟩ ⟨Nat.le_refl _, Nat.le_refl _⟩) hS (fun x_11 H locs hp_10 hU hS => ?_)
    refine q_pi (q_runV (t := 68) (i := 0) (As := [.int x_2, .int x_9, .int x_11]) (rest := []) C hU (c_X4_isExcused_x hG x_2 x_9 x_11 (hBQ.2.2.2.1)) vm_X4_isExcused ml_X11_243 k_68.1 (hc := rfl) rfl (h1_68 hG) hl.1 rfl rfl (Nat.le_of_ble_eq_true rfl) dX11_sumFor_30 rfl rfl ⟨Nat.le_of_ble_eq_true rfl, Nat.le_of_ble_eq_true rfl⟩ ⟨Nat.le_refl _, Nat.le_refl _⟩) hS (fun x_13 H locs hp_12 hU hS => ?_)
    have tex := congrArg Int32.toInt (sf_ex hp_12.2 hp_10 hp_4 hlw hMA)
    refine b_if_eq (tgt := 38) hx hb dX11_sumFor_33 (by decide) (fun c_14 => ?_) (fun c_14 => ?_)
    ·
      have hBQ2 := bq_fr hG0 pre0 hF1 hF2
      have hMA2 := ma_fr hF1
      refine lv_aload_n hx hb dX11_sumFor_38 rfl (lv_at hl 1 rfl) ?_
      refine g_49_3 C hU hG (h1_49 hG) fl_X11_33 dX11_sumFor_39 ?_
      refine lv_iload_n hx hb dX11_sumFor_42 rfl (lv_at hl 0 rfl) ?_
      refine lv_iload_n hx hb dX11_sumFor_43 rfl (lv_at hl 3 rfl) ?_
      refine lv_aload_n hx hb dX11_sumFor_44 rfl (lv_at hl 1 rfl) ?_
      refine lv_aload_n hx hb dX11_sumFor_45 rfl (lv_at hl 2 rfl) ?_
      refine q_fi (q_runV (t := 49) (i := 0) (As := [.ref (al.2 65 ti)]) (rest := [.int d, .int x_2, .ref (al.2 68 0)]) C hU (c_X11_hoursOf_x hG (ti) hti (⟨bb_bm hBQ2.1, hBQ2.2.1⟩)) vm_X11_hoursOf ml_X11_215 k_49.1 (hc := rfl) rfl (h1_49 hG) hl.1 rfl rfl (Nat.le_of_ble_eq_true rfl) dX11_sumFor_46 rfl rfl ⟨Nat.le_of_ble_eq_true rfl, Nat.le_of_ble_eq_true rfl⟩ ⟨Nat.le_refl _, Nat.le_refl _⟩) hS (fun x_20 iv_16 rv_17 H locs hG fa_18 fb_19 hp_15 hU hS => ?_)
      have hF1 := hF1.tr (m := ([59, 60, 61], [])) fa_18 (by decide)
      have hF2 := hF2.tr (m := ([59, 60, 61], [])) fb_19 (by decide)
      have hBQ3 := bq_fr hG0 pre0 hF1 hF2
      have hMA3 := ma_fr hF1
      refine lv_aload_n hx hb dX11_sumFor_49 rfl (lv_at hl 1 rfl) ?_
      refine lv_aload_n hx hb dX11_sumFor_50 rfl (lv_at hl 2 rfl) ?_
      refine q_pi (q_runV (t := 49) (i := 0) (As := [.ref (al.2 65 ti)]) (rest := [.int x_20, .int d, .int x_2, .ref (al.2 68 0)]) C hU (c_X11_milesOf_x hG (ti) hti (hBQ3)) vm_X11_milesOf ml_X11_374 k_49.1 (hc := rfl) rfl (h1_49 hG) hl.1 rfl rfl (Nat.le_of_ble_eq_true rfl) dX11_sumFor_51 rfl rfl ⟨Nat.le_of_ble_eq_true rfl, Nat.le_of_ble_eq_true rfl⟩ ⟨Nat.le_refl _, Nat.le_refl _⟩) hS (fun x_22 H locs hp_21 hU hS => ?_)
      refine q_pi (q_runV (t := 68) (i := 0) (As := [.int x_2, .int d, .int x_20, .int x_22]) (rest := []) C hU (c_X4_greatestSum_x hG x_2 d x_20 x_22 (hBQ3.2.2.1)) vm_X4_greatestSum ml_X11_377 k_68.1 (hc := rfl) rfl (h1_68 hG) hl.1 rfl rfl (Nat.le_of_ble_eq_true rfl) dX11_sumFor_54 rfl rfl ⟨Nat.le_of_ble_eq_true rfl, Nat.le_of_ble_eq_true rfl⟩ ⟨Nat.le_refl _, Nat.le_refl _⟩) hS (fun x_24 H locs hp_23 hU hS => ?_)
      exact hret (⟨hG, hF1, hF2, by unfold smF; rw [if_neg (by omega)]; exact sf_gs hp_23 hlw (hp_15.trans (ho_m hMA2 _)) (hp_21.trans (mi_m hMA3 _)) hMA3⟩) hU hS dX11_sumFor_57
    ·
      refine lv_iconst (v := 0) hx hb dX11_sumFor_36 (by decide) ?_
      exact hret (⟨hG, hF1, hF2, by unfold smF; rw [if_pos (by omega)]⟩) hU hS dX11_sumFor_37
