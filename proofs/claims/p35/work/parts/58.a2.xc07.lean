set_option maxHeartbeats 4000000 in
set_option maxRecDepth 100000 in
theorem c_X11_hoursOf_x {l : Launch} {D : va_G} {cA : FieldType → ClassId} {sz : Nat} {al : Al} {iv : Iv} {rv : Rv} (hG : GI al iv rv) (ti : Nat) (hti : ti < al.1 65) (pre0 : BS iv rv) : Met l yX11_hoursOf (wd yX11_hoursOf cX11_hoursOf 3 (some .int)) (rm 3) (PcW D cA sz al iv rv [.ref (al.2 49 0), .ref (al.2 65 ti)]) (QI D cA sz al (fI al ([60, 61], []) iv rv (fun r iv' rv' => r = hoF iv ti))) 0 0 (Aq sz) := by
  refine mk_i (by decide) (Nat.le_of_ble_eq_true rfl) rfl ?_
  intro p e s m args below meth c ls Q H locs C hU hS hl hret
  have hx := C.1.1
  have hb := C.1.2.1
  have hl : lv_has ls 3 [(0, .ref (al.2 49 0)), (1, .ref (al.2 65 ti))] := hl
  have hG0 := hG
  have htk := tk_k hG pre0.1 hti
  have hF1 : FR ([60, 61], []) iv iv := FR.rf
  have hF2 : FR ([60, 61], []) rv rv := FR.rf
  have km9 : ((-9) : Int32).toInt = -9 := by decide
  have k0 : (0 : Int32).toInt = 0 := by decide
  have k9999 : (9999 : Int32).toInt = 9999 := by decide
  refine lv_aload_n hx hb dX11_hoursOf_0 rfl (lv_at hl 0 rfl) ?_
  refine lv_aload_n hx hb dX11_hoursOf_1 rfl (lv_at hl 1 rfl) ?_
  refine q_fi (q_runV (t := 49) (i := 0) (As := [.ref (al.2 65 ti)]) (rest := []) C hU (c_X11_soonestOf_x hG (ti) hti (pre0)) vm_X11_soonestOf ml_X11_211 k_49.1 (hc := rfl) rfl (h1_49 hG) hl.1 rfl rfl (Nat.le_of_ble_eq_true rfl) dX11_hoursOf_2 rfl rfl ⟨Nat.le_of_ble_eq_true rfl, Nat.le_of_ble_eq_true rfl⟩ ⟨Nat.le_refl _, Nat.le_refl _⟩) hS (fun x_6 iv_2 rv_3 H locs hG fa_4 fb_5 hp_1 hU hS => ?_)
  have hF1 := hF1.tr (m := ([60, 61], [])) fa_4 (by decide)
  have hF2 := hF2.tr (m := ([60, 61], [])) fb_5 (by decide)
  refine lv_istore_n (lv' := [(2, .int x_6), (0, .ref (al.2 49 0)), (1, .ref (al.2 65 ti))]) hx hb dX11_hoursOf_5 rfl hl (by decide) rfl (fun ls hl => ?_)
  have hso := hp_1
  have tso := so_neg hso
  refine lv_iload_n hx hb dX11_hoursOf_6 rfl (lv_at hl 0 rfl) ?_
  refine lv_bipush (v := (-9)) hx hb dX11_hoursOf_7 (by decide) ?_
  refine b_icmp_ne (tgt := 18) hx hb dX11_hoursOf_9 (by decide) (fun c_7 => ?_) (fun c_7 => ?_)
  ·
    refine lv_iconst (v := 0) hx hb dX11_hoursOf_18 (by decide) ?_
    refine lv_iload_n hx hb dX11_hoursOf_19 rfl (lv_at hl 0 rfl) ?_
    refine lv_aload_n hx hb dX11_hoursOf_20 rfl (lv_at hl 2 rfl) ?_
    refine g_65_2 C hU hG hti fl_X11_343 dX11_hoursOf_21 (fun j_8 ej_9 hb_10 => ?_)
    have nej_9 : rv 65 ti 2 = some j_8 := (hF2 65 ti 2 (by decide)).symm.trans ej_9
    have hth := sx_last htk nej_9
    have hb21 := hb_10
    refine g_62_6 C hU hG hb_10 fl_X11_365 dX11_hoursOf_24 (fun x_11 e_12 le_12 ue_12 => ?_)
    have te_12 := congrArg Int32.toInt e_12
    have ne_12 : x_11.toInt = (iv 62 j_8 6).toInt := by rw [e_12, hF1 62 j_8 6 (by decide)]
    have h24 := sx_ar hG0 pre0.1 hb21 hth (e_12.trans (hF1 62 _ 6 (by decide)))
    refine lv_isub hx hb dX11_hoursOf_27 ?_
    refine lv_topi (fun x_13 e_14 => ?_)
    refine q_max C hl.1 ml_X11_180 (Nat.le_of_ble_eq_true rfl) (Nat.le_of_ble_eq_true rfl) (Nat.le_refl _) (Nat.le_refl _) dX11_hoursOf_28 (fun x_15 q_16 tq_16 => ?_)
    exact hret (⟨hG, hF1, hF2, by unfold hoF; first | rw [if_pos (by omega)] | rw [if_neg (by omega), q_16, mx0, e_14, h24, hso]⟩) hU hS dX11_hoursOf_31
  ·
    refine lv_sipush (v := 9999) hx hb dX11_hoursOf_12 (by decide) ?_
    refine lv_goto (tgt := 31) hx hb dX11_hoursOf_15 (by decide) ?_
    exact hret (⟨hG, hF1, hF2, by unfold hoF; first | rw [if_pos (by omega)] | rw [if_neg (by omega), True.intro, mx0, True.intro, h24, hso]⟩) hU hS dX11_hoursOf_31
