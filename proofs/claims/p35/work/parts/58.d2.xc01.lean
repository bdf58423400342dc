set_option maxHeartbeats 4000000 in
set_option maxRecDepth 100000 in
theorem c_X11_worthOf_x {l : Launch} {D : va_G} {cA : FieldType → ClassId} {sz : Nat} {al : Al} {iv : Iv} {rv : Rv} (hG : GI al iv rv) (ci : Nat) (hci : ci < al.1 88) (pre0 : BX iv rv) (pre1 : Cord iv rv) : Met l yX11_worthOf (wd yX11_worthOf cX11_worthOf 2 (some .int)) (rm 5) (PcW D cA sz al iv rv [.ref (al.2 49 0), .ref (al.2 88 ci)]) (QI D cA sz al (fI al ([59, 60, 61], []) iv rv (fun r iv' rv' => r = wrF iv ci))) 0 0 (Aq sz) := by
  refine mk_i (by decide) (Nat.le_of_ble_eq_true rfl) rfl ?_
  intro p e s m args below meth c ls Q H locs C hU hS hl hret
  have hx := C.1.1
  have hb := C.1.2.1
  have hl : lv_has ls 2 [(0, .ref (al.2 49 0)), (1, .ref (al.2 88 ci))] := hl
  have hG0 := hG
  have hF1 : FR ([59, 60, 61], []) iv iv := FR.rf
  have hF2 : FR ([59, 60, 61], []) rv rv := FR.rf
  have k0 : (0 : Int32).toInt = 0 := by decide
  refine lv_aload_n hx hb dX11_worthOf_0 rfl (lv_at hl 0 rfl) ?_
  refine lv_aload_n hx hb dX11_worthOf_1 rfl (lv_at hl 1 rfl) ?_
  refine q_pi (q_runV (t := 49) (i := 0) (As := [.ref (al.2 88 ci)]) (rest := []) C hU (c_X11_isBarred_x hG (ci) hci (pre0) (pre1)) vm_X11_isBarred ml_X11_274 k_49.1 (hc := rfl) rfl (h1_49 hG) hl.1 rfl rfl (Nat.le_of_ble_eq_true rfl) dX11_worthOf_2 rfl rfl ⟨Nat.le_of_ble_eq_true rfl, Nat.le_of_ble_eq_true rfl⟩ ⟨Nat.le_refl _, Nat.le_refl _⟩) hS (fun x_2 H locs hp_1 hU hS => ?_)
  have tbr := congrArg Int32.toInt hp_1.2
  refine b_if_eq (tgt := 12) hx hb dX11_worthOf_5 (by decide) (fun c_3 => ?_) (fun c_3 => ?_)
  ·
    refine lv_aload_n hx hb dX11_worthOf_12 rfl (lv_at hl 0 rfl) ?_
    refine lv_aload_n hx hb dX11_worthOf_13 rfl (lv_at hl 1 rfl) ?_
    refine g_88_0 C hU hG hci fl_X11_264 dX11_worthOf_14 (fun j_4 ej_5 hb_6 => ?_)
    have hti := cw_t hG0 pre0 hci ej_5
    refine lv_aload_n hx hb dX11_worthOf_17 rfl (lv_at hl 1 rfl) ?_
    refine g_88_1 C hU hG hci fl_X11_271 dX11_worthOf_18 (fun x_7 e_8 le_8 ue_8 => ?_)
    have te_8 := congrArg Int32.toInt e_8
    have hdd := cw_d hG0 pre0 hci e_8
    refine q_fi (q_runV (t := 49) (i := 0) (As := [.ref (al.2 65 j_4), .int x_7]) (rest := []) C hU (c_X11_sumFor_x hG (j_4) hb_6 x_7 (pre0.1)) vm_X11_sumFor ml_X11_232 k_49.1 (hc := rfl) rfl (h1_49 hG) hl.1 rfl rfl (Nat.le_of_ble_eq_true rfl) dX11_worthOf_21 rfl rfl ⟨Nat.le_of_ble_eq_true rfl, Nat.le_of_ble_eq_true rfl⟩ ⟨Nat.le_refl _, Nat.le_refl _⟩) hS (fun x_14 iv_10 rv_11 H locs hG fa_12 fb_13 hp_9 hU hS => ?_)
    have hF1 := hF1.tr (m := ([59, 60, 61], [])) fa_12 (by decide)
    have hF2 := hF2.tr (m := ([59, 60, 61], [])) fb_13 (by decide)
    exact hret (⟨hG, hF1, hF2, by unfold wrF; first | (rw [if_pos (by omega)]; done) | (rw [if_neg (by omega), hp_9, hti, hdd]; done)⟩) hU hS dX11_worthOf_24
  ·
    refine lv_iconst (v := 0) hx hb dX11_worthOf_8 (by decide) ?_
    refine lv_goto (tgt := 24) hx hb dX11_worthOf_9 (by decide) ?_
    exact hret (⟨hG, hF1, hF2, by unfold wrF; first | (rw [if_pos (by omega)]; done) | (rw [if_neg (by omega), True.intro, hti, hdd]; done)⟩) hU hS dX11_worthOf_24
