set_option maxHeartbeats 4000000 in
set_option maxRecDepth 100000 in
theorem c_X11_back_x {l : Launch} {D : va_G} {cA : FieldType → ClassId} {sz : Nat} {al : Al} {iv : Iv} {rv : Rv} (hG : GI al iv rv) (pre0 : BX iv rv) (pre1 : Cord iv rv) (pre2 : Cowe iv rv) (pre3 : Cpay iv rv) (pre4 : Cpart iv rv) : Met l yX11_back (wd yX11_back cX11_back 1 (some .int)) (rm 7) (PcW D cA sz al iv rv [.ref (al.2 49 0)]) (QI D cA sz al (fI al ([59, 60, 61, 86, 87], []) iv rv (fun r iv' rv' => bkC (bkZ iv) (fun k => iv' 87 0 k) r ∧ iv' 87 0 0 = 0))) 0 0 (Aq sz) := by
  refine mk_i (by decide) (Nat.le_of_ble_eq_true rfl) rfl ?_
  intro p e s m args below meth c ls Q H locs C hU hS hl hret
  have hx := C.1.1
  have hb := C.1.2.1
  have hl : lv_has ls 1 [(0, .ref (al.2 49 0))] := hl
  have hG0 := hG
  have hF1 : FR ([59, 60, 61, 86, 87], []) iv iv := FR.rf
  have hF2 : FR ([59, 60, 61, 86, 87], []) rv rv := FR.rf
  refine lv_aload_n hx hb dX11_back_0 rfl (lv_at hl 0 rfl) ?_
  refine q_fv (q_runV (t := 49) (i := 0) (As := []) (rest := []) C hU (c_X11_settleUp_x hG  (pre0) (pre1) (pre2) (pre3)) vm_X11_settleUp ml_X11_295 k_49.1 (hc := rfl) rfl (h1_49 hG) hl.1 rfl rfl (Nat.le_of_ble_eq_true rfl) dX11_back_1 rfl rfl ⟨Nat.le_of_ble_eq_true rfl, Nat.le_of_ble_eq_true rfl⟩ ⟨Nat.le_refl _, Nat.le_refl _⟩) hS (fun iv_2 rv_3 H locs hG fa_4 fb_5 hp_1 hU hS => ?_)
  have hF1 := hF1.tr (m := ([59, 60, 61, 86, 87], [])) fa_4 (by decide)
  have hF2 := hF2.tr (m := ([59, 60, 61, 86, 87], [])) fb_5 (by decide)
  refine lv_aload_n hx hb dX11_back_4 rfl (lv_at hl 0 rfl) ?_
  refine g_49_5 C hU hG (h1_49 hG) fl_X11_47 dX11_back_5 ?_
  refine q_fi (q_runV (t := 84) (i := 0) (As := []) (rest := []) C hU (c_X3_fewestPayments_x hG  ((fa_4.arr 87 0 0 (by decide)).trans pre4)) vm_X3_fewestPayments ml_X11_301 k_84.1 (hc := rfl) rfl (h1_84 hG) hl.1 rfl rfl (Nat.le_of_ble_eq_true rfl) dX11_back_8 rfl rfl ⟨Nat.le_of_ble_eq_true rfl, Nat.le_of_ble_eq_true rfl⟩ ⟨Nat.le_refl _, Nat.le_refl _⟩) hS (fun x_11 iv_7 rv_8 H locs hG fa_9 fb_10 hp_6 hU hS => ?_)
  have hF1 := hF1.tr (m := ([59, 60, 61, 86, 87], [])) fa_9 (by decide)
  have hF2 := hF2.tr (m := ([59, 60, 61, 86, 87], [])) fb_10 (by decide)
  exact hret (⟨hG, hF1, hF2, ⟨by rw [← tg_bk hp_1]; exact hp_6.1, hp_6.2⟩⟩) hU hS dX11_back_11
