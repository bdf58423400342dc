set_option maxHeartbeats 4000000 in
set_option maxRecDepth 100000 in
theorem c_X11_pay_x {l : Launch} {D : va_G} {cA : FieldType → ClassId} {sz : Nat} {al : Al} {iv : Iv} {rv : Rv} (hG : GI al iv rv) (cl : Int32) (pp : Int32) (v : Int32) (pre0 : BP iv rv) : Met l yX11_pay (wd yX11_pay cX11_pay 5 (some .int)) (rm 2) (PcW D cA sz al iv rv [.ref (al.2 49 0), .int cl, .int pp, .int v]) (QI D cA sz al (fI al ([51, 89], [(88, 3)]) iv rv (fun r iv' rv' => (spPay iv cl pp v = 0 ∧ r = iv' 88 cl.toNatClampNeg 3 ∧ (∀ i k : Nat, iv' 89 i k = (if i = cl.toNatClampNeg ∧ k = pp.toNatClampNeg then iv 89 cl.toNatClampNeg pp.toNatClampNeg + v else iv 89 i k)) ∧ (∀ k : Nat, iv' 88 k 3 = (if k = cl.toNatClampNeg then iv 88 cl.toNatClampNeg 3 + v else iv 88 k 3))) ∨ (spPay iv cl pp v ≠ 0 ∧ r = spPay iv cl pp v ∧ (∀ i k : Nat, iv' 89 i k = iv 89 i k) ∧ (∀ k : Nat, iv' 88 k 3 = iv 88 k 3))))) 0 0 (Aq sz) := by
  refine mk_i (by decide) (Nat.le_of_ble_eq_true rfl) rfl ?_
  intro p e s m args below meth c ls Q H locs C hU hS hl hret
  have hx := C.1.1
  have hb := C.1.2.1
  have hl : lv_has ls 5 [(0, .ref (al.2 49 0)), (1, .int cl), (2, .int pp), (3, .int v)] := hl
  have hG0 := hG
  have hn41 := congrArg Int32.toInt pre0.1.1
  have hF1 : FR ([51, 89], [(88, 3)]) iv iv := FR.rf
  have hF2 : FR ([51, 89], [(88, 3)]) rv rv := FR.rf
  have km6 : ((-6) : Int32).toInt = -6 := by decide
  have km4 : ((-4) : Int32).toInt = -4 := by decide
  have km1 : ((-1) : Int32).toInt = -1 := by decide
  have k1 : (1 : Int32).toInt = 1 := by decide
  have k5 : (5 : Int32).toInt = 5 := by decide
  have k9999 : (9999 : Int32).toInt = 9999 := by decide
  have k99999 : (99999 : Int32).toInt = 99999 := by decide
  refine lv_aload_n hx hb dX11_pay_0 rfl (lv_at hl 0 rfl) ?_
  refine g_49_5 C hU hG (h1_49 hG) fl_X11_47 dX11_pay_1 ?_
  refine lv_iload_n hx hb dX11_pay_4 rfl (lv_at hl 1 rfl) ?_
  refine q_pr (q_runV (t := 84) (i := 0) (As := [.int cl]) (rest := []) C hU (c_X3_find hG cl ) vm_X3_find ml_X11_261 k_84.1 (hc := rfl) rfl (h1_84 hG) hl.1 rfl rfl (Nat.le_of_ble_eq_true rfl) dX11_pay_5 rfl rfl ⟨Nat.le_of_ble_eq_true rfl, Nat.le_of_ble_eq_true rfl⟩ ⟨Nat.le_refl _, Nat.le_refl _⟩) hS (fun r_2 H locs hp_1 hU hS => ?_)
  have hb_3 := hp_1.1
  refine b_astore (lv' := [(4, rfv al 88 r_2), (0, .ref (al.2 49 0)), (1, .int cl), (2, .int pp), (3, .int v)]) hx hb dX11_pay_8 hl (by decide) rfl (fun ls hl => ?_)
  refine b_aload (al := al) (t' := 88) (r := r_2) hx hb dX11_pay_10 (lv_at hl 0 rfl) ?_
  refine b_ifnull (tgt := 23) hx hb dX11_pay_12 (by decide) (fun ej_6 => ?_) (fun j_5 ej_6 => ?_)
  ·
    subst ej_6
    have hl : lv_has ls 5 [(4, rfv al 88 none), (0, .ref (al.2 49 0)), (1, .int cl), (2, .int pp), (3, .int v)] := hl
    have hq4 := hp_1.2.2 rfl
    refine lv_aload_n hx hb dX11_pay_23 rfl (lv_at hl 1 rfl) ?_
    refine lv_iconst (v := (-1)) hx hb dX11_pay_24 (by decide) ?_
    refine q_fi (q_runV (t := 49) (i := 0) (As := [.int (-1)]) (rest := []) C hU (c_X11_refuse hG (-1) (by omega)) vm_X11_refuse ml_X11_77 k_49.1 (hc := rfl) rfl (h1_49 hG) hl.1 rfl rfl (Nat.le_of_ble_eq_true rfl) dX11_pay_25 rfl rfl ⟨Nat.le_of_ble_eq_true rfl, Nat.le_of_ble_eq_true rfl⟩ ⟨Nat.le_refl _, Nat.le_refl _⟩) hS (fun x_12 iv_8 rv_9 H locs hG fa_10 fb_11 hp_7 hU hS => ?_)
    have hF1 := hF1.tr (m := ([51, 89], [(88, 3)])) fa_10 (by decide)
    have hF2 := hF2.tr (m := ([51, 89], [(88, 3)])) fb_11 (by decide)
    exact hret (⟨hG, hF1, hF2, sp_no (z := (-1)) (by unfold spPay; (repeat' split) <;> first | rfl | omega) (by decide) hp_7 (⟨fun i k => fa_10.arr 89 i k (by decide), fun k => fa_10 88 k 3 (by decide)⟩)⟩) hU hS dX11_pay_28
  ·
    subst ej_6
    have hl : lv_has ls 5 [(4, .ref (al.2 88 j_5)), (0, .ref (al.2 49 0)), (1, .int cl), (2, .int pp), (3, .int v)] := hl
    have hb_13 : j_5 < al.1 88 := hb_3 j_5 rfl
    have hq4 := hp_1.2.1 _ rfl
    have hn4 := hq4.1
    rw [clamp_n] at hn4
    refine lv_iconst (v := 5) hx hb dX11_pay_15 (by decide) ?_
    refine lv_iload_n hx hb dX11_pay_16 rfl (lv_at hl 3 rfl) ?_
    refine q_pi (q_runS (As := [.int 5, .int pp]) (rest := []) C hU (c_X11_isOneOf  5 pp ) sm_X11_isOneOf ml_X11_85 hl.1 rfl rfl (Nat.le_of_ble_eq_true rfl) dX11_pay_17 rfl rfl ⟨Nat.le_of_ble_eq_true rfl, Nat.le_of_ble_eq_true rfl⟩ ⟨Nat.le_refl _, Nat.le_refl _⟩) hS (fun x_15 H locs hp_14 hU hS => ?_)
    refine b_if_ne (tgt := 29) hx hb dX11_pay_20 (by decide) (fun c_16 => ?_) (fun c_16 => ?_)
    ·
      refine lv_iload_n hx hb dX11_pay_29 rfl (lv_at hl 4 rfl) ?_
      refine lv_iconst (v := 1) hx hb dX11_pay_30 (by decide) ?_
      refine b_icmp_ge (tgt := 41) hx hb dX11_pay_31 (by decide) (fun c_17 => ?_) (fun c_17 => ?_)
      ·
        refine lv_iload_n hx hb dX11_pay_41 rfl (lv_at hl 4 rfl) ?_
        refine lv_sipush (v := 9999) hx hb dX11_pay_42 (by decide) ?_
        refine b_icmp_gt (tgt := 61) hx hb dX11_pay_45 (by decide) (fun c_18 => ?_) (fun c_18 => ?_)
        ·
          refine lv_aload_n hx hb dX11_pay_61 rfl (lv_at hl 1 rfl) ?_
          refine lv_bipush (v := (-6)) hx hb dX11_pay_62 (by decide) ?_
          refine q_fi (q_runV (t := 49) (i := 0) (As := [.int (-6)]) (rest := []) C hU (c_X11_refuse hG (-6) (by omega)) vm_X11_refuse ml_X11_77 k_49.1 (hc := rfl) rfl (h1_49 hG) hl.1 rfl rfl (Nat.le_of_ble_eq_true rfl) dX11_pay_64 rfl rfl ⟨Nat.le_of_ble_eq_true rfl, Nat.le_of_ble_eq_true rfl⟩ ⟨Nat.le_refl _, Nat.le_refl _⟩) hS (fun x_24 iv_20 rv_21 H locs hG fa_22 fb_23 hp_19 hU hS => ?_)
          have hF1 := hF1.tr (m := ([51, 89], [(88, 3)])) fa_22 (by decide)
          have hF2 := hF2.tr (m := ([51, 89], [(88, 3)])) fb_23 (by decide)
          exact hret (⟨hG, hF1, hF2, sp_no (z := (-6)) (by unfold spPay; (repeat' split) <;> first | rfl | omega) (by decide) hp_19 (⟨fun i k => fa_22.arr 89 i k (by decide), fun k => fa_22 88 k 3 (by decide)⟩)⟩) hU hS dX11_pay_67
        ·
          refine lv_aload hx hb dX11_pay_48 (lv_at hl 0 rfl) ?_
          refine g_88_3 C hU hG hb_13 fl_X11_282 dX11_pay_50 (fun x_25 e_26 => ?_)
          have te_26 := congrArg Int32.toInt e_26
          refine lv_iload_n hx hb dX11_pay_53 rfl (lv_at hl 4 rfl) ?_
          refine lv_iadd hx hb dX11_pay_54 ?_
          refine lv_topi (fun x_27 e_28 => ?_)
          have h54 := e_28
          rw [e_26, hq4.1, pre0.2.2.1 cl.toNatClampNeg (by have z := ix_nat (x := cl) (by omega); omega)] at h54
          have t54 := congrArg Int32.toInt h54
          refine lv_ldcw (v := 99999) hx hb C.1.2.2.2.1 (C.1.2.2.2.2 _ ct_X11_288) dX11_pay_55 ?_
          refine b_icmp_le (tgt := 68) hx hb dX11_pay_58 (by decide) (fun c_29 => ?_) (fun c_29 => ?_)
          ·
            refine lv_aload hx hb dX11_pay_68 (lv_at hl 0 rfl) ?_
            refine g_88_2 C hU hG hb_13 fl_X11_289 dX11_pay_70 (fun hb_30 => ?_)
            refine lv_iload_n hx hb dX11_pay_73 rfl (lv_at hl 3 rfl) ?_
            refine lv_dup2_11 hx hb dX11_pay_74 rfl rfl ?_
            refine a_89 C hU hG hb_30 (x := pp) (by omega) (by omega) dX11_pay_75 (fun x_31 e_32 => ?_)
            have te_32 := congrArg Int32.toInt e_32
            refine lv_iload_n hx hb dX11_pay_76 rfl (lv_at hl 4 rfl) ?_
            refine lv_iadd hx hb dX11_pay_77 ?_
            refine lv_topi (fun x_33 e_34 => ?_)
            refine s_89 C hU hS hb_30 (x := pp) (by omega) (by omega) dX11_pay_78 (fun iv_35 H locs ei_36 hU hS => ?_)
            have hG : GI al iv_35 rv := by rw [ei_36]; exact hG.puti (show _ ∧ _ from ⟨(fb_rng _).1, Int.le_of_lt_add_one (fb_rng _).2⟩) (nsA (by decide) _)
            have hF1 : FR ([51, 89], [(88, 3)]) iv iv_35 := by rw [ei_36]; exact hF1.put (Or.inl (by decide))
            refine lv_aload hx hb dX11_pay_79 (lv_at hl 0 rfl) ?_
            refine lv_dup hx hb dX11_pay_81 rfl ?_
            refine g_88_3 C hU hG hb_13 fl_X11_282 dX11_pay_82 (fun x_37 e_38 => ?_)
            have te_38 := congrArg Int32.toInt e_38
            refine lv_iload_n hx hb dX11_pay_85 rfl (lv_at hl 4 rfl) ?_
            refine lv_iadd hx hb dX11_pay_86 ?_
            refine lv_topi (fun x_39 e_40 => ?_)
            refine p_88_3 C hU hS hb_13 fl_X11_282 dX11_pay_87 (fun iv_41 H locs ei_42 hU hS => ?_)
            have hG : GI al iv_41 rv := by rw [ei_42]; exact hG.puti (show _ ∧ _ from ⟨(fb_rng _).1, Int.le_of_lt_add_one (fb_rng _).2⟩) (nsF (by decide))
            have hF1 : FR ([51, 89], [(88, 3)]) iv iv_41 := by rw [ei_42]; exact hF1.put (by decide)
            refine lv_aload hx hb dX11_pay_90 (lv_at hl 0 rfl) ?_
            refine g_88_3 C hU hG hb_13 fl_X11_282 dX11_pay_92 (fun x_43 e_44 => ?_)
            have te_44 := congrArg Int32.toInt e_44
            exact hret (⟨hG, hF1, hF2, Or.inl ⟨(by unfold spPay; (repeat' split) <;> first | rfl | omega), by rw [e_44, hq4.1], fun i k => by rw [ei_42, up3_ne (fun z => absurd z.1 (by decide)), ei_36, hq4.1]; exact py_x e_32 e_34 hq4.1, fun k => by rw [ei_42, hq4.1]; exact py_s e_38 e_40 ei_36 hq4.1⟩⟩) hU hS dX11_pay_95
          ·
            refine lv_aload_n hx hb dX11_pay_61 rfl (lv_at hl 1 rfl) ?_
            refine lv_bipush (v := (-6)) hx hb dX11_pay_62 (by decide) ?_
            refine q_fi (q_runV (t := 49) (i := 0) (As := [.int (-6)]) (rest := []) C hU (c_X11_refuse hG (-6) (by omega)) vm_X11_refuse ml_X11_77 k_49.1 (hc := rfl) rfl (h1_49 hG) hl.1 rfl rfl (Nat.le_of_ble_eq_true rfl) dX11_pay_64 rfl rfl ⟨Nat.le_of_ble_eq_true rfl, Nat.le_of_ble_eq_true rfl⟩ ⟨Nat.le_refl _, Nat.le_refl _⟩) hS (fun x_50 iv_46 rv_47 H locs hG fa_48 fb_49 hp_45 hU hS => ?_)
            have hF1 := hF1.tr (m := ([51, 89], [(88, 3)])) fa_48 (by decide)
            have hF2 := hF2.tr (m := ([51, 89], [(88, 3)])) fb_49 (by decide)
            exact hret (⟨hG, hF1, hF2, sp_no (z := (-6)) (by unfold spPay; (repeat' split) <;> first | rfl | omega) (by decide) hp_45 (⟨fun i k => fa_48.arr 89 i k (by decide), fun k => fa_48 88 k 3 (by decide)⟩)⟩) hU hS dX11_pay_67
      ·
        refine lv_aload_n hx hb dX11_pay_34 rfl (lv_at hl 1 rfl) ?_
        refine lv_bipush (v := (-4)) hx hb dX11_pay_35 (by decide) ?_
        refine q_fi (q_runV (t := 49) (i := 0) (As := [.int (-4)]) (rest := []) C hU (c_X11_refuse hG (-4) (by omega)) vm_X11_refuse ml_X11_77 k_49.1 (hc := rfl) rfl (h1_49 hG) hl.1 rfl rfl (Nat.le_of_ble_eq_true rfl) dX11_pay_37 rfl rfl ⟨Nat.le_of_ble_eq_true rfl, Nat.le_of_ble_eq_true rfl⟩ ⟨Nat.le_refl _, Nat.le_refl _⟩) hS (fun x_56 iv_52 rv_53 H locs hG fa_54 fb_55 hp_51 hU hS => ?_)
        have hF1 := hF1.tr (m := ([51, 89], [(88, 3)])) fa_54 (by decide)
        have hF2 := hF2.tr (m := ([51, 89], [(88, 3)])) fb_55 (by decide)
        exact hret (⟨hG, hF1, hF2, sp_no (z := (-4)) (by unfold spPay; (repeat' split) <;> first | rfl | omega) (by decide) hp_51 (⟨fun i k => fa_54.arr 89 i k (by decide), fun k => fa_54 88 k 3 (by decide)⟩)⟩) hU hS dX11_pay_40
    ·
      refine lv_aload_n hx hb dX11_pay_23 rfl (lv_at hl 1 rfl) ?_
      refine lv_iconst (v := (-1)) hx hb dX11_pay_24 (by decide) ?_
      refine q_fi (q_runV (t := 49) (i := 0) (As := [.int (-1)]) (rest := []) C hU (c_X11_refuse hG (-1) (by omega)) vm_X11_refuse ml_X11_77 k_49.1 (hc := rfl) rfl (h1_49 hG) hl.1 rfl rfl (Nat.le_of_ble_eq_true rfl) dX11_pay_25 rfl rfl ⟨Nat.le_of_ble_eq_true rfl, Nat.le_of_ble_eq_true rfl⟩ ⟨Nat.le_refl _, Nat.le_refl _⟩) hS (fun x_62 iv_58 rv_59 H locs hG fa_60 fb_61 hp_57 hU hS => ?_)
      have hF1 := hF1.tr (m := ([51, 89], [(88, 3)])) fa_60 (by decide)
      have hF2 := hF2.tr (m := ([51, 89], [(88, 3)])) fb_61 (by decide)
      exact hret (⟨hG, hF1, hF2, sp_no (z := (-1)) (by unfold spPay; (repeat' split) <;> first | rfl | omega) (by decide) hp_57 (⟨fun i k => fa_60.arr 89 i k (by decide), fun k => fa_60 88 k 3 (by decide)⟩)⟩) hU hS dX11_pay_28
