section
set_option maxHeartbeats 4000000 in
set_option maxRecDepth 100000 in
theorem c_X11_set {l : Launch} {D : va_G} {cA : FieldType → ClassId} {sz : Nat} {al : Al} {iv : Iv} {rv : Rv} (hG : GI al iv rv) (wh : Int32) (v : Int32) : Met l yX11_set (wd yX11_set cX11_set 4 (some .int)) (rm 2) (PcA D cA sz al iv rv [.ref (al.2 49 0), .int wh, .int v] (fun U => SX cA sz U U.heap)) (QI D cA sz al (fI al ([51, 50], []) iv rv (fun r iv' rv' => True))) 0 0 (Aq sz) := by
  refine mk_is (by decide) (Nat.le_of_ble_eq_true rfl) rfl ?_
  intro p e s m args below meth c ls Q H locs C hU hS hX hz0 hl hret
  have hx := C.1.1
  have hb := C.1.2.1
  have hl : lv_has ls 4 [(0, .ref (al.2 49 0)), (1, .int wh), (2, .int v)] := hl
  have hG0 := hG
  have hF1 : FR ([51, 50], []) iv iv := FR.rf
  have hF2 : FR ([51, 50], []) rv rv := FR.rf
  have km6 : ((-6) : Int32).toInt = -6 := by decide
  have km4 : ((-4) : Int32).toInt = -4 := by decide
  have km2 : ((-2) : Int32).toInt = -2 := by decide
  have k4 : (4 : Int32).toInt = 4 := by decide
  refine lv_aload_n hx hb dX11_set_0 rfl (lv_at hl 0 rfl) ?_
  refine g_49_7 C hU hG (h1_49 hG) fl_X11_67 dX11_set_1 ?_
  refine q_alen (t := 50) (v := 4) C hU k_50 (by decide) (h1_50 hG) (by decide) dX11_set_4 ?_
  refine lv_iload_n hx hb dX11_set_5 rfl (lv_at hl 1 rfl) ?_
  refine q_pi (q_runS (As := [.int 4, .int wh]) (rest := []) C hU (c_X11_isOneOf  4 wh ) sm_X11_isOneOf ml_X11_85 hl.1 rfl rfl (Nat.le_of_ble_eq_true rfl) dX11_set_6 rfl rfl ⟨Nat.le_of_ble_eq_true rfl, Nat.le_of_ble_eq_true rfl⟩ ⟨Nat.le_refl _, Nat.le_refl _⟩) hS (fun x_2 H locs hp_1 hU hS => ?_)
  refine b_if_ne (tgt := 19) hx hb dX11_set_9 (by decide) (fun c_3 => ?_) (fun c_3 => ?_)
  ·
    refine lv_iload_n hx hb dX11_set_19 rfl (lv_at hl 2 rfl) ?_
    obtain ⟨ta_4, zta_4, yta_4⟩ := hX.2.1
    refine q_gets C zta_4 hS fl_X11_139 dX11_set_20 ?_
    refine lv_iload_n hx hb dX11_set_23 rfl (lv_at hl 1 rfl) ?_
    refine va_ti (v := .int (lst4 (wh : Int32).toNatClampNeg)) hx hb yta_4 hS (ix_in (by omega) (by omega)) rfl dX11_set_24 ?_
    refine lv_topi (fun x_5 e_6 => ?_)
    have te_6 : 0 ≤ x_5.toInt ∧ x_5.toInt ≤ 900 := by rw [e_6]; exact lst4_rng _
    refine b_icmp_ge (tgt := 35) hx hb dX11_set_25 (by decide) (fun c_7 => ?_) (fun c_7 => ?_)
    ·
      refine lv_iload_n hx hb dX11_set_35 rfl (lv_at hl 2 rfl) ?_
      obtain ⟨ta_8, zta_8, yta_8⟩ := hX.2.2.1
      refine q_gets C zta_8 hS fl_X11_142 dX11_set_36 ?_
      refine lv_iload_n hx hb dX11_set_39 rfl (lv_at hl 1 rfl) ?_
      refine va_ti (v := .int (grt4 (wh : Int32).toNatClampNeg)) hx hb yta_8 hS (ix_in (by omega) (by omega)) rfl dX11_set_40 ?_
      refine lv_topi (fun x_9 e_10 => ?_)
      have te_10 : 0 ≤ x_9.toInt ∧ x_9.toInt ≤ 900 := by rw [e_10]; exact grt4_rng _
      refine b_icmp_le (tgt := 51) hx hb dX11_set_41 (by decide) (fun c_11 => ?_) (fun c_11 => ?_)
      ·
        refine lv_aload_n hx hb dX11_set_51 rfl (lv_at hl 0 rfl) ?_
        refine g_49_7 C hU hG (h1_49 hG) fl_X11_67 dX11_set_52 ?_
        refine lv_iload_n hx hb dX11_set_55 rfl (lv_at hl 1 rfl) ?_
        refine a_50 C hU hG (h1_50 hG) (x := wh) (by omega) (by omega) dX11_set_56 (fun x_12 e_13 le_13 ue_13 => ?_)
        have te_13 := congrArg Int32.toInt e_13
        refine lv_istore_n (lv' := [(3, .int x_12), (0, .ref (al.2 49 0)), (1, .int wh), (2, .int v)]) hx hb dX11_set_57 rfl hl (by decide) rfl (fun ls hl => ?_)
        refine lv_aload_n hx hb dX11_set_58 rfl (lv_at hl 1 rfl) ?_
        refine g_49_7 C hU hG (h1_49 hG) fl_X11_67 dX11_set_59 ?_
        refine lv_iload_n hx hb dX11_set_62 rfl (lv_at hl 2 rfl) ?_
        refine lv_iload_n hx hb dX11_set_63 rfl (lv_at hl 3 rfl) ?_
        refine s_50 C hU hS (h1_50 hG) (x := wh) (by omega) (by omega) dX11_set_64 (fun iv_14 H locs ei_15 hU hS => ?_)
        have hG : GI al iv_14 rv := by rw [ei_15]; exact hG.puti (show _ ∧ _ from ⟨show (0 : Int) ≤ _ by omega, show _ ≤ (900 : Int) by omega⟩) (nsA (by decide) _)
        have hF1 : FR ([51, 50], []) iv iv_14 := by rw [ei_15]; exact hF1.put (Or.inl (by decide))
        refine lv_iload_n hx hb dX11_set_65 rfl (lv_at hl 0 rfl) ?_
        exact hret (⟨hG, hF1, hF2, trivial⟩) hU hS dX11_set_66
      ·
        refine lv_aload_n hx hb dX11_set_44 rfl (lv_at hl 0 rfl) ?_
        refine lv_bipush (v := (-6)) hx hb dX11_set_45 (by decide) ?_
        refine q_fi (q_runV (t := 49) (i := 0) (As := [.int (-6)]) (rest := []) C hU (c_X11_refuse hG (-6) (by omega)) vm_X11_refuse ml_X11_77 k_49.1 (hc := rfl) rfl (h1_49 hG) hl.1 rfl rfl (Nat.le_of_ble_eq_true rfl) dX11_set_47 rfl rfl ⟨Nat.le_of_ble_eq_true rfl, Nat.le_of_ble_eq_true rfl⟩ ⟨Nat.le_refl _, Nat.le_refl _⟩) hS (fun x_21 iv_17 rv_18 H locs hG fa_19 fb_20 hp_16 hU hS => ?_)
        have hF1 := hF1.tr (m := ([51, 50], [])) fa_19 (by decide)
        have hF2 := hF2.tr (m := ([51, 50], [])) fb_20 (by decide)
        exact hret (⟨hG, hF1, hF2, trivial⟩) hU hS dX11_set_50
    ·
      refine lv_aload_n hx hb dX11_set_28 rfl (lv_at hl 0 rfl) ?_
      refine lv_bipush (v := (-4)) hx hb dX11_set_29 (by decide) ?_
      refine q_fi (q_runV (t := 49) (i := 0) (As := [.int (-4)]) (rest := []) C hU (c_X11_refuse hG (-4) (by omega)) vm_X11_refuse ml_X11_77 k_49.1 (hc := rfl) rfl (h1_49 hG) hl.1 rfl rfl (Nat.le_of_ble_eq_true rfl) dX11_set_31 rfl rfl ⟨Nat.le_of_ble_eq_true rfl, Nat.le_of_ble_eq_true rfl⟩ ⟨Nat.le_refl _, Nat.le_refl _⟩) hS (fun x_27 iv_23 rv_24 H locs hG fa_25 fb_26 hp_22 hU hS => ?_)
      have hF1 := hF1.tr (m := ([51, 50], [])) fa_25 (by decide)
      have hF2 := hF2.tr (m := ([51, 50], [])) fb_26 (by decide)
      exact hret (⟨hG, hF1, hF2, trivial⟩) hU hS dX11_set_34
  ·
    refine lv_aload_n hx hb dX11_set_12 rfl (lv_at hl 0 rfl) ?_
    refine lv_bipush (v := (-2)) hx hb dX11_set_13 (by decide) ?_
    refine q_fi (q_runV (t := 49) (i := 0) (As := [.int (-2)]) (rest := []) C hU (c_X11_refuse hG (-2) (by omega)) vm_X11_refuse ml_X11_77 k_49.1 (hc := rfl) rfl (h1_49 hG) hl.1 rfl rfl (Nat.le_of_ble_eq_true rfl) dX11_set_15 rfl rfl ⟨Nat.le_of_ble_eq_true rfl, Nat.le_of_ble_eq_true rfl⟩ ⟨Nat.le_refl _, Nat.le_refl _⟩) hS (fun x_33 iv_29 rv_30 H locs hG fa_31 fb_32 hp_28 hU hS => ?_)
    have hF1 := hF1.tr (m := ([51, 50], [])) fa_31 (by decide)
    have hF2 := hF2.tr (m := ([51, 50], [])) fb_32 (by decide)
    exact hret (⟨hG, hF1, hF2, trivial⟩) hU hS dX11_set_18
set_option maxHeartbeats 4000000 in
set_option maxRecDepth 100000 in
theorem c_X11_leg {l : Launch} {D : va_G} {cA : FieldType → ClassId} {sz : Nat} {al : Al} {iv : Iv} {rv : Rv} (hG : GI al iv rv) (a : Int32) (b : Int32) (pl : Int32) (cr : Int32) (lv_ : Int32) (ar : Int32) : Met l yX11_leg (wd yX11_leg cX11_leg 9 (some .int)) (rmA 3 1 15) (PcA D cA sz al iv rv [.ref (al.2 49 0), .int a, .int b, .int pl, .int cr, .int lv_, .int ar] (fun _ => True)) (QIA D cA sz (fun r al' iv' rv' => GI al' iv' rv' ∧ EX ([51, 58], [(57, 1)]) al iv rv al' iv' rv' ∧ (True))) 1 15 (Aq sz) := by
  refine mk_ia (by decide) (Nat.le_of_ble_eq_true rfl) rfl ?_
  intro p e s m args below meth c ls Q H locs C hU hS hX hz0 hl hret
  have hx := C.1.1
  have hb := C.1.2.1
  have hl : lv_has ls 9 [(0, .ref (al.2 49 0)), (1, .int a), (2, .int b), (3, .int pl), (4, .int cr), (5, .int lv_), (6, .int ar)] := hl
  have hG0 := hG
  have hF1 : FR ([51, 58], [(57, 1)]) iv iv := FR.rf
  have hF2 : FR ([51, 58], [(57, 1)]) rv rv := FR.rf
  have km6 : ((-6) : Int32).toInt = -6 := by decide
  have km4 : ((-4) : Int32).toInt = -4 := by decide
  have km1 : ((-1) : Int32).toInt = -1 := by decide
  have k6 : (6 : Int32).toInt = 6 := by decide
  have k20000 : (20000 : Int32).toInt = 20000 := by decide
  refine lv_aload_n hx hb dX11_leg_0 rfl (lv_at hl 0 rfl) ?_
  refine g_49_0 C hU hG (h1_49 hG) fl_X11_10 dX11_leg_1 ?_
  refine lv_iload_n hx hb dX11_leg_4 rfl (lv_at hl 1 rfl) ?_
  refine q_pr (q_runV (t := 52) (i := 0) (As := [.int a]) (rest := []) C hU (c_X7_find hG a ) vm_X7_find ml_X11_81 k_52.1 (hc := rfl) rfl (h1_52 hG) hl.1 rfl rfl (Nat.le_of_ble_eq_true rfl) dX11_leg_5 rfl rfl ⟨Nat.le_of_ble_eq_true rfl, Nat.le_of_ble_eq_true rfl⟩ ⟨Nat.le_of_ble_eq_true rfl, Nat.le_of_ble_eq_true rfl⟩) hS (fun r_2 H locs hp_1 hU hS => ?_)
  have hb_3 := hp_1.1
  refine b_astore (lv' := [(7, rfv al 56 r_2), (0, .ref (al.2 49 0)), (1, .int a), (2, .int b), (3, .int pl), (4, .int cr), (5, .int lv_), (6, .int ar)]) hx hb dX11_leg_8 hl (by decide) rfl (fun ls hl => ?_)
  refine lv_aload_n hx hb dX11_leg_10 rfl (lv_at hl 1 rfl) ?_
  refine g_49_0 C hU hG (h1_49 hG) fl_X11_10 dX11_leg_11 ?_
  refine lv_iload_n hx hb dX11_leg_14 rfl (lv_at hl 3 rfl) ?_
  refine q_pr (q_runV (t := 52) (i := 0) (As := [.int b]) (rest := []) C hU (c_X7_find hG b ) vm_X7_find ml_X11_81 k_52.1 (hc := rfl) rfl (h1_52 hG) hl.1 rfl rfl (Nat.le_of_ble_eq_true rfl) dX11_leg_15 rfl rfl ⟨Nat.le_of_ble_eq_true rfl, Nat.le_of_ble_eq_true rfl⟩ ⟨Nat.le_of_ble_eq_true rfl, Nat.le_of_ble_eq_true rfl⟩) hS (fun r_5 H locs hp_4 hU hS => ?_)
  have hb_6 := hp_4.1
  refine b_astore (lv' := [(8, rfv al 56 r_5), (7, rfv al 56 r_2), (0, .ref (al.2 49 0)), (1, .int a), (2, .int b), (3, .int pl), (4, .int cr), (5, .int lv_), (6, .int ar)]) hx hb dX11_leg_18 hl (by decide) (by simp [List.filter_cons, rfv_cat]) (fun ls hl => ?_)
  refine b_aload (al := al) (t' := 56) (r := r_2) hx hb dX11_leg_20 (lv_at hl 1 rfl) ?_
  refine b_ifnull (tgt := 37) hx hb dX11_leg_22 (by decide) (fun ej_9 => ?_) (fun j_8 ej_9 => ?_)
  ·
    subst ej_9
    have hl : lv_has ls 9 [(8, rfv al 56 r_5), (7, rfv al 56 none), (0, .ref (al.2 49 0)), (1, .int a), (2, .int b), (3, .int pl), (4, .int cr), (5, .int lv_), (6, .int ar)] := hl
    refine lv_aload_n hx hb dX11_leg_37 rfl (lv_at hl 2 rfl) ?_
    refine lv_iconst (v := (-1)) hx hb dX11_leg_38 (by decide) ?_
    refine q_fi (q_runV (t := 49) (i := 0) (As := [.int (-1)]) (rest := []) C hU (c_X11_refuse hG (-1) (by omega)) vm_X11_refuse ml_X11_77 k_49.1 (hc := rfl) rfl (h1_49 hG) hl.1 rfl rfl (Nat.le_of_ble_eq_true rfl) dX11_leg_39 rfl rfl ⟨Nat.le_of_ble_eq_true rfl, Nat.le_of_ble_eq_true rfl⟩ ⟨Nat.le_of_ble_eq_true rfl, Nat.le_of_ble_eq_true rfl⟩) hS (fun x_15 iv_11 rv_12 H locs hG fa_13 fb_14 hp_10 hU hS => ?_)
    have hF1 := hF1.tr (m := ([51, 58], [(57, 1)])) fa_13 (by decide)
    have hF2 := hF2.tr (m := ([51, 58], [(57, 1)])) fb_14 (by decide)
    refine W.widen (k := 1) (n := 15) (Nat.zero_le _) (Nat.zero_le _) ?_
    exact hret (⟨hG, EX.of hF1 hF2, trivial⟩) hU hS dX11_leg_42
  ·
    subst ej_9
    have hl : lv_has ls 9 [(8, rfv al 56 r_5), (7, .ref (al.2 56 j_8)), (0, .ref (al.2 49 0)), (1, .int a), (2, .int b), (3, .int pl), (4, .int cr), (5, .int lv_), (6, .int ar)] := hl
    have hb_16 : j_8 < al.1 56 := hb_3 j_8 rfl
    refine b_aload (al := al) (t' := 56) (r := r_5) hx hb dX11_leg_25 (lv_at hl 0 rfl) ?_
    refine b_ifnull (tgt := 37) hx hb dX11_leg_27 (by decide) (fun ej_19 => ?_) (fun j_18 ej_19 => ?_)
    ·
      subst ej_19
      have hl : lv_has ls 9 [(8, rfv al 56 none), (7, .ref (al.2 56 j_8)), (0, .ref (al.2 49 0)), (1, .int a), (2, .int b), (3, .int pl), (4, .int cr), (5, .int lv_), (6, .int ar)] := hl
      refine lv_aload_n hx hb dX11_leg_37 rfl (lv_at hl 2 rfl) ?_
      refine lv_iconst (v := (-1)) hx hb dX11_leg_38 (by decide) ?_
      refine q_fi (q_runV (t := 49) (i := 0) (As := [.int (-1)]) (rest := []) C hU (c_X11_refuse hG (-1) (by omega)) vm_X11_refuse ml_X11_77 k_49.1 (hc := rfl) rfl (h1_49 hG) hl.1 rfl rfl (Nat.le_of_ble_eq_true rfl) dX11_leg_39 rfl rfl ⟨Nat.le_of_ble_eq_true rfl, Nat.le_of_ble_eq_true rfl⟩ ⟨Nat.le_of_ble_eq_true rfl, Nat.le_of_ble_eq_true rfl⟩) hS (fun x_25 iv_21 rv_22 H locs hG fa_23 fb_24 hp_20 hU hS => ?_)
      have hF1 := hF1.tr (m := ([51, 58], [(57, 1)])) fa_23 (by decide)
      have hF2 := hF2.tr (m := ([51, 58], [(57, 1)])) fb_24 (by decide)
      refine W.widen (k := 1) (n := 15) (Nat.zero_le _) (Nat.zero_le _) ?_
      exact hret (⟨hG, EX.of hF1 hF2, trivial⟩) hU hS dX11_leg_42
    ·
      subst ej_19
      have hl : lv_has ls 9 [(8, .ref (al.2 56 j_18)), (7, .ref (al.2 56 j_8)), (0, .ref (al.2 49 0)), (1, .int a), (2, .int b), (3, .int pl), (4, .int cr), (5, .int lv_), (6, .int ar)] := hl
      have hb_26 : j_18 < al.1 56 := hb_6 j_18 rfl
      refine lv_aload hx hb dX11_leg_30 (lv_at hl 1 rfl) ?_
      refine lv_aload hx hb dX11_leg_32 (lv_at hl 0 rfl) ?_
      refine b_acmp_ne (tgt := 43) hx hb hU hb_16 hb_26 dX11_leg_34 (by decide) (fun c_27 => ?_) (fun c_27 => ?_)
      ·
        refine lv_bipush (v := 6) hx hb dX11_leg_43 (by decide) ?_
        refine lv_iload_n hx hb dX11_leg_45 rfl (lv_at hl 5 rfl) ?_
        refine q_pi (q_runS (As := [.int 6, .int pl]) (rest := []) C hU (c_X11_isOneOf  6 pl ) sm_X11_isOneOf ml_X11_85 hl.1 rfl rfl (Nat.le_of_ble_eq_true rfl) dX11_leg_46 rfl rfl ⟨Nat.le_of_ble_eq_true rfl, Nat.le_of_ble_eq_true rfl⟩ ⟨Nat.le_of_ble_eq_true rfl, Nat.le_of_ble_eq_true rfl⟩) hS (fun x_29 H locs hp_28 hU hS => ?_)
        refine b_if_eq (tgt := 62) hx hb dX11_leg_49 (by decide) (fun c_30 => ?_) (fun c_30 => ?_)
        ·
          refine lv_aload_n hx hb dX11_leg_62 rfl (lv_at hl 2 rfl) ?_
          refine lv_iconst (v := (-1)) hx hb dX11_leg_63 (by decide) ?_
          refine q_fi (q_runV (t := 49) (i := 0) (As := [.int (-1)]) (rest := []) C hU (c_X11_refuse hG (-1) (by omega)) vm_X11_refuse ml_X11_77 k_49.1 (hc := rfl) rfl (h1_49 hG) hl.1 rfl rfl (Nat.le_of_ble_eq_true rfl) dX11_leg_64 rfl rfl ⟨Nat.le_of_ble_eq_true rfl, Nat.le_of_ble_eq_true rfl⟩ ⟨Nat.le_of_ble_eq_true rfl, Nat.le_of_ble_eq_true rfl⟩) hS (fun x_36 iv_32 rv_33 H locs hG fa_34 fb_35 hp_31 hU hS => ?_)
          have hF1 := hF1.tr (m := ([51, 58], [(57, 1)])) fa_34 (by decide)
          have hF2 := hF2.tr (m := ([51, 58], [(57, 1)])) fb_35 (by decide)
          refine W.widen (k := 1) (n := 15) (Nat.zero_le _) (Nat.zero_le _) ?_
          exact hret (⟨hG, EX.of hF1 hF2, trivial⟩) hU hS dX11_leg_67
        ·
          refine lv_bipush (v := 6) hx hb dX11_leg_52 (by decide) ?_
          refine lv_iload hx hb dX11_leg_54 (lv_at hl 6 rfl) ?_
          refine q_pi (q_runS (As := [.int 6, .int cr]) (rest := []) C hU (c_X11_isOneOf  6 cr ) sm_X11_isOneOf ml_X11_85 hl.1 rfl rfl (Nat.le_of_ble_eq_true rfl) dX11_leg_56 rfl rfl ⟨Nat.le_of_ble_eq_true rfl, Nat.le_of_ble_eq_true rfl⟩ ⟨Nat.le_of_ble_eq_true rfl, Nat.le_of_ble_eq_true rfl⟩) hS (fun x_38 H locs hp_37 hU hS => ?_)
          refine b_if_ne (tgt := 68) hx hb dX11_leg_59 (by decide) (fun c_39 => ?_) (fun c_39 => ?_)
          ·
            refine lv_iload hx hb dX11_leg_68 (lv_at hl 7 rfl) ?_
            refine b_if_lt (tgt := 80) hx hb dX11_leg_70 (by decide) (fun c_40 => ?_) (fun c_40 => ?_)
            ·
              refine lv_aload_n hx hb dX11_leg_80 rfl (lv_at hl 2 rfl) ?_
              refine lv_bipush (v := (-4)) hx hb dX11_leg_81 (by decide) ?_
              refine q_fi (q_runV (t := 49) (i := 0) (As := [.int (-4)]) (rest := []) C hU (c_X11_refuse hG (-4) (by omega)) vm_X11_refuse ml_X11_77 k_49.1 (hc := rfl) rfl (h1_49 hG) hl.1 rfl rfl (Nat.le_of_ble_eq_true rfl) dX11_leg_83 rfl rfl ⟨Nat.le_of_ble_eq_true rfl, Nat.le_of_ble_eq_true rfl⟩ ⟨Nat.le_of_ble_eq_true rfl, Nat.le_of_ble_eq_true rfl⟩) hS (fun x_46 iv_42 rv_43 H locs hG fa_44 fb_45 hp_41 hU hS => ?_)
              have hF1 := hF1.tr (m := ([51, 58], [(57, 1)])) fa_44 (by decide)
              have hF2 := hF2.tr (m := ([51, 58], [(57, 1)])) fb_45 (by decide)
              refine W.widen (k := 1) (n := 15) (Nat.zero_le _) (Nat.zero_le _) ?_
              exact hret (⟨hG, EX.of hF1 hF2, trivial⟩) hU hS dX11_leg_86
            ·
              refine lv_iload hx hb dX11_leg_73 (lv_at hl 8 rfl) ?_
              refine lv_iload hx hb dX11_leg_75 (lv_at hl 7 rfl) ?_
              refine b_icmp_gt (tgt := 87) hx hb dX11_leg_77 (by decide) (fun c_47 => ?_) (fun c_47 => ?_)
              ·
                refine lv_iload hx hb dX11_leg_87 (lv_at hl 7 rfl) ?_
                refine lv_sipush (v := 20000) hx hb dX11_leg_89 (by decide) ?_
                refine b_icmp_gt (tgt := 113) hx hb dX11_leg_92 (by decide) (fun c_48 => ?_) (fun c_48 => ?_)
                ·
                  refine lv_aload_n hx hb dX11_leg_113 rfl (lv_at hl 2 rfl) ?_
                  refine lv_bipush (v := (-6)) hx hb dX11_leg_114 (by decide) ?_
                  refine q_fi (q_runV (t := 49) (i := 0) (As := [.int (-6)]) (rest := []) C hU (c_X11_refuse hG (-6) (by omega)) vm_X11_refuse ml_X11_77 k_49.1 (hc := rfl) rfl (h1_49 hG) hl.1 rfl rfl (Nat.le_of_ble_eq_true rfl) dX11_leg_116 rfl rfl ⟨Nat.le_of_ble_eq_true rfl, Nat.le_of_ble_eq_true rfl⟩ ⟨Nat.le_of_ble_eq_true rfl, Nat.le_of_ble_eq_true rfl⟩) hS (fun x_54 iv_50 rv_51 H locs hG fa_52 fb_53 hp_49 hU hS => ?_)
                  have hF1 := hF1.tr (m := ([51, 58], [(57, 1)])) fa_52 (by decide)
                  have hF2 := hF2.tr (m := ([51, 58], [(57, 1)])) fb_53 (by decide)
                  refine W.widen (k := 1) (n := 15) (Nat.zero_le _) (Nat.zero_le _) ?_
                  exact hret (⟨hG, EX.of hF1 hF2, trivial⟩) hU hS dX11_leg_119
                ·
                  refine lv_iload hx hb dX11_leg_95 (lv_at hl 8 rfl) ?_
                  refine lv_sipush (v := 20000) hx hb dX11_leg_97 (by decide) ?_
                  refine b_icmp_gt (tgt := 113) hx hb dX11_leg_100 (by decide) (fun c_55 => ?_) (fun c_55 => ?_)
                  ·
                    refine lv_aload_n hx hb dX11_leg_113 rfl (lv_at hl 2 rfl) ?_
                    refine lv_bipush (v := (-6)) hx hb dX11_leg_114 (by decide) ?_
                    refine q_fi (q_runV (t := 49) (i := 0) (As := [.int (-6)]) (rest := []) C hU (c_X11_refuse hG (-6) (by omega)) vm_X11_refuse ml_X11_77 k_49.1 (hc := rfl) rfl (h1_49 hG) hl.1 rfl rfl (Nat.le_of_ble_eq_true rfl) dX11_leg_116 rfl rfl ⟨Nat.le_of_ble_eq_true rfl, Nat.le_of_ble_eq_true rfl⟩ ⟨Nat.le_of_ble_eq_true rfl, Nat.le_of_ble_eq_true rfl⟩) hS (fun x_61 iv_57 rv_58 H locs hG fa_59 fb_60 hp_56 hU hS => ?_)
                    have hF1 := hF1.tr (m := ([51, 58], [(57, 1)])) fa_59 (by decide)
                    have hF2 := hF2.tr (m := ([51, 58], [(57, 1)])) fb_60 (by decide)
                    refine W.widen (k := 1) (n := 15) (Nat.zero_le _) (Nat.zero_le _) ?_
                    exact hret (⟨hG, EX.of hF1 hF2, trivial⟩) hU hS dX11_leg_119
                  ·
                    refine lv_aload_n hx hb dX11_leg_103 rfl (lv_at hl 2 rfl) ?_
                    refine g_49_1 C hU hG (h1_49 hG) fl_X11_19 dX11_leg_104 ?_
                    refine q_pi (q_runV (t := 57) (i := 0) (As := []) (rest := []) C hU (c_X10_isFull hG  ) vm_X10_isFull ml_X11_115 k_57.1 (hc := rfl) rfl (h1_57 hG) hl.1 rfl rfl (Nat.le_of_ble_eq_true rfl) dX11_leg_107 rfl rfl ⟨Nat.le_of_ble_eq_true rfl, Nat.le_of_ble_eq_true rfl⟩ ⟨Nat.le_of_ble_eq_true rfl, Nat.le_of_ble_eq_true rfl⟩) hS (fun x_63 H locs hp_62 hU hS => ?_)
                    refine b_if_eq (tgt := 120) hx hb dX11_leg_110 (by decide) (fun c_64 => ?_) (fun c_64 => ?_)
                    ·
                      refine lv_aload_n hx hb dX11_leg_120 rfl (lv_at hl 2 rfl) ?_
                      refine g_49_1 C hU hG (h1_49 hG) fl_X11_19 dX11_leg_121 ?_
                      refine lv_aload hx hb dX11_leg_124 (lv_at hl 1 rfl) ?_
                      refine lv_aload hx hb dX11_leg_126 (lv_at hl 0 rfl) ?_
                      refine lv_iload_n hx hb dX11_leg_128 rfl (lv_at hl 5 rfl) ?_
                      refine lv_iload hx hb dX11_leg_129 (lv_at hl 6 rfl) ?_
                      refine lv_iload hx hb dX11_leg_131 (lv_at hl 7 rfl) ?_
                      refine lv_iload hx hb dX11_leg_133 (lv_at hl 8 rfl) ?_
                      refine q_ciA (q_runVA (t := 57) (i := 0) (As := [.ref (al.2 56 j_8), .ref (al.2 56 j_18), .int pl, .int cr, .int lv_, .int ar]) (rest := []) C hU (Nat.le_trans hz0 hS.1) (c_X10_add hG (j_8) hb_16 (j_18) hb_26 pl cr lv_ ar (by omega) (by omega) (by omega) (by omega) (by omega)) vm_X10_add ml_X11_119 k_57.1 (hc := rfl) rfl (h1_57 hG) hl.1 rfl rfl (Nat.le_of_ble_eq_true rfl) dX11_leg_135 rfl rfl ⟨Nat.le_of_ble_eq_true rfl, Nat.le_of_ble_eq_true rfl⟩ ⟨Nat.le_of_ble_eq_true rfl, Nat.le_of_ble_eq_true rfl⟩) hS (Nat.le_trans hz0 hS.1) (fun x_66 al' iv' rv' H locs hp_65 hU hS _ => ?_)
                      exact hret (⟨hp_65.1, (EX.of hF1 hF2).tr hp_65.2.1 (by decide) (by decide), trivial⟩) hU hS dX11_leg_138
                    ·
                      refine lv_aload_n hx hb dX11_leg_113 rfl (lv_at hl 2 rfl) ?_
                      refine lv_bipush (v := (-6)) hx hb dX11_leg_114 (by decide) ?_
                      refine q_fi (q_runV (t := 49) (i := 0) (As := [.int (-6)]) (rest := []) C hU (c_X11_refuse hG (-6) (by omega)) vm_X11_refuse ml_X11_77 k_49.1 (hc := rfl) rfl (h1_49 hG) hl.1 rfl rfl (Nat.le_of_ble_eq_true rfl) dX11_leg_116 rfl rfl ⟨Nat.le_of_ble_eq_true rfl, Nat.le_of_ble_eq_true rfl⟩ ⟨Nat.le_of_ble_eq_true rfl, Nat.le_of_ble_eq_true rfl⟩) hS (fun x_72 iv_68 rv_69 H locs hG fa_70 fb_71 hp_67 hU hS => ?_)
                      have hF1 := hF1.tr (m := ([51, 58], [(57, 1)])) fa_70 (by decide)
                      have hF2 := hF2.tr (m := ([51, 58], [(57, 1)])) fb_71 (by decide)
                      refine W.widen (k := 1) (n := 15) (Nat.zero_le _) (Nat.zero_le _) ?_
                      exact hret (⟨hG, EX.of hF1 hF2, trivial⟩) hU hS dX11_leg_119
              ·
                refine lv_aload_n hx hb dX11_leg_80 rfl (lv_at hl 2 rfl) ?_
                refine lv_bipush (v := (-4)) hx hb dX11_leg_81 (by decide) ?_
                refine q_fi (q_runV (t := 49) (i := 0) (As := [.int (-4)]) (rest := []) C hU (c_X11_refuse hG (-4) (by omega)) vm_X11_refuse ml_X11_77 k_49.1 (hc := rfl) rfl (h1_49 hG) hl.1 rfl rfl (Nat.le_of_ble_eq_true rfl) dX11_leg_83 rfl rfl ⟨Nat.le_of_ble_eq_true rfl, Nat.le_of_ble_eq_true rfl⟩ ⟨Nat.le_of_ble_eq_true rfl, Nat.le_of_ble_eq_true rfl⟩) hS (fun x_78 iv_74 rv_75 H locs hG fa_76 fb_77 hp_73 hU hS => ?_)
                have hF1 := hF1.tr (m := ([51, 58], [(57, 1)])) fa_76 (by decide)
                have hF2 := hF2.tr (m := ([51, 58], [(57, 1)])) fb_77 (by decide)
                refine W.widen (k := 1) (n := 15) (Nat.zero_le _) (Nat.zero_le _) ?_
                exact hret (⟨hG, EX.of hF1 hF2, trivial⟩) hU hS dX11_leg_86
          ·
            refine lv_aload_n hx hb dX11_leg_62 rfl (lv_at hl 2 rfl) ?_
            refine lv_iconst (v := (-1)) hx hb dX11_leg_63 (by decide) ?_
            refine q_fi (q_runV (t := 49) (i := 0) (As := [.int (-1)]) (rest := []) C hU (c_X11_refuse hG (-1) (by omega)) vm_X11_refuse ml_X11_77 k_49.1 (hc := rfl) rfl (h1_49 hG) hl.1 rfl rfl (Nat.le_of_ble_eq_true rfl) dX11_leg_64 rfl rfl ⟨Nat.le_of_ble_eq_true rfl, Nat.le_of_ble_eq_true rfl⟩ ⟨Nat.le_of_ble_eq_true rfl, Nat.le_of_ble_eq_true rfl⟩) hS (fun x_84 iv_80 rv_81 H locs hG fa_82 fb_83 hp_79 hU hS => ?_)
            have hF1 := hF1.tr (m := ([51, 58], [(57, 1)])) fa_82 (by decide)
            have hF2 := hF2.tr (m := ([51, 58], [(57, 1)])) fb_83 (by decide)
            refine W.widen (k := 1) (n := 15) (Nat.zero_le _) (Nat.zero_le _) ?_
            exact hret (⟨hG, EX.of hF1 hF2, trivial⟩) hU hS dX11_leg_67
      ·
        refine lv_aload_n hx hb dX11_leg_37 rfl (lv_at hl 2 rfl) ?_
        refine lv_iconst (v := (-1)) hx hb dX11_leg_38 (by decide) ?_
        refine q_fi (q_runV (t := 49) (i := 0) (As := [.int (-1)]) (rest := []) C hU (c_X11_refuse hG (-1) (by omega)) vm_X11_refuse ml_X11_77 k_49.1 (hc := rfl) rfl (h1_49 hG) hl.1 rfl rfl (Nat.le_of_ble_eq_true rfl) dX11_leg_39 rfl rfl ⟨Nat.le_of_ble_eq_true rfl, Nat.le_of_ble_eq_true rfl⟩ ⟨Nat.le_of_ble_eq_true rfl, Nat.le_of_ble_eq_true rfl⟩) hS (fun x_90 iv_86 rv_87 H locs hG fa_88 fb_89 hp_85 hU hS => ?_)
        have hF1 := hF1.tr (m := ([51, 58], [(57, 1)])) fa_88 (by decide)
        have hF2 := hF2.tr (m := ([51, 58], [(57, 1)])) fb_89 (by decide)
        refine W.widen (k := 1) (n := 15) (Nat.zero_le _) (Nat.zero_le _) ?_
        exact hret (⟨hG, EX.of hF1 hF2, trivial⟩) hU hS dX11_leg_42
set_option maxHeartbeats 4000000 in
set_option maxRecDepth 100000 in
theorem c_X11_traveller {l : Launch} {D : va_G} {cA : FieldType → ClassId} {sz : Nat} {al : Al} {iv : Iv} {rv : Rv} (hG : GI al iv rv) (lg : Int32) : Met l yX11_traveller (wd yX11_traveller cX11_traveller 3 (some .int)) (rmA 3 3 16) (PcA D cA sz al iv rv [.ref (al.2 49 0), .int lg] (fun _ => True)) (QIA D cA sz (fun r al' iv' rv' => GI al' iv' rv' ∧ EX ([51, 64], [(63, 1)]) al iv rv al' iv' rv' ∧ (True))) 3 16 (Aq sz) := by
  refine mk_ia (by decide) (Nat.le_of_ble_eq_true rfl) rfl ?_
  intro p e s m args below meth c ls Q H locs C hU hS hX hz0 hl hret
  have hx := C.1.1
  have hb := C.1.2.1
  have hl : lv_has ls 3 [(0, .ref (al.2 49 0)), (1, .int lg)] := hl
  have hG0 := hG
  have hF1 : FR ([51, 64], [(63, 1)]) iv iv := FR.rf
  have hF2 : FR ([51, 64], [(63, 1)]) rv rv := FR.rf
  have km6 : ((-6) : Int32).toInt = -6 := by decide
  have km1 : ((-1) : Int32).toInt = -1 := by decide
  refine lv_aload_n hx hb dX11_traveller_0 rfl (lv_at hl 0 rfl) ?_
  refine g_49_1 C hU hG (h1_49 hG) fl_X11_19 dX11_traveller_1 ?_
  refine lv_iload_n hx hb dX11_traveller_4 rfl (lv_at hl 1 rfl) ?_
  refine q_pr (q_runV (t := 57) (i := 0) (As := [.int lg]) (rest := []) C hU (c_X10_find hG lg ) vm_X10_find ml_X11_123 k_57.1 (hc := rfl) rfl (h1_57 hG) hl.1 rfl rfl (Nat.le_of_ble_eq_true rfl) dX11_traveller_5 rfl rfl ⟨Nat.le_of_ble_eq_true rfl, Nat.le_of_ble_eq_true rfl⟩ ⟨Nat.le_of_ble_eq_true rfl, Nat.le_of_ble_eq_true rfl⟩) hS (fun r_2 H locs hp_1 hU hS => ?_)
  have hb_3 := hp_1.1
  refine b_astore_n (lv' := [(2, rfv al 62 r_2), (0, .ref (al.2 49 0)), (1, .int lg)]) hx hb dX11_traveller_8 rfl hl (by decide) rfl (fun ls hl => ?_)
  refine b_aload_n (al := al) (t' := 62) (r := r_2) hx hb dX11_traveller_9 rfl (lv_at hl 0 rfl) ?_
  refine b_ifnonnull (tgt := 19) hx hb dX11_traveller_10 (by decide) (fun j_5 ej_6 => ?_) (fun ej_6 => ?_)
  ·
    subst ej_6
    have hl : lv_has ls 3 [(2, .ref (al.2 62 j_5)), (0, .ref (al.2 49 0)), (1, .int lg)] := hl
    have hb_7 : j_5 < al.1 62 := hb_3 j_5 rfl
    refine lv_aload_n hx hb dX11_traveller_19 rfl (lv_at hl 1 rfl) ?_
    refine g_49_2 C hU hG (h1_49 hG) fl_X11_26 dX11_traveller_20 ?_
    refine q_pi (q_runV (t := 63) (i := 0) (As := []) (rest := []) C hU (c_X9_isFull hG  ) vm_X9_isFull ml_X11_189 k_63.1 (hc := rfl) rfl (h1_63 hG) hl.1 rfl rfl (Nat.le_of_ble_eq_true rfl) dX11_traveller_23 rfl rfl ⟨Nat.le_of_ble_eq_true rfl, Nat.le_of_ble_eq_true rfl⟩ ⟨Nat.le_of_ble_eq_true rfl, Nat.le_of_ble_eq_true rfl⟩) hS (fun x_9 H locs hp_8 hU hS => ?_)
    refine b_if_eq (tgt := 36) hx hb dX11_traveller_26 (by decide) (fun c_10 => ?_) (fun c_10 => ?_)
    ·
      refine lv_aload_n hx hb dX11_traveller_36 rfl (lv_at hl 1 rfl) ?_
      refine g_49_2 C hU hG (h1_49 hG) fl_X11_26 dX11_traveller_37 ?_
      refine lv_aload_n hx hb dX11_traveller_40 rfl (lv_at hl 0 rfl) ?_
      refine q_ciA (q_runVA (t := 63) (i := 0) (As := [.ref (al.2 62 j_5)]) (rest := []) C hU (Nat.le_trans hz0 hS.1) (c_X9_add hG (j_5) hb_7 (by omega)) vm_X9_add ml_X11_190 k_63.1 (hc := rfl) rfl (h1_63 hG) hl.1 rfl rfl (Nat.le_of_ble_eq_true rfl) dX11_traveller_41 rfl rfl ⟨Nat.le_of_ble_eq_true rfl, Nat.le_of_ble_eq_true rfl⟩ ⟨Nat.le_of_ble_eq_true rfl, Nat.le_of_ble_eq_true rfl⟩) hS (Nat.le_trans hz0 hS.1) (fun x_12 al' iv' rv' H locs hp_11 hU hS _ => ?_)
      exact hret (⟨hp_11.1, (EX.of hF1 hF2).tr hp_11.2.1 (by decide) (by decide), trivial⟩) hU hS dX11_traveller_44
    ·
      refine lv_aload_n hx hb dX11_traveller_29 rfl (lv_at hl 1 rfl) ?_
      refine lv_bipush (v := (-6)) hx hb dX11_traveller_30 (by decide) ?_
      refine q_fi (q_runV (t := 49) (i := 0) (As := [.int (-6)]) (rest := []) C hU (c_X11_refuse hG (-6) (by omega)) vm_X11_refuse ml_X11_77 k_49.1 (hc := rfl) rfl (h1_49 hG) hl.1 rfl rfl (Nat.le_of_ble_eq_true rfl) dX11_traveller_32 rfl rfl ⟨Nat.le_of_ble_eq_true rfl, Nat.le_of_ble_eq_true rfl⟩ ⟨Nat.le_of_ble_eq_true rfl, Nat.le_of_ble_eq_true rfl⟩) hS (fun x_18 iv_14 rv_15 H locs hG fa_16 fb_17 hp_13 hU hS => ?_)
      have hF1 := hF1.tr (m := ([51, 64], [(63, 1)])) fa_16 (by decide)
      have hF2 := hF2.tr (m := ([51, 64], [(63, 1)])) fb_17 (by decide)
      refine W.widen (k := 3) (n := 16) (Nat.zero_le _) (Nat.zero_le _) ?_
      exact hret (⟨hG, EX.of hF1 hF2, trivial⟩) hU hS dX11_traveller_35
  ·
    subst ej_6
    have hl : lv_has ls 3 [(2, rfv al 62 none), (0, .ref (al.2 49 0)), (1, .int lg)] := hl
    refine lv_aload_n hx hb dX11_traveller_13 rfl (lv_at hl 1 rfl) ?_
    refine lv_iconst (v := (-1)) hx hb dX11_traveller_14 (by decide) ?_
    refine q_fi (q_runV (t := 49) (i := 0) (As := [.int (-1)]) (rest := []) C hU (c_X11_refuse hG (-1) (by omega)) vm_X11_refuse ml_X11_77 k_49.1 (hc := rfl) rfl (h1_49 hG) hl.1 rfl rfl (Nat.le_of_ble_eq_true rfl) dX11_traveller_15 rfl rfl ⟨Nat.le_of_ble_eq_true rfl, Nat.le_of_ble_eq_true rfl⟩ ⟨Nat.le_of_ble_eq_true rfl, Nat.le_of_ble_eq_true rfl⟩) hS (fun x_24 iv_20 rv_21 H locs hG fa_22 fb_23 hp_19 hU hS => ?_)
    have hF1 := hF1.tr (m := ([51, 64], [(63, 1)])) fa_22 (by decide)
    have hF2 := hF2.tr (m := ([51, 64], [(63, 1)])) fb_23 (by decide)
    refine W.widen (k := 3) (n := 16) (Nat.zero_le _) (Nat.zero_le _) ?_
    exact hret (⟨hG, EX.of hF1 hF2, trivial⟩) hU hS dX11_traveller_18
set_option maxHeartbeats 4000000 in
set_option maxRecDepth 100000 in
theorem c_X11_claim {l : Launch} {D : va_G} {cA : FieldType → ClassId} {sz : Nat} {al : Al} {iv : Iv} {rv : Rv} (hG : GI al iv rv) (tt : Int32) : Met l yX11_claim (wd yX11_claim cX11_claim 3 (some .int)) (rmA 3 2 9) (PcA D cA sz al iv rv [.ref (al.2 49 0), .int tt] (fun _ => True)) (QIA D cA sz (fun r al' iv' rv' => GI al' iv' rv' ∧ EX ([51, 85], [(84, 1), (65, 6)]) al iv rv al' iv' rv' ∧ (True))) 2 9 (Aq sz) := by
  refine mk_ia (by decide) (Nat.le_of_ble_eq_true rfl) rfl ?_
  intro p e s m args below meth c ls Q H locs C hU hS hX hz0 hl hret
  have hx := C.1.1
  have hb := C.1.2.1
  have hl : lv_has ls 3 [(0, .ref (al.2 49 0)), (1, .int tt)] := hl
  have hG0 := hG
  have hF1 : FR ([51, 85], [(84, 1), (65, 6)]) iv iv := FR.rf
  have hF2 : FR ([51, 85], [(84, 1), (65, 6)]) rv rv := FR.rf
  have km6 : ((-6) : Int32).toInt = -6 := by decide
  have km3 : ((-3) : Int32).toInt = -3 := by decide
  have km1 : ((-1) : Int32).toInt = -1 := by decide
  refine lv_aload_n hx hb dX11_claim_0 rfl (lv_at hl 0 rfl) ?_
  refine g_49_2 C hU hG (h1_49 hG) fl_X11_26 dX11_claim_1 ?_
  refine lv_iload_n hx hb dX11_claim_4 rfl (lv_at hl 1 rfl) ?_
  refine q_pr (q_runV (t := 63) (i := 0) (As := [.int tt]) (rest := []) C hU (c_X9_find hG tt ) vm_X9_find ml_X11_192 k_63.1 (hc := rfl) rfl (h1_63 hG) hl.1 rfl rfl (Nat.le_of_ble_eq_true rfl) dX11_claim_5 rfl rfl ⟨Nat.le_of_ble_eq_true rfl, Nat.le_of_ble_eq_true rfl⟩ ⟨Nat.le_of_ble_eq_true rfl, Nat.le_of_ble_eq_true rfl⟩) hS (fun r_2 H locs hp_1 hU hS => ?_)
  have hb_3 := hp_1.1
  refine b_astore_n (lv' := [(2, rfv al 65 r_2), (0, .ref (al.2 49 0)), (1, .int tt)]) hx hb dX11_claim_8 rfl hl (by decide) rfl (fun ls hl => ?_)
  refine b_aload_n (al := al) (t' := 65) (r := r_2) hx hb dX11_claim_9 rfl (lv_at hl 0 rfl) ?_
  refine b_ifnonnull (tgt := 19) hx hb dX11_claim_10 (by decide) (fun j_5 ej_6 => ?_) (fun ej_6 => ?_)
  ·
    subst ej_6
    have hl : lv_has ls 3 [(2, .ref (al.2 65 j_5)), (0, .ref (al.2 49 0)), (1, .int tt)] := hl
    have hb_7 : j_5 < al.1 65 := hb_3 j_5 rfl
    refine lv_aload_n hx hb dX11_claim_19 rfl (lv_at hl 0 rfl) ?_
    refine g_65_6 C hU hG hb_7 fl_X11_255 dX11_claim_20 (fun x_8 e_9 le_9 ue_9 => ?_)
    have te_9 := congrArg Int32.toInt e_9
    refine b_if_eq (tgt := 33) hx hb dX11_claim_23 (by decide) (fun c_10 => ?_) (fun c_10 => ?_)
    ·
      refine lv_aload_n hx hb dX11_claim_33 rfl (lv_at hl 1 rfl) ?_
      refine g_49_5 C hU hG (h1_49 hG) fl_X11_47 dX11_claim_34 ?_
      refine q_pi (q_runV (t := 84) (i := 0) (As := []) (rest := []) C hU (c_X3_isFull hG  ) vm_X3_isFull ml_X11_258 k_84.1 (hc := rfl) rfl (h1_84 hG) hl.1 rfl rfl (Nat.le_of_ble_eq_true rfl) dX11_claim_37 rfl rfl ⟨Nat.le_of_ble_eq_true rfl, Nat.le_of_ble_eq_true rfl⟩ ⟨Nat.le_of_ble_eq_true rfl, Nat.le_of_ble_eq_true rfl⟩) hS (fun x_12 H locs hp_11 hU hS => ?_)
      refine b_if_eq (tgt := 50) hx hb dX11_claim_40 (by decide) (fun c_13 => ?_) (fun c_13 => ?_)
      ·
        refine lv_aload_n hx hb dX11_claim_50 rfl (lv_at hl 1 rfl) ?_
        refine g_49_5 C hU hG (h1_49 hG) fl_X11_47 dX11_claim_51 ?_
        refine lv_aload_n hx hb dX11_claim_54 rfl (lv_at hl 0 rfl) ?_
        refine lv_aload_n hx hb dX11_claim_55 rfl (lv_at hl 1 rfl) ?_
        refine g_49_9 C hU hG (h1_49 hG) fl_X11_73 dX11_claim_56 (fun x_14 e_15 le_15 ue_15 => ?_)
        have te_15 := congrArg Int32.toInt e_15
        refine q_ciA (q_runVA (t := 84) (i := 0) (As := [.ref (al.2 65 j_5), .int x_14]) (rest := []) C hU (Nat.le_trans hz0 hS.1) (c_X3_add hG (j_5) hb_7 x_14 (by omega) (by omega)) vm_X3_add ml_X11_259 k_84.1 (hc := rfl) rfl (h1_84 hG) hl.1 rfl rfl (Nat.le_of_ble_eq_true rfl) dX11_claim_59 rfl rfl ⟨Nat.le_of_ble_eq_true rfl, Nat.le_of_ble_eq_true rfl⟩ ⟨Nat.le_of_ble_eq_true rfl, Nat.le_of_ble_eq_true rfl⟩) hS (Nat.le_trans hz0 hS.1) (fun x_17 al' iv' rv' H locs hp_16 hU hS _ => ?_)
        exact hret (⟨hp_16.1, (EX.of hF1 hF2).tr hp_16.2.1 (by decide) (by decide), trivial⟩) hU hS dX11_claim_62
      ·
        refine lv_aload_n hx hb dX11_claim_43 rfl (lv_at hl 1 rfl) ?_
        refine lv_bipush (v := (-6)) hx hb dX11_claim_44 (by decide) ?_
        refine q_fi (q_runV (t := 49) (i := 0) (As := [.int (-6)]) (rest := []) C hU (c_X11_refuse hG (-6) (by omega)) vm_X11_refuse ml_X11_77 k_49.1 (hc := rfl) rfl (h1_49 hG) hl.1 rfl rfl (Nat.le_of_ble_eq_true rfl) dX11_claim_46 rfl rfl ⟨Nat.le_of_ble_eq_true rfl, Nat.le_of_ble_eq_true rfl⟩ ⟨Nat.le_of_ble_eq_true rfl, Nat.le_of_ble_eq_true rfl⟩) hS (fun x_23 iv_19 rv_20 H locs hG fa_21 fb_22 hp_18 hU hS => ?_)
        have hF1 := hF1.tr (m := ([51, 85], [(84, 1), (65, 6)])) fa_21 (by decide)
        have hF2 := hF2.tr (m := ([51, 85], [(84, 1), (65, 6)])) fb_22 (by decide)
        refine W.widen (k := 2) (n := 9) (Nat.zero_le _) (Nat.zero_le _) ?_
        exact hret (⟨hG, EX.of hF1 hF2, trivial⟩) hU hS dX11_claim_49
    ·
      refine lv_aload_n hx hb dX11_claim_26 rfl (lv_at hl 1 rfl) ?_
      refine lv_bipush (v := (-3)) hx hb dX11_claim_27 (by decide) ?_
      refine q_fi (q_runV (t := 49) (i := 0) (As := [.int (-3)]) (rest := []) C hU (c_X11_refuse hG (-3) (by omega)) vm_X11_refuse ml_X11_77 k_49.1 (hc := rfl) rfl (h1_49 hG) hl.1 rfl rfl (Nat.le_of_ble_eq_true rfl) dX11_claim_29 rfl rfl ⟨Nat.le_of_ble_eq_true rfl, Nat.le_of_ble_eq_true rfl⟩ ⟨Nat.le_of_ble_eq_true rfl, Nat.le_of_ble_eq_true rfl⟩) hS (fun x_29 iv_25 rv_26 H locs hG fa_27 fb_28 hp_24 hU hS => ?_)
      have hF1 := hF1.tr (m := ([51, 85], [(84, 1), (65, 6)])) fa_27 (by decide)
      have hF2 := hF2.tr (m := ([51, 85], [(84, 1), (65, 6)])) fb_28 (by decide)
      refine W.widen (k := 2) (n := 9) (Nat.zero_le _) (Nat.zero_le _) ?_
      exact hret (⟨hG, EX.of hF1 hF2, trivial⟩) hU hS dX11_claim_32
  ·
    subst ej_6
    have hl : lv_has ls 3 [(2, rfv al 65 none), (0, .ref (al.2 49 0)), (1, .int tt)] := hl
    refine lv_aload_n hx hb dX11_claim_13 rfl (lv_at hl 1 rfl) ?_
    refine lv_iconst (v := (-1)) hx hb dX11_claim_14 (by decide) ?_
    refine q_fi (q_runV (t := 49) (i := 0) (As := [.int (-1)]) (rest := []) C hU (c_X11_refuse hG (-1) (by omega)) vm_X11_refuse ml_X11_77 k_49.1 (hc := rfl) rfl (h1_49 hG) hl.1 rfl rfl (Nat.le_of_ble_eq_true rfl) dX11_claim_15 rfl rfl ⟨Nat.le_of_ble_eq_true rfl, Nat.le_of_ble_eq_true rfl⟩ ⟨Nat.le_of_ble_eq_true rfl, Nat.le_of_ble_eq_true rfl⟩) hS (fun x_35 iv_31 rv_32 H locs hG fa_33 fb_34 hp_30 hU hS => ?_)
    have hF1 := hF1.tr (m := ([51, 85], [(84, 1), (65, 6)])) fa_33 (by decide)
    have hF2 := hF2.tr (m := ([51, 85], [(84, 1), (65, 6)])) fb_34 (by decide)
    refine W.widen (k := 2) (n := 9) (Nat.zero_le _) (Nat.zero_le _) ?_
    exact hret (⟨hG, EX.of hF1 hF2, trivial⟩) hU hS dX11_claim_18
end
section
theorem CI.call {t0 i0 o : Nat} {N N1 : Nat → Nat} {M M1 : Mo} {L : List Nat} {al al1 al2 : Al} {iv iv1 iv2 : Iv} {rv rv1 rv2 : Rv} (h : CI t0 i0 o N M L al iv rv al1 iv1 rv1) (g1 : RG al2 iv2) (g2 : RB al2 rv2) (g3 : EXT N1 M1 al1 iv1 rv1 al2 iv2 rv2) (hs : subM M1 M) (hm : t0 ∉ M1.1 ∧ t0 ∉ M1.2.map (fun p => p.1)) : CI t0 i0 o (fun t => N t + N1 t) M L al iv rv al2 iv2 rv2 := by
  obtain ⟨h1, h2, h3, h4, h5, h6⟩ := h
  refine ⟨g1, g2, h3.tr g3 hs, h4.keep (fun k => (g3.2.2.1 t0 i0 k h6 (MD.no hm)).2), ?_, ?_⟩
  · rw [g3.2.1 t0 i0 h6]; exact h5
  · rw [g3.1]; omega
/-- references of single cells that are set -/
def NZ (L : List (Nat × Nat)) (al : Al) (rv : Rv) : Prop := ∀ q, q ∈ L → 0 < al.1 q.1 ∧ ∃ j, rv q.1 0 q.2 = some j
theorem NZ.nil {al : Al} {rv : Rv} : NZ [] al rv := fun _ h => by cases h
theorem NZ.ext {L : List (Nat × Nat)} {N1 : Nat → Nat} {M1 : Mo} {al1 al2 : Al} {iv1 iv2 : Iv} {rv1 rv2 : Rv} (h : NZ L al1 rv1) (g : EXT N1 M1 al1 iv1 rv1 al2 iv2 rv2) (hm : ∀ q, q ∈ L → ¬ MD M1 q.1 q.2) : NZ L al2 rv2 := fun q hq => by
  obtain ⟨a, j, e⟩ := h q hq
  exact ⟨by rw [g.1]; omega, j, by rw [(g.2.2.1 q.1 0 q.2 a (hm q hq)).2]; exact e⟩
theorem NZ.add {L : List (Nat × Nat)} {al : Al} {rv : Rv} (h : NZ L al rv) {t : Nat} {L1 : List Nat} (ht : 0 < al.1 t) (g : NN t 0 L1 rv) : NZ (L1.map (fun k => (t, k)) ++ L) al rv := fun q hq => by
  rcases List.mem_append.mp hq with z | z
  · obtain ⟨k, hk, rfl⟩ := List.mem_map.mp z
    exact ⟨ht, g k hk⟩
  · exact h q z
theorem NZ.put {L : List (Nat × Nat)} {al : Al} {rv : Rv} (h : NZ L al rv) {t i k : Nat} {x : Option Nat} (ht : ∀ q, q ∈ L → q.1 ≠ t) : NZ L al (up3 rv t i k x) := fun q hq => by
  obtain ⟨a, j, e⟩ := h q hq
  exact ⟨a, j, by rw [up3_ne (fun z => ht q hq z.1)]; exact e⟩
def PF (al : Al) (iv : Iv) (rv : Rv) : Prop := (0 < al.1 53 ∧ 0 < al.1 54 ∧ 10 ≤ al.1 56) ∧ ∀ j : Nat, j < 10 → rv 53 0 j = some j ∧ rv 54 0 j = some j ∧ (iv 56 j 0).toInt = j ∧ (iv 56 j 2).toInt = j
theorem PF.ext {N1 : Nat → Nat} {M1 : Mo} {al1 al2 : Al} {iv1 iv2 : Iv} {rv1 rv2 : Rv} (h : PF al1 iv1 rv1) (g : EXT N1 M1 al1 iv1 rv1 al2 iv2 rv2) (h3 : 53 ∉ M1.1 ∧ 53 ∉ M1.2.map (fun p => p.1)) (h4 : 54 ∉ M1.1 ∧ 54 ∉ M1.2.map (fun p => p.1)) (h6 : 56 ∉ M1.1 ∧ 56 ∉ M1.2.map (fun p => p.1)) : PF al2 iv2 rv2 := by
  obtain ⟨⟨a, b, c⟩, f⟩ := h
  refine ⟨⟨by rw [g.1]; omega, by rw [g.1]; omega, by rw [g.1]; omega⟩, fun j hj => ?_⟩
  obtain ⟨f1, f2, f3⟩ := f j hj
  refine ⟨?_, ?_, ?_⟩
  · rw [(g.2.2.1 53 0 j a (MD.no h3)).2]; exact f1
  · rw [(g.2.2.1 54 0 j b (MD.no h4)).2]; exact f2
  · exact ⟨by rw [(g.2.2.1 56 j 0 (by omega) (MD.no h6)).1]; exact f3.1, by rw [(g.2.2.1 56 j 2 (by omega) (MD.no h6)).1]; exact f3.2⟩
def BF (al : Al) (iv : Iv) : Prop := 0 < al.1 80 ∧ ∀ k : Nat, k < 4 → iv 80 0 k = 365
theorem BF.ext {N1 : Nat → Nat} {M1 : Mo} {al1 al2 : Al} {iv1 iv2 : Iv} {rv1 rv2 : Rv} (h : BF al1 iv1) (g : EXT N1 M1 al1 iv1 rv1 al2 iv2 rv2) (h3 : 80 ∉ M1.1 ∧ 80 ∉ M1.2.map (fun p => p.1)) : BF al2 iv2 := by
  obtain ⟨a, f⟩ := h
  exact ⟨by rw [g.1]; omega, fun k hk => by rw [(g.2.2.1 80 0 k a (MD.no h3)).1]; exact f k hk⟩
theorem PF.put {al : Al} {iv : Iv} {rv : Rv} (h : PF al iv rv) {t i k : Nat} {x : Option Nat} (h3 : t ≠ 53) (h4 : t ≠ 54) : PF al iv (up3 rv t i k x) := by
  obtain ⟨a, f⟩ := h
  refine ⟨a, fun j hj => ?_⟩
  obtain ⟨f1, f2, f3⟩ := f j hj
  exact ⟨by rw [up3_ne (fun z => h3 z.1.symm)]; exact f1, by rw [up3_ne (fun z => h4 z.1.symm)]; exact f2, f3⟩
theorem fst4_rng (j : Nat) : 0 ≤ (fst4 j).toInt ∧ (fst4 j).toInt ≤ 900 := by
  unfold fst4
  split
  · exact ⟨by decide, by decide⟩
  · split
    · exact ⟨by decide, by decide⟩
    · split <;> exact ⟨by decide, by decide⟩
section CIR2
variable {p : Program} {l : Launch} {e : Env} {R : Room} {s : State} {m : MethodId} {args : Array Value} {below : List Frame} {meth : Method} {c : Code} {H : Heap} {locs : List Loc} {cells slots : Nat} {Q : State → Prop}
variable {cc : ByteArray} {pc nL : Nat} {ls : Array Slot} {rest : List Value} {own : String} {D : va_G} {cA : FieldType → ClassId} {sz : Nat} {al al1 : Al} {iv iv1 : Iv} {rv rv1 : Rv} {t0 i0 o : Nat} {N : Nat → Nat} {M : Mo} {L : List Nat}
theorem q_rp2 (C : Cx p s m args c cc nL own D cA) (hnm : meth.name = "<init>") (hU : UW D cA sz al1 iv1 rv1 H) (hS : va_S (Aq sz) s.heap H locs) (hI : CI t0 i0 o N M L al iv rv al1 iv1 rv1) {t k ci NN' index i a : Nat} {T : u_T} (kp : (pt t0).1 = some ci ∧ (pt t0).2.1 = NN') (hc : vwCl[ci]? = some (own, T, NN')) (hin : ∀ w ∈ u_ws own T NN', w ∈ BW)
    (ty0 : Nat → FieldType) (hty : ∀ k, k < NN' → parseFieldDescriptor (T k).2.2.1 = some (ty0 k)) (hnn : ∀ a, a < NN' → ∀ b, b < NN' → a ≠ b → (T a).2.1 ≠ (T b).2.1) (hk : k < NN') (hT : (T k).1 = own) (hfin : (T k).2.2.2 = true) (htg : (pt t0).2.2.2 k = some t) (hm : MD M t0 k)
    (hlink : Cond.fieldLink own index own (T k).2.1 (T k).2.2.1 ∈ BW) (hn : ∀ a, narrow (ty0 k) (.ref a) = .ref a) (hfit : ∀ a, fits (ty0 k) (.ref a) = true) (ha : al1.2 t i = a) (hi : i < al1.1 t) (hdg : decode cc pc = .ok (.putfield index, 3))
    (kk : ∀ (rv2 : Rv) (H2 : Heap) (locs2 : List Loc), rv2 = up3 rv1 t0 i0 k (some i) → UW D cA sz al1 iv1 rv2 H2 → va_S (Aq sz) s.heap H2 locs2 → CI t0 i0 o N M (k :: L) al iv rv al1 iv1 rv2 → W p l e R s m args below meth c H2 locs2 cells slots Q (F0 m (pc + 3) ls rest)) : W p l e R s m args below meth c H locs cells slots Q (F0 m pc ls (.ref a :: .ref o :: rest)) := by
  have ho := hI.2.2.2.2.1
  subst ha
  subst ho
  exact q_putr (t := t0) (i := i0) (k := k) (t' := t) (j := i) C hU hS kp hc hin ty0 hty hnn hI.2.2.2.2.2 hk hT (Or.inr ⟨hfin, hnm, rfl⟩) htg hlink hdg hn hfit (fun H1 locs1 hU1 hS1 => kk _ H1 locs1 rfl hU1 hS1 (hI.putr hm htg hi))
end CIR2
set_option maxHeartbeats 40000000 in
set_option maxRecDepth 100000 in
theorem c_X11_init {l : Launch} {D : va_G} {cA : FieldType → ClassId} {sz : Nat} {al : Al} {iv : Iv} {rv : Rv} (hR : RG al iv) (hB : RB al rv) (i0 : Nat) (hi0 : i0 < al.1 49) (cz : ∀ t, 50 ≤ t → t ≤ 97 → al.1 t = 0) : Met l yX11_init (wd yX11_init cX11_init 1 none) (rmA 3 60 1120) (PcA D cA sz al iv rv [.ref (al.2 49 i0)] (fun U => va_AOA .int U ∧ SX cA sz U U.heap)) (QVA D cA sz (fun al' iv' rv' => RG al' iv' ∧ RB al' rv' ∧ EXT (nx (nx (fun t => (nx (fun t => (nx (fun t => (nx (fun t => (nx (fun t => (nx (fun t => (nx (fun t => (nx (fun _ => 0) 52) t + (fun t => ((if t = 53 then 1 else 0) + (if t = 56 then 10 else 0)) + ((if t = 54 then 1 else 0) + (if t = 55 then 10 else 0))) t) 57) t + (nx (nx (nx (nx (fun _ => 0) 58) 59) 60) 61) t) 63) t + (nx (fun _ => 0) 64) t) 68) t + (nx (nx (nx (nx (nx (nx (nx (nx (nx (nx (fun _ => 0) 69) 70) 71) 72) 73) 74) 75) 76) 77) 78) t) 79) t + (nx (nx (nx (nx (fun _ => 0) 80) 81) 82) 83) t) 84) t + (nx (nx (nx (fun _ => 0) 85) 86) 87) t) 90) t + (nx (nx (nx (nx (nx (nx (nx (fun _ => 0) 91) 92) 93) 94) 95) 96) 97) t) 50) 51) ([50, 53, 54, 80], [(49, 0), (49, 1), (49, 2), (49, 3), (49, 4), (49, 5), (49, 6), (49, 7), (49, 8), (49, 9), (52, 0), (52, 1), (56, 0), (56, 2), (57, 0), (57, 2), (57, 3), (57, 4), (63, 0), (68, 0), (68, 1), (68, 2), (68, 3), (68, 4), (68, 6), (68, 7), (68, 8), (68, 9), (68, 10), (79, 0), (79, 1), (79, 2), (79, 3), (84, 0), (84, 2), (84, 3), (90, 0), (90, 1), (90, 2), (90, 3), (90, 4), (90, 5), (90, 7)]) al iv rv al' iv' rv' ∧ NN 49 i0 [8, 7, 6, 5, 4, 3, 2, 1, 0] rv' ∧ NZ [(90, 7), (90, 5), (90, 4), (90, 3), (90, 2), (90, 1), (90, 0), (84, 3), (84, 2), (84, 0), (79, 3), (79, 2), (79, 1), (79, 0), (68, 10), (68, 9), (68, 8), (68, 7), (68, 6), (68, 4), (68, 3), (68, 2), (68, 1), (68, 0), (63, 0), (57, 4), (57, 3), (57, 2), (57, 0), (52, 0), (52, 1)] al' rv' ∧ PF al' iv' rv' ∧ (∀ k, iv' 50 0 k = fst4 k) ∧ iv' 49 i0 9 = 0 ∧ BF al' iv')) 60 1120 (Aq sz) := by
  refine mk_a (by decide) (Nat.le_of_ble_eq_true rfl) rfl ?_
  intro p e s m below meth c ls C hr hlk hnm hU hS hz hX hl
  have hx := C.1.1
  have hb := C.1.2.1
  have hz0 := hz
  obtain ⟨o, ho⟩ : ∃ z, al.2 49 i0 = z := ⟨_, rfl⟩
  have hl : lv_has ls 1 [(0, .ref o)] := by rw [← ho]; exact hl
  have hI : CI 49 i0 o (fun _ => 0) ([50, 53, 54, 80], [(49, 0), (49, 1), (49, 2), (49, 3), (49, 4), (49, 5), (49, 6), (49, 7), (49, 8), (49, 9), (52, 0), (52, 1), (56, 0), (56, 2), (57, 0), (57, 2), (57, 3), (57, 4), (63, 0), (68, 0), (68, 1), (68, 2), (68, 3), (68, 4), (68, 6), (68, 7), (68, 8), (68, 9), (68, 10), (79, 0), (79, 1), (79, 2), (79, 3), (84, 0), (84, 2), (84, 3), (90, 0), (90, 1), (90, 2), (90, 3), (90, 4), (90, 5), (90, 7)]) [] al iv rv al iv rv := ⟨hR, hB, EXT.rf, NN.nil, ho, hi0⟩
  have hZ : NZ [] al rv := NZ.nil
  refine lv_aload_n hx hb dX11_init_0 rfl (lv_at hl 0 rfl) ?_
  refine W.objInit hx hb C.1.2.2.2.1 (C.1.2.2.2.2 _ oi_X11) (C.1.2.2.2.2 _ oi_m) (C.1.2.2.2.2 _ oi_c) rfl (by rw [C.1.2.2.1]; exact hl.1) rfl dX11_init_1 (Nat.le_of_ble_eq_true rfl) (Nat.le_of_ble_eq_true rfl) ?_
  refine W.eq (g2 := F0 m 4 ls []) rfl ?_
  refine lv_aload_n hx hb dX11_init_4 rfl (lv_at hl 0 rfl) ?_
  have c1 : al.1 52 = 0 := by rw [hI.2.2.1.1 52, cz 52 (by decide) (by decide)]; rfl
  refine q_newo (t := 52) C hU hS hI.2.1 (Nat.le_trans hz0 hS.1) k_52 (hc := rfl) uwX7 tyX7 tyX7_ok (by decide +kernel) kl_X11_7 ib_X7 iz_X7 (Nat.le_of_ble_eq_true rfl) (Nat.le_of_ble_eq_true rfl) dX11_init_5 (fun a1 H hU hS hz => ?_)
  have hX1 : EXT (nx (fun _ => 0) 52) ([], []) al iv rv (grow al 52 a1) (clr iv 52 (al.1 52) 0) (clr rv 52 (al.1 52) none) := EXT.rf.new 52 a1
  have hI := hI.new 52 a1 (by decide)
  have hZ := hZ.ext hX1 (by simp)
  have hn := grow_new (al := al) (t := 52) (a := a1)
  have hi : 0 < (grow al 52 a1).1 52 := by rw [grow_ct]; simp
  rw [c1] at hU hI hZ hn
  clear hX1
  obtain ⟨al_1a, ea1⟩ : ∃ z, z = grow al 52 a1 := ⟨_, rfl⟩
  obtain ⟨iv_1a, ei1⟩ : ∃ z, z = clr iv 52 0 0 := ⟨_, rfl⟩
  obtain ⟨rv_1a, er1⟩ : ∃ z, z = clr rv 52 0 none := ⟨_, rfl⟩
  rw [← ea1] at hU hI hZ hn hi
  rw [← ei1] at hU hI
  rw [← er1] at hU hI hZ
  refine W.widen (k := 1) (n := 3) (Nat.le_of_ble_eq_true rfl) (Nat.le_of_ble_eq_true rfl) ?_
  refine lv_dup hx hb dX11_init_8 rfl ?_
  refine W.eq (g2 := F0 m 9 ls [.ref (al_1a.2 52 0), .ref a1, .ref o]) (by rw [hn]) ?_
  have z53 : al_1a.1 53 = 0 := by rw [hI.2.2.1.1 53, cz 53 (by decide) (by decide)]; rfl
  have z54 : al_1a.1 54 = 0 := by rw [hI.2.2.1.1 54, cz 54 (by decide) (by decide)]; rfl
  have z55 : al_1a.1 55 = 0 := by rw [hI.2.2.1.1 55, cz 55 (by decide) (by decide)]; rfl
  have z56 : al_1a.1 56 = 0 := by rw [hI.2.2.1.1 56, cz 56 (by decide) (by decide)]; rfl
  refine q_cvA (q_runIA (n := 0) (b := al_1a.2 52 0) (As := []) (rest := [.ref a1, .ref o]) C hU hz (fun U _ hW => hX.1.moved hW.alike) (fun U _ _ _ h => va_AOA.moved (Vm.Alike.refl U.vm) h) (c_X7_init hI.1 hI.2.1 0 hi z53 z54 z55 z56) cw_X7_init im_X7_init iz_X7 ml_X11_9 rfl (by decide +kernel) hl.1 rfl rfl (Nat.le_of_ble_eq_true rfl) dX11_init_9 rfl rfl ⟨Nat.le_of_ble_eq_true rfl, Nat.le_of_ble_eq_true rfl⟩ ⟨Nat.le_of_ble_eq_true rfl, Nat.le_of_ble_eq_true rfl⟩) hS hz (fun al_1 iv_1 rv_1 H locs hp hU hS hz => ?_)
  obtain ⟨g1, g2, g3, g4, g5⟩ := hp
  have hI := hI.call g1 g2 g3 (by decide) (by decide)
  have hi2 : 0 < al_1.1 52 := by rw [g3.1]; omega
  have hZ := (hZ.ext g3 (by decide)).add hi2 g4
  have hZ : NZ [(52, 0), (52, 1)] al_1 rv_1 := hZ
  have hP : PF al_1 iv_1 rv_1 := ⟨⟨by rw [g3.1, z53]; decide, by rw [g3.1, z54]; decide, by rw [g3.1, z56]; decide⟩, g5⟩
  have hn : al_1.2 52 0 = a1 := by rw [g3.2.1 52 0 hi]; exact hn
  clear g1 g2 g3 g4 hi ea1 ei1 er1 z53 z54 z55 z56 g5
  refine W.widen (k := 23) (n := 163) (Nat.le_of_ble_eq_true rfl) (Nat.le_of_ble_eq_true rfl) ?_
  refine q_rp2 C hnm hU hS hI (t := 52) (i := 0) (k := 0) (a := a1) k_49 (hc := rfl) uwX11 tyX11 tyX11_ok nmX11 (by decide) rfl rfl rfl (by decide) fl_X11_10 (fun _ => rfl) (fun _ => rfl) hn hi2 dX11_init_12 (fun rv_1p H locs er hU hS hI => ?_)
  have hZ : NZ [(52, 0), (52, 1)] al_1 rv_1p := by rw [er]; exact hZ.put (by decide)
  have hP : PF al_1 iv_1 rv_1p := by rw [er]; exact hP.put (by decide) (by decide)
  clear er hn hi2 c1
  refine lv_aload_n hx hb dX11_init_15 rfl (lv_at hl 0 rfl) ?_
  have c2 : al_1.1 57 = 0 := by rw [hI.2.2.1.1 57, cz 57 (by decide) (by decide)]; rfl
  refine q_newo (t := 57) C hU hS hI.2.1 (Nat.le_trans hz0 hS.1) k_57 (hc := rfl) uwX10 tyX10 tyX10_ok (by decide +kernel) kl_X11_16 ib_X10 iz_X10 (Nat.le_of_ble_eq_true rfl) (Nat.le_of_ble_eq_true rfl) dX11_init_16 (fun a2 H hU hS hz => ?_)
  have hX2 : EXT (nx (fun _ => 0) 57) ([], []) al_1 iv_1 rv_1p (grow al_1 57 a2) (clr iv_1 57 (al_1.1 57) 0) (clr rv_1p 57 (al_1.1 57) none) := EXT.rf.new 57 a2
  have hI := hI.new 57 a2 (by decide)
  have hZ := hZ.ext hX2 (by simp)
  have hP := hP.ext hX2 (by decide) (by decide) (by decide)
  have hn := grow_new (al := al_1) (t := 57) (a := a2)
  have hi : 0 < (grow al_1 57 a2).1 57 := by rw [grow_ct]; simp
  rw [c2] at hU hI hZ hn hP
  clear hX2
  obtain ⟨al_2a, ea2⟩ : ∃ z, z = grow al_1 57 a2 := ⟨_, rfl⟩
  obtain ⟨iv_2a, ei2⟩ : ∃ z, z = clr iv_1 57 0 0 := ⟨_, rfl⟩
  obtain ⟨rv_2a, er2⟩ : ∃ z, z = clr rv_1p 57 0 none := ⟨_, rfl⟩
  rw [← ea2] at hU hI hZ hn hi hP
  rw [← ei2] at hU hI hP
  rw [← er2] at hU hI hZ hP
  refine W.widen (k := 24) (n := 168) (Nat.le_of_ble_eq_true rfl) (Nat.le_of_ble_eq_true rfl) ?_
  refine lv_dup hx hb dX11_init_19 rfl ?_
  refine W.eq (g2 := F0 m 20 ls [.ref (al_2a.2 57 0), .ref a2, .ref o]) (by rw [hn]) ?_
  refine q_cvA (q_runIA (n := 0) (b := al_2a.2 57 0) (As := []) (rest := [.ref a2, .ref o]) C hU hz (fun _ _ _ => trivial) (fun _ _ _ _ _ => trivial) (c_X10_init hI.1 hI.2.1 0 hi) cw_X10_init im_X10_init iz_X10 ml_X11_18 rfl (by decide +kernel) hl.1 rfl rfl (Nat.le_of_ble_eq_true rfl) dX11_init_20 rfl rfl ⟨Nat.le_of_ble_eq_true rfl, Nat.le_of_ble_eq_true rfl⟩ ⟨Nat.le_of_ble_eq_true rfl, Nat.le_of_ble_eq_true rfl⟩) hS hz (fun al_2 iv_2 rv_2 H locs hp hU hS hz => ?_)
  obtain ⟨g1, g2, g3, g4⟩ := hp
  have hI := hI.call g1 g2 g3 (by decide) (by decide)
  have hi2 : 0 < al_2.1 57 := by rw [g3.1]; omega
  have hZ := (hZ.ext g3 (by decide)).add hi2 g4
  have hZ : NZ [(57, 4), (57, 3), (57, 2), (57, 0), (52, 0), (52, 1)] al_2 rv_2 := hZ
  have hP := hP.ext g3 (by decide) (by decide) (by decide)
  have hn : al_2.2 57 0 = a2 := by rw [g3.2.1 57 0 hi]; exact hn
  clear g1 g2 g3 g4 hi ea2 ei2 er2
  refine W.widen (k := 28) (n := 294) (Nat.le_of_ble_eq_true rfl) (Nat.le_of_ble_eq_true rfl) ?_
  refine q_rp2 C hnm hU hS hI (t := 57) (i := 0) (k := 1) (a := a2) k_49 (hc := rfl) uwX11 tyX11 tyX11_ok nmX11 (by decide) rfl rfl rfl (by decide) fl_X11_19 (fun _ => rfl) (fun _ => rfl) hn hi2 dX11_init_23 (fun rv_2p H locs er hU hS hI => ?_)
  have hZ : NZ [(57, 4), (57, 3), (57, 2), (57, 0), (52, 0), (52, 1)] al_2 rv_2p := by rw [er]; exact hZ.put (by decide)
  have hP : PF al_2 iv_2 rv_2p := by rw [er]; exact hP.put (by decide) (by decide)
  clear er hn hi2 c2
  refine lv_aload_n hx hb dX11_init_26 rfl (lv_at hl 0 rfl) ?_
  have c3 : al_2.1 63 = 0 := by rw [hI.2.2.1.1 63, cz 63 (by decide) (by decide)]; rfl
  refine q_newo (t := 63) C hU hS hI.2.1 (Nat.le_trans hz0 hS.1) k_63 (hc := rfl) uwX9 tyX9 tyX9_ok (by decide +kernel) kl_X11_23 ib_X9 iz_X9 (Nat.le_of_ble_eq_true rfl) (Nat.le_of_ble_eq_true rfl) dX11_init_27 (fun a3 H hU hS hz => ?_)
  have hX3 : EXT (nx (fun _ => 0) 63) ([], []) al_2 iv_2 rv_2p (grow al_2 63 a3) (clr iv_2 63 (al_2.1 63) 0) (clr rv_2p 63 (al_2.1 63) none) := EXT.rf.new 63 a3
  have hI := hI.new 63 a3 (by decide)
  have hZ := hZ.ext hX3 (by simp)
  have hP := hP.ext hX3 (by decide) (by decide) (by decide)
  have hn := grow_new (al := al_2) (t := 63) (a := a3)
  have hi : 0 < (grow al_2 63 a3).1 63 := by rw [grow_ct]; simp
  rw [c3] at hU hI hZ hn hP
  clear hX3
  obtain ⟨al_3a, ea3⟩ : ∃ z, z = grow al_2 63 a3 := ⟨_, rfl⟩
  obtain ⟨iv_3a, ei3⟩ : ∃ z, z = clr iv_2 63 0 0 := ⟨_, rfl⟩
  obtain ⟨rv_3a, er3⟩ : ∃ z, z = clr rv_2p 63 0 none := ⟨_, rfl⟩
  rw [← ea3] at hU hI hZ hn hi hP
  rw [← ei3] at hU hI hP
  rw [← er3] at hU hI hZ hP
  refine W.widen (k := 29) (n := 296) (Nat.le_of_ble_eq_true rfl) (Nat.le_of_ble_eq_true rfl) ?_
  refine lv_dup hx hb dX11_init_30 rfl ?_
  refine W.eq (g2 := F0 m 31 ls [.ref (al_3a.2 63 0), .ref a3, .ref o]) (by rw [hn]) ?_
  refine q_cvA (q_runIA (n := 0) (b := al_3a.2 63 0) (As := []) (rest := [.ref a3, .ref o]) C hU hz (fun _ _ _ => trivial) (fun _ _ _ _ _ => trivial) (c_X9_init hI.1 hI.2.1 0 hi) cw_X9_init im_X9_init iz_X9 ml_X11_25 rfl (by decide +kernel) hl.1 rfl rfl (Nat.le_of_ble_eq_true rfl) dX11_init_31 rfl rfl ⟨Nat.le_of_ble_eq_true rfl, Nat.le_of_ble_eq_true rfl⟩ ⟨Nat.le_of_ble_eq_true rfl, Nat.le_of_ble_eq_true rfl⟩) hS hz (fun al_3 iv_3 rv_3 H locs hp hU hS hz => ?_)
  obtain ⟨g1, g2, g3, g4⟩ := hp
  have hI := hI.call g1 g2 g3 (by decide) (by decide)
  have hi2 : 0 < al_3.1 63 := by rw [g3.1]; omega
  have hZ := (hZ.ext g3 (by decide)).add hi2 g4
  have hZ : NZ [(63, 0), (57, 4), (57, 3), (57, 2), (57, 0), (52, 0), (52, 1)] al_3 rv_3 := hZ
  have hP := hP.ext g3 (by decide) (by decide) (by decide)
  have hn : al_3.2 63 0 = a3 := by rw [g3.2.1 63 0 hi]; exact hn
  clear g1 g2 g3 g4 hi ea3 ei3 er3
  refine W.widen (k := 30) (n := 316) (Nat.le_of_ble_eq_true rfl) (Nat.le_of_ble_eq_true rfl) ?_
  refine q_rp2 C hnm hU hS hI (t := 63) (i := 0) (k := 2) (a := a3) k_49 (hc := rfl) uwX11 tyX11 tyX11_ok nmX11 (by decide) rfl rfl rfl (by decide) fl_X11_26 (fun _ => rfl) (fun _ => rfl) hn hi2 dX11_init_34 (fun rv_3p H locs er hU hS hI => ?_)
  have hZ : NZ [(63, 0), (57, 4), (57, 3), (57, 2), (57, 0), (52, 0), (52, 1)] al_3 rv_3p := by rw [er]; exact hZ.put (by decide)
  have hP : PF al_3 iv_3 rv_3p := by rw [er]; exact hP.put (by decide) (by decide)
  clear er hn hi2 c3
  refine lv_aload_n hx hb dX11_init_37 rfl (lv_at hl 0 rfl) ?_
  have c4 : al_3.1 68 = 0 := by rw [hI.2.2.1.1 68, cz 68 (by decide) (by decide)]; rfl
  refine q_newo (t := 68) C hU hS hI.2.1 (Nat.le_trans hz0 hS.1) k_68 (hc := rfl) uwX4 tyX4 tyX4_ok (by decide +kernel) kl_X11_30 ib_X4 iz_X4 (Nat.le_of_ble_eq_true rfl) (Nat.le_of_ble_eq_true rfl) dX11_init_38 (fun a4 H hU hS hz => ?_)
  have hX4 : EXT (nx (fun _ => 0) 68) ([], []) al_3 iv_3 rv_3p (grow al_3 68 a4) (clr iv_3 68 (al_3.1 68) 0) (clr rv_3p 68 (al_3.1 68) none) := EXT.rf.new 68 a4
  have hI := hI.new 68 a4 (by decide)
  have hZ := hZ.ext hX4 (by simp)
  have hP := hP.ext hX4 (by decide) (by decide) (by decide)
  have hn := grow_new (al := al_3) (t := 68) (a := a4)
  have hi : 0 < (grow al_3 68 a4).1 68 := by rw [grow_ct]; simp
  rw [c4] at hU hI hZ hn hP
  clear hX4
  obtain ⟨al_4a, ea4⟩ : ∃ z, z = grow al_3 68 a4 := ⟨_, rfl⟩
  obtain ⟨iv_4a, ei4⟩ : ∃ z, z = clr iv_3 68 0 0 := ⟨_, rfl⟩
  obtain ⟨rv_4a, er4⟩ : ∃ z, z = clr rv_3p 68 0 none := ⟨_, rfl⟩
  rw [← ea4] at hU hI hZ hn hi hP
  rw [← ei4] at hU hI hP
  rw [← er4] at hU hI hZ hP
  refine W.widen (k := 31) (n := 328) (Nat.le_of_ble_eq_true rfl) (Nat.le_of_ble_eq_true rfl) ?_
  refine lv_dup hx hb dX11_init_41 rfl ?_
  refine W.eq (g2 := F0 m 42 ls [.ref (al_4a.2 68 0), .ref a4, .ref o]) (by rw [hn]) ?_
  refine q_cvA (q_runIA (n := 0) (b := al_4a.2 68 0) (As := []) (rest := [.ref a4, .ref o]) C hU hz (fun _ _ _ => trivial) (fun _ _ _ _ _ => trivial) (c_X4_init hI.1 hI.2.1 0 hi) cw_X4_init im_X4_init iz_X4 ml_X11_32 rfl (by decide +kernel) hl.1 rfl rfl (Nat.le_of_ble_eq_true rfl) dX11_init_42 rfl rfl ⟨Nat.le_of_ble_eq_true rfl, Nat.le_of_ble_eq_true rfl⟩ ⟨Nat.le_of_ble_eq_true rfl, Nat.le_of_ble_eq_true rfl⟩) hS hz (fun al_4 iv_4 rv_4 H locs hp hU hS hz => ?_)
  obtain ⟨g1, g2, g3, g4⟩ := hp
  have hI := hI.call g1 g2 g3 (by decide) (by decide)
  have hi2 : 0 < al_4.1 68 := by rw [g3.1]; omega
  have hZ := (hZ.ext g3 (by decide)).add hi2 g4
  have hZ : NZ [(68, 10), (68, 9), (68, 8), (68, 7), (68, 6), (68, 4), (68, 3), (68, 2), (68, 1), (68, 0), (63, 0), (57, 4), (57, 3), (57, 2), (57, 0), (52, 0), (52, 1)] al_4 rv_4 := hZ
  have hP := hP.ext g3 (by decide) (by decide) (by decide)
  have hn : al_4.2 68 0 = a4 := by rw [g3.2.1 68 0 hi]; exact hn
  clear g1 g2 g3 g4 hi ea4 ei4 er4
  refine W.widen (k := 41) (n := 678) (Nat.le_of_ble_eq_true rfl) (Nat.le_of_ble_eq_true rfl) ?_
  refine q_rp2 C hnm hU hS hI (t := 68) (i := 0) (k := 3) (a := a4) k_49 (hc := rfl) uwX11 tyX11 tyX11_ok nmX11 (by decide) rfl rfl rfl (by decide) fl_X11_33 (fun _ => rfl) (fun _ => rfl) hn hi2 dX11_init_45 (fun rv_4p H locs er hU hS hI => ?_)
  have hZ : NZ [(68, 10), (68, 9), (68, 8), (68, 7), (68, 6), (68, 4), (68, 3), (68, 2), (68, 1), (68, 0), (63, 0), (57, 4), (57, 3), (57, 2), (57, 0), (52, 0), (52, 1)] al_4 rv_4p := by rw [er]; exact hZ.put (by decide)
  have hP : PF al_4 iv_4 rv_4p := by rw [er]; exact hP.put (by decide) (by decide)
  clear er hn hi2 c4
  refine lv_aload_n hx hb dX11_init_48 rfl (lv_at hl 0 rfl) ?_
  have c5 : al_4.1 79 = 0 := by rw [hI.2.2.1.1 79, cz 79 (by decide) (by decide)]; rfl
  refine q_newo (t := 79) C hU hS hI.2.1 (Nat.le_trans hz0 hS.1) k_79 (hc := rfl) uwX0 tyX0 tyX0_ok (by decide +kernel) kl_X11_37 ib_X0 iz_X0 (Nat.le_of_ble_eq_true rfl) (Nat.le_of_ble_eq_true rfl) dX11_init_49 (fun a5 H hU hS hz => ?_)
  have hX5 : EXT (nx (fun _ => 0) 79) ([], []) al_4 iv_4 rv_4p (grow al_4 79 a5) (clr iv_4 79 (al_4.1 79) 0) (clr rv_4p 79 (al_4.1 79) none) := EXT.rf.new 79 a5
  have hI := hI.new 79 a5 (by decide)
  have hZ := hZ.ext hX5 (by simp)
  have hP := hP.ext hX5 (by decide) (by decide) (by decide)
  have hn := grow_new (al := al_4) (t := 79) (a := a5)
  have hi : 0 < (grow al_4 79 a5).1 79 := by rw [grow_ct]; simp
  rw [c5] at hU hI hZ hn hP
  clear hX5
  obtain ⟨al_5a, ea5⟩ : ∃ z, z = grow al_4 79 a5 := ⟨_, rfl⟩
  obtain ⟨iv_5a, ei5⟩ : ∃ z, z = clr iv_4 79 0 0 := ⟨_, rfl⟩
  obtain ⟨rv_5a, er5⟩ : ∃ z, z = clr rv_4p 79 0 none := ⟨_, rfl⟩
  rw [← ea5] at hU hI hZ hn hi hP
  rw [← ei5] at hU hI hP
  rw [← er5] at hU hI hZ hP
  refine W.widen (k := 42) (n := 683) (Nat.le_of_ble_eq_true rfl) (Nat.le_of_ble_eq_true rfl) ?_
  refine lv_dup hx hb dX11_init_52 rfl ?_
  refine W.eq (g2 := F0 m 53 ls [.ref (al_5a.2 79 0), .ref a5, .ref o]) (by rw [hn]) ?_
  have z80 : al_5a.1 80 = 0 := by rw [hI.2.2.1.1 80, cz 80 (by decide) (by decide)]; rfl
  refine q_cvA (q_runIA (n := 0) (b := al_5a.2 79 0) (As := []) (rest := [.ref a5, .ref o]) C hU hz (fun _ _ _ => trivial) (fun _ _ _ _ _ => trivial) (c_X0_init hI.1 hI.2.1 0 hi) cw_X0_init im_X0_init iz_X0 ml_X11_39 rfl (by decide +kernel) hl.1 rfl rfl (Nat.le_of_ble_eq_true rfl) dX11_init_53 rfl rfl ⟨Nat.le_of_ble_eq_true rfl, Nat.le_of_ble_eq_true rfl⟩ ⟨Nat.le_of_ble_eq_true rfl, Nat.le_of_ble_eq_true rfl⟩) hS hz (fun al_5 iv_5 rv_5 H locs hp hU hS hz => ?_)
  obtain ⟨g1, g2, g3, g4, g5⟩ := hp
  have hBF : BF al_5 iv_5 := ⟨by rw [g3.1, z80]; decide, fun k hk => by have q := g5 k hk; rw [z80] at q; exact q⟩
  clear g5
  have hI := hI.call g1 g2 g3 (by decide) (by decide)
  have hi2 : 0 < al_5.1 79 := by rw [g3.1]; omega
  have hZ := (hZ.ext g3 (by decide)).add hi2 g4
  have hZ : NZ [(79, 3), (79, 2), (79, 1), (79, 0), (68, 10), (68, 9), (68, 8), (68, 7), (68, 6), (68, 4), (68, 3), (68, 2), (68, 1), (68, 0), (63, 0), (57, 4), (57, 3), (57, 2), (57, 0), (52, 0), (52, 1)] al_5 rv_5 := hZ
  have hP := hP.ext g3 (by decide) (by decide) (by decide)
  have hn : al_5.2 79 0 = a5 := by rw [g3.2.1 79 0 hi]; exact hn
  clear g1 g2 g3 g4 hi ea5 ei5 er5
  refine W.widen (k := 46) (n := 747) (Nat.le_of_ble_eq_true rfl) (Nat.le_of_ble_eq_true rfl) ?_
  refine q_rp2 C hnm hU hS hI (t := 79) (i := 0) (k := 4) (a := a5) k_49 (hc := rfl) uwX11 tyX11 tyX11_ok nmX11 (by decide) rfl rfl rfl (by decide) fl_X11_40 (fun _ => rfl) (fun _ => rfl) hn hi2 dX11_init_56 (fun rv_5p H locs er hU hS hI => ?_)
  have hZ : NZ [(79, 3), (79, 2), (79, 1), (79, 0), (68, 10), (68, 9), (68, 8), (68, 7), (68, 6), (68, 4), (68, 3), (68, 2), (68, 1), (68, 0), (63, 0), (57, 4), (57, 3), (57, 2), (57, 0), (52, 0), (52, 1)] al_5 rv_5p := by rw [er]; exact hZ.put (by decide)
  have hP : PF al_5 iv_5 rv_5p := by rw [er]; exact hP.put (by decide) (by decide)
  clear er hn hi2 c5
  refine lv_aload_n hx hb dX11_init_59 rfl (lv_at hl 0 rfl) ?_
  have c6 : al_5.1 84 = 0 := by rw [hI.2.2.1.1 84, cz 84 (by decide) (by decide)]; rfl
  refine q_newo (t := 84) C hU hS hI.2.1 (Nat.le_trans hz0 hS.1) k_84 (hc := rfl) uwX3 tyX3 tyX3_ok (by decide +kernel) kl_X11_44 ib_X3 iz_X3 (Nat.le_of_ble_eq_true rfl) (Nat.le_of_ble_eq_true rfl) dX11_init_60 (fun a6 H hU hS hz => ?_)
  have hX6 : EXT (nx (fun _ => 0) 84) ([], []) al_5 iv_5 rv_5p (grow al_5 84 a6) (clr iv_5 84 (al_5.1 84) 0) (clr rv_5p 84 (al_5.1 84) none) := EXT.rf.new 84 a6
  have hI := hI.new 84 a6 (by decide)
  have hZ := hZ.ext hX6 (by simp)
  have hP := hP.ext hX6 (by decide) (by decide) (by decide)
  have hBF := hBF.ext hX6 (by decide)
  have hn := grow_new (al := al_5) (t := 84) (a := a6)
  have hi : 0 < (grow al_5 84 a6).1 84 := by rw [grow_ct]; simp
  rw [c6] at hU hI hZ hn hP hBF
  clear hX6
  obtain ⟨al_6a, ea6⟩ : ∃ z, z = grow al_5 84 a6 := ⟨_, rfl⟩
  obtain ⟨iv_6a, ei6⟩ : ∃ z, z = clr iv_5 84 0 0 := ⟨_, rfl⟩
  obtain ⟨rv_6a, er6⟩ : ∃ z, z = clr rv_5p 84 0 none := ⟨_, rfl⟩
  rw [← ea6] at hU hI hZ hn hi hP hBF
  rw [← ei6] at hU hI hP hBF
  rw [← er6] at hU hI hZ hP
  refine W.widen (k := 47) (n := 751) (Nat.le_of_ble_eq_true rfl) (Nat.le_of_ble_eq_true rfl) ?_
  refine lv_dup hx hb dX11_init_63 rfl ?_
  refine W.eq (g2 := F0 m 64 ls [.ref (al_6a.2 84 0), .ref a6, .ref o]) (by rw [hn]) ?_
  refine q_cvA (q_runIA (n := 0) (b := al_6a.2 84 0) (As := []) (rest := [.ref a6, .ref o]) C hU hz (fun _ _ _ => trivial) (fun _ _ _ _ _ => trivial) (c_X3_init hI.1 hI.2.1 0 hi) cw_X3_init im_X3_init iz_X3 ml_X11_46 rfl (by decide +kernel) hl.1 rfl rfl (Nat.le_of_ble_eq_true rfl) dX11_init_64 rfl rfl ⟨Nat.le_of_ble_eq_true rfl, Nat.le_of_ble_eq_true rfl⟩ ⟨Nat.le_of_ble_eq_true rfl, Nat.le_of_ble_eq_true rfl⟩) hS hz (fun al_6 iv_6 rv_6 H locs hp hU hS hz => ?_)
  obtain ⟨g1, g2, g3, g4⟩ := hp
  have hI := hI.call g1 g2 g3 (by decide) (by decide)
  have hi2 : 0 < al_6.1 84 := by rw [g3.1]; omega
  have hZ := (hZ.ext g3 (by decide)).add hi2 g4
  have hZ : NZ [(84, 3), (84, 2), (84, 0), (79, 3), (79, 2), (79, 1), (79, 0), (68, 10), (68, 9), (68, 8), (68, 7), (68, 6), (68, 4), (68, 3), (68, 2), (68, 1), (68, 0), (63, 0), (57, 4), (57, 3), (57, 2), (57, 0), (52, 0), (52, 1)] al_6 rv_6 := hZ
  have hP := hP.ext g3 (by decide) (by decide) (by decide)
  have hBF := hBF.ext g3 (by decide)
  have hn : al_6.2 84 0 = a6 := by rw [g3.2.1 84 0 hi]; exact hn
  clear g1 g2 g3 g4 hi ea6 ei6 er6
  refine W.widen (k := 50) (n := 818) (Nat.le_of_ble_eq_true rfl) (Nat.le_of_ble_eq_true rfl) ?_
  refine q_rp2 C hnm hU hS hI (t := 84) (i := 0) (k := 5) (a := a6) k_49 (hc := rfl) uwX11 tyX11 tyX11_ok nmX11 (by decide) rfl rfl rfl (by decide) fl_X11_47 (fun _ => rfl) (fun _ => rfl) hn hi2 dX11_init_67 (fun rv_6p H locs er hU hS hI => ?_)
  have hZ : NZ [(84, 3), (84, 2), (84, 0), (79, 3), (79, 2), (79, 1), (79, 0), (68, 10), (68, 9), (68, 8), (68, 7), (68, 6), (68, 4), (68, 3), (68, 2), (68, 1), (68, 0), (63, 0), (57, 4), (57, 3), (57, 2), (57, 0), (52, 0), (52, 1)] al_6 rv_6p := by rw [er]; exact hZ.put (by decide)
  have hP : PF al_6 iv_6 rv_6p := by rw [er]; exact hP.put (by decide) (by decide)
  clear er hn hi2 c6
  refine lv_aload_n hx hb dX11_init_70 rfl (lv_at hl 0 rfl) ?_
  have c7 : al_6.1 90 = 0 := by rw [hI.2.2.1.1 90, cz 90 (by decide) (by decide)]; rfl
  refine q_newo (t := 90) C hU hS hI.2.1 (Nat.le_trans hz0 hS.1) k_90 (hc := rfl) uwX1 tyX1 tyX1_ok (by decide +kernel) kl_X11_51 ib_X1 iz_X1 (Nat.le_of_ble_eq_true rfl) (Nat.le_of_ble_eq_true rfl) dX11_init_71 (fun a7 H hU hS hz => ?_)
  have hX7 : EXT (nx (fun _ => 0) 90) ([], []) al_6 iv_6 rv_6p (grow al_6 90 a7) (clr iv_6 90 (al_6.1 90) 0) (clr rv_6p 90 (al_6.1 90) none) := EXT.rf.new 90 a7
  have hI := hI.new 90 a7 (by decide)
  have hZ := hZ.ext hX7 (by simp)
  have hP := hP.ext hX7 (by decide) (by decide) (by decide)
  have hBF := hBF.ext hX7 (by decide)
  have hn := grow_new (al := al_6) (t := 90) (a := a7)
  have hi : 0 < (grow al_6 90 a7).1 90 := by rw [grow_ct]; simp
  rw [c7] at hU hI hZ hn hP hBF
  clear hX7
  obtain ⟨al_7a, ea7⟩ : ∃ z, z = grow al_6 90 a7 := ⟨_, rfl⟩
  obtain ⟨iv_7a, ei7⟩ : ∃ z, z = clr iv_6 90 0 0 := ⟨_, rfl⟩
  obtain ⟨rv_7a, er7⟩ : ∃ z, z = clr rv_6p 90 0 none := ⟨_, rfl⟩
  rw [← ea7] at hU hI hZ hn hi hP hBF
  rw [← ei7] at hU hI hP hBF
  rw [← er7] at hU hI hZ hP
  refine W.widen (k := 51) (n := 829) (Nat.le_of_ble_eq_true rfl) (Nat.le_of_ble_eq_true rfl) ?_
  refine lv_dup hx hb dX11_init_74 rfl ?_
  refine W.eq (g2 := F0 m 75 ls [.ref (al_7a.2 90 0), .ref a7, .ref o]) (by rw [hn]) ?_
  refine q_cvA (q_runIA (n := 0) (b := al_7a.2 90 0) (As := []) (rest := [.ref a7, .ref o]) C hU hz (fun _ _ _ => trivial) (fun _ _ _ _ _ => trivial) (c_X1_init hI.1 hI.2.1 0 hi) cw_X1_init im_X1_init iz_X1 ml_X11_53 rfl (by decide +kernel) hl.1 rfl rfl (Nat.le_of_ble_eq_true rfl) dX11_init_75 rfl rfl ⟨Nat.le_of_ble_eq_true rfl, Nat.le_of_ble_eq_true rfl⟩ ⟨Nat.le_of_ble_eq_true rfl, Nat.le_of_ble_eq_true rfl⟩) hS hz (fun al_7 iv_7 rv_7 H locs hp hU hS hz => ?_)
  obtain ⟨g1, g2, g3, g4⟩ := hp
  have hI := hI.call g1 g2 g3 (by decide) (by decide)
  have hi2 : 0 < al_7.1 90 := by rw [g3.1]; omega
  have hZ := (hZ.ext g3 (by decide)).add hi2 g4
  have hZ : NZ [(90, 7), (90, 5), (90, 4), (90, 3), (90, 2), (90, 1), (90, 0), (84, 3), (84, 2), (84, 0), (79, 3), (79, 2), (79, 1), (79, 0), (68, 10), (68, 9), (68, 8), (68, 7), (68, 6), (68, 4), (68, 3), (68, 2), (68, 1), (68, 0), (63, 0), (57, 4), (57, 3), (57, 2), (57, 0), (52, 0), (52, 1)] al_7 rv_7 := hZ
  have hP := hP.ext g3 (by decide) (by decide) (by decide)
  have hBF := hBF.ext g3 (by decide)
  have hn : al_7.2 90 0 = a7 := by rw [g3.2.1 90 0 hi]; exact hn
  clear g1 g2 g3 g4 hi ea7 ei7 er7
  refine W.widen (k := 58) (n := 1109) (Nat.le_of_ble_eq_true rfl) (Nat.le_of_ble_eq_true rfl) ?_
  refine q_rp2 C hnm hU hS hI (t := 90) (i := 0) (k := 6) (a := a7) k_49 (hc := rfl) uwX11 tyX11 tyX11_ok nmX11 (by decide) rfl rfl rfl (by decide) fl_X11_54 (fun _ => rfl) (fun _ => rfl) hn hi2 dX11_init_78 (fun rv_7p H locs er hU hS hI => ?_)
  have hZ : NZ [(90, 7), (90, 5), (90, 4), (90, 3), (90, 2), (90, 1), (90, 0), (84, 3), (84, 2), (84, 0), (79, 3), (79, 2), (79, 1), (79, 0), (68, 10), (68, 9), (68, 8), (68, 7), (68, 6), (68, 4), (68, 3), (68, 2), (68, 1), (68, 0), (63, 0), (57, 4), (57, 3), (57, 2), (57, 0), (52, 0), (52, 1)] al_7 rv_7p := by rw [er]; exact hZ.put (by decide)
  have hP : PF al_7 iv_7 rv_7p := by rw [er]; exact hP.put (by decide) (by decide)
  clear er hn hi2 c7
  refine lv_aload_n hx hb dX11_init_81 rfl (lv_at hl 0 rfl) ?_
  obtain ⟨ts, zs, ys⟩ := hX.2.1
  refine q_gets C zs hS fl_X11_58 dX11_init_82 ?_
  have c50 : al_7.1 50 = 0 := by rw [hI.2.2.1.1 50, cz 50 (by decide) (by decide)]; rfl
  refine q_clone (t := 50) C hU hS hI.2.1 (Nat.le_trans hz0 hS.1) ys hX.2.2.2.2 k_50 (fun _ => rfl) hl.1 (Nat.le_of_ble_eq_true rfl) (Nat.le_of_ble_eq_true rfl) (Nat.le_of_ble_eq_true rfl) (Nat.le_of_ble_eq_true rfl) dX11_init_85 (fun a8 H hU hS hcell => ?_)
  have hX8 : EXT (nx (fun _ => 0) 50) ([50], []) al_7 iv_7 rv_7p (grow al_7 50 a8) (clf iv_7 50 (al_7.1 50) fst4) (clr rv_7p 50 (al_7.1 50) none) := EXT.rf.newf 50 a8 (by decide)
  have hI := hI.newf (f := fst4) 50 a8 (by decide) (by decide) (fun k _ => fst4_rng k)
  have hZ := hZ.ext hX8 (by decide)
  have hP := hP.ext hX8 (by decide) (by decide) (by decide)
  have hBF := hBF.ext hX8 (by decide)
  have hn := grow_new (al := al_7) (t := 50) (a := a8)
  have hi : 0 < (grow al_7 50 a8).1 50 := by rw [grow_ct]; simp
  rw [c50] at hU hI hZ hn hP hBF
  clear hX8
  obtain ⟨al_8, ea⟩ : ∃ z, z = grow al_7 50 a8 := ⟨_, rfl⟩
  obtain ⟨iv_8, ei⟩ : ∃ z, z = clf iv_7 50 0 fst4 := ⟨_, rfl⟩
  obtain ⟨rv_8, er⟩ : ∃ z, z = clr rv_7p 50 0 none := ⟨_, rfl⟩
  have s8 : ∀ k, iv_8 50 0 k = fst4 k := fun k => by rw [ei]; exact clf_self
  rw [← ea] at hU hI hZ hn hi hP hBF
  rw [← ei] at hU hI hP hBF
  rw [← er] at hU hI hZ hP
  clear ea ei er
  refine W.widen (k := 59) (n := 1113) (Nat.le_of_ble_eq_true rfl) (Nat.le_of_ble_eq_true rfl) ?_
  refine va_castE hx hb C.1.2.2.2.1 (C.1.2.2.2.2 _ kl_X11_63) hcell dX11_init_88 ?_
  refine q_rp2 C hnm hU hS hI (t := 50) (i := 0) (k := 7) (a := a8) k_49 (hc := rfl) uwX11 tyX11 tyX11_ok nmX11 (by decide) rfl rfl rfl (by decide) fl_X11_67 (fun _ => rfl) (fun _ => rfl) hn hi dX11_init_91 (fun rv_8p H locs er hU hS hI => ?_)
  have hZ : NZ [(90, 7), (90, 5), (90, 4), (90, 3), (90, 2), (90, 1), (90, 0), (84, 3), (84, 2), (84, 0), (79, 3), (79, 2), (79, 1), (79, 0), (68, 10), (68, 9), (68, 8), (68, 7), (68, 6), (68, 4), (68, 3), (68, 2), (68, 1), (68, 0), (63, 0), (57, 4), (57, 3), (57, 2), (57, 0), (52, 0), (52, 1)] al_8 rv_8p := by rw [er]; exact hZ.put (by decide)
  have hP : PF al_8 iv_8 rv_8p := by rw [er]; exact hP.put (by decide) (by decide)
  clear er hn hi c50
  refine lv_aload_n hx hb dX11_init_94 rfl (lv_at hl 0 rfl) ?_
  refine lv_bipush (v := 7) hx hb dX11_init_95 (by decide) ?_
  have c51 : al_8.1 51 = 0 := by rw [hI.2.2.1.1 51, cz 51 (by decide) (by decide)]; rfl
  refine q_newp (t := 51) (ty := .int) C hU hS hI.2.1 (Nat.le_trans hz0 hS.1) rfl (Or.inl rfl) k_51 (fun _ => rfl) ac_int (by decide) (by decide) (by decide) (Nat.le_of_ble_eq_true rfl) (Nat.le_of_ble_eq_true rfl) dX11_init_97 (fun a9 H hU hS hz => ?_)
  have hX9 : EXT (nx (fun _ => 0) 51) ([], []) al_8 iv_8 rv_8p (grow al_8 51 a9) (clr iv_8 51 (al_8.1 51) 0) (clr rv_8p 51 (al_8.1 51) none) := EXT.rf.new 51 a9
  have hI := hI.new 51 a9 (by decide)
  have hZ := hZ.ext hX9 (by simp)
  have hP := hP.ext hX9 (by decide) (by decide) (by decide)
  have hBF := hBF.ext hX9 (by decide)
  have hn := grow_new (al := al_8) (t := 51) (a := a9)
  have hi : 0 < (grow al_8 51 a9).1 51 := by rw [grow_ct]; simp
  rw [c51] at hU hI hZ hn hP hBF
  clear hX9
  obtain ⟨al_9, ea⟩ : ∃ z, z = grow al_8 51 a9 := ⟨_, rfl⟩
  obtain ⟨iv_9, ei⟩ : ∃ z, z = clr iv_8 51 0 0 := ⟨_, rfl⟩
  obtain ⟨rv_9, er⟩ : ∃ z, z = clr rv_8p 51 0 none := ⟨_, rfl⟩
  have s9 : ∀ k, iv_9 50 0 k = fst4 k := fun k => by rw [ei, clr_ne (fun z => absurd z.1 (by decide))]; exact s8 k
  rw [← ea] at hU hI hZ hn hi hP hBF
  rw [← ei] at hU hI hP hBF
  rw [← er] at hU hI hZ hP
  clear ea ei er
  refine W.widen (k := 60) (n := 1120) (Nat.le_of_ble_eq_true rfl) (Nat.le_of_ble_eq_true rfl) ?_
  refine q_rp2 C hnm hU hS hI (t := 51) (i := 0) (k := 8) (a := a9) k_49 (hc := rfl) uwX11 tyX11 tyX11_ok nmX11 (by decide) rfl rfl rfl (by decide) fl_X11_70 (fun _ => rfl) (fun _ => rfl) hn hi dX11_init_99 (fun rv_9p H locs er hU hS hI => ?_)
  have hZ : NZ [(90, 7), (90, 5), (90, 4), (90, 3), (90, 2), (90, 1), (90, 0), (84, 3), (84, 2), (84, 0), (79, 3), (79, 2), (79, 1), (79, 0), (68, 10), (68, 9), (68, 8), (68, 7), (68, 6), (68, 4), (68, 3), (68, 2), (68, 1), (68, 0), (63, 0), (57, 4), (57, 3), (57, 2), (57, 0), (52, 0), (52, 1)] al_9 rv_9p := by rw [er]; exact hZ.put (by decide)
  have hP : PF al_9 iv_9 rv_9p := by rw [er]; exact hP.put (by decide) (by decide)
  clear er hn hi c51
  refine lv_aload_n hx hb dX11_init_102 rfl (lv_at hl 0 rfl) ?_
  refine lv_iconst (v := 0) hx hb dX11_init_103 (by decide) ?_
  refine W.eq (g2 := F0 m 104 ls [.int 0, .ref (al_9.2 49 i0)]) (by rw [hI.2.2.2.2.1]) ?_
  refine q_puti (t := 49) (i := i0) (k := 9) C hU hS k_49 (hc := rfl) uwX11 tyX11 tyX11_ok nmX11 hI.2.2.2.2.2 (by decide) rfl (Or.inl rfl) rfl fl_X11_73 dX11_init_104 rfl rfl (fun H locs hU hS => ?_)
  have hI := hI.puti (t := 49) (i := i0) (k := 9) (x := 0) (by decide) ⟨show (0 : Int) ≤ _ by decide, show _ ≤ (4000 : Int) by decide⟩
  have hP : PF al_9 (up3 iv_9 49 i0 9 0) rv_9p := ⟨hP.1, fun j hj => ⟨(hP.2 j hj).1, (hP.2 j hj).2.1, by rw [up3_ne (fun z => absurd z.1 (by decide))]; exact (hP.2 j hj).2.2.1, by rw [up3_ne (fun z => absurd z.1 (by decide))]; exact (hP.2 j hj).2.2.2⟩⟩
  have hBF : BF al_9 (up3 iv_9 49 i0 9 0) := ⟨hBF.1, fun k hk => by rw [up3_ne (fun z => absurd z.1 (by decide))]; exact hBF.2 k hk⟩
  exact q_vretA C hr hlk hU hS ⟨hI.1, hI.2.1, hI.2.2.1, hI.2.2.2.1, hZ, hP, fun k => by rw [up3_ne (fun z => absurd z.1 (by decide))]; exact s9 k, up3_self _ _ _ _ _, hBF⟩ dX11_init_107
end
section
theorem len_small {args : Array Value} {s : State} {t : Term} {v : Value} (h : (Term.length t).eval args s none [] s = some v) : ∃ b cell, t.eval args s none [] s = some (.ref b) ∧ s.arrayAt? b = some cell ∧ cell.slots.size < 2 ^ 31 ∧ v = .int cell.slots.size.toInt32 := by
  simp only [Term.eval, Option.bind_eq_bind] at h
  cases ht : t.eval args s none [] s with
  | none => simp [ht] at h
  | some x =>
    cases x <;> simp [ht] at h
    case ref a =>
      obtain ⟨cell, hcell, h⟩ := Option.bind_eq_some_iff.mp h
      by_cases hn : cell.slots.size < 2147483648
      · rw [if_pos hn] at h; cases h; exact ⟨a, cell, rfl, hcell, hn, rfl⟩
      · rw [if_neg hn] at h; cases h
theorem hBW {s : State} {args : Array Value} (hts : ∀ w ∈ lw_tbl, w.before args s = true) : ∀ w ∈ BW, w.before args s = true := fun w h => hts w (bw_tbl h)
theorem kn_all {s : State} {args : Array Value} (hB : ∀ w ∈ BW, w.before args s = true) : ∀ c : Nat, ∃ r : ClassId × (Nat → Nat), ∀ q : vw_C, vwCl[c]? = some q → u_Kn s q.1 q.2.1 q.2.2 r.1 r.2 := by
  intro c
  match c with
  | 0 =>
    obtain ⟨cC, iS, h⟩ := u_known hB uwX0 (hB _ ib_X0)
    exact ⟨(cC, iS), fun q hq => by cases hq; exact h⟩
  | 1 =>
    obtain ⟨cC, iS, h⟩ := u_known hB uwX1 (hB _ ib_X1)
    exact ⟨(cC, iS), fun q hq => by cases hq; exact h⟩
  | 2 =>
    obtain ⟨cC, iS, h⟩ := u_known hB uwX2 (hB _ ib_X2)
    exact ⟨(cC, iS), fun q hq => by cases hq; exact h⟩
  | 3 =>
    obtain ⟨cC, iS, h⟩ := u_known hB uwX3 (hB _ ib_X3)
    exact ⟨(cC, iS), fun q hq => by cases hq; exact h⟩
  | 4 =>
    obtain ⟨cC, iS, h⟩ := u_known hB uwX4 (hB _ ib_X4)
    exact ⟨(cC, iS), fun q hq => by cases hq; exact h⟩
  | 5 =>
    obtain ⟨cC, iS, h⟩ := u_known hB uwX5 (hB _ ib_X5)
    exact ⟨(cC, iS), fun q hq => by cases hq; exact h⟩
  | 6 =>
    obtain ⟨cC, iS, h⟩ := u_known hB uwX6 (hB _ ib_X6)
    exact ⟨(cC, iS), fun q hq => by cases hq; exact h⟩
  | 7 =>
    obtain ⟨cC, iS, h⟩ := u_known hB uwX7 (hB _ ib_X7)
    exact ⟨(cC, iS), fun q hq => by cases hq; exact h⟩
  | 8 =>
    obtain ⟨cC, iS, h⟩ := u_known hB uwX8 (hB _ ib_X8)
    exact ⟨(cC, iS), fun q hq => by cases hq; exact h⟩
  | 9 =>
    obtain ⟨cC, iS, h⟩ := u_known hB uwX9 (hB _ ib_X9)
    exact ⟨(cC, iS), fun q hq => by cases hq; exact h⟩
  | 10 =>
    obtain ⟨cC, iS, h⟩ := u_known hB uwX10 (hB _ ib_X10)
    exact ⟨(cC, iS), fun q hq => by cases hq; exact h⟩
  | 11 =>
    obtain ⟨cC, iS, h⟩ := u_known hB uwX11 (hB _ ib_X11)
    exact ⟨(cC, iS), fun q hq => by cases hq; exact h⟩
  | 12 =>
    obtain ⟨cC, iS, h⟩ := u_known hB uwX12 (hB _ ib_X12)
    exact ⟨(cC, iS), fun q hq => by cases hq; exact h⟩
  | n + 13 => exact ⟨(0, fun _ => 0), fun q hq => by simp at hq⟩
theorem ar_all {s : State} {args : Array Value} (hts : ∀ w ∈ lw_tbl, w.before args s = true) : ∀ ty : FieldType, ty ∈ aty → ∃ c : ClassId, ArrOfT s c ty ∧ va_RA s c ty := by
  have prim : ∀ ty, (Cond.arrayClass ty).before args s = true → ∃ c : ClassId, ArrOfT s c ty ∧ s.vm.findClass ("[" ++ ty.toString) = some c := fun ty h => by
    obtain ⟨c, k, comp, h1, h2, h3⟩ := Cond.arrayClass_spec h
    exact ⟨c, fun n z => ⟨(fun _ w => by cases w), k, h2, comp, h3⟩, h1⟩
  have obj : ∀ C, (Cond.arrayOver (.object C)).before args s = true → ∃ c : ClassId, ArrOfT s c (.object C) ∧ va_RA s c (.object C) := fun C h => by
    obtain ⟨comp, c, k, h1, h2, h3, h4, h5⟩ := Cond.arrayOver_spec h
    exact ⟨c, fun n z => ⟨(fun _ w => by cases w), k, h3, comp, h4⟩, k, comp, h3, h4, h1, h5⟩
  intro ty hty
  simp only [aty, List.mem_cons, List.not_mem_nil, or_false] at hty
  rcases hty with rfl | rfl | rfl | rfl | rfl | rfl | rfl
  · exact prim .int (hBW hts _ ac_int)
  · exact prim .boolean (hBW hts _ ac_boolean)
  · exact obj _ (hts _ (List.mem_of_getElem? (i := 84) (by decide +kernel)))
  · exact obj _ (hts _ (List.mem_of_getElem? (i := 129) (by decide +kernel)))
  · exact obj _ (hts _ (List.mem_of_getElem? (i := 156) (by decide +kernel)))
  · exact obj _ (hts _ (List.mem_of_getElem? (i := 242) (by decide +kernel)))
  · obtain ⟨comp, c, k, h1, h3, h4, h5⟩ := Cond.arrayOver_specA (hts _ (List.mem_of_getElem? (i := 109) (a := Cond.arrayOver (.array .int)) (by decide +kernel)))
    exact ⟨c, fun n z => ⟨(fun _ w => by cases w), k, h3, comp, h4⟩, h5⟩
theorem ku_start {s : State} {args : Array Value} (hts : ∀ w ∈ lw_tbl, w.before args s = true) : ∃ (D : va_G) (cA : FieldType → ClassId), KU D cA s := by
  have h1 := kn_all (hBW hts)
  have h2 : ∀ ty : FieldType, ∃ c : ClassId, ty ∈ aty → ArrOfT s c ty ∧ va_RA s c ty := fun ty => by
    by_cases q : ty ∈ aty
    · obtain ⟨c, h⟩ := ar_all hts ty q
      exact ⟨c, fun _ => h⟩
    · exact ⟨0, fun h => absurd h q⟩
  refine ⟨(fun c => (Classical.choose (h1 c)).1, fun c => (Classical.choose (h1 c)).2), fun ty => Classical.choose (h2 ty), ⟨fun c q hq => Classical.choose_spec (h1 c) q hq, fun k q hq => by simp at hq⟩, fun ty hty => Classical.choose_spec (h2 ty) hty, ⟨?_, ?_, ?_, ?_⟩, ?_, ?_, ?_, ?_⟩
  · exact va_AO.of (hts _ (List.mem_of_getElem? (i := 84) (by decide +kernel)))
  · exact va_AO.of (hts _ (List.mem_of_getElem? (i := 129) (by decide +kernel)))
  · exact va_AO.of (hts _ (List.mem_of_getElem? (i := 156) (by decide +kernel)))
  · exact va_AO.of (hts _ (List.mem_of_getElem? (i := 242) (by decide +kernel)))
  · exact va_Nw.of rfl (hts _ (List.mem_of_getElem? (i := 361) (by decide +kernel)))
  · exact va_Nw.of rfl (hts _ (List.mem_of_getElem? (i := 507) (by decide +kernel)))
  · exact va_Nw.of rfl (hts _ (List.mem_of_getElem? (i := 633) (by decide +kernel)))
  · exact va_Nw.of rfl (hts _ (List.mem_of_getElem? (i := 813) (by decide +kernel)))
theorem aoa_start {s : State} {args : Array Value} (hts : ∀ w ∈ lw_tbl, w.before args s = true) : va_AOA .int s := hts _ (List.mem_of_getElem? (i := 109) (a := Cond.arrayOver (.array .int)) (by decide +kernel))
theorem st_fst4 {s : State} {args : Array Value} (hs : ∀ w ∈ flatC (Jvm.Cond.and given_1 narrow_1), w.before args s = true) : (Cond.arrayOf (Term.static "LateClaims" "FIRST_SETTING" "[I") .int).before args s = true ∧ (Term.length (Term.static "LateClaims" "FIRST_SETTING" "[I")).eval args s none [] s = some (.int (Int32.ofNat 4)) ∧ ∀ j : Nat, j < 4 → (Term.elem (Term.static "LateClaims" "FIRST_SETTING" "[I") (.int (Int32.ofNat j))).eval args s none [] s = some (.int (fst4 j)) := by
  refine ⟨hs _ (by decide +kernel), va_eqt (z := 4) (hs _ (by decide +kernel)), fun j hj => ?_⟩
  match j, hj with
  | 0, _ => exact va_eqt (z := 30) (hs (Cond.eq (.elem (Term.static "LateClaims" "FIRST_SETTING" "[I") (.int 0)) (.int 30)) (by decide +kernel))
  | 1, _ => exact va_eqt (z := 60) (hs (Cond.eq (.elem (Term.static "LateClaims" "FIRST_SETTING" "[I") (.int 1)) (.int 60)) (by decide +kernel))
  | 2, _ => exact va_eqt (z := 45) (hs (Cond.eq (.elem (Term.static "LateClaims" "FIRST_SETTING" "[I") (.int 2)) (.int 45)) (by decide +kernel))
  | 3, _ => exact va_eqt (z := 5) (hs (Cond.eq (.elem (Term.static "LateClaims" "FIRST_SETTING" "[I") (.int 3)) (.int 5)) (by decide +kernel))
  | n + 4, h => omega
theorem st_lst4 {s : State} {args : Array Value} (hs : ∀ w ∈ flatC (Jvm.Cond.and given_1 narrow_1), w.before args s = true) : (Cond.arrayOf (Term.static "LateClaims" "LEAST_SETTING" "[I") .int).before args s = true ∧ (Term.length (Term.static "LateClaims" "LEAST_SETTING" "[I")).eval args s none [] s = some (.int (Int32.ofNat 4)) ∧ ∀ j : Nat, j < 4 → (Term.elem (Term.static "LateClaims" "LEAST_SETTING" "[I") (.int (Int32.ofNat j))).eval args s none [] s = some (.int (lst4 j)) := by
  refine ⟨hs _ (by decide +kernel), va_eqt (z := 4) (hs _ (by decide +kernel)), fun j hj => ?_⟩
  match j, hj with
  | 0, _ => exact va_eqt (z := 0) (hs (Cond.eq (.elem (Term.static "LateClaims" "LEAST_SETTING" "[I") (.int 0)) (.int 0)) (by decide +kernel))
  | 1, _ => exact va_eqt (z := 0) (hs (Cond.eq (.elem (Term.static "LateClaims" "LEAST_SETTING" "[I") (.int 1)) (.int 0)) (by decide +kernel))
  | 2, _ => exact va_eqt (z := 0) (hs (Cond.eq (.elem (Term.static "LateClaims" "LEAST_SETTING" "[I") (.int 2)) (.int 0)) (by decide +kernel))
  | 3, _ => exact va_eqt (z := 1) (hs (Cond.eq (.elem (Term.static "LateClaims" "LEAST_SETTING" "[I") (.int 3)) (.int 1)) (by decide +kernel))
  | n + 4, h => omega
theorem st_grt4 {s : State} {args : Array Value} (hs : ∀ w ∈ flatC (Jvm.Cond.and given_1 narrow_1), w.before args s = true) : (Cond.arrayOf (Term.static "LateClaims" "GREATEST_SETTING" "[I") .int).before args s = true ∧ (Term.length (Term.static "LateClaims" "GREATEST_SETTING" "[I")).eval args s none [] s = some (.int (Int32.ofNat 4)) ∧ ∀ j : Nat, j < 4 → (Term.elem (Term.static "LateClaims" "GREATEST_SETTING" "[I") (.int (Int32.ofNat j))).eval args s none [] s = some (.int (grt4 j)) := by
  refine ⟨hs _ (by decide +kernel), va_eqt (z := 4) (hs _ (by decide +kernel)), fun j hj => ?_⟩
  match j, hj with
  | 0, _ => exact va_eqt (z := 200) (hs (Cond.eq (.elem (Term.static "LateClaims" "GREATEST_SETTING" "[I") (.int 0)) (.int 200)) (by decide +kernel))
  | 1, _ => exact va_eqt (z := 900) (hs (Cond.eq (.elem (Term.static "LateClaims" "GREATEST_SETTING" "[I") (.int 1)) (.int 900)) (by decide +kernel))
  | 2, _ => exact va_eqt (z := 300) (hs (Cond.eq (.elem (Term.static "LateClaims" "GREATEST_SETTING" "[I") (.int 2)) (.int 300)) (by decide +kernel))
  | 3, _ => exact va_eqt (z := 9) (hs (Cond.eq (.elem (Term.static "LateClaims" "GREATEST_SETTING" "[I") (.int 3)) (.int 9)) (by decide +kernel))
  | n + 4, h => omega
theorem sx_start {s : State} {args : Array Value} {D : va_G} {cA : FieldType → ClassId} (hK : KU D cA s) (hts : ∀ w ∈ lw_tbl, w.before args s = true) (hs : ∀ w ∈ flatC (Jvm.Cond.and given_1 narrow_1), w.before args s = true) : SX cA s.heap.size s s.heap := by
  have hA : ∀ a : Nat, a < s.heap.size → ¬ Aq s.heap.size a := fun a h z => absurd h (Nat.not_lt.mpr z)
  have hini : (Cond.initialized "LateClaims").before args s = true := hBW hts _ iz_X11
  refine ⟨?_, ?_, ?_, va_Nw.of rfl (hts _ (List.mem_of_getElem? (i := 309) (a := Cond.castable "[I" "java/lang/Cloneable") (by decide +kernel)))⟩
  · obtain ⟨h1, h2, h3⟩ := st_fst4 hs
    obtain ⟨b, cell, e1, e2, e3, e4⟩ := len_small h2
    obtain ⟨t, ht, hT⟩ := va_Tof (A := Aq s.heap.size) (f := fun j => .int (fst4 j)) (by decide) h1 h2 h3 hA
    cases e1.symm.trans ht
    refine ⟨b, va_Zof (hts _ (List.mem_of_getElem? (i := 303) (a := Cond.laysStatic "LateClaims" "FIRST_SETTING" "[I") (by decide +kernel))) hini e1 hA, ?_⟩
    obtain ⟨cell2, f1, f2, f3, f4, f5, f6, f7⟩ := hT
    obtain ⟨a3, c3, cell3, k3, x1, x2, x3, x4, x5, x6, -⟩ := Cond.exactly_spec (hs (Cond.exactly (Term.static "LateClaims" "FIRST_SETTING" "[I") "[I") (by decide +kernel))
    cases e1.symm.trans x1
    have q1 : cell3 = cell2 := (Option.some.inj (f1.symm.trans x3)).symm
    obtain ⟨hc2, -, -, -⟩ := State.arrayAt?_spec e2
    have q2 : cell = cell2 := (Option.some.inj (f1.symm.trans hc2)).symm
    rw [q1] at x6
    rw [q2] at e3 e4
    have hsz : cell2.slots.size = 4 := by
      have h := congrArg Int32.toInt (Value.int.inj e4 : Int32.ofNat 4 = Int32.ofNat cell2.slots.size)
      rw [Int32.toInt_ofNat_small e3, Int32.toInt_ofNat_small (by decide)] at h
      omega
    have hcl : cA .int = c3 := Option.some.inj ((hK.2.1 .int (by decide)).2.symm.trans x2)
    exact ⟨cell2, f1, by rw [x6, hcl], f3, f2.1, hsz, f6, f7⟩
  · obtain ⟨h1, h2, h3⟩ := st_lst4 hs
    obtain ⟨t, ht, hT⟩ := va_Tof (A := Aq s.heap.size) (f := fun j => .int (lst4 j)) (by decide) h1 h2 h3 hA
    exact ⟨t, va_Zof (hts _ (List.mem_of_getElem? (i := 522) (a := Cond.laysStatic "LateClaims" "LEAST_SETTING" "[I") (by decide +kernel))) hini ht hA, hT⟩
  · obtain ⟨h1, h2, h3⟩ := st_grt4 hs
    obtain ⟨t, ht, hT⟩ := va_Tof (A := Aq s.heap.size) (f := fun j => .int (grt4 j)) (by decide) h1 h2 h3 hA
    exact ⟨t, va_Zof (hts _ (List.mem_of_getElem? (i := 524) (a := Cond.laysStatic "LateClaims" "GREATEST_SETTING" "[I") (by decide +kernel))) hini ht hA, hT⟩
end
