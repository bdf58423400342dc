set_option maxHeartbeats 4000000 in
set_option maxRecDepth 100000 in
theorem c_X7_move_x {l : Launch} {D : va_G} {cA : FieldType → ClassId} {sz : Nat} {al : Al} {iv : Iv} {rv : Rv} (hG : GI al iv rv) (fl : Int32) (tl : Int32) (sh : Int32) (pre0 : 0 ≤ tl.toInt ∧ tl.toInt ≤ 9) : Met l yX7_move (wd yX7_move cX7_move 6 none) (rm 0) (PcW D cA sz al iv rv [.ref (al.2 52 0), .int fl, .int tl, .int sh]) (QV D cA sz al (fV al ([], [(56, 2), (56, 3)]) iv rv (fun iv' rv' => mvI iv iv' fl tl sh 10))) 0 0 (Aq sz) := by
  refine mk_v (by decide) (Nat.le_of_ble_eq_true rfl) rfl ?_
  intro p e s m args below meth c ls Q H locs C hU hS hl hret
  have hx := C.1.1
  have hb := C.1.2.1
  have hl : lv_has ls 6 [(0, .ref (al.2 52 0)), (1, .int fl), (2, .int tl), (3, .int sh)] := hl
  have hG0 := hG
  have hF1 : FR ([], [(56, 2), (56, 3)]) iv iv := FR.rf
  have hF2 : FR ([], [(56, 2), (56, 3)]) rv rv := FR.rf
  have k0 : (0 : Int32).toInt = 0 := by decide
  have k1 : (1 : Int32).toInt = 1 := by decide
  have k10 : (10 : Int32).toInt = 10 := by decide
  refine lv_iconst (v := 0) hx hb dX7_move_0 (by decide) ?_
  refine lv_istore (lv' := [(4, .int 0), (0, .ref (al.2 52 0)), (1, .int fl), (2, .int tl), (3, .int sh)]) hx hb dX7_move_1 hl (by decide) rfl (fun ls hl => ?_)
  have J_3 : ∀ (n_3 : Nat) (l4_1 : Int32) (iv_2 : Iv) (rv_3 : Rv) (H : Heap) (locs : List Loc) (ls : Array Slot), lv_has ls 6 [(0, .ref (al.2 52 0)), (1, .int fl), (2, .int tl), (3, .int sh), (4, .int l4_1)] → GI al iv_2 rv_3 → FR ([], [(56, 2), (56, 3)]) iv iv_2 → FR ([], [(56, 2), (56, 3)]) rv rv_3 → UW D cA sz al iv_2 rv_3 H → va_S (Aq sz) s.heap H locs → (0 ≤ l4_1.toInt ∧ l4_1.toInt ≤ 10) → mvI iv iv_2 fl tl sh l4_1.toNatClampNeg → (10 - l4_1.toInt).toNat < n_3 → W p l e (rm 0) s m args below meth c H locs 0 0 Q (F0 m 3 ls []) := by
    intro n_3
    induction n_3 with
    | zero =>
      intro l4_1 iv_2 rv_3 H locs ls hl hG hF1 hF2 hU hS i3_0 i3_1 hm_3
      exact absurd hm_3 (Nat.not_lt_zero _)
    | succ n_3 ih_3 =>
      intro l4_1 iv_2 rv_3 H locs ls hl hG hF1 hF2 hU hS i3_0 i3_1 hm_3
      refine lv_iload hx hb dX7_move_3 (lv_at hl 4 rfl) ?_
      refine lv_bipush (v := 10) hx hb dX7_move_5 (by decide) ?_
      refine b_icmp_ge (tgt := 51) hx hb dX7_move_7 (by decide) (fun c_4 => ?_) (fun c_4 => ?_)
      ·
        exact hret (⟨hG, hF1, hF2, mv_end i3_1 (by omega)⟩) hU hS dX7_move_51
      ·
        refine lv_aload_n hx hb dX7_move_10 rfl (lv_at hl 0 rfl) ?_
        refine g_52_0 C hU hG (h1_52 hG) fl_X7_11 dX7_move_11 ?_
        refine lv_iload hx hb dX7_move_14 (lv_at hl 4 rfl) ?_
        refine a_53 C hU hG (h1_53 hG) (x := l4_1) (by omega) (by omega) dX7_move_16 (fun j_5 ej_6 hb_7 => ?_)
        refine lv_astore (lv' := [(5, .ref (al.2 56 j_5)), (0, .ref (al.2 52 0)), (1, .int fl), (2, .int tl), (3, .int sh), (4, .int l4_1)]) hx hb dX7_move_17 hl (by decide) rfl (fun ls hl => ?_)
        refine lv_aload hx hb dX7_move_19 (lv_at hl 0 rfl) ?_
        refine g_56_2 C hU hG hb_7 fl_X7_33 dX7_move_21 (fun x_8 e_9 le_9 ue_9 => ?_)
        have te_9 := congrArg Int32.toInt e_9
        refine lv_iload_n hx hb dX7_move_24 rfl (lv_at hl 2 rfl) ?_
        have J_45 : ∀ (iv_10 : Iv) (rv_11 : Rv) (H : Heap) (locs : List Loc) (ls : Array Slot), lv_has ls 6 [(0, .ref (al.2 52 0)), (1, .int fl), (2, .int tl), (3, .int sh), (4, .int l4_1)] → GI al iv_10 rv_11 → FR ([], [(56, 2), (56, 3)]) iv iv_10 → FR ([], [(56, 2), (56, 3)]) rv rv_11 → UW D cA sz al iv_10 rv_11 H → va_S (Aq sz) s.heap H locs → mvI iv iv_10 fl tl sh (l4_1.toNatClampNeg + 1) → W p l e (rm 0) s m args below meth c H locs 0 0 Q (F0 m 45 ls []) := by
          intro iv_10 rv_11 H locs ls hl hG hF1 hF2 hU hS i45_0
          obtain ⟨x_12, e_13⟩ : ∃ y : Int32, y = l4_1 + 1 := ⟨_, rfl⟩
          have te_13 : x_12.toInt = (l4_1 : Int32).toInt + (1 : Int32).toInt := by rw [e_13]; exact fb_addI (by omega) (by omega)
          refine lv_iinc (v := x_12) (lv' := [(4, .int x_12), (0, .ref (al.2 52 0)), (1, .int fl), (2, .int tl), (3, .int sh)]) hx hb dX7_move_45 hl (k := 4) rfl (by rw [e_13]; rfl) (by decide) rfl (fun ls hl => ?_)
          refine lv_goto (tgt := 3) hx hb dX7_move_48 (by decide) ?_
          exact ih_3 x_12 _ _ _ _ _ (lv_sub hl [1, 2, 3, 4, 0] rfl) hG hF1 hF2 hU hS (by omega) (by first | exact mv_up (by omega) (by omega) i45_0 | exact mv_0) (by omega)
        refine b_icmp_ne (tgt := 45) hx hb dX7_move_25 (by decide) (fun c_14 => ?_) (fun c_14 => ?_)
        ·
          exact J_45 _ _ _ _ _ (lv_sub hl [1, 2, 3, 4, 5] rfl) hG hF1 hF2 hU hS (by first | exact mv_keep i3_1 e_9 (pix hG ej_6 (by omega) (by omega)) c_14 | exact mv_put i3_1 e_9 (pix hG ej_6 (by omega) (by omega)) c_14 True.intro True.intro True.intro True.intro)
        ·
          refine lv_aload hx hb dX7_move_28 (lv_at hl 0 rfl) ?_
          refine lv_iload_n hx hb dX7_move_30 rfl (lv_at hl 3 rfl) ?_
          refine p_56_2 C hU hS hb_7 fl_X7_33 dX7_move_31 (fun iv_15 H locs ei_16 hU hS => ?_)
          have hG : GI al iv_15 rv_3 := by rw [ei_16]; exact hG.puti (show _ ∧ _ from ⟨show (0 : Int) ≤ _ by omega, show _ ≤ (9 : Int) by omega⟩) (nsF (by decide))
          have hF1 : FR ([], [(56, 2), (56, 3)]) iv iv_15 := by rw [ei_16]; exact hF1.put (by decide)
          refine lv_aload hx hb dX7_move_34 (lv_at hl 0 rfl) ?_
          refine lv_dup hx hb dX7_move_36 rfl ?_
          refine g_56_3 C hU hG hb_7 fl_X7_36 dX7_move_37 (fun x_17 e_18 => ?_)
          have te_18 := congrArg Int32.toInt e_18
          refine lv_iload_n hx hb dX7_move_40 rfl (lv_at hl 4 rfl) ?_
          refine lv_iadd hx hb dX7_move_41 ?_
          refine lv_topi (fun x_19 e_20 => ?_)
          refine p_56_3 C hU hS hb_7 fl_X7_36 dX7_move_42 (fun iv_21 H locs ei_22 hU hS => ?_)
          have hG : GI al iv_21 rv_3 := by rw [ei_22]; exact hG.puti (show _ ∧ _ from ⟨(fb_rng _).1, Int.le_of_lt_add_one (fb_rng _).2⟩) (nsF (by decide))
          have hF1 : FR ([], [(56, 2), (56, 3)]) iv iv_21 := by rw [ei_22]; exact hF1.put (by decide)
          exact J_45 _ _ _ _ _ (lv_sub hl [1, 2, 3, 4, 5] rfl) hG hF1 hF2 hU hS (by first | exact mv_keep i3_1 e_9 (pix hG ej_6 (by omega) (by omega)) c_14 | exact mv_put i3_1 e_9 (pix hG ej_6 (by omega) (by omega)) c_14 ei_16 e_18 e_20 ei_22)
  exact J_3 _ 0 _ _ _ _ _ (lv_sub hl [1, 2, 3, 4, 0] rfl) hG hF1 hF2 hU hS (by omega) (by first | exact mv_up (by omega) (by omega) i45_0 | exact mv_0) (Nat.lt_succ_self _)
set_option maxHeartbeats 4000000 in
set_option maxRecDepth 100000 in
theorem c_X7_take_x {l : Launch} {D : va_G} {cA : FieldType → ClassId} {sz : Nat} {al : Al} {iv : Iv} {rv : Rv} (hG : GI al iv rv) (pi : Nat) (hpi : pi < al.1 56) (pj : Nat) (hpj : pj < al.1 56) (by_ : Int32) : Met l yX7_take (wd yX7_take cX7_take 5 (some .boolean)) (rm 1) (PcW D cA sz al iv rv [.ref (al.2 52 0), .ref (al.2 56 pi), .ref (al.2 56 pj), .int by_]) (QI D cA sz al (fI al ([], [(56, 2), (56, 3), (52, 2)]) iv rv (fun r iv' rv' => (0 ≤ r.toInt ∧ r.toInt ≤ 1) ∧ (tkP iv iv' pi pj by_ r)))) 0 0 (Aq sz) := by
  refine mk_z (by decide) (Nat.le_of_ble_eq_true rfl) rfl ?_
  intro p e s m args below meth c ls Q H locs C hU hS hl hret
  have hx := C.1.1
  have hb := C.1.2.1
  have hl : lv_has ls 5 [(0, .ref (al.2 52 0)), (1, .ref (al.2 56 pi)), (2, .ref (al.2 56 pj)), (3, .int by_)] := hl
  have hG0 := hG
  have hF1 : FR ([], [(56, 2), (56, 3), (52, 2)]) iv iv := FR.rf
  have hF2 : FR ([], [(56, 2), (56, 3), (52, 2)]) rv rv := FR.rf
  have k0 : (0 : Int32).toInt = 0 := by decide
  have k1 : (1 : Int32).toInt = 1 := by decide
  refine lv_aload_n hx hb dX7_take_0 rfl (lv_at hl 1 rfl) ?_
  refine g_56_2 C hU hG hpi fl_X7_33 dX7_take_1 (fun x_1 e_2 le_2 ue_2 => ?_)
  have te_2 := congrArg Int32.toInt e_2
  refine lv_aload_n hx hb dX7_take_4 rfl (lv_at hl 2 rfl) ?_
  refine g_56_2 C hU hG hpj fl_X7_33 dX7_take_5 (fun x_3 e_4 le_4 ue_4 => ?_)
  have te_4 := congrArg Int32.toInt e_4
  refine b_icmp_ne (tgt := 49) hx hb dX7_take_8 (by decide) (fun c_5 => ?_) (fun c_5 => ?_)
  ·
    refine lv_aload_n hx hb dX7_take_49 rfl (lv_at hl 1 rfl) ?_
    refine g_56_2 C hU hG hpi fl_X7_33 dX7_take_50 (fun x_6 e_7 le_7 ue_7 => ?_)
    have te_7 := congrArg Int32.toInt e_7
    refine lv_aload_n hx hb dX7_take_53 rfl (lv_at hl 2 rfl) ?_
    refine g_56_2 C hU hG hpj fl_X7_33 dX7_take_54 (fun x_8 e_9 le_9 ue_9 => ?_)
    have te_9 := congrArg Int32.toInt e_9
    refine b_icmp_ge (tgt := 86) hx hb dX7_take_57 (by decide) (fun c_10 => ?_) (fun c_10 => ?_)
    ·
      refine lv_aload_n hx hb dX7_take_86 rfl (lv_at hl 0 rfl) ?_
      refine lv_aload_n hx hb dX7_take_87 rfl (lv_at hl 1 rfl) ?_
      refine g_56_2 C hU hG hpi fl_X7_33 dX7_take_88 (fun x_11 e_12 le_12 ue_12 => ?_)
      have te_12 := congrArg Int32.toInt e_12
      refine lv_aload_n hx hb dX7_take_91 rfl (lv_at hl 2 rfl) ?_
      refine g_56_2 C hU hG hpj fl_X7_33 dX7_take_92 (fun x_13 e_14 le_14 ue_14 => ?_)
      have te_14 := congrArg Int32.toInt e_14
      refine lv_aload_n hx hb dX7_take_95 rfl (lv_at hl 2 rfl) ?_
      refine g_56_3 C hU hG hpj fl_X7_36 dX7_take_96 (fun x_15 e_16 => ?_)
      have te_16 := congrArg Int32.toInt e_16
      refine lv_iload_n hx hb dX7_take_99 rfl (lv_at hl 3 rfl) ?_
      refine lv_iadd hx hb dX7_take_100 ?_
      refine lv_topi (fun x_17 e_18 => ?_)
      refine lv_aload_n hx hb dX7_take_101 rfl (lv_at hl 1 rfl) ?_
      refine g_56_3 C hU hG hpi fl_X7_36 dX7_take_102 (fun x_19 e_20 => ?_)
      have te_20 := congrArg Int32.toInt e_20
      refine lv_isub hx hb dX7_take_105 ?_
      refine lv_topi (fun x_21 e_22 => ?_)
      refine q_fv (q_runV (t := 52) (i := 0) (As := [.int x_11, .int x_13, .int x_21]) (rest := []) C hU (c_X7_move_x hG x_11 x_13 x_21 (by omega)) vm_X7_move ml_X7_42 k_52.1 (hc := rfl) rfl (h1_52 hG) hl.1 rfl rfl (Nat.le_of_ble_eq_true rfl) dX7_take_106 rfl rfl ⟨Nat.le_of_ble_eq_true rfl, Nat.le_of_ble_eq_true rfl⟩ ⟨Nat.le_refl _, Nat.le_refl _⟩) hS (fun iv_24 rv_25 H locs hG fa_26 fb_27 hp_23 hU hS => ?_)
      have hF1 := hF1.tr (m := ([], [(56, 2), (56, 3), (52, 2)])) fa_26 (by decide)
      have hF2 := hF2.tr (m := ([], [(56, 2), (56, 3), (52, 2)])) fb_27 (by decide)
      refine lv_iconst (v := 1) hx hb dX7_take_109 (by decide) ?_
      exact hret (by omega) (by omega) (⟨hG, hF1, hF2, ⟨⟨by omega, by omega⟩, Or.inr ⟨by omega, by decide, by first | exact tk_a True.intro True.intro True.intro True.intro True.intro True.intro True.intro (by omega) | exact tk_b hp_23 e_12 e_14 e_16 e_18 e_20 e_22 (by omega)⟩⟩⟩) hU hS dX7_take_110
    ·
      refine lv_aload_n hx hb dX7_take_60 rfl (lv_at hl 0 rfl) ?_
      refine lv_aload_n hx hb dX7_take_61 rfl (lv_at hl 2 rfl) ?_
      refine g_56_2 C hU hG hpj fl_X7_33 dX7_take_62 (fun x_28 e_29 le_29 ue_29 => ?_)
      have te_29 := congrArg Int32.toInt e_29
      refine lv_aload_n hx hb dX7_take_65 rfl (lv_at hl 1 rfl) ?_
      refine g_56_2 C hU hG hpi fl_X7_33 dX7_take_66 (fun x_30 e_31 le_31 ue_31 => ?_)
      have te_31 := congrArg Int32.toInt e_31
      refine lv_aload_n hx hb dX7_take_69 rfl (lv_at hl 1 rfl) ?_
      refine g_56_3 C hU hG hpi fl_X7_36 dX7_take_70 (fun x_32 e_33 => ?_)
      have te_33 := congrArg Int32.toInt e_33
      refine lv_iload_n hx hb dX7_take_73 rfl (lv_at hl 3 rfl) ?_
      refine lv_isub hx hb dX7_take_74 ?_
      refine lv_topi (fun x_34 e_35 => ?_)
      refine lv_aload_n hx hb dX7_take_75 rfl (lv_at hl 2 rfl) ?_
      refine g_56_3 C hU hG hpj fl_X7_36 dX7_take_76 (fun x_36 e_37 => ?_)
      have te_37 := congrArg Int32.toInt e_37
      refine lv_isub hx hb dX7_take_79 ?_
      refine lv_topi (fun x_38 e_39 => ?_)
      refine q_fv (q_runV (t := 52) (i := 0) (As := [.int x_28, .int x_30, .int x_38]) (rest := []) C hU (c_X7_move_x hG x_28 x_30 x_38 (by omega)) vm_X7_move ml_X7_42 k_52.1 (hc := rfl) rfl (h1_52 hG) hl.1 rfl rfl (Nat.le_of_ble_eq_true rfl) dX7_take_80 rfl rfl ⟨Nat.le_of_ble_eq_true rfl, Nat.le_of_ble_eq_true rfl⟩ ⟨Nat.le_refl _, Nat.le_refl _⟩) hS (fun iv_41 rv_42 H locs hG fa_43 fb_44 hp_40 hU hS => ?_)
      have hF1 := hF1.tr (m := ([], [(56, 2), (56, 3), (52, 2)])) fa_43 (by decide)
      have hF2 := hF2.tr (m := ([], [(56, 2), (56, 3), (52, 2)])) fb_44 (by decide)
      refine lv_goto (tgt := 109) hx hb dX7_take_83 (by decide) ?_
      refine lv_iconst (v := 1) hx hb dX7_take_109 (by decide) ?_
      exact hret (by omega) (by omega) (⟨hG, hF1, hF2, ⟨⟨by omega, by omega⟩, Or.inr ⟨by omega, by decide, by first | exact tk_a hp_40 e_29 e_31 e_33 e_35 e_37 e_39 (by omega) | exact tk_b True.intro True.intro True.intro True.intro True.intro True.intro True.intro (by omega)⟩⟩⟩) hU hS dX7_take_110
  ·
    refine lv_aload_n hx hb dX7_take_11 rfl (lv_at hl 1 rfl) ?_
    refine g_56_3 C hU hG hpi fl_X7_36 dX7_take_12 (fun x_45 e_46 => ?_)
    have te_46 := congrArg Int32.toInt e_46
    refine lv_aload_n hx hb dX7_take_15 rfl (lv_at hl 2 rfl) ?_
    refine g_56_3 C hU hG hpj fl_X7_36 dX7_take_16 (fun x_47 e_48 => ?_)
    have te_48 := congrArg Int32.toInt e_48
    refine lv_isub hx hb dX7_take_19 ?_
    refine lv_topi (fun x_49 e_50 => ?_)
    refine lv_iload_n hx hb dX7_take_20 rfl (lv_at hl 3 rfl) ?_
    have J_29 : ∀ (v_51 : Int32) (ls : Array Slot), lv_has ls 5 [(0, .ref (al.2 52 0))] → (0 ≤ v_51.toInt ∧ v_51.toInt ≤ 1) → ((v_51.toInt = 1 ∧ x_49.toInt = by_.toInt) ∨ (v_51.toInt = 0 ∧ ¬ x_49.toInt = by_.toInt)) → W p l e (rm 1) s m args below meth c H locs 0 0 Q (F0 m 29 ls [.int v_51]) := by
      intro v_51 ls hl i29_0 i29_1
      refine lv_istore (lv' := [(4, .int v_51), (0, .ref (al.2 52 0))]) hx hb dX7_take_29 hl (by decide) rfl (fun ls hl => ?_)
      refine lv_iload hx hb dX7_take_31 (lv_at hl 0 rfl) ?_
      refine b_if_ne (tgt := 46) hx hb dX7_take_33 (by decide) (fun c_52 => ?_) (fun c_52 => ?_)
      ·
        refine lv_iload hx hb dX7_take_46 (lv_at hl 0 rfl) ?_
        exact hret (by omega) (by omega) (⟨hG, hF1, hF2, ⟨⟨by omega, by omega⟩, Or.inl ⟨by omega, by first | exact tk_fit e_46 e_48 e_50 (by omega), fun k => by first | exact ⟨rfl, rfl⟩ | exact ⟨by rw [True.intro]; exact up3_ne (fun z => absurd z.1 (by decide)), by rw [True.intro]; exact up3_ne (fun z => absurd z.1 (by decide))⟩⟩⟩⟩) hU hS dX7_take_48
      ·
        refine lv_aload_n hx hb dX7_take_36 rfl (lv_at hl 1 rfl) ?_
        refine lv_dup hx hb dX7_take_37 rfl ?_
        refine g_52_2 C hU hG (h1_52 hG) fl_X7_39 dX7_take_38 (fun x_53 e_54 => ?_)
        have te_54 := congrArg Int32.toInt e_54
        refine lv_iconst (v := 1) hx hb dX7_take_41 (by decide) ?_
        refine lv_iadd hx hb dX7_take_42 ?_
        refine lv_topi (fun x_55 e_56 => ?_)
        refine p_52_2 C hU hS (h1_52 hG) fl_X7_39 dX7_take_43 (fun iv_57 H locs ei_58 hU hS => ?_)
        have hG : GI al iv_57 rv := by rw [ei_58]; exact hG.puti (show _ ∧ _ from ⟨(fb_rng _).1, Int.le_of_lt_add_one (fb_rng _).2⟩) (nsF (by decide))
        have hF1 : FR ([], [(56, 2), (56, 3), (52, 2)]) iv iv_57 := by rw [ei_58]; exact hF1.put (by decide)
        refine lv_iload hx hb dX7_take_46 (lv_at hl 0 rfl) ?_
        exact hret (by omega) (by omega) (⟨hG, hF1, hF2, ⟨⟨by omega, by omega⟩, Or.inl ⟨by omega, by first | exact tk_fit e_46 e_48 e_50 (by omega), fun k => by first | exact ⟨rfl, rfl⟩ | exact ⟨by rw [ei_58]; exact up3_ne (fun z => absurd z.1 (by decide)), by rw [ei_58]; exact up3_ne (fun z => absurd z.1 (by decide))⟩⟩⟩⟩) hU hS dX7_take_48
    refine b_icmp_ne (tgt := 28) hx hb dX7_take_21 (by decide) (fun c_59 => ?_) (fun c_59 => ?_)
    ·
      refine lv_iconst (v := 0) hx hb dX7_take_28 (by decide) ?_
      exact J_29 0 _ (lv_sub hl [0] rfl) (by omega) (by omega)
    ·
      refine lv_iconst (v := 1) hx hb dX7_take_24 (by decide) ?_
      refine lv_goto (tgt := 29) hx hb dX7_take_25 (by decide) ?_
      exact J_29 1 _ (lv_sub hl [0] rfl) (by omega) (by omega)
set_option maxHeartbeats 4000000 in
set_option maxRecDepth 100000 in
theorem c_X5_putRight_x {l : Launch} {D : va_G} {cA : FieldType → ClassId} {sz : Nat} {al : Al} {iv : Iv} {rv : Rv} (hG : GI al iv rv) (li : Nat) (hli : li < al.1 62) : Met l yX5_putRight (wd yX5_putRight cX5_putRight 1 none) (rm 1) (PcW D cA sz al iv rv [.ref (al.2 62 li)]) (QV D cA sz al (fV al ([], [(62, 10), (62, 11), (62, 12), (62, 13)]) iv rv (fun iv' rv' => prQ iv rv iv' rv' li))) 0 0 (Aq sz) := by
  refine mk_v (by decide) (Nat.le_of_ble_eq_true rfl) rfl ?_
  intro p e s m args below meth c ls Q H locs C hU hS hl hret
  have hx := C.1.1
  have hb := C.1.2.1
  have hl : lv_has ls 1 [(0, .ref (al.2 62 li))] := hl
  have hG0 := hG
  have hF1 : FR ([], [(62, 10), (62, 11), (62, 12), (62, 13)]) iv iv := FR.rf
  have hF2 : FR ([], [(62, 10), (62, 11), (62, 12), (62, 13)]) rv rv := FR.rf
  have k0 : (0 : Int32).toInt = 0 := by decide
  refine lv_aload_n hx hb dX5_putRight_0 rfl (lv_at hl 0 rfl) ?_
  refine lv_iconst (v := 0) hx hb dX5_putRight_1 (by decide) ?_
  refine lv_aload_n hx hb dX5_putRight_2 rfl (lv_at hl 0 rfl) ?_
  refine g_62_8 C hU hG hli fl_X5_32 dX5_putRight_3 (fun x_1 e_2 le_2 ue_2 => ?_)
  have te_2 := congrArg Int32.toInt e_2
  refine lv_aload_n hx hb dX5_putRight_6 rfl (lv_at hl 0 rfl) ?_
  refine g_62_1 C hU hG hli fl_X5_13 dX5_putRight_7 (fun j_3 ej_4 hb_5 => ?_)
  refine g_56_3 C hU hG hb_5 fl_X5_45 dX5_putRight_10 (fun x_6 e_7 => ?_)
  have te_7 := congrArg Int32.toInt e_7
  refine lv_isub hx hb dX5_putRight_13 ?_
  refine lv_topi (fun x_8 e_9 => ?_)
  refine q_max C hl.1 ml_X5_50 (Nat.le_of_ble_eq_true rfl) (Nat.le_of_ble_eq_true rfl) (Nat.le_refl _) (Nat.le_refl _) dX5_putRight_14 (fun x_10 q_11 tq_11 => ?_)
  refine p_62_10 C hU hS hli fl_X5_56 dX5_putRight_17 (fun iv_12 H locs ei_13 hU hS => ?_)
  have hG : GI al iv_12 rv := by rw [ei_13]; exact hG.puti (show _ ∧ _ from ⟨(fb_rng _).1, Int.le_of_lt_add_one (fb_rng _).2⟩) (nsF (by decide))
  have hF1 : FR ([], [(62, 10), (62, 11), (62, 12), (62, 13)]) iv iv_12 := by rw [ei_13]; exact hF1.put (by decide)
  refine lv_aload_n hx hb dX5_putRight_20 rfl (lv_at hl 0 rfl) ?_
  refine lv_iconst (v := 0) hx hb dX5_putRight_21 (by decide) ?_
  refine lv_aload_n hx hb dX5_putRight_22 rfl (lv_at hl 0 rfl) ?_
  refine g_62_9 C hU hG hli fl_X5_35 dX5_putRight_23 (fun x_14 e_15 le_15 ue_15 => ?_)
  have te_15 := congrArg Int32.toInt e_15
  have ne_15 : x_14.toInt = (iv 62 li 9).toInt := by rw [e_15, hF1 62 li 9 (by decide)]
  refine lv_aload_n hx hb dX5_putRight_26 rfl (lv_at hl 0 rfl) ?_
  refine g_62_2 C hU hG hli fl_X5_17 dX5_putRight_27 (fun j_16 ej_17 hb_18 => ?_)
  refine g_56_3 C hU hG hb_18 fl_X5_45 dX5_putRight_30 (fun x_19 e_20 => ?_)
  have te_20 := congrArg Int32.toInt e_20
  have ne_20 : x_19.toInt = (iv 56 j_16 3).toInt := by rw [e_20, hF1 56 j_16 3 (by decide)]
  refine lv_isub hx hb dX5_putRight_33 ?_
  refine lv_topi (fun x_21 e_22 => ?_)
  refine q_max C hl.1 ml_X5_50 (Nat.le_of_ble_eq_true rfl) (Nat.le_of_ble_eq_true rfl) (Nat.le_refl _) (Nat.le_refl _) dX5_putRight_34 (fun x_23 q_24 tq_24 => ?_)
  refine p_62_11 C hU hS hli fl_X5_59 dX5_putRight_37 (fun iv_25 H locs ei_26 hU hS => ?_)
  have hG : GI al iv_25 rv := by rw [ei_26]; exact hG.puti (show _ ∧ _ from ⟨(fb_rng _).1, Int.le_of_lt_add_one (fb_rng _).2⟩) (nsF (by decide))
  have hF1 : FR ([], [(62, 10), (62, 11), (62, 12), (62, 13)]) iv iv_25 := by rw [ei_26]; exact hF1.put (by decide)
  refine lv_aload_n hx hb dX5_putRight_40 rfl (lv_at hl 0 rfl) ?_
  refine lv_iconst (v := 0) hx hb dX5_putRight_41 (by decide) ?_
  refine lv_aload_n hx hb dX5_putRight_42 rfl (lv_at hl 0 rfl) ?_
  refine g_62_10 C hU hG hli fl_X5_56 dX5_putRight_43 (fun x_27 e_28 => ?_)
  have te_28 := congrArg Int32.toInt e_28
  refine lv_aload_n hx hb dX5_putRight_46 rfl (lv_at hl 0 rfl) ?_
  refine g_62_5 C hU hG hli fl_X5_26 dX5_putRight_47 (fun x_29 e_30 le_30 ue_30 => ?_)
  have te_30 := congrArg Int32.toInt e_30
  have ne_30 : x_29.toInt = (iv 62 li 5).toInt := by rw [e_30, hF1 62 li 5 (by decide)]
  refine lv_isub hx hb dX5_putRight_50 ?_
  refine lv_topi (fun x_31 e_32 => ?_)
  refine q_max C hl.1 ml_X5_50 (Nat.le_of_ble_eq_true rfl) (Nat.le_of_ble_eq_true rfl) (Nat.le_refl _) (Nat.le_refl _) dX5_putRight_51 (fun x_33 q_34 tq_34 => ?_)
  refine p_62_12 C hU hS hli fl_X5_62 dX5_putRight_54 (fun iv_35 H locs ei_36 hU hS => ?_)
  have hG : GI al iv_35 rv := by rw [ei_36]; exact hG.puti (show _ ∧ _ from ⟨(fb_rng _).1, Int.le_of_lt_add_one (fb_rng _).2⟩) (nsF (by decide))
  have hF1 : FR ([], [(62, 10), (62, 11), (62, 12), (62, 13)]) iv iv_35 := by rw [ei_36]; exact hF1.put (by decide)
  refine lv_aload_n hx hb dX5_putRight_57 rfl (lv_at hl 0 rfl) ?_
  refine lv_iconst (v := 0) hx hb dX5_putRight_58 (by decide) ?_
  refine lv_aload_n hx hb dX5_putRight_59 rfl (lv_at hl 0 rfl) ?_
  refine g_62_11 C hU hG hli fl_X5_59 dX5_putRight_60 (fun x_37 e_38 => ?_)
  have te_38 := congrArg Int32.toInt e_38
  refine lv_aload_n hx hb dX5_putRight_63 rfl (lv_at hl 0 rfl) ?_
  refine g_62_6 C hU hG hli fl_X5_29 dX5_putRight_64 (fun x_39 e_40 le_40 ue_40 => ?_)
  have te_40 := congrArg Int32.toInt e_40
  have ne_40 : x_39.toInt = (iv 62 li 6).toInt := by rw [e_40, hF1 62 li 6 (by decide)]
  refine lv_isub hx hb dX5_putRight_67 ?_
  refine lv_topi (fun x_41 e_42 => ?_)
  refine q_max C hl.1 ml_X5_50 (Nat.le_of_ble_eq_true rfl) (Nat.le_of_ble_eq_true rfl) (Nat.le_refl _) (Nat.le_refl _) dX5_putRight_68 (fun x_43 q_44 tq_44 => ?_)
  refine p_62_13 C hU hS hli fl_X5_65 dX5_putRight_71 (fun iv_45 H locs ei_46 hU hS => ?_)
  have hG : GI al iv_45 rv := by rw [ei_46]; exact hG.puti (show _ ∧ _ from ⟨(fb_rng _).1, Int.le_of_lt_add_one (fb_rng _).2⟩) (nsF (by decide))
  have hF1 : FR ([], [(62, 10), (62, 11), (62, 12), (62, 13)]) iv iv_45 := by rw [ei_46]; exact hF1.put (by decide)
  exact hret (⟨hG, hF1, hF2, pr_ok e_2 ej_4 e_7 e_9 q_11 ei_13 e_15 ej_17 e_20 e_22 q_24 ei_26 e_28 e_30 e_32 q_34 ei_36 e_38 e_40 e_42 q_44 ei_46⟩) hU hS dX5_putRight_74
set_option maxHeartbeats 4000000 in
set_option maxRecDepth 100000 in
theorem c_X10_putRight_x {l : Launch} {D : va_G} {cA : FieldType → ClassId} {sz : Nat} {al : Al} {iv : Iv} {rv : Rv} (hG : GI al iv rv) : Met l yX10_putRight (wd yX10_putRight cX10_putRight 2 none) (rm 2) (PcW D cA sz al iv rv [.ref (al.2 57 0)]) (QV D cA sz al (fV al ([], [(62, 10), (62, 11), (62, 12), (62, 13)]) iv rv (fun iv' rv' => CRT iv' rv'))) 0 0 (Aq sz) := by
  refine mk_v (by decide) (Nat.le_of_ble_eq_true rfl) rfl ?_
  intro p e s m args below meth c ls Q H locs C hU hS hl hret
  have hx := C.1.1
  have hb := C.1.2.1
  have hl : lv_has ls 2 [(0, .ref (al.2 57 0))] := hl
  have hG0 := hG
  have hF1 : FR ([], [(62, 10), (62, 11), (62, 12), (62, 13)]) iv iv := FR.rf
  have hF2 : FR ([], [(62, 10), (62, 11), (62, 12), (62, 13)]) rv rv := FR.rf
  have k0 : (0 : Int32).toInt = 0 := by decide
  have k1 : (1 : Int32).toInt = 1 := by decide
  refine lv_iconst (v := 0) hx hb dX10_putRight_0 (by decide) ?_
  refine lv_istore_n (lv' := [(1, .int 0), (0, .ref (al.2 57 0))]) hx hb dX10_putRight_1 rfl hl (by decide) rfl (fun ls hl => ?_)
  have J_2 : ∀ (n_2 : Nat) (l1_1 : Int32) (iv_2 : Iv) (rv_3 : Rv) (H : Heap) (locs : List Loc) (ls : Array Slot), lv_has ls 2 [(0, .ref (al.2 57 0)), (1, .int l1_1)] → GI al iv_2 rv_3 → FR ([], [(62, 10), (62, 11), (62, 12), (62, 13)]) iv iv_2 → FR ([], [(62, 10), (62, 11), (62, 12), (62, 13)]) rv rv_3 → UW D cA sz al iv_2 rv_3 H → va_S (Aq sz) s.heap H locs → (0 ≤ l1_1.toInt ∧ l1_1.toInt ≤ 40) → CRN iv_2 rv_3 l1_1.toNatClampNeg → (40 - l1_1.toInt).toNat < n_2 → W p l e (rm 2) s m args below meth c H locs 0 0 Q (F0 m 2 ls []) := by
    intro n_2
    induction n_2 with
    | zero =>
      intro l1_1 iv_2 rv_3 H locs ls hl hG hF1 hF2 hU hS i2_0 i2_1 hm_2
      exact absurd hm_2 (Nat.not_lt_zero _)
    | succ n_2 ih_2 =>
      intro l1_1 iv_2 rv_3 H locs ls hl hG hF1 hF2 hU hS i2_0 i2_1 hm_2
      refine lv_iload_n hx hb dX10_putRight_2 rfl (lv_at hl 1 rfl) ?_
      refine lv_aload_n hx hb dX10_putRight_3 rfl (lv_at hl 0 rfl) ?_
      refine g_57_1 C hU hG (h1_57 hG) fl_X10_28 dX10_putRight_4 (fun x_4 e_5 le_5 ue_5 => ?_)
      have te_5 := congrArg Int32.toInt e_5
      have ne_5 : x_4.toInt = (iv 57 0 1).toInt := by rw [e_5, hF1 57 0 1 (by decide)]
      refine b_icmp_ge (tgt := 37) hx hb dX10_putRight_7 (by decide) (fun c_6 => ?_) (fun c_6 => ?_)
      ·
        exact hret (⟨hG, hF1, hF2, crn_end i2_1 (by omega)⟩) hU hS dX10_putRight_37
      ·
        refine lv_aload_n hx hb dX10_putRight_10 rfl (lv_at hl 0 rfl) ?_
        refine g_57_0 C hU hG (h1_57 hG) fl_X10_13 dX10_putRight_11 ?_
        refine lv_iload_n hx hb dX10_putRight_14 rfl (lv_at hl 1 rfl) ?_
        refine a_58 C hU hG (h1_58 hG) (x := l1_1) (by omega) (by omega) dX10_putRight_15 (fun r_7 er_8 hb_9 => ?_)
        have ner_8 : r_7 = rv 58 0 (l1_1 : Int32).toNatClampNeg := by rw [er_8, hF2.arr 58 0 _ (by decide)]
        obtain ⟨j_10, ej_11⟩ : ∃ j, r_7 = some j := ⟨_, er_8.trans (tall hG (by omega) (by omega))⟩
        subst ej_11
        have hl : lv_has ls 2 [(0, .ref (al.2 57 0)), (1, .int l1_1)] := hl
        have hb_12 : j_10 < al.1 62 := hb_9 j_10 rfl
        refine g_62_7 C hU hG hb_12 fl_X10_39 dX10_putRight_16 (fun x_13 e_14 le_14 ue_14 => ?_)
        have te_14 := congrArg Int32.toInt e_14
        have ne_14 : x_13.toInt = (iv 62 j_10 7).toInt := by rw [e_14, hF1 62 j_10 7 (by decide)]
        have J_31 : ∀ (iv_15 : Iv) (rv_16 : Rv) (H : Heap) (locs : List Loc) (ls : Array Slot), lv_has ls 2 [(0, .ref (al.2 57 0)), (1, .int l1_1)] → GI al iv_15 rv_16 → FR ([], [(62, 10), (62, 11), (62, 12), (62, 13)]) iv iv_15 → FR ([], [(62, 10), (62, 11), (62, 12), (62, 13)]) rv rv_16 → UW D cA sz al iv_15 rv_16 H → va_S (Aq sz) s.heap H locs → CRN iv_15 rv_16 (l1_1.toNatClampNeg + 1) → W p l e (rm 2) s m args below meth c H locs 0 0 Q (F0 m 31 ls []) := by
          intro iv_15 rv_16 H locs ls hl hG hF1 hF2 hU hS i31_0
          obtain ⟨x_17, e_18⟩ : ∃ y : Int32, y = l1_1 + 1 := ⟨_, rfl⟩
          have te_18 : x_17.toInt = (l1_1 : Int32).toInt + (1 : Int32).toInt := by rw [e_18]; exact fb_addI (by omega) (by omega)
          refine lv_iinc (v := x_17) (lv' := [(1, .int x_17), (0, .ref (al.2 57 0))]) hx hb dX10_putRight_31 hl (k := 1) rfl (by rw [e_18]; rfl) (by decide) rfl (fun ls hl => ?_)
          refine lv_goto (tgt := 2) hx hb dX10_putRight_34 (by decide) ?_
          exact ih_2 x_17 _ _ _ _ _ (lv_sub hl [1, 0] rfl) hG hF1 hF2 hU hS (by omega) (by first | exact crn_up (by omega) (by omega) i31_0 | exact crn_0) (by omega)
        refine b_if_eq (tgt := 31) hx hb dX10_putRight_19 (by decide) (fun c_19 => ?_) (fun c_19 => ?_)
        ·
          exact J_31 _ _ _ _ _ (lv_sub hl [0, 1] rfl) hG hF1 hF2 hU hS (by first | exact crn_keep i2_1 e_14 (tix hG er_8 (by omega) (by omega)) c_19 | exact crn_put i2_1 True.intro (tix hGb True.intro (by omega) (by omega)) True.intro True.intro)
        ·
          refine lv_aload_n hx hb dX10_putRight_22 rfl (lv_at hl 0 rfl) ?_
          refine g_57_0 C hU hG (h1_57 hG) fl_X10_13 dX10_putRight_23 ?_
          refine lv_iload_n hx hb dX10_putRight_26 rfl (lv_at hl 1 rfl) ?_
          refine a_58 C hU hG (h1_58 hG) (x := l1_1) (by omega) (by omega) dX10_putRight_27 (fun r_20 er_21 hb_22 => ?_)
          have ner_21 : r_20 = rv 58 0 (l1_1 : Int32).toNatClampNeg := by rw [er_21, hF2.arr 58 0 _ (by decide)]
          obtain ⟨j_23, ej_24⟩ : ∃ j, r_20 = some j := ⟨_, er_21.trans (tall hG (by omega) (by omega))⟩
          subst ej_24
          have hl : lv_has ls 2 [(0, .ref (al.2 57 0)), (1, .int l1_1)] := hl
          have hb_25 : j_23 < al.1 62 := hb_22 j_23 rfl
          have hGb := hG
          refine q_fv (q_runV (t := 62) (i := j_23) (As := []) (rest := []) C hU (c_X5_putRight_x hG (j_23) hb_25 ) vm_X5_putRight ml_X10_43 k_62.1 (hc := rfl) rfl hb_25 hl.1 rfl rfl (Nat.le_of_ble_eq_true rfl) dX10_putRight_28 rfl rfl ⟨Nat.le_of_ble_eq_true rfl, Nat.le_of_ble_eq_true rfl⟩ ⟨Nat.le_refl _, Nat.le_refl _⟩) hS (fun iv_27 rv_28 H locs hG fa_29 fb_30 hp_26 hU hS => ?_)
          have hF1 := hF1.tr (m := ([], [(62, 10), (62, 11), (62, 12), (62, 13)])) fa_29 (by decide)
          have hF2 := hF2.tr (m := ([], [(62, 10), (62, 11), (62, 12), (62, 13)])) fb_30 (by decide)
          exact J_31 _ _ _ _ _ (lv_sub hl [0, 1] rfl) hG hF1 hF2 hU hS (by first | exact crn_keep i2_1 e_14 (tix hG er_8 (by omega) (by omega)) c_19 | exact crn_put i2_1 hp_26 (tix hGb er_21 (by omega) (by omega)) fa_29 fb_30)
  exact J_2 _ 0 _ _ _ _ _ (lv_sub hl [1, 0] rfl) hG hF1 hF2 hU hS (by omega) (by first | exact crn_up (by omega) (by omega) i31_0 | exact crn_0) (Nat.lt_succ_self _)
set_option maxHeartbeats 4000000 in
set_option maxRecDepth 100000 in
theorem c_X11_seen_x {l : Launch} {D : va_G} {cA : FieldType → ClassId} {sz : Nat} {al : Al} {iv : Iv} {rv : Rv} (hG : GI al iv rv) (a : Int32) (b : Int32) (by_ : Int32) : Met l yX11_seen (wd yX11_seen cX11_seen 6 (some .int)) (rm 3) (PcW D cA sz al iv rv [.ref (al.2 49 0), .int a, .int b, .int by_]) (QI D cA sz al (fI al ([51], [(56, 2), (56, 3), (52, 2), (62, 10), (62, 11), (62, 12), (62, 13)]) iv rv (fun r iv' rv' => (spSeen a b by_ = 0 ∧ tkP iv iv' a.toNatClampNeg b.toNatClampNeg by_ r ∧ (CRT iv rv → CRT iv' rv')) ∨ (spSeen a b by_ ≠ 0 ∧ r = spSeen a b by_ ∧ (∀ k : Nat, iv' 56 k 2 = iv 56 k 2 ∧ iv' 56 k 3 = iv 56 k 3) ∧ (CRT iv rv → CRT iv' rv'))))) 0 0 (Aq sz) := by
  refine mk_i (by decide) (Nat.le_of_ble_eq_true rfl) rfl ?_
  intro p e s m args below meth c ls Q H locs C hU hS hl hret
  have hx := C.1.1
  have hb := C.1.2.1
  have hl : lv_has ls 6 [(0, .ref (al.2 49 0)), (1, .int a), (2, .int b), (3, .int by_)] := hl
  have hG0 := hG
  have hF1 : FR ([51], [(56, 2), (56, 3), (52, 2), (62, 10), (62, 11), (62, 12), (62, 13)]) iv iv := FR.rf
  have hF2 : FR ([51], [(56, 2), (56, 3), (52, 2), (62, 10), (62, 11), (62, 12), (62, 13)]) rv rv := FR.rf
  have km600 : ((-600) : Int32).toInt = -600 := by decide
  have km6 : ((-6) : Int32).toInt = -6 := by decide
  have km4 : ((-4) : Int32).toInt = -4 := by decide
  have km1 : ((-1) : Int32).toInt = -1 := by decide
  have k0 : (0 : Int32).toInt = 0 := by decide
  have k1 : (1 : Int32).toInt = 1 := by decide
  have k600 : (600 : Int32).toInt = 600 := by decide
  refine lv_aload_n hx hb dX11_seen_0 rfl (lv_at hl 0 rfl) ?_
  refine g_49_0 C hU hG (h1_49 hG) fl_X11_10 dX11_seen_1 ?_
  refine lv_iload_n hx hb dX11_seen_4 rfl (lv_at hl 1 rfl) ?_
  refine q_pr (q_runV (t := 52) (i := 0) (As := [.int a]) (rest := []) C hU (c_X7_find hG a ) vm_X7_find ml_X11_81 k_52.1 (hc := rfl) rfl (h1_52 hG) hl.1 rfl rfl (Nat.le_of_ble_eq_true rfl) dX11_seen_5 rfl rfl ⟨Nat.le_of_ble_eq_true rfl, Nat.le_of_ble_eq_true rfl⟩ ⟨Nat.le_refl _, Nat.le_refl _⟩) hS (fun r_2 H locs hp_1 hU hS => ?_)
  have hb_3 := hp_1.1
  refine b_astore (lv' := [(4, rfv al 56 r_2), (0, .ref (al.2 49 0)), (1, .int a), (2, .int b), (3, .int by_)]) hx hb dX11_seen_8 hl (by decide) rfl (fun ls hl => ?_)
  refine lv_aload_n hx hb dX11_seen_10 rfl (lv_at hl 1 rfl) ?_
  refine g_49_0 C hU hG (h1_49 hG) fl_X11_10 dX11_seen_11 ?_
  refine lv_iload_n hx hb dX11_seen_14 rfl (lv_at hl 3 rfl) ?_
  refine q_pr (q_runV (t := 52) (i := 0) (As := [.int b]) (rest := []) C hU (c_X7_find hG b ) vm_X7_find ml_X11_81 k_52.1 (hc := rfl) rfl (h1_52 hG) hl.1 rfl rfl (Nat.le_of_ble_eq_true rfl) dX11_seen_15 rfl rfl ⟨Nat.le_of_ble_eq_true rfl, Nat.le_of_ble_eq_true rfl⟩ ⟨Nat.le_refl _, Nat.le_refl _⟩) hS (fun r_5 H locs hp_4 hU hS => ?_)
  have hb_6 := hp_4.1
  refine b_astore (lv' := [(5, rfv al 56 r_5), (4, rfv al 56 r_2), (0, .ref (al.2 49 0)), (1, .int a), (2, .int b), (3, .int by_)]) hx hb dX11_seen_18 hl (by decide) (by simp [List.filter_cons, rfv_cat]) (fun ls hl => ?_)
  refine b_aload (al := al) (t' := 56) (r := r_2) hx hb dX11_seen_20 (lv_at hl 1 rfl) ?_
  refine b_ifnull (tgt := 37) hx hb dX11_seen_22 (by decide) (fun ej_9 => ?_) (fun j_8 ej_9 => ?_)
  ·
    subst ej_9
    have hl : lv_has ls 6 [(5, rfv al 56 r_5), (4, rfv al 56 none), (0, .ref (al.2 49 0)), (1, .int a), (2, .int b), (3, .int by_)] := hl
    have hq4 := hp_1.2.2 rfl
    refine lv_aload_n hx hb dX11_seen_37 rfl (lv_at hl 2 rfl) ?_
    refine lv_iconst (v := (-1)) hx hb dX11_seen_38 (by decide) ?_
    refine q_fi (q_runV (t := 49) (i := 0) (As := [.int (-1)]) (rest := []) C hU (c_X11_refuse hG (-1) (by omega)) vm_X11_refuse ml_X11_77 k_49.1 (hc := rfl) rfl (h1_49 hG) hl.1 rfl rfl (Nat.le_of_ble_eq_true rfl) dX11_seen_39 rfl rfl ⟨Nat.le_of_ble_eq_true rfl, Nat.le_of_ble_eq_true rfl⟩ ⟨Nat.le_refl _, Nat.le_refl _⟩) hS (fun x_15 iv_11 rv_12 H locs hG fa_13 fb_14 hp_10 hU hS => ?_)
    have hF1 := hF1.tr (m := ([51], [(56, 2), (56, 3), (52, 2), (62, 10), (62, 11), (62, 12), (62, 13)])) fa_13 (by decide)
    have hF2 := hF2.tr (m := ([51], [(56, 2), (56, 3), (52, 2), (62, 10), (62, 11), (62, 12), (62, 13)])) fb_14 (by decide)
    exact hret (⟨hG, hF1, hF2, sp_no (z := (-1)) (by unfold spSeen; (repeat' split) <;> first | rfl | omega) (by decide) hp_10 (⟨fun k => ⟨fa_13 56 k 2 (by decide), fa_13 56 k 3 (by decide)⟩, crt_fr fa_13 fb_14 (by decide)⟩)⟩) hU hS dX11_seen_42
  ·
    subst ej_9
    have hl : lv_has ls 6 [(5, rfv al 56 r_5), (4, .ref (al.2 56 j_8)), (0, .ref (al.2 49 0)), (1, .int a), (2, .int b), (3, .int by_)] := hl
    have hb_16 : j_8 < al.1 56 := hb_3 j_8 rfl
    have hq4 := hp_1.2.1 _ rfl
    have hn4 := hq4.1
    rw [clamp_n] at hn4
    refine b_aload (al := al) (t' := 56) (r := r_5) hx hb dX11_seen_25 (lv_at hl 0 rfl) ?_
    refine b_ifnull (tgt := 37) hx hb dX11_seen_27 (by decide) (fun ej_19 => ?_) (fun j_18 ej_19 => ?_)
    ·
      subst ej_19
      have hl : lv_has ls 6 [(5, rfv al 56 none), (4, .ref (al.2 56 j_8)), (0, .ref (al.2 49 0)), (1, .int a), (2, .int b), (3, .int by_)] := hl
      have hq5 := hp_4.2.2 rfl
      refine lv_aload_n hx hb dX11_seen_37 rfl (lv_at hl 2 rfl) ?_
      refine lv_iconst (v := (-1)) hx hb dX11_seen_38 (by decide) ?_
      refine q_fi (q_runV (t := 49) (i := 0) (As := [.int (-1)]) (rest := []) C hU (c_X11_refuse hG (-1) (by omega)) vm_X11_refuse ml_X11_77 k_49.1 (hc := rfl) rfl (h1_49 hG) hl.1 rfl rfl (Nat.le_of_ble_eq_true rfl) dX11_seen_39 rfl rfl ⟨Nat.le_of_ble_eq_true rfl, Nat.le_of_ble_eq_true rfl⟩ ⟨Nat.le_refl _, Nat.le_refl _⟩) hS (fun x_25 iv_21 rv_22 H locs hG fa_23 fb_24 hp_20 hU hS => ?_)
      have hF1 := hF1.tr (m := ([51], [(56, 2), (56, 3), (52, 2), (62, 10), (62, 11), (62, 12), (62, 13)])) fa_23 (by decide)
      have hF2 := hF2.tr (m := ([51], [(56, 2), (56, 3), (52, 2), (62, 10), (62, 11), (62, 12), (62, 13)])) fb_24 (by decide)
      exact hret (⟨hG, hF1, hF2, sp_no (z := (-1)) (by unfold spSeen; (repeat' split) <;> first | rfl | omega) (by decide) hp_20 (⟨fun k => ⟨fa_23 56 k 2 (by decide), fa_23 56 k 3 (by decide)⟩, crt_fr fa_23 fb_24 (by decide)⟩)⟩) hU hS dX11_seen_42
    ·
      subst ej_19
      have hl : lv_has ls 6 [(5, .ref (al.2 56 j_18)), (4, .ref (al.2 56 j_8)), (0, .ref (al.2 49 0)), (1, .int a), (2, .int b), (3, .int by_)] := hl
      have hb_26 : j_18 < al.1 56 := hb_6 j_18 rfl
      have hq5 := hp_4.2.1 _ rfl
      have hn5 := hq5.1
      rw [clamp_n] at hn5
      refine lv_aload hx hb dX11_seen_30 (lv_at hl 1 rfl) ?_
      refine lv_aload hx hb dX11_seen_32 (lv_at hl 0 rfl) ?_
      refine b_acmp_ne (tgt := 43) hx hb hU hb_16 hb_26 dX11_seen_34 (by decide) (fun c_27 => ?_) (fun c_27 => ?_)
      ·
        refine lv_iload_n hx hb dX11_seen_43 rfl (lv_at hl 5 rfl) ?_
        refine lv_sipush (v := (-600)) hx hb dX11_seen_44 (by decide) ?_
        refine b_icmp_ge (tgt := 57) hx hb dX11_seen_47 (by decide) (fun c_28 => ?_) (fun c_28 => ?_)
        ·
          refine lv_iload_n hx hb dX11_seen_57 rfl (lv_at hl 5 rfl) ?_
          refine lv_sipush (v := 600) hx hb dX11_seen_58 (by decide) ?_
          refine b_icmp_le (tgt := 71) hx hb dX11_seen_61 (by decide) (fun c_29 => ?_) (fun c_29 => ?_)
          ·
            refine lv_aload_n hx hb dX11_seen_71 rfl (lv_at hl 2 rfl) ?_
            refine g_49_0 C hU hG (h1_49 hG) fl_X11_10 dX11_seen_72 ?_
            refine lv_aload hx hb dX11_seen_75 (lv_at hl 1 rfl) ?_
            refine lv_aload hx hb dX11_seen_77 (lv_at hl 0 rfl) ?_
            refine lv_iload_n hx hb dX11_seen_79 rfl (lv_at hl 5 rfl) ?_
            refine q_fi (q_runV (t := 52) (i := 0) (As := [.ref (al.2 56 j_8), .ref (al.2 56 j_18), .int by_]) (rest := []) C hU (c_X7_take_x hG (j_8) hb_16 (j_18) hb_26 by_ ) vm_X7_take ml_X11_102 k_52.1 (hc := rfl) rfl (h1_52 hG) hl.1 rfl rfl (Nat.le_of_ble_eq_true rfl) dX11_seen_80 rfl rfl ⟨Nat.le_of_ble_eq_true rfl, Nat.le_of_ble_eq_true rfl⟩ ⟨Nat.le_refl _, Nat.le_refl _⟩) hS (fun x_35 iv_31 rv_32 H locs hG fa_33 fb_34 hp_30 hU hS => ?_)
            have hF1 := hF1.tr (m := ([51], [(56, 2), (56, 3), (52, 2), (62, 10), (62, 11), (62, 12), (62, 13)])) fa_33 (by decide)
            have hF2 := hF2.tr (m := ([51], [(56, 2), (56, 3), (52, 2), (62, 10), (62, 11), (62, 12), (62, 13)])) fb_34 (by decide)
            refine b_if_ne (tgt := 88) hx hb dX11_seen_83 (by decide) (fun c_36 => ?_) (fun c_36 => ?_)
            ·
              refine lv_aload_n hx hb dX11_seen_88 rfl (lv_at hl 2 rfl) ?_
              refine g_49_1 C hU hG (h1_49 hG) fl_X11_19 dX11_seen_89 ?_
              refine q_fv (q_runV (t := 57) (i := 0) (As := []) (rest := []) C hU (c_X10_putRight_x hG  ) vm_X10_putRight ml_X11_106 k_57.1 (hc := rfl) rfl (h1_57 hG) hl.1 rfl rfl (Nat.le_of_ble_eq_true rfl) dX11_seen_92 rfl rfl ⟨Nat.le_of_ble_eq_true rfl, Nat.le_of_ble_eq_true rfl⟩ ⟨Nat.le_refl _, Nat.le_refl _⟩) hS (fun iv_38 rv_39 H locs hG fa_40 fb_41 hp_37 hU hS => ?_)
              have hF1 := hF1.tr (m := ([51], [(56, 2), (56, 3), (52, 2), (62, 10), (62, 11), (62, 12), (62, 13)])) fa_40 (by decide)
              have hF2 := hF2.tr (m := ([51], [(56, 2), (56, 3), (52, 2), (62, 10), (62, 11), (62, 12), (62, 13)])) fb_41 (by decide)
              refine lv_iconst (v := 1) hx hb dX11_seen_95 (by decide) ?_
              exact hret (⟨hG, hF1, hF2, Or.inl ⟨(by unfold spSeen; (repeat' split) <;> first | rfl | omega), tk_fr (by have z := hp_30.2; rw [hq4.1, hq5.1] at z; exact z) (by omega) fa_40, fun _ => hp_37⟩⟩) hU hS dX11_seen_96
            ·
              refine lv_iconst (v := 0) hx hb dX11_seen_86 (by decide) ?_
              exact hret (⟨hG, hF1, hF2, Or.inl ⟨(by unfold spSeen; (repeat' split) <;> first | rfl | omega), tk_r (by have z := hp_30.2; rw [hq4.1, hq5.1] at z; exact z) (by omega), fun h => crt_tk h hp_30.2 (by omega) fa_33 fb_34⟩⟩) hU hS dX11_seen_87
          ·
            refine lv_aload_n hx hb dX11_seen_64 rfl (lv_at hl 2 rfl) ?_
            refine lv_bipush (v := (-6)) hx hb dX11_seen_65 (by decide) ?_
            refine q_fi (q_runV (t := 49) (i := 0) (As := [.int (-6)]) (rest := []) C hU (c_X11_refuse hG (-6) (by omega)) vm_X11_refuse ml_X11_77 k_49.1 (hc := rfl) rfl (h1_49 hG) hl.1 rfl rfl (Nat.le_of_ble_eq_true rfl) dX11_seen_67 rfl rfl ⟨Nat.le_of_ble_eq_true rfl, Nat.le_of_ble_eq_true rfl⟩ ⟨Nat.le_refl _, Nat.le_refl _⟩) hS (fun x_47 iv_43 rv_44 H locs hG fa_45 fb_46 hp_42 hU hS => ?_)
            have hF1 := hF1.tr (m := ([51], [(56, 2), (56, 3), (52, 2), (62, 10), (62, 11), (62, 12), (62, 13)])) fa_45 (by decide)
            have hF2 := hF2.tr (m := ([51], [(56, 2), (56, 3), (52, 2), (62, 10), (62, 11), (62, 12), (62, 13)])) fb_46 (by decide)
            exact hret (⟨hG, hF1, hF2, sp_no (z := (-6)) (by unfold spSeen; (repeat' split) <;> first | rfl | omega) (by decide) hp_42 (⟨fun k => ⟨fa_45 56 k 2 (by decide), fa_45 56 k 3 (by decide)⟩, crt_fr fa_45 fb_46 (by decide)⟩)⟩) hU hS dX11_seen_70
        ·
          refine lv_aload_n hx hb dX11_seen_50 rfl (lv_at hl 2 rfl) ?_
          refine lv_bipush (v := (-4)) hx hb dX11_seen_51 (by decide) ?_
          refine q_fi (q_runV (t := 49) (i := 0) (As := [.int (-4)]) (rest := []) C hU (c_X11_refuse hG (-4) (by omega)) vm_X11_refuse ml_X11_77 k_49.1 (hc := rfl) rfl (h1_49 hG) hl.1 rfl rfl (Nat.le_of_ble_eq_true rfl) dX11_seen_53 rfl rfl ⟨Nat.le_of_ble_eq_true rfl, Nat.le_of_ble_eq_true rfl⟩ ⟨Nat.le_refl _, Nat.le_refl _⟩) hS (fun x_53 iv_49 rv_50 H locs hG fa_51 fb_52 hp_48 hU hS => ?_)
          have hF1 := hF1.tr (m := ([51], [(56, 2), (56, 3), (52, 2), (62, 10), (62, 11), (62, 12), (62, 13)])) fa_51 (by decide)
          have hF2 := hF2.tr (m := ([51], [(56, 2), (56, 3), (52, 2), (62, 10), (62, 11), (62, 12), (62, 13)])) fb_52 (by decide)
          exact hret (⟨hG, hF1, hF2, sp_no (z := (-4)) (by unfold spSeen; (repeat' split) <;> first | rfl | omega) (by decide) hp_48 (⟨fun k => ⟨fa_51 56 k 2 (by decide), fa_51 56 k 3 (by decide)⟩, crt_fr fa_51 fb_52 (by decide)⟩)⟩) hU hS dX11_seen_56
      ·
        refine lv_aload_n hx hb dX11_seen_37 rfl (lv_at hl 2 rfl) ?_
        refine lv_iconst (v := (-1)) hx hb dX11_seen_38 (by decide) ?_
        refine q_fi (q_runV (t := 49) (i := 0) (As := [.int (-1)]) (rest := []) C hU (c_X11_refuse hG (-1) (by omega)) vm_X11_refuse ml_X11_77 k_49.1 (hc := rfl) rfl (h1_49 hG) hl.1 rfl rfl (Nat.le_of_ble_eq_true rfl) dX11_seen_39 rfl rfl ⟨Nat.le_of_ble_eq_true rfl, Nat.le_of_ble_eq_true rfl⟩ ⟨Nat.le_refl _, Nat.le_refl _⟩) hS (fun x_59 iv_55 rv_56 H locs hG fa_57 fb_58 hp_54 hU hS => ?_)
        have hF1 := hF1.tr (m := ([51], [(56, 2), (56, 3), (52, 2), (62, 10), (62, 11), (62, 12), (62, 13)])) fa_57 (by decide)
        have hF2 := hF2.tr (m := ([51], [(56, 2), (56, 3), (52, 2), (62, 10), (62, 11), (62, 12), (62, 13)])) fb_58 (by decide)
        exact hret (⟨hG, hF1, hF2, sp_no (z := (-1)) (by unfold spSeen; (repeat' split) <;> first | rfl | omega) (by decide) hp_54 (⟨fun k => ⟨fa_57 56 k 2 (by decide), fa_57 56 k 3 (by decide)⟩, crt_fr fa_57 fb_58 (by decide)⟩)⟩) hU hS dX11_seen_42
set_option maxHeartbeats 4000000 in
set_option maxRecDepth 100000 in
theorem c_X12_leg_y {l : Launch} {D : va_G} {cA : FieldType → ClassId} {sz : Nat} {al : Al} {iv : Iv} {rv : Rv} (hG : GI al iv rv) (a : Int32) (b : Int32) (pp : Int32) (cc_ : Int32) (lv_ : Int32) (rr : Int32) : Met l yX12_leg (wd yX12_leg cX12_leg 7 (some .int)) (rm 2) (PcW D cA sz al iv rv [.ref (al.2 0 0), .int a, .int b, .int pp, .int cc_, .int lv_, .int rr]) (QI D cA sz al (fI al ([16, 5, 6, 7, 8, 9, 10], [(0, 6)]) iv rv (fun r iv' rv' => (spLeg a b pp cc_ lv_ rr (iv 0 0 6).toInt = 0 ∧ r.toInt = (iv 0 0 6).toInt ∧ (iv' 0 0 6).toInt = (iv 0 0 6).toInt + 1 ∧ lgM iv iv' a b pp cc_ lv_ rr) ∨ (spLeg a b pp cc_ lv_ rr (iv 0 0 6).toInt ≠ 0 ∧ r = spLeg a b pp cc_ lv_ rr (iv 0 0 6).toInt ∧ iv' 0 0 6 = iv 0 0 6 ∧ lgK iv iv')))) 0 0 (Aq sz) := by
  refine mk_i (by decide) (Nat.le_of_ble_eq_true rfl) rfl ?_
  intro p e s m args below meth c ls Q H locs C hU hS hl hret
  have hx := C.1.1
  have hb := C.1.2.1
  have hl : lv_has ls 7 [(0, .ref (al.2 0 0)), (1, .int a), (2, .int b), (3, .int pp), (4, .int cc_), (5, .int lv_), (6, .int rr)] := hl
  have hG0 := hG
  have h6 := le6 hG
  have h20 := le20 hG
  have h41 := le41 hG
  have hF1 : FR ([16, 5, 6, 7, 8, 9, 10], [(0, 6)]) iv iv := FR.rf
  have hF2 : FR ([16, 5, 6, 7, 8, 9, 10], [(0, 6)]) rv rv := FR.rf
  have km6 : ((-6) : Int32).toInt = -6 := by decide
  have km4 : ((-4) : Int32).toInt = -4 := by decide
  have km1 : ((-1) : Int32).toInt = -1 := by decide
  have k0 : (0 : Int32).toInt = 0 := by decide
  have k1 : (1 : Int32).toInt = 1 := by decide
  have k5 : (5 : Int32).toInt = 5 := by decide
  have k40 : (40 : Int32).toInt = 40 := by decide
  have k20000 : (20000 : Int32).toInt = 20000 := by decide
  refine lv_iload_n hx hb dX12_leg_0 rfl (lv_at hl 1 rfl) ?_
  refine q_pi (q_runS (As := [.int a]) (rest := []) C hU (c_X12_isPort  a ) sm_X12_isPort ml_X12_171 hl.1 rfl rfl (Nat.le_of_ble_eq_true rfl) dX12_leg_1 rfl rfl ⟨Nat.le_of_ble_eq_true rfl, Nat.le_of_ble_eq_true rfl⟩ ⟨Nat.le_refl _, Nat.le_refl _⟩) hS (fun x_2 H locs hp_1 hU hS => ?_)
  refine b_if_eq (tgt := 38) hx hb dX12_leg_4 (by decide) (fun c_3 => ?_) (fun c_3 => ?_)
  ·
    refine lv_aload_n hx hb dX12_leg_38 rfl (lv_at hl 0 rfl) ?_
    refine lv_iconst (v := (-1)) hx hb dX12_leg_39 (by decide) ?_
    refine q_fi (q_runV (t := 0) (i := 0) (As := [.int (-1)]) (rest := []) C hU (c_X12_refuse hG (-1) (by omega)) vm_X12_refuse ml_X12_164 k_0.1 (hc := rfl) rfl (h1_0 hG) hl.1 rfl rfl (Nat.le_of_ble_eq_true rfl) dX12_leg_40 rfl rfl ⟨Nat.le_of_ble_eq_true rfl, Nat.le_of_ble_eq_true rfl⟩ ⟨Nat.le_refl _, Nat.le_refl _⟩) hS (fun x_9 iv_5 rv_6 H locs hG fa_7 fb_8 hp_4 hU hS => ?_)
    have hF1 := hF1.tr (m := ([16, 5, 6, 7, 8, 9, 10], [(0, 6)])) fa_7 (by decide)
    have hF2 := hF2.tr (m := ([16, 5, 6, 7, 8, 9, 10], [(0, 6)])) fb_8 (by decide)
    exact hret (⟨hG, hF1, hF2, sp_no (z := (-1)) (by unfold spLeg; (repeat' split) <;> first | rfl | omega) (by decide) hp_4 (⟨fa_7 0 0 6 (by decide), lg_fr fa_7 (by decide)⟩)⟩) hU hS dX12_leg_43
  ·
    refine lv_iload_n hx hb dX12_leg_7 rfl (lv_at hl 2 rfl) ?_
    refine q_pi (q_runS (As := [.int b]) (rest := []) C hU (c_X12_isPort  b ) sm_X12_isPort ml_X12_171 hl.1 rfl rfl (Nat.le_of_ble_eq_true rfl) dX12_leg_8 rfl rfl ⟨Nat.le_of_ble_eq_true rfl, Nat.le_of_ble_eq_true rfl⟩ ⟨Nat.le_refl _, Nat.le_refl _⟩) hS (fun x_11 H locs hp_10 hU hS => ?_)
    refine b_if_eq (tgt := 38) hx hb dX12_leg_11 (by decide) (fun c_12 => ?_) (fun c_12 => ?_)
    ·
      refine lv_aload_n hx hb dX12_leg_38 rfl (lv_at hl 0 rfl) ?_
      refine lv_iconst (v := (-1)) hx hb dX12_leg_39 (by decide) ?_
      refine q_fi (q_runV (t := 0) (i := 0) (As := [.int (-1)]) (rest := []) C hU (c_X12_refuse hG (-1) (by omega)) vm_X12_refuse ml_X12_164 k_0.1 (hc := rfl) rfl (h1_0 hG) hl.1 rfl rfl (Nat.le_of_ble_eq_true rfl) dX12_leg_40 rfl rfl ⟨Nat.le_of_ble_eq_true rfl, Nat.le_of_ble_eq_true rfl⟩ ⟨Nat.le_refl _, Nat.le_refl _⟩) hS (fun x_18 iv_14 rv_15 H locs hG fa_16 fb_17 hp_13 hU hS => ?_)
      have hF1 := hF1.tr (m := ([16, 5, 6, 7, 8, 9, 10], [(0, 6)])) fa_16 (by decide)
      have hF2 := hF2.tr (m := ([16, 5, 6, 7, 8, 9, 10], [(0, 6)])) fb_17 (by decide)
      exact hret (⟨hG, hF1, hF2, sp_no (z := (-1)) (by unfold spLeg; (repeat' split) <;> first | rfl | omega) (by decide) hp_13 (⟨fa_16 0 0 6 (by decide), lg_fr fa_16 (by decide)⟩)⟩) hU hS dX12_leg_43
    ·
      refine lv_iload_n hx hb dX12_leg_14 rfl (lv_at hl 1 rfl) ?_
      refine lv_iload_n hx hb dX12_leg_15 rfl (lv_at hl 2 rfl) ?_
      refine b_icmp_eq (tgt := 38) hx hb dX12_leg_16 (by decide) (fun c_19 => ?_) (fun c_19 => ?_)
      ·
        refine lv_aload_n hx hb dX12_leg_38 rfl (lv_at hl 0 rfl) ?_
        refine lv_iconst (v := (-1)) hx hb dX12_leg_39 (by decide) ?_
        refine q_fi (q_runV (t := 0) (i := 0) (As := [.int (-1)]) (rest := []) C hU (c_X12_refuse hG (-1) (by omega)) vm_X12_refuse ml_X12_164 k_0.1 (hc := rfl) rfl (h1_0 hG) hl.1 rfl rfl (Nat.le_of_ble_eq_true rfl) dX12_leg_40 rfl rfl ⟨Nat.le_of_ble_eq_true rfl, Nat.le_of_ble_eq_true rfl⟩ ⟨Nat.le_refl _, Nat.le_refl _⟩) hS (fun x_25 iv_21 rv_22 H locs hG fa_23 fb_24 hp_20 hU hS => ?_)
        have hF1 := hF1.tr (m := ([16, 5, 6, 7, 8, 9, 10], [(0, 6)])) fa_23 (by decide)
        have hF2 := hF2.tr (m := ([16, 5, 6, 7, 8, 9, 10], [(0, 6)])) fb_24 (by decide)
        exact hret (⟨hG, hF1, hF2, sp_no (z := (-1)) (by unfold spLeg; (repeat' split) <;> first | rfl | omega) (by decide) hp_20 (⟨fa_23 0 0 6 (by decide), lg_fr fa_23 (by decide)⟩)⟩) hU hS dX12_leg_43
      ·
        refine lv_iload_n hx hb dX12_leg_19 rfl (lv_at hl 3 rfl) ?_
        refine lv_iconst (v := 0) hx hb dX12_leg_20 (by decide) ?_
        refine lv_iconst (v := 5) hx hb dX12_leg_21 (by decide) ?_
        refine q_pi (q_runS (As := [.int pp, .int 0, .int 5]) (rest := []) C hU (c_X12_in  pp 0 5 ) sm_X12_in ml_X12_156 hl.1 rfl rfl (Nat.le_of_ble_eq_true rfl) dX12_leg_22 rfl rfl ⟨Nat.le_of_ble_eq_true rfl, Nat.le_of_ble_eq_true rfl⟩ ⟨Nat.le_refl _, Nat.le_refl _⟩) hS (fun x_27 H locs hp_26 hU hS => ?_)
        refine b_if_eq (tgt := 38) hx hb dX12_leg_25 (by decide) (fun c_28 => ?_) (fun c_28 => ?_)
        ·
          refine lv_aload_n hx hb dX12_leg_38 rfl (lv_at hl 0 rfl) ?_
          refine lv_iconst (v := (-1)) hx hb dX12_leg_39 (by decide) ?_
          refine q_fi (q_runV (t := 0) (i := 0) (As := [.int (-1)]) (rest := []) C hU (c_X12_refuse hG (-1) (by omega)) vm_X12_refuse ml_X12_164 k_0.1 (hc := rfl) rfl (h1_0 hG) hl.1 rfl rfl (Nat.le_of_ble_eq_true rfl) dX12_leg_40 rfl rfl ⟨Nat.le_of_ble_eq_true rfl, Nat.le_of_ble_eq_true rfl⟩ ⟨Nat.le_refl _, Nat.le_refl _⟩) hS (fun x_34 iv_30 rv_31 H locs hG fa_32 fb_33 hp_29 hU hS => ?_)
          have hF1 := hF1.tr (m := ([16, 5, 6, 7, 8, 9, 10], [(0, 6)])) fa_32 (by decide)
          have hF2 := hF2.tr (m := ([16, 5, 6, 7, 8, 9, 10], [(0, 6)])) fb_33 (by decide)
          exact hret (⟨hG, hF1, hF2, sp_no (z := (-1)) (by unfold spLeg; (repeat' split) <;> first | rfl | omega) (by decide) hp_29 (⟨fa_32 0 0 6 (by decide), lg_fr fa_32 (by decide)⟩)⟩) hU hS dX12_leg_43
        ·
          refine lv_iload hx hb dX12_leg_28 (lv_at hl 4 rfl) ?_
          refine lv_iconst (v := 0) hx hb dX12_leg_30 (by decide) ?_
          refine lv_iconst (v := 5) hx hb dX12_leg_31 (by decide) ?_
          refine q_pi (q_runS (As := [.int cc_, .int 0, .int 5]) (rest := []) C hU (c_X12_in  cc_ 0 5 ) sm_X12_in ml_X12_156 hl.1 rfl rfl (Nat.le_of_ble_eq_true rfl) dX12_leg_32 rfl rfl ⟨Nat.le_of_ble_eq_true rfl, Nat.le_of_ble_eq_true rfl⟩ ⟨Nat.le_refl _, Nat.le_refl _⟩) hS (fun x_36 H locs hp_35 hU hS => ?_)
          refine b_if_ne (tgt := 44) hx hb dX12_leg_35 (by decide) (fun c_37 => ?_) (fun c_37 => ?_)
          ·
            refine lv_iload hx hb dX12_leg_44 (lv_at hl 5 rfl) ?_
            refine b_if_lt (tgt := 56) hx hb dX12_leg_46 (by decide) (fun c_38 => ?_) (fun c_38 => ?_)
            ·
              refine lv_aload_n hx hb dX12_leg_56 rfl (lv_at hl 0 rfl) ?_
              refine lv_bipush (v := (-4)) hx hb dX12_leg_57 (by decide) ?_
              refine q_fi (q_runV (t := 0) (i := 0) (As := [.int (-4)]) (rest := []) C hU (c_X12_refuse hG (-4) (by omega)) vm_X12_refuse ml_X12_164 k_0.1 (hc := rfl) rfl (h1_0 hG) hl.1 rfl rfl (Nat.le_of_ble_eq_true rfl) dX12_leg_59 rfl rfl ⟨Nat.le_of_ble_eq_true rfl, Nat.le_of_ble_eq_true rfl⟩ ⟨Nat.le_refl _, Nat.le_refl _⟩) hS (fun x_44 iv_40 rv_41 H locs hG fa_42 fb_43 hp_39 hU hS => ?_)
              have hF1 := hF1.tr (m := ([16, 5, 6, 7, 8, 9, 10], [(0, 6)])) fa_42 (by decide)
              have hF2 := hF2.tr (m := ([16, 5, 6, 7, 8, 9, 10], [(0, 6)])) fb_43 (by decide)
              exact hret (⟨hG, hF1, hF2, sp_no (z := (-4)) (by unfold spLeg; (repeat' split) <;> first | rfl | omega) (by decide) hp_39 (⟨fa_42 0 0 6 (by decide), lg_fr fa_42 (by decide)⟩)⟩) hU hS dX12_leg_62
            ·
              refine lv_iload hx hb dX12_leg_49 (lv_at hl 6 rfl) ?_
              refine lv_iload hx hb dX12_leg_51 (lv_at hl 5 rfl) ?_
              refine b_icmp_gt (tgt := 63) hx hb dX12_leg_53 (by decide) (fun c_45 => ?_) (fun c_45 => ?_)
              ·
                refine lv_iload hx hb dX12_leg_63 (lv_at hl 6 rfl) ?_
                refine lv_sipush (v := 20000) hx hb dX12_leg_65 (by decide) ?_
                refine b_icmp_gt (tgt := 80) hx hb dX12_leg_68 (by decide) (fun c_46 => ?_) (fun c_46 => ?_)
                ·
                  refine lv_aload_n hx hb dX12_leg_80 rfl (lv_at hl 0 rfl) ?_
                  refine lv_bipush (v := (-6)) hx hb dX12_leg_81 (by decide) ?_
                  refine q_fi (q_runV (t := 0) (i := 0) (As := [.int (-6)]) (rest := []) C hU (c_X12_refuse hG (-6) (by omega)) vm_X12_refuse ml_X12_164 k_0.1 (hc := rfl) rfl (h1_0 hG) hl.1 rfl rfl (Nat.le_of_ble_eq_true rfl) dX12_leg_83 rfl rfl ⟨Nat.le_of_ble_eq_true rfl, Nat.le_of_ble_eq_true rfl⟩ ⟨Nat.le_refl _, Nat.le_refl _⟩) hS (fun x_52 iv_48 rv_49 H locs hG fa_50 fb_51 hp_47 hU hS => ?_)
                  have hF1 := hF1.tr (m := ([16, 5, 6, 7, 8, 9, 10], [(0, 6)])) fa_50 (by decide)
                  have hF2 := hF2.tr (m := ([16, 5, 6, 7, 8, 9, 10], [(0, 6)])) fb_51 (by decide)
                  exact hret (⟨hG, hF1, hF2, sp_no (z := (-6)) (by unfold spLeg; (repeat' split) <;> first | rfl | omega) (by decide) hp_47 (⟨fa_50 0 0 6 (by decide), lg_fr fa_50 (by decide)⟩)⟩) hU hS dX12_leg_86
                ·
                  refine lv_aload_n hx hb dX12_leg_71 rfl (lv_at hl 0 rfl) ?_
                  refine g_0_6 C hU hG (h1_0 hG) fl_X12_160 dX12_leg_72 (fun x_53 e_54 le_54 ue_54 => ?_)
                  have te_54 := congrArg Int32.toInt e_54
                  refine lv_bipush (v := 40) hx hb dX12_leg_75 (by decide) ?_
                  refine b_icmp_ne (tgt := 87) hx hb dX12_leg_77 (by decide) (fun c_55 => ?_) (fun c_55 => ?_)
                  ·
                    refine lv_aload_n hx hb dX12_leg_87 rfl (lv_at hl 0 rfl) ?_
                    refine g_0_7 C hU hG (h1_0 hG) fl_X12_22 dX12_leg_88 ?_
                    refine lv_aload_n hx hb dX12_leg_91 rfl (lv_at hl 0 rfl) ?_
                    refine g_0_6 C hU hG (h1_0 hG) fl_X12_160 dX12_leg_92 (fun x_56 e_57 le_57 ue_57 => ?_)
                    have te_57 := congrArg Int32.toInt e_57
                    refine lv_iload_n hx hb dX12_leg_95 rfl (lv_at hl 1 rfl) ?_
                    refine s_5 C hU hS (h1_5 hG) (x := x_56) (by omega) (by omega) dX12_leg_96 (fun iv_58 H locs ei_59 hU hS => ?_)
                    have hG : GI al iv_58 rv := by rw [ei_59]; exact hG.puti (show _ ∧ _ from ⟨show (0 : Int) ≤ _ by omega, show _ ≤ (9 : Int) by omega⟩) (nsA (by decide) _)
                    have hF1 : FR ([16, 5, 6, 7, 8, 9, 10], [(0, 6)]) iv iv_58 := by rw [ei_59]; exact hF1.put (Or.inl (by decide))
                    have kf_60 := congrArg Int32.toInt (show iv_58 0 0 6 = iv 0 0 6 by rw [ei_59]; exact up3_ne (fun z => absurd z.1 (by decide)))
                    refine lv_aload_n hx hb dX12_leg_97 rfl (lv_at hl 0 rfl) ?_
                    refine g_0_8 C hU hG (h1_0 hG) fl_X12_25 dX12_leg_98 ?_
                    refine lv_aload_n hx hb dX12_leg_101 rfl (lv_at hl 0 rfl) ?_
                    refine g_0_6 C hU hG (h1_0 hG) fl_X12_160 dX12_leg_102 (fun x_61 e_62 le_62 ue_62 => ?_)
                    have te_62 := congrArg Int32.toInt e_62
                    refine lv_iload_n hx hb dX12_leg_105 rfl (lv_at hl 2 rfl) ?_
                    refine s_6 C hU hS (h1_6 hG) (x := x_61) (by omega) (by omega) dX12_leg_106 (fun iv_63 H locs ei_64 hU hS => ?_)
                    have hG : GI al iv_63 rv := by rw [ei_64]; exact hG.puti (show _ ∧ _ from ⟨show (0 : Int) ≤ _ by omega, show _ ≤ (9 : Int) by omega⟩) (nsA (by decide) _)
                    have hF1 : FR ([16, 5, 6, 7, 8, 9, 10], [(0, 6)]) iv iv_63 := by rw [ei_64]; exact hF1.put (Or.inl (by decide))
                    have kf_65 := congrArg Int32.toInt (show iv_63 0 0 6 = iv_58 0 0 6 by rw [ei_64]; exact up3_ne (fun z => absurd z.1 (by decide)))
                    refine lv_aload_n hx hb dX12_leg_107 rfl (lv_at hl 0 rfl) ?_
                    refine g_0_9 C hU hG (h1_0 hG) fl_X12_28 dX12_leg_108 ?_
                    refine lv_aload_n hx hb dX12_leg_111 rfl (lv_at hl 0 rfl) ?_
                    refine g_0_6 C hU hG (h1_0 hG) fl_X12_160 dX12_leg_112 (fun x_66 e_67 le_67 ue_67 => ?_)
                    have te_67 := congrArg Int32.toInt e_67
                    refine lv_iload_n hx hb dX12_leg_115 rfl (lv_at hl 3 rfl) ?_
                    refine s_7 C hU hS (h1_7 hG) (x := x_66) (by omega) (by omega) dX12_leg_116 (fun iv_68 H locs ei_69 hU hS => ?_)
                    have hG : GI al iv_68 rv := by rw [ei_69]; exact hG.puti (show _ ∧ _ from ⟨(fb_rng _).1, Int.le_of_lt_add_one (fb_rng _).2⟩) (nsA (by decide) _)
                    have hF1 : FR ([16, 5, 6, 7, 8, 9, 10], [(0, 6)]) iv iv_68 := by rw [ei_69]; exact hF1.put (Or.inl (by decide))
                    have kf_70 := congrArg Int32.toInt (show iv_68 0 0 6 = iv_63 0 0 6 by rw [ei_69]; exact up3_ne (fun z => absurd z.1 (by decide)))
                    refine lv_aload_n hx hb dX12_leg_117 rfl (lv_at hl 0 rfl) ?_
                    refine g_0_10 C hU hG (h1_0 hG) fl_X12_31 dX12_leg_118 ?_
                    refine lv_aload_n hx hb dX12_leg_121 rfl (lv_at hl 0 rfl) ?_
                    refine g_0_6 C hU hG (h1_0 hG) fl_X12_160 dX12_leg_122 (fun x_71 e_72 le_72 ue_72 => ?_)
                    have te_72 := congrArg Int32.toInt e_72
                    refine lv_iload hx hb dX12_leg_125 (lv_at hl 4 rfl) ?_
                    refine s_8 C hU hS (h1_8 hG) (x := x_71) (by omega) (by omega) dX12_leg_127 (fun iv_73 H locs ei_74 hU hS => ?_)
                    have hG : GI al iv_73 rv := by rw [ei_74]; exact hG.puti (show _ ∧ _ from ⟨(fb_rng _).1, Int.le_of_lt_add_one (fb_rng _).2⟩) (nsA (by decide) _)
                    have hF1 : FR ([16, 5, 6, 7, 8, 9, 10], [(0, 6)]) iv iv_73 := by rw [ei_74]; exact hF1.put (Or.inl (by decide))
                    have kf_75 := congrArg Int32.toInt (show iv_73 0 0 6 = iv_68 0 0 6 by rw [ei_74]; exact up3_ne (fun z => absurd z.1 (by decide)))
                    refine lv_aload_n hx hb dX12_leg_128 rfl (lv_at hl 0 rfl) ?_
                    refine g_0_11 C hU hG (h1_0 hG) fl_X12_34 dX12_leg_129 ?_
                    refine lv_aload_n hx hb dX12_leg_132 rfl (lv_at hl 0 rfl) ?_
                    refine g_0_6 C hU hG (h1_0 hG) fl_X12_160 dX12_leg_133 (fun x_76 e_77 le_77 ue_77 => ?_)
                    have te_77 := congrArg Int32.toInt e_77
                    refine lv_iload hx hb dX12_leg_136 (lv_at hl 5 rfl) ?_
                    refine s_9 C hU hS (h1_9 hG) (x := x_76) (by omega) (by omega) dX12_leg_138 (fun iv_78 H locs ei_79 hU hS => ?_)
                    have hG : GI al iv_78 rv := by rw [ei_79]; exact hG.put9 ⟨by omega, by omega⟩ (by omega) (by omega)
                    have hF1 : FR ([16, 5, 6, 7, 8, 9, 10], [(0, 6)]) iv iv_78 := by rw [ei_79]; exact hF1.put (Or.inl (by decide))
                    have kf_80 := congrArg Int32.toInt (show iv_78 0 0 6 = iv_73 0 0 6 by rw [ei_79]; exact up3_ne (fun z => absurd z.1 (by decide)))
                    refine lv_aload_n hx hb dX12_leg_139 rfl (lv_at hl 0 rfl) ?_
                    refine g_0_12 C hU hG (h1_0 hG) fl_X12_37 dX12_leg_140 ?_
                    refine lv_aload_n hx hb dX12_leg_143 rfl (lv_at hl 0 rfl) ?_
                    refine g_0_6 C hU hG (h1_0 hG) fl_X12_160 dX12_leg_144 (fun x_81 e_82 le_82 ue_82 => ?_)
                    have te_82 := congrArg Int32.toInt e_82
                    refine lv_iload hx hb dX12_leg_147 (lv_at hl 6 rfl) ?_
                    refine s_10 C hU hS (h1_10 hG) (x := x_81) (by omega) (by omega) dX12_leg_149 (fun iv_83 H locs ei_84 hU hS => ?_)
                    have hG : GI al iv_83 rv := by rw [ei_84]; exact hG.put10 ⟨by omega, by omega⟩ (by omega) (by omega)
                    have hF1 : FR ([16, 5, 6, 7, 8, 9, 10], [(0, 6)]) iv iv_83 := by rw [ei_84]; exact hF1.put (Or.inl (by decide))
                    have kf_85 := congrArg Int32.toInt (show iv_83 0 0 6 = iv_78 0 0 6 by rw [ei_84]; exact up3_ne (fun z => absurd z.1 (by decide)))
                    refine lv_aload_n hx hb dX12_leg_150 rfl (lv_at hl 0 rfl) ?_
                    refine lv_dup hx hb dX12_leg_151 rfl ?_
                    refine g_0_6 C hU hG (h1_0 hG) fl_X12_160 dX12_leg_152 (fun x_86 e_87 le_87 ue_87 => ?_)
                    have te_87 := congrArg Int32.toInt e_87
                    have a1 : iv_83 10 0 x_86.toNatClampNeg = rr := by rw [ei_84, clamp_eq (show x_86.toInt = x_81.toInt by omega)]; exact up3_self _ _ _ _ _
                    have a2 : iv_83 9 0 x_86.toNatClampNeg = lv_ := by rw [ei_84, up3_ne (fun z => absurd z.1 (by decide)), ei_79, clamp_eq (show x_86.toInt = x_76.toInt by omega)]; exact up3_self _ _ _ _ _
                    refine lv_iconst (v := 1) hx hb dX12_leg_155 (by decide) ?_
                    refine lv_iadd hx hb dX12_leg_156 ?_
                    refine lv_topi (fun x_88 e_89 => ?_)
                    have te_89 : x_88.toInt = (x_86 : Int32).toInt + (1 : Int32).toInt := by rw [e_89]; exact fb_addI (by omega) (by omega)
                    refine p_0_6 C hU hS (h1_0 hG) fl_X12_160 dX12_leg_157 (fun iv_90 H locs ei_91 hU hS => ?_)
                    have hG : GI al iv_90 rv := by rw [ei_91]; exact hG.put6 (x := x_86) ⟨by omega, by omega⟩ (by omega) (by omega) (by rw [a1, a2]; omega)
                    have hF1 : FR ([16, 5, 6, 7, 8, 9, 10], [(0, 6)]) iv iv_90 := by rw [ei_91]; exact hF1.put (by decide)
                    refine lv_aload_n hx hb dX12_leg_160 rfl (lv_at hl 0 rfl) ?_
                    refine g_0_6 C hU hG (h1_0 hG) fl_X12_160 dX12_leg_161 (fun x_92 e_93 le_93 ue_93 => ?_)
                    have te_93 := congrArg Int32.toInt e_93
                    have hz_ := e_93
                    rw [ei_91, up3_self] at hz_
                    have tz_ := congrArg Int32.toInt hz_
                    refine lv_iconst (v := 1) hx hb dX12_leg_164 (by decide) ?_
                    refine lv_isub hx hb dX12_leg_165 ?_
                    refine lv_topi (fun x_94 e_95 => ?_)
                    have te_95 : x_94.toInt = (x_92 : Int32).toInt - (1 : Int32).toInt := by rw [e_95]; exact fb_subI (by omega) (by omega)
                    exact hret (⟨hG, hF1, hF2, Or.inl ⟨(by unfold spLeg; (repeat' split) <;> first | rfl | omega), by omega, by rw [ei_91, up3_self]; omega, lg_ok ei_59 ei_64 ei_69 ei_74 ei_79 ei_84 ei_91 (by omega) (by omega) (by omega) (by omega) (by omega) (by omega)⟩⟩) hU hS dX12_leg_166
                  ·
                    refine lv_aload_n hx hb dX12_leg_80 rfl (lv_at hl 0 rfl) ?_
                    refine lv_bipush (v := (-6)) hx hb dX12_leg_81 (by decide) ?_
                    refine q_fi (q_runV (t := 0) (i := 0) (As := [.int (-6)]) (rest := []) C hU (c_X12_refuse hG (-6) (by omega)) vm_X12_refuse ml_X12_164 k_0.1 (hc := rfl) rfl (h1_0 hG) hl.1 rfl rfl (Nat.le_of_ble_eq_true rfl) dX12_leg_83 rfl rfl ⟨Nat.le_of_ble_eq_true rfl, Nat.le_of_ble_eq_true rfl⟩ ⟨Nat.le_refl _, Nat.le_refl _⟩) hS (fun x_101 iv_97 rv_98 H locs hG fa_99 fb_100 hp_96 hU hS => ?_)
                    have hF1 := hF1.tr (m := ([16, 5, 6, 7, 8, 9, 10], [(0, 6)])) fa_99 (by decide)
                    have hF2 := hF2.tr (m := ([16, 5, 6, 7, 8, 9, 10], [(0, 6)])) fb_100 (by decide)
                    exact hret (⟨hG, hF1, hF2, sp_no (z := (-6)) (by unfold spLeg; (repeat' split) <;> first | rfl | omega) (by decide) hp_96 (⟨fa_99 0 0 6 (by decide), lg_fr fa_99 (by decide)⟩)⟩) hU hS dX12_leg_86
              ·
                refine lv_aload_n hx hb dX12_leg_56 rfl (lv_at hl 0 rfl) ?_
                refine lv_bipush (v := (-4)) hx hb dX12_leg_57 (by decide) ?_
                refine q_fi (q_runV (t := 0) (i := 0) (As := [.int (-4)]) (rest := []) C hU (c_X12_refuse hG (-4) (by omega)) vm_X12_refuse ml_X12_164 k_0.1 (hc := rfl) rfl (h1_0 hG) hl.1 rfl rfl (Nat.le_of_ble_eq_true rfl) dX12_leg_59 rfl rfl ⟨Nat.le_of_ble_eq_true rfl, Nat.le_of_ble_eq_true rfl⟩ ⟨Nat.le_refl _, Nat.le_refl _⟩) hS (fun x_107 iv_103 rv_104 H locs hG fa_105 fb_106 hp_102 hU hS => ?_)
                have hF1 := hF1.tr (m := ([16, 5, 6, 7, 8, 9, 10], [(0, 6)])) fa_105 (by decide)
                have hF2 := hF2.tr (m := ([16, 5, 6, 7, 8, 9, 10], [(0, 6)])) fb_106 (by decide)
                exact hret (⟨hG, hF1, hF2, sp_no (z := (-4)) (by unfold spLeg; (repeat' split) <;> first | rfl | omega) (by decide) hp_102 (⟨fa_105 0 0 6 (by decide), lg_fr fa_105 (by decide)⟩)⟩) hU hS dX12_leg_62
          ·
            refine lv_aload_n hx hb dX12_leg_38 rfl (lv_at hl 0 rfl) ?_
            refine lv_iconst (v := (-1)) hx hb dX12_leg_39 (by decide) ?_
            refine q_fi (q_runV (t := 0) (i := 0) (As := [.int (-1)]) (rest := []) C hU (c_X12_refuse hG (-1) (by omega)) vm_X12_refuse ml_X12_164 k_0.1 (hc := rfl) rfl (h1_0 hG) hl.1 rfl rfl (Nat.le_of_ble_eq_true rfl) dX12_leg_40 rfl rfl ⟨Nat.le_of_ble_eq_true rfl, Nat.le_of_ble_eq_true rfl⟩ ⟨Nat.le_refl _, Nat.le_refl _⟩) hS (fun x_113 iv_109 rv_110 H locs hG fa_111 fb_112 hp_108 hU hS => ?_)
            have hF1 := hF1.tr (m := ([16, 5, 6, 7, 8, 9, 10], [(0, 6)])) fa_111 (by decide)
            have hF2 := hF2.tr (m := ([16, 5, 6, 7, 8, 9, 10], [(0, 6)])) fb_112 (by decide)
            exact hret (⟨hG, hF1, hF2, sp_no (z := (-1)) (by unfold spLeg; (repeat' split) <;> first | rfl | omega) (by decide) hp_108 (⟨fa_111 0 0 6 (by decide), lg_fr fa_111 (by decide)⟩)⟩) hU hS dX12_leg_43
