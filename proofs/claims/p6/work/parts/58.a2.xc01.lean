set_option maxHeartbeats 4000000 in
set_option maxRecDepth 100000 in
theorem c_X10_putRight_x {l : Launch} {D : va_G} {cA : FieldType → ClassId} {sz : Nat} {al : Al} {iv : Iv} {rv : Rv} (hG : GI al iv rv) : Met l yX10_putRight (wd yX10_putRight cX10_putRight 2 none) (rm 2) (PcW D cA sz al iv rv [.ref (al.2 57 0)]) (QV D cA sz al (fV al ([], [(62, 10), (62, 11), (62, 12), (62, 13)]) iv rv (fun iv' rv' => CRT iv' rv'))) 0 0 (Aq sz) := by
  refine mk_v (by decide) (Nat.le_of_ble_eq_true rfl) rfl ?_
  intro p e s m args below meth c ls Q H locs C hU hS hl hret
  have hx := C.1.1
  have hb := C.1.2.1
  have hl : lv_has ls 2 [(0, .ref (al.2 57 0))] := hl
  have hG0 := hG
  have hF1 : FR ([], [(62, 10), (62, 11), (62, 12), (62, 13)]) iv iv := FR.rf
  have hF2 : FR ([], [(62, 10), (62, 11), (62, 12), (62, 13)]) rv rv := FR.rf
  have k0 : (0 : Int32).toInt = 0 := by decide
  have k1 : (1 : Int32).toInt = 1 := by decide
  refine lv_iconst (v := 0) hx hb dX10_putRight_0 (by decide) ?_
  refine lv_istore_n (lv' := [(1, .int 0), (0, .ref (al.2 57 0))]) hx hb dX10_putRight_1 rfl hl (by decide) rfl (fun ls hl => ?_)
  have J_2 : ∀ (n_2 : Nat) (l1_1 : Int32) (iv_2 : Iv) (rv_3 : Rv) (H : Heap) (locs : List Loc) (ls : Array Slot), lv_has ls 2 [(0, .ref (al.2 57 0)), (1, .int l1_1)] → GI al iv_2 rv_3 → FR ([], [(62, 10), (62, 11), (62, 12), (62, 13)]) iv iv_2 → FR ([], [(62, 10), (62, 11), (62, 12), (62, 13)]) rv rv_3 → UW D cA sz al iv_2 rv_3 H → va_S (Aq sz) s.heap H locs → (0 ≤ l1_1.toInt ∧ l1_1.toInt ≤ 40) → CRN iv_2 rv_3 l1_1.toNatClampNeg → (40 - l1_1.toInt).toNat < n_2 → W p l e (rm 2) s m args below meth c H locs 0 0 Q (F0 m 2 ls []) := by
    intro n_2
    induction n_2 with
    | zero =>
      intro l1_1 iv_2 rv_3 H locs ls hl hG hF1 hF2 hU hS i2_0 i2_1 hm_2
      exact absurd hm_2 (Nat.not_lt_zero _)
    | succ n_2 ih_2 =>
      intro l1_1 iv_2 rv_3 H locs ls hl hG hF1 hF2 hU hS i2_0 i2_1 hm_2
      refine lv_iload_n hx hb dX10_putRight_2 rfl (lv_at hl 1 rfl) ?_
      refine lv_aload_n hx hb dX10_putRight_3 rfl (lv_at hl 0 rfl) ?_
      refine g_57_1 C hU hG (h1_57 hG) fl_X10_28 dX10_putRight_4 (fun x_4 e_5 le_5 ue_5 => ?_)
      have te_5 := congrArg Int32.toInt e_5
      have ne_5 : x_4.toInt = (iv 57 0 1).toInt := by rw [e_5, hF1 57 0 1 (by decide)]
      refine b_icmp_ge (tgt := 37) hx hb dX10_putRight_7 (by decide) (fun c_6 => ?_) (fun c_6 => ?_)
      ·
        exact hret (⟨hG, hF1, hF2, crn_end i2_1 (by omega)⟩) hU hS dX10_putRight_37
      ·
        refine lv_aload_n hx hb dX10_putRight_10 rfl (lv_at hl 0 rfl) ?_
        refine g_57_0 C hU hG (h1_57 hG) fl_X10_13 dX10_putRight_11 ?_
        refine lv_iload_n hx hb dX10_putRight_14 rfl (lv_at hl 1 rfl) ?_
        refine a_58 C hU hG (h1_58 hG) (x := l1_1) (by omega) (by omega) dX10_putRight_15 (fun r_7 er_8 hb_9 => ?_)
        have ner_8 : r_7 = rv 58 0 (l1_1 : Int32).toNatClampNeg := by rw [er_8, hF2.arr 58 0 _ (by decide)]
        obtain ⟨j_10, ej_11⟩ : ∃ j, r_7 = some j := ⟨_, er_8.trans (tall hG (by omega) (by omega))⟩
        subst ej_11
        have hl : lv_has ls 2 [(0, .ref (al.2 57 0)), (1, .int l1_1)] := hl
        have hb_12 : j_10 < al.1 62 := hb_9 j_10 rfl
        refine g_62_7 C hU hG hb_12 fl_X10_39 dX10_putRight_16 (fun x_13 e_14 le_14 ue_14 => ?_)
        have te_14 := congrArg Int32.toInt e_14
        have ne_14 : x_13.toInt = (iv 62 j_10 7).toInt := by rw [e_14, hF1 62 j_10 7 (by decide)]
        have J_31 : ∀ (iv_15 : Iv) (rv_16 : Rv) (H : Heap) (locs : List Loc) (ls : Array Slot), lv_has ls 2 [(0, .ref (al.2 57 0)), (1, .int l1_1)] → GI al iv_15 rv_16 → FR ([], [(62, 10), (62, 11), (62, 12), (62, 13)]) iv iv_15 → FR ([], [(62, 10), (62, 11), (62, 12), (62, 13)]) rv rv_16 → UW D cA sz al iv_15 rv_16 H → va_S (Aq sz) s.heap H locs → CRN iv_15 rv_16 (l1_1.toNatClampNeg + 1) → W p l e (rm 2) s m args below meth c H locs 0 0 Q (F0 m 31 ls []) := by
          intro iv_15 rv_16 H locs ls hl hG hF1 hF2 hU hS i31_0
          obtain ⟨x_17, e_18⟩ : ∃ y : Int32, y = l1_1 + 1 := ⟨_, rfl⟩
          have te_18 : x_17.toInt = (l1_1 : Int32).toInt + (1 : Int32).toInt := by rw [e_18]; exact fb_addI (by omega) (by omega)
          refine lv_iinc (v := x_17) (lv' := [(1, .int x_17), (0, .ref (al.2 57 0))]) hx hb dX10_putRight_31 hl (k := 1) rfl (by rw [e_18]; rfl) (by decide) rfl (fun ls hl => ?_)
          refine lv_goto (tgt := 2) hx hb dX10_putRight_34 (by decide) ?_
          exact ih_2 x_17 _ _ _ _ _ (lv_sub hl [1, 0] rfl) hG hF1 hF2 hU hS (by omega) (by first | exact crn_up (by omega) (by omega) i31_0 | exact crn_0) (by omega)
        refine b_if_eq (tgt := 31) hx hb dX10_putRight_19 (by decide) (fun c_19 => ?_) (fun c_19 => ?_)
        ·
          exact J_31 _ _ _ _ _ (lv_sub hl [0, 1] rfl) hG hF1 hF2 hU hS (by first | exact crn_keep i2_1 e_14 (tix hG er_8 (by omega) (by omega)) c_19 | exact crn_put i2_1 True.intro (tix hGb True.intro (by omega) (by omega)) True.intro True.intro)
        ·
          refine lv_aload_n hx hb dX10_putRight_22 rfl (lv_at hl 0 rfl) ?_
          refine g_57_0 C hU hG (h1_57 hG) fl_X10_13 dX10_putRight_23 ?_
          refine lv_iload_n hx hb dX10_putRight_26 rfl (lv_at hl 1 rfl) ?_
          refine a_58 C hU hG (h1_58 hG) (x := l1_1) (by omega) (by omega) dX10_putRight_27 (fun r_20 er_21 hb_22 => ?_)
          have ner_21 : r_20 = rv 58 0 (l1_1 : Int32).toNatClampNeg := by rw [er_21, hF2.arr 58 0 _ (by decide)]
          obtain ⟨j_23, ej_24⟩ : ∃ j, r_20 = some j := ⟨_, er_21.trans (tall hG (by omega) (by omega))⟩
          subst ej_24
          have hl : lv_has ls 2 [(0, .ref (al.2 57 0)), (1, .int l1_1)] := hl
          have hb_25 : j_23 < al.1 62 := hb_22 j_23 rfl
          have hGb := hG
          refine q_fv (q_runV (t := 62) (i := j_23) (As := []) (rest := []) C hU (c_X5_putRight_x hG (j_23) hb_25 ) vm_X5_putRight ml_X10_43 k_62.1 (hc := rfl) rfl hb_25 hl.1 rfl rfl (Nat.le_of_ble_eq_true rfl) dX10_putRight_28 rfl rfl ⟨Nat.le_of_ble_eq_true rfl, Nat.le_of_ble_eq_true rfl⟩ ⟨Nat.le_refl _, Nat.le_refl _⟩) hS (fun iv_27 rv_28 H locs hG fa_29 fb_30 hp_26 hU hS => ?_)
          have hF1 := hF1.tr (m := ([], [(62, 10), (62, 11), (62, 12), (62, 13)])) fa_29 (by decide)
          have hF2 := hF2.tr (m := ([], [(62, 10), (62, 11), (62, 12), (62, 13)])) fb_30 (by decide)
          exact J_31 _ _ _ _ _ (lv_sub hl [0, 1] rfl) hG hF1 hF2 hU hS (by first | exact crn_keep i2_1 e_14 (tix hG er_8 (by omega) (by omega)) c_19 | exact crn_put i2_1 hp_26 (tix hGb er_21 (by omega) (by omega)) fa_29 fb_30)
  exact J_2 _ 0 _ _ _ _ _ (lv_sub hl [1, 0] rfl) hG hF1 hF2 hU hS (by omega) (by first | exact crn_up (by omega) (by omega) i31_0 | exact crn_0) (Nat.lt_succ_self _)
set_option maxHeartbeats 4000000 in
set_option maxRecDepth 100000 in
theorem c_X11_seen_x {l : Launch} {D : va_G} {cA : FieldType → ClassId} {sz : Nat} {al : Al} {iv : Iv} {rv : Rv} (hG : GI al iv rv) (a : Int32) (b : Int32) (by_ : Int32) : Met l yX11_seen (wd yX11_seen cX11_seen 6 (some .int)) (rm 3) (PcW D cA sz al iv rv [.ref (al.2 49 0), .int a, .int b, .int by_]) (QI D cA sz al (fI al ([51], [(56, 2), (56, 3), (52, 2), (62, 10), (62, 11), (62, 12), (62, 13)]) iv rv (fun r iv' rv' => (spSeen a b by_ = 0 ∧ tkP iv iv' a.toNatClampNeg b.toNatClampNeg by_ r ∧ (CRT iv rv → CRT iv' rv')) ∨ (spSeen a b by_ ≠ 0 ∧ r = spSeen a b by_ ∧ (∀ k : Nat, iv' 56 k 2 = iv 56 k 2 ∧ iv' 56 k 3 = iv 56 k 3) ∧ (CRT iv rv → CRT iv' rv'))))) 0 0 (Aq sz) := by
  refine mk_i (by decide) (Nat.le_of_ble_eq_true rfl) rfl ?_
  intro p e s m args below meth c ls Q H locs C hU hS hl hret
  have hx := C.1.1
  have hb := C.1.2.1
  have hl : lv_has ls 6 [(0, .ref (al.2 49 0)), (1, .int a), (2, .int b), (3, .int by_)] := hl
  have hG0 := hG
  have hF1 : FR ([51], [(56, 2), (56, 3), (52, 2), (62, 10), (62, 11), (62, 12), (62, 13)]) iv iv := FR.rf
  have hF2 : FR ([51], [(56, 2), (56, 3), (52, 2), (62, 10), (62, 11), (62, 12), (62, 13)]) rv rv := FR.rf
  have km600 : ((-600) : Int32).toInt = -600 := by decide
  have km6 : ((-6) : Int32).toInt = -6 := by decide
  have km4 : ((-4) : Int32).toInt = -4 := by decide
  have km1 : ((-1) : Int32).toInt = -1 := by decide
  have k0 : (0 : Int32).toInt = 0 := by decide
  have k1 : (1 : Int32).toInt = 1 := by decide
  have k600 : (600 : Int32).toInt = 600 := by decide
  refine lv_aload_n hx hb dX11_seen_0 rfl (lv_at hl 0 rfl) ?_
  refine g_49_0 C hU hG (h1_49 hG) fl_X11_10 dX11_seen_1 ?_
  refine lv_iload_n hx hb dX11_seen_4 rfl (lv_at hl 1 rfl) ?_
  refine q_pr (q_runV (t := 52) (i := 0) (As := [.int a]) (rest := []) C hU (c_X7_find hG a ) vm_X7_find ml_X11_81 k_52.1 (hc := rfl) rfl (h1_52 hG) hl.1 rfl rfl (Nat.le_of_ble_eq_true rfl) dX11_seen_5 rfl rfl ⟨Nat.le_of_ble_eq_true rfl, Nat.le_of_ble_eq_true rfl⟩ ⟨Nat.le_refl _, Nat.le_refl _⟩) hS (fun r_2 H locs hp_1 hU hS => ?_)
  have hb_3 := hp_1.1
  refine b_astore (lv' := [(4, rfv al 56 r_2), (0, .ref (al.2 49 0)), (1, .int a), (2, .int b), (3, .int by_)]) hx hb dX11_seen_8 hl (by decide) rfl (fun ls hl => ?_)
  refine lv_aload_n hx hb dX11_seen_10 rfl (lv_at hl 1 rfl) ?_
  refine g_49_0 C hU hG (h1_49 hG) fl_X11_10 dX11_seen_11 ?_
  refine lv_iload_n hx hb dX11_seen_14 rfl (lv_at hl 3 rfl) ?_
  refine q_pr (q_runV (t := 52) (i := 0) (As := [.int b]) (rest := []) C hU (c_X7_find hG b ) vm_X7_find ml_X11_81 k_52.1 (hc := rfl) rfl (h1_52 hG) hl.1 rfl rfl (Nat.le_of_ble_eq_true rfl) dX11_seen_15 rfl rfl ⟨Nat.le_of_ble_eq_true rfl, Nat.le_of_ble_eq_true rfl⟩ ⟨Nat.le_refl _, Nat.le_refl _⟩) hS (fun r_5 H locs hp_4 hU hS => ?_)
  have hb_6 := hp_4.1
  refine b_astore (lv' := [(5, rfv al 56 r_5), (4, rfv al 56 r_2), (0, .ref (al.2 49 0)), (1, .int a), (2, .int b), (3, .int by_)]) hx hb dX11_seen_18 hl (by decide) (by simp [List.filter_cons, rfv_cat]) (fun ls hl => ?_)
  refine b_aload (al := al) (t' := 56) (r := r_2) hx hb dX11_seen_20 (lv_at hl 1 rfl) ?_
  refine b_ifnull (tgt := 37) hx hb dX11_seen_22 (by decide) (fun ej_9 => ?_) (fun j_8 ej_9 => ?_)
  ·
    subst ej_9
    have hl : lv_has ls 6 [(5, rfv al 56 r_5), (4, rfv al 56 none), (0, .ref (al.2 49 0)), (1, .int a), (2, .int b), (3, .int by_)] := hl
    have hq4 := hp_1.2.2 rfl
    refine lv_aload_n hx hb dX11_seen_37 rfl (lv_at hl 2 rfl) ?_
    refine lv_iconst (v := (-1)) hx hb dX11_seen_38 (by decide) ?_
    refine q_fi (q_runV (t := 49) (i := 0) (As := [.int (-1)]) (rest := []) C hU (c_X11_refuse hG (-1) (by omega)) vm_X11_refuse ml_X11_77 k_49.1 (hc := rfl) rfl (h1_49 hG) hl.1 rfl rfl (Nat.le_of_ble_eq_true rfl) dX11_seen_39 rfl rfl ⟨Nat.le_of_ble_eq_true rfl, Nat.le_of_ble_eq_true rfl⟩ ⟨Nat.le_refl _, Nat.le_refl _⟩) hS (fun x_15 iv_11 rv_12 H locs hG fa_13 fb_14 hp_10 hU hS => ?_)
    have hF1 := hF1.tr (m := ([51], [(56, 2), (56, 3), (52, 2), (62, 10), (62, 11), (62, 12), (62, 13)])) fa_13 (by decide)
    have hF2 := hF2.tr (m := ([51], [(56, 2), (56, 3), (52, 2), (62, 10), (62, 11), (62, 12), (62, 13)])) fb_14 (by decide)
    exact hret (⟨hG, hF1, hF2, sp_no (z := (-1)) (by unfold spSeen; (repeat' split) <;> first | rfl | omega) (by decide) hp_10 (⟨fun k => ⟨fa_13 56 k 2 (by decide), fa_13 56 k 3 (by decide)⟩, crt_fr fa_13 fb_14 (by decide)⟩)⟩) hU hS dX11_seen_42
  ·
    subst ej_9
    have hl : lv_has ls 6 [(5, rfv al 56 r_5), (4, .ref (al.2 56 j_8)), (0, .ref (al.2 49 0)), (1, .int a), (2, .int b), (3, .int by_)] := hl
    have hb_16 : j_8 < al.1 56 := hb_3 j_8 rfl
    have hq4 := hp_1.2.1 _ rfl
    have hn4 := hq4.1
    rw [clamp_n] at hn4
    refine b_aload (al := al) (t' := 56) (r := r_5) hx hb dX11_seen_25 (lv_at hl 0 rfl) ?_
    refine b_ifnull (tgt := 37) hx hb dX11_seen_27 (by decide) (fun ej_19 => ?_) (fun j_18 ej_19 => ?_)
    ·
      subst ej_19
      have hl : lv_has ls 6 [(5, rfv al 56 none), (4, .ref (al.2 56 j_8)), (0, .ref (al.2 49 0)), (1, .int a), (2, .int b), (3, .int by_)] := hl
      have hq5 := hp_4.2.2 rfl
      refine lv_aload_n hx hb dX11_seen_37 rfl (lv_at hl 2 rfl) ?_
      refine lv_iconst (v := (-1)) hx hb dX11_seen_38 (by decide) ?_
      refine q_fi (q_runV (t := 49) (i := 0) (As := [.int (-1)]) (rest := []) C hU (c_X11_refuse hG (-1) (by omega)) vm_X11_refuse ml_X11_77 k_49.1 (hc := rfl) rfl (h1_49 hG) hl.1 rfl rfl (Nat.le_of_ble_eq_true rfl) dX11_seen_39 rfl rfl ⟨Nat.le_of_ble_eq_true rfl, Nat.le_of_ble_eq_true rfl⟩ ⟨Nat.le_refl _, Nat.le_refl _⟩) hS (fun x_25 iv_21 rv_22 H locs hG fa_23 fb_24 hp_20 hU hS => ?_)
      have hF1 := hF1.tr (m := ([51], [(56, 2), (56, 3), (52, 2), (62, 10), (62, 11), (62, 12), (62, 13)])) fa_23 (by decide)
      have hF2 := hF2.tr (m := ([51], [(56, 2), (56, 3), (52, 2), (62, 10), (62, 11), (62, 12), (62, 13)])) fb_24 (by decide)
      exact hret (⟨hG, hF1, hF2, sp_no (z := (-1)) (by unfold spSeen; (repeat' split) <;> first | rfl | omega) (by decide) hp_20 (⟨fun k => ⟨fa_23 56 k 2 (by decide), fa_23 56 k 3 (by decide)⟩, crt_fr fa_23 fb_24 (by decide)⟩)⟩) hU hS dX11_seen_42
    ·
      subst ej_19
      have hl : lv_has ls 6 [(5, .ref (al.2 56 j_18)), (4, .ref (al.2 56 j_8)), (0, .ref (al.2 49 0)), (1, .int a), (2, .int b), (3, .int by_)] := hl
      have hb_26 : j_18 < al.1 56 := hb_6 j_18 rfl
      have hq5 := hp_4.2.1 _ rfl
      have hn5 := hq5.1
      rw [clamp_n] at hn5
      refine lv_aload hx hb dX11_seen_30 (lv_at hl 1 rfl) ?_
      refine lv_aload hx hb dX11_seen_32 (lv_at hl 0 rfl) ?_
      refine b_acmp_ne (tgt := 43) hx hb hU hb_16 hb_26 dX11_seen_34 (by decide) (fun c_27 => ?_) (fun c_27 => ?_)
      ·
        refine lv_iload_n hx hb dX11_seen_43 rfl (lv_at hl 5 rfl) ?_
        refine lv_sipush (v := (-600)) hx hb dX11_seen_44 (by decide) ?_
        refine b_icmp_ge (tgt := 57) hx hb dX11_seen_47 (by decide) (fun c_28 => ?_) (fun c_28 => ?_)
        ·
          refine lv_iload_n hx hb dX11_seen_57 rfl (lv_at hl 5 rfl) ?_
          refine lv_sipush (v := 600) hx hb dX11_seen_58 (by decide) ?_
          refine b_icmp_le (tgt := 71) hx hb dX11_seen_61 (by decide) (fun c_29 => ?_) (fun c_29 => ?_)
          ·
            refine lv_aload_n hx hb dX11_seen_71 rfl (lv_at hl 2 rfl) ?_
            refine g_49_0 C hU hG (h1_49 hG) fl_X11_10 dX11_seen_72 ?_
            refine lv_aload hx hb dX11_seen_75 (lv_at hl 1 rfl) ?_
            refine lv_aload hx hb dX11_seen_77 (lv_at hl 0 rfl) ?_
            refine lv_iload_n hx hb dX11_seen_79 rfl (lv_at hl 5 rfl) ?_
            refine q_fi (q_runV (t := 52) (i := 0) (As := [.ref (al.2 56 j_8), .ref (al.2 56 j_18), .int by_]) (rest := []) C hU (c_X7_take_x hG (j_8) hb_16 (j_18) hb_26 by_ ) vm_X7_take ml_X11_102 k_52.1 (hc := rfl) rfl (h1_52 hG) hl.1 rfl rfl (Nat.le_of_ble_eq_true rfl) dX11_seen_80 rfl rfl ⟨Nat.le_of_ble_eq_true rfl, Nat.le_of_ble_eq_true rfl⟩ ⟨Nat.le_refl _, Nat.le_refl _⟩) hS (fun x_35 iv_31 rv_32 H locs hG fa_33 fb_34 hp_30 hU hS => ?_)
            have hF1 := hF1.tr (m := ([51], [(56, 2), (56, 3), (52, 2), (62, 10), (62, 11), (62, 12), (62, 13)])) fa_33 (by decide)
            have hF2 := hF2.tr (m := ([51], [(56, 2), (56, 3), (52, 2), (62, 10), (62, 11), (62, 12), (62, 13)])) fb_34 (by decide)
            refine b_if_ne (tgt := 88) hx hb dX11_seen_83 (by decide) (fun c_36 => ?_) (fun c_36 => ?_)
            ·
              refine lv_aload_n hx hb dX11_seen_88 rfl (lv_at hl 2 rfl) ?_
              refine g_49_1 C hU hG (h1_49 hG) fl_X11_19 dX11_seen_89 ?_
              refine q_fv (q_runV (t := 57) (i := 0) (As := []) (rest := []) C hU (c_X10_putRight_x hG  ) vm_X10_putRight ml_X11_106 k_57.1 (hc := rfl) rfl (h1_57 hG) hl.1 rfl rfl (Nat.le_of_ble_eq_true rfl) dX11_seen_92 rfl rfl ⟨Nat.le_of_ble_eq_true rfl, Nat.le_of_ble_eq_true rfl⟩ ⟨Nat.le_refl _, Nat.le_refl _⟩) hS (fun iv_38 rv_39 H locs hG fa_40 fb_41 hp_37 hU hS => ?_)
              have hF1 := hF1.tr (m := ([51], [(56, 2), (56, 3), (52, 2), (62, 10), (62, 11), (62, 12), (62, 13)])) fa_40 (by decide)
              have hF2 := hF2.tr (m := ([51], [(56, 2), (56, 3), (52, 2), (62, 10), (62, 11), (62, 12), (62, 13)])) fb_41 (by decide)
              refine lv_iconst (v := 1) hx hb dX11_seen_95 (by decide) ?_
              exact hret (⟨hG, hF1, hF2, Or.inl ⟨(by unfold spSeen; (repeat' split) <;> first | rfl | omega), tk_fr (by have z := hp_30.2; rw [hq4.1, hq5.1] at z; exact z) (by omega) fa_40, fun _ => hp_37⟩⟩) hU hS dX11_seen_96
            ·
              refine lv_iconst (v := 0) hx hb dX11_seen_86 (by decide) ?_
              exact hret (⟨hG, hF1, hF2, Or.inl ⟨(by unfold spSeen; (repeat' split) <;> first | rfl | omega), tk_r (by have z := hp_30.2; rw [hq4.1, hq5.1] at z; exact z) (by omega), fun h => crt_tk h hp_30.2 (by omega) fa_33 fb_34⟩⟩) hU hS dX11_seen_87
          ·
            refine lv_aload_n hx hb dX11_seen_64 rfl (lv_at hl 2 rfl) ?_
            refine lv_bipush (v := (-6)) hx hb dX11_seen_65 (by decide) ?_
            refine q_fi (q_runV (t := 49) (i := 0) (As := [.int (-6)]) (rest := []) C hU (c_X11_refuse hG (-6) (by omega)) vm_X11_refuse ml_X11_77 k_49.1 (hc := rfl) rfl (h1_49 hG) hl.1 rfl rfl (Nat.le_of_ble_eq_true rfl) dX11_seen_67 rfl rfl ⟨Nat.le_of_ble_eq_true rfl, Nat.le_of_ble_eq_true rfl⟩ ⟨Nat.le_refl _, Nat.le_refl _⟩) hS (fun x_47 iv_43 rv_44 H locs hG fa_45 fb_46 hp_42 hU hS => ?_)
            have hF1 := hF1.tr (m := ([51], [(56, 2), (56, 3), (52, 2), (62, 10), (62, 11), (62, 12), (62, 13)])) fa_45 (by decide)
            have hF2 := hF2.tr (m := ([51], [(56, 2), (56, 3), (52, 2), (62, 10), (62, 11), (62, 12), (62, 13)])) fb_46 (by decide)
            exact hret (⟨hG, hF1, hF2, sp_no (z := (-6)) (by unfold spSeen; (repeat' split) <;> first | rfl | omega) (by decide) hp_42 (⟨fun k => ⟨fa_45 56 k 2 (by decide), fa_45 56 k 3 (by decide)⟩, crt_fr fa_45 fb_46 (by decide)⟩)⟩) hU hS dX11_seen_70
        ·
          refine lv_aload_n hx hb dX11_seen_50 rfl (lv_at hl 2 rfl) ?_
          refine lv_bipush (v := (-4)) hx hb dX11_seen_51 (by decide) ?_
          refine q_fi (q_runV (t := 49) (i := 0) (As := [.int (-4)]) (rest := []) C hU (c_X11_refuse hG (-4) (by omega)) vm_X11_refuse ml_X11_77 k_49.1 (hc := rfl) rfl (h1_49 hG) hl.1 rfl rfl (Nat.le_of_ble_eq_true rfl) dX11_seen_53 rfl rfl ⟨Nat.le_of_ble_eq_true rfl, Nat.le_of_ble_eq_true rfl⟩ ⟨Nat.le_refl _, Nat.le_refl _⟩) hS (fun x_53 iv_49 rv_50 H locs hG fa_51 fb_52 hp_48 hU hS => ?_)
          have hF1 := hF1.tr (m := ([51], [(56, 2), (56, 3), (52, 2), (62, 10), (62, 11), (62, 12), (62, 13)])) fa_51 (by decide)
          have hF2 := hF2.tr (m := ([51], [(56, 2), (56, 3), (52, 2), (62, 10), (62, 11), (62, 12), (62, 13)])) fb_52 (by decide)
          exact hret (⟨hG, hF1, hF2, sp_no (z := (-4)) (by unfold spSeen; (repeat' split) <;> first | rfl | omega) (by decide) hp_48 (⟨fun k => ⟨fa_51 56 k 2 (by decide), fa_51 56 k 3 (by decide)⟩, crt_fr fa_51 fb_52 (by decide)⟩)⟩) hU hS dX11_seen_56
      ·
        refine lv_aload_n hx hb dX11_seen_37 rfl (lv_at hl 2 rfl) ?_
        refine lv_iconst (v := (-1)) hx hb dX11_seen_38 (by decide) ?_
        refine q_fi (q_runV (t := 49) (i := 0) (As := [.int (-1)]) (rest := []) C hU (c_X11_refuse hG (-1) (by omega)) vm_X11_refuse ml_X11_77 k_49.1 (hc := rfl) rfl (h1_49 hG) hl.1 rfl rfl (Nat.le_of_ble_eq_true rfl) dX11_seen_39 rfl rfl ⟨Nat.le_of_ble_eq_true rfl, Nat.le_of_ble_eq_true rfl⟩ ⟨Nat.le_refl _, Nat.le_refl _⟩) hS (fun x_59 iv_55 rv_56 H locs hG fa_57 fb_58 hp_54 hU hS => ?_)
        have hF1 := hF1.tr (m := ([51], [(56, 2), (56, 3), (52, 2), (62, 10), (62, 11), (62, 12), (62, 13)])) fa_57 (by decide)
        have hF2 := hF2.tr (m := ([51], [(56, 2), (56, 3), (52, 2), (62, 10), (62, 11), (62, 12), (62, 13)])) fb_58 (by decide)
        exact hret (⟨hG, hF1, hF2, sp_no (z := (-1)) (by unfold spSeen; (repeat' split) <;> first | rfl | omega) (by decide) hp_54 (⟨fun k => ⟨fa_57 56 k 2 (by decide), fa_57 56 k 3 (by decide)⟩, crt_fr fa_57 fb_58 (by decide)⟩)⟩) hU hS dX11_seen_42
set_option maxHeartbeats 4000000 in
set_option maxRecDepth 100000 in
theorem c_X12_refuseFar_x {l : Launch} {D : va_G} {cA : FieldType → ClassId} {sz : Nat} {al : Al} {iv : Iv} {rv : Rv} (hG : GI al iv rv) (what : Int32) (pre0 : -6 ≤ what.toInt ∧ what.toInt ≤ -1) : Met l yX12_refuseFar (wd yX12_refuseFar cX12_refuseFar 2 (some .int)) (rm 0) (PcW D cA sz al iv rv [.ref (al.2 0 0), .int what]) (QI D cA sz al (fI al ([16], []) iv rv (fun r iv' rv' => r = 1000000000 - what))) 0 0 (Aq sz) := by
  refine mk_i (by decide) (Nat.le_of_ble_eq_true rfl) rfl ?_
  intro p e s m args below meth c ls Q H locs C hU hS hl hret
  have hx := C.1.1
  have hb := C.1.2.1
  have hl : lv_has ls 2 [(0, .ref (al.2 0 0)), (1, .int what)] := hl
  have hG0 := hG
  have h6 := le6 hG
  have h20 := le20 hG
  have h41 := le41 hG
  have hF1 : FR ([16], []) iv iv := FR.rf
  have hF2 : FR ([16], []) rv rv := FR.rf
  have k1 : (1 : Int32).toInt = 1 := by decide
  have k1000000000 : (1000000000 : Int32).toInt = 1000000000 := by decide
  refine lv_aload_n hx hb dX12_refuseFar_0 rfl (lv_at hl 0 rfl) ?_
  refine g_0_18 C hU hG (h1_0 hG) fl_X12_56 dX12_refuseFar_1 ?_
  refine lv_iload_n hx hb dX12_refuseFar_4 rfl (lv_at hl 1 rfl) ?_
  refine lv_ineg hx hb dX12_refuseFar_5 ?_
  refine lv_topi (fun x_1 e_2 => ?_)
  have te_2 : x_1.toInt = -(what : Int32).toInt := by rw [e_2]; exact fb_negI (by omega)
  refine lv_dup2_11 hx hb dX12_refuseFar_6 rfl rfl ?_
  refine a_16 C hU hG (h1_16 hG) (x := x_1) (by omega) (by omega) dX12_refuseFar_7 (fun x_3 e_4 => ?_)
  have te_4 := congrArg Int32.toInt e_4
  refine lv_iconst (v := 1) hx hb dX12_refuseFar_8 (by decide) ?_
  refine lv_iadd hx hb dX12_refuseFar_9 ?_
  refine lv_topi (fun x_5 e_6 => ?_)
  refine s_16 C hU hS (h1_16 hG) (x := x_1) (by omega) (by omega) dX12_refuseFar_10 (fun iv_7 H locs ei_8 hU hS => ?_)
  have hG : GI al iv_7 rv := by rw [ei_8]; exact hG.puti (show _ ∧ _ from ⟨(fb_rng _).1, Int.le_of_lt_add_one (fb_rng _).2⟩) (nsA (by decide) _)
  have hF1 : FR ([16], []) iv iv_7 := by rw [ei_8]; exact hF1.put (Or.inl (by decide))
  refine lv_ldc (v := 1000000000) hx hb C.1.2.2.2.1 (C.1.2.2.2.2 _ ct_X12_155) dX12_refuseFar_11 ?_
  refine lv_iload_n hx hb dX12_refuseFar_13 rfl (lv_at hl 1 rfl) ?_
  refine lv_isub hx hb dX12_refuseFar_14 ?_
  refine lv_topi (fun x_9 e_10 => ?_)
  have te_10 : x_9.toInt = (1000000000 : Int32).toInt - (what : Int32).toInt := by rw [e_10]; exact fb_subI (by omega) (by omega)
  exact hret (⟨hG, hF1, hF2, by simp only [e_2, e_4, e_6, e_10]⟩) hU hS dX12_refuseFar_15
set_option maxHeartbeats 4000000 in
set_option maxRecDepth 100000 in
theorem c_X12_off_x {l : Launch} {D : va_G} {cA : FieldType → ClassId} {sz : Nat} {al : Al} {iv : Iv} {rv : Rv} (hG : GI al iv rv) (a : Int32) : Met l yX12_off (wd yX12_off cX12_off 2 (some .int)) (rm 2) (PcW D cA sz al iv rv [.ref (al.2 0 0), .int a]) (QI D cA sz al (fI al ([16], []) iv rv (fun r iv' rv' => ((0 ≤ a.toInt ∧ a.toInt ≤ 9) ∧ r = iv 4 0 a.toNatClampNeg) ∨ ((¬ (0 ≤ a.toInt ∧ a.toInt ≤ 9)) ∧ r = 1000000000 - (-1))))) 0 0 (Aq sz) := by
  refine mk_i (by decide) (Nat.le_of_ble_eq_true rfl) rfl ?_
  intro p e s m args below meth c ls Q H locs C hU hS hl hret
  have hx := C.1.1
  have hb := C.1.2.1
  have hl : lv_has ls 2 [(0, .ref (al.2 0 0)), (1, .int a)] := hl
  have hG0 := hG
  have h6 := le6 hG
  have h20 := le20 hG
  have h41 := le41 hG
  have hF1 : FR ([16], []) iv iv := FR.rf
  have hF2 : FR ([16], []) rv rv := FR.rf
  have km1 : ((-1) : Int32).toInt = -1 := by decide
  refine lv_iload_n hx hb dX12_off_0 rfl (lv_at hl 1 rfl) ?_
  refine q_pi (q_runS (As := [.int a]) (rest := []) C hU (c_X12_isPort  a ) sm_X12_isPort ml_X12_171 hl.1 rfl rfl (Nat.le_of_ble_eq_true rfl) dX12_off_1 rfl rfl ⟨Nat.le_of_ble_eq_true rfl, Nat.le_of_ble_eq_true rfl⟩ ⟨Nat.le_refl _, Nat.le_refl _⟩) hS (fun x_2 H locs hp_1 hU hS => ?_)
  refine b_if_eq (tgt := 16) hx hb dX12_off_4 (by decide) (fun c_3 => ?_) (fun c_3 => ?_)
  ·
    refine lv_aload_n hx hb dX12_off_16 rfl (lv_at hl 0 rfl) ?_
    refine lv_iconst (v := (-1)) hx hb dX12_off_17 (by decide) ?_
    refine q_fi (q_runV (t := 0) (i := 0) (As := [.int (-1)]) (rest := []) C hU (c_X12_refuseFar_x hG (-1) (by omega)) vm_X12_refuseFar ml_X12_178 k_0.1 (hc := rfl) rfl (h1_0 hG) hl.1 rfl rfl (Nat.le_of_ble_eq_true rfl) dX12_off_18 rfl rfl ⟨Nat.le_of_ble_eq_true rfl, Nat.le_of_ble_eq_true rfl⟩ ⟨Nat.le_refl _, Nat.le_refl _⟩) hS (fun x_9 iv_5 rv_6 H locs hG fa_7 fb_8 hp_4 hU hS => ?_)
    have hF1 := hF1.tr (m := ([16], [])) fa_7 (by decide)
    have hF2 := hF2.tr (m := ([16], [])) fb_8 (by decide)
    exact hret (⟨hG, hF1, hF2, by first | exact Or.inl ⟨by omega, True.intro⟩ | exact Or.inr ⟨by omega, hp_4⟩⟩) hU hS dX12_off_21
  ·
    refine lv_aload_n hx hb dX12_off_7 rfl (lv_at hl 0 rfl) ?_
    refine g_0_4 C hU hG (h1_0 hG) fl_X12_19 dX12_off_8 ?_
    refine lv_iload_n hx hb dX12_off_11 rfl (lv_at hl 1 rfl) ?_
    refine a_4 C hU hG (h1_4 hG) (x := a) (by omega) (by omega) dX12_off_12 (fun x_10 e_11 => ?_)
    have te_11 := congrArg Int32.toInt e_11
    refine lv_goto (tgt := 21) hx hb dX12_off_13 (by decide) ?_
    exact hret (⟨hG, hF1, hF2, by first | exact Or.inl ⟨by omega, e_11⟩ | exact Or.inr ⟨by omega, True.intro⟩⟩) hU hS dX12_off_21
set_option maxHeartbeats 4000000 in
set_option maxRecDepth 100000 in
theorem c_X11_refuseBeyond_x {l : Launch} {D : va_G} {cA : FieldType → ClassId} {sz : Nat} {al : Al} {iv : Iv} {rv : Rv} (hG : GI al iv rv) (num : Int32) (pre0 : -6 ≤ num.toInt ∧ num.toInt ≤ -1) : Met l yX11_refuseBeyond (wd yX11_refuseBeyond cX11_refuseBeyond 2 (some .int)) (rm 2) (PcW D cA sz al iv rv [.ref (al.2 49 0), .int num]) (QI D cA sz al (fI al ([51], []) iv rv (fun r iv' rv' => r = 1000000000 - num))) 0 0 (Aq sz) := by
  refine mk_i (by decide) (Nat.le_of_ble_eq_true rfl) rfl ?_
  intro p e s m args below meth c ls Q H locs C hU hS hl hret
  have hx := C.1.1
  have hb := C.1.2.1
  have hl : lv_has ls 2 [(0, .ref (al.2 49 0)), (1, .int num)] := hl
  have hG0 := hG
  have hF1 : FR ([51], []) iv iv := FR.rf
  have hF2 : FR ([51], []) rv rv := FR.rf
  have k1000000000 : (1000000000 : Int32).toInt = 1000000000 := by decide
  refine lv_ldcw (v := 1000000000) hx hb C.1.2.2.2.1 (C.1.2.2.2.2 _ ct_X11_335) dX11_refuseBeyond_0 ?_
  refine lv_aload_n hx hb dX11_refuseBeyond_3 rfl (lv_at hl 0 rfl) ?_
  refine lv_iload_n hx hb dX11_refuseBeyond_4 rfl (lv_at hl 1 rfl) ?_
  refine q_fi (q_runV (t := 49) (i := 0) (As := [.int num]) (rest := [.int 1000000000]) C hU (c_X11_refuse hG num (by omega)) vm_X11_refuse ml_X11_77 k_49.1 (hc := rfl) rfl (h1_49 hG) hl.1 rfl rfl (Nat.le_of_ble_eq_true rfl) dX11_refuseBeyond_5 rfl rfl ⟨Nat.le_of_ble_eq_true rfl, Nat.le_of_ble_eq_true rfl⟩ ⟨Nat.le_refl _, Nat.le_refl _⟩) hS (fun x_6 iv_2 rv_3 H locs hG fa_4 fb_5 hp_1 hU hS => ?_)
  have hF1 := hF1.tr (m := ([51], [])) fa_4 (by decide)
  have hF2 := hF2.tr (m := ([51], [])) fb_5 (by decide)
  refine lv_isub hx hb dX11_refuseBeyond_8 ?_
  refine lv_topi (fun x_7 e_8 => ?_)
  exact hret (⟨hG, hF1, hF2, by have z := hp_1; simp only [e_8, z]⟩) hU hS dX11_refuseBeyond_9
set_option maxHeartbeats 4000000 in
set_option maxRecDepth 100000 in
theorem c_X11_off_x {l : Launch} {D : va_G} {cA : FieldType → ClassId} {sz : Nat} {al : Al} {iv : Iv} {rv : Rv} (hG : GI al iv rv) (a : Int32) : Met l yX11_off (wd yX11_off cX11_off 3 (some .int)) (rm 3) (PcW D cA sz al iv rv [.ref (al.2 49 0), .int a]) (QI D cA sz al (fI al ([51], []) iv rv (fun r iv' rv' => ((0 ≤ a.toInt ∧ a.toInt ≤ 9) ∧ r = iv 56 a.toNatClampNeg 3) ∨ ((¬ (0 ≤ a.toInt ∧ a.toInt ≤ 9)) ∧ r = 1000000000 - (-1))))) 0 0 (Aq sz) := by
  refine mk_i (by decide) (Nat.le_of_ble_eq_true rfl) rfl ?_
  intro p e s m args below meth c ls Q H locs C hU hS hl hret
  have hx := C.1.1
  have hb := C.1.2.1
  have hl : lv_has ls 3 [(0, .ref (al.2 49 0)), (1, .int a)] := hl
  have hG0 := hG
  have hF1 : FR ([51], []) iv iv := FR.rf
  have hF2 : FR ([51], []) rv rv := FR.rf
  have km1 : ((-1) : Int32).toInt = -1 := by decide
  refine lv_aload_n hx hb dX11_off_0 rfl (lv_at hl 0 rfl) ?_
  refine g_49_0 C hU hG (h1_49 hG) fl_X11_10 dX11_off_1 ?_
  refine lv_iload_n hx hb dX11_off_4 rfl (lv_at hl 1 rfl) ?_
  refine q_pr (q_runV (t := 52) (i := 0) (As := [.int a]) (rest := []) C hU (c_X7_find hG a ) vm_X7_find ml_X11_81 k_52.1 (hc := rfl) rfl (h1_52 hG) hl.1 rfl rfl (Nat.le_of_ble_eq_true rfl) dX11_off_5 rfl rfl ⟨Nat.le_of_ble_eq_true rfl, Nat.le_of_ble_eq_true rfl⟩ ⟨Nat.le_refl _, Nat.le_refl _⟩) hS (fun r_2 H locs hp_1 hU hS => ?_)
  have hb_3 := hp_1.1
  refine b_astore_n (lv' := [(2, rfv al 56 r_2), (0, .ref (al.2 49 0)), (1, .int a)]) hx hb dX11_off_8 rfl hl (by decide) rfl (fun ls hl => ?_)
  refine b_aload_n (al := al) (t' := 56) (r := r_2) hx hb dX11_off_9 rfl (lv_at hl 0 rfl) ?_
  refine b_ifnonnull (tgt := 19) hx hb dX11_off_10 (by decide) (fun j_5 ej_6 => ?_) (fun ej_6 => ?_)
  ·
    subst ej_6
    have hl : lv_has ls 3 [(2, .ref (al.2 56 j_5)), (0, .ref (al.2 49 0)), (1, .int a)] := hl
    have hb_7 : j_5 < al.1 56 := hb_3 j_5 rfl
    have hq4 := hp_1.2.1 _ rfl
    have hn4 := hq4.1
    rw [clamp_n] at hn4
    refine lv_aload_n hx hb dX11_off_19 rfl (lv_at hl 0 rfl) ?_
    refine g_56_3 C hU hG hb_7 fl_X11_112 dX11_off_20 (fun x_8 e_9 => ?_)
    have te_9 := congrArg Int32.toInt e_9
    exact hret (⟨hG, hF1, hF2, Or.inl ⟨by omega, by rw [e_9, hq4.1]⟩⟩) hU hS dX11_off_23
  ·
    subst ej_6
    have hl : lv_has ls 3 [(2, rfv al 56 none), (0, .ref (al.2 49 0)), (1, .int a)] := hl
    have hq4 := hp_1.2.2 rfl
    refine lv_aload_n hx hb dX11_off_13 rfl (lv_at hl 1 rfl) ?_
    refine lv_iconst (v := (-1)) hx hb dX11_off_14 (by decide) ?_
    refine q_fi (q_runV (t := 49) (i := 0) (As := [.int (-1)]) (rest := []) C hU (c_X11_refuseBeyond_x hG (-1) (by omega)) vm_X11_refuseBeyond ml_X11_109 k_49.1 (hc := rfl) rfl (h1_49 hG) hl.1 rfl rfl (Nat.le_of_ble_eq_true rfl) dX11_off_15 rfl rfl ⟨Nat.le_of_ble_eq_true rfl, Nat.le_of_ble_eq_true rfl⟩ ⟨Nat.le_refl _, Nat.le_refl _⟩) hS (fun x_15 iv_11 rv_12 H locs hG fa_13 fb_14 hp_10 hU hS => ?_)
    have hF1 := hF1.tr (m := ([51], [])) fa_13 (by decide)
    have hF2 := hF2.tr (m := ([51], [])) fb_14 (by decide)
    exact hret (⟨hG, hF1, hF2, Or.inr ⟨by omega, hp_10⟩⟩) hU hS dX11_off_18
