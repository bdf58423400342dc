set_option maxHeartbeats 4000000 in
set_option maxRecDepth 100000 in
theorem c_X1_measure_x {l : Launch} {D : va_G} {cA : FieldType → ClassId} {sz : Nat} {al : Al} {iv : Iv} {rv : Rv} (hG : GI al iv rv) (a : Int32) (cs : Int32) (mm : Int32) (far : Int32) : Met l yX1_measure (wd yX1_measure cX1_measure 8 none) (rm 1) (PcW D cA sz al iv rv [.ref (al.2 90 0), .int a, .int cs, .int mm, .int far]) (QV D cA sz al (fV al ([97], []) iv rv (fun iv' rv' => ∀ k : Nat, (k : Int) < (iv 90 0 6).toInt → iv' 97 0 k = msR iv a cs mm far k))) 0 0 (Aq sz) := by
  refine mk_v (by decide) (Nat.le_of_ble_eq_true rfl) rfl ?_
  intro p e s m args below meth c ls Q H locs C hU hS hl hret
  have hx := C.1.1
  have hb := C.1.2.1
  have hl : lv_has ls 8 [(0, .ref (al.2 90 0)), (1, .int a), (2, .int cs), (3, .int mm), (4, .int far)] := hl
  have hG0 := hG
  have l90 := le90 hG
  have hF1 : FR ([97], []) iv iv := FR.rf
  have hF2 : FR ([97], []) rv rv := FR.rf
  have km1 : ((-1) : Int32).toInt = -1 := by decide
  have k0 : (0 : Int32).toInt = 0 := by decide
  have k1 : (1 : Int32).toInt = 1 := by decide
  have k10 : (10 : Int32).toInt = 10 := by decide
  have k50 : (50 : Int32).toInt = 50 := by decide
  refine lv_iconst (v := 0) hx hb dX1_measure_0 (by decide) ?_
  refine lv_istore (lv' := [(5, .int 0), (0, .ref (al.2 90 0)), (1, .int a), (2, .int cs), (3, .int mm), (4, .int far)]) hx hb dX1_measure_1 hl (by decide) rfl (fun ls hl => ?_)
  have J_3 : ∀ (n_3 : Nat) (l5_1 : Int32) (iv_2 : Iv) (rv_3 : Rv) (H : Heap) (locs : List Loc) (ls : Array Slot), lv_has ls 8 [(0, .ref (al.2 90 0)), (1, .int a), (2, .int cs), (3, .int mm), (4, .int far), (5, .int l5_1)] → GI al iv_2 rv_3 → FR ([97], []) iv iv_2 → FR ([97], []) rv rv_3 → UW D cA sz al iv_2 rv_3 H → va_S (Aq sz) s.heap H locs → (0 ≤ l5_1.toInt ∧ l5_1.toInt ≤ 40) → (∀ k : Nat, (k : Int) < l5_1.toInt → iv_2 97 0 k = msR iv a cs mm far k) → l5_1.toInt ≤ (iv 90 0 6).toInt → (40 - l5_1.toInt).toNat < n_3 → W p l e (rm 1) s m args below meth c H locs 0 0 Q (F0 m 3 ls []) := by
    intro n_3
    induction n_3 with
    | zero =>
      intro l5_1 iv_2 rv_3 H locs ls hl hG hF1 hF2 hU hS i3_0 i3_1 i3_2 hm_3
      exact absurd hm_3 (Nat.not_lt_zero _)
    | succ n_3 ih_3 =>
      intro l5_1 iv_2 rv_3 H locs ls hl hG hF1 hF2 hU hS i3_0 i3_1 i3_2 hm_3
      refine lv_iload hx hb dX1_measure_3 (lv_at hl 5 rfl) ?_
      refine lv_aload_n hx hb dX1_measure_5 rfl (lv_at hl 0 rfl) ?_
      refine g_90_6 C hU hG (h1_90 hG) fl_X1_34 dX1_measure_6 (fun x_4 e_5 le_5 ue_5 => ?_)
      have te_5 := congrArg Int32.toInt e_5
      have ne_5 : x_4.toInt = (iv 90 0 6).toInt := by rw [e_5, hF1 90 0 6 (by decide)]
      refine b_icmp_ge (tgt := 99) hx hb dX1_measure_9 (by decide) (fun c_6 => ?_) (fun c_6 => ?_)
      ·
        exact hret (⟨hG, hF1, hF2, fun k hk => i3_1 k (by omega)⟩) hU hS dX1_measure_99
      ·
        refine lv_aload_n hx hb dX1_measure_12 rfl (lv_at hl 0 rfl) ?_
        refine g_90_0 C hU hG (h1_90 hG) fl_X1_11 dX1_measure_13 ?_
        refine lv_iload hx hb dX1_measure_16 (lv_at hl 5 rfl) ?_
        refine a_91 C hU hG (h1_91 hG) (x := l5_1) (by omega) (by omega) dX1_measure_18 (fun x_7 e_8 le_8 ue_8 => ?_)
        have te_8 := congrArg Int32.toInt e_8
        have ne_8 : x_7.toInt = (iv 91 0 (l5_1 : Int32).toNatClampNeg).toInt := by rw [e_8, hF1.arr 91 0 (l5_1 : Int32).toNatClampNeg (by decide)]
        refine lv_iload_n hx hb dX1_measure_19 rfl (lv_at hl 1 rfl) ?_
        have J_39 : ∀ (v_9 : Int32) (ls : Array Slot), lv_has ls 8 [(0, .ref (al.2 90 0)), (1, .int a), (2, .int cs), (3, .int mm), (4, .int far), (5, .int l5_1)] → (0 ≤ v_9.toInt ∧ v_9.toInt ≤ 1) → ((v_9.toInt = 1 ∧ msC iv a cs l5_1.toNatClampNeg) ∨ (v_9.toInt = 0 ∧ ¬ msC iv a cs l5_1.toNatClampNeg)) → W p l e (rm 1) s m args below meth c H locs 0 0 Q (F0 m 39 ls [.int v_9]) := by
          intro v_9 ls hl i39_0 i39_1
          refine lv_istore (lv' := [(6, .int v_9), (0, .ref (al.2 90 0)), (1, .int a), (2, .int cs), (3, .int mm), (4, .int far), (5, .int l5_1)]) hx hb dX1_measure_39 hl (by decide) rfl (fun ls hl => ?_)
          refine lv_aload_n hx hb dX1_measure_41 rfl (lv_at hl 1 rfl) ?_
          refine g_90_2 C hU hG (h1_90 hG) fl_X1_18 dX1_measure_42 ?_
          refine lv_iload hx hb dX1_measure_45 (lv_at hl 6 rfl) ?_
          refine a_93 C hU hG (h1_93 hG) (x := l5_1) (by omega) (by omega) dX1_measure_47 (fun x_10 e_11 le_11 ue_11 => ?_)
          have te_11 := congrArg Int32.toInt e_11
          have ne_11 : x_10.toInt = (iv 93 0 (l5_1 : Int32).toNatClampNeg).toInt := by rw [e_11, hF1.arr 93 0 (l5_1 : Int32).toNatClampNeg (by decide)]
          have h47 : x_10 = iv 93 0 l5_1.toNatClampNeg := by rw [e_11]; exact hF1.arr 93 0 _ (by decide)
          refine lv_iload_n hx hb dX1_measure_48 rfl (lv_at hl 4 rfl) ?_
          refine lv_isub hx hb dX1_measure_49 ?_
          refine lv_topi (fun x_12 e_13 => ?_)
          refine q_abs C hl.1 ml_X1_38 (Nat.le_of_ble_eq_true rfl) (Nat.le_of_ble_eq_true rfl) (Nat.le_refl _) (Nat.le_refl _) dX1_measure_50 (fun x_14 q_15 => ?_)
          refine lv_bipush (v := 10) hx hb dX1_measure_53 (by decide) ?_
          refine lv_idiv hx hb dX1_measure_55 (by decide) ?_
          refine lv_topi (fun x_16 e_17 => ?_)
          refine lv_aload_n hx hb dX1_measure_56 rfl (lv_at hl 1 rfl) ?_
          refine g_90_3 C hU hG (h1_90 hG) fl_X1_21 dX1_measure_57 ?_
          refine lv_iload hx hb dX1_measure_60 (lv_at hl 6 rfl) ?_
          refine a_94 C hU hG (h1_94 hG) (x := l5_1) (by omega) (by omega) dX1_measure_62 (fun x_18 e_19 le_19 ue_19 => ?_)
          have te_19 := congrArg Int32.toInt e_19
          have ne_19 : x_18.toInt = (iv 94 0 (l5_1 : Int32).toNatClampNeg).toInt := by rw [e_19, hF1.arr 94 0 (l5_1 : Int32).toNatClampNeg (by decide)]
          have h62 : x_18 = iv 94 0 l5_1.toNatClampNeg := by rw [e_19]; exact hF1.arr 94 0 _ (by decide)
          refine lv_iload hx hb dX1_measure_63 (lv_at hl 5 rfl) ?_
          refine lv_isub hx hb dX1_measure_65 ?_
          refine lv_topi (fun x_20 e_21 => ?_)
          refine q_abs C hl.1 ml_X1_38 (Nat.le_of_ble_eq_true rfl) (Nat.le_of_ble_eq_true rfl) (Nat.le_refl _) (Nat.le_refl _) dX1_measure_66 (fun x_22 q_23 => ?_)
          refine lv_bipush (v := 50) hx hb dX1_measure_69 (by decide) ?_
          refine lv_idiv hx hb dX1_measure_71 (by decide) ?_
          refine lv_topi (fun x_24 e_25 => ?_)
          refine lv_iadd hx hb dX1_measure_72 ?_
          refine lv_topi (fun x_26 e_27 => ?_)
          have h72 : x_26 = abF (iv 93 0 l5_1.toNatClampNeg - mm) / 10 + abF (iv 94 0 l5_1.toNatClampNeg - far) / 50 := by rw [e_27, e_17, e_25, q_15, q_23, e_13, e_21, h47, h62]
          refine lv_istore (lv' := [(7, .int x_26), (6, .int v_9), (0, .ref (al.2 90 0)), (1, .int a), (2, .int cs), (3, .int mm), (4, .int far), (5, .int l5_1)]) hx hb dX1_measure_73 hl (by decide) rfl (fun ls hl => ?_)
          refine lv_aload_n hx hb dX1_measure_75 rfl (lv_at hl 2 rfl) ?_
          refine g_90_7 C hU hG (h1_90 hG) fl_X1_31 dX1_measure_76 ?_
          refine lv_iload hx hb dX1_measure_79 (lv_at hl 7 rfl) ?_
          refine lv_iload hx hb dX1_measure_81 (lv_at hl 1 rfl) ?_
          have J_92 : ∀ (v_28 : Int32) (ls : Array Slot), lv_has ls 8 [(0, .ref (al.2 90 0)), (1, .int a), (2, .int cs), (3, .int mm), (4, .int far), (5, .int l5_1)] → v_28 = msR iv a cs mm far l5_1.toNatClampNeg → W p l e (rm 1) s m args below meth c H locs 0 0 Q (F0 m 92 ls [.int v_28, .int l5_1, .ref (al.2 97 0)]) := by
            intro v_28 ls hl i92_0
            refine s_97 C hU hS (h1_97 hG) (x := l5_1) (by omega) (by omega) dX1_measure_92 (fun iv_29 H locs ei_30 hU hS => ?_)
            have hG : GI al iv_29 rv_3 := by rw [ei_30]; exact hG.puti (show _ ∧ _ from ⟨(fb_rng _).1, Int.le_of_lt_add_one (fb_rng _).2⟩) (nsA (by decide) _)
            have hF1 : FR ([97], []) iv iv_29 := by rw [ei_30]; exact hF1.put (Or.inl (by decide))
            obtain ⟨x_31, e_32⟩ : ∃ y : Int32, y = l5_1 + 1 := ⟨_, rfl⟩
            have te_32 : x_31.toInt = (l5_1 : Int32).toInt + (1 : Int32).toInt := by rw [e_32]; exact fb_addI (by omega) (by omega)
            refine lv_iinc (v := x_31) (lv' := [(5, .int x_31), (0, .ref (al.2 90 0)), (1, .int a), (2, .int cs), (3, .int mm), (4, .int far)]) hx hb dX1_measure_93 hl (k := 5) rfl (by rw [e_32]; rfl) (by decide) rfl (fun ls hl => ?_)
            refine lv_goto (tgt := 3) hx hb dX1_measure_96 (by decide) ?_
            exact ih_3 x_31 _ _ _ _ _ (lv_sub hl [1, 2, 3, 4, 5, 0] rfl) hG hF1 hF2 hU hS (by omega) (by first | exact me_s i3_1 i92_0 ei_30 (by omega) (by omega) | exact me_0) (by omega) (by omega)
          refine b_if_eq (tgt := 91) hx hb dX1_measure_83 (by decide) (fun c_33 => ?_) (fun c_33 => ?_)
          ·
            refine lv_iconst (v := (-1)) hx hb dX1_measure_91 (by decide) ?_
            exact J_92 (-1) _ (lv_sub hl [2, 3, 4, 5, 6, 7] rfl) (by first | exact me_y i39_1 (by omega) h72 | exact me_n i39_1 (by omega))
          ·
            refine lv_iload hx hb dX1_measure_86 (lv_at hl 0 rfl) ?_
            refine lv_goto (tgt := 92) hx hb dX1_measure_88 (by decide) ?_
            exact J_92 x_26 _ (lv_sub hl [2, 3, 4, 5, 6, 7] rfl) (by first | exact me_y i39_1 (by omega) h72 | exact me_n i39_1 (by omega))
        have J_38 : ∀ (ls : Array Slot), lv_has ls 8 [(0, .ref (al.2 90 0)), (1, .int a), (2, .int cs), (3, .int mm), (4, .int far), (5, .int l5_1)] → ¬ msC iv a cs l5_1.toNatClampNeg → W p l e (rm 1) s m args below meth c H locs 0 0 Q (F0 m 38 ls []) := by
          intro ls hl i38_0
          refine lv_iconst (v := 0) hx hb dX1_measure_38 (by decide) ?_
          exact J_39 0 _ (lv_sub hl [0, 1, 2, 3, 4, 5] rfl) (by omega) (by first | exact Or.inr ⟨by decide, i38_0⟩ | exact Or.inl ⟨by decide, by omega, by omega⟩)
        refine b_icmp_ne (tgt := 38) hx hb dX1_measure_20 (by decide) (fun c_34 => ?_) (fun c_34 => ?_)
        ·
          exact J_38 _ (lv_sub hl [0, 1, 2, 3, 4, 5] rfl) (by first | exact fun z => absurd z.1 (by omega) | exact fun z => absurd z.2 (by omega))
        ·
          refine lv_aload_n hx hb dX1_measure_23 rfl (lv_at hl 0 rfl) ?_
          refine g_90_1 C hU hG (h1_90 hG) fl_X1_15 dX1_measure_24 ?_
          refine lv_iload hx hb dX1_measure_27 (lv_at hl 5 rfl) ?_
          refine a_92 C hU hG (h1_92 hG) (x := l5_1) (by omega) (by omega) dX1_measure_29 (fun x_35 e_36 le_36 ue_36 => ?_)
          have te_36 := congrArg Int32.toInt e_36
          have ne_36 : x_35.toInt = (iv 92 0 (l5_1 : Int32).toNatClampNeg).toInt := by rw [e_36, hF1.arr 92 0 (l5_1 : Int32).toNatClampNeg (by decide)]
          refine lv_iload_n hx hb dX1_measure_30 rfl (lv_at hl 2 rfl) ?_
          refine b_icmp_ne (tgt := 38) hx hb dX1_measure_31 (by decide) (fun c_37 => ?_) (fun c_37 => ?_)
          ·
            exact J_38 _ (lv_sub hl [0, 1, 2, 3, 4, 5] rfl) (by first | exact fun z => absurd z.1 (by omega) | exact fun z => absurd z.2 (by omega))
          ·
            refine lv_iconst (v := 1) hx hb dX1_measure_34 (by decide) ?_
            refine lv_goto (tgt := 39) hx hb dX1_measure_35 (by decide) ?_
            exact J_39 1 _ (lv_sub hl [0, 1, 2, 3, 4, 5] rfl) (by omega) (by first | exact Or.inr ⟨by decide, i38_0⟩ | exact Or.inl ⟨by decide, by omega, by omega⟩)
  exact J_3 _ 0 _ _ _ _ _ (lv_sub hl [1, 2, 3, 4, 5, 0] rfl) hG hF1 hF2 hU hS (by omega) (by first | exact me_s i3_1 i92_0 True.intro (by omega) (by omega) | exact me_0) (by omega) (Nat.lt_succ_self _)
set_option maxHeartbeats 4000000 in
set_option maxRecDepth 100000 in
theorem c_X1_leastFar_x {l : Launch} {D : va_G} {cA : FieldType → ClassId} {sz : Nat} {al : Al} {iv : Iv} {rv : Rv} (hG : GI al iv rv) : Met l yX1_leastFar (wd yX1_leastFar cX1_leastFar 3 (some .int)) (rm 0) (PcW D cA sz al iv rv [.ref (al.2 90 0)]) (QI D cA sz al (pI iv rv (fun r => (-9 ≤ r.toInt ∧ r.toInt ≤ 39) ∧ ((r.toInt = -9 ∨ 0 ≤ r.toInt) ∧ lfP iv r (iv 90 0 6).toNatClampNeg)))) 0 0 (Aq sz) := by
  refine mk_i (by decide) (Nat.le_of_ble_eq_true rfl) rfl ?_
  intro p e s m args below meth c ls Q H locs C hU hS hl hret
  have hx := C.1.1
  have hb := C.1.2.1
  have hl : lv_has ls 3 [(0, .ref (al.2 90 0))] := hl
  have hG0 := hG
  have l90 := le90 hG
  have km9 : ((-9) : Int32).toInt = -9 := by decide
  have km1 : ((-1) : Int32).toInt = -1 := by decide
  have k0 : (0 : Int32).toInt = 0 := by decide
  have k1 : (1 : Int32).toInt = 1 := by decide
  refine lv_bipush (v := (-9)) hx hb dX1_leastFar_0 (by decide) ?_
  refine lv_istore_n (lv' := [(1, .int (-9)), (0, .ref (al.2 90 0))]) hx hb dX1_leastFar_2 rfl hl (by decide) rfl (fun ls hl => ?_)
  refine lv_iconst (v := 0) hx hb dX1_leastFar_3 (by decide) ?_
  refine lv_istore_n (lv' := [(2, .int 0), (1, .int (-9)), (0, .ref (al.2 90 0))]) hx hb dX1_leastFar_4 rfl hl (by decide) rfl (fun ls hl => ?_)
  have J_5 : ∀ (n_5 : Nat) (l1_1 : Int32) (l2_2 : Int32) (ls : Array Slot), lv_has ls 3 [(0, .ref (al.2 90 0)), (1, .int l1_1), (2, .int l2_2)] → (-9 ≤ l1_1.toInt ∧ l1_1.toInt ≤ 39) → (0 ≤ l2_2.toInt ∧ l2_2.toInt ≤ 40) → l1_1.toInt = -9 ∨ 0 ≤ l1_1.toInt → lfP iv l1_1 l2_2.toNatClampNeg → l2_2.toInt ≤ (iv 90 0 6).toInt → (40 - l2_2.toInt).toNat < n_5 → W p l e (rm 0) s m args below meth c H locs 0 0 Q (F0 m 5 ls []) := by
    intro n_5
    induction n_5 with
    | zero =>
      intro l1_1 l2_2 ls hl i5_0 i5_1 i5_2 i5_3 i5_4 hm_5
      exact absurd hm_5 (Nat.not_lt_zero _)
    | succ n_5 ih_5 =>
      intro l1_1 l2_2 ls hl i5_0 i5_1 i5_2 i5_3 i5_4 hm_5
      refine lv_iload_n hx hb dX1_leastFar_5 rfl (lv_at hl 2 rfl) ?_
      refine lv_aload_n hx hb dX1_leastFar_6 rfl (lv_at hl 0 rfl) ?_
      refine g_90_6 C hU hG (h1_90 hG) fl_X1_34 dX1_leastFar_7 (fun x_3 e_4 le_4 ue_4 => ?_)
      have te_4 := congrArg Int32.toInt e_4
      refine b_icmp_ge (tgt := 55) hx hb dX1_leastFar_10 (by decide) (fun c_5 => ?_) (fun c_5 => ?_)
      ·
        refine lv_iload_n hx hb dX1_leastFar_55 rfl (lv_at hl 1 rfl) ?_
        exact hret (⟨rfl, rfl, ⟨⟨by omega, by omega⟩, ⟨by omega, lf_end i5_3 (by omega) (by omega)⟩⟩⟩) hU hS dX1_leastFar_56
      ·
        refine lv_aload_n hx hb dX1_leastFar_13 rfl (lv_at hl 0 rfl) ?_
        refine g_90_7 C hU hG (h1_90 hG) fl_X1_31 dX1_leastFar_14 ?_
        refine lv_iload_n hx hb dX1_leastFar_17 rfl (lv_at hl 2 rfl) ?_
        refine a_97 C hU hG (h1_97 hG) (x := l2_2) (by omega) (by omega) dX1_leastFar_18 (fun x_6 e_7 => ?_)
        have te_7 := congrArg Int32.toInt e_7
        refine lv_iconst (v := (-1)) hx hb dX1_leastFar_19 (by decide) ?_
        have J_49 : ∀ (l1_8 : Int32) (ls : Array Slot), lv_has ls 3 [(0, .ref (al.2 90 0)), (2, .int l2_2), (1, .int l1_8)] → (-9 ≤ l1_8.toInt ∧ l1_8.toInt ≤ 39) → l1_8.toInt = -9 ∨ 0 ≤ l1_8.toInt → lfP iv l1_8 (l2_2.toNatClampNeg + 1) → W p l e (rm 0) s m args below meth c H locs 0 0 Q (F0 m 49 ls []) := by
          intro l1_8 ls hl i49_0 i49_1 i49_2
          obtain ⟨x_9, e_10⟩ : ∃ y : Int32, y = l2_2 + 1 := ⟨_, rfl⟩
          have te_10 : x_9.toInt = (l2_2 : Int32).toInt + (1 : Int32).toInt := by rw [e_10]; exact fb_addI (by omega) (by omega)
          refine lv_iinc (v := x_9) (lv' := [(2, .int x_9), (0, .ref (al.2 90 0)), (1, .int l1_8)]) hx hb dX1_leastFar_49 hl (k := 1) rfl (by rw [e_10]; rfl) (by decide) rfl (fun ls hl => ?_)
          refine lv_goto (tgt := 5) hx hb dX1_leastFar_52 (by decide) ?_
          exact ih_5 l1_8 x_9 _ (lv_sub hl [1, 2, 0] rfl) (by omega) (by omega) (by omega) (by first | exact lf_up (by omega) (by omega) i49_2 | exact lf_0) (by omega) (by omega)
        refine b_icmp_ne (tgt := 26) hx hb dX1_leastFar_20 (by decide) (fun c_11 => ?_) (fun c_11 => ?_)
        ·
          refine lv_iload_n hx hb dX1_leastFar_26 rfl (lv_at hl 1 rfl) ?_
          refine lv_bipush (v := (-9)) hx hb dX1_leastFar_27 (by decide) ?_
          have J_47 : ∀ (ls : Array Slot), lv_has ls 3 [(0, .ref (al.2 90 0)), (2, .int l2_2)] → l1_1.toInt = -9 ∨ (iv 97 0 l2_2.toNatClampNeg).toInt < (iv 97 0 l1_1.toNatClampNeg).toInt → W p l e (rm 0) s m args below meth c H locs 0 0 Q (F0 m 47 ls []) := by
            intro ls hl i47_0
            refine lv_iload_n hx hb dX1_leastFar_47 rfl (lv_at hl 1 rfl) ?_
            refine lv_istore_n (lv' := [(1, .int l2_2), (0, .ref (al.2 90 0)), (2, .int l2_2)]) hx hb dX1_leastFar_48 rfl hl (by decide) rfl (fun ls hl => ?_)
            exact J_49 l2_2 _ (lv_sub hl [1, 2, 0] rfl) (by omega) (by omega) (by first | exact lf_y i5_3 (by omega) (by omega) i47_0 | exact lf_n i5_3 (by omega))
          refine b_icmp_eq (tgt := 47) hx hb dX1_leastFar_29 (by decide) (fun c_12 => ?_) (fun c_12 => ?_)
          ·
            exact J_47 _ (lv_sub hl [0, 2] rfl) (by omega)
          ·
            refine lv_aload_n hx hb dX1_leastFar_32 rfl (lv_at hl 0 rfl) ?_
            refine g_90_7 C hU hG (h1_90 hG) fl_X1_31 dX1_leastFar_33 ?_
            refine lv_iload_n hx hb dX1_leastFar_36 rfl (lv_at hl 2 rfl) ?_
            refine a_97 C hU hG (h1_97 hG) (x := l2_2) (by omega) (by omega) dX1_leastFar_37 (fun x_13 e_14 => ?_)
            have te_14 := congrArg Int32.toInt e_14
            refine lv_aload_n hx hb dX1_leastFar_38 rfl (lv_at hl 0 rfl) ?_
            refine g_90_7 C hU hG (h1_90 hG) fl_X1_31 dX1_leastFar_39 ?_
            refine lv_iload_n hx hb dX1_leastFar_42 rfl (lv_at hl 1 rfl) ?_
            refine a_97 C hU hG (h1_97 hG) (x := l1_1) (by omega) (by omega) dX1_leastFar_43 (fun x_15 e_16 => ?_)
            have te_16 := congrArg Int32.toInt e_16
            refine b_icmp_ge (tgt := 49) hx hb dX1_leastFar_44 (by decide) (fun c_17 => ?_) (fun c_17 => ?_)
            ·
              exact J_49 l1_1 _ (lv_sub hl [0, 2, 1] rfl) (by omega) (by omega) (by first | exact lf_y i5_3 (by omega) (by omega) i47_0 | exact lf_n i5_3 (by omega))
            ·
              exact J_47 _ (lv_sub hl [0, 2] rfl) (by omega)
        ·
          refine lv_goto (tgt := 49) hx hb dX1_leastFar_23 (by decide) ?_
          exact J_49 l1_1 _ (lv_sub hl [0, 2, 1] rfl) (by omega) (by omega) (by first | exact lf_y i5_3 (by omega) (by omega) i47_0 | exact lf_n i5_3 (by omega))
  exact J_5 _ (-9) 0 _ (lv_sub hl [2, 1, 0] rfl) (by omega) (by omega) (by omega) (by first | exact lf_up (by omega) (by omega) i49_2 | exact lf_0) (by omega) (Nat.lt_succ_self _)
set_option maxHeartbeats 4000000 in
set_option maxRecDepth 100000 in
theorem c_X1_choose_x {l : Launch} {D : va_G} {cA : FieldType → ClassId} {sz : Nat} {al : Al} {iv : Iv} {rv : Rv} (hG : GI al iv rv) (most : Int32) (pre0 : 0 ≤ most.toInt ∧ most.toInt ≤ 900) : Met l yX1_choose (wd yX1_choose cX1_choose 4 none) (rm 1) (PcW D cA sz al iv rv [.ref (al.2 90 0), .int most]) (QV D cA sz al (fV al ([97], [(90, 8), (90, 9), (90, 10)]) iv rv (fun iv' rv' => ∃ a : Nat → Nat, 0 ≤ (iv' 90 0 8).toInt ∧ LK (chP iv) (fun k => iv 97 0 k) (iv 90 0 6).toNatClampNeg most.toNatClampNeg a (iv' 90 0 8).toNatClampNeg ∧ iv' 90 0 9 = wnG (fun k => iv 95 0 k) a (iv' 90 0 8).toNatClampNeg ∧ iv' 90 0 10 = ctG (fun k => iv 96 0 k) a (iv' 90 0 8).toNatClampNeg))) 0 0 (Aq sz) := by
  refine mk_v (by decide) (Nat.le_of_ble_eq_true rfl) rfl ?_
  intro p e s m args below meth c ls Q H locs C hU hS hl hret
  have hx := C.1.1
  have hb := C.1.2.1
  have hl : lv_has ls 4 [(0, .ref (al.2 90 0)), (1, .int most)] := hl
  have hG0 := hG
  have l90 := le90 hG
  have hF1 : FR ([97], [(90, 8), (90, 9), (90, 10)]) iv iv := FR.rf
  have hF2 : FR ([97], [(90, 8), (90, 9), (90, 10)]) rv rv := FR.rf
  have km9 : ((-9) : Int32).toInt = -9 := by decide
  have km1 : ((-1) : Int32).toInt = -1 := by decide
  have k0 : (0 : Int32).toInt = 0 := by decide
  have k1 : (1 : Int32).toInt = 1 := by decide
  refine lv_aload_n hx hb dX1_choose_0 rfl (lv_at hl 0 rfl) ?_
  refine lv_iconst (v := 0) hx hb dX1_choose_1 (by decide) ?_
  refine p_90_8 C hU hS (h1_90 hG) fl_X1_44 dX1_choose_2 (fun iv_1 H locs ei_2 hU hS => ?_)
  have hG : GI al iv_1 rv := by rw [ei_2]; exact hG.puti (show _ ∧ _ from ⟨(fb_rng _).1, Int.le_of_lt_add_one (fb_rng _).2⟩) (nsF (by decide))
  have hF1 : FR ([97], [(90, 8), (90, 9), (90, 10)]) iv iv_1 := by rw [ei_2]; exact hF1.put (by decide)
  have kf_3 := congrArg Int32.toInt (show iv_1 90 0 9 = iv 90 0 9 by rw [ei_2]; exact up3_ne (fun z => absurd z.2.2 (by decide)))
  have kf_4 := congrArg Int32.toInt (show iv_1 90 0 10 = iv 90 0 10 by rw [ei_2]; exact up3_ne (fun z => absurd z.2.2 (by decide)))
  refine lv_aload_n hx hb dX1_choose_5 rfl (lv_at hl 0 rfl) ?_
  refine lv_iconst (v := 0) hx hb dX1_choose_6 (by decide) ?_
  refine p_90_9 C hU hS (h1_90 hG) fl_X1_47 dX1_choose_7 (fun iv_5 H locs ei_6 hU hS => ?_)
  have hG : GI al iv_5 rv := by rw [ei_6]; exact hG.puti (show _ ∧ _ from ⟨(fb_rng _).1, Int.le_of_lt_add_one (fb_rng _).2⟩) (nsF (by decide))
  have hF1 : FR ([97], [(90, 8), (90, 9), (90, 10)]) iv iv_5 := by rw [ei_6]; exact hF1.put (by decide)
  have kf_7 := congrArg Int32.toInt (show iv_5 90 0 8 = iv_1 90 0 8 by rw [ei_6]; exact up3_ne (fun z => absurd z.2.2 (by decide)))
  have kf_8 := congrArg Int32.toInt (show iv_5 90 0 10 = iv_1 90 0 10 by rw [ei_6]; exact up3_ne (fun z => absurd z.2.2 (by decide)))
  refine lv_aload_n hx hb dX1_choose_10 rfl (lv_at hl 0 rfl) ?_
  refine lv_iconst (v := 0) hx hb dX1_choose_11 (by decide) ?_
  refine p_90_10 C hU hS (h1_90 hG) fl_X1_50 dX1_choose_12 (fun iv_9 H locs ei_10 hU hS => ?_)
  have hG : GI al iv_9 rv := by rw [ei_10]; exact hG.puti (show _ ∧ _ from ⟨(fb_rng _).1, Int.le_of_lt_add_one (fb_rng _).2⟩) (nsF (by decide))
  have hF1 : FR ([97], [(90, 8), (90, 9), (90, 10)]) iv iv_9 := by rw [ei_10]; exact hF1.put (by decide)
  have kf_11 := congrArg Int32.toInt (show iv_9 90 0 8 = iv_5 90 0 8 by rw [ei_10]; exact up3_ne (fun z => absurd z.2.2 (by decide)))
  have kf_12 := congrArg Int32.toInt (show iv_9 90 0 9 = iv_5 90 0 9 by rw [ei_10]; exact up3_ne (fun z => absurd z.2.2 (by decide)))
  refine lv_iconst (v := 0) hx hb dX1_choose_15 (by decide) ?_
  refine lv_istore_n (lv' := [(2, .int 0), (0, .ref (al.2 90 0)), (1, .int most)]) hx hb dX1_choose_16 rfl hl (by decide) rfl (fun ls hl => ?_)
  have J_17 : ∀ (n_17 : Nat) (l2_13 : Int32) (iv_14 : Iv) (rv_15 : Rv) (H : Heap) (locs : List Loc) (ls : Array Slot), lv_has ls 4 [(0, .ref (al.2 90 0)), (1, .int most), (2, .int l2_13)] → GI al iv_14 rv_15 → FR ([97], [(90, 8), (90, 9), (90, 10)]) iv iv_14 → FR ([97], [(90, 8), (90, 9), (90, 10)]) rv rv_15 → UW D cA sz al iv_14 rv_15 H → va_S (Aq sz) s.heap H locs → (0 ≤ l2_13.toInt ∧ l2_13.toInt ≤ 900) → chI iv iv_14 l2_13.toNatClampNeg → l2_13.toInt ≤ most.toInt → (900 - l2_13.toInt).toNat < n_17 → W p l e (rm 1) s m args below meth c H locs 0 0 Q (F0 m 17 ls []) := by
    intro n_17
    induction n_17 with
    | zero =>
      intro l2_13 iv_14 rv_15 H locs ls hl hG hF1 hF2 hU hS i17_0 i17_1 i17_2 hm_17
      exact absurd hm_17 (Nat.not_lt_zero _)
    | succ n_17 ih_17 =>
      intro l2_13 iv_14 rv_15 H locs ls hl hG hF1 hF2 hU hS i17_0 i17_1 i17_2 hm_17
      refine lv_iload_n hx hb dX1_choose_17 rfl (lv_at hl 2 rfl) ?_
      refine lv_iload_n hx hb dX1_choose_18 rfl (lv_at hl 1 rfl) ?_
      refine b_icmp_ge (tgt := 91) hx hb dX1_choose_19 (by decide) (fun c_16 => ?_) (fun c_16 => ?_)
      ·
        exact hret (⟨hG, hF1, hF2, ch_e2 i17_1 (by omega) (by omega)⟩) hU hS dX1_choose_91
      ·
        refine lv_aload_n hx hb dX1_choose_22 rfl (lv_at hl 0 rfl) ?_
        refine q_pi (q_runV (t := 90) (i := 0) (As := []) (rest := []) C hU (c_X1_leastFar_x hG  ) vm_X1_leastFar ml_X1_53 k_90.1 (hc := rfl) rfl (h1_90 hG) hl.1 rfl rfl (Nat.le_of_ble_eq_true rfl) dX1_choose_23 rfl rfl ⟨Nat.le_of_ble_eq_true rfl, Nat.le_of_ble_eq_true rfl⟩ ⟨Nat.le_refl _, Nat.le_refl _⟩) hS (fun x_18 H locs hp_17 hU hS => ?_)
        have hlf := ch_lf hp_17.2.2 (hF1 90 0 6 (by decide))
        refine lv_istore_n (lv' := [(3, .int x_18), (0, .ref (al.2 90 0)), (1, .int most), (2, .int l2_13)]) hx hb dX1_choose_26 rfl hl (by decide) rfl (fun ls hl => ?_)
        refine lv_iload_n hx hb dX1_choose_27 rfl (lv_at hl 0 rfl) ?_
        refine lv_bipush (v := (-9)) hx hb dX1_choose_28 (by decide) ?_
        refine b_icmp_ne (tgt := 34) hx hb dX1_choose_30 (by decide) (fun c_19 => ?_) (fun c_19 => ?_)
        ·
          refine lv_aload_n hx hb dX1_choose_34 rfl (lv_at hl 1 rfl) ?_
          refine lv_dup hx hb dX1_choose_35 rfl ?_
          refine g_90_8 C hU hG (h1_90 hG) fl_X1_44 dX1_choose_36 (fun x_20 e_21 => ?_)
          have te_21 := congrArg Int32.toInt e_21
          refine lv_iconst (v := 1) hx hb dX1_choose_39 (by decide) ?_
          refine lv_iadd hx hb dX1_choose_40 ?_
          refine lv_topi (fun x_22 e_23 => ?_)
          refine p_90_8 C hU hS (h1_90 hG) fl_X1_44 dX1_choose_41 (fun iv_24 H locs ei_25 hU hS => ?_)
          have hG : GI al iv_24 rv_15 := by rw [ei_25]; exact hG.puti (show _ ∧ _ from ⟨(fb_rng _).1, Int.le_of_lt_add_one (fb_rng _).2⟩) (nsF (by decide))
          have hF1 : FR ([97], [(90, 8), (90, 9), (90, 10)]) iv iv_24 := by rw [ei_25]; exact hF1.put (by decide)
          have kf_26 := congrArg Int32.toInt (show iv_24 90 0 9 = iv_14 90 0 9 by rw [ei_25]; exact up3_ne (fun z => absurd z.2.2 (by decide)))
          have kf_27 := congrArg Int32.toInt (show iv_24 90 0 10 = iv_14 90 0 10 by rw [ei_25]; exact up3_ne (fun z => absurd z.2.2 (by decide)))
          refine lv_aload_n hx hb dX1_choose_44 rfl (lv_at hl 1 rfl) ?_
          refine g_90_4 C hU hG (h1_90 hG) fl_X1_24 dX1_choose_45 ?_
          refine lv_iload_n hx hb dX1_choose_48 rfl (lv_at hl 0 rfl) ?_
          refine a_95 C hU hG (h1_95 hG) (x := x_18) (by omega) (by omega) dX1_choose_49 (fun x_28 e_29 le_29 ue_29 => ?_)
          have te_29 := congrArg Int32.toInt e_29
          have ne_29 : x_28.toInt = (iv 95 0 (x_18 : Int32).toNatClampNeg).toInt := by rw [e_29, hF1.arr 95 0 (x_18 : Int32).toNatClampNeg (by decide)]
          have h49 : x_28 = iv 95 0 x_18.toNatClampNeg := by rw [e_29]; exact hF1.arr 95 0 _ (by decide)
          have t49 := congrArg Int32.toInt h49
          have J_63 : ∀ (iv_30 : Iv) (rv_31 : Rv) (H : Heap) (locs : List Loc) (ls : Array Slot), lv_has ls 4 [(0, .ref (al.2 90 0)), (1, .int most), (2, .int l2_13), (3, .int x_18)] → GI al iv_30 rv_31 → FR ([97], [(90, 8), (90, 9), (90, 10)]) iv iv_30 → FR ([97], [(90, 8), (90, 9), (90, 10)]) rv rv_31 → UW D cA sz al iv_30 rv_31 H → va_S (Aq sz) s.heap H locs → chJ iv iv_14 iv_30 x_18.toNatClampNeg → W p l e (rm 1) s m args below meth c H locs 0 0 Q (F0 m 63 ls []) := by
            intro iv_30 rv_31 H locs ls hl hG hF1 hF2 hU hS i63_0
            refine lv_aload_n hx hb dX1_choose_63 rfl (lv_at hl 0 rfl) ?_
            refine lv_dup hx hb dX1_choose_64 rfl ?_
            refine g_90_10 C hU hG (h1_90 hG) fl_X1_50 dX1_choose_65 (fun x_32 e_33 => ?_)
            have te_33 := congrArg Int32.toInt e_33
            refine lv_aload_n hx hb dX1_choose_68 rfl (lv_at hl 0 rfl) ?_
            refine g_90_5 C hU hG (h1_90 hG) fl_X1_28 dX1_choose_69 ?_
            refine lv_iload_n hx hb dX1_choose_72 rfl (lv_at hl 3 rfl) ?_
            refine a_96 C hU hG (h1_96 hG) (x := x_18) (by omega) (by omega) dX1_choose_73 (fun x_34 e_35 le_35 ue_35 => ?_)
            have te_35 := congrArg Int32.toInt e_35
            have ne_35 : x_34.toInt = (iv 96 0 (x_18 : Int32).toNatClampNeg).toInt := by rw [e_35, hF1.arr 96 0 (x_18 : Int32).toNatClampNeg (by decide)]
            have h73 : x_34 = iv 96 0 x_18.toNatClampNeg := by rw [e_35]; exact hF1.arr 96 0 _ (by decide)
            refine lv_iadd hx hb dX1_choose_74 ?_
            refine lv_topi (fun x_36 e_37 => ?_)
            refine p_90_10 C hU hS (h1_90 hG) fl_X1_50 dX1_choose_75 (fun iv_38 H locs ei_39 hU hS => ?_)
            have hG : GI al iv_38 rv_31 := by rw [ei_39]; exact hG.puti (show _ ∧ _ from ⟨(fb_rng _).1, Int.le_of_lt_add_one (fb_rng _).2⟩) (nsF (by decide))
            have hF1 : FR ([97], [(90, 8), (90, 9), (90, 10)]) iv iv_38 := by rw [ei_39]; exact hF1.put (by decide)
            have kf_40 := congrArg Int32.toInt (show iv_38 90 0 8 = iv_30 90 0 8 by rw [ei_39]; exact up3_ne (fun z => absurd z.2.2 (by decide)))
            have kf_41 := congrArg Int32.toInt (show iv_38 90 0 9 = iv_30 90 0 9 by rw [ei_39]; exact up3_ne (fun z => absurd z.2.2 (by decide)))
            refine lv_aload_n hx hb dX1_choose_78 rfl (lv_at hl 0 rfl) ?_
            refine g_90_7 C hU hG (h1_90 hG) fl_X1_31 dX1_choose_79 ?_
            refine lv_iload_n hx hb dX1_choose_82 rfl (lv_at hl 3 rfl) ?_
            refine lv_iconst (v := (-1)) hx hb dX1_choose_83 (by decide) ?_
            refine s_97 C hU hS (h1_97 hG) (x := x_18) (by omega) (by omega) dX1_choose_84 (fun iv_42 H locs ei_43 hU hS => ?_)
            have hG : GI al iv_42 rv_31 := by rw [ei_43]; exact hG.puti (show _ ∧ _ from ⟨(fb_rng _).1, Int.le_of_lt_add_one (fb_rng _).2⟩) (nsA (by decide) _)
            have hF1 : FR ([97], [(90, 8), (90, 9), (90, 10)]) iv iv_42 := by rw [ei_43]; exact hF1.put (Or.inl (by decide))
            have kf_44 := congrArg Int32.toInt (show iv_42 90 0 8 = iv_38 90 0 8 by rw [ei_43]; exact up3_ne (fun z => absurd z.1 (by decide)))
            have kf_45 := congrArg Int32.toInt (show iv_42 90 0 9 = iv_38 90 0 9 by rw [ei_43]; exact up3_ne (fun z => absurd z.1 (by decide)))
            have kf_46 := congrArg Int32.toInt (show iv_42 90 0 10 = iv_38 90 0 10 by rw [ei_43]; exact up3_ne (fun z => absurd z.1 (by decide)))
            obtain ⟨x_47, e_48⟩ : ∃ y : Int32, y = l2_13 + 1 := ⟨_, rfl⟩
            have te_48 : x_47.toInt = (l2_13 : Int32).toInt + (1 : Int32).toInt := by rw [e_48]; exact fb_addI (by omega) (by omega)
            refine lv_iinc (v := x_47) (lv' := [(2, .int x_47), (0, .ref (al.2 90 0)), (1, .int most), (3, .int x_18)]) hx hb dX1_choose_85 hl (k := 2) rfl (by rw [e_48]; rfl) (by decide) rfl (fun ls hl => ?_)
            refine lv_goto (tgt := 17) hx hb dX1_choose_88 (by decide) ?_
            exact ih_17 x_47 _ _ _ _ _ (lv_sub hl [1, 2, 0] rfl) hG hF1 hF2 hU hS (by omega) (by first | exact ch_s i17_1 hlf i63_0 e_33 h73 e_37 ei_39 ei_43 (by omega) (by omega) (by omega) | exact ch_0 ei_2 ei_6 ei_10) (by omega) (by omega)
          refine b_if_eq (tgt := 63) hx hb dX1_choose_50 (by decide) (fun c_49 => ?_) (fun c_49 => ?_)
          ·
            exact J_63 _ _ _ _ _ (lv_sub hl [1, 2, 3, 0] rfl) hG hF1 hF2 hU hS (by first | exact ch_j1 e_21 e_23 ei_25 True.intro True.intro True.intro (by omega) | exact ch_j0 e_21 e_23 ei_25 (by omega))
          ·
            refine lv_aload_n hx hb dX1_choose_53 rfl (lv_at hl 1 rfl) ?_
            refine lv_dup hx hb dX1_choose_54 rfl ?_
            refine g_90_9 C hU hG (h1_90 hG) fl_X1_47 dX1_choose_55 (fun x_50 e_51 => ?_)
            have te_51 := congrArg Int32.toInt e_51
            refine lv_iconst (v := 1) hx hb dX1_choose_58 (by decide) ?_
            refine lv_iadd hx hb dX1_choose_59 ?_
            refine lv_topi (fun x_52 e_53 => ?_)
            refine p_90_9 C hU hS (h1_90 hG) fl_X1_47 dX1_choose_60 (fun iv_54 H locs ei_55 hU hS => ?_)
            have hG : GI al iv_54 rv_15 := by rw [ei_55]; exact hG.puti (show _ ∧ _ from ⟨(fb_rng _).1, Int.le_of_lt_add_one (fb_rng _).2⟩) (nsF (by decide))
            have hF1 : FR ([97], [(90, 8), (90, 9), (90, 10)]) iv iv_54 := by rw [ei_55]; exact hF1.put (by decide)
            have kf_56 := congrArg Int32.toInt (show iv_54 90 0 8 = iv_24 90 0 8 by rw [ei_55]; exact up3_ne (fun z => absurd z.2.2 (by decide)))
            have kf_57 := congrArg Int32.toInt (show iv_54 90 0 10 = iv_24 90 0 10 by rw [ei_55]; exact up3_ne (fun z => absurd z.2.2 (by decide)))
            exact J_63 _ _ _ _ _ (lv_sub hl [1, 2, 3, 0] rfl) hG hF1 hF2 hU hS (by first | exact ch_j1 e_21 e_23 ei_25 e_51 e_53 ei_55 (by omega) | exact ch_j0 e_21 e_23 ei_25 (by omega))
        ·
          exact hret (⟨hG, hF1, hF2, ch_e1 i17_1 hlf (by omega) (by omega) (by omega)⟩) hU hS dX1_choose_33
  exact J_17 _ 0 _ _ _ _ _ (lv_sub hl [1, 2, 0] rfl) hG hF1 hF2 hU hS (by omega) (by first | exact ch_s i17_1 hlf i63_0 True.intro h73 True.intro True.intro True.intro (by omega) (by omega) (by omega) | exact ch_0 ei_2 ei_6 ei_10) (by omega) (Nat.lt_succ_self _)
set_option maxHeartbeats 4000000 in
set_option maxRecDepth 100000 in
theorem c_X11_chooseLike_x {l : Launch} {D : va_G} {cA : FieldType → ClassId} {sz : Nat} {al : Al} {iv : Iv} {rv : Rv} (hG : GI al iv rv) (ci : Nat) (hci : ci < al.1 88) (pre0 : BX iv rv) (pre1 : Ccase iv rv) (pre2 : Cmlr iv rv) : Met l yX11_chooseLike (wd yX11_chooseLike cX11_chooseLike 4 none) (rm 4) (PcW D cA sz al iv rv [.ref (al.2 49 0), .ref (al.2 88 ci)]) (QV D cA sz al (fV al ([59, 60, 61, 97], [(90, 8), (90, 9), (90, 10)]) iv rv (fun iv' rv' => ∃ a : Nat → Nat, 0 ≤ (iv' 90 0 8).toInt ∧ LKc iv ci a (iv' 90 0 8).toNatClampNeg ∧ iv' 90 0 9 = wnG (fun k => iv 45 0 k) a (iv' 90 0 8).toNatClampNeg ∧ iv' 90 0 10 = ctG (fun k => iv 46 0 k) a (iv' 90 0 8).toNatClampNeg))) 0 0 (Aq sz) := by
  refine mk_v (by decide) (Nat.le_of_ble_eq_true rfl) rfl ?_
  intro p e s m args below meth c ls Q H locs C hU hS hl hret
  have hx := C.1.1
  have hb := C.1.2.1
  have hl : lv_has ls 4 [(0, .ref (al.2 49 0)), (1, .ref (al.2 88 ci))] := hl
  have hG0 := hG
  have hF1 : FR ([59, 60, 61, 97], [(90, 8), (90, 9), (90, 10)]) iv iv := FR.rf
  have hF2 : FR ([59, 60, 61, 97], [(90, 8), (90, 9), (90, 10)]) rv rv := FR.rf
  have k3 : (3 : Int32).toInt = 3 := by decide
  refine lv_aload_n hx hb dX11_chooseLike_0 rfl (lv_at hl 1 rfl) ?_
  refine g_88_0 C hU hG hci fl_X11_264 dX11_chooseLike_1 (fun j_1 ej_2 hb_3 => ?_)
  have hti := cw_t hG0 pre0 hci ej_2
  refine lv_astore_n (lv' := [(2, .ref (al.2 65 j_1)), (0, .ref (al.2 49 0)), (1, .ref (al.2 88 ci))]) hx hb dX11_chooseLike_4 rfl hl (by decide) rfl (fun ls hl => ?_)
  refine lv_aload_n hx hb dX11_chooseLike_5 rfl (lv_at hl 1 rfl) ?_
  refine g_49_3 C hU hG (h1_49 hG) fl_X11_33 dX11_chooseLike_6 ?_
  refine lv_aload_n hx hb dX11_chooseLike_9 rfl (lv_at hl 0 rfl) ?_
  refine lv_aload_n hx hb dX11_chooseLike_10 rfl (lv_at hl 2 rfl) ?_
  refine g_88_1 C hU hG hci fl_X11_271 dX11_chooseLike_11 (fun x_4 e_5 le_5 ue_5 => ?_)
  have te_5 := congrArg Int32.toInt e_5
  have hdd := cw_d hG0 pre0 hci e_5
  refine q_pi (q_runV (t := 68) (i := 0) (As := [.ref (al.2 65 j_1), .int x_4]) (rest := []) C hU (c_X4_landFor_x hG (j_1) hb_3 x_4 (pre0.1)) vm_X4_landFor ml_X11_236 k_68.1 (hc := rfl) rfl (h1_68 hG) hl.1 rfl rfl (Nat.le_of_ble_eq_true rfl) dX11_chooseLike_14 rfl rfl ⟨Nat.le_of_ble_eq_true rfl, Nat.le_of_ble_eq_true rfl⟩ ⟨Nat.le_refl _, Nat.le_refl _⟩) hS (fun x_7 H locs hp_6 hU hS => ?_)
  have hlw := hp_6.2.1
  rw [hti, hdd] at hlw
  have hlc : x_7 = clw iv ci := hlw
  refine lv_istore_n (lv' := [(3, .int x_7), (2, .ref (al.2 65 j_1)), (0, .ref (al.2 49 0)), (1, .ref (al.2 88 ci))]) hx hb dX11_chooseLike_17 rfl hl (by decide) rfl (fun ls hl => ?_)
  refine lv_aload_n hx hb dX11_chooseLike_18 rfl (lv_at hl 2 rfl) ?_
  refine g_49_6 C hU hG (h1_49 hG) fl_X11_54 dX11_chooseLike_19 ?_
  refine lv_iload_n hx hb dX11_chooseLike_22 rfl (lv_at hl 0 rfl) ?_
  refine lv_aload_n hx hb dX11_chooseLike_23 rfl (lv_at hl 2 rfl) ?_
  refine lv_aload_n hx hb dX11_chooseLike_24 rfl (lv_at hl 1 rfl) ?_
  refine q_fi (q_runV (t := 49) (i := 0) (As := [.ref (al.2 65 j_1)]) (rest := [.int x_7, .ref (al.2 90 0)]) C hU (c_X11_blameOf_x hG (j_1) hb_3 (pre0.1.1)) vm_X11_blameOf ml_X11_218 k_49.1 (hc := rfl) rfl (h1_49 hG) hl.1 rfl rfl (Nat.le_of_ble_eq_true rfl) dX11_chooseLike_25 rfl rfl ⟨Nat.le_of_ble_eq_true rfl, Nat.le_of_ble_eq_true rfl⟩ ⟨Nat.le_refl _, Nat.le_refl _⟩) hS (fun x_13 iv_9 rv_10 H locs hG fa_11 fb_12 hp_8 hU hS => ?_)
  have hF1 := hF1.tr (m := ([59, 60, 61, 97], [(90, 8), (90, 9), (90, 10)])) fa_11 (by decide)
  have hF2 := hF2.tr (m := ([59, 60, 61, 97], [(90, 8), (90, 9), (90, 10)])) fb_12 (by decide)
  have hbl : x_13 = blF iv (cown iv ci) := by rw [hp_8, hti]
  refine lv_aload_n hx hb dX11_chooseLike_28 rfl (lv_at hl 2 rfl) ?_
  refine lv_aload_n hx hb dX11_chooseLike_29 rfl (lv_at hl 1 rfl) ?_
  have hBQ := bq_fr hG0 pre0.1 hF1 hF2
  have hMA := ma_fr hF1
  refine q_fi (q_runV (t := 49) (i := 0) (As := [.ref (al.2 65 j_1)]) (rest := [.int x_13, .int x_7, .ref (al.2 90 0)]) C hU (c_X11_hoursOf_x hG (j_1) hb_3 (⟨bb_bm hBQ.1, hBQ.2.1⟩)) vm_X11_hoursOf ml_X11_215 k_49.1 (hc := rfl) rfl (h1_49 hG) hl.1 rfl rfl (Nat.le_of_ble_eq_true rfl) dX11_chooseLike_30 rfl rfl ⟨Nat.le_of_ble_eq_true rfl, Nat.le_of_ble_eq_true rfl⟩ ⟨Nat.le_refl _, Nat.le_refl _⟩) hS (fun x_19 iv_15 rv_16 H locs hG fa_17 fb_18 hp_14 hU hS => ?_)
  have hF1 := hF1.tr (m := ([59, 60, 61, 97], [(90, 8), (90, 9), (90, 10)])) fa_17 (by decide)
  have hF2 := hF2.tr (m := ([59, 60, 61, 97], [(90, 8), (90, 9), (90, 10)])) fb_18 (by decide)
  have hho : x_19 = hoF iv (cown iv ci) := by rw [hp_14, ho_m hMA, hti]
  refine lv_aload_n hx hb dX11_chooseLike_33 rfl (lv_at hl 2 rfl) ?_
  refine lv_aload_n hx hb dX11_chooseLike_34 rfl (lv_at hl 1 rfl) ?_
  have hBQ2 := bq_fr hG0 pre0.1 hF1 hF2
  have hMA2 := ma_fr hF1
  refine q_pi (q_runV (t := 49) (i := 0) (As := [.ref (al.2 65 j_1)]) (rest := [.int x_19, .int x_13, .int x_7, .ref (al.2 90 0)]) C hU (c_X11_milesOf_x hG (j_1) hb_3 (hBQ2)) vm_X11_milesOf ml_X11_374 k_49.1 (hc := rfl) rfl (h1_49 hG) hl.1 rfl rfl (Nat.le_of_ble_eq_true rfl) dX11_chooseLike_35 rfl rfl ⟨Nat.le_of_ble_eq_true rfl, Nat.le_of_ble_eq_true rfl⟩ ⟨Nat.le_refl _, Nat.le_refl _⟩) hS (fun x_21 H locs hp_20 hU hS => ?_)
  have hmi : x_21 = miF iv (cown iv ci) := by rw [hp_20, mi_m hMA2, hti]
  have hF3 := hF1
  refine q_fv (q_runV (t := 90) (i := 0) (As := [.int x_7, .int x_13, .int x_19, .int x_21]) (rest := []) C hU (c_X1_measure_x hG x_7 x_13 x_19 x_21 ) vm_X1_measure ml_X11_404 k_90.1 (hc := rfl) rfl (h1_90 hG) hl.1 rfl rfl (Nat.le_of_ble_eq_true rfl) dX11_chooseLike_38 rfl rfl ⟨Nat.le_of_ble_eq_true rfl, Nat.le_of_ble_eq_true rfl⟩ ⟨Nat.le_refl _, Nat.le_refl _⟩) hS (fun iv_23 rv_24 H locs hG fa_25 fb_26 hp_22 hU hS => ?_)
  have hF1 := hF1.tr (m := ([59, 60, 61, 97], [(90, 8), (90, 9), (90, 10)])) fa_25 (by decide)
  have hF2 := hF2.tr (m := ([59, 60, 61, 97], [(90, 8), (90, 9), (90, 10)])) fb_26 (by decide)
  refine lv_aload_n hx hb dX11_chooseLike_41 rfl (lv_at hl 2 rfl) ?_
  refine g_49_6 C hU hG (h1_49 hG) fl_X11_54 dX11_chooseLike_42 ?_
  refine lv_aload_n hx hb dX11_chooseLike_45 rfl (lv_at hl 2 rfl) ?_
  refine g_49_7 C hU hG (h1_49 hG) fl_X11_67 dX11_chooseLike_46 ?_
  refine lv_iconst (v := 3) hx hb dX11_chooseLike_49 (by decide) ?_
  refine a_50 C hU hG (h1_50 hG) (x := 3) (by omega) (by omega) dX11_chooseLike_50 (fun x_27 e_28 le_28 ue_28 => ?_)
  have te_28 := congrArg Int32.toInt e_28
  have ne_28 : x_27.toInt = (iv 50 0 (3 : Int32).toNatClampNeg).toInt := by rw [e_28, hF1.arr 50 0 (3 : Int32).toNatClampNeg (by decide)]
  have h50 : x_27 = iv 15 0 3 := by rw [e_28, show (3 : Int32).toNatClampNeg = 3 from by decide, hF1.arr 50 0 3 (by decide)]; exact (pre0.1.1.1.1.1.2.2 3 (by decide)).symm
  have hF4 := hF1
  refine q_fv (q_runV (t := 90) (i := 0) (As := [.int x_27]) (rest := []) C hU (c_X1_choose_x hG x_27 (by omega)) vm_X1_choose ml_X11_408 k_90.1 (hc := rfl) rfl (h1_90 hG) hl.1 rfl rfl (Nat.le_of_ble_eq_true rfl) dX11_chooseLike_51 rfl rfl ⟨Nat.le_of_ble_eq_true rfl, Nat.le_of_ble_eq_true rfl⟩ ⟨Nat.le_refl _, Nat.le_refl _⟩) hS (fun iv_30 rv_31 H locs hG fa_32 fb_33 hp_29 hU hS => ?_)
  have hF1 := hF1.tr (m := ([59, 60, 61, 97], [(90, 8), (90, 9), (90, 10)])) fa_32 (by decide)
  have hF2 := hF2.tr (m := ([59, 60, 61, 97], [(90, 8), (90, 9), (90, 10)])) fb_33 (by decide)
  exact hret (⟨hG, hF1, hF2, ch_fin hG0 pre1 pre2 hlc hbl hho hmi (fun t i k h => hF3 t i k h) (fun t i k h => hF4 t i k h) hp_22 hp_29 h50⟩) hU hS dX11_chooseLike_54
set_option maxHeartbeats 4000000 in
set_option maxRecDepth 100000 in
theorem c_X1_goingOnTimesChosen_x {l : Launch} {D : va_G} {cA : FieldType → ClassId} {sz : Nat} {al : Al} {iv : Iv} {rv : Rv} (hG : GI al iv rv) (wo : Int32) : Met l yX1_goingOnTimesChosen (wd yX1_goingOnTimesChosen cX1_goingOnTimesChosen 2 (some .int)) (rm 0) (PcW D cA sz al iv rv [.ref (al.2 90 0), .int wo]) (QI D cA sz al (pI iv rv (fun r => r = wo * iv 90 0 9 - iv 90 0 10))) 0 0 (Aq sz) := by
  refine mk_i (by decide) (Nat.le_of_ble_eq_true rfl) rfl ?_
  intro p e s m args below meth c ls Q H locs C hU hS hl hret
  have hx := C.1.1
  have hb := C.1.2.1
  have hl : lv_has ls 2 [(0, .ref (al.2 90 0)), (1, .int wo)] := hl
  have hG0 := hG
  refine lv_iload_n hx hb dX1_goingOnTimesChosen_0 rfl (lv_at hl 1 rfl) ?_
  refine lv_aload_n hx hb dX1_goingOnTimesChosen_1 rfl (lv_at hl 0 rfl) ?_
  refine g_90_9 C hU hG (h1_90 hG) fl_X1_47 dX1_goingOnTimesChosen_2 (fun x_1 e_2 => ?_)
  have te_2 := congrArg Int32.toInt e_2
  refine lv_imul hx hb dX1_goingOnTimesChosen_5 ?_
  refine lv_topi (fun x_3 e_4 => ?_)
  refine lv_aload_n hx hb dX1_goingOnTimesChosen_6 rfl (lv_at hl 0 rfl) ?_
  refine g_90_10 C hU hG (h1_90 hG) fl_X1_50 dX1_goingOnTimesChosen_7 (fun x_5 e_6 => ?_)
  have te_6 := congrArg Int32.toInt e_6
  refine lv_isub hx hb dX1_goingOnTimesChosen_10 ?_
  refine lv_topi (fun x_7 e_8 => ?_)
  exact hret (⟨rfl, rfl, by rw [e_8, e_4, e_2, e_6]⟩) hU hS dX1_goingOnTimesChosen_11
set_option maxHeartbeats 4000000 in
set_option maxRecDepth 100000 in
theorem c_X11_good_x {l : Launch} {D : va_G} {cA : FieldType → ClassId} {sz : Nat} {al : Al} {iv : Iv} {rv : Rv} (hG : GI al iv rv) (cl : Int32) (v : Int32) (pre0 : BX iv rv) (pre1 : Cord iv rv) (pre2 : Ccase iv rv) (pre3 : Cmlr iv rv) : Met l yX11_good (wd yX11_good cX11_good 6 (some .int)) (rm 6) (PcW D cA sz al iv rv [.ref (al.2 49 0), .int cl, .int v]) (QI D cA sz al (fI al ([51, 59, 60, 61, 97], [(90, 8), (90, 9), (90, 10)]) iv rv (fun r iv' rv' => gdR iv cl v r))) 0 0 (Aq sz) := by
  refine mk_i (by decide) (Nat.le_of_ble_eq_true rfl) rfl ?_
  intro p e s m args below meth c ls Q H locs C hU hS hl hret
  have hx := C.1.1
  have hb := C.1.2.1
  have hl : lv_has ls 6 [(0, .ref (al.2 49 0)), (1, .int cl), (2, .int v)] := hl
  have hG0 := hG
  have hn41 := congrArg Int32.toInt pre0.2.2.2.1
  have hF1 : FR ([51, 59, 60, 61, 97], [(90, 8), (90, 9), (90, 10)]) iv iv := FR.rf
  have hF2 : FR ([51, 59, 60, 61, 97], [(90, 8), (90, 9), (90, 10)]) rv rv := FR.rf
  have km6 : ((-6) : Int32).toInt = -6 := by decide
  have km4 : ((-4) : Int32).toInt = -4 := by decide
  have km1 : ((-1) : Int32).toInt = -1 := by decide
  have k0 : (0 : Int32).toInt = 0 := by decide
  have k1 : (1 : Int32).toInt = 1 := by decide
  have k2 : (2 : Int32).toInt = 2 := by decide
  have k9999 : (9999 : Int32).toInt = 9999 := by decide
  refine lv_aload_n hx hb dX11_good_0 rfl (lv_at hl 0 rfl) ?_
  refine g_49_5 C hU hG (h1_49 hG) fl_X11_47 dX11_good_1 ?_
  refine lv_iload_n hx hb dX11_good_4 rfl (lv_at hl 1 rfl) ?_
  refine q_pr (q_runV (t := 84) (i := 0) (As := [.int cl]) (rest := []) C hU (c_X3_find hG cl ) vm_X3_find ml_X11_261 k_84.1 (hc := rfl) rfl (h1_84 hG) hl.1 rfl rfl (Nat.le_of_ble_eq_true rfl) dX11_good_5 rfl rfl ⟨Nat.le_of_ble_eq_true rfl, Nat.le_of_ble_eq_true rfl⟩ ⟨Nat.le_refl _, Nat.le_refl _⟩) hS (fun r_2 H locs hp_1 hU hS => ?_)
  have hb_3 := hp_1.1
  refine b_astore_n (lv' := [(3, rfv al 88 r_2), (0, .ref (al.2 49 0)), (1, .int cl), (2, .int v)]) hx hb dX11_good_8 rfl hl (by decide) rfl (fun ls hl => ?_)
  refine b_aload_n (al := al) (t' := 88) (r := r_2) hx hb dX11_good_9 rfl (lv_at hl 0 rfl) ?_
  refine b_ifnonnull (tgt := 19) hx hb dX11_good_10 (by decide) (fun j_5 ej_6 => ?_) (fun ej_6 => ?_)
  ·
    subst ej_6
    have hl : lv_has ls 6 [(3, .ref (al.2 88 j_5)), (0, .ref (al.2 49 0)), (1, .int cl), (2, .int v)] := hl
    have hb_7 : j_5 < al.1 88 := hb_3 j_5 rfl
    have hq3 := hp_1.2.1 _ rfl
    have hn3 := hq3.1
    rw [clamp_n] at hn3
    refine lv_iload_n hx hb dX11_good_19 rfl (lv_at hl 3 rfl) ?_
    refine b_if_ge (tgt := 30) hx hb dX11_good_20 (by decide) (fun c_8 => ?_) (fun c_8 => ?_)
    ·
      refine lv_iload_n hx hb dX11_good_30 rfl (lv_at hl 3 rfl) ?_
      refine lv_sipush (v := 9999) hx hb dX11_good_31 (by decide) ?_
      refine b_icmp_le (tgt := 44) hx hb dX11_good_34 (by decide) (fun c_9 => ?_) (fun c_9 => ?_)
      ·
        refine lv_aload_n hx hb dX11_good_44 rfl (lv_at hl 1 rfl) ?_
        refine lv_aload_n hx hb dX11_good_45 rfl (lv_at hl 0 rfl) ?_
        refine q_fv (q_runV (t := 49) (i := 0) (As := [.ref (al.2 88 j_5)]) (rest := []) C hU (c_X11_chooseLike_x hG (j_5) hb_7 (pre0) (pre2) (pre3)) vm_X11_chooseLike ml_X11_308 k_49.1 (hc := rfl) rfl (h1_49 hG) hl.1 rfl rfl (Nat.le_of_ble_eq_true rfl) dX11_good_46 rfl rfl ⟨Nat.le_of_ble_eq_true rfl, Nat.le_of_ble_eq_true rfl⟩ ⟨Nat.le_refl _, Nat.le_refl _⟩) hS (fun iv_11 rv_12 H locs hG fa_13 fb_14 hp_10 hU hS => ?_)
        have hF1 := hF1.tr (m := ([51, 59, 60, 61, 97], [(90, 8), (90, 9), (90, 10)])) fa_13 (by decide)
        have hF2 := hF2.tr (m := ([51, 59, 60, 61, 97], [(90, 8), (90, 9), (90, 10)])) fb_14 (by decide)
        obtain ⟨a_, hq0, hLK, hwn, hct⟩ := hp_10
        rw [hq3.1] at hLK
        refine lv_aload_n hx hb dX11_good_49 rfl (lv_at hl 1 rfl) ?_
        refine lv_aload_n hx hb dX11_good_50 rfl (lv_at hl 0 rfl) ?_
        have hMA := ma_fr hF1
        refine q_fi (q_runV (t := 49) (i := 0) (As := [.ref (al.2 88 j_5)]) (rest := []) C hU (c_X11_worthOf_x hG (j_5) hb_7 (bx_fr hG0 pre0 hF1 hF2) (Cord.keep pre1 hG0 (KP.fr hF1 hF2 (by decide)))) vm_X11_worthOf ml_X11_278 k_49.1 (hc := rfl) rfl (h1_49 hG) hl.1 rfl rfl (Nat.le_of_ble_eq_true rfl) dX11_good_51 rfl rfl ⟨Nat.le_of_ble_eq_true rfl, Nat.le_of_ble_eq_true rfl⟩ ⟨Nat.le_refl _, Nat.le_refl _⟩) hS (fun x_20 iv_16 rv_17 H locs hG fa_18 fb_19 hp_15 hU hS => ?_)
        have hF1 := hF1.tr (m := ([51, 59, 60, 61, 97], [(90, 8), (90, 9), (90, 10)])) fa_18 (by decide)
        have hF2 := hF2.tr (m := ([51, 59, 60, 61, 97], [(90, 8), (90, 9), (90, 10)])) fb_19 (by decide)
        have hw : x_20 = wrF iv cl.toNatClampNeg := by rw [hp_15, wr_m hMA, hq3.1]
        have g55 := fa_18 90 0 8 (by decide)
        have g56 := fa_18 90 0 9 (by decide)
        have g57 := fa_18 90 0 10 (by decide)
        have tw := congrArg Int32.toInt hw
        have tg := congrArg Int32.toInt g55
        refine lv_istore (lv' := [(4, .int x_20), (3, .ref (al.2 88 j_5)), (0, .ref (al.2 49 0)), (1, .int cl), (2, .int v)]) hx hb dX11_good_54 hl (by decide) rfl (fun ls hl => ?_)
        refine lv_aload_n hx hb dX11_good_56 rfl (lv_at hl 2 rfl) ?_
        refine g_49_6 C hU hG (h1_49 hG) fl_X11_54 dX11_good_57 ?_
        refine g_90_8 C hU hG (h1_90 hG) fl_X11_315 dX11_good_60 (fun x_21 e_22 => ?_)
        have te_22 := congrArg Int32.toInt e_22
        refine b_if_ne (tgt := 82) hx hb dX11_good_63 (by decide) (fun c_23 => ?_) (fun c_23 => ?_)
        ·
          refine lv_iload_n hx hb dX11_good_82 rfl (lv_at hl 4 rfl) ?_
          refine lv_aload_n hx hb dX11_good_83 rfl (lv_at hl 2 rfl) ?_
          refine g_49_6 C hU hG (h1_49 hG) fl_X11_54 dX11_good_84 ?_
          refine g_90_8 C hU hG (h1_90 hG) fl_X11_315 dX11_good_87 (fun x_24 e_25 => ?_)
          have te_25 := congrArg Int32.toInt e_25
          refine lv_imul hx hb dX11_good_90 ?_
          refine lv_topi (fun x_26 e_27 => ?_)
          have h77 := gd_q e_27 e_25 g55
          have t77 := congrArg Int32.toInt h77
          refine lv_aload_n hx hb dX11_good_91 rfl (lv_at hl 2 rfl) ?_
          refine g_49_6 C hU hG (h1_49 hG) fl_X11_54 dX11_good_92 ?_
          refine lv_iload hx hb dX11_good_95 (lv_at hl 0 rfl) ?_
          refine q_pi (q_runV (t := 90) (i := 0) (As := [.int x_20]) (rest := [.int x_26]) C hU (c_X1_goingOnTimesChosen_x hG x_20 ) vm_X1_goingOnTimesChosen ml_X11_318 k_90.1 (hc := rfl) rfl (h1_90 hG) hl.1 rfl rfl (Nat.le_of_ble_eq_true rfl) dX11_good_97 rfl rfl ⟨Nat.le_of_ble_eq_true rfl, Nat.le_of_ble_eq_true rfl⟩ ⟨Nat.le_refl _, Nat.le_refl _⟩) hS (fun x_29 H locs hp_28 hU hS => ?_)
          have h88 := gd_p hp_28 hw g56 g57 hwn hct
          have t88 := congrArg Int32.toInt h88
          refine b_icmp_lt (tgt := 107) hx hb dX11_good_100 (by decide) (fun c_30 => ?_) (fun c_30 => ?_)
          ·
            refine lv_iconst (v := 0) hx hb dX11_good_107 (by decide) ?_
            refine lv_istore (lv' := [(5, .int 0), (4, .int x_20), (3, .ref (al.2 88 j_5)), (0, .ref (al.2 49 0)), (1, .int cl), (2, .int v)]) hx hb dX11_good_108 hl (by decide) rfl (fun ls hl => ?_)
            refine lv_iload hx hb dX11_good_110 (lv_at hl 0 rfl) ?_
            refine b_if_eq (tgt := 119) hx hb dX11_good_112 (by decide) (fun c_31 => ?_) (fun c_31 => ?_)
            ·
              refine lv_iconst (v := 0) hx hb dX11_good_119 (by decide) ?_
              exact hret (⟨hG, hF1, hF2, Or.inr (Or.inr (Or.inr ⟨by omega, by omega, a_, _, hq0, hLK, by unfold gdF; first | (rw [if_pos (by omega), if_neg (by omega)]; done) | (rw [if_pos (by omega), if_pos (by omega)]; done) | (rw [if_neg (by omega), if_neg (by omega)]; done) | (rw [if_neg (by omega), if_pos (by omega)]; done)⟩))⟩) hU hS dX11_good_120
            ·
              refine lv_iconst (v := 1) hx hb dX11_good_115 (by decide) ?_
              refine lv_goto (tgt := 120) hx hb dX11_good_116 (by decide) ?_
              exact hret (⟨hG, hF1, hF2, Or.inr (Or.inr (Or.inr ⟨by omega, by omega, a_, _, hq0, hLK, by unfold gdF; first | (rw [if_pos (by omega), if_neg (by omega)]; done) | (rw [if_pos (by omega), if_pos (by omega)]; done) | (rw [if_neg (by omega), if_neg (by omega)]; done) | (rw [if_neg (by omega), if_pos (by omega)]; done)⟩))⟩) hU hS dX11_good_120
          ·
            refine lv_iconst (v := 1) hx hb dX11_good_103 (by decide) ?_
            refine lv_goto (tgt := 108) hx hb dX11_good_104 (by decide) ?_
            refine lv_istore (lv' := [(5, .int 1), (4, .int x_20), (3, .ref (al.2 88 j_5)), (0, .ref (al.2 49 0)), (1, .int cl), (2, .int v)]) hx hb dX11_good_108 hl (by decide) rfl (fun ls hl => ?_)
            refine lv_iload hx hb dX11_good_110 (lv_at hl 0 rfl) ?_
            refine b_if_eq (tgt := 119) hx hb dX11_good_112 (by decide) (fun c_32 => ?_) (fun c_32 => ?_)
            ·
              refine lv_iconst (v := 0) hx hb dX11_good_119 (by decide) ?_
              exact hret (⟨hG, hF1, hF2, Or.inr (Or.inr (Or.inr ⟨by omega, by omega, a_, _, hq0, hLK, by unfold gdF; first | (rw [if_pos (by omega), if_neg (by omega)]; done) | (rw [if_pos (by omega), if_pos (by omega)]; done) | (rw [if_neg (by omega), if_neg (by omega)]; done) | (rw [if_neg (by omega), if_pos (by omega)]; done)⟩))⟩) hU hS dX11_good_120
            ·
              refine lv_iconst (v := 1) hx hb dX11_good_115 (by decide) ?_
              refine lv_goto (tgt := 120) hx hb dX11_good_116 (by decide) ?_
              exact hret (⟨hG, hF1, hF2, Or.inr (Or.inr (Or.inr ⟨by omega, by omega, a_, _, hq0, hLK, by unfold gdF; first | (rw [if_pos (by omega), if_neg (by omega)]; done) | (rw [if_pos (by omega), if_pos (by omega)]; done) | (rw [if_neg (by omega), if_neg (by omega)]; done) | (rw [if_neg (by omega), if_pos (by omega)]; done)⟩))⟩) hU hS dX11_good_120
        ·
          refine lv_iload_n hx hb dX11_good_66 rfl (lv_at hl 4 rfl) ?_
          refine lv_iconst (v := 2) hx hb dX11_good_67 (by decide) ?_
          refine lv_imul hx hb dX11_good_68 ?_
          refine lv_topi (fun x_33 e_34 => ?_)
          have te_34 : x_33.toInt = 2 * (v : Int32).toInt := by rw [e_34, fb_mulI (by rw [show (2 : Int32).toInt = 2 from by decide]; omega) (by rw [show (2 : Int32).toInt = 2 from by decide]; omega), show (2 : Int32).toInt = 2 from by decide]; omega
          have t59 := congrArg Int32.toInt e_34
          refine lv_iload hx hb dX11_good_69 (lv_at hl 0 rfl) ?_
          refine b_icmp_lt (tgt := 78) hx hb dX11_good_71 (by decide) (fun c_35 => ?_) (fun c_35 => ?_)
          ·
            refine lv_iconst (v := 0) hx hb dX11_good_78 (by decide) ?_
            refine lv_goto (tgt := 108) hx hb dX11_good_79 (by decide) ?_
            refine lv_istore (lv' := [(5, .int 0), (4, .int x_20), (3, .ref (al.2 88 j_5)), (0, .ref (al.2 49 0)), (1, .int cl), (2, .int v)]) hx hb dX11_good_108 hl (by decide) rfl (fun ls hl => ?_)
            refine lv_iload hx hb dX11_good_110 (lv_at hl 0 rfl) ?_
            refine b_if_eq (tgt := 119) hx hb dX11_good_112 (by decide) (fun c_36 => ?_) (fun c_36 => ?_)
            ·
              refine lv_iconst (v := 0) hx hb dX11_good_119 (by decide) ?_
              exact hret (⟨hG, hF1, hF2, Or.inr (Or.inr (Or.inr ⟨by omega, by omega, a_, _, hq0, hLK, by unfold gdF; first | (rw [if_pos (by omega), if_neg (by omega)]; done) | (rw [if_pos (by omega), if_pos (by omega)]; done) | (rw [if_neg (by omega), if_neg (by omega)]; done) | (rw [if_neg (by omega), if_pos (by omega)]; done)⟩))⟩) hU hS dX11_good_120
            ·
              refine lv_iconst (v := 1) hx hb dX11_good_115 (by decide) ?_
              refine lv_goto (tgt := 120) hx hb dX11_good_116 (by decide) ?_
              exact hret (⟨hG, hF1, hF2, Or.inr (Or.inr (Or.inr ⟨by omega, by omega, a_, _, hq0, hLK, by unfold gdF; first | (rw [if_pos (by omega), if_neg (by omega)]; done) | (rw [if_pos (by omega), if_pos (by omega)]; done) | (rw [if_neg (by omega), if_neg (by omega)]; done) | (rw [if_neg (by omega), if_pos (by omega)]; done)⟩))⟩) hU hS dX11_good_120
          ·
            refine lv_iconst (v := 1) hx hb dX11_good_74 (by decide) ?_
            refine lv_goto (tgt := 108) hx hb dX11_good_75 (by decide) ?_
            refine lv_istore (lv' := [(5, .int 1), (4, .int x_20), (3, .ref (al.2 88 j_5)), (0, .ref (al.2 49 0)), (1, .int cl), (2, .int v)]) hx hb dX11_good_108 hl (by decide) rfl (fun ls hl => ?_)
            refine lv_iload hx hb dX11_good_110 (lv_at hl 0 rfl) ?_
            refine b_if_eq (tgt := 119) hx hb dX11_good_112 (by decide) (fun c_37 => ?_) (fun c_37 => ?_)
            ·
              refine lv_iconst (v := 0) hx hb dX11_good_119 (by decide) ?_
              exact hret (⟨hG, hF1, hF2, Or.inr (Or.inr (Or.inr ⟨by omega, by omega, a_, _, hq0, hLK, by unfold gdF; first | (rw [if_pos (by omega), if_neg (by omega)]; done) | (rw [if_pos (by omega), if_pos (by omega)]; done) | (rw [if_neg (by omega), if_neg (by omega)]; done) | (rw [if_neg (by omega), if_pos (by omega)]; done)⟩))⟩) hU hS dX11_good_120
            ·
              refine lv_iconst (v := 1) hx hb dX11_good_115 (by decide) ?_
              refine lv_goto (tgt := 120) hx hb dX11_good_116 (by decide) ?_
              exact hret (⟨hG, hF1, hF2, Or.inr (Or.inr (Or.inr ⟨by omega, by omega, a_, _, hq0, hLK, by unfold gdF; first | (rw [if_pos (by omega), if_neg (by omega)]; done) | (rw [if_pos (by omega), if_pos (by omega)]; done) | (rw [if_neg (by omega), if_neg (by omega)]; done) | (rw [if_neg (by omega), if_pos (by omega)]; done)⟩))⟩) hU hS dX11_good_120
      ·
        refine lv_aload_n hx hb dX11_good_37 rfl (lv_at hl 1 rfl) ?_
        refine lv_bipush (v := (-6)) hx hb dX11_good_38 (by decide) ?_
        refine q_fi (q_runV (t := 49) (i := 0) (As := [.int (-6)]) (rest := []) C hU (c_X11_refuse hG (-6) (by omega)) vm_X11_refuse ml_X11_77 k_49.1 (hc := rfl) rfl (h1_49 hG) hl.1 rfl rfl (Nat.le_of_ble_eq_true rfl) dX11_good_40 rfl rfl ⟨Nat.le_of_ble_eq_true rfl, Nat.le_of_ble_eq_true rfl⟩ ⟨Nat.le_refl _, Nat.le_refl _⟩) hS (fun x_43 iv_39 rv_40 H locs hG fa_41 fb_42 hp_38 hU hS => ?_)
        have hF1 := hF1.tr (m := ([51, 59, 60, 61, 97], [(90, 8), (90, 9), (90, 10)])) fa_41 (by decide)
        have hF2 := hF2.tr (m := ([51, 59, 60, 61, 97], [(90, 8), (90, 9), (90, 10)])) fb_42 (by decide)
        exact hret (⟨hG, hF1, hF2, Or.inr (Or.inr (Or.inl ⟨by omega, by omega, hp_38⟩))⟩) hU hS dX11_good_43
    ·
      refine lv_aload_n hx hb dX11_good_23 rfl (lv_at hl 1 rfl) ?_
      refine lv_bipush (v := (-4)) hx hb dX11_good_24 (by decide) ?_
      refine q_fi (q_runV (t := 49) (i := 0) (As := [.int (-4)]) (rest := []) C hU (c_X11_refuse hG (-4) (by omega)) vm_X11_refuse ml_X11_77 k_49.1 (hc := rfl) rfl (h1_49 hG) hl.1 rfl rfl (Nat.le_of_ble_eq_true rfl) dX11_good_26 rfl rfl ⟨Nat.le_of_ble_eq_true rfl, Nat.le_of_ble_eq_true rfl⟩ ⟨Nat.le_refl _, Nat.le_refl _⟩) hS (fun x_49 iv_45 rv_46 H locs hG fa_47 fb_48 hp_44 hU hS => ?_)
      have hF1 := hF1.tr (m := ([51, 59, 60, 61, 97], [(90, 8), (90, 9), (90, 10)])) fa_47 (by decide)
      have hF2 := hF2.tr (m := ([51, 59, 60, 61, 97], [(90, 8), (90, 9), (90, 10)])) fb_48 (by decide)
      exact hret (⟨hG, hF1, hF2, Or.inr (Or.inl ⟨by omega, by omega, hp_44⟩)⟩) hU hS dX11_good_29
  ·
    subst ej_6
    have hl : lv_has ls 6 [(3, rfv al 88 none), (0, .ref (al.2 49 0)), (1, .int cl), (2, .int v)] := hl
    have hq3 := hp_1.2.2 rfl
    refine lv_aload_n hx hb dX11_good_13 rfl (lv_at hl 1 rfl) ?_
    refine lv_iconst (v := (-1)) hx hb dX11_good_14 (by decide) ?_
    refine q_fi (q_runV (t := 49) (i := 0) (As := [.int (-1)]) (rest := []) C hU (c_X11_refuse hG (-1) (by omega)) vm_X11_refuse ml_X11_77 k_49.1 (hc := rfl) rfl (h1_49 hG) hl.1 rfl rfl (Nat.le_of_ble_eq_true rfl) dX11_good_15 rfl rfl ⟨Nat.le_of_ble_eq_true rfl, Nat.le_of_ble_eq_true rfl⟩ ⟨Nat.le_refl _, Nat.le_refl _⟩) hS (fun x_55 iv_51 rv_52 H locs hG fa_53 fb_54 hp_50 hU hS => ?_)
    have hF1 := hF1.tr (m := ([51, 59, 60, 61, 97], [(90, 8), (90, 9), (90, 10)])) fa_53 (by decide)
    have hF2 := hF2.tr (m := ([51, 59, 60, 61, 97], [(90, 8), (90, 9), (90, 10)])) fb_54 (by decide)
    exact hret (⟨hG, hF1, hF2, Or.inl ⟨by omega, hp_50⟩⟩) hU hS dX11_good_18
