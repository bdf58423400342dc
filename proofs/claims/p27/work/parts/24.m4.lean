set_option maxHeartbeats 4000000 in
set_option maxRecDepth 100000 in
theorem c_X12_firstLeg {l : Launch} {D : va_G} {cA : FieldType → ClassId} {sz : Nat} {al : Al} {iv : Iv} {rv : Rv} (hG : GI al iv rv) (tt : Int32) (pre0 : 0 ≤ tt.toInt ∧ tt.toInt < (iv 0 0 20).toInt) : Met l yX12_firstLeg (wd yX12_firstLeg cX12_firstLeg 2 (some .int)) (rm 0) (PcW D cA sz al iv rv [.ref (al.2 0 0), .int tt]) (QI D cA sz al (pI iv rv (fun r => (0 ≤ r.toInt ∧ r.toInt ≤ 39) ∧ (True)))) 0 0 (Aq sz) := by
  refine mk_i (by decide) (Nat.le_of_ble_eq_true rfl) rfl ?_
  intro p e s m args below meth c ls Q H locs C hU hS hl hret
  have hx := C.1.1
  have hb := C.1.2.1
  have hl : lv_has ls 2 [(0, .ref (al.2 0 0)), (1, .int tt)] := hl
  have hG0 := hG
  have h6 := le6 hG
  have h20 := le20 hG
  have h41 := le41 hG
  have h20 := le20 hG
  have k4 : (4 : Int32).toInt = 4 := by decide
  refine lv_aload_n hx hb dX12_firstLeg_0 rfl (lv_at hl 0 rfl) ?_
  refine g_0_21 C hU hG (h1_0 hG) fl_X12_62 dX12_firstLeg_1 ?_
  refine lv_iconst (v := 4) hx hb dX12_firstLeg_4 (by decide) ?_
  refine lv_iload_n hx hb dX12_firstLeg_5 rfl (lv_at hl 1 rfl) ?_
  refine lv_imul hx hb dX12_firstLeg_6 ?_
  refine lv_topi (fun x_1 e_2 => ?_)
  have te_2 : x_1.toInt = 4 * (tt : Int32).toInt := by rw [e_2, fb_mulI (by rw [show (4 : Int32).toInt = 4 from by decide]; omega) (by rw [show (4 : Int32).toInt = 4 from by decide]; omega), show (4 : Int32).toInt = 4 from by decide]
  refine a_18 C hU hG (h1_18 hG) (x := x_1) (by omega) (by omega) dX12_firstLeg_7 (fun x_3 e_4 le_4 ue_4 => ?_)
  have te_4 := congrArg Int32.toInt e_4
  exact hret (⟨rfl, rfl, ⟨⟨by omega, by omega⟩, trivial⟩⟩) hU hS dX12_firstLeg_8
set_option maxHeartbeats 4000000 in
set_option maxRecDepth 100000 in
theorem c_X12_lastLeg {l : Launch} {D : va_G} {cA : FieldType → ClassId} {sz : Nat} {al : Al} {iv : Iv} {rv : Rv} (hG : GI al iv rv) (tt : Int32) (pre0 : 0 ≤ tt.toInt ∧ tt.toInt < (iv 0 0 20).toInt) : Met l yX12_lastLeg (wd yX12_lastLeg cX12_lastLeg 2 (some .int)) (rm 0) (PcW D cA sz al iv rv [.ref (al.2 0 0), .int tt]) (QI D cA sz al (pI iv rv (fun r => (0 ≤ r.toInt ∧ r.toInt ≤ 39) ∧ (True)))) 0 0 (Aq sz) := by
  refine mk_i (by decide) (Nat.le_of_ble_eq_true rfl) rfl ?_
  intro p e s m args below meth c ls Q H locs C hU hS hl hret
  have hx := C.1.1
  have hb := C.1.2.1
  have hl : lv_has ls 2 [(0, .ref (al.2 0 0)), (1, .int tt)] := hl
  have hG0 := hG
  have h6 := le6 hG
  have h20 := le20 hG
  have h41 := le41 hG
  have h20 := le20 hG
  have hq := rm1 hG pre0.1 pre0.2
  have k1 : (1 : Int32).toInt = 1 := by decide
  have k4 : (4 : Int32).toInt = 4 := by decide
  refine lv_aload_n hx hb dX12_lastLeg_0 rfl (lv_at hl 0 rfl) ?_
  refine g_0_21 C hU hG (h1_0 hG) fl_X12_62 dX12_lastLeg_1 ?_
  refine lv_iconst (v := 4) hx hb dX12_lastLeg_4 (by decide) ?_
  refine lv_iload_n hx hb dX12_lastLeg_5 rfl (lv_at hl 1 rfl) ?_
  refine lv_imul hx hb dX12_lastLeg_6 ?_
  refine lv_topi (fun x_1 e_2 => ?_)
  have te_2 : x_1.toInt = 4 * (tt : Int32).toInt := by rw [e_2, fb_mulI (by rw [show (4 : Int32).toInt = 4 from by decide]; omega) (by rw [show (4 : Int32).toInt = 4 from by decide]; omega), show (4 : Int32).toInt = 4 from by decide]
  refine lv_aload_n hx hb dX12_lastLeg_7 rfl (lv_at hl 0 rfl) ?_
  refine g_0_22 C hU hG (h1_0 hG) fl_X12_65 dX12_lastLeg_8 ?_
  refine lv_iload_n hx hb dX12_lastLeg_11 rfl (lv_at hl 1 rfl) ?_
  refine a_19 C hU hG (h1_19 hG) (x := tt) (by omega) (by omega) dX12_lastLeg_12 (fun x_3 e_4 le_4 ue_4 => ?_)
  have te_4 := congrArg Int32.toInt e_4
  refine lv_iadd hx hb dX12_lastLeg_13 ?_
  refine lv_topi (fun x_5 e_6 => ?_)
  have te_6 : x_5.toInt = (x_1 : Int32).toInt + (x_3 : Int32).toInt := by rw [e_6]; exact fb_addI (by omega) (by omega)
  refine lv_iconst (v := 1) hx hb dX12_lastLeg_14 (by decide) ?_
  refine lv_isub hx hb dX12_lastLeg_15 ?_
  refine lv_topi (fun x_7 e_8 => ?_)
  have te_8 : x_7.toInt = (x_5 : Int32).toInt - (1 : Int32).toInt := by rw [e_8]; exact fb_subI (by omega) (by omega)
  refine a_18 C hU hG (h1_18 hG) (x := x_7) (by omega) (by omega) dX12_lastLeg_16 (fun x_9 e_10 le_10 ue_10 => ?_)
  have te_10 := congrArg Int32.toInt e_10
  exact hret (⟨rfl, rfl, ⟨⟨by omega, by omega⟩, trivial⟩⟩) hU hS dX12_lastLeg_17
set_option maxHeartbeats 4000000 in
set_option maxRecDepth 100000 in
theorem c_X12_missedOf {l : Launch} {D : va_G} {cA : FieldType → ClassId} {sz : Nat} {al : Al} {iv : Iv} {rv : Rv} (hG : GI al iv rv) (tt : Int32) (pre0 : 0 ≤ tt.toInt ∧ tt.toInt < (iv 0 0 20).toInt) : Met l yX12_missedOf (wd yX12_missedOf cX12_missedOf 4 (some .int)) (rm 2) (PcW D cA sz al iv rv [.ref (al.2 0 0), .int tt]) (QI D cA sz al (pI iv rv (fun r => (-1 ≤ r.toInt ∧ r.toInt ≤ 3) ∧ (r.toInt < (iv 19 0 tt.toNatClampNeg).toInt ∧ (0 ≤ r.toInt → (0 < r.toInt ∨ (iv 11 0 (iv 18 0 ((4 : Int32) * tt + r).toNatClampNeg).toNatClampNeg).toInt = 0)))))) 0 0 (Aq sz) := by
  refine mk_i (by decide) (Nat.le_of_ble_eq_true rfl) rfl ?_
  intro p e s m args below meth c ls Q H locs C hU hS hl hret
  have hx := C.1.1
  have hb := C.1.2.1
  have hl : lv_has ls 4 [(0, .ref (al.2 0 0)), (1, .int tt)] := hl
  have hG0 := hG
  have h6 := le6 hG
  have h20 := le20 hG
  have h41 := le41 hG
  have h20 := le20 hG
  have km1 : ((-1) : Int32).toInt = -1 := by decide
  have k0 : (0 : Int32).toInt = 0 := by decide
  have k1 : (1 : Int32).toInt = 1 := by decide
  have k2 : (2 : Int32).toInt = 2 := by decide
  have k4 : (4 : Int32).toInt = 4 := by decide
  have hq := rm1 hG pre0.1 pre0.2
  refine lv_iconst (v := 0) hx hb dX12_missedOf_0 (by decide) ?_
  refine lv_istore_n (lv' := [(2, .int 0), (0, .ref (al.2 0 0)), (1, .int tt)]) hx hb dX12_missedOf_1 rfl hl (by decide) rfl (fun ls hl => ?_)
  have J_2 : ∀ (n_2 : Nat) (l2_1 : Int32) (H : Heap) (locs : List Loc) (ls : Array Slot), lv_has ls 4 [(0, .ref (al.2 0 0)), (1, .int tt), (2, .int l2_1)] → UW D cA sz al iv rv H → va_S (Aq sz) s.heap H locs → (0 ≤ l2_1.toInt ∧ l2_1.toInt ≤ 4) → (4 - l2_1.toInt).toNat < n_2 → W p l e (rm 2) s m args below meth c H locs 0 0 Q (F0 m 2 ls []) := by
    intro n_2
    induction n_2 with
    | zero =>
      intro l2_1 H locs ls hl hU hS i2_0 hm_2
      exact absurd hm_2 (Nat.not_lt_zero _)
    | succ n_2 ih_2 =>
      intro l2_1 H locs ls hl hU hS i2_0 hm_2
      refine lv_iload_n hx hb dX12_missedOf_2 rfl (lv_at hl 2 rfl) ?_
      refine lv_aload_n hx hb dX12_missedOf_3 rfl (lv_at hl 0 rfl) ?_
      refine g_0_22 C hU hG (h1_0 hG) fl_X12_65 dX12_missedOf_4 ?_
      refine lv_iload_n hx hb dX12_missedOf_7 rfl (lv_at hl 1 rfl) ?_
      refine a_19 C hU hG (h1_19 hG) (x := tt) (by omega) (by omega) dX12_missedOf_8 (fun x_2 e_3 le_3 ue_3 => ?_)
      have te_3 := congrArg Int32.toInt e_3
      refine b_icmp_ge (tgt := 75) hx hb dX12_missedOf_9 (by decide) (fun c_4 => ?_) (fun c_4 => ?_)
      ·
        refine lv_iconst (v := (-1)) hx hb dX12_missedOf_75 (by decide) ?_
        exact hret (⟨rfl, rfl, ⟨⟨by omega, by omega⟩, ⟨by omega, fun h => by omega⟩⟩⟩) hU hS dX12_missedOf_76
      ·
        refine lv_aload_n hx hb dX12_missedOf_12 rfl (lv_at hl 0 rfl) ?_
        refine g_0_21 C hU hG (h1_0 hG) fl_X12_62 dX12_missedOf_13 ?_
        refine lv_iconst (v := 4) hx hb dX12_missedOf_16 (by decide) ?_
        refine lv_iload_n hx hb dX12_missedOf_17 rfl (lv_at hl 1 rfl) ?_
        refine lv_imul hx hb dX12_missedOf_18 ?_
        refine lv_topi (fun x_5 e_6 => ?_)
        have te_6 : x_5.toInt = 4 * (tt : Int32).toInt := by rw [e_6, fb_mulI (by rw [show (4 : Int32).toInt = 4 from by decide]; omega) (by rw [show (4 : Int32).toInt = 4 from by decide]; omega), show (4 : Int32).toInt = 4 from by decide]
        refine lv_iload_n hx hb dX12_missedOf_19 rfl (lv_at hl 2 rfl) ?_
        refine lv_iadd hx hb dX12_missedOf_20 ?_
        refine lv_topi (fun x_7 e_8 => ?_)
        have te_8 : x_7.toInt = (x_5 : Int32).toInt + (l2_1 : Int32).toInt := by rw [e_8]; exact fb_addI (by omega) (by omega)
        refine a_18 C hU hG (h1_18 hG) (x := x_7) (by omega) (by omega) dX12_missedOf_21 (fun x_9 e_10 le_10 ue_10 => ?_)
        have te_10 := congrArg Int32.toInt e_10
        refine lv_istore_n (lv' := [(3, .int x_9), (0, .ref (al.2 0 0)), (1, .int tt), (2, .int l2_1)]) hx hb dX12_missedOf_22 rfl hl (by decide) rfl (fun ls hl => ?_)
        refine lv_aload_n hx hb dX12_missedOf_23 rfl (lv_at hl 1 rfl) ?_
        refine g_0_13 C hU hG (h1_0 hG) fl_X12_40 dX12_missedOf_24 ?_
        refine lv_iload_n hx hb dX12_missedOf_27 rfl (lv_at hl 0 rfl) ?_
        refine a_11 C hU hG (h1_11 hG) (x := x_9) (by omega) (by omega) dX12_missedOf_28 (fun x_11 e_12 le_12 ue_12 => ?_)
        have te_12 := congrArg Int32.toInt e_12
        refine b_if_eq (tgt := 67) hx hb dX12_missedOf_29 (by decide) (fun c_13 => ?_) (fun c_13 => ?_)
        ·
          refine lv_iload_n hx hb dX12_missedOf_67 rfl (lv_at hl 3 rfl) ?_
          exact hret (⟨rfl, rfl, ⟨⟨by omega, by omega⟩, ⟨by omega, fun h => by first | (left; omega) | (right; have q9 := c_13; simp only [e_3, e_6, e_8, e_10, e_12] at q9; exact q9)⟩⟩⟩) hU hS dX12_missedOf_68
        ·
          refine lv_iload_n hx hb dX12_missedOf_32 rfl (lv_at hl 3 rfl) ?_
          have J_69 : ∀ (H : Heap) (locs : List Loc) (ls : Array Slot), lv_has ls 4 [(0, .ref (al.2 0 0)), (1, .int tt), (2, .int l2_1)] → UW D cA sz al iv rv H → va_S (Aq sz) s.heap H locs → W p l e (rm 2) s m args below meth c H locs 0 0 Q (F0 m 69 ls []) := by
            intro H locs ls hl hU hS
            obtain ⟨x_14, e_15⟩ : ∃ y : Int32, y = l2_1 + 1 := ⟨_, rfl⟩
            have te_15 : x_14.toInt = (l2_1 : Int32).toInt + (1 : Int32).toInt := by rw [e_15]; exact fb_addI (by omega) (by omega)
            refine lv_iinc (v := x_14) (lv' := [(2, .int x_14), (0, .ref (al.2 0 0)), (1, .int tt)]) hx hb dX12_missedOf_69 hl (k := 2) rfl (by rw [e_15]; rfl) (by decide) rfl (fun ls hl => ?_)
            refine lv_goto (tgt := 2) hx hb dX12_missedOf_72 (by decide) ?_
            exact ih_2 x_14 _ _ _ (lv_sub hl [1, 2, 0] rfl) hU hS (by omega) (by omega)
          refine b_if_le (tgt := 69) hx hb dX12_missedOf_33 (by decide) (fun c_16 => ?_) (fun c_16 => ?_)
          ·
            exact J_69 _ _ _ (lv_sub hl [1, 2, 3] rfl) hU hS
          ·
            refine lv_aload_n hx hb dX12_missedOf_36 rfl (lv_at hl 1 rfl) ?_
            refine lv_iload_n hx hb dX12_missedOf_37 rfl (lv_at hl 0 rfl) ?_
            refine q_pi (q_runV (t := 0) (i := 0) (As := [.int x_9]) (rest := []) C hU (c_X12_rightLeave hG x_9 (by omega)) vm_X12_rightLeave ml_X12_193 k_0.1 (hc := rfl) rfl (h1_0 hG) hl.1 rfl rfl (Nat.le_of_ble_eq_true rfl) dX12_missedOf_38 rfl rfl ⟨Nat.le_of_ble_eq_true rfl, Nat.le_of_ble_eq_true rfl⟩ ⟨Nat.le_refl _, Nat.le_refl _⟩) hS (fun x_18 H locs hp_17 hU hS => ?_)
            have q_19 := hp_17.2
            have tq_19 := congrArg Int32.toInt q_19
            refine lv_aload_n hx hb dX12_missedOf_41 rfl (lv_at hl 1 rfl) ?_
            refine lv_aload_n hx hb dX12_missedOf_42 rfl (lv_at hl 1 rfl) ?_
            refine g_0_21 C hU hG (h1_0 hG) fl_X12_62 dX12_missedOf_43 ?_
            refine lv_iconst (v := 4) hx hb dX12_missedOf_46 (by decide) ?_
            refine lv_iload_n hx hb dX12_missedOf_47 rfl (lv_at hl 2 rfl) ?_
            refine lv_imul hx hb dX12_missedOf_48 ?_
            refine lv_topi (fun x_20 e_21 => ?_)
            have te_21 : x_20.toInt = 4 * (tt : Int32).toInt := by rw [e_21, fb_mulI (by rw [show (4 : Int32).toInt = 4 from by decide]; omega) (by rw [show (4 : Int32).toInt = 4 from by decide]; omega), show (4 : Int32).toInt = 4 from by decide]
            refine lv_iload_n hx hb dX12_missedOf_49 rfl (lv_at hl 3 rfl) ?_
            refine lv_iadd hx hb dX12_missedOf_50 ?_
            refine lv_topi (fun x_22 e_23 => ?_)
            have te_23 : x_22.toInt = (x_20 : Int32).toInt + (l2_1 : Int32).toInt := by rw [e_23]; exact fb_addI (by omega) (by omega)
            refine lv_iconst (v := 1) hx hb dX12_missedOf_51 (by decide) ?_
            refine lv_isub hx hb dX12_missedOf_52 ?_
            refine lv_topi (fun x_24 e_25 => ?_)
            have te_25 : x_24.toInt = (x_22 : Int32).toInt - (1 : Int32).toInt := by rw [e_25]; exact fb_subI (by omega) (by omega)
            refine a_18 C hU hG (h1_18 hG) (x := x_24) (by omega) (by omega) dX12_missedOf_53 (fun x_26 e_27 le_27 ue_27 => ?_)
            have te_27 := congrArg Int32.toInt e_27
            refine q_pi (q_runV (t := 0) (i := 0) (As := [.int x_26]) (rest := [.int x_18]) C hU (c_X12_rightArrive hG x_26 (by omega)) vm_X12_rightArrive ml_X12_190 k_0.1 (hc := rfl) rfl (h1_0 hG) hl.1 rfl rfl (Nat.le_of_ble_eq_true rfl) dX12_missedOf_54 rfl rfl ⟨Nat.le_of_ble_eq_true rfl, Nat.le_of_ble_eq_true rfl⟩ ⟨Nat.le_refl _, Nat.le_refl _⟩) hS (fun x_29 H locs hp_28 hU hS => ?_)
            have q_30 := hp_28.2
            have tq_30 := congrArg Int32.toInt q_30
            refine lv_isub hx hb dX12_missedOf_57 ?_
            refine lv_topi (fun x_31 e_32 => ?_)
            have w_33 := fb_rng x_18
            have w_34 := fb_rng x_29
            have te_32 : x_31.toInt = (x_18 : Int32).toInt - (x_29 : Int32).toInt := by rw [e_32]; exact fb_subI (by omega) (by omega)
            refine lv_aload_n hx hb dX12_missedOf_58 rfl (lv_at hl 1 rfl) ?_
            refine g_0_17 C hU hG (h1_0 hG) fl_X12_53 dX12_missedOf_59 ?_
            refine lv_iconst (v := 2) hx hb dX12_missedOf_62 (by decide) ?_
            refine a_15 C hU hG (h1_15 hG) (x := 2) (by omega) (by omega) dX12_missedOf_63 (fun x_35 e_36 le_36 ue_36 => ?_)
            have te_36 := congrArg Int32.toInt e_36
            refine b_icmp_ge (tgt := 69) hx hb dX12_missedOf_64 (by decide) (fun c_37 => ?_) (fun c_37 => ?_)
            ·
              exact J_69 _ _ _ (lv_sub hl [1, 2, 3] rfl) hU hS
            ·
              refine lv_iload_n hx hb dX12_missedOf_67 rfl (lv_at hl 3 rfl) ?_
              exact hret (⟨rfl, rfl, ⟨⟨by omega, by omega⟩, ⟨by omega, fun h => by first | (left; omega) | (right; have q9 := c_13; simp only [e_3, e_6, e_8, e_10, e_12, q_19, e_21, e_23, e_25, e_27, q_30, e_32, e_36] at q9; exact q9)⟩⟩⟩) hU hS dX12_missedOf_68
  exact J_2 _ 0 _ _ _ (lv_sub hl [1, 2, 0] rfl) hU hS (by omega) (Nat.lt_succ_self _)
set_option maxHeartbeats 4000000 in
set_option maxRecDepth 100000 in
theorem c_X12_missed {l : Launch} {D : va_G} {cA : FieldType → ClassId} {sz : Nat} {al : Al} {iv : Iv} {rv : Rv} (hG : GI al iv rv) (tt : Int32) : Met l yX12_missed (wd yX12_missed cX12_missed 3 (some .int)) (rm 3) (PcW D cA sz al iv rv [.ref (al.2 0 0), .int tt]) (QI D cA sz al (fI al ([16], []) iv rv (fun r iv' rv' => True))) 0 0 (Aq sz) := by
  refine mk_i (by decide) (Nat.le_of_ble_eq_true rfl) rfl ?_
  intro p e s m args below meth c ls Q H locs C hU hS hl hret
  have hx := C.1.1
  have hb := C.1.2.1
  have hl : lv_has ls 3 [(0, .ref (al.2 0 0)), (1, .int tt)] := hl
  have hG0 := hG
  have h6 := le6 hG
  have h20 := le20 hG
  have h41 := le41 hG
  have hF1 : FR ([16], []) iv iv := FR.rf
  have hF2 : FR ([16], []) rv rv := FR.rf
  have km9 : ((-9) : Int32).toInt = -9 := by decide
  have km1 : ((-1) : Int32).toInt = -1 := by decide
  refine lv_aload_n hx hb dX12_missed_0 rfl (lv_at hl 0 rfl) ?_
  refine lv_iload_n hx hb dX12_missed_1 rfl (lv_at hl 1 rfl) ?_
  refine q_pi (q_runV (t := 0) (i := 0) (As := [.int tt]) (rest := []) C hU (c_X12_isTraveller hG tt ) vm_X12_isTraveller ml_X12_226 k_0.1 (hc := rfl) rfl (h1_0 hG) hl.1 rfl rfl (Nat.le_of_ble_eq_true rfl) dX12_missed_2 rfl rfl ⟨Nat.le_of_ble_eq_true rfl, Nat.le_of_ble_eq_true rfl⟩ ⟨Nat.le_refl _, Nat.le_refl _⟩) hS (fun x_2 H locs hp_1 hU hS => ?_)
  refine b_if_ne (tgt := 14) hx hb dX12_missed_5 (by decide) (fun c_3 => ?_) (fun c_3 => ?_)
  ·
    refine lv_aload_n hx hb dX12_missed_14 rfl (lv_at hl 0 rfl) ?_
    refine lv_iload_n hx hb dX12_missed_15 rfl (lv_at hl 1 rfl) ?_
    refine q_pi (q_runV (t := 0) (i := 0) (As := [.int tt]) (rest := []) C hU (c_X12_missedOf hG tt (by omega)) vm_X12_missedOf ml_X12_229 k_0.1 (hc := rfl) rfl (h1_0 hG) hl.1 rfl rfl (Nat.le_of_ble_eq_true rfl) dX12_missed_16 rfl rfl ⟨Nat.le_of_ble_eq_true rfl, Nat.le_of_ble_eq_true rfl⟩ ⟨Nat.le_refl _, Nat.le_refl _⟩) hS (fun x_5 H locs hp_4 hU hS => ?_)
    refine lv_istore_n (lv' := [(2, .int x_5), (0, .ref (al.2 0 0)), (1, .int tt)]) hx hb dX12_missed_19 rfl hl (by decide) rfl (fun ls hl => ?_)
    refine lv_iload_n hx hb dX12_missed_20 rfl (lv_at hl 0 rfl) ?_
    refine b_if_ge (tgt := 29) hx hb dX12_missed_21 (by decide) (fun c_6 => ?_) (fun c_6 => ?_)
    ·
      refine lv_iload_n hx hb dX12_missed_29 rfl (lv_at hl 0 rfl) ?_
      exact hret (⟨hG, hF1, hF2, trivial⟩) hU hS dX12_missed_30
    ·
      refine lv_bipush (v := (-9)) hx hb dX12_missed_24 (by decide) ?_
      refine lv_goto (tgt := 30) hx hb dX12_missed_26 (by decide) ?_
      exact hret (⟨hG, hF1, hF2, trivial⟩) hU hS dX12_missed_30
  ·
    refine lv_aload_n hx hb dX12_missed_8 rfl (lv_at hl 0 rfl) ?_
    refine lv_iconst (v := (-1)) hx hb dX12_missed_9 (by decide) ?_
    refine q_fi (q_runV (t := 0) (i := 0) (As := [.int (-1)]) (rest := []) C hU (c_X12_refuse hG (-1) (by omega)) vm_X12_refuse ml_X12_164 k_0.1 (hc := rfl) rfl (h1_0 hG) hl.1 rfl rfl (Nat.le_of_ble_eq_true rfl) dX12_missed_10 rfl rfl ⟨Nat.le_of_ble_eq_true rfl, Nat.le_of_ble_eq_true rfl⟩ ⟨Nat.le_refl _, Nat.le_refl _⟩) hS (fun x_12 iv_8 rv_9 H locs hG fa_10 fb_11 hp_7 hU hS => ?_)
    have hF1 := hF1.tr (m := ([16], [])) fa_10 (by decide)
    have hF2 := hF2.tr (m := ([16], [])) fb_11 (by decide)
    exact hret (⟨hG, hF1, hF2, trivial⟩) hU hS dX12_missed_13
set_option maxHeartbeats 4000000 in
set_option maxRecDepth 100000 in
theorem c_X12_soonestOf {l : Launch} {D : va_G} {cA : FieldType → ClassId} {sz : Nat} {al : Al} {iv : Iv} {rv : Rv} (hG : GI al iv rv) (tt : Int32) (pre0 : 0 ≤ tt.toInt ∧ tt.toInt < (iv 0 0 20).toInt) : Met l yX12_soonestOf (wd yX12_soonestOf cX12_soonestOf 9 (some .int)) (rm 3) (PcW D cA sz al iv rv [.ref (al.2 0 0), .int tt]) (QI D cA sz al (fI al ([20], []) iv rv (fun r iv' rv' => True))) 0 0 (Aq sz) := by
  refine mk_i (by decide) (Nat.le_of_ble_eq_true rfl) rfl ?_
  intro p e s m args below meth c ls Q H locs C hU hS hl hret
  have hx := C.1.1
  have hb := C.1.2.1
  have hl : lv_has ls 9 [(0, .ref (al.2 0 0)), (1, .int tt)] := hl
  have hG0 := hG
  have h6 := le6 hG
  have h20 := le20 hG
  have h41 := le41 hG
  have h20 := le20 hG
  have hF1 : FR ([20], []) iv iv := FR.rf
  have hF2 : FR ([20], []) rv rv := FR.rf
  have km9 : ((-9) : Int32).toInt = -9 := by decide
  have k0 : (0 : Int32).toInt = 0 := by decide
  have k1 : (1 : Int32).toInt = 1 := by decide
  have k2 : (2 : Int32).toInt = 2 := by decide
  have k4 : (4 : Int32).toInt = 4 := by decide
  refine lv_aload_n hx hb dX12_soonestOf_0 rfl (lv_at hl 0 rfl) ?_
  refine lv_iload_n hx hb dX12_soonestOf_1 rfl (lv_at hl 1 rfl) ?_
  refine q_pi (q_runV (t := 0) (i := 0) (As := [.int tt]) (rest := []) C hU (c_X12_missedOf hG tt (by omega)) vm_X12_missedOf ml_X12_229 k_0.1 (hc := rfl) rfl (h1_0 hG) hl.1 rfl rfl (Nat.le_of_ble_eq_true rfl) dX12_soonestOf_2 rfl rfl ⟨Nat.le_of_ble_eq_true rfl, Nat.le_of_ble_eq_true rfl⟩ ⟨Nat.le_refl _, Nat.le_refl _⟩) hS (fun x_2 H locs hp_1 hU hS => ?_)
  refine lv_istore_n (lv' := [(2, .int x_2), (0, .ref (al.2 0 0)), (1, .int tt)]) hx hb dX12_soonestOf_5 rfl hl (by decide) rfl (fun ls hl => ?_)
  refine lv_iload_n hx hb dX12_soonestOf_6 rfl (lv_at hl 0 rfl) ?_
  refine b_if_ge (tgt := 20) hx hb dX12_soonestOf_7 (by decide) (fun c_3 => ?_) (fun c_3 => ?_)
  ·
    refine lv_aload_n hx hb dX12_soonestOf_20 rfl (lv_at hl 1 rfl) ?_
    refine g_0_7 C hU hG (h1_0 hG) fl_X12_22 dX12_soonestOf_21 ?_
    refine lv_aload_n hx hb dX12_soonestOf_24 rfl (lv_at hl 1 rfl) ?_
    refine g_0_21 C hU hG (h1_0 hG) fl_X12_62 dX12_soonestOf_25 ?_
    refine lv_iconst (v := 4) hx hb dX12_soonestOf_28 (by decide) ?_
    refine lv_iload_n hx hb dX12_soonestOf_29 rfl (lv_at hl 2 rfl) ?_
    refine lv_imul hx hb dX12_soonestOf_30 ?_
    refine lv_topi (fun x_4 e_5 => ?_)
    have te_5 : x_4.toInt = 4 * (tt : Int32).toInt := by rw [e_5, fb_mulI (by rw [show (4 : Int32).toInt = 4 from by decide]; omega) (by rw [show (4 : Int32).toInt = 4 from by decide]; omega), show (4 : Int32).toInt = 4 from by decide]
    refine lv_iload_n hx hb dX12_soonestOf_31 rfl (lv_at hl 0 rfl) ?_
    refine lv_iadd hx hb dX12_soonestOf_32 ?_
    refine lv_topi (fun x_6 e_7 => ?_)
    have te_7 : x_6.toInt = (x_4 : Int32).toInt + (x_2 : Int32).toInt := by rw [e_7]; exact fb_addI (by omega) (by omega)
    refine a_18 C hU hG (h1_18 hG) (x := x_6) (by omega) (by omega) dX12_soonestOf_33 (fun x_8 e_9 le_9 ue_9 => ?_)
    have te_9 := congrArg Int32.toInt e_9
    refine a_5 C hU hG (h1_5 hG) (x := x_8) (by omega) (by omega) dX12_soonestOf_34 (fun x_10 e_11 le_11 ue_11 => ?_)
    have te_11 := congrArg Int32.toInt e_11
    refine lv_istore_n (lv' := [(3, .int x_10), (2, .int x_2), (0, .ref (al.2 0 0)), (1, .int tt)]) hx hb dX12_soonestOf_35 rfl hl (by decide) rfl (fun ls hl => ?_)
    refine lv_iload_n hx hb dX12_soonestOf_36 rfl (lv_at hl 1 rfl) ?_
    have J_72 : ∀ (v_12 : Int32) (H : Heap) (locs : List Loc) (ls : Array Slot), lv_has ls 9 [(0, .ref (al.2 0 0)), (1, .int tt), (3, .int x_10)] → UW D cA sz al iv rv H → va_S (Aq sz) s.heap H locs → (0 ≤ v_12.toInt ∧ v_12.toInt ≤ 2147483647) → W p l e (rm 3) s m args below meth c H locs 0 0 Q (F0 m 72 ls [.int v_12]) := by
      intro v_12 H locs ls hl hU hS i72_0
      refine lv_istore (lv' := [(4, .int v_12), (0, .ref (al.2 0 0)), (1, .int tt), (3, .int x_10)]) hx hb dX12_soonestOf_72 hl (by decide) rfl (fun ls hl => ?_)
      refine lv_iconst (v := 0) hx hb dX12_soonestOf_74 (by decide) ?_
      refine lv_istore (lv' := [(5, .int 0), (4, .int v_12), (0, .ref (al.2 0 0)), (1, .int tt), (3, .int x_10)]) hx hb dX12_soonestOf_75 hl (by decide) rfl (fun ls hl => ?_)
      have J_77 : ∀ (n_77 : Nat) (l5_13 : Int32) (iv_14 : Iv) (rv_15 : Rv) (H : Heap) (locs : List Loc) (ls : Array Slot), lv_has ls 9 [(0, .ref (al.2 0 0)), (1, .int tt), (3, .int x_10), (4, .int v_12), (5, .int l5_13)] → GI al iv_14 rv_15 → FR ([20], []) iv iv_14 → FR ([20], []) rv rv_15 → UW D cA sz al iv_14 rv_15 H → va_S (Aq sz) s.heap H locs → (0 ≤ l5_13.toInt ∧ l5_13.toInt ≤ 40) → (40 - l5_13.toInt).toNat < n_77 → W p l e (rm 3) s m args below meth c H locs 0 0 Q (F0 m 77 ls []) := by
        intro n_77
        induction n_77 with
        | zero =>
          intro l5_13 iv_14 rv_15 H locs ls hl hG hF1 hF2 hU hS i77_0 hm_77
          exact absurd hm_77 (Nat.not_lt_zero _)
        | succ n_77 ih_77 =>
          intro l5_13 iv_14 rv_15 H locs ls hl hG hF1 hF2 hU hS i77_0 hm_77
          have kf_16 := congrArg Int32.toInt (hF1 0 0 20 (by decide))
          refine lv_iload hx hb dX12_soonestOf_77 (lv_at hl 4 rfl) ?_
          refine lv_aload_n hx hb dX12_soonestOf_79 rfl (lv_at hl 0 rfl) ?_
          refine g_0_6 C hU hG (h1_0 hG) fl_X12_160 dX12_soonestOf_80 (fun x_17 e_18 le_18 ue_18 => ?_)
          have te_18 := congrArg Int32.toInt e_18
          have ne_18 : x_17.toInt = (iv 0 0 6).toInt := by rw [e_18, hF1 0 0 6 (by decide)]
          refine b_icmp_ge (tgt := 136) hx hb dX12_soonestOf_83 (by decide) (fun c_19 => ?_) (fun c_19 => ?_)
          ·
            refine lv_iconst (v := 1) hx hb dX12_soonestOf_136 (by decide) ?_
            refine lv_istore (lv' := [(5, .int 1), (0, .ref (al.2 0 0)), (1, .int tt), (3, .int x_10), (4, .int v_12)]) hx hb dX12_soonestOf_137 hl (by decide) rfl (fun ls hl => ?_)
            have J_139 : ∀ (n_139 : Nat) (l5_20 : Int32) (iv_21 : Iv) (rv_22 : Rv) (H : Heap) (locs : List Loc) (ls : Array Slot), lv_has ls 9 [(0, .ref (al.2 0 0)), (1, .int tt), (5, .int l5_20)] → GI al iv_21 rv_22 → FR ([20], []) iv iv_21 → FR ([20], []) rv rv_22 → UW D cA sz al iv_21 rv_22 H → va_S (Aq sz) s.heap H locs → (0 ≤ l5_20.toInt ∧ l5_20.toInt ≤ 1) → 2 * ctU iv_21 40 + l5_20.toInt.toNat < n_139 → W p l e (rm 3) s m args below meth c H locs 0 0 Q (F0 m 139 ls []) := by
              intro n_139
              induction n_139 with
              | zero =>
                intro l5_20 iv_21 rv_22 H locs ls hl hG hF1 hF2 hU hS i139_0 hm_139
                exact absurd hm_139 (Nat.not_lt_zero _)
              | succ n_139 ih_139 =>
                intro l5_20 iv_21 rv_22 H locs ls hl hG hF1 hF2 hU hS i139_0 hm_139
                have kf_23 := congrArg Int32.toInt (hF1 0 0 20 (by decide))
                refine lv_iload hx hb dX12_soonestOf_139 (lv_at hl 2 rfl) ?_
                refine b_if_eq (tgt := 306) hx hb dX12_soonestOf_141 (by decide) (fun c_24 => ?_) (fun c_24 => ?_)
                ·
                  refine lv_bipush (v := (-9)) hx hb dX12_soonestOf_306 (by decide) ?_
                  refine lv_istore (lv' := [(6, .int (-9)), (0, .ref (al.2 0 0)), (1, .int tt), (5, .int l5_20)]) hx hb dX12_soonestOf_308 hl (by decide) rfl (fun ls hl => ?_)
                  refine lv_iconst (v := 0) hx hb dX12_soonestOf_310 (by decide) ?_
                  refine lv_istore (lv' := [(7, .int 0), (6, .int (-9)), (0, .ref (al.2 0 0)), (1, .int tt), (5, .int l5_20)]) hx hb dX12_soonestOf_311 hl (by decide) rfl (fun ls hl => ?_)
                  have J_313 : ∀ (n_313 : Nat) (l6_25 : Int32) (l7_26 : Int32) (H : Heap) (locs : List Loc) (ls : Array Slot), lv_has ls 9 [(0, .ref (al.2 0 0)), (1, .int tt), (6, .int l6_25), (7, .int l7_26)] → UW D cA sz al iv_21 rv_22 H → va_S (Aq sz) s.heap H locs → (0 ≤ l7_26.toInt ∧ l7_26.toInt ≤ 40) → (40 - l7_26.toInt).toNat < n_313 → W p l e (rm 3) s m args below meth c H locs 0 0 Q (F0 m 313 ls []) := by
                    intro n_313
                    induction n_313 with
                    | zero =>
                      intro l6_25 l7_26 H locs ls hl hU hS i313_0 hm_313
                      exact absurd hm_313 (Nat.not_lt_zero _)
                    | succ n_313 ih_313 =>
                      intro l6_25 l7_26 H locs ls hl hU hS i313_0 hm_313
                      refine lv_iload hx hb dX12_soonestOf_313 (lv_at hl 3 rfl) ?_
                      refine lv_aload_n hx hb dX12_soonestOf_315 rfl (lv_at hl 0 rfl) ?_
                      refine g_0_6 C hU hG (h1_0 hG) fl_X12_160 dX12_soonestOf_316 (fun x_27 e_28 le_28 ue_28 => ?_)
                      have te_28 := congrArg Int32.toInt e_28
                      have ne_28 : x_27.toInt = (iv 0 0 6).toInt := by rw [e_28, hF1 0 0 6 (by decide)]
                      refine b_icmp_ge (tgt := 399) hx hb dX12_soonestOf_319 (by decide) (fun c_29 => ?_) (fun c_29 => ?_)
                      ·
                        refine lv_iload hx hb dX12_soonestOf_399 (lv_at hl 2 rfl) ?_
                        exact hret (⟨hG, hF1, hF2, trivial⟩) hU hS dX12_soonestOf_401
                      ·
                        refine lv_aload_n hx hb dX12_soonestOf_322 rfl (lv_at hl 0 rfl) ?_
                        refine g_0_23 C hU hG (h1_0 hG) fl_X12_68 dX12_soonestOf_323 ?_
                        refine lv_iload hx hb dX12_soonestOf_326 (lv_at hl 3 rfl) ?_
                        refine a_20 C hU hG (h1_20 hG) (x := l7_26) (by omega) (by omega) dX12_soonestOf_328 (fun x_30 e_31 le_31 ue_31 => ?_)
                        have te_31 := congrArg Int32.toInt e_31
                        have J_357 : ∀ (v_32 : Int32) (H : Heap) (locs : List Loc) (ls : Array Slot), lv_has ls 9 [(0, .ref (al.2 0 0)), (1, .int tt), (6, .int l6_25), (7, .int l7_26)] → UW D cA sz al iv_21 rv_22 H → va_S (Aq sz) s.heap H locs → (0 ≤ v_32.toInt ∧ v_32.toInt ≤ 1) → W p l e (rm 3) s m args below meth c H locs 0 0 Q (F0 m 357 ls [.int v_32]) := by
                          intro v_32 H locs ls hl hU hS i357_0
                          refine lv_istore (lv' := [(8, .int v_32), (0, .ref (al.2 0 0)), (1, .int tt), (6, .int l6_25), (7, .int l7_26)]) hx hb dX12_soonestOf_357 hl (by decide) rfl (fun ls hl => ?_)
                          refine lv_iload hx hb dX12_soonestOf_359 (lv_at hl 0 rfl) ?_
                          have J_391 : ∀ (v_33 : Int32) (H : Heap) (locs : List Loc) (ls : Array Slot), lv_has ls 9 [(0, .ref (al.2 0 0)), (1, .int tt), (7, .int l7_26)] → UW D cA sz al iv_21 rv_22 H → va_S (Aq sz) s.heap H locs → W p l e (rm 3) s m args below meth c H locs 0 0 Q (F0 m 391 ls [.int v_33]) := by
                            intro v_33 H locs ls hl hU hS
                            refine lv_istore (lv' := [(6, .int v_33), (0, .ref (al.2 0 0)), (1, .int tt), (7, .int l7_26)]) hx hb dX12_soonestOf_391 hl (by decide) rfl (fun ls hl => ?_)
                            obtain ⟨x_34, e_35⟩ : ∃ y : Int32, y = l7_26 + 1 := ⟨_, rfl⟩
                            have te_35 : x_34.toInt = (l7_26 : Int32).toInt + (1 : Int32).toInt := by rw [e_35]; exact fb_addI (by omega) (by omega)
                            refine lv_iinc (v := x_34) (lv' := [(7, .int x_34), (6, .int v_33), (0, .ref (al.2 0 0)), (1, .int tt)]) hx hb dX12_soonestOf_393 hl (k := 3) rfl (by rw [e_35]; rfl) (by decide) rfl (fun ls hl => ?_)
                            refine lv_goto (tgt := 313) hx hb dX12_soonestOf_396 (by decide) ?_
                            exact ih_313 v_33 x_34 _ _ _ (lv_sub hl [2, 3, 1, 0] rfl) hU hS (by omega) (by omega)
                          have J_389 : ∀ (H : Heap) (locs : List Loc) (ls : Array Slot), lv_has ls 9 [(0, .ref (al.2 0 0)), (1, .int tt), (6, .int l6_25), (7, .int l7_26)] → UW D cA sz al iv_21 rv_22 H → va_S (Aq sz) s.heap H locs → W p l e (rm 3) s m args below meth c H locs 0 0 Q (F0 m 389 ls []) := by
                            intro H locs ls hl hU hS
                            refine lv_iload hx hb dX12_soonestOf_389 (lv_at hl 2 rfl) ?_
                            exact J_391 l6_25 _ _ _ (lv_sub hl [0, 1, 3] rfl) hU hS
                          refine b_if_eq (tgt := 389) hx hb dX12_soonestOf_361 (by decide) (fun c_36 => ?_) (fun c_36 => ?_)
                          ·
                            exact J_389 _ _ _ (lv_sub hl [1, 2, 3, 4] rfl) hU hS
                          ·
                            refine lv_iload hx hb dX12_soonestOf_364 (lv_at hl 3 rfl) ?_
                            have J_380 : ∀ (H : Heap) (locs : List Loc) (ls : Array Slot), lv_has ls 9 [(0, .ref (al.2 0 0)), (1, .int tt), (7, .int l7_26)] → UW D cA sz al iv_21 rv_22 H → va_S (Aq sz) s.heap H locs → W p l e (rm 3) s m args below meth c H locs 0 0 Q (F0 m 380 ls []) := by
                              intro H locs ls hl hU hS
                              refine lv_aload_n hx hb dX12_soonestOf_380 rfl (lv_at hl 0 rfl) ?_
                              refine lv_iload hx hb dX12_soonestOf_381 (lv_at hl 2 rfl) ?_
                              refine q_pi (q_runV (t := 0) (i := 0) (As := [.int l7_26]) (rest := []) C hU (c_X12_rightArrive hG l7_26 (by omega)) vm_X12_rightArrive ml_X12_190 k_0.1 (hc := rfl) rfl (h1_0 hG) hl.1 rfl rfl (Nat.le_of_ble_eq_true rfl) dX12_soonestOf_383 rfl rfl ⟨Nat.le_of_ble_eq_true rfl, Nat.le_of_ble_eq_true rfl⟩ ⟨Nat.le_refl _, Nat.le_refl _⟩) hS (fun x_38 H locs hp_37 hU hS => ?_)
                              have q_39 := hp_37.2
                              have tq_39 := congrArg Int32.toInt q_39
                              refine lv_goto (tgt := 391) hx hb dX12_soonestOf_386 (by decide) ?_
                              exact J_391 x_38 _ _ _ (lv_sub hl [0, 1, 2] rfl) hU hS
                            refine b_if_lt (tgt := 380) hx hb dX12_soonestOf_366 (by decide) (fun c_40 => ?_) (fun c_40 => ?_)
                            ·
                              exact J_380 _ _ _ (lv_sub hl [1, 2, 4] rfl) hU hS
                            ·
                              refine lv_aload_n hx hb dX12_soonestOf_369 rfl (lv_at hl 1 rfl) ?_
                              refine lv_iload hx hb dX12_soonestOf_370 (lv_at hl 4 rfl) ?_
                              refine q_pi (q_runV (t := 0) (i := 0) (As := [.int l7_26]) (rest := []) C hU (c_X12_rightArrive hG l7_26 (by omega)) vm_X12_rightArrive ml_X12_190 k_0.1 (hc := rfl) rfl (h1_0 hG) hl.1 rfl rfl (Nat.le_of_ble_eq_true rfl) dX12_soonestOf_372 rfl rfl ⟨Nat.le_of_ble_eq_true rfl, Nat.le_of_ble_eq_true rfl⟩ ⟨Nat.le_refl _, Nat.le_refl _⟩) hS (fun x_42 H locs hp_41 hU hS => ?_)
                              have q_43 := hp_41.2
                              have tq_43 := congrArg Int32.toInt q_43
                              refine lv_iload hx hb dX12_soonestOf_375 (lv_at hl 3 rfl) ?_
                              refine b_icmp_ge (tgt := 389) hx hb dX12_soonestOf_377 (by decide) (fun c_44 => ?_) (fun c_44 => ?_)
                              ·
                                exact J_389 _ _ _ (lv_sub hl [1, 2, 3, 4] rfl) hU hS
                              ·
                                exact J_380 _ _ _ (lv_sub hl [1, 2, 4] rfl) hU hS
                        have J_356 : ∀ (H : Heap) (locs : List Loc) (ls : Array Slot), lv_has ls 9 [(0, .ref (al.2 0 0)), (1, .int tt), (6, .int l6_25), (7, .int l7_26)] → UW D cA sz al iv_21 rv_22 H → va_S (Aq sz) s.heap H locs → W p l e (rm 3) s m args below meth c H locs 0 0 Q (F0 m 356 ls []) := by
                          intro H locs ls hl hU hS
                          refine lv_iconst (v := 0) hx hb dX12_soonestOf_356 (by decide) ?_
                          exact J_357 0 _ _ _ (lv_sub hl [0, 1, 2, 3] rfl) hU hS (by omega)
                        refine b_if_eq (tgt := 356) hx hb dX12_soonestOf_329 (by decide) (fun c_45 => ?_) (fun c_45 => ?_)
                        ·
                          exact J_356 _ _ _ (lv_sub hl [0, 1, 2, 3] rfl) hU hS
                        ·
                          refine lv_aload_n hx hb dX12_soonestOf_332 rfl (lv_at hl 0 rfl) ?_
                          refine g_0_8 C hU hG (h1_0 hG) fl_X12_25 dX12_soonestOf_333 ?_
                          refine lv_iload hx hb dX12_soonestOf_336 (lv_at hl 3 rfl) ?_
                          refine a_6 C hU hG (h1_6 hG) (x := l7_26) (by omega) (by omega) dX12_soonestOf_338 (fun x_46 e_47 le_47 ue_47 => ?_)
                          have te_47 := congrArg Int32.toInt e_47
                          have ne_47 : x_46.toInt = (iv 6 0 (l7_26 : Int32).toNatClampNeg).toInt := by rw [e_47, hF1.arr 6 0 (l7_26 : Int32).toNatClampNeg (by decide)]
                          refine lv_aload_n hx hb dX12_soonestOf_339 rfl (lv_at hl 0 rfl) ?_
                          refine g_0_8 C hU hG (h1_0 hG) fl_X12_25 dX12_soonestOf_340 ?_
                          refine lv_aload_n hx hb dX12_soonestOf_343 rfl (lv_at hl 0 rfl) ?_
                          refine lv_iload_n hx hb dX12_soonestOf_344 rfl (lv_at hl 1 rfl) ?_
                          refine q_pi (q_runV (t := 0) (i := 0) (As := [.int tt]) (rest := [.ref (al.2 6 0), .int x_46]) C hU (c_X12_lastLeg hG tt (by omega)) vm_X12_lastLeg ml_X12_232 k_0.1 (hc := rfl) rfl (h1_0 hG) hl.1 rfl rfl (Nat.le_of_ble_eq_true rfl) dX12_soonestOf_345 rfl rfl ⟨Nat.le_of_ble_eq_true rfl, Nat.le_of_ble_eq_true rfl⟩ ⟨Nat.le_refl _, Nat.le_refl _⟩) hS (fun x_49 H locs hp_48 hU hS => ?_)
                          refine a_6 C hU hG (h1_6 hG) (x := x_49) (by omega) (by omega) dX12_soonestOf_348 (fun x_50 e_51 le_51 ue_51 => ?_)
                          have te_51 := congrArg Int32.toInt e_51
                          have ne_51 : x_50.toInt = (iv 6 0 (x_49 : Int32).toNatClampNeg).toInt := by rw [e_51, hF1.arr 6 0 (x_49 : Int32).toNatClampNeg (by decide)]
                          refine b_icmp_ne (tgt := 356) hx hb dX12_soonestOf_349 (by decide) (fun c_52 => ?_) (fun c_52 => ?_)
                          ·
                            exact J_356 _ _ _ (lv_sub hl [0, 1, 2, 3] rfl) hU hS
                          ·
                            refine lv_iconst (v := 1) hx hb dX12_soonestOf_352 (by decide) ?_
                            refine lv_goto (tgt := 357) hx hb dX12_soonestOf_353 (by decide) ?_
                            exact J_357 1 _ _ _ (lv_sub hl [0, 1, 2, 3] rfl) hU hS (by omega)
                  exact J_313 _ (-9) 0 _ _ _ (lv_sub hl [2, 3, 1, 0] rfl) hU hS (by omega) (Nat.lt_succ_self _)
                ·
                  refine lv_iconst (v := 0) hx hb dX12_soonestOf_144 (by decide) ?_
                  refine lv_istore (lv' := [(5, .int 0), (0, .ref (al.2 0 0)), (1, .int tt)]) hx hb dX12_soonestOf_145 hl (by decide) rfl (fun ls hl => ?_)
                  refine lv_iconst (v := 0) hx hb dX12_soonestOf_147 (by decide) ?_
                  refine lv_istore (lv' := [(6, .int 0), (5, .int 0), (0, .ref (al.2 0 0)), (1, .int tt)]) hx hb dX12_soonestOf_148 hl (by decide) rfl (fun ls hl => ?_)
                  have J_150 : ∀ (n_150 : Nat) (l5_53 : Int32) (l6_54 : Int32) (iv_55 : Iv) (rv_56 : Rv) (H : Heap) (locs : List Loc) (ls : Array Slot), lv_has ls 9 [(0, .ref (al.2 0 0)), (1, .int tt), (5, .int l5_53), (6, .int l6_54)] → GI al iv_55 rv_56 → FR ([20], []) iv iv_55 → FR ([20], []) rv rv_56 → UW D cA sz al iv_55 rv_56 H → va_S (Aq sz) s.heap H locs → (0 ≤ l5_53.toInt ∧ l5_53.toInt ≤ 1) → (0 ≤ l6_54.toInt ∧ l6_54.toInt ≤ 40) → ctU iv_55 40 ≤ ctU iv_21 40 → l5_53.toInt = 0 ∨ ctU iv_55 40 < ctU iv_21 40 → (40 - l6_54.toInt).toNat < n_150 → W p l e (rm 3) s m args below meth c H locs 0 0 Q (F0 m 150 ls []) := by
                    intro n_150
                    induction n_150 with
                    | zero =>
                      intro l5_53 l6_54 iv_55 rv_56 H locs ls hl hG hF1 hF2 hU hS i150_0 i150_1 i150_2 i150_3 hm_150
                      exact absurd hm_150 (Nat.not_lt_zero _)
                    | succ n_150 ih_150 =>
                      intro l5_53 l6_54 iv_55 rv_56 H locs ls hl hG hF1 hF2 hU hS i150_0 i150_1 i150_2 i150_3 hm_150
                      have kf_57 := congrArg Int32.toInt (hF1 0 0 20 (by decide))
                      refine lv_iload hx hb dX12_soonestOf_150 (lv_at hl 3 rfl) ?_
                      refine lv_aload_n hx hb dX12_soonestOf_152 rfl (lv_at hl 0 rfl) ?_
                      refine g_0_6 C hU hG (h1_0 hG) fl_X12_160 dX12_soonestOf_153 (fun x_58 e_59 le_59 ue_59 => ?_)
                      have te_59 := congrArg Int32.toInt e_59
                      have ne_59 : x_58.toInt = (iv 0 0 6).toInt := by rw [e_59, hF1 0 0 6 (by decide)]
                      refine b_icmp_ge (tgt := 303) hx hb dX12_soonestOf_156 (by decide) (fun c_60 => ?_) (fun c_60 => ?_)
                      ·
                        refine lv_goto (tgt := 139) hx hb dX12_soonestOf_303 (by decide) ?_
                        exact ih_139 l5_53 _ _ _ _ _ (lv_sub hl [0, 1, 2] rfl) hG hF1 hF2 hU hS (by omega) (by omega)
                      ·
                        refine lv_iconst (v := 0) hx hb dX12_soonestOf_159 (by decide) ?_
                        refine lv_istore (lv' := [(7, .int 0), (0, .ref (al.2 0 0)), (1, .int tt), (5, .int l5_53), (6, .int l6_54)]) hx hb dX12_soonestOf_160 hl (by decide) rfl (fun ls hl => ?_)
                        have J_162 : ∀ (n_162 : Nat) (l5_61 : Int32) (l7_62 : Int32) (iv_63 : Iv) (rv_64 : Rv) (H : Heap) (locs : List Loc) (ls : Array Slot), lv_has ls 9 [(0, .ref (al.2 0 0)), (1, .int tt), (6, .int l6_54), (5, .int l5_61), (7, .int l7_62)] → GI al iv_63 rv_64 → FR ([20], []) iv iv_63 → FR ([20], []) rv rv_64 → UW D cA sz al iv_63 rv_64 H → va_S (Aq sz) s.heap H locs → (0 ≤ l5_61.toInt ∧ l5_61.toInt ≤ 1) → (0 ≤ l7_62.toInt ∧ l7_62.toInt ≤ 40) → ctU iv_63 40 ≤ ctU iv_21 40 → l5_61.toInt = 0 ∨ ctU iv_63 40 < ctU iv_21 40 → (40 - l7_62.toInt).toNat < n_162 → W p l e (rm 3) s m args below meth c H locs 0 0 Q (F0 m 162 ls []) := by
                          intro n_162
                          induction n_162 with
                          | zero =>
                            intro l5_61 l7_62 iv_63 rv_64 H locs ls hl hG hF1 hF2 hU hS i162_0 i162_1 i162_2 i162_3 hm_162
                            exact absurd hm_162 (Nat.not_lt_zero _)
                          | succ n_162 ih_162 =>
                            intro l5_61 l7_62 iv_63 rv_64 H locs ls hl hG hF1 hF2 hU hS i162_0 i162_1 i162_2 i162_3 hm_162
                            have kf_65 := congrArg Int32.toInt (hF1 0 0 20 (by decide))
                            refine lv_iload hx hb dX12_soonestOf_162 (lv_at hl 4 rfl) ?_
                            refine lv_aload_n hx hb dX12_soonestOf_164 rfl (lv_at hl 0 rfl) ?_
                            refine g_0_6 C hU hG (h1_0 hG) fl_X12_160 dX12_soonestOf_165 (fun x_66 e_67 le_67 ue_67 => ?_)
                            have te_67 := congrArg Int32.toInt e_67
                            have ne_67 : x_66.toInt = (iv 0 0 6).toInt := by rw [e_67, hF1 0 0 6 (by decide)]
                            refine b_icmp_ge (tgt := 297) hx hb dX12_soonestOf_168 (by decide) (fun c_68 => ?_) (fun c_68 => ?_)
                            ·
                              obtain ⟨x_69, e_70⟩ : ∃ y : Int32, y = l6_54 + 1 := ⟨_, rfl⟩
                              have te_70 : x_69.toInt = (l6_54 : Int32).toInt + (1 : Int32).toInt := by rw [e_70]; exact fb_addI (by omega) (by omega)
                              refine lv_iinc (v := x_69) (lv' := [(6, .int x_69), (0, .ref (al.2 0 0)), (1, .int tt), (5, .int l5_61), (7, .int l7_62)]) hx hb dX12_soonestOf_297 hl (k := 2) rfl (by rw [e_70]; rfl) (by decide) rfl (fun ls hl => ?_)
                              refine lv_goto (tgt := 150) hx hb dX12_soonestOf_300 (by decide) ?_
                              exact ih_150 l5_61 x_69 _ _ _ _ _ (lv_sub hl [1, 2, 3, 0] rfl) hG hF1 hF2 hU hS (by omega) (by omega) (by omega) (by omega) (by omega)
                            ·
                              refine lv_aload_n hx hb dX12_soonestOf_171 rfl (lv_at hl 0 rfl) ?_
                              refine g_0_23 C hU hG (h1_0 hG) fl_X12_68 dX12_soonestOf_172 ?_
                              refine lv_iload hx hb dX12_soonestOf_175 (lv_at hl 2 rfl) ?_
                              refine a_20 C hU hG (h1_20 hG) (x := l6_54) (by omega) (by omega) dX12_soonestOf_177 (fun x_71 e_72 le_72 ue_72 => ?_)
                              have te_72 := congrArg Int32.toInt e_72
                              have J_245 : ∀ (v_73 : Int32) (H : Heap) (locs : List Loc) (ls : Array Slot), lv_has ls 9 [(0, .ref (al.2 0 0)), (1, .int tt), (5, .int l5_61), (6, .int l6_54), (7, .int l7_62)] → UW D cA sz al iv_63 rv_64 H → va_S (Aq sz) s.heap H locs → (0 ≤ v_73.toInt ∧ v_73.toInt ≤ 1) → (v_73.toInt = 0 ∨ (v_73.toInt = 1 ∧ (iv_63 20 0 l7_62.toNatClampNeg).toInt = 0)) → W p l e (rm 3) s m args below meth c H locs 0 0 Q (F0 m 245 ls [.int v_73]) := by
                                intro v_73 H locs ls hl hU hS i245_0 i245_1
                                refine lv_istore (lv' := [(8, .int v_73), (0, .ref (al.2 0 0)), (1, .int tt), (5, .int l5_61), (6, .int l6_54), (7, .int l7_62)]) hx hb dX12_soonestOf_245 hl (by decide) rfl (fun ls hl => ?_)
                                refine lv_aload_n hx hb dX12_soonestOf_247 rfl (lv_at hl 1 rfl) ?_
                                refine g_0_23 C hU hG (h1_0 hG) fl_X12_68 dX12_soonestOf_248 ?_
                                refine lv_iload hx hb dX12_soonestOf_251 (lv_at hl 5 rfl) ?_
                                refine lv_aload_n hx hb dX12_soonestOf_253 rfl (lv_at hl 1 rfl) ?_
                                refine g_0_23 C hU hG (h1_0 hG) fl_X12_68 dX12_soonestOf_254 ?_
                                refine lv_iload hx hb dX12_soonestOf_257 (lv_at hl 5 rfl) ?_
                                refine a_20 C hU hG (h1_20 hG) (x := l7_62) (by omega) (by omega) dX12_soonestOf_259 (fun x_74 e_75 le_75 ue_75 => ?_)
                                have te_75 := congrArg Int32.toInt e_75
                                have J_273 : ∀ (v_76 : Int32) (ls : Array Slot), lv_has ls 9 [(0, .ref (al.2 0 0)), (1, .int tt), (5, .int l5_61), (6, .int l6_54), (7, .int l7_62), (8, .int v_73)] → (0 ≤ v_76.toInt ∧ v_76.toInt ≤ 1) → ((v_76.toInt = 1 ∧ ((¬ (iv_63 20 0 l7_62.toNatClampNeg).toInt = 0) ∨ (¬ v_73.toInt = 0))) ∨ (v_76.toInt = 0 ∧ (iv_63 20 0 l7_62.toNatClampNeg).toInt = 0 ∧ v_73.toInt = 0)) → W p l e (rm 3) s m args below meth c H locs 0 0 Q (F0 m 273 ls [.int v_76, .int l7_62, .ref (al.2 20 0)]) := by
                                  intro v_76 ls hl i273_0 i273_1
                                  refine s_20 C hU hS (h1_20 hG) (x := l7_62) (by omega) (by omega) (by omega) (by omega) dX12_soonestOf_273 (fun iv_77 H locs ei_78 hU hS => ?_)
                                  have hG : GI al iv_77 rv_64 := by rw [ei_78]; exact hG.puti (show _ ∧ _ from ⟨show (0 : Int) ≤ _ by omega, show _ ≤ (1 : Int) by omega⟩) (nsA (by decide) _)
                                  have hF1 : FR ([20], []) iv iv_77 := by rw [ei_78]; exact hF1.put (Or.inl (by decide))
                                  have kf_79 := congrArg Int32.toInt (show iv_77 0 0 20 = iv_63 0 0 20 by rw [ei_78]; exact up3_ne (fun z => absurd z.1 (by decide)))
                                  have hct := ct_le ei_78 (by omega) (by omega) (by omega)
                                  refine lv_iload hx hb dX12_soonestOf_274 (lv_at hl 2 rfl) ?_
                                  have J_289 : ∀ (v_80 : Int32) (ls : Array Slot), lv_has ls 9 [(0, .ref (al.2 0 0)), (1, .int tt), (6, .int l6_54), (7, .int l7_62)] → (0 ≤ v_80.toInt ∧ v_80.toInt ≤ 1) → ((v_80.toInt = 1 ∧ ((¬ l5_61.toInt = 0) ∨ (¬ v_73.toInt = 0))) ∨ (v_80.toInt = 0 ∧ l5_61.toInt = 0 ∧ v_73.toInt = 0)) → W p l e (rm 3) s m args below meth c H locs 0 0 Q (F0 m 289 ls [.int v_80]) := by
                                    intro v_80 ls hl i289_0 i289_1
                                    refine lv_istore (lv' := [(5, .int v_80), (0, .ref (al.2 0 0)), (1, .int tt), (6, .int l6_54), (7, .int l7_62)]) hx hb dX12_soonestOf_289 hl (by decide) rfl (fun ls hl => ?_)
                                    obtain ⟨x_81, e_82⟩ : ∃ y : Int32, y = l7_62 + 1 := ⟨_, rfl⟩
                                    have te_82 : x_81.toInt = (l7_62 : Int32).toInt + (1 : Int32).toInt := by rw [e_82]; exact fb_addI (by omega) (by omega)
                                    refine lv_iinc (v := x_81) (lv' := [(7, .int x_81), (5, .int v_80), (0, .ref (al.2 0 0)), (1, .int tt), (6, .int l6_54)]) hx hb dX12_soonestOf_291 hl (k := 4) rfl (by rw [e_82]; rfl) (by decide) rfl (fun ls hl => ?_)
                                    refine lv_goto (tgt := 162) hx hb dX12_soonestOf_294 (by decide) ?_
                                    exact ih_162 v_80 x_81 _ _ _ _ _ (lv_sub hl [2, 3, 4, 1, 0] rfl) hG hF1 hF2 hU hS (by omega) (by omega) (by omega) (by omega) (by omega)
                                  have J_284 : ∀ (ls : Array Slot), lv_has ls 9 [(0, .ref (al.2 0 0)), (1, .int tt), (6, .int l6_54), (7, .int l7_62)] → (¬ l5_61.toInt = 0) ∨ (¬ v_73.toInt = 0) → W p l e (rm 3) s m args below meth c H locs 0 0 Q (F0 m 284 ls []) := by
                                    intro ls hl i284_0
                                    refine lv_iconst (v := 1) hx hb dX12_soonestOf_284 (by decide) ?_
                                    refine lv_goto (tgt := 289) hx hb dX12_soonestOf_285 (by decide) ?_
                                    exact J_289 1 _ (lv_sub hl [0, 1, 2, 3] rfl) (by omega) (by omega)
                                  refine b_if_ne (tgt := 284) hx hb dX12_soonestOf_276 (by decide) (fun c_83 => ?_) (fun c_83 => ?_)
                                  ·
                                    exact J_284 _ (lv_sub hl [0, 1, 3, 4] rfl) (by omega)
                                  ·
                                    refine lv_iload hx hb dX12_soonestOf_279 (lv_at hl 5 rfl) ?_
                                    refine b_if_eq (tgt := 288) hx hb dX12_soonestOf_281 (by decide) (fun c_84 => ?_) (fun c_84 => ?_)
                                    ·
                                      refine lv_iconst (v := 0) hx hb dX12_soonestOf_288 (by decide) ?_
                                      exact J_289 0 _ (lv_sub hl [0, 1, 3, 4] rfl) (by omega) (by omega)
                                    ·
                                      exact J_284 _ (lv_sub hl [0, 1, 3, 4] rfl) (by omega)
                                have J_268 : ∀ (ls : Array Slot), lv_has ls 9 [(0, .ref (al.2 0 0)), (1, .int tt), (5, .int l5_61), (6, .int l6_54), (7, .int l7_62), (8, .int v_73)] → (¬ (iv_63 20 0 l7_62.toNatClampNeg).toInt = 0) ∨ (¬ v_73.toInt = 0) → W p l e (rm 3) s m args below meth c H locs 0 0 Q (F0 m 268 ls [.int l7_62, .ref (al.2 20 0)]) := by
                                  intro ls hl i268_0
                                  refine lv_iconst (v := 1) hx hb dX12_soonestOf_268 (by decide) ?_
                                  refine lv_goto (tgt := 273) hx hb dX12_soonestOf_269 (by decide) ?_
                                  exact J_273 1 _ (lv_sub hl [0, 1, 2, 3, 4, 5] rfl) (by omega) (by omega)
                                refine b_if_ne (tgt := 268) hx hb dX12_soonestOf_260 (by decide) (fun c_85 => ?_) (fun c_85 => ?_)
                                ·
                                  exact J_268 _ (lv_sub hl [1, 2, 3, 4, 5, 0] rfl) (by omega)
                                ·
                                  refine lv_iload hx hb dX12_soonestOf_263 (lv_at hl 0 rfl) ?_
                                  refine b_if_eq (tgt := 272) hx hb dX12_soonestOf_265 (by decide) (fun c_86 => ?_) (fun c_86 => ?_)
                                  ·
                                    refine lv_iconst (v := 0) hx hb dX12_soonestOf_272 (by decide) ?_
                                    exact J_273 0 _ (lv_sub hl [1, 2, 3, 4, 5, 0] rfl) (by omega) (by omega)
                                  ·
                                    exact J_268 _ (lv_sub hl [1, 2, 3, 4, 5, 0] rfl) (by omega)
                              have J_244 : ∀ (H : Heap) (locs : List Loc) (ls : Array Slot), lv_has ls 9 [(0, .ref (al.2 0 0)), (1, .int tt), (5, .int l5_61), (6, .int l6_54), (7, .int l7_62)] → UW D cA sz al iv_63 rv_64 H → va_S (Aq sz) s.heap H locs → W p l e (rm 3) s m args below meth c H locs 0 0 Q (F0 m 244 ls []) := by
                                intro H locs ls hl hU hS
                                refine lv_iconst (v := 0) hx hb dX12_soonestOf_244 (by decide) ?_
                                exact J_245 0 _ _ _ (lv_sub hl [0, 1, 2, 3, 4] rfl) hU hS (by omega) (by omega)
                              refine b_if_eq (tgt := 244) hx hb dX12_soonestOf_178 (by decide) (fun c_87 => ?_) (fun c_87 => ?_)
                              ·
                                exact J_244 _ _ _ (lv_sub hl [0, 1, 3, 2, 4] rfl) hU hS
                              ·
                                refine lv_aload_n hx hb dX12_soonestOf_181 rfl (lv_at hl 0 rfl) ?_
                                refine g_0_23 C hU hG (h1_0 hG) fl_X12_68 dX12_soonestOf_182 ?_
                                refine lv_iload hx hb dX12_soonestOf_185 (lv_at hl 4 rfl) ?_
                                refine a_20 C hU hG (h1_20 hG) (x := l7_62) (by omega) (by omega) dX12_soonestOf_187 (fun x_88 e_89 le_89 ue_89 => ?_)
                                have te_89 := congrArg Int32.toInt e_89
                                refine b_if_ne (tgt := 244) hx hb dX12_soonestOf_188 (by decide) (fun c_90 => ?_) (fun c_90 => ?_)
                                ·
                                  exact J_244 _ _ _ (lv_sub hl [0, 1, 3, 2, 4] rfl) hU hS
                                ·
                                  refine lv_aload_n hx hb dX12_soonestOf_191 rfl (lv_at hl 0 rfl) ?_
                                  refine g_0_13 C hU hG (h1_0 hG) fl_X12_40 dX12_soonestOf_192 ?_
                                  refine lv_iload hx hb dX12_soonestOf_195 (lv_at hl 4 rfl) ?_
                                  refine a_11 C hU hG (h1_11 hG) (x := l7_62) (by omega) (by omega) dX12_soonestOf_197 (fun x_91 e_92 le_92 ue_92 => ?_)
                                  have te_92 := congrArg Int32.toInt e_92
                                  have ne_92 : x_91.toInt = (iv 11 0 (l7_62 : Int32).toNatClampNeg).toInt := by rw [e_92, hF1.arr 11 0 (l7_62 : Int32).toNatClampNeg (by decide)]
                                  refine b_if_eq (tgt := 244) hx hb dX12_soonestOf_198 (by decide) (fun c_93 => ?_) (fun c_93 => ?_)
                                  ·
                                    exact J_244 _ _ _ (lv_sub hl [0, 1, 3, 2, 4] rfl) hU hS
                                  ·
                                    refine lv_aload_n hx hb dX12_soonestOf_201 rfl (lv_at hl 0 rfl) ?_
                                    refine g_0_7 C hU hG (h1_0 hG) fl_X12_22 dX12_soonestOf_202 ?_
                                    refine lv_iload hx hb dX12_soonestOf_205 (lv_at hl 4 rfl) ?_
                                    refine a_5 C hU hG (h1_5 hG) (x := l7_62) (by omega) (by omega) dX12_soonestOf_207 (fun x_94 e_95 le_95 ue_95 => ?_)
                                    have te_95 := congrArg Int32.toInt e_95
                                    have ne_95 : x_94.toInt = (iv 5 0 (l7_62 : Int32).toNatClampNeg).toInt := by rw [e_95, hF1.arr 5 0 (l7_62 : Int32).toNatClampNeg (by decide)]
                                    refine lv_aload_n hx hb dX12_soonestOf_208 rfl (lv_at hl 0 rfl) ?_
                                    refine g_0_8 C hU hG (h1_0 hG) fl_X12_25 dX12_soonestOf_209 ?_
                                    refine lv_iload hx hb dX12_soonestOf_212 (lv_at hl 2 rfl) ?_
                                    refine a_6 C hU hG (h1_6 hG) (x := l6_54) (by omega) (by omega) dX12_soonestOf_214 (fun x_96 e_97 le_97 ue_97 => ?_)
                                    have te_97 := congrArg Int32.toInt e_97
                                    have ne_97 : x_96.toInt = (iv 6 0 (l6_54 : Int32).toNatClampNeg).toInt := by rw [e_97, hF1.arr 6 0 (l6_54 : Int32).toNatClampNeg (by decide)]
                                    refine b_icmp_ne (tgt := 244) hx hb dX12_soonestOf_215 (by decide) (fun c_98 => ?_) (fun c_98 => ?_)
                                    ·
                                      exact J_244 _ _ _ (lv_sub hl [0, 1, 3, 2, 4] rfl) hU hS
                                    ·
                                      refine lv_aload_n hx hb dX12_soonestOf_218 rfl (lv_at hl 0 rfl) ?_
                                      refine lv_iload hx hb dX12_soonestOf_219 (lv_at hl 4 rfl) ?_
                                      refine q_pi (q_runV (t := 0) (i := 0) (As := [.int l7_62]) (rest := []) C hU (c_X12_rightLeave hG l7_62 (by omega)) vm_X12_rightLeave ml_X12_193 k_0.1 (hc := rfl) rfl (h1_0 hG) hl.1 rfl rfl (Nat.le_of_ble_eq_true rfl) dX12_soonestOf_221 rfl rfl ⟨Nat.le_of_ble_eq_true rfl, Nat.le_of_ble_eq_true rfl⟩ ⟨Nat.le_refl _, Nat.le_refl _⟩) hS (fun x_100 H locs hp_99 hU hS => ?_)
                                      have q_101 := hp_99.2
                                      have tq_101 := congrArg Int32.toInt q_101
                                      refine lv_aload_n hx hb dX12_soonestOf_224 rfl (lv_at hl 0 rfl) ?_
                                      refine lv_iload hx hb dX12_soonestOf_225 (lv_at hl 2 rfl) ?_
                                      refine q_pi (q_runV (t := 0) (i := 0) (As := [.int l6_54]) (rest := [.int x_100]) C hU (c_X12_rightArrive hG l6_54 (by omega)) vm_X12_rightArrive ml_X12_190 k_0.1 (hc := rfl) rfl (h1_0 hG) hl.1 rfl rfl (Nat.le_of_ble_eq_true rfl) dX12_soonestOf_227 rfl rfl ⟨Nat.le_of_ble_eq_true rfl, Nat.le_of_ble_eq_true rfl⟩ ⟨Nat.le_refl _, Nat.le_refl _⟩) hS (fun x_103 H locs hp_102 hU hS => ?_)
                                      have q_104 := hp_102.2
                                      have tq_104 := congrArg Int32.toInt q_104
                                      refine lv_isub hx hb dX12_soonestOf_230 ?_
                                      refine lv_topi (fun x_105 e_106 => ?_)
                                      have w_107 := fb_rng x_100
                                      have w_108 := fb_rng x_103
                                      have te_106 : x_105.toInt = (x_100 : Int32).toInt - (x_103 : Int32).toInt := by rw [e_106]; exact fb_subI (by omega) (by omega)
                                      refine lv_aload_n hx hb dX12_soonestOf_231 rfl (lv_at hl 0 rfl) ?_
                                      refine g_0_17 C hU hG (h1_0 hG) fl_X12_53 dX12_soonestOf_232 ?_
                                      refine lv_iconst (v := 2) hx hb dX12_soonestOf_235 (by decide) ?_
                                      refine a_15 C hU hG (h1_15 hG) (x := 2) (by omega) (by omega) dX12_soonestOf_236 (fun x_109 e_110 le_110 ue_110 => ?_)
                                      have te_110 := congrArg Int32.toInt e_110
                                      have ne_110 : x_109.toInt = (iv 15 0 (2 : Int32).toNatClampNeg).toInt := by rw [e_110, hF1.arr 15 0 (2 : Int32).toNatClampNeg (by decide)]
                                      refine b_icmp_lt (tgt := 244) hx hb dX12_soonestOf_237 (by decide) (fun c_111 => ?_) (fun c_111 => ?_)
                                      ·
                                        exact J_244 _ _ _ (lv_sub hl [0, 1, 3, 2, 4] rfl) hU hS
                                      ·
                                        refine lv_iconst (v := 1) hx hb dX12_soonestOf_240 (by decide) ?_
                                        refine lv_goto (tgt := 245) hx hb dX12_soonestOf_241 (by decide) ?_
                                        exact J_245 1 _ _ _ (lv_sub hl [0, 1, 3, 2, 4] rfl) hU hS (by omega) (by omega)
                        exact J_162 _ l5_53 0 _ _ _ _ _ (lv_sub hl [1, 2, 4, 3, 0] rfl) hG hF1 hF2 hU hS (by omega) (by omega) (by omega) (by omega) (Nat.lt_succ_self _)
                  exact J_150 _ 0 0 _ _ _ _ _ (lv_sub hl [2, 3, 1, 0] rfl) hG hF1 hF2 hU hS (by omega) (by omega) (by omega) (by omega) (Nat.lt_succ_self _)
            exact J_139 _ 1 _ _ _ _ _ (lv_sub hl [1, 2, 0] rfl) hG hF1 hF2 hU hS (by omega) (Nat.lt_succ_self _)
          ·
            refine lv_aload_n hx hb dX12_soonestOf_86 rfl (lv_at hl 0 rfl) ?_
            refine g_0_23 C hU hG (h1_0 hG) fl_X12_68 dX12_soonestOf_87 ?_
            refine lv_iload hx hb dX12_soonestOf_90 (lv_at hl 4 rfl) ?_
            refine lv_aload_n hx hb dX12_soonestOf_92 rfl (lv_at hl 0 rfl) ?_
            refine g_0_13 C hU hG (h1_0 hG) fl_X12_40 dX12_soonestOf_93 ?_
            refine lv_iload hx hb dX12_soonestOf_96 (lv_at hl 4 rfl) ?_
            refine a_11 C hU hG (h1_11 hG) (x := l5_13) (by omega) (by omega) dX12_soonestOf_98 (fun x_112 e_113 le_113 ue_113 => ?_)
            have te_113 := congrArg Int32.toInt e_113
            have ne_113 : x_112.toInt = (iv 11 0 (l5_13 : Int32).toNatClampNeg).toInt := by rw [e_113, hF1.arr 11 0 (l5_13 : Int32).toNatClampNeg (by decide)]
            have J_129 : ∀ (v_114 : Int32) (H : Heap) (locs : List Loc) (ls : Array Slot), lv_has ls 9 [(0, .ref (al.2 0 0)), (1, .int tt), (3, .int x_10), (4, .int v_12), (5, .int l5_13)] → UW D cA sz al iv_14 rv_15 H → va_S (Aq sz) s.heap H locs → (0 ≤ v_114.toInt ∧ v_114.toInt ≤ 1) → W p l e (rm 3) s m args below meth c H locs 0 0 Q (F0 m 129 ls [.int v_114, .int l5_13, .ref (al.2 20 0)]) := by
              intro v_114 H locs ls hl hU hS i129_0
              refine s_20 C hU hS (h1_20 hG) (x := l5_13) (by omega) (by omega) (by omega) (by omega) dX12_soonestOf_129 (fun iv_115 H locs ei_116 hU hS => ?_)
              have hG : GI al iv_115 rv_15 := by rw [ei_116]; exact hG.puti (show _ ∧ _ from ⟨show (0 : Int) ≤ _ by omega, show _ ≤ (1 : Int) by omega⟩) (nsA (by decide) _)
              have hF1 : FR ([20], []) iv iv_115 := by rw [ei_116]; exact hF1.put (Or.inl (by decide))
              have kf_117 := congrArg Int32.toInt (show iv_115 0 0 20 = iv_14 0 0 20 by rw [ei_116]; exact up3_ne (fun z => absurd z.1 (by decide)))
              obtain ⟨x_118, e_119⟩ : ∃ y : Int32, y = l5_13 + 1 := ⟨_, rfl⟩
              have te_119 : x_118.toInt = (l5_13 : Int32).toInt + (1 : Int32).toInt := by rw [e_119]; exact fb_addI (by omega) (by omega)
              refine lv_iinc (v := x_118) (lv' := [(5, .int x_118), (0, .ref (al.2 0 0)), (1, .int tt), (3, .int x_10), (4, .int v_12)]) hx hb dX12_soonestOf_130 hl (k := 4) rfl (by rw [e_119]; rfl) (by decide) rfl (fun ls hl => ?_)
              refine lv_goto (tgt := 77) hx hb dX12_soonestOf_133 (by decide) ?_
              exact ih_77 x_118 _ _ _ _ _ (lv_sub hl [1, 2, 3, 4, 0] rfl) hG hF1 hF2 hU hS (by omega) (by omega)
            have J_128 : ∀ (H : Heap) (locs : List Loc) (ls : Array Slot), lv_has ls 9 [(0, .ref (al.2 0 0)), (1, .int tt), (3, .int x_10), (4, .int v_12), (5, .int l5_13)] → UW D cA sz al iv_14 rv_15 H → va_S (Aq sz) s.heap H locs → W p l e (rm 3) s m args below meth c H locs 0 0 Q (F0 m 128 ls [.int l5_13, .ref (al.2 20 0)]) := by
              intro H locs ls hl hU hS
              refine lv_iconst (v := 0) hx hb dX12_soonestOf_128 (by decide) ?_
              exact J_129 0 _ _ _ (lv_sub hl [0, 1, 2, 3, 4] rfl) hU hS (by omega)
            refine b_if_eq (tgt := 128) hx hb dX12_soonestOf_99 (by decide) (fun c_120 => ?_) (fun c_120 => ?_)
            ·
              exact J_128 _ _ _ (lv_sub hl [0, 1, 2, 3, 4] rfl) hU hS
            ·
              refine lv_aload_n hx hb dX12_soonestOf_102 rfl (lv_at hl 0 rfl) ?_
              refine g_0_7 C hU hG (h1_0 hG) fl_X12_22 dX12_soonestOf_103 ?_
              refine lv_iload hx hb dX12_soonestOf_106 (lv_at hl 4 rfl) ?_
              refine a_5 C hU hG (h1_5 hG) (x := l5_13) (by omega) (by omega) dX12_soonestOf_108 (fun x_121 e_122 le_122 ue_122 => ?_)
              have te_122 := congrArg Int32.toInt e_122
              have ne_122 : x_121.toInt = (iv 5 0 (l5_13 : Int32).toNatClampNeg).toInt := by rw [e_122, hF1.arr 5 0 (l5_13 : Int32).toNatClampNeg (by decide)]
              refine lv_iload_n hx hb dX12_soonestOf_109 rfl (lv_at hl 2 rfl) ?_
              refine b_icmp_ne (tgt := 128) hx hb dX12_soonestOf_110 (by decide) (fun c_123 => ?_) (fun c_123 => ?_)
              ·
                exact J_128 _ _ _ (lv_sub hl [0, 1, 2, 3, 4] rfl) hU hS
              ·
                refine lv_aload_n hx hb dX12_soonestOf_113 rfl (lv_at hl 0 rfl) ?_
                refine lv_iload hx hb dX12_soonestOf_114 (lv_at hl 4 rfl) ?_
                refine q_pi (q_runV (t := 0) (i := 0) (As := [.int l5_13]) (rest := [.int l5_13, .ref (al.2 20 0)]) C hU (c_X12_rightLeave hG l5_13 (by omega)) vm_X12_rightLeave ml_X12_193 k_0.1 (hc := rfl) rfl (h1_0 hG) hl.1 rfl rfl (Nat.le_of_ble_eq_true rfl) dX12_soonestOf_116 rfl rfl ⟨Nat.le_of_ble_eq_true rfl, Nat.le_of_ble_eq_true rfl⟩ ⟨Nat.le_refl _, Nat.le_refl _⟩) hS (fun x_125 H locs hp_124 hU hS => ?_)
                have q_126 := hp_124.2
                have tq_126 := congrArg Int32.toInt q_126
                refine lv_iload hx hb dX12_soonestOf_119 (lv_at hl 3 rfl) ?_
                refine b_icmp_lt (tgt := 128) hx hb dX12_soonestOf_121 (by decide) (fun c_127 => ?_) (fun c_127 => ?_)
                ·
                  exact J_128 _ _ _ (lv_sub hl [0, 1, 2, 3, 4] rfl) hU hS
                ·
                  refine lv_iconst (v := 1) hx hb dX12_soonestOf_124 (by decide) ?_
                  refine lv_goto (tgt := 129) hx hb dX12_soonestOf_125 (by decide) ?_
                  exact J_129 1 _ _ _ (lv_sub hl [0, 1, 2, 3, 4] rfl) hU hS (by omega)
      exact J_77 _ 0 _ _ _ _ _ (lv_sub hl [2, 3, 4, 1, 0] rfl) hG hF1 hF2 hU hS (by omega) (Nat.lt_succ_self _)
    refine b_if_ne (tgt := 56) hx hb dX12_soonestOf_37 (by decide) (fun c_128 => ?_) (fun c_128 => ?_)
    ·
      refine lv_aload_n hx hb dX12_soonestOf_56 rfl (lv_at hl 2 rfl) ?_
      refine lv_aload_n hx hb dX12_soonestOf_57 rfl (lv_at hl 2 rfl) ?_
      refine g_0_21 C hU hG (h1_0 hG) fl_X12_62 dX12_soonestOf_58 ?_
      refine lv_iconst (v := 4) hx hb dX12_soonestOf_61 (by decide) ?_
      refine lv_iload_n hx hb dX12_soonestOf_62 rfl (lv_at hl 3 rfl) ?_
      refine lv_imul hx hb dX12_soonestOf_63 ?_
      refine lv_topi (fun x_129 e_130 => ?_)
      have te_130 : x_129.toInt = 4 * (tt : Int32).toInt := by rw [e_130, fb_mulI (by rw [show (4 : Int32).toInt = 4 from by decide]; omega) (by rw [show (4 : Int32).toInt = 4 from by decide]; omega), show (4 : Int32).toInt = 4 from by decide]
      refine lv_iload_n hx hb dX12_soonestOf_64 rfl (lv_at hl 1 rfl) ?_
      refine lv_iadd hx hb dX12_soonestOf_65 ?_
      refine lv_topi (fun x_131 e_132 => ?_)
      have te_132 : x_131.toInt = (x_129 : Int32).toInt + (x_2 : Int32).toInt := by rw [e_132]; exact fb_addI (by omega) (by omega)
      refine lv_iconst (v := 1) hx hb dX12_soonestOf_66 (by decide) ?_
      refine lv_isub hx hb dX12_soonestOf_67 ?_
      refine lv_topi (fun x_133 e_134 => ?_)
      have te_134 : x_133.toInt = (x_131 : Int32).toInt - (1 : Int32).toInt := by rw [e_134]; exact fb_subI (by omega) (by omega)
      refine a_18 C hU hG (h1_18 hG) (x := x_133) (by omega) (by omega) dX12_soonestOf_68 (fun x_135 e_136 le_136 ue_136 => ?_)
      have te_136 := congrArg Int32.toInt e_136
      refine q_pi (q_runV (t := 0) (i := 0) (As := [.int x_135]) (rest := []) C hU (c_X12_rightArrive hG x_135 (by omega)) vm_X12_rightArrive ml_X12_190 k_0.1 (hc := rfl) rfl (h1_0 hG) hl.1 rfl rfl (Nat.le_of_ble_eq_true rfl) dX12_soonestOf_69 rfl rfl ⟨Nat.le_of_ble_eq_true rfl, Nat.le_of_ble_eq_true rfl⟩ ⟨Nat.le_refl _, Nat.le_refl _⟩) hS (fun x_138 H locs hp_137 hU hS => ?_)
      have q_139 := hp_137.2
      have tq_139 := congrArg Int32.toInt q_139
      exact J_72 x_138 _ _ _ (lv_sub hl [2, 3, 0] rfl) hU hS (by omega)
    ·
      refine lv_aload_n hx hb dX12_soonestOf_40 rfl (lv_at hl 2 rfl) ?_
      refine g_0_11 C hU hG (h1_0 hG) fl_X12_34 dX12_soonestOf_41 ?_
      refine lv_aload_n hx hb dX12_soonestOf_44 rfl (lv_at hl 2 rfl) ?_
      refine g_0_21 C hU hG (h1_0 hG) fl_X12_62 dX12_soonestOf_45 ?_
      refine lv_iconst (v := 4) hx hb dX12_soonestOf_48 (by decide) ?_
      refine lv_iload_n hx hb dX12_soonestOf_49 rfl (lv_at hl 3 rfl) ?_
      refine lv_imul hx hb dX12_soonestOf_50 ?_
      refine lv_topi (fun x_140 e_141 => ?_)
      have te_141 : x_140.toInt = 4 * (tt : Int32).toInt := by rw [e_141, fb_mulI (by rw [show (4 : Int32).toInt = 4 from by decide]; omega) (by rw [show (4 : Int32).toInt = 4 from by decide]; omega), show (4 : Int32).toInt = 4 from by decide]
      refine a_18 C hU hG (h1_18 hG) (x := x_140) (by omega) (by omega) dX12_soonestOf_51 (fun x_142 e_143 le_143 ue_143 => ?_)
      have te_143 := congrArg Int32.toInt e_143
      refine a_9 C hU hG (h1_9 hG) (x := x_142) (by omega) (by omega) dX12_soonestOf_52 (fun x_144 e_145 le_145 ue_145 => ?_)
      have te_145 := congrArg Int32.toInt e_145
      refine lv_goto (tgt := 72) hx hb dX12_soonestOf_53 (by decide) ?_
      exact J_72 x_144 _ _ _ (lv_sub hl [2, 3, 0] rfl) hU hS (by omega)
  ·
    refine lv_aload_n hx hb dX12_soonestOf_10 rfl (lv_at hl 1 rfl) ?_
    refine lv_aload_n hx hb dX12_soonestOf_11 rfl (lv_at hl 1 rfl) ?_
    refine lv_iload_n hx hb dX12_soonestOf_12 rfl (lv_at hl 2 rfl) ?_
    refine q_pi (q_runV (t := 0) (i := 0) (As := [.int tt]) (rest := [.ref (al.2 0 0)]) C hU (c_X12_lastLeg hG tt (by omega)) vm_X12_lastLeg ml_X12_232 k_0.1 (hc := rfl) rfl (h1_0 hG) hl.1 rfl rfl (Nat.le_of_ble_eq_true rfl) dX12_soonestOf_13 rfl rfl ⟨Nat.le_of_ble_eq_true rfl, Nat.le_of_ble_eq_true rfl⟩ ⟨Nat.le_refl _, Nat.le_refl _⟩) hS (fun x_147 H locs hp_146 hU hS => ?_)
    refine q_pi (q_runV (t := 0) (i := 0) (As := [.int x_147]) (rest := []) C hU (c_X12_rightArrive hG x_147 (by omega)) vm_X12_rightArrive ml_X12_190 k_0.1 (hc := rfl) rfl (h1_0 hG) hl.1 rfl rfl (Nat.le_of_ble_eq_true rfl) dX12_soonestOf_16 rfl rfl ⟨Nat.le_of_ble_eq_true rfl, Nat.le_of_ble_eq_true rfl⟩ ⟨Nat.le_refl _, Nat.le_refl _⟩) hS (fun x_149 H locs hp_148 hU hS => ?_)
    have q_150 := hp_148.2
    have tq_150 := congrArg Int32.toInt q_150
    exact hret (⟨hG, hF1, hF2, trivial⟩) hU hS dX12_soonestOf_19
set_option maxHeartbeats 4000000 in
set_option maxRecDepth 100000 in
theorem c_X12_soonest {l : Launch} {D : va_G} {cA : FieldType → ClassId} {sz : Nat} {al : Al} {iv : Iv} {rv : Rv} (hG : GI al iv rv) (tt : Int32) : Met l yX12_soonest (wd yX12_soonest cX12_soonest 2 (some .int)) (rm 4) (PcW D cA sz al iv rv [.ref (al.2 0 0), .int tt]) (QI D cA sz al (fI al ([16, 20], []) iv rv (fun r iv' rv' => True))) 0 0 (Aq sz) := by
  refine mk_i (by decide) (Nat.le_of_ble_eq_true rfl) rfl ?_
  intro p e s m args below meth c ls Q H locs C hU hS hl hret
  have hx := C.1.1
  have hb := C.1.2.1
  have hl : lv_has ls 2 [(0, .ref (al.2 0 0)), (1, .int tt)] := hl
  have hG0 := hG
  have h6 := le6 hG
  have h20 := le20 hG
  have h41 := le41 hG
  have hF1 : FR ([16, 20], []) iv iv := FR.rf
  have hF2 : FR ([16, 20], []) rv rv := FR.rf
  have km1 : ((-1) : Int32).toInt = -1 := by decide
  refine lv_aload_n hx hb dX12_soonest_0 rfl (lv_at hl 0 rfl) ?_
  refine lv_iload_n hx hb dX12_soonest_1 rfl (lv_at hl 1 rfl) ?_
  refine q_pi (q_runV (t := 0) (i := 0) (As := [.int tt]) (rest := []) C hU (c_X12_isTraveller hG tt ) vm_X12_isTraveller ml_X12_226 k_0.1 (hc := rfl) rfl (h1_0 hG) hl.1 rfl rfl (Nat.le_of_ble_eq_true rfl) dX12_soonest_2 rfl rfl ⟨Nat.le_of_ble_eq_true rfl, Nat.le_of_ble_eq_true rfl⟩ ⟨Nat.le_refl _, Nat.le_refl _⟩) hS (fun x_2 H locs hp_1 hU hS => ?_)
  refine b_if_eq (tgt := 16) hx hb dX12_soonest_5 (by decide) (fun c_3 => ?_) (fun c_3 => ?_)
  ·
    refine lv_aload_n hx hb dX12_soonest_16 rfl (lv_at hl 0 rfl) ?_
    refine lv_iconst (v := (-1)) hx hb dX12_soonest_17 (by decide) ?_
    refine q_fi (q_runV (t := 0) (i := 0) (As := [.int (-1)]) (rest := []) C hU (c_X12_refuse hG (-1) (by omega)) vm_X12_refuse ml_X12_164 k_0.1 (hc := rfl) rfl (h1_0 hG) hl.1 rfl rfl (Nat.le_of_ble_eq_true rfl) dX12_soonest_18 rfl rfl ⟨Nat.le_of_ble_eq_true rfl, Nat.le_of_ble_eq_true rfl⟩ ⟨Nat.le_refl _, Nat.le_refl _⟩) hS (fun x_9 iv_5 rv_6 H locs hG fa_7 fb_8 hp_4 hU hS => ?_)
    have hF1 := hF1.tr (m := ([16, 20], [])) fa_7 (by decide)
    have hF2 := hF2.tr (m := ([16, 20], [])) fb_8 (by decide)
    exact hret (⟨hG, hF1, hF2, trivial⟩) hU hS dX12_soonest_21
  ·
    refine lv_aload_n hx hb dX12_soonest_8 rfl (lv_at hl 0 rfl) ?_
    refine lv_iload_n hx hb dX12_soonest_9 rfl (lv_at hl 1 rfl) ?_
    refine q_fi (q_runV (t := 0) (i := 0) (As := [.int tt]) (rest := []) C hU (c_X12_soonestOf hG tt (by omega)) vm_X12_soonestOf ml_X12_235 k_0.1 (hc := rfl) rfl (h1_0 hG) hl.1 rfl rfl (Nat.le_of_ble_eq_true rfl) dX12_soonest_10 rfl rfl ⟨Nat.le_of_ble_eq_true rfl, Nat.le_of_ble_eq_true rfl⟩ ⟨Nat.le_refl _, Nat.le_refl _⟩) hS (fun x_15 iv_11 rv_12 H locs hG fa_13 fb_14 hp_10 hU hS => ?_)
    have hF1 := hF1.tr (m := ([16, 20], [])) fa_13 (by decide)
    have hF2 := hF2.tr (m := ([16, 20], [])) fb_14 (by decide)
    refine lv_goto (tgt := 21) hx hb dX12_soonest_13 (by decide) ?_
    exact hret (⟨hG, hF1, hF2, trivial⟩) hU hS dX12_soonest_21
set_option maxHeartbeats 4000000 in
set_option maxRecDepth 100000 in
theorem c_X12_hoursOf {l : Launch} {D : va_G} {cA : FieldType → ClassId} {sz : Nat} {al : Al} {iv : Iv} {rv : Rv} (hG : GI al iv rv) (tt : Int32) (pre0 : 0 ≤ tt.toInt ∧ tt.toInt < (iv 0 0 20).toInt) : Met l yX12_hoursOf (wd yX12_hoursOf cX12_hoursOf 3 (some .int)) (rm 4) (PcW D cA sz al iv rv [.ref (al.2 0 0), .int tt]) (QI D cA sz al (fI al ([20], []) iv rv (fun r iv' rv' => True))) 0 0 (Aq sz) := by
  refine mk_i (by decide) (Nat.le_of_ble_eq_true rfl) rfl ?_
  intro p e s m args below meth c ls Q H locs C hU hS hl hret
  have hx := C.1.1
  have hb := C.1.2.1
  have hl : lv_has ls 3 [(0, .ref (al.2 0 0)), (1, .int tt)] := hl
  have hG0 := hG
  have h6 := le6 hG
  have h20 := le20 hG
  have h41 := le41 hG
  have h20 := le20 hG
  have hF1 : FR ([20], []) iv iv := FR.rf
  have hF2 : FR ([20], []) rv rv := FR.rf
  have k9999 : (9999 : Int32).toInt = 9999 := by decide
  refine lv_aload_n hx hb dX12_hoursOf_0 rfl (lv_at hl 0 rfl) ?_
  refine lv_iload_n hx hb dX12_hoursOf_1 rfl (lv_at hl 1 rfl) ?_
  refine q_fi (q_runV (t := 0) (i := 0) (As := [.int tt]) (rest := []) C hU (c_X12_soonestOf hG tt (by omega)) vm_X12_soonestOf ml_X12_235 k_0.1 (hc := rfl) rfl (h1_0 hG) hl.1 rfl rfl (Nat.le_of_ble_eq_true rfl) dX12_hoursOf_2 rfl rfl ⟨Nat.le_of_ble_eq_true rfl, Nat.le_of_ble_eq_true rfl⟩ ⟨Nat.le_refl _, Nat.le_refl _⟩) hS (fun x_6 iv_2 rv_3 H locs hG fa_4 fb_5 hp_1 hU hS => ?_)
  have hF1 := hF1.tr (m := ([20], [])) fa_4 (by decide)
  have hF2 := hF2.tr (m := ([20], [])) fb_5 (by decide)
  have kf_7 := congrArg Int32.toInt (hF1 0 0 20 (by decide))
  refine lv_istore_n (lv' := [(2, .int x_6), (0, .ref (al.2 0 0)), (1, .int tt)]) hx hb dX12_hoursOf_5 rfl hl (by decide) rfl (fun ls hl => ?_)
  refine lv_iload_n hx hb dX12_hoursOf_6 rfl (lv_at hl 0 rfl) ?_
  refine b_if_ge (tgt := 16) hx hb dX12_hoursOf_7 (by decide) (fun c_8 => ?_) (fun c_8 => ?_)
  ·
    refine lv_iload_n hx hb dX12_hoursOf_16 rfl (lv_at hl 0 rfl) ?_
    refine lv_aload_n hx hb dX12_hoursOf_17 rfl (lv_at hl 1 rfl) ?_
    refine g_0_12 C hU hG (h1_0 hG) fl_X12_37 dX12_hoursOf_18 ?_
    refine lv_aload_n hx hb dX12_hoursOf_21 rfl (lv_at hl 1 rfl) ?_
    refine lv_iload_n hx hb dX12_hoursOf_22 rfl (lv_at hl 2 rfl) ?_
    refine q_pi (q_runV (t := 0) (i := 0) (As := [.int tt]) (rest := [.ref (al.2 10 0), .int x_6]) C hU (c_X12_lastLeg hG tt (by omega)) vm_X12_lastLeg ml_X12_232 k_0.1 (hc := rfl) rfl (h1_0 hG) hl.1 rfl rfl (Nat.le_of_ble_eq_true rfl) dX12_hoursOf_23 rfl rfl ⟨Nat.le_of_ble_eq_true rfl, Nat.le_of_ble_eq_true rfl⟩ ⟨Nat.le_refl _, Nat.le_refl _⟩) hS (fun x_10 H locs hp_9 hU hS => ?_)
    refine a_10 C hU hG (h1_10 hG) (x := x_10) (by omega) (by omega) dX12_hoursOf_26 (fun x_11 e_12 le_12 ue_12 => ?_)
    have te_12 := congrArg Int32.toInt e_12
    have ne_12 : x_11.toInt = (iv 10 0 (x_10 : Int32).toNatClampNeg).toInt := by rw [e_12, hF1.arr 10 0 (x_10 : Int32).toNatClampNeg (by decide)]
    refine lv_isub hx hb dX12_hoursOf_27 ?_
    refine lv_topi (fun x_13 e_14 => ?_)
    have w_15 := fb_rng x_6
    have te_14 : x_13.toInt = (x_6 : Int32).toInt - (x_11 : Int32).toInt := by rw [e_14]; exact fb_subI (by omega) (by omega)
    refine q_pi (q_runS (As := [.int x_13]) (rest := []) C hU (c_X12_over  x_13 ) sm_X12_over ml_X12_187 hl.1 rfl rfl (Nat.le_of_ble_eq_true rfl) dX12_hoursOf_28 rfl rfl ⟨Nat.le_of_ble_eq_true rfl, Nat.le_of_ble_eq_true rfl⟩ ⟨Nat.le_refl _, Nat.le_refl _⟩) hS (fun x_17 H locs hp_16 hU hS => ?_)
    have q_18 := hp_16.2
    have tq_18 := congrArg Int32.toInt q_18
    exact hret (⟨hG, hF1, hF2, trivial⟩) hU hS dX12_hoursOf_31
  ·
    refine lv_sipush (v := 9999) hx hb dX12_hoursOf_10 (by decide) ?_
    refine lv_goto (tgt := 31) hx hb dX12_hoursOf_13 (by decide) ?_
    exact hret (⟨hG, hF1, hF2, trivial⟩) hU hS dX12_hoursOf_31
set_option maxHeartbeats 4000000 in
set_option maxRecDepth 100000 in
theorem c_X12_hours {l : Launch} {D : va_G} {cA : FieldType → ClassId} {sz : Nat} {al : Al} {iv : Iv} {rv : Rv} (hG : GI al iv rv) (tt : Int32) : Met l yX12_hours (wd yX12_hours cX12_hours 2 (some .int)) (rm 5) (PcW D cA sz al iv rv [.ref (al.2 0 0), .int tt]) (QI D cA sz al (fI al ([16, 20], []) iv rv (fun r iv' rv' => True))) 0 0 (Aq sz) := by
  refine mk_i (by decide) (Nat.le_of_ble_eq_true rfl) rfl ?_
  intro p e s m args below meth c ls Q H locs C hU hS hl hret
  have hx := C.1.1
  have hb := C.1.2.1
  have hl : lv_has ls 2 [(0, .ref (al.2 0 0)), (1, .int tt)] := hl
  have hG0 := hG
  have h6 := le6 hG
  have h20 := le20 hG
  have h41 := le41 hG
  have hF1 : FR ([16, 20], []) iv iv := FR.rf
  have hF2 : FR ([16, 20], []) rv rv := FR.rf
  have km1 : ((-1) : Int32).toInt = -1 := by decide
  refine lv_aload_n hx hb dX12_hours_0 rfl (lv_at hl 0 rfl) ?_
  refine lv_iload_n hx hb dX12_hours_1 rfl (lv_at hl 1 rfl) ?_
  refine q_pi (q_runV (t := 0) (i := 0) (As := [.int tt]) (rest := []) C hU (c_X12_isTraveller hG tt ) vm_X12_isTraveller ml_X12_226 k_0.1 (hc := rfl) rfl (h1_0 hG) hl.1 rfl rfl (Nat.le_of_ble_eq_true rfl) dX12_hours_2 rfl rfl ⟨Nat.le_of_ble_eq_true rfl, Nat.le_of_ble_eq_true rfl⟩ ⟨Nat.le_refl _, Nat.le_refl _⟩) hS (fun x_2 H locs hp_1 hU hS => ?_)
  refine b_if_eq (tgt := 16) hx hb dX12_hours_5 (by decide) (fun c_3 => ?_) (fun c_3 => ?_)
  ·
    refine lv_aload_n hx hb dX12_hours_16 rfl (lv_at hl 0 rfl) ?_
    refine lv_iconst (v := (-1)) hx hb dX12_hours_17 (by decide) ?_
    refine q_fi (q_runV (t := 0) (i := 0) (As := [.int (-1)]) (rest := []) C hU (c_X12_refuse hG (-1) (by omega)) vm_X12_refuse ml_X12_164 k_0.1 (hc := rfl) rfl (h1_0 hG) hl.1 rfl rfl (Nat.le_of_ble_eq_true rfl) dX12_hours_18 rfl rfl ⟨Nat.le_of_ble_eq_true rfl, Nat.le_of_ble_eq_true rfl⟩ ⟨Nat.le_refl _, Nat.le_refl _⟩) hS (fun x_9 iv_5 rv_6 H locs hG fa_7 fb_8 hp_4 hU hS => ?_)
    have hF1 := hF1.tr (m := ([16, 20], [])) fa_7 (by decide)
    have hF2 := hF2.tr (m := ([16, 20], [])) fb_8 (by decide)
    exact hret (⟨hG, hF1, hF2, trivial⟩) hU hS dX12_hours_21
  ·
    refine lv_aload_n hx hb dX12_hours_8 rfl (lv_at hl 0 rfl) ?_
    refine lv_iload_n hx hb dX12_hours_9 rfl (lv_at hl 1 rfl) ?_
    refine q_fi (q_runV (t := 0) (i := 0) (As := [.int tt]) (rest := []) C hU (c_X12_hoursOf hG tt (by omega)) vm_X12_hoursOf ml_X12_238 k_0.1 (hc := rfl) rfl (h1_0 hG) hl.1 rfl rfl (Nat.le_of_ble_eq_true rfl) dX12_hours_10 rfl rfl ⟨Nat.le_of_ble_eq_true rfl, Nat.le_of_ble_eq_true rfl⟩ ⟨Nat.le_refl _, Nat.le_refl _⟩) hS (fun x_15 iv_11 rv_12 H locs hG fa_13 fb_14 hp_10 hU hS => ?_)
    have hF1 := hF1.tr (m := ([16, 20], [])) fa_13 (by decide)
    have hF2 := hF2.tr (m := ([16, 20], [])) fb_14 (by decide)
    refine lv_goto (tgt := 21) hx hb dX12_hours_13 (by decide) ?_
    exact hret (⟨hG, hF1, hF2, trivial⟩) hU hS dX12_hours_21
set_option maxHeartbeats 4000000 in
set_option maxRecDepth 100000 in
theorem c_X12_blameOf {l : Launch} {D : va_G} {cA : FieldType → ClassId} {sz : Nat} {al : Al} {iv : Iv} {rv : Rv} (hG : GI al iv rv) (tt : Int32) (pre0 : 0 ≤ tt.toInt ∧ tt.toInt < (iv 0 0 20).toInt) : Met l yX12_blameOf (wd yX12_blameOf cX12_blameOf 6 (some .int)) (rm 7) (PcW D cA sz al iv rv [.ref (al.2 0 0), .int tt]) (QI D cA sz al (fI al ([17], []) iv rv (fun r iv' rv' => (-9 ≤ r.toInt ∧ r.toInt ≤ 5) ∧ (True)))) 0 0 (Aq sz) := by
  refine mk_i (by decide) (Nat.le_of_ble_eq_true rfl) rfl ?_
  intro p e s m args below meth c ls Q H locs C hU hS hl hret
  have hx := C.1.1
  have hb := C.1.2.1
  have hl : lv_has ls 6 [(0, .ref (al.2 0 0)), (1, .int tt)] := hl
  have hG0 := hG
  have h6 := le6 hG
  have h20 := le20 hG
  have h41 := le41 hG
  have h20 := le20 hG
  have hF1 : FR ([17], []) iv iv := FR.rf
  have hF2 : FR ([17], []) rv rv := FR.rf
  have km9 : ((-9) : Int32).toInt = -9 := by decide
  have k0 : (0 : Int32).toInt = 0 := by decide
  have k1 : (1 : Int32).toInt = 1 := by decide
  have k4 : (4 : Int32).toInt = 4 := by decide
  have k6 : (6 : Int32).toInt = 6 := by decide
  refine lv_aload_n hx hb dX12_blameOf_0 rfl (lv_at hl 0 rfl) ?_
  refine lv_iload_n hx hb dX12_blameOf_1 rfl (lv_at hl 1 rfl) ?_
  refine q_pi (q_runV (t := 0) (i := 0) (As := [.int tt]) (rest := []) C hU (c_X12_missedOf hG tt (by omega)) vm_X12_missedOf ml_X12_229 k_0.1 (hc := rfl) rfl (h1_0 hG) hl.1 rfl rfl (Nat.le_of_ble_eq_true rfl) dX12_blameOf_2 rfl rfl ⟨Nat.le_of_ble_eq_true rfl, Nat.le_of_ble_eq_true rfl⟩ ⟨Nat.le_refl _, Nat.le_refl _⟩) hS (fun x_2 H locs hp_1 hU hS => ?_)
  refine lv_istore_n (lv' := [(2, .int x_2), (0, .ref (al.2 0 0)), (1, .int tt)]) hx hb dX12_blameOf_5 rfl hl (by decide) rfl (fun ls hl => ?_)
  refine lv_iload_n hx hb dX12_blameOf_6 rfl (lv_at hl 0 rfl) ?_
  have J_61 : ∀ (v_3 : Int32) (H : Heap) (locs : List Loc) (ls : Array Slot), lv_has ls 6 [(0, .ref (al.2 0 0))] → UW D cA sz al iv rv H → va_S (Aq sz) s.heap H locs → (0 ≤ v_3.toInt ∧ v_3.toInt ≤ 39) → W p l e (rm 7) s m args below meth c H locs 0 0 Q (F0 m 61 ls [.int v_3]) := by
    intro v_3 H locs ls hl hU hS i61_0
    refine lv_istore_n (lv' := [(3, .int v_3), (0, .ref (al.2 0 0))]) hx hb dX12_blameOf_61 rfl hl (by decide) rfl (fun ls hl => ?_)
    refine lv_aload_n hx hb dX12_blameOf_62 rfl (lv_at hl 1 rfl) ?_
    refine g_0_13 C hU hG (h1_0 hG) fl_X12_40 dX12_blameOf_63 ?_
    refine lv_iload_n hx hb dX12_blameOf_66 rfl (lv_at hl 0 rfl) ?_
    refine a_11 C hU hG (h1_11 hG) (x := v_3) (by omega) (by omega) dX12_blameOf_67 (fun x_4 e_5 le_5 ue_5 => ?_)
    have te_5 := congrArg Int32.toInt e_5
    refine b_if_eq (tgt := 79) hx hb dX12_blameOf_68 (by decide) (fun c_6 => ?_) (fun c_6 => ?_)
    ·
      refine lv_bipush (v := (-9)) hx hb dX12_blameOf_79 (by decide) ?_
      exact hret (⟨hG, hF1, hF2, ⟨⟨by omega, by omega⟩, trivial⟩⟩) hU hS dX12_blameOf_81
    ·
      refine lv_aload_n hx hb dX12_blameOf_71 rfl (lv_at hl 1 rfl) ?_
      refine lv_iload_n hx hb dX12_blameOf_72 rfl (lv_at hl 0 rfl) ?_
      refine q_pi (q_runV (t := 0) (i := 0) (As := [.int v_3]) (rest := []) C hU (c_X12_lateOf hG v_3 (by omega)) vm_X12_lateOf ml_X12_210 k_0.1 (hc := rfl) rfl (h1_0 hG) hl.1 rfl rfl (Nat.le_of_ble_eq_true rfl) dX12_blameOf_73 rfl rfl ⟨Nat.le_of_ble_eq_true rfl, Nat.le_of_ble_eq_true rfl⟩ ⟨Nat.le_refl _, Nat.le_refl _⟩) hS (fun x_8 H locs hp_7 hU hS => ?_)
      have q_9 := hp_7.2
      have tq_9 := congrArg Int32.toInt q_9
      refine b_if_ne (tgt := 82) hx hb dX12_blameOf_76 (by decide) (fun c_10 => ?_) (fun c_10 => ?_)
      ·
        refine lv_aload_n hx hb dX12_blameOf_82 rfl (lv_at hl 1 rfl) ?_
        refine lv_iload_n hx hb dX12_blameOf_83 rfl (lv_at hl 0 rfl) ?_
        refine q_fv (q_runV (t := 0) (i := 0) (As := [.int v_3]) (rest := []) C hU (c_X12_findMinutes hG v_3 (by omega)) vm_X12_findMinutes ml_X12_219 k_0.1 (hc := rfl) rfl (h1_0 hG) hl.1 rfl rfl (Nat.le_of_ble_eq_true rfl) dX12_blameOf_84 rfl rfl ⟨Nat.le_of_ble_eq_true rfl, Nat.le_of_ble_eq_true rfl⟩ ⟨Nat.le_refl _, Nat.le_refl _⟩) hS (fun iv_12 rv_13 H locs hG fa_14 fb_15 hp_11 hU hS => ?_)
        have hF1 := hF1.tr (m := ([17], [])) fa_14 (by decide)
        have hF2 := hF2.tr (m := ([17], [])) fb_15 (by decide)
        have kf_16 := congrArg Int32.toInt (hF1 0 0 20 (by decide))
        refine lv_iconst (v := 0) hx hb dX12_blameOf_87 (by decide) ?_
        refine lv_istore (lv' := [(4, .int 0), (3, .int v_3), (0, .ref (al.2 0 0))]) hx hb dX12_blameOf_88 hl (by decide) rfl (fun ls hl => ?_)
        refine lv_iconst (v := 1) hx hb dX12_blameOf_90 (by decide) ?_
        refine lv_istore (lv' := [(5, .int 1), (4, .int 0), (3, .int v_3), (0, .ref (al.2 0 0))]) hx hb dX12_blameOf_91 hl (by decide) rfl (fun ls hl => ?_)
        have J_93 : ∀ (n_93 : Nat) (l4_17 : Int32) (l5_18 : Int32) (ls : Array Slot), lv_has ls 6 [(0, .ref (al.2 0 0)), (4, .int l4_17), (5, .int l5_18)] → (0 ≤ l4_17.toInt ∧ l4_17.toInt ≤ 5) → (1 ≤ l5_18.toInt ∧ l5_18.toInt ≤ 6) → (6 - l5_18.toInt).toNat < n_93 → W p l e (rm 7) s m args below meth c H locs 0 0 Q (F0 m 93 ls []) := by
          intro n_93
          induction n_93 with
          | zero =>
            intro l4_17 l5_18 ls hl i93_0 i93_1 hm_93
            exact absurd hm_93 (Nat.not_lt_zero _)
          | succ n_93 ih_93 =>
            intro l4_17 l5_18 ls hl i93_0 i93_1 hm_93
            refine lv_iload hx hb dX12_blameOf_93 (lv_at hl 2 rfl) ?_
            refine lv_bipush (v := 6) hx hb dX12_blameOf_95 (by decide) ?_
            refine b_icmp_ge (tgt := 132) hx hb dX12_blameOf_97 (by decide) (fun c_19 => ?_) (fun c_19 => ?_)
            ·
              refine lv_iload hx hb dX12_blameOf_132 (lv_at hl 1 rfl) ?_
              exact hret (⟨hG, hF1, hF2, ⟨⟨by omega, by omega⟩, trivial⟩⟩) hU hS dX12_blameOf_134
            ·
              refine lv_aload_n hx hb dX12_blameOf_100 rfl (lv_at hl 0 rfl) ?_
              refine g_0_19 C hU hG (h1_0 hG) fl_X12_59 dX12_blameOf_101 ?_
              refine lv_iload hx hb dX12_blameOf_104 (lv_at hl 2 rfl) ?_
              refine a_17 C hU hG (h1_17 hG) (x := l5_18) (by omega) (by omega) dX12_blameOf_106 (fun x_20 e_21 => ?_)
              have te_21 := congrArg Int32.toInt e_21
              refine lv_aload_n hx hb dX12_blameOf_107 rfl (lv_at hl 0 rfl) ?_
              refine g_0_19 C hU hG (h1_0 hG) fl_X12_59 dX12_blameOf_108 ?_
              refine lv_iload hx hb dX12_blameOf_111 (lv_at hl 1 rfl) ?_
              refine a_17 C hU hG (h1_17 hG) (x := l4_17) (by omega) (by omega) dX12_blameOf_113 (fun x_22 e_23 => ?_)
              have te_23 := congrArg Int32.toInt e_23
              have J_124 : ∀ (v_24 : Int32) (ls : Array Slot), lv_has ls 6 [(0, .ref (al.2 0 0)), (5, .int l5_18)] → (0 ≤ v_24.toInt ∧ v_24.toInt ≤ 6) → (0 ≤ v_24.toInt ∧ v_24.toInt ≤ 5) → W p l e (rm 7) s m args below meth c H locs 0 0 Q (F0 m 124 ls [.int v_24]) := by
                intro v_24 ls hl i124_0 i124_1
                refine lv_istore (lv' := [(4, .int v_24), (0, .ref (al.2 0 0)), (5, .int l5_18)]) hx hb dX12_blameOf_124 hl (by decide) rfl (fun ls hl => ?_)
                obtain ⟨x_25, e_26⟩ : ∃ y : Int32, y = l5_18 + 1 := ⟨_, rfl⟩
                have te_26 : x_25.toInt = (l5_18 : Int32).toInt + (1 : Int32).toInt := by rw [e_26]; exact fb_addI (by omega) (by omega)
                refine lv_iinc (v := x_25) (lv' := [(5, .int x_25), (4, .int v_24), (0, .ref (al.2 0 0))]) hx hb dX12_blameOf_126 hl (k := 2) rfl (by rw [e_26]; rfl) (by decide) rfl (fun ls hl => ?_)
                refine lv_goto (tgt := 93) hx hb dX12_blameOf_129 (by decide) ?_
                exact ih_93 v_24 x_25 _ (lv_sub hl [2, 1, 0] rfl) (by omega) (by omega) (by omega)
              refine b_icmp_le (tgt := 122) hx hb dX12_blameOf_114 (by decide) (fun c_27 => ?_) (fun c_27 => ?_)
              ·
                refine lv_iload hx hb dX12_blameOf_122 (lv_at hl 1 rfl) ?_
                exact J_124 l4_17 _ (lv_sub hl [0, 2] rfl) (by omega) (by omega)
              ·
                refine lv_iload hx hb dX12_blameOf_117 (lv_at hl 2 rfl) ?_
                refine lv_goto (tgt := 124) hx hb dX12_blameOf_119 (by decide) ?_
                exact J_124 l5_18 _ (lv_sub hl [0, 2] rfl) (by omega) (by omega)
        exact J_93 _ 0 1 _ (lv_sub hl [3, 1, 0] rfl) (by omega) (by omega) (Nat.lt_succ_self _)
      ·
        refine lv_bipush (v := (-9)) hx hb dX12_blameOf_79 (by decide) ?_
        exact hret (⟨hG, hF1, hF2, ⟨⟨by omega, by omega⟩, trivial⟩⟩) hU hS dX12_blameOf_81
  refine b_if_ge (tgt := 18) hx hb dX12_blameOf_7 (by decide) (fun c_28 => ?_) (fun c_28 => ?_)
  ·
    refine lv_aload_n hx hb dX12_blameOf_18 rfl (lv_at hl 1 rfl) ?_
    refine g_0_13 C hU hG (h1_0 hG) fl_X12_40 dX12_blameOf_19 ?_
    refine lv_aload_n hx hb dX12_blameOf_22 rfl (lv_at hl 1 rfl) ?_
    refine g_0_21 C hU hG (h1_0 hG) fl_X12_62 dX12_blameOf_23 ?_
    refine lv_iconst (v := 4) hx hb dX12_blameOf_26 (by decide) ?_
    refine lv_iload_n hx hb dX12_blameOf_27 rfl (lv_at hl 2 rfl) ?_
    refine lv_imul hx hb dX12_blameOf_28 ?_
    refine lv_topi (fun x_29 e_30 => ?_)
    have te_30 : x_29.toInt = 4 * (tt : Int32).toInt := by rw [e_30, fb_mulI (by rw [show (4 : Int32).toInt = 4 from by decide]; omega) (by rw [show (4 : Int32).toInt = 4 from by decide]; omega), show (4 : Int32).toInt = 4 from by decide]
    refine lv_iload_n hx hb dX12_blameOf_29 rfl (lv_at hl 0 rfl) ?_
    refine lv_iadd hx hb dX12_blameOf_30 ?_
    refine lv_topi (fun x_31 e_32 => ?_)
    have te_32 : x_31.toInt = (x_29 : Int32).toInt + (x_2 : Int32).toInt := by rw [e_32]; exact fb_addI (by omega) (by omega)
    refine a_18 C hU hG (h1_18 hG) (x := x_31) (by omega) (by omega) dX12_blameOf_31 (fun x_33 e_34 le_34 ue_34 => ?_)
    have te_34 := congrArg Int32.toInt e_34
    refine a_11 C hU hG (h1_11 hG) (x := x_33) (by omega) (by omega) dX12_blameOf_32 (fun x_35 e_36 le_36 ue_36 => ?_)
    have te_36 := congrArg Int32.toInt e_36
    refine b_if_ne (tgt := 49) hx hb dX12_blameOf_33 (by decide) (fun c_37 => ?_) (fun c_37 => ?_)
    ·
      have hi0 : 0 < x_2.toInt := by
        rcases hp_1.2.2 (by omega) with q9 | q9
        · exact q9
        · exfalso; apply c_37; simp only [e_30, e_32, e_34, e_36]; exact q9
      refine lv_aload_n hx hb dX12_blameOf_49 rfl (lv_at hl 1 rfl) ?_
      refine g_0_21 C hU hG (h1_0 hG) fl_X12_62 dX12_blameOf_50 ?_
      refine lv_iconst (v := 4) hx hb dX12_blameOf_53 (by decide) ?_
      refine lv_iload_n hx hb dX12_blameOf_54 rfl (lv_at hl 2 rfl) ?_
      refine lv_imul hx hb dX12_blameOf_55 ?_
      refine lv_topi (fun x_38 e_39 => ?_)
      have te_39 : x_38.toInt = 4 * (tt : Int32).toInt := by rw [e_39, fb_mulI (by rw [show (4 : Int32).toInt = 4 from by decide]; omega) (by rw [show (4 : Int32).toInt = 4 from by decide]; omega), show (4 : Int32).toInt = 4 from by decide]
      refine lv_iload_n hx hb dX12_blameOf_56 rfl (lv_at hl 0 rfl) ?_
      refine lv_iadd hx hb dX12_blameOf_57 ?_
      refine lv_topi (fun x_40 e_41 => ?_)
      have te_41 : x_40.toInt = (x_38 : Int32).toInt + (x_2 : Int32).toInt := by rw [e_41]; exact fb_addI (by omega) (by omega)
      refine lv_iconst (v := 1) hx hb dX12_blameOf_58 (by decide) ?_
      refine lv_isub hx hb dX12_blameOf_59 ?_
      refine lv_topi (fun x_42 e_43 => ?_)
      have te_43 : x_42.toInt = (x_40 : Int32).toInt - (1 : Int32).toInt := by rw [e_43]; exact fb_subI (by omega) (by omega)
      refine a_18 C hU hG (h1_18 hG) (x := x_42) (by omega) (by omega) dX12_blameOf_60 (fun x_44 e_45 le_45 ue_45 => ?_)
      have te_45 := congrArg Int32.toInt e_45
      exact J_61 x_44 _ _ _ (lv_sub hl [1] rfl) hU hS (by omega)
    ·
      refine lv_aload_n hx hb dX12_blameOf_36 rfl (lv_at hl 1 rfl) ?_
      refine g_0_21 C hU hG (h1_0 hG) fl_X12_62 dX12_blameOf_37 ?_
      refine lv_iconst (v := 4) hx hb dX12_blameOf_40 (by decide) ?_
      refine lv_iload_n hx hb dX12_blameOf_41 rfl (lv_at hl 2 rfl) ?_
      refine lv_imul hx hb dX12_blameOf_42 ?_
      refine lv_topi (fun x_46 e_47 => ?_)
      have te_47 : x_46.toInt = 4 * (tt : Int32).toInt := by rw [e_47, fb_mulI (by rw [show (4 : Int32).toInt = 4 from by decide]; omega) (by rw [show (4 : Int32).toInt = 4 from by decide]; omega), show (4 : Int32).toInt = 4 from by decide]
      refine lv_iload_n hx hb dX12_blameOf_43 rfl (lv_at hl 0 rfl) ?_
      refine lv_iadd hx hb dX12_blameOf_44 ?_
      refine lv_topi (fun x_48 e_49 => ?_)
      have te_49 : x_48.toInt = (x_46 : Int32).toInt + (x_2 : Int32).toInt := by rw [e_49]; exact fb_addI (by omega) (by omega)
      refine a_18 C hU hG (h1_18 hG) (x := x_48) (by omega) (by omega) dX12_blameOf_45 (fun x_50 e_51 le_51 ue_51 => ?_)
      have te_51 := congrArg Int32.toInt e_51
      refine lv_goto (tgt := 61) hx hb dX12_blameOf_46 (by decide) ?_
      exact J_61 x_50 _ _ _ (lv_sub hl [1] rfl) hU hS (by omega)
  ·
    refine lv_aload_n hx hb dX12_blameOf_10 rfl (lv_at hl 1 rfl) ?_
    refine lv_iload_n hx hb dX12_blameOf_11 rfl (lv_at hl 2 rfl) ?_
    refine q_pi (q_runV (t := 0) (i := 0) (As := [.int tt]) (rest := []) C hU (c_X12_lastLeg hG tt (by omega)) vm_X12_lastLeg ml_X12_232 k_0.1 (hc := rfl) rfl (h1_0 hG) hl.1 rfl rfl (Nat.le_of_ble_eq_true rfl) dX12_blameOf_12 rfl rfl ⟨Nat.le_of_ble_eq_true rfl, Nat.le_of_ble_eq_true rfl⟩ ⟨Nat.le_refl _, Nat.le_refl _⟩) hS (fun x_53 H locs hp_52 hU hS => ?_)
    refine lv_goto (tgt := 61) hx hb dX12_blameOf_15 (by decide) ?_
    exact J_61 x_53 _ _ _ (lv_sub hl [1] rfl) hU hS (by omega)
set_option maxHeartbeats 4000000 in
set_option maxRecDepth 100000 in
theorem c_X12_blame {l : Launch} {D : va_G} {cA : FieldType → ClassId} {sz : Nat} {al : Al} {iv : Iv} {rv : Rv} (hG : GI al iv rv) (tt : Int32) : Met l yX12_blame (wd yX12_blame cX12_blame 2 (some .int)) (rm 8) (PcW D cA sz al iv rv [.ref (al.2 0 0), .int tt]) (QI D cA sz al (fI al ([16, 17], []) iv rv (fun r iv' rv' => True))) 0 0 (Aq sz) := by
  refine mk_i (by decide) (Nat.le_of_ble_eq_true rfl) rfl ?_
  intro p e s m args below meth c ls Q H locs C hU hS hl hret
  have hx := C.1.1
  have hb := C.1.2.1
  have hl : lv_has ls 2 [(0, .ref (al.2 0 0)), (1, .int tt)] := hl
  have hG0 := hG
  have h6 := le6 hG
  have h20 := le20 hG
  have h41 := le41 hG
  have hF1 : FR ([16, 17], []) iv iv := FR.rf
  have hF2 : FR ([16, 17], []) rv rv := FR.rf
  have km1 : ((-1) : Int32).toInt = -1 := by decide
  refine lv_aload_n hx hb dX12_blame_0 rfl (lv_at hl 0 rfl) ?_
  refine lv_iload_n hx hb dX12_blame_1 rfl (lv_at hl 1 rfl) ?_
  refine q_pi (q_runV (t := 0) (i := 0) (As := [.int tt]) (rest := []) C hU (c_X12_isTraveller hG tt ) vm_X12_isTraveller ml_X12_226 k_0.1 (hc := rfl) rfl (h1_0 hG) hl.1 rfl rfl (Nat.le_of_ble_eq_true rfl) dX12_blame_2 rfl rfl ⟨Nat.le_of_ble_eq_true rfl, Nat.le_of_ble_eq_true rfl⟩ ⟨Nat.le_refl _, Nat.le_refl _⟩) hS (fun x_2 H locs hp_1 hU hS => ?_)
  refine b_if_eq (tgt := 16) hx hb dX12_blame_5 (by decide) (fun c_3 => ?_) (fun c_3 => ?_)
  ·
    refine lv_aload_n hx hb dX12_blame_16 rfl (lv_at hl 0 rfl) ?_
    refine lv_iconst (v := (-1)) hx hb dX12_blame_17 (by decide) ?_
    refine q_fi (q_runV (t := 0) (i := 0) (As := [.int (-1)]) (rest := []) C hU (c_X12_refuse hG (-1) (by omega)) vm_X12_refuse ml_X12_164 k_0.1 (hc := rfl) rfl (h1_0 hG) hl.1 rfl rfl (Nat.le_of_ble_eq_true rfl) dX12_blame_18 rfl rfl ⟨Nat.le_of_ble_eq_true rfl, Nat.le_of_ble_eq_true rfl⟩ ⟨Nat.le_refl _, Nat.le_refl _⟩) hS (fun x_9 iv_5 rv_6 H locs hG fa_7 fb_8 hp_4 hU hS => ?_)
    have hF1 := hF1.tr (m := ([16, 17], [])) fa_7 (by decide)
    have hF2 := hF2.tr (m := ([16, 17], [])) fb_8 (by decide)
    exact hret (⟨hG, hF1, hF2, trivial⟩) hU hS dX12_blame_21
  ·
    refine lv_aload_n hx hb dX12_blame_8 rfl (lv_at hl 0 rfl) ?_
    refine lv_iload_n hx hb dX12_blame_9 rfl (lv_at hl 1 rfl) ?_
    refine q_fi (q_runV (t := 0) (i := 0) (As := [.int tt]) (rest := []) C hU (c_X12_blameOf hG tt (by omega)) vm_X12_blameOf ml_X12_241 k_0.1 (hc := rfl) rfl (h1_0 hG) hl.1 rfl rfl (Nat.le_of_ble_eq_true rfl) dX12_blame_10 rfl rfl ⟨Nat.le_of_ble_eq_true rfl, Nat.le_of_ble_eq_true rfl⟩ ⟨Nat.le_refl _, Nat.le_refl _⟩) hS (fun x_15 iv_11 rv_12 H locs hG fa_13 fb_14 hp_10 hU hS => ?_)
    have hF1 := hF1.tr (m := ([16, 17], [])) fa_13 (by decide)
    have hF2 := hF2.tr (m := ([16, 17], [])) fb_14 (by decide)
    refine lv_goto (tgt := 21) hx hb dX12_blame_13 (by decide) ?_
    exact hret (⟨hG, hF1, hF2, trivial⟩) hU hS dX12_blame_21
