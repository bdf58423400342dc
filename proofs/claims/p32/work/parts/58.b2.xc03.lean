set_option maxHeartbeats 4000000 in
set_option maxRecDepth 100000 in
theorem c_X12_lawOf_x {l : Launch} {D : va_G} {cA : FieldType → ClassId} {sz : Nat} {al : Al} {iv : Iv} {rv : Rv} (hG : GI al iv rv) (tt : Int32) (d : Int32) (pre0 : 0 ≤ tt.toInt ∧ tt.toInt < (iv 0 0 20).toInt) : Met l yX12_lawOf (wd yX12_lawOf cX12_lawOf 5 (some .int)) (rm 1) (PcW D cA sz al iv rv [.ref (al.2 0 0), .int tt, .int d]) (QI D cA sz al (pI iv rv (fun r => (-9 ≤ r.toInt ∧ r.toInt ≤ 3) ∧ (r = lwF iv tt.toNatClampNeg d ∧ (r.toInt = -9 ∨ 0 ≤ r.toInt))))) 0 0 (Aq sz) := by
  refine mk_i (by decide) (Nat.le_of_ble_eq_true rfl) rfl ?_
  intro p e s m args below meth c ls Q H locs C hU hS hl hret
  have hx := C.1.1
  have hb := C.1.2.1
  have hl : lv_has ls 5 [(0, .ref (al.2 0 0)), (1, .int tt), (2, .int d)] := hl
  have hG0 := hG
  have h6 := le6 hG
  have h20 := le20 hG
  have h41 := le41 hG
  have h20 := le20 hG
  have km9 : ((-9) : Int32).toInt = -9 := by decide
  refine lv_aload_n hx hb dX12_lawOf_0 rfl (lv_at hl 0 rfl) ?_
  refine g_0_1 C hU hG (h1_0 hG) fl_X12_7 dX12_lawOf_1 ?_
  refine lv_aload_n hx hb dX12_lawOf_4 rfl (lv_at hl 0 rfl) ?_
  refine g_0_7 C hU hG (h1_0 hG) fl_X12_22 dX12_lawOf_5 ?_
  refine lv_aload_n hx hb dX12_lawOf_8 rfl (lv_at hl 0 rfl) ?_
  refine lv_iload_n hx hb dX12_lawOf_9 rfl (lv_at hl 1 rfl) ?_
  refine q_pi (q_runV (t := 0) (i := 0) (As := [.int tt]) (rest := [.ref (al.2 5 0), .ref (al.2 1 0)]) C hU (c_X12_firstLeg_x hG tt (by omega)) vm_X12_firstLeg ml_X12_253 k_0.1 (hc := rfl) rfl (h1_0 hG) hl.1 rfl rfl (Nat.le_of_ble_eq_true rfl) dX12_lawOf_10 rfl rfl ⟨Nat.le_of_ble_eq_true rfl, Nat.le_of_ble_eq_true rfl⟩ ⟨Nat.le_refl _, Nat.le_refl _⟩) hS (fun x_2 H locs hp_1 hU hS => ?_)
  refine a_5 C hU hG (h1_5 hG) (x := x_2) (by omega) (by omega) dX12_lawOf_13 (fun x_3 e_4 le_4 ue_4 => ?_)
  have te_4 := congrArg Int32.toInt e_4
  have h13 := e_4
  rw [hp_1.2] at h13
  refine a_1 C hU hG (h1_1 hG) (x := x_3) (by omega) (by omega) dX12_lawOf_14 (fun x_5 e_6 le_6 ue_6 => ?_)
  have te_6 := congrArg Int32.toInt e_6
  have h14 := e_6
  rw [h13] at h14
  refine lv_istore_n (lv' := [(3, .int x_5), (0, .ref (al.2 0 0)), (1, .int tt), (2, .int d)]) hx hb dX12_lawOf_15 rfl hl (by decide) rfl (fun ls hl => ?_)
  refine lv_aload_n hx hb dX12_lawOf_16 rfl (lv_at hl 1 rfl) ?_
  refine g_0_1 C hU hG (h1_0 hG) fl_X12_7 dX12_lawOf_17 ?_
  refine lv_aload_n hx hb dX12_lawOf_20 rfl (lv_at hl 1 rfl) ?_
  refine g_0_8 C hU hG (h1_0 hG) fl_X12_25 dX12_lawOf_21 ?_
  refine lv_aload_n hx hb dX12_lawOf_24 rfl (lv_at hl 1 rfl) ?_
  refine lv_iload_n hx hb dX12_lawOf_25 rfl (lv_at hl 2 rfl) ?_
  refine q_pi (q_runV (t := 0) (i := 0) (As := [.int tt]) (rest := [.ref (al.2 6 0), .ref (al.2 1 0)]) C hU (c_X12_lastLeg_x hG tt (by omega)) vm_X12_lastLeg ml_X12_232 k_0.1 (hc := rfl) rfl (h1_0 hG) hl.1 rfl rfl (Nat.le_of_ble_eq_true rfl) dX12_lawOf_26 rfl rfl ⟨Nat.le_of_ble_eq_true rfl, Nat.le_of_ble_eq_true rfl⟩ ⟨Nat.le_refl _, Nat.le_refl _⟩) hS (fun x_8 H locs hp_7 hU hS => ?_)
  refine a_6 C hU hG (h1_6 hG) (x := x_8) (by omega) (by omega) dX12_lawOf_29 (fun x_9 e_10 le_10 ue_10 => ?_)
  have te_10 := congrArg Int32.toInt e_10
  have h29 := e_10
  rw [hp_7.2] at h29
  refine a_1 C hU hG (h1_1 hG) (x := x_9) (by omega) (by omega) dX12_lawOf_30 (fun x_11 e_12 le_12 ue_12 => ?_)
  have te_12 := congrArg Int32.toInt e_12
  have h30 := e_12
  rw [h29] at h30
  refine lv_istore (lv' := [(4, .int x_11), (3, .int x_5), (0, .ref (al.2 0 0)), (1, .int tt), (2, .int d)]) hx hb dX12_lawOf_31 hl (by decide) rfl (fun ls hl => ?_)
  refine lv_aload_n hx hb dX12_lawOf_33 rfl (lv_at hl 2 rfl) ?_
  refine lv_iload_n hx hb dX12_lawOf_34 rfl (lv_at hl 1 rfl) ?_
  refine lv_iload_n hx hb dX12_lawOf_35 rfl (lv_at hl 4 rfl) ?_
  refine q_pi (q_runV (t := 0) (i := 0) (As := [.int x_5, .int d]) (rest := []) C hU (c_X12_hasLaw_x hG x_5 d ) vm_X12_hasLaw ml_X12_256 k_0.1 (hc := rfl) rfl (h1_0 hG) hl.1 rfl rfl (Nat.le_of_ble_eq_true rfl) dX12_lawOf_36 rfl rfl ⟨Nat.le_of_ble_eq_true rfl, Nat.le_of_ble_eq_true rfl⟩ ⟨Nat.le_refl _, Nat.le_refl _⟩) hS (fun x_14 H locs hp_13 hU hS => ?_)
  have h36 := hp_13.2
  have t36 := congrArg Int32.toInt h36
  rw [h14] at t36
  refine b_if_eq (tgt := 46) hx hb dX12_lawOf_39 (by decide) (fun c_15 => ?_) (fun c_15 => ?_)
  ·
    refine lv_aload_n hx hb dX12_lawOf_46 rfl (lv_at hl 2 rfl) ?_
    refine lv_iload hx hb dX12_lawOf_47 (lv_at hl 0 rfl) ?_
    refine lv_iload_n hx hb dX12_lawOf_49 rfl (lv_at hl 4 rfl) ?_
    refine q_pi (q_runV (t := 0) (i := 0) (As := [.int x_11, .int d]) (rest := []) C hU (c_X12_hasLaw_x hG x_11 d ) vm_X12_hasLaw ml_X12_256 k_0.1 (hc := rfl) rfl (h1_0 hG) hl.1 rfl rfl (Nat.le_of_ble_eq_true rfl) dX12_lawOf_50 rfl rfl ⟨Nat.le_of_ble_eq_true rfl, Nat.le_of_ble_eq_true rfl⟩ ⟨Nat.le_refl _, Nat.le_refl _⟩) hS (fun x_17 H locs hp_16 hU hS => ?_)
    have h50 := hp_16.2
    have t50 := congrArg Int32.toInt h50
    rw [h30] at t50
    refine b_if_eq (tgt := 61) hx hb dX12_lawOf_53 (by decide) (fun c_18 => ?_) (fun c_18 => ?_)
    ·
      refine lv_bipush (v := (-9)) hx hb dX12_lawOf_61 (by decide) ?_
      exact hret (⟨rfl, rfl, ⟨⟨by omega, by omega⟩, ⟨by unfold lwF; first | (rw [if_neg (by omega), if_neg (by omega)]; done) | (rw [if_neg (by omega), if_pos (by omega)]; exact h30) | (rw [if_pos (by omega)]; exact h14), by omega⟩⟩⟩) hU hS dX12_lawOf_63
    ·
      refine lv_iload hx hb dX12_lawOf_56 (lv_at hl 0 rfl) ?_
      refine lv_goto (tgt := 63) hx hb dX12_lawOf_58 (by decide) ?_
      exact hret (⟨rfl, rfl, ⟨⟨by omega, by omega⟩, ⟨by unfold lwF; first | (rw [if_neg (by omega), if_neg (by omega)]; done) | (rw [if_neg (by omega), if_pos (by omega)]; exact h30) | (rw [if_pos (by omega)]; exact h14), by omega⟩⟩⟩) hU hS dX12_lawOf_63
  ·
    refine lv_iload_n hx hb dX12_lawOf_42 rfl (lv_at hl 1 rfl) ?_
    refine lv_goto (tgt := 63) hx hb dX12_lawOf_43 (by decide) ?_
    exact hret (⟨rfl, rfl, ⟨⟨by omega, by omega⟩, ⟨by unfold lwF; first | (rw [if_neg (by omega), if_neg (by omega)]; done) | (rw [if_neg (by omega), if_pos (by omega)]; exact h30) | (rw [if_pos (by omega)]; exact h14), by omega⟩⟩⟩) hU hS dX12_lawOf_63
set_option maxHeartbeats 4000000 in
set_option maxRecDepth 100000 in
theorem c_X12_isExcused_x {l : Launch} {D : va_G} {cA : FieldType → ClassId} {sz : Nat} {al : Al} {iv : Iv} {rv : Rv} (hG : GI al iv rv) (tt : Int32) (d : Int32) (pre0 : 0 ≤ tt.toInt ∧ tt.toInt < (iv 0 0 20).toInt) (pre1 : BT iv rv) : Met l yX12_isExcused (wd yX12_isExcused cX12_isExcused 9 (some .boolean)) (rm 8) (PcW D cA sz al iv rv [.ref (al.2 0 0), .int tt, .int d]) (QI D cA sz al (fI al ([17], []) iv rv (fun r iv' rv' => (0 ≤ r.toInt ∧ r.toInt ≤ 1) ∧ (r = exF iv tt.toNatClampNeg d)))) 0 0 (Aq sz) := by
  refine mk_z (by decide) (Nat.le_of_ble_eq_true rfl) rfl ?_
  intro p e s m args below meth c ls Q H locs C hU hS hl hret
  have hx := C.1.1
  have hb := C.1.2.1
  have hl : lv_has ls 9 [(0, .ref (al.2 0 0)), (1, .int tt), (2, .int d)] := hl
  have hG0 := hG
  have h6 := le6 hG
  have h20 := le20 hG
  have h41 := le41 hG
  have h20 := le20 hG
  have l30 := le30 hG
  have hF1 : FR ([17], []) iv iv := FR.rf
  have hF2 : FR ([17], []) rv rv := FR.rf
  have k0 : (0 : Int32).toInt = 0 := by decide
  have k1 : (1 : Int32).toInt = 1 := by decide
  have k1440 : (1440 : Int32).toInt = 1440 := by decide
  refine lv_aload_n hx hb dX12_isExcused_0 rfl (lv_at hl 0 rfl) ?_
  refine lv_iload_n hx hb dX12_isExcused_1 rfl (lv_at hl 1 rfl) ?_
  refine lv_iload_n hx hb dX12_isExcused_2 rfl (lv_at hl 2 rfl) ?_
  refine q_pi (q_runV (t := 0) (i := 0) (As := [.int tt, .int d]) (rest := []) C hU (c_X12_lawOf_x hG tt d (by omega)) vm_X12_lawOf ml_X12_260 k_0.1 (hc := rfl) rfl (h1_0 hG) hl.1 rfl rfl (Nat.le_of_ble_eq_true rfl) dX12_isExcused_3 rfl rfl ⟨Nat.le_of_ble_eq_true rfl, Nat.le_of_ble_eq_true rfl⟩ ⟨Nat.le_refl _, Nat.le_refl _⟩) hS (fun x_2 H locs hp_1 hU hS => ?_)
  refine lv_istore_n (lv' := [(3, .int x_2), (0, .ref (al.2 0 0)), (1, .int tt), (2, .int d)]) hx hb dX12_isExcused_6 rfl hl (by decide) rfl (fun ls hl => ?_)
  refine lv_aload_n hx hb dX12_isExcused_7 rfl (lv_at hl 1 rfl) ?_
  refine lv_iload_n hx hb dX12_isExcused_8 rfl (lv_at hl 2 rfl) ?_
  refine q_fi (q_runV (t := 0) (i := 0) (As := [.int tt]) (rest := []) C hU (c_X12_blameOf_x hG tt (by omega) (pre1)) vm_X12_blameOf ml_X12_241 k_0.1 (hc := rfl) rfl (h1_0 hG) hl.1 rfl rfl (Nat.le_of_ble_eq_true rfl) dX12_isExcused_9 rfl rfl ⟨Nat.le_of_ble_eq_true rfl, Nat.le_of_ble_eq_true rfl⟩ ⟨Nat.le_refl _, Nat.le_refl _⟩) hS (fun x_8 iv_4 rv_5 H locs hG fa_6 fb_7 hp_3 hU hS => ?_)
  have hF1 := hF1.tr (m := ([17], [])) fa_6 (by decide)
  have hF2 := hF2.tr (m := ([17], [])) fb_7 (by decide)
  have kf_9 := congrArg Int32.toInt (hF1 0 0 20 (by decide))
  refine lv_istore (lv' := [(4, .int x_8), (3, .int x_2), (0, .ref (al.2 0 0)), (1, .int tt), (2, .int d)]) hx hb dX12_isExcused_12 hl (by decide) rfl (fun ls hl => ?_)
  refine lv_aload_n hx hb dX12_isExcused_14 rfl (lv_at hl 2 rfl) ?_
  refine g_0_11 C hU hG (h1_0 hG) fl_X12_34 dX12_isExcused_15 ?_
  refine lv_aload_n hx hb dX12_isExcused_18 rfl (lv_at hl 2 rfl) ?_
  refine lv_iload_n hx hb dX12_isExcused_19 rfl (lv_at hl 3 rfl) ?_
  refine q_pi (q_runV (t := 0) (i := 0) (As := [.int tt]) (rest := [.ref (al.2 9 0)]) C hU (c_X12_firstLeg_x hG tt (by omega)) vm_X12_firstLeg ml_X12_253 k_0.1 (hc := rfl) rfl (h1_0 hG) hl.1 rfl rfl (Nat.le_of_ble_eq_true rfl) dX12_isExcused_20 rfl rfl ⟨Nat.le_of_ble_eq_true rfl, Nat.le_of_ble_eq_true rfl⟩ ⟨Nat.le_refl _, Nat.le_refl _⟩) hS (fun x_11 H locs hp_10 hU hS => ?_)
  refine a_9 C hU hG (h1_9 hG) (x := x_11) (by omega) (by omega) dX12_isExcused_23 (fun x_12 e_13 le_13 ue_13 => ?_)
  have te_13 := congrArg Int32.toInt e_13
  have ne_13 : x_12.toInt = (iv 9 0 (x_11 : Int32).toNatClampNeg).toInt := by rw [e_13, hF1.arr 9 0 (x_11 : Int32).toNatClampNeg (by decide)]
  have h23 := e_13
  rw [hp_10.2, rwL_17 (fr17 hF1), fr17 hF1 9 0 _ (by decide)] at h23
  refine lv_sipush (v := 1440) hx hb dX12_isExcused_24 (by decide) ?_
  refine lv_idiv hx hb dX12_isExcused_27 (by decide) ?_
  refine lv_topi (fun x_14 e_15 => ?_)
  have te_15 : 0 ≤ x_14.toInt ∧ x_14.toInt ≤ (x_12 : Int32).toInt := by rw [e_15]; exact div_rng (by omega) (by omega)
  have h27 := e_15
  rw [h23] at h27
  refine lv_istore (lv' := [(5, .int x_14), (4, .int x_8), (3, .int x_2), (0, .ref (al.2 0 0)), (1, .int tt), (2, .int d)]) hx hb dX12_isExcused_28 hl (by decide) rfl (fun ls hl => ?_)
  refine lv_iconst (v := 0) hx hb dX12_isExcused_30 (by decide) ?_
  refine lv_istore (lv' := [(6, .int 0), (5, .int x_14), (4, .int x_8), (3, .int x_2), (0, .ref (al.2 0 0)), (1, .int tt), (2, .int d)]) hx hb dX12_isExcused_31 hl (by decide) rfl (fun ls hl => ?_)
  refine lv_iconst (v := 0) hx hb dX12_isExcused_33 (by decide) ?_
  refine lv_istore (lv' := [(7, .int 0), (6, .int 0), (5, .int x_14), (4, .int x_8), (3, .int x_2), (0, .ref (al.2 0 0)), (1, .int tt), (2, .int d)]) hx hb dX12_isExcused_34 hl (by decide) rfl (fun ls hl => ?_)
  have J_36 : ∀ (n_36 : Nat) (l6_16 : Int32) (l7_17 : Int32) (ls : Array Slot), lv_has ls 9 [(0, .ref (al.2 0 0)), (3, .int x_2), (4, .int x_8), (5, .int x_14), (6, .int l6_16), (7, .int l7_17)] → (0 ≤ l6_16.toInt ∧ l6_16.toInt ≤ 1) → (0 ≤ l7_17.toInt ∧ l7_17.toInt ≤ 40) → l6_16 = exN iv x_2.toInt x_8.toInt x_14.toInt l7_17.toNatClampNeg → l7_17.toInt ≤ (iv 0 0 30).toInt → (40 - l7_17.toInt).toNat < n_36 → W p l e (rm 8) s m args below meth c H locs 0 0 Q (F0 m 36 ls []) := by
    intro n_36
    induction n_36 with
    | zero =>
      intro l6_16 l7_17 ls hl i36_0 i36_1 i36_2 i36_3 hm_36
      exact absurd hm_36 (Nat.not_lt_zero _)
    | succ n_36 ih_36 =>
      intro l6_16 l7_17 ls hl i36_0 i36_1 i36_2 i36_3 hm_36
      refine lv_iload hx hb dX12_isExcused_36 (lv_at hl 5 rfl) ?_
      refine lv_aload_n hx hb dX12_isExcused_38 rfl (lv_at hl 0 rfl) ?_
      refine g_0_30 C hU hG (h1_0 hG) fl_X12_250 dX12_isExcused_39 (fun x_18 e_19 le_19 ue_19 => ?_)
      have te_19 := congrArg Int32.toInt e_19
      have ne_19 : x_18.toInt = (iv 0 0 30).toInt := by rw [e_19, hF1 0 0 30 (by decide)]
      refine b_icmp_ge (tgt := 124) hx hb dX12_isExcused_42 (by decide) (fun c_20 => ?_) (fun c_20 => ?_)
      ·
        refine lv_iload hx hb dX12_isExcused_124 (lv_at hl 4 rfl) ?_
        exact hret (by omega) (by omega) (⟨hG, hF1, hF2, ⟨⟨by omega, by omega⟩, by unfold exF; rw [i36_2, clamp_eq (show (l7_17 : Int32).toInt = (iv 0 0 30).toInt by omega), hp_1.2.1, hp_3.2, h27]⟩⟩) hU hS dX12_isExcused_126
      ·
        refine lv_aload_n hx hb dX12_isExcused_45 rfl (lv_at hl 0 rfl) ?_
        refine g_0_31 C hU hG (h1_0 hG) fl_X12_86 dX12_isExcused_46 ?_
        refine lv_iload hx hb dX12_isExcused_49 (lv_at hl 5 rfl) ?_
        refine a_26 C hU hG (h1_26 hG) (x := l7_17) (by omega) (by omega) dX12_isExcused_51 (fun x_21 e_22 le_22 ue_22 => ?_)
        have te_22 := congrArg Int32.toInt e_22
        have ne_22 : x_21.toInt = (iv 26 0 (l7_17 : Int32).toNatClampNeg).toInt := by rw [e_22, hF1.arr 26 0 (l7_17 : Int32).toNatClampNeg (by decide)]
        refine lv_iload_n hx hb dX12_isExcused_52 rfl (lv_at hl 1 rfl) ?_
        have J_97 : ∀ (v_23 : Int32) (ls : Array Slot), lv_has ls 9 [(0, .ref (al.2 0 0)), (3, .int x_2), (4, .int x_8), (5, .int x_14), (6, .int l6_16), (7, .int l7_17)] → (0 ≤ v_23.toInt ∧ v_23.toInt ≤ 1) → ((v_23.toInt = 1 ∧ ((iv 26 0 l7_17.toNatClampNeg).toInt = x_2.toInt ∧ (iv 27 0 l7_17.toNatClampNeg).toInt = x_8.toInt ∧ (iv 29 0 l7_17.toNatClampNeg).toInt ≤ x_14.toInt ∧ (iv 28 0 l7_17.toNatClampNeg).toInt ≤ x_14.toInt)) ∨ (v_23.toInt = 0 ∧ ¬ ((iv 26 0 l7_17.toNatClampNeg).toInt = x_2.toInt ∧ (iv 27 0 l7_17.toNatClampNeg).toInt = x_8.toInt ∧ (iv 29 0 l7_17.toNatClampNeg).toInt ≤ x_14.toInt ∧ (iv 28 0 l7_17.toNatClampNeg).toInt ≤ x_14.toInt))) → W p l e (rm 8) s m args below meth c H locs 0 0 Q (F0 m 97 ls [.int v_23]) := by
          intro v_23 ls hl i97_0 i97_1
          refine lv_istore (lv' := [(8, .int v_23), (0, .ref (al.2 0 0)), (3, .int x_2), (4, .int x_8), (5, .int x_14), (6, .int l6_16), (7, .int l7_17)]) hx hb dX12_isExcused_97 hl (by decide) rfl (fun ls hl => ?_)
          refine lv_iload hx hb dX12_isExcused_99 (lv_at hl 0 rfl) ?_
          have J_116 : ∀ (v_24 : Int32) (ls : Array Slot), lv_has ls 9 [(0, .ref (al.2 0 0)), (3, .int x_2), (4, .int x_8), (5, .int x_14), (7, .int l7_17)] → (0 ≤ v_24.toInt ∧ v_24.toInt ≤ 1) → v_24 = exN iv x_2.toInt x_8.toInt x_14.toInt (l7_17.toNatClampNeg + 1) → W p l e (rm 8) s m args below meth c H locs 0 0 Q (F0 m 116 ls [.int v_24]) := by
            intro v_24 ls hl i116_0 i116_1
            refine lv_istore (lv' := [(6, .int v_24), (0, .ref (al.2 0 0)), (3, .int x_2), (4, .int x_8), (5, .int x_14), (7, .int l7_17)]) hx hb dX12_isExcused_116 hl (by decide) rfl (fun ls hl => ?_)
            obtain ⟨x_25, e_26⟩ : ∃ y : Int32, y = l7_17 + 1 := ⟨_, rfl⟩
            have te_26 : x_25.toInt = (l7_17 : Int32).toInt + (1 : Int32).toInt := by rw [e_26]; exact fb_addI (by omega) (by omega)
            refine lv_iinc (v := x_25) (lv' := [(7, .int x_25), (6, .int v_24), (0, .ref (al.2 0 0)), (3, .int x_2), (4, .int x_8), (5, .int x_14)]) hx hb dX12_isExcused_118 hl (k := 5) rfl (by rw [e_26]; rfl) (by decide) rfl (fun ls hl => ?_)
            refine lv_goto (tgt := 36) hx hb dX12_isExcused_121 (by decide) ?_
            exact ih_36 v_24 x_25 _ (lv_sub hl [2, 3, 4, 5, 1, 0] rfl) (by omega) (by omega) (by first | exact ex_up (by omega) (by omega) i116_1 | exact ex_0) (by omega) (by omega)
          refine b_if_eq (tgt := 114) hx hb dX12_isExcused_101 (by decide) (fun c_27 => ?_) (fun c_27 => ?_)
          ·
            refine lv_iload hx hb dX12_isExcused_114 (lv_at hl 5 rfl) ?_
            exact J_116 l6_16 _ (lv_sub hl [1, 2, 3, 4, 6] rfl) (by omega) (by first | exact ex_y i36_2 i97_1 (by omega) (True.intro.trans (fr17 hF1 30 0 _ (by decide))) | exact ex_n i36_2 i97_1 (by omega))
          ·
            refine lv_aload_n hx hb dX12_isExcused_104 rfl (lv_at hl 1 rfl) ?_
            refine g_0_35 C hU hG (h1_0 hG) fl_X12_98 dX12_isExcused_105 ?_
            refine lv_iload hx hb dX12_isExcused_108 (lv_at hl 6 rfl) ?_
            refine a_30 C hU hG (h1_30 hG) (x := l7_17) (by omega) (by omega) dX12_isExcused_110 (fun x_28 e_29 le_29 ue_29 => ?_)
            have te_29 := congrArg Int32.toInt e_29
            have ne_29 : x_28.toInt = (iv 30 0 (l7_17 : Int32).toNatClampNeg).toInt := by rw [e_29, hF1.arr 30 0 (l7_17 : Int32).toNatClampNeg (by decide)]
            refine lv_goto (tgt := 116) hx hb dX12_isExcused_111 (by decide) ?_
            exact J_116 x_28 _ (lv_sub hl [1, 2, 3, 4, 6] rfl) (by omega) (by first | exact ex_y i36_2 i97_1 (by omega) (e_29.trans (fr17 hF1 30 0 _ (by decide))) | exact ex_n i36_2 i97_1 (by omega))
        have J_96 : ∀ (ls : Array Slot), lv_has ls 9 [(0, .ref (al.2 0 0)), (3, .int x_2), (4, .int x_8), (5, .int x_14), (6, .int l6_16), (7, .int l7_17)] → (¬ ((iv 26 0 l7_17.toNatClampNeg).toInt = x_2.toInt ∧ (iv 27 0 l7_17.toNatClampNeg).toInt = x_8.toInt ∧ (iv 29 0 l7_17.toNatClampNeg).toInt ≤ x_14.toInt ∧ (iv 28 0 l7_17.toNatClampNeg).toInt ≤ x_14.toInt)) → W p l e (rm 8) s m args below meth c H locs 0 0 Q (F0 m 96 ls []) := by
          intro ls hl i96_0
          refine lv_iconst (v := 0) hx hb dX12_isExcused_96 (by decide) ?_
          exact J_97 0 _ (lv_sub hl [0, 1, 2, 3, 4, 5] rfl) (by omega) (by omega)
        refine b_icmp_ne (tgt := 96) hx hb dX12_isExcused_53 (by decide) (fun c_30 => ?_) (fun c_30 => ?_)
        ·
          exact J_96 _ (lv_sub hl [0, 1, 2, 3, 4, 5] rfl) (by omega)
        ·
          refine lv_aload_n hx hb dX12_isExcused_56 rfl (lv_at hl 0 rfl) ?_
          refine g_0_32 C hU hG (h1_0 hG) fl_X12_89 dX12_isExcused_57 ?_
          refine lv_iload hx hb dX12_isExcused_60 (lv_at hl 5 rfl) ?_
          refine a_27 C hU hG (h1_27 hG) (x := l7_17) (by omega) (by omega) dX12_isExcused_62 (fun x_31 e_32 le_32 ue_32 => ?_)
          have te_32 := congrArg Int32.toInt e_32
          have ne_32 : x_31.toInt = (iv 27 0 (l7_17 : Int32).toNatClampNeg).toInt := by rw [e_32, hF1.arr 27 0 (l7_17 : Int32).toNatClampNeg (by decide)]
          refine lv_iload hx hb dX12_isExcused_63 (lv_at hl 2 rfl) ?_
          refine b_icmp_ne (tgt := 96) hx hb dX12_isExcused_65 (by decide) (fun c_33 => ?_) (fun c_33 => ?_)
          ·
            exact J_96 _ (lv_sub hl [0, 1, 2, 3, 4, 5] rfl) (by omega)
          ·
            refine lv_aload_n hx hb dX12_isExcused_68 rfl (lv_at hl 0 rfl) ?_
            refine g_0_34 C hU hG (h1_0 hG) fl_X12_95 dX12_isExcused_69 ?_
            refine lv_iload hx hb dX12_isExcused_72 (lv_at hl 5 rfl) ?_
            refine a_29 C hU hG (h1_29 hG) (x := l7_17) (by omega) (by omega) dX12_isExcused_74 (fun x_34 e_35 le_35 ue_35 => ?_)
            have te_35 := congrArg Int32.toInt e_35
            have ne_35 : x_34.toInt = (iv 29 0 (l7_17 : Int32).toNatClampNeg).toInt := by rw [e_35, hF1.arr 29 0 (l7_17 : Int32).toNatClampNeg (by decide)]
            refine lv_iload hx hb dX12_isExcused_75 (lv_at hl 3 rfl) ?_
            refine b_icmp_gt (tgt := 96) hx hb dX12_isExcused_77 (by decide) (fun c_36 => ?_) (fun c_36 => ?_)
            ·
              exact J_96 _ (lv_sub hl [0, 1, 2, 3, 4, 5] rfl) (by omega)
            ·
              refine lv_aload_n hx hb dX12_isExcused_80 rfl (lv_at hl 0 rfl) ?_
              refine g_0_33 C hU hG (h1_0 hG) fl_X12_92 dX12_isExcused_81 ?_
              refine lv_iload hx hb dX12_isExcused_84 (lv_at hl 5 rfl) ?_
              refine a_28 C hU hG (h1_28 hG) (x := l7_17) (by omega) (by omega) dX12_isExcused_86 (fun x_37 e_38 le_38 ue_38 => ?_)
              have te_38 := congrArg Int32.toInt e_38
              have ne_38 : x_37.toInt = (iv 28 0 (l7_17 : Int32).toNatClampNeg).toInt := by rw [e_38, hF1.arr 28 0 (l7_17 : Int32).toNatClampNeg (by decide)]
              refine lv_iload hx hb dX12_isExcused_87 (lv_at hl 3 rfl) ?_
              refine b_icmp_gt (tgt := 96) hx hb dX12_isExcused_89 (by decide) (fun c_39 => ?_) (fun c_39 => ?_)
              ·
                exact J_96 _ (lv_sub hl [0, 1, 2, 3, 4, 5] rfl) (by omega)
              ·
                refine lv_iconst (v := 1) hx hb dX12_isExcused_92 (by decide) ?_
                refine lv_goto (tgt := 97) hx hb dX12_isExcused_93 (by decide) ?_
                exact J_97 1 _ (lv_sub hl [0, 1, 2, 3, 4, 5] rfl) (by omega) (by omega)
  exact J_36 _ 0 0 _ (lv_sub hl [5, 4, 3, 2, 1, 0] rfl) (by omega) (by omega) (by first | exact ex_up (by omega) (by omega) i116_1 | exact ex_0) (by omega) (Nat.lt_succ_self _)
set_option maxHeartbeats 4000000 in
set_option maxRecDepth 100000 in
theorem c_X12_milesOf_x {l : Launch} {D : va_G} {cA : FieldType → ClassId} {sz : Nat} {al : Al} {iv : Iv} {rv : Rv} (hG : GI al iv rv) (tt : Int32) (pre0 : 0 ≤ tt.toInt ∧ tt.toInt < (iv 0 0 20).toInt) : Met l yX12_milesOf (wd yX12_milesOf cX12_milesOf 2 (some .int)) (rm 1) (PcW D cA sz al iv rv [.ref (al.2 0 0), .int tt]) (QI D cA sz al (pI iv rv (fun r => r = miF iv tt.toNatClampNeg))) 0 0 (Aq sz) := by
  refine mk_i (by decide) (Nat.le_of_ble_eq_true rfl) rfl ?_
  intro p e s m args below meth c ls Q H locs C hU hS hl hret
  have hx := C.1.1
  have hb := C.1.2.1
  have hl : lv_has ls 2 [(0, .ref (al.2 0 0)), (1, .int tt)] := hl
  have hG0 := hG
  have h6 := le6 hG
  have h20 := le20 hG
  have h41 := le41 hG
  have h20 := le20 hG
  have k10 : (10 : Int32).toInt = 10 := by decide
  refine lv_aload_n hx hb dX12_milesOf_0 rfl (lv_at hl 0 rfl) ?_
  refine g_0_2 C hU hG (h1_0 hG) fl_X12_13 dX12_milesOf_1 ?_
  refine lv_bipush (v := 10) hx hb dX12_milesOf_4 (by decide) ?_
  refine lv_aload_n hx hb dX12_milesOf_6 rfl (lv_at hl 0 rfl) ?_
  refine g_0_7 C hU hG (h1_0 hG) fl_X12_22 dX12_milesOf_7 ?_
  refine lv_aload_n hx hb dX12_milesOf_10 rfl (lv_at hl 0 rfl) ?_
  refine lv_iload_n hx hb dX12_milesOf_11 rfl (lv_at hl 1 rfl) ?_
  refine q_pi (q_runV (t := 0) (i := 0) (As := [.int tt]) (rest := [.ref (al.2 5 0), .int 10, .ref (al.2 2 0)]) C hU (c_X12_firstLeg_x hG tt (by omega)) vm_X12_firstLeg ml_X12_253 k_0.1 (hc := rfl) rfl (h1_0 hG) hl.1 rfl rfl (Nat.le_of_ble_eq_true rfl) dX12_milesOf_12 rfl rfl ⟨Nat.le_of_ble_eq_true rfl, Nat.le_of_ble_eq_true rfl⟩ ⟨Nat.le_refl _, Nat.le_refl _⟩) hS (fun x_2 H locs hp_1 hU hS => ?_)
  refine a_5 C hU hG (h1_5 hG) (x := x_2) (by omega) (by omega) dX12_milesOf_15 (fun x_3 e_4 le_4 ue_4 => ?_)
  have te_4 := congrArg Int32.toInt e_4
  have h15 := e_4
  rw [hp_1.2] at h15
  refine lv_imul hx hb dX12_milesOf_16 ?_
  refine lv_topi (fun x_5 e_6 => ?_)
  have te_6 : x_5.toInt = 10 * (x_3 : Int32).toInt := by rw [e_6, fb_mulI (by rw [show (10 : Int32).toInt = 10 from by decide]; omega) (by rw [show (10 : Int32).toInt = 10 from by decide]; omega), show (10 : Int32).toInt = 10 from by decide]
  refine lv_aload_n hx hb dX12_milesOf_17 rfl (lv_at hl 0 rfl) ?_
  refine g_0_8 C hU hG (h1_0 hG) fl_X12_25 dX12_milesOf_18 ?_
  refine lv_aload_n hx hb dX12_milesOf_21 rfl (lv_at hl 0 rfl) ?_
  refine lv_iload_n hx hb dX12_milesOf_22 rfl (lv_at hl 1 rfl) ?_
  refine q_pi (q_runV (t := 0) (i := 0) (As := [.int tt]) (rest := [.ref (al.2 6 0), .int x_5, .ref (al.2 2 0)]) C hU (c_X12_lastLeg_x hG tt (by omega)) vm_X12_lastLeg ml_X12_232 k_0.1 (hc := rfl) rfl (h1_0 hG) hl.1 rfl rfl (Nat.le_of_ble_eq_true rfl) dX12_milesOf_23 rfl rfl ⟨Nat.le_of_ble_eq_true rfl, Nat.le_of_ble_eq_true rfl⟩ ⟨Nat.le_refl _, Nat.le_refl _⟩) hS (fun x_8 H locs hp_7 hU hS => ?_)
  refine a_6 C hU hG (h1_6 hG) (x := x_8) (by omega) (by omega) dX12_milesOf_26 (fun x_9 e_10 le_10 ue_10 => ?_)
  have te_10 := congrArg Int32.toInt e_10
  have h26 := e_10
  rw [hp_7.2] at h26
  refine lv_iadd hx hb dX12_milesOf_27 ?_
  refine lv_topi (fun x_11 e_12 => ?_)
  have te_12 : x_11.toInt = (x_5 : Int32).toInt + (x_9 : Int32).toInt := by rw [e_12]; exact fb_addI (by omega) (by omega)
  refine a_2 C hU hG (h1_2 hG) (x := x_11) (by omega) (by omega) dX12_milesOf_28 (fun x_13 e_14 => ?_)
  have te_14 := congrArg Int32.toInt e_14
  exact hret (⟨rfl, rfl, mi_ok e_14 h15 h26 (by omega) (by omega)⟩) hU hS dX12_milesOf_29
set_option maxHeartbeats 4000000 in
set_option maxRecDepth 100000 in
theorem c_X12_sumOf_x {l : Launch} {D : va_G} {cA : FieldType → ClassId} {sz : Nat} {al : Al} {iv : Iv} {rv : Rv} (hG : GI al iv rv) (tt : Int32) (d : Int32) (pre0 : 0 ≤ tt.toInt ∧ tt.toInt < (iv 0 0 20).toInt) (pre1 : BT iv rv) : Met l yX12_sumOf (wd yX12_sumOf cX12_sumOf 8 (some .int)) (rm 9) (PcW D cA sz al iv rv [.ref (al.2 0 0), .int tt, .int d]) (QI D cA sz al (fI al ([17, 20], []) iv rv (fun r iv' rv' => r = smF iv tt.toNatClampNeg d))) 0 0 (Aq sz) := by
  refine mk_i (by decide) (Nat.le_of_ble_eq_true rfl) rfl ?_
  intro p e s m args below meth c ls Q H locs C hU hS hl hret
  have hx := C.1.1
  have hb := C.1.2.1
  have hl : lv_has ls 8 [(0, .ref (al.2 0 0)), (1, .int tt), (2, .int d)] := hl
  have hG0 := hG
  have h6 := le6 hG
  have h20 := le20 hG
  have h41 := le41 hG
  have h20 := le20 hG
  have l24 := le24 hG
  have hF1 : FR ([17, 20], []) iv iv := FR.rf
  have hF2 : FR ([17, 20], []) rv rv := FR.rf
  have k0 : (0 : Int32).toInt = 0 := by decide
  have k1 : (1 : Int32).toInt = 1 := by decide
  refine lv_aload_n hx hb dX12_sumOf_0 rfl (lv_at hl 0 rfl) ?_
  refine lv_iload_n hx hb dX12_sumOf_1 rfl (lv_at hl 1 rfl) ?_
  refine lv_iload_n hx hb dX12_sumOf_2 rfl (lv_at hl 2 rfl) ?_
  refine q_pi (q_runV (t := 0) (i := 0) (As := [.int tt, .int d]) (rest := []) C hU (c_X12_lawOf_x hG tt d (by omega)) vm_X12_lawOf ml_X12_260 k_0.1 (hc := rfl) rfl (h1_0 hG) hl.1 rfl rfl (Nat.le_of_ble_eq_true rfl) dX12_sumOf_3 rfl rfl ⟨Nat.le_of_ble_eq_true rfl, Nat.le_of_ble_eq_true rfl⟩ ⟨Nat.le_refl _, Nat.le_refl _⟩) hS (fun x_2 H locs hp_1 hU hS => ?_)
  refine lv_istore_n (lv' := [(3, .int x_2), (0, .ref (al.2 0 0)), (1, .int tt), (2, .int d)]) hx hb dX12_sumOf_6 rfl hl (by decide) rfl (fun ls hl => ?_)
  have hlw := hp_1.2.1
  have tlw := congrArg Int32.toInt hlw
  refine lv_iload_n hx hb dX12_sumOf_7 rfl (lv_at hl 0 rfl) ?_
  refine b_if_lt (tgt := 20) hx hb dX12_sumOf_8 (by decide) (fun c_3 => ?_) (fun c_3 => ?_)
  ·
    refine lv_iconst (v := 0) hx hb dX12_sumOf_20 (by decide) ?_
    exact hret (⟨hG, hF1, hF2, by unfold smF; rw [if_pos (by omega)]⟩) hU hS dX12_sumOf_21
  ·
    refine lv_aload_n hx hb dX12_sumOf_11 rfl (lv_at hl 1 rfl) ?_
    refine lv_iload_n hx hb dX12_sumOf_12 rfl (lv_at hl 2 rfl) ?_
    refine lv_iload_n hx hb dX12_sumOf_13 rfl (lv_at hl 3 rfl) ?_
    refine q_fi (q_runV (t := 0) (i := 0) (As := [.int tt, .int d]) (rest := []) C hU (c_X12_isExcused_x hG tt d (by omega) (pre1)) vm_X12_isExcused ml_X12_263 k_0.1 (hc := rfl) rfl (h1_0 hG) hl.1 rfl rfl (Nat.le_of_ble_eq_true rfl) dX12_sumOf_14 rfl rfl ⟨Nat.le_of_ble_eq_true rfl, Nat.le_of_ble_eq_true rfl⟩ ⟨Nat.le_refl _, Nat.le_refl _⟩) hS (fun x_9 iv_5 rv_6 H locs hG fa_7 fb_8 hp_4 hU hS => ?_)
    have hF1 := hF1.tr (m := ([17, 20], [])) fa_7 (by decide)
    have hF2 := hF2.tr (m := ([17, 20], [])) fb_8 (by decide)
    have kf_10 := congrArg Int32.toInt (hF1 0 0 20 (by decide))
    have hex := hp_4.2
    have tex := congrArg Int32.toInt hex
    have hFb := hF1
    refine b_if_eq (tgt := 22) hx hb dX12_sumOf_17 (by decide) (fun c_11 => ?_) (fun c_11 => ?_)
    ·
      refine lv_aload_n hx hb dX12_sumOf_22 rfl (lv_at hl 1 rfl) ?_
      refine lv_iload_n hx hb dX12_sumOf_23 rfl (lv_at hl 2 rfl) ?_
      refine q_fi (q_runV (t := 0) (i := 0) (As := [.int tt]) (rest := []) C hU (c_X12_hoursOf_x hG tt (by omega)) vm_X12_hoursOf ml_X12_238 k_0.1 (hc := rfl) rfl (h1_0 hG) hl.1 rfl rfl (Nat.le_of_ble_eq_true rfl) dX12_sumOf_24 rfl rfl ⟨Nat.le_of_ble_eq_true rfl, Nat.le_of_ble_eq_true rfl⟩ ⟨Nat.le_refl _, Nat.le_refl _⟩) hS (fun x_17 iv_13 rv_14 H locs hG fa_15 fb_16 hp_12 hU hS => ?_)
      have hF1 := hF1.tr (m := ([17, 20], [])) fa_15 (by decide)
      have hF2 := hF2.tr (m := ([17, 20], [])) fb_16 (by decide)
      have kf_18 := congrArg Int32.toInt (hF1 0 0 20 (by decide))
      have hho := hp_12.trans (ho_m (ma_fr hFb) _)
      refine lv_istore (lv' := [(4, .int x_17), (3, .int x_2), (0, .ref (al.2 0 0)), (1, .int tt), (2, .int d)]) hx hb dX12_sumOf_27 hl (by decide) rfl (fun ls hl => ?_)
      refine lv_iconst (v := 0) hx hb dX12_sumOf_29 (by decide) ?_
      refine lv_istore (lv' := [(5, .int 0), (4, .int x_17), (3, .int x_2), (0, .ref (al.2 0 0)), (1, .int tt), (2, .int d)]) hx hb dX12_sumOf_30 hl (by decide) rfl (fun ls hl => ?_)
      refine lv_iconst (v := 0) hx hb dX12_sumOf_32 (by decide) ?_
      refine lv_istore (lv' := [(6, .int 0), (5, .int 0), (4, .int x_17), (3, .int x_2), (0, .ref (al.2 0 0)), (1, .int tt), (2, .int d)]) hx hb dX12_sumOf_33 hl (by decide) rfl (fun ls hl => ?_)
      have J_35 : ∀ (n_35 : Nat) (l5_19 : Int32) (l6_20 : Int32) (H : Heap) (locs : List Loc) (ls : Array Slot), lv_has ls 8 [(0, .ref (al.2 0 0)), (1, .int tt), (2, .int d), (3, .int x_2), (4, .int x_17), (5, .int l5_19), (6, .int l6_20)] → UW D cA sz al iv_13 rv_14 H → va_S (Aq sz) s.heap H locs → (0 ≤ l6_20.toInt ∧ l6_20.toInt ≤ 30) → l5_19 = gsN iv x_2.toInt d.toInt x_17.toInt (miF iv tt.toNatClampNeg).toInt l6_20.toNatClampNeg → l6_20.toInt ≤ (iv 0 0 24).toInt → (30 - l6_20.toInt).toNat < n_35 → W p l e (rm 9) s m args below meth c H locs 0 0 Q (F0 m 35 ls []) := by
        intro n_35
        induction n_35 with
        | zero =>
          intro l5_19 l6_20 H locs ls hl hU hS i35_0 i35_1 i35_2 hm_35
          exact absurd hm_35 (Nat.not_lt_zero _)
        | succ n_35 ih_35 =>
          intro l5_19 l6_20 H locs ls hl hU hS i35_0 i35_1 i35_2 hm_35
          refine lv_iload hx hb dX12_sumOf_35 (lv_at hl 6 rfl) ?_
          refine lv_aload_n hx hb dX12_sumOf_37 rfl (lv_at hl 0 rfl) ?_
          refine g_0_24 C hU hG (h1_0 hG) fl_X12_247 dX12_sumOf_38 (fun x_21 e_22 le_22 ue_22 => ?_)
          have te_22 := congrArg Int32.toInt e_22
          have ne_22 : x_21.toInt = (iv 0 0 24).toInt := by rw [e_22, hF1 0 0 24 (by decide)]
          refine b_icmp_ge (tgt := 137) hx hb dX12_sumOf_41 (by decide) (fun c_23 => ?_) (fun c_23 => ?_)
          ·
            refine lv_iload hx hb dX12_sumOf_137 (lv_at hl 5 rfl) ?_
            exact hret (⟨hG, hF1, hF2, by unfold smF; rw [if_neg (by omega), i35_1, clamp_eq (show (l6_20 : Int32).toInt = (iv 0 0 24).toInt by omega), hlw, hho]⟩) hU hS dX12_sumOf_139
          ·
            refine lv_aload_n hx hb dX12_sumOf_44 rfl (lv_at hl 0 rfl) ?_
            refine g_0_25 C hU hG (h1_0 hG) fl_X12_71 dX12_sumOf_45 ?_
            refine lv_iload hx hb dX12_sumOf_48 (lv_at hl 6 rfl) ?_
            refine a_21 C hU hG (h1_21 hG) (x := l6_20) (by omega) (by omega) dX12_sumOf_50 (fun x_24 e_25 le_25 ue_25 => ?_)
            have te_25 := congrArg Int32.toInt e_25
            have ne_25 : x_24.toInt = (iv 21 0 (l6_20 : Int32).toNatClampNeg).toInt := by rw [e_25, hF1.arr 21 0 (l6_20 : Int32).toNatClampNeg (by decide)]
            refine lv_iload_n hx hb dX12_sumOf_51 rfl (lv_at hl 3 rfl) ?_
            have J_98 : ∀ (v_26 : Int32) (H : Heap) (locs : List Loc) (ls : Array Slot), lv_has ls 8 [(0, .ref (al.2 0 0)), (1, .int tt), (2, .int d), (3, .int x_2), (4, .int x_17), (5, .int l5_19), (6, .int l6_20)] → UW D cA sz al iv_13 rv_14 H → va_S (Aq sz) s.heap H locs → (0 ≤ v_26.toInt ∧ v_26.toInt ≤ 1) → ((v_26.toInt = 1 ∧ ((iv 21 0 l6_20.toNatClampNeg).toInt = x_2.toInt ∧ (iv 22 0 l6_20.toNatClampNeg).toInt ≤ d.toInt ∧ (iv 23 0 l6_20.toNatClampNeg).toInt ≤ x_17.toInt ∧ (iv 24 0 l6_20.toNatClampNeg).toInt ≤ (miF iv tt.toNatClampNeg).toInt)) ∨ (v_26.toInt = 0 ∧ ¬ ((iv 21 0 l6_20.toNatClampNeg).toInt = x_2.toInt ∧ (iv 22 0 l6_20.toNatClampNeg).toInt ≤ d.toInt ∧ (iv 23 0 l6_20.toNatClampNeg).toInt ≤ x_17.toInt ∧ (iv 24 0 l6_20.toNatClampNeg).toInt ≤ (miF iv tt.toNatClampNeg).toInt))) → W p l e (rm 9) s m args below meth c H locs 0 0 Q (F0 m 98 ls [.int v_26]) := by
              intro v_26 H locs ls hl hU hS i98_0 i98_1
              refine lv_istore (lv' := [(7, .int v_26), (0, .ref (al.2 0 0)), (1, .int tt), (2, .int d), (3, .int x_2), (4, .int x_17), (5, .int l5_19), (6, .int l6_20)]) hx hb dX12_sumOf_98 hl (by decide) rfl (fun ls hl => ?_)
              refine lv_iload hx hb dX12_sumOf_100 (lv_at hl 0 rfl) ?_
              have J_129 : ∀ (v_27 : Int32) (ls : Array Slot), lv_has ls 8 [(0, .ref (al.2 0 0)), (1, .int tt), (2, .int d), (3, .int x_2), (4, .int x_17), (6, .int l6_20)] → v_27 = gsN iv x_2.toInt d.toInt x_17.toInt (miF iv tt.toNatClampNeg).toInt (l6_20.toNatClampNeg + 1) → W p l e (rm 9) s m args below meth c H locs 0 0 Q (F0 m 129 ls [.int v_27]) := by
                intro v_27 ls hl i129_0
                refine lv_istore (lv' := [(5, .int v_27), (0, .ref (al.2 0 0)), (1, .int tt), (2, .int d), (3, .int x_2), (4, .int x_17), (6, .int l6_20)]) hx hb dX12_sumOf_129 hl (by decide) rfl (fun ls hl => ?_)
                obtain ⟨x_28, e_29⟩ : ∃ y : Int32, y = l6_20 + 1 := ⟨_, rfl⟩
                have te_29 : x_28.toInt = (l6_20 : Int32).toInt + (1 : Int32).toInt := by rw [e_29]; exact fb_addI (by omega) (by omega)
                refine lv_iinc (v := x_28) (lv' := [(6, .int x_28), (5, .int v_27), (0, .ref (al.2 0 0)), (1, .int tt), (2, .int d), (3, .int x_2), (4, .int x_17)]) hx hb dX12_sumOf_131 hl (k := 6) rfl (by rw [e_29]; rfl) (by decide) rfl (fun ls hl => ?_)
                refine lv_goto (tgt := 35) hx hb dX12_sumOf_134 (by decide) ?_
                exact ih_35 v_27 x_28 _ _ _ (lv_sub hl [2, 3, 4, 5, 6, 1, 0] rfl) hU hS (by omega) (by first | exact gs_up (by omega) (by omega) i129_0 | exact gs_0) (by omega) (by omega)
              have J_127 : ∀ (ls : Array Slot), lv_has ls 8 [(0, .ref (al.2 0 0)), (1, .int tt), (2, .int d), (3, .int x_2), (4, .int x_17), (5, .int l5_19), (6, .int l6_20)] → (¬ (((iv 21 0 l6_20.toNatClampNeg).toInt = x_2.toInt ∧ (iv 22 0 l6_20.toNatClampNeg).toInt ≤ d.toInt ∧ (iv 23 0 l6_20.toNatClampNeg).toInt ≤ x_17.toInt ∧ (iv 24 0 l6_20.toNatClampNeg).toInt ≤ (miF iv tt.toNatClampNeg).toInt) ∧ (l5_19.toInt < (iv 25 0 l6_20.toNatClampNeg).toInt))) → W p l e (rm 9) s m args below meth c H locs 0 0 Q (F0 m 127 ls []) := by
                intro ls hl i127_0
                refine lv_iload hx hb dX12_sumOf_127 (lv_at hl 5 rfl) ?_
                exact J_129 l5_19 _ (lv_sub hl [0, 1, 2, 3, 4, 6] rfl) (by first | exact gs_y i35_1 i98_1 (by omega) (by omega) (True.intro.trans ((ma_fr hF1) 25 _ (by decide))) | exact gs_n i35_1 i127_0)
              refine b_if_eq (tgt := 127) hx hb dX12_sumOf_102 (by decide) (fun c_30 => ?_) (fun c_30 => ?_)
              ·
                exact J_127 _ (lv_sub hl [1, 2, 3, 4, 5, 6, 7] rfl) (by omega)
              ·
                refine lv_aload_n hx hb dX12_sumOf_105 rfl (lv_at hl 1 rfl) ?_
                refine g_0_29 C hU hG (h1_0 hG) fl_X12_83 dX12_sumOf_106 ?_
                refine lv_iload hx hb dX12_sumOf_109 (lv_at hl 7 rfl) ?_
                refine a_25 C hU hG (h1_25 hG) (x := l6_20) (by omega) (by omega) dX12_sumOf_111 (fun x_31 e_32 le_32 ue_32 => ?_)
                have te_32 := congrArg Int32.toInt e_32
                have ne_32 : x_31.toInt = (iv 25 0 (l6_20 : Int32).toNatClampNeg).toInt := by rw [e_32, hF1.arr 25 0 (l6_20 : Int32).toNatClampNeg (by decide)]
                refine lv_iload hx hb dX12_sumOf_112 (lv_at hl 6 rfl) ?_
                refine b_icmp_le (tgt := 127) hx hb dX12_sumOf_114 (by decide) (fun c_33 => ?_) (fun c_33 => ?_)
                ·
                  exact J_127 _ (lv_sub hl [1, 2, 3, 4, 5, 6, 7] rfl) (by omega)
                ·
                  refine lv_aload_n hx hb dX12_sumOf_117 rfl (lv_at hl 1 rfl) ?_
                  refine g_0_29 C hU hG (h1_0 hG) fl_X12_83 dX12_sumOf_118 ?_
                  refine lv_iload hx hb dX12_sumOf_121 (lv_at hl 7 rfl) ?_
                  refine a_25 C hU hG (h1_25 hG) (x := l6_20) (by omega) (by omega) dX12_sumOf_123 (fun x_34 e_35 le_35 ue_35 => ?_)
                  have te_35 := congrArg Int32.toInt e_35
                  have ne_35 : x_34.toInt = (iv 25 0 (l6_20 : Int32).toNatClampNeg).toInt := by rw [e_35, hF1.arr 25 0 (l6_20 : Int32).toNatClampNeg (by decide)]
                  refine lv_goto (tgt := 129) hx hb dX12_sumOf_124 (by decide) ?_
                  exact J_129 x_34 _ (lv_sub hl [1, 2, 3, 4, 5, 7] rfl) (by first | exact gs_y i35_1 i98_1 (by omega) (by omega) (e_35.trans ((ma_fr hF1) 25 _ (by decide))) | exact gs_n i35_1 i127_0)
            have J_97 : ∀ (H : Heap) (locs : List Loc) (ls : Array Slot), lv_has ls 8 [(0, .ref (al.2 0 0)), (1, .int tt), (2, .int d), (3, .int x_2), (4, .int x_17), (5, .int l5_19), (6, .int l6_20)] → UW D cA sz al iv_13 rv_14 H → va_S (Aq sz) s.heap H locs → (¬ ((iv 21 0 l6_20.toNatClampNeg).toInt = x_2.toInt ∧ (iv 22 0 l6_20.toNatClampNeg).toInt ≤ d.toInt ∧ (iv 23 0 l6_20.toNatClampNeg).toInt ≤ x_17.toInt ∧ (iv 24 0 l6_20.toNatClampNeg).toInt ≤ (miF iv tt.toNatClampNeg).toInt)) → W p l e (rm 9) s m args below meth c H locs 0 0 Q (F0 m 97 ls []) := by
              intro H locs ls hl hU hS i97_0
              refine lv_iconst (v := 0) hx hb dX12_sumOf_97 (by decide) ?_
              exact J_98 0 _ _ _ (lv_sub hl [0, 1, 2, 3, 4, 5, 6] rfl) hU hS (by omega) (by omega)
            refine b_icmp_ne (tgt := 97) hx hb dX12_sumOf_52 (by decide) (fun c_36 => ?_) (fun c_36 => ?_)
            ·
              exact J_97 _ _ _ (lv_sub hl [0, 1, 2, 3, 4, 5, 6] rfl) hU hS (by omega)
            ·
              refine lv_aload_n hx hb dX12_sumOf_55 rfl (lv_at hl 0 rfl) ?_
              refine g_0_26 C hU hG (h1_0 hG) fl_X12_74 dX12_sumOf_56 ?_
              refine lv_iload hx hb dX12_sumOf_59 (lv_at hl 6 rfl) ?_
              refine a_22 C hU hG (h1_22 hG) (x := l6_20) (by omega) (by omega) dX12_sumOf_61 (fun x_37 e_38 le_38 ue_38 => ?_)
              have te_38 := congrArg Int32.toInt e_38
              have ne_38 : x_37.toInt = (iv 22 0 (l6_20 : Int32).toNatClampNeg).toInt := by rw [e_38, hF1.arr 22 0 (l6_20 : Int32).toNatClampNeg (by decide)]
              refine lv_iload_n hx hb dX12_sumOf_62 rfl (lv_at hl 2 rfl) ?_
              refine b_icmp_gt (tgt := 97) hx hb dX12_sumOf_63 (by decide) (fun c_39 => ?_) (fun c_39 => ?_)
              ·
                exact J_97 _ _ _ (lv_sub hl [0, 1, 2, 3, 4, 5, 6] rfl) hU hS (by omega)
              ·
                refine lv_iload hx hb dX12_sumOf_66 (lv_at hl 4 rfl) ?_
                refine lv_aload_n hx hb dX12_sumOf_68 rfl (lv_at hl 0 rfl) ?_
                refine g_0_27 C hU hG (h1_0 hG) fl_X12_77 dX12_sumOf_69 ?_
                refine lv_iload hx hb dX12_sumOf_72 (lv_at hl 6 rfl) ?_
                refine a_23 C hU hG (h1_23 hG) (x := l6_20) (by omega) (by omega) dX12_sumOf_74 (fun x_40 e_41 le_41 ue_41 => ?_)
                have te_41 := congrArg Int32.toInt e_41
                have ne_41 : x_40.toInt = (iv 23 0 (l6_20 : Int32).toNatClampNeg).toInt := by rw [e_41, hF1.arr 23 0 (l6_20 : Int32).toNatClampNeg (by decide)]
                refine b_icmp_lt (tgt := 97) hx hb dX12_sumOf_75 (by decide) (fun c_42 => ?_) (fun c_42 => ?_)
                ·
                  exact J_97 _ _ _ (lv_sub hl [0, 1, 2, 3, 4, 5, 6] rfl) hU hS (by omega)
                ·
                  refine lv_aload_n hx hb dX12_sumOf_78 rfl (lv_at hl 0 rfl) ?_
                  refine lv_iload_n hx hb dX12_sumOf_79 rfl (lv_at hl 1 rfl) ?_
                  refine q_pi (q_runV (t := 0) (i := 0) (As := [.int tt]) (rest := []) C hU (c_X12_milesOf_x hG tt (by omega)) vm_X12_milesOf ml_X12_266 k_0.1 (hc := rfl) rfl (h1_0 hG) hl.1 rfl rfl (Nat.le_of_ble_eq_true rfl) dX12_sumOf_80 rfl rfl ⟨Nat.le_of_ble_eq_true rfl, Nat.le_of_ble_eq_true rfl⟩ ⟨Nat.le_refl _, Nat.le_refl _⟩) hS (fun x_44 H locs hp_43 hU hS => ?_)
                  have t80 := congrArg Int32.toInt (hp_43.trans (mi_m (ma_fr hF1) _))
                  refine lv_aload_n hx hb dX12_sumOf_83 rfl (lv_at hl 0 rfl) ?_
                  refine g_0_28 C hU hG (h1_0 hG) fl_X12_80 dX12_sumOf_84 ?_
                  refine lv_iload hx hb dX12_sumOf_87 (lv_at hl 6 rfl) ?_
                  refine a_24 C hU hG (h1_24 hG) (x := l6_20) (by omega) (by omega) dX12_sumOf_89 (fun x_45 e_46 le_46 ue_46 => ?_)
                  have te_46 := congrArg Int32.toInt e_46
                  have ne_46 : x_45.toInt = (iv 24 0 (l6_20 : Int32).toNatClampNeg).toInt := by rw [e_46, hF1.arr 24 0 (l6_20 : Int32).toNatClampNeg (by decide)]
                  refine b_icmp_lt (tgt := 97) hx hb dX12_sumOf_90 (by decide) (fun c_47 => ?_) (fun c_47 => ?_)
                  ·
                    exact J_97 _ _ _ (lv_sub hl [0, 1, 2, 3, 4, 5, 6] rfl) hU hS (by omega)
                  ·
                    refine lv_iconst (v := 1) hx hb dX12_sumOf_93 (by decide) ?_
                    refine lv_goto (tgt := 98) hx hb dX12_sumOf_94 (by decide) ?_
                    exact J_98 1 _ _ _ (lv_sub hl [0, 1, 2, 3, 4, 5, 6] rfl) hU hS (by omega) (by omega)
      exact J_35 _ 0 0 _ _ _ (lv_sub hl [4, 5, 6, 3, 2, 1, 0] rfl) hU hS (by omega) (by first | exact gs_up (by omega) (by omega) i129_0 | exact gs_0) (by omega) (Nat.lt_succ_self _)
    ·
      refine lv_iconst (v := 0) hx hb dX12_sumOf_20 (by decide) ?_
      exact hret (⟨hG, hF1, hF2, by unfold smF; rw [if_pos (by omega)]⟩) hU hS dX12_sumOf_21
set_option maxHeartbeats 4000000 in
set_option maxRecDepth 100000 in
theorem c_X4_isInForce_x {l : Launch} {D : va_G} {cA : FieldType → ClassId} {sz : Nat} {al : Al} {iv : Iv} {rv : Rv} (hG : GI al iv rv) (row : Int32) (ld : Int32) (d : Int32) (pre0 : 0 ≤ row.toInt ∧ row.toInt < 30) : Met l yX4_isInForce (wd yX4_isInForce cX4_isInForce 4 (some .boolean)) (rm 0) (PcW D cA sz al iv rv [.ref (al.2 68 0), .int row, .int ld, .int d]) (QI D cA sz al (pI iv rv (fun r => (0 ≤ r.toInt ∧ r.toInt ≤ 1) ∧ (((iv 69 0 row.toNatClampNeg).toInt = ld.toInt ∧ (iv 70 0 row.toNatClampNeg).toInt ≤ d.toInt ∧ r.toInt = 1) ∨ ((¬ ((iv 69 0 row.toNatClampNeg).toInt = ld.toInt ∧ (iv 70 0 row.toNatClampNeg).toInt ≤ d.toInt)) ∧ r.toInt = 0))))) 0 0 (Aq sz) := by
  refine mk_z (by decide) (Nat.le_of_ble_eq_true rfl) rfl ?_
  intro p e s m args below meth c ls Q H locs C hU hS hl hret
  have hx := C.1.1
  have hb := C.1.2.1
  have hl : lv_has ls 4 [(0, .ref (al.2 68 0)), (1, .int row), (2, .int ld), (3, .int d)] := hl
  have hG0 := hG
  have k0 : (0 : Int32).toInt = 0 := by decide
  have k1 : (1 : Int32).toInt = 1 := by decide
  refine lv_aload_n hx hb dX4_isInForce_0 rfl (lv_at hl 0 rfl) ?_
  refine g_68_0 C hU hG (h1_68 hG) fl_X4_11 dX4_isInForce_1 ?_
  refine lv_iload_n hx hb dX4_isInForce_4 rfl (lv_at hl 1 rfl) ?_
  refine a_69 C hU hG (h1_69 hG) (x := row) (by omega) (by omega) dX4_isInForce_5 (fun x_1 e_2 le_2 ue_2 => ?_)
  have te_2 := congrArg Int32.toInt e_2
  refine lv_iload_n hx hb dX4_isInForce_6 rfl (lv_at hl 2 rfl) ?_
  refine b_icmp_ne (tgt := 24) hx hb dX4_isInForce_7 (by decide) (fun c_3 => ?_) (fun c_3 => ?_)
  ·
    refine lv_iconst (v := 0) hx hb dX4_isInForce_24 (by decide) ?_
    exact hret (by omega) (by omega) (⟨rfl, rfl, ⟨⟨by omega, by omega⟩, by omega⟩⟩) hU hS dX4_isInForce_25
  ·
    refine lv_aload_n hx hb dX4_isInForce_10 rfl (lv_at hl 0 rfl) ?_
    refine g_68_1 C hU hG (h1_68 hG) fl_X4_15 dX4_isInForce_11 ?_
    refine lv_iload_n hx hb dX4_isInForce_14 rfl (lv_at hl 1 rfl) ?_
    refine a_70 C hU hG (h1_70 hG) (x := row) (by omega) (by omega) dX4_isInForce_15 (fun x_4 e_5 le_5 ue_5 => ?_)
    have te_5 := congrArg Int32.toInt e_5
    refine lv_iload_n hx hb dX4_isInForce_16 rfl (lv_at hl 3 rfl) ?_
    refine b_icmp_gt (tgt := 24) hx hb dX4_isInForce_17 (by decide) (fun c_6 => ?_) (fun c_6 => ?_)
    ·
      refine lv_iconst (v := 0) hx hb dX4_isInForce_24 (by decide) ?_
      exact hret (by omega) (by omega) (⟨rfl, rfl, ⟨⟨by omega, by omega⟩, by omega⟩⟩) hU hS dX4_isInForce_25
    ·
      refine lv_iconst (v := 1) hx hb dX4_isInForce_20 (by decide) ?_
      refine lv_goto (tgt := 25) hx hb dX4_isInForce_21 (by decide) ?_
      exact hret (by omega) (by omega) (⟨rfl, rfl, ⟨⟨by omega, by omega⟩, by omega⟩⟩) hU hS dX4_isInForce_25
set_option maxHeartbeats 4000000 in
set_option maxRecDepth 100000 in
theorem c_X4_hasRows_x {l : Launch} {D : va_G} {cA : FieldType → ClassId} {sz : Nat} {al : Al} {iv : Iv} {rv : Rv} (hG : GI al iv rv) (ld : Int32) (d : Int32) (pre0 : Claw iv rv) : Met l yX4_hasRows (wd yX4_hasRows cX4_hasRows 4 (some .boolean)) (rm 1) (PcW D cA sz al iv rv [.ref (al.2 68 0), .int ld, .int d]) (QI D cA sz al (pI iv rv (fun r => (0 ≤ r.toInt ∧ r.toInt ≤ 1) ∧ (r = hlF iv ld d)))) 0 0 (Aq sz) := by
  refine mk_z (by decide) (Nat.le_of_ble_eq_true rfl) rfl ?_
  intro p e s m args below meth c ls Q H locs C hU hS hl hret
  have hx := C.1.1
  have hb := C.1.2.1
  have hl : lv_has ls 4 [(0, .ref (al.2 68 0)), (1, .int ld), (2, .int d)] := hl
  have hG0 := hG
  have hcn := congrArg Int32.toInt pre0.1
  have l24 := le24 hG
  have k0 : (0 : Int32).toInt = 0 := by decide
  have k1 : (1 : Int32).toInt = 1 := by decide
  refine lv_iconst (v := 0) hx hb dX4_hasRows_0 (by decide) ?_
  refine lv_istore_n (lv' := [(3, .int 0), (0, .ref (al.2 68 0)), (1, .int ld), (2, .int d)]) hx hb dX4_hasRows_1 rfl hl (by decide) rfl (fun ls hl => ?_)
  have J_2 : ∀ (n_2 : Nat) (l3_1 : Int32) (H : Heap) (locs : List Loc) (ls : Array Slot), lv_has ls 4 [(0, .ref (al.2 68 0)), (1, .int ld), (2, .int d), (3, .int l3_1)] → UW D cA sz al iv rv H → va_S (Aq sz) s.heap H locs → (0 ≤ l3_1.toInt ∧ l3_1.toInt ≤ 30) → (hlN iv ld.toInt d.toInt l3_1.toNatClampNeg).toInt = 0 → l3_1.toInt ≤ (iv 68 0 5).toInt → (30 - l3_1.toInt).toNat < n_2 → W p l e (rm 1) s m args below meth c H locs 0 0 Q (F0 m 2 ls []) := by
    intro n_2
    induction n_2 with
    | zero =>
      intro l3_1 H locs ls hl hU hS i2_0 i2_1 i2_2 hm_2
      exact absurd hm_2 (Nat.not_lt_zero _)
    | succ n_2 ih_2 =>
      intro l3_1 H locs ls hl hU hS i2_0 i2_1 i2_2 hm_2
      refine lv_iload_n hx hb dX4_hasRows_2 rfl (lv_at hl 3 rfl) ?_
      refine lv_aload_n hx hb dX4_hasRows_3 rfl (lv_at hl 0 rfl) ?_
      refine g_68_5 C hU hG (h1_68 hG) fl_X4_43 dX4_hasRows_4 (fun x_2 e_3 le_3 ue_3 => ?_)
      have te_3 := congrArg Int32.toInt e_3
      refine b_icmp_ge (tgt := 28) hx hb dX4_hasRows_7 (by decide) (fun c_4 => ?_) (fun c_4 => ?_)
      ·
        refine lv_iconst (v := 0) hx hb dX4_hasRows_28 (by decide) ?_
        exact hret (by omega) (by omega) (⟨rfl, rfl, ⟨⟨by omega, by omega⟩, hx_2 i2_1 (by omega)⟩⟩) hU hS dX4_hasRows_29
      ·
        refine lv_aload_n hx hb dX4_hasRows_10 rfl (lv_at hl 0 rfl) ?_
        refine lv_iload_n hx hb dX4_hasRows_11 rfl (lv_at hl 3 rfl) ?_
        refine lv_iload_n hx hb dX4_hasRows_12 rfl (lv_at hl 1 rfl) ?_
        refine lv_iload_n hx hb dX4_hasRows_13 rfl (lv_at hl 2 rfl) ?_
        refine q_pi (q_runV (t := 68) (i := 0) (As := [.int l3_1, .int ld, .int d]) (rest := []) C hU (c_X4_isInForce_x hG l3_1 ld d (by omega)) vm_X4_isInForce ml_X4_77 k_68.1 (hc := rfl) rfl (h1_68 hG) hl.1 rfl rfl (Nat.le_of_ble_eq_true rfl) dX4_hasRows_14 rfl rfl ⟨Nat.le_of_ble_eq_true rfl, Nat.le_of_ble_eq_true rfl⟩ ⟨Nat.le_refl _, Nat.le_refl _⟩) hS (fun x_6 H locs hp_5 hU hS => ?_)
        have hk := lw_t pre0 l3_1.toNatClampNeg
        refine b_if_eq (tgt := 22) hx hb dX4_hasRows_17 (by decide) (fun c_7 => ?_) (fun c_7 => ?_)
        ·
          obtain ⟨x_8, e_9⟩ : ∃ y : Int32, y = l3_1 + 1 := ⟨_, rfl⟩
          have te_9 : x_8.toInt = (l3_1 : Int32).toInt + (1 : Int32).toInt := by rw [e_9]; exact fb_addI (by omega) (by omega)
          refine lv_iinc (v := x_8) (lv' := [(3, .int x_8), (0, .ref (al.2 68 0)), (1, .int ld), (2, .int d)]) hx hb dX4_hasRows_22 hl (k := 3) rfl (by rw [e_9]; rfl) (by decide) rfl (fun ls hl => ?_)
          refine lv_goto (tgt := 2) hx hb dX4_hasRows_25 (by decide) ?_
          exact ih_2 x_8 _ _ _ (lv_sub hl [1, 2, 3, 0] rfl) hU hS (by omega) (by first | exact hx_up (by omega) (by omega) i2_1 (by omega) | exact hx_0) (by omega) (by omega)
        ·
          refine lv_iconst (v := 1) hx hb dX4_hasRows_20 (by decide) ?_
          exact hret (by omega) (by omega) (⟨rfl, rfl, ⟨⟨by omega, by omega⟩, hx_1 i2_1 (by omega) (by omega)⟩⟩) hU hS dX4_hasRows_21
  exact J_2 _ 0 _ _ _ (lv_sub hl [1, 2, 3, 0] rfl) hU hS (by omega) (by first | exact hx_up (by omega) (by omega) i2_1 (by omega) | exact hx_0) (by omega) (Nat.lt_succ_self _)
