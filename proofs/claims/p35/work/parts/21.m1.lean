set_option maxHeartbeats 4000000 in
set_option maxRecDepth 100000 in
theorem c_X12_rightLeave {l : Launch} {D : va_G} {cA : FieldType → ClassId} {sz : Nat} {al : Al} {iv : Iv} {rv : Rv} (hG : GI al iv rv) (lg : Int32) (pre0 : 0 ≤ lg.toInt ∧ lg.toInt < 40) : Met l yX12_rightLeave (wd yX12_rightLeave cX12_rightLeave 2 (some .int)) (rm 1) (PcW D cA sz al iv rv [.ref (al.2 0 0), .int lg]) (QI D cA sz al (pI iv rv (fun r => (0 ≤ r.toInt ∧ r.toInt ≤ 2147483647) ∧ (r = rlF iv lg.toNatClampNeg)))) 0 0 (Aq sz) := by
  refine mk_i (by decide) (Nat.le_of_ble_eq_true rfl) rfl ?_
  intro p e s m args below meth c ls Q H locs C hU hS hl hret
  have hx := C.1.1
  have hb := C.1.2.1
  have hl : lv_has ls 2 [(0, .ref (al.2 0 0)), (1, .int lg)] := hl
  have hG0 := hG
  have h6 := le6 hG
  have h20 := le20 hG
  have h41 := le41 hG
  refine lv_aload_n hx hb dX12_rightLeave_0 rfl (lv_at hl 0 rfl) ?_
  refine g_0_14 C hU hG (h1_0 hG) fl_X12_44 dX12_rightLeave_1 ?_
  refine lv_iload_n hx hb dX12_rightLeave_4 rfl (lv_at hl 1 rfl) ?_
  refine a_12 C hU hG (h1_12 hG) (x := lg) (by omega) (by omega) dX12_rightLeave_5 (fun x_1 e_2 le_2 ue_2 => ?_)
  have te_2 := congrArg Int32.toInt e_2
  refine lv_aload_n hx hb dX12_rightLeave_6 rfl (lv_at hl 0 rfl) ?_
  refine g_0_4 C hU hG (h1_0 hG) fl_X12_19 dX12_rightLeave_7 ?_
  refine lv_aload_n hx hb dX12_rightLeave_10 rfl (lv_at hl 0 rfl) ?_
  refine g_0_7 C hU hG (h1_0 hG) fl_X12_22 dX12_rightLeave_11 ?_
  refine lv_iload_n hx hb dX12_rightLeave_14 rfl (lv_at hl 1 rfl) ?_
  refine a_5 C hU hG (h1_5 hG) (x := lg) (by omega) (by omega) dX12_rightLeave_15 (fun x_3 e_4 le_4 ue_4 => ?_)
  have te_4 := congrArg Int32.toInt e_4
  refine a_4 C hU hG (h1_4 hG) (x := x_3) (by omega) (by omega) dX12_rightLeave_16 (fun x_5 e_6 => ?_)
  have te_6 := congrArg Int32.toInt e_6
  refine lv_isub hx hb dX12_rightLeave_17 ?_
  refine lv_topi (fun x_7 e_8 => ?_)
  refine q_pi (q_runS (As := [.int x_7]) (rest := []) C hU (c_X12_over  x_7 ) sm_X12_over ml_X12_187 hl.1 rfl rfl (Nat.le_of_ble_eq_true rfl) dX12_rightLeave_18 rfl rfl ⟨Nat.le_of_ble_eq_true rfl, Nat.le_of_ble_eq_true rfl⟩ ⟨Nat.le_refl _, Nat.le_refl _⟩) hS (fun x_10 H locs hp_9 hU hS => ?_)
  have q_11 := hp_9.2
  have tq_11 := congrArg Int32.toInt q_11
  exact hret (⟨rfl, rfl, ⟨⟨by omega, Int.le_of_lt_add_one (fb_rng _).2⟩, by simp only [rlF, e_2, e_4, e_6, e_8, q_11]⟩⟩) hU hS dX12_rightLeave_21
set_option maxHeartbeats 4000000 in
set_option maxRecDepth 100000 in
theorem c_X12_rightArrive {l : Launch} {D : va_G} {cA : FieldType → ClassId} {sz : Nat} {al : Al} {iv : Iv} {rv : Rv} (hG : GI al iv rv) (lg : Int32) (pre0 : 0 ≤ lg.toInt ∧ lg.toInt < 40) : Met l yX12_rightArrive (wd yX12_rightArrive cX12_rightArrive 2 (some .int)) (rm 1) (PcW D cA sz al iv rv [.ref (al.2 0 0), .int lg]) (QI D cA sz al (pI iv rv (fun r => (0 ≤ r.toInt ∧ r.toInt ≤ 2147483647) ∧ (r = raF iv lg.toNatClampNeg)))) 0 0 (Aq sz) := by
  refine mk_i (by decide) (Nat.le_of_ble_eq_true rfl) rfl ?_
  intro p e s m args below meth c ls Q H locs C hU hS hl hret
  have hx := C.1.1
  have hb := C.1.2.1
  have hl : lv_has ls 2 [(0, .ref (al.2 0 0)), (1, .int lg)] := hl
  have hG0 := hG
  have h6 := le6 hG
  have h20 := le20 hG
  have h41 := le41 hG
  refine lv_aload_n hx hb dX12_rightArrive_0 rfl (lv_at hl 0 rfl) ?_
  refine g_0_15 C hU hG (h1_0 hG) fl_X12_47 dX12_rightArrive_1 ?_
  refine lv_iload_n hx hb dX12_rightArrive_4 rfl (lv_at hl 1 rfl) ?_
  refine a_13 C hU hG (h1_13 hG) (x := lg) (by omega) (by omega) dX12_rightArrive_5 (fun x_1 e_2 le_2 ue_2 => ?_)
  have te_2 := congrArg Int32.toInt e_2
  refine lv_aload_n hx hb dX12_rightArrive_6 rfl (lv_at hl 0 rfl) ?_
  refine g_0_4 C hU hG (h1_0 hG) fl_X12_19 dX12_rightArrive_7 ?_
  refine lv_aload_n hx hb dX12_rightArrive_10 rfl (lv_at hl 0 rfl) ?_
  refine g_0_8 C hU hG (h1_0 hG) fl_X12_25 dX12_rightArrive_11 ?_
  refine lv_iload_n hx hb dX12_rightArrive_14 rfl (lv_at hl 1 rfl) ?_
  refine a_6 C hU hG (h1_6 hG) (x := lg) (by omega) (by omega) dX12_rightArrive_15 (fun x_3 e_4 le_4 ue_4 => ?_)
  have te_4 := congrArg Int32.toInt e_4
  refine a_4 C hU hG (h1_4 hG) (x := x_3) (by omega) (by omega) dX12_rightArrive_16 (fun x_5 e_6 => ?_)
  have te_6 := congrArg Int32.toInt e_6
  refine lv_isub hx hb dX12_rightArrive_17 ?_
  refine lv_topi (fun x_7 e_8 => ?_)
  refine q_pi (q_runS (As := [.int x_7]) (rest := []) C hU (c_X12_over  x_7 ) sm_X12_over ml_X12_187 hl.1 rfl rfl (Nat.le_of_ble_eq_true rfl) dX12_rightArrive_18 rfl rfl ⟨Nat.le_of_ble_eq_true rfl, Nat.le_of_ble_eq_true rfl⟩ ⟨Nat.le_refl _, Nat.le_refl _⟩) hS (fun x_10 H locs hp_9 hU hS => ?_)
  have q_11 := hp_9.2
  have tq_11 := congrArg Int32.toInt q_11
  exact hret (⟨rfl, rfl, ⟨⟨by omega, Int.le_of_lt_add_one (fb_rng _).2⟩, by simp only [raF, e_2, e_4, e_6, e_8, q_11]⟩⟩) hU hS dX12_rightArrive_21
set_option maxHeartbeats 4000000 in
set_option maxRecDepth 100000 in
theorem c_X12_lateOf {l : Launch} {D : va_G} {cA : FieldType → ClassId} {sz : Nat} {al : Al} {iv : Iv} {rv : Rv} (hG : GI al iv rv) (lg : Int32) (pre0 : 0 ≤ lg.toInt ∧ lg.toInt < 40) : Met l yX12_lateOf (wd yX12_lateOf cX12_lateOf 2 (some .int)) (rm 2) (PcW D cA sz al iv rv [.ref (al.2 0 0), .int lg]) (QI D cA sz al (pI iv rv (fun r => (0 ≤ r.toInt ∧ r.toInt ≤ 2147483647) ∧ (r = laF iv lg.toNatClampNeg)))) 0 0 (Aq sz) := by
  refine mk_i (by decide) (Nat.le_of_ble_eq_true rfl) rfl ?_
  intro p e s m args below meth c ls Q H locs C hU hS hl hret
  have hx := C.1.1
  have hb := C.1.2.1
  have hl : lv_has ls 2 [(0, .ref (al.2 0 0)), (1, .int lg)] := hl
  have hG0 := hG
  have h6 := le6 hG
  have h20 := le20 hG
  have h41 := le41 hG
  refine lv_aload_n hx hb dX12_lateOf_0 rfl (lv_at hl 0 rfl) ?_
  refine lv_iload_n hx hb dX12_lateOf_1 rfl (lv_at hl 1 rfl) ?_
  refine q_pi (q_runV (t := 0) (i := 0) (As := [.int lg]) (rest := []) C hU (c_X12_rightArrive hG lg (by omega)) vm_X12_rightArrive ml_X12_190 k_0.1 (hc := rfl) rfl (h1_0 hG) hl.1 rfl rfl (Nat.le_of_ble_eq_true rfl) dX12_lateOf_2 rfl rfl ⟨Nat.le_of_ble_eq_true rfl, Nat.le_of_ble_eq_true rfl⟩ ⟨Nat.le_refl _, Nat.le_refl _⟩) hS (fun x_2 H locs hp_1 hU hS => ?_)
  have q_3 := hp_1.2
  have tq_3 := congrArg Int32.toInt q_3
  refine lv_aload_n hx hb dX12_lateOf_5 rfl (lv_at hl 0 rfl) ?_
  refine g_0_12 C hU hG (h1_0 hG) fl_X12_37 dX12_lateOf_6 ?_
  refine lv_iload_n hx hb dX12_lateOf_9 rfl (lv_at hl 1 rfl) ?_
  refine a_10 C hU hG (h1_10 hG) (x := lg) (by omega) (by omega) dX12_lateOf_10 (fun x_4 e_5 le_5 ue_5 => ?_)
  have te_5 := congrArg Int32.toInt e_5
  refine lv_isub hx hb dX12_lateOf_11 ?_
  refine lv_topi (fun x_6 e_7 => ?_)
  have w_8 := fb_rng x_2
  have te_7 : x_6.toInt = (x_2 : Int32).toInt - (x_4 : Int32).toInt := by rw [e_7]; exact fb_subI (by omega) (by omega)
  refine q_pi (q_runS (As := [.int x_6]) (rest := []) C hU (c_X12_over  x_6 ) sm_X12_over ml_X12_187 hl.1 rfl rfl (Nat.le_of_ble_eq_true rfl) dX12_lateOf_12 rfl rfl ⟨Nat.le_of_ble_eq_true rfl, Nat.le_of_ble_eq_true rfl⟩ ⟨Nat.le_refl _, Nat.le_refl _⟩) hS (fun x_10 H locs hp_9 hU hS => ?_)
  have q_11 := hp_9.2
  have tq_11 := congrArg Int32.toInt q_11
  exact hret (⟨rfl, rfl, ⟨⟨by omega, Int.le_of_lt_add_one (fb_rng _).2⟩, by simp only [laF, q_3, e_5, e_7, q_11]⟩⟩) hU hS dX12_lateOf_15
set_option maxHeartbeats 4000000 in
set_option maxRecDepth 100000 in
theorem c_X12_outlateOf {l : Launch} {D : va_G} {cA : FieldType → ClassId} {sz : Nat} {al : Al} {iv : Iv} {rv : Rv} (hG : GI al iv rv) (lg : Int32) (pre0 : 0 ≤ lg.toInt ∧ lg.toInt < 40) : Met l yX12_outlateOf (wd yX12_outlateOf cX12_outlateOf 2 (some .int)) (rm 2) (PcW D cA sz al iv rv [.ref (al.2 0 0), .int lg]) (QI D cA sz al (pI iv rv (fun r => (0 ≤ r.toInt ∧ r.toInt ≤ 2147483647) ∧ (r = olF iv lg.toNatClampNeg)))) 0 0 (Aq sz) := by
  refine mk_i (by decide) (Nat.le_of_ble_eq_true rfl) rfl ?_
  intro p e s m args below meth c ls Q H locs C hU hS hl hret
  have hx := C.1.1
  have hb := C.1.2.1
  have hl : lv_has ls 2 [(0, .ref (al.2 0 0)), (1, .int lg)] := hl
  have hG0 := hG
  have h6 := le6 hG
  have h20 := le20 hG
  have h41 := le41 hG
  refine lv_aload_n hx hb dX12_outlateOf_0 rfl (lv_at hl 0 rfl) ?_
  refine lv_iload_n hx hb dX12_outlateOf_1 rfl (lv_at hl 1 rfl) ?_
  refine q_pi (q_runV (t := 0) (i := 0) (As := [.int lg]) (rest := []) C hU (c_X12_rightLeave hG lg (by omega)) vm_X12_rightLeave ml_X12_193 k_0.1 (hc := rfl) rfl (h1_0 hG) hl.1 rfl rfl (Nat.le_of_ble_eq_true rfl) dX12_outlateOf_2 rfl rfl ⟨Nat.le_of_ble_eq_true rfl, Nat.le_of_ble_eq_true rfl⟩ ⟨Nat.le_refl _, Nat.le_refl _⟩) hS (fun x_2 H locs hp_1 hU hS => ?_)
  have q_3 := hp_1.2
  have tq_3 := congrArg Int32.toInt q_3
  refine lv_aload_n hx hb dX12_outlateOf_5 rfl (lv_at hl 0 rfl) ?_
  refine g_0_11 C hU hG (h1_0 hG) fl_X12_34 dX12_outlateOf_6 ?_
  refine lv_iload_n hx hb dX12_outlateOf_9 rfl (lv_at hl 1 rfl) ?_
  refine a_9 C hU hG (h1_9 hG) (x := lg) (by omega) (by omega) dX12_outlateOf_10 (fun x_4 e_5 le_5 ue_5 => ?_)
  have te_5 := congrArg Int32.toInt e_5
  refine lv_isub hx hb dX12_outlateOf_11 ?_
  refine lv_topi (fun x_6 e_7 => ?_)
  have w_8 := fb_rng x_2
  have te_7 : x_6.toInt = (x_2 : Int32).toInt - (x_4 : Int32).toInt := by rw [e_7]; exact fb_subI (by omega) (by omega)
  refine q_pi (q_runS (As := [.int x_6]) (rest := []) C hU (c_X12_over  x_6 ) sm_X12_over ml_X12_187 hl.1 rfl rfl (Nat.le_of_ble_eq_true rfl) dX12_outlateOf_12 rfl rfl ⟨Nat.le_of_ble_eq_true rfl, Nat.le_of_ble_eq_true rfl⟩ ⟨Nat.le_refl _, Nat.le_refl _⟩) hS (fun x_10 H locs hp_9 hU hS => ?_)
  have q_11 := hp_9.2
  have tq_11 := congrArg Int32.toInt q_11
  exact hret (⟨rfl, rfl, ⟨⟨by omega, Int.le_of_lt_add_one (fb_rng _).2⟩, by simp only [olF, q_3, e_5, e_7, q_11]⟩⟩) hU hS dX12_outlateOf_15
set_option maxHeartbeats 4000000 in
set_option maxRecDepth 100000 in
theorem c_X12_aheadOf {l : Launch} {D : va_G} {cA : FieldType → ClassId} {sz : Nat} {al : Al} {iv : Iv} {rv : Rv} (hG : GI al iv rv) (lg : Int32) (bb : Int32) (pre0 : 0 ≤ lg.toInt ∧ lg.toInt < 40) : Met l yX12_aheadOf (wd yX12_aheadOf cX12_aheadOf 8 (some .int)) (rm 0) (PcW D cA sz al iv rv [.ref (al.2 0 0), .int lg, .int bb]) (QI D cA sz al (pI iv rv (fun r => (-1 ≤ r.toInt ∧ r.toInt ≤ 39) ∧ (r = ahF iv lg.toNatClampNeg bb ∧ r.toInt < (iv 0 0 6).toInt)))) 0 0 (Aq sz) := by
  refine mk_i (by decide) (Nat.le_of_ble_eq_true rfl) rfl ?_
  intro p e s m args below meth c ls Q H locs C hU hS hl hret
  have hx := C.1.1
  have hb := C.1.2.1
  have hl : lv_has ls 8 [(0, .ref (al.2 0 0)), (1, .int lg), (2, .int bb)] := hl
  have hG0 := hG
  have h6 := le6 hG
  have h20 := le20 hG
  have h41 := le41 hG
  have km1 : ((-1) : Int32).toInt = -1 := by decide
  have k0 : (0 : Int32).toInt = 0 := by decide
  have k1 : (1 : Int32).toInt = 1 := by decide
  refine lv_iconst (v := (-1)) hx hb dX12_aheadOf_0 (by decide) ?_
  refine lv_istore_n (lv' := [(3, .int (-1)), (0, .ref (al.2 0 0)), (1, .int lg), (2, .int bb)]) hx hb dX12_aheadOf_1 rfl hl (by decide) rfl (fun ls hl => ?_)
  refine lv_iload_n hx hb dX12_aheadOf_2 rfl (lv_at hl 3 rfl) ?_
  have J_21 : ∀ (v_1 : Int32) (ls : Array Slot), lv_has ls 8 [(0, .ref (al.2 0 0)), (1, .int lg), (2, .int bb), (3, .int (-1))] → (0 ≤ v_1.toInt ∧ v_1.toInt ≤ 900) → v_1.toInt = (rsF iv bb).toInt → W p l e (rm 0) s m args below meth c H locs 0 0 Q (F0 m 21 ls [.int v_1]) := by
    intro v_1 ls hl i21_0 i21_1
    refine lv_istore (lv' := [(4, .int v_1), (0, .ref (al.2 0 0)), (1, .int lg), (2, .int bb), (3, .int (-1))]) hx hb dX12_aheadOf_21 hl (by decide) rfl (fun ls hl => ?_)
    have hlg : (0:Int) ≤ (iv 0 0 6).toInt := (hG.1 0 0 6 (h1_0 hG) (by decide)).1
    refine lv_iconst (v := 0) hx hb dX12_aheadOf_23 (by decide) ?_
    refine lv_istore (lv' := [(5, .int 0), (4, .int v_1), (0, .ref (al.2 0 0)), (1, .int lg), (2, .int bb), (3, .int (-1))]) hx hb dX12_aheadOf_24 hl (by decide) rfl (fun ls hl => ?_)
    have J_26 : ∀ (n_26 : Nat) (l3_2 : Int32) (l5_3 : Int32) (ls : Array Slot), lv_has ls 8 [(0, .ref (al.2 0 0)), (1, .int lg), (2, .int bb), (4, .int v_1), (3, .int l3_2), (5, .int l5_3)] → (-1 ≤ l3_2.toInt ∧ l3_2.toInt ≤ 39) → (0 ≤ l5_3.toInt ∧ l5_3.toInt ≤ 40) → l3_2 = ahN iv lg.toNatClampNeg bb l5_3.toNatClampNeg → l3_2.toInt < l5_3.toInt → l5_3.toInt ≤ (iv 0 0 6).toInt → (40 - l5_3.toInt).toNat < n_26 → W p l e (rm 0) s m args below meth c H locs 0 0 Q (F0 m 26 ls []) := by
      intro n_26
      induction n_26 with
      | zero =>
        intro l3_2 l5_3 ls hl i26_0 i26_1 i26_2 i26_3 i26_4 hm_26
        exact absurd hm_26 (Nat.not_lt_zero _)
      | succ n_26 ih_26 =>
        intro l3_2 l5_3 ls hl i26_0 i26_1 i26_2 i26_3 i26_4 hm_26
        refine lv_iload hx hb dX12_aheadOf_26 (lv_at hl 5 rfl) ?_
        refine lv_aload_n hx hb dX12_aheadOf_28 rfl (lv_at hl 0 rfl) ?_
        refine g_0_6 C hU hG (h1_0 hG) fl_X12_160 dX12_aheadOf_29 (fun x_4 e_5 le_5 ue_5 => ?_)
        have te_5 := congrArg Int32.toInt e_5
        refine b_icmp_ge (tgt := 171) hx hb dX12_aheadOf_32 (by decide) (fun c_6 => ?_) (fun c_6 => ?_)
        ·
          refine lv_iload_n hx hb dX12_aheadOf_171 rfl (lv_at hl 4 rfl) ?_
          exact hret (⟨rfl, rfl, ⟨⟨by omega, by omega⟩, ⟨by rw [i26_2, ahF, clamp_eq (show (l5_3 : Int32).toInt = (iv 0 0 6).toInt by omega)], by omega⟩⟩⟩) hU hS dX12_aheadOf_172
        ·
          refine lv_iload_n hx hb dX12_aheadOf_35 rfl (lv_at hl 2 rfl) ?_
          have J_84 : ∀ (v_7 : Int32) (ls : Array Slot), lv_has ls 8 [(0, .ref (al.2 0 0)), (1, .int lg), (2, .int bb), (3, .int l3_2), (4, .int v_1), (5, .int l5_3)] → (0 ≤ v_7.toInt ∧ v_7.toInt ≤ 1) → ((v_7.toInt = 1 ∧ (((¬ bb.toInt = 0) ∧ (iv 8 0 l5_3.toNatClampNeg).toInt = (iv 8 0 lg.toNatClampNeg).toInt) ∨ (bb.toInt = 0 ∧ (iv 7 0 l5_3.toNatClampNeg).toInt = (iv 7 0 lg.toNatClampNeg).toInt))) ∨ (v_7.toInt = 0 ∧ ¬ (((¬ bb.toInt = 0) ∧ (iv 8 0 l5_3.toNatClampNeg).toInt = (iv 8 0 lg.toNatClampNeg).toInt) ∨ (bb.toInt = 0 ∧ (iv 7 0 l5_3.toNatClampNeg).toInt = (iv 7 0 lg.toNatClampNeg).toInt)))) → W p l e (rm 0) s m args below meth c H locs 0 0 Q (F0 m 84 ls [.int v_7]) := by
            intro v_7 ls hl i84_0 i84_1
            refine lv_istore (lv' := [(6, .int v_7), (0, .ref (al.2 0 0)), (1, .int lg), (2, .int bb), (3, .int l3_2), (4, .int v_1), (5, .int l5_3)]) hx hb dX12_aheadOf_84 hl (by decide) rfl (fun ls hl => ?_)
            refine lv_iload hx hb dX12_aheadOf_86 (lv_at hl 0 rfl) ?_
            have J_131 : ∀ (v_8 : Int32) (ls : Array Slot), lv_has ls 8 [(0, .ref (al.2 0 0)), (1, .int lg), (2, .int bb), (3, .int l3_2), (4, .int v_1), (5, .int l5_3)] → (0 ≤ v_8.toInt ∧ v_8.toInt ≤ 1) → ((v_8.toInt = 1 ∧ ((((¬ bb.toInt = 0) ∧ (iv 8 0 l5_3.toNatClampNeg).toInt = (iv 8 0 lg.toNatClampNeg).toInt) ∨ (bb.toInt = 0 ∧ (iv 7 0 l5_3.toNatClampNeg).toInt = (iv 7 0 lg.toNatClampNeg).toInt)) ∧ (iv 6 0 l5_3.toNatClampNeg).toInt = (iv 5 0 lg.toNatClampNeg).toInt ∧ (iv 10 0 l5_3.toNatClampNeg).toInt + (rsF iv bb).toInt ≤ (iv 9 0 lg.toNatClampNeg).toInt)) ∨ (v_8.toInt = 0 ∧ ¬ ((((¬ bb.toInt = 0) ∧ (iv 8 0 l5_3.toNatClampNeg).toInt = (iv 8 0 lg.toNatClampNeg).toInt) ∨ (bb.toInt = 0 ∧ (iv 7 0 l5_3.toNatClampNeg).toInt = (iv 7 0 lg.toNatClampNeg).toInt)) ∧ (iv 6 0 l5_3.toNatClampNeg).toInt = (iv 5 0 lg.toNatClampNeg).toInt ∧ (iv 10 0 l5_3.toNatClampNeg).toInt + (rsF iv bb).toInt ≤ (iv 9 0 lg.toNatClampNeg).toInt))) → W p l e (rm 0) s m args below meth c H locs 0 0 Q (F0 m 131 ls [.int v_8]) := by
              intro v_8 ls hl i131_0 i131_1
              refine lv_istore (lv' := [(7, .int v_8), (0, .ref (al.2 0 0)), (1, .int lg), (2, .int bb), (3, .int l3_2), (4, .int v_1), (5, .int l5_3)]) hx hb dX12_aheadOf_131 hl (by decide) rfl (fun ls hl => ?_)
              refine lv_iload hx hb dX12_aheadOf_133 (lv_at hl 0 rfl) ?_
              have J_164 : ∀ (v_9 : Int32) (ls : Array Slot), lv_has ls 8 [(0, .ref (al.2 0 0)), (1, .int lg), (2, .int bb), (4, .int v_1), (5, .int l5_3)] → (-1 ≤ v_9.toInt ∧ v_9.toInt ≤ 40) → v_9 = ahStep iv lg.toNatClampNeg bb l3_2 l5_3.toNatClampNeg → (-1 ≤ v_9.toInt ∧ v_9.toInt ≤ l5_3.toInt) → W p l e (rm 0) s m args below meth c H locs 0 0 Q (F0 m 164 ls [.int v_9]) := by
                intro v_9 ls hl i164_0 i164_1 i164_2
                refine lv_istore_n (lv' := [(3, .int v_9), (0, .ref (al.2 0 0)), (1, .int lg), (2, .int bb), (4, .int v_1), (5, .int l5_3)]) hx hb dX12_aheadOf_164 rfl hl (by decide) rfl (fun ls hl => ?_)
                obtain ⟨x_10, e_11⟩ : ∃ y : Int32, y = l5_3 + 1 := ⟨_, rfl⟩
                have te_11 : x_10.toInt = (l5_3 : Int32).toInt + (1 : Int32).toInt := by rw [e_11]; exact fb_addI (by omega) (by omega)
                refine lv_iinc (v := x_10) (lv' := [(5, .int x_10), (3, .int v_9), (0, .ref (al.2 0 0)), (1, .int lg), (2, .int bb), (4, .int v_1)]) hx hb dX12_aheadOf_165 hl (k := 5) rfl (by rw [e_11]; rfl) (by decide) rfl (fun ls hl => ?_)
                refine lv_goto (tgt := 26) hx hb dX12_aheadOf_168 (by decide) ?_
                exact ih_26 v_9 x_10 _ (lv_sub hl [2, 3, 4, 5, 1, 0] rfl) (by omega) (by omega) (by first | rfl | exact ah_back (by assumption) (by omega) i26_2 i164_1) (by omega) (by omega) (by omega)
              have J_163 : ∀ (ls : Array Slot), lv_has ls 8 [(0, .ref (al.2 0 0)), (1, .int lg), (2, .int bb), (3, .int l3_2), (4, .int v_1), (5, .int l5_3)] → (¬ (((((¬ bb.toInt = 0) ∧ (iv 8 0 l5_3.toNatClampNeg).toInt = (iv 8 0 lg.toNatClampNeg).toInt) ∨ (bb.toInt = 0 ∧ (iv 7 0 l5_3.toNatClampNeg).toInt = (iv 7 0 lg.toNatClampNeg).toInt)) ∧ (iv 6 0 l5_3.toNatClampNeg).toInt = (iv 5 0 lg.toNatClampNeg).toInt ∧ (iv 10 0 l5_3.toNatClampNeg).toInt + (rsF iv bb).toInt ≤ (iv 9 0 lg.toNatClampNeg).toInt) ∧ (l3_2.toInt < 0 ∨ (iv 10 0 l3_2.toNatClampNeg).toInt ≤ (iv 10 0 l5_3.toNatClampNeg).toInt))) → W p l e (rm 0) s m args below meth c H locs 0 0 Q (F0 m 163 ls []) := by
                intro ls hl i163_0
                refine lv_iload_n hx hb dX12_aheadOf_163 rfl (lv_at hl 3 rfl) ?_
                exact J_164 l3_2 _ (lv_sub hl [0, 1, 2, 4, 5] rfl) (by omega) (by unfold ahStep; split <;> first | (exfalso; omega) | rfl | exact (nat_of (by omega)).symm) (by omega)
              refine b_if_eq (tgt := 163) hx hb dX12_aheadOf_135 (by decide) (fun c_12 => ?_) (fun c_12 => ?_)
              ·
                exact J_163 _ (lv_sub hl [1, 2, 3, 4, 5, 6] rfl) (by omega)
              ·
                refine lv_iload_n hx hb dX12_aheadOf_138 rfl (lv_at hl 4 rfl) ?_
                have J_158 : ∀ (ls : Array Slot), lv_has ls 8 [(0, .ref (al.2 0 0)), (1, .int lg), (2, .int bb), (4, .int v_1), (5, .int l5_3)] → (l3_2.toInt < 0 ∨ (iv 10 0 l3_2.toNatClampNeg).toInt ≤ (iv 10 0 l5_3.toNatClampNeg).toInt) → W p l e (rm 0) s m args below meth c H locs 0 0 Q (F0 m 158 ls []) := by
                  intro ls hl i158_0
                  refine lv_iload hx hb dX12_aheadOf_158 (lv_at hl 4 rfl) ?_
                  refine lv_goto (tgt := 164) hx hb dX12_aheadOf_160 (by decide) ?_
                  exact J_164 l5_3 _ (lv_sub hl [0, 1, 2, 3, 4] rfl) (by omega) (by unfold ahStep; split <;> first | (exfalso; omega) | rfl | exact (nat_of (by omega)).symm) (by omega)
                refine b_if_lt (tgt := 158) hx hb dX12_aheadOf_139 (by decide) (fun c_13 => ?_) (fun c_13 => ?_)
                ·
                  exact J_158 _ (lv_sub hl [1, 2, 3, 5, 6] rfl) (by omega)
                ·
                  refine lv_aload_n hx hb dX12_aheadOf_142 rfl (lv_at hl 1 rfl) ?_
                  refine g_0_12 C hU hG (h1_0 hG) fl_X12_37 dX12_aheadOf_143 ?_
                  refine lv_iload hx hb dX12_aheadOf_146 (lv_at hl 6 rfl) ?_
                  refine a_10 C hU hG (h1_10 hG) (x := l5_3) (by omega) (by omega) dX12_aheadOf_148 (fun x_14 e_15 le_15 ue_15 => ?_)
                  have te_15 := congrArg Int32.toInt e_15
                  refine lv_aload_n hx hb dX12_aheadOf_149 rfl (lv_at hl 1 rfl) ?_
                  refine g_0_12 C hU hG (h1_0 hG) fl_X12_37 dX12_aheadOf_150 ?_
                  refine lv_iload_n hx hb dX12_aheadOf_153 rfl (lv_at hl 4 rfl) ?_
                  refine a_10 C hU hG (h1_10 hG) (x := l3_2) (by omega) (by omega) dX12_aheadOf_154 (fun x_16 e_17 le_17 ue_17 => ?_)
                  have te_17 := congrArg Int32.toInt e_17
                  refine b_icmp_lt (tgt := 163) hx hb dX12_aheadOf_155 (by decide) (fun c_18 => ?_) (fun c_18 => ?_)
                  ·
                    exact J_163 _ (lv_sub hl [1, 2, 3, 4, 5, 6] rfl) (by omega)
                  ·
                    exact J_158 _ (lv_sub hl [1, 2, 3, 5, 6] rfl) (by omega)
            have J_130 : ∀ (ls : Array Slot), lv_has ls 8 [(0, .ref (al.2 0 0)), (1, .int lg), (2, .int bb), (3, .int l3_2), (4, .int v_1), (5, .int l5_3)] → (¬ ((((¬ bb.toInt = 0) ∧ (iv 8 0 l5_3.toNatClampNeg).toInt = (iv 8 0 lg.toNatClampNeg).toInt) ∨ (bb.toInt = 0 ∧ (iv 7 0 l5_3.toNatClampNeg).toInt = (iv 7 0 lg.toNatClampNeg).toInt)) ∧ (iv 6 0 l5_3.toNatClampNeg).toInt = (iv 5 0 lg.toNatClampNeg).toInt ∧ (iv 10 0 l5_3.toNatClampNeg).toInt + (rsF iv bb).toInt ≤ (iv 9 0 lg.toNatClampNeg).toInt)) → W p l e (rm 0) s m args below meth c H locs 0 0 Q (F0 m 130 ls []) := by
              intro ls hl i130_0
              refine lv_iconst (v := 0) hx hb dX12_aheadOf_130 (by decide) ?_
              exact J_131 0 _ (lv_sub hl [0, 1, 2, 3, 4, 5] rfl) (by omega) (by omega)
            refine b_if_eq (tgt := 130) hx hb dX12_aheadOf_88 (by decide) (fun c_19 => ?_) (fun c_19 => ?_)
            ·
              exact J_130 _ (lv_sub hl [1, 2, 3, 4, 5, 6] rfl) (by omega)
            ·
              refine lv_aload_n hx hb dX12_aheadOf_91 rfl (lv_at hl 1 rfl) ?_
              refine g_0_8 C hU hG (h1_0 hG) fl_X12_25 dX12_aheadOf_92 ?_
              refine lv_iload hx hb dX12_aheadOf_95 (lv_at hl 6 rfl) ?_
              refine a_6 C hU hG (h1_6 hG) (x := l5_3) (by omega) (by omega) dX12_aheadOf_97 (fun x_20 e_21 le_21 ue_21 => ?_)
              have te_21 := congrArg Int32.toInt e_21
              refine lv_aload_n hx hb dX12_aheadOf_98 rfl (lv_at hl 1 rfl) ?_
              refine g_0_7 C hU hG (h1_0 hG) fl_X12_22 dX12_aheadOf_99 ?_
              refine lv_iload_n hx hb dX12_aheadOf_102 rfl (lv_at hl 2 rfl) ?_
              refine a_5 C hU hG (h1_5 hG) (x := lg) (by omega) (by omega) dX12_aheadOf_103 (fun x_22 e_23 le_23 ue_23 => ?_)
              have te_23 := congrArg Int32.toInt e_23
              refine b_icmp_ne (tgt := 130) hx hb dX12_aheadOf_104 (by decide) (fun c_24 => ?_) (fun c_24 => ?_)
              ·
                exact J_130 _ (lv_sub hl [1, 2, 3, 4, 5, 6] rfl) (by omega)
              ·
                refine lv_aload_n hx hb dX12_aheadOf_107 rfl (lv_at hl 1 rfl) ?_
                refine g_0_12 C hU hG (h1_0 hG) fl_X12_37 dX12_aheadOf_108 ?_
                refine lv_iload hx hb dX12_aheadOf_111 (lv_at hl 6 rfl) ?_
                refine a_10 C hU hG (h1_10 hG) (x := l5_3) (by omega) (by omega) dX12_aheadOf_113 (fun x_25 e_26 le_26 ue_26 => ?_)
                have te_26 := congrArg Int32.toInt e_26
                refine lv_iload hx hb dX12_aheadOf_114 (lv_at hl 5 rfl) ?_
                refine lv_iadd hx hb dX12_aheadOf_116 ?_
                refine lv_topi (fun x_27 e_28 => ?_)
                have te_28 : x_27.toInt = (x_25 : Int32).toInt + (v_1 : Int32).toInt := by rw [e_28]; exact fb_addI (by omega) (by omega)
                refine lv_aload_n hx hb dX12_aheadOf_117 rfl (lv_at hl 1 rfl) ?_
                refine g_0_11 C hU hG (h1_0 hG) fl_X12_34 dX12_aheadOf_118 ?_
                refine lv_iload_n hx hb dX12_aheadOf_121 rfl (lv_at hl 2 rfl) ?_
                refine a_9 C hU hG (h1_9 hG) (x := lg) (by omega) (by omega) dX12_aheadOf_122 (fun x_29 e_30 le_30 ue_30 => ?_)
                have te_30 := congrArg Int32.toInt e_30
                refine b_icmp_gt (tgt := 130) hx hb dX12_aheadOf_123 (by decide) (fun c_31 => ?_) (fun c_31 => ?_)
                ·
                  exact J_130 _ (lv_sub hl [1, 2, 3, 4, 5, 6] rfl) (by omega)
                ·
                  refine lv_iconst (v := 1) hx hb dX12_aheadOf_126 (by decide) ?_
                  refine lv_goto (tgt := 131) hx hb dX12_aheadOf_127 (by decide) ?_
                  exact J_131 1 _ (lv_sub hl [1, 2, 3, 4, 5, 6] rfl) (by omega) (by omega)
          refine b_if_eq (tgt := 63) hx hb dX12_aheadOf_36 (by decide) (fun c_32 => ?_) (fun c_32 => ?_)
          ·
            refine lv_aload_n hx hb dX12_aheadOf_63 rfl (lv_at hl 0 rfl) ?_
            refine g_0_9 C hU hG (h1_0 hG) fl_X12_28 dX12_aheadOf_64 ?_
            refine lv_iload hx hb dX12_aheadOf_67 (lv_at hl 5 rfl) ?_
            refine a_7 C hU hG (h1_7 hG) (x := l5_3) (by omega) (by omega) dX12_aheadOf_69 (fun x_33 e_34 => ?_)
            have te_34 := congrArg Int32.toInt e_34
            refine lv_aload_n hx hb dX12_aheadOf_70 rfl (lv_at hl 0 rfl) ?_
            refine g_0_9 C hU hG (h1_0 hG) fl_X12_28 dX12_aheadOf_71 ?_
            refine lv_iload_n hx hb dX12_aheadOf_74 rfl (lv_at hl 1 rfl) ?_
            refine a_7 C hU hG (h1_7 hG) (x := lg) (by omega) (by omega) dX12_aheadOf_75 (fun x_35 e_36 => ?_)
            have te_36 := congrArg Int32.toInt e_36
            refine b_icmp_ne (tgt := 83) hx hb dX12_aheadOf_76 (by decide) (fun c_37 => ?_) (fun c_37 => ?_)
            ·
              refine lv_iconst (v := 0) hx hb dX12_aheadOf_83 (by decide) ?_
              exact J_84 0 _ (lv_sub hl [0, 1, 2, 4, 3, 5] rfl) (by omega) (by omega)
            ·
              refine lv_iconst (v := 1) hx hb dX12_aheadOf_79 (by decide) ?_
              refine lv_goto (tgt := 84) hx hb dX12_aheadOf_80 (by decide) ?_
              exact J_84 1 _ (lv_sub hl [0, 1, 2, 4, 3, 5] rfl) (by omega) (by omega)
          ·
            refine lv_aload_n hx hb dX12_aheadOf_39 rfl (lv_at hl 0 rfl) ?_
            refine g_0_10 C hU hG (h1_0 hG) fl_X12_31 dX12_aheadOf_40 ?_
            refine lv_iload hx hb dX12_aheadOf_43 (lv_at hl 5 rfl) ?_
            refine a_8 C hU hG (h1_8 hG) (x := l5_3) (by omega) (by omega) dX12_aheadOf_45 (fun x_38 e_39 => ?_)
            have te_39 := congrArg Int32.toInt e_39
            refine lv_aload_n hx hb dX12_aheadOf_46 rfl (lv_at hl 0 rfl) ?_
            refine g_0_10 C hU hG (h1_0 hG) fl_X12_31 dX12_aheadOf_47 ?_
            refine lv_iload_n hx hb dX12_aheadOf_50 rfl (lv_at hl 1 rfl) ?_
            refine a_8 C hU hG (h1_8 hG) (x := lg) (by omega) (by omega) dX12_aheadOf_51 (fun x_40 e_41 => ?_)
            have te_41 := congrArg Int32.toInt e_41
            refine b_icmp_ne (tgt := 59) hx hb dX12_aheadOf_52 (by decide) (fun c_42 => ?_) (fun c_42 => ?_)
            ·
              refine lv_iconst (v := 0) hx hb dX12_aheadOf_59 (by decide) ?_
              refine lv_goto (tgt := 84) hx hb dX12_aheadOf_60 (by decide) ?_
              exact J_84 0 _ (lv_sub hl [0, 1, 2, 4, 3, 5] rfl) (by omega) (by omega)
            ·
              refine lv_iconst (v := 1) hx hb dX12_aheadOf_55 (by decide) ?_
              refine lv_goto (tgt := 84) hx hb dX12_aheadOf_56 (by decide) ?_
              exact J_84 1 _ (lv_sub hl [0, 1, 2, 4, 3, 5] rfl) (by omega) (by omega)
    exact J_26 _ (-1) 0 _ (lv_sub hl [2, 3, 4, 1, 5, 0] rfl) (by omega) (by omega) (by first | rfl | exact ah_back (by assumption) (by omega) i26_2 i164_1) (by omega) (by omega) (Nat.lt_succ_self _)
  refine b_if_eq (tgt := 15) hx hb dX12_aheadOf_3 (by decide) (fun c_43 => ?_) (fun c_43 => ?_)
  ·
    refine lv_aload_n hx hb dX12_aheadOf_15 rfl (lv_at hl 1 rfl) ?_
    refine g_0_17 C hU hG (h1_0 hG) fl_X12_53 dX12_aheadOf_16 ?_
    refine lv_iconst (v := 0) hx hb dX12_aheadOf_19 (by decide) ?_
    refine a_15 C hU hG (h1_15 hG) (x := 0) (by omega) (by omega) dX12_aheadOf_20 (fun x_44 e_45 le_45 ue_45 => ?_)
    have te_45 := congrArg Int32.toInt e_45
    exact J_21 x_44 _ (lv_sub hl [1, 2, 3, 0] rfl) (by omega) (by unfold rsF; split <;> first | (exfalso; omega) | (simp only [e_45]; rfl))
  ·
    refine lv_aload_n hx hb dX12_aheadOf_6 rfl (lv_at hl 1 rfl) ?_
    refine g_0_17 C hU hG (h1_0 hG) fl_X12_53 dX12_aheadOf_7 ?_
    refine lv_iconst (v := 1) hx hb dX12_aheadOf_10 (by decide) ?_
    refine a_15 C hU hG (h1_15 hG) (x := 1) (by omega) (by omega) dX12_aheadOf_11 (fun x_46 e_47 le_47 ue_47 => ?_)
    have te_47 := congrArg Int32.toInt e_47
    refine lv_goto (tgt := 21) hx hb dX12_aheadOf_12 (by decide) ?_
    exact J_21 x_46 _ (lv_sub hl [1, 2, 3, 0] rfl) (by omega) (by unfold rsF; split <;> first | (exfalso; omega) | (simp only [e_47]; rfl))
