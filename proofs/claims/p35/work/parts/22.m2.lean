set_option maxHeartbeats 4000000 in
set_option maxRecDepth 100000 in
theorem c_X12_waitOf {l : Launch} {D : va_G} {cA : FieldType → ClassId} {sz : Nat} {al : Al} {iv : Iv} {rv : Rv} (hG : GI al iv rv) (lg : Int32) (bb : Int32) (pre0 : 0 ≤ lg.toInt ∧ lg.toInt < 40) : Met l yX12_waitOf (wd yX12_waitOf cX12_waitOf 5 (some .int)) (rm 3) (PcW D cA sz al iv rv [.ref (al.2 0 0), .int lg, .int bb]) (QI D cA sz al (pI iv rv (fun r => (0 ≤ r.toInt ∧ r.toInt ≤ 2147483647) ∧ (r = wtF iv lg.toNatClampNeg bb)))) 0 0 (Aq sz) := by
  refine mk_i (by decide) (Nat.le_of_ble_eq_true rfl) rfl ?_
  intro p e s m args below meth c ls Q H locs C hU hS hl hret
  have hx := C.1.1
  have hb := C.1.2.1
  have hl : lv_has ls 5 [(0, .ref (al.2 0 0)), (1, .int lg), (2, .int bb)] := hl
  have hG0 := hG
  have h6 := le6 hG
  have h20 := le20 hG
  have h41 := le41 hG
  have k0 : (0 : Int32).toInt = 0 := by decide
  have k1 : (1 : Int32).toInt = 1 := by decide
  refine lv_aload_n hx hb dX12_waitOf_0 rfl (lv_at hl 0 rfl) ?_
  refine lv_iload_n hx hb dX12_waitOf_1 rfl (lv_at hl 1 rfl) ?_
  refine lv_iload_n hx hb dX12_waitOf_2 rfl (lv_at hl 2 rfl) ?_
  refine q_pi (q_runV (t := 0) (i := 0) (As := [.int lg, .int bb]) (rest := []) C hU (c_X12_aheadOf hG lg bb (by omega)) vm_X12_aheadOf ml_X12_196 k_0.1 (hc := rfl) rfl (h1_0 hG) hl.1 rfl rfl (Nat.le_of_ble_eq_true rfl) dX12_waitOf_3 rfl rfl ⟨Nat.le_of_ble_eq_true rfl, Nat.le_of_ble_eq_true rfl⟩ ⟨Nat.le_refl _, Nat.le_refl _⟩) hS (fun x_2 H locs hp_1 hU hS => ?_)
  have q_3 := hp_1.2.1
  have tq_3 := congrArg Int32.toInt q_3
  refine lv_istore_n (lv' := [(3, .int x_2), (0, .ref (al.2 0 0)), (1, .int lg), (2, .int bb)]) hx hb dX12_waitOf_6 rfl hl (by decide) rfl (fun ls hl => ?_)
  refine lv_iload_n hx hb dX12_waitOf_7 rfl (lv_at hl 0 rfl) ?_
  refine b_if_lt (tgt := 20) hx hb dX12_waitOf_8 (by decide) (fun c_4 => ?_) (fun c_4 => ?_)
  ·
    refine lv_iconst (v := 0) hx hb dX12_waitOf_20 (by decide) ?_
    exact hret (⟨rfl, rfl, ⟨⟨by omega, Int.le_of_lt_add_one (fb_rng _).2⟩, by rw [wtF, ← q_3]; split <;> first | rfl | (split <;> first | rfl | (exfalso; omega))⟩⟩) hU hS dX12_waitOf_21
  ·
    refine lv_aload_n hx hb dX12_waitOf_11 rfl (lv_at hl 1 rfl) ?_
    refine g_0_13 C hU hG (h1_0 hG) fl_X12_40 dX12_waitOf_12 ?_
    refine lv_iload_n hx hb dX12_waitOf_15 rfl (lv_at hl 0 rfl) ?_
    refine a_11 C hU hG (h1_11 hG) (x := x_2) (by omega) (by omega) dX12_waitOf_16 (fun x_5 e_6 le_6 ue_6 => ?_)
    have te_6 := congrArg Int32.toInt e_6
    refine b_if_ne (tgt := 22) hx hb dX12_waitOf_17 (by decide) (fun c_7 => ?_) (fun c_7 => ?_)
    ·
      refine lv_aload_n hx hb dX12_waitOf_22 rfl (lv_at hl 1 rfl) ?_
      refine lv_iload_n hx hb dX12_waitOf_23 rfl (lv_at hl 0 rfl) ?_
      refine q_pi (q_runV (t := 0) (i := 0) (As := [.int x_2]) (rest := []) C hU (c_X12_rightArrive hG x_2 (by omega)) vm_X12_rightArrive ml_X12_190 k_0.1 (hc := rfl) rfl (h1_0 hG) hl.1 rfl rfl (Nat.le_of_ble_eq_true rfl) dX12_waitOf_24 rfl rfl ⟨Nat.le_of_ble_eq_true rfl, Nat.le_of_ble_eq_true rfl⟩ ⟨Nat.le_refl _, Nat.le_refl _⟩) hS (fun x_9 H locs hp_8 hU hS => ?_)
      have q_10 := hp_8.2
      have tq_10 := congrArg Int32.toInt q_10
      refine lv_iload_n hx hb dX12_waitOf_27 rfl (lv_at hl 3 rfl) ?_
      have J_46 : ∀ (v_11 : Int32) (ls : Array Slot), lv_has ls 5 [(0, .ref (al.2 0 0)), (1, .int lg)] → (0 ≤ v_11.toInt ∧ v_11.toInt ≤ 900) → v_11 = rsF iv bb → W p l e (rm 3) s m args below meth c H locs 0 0 Q (F0 m 46 ls [.int v_11, .int x_9]) := by
        intro v_11 ls hl i46_0 i46_1
        refine lv_iadd hx hb dX12_waitOf_46 ?_
        refine lv_topi (fun x_12 e_13 => ?_)
        refine lv_aload_n hx hb dX12_waitOf_47 rfl (lv_at hl 0 rfl) ?_
        refine g_0_11 C hU hG (h1_0 hG) fl_X12_34 dX12_waitOf_48 ?_
        refine lv_iload_n hx hb dX12_waitOf_51 rfl (lv_at hl 1 rfl) ?_
        refine a_9 C hU hG (h1_9 hG) (x := lg) (by omega) (by omega) dX12_waitOf_52 (fun x_14 e_15 le_15 ue_15 => ?_)
        have te_15 := congrArg Int32.toInt e_15
        refine lv_isub hx hb dX12_waitOf_53 ?_
        refine lv_topi (fun x_16 e_17 => ?_)
        refine q_pi (q_runS (As := [.int x_16]) (rest := []) C hU (c_X12_over  x_16 ) sm_X12_over ml_X12_187 hl.1 rfl rfl (Nat.le_of_ble_eq_true rfl) dX12_waitOf_54 rfl rfl ⟨Nat.le_of_ble_eq_true rfl, Nat.le_of_ble_eq_true rfl⟩ ⟨Nat.le_refl _, Nat.le_refl _⟩) hS (fun x_19 H locs hp_18 hU hS => ?_)
        have q_20 := hp_18.2
        have tq_20 := congrArg Int32.toInt q_20
        refine lv_istore (lv' := [(4, .int x_19), (0, .ref (al.2 0 0)), (1, .int lg)]) hx hb dX12_waitOf_57 hl (by decide) rfl (fun ls hl => ?_)
        refine lv_iload hx hb dX12_waitOf_59 (lv_at hl 0 rfl) ?_
        refine lv_aload_n hx hb dX12_waitOf_61 rfl (lv_at hl 1 rfl) ?_
        refine lv_iload_n hx hb dX12_waitOf_62 rfl (lv_at hl 2 rfl) ?_
        refine q_pi (q_runV (t := 0) (i := 0) (As := [.int lg]) (rest := [.int x_19]) C hU (c_X12_outlateOf hG lg (by omega)) vm_X12_outlateOf ml_X12_200 k_0.1 (hc := rfl) rfl (h1_0 hG) hl.1 rfl rfl (Nat.le_of_ble_eq_true rfl) dX12_waitOf_63 rfl rfl ⟨Nat.le_of_ble_eq_true rfl, Nat.le_of_ble_eq_true rfl⟩ ⟨Nat.le_refl _, Nat.le_refl _⟩) hS (fun x_22 H locs hp_21 hU hS => ?_)
        have q_23 := hp_21.2
        have tq_23 := congrArg Int32.toInt q_23
        refine q_pi (q_runS (As := [.int x_19, .int x_22]) (rest := []) C hU (c_X12_lesser  x_19 x_22 ) sm_X12_lesser ml_X12_203 hl.1 rfl rfl (Nat.le_of_ble_eq_true rfl) dX12_waitOf_66 rfl rfl ⟨Nat.le_of_ble_eq_true rfl, Nat.le_of_ble_eq_true rfl⟩ ⟨Nat.le_refl _, Nat.le_refl _⟩) hS (fun x_25 H locs hp_24 hU hS => ?_)
        have q_26 := hp_24.1
        have tq_26 := congrArg Int32.toInt q_26
        exact hret (⟨rfl, rfl, ⟨⟨by omega, Int.le_of_lt_add_one (fb_rng _).2⟩, by rw [wtF, ← q_3]; split <;> first | (exfalso; omega) | (split <;> first | (exfalso; omega) | simp only [q_3, e_6, q_10, i46_1, e_13, e_15, e_17, q_20, q_23, q_26])⟩⟩) hU hS dX12_waitOf_69
      refine b_if_eq (tgt := 40) hx hb dX12_waitOf_28 (by decide) (fun c_27 => ?_) (fun c_27 => ?_)
      ·
        refine lv_aload_n hx hb dX12_waitOf_40 rfl (lv_at hl 1 rfl) ?_
        refine g_0_17 C hU hG (h1_0 hG) fl_X12_53 dX12_waitOf_41 ?_
        refine lv_iconst (v := 0) hx hb dX12_waitOf_44 (by decide) ?_
        refine a_15 C hU hG (h1_15 hG) (x := 0) (by omega) (by omega) dX12_waitOf_45 (fun x_28 e_29 le_29 ue_29 => ?_)
        have te_29 := congrArg Int32.toInt e_29
        exact J_46 x_28 _ (lv_sub hl [1, 2] rfl) (by omega) (by unfold rsF; split <;> first | (exfalso; omega) | (simp only [q_3, e_6, q_10, e_29]; rfl))
      ·
        refine lv_aload_n hx hb dX12_waitOf_31 rfl (lv_at hl 1 rfl) ?_
        refine g_0_17 C hU hG (h1_0 hG) fl_X12_53 dX12_waitOf_32 ?_
        refine lv_iconst (v := 1) hx hb dX12_waitOf_35 (by decide) ?_
        refine a_15 C hU hG (h1_15 hG) (x := 1) (by omega) (by omega) dX12_waitOf_36 (fun x_30 e_31 le_31 ue_31 => ?_)
        have te_31 := congrArg Int32.toInt e_31
        refine lv_goto (tgt := 46) hx hb dX12_waitOf_37 (by decide) ?_
        exact J_46 x_30 _ (lv_sub hl [1, 2] rfl) (by omega) (by unfold rsF; split <;> first | (exfalso; omega) | (simp only [q_3, e_6, q_10, e_31]; rfl))
    ·
      refine lv_iconst (v := 0) hx hb dX12_waitOf_20 (by decide) ?_
      exact hret (⟨rfl, rfl, ⟨⟨by omega, Int.le_of_lt_add_one (fb_rng _).2⟩, by rw [wtF, ← q_3]; split <;> first | rfl | (split <;> first | rfl | (exfalso; omega))⟩⟩) hU hS dX12_waitOf_21
set_option maxHeartbeats 4000000 in
set_option maxRecDepth 100000 in
theorem c_X12_isByCrew {l : Launch} {D : va_G} {cA : FieldType → ClassId} {sz : Nat} {al : Al} {iv : Iv} {rv : Rv} (hG : GI al iv rv) (lg : Int32) (pre0 : 0 ≤ lg.toInt ∧ lg.toInt < 40) : Met l yX12_isByCrew (wd yX12_isByCrew cX12_isByCrew 2 (some .boolean)) (rm 4) (PcW D cA sz al iv rv [.ref (al.2 0 0), .int lg]) (QI D cA sz al (pI iv rv (fun r => (0 ≤ r.toInt ∧ r.toInt ≤ 1) ∧ (r = bcF iv lg.toNatClampNeg)))) 0 0 (Aq sz) := by
  refine mk_z (by decide) (Nat.le_of_ble_eq_true rfl) rfl ?_
  intro p e s m args below meth c ls Q H locs C hU hS hl hret
  have hx := C.1.1
  have hb := C.1.2.1
  have hl : lv_has ls 2 [(0, .ref (al.2 0 0)), (1, .int lg)] := hl
  have hG0 := hG
  have h6 := le6 hG
  have h20 := le20 hG
  have h41 := le41 hG
  have k0 : (0 : Int32).toInt = 0 := by decide
  have k1 : (1 : Int32).toInt = 1 := by decide
  refine lv_aload_n hx hb dX12_isByCrew_0 rfl (lv_at hl 0 rfl) ?_
  refine lv_iload_n hx hb dX12_isByCrew_1 rfl (lv_at hl 1 rfl) ?_
  refine lv_iconst (v := 1) hx hb dX12_isByCrew_2 (by decide) ?_
  refine q_pi (q_runV (t := 0) (i := 0) (As := [.int lg, .int 1]) (rest := []) C hU (c_X12_waitOf hG lg 1 (by omega)) vm_X12_waitOf ml_X12_207 k_0.1 (hc := rfl) rfl (h1_0 hG) hl.1 rfl rfl (Nat.le_of_ble_eq_true rfl) dX12_isByCrew_3 rfl rfl ⟨Nat.le_of_ble_eq_true rfl, Nat.le_of_ble_eq_true rfl⟩ ⟨Nat.le_refl _, Nat.le_refl _⟩) hS (fun x_2 H locs hp_1 hU hS => ?_)
  have q_3 := hp_1.2
  have tq_3 := congrArg Int32.toInt q_3
  refine lv_aload_n hx hb dX12_isByCrew_6 rfl (lv_at hl 0 rfl) ?_
  refine lv_iload_n hx hb dX12_isByCrew_7 rfl (lv_at hl 1 rfl) ?_
  refine lv_iconst (v := 0) hx hb dX12_isByCrew_8 (by decide) ?_
  refine q_pi (q_runV (t := 0) (i := 0) (As := [.int lg, .int 0]) (rest := [.int x_2]) C hU (c_X12_waitOf hG lg 0 (by omega)) vm_X12_waitOf ml_X12_207 k_0.1 (hc := rfl) rfl (h1_0 hG) hl.1 rfl rfl (Nat.le_of_ble_eq_true rfl) dX12_isByCrew_9 rfl rfl ⟨Nat.le_of_ble_eq_true rfl, Nat.le_of_ble_eq_true rfl⟩ ⟨Nat.le_refl _, Nat.le_refl _⟩) hS (fun x_5 H locs hp_4 hU hS => ?_)
  have q_6 := hp_4.2
  have tq_6 := congrArg Int32.toInt q_6
  refine b_icmp_le (tgt := 19) hx hb dX12_isByCrew_12 (by decide) (fun c_7 => ?_) (fun c_7 => ?_)
  ·
    refine lv_iconst (v := 0) hx hb dX12_isByCrew_19 (by decide) ?_
    exact hret (by omega) (by omega) (⟨rfl, rfl, ⟨⟨by omega, by omega⟩, by rw [bcF, ← q_3, ← q_6]; split <;> first | rfl | (exfalso; omega)⟩⟩) hU hS dX12_isByCrew_20
  ·
    refine lv_iconst (v := 1) hx hb dX12_isByCrew_15 (by decide) ?_
    refine lv_goto (tgt := 20) hx hb dX12_isByCrew_16 (by decide) ?_
    exact hret (by omega) (by omega) (⟨rfl, rfl, ⟨⟨by omega, by omega⟩, by rw [bcF, ← q_3, ← q_6]; split <;> first | rfl | (exfalso; omega)⟩⟩) hU hS dX12_isByCrew_20
set_option maxHeartbeats 4000000 in
set_option maxRecDepth 100000 in
theorem c_X12_handedOf {l : Launch} {D : va_G} {cA : FieldType → ClassId} {sz : Nat} {al : Al} {iv : Iv} {rv : Rv} (hG : GI al iv rv) (lg : Int32) (pre0 : 0 ≤ lg.toInt ∧ lg.toInt < 40) : Met l yX12_handedOf (wd yX12_handedOf cX12_handedOf 2 (some .int)) (rm 5) (PcW D cA sz al iv rv [.ref (al.2 0 0), .int lg]) (QI D cA sz al (pI iv rv (fun r => (0 ≤ r.toInt ∧ r.toInt ≤ 2147483647) ∧ (r = hdF iv lg.toNatClampNeg)))) 0 0 (Aq sz) := by
  refine mk_i (by decide) (Nat.le_of_ble_eq_true rfl) rfl ?_
  intro p e s m args below meth c ls Q H locs C hU hS hl hret
  have hx := C.1.1
  have hb := C.1.2.1
  have hl : lv_has ls 2 [(0, .ref (al.2 0 0)), (1, .int lg)] := hl
  have hG0 := hG
  have h6 := le6 hG
  have h20 := le20 hG
  have h41 := le41 hG
  refine lv_aload_n hx hb dX12_handedOf_0 rfl (lv_at hl 0 rfl) ?_
  refine lv_iload_n hx hb dX12_handedOf_1 rfl (lv_at hl 1 rfl) ?_
  refine q_pi (q_runV (t := 0) (i := 0) (As := [.int lg]) (rest := []) C hU (c_X12_lateOf hG lg (by omega)) vm_X12_lateOf ml_X12_210 k_0.1 (hc := rfl) rfl (h1_0 hG) hl.1 rfl rfl (Nat.le_of_ble_eq_true rfl) dX12_handedOf_2 rfl rfl ⟨Nat.le_of_ble_eq_true rfl, Nat.le_of_ble_eq_true rfl⟩ ⟨Nat.le_refl _, Nat.le_refl _⟩) hS (fun x_2 H locs hp_1 hU hS => ?_)
  have q_3 := hp_1.2
  have tq_3 := congrArg Int32.toInt q_3
  refine lv_aload_n hx hb dX12_handedOf_5 rfl (lv_at hl 0 rfl) ?_
  refine lv_iload_n hx hb dX12_handedOf_6 rfl (lv_at hl 1 rfl) ?_
  refine lv_aload_n hx hb dX12_handedOf_7 rfl (lv_at hl 0 rfl) ?_
  refine lv_iload_n hx hb dX12_handedOf_8 rfl (lv_at hl 1 rfl) ?_
  refine q_pi (q_runV (t := 0) (i := 0) (As := [.int lg]) (rest := [.int lg, .ref (al.2 0 0), .int x_2]) C hU (c_X12_isByCrew hG lg (by omega)) vm_X12_isByCrew ml_X12_213 k_0.1 (hc := rfl) rfl (h1_0 hG) hl.1 rfl rfl (Nat.le_of_ble_eq_true rfl) dX12_handedOf_9 rfl rfl ⟨Nat.le_of_ble_eq_true rfl, Nat.le_of_ble_eq_true rfl⟩ ⟨Nat.le_refl _, Nat.le_refl _⟩) hS (fun x_5 H locs hp_4 hU hS => ?_)
  have q_6 := hp_4.2
  have tq_6 := congrArg Int32.toInt q_6
  refine q_pi (q_runV (t := 0) (i := 0) (As := [.int lg, .int x_5]) (rest := [.int x_2]) C hU (c_X12_waitOf hG lg x_5 (by omega)) vm_X12_waitOf ml_X12_207 k_0.1 (hc := rfl) rfl (h1_0 hG) hl.1 rfl rfl (Nat.le_of_ble_eq_true rfl) dX12_handedOf_12 rfl rfl ⟨Nat.le_of_ble_eq_true rfl, Nat.le_of_ble_eq_true rfl⟩ ⟨Nat.le_refl _, Nat.le_refl _⟩) hS (fun x_8 H locs hp_7 hU hS => ?_)
  have q_9 := hp_7.2
  have tq_9 := congrArg Int32.toInt q_9
  refine q_pi (q_runS (As := [.int x_2, .int x_8]) (rest := []) C hU (c_X12_lesser  x_2 x_8 ) sm_X12_lesser ml_X12_203 hl.1 rfl rfl (Nat.le_of_ble_eq_true rfl) dX12_handedOf_15 rfl rfl ⟨Nat.le_of_ble_eq_true rfl, Nat.le_of_ble_eq_true rfl⟩ ⟨Nat.le_refl _, Nat.le_refl _⟩) hS (fun x_11 H locs hp_10 hU hS => ?_)
  have q_12 := hp_10.1
  have tq_12 := congrArg Int32.toInt q_12
  exact hret (⟨rfl, rfl, ⟨⟨by omega, Int.le_of_lt_add_one (fb_rng _).2⟩, by simp only [hdF, q_3, q_6, q_9, q_12]⟩⟩) hU hS dX12_handedOf_18
set_option maxHeartbeats 4000000 in
set_option maxRecDepth 100000 in
theorem c_X12_findMinutes {l : Launch} {D : va_G} {cA : FieldType → ClassId} {sz : Nat} {al : Al} {iv : Iv} {rv : Rv} (hG : GI al iv rv) (lg : Int32) (pre0 : 0 ≤ lg.toInt ∧ lg.toInt < 40) : Met l yX12_findMinutes (wd yX12_findMinutes cX12_findMinutes 5 none) (rm 6) (PcW D cA sz al iv rv [.ref (al.2 0 0), .int lg]) (QV D cA sz al (fV al ([17], []) iv rv (fun iv' rv' => True))) 0 0 (Aq sz) := by
  refine mk_v (by decide) (Nat.le_of_ble_eq_true rfl) rfl ?_
  intro p e s m args below meth c ls Q H locs C hU hS hl hret
  have hx := C.1.1
  have hb := C.1.2.1
  have hl : lv_has ls 5 [(0, .ref (al.2 0 0)), (1, .int lg)] := hl
  have hG0 := hG
  have h6 := le6 hG
  have h20 := le20 hG
  have h41 := le41 hG
  have hF1 : FR ([17], []) iv iv := FR.rf
  have hF2 : FR ([17], []) rv rv := FR.rf
  have k0 : (0 : Int32).toInt = 0 := by decide
  have k1 : (1 : Int32).toInt = 1 := by decide
  have k6 : (6 : Int32).toInt = 6 := by decide
  refine lv_iconst (v := 0) hx hb dX12_findMinutes_0 (by decide) ?_
  refine lv_istore_n (lv' := [(2, .int 0), (0, .ref (al.2 0 0)), (1, .int lg)]) hx hb dX12_findMinutes_1 rfl hl (by decide) rfl (fun ls hl => ?_)
  have J_2 : ∀ (n_2 : Nat) (l2_1 : Int32) (iv_2 : Iv) (rv_3 : Rv) (H : Heap) (locs : List Loc) (ls : Array Slot), lv_has ls 5 [(0, .ref (al.2 0 0)), (1, .int lg), (2, .int l2_1)] → GI al iv_2 rv_3 → FR ([17], []) iv iv_2 → FR ([17], []) rv rv_3 → UW D cA sz al iv_2 rv_3 H → va_S (Aq sz) s.heap H locs → (0 ≤ l2_1.toInt ∧ l2_1.toInt ≤ 6) → (6 - l2_1.toInt).toNat < n_2 → W p l e (rm 6) s m args below meth c H locs 0 0 Q (F0 m 2 ls []) := by
    intro n_2
    induction n_2 with
    | zero =>
      intro l2_1 iv_2 rv_3 H locs ls hl hG hF1 hF2 hU hS i2_0 hm_2
      exact absurd hm_2 (Nat.not_lt_zero _)
    | succ n_2 ih_2 =>
      intro l2_1 iv_2 rv_3 H locs ls hl hG hF1 hF2 hU hS i2_0 hm_2
      refine lv_iload_n hx hb dX12_findMinutes_2 rfl (lv_at hl 2 rfl) ?_
      refine lv_bipush (v := 6) hx hb dX12_findMinutes_3 (by decide) ?_
      refine b_icmp_ge (tgt := 21) hx hb dX12_findMinutes_5 (by decide) (fun c_4 => ?_) (fun c_4 => ?_)
      ·
        refine lv_iload_n hx hb dX12_findMinutes_21 rfl (lv_at hl 1 rfl) ?_
        refine lv_istore_n (lv' := [(2, .int lg), (0, .ref (al.2 0 0)), (1, .int lg)]) hx hb dX12_findMinutes_22 rfl hl (by decide) rfl (fun ls hl => ?_)
        refine lv_aload_n hx hb dX12_findMinutes_23 rfl (lv_at hl 1 rfl) ?_
        refine lv_iload_n hx hb dX12_findMinutes_24 rfl (lv_at hl 2 rfl) ?_
        refine q_pi (q_runV (t := 0) (i := 0) (As := [.int lg]) (rest := []) C hU (c_X12_lateOf hG lg (by omega)) vm_X12_lateOf ml_X12_210 k_0.1 (hc := rfl) rfl (h1_0 hG) hl.1 rfl rfl (Nat.le_of_ble_eq_true rfl) dX12_findMinutes_25 rfl rfl ⟨Nat.le_of_ble_eq_true rfl, Nat.le_of_ble_eq_true rfl⟩ ⟨Nat.le_refl _, Nat.le_refl _⟩) hS (fun x_6 H locs hp_5 hU hS => ?_)
        have q_7 := hp_5.2
        have tq_7 := congrArg Int32.toInt q_7
        refine lv_istore_n (lv' := [(3, .int x_6), (2, .int lg), (0, .ref (al.2 0 0)), (1, .int lg)]) hx hb dX12_findMinutes_28 rfl hl (by decide) rfl (fun ls hl => ?_)
        have J_29 : ∀ (n_29 : Nat) (l2_8 : Int32) (l3_9 : Int32) (iv_10 : Iv) (rv_11 : Rv) (H : Heap) (locs : List Loc) (ls : Array Slot), lv_has ls 5 [(0, .ref (al.2 0 0)), (2, .int l2_8), (3, .int l3_9)] → GI al iv_10 rv_11 → FR ([17], []) iv iv_10 → FR ([17], []) rv rv_11 → UW D cA sz al iv_10 rv_11 H → va_S (Aq sz) s.heap H locs → (0 ≤ l2_8.toInt ∧ l2_8.toInt ≤ 39) → (0 ≤ l3_9.toInt ∧ l3_9.toInt ≤ 2147483647) → ((iv 9 0 l2_8.toNatClampNeg).toInt + min l3_9.toInt 1).toNat < n_29 → W p l e (rm 6) s m args below meth c H locs 0 0 Q (F0 m 29 ls []) := by
          intro n_29
          induction n_29 with
          | zero =>
            intro l2_8 l3_9 iv_10 rv_11 H locs ls hl hG hF1 hF2 hU hS i29_0 i29_1 hm_29
            exact absurd hm_29 (Nat.not_lt_zero _)
          | succ n_29 ih_29 =>
            intro l2_8 l3_9 iv_10 rv_11 H locs ls hl hG hF1 hF2 hU hS i29_0 i29_1 hm_29
            have hlv : (0:Int) ≤ (iv 9 0 l2_8.toNatClampNeg).toInt := (hG0.1 9 0 l2_8.toNatClampNeg (h1_9 hG0) (by rw [clamp_n]; show _ < 40; omega)).1
            refine lv_iload_n hx hb dX12_findMinutes_29 rfl (lv_at hl 2 rfl) ?_
            refine b_if_le (tgt := 87) hx hb dX12_findMinutes_30 (by decide) (fun c_12 => ?_) (fun c_12 => ?_)
            ·
              exact hret (⟨hG, hF1, hF2, trivial⟩) hU hS dX12_findMinutes_87
            ·
              refine lv_iload_n hx hb dX12_findMinutes_33 rfl (lv_at hl 2 rfl) ?_
              refine lv_aload_n hx hb dX12_findMinutes_34 rfl (lv_at hl 0 rfl) ?_
              refine lv_iload_n hx hb dX12_findMinutes_35 rfl (lv_at hl 1 rfl) ?_
              refine q_pi (q_runV (t := 0) (i := 0) (As := [.int l2_8]) (rest := [.int l3_9]) C hU (c_X12_handedOf hG l2_8 (by omega)) vm_X12_handedOf ml_X12_216 k_0.1 (hc := rfl) rfl (h1_0 hG) hl.1 rfl rfl (Nat.le_of_ble_eq_true rfl) dX12_findMinutes_36 rfl rfl ⟨Nat.le_of_ble_eq_true rfl, Nat.le_of_ble_eq_true rfl⟩ ⟨Nat.le_refl _, Nat.le_refl _⟩) hS (fun x_14 H locs hp_13 hU hS => ?_)
              have q_15 := hp_13.2
              have tq_15 := congrArg Int32.toInt q_15
              have hh := q_15.trans (hd_cong (fr17 hF1) _)
              have thh := congrArg Int32.toInt hh
              refine q_pi (q_runS (As := [.int l3_9, .int x_14]) (rest := []) C hU (c_X12_lesser  l3_9 x_14 ) sm_X12_lesser ml_X12_203 hl.1 rfl rfl (Nat.le_of_ble_eq_true rfl) dX12_findMinutes_39 rfl rfl ⟨Nat.le_of_ble_eq_true rfl, Nat.le_of_ble_eq_true rfl⟩ ⟨Nat.le_refl _, Nat.le_refl _⟩) hS (fun x_17 H locs hp_16 hU hS => ?_)
              have q_18 := hp_16.1
              have tq_18 := congrArg Int32.toInt q_18
              refine lv_istore (lv' := [(4, .int x_17), (0, .ref (al.2 0 0)), (2, .int l2_8), (3, .int l3_9)]) hx hb dX12_findMinutes_42 hl (by decide) rfl (fun ls hl => ?_)
              refine lv_aload_n hx hb dX12_findMinutes_44 rfl (lv_at hl 1 rfl) ?_
              refine g_0_19 C hU hG (h1_0 hG) fl_X12_59 dX12_findMinutes_45 ?_
              refine lv_aload_n hx hb dX12_findMinutes_48 rfl (lv_at hl 1 rfl) ?_
              refine g_0_16 C hU hG (h1_0 hG) fl_X12_50 dX12_findMinutes_49 ?_
              refine lv_iload_n hx hb dX12_findMinutes_52 rfl (lv_at hl 2 rfl) ?_
              refine a_14 C hU hG (h1_14 hG) (x := l2_8) (by omega) (by omega) dX12_findMinutes_53 (fun x_19 e_20 le_20 ue_20 => ?_)
              have te_20 := congrArg Int32.toInt e_20
              have ne_20 : x_19.toInt = (iv 14 0 (l2_8 : Int32).toNatClampNeg).toInt := by rw [e_20, hF1.arr 14 0 (l2_8 : Int32).toNatClampNeg (by decide)]
              refine lv_dup2_11 hx hb dX12_findMinutes_54 rfl rfl ?_
              refine a_17 C hU hG (h1_17 hG) (x := x_19) (by omega) (by omega) dX12_findMinutes_55 (fun x_21 e_22 => ?_)
              have te_22 := congrArg Int32.toInt e_22
              refine lv_iload_n hx hb dX12_findMinutes_56 rfl (lv_at hl 3 rfl) ?_
              refine lv_iload hx hb dX12_findMinutes_57 (lv_at hl 0 rfl) ?_
              refine lv_isub hx hb dX12_findMinutes_59 ?_
              refine lv_topi (fun x_23 e_24 => ?_)
              refine lv_iadd hx hb dX12_findMinutes_60 ?_
              refine lv_topi (fun x_25 e_26 => ?_)
              refine s_17 C hU hS (h1_17 hG) (x := x_19) (by omega) (by omega) dX12_findMinutes_61 (fun iv_27 H locs ei_28 hU hS => ?_)
              have hG : GI al iv_27 rv_11 := by rw [ei_28]; exact hG.puti (show _ ∧ _ from ⟨(fb_rng _).1, Int.le_of_lt_add_one (fb_rng _).2⟩) (nsA (by decide) _)
              have hF1 : FR ([17], []) iv iv_27 := by rw [ei_28]; exact hF1.put (Or.inl (by decide))
              refine lv_iload hx hb dX12_findMinutes_62 (lv_at hl 0 rfl) ?_
              refine lv_istore_n (lv' := [(3, .int x_17), (4, .int x_17), (0, .ref (al.2 0 0)), (2, .int l2_8)]) hx hb dX12_findMinutes_64 rfl hl (by decide) rfl (fun ls hl => ?_)
              refine lv_iload_n hx hb dX12_findMinutes_65 rfl (lv_at hl 0 rfl) ?_
              have J_83 : ∀ (v_29 : Int32) (H : Heap) (locs : List Loc) (ls : Array Slot), lv_has ls 5 [(0, .ref (al.2 0 0)), (3, .int x_17)] → UW D cA sz al iv_27 rv_11 H → va_S (Aq sz) s.heap H locs → (-1 ≤ v_29.toInt ∧ v_29.toInt ≤ 39) → (0 ≤ v_29.toInt ∧ v_29.toInt ≤ 39) → ((x_17.toInt ≤ 0 ∧ (iv 9 0 v_29.toNatClampNeg).toInt = (iv 9 0 l2_8.toNatClampNeg).toInt) ∨ (0 < x_17.toInt ∧ (iv 9 0 v_29.toNatClampNeg).toInt < (iv 9 0 l2_8.toNatClampNeg).toInt)) → W p l e (rm 6) s m args below meth c H locs 0 0 Q (F0 m 83 ls [.int v_29]) := by
                intro v_29 H locs ls hl hU hS i83_0 i83_1 i83_2
                refine lv_istore_n (lv' := [(2, .int v_29), (0, .ref (al.2 0 0)), (3, .int x_17)]) hx hb dX12_findMinutes_83 rfl hl (by decide) rfl (fun ls hl => ?_)
                refine lv_goto (tgt := 29) hx hb dX12_findMinutes_84 (by decide) ?_
                exact ih_29 v_29 x_17 _ _ _ _ _ (lv_sub hl [1, 0, 2] rfl) hG hF1 hF2 hU hS (by omega) (by omega) (by omega)
              refine b_if_le (tgt := 82) hx hb dX12_findMinutes_66 (by decide) (fun c_30 => ?_) (fun c_30 => ?_)
              ·
                refine lv_iload_n hx hb dX12_findMinutes_82 rfl (lv_at hl 3 rfl) ?_
                exact J_83 l2_8 _ _ _ (lv_sub hl [2, 0] rfl) hU hS (by omega) (by omega) (by first | (left; exact ⟨by omega, rfl⟩) | (right; exact ⟨by omega, hlt.2⟩))
              ·
                refine lv_aload_n hx hb dX12_findMinutes_69 rfl (lv_at hl 2 rfl) ?_
                refine lv_iload_n hx hb dX12_findMinutes_70 rfl (lv_at hl 3 rfl) ?_
                refine lv_aload_n hx hb dX12_findMinutes_71 rfl (lv_at hl 2 rfl) ?_
                refine lv_iload_n hx hb dX12_findMinutes_72 rfl (lv_at hl 3 rfl) ?_
                refine q_pi (q_runV (t := 0) (i := 0) (As := [.int l2_8]) (rest := [.int l2_8, .ref (al.2 0 0)]) C hU (c_X12_isByCrew hG l2_8 (by omega)) vm_X12_isByCrew ml_X12_213 k_0.1 (hc := rfl) rfl (h1_0 hG) hl.1 rfl rfl (Nat.le_of_ble_eq_true rfl) dX12_findMinutes_73 rfl rfl ⟨Nat.le_of_ble_eq_true rfl, Nat.le_of_ble_eq_true rfl⟩ ⟨Nat.le_refl _, Nat.le_refl _⟩) hS (fun x_32 H locs hp_31 hU hS => ?_)
                have q_33 := hp_31.2
                have tq_33 := congrArg Int32.toInt q_33
                have hbc := q_33.trans (bc_cong (fr17 hF1) _)
                refine q_pi (q_runV (t := 0) (i := 0) (As := [.int l2_8, .int x_32]) (rest := []) C hU (c_X12_aheadOf hG l2_8 x_32 (by omega)) vm_X12_aheadOf ml_X12_196 k_0.1 (hc := rfl) rfl (h1_0 hG) hl.1 rfl rfl (Nat.le_of_ble_eq_true rfl) dX12_findMinutes_76 rfl rfl ⟨Nat.le_of_ble_eq_true rfl, Nat.le_of_ble_eq_true rfl⟩ ⟨Nat.le_refl _, Nat.le_refl _⟩) hS (fun x_35 H locs hp_34 hU hS => ?_)
                have q_36 := hp_34.2.1
                have tq_36 := congrArg Int32.toInt q_36
                have hah := q_36.trans (ah_cong (fr17 hF1) _ _)
                rw [hbc] at hah
                have hpos : 0 < (hdF iv l2_8.toNatClampNeg).toInt := by omega
                have hge := hd_pos hpos
                have hlt := ah_lt hG0 hge
                rw [← hah] at hge hlt
                have hl6 := le6 hG0
                refine lv_goto (tgt := 83) hx hb dX12_findMinutes_79 (by decide) ?_
                exact J_83 x_35 _ _ _ (lv_sub hl [2, 0] rfl) hU hS (by omega) (by omega) (by first | (left; exact ⟨by omega, rfl⟩) | (right; exact ⟨by omega, hlt.2⟩))
        exact J_29 _ lg x_6 _ _ _ _ _ (lv_sub hl [2, 1, 0] rfl) hG hF1 hF2 hU hS (by omega) (by omega) (Nat.lt_succ_self _)
      ·
        refine lv_aload_n hx hb dX12_findMinutes_8 rfl (lv_at hl 0 rfl) ?_
        refine g_0_19 C hU hG (h1_0 hG) fl_X12_59 dX12_findMinutes_9 ?_
        refine lv_iload_n hx hb dX12_findMinutes_12 rfl (lv_at hl 2 rfl) ?_
        refine lv_iconst (v := 0) hx hb dX12_findMinutes_13 (by decide) ?_
        refine s_17 C hU hS (h1_17 hG) (x := l2_1) (by omega) (by omega) dX12_findMinutes_14 (fun iv_37 H locs ei_38 hU hS => ?_)
        have hG : GI al iv_37 rv_3 := by rw [ei_38]; exact hG.puti (show _ ∧ _ from ⟨(fb_rng _).1, Int.le_of_lt_add_one (fb_rng _).2⟩) (nsA (by decide) _)
        have hF1 : FR ([17], []) iv iv_37 := by rw [ei_38]; exact hF1.put (Or.inl (by decide))
        obtain ⟨x_39, e_40⟩ : ∃ y : Int32, y = l2_1 + 1 := ⟨_, rfl⟩
        have te_40 : x_39.toInt = (l2_1 : Int32).toInt + (1 : Int32).toInt := by rw [e_40]; exact fb_addI (by omega) (by omega)
        refine lv_iinc (v := x_39) (lv' := [(2, .int x_39), (0, .ref (al.2 0 0)), (1, .int lg)]) hx hb dX12_findMinutes_15 hl (k := 2) rfl (by rw [e_40]; rfl) (by decide) rfl (fun ls hl => ?_)
        refine lv_goto (tgt := 2) hx hb dX12_findMinutes_18 (by decide) ?_
        exact ih_2 x_39 _ _ _ _ _ (lv_sub hl [1, 2, 0] rfl) hG hF1 hF2 hU hS (by omega) (by omega)
  exact J_2 _ 0 _ _ _ _ _ (lv_sub hl [1, 2, 0] rfl) hG hF1 hF2 hU hS (by omega) (Nat.lt_succ_self _)
