set_option maxHeartbeats 4000000 in
set_option maxRecDepth 100000 in
theorem c_X12_isBarred_x {l : Launch} {D : va_G} {cA : FieldType → ClassId} {sz : Nat} {al : Al} {iv : Iv} {rv : Rv} (hG : GI al iv rv) (cl : Int32) (pre0 : 0 ≤ cl.toInt ∧ cl.toInt < (iv 0 0 41).toInt) : Met l yX12_isBarred (wd yX12_isBarred cX12_isBarred 8 (some .boolean)) (rm 2) (PcW D cA sz al iv rv [.ref (al.2 0 0), .int cl]) (QI D cA sz al (pI iv rv (fun r => (0 ≤ r.toInt ∧ r.toInt ≤ 1) ∧ (r = brF iv cl.toNatClampNeg)))) 0 0 (Aq sz) := by
  refine mk_z (by decide) (Nat.le_of_ble_eq_true rfl) rfl ?_
  intro p e s m args below meth c ls Q H locs C hU hS hl hret
  have hx := C.1.1
  have hb := C.1.2.1
  have hl : lv_has ls 8 [(0, .ref (al.2 0 0)), (1, .int cl)] := hl
  have hG0 := hG
  have h6 := le6 hG
  have h20 := le20 hG
  have h41 := le41 hG
  have h41 := le41 hG
  have h20 := le20 hG
  have hco := co1 hG pre0.1 pre0.2
  have l37 := le37m hG
  have k0 : (0 : Int32).toInt = 0 := by decide
  have k1 : (1 : Int32).toInt = 1 := by decide
  have k1440 : (1440 : Int32).toInt = 1440 := by decide
  refine lv_aload_n hx hb dX12_isBarred_0 rfl (lv_at hl 0 rfl) ?_
  refine g_0_42 C hU hG (h1_0 hG) fl_X12_113 dX12_isBarred_1 ?_
  refine lv_iload_n hx hb dX12_isBarred_4 rfl (lv_at hl 1 rfl) ?_
  refine a_35 C hU hG (h1_35 hG) (x := cl) (by omega) (by omega) dX12_isBarred_5 (fun x_1 e_2 le_2 ue_2 => ?_)
  have te_2 := congrArg Int32.toInt e_2
  refine lv_istore_n (lv' := [(2, .int x_1), (0, .ref (al.2 0 0)), (1, .int cl)]) hx hb dX12_isBarred_6 rfl hl (by decide) rfl (fun ls hl => ?_)
  refine lv_aload_n hx hb dX12_isBarred_7 rfl (lv_at hl 1 rfl) ?_
  refine lv_iload_n hx hb dX12_isBarred_8 rfl (lv_at hl 0 rfl) ?_
  refine lv_aload_n hx hb dX12_isBarred_9 rfl (lv_at hl 1 rfl) ?_
  refine g_0_43 C hU hG (h1_0 hG) fl_X12_116 dX12_isBarred_10 ?_
  refine lv_iload_n hx hb dX12_isBarred_13 rfl (lv_at hl 2 rfl) ?_
  refine a_36 C hU hG (h1_36 hG) (x := cl) (by omega) (by omega) dX12_isBarred_14 (fun x_3 e_4 le_4 ue_4 => ?_)
  have te_4 := congrArg Int32.toInt e_4
  refine q_pi (q_runV (t := 0) (i := 0) (As := [.int x_1, .int x_3]) (rest := []) C hU (c_X12_lawOf_x hG x_1 x_3 (by omega)) vm_X12_lawOf ml_X12_260 k_0.1 (hc := rfl) rfl (h1_0 hG) hl.1 rfl rfl (Nat.le_of_ble_eq_true rfl) dX12_isBarred_15 rfl rfl ⟨Nat.le_of_ble_eq_true rfl, Nat.le_of_ble_eq_true rfl⟩ ⟨Nat.le_refl _, Nat.le_refl _⟩) hS (fun x_6 H locs hp_5 hU hS => ?_)
  have hlw := hp_5.2.1
  rw [e_2, e_4] at hlw
  have hlc : x_6 = clw iv cl.toNatClampNeg := hlw
  have tlw := congrArg Int32.toInt hlc
  refine lv_istore_n (lv' := [(3, .int x_6), (2, .int x_1), (0, .ref (al.2 0 0)), (1, .int cl)]) hx hb dX12_isBarred_18 rfl hl (by decide) rfl (fun ls hl => ?_)
  refine lv_iconst (v := 0) hx hb dX12_isBarred_19 (by decide) ?_
  refine lv_istore (lv' := [(4, .int 0), (3, .int x_6), (2, .int x_1), (0, .ref (al.2 0 0)), (1, .int cl)]) hx hb dX12_isBarred_20 hl (by decide) rfl (fun ls hl => ?_)
  refine lv_aload_n hx hb dX12_isBarred_22 rfl (lv_at hl 3 rfl) ?_
  refine g_0_12 C hU hG (h1_0 hG) fl_X12_37 dX12_isBarred_23 ?_
  refine lv_aload_n hx hb dX12_isBarred_26 rfl (lv_at hl 3 rfl) ?_
  refine lv_iload_n hx hb dX12_isBarred_27 rfl (lv_at hl 2 rfl) ?_
  refine q_pi (q_runV (t := 0) (i := 0) (As := [.int x_1]) (rest := [.ref (al.2 10 0)]) C hU (c_X12_lastLeg_x hG x_1 (by omega)) vm_X12_lastLeg ml_X12_232 k_0.1 (hc := rfl) rfl (h1_0 hG) hl.1 rfl rfl (Nat.le_of_ble_eq_true rfl) dX12_isBarred_28 rfl rfl ⟨Nat.le_of_ble_eq_true rfl, Nat.le_of_ble_eq_true rfl⟩ ⟨Nat.le_refl _, Nat.le_refl _⟩) hS (fun x_8 H locs hp_7 hU hS => ?_)
  refine a_10 C hU hG (h1_10 hG) (x := x_8) (by omega) (by omega) dX12_isBarred_31 (fun x_9 e_10 le_10 ue_10 => ?_)
  have te_10 := congrArg Int32.toInt e_10
  have h31 := e_10
  rw [hp_7.2, e_2] at h31
  refine lv_sipush (v := 1440) hx hb dX12_isBarred_32 (by decide) ?_
  refine lv_idiv hx hb dX12_isBarred_35 (by decide) ?_
  refine lv_topi (fun x_11 e_12 => ?_)
  have te_12 : 0 ≤ x_11.toInt ∧ x_11.toInt ≤ (x_9 : Int32).toInt := by rw [e_12]; exact div_rng (by omega) (by omega)
  have h35 := e_12
  rw [h31] at h35
  have t35 := congrArg Int32.toInt h35
  refine lv_iconst (v := 1) hx hb dX12_isBarred_36 (by decide) ?_
  refine lv_iadd hx hb dX12_isBarred_37 ?_
  refine lv_topi (fun x_13 e_14 => ?_)
  have te_14 : x_13.toInt = (x_11 : Int32).toInt + (1 : Int32).toInt := by rw [e_14]; exact fb_addI (by omega) (by omega)
  have hA : x_13.toInt = caD iv cl.toNatClampNeg := by unfold caD cown; omega
  refine lv_istore (lv' := [(5, .int x_13), (4, .int 0), (3, .int x_6), (2, .int x_1), (0, .ref (al.2 0 0)), (1, .int cl)]) hx hb dX12_isBarred_38 hl (by decide) rfl (fun ls hl => ?_)
  have J_40 : ∀ (n_40 : Nat) (l4_15 : Int32) (l5_16 : Int32) (H : Heap) (locs : List Loc) (ls : Array Slot), lv_has ls 8 [(0, .ref (al.2 0 0)), (1, .int cl), (3, .int x_6), (4, .int l4_15), (5, .int l5_16)] → UW D cA sz al iv rv H → va_S (Aq sz) s.heap H locs → (0 ≤ l4_15.toInt ∧ l4_15.toInt ≤ 20001) → (0 ≤ l5_16.toInt ∧ l5_16.toInt ≤ 20001) → l4_15.toInt = drN iv x_6.toInt (caD iv cl.toNatClampNeg) (l5_16.toInt - caD iv cl.toNatClampNeg).toNat → caD iv cl.toNatClampNeg ≤ l5_16.toInt → l4_15.toInt ≤ l5_16.toInt → l5_16.toInt ≤ (iv 36 0 cl.toNatClampNeg).toInt + 1 ∨ l5_16.toInt = caD iv cl.toNatClampNeg → (4001 - l5_16.toInt).toNat < n_40 → W p l e (rm 2) s m args below meth c H locs 0 0 Q (F0 m 40 ls []) := by
    intro n_40
    induction n_40 with
    | zero =>
      intro l4_15 l5_16 H locs ls hl hU hS i40_0 i40_1 i40_2 i40_3 i40_4 i40_5 hm_40
      exact absurd hm_40 (Nat.not_lt_zero _)
    | succ n_40 ih_40 =>
      intro l4_15 l5_16 H locs ls hl hU hS i40_0 i40_1 i40_2 i40_3 i40_4 i40_5 hm_40
      refine lv_iload hx hb dX12_isBarred_40 (lv_at hl 4 rfl) ?_
      refine lv_aload_n hx hb dX12_isBarred_42 rfl (lv_at hl 0 rfl) ?_
      refine g_0_43 C hU hG (h1_0 hG) fl_X12_116 dX12_isBarred_43 ?_
      refine lv_iload_n hx hb dX12_isBarred_46 rfl (lv_at hl 1 rfl) ?_
      refine a_36 C hU hG (h1_36 hG) (x := cl) (by omega) (by omega) dX12_isBarred_47 (fun x_17 e_18 le_18 ue_18 => ?_)
      have te_18 := congrArg Int32.toInt e_18
      have J_142 : ∀ (ls : Array Slot), lv_has ls 8 [(0, .ref (al.2 0 0)), (3, .int x_6), (4, .int l4_15)] → x_6.toInt < 0 ∨ l4_15.toInt = drN iv x_6.toInt (caD iv cl.toNatClampNeg) ((iv 36 0 cl.toNatClampNeg).toInt - caD iv cl.toNatClampNeg + 1).toNat → W p l e (rm 2) s m args below meth c H locs 0 0 Q (F0 m 142 ls []) := by
        intro ls hl i142_0
        refine lv_iload_n hx hb dX12_isBarred_142 rfl (lv_at hl 1 rfl) ?_
        refine b_if_lt (tgt := 161) hx hb dX12_isBarred_143 (by decide) (fun c_19 => ?_) (fun c_19 => ?_)
        ·
          refine lv_iconst (v := 0) hx hb dX12_isBarred_161 (by decide) ?_
          exact hret (by omega) (by omega) (⟨rfl, rfl, ⟨⟨by omega, by omega⟩, by unfold brF; rw [← hlc]; first | (rw [if_pos (by omega)]; done) | (rw [if_neg (by omega), if_pos (by omega)]; done) | (rw [if_neg (by omega), if_neg (by omega)]; done)⟩⟩) hU hS dX12_isBarred_162
        ·
          refine lv_iload hx hb dX12_isBarred_146 (lv_at hl 2 rfl) ?_
          refine lv_aload_n hx hb dX12_isBarred_148 rfl (lv_at hl 0 rfl) ?_
          refine g_0_36 C hU hG (h1_0 hG) fl_X12_101 dX12_isBarred_149 ?_
          refine lv_iload_n hx hb dX12_isBarred_152 rfl (lv_at hl 1 rfl) ?_
          refine a_31 C hU hG (h1_31 hG) (x := x_6) (by omega) (by omega) dX12_isBarred_153 (fun x_20 e_21 le_21 ue_21 => ?_)
          have te_21 := congrArg Int32.toInt e_21
          refine b_icmp_le (tgt := 161) hx hb dX12_isBarred_154 (by decide) (fun c_22 => ?_) (fun c_22 => ?_)
          ·
            refine lv_iconst (v := 0) hx hb dX12_isBarred_161 (by decide) ?_
            exact hret (by omega) (by omega) (⟨rfl, rfl, ⟨⟨by omega, by omega⟩, by unfold brF; rw [← hlc]; first | (rw [if_pos (by omega)]; done) | (rw [if_neg (by omega), if_pos (by omega)]; done) | (rw [if_neg (by omega), if_neg (by omega)]; done)⟩⟩) hU hS dX12_isBarred_162
          ·
            refine lv_iconst (v := 1) hx hb dX12_isBarred_157 (by decide) ?_
            refine lv_goto (tgt := 162) hx hb dX12_isBarred_158 (by decide) ?_
            exact hret (by omega) (by omega) (⟨rfl, rfl, ⟨⟨by omega, by omega⟩, by unfold brF; rw [← hlc]; first | (rw [if_pos (by omega)]; done) | (rw [if_neg (by omega), if_pos (by omega)]; done) | (rw [if_neg (by omega), if_neg (by omega)]; done)⟩⟩) hU hS dX12_isBarred_162
      refine b_icmp_gt (tgt := 142) hx hb dX12_isBarred_48 (by decide) (fun c_23 => ?_) (fun c_23 => ?_)
      ·
        exact J_142 _ (lv_sub hl [0, 2, 3] rfl) (by first | (left; omega) | (right; exact dr_end i40_2 (by omega)))
      ·
        refine lv_iload_n hx hb dX12_isBarred_51 rfl (lv_at hl 2 rfl) ?_
        refine b_if_lt (tgt := 142) hx hb dX12_isBarred_52 (by decide) (fun c_24 => ?_) (fun c_24 => ?_)
        ·
          exact J_142 _ (lv_sub hl [0, 2, 3] rfl) (by first | (left; omega) | (right; exact dr_end i40_2 (by omega)))
        ·
          refine lv_iconst (v := 0) hx hb dX12_isBarred_55 (by decide) ?_
          refine lv_istore (lv' := [(6, .int 0), (0, .ref (al.2 0 0)), (1, .int cl), (3, .int x_6), (4, .int l4_15), (5, .int l5_16)]) hx hb dX12_isBarred_56 hl (by decide) rfl (fun ls hl => ?_)
          refine lv_iconst (v := 0) hx hb dX12_isBarred_58 (by decide) ?_
          refine lv_istore (lv' := [(7, .int 0), (6, .int 0), (0, .ref (al.2 0 0)), (1, .int cl), (3, .int x_6), (4, .int l4_15), (5, .int l5_16)]) hx hb dX12_isBarred_59 hl (by decide) rfl (fun ls hl => ?_)
          have J_61 : ∀ (n_61 : Nat) (l6_25 : Int32) (l7_26 : Int32) (H : Heap) (locs : List Loc) (ls : Array Slot), lv_has ls 8 [(0, .ref (al.2 0 0)), (1, .int cl), (3, .int x_6), (4, .int l4_15), (5, .int l5_16), (6, .int l6_25), (7, .int l7_26)] → UW D cA sz al iv rv H → va_S (Aq sz) s.heap H locs → (0 ≤ l6_25.toInt ∧ l6_25.toInt ≤ 1) → (0 ≤ l7_26.toInt ∧ l7_26.toInt ≤ 20) → l6_25 = dsN iv x_6.toInt l5_16.toInt l7_26.toNatClampNeg → l7_26.toInt ≤ (iv 0 0 37).toInt → (20 - l7_26.toInt).toNat < n_61 → W p l e (rm 2) s m args below meth c H locs 0 0 Q (F0 m 61 ls []) := by
            intro n_61
            induction n_61 with
            | zero =>
              intro l6_25 l7_26 H locs ls hl hU hS i61_0 i61_1 i61_2 i61_3 hm_61
              exact absurd hm_61 (Nat.not_lt_zero _)
            | succ n_61 ih_61 =>
              intro l6_25 l7_26 H locs ls hl hU hS i61_0 i61_1 i61_2 i61_3 hm_61
              refine lv_iload hx hb dX12_isBarred_61 (lv_at hl 6 rfl) ?_
              refine lv_aload_n hx hb dX12_isBarred_63 rfl (lv_at hl 0 rfl) ?_
              refine g_0_37 C hU hG (h1_0 hG) fl_X12_272 dX12_isBarred_64 (fun x_27 e_28 le_28 ue_28 => ?_)
              have te_28 := congrArg Int32.toInt e_28
              refine b_icmp_ge (tgt := 121) hx hb dX12_isBarred_67 (by decide) (fun c_29 => ?_) (fun c_29 => ?_)
              ·
                have hds : l6_25 = dsN iv x_6.toInt l5_16.toInt (iv 0 0 37).toNatClampNeg := by rw [i61_2, clamp_eq (show (l7_26 : Int32).toInt = (iv 0 0 37).toInt by omega)]
                refine lv_iload hx hb dX12_isBarred_121 (lv_at hl 3 rfl) ?_
                refine lv_iload hx hb dX12_isBarred_123 (lv_at hl 5 rfl) ?_
                have J_133 : ∀ (v_30 : Int32) (ls : Array Slot), lv_has ls 8 [(0, .ref (al.2 0 0)), (1, .int cl), (3, .int x_6), (5, .int l5_16)] → (0 ≤ v_30.toInt ∧ v_30.toInt ≤ 1) → ((v_30.toInt = 1 ∧ l6_25.toInt = 0) ∨ (v_30.toInt = 0 ∧ ¬ l6_25.toInt = 0)) → W p l e (rm 2) s m args below meth c H locs 0 0 Q (F0 m 133 ls [.int v_30, .int l4_15]) := by
                  intro v_30 ls hl i133_0 i133_1
                  refine lv_iadd hx hb dX12_isBarred_133 ?_
                  refine lv_topi (fun x_31 e_32 => ?_)
                  have te_32 : x_31.toInt = (l4_15 : Int32).toInt + (v_30 : Int32).toInt := by rw [e_32]; exact fb_addI (by omega) (by omega)
                  refine lv_istore (lv' := [(4, .int x_31), (0, .ref (al.2 0 0)), (1, .int cl), (3, .int x_6), (5, .int l5_16)]) hx hb dX12_isBarred_134 hl (by decide) rfl (fun ls hl => ?_)
                  obtain ⟨x_33, e_34⟩ : ∃ y : Int32, y = l5_16 + 1 := ⟨_, rfl⟩
                  have te_34 : x_33.toInt = (l5_16 : Int32).toInt + (1 : Int32).toInt := by rw [e_34]; exact fb_addI (by omega) (by omega)
                  refine lv_iinc (v := x_33) (lv' := [(5, .int x_33), (4, .int x_31), (0, .ref (al.2 0 0)), (1, .int cl), (3, .int x_6)]) hx hb dX12_isBarred_136 hl (k := 4) rfl (by rw [e_34]; rfl) (by decide) rfl (fun ls hl => ?_)
                  refine lv_goto (tgt := 40) hx hb dX12_isBarred_139 (by decide) ?_
                  exact ih_40 x_31 x_33 _ _ _ (lv_sub hl [2, 3, 4, 1, 0] rfl) hU hS (by omega) (by omega) (by first | exact dr_up i40_2 hds i133_1 (by omega) (by omega) (by omega) | exact dr_0 hA) (by omega) (by omega) (by omega) (by omega)
                refine b_if_eq (tgt := 132) hx hb dX12_isBarred_125 (by decide) (fun c_35 => ?_) (fun c_35 => ?_)
                ·
                  refine lv_iconst (v := 1) hx hb dX12_isBarred_132 (by decide) ?_
                  exact J_133 1 _ (lv_sub hl [0, 1, 2, 4] rfl) (by omega) (by omega)
                ·
                  refine lv_iconst (v := 0) hx hb dX12_isBarred_128 (by decide) ?_
                  refine lv_goto (tgt := 133) hx hb dX12_isBarred_129 (by decide) ?_
                  exact J_133 0 _ (lv_sub hl [0, 1, 2, 4] rfl) (by omega) (by omega)
              ·
                refine lv_iload hx hb dX12_isBarred_70 (lv_at hl 5 rfl) ?_
                have J_113 : ∀ (v_36 : Int32) (H : Heap) (locs : List Loc) (ls : Array Slot), lv_has ls 8 [(0, .ref (al.2 0 0)), (1, .int cl), (3, .int x_6), (4, .int l4_15), (5, .int l5_16), (7, .int l7_26)] → UW D cA sz al iv rv H → va_S (Aq sz) s.heap H locs → (0 ≤ v_36.toInt ∧ v_36.toInt ≤ 1) → v_36 = dsN iv x_6.toInt l5_16.toInt (l7_26.toNatClampNeg + 1) → W p l e (rm 2) s m args below meth c H locs 0 0 Q (F0 m 113 ls [.int v_36]) := by
                  intro v_36 H locs ls hl hU hS i113_0 i113_1
                  refine lv_istore (lv' := [(6, .int v_36), (0, .ref (al.2 0 0)), (1, .int cl), (3, .int x_6), (4, .int l4_15), (5, .int l5_16), (7, .int l7_26)]) hx hb dX12_isBarred_113 hl (by decide) rfl (fun ls hl => ?_)
                  obtain ⟨x_37, e_38⟩ : ∃ y : Int32, y = l7_26 + 1 := ⟨_, rfl⟩
                  have te_38 : x_37.toInt = (l7_26 : Int32).toInt + (1 : Int32).toInt := by rw [e_38]; exact fb_addI (by omega) (by omega)
                  refine lv_iinc (v := x_37) (lv' := [(7, .int x_37), (6, .int v_36), (0, .ref (al.2 0 0)), (1, .int cl), (3, .int x_6), (4, .int l4_15), (5, .int l5_16)]) hx hb dX12_isBarred_115 hl (k := 6) rfl (by rw [e_38]; rfl) (by decide) rfl (fun ls hl => ?_)
                  refine lv_goto (tgt := 61) hx hb dX12_isBarred_118 (by decide) ?_
                  exact ih_61 v_36 x_37 _ _ _ (lv_sub hl [2, 3, 4, 5, 6, 1, 0] rfl) hU hS (by omega) (by omega) (by first | exact ds_up (by omega) (by omega) i113_1 | exact ds_0) (by omega) (by omega)
                have J_108 : ∀ (H : Heap) (locs : List Loc) (ls : Array Slot), lv_has ls 8 [(0, .ref (al.2 0 0)), (1, .int cl), (3, .int x_6), (4, .int l4_15), (5, .int l5_16), (7, .int l7_26)] → UW D cA sz al iv rv H → va_S (Aq sz) s.heap H locs → ((¬ l6_25.toInt = 0) ∨ ((iv 32 0 l7_26.toNatClampNeg).toInt = x_6.toInt ∧ (iv 33 0 l7_26.toNatClampNeg).toInt ≤ l5_16.toInt ∧ l5_16.toInt ≤ (iv 34 0 l7_26.toNatClampNeg).toInt)) → W p l e (rm 2) s m args below meth c H locs 0 0 Q (F0 m 108 ls []) := by
                  intro H locs ls hl hU hS i108_0
                  refine lv_iconst (v := 1) hx hb dX12_isBarred_108 (by decide) ?_
                  refine lv_goto (tgt := 113) hx hb dX12_isBarred_109 (by decide) ?_
                  exact J_113 1 _ _ _ (lv_sub hl [0, 1, 2, 3, 4, 5] rfl) hU hS (by omega) (by first | exact ds_y i61_2 i108_0 | exact ds_n i61_2 True.intro)
                refine b_if_ne (tgt := 108) hx hb dX12_isBarred_72 (by decide) (fun c_39 => ?_) (fun c_39 => ?_)
                ·
                  exact J_108 _ _ _ (lv_sub hl [0, 1, 2, 3, 4, 6] rfl) hU hS (by omega)
                ·
                  refine lv_aload_n hx hb dX12_isBarred_75 rfl (lv_at hl 0 rfl) ?_
                  refine g_0_38 C hU hG (h1_0 hG) fl_X12_104 dX12_isBarred_76 ?_
                  refine lv_iload hx hb dX12_isBarred_79 (lv_at hl 6 rfl) ?_
                  refine a_32 C hU hG (h1_32 hG) (x := l7_26) (by omega) (by omega) dX12_isBarred_81 (fun x_40 e_41 => ?_)
                  have te_41 := congrArg Int32.toInt e_41
                  refine lv_iload_n hx hb dX12_isBarred_82 rfl (lv_at hl 2 rfl) ?_
                  have J_112 : ∀ (H : Heap) (locs : List Loc) (ls : Array Slot), lv_has ls 8 [(0, .ref (al.2 0 0)), (1, .int cl), (3, .int x_6), (4, .int l4_15), (5, .int l5_16), (7, .int l7_26)] → UW D cA sz al iv rv H → va_S (Aq sz) s.heap H locs → (¬ ((¬ l6_25.toInt = 0) ∨ ((iv 32 0 l7_26.toNatClampNeg).toInt = x_6.toInt ∧ (iv 33 0 l7_26.toNatClampNeg).toInt ≤ l5_16.toInt ∧ l5_16.toInt ≤ (iv 34 0 l7_26.toNatClampNeg).toInt))) → W p l e (rm 2) s m args below meth c H locs 0 0 Q (F0 m 112 ls []) := by
                    intro H locs ls hl hU hS i112_0
                    refine lv_iconst (v := 0) hx hb dX12_isBarred_112 (by decide) ?_
                    exact J_113 0 _ _ _ (lv_sub hl [0, 1, 2, 3, 4, 5] rfl) hU hS (by omega) (by first | exact ds_y i61_2 i108_0 | exact ds_n i61_2 i112_0)
                  refine b_icmp_ne (tgt := 112) hx hb dX12_isBarred_83 (by decide) (fun c_42 => ?_) (fun c_42 => ?_)
                  ·
                    exact J_112 _ _ _ (lv_sub hl [0, 1, 2, 3, 4, 6] rfl) hU hS (by omega)
                  ·
                    refine lv_iload hx hb dX12_isBarred_86 (lv_at hl 4 rfl) ?_
                    refine lv_aload_n hx hb dX12_isBarred_88 rfl (lv_at hl 0 rfl) ?_
                    refine g_0_39 C hU hG (h1_0 hG) fl_X12_107 dX12_isBarred_89 ?_
                    refine lv_iload hx hb dX12_isBarred_92 (lv_at hl 6 rfl) ?_
                    refine a_33 C hU hG (h1_33 hG) (x := l7_26) (by omega) (by omega) dX12_isBarred_94 (fun x_43 e_44 => ?_)
                    have te_44 := congrArg Int32.toInt e_44
                    refine lv_aload_n hx hb dX12_isBarred_95 rfl (lv_at hl 0 rfl) ?_
                    refine g_0_40 C hU hG (h1_0 hG) fl_X12_110 dX12_isBarred_96 ?_
                    refine lv_iload hx hb dX12_isBarred_99 (lv_at hl 6 rfl) ?_
                    refine a_34 C hU hG (h1_34 hG) (x := l7_26) (by omega) (by omega) dX12_isBarred_101 (fun x_45 e_46 => ?_)
                    have te_46 := congrArg Int32.toInt e_46
                    refine q_pi (q_runS (As := [.int l5_16, .int x_43, .int x_45]) (rest := []) C hU (c_X12_in  l5_16 x_43 x_45 ) sm_X12_in ml_X12_156 hl.1 rfl rfl (Nat.le_of_ble_eq_true rfl) dX12_isBarred_102 rfl rfl ⟨Nat.le_of_ble_eq_true rfl, Nat.le_of_ble_eq_true rfl⟩ ⟨Nat.le_refl _, Nat.le_refl _⟩) hS (fun x_48 H locs hp_47 hU hS => ?_)
                    refine b_if_eq (tgt := 112) hx hb dX12_isBarred_105 (by decide) (fun c_49 => ?_) (fun c_49 => ?_)
                    ·
                      exact J_112 _ _ _ (lv_sub hl [0, 1, 2, 3, 4, 6] rfl) hU hS (by omega)
                    ·
                      exact J_108 _ _ _ (lv_sub hl [0, 1, 2, 3, 4, 6] rfl) hU hS (by omega)
          exact J_61 _ 0 0 _ _ _ (lv_sub hl [2, 3, 4, 5, 6, 1, 0] rfl) hU hS (by omega) (by omega) (by first | exact ds_up (by omega) (by omega) i113_1 | exact ds_0) (by omega) (Nat.lt_succ_self _)
  exact J_40 _ 0 x_13 _ _ _ (lv_sub hl [4, 5, 2, 1, 0] rfl) hU hS (by omega) (by omega) (by first | exact dr_up i40_2 hds i133_1 (by omega) (by omega) (by omega) | exact dr_0 hA) (by omega) (by omega) (by omega) (Nat.lt_succ_self _)
set_option maxHeartbeats 4000000 in
set_option maxRecDepth 100000 in
theorem c_X12_worthOf_x {l : Launch} {D : va_G} {cA : FieldType → ClassId} {sz : Nat} {al : Al} {iv : Iv} {rv : Rv} (hG : GI al iv rv) (cl : Int32) (pre0 : 0 ≤ cl.toInt ∧ cl.toInt < (iv 0 0 41).toInt) (pre1 : BT iv rv) : Met l yX12_worthOf (wd yX12_worthOf cX12_worthOf 2 (some .int)) (rm 10) (PcW D cA sz al iv rv [.ref (al.2 0 0), .int cl]) (QI D cA sz al (fI al ([17, 20], []) iv rv (fun r iv' rv' => r = wrF iv cl.toNatClampNeg))) 0 0 (Aq sz) := by
  refine mk_i (by decide) (Nat.le_of_ble_eq_true rfl) rfl ?_
  intro p e s m args below meth c ls Q H locs C hU hS hl hret
  have hx := C.1.1
  have hb := C.1.2.1
  have hl : lv_has ls 2 [(0, .ref (al.2 0 0)), (1, .int cl)] := hl
  have hG0 := hG
  have h6 := le6 hG
  have h20 := le20 hG
  have h41 := le41 hG
  have h41 := le41 hG
  have h20 := le20 hG
  have hco := co1 hG pre0.1 pre0.2
  have hF1 : FR ([17, 20], []) iv iv := FR.rf
  have hF2 : FR ([17, 20], []) rv rv := FR.rf
  have k0 : (0 : Int32).toInt = 0 := by decide
  refine lv_aload_n hx hb dX12_worthOf_0 rfl (lv_at hl 0 rfl) ?_
  refine lv_iload_n hx hb dX12_worthOf_1 rfl (lv_at hl 1 rfl) ?_
  refine q_pi (q_runV (t := 0) (i := 0) (As := [.int cl]) (rest := []) C hU (c_X12_isBarred_x hG cl (by omega)) vm_X12_isBarred ml_X12_278 k_0.1 (hc := rfl) rfl (h1_0 hG) hl.1 rfl rfl (Nat.le_of_ble_eq_true rfl) dX12_worthOf_2 rfl rfl ⟨Nat.le_of_ble_eq_true rfl, Nat.le_of_ble_eq_true rfl⟩ ⟨Nat.le_refl _, Nat.le_refl _⟩) hS (fun x_2 H locs hp_1 hU hS => ?_)
  have tbr := congrArg Int32.toInt hp_1.2
  refine b_if_eq (tgt := 12) hx hb dX12_worthOf_5 (by decide) (fun c_3 => ?_) (fun c_3 => ?_)
  ·
    refine lv_aload_n hx hb dX12_worthOf_12 rfl (lv_at hl 0 rfl) ?_
    refine lv_aload_n hx hb dX12_worthOf_13 rfl (lv_at hl 0 rfl) ?_
    refine g_0_42 C hU hG (h1_0 hG) fl_X12_113 dX12_worthOf_14 ?_
    refine lv_iload_n hx hb dX12_worthOf_17 rfl (lv_at hl 1 rfl) ?_
    refine a_35 C hU hG (h1_35 hG) (x := cl) (by omega) (by omega) dX12_worthOf_18 (fun x_4 e_5 le_5 ue_5 => ?_)
    have te_5 := congrArg Int32.toInt e_5
    refine lv_aload_n hx hb dX12_worthOf_19 rfl (lv_at hl 0 rfl) ?_
    refine g_0_43 C hU hG (h1_0 hG) fl_X12_116 dX12_worthOf_20 ?_
    refine lv_iload_n hx hb dX12_worthOf_23 rfl (lv_at hl 1 rfl) ?_
    refine a_36 C hU hG (h1_36 hG) (x := cl) (by omega) (by omega) dX12_worthOf_24 (fun x_6 e_7 le_7 ue_7 => ?_)
    have te_7 := congrArg Int32.toInt e_7
    refine q_fi (q_runV (t := 0) (i := 0) (As := [.int x_4, .int x_6]) (rest := []) C hU (c_X12_sumOf_x hG x_4 x_6 (by omega) (pre1)) vm_X12_sumOf ml_X12_269 k_0.1 (hc := rfl) rfl (h1_0 hG) hl.1 rfl rfl (Nat.le_of_ble_eq_true rfl) dX12_worthOf_25 rfl rfl ⟨Nat.le_of_ble_eq_true rfl, Nat.le_of_ble_eq_true rfl⟩ ⟨Nat.le_refl _, Nat.le_refl _⟩) hS (fun x_13 iv_9 rv_10 H locs hG fa_11 fb_12 hp_8 hU hS => ?_)
    have hF1 := hF1.tr (m := ([17, 20], [])) fa_11 (by decide)
    have hF2 := hF2.tr (m := ([17, 20], [])) fb_12 (by decide)
    have kf_14 := congrArg Int32.toInt (hF1 0 0 20 (by decide))
    have kf_15 := congrArg Int32.toInt (hF1 0 0 41 (by decide))
    exact hret (⟨hG, hF1, hF2, by unfold wrF; first | (rw [if_pos (by omega)]; done) | (rw [if_neg (by omega), hp_8, e_5, e_7]; rfl)⟩) hU hS dX12_worthOf_28
  ·
    refine lv_iconst (v := 0) hx hb dX12_worthOf_8 (by decide) ?_
    refine lv_goto (tgt := 28) hx hb dX12_worthOf_9 (by decide) ?_
    exact hret (⟨hG, hF1, hF2, by unfold wrF; first | (rw [if_pos (by omega)]; done) | (rw [if_neg (by omega), True.intro, True.intro, True.intro]; rfl)⟩) hU hS dX12_worthOf_28
set_option maxHeartbeats 4000000 in
set_option maxRecDepth 100000 in
theorem c_X8_arriveDay_x {l : Launch} {D : va_G} {cA : FieldType → ClassId} {sz : Nat} {al : Al} {iv : Iv} {rv : Rv} (hG : GI al iv rv) (ti : Nat) (hti : ti < al.1 65) (pre0 : BM iv rv) : Met l yX8_arriveDay (wd yX8_arriveDay cX8_arriveDay 1 (some .int)) (rm 0) (PcW D cA sz al iv rv [.ref (al.2 65 ti)]) (QI D cA sz al (pI iv rv (fun r => (0 ≤ r.toInt ∧ r.toInt ≤ 20000) ∧ (r = iv 10 0 (thL iv ti) / 1440)))) 0 0 (Aq sz) := by
  refine mk_i (by decide) (Nat.le_of_ble_eq_true rfl) rfl ?_
  intro p e s m args below meth c ls Q H locs C hU hS hl hret
  have hx := C.1.1
  have hb := C.1.2.1
  have hl : lv_has ls 1 [(0, .ref (al.2 65 ti))] := hl
  have hG0 := hG
  have htk := tk_k hG pre0 hti
  have k1440 : (1440 : Int32).toInt = 1440 := by decide
  refine lv_aload_n hx hb dX8_arriveDay_0 rfl (lv_at hl 0 rfl) ?_
  refine g_65_2 C hU hG hti fl_X8_19 dX8_arriveDay_1 (fun j_1 ej_2 hb_3 => ?_)
  refine g_62_6 C hU hG hb_3 fl_X8_45 dX8_arriveDay_4 (fun x_4 e_5 le_5 ue_5 => ?_)
  have te_5 := congrArg Int32.toInt e_5
  refine lv_sipush (v := 1440) hx hb dX8_arriveDay_7 (by decide) ?_
  refine lv_idiv hx hb dX8_arriveDay_10 (by decide) ?_
  refine lv_topi (fun x_6 e_7 => ?_)
  have te_7 : 0 ≤ x_6.toInt ∧ x_6.toInt ≤ (x_4 : Int32).toInt := by rw [e_7]; exact div_rng (by omega) (by omega)
  exact hret (⟨rfl, rfl, ⟨⟨by omega, by omega⟩, by rw [e_7, ad_ar hG0 pre0 hti htk ej_2 e_5]⟩⟩) hU hS dX8_arriveDay_11
set_option maxHeartbeats 4000000 in
set_option maxRecDepth 100000 in
theorem c_X0_nextStop_x {l : Launch} {D : va_G} {cA : FieldType → ClassId} {sz : Nat} {al : Al} {iv : Iv} {rv : Rv} (hG : GI al iv rv) (ld : Int32) (d : Int32) : Met l yX0_nextStop (wd yX0_nextStop cX0_nextStop 5 (some .int)) (rm 0) (PcW D cA sz al iv rv [.ref (al.2 79 0), .int ld, .int d]) (QI D cA sz al (pI iv rv (fun r => (-9 ≤ r.toInt ∧ r.toInt ≤ 19) ∧ ((r.toInt = -9 ∨ 0 ≤ r.toInt) ∧ nxP iv ld.toInt d.toInt r (iv 79 0 4).toInt.toNat)))) 0 0 (Aq sz) := by
  refine mk_i (by decide) (Nat.le_of_ble_eq_true rfl) rfl ?_
  intro p e s m args below meth c ls Q H locs C hU hS hl hret
  have hx := C.1.1
  have hb := C.1.2.1
  have hl : lv_has ls 5 [(0, .ref (al.2 79 0)), (1, .int ld), (2, .int d)] := hl
  have hG0 := hG
  have l37 := le37 hG
  have km9 : ((-9) : Int32).toInt = -9 := by decide
  have k0 : (0 : Int32).toInt = 0 := by decide
  have k1 : (1 : Int32).toInt = 1 := by decide
  refine lv_bipush (v := (-9)) hx hb dX0_nextStop_0 (by decide) ?_
  refine lv_istore_n (lv' := [(3, .int (-9)), (0, .ref (al.2 79 0)), (1, .int ld), (2, .int d)]) hx hb dX0_nextStop_2 rfl hl (by decide) rfl (fun ls hl => ?_)
  refine lv_iconst (v := 0) hx hb dX0_nextStop_3 (by decide) ?_
  refine lv_istore (lv' := [(4, .int 0), (3, .int (-9)), (0, .ref (al.2 79 0)), (1, .int ld), (2, .int d)]) hx hb dX0_nextStop_4 hl (by decide) rfl (fun ls hl => ?_)
  have J_6 : ∀ (n_6 : Nat) (l3_1 : Int32) (l4_2 : Int32) (ls : Array Slot), lv_has ls 5 [(0, .ref (al.2 79 0)), (1, .int ld), (2, .int d), (3, .int l3_1), (4, .int l4_2)] → (-9 ≤ l3_1.toInt ∧ l3_1.toInt ≤ 19) → (0 ≤ l4_2.toInt ∧ l4_2.toInt ≤ 20) → l3_1.toInt = -9 ∨ 0 ≤ l3_1.toInt → nxP iv ld.toInt d.toInt l3_1 l4_2.toNatClampNeg → l4_2.toInt ≤ (iv 79 0 4).toInt → (20 - l4_2.toInt).toNat < n_6 → W p l e (rm 0) s m args below meth c H locs 0 0 Q (F0 m 6 ls []) := by
    intro n_6
    induction n_6 with
    | zero =>
      intro l3_1 l4_2 ls hl i6_0 i6_1 i6_2 i6_3 i6_4 hm_6
      exact absurd hm_6 (Nat.not_lt_zero _)
    | succ n_6 ih_6 =>
      intro l3_1 l4_2 ls hl i6_0 i6_1 i6_2 i6_3 i6_4 hm_6
      refine lv_iload hx hb dX0_nextStop_6 (lv_at hl 4 rfl) ?_
      refine lv_aload_n hx hb dX0_nextStop_8 rfl (lv_at hl 0 rfl) ?_
      refine g_79_4 C hU hG (h1_79 hG) fl_X0_30 dX0_nextStop_9 (fun x_3 e_4 le_4 ue_4 => ?_)
      have te_4 := congrArg Int32.toInt e_4
      refine b_icmp_ge (tgt := 71) hx hb dX0_nextStop_12 (by decide) (fun c_5 => ?_) (fun c_5 => ?_)
      ·
        refine lv_iload_n hx hb dX0_nextStop_71 rfl (lv_at hl 3 rfl) ?_
        exact hret (⟨rfl, rfl, ⟨⟨by omega, by omega⟩, ⟨by omega, nx_end i6_3 (by omega) (by omega)⟩⟩⟩) hU hS dX0_nextStop_72
      ·
        refine lv_aload_n hx hb dX0_nextStop_15 rfl (lv_at hl 0 rfl) ?_
        refine g_79_1 C hU hG (h1_79 hG) fl_X0_21 dX0_nextStop_16 ?_
        refine lv_iload hx hb dX0_nextStop_19 (lv_at hl 4 rfl) ?_
        refine a_81 C hU hG (h1_81 hG) (x := l4_2) (by omega) (by omega) dX0_nextStop_21 (fun x_6 e_7 le_7 ue_7 => ?_)
        have te_7 := congrArg Int32.toInt e_7
        refine lv_iload_n hx hb dX0_nextStop_22 rfl (lv_at hl 1 rfl) ?_
        have J_65 : ∀ (l3_8 : Int32) (ls : Array Slot), lv_has ls 5 [(0, .ref (al.2 79 0)), (1, .int ld), (2, .int d), (4, .int l4_2), (3, .int l3_8)] → (-9 ≤ l3_8.toInt ∧ l3_8.toInt ≤ 19) → l3_8.toInt = -9 ∨ 0 ≤ l3_8.toInt → nxP iv ld.toInt d.toInt l3_8 (l4_2.toNatClampNeg + 1) → W p l e (rm 0) s m args below meth c H locs 0 0 Q (F0 m 65 ls []) := by
          intro l3_8 ls hl i65_0 i65_1 i65_2
          obtain ⟨x_9, e_10⟩ : ∃ y : Int32, y = l4_2 + 1 := ⟨_, rfl⟩
          have te_10 : x_9.toInt = (l4_2 : Int32).toInt + (1 : Int32).toInt := by rw [e_10]; exact fb_addI (by omega) (by omega)
          refine lv_iinc (v := x_9) (lv' := [(4, .int x_9), (0, .ref (al.2 79 0)), (1, .int ld), (2, .int d), (3, .int l3_8)]) hx hb dX0_nextStop_65 hl (k := 3) rfl (by rw [e_10]; rfl) (by decide) rfl (fun ls hl => ?_)
          refine lv_goto (tgt := 6) hx hb dX0_nextStop_68 (by decide) ?_
          exact ih_6 l3_8 x_9 _ (lv_sub hl [1, 2, 3, 4, 0] rfl) (by omega) (by omega) (by omega) (by first | exact nx_up (by omega) (by omega) i65_2 | exact nx_0) (by omega) (by omega)
        refine b_icmp_ne (tgt := 65) hx hb dX0_nextStop_23 (by decide) (fun c_11 => ?_) (fun c_11 => ?_)
        ·
          exact J_65 l3_1 _ (lv_sub hl [0, 1, 2, 4, 3] rfl) (by omega) (by omega) (by first | exact nx_y i6_3 (by omega) (by omega) True.intro | exact nx_n i6_3 (by omega))
        ·
          refine lv_aload_n hx hb dX0_nextStop_26 rfl (lv_at hl 0 rfl) ?_
          refine g_79_3 C hU hG (h1_79 hG) fl_X0_27 dX0_nextStop_27 ?_
          refine lv_iload hx hb dX0_nextStop_30 (lv_at hl 4 rfl) ?_
          refine a_83 C hU hG (h1_83 hG) (x := l4_2) (by omega) (by omega) dX0_nextStop_32 (fun x_12 e_13 le_13 ue_13 => ?_)
          have te_13 := congrArg Int32.toInt e_13
          refine lv_iload_n hx hb dX0_nextStop_33 rfl (lv_at hl 2 rfl) ?_
          refine b_icmp_ge (tgt := 40) hx hb dX0_nextStop_34 (by decide) (fun c_14 => ?_) (fun c_14 => ?_)
          ·
            refine lv_iload_n hx hb dX0_nextStop_40 rfl (lv_at hl 3 rfl) ?_
            refine lv_bipush (v := (-9)) hx hb dX0_nextStop_41 (by decide) ?_
            have J_62 : ∀ (ls : Array Slot), lv_has ls 5 [(0, .ref (al.2 79 0)), (1, .int ld), (2, .int d), (4, .int l4_2)] → l3_1.toInt = -9 ∨ (iv 82 0 l4_2.toNatClampNeg).toInt < (iv 82 0 l3_1.toNatClampNeg).toInt → W p l e (rm 0) s m args below meth c H locs 0 0 Q (F0 m 62 ls []) := by
              intro ls hl i62_0
              refine lv_iload hx hb dX0_nextStop_62 (lv_at hl 3 rfl) ?_
              refine lv_istore_n (lv' := [(3, .int l4_2), (0, .ref (al.2 79 0)), (1, .int ld), (2, .int d), (4, .int l4_2)]) hx hb dX0_nextStop_64 rfl hl (by decide) rfl (fun ls hl => ?_)
              exact J_65 l4_2 _ (lv_sub hl [1, 2, 3, 4, 0] rfl) (by omega) (by omega) (by first | exact nx_y i6_3 (by omega) (by omega) i62_0 | exact nx_n i6_3 (by omega))
            refine b_icmp_eq (tgt := 62) hx hb dX0_nextStop_43 (by decide) (fun c_15 => ?_) (fun c_15 => ?_)
            ·
              exact J_62 _ (lv_sub hl [0, 1, 2, 4] rfl) (by omega)
            ·
              refine lv_aload_n hx hb dX0_nextStop_46 rfl (lv_at hl 0 rfl) ?_
              refine g_79_2 C hU hG (h1_79 hG) fl_X0_24 dX0_nextStop_47 ?_
              refine lv_iload hx hb dX0_nextStop_50 (lv_at hl 4 rfl) ?_
              refine a_82 C hU hG (h1_82 hG) (x := l4_2) (by omega) (by omega) dX0_nextStop_52 (fun x_16 e_17 le_17 ue_17 => ?_)
              have te_17 := congrArg Int32.toInt e_17
              refine lv_aload_n hx hb dX0_nextStop_53 rfl (lv_at hl 0 rfl) ?_
              refine g_79_2 C hU hG (h1_79 hG) fl_X0_24 dX0_nextStop_54 ?_
              refine lv_iload_n hx hb dX0_nextStop_57 rfl (lv_at hl 3 rfl) ?_
              refine a_82 C hU hG (h1_82 hG) (x := l3_1) (by omega) (by omega) dX0_nextStop_58 (fun x_18 e_19 le_19 ue_19 => ?_)
              have te_19 := congrArg Int32.toInt e_19
              refine b_icmp_ge (tgt := 65) hx hb dX0_nextStop_59 (by decide) (fun c_20 => ?_) (fun c_20 => ?_)
              ·
                exact J_65 l3_1 _ (lv_sub hl [0, 1, 2, 4, 3] rfl) (by omega) (by omega) (by first | exact nx_y i6_3 (by omega) (by omega) i62_0 | exact nx_n i6_3 (by omega))
              ·
                exact J_62 _ (lv_sub hl [0, 1, 2, 4] rfl) (by omega)
          ·
            refine lv_goto (tgt := 65) hx hb dX0_nextStop_37 (by decide) ?_
            exact J_65 l3_1 _ (lv_sub hl [0, 1, 2, 4, 3] rfl) (by omega) (by omega) (by first | exact nx_y i6_3 (by omega) (by omega) i62_0 | exact nx_n i6_3 (by omega))
  exact J_6 _ (-9) 0 _ (lv_sub hl [2, 3, 4, 1, 0] rfl) (by omega) (by omega) (by omega) (by first | exact nx_up (by omega) (by omega) i65_2 | exact nx_0) (by omega) (Nat.lt_succ_self _)
set_option maxHeartbeats 4000000 in
set_option maxRecDepth 100000 in
theorem c_X0_daysThatRan_x {l : Launch} {D : va_G} {cA : FieldType → ClassId} {sz : Nat} {al : Al} {iv : Iv} {rv : Rv} (hG : GI al iv rv) (ld : Int32) (a : Int32) (b : Int32) (pre0 : Cstop iv rv) (pre1 : Cord iv rv) (pre2 : 0 ≤ a.toInt ∧ a.toInt ≤ 20001) (pre3 : 0 ≤ b.toInt ∧ b.toInt ≤ 4000) : Met l yX0_daysThatRan (wd yX0_daysThatRan cX0_daysThatRan 9 (some .int)) (rm 1) (PcW D cA sz al iv rv [.ref (al.2 79 0), .int ld, .int a, .int b]) (QI D cA sz al (pI iv rv (fun r => r.toInt = drN iv ld.toInt a.toInt (b.toInt - a.toInt + 1).toNat))) 0 0 (Aq sz) := by
  refine mk_i (by decide) (Nat.le_of_ble_eq_true rfl) rfl ?_
  intro p e s m args below meth c ls Q H locs C hU hS hl hret
  have hx := C.1.1
  have hb := C.1.2.1
  have hl : lv_has ls 9 [(0, .ref (al.2 79 0)), (1, .int ld), (2, .int a), (3, .int b)] := hl
  have hG0 := hG
  have hcn := congrArg Int32.toInt pre0.1
  have hst := le37 hG
  have km9 : ((-9) : Int32).toInt = -9 := by decide
  have k0 : (0 : Int32).toInt = 0 := by decide
  have k1 : (1 : Int32).toInt = 1 := by decide
  refine lv_iconst (v := 0) hx hb dX0_daysThatRan_0 (by decide) ?_
  refine lv_istore (lv' := [(4, .int 0), (0, .ref (al.2 79 0)), (1, .int ld), (2, .int a), (3, .int b)]) hx hb dX0_daysThatRan_1 hl (by decide) rfl (fun ls hl => ?_)
  refine lv_iload_n hx hb dX0_daysThatRan_3 rfl (lv_at hl 3 rfl) ?_
  refine lv_istore (lv' := [(5, .int a), (4, .int 0), (0, .ref (al.2 79 0)), (1, .int ld), (2, .int a), (3, .int b)]) hx hb dX0_daysThatRan_4 hl (by decide) rfl (fun ls hl => ?_)
  refine lv_iconst (v := 0) hx hb dX0_daysThatRan_6 (by decide) ?_
  refine lv_istore (lv' := [(6, .int 0), (5, .int a), (4, .int 0), (0, .ref (al.2 79 0)), (1, .int ld), (2, .int a), (3, .int b)]) hx hb dX0_daysThatRan_7 hl (by decide) rfl (fun ls hl => ?_)
  have J_9 : ∀ (n_9 : Nat) (l4_1 : Int32) (l5_2 : Int32) (l6_3 : Int32) (H : Heap) (locs : List Loc) (ls : Array Slot), lv_has ls 9 [(0, .ref (al.2 79 0)), (1, .int ld), (3, .int b), (4, .int l4_1), (5, .int l5_2), (6, .int l6_3)] → UW D cA sz al iv rv H → va_S (Aq sz) s.heap H locs → (0 ≤ l4_1.toInt ∧ l4_1.toInt ≤ 20001) → (0 ≤ l5_2.toInt ∧ l5_2.toInt ≤ 20001) → (0 ≤ l6_3.toInt ∧ l6_3.toInt ≤ 21) → DR iv ld.toInt a.toInt b.toInt l4_1.toInt l5_2.toInt l6_3.toInt → l4_1.toInt ≤ l5_2.toInt → (22 - l6_3.toInt).toNat < n_9 → W p l e (rm 1) s m args below meth c H locs 0 0 Q (F0 m 9 ls []) := by
    intro n_9
    induction n_9 with
    | zero =>
      intro l4_1 l5_2 l6_3 H locs ls hl hU hS i9_0 i9_1 i9_2 i9_3 i9_4 hm_9
      exact absurd hm_9 (Nat.not_lt_zero _)
    | succ n_9 ih_9 =>
      intro l4_1 l5_2 l6_3 H locs ls hl hU hS i9_0 i9_1 i9_2 i9_3 i9_4 hm_9
      refine lv_iload hx hb dX0_daysThatRan_9 (lv_at hl 5 rfl) ?_
      refine lv_aload_n hx hb dX0_daysThatRan_11 rfl (lv_at hl 0 rfl) ?_
      refine g_79_4 C hU hG (h1_79 hG) fl_X0_30 dX0_daysThatRan_12 (fun x_4 e_5 le_5 ue_5 => ?_)
      have te_5 := congrArg Int32.toInt e_5
      refine b_icmp_gt (tgt := 105) hx hb dX0_daysThatRan_15 (by decide) (fun c_6 => ?_) (fun c_6 => ?_)
      ·
        refine lv_iload hx hb dX0_daysThatRan_105 (lv_at hl 3 rfl) ?_
        exact hret (⟨rfl, rfl, dR_end pre0 i9_3 (by omega)⟩) hU hS dX0_daysThatRan_107
      ·
        refine lv_iload hx hb dX0_daysThatRan_18 (lv_at hl 4 rfl) ?_
        refine lv_iload_n hx hb dX0_daysThatRan_20 rfl (lv_at hl 2 rfl) ?_
        refine b_icmp_gt (tgt := 105) hx hb dX0_daysThatRan_21 (by decide) (fun c_7 => ?_) (fun c_7 => ?_)
        ·
          refine lv_iload hx hb dX0_daysThatRan_105 (lv_at hl 3 rfl) ?_
          exact hret (⟨rfl, rfl, dR_end pre0 i9_3 (by omega)⟩) hU hS dX0_daysThatRan_107
        ·
          refine lv_aload_n hx hb dX0_daysThatRan_24 rfl (lv_at hl 0 rfl) ?_
          refine lv_iload_n hx hb dX0_daysThatRan_25 rfl (lv_at hl 1 rfl) ?_
          refine lv_iload hx hb dX0_daysThatRan_26 (lv_at hl 4 rfl) ?_
          refine q_pi (q_runV (t := 79) (i := 0) (As := [.int ld, .int l5_2]) (rest := []) C hU (c_X0_nextStop_x hG ld l5_2 ) vm_X0_nextStop ml_X0_34 k_79.1 (hc := rfl) rfl (h1_79 hG) hl.1 rfl rfl (Nat.le_of_ble_eq_true rfl) dX0_daysThatRan_28 rfl rfl ⟨Nat.le_of_ble_eq_true rfl, Nat.le_of_ble_eq_true rfl⟩ ⟨Nat.le_refl _, Nat.le_refl _⟩) hS (fun x_9 H locs hp_8 hU hS => ?_)
          have hnx := nx_ge hp_8.2.2 pre1
          refine lv_istore (lv' := [(7, .int x_9), (0, .ref (al.2 79 0)), (1, .int ld), (3, .int b), (4, .int l4_1), (5, .int l5_2), (6, .int l6_3)]) hx hb dX0_daysThatRan_31 hl (by decide) rfl (fun ls hl => ?_)
          refine lv_iload hx hb dX0_daysThatRan_33 (lv_at hl 0 rfl) ?_
          refine lv_bipush (v := (-9)) hx hb dX0_daysThatRan_35 (by decide) ?_
          have J_59 : ∀ (v_10 : Int32) (H : Heap) (locs : List Loc) (ls : Array Slot), lv_has ls 9 [(0, .ref (al.2 79 0)), (1, .int ld), (3, .int b), (4, .int l4_1), (5, .int l5_2), (6, .int l6_3), (7, .int x_9)] → UW D cA sz al iv rv H → va_S (Aq sz) s.heap H locs → ((x_9.toInt = -9 ∧ v_10.toInt = b.toInt + 1) ∨ (0 ≤ x_9.toInt ∧ v_10.toInt = min (iv 82 0 x_9.toNatClampNeg).toInt (b.toInt + 1))) → (0 ≤ v_10.toInt ∧ v_10.toInt ≤ 4001) → W p l e (rm 1) s m args below meth c H locs 0 0 Q (F0 m 59 ls [.int v_10]) := by
            intro v_10 H locs ls hl hU hS i59_0 i59_1
            refine lv_istore (lv' := [(8, .int v_10), (0, .ref (al.2 79 0)), (1, .int ld), (3, .int b), (4, .int l4_1), (5, .int l5_2), (6, .int l6_3), (7, .int x_9)]) hx hb dX0_daysThatRan_59 hl (by decide) rfl (fun ls hl => ?_)
            refine lv_iload hx hb dX0_daysThatRan_61 (lv_at hl 4 rfl) ?_
            refine lv_iconst (v := 0) hx hb dX0_daysThatRan_63 (by decide) ?_
            refine lv_iload hx hb dX0_daysThatRan_64 (lv_at hl 0 rfl) ?_
            refine lv_iload hx hb dX0_daysThatRan_66 (lv_at hl 5 rfl) ?_
            refine lv_isub hx hb dX0_daysThatRan_68 ?_
            refine lv_topi (fun x_11 e_12 => ?_)
            have t68 : x_11.toInt = v_10.toInt - l5_2.toInt := by rw [e_12]; exact fb_subI (by omega) (by omega)
            refine q_max C hl.1 ml_X0_43 (Nat.le_of_ble_eq_true rfl) (Nat.le_of_ble_eq_true rfl) (Nat.le_refl _) (Nat.le_refl _) dX0_daysThatRan_69 (fun x_13 q_14 tq_14 => ?_)
            have t72 : (l4_1 + x_13 : Int32).toInt = l4_1.toInt + x_13.toInt := fb_addI (by omega) (by omega)
            refine lv_iadd hx hb dX0_daysThatRan_72 ?_
            refine lv_topi (fun x_15 e_16 => ?_)
            rw [← e_16] at t72
            refine lv_istore (lv' := [(4, .int x_15), (8, .int v_10), (0, .ref (al.2 79 0)), (1, .int ld), (3, .int b), (5, .int l5_2), (6, .int l6_3), (7, .int x_9)]) hx hb dX0_daysThatRan_73 hl (by decide) rfl (fun ls hl => ?_)
            refine lv_iload hx hb dX0_daysThatRan_75 (lv_at hl 7 rfl) ?_
            refine lv_bipush (v := (-9)) hx hb dX0_daysThatRan_77 (by decide) ?_
            have J_97 : ∀ (v_17 : Int32) (ls : Array Slot), lv_has ls 9 [(0, .ref (al.2 79 0)), (1, .int ld), (3, .int b), (4, .int x_15), (6, .int l6_3)] → (1 ≤ v_17.toInt ∧ v_17.toInt ≤ 4001) → ((x_9.toInt = -9 ∧ v_17.toInt = b.toInt + 1) ∨ (0 ≤ x_9.toInt ∧ v_17.toInt = (iv 83 0 x_9.toNatClampNeg).toInt + 1)) → W p l e (rm 1) s m args below meth c H locs 0 0 Q (F0 m 97 ls [.int v_17]) := by
              intro v_17 ls hl i97_0 i97_1
              refine lv_istore (lv' := [(5, .int v_17), (0, .ref (al.2 79 0)), (1, .int ld), (3, .int b), (4, .int x_15), (6, .int l6_3)]) hx hb dX0_daysThatRan_97 hl (by decide) rfl (fun ls hl => ?_)
              obtain ⟨x_18, e_19⟩ : ∃ y : Int32, y = l6_3 + 1 := ⟨_, rfl⟩
              have te_19 : x_18.toInt = (l6_3 : Int32).toInt + (1 : Int32).toInt := by rw [e_19]; exact fb_addI (by omega) (by omega)
              refine lv_iinc (v := x_18) (lv' := [(6, .int x_18), (5, .int v_17), (0, .ref (al.2 79 0)), (1, .int ld), (3, .int b), (4, .int x_15)]) hx hb dX0_daysThatRan_99 hl (k := 5) rfl (by rw [e_19]; rfl) (by decide) rfl (fun ls hl => ?_)
              refine lv_goto (tgt := 9) hx hb dX0_daysThatRan_102 (by decide) ?_
              exact ih_9 x_15 v_17 x_18 _ _ _ (lv_sub hl [2, 3, 4, 5, 1, 0] rfl) hU hS (by omega) (by omega) (by omega) (by first | exact dR_step pre0 pre1 i9_3 hp_8.2.2 (by omega) (by omega) (by omega) i59_0 i97_1 | exact dR_0 pre0) (by omega) (by omega)
            refine b_icmp_ne (tgt := 88) hx hb dX0_daysThatRan_79 (by decide) (fun c_20 => ?_) (fun c_20 => ?_)
            ·
              refine lv_aload_n hx hb dX0_daysThatRan_88 rfl (lv_at hl 2 rfl) ?_
              refine g_79_3 C hU hG (h1_79 hG) fl_X0_27 dX0_daysThatRan_89 ?_
              refine lv_iload hx hb dX0_daysThatRan_92 (lv_at hl 7 rfl) ?_
              refine a_83 C hU hG (h1_83 hG) (x := x_9) (by omega) (by omega) dX0_daysThatRan_94 (fun x_21 e_22 le_22 ue_22 => ?_)
              have te_22 := congrArg Int32.toInt e_22
              refine lv_iconst (v := 1) hx hb dX0_daysThatRan_95 (by decide) ?_
              refine lv_iadd hx hb dX0_daysThatRan_96 ?_
              refine lv_topi (fun x_23 e_24 => ?_)
              have te_24 : x_23.toInt = (x_21 : Int32).toInt + (1 : Int32).toInt := by rw [e_24]; exact fb_addI (by omega) (by omega)
              exact J_97 x_23 _ (lv_sub hl [2, 3, 4, 0, 6] rfl) (by omega) (by omega)
            ·
              refine lv_iload_n hx hb dX0_daysThatRan_82 rfl (lv_at hl 4 rfl) ?_
              refine lv_iconst (v := 1) hx hb dX0_daysThatRan_83 (by decide) ?_
              refine lv_iadd hx hb dX0_daysThatRan_84 ?_
              refine lv_topi (fun x_25 e_26 => ?_)
              have te_26 : x_25.toInt = (b : Int32).toInt + (1 : Int32).toInt := by rw [e_26]; exact fb_addI (by omega) (by omega)
              refine lv_goto (tgt := 97) hx hb dX0_daysThatRan_85 (by decide) ?_
              exact J_97 x_25 _ (lv_sub hl [2, 3, 4, 0, 6] rfl) (by omega) (by omega)
          refine b_icmp_ne (tgt := 46) hx hb dX0_daysThatRan_37 (by decide) (fun c_27 => ?_) (fun c_27 => ?_)
          ·
            refine lv_aload_n hx hb dX0_daysThatRan_46 rfl (lv_at hl 1 rfl) ?_
            refine g_79_2 C hU hG (h1_79 hG) fl_X0_24 dX0_daysThatRan_47 ?_
            refine lv_iload hx hb dX0_daysThatRan_50 (lv_at hl 0 rfl) ?_
            refine a_82 C hU hG (h1_82 hG) (x := x_9) (by omega) (by omega) dX0_daysThatRan_52 (fun x_28 e_29 le_29 ue_29 => ?_)
            have te_29 := congrArg Int32.toInt e_29
            refine lv_iload_n hx hb dX0_daysThatRan_53 rfl (lv_at hl 3 rfl) ?_
            refine lv_iconst (v := 1) hx hb dX0_daysThatRan_54 (by decide) ?_
            refine lv_iadd hx hb dX0_daysThatRan_55 ?_
            refine lv_topi (fun x_30 e_31 => ?_)
            have te_31 : x_30.toInt = (b : Int32).toInt + (1 : Int32).toInt := by rw [e_31]; exact fb_addI (by omega) (by omega)
            refine q_min C hl.1 ml_X0_38 (Nat.le_of_ble_eq_true rfl) (Nat.le_of_ble_eq_true rfl) (Nat.le_refl _) (Nat.le_refl _) dX0_daysThatRan_56 (fun x_32 q_33 tq_33 => ?_)
            exact J_59 x_32 _ _ _ (lv_sub hl [1, 2, 3, 4, 5, 6, 0] rfl) hU hS (by omega) (by omega)
          ·
            refine lv_iload_n hx hb dX0_daysThatRan_40 rfl (lv_at hl 3 rfl) ?_
            refine lv_iconst (v := 1) hx hb dX0_daysThatRan_41 (by decide) ?_
            refine lv_iadd hx hb dX0_daysThatRan_42 ?_
            refine lv_topi (fun x_34 e_35 => ?_)
            have te_35 : x_34.toInt = (b : Int32).toInt + (1 : Int32).toInt := by rw [e_35]; exact fb_addI (by omega) (by omega)
            refine lv_goto (tgt := 59) hx hb dX0_daysThatRan_43 (by decide) ?_
            exact J_59 x_34 _ _ _ (lv_sub hl [1, 2, 3, 4, 5, 6, 0] rfl) hU hS (by omega) (by omega)
  exact J_9 _ 0 a 0 _ _ _ (lv_sub hl [3, 4, 6, 2, 1, 0] rfl) hU hS (by omega) (by omega) (by omega) (by first | exact dR_step pre0 pre1 i9_3 True.intro.2.2 (by omega) (by omega) (by omega) i59_0 i97_1 | exact dR_0 pre0) (by omega) (Nat.lt_succ_self _)
set_option maxHeartbeats 4000000 in
set_option maxRecDepth 100000 in
theorem c_X11_isBarred_x {l : Launch} {D : va_G} {cA : FieldType → ClassId} {sz : Nat} {al : Al} {iv : Iv} {rv : Rv} (hG : GI al iv rv) (ci : Nat) (hci : ci < al.1 88) (pre0 : BX iv rv) (pre1 : Cord iv rv) : Met l yX11_isBarred (wd yX11_isBarred cX11_isBarred 3 (some .boolean)) (rm 3) (PcW D cA sz al iv rv [.ref (al.2 49 0), .ref (al.2 88 ci)]) (QI D cA sz al (pI iv rv (fun r => (0 ≤ r.toInt ∧ r.toInt ≤ 1) ∧ (r = brF iv ci)))) 0 0 (Aq sz) := by
  refine mk_z (by decide) (Nat.le_of_ble_eq_true rfl) rfl ?_
  intro p e s m args below meth c ls Q H locs C hU hS hl hret
  have hx := C.1.1
  have hb := C.1.2.1
  have hl : lv_has ls 3 [(0, .ref (al.2 49 0)), (1, .ref (al.2 88 ci))] := hl
  have hG0 := hG
  have km9 : ((-9) : Int32).toInt = -9 := by decide
  have k0 : (0 : Int32).toInt = 0 := by decide
  have k1 : (1 : Int32).toInt = 1 := by decide
  refine lv_aload_n hx hb dX11_isBarred_0 rfl (lv_at hl 0 rfl) ?_
  refine g_49_3 C hU hG (h1_49 hG) fl_X11_33 dX11_isBarred_1 ?_
  refine lv_aload_n hx hb dX11_isBarred_4 rfl (lv_at hl 1 rfl) ?_
  refine g_88_0 C hU hG hci fl_X11_264 dX11_isBarred_5 (fun j_1 ej_2 hb_3 => ?_)
  have hti := cw_t hG0 pre0 hci ej_2
  refine lv_aload_n hx hb dX11_isBarred_8 rfl (lv_at hl 1 rfl) ?_
  refine g_88_1 C hU hG hci fl_X11_271 dX11_isBarred_9 (fun x_4 e_5 le_5 ue_5 => ?_)
  have te_5 := congrArg Int32.toInt e_5
  have hdd := cw_d hG0 pre0 hci e_5
  refine q_pi (q_runV (t := 68) (i := 0) (As := [.ref (al.2 65 j_1), .int x_4]) (rest := []) C hU (c_X4_landFor_x hG (j_1) hb_3 x_4 (pre0.1)) vm_X4_landFor ml_X11_236 k_68.1 (hc := rfl) rfl (h1_68 hG) hl.1 rfl rfl (Nat.le_of_ble_eq_true rfl) dX11_isBarred_12 rfl rfl ⟨Nat.le_of_ble_eq_true rfl, Nat.le_of_ble_eq_true rfl⟩ ⟨Nat.le_refl _, Nat.le_refl _⟩) hS (fun x_7 H locs hp_6 hU hS => ?_)
  refine lv_istore_n (lv' := [(2, .int x_7), (0, .ref (al.2 49 0)), (1, .ref (al.2 88 ci))]) hx hb dX11_isBarred_15 rfl hl (by decide) rfl (fun ls hl => ?_)
  have hlw := hp_6.2.1
  rw [hti, hdd] at hlw
  have tlw := congrArg Int32.toInt hlw
  have olw := hp_6.2.2
  refine lv_iload_n hx hb dX11_isBarred_16 rfl (lv_at hl 0 rfl) ?_
  refine lv_bipush (v := (-9)) hx hb dX11_isBarred_17 (by decide) ?_
  refine b_icmp_ne (tgt := 24) hx hb dX11_isBarred_19 (by decide) (fun c_8 => ?_) (fun c_8 => ?_)
  ·
    refine lv_aload_n hx hb dX11_isBarred_24 rfl (lv_at hl 1 rfl) ?_
    refine g_49_4 C hU hG (h1_49 hG) fl_X11_40 dX11_isBarred_25 ?_
    refine lv_iload_n hx hb dX11_isBarred_28 rfl (lv_at hl 0 rfl) ?_
    refine lv_aload_n hx hb dX11_isBarred_29 rfl (lv_at hl 2 rfl) ?_
    refine g_88_0 C hU hG hci fl_X11_264 dX11_isBarred_30 (fun j_9 ej_10 hb_11 => ?_)
    have hti2 := cw_t hG0 pre0 hci ej_10
    refine q_pi (q_runV (t := 65) (i := j_9) (As := []) (rest := [.int x_7, .ref (al.2 79 0)]) C hU (c_X8_arriveDay_x hG (j_9) hb_11 (bb_bm pre0.1.1)) vm_X8_arriveDay ml_X11_384 k_65.1 (hc := rfl) rfl hb_11 hl.1 rfl rfl (Nat.le_of_ble_eq_true rfl) dX11_isBarred_33 rfl rfl ⟨Nat.le_of_ble_eq_true rfl, Nat.le_of_ble_eq_true rfl⟩ ⟨Nat.le_refl _, Nat.le_refl _⟩) hS (fun x_13 H locs hp_12 hU hS => ?_)
    have had := hp_12.2
    rw [hti2] at had
    have tad := congrArg Int32.toInt had
    refine lv_iconst (v := 1) hx hb dX11_isBarred_36 (by decide) ?_
    refine lv_iadd hx hb dX11_isBarred_37 ?_
    refine lv_topi (fun x_14 e_15 => ?_)
    have te_15 : x_14.toInt = (x_13 : Int32).toInt + (1 : Int32).toInt := by rw [e_15]; exact fb_addI (by omega) (by omega)
    refine lv_aload_n hx hb dX11_isBarred_38 rfl (lv_at hl 2 rfl) ?_
    refine g_88_1 C hU hG hci fl_X11_271 dX11_isBarred_39 (fun x_16 e_17 le_17 ue_17 => ?_)
    have te_17 := congrArg Int32.toInt e_17
    have hdd2 := cw_d hG0 pre0 hci e_17
    have td2 := congrArg Int32.toInt hdd2
    refine q_pi (q_runV (t := 79) (i := 0) (As := [.int x_7, .int x_14, .int x_16]) (rest := []) C hU (c_X0_daysThatRan_x hG x_7 x_14 x_16 (pre0.2.2.1) (pre1) (by omega) (by omega)) vm_X0_daysThatRan ml_X11_387 k_79.1 (hc := rfl) rfl (h1_79 hG) hl.1 rfl rfl (Nat.le_of_ble_eq_true rfl) dX11_isBarred_42 rfl rfl ⟨Nat.le_of_ble_eq_true rfl, Nat.le_of_ble_eq_true rfl⟩ ⟨Nat.le_refl _, Nat.le_refl _⟩) hS (fun x_19 H locs hp_18 hU hS => ?_)
    refine lv_aload_n hx hb dX11_isBarred_45 rfl (lv_at hl 1 rfl) ?_
    refine g_49_4 C hU hG (h1_49 hG) fl_X11_40 dX11_isBarred_46 ?_
    refine g_79_0 C hU hG (h1_79 hG) fl_X11_247 dX11_isBarred_49 ?_
    refine lv_iload_n hx hb dX11_isBarred_52 rfl (lv_at hl 0 rfl) ?_
    refine a_80 C hU hG (h1_80 hG) (x := x_7) (by omega) (by omega) dX11_isBarred_53 (fun x_20 e_21 le_21 ue_21 => ?_)
    have te_21 := congrArg Int32.toInt e_21
    have hb53 := cw_b pre0 e_21 (by omega) (by omega)
    rw [hlw] at hb53
    have tb53 := congrArg Int32.toInt hb53
    refine b_icmp_le (tgt := 61) hx hb dX11_isBarred_54 (by decide) (fun c_22 => ?_) (fun c_22 => ?_)
    ·
      refine lv_iconst (v := 0) hx hb dX11_isBarred_61 (by decide) ?_
      exact hret (by omega) (by omega) (⟨rfl, rfl, ⟨⟨by omega, by omega⟩, by have z := hp_18; first | exact cw_1 hlw olw (by omega) z tad td2 tb53 (by omega) | exact cw_0 hlw olw (by omega) z tad td2 tb53 (by omega)⟩⟩) hU hS dX11_isBarred_62
    ·
      refine lv_iconst (v := 1) hx hb dX11_isBarred_57 (by decide) ?_
      refine lv_goto (tgt := 62) hx hb dX11_isBarred_58 (by decide) ?_
      exact hret (by omega) (by omega) (⟨rfl, rfl, ⟨⟨by omega, by omega⟩, by have z := hp_18; first | exact cw_1 hlw olw (by omega) z tad td2 tb53 (by omega) | exact cw_0 hlw olw (by omega) z tad td2 tb53 (by omega)⟩⟩) hU hS dX11_isBarred_62
  ·
    refine lv_iconst (v := 0) hx hb dX11_isBarred_22 (by decide) ?_
    exact hret (by omega) (by omega) (⟨rfl, rfl, ⟨⟨by omega, by omega⟩, by unfold brF clw; rw [if_pos (by omega)]⟩⟩) hU hS dX11_isBarred_23
