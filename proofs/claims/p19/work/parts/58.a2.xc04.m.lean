section
set_option maxHeartbeats 4000000 in
set_option maxRecDepth 100000 in
theorem c_X12_lastLeg_x {l : Launch} {D : va_G} {cA : FieldType → ClassId} {sz : Nat} {al : Al} {iv : Iv} {rv : Rv} (hG : GI al iv rv) (tt : Int32) (pre0 : 0 ≤ tt.toInt ∧ tt.toInt < (iv 0 0 20).toInt) : Met l yX12_lastLeg (wd yX12_lastLeg cX12_lastLeg 2 (some .int)) (rm 0) (PcW D cA sz al iv rv [.ref (al.2 0 0), .int tt]) (QI D cA sz al (pI iv rv (fun r => (0 ≤ r.toInt ∧ r.toInt ≤ 39) ∧ (r.toNatClampNeg = thL iv tt.toNatClampNeg)))) 0 0 (Aq sz) := by
  refine mk_i (by decide) (Nat.le_of_ble_eq_true rfl) rfl ?_
  intro p e s m args below meth c ls Q H locs C hU hS hl hret
  have hx := C.1.1
  have hb := C.1.2.1
  have hl : lv_has ls 2 [(0, .ref (al.2 0 0)), (1, .int tt)] := hl
  have hG0 := hG
  have h6 := le6 hG
  have h20 := le20 hG
  have h41 := le41 hG
  have h20 := le20 hG
  have hq := rm1 hG pre0.1 pre0.2
  have k1 : (1 : Int32).toInt = 1 := by decide
  have k4 : (4 : Int32).toInt = 4 := by decide
  refine lv_aload_n hx hb dX12_lastLeg_0 rfl (lv_at hl 0 rfl) ?_
  refine g_0_21 C hU hG (h1_0 hG) fl_X12_62 dX12_lastLeg_1 ?_
  refine lv_iconst (v := 4) hx hb dX12_lastLeg_4 (by decide) ?_
  refine lv_iload_n hx hb dX12_lastLeg_5 rfl (lv_at hl 1 rfl) ?_
  refine lv_imul hx hb dX12_lastLeg_6 ?_
  refine lv_topi (fun x_1 e_2 => ?_)
  have te_2 : x_1.toInt = 4 * (tt : Int32).toInt := by rw [e_2, fb_mulI (by rw [show (4 : Int32).toInt = 4 from by decide]; omega) (by rw [show (4 : Int32).toInt = 4 from by decide]; omega), show (4 : Int32).toInt = 4 from by decide]
  refine lv_aload_n hx hb dX12_lastLeg_7 rfl (lv_at hl 0 rfl) ?_
  refine g_0_22 C hU hG (h1_0 hG) fl_X12_65 dX12_lastLeg_8 ?_
  refine lv_iload_n hx hb dX12_lastLeg_11 rfl (lv_at hl 1 rfl) ?_
  refine a_19 C hU hG (h1_19 hG) (x := tt) (by omega) (by omega) dX12_lastLeg_12 (fun x_3 e_4 le_4 ue_4 => ?_)
  have te_4 := congrArg Int32.toInt e_4
  refine lv_iadd hx hb dX12_lastLeg_13 ?_
  refine lv_topi (fun x_5 e_6 => ?_)
  have te_6 : x_5.toInt = (x_1 : Int32).toInt + (x_3 : Int32).toInt := by rw [e_6]; exact fb_addI (by omega) (by omega)
  refine lv_iconst (v := 1) hx hb dX12_lastLeg_14 (by decide) ?_
  refine lv_isub hx hb dX12_lastLeg_15 ?_
  refine lv_topi (fun x_7 e_8 => ?_)
  have te_8 : x_7.toInt = (x_5 : Int32).toInt - (1 : Int32).toInt := by rw [e_8]; exact fb_subI (by omega) (by omega)
  refine a_18 C hU hG (h1_18 hG) (x := x_7) (by omega) (by omega) dX12_lastLeg_16 (fun x_9 e_10 le_10 ue_10 => ?_)
  have te_10 := congrArg Int32.toInt e_10
  exact hret (⟨rfl, rfl, ⟨⟨by omega, by omega⟩, th_ix (t := tt) e_10 e_4 (by omega) (by omega) (by omega)⟩⟩) hU hS dX12_lastLeg_17
set_option maxHeartbeats 4000000 in
set_option maxRecDepth 100000 in
theorem c_X12_soonestOf_x {l : Launch} {D : va_G} {cA : FieldType → ClassId} {sz : Nat} {al : Al} {iv : Iv} {rv : Rv} (hG : GI al iv rv) (tt : Int32) (pre0 : 0 ≤ tt.toInt ∧ tt.toInt < (iv 0 0 20).toInt) : Met l yX12_soonestOf (wd yX12_soonestOf cX12_soonestOf 9 (some .int)) (rm 3) (PcW D cA sz al iv rv [.ref (al.2 0 0), .int tt]) (QI D cA sz al (fI al ([20], []) iv rv (fun r iv' rv' => r = soF iv tt.toNatClampNeg))) 0 0 (Aq sz) := by
  refine mk_i (by decide) (Nat.le_of_ble_eq_true rfl) rfl ?_
  intro p e s m args below meth c ls Q H locs C hU hS hl hret
  have hx := C.1.1
  have hb := C.1.2.1
  have hl : lv_has ls 9 [(0, .ref (al.2 0 0)), (1, .int tt)] := hl
  have hG0 := hG
  have h6 := le6 hG
  have h20 := le20 hG
  have h41 := le41 hG
  have h20 := le20 hG
  have hF1 : FR ([20], []) iv iv := FR.rf
  have hF2 : FR ([20], []) rv rv := FR.rf
  have km9 : ((-9) : Int32).toInt = -9 := by decide
  have k0 : (0 : Int32).toInt = 0 := by decide
  have k1 : (1 : Int32).toInt = 1 := by decide
  have k2 : (2 : Int32).toInt = 2 := by decide
  have k4 : (4 : Int32).toInt = 4 := by decide
  refine lv_aload_n hx hb dX12_soonestOf_0 rfl (lv_at hl 0 rfl) ?_
  refine lv_iload_n hx hb dX12_soonestOf_1 rfl (lv_at hl 1 rfl) ?_
  refine q_pi (q_runV (t := 0) (i := 0) (As := [.int tt]) (rest := []) C hU (c_X12_missedOf_x hG tt (by omega)) vm_X12_missedOf ml_X12_229 k_0.1 (hc := rfl) rfl (h1_0 hG) hl.1 rfl rfl (Nat.le_of_ble_eq_true rfl) dX12_soonestOf_2 rfl rfl ⟨Nat.le_of_ble_eq_true rfl, Nat.le_of_ble_eq_true rfl⟩ ⟨Nat.le_refl _, Nat.le_refl _⟩) hS (fun x_2 H locs hp_1 hU hS => ?_)
  refine lv_istore_n (lv' := [(2, .int x_2), (0, .ref (al.2 0 0)), (1, .int tt)]) hx hb dX12_soonestOf_5 rfl hl (by decide) rfl (fun ls hl => ?_)
  have hms := hp_1.2.1
  have tms := congrArg Int32.toInt hms
  refine lv_iload_n hx hb dX12_soonestOf_6 rfl (lv_at hl 0 rfl) ?_
  refine b_if_ge (tgt := 20) hx hb dX12_soonestOf_7 (by decide) (fun c_3 => ?_) (fun c_3 => ?_)
  ·
    refine lv_aload_n hx hb dX12_soonestOf_20 rfl (lv_at hl 1 rfl) ?_
    refine g_0_7 C hU hG (h1_0 hG) fl_X12_22 dX12_soonestOf_21 ?_
    refine lv_aload_n hx hb dX12_soonestOf_24 rfl (lv_at hl 1 rfl) ?_
    refine g_0_21 C hU hG (h1_0 hG) fl_X12_62 dX12_soonestOf_25 ?_
    refine lv_iconst (v := 4) hx hb dX12_soonestOf_28 (by decide) ?_
    refine lv_iload_n hx hb dX12_soonestOf_29 rfl (lv_at hl 2 rfl) ?_
    refine lv_imul hx hb dX12_soonestOf_30 ?_
    refine lv_topi (fun x_4 e_5 => ?_)
    have te_5 : x_4.toInt = 4 * (tt : Int32).toInt := by rw [e_5, fb_mulI (by rw [show (4 : Int32).toInt = 4 from by decide]; omega) (by rw [show (4 : Int32).toInt = 4 from by decide]; omega), show (4 : Int32).toInt = 4 from by decide]
    refine lv_iload_n hx hb dX12_soonestOf_31 rfl (lv_at hl 0 rfl) ?_
    refine lv_iadd hx hb dX12_soonestOf_32 ?_
    refine lv_topi (fun x_6 e_7 => ?_)
    have te_7 : x_6.toInt = (x_4 : Int32).toInt + (x_2 : Int32).toInt := by rw [e_7]; exact fb_addI (by omega) (by omega)
    refine a_18 C hU hG (h1_18 hG) (x := x_6) (by omega) (by omega) dX12_soonestOf_33 (fun x_8 e_9 le_9 ue_9 => ?_)
    have te_9 := congrArg Int32.toInt e_9
    have hw33 := rw_ix (t := tt) (i := x_2) e_9 (by omega) (by omega) (by omega)
    refine a_5 C hU hG (h1_5 hG) (x := x_8) (by omega) (by omega) dX12_soonestOf_34 (fun x_10 e_11 le_11 ue_11 => ?_)
    have te_11 := congrArg Int32.toInt e_11
    have h34 := e_11
    rw [hw33, hms] at h34
    have t34 := congrArg Int32.toInt h34
    refine lv_istore_n (lv' := [(3, .int x_10), (2, .int x_2), (0, .ref (al.2 0 0)), (1, .int tt)]) hx hb dX12_soonestOf_35 rfl hl (by decide) rfl (fun ls hl => ?_)
    refine lv_iload_n hx hb dX12_soonestOf_36 rfl (lv_at hl 1 rfl) ?_
    have J_72 : ∀ (v_12 : Int32) (H : Heap) (locs : List Loc) (ls : Array Slot), lv_has ls 9 [(0, .ref (al.2 0 0)), (1, .int tt), (3, .int x_10)] → UW D cA sz al iv rv H → va_S (Aq sz) s.heap H locs → (0 ≤ v_12.toInt ∧ v_12.toInt ≤ 2147483647) → v_12.toInt = stT iv tt.toNatClampNeg → W p l e (rm 3) s m args below meth c H locs 0 0 Q (F0 m 72 ls [.int v_12]) := by
      intro v_12 H locs ls hl hU hS i72_0 i72_1
      refine lv_istore (lv' := [(4, .int v_12), (0, .ref (al.2 0 0)), (1, .int tt), (3, .int x_10)]) hx hb dX12_soonestOf_72 hl (by decide) rfl (fun ls hl => ?_)
      obtain ⟨gA, eA⟩ : ∃ z : Int, z = x_10.toInt := ⟨_, rfl⟩
      obtain ⟨gT, eT⟩ : ∃ z : Int, z = v_12.toInt := ⟨_, rfl⟩
      have i72 := i72_1
      refine lv_iconst (v := 0) hx hb dX12_soonestOf_74 (by decide) ?_
      refine lv_istore (lv' := [(5, .int 0), (4, .int v_12), (0, .ref (al.2 0 0)), (1, .int tt), (3, .int x_10)]) hx hb dX12_soonestOf_75 hl (by decide) rfl (fun ls hl => ?_)
      have J_77 : ∀ (n_77 : Nat) (l5_13 : Int32) (iv_14 : Iv) (rv_15 : Rv) (H : Heap) (locs : List Loc) (ls : Array Slot), lv_has ls 9 [(0, .ref (al.2 0 0)), (1, .int tt), (3, .int x_10), (4, .int v_12), (5, .int l5_13)] → GI al iv_14 rv_15 → FR ([20], []) iv iv_14 → FR ([20], []) rv rv_15 → UW D cA sz al iv_14 rv_15 H → va_S (Aq sz) s.heap H locs → (0 ≤ l5_13.toInt ∧ l5_13.toInt ≤ 40) → (∀ k : Nat, (k : Int) < l5_13.toInt → (¬ (iv_14 20 0 k).toInt = 0 ↔ S0 iv gA gT k)) → (40 - l5_13.toInt).toNat < n_77 → W p l e (rm 3) s m args below meth c H locs 0 0 Q (F0 m 77 ls []) := by
        intro n_77
        induction n_77 with
        | zero =>
          intro l5_13 iv_14 rv_15 H locs ls hl hG hF1 hF2 hU hS i77_0 i77_1 hm_77
          exact absurd hm_77 (Nat.not_lt_zero _)
        | succ n_77 ih_77 =>
          intro l5_13 iv_14 rv_15 H locs ls hl hG hF1 hF2 hU hS i77_0 i77_1 hm_77
          have kf_16 := congrArg Int32.toInt (hF1 0 0 20 (by decide))
          refine lv_iload hx hb dX12_soonestOf_77 (lv_at hl 4 rfl) ?_
          refine lv_aload_n hx hb dX12_soonestOf_79 rfl (lv_at hl 0 rfl) ?_
          refine g_0_6 C hU hG (h1_0 hG) fl_X12_160 dX12_soonestOf_80 (fun x_17 e_18 le_18 ue_18 => ?_)
          have te_18 := congrArg Int32.toInt e_18
          have ne_18 : x_17.toInt = (iv 0 0 6).toInt := by rw [e_18, hF1 0 0 6 (by decide)]
          refine b_icmp_ge (tgt := 136) hx hb dX12_soonestOf_83 (by decide) (fun c_19 => ?_) (fun c_19 => ?_)
          ·
            refine lv_iconst (v := 1) hx hb dX12_soonestOf_136 (by decide) ?_
            refine lv_istore (lv' := [(5, .int 1), (0, .ref (al.2 0 0)), (1, .int tt), (3, .int x_10), (4, .int v_12)]) hx hb dX12_soonestOf_137 hl (by decide) rfl (fun ls hl => ?_)
            have J_139 : ∀ (n_139 : Nat) (l5_20 : Int32) (iv_21 : Iv) (rv_22 : Rv) (H : Heap) (locs : List Loc) (ls : Array Slot), lv_has ls 9 [(0, .ref (al.2 0 0)), (1, .int tt), (5, .int l5_20)] → GI al iv_21 rv_22 → FR ([20], []) iv iv_21 → FR ([20], []) rv rv_22 → UW D cA sz al iv_21 rv_22 H → va_S (Aq sz) s.heap H locs → (0 ≤ l5_20.toInt ∧ l5_20.toInt ≤ 1) → soJ iv iv_21 gA gT l5_20 (iv 0 0 6).toNatClampNeg 0 → 2 * ctU iv_21 40 + l5_20.toInt.toNat < n_139 → W p l e (rm 3) s m args below meth c H locs 0 0 Q (F0 m 139 ls []) := by
              intro n_139
              induction n_139 with
              | zero =>
                intro l5_20 iv_21 rv_22 H locs ls hl hG hF1 hF2 hU hS i139_0 i139_1 hm_139
                exact absurd hm_139 (Nat.not_lt_zero _)
              | succ n_139 ih_139 =>
                intro l5_20 iv_21 rv_22 H locs ls hl hG hF1 hF2 hU hS i139_0 i139_1 hm_139
                have kf_23 := congrArg Int32.toInt (hF1 0 0 20 (by decide))
                refine lv_iload hx hb dX12_soonestOf_139 (lv_at hl 2 rfl) ?_
                refine b_if_eq (tgt := 306) hx hb dX12_soonestOf_141 (by decide) (fun c_24 => ?_) (fun c_24 => ?_)
                ·
                  have hrc := so_rc i139_1 (by omega)
                  refine lv_bipush (v := (-9)) hx hb dX12_soonestOf_306 (by decide) ?_
                  refine lv_istore (lv' := [(6, .int (-9)), (0, .ref (al.2 0 0)), (1, .int tt), (5, .int l5_20)]) hx hb dX12_soonestOf_308 hl (by decide) rfl (fun ls hl => ?_)
                  refine lv_iconst (v := 0) hx hb dX12_soonestOf_310 (by decide) ?_
                  refine lv_istore (lv' := [(7, .int 0), (6, .int (-9)), (0, .ref (al.2 0 0)), (1, .int tt), (5, .int l5_20)]) hx hb dX12_soonestOf_311 hl (by decide) rfl (fun ls hl => ?_)
                  have J_313 : ∀ (n_313 : Nat) (l6_25 : Int32) (l7_26 : Int32) (H : Heap) (locs : List Loc) (ls : Array Slot), lv_has ls 9 [(0, .ref (al.2 0 0)), (1, .int tt), (6, .int l6_25), (7, .int l7_26)] → UW D cA sz al iv_21 rv_22 H → va_S (Aq sz) s.heap H locs → (-9 ≤ l6_25.toInt ∧ l6_25.toInt ≤ 2147483647) → (0 ≤ l7_26.toInt ∧ l7_26.toInt ≤ 40) → l6_25 = sbN iv (Rch iv gA gT) (iv 6 0 (thL iv tt.toNatClampNeg)).toInt l7_26.toNatClampNeg → l7_26.toInt ≤ (iv 0 0 6).toInt → (40 - l7_26.toInt).toNat < n_313 → W p l e (rm 3) s m args below meth c H locs 0 0 Q (F0 m 313 ls []) := by
                    intro n_313
                    induction n_313 with
                    | zero =>
                      intro l6_25 l7_26 H locs ls hl hU hS i313_0 i313_1 i313_2 i313_3 hm_313
                      exact absurd hm_313 (Nat.not_lt_zero _)
                    | succ n_313 ih_313 =>
                      intro l6_25 l7_26 H locs ls hl hU hS i313_0 i313_1 i313_2 i313_3 hm_313
                      refine lv_iload hx hb dX12_soonestOf_313 (lv_at hl 3 rfl) ?_
                      refine lv_aload_n hx hb dX12_soonestOf_315 rfl (lv_at hl 0 rfl) ?_
                      refine g_0_6 C hU hG (h1_0 hG) fl_X12_160 dX12_soonestOf_316 (fun x_27 e_28 le_28 ue_28 => ?_)
                      have te_28 := congrArg Int32.toInt e_28
                      have ne_28 : x_27.toInt = (iv 0 0 6).toInt := by rw [e_28, hF1 0 0 6 (by decide)]
                      refine b_icmp_ge (tgt := 399) hx hb dX12_soonestOf_319 (by decide) (fun c_29 => ?_) (fun c_29 => ?_)
                      ·
                        refine lv_iload hx hb dX12_soonestOf_399 (lv_at hl 2 rfl) ?_
                        exact hret (⟨hG, hF1, hF2, by unfold soF; rw [if_neg (by omega), i313_2, clamp_eq (show (l7_26 : Int32).toInt = (iv 0 0 6).toInt by omega)]; exact so_eq (by omega) (by omega)⟩) hU hS dX12_soonestOf_401
                      ·
                        refine lv_aload_n hx hb dX12_soonestOf_322 rfl (lv_at hl 0 rfl) ?_
                        refine g_0_23 C hU hG (h1_0 hG) fl_X12_68 dX12_soonestOf_323 ?_
                        refine lv_iload hx hb dX12_soonestOf_326 (lv_at hl 3 rfl) ?_
                        refine a_20 C hU hG (h1_20 hG) (x := l7_26) (by omega) (by omega) dX12_soonestOf_328 (fun x_30 e_31 le_31 ue_31 => ?_)
                        have te_31 := congrArg Int32.toInt e_31
                        have J_357 : ∀ (v_32 : Int32) (H : Heap) (locs : List Loc) (ls : Array Slot), lv_has ls 9 [(0, .ref (al.2 0 0)), (1, .int tt), (6, .int l6_25), (7, .int l7_26)] → UW D cA sz al iv_21 rv_22 H → va_S (Aq sz) s.heap H locs → (0 ≤ v_32.toInt ∧ v_32.toInt ≤ 1) → ((v_32.toInt = 1 ∧ (¬ (iv_21 20 0 l7_26.toNatClampNeg).toInt = 0 ∧ (iv 6 0 l7_26.toNatClampNeg).toInt = (iv 6 0 (thL iv tt.toNatClampNeg)).toInt)) ∨ (v_32.toInt = 0 ∧ ¬ (¬ (iv_21 20 0 l7_26.toNatClampNeg).toInt = 0 ∧ (iv 6 0 l7_26.toNatClampNeg).toInt = (iv 6 0 (thL iv tt.toNatClampNeg)).toInt))) → W p l e (rm 3) s m args below meth c H locs 0 0 Q (F0 m 357 ls [.int v_32]) := by
                          intro v_32 H locs ls hl hU hS i357_0 i357_1
                          refine lv_istore (lv' := [(8, .int v_32), (0, .ref (al.2 0 0)), (1, .int tt), (6, .int l6_25), (7, .int l7_26)]) hx hb dX12_soonestOf_357 hl (by decide) rfl (fun ls hl => ?_)
                          refine lv_iload hx hb dX12_soonestOf_359 (lv_at hl 0 rfl) ?_
                          have J_391 : ∀ (v_33 : Int32) (H : Heap) (locs : List Loc) (ls : Array Slot), lv_has ls 9 [(0, .ref (al.2 0 0)), (1, .int tt), (7, .int l7_26)] → UW D cA sz al iv_21 rv_22 H → va_S (Aq sz) s.heap H locs → (-9 ≤ v_33.toInt ∧ v_33.toInt ≤ 2147483647) → v_33 = sbN iv (Rch iv gA gT) (iv 6 0 (thL iv tt.toNatClampNeg)).toInt (l7_26.toNatClampNeg + 1) → W p l e (rm 3) s m args below meth c H locs 0 0 Q (F0 m 391 ls [.int v_33]) := by
                            intro v_33 H locs ls hl hU hS i391_0 i391_1
                            refine lv_istore (lv' := [(6, .int v_33), (0, .ref (al.2 0 0)), (1, .int tt), (7, .int l7_26)]) hx hb dX12_soonestOf_391 hl (by decide) rfl (fun ls hl => ?_)
                            obtain ⟨x_34, e_35⟩ : ∃ y : Int32, y = l7_26 + 1 := ⟨_, rfl⟩
                            have te_35 : x_34.toInt = (l7_26 : Int32).toInt + (1 : Int32).toInt := by rw [e_35]; exact fb_addI (by omega) (by omega)
                            refine lv_iinc (v := x_34) (lv' := [(7, .int x_34), (6, .int v_33), (0, .ref (al.2 0 0)), (1, .int tt)]) hx hb dX12_soonestOf_393 hl (k := 3) rfl (by rw [e_35]; rfl) (by decide) rfl (fun ls hl => ?_)
                            refine lv_goto (tgt := 313) hx hb dX12_soonestOf_396 (by decide) ?_
                            exact ih_313 v_33 x_34 _ _ _ (lv_sub hl [2, 3, 1, 0] rfl) hU hS (by omega) (by omega) (by first | exact sb_up (by omega) (by omega) i391_1 | exact sb_0) (by omega) (by omega)
                          have J_389 : ∀ (H : Heap) (locs : List Loc) (ls : Array Slot), lv_has ls 9 [(0, .ref (al.2 0 0)), (1, .int tt), (6, .int l6_25), (7, .int l7_26)] → UW D cA sz al iv_21 rv_22 H → va_S (Aq sz) s.heap H locs → (¬ ((¬ (iv_21 20 0 l7_26.toNatClampNeg).toInt = 0 ∧ (iv 6 0 l7_26.toNatClampNeg).toInt = (iv 6 0 (thL iv tt.toNatClampNeg)).toInt) ∧ (l6_25.toInt < 0 ∨ (raF iv l7_26.toNatClampNeg).toInt < l6_25.toInt))) → W p l e (rm 3) s m args below meth c H locs 0 0 Q (F0 m 389 ls []) := by
                            intro H locs ls hl hU hS i389_0
                            refine lv_iload hx hb dX12_soonestOf_389 (lv_at hl 2 rfl) ?_
                            exact J_391 l6_25 _ _ _ (lv_sub hl [0, 1, 3] rfl) hU hS (by omega) (by first | exact sb_y i313_2 h383 hrc (by omega) (by omega) (by omega) (by omega) (by omega) | exact sb_n i313_2 hrc (by omega) (by omega) (by omega))
                          refine b_if_eq (tgt := 389) hx hb dX12_soonestOf_361 (by decide) (fun c_36 => ?_) (fun c_36 => ?_)
                          ·
                            exact J_389 _ _ _ (lv_sub hl [1, 2, 3, 4] rfl) hU hS (by omega)
                          ·
                            refine lv_iload hx hb dX12_soonestOf_364 (lv_at hl 3 rfl) ?_
                            have J_380 : ∀ (H : Heap) (locs : List Loc) (ls : Array Slot), lv_has ls 9 [(0, .ref (al.2 0 0)), (1, .int tt), (7, .int l7_26)] → UW D cA sz al iv_21 rv_22 H → va_S (Aq sz) s.heap H locs → (l6_25.toInt < 0 ∨ (raF iv l7_26.toNatClampNeg).toInt < l6_25.toInt) → W p l e (rm 3) s m args below meth c H locs 0 0 Q (F0 m 380 ls []) := by
                              intro H locs ls hl hU hS i380_0
                              refine lv_aload_n hx hb dX12_soonestOf_380 rfl (lv_at hl 0 rfl) ?_
                              refine lv_iload hx hb dX12_soonestOf_381 (lv_at hl 2 rfl) ?_
                              refine q_pi (q_runV (t := 0) (i := 0) (As := [.int l7_26]) (rest := []) C hU (c_X12_rightArrive hG l7_26 (by omega)) vm_X12_rightArrive ml_X12_190 k_0.1 (hc := rfl) rfl (h1_0 hG) hl.1 rfl rfl (Nat.le_of_ble_eq_true rfl) dX12_soonestOf_383 rfl rfl ⟨Nat.le_of_ble_eq_true rfl, Nat.le_of_ble_eq_true rfl⟩ ⟨Nat.le_refl _, Nat.le_refl _⟩) hS (fun x_38 H locs hp_37 hU hS => ?_)
                              have q_39 := hp_37.2
                              have tq_39 := congrArg Int32.toInt q_39
                              have h383 := q_39.trans (ra_20 (fr20 hF1) _)
                              have t383 := congrArg Int32.toInt h383
                              refine lv_goto (tgt := 391) hx hb dX12_soonestOf_386 (by decide) ?_
                              exact J_391 x_38 _ _ _ (lv_sub hl [0, 1, 2] rfl) hU hS (by omega) (by first | exact sb_y i313_2 h383 hrc (by omega) (by omega) (by omega) (by omega) (by omega) | exact sb_n i313_2 hrc (by omega) (by omega) (by omega))
                            refine b_if_lt (tgt := 380) hx hb dX12_soonestOf_366 (by decide) (fun c_40 => ?_) (fun c_40 => ?_)
                            ·
                              exact J_380 _ _ _ (lv_sub hl [1, 2, 4] rfl) hU hS (by omega)
                            ·
                              refine lv_aload_n hx hb dX12_soonestOf_369 rfl (lv_at hl 1 rfl) ?_
                              refine lv_iload hx hb dX12_soonestOf_370 (lv_at hl 4 rfl) ?_
                              refine q_pi (q_runV (t := 0) (i := 0) (As := [.int l7_26]) (rest := []) C hU (c_X12_rightArrive hG l7_26 (by omega)) vm_X12_rightArrive ml_X12_190 k_0.1 (hc := rfl) rfl (h1_0 hG) hl.1 rfl rfl (Nat.le_of_ble_eq_true rfl) dX12_soonestOf_372 rfl rfl ⟨Nat.le_of_ble_eq_true rfl, Nat.le_of_ble_eq_true rfl⟩ ⟨Nat.le_refl _, Nat.le_refl _⟩) hS (fun x_42 H locs hp_41 hU hS => ?_)
                              have q_43 := hp_41.2
                              have tq_43 := congrArg Int32.toInt q_43
                              have h372 := q_43.trans (ra_20 (fr20 hF1) _)
                              have t372 := congrArg Int32.toInt h372
                              refine lv_iload hx hb dX12_soonestOf_375 (lv_at hl 3 rfl) ?_
                              refine b_icmp_ge (tgt := 389) hx hb dX12_soonestOf_377 (by decide) (fun c_44 => ?_) (fun c_44 => ?_)
                              ·
                                exact J_389 _ _ _ (lv_sub hl [1, 2, 3, 4] rfl) hU hS (by omega)
                              ·
                                exact J_380 _ _ _ (lv_sub hl [1, 2, 4] rfl) hU hS (by omega)
                        have J_356 : ∀ (H : Heap) (locs : List Loc) (ls : Array Slot), lv_has ls 9 [(0, .ref (al.2 0 0)), (1, .int tt), (6, .int l6_25), (7, .int l7_26)] → UW D cA sz al iv_21 rv_22 H → va_S (Aq sz) s.heap H locs → (¬ (¬ (iv_21 20 0 l7_26.toNatClampNeg).toInt = 0 ∧ (iv 6 0 l7_26.toNatClampNeg).toInt = (iv 6 0 (thL iv tt.toNatClampNeg)).toInt)) → W p l e (rm 3) s m args below meth c H locs 0 0 Q (F0 m 356 ls []) := by
                          intro H locs ls hl hU hS i356_0
                          refine lv_iconst (v := 0) hx hb dX12_soonestOf_356 (by decide) ?_
                          exact J_357 0 _ _ _ (lv_sub hl [0, 1, 2, 3] rfl) hU hS (by omega) (by omega)
                        refine b_if_eq (tgt := 356) hx hb dX12_soonestOf_329 (by decide) (fun c_45 => ?_) (fun c_45 => ?_)
                        ·
                          exact J_356 _ _ _ (lv_sub hl [0, 1, 2, 3] rfl) hU hS (by omega)
                        ·
                          refine lv_aload_n hx hb dX12_soonestOf_332 rfl (lv_at hl 0 rfl) ?_
                          refine g_0_8 C hU hG (h1_0 hG) fl_X12_25 dX12_soonestOf_333 ?_
                          refine lv_iload hx hb dX12_soonestOf_336 (lv_at hl 3 rfl) ?_
                          refine a_6 C hU hG (h1_6 hG) (x := l7_26) (by omega) (by omega) dX12_soonestOf_338 (fun x_46 e_47 le_47 ue_47 => ?_)
                          have te_47 := congrArg Int32.toInt e_47
                          have ne_47 : x_46.toInt = (iv 6 0 (l7_26 : Int32).toNatClampNeg).toInt := by rw [e_47, hF1.arr 6 0 (l7_26 : Int32).toNatClampNeg (by decide)]
                          refine lv_aload_n hx hb dX12_soonestOf_339 rfl (lv_at hl 0 rfl) ?_
                          refine g_0_8 C hU hG (h1_0 hG) fl_X12_25 dX12_soonestOf_340 ?_
                          refine lv_aload_n hx hb dX12_soonestOf_343 rfl (lv_at hl 0 rfl) ?_
                          refine lv_iload_n hx hb dX12_soonestOf_344 rfl (lv_at hl 1 rfl) ?_
                          refine q_pi (q_runV (t := 0) (i := 0) (As := [.int tt]) (rest := [.ref (al.2 6 0), .int x_46]) C hU (c_X12_lastLeg_x hG tt (by omega)) vm_X12_lastLeg ml_X12_232 k_0.1 (hc := rfl) rfl (h1_0 hG) hl.1 rfl rfl (Nat.le_of_ble_eq_true rfl) dX12_soonestOf_345 rfl rfl ⟨Nat.le_of_ble_eq_true rfl, Nat.le_of_ble_eq_true rfl⟩ ⟨Nat.le_refl _, Nat.le_refl _⟩) hS (fun x_49 H locs hp_48 hU hS => ?_)
                          refine a_6 C hU hG (h1_6 hG) (x := x_49) (by omega) (by omega) dX12_soonestOf_348 (fun x_50 e_51 le_51 ue_51 => ?_)
                          have te_51 := congrArg Int32.toInt e_51
                          have ne_51 : x_50.toInt = (iv 6 0 (x_49 : Int32).toNatClampNeg).toInt := by rw [e_51, hF1.arr 6 0 (x_49 : Int32).toNatClampNeg (by decide)]
                          have h348 := e_51
                          rw [hp_48.2, thL_20 (fr20 hF1), fr20 hF1 6 0 _ (by decide)] at h348
                          have t348 := congrArg Int32.toInt h348
                          refine b_icmp_ne (tgt := 356) hx hb dX12_soonestOf_349 (by decide) (fun c_52 => ?_) (fun c_52 => ?_)
                          ·
                            exact J_356 _ _ _ (lv_sub hl [0, 1, 2, 3] rfl) hU hS (by omega)
                          ·
                            refine lv_iconst (v := 1) hx hb dX12_soonestOf_352 (by decide) ?_
                            refine lv_goto (tgt := 357) hx hb dX12_soonestOf_353 (by decide) ?_
                            exact J_357 1 _ _ _ (lv_sub hl [0, 1, 2, 3] rfl) hU hS (by omega) (by omega)
                  exact J_313 _ (-9) 0 _ _ _ (lv_sub hl [2, 3, 1, 0] rfl) hU hS (by omega) (by omega) (by first | exact sb_up (by omega) (by omega) i391_1 | exact sb_0) (by omega) (Nat.lt_succ_self _)
                ·
                  refine lv_iconst (v := 0) hx hb dX12_soonestOf_144 (by decide) ?_
                  refine lv_istore (lv' := [(5, .int 0), (0, .ref (al.2 0 0)), (1, .int tt)]) hx hb dX12_soonestOf_145 hl (by decide) rfl (fun ls hl => ?_)
                  refine lv_iconst (v := 0) hx hb dX12_soonestOf_147 (by decide) ?_
                  refine lv_istore (lv' := [(6, .int 0), (5, .int 0), (0, .ref (al.2 0 0)), (1, .int tt)]) hx hb dX12_soonestOf_148 hl (by decide) rfl (fun ls hl => ?_)
                  have J_150 : ∀ (n_150 : Nat) (l5_53 : Int32) (l6_54 : Int32) (iv_55 : Iv) (rv_56 : Rv) (H : Heap) (locs : List Loc) (ls : Array Slot), lv_has ls 9 [(0, .ref (al.2 0 0)), (1, .int tt), (5, .int l5_53), (6, .int l6_54)] → GI al iv_55 rv_56 → FR ([20], []) iv iv_55 → FR ([20], []) rv rv_56 → UW D cA sz al iv_55 rv_56 H → va_S (Aq sz) s.heap H locs → (0 ≤ l5_53.toInt ∧ l5_53.toInt ≤ 1) → (0 ≤ l6_54.toInt ∧ l6_54.toInt ≤ 40) → ctU iv_55 40 ≤ ctU iv_21 40 → l5_53.toInt = 0 ∨ ctU iv_55 40 < ctU iv_21 40 → soJ iv iv_55 gA gT l5_53 l6_54.toNatClampNeg 0 → (40 - l6_54.toInt).toNat < n_150 → W p l e (rm 3) s m args below meth c H locs 0 0 Q (F0 m 150 ls []) := by
                    intro n_150
                    induction n_150 with
                    | zero =>
                      intro l5_53 l6_54 iv_55 rv_56 H locs ls hl hG hF1 hF2 hU hS i150_0 i150_1 i150_2 i150_3 i150_4 hm_150
                      exact absurd hm_150 (Nat.not_lt_zero _)
                    | succ n_150 ih_150 =>
                      intro l5_53 l6_54 iv_55 rv_56 H locs ls hl hG hF1 hF2 hU hS i150_0 i150_1 i150_2 i150_3 i150_4 hm_150
                      have kf_57 := congrArg Int32.toInt (hF1 0 0 20 (by decide))
                      refine lv_iload hx hb dX12_soonestOf_150 (lv_at hl 3 rfl) ?_
                      refine lv_aload_n hx hb dX12_soonestOf_152 rfl (lv_at hl 0 rfl) ?_
                      refine g_0_6 C hU hG (h1_0 hG) fl_X12_160 dX12_soonestOf_153 (fun x_58 e_59 le_59 ue_59 => ?_)
                      have te_59 := congrArg Int32.toInt e_59
                      have ne_59 : x_58.toInt = (iv 0 0 6).toInt := by rw [e_59, hF1 0 0 6 (by decide)]
                      refine b_icmp_ge (tgt := 303) hx hb dX12_soonestOf_156 (by decide) (fun c_60 => ?_) (fun c_60 => ?_)
                      ·
                        refine lv_goto (tgt := 139) hx hb dX12_soonestOf_303 (by decide) ?_
                        exact ih_139 l5_53 _ _ _ _ _ (lv_sub hl [0, 1, 2] rfl) hG hF1 hF2 hU hS (by omega) (by first | exact so_x150 i150_4 (by omega) (by omega) | exact so_0 i77_1 (by omega)) (by omega)
                      ·
                        refine lv_iconst (v := 0) hx hb dX12_soonestOf_159 (by decide) ?_
                        refine lv_istore (lv' := [(7, .int 0), (0, .ref (al.2 0 0)), (1, .int tt), (5, .int l5_53), (6, .int l6_54)]) hx hb dX12_soonestOf_160 hl (by decide) rfl (fun ls hl => ?_)
                        have J_162 : ∀ (n_162 : Nat) (l5_61 : Int32) (l7_62 : Int32) (iv_63 : Iv) (rv_64 : Rv) (H : Heap) (locs : List Loc) (ls : Array Slot), lv_has ls 9 [(0, .ref (al.2 0 0)), (1, .int tt), (6, .int l6_54), (5, .int l5_61), (7, .int l7_62)] → GI al iv_63 rv_64 → FR ([20], []) iv iv_63 → FR ([20], []) rv rv_64 → UW D cA sz al iv_63 rv_64 H → va_S (Aq sz) s.heap H locs → (0 ≤ l5_61.toInt ∧ l5_61.toInt ≤ 1) → (0 ≤ l7_62.toInt ∧ l7_62.toInt ≤ 40) → ctU iv_63 40 ≤ ctU iv_21 40 → l5_61.toInt = 0 ∨ ctU iv_63 40 < ctU iv_21 40 → soJ iv iv_63 gA gT l5_61 l6_54.toNatClampNeg l7_62.toNatClampNeg → (40 - l7_62.toInt).toNat < n_162 → W p l e (rm 3) s m args below meth c H locs 0 0 Q (F0 m 162 ls []) := by
                          intro n_162
                          induction n_162 with
                          | zero =>
                            intro l5_61 l7_62 iv_63 rv_64 H locs ls hl hG hF1 hF2 hU hS i162_0 i162_1 i162_2 i162_3 i162_4 hm_162
                            exact absurd hm_162 (Nat.not_lt_zero _)
                          | succ n_162 ih_162 =>
                            intro l5_61 l7_62 iv_63 rv_64 H locs ls hl hG hF1 hF2 hU hS i162_0 i162_1 i162_2 i162_3 i162_4 hm_162
                            have kf_65 := congrArg Int32.toInt (hF1 0 0 20 (by decide))
                            refine lv_iload hx hb dX12_soonestOf_162 (lv_at hl 4 rfl) ?_
                            refine lv_aload_n hx hb dX12_soonestOf_164 rfl (lv_at hl 0 rfl) ?_
                            refine g_0_6 C hU hG (h1_0 hG) fl_X12_160 dX12_soonestOf_165 (fun x_66 e_67 le_67 ue_67 => ?_)
                            have te_67 := congrArg Int32.toInt e_67
                            have ne_67 : x_66.toInt = (iv 0 0 6).toInt := by rw [e_67, hF1 0 0 6 (by decide)]
                            refine b_icmp_ge (tgt := 297) hx hb dX12_soonestOf_168 (by decide) (fun c_68 => ?_) (fun c_68 => ?_)
                            ·
                              obtain ⟨x_69, e_70⟩ : ∃ y : Int32, y = l6_54 + 1 := ⟨_, rfl⟩
                              have te_70 : x_69.toInt = (l6_54 : Int32).toInt + (1 : Int32).toInt := by rw [e_70]; exact fb_addI (by omega) (by omega)
                              refine lv_iinc (v := x_69) (lv' := [(6, .int x_69), (0, .ref (al.2 0 0)), (1, .int tt), (5, .int l5_61), (7, .int l7_62)]) hx hb dX12_soonestOf_297 hl (k := 2) rfl (by rw [e_70]; rfl) (by decide) rfl (fun ls hl => ?_)
                              refine lv_goto (tgt := 150) hx hb dX12_soonestOf_300 (by decide) ?_
                              exact ih_150 l5_61 x_69 _ _ _ _ _ (lv_sub hl [1, 2, 3, 0] rfl) hG hF1 hF2 hU hS (by omega) (by omega) (by omega) (by omega) (by first | exact so_x162 i162_4 (by omega) (by omega) (by omega) | exact so_st i139_1) (by omega)
                            ·
                              refine lv_aload_n hx hb dX12_soonestOf_171 rfl (lv_at hl 0 rfl) ?_
                              refine g_0_23 C hU hG (h1_0 hG) fl_X12_68 dX12_soonestOf_172 ?_
                              refine lv_iload hx hb dX12_soonestOf_175 (lv_at hl 2 rfl) ?_
                              refine a_20 C hU hG (h1_20 hG) (x := l6_54) (by omega) (by omega) dX12_soonestOf_177 (fun x_71 e_72 le_72 ue_72 => ?_)
                              have te_72 := congrArg Int32.toInt e_72
                              have J_245 : ∀ (v_73 : Int32) (H : Heap) (locs : List Loc) (ls : Array Slot), lv_has ls 9 [(0, .ref (al.2 0 0)), (1, .int tt), (5, .int l5_61), (6, .int l6_54), (7, .int l7_62)] → UW D cA sz al iv_63 rv_64 H → va_S (Aq sz) s.heap H locs → (0 ≤ v_73.toInt ∧ v_73.toInt ≤ 1) → (v_73.toInt = 0 ∨ (v_73.toInt = 1 ∧ (iv_63 20 0 l7_62.toNatClampNeg).toInt = 0)) → ((v_73.toInt = 1 ∧ (¬ (iv_63 20 0 l6_54.toNatClampNeg).toInt = 0 ∧ (iv_63 20 0 l7_62.toNatClampNeg).toInt = 0 ∧ (¬ (iv 11 0 l7_62.toNatClampNeg).toInt = 0 ∧ (iv 5 0 l7_62.toNatClampNeg).toInt = (iv 6 0 l6_54.toNatClampNeg).toInt ∧ (iv 15 0 2).toInt ≤ (rlF iv l7_62.toNatClampNeg - raF iv l6_54.toNatClampNeg).toInt))) ∨ (v_73.toInt = 0 ∧ ¬ (¬ (iv_63 20 0 l6_54.toNatClampNeg).toInt = 0 ∧ (iv_63 20 0 l7_62.toNatClampNeg).toInt = 0 ∧ (¬ (iv 11 0 l7_62.toNatClampNeg).toInt = 0 ∧ (iv 5 0 l7_62.toNatClampNeg).toInt = (iv 6 0 l6_54.toNatClampNeg).toInt ∧ (iv 15 0 2).toInt ≤ (rlF iv l7_62.toNatClampNeg - raF iv l6_54.toNatClampNeg).toInt)))) → W p l e (rm 3) s m args below meth c H locs 0 0 Q (F0 m 245 ls [.int v_73]) := by
                                intro v_73 H locs ls hl hU hS i245_0 i245_1 i245_2
                                refine lv_istore (lv' := [(8, .int v_73), (0, .ref (al.2 0 0)), (1, .int tt), (5, .int l5_61), (6, .int l6_54), (7, .int l7_62)]) hx hb dX12_soonestOf_245 hl (by decide) rfl (fun ls hl => ?_)
                                refine lv_aload_n hx hb dX12_soonestOf_247 rfl (lv_at hl 1 rfl) ?_
                                refine g_0_23 C hU hG (h1_0 hG) fl_X12_68 dX12_soonestOf_248 ?_
                                refine lv_iload hx hb dX12_soonestOf_251 (lv_at hl 5 rfl) ?_
                                refine lv_aload_n hx hb dX12_soonestOf_253 rfl (lv_at hl 1 rfl) ?_
                                refine g_0_23 C hU hG (h1_0 hG) fl_X12_68 dX12_soonestOf_254 ?_
                                refine lv_iload hx hb dX12_soonestOf_257 (lv_at hl 5 rfl) ?_
                                refine a_20 C hU hG (h1_20 hG) (x := l7_62) (by omega) (by omega) dX12_soonestOf_259 (fun x_74 e_75 le_75 ue_75 => ?_)
                                have te_75 := congrArg Int32.toInt e_75
                                have J_273 : ∀ (v_76 : Int32) (ls : Array Slot), lv_has ls 9 [(0, .ref (al.2 0 0)), (1, .int tt), (5, .int l5_61), (6, .int l6_54), (7, .int l7_62), (8, .int v_73)] → (0 ≤ v_76.toInt ∧ v_76.toInt ≤ 1) → ((v_76.toInt = 1 ∧ ((¬ (iv_63 20 0 l7_62.toNatClampNeg).toInt = 0) ∨ (¬ v_73.toInt = 0))) ∨ (v_76.toInt = 0 ∧ (iv_63 20 0 l7_62.toNatClampNeg).toInt = 0 ∧ v_73.toInt = 0)) → W p l e (rm 3) s m args below meth c H locs 0 0 Q (F0 m 273 ls [.int v_76, .int l7_62, .ref (al.2 20 0)]) := by
                                  intro v_76 ls hl i273_0 i273_1
                                  have hb273 := hF1
                                  refine s_20 C hU hS (h1_20 hG) (x := l7_62) (by omega) (by omega) (by omega) (by omega) dX12_soonestOf_273 (fun iv_77 H locs ei_78 hU hS => ?_)
                                  have hG : GI al iv_77 rv_64 := by rw [ei_78]; exact hG.puti (show _ ∧ _ from ⟨show (0 : Int) ≤ _ by omega, show _ ≤ (1 : Int) by omega⟩) (nsA (by decide) _)
                                  have hF1 : FR ([20], []) iv iv_77 := by rw [ei_78]; exact hF1.put (Or.inl (by decide))
                                  have kf_79 := congrArg Int32.toInt (show iv_77 0 0 20 = iv_63 0 0 20 by rw [ei_78]; exact up3_ne (fun z => absurd z.1 (by decide)))
                                  have hct := ct_le ei_78 (by omega) (by omega) (by omega)
                                  refine lv_iload hx hb dX12_soonestOf_274 (lv_at hl 2 rfl) ?_
                                  have J_289 : ∀ (v_80 : Int32) (ls : Array Slot), lv_has ls 9 [(0, .ref (al.2 0 0)), (1, .int tt), (6, .int l6_54), (7, .int l7_62)] → (0 ≤ v_80.toInt ∧ v_80.toInt ≤ 1) → ((v_80.toInt = 1 ∧ ((¬ l5_61.toInt = 0) ∨ (¬ v_73.toInt = 0))) ∨ (v_80.toInt = 0 ∧ l5_61.toInt = 0 ∧ v_73.toInt = 0)) → W p l e (rm 3) s m args below meth c H locs 0 0 Q (F0 m 289 ls [.int v_80]) := by
                                    intro v_80 ls hl i289_0 i289_1
                                    refine lv_istore (lv' := [(5, .int v_80), (0, .ref (al.2 0 0)), (1, .int tt), (6, .int l6_54), (7, .int l7_62)]) hx hb dX12_soonestOf_289 hl (by decide) rfl (fun ls hl => ?_)
                                    obtain ⟨x_81, e_82⟩ : ∃ y : Int32, y = l7_62 + 1 := ⟨_, rfl⟩
                                    have te_82 : x_81.toInt = (l7_62 : Int32).toInt + (1 : Int32).toInt := by rw [e_82]; exact fb_addI (by omega) (by omega)
                                    refine lv_iinc (v := x_81) (lv' := [(7, .int x_81), (5, .int v_80), (0, .ref (al.2 0 0)), (1, .int tt), (6, .int l6_54)]) hx hb dX12_soonestOf_291 hl (k := 4) rfl (by rw [e_82]; rfl) (by decide) rfl (fun ls hl => ?_)
                                    refine lv_goto (tgt := 162) hx hb dX12_soonestOf_294 (by decide) ?_
                                    exact ih_162 v_80 x_81 _ _ _ _ _ (lv_sub hl [2, 3, 4, 1, 0] rfl) hG hF1 hF2 hU hS (by omega) (by omega) (by omega) (by omega) (by first | exact so_step i162_4 (by omega) (by omega) (by omega) (by omega) (by omega) i245_2 i273_1 ei_78 i289_1 | exact so_b0 i150_4) (by omega)
                                  have J_284 : ∀ (ls : Array Slot), lv_has ls 9 [(0, .ref (al.2 0 0)), (1, .int tt), (6, .int l6_54), (7, .int l7_62)] → (¬ l5_61.toInt = 0) ∨ (¬ v_73.toInt = 0) → W p l e (rm 3) s m args below meth c H locs 0 0 Q (F0 m 284 ls []) := by
                                    intro ls hl i284_0
                                    refine lv_iconst (v := 1) hx hb dX12_soonestOf_284 (by decide) ?_
                                    refine lv_goto (tgt := 289) hx hb dX12_soonestOf_285 (by decide) ?_
                                    exact J_289 1 _ (lv_sub hl [0, 1, 2, 3] rfl) (by omega) (by omega)
                                  refine b_if_ne (tgt := 284) hx hb dX12_soonestOf_276 (by decide) (fun c_83 => ?_) (fun c_83 => ?_)
                                  ·
                                    exact J_284 _ (lv_sub hl [0, 1, 3, 4] rfl) (by omega)
                                  ·
                                    refine lv_iload hx hb dX12_soonestOf_279 (lv_at hl 5 rfl) ?_
                                    refine b_if_eq (tgt := 288) hx hb dX12_soonestOf_281 (by decide) (fun c_84 => ?_) (fun c_84 => ?_)
                                    ·
                                      refine lv_iconst (v := 0) hx hb dX12_soonestOf_288 (by decide) ?_
                                      exact J_289 0 _ (lv_sub hl [0, 1, 3, 4] rfl) (by omega) (by omega)
                                    ·
                                      exact J_284 _ (lv_sub hl [0, 1, 3, 4] rfl) (by omega)
                                have J_268 : ∀ (ls : Array Slot), lv_has ls 9 [(0, .ref (al.2 0 0)), (1, .int tt), (5, .int l5_61), (6, .int l6_54), (7, .int l7_62), (8, .int v_73)] → (¬ (iv_63 20 0 l7_62.toNatClampNeg).toInt = 0) ∨ (¬ v_73.toInt = 0) → W p l e (rm 3) s m args below meth c H locs 0 0 Q (F0 m 268 ls [.int l7_62, .ref (al.2 20 0)]) := by
                                  intro ls hl i268_0
                                  refine lv_iconst (v := 1) hx hb dX12_soonestOf_268 (by decide) ?_
                                  refine lv_goto (tgt := 273) hx hb dX12_soonestOf_269 (by decide) ?_
                                  exact J_273 1 _ (lv_sub hl [0, 1, 2, 3, 4, 5] rfl) (by omega) (by omega)
                                refine b_if_ne (tgt := 268) hx hb dX12_soonestOf_260 (by decide) (fun c_85 => ?_) (fun c_85 => ?_)
                                ·
                                  exact J_268 _ (lv_sub hl [1, 2, 3, 4, 5, 0] rfl) (by omega)
                                ·
                                  refine lv_iload hx hb dX12_soonestOf_263 (lv_at hl 0 rfl) ?_
                                  refine b_if_eq (tgt := 272) hx hb dX12_soonestOf_265 (by decide) (fun c_86 => ?_) (fun c_86 => ?_)
                                  ·
                                    refine lv_iconst (v := 0) hx hb dX12_soonestOf_272 (by decide) ?_
                                    exact J_273 0 _ (lv_sub hl [1, 2, 3, 4, 5, 0] rfl) (by omega) (by omega)
                                  ·
                                    exact J_268 _ (lv_sub hl [1, 2, 3, 4, 5, 0] rfl) (by omega)
                              have J_244 : ∀ (H : Heap) (locs : List Loc) (ls : Array Slot), lv_has ls 9 [(0, .ref (al.2 0 0)), (1, .int tt), (5, .int l5_61), (6, .int l6_54), (7, .int l7_62)] → UW D cA sz al iv_63 rv_64 H → va_S (Aq sz) s.heap H locs → (¬ (¬ (iv_63 20 0 l6_54.toNatClampNeg).toInt = 0 ∧ (iv_63 20 0 l7_62.toNatClampNeg).toInt = 0 ∧ (¬ (iv 11 0 l7_62.toNatClampNeg).toInt = 0 ∧ (iv 5 0 l7_62.toNatClampNeg).toInt = (iv 6 0 l6_54.toNatClampNeg).toInt ∧ (iv 15 0 2).toInt ≤ (rlF iv l7_62.toNatClampNeg - raF iv l6_54.toNatClampNeg).toInt))) → W p l e (rm 3) s m args below meth c H locs 0 0 Q (F0 m 244 ls []) := by
                                intro H locs ls hl hU hS i244_0
                                refine lv_iconst (v := 0) hx hb dX12_soonestOf_244 (by decide) ?_
                                exact J_245 0 _ _ _ (lv_sub hl [0, 1, 2, 3, 4] rfl) hU hS (by omega) (by omega) (by omega)
                              refine b_if_eq (tgt := 244) hx hb dX12_soonestOf_178 (by decide) (fun c_87 => ?_) (fun c_87 => ?_)
                              ·
                                exact J_244 _ _ _ (lv_sub hl [0, 1, 3, 2, 4] rfl) hU hS (by omega)
                              ·
                                refine lv_aload_n hx hb dX12_soonestOf_181 rfl (lv_at hl 0 rfl) ?_
                                refine g_0_23 C hU hG (h1_0 hG) fl_X12_68 dX12_soonestOf_182 ?_
                                refine lv_iload hx hb dX12_soonestOf_185 (lv_at hl 4 rfl) ?_
                                refine a_20 C hU hG (h1_20 hG) (x := l7_62) (by omega) (by omega) dX12_soonestOf_187 (fun x_88 e_89 le_89 ue_89 => ?_)
                                have te_89 := congrArg Int32.toInt e_89
                                refine b_if_ne (tgt := 244) hx hb dX12_soonestOf_188 (by decide) (fun c_90 => ?_) (fun c_90 => ?_)
                                ·
                                  exact J_244 _ _ _ (lv_sub hl [0, 1, 3, 2, 4] rfl) hU hS (by omega)
                                ·
                                  refine lv_aload_n hx hb dX12_soonestOf_191 rfl (lv_at hl 0 rfl) ?_
                                  refine g_0_13 C hU hG (h1_0 hG) fl_X12_40 dX12_soonestOf_192 ?_
                                  refine lv_iload hx hb dX12_soonestOf_195 (lv_at hl 4 rfl) ?_
                                  refine a_11 C hU hG (h1_11 hG) (x := l7_62) (by omega) (by omega) dX12_soonestOf_197 (fun x_91 e_92 le_92 ue_92 => ?_)
                                  have te_92 := congrArg Int32.toInt e_92
                                  have ne_92 : x_91.toInt = (iv 11 0 (l7_62 : Int32).toNatClampNeg).toInt := by rw [e_92, hF1.arr 11 0 (l7_62 : Int32).toNatClampNeg (by decide)]
                                  refine b_if_eq (tgt := 244) hx hb dX12_soonestOf_198 (by decide) (fun c_93 => ?_) (fun c_93 => ?_)
                                  ·
                                    exact J_244 _ _ _ (lv_sub hl [0, 1, 3, 2, 4] rfl) hU hS (by omega)
                                  ·
                                    refine lv_aload_n hx hb dX12_soonestOf_201 rfl (lv_at hl 0 rfl) ?_
                                    refine g_0_7 C hU hG (h1_0 hG) fl_X12_22 dX12_soonestOf_202 ?_
                                    refine lv_iload hx hb dX12_soonestOf_205 (lv_at hl 4 rfl) ?_
                                    refine a_5 C hU hG (h1_5 hG) (x := l7_62) (by omega) (by omega) dX12_soonestOf_207 (fun x_94 e_95 le_95 ue_95 => ?_)
                                    have te_95 := congrArg Int32.toInt e_95
                                    have ne_95 : x_94.toInt = (iv 5 0 (l7_62 : Int32).toNatClampNeg).toInt := by rw [e_95, hF1.arr 5 0 (l7_62 : Int32).toNatClampNeg (by decide)]
                                    refine lv_aload_n hx hb dX12_soonestOf_208 rfl (lv_at hl 0 rfl) ?_
                                    refine g_0_8 C hU hG (h1_0 hG) fl_X12_25 dX12_soonestOf_209 ?_
                                    refine lv_iload hx hb dX12_soonestOf_212 (lv_at hl 2 rfl) ?_
                                    refine a_6 C hU hG (h1_6 hG) (x := l6_54) (by omega) (by omega) dX12_soonestOf_214 (fun x_96 e_97 le_97 ue_97 => ?_)
                                    have te_97 := congrArg Int32.toInt e_97
                                    have ne_97 : x_96.toInt = (iv 6 0 (l6_54 : Int32).toNatClampNeg).toInt := by rw [e_97, hF1.arr 6 0 (l6_54 : Int32).toNatClampNeg (by decide)]
                                    refine b_icmp_ne (tgt := 244) hx hb dX12_soonestOf_215 (by decide) (fun c_98 => ?_) (fun c_98 => ?_)
                                    ·
                                      exact J_244 _ _ _ (lv_sub hl [0, 1, 3, 2, 4] rfl) hU hS (by omega)
                                    ·
                                      refine lv_aload_n hx hb dX12_soonestOf_218 rfl (lv_at hl 0 rfl) ?_
                                      refine lv_iload hx hb dX12_soonestOf_219 (lv_at hl 4 rfl) ?_
                                      refine q_pi (q_runV (t := 0) (i := 0) (As := [.int l7_62]) (rest := []) C hU (c_X12_rightLeave hG l7_62 (by omega)) vm_X12_rightLeave ml_X12_193 k_0.1 (hc := rfl) rfl (h1_0 hG) hl.1 rfl rfl (Nat.le_of_ble_eq_true rfl) dX12_soonestOf_221 rfl rfl ⟨Nat.le_of_ble_eq_true rfl, Nat.le_of_ble_eq_true rfl⟩ ⟨Nat.le_refl _, Nat.le_refl _⟩) hS (fun x_100 H locs hp_99 hU hS => ?_)
                                      have q_101 := hp_99.2
                                      have tq_101 := congrArg Int32.toInt q_101
                                      have h221 := q_101.trans (rl_20 (fr20 hF1) _)
                                      have t221 := congrArg Int32.toInt h221
                                      refine lv_aload_n hx hb dX12_soonestOf_224 rfl (lv_at hl 0 rfl) ?_
                                      refine lv_iload hx hb dX12_soonestOf_225 (lv_at hl 2 rfl) ?_
                                      refine q_pi (q_runV (t := 0) (i := 0) (As := [.int l6_54]) (rest := [.int x_100]) C hU (c_X12_rightArrive hG l6_54 (by omega)) vm_X12_rightArrive ml_X12_190 k_0.1 (hc := rfl) rfl (h1_0 hG) hl.1 rfl rfl (Nat.le_of_ble_eq_true rfl) dX12_soonestOf_227 rfl rfl ⟨Nat.le_of_ble_eq_true rfl, Nat.le_of_ble_eq_true rfl⟩ ⟨Nat.le_refl _, Nat.le_refl _⟩) hS (fun x_103 H locs hp_102 hU hS => ?_)
                                      have q_104 := hp_102.2
                                      have tq_104 := congrArg Int32.toInt q_104
                                      have h227 := q_104.trans (ra_20 (fr20 hF1) _)
                                      have t227 := congrArg Int32.toInt h227
                                      refine lv_isub hx hb dX12_soonestOf_230 ?_
                                      refine lv_topi (fun x_105 e_106 => ?_)
                                      have w_107 := fb_rng x_100
                                      have w_108 := fb_rng x_103
                                      have te_106 : x_105.toInt = (x_100 : Int32).toInt - (x_103 : Int32).toInt := by rw [e_106]; exact fb_subI (by omega) (by omega)
                                      have h230 := e_106
                                      rw [h221, h227] at h230
                                      have t230 := congrArg Int32.toInt h230
                                      refine lv_aload_n hx hb dX12_soonestOf_231 rfl (lv_at hl 0 rfl) ?_
                                      refine g_0_17 C hU hG (h1_0 hG) fl_X12_53 dX12_soonestOf_232 ?_
                                      refine lv_iconst (v := 2) hx hb dX12_soonestOf_235 (by decide) ?_
                                      refine a_15 C hU hG (h1_15 hG) (x := 2) (by omega) (by omega) dX12_soonestOf_236 (fun x_109 e_110 le_110 ue_110 => ?_)
                                      have te_110 := congrArg Int32.toInt e_110
                                      have ne_110 : x_109.toInt = (iv 15 0 (2 : Int32).toNatClampNeg).toInt := by rw [e_110, hF1.arr 15 0 (2 : Int32).toNatClampNeg (by decide)]
                                      have t236 : x_109.toInt = (iv 15 0 2).toInt := by rw [e_110, hF1.arr 15 0 _ (by decide)]; rfl
                                      refine b_icmp_lt (tgt := 244) hx hb dX12_soonestOf_237 (by decide) (fun c_111 => ?_) (fun c_111 => ?_)
                                      ·
                                        exact J_244 _ _ _ (lv_sub hl [0, 1, 3, 2, 4] rfl) hU hS (by omega)
                                      ·
                                        refine lv_iconst (v := 1) hx hb dX12_soonestOf_240 (by decide) ?_
                                        refine lv_goto (tgt := 245) hx hb dX12_soonestOf_241 (by decide) ?_
                                        exact J_245 1 _ _ _ (lv_sub hl [0, 1, 3, 2, 4] rfl) hU hS (by omega) (by omega) (by omega)
                        exact J_162 _ l5_53 0 _ _ _ _ _ (lv_sub hl [1, 2, 4, 3, 0] rfl) hG hF1 hF2 hU hS (by omega) (by omega) (by omega) (by omega) (by first | exact so_step i162_4 (by omega) (by omega) (by omega) (by omega) (by omega) i245_2 i273_1 True.intro i289_1 | exact so_b0 i150_4) (Nat.lt_succ_self _)
                  exact J_150 _ 0 0 _ _ _ _ _ (lv_sub hl [2, 3, 1, 0] rfl) hG hF1 hF2 hU hS (by omega) (by omega) (by omega) (by omega) (by first | exact so_x162 i162_4 (by omega) (by omega) (by omega) | exact so_st i139_1) (Nat.lt_succ_self _)
            exact J_139 _ 1 _ _ _ _ _ (lv_sub hl [1, 2, 0] rfl) hG hF1 hF2 hU hS (by omega) (by first | exact so_x150 i150_4 (by omega) (by omega) | exact so_0 i77_1 (by omega)) (Nat.lt_succ_self _)
          ·
            refine lv_aload_n hx hb dX12_soonestOf_86 rfl (lv_at hl 0 rfl) ?_
            refine g_0_23 C hU hG (h1_0 hG) fl_X12_68 dX12_soonestOf_87 ?_
            refine lv_iload hx hb dX12_soonestOf_90 (lv_at hl 4 rfl) ?_
            refine lv_aload_n hx hb dX12_soonestOf_92 rfl (lv_at hl 0 rfl) ?_
            refine g_0_13 C hU hG (h1_0 hG) fl_X12_40 dX12_soonestOf_93 ?_
            refine lv_iload hx hb dX12_soonestOf_96 (lv_at hl 4 rfl) ?_
            refine a_11 C hU hG (h1_11 hG) (x := l5_13) (by omega) (by omega) dX12_soonestOf_98 (fun x_112 e_113 le_113 ue_113 => ?_)
            have te_113 := congrArg Int32.toInt e_113
            have ne_113 : x_112.toInt = (iv 11 0 (l5_13 : Int32).toNatClampNeg).toInt := by rw [e_113, hF1.arr 11 0 (l5_13 : Int32).toNatClampNeg (by decide)]
            have J_129 : ∀ (v_114 : Int32) (H : Heap) (locs : List Loc) (ls : Array Slot), lv_has ls 9 [(0, .ref (al.2 0 0)), (1, .int tt), (3, .int x_10), (4, .int v_12), (5, .int l5_13)] → UW D cA sz al iv_14 rv_15 H → va_S (Aq sz) s.heap H locs → (0 ≤ v_114.toInt ∧ v_114.toInt ≤ 1) → ((v_114.toInt = 1 ∧ (¬ (iv 11 0 l5_13.toNatClampNeg).toInt = 0 ∧ (iv 5 0 l5_13.toNatClampNeg).toInt = gA ∧ gT ≤ (rlF iv l5_13.toNatClampNeg).toInt)) ∨ (v_114.toInt = 0 ∧ ¬ (¬ (iv 11 0 l5_13.toNatClampNeg).toInt = 0 ∧ (iv 5 0 l5_13.toNatClampNeg).toInt = gA ∧ gT ≤ (rlF iv l5_13.toNatClampNeg).toInt))) → W p l e (rm 3) s m args below meth c H locs 0 0 Q (F0 m 129 ls [.int v_114, .int l5_13, .ref (al.2 20 0)]) := by
              intro v_114 H locs ls hl hU hS i129_0 i129_1
              have hb129 := hF1
              refine s_20 C hU hS (h1_20 hG) (x := l5_13) (by omega) (by omega) (by omega) (by omega) dX12_soonestOf_129 (fun iv_115 H locs ei_116 hU hS => ?_)
              have hG : GI al iv_115 rv_15 := by rw [ei_116]; exact hG.puti (show _ ∧ _ from ⟨show (0 : Int) ≤ _ by omega, show _ ≤ (1 : Int) by omega⟩) (nsA (by decide) _)
              have hF1 : FR ([20], []) iv iv_115 := by rw [ei_116]; exact hF1.put (Or.inl (by decide))
              have kf_117 := congrArg Int32.toInt (show iv_115 0 0 20 = iv_14 0 0 20 by rw [ei_116]; exact up3_ne (fun z => absurd z.1 (by decide)))
              obtain ⟨x_118, e_119⟩ : ∃ y : Int32, y = l5_13 + 1 := ⟨_, rfl⟩
              have te_119 : x_118.toInt = (l5_13 : Int32).toInt + (1 : Int32).toInt := by rw [e_119]; exact fb_addI (by omega) (by omega)
              refine lv_iinc (v := x_118) (lv' := [(5, .int x_118), (0, .ref (al.2 0 0)), (1, .int tt), (3, .int x_10), (4, .int v_12)]) hx hb dX12_soonestOf_130 hl (k := 4) rfl (by rw [e_119]; rfl) (by decide) rfl (fun ls hl => ?_)
              refine lv_goto (tgt := 77) hx hb dX12_soonestOf_133 (by decide) ?_
              exact ih_77 x_118 _ _ _ _ _ (lv_sub hl [1, 2, 3, 4, 0] rfl) hG hF1 hF2 hU hS (by omega) (by first | exact so_i77 i77_1 ei_116 (by omega) (by omega) i129_1 | (intro k hk; exfalso; omega)) (by omega)
            have J_128 : ∀ (H : Heap) (locs : List Loc) (ls : Array Slot), lv_has ls 9 [(0, .ref (al.2 0 0)), (1, .int tt), (3, .int x_10), (4, .int v_12), (5, .int l5_13)] → UW D cA sz al iv_14 rv_15 H → va_S (Aq sz) s.heap H locs → (¬ (¬ (iv 11 0 l5_13.toNatClampNeg).toInt = 0 ∧ (iv 5 0 l5_13.toNatClampNeg).toInt = gA ∧ gT ≤ (rlF iv l5_13.toNatClampNeg).toInt)) → W p l e (rm 3) s m args below meth c H locs 0 0 Q (F0 m 128 ls [.int l5_13, .ref (al.2 20 0)]) := by
              intro H locs ls hl hU hS i128_0
              refine lv_iconst (v := 0) hx hb dX12_soonestOf_128 (by decide) ?_
              exact J_129 0 _ _ _ (lv_sub hl [0, 1, 2, 3, 4] rfl) hU hS (by omega) (by omega)
            refine b_if_eq (tgt := 128) hx hb dX12_soonestOf_99 (by decide) (fun c_120 => ?_) (fun c_120 => ?_)
            ·
              exact J_128 _ _ _ (lv_sub hl [0, 1, 2, 3, 4] rfl) hU hS (by omega)
            ·
              refine lv_aload_n hx hb dX12_soonestOf_102 rfl (lv_at hl 0 rfl) ?_
              refine g_0_7 C hU hG (h1_0 hG) fl_X12_22 dX12_soonestOf_103 ?_
              refine lv_iload hx hb dX12_soonestOf_106 (lv_at hl 4 rfl) ?_
              refine a_5 C hU hG (h1_5 hG) (x := l5_13) (by omega) (by omega) dX12_soonestOf_108 (fun x_121 e_122 le_122 ue_122 => ?_)
              have te_122 := congrArg Int32.toInt e_122
              have ne_122 : x_121.toInt = (iv 5 0 (l5_13 : Int32).toNatClampNeg).toInt := by rw [e_122, hF1.arr 5 0 (l5_13 : Int32).toNatClampNeg (by decide)]
              refine lv_iload_n hx hb dX12_soonestOf_109 rfl (lv_at hl 2 rfl) ?_
              refine b_icmp_ne (tgt := 128) hx hb dX12_soonestOf_110 (by decide) (fun c_123 => ?_) (fun c_123 => ?_)
              ·
                exact J_128 _ _ _ (lv_sub hl [0, 1, 2, 3, 4] rfl) hU hS (by omega)
              ·
                refine lv_aload_n hx hb dX12_soonestOf_113 rfl (lv_at hl 0 rfl) ?_
                refine lv_iload hx hb dX12_soonestOf_114 (lv_at hl 4 rfl) ?_
                refine q_pi (q_runV (t := 0) (i := 0) (As := [.int l5_13]) (rest := [.int l5_13, .ref (al.2 20 0)]) C hU (c_X12_rightLeave hG l5_13 (by omega)) vm_X12_rightLeave ml_X12_193 k_0.1 (hc := rfl) rfl (h1_0 hG) hl.1 rfl rfl (Nat.le_of_ble_eq_true rfl) dX12_soonestOf_116 rfl rfl ⟨Nat.le_of_ble_eq_true rfl, Nat.le_of_ble_eq_true rfl⟩ ⟨Nat.le_refl _, Nat.le_refl _⟩) hS (fun x_125 H locs hp_124 hU hS => ?_)
                have q_126 := hp_124.2
                have tq_126 := congrArg Int32.toInt q_126
                have h116 := q_126.trans (rl_20 (fr20 hF1) _)
                have t116 := congrArg Int32.toInt h116
                refine lv_iload hx hb dX12_soonestOf_119 (lv_at hl 3 rfl) ?_
                refine b_icmp_lt (tgt := 128) hx hb dX12_soonestOf_121 (by decide) (fun c_127 => ?_) (fun c_127 => ?_)
                ·
                  exact J_128 _ _ _ (lv_sub hl [0, 1, 2, 3, 4] rfl) hU hS (by omega)
                ·
                  refine lv_iconst (v := 1) hx hb dX12_soonestOf_124 (by decide) ?_
                  refine lv_goto (tgt := 129) hx hb dX12_soonestOf_125 (by decide) ?_
                  exact J_129 1 _ _ _ (lv_sub hl [0, 1, 2, 3, 4] rfl) hU hS (by omega) (by omega)
      exact J_77 _ 0 _ _ _ _ _ (lv_sub hl [2, 3, 4, 1, 0] rfl) hG hF1 hF2 hU hS (by omega) (by first | exact so_i77 i77_1 True.intro (by omega) (by omega) i129_1 | (intro k hk; exfalso; omega)) (Nat.lt_succ_self _)
    refine b_if_ne (tgt := 56) hx hb dX12_soonestOf_37 (by decide) (fun c_128 => ?_) (fun c_128 => ?_)
    ·
      refine lv_aload_n hx hb dX12_soonestOf_56 rfl (lv_at hl 2 rfl) ?_
      refine lv_aload_n hx hb dX12_soonestOf_57 rfl (lv_at hl 2 rfl) ?_
      refine g_0_21 C hU hG (h1_0 hG) fl_X12_62 dX12_soonestOf_58 ?_
      refine lv_iconst (v := 4) hx hb dX12_soonestOf_61 (by decide) ?_
      refine lv_iload_n hx hb dX12_soonestOf_62 rfl (lv_at hl 3 rfl) ?_
      refine lv_imul hx hb dX12_soonestOf_63 ?_
      refine lv_topi (fun x_129 e_130 => ?_)
      have te_130 : x_129.toInt = 4 * (tt : Int32).toInt := by rw [e_130, fb_mulI (by rw [show (4 : Int32).toInt = 4 from by decide]; omega) (by rw [show (4 : Int32).toInt = 4 from by decide]; omega), show (4 : Int32).toInt = 4 from by decide]
      refine lv_iload_n hx hb dX12_soonestOf_64 rfl (lv_at hl 1 rfl) ?_
      refine lv_iadd hx hb dX12_soonestOf_65 ?_
      refine lv_topi (fun x_131 e_132 => ?_)
      have te_132 : x_131.toInt = (x_129 : Int32).toInt + (x_2 : Int32).toInt := by rw [e_132]; exact fb_addI (by omega) (by omega)
      refine lv_iconst (v := 1) hx hb dX12_soonestOf_66 (by decide) ?_
      refine lv_isub hx hb dX12_soonestOf_67 ?_
      refine lv_topi (fun x_133 e_134 => ?_)
      have te_134 : x_133.toInt = (x_131 : Int32).toInt - (1 : Int32).toInt := by rw [e_134]; exact fb_subI (by omega) (by omega)
      refine a_18 C hU hG (h1_18 hG) (x := x_133) (by omega) (by omega) dX12_soonestOf_68 (fun x_135 e_136 le_136 ue_136 => ?_)
      have te_136 := congrArg Int32.toInt e_136
      have hw68 := rw_ix1 (t := tt) (i := x_2) e_136 (by omega) (by omega) (by omega)
      refine q_pi (q_runV (t := 0) (i := 0) (As := [.int x_135]) (rest := []) C hU (c_X12_rightArrive hG x_135 (by omega)) vm_X12_rightArrive ml_X12_190 k_0.1 (hc := rfl) rfl (h1_0 hG) hl.1 rfl rfl (Nat.le_of_ble_eq_true rfl) dX12_soonestOf_69 rfl rfl ⟨Nat.le_of_ble_eq_true rfl, Nat.le_of_ble_eq_true rfl⟩ ⟨Nat.le_refl _, Nat.le_refl _⟩) hS (fun x_138 H locs hp_137 hU hS => ?_)
      have q_139 := hp_137.2
      have tq_139 := congrArg Int32.toInt q_139
      have h69 := q_139
      rw [hw68, hms] at h69
      have t69 := congrArg Int32.toInt h69
      exact J_72 x_138 _ _ _ (lv_sub hl [2, 3, 0] rfl) hU hS (by omega) (by unfold stT; first | (rw [if_pos (by rw [← hms, clamp_n]; omega)]; omega) | (rw [if_neg (by rw [← hms, clamp_n]; omega)]; omega))
    ·
      refine lv_aload_n hx hb dX12_soonestOf_40 rfl (lv_at hl 2 rfl) ?_
      refine g_0_11 C hU hG (h1_0 hG) fl_X12_34 dX12_soonestOf_41 ?_
      refine lv_aload_n hx hb dX12_soonestOf_44 rfl (lv_at hl 2 rfl) ?_
      refine g_0_21 C hU hG (h1_0 hG) fl_X12_62 dX12_soonestOf_45 ?_
      refine lv_iconst (v := 4) hx hb dX12_soonestOf_48 (by decide) ?_
      refine lv_iload_n hx hb dX12_soonestOf_49 rfl (lv_at hl 3 rfl) ?_
      refine lv_imul hx hb dX12_soonestOf_50 ?_
      refine lv_topi (fun x_140 e_141 => ?_)
      have te_141 : x_140.toInt = 4 * (tt : Int32).toInt := by rw [e_141, fb_mulI (by rw [show (4 : Int32).toInt = 4 from by decide]; omega) (by rw [show (4 : Int32).toInt = 4 from by decide]; omega), show (4 : Int32).toInt = 4 from by decide]
      refine a_18 C hU hG (h1_18 hG) (x := x_140) (by omega) (by omega) dX12_soonestOf_51 (fun x_142 e_143 le_143 ue_143 => ?_)
      have te_143 := congrArg Int32.toInt e_143
      have hw51 := rw_0 (t := tt) e_143 (by omega) (by omega)
      refine a_9 C hU hG (h1_9 hG) (x := x_142) (by omega) (by omega) dX12_soonestOf_52 (fun x_144 e_145 le_145 ue_145 => ?_)
      have te_145 := congrArg Int32.toInt e_145
      have h52 := e_145
      rw [hw51] at h52
      have t52 := congrArg Int32.toInt h52
      refine lv_goto (tgt := 72) hx hb dX12_soonestOf_53 (by decide) ?_
      exact J_72 x_144 _ _ _ (lv_sub hl [2, 3, 0] rfl) hU hS (by omega) (by unfold stT; first | (rw [if_pos (by rw [← hms, clamp_n]; omega)]; omega) | (rw [if_neg (by rw [← hms, clamp_n]; omega)]; omega))
  ·
    refine lv_aload_n hx hb dX12_soonestOf_10 rfl (lv_at hl 1 rfl) ?_
    refine lv_aload_n hx hb dX12_soonestOf_11 rfl (lv_at hl 1 rfl) ?_
    refine lv_iload_n hx hb dX12_soonestOf_12 rfl (lv_at hl 2 rfl) ?_
    refine q_pi (q_runV (t := 0) (i := 0) (As := [.int tt]) (rest := [.ref (al.2 0 0)]) C hU (c_X12_lastLeg_x hG tt (by omega)) vm_X12_lastLeg ml_X12_232 k_0.1 (hc := rfl) rfl (h1_0 hG) hl.1 rfl rfl (Nat.le_of_ble_eq_true rfl) dX12_soonestOf_13 rfl rfl ⟨Nat.le_of_ble_eq_true rfl, Nat.le_of_ble_eq_true rfl⟩ ⟨Nat.le_refl _, Nat.le_refl _⟩) hS (fun x_147 H locs hp_146 hU hS => ?_)
    refine q_pi (q_runV (t := 0) (i := 0) (As := [.int x_147]) (rest := []) C hU (c_X12_rightArrive hG x_147 (by omega)) vm_X12_rightArrive ml_X12_190 k_0.1 (hc := rfl) rfl (h1_0 hG) hl.1 rfl rfl (Nat.le_of_ble_eq_true rfl) dX12_soonestOf_16 rfl rfl ⟨Nat.le_of_ble_eq_true rfl, Nat.le_of_ble_eq_true rfl⟩ ⟨Nat.le_refl _, Nat.le_refl _⟩) hS (fun x_149 H locs hp_148 hU hS => ?_)
    have q_150 := hp_148.2
    have tq_150 := congrArg Int32.toInt q_150
    exact hret (⟨hG, hF1, hF2, by unfold soF; rw [if_pos (by omega), q_150, hp_146.2]⟩) hU hS dX12_soonestOf_19
end
section
set_option maxHeartbeats 4000000 in
set_option maxRecDepth 100000 in
theorem c_X12_hoursOf_x {l : Launch} {D : va_G} {cA : FieldType → ClassId} {sz : Nat} {al : Al} {iv : Iv} {rv : Rv} (hG : GI al iv rv) (tt : Int32) (pre0 : 0 ≤ tt.toInt ∧ tt.toInt < (iv 0 0 20).toInt) : Met l yX12_hoursOf (wd yX12_hoursOf cX12_hoursOf 3 (some .int)) (rm 4) (PcW D cA sz al iv rv [.ref (al.2 0 0), .int tt]) (QI D cA sz al (fI al ([20], []) iv rv (fun r iv' rv' => r = hoF iv tt.toNatClampNeg))) 0 0 (Aq sz) := by
  refine mk_i (by decide) (Nat.le_of_ble_eq_true rfl) rfl ?_
  intro p e s m args below meth c ls Q H locs C hU hS hl hret
  have hx := C.1.1
  have hb := C.1.2.1
  have hl : lv_has ls 3 [(0, .ref (al.2 0 0)), (1, .int tt)] := hl
  have hG0 := hG
  have h6 := le6 hG
  have h20 := le20 hG
  have h41 := le41 hG
  have h20 := le20 hG
  have hF1 : FR ([20], []) iv iv := FR.rf
  have hF2 : FR ([20], []) rv rv := FR.rf
  have k9999 : (9999 : Int32).toInt = 9999 := by decide
  refine lv_aload_n hx hb dX12_hoursOf_0 rfl (lv_at hl 0 rfl) ?_
  refine lv_iload_n hx hb dX12_hoursOf_1 rfl (lv_at hl 1 rfl) ?_
  refine q_fi (q_runV (t := 0) (i := 0) (As := [.int tt]) (rest := []) C hU (c_X12_soonestOf_x hG tt (by omega)) vm_X12_soonestOf ml_X12_235 k_0.1 (hc := rfl) rfl (h1_0 hG) hl.1 rfl rfl (Nat.le_of_ble_eq_true rfl) dX12_hoursOf_2 rfl rfl ⟨Nat.le_of_ble_eq_true rfl, Nat.le_of_ble_eq_true rfl⟩ ⟨Nat.le_refl _, Nat.le_refl _⟩) hS (fun x_6 iv_2 rv_3 H locs hG fa_4 fb_5 hp_1 hU hS => ?_)
  have hF1 := hF1.tr (m := ([20], [])) fa_4 (by decide)
  have hF2 := hF2.tr (m := ([20], [])) fb_5 (by decide)
  have kf_7 := congrArg Int32.toInt (hF1 0 0 20 (by decide))
  refine lv_istore_n (lv' := [(2, .int x_6), (0, .ref (al.2 0 0)), (1, .int tt)]) hx hb dX12_hoursOf_5 rfl hl (by decide) rfl (fun ls hl => ?_)
  have hso := hp_1
  have tso := congrArg Int32.toInt hso
  refine lv_iload_n hx hb dX12_hoursOf_6 rfl (lv_at hl 0 rfl) ?_
  refine b_if_ge (tgt := 16) hx hb dX12_hoursOf_7 (by decide) (fun c_8 => ?_) (fun c_8 => ?_)
  ·
    refine lv_iload_n hx hb dX12_hoursOf_16 rfl (lv_at hl 0 rfl) ?_
    refine lv_aload_n hx hb dX12_hoursOf_17 rfl (lv_at hl 1 rfl) ?_
    refine g_0_12 C hU hG (h1_0 hG) fl_X12_37 dX12_hoursOf_18 ?_
    refine lv_aload_n hx hb dX12_hoursOf_21 rfl (lv_at hl 1 rfl) ?_
    refine lv_iload_n hx hb dX12_hoursOf_22 rfl (lv_at hl 2 rfl) ?_
    refine q_pi (q_runV (t := 0) (i := 0) (As := [.int tt]) (rest := [.ref (al.2 10 0), .int x_6]) C hU (c_X12_lastLeg_x hG tt (by omega)) vm_X12_lastLeg ml_X12_232 k_0.1 (hc := rfl) rfl (h1_0 hG) hl.1 rfl rfl (Nat.le_of_ble_eq_true rfl) dX12_hoursOf_23 rfl rfl ⟨Nat.le_of_ble_eq_true rfl, Nat.le_of_ble_eq_true rfl⟩ ⟨Nat.le_refl _, Nat.le_refl _⟩) hS (fun x_10 H locs hp_9 hU hS => ?_)
    refine a_10 C hU hG (h1_10 hG) (x := x_10) (by omega) (by omega) dX12_hoursOf_26 (fun x_11 e_12 le_12 ue_12 => ?_)
    have te_12 := congrArg Int32.toInt e_12
    have ne_12 : x_11.toInt = (iv 10 0 (x_10 : Int32).toNatClampNeg).toInt := by rw [e_12, hF1.arr 10 0 (x_10 : Int32).toNatClampNeg (by decide)]
    have h26 := e_12
    rw [hp_9.2, thL_20 (fr20 hF1), fr20 hF1 10 0 _ (by decide)] at h26
    refine lv_isub hx hb dX12_hoursOf_27 ?_
    refine lv_topi (fun x_13 e_14 => ?_)
    have w_15 := fb_rng x_6
    have te_14 : x_13.toInt = (x_6 : Int32).toInt - (x_11 : Int32).toInt := by rw [e_14]; exact fb_subI (by omega) (by omega)
    refine q_pi (q_runS (As := [.int x_13]) (rest := []) C hU (c_X12_over  x_13 ) sm_X12_over ml_X12_187 hl.1 rfl rfl (Nat.le_of_ble_eq_true rfl) dX12_hoursOf_28 rfl rfl ⟨Nat.le_of_ble_eq_true rfl, Nat.le_of_ble_eq_true rfl⟩ ⟨Nat.le_refl _, Nat.le_refl _⟩) hS (fun x_17 H locs hp_16 hU hS => ?_)
    have q_18 := hp_16.2
    have tq_18 := congrArg Int32.toInt q_18
    exact hret (⟨hG, hF1, hF2, by unfold hoF; first | rw [if_pos (by omega)] | (rw [if_neg (by omega), q_18, e_14, h26, hso])⟩) hU hS dX12_hoursOf_31
  ·
    refine lv_sipush (v := 9999) hx hb dX12_hoursOf_10 (by decide) ?_
    refine lv_goto (tgt := 31) hx hb dX12_hoursOf_13 (by decide) ?_
    exact hret (⟨hG, hF1, hF2, by unfold hoF; first | rw [if_pos (by omega)] | (rw [if_neg (by omega), True.intro, True.intro, h26, hso])⟩) hU hS dX12_hoursOf_31
set_option maxHeartbeats 4000000 in
set_option maxRecDepth 100000 in
theorem c_X12_hours_x {l : Launch} {D : va_G} {cA : FieldType → ClassId} {sz : Nat} {al : Al} {iv : Iv} {rv : Rv} (hG : GI al iv rv) (tt : Int32) : Met l yX12_hours (wd yX12_hours cX12_hours 2 (some .int)) (rm 5) (PcW D cA sz al iv rv [.ref (al.2 0 0), .int tt]) (QI D cA sz al (fI al ([16, 20], []) iv rv (fun r iv' rv' => r = hrS iv tt))) 0 0 (Aq sz) := by
  refine mk_i (by decide) (Nat.le_of_ble_eq_true rfl) rfl ?_
  intro p e s m args below meth c ls Q H locs C hU hS hl hret
  have hx := C.1.1
  have hb := C.1.2.1
  have hl : lv_has ls 2 [(0, .ref (al.2 0 0)), (1, .int tt)] := hl
  have hG0 := hG
  have h6 := le6 hG
  have h20 := le20 hG
  have h41 := le41 hG
  have hF1 : FR ([16, 20], []) iv iv := FR.rf
  have hF2 : FR ([16, 20], []) rv rv := FR.rf
  have km1 : ((-1) : Int32).toInt = -1 := by decide
  refine lv_aload_n hx hb dX12_hours_0 rfl (lv_at hl 0 rfl) ?_
  refine lv_iload_n hx hb dX12_hours_1 rfl (lv_at hl 1 rfl) ?_
  refine q_pi (q_runV (t := 0) (i := 0) (As := [.int tt]) (rest := []) C hU (c_X12_isTraveller hG tt ) vm_X12_isTraveller ml_X12_226 k_0.1 (hc := rfl) rfl (h1_0 hG) hl.1 rfl rfl (Nat.le_of_ble_eq_true rfl) dX12_hours_2 rfl rfl ⟨Nat.le_of_ble_eq_true rfl, Nat.le_of_ble_eq_true rfl⟩ ⟨Nat.le_refl _, Nat.le_refl _⟩) hS (fun x_2 H locs hp_1 hU hS => ?_)
  refine b_if_eq (tgt := 16) hx hb dX12_hours_5 (by decide) (fun c_3 => ?_) (fun c_3 => ?_)
  ·
    refine lv_aload_n hx hb dX12_hours_16 rfl (lv_at hl 0 rfl) ?_
    refine lv_iconst (v := (-1)) hx hb dX12_hours_17 (by decide) ?_
    refine q_fi (q_runV (t := 0) (i := 0) (As := [.int (-1)]) (rest := []) C hU (c_X12_refuse hG (-1) (by omega)) vm_X12_refuse ml_X12_164 k_0.1 (hc := rfl) rfl (h1_0 hG) hl.1 rfl rfl (Nat.le_of_ble_eq_true rfl) dX12_hours_18 rfl rfl ⟨Nat.le_of_ble_eq_true rfl, Nat.le_of_ble_eq_true rfl⟩ ⟨Nat.le_refl _, Nat.le_refl _⟩) hS (fun x_9 iv_5 rv_6 H locs hG fa_7 fb_8 hp_4 hU hS => ?_)
    have hF1 := hF1.tr (m := ([16, 20], [])) fa_7 (by decide)
    have hF2 := hF2.tr (m := ([16, 20], [])) fb_8 (by decide)
    exact hret (⟨hG, hF1, hF2, by unfold hrS; first | (rw [if_neg (by omega)]; exact True.intro) | (rw [if_pos (by omega)]; exact hp_4)⟩) hU hS dX12_hours_21
  ·
    refine lv_aload_n hx hb dX12_hours_8 rfl (lv_at hl 0 rfl) ?_
    refine lv_iload_n hx hb dX12_hours_9 rfl (lv_at hl 1 rfl) ?_
    refine q_fi (q_runV (t := 0) (i := 0) (As := [.int tt]) (rest := []) C hU (c_X12_hoursOf_x hG tt (by omega)) vm_X12_hoursOf ml_X12_238 k_0.1 (hc := rfl) rfl (h1_0 hG) hl.1 rfl rfl (Nat.le_of_ble_eq_true rfl) dX12_hours_10 rfl rfl ⟨Nat.le_of_ble_eq_true rfl, Nat.le_of_ble_eq_true rfl⟩ ⟨Nat.le_refl _, Nat.le_refl _⟩) hS (fun x_15 iv_11 rv_12 H locs hG fa_13 fb_14 hp_10 hU hS => ?_)
    have hF1 := hF1.tr (m := ([16, 20], [])) fa_13 (by decide)
    have hF2 := hF2.tr (m := ([16, 20], [])) fb_14 (by decide)
    refine lv_goto (tgt := 21) hx hb dX12_hours_13 (by decide) ?_
    exact hret (⟨hG, hF1, hF2, by unfold hrS; first | (rw [if_neg (by omega)]; exact hp_10) | (rw [if_pos (by omega)]; exact True.intro)⟩) hU hS dX12_hours_21
set_option maxHeartbeats 4000000 in
set_option maxRecDepth 100000 in
theorem c_X8_missedPlace_x {l : Launch} {D : va_G} {cA : FieldType → ClassId} {sz : Nat} {al : Al} {iv : Iv} {rv : Rv} (hG : GI al iv rv) (ti : Nat) (hti : ti < al.1 65) (conn : Int32) (pre0 : BM iv rv) (pre1 : conn = iv 15 0 2) : Met l yX8_missedPlace (wd yX8_missedPlace cX8_missedPlace 3 (some .int)) (rm 0) (PcW D cA sz al iv rv [.ref (al.2 65 ti), .int conn]) (QI D cA sz al (pI iv rv (fun r => (-9 ≤ r.toInt ∧ r.toInt ≤ 3) ∧ (r = mpX iv ti ∧ (r.toInt = -9 ∨ (0 ≤ r.toInt ∧ r.toInt < (iv 65 ti 4).toInt)))))) 0 0 (Aq sz) := by
  refine mk_i (by decide) (Nat.le_of_ble_eq_true rfl) rfl ?_
  intro p e s m args below meth c ls Q H locs C hU hS hl hret
  have hx := C.1.1
  have hb := C.1.2.1
  have hl : lv_has ls 3 [(0, .ref (al.2 65 ti)), (1, .int conn)] := hl
  have hG0 := hG
  have htk := tk_k hG pre0 hti
  have hsz := htk.2.1
  have tcon := congrArg Int32.toInt pre1
  have km9 : ((-9) : Int32).toInt = -9 := by decide
  have k0 : (0 : Int32).toInt = 0 := by decide
  have k1 : (1 : Int32).toInt = 1 := by decide
  refine lv_iconst (v := 0) hx hb dX8_missedPlace_0 (by decide) ?_
  refine lv_istore_n (lv' := [(2, .int 0), (0, .ref (al.2 65 ti)), (1, .int conn)]) hx hb dX8_missedPlace_1 rfl hl (by decide) rfl (fun ls hl => ?_)
  have J_2 : ∀ (n_2 : Nat) (l2_1 : Int32) (ls : Array Slot), lv_has ls 3 [(0, .ref (al.2 65 ti)), (1, .int conn), (2, .int l2_1)] → (0 ≤ l2_1.toInt ∧ l2_1.toInt ≤ 4) → (msN iv ti l2_1.toNatClampNeg).toInt < 0 → l2_1.toInt ≤ (iv 65 ti 4).toInt → (4 - l2_1.toInt).toNat < n_2 → W p l e (rm 0) s m args below meth c H locs 0 0 Q (F0 m 2 ls []) := by
    intro n_2
    induction n_2 with
    | zero =>
      intro l2_1 ls hl i2_0 i2_1 i2_2 hm_2
      exact absurd hm_2 (Nat.not_lt_zero _)
    | succ n_2 ih_2 =>
      intro l2_1 ls hl i2_0 i2_1 i2_2 hm_2
      refine lv_iload_n hx hb dX8_missedPlace_2 rfl (lv_at hl 2 rfl) ?_
      refine lv_aload_n hx hb dX8_missedPlace_3 rfl (lv_at hl 0 rfl) ?_
      refine g_65_4 C hU hG hti fl_X8_28 dX8_missedPlace_4 (fun x_2 e_3 le_3 ue_3 => ?_)
      have te_3 := congrArg Int32.toInt e_3
      refine b_icmp_ge (tgt := 61) hx hb dX8_missedPlace_7 (by decide) (fun c_4 => ?_) (fun c_4 => ?_)
      ·
        refine lv_bipush (v := (-9)) hx hb dX8_missedPlace_61 (by decide) ?_
        exact hret (⟨rfl, rfl, ⟨⟨by omega, by omega⟩, ⟨mpx_end i2_1 htk.1 (by omega), by omega⟩⟩⟩) hU hS dX8_missedPlace_63
      ·
        refine lv_aload_n hx hb dX8_missedPlace_10 rfl (lv_at hl 0 rfl) ?_
        refine g_65_3 C hU hG hti fl_X8_24 dX8_missedPlace_11 (fun hb_5 => ?_)
        refine lv_iload_n hx hb dX8_missedPlace_14 rfl (lv_at hl 2 rfl) ?_
        refine a_66 C hU hG hb_5 (x := l2_1) (by omega) (by omega) dX8_missedPlace_15 (fun r_6 er_7 hb_8 => ?_)
        obtain ⟨j_9, ej_10⟩ : ∃ j, r_6 = some j := (tleg hG hti (by omega) (by omega)).imp (fun _ h => er_7.trans h)
        subst ej_10
        have hl : lv_has ls 3 [(0, .ref (al.2 65 ti)), (1, .int conn), (2, .int l2_1)] := hl
        have hb_11 : j_9 < al.1 62 := hb_8 j_9 rfl
        have hw := tk_ix hG0 pre0 hti er_7 (by omega) (by omega)
        have hl7 := lg_done hG0 pre0.1 hb_11 hw
        refine g_62_7 C hU hG hb_11 fl_X8_48 dX8_missedPlace_16 (fun x_12 e_13 le_13 ue_13 => ?_)
        have te_13 := congrArg Int32.toInt e_13
        refine b_if_ne (tgt := 24) hx hb dX8_missedPlace_19 (by decide) (fun c_14 => ?_) (fun c_14 => ?_)
        ·
          have hd : ¬ (iv 11 0 (rwL iv ti l2_1.toNatClampNeg)).toInt = 0 := by omega
          refine lv_iload_n hx hb dX8_missedPlace_24 rfl (lv_at hl 2 rfl) ?_
          have J_55 : ∀ (ls : Array Slot), lv_has ls 3 [(0, .ref (al.2 65 ti)), (1, .int conn), (2, .int l2_1)] → ¬ bad iv ti l2_1.toNatClampNeg → W p l e (rm 0) s m args below meth c H locs 0 0 Q (F0 m 55 ls []) := by
            intro ls hl i55_0
            obtain ⟨x_15, e_16⟩ : ∃ y : Int32, y = l2_1 + 1 := ⟨_, rfl⟩
            have te_16 : x_15.toInt = (l2_1 : Int32).toInt + (1 : Int32).toInt := by rw [e_16]; exact fb_addI (by omega) (by omega)
            refine lv_iinc (v := x_15) (lv' := [(2, .int x_15), (0, .ref (al.2 65 ti)), (1, .int conn)]) hx hb dX8_missedPlace_55 hl (k := 2) rfl (by rw [e_16]; rfl) (by decide) rfl (fun ls hl => ?_)
            refine lv_goto (tgt := 2) hx hb dX8_missedPlace_58 (by decide) ?_
            exact ih_2 x_15 _ (lv_sub hl [1, 2, 0] rfl) (by omega) (by first | exact ms_up (by omega) (by omega) i2_1 i55_0 | exact ms_0) (by omega) (by omega)
          refine b_if_le (tgt := 55) hx hb dX8_missedPlace_25 (by decide) (fun c_17 => ?_) (fun c_17 => ?_)
          ·
            exact J_55 _ (lv_sub hl [0, 1, 2] rfl) (by first | exact nb_0 hd (by omega) | exact nb_x hd True.intro hrt3.1 hw3 True.intro hrt4.2.1 hw4 True.intro tcon (by omega))
          ·
            refine lv_aload_n hx hb dX8_missedPlace_28 rfl (lv_at hl 0 rfl) ?_
            refine g_65_3 C hU hG hti fl_X8_24 dX8_missedPlace_29 (fun hb_18 => ?_)
            refine lv_iload_n hx hb dX8_missedPlace_32 rfl (lv_at hl 2 rfl) ?_
            refine a_66 C hU hG hb_18 (x := l2_1) (by omega) (by omega) dX8_missedPlace_33 (fun r_19 er_20 hb_21 => ?_)
            obtain ⟨j_22, ej_23⟩ : ∃ j, r_19 = some j := (tleg hG hti (by omega) (by omega)).imp (fun _ h => er_20.trans h)
            subst ej_23
            have hl : lv_has ls 3 [(0, .ref (al.2 65 ti)), (1, .int conn), (2, .int l2_1)] := hl
            have hb_24 : j_22 < al.1 62 := hb_21 j_22 rfl
            have hw3 := tk_ix hG0 pre0 hti er_20 (by omega) (by omega)
            have hrt3 := rt_x hG0 pre0.1 hb_24 (by have := lg_done hG0 pre0.1 hb_24 hw3; omega)
            refine g_62_10 C hU hG hb_24 fl_X8_52 dX8_missedPlace_34 (fun x_25 e_26 => ?_)
            have te_26 := congrArg Int32.toInt e_26
            refine lv_aload_n hx hb dX8_missedPlace_37 rfl (lv_at hl 0 rfl) ?_
            refine g_65_3 C hU hG hti fl_X8_24 dX8_missedPlace_38 (fun hb_27 => ?_)
            refine lv_iload_n hx hb dX8_missedPlace_41 rfl (lv_at hl 2 rfl) ?_
            refine lv_iconst (v := 1) hx hb dX8_missedPlace_42 (by decide) ?_
            refine lv_isub hx hb dX8_missedPlace_43 ?_
            refine lv_topi (fun x_28 e_29 => ?_)
            have te_29 : x_28.toInt = (l2_1 : Int32).toInt - (1 : Int32).toInt := by rw [e_29]; exact fb_subI (by omega) (by omega)
            refine a_66 C hU hG hb_27 (x := x_28) (by omega) (by omega) dX8_missedPlace_44 (fun r_30 er_31 hb_32 => ?_)
            obtain ⟨j_33, ej_34⟩ : ∃ j, r_30 = some j := (tleg hG hti (by omega) (by omega)).imp (fun _ h => er_31.trans h)
            subst ej_34
            have hl : lv_has ls 3 [(0, .ref (al.2 65 ti)), (1, .int conn), (2, .int l2_1)] := hl
            have hb_35 : j_33 < al.1 62 := hb_32 j_33 rfl
            have hw4 := tk_ix1 (x := l2_1) hG0 pre0 hti er_31 (by omega) (by omega) (by omega)
            have hrt4 := rt_x hG0 pre0.1 hb_35 (by have := lg_done hG0 pre0.1 hb_35 hw4; have w := ms_all (by rw [clamp_n]; omega) i2_1 (l2_1.toNatClampNeg - 1) (by rw [clamp_n]; omega); have w2 := nbd w; omega)
            refine g_62_11 C hU hG hb_35 fl_X8_55 dX8_missedPlace_45 (fun x_36 e_37 => ?_)
            have te_37 := congrArg Int32.toInt e_37
            refine lv_isub hx hb dX8_missedPlace_48 ?_
            refine lv_topi (fun x_38 e_39 => ?_)
            refine lv_iload_n hx hb dX8_missedPlace_49 rfl (lv_at hl 1 rfl) ?_
            refine b_icmp_ge (tgt := 55) hx hb dX8_missedPlace_50 (by decide) (fun c_40 => ?_) (fun c_40 => ?_)
            ·
              exact J_55 _ (lv_sub hl [0, 1, 2] rfl) (by first | exact nb_0 hd (by omega) | exact nb_x hd e_26 hrt3.1 hw3 e_37 hrt4.2.1 hw4 e_39 tcon (by omega))
            ·
              refine lv_iload_n hx hb dX8_missedPlace_53 rfl (lv_at hl 2 rfl) ?_
              exact hret (⟨rfl, rfl, ⟨⟨by omega, by omega⟩, ⟨by rw [mpx_ret i2_1 (Or.inr ⟨by rw [clamp_n]; omega, bd_x e_26 hrt3.1 hw3 e_37 hrt4.2.1 hw4 e_39 tcon (by omega)⟩) htk.1 (by omega) (by omega)], by omega⟩⟩⟩) hU hS dX8_missedPlace_54
        ·
          refine lv_iload_n hx hb dX8_missedPlace_22 rfl (lv_at hl 2 rfl) ?_
          exact hret (⟨rfl, rfl, ⟨⟨by omega, by omega⟩, ⟨by rw [mpx_ret i2_1 (Or.inl (by omega)) htk.1 (by omega) (by omega)], by omega⟩⟩⟩) hU hS dX8_missedPlace_23
  exact J_2 _ 0 _ (lv_sub hl [1, 2, 0] rfl) (by omega) (by first | exact ms_up (by omega) (by omega) i2_1 i55_0 | exact ms_0) (by omega) (Nat.lt_succ_self _)
set_option maxHeartbeats 4000000 in
set_option maxRecDepth 100000 in
theorem c_X10_reach_x {l : Launch} {D : va_G} {cA : FieldType → ClassId} {sz : Nat} {al : Al} {iv : Iv} {rv : Rv} (hG : GI al iv rv) (fd : Int32) (pi : Nat) (hpi : pi < al.1 56) (time : Int32) (pre0 : 0 ≤ fd.toInt ∧ fd.toInt ≤ 40) (pre1 : ∀ k : Nat, (k : Int) < fd.toInt → ∃ j, rv 61 0 k = some j) (pre2 : BL iv rv) (pre3 : QU iv rv fd) : Met l yX10_reach (wd yX10_reach cX10_reach 7 (some .int)) (rm 0) (PcW D cA sz al iv rv [.ref (al.2 57 0), .int fd, .ref (al.2 56 pi), .int time]) (QI D cA sz al (fI al ([60, 61], []) iv rv (fun r iv' rv' => (0 ≤ r.toInt ∧ r.toInt ≤ 40) ∧ (fd.toInt ≤ r.toInt ∧ QU iv' rv' r ∧ (∀ j : Nat, (j : Int) < (iv 57 0 1).toInt → (¬ (iv' 60 0 j).toInt = 0 ↔ (¬ (iv 60 0 j).toInt = 0 ∨ S0 iv pi time.toInt j))) ∧ (∀ k : Nat, (k : Int) < fd.toInt → rv' 61 0 k = rv 61 0 k))))) 0 0 (Aq sz) := by
  refine mk_i (by decide) (Nat.le_of_ble_eq_true rfl) rfl ?_
  intro p e s m args below meth c ls Q H locs C hU hS hl hret
  have hx := C.1.1
  have hb := C.1.2.1
  have hl : lv_has ls 7 [(0, .ref (al.2 57 0)), (1, .int fd), (2, .ref (al.2 56 pi)), (3, .int time)] := hl
  have hG0 := hG
  have n57 : (iv 57 0 1).toInt = al.1 62 := hG.2.2.2.1.2
  have hF1 : FR ([60, 61], []) iv iv := FR.rf
  have hF2 : FR ([60, 61], []) rv rv := FR.rf
  have k0 : (0 : Int32).toInt = 0 := by decide
  have k1 : (1 : Int32).toInt = 1 := by decide
  have k40 : (40 : Int32).toInt = 40 := by decide
  refine lv_iload_n hx hb dX10_reach_0 rfl (lv_at hl 1 rfl) ?_
  refine lv_istore (lv' := [(4, .int fd), (0, .ref (al.2 57 0)), (1, .int fd), (2, .ref (al.2 56 pi)), (3, .int time)]) hx hb dX10_reach_1 hl (by decide) rfl (fun ls hl => ?_)
  refine lv_iconst (v := 0) hx hb dX10_reach_3 (by decide) ?_
  refine lv_istore (lv' := [(5, .int 0), (4, .int fd), (0, .ref (al.2 57 0)), (1, .int fd), (2, .ref (al.2 56 pi)), (3, .int time)]) hx hb dX10_reach_4 hl (by decide) rfl (fun ls hl => ?_)
  have J_6 : ∀ (n_6 : Nat) (l4_1 : Int32) (l5_2 : Int32) (iv_3 : Iv) (rv_4 : Rv) (H : Heap) (locs : List Loc) (ls : Array Slot), lv_has ls 7 [(0, .ref (al.2 57 0)), (2, .ref (al.2 56 pi)), (3, .int time), (4, .int l4_1), (5, .int l5_2)] → GI al iv_3 rv_4 → FR ([60, 61], []) iv iv_3 → FR ([60, 61], []) rv rv_4 → UW D cA sz al iv_3 rv_4 H → va_S (Aq sz) s.heap H locs → (0 ≤ l4_1.toInt ∧ l4_1.toInt ≤ 40) → (0 ≤ l5_2.toInt ∧ l5_2.toInt ≤ 40) → fd.toInt ≤ l4_1.toInt → (∀ k : Nat, (k : Int) < l4_1.toInt → ∃ j, rv_4 61 0 k = some j) → RI iv rv iv_3 rv_4 fd pi time.toInt l4_1 l5_2.toNatClampNeg → (40 - l5_2.toInt).toNat < n_6 → W p l e (rm 0) s m args below meth c H locs 0 0 Q (F0 m 6 ls []) := by
    intro n_6
    induction n_6 with
    | zero =>
      intro l4_1 l5_2 iv_3 rv_4 H locs ls hl hG hF1 hF2 hU hS i6_0 i6_1 i6_2 i6_3 i6_4 hm_6
      exact absurd hm_6 (Nat.not_lt_zero _)
    | succ n_6 ih_6 =>
      intro l4_1 l5_2 iv_3 rv_4 H locs ls hl hG hF1 hF2 hU hS i6_0 i6_1 i6_2 i6_3 i6_4 hm_6
      refine lv_iload hx hb dX10_reach_6 (lv_at hl 4 rfl) ?_
      refine lv_aload_n hx hb dX10_reach_8 rfl (lv_at hl 0 rfl) ?_
      refine g_57_1 C hU hG (h1_57 hG) fl_X10_28 dX10_reach_9 (fun x_5 e_6 le_6 ue_6 => ?_)
      have te_6 := congrArg Int32.toInt e_6
      have ne_6 : x_5.toInt = (iv 57 0 1).toInt := by rw [e_6, hF1 57 0 1 (by decide)]
      refine b_icmp_ge (tgt := 96) hx hb dX10_reach_12 (by decide) (fun c_7 => ?_) (fun c_7 => ?_)
      ·
        refine lv_iload hx hb dX10_reach_96 (lv_at hl 3 rfl) ?_
        exact hret (⟨hG, hF1, hF2, ⟨⟨by omega, by omega⟩, ⟨by omega, by first | exact ri_end i6_4 (by omega) | exact ri_full hG0 i6_4 (by omega) (by omega)⟩⟩⟩) hU hS dX10_reach_98
      ·
        refine lv_iload hx hb dX10_reach_15 (lv_at hl 3 rfl) ?_
        refine lv_bipush (v := 40) hx hb dX10_reach_17 (by decide) ?_
        refine b_icmp_ge (tgt := 96) hx hb dX10_reach_19 (by decide) (fun c_8 => ?_) (fun c_8 => ?_)
        ·
          refine lv_iload hx hb dX10_reach_96 (lv_at hl 3 rfl) ?_
          exact hret (⟨hG, hF1, hF2, ⟨⟨by omega, by omega⟩, ⟨by omega, by first | exact ri_end i6_4 (by omega) | exact ri_full hG0 i6_4 (by omega) (by omega)⟩⟩⟩) hU hS dX10_reach_98
        ·
          refine lv_aload_n hx hb dX10_reach_22 rfl (lv_at hl 0 rfl) ?_
          refine g_57_0 C hU hG (h1_57 hG) fl_X10_13 dX10_reach_23 ?_
          refine lv_iload hx hb dX10_reach_26 (lv_at hl 4 rfl) ?_
          refine a_58 C hU hG (h1_58 hG) (x := l5_2) (by omega) (by omega) dX10_reach_28 (fun r_9 er_10 hb_11 => ?_)
          have ner_10 : r_9 = rv 58 0 (l5_2 : Int32).toNatClampNeg := by rw [er_10, hF2.arr 58 0 _ (by decide)]
          obtain ⟨j_12, ej_13⟩ : ∃ j, r_9 = some j := ⟨_, er_10.trans (tall hG (by omega) (by omega))⟩
          subst ej_13
          have hl : lv_has ls 7 [(0, .ref (al.2 57 0)), (2, .ref (al.2 56 pi)), (3, .int time), (4, .int l4_1), (5, .int l5_2)] := hl
          have hb_14 : j_12 < al.1 62 := hb_11 j_12 rfl
          refine lv_astore (lv' := [(6, .ref (al.2 62 j_12)), (0, .ref (al.2 57 0)), (2, .ref (al.2 56 pi)), (3, .int time), (4, .int l4_1), (5, .int l5_2)]) hx hb dX10_reach_29 hl (by decide) rfl (fun ls hl => ?_)
          have hj6 := tix hG er_10 (by omega) (by omega)
          have hl11 := rc_11 hG0 pre2 hb_14 hj6
          refine lv_aload_n hx hb dX10_reach_31 rfl (lv_at hl 1 rfl) ?_
          refine g_57_3 C hU hG (h1_57 hG) fl_X10_21 dX10_reach_32 ?_
          refine lv_iload hx hb dX10_reach_35 (lv_at hl 5 rfl) ?_
          refine a_60 C hU hG (h1_60 hG) (x := l5_2) (by omega) (by omega) dX10_reach_37 (fun x_15 e_16 le_16 ue_16 => ?_)
          have te_16 := congrArg Int32.toInt e_16
          have J_90 : ∀ (l4_17 : Int32) (iv_18 : Iv) (rv_19 : Rv) (H : Heap) (locs : List Loc) (ls : Array Slot), lv_has ls 7 [(0, .ref (al.2 57 0)), (2, .ref (al.2 56 pi)), (3, .int time), (5, .int l5_2), (4, .int l4_17)] → GI al iv_18 rv_19 → FR ([60, 61], []) iv iv_18 → FR ([60, 61], []) rv rv_19 → UW D cA sz al iv_18 rv_19 H → va_S (Aq sz) s.heap H locs → (0 ≤ l4_17.toInt ∧ l4_17.toInt ≤ 40) → fd.toInt ≤ l4_17.toInt → (∀ k : Nat, (k : Int) < l4_17.toInt → ∃ j, rv_19 61 0 k = some j) → RI iv rv iv_18 rv_19 fd pi time.toInt l4_17 (l5_2.toNatClampNeg + 1) → W p l e (rm 0) s m args below meth c H locs 0 0 Q (F0 m 90 ls []) := by
            intro l4_17 iv_18 rv_19 H locs ls hl hG hF1 hF2 hU hS i90_0 i90_1 i90_2 i90_3
            obtain ⟨x_20, e_21⟩ : ∃ y : Int32, y = l5_2 + 1 := ⟨_, rfl⟩
            have te_21 : x_20.toInt = (l5_2 : Int32).toInt + (1 : Int32).toInt := by rw [e_21]; exact fb_addI (by omega) (by omega)
            refine lv_iinc (v := x_20) (lv' := [(5, .int x_20), (0, .ref (al.2 57 0)), (2, .ref (al.2 56 pi)), (3, .int time), (4, .int l4_17)]) hx hb dX10_reach_90 hl (k := 3) rfl (by rw [e_21]; rfl) (by decide) rfl (fun ls hl => ?_)
            refine lv_goto (tgt := 6) hx hb dX10_reach_93 (by decide) ?_
            exact ih_6 l4_17 x_20 _ _ _ _ _ (lv_sub hl [1, 2, 3, 4, 0] rfl) hG hF1 hF2 hU hS (by omega) (by omega) (by omega) (by first | exact pre1 | exact i90_2) (by first | exact ri_up (by omega) (by omega) i90_3 | exact ri_0 pre3) (by omega)
          refine b_if_ne (tgt := 90) hx hb dX10_reach_38 (by decide) (fun c_22 => ?_) (fun c_22 => ?_)
          ·
            exact J_90 l4_1 _ _ _ _ _ (lv_sub hl [1, 2, 3, 5, 4] rfl) hG hF1 hF2 hU hS (by omega) (by omega) (by first | exact i6_3 | exact nn_put i6_3 True.intro (by omega) (by omega)) (by first | exact ri_put i6_4 True.intro True.intro hj6 (by omega) (by omega) (by omega) (by omega) ⟨by omega, by omega, by omega⟩ (by omega) | exact ri_keep i6_4 (by omega) (by omega) (by omega))
          ·
            refine lv_aload hx hb dX10_reach_41 (lv_at hl 0 rfl) ?_
            refine g_62_7 C hU hG hb_14 fl_X10_39 dX10_reach_43 (fun x_23 e_24 le_24 ue_24 => ?_)
            have te_24 := congrArg Int32.toInt e_24
            have ne_24 : x_23.toInt = (iv 62 j_12 7).toInt := by rw [e_24, hF1 62 j_12 7 (by decide)]
            refine b_if_eq (tgt := 90) hx hb dX10_reach_46 (by decide) (fun c_25 => ?_) (fun c_25 => ?_)
            ·
              exact J_90 l4_1 _ _ _ _ _ (lv_sub hl [1, 2, 3, 5, 4] rfl) hG hF1 hF2 hU hS (by omega) (by omega) (by first | exact i6_3 | exact nn_put i6_3 True.intro (by omega) (by omega)) (by first | exact ri_put i6_4 True.intro True.intro hj6 (by omega) (by omega) (by omega) (by omega) ⟨by omega, by omega, by omega⟩ (by omega) | exact ri_keep i6_4 (by omega) (by omega) (by omega))
            ·
              refine lv_aload hx hb dX10_reach_49 (lv_at hl 0 rfl) ?_
              refine g_62_1 C hU hG hb_14 fl_X10_56 dX10_reach_51 (fun j_26 ej_27 hb_28 => ?_)
              have nej_27 : rv 62 j_12 1 = some j_26 := (hF2 62 j_12 1 (by decide)).symm.trans ej_27
              have hp5 := rc_5 hG0 pre2 hb_14 hj6 nej_27
              refine lv_aload_n hx hb dX10_reach_54 rfl (lv_at hl 2 rfl) ?_
              refine b_acmp_ne (tgt := 90) hx hb hU hb_28 hpi dX10_reach_55 (by decide) (fun c_29 => ?_) (fun c_29 => ?_)
              ·
                exact J_90 l4_1 _ _ _ _ _ (lv_sub hl [1, 2, 3, 5, 4] rfl) hG hF1 hF2 hU hS (by omega) (by omega) (by first | exact i6_3 | exact nn_put i6_3 True.intro (by omega) (by omega)) (by first | exact ri_put i6_4 True.intro True.intro hj6 (by omega) (by omega) (by omega) (by omega) ⟨by omega, by omega, by omega⟩ (by omega) | exact ri_keep i6_4 (by omega) (by omega) (by omega))
              ·
                refine lv_aload hx hb dX10_reach_58 (lv_at hl 0 rfl) ?_
                refine g_62_10 C hU hG hb_14 fl_X10_101 dX10_reach_60 (fun x_30 e_31 => ?_)
                have te_31 := congrArg Int32.toInt e_31
                have ne_31 : x_30.toInt = (iv 62 j_12 10).toInt := by rw [e_31, hF1 62 j_12 10 (by decide)]
                have h60 := rc_60 hG0 pre2 hb_14 hj6 hF1 e_31 (by omega)
                refine lv_iload_n hx hb dX10_reach_63 rfl (lv_at hl 3 rfl) ?_
                refine b_icmp_ge (tgt := 70) hx hb dX10_reach_64 (by decide) (fun c_32 => ?_) (fun c_32 => ?_)
                ·
                  refine lv_aload_n hx hb dX10_reach_70 rfl (lv_at hl 1 rfl) ?_
                  refine g_57_3 C hU hG (h1_57 hG) fl_X10_21 dX10_reach_71 ?_
                  refine lv_iload hx hb dX10_reach_74 (lv_at hl 5 rfl) ?_
                  refine lv_iconst (v := 1) hx hb dX10_reach_76 (by decide) ?_
                  have hFb := hF1
                  have ivb := i6_4
                  refine s_60 C hU hS (h1_60 hG) (x := l5_2) (by omega) (by omega) (by omega) (by omega) dX10_reach_77 (fun iv_33 H locs ei_34 hU hS => ?_)
                  have hG : GI al iv_33 rv_4 := by rw [ei_34]; exact hG.puti (show _ ∧ _ from ⟨show (0 : Int) ≤ _ by omega, show _ ≤ (1 : Int) by omega⟩) (nsA (by decide) _)
                  have hF1 : FR ([60, 61], []) iv iv_33 := by rw [ei_34]; exact hF1.put (Or.inl (by decide))
                  refine lv_aload_n hx hb dX10_reach_78 rfl (lv_at hl 1 rfl) ?_
                  refine g_57_4 C hU hG (h1_57 hG) fl_X10_25 dX10_reach_79 ?_
                  refine lv_iload hx hb dX10_reach_82 (lv_at hl 4 rfl) ?_
                  refine lv_aload hx hb dX10_reach_84 (lv_at hl 0 rfl) ?_
                  refine s_61 C hU hS (h1_61 hG) hb_14 (x := l4_1) (by omega) (by omega) dX10_reach_86 (fun rv_35 H locs er_36 hU hS => ?_)
                  have hG : GI al iv_33 rv_35 := by rw [er_36]; exact hG.putr rfl hb_14 (nsA (by decide) _)
                  have hF2 : FR ([60, 61], []) rv rv_35 := by rw [er_36]; exact hF2.put (Or.inl (by decide))
                  obtain ⟨x_37, e_38⟩ : ∃ y : Int32, y = l4_1 + 1 := ⟨_, rfl⟩
                  have te_38 : x_37.toInt = (l4_1 : Int32).toInt + (1 : Int32).toInt := by rw [e_38]; exact fb_addI (by omega) (by omega)
                  refine lv_iinc (v := x_37) (lv' := [(4, .int x_37), (6, .ref (al.2 62 j_12)), (0, .ref (al.2 57 0)), (2, .ref (al.2 56 pi)), (3, .int time), (5, .int l5_2)]) hx hb dX10_reach_87 hl (k := 4) rfl (by rw [e_38]; rfl) (by decide) rfl (fun ls hl => ?_)
                  exact J_90 x_37 _ _ _ _ _ (lv_sub hl [2, 3, 4, 5, 0] rfl) hG hF1 hF2 hU hS (by omega) (by omega) (by first | exact i6_3 | exact nn_put i6_3 er_36 (by omega) (by omega)) (by first | exact ri_put i6_4 ei_34 er_36 hj6 (by omega) (by omega) (by omega) (by omega) ⟨by omega, by omega, by omega⟩ (by omega) | exact ri_keep i6_4 (by omega) (by omega) (by omega))
                ·
                  refine lv_goto (tgt := 90) hx hb dX10_reach_67 (by decide) ?_
                  exact J_90 l4_1 _ _ _ _ _ (lv_sub hl [1, 2, 3, 5, 4] rfl) hG hF1 hF2 hU hS (by omega) (by omega) (by first | exact i6_3 | exact nn_put i6_3 True.intro (by omega) (by omega)) (by first | exact ri_put i6_4 True.intro True.intro hj6 (by omega) (by omega) (by omega) (by omega) ⟨by omega, by omega, by omega⟩ (by omega) | exact ri_keep i6_4 (by omega) (by omega) (by omega))
  exact J_6 _ fd 0 _ _ _ _ _ (lv_sub hl [2, 4, 5, 1, 0] rfl) hG hF1 hF2 hU hS (by omega) (by omega) (by omega) (by first | exact pre1 | exact i90_2) (by first | exact ri_up (by omega) (by omega) i90_3 | exact ri_0 pre3) (Nat.lt_succ_self _)
set_option maxHeartbeats 4000000 in
set_option maxRecDepth 100000 in
theorem c_X10_soonestBy_x {l : Launch} {D : va_G} {cA : FieldType → ClassId} {sz : Nat} {al : Al} {iv : Iv} {rv : Rv} (hG : GI al iv rv) (pi : Nat) (hpi : pi < al.1 56) (time : Int32) (pj : Nat) (hpj : pj < al.1 56) (conn : Int32) (pre0 : BL iv rv) (pre1 : Coff iv rv) (pre2 : conn = iv 15 0 2) : Met l yX10_soonestBy (wd yX10_soonestBy cX10_soonestBy 9 (some .int)) (rm 1) (PcW D cA sz al iv rv [.ref (al.2 57 0), .ref (al.2 56 pi), .int time, .ref (al.2 56 pj), .int conn]) (QI D cA sz al (fI al ([60, 61], []) iv rv (fun r iv' rv' => r = sbN iv (Rch iv pi time.toInt) pj (iv 0 0 6).toNatClampNeg))) 0 0 (Aq sz) := by
  refine mk_i (by decide) (Nat.le_of_ble_eq_true rfl) rfl ?_
  intro p e s m args below meth c ls Q H locs C hU hS hl hret
  have hx := C.1.1
  have hb := C.1.2.1
  have hl : lv_has ls 9 [(0, .ref (al.2 57 0)), (1, .ref (al.2 56 pi)), (2, .int time), (3, .ref (al.2 56 pj)), (4, .int conn)] := hl
  have hG0 := hG
  have n57 : (iv 57 0 1).toInt = al.1 62 := hG.2.2.2.1.2
  have hn6 := congrArg Int32.toInt pre0.1.1
  have tcon := congrArg Int32.toInt pre2
  have hF1 : FR ([60, 61], []) iv iv := FR.rf
  have hF2 : FR ([60, 61], []) rv rv := FR.rf
  have km9 : ((-9) : Int32).toInt = -9 := by decide
  have k0 : (0 : Int32).toInt = 0 := by decide
  have k1 : (1 : Int32).toInt = 1 := by decide
  have k40 : (40 : Int32).toInt = 40 := by decide
  refine lv_iconst (v := 0) hx hb dX10_soonestBy_0 (by decide) ?_
  refine lv_istore (lv' := [(5, .int 0), (0, .ref (al.2 57 0)), (1, .ref (al.2 56 pi)), (2, .int time), (3, .ref (al.2 56 pj)), (4, .int conn)]) hx hb dX10_soonestBy_1 hl (by decide) rfl (fun ls hl => ?_)
  have J_3 : ∀ (n_3 : Nat) (l5_1 : Int32) (iv_2 : Iv) (rv_3 : Rv) (H : Heap) (locs : List Loc) (ls : Array Slot), lv_has ls 9 [(0, .ref (al.2 57 0)), (1, .ref (al.2 56 pi)), (2, .int time), (3, .ref (al.2 56 pj)), (4, .int conn), (5, .int l5_1)] → GI al iv_2 rv_3 → FR ([60, 61], []) iv iv_2 → FR ([60, 61], []) rv rv_3 → UW D cA sz al iv_2 rv_3 H → va_S (Aq sz) s.heap H locs → (0 ≤ l5_1.toInt ∧ l5_1.toInt ≤ 40) → (∀ k : Nat, (k : Int) < l5_1.toInt → (iv_2 60 0 k).toInt = 0) → (40 - l5_1.toInt).toNat < n_3 → W p l e (rm 1) s m args below meth c H locs 0 0 Q (F0 m 3 ls []) := by
    intro n_3
    induction n_3 with
    | zero =>
      intro l5_1 iv_2 rv_3 H locs ls hl hG hF1 hF2 hU hS i3_0 i3_1 hm_3
      exact absurd hm_3 (Nat.not_lt_zero _)
    | succ n_3 ih_3 =>
      intro l5_1 iv_2 rv_3 H locs ls hl hG hF1 hF2 hU hS i3_0 i3_1 hm_3
      refine lv_iload hx hb dX10_soonestBy_3 (lv_at hl 5 rfl) ?_
      refine lv_aload_n hx hb dX10_soonestBy_5 rfl (lv_at hl 0 rfl) ?_
      refine g_57_1 C hU hG (h1_57 hG) fl_X10_28 dX10_soonestBy_6 (fun x_4 e_5 le_5 ue_5 => ?_)
      have te_5 := congrArg Int32.toInt e_5
      have ne_5 : x_4.toInt = (iv 57 0 1).toInt := by rw [e_5, hF1 57 0 1 (by decide)]
      refine b_icmp_ge (tgt := 26) hx hb dX10_soonestBy_9 (by decide) (fun c_6 => ?_) (fun c_6 => ?_)
      ·
        have hFz := hF1
        have hz60 : ∀ k : Nat, (k : Int) < (iv 57 0 1).toInt → (iv_2 60 0 k).toInt = 0 := fun k hk => i3_1 k (by omega)
        have hBLz := bl_kp hG0 pre0 hF1 hF2
        refine lv_aload_n hx hb dX10_soonestBy_26 rfl (lv_at hl 0 rfl) ?_
        refine lv_iconst (v := 0) hx hb dX10_soonestBy_27 (by decide) ?_
        refine lv_aload_n hx hb dX10_soonestBy_28 rfl (lv_at hl 1 rfl) ?_
        refine lv_iload_n hx hb dX10_soonestBy_29 rfl (lv_at hl 2 rfl) ?_
        refine q_fi (q_runV (t := 57) (i := 0) (As := [.int 0, .ref (al.2 56 pi), .int time]) (rest := []) C hU (c_X10_reach_x hG 0 (pi) hpi time (by omega) (fun k hk => by exfalso; omega) (hBLz) (qu_0 hFz hz60)) vm_X10_reach ml_X10_94 k_57.1 (hc := rfl) rfl (h1_57 hG) hl.1 rfl rfl (Nat.le_of_ble_eq_true rfl) dX10_soonestBy_30 rfl rfl ⟨Nat.le_of_ble_eq_true rfl, Nat.le_of_ble_eq_true rfl⟩ ⟨Nat.le_refl _, Nat.le_refl _⟩) hS (fun x_12 iv_8 rv_9 H locs hG fa_10 fb_11 hp_7 hU hS => ?_)
        have hF1 := hF1.tr (m := ([60, 61], [])) fa_10 (by decide)
        have hF2 := hF2.tr (m := ([60, 61], [])) fb_11 (by decide)
        refine lv_istore (lv' := [(5, .int x_12), (0, .ref (al.2 57 0)), (1, .ref (al.2 56 pi)), (2, .int time), (3, .ref (al.2 56 pj)), (4, .int conn)]) hx hb dX10_soonestBy_33 hl (by decide) rfl (fun ls hl => ?_)
        refine lv_bipush (v := (-9)) hx hb dX10_soonestBy_35 (by decide) ?_
        refine lv_istore (lv' := [(6, .int (-9)), (5, .int x_12), (0, .ref (al.2 57 0)), (1, .ref (al.2 56 pi)), (2, .int time), (3, .ref (al.2 56 pj)), (4, .int conn)]) hx hb dX10_soonestBy_37 hl (by decide) rfl (fun ls hl => ?_)
        refine lv_iconst (v := 0) hx hb dX10_soonestBy_39 (by decide) ?_
        refine lv_istore (lv' := [(7, .int 0), (6, .int (-9)), (5, .int x_12), (0, .ref (al.2 57 0)), (1, .ref (al.2 56 pi)), (2, .int time), (3, .ref (al.2 56 pj)), (4, .int conn)]) hx hb dX10_soonestBy_40 hl (by decide) rfl (fun ls hl => ?_)
        have J_42 : ∀ (n_42 : Nat) (l5_13 : Int32) (l6_14 : Int32) (l7_15 : Int32) (iv_16 : Iv) (rv_17 : Rv) (H : Heap) (locs : List Loc) (ls : Array Slot), lv_has ls 9 [(0, .ref (al.2 57 0)), (3, .ref (al.2 56 pj)), (4, .int conn), (5, .int l5_13), (6, .int l6_14), (7, .int l7_15)] → GI al iv_16 rv_17 → FR ([60, 61], []) iv iv_16 → FR ([60, 61], []) rv rv_17 → UW D cA sz al iv_16 rv_17 H → va_S (Aq sz) s.heap H locs → (0 ≤ l5_13.toInt ∧ l5_13.toInt ≤ 40) → (-9 ≤ l6_14.toInt ∧ l6_14.toInt ≤ 2147483647) → (0 ≤ l7_15.toInt ∧ l7_15.toInt ≤ 40) → (∀ k : Nat, (k : Int) < l5_13.toInt → ∃ j, rv_17 61 0 k = some j) → SI iv iv_16 rv_17 pi time.toInt pj l5_13 l6_14 l7_15.toNatClampNeg → l7_15.toInt ≤ l5_13.toInt → (40 - l7_15.toInt).toNat < n_42 → W p l e (rm 1) s m args below meth c H locs 0 0 Q (F0 m 42 ls []) := by
          intro n_42
          induction n_42 with
          | zero =>
            intro l5_13 l6_14 l7_15 iv_16 rv_17 H locs ls hl hG hF1 hF2 hU hS i42_0 i42_1 i42_2 i42_3 i42_4 i42_5 hm_42
            exact absurd hm_42 (Nat.not_lt_zero _)
          | succ n_42 ih_42 =>
            intro l5_13 l6_14 l7_15 iv_16 rv_17 H locs ls hl hG hF1 hF2 hU hS i42_0 i42_1 i42_2 i42_3 i42_4 i42_5 hm_42
            have hBL := bl_kp hG0 pre0 hF1 hF2
            refine lv_iload hx hb dX10_soonestBy_42 (lv_at hl 5 rfl) ?_
            refine lv_iload hx hb dX10_soonestBy_44 (lv_at hl 3 rfl) ?_
            refine b_icmp_ge (tgt := 125) hx hb dX10_soonestBy_46 (by decide) (fun c_18 => ?_) (fun c_18 => ?_)
            ·
              refine lv_iload hx hb dX10_soonestBy_125 (lv_at hl 4 rfl) ?_
              exact hret (⟨hG, hF1, hF2, sy_end hG0 pre0 i42_4 ⟨⟨by omega, by omega⟩, congrArg Int32.toInt (hF1 57 0 1 (by decide))⟩⟩) hU hS dX10_soonestBy_127
            ·
              refine lv_iload hx hb dX10_soonestBy_49 (lv_at hl 5 rfl) ?_
              refine lv_bipush (v := 40) hx hb dX10_soonestBy_51 (by decide) ?_
              refine b_icmp_ge (tgt := 125) hx hb dX10_soonestBy_53 (by decide) (fun c_19 => ?_) (fun c_19 => ?_)
              ·
                refine lv_iload hx hb dX10_soonestBy_125 (lv_at hl 4 rfl) ?_
                exact hret (⟨hG, hF1, hF2, sy_end hG0 pre0 i42_4 ⟨⟨by omega, by omega⟩, congrArg Int32.toInt (hF1 57 0 1 (by decide))⟩⟩) hU hS dX10_soonestBy_127
              ·
                refine lv_aload_n hx hb dX10_soonestBy_56 rfl (lv_at hl 0 rfl) ?_
                refine g_57_4 C hU hG (h1_57 hG) fl_X10_25 dX10_soonestBy_57 ?_
                refine lv_iload hx hb dX10_soonestBy_60 (lv_at hl 5 rfl) ?_
                refine a_61 C hU hG (h1_61 hG) (x := l7_15) (by omega) (by omega) dX10_soonestBy_62 (fun r_20 er_21 hb_22 => ?_)
                obtain ⟨j_23, ej_24⟩ : ∃ j, r_20 = some j := (i42_3 _ (by have := ix_nat (x := l7_15) (by omega); omega)).imp (fun _ h => er_21.trans h)
                subst ej_24
                have hl : lv_has ls 9 [(0, .ref (al.2 57 0)), (3, .ref (al.2 56 pj)), (4, .int conn), (5, .int l5_13), (6, .int l6_14), (7, .int l7_15)] := hl
                have hb_25 : j_23 < al.1 62 := hb_22 j_23 rfl
                refine lv_astore (lv' := [(8, .ref (al.2 62 j_23)), (0, .ref (al.2 57 0)), (3, .ref (al.2 56 pj)), (4, .int conn), (5, .int l5_13), (6, .int l6_14), (7, .int l7_15)]) hx hb dX10_soonestBy_63 hl (by decide) rfl (fun ls hl => ?_)
                have hb8 := hb_25
                have hj8 := er_21
                have hn8 := sy_q i42_4 hj8 (by omega)
                have hra8 := (rt_x hG0 pre0 hb_25 (sy_lg hG0 pre0 hb_25 i42_4 hn8)).2.1
                refine lv_aload hx hb dX10_soonestBy_65 (lv_at hl 0 rfl) ?_
                refine g_62_2 C hU hG hb_25 fl_X10_52 dX10_soonestBy_67 (fun j_26 ej_27 hb_28 => ?_)
                have nej_27 : rv 62 j_23 2 = some j_26 := (hF2 62 j_23 2 (by decide)).symm.trans ej_27
                have hto := lf_to hG0 pre0.1.2.1 hb_25 rfl nej_27
                refine lv_aload_n hx hb dX10_soonestBy_70 rfl (lv_at hl 2 rfl) ?_
                have J_98 : ∀ (l6_29 : Int32) (ls : Array Slot), lv_has ls 9 [(0, .ref (al.2 57 0)), (3, .ref (al.2 56 pj)), (4, .int conn), (5, .int l5_13), (7, .int l7_15), (8, .ref (al.2 62 j_23)), (6, .int l6_29)] → (-9 ≤ l6_29.toInt ∧ l6_29.toInt ≤ 2147483647) → mnQ iv rv_17 pj l6_29 (l7_15.toNatClampNeg + 1) → W p l e (rm 1) s m args below meth c H locs 0 0 Q (F0 m 98 ls []) := by
                  intro l6_29 ls hl i98_0 i98_1
                  have hFl := hF1
                  have hGl := hG
                  refine lv_aload_n hx hb dX10_soonestBy_98 rfl (lv_at hl 0 rfl) ?_
                  refine lv_iload hx hb dX10_soonestBy_99 (lv_at hl 3 rfl) ?_
                  refine lv_aload hx hb dX10_soonestBy_101 (lv_at hl 5 rfl) ?_
                  refine g_62_2 C hU hG hb_25 fl_X10_52 dX10_soonestBy_103 (fun j_30 ej_31 hb_32 => ?_)
                  have nej_31 : rv 62 j_23 2 = some j_30 := (hF2 62 j_23 2 (by decide)).symm.trans ej_31
                  have hto2 := lf_to hG0 pre0.1.2.1 hb_25 rfl nej_31
                  refine lv_aload hx hb dX10_soonestBy_106 (lv_at hl 5 rfl) ?_
                  refine g_62_11 C hU hG hb_25 fl_X10_98 dX10_soonestBy_108 (fun x_33 e_34 => ?_)
                  have te_34 := congrArg Int32.toInt e_34
                  have ne_34 : x_33.toInt = (iv 62 j_23 11).toInt := by rw [e_34, hF1 62 j_23 11 (by decide)]
                  have h108 := e_34.trans ((hF1 62 _ 11 (by decide)).trans hra8)
                  refine lv_iload hx hb dX10_soonestBy_111 (lv_at hl 2 rfl) ?_
                  refine lv_iadd hx hb dX10_soonestBy_113 ?_
                  refine lv_topi (fun x_35 e_36 => ?_)
                  refine q_fi (q_runV (t := 57) (i := 0) (As := [.int l5_13, .ref (al.2 56 j_30), .int x_35]) (rest := []) C hU (c_X10_reach_x hG l5_13 (j_30) hb_32 x_35 (by omega) (i42_3) (hBL) (i42_4.1)) vm_X10_reach ml_X10_94 k_57.1 (hc := rfl) rfl (h1_57 hG) hl.1 rfl rfl (Nat.le_of_ble_eq_true rfl) dX10_soonestBy_114 rfl rfl ⟨Nat.le_of_ble_eq_true rfl, Nat.le_of_ble_eq_true rfl⟩ ⟨Nat.le_refl _, Nat.le_refl _⟩) hS (fun x_42 iv_38 rv_39 H locs hG fa_40 fb_41 hp_37 hU hS => ?_)
                  have hF1 := hF1.tr (m := ([60, 61], [])) fa_40 (by decide)
                  have hF2 := hF2.tr (m := ([60, 61], [])) fb_41 (by decide)
                  refine lv_istore (lv' := [(5, .int x_42), (0, .ref (al.2 57 0)), (3, .ref (al.2 56 pj)), (4, .int conn), (7, .int l7_15), (8, .ref (al.2 62 j_23)), (6, .int l6_29)]) hx hb dX10_soonestBy_117 hl (by decide) rfl (fun ls hl => ?_)
                  obtain ⟨x_43, e_44⟩ : ∃ y : Int32, y = l7_15 + 1 := ⟨_, rfl⟩
                  have te_44 : x_43.toInt = (l7_15 : Int32).toInt + (1 : Int32).toInt := by rw [e_44]; exact fb_addI (by omega) (by omega)
                  refine lv_iinc (v := x_43) (lv' := [(7, .int x_43), (5, .int x_42), (0, .ref (al.2 57 0)), (3, .ref (al.2 56 pj)), (4, .int conn), (8, .ref (al.2 62 j_23)), (6, .int l6_29)]) hx hb dX10_soonestBy_119 hl (k := 4) rfl (by rw [e_44]; rfl) (by decide) rfl (fun ls hl => ?_)
                  refine lv_goto (tgt := 42) hx hb dX10_soonestBy_122 (by decide) ?_
                  exact ih_42 x_42 l6_29 x_43 _ _ _ _ _ (lv_sub hl [2, 3, 4, 1, 6, 0] rfl) hG hF1 hF2 hU hS (by omega) (by omega) (by omega) (by first | exact hp_37.2.2.1.nn | exact hp_7.2.2.1.nn) (by first | exact sy_step hG0 pre0 pre1 hFl hb8 i42_4 hj8 hn8.2 hp_37.2.2 hto2 i98_1 h108 e_36 tcon ⟨by omega, by omega, by omega⟩ | exact sy_0 pre0 hp_7.2.2 hFz hz60) (by omega) (by omega)
                refine b_acmp_ne (tgt := 98) hx hb hU hb_28 hpj dX10_soonestBy_71 (by decide) (fun c_45 => ?_) (fun c_45 => ?_)
                ·
                  exact J_98 l6_14 _ (lv_sub hl [1, 2, 3, 4, 6, 0, 5] rfl) (by omega) (by first | exact mn_put i42_4.2.2.2.2 hj8 (by omega) h91 True.intro | exact mn_keep i42_4.2.2.2.2 hj8 (by omega))
                ·
                  refine lv_iload hx hb dX10_soonestBy_74 (lv_at hl 5 rfl) ?_
                  refine lv_bipush (v := (-9)) hx hb dX10_soonestBy_76 (by decide) ?_
                  have J_91 : ∀ (ls : Array Slot), lv_has ls 9 [(0, .ref (al.2 57 0)), (3, .ref (al.2 56 pj)), (4, .int conn), (5, .int l5_13), (7, .int l7_15), (8, .ref (al.2 62 j_23))] → (l6_14.toInt = -9 ∨ (raF iv j_23).toInt < l6_14.toInt) → W p l e (rm 1) s m args below meth c H locs 0 0 Q (F0 m 91 ls []) := by
                    intro ls hl i91_0
                    refine lv_aload hx hb dX10_soonestBy_91 (lv_at hl 5 rfl) ?_
                    refine g_62_11 C hU hG hb_25 fl_X10_98 dX10_soonestBy_93 (fun x_46 e_47 => ?_)
                    have te_47 := congrArg Int32.toInt e_47
                    have ne_47 : x_46.toInt = (iv 62 j_23 11).toInt := by rw [e_47, hF1 62 j_23 11 (by decide)]
                    have h91 := e_47.trans ((hF1 62 _ 11 (by decide)).trans hra8)
                    have t91 := congrArg Int32.toInt h91
                    have g91 := ra_ge iv j_23
                    have u91 := fb_rng (raF iv j_23)
                    refine lv_istore (lv' := [(6, .int x_46), (0, .ref (al.2 57 0)), (3, .ref (al.2 56 pj)), (4, .int conn), (5, .int l5_13), (7, .int l7_15), (8, .ref (al.2 62 j_23))]) hx hb dX10_soonestBy_96 hl (by decide) rfl (fun ls hl => ?_)
                    exact J_98 x_46 _ (lv_sub hl [1, 2, 3, 4, 5, 6, 0] rfl) (by omega) (by first | exact mn_put i42_4.2.2.2.2 hj8 (by omega) h91 i91_0 | exact mn_keep i42_4.2.2.2.2 hj8 (by omega))
                  refine b_icmp_eq (tgt := 91) hx hb dX10_soonestBy_78 (by decide) (fun c_48 => ?_) (fun c_48 => ?_)
                  ·
                    exact J_91 _ (lv_sub hl [1, 2, 3, 4, 6, 0] rfl) (by omega)
                  ·
                    refine lv_aload hx hb dX10_soonestBy_81 (lv_at hl 0 rfl) ?_
                    refine g_62_11 C hU hG hb_25 fl_X10_98 dX10_soonestBy_83 (fun x_49 e_50 => ?_)
                    have te_50 := congrArg Int32.toInt e_50
                    have ne_50 : x_49.toInt = (iv 62 j_23 11).toInt := by rw [e_50, hF1 62 j_23 11 (by decide)]
                    have h83 := e_50.trans ((hF1 62 _ 11 (by decide)).trans hra8)
                    have t83 := congrArg Int32.toInt h83
                    refine lv_iload hx hb dX10_soonestBy_86 (lv_at hl 5 rfl) ?_
                    refine b_icmp_ge (tgt := 98) hx hb dX10_soonestBy_88 (by decide) (fun c_51 => ?_) (fun c_51 => ?_)
                    ·
                      exact J_98 l6_14 _ (lv_sub hl [1, 2, 3, 4, 6, 0, 5] rfl) (by omega) (by first | exact mn_put i42_4.2.2.2.2 hj8 (by omega) h91 i91_0 | exact mn_keep i42_4.2.2.2.2 hj8 (by omega))
                    ·
                      exact J_91 _ (lv_sub hl [1, 2, 3, 4, 6, 0] rfl) (by omega)
        exact J_42 _ x_12 (-9) 0 _ _ _ _ _ (lv_sub hl [3, 6, 7, 2, 1, 0] rfl) hG hF1 hF2 hU hS (by omega) (by omega) (by omega) (by first | exact True.intro.2.2.1.nn | exact hp_7.2.2.1.nn) (by first | exact sy_step hG0 pre0 pre1 hFl hb8 i42_4 hj8 hn8.2 True.intro.2.2 hto2 i98_1 h108 True.intro tcon ⟨by omega, by omega, by omega⟩ | exact sy_0 pre0 hp_7.2.2 hFz hz60) (by omega) (Nat.lt_succ_self _)
      ·
        refine lv_aload_n hx hb dX10_soonestBy_12 rfl (lv_at hl 0 rfl) ?_
        refine g_57_3 C hU hG (h1_57 hG) fl_X10_21 dX10_soonestBy_13 ?_
        refine lv_iload hx hb dX10_soonestBy_16 (lv_at hl 5 rfl) ?_
        refine lv_iconst (v := 0) hx hb dX10_soonestBy_18 (by decide) ?_
        refine s_60 C hU hS (h1_60 hG) (x := l5_1) (by omega) (by omega) (by omega) (by omega) dX10_soonestBy_19 (fun iv_52 H locs ei_53 hU hS => ?_)
        have hG : GI al iv_52 rv_3 := by rw [ei_53]; exact hG.puti (show _ ∧ _ from ⟨show (0 : Int) ≤ _ by omega, show _ ≤ (1 : Int) by omega⟩) (nsA (by decide) _)
        have hF1 : FR ([60, 61], []) iv iv_52 := by rw [ei_53]; exact hF1.put (Or.inl (by decide))
        obtain ⟨x_54, e_55⟩ : ∃ y : Int32, y = l5_1 + 1 := ⟨_, rfl⟩
        have te_55 : x_54.toInt = (l5_1 : Int32).toInt + (1 : Int32).toInt := by rw [e_55]; exact fb_addI (by omega) (by omega)
        refine lv_iinc (v := x_54) (lv' := [(5, .int x_54), (0, .ref (al.2 57 0)), (1, .ref (al.2 56 pi)), (2, .int time), (3, .ref (al.2 56 pj)), (4, .int conn)]) hx hb dX10_soonestBy_20 hl (k := 5) rfl (by rw [e_55]; rfl) (by decide) rfl (fun ls hl => ?_)
        refine lv_goto (tgt := 3) hx hb dX10_soonestBy_23 (by decide) ?_
        exact ih_3 x_54 _ _ _ _ _ (lv_sub hl [1, 2, 3, 4, 5, 0] rfl) hG hF1 hF2 hU hS (by omega) (by first | exact sy_z i3_1 ei_53 (by omega) (by omega) | (intro k hk; exfalso; omega)) (by omega)
  exact J_3 _ 0 _ _ _ _ _ (lv_sub hl [1, 2, 3, 4, 5, 0] rfl) hG hF1 hF2 hU hS (by omega) (by first | exact sy_z i3_1 True.intro (by omega) (by omega) | (intro k hk; exfalso; omega)) (Nat.lt_succ_self _)
set_option maxHeartbeats 4000000 in
set_option maxRecDepth 100000 in
theorem c_X11_soonestOf_x {l : Launch} {D : va_G} {cA : FieldType → ClassId} {sz : Nat} {al : Al} {iv : Iv} {rv : Rv} (hG : GI al iv rv) (ti : Nat) (hti : ti < al.1 65) (pre0 : BS iv rv) : Met l yX11_soonestOf (wd yX11_soonestOf cX11_soonestOf 6 (some .int)) (rm 2) (PcW D cA sz al iv rv [.ref (al.2 49 0), .ref (al.2 65 ti)]) (QI D cA sz al (fI al ([60, 61], []) iv rv (fun r iv' rv' => r = soF iv ti))) 0 0 (Aq sz) := by
  refine mk_i (by decide) (Nat.le_of_ble_eq_true rfl) rfl ?_
  intro p e s m args below meth c ls Q H locs C hU hS hl hret
  have hx := C.1.1
  have hb := C.1.2.1
  have hl : lv_has ls 6 [(0, .ref (al.2 49 0)), (1, .ref (al.2 65 ti))] := hl
  have hG0 := hG
  have htk := tk_k hG pre0.1 hti
  have h19 : (iv 19 0 ti).toInt ≤ 40 := by rw [htk.1]; have := sz4 hG hti; omega
  have c19 := congrArg Int32.toInt htk.1
  have hF1 : FR ([60, 61], []) iv iv := FR.rf
  have hF2 : FR ([60, 61], []) rv rv := FR.rf
  have km9 : ((-9) : Int32).toInt = -9 := by decide
  have k1 : (1 : Int32).toInt = 1 := by decide
  have k2 : (2 : Int32).toInt = 2 := by decide
  refine lv_aload_n hx hb dX11_soonestOf_0 rfl (lv_at hl 0 rfl) ?_
  refine g_49_7 C hU hG (h1_49 hG) fl_X11_67 dX11_soonestOf_1 ?_
  refine lv_iconst (v := 2) hx hb dX11_soonestOf_4 (by decide) ?_
  refine a_50 C hU hG (h1_50 hG) (x := 2) (by omega) (by omega) dX11_soonestOf_5 (fun x_1 e_2 le_2 ue_2 => ?_)
  have te_2 := congrArg Int32.toInt e_2
  refine lv_istore_n (lv' := [(2, .int x_1), (0, .ref (al.2 49 0)), (1, .ref (al.2 65 ti))]) hx hb dX11_soonestOf_6 rfl hl (by decide) rfl (fun ls hl => ?_)
  refine lv_aload_n hx hb dX11_soonestOf_7 rfl (lv_at hl 2 rfl) ?_
  refine lv_iload_n hx hb dX11_soonestOf_8 rfl (lv_at hl 0 rfl) ?_
  refine q_pi (q_runV (t := 65) (i := ti) (As := [.int x_1]) (rest := []) C hU (c_X8_missedPlace_x hG (ti) hti x_1 (pre0.1) (by rw [e_2]; exact (pre0.1.1.1.2.2 2 (by decide)).symm)) vm_X8_missedPlace ml_X11_208 k_65.1 (hc := rfl) rfl hti hl.1 rfl rfl (Nat.le_of_ble_eq_true rfl) dX11_soonestOf_9 rfl rfl ⟨Nat.le_of_ble_eq_true rfl, Nat.le_of_ble_eq_true rfl⟩ ⟨Nat.le_refl _, Nat.le_refl _⟩) hS (fun x_4 H locs hp_3 hU hS => ?_)
  refine lv_istore_n (lv' := [(3, .int x_4), (2, .int x_1), (0, .ref (al.2 49 0)), (1, .ref (al.2 65 ti))]) hx hb dX11_soonestOf_12 rfl hl (by decide) rfl (fun ls hl => ?_)
  have hmp := hp_3.2.1
  have tmp := mpx_t hmp
  refine lv_iload_n hx hb dX11_soonestOf_13 rfl (lv_at hl 0 rfl) ?_
  refine lv_bipush (v := (-9)) hx hb dX11_soonestOf_14 (by decide) ?_
  refine b_icmp_ne (tgt := 27) hx hb dX11_soonestOf_16 (by decide) (fun c_5 => ?_) (fun c_5 => ?_)
  ·
    refine lv_aload_n hx hb dX11_soonestOf_27 rfl (lv_at hl 3 rfl) ?_
    refine g_65_3 C hU hG hti fl_X11_350 dX11_soonestOf_28 (fun hb_6 => ?_)
    refine lv_iload_n hx hb dX11_soonestOf_31 rfl (lv_at hl 0 rfl) ?_
    refine a_66 C hU hG hb_6 (x := x_4) (by omega) (by omega) dX11_soonestOf_32 (fun r_7 er_8 hb_9 => ?_)
    obtain ⟨j_10, ej_11⟩ : ∃ j, r_7 = some j := (tleg hG hti (by omega) (by omega)).imp (fun _ h => er_8.trans h)
    subst ej_11
    have hl : lv_has ls 6 [(3, .int x_4), (2, .int x_1), (0, .ref (al.2 49 0)), (1, .ref (al.2 65 ti))] := hl
    have hb_12 : j_10 < al.1 62 := hb_9 j_10 rfl
    refine lv_astore (lv' := [(4, .ref (al.2 62 j_10)), (3, .int x_4), (2, .int x_1), (0, .ref (al.2 49 0)), (1, .ref (al.2 65 ti))]) hx hb dX11_soonestOf_33 hl (by decide) rfl (fun ls hl => ?_)
    have hw4 := tk_ix hG0 pre0.1 hti er_8 (by omega) (by omega)
    have hms : x_4 = msF iv ti := tmp.elim (fun z => by omega) (fun z => z.1)
    have tms := congrArg Int32.toInt hms
    refine lv_iload_n hx hb dX11_soonestOf_35 rfl (lv_at hl 1 rfl) ?_
    have J_58 : ∀ (v_13 : Int32) (ls : Array Slot), lv_has ls 6 [(0, .ref (al.2 49 0)), (1, .ref (al.2 65 ti)), (2, .int x_1), (4, .ref (al.2 62 j_10))] → v_13.toInt = stT iv ti → W p l e (rm 2) s m args below meth c H locs 0 0 Q (F0 m 58 ls [.int v_13]) := by
      intro v_13 ls hl i58_0
      refine lv_istore (lv' := [(5, .int v_13), (0, .ref (al.2 49 0)), (1, .ref (al.2 65 ti)), (2, .int x_1), (4, .ref (al.2 62 j_10))]) hx hb dX11_soonestOf_58 hl (by decide) rfl (fun ls hl => ?_)
      refine lv_aload_n hx hb dX11_soonestOf_60 rfl (lv_at hl 1 rfl) ?_
      refine g_49_1 C hU hG (h1_49 hG) fl_X11_19 dX11_soonestOf_61 ?_
      refine lv_aload hx hb dX11_soonestOf_64 (lv_at hl 4 rfl) ?_
      refine g_62_1 C hU hG hb_12 fl_X11_354 dX11_soonestOf_66 (fun j_14 ej_15 hb_16 => ?_)
      have hfr := lf_fr hG0 pre0.1.1.1.2.1 hb_12 ej_15
      rw [hw4] at hfr
      refine lv_iload hx hb dX11_soonestOf_69 (lv_at hl 0 rfl) ?_
      refine lv_aload_n hx hb dX11_soonestOf_71 rfl (lv_at hl 2 rfl) ?_
      refine g_65_2 C hU hG hti fl_X11_343 dX11_soonestOf_72 (fun j_17 ej_18 hb_19 => ?_)
      have hth2 := sx_last htk ej_18
      have hb72 := hb_19
      refine g_62_2 C hU hG hb_19 fl_X11_358 dX11_soonestOf_75 (fun j_20 ej_21 hb_22 => ?_)
      have hto := lf_to hG0 pre0.1.1.1.2.1 hb72 rfl ej_21
      rw [hth2] at hto
      refine lv_iload_n hx hb dX11_soonestOf_78 rfl (lv_at hl 3 rfl) ?_
      refine q_fi (q_runV (t := 57) (i := 0) (As := [.ref (al.2 56 j_14), .int v_13, .ref (al.2 56 j_20), .int x_1]) (rest := []) C hU (c_X10_soonestBy_x hG (j_14) hb_16 v_13 (j_20) hb_22 x_1 (pre0.1.1) (pre0.2) (by rw [e_2]; exact (pre0.1.1.1.2.2 2 (by decide)).symm)) vm_X10_soonestBy ml_X11_361 k_57.1 (hc := rfl) rfl (h1_57 hG) hl.1 rfl rfl (Nat.le_of_ble_eq_true rfl) dX11_soonestOf_79 rfl rfl ⟨Nat.le_of_ble_eq_true rfl, Nat.le_of_ble_eq_true rfl⟩ ⟨Nat.le_refl _, Nat.le_refl _⟩) hS (fun x_28 iv_24 rv_25 H locs hG fa_26 fb_27 hp_23 hU hS => ?_)
      have hF1 := hF1.tr (m := ([60, 61], [])) fa_26 (by decide)
      have hF2 := hF2.tr (m := ([60, 61], [])) fb_27 (by decide)
      exact hret (⟨hG, hF1, hF2, by unfold soF; rw [if_neg (by omega), hp_23, hfr, hto, i58_0, hms]⟩) hU hS dX11_soonestOf_82
    refine b_if_ne (tgt := 47) hx hb dX11_soonestOf_36 (by decide) (fun c_29 => ?_) (fun c_29 => ?_)
    ·
      refine lv_aload_n hx hb dX11_soonestOf_47 rfl (lv_at hl 4 rfl) ?_
      refine g_65_3 C hU hG hti fl_X11_350 dX11_soonestOf_48 (fun hb_30 => ?_)
      refine lv_iload_n hx hb dX11_soonestOf_51 rfl (lv_at hl 1 rfl) ?_
      refine lv_iconst (v := 1) hx hb dX11_soonestOf_52 (by decide) ?_
      refine lv_isub hx hb dX11_soonestOf_53 ?_
      refine lv_topi (fun x_31 e_32 => ?_)
      have te_32 : x_31.toInt = (x_4 : Int32).toInt - (1 : Int32).toInt := by rw [e_32]; exact fb_subI (by omega) (by omega)
      refine a_66 C hU hG hb_30 (x := x_31) (by omega) (by omega) dX11_soonestOf_54 (fun r_33 er_34 hb_35 => ?_)
      obtain ⟨j_36, ej_37⟩ : ∃ j, r_33 = some j := (tleg hG hti (by omega) (by omega)).imp (fun _ h => er_34.trans h)
      subst ej_37
      have hl : lv_has ls 6 [(4, .ref (al.2 62 j_10)), (3, .int x_4), (2, .int x_1), (0, .ref (al.2 49 0)), (1, .ref (al.2 65 ti))] := hl
      have hb_38 : j_36 < al.1 62 := hb_35 j_36 rfl
      have hw5 := tk_ix1 (x := x_4) hG0 pre0.1 hti er_34 (by omega) (by omega) (by omega)
      have hrt5 := rt_x hG0 pre0.1.1 hb_38 (sx_lg hG0 pre0.1 hb_38 hw5 hms (by omega) h19)
      refine g_62_11 C hU hG hb_38 fl_X11_347 dX11_soonestOf_55 (fun x_39 e_40 => ?_)
      have te_40 := congrArg Int32.toInt e_40
      have h55 := e_40.trans hrt5.2.1
      rw [hw5] at h55
      have t55 := congrArg Int32.toInt h55
      exact J_58 x_39 _ (lv_sub hl [3, 4, 2, 0] rfl) (by unfold stT; rw [← hms]; first | (rw [if_pos (by rw [clamp_n]; omega)]; omega) | (rw [if_neg (by rw [clamp_n]; omega)]; omega))
    ·
      refine lv_aload hx hb dX11_soonestOf_39 (lv_at hl 0 rfl) ?_
      refine g_62_5 C hU hG hb_12 fl_X11_177 dX11_soonestOf_41 (fun x_41 e_42 le_42 ue_42 => ?_)
      have te_42 := congrArg Int32.toInt e_42
      have z3 : x_4.toNatClampNeg = 0 := by rw [clamp_n]; omega
      rw [z3] at hw4
      have t41 := sx_lv hG0 pre0.1 hb_12 hw4 e_42
      refine lv_goto (tgt := 58) hx hb dX11_soonestOf_44 (by decide) ?_
      exact J_58 x_41 _ (lv_sub hl [3, 4, 2, 0] rfl) (by unfold stT; rw [← hms]; first | (rw [if_pos (by rw [clamp_n]; omega)]; omega) | (rw [if_neg (by rw [clamp_n]; omega)]; omega))
  ·
    refine lv_aload_n hx hb dX11_soonestOf_19 rfl (lv_at hl 3 rfl) ?_
    refine g_65_2 C hU hG hti fl_X11_343 dX11_soonestOf_20 (fun j_43 ej_44 hb_45 => ?_)
    have hth := sx_last htk ej_44
    refine g_62_11 C hU hG hb_45 fl_X11_347 dX11_soonestOf_23 (fun x_46 e_47 => ?_)
    have te_47 := congrArg Int32.toInt e_47
    have h23 := sx_ra hG0 pre0.1 e_47 hth (by omega) hti htk
    exact hret (⟨hG, hF1, hF2, by unfold soF; rw [if_pos (by omega)]; exact h23⟩) hU hS dX11_soonestOf_26
end
section
set_option maxHeartbeats 4000000 in
set_option maxRecDepth 100000 in
theorem c_X11_hoursOf_x {l : Launch} {D : va_G} {cA : FieldType → ClassId} {sz : Nat} {al : Al} {iv : Iv} {rv : Rv} (hG : GI al iv rv) (ti : Nat) (hti : ti < al.1 65) (pre0 : BS iv rv) : Met l yX11_hoursOf (wd yX11_hoursOf cX11_hoursOf 3 (some .int)) (rm 3) (PcW D cA sz al iv rv [.ref (al.2 49 0), .ref (al.2 65 ti)]) (QI D cA sz al (fI al ([60, 61], []) iv rv (fun r iv' rv' => r = hoF iv ti))) 0 0 (Aq sz) := by
  refine mk_i (by decide) (Nat.le_of_ble_eq_true rfl) rfl ?_
  intro p e s m args below meth c ls Q H locs C hU hS hl hret
  have hx := C.1.1
  have hb := C.1.2.1
  have hl : lv_has ls 3 [(0, .ref (al.2 49 0)), (1, .ref (al.2 65 ti))] := hl
  have hG0 := hG
  have htk := tk_k hG pre0.1 hti
  have hF1 : FR ([60, 61], []) iv iv := FR.rf
  have hF2 : FR ([60, 61], []) rv rv := FR.rf
  have km9 : ((-9) : Int32).toInt = -9 := by decide
  have k0 : (0 : Int32).toInt = 0 := by decide
  have k9999 : (9999 : Int32).toInt = 9999 := by decide
  refine lv_aload_n hx hb dX11_hoursOf_0 rfl (lv_at hl 0 rfl) ?_
  refine lv_aload_n hx hb dX11_hoursOf_1 rfl (lv_at hl 1 rfl) ?_
  refine q_fi (q_runV (t := 49) (i := 0) (As := [.ref (al.2 65 ti)]) (rest := []) C hU (c_X11_soonestOf_x hG (ti) hti (pre0)) vm_X11_soonestOf ml_X11_211 k_49.1 (hc := rfl) rfl (h1_49 hG) hl.1 rfl rfl (Nat.le_of_ble_eq_true rfl) dX11_hoursOf_2 rfl rfl ⟨Nat.le_of_ble_eq_true rfl, Nat.le_of_ble_eq_true rfl⟩ ⟨Nat.le_refl _, Nat.le_refl _⟩) hS (fun x_6 iv_2 rv_3 H locs hG fa_4 fb_5 hp_1 hU hS => ?_)
  have hF1 := hF1.tr (m := ([60, 61], [])) fa_4 (by decide)
  have hF2 := hF2.tr (m := ([60, 61], [])) fb_5 (by decide)
  refine lv_istore_n (lv' := [(2, .int x_6), (0, .ref (al.2 49 0)), (1, .ref (al.2 65 ti))]) hx hb dX11_hoursOf_5 rfl hl (by decide) rfl (fun ls hl => ?_)
  have hso := hp_1
  have tso := so_neg hso
  refine lv_iload_n hx hb dX11_hoursOf_6 rfl (lv_at hl 0 rfl) ?_
  refine lv_bipush (v := (-9)) hx hb dX11_hoursOf_7 (by decide) ?_
  refine b_icmp_ne (tgt := 18) hx hb dX11_hoursOf_9 (by decide) (fun c_7 => ?_) (fun c_7 => ?_)
  ·
    refine lv_iconst (v := 0) hx hb dX11_hoursOf_18 (by decide) ?_
    refine lv_iload_n hx hb dX11_hoursOf_19 rfl (lv_at hl 0 rfl) ?_
    refine lv_aload_n hx hb dX11_hoursOf_20 rfl (lv_at hl 2 rfl) ?_
    refine g_65_2 C hU hG hti fl_X11_343 dX11_hoursOf_21 (fun j_8 ej_9 hb_10 => ?_)
    have nej_9 : rv 65 ti 2 = some j_8 := (hF2 65 ti 2 (by decide)).symm.trans ej_9
    have hth := sx_last htk nej_9
    have hb21 := hb_10
    refine g_62_6 C hU hG hb_10 fl_X11_365 dX11_hoursOf_24 (fun x_11 e_12 le_12 ue_12 => ?_)
    have te_12 := congrArg Int32.toInt e_12
    have ne_12 : x_11.toInt = (iv 62 j_8 6).toInt := by rw [e_12, hF1 62 j_8 6 (by decide)]
    have h24 := sx_ar hG0 pre0.1 hb21 hth (e_12.trans (hF1 62 _ 6 (by decide)))
    refine lv_isub hx hb dX11_hoursOf_27 ?_
    refine lv_topi (fun x_13 e_14 => ?_)
    refine q_max C hl.1 ml_X11_180 (Nat.le_of_ble_eq_true rfl) (Nat.le_of_ble_eq_true rfl) (Nat.le_refl _) (Nat.le_refl _) dX11_hoursOf_28 (fun x_15 q_16 tq_16 => ?_)
    exact hret (⟨hG, hF1, hF2, by unfold hoF; first | rw [if_pos (by omega)] | rw [if_neg (by omega), q_16, mx0, e_14, h24, hso]⟩) hU hS dX11_hoursOf_31
  ·
    refine lv_sipush (v := 9999) hx hb dX11_hoursOf_12 (by decide) ?_
    refine lv_goto (tgt := 31) hx hb dX11_hoursOf_15 (by decide) ?_
    exact hret (⟨hG, hF1, hF2, by unfold hoF; first | rw [if_pos (by omega)] | rw [if_neg (by omega), True.intro, mx0, True.intro, h24, hso]⟩) hU hS dX11_hoursOf_31
set_option maxHeartbeats 4000000 in
set_option maxRecDepth 100000 in
theorem c_X11_hours_x {l : Launch} {D : va_G} {cA : FieldType → ClassId} {sz : Nat} {al : Al} {iv : Iv} {rv : Rv} (hG : GI al iv rv) (tt : Int32) (pre0 : BS iv rv) : Met l yX11_hours (wd yX11_hours cX11_hours 3 (some .int)) (rm 4) (PcW D cA sz al iv rv [.ref (al.2 49 0), .int tt]) (QI D cA sz al (fI al ([51, 60, 61], []) iv rv (fun r iv' rv' => r = hrS iv tt))) 0 0 (Aq sz) := by
  refine mk_i (by decide) (Nat.le_of_ble_eq_true rfl) rfl ?_
  intro p e s m args below meth c ls Q H locs C hU hS hl hret
  have hx := C.1.1
  have hb := C.1.2.1
  have hl : lv_has ls 3 [(0, .ref (al.2 49 0)), (1, .int tt)] := hl
  have hG0 := hG
  have hn20 := congrArg Int32.toInt pre0.1.2.1
  have hF1 : FR ([51, 60, 61], []) iv iv := FR.rf
  have hF2 : FR ([51, 60, 61], []) rv rv := FR.rf
  have km1 : ((-1) : Int32).toInt = -1 := by decide
  refine lv_aload_n hx hb dX11_hours_0 rfl (lv_at hl 0 rfl) ?_
  refine g_49_2 C hU hG (h1_49 hG) fl_X11_26 dX11_hours_1 ?_
  refine lv_iload_n hx hb dX11_hours_4 rfl (lv_at hl 1 rfl) ?_
  refine q_pr (q_runV (t := 63) (i := 0) (As := [.int tt]) (rest := []) C hU (c_X9_find hG tt ) vm_X9_find ml_X11_192 k_63.1 (hc := rfl) rfl (h1_63 hG) hl.1 rfl rfl (Nat.le_of_ble_eq_true rfl) dX11_hours_5 rfl rfl ⟨Nat.le_of_ble_eq_true rfl, Nat.le_of_ble_eq_true rfl⟩ ⟨Nat.le_refl _, Nat.le_refl _⟩) hS (fun r_2 H locs hp_1 hU hS => ?_)
  have hb_3 := hp_1.1
  refine b_astore_n (lv' := [(2, rfv al 65 r_2), (0, .ref (al.2 49 0)), (1, .int tt)]) hx hb dX11_hours_8 rfl hl (by decide) rfl (fun ls hl => ?_)
  refine b_aload_n (al := al) (t' := 65) (r := r_2) hx hb dX11_hours_9 rfl (lv_at hl 0 rfl) ?_
  refine b_ifnonnull (tgt := 19) hx hb dX11_hours_10 (by decide) (fun j_5 ej_6 => ?_) (fun ej_6 => ?_)
  ·
    subst ej_6
    have hl : lv_has ls 3 [(2, .ref (al.2 65 j_5)), (0, .ref (al.2 49 0)), (1, .int tt)] := hl
    have hb_7 : j_5 < al.1 65 := hb_3 j_5 rfl
    have hq3 := hp_1.2.1 _ rfl
    have hn3 := hq3.1
    rw [clamp_n] at hn3
    refine lv_aload_n hx hb dX11_hours_19 rfl (lv_at hl 1 rfl) ?_
    refine lv_aload_n hx hb dX11_hours_20 rfl (lv_at hl 0 rfl) ?_
    refine q_fi (q_runV (t := 49) (i := 0) (As := [.ref (al.2 65 j_5)]) (rest := []) C hU (c_X11_hoursOf_x hG (j_5) hb_7 (pre0)) vm_X11_hoursOf ml_X11_215 k_49.1 (hc := rfl) rfl (h1_49 hG) hl.1 rfl rfl (Nat.le_of_ble_eq_true rfl) dX11_hours_21 rfl rfl ⟨Nat.le_of_ble_eq_true rfl, Nat.le_of_ble_eq_true rfl⟩ ⟨Nat.le_refl _, Nat.le_refl _⟩) hS (fun x_13 iv_9 rv_10 H locs hG fa_11 fb_12 hp_8 hU hS => ?_)
    have hF1 := hF1.tr (m := ([51, 60, 61], [])) fa_11 (by decide)
    have hF2 := hF2.tr (m := ([51, 60, 61], [])) fb_12 (by decide)
    exact hret (⟨hG, hF1, hF2, by unfold hrS; rw [if_neg (by omega), hp_8, hq3.1]⟩) hU hS dX11_hours_24
  ·
    subst ej_6
    have hl : lv_has ls 3 [(2, rfv al 65 none), (0, .ref (al.2 49 0)), (1, .int tt)] := hl
    have hq3 := hp_1.2.2 rfl
    refine lv_aload_n hx hb dX11_hours_13 rfl (lv_at hl 1 rfl) ?_
    refine lv_iconst (v := (-1)) hx hb dX11_hours_14 (by decide) ?_
    refine q_fi (q_runV (t := 49) (i := 0) (As := [.int (-1)]) (rest := []) C hU (c_X11_refuse hG (-1) (by omega)) vm_X11_refuse ml_X11_77 k_49.1 (hc := rfl) rfl (h1_49 hG) hl.1 rfl rfl (Nat.le_of_ble_eq_true rfl) dX11_hours_15 rfl rfl ⟨Nat.le_of_ble_eq_true rfl, Nat.le_of_ble_eq_true rfl⟩ ⟨Nat.le_refl _, Nat.le_refl _⟩) hS (fun x_19 iv_15 rv_16 H locs hG fa_17 fb_18 hp_14 hU hS => ?_)
    have hF1 := hF1.tr (m := ([51, 60, 61], [])) fa_17 (by decide)
    have hF2 := hF2.tr (m := ([51, 60, 61], [])) fb_18 (by decide)
    exact hret (⟨hG, hF1, hF2, by unfold hrS; rw [if_pos (by omega)]; exact hp_14⟩) hU hS dX11_hours_18
end
