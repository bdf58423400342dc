set_option maxHeartbeats 4000000 in
set_option maxRecDepth 100000 in
theorem c_X5_waitFor_x {l : Launch} {D : va_G} {cA : FieldType → ClassId} {sz : Nat} {al : Al} {iv : Iv} {rv : Rv} (hG : GI al iv rv) (li : Nat) (hli : li < al.1 62) (bf : Option Nat) (hbf : ∀ j, bf = some j → j < al.1 62) (gap : Int32) : Met l yX5_waitFor (wd yX5_waitFor cX5_waitFor 4 (some .int)) (rm 1) (PcW D cA sz al iv rv [.ref (al.2 62 li), rfv al 62 bf, .int gap]) (QI D cA sz al (pI iv rv (fun r => r = wfX iv li bf gap))) 0 0 (Aq sz) := by
  cases bf with
  | none =>
    refine mk_i (by decide) (Nat.le_of_ble_eq_true rfl) rfl ?_
    intro p e s m args below meth c ls Q H locs C hU hS hl hret
    have hx := C.1.1
    have hb := C.1.2.1
    have hl : lv_has ls 4 [(0, .ref (al.2 62 li)), (1, .null), (2, .int gap)] := hl
    have hG0 := hG
    have k0 : (0 : Int32).toInt = 0 := by decide
    refine lv_aload_nN hx hb dX5_waitFor_0 rfl (lv_at hl 1 rfl) ?_
    refine lv_ifnullN (tgt := 11) hx hb dX5_waitFor_1 (by decide) ?_
    refine lv_iconst (v := 0) hx hb dX5_waitFor_11 (by decide) ?_
    exact hret (⟨rfl, rfl, by first | rfl | exact (wfX_0 (by omega)).symm⟩) hU hS dX5_waitFor_12
  | some bf_j =>
    have hbf_j : bf_j < al.1 62 := hbf bf_j rfl
    refine mk_i (by decide) (Nat.le_of_ble_eq_true rfl) rfl ?_
    intro p e s m args below meth c ls Q H locs C hU hS hl hret
    have hx := C.1.1
    have hb := C.1.2.1
    have hl : lv_has ls 4 [(0, .ref (al.2 62 li)), (1, .ref (al.2 62 bf_j)), (2, .int gap)] := hl
    have hG0 := hG
    have k0 : (0 : Int32).toInt = 0 := by decide
    refine lv_aload_n hx hb dX5_waitFor_0 rfl (lv_at hl 1 rfl) ?_
    refine lv_ifnull hx hb dX5_waitFor_1 ?_
    refine lv_aload_n hx hb dX5_waitFor_4 rfl (lv_at hl 1 rfl) ?_
    refine g_62_7 C hU hG hbf_j fl_X5_38 dX5_waitFor_5 (fun x_2 e_3 le_3 ue_3 => ?_)
    have te_3 := congrArg Int32.toInt e_3
    refine b_if_ne (tgt := 13) hx hb dX5_waitFor_8 (by decide) (fun c_4 => ?_) (fun c_4 => ?_)
    ·
      refine lv_iconst (v := 0) hx hb dX5_waitFor_13 (by decide) ?_
      refine lv_aload_n hx hb dX5_waitFor_14 rfl (lv_at hl 1 rfl) ?_
      refine g_62_11 C hU hG hbf_j fl_X5_59 dX5_waitFor_15 (fun x_5 e_6 => ?_)
      have te_6 := congrArg Int32.toInt e_6
      refine lv_iload_n hx hb dX5_waitFor_18 rfl (lv_at hl 2 rfl) ?_
      refine lv_iadd hx hb dX5_waitFor_19 ?_
      refine lv_topi (fun x_7 e_8 => ?_)
      refine lv_aload_n hx hb dX5_waitFor_20 rfl (lv_at hl 0 rfl) ?_
      refine g_62_5 C hU hG hli fl_X5_26 dX5_waitFor_21 (fun x_9 e_10 le_10 ue_10 => ?_)
      have te_10 := congrArg Int32.toInt e_10
      refine lv_isub hx hb dX5_waitFor_24 ?_
      refine lv_topi (fun x_11 e_12 => ?_)
      refine q_max C hl.1 ml_X5_50 (Nat.le_of_ble_eq_true rfl) (Nat.le_of_ble_eq_true rfl) (Nat.le_refl _) (Nat.le_refl _) dX5_waitFor_25 (fun x_13 q_14 tq_14 => ?_)
      refine lv_istore_n (lv' := [(3, .int x_13), (0, .ref (al.2 62 li)), (1, .ref (al.2 62 bf_j)), (2, .int gap)]) hx hb dX5_waitFor_28 rfl hl (by decide) rfl (fun ls hl => ?_)
      refine lv_iload_n hx hb dX5_waitFor_29 rfl (lv_at hl 0 rfl) ?_
      refine lv_aload_n hx hb dX5_waitFor_30 rfl (lv_at hl 1 rfl) ?_
      refine g_62_12 C hU hG hli fl_X5_62 dX5_waitFor_31 (fun x_15 e_16 => ?_)
      have te_16 := congrArg Int32.toInt e_16
      refine q_min C hl.1 ml_X5_68 (Nat.le_of_ble_eq_true rfl) (Nat.le_of_ble_eq_true rfl) (Nat.le_refl _) (Nat.le_refl _) dX5_waitFor_34 (fun x_17 q_18 tq_18 => ?_)
      exact hret (⟨rfl, rfl, by rw [q_18, q_14]; exact wfX_1 e_6 e_8 e_10 e_12 e_16 (by omega)⟩) hU hS dX5_waitFor_37
    ·
      refine lv_iconst (v := 0) hx hb dX5_waitFor_11 (by decide) ?_
      exact hret (⟨rfl, rfl, by first | rfl | exact (wfX_0 (by omega)).symm⟩) hU hS dX5_waitFor_12
set_option maxHeartbeats 4000000 in
set_option maxRecDepth 100000 in
theorem c_X10_trace_x {l : Launch} {D : va_G} {cA : FieldType → ClassId} {sz : Nat} {al : Al} {iv : Iv} {rv : Rv} (hG : GI al iv rv) (li : Nat) (hli : li < al.1 62) (turn : Int32) (rest_ : Int32) (pre0 : BC iv rv) (pre1 : ¬ (iv 62 li 7).toInt = 0) (pre2 : turn = iv 15 0 0) (pre3 : rest_ = iv 15 0 1) : Met l yX10_trace (wd yX10_trace cX10_trace 13 none) (rm 2) (PcW D cA sz al iv rv [.ref (al.2 57 0), .ref (al.2 62 li), .int turn, .int rest_]) (QV D cA sz al (fV al ([59], []) iv rv (fun iv' rv' => ∀ k : Nat, k < 6 → iv' 59 0 k = mtF iv li k))) 0 0 (Aq sz) := by
  refine mk_v (by decide) (Nat.le_of_ble_eq_true rfl) rfl ?_
  intro p e s m args below meth c ls Q H locs C hU hS hl hret
  have hx := C.1.1
  have hb := C.1.2.1
  have hl : lv_has ls 13 [(0, .ref (al.2 57 0)), (1, .ref (al.2 62 li)), (2, .int turn), (3, .int rest_)] := hl
  have hG0 := hG
  have hF1 : FR ([59], []) iv iv := FR.rf
  have hF2 : FR ([59], []) rv rv := FR.rf
  have k0 : (0 : Int32).toInt = 0 := by decide
  have k1 : (1 : Int32).toInt = 1 := by decide
  have k40 : (40 : Int32).toInt = 40 := by decide
  refine lv_aload_n hx hb dX10_trace_0 rfl (lv_at hl 0 rfl) ?_
  refine g_57_2 C hU hG (h1_57 hG) fl_X10_17 dX10_trace_1 ?_
  refine lv_iconst (v := 0) hx hb dX10_trace_4 (by decide) ?_
  refine q_fv (q_runS (As := [.ref (al.2 59 0), .int 0]) (rest := []) C hU (c_J7_fill_53178_59x hG 0 ) sm_J7_fill_53178 ml_X10_65 hl.1 rfl rfl (Nat.le_of_ble_eq_true rfl) dX10_trace_5 rfl rfl ⟨Nat.le_of_ble_eq_true rfl, Nat.le_of_ble_eq_true rfl⟩ ⟨Nat.le_refl _, Nat.le_refl _⟩) hS (fun iv_2 rv_3 H locs hG fa_4 fb_5 hp_1 hU hS => ?_)
  have hF1 := hF1.tr (m := ([59], [])) fa_4 (by decide)
  have hF2 := hF2.tr (m := ([59], [])) fb_5 (by decide)
  refine lv_aload_n hx hb dX10_trace_8 rfl (lv_at hl 1 rfl) ?_
  refine lv_astore (lv' := [(4, .ref (al.2 62 li)), (0, .ref (al.2 57 0)), (1, .ref (al.2 62 li)), (2, .int turn), (3, .int rest_)]) hx hb dX10_trace_9 hl (by decide) rfl (fun ls hl => ?_)
  refine lv_aload_n hx hb dX10_trace_11 rfl (lv_at hl 2 rfl) ?_
  refine g_62_13 C hU hG hli fl_X10_71 dX10_trace_12 (fun x_6 e_7 => ?_)
  have te_7 := congrArg Int32.toInt e_7
  have ne_7 : x_6.toInt = (iv 62 li 13).toInt := by rw [e_7, hF1 62 li 13 (by decide)]
  refine lv_istore (lv' := [(5, .int x_6), (4, .ref (al.2 62 li)), (0, .ref (al.2 57 0)), (1, .ref (al.2 62 li)), (2, .int turn), (3, .int rest_)]) hx hb dX10_trace_15 hl (by decide) rfl (fun ls hl => ?_)
  refine lv_iconst (v := 0) hx hb dX10_trace_17 (by decide) ?_
  refine lv_istore (lv' := [(6, .int 0), (5, .int x_6), (4, .ref (al.2 62 li)), (0, .ref (al.2 57 0)), (1, .ref (al.2 62 li)), (2, .int turn), (3, .int rest_)]) hx hb dX10_trace_18 hl (by decide) rfl (fun ls hl => ?_)
  have J_20 : ∀ (n_20 : Nat) (r_8 : Option Nat) (l5_10 : Int32) (l6_11 : Int32) (iv_12 : Iv) (rv_13 : Rv) (H : Heap) (locs : List Loc) (ls : Array Slot), lv_has ls 13 [(0, .ref (al.2 57 0)), (2, .int turn), (3, .int rest_), (4, rfv al 62 r_8), (5, .int l5_10), (6, .int l6_11)] → (∀ j, r_8 = some j → j < al.1 62) → GI al iv_12 rv_13 → FR ([59], []) iv iv_12 → FR ([59], []) rv rv_13 → UW D cA sz al iv_12 rv_13 H → va_S (Aq sz) s.heap H locs → (0 ≤ l6_11.toInt ∧ l6_11.toInt ≤ 40) → trI iv iv_12 li r_8 l5_10 l6_11.toNatClampNeg → (40 - l6_11.toInt).toNat < n_20 → W p l e (rm 2) s m args below meth c H locs 0 0 Q (F0 m 20 ls []) := by
    intro n_20
    induction n_20 with
    | zero =>
      intro r_8 l5_10 l6_11 iv_12 rv_13 H locs ls hl hb_9 hG hF1 hF2 hU hS i20_0 i20_1 hm_20
      exact absurd hm_20 (Nat.not_lt_zero _)
    | succ n_20 ih_20 =>
      intro r_8 l5_10 l6_11 iv_12 rv_13 H locs ls hl hb_9 hG hF1 hF2 hU hS i20_0 i20_1 hm_20
      have hMA := ma_fr hF1
      have hBC := bc_fr hG0 pre0 hF1 hF2
      refine lv_iload hx hb dX10_trace_20 (lv_at hl 5 rfl) ?_
      refine lv_bipush (v := 40) hx hb dX10_trace_22 (by decide) ?_
      refine b_icmp_ge (tgt := 147) hx hb dX10_trace_24 (by decide) (fun c_14 => ?_) (fun c_14 => ?_)
      ·
        exact hret (⟨hG, hF1, hF2, by first | exact tr_e1 i20_1 (by omega) | exact tr_e2 i20_1 (by omega) (by omega) | exact tr_e3 i20_1 (by omega)⟩) hU hS dX10_trace_147
      ·
        refine b_aload (al := al) (t' := 62) (r := r_8) hx hb dX10_trace_27 (lv_at hl 3 rfl) ?_
        refine b_ifnull (tgt := 147) hx hb dX10_trace_29 (by decide) (fun ej_17 => ?_) (fun j_16 ej_17 => ?_)
        ·
          subst ej_17
          have hl : lv_has ls 13 [(0, .ref (al.2 57 0)), (2, .int turn), (3, .int rest_), (4, rfv al 62 none), (5, .int l5_10), (6, .int l6_11)] := hl
          exact hret (⟨hG, hF1, hF2, by first | exact tr_e1 i20_1 (by omega) | exact tr_e2 i20_1 (by omega) (by omega) | exact tr_e3 i20_1 (by omega)⟩) hU hS dX10_trace_147
        ·
          subst ej_17
          have hl : lv_has ls 13 [(0, .ref (al.2 57 0)), (2, .int turn), (3, .int rest_), (4, .ref (al.2 62 j_16)), (5, .int l5_10), (6, .int l6_11)] := hl
          have hb_18 : j_16 < al.1 62 := hb_9 j_16 rfl
          have hb4 := hb_18
          refine lv_iload hx hb dX10_trace_32 (lv_at hl 4 rfl) ?_
          refine b_if_le (tgt := 147) hx hb dX10_trace_34 (by decide) (fun c_19 => ?_) (fun c_19 => ?_)
          ·
            exact hret (⟨hG, hF1, hF2, by first | exact tr_e1 i20_1 (by omega) | exact tr_e2 i20_1 (by omega) (by omega) | exact tr_e3 i20_1 (by omega)⟩) hU hS dX10_trace_147
          ·
            have hat := i20_1.2.2 (by omega)
            have hlg := tr_lg hG0 hat
            have hlg2 : ¬ (iv_12 62 j_16 7).toInt = 0 := by rw [hF1 62 j_16 7 (by decide)]; exact hlg
            refine lv_aload_n hx hb dX10_trace_37 rfl (lv_at hl 0 rfl) ?_
            refine lv_aload hx hb dX10_trace_38 (lv_at hl 3 rfl) ?_
            refine lv_iconst (v := 0) hx hb dX10_trace_40 (by decide) ?_
            refine lv_iload_n hx hb dX10_trace_41 rfl (lv_at hl 1 rfl) ?_
            refine q_pr (q_runV (t := 57) (i := 0) (As := [.ref (al.2 62 j_16), .int 0, .int turn]) (rest := []) C hU (c_X10_aheadOf_x hG (j_16) hb_18 0 turn (hBC.1.1) (tr_g0 hMA pre2)) vm_X10_aheadOf ml_X10_74 k_57.1 (hc := rfl) rfl (h1_57 hG) hl.1 rfl rfl (Nat.le_of_ble_eq_true rfl) dX10_trace_42 rfl rfl ⟨Nat.le_of_ble_eq_true rfl, Nat.le_of_ble_eq_true rfl⟩ ⟨Nat.le_refl _, Nat.le_refl _⟩) hS (fun r_21 H locs hp_20 hU hS => ?_)
            have hb_22 := hp_20.1
            have h42 := hp_20.2.trans (congrArg oI (ah_m hMA _ _))
            refine b_astore (lv' := [(7, rfv al 62 r_21), (0, .ref (al.2 57 0)), (2, .int turn), (3, .int rest_), (4, .ref (al.2 62 j_16)), (5, .int l5_10), (6, .int l6_11)]) hx hb dX10_trace_45 hl (by decide) rfl (fun ls hl => ?_)
            refine lv_aload_n hx hb dX10_trace_47 rfl (lv_at hl 1 rfl) ?_
            refine lv_aload hx hb dX10_trace_48 (lv_at hl 4 rfl) ?_
            refine lv_iconst (v := 1) hx hb dX10_trace_50 (by decide) ?_
            refine lv_iload_n hx hb dX10_trace_51 rfl (lv_at hl 3 rfl) ?_
            refine q_pr (q_runV (t := 57) (i := 0) (As := [.ref (al.2 62 j_16), .int 1, .int rest_]) (rest := []) C hU (c_X10_aheadOf_x hG (j_16) hb_18 1 rest_ (hBC.1.1) (tr_g1 hMA pre3)) vm_X10_aheadOf ml_X10_74 k_57.1 (hc := rfl) rfl (h1_57 hG) hl.1 rfl rfl (Nat.le_of_ble_eq_true rfl) dX10_trace_52 rfl rfl ⟨Nat.le_of_ble_eq_true rfl, Nat.le_of_ble_eq_true rfl⟩ ⟨Nat.le_refl _, Nat.le_refl _⟩) hS (fun r_24 H locs hp_23 hU hS => ?_)
            have hb_25 := hp_23.1
            have h52 := hp_23.2.trans (congrArg oI (ah_m hMA _ _))
            refine b_astore (lv' := [(8, rfv al 62 r_24), (7, rfv al 62 r_21), (0, .ref (al.2 57 0)), (2, .int turn), (3, .int rest_), (4, .ref (al.2 62 j_16)), (5, .int l5_10), (6, .int l6_11)]) hx hb dX10_trace_55 hl (by decide) (by simp [List.filter_cons, rfv_cat]) (fun ls hl => ?_)
            refine lv_aload hx hb dX10_trace_57 (lv_at hl 5 rfl) ?_
            refine b_aload (al := al) (t' := 62) (r := r_21) hx hb dX10_trace_59 (lv_at hl 1 rfl) ?_
            refine lv_iload_n hx hb dX10_trace_61 rfl (lv_at hl 3 rfl) ?_
            refine q_pi (q_runV (t := 62) (i := j_16) (As := [rfv al 62 r_21, .int turn]) (rest := []) C hU (c_X5_waitFor_x hG (j_16) hb_18 r_21 hb_22 turn ) vm_X5_waitFor ml_X10_78 k_62.1 (hc := rfl) rfl hb_18 hl.1 rfl rfl (Nat.le_of_ble_eq_true rfl) dX10_trace_62 rfl rfl ⟨Nat.le_of_ble_eq_true rfl, Nat.le_of_ble_eq_true rfl⟩ ⟨Nat.le_refl _, Nat.le_refl _⟩) hS (fun x_27 H locs hp_26 hU hS => ?_)
            have hw0 := tr_w hG hBC.1 hb4 hlg2 hp_20.2 (tr_g0 hMA pre2) hp_26 hMA
            refine lv_istore (lv' := [(9, .int x_27), (8, rfv al 62 r_24), (7, rfv al 62 r_21), (0, .ref (al.2 57 0)), (2, .int turn), (3, .int rest_), (4, .ref (al.2 62 j_16)), (5, .int l5_10), (6, .int l6_11)]) hx hb dX10_trace_65 hl (by decide) (by simp [List.filter_cons, rfv_cat]) (fun ls hl => ?_)
            refine lv_aload hx hb dX10_trace_67 (lv_at hl 6 rfl) ?_
            refine b_aload (al := al) (t' := 62) (r := r_24) hx hb dX10_trace_69 (lv_at hl 1 rfl) ?_
            refine lv_iload_n hx hb dX10_trace_71 rfl (lv_at hl 5 rfl) ?_
            refine q_pi (q_runV (t := 62) (i := j_16) (As := [rfv al 62 r_24, .int rest_]) (rest := []) C hU (c_X5_waitFor_x hG (j_16) hb_18 r_24 hb_25 rest_ ) vm_X5_waitFor ml_X10_78 k_62.1 (hc := rfl) rfl hb_18 hl.1 rfl rfl (Nat.le_of_ble_eq_true rfl) dX10_trace_72 rfl rfl ⟨Nat.le_of_ble_eq_true rfl, Nat.le_of_ble_eq_true rfl⟩ ⟨Nat.le_refl _, Nat.le_refl _⟩) hS (fun x_29 H locs hp_28 hU hS => ?_)
            have hw1 := tr_w hG hBC.1 hb4 hlg2 hp_23.2 (tr_g1 hMA pre3) hp_28 hMA
            refine lv_istore (lv' := [(10, .int x_29), (9, .int x_27), (8, rfv al 62 r_24), (7, rfv al 62 r_21), (0, .ref (al.2 57 0)), (2, .int turn), (3, .int rest_), (4, .ref (al.2 62 j_16)), (5, .int l5_10), (6, .int l6_11)]) hx hb dX10_trace_75 hl (by decide) rfl (fun ls hl => ?_)
            refine lv_aload hx hb dX10_trace_77 (lv_at hl 7 rfl) ?_
            refine g_62_13 C hU hG hb_18 fl_X10_71 dX10_trace_79 (fun x_30 e_31 => ?_)
            have te_31 := congrArg Int32.toInt e_31
            have ne_31 : x_30.toInt = (iv 62 j_16 13).toInt := by rw [e_31, hF1 62 j_16 13 (by decide)]
            refine lv_iload hx hb dX10_trace_82 (lv_at hl 1 rfl) ?_
            refine lv_iload hx hb dX10_trace_84 (lv_at hl 0 rfl) ?_
            refine q_max C hl.1 ml_X10_82 (Nat.le_of_ble_eq_true rfl) (Nat.le_of_ble_eq_true rfl) (Nat.le_refl _) (Nat.le_refl _) dX10_trace_86 (fun x_32 q_33 tq_33 => ?_)
            refine q_min C hl.1 ml_X10_88 (Nat.le_of_ble_eq_true rfl) (Nat.le_of_ble_eq_true rfl) (Nat.le_refl _) (Nat.le_refl _) dX10_trace_89 (fun x_34 q_35 tq_35 => ?_)
            refine lv_istore (lv' := [(11, .int x_34), (10, .int x_29), (9, .int x_27), (8, rfv al 62 r_24), (7, rfv al 62 r_21), (0, .ref (al.2 57 0)), (2, .int turn), (3, .int rest_), (4, .ref (al.2 62 j_16)), (5, .int l5_10), (6, .int l6_11)]) hx hb dX10_trace_92 hl (by decide) rfl (fun ls hl => ?_)
            refine lv_iload hx hb dX10_trace_94 (lv_at hl 9 rfl) ?_
            refine lv_iload hx hb dX10_trace_96 (lv_at hl 0 rfl) ?_
            refine q_min C hl.1 ml_X10_88 (Nat.le_of_ble_eq_true rfl) (Nat.le_of_ble_eq_true rfl) (Nat.le_refl _) (Nat.le_refl _) dX10_trace_98 (fun x_36 q_37 tq_37 => ?_)
            have hled := tr_led hG hBC.1 hb4 hlg2 e_31 q_33 q_35 q_37 hw0 hw1 hMA
            refine lv_istore (lv' := [(12, .int x_36), (11, .int x_34), (10, .int x_29), (9, .int x_27), (8, rfv al 62 r_24), (7, rfv al 62 r_21), (0, .ref (al.2 57 0)), (2, .int turn), (3, .int rest_), (4, .ref (al.2 62 j_16)), (5, .int l5_10), (6, .int l6_11)]) hx hb dX10_trace_101 hl (by decide) rfl (fun ls hl => ?_)
            refine lv_aload_n hx hb dX10_trace_103 rfl (lv_at hl 6 rfl) ?_
            refine g_57_2 C hU hG (h1_57 hG) fl_X10_17 dX10_trace_104 ?_
            refine lv_aload hx hb dX10_trace_107 (lv_at hl 9 rfl) ?_
            refine g_62_14 C hU hG hb_18 fl_X10_91 dX10_trace_109 (fun x_38 e_39 le_39 ue_39 => ?_)
            have te_39 := congrArg Int32.toInt e_39
            have ne_39 : x_38.toInt = (iv 62 j_16 14).toInt := by rw [e_39, hF1 62 j_16 14 (by decide)]
            refine lv_dup2_11 hx hb dX10_trace_112 rfl rfl ?_
            refine a_59 C hU hG (h1_59 hG) (x := x_38) (by omega) (by omega) dX10_trace_113 (fun x_40 e_41 => ?_)
            have te_41 := congrArg Int32.toInt e_41
            refine lv_iload hx hb dX10_trace_114 (lv_at hl 10 rfl) ?_
            refine lv_iload hx hb dX10_trace_116 (lv_at hl 0 rfl) ?_
            refine lv_isub hx hb dX10_trace_118 ?_
            refine lv_topi (fun x_42 e_43 => ?_)
            refine lv_iadd hx hb dX10_trace_119 ?_
            refine lv_topi (fun x_44 e_45 => ?_)
            have hFb := hF1
            refine s_59 C hU hS (h1_59 hG) (x := x_38) (by omega) (by omega) dX10_trace_120 (fun iv_46 H locs ei_47 hU hS => ?_)
            have hG : GI al iv_46 rv_13 := by rw [ei_47]; exact hG.puti (show _ ∧ _ from ⟨(fb_rng _).1, Int.le_of_lt_add_one (fb_rng _).2⟩) (nsA (by decide) _)
            have hF1 : FR ([59], []) iv iv_46 := by rw [ei_47]; exact hF1.put (Or.inl (by decide))
            refine lv_iload hx hb dX10_trace_121 (lv_at hl 0 rfl) ?_
            refine lv_istore (lv' := [(5, .int x_36), (12, .int x_36), (11, .int x_34), (10, .int x_29), (9, .int x_27), (8, rfv al 62 r_24), (7, rfv al 62 r_21), (0, .ref (al.2 57 0)), (2, .int turn), (3, .int rest_), (4, .ref (al.2 62 j_16)), (6, .int l6_11)]) hx hb dX10_trace_123 hl (by decide) rfl (fun ls hl => ?_)
            refine lv_iload hx hb dX10_trace_125 (lv_at hl 3 rfl) ?_
            refine lv_iload hx hb dX10_trace_127 (lv_at hl 4 rfl) ?_
            have J_139 : ∀ (r_48 : Option Nat) (ls : Array Slot), lv_has ls 13 [(0, .ref (al.2 57 0)), (2, .int turn), (3, .int rest_), (5, .int x_36), (6, .int l6_11)] → (∀ j, r_48 = some j → j < al.1 62) → r_48 = oI (ahF iv j_16 (bcF iv j_16)) → W p l e (rm 2) s m args below meth c H locs 0 0 Q (F0 m 139 ls [rfv al 62 r_48]) := by
              intro r_48 ls hl hb_49 i139_0
              refine b_astore (lv' := [(4, rfv al 62 r_48), (0, .ref (al.2 57 0)), (2, .int turn), (3, .int rest_), (5, .int x_36), (6, .int l6_11)]) hx hb dX10_trace_139 hl (by decide) rfl (fun ls hl => ?_)
              obtain ⟨x_50, e_51⟩ : ∃ y : Int32, y = l6_11 + 1 := ⟨_, rfl⟩
              have te_51 : x_50.toInt = (l6_11 : Int32).toInt + (1 : Int32).toInt := by rw [e_51]; exact fb_addI (by omega) (by omega)
              refine lv_iinc (v := x_50) (lv' := [(6, .int x_50), (4, rfv al 62 r_48), (0, .ref (al.2 57 0)), (2, .int turn), (3, .int rest_), (5, .int x_36)]) hx hb dX10_trace_141 hl (k := 5) rfl (by rw [e_51]; rfl) (by decide) rfl (fun ls hl => ?_)
              refine lv_goto (tgt := 20) hx hb dX10_trace_144 (by decide) ?_
              exact ih_20 r_48 x_36 x_50 _ _ _ _ _ (lv_sub hl [2, 3, 4, 1, 5, 0] rfl) hb_49 hG hF1 hF2 hU hS (by omega) (by first | exact tr_step hG0 pre0 hb4 i20_1 (by omega) hled i139_0 e_39 e_41 e_43 e_45 ei_47 hMA hFb (by omega) (by omega) | exact tr_0 hG0 pre0 hli pre1 fa_4 hp_1 e_7) (by omega)
            refine b_icmp_le (tgt := 137) hx hb dX10_trace_129 (by decide) (fun c_52 => ?_) (fun c_52 => ?_)
            ·
              refine b_aload (al := al) (t' := 62) (r := r_21) hx hb dX10_trace_137 (lv_at hl 6 rfl) ?_
              exact J_139 r_21 _ (lv_sub hl [7, 8, 9, 0, 11] rfl) hb_22 (by first | exact tr_c hw0 hw1 h52 (by omega) | exact tr_p hw0 hw1 h42 (by omega))
            ·
              refine b_aload (al := al) (t' := 62) (r := r_24) hx hb dX10_trace_132 (lv_at hl 5 rfl) ?_
              refine lv_goto (tgt := 139) hx hb dX10_trace_134 (by decide) ?_
              exact J_139 r_24 _ (lv_sub hl [7, 8, 9, 0, 11] rfl) hb_25 (by first | exact tr_c hw0 hw1 h52 (by omega) | exact tr_p hw0 hw1 h42 (by omega))
  exact J_20 _ (some li) x_6 0 _ _ _ _ _ (lv_sub hl [3, 5, 6, 2, 1, 0] rfl) (fun _ h => by cases h; exact hli) hG hF1 hF2 hU hS (by omega) (by first | exact tr_step hG0 pre0 hb4 i20_1 (by omega) hled i139_0 True.intro True.intro True.intro True.intro True.intro hMA hFb (by omega) (by omega) | exact tr_0 hG0 pre0 hli pre1 fa_4 hp_1 e_7) (Nat.lt_succ_self _)
set_option maxHeartbeats 4000000 in
set_option maxRecDepth 100000 in
theorem c_X11_minutes_x {l : Launch} {D : va_G} {cA : FieldType → ClassId} {sz : Nat} {al : Al} {iv : Iv} {rv : Rv} (hG : GI al iv rv) (lg : Int32) (cs : Int32) (pre0 : BC iv rv) : Met l yX11_minutes (wd yX11_minutes cX11_minutes 4 (some .int)) (rm 3) (PcW D cA sz al iv rv [.ref (al.2 49 0), .int lg, .int cs]) (QI D cA sz al (fI al ([51, 59], []) iv rv (fun r iv' rv' => r = mnS iv lg cs))) 0 0 (Aq sz) := by
  refine mk_i (by decide) (Nat.le_of_ble_eq_true rfl) rfl ?_
  intro p e s m args below meth c ls Q H locs C hU hS hl hret
  have hx := C.1.1
  have hb := C.1.2.1
  have hl : lv_has ls 4 [(0, .ref (al.2 49 0)), (1, .int lg), (2, .int cs)] := hl
  have hG0 := hG
  have hn6 := congrArg Int32.toInt pre0.1.1.1
  have hF1 : FR ([51, 59], []) iv iv := FR.rf
  have hF2 : FR ([51, 59], []) rv rv := FR.rf
  have km5 : ((-5) : Int32).toInt = -5 := by decide
  have km1 : ((-1) : Int32).toInt = -1 := by decide
  have k0 : (0 : Int32).toInt = 0 := by decide
  have k1 : (1 : Int32).toInt = 1 := by decide
  have k6 : (6 : Int32).toInt = 6 := by decide
  refine lv_aload_n hx hb dX11_minutes_0 rfl (lv_at hl 0 rfl) ?_
  refine g_49_1 C hU hG (h1_49 hG) fl_X11_19 dX11_minutes_1 ?_
  refine lv_iload_n hx hb dX11_minutes_4 rfl (lv_at hl 1 rfl) ?_
  refine q_pr (q_runV (t := 57) (i := 0) (As := [.int lg]) (rest := []) C hU (c_X10_find hG lg ) vm_X10_find ml_X11_123 k_57.1 (hc := rfl) rfl (h1_57 hG) hl.1 rfl rfl (Nat.le_of_ble_eq_true rfl) dX11_minutes_5 rfl rfl ⟨Nat.le_of_ble_eq_true rfl, Nat.le_of_ble_eq_true rfl⟩ ⟨Nat.le_refl _, Nat.le_refl _⟩) hS (fun r_2 H locs hp_1 hU hS => ?_)
  have hb_3 := hp_1.1
  refine b_astore_n (lv' := [(3, rfv al 62 r_2), (0, .ref (al.2 49 0)), (1, .int lg), (2, .int cs)]) hx hb dX11_minutes_8 rfl hl (by decide) rfl (fun ls hl => ?_)
  refine b_aload_n (al := al) (t' := 62) (r := r_2) hx hb dX11_minutes_9 rfl (lv_at hl 0 rfl) ?_
  refine b_ifnull (tgt := 22) hx hb dX11_minutes_10 (by decide) (fun ej_6 => ?_) (fun j_5 ej_6 => ?_)
  ·
    subst ej_6
    have hl : lv_has ls 4 [(3, rfv al 62 none), (0, .ref (al.2 49 0)), (1, .int lg), (2, .int cs)] := hl
    have hq4 := hp_1.2.2 rfl
    refine lv_aload_n hx hb dX11_minutes_22 rfl (lv_at hl 1 rfl) ?_
    refine lv_iconst (v := (-1)) hx hb dX11_minutes_23 (by decide) ?_
    refine q_fi (q_runV (t := 49) (i := 0) (As := [.int (-1)]) (rest := []) C hU (c_X11_refuse hG (-1) (by omega)) vm_X11_refuse ml_X11_77 k_49.1 (hc := rfl) rfl (h1_49 hG) hl.1 rfl rfl (Nat.le_of_ble_eq_true rfl) dX11_minutes_24 rfl rfl ⟨Nat.le_of_ble_eq_true rfl, Nat.le_of_ble_eq_true rfl⟩ ⟨Nat.le_refl _, Nat.le_refl _⟩) hS (fun x_12 iv_8 rv_9 H locs hG fa_10 fb_11 hp_7 hU hS => ?_)
    have hF1 := hF1.tr (m := ([51, 59], [])) fa_10 (by decide)
    have hF2 := hF2.tr (m := ([51, 59], [])) fb_11 (by decide)
    exact hret (⟨hG, hF1, hF2, by unfold mnS; rw [if_pos (by omega)]; exact hp_7⟩) hU hS dX11_minutes_27
  ·
    subst ej_6
    have hl : lv_has ls 4 [(3, .ref (al.2 62 j_5)), (0, .ref (al.2 49 0)), (1, .int lg), (2, .int cs)] := hl
    have hb_13 : j_5 < al.1 62 := hb_3 j_5 rfl
    have hq4 := hp_1.2.1 _ rfl
    have hn4 := hq4.1
    rw [clamp_n] at hn4
    refine lv_bipush (v := 6) hx hb dX11_minutes_13 (by decide) ?_
    refine lv_iload_n hx hb dX11_minutes_15 rfl (lv_at hl 3 rfl) ?_
    refine q_pi (q_runS (As := [.int 6, .int cs]) (rest := []) C hU (c_X11_isOneOf  6 cs ) sm_X11_isOneOf ml_X11_85 hl.1 rfl rfl (Nat.le_of_ble_eq_true rfl) dX11_minutes_16 rfl rfl ⟨Nat.le_of_ble_eq_true rfl, Nat.le_of_ble_eq_true rfl⟩ ⟨Nat.le_refl _, Nat.le_refl _⟩) hS (fun x_15 H locs hp_14 hU hS => ?_)
    refine b_if_ne (tgt := 28) hx hb dX11_minutes_19 (by decide) (fun c_16 => ?_) (fun c_16 => ?_)
    ·
      refine lv_aload_n hx hb dX11_minutes_28 rfl (lv_at hl 0 rfl) ?_
      refine g_62_7 C hU hG hb_13 fl_X11_126 dX11_minutes_29 (fun x_17 e_18 le_18 ue_18 => ?_)
      have te_18 := congrArg Int32.toInt e_18
      have hl7 := lg_done hG0 pre0.1 hb_13 hq4.1
      refine b_if_ne (tgt := 42) hx hb dX11_minutes_32 (by decide) (fun c_19 => ?_) (fun c_19 => ?_)
      ·
        refine lv_aload_n hx hb dX11_minutes_42 rfl (lv_at hl 1 rfl) ?_
        refine g_49_1 C hU hG (h1_49 hG) fl_X11_19 dX11_minutes_43 ?_
        refine lv_aload_n hx hb dX11_minutes_46 rfl (lv_at hl 0 rfl) ?_
        refine lv_aload_n hx hb dX11_minutes_47 rfl (lv_at hl 1 rfl) ?_
        refine g_49_7 C hU hG (h1_49 hG) fl_X11_67 dX11_minutes_48 ?_
        refine lv_iconst (v := 0) hx hb dX11_minutes_51 (by decide) ?_
        refine a_50 C hU hG (h1_50 hG) (x := 0) (by omega) (by omega) dX11_minutes_52 (fun x_20 e_21 le_21 ue_21 => ?_)
        have te_21 := congrArg Int32.toInt e_21
        refine lv_aload_n hx hb dX11_minutes_53 rfl (lv_at hl 1 rfl) ?_
        refine g_49_7 C hU hG (h1_49 hG) fl_X11_67 dX11_minutes_54 ?_
        refine lv_iconst (v := 1) hx hb dX11_minutes_57 (by decide) ?_
        refine a_50 C hU hG (h1_50 hG) (x := 1) (by omega) (by omega) dX11_minutes_58 (fun x_22 e_23 le_23 ue_23 => ?_)
        have te_23 := congrArg Int32.toInt e_23
        refine q_fv (q_runV (t := 57) (i := 0) (As := [.ref (al.2 62 j_5), .int x_20, .int x_22]) (rest := []) C hU (c_X10_trace_x hG (j_5) hb_13 x_20 x_22 (pre0) (by omega) (by rw [e_21]; exact (pre0.1.1.2.2 0 (by decide)).symm) (by rw [e_23]; exact (pre0.1.1.2.2 1 (by decide)).symm)) vm_X10_trace ml_X11_170 k_57.1 (hc := rfl) rfl (h1_57 hG) hl.1 rfl rfl (Nat.le_of_ble_eq_true rfl) dX11_minutes_59 rfl rfl ⟨Nat.le_of_ble_eq_true rfl, Nat.le_of_ble_eq_true rfl⟩ ⟨Nat.le_refl _, Nat.le_refl _⟩) hS (fun iv_25 rv_26 H locs hG fa_27 fb_28 hp_24 hU hS => ?_)
        have hF1 := hF1.tr (m := ([51, 59], [])) fa_27 (by decide)
        have hF2 := hF2.tr (m := ([51, 59], [])) fb_28 (by decide)
        refine lv_aload_n hx hb dX11_minutes_62 rfl (lv_at hl 1 rfl) ?_
        refine g_49_1 C hU hG (h1_49 hG) fl_X11_19 dX11_minutes_63 ?_
        refine g_57_2 C hU hG (h1_57 hG) fl_X11_174 dX11_minutes_66 ?_
        refine lv_iload_n hx hb dX11_minutes_69 rfl (lv_at hl 3 rfl) ?_
        refine a_59 C hU hG (h1_59 hG) (x := cs) (by omega) (by omega) dX11_minutes_70 (fun x_29 e_30 => ?_)
        have te_30 := congrArg Int32.toInt e_30
        exact hret (⟨hG, hF1, hF2, by unfold mnS; rw [if_neg (by omega), if_neg (by omega), e_30, ← hq4.1]; exact hp_24 _ (by rw [clamp_n]; omega)⟩) hU hS dX11_minutes_71
      ·
        refine lv_aload_n hx hb dX11_minutes_35 rfl (lv_at hl 1 rfl) ?_
        refine lv_bipush (v := (-5)) hx hb dX11_minutes_36 (by decide) ?_
        refine q_fi (q_runV (t := 49) (i := 0) (As := [.int (-5)]) (rest := []) C hU (c_X11_refuse hG (-5) (by omega)) vm_X11_refuse ml_X11_77 k_49.1 (hc := rfl) rfl (h1_49 hG) hl.1 rfl rfl (Nat.le_of_ble_eq_true rfl) dX11_minutes_38 rfl rfl ⟨Nat.le_of_ble_eq_true rfl, Nat.le_of_ble_eq_true rfl⟩ ⟨Nat.le_refl _, Nat.le_refl _⟩) hS (fun x_36 iv_32 rv_33 H locs hG fa_34 fb_35 hp_31 hU hS => ?_)
        have hF1 := hF1.tr (m := ([51, 59], [])) fa_34 (by decide)
        have hF2 := hF2.tr (m := ([51, 59], [])) fb_35 (by decide)
        exact hret (⟨hG, hF1, hF2, by unfold mnS; rw [if_neg (by omega), if_pos (by omega)]; exact hp_31⟩) hU hS dX11_minutes_41
    ·
      refine lv_aload_n hx hb dX11_minutes_22 rfl (lv_at hl 1 rfl) ?_
      refine lv_iconst (v := (-1)) hx hb dX11_minutes_23 (by decide) ?_
      refine q_fi (q_runV (t := 49) (i := 0) (As := [.int (-1)]) (rest := []) C hU (c_X11_refuse hG (-1) (by omega)) vm_X11_refuse ml_X11_77 k_49.1 (hc := rfl) rfl (h1_49 hG) hl.1 rfl rfl (Nat.le_of_ble_eq_true rfl) dX11_minutes_24 rfl rfl ⟨Nat.le_of_ble_eq_true rfl, Nat.le_of_ble_eq_true rfl⟩ ⟨Nat.le_refl _, Nat.le_refl _⟩) hS (fun x_42 iv_38 rv_39 H locs hG fa_40 fb_41 hp_37 hU hS => ?_)
      have hF1 := hF1.tr (m := ([51, 59], [])) fa_40 (by decide)
      have hF2 := hF2.tr (m := ([51, 59], [])) fb_41 (by decide)
      exact hret (⟨hG, hF1, hF2, by unfold mnS; rw [if_pos (by omega)]; exact hp_37⟩) hU hS dX11_minutes_27
set_option maxHeartbeats 4000000 in
set_option maxRecDepth 100000 in
theorem c_X12_ahead_x {l : Launch} {D : va_G} {cA : FieldType → ClassId} {sz : Nat} {al : Al} {iv : Iv} {rv : Rv} (hG : GI al iv rv) (lg : Int32) (bb : Int32) (pre0 : 0 ≤ bb.toInt ∧ bb.toInt ≤ 1) : Met l yX12_ahead (wd yX12_ahead cX12_ahead 4 (some .int)) (rm 2) (PcW D cA sz al iv rv [.ref (al.2 0 0), .int lg, .int bb]) (QI D cA sz al (fI al ([16], []) iv rv (fun r iv' rv' => r = ahS iv lg bb))) 0 0 (Aq sz) := by
  refine mk_i (by decide) (Nat.le_of_ble_eq_true rfl) rfl ?_
  intro p e s m args below meth c ls Q H locs C hU hS hl hret
  have hx := C.1.1
  have hb := C.1.2.1
  have hl : lv_has ls 4 [(0, .ref (al.2 0 0)), (1, .int lg), (2, .int bb)] := hl
  have hG0 := hG
  have h6 := le6 hG
  have h20 := le20 hG
  have h41 := le41 hG
  have hF1 : FR ([16], []) iv iv := FR.rf
  have hF2 : FR ([16], []) rv rv := FR.rf
  have km9 : ((-9) : Int32).toInt = -9 := by decide
  have km1 : ((-1) : Int32).toInt = -1 := by decide
  refine lv_aload_n hx hb dX12_ahead_0 rfl (lv_at hl 0 rfl) ?_
  refine lv_iload_n hx hb dX12_ahead_1 rfl (lv_at hl 1 rfl) ?_
  refine q_pi (q_runV (t := 0) (i := 0) (As := [.int lg]) (rest := []) C hU (c_X12_isLeg hG lg ) vm_X12_isLeg ml_X12_181 k_0.1 (hc := rfl) rfl (h1_0 hG) hl.1 rfl rfl (Nat.le_of_ble_eq_true rfl) dX12_ahead_2 rfl rfl ⟨Nat.le_of_ble_eq_true rfl, Nat.le_of_ble_eq_true rfl⟩ ⟨Nat.le_refl _, Nat.le_refl _⟩) hS (fun x_2 H locs hp_1 hU hS => ?_)
  refine b_if_ne (tgt := 14) hx hb dX12_ahead_5 (by decide) (fun c_3 => ?_) (fun c_3 => ?_)
  ·
    refine lv_aload_n hx hb dX12_ahead_14 rfl (lv_at hl 0 rfl) ?_
    refine lv_iload_n hx hb dX12_ahead_15 rfl (lv_at hl 1 rfl) ?_
    refine lv_iload_n hx hb dX12_ahead_16 rfl (lv_at hl 2 rfl) ?_
    refine q_pi (q_runV (t := 0) (i := 0) (As := [.int lg, .int bb]) (rest := []) C hU (c_X12_aheadOf hG lg bb (by omega)) vm_X12_aheadOf ml_X12_196 k_0.1 (hc := rfl) rfl (h1_0 hG) hl.1 rfl rfl (Nat.le_of_ble_eq_true rfl) dX12_ahead_17 rfl rfl ⟨Nat.le_of_ble_eq_true rfl, Nat.le_of_ble_eq_true rfl⟩ ⟨Nat.le_refl _, Nat.le_refl _⟩) hS (fun x_5 H locs hp_4 hU hS => ?_)
    have q_6 := hp_4.2.1
    have tq_6 := congrArg Int32.toInt q_6
    refine lv_istore_n (lv' := [(3, .int x_5), (0, .ref (al.2 0 0)), (1, .int lg), (2, .int bb)]) hx hb dX12_ahead_20 rfl hl (by decide) rfl (fun ls hl => ?_)
    refine lv_iload_n hx hb dX12_ahead_21 rfl (lv_at hl 0 rfl) ?_
    refine b_if_ge (tgt := 30) hx hb dX12_ahead_22 (by decide) (fun c_7 => ?_) (fun c_7 => ?_)
    ·
      refine lv_iload_n hx hb dX12_ahead_30 rfl (lv_at hl 0 rfl) ?_
      exact hret (⟨hG, hF1, hF2, by unfold ahS; have z := hp_4.2.1; have tz := congrArg Int32.toInt z; rw [if_neg (by omega)]; first | rw [if_pos (by omega)] | (rw [if_neg (by omega)]; exact z)⟩) hU hS dX12_ahead_31
    ·
      refine lv_bipush (v := (-9)) hx hb dX12_ahead_25 (by decide) ?_
      refine lv_goto (tgt := 31) hx hb dX12_ahead_27 (by decide) ?_
      exact hret (⟨hG, hF1, hF2, by unfold ahS; have z := hp_4.2.1; have tz := congrArg Int32.toInt z; rw [if_neg (by omega)]; first | rw [if_pos (by omega)] | (rw [if_neg (by omega)]; exact z)⟩) hU hS dX12_ahead_31
  ·
    refine lv_aload_n hx hb dX12_ahead_8 rfl (lv_at hl 0 rfl) ?_
    refine lv_iconst (v := (-1)) hx hb dX12_ahead_9 (by decide) ?_
    refine q_fi (q_runV (t := 0) (i := 0) (As := [.int (-1)]) (rest := []) C hU (c_X12_refuse hG (-1) (by omega)) vm_X12_refuse ml_X12_164 k_0.1 (hc := rfl) rfl (h1_0 hG) hl.1 rfl rfl (Nat.le_of_ble_eq_true rfl) dX12_ahead_10 rfl rfl ⟨Nat.le_of_ble_eq_true rfl, Nat.le_of_ble_eq_true rfl⟩ ⟨Nat.le_refl _, Nat.le_refl _⟩) hS (fun x_13 iv_9 rv_10 H locs hG fa_11 fb_12 hp_8 hU hS => ?_)
    have hF1 := hF1.tr (m := ([16], [])) fa_11 (by decide)
    have hF2 := hF2.tr (m := ([16], [])) fb_12 (by decide)
    exact hret (⟨hG, hF1, hF2, by unfold ahS; rw [if_pos (by omega)]; exact hp_8⟩) hU hS dX12_ahead_13
set_option maxHeartbeats 4000000 in
set_option maxRecDepth 100000 in
theorem c_X11_gapFor_x {l : Launch} {D : va_G} {cA : FieldType → ClassId} {sz : Nat} {al : Al} {iv : Iv} {rv : Rv} (hG : GI al iv rv) (crew : Int32) (pre0 : BA iv rv) : Met l yX11_gapFor (wd yX11_gapFor cX11_gapFor 2 (some .int)) (rm 0) (PcW D cA sz al iv rv [.ref (al.2 49 0), .int crew]) (QI D cA sz al (pI iv rv (fun r => (0 ≤ r.toInt ∧ r.toInt ≤ 900) ∧ (r = rsF iv crew)))) 0 0 (Aq sz) := by
  refine mk_i (by decide) (Nat.le_of_ble_eq_true rfl) rfl ?_
  intro p e s m args below meth c ls Q H locs C hU hS hl hret
  have hx := C.1.1
  have hb := C.1.2.1
  have hl : lv_has ls 2 [(0, .ref (al.2 49 0)), (1, .int crew)] := hl
  have hG0 := hG
  have k0 : (0 : Int32).toInt = 0 := by decide
  have k1 : (1 : Int32).toInt = 1 := by decide
  refine lv_iload_n hx hb dX11_gapFor_0 rfl (lv_at hl 1 rfl) ?_
  refine b_if_eq (tgt := 13) hx hb dX11_gapFor_1 (by decide) (fun c_1 => ?_) (fun c_1 => ?_)
  ·
    refine lv_aload_n hx hb dX11_gapFor_13 rfl (lv_at hl 0 rfl) ?_
    refine g_49_7 C hU hG (h1_49 hG) fl_X11_67 dX11_gapFor_14 ?_
    refine lv_iconst (v := 0) hx hb dX11_gapFor_17 (by decide) ?_
    refine a_50 C hU hG (h1_50 hG) (x := 0) (by omega) (by omega) dX11_gapFor_18 (fun x_2 e_3 le_3 ue_3 => ?_)
    have te_3 := congrArg Int32.toInt e_3
    exact hret (⟨rfl, rfl, ⟨⟨by omega, by omega⟩, by unfold rsF; split <;> first | (exfalso; omega) | (rw [pre0.2.2 0 (by decide)]; simp only [e_3]; rfl) | (rw [pre0.2.2 1 (by decide)]; simp only [e_3]; rfl)⟩⟩) hU hS dX11_gapFor_19
  ·
    refine lv_aload_n hx hb dX11_gapFor_4 rfl (lv_at hl 0 rfl) ?_
    refine g_49_7 C hU hG (h1_49 hG) fl_X11_67 dX11_gapFor_5 ?_
    refine lv_iconst (v := 1) hx hb dX11_gapFor_8 (by decide) ?_
    refine a_50 C hU hG (h1_50 hG) (x := 1) (by omega) (by omega) dX11_gapFor_9 (fun x_4 e_5 le_5 ue_5 => ?_)
    have te_5 := congrArg Int32.toInt e_5
    refine lv_goto (tgt := 19) hx hb dX11_gapFor_10 (by decide) ?_
    exact hret (⟨rfl, rfl, ⟨⟨by omega, by omega⟩, by unfold rsF; split <;> first | (exfalso; omega) | (rw [pre0.2.2 0 (by decide)]; simp only [e_5]; rfl) | (rw [pre0.2.2 1 (by decide)]; simp only [e_5]; rfl)⟩⟩) hU hS dX11_gapFor_19
set_option maxHeartbeats 4000000 in
set_option maxRecDepth 100000 in
theorem c_X11_ahead_x {l : Launch} {D : va_G} {cA : FieldType → ClassId} {sz : Nat} {al : Al} {iv : Iv} {rv : Rv} (hG : GI al iv rv) (lg : Int32) (bb : Int32) (pre0 : BA iv rv) : Met l yX11_ahead (wd yX11_ahead cX11_ahead 5 (some .int)) (rm 2) (PcW D cA sz al iv rv [.ref (al.2 49 0), .int lg, .int bb]) (QI D cA sz al (fI al ([51], []) iv rv (fun r iv' rv' => r = ahS iv lg bb))) 0 0 (Aq sz) := by
  refine mk_i (by decide) (Nat.le_of_ble_eq_true rfl) rfl ?_
  intro p e s m args below meth c ls Q H locs C hU hS hl hret
  have hx := C.1.1
  have hb := C.1.2.1
  have hl : lv_has ls 5 [(0, .ref (al.2 49 0)), (1, .int lg), (2, .int bb)] := hl
  have hG0 := hG
  have hn6 := congrArg Int32.toInt pre0.1
  have hF1 : FR ([51], []) iv iv := FR.rf
  have hF2 : FR ([51], []) rv rv := FR.rf
  have km9 : ((-9) : Int32).toInt = -9 := by decide
  have km1 : ((-1) : Int32).toInt = -1 := by decide
  refine lv_aload_n hx hb dX11_ahead_0 rfl (lv_at hl 0 rfl) ?_
  refine g_49_1 C hU hG (h1_49 hG) fl_X11_19 dX11_ahead_1 ?_
  refine lv_iload_n hx hb dX11_ahead_4 rfl (lv_at hl 1 rfl) ?_
  refine q_pr (q_runV (t := 57) (i := 0) (As := [.int lg]) (rest := []) C hU (c_X10_find hG lg ) vm_X10_find ml_X11_123 k_57.1 (hc := rfl) rfl (h1_57 hG) hl.1 rfl rfl (Nat.le_of_ble_eq_true rfl) dX11_ahead_5 rfl rfl ⟨Nat.le_of_ble_eq_true rfl, Nat.le_of_ble_eq_true rfl⟩ ⟨Nat.le_refl _, Nat.le_refl _⟩) hS (fun r_2 H locs hp_1 hU hS => ?_)
  have hb_3 := hp_1.1
  refine b_astore_n (lv' := [(3, rfv al 62 r_2), (0, .ref (al.2 49 0)), (1, .int lg), (2, .int bb)]) hx hb dX11_ahead_8 rfl hl (by decide) rfl (fun ls hl => ?_)
  refine b_aload_n (al := al) (t' := 62) (r := r_2) hx hb dX11_ahead_9 rfl (lv_at hl 0 rfl) ?_
  refine b_ifnonnull (tgt := 19) hx hb dX11_ahead_10 (by decide) (fun j_5 ej_6 => ?_) (fun ej_6 => ?_)
  ·
    subst ej_6
    have hl : lv_has ls 5 [(3, .ref (al.2 62 j_5)), (0, .ref (al.2 49 0)), (1, .int lg), (2, .int bb)] := hl
    have hb_7 : j_5 < al.1 62 := hb_3 j_5 rfl
    have hq4 := hp_1.2.1 _ rfl
    have hn4 := hq4.1
    rw [clamp_n] at hn4
    refine lv_aload_n hx hb dX11_ahead_19 rfl (lv_at hl 1 rfl) ?_
    refine g_49_1 C hU hG (h1_49 hG) fl_X11_19 dX11_ahead_20 ?_
    refine lv_aload_n hx hb dX11_ahead_23 rfl (lv_at hl 0 rfl) ?_
    refine lv_iload_n hx hb dX11_ahead_24 rfl (lv_at hl 3 rfl) ?_
    refine lv_aload_n hx hb dX11_ahead_25 rfl (lv_at hl 1 rfl) ?_
    refine lv_iload_n hx hb dX11_ahead_26 rfl (lv_at hl 3 rfl) ?_
    refine q_pi (q_runV (t := 49) (i := 0) (As := [.int bb]) (rest := [.int bb, .ref (al.2 62 j_5), .ref (al.2 57 0)]) C hU (c_X11_gapFor_x hG bb (pre0)) vm_X11_gapFor ml_X11_159 k_49.1 (hc := rfl) rfl (h1_49 hG) hl.1 rfl rfl (Nat.le_of_ble_eq_true rfl) dX11_ahead_27 rfl rfl ⟨Nat.le_of_ble_eq_true rfl, Nat.le_of_ble_eq_true rfl⟩ ⟨Nat.le_refl _, Nat.le_refl _⟩) hS (fun x_9 H locs hp_8 hU hS => ?_)
    refine q_pr (q_runV (t := 57) (i := 0) (As := [.ref (al.2 62 j_5), .int bb, .int x_9]) (rest := []) C hU (c_X10_aheadOf_x hG (j_5) hb_7 bb x_9 (pre0) (hp_8.2)) vm_X10_aheadOf ml_X11_163 k_57.1 (hc := rfl) rfl (h1_57 hG) hl.1 rfl rfl (Nat.le_of_ble_eq_true rfl) dX11_ahead_30 rfl rfl ⟨Nat.le_of_ble_eq_true rfl, Nat.le_of_ble_eq_true rfl⟩ ⟨Nat.le_refl _, Nat.le_refl _⟩) hS (fun r_11 H locs hp_10 hU hS => ?_)
    have hb_12 := hp_10.1
    refine b_astore (lv' := [(4, rfv al 62 r_11), (3, .ref (al.2 62 j_5)), (0, .ref (al.2 49 0)), (1, .int lg), (2, .int bb)]) hx hb dX11_ahead_33 hl (by decide) rfl (fun ls hl => ?_)
    refine b_aload (al := al) (t' := 62) (r := r_11) hx hb dX11_ahead_35 (lv_at hl 0 rfl) ?_
    refine b_ifnonnull (tgt := 45) hx hb dX11_ahead_37 (by decide) (fun j_14 ej_15 => ?_) (fun ej_15 => ?_)
    ·
      subst ej_15
      have hl : lv_has ls 5 [(4, .ref (al.2 62 j_14)), (3, .ref (al.2 62 j_5)), (0, .ref (al.2 49 0)), (1, .int lg), (2, .int bb)] := hl
      have hb_16 : j_14 < al.1 62 := hb_12 j_14 rfl
      refine lv_aload hx hb dX11_ahead_45 (lv_at hl 0 rfl) ?_
      refine g_62_0 C hU hG hb_16 fl_X11_167 dX11_ahead_47 (fun x_17 e_18 le_18 ue_18 => ?_)
      have te_18 := congrArg Int32.toInt e_18
      exact hret (⟨hG, hF1, hF2, by unfold ahS; have z := hp_10.2; rw [hq4.1] at z; rw [if_neg (by omega)]; first | rw [if_pos (oI_none z)] | (have y := oI_some z; rw [if_neg (by omega)]; exact ah_num hG0 pre0.2.1 hb_16 e_18 y)⟩) hU hS dX11_ahead_50
    ·
      subst ej_15
      have hl : lv_has ls 5 [(4, rfv al 62 none), (3, .ref (al.2 62 j_5)), (0, .ref (al.2 49 0)), (1, .int lg), (2, .int bb)] := hl
      refine lv_bipush (v := (-9)) hx hb dX11_ahead_40 (by decide) ?_
      refine lv_goto (tgt := 50) hx hb dX11_ahead_42 (by decide) ?_
      exact hret (⟨hG, hF1, hF2, by unfold ahS; have z := hp_10.2; rw [hq4.1] at z; rw [if_neg (by omega)]; first | rw [if_pos (oI_none z)] | (have y := oI_some z; rw [if_neg (by omega)]; exact ah_num hG0 pre0.2.1 hb_12 True.intro y)⟩) hU hS dX11_ahead_50
  ·
    subst ej_6
    have hl : lv_has ls 5 [(3, rfv al 62 none), (0, .ref (al.2 49 0)), (1, .int lg), (2, .int bb)] := hl
    have hq4 := hp_1.2.2 rfl
    refine lv_aload_n hx hb dX11_ahead_13 rfl (lv_at hl 1 rfl) ?_
    refine lv_iconst (v := (-1)) hx hb dX11_ahead_14 (by decide) ?_
    refine q_fi (q_runV (t := 49) (i := 0) (As := [.int (-1)]) (rest := []) C hU (c_X11_refuse hG (-1) (by omega)) vm_X11_refuse ml_X11_77 k_49.1 (hc := rfl) rfl (h1_49 hG) hl.1 rfl rfl (Nat.le_of_ble_eq_true rfl) dX11_ahead_15 rfl rfl ⟨Nat.le_of_ble_eq_true rfl, Nat.le_of_ble_eq_true rfl⟩ ⟨Nat.le_refl _, Nat.le_refl _⟩) hS (fun x_24 iv_20 rv_21 H locs hG fa_22 fb_23 hp_19 hU hS => ?_)
    have hF1 := hF1.tr (m := ([51], [])) fa_22 (by decide)
    have hF2 := hF2.tr (m := ([51], [])) fb_23 (by decide)
    exact hret (⟨hG, hF1, hF2, by unfold ahS; rw [if_pos (by omega)]; exact hp_19⟩) hU hS dX11_ahead_18
set_option maxHeartbeats 4000000 in
set_option maxRecDepth 100000 in
theorem c_X12_legOf_x {l : Launch} {D : va_G} {cA : FieldType → ClassId} {sz : Nat} {al : Al} {iv : Iv} {rv : Rv} (hG : GI al iv rv) (lg : Int32) (what : Int32) : Met l yX12_legOf (wd yX12_legOf cX12_legOf 3 (some .int)) (rm 6) (PcW D cA sz al iv rv [.ref (al.2 0 0), .int lg, .int what]) (QI D cA sz al (fI al ([16], []) iv rv (fun r iv' rv' => r = loS iv lg what))) 0 0 (Aq sz) := by
  refine mk_i (by decide) (Nat.le_of_ble_eq_true rfl) rfl ?_
  intro p e s m args below meth c ls Q H locs C hU hS hl hret
  have hx := C.1.1
  have hb := C.1.2.1
  have hl : lv_has ls 3 [(0, .ref (al.2 0 0)), (1, .int lg), (2, .int what)] := hl
  have hG0 := hG
  have h6 := le6 hG
  have h20 := le20 hG
  have h41 := le41 hG
  have hF1 : FR ([16], []) iv iv := FR.rf
  have hF2 : FR ([16], []) rv rv := FR.rf
  have km5 : ((-5) : Int32).toInt = -5 := by decide
  have km2 : ((-2) : Int32).toInt = -2 := by decide
  have km1 : ((-1) : Int32).toInt = -1 := by decide
  have k0 : (0 : Int32).toInt = 0 := by decide
  have k1 : (1 : Int32).toInt = 1 := by decide
  have k5 : (5 : Int32).toInt = 5 := by decide
  refine lv_aload_n hx hb dX12_legOf_0 rfl (lv_at hl 0 rfl) ?_
  refine lv_iload_n hx hb dX12_legOf_1 rfl (lv_at hl 1 rfl) ?_
  refine q_pi (q_runV (t := 0) (i := 0) (As := [.int lg]) (rest := []) C hU (c_X12_isLeg hG lg ) vm_X12_isLeg ml_X12_181 k_0.1 (hc := rfl) rfl (h1_0 hG) hl.1 rfl rfl (Nat.le_of_ble_eq_true rfl) dX12_legOf_2 rfl rfl ⟨Nat.le_of_ble_eq_true rfl, Nat.le_of_ble_eq_true rfl⟩ ⟨Nat.le_refl _, Nat.le_refl _⟩) hS (fun x_2 H locs hp_1 hU hS => ?_)
  refine b_if_ne (tgt := 14) hx hb dX12_legOf_5 (by decide) (fun c_3 => ?_) (fun c_3 => ?_)
  ·
    refine lv_iload_n hx hb dX12_legOf_14 rfl (lv_at hl 2 rfl) ?_
    refine lv_iconst (v := 0) hx hb dX12_legOf_15 (by decide) ?_
    refine lv_iconst (v := 5) hx hb dX12_legOf_16 (by decide) ?_
    refine q_pi (q_runS (As := [.int what, .int 0, .int 5]) (rest := []) C hU (c_X12_in  what 0 5 ) sm_X12_in ml_X12_156 hl.1 rfl rfl (Nat.le_of_ble_eq_true rfl) dX12_legOf_17 rfl rfl ⟨Nat.le_of_ble_eq_true rfl, Nat.le_of_ble_eq_true rfl⟩ ⟨Nat.le_refl _, Nat.le_refl _⟩) hS (fun x_5 H locs hp_4 hU hS => ?_)
    refine b_if_ne (tgt := 30) hx hb dX12_legOf_20 (by decide) (fun c_6 => ?_) (fun c_6 => ?_)
    ·
      refine lv_aload_n hx hb dX12_legOf_30 rfl (lv_at hl 0 rfl) ?_
      refine g_0_13 C hU hG (h1_0 hG) fl_X12_40 dX12_legOf_31 ?_
      refine lv_iload_n hx hb dX12_legOf_34 rfl (lv_at hl 1 rfl) ?_
      refine a_11 C hU hG (h1_11 hG) (x := lg) (by omega) (by omega) dX12_legOf_35 (fun x_7 e_8 le_8 ue_8 => ?_)
      have te_8 := congrArg Int32.toInt e_8
      refine b_if_ne (tgt := 46) hx hb dX12_legOf_36 (by decide) (fun c_9 => ?_) (fun c_9 => ?_)
      ·
        refine lv_iload_n hx hb dX12_legOf_46 rfl (lv_at hl 2 rfl) ?_
        refine b_table hx hb dX12_legOf_47 112 (by decide) [80, 86, 92, 99, 106] (by decide) (fun j hj => ?_) (fun c_10 => ?_) (fun j tt htt c_10 => ?_)
        ·
          match j, hj with
          | 0, _ => exact ⟨33, 80, by decide, by decide, by decide⟩
          | 1, _ => exact ⟨39, 86, by decide, by decide, by decide⟩
          | 2, _ => exact ⟨45, 92, by decide, by decide, by decide⟩
          | 3, _ => exact ⟨52, 99, by decide, by decide, by decide⟩
          | 4, _ => exact ⟨59, 106, by decide, by decide, by decide⟩
          | q + 5, hq => exact absurd hq (by simp)
        ·
          refine lv_aload_n hx hb dX12_legOf_112 rfl (lv_at hl 0 rfl) ?_
          refine lv_iload_n hx hb dX12_legOf_113 rfl (lv_at hl 1 rfl) ?_
          refine q_pi (q_runV (t := 0) (i := 0) (As := [.int lg]) (rest := []) C hU (c_X12_lateOf hG lg (by omega)) vm_X12_lateOf ml_X12_210 k_0.1 (hc := rfl) rfl (h1_0 hG) hl.1 rfl rfl (Nat.le_of_ble_eq_true rfl) dX12_legOf_114 rfl rfl ⟨Nat.le_of_ble_eq_true rfl, Nat.le_of_ble_eq_true rfl⟩ ⟨Nat.le_refl _, Nat.le_refl _⟩) hS (fun x_12 H locs hp_11 hU hS => ?_)
          have q_13 := hp_11.2
          have tq_13 := congrArg Int32.toInt q_13
          refine lv_aload_n hx hb dX12_legOf_117 rfl (lv_at hl 0 rfl) ?_
          refine lv_iload_n hx hb dX12_legOf_118 rfl (lv_at hl 1 rfl) ?_
          refine q_pi (q_runV (t := 0) (i := 0) (As := [.int lg]) (rest := [.int x_12]) C hU (c_X12_handedOf hG lg (by omega)) vm_X12_handedOf ml_X12_216 k_0.1 (hc := rfl) rfl (h1_0 hG) hl.1 rfl rfl (Nat.le_of_ble_eq_true rfl) dX12_legOf_119 rfl rfl ⟨Nat.le_of_ble_eq_true rfl, Nat.le_of_ble_eq_true rfl⟩ ⟨Nat.le_refl _, Nat.le_refl _⟩) hS (fun x_15 H locs hp_14 hU hS => ?_)
          have q_16 := hp_14.2
          have tq_16 := congrArg Int32.toInt q_16
          refine lv_isub hx hb dX12_legOf_122 ?_
          refine lv_topi (fun x_17 e_18 => ?_)
          have w_19 := fb_rng x_12
          have w_20 := fb_rng x_15
          have te_18 : x_17.toInt = (x_12 : Int32).toInt - (x_15 : Int32).toInt := by rw [e_18]; exact fb_subI (by omega) (by omega)
          exact hret (⟨hG, hF1, hF2, by unfold loS; rw [if_neg (by omega), if_neg (by omega), if_neg (by omega), if_neg (by omega), if_neg (by omega), if_neg (by omega), if_neg (by omega), if_neg (by omega), e_18, q_13, q_16]⟩) hU hS dX12_legOf_123
        ·
          match j, htt with
          | 0, htt =>
            cases htt
            refine lv_aload_n hx hb dX12_legOf_80 rfl (lv_at hl 0 rfl) ?_
            refine lv_iload_n hx hb dX12_legOf_81 rfl (lv_at hl 1 rfl) ?_
            refine q_pi (q_runV (t := 0) (i := 0) (As := [.int lg]) (rest := []) C hU (c_X12_lateOf hG lg (by omega)) vm_X12_lateOf ml_X12_210 k_0.1 (hc := rfl) rfl (h1_0 hG) hl.1 rfl rfl (Nat.le_of_ble_eq_true rfl) dX12_legOf_82 rfl rfl ⟨Nat.le_of_ble_eq_true rfl, Nat.le_of_ble_eq_true rfl⟩ ⟨Nat.le_refl _, Nat.le_refl _⟩) hS (fun x_22 H locs hp_21 hU hS => ?_)
            have q_23 := hp_21.2
            have tq_23 := congrArg Int32.toInt q_23
            exact hret (⟨hG, hF1, hF2, by unfold loS; rw [if_neg (by omega), if_neg (by omega), if_neg (by omega), if_pos (by omega)]; exact q_23⟩) hU hS dX12_legOf_85
          | 1, htt =>
            cases htt
            refine lv_aload_n hx hb dX12_legOf_86 rfl (lv_at hl 0 rfl) ?_
            refine lv_iload_n hx hb dX12_legOf_87 rfl (lv_at hl 1 rfl) ?_
            refine q_pi (q_runV (t := 0) (i := 0) (As := [.int lg]) (rest := []) C hU (c_X12_outlateOf hG lg (by omega)) vm_X12_outlateOf ml_X12_200 k_0.1 (hc := rfl) rfl (h1_0 hG) hl.1 rfl rfl (Nat.le_of_ble_eq_true rfl) dX12_legOf_88 rfl rfl ⟨Nat.le_of_ble_eq_true rfl, Nat.le_of_ble_eq_true rfl⟩ ⟨Nat.le_refl _, Nat.le_refl _⟩) hS (fun x_25 H locs hp_24 hU hS => ?_)
            have q_26 := hp_24.2
            have tq_26 := congrArg Int32.toInt q_26
            exact hret (⟨hG, hF1, hF2, by unfold loS; rw [if_neg (by omega), if_neg (by omega), if_neg (by omega), if_neg (by omega), if_pos (by omega)]; exact q_26⟩) hU hS dX12_legOf_91
          | 2, htt =>
            cases htt
            refine lv_aload_n hx hb dX12_legOf_92 rfl (lv_at hl 0 rfl) ?_
            refine lv_iload_n hx hb dX12_legOf_93 rfl (lv_at hl 1 rfl) ?_
            refine lv_iconst (v := 0) hx hb dX12_legOf_94 (by decide) ?_
            refine q_pi (q_runV (t := 0) (i := 0) (As := [.int lg, .int 0]) (rest := []) C hU (c_X12_waitOf hG lg 0 (by omega)) vm_X12_waitOf ml_X12_207 k_0.1 (hc := rfl) rfl (h1_0 hG) hl.1 rfl rfl (Nat.le_of_ble_eq_true rfl) dX12_legOf_95 rfl rfl ⟨Nat.le_of_ble_eq_true rfl, Nat.le_of_ble_eq_true rfl⟩ ⟨Nat.le_refl _, Nat.le_refl _⟩) hS (fun x_28 H locs hp_27 hU hS => ?_)
            have q_29 := hp_27.2
            have tq_29 := congrArg Int32.toInt q_29
            exact hret (⟨hG, hF1, hF2, by unfold loS; rw [if_neg (by omega), if_neg (by omega), if_neg (by omega), if_neg (by omega), if_neg (by omega), if_pos (by omega)]; exact q_29⟩) hU hS dX12_legOf_98
          | 3, htt =>
            cases htt
            refine lv_aload_n hx hb dX12_legOf_99 rfl (lv_at hl 0 rfl) ?_
            refine lv_iload_n hx hb dX12_legOf_100 rfl (lv_at hl 1 rfl) ?_
            refine lv_iconst (v := 1) hx hb dX12_legOf_101 (by decide) ?_
            refine q_pi (q_runV (t := 0) (i := 0) (As := [.int lg, .int 1]) (rest := []) C hU (c_X12_waitOf hG lg 1 (by omega)) vm_X12_waitOf ml_X12_207 k_0.1 (hc := rfl) rfl (h1_0 hG) hl.1 rfl rfl (Nat.le_of_ble_eq_true rfl) dX12_legOf_102 rfl rfl ⟨Nat.le_of_ble_eq_true rfl, Nat.le_of_ble_eq_true rfl⟩ ⟨Nat.le_refl _, Nat.le_refl _⟩) hS (fun x_31 H locs hp_30 hU hS => ?_)
            have q_32 := hp_30.2
            have tq_32 := congrArg Int32.toInt q_32
            exact hret (⟨hG, hF1, hF2, by unfold loS; rw [if_neg (by omega), if_neg (by omega), if_neg (by omega), if_neg (by omega), if_neg (by omega), if_neg (by omega), if_pos (by omega)]; exact q_32⟩) hU hS dX12_legOf_105
          | 4, htt =>
            cases htt
            refine lv_aload_n hx hb dX12_legOf_106 rfl (lv_at hl 0 rfl) ?_
            refine lv_iload_n hx hb dX12_legOf_107 rfl (lv_at hl 1 rfl) ?_
            refine q_pi (q_runV (t := 0) (i := 0) (As := [.int lg]) (rest := []) C hU (c_X12_handedOf hG lg (by omega)) vm_X12_handedOf ml_X12_216 k_0.1 (hc := rfl) rfl (h1_0 hG) hl.1 rfl rfl (Nat.le_of_ble_eq_true rfl) dX12_legOf_108 rfl rfl ⟨Nat.le_of_ble_eq_true rfl, Nat.le_of_ble_eq_true rfl⟩ ⟨Nat.le_refl _, Nat.le_refl _⟩) hS (fun x_34 H locs hp_33 hU hS => ?_)
            have q_35 := hp_33.2
            have tq_35 := congrArg Int32.toInt q_35
            exact hret (⟨hG, hF1, hF2, by unfold loS; rw [if_neg (by omega), if_neg (by omega), if_neg (by omega), if_neg (by omega), if_neg (by omega), if_neg (by omega), if_neg (by omega), if_pos (by omega)]; exact q_35⟩) hU hS dX12_legOf_111
          | q + 5, htt => simp at htt
      ·
        refine lv_aload_n hx hb dX12_legOf_39 rfl (lv_at hl 0 rfl) ?_
        refine lv_bipush (v := (-5)) hx hb dX12_legOf_40 (by decide) ?_
        refine q_fi (q_runV (t := 0) (i := 0) (As := [.int (-5)]) (rest := []) C hU (c_X12_refuse hG (-5) (by omega)) vm_X12_refuse ml_X12_164 k_0.1 (hc := rfl) rfl (h1_0 hG) hl.1 rfl rfl (Nat.le_of_ble_eq_true rfl) dX12_legOf_42 rfl rfl ⟨Nat.le_of_ble_eq_true rfl, Nat.le_of_ble_eq_true rfl⟩ ⟨Nat.le_refl _, Nat.le_refl _⟩) hS (fun x_41 iv_37 rv_38 H locs hG fa_39 fb_40 hp_36 hU hS => ?_)
        have hF1 := hF1.tr (m := ([16], [])) fa_39 (by decide)
        have hF2 := hF2.tr (m := ([16], [])) fb_40 (by decide)
        exact hret (⟨hG, hF1, hF2, by unfold loS; rw [if_neg (by omega), if_neg (by omega), if_pos (by omega)]; exact hp_36⟩) hU hS dX12_legOf_45
    ·
      refine lv_aload_n hx hb dX12_legOf_23 rfl (lv_at hl 0 rfl) ?_
      refine lv_bipush (v := (-2)) hx hb dX12_legOf_24 (by decide) ?_
      refine q_fi (q_runV (t := 0) (i := 0) (As := [.int (-2)]) (rest := []) C hU (c_X12_refuse hG (-2) (by omega)) vm_X12_refuse ml_X12_164 k_0.1 (hc := rfl) rfl (h1_0 hG) hl.1 rfl rfl (Nat.le_of_ble_eq_true rfl) dX12_legOf_26 rfl rfl ⟨Nat.le_of_ble_eq_true rfl, Nat.le_of_ble_eq_true rfl⟩ ⟨Nat.le_refl _, Nat.le_refl _⟩) hS (fun x_47 iv_43 rv_44 H locs hG fa_45 fb_46 hp_42 hU hS => ?_)
      have hF1 := hF1.tr (m := ([16], [])) fa_45 (by decide)
      have hF2 := hF2.tr (m := ([16], [])) fb_46 (by decide)
      exact hret (⟨hG, hF1, hF2, by unfold loS; rw [if_neg (by omega), if_pos (by omega)]; exact hp_42⟩) hU hS dX12_legOf_29
  ·
    refine lv_aload_n hx hb dX12_legOf_8 rfl (lv_at hl 0 rfl) ?_
    refine lv_iconst (v := (-1)) hx hb dX12_legOf_9 (by decide) ?_
    refine q_fi (q_runV (t := 0) (i := 0) (As := [.int (-1)]) (rest := []) C hU (c_X12_refuse hG (-1) (by omega)) vm_X12_refuse ml_X12_164 k_0.1 (hc := rfl) rfl (h1_0 hG) hl.1 rfl rfl (Nat.le_of_ble_eq_true rfl) dX12_legOf_10 rfl rfl ⟨Nat.le_of_ble_eq_true rfl, Nat.le_of_ble_eq_true rfl⟩ ⟨Nat.le_refl _, Nat.le_refl _⟩) hS (fun x_53 iv_49 rv_50 H locs hG fa_51 fb_52 hp_48 hU hS => ?_)
    have hF1 := hF1.tr (m := ([16], [])) fa_51 (by decide)
    have hF2 := hF2.tr (m := ([16], [])) fb_52 (by decide)
    exact hret (⟨hG, hF1, hF2, by unfold loS; rw [if_pos (by omega)]; exact hp_48⟩) hU hS dX12_legOf_13
