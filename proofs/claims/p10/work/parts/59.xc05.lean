set_option maxHeartbeats 4000000 in
set_option maxRecDepth 100000 in
theorem c_X5_waitFor_x {l : Launch} {D : va_G} {cA : FieldType → ClassId} {sz : Nat} {al : Al} {iv : Iv} {rv : Rv} (hG : GI al iv rv) (li : Nat) (hli : li < al.1 62) (bf : Option Nat) (hbf : ∀ j, bf = some j → j < al.1 62) (gap : Int32) : Met l yX5_waitFor (wd yX5_waitFor cX5_waitFor 4 (some .int)) (rm 1) (PcW D cA sz al iv rv [.ref (al.2 62 li), rfv al 62 bf, .int gap]) (QI D cA sz al (pI iv rv (fun r => r = wfX iv li bf gap))) 0 0 (Aq sz) := by
  cases bf with
  | none =>
    refine mk_i (by decide) (Nat.le_of_ble_eq_true rfl) rfl ?_
    intro p e s m args below meth c ls Q H locs C hU hS hl hret
    have hx := C.1.1
    have hb := C.1.2.1
    have hl : lv_has ls 4 [(0, .ref (al.2 62 li)), (1, .null), (2, .int gap)] := hl
    have hG0 := hG
    have k0 : (0 : Int32).toInt = 0 := by decide
    refine lv_aload_nN hx hb dX5_waitFor_0 rfl (lv_at hl 1 rfl) ?_
    refine lv_ifnullN (tgt := 11) hx hb dX5_waitFor_1 (by decide) ?_
    refine lv_iconst (v := 0) hx hb dX5_waitFor_11 (by decide) ?_
    exact hret (⟨rfl, rfl, by first | rfl | exact (wfX_0 (by omega)).symm⟩) hU hS dX5_waitFor_12
  | some bf_j =>
    have hbf_j : bf_j < al.1 62 := hbf bf_j rfl
    refine mk_i (by decide) (Nat.le_of_ble_eq_true rfl) rfl ?_
    intro p e s m args below meth c ls Q H locs C hU hS hl hret
    have hx := C.1.1
    have hb := C.1.2.1
    have hl : lv_has ls 4 [(0, .ref (al.2 62 li)), (1, .ref (al.2 62 bf_j)), (2, .int gap)] := hl
    have hG0 := hG
    have k0 : (0 : Int32).toInt = 0 := by decide
    refine lv_aload_n hx hb dX5_waitFor_0 rfl (lv_at hl 1 rfl) ?_
    refine lv_ifnull hx hb dX5_waitFor_1 ?_
    refine lv_aload_n hx hb dX5_waitFor_4 rfl (lv_at hl 1 rfl) ?_
    refine g_62_7 C hU hG hbf_j fl_X5_38 dX5_waitFor_5 (fun x_2 e_3 le_3 ue_3 => ?_)
    have te_3 := congrArg Int32.toInt e_3
    refine b_if_ne (tgt := 13) hx hb dX5_waitFor_8 (by decide) (fun c_4 => ?_) (fun c_4 => ?_)
    ·
      refine lv_iconst (v := 0) hx hb dX5_waitFor_13 (by decide) ?_
      refine lv_aload_n hx hb dX5_waitFor_14 rfl (lv_at hl 1 rfl) ?_
      refine g_62_11 C hU hG hbf_j fl_X5_59 dX5_waitFor_15 (fun x_5 e_6 => ?_)
      have te_6 := congrArg Int32.toInt e_6
      refine lv_iload_n hx hb dX5_waitFor_18 rfl (lv_at hl 2 rfl) ?_
      refine lv_iadd hx hb dX5_waitFor_19 ?_
      refine lv_topi (fun x_7 e_8 => ?_)
      refine lv_aload_n hx hb dX5_waitFor_20 rfl (lv_at hl 0 rfl) ?_
      refine g_62_5 C hU hG hli fl_X5_26 dX5_waitFor_21 (fun x_9 e_10 le_10 ue_10 => ?_)
      have te_10 := congrArg Int32.toInt e_10
      refine lv_isub hx hb dX5_waitFor_24 ?_
      refine lv_topi (fun x_11 e_12 => ?_)
      refine q_max C hl.1 ml_X5_50 (Nat.le_of_ble_eq_true rfl) (Nat.le_of_ble_eq_true rfl) (Nat.le_refl _) (Nat.le_refl _) dX5_waitFor_25 (fun x_13 q_14 tq_14 => ?_)
      refine lv_istore_n (lv' := [(3, .int x_13), (0, .ref (al.2 62 li)), (1, .ref (al.2 62 bf_j)), (2, .int gap)]) hx hb dX5_waitFor_28 rfl hl (by decide) rfl (fun ls hl => ?_)
      refine lv_iload_n hx hb dX5_waitFor_29 rfl (lv_at hl 0 rfl) ?_
      refine lv_aload_n hx hb dX5_waitFor_30 rfl (lv_at hl 1 rfl) ?_
      refine g_62_12 C hU hG hli fl_X5_62 dX5_waitFor_31 (fun x_15 e_16 => ?_)
      have te_16 := congrArg Int32.toInt e_16
      refine q_min C hl.1 ml_X5_68 (Nat.le_of_ble_eq_true rfl) (Nat.le_of_ble_eq_true rfl) (Nat.le_refl _) (Nat.le_refl _) dX5_waitFor_34 (fun x_17 q_18 tq_18 => ?_)
      exact hret (⟨rfl, rfl, by rw [q_18, q_14]; exact wfX_1 e_6 e_8 e_10 e_12 e_16 (by omega)⟩) hU hS dX5_waitFor_37
    ·
      refine lv_iconst (v := 0) hx hb dX5_waitFor_11 (by decide) ?_
      exact hret (⟨rfl, rfl, by first | rfl | exact (wfX_0 (by omega)).symm⟩) hU hS dX5_waitFor_12
set_option maxHeartbeats 4000000 in
set_option maxRecDepth 100000 in
theorem c_X10_trace_x {l : Launch} {D : va_G} {cA : FieldType → ClassId} {sz : Nat} {al : Al} {iv : Iv} {rv : Rv} (hG : GI al iv rv) (li : Nat) (hli : li < al.1 62) (turn : Int32) (rest_ : Int32) (pre0 : BC iv rv) (pre1 : ¬ (iv 62 li 7).toInt = 0) (pre2 : turn = iv 15 0 0) (pre3 : rest_ = iv 15 0 1) : Met l yX10_trace (wd yX10_trace cX10_trace 13 none) (rm 2) (PcW D cA sz al iv rv [.ref (al.2 57 0), .ref (al.2 62 li), .int turn, .int rest_]) (QV D cA sz al (fV al ([59], []) iv rv (fun iv' rv' => ∀ k : Nat, k < 6 → iv' 59 0 k = mtF iv li k))) 0 0 (Aq sz) := by
  refine mk_v (by decide) (Nat.le_of_ble_eq_true rfl) rfl ?_
  intro p e s m args below meth c ls Q H locs C hU hS hl hret
  have hx := C.1.1
  have hb := C.1.2.1
  have hl : lv_has ls 13 [(0, .ref (al.2 57 0)), (1, .ref (al.2 62 li)), (2, .int turn), (3, .int rest_)] := hl
  have hG0 := hG
  have hF1 : FR ([59], []) iv iv := FR.rf
  have hF2 : FR ([59], []) rv rv := FR.rf
  have k0 : (0 : Int32).toInt = 0 := by decide
  have k1 : (1 : Int32).toInt = 1 := by decide
  have k40 : (40 : Int32).toInt = 40 := by decide
  refine lv_aload_n hx hb dX10_trace_0 rfl (lv_at hl 0 rfl) ?_
  refine g_57_2 C hU hG (h1_57 hG) fl_X10_17 dX10_trace_1 ?_
  refine lv_iconst (v := 0) hx hb dX10_trace_4 (by decide) ?_
  refine q_fv (q_runS (As := [.ref (al.2 59 0), .int 0]) (rest := []) C hU (c_J7_fill_53178_59x hG 0 ) sm_J7_fill_53178 ml_X10_65 hl.1 rfl rfl (Nat.le_of_ble_eq_true rfl) dX10_trace_5 rfl rfl ⟨Nat.le_of_ble_eq_true rfl, Nat.le_of_ble_eq_true rfl⟩ ⟨Nat.le_refl _, Nat.le_refl _⟩) hS (fun iv_2 rv_3 H locs hG fa_4 fb_5 hp_1 hU hS => ?_)
  have hF1 := hF1.tr (m := ([59], [])) fa_4 (by decide)
  have hF2 := hF2.tr (m := ([59], [])) fb_5 (by decide)
  refine lv_aload_n hx hb dX10_trace_8 rfl (lv_at hl 1 rfl) ?_
  refine lv_astore (lv' := [(4, .ref (al.2 62 li)), (0, .ref (al.2 57 0)), (1, .ref (al.2 62 li)), (2, .int turn), (3, .int rest_)]) hx hb dX10_trace_9 hl (by decide) rfl (fun ls hl => ?_)
  refine lv_aload_n hx hb dX10_trace_11 rfl (lv_at hl 2 rfl) ?_
  refine g_62_13 C hU hG hli fl_X10_71 dX10_trace_12 (fun x_6 e_7 => ?_)
  have te_7 := congrArg Int32.toInt e_7
  have ne_7 : x_6.toInt = (iv 62 li 13).toInt := by rw [e_7, hF1 62 li 13 (by decide)]
  refine lv_istore (lv' := [(5, .int x_6), (4, .ref (al.2 62 li)), (0, .ref (al.2 57 0)), (1, .ref (al.2 62 li)), (2, .int turn), (3, .int rest_)]) hx hb dX10_trace_15 hl (by decide) rfl (fun ls hl => ?_)
  refine lv_iconst (v := 0) hx hb dX10_trace_17 (by decide) ?_
  refine lv_istore (lv' := [(6, .int 0), (5, .int x_6), (4, .ref (al.2 62 li)), (0, .ref (al.2 57 0)), (1, .ref (al.2 62 li)), (2, .int turn), (3, .int rest_)]) hx hb dX10_trace_18 hl (by decide) rfl (fun ls hl => ?_)
  have J_20 : ∀ (n_20 : Nat) (r_8 : Option Nat) (l5_10 : Int32) (l6_11 : Int32) (iv_12 : Iv) (rv_13 : Rv) (H : Heap) (locs : List Loc) (ls : Array Slot), lv_has ls 13 [(0, .ref (al.2 57 0)), (2, .int turn), (3, .int rest_), (4, rfv al 62 r_8), (5, .int l5_10), (6, .int l6_11)] → (∀ j, r_8 = some j → j < al.1 62) → GI al iv_12 rv_13 → FR ([59], []) iv iv_12 → FR ([59], []) rv rv_13 → UW D cA sz al iv_12 rv_13 H → va_S (Aq sz) s.heap H locs → (0 ≤ l6_11.toInt ∧ l6_11.toInt ≤ 40) → trI iv iv_12 li r_8 l5_10 l6_11.toNatClampNeg → (40 - l6_11.toInt).toNat < n_20 → W p l e (rm 2) s m args below meth c H locs 0 0 Q (F0 m 20 ls []) := by
    intro n_20
    induction n_20 with
    | zero =>
      intro r_8 l5_10 l6_11 iv_12 rv_13 H locs ls hl hb_9 hG hF1 hF2 hU hS i20_0 i20_1 hm_20
      exact absurd hm_20 (Nat.not_lt_zero _)
    | succ n_20 ih_20 =>
      intro r_8 l5_10 l6_11 iv_12 rv_13 H locs ls hl hb_9 hG hF1 hF2 hU hS i20_0 i20_1 hm_20
      have hMA := ma_fr hF1
      have hBC := bc_fr hG0 pre0 hF1 hF2
      refine lv_iload hx hb dX10_trace_20 (lv_at hl 5 rfl) ?_
      refine lv_bipush (v := 40) hx hb dX10_trace_22 (by decide) ?_
      refine b_icmp_ge (tgt := 147) hx hb dX10_trace_24 (by decide) (fun c_14 => ?_) (fun c_14 => ?_)
      ·
        exact hret (⟨hG, hF1, hF2, by first | exact tr_e1 i20_1 (by omega) | exact tr_e2 i20_1 (by omega) (by omega) | exact tr_e3 i20_1 (by omega)⟩) hU hS dX10_trace_147
      ·
        refine b_aload (al := al) (t' := 62) (r := r_8) hx hb dX10_trace_27 (lv_at hl 3 rfl) ?_
        refine b_ifnull (tgt := 147) hx hb dX10_trace_29 (by decide) (fun ej_17 => ?_) (fun j_16 ej_17 => ?_)
        ·
          subst ej_17
          have hl : lv_has ls 13 [(0, .ref (al.2 57 0)), (2, .int turn), (3, .int rest_), (4, rfv al 62 none), (5, .int l5_10), (6, .int l6_11)] := hl
          exact hret (⟨hG, hF1, hF2, by first | exact tr_e1 i20_1 (by omega) | exact tr_e2 i20_1 (by omega) (by omega) | exact tr_e3 i20_1 (by omega)⟩) hU hS dX10_trace_147
        ·
          subst ej_17
          have hl : lv_has ls 13 [(0, .ref (al.2 57 0)), (2, .int turn), (3, .int rest_), (4, .ref (al.2 62 j_16)), (5, .int l5_10), (6, .int l6_11)] := hl
          have hb_18 : j_16 < al.1 62 := hb_9 j_16 rfl
          have hb4 := hb_18
          refine lv_iload hx hb dX10_trace_32 (lv_at hl 4 rfl) ?_
          refine b_if_le (tgt := 147) hx hb dX10_trace_34 (by decide) (fun c_19 => ?_) (fun c_19 => ?_)
          ·
            exact hret (⟨hG, hF1, hF2, by first | exact tr_e1 i20_1 (by omega) | exact tr_e2 i20_1 (by omega) (by omega) | exact tr_e3 i20_1 (by omega)⟩) hU hS dX10_trace_147
          ·
            have hat := i20_1.2.2 (by omega)
            have hlg := tr_lg hG0 hat
            have hlg2 : ¬ (iv_12 62 j_16 7).toInt = 0 := by rw [hF1 62 j_16 7 (by decide)]; exact hlg
            refine lv_aload_n hx hb dX10_trace_37 rfl (lv_at hl 0 rfl) ?_
            refine lv_aload hx hb dX10_trace_38 (lv_at hl 3 rfl) ?_
            refine lv_iconst (v := 0) hx hb dX10_trace_40 (by decide) ?_
            refine lv_iload_n hx hb dX10_trace_41 rfl (lv_at hl 1 rfl) ?_
            refine q_pr (q_runV (t := 57) (i := 0) (As := [.ref (al.2 62 j_16), .int 0, .int turn]) (rest := []) C hU (c_X10_aheadOf_x hG (j_16) hb_18 0 turn (hBC.1.1) (tr_g0 hMA pre2)) vm_X10_aheadOf ml_X10_74 k_57.1 (hc := rfl) rfl (h1_57 hG) hl.1 rfl rfl (Nat.le_of_ble_eq_true rfl) dX10_trace_42 rfl rfl ⟨Nat.le_of_ble_eq_true rfl, Nat.le_of_ble_eq_true rfl⟩ ⟨Nat.le_refl _, Nat.le_refl _⟩) hS (fun r_21 H locs hp_20 hU hS => ?_)
            have hb_22 := hp_20.1
            have h42 := hp_20.2.trans (congrArg oI (ah_m hMA _ _))
            refine b_astore (lv' := [(7, rfv al 62 r_21), (0, .ref (al.2 57 0)), (2, .int turn), (3, .int rest_), (4, .ref (al.2 62 j_16)), (5, .int l5_10), (6, .int l6_11)]) hx hb dX10_trace_45 hl (by decide) rfl (fun ls hl => ?_)
            refine lv_aload_n hx hb dX10_trace_47 rfl (lv_at hl 1 rfl) ?_
            refine lv_aload hx hb dX10_trace_48 (lv_at hl 4 rfl) ?_
            refine lv_iconst (v := 1) hx hb dX10_trace_50 (by decide) ?_
            refine lv_iload_n hx hb dX10_trace_51 rfl (lv_at hl 3 rfl) ?_
            refine q_pr (q_runV (t := 57) (i := 0) (As := [.ref (al.2 62 j_16), .int 1, .int rest_]) (rest := []) C hU (c_X10_aheadOf_x hG (j_16) hb_18 1 rest_ (hBC.1.1) (tr_g1 hMA pre3)) vm_X10_aheadOf ml_X10_74 k_57.1 (hc := rfl) rfl (h1_57 hG) hl.1 rfl rfl (Nat.le_of_ble_eq_true rfl) dX10_trace_52 rfl rfl ⟨Nat.le_of_ble_eq_true rfl, Nat.le_of_ble_eq_true rfl⟩ ⟨Nat.le_refl _, Nat.le_refl _⟩) hS (fun r_24 H locs hp_23 hU hS => ?_)
            have hb_25 := hp_23.1
            have h52 := hp_23.2.trans (congrArg oI (ah_m hMA _ _))
            refine b_astore (lv' := [(8, rfv al 62 r_24), (7, rfv al 62 r_21), (0, .ref (al.2 57 0)), (2, .int turn), (3, .int rest_), (4, .ref (al.2 62 j_16)), (5, .int l5_10), (6, .int l6_11)]) hx hb dX10_trace_55 hl (by decide) (by simp [List.filter_cons, rfv_cat]) (fun ls hl => ?_)
            refine lv_aload hx hb dX10_trace_57 (lv_at hl 5 rfl) ?_
            refine b_aload (al := al) (t' := 62) (r := r_21) hx hb dX10_trace_59 (lv_at hl 1 rfl) ?_
            refine lv_iload_n hx hb dX10_trace_61 rfl (lv_at hl 3 rfl) ?_
            refine q_pi (q_runV (t := 62) (i := j_16) (As := [rfv al 62 r_21, .int turn]) (rest := []) C hU (c_X5_waitFor_x hG (j_16) hb_18 r_21 hb_22 turn ) vm_X5_waitFor ml_X10_78 k_62.1 (hc := rfl) rfl hb_18 hl.1 rfl rfl (Nat.le_of_ble_eq_true rfl) dX10_trace_62 rfl rfl ⟨Nat.le_of_ble_eq_true rfl, Nat.le_of_ble_eq_true rfl⟩ ⟨Nat.le_refl _, Nat.le_refl _⟩) hS (fun x_27 H locs hp_26 hU hS => ?_)
            have hw0 := tr_w hG hBC.1 hb4 hlg2 hp_20.2 (tr_g0 hMA pre2) hp_26 hMA
            refine lv_istore (lv' := [(9, .int x_27), (8, rfv al 62 r_24), (7, rfv al 62 r_21), (0, .ref (al.2 57 0)), (2, .int turn), (3, .int rest_), (4, .ref (al.2 62 j_16)), (5, .int l5_10), (6, .int l6_11)]) hx hb dX10_trace_65 hl (by decide) (by simp [List.filter_cons, rfv_cat]) (fun ls hl => ?_)
            refine lv_aload hx hb dX10_trace_67 (lv_at hl 6 rfl) ?_
            refine b_aload (al := al) (t' := 62) (r := r_24) hx hb dX10_trace_69 (lv_at hl 1 rfl) ?_
            refine lv_iload_n hx hb dX10_trace_71 rfl (lv_at hl 5 rfl) ?_
            refine q_pi (q_runV (t := 62) (i := j_16) (As := [rfv al 62 r_24, .int rest_]) (rest := []) C hU (c_X5_waitFor_x hG (j_16) hb_18 r_24 hb_25 rest_ ) vm_X5_waitFor ml_X10_78 k_62.1 (hc := rfl) rfl hb_18 hl.1 rfl rfl (Nat.le_of_ble_eq_true rfl) dX10_trace_72 rfl rfl ⟨Nat.le_of_ble_eq_true rfl, Nat.le_of_ble_eq_true rfl⟩ ⟨Nat.le_refl _, Nat.le_refl _⟩) hS (fun x_29 H locs hp_28 hU hS => ?_)
            have hw1 := tr_w hG hBC.1 hb4 hlg2 hp_23.2 (tr_g1 hMA pre3) hp_28 hMA
            refine lv_istore (lv' := [(10, .int x_29), (9, .int x_27), (8, rfv al 62 r_24), (7, rfv al 62 r_21), (0, .ref (al.2 57 0)), (2, .int turn), (3, .int rest_), (4, .ref (al.2 62 j_16)), (5, .int l5_10), (6, .int l6_11)]) hx hb dX10_trace_75 hl (by decide) rfl (fun ls hl => ?_)
            refine lv_aload hx hb dX10_trace_77 (lv_at hl 7 rfl) ?_
            refine g_62_13 C hU hG hb_18 fl_X10_71 dX10_trace_79 (fun x_30 e_31 => ?_)
            have te_31 := congrArg Int32.toInt e_31
            have ne_31 : x_30.toInt = (iv 62 j_16 13).toInt := by rw [e_31, hF1 62 j_16 13 (by decide)]
            refine lv_iload hx hb dX10_trace_82 (lv_at hl 1 rfl) ?_
            refine lv_iload hx hb dX10_trace_84 (lv_at hl 0 rfl) ?_
            refine q_max C hl.1 ml_X10_82 (Nat.le_of_ble_eq_true rfl) (Nat.le_of_ble_eq_true rfl) (Nat.le_refl _) (Nat.le_refl _) dX10_trace_86 (fun x_32 q_33 tq_33 => ?_)
            refine q_min C hl.1 ml_X10_88 (Nat.le_of_ble_eq_true rfl) (Nat.le_of_ble_eq_true rfl) (Nat.le_refl _) (Nat.le_refl _) dX10_trace_89 (fun x_34 q_35 tq_35 => ?_)
            refine lv_istore (lv' := [(11, .int x_34), (10, .int x_29), (9, .int x_27), (8, rfv al 62 r_24), (7, rfv al 62 r_21), (0, .ref (al.2 57 0)), (2, .int turn), (3, .int rest_), (4, .ref (al.2 62 j_16)), (5, .int l5_10), (6, .int l6_11)]) hx hb dX10_trace_92 hl (by decide) rfl (fun ls hl => ?_)
            refine lv_iload hx hb dX10_trace_94 (lv_at hl 9 rfl) ?_
            refine lv_iload hx hb dX10_trace_96 (lv_at hl 0 rfl) ?_
            refine q_min C hl.1 ml_X10_88 (Nat.le_of_ble_eq_true rfl) (Nat.le_of_ble_eq_true rfl) (Nat.le_refl _) (Nat.le_refl _) dX10_trace_98 (fun x_36 q_37 tq_37 => ?_)
            have hled := tr_led hG hBC.1 hb4 hlg2 e_31 q_33 q_35 q_37 hw0 hw1 hMA
            refine lv_istore (lv' := [(12, .int x_36), (11, .int x_34), (10, .int x_29), (9, .int x_27), (8, rfv al 62 r_24), (7, rfv al 62 r_21), (0, .ref (al.2 57 0)), (2, .int turn), (3, .int rest_), (4, .ref (al.2 62 j_16)), (5, .int l5_10), (6, .int l6_11)]) hx hb dX10_trace_101 hl (by decide) rfl (fun ls hl => ?_)
            refine lv_aload_n hx hb dX10_trace_103 rfl (lv_at hl 6 rfl) ?_
            refine g_57_2 C hU hG (h1_57 hG) fl_X10_17 dX10_trace_104 ?_
            refine lv_aload hx hb dX10_trace_107 (lv_at hl 9 rfl) ?_
            refine g_62_14 C hU hG hb_18 fl_X10_91 dX10_trace_109 (fun x_38 e_39 le_39 ue_39 => ?_)
            have te_39 := congrArg Int32.toInt e_39
            have ne_39 : x_38.toInt = (iv 62 j_16 14).toInt := by rw [e_39, hF1 62 j_16 14 (by decide)]
            refine lv_dup2_11 hx hb dX10_trace_112 rfl rfl ?_
            refine a_59 C hU hG (h1_59 hG) (x := x_38) (by omega) (by omega) dX10_trace_113 (fun x_40 e_41 => ?_)
            have te_41 := congrArg Int32.toInt e_41
            refine lv_iload hx hb dX10_trace_114 (lv_at hl 10 rfl) ?_
            refine lv_iload hx hb dX10_trace_116 (lv_at hl 0 rfl) ?_
            refine lv_isub hx hb dX10_trace_118 ?_
            refine lv_topi (fun x_42 e_43 => ?_)
            refine lv_iadd hx hb dX10_trace_119 ?_
            refine lv_topi (fun x_44 e_45 => ?_)
            have hFb := hF1
            refine s_59 C hU hS (h1_59 hG) (x := x_38) (by omega) (by omega) dX10_trace_120 (fun iv_46 H locs ei_47 hU hS => ?_)
            have hG : GI al iv_46 rv_13 := by rw [ei_47]; exact hG.puti (show _ ∧ _ from ⟨(fb_rng _).1, Int.le_of_lt_add_one (fb_rng _).2⟩) (nsA (by decide) _)
            have hF1 : FR ([59], []) iv iv_46 := by rw [ei_47]; exact hF1.put (Or.inl (by decide))
            refine lv_iload hx hb dX10_trace_121 (lv_at hl 0 rfl) ?_
            refine lv_istore (lv' := [(5, .int x_36), (12, .int x_36), (11, .int x_34), (10, .int x_29), (9, .int x_27), (8, rfv al 62 r_24), (7, rfv al 62 r_21), (0, .ref (al.2 57 0)), (2, .int turn), (3, .int rest_), (4, .ref (al.2 62 j_16)), (6, .int l6_11)]) hx hb dX10_trace_123 hl (by decide) rfl (fun ls hl => ?_)
            refine lv_iload hx hb dX10_trace_125 (lv_at hl 3 rfl) ?_
            refine lv_iload hx hb dX10_trace_127 (lv_at hl 4 rfl) ?_
            have J_139 : ∀ (r_48 : Option Nat) (ls : Array Slot), lv_has ls 13 [(0, .ref (al.2 57 0)), (2, .int turn), (3, .int rest_), (5, .int x_36), (6, .int l6_11)] → (∀ j, r_48 = some j → j < al.1 62) → r_48 = oI (ahF iv j_16 (bcF iv j_16)) → W p l e (rm 2) s m args below meth c H locs 0 0 Q (F0 m 139 ls [rfv al 62 r_48]) := by
              intro r_48 ls hl hb_49 i139_0
              refine b_astore (lv' := [(4, rfv al 62 r_48), (0, .ref (al.2 57 0)), (2, .int turn), (3, .int rest_), (5, .int x_36), (6, .int l6_11)]) hx hb dX10_trace_139 hl (by decide) rfl (fun ls hl => ?_)
              obtain ⟨x_50, e_51⟩ : ∃ y : Int32, y = l6_11 + 1 := ⟨_, rfl⟩
              have te_51 : x_50.toInt = (l6_11 : Int32).toInt + (1 : Int32).toInt := by rw [e_51]; exact fb_addI (by omega) (by omega)
              refine lv_iinc (v := x_50) (lv' := [(6, .int x_50), (4, rfv al 62 r_48), (0, .ref (al.2 57 0)), (2, .int turn), (3, .int rest_), (5, .int x_36)]) hx hb dX10_trace_141 hl (k := 5) rfl (by rw [e_51]; rfl) (by decide) rfl (fun ls hl => ?_)
              refine lv_goto (tgt := 20) hx hb dX10_trace_144 (by decide) ?_
              exact ih_20 r_48 x_36 x_50 _ _ _ _ _ (lv_sub hl [2, 3, 4, 1, 5, 0] rfl) hb_49 hG hF1 hF2 hU hS (by omega) (by first | exact tr_step hG0 pre0 hb4 i20_1 (by omega) hled i139_0 e_39 e_41 e_43 e_45 ei_47 hMA hFb (by omega) (by omega) | exact tr_0 hG0 pre0 hli pre1 fa_4 hp_1 e_7) (by omega)
            refine b_icmp_le (tgt := 137) hx hb dX10_trace_129 (by decide) (fun c_52 => ?_) (fun c_52 => ?_)
            ·
              refine b_aload (al := al) (t' := 62) (r := r_21) hx hb dX10_trace_137 (lv_at hl 6 rfl) ?_
              exact J_139 r_21 _ (lv_sub hl [7, 8, 9, 0, 11] rfl) hb_22 (by first | exact tr_c hw0 hw1 h52 (by omega) | exact tr_p hw0 hw1 h42 (by omega))
            ·
              refine b_aload (al := al) (t' := 62) (r := r_24) hx hb dX10_trace_132 (lv_at hl 5 rfl) ?_
              refine lv_goto (tgt := 139) hx hb dX10_trace_134 (by decide) ?_
              exact J_139 r_24 _ (lv_sub hl [7, 8, 9, 0, 11] rfl) hb_25 (by first | exact tr_c hw0 hw1 h52 (by omega) | exact tr_p hw0 hw1 h42 (by omega))
  exact J_20 _ (some li) x_6 0 _ _ _ _ _ (lv_sub hl [3, 5, 6, 2, 1, 0] rfl) (fun _ h => by cases h; exact hli) hG hF1 hF2 hU hS (by omega) (by first | exact tr_step hG0 pre0 hb4 i20_1 (by omega) hled i139_0 True.intro True.intro True.intro True.intro True.intro hMA hFb (by omega) (by omega) | exact tr_0 hG0 pre0 hli pre1 fa_4 hp_1 e_7) (Nat.lt_succ_self _)
set_option maxHeartbeats 4000000 in
set_option maxRecDepth 100000 in
theorem c_X11_minutes_x {l : Launch} {D : va_G} {cA : FieldType → ClassId} {sz : Nat} {al : Al} {iv : Iv} {rv : Rv} (hG : GI al iv rv) (lg : Int32) (cs : Int32) (pre0 : BC iv rv) : Met l yX11_minutes (wd yX11_minutes cX11_minutes 4 (some .int)) (rm 3) (PcW D cA sz al iv rv [.ref (al.2 49 0), .int lg, .int cs]) (QI D cA sz al (fI al ([51, 59], []) iv rv (fun r iv' rv' => r = mnS iv lg cs))) 0 0 (Aq sz) := by
  refine mk_i (by decide) (Nat.le_of_ble_eq_true rfl) rfl ?_
  intro p e s m args below meth c ls Q H locs C hU hS hl hret
  have hx := C.1.1
  have hb := C.1.2.1
  have hl : lv_has ls 4 [(0, .ref (al.2 49 0)), (1, .int lg), (2, .int cs)] := hl
  have hG0 := hG
  have hn6 := congrArg Int32.toInt pre0.1.1.1
  have hF1 : FR ([51, 59], []) iv iv := FR.rf
  have hF2 : FR ([51, 59], []) rv rv := FR.rf
  have km5 : ((-5) : Int32).toInt = -5 := by decide
  have km1 : ((-1) : Int32).toInt = -1 := by decide
  have k0 : (0 : Int32).toInt = 0 := by decide
  have k1 : (1 : Int32).toInt = 1 := by decide
  have k6 : (6 : Int32).toInt = 6 := by decide
  refine lv_aload_n hx hb dX11_minutes_0 rfl (lv_at hl 0 rfl) ?_
  refine g_49_1 C hU hG (h1_49 hG) fl_X11_19 dX11_minutes_1 ?_
  refine lv_iload_n hx hb dX11_minutes_4 rfl (lv_at hl 1 rfl) ?_
  refine q_pr (q_runV (t := 57) (i := 0) (As := [.int lg]) (rest := []) C hU (c_X10_find hG lg ) vm_X10_find ml_X11_123 k_57.1 (hc := rfl) rfl (h1_57 hG) hl.1 rfl rfl (Nat.le_of_ble_eq_true rfl) dX11_minutes_5 rfl rfl ⟨Nat.le_of_ble_eq_true rfl, Nat.le_of_ble_eq_true rfl⟩ ⟨Nat.le_refl _, Nat.le_refl _⟩) hS (fun r_2 H locs hp_1 hU hS => ?_)
  have hb_3 := hp_1.1
  refine b_astore_n (lv' := [(3, rfv al 62 r_2), (0, .ref (al.2 49 0)), (1, .int lg), (2, .int cs)]) hx hb dX11_minutes_8 rfl hl (by decide) rfl (fun ls hl => ?_)
  refine b_aload_n (al := al) (t' := 62) (r := r_2) hx hb dX11_minutes_9 rfl (lv_at hl 0 rfl) ?_
  refine b_ifnull (tgt := 22) hx hb dX11_minutes_10 (by decide) (fun ej_6 => ?_) (fun j_5 ej_6 => ?_)
  ·
    subst ej_6
    have hl : lv_has ls 4 [(3, rfv al 62 none), (0, .ref (al.2 49 0)), (1, .int lg), (2, .int cs)] := hl
    have hq4 := hp_1.2.2 rfl
    refine lv_aload_n hx hb dX11_minutes_22 rfl (lv_at hl 1 rfl) ?_
    refine lv_iconst (v := (-1)) hx hb dX11_minutes_23 (by decide) ?_
    refine q_fi (q_runV (t := 49) (i := 0) (As := [.int (-1)]) (rest := []) C hU (c_X11_refuse hG (-1) (by omega)) vm_X11_refuse ml_X11_77 k_49.1 (hc := rfl) rfl (h1_49 hG) hl.1 rfl rfl (Nat.le_of_ble_eq_true rfl) dX11_minutes_24 rfl rfl ⟨Nat.le_of_ble_eq_true rfl, Nat.le_of_ble_eq_true rfl⟩ ⟨Nat.le_refl _, Nat.le_refl _⟩) hS (fun x_12 iv_8 rv_9 H locs hG fa_10 fb_11 hp_7 hU hS => ?_)
    have hF1 := hF1.tr (m := ([51, 59], [])) fa_10 (by decide)
    have hF2 := hF2.tr (m := ([51, 59], [])) fb_11 (by decide)
    exact hret (⟨hG, hF1, hF2, by unfold mnS; rw [if_pos (by omega)]; exact hp_7⟩) hU hS dX11_minutes_27
  ·
    subst ej_6
    have hl : lv_has ls 4 [(3, .ref (al.2 62 j_5)), (0, .ref (al.2 49 0)), (1, .int lg), (2, .int cs)] := hl
    have hb_13 : j_5 < al.1 62 := hb_3 j_5 rfl
    have hq4 := hp_1.2.1 _ rfl
    have hn4 := hq4.1
    rw [clamp_n] at hn4
    refine lv_bipush (v := 6) hx hb dX11_minutes_13 (by decide) ?_
    refine lv_iload_n hx hb dX11_minutes_15 rfl (lv_at hl 3 rfl) ?_
    refine q_pi (q_runS (As := [.int 6, .int cs]) (rest := []) C hU (c_X11_isOneOf  6 cs ) sm_X11_isOneOf ml_X11_85 hl.1 rfl rfl (Nat.le_of_ble_eq_true rfl) dX11_minutes_16 rfl rfl ⟨Nat.le_of_ble_eq_true rfl, Nat.le_of_ble_eq_true rfl⟩ ⟨Nat.le_refl _, Nat.le_refl _⟩) hS (fun x_15 H locs hp_14 hU hS => ?_)
    refine b_if_ne (tgt := 28) hx hb dX11_minutes_19 (by decide) (fun c_16 => ?_) (fun c_16 => ?_)
    ·
      refine lv_aload_n hx hb dX11_minutes_28 rfl (lv_at hl 0 rfl) ?_
      refine g_62_7 C hU hG hb_13 fl_X11_126 dX11_minutes_29 (fun x_17 e_18 le_18 ue_18 => ?_)
      have te_18 := congrArg Int32.toInt e_18
      have hl7 := lg_done hG0 pre0.1 hb_13 hq4.1
      refine b_if_ne (tgt := 42) hx hb dX11_minutes_32 (by decide) (fun c_19 => ?_) (fun c_19 => ?_)
      ·
        refine lv_aload_n hx hb dX11_minutes_42 rfl (lv_at hl 1 rfl) ?_
        refine g_49_1 C hU hG (h1_49 hG) fl_X11_19 dX11_minutes_43 ?_
        refine lv_aload_n hx hb dX11_minutes_46 rfl (lv_at hl 0 rfl) ?_
        refine lv_aload_n hx hb dX11_minutes_47 rfl (lv_at hl 1 rfl) ?_
        refine g_49_7 C hU hG (h1_49 hG) fl_X11_67 dX11_minutes_48 ?_
        refine lv_iconst (v := 0) hx hb dX11_minutes_51 (by decide) ?_
        refine a_50 C hU hG (h1_50 hG) (x := 0) (by omega) (by omega) dX11_minutes_52 (fun x_20 e_21 le_21 ue_21 => ?_)
        have te_21 := congrArg Int32.toInt e_21
        refine lv_aload_n hx hb dX11_minutes_53 rfl (lv_at hl 1 rfl) ?_
        refine g_49_7 C hU hG (h1_49 hG) fl_X11_67 dX11_minutes_54 ?_
        refine lv_iconst (v := 1) hx hb dX11_minutes_57 (by decide) ?_
        refine a_50 C hU hG (h1_50 hG) (x := 1) (by omega) (by omega) dX11_minutes_58 (fun x_22 e_23 le_23 ue_23 => ?_)
        have te_23 := congrArg Int32.toInt e_23
        refine q_fv (q_runV (t := 57) (i := 0) (As := [.ref (al.2 62 j_5), .int x_20, .int x_22]) (rest := []) C hU (c_X10_trace_x hG (j_5) hb_13 x_20 x_22 (pre0) (by omega) (by rw [e_21]; exact (pre0.1.1.2.2 0 (by decide)).symm) (by rw [e_23]; exact (pre0.1.1.2.2 1 (by decide)).symm)) vm_X10_trace ml_X11_170 k_57.1 (hc := rfl) rfl (h1_57 hG) hl.1 rfl rfl (Nat.le_of_ble_eq_true rfl) dX11_minutes_59 rfl rfl ⟨Nat.le_of_ble_eq_true rfl, Nat.le_of_ble_eq_true rfl⟩ ⟨Nat.le_refl _, Nat.le_refl _⟩) hS (fun iv_25 rv_26 H locs hG fa_27 fb_28 hp_24 hU hS => ?_)
        have hF1 := hF1.tr (m := ([51, 59], [])) fa_27 (by decide)
        have hF2 := hF2.tr (m := ([51, 59], [])) fb_28 (by decide)
        refine lv_aload_n hx hb dX11_minutes_62 rfl (lv_at hl 1 rfl) ?_
        refine g_49_1 C hU hG (h1_49 hG) fl_X11_19 dX11_minutes_63 ?_
        refine g_57_2 C hU hG (h1_57 hG) fl_X11_174 dX11_minutes_66 ?_
        refine lv_iload_n hx hb dX11_minutes_69 rfl (lv_at hl 3 rfl) ?_
        refine a_59 C hU hG (h1_59 hG) (x := cs) (by omega) (by omega) dX11_minutes_70 (fun x_29 e_30 => ?_)
        have te_30 := congrArg Int32.toInt e_30
        exact hret (⟨hG, hF1, hF2, by unfold mnS; rw [if_neg (by omega), if_neg (by omega), e_30, ← hq4.1]; exact hp_24 _ (by rw [clamp_n]; omega)⟩) hU hS dX11_minutes_71
      ·
        refine lv_aload_n hx hb dX11_minutes_35 rfl (lv_at hl 1 rfl) ?_
        refine lv_bipush (v := (-5)) hx hb dX11_minutes_36 (by decide) ?_
        refine q_fi (q_runV (t := 49) (i := 0) (As := [.int (-5)]) (rest := []) C hU (c_X11_refuse hG (-5) (by omega)) vm_X11_refuse ml_X11_77 k_49.1 (hc := rfl) rfl (h1_49 hG) hl.1 rfl rfl (Nat.le_of_ble_eq_true rfl) dX11_minutes_38 rfl rfl ⟨Nat.le_of_ble_eq_true rfl, Nat.le_of_ble_eq_true rfl⟩ ⟨Nat.le_refl _, Nat.le_refl _⟩) hS (fun x_36 iv_32 rv_33 H locs hG fa_34 fb_35 hp_31 hU hS => ?_)
        have hF1 := hF1.tr (m := ([51, 59], [])) fa_34 (by decide)
        have hF2 := hF2.tr (m := ([51, 59], [])) fb_35 (by decide)
        exact hret (⟨hG, hF1, hF2, by unfold mnS; rw [if_neg (by omega), if_pos (by omega)]; exact hp_31⟩) hU hS dX11_minutes_41
    ·
      refine lv_aload_n hx hb dX11_minutes_22 rfl (lv_at hl 1 rfl) ?_
      refine lv_iconst (v := (-1)) hx hb dX11_minutes_23 (by decide) ?_
      refine q_fi (q_runV (t := 49) (i := 0) (As := [.int (-1)]) (rest := []) C hU (c_X11_refuse hG (-1) (by omega)) vm_X11_refuse ml_X11_77 k_49.1 (hc := rfl) rfl (h1_49 hG) hl.1 rfl rfl (Nat.le_of_ble_eq_true rfl) dX11_minutes_24 rfl rfl ⟨Nat.le_of_ble_eq_true rfl, Nat.le_of_ble_eq_true rfl⟩ ⟨Nat.le_refl _, Nat.le_refl _⟩) hS (fun x_42 iv_38 rv_39 H locs hG fa_40 fb_41 hp_37 hU hS => ?_)
      have hF1 := hF1.tr (m := ([51, 59], [])) fa_40 (by decide)
      have hF2 := hF2.tr (m := ([51, 59], [])) fb_41 (by decide)
      exact hret (⟨hG, hF1, hF2, by unfold mnS; rw [if_pos (by omega)]; exact hp_37⟩) hU hS dX11_minutes_27
set_option maxHeartbeats 4000000 in
set_option maxRecDepth 100000 in
theorem c_X12_missedOf_x {l : Launch} {D : va_G} {cA : FieldType → ClassId} {sz : Nat} {al : Al} {iv : Iv} {rv : Rv} (hG : GI al iv rv) (tt : Int32) (pre0 : 0 ≤ tt.toInt ∧ tt.toInt < (iv 0 0 20).toInt) : Met l yX12_missedOf (wd yX12_missedOf cX12_missedOf 4 (some .int)) (rm 2) (PcW D cA sz al iv rv [.ref (al.2 0 0), .int tt]) (QI D cA sz al (pI iv rv (fun r => (-1 ≤ r.toInt ∧ r.toInt ≤ 3) ∧ (r = msF iv tt.toNatClampNeg ∧ r.toInt < (iv 19 0 tt.toNatClampNeg).toInt)))) 0 0 (Aq sz) := by
  refine mk_i (by decide) (Nat.le_of_ble_eq_true rfl) rfl ?_
  intro p e s m args below meth c ls Q H locs C hU hS hl hret
  have hx := C.1.1
  have hb := C.1.2.1
  have hl : lv_has ls 4 [(0, .ref (al.2 0 0)), (1, .int tt)] := hl
  have hG0 := hG
  have h6 := le6 hG
  have h20 := le20 hG
  have h41 := le41 hG
  have h20 := le20 hG
  have km1 : ((-1) : Int32).toInt = -1 := by decide
  have k0 : (0 : Int32).toInt = 0 := by decide
  have k1 : (1 : Int32).toInt = 1 := by decide
  have k2 : (2 : Int32).toInt = 2 := by decide
  have k4 : (4 : Int32).toInt = 4 := by decide
  have hq := rm1 hG pre0.1 pre0.2
  refine lv_iconst (v := 0) hx hb dX12_missedOf_0 (by decide) ?_
  refine lv_istore_n (lv' := [(2, .int 0), (0, .ref (al.2 0 0)), (1, .int tt)]) hx hb dX12_missedOf_1 rfl hl (by decide) rfl (fun ls hl => ?_)
  have J_2 : ∀ (n_2 : Nat) (l2_1 : Int32) (H : Heap) (locs : List Loc) (ls : Array Slot), lv_has ls 4 [(0, .ref (al.2 0 0)), (1, .int tt), (2, .int l2_1)] → UW D cA sz al iv rv H → va_S (Aq sz) s.heap H locs → (0 ≤ l2_1.toInt ∧ l2_1.toInt ≤ 4) → (msN iv tt.toNatClampNeg l2_1.toNatClampNeg).toInt < 0 → l2_1.toInt ≤ (iv 19 0 tt.toNatClampNeg).toInt → (4 - l2_1.toInt).toNat < n_2 → W p l e (rm 2) s m args below meth c H locs 0 0 Q (F0 m 2 ls []) := by
    intro n_2
    induction n_2 with
    | zero =>
      intro l2_1 H locs ls hl hU hS i2_0 i2_1 i2_2 hm_2
      exact absurd hm_2 (Nat.not_lt_zero _)
    | succ n_2 ih_2 =>
      intro l2_1 H locs ls hl hU hS i2_0 i2_1 i2_2 hm_2
      refine lv_iload_n hx hb dX12_missedOf_2 rfl (lv_at hl 2 rfl) ?_
      refine lv_aload_n hx hb dX12_missedOf_3 rfl (lv_at hl 0 rfl) ?_
      refine g_0_22 C hU hG (h1_0 hG) fl_X12_65 dX12_missedOf_4 ?_
      refine lv_iload_n hx hb dX12_missedOf_7 rfl (lv_at hl 1 rfl) ?_
      refine a_19 C hU hG (h1_19 hG) (x := tt) (by omega) (by omega) dX12_missedOf_8 (fun x_2 e_3 le_3 ue_3 => ?_)
      have te_3 := congrArg Int32.toInt e_3
      refine b_icmp_ge (tgt := 75) hx hb dX12_missedOf_9 (by decide) (fun c_4 => ?_) (fun c_4 => ?_)
      ·
        refine lv_iconst (v := (-1)) hx hb dX12_missedOf_75 (by decide) ?_
        exact hret (⟨rfl, rfl, ⟨⟨by omega, by omega⟩, ⟨ms_end i2_1 (by omega), by omega⟩⟩⟩) hU hS dX12_missedOf_76
      ·
        refine lv_aload_n hx hb dX12_missedOf_12 rfl (lv_at hl 0 rfl) ?_
        refine g_0_21 C hU hG (h1_0 hG) fl_X12_62 dX12_missedOf_13 ?_
        refine lv_iconst (v := 4) hx hb dX12_missedOf_16 (by decide) ?_
        refine lv_iload_n hx hb dX12_missedOf_17 rfl (lv_at hl 1 rfl) ?_
        refine lv_imul hx hb dX12_missedOf_18 ?_
        refine lv_topi (fun x_5 e_6 => ?_)
        have te_6 : x_5.toInt = 4 * (tt : Int32).toInt := by rw [e_6, fb_mulI (by rw [show (4 : Int32).toInt = 4 from by decide]; omega) (by rw [show (4 : Int32).toInt = 4 from by decide]; omega), show (4 : Int32).toInt = 4 from by decide]
        refine lv_iload_n hx hb dX12_missedOf_19 rfl (lv_at hl 2 rfl) ?_
        refine lv_iadd hx hb dX12_missedOf_20 ?_
        refine lv_topi (fun x_7 e_8 => ?_)
        have te_8 : x_7.toInt = (x_5 : Int32).toInt + (l2_1 : Int32).toInt := by rw [e_8]; exact fb_addI (by omega) (by omega)
        refine a_18 C hU hG (h1_18 hG) (x := x_7) (by omega) (by omega) dX12_missedOf_21 (fun x_9 e_10 le_10 ue_10 => ?_)
        have te_10 := congrArg Int32.toInt e_10
        have hw := rw_ix (t := tt) (i := l2_1) e_10 (by omega) (by omega) (by omega)
        refine lv_istore_n (lv' := [(3, .int x_9), (0, .ref (al.2 0 0)), (1, .int tt), (2, .int l2_1)]) hx hb dX12_missedOf_22 rfl hl (by decide) rfl (fun ls hl => ?_)
        refine lv_aload_n hx hb dX12_missedOf_23 rfl (lv_at hl 1 rfl) ?_
        refine g_0_13 C hU hG (h1_0 hG) fl_X12_40 dX12_missedOf_24 ?_
        refine lv_iload_n hx hb dX12_missedOf_27 rfl (lv_at hl 0 rfl) ?_
        refine a_11 C hU hG (h1_11 hG) (x := x_9) (by omega) (by omega) dX12_missedOf_28 (fun x_11 e_12 le_12 ue_12 => ?_)
        have te_12 := congrArg Int32.toInt e_12
        have h28 := e_12
        rw [hw] at h28
        have t28 := congrArg Int32.toInt h28
        refine b_if_eq (tgt := 67) hx hb dX12_missedOf_29 (by decide) (fun c_13 => ?_) (fun c_13 => ?_)
        ·
          refine lv_iload_n hx hb dX12_missedOf_67 rfl (lv_at hl 3 rfl) ?_
          exact hret (⟨rfl, rfl, ⟨⟨by omega, by omega⟩, ⟨by first | exact ms_ret i2_1 (Or.inl (by omega)) (by omega) (by omega) (by omega) | exact ms_ret i2_1 (Or.inr ⟨by rw [clamp_n]; omega, bd_1 True.intro hw True.intro hw2 True.intro t63 (by omega)⟩) (by omega) (by omega) (by omega), by omega⟩⟩⟩) hU hS dX12_missedOf_68
        ·
          have hd : ¬ (iv 11 0 (rwL iv tt.toNatClampNeg l2_1.toNatClampNeg)).toInt = 0 := by omega
          refine lv_iload_n hx hb dX12_missedOf_32 rfl (lv_at hl 3 rfl) ?_
          have J_69 : ∀ (H : Heap) (locs : List Loc) (ls : Array Slot), lv_has ls 4 [(0, .ref (al.2 0 0)), (1, .int tt), (2, .int l2_1)] → UW D cA sz al iv rv H → va_S (Aq sz) s.heap H locs → ¬ bad iv tt.toNatClampNeg l2_1.toNatClampNeg → W p l e (rm 2) s m args below meth c H locs 0 0 Q (F0 m 69 ls []) := by
            intro H locs ls hl hU hS i69_0
            obtain ⟨x_14, e_15⟩ : ∃ y : Int32, y = l2_1 + 1 := ⟨_, rfl⟩
            have te_15 : x_14.toInt = (l2_1 : Int32).toInt + (1 : Int32).toInt := by rw [e_15]; exact fb_addI (by omega) (by omega)
            refine lv_iinc (v := x_14) (lv' := [(2, .int x_14), (0, .ref (al.2 0 0)), (1, .int tt)]) hx hb dX12_missedOf_69 hl (k := 2) rfl (by rw [e_15]; rfl) (by decide) rfl (fun ls hl => ?_)
            refine lv_goto (tgt := 2) hx hb dX12_missedOf_72 (by decide) ?_
            exact ih_2 x_14 _ _ _ (lv_sub hl [1, 2, 0] rfl) hU hS (by omega) (by first | exact ms_up (by omega) (by omega) i2_1 i69_0 | exact ms_0) (by omega) (by omega)
          refine b_if_le (tgt := 69) hx hb dX12_missedOf_33 (by decide) (fun c_16 => ?_) (fun c_16 => ?_)
          ·
            exact J_69 _ _ _ (lv_sub hl [1, 2, 3] rfl) hU hS (by first | exact nb_0 hd (by omega) | exact nb_1 hd True.intro hw True.intro hw2 True.intro t63 (by omega))
          ·
            refine lv_aload_n hx hb dX12_missedOf_36 rfl (lv_at hl 1 rfl) ?_
            refine lv_iload_n hx hb dX12_missedOf_37 rfl (lv_at hl 0 rfl) ?_
            refine q_pi (q_runV (t := 0) (i := 0) (As := [.int x_9]) (rest := []) C hU (c_X12_rightLeave hG x_9 (by omega)) vm_X12_rightLeave ml_X12_193 k_0.1 (hc := rfl) rfl (h1_0 hG) hl.1 rfl rfl (Nat.le_of_ble_eq_true rfl) dX12_missedOf_38 rfl rfl ⟨Nat.le_of_ble_eq_true rfl, Nat.le_of_ble_eq_true rfl⟩ ⟨Nat.le_refl _, Nat.le_refl _⟩) hS (fun x_18 H locs hp_17 hU hS => ?_)
            have q_19 := hp_17.2
            have tq_19 := congrArg Int32.toInt q_19
            refine lv_aload_n hx hb dX12_missedOf_41 rfl (lv_at hl 1 rfl) ?_
            refine lv_aload_n hx hb dX12_missedOf_42 rfl (lv_at hl 1 rfl) ?_
            refine g_0_21 C hU hG (h1_0 hG) fl_X12_62 dX12_missedOf_43 ?_
            refine lv_iconst (v := 4) hx hb dX12_missedOf_46 (by decide) ?_
            refine lv_iload_n hx hb dX12_missedOf_47 rfl (lv_at hl 2 rfl) ?_
            refine lv_imul hx hb dX12_missedOf_48 ?_
            refine lv_topi (fun x_20 e_21 => ?_)
            have te_21 : x_20.toInt = 4 * (tt : Int32).toInt := by rw [e_21, fb_mulI (by rw [show (4 : Int32).toInt = 4 from by decide]; omega) (by rw [show (4 : Int32).toInt = 4 from by decide]; omega), show (4 : Int32).toInt = 4 from by decide]
            refine lv_iload_n hx hb dX12_missedOf_49 rfl (lv_at hl 3 rfl) ?_
            refine lv_iadd hx hb dX12_missedOf_50 ?_
            refine lv_topi (fun x_22 e_23 => ?_)
            have te_23 : x_22.toInt = (x_20 : Int32).toInt + (l2_1 : Int32).toInt := by rw [e_23]; exact fb_addI (by omega) (by omega)
            refine lv_iconst (v := 1) hx hb dX12_missedOf_51 (by decide) ?_
            refine lv_isub hx hb dX12_missedOf_52 ?_
            refine lv_topi (fun x_24 e_25 => ?_)
            have te_25 : x_24.toInt = (x_22 : Int32).toInt - (1 : Int32).toInt := by rw [e_25]; exact fb_subI (by omega) (by omega)
            refine a_18 C hU hG (h1_18 hG) (x := x_24) (by omega) (by omega) dX12_missedOf_53 (fun x_26 e_27 le_27 ue_27 => ?_)
            have te_27 := congrArg Int32.toInt e_27
            have hw2 := rw_ix1 (t := tt) (i := l2_1) e_27 (by omega) (by omega) (by omega)
            refine q_pi (q_runV (t := 0) (i := 0) (As := [.int x_26]) (rest := [.int x_18]) C hU (c_X12_rightArrive hG x_26 (by omega)) vm_X12_rightArrive ml_X12_190 k_0.1 (hc := rfl) rfl (h1_0 hG) hl.1 rfl rfl (Nat.le_of_ble_eq_true rfl) dX12_missedOf_54 rfl rfl ⟨Nat.le_of_ble_eq_true rfl, Nat.le_of_ble_eq_true rfl⟩ ⟨Nat.le_refl _, Nat.le_refl _⟩) hS (fun x_29 H locs hp_28 hU hS => ?_)
            have q_30 := hp_28.2
            have tq_30 := congrArg Int32.toInt q_30
            refine lv_isub hx hb dX12_missedOf_57 ?_
            refine lv_topi (fun x_31 e_32 => ?_)
            have w_33 := fb_rng x_18
            have w_34 := fb_rng x_29
            have te_32 : x_31.toInt = (x_18 : Int32).toInt - (x_29 : Int32).toInt := by rw [e_32]; exact fb_subI (by omega) (by omega)
            refine lv_aload_n hx hb dX12_missedOf_58 rfl (lv_at hl 1 rfl) ?_
            refine g_0_17 C hU hG (h1_0 hG) fl_X12_53 dX12_missedOf_59 ?_
            refine lv_iconst (v := 2) hx hb dX12_missedOf_62 (by decide) ?_
            refine a_15 C hU hG (h1_15 hG) (x := 2) (by omega) (by omega) dX12_missedOf_63 (fun x_35 e_36 le_36 ue_36 => ?_)
            have te_36 := congrArg Int32.toInt e_36
            have t63 : x_35.toInt = (iv 15 0 2).toInt := by rw [e_36]; rfl
            refine b_icmp_ge (tgt := 69) hx hb dX12_missedOf_64 (by decide) (fun c_37 => ?_) (fun c_37 => ?_)
            ·
              exact J_69 _ _ _ (lv_sub hl [1, 2, 3] rfl) hU hS (by first | exact nb_0 hd (by omega) | exact nb_1 hd q_19 hw q_30 hw2 e_32 t63 (by omega))
            ·
              refine lv_iload_n hx hb dX12_missedOf_67 rfl (lv_at hl 3 rfl) ?_
              exact hret (⟨rfl, rfl, ⟨⟨by omega, by omega⟩, ⟨by first | exact ms_ret i2_1 (Or.inl (by omega)) (by omega) (by omega) (by omega) | exact ms_ret i2_1 (Or.inr ⟨by rw [clamp_n]; omega, bd_1 q_19 hw q_30 hw2 e_32 t63 (by omega)⟩) (by omega) (by omega) (by omega), by omega⟩⟩⟩) hU hS dX12_missedOf_68
  exact J_2 _ 0 _ _ _ (lv_sub hl [1, 2, 0] rfl) hU hS (by omega) (by first | exact ms_up (by omega) (by omega) i2_1 i69_0 | exact ms_0) (by omega) (Nat.lt_succ_self _)
set_option maxHeartbeats 4000000 in
set_option maxRecDepth 100000 in
theorem c_X12_lastLeg_x {l : Launch} {D : va_G} {cA : FieldType → ClassId} {sz : Nat} {al : Al} {iv : Iv} {rv : Rv} (hG : GI al iv rv) (tt : Int32) (pre0 : 0 ≤ tt.toInt ∧ tt.toInt < (iv 0 0 20).toInt) : Met l yX12_lastLeg (wd yX12_lastLeg cX12_lastLeg 2 (some .int)) (rm 0) (PcW D cA sz al iv rv [.ref (al.2 0 0), .int tt]) (QI D cA sz al (pI iv rv (fun r => (0 ≤ r.toInt ∧ r.toInt ≤ 39) ∧ (r.toNatClampNeg = thL iv tt.toNatClampNeg)))) 0 0 (Aq sz) := by
  refine mk_i (by decide) (Nat.le_of_ble_eq_true rfl) rfl ?_
  intro p e s m args below meth c ls Q H locs C hU hS hl hret
  have hx := C.1.1
  have hb := C.1.2.1
  have hl : lv_has ls 2 [(0, .ref (al.2 0 0)), (1, .int tt)] := hl
  have hG0 := hG
  have h6 := le6 hG
  have h20 := le20 hG
  have h41 := le41 hG
  have h20 := le20 hG
  have hq := rm1 hG pre0.1 pre0.2
  have k1 : (1 : Int32).toInt = 1 := by decide
  have k4 : (4 : Int32).toInt = 4 := by decide
  refine lv_aload_n hx hb dX12_lastLeg_0 rfl (lv_at hl 0 rfl) ?_
  refine g_0_21 C hU hG (h1_0 hG) fl_X12_62 dX12_lastLeg_1 ?_
  refine lv_iconst (v := 4) hx hb dX12_lastLeg_4 (by decide) ?_
  refine lv_iload_n hx hb dX12_lastLeg_5 rfl (lv_at hl 1 rfl) ?_
  refine lv_imul hx hb dX12_lastLeg_6 ?_
  refine lv_topi (fun x_1 e_2 => ?_)
  have te_2 : x_1.toInt = 4 * (tt : Int32).toInt := by rw [e_2, fb_mulI (by rw [show (4 : Int32).toInt = 4 from by decide]; omega) (by rw [show (4 : Int32).toInt = 4 from by decide]; omega), show (4 : Int32).toInt = 4 from by decide]
  refine lv_aload_n hx hb dX12_lastLeg_7 rfl (lv_at hl 0 rfl) ?_
  refine g_0_22 C hU hG (h1_0 hG) fl_X12_65 dX12_lastLeg_8 ?_
  refine lv_iload_n hx hb dX12_lastLeg_11 rfl (lv_at hl 1 rfl) ?_
  refine a_19 C hU hG (h1_19 hG) (x := tt) (by omega) (by omega) dX12_lastLeg_12 (fun x_3 e_4 le_4 ue_4 => ?_)
  have te_4 := congrArg Int32.toInt e_4
  refine lv_iadd hx hb dX12_lastLeg_13 ?_
  refine lv_topi (fun x_5 e_6 => ?_)
  have te_6 : x_5.toInt = (x_1 : Int32).toInt + (x_3 : Int32).toInt := by rw [e_6]; exact fb_addI (by omega) (by omega)
  refine lv_iconst (v := 1) hx hb dX12_lastLeg_14 (by decide) ?_
  refine lv_isub hx hb dX12_lastLeg_15 ?_
  refine lv_topi (fun x_7 e_8 => ?_)
  have te_8 : x_7.toInt = (x_5 : Int32).toInt - (1 : Int32).toInt := by rw [e_8]; exact fb_subI (by omega) (by omega)
  refine a_18 C hU hG (h1_18 hG) (x := x_7) (by omega) (by omega) dX12_lastLeg_16 (fun x_9 e_10 le_10 ue_10 => ?_)
  have te_10 := congrArg Int32.toInt e_10
  exact hret (⟨rfl, rfl, ⟨⟨by omega, by omega⟩, th_ix (t := tt) e_10 e_4 (by omega) (by omega) (by omega)⟩⟩) hU hS dX12_lastLeg_17
set_option maxHeartbeats 4000000 in
set_option maxRecDepth 100000 in
theorem c_X12_blameOf_x {l : Launch} {D : va_G} {cA : FieldType → ClassId} {sz : Nat} {al : Al} {iv : Iv} {rv : Rv} (hG : GI al iv rv) (tt : Int32) (pre0 : 0 ≤ tt.toInt ∧ tt.toInt < (iv 0 0 20).toInt) (pre1 : BT iv rv) : Met l yX12_blameOf (wd yX12_blameOf cX12_blameOf 6 (some .int)) (rm 7) (PcW D cA sz al iv rv [.ref (al.2 0 0), .int tt]) (QI D cA sz al (fI al ([17], []) iv rv (fun r iv' rv' => (-9 ≤ r.toInt ∧ r.toInt ≤ 5) ∧ (r = blF iv tt.toNatClampNeg)))) 0 0 (Aq sz) := by
  refine mk_i (by decide) (Nat.le_of_ble_eq_true rfl) rfl ?_
  intro p e s m args below meth c ls Q H locs C hU hS hl hret
  have hx := C.1.1
  have hb := C.1.2.1
  have hl : lv_has ls 6 [(0, .ref (al.2 0 0)), (1, .int tt)] := hl
  have hG0 := hG
  have h6 := le6 hG
  have h20 := le20 hG
  have h41 := le41 hG
  have h20 := le20 hG
  have hF1 : FR ([17], []) iv iv := FR.rf
  have hF2 : FR ([17], []) rv rv := FR.rf
  have km9 : ((-9) : Int32).toInt = -9 := by decide
  have k0 : (0 : Int32).toInt = 0 := by decide
  have k1 : (1 : Int32).toInt = 1 := by decide
  have k4 : (4 : Int32).toInt = 4 := by decide
  have k6 : (6 : Int32).toInt = 6 := by decide
  refine lv_aload_n hx hb dX12_blameOf_0 rfl (lv_at hl 0 rfl) ?_
  refine lv_iload_n hx hb dX12_blameOf_1 rfl (lv_at hl 1 rfl) ?_
  refine q_pi (q_runV (t := 0) (i := 0) (As := [.int tt]) (rest := []) C hU (c_X12_missedOf_x hG tt (by omega)) vm_X12_missedOf ml_X12_229 k_0.1 (hc := rfl) rfl (h1_0 hG) hl.1 rfl rfl (Nat.le_of_ble_eq_true rfl) dX12_blameOf_2 rfl rfl ⟨Nat.le_of_ble_eq_true rfl, Nat.le_of_ble_eq_true rfl⟩ ⟨Nat.le_refl _, Nat.le_refl _⟩) hS (fun x_2 H locs hp_1 hU hS => ?_)
  refine lv_istore_n (lv' := [(2, .int x_2), (0, .ref (al.2 0 0)), (1, .int tt)]) hx hb dX12_blameOf_5 rfl hl (by decide) rfl (fun ls hl => ?_)
  have hms := hp_1.2.1
  have tms := congrArg Int32.toInt hms
  refine lv_iload_n hx hb dX12_blameOf_6 rfl (lv_at hl 0 rfl) ?_
  have J_61 : ∀ (v_3 : Int32) (H : Heap) (locs : List Loc) (ls : Array Slot), lv_has ls 6 [(0, .ref (al.2 0 0))] → UW D cA sz al iv rv H → va_S (Aq sz) s.heap H locs → (0 ≤ v_3.toInt ∧ v_3.toInt ≤ 39) → v_3.toNatClampNeg = lfF iv tt.toNatClampNeg → W p l e (rm 7) s m args below meth c H locs 0 0 Q (F0 m 61 ls [.int v_3]) := by
    intro v_3 H locs ls hl hU hS i61_0 i61_1
    refine lv_istore_n (lv' := [(3, .int v_3), (0, .ref (al.2 0 0))]) hx hb dX12_blameOf_61 rfl hl (by decide) rfl (fun ls hl => ?_)
    refine lv_aload_n hx hb dX12_blameOf_62 rfl (lv_at hl 1 rfl) ?_
    refine g_0_13 C hU hG (h1_0 hG) fl_X12_40 dX12_blameOf_63 ?_
    refine lv_iload_n hx hb dX12_blameOf_66 rfl (lv_at hl 0 rfl) ?_
    refine a_11 C hU hG (h1_11 hG) (x := v_3) (by omega) (by omega) dX12_blameOf_67 (fun x_4 e_5 le_5 ue_5 => ?_)
    have te_5 := congrArg Int32.toInt e_5
    have h67 := e_5
    rw [i61_1] at h67
    have t67 := congrArg Int32.toInt h67
    refine b_if_eq (tgt := 79) hx hb dX12_blameOf_68 (by decide) (fun c_6 => ?_) (fun c_6 => ?_)
    ·
      refine lv_bipush (v := (-9)) hx hb dX12_blameOf_79 (by decide) ?_
      exact hret (⟨hG, hF1, hF2, ⟨⟨by omega, by omega⟩, by unfold blF; rw [if_pos (by omega)]⟩⟩) hU hS dX12_blameOf_81
    ·
      refine lv_aload_n hx hb dX12_blameOf_71 rfl (lv_at hl 1 rfl) ?_
      refine lv_iload_n hx hb dX12_blameOf_72 rfl (lv_at hl 0 rfl) ?_
      refine q_pi (q_runV (t := 0) (i := 0) (As := [.int v_3]) (rest := []) C hU (c_X12_lateOf hG v_3 (by omega)) vm_X12_lateOf ml_X12_210 k_0.1 (hc := rfl) rfl (h1_0 hG) hl.1 rfl rfl (Nat.le_of_ble_eq_true rfl) dX12_blameOf_73 rfl rfl ⟨Nat.le_of_ble_eq_true rfl, Nat.le_of_ble_eq_true rfl⟩ ⟨Nat.le_refl _, Nat.le_refl _⟩) hS (fun x_8 H locs hp_7 hU hS => ?_)
      have q_9 := hp_7.2
      have tq_9 := congrArg Int32.toInt q_9
      have h73 := q_9
      rw [i61_1] at h73
      have t73 := congrArg Int32.toInt h73
      refine b_if_ne (tgt := 82) hx hb dX12_blameOf_76 (by decide) (fun c_10 => ?_) (fun c_10 => ?_)
      ·
        refine lv_aload_n hx hb dX12_blameOf_82 rfl (lv_at hl 1 rfl) ?_
        refine lv_iload_n hx hb dX12_blameOf_83 rfl (lv_at hl 0 rfl) ?_
        refine q_fv (q_runV (t := 0) (i := 0) (As := [.int v_3]) (rest := []) C hU (c_X12_findMinutes_x hG v_3 (by omega) (by have := lf_lt hG0 pre1 pre0; rw [← i61_1] at this; have z := ix_nat (x := v_3) (by omega); omega)) vm_X12_findMinutes ml_X12_219 k_0.1 (hc := rfl) rfl (h1_0 hG) hl.1 rfl rfl (Nat.le_of_ble_eq_true rfl) dX12_blameOf_84 rfl rfl ⟨Nat.le_of_ble_eq_true rfl, Nat.le_of_ble_eq_true rfl⟩ ⟨Nat.le_refl _, Nat.le_refl _⟩) hS (fun iv_12 rv_13 H locs hG fa_14 fb_15 hp_11 hU hS => ?_)
        have hF1 := hF1.tr (m := ([17], [])) fa_14 (by decide)
        have hF2 := hF2.tr (m := ([17], [])) fb_15 (by decide)
        have kf_16 := congrArg Int32.toInt (hF1 0 0 20 (by decide))
        refine lv_iconst (v := 0) hx hb dX12_blameOf_87 (by decide) ?_
        refine lv_istore (lv' := [(4, .int 0), (3, .int v_3), (0, .ref (al.2 0 0))]) hx hb dX12_blameOf_88 hl (by decide) rfl (fun ls hl => ?_)
        refine lv_iconst (v := 1) hx hb dX12_blameOf_90 (by decide) ?_
        refine lv_istore (lv' := [(5, .int 1), (4, .int 0), (3, .int v_3), (0, .ref (al.2 0 0))]) hx hb dX12_blameOf_91 hl (by decide) rfl (fun ls hl => ?_)
        have J_93 : ∀ (n_93 : Nat) (l4_17 : Int32) (l5_18 : Int32) (ls : Array Slot), lv_has ls 6 [(0, .ref (al.2 0 0)), (4, .int l4_17), (5, .int l5_18)] → (0 ≤ l4_17.toInt ∧ l4_17.toInt ≤ 5) → (1 ≤ l5_18.toInt ∧ l5_18.toInt ≤ 6) → l4_17 = gcN (fun k => iv_12 17 0 k) (l5_18.toNatClampNeg - 1) → (6 - l5_18.toInt).toNat < n_93 → W p l e (rm 7) s m args below meth c H locs 0 0 Q (F0 m 93 ls []) := by
          intro n_93
          induction n_93 with
          | zero =>
            intro l4_17 l5_18 ls hl i93_0 i93_1 i93_2 hm_93
            exact absurd hm_93 (Nat.not_lt_zero _)
          | succ n_93 ih_93 =>
            intro l4_17 l5_18 ls hl i93_0 i93_1 i93_2 hm_93
            refine lv_iload hx hb dX12_blameOf_93 (lv_at hl 2 rfl) ?_
            refine lv_bipush (v := 6) hx hb dX12_blameOf_95 (by decide) ?_
            refine b_icmp_ge (tgt := 132) hx hb dX12_blameOf_97 (by decide) (fun c_19 => ?_) (fun c_19 => ?_)
            ·
              refine lv_iload hx hb dX12_blameOf_132 (lv_at hl 1 rfl) ?_
              exact hret (⟨hG, hF1, hF2, ⟨⟨by omega, by omega⟩, by unfold blF; rw [if_neg (by omega), i93_2, gc_end (by omega)]; exact gc_cong (by rw [← i61_1]; exact hp_11)⟩⟩) hU hS dX12_blameOf_134
            ·
              refine lv_aload_n hx hb dX12_blameOf_100 rfl (lv_at hl 0 rfl) ?_
              refine g_0_19 C hU hG (h1_0 hG) fl_X12_59 dX12_blameOf_101 ?_
              refine lv_iload hx hb dX12_blameOf_104 (lv_at hl 2 rfl) ?_
              refine a_17 C hU hG (h1_17 hG) (x := l5_18) (by omega) (by omega) dX12_blameOf_106 (fun x_20 e_21 => ?_)
              have te_21 := congrArg Int32.toInt e_21
              refine lv_aload_n hx hb dX12_blameOf_107 rfl (lv_at hl 0 rfl) ?_
              refine g_0_19 C hU hG (h1_0 hG) fl_X12_59 dX12_blameOf_108 ?_
              refine lv_iload hx hb dX12_blameOf_111 (lv_at hl 1 rfl) ?_
              refine a_17 C hU hG (h1_17 hG) (x := l4_17) (by omega) (by omega) dX12_blameOf_113 (fun x_22 e_23 => ?_)
              have te_23 := congrArg Int32.toInt e_23
              have J_124 : ∀ (v_24 : Int32) (ls : Array Slot), lv_has ls 6 [(0, .ref (al.2 0 0)), (5, .int l5_18)] → (0 ≤ v_24.toInt ∧ v_24.toInt ≤ 6) → (0 ≤ v_24.toInt ∧ v_24.toInt ≤ 5) → v_24 = gcN (fun k => iv_12 17 0 k) l5_18.toNatClampNeg → W p l e (rm 7) s m args below meth c H locs 0 0 Q (F0 m 124 ls [.int v_24]) := by
                intro v_24 ls hl i124_0 i124_1 i124_2
                refine lv_istore (lv' := [(4, .int v_24), (0, .ref (al.2 0 0)), (5, .int l5_18)]) hx hb dX12_blameOf_124 hl (by decide) rfl (fun ls hl => ?_)
                obtain ⟨x_25, e_26⟩ : ∃ y : Int32, y = l5_18 + 1 := ⟨_, rfl⟩
                have te_26 : x_25.toInt = (l5_18 : Int32).toInt + (1 : Int32).toInt := by rw [e_26]; exact fb_addI (by omega) (by omega)
                refine lv_iinc (v := x_25) (lv' := [(5, .int x_25), (4, .int v_24), (0, .ref (al.2 0 0))]) hx hb dX12_blameOf_126 hl (k := 2) rfl (by rw [e_26]; rfl) (by decide) rfl (fun ls hl => ?_)
                refine lv_goto (tgt := 93) hx hb dX12_blameOf_129 (by decide) ?_
                exact ih_93 v_24 x_25 _ (lv_sub hl [2, 1, 0] rfl) (by omega) (by omega) (by first | exact gc_up (by omega) (by omega) i124_2 | exact gc_0) (by omega)
              refine b_icmp_le (tgt := 122) hx hb dX12_blameOf_114 (by decide) (fun c_27 => ?_) (fun c_27 => ?_)
              ·
                refine lv_iload hx hb dX12_blameOf_122 (lv_at hl 1 rfl) ?_
                exact J_124 l4_17 _ (lv_sub hl [0, 2] rfl) (by omega) (by omega) (by first | exact gc_y i93_2 e_21 e_23 (by omega) (by omega) (by omega) | exact gc_n i93_2 e_21 e_23 (by omega) (by omega) (by omega))
              ·
                refine lv_iload hx hb dX12_blameOf_117 (lv_at hl 2 rfl) ?_
                refine lv_goto (tgt := 124) hx hb dX12_blameOf_119 (by decide) ?_
                exact J_124 l5_18 _ (lv_sub hl [0, 2] rfl) (by omega) (by omega) (by first | exact gc_y i93_2 e_21 e_23 (by omega) (by omega) (by omega) | exact gc_n i93_2 e_21 e_23 (by omega) (by omega) (by omega))
        exact J_93 _ 0 1 _ (lv_sub hl [3, 1, 0] rfl) (by omega) (by omega) (by first | exact gc_up (by omega) (by omega) i124_2 | exact gc_0) (Nat.lt_succ_self _)
      ·
        refine lv_bipush (v := (-9)) hx hb dX12_blameOf_79 (by decide) ?_
        exact hret (⟨hG, hF1, hF2, ⟨⟨by omega, by omega⟩, by unfold blF; rw [if_pos (by omega)]⟩⟩) hU hS dX12_blameOf_81
  refine b_if_ge (tgt := 18) hx hb dX12_blameOf_7 (by decide) (fun c_28 => ?_) (fun c_28 => ?_)
  ·
    refine lv_aload_n hx hb dX12_blameOf_18 rfl (lv_at hl 1 rfl) ?_
    refine g_0_13 C hU hG (h1_0 hG) fl_X12_40 dX12_blameOf_19 ?_
    refine lv_aload_n hx hb dX12_blameOf_22 rfl (lv_at hl 1 rfl) ?_
    refine g_0_21 C hU hG (h1_0 hG) fl_X12_62 dX12_blameOf_23 ?_
    refine lv_iconst (v := 4) hx hb dX12_blameOf_26 (by decide) ?_
    refine lv_iload_n hx hb dX12_blameOf_27 rfl (lv_at hl 2 rfl) ?_
    refine lv_imul hx hb dX12_blameOf_28 ?_
    refine lv_topi (fun x_29 e_30 => ?_)
    have te_30 : x_29.toInt = 4 * (tt : Int32).toInt := by rw [e_30, fb_mulI (by rw [show (4 : Int32).toInt = 4 from by decide]; omega) (by rw [show (4 : Int32).toInt = 4 from by decide]; omega), show (4 : Int32).toInt = 4 from by decide]
    refine lv_iload_n hx hb dX12_blameOf_29 rfl (lv_at hl 0 rfl) ?_
    refine lv_iadd hx hb dX12_blameOf_30 ?_
    refine lv_topi (fun x_31 e_32 => ?_)
    have te_32 : x_31.toInt = (x_29 : Int32).toInt + (x_2 : Int32).toInt := by rw [e_32]; exact fb_addI (by omega) (by omega)
    refine a_18 C hU hG (h1_18 hG) (x := x_31) (by omega) (by omega) dX12_blameOf_31 (fun x_33 e_34 le_34 ue_34 => ?_)
    have te_34 := congrArg Int32.toInt e_34
    have hw31 := rw_ix (t := tt) (i := x_2) e_34 (by omega) (by omega) (by omega)
    refine a_11 C hU hG (h1_11 hG) (x := x_33) (by omega) (by omega) dX12_blameOf_32 (fun x_35 e_36 le_36 ue_36 => ?_)
    have te_36 := congrArg Int32.toInt e_36
    have h32 := e_36
    rw [hw31] at h32
    have t32 := congrArg Int32.toInt h32
    refine b_if_ne (tgt := 49) hx hb dX12_blameOf_33 (by decide) (fun c_37 => ?_) (fun c_37 => ?_)
    ·
      have hi0 : 0 < x_2.toInt := ms_pos hms (by omega) (by omega) (le40 hG0 pre0)
      refine lv_aload_n hx hb dX12_blameOf_49 rfl (lv_at hl 1 rfl) ?_
      refine g_0_21 C hU hG (h1_0 hG) fl_X12_62 dX12_blameOf_50 ?_
      refine lv_iconst (v := 4) hx hb dX12_blameOf_53 (by decide) ?_
      refine lv_iload_n hx hb dX12_blameOf_54 rfl (lv_at hl 2 rfl) ?_
      refine lv_imul hx hb dX12_blameOf_55 ?_
      refine lv_topi (fun x_38 e_39 => ?_)
      have te_39 : x_38.toInt = 4 * (tt : Int32).toInt := by rw [e_39, fb_mulI (by rw [show (4 : Int32).toInt = 4 from by decide]; omega) (by rw [show (4 : Int32).toInt = 4 from by decide]; omega), show (4 : Int32).toInt = 4 from by decide]
      refine lv_iload_n hx hb dX12_blameOf_56 rfl (lv_at hl 0 rfl) ?_
      refine lv_iadd hx hb dX12_blameOf_57 ?_
      refine lv_topi (fun x_40 e_41 => ?_)
      have te_41 : x_40.toInt = (x_38 : Int32).toInt + (x_2 : Int32).toInt := by rw [e_41]; exact fb_addI (by omega) (by omega)
      refine lv_iconst (v := 1) hx hb dX12_blameOf_58 (by decide) ?_
      refine lv_isub hx hb dX12_blameOf_59 ?_
      refine lv_topi (fun x_42 e_43 => ?_)
      have te_43 : x_42.toInt = (x_40 : Int32).toInt - (1 : Int32).toInt := by rw [e_43]; exact fb_subI (by omega) (by omega)
      refine a_18 C hU hG (h1_18 hG) (x := x_42) (by omega) (by omega) dX12_blameOf_60 (fun x_44 e_45 le_45 ue_45 => ?_)
      have te_45 := congrArg Int32.toInt e_45
      have hw60 := rw_ix1 (t := tt) (i := x_2) e_45 (by omega) (by omega) (by omega)
      exact J_61 x_44 _ _ _ (lv_sub hl [1] rfl) hU hS (by omega) (by first | exact lf_1 hms (by omega) True.intro.2 | exact lf_2 hms (by omega) hw31 e_36 (by omega) hw45 | exact lf_3 hms (by omega) hw31 e_36 (by omega) hw60)
    ·
      refine lv_aload_n hx hb dX12_blameOf_36 rfl (lv_at hl 1 rfl) ?_
      refine g_0_21 C hU hG (h1_0 hG) fl_X12_62 dX12_blameOf_37 ?_
      refine lv_iconst (v := 4) hx hb dX12_blameOf_40 (by decide) ?_
      refine lv_iload_n hx hb dX12_blameOf_41 rfl (lv_at hl 2 rfl) ?_
      refine lv_imul hx hb dX12_blameOf_42 ?_
      refine lv_topi (fun x_46 e_47 => ?_)
      have te_47 : x_46.toInt = 4 * (tt : Int32).toInt := by rw [e_47, fb_mulI (by rw [show (4 : Int32).toInt = 4 from by decide]; omega) (by rw [show (4 : Int32).toInt = 4 from by decide]; omega), show (4 : Int32).toInt = 4 from by decide]
      refine lv_iload_n hx hb dX12_blameOf_43 rfl (lv_at hl 0 rfl) ?_
      refine lv_iadd hx hb dX12_blameOf_44 ?_
      refine lv_topi (fun x_48 e_49 => ?_)
      have te_49 : x_48.toInt = (x_46 : Int32).toInt + (x_2 : Int32).toInt := by rw [e_49]; exact fb_addI (by omega) (by omega)
      refine a_18 C hU hG (h1_18 hG) (x := x_48) (by omega) (by omega) dX12_blameOf_45 (fun x_50 e_51 le_51 ue_51 => ?_)
      have te_51 := congrArg Int32.toInt e_51
      have hw45 := rw_ix (t := tt) (i := x_2) e_51 (by omega) (by omega) (by omega)
      refine lv_goto (tgt := 61) hx hb dX12_blameOf_46 (by decide) ?_
      exact J_61 x_50 _ _ _ (lv_sub hl [1] rfl) hU hS (by omega) (by first | exact lf_1 hms (by omega) True.intro.2 | exact lf_2 hms (by omega) hw31 e_36 (by omega) hw45 | exact lf_3 hms (by omega) hw31 e_36 (by omega) hw60)
  ·
    refine lv_aload_n hx hb dX12_blameOf_10 rfl (lv_at hl 1 rfl) ?_
    refine lv_iload_n hx hb dX12_blameOf_11 rfl (lv_at hl 2 rfl) ?_
    refine q_pi (q_runV (t := 0) (i := 0) (As := [.int tt]) (rest := []) C hU (c_X12_lastLeg_x hG tt (by omega)) vm_X12_lastLeg ml_X12_232 k_0.1 (hc := rfl) rfl (h1_0 hG) hl.1 rfl rfl (Nat.le_of_ble_eq_true rfl) dX12_blameOf_12 rfl rfl ⟨Nat.le_of_ble_eq_true rfl, Nat.le_of_ble_eq_true rfl⟩ ⟨Nat.le_refl _, Nat.le_refl _⟩) hS (fun x_53 H locs hp_52 hU hS => ?_)
    refine lv_goto (tgt := 61) hx hb dX12_blameOf_15 (by decide) ?_
    exact J_61 x_53 _ _ _ (lv_sub hl [1] rfl) hU hS (by omega) (by first | exact lf_1 hms (by omega) hp_52.2 | exact lf_2 hms (by omega) hw31 True.intro (by omega) hw45 | exact lf_3 hms (by omega) hw31 True.intro (by omega) hw60)
