set_option maxHeartbeats 4000000 in
set_option maxRecDepth 100000 in
theorem c_X12_balanceOf_x {l : Launch} {D : va_G} {cA : FieldType → ClassId} {sz : Nat} {al : Al} {iv : Iv} {rv : Rv} (hG : GI al iv rv) (pp : Int32) (pre0 : 0 ≤ pp.toInt ∧ pp.toInt ≤ 4) (pre1 : BT iv rv) : Met l yX12_balanceOf (wd yX12_balanceOf cX12_balanceOf 4 (some .int)) (rm 12) (PcW D cA sz al iv rv [.ref (al.2 0 0), .int pp]) (QI D cA sz al (fI al ([17, 20], []) iv rv (fun r iv' rv' => r = baF iv pp.toNatClampNeg))) 0 0 (Aq sz) := by
  refine mk_i (by decide) (Nat.le_of_ble_eq_true rfl) rfl ?_
  intro p e s m args below meth c ls Q H locs C hU hS hl hret
  have hx := C.1.1
  have hb := C.1.2.1
  have hl : lv_has ls 4 [(0, .ref (al.2 0 0)), (1, .int pp)] := hl
  have hG0 := hG
  have h6 := le6 hG
  have h20 := le20 hG
  have h41 := le41 hG
  have h41 := le41 hG
  have h20 := le20 hG
  have hF1 : FR ([17, 20], []) iv iv := FR.rf
  have hF2 : FR ([17, 20], []) rv rv := FR.rf
  have k0 : (0 : Int32).toInt = 0 := by decide
  have k1 : (1 : Int32).toInt = 1 := by decide
  have k5 : (5 : Int32).toInt = 5 := by decide
  refine lv_iconst (v := 0) hx hb dX12_balanceOf_0 (by decide) ?_
  refine lv_istore_n (lv' := [(2, .int 0), (0, .ref (al.2 0 0)), (1, .int pp)]) hx hb dX12_balanceOf_1 rfl hl (by decide) rfl (fun ls hl => ?_)
  refine lv_iconst (v := 0) hx hb dX12_balanceOf_2 (by decide) ?_
  refine lv_istore_n (lv' := [(3, .int 0), (2, .int 0), (0, .ref (al.2 0 0)), (1, .int pp)]) hx hb dX12_balanceOf_3 rfl hl (by decide) rfl (fun ls hl => ?_)
  have J_4 : ∀ (n_4 : Nat) (l2_1 : Int32) (l3_2 : Int32) (iv_3 : Iv) (rv_4 : Rv) (H : Heap) (locs : List Loc) (ls : Array Slot), lv_has ls 4 [(0, .ref (al.2 0 0)), (1, .int pp), (2, .int l2_1), (3, .int l3_2)] → GI al iv_3 rv_4 → FR ([17, 20], []) iv iv_3 → FR ([17, 20], []) rv rv_4 → UW D cA sz al iv_3 rv_4 H → va_S (Aq sz) s.heap H locs → (0 ≤ l3_2.toInt ∧ l3_2.toInt ≤ 30) → l2_1 = baN iv pp.toNatClampNeg l3_2.toNatClampNeg → l3_2.toInt ≤ (iv 0 0 41).toInt → (30 - l3_2.toInt).toNat < n_4 → W p l e (rm 12) s m args below meth c H locs 0 0 Q (F0 m 4 ls []) := by
    intro n_4
    induction n_4 with
    | zero =>
      intro l2_1 l3_2 iv_3 rv_4 H locs ls hl hG hF1 hF2 hU hS i4_0 i4_1 i4_2 hm_4
      exact absurd hm_4 (Nat.not_lt_zero _)
    | succ n_4 ih_4 =>
      intro l2_1 l3_2 iv_3 rv_4 H locs ls hl hG hF1 hF2 hU hS i4_0 i4_1 i4_2 hm_4
      have kf_5 := congrArg Int32.toInt (hF1 0 0 20 (by decide))
      have kf_6 := congrArg Int32.toInt (hF1 0 0 41 (by decide))
      refine lv_iload_n hx hb dX12_balanceOf_4 rfl (lv_at hl 3 rfl) ?_
      refine lv_aload_n hx hb dX12_balanceOf_5 rfl (lv_at hl 0 rfl) ?_
      refine g_0_41 C hU hG (h1_0 hG) fl_X12_275 dX12_balanceOf_6 (fun x_7 e_8 le_8 ue_8 => ?_)
      have te_8 := congrArg Int32.toInt e_8
      have ne_8 : x_7.toInt = (iv 0 0 41).toInt := by rw [e_8, hF1 0 0 41 (by decide)]
      refine b_icmp_ge (tgt := 55) hx hb dX12_balanceOf_9 (by decide) (fun c_9 => ?_) (fun c_9 => ?_)
      ·
        refine lv_iload_n hx hb dX12_balanceOf_55 rfl (lv_at hl 2 rfl) ?_
        exact hret (⟨hG, hF1, hF2, by unfold baF; rw [i4_1, clamp_eq (show (l3_2 : Int32).toInt = (iv 0 0 41).toInt by omega)]⟩) hU hS dX12_balanceOf_56
      ·
        refine lv_iload_n hx hb dX12_balanceOf_12 rfl (lv_at hl 2 rfl) ?_
        refine lv_aload_n hx hb dX12_balanceOf_13 rfl (lv_at hl 0 rfl) ?_
        refine lv_iload_n hx hb dX12_balanceOf_14 rfl (lv_at hl 3 rfl) ?_
        have hMA := ma_fr hF1
        refine q_pi (q_runV (t := 0) (i := 0) (As := [.int l3_2]) (rest := [.int l2_1]) C hU (c_X12_settledOf_x hG l3_2 (by omega)) vm_X12_settledOf ml_X12_287 k_0.1 (hc := rfl) rfl (h1_0 hG) hl.1 rfl rfl (Nat.le_of_ble_eq_true rfl) dX12_balanceOf_15 rfl rfl ⟨Nat.le_of_ble_eq_true rfl, Nat.le_of_ble_eq_true rfl⟩ ⟨Nat.le_refl _, Nat.le_refl _⟩) hS (fun x_11 H locs hp_10 hU hS => ?_)
        have h15 : x_11 = sdN iv l3_2.toNatClampNeg 5 := by rw [hp_10, sdN_m hMA]
        have t15 := congrArg Int32.toInt h15
        refine lv_aload_n hx hb dX12_balanceOf_18 rfl (lv_at hl 0 rfl) ?_
        refine lv_iload_n hx hb dX12_balanceOf_19 rfl (lv_at hl 3 rfl) ?_
        refine q_fi (q_runV (t := 0) (i := 0) (As := [.int l3_2]) (rest := [.int x_11, .int l2_1]) C hU (c_X12_worthOf_x hG l3_2 (by omega) (bt_fr hG0 pre1 hF1 hF2)) vm_X12_worthOf ml_X12_284 k_0.1 (hc := rfl) rfl (h1_0 hG) hl.1 rfl rfl (Nat.le_of_ble_eq_true rfl) dX12_balanceOf_20 rfl rfl ⟨Nat.le_of_ble_eq_true rfl, Nat.le_of_ble_eq_true rfl⟩ ⟨Nat.le_refl _, Nat.le_refl _⟩) hS (fun x_17 iv_13 rv_14 H locs hG fa_15 fb_16 hp_12 hU hS => ?_)
        have hF1 := hF1.tr (m := ([17, 20], [])) fa_15 (by decide)
        have hF2 := hF2.tr (m := ([17, 20], [])) fb_16 (by decide)
        have kf_18 := congrArg Int32.toInt (hF1 0 0 20 (by decide))
        have kf_19 := congrArg Int32.toInt (hF1 0 0 41 (by decide))
        have h20 : x_17 = wrF iv l3_2.toNatClampNeg := by rw [hp_12, wr_m hMA]
        have t20 := congrArg Int32.toInt h20
        have J_47 : ∀ (v_20 : Int32) (iv_21 : Iv) (rv_22 : Rv) (H : Heap) (locs : List Loc) (ls : Array Slot), lv_has ls 4 [(0, .ref (al.2 0 0)), (1, .int pp), (3, .int l3_2)] → GI al iv_21 rv_22 → FR ([17, 20], []) iv iv_21 → FR ([17, 20], []) rv rv_22 → UW D cA sz al iv_21 rv_22 H → va_S (Aq sz) s.heap H locs → v_20 = baT iv l3_2.toNatClampNeg pp.toNatClampNeg → W p l e (rm 12) s m args below meth c H locs 0 0 Q (F0 m 47 ls [.int v_20, .int l2_1]) := by
          intro v_20 iv_21 rv_22 H locs ls hl hG hF1 hF2 hU hS i47_0
          have kf_23 := congrArg Int32.toInt (hF1 0 0 20 (by decide))
          have kf_24 := congrArg Int32.toInt (hF1 0 0 41 (by decide))
          refine lv_iadd hx hb dX12_balanceOf_47 ?_
          refine lv_topi (fun x_25 e_26 => ?_)
          refine lv_istore_n (lv' := [(2, .int x_25), (0, .ref (al.2 0 0)), (1, .int pp), (3, .int l3_2)]) hx hb dX12_balanceOf_48 rfl hl (by decide) rfl (fun ls hl => ?_)
          obtain ⟨x_27, e_28⟩ : ∃ y : Int32, y = l3_2 + 1 := ⟨_, rfl⟩
          have te_28 : x_27.toInt = (l3_2 : Int32).toInt + (1 : Int32).toInt := by rw [e_28]; exact fb_addI (by omega) (by omega)
          refine lv_iinc (v := x_27) (lv' := [(3, .int x_27), (2, .int x_25), (0, .ref (al.2 0 0)), (1, .int pp)]) hx hb dX12_balanceOf_49 hl (k := 3) rfl (by rw [e_28]; rfl) (by decide) rfl (fun ls hl => ?_)
          refine lv_goto (tgt := 4) hx hb dX12_balanceOf_52 (by decide) ?_
          exact ih_4 x_25 x_27 _ _ _ _ _ (lv_sub hl [2, 3, 1, 0] rfl) hG hF1 hF2 hU hS (by omega) (by first | exact ba_up i4_1 i47_0 e_26 (by omega) (by omega) | exact ba_0) (by omega) (by omega)
        refine b_icmp_lt (tgt := 46) hx hb dX12_balanceOf_23 (by decide) (fun c_29 => ?_) (fun c_29 => ?_)
        ·
          refine lv_iconst (v := 0) hx hb dX12_balanceOf_46 (by decide) ?_
          exact J_47 0 _ _ _ _ _ (lv_sub hl [0, 1, 3] rfl) hG hF1 hF2 hU hS (by first | exact ba_y True.intro h35 h39 (by omega) | exact ba_n (by omega))
        ·
          refine lv_aload_n hx hb dX12_balanceOf_26 rfl (lv_at hl 0 rfl) ?_
          refine g_0_45 C hU hG (h1_0 hG) fl_X12_122 dX12_balanceOf_27 ?_
          refine lv_iconst (v := 5) hx hb dX12_balanceOf_30 (by decide) ?_
          refine lv_iload_n hx hb dX12_balanceOf_31 rfl (lv_at hl 3 rfl) ?_
          refine lv_imul hx hb dX12_balanceOf_32 ?_
          refine lv_topi (fun x_30 e_31 => ?_)
          have te_31 : x_30.toInt = 5 * (l3_2 : Int32).toInt := by rw [e_31, fb_mulI (by rw [show (5 : Int32).toInt = 5 from by decide]; omega) (by rw [show (5 : Int32).toInt = 5 from by decide]; omega), show (5 : Int32).toInt = 5 from by decide]
          refine lv_iload_n hx hb dX12_balanceOf_33 rfl (lv_at hl 1 rfl) ?_
          refine lv_iadd hx hb dX12_balanceOf_34 ?_
          refine lv_topi (fun x_32 e_33 => ?_)
          have te_33 : x_32.toInt = (x_30 : Int32).toInt + (pp : Int32).toInt := by rw [e_33]; exact fb_addI (by omega) (by omega)
          refine a_38 C hU hG (h1_38 hG) (x := x_32) (by omega) (by omega) dX12_balanceOf_35 (fun x_34 e_35 => ?_)
          have te_35 := congrArg Int32.toInt e_35
          have ne_35 : x_34.toInt = (iv 38 0 (x_32 : Int32).toNatClampNeg).toInt := by rw [e_35, hF1.arr 38 0 (x_32 : Int32).toNatClampNeg (by decide)]
          have u35 : (x_32 : Int32).toNatClampNeg = 5 * l3_2.toNatClampNeg + pp.toNatClampNeg := ba_ix (by omega) (by omega)
          have h35 : x_34 = iv 38 0 (5 * l3_2.toNatClampNeg + pp.toNatClampNeg) := by rw [e_35, u35]; exact hF1.arr 38 0 _ (by decide)
          refine lv_aload_n hx hb dX12_balanceOf_36 rfl (lv_at hl 0 rfl) ?_
          refine lv_iload_n hx hb dX12_balanceOf_37 rfl (lv_at hl 3 rfl) ?_
          refine lv_iload_n hx hb dX12_balanceOf_38 rfl (lv_at hl 1 rfl) ?_
          have hMB := ma_fr hF1
          refine q_fi (q_runV (t := 0) (i := 0) (As := [.int l3_2, .int pp]) (rest := [.int x_34, .int l2_1]) C hU (c_X12_dueOf_x hG l3_2 pp (by omega) (by omega) (bt_fr hG0 pre1 hF1 hF2)) vm_X12_dueOf ml_X12_294 k_0.1 (hc := rfl) rfl (h1_0 hG) hl.1 rfl rfl (Nat.le_of_ble_eq_true rfl) dX12_balanceOf_39 rfl rfl ⟨Nat.le_of_ble_eq_true rfl, Nat.le_of_ble_eq_true rfl⟩ ⟨Nat.le_refl _, Nat.le_refl _⟩) hS (fun x_41 iv_37 rv_38 H locs hG fa_39 fb_40 hp_36 hU hS => ?_)
          have hF1 := hF1.tr (m := ([17, 20], [])) fa_39 (by decide)
          have hF2 := hF2.tr (m := ([17, 20], [])) fb_40 (by decide)
          have kf_42 := congrArg Int32.toInt (hF1 0 0 20 (by decide))
          have kf_43 := congrArg Int32.toInt (hF1 0 0 41 (by decide))
          have h39 : x_41 = duF iv l3_2.toNatClampNeg pp.toNatClampNeg := by rw [hp_36, duF_m hMB]
          refine lv_isub hx hb dX12_balanceOf_42 ?_
          refine lv_topi (fun x_44 e_45 => ?_)
          refine lv_goto (tgt := 47) hx hb dX12_balanceOf_43 (by decide) ?_
          exact J_47 x_44 _ _ _ _ _ (lv_sub hl [0, 1, 3] rfl) hG hF1 hF2 hU hS (by first | exact ba_y e_45 h35 h39 (by omega) | exact ba_n (by omega))
  exact J_4 _ 0 0 _ _ _ _ _ (lv_sub hl [2, 3, 1, 0] rfl) hG hF1 hF2 hU hS (by omega) (by first | exact ba_up i4_1 i47_0 True.intro (by omega) (by omega) | exact ba_0) (by omega) (Nat.lt_succ_self _)
set_option maxHeartbeats 4000000 in
set_option maxRecDepth 100000 in
theorem c_X3_addToBalances_x {l : Launch} {D : va_G} {cA : FieldType → ClassId} {sz : Nat} {al : Al} {iv : Iv} {rv : Rv} (hG : GI al iv rv) (ci : Nat) (hci : ci < al.1 88) (wo : Int32) (pre0 : Cowe iv rv) (pre1 : Cclm iv rv) : Met l yX3_addToBalances (wd yX3_addToBalances cX3_addToBalances 4 none) (rm 2) (PcW D cA sz al iv rv [.ref (al.2 84 0), .ref (al.2 88 ci), .int wo]) (QV D cA sz al (fV al ([86], []) iv rv (fun iv' rv' => ∀ k : Nat, k < 5 → iv' 86 0 k = iv 86 0 k + adF iv ci wo k))) 0 0 (Aq sz) := by
  refine mk_v (by decide) (Nat.le_of_ble_eq_true rfl) rfl ?_
  intro p e s m args below meth c ls Q H locs C hU hS hl hret
  have hx := C.1.1
  have hb := C.1.2.1
  have hl : lv_has ls 4 [(0, .ref (al.2 84 0)), (1, .ref (al.2 88 ci)), (2, .int wo)] := hl
  have hG0 := hG
  have hF1 : FR ([86], []) iv iv := FR.rf
  have hF2 : FR ([86], []) rv rv := FR.rf
  have k0 : (0 : Int32).toInt = 0 := by decide
  have k1 : (1 : Int32).toInt = 1 := by decide
  have k5 : (5 : Int32).toInt = 5 := by decide
  refine lv_iconst (v := 0) hx hb dX3_addToBalances_0 (by decide) ?_
  refine lv_istore_n (lv' := [(3, .int 0), (0, .ref (al.2 84 0)), (1, .ref (al.2 88 ci)), (2, .int wo)]) hx hb dX3_addToBalances_1 rfl hl (by decide) rfl (fun ls hl => ?_)
  have J_2 : ∀ (n_2 : Nat) (l3_1 : Int32) (iv_2 : Iv) (rv_3 : Rv) (H : Heap) (locs : List Loc) (ls : Array Slot), lv_has ls 4 [(0, .ref (al.2 84 0)), (1, .ref (al.2 88 ci)), (2, .int wo), (3, .int l3_1)] → GI al iv_2 rv_3 → FR ([86], []) iv iv_2 → FR ([86], []) rv rv_3 → UW D cA sz al iv_2 rv_3 H → va_S (Aq sz) s.heap H locs → (0 ≤ l3_1.toInt ∧ l3_1.toInt ≤ 5) → (∀ k : Nat, k < 5 → iv_2 86 0 k = if (k : Int) < l3_1.toInt then iv 86 0 k + adF iv ci wo k else iv 86 0 k) → (5 - l3_1.toInt).toNat < n_2 → W p l e (rm 2) s m args below meth c H locs 0 0 Q (F0 m 2 ls []) := by
    intro n_2
    induction n_2 with
    | zero =>
      intro l3_1 iv_2 rv_3 H locs ls hl hG hF1 hF2 hU hS i2_0 i2_1 hm_2
      exact absurd hm_2 (Nat.not_lt_zero _)
    | succ n_2 ih_2 =>
      intro l3_1 iv_2 rv_3 H locs ls hl hG hF1 hF2 hU hS i2_0 i2_1 hm_2
      refine lv_iload_n hx hb dX3_addToBalances_2 rfl (lv_at hl 3 rfl) ?_
      refine lv_iconst (v := 5) hx hb dX3_addToBalances_3 (by decide) ?_
      refine b_icmp_ge (tgt := 35) hx hb dX3_addToBalances_4 (by decide) (fun c_4 => ?_) (fun c_4 => ?_)
      ·
        exact hret (⟨hG, hF1, hF2, fun k hk => by rw [i2_1 k hk, if_pos (by omega)]⟩) hU hS dX3_addToBalances_35
      ·
        refine lv_aload_n hx hb dX3_addToBalances_7 rfl (lv_at hl 0 rfl) ?_
        refine g_84_2 C hU hG (h1_84 hG) fl_X3_17 dX3_addToBalances_8 ?_
        refine lv_iload_n hx hb dX3_addToBalances_11 rfl (lv_at hl 3 rfl) ?_
        refine lv_dup2_11 hx hb dX3_addToBalances_12 rfl rfl ?_
        refine a_86 C hU hG (h1_86 hG) (x := l3_1) (by omega) (by omega) dX3_addToBalances_13 (fun x_5 e_6 => ?_)
        have te_6 := congrArg Int32.toInt e_6
        refine lv_aload_n hx hb dX3_addToBalances_14 rfl (lv_at hl 1 rfl) ?_
        refine g_88_2 C hU hG hci fl_X3_41 dX3_addToBalances_15 (fun hb_7 => ?_)
        refine lv_iload_n hx hb dX3_addToBalances_18 rfl (lv_at hl 3 rfl) ?_
        refine a_89 C hU hG hb_7 (x := l3_1) (by omega) (by omega) dX3_addToBalances_19 (fun x_8 e_9 => ?_)
        have te_9 := congrArg Int32.toInt e_9
        have ne_9 : x_8.toInt = (iv 89 ci (l3_1 : Int32).toNatClampNeg).toInt := by rw [e_9, hF1.arr 89 ci (l3_1 : Int32).toNatClampNeg (by decide)]
        have h19 : x_8 = iv 89 ci l3_1.toNatClampNeg := by rw [e_9]; exact hF1.arr 89 ci _ (by decide)
        refine lv_aload_n hx hb dX3_addToBalances_20 rfl (lv_at hl 1 rfl) ?_
        refine lv_iload_n hx hb dX3_addToBalances_21 rfl (lv_at hl 3 rfl) ?_
        refine lv_iload_n hx hb dX3_addToBalances_22 rfl (lv_at hl 2 rfl) ?_
        refine q_pi (q_runV (t := 88) (i := ci) (As := [.int l3_1, .int wo]) (rest := [.int x_8, .int x_5, .int l3_1, .ref (al.2 86 0)]) C hU (c_X2_partOf_x hG (ci) hci l3_1 wo (Cowe.keep pre0 hG0 (KP.fr hF1 hF2 (by decide))) (Cclm.keep pre1 hG0 (KP.fr hF1 hF2 (by decide))) (by omega)) vm_X2_partOf ml_X3_44 k_88.1 (hc := rfl) rfl hci hl.1 rfl rfl (Nat.le_of_ble_eq_true rfl) dX3_addToBalances_23 rfl rfl ⟨Nat.le_of_ble_eq_true rfl, Nat.le_of_ble_eq_true rfl⟩ ⟨Nat.le_refl _, Nat.le_refl _⟩) hS (fun x_11 H locs hp_10 hU hS => ?_)
        have h23 : x_11 = (duN iv (cown iv ci) wo (l3_1.toNatClampNeg + 1)).2 := by rw [hp_10, duN_m (ma_fr hF1), cown_m (ma_fr hF1)]
        refine lv_isub hx hb dX3_addToBalances_26 ?_
        refine lv_topi (fun x_12 e_13 => ?_)
        refine lv_iadd hx hb dX3_addToBalances_27 ?_
        refine lv_topi (fun x_14 e_15 => ?_)
        refine s_86 C hU hS (h1_86 hG) (x := l3_1) (by omega) (by omega) dX3_addToBalances_28 (fun iv_16 H locs ei_17 hU hS => ?_)
        have hG : GI al iv_16 rv_3 := by rw [ei_17]; exact hG.puti (show _ ∧ _ from ⟨(fb_rng _).1, Int.le_of_lt_add_one (fb_rng _).2⟩) (nsA (by decide) _)
        have hF1 : FR ([86], []) iv iv_16 := by rw [ei_17]; exact hF1.put (Or.inl (by decide))
        obtain ⟨x_18, e_19⟩ : ∃ y : Int32, y = l3_1 + 1 := ⟨_, rfl⟩
        have te_19 : x_18.toInt = (l3_1 : Int32).toInt + (1 : Int32).toInt := by rw [e_19]; exact fb_addI (by omega) (by omega)
        refine lv_iinc (v := x_18) (lv' := [(3, .int x_18), (0, .ref (al.2 84 0)), (1, .ref (al.2 88 ci)), (2, .int wo)]) hx hb dX3_addToBalances_29 hl (k := 3) rfl (by rw [e_19]; rfl) (by decide) rfl (fun ls hl => ?_)
        refine lv_goto (tgt := 2) hx hb dX3_addToBalances_32 (by decide) ?_
        exact ih_2 x_18 _ _ _ _ _ (lv_sub hl [1, 2, 3, 0] rfl) hG hF1 hF2 hU hS (by omega) (by first | exact ab_s i2_1 e_6 h19 h23 e_13 e_15 ei_17 (by omega) (by omega) (by omega) | exact ab_0) (by omega)
  exact J_2 _ 0 _ _ _ _ _ (lv_sub hl [1, 2, 3, 0] rfl) hG hF1 hF2 hU hS (by omega) (by first | exact ab_s i2_1 True.intro h19 h23 True.intro True.intro True.intro (by omega) (by omega) (by omega) | exact ab_0) (Nat.lt_succ_self _)
set_option maxHeartbeats 4000000 in
set_option maxRecDepth 100000 in
theorem c_X11_settleUp_x {l : Launch} {D : va_G} {cA : FieldType → ClassId} {sz : Nat} {al : Al} {iv : Iv} {rv : Rv} (hG : GI al iv rv) (pre0 : BX iv rv) (pre1 : Cord iv rv) (pre2 : Cowe iv rv) (pre3 : Cpay iv rv) : Met l yX11_settleUp (wd yX11_settleUp cX11_settleUp 4 none) (rm 6) (PcW D cA sz al iv rv [.ref (al.2 49 0)]) (QV D cA sz al (fV al ([59, 60, 61, 86], []) iv rv (fun iv' rv' => ∀ k : Nat, k < 5 → iv' 86 0 k = baF iv k))) 0 0 (Aq sz) := by
  refine mk_v (by decide) (Nat.le_of_ble_eq_true rfl) rfl ?_
  intro p e s m args below meth c ls Q H locs C hU hS hl hret
  have hx := C.1.1
  have hb := C.1.2.1
  have hl : lv_has ls 4 [(0, .ref (al.2 49 0))] := hl
  have hG0 := hG
  have h41 := le41 hG
  have hn41 := congrArg Int32.toInt pre0.2.2.2.1
  have hF1 : FR ([59, 60, 61, 86], []) iv iv := FR.rf
  have hF2 : FR ([59, 60, 61, 86], []) rv rv := FR.rf
  have k0 : (0 : Int32).toInt = 0 := by decide
  have k1 : (1 : Int32).toInt = 1 := by decide
  refine lv_aload_n hx hb dX11_settleUp_0 rfl (lv_at hl 0 rfl) ?_
  refine g_49_5 C hU hG (h1_49 hG) fl_X11_47 dX11_settleUp_1 ?_
  refine g_84_2 C hU hG (h1_84 hG) fl_X11_298 dX11_settleUp_4 ?_
  refine lv_iconst (v := 0) hx hb dX11_settleUp_7 (by decide) ?_
  refine q_fv (q_runS (As := [.ref (al.2 86 0), .int 0]) (rest := []) C hU (c_J7_fill_53178_86x hG 0 ) sm_J7_fill_53178 ml_X11_394 hl.1 rfl rfl (Nat.le_of_ble_eq_true rfl) dX11_settleUp_8 rfl rfl ⟨Nat.le_of_ble_eq_true rfl, Nat.le_of_ble_eq_true rfl⟩ ⟨Nat.le_refl _, Nat.le_refl _⟩) hS (fun iv_2 rv_3 H locs hG fa_4 fb_5 hp_1 hU hS => ?_)
  have hF1 := hF1.tr (m := ([59, 60, 61, 86], [])) fa_4 (by decide)
  have hF2 := hF2.tr (m := ([59, 60, 61, 86], [])) fb_5 (by decide)
  refine lv_iconst (v := 0) hx hb dX11_settleUp_11 (by decide) ?_
  refine lv_istore_n (lv' := [(1, .int 0), (0, .ref (al.2 49 0))]) hx hb dX11_settleUp_12 rfl hl (by decide) rfl (fun ls hl => ?_)
  have J_13 : ∀ (n_13 : Nat) (l1_6 : Int32) (iv_7 : Iv) (rv_8 : Rv) (H : Heap) (locs : List Loc) (ls : Array Slot), lv_has ls 4 [(0, .ref (al.2 49 0)), (1, .int l1_6)] → GI al iv_7 rv_8 → FR ([59, 60, 61, 86], []) iv iv_7 → FR ([59, 60, 61, 86], []) rv rv_8 → UW D cA sz al iv_7 rv_8 H → va_S (Aq sz) s.heap H locs → (0 ≤ l1_6.toInt ∧ l1_6.toInt ≤ 30) → (∀ k : Nat, k < 5 → iv_7 86 0 k = baN iv k l1_6.toNatClampNeg) → l1_6.toInt ≤ (iv 84 0 1).toInt → (30 - l1_6.toInt).toNat < n_13 → W p l e (rm 6) s m args below meth c H locs 0 0 Q (F0 m 13 ls []) := by
    intro n_13
    induction n_13 with
    | zero =>
      intro l1_6 iv_7 rv_8 H locs ls hl hG hF1 hF2 hU hS i13_0 i13_1 i13_2 hm_13
      exact absurd hm_13 (Nat.not_lt_zero _)
    | succ n_13 ih_13 =>
      intro l1_6 iv_7 rv_8 H locs ls hl hG hF1 hF2 hU hS i13_0 i13_1 i13_2 hm_13
      refine lv_iload_n hx hb dX11_settleUp_13 rfl (lv_at hl 1 rfl) ?_
      refine lv_aload_n hx hb dX11_settleUp_14 rfl (lv_at hl 0 rfl) ?_
      refine g_49_5 C hU hG (h1_49 hG) fl_X11_47 dX11_settleUp_15 ?_
      refine g_84_1 C hU hG (h1_84 hG) fl_X11_327 dX11_settleUp_18 (fun x_9 e_10 le_10 ue_10 => ?_)
      have te_10 := congrArg Int32.toInt e_10
      have ne_10 : x_9.toInt = (iv 84 0 1).toInt := by rw [e_10, hF1 84 0 1 (by decide)]
      refine b_icmp_ge (tgt := 63) hx hb dX11_settleUp_21 (by decide) (fun c_11 => ?_) (fun c_11 => ?_)
      ·
        exact hret (⟨hG, hF1, hF2, fun k hk => by unfold baF; rw [i13_1 k hk, clamp_eq (show (l1_6 : Int32).toInt = (iv 0 0 41).toInt by omega)]⟩) hU hS dX11_settleUp_63
      ·
        refine lv_aload_n hx hb dX11_settleUp_24 rfl (lv_at hl 0 rfl) ?_
        refine g_49_5 C hU hG (h1_49 hG) fl_X11_47 dX11_settleUp_25 ?_
        refine g_84_0 C hU hG (h1_84 hG) fl_X11_390 dX11_settleUp_28 ?_
        refine lv_iload_n hx hb dX11_settleUp_31 rfl (lv_at hl 1 rfl) ?_
        refine a_85 C hU hG (h1_85 hG) (x := l1_6) (by omega) (by omega) dX11_settleUp_32 (fun r_12 er_13 hb_14 => ?_)
        have ner_13 : r_12 = rv 85 0 (l1_6 : Int32).toNatClampNeg := by rw [er_13, hF2.arr 85 0 _ (by decide)]
        obtain ⟨j_15, ej_16⟩ : ∃ j, r_12 = some j := ⟨_, er_13.trans (call_ hG (by omega) (by omega))⟩
        subst ej_16
        have hl : lv_has ls 4 [(0, .ref (al.2 49 0)), (1, .int l1_6)] := hl
        have hb_17 : j_15 < al.1 88 := hb_14 j_15 rfl
        have hj : j_15 = l1_6.toNatClampNeg := Option.some.inj (er_13.trans (call_ hG (by omega) (by omega)))
        have hix := ix_nat (show 0 ≤ (l1_6 : Int32).toInt by omega)
        refine lv_astore_n (lv' := [(2, .ref (al.2 88 j_15)), (0, .ref (al.2 49 0)), (1, .int l1_6)]) hx hb dX11_settleUp_33 rfl hl (by decide) rfl (fun ls hl => ?_)
        refine lv_aload_n hx hb dX11_settleUp_34 rfl (lv_at hl 1 rfl) ?_
        refine lv_aload_n hx hb dX11_settleUp_35 rfl (lv_at hl 0 rfl) ?_
        have hMA := ma_fr hF1
        refine q_fi (q_runV (t := 49) (i := 0) (As := [.ref (al.2 88 j_15)]) (rest := []) C hU (c_X11_worthOf_x hG (j_15) hb_17 (bx_fr hG0 pre0 hF1 hF2) (Cord.keep pre1 hG0 (KP.fr hF1 hF2 (by decide)))) vm_X11_worthOf ml_X11_278 k_49.1 (hc := rfl) rfl (h1_49 hG) hl.1 rfl rfl (Nat.le_of_ble_eq_true rfl) dX11_settleUp_36 rfl rfl ⟨Nat.le_of_ble_eq_true rfl, Nat.le_of_ble_eq_true rfl⟩ ⟨Nat.le_refl _, Nat.le_refl _⟩) hS (fun x_23 iv_19 rv_20 H locs hG fa_21 fb_22 hp_18 hU hS => ?_)
        have hF1 := hF1.tr (m := ([59, 60, 61, 86], [])) fa_21 (by decide)
        have hF2 := hF2.tr (m := ([59, 60, 61, 86], [])) fb_22 (by decide)
        have h36 : x_23 = wrF iv l1_6.toNatClampNeg := by rw [hp_18, wr_m hMA, hj]
        have t36 := congrArg Int32.toInt h36
        have f86 := fun k => fa_21.arr 86 0 k (by decide)
        refine lv_istore_n (lv' := [(3, .int x_23), (2, .ref (al.2 88 j_15)), (0, .ref (al.2 49 0)), (1, .int l1_6)]) hx hb dX11_settleUp_39 rfl hl (by decide) rfl (fun ls hl => ?_)
        refine lv_aload_n hx hb dX11_settleUp_40 rfl (lv_at hl 1 rfl) ?_
        refine g_88_3 C hU hG hb_17 fl_X11_282 dX11_settleUp_41 (fun x_24 e_25 => ?_)
        have te_25 := congrArg Int32.toInt e_25
        have ne_25 : x_24.toInt = (iv 88 j_15 3).toInt := by rw [e_25, hF1 88 j_15 3 (by decide)]
        have h41 : x_24 = sdN iv l1_6.toNatClampNeg 5 := by rw [e_25, hF1 88 j_15 3 (by decide), hj]; exact pre3.2.1 _ (by omega)
        have t41 := congrArg Int32.toInt h41
        refine lv_iload_n hx hb dX11_settleUp_44 rfl (lv_at hl 0 rfl) ?_
        have J_57 : ∀ (iv_26 : Iv) (rv_27 : Rv) (H : Heap) (locs : List Loc) (ls : Array Slot), lv_has ls 4 [(0, .ref (al.2 49 0)), (1, .int l1_6)] → GI al iv_26 rv_27 → FR ([59, 60, 61, 86], []) iv iv_26 → FR ([59, 60, 61, 86], []) rv rv_27 → UW D cA sz al iv_26 rv_27 H → va_S (Aq sz) s.heap H locs → (∀ k : Nat, k < 5 → iv_26 86 0 k = baN iv k (l1_6.toNatClampNeg + 1)) → W p l e (rm 6) s m args below meth c H locs 0 0 Q (F0 m 57 ls []) := by
          intro iv_26 rv_27 H locs ls hl hG hF1 hF2 hU hS i57_0
          obtain ⟨x_28, e_29⟩ : ∃ y : Int32, y = l1_6 + 1 := ⟨_, rfl⟩
          have te_29 : x_28.toInt = (l1_6 : Int32).toInt + (1 : Int32).toInt := by rw [e_29]; exact fb_addI (by omega) (by omega)
          refine lv_iinc (v := x_28) (lv' := [(1, .int x_28), (0, .ref (al.2 49 0))]) hx hb dX11_settleUp_57 hl (k := 1) rfl (by rw [e_29]; rfl) (by decide) rfl (fun ls hl => ?_)
          refine lv_goto (tgt := 13) hx hb dX11_settleUp_60 (by decide) ?_
          exact ih_13 x_28 _ _ _ _ _ (lv_sub hl [1, 0] rfl) hG hF1 hF2 hU hS (by omega) (by first | exact su_up i57_0 (by omega) (by omega) | exact su_0 hp_1) (by omega) (by omega)
        refine b_icmp_lt (tgt := 57) hx hb dX11_settleUp_45 (by decide) (fun c_30 => ?_) (fun c_30 => ?_)
        ·
          exact J_57 _ _ _ _ _ (lv_sub hl [2, 3] rfl) hG hF1 hF2 hU hS (by first | exact su_n i13_1 f86 (by omega) | exact su_y i13_1 f86 True.intro hMC hF9 hj h36 (fun p hp => pre3.1 _ p (by omega) hp) (by omega))
        ·
          refine lv_aload_n hx hb dX11_settleUp_48 rfl (lv_at hl 2 rfl) ?_
          refine g_49_5 C hU hG (h1_49 hG) fl_X11_47 dX11_settleUp_49 ?_
          refine lv_aload_n hx hb dX11_settleUp_52 rfl (lv_at hl 1 rfl) ?_
          refine lv_iload_n hx hb dX11_settleUp_53 rfl (lv_at hl 0 rfl) ?_
          have hMC := ma_fr hF1
          have hF9 := fun k => hF1.arr 89 j_15 k (by decide)
          refine q_fv (q_runV (t := 84) (i := 0) (As := [.ref (al.2 88 j_15), .int x_23]) (rest := []) C hU (c_X3_addToBalances_x hG (j_15) hb_17 x_23 (Cowe.keep pre2 hG0 (KP.fr hF1 hF2 (by decide))) (Cclm.keep pre0.2.2.2 hG0 (KP.fr hF1 hF2 (by decide)))) vm_X3_addToBalances ml_X11_400 k_84.1 (hc := rfl) rfl (h1_84 hG) hl.1 rfl rfl (Nat.le_of_ble_eq_true rfl) dX11_settleUp_54 rfl rfl ⟨Nat.le_of_ble_eq_true rfl, Nat.le_of_ble_eq_true rfl⟩ ⟨Nat.le_refl _, Nat.le_refl _⟩) hS (fun iv_32 rv_33 H locs hG fa_34 fb_35 hp_31 hU hS => ?_)
          have hF1 := hF1.tr (m := ([59, 60, 61, 86], [])) fa_34 (by decide)
          have hF2 := hF2.tr (m := ([59, 60, 61, 86], [])) fb_35 (by decide)
          exact J_57 _ _ _ _ _ (lv_sub hl [2, 3] rfl) hG hF1 hF2 hU hS (by first | exact su_n i13_1 f86 (by omega) | exact su_y i13_1 f86 hp_31 hMC hF9 hj h36 (fun p hp => pre3.1 _ p (by omega) hp) (by omega))
  exact J_13 _ 0 _ _ _ _ _ (lv_sub hl [1, 0] rfl) hG hF1 hF2 hU hS (by omega) (by first | exact su_up i57_0 (by omega) (by omega) | exact su_0 hp_1) (by omega) (Nat.lt_succ_self _)
