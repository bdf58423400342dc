set_option maxHeartbeats 4000000 in
set_option maxRecDepth 100000 in
theorem c_X12_dueOf_x {l : Launch} {D : va_G} {cA : FieldType → ClassId} {sz : Nat} {al : Al} {iv : Iv} {rv : Rv} (hG : GI al iv rv) (cl : Int32) (pp : Int32) (pre0 : 0 ≤ cl.toInt ∧ cl.toInt < (iv 0 0 41).toInt) (pre1 : 0 ≤ pp.toInt ∧ pp.toInt ≤ 4) (pre2 : BT iv rv) : Met l yX12_dueOf (wd yX12_dueOf cX12_dueOf 6 (some .int)) (rm 11) (PcW D cA sz al iv rv [.ref (al.2 0 0), .int cl, .int pp]) (QI D cA sz al (fI al ([17, 20], []) iv rv (fun r iv' rv' => r = duF iv cl.toNatClampNeg pp.toNatClampNeg))) 0 0 (Aq sz) := by
  refine mk_i (by decide) (Nat.le_of_ble_eq_true rfl) rfl ?_
  intro p e s m args below meth c ls Q H locs C hU hS hl hret
  have hx := C.1.1
  have hb := C.1.2.1
  have hl : lv_has ls 6 [(0, .ref (al.2 0 0)), (1, .int cl), (2, .int pp)] := hl
  have hG0 := hG
  have h6 := le6 hG
  have h20 := le20 hG
  have h41 := le41 hG
  have h41 := le41 hG
  have h20 := le20 hG
  have hF1 : FR ([17, 20], []) iv iv := FR.rf
  have hF2 : FR ([17, 20], []) rv rv := FR.rf
  have k0 : (0 : Int32).toInt = 0 := by decide
  have k1 : (1 : Int32).toInt = 1 := by decide
  have k20 : (20 : Int32).toInt = 20 := by decide
  refine lv_aload_n hx hb dX12_dueOf_0 rfl (lv_at hl 0 rfl) ?_
  refine lv_iload_n hx hb dX12_dueOf_1 rfl (lv_at hl 1 rfl) ?_
  refine q_fi (q_runV (t := 0) (i := 0) (As := [.int cl]) (rest := []) C hU (c_X12_worthOf_x hG cl (by omega) (pre2)) vm_X12_worthOf ml_X12_284 k_0.1 (hc := rfl) rfl (h1_0 hG) hl.1 rfl rfl (Nat.le_of_ble_eq_true rfl) dX12_dueOf_2 rfl rfl ⟨Nat.le_of_ble_eq_true rfl, Nat.le_of_ble_eq_true rfl⟩ ⟨Nat.le_refl _, Nat.le_refl _⟩) hS (fun x_6 iv_2 rv_3 H locs hG fa_4 fb_5 hp_1 hU hS => ?_)
  have hF1 := hF1.tr (m := ([17, 20], [])) fa_4 (by decide)
  have hF2 := hF2.tr (m := ([17, 20], [])) fb_5 (by decide)
  have kf_7 := congrArg Int32.toInt (hF1 0 0 20 (by decide))
  have kf_8 := congrArg Int32.toInt (hF1 0 0 41 (by decide))
  refine lv_istore_n (lv' := [(3, .int x_6), (0, .ref (al.2 0 0)), (1, .int cl), (2, .int pp)]) hx hb dX12_dueOf_5 rfl hl (by decide) rfl (fun ls hl => ?_)
  refine lv_iconst (v := 0) hx hb dX12_dueOf_6 (by decide) ?_
  refine lv_istore (lv' := [(4, .int 0), (3, .int x_6), (0, .ref (al.2 0 0)), (1, .int cl), (2, .int pp)]) hx hb dX12_dueOf_7 hl (by decide) rfl (fun ls hl => ?_)
  refine lv_iconst (v := 0) hx hb dX12_dueOf_9 (by decide) ?_
  refine lv_istore (lv' := [(5, .int 0), (4, .int 0), (3, .int x_6), (0, .ref (al.2 0 0)), (1, .int cl), (2, .int pp)]) hx hb dX12_dueOf_10 hl (by decide) rfl (fun ls hl => ?_)
  have J_12 : ∀ (n_12 : Nat) (l3_9 : Int32) (l4_10 : Int32) (l5_11 : Int32) (H : Heap) (locs : List Loc) (ls : Array Slot), lv_has ls 6 [(0, .ref (al.2 0 0)), (1, .int cl), (2, .int pp), (3, .int l3_9), (4, .int l4_10), (5, .int l5_11)] → UW D cA sz al iv_2 rv_3 H → va_S (Aq sz) s.heap H locs → (0 ≤ l5_11.toInt ∧ l5_11.toInt ≤ 5) → l3_9 = (duN iv (cown iv cl.toNatClampNeg) (wrF iv cl.toNatClampNeg) l5_11.toNatClampNeg).1 → l4_10 = (duN iv (cown iv cl.toNatClampNeg) (wrF iv cl.toNatClampNeg) l5_11.toNatClampNeg).2 → l5_11.toInt ≤ pp.toInt + 1 → (5 - l5_11.toInt).toNat < n_12 → W p l e (rm 11) s m args below meth c H locs 0 0 Q (F0 m 12 ls []) := by
    intro n_12
    induction n_12 with
    | zero =>
      intro l3_9 l4_10 l5_11 H locs ls hl hU hS i12_0 i12_1 i12_2 i12_3 hm_12
      exact absurd hm_12 (Nat.not_lt_zero _)
    | succ n_12 ih_12 =>
      intro l3_9 l4_10 l5_11 H locs ls hl hU hS i12_0 i12_1 i12_2 i12_3 hm_12
      refine lv_iload hx hb dX12_dueOf_12 (lv_at hl 5 rfl) ?_
      refine lv_iload_n hx hb dX12_dueOf_14 rfl (lv_at hl 2 rfl) ?_
      refine b_icmp_gt (tgt := 52) hx hb dX12_dueOf_15 (by decide) (fun c_12 => ?_) (fun c_12 => ?_)
      ·
        refine lv_iload hx hb dX12_dueOf_52 (lv_at hl 4 rfl) ?_
        exact hret (⟨hG, hF1, hF2, by unfold duF; rw [i12_2, clamp_s (show (l5_11 : Int32).toInt = pp.toInt + 1 by omega) (by omega)]⟩) hU hS dX12_dueOf_54
      ·
        refine lv_iload_n hx hb dX12_dueOf_18 rfl (lv_at hl 3 rfl) ?_
        refine lv_aload_n hx hb dX12_dueOf_19 rfl (lv_at hl 0 rfl) ?_
        refine g_0_44 C hU hG (h1_0 hG) fl_X12_119 dX12_dueOf_20 ?_
        refine lv_bipush (v := 20) hx hb dX12_dueOf_23 (by decide) ?_
        refine lv_iload hx hb dX12_dueOf_25 (lv_at hl 5 rfl) ?_
        refine lv_imul hx hb dX12_dueOf_27 ?_
        refine lv_topi (fun x_13 e_14 => ?_)
        have te_14 : x_13.toInt = 20 * (l5_11 : Int32).toInt := by rw [e_14, fb_mulI (by rw [show (20 : Int32).toInt = 20 from by decide]; omega) (by rw [show (20 : Int32).toInt = 20 from by decide]; omega), show (20 : Int32).toInt = 20 from by decide]
        refine lv_aload_n hx hb dX12_dueOf_28 rfl (lv_at hl 0 rfl) ?_
        refine g_0_42 C hU hG (h1_0 hG) fl_X12_113 dX12_dueOf_29 ?_
        refine lv_iload_n hx hb dX12_dueOf_32 rfl (lv_at hl 1 rfl) ?_
        refine a_35 C hU hG (h1_35 hG) (x := cl) (by omega) (by omega) dX12_dueOf_33 (fun x_15 e_16 le_16 ue_16 => ?_)
        have te_16 := congrArg Int32.toInt e_16
        have ne_16 : x_15.toInt = (iv 35 0 (cl : Int32).toNatClampNeg).toInt := by rw [e_16, hF1.arr 35 0 (cl : Int32).toNatClampNeg (by decide)]
        have h33 : x_15 = iv 35 0 cl.toNatClampNeg := by rw [e_16]; exact hF1.arr 35 0 _ (by decide)
        have t33 := congrArg Int32.toInt h33
        refine lv_iadd hx hb dX12_dueOf_34 ?_
        refine lv_topi (fun x_17 e_18 => ?_)
        have te_18 : x_17.toInt = (x_13 : Int32).toInt + (x_15 : Int32).toInt := by rw [e_18]; exact fb_addI (by omega) (by omega)
        refine a_37 C hU hG (h1_37 hG) (x := x_17) (by omega) (by omega) dX12_dueOf_35 (fun x_19 e_20 => ?_)
        have te_20 := congrArg Int32.toInt e_20
        have ne_20 : x_19.toInt = (iv 37 0 (x_17 : Int32).toNatClampNeg).toInt := by rw [e_20, hF1.arr 37 0 (x_17 : Int32).toNatClampNeg (by decide)]
        have u35 : (x_17 : Int32).toNatClampNeg = 20 * (l5_11 : Int32).toNatClampNeg + cown iv cl.toNatClampNeg := du_ix (o := iv 35 0 cl.toNatClampNeg) (by omega) (by omega)
        have h35 : x_19 = iv 37 0 (20 * (l5_11 : Int32).toNatClampNeg + cown iv cl.toNatClampNeg) := by rw [e_20, u35]; exact hF1.arr 37 0 _ (by decide)
        refine q_pi (q_runS (As := [.int l3_9, .int x_19]) (rest := []) C hU (c_X12_lesser  l3_9 x_19 ) sm_X12_lesser ml_X12_203 hl.1 rfl rfl (Nat.le_of_ble_eq_true rfl) dX12_dueOf_36 rfl rfl ⟨Nat.le_of_ble_eq_true rfl, Nat.le_of_ble_eq_true rfl⟩ ⟨Nat.le_refl _, Nat.le_refl _⟩) hS (fun x_22 H locs hp_21 hU hS => ?_)
        have q_23 := hp_21.1
        have tq_23 := congrArg Int32.toInt q_23
        refine lv_istore (lv' := [(4, .int x_22), (0, .ref (al.2 0 0)), (1, .int cl), (2, .int pp), (3, .int l3_9), (5, .int l5_11)]) hx hb dX12_dueOf_39 hl (by decide) rfl (fun ls hl => ?_)
        refine lv_iload_n hx hb dX12_dueOf_41 rfl (lv_at hl 4 rfl) ?_
        refine lv_iload hx hb dX12_dueOf_42 (lv_at hl 0 rfl) ?_
        refine lv_isub hx hb dX12_dueOf_44 ?_
        refine lv_topi (fun x_24 e_25 => ?_)
        refine lv_istore_n (lv' := [(3, .int x_24), (4, .int x_22), (0, .ref (al.2 0 0)), (1, .int cl), (2, .int pp), (5, .int l5_11)]) hx hb dX12_dueOf_45 rfl hl (by decide) rfl (fun ls hl => ?_)
        obtain ⟨x_26, e_27⟩ : ∃ y : Int32, y = l5_11 + 1 := ⟨_, rfl⟩
        have te_27 : x_26.toInt = (l5_11 : Int32).toInt + (1 : Int32).toInt := by rw [e_27]; exact fb_addI (by omega) (by omega)
        refine lv_iinc (v := x_26) (lv' := [(5, .int x_26), (3, .int x_24), (4, .int x_22), (0, .ref (al.2 0 0)), (1, .int cl), (2, .int pp)]) hx hb dX12_dueOf_46 hl (k := 5) rfl (by rw [e_27]; rfl) (by decide) rfl (fun ls hl => ?_)
        refine lv_goto (tgt := 12) hx hb dX12_dueOf_49 (by decide) ?_
        exact ih_12 x_24 x_22 x_26 _ _ _ (lv_sub hl [3, 4, 5, 1, 2, 0] rfl) hU hS (by omega) (by first | exact du_up1 i12_1 q_23 h35 e_25 (by omega) (by omega) | exact du_0 hp_1) (by first | exact du_up2 i12_1 q_23 h35 (by omega) (by omega) | exact du_02) (by omega) (by omega)
  exact J_12 _ x_6 0 0 _ _ _ (lv_sub hl [3, 4, 5, 2, 1, 0] rfl) hU hS (by omega) (by first | exact du_up1 i12_1 True.intro h35 True.intro (by omega) (by omega) | exact du_0 hp_1) (by first | exact du_up2 i12_1 True.intro h35 (by omega) (by omega) | exact du_02) (by omega) (Nat.lt_succ_self _)
set_option maxHeartbeats 4000000 in
set_option maxRecDepth 100000 in
theorem c_X2_partOf_x {l : Launch} {D : va_G} {cA : FieldType → ClassId} {sz : Nat} {al : Al} {iv : Iv} {rv : Rv} (hG : GI al iv rv) (ci : Nat) (hci : ci < al.1 88) (pp : Int32) (wo : Int32) (pre0 : Cowe iv rv) (pre1 : Cclm iv rv) (pre2 : 0 ≤ pp.toInt ∧ pp.toInt ≤ 4) : Met l yX2_partOf (wd yX2_partOf cX2_partOf 6 (some .int)) (rm 1) (PcW D cA sz al iv rv [.ref (al.2 88 ci), .int pp, .int wo]) (QI D cA sz al (pI iv rv (fun r => r = (duN iv (cown iv ci) wo (pp.toNatClampNeg + 1)).2))) 0 0 (Aq sz) := by
  refine mk_i (by decide) (Nat.le_of_ble_eq_true rfl) rfl ?_
  intro p e s m args below meth c ls Q H locs C hU hS hl hret
  have hx := C.1.1
  have hb := C.1.2.1
  have hl : lv_has ls 6 [(0, .ref (al.2 88 ci)), (1, .int pp), (2, .int wo)] := hl
  have hG0 := hG
  have k0 : (0 : Int32).toInt = 0 := by decide
  have k1 : (1 : Int32).toInt = 1 := by decide
  have k5 : (5 : Int32).toInt = 5 := by decide
  refine lv_iload_n hx hb dX2_partOf_0 rfl (lv_at hl 2 rfl) ?_
  refine lv_istore_n (lv' := [(3, .int wo), (0, .ref (al.2 88 ci)), (1, .int pp), (2, .int wo)]) hx hb dX2_partOf_1 rfl hl (by decide) rfl (fun ls hl => ?_)
  refine lv_iconst (v := 0) hx hb dX2_partOf_2 (by decide) ?_
  refine lv_istore (lv' := [(4, .int 0), (3, .int wo), (0, .ref (al.2 88 ci)), (1, .int pp), (2, .int wo)]) hx hb dX2_partOf_3 hl (by decide) rfl (fun ls hl => ?_)
  refine lv_iconst (v := 0) hx hb dX2_partOf_5 (by decide) ?_
  refine lv_istore (lv' := [(5, .int 0), (4, .int 0), (3, .int wo), (0, .ref (al.2 88 ci)), (1, .int pp), (2, .int wo)]) hx hb dX2_partOf_6 hl (by decide) rfl (fun ls hl => ?_)
  have J_8 : ∀ (n_8 : Nat) (l3_1 : Int32) (l4_2 : Int32) (l5_3 : Int32) (H : Heap) (locs : List Loc) (ls : Array Slot), lv_has ls 6 [(0, .ref (al.2 88 ci)), (1, .int pp), (3, .int l3_1), (4, .int l4_2), (5, .int l5_3)] → UW D cA sz al iv rv H → va_S (Aq sz) s.heap H locs → (0 ≤ l5_3.toInt ∧ l5_3.toInt ≤ 5) → l3_1 = (duN iv (cown iv ci) wo l5_3.toNatClampNeg).1 → l4_2 = (duN iv (cown iv ci) wo l5_3.toNatClampNeg).2 → l5_3.toInt ≤ pp.toInt + 1 → (5 - l5_3.toInt).toNat < n_8 → W p l e (rm 1) s m args below meth c H locs 0 0 Q (F0 m 8 ls []) := by
    intro n_8
    induction n_8 with
    | zero =>
      intro l3_1 l4_2 l5_3 H locs ls hl hU hS i8_0 i8_1 i8_2 i8_3 hm_8
      exact absurd hm_8 (Nat.not_lt_zero _)
    | succ n_8 ih_8 =>
      intro l3_1 l4_2 l5_3 H locs ls hl hU hS i8_0 i8_1 i8_2 i8_3 hm_8
      refine lv_iload hx hb dX2_partOf_8 (lv_at hl 4 rfl) ?_
      refine lv_iconst (v := 5) hx hb dX2_partOf_10 (by decide) ?_
      refine b_icmp_ge (tgt := 47) hx hb dX2_partOf_11 (by decide) (fun c_4 => ?_) (fun c_4 => ?_)
      ·
        refine lv_iload hx hb dX2_partOf_47 (lv_at hl 3 rfl) ?_
        exact hret (⟨rfl, rfl, by rw [i8_2, clamp_s (show (l5_3 : Int32).toInt = pp.toInt + 1 by omega) (by omega)]⟩) hU hS dX2_partOf_49
      ·
        refine lv_iload hx hb dX2_partOf_14 (lv_at hl 4 rfl) ?_
        refine lv_iload_n hx hb dX2_partOf_16 rfl (lv_at hl 1 rfl) ?_
        refine b_icmp_gt (tgt := 47) hx hb dX2_partOf_17 (by decide) (fun c_5 => ?_) (fun c_5 => ?_)
        ·
          refine lv_iload hx hb dX2_partOf_47 (lv_at hl 3 rfl) ?_
          exact hret (⟨rfl, rfl, by rw [i8_2, clamp_s (show (l5_3 : Int32).toInt = pp.toInt + 1 by omega) (by omega)]⟩) hU hS dX2_partOf_49
        ·
          refine lv_aload_n hx hb dX2_partOf_20 rfl (lv_at hl 0 rfl) ?_
          refine g_88_0 C hU hG hci fl_X2_9 dX2_partOf_21 (fun j_6 ej_7 hb_8 => ?_)
          have hti := cm_t hG pre1 hci ej_7
          have hbt := cm_lt hG hti hb_8
          refine g_65_5 C hU hG hb_8 fl_X2_23 dX2_partOf_24 (fun hb_9 => ?_)
          refine lv_iload hx hb dX2_partOf_27 (lv_at hl 4 rfl) ?_
          refine a_67 C hU hG hb_9 (x := l5_3) (by omega) (by omega) dX2_partOf_29 (fun x_10 e_11 => ?_)
          have te_11 := congrArg Int32.toInt e_11
          have h29 : x_10 = iv 37 0 (20 * (l5_3 : Int32).toNatClampNeg + cown iv ci) := by rw [e_11, hti]; exact (pre0.1 _ _ (by rw [clamp_n]; omega) hbt).symm
          refine lv_iload_n hx hb dX2_partOf_30 rfl (lv_at hl 2 rfl) ?_
          refine q_min C hl.1 ml_X2_28 (Nat.le_of_ble_eq_true rfl) (Nat.le_of_ble_eq_true rfl) (Nat.le_refl _) (Nat.le_refl _) dX2_partOf_31 (fun x_12 q_13 tq_13 => ?_)
          refine lv_istore (lv' := [(4, .int x_12), (0, .ref (al.2 88 ci)), (1, .int pp), (3, .int l3_1), (5, .int l5_3)]) hx hb dX2_partOf_34 hl (by decide) rfl (fun ls hl => ?_)
          refine lv_iload_n hx hb dX2_partOf_36 rfl (lv_at hl 3 rfl) ?_
          refine lv_iload hx hb dX2_partOf_37 (lv_at hl 0 rfl) ?_
          refine lv_isub hx hb dX2_partOf_39 ?_
          refine lv_topi (fun x_14 e_15 => ?_)
          refine lv_istore_n (lv' := [(3, .int x_14), (4, .int x_12), (0, .ref (al.2 88 ci)), (1, .int pp), (5, .int l5_3)]) hx hb dX2_partOf_40 rfl hl (by decide) rfl (fun ls hl => ?_)
          obtain ⟨x_16, e_17⟩ : ∃ y : Int32, y = l5_3 + 1 := ⟨_, rfl⟩
          have te_17 : x_16.toInt = (l5_3 : Int32).toInt + (1 : Int32).toInt := by rw [e_17]; exact fb_addI (by omega) (by omega)
          refine lv_iinc (v := x_16) (lv' := [(5, .int x_16), (3, .int x_14), (4, .int x_12), (0, .ref (al.2 88 ci)), (1, .int pp)]) hx hb dX2_partOf_41 hl (k := 4) rfl (by rw [e_17]; rfl) (by decide) rfl (fun ls hl => ?_)
          refine lv_goto (tgt := 8) hx hb dX2_partOf_44 (by decide) ?_
          exact ih_8 x_14 x_12 x_16 _ _ _ (lv_sub hl [3, 4, 1, 2, 0] rfl) hU hS (by omega) (by first | exact du_up1 i8_1 (min_ls tq_13) h29 e_15 (by omega) (by omega) | exact du_0 rfl) (by first | exact du_up2 i8_1 (min_ls tq_13) h29 (by omega) (by omega) | exact du_02) (by omega) (by omega)
  exact J_8 _ wo 0 0 _ _ _ (lv_sub hl [3, 4, 2, 1, 0] rfl) hU hS (by omega) (by first | exact du_up1 i8_1 (min_ls tTrue.intro) h29 True.intro (by omega) (by omega) | exact du_0 rfl) (by first | exact du_up2 i8_1 (min_ls tTrue.intro) h29 (by omega) (by omega) | exact du_02) (by omega) (Nat.lt_succ_self _)
