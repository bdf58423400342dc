set_option maxHeartbeats 4000000 in
set_option maxRecDepth 100000 in
theorem c_X12_sumOf_x {l : Launch} {D : va_G} {cA : FieldType → ClassId} {sz : Nat} {al : Al} {iv : Iv} {rv : Rv} (hG : GI al iv rv) (tt : Int32) (d : Int32) (pre0 : 0 ≤ tt.toInt ∧ tt.toInt < (iv 0 0 20).toInt) (pre1 : BT iv rv) : Met l yX12_sumOf (wd yX12_sumOf cX12_sumOf 8 (some .int)) (rm 9) (PcW D cA sz al iv rv [.ref (al.2 0 0), .int tt, .int d]) (QI D cA sz al (fI al ([17, 20], []) iv rv (fun r iv' rv' => r = smF iv tt.toNatClampNeg d))) 0 0 (Aq sz) := by
  refine mk_i (by decide) (Nat.le_of_ble_eq_true rfl) rfl ?_
  intro p e s m args below meth c ls Q H locs C hU hS hl hret
  have hx := C.1.1
  have hb := C.1.2.1
  have hl : lv_has ls 8 [(0, .ref (al.2 0 0)), (1, .int tt), (2, .int d)] := hl
  have hG0 := hG
  have h6 := le6 hG
  have h20 := le20 hG
  have h41 := le41 hG
  have h20 := le20 hG
  have l24 := le24 hG
  have hF1 : FR ([17, 20], []) iv iv := FR.rf
  have hF2 : FR ([17, 20], []) rv rv := FR.rf
  have k0 : (0 : Int32).toInt = 0 := by decide
  have k1 : (1 : Int32).toInt = 1 := by decide
  refine lv_aload_n hx hb dX12_sumOf_0 rfl (lv_at hl 0 rfl) ?_
  refine lv_iload_n hx hb dX12_sumOf_1 rfl (lv_at hl 1 rfl) ?_
  refine lv_iload_n hx hb dX12_sumOf_2 rfl (lv_at hl 2 rfl) ?_
  refine q_pi (q_runV (t := 0) (i := 0) (As := [.int tt, .int d]) (rest := []) C hU (c_X12_lawOf_x hG tt d (by omega)) vm_X12_lawOf ml_X12_260 k_0.1 (hc := rfl) rfl (h1_0 hG) hl.1 rfl rfl (Nat.le_of_ble_eq_true rfl) dX12_sumOf_3 rfl rfl ⟨Nat.le_of_ble_eq_true rfl, Nat.le_of_ble_eq_true rfl⟩ ⟨Nat.le_refl _, Nat.le_refl _⟩) hS (fun x_2 H locs hp_1 hU hS => ?_)
  refine lv_istore_n (lv' := [(3, .int x_2), (0, .ref (al.2 0 0)), (1, .int tt), (2, .int d)]) hx hb dX12_sumOf_6 rfl hl (by decide) rfl (fun ls hl => ?_)
  have hlw := hp_1.2.1
  have tlw := congrArg Int32.toInt hlw
  refine lv_iload_n hx hb dX12_sumOf_7 rfl (lv_at hl 0 rfl) ?_
  refine b_if_lt (tgt := 20) hx hb dX12_sumOf_8 (by decide) (fun c_3 => ?_) (fun c_3 => ?_)
  ·
    refine lv_iconst (v := 0) hx hb dX12_sumOf_20 (by decide) ?_
    exact hret (⟨hG, hF1, hF2, by unfold smF; rw [if_pos (by omega)]⟩) hU hS dX12_sumOf_21
  ·
    refine lv_aload_n hx hb dX12_sumOf_11 rfl (lv_at hl 1 rfl) ?_
    refine lv_iload_n hx hb dX12_sumOf_12 rfl (lv_at hl 2 rfl) ?_
    refine lv_iload_n hx hb dX12_sumOf_13 rfl (lv_at hl 3 rfl) ?_
    refine q_fi (q_runV (t := 0) (i := 0) (As := [.int tt, .int d]) (rest := []) C hU (c_X12_isExcused_x hG tt d (by omega) (pre1)) vm_X12_isExcused ml_X12_263 k_0.1 (hc := rfl) rfl (h1_0 hG) hl.1 rfl rfl (Nat.le_of_ble_eq_true rfl) dX12_sumOf_14 rfl rfl ⟨Nat.le_of_ble_eq_true rfl, Nat.le_of_ble_eq_true rfl⟩ ⟨Nat.le_refl _, Nat.le_refl _⟩) hS (fun x_9 iv_5 rv_6 H locs hG fa_7 fb_8 hp_4 hU hS => ?_)
    have hF1 := hF1.tr (m := ([17, 20], [])) fa_7 (by decide)
    have hF2 := hF2.tr (m := ([17, 20], [])) fb_8 (by decide)
    have kf_10 := congrArg Int32.toInt (hF1 0 0 20 (by decide))
    have hex := hp_4.2
    have tex := congrArg Int32.toInt hex
    have hFb := hF1
    refine b_if_eq (tgt := 22) hx hb dX12_sumOf_17 (by decide) (fun c_11 => ?_) (fun c_11 => ?_)
    ·
      refine lv_aload_n hx hb dX12_sumOf_22 rfl (lv_at hl 1 rfl) ?_
      refine lv_iload_n hx hb dX12_sumOf_23 rfl (lv_at hl 2 rfl) ?_
      refine q_fi (q_runV (t := 0) (i := 0) (As := [.int tt]) (rest := []) C hU (c_X12_hoursOf_x hG tt (by omega)) vm_X12_hoursOf ml_X12_238 k_0.1 (hc := rfl) rfl (h1_0 hG) hl.1 rfl rfl (Nat.le_of_ble_eq_true rfl) dX12_sumOf_24 rfl rfl ⟨Nat.le_of_ble_eq_true rfl, Nat.le_of_ble_eq_true rfl⟩ ⟨Nat.le_refl _, Nat.le_refl _⟩) hS (fun x_17 iv_13 rv_14 H locs hG fa_15 fb_16 hp_12 hU hS => ?_)
      have hF1 := hF1.tr (m := ([17, 20], [])) fa_15 (by decide)
      have hF2 := hF2.tr (m := ([17, 20], [])) fb_16 (by decide)
      have kf_18 := congrArg Int32.toInt (hF1 0 0 20 (by decide))
      have hho := hp_12.trans (ho_m (ma_fr hFb) _)
      refine lv_istore (lv' := [(4, .int x_17), (3, .int x_2), (0, .ref (al.2 0 0)), (1, .int tt), (2, .int d)]) hx hb dX12_sumOf_27 hl (by decide) rfl (fun ls hl => ?_)
      refine lv_iconst (v := 0) hx hb dX12_sumOf_29 (by decide) ?_
      refine lv_istore (lv' := [(5, .int 0), (4, .int x_17), (3, .int x_2), (0, .ref (al.2 0 0)), (1, .int tt), (2, .int d)]) hx hb dX12_sumOf_30 hl (by decide) rfl (fun ls hl => ?_)
      refine lv_iconst (v := 0) hx hb dX12_sumOf_32 (by decide) ?_
      refine lv_istore (lv' := [(6, .int 0), (5, .int 0), (4, .int x_17), (3, .int x_2), (0, .ref (al.2 0 0)), (1, .int tt), (2, .int d)]) hx hb dX12_sumOf_33 hl (by decide) rfl (fun ls hl => ?_)
      have J_35 : ∀ (n_35 : Nat) (l5_19 : Int32) (l6_20 : Int32) (H : Heap) (locs : List Loc) (ls : Array Slot), lv_has ls 8 [(0, .ref (al.2 0 0)), (1, .int tt), (2, .int d), (3, .int x_2), (4, .int x_17), (5, .int l5_19), (6, .int l6_20)] → UW D cA sz al iv_13 rv_14 H → va_S (Aq sz) s.heap H locs → (0 ≤ l6_20.toInt ∧ l6_20.toInt ≤ 30) → l5_19 = gsN iv x_2.toInt d.toInt x_17.toInt (miF iv tt.toNatClampNeg).toInt l6_20.toNatClampNeg → l6_20.toInt ≤ (iv 0 0 24).toInt → (30 - l6_20.toInt).toNat < n_35 → W p l e (rm 9) s m args below meth c H locs 0 0 Q (F0 m 35 ls []) := by
        intro n_35
        induction n_35 with
        | zero =>
          intro l5_19 l6_20 H locs ls hl hU hS i35_0 i35_1 i35_2 hm_35
          exact absurd hm_35 (Nat.not_lt_zero _)
        | succ n_35 ih_35 =>
          intro l5_19 l6_20 H locs ls hl hU hS i35_0 i35_1 i35_2 hm_35
          refine lv_iload hx hb dX12_sumOf_35 (lv_at hl 6 rfl) ?_
          refine lv_aload_n hx hb dX12_sumOf_37 rfl (lv_at hl 0 rfl) ?_
          refine g_0_24 C hU hG (h1_0 hG) fl_X12_247 dX12_sumOf_38 (fun x_21 e_22 le_22 ue_22 => ?_)
          have te_22 := congrArg Int32.toInt e_22
          have ne_22 : x_21.toInt = (iv 0 0 24).toInt := by rw [e_22, hF1 0 0 24 (by decide)]
          refine b_icmp_ge (tgt := 137) hx hb dX12_sumOf_41 (by decide) (fun c_23 => ?_) (fun c_23 => ?_)
          ·
            refine lv_iload hx hb dX12_sumOf_137 (lv_at hl 5 rfl) ?_
            exact hret (⟨hG, hF1, hF2, by unfold smF; rw [if_neg (by omega), i35_1, clamp_eq (show (l6_20 : Int32).toInt = (iv 0 0 24).toInt by omega), hlw, hho]⟩) hU hS dX12_sumOf_139
          ·
            refine lv_aload_n hx hb dX12_sumOf_44 rfl (lv_at hl 0 rfl) ?_
            refine g_0_25 C hU hG (h1_0 hG) fl_X12_71 dX12_sumOf_45 ?_
            refine lv_iload hx hb dX12_sumOf_48 (lv_at hl 6 rfl) ?_
            refine a_21 C hU hG (h1_21 hG) (x := l6_20) (by omega) (by omega) dX12_sumOf_50 (fun x_24 e_25 le_25 ue_25 => ?_)
            have te_25 := congrArg Int32.toInt e_25
            have ne_25 : x_24.toInt = (iv 21 0 (l6_20 : Int32).toNatClampNeg).toInt := by rw [e_25, hF1.arr 21 0 (l6_20 : Int32).toNatClampNeg (by decide)]
            refine lv_iload_n hx hb dX12_sumOf_51 rfl (lv_at hl 3 rfl) ?_
            have J_98 : ∀ (v_26 : Int32) (H : Heap) (locs : List Loc) (ls : Array Slot), lv_has ls 8 [(0, .ref (al.2 0 0)), (1, .int tt), (2, .int d), (3, .int x_2), (4, .int x_17), (5, .int l5_19), (6, .int l6_20)] → UW D cA sz al iv_13 rv_14 H → va_S (Aq sz) s.heap H locs → (0 ≤ v_26.toInt ∧ v_26.toInt ≤ 1) → ((v_26.toInt = 1 ∧ ((iv 21 0 l6_20.toNatClampNeg).toInt = x_2.toInt ∧ (iv 22 0 l6_20.toNatClampNeg).toInt ≤ d.toInt ∧ (iv 23 0 l6_20.toNatClampNeg).toInt ≤ x_17.toInt ∧ (iv 24 0 l6_20.toNatClampNeg).toInt ≤ (miF iv tt.toNatClampNeg).toInt)) ∨ (v_26.toInt = 0 ∧ ¬ ((iv 21 0 l6_20.toNatClampNeg).toInt = x_2.toInt ∧ (iv 22 0 l6_20.toNatClampNeg).toInt ≤ d.toInt ∧ (iv 23 0 l6_20.toNatClampNeg).toInt ≤ x_17.toInt ∧ (iv 24 0 l6_20.toNatClampNeg).toInt ≤ (miF iv tt.toNatClampNeg).toInt))) → W p l e (rm 9) s m args below meth c H locs 0 0 Q (F0 m 98 ls [.int v_26]) := by
              intro v_26 H locs ls hl hU hS i98_0 i98_1
              refine lv_istore (lv' := [(7, .int v_26), (0, .ref (al.2 0 0)), (1, .int tt), (2, .int d), (3, .int x_2), (4, .int x_17), (5, .int l5_19), (6, .int l6_20)]) hx hb dX12_sumOf_98 hl (by decide) rfl (fun ls hl => ?_)
              refine lv_iload hx hb dX12_sumOf_100 (lv_at hl 0 rfl) ?_
              have J_129 : ∀ (v_27 : Int32) (ls : Array Slot), lv_has ls 8 [(0, .ref (al.2 0 0)), (1, .int tt), (2, .int d), (3, .int x_2), (4, .int x_17), (6, .int l6_20)] → v_27 = gsN iv x_2.toInt d.toInt x_17.toInt (miF iv tt.toNatClampNeg).toInt (l6_20.toNatClampNeg + 1) → W p l e (rm 9) s m args below meth c H locs 0 0 Q (F0 m 129 ls [.int v_27]) := by
                intro v_27 ls hl i129_0
                refine lv_istore (lv' := [(5, .int v_27), (0, .ref (al.2 0 0)), (1, .int tt), (2, .int d), (3, .int x_2), (4, .int x_17), (6, .int l6_20)]) hx hb dX12_sumOf_129 hl (by decide) rfl (fun ls hl => ?_)
                obtain ⟨x_28, e_29⟩ : ∃ y : Int32, y = l6_20 + 1 := ⟨_, rfl⟩
                have te_29 : x_28.toInt = (l6_20 : Int32).toInt + (1 : Int32).toInt := by rw [e_29]; exact fb_addI (by omega) (by omega)
                refine lv_iinc (v := x_28) (lv' := [(6, .int x_28), (5, .int v_27), (0, .ref (al.2 0 0)), (1, .int tt), (2, .int d), (3, .int x_2), (4, .int x_17)]) hx hb dX12_sumOf_131 hl (k := 6) rfl (by rw [e_29]; rfl) (by decide) rfl (fun ls hl => ?_)
                refine lv_goto (tgt := 35) hx hb dX12_sumOf_134 (by decide) ?_
                exact ih_35 v_27 x_28 _ _ _ (lv_sub hl [2, 3, 4, 5, 6, 1, 0] rfl) hU hS (by omega) (by first | exact gs_up (by omega) (by omega) i129_0 | exact gs_0) (by omega) (by omega)
              have J_127 : ∀ (ls : Array Slot), lv_has ls 8 [(0, .ref (al.2 0 0)), (1, .int tt), (2, .int d), (3, .int x_2), (4, .int x_17), (5, .int l5_19), (6, .int l6_20)] → (¬ (((iv 21 0 l6_20.toNatClampNeg).toInt = x_2.toInt ∧ (iv 22 0 l6_20.toNatClampNeg).toInt ≤ d.toInt ∧ (iv 23 0 l6_20.toNatClampNeg).toInt ≤ x_17.toInt ∧ (iv 24 0 l6_20.toNatClampNeg).toInt ≤ (miF iv tt.toNatClampNeg).toInt) ∧ (l5_19.toInt < (iv 25 0 l6_20.toNatClampNeg).toInt))) → W p l e (rm 9) s m args below meth c H locs 0 0 Q (F0 m 127 ls []) := by
                intro ls hl i127_0
                refine lv_iload hx hb dX12_sumOf_127 (lv_at hl 5 rfl) ?_
                exact J_129 l5_19 _ (lv_sub hl [0, 1, 2, 3, 4, 6] rfl) (by first | exact gs_y i35_1 i98_1 (by omega) (by omega) (True.intro.trans ((ma_fr hF1).1 25 _ (by decide) (by decide))) | exact gs_n i35_1 i127_0)
              refine b_if_eq (tgt := 127) hx hb dX12_sumOf_102 (by decide) (fun c_30 => ?_) (fun c_30 => ?_)
              ·
                exact J_127 _ (lv_sub hl [1, 2, 3, 4, 5, 6, 7] rfl) (by omega)
              ·
                refine lv_aload_n hx hb dX12_sumOf_105 rfl (lv_at hl 1 rfl) ?_
                refine g_0_29 C hU hG (h1_0 hG) fl_X12_83 dX12_sumOf_106 ?_
                refine lv_iload hx hb dX12_sumOf_109 (lv_at hl 7 rfl) ?_
                refine a_25 C hU hG (h1_25 hG) (x := l6_20) (by omega) (by omega) dX12_sumOf_111 (fun x_31 e_32 le_32 ue_32 => ?_)
                have te_32 := congrArg Int32.toInt e_32
                have ne_32 : x_31.toInt = (iv 25 0 (l6_20 : Int32).toNatClampNeg).toInt := by rw [e_32, hF1.arr 25 0 (l6_20 : Int32).toNatClampNeg (by decide)]
                refine lv_iload hx hb dX12_sumOf_112 (lv_at hl 6 rfl) ?_
                refine b_icmp_le (tgt := 127) hx hb dX12_sumOf_114 (by decide) (fun c_33 => ?_) (fun c_33 => ?_)
                ·
                  exact J_127 _ (lv_sub hl [1, 2, 3, 4, 5, 6, 7] rfl) (by omega)
                ·
                  refine lv_aload_n hx hb dX12_sumOf_117 rfl (lv_at hl 1 rfl) ?_
                  refine g_0_29 C hU hG (h1_0 hG) fl_X12_83 dX12_sumOf_118 ?_
                  refine lv_iload hx hb dX12_sumOf_121 (lv_at hl 7 rfl) ?_
                  refine a_25 C hU hG (h1_25 hG) (x := l6_20) (by omega) (by omega) dX12_sumOf_123 (fun x_34 e_35 le_35 ue_35 => ?_)
                  have te_35 := congrArg Int32.toInt e_35
                  have ne_35 : x_34.toInt = (iv 25 0 (l6_20 : Int32).toNatClampNeg).toInt := by rw [e_35, hF1.arr 25 0 (l6_20 : Int32).toNatClampNeg (by decide)]
                  refine lv_goto (tgt := 129) hx hb dX12_sumOf_124 (by decide) ?_
                  exact J_129 x_34 _ (lv_sub hl [1, 2, 3, 4, 5, 7] rfl) (by first | exact gs_y i35_1 i98_1 (by omega) (by omega) (e_35.trans ((ma_fr hF1).1 25 _ (by decide) (by decide))) | exact gs_n i35_1 i127_0)
            have J_97 : ∀ (H : Heap) (locs : List Loc) (ls : Array Slot), lv_has ls 8 [(0, .ref (al.2 0 0)), (1, .int tt), (2, .int d), (3, .int x_2), (4, .int x_17), (5, .int l5_19), (6, .int l6_20)] → UW D cA sz al iv_13 rv_14 H → va_S (Aq sz) s.heap H locs → (¬ ((iv 21 0 l6_20.toNatClampNeg).toInt = x_2.toInt ∧ (iv 22 0 l6_20.toNatClampNeg).toInt ≤ d.toInt ∧ (iv 23 0 l6_20.toNatClampNeg).toInt ≤ x_17.toInt ∧ (iv 24 0 l6_20.toNatClampNeg).toInt ≤ (miF iv tt.toNatClampNeg).toInt)) → W p l e (rm 9) s m args below meth c H locs 0 0 Q (F0 m 97 ls []) := by
              intro H locs ls hl hU hS i97_0
              refine lv_iconst (v := 0) hx hb dX12_sumOf_97 (by decide) ?_
              exact J_98 0 _ _ _ (lv_sub hl [0, 1, 2, 3, 4, 5, 6] rfl) hU hS (by omega) (by omega)
            refine b_icmp_ne (tgt := 97) hx hb dX12_sumOf_52 (by decide) (fun c_36 => ?_) (fun c_36 => ?_)
            ·
              exact J_97 _ _ _ (lv_sub hl [0, 1, 2, 3, 4, 5, 6] rfl) hU hS (by omega)
            ·
              refine lv_aload_n hx hb dX12_sumOf_55 rfl (lv_at hl 0 rfl) ?_
              refine g_0_26 C hU hG (h1_0 hG) fl_X12_74 dX12_sumOf_56 ?_
              refine lv_iload hx hb dX12_sumOf_59 (lv_at hl 6 rfl) ?_
              refine a_22 C hU hG (h1_22 hG) (x := l6_20) (by omega) (by omega) dX12_sumOf_61 (fun x_37 e_38 le_38 ue_38 => ?_)
              have te_38 := congrArg Int32.toInt e_38
              have ne_38 : x_37.toInt = (iv 22 0 (l6_20 : Int32).toNatClampNeg).toInt := by rw [e_38, hF1.arr 22 0 (l6_20 : Int32).toNatClampNeg (by decide)]
              refine lv_iload_n hx hb dX12_sumOf_62 rfl (lv_at hl 2 rfl) ?_
              refine b_icmp_gt (tgt := 97) hx hb dX12_sumOf_63 (by decide) (fun c_39 => ?_) (fun c_39 => ?_)
              ·
                exact J_97 _ _ _ (lv_sub hl [0, 1, 2, 3, 4, 5, 6] rfl) hU hS (by omega)
              ·
                refine lv_iload hx hb dX12_sumOf_66 (lv_at hl 4 rfl) ?_
                refine lv_aload_n hx hb dX12_sumOf_68 rfl (lv_at hl 0 rfl) ?_
                refine g_0_27 C hU hG (h1_0 hG) fl_X12_77 dX12_sumOf_69 ?_
                refine lv_iload hx hb dX12_sumOf_72 (lv_at hl 6 rfl) ?_
                refine a_23 C hU hG (h1_23 hG) (x := l6_20) (by omega) (by omega) dX12_sumOf_74 (fun x_40 e_41 le_41 ue_41 => ?_)
                have te_41 := congrArg Int32.toInt e_41
                have ne_41 : x_40.toInt = (iv 23 0 (l6_20 : Int32).toNatClampNeg).toInt := by rw [e_41, hF1.arr 23 0 (l6_20 : Int32).toNatClampNeg (by decide)]
                refine b_icmp_lt (tgt := 97) hx hb dX12_sumOf_75 (by decide) (fun c_42 => ?_) (fun c_42 => ?_)
                ·
                  exact J_97 _ _ _ (lv_sub hl [0, 1, 2, 3, 4, 5, 6] rfl) hU hS (by omega)
                ·
                  refine lv_aload_n hx hb dX12_sumOf_78 rfl (lv_at hl 0 rfl) ?_
                  refine lv_iload_n hx hb dX12_sumOf_79 rfl (lv_at hl 1 rfl) ?_
                  refine q_pi (q_runV (t := 0) (i := 0) (As := [.int tt]) (rest := []) C hU (c_X12_milesOf_x hG tt (by omega)) vm_X12_milesOf ml_X12_266 k_0.1 (hc := rfl) rfl (h1_0 hG) hl.1 rfl rfl (Nat.le_of_ble_eq_true rfl) dX12_sumOf_80 rfl rfl ⟨Nat.le_of_ble_eq_true rfl, Nat.le_of_ble_eq_true rfl⟩ ⟨Nat.le_refl _, Nat.le_refl _⟩) hS (fun x_44 H locs hp_43 hU hS => ?_)
                  have t80 := congrArg Int32.toInt (hp_43.trans (mi_m (ma_fr hF1) _))
                  refine lv_aload_n hx hb dX12_sumOf_83 rfl (lv_at hl 0 rfl) ?_
                  refine g_0_28 C hU hG (h1_0 hG) fl_X12_80 dX12_sumOf_84 ?_
                  refine lv_iload hx hb dX12_sumOf_87 (lv_at hl 6 rfl) ?_
                  refine a_24 C hU hG (h1_24 hG) (x := l6_20) (by omega) (by omega) dX12_sumOf_89 (fun x_45 e_46 le_46 ue_46 => ?_)
                  have te_46 := congrArg Int32.toInt e_46
                  have ne_46 : x_45.toInt = (iv 24 0 (l6_20 : Int32).toNatClampNeg).toInt := by rw [e_46, hF1.arr 24 0 (l6_20 : Int32).toNatClampNeg (by decide)]
                  refine b_icmp_lt (tgt := 97) hx hb dX12_sumOf_90 (by decide) (fun c_47 => ?_) (fun c_47 => ?_)
                  ·
                    exact J_97 _ _ _ (lv_sub hl [0, 1, 2, 3, 4, 5, 6] rfl) hU hS (by omega)
                  ·
                    refine lv_iconst (v := 1) hx hb dX12_sumOf_93 (by decide) ?_
                    refine lv_goto (tgt := 98) hx hb dX12_sumOf_94 (by decide) ?_
                    exact J_98 1 _ _ _ (lv_sub hl [0, 1, 2, 3, 4, 5, 6] rfl) hU hS (by omega) (by omega)
      exact J_35 _ 0 0 _ _ _ (lv_sub hl [4, 5, 6, 3, 2, 1, 0] rfl) hU hS (by omega) (by first | exact gs_up (by omega) (by omega) i129_0 | exact gs_0) (by omega) (Nat.lt_succ_self _)
    ·
      refine lv_iconst (v := 0) hx hb dX12_sumOf_20 (by decide) ?_
      exact hret (⟨hG, hF1, hF2, by unfold smF; rw [if_pos (by omega)]⟩) hU hS dX12_sumOf_21
set_option maxHeartbeats 4000000 in
set_option maxRecDepth 100000 in
theorem c_X4_isInForce_x {l : Launch} {D : va_G} {cA : FieldType → ClassId} {sz : Nat} {al : Al} {iv : Iv} {rv : Rv} (hG : GI al iv rv) (row : Int32) (ld : Int32) (d : Int32) (pre0 : 0 ≤ row.toInt ∧ row.toInt < 30) : Met l yX4_isInForce (wd yX4_isInForce cX4_isInForce 4 (some .boolean)) (rm 0) (PcW D cA sz al iv rv [.ref (al.2 68 0), .int row, .int ld, .int d]) (QI D cA sz al (pI iv rv (fun r => (0 ≤ r.toInt ∧ r.toInt ≤ 1) ∧ (((iv 69 0 row.toNatClampNeg).toInt = ld.toInt ∧ (iv 70 0 row.toNatClampNeg).toInt ≤ d.toInt ∧ r.toInt = 1) ∨ ((¬ ((iv 69 0 row.toNatClampNeg).toInt = ld.toInt ∧ (iv 70 0 row.toNatClampNeg).toInt ≤ d.toInt)) ∧ r.toInt = 0))))) 0 0 (Aq sz) := by
  refine mk_z (by decide) (Nat.le_of_ble_eq_true rfl) rfl ?_
  intro p e s m args below meth c ls Q H locs C hU hS hl hret
  have hx := C.1.1
  have hb := C.1.2.1
  have hl : lv_has ls 4 [(0, .ref (al.2 68 0)), (1, .int row), (2, .int ld), (3, .int d)] := hl
  have hG0 := hG
  have k0 : (0 : Int32).toInt = 0 := by decide
  have k1 : (1 : Int32).toInt = 1 := by decide
  refine lv_aload_n hx hb dX4_isInForce_0 rfl (lv_at hl 0 rfl) ?_
  refine g_68_0 C hU hG (h1_68 hG) fl_X4_11 dX4_isInForce_1 ?_
  refine lv_iload_n hx hb dX4_isInForce_4 rfl (lv_at hl 1 rfl) ?_
  refine a_69 C hU hG (h1_69 hG) (x := row) (by omega) (by omega) dX4_isInForce_5 (fun x_1 e_2 le_2 ue_2 => ?_)
  have te_2 := congrArg Int32.toInt e_2
  refine lv_iload_n hx hb dX4_isInForce_6 rfl (lv_at hl 2 rfl) ?_
  refine b_icmp_ne (tgt := 24) hx hb dX4_isInForce_7 (by decide) (fun c_3 => ?_) (fun c_3 => ?_)
  ·
    refine lv_iconst (v := 0) hx hb dX4_isInForce_24 (by decide) ?_
    exact hret (by omega) (by omega) (⟨rfl, rfl, ⟨⟨by omega, by omega⟩, by omega⟩⟩) hU hS dX4_isInForce_25
  ·
    refine lv_aload_n hx hb dX4_isInForce_10 rfl (lv_at hl 0 rfl) ?_
    refine g_68_1 C hU hG (h1_68 hG) fl_X4_15 dX4_isInForce_11 ?_
    refine lv_iload_n hx hb dX4_isInForce_14 rfl (lv_at hl 1 rfl) ?_
    refine a_70 C hU hG (h1_70 hG) (x := row) (by omega) (by omega) dX4_isInForce_15 (fun x_4 e_5 le_5 ue_5 => ?_)
    have te_5 := congrArg Int32.toInt e_5
    refine lv_iload_n hx hb dX4_isInForce_16 rfl (lv_at hl 3 rfl) ?_
    refine b_icmp_gt (tgt := 24) hx hb dX4_isInForce_17 (by decide) (fun c_6 => ?_) (fun c_6 => ?_)
    ·
      refine lv_iconst (v := 0) hx hb dX4_isInForce_24 (by decide) ?_
      exact hret (by omega) (by omega) (⟨rfl, rfl, ⟨⟨by omega, by omega⟩, by omega⟩⟩) hU hS dX4_isInForce_25
    ·
      refine lv_iconst (v := 1) hx hb dX4_isInForce_20 (by decide) ?_
      refine lv_goto (tgt := 25) hx hb dX4_isInForce_21 (by decide) ?_
      exact hret (by omega) (by omega) (⟨rfl, rfl, ⟨⟨by omega, by omega⟩, by omega⟩⟩) hU hS dX4_isInForce_25
set_option maxHeartbeats 4000000 in
set_option maxRecDepth 100000 in
theorem c_X4_hasRows_x {l : Launch} {D : va_G} {cA : FieldType → ClassId} {sz : Nat} {al : Al} {iv : Iv} {rv : Rv} (hG : GI al iv rv) (ld : Int32) (d : Int32) (pre0 : Claw iv rv) : Met l yX4_hasRows (wd yX4_hasRows cX4_hasRows 4 (some .boolean)) (rm 1) (PcW D cA sz al iv rv [.ref (al.2 68 0), .int ld, .int d]) (QI D cA sz al (pI iv rv (fun r => (0 ≤ r.toInt ∧ r.toInt ≤ 1) ∧ (r = hlF iv ld d)))) 0 0 (Aq sz) := by
  refine mk_z (by decide) (Nat.le_of_ble_eq_true rfl) rfl ?_
  intro p e s m args below meth c ls Q H locs C hU hS hl hret
  have hx := C.1.1
  have hb := C.1.2.1
  have hl : lv_has ls 4 [(0, .ref (al.2 68 0)), (1, .int ld), (2, .int d)] := hl
  have hG0 := hG
  have hcn := congrArg Int32.toInt pre0.1
  have l24 := le24 hG
  have k0 : (0 : Int32).toInt = 0 := by decide
  have k1 : (1 : Int32).toInt = 1 := by decide
  refine lv_iconst (v := 0) hx hb dX4_hasRows_0 (by decide) ?_
  refine lv_istore_n (lv' := [(3, .int 0), (0, .ref (al.2 68 0)), (1, .int ld), (2, .int d)]) hx hb dX4_hasRows_1 rfl hl (by decide) rfl (fun ls hl => ?_)
  have J_2 : ∀ (n_2 : Nat) (l3_1 : Int32) (H : Heap) (locs : List Loc) (ls : Array Slot), lv_has ls 4 [(0, .ref (al.2 68 0)), (1, .int ld), (2, .int d), (3, .int l3_1)] → UW D cA sz al iv rv H → va_S (Aq sz) s.heap H locs → (0 ≤ l3_1.toInt ∧ l3_1.toInt ≤ 30) → (hlN iv ld.toInt d.toInt l3_1.toNatClampNeg).toInt = 0 → l3_1.toInt ≤ (iv 68 0 5).toInt → (30 - l3_1.toInt).toNat < n_2 → W p l e (rm 1) s m args below meth c H locs 0 0 Q (F0 m 2 ls []) := by
    intro n_2
    induction n_2 with
    | zero =>
      intro l3_1 H locs ls hl hU hS i2_0 i2_1 i2_2 hm_2
      exact absurd hm_2 (Nat.not_lt_zero _)
    | succ n_2 ih_2 =>
      intro l3_1 H locs ls hl hU hS i2_0 i2_1 i2_2 hm_2
      refine lv_iload_n hx hb dX4_hasRows_2 rfl (lv_at hl 3 rfl) ?_
      refine lv_aload_n hx hb dX4_hasRows_3 rfl (lv_at hl 0 rfl) ?_
      refine g_68_5 C hU hG (h1_68 hG) fl_X4_43 dX4_hasRows_4 (fun x_2 e_3 le_3 ue_3 => ?_)
      have te_3 := congrArg Int32.toInt e_3
      refine b_icmp_ge (tgt := 28) hx hb dX4_hasRows_7 (by decide) (fun c_4 => ?_) (fun c_4 => ?_)
      ·
        refine lv_iconst (v := 0) hx hb dX4_hasRows_28 (by decide) ?_
        exact hret (by omega) (by omega) (⟨rfl, rfl, ⟨⟨by omega, by omega⟩, hx_2 i2_1 (by omega)⟩⟩) hU hS dX4_hasRows_29
      ·
        refine lv_aload_n hx hb dX4_hasRows_10 rfl (lv_at hl 0 rfl) ?_
        refine lv_iload_n hx hb dX4_hasRows_11 rfl (lv_at hl 3 rfl) ?_
        refine lv_iload_n hx hb dX4_hasRows_12 rfl (lv_at hl 1 rfl) ?_
        refine lv_iload_n hx hb dX4_hasRows_13 rfl (lv_at hl 2 rfl) ?_
        refine q_pi (q_runV (t := 68) (i := 0) (As := [.int l3_1, .int ld, .int d]) (rest := []) C hU (c_X4_isInForce_x hG l3_1 ld d (by omega)) vm_X4_isInForce ml_X4_77 k_68.1 (hc := rfl) rfl (h1_68 hG) hl.1 rfl rfl (Nat.le_of_ble_eq_true rfl) dX4_hasRows_14 rfl rfl ⟨Nat.le_of_ble_eq_true rfl, Nat.le_of_ble_eq_true rfl⟩ ⟨Nat.le_refl _, Nat.le_refl _⟩) hS (fun x_6 H locs hp_5 hU hS => ?_)
        have hk := lw_t pre0 l3_1.toNatClampNeg
        refine b_if_eq (tgt := 22) hx hb dX4_hasRows_17 (by decide) (fun c_7 => ?_) (fun c_7 => ?_)
        ·
          obtain ⟨x_8, e_9⟩ : ∃ y : Int32, y = l3_1 + 1 := ⟨_, rfl⟩
          have te_9 : x_8.toInt = (l3_1 : Int32).toInt + (1 : Int32).toInt := by rw [e_9]; exact fb_addI (by omega) (by omega)
          refine lv_iinc (v := x_8) (lv' := [(3, .int x_8), (0, .ref (al.2 68 0)), (1, .int ld), (2, .int d)]) hx hb dX4_hasRows_22 hl (k := 3) rfl (by rw [e_9]; rfl) (by decide) rfl (fun ls hl => ?_)
          refine lv_goto (tgt := 2) hx hb dX4_hasRows_25 (by decide) ?_
          exact ih_2 x_8 _ _ _ (lv_sub hl [1, 2, 3, 0] rfl) hU hS (by omega) (by first | exact hx_up (by omega) (by omega) i2_1 (by omega) | exact hx_0) (by omega) (by omega)
        ·
          refine lv_iconst (v := 1) hx hb dX4_hasRows_20 (by decide) ?_
          exact hret (by omega) (by omega) (⟨rfl, rfl, ⟨⟨by omega, by omega⟩, hx_1 i2_1 (by omega) (by omega)⟩⟩) hU hS dX4_hasRows_21
  exact J_2 _ 0 _ _ _ (lv_sub hl [1, 2, 3, 0] rfl) hU hS (by omega) (by first | exact hx_up (by omega) (by omega) i2_1 (by omega) | exact hx_0) (by omega) (Nat.lt_succ_self _)
set_option maxHeartbeats 4000000 in
set_option maxRecDepth 100000 in
theorem c_X4_landFor_x {l : Launch} {D : va_G} {cA : FieldType → ClassId} {sz : Nat} {al : Al} {iv : Iv} {rv : Rv} (hG : GI al iv rv) (ti : Nat) (hti : ti < al.1 65) (d : Int32) (pre0 : BQ iv rv) : Met l yX4_landFor (wd yX4_landFor cX4_landFor 5 (some .int)) (rm 2) (PcW D cA sz al iv rv [.ref (al.2 68 0), .ref (al.2 65 ti), .int d]) (QI D cA sz al (pI iv rv (fun r => (-9 ≤ r.toInt ∧ r.toInt ≤ 3) ∧ (r = lwF iv ti d ∧ (r.toInt = -9 ∨ 0 ≤ r.toInt))))) 0 0 (Aq sz) := by
  refine mk_i (by decide) (Nat.le_of_ble_eq_true rfl) rfl ?_
  intro p e s m args below meth c ls Q H locs C hU hS hl hret
  have hx := C.1.1
  have hb := C.1.2.1
  have hl : lv_has ls 5 [(0, .ref (al.2 68 0)), (1, .ref (al.2 65 ti)), (2, .int d)] := hl
  have hG0 := hG
  have htk := tk_k hG (bb_bm pre0.1) hti
  have km9 : ((-9) : Int32).toInt = -9 := by decide
  refine lv_aload_n hx hb dX4_landFor_0 rfl (lv_at hl 1 rfl) ?_
  refine g_65_1 C hU hG hti fl_X4_50 dX4_landFor_1 (fun j_1 ej_2 hb_3 => ?_)
  refine g_62_1 C hU hG hb_3 fl_X4_56 dX4_landFor_4 (fun j_4 ej_5 hb_6 => ?_)
  refine g_56_1 C hU hG hb_6 fl_X4_62 dX4_landFor_7 (fun x_7 e_8 le_8 ue_8 => ?_)
  have te_8 := congrArg Int32.toInt e_8
  have h7 := ld_first hG0 pre0 htk ej_2 ej_5 e_8
  refine lv_istore_n (lv' := [(3, .int x_7), (0, .ref (al.2 68 0)), (1, .ref (al.2 65 ti)), (2, .int d)]) hx hb dX4_landFor_10 rfl hl (by decide) rfl (fun ls hl => ?_)
  refine lv_aload_n hx hb dX4_landFor_11 rfl (lv_at hl 1 rfl) ?_
  refine lv_iload_n hx hb dX4_landFor_12 rfl (lv_at hl 0 rfl) ?_
  refine lv_iload_n hx hb dX4_landFor_13 rfl (lv_at hl 3 rfl) ?_
  refine q_pi (q_runV (t := 68) (i := 0) (As := [.int x_7, .int d]) (rest := []) C hU (c_X4_hasRows_x hG x_7 d (pre0.2.2.1)) vm_X4_hasRows ml_X4_67 k_68.1 (hc := rfl) rfl (h1_68 hG) hl.1 rfl rfl (Nat.le_of_ble_eq_true rfl) dX4_landFor_14 rfl rfl ⟨Nat.le_of_ble_eq_true rfl, Nat.le_of_ble_eq_true rfl⟩ ⟨Nat.le_refl _, Nat.le_refl _⟩) hS (fun x_10 H locs hp_9 hU hS => ?_)
  have t14 := congrArg Int32.toInt hp_9.2
  rw [h7] at t14
  refine b_if_eq (tgt := 22) hx hb dX4_landFor_17 (by decide) (fun c_11 => ?_) (fun c_11 => ?_)
  ·
    refine lv_aload_n hx hb dX4_landFor_22 rfl (lv_at hl 2 rfl) ?_
    refine g_65_2 C hU hG hti fl_X4_71 dX4_landFor_23 (fun j_12 ej_13 hb_14 => ?_)
    refine g_62_2 C hU hG hb_14 fl_X4_74 dX4_landFor_26 (fun j_15 ej_16 hb_17 => ?_)
    refine g_56_1 C hU hG hb_17 fl_X4_62 dX4_landFor_29 (fun x_18 e_19 le_19 ue_19 => ?_)
    have te_19 := congrArg Int32.toInt e_19
    have h29 := ld_last hG0 pre0 hti htk ej_13 ej_16 e_19
    refine lv_istore (lv' := [(4, .int x_18), (3, .int x_7), (0, .ref (al.2 68 0)), (1, .ref (al.2 65 ti)), (2, .int d)]) hx hb dX4_landFor_32 hl (by decide) rfl (fun ls hl => ?_)
    refine lv_aload_n hx hb dX4_landFor_34 rfl (lv_at hl 2 rfl) ?_
    refine lv_iload hx hb dX4_landFor_35 (lv_at hl 0 rfl) ?_
    refine lv_iload_n hx hb dX4_landFor_37 rfl (lv_at hl 4 rfl) ?_
    refine q_pi (q_runV (t := 68) (i := 0) (As := [.int x_18, .int d]) (rest := []) C hU (c_X4_hasRows_x hG x_18 d (pre0.2.2.1)) vm_X4_hasRows ml_X4_67 k_68.1 (hc := rfl) rfl (h1_68 hG) hl.1 rfl rfl (Nat.le_of_ble_eq_true rfl) dX4_landFor_38 rfl rfl ⟨Nat.le_of_ble_eq_true rfl, Nat.le_of_ble_eq_true rfl⟩ ⟨Nat.le_refl _, Nat.le_refl _⟩) hS (fun x_21 H locs hp_20 hU hS => ?_)
    have t38 := congrArg Int32.toInt hp_20.2
    rw [h29] at t38
    refine b_if_eq (tgt := 49) hx hb dX4_landFor_41 (by decide) (fun c_22 => ?_) (fun c_22 => ?_)
    ·
      refine lv_bipush (v := (-9)) hx hb dX4_landFor_49 (by decide) ?_
      exact hret (⟨rfl, rfl, ⟨⟨by omega, by omega⟩, ⟨by unfold lwF; first | (rw [if_neg (by omega), if_neg (by omega)]; done) | (rw [if_neg (by omega), if_pos (by omega)]; exact h29), by omega⟩⟩⟩) hU hS dX4_landFor_51
    ·
      refine lv_iload hx hb dX4_landFor_44 (lv_at hl 0 rfl) ?_
      refine lv_goto (tgt := 51) hx hb dX4_landFor_46 (by decide) ?_
      exact hret (⟨rfl, rfl, ⟨⟨by omega, by omega⟩, ⟨by unfold lwF; first | (rw [if_neg (by omega), if_neg (by omega)]; done) | (rw [if_neg (by omega), if_pos (by omega)]; exact h29), by omega⟩⟩⟩) hU hS dX4_landFor_51
  ·
    refine lv_iload_n hx hb dX4_landFor_20 rfl (lv_at hl 0 rfl) ?_
    exact hret (⟨rfl, rfl, ⟨⟨by omega, by omega⟩, ⟨by unfold lwF; rw [if_pos (by omega)]; exact h7, by omega⟩⟩⟩) hU hS dX4_landFor_21
set_option maxHeartbeats 4000000 in
set_option maxRecDepth 100000 in
theorem c_X11_milesOf_x {l : Launch} {D : va_G} {cA : FieldType → ClassId} {sz : Nat} {al : Al} {iv : Iv} {rv : Rv} (hG : GI al iv rv) (ti : Nat) (hti : ti < al.1 65) (pre0 : BQ iv rv) : Met l yX11_milesOf (wd yX11_milesOf cX11_milesOf 2 (some .int)) (rm 1) (PcW D cA sz al iv rv [.ref (al.2 49 0), .ref (al.2 65 ti)]) (QI D cA sz al (pI iv rv (fun r => r = miF iv ti))) 0 0 (Aq sz) := by
  refine mk_i (by decide) (Nat.le_of_ble_eq_true rfl) rfl ?_
  intro p e s m args below meth c ls Q H locs C hU hS hl hret
  have hx := C.1.1
  have hb := C.1.2.1
  have hl : lv_has ls 2 [(0, .ref (al.2 49 0)), (1, .ref (al.2 65 ti))] := hl
  have hG0 := hG
  have htk := tk_k hG (bb_bm pre0.1) hti
  refine lv_aload_n hx hb dX11_milesOf_0 rfl (lv_at hl 0 rfl) ?_
  refine g_49_0 C hU hG (h1_49 hG) fl_X11_10 dX11_milesOf_1 ?_
  refine lv_aload_n hx hb dX11_milesOf_4 rfl (lv_at hl 1 rfl) ?_
  refine g_65_1 C hU hG hti fl_X11_381 dX11_milesOf_5 (fun j_1 ej_2 hb_3 => ?_)
  refine g_62_1 C hU hG hb_3 fl_X11_354 dX11_milesOf_8 (fun j_4 ej_5 hb_6 => ?_)
  refine lv_aload_n hx hb dX11_milesOf_11 rfl (lv_at hl 1 rfl) ?_
  refine g_65_2 C hU hG hti fl_X11_343 dX11_milesOf_12 (fun j_7 ej_8 hb_9 => ?_)
  refine g_62_2 C hU hG hb_9 fl_X11_358 dX11_milesOf_15 (fun j_10 ej_11 hb_12 => ?_)
  refine q_pi (q_runV (t := 52) (i := 0) (As := [.ref (al.2 56 j_4), .ref (al.2 56 j_10)]) (rest := []) C hU (c_X7_milesBetween_x hG (j_4) hb_6 (j_10) hb_12 ) vm_X7_milesBetween ml_X11_94 k_52.1 (hc := rfl) rfl (h1_52 hG) hl.1 rfl rfl (Nat.le_of_ble_eq_true rfl) dX11_milesOf_18 rfl rfl ⟨Nat.le_of_ble_eq_true rfl, Nat.le_of_ble_eq_true rfl⟩ ⟨Nat.le_refl _, Nat.le_refl _⟩) hS (fun x_14 H locs hp_13 hU hS => ?_)
  exact hret (⟨rfl, rfl, by rw [hp_13]; exact ml_x hG0 pre0 hti htk ej_2 ej_5 ej_8 ej_11⟩) hU hS dX11_milesOf_21
set_option maxHeartbeats 4000000 in
set_option maxRecDepth 100000 in
theorem c_X8_leaveDay_x {l : Launch} {D : va_G} {cA : FieldType → ClassId} {sz : Nat} {al : Al} {iv : Iv} {rv : Rv} (hG : GI al iv rv) (ti : Nat) (hti : ti < al.1 65) (pre0 : BM iv rv) : Met l yX8_leaveDay (wd yX8_leaveDay cX8_leaveDay 1 (some .int)) (rm 0) (PcW D cA sz al iv rv [.ref (al.2 65 ti)]) (QI D cA sz al (pI iv rv (fun r => r = iv 9 0 (rwL iv ti 0) / 1440))) 0 0 (Aq sz) := by
  refine mk_i (by decide) (Nat.le_of_ble_eq_true rfl) rfl ?_
  intro p e s m args below meth c ls Q H locs C hU hS hl hret
  have hx := C.1.1
  have hb := C.1.2.1
  have hl : lv_has ls 1 [(0, .ref (al.2 65 ti))] := hl
  have hG0 := hG
  have htk := tk_k hG pre0 hti
  have k1440 : (1440 : Int32).toInt = 1440 := by decide
  refine lv_aload_n hx hb dX8_leaveDay_0 rfl (lv_at hl 0 rfl) ?_
  refine g_65_1 C hU hG hti fl_X8_15 dX8_leaveDay_1 (fun j_1 ej_2 hb_3 => ?_)
  refine g_62_5 C hU hG hb_3 fl_X8_42 dX8_leaveDay_4 (fun x_4 e_5 le_5 ue_5 => ?_)
  have te_5 := congrArg Int32.toInt e_5
  refine lv_sipush (v := 1440) hx hb dX8_leaveDay_7 (by decide) ?_
  refine lv_idiv hx hb dX8_leaveDay_10 (by decide) ?_
  refine lv_topi (fun x_6 e_7 => ?_)
  have te_7 : 0 ≤ x_6.toInt ∧ x_6.toInt ≤ (x_4 : Int32).toInt := by rw [e_7]; exact div_rng (by omega) (by omega)
  exact hret (⟨rfl, rfl, by rw [e_7, ld_lv hG0 pre0 hti htk ej_2 e_5]⟩) hU hS dX8_leaveDay_11
set_option maxHeartbeats 4000000 in
set_option maxRecDepth 100000 in
theorem c_X4_isExcused_x {l : Launch} {D : va_G} {cA : FieldType → ClassId} {sz : Nat} {al : Al} {iv : Iv} {rv : Rv} (hG : GI al iv rv) (ld : Int32) (cs : Int32) (ld2 : Int32) (pre0 : Cexc iv rv) : Met l yX4_isExcused (wd yX4_isExcused cX4_isExcused 7 (some .boolean)) (rm 0) (PcW D cA sz al iv rv [.ref (al.2 68 0), .int ld, .int cs, .int ld2]) (QI D cA sz al (pI iv rv (fun r => (0 ≤ r.toInt ∧ r.toInt ≤ 1) ∧ (r = exN iv ld.toInt cs.toInt ld2.toInt (iv 0 0 30).toNatClampNeg)))) 0 0 (Aq sz) := by
  refine mk_z (by decide) (Nat.le_of_ble_eq_true rfl) rfl ?_
  intro p e s m args below meth c ls Q H locs C hU hS hl hret
  have hx := C.1.1
  have hb := C.1.2.1
  have hl : lv_has ls 7 [(0, .ref (al.2 68 0)), (1, .int ld), (2, .int cs), (3, .int ld2)] := hl
  have hG0 := hG
  have hcn := congrArg Int32.toInt pre0.1
  have l30 := le30 hG
  have k0 : (0 : Int32).toInt = 0 := by decide
  have k1 : (1 : Int32).toInt = 1 := by decide
  refine lv_iconst (v := 0) hx hb dX4_isExcused_0 (by decide) ?_
  refine lv_istore (lv' := [(4, .int 0), (0, .ref (al.2 68 0)), (1, .int ld), (2, .int cs), (3, .int ld2)]) hx hb dX4_isExcused_1 hl (by decide) rfl (fun ls hl => ?_)
  refine lv_iconst (v := 0) hx hb dX4_isExcused_3 (by decide) ?_
  refine lv_istore (lv' := [(5, .int 0), (4, .int 0), (0, .ref (al.2 68 0)), (1, .int ld), (2, .int cs), (3, .int ld2)]) hx hb dX4_isExcused_4 hl (by decide) rfl (fun ls hl => ?_)
  have J_6 : ∀ (n_6 : Nat) (l4_1 : Int32) (l5_2 : Int32) (ls : Array Slot), lv_has ls 7 [(0, .ref (al.2 68 0)), (1, .int ld), (2, .int cs), (3, .int ld2), (4, .int l4_1), (5, .int l5_2)] → (0 ≤ l4_1.toInt ∧ l4_1.toInt ≤ 1) → (0 ≤ l5_2.toInt ∧ l5_2.toInt ≤ 40) → l4_1 = exN iv ld.toInt cs.toInt ld2.toInt l5_2.toNatClampNeg → l5_2.toInt ≤ (iv 68 0 11).toInt → (40 - l5_2.toInt).toNat < n_6 → W p l e (rm 0) s m args below meth c H locs 0 0 Q (F0 m 6 ls []) := by
    intro n_6
    induction n_6 with
    | zero =>
      intro l4_1 l5_2 ls hl i6_0 i6_1 i6_2 i6_3 hm_6
      exact absurd hm_6 (Nat.not_lt_zero _)
    | succ n_6 ih_6 =>
      intro l4_1 l5_2 ls hl i6_0 i6_1 i6_2 i6_3 hm_6
      refine lv_iload hx hb dX4_isExcused_6 (lv_at hl 5 rfl) ?_
      refine lv_aload_n hx hb dX4_isExcused_8 rfl (lv_at hl 0 rfl) ?_
      refine g_68_11 C hU hG (h1_68 hG) fl_X4_47 dX4_isExcused_9 (fun x_3 e_4 le_4 ue_4 => ?_)
      have te_4 := congrArg Int32.toInt e_4
      refine b_icmp_ge (tgt := 86) hx hb dX4_isExcused_12 (by decide) (fun c_5 => ?_) (fun c_5 => ?_)
      ·
        refine lv_iload hx hb dX4_isExcused_86 (lv_at hl 4 rfl) ?_
        exact hret (by omega) (by omega) (⟨rfl, rfl, ⟨⟨by omega, by omega⟩, by rw [i6_2, clamp_eq (show (l5_2 : Int32).toInt = (iv 0 0 30).toInt by omega)]⟩⟩) hU hS dX4_isExcused_88
      ·
        refine lv_aload_n hx hb dX4_isExcused_15 rfl (lv_at hl 0 rfl) ?_
        have hk := xc_t pre0 l5_2.toNatClampNeg
        refine g_68_6 C hU hG (h1_68 hG) fl_X4_27 dX4_isExcused_16 ?_
        refine lv_iload hx hb dX4_isExcused_19 (lv_at hl 5 rfl) ?_
        refine a_74 C hU hG (h1_74 hG) (x := l5_2) (by omega) (by omega) dX4_isExcused_21 (fun x_6 e_7 => ?_)
        have te_7 := congrArg Int32.toInt e_7
        refine lv_iload_n hx hb dX4_isExcused_22 rfl (lv_at hl 1 rfl) ?_
        have J_42 : ∀ (v_8 : Int32) (ls : Array Slot), lv_has ls 7 [(0, .ref (al.2 68 0)), (1, .int ld), (2, .int cs), (3, .int ld2), (4, .int l4_1), (5, .int l5_2)] → (0 ≤ v_8.toInt ∧ v_8.toInt ≤ 1) → ((v_8.toInt = 1 ∧ ((iv 26 0 l5_2.toNatClampNeg).toInt = ld.toInt ∧ (iv 27 0 l5_2.toNatClampNeg).toInt = cs.toInt)) ∨ (v_8.toInt = 0 ∧ ¬ ((iv 26 0 l5_2.toNatClampNeg).toInt = ld.toInt ∧ (iv 27 0 l5_2.toNatClampNeg).toInt = cs.toInt))) → W p l e (rm 0) s m args below meth c H locs 0 0 Q (F0 m 42 ls [.int v_8]) := by
          intro v_8 ls hl i42_0 i42_1
          refine lv_istore (lv' := [(6, .int v_8), (0, .ref (al.2 68 0)), (1, .int ld), (2, .int cs), (3, .int ld2), (4, .int l4_1), (5, .int l5_2)]) hx hb dX4_isExcused_42 hl (by decide) rfl (fun ls hl => ?_)
          refine lv_iload hx hb dX4_isExcused_44 (lv_at hl 0 rfl) ?_
          have J_80 : ∀ (l4_9 : Int32) (ls : Array Slot), lv_has ls 7 [(0, .ref (al.2 68 0)), (1, .int ld), (2, .int cs), (3, .int ld2), (5, .int l5_2), (4, .int l4_9)] → (0 ≤ l4_9.toInt ∧ l4_9.toInt ≤ 1) → l4_9 = exN iv ld.toInt cs.toInt ld2.toInt (l5_2.toNatClampNeg + 1) → W p l e (rm 0) s m args below meth c H locs 0 0 Q (F0 m 80 ls []) := by
            intro l4_9 ls hl i80_0 i80_1
            obtain ⟨x_10, e_11⟩ : ∃ y : Int32, y = l5_2 + 1 := ⟨_, rfl⟩
            have te_11 : x_10.toInt = (l5_2 : Int32).toInt + (1 : Int32).toInt := by rw [e_11]; exact fb_addI (by omega) (by omega)
            refine lv_iinc (v := x_10) (lv' := [(5, .int x_10), (0, .ref (al.2 68 0)), (1, .int ld), (2, .int cs), (3, .int ld2), (4, .int l4_9)]) hx hb dX4_isExcused_80 hl (k := 4) rfl (by rw [e_11]; rfl) (by decide) rfl (fun ls hl => ?_)
            refine lv_goto (tgt := 6) hx hb dX4_isExcused_83 (by decide) ?_
            exact ih_6 l4_9 x_10 _ (lv_sub hl [1, 2, 3, 4, 5, 0] rfl) (by omega) (by omega) (by first | exact ex_up (by omega) (by omega) i80_1 | exact ex_0) (by omega) (by omega)
          refine b_if_eq (tgt := 80) hx hb dX4_isExcused_46 (by decide) (fun c_12 => ?_) (fun c_12 => ?_)
          ·
            exact J_80 l4_1 _ (lv_sub hl [1, 2, 3, 4, 6, 5] rfl) (by omega) (by first | exact ex_y1 i6_2 (by omega) (True.intro.trans (pre0.2 _).2.2.2.2.symm) | exact ex_n1 i6_2 (by omega))
          ·
            refine lv_aload_n hx hb dX4_isExcused_49 rfl (lv_at hl 1 rfl) ?_
            refine g_68_9 C hU hG (h1_68 hG) fl_X4_36 dX4_isExcused_50 ?_
            refine lv_iload hx hb dX4_isExcused_53 (lv_at hl 6 rfl) ?_
            refine a_77 C hU hG (h1_77 hG) (x := l5_2) (by omega) (by omega) dX4_isExcused_55 (fun x_13 e_14 => ?_)
            have te_14 := congrArg Int32.toInt e_14
            refine lv_iload_n hx hb dX4_isExcused_56 rfl (lv_at hl 4 rfl) ?_
            refine b_icmp_gt (tgt := 80) hx hb dX4_isExcused_57 (by decide) (fun c_15 => ?_) (fun c_15 => ?_)
            ·
              exact J_80 l4_1 _ (lv_sub hl [1, 2, 3, 4, 6, 5] rfl) (by omega) (by first | exact ex_y1 i6_2 (by omega) (True.intro.trans (pre0.2 _).2.2.2.2.symm) | exact ex_n1 i6_2 (by omega))
            ·
              refine lv_aload_n hx hb dX4_isExcused_60 rfl (lv_at hl 1 rfl) ?_
              refine g_68_8 C hU hG (h1_68 hG) fl_X4_33 dX4_isExcused_61 ?_
              refine lv_iload hx hb dX4_isExcused_64 (lv_at hl 6 rfl) ?_
              refine a_76 C hU hG (h1_76 hG) (x := l5_2) (by omega) (by omega) dX4_isExcused_66 (fun x_16 e_17 => ?_)
              have te_17 := congrArg Int32.toInt e_17
              refine lv_iload_n hx hb dX4_isExcused_67 rfl (lv_at hl 4 rfl) ?_
              refine b_icmp_gt (tgt := 80) hx hb dX4_isExcused_68 (by decide) (fun c_18 => ?_) (fun c_18 => ?_)
              ·
                exact J_80 l4_1 _ (lv_sub hl [1, 2, 3, 4, 6, 5] rfl) (by omega) (by first | exact ex_y1 i6_2 (by omega) (True.intro.trans (pre0.2 _).2.2.2.2.symm) | exact ex_n1 i6_2 (by omega))
              ·
                refine lv_aload_n hx hb dX4_isExcused_71 rfl (lv_at hl 1 rfl) ?_
                refine g_68_10 C hU hG (h1_68 hG) fl_X4_39 dX4_isExcused_72 ?_
                refine lv_iload hx hb dX4_isExcused_75 (lv_at hl 6 rfl) ?_
                refine a_78 C hU hG (h1_78 hG) (x := l5_2) (by omega) (by omega) dX4_isExcused_77 (fun x_19 e_20 le_20 ue_20 => ?_)
                have te_20 := congrArg Int32.toInt e_20
                refine lv_istore (lv' := [(4, .int x_19), (6, .int v_8), (0, .ref (al.2 68 0)), (1, .int ld), (2, .int cs), (3, .int ld2), (5, .int l5_2)]) hx hb dX4_isExcused_78 hl (by decide) rfl (fun ls hl => ?_)
                exact J_80 x_19 _ (lv_sub hl [2, 3, 4, 5, 6, 0] rfl) (by omega) (by first | exact ex_y1 i6_2 (by omega) (e_20.trans (pre0.2 _).2.2.2.2.symm) | exact ex_n1 i6_2 (by omega))
        have J_41 : ∀ (ls : Array Slot), lv_has ls 7 [(0, .ref (al.2 68 0)), (1, .int ld), (2, .int cs), (3, .int ld2), (4, .int l4_1), (5, .int l5_2)] → (¬ ((iv 26 0 l5_2.toNatClampNeg).toInt = ld.toInt ∧ (iv 27 0 l5_2.toNatClampNeg).toInt = cs.toInt)) → W p l e (rm 0) s m args below meth c H locs 0 0 Q (F0 m 41 ls []) := by
          intro ls hl i41_0
          refine lv_iconst (v := 0) hx hb dX4_isExcused_41 (by decide) ?_
          exact J_42 0 _ (lv_sub hl [0, 1, 2, 3, 4, 5] rfl) (by omega) (by omega)
        refine b_icmp_ne (tgt := 41) hx hb dX4_isExcused_23 (by decide) (fun c_21 => ?_) (fun c_21 => ?_)
        ·
          exact J_41 _ (lv_sub hl [0, 1, 2, 3, 4, 5] rfl) (by omega)
        ·
          refine lv_aload_n hx hb dX4_isExcused_26 rfl (lv_at hl 0 rfl) ?_
          refine g_68_7 C hU hG (h1_68 hG) fl_X4_30 dX4_isExcused_27 ?_
          refine lv_iload hx hb dX4_isExcused_30 (lv_at hl 5 rfl) ?_
          refine a_75 C hU hG (h1_75 hG) (x := l5_2) (by omega) (by omega) dX4_isExcused_32 (fun x_22 e_23 => ?_)
          have te_23 := congrArg Int32.toInt e_23
          refine lv_iload_n hx hb dX4_isExcused_33 rfl (lv_at hl 2 rfl) ?_
          refine b_icmp_ne (tgt := 41) hx hb dX4_isExcused_34 (by decide) (fun c_24 => ?_) (fun c_24 => ?_)
          ·
            exact J_41 _ (lv_sub hl [0, 1, 2, 3, 4, 5] rfl) (by omega)
          ·
            refine lv_iconst (v := 1) hx hb dX4_isExcused_37 (by decide) ?_
            refine lv_goto (tgt := 42) hx hb dX4_isExcused_38 (by decide) ?_
            exact J_42 1 _ (lv_sub hl [0, 1, 2, 3, 4, 5] rfl) (by omega) (by omega)
  exact J_6 _ 0 0 _ (lv_sub hl [2, 3, 4, 5, 1, 0] rfl) (by omega) (by omega) (by first | exact ex_up (by omega) (by omega) i80_1 | exact ex_0) (by omega) (Nat.lt_succ_self _)
set_option maxHeartbeats 4000000 in
set_option maxRecDepth 100000 in
theorem c_X4_greatestSum_x {l : Launch} {D : va_G} {cA : FieldType → ClassId} {sz : Nat} {al : Al} {iv : Iv} {rv : Rv} (hG : GI al iv rv) (ld : Int32) (d : Int32) (mm : Int32) (far : Int32) (pre0 : Claw iv rv) : Met l yX4_greatestSum (wd yX4_greatestSum cX4_greatestSum 8 (some .int)) (rm 1) (PcW D cA sz al iv rv [.ref (al.2 68 0), .int ld, .int d, .int mm, .int far]) (QI D cA sz al (pI iv rv (fun r => r = gsN iv ld.toInt d.toInt mm.toInt far.toInt (iv 0 0 24).toNatClampNeg))) 0 0 (Aq sz) := by
  refine mk_i (by decide) (Nat.le_of_ble_eq_true rfl) rfl ?_
  intro p e s m args below meth c ls Q H locs C hU hS hl hret
  have hx := C.1.1
  have hb := C.1.2.1
  have hl : lv_has ls 8 [(0, .ref (al.2 68 0)), (1, .int ld), (2, .int d), (3, .int mm), (4, .int far)] := hl
  have hG0 := hG
  have hcn := congrArg Int32.toInt pre0.1
  have l24 := le24 hG
  have k0 : (0 : Int32).toInt = 0 := by decide
  have k1 : (1 : Int32).toInt = 1 := by decide
  refine lv_iconst (v := 0) hx hb dX4_greatestSum_0 (by decide) ?_
  refine lv_istore (lv' := [(5, .int 0), (0, .ref (al.2 68 0)), (1, .int ld), (2, .int d), (3, .int mm), (4, .int far)]) hx hb dX4_greatestSum_1 hl (by decide) rfl (fun ls hl => ?_)
  refine lv_iconst (v := 0) hx hb dX4_greatestSum_3 (by decide) ?_
  refine lv_istore (lv' := [(6, .int 0), (5, .int 0), (0, .ref (al.2 68 0)), (1, .int ld), (2, .int d), (3, .int mm), (4, .int far)]) hx hb dX4_greatestSum_4 hl (by decide) rfl (fun ls hl => ?_)
  have J_6 : ∀ (n_6 : Nat) (l5_1 : Int32) (l6_2 : Int32) (H : Heap) (locs : List Loc) (ls : Array Slot), lv_has ls 8 [(0, .ref (al.2 68 0)), (1, .int ld), (2, .int d), (3, .int mm), (4, .int far), (5, .int l5_1), (6, .int l6_2)] → UW D cA sz al iv rv H → va_S (Aq sz) s.heap H locs → (0 ≤ l6_2.toInt ∧ l6_2.toInt ≤ 30) → l5_1 = gsN iv ld.toInt d.toInt mm.toInt far.toInt l6_2.toNatClampNeg → l6_2.toInt ≤ (iv 68 0 5).toInt → (30 - l6_2.toInt).toNat < n_6 → W p l e (rm 1) s m args below meth c H locs 0 0 Q (F0 m 6 ls []) := by
    intro n_6
    induction n_6 with
    | zero =>
      intro l5_1 l6_2 H locs ls hl hU hS i6_0 i6_1 i6_2 hm_6
      exact absurd hm_6 (Nat.not_lt_zero _)
    | succ n_6 ih_6 =>
      intro l5_1 l6_2 H locs ls hl hU hS i6_0 i6_1 i6_2 hm_6
      refine lv_iload hx hb dX4_greatestSum_6 (lv_at hl 6 rfl) ?_
      refine lv_aload_n hx hb dX4_greatestSum_8 rfl (lv_at hl 0 rfl) ?_
      refine g_68_5 C hU hG (h1_68 hG) fl_X4_43 dX4_greatestSum_9 (fun x_3 e_4 le_4 ue_4 => ?_)
      have te_4 := congrArg Int32.toInt e_4
      refine b_icmp_ge (tgt := 88) hx hb dX4_greatestSum_12 (by decide) (fun c_5 => ?_) (fun c_5 => ?_)
      ·
        refine lv_iload hx hb dX4_greatestSum_88 (lv_at hl 5 rfl) ?_
        exact hret (⟨rfl, rfl, by rw [i6_1, clamp_eq (show (l6_2 : Int32).toInt = (iv 0 0 24).toInt by omega)]⟩) hU hS dX4_greatestSum_90
      ·
        refine lv_aload_n hx hb dX4_greatestSum_15 rfl (lv_at hl 0 rfl) ?_
        have hk := lw_t pre0 l6_2.toNatClampNeg
        refine lv_iload hx hb dX4_greatestSum_16 (lv_at hl 6 rfl) ?_
        refine lv_iload_n hx hb dX4_greatestSum_18 rfl (lv_at hl 1 rfl) ?_
        refine lv_iload_n hx hb dX4_greatestSum_19 rfl (lv_at hl 2 rfl) ?_
        refine q_pi (q_runV (t := 68) (i := 0) (As := [.int l6_2, .int ld, .int d]) (rest := []) C hU (c_X4_isInForce_x hG l6_2 ld d (by omega)) vm_X4_isInForce ml_X4_77 k_68.1 (hc := rfl) rfl (h1_68 hG) hl.1 rfl rfl (Nat.le_of_ble_eq_true rfl) dX4_greatestSum_20 rfl rfl ⟨Nat.le_of_ble_eq_true rfl, Nat.le_of_ble_eq_true rfl⟩ ⟨Nat.le_refl _, Nat.le_refl _⟩) hS (fun x_7 H locs hp_6 hU hS => ?_)
        have J_54 : ∀ (v_8 : Int32) (ls : Array Slot), lv_has ls 8 [(0, .ref (al.2 68 0)), (1, .int ld), (2, .int d), (3, .int mm), (4, .int far), (5, .int l5_1), (6, .int l6_2)] → (0 ≤ v_8.toInt ∧ v_8.toInt ≤ 1) → ((v_8.toInt = 1 ∧ ((iv 21 0 l6_2.toNatClampNeg).toInt = ld.toInt ∧ (iv 22 0 l6_2.toNatClampNeg).toInt ≤ d.toInt ∧ (iv 23 0 l6_2.toNatClampNeg).toInt ≤ mm.toInt ∧ (iv 24 0 l6_2.toNatClampNeg).toInt ≤ far.toInt)) ∨ (v_8.toInt = 0 ∧ ¬ ((iv 21 0 l6_2.toNatClampNeg).toInt = ld.toInt ∧ (iv 22 0 l6_2.toNatClampNeg).toInt ≤ d.toInt ∧ (iv 23 0 l6_2.toNatClampNeg).toInt ≤ mm.toInt ∧ (iv 24 0 l6_2.toNatClampNeg).toInt ≤ far.toInt))) → W p l e (rm 1) s m args below meth c H locs 0 0 Q (F0 m 54 ls [.int v_8]) := by
          intro v_8 ls hl i54_0 i54_1
          refine lv_istore (lv' := [(7, .int v_8), (0, .ref (al.2 68 0)), (1, .int ld), (2, .int d), (3, .int mm), (4, .int far), (5, .int l5_1), (6, .int l6_2)]) hx hb dX4_greatestSum_54 hl (by decide) rfl (fun ls hl => ?_)
          refine lv_iload hx hb dX4_greatestSum_56 (lv_at hl 0 rfl) ?_
          have J_82 : ∀ (l5_9 : Int32) (ls : Array Slot), lv_has ls 8 [(0, .ref (al.2 68 0)), (1, .int ld), (2, .int d), (3, .int mm), (4, .int far), (6, .int l6_2), (5, .int l5_9)] → l5_9 = gsN iv ld.toInt d.toInt mm.toInt far.toInt (l6_2.toNatClampNeg + 1) → W p l e (rm 1) s m args below meth c H locs 0 0 Q (F0 m 82 ls []) := by
            intro l5_9 ls hl i82_0
            obtain ⟨x_10, e_11⟩ : ∃ y : Int32, y = l6_2 + 1 := ⟨_, rfl⟩
            have te_11 : x_10.toInt = (l6_2 : Int32).toInt + (1 : Int32).toInt := by rw [e_11]; exact fb_addI (by omega) (by omega)
            refine lv_iinc (v := x_10) (lv' := [(6, .int x_10), (0, .ref (al.2 68 0)), (1, .int ld), (2, .int d), (3, .int mm), (4, .int far), (5, .int l5_9)]) hx hb dX4_greatestSum_82 hl (k := 5) rfl (by rw [e_11]; rfl) (by decide) rfl (fun ls hl => ?_)
            refine lv_goto (tgt := 6) hx hb dX4_greatestSum_85 (by decide) ?_
            exact ih_6 l5_9 x_10 _ _ _ (lv_sub hl [1, 2, 3, 4, 5, 6, 0] rfl) hU hS (by omega) (by first | exact gs_up (by omega) (by omega) i82_0 | exact gs_0) (by omega) (by omega)
          refine b_if_eq (tgt := 82) hx hb dX4_greatestSum_58 (by decide) (fun c_12 => ?_) (fun c_12 => ?_)
          ·
            exact J_82 l5_1 _ (lv_sub hl [1, 2, 3, 4, 5, 7, 6] rfl) (by first | exact gs_y i6_1 i54_1 (by omega) (by omega) (True.intro.trans (pre0.2 _).2.2.2.2.symm) | exact gs_n i6_1 (by omega))
          ·
            refine lv_aload_n hx hb dX4_greatestSum_61 rfl (lv_at hl 1 rfl) ?_
            refine g_68_4 C hU hG (h1_68 hG) fl_X4_24 dX4_greatestSum_62 ?_
            refine lv_iload hx hb dX4_greatestSum_65 (lv_at hl 7 rfl) ?_
            refine a_73 C hU hG (h1_73 hG) (x := l6_2) (by omega) (by omega) dX4_greatestSum_67 (fun x_13 e_14 le_14 ue_14 => ?_)
            have te_14 := congrArg Int32.toInt e_14
            refine lv_iload hx hb dX4_greatestSum_68 (lv_at hl 6 rfl) ?_
            refine b_icmp_le (tgt := 82) hx hb dX4_greatestSum_70 (by decide) (fun c_15 => ?_) (fun c_15 => ?_)
            ·
              exact J_82 l5_1 _ (lv_sub hl [1, 2, 3, 4, 5, 7, 6] rfl) (by first | exact gs_y i6_1 i54_1 (by omega) (by omega) (True.intro.trans (pre0.2 _).2.2.2.2.symm) | exact gs_n i6_1 (by omega))
            ·
              refine lv_aload_n hx hb dX4_greatestSum_73 rfl (lv_at hl 1 rfl) ?_
              refine g_68_4 C hU hG (h1_68 hG) fl_X4_24 dX4_greatestSum_74 ?_
              refine lv_iload hx hb dX4_greatestSum_77 (lv_at hl 7 rfl) ?_
              refine a_73 C hU hG (h1_73 hG) (x := l6_2) (by omega) (by omega) dX4_greatestSum_79 (fun x_16 e_17 le_17 ue_17 => ?_)
              have te_17 := congrArg Int32.toInt e_17
              refine lv_istore (lv' := [(5, .int x_16), (7, .int v_8), (0, .ref (al.2 68 0)), (1, .int ld), (2, .int d), (3, .int mm), (4, .int far), (6, .int l6_2)]) hx hb dX4_greatestSum_80 hl (by decide) rfl (fun ls hl => ?_)
              exact J_82 x_16 _ (lv_sub hl [2, 3, 4, 5, 6, 7, 0] rfl) (by first | exact gs_y i6_1 i54_1 (by omega) (by omega) (e_17.trans (pre0.2 _).2.2.2.2.symm) | exact gs_n i6_1 (by omega))
        have J_53 : ∀ (ls : Array Slot), lv_has ls 8 [(0, .ref (al.2 68 0)), (1, .int ld), (2, .int d), (3, .int mm), (4, .int far), (5, .int l5_1), (6, .int l6_2)] → (¬ ((iv 21 0 l6_2.toNatClampNeg).toInt = ld.toInt ∧ (iv 22 0 l6_2.toNatClampNeg).toInt ≤ d.toInt ∧ (iv 23 0 l6_2.toNatClampNeg).toInt ≤ mm.toInt ∧ (iv 24 0 l6_2.toNatClampNeg).toInt ≤ far.toInt)) → W p l e (rm 1) s m args below meth c H locs 0 0 Q (F0 m 53 ls []) := by
          intro ls hl i53_0
          refine lv_iconst (v := 0) hx hb dX4_greatestSum_53 (by decide) ?_
          exact J_54 0 _ (lv_sub hl [0, 1, 2, 3, 4, 5, 6] rfl) (by omega) (by omega)
        refine b_if_eq (tgt := 53) hx hb dX4_greatestSum_23 (by decide) (fun c_18 => ?_) (fun c_18 => ?_)
        ·
          exact J_53 _ (lv_sub hl [0, 1, 2, 3, 4, 5, 6] rfl) (by omega)
        ·
          refine lv_aload_n hx hb dX4_greatestSum_26 rfl (lv_at hl 0 rfl) ?_
          refine g_68_2 C hU hG (h1_68 hG) fl_X4_18 dX4_greatestSum_27 ?_
          refine lv_iload hx hb dX4_greatestSum_30 (lv_at hl 6 rfl) ?_
          refine a_71 C hU hG (h1_71 hG) (x := l6_2) (by omega) (by omega) dX4_greatestSum_32 (fun x_19 e_20 le_20 ue_20 => ?_)
          have te_20 := congrArg Int32.toInt e_20
          refine lv_iload_n hx hb dX4_greatestSum_33 rfl (lv_at hl 3 rfl) ?_
          refine b_icmp_gt (tgt := 53) hx hb dX4_greatestSum_34 (by decide) (fun c_21 => ?_) (fun c_21 => ?_)
          ·
            exact J_53 _ (lv_sub hl [0, 1, 2, 3, 4, 5, 6] rfl) (by omega)
          ·
            refine lv_aload_n hx hb dX4_greatestSum_37 rfl (lv_at hl 0 rfl) ?_
            refine g_68_3 C hU hG (h1_68 hG) fl_X4_21 dX4_greatestSum_38 ?_
            refine lv_iload hx hb dX4_greatestSum_41 (lv_at hl 6 rfl) ?_
            refine a_72 C hU hG (h1_72 hG) (x := l6_2) (by omega) (by omega) dX4_greatestSum_43 (fun x_22 e_23 le_23 ue_23 => ?_)
            have te_23 := congrArg Int32.toInt e_23
            refine lv_iload hx hb dX4_greatestSum_44 (lv_at hl 4 rfl) ?_
            refine b_icmp_gt (tgt := 53) hx hb dX4_greatestSum_46 (by decide) (fun c_24 => ?_) (fun c_24 => ?_)
            ·
              exact J_53 _ (lv_sub hl [0, 1, 2, 3, 4, 5, 6] rfl) (by omega)
            ·
              refine lv_iconst (v := 1) hx hb dX4_greatestSum_49 (by decide) ?_
              refine lv_goto (tgt := 54) hx hb dX4_greatestSum_50 (by decide) ?_
              exact J_54 1 _ (lv_sub hl [0, 1, 2, 3, 4, 5, 6] rfl) (by omega) (by omega)
  exact J_6 _ 0 0 _ _ _ (lv_sub hl [2, 3, 4, 5, 6, 1, 0] rfl) hU hS (by omega) (by first | exact gs_up (by omega) (by omega) i82_0 | exact gs_0) (by omega) (Nat.lt_succ_self _)
