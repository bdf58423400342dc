set_option maxHeartbeats 4000000 in
set_option maxRecDepth 100000 in
theorem c_X12_claim_x {l : Launch} {D : va_G} {cA : FieldType → ClassId} {sz : Nat} {al : Al} {iv : Iv} {rv : Rv} (hG : GI al iv rv) (tt : Int32) : Met l yX12_claim (wd yX12_claim cX12_claim 3 (some .int)) (rm 2) (PcW D cA sz al iv rv [.ref (al.2 0 0), .int tt]) (QI D cA sz al (fI al ([16, 35, 36], [(0, 41)]) iv rv (fun r iv' rv' => (spClaim iv tt = 0 ∧ r.toInt = (iv 0 0 41).toInt ∧ (iv' 0 0 41).toInt = (iv 0 0 41).toInt + 1 ∧ (∀ k : Nat, iv' 35 0 k = (if k = (iv 0 0 41).toNatClampNeg then tt else iv 35 0 k) ∧ iv' 36 0 k = (if k = (iv 0 0 41).toNatClampNeg then iv 0 0 0 else iv 36 0 k))) ∨ (spClaim iv tt ≠ 0 ∧ r = spClaim iv tt ∧ iv' 0 0 41 = iv 0 0 41 ∧ (∀ k : Nat, iv' 35 0 k = iv 35 0 k ∧ iv' 36 0 k = iv 36 0 k))))) 0 0 (Aq sz) := by
  refine mk_i (by decide) (Nat.le_of_ble_eq_true rfl) rfl ?_
  intro p e s m args below meth c ls Q H locs C hU hS hl hret
  have hx := C.1.1
  have hb := C.1.2.1
  have hl : lv_has ls 3 [(0, .ref (al.2 0 0)), (1, .int tt)] := hl
  have hG0 := hG
  have h6 := le6 hG
  have h20 := le20 hG
  have h41 := le41 hG
  have hF1 : FR ([16, 35, 36], [(0, 41)]) iv iv := FR.rf
  have hF2 : FR ([16, 35, 36], [(0, 41)]) rv rv := FR.rf
  have km6 : ((-6) : Int32).toInt = -6 := by decide
  have km3 : ((-3) : Int32).toInt = -3 := by decide
  have km1 : ((-1) : Int32).toInt = -1 := by decide
  have k0 : (0 : Int32).toInt = 0 := by decide
  have k1 : (1 : Int32).toInt = 1 := by decide
  have k30 : (30 : Int32).toInt = 30 := by decide
  refine lv_aload_n hx hb dX12_claim_0 rfl (lv_at hl 0 rfl) ?_
  refine lv_iload_n hx hb dX12_claim_1 rfl (lv_at hl 1 rfl) ?_
  refine q_pi (q_runV (t := 0) (i := 0) (As := [.int tt]) (rest := []) C hU (c_X12_isTraveller hG tt ) vm_X12_isTraveller ml_X12_226 k_0.1 (hc := rfl) rfl (h1_0 hG) hl.1 rfl rfl (Nat.le_of_ble_eq_true rfl) dX12_claim_2 rfl rfl ⟨Nat.le_of_ble_eq_true rfl, Nat.le_of_ble_eq_true rfl⟩ ⟨Nat.le_refl _, Nat.le_refl _⟩) hS (fun x_2 H locs hp_1 hU hS => ?_)
  refine b_if_ne (tgt := 14) hx hb dX12_claim_5 (by decide) (fun c_3 => ?_) (fun c_3 => ?_)
  ·
    refine lv_iconst (v := 0) hx hb dX12_claim_14 (by decide) ?_
    refine lv_istore_n (lv' := [(2, .int 0), (0, .ref (al.2 0 0)), (1, .int tt)]) hx hb dX12_claim_15 rfl hl (by decide) rfl (fun ls hl => ?_)
    have J_16 : ∀ (n_16 : Nat) (l2_4 : Int32) (ls : Array Slot), lv_has ls 3 [(0, .ref (al.2 0 0)), (1, .int tt), (2, .int l2_4)] → (0 ≤ l2_4.toInt ∧ l2_4.toInt ≤ 30) → (ownN iv tt.toInt l2_4.toNatClampNeg).toInt = 0 → l2_4.toInt ≤ (iv 0 0 41).toInt → (30 - l2_4.toInt).toNat < n_16 → W p l e (rm 2) s m args below meth c H locs 0 0 Q (F0 m 16 ls []) := by
      intro n_16
      induction n_16 with
      | zero =>
        intro l2_4 ls hl i16_0 i16_1 i16_2 hm_16
        exact absurd hm_16 (Nat.not_lt_zero _)
      | succ n_16 ih_16 =>
        intro l2_4 ls hl i16_0 i16_1 i16_2 hm_16
        refine lv_iload_n hx hb dX12_claim_16 rfl (lv_at hl 2 rfl) ?_
        refine lv_aload_n hx hb dX12_claim_17 rfl (lv_at hl 0 rfl) ?_
        refine g_0_41 C hU hG (h1_0 hG) fl_X12_275 dX12_claim_18 (fun x_5 e_6 le_6 ue_6 => ?_)
        have te_6 := congrArg Int32.toInt e_6
        refine b_icmp_ge (tgt := 47) hx hb dX12_claim_21 (by decide) (fun c_7 => ?_) (fun c_7 => ?_)
        ·
          have hown := own_end i16_1 (by omega)
          refine lv_aload_n hx hb dX12_claim_47 rfl (lv_at hl 0 rfl) ?_
          refine g_0_41 C hU hG (h1_0 hG) fl_X12_275 dX12_claim_48 (fun x_8 e_9 le_9 ue_9 => ?_)
          have te_9 := congrArg Int32.toInt e_9
          refine lv_bipush (v := 30) hx hb dX12_claim_51 (by decide) ?_
          refine b_icmp_ne (tgt := 63) hx hb dX12_claim_53 (by decide) (fun c_10 => ?_) (fun c_10 => ?_)
          ·
            refine lv_aload_n hx hb dX12_claim_63 rfl (lv_at hl 0 rfl) ?_
            refine g_0_42 C hU hG (h1_0 hG) fl_X12_113 dX12_claim_64 ?_
            refine lv_aload_n hx hb dX12_claim_67 rfl (lv_at hl 0 rfl) ?_
            refine g_0_41 C hU hG (h1_0 hG) fl_X12_275 dX12_claim_68 (fun x_11 e_12 le_12 ue_12 => ?_)
            have te_12 := congrArg Int32.toInt e_12
            refine lv_iload_n hx hb dX12_claim_71 rfl (lv_at hl 1 rfl) ?_
            refine s_35 C hU hS (h1_35 hG) (x := x_11) (by omega) (by omega) dX12_claim_72 (fun iv_13 H locs ei_14 hU hS => ?_)
            have hG : GI al iv_13 rv := by rw [ei_14]; exact hG.put35 ⟨by omega, by omega⟩ (by omega)
            have hF1 : FR ([16, 35, 36], [(0, 41)]) iv iv_13 := by rw [ei_14]; exact hF1.put (Or.inl (by decide))
            have kf_15 := congrArg Int32.toInt (show iv_13 0 0 20 = iv 0 0 20 by rw [ei_14]; exact up3_ne (fun z => absurd z.1 (by decide)))
            have kf_16 := congrArg Int32.toInt (show iv_13 0 0 41 = iv 0 0 41 by rw [ei_14]; exact up3_ne (fun z => absurd z.1 (by decide)))
            refine lv_aload_n hx hb dX12_claim_73 rfl (lv_at hl 0 rfl) ?_
            refine g_0_43 C hU hG (h1_0 hG) fl_X12_116 dX12_claim_74 ?_
            refine lv_aload_n hx hb dX12_claim_77 rfl (lv_at hl 0 rfl) ?_
            refine g_0_41 C hU hG (h1_0 hG) fl_X12_275 dX12_claim_78 (fun x_17 e_18 le_18 ue_18 => ?_)
            have te_18 := congrArg Int32.toInt e_18
            refine lv_aload_n hx hb dX12_claim_81 rfl (lv_at hl 0 rfl) ?_
            refine g_0_0 C hU hG (h1_0 hG) fl_X12_168 dX12_claim_82 (fun x_19 e_20 le_20 ue_20 => ?_)
            have te_20 := congrArg Int32.toInt e_20
            have ne_20 : x_19.toInt = (iv 0 0 0).toInt := by rw [e_20, hF1 0 0 0 (by decide)]
            have htold : x_19 = iv 0 0 0 := by rw [e_20, ei_14, up3_ne (fun z => absurd z.1 (by decide))]
            refine s_36 C hU hS (h1_36 hG) (x := x_17) (by omega) (by omega) dX12_claim_85 (fun iv_21 H locs ei_22 hU hS => ?_)
            have hG : GI al iv_21 rv := by rw [ei_22]; exact hG.puti (show _ ∧ _ from ⟨show (0 : Int) ≤ _ by omega, show _ ≤ (4000 : Int) by omega⟩) (nsA (by decide) _)
            have hF1 : FR ([16, 35, 36], [(0, 41)]) iv iv_21 := by rw [ei_22]; exact hF1.put (Or.inl (by decide))
            have kf_23 := congrArg Int32.toInt (show iv_21 0 0 20 = iv_13 0 0 20 by rw [ei_22]; exact up3_ne (fun z => absurd z.1 (by decide)))
            have kf_24 := congrArg Int32.toInt (show iv_21 0 0 41 = iv_13 0 0 41 by rw [ei_22]; exact up3_ne (fun z => absurd z.1 (by decide)))
            refine lv_aload_n hx hb dX12_claim_86 rfl (lv_at hl 0 rfl) ?_
            refine lv_dup hx hb dX12_claim_87 rfl ?_
            refine g_0_41 C hU hG (h1_0 hG) fl_X12_275 dX12_claim_88 (fun x_25 e_26 le_26 ue_26 => ?_)
            have te_26 := congrArg Int32.toInt e_26
            have a1 : iv_21 35 0 x_25.toNatClampNeg = tt := by rw [ei_22, up3_ne (fun z => absurd z.1 (by decide)), ei_14, clamp_eq (show x_25.toInt = x_11.toInt by omega)]; exact up3_self _ _ _ _ _
            refine lv_iconst (v := 1) hx hb dX12_claim_91 (by decide) ?_
            refine lv_iadd hx hb dX12_claim_92 ?_
            refine lv_topi (fun x_27 e_28 => ?_)
            have te_28 : x_27.toInt = (x_25 : Int32).toInt + (1 : Int32).toInt := by rw [e_28]; exact fb_addI (by omega) (by omega)
            refine p_0_41 C hU hS (h1_0 hG) fl_X12_275 dX12_claim_93 (fun iv_29 H locs ei_30 hU hS => ?_)
            have hG : GI al iv_29 rv := by rw [ei_30]; exact hG.put41 (x := x_25) ⟨by omega, by omega⟩ (by omega) (by omega) (by rw [a1]; omega)
            have hF1 : FR ([16, 35, 36], [(0, 41)]) iv iv_29 := by rw [ei_30]; exact hF1.put (by decide)
            have kf_31 := congrArg Int32.toInt (show iv_29 0 0 20 = iv_21 0 0 20 by rw [ei_30]; exact up3_ne (fun z => absurd z.2.2 (by decide)))
            refine lv_aload_n hx hb dX12_claim_96 rfl (lv_at hl 0 rfl) ?_
            refine g_0_41 C hU hG (h1_0 hG) fl_X12_275 dX12_claim_97 (fun x_32 e_33 le_33 ue_33 => ?_)
            have te_33 := congrArg Int32.toInt e_33
            have hz_ := e_33
            rw [ei_30, up3_self] at hz_
            have tz_ := congrArg Int32.toInt hz_
            refine lv_iconst (v := 1) hx hb dX12_claim_100 (by decide) ?_
            refine lv_isub hx hb dX12_claim_101 ?_
            refine lv_topi (fun x_34 e_35 => ?_)
            have te_35 : x_34.toInt = (x_32 : Int32).toInt - (1 : Int32).toInt := by rw [e_35]; exact fb_subI (by omega) (by omega)
            exact hret (⟨hG, hF1, hF2, Or.inl ⟨(by unfold spClaim; (repeat' split) <;> first | rfl | omega), by omega, by rw [ei_30, up3_self]; omega, fun k => ⟨by rw [ei_30, up3_ne (fun z => absurd z.1 (by decide)), ei_22, up3_ne (fun z => absurd z.1 (by decide)), ei_14, clamp_eq (show (x_11 : Int32).toInt = (iv 0 0 41).toInt by omega), up3_k], by rw [ei_30, up3_ne (fun z => absurd z.1 (by decide)), ei_22, clamp_eq (show (x_17 : Int32).toInt = (iv 0 0 41).toInt by omega), up3_k, htold, ei_14, up3_ne (fun z => absurd z.1 (by decide))]⟩⟩⟩) hU hS dX12_claim_102
          ·
            refine lv_aload_n hx hb dX12_claim_56 rfl (lv_at hl 0 rfl) ?_
            refine lv_bipush (v := (-6)) hx hb dX12_claim_57 (by decide) ?_
            refine q_fi (q_runV (t := 0) (i := 0) (As := [.int (-6)]) (rest := []) C hU (c_X12_refuse hG (-6) (by omega)) vm_X12_refuse ml_X12_164 k_0.1 (hc := rfl) rfl (h1_0 hG) hl.1 rfl rfl (Nat.le_of_ble_eq_true rfl) dX12_claim_59 rfl rfl ⟨Nat.le_of_ble_eq_true rfl, Nat.le_of_ble_eq_true rfl⟩ ⟨Nat.le_refl _, Nat.le_refl _⟩) hS (fun x_41 iv_37 rv_38 H locs hG fa_39 fb_40 hp_36 hU hS => ?_)
            have hF1 := hF1.tr (m := ([16, 35, 36], [(0, 41)])) fa_39 (by decide)
            have hF2 := hF2.tr (m := ([16, 35, 36], [(0, 41)])) fb_40 (by decide)
            have kf_42 := congrArg Int32.toInt (hF1 0 0 20 (by decide))
            exact hret (⟨hG, hF1, hF2, sp_no (z := (-6)) (by unfold spClaim; (repeat' split) <;> first | rfl | omega) (by decide) hp_36 (⟨fa_39 0 0 41 (by decide), fun k => ⟨fa_39.arr 35 0 k (by decide), fa_39.arr 36 0 k (by decide)⟩⟩)⟩) hU hS dX12_claim_62
        ·
          refine lv_aload_n hx hb dX12_claim_24 rfl (lv_at hl 0 rfl) ?_
          refine g_0_42 C hU hG (h1_0 hG) fl_X12_113 dX12_claim_25 ?_
          refine lv_iload_n hx hb dX12_claim_28 rfl (lv_at hl 2 rfl) ?_
          refine a_35 C hU hG (h1_35 hG) (x := l2_4) (by omega) (by omega) dX12_claim_29 (fun x_43 e_44 le_44 ue_44 => ?_)
          have te_44 := congrArg Int32.toInt e_44
          refine lv_iload_n hx hb dX12_claim_30 rfl (lv_at hl 1 rfl) ?_
          refine b_icmp_ne (tgt := 41) hx hb dX12_claim_31 (by decide) (fun c_45 => ?_) (fun c_45 => ?_)
          ·
            obtain ⟨x_46, e_47⟩ : ∃ y : Int32, y = l2_4 + 1 := ⟨_, rfl⟩
            have te_47 : x_46.toInt = (l2_4 : Int32).toInt + (1 : Int32).toInt := by rw [e_47]; exact fb_addI (by omega) (by omega)
            refine lv_iinc (v := x_46) (lv' := [(2, .int x_46), (0, .ref (al.2 0 0)), (1, .int tt)]) hx hb dX12_claim_41 hl (k := 2) rfl (by rw [e_47]; rfl) (by decide) rfl (fun ls hl => ?_)
            refine lv_goto (tgt := 16) hx hb dX12_claim_44 (by decide) ?_
            exact ih_16 x_46 _ (lv_sub hl [1, 2, 0] rfl) (by omega) (by first | exact own_up (by omega) (by omega) i16_1 (by omega) | exact own_0) (by omega) (by omega)
          ·
            have hown := own_hit (iv := iv) (t := tt.toInt) (x := l2_4) (by omega) (by omega)
            refine lv_aload_n hx hb dX12_claim_34 rfl (lv_at hl 0 rfl) ?_
            refine lv_bipush (v := (-3)) hx hb dX12_claim_35 (by decide) ?_
            refine q_fi (q_runV (t := 0) (i := 0) (As := [.int (-3)]) (rest := []) C hU (c_X12_refuse hG (-3) (by omega)) vm_X12_refuse ml_X12_164 k_0.1 (hc := rfl) rfl (h1_0 hG) hl.1 rfl rfl (Nat.le_of_ble_eq_true rfl) dX12_claim_37 rfl rfl ⟨Nat.le_of_ble_eq_true rfl, Nat.le_of_ble_eq_true rfl⟩ ⟨Nat.le_refl _, Nat.le_refl _⟩) hS (fun x_53 iv_49 rv_50 H locs hG fa_51 fb_52 hp_48 hU hS => ?_)
            have hF1 := hF1.tr (m := ([16, 35, 36], [(0, 41)])) fa_51 (by decide)
            have hF2 := hF2.tr (m := ([16, 35, 36], [(0, 41)])) fb_52 (by decide)
            have kf_54 := congrArg Int32.toInt (hF1 0 0 20 (by decide))
            exact hret (⟨hG, hF1, hF2, sp_no (z := (-3)) (by unfold spClaim; (repeat' split) <;> first | rfl | omega) (by decide) hp_48 (⟨fa_51 0 0 41 (by decide), fun k => ⟨fa_51.arr 35 0 k (by decide), fa_51.arr 36 0 k (by decide)⟩⟩)⟩) hU hS dX12_claim_40
    exact J_16 _ 0 _ (lv_sub hl [1, 2, 0] rfl) (by omega) (by first | exact own_up (by omega) (by omega) i16_1 (by omega) | exact own_0) (by omega) (Nat.lt_succ_self _)
  ·
    refine lv_aload_n hx hb dX12_claim_8 rfl (lv_at hl 0 rfl) ?_
    refine lv_iconst (v := (-1)) hx hb dX12_claim_9 (by decide) ?_
    refine q_fi (q_runV (t := 0) (i := 0) (As := [.int (-1)]) (rest := []) C hU (c_X12_refuse hG (-1) (by omega)) vm_X12_refuse ml_X12_164 k_0.1 (hc := rfl) rfl (h1_0 hG) hl.1 rfl rfl (Nat.le_of_ble_eq_true rfl) dX12_claim_10 rfl rfl ⟨Nat.le_of_ble_eq_true rfl, Nat.le_of_ble_eq_true rfl⟩ ⟨Nat.le_refl _, Nat.le_refl _⟩) hS (fun x_60 iv_56 rv_57 H locs hG fa_58 fb_59 hp_55 hU hS => ?_)
    have hF1 := hF1.tr (m := ([16, 35, 36], [(0, 41)])) fa_58 (by decide)
    have hF2 := hF2.tr (m := ([16, 35, 36], [(0, 41)])) fb_59 (by decide)
    have kf_61 := congrArg Int32.toInt (hF1 0 0 20 (by decide))
    exact hret (⟨hG, hF1, hF2, sp_no (z := (-1)) (by unfold spClaim; (repeat' split) <;> first | rfl | omega) (by decide) hp_55 (⟨fa_58 0 0 41 (by decide), fun k => ⟨fa_58.arr 35 0 k (by decide), fa_58.arr 36 0 k (by decide)⟩⟩)⟩) hU hS dX12_claim_13
set_option maxHeartbeats 4000000 in
set_option maxRecDepth 100000 in
theorem c_X11_claim_y {l : Launch} {D : va_G} {cA : FieldType → ClassId} {sz : Nat} {al : Al} {iv : Iv} {rv : Rv} (hG : GI al iv rv) (tt : Int32) (pre0 : BK iv rv) : Met l yX11_claim (wd yX11_claim cX11_claim 3 (some .int)) (rmA 3 2 9) (PcA D cA sz al iv rv [.ref (al.2 49 0), .int tt] (fun _ => True)) (QIA D cA sz (fun r al' iv' rv' => GI al' iv' rv' ∧ EX ([51, 85], [(84, 1), (65, 6)]) al iv rv al' iv' rv' ∧ ((spClaim iv tt = 0 ∧ r.toInt = (iv 84 0 1).toInt ∧ (iv' 84 0 1).toInt = (iv 84 0 1).toInt + 1 ∧ ∃ (aa a9 : Nat) (siz : Int32), siz.toInt = al.1 88 + 1 ∧ al' = grow (grow al 88 aa) 89 a9 ∧ iv' = claimIv iv (al.1 88) tt.toNatClampNeg (iv 49 0 9) siz ∧ rv' = claimRv rv (al.1 88) tt.toNatClampNeg) ∨ (spClaim iv tt ≠ 0 ∧ r = spClaim iv tt ∧ iv' 84 0 1 = iv 84 0 1 ∧ (∀ k : Nat, iv' 65 k 6 = iv 65 k 6))))) 2 9 (Aq sz) := by
  refine mk_ia (by decide) (Nat.le_of_ble_eq_true rfl) rfl ?_
  intro p e s m args below meth c ls Q H locs C hU hS hX hz0 hl hret
  have hx := C.1.1
  have hb := C.1.2.1
  have hl : lv_has ls 3 [(0, .ref (al.2 49 0)), (1, .int tt)] := hl
  have hG0 := hG
  have hn20 := congrArg Int32.toInt pre0.1
  have hn41 := congrArg Int32.toInt pre0.2.1
  have hF1 : FR ([51, 85], [(84, 1), (65, 6)]) iv iv := FR.rf
  have hF2 : FR ([51, 85], [(84, 1), (65, 6)]) rv rv := FR.rf
  have km6 : ((-6) : Int32).toInt = -6 := by decide
  have km3 : ((-3) : Int32).toInt = -3 := by decide
  have km1 : ((-1) : Int32).toInt = -1 := by decide
  refine lv_aload_n hx hb dX11_claim_0 rfl (lv_at hl 0 rfl) ?_
  refine g_49_2 C hU hG (h1_49 hG) fl_X11_26 dX11_claim_1 ?_
  refine lv_iload_n hx hb dX11_claim_4 rfl (lv_at hl 1 rfl) ?_
  refine q_pr (q_runV (t := 63) (i := 0) (As := [.int tt]) (rest := []) C hU (c_X9_find hG tt ) vm_X9_find ml_X11_192 k_63.1 (hc := rfl) rfl (h1_63 hG) hl.1 rfl rfl (Nat.le_of_ble_eq_true rfl) dX11_claim_5 rfl rfl ⟨Nat.le_of_ble_eq_true rfl, Nat.le_of_ble_eq_true rfl⟩ ⟨Nat.le_of_ble_eq_true rfl, Nat.le_of_ble_eq_true rfl⟩) hS (fun r_2 H locs hp_1 hU hS => ?_)
  have hb_3 := hp_1.1
  refine b_astore_n (lv' := [(2, rfv al 65 r_2), (0, .ref (al.2 49 0)), (1, .int tt)]) hx hb dX11_claim_8 rfl hl (by decide) rfl (fun ls hl => ?_)
  refine b_aload_n (al := al) (t' := 65) (r := r_2) hx hb dX11_claim_9 rfl (lv_at hl 0 rfl) ?_
  refine b_ifnonnull (tgt := 19) hx hb dX11_claim_10 (by decide) (fun j_5 ej_6 => ?_) (fun ej_6 => ?_)
  ·
    subst ej_6
    have hl : lv_has ls 3 [(2, .ref (al.2 65 j_5)), (0, .ref (al.2 49 0)), (1, .int tt)] := hl
    have hb_7 : j_5 < al.1 65 := hb_3 j_5 rfl
    have hq3 := hp_1.2.1 _ rfl
    have hn3 := hq3.1
    rw [clamp_n] at hn3
    refine lv_aload_n hx hb dX11_claim_19 rfl (lv_at hl 0 rfl) ?_
    refine g_65_6 C hU hG hb_7 fl_X11_255 dX11_claim_20 (fun x_8 e_9 le_9 ue_9 => ?_)
    have te_9 := congrArg Int32.toInt e_9
    have hcl := cl_own hG0 pre0 hb_7 hq3.1 e_9
    refine b_if_eq (tgt := 33) hx hb dX11_claim_23 (by decide) (fun c_10 => ?_) (fun c_10 => ?_)
    ·
      refine lv_aload_n hx hb dX11_claim_33 rfl (lv_at hl 1 rfl) ?_
      refine g_49_5 C hU hG (h1_49 hG) fl_X11_47 dX11_claim_34 ?_
      refine q_pi (q_runV (t := 84) (i := 0) (As := []) (rest := []) C hU (c_X3_isFull hG  ) vm_X3_isFull ml_X11_258 k_84.1 (hc := rfl) rfl (h1_84 hG) hl.1 rfl rfl (Nat.le_of_ble_eq_true rfl) dX11_claim_37 rfl rfl ⟨Nat.le_of_ble_eq_true rfl, Nat.le_of_ble_eq_true rfl⟩ ⟨Nat.le_of_ble_eq_true rfl, Nat.le_of_ble_eq_true rfl⟩) hS (fun x_12 H locs hp_11 hU hS => ?_)
      refine b_if_eq (tgt := 50) hx hb dX11_claim_40 (by decide) (fun c_13 => ?_) (fun c_13 => ?_)
      ·
        refine lv_aload_n hx hb dX11_claim_50 rfl (lv_at hl 1 rfl) ?_
        refine g_49_5 C hU hG (h1_49 hG) fl_X11_47 dX11_claim_51 ?_
        refine lv_aload_n hx hb dX11_claim_54 rfl (lv_at hl 0 rfl) ?_
        refine lv_aload_n hx hb dX11_claim_55 rfl (lv_at hl 1 rfl) ?_
        refine g_49_9 C hU hG (h1_49 hG) fl_X11_73 dX11_claim_56 (fun x_14 e_15 le_15 ue_15 => ?_)
        have te_15 := congrArg Int32.toInt e_15
        refine q_ciA (q_runVA (t := 84) (i := 0) (As := [.ref (al.2 65 j_5), .int x_14]) (rest := []) C hU (Nat.le_trans hz0 hS.1) (c_X3_add hG (j_5) hb_7 x_14 (by omega) (by omega)) vm_X3_add ml_X11_259 k_84.1 (hc := rfl) rfl (h1_84 hG) hl.1 rfl rfl (Nat.le_of_ble_eq_true rfl) dX11_claim_59 rfl rfl ⟨Nat.le_of_ble_eq_true rfl, Nat.le_of_ble_eq_true rfl⟩ ⟨Nat.le_of_ble_eq_true rfl, Nat.le_of_ble_eq_true rfl⟩) hS (Nat.le_trans hz0 hS.1) (fun x_17 al' iv' rv' H locs hp_16 hU hS _ => ?_)
        exact hret (⟨hp_16.1, (EX.of hF1 hF2).tr hp_16.2.1 (by decide) (by decide), Or.inl ⟨(by unfold spClaim; (repeat' split) <;> first | rfl | omega), by rw [hp_16.2.2.1], claim_cnt hG0 hp_16.2.2.2, (by have z := hp_16.2.2.2; rw [hq3.1, e_15] at z; exact z)⟩⟩) hU hS dX11_claim_62
      ·
        refine lv_aload_n hx hb dX11_claim_43 rfl (lv_at hl 1 rfl) ?_
        refine lv_bipush (v := (-6)) hx hb dX11_claim_44 (by decide) ?_
        refine q_fi (q_runV (t := 49) (i := 0) (As := [.int (-6)]) (rest := []) C hU (c_X11_refuse hG (-6) (by omega)) vm_X11_refuse ml_X11_77 k_49.1 (hc := rfl) rfl (h1_49 hG) hl.1 rfl rfl (Nat.le_of_ble_eq_true rfl) dX11_claim_46 rfl rfl ⟨Nat.le_of_ble_eq_true rfl, Nat.le_of_ble_eq_true rfl⟩ ⟨Nat.le_of_ble_eq_true rfl, Nat.le_of_ble_eq_true rfl⟩) hS (fun x_23 iv_19 rv_20 H locs hG fa_21 fb_22 hp_18 hU hS => ?_)
        have hF1 := hF1.tr (m := ([51, 85], [(84, 1), (65, 6)])) fa_21 (by decide)
        have hF2 := hF2.tr (m := ([51, 85], [(84, 1), (65, 6)])) fb_22 (by decide)
        refine W.widen (k := 2) (n := 9) (Nat.zero_le _) (Nat.zero_le _) ?_
        exact hret (⟨hG, EX.of hF1 hF2, sp_no (z := (-6)) (by unfold spClaim; (repeat' split) <;> first | rfl | omega) (by decide) hp_18 (⟨fa_21 84 0 1 (by decide), fun k => fa_21 65 k 6 (by decide)⟩)⟩) hU hS dX11_claim_49
    ·
      refine lv_aload_n hx hb dX11_claim_26 rfl (lv_at hl 1 rfl) ?_
      refine lv_bipush (v := (-3)) hx hb dX11_claim_27 (by decide) ?_
      refine q_fi (q_runV (t := 49) (i := 0) (As := [.int (-3)]) (rest := []) C hU (c_X11_refuse hG (-3) (by omega)) vm_X11_refuse ml_X11_77 k_49.1 (hc := rfl) rfl (h1_49 hG) hl.1 rfl rfl (Nat.le_of_ble_eq_true rfl) dX11_claim_29 rfl rfl ⟨Nat.le_of_ble_eq_true rfl, Nat.le_of_ble_eq_true rfl⟩ ⟨Nat.le_of_ble_eq_true rfl, Nat.le_of_ble_eq_true rfl⟩) hS (fun x_29 iv_25 rv_26 H locs hG fa_27 fb_28 hp_24 hU hS => ?_)
      have hF1 := hF1.tr (m := ([51, 85], [(84, 1), (65, 6)])) fa_27 (by decide)
      have hF2 := hF2.tr (m := ([51, 85], [(84, 1), (65, 6)])) fb_28 (by decide)
      refine W.widen (k := 2) (n := 9) (Nat.zero_le _) (Nat.zero_le _) ?_
      exact hret (⟨hG, EX.of hF1 hF2, sp_no (z := (-3)) (by unfold spClaim; (repeat' split) <;> first | rfl | omega) (by decide) hp_24 (⟨fa_27 84 0 1 (by decide), fun k => fa_27 65 k 6 (by decide)⟩)⟩) hU hS dX11_claim_32
  ·
    subst ej_6
    have hl : lv_has ls 3 [(2, rfv al 65 none), (0, .ref (al.2 49 0)), (1, .int tt)] := hl
    have hq3 := hp_1.2.2 rfl
    refine lv_aload_n hx hb dX11_claim_13 rfl (lv_at hl 1 rfl) ?_
    refine lv_iconst (v := (-1)) hx hb dX11_claim_14 (by decide) ?_
    refine q_fi (q_runV (t := 49) (i := 0) (As := [.int (-1)]) (rest := []) C hU (c_X11_refuse hG (-1) (by omega)) vm_X11_refuse ml_X11_77 k_49.1 (hc := rfl) rfl (h1_49 hG) hl.1 rfl rfl (Nat.le_of_ble_eq_true rfl) dX11_claim_15 rfl rfl ⟨Nat.le_of_ble_eq_true rfl, Nat.le_of_ble_eq_true rfl⟩ ⟨Nat.le_of_ble_eq_true rfl, Nat.le_of_ble_eq_true rfl⟩) hS (fun x_35 iv_31 rv_32 H locs hG fa_33 fb_34 hp_30 hU hS => ?_)
    have hF1 := hF1.tr (m := ([51, 85], [(84, 1), (65, 6)])) fa_33 (by decide)
    have hF2 := hF2.tr (m := ([51, 85], [(84, 1), (65, 6)])) fb_34 (by decide)
    refine W.widen (k := 2) (n := 9) (Nat.zero_le _) (Nat.zero_le _) ?_
    exact hret (⟨hG, EX.of hF1 hF2, sp_no (z := (-1)) (by unfold spClaim; (repeat' split) <;> first | rfl | omega) (by decide) hp_30 (⟨fa_33 84 0 1 (by decide), fun k => fa_33 65 k 6 (by decide)⟩)⟩) hU hS dX11_claim_18
set_option maxHeartbeats 4000000 in
set_option maxRecDepth 100000 in
theorem c_X12_settledOf_x {l : Launch} {D : va_G} {cA : FieldType → ClassId} {sz : Nat} {al : Al} {iv : Iv} {rv : Rv} (hG : GI al iv rv) (cl : Int32) (pre0 : 0 ≤ cl.toInt ∧ cl.toInt < 30) : Met l yX12_settledOf (wd yX12_settledOf cX12_settledOf 4 (some .int)) (rm 0) (PcW D cA sz al iv rv [.ref (al.2 0 0), .int cl]) (QI D cA sz al (pI iv rv (fun r => r = sdN iv cl.toNatClampNeg 5))) 0 0 (Aq sz) := by
  refine mk_i (by decide) (Nat.le_of_ble_eq_true rfl) rfl ?_
  intro p e s m args below meth c ls Q H locs C hU hS hl hret
  have hx := C.1.1
  have hb := C.1.2.1
  have hl : lv_has ls 4 [(0, .ref (al.2 0 0)), (1, .int cl)] := hl
  have hG0 := hG
  have h6 := le6 hG
  have h20 := le20 hG
  have h41 := le41 hG
  have k0 : (0 : Int32).toInt = 0 := by decide
  have k1 : (1 : Int32).toInt = 1 := by decide
  have k5 : (5 : Int32).toInt = 5 := by decide
  refine lv_iconst (v := 0) hx hb dX12_settledOf_0 (by decide) ?_
  refine lv_istore_n (lv' := [(2, .int 0), (0, .ref (al.2 0 0)), (1, .int cl)]) hx hb dX12_settledOf_1 rfl hl (by decide) rfl (fun ls hl => ?_)
  refine lv_iconst (v := 0) hx hb dX12_settledOf_2 (by decide) ?_
  refine lv_istore_n (lv' := [(3, .int 0), (2, .int 0), (0, .ref (al.2 0 0)), (1, .int cl)]) hx hb dX12_settledOf_3 rfl hl (by decide) rfl (fun ls hl => ?_)
  have J_4 : ∀ (n_4 : Nat) (l2_1 : Int32) (l3_2 : Int32) (ls : Array Slot), lv_has ls 4 [(0, .ref (al.2 0 0)), (1, .int cl), (2, .int l2_1), (3, .int l3_2)] → (0 ≤ l3_2.toInt ∧ l3_2.toInt ≤ 5) → l2_1 = sdN iv cl.toNatClampNeg l3_2.toNatClampNeg → (5 - l3_2.toInt).toNat < n_4 → W p l e (rm 0) s m args below meth c H locs 0 0 Q (F0 m 4 ls []) := by
    intro n_4
    induction n_4 with
    | zero =>
      intro l2_1 l3_2 ls hl i4_0 i4_1 hm_4
      exact absurd hm_4 (Nat.not_lt_zero _)
    | succ n_4 ih_4 =>
      intro l2_1 l3_2 ls hl i4_0 i4_1 hm_4
      refine lv_iload_n hx hb dX12_settledOf_4 rfl (lv_at hl 3 rfl) ?_
      refine lv_iconst (v := 5) hx hb dX12_settledOf_5 (by decide) ?_
      refine b_icmp_ge (tgt := 28) hx hb dX12_settledOf_6 (by decide) (fun c_3 => ?_) (fun c_3 => ?_)
      ·
        refine lv_iload_n hx hb dX12_settledOf_28 rfl (lv_at hl 2 rfl) ?_
        exact hret (⟨rfl, rfl, by rw [i4_1, show (l3_2 : Int32).toNatClampNeg = 5 from by rw [clamp_n]; omega]⟩) hU hS dX12_settledOf_29
      ·
        refine lv_iload_n hx hb dX12_settledOf_9 rfl (lv_at hl 2 rfl) ?_
        refine lv_aload_n hx hb dX12_settledOf_10 rfl (lv_at hl 0 rfl) ?_
        refine g_0_45 C hU hG (h1_0 hG) fl_X12_122 dX12_settledOf_11 ?_
        refine lv_iconst (v := 5) hx hb dX12_settledOf_14 (by decide) ?_
        refine lv_iload_n hx hb dX12_settledOf_15 rfl (lv_at hl 1 rfl) ?_
        refine lv_imul hx hb dX12_settledOf_16 ?_
        refine lv_topi (fun x_4 e_5 => ?_)
        have te_5 : x_4.toInt = 5 * (cl : Int32).toInt := by rw [e_5, fb_mulI (by rw [show (5 : Int32).toInt = 5 from by decide]; omega) (by rw [show (5 : Int32).toInt = 5 from by decide]; omega), show (5 : Int32).toInt = 5 from by decide]
        refine lv_iload_n hx hb dX12_settledOf_17 rfl (lv_at hl 3 rfl) ?_
        refine lv_iadd hx hb dX12_settledOf_18 ?_
        refine lv_topi (fun x_6 e_7 => ?_)
        have te_7 : x_6.toInt = (x_4 : Int32).toInt + (l3_2 : Int32).toInt := by rw [e_7]; exact fb_addI (by omega) (by omega)
        refine a_38 C hU hG (h1_38 hG) (x := x_6) (by omega) (by omega) dX12_settledOf_19 (fun x_8 e_9 => ?_)
        have te_9 := congrArg Int32.toInt e_9
        refine lv_iadd hx hb dX12_settledOf_20 ?_
        refine lv_topi (fun x_10 e_11 => ?_)
        refine lv_istore_n (lv' := [(2, .int x_10), (0, .ref (al.2 0 0)), (1, .int cl), (3, .int l3_2)]) hx hb dX12_settledOf_21 rfl hl (by decide) rfl (fun ls hl => ?_)
        obtain ⟨x_12, e_13⟩ : ∃ y : Int32, y = l3_2 + 1 := ⟨_, rfl⟩
        have te_13 : x_12.toInt = (l3_2 : Int32).toInt + (1 : Int32).toInt := by rw [e_13]; exact fb_addI (by omega) (by omega)
        refine lv_iinc (v := x_12) (lv' := [(3, .int x_12), (2, .int x_10), (0, .ref (al.2 0 0)), (1, .int cl)]) hx hb dX12_settledOf_22 hl (k := 3) rfl (by rw [e_13]; rfl) (by decide) rfl (fun ls hl => ?_)
        refine lv_goto (tgt := 4) hx hb dX12_settledOf_25 (by decide) ?_
        exact ih_4 x_10 x_12 _ (lv_sub hl [2, 3, 1, 0] rfl) (by omega) (by first | exact sd_up i4_1 e_9 e_11 (by omega) (by omega) (by omega) | exact sd_0) (by omega)
  exact J_4 _ 0 0 _ (lv_sub hl [2, 3, 1, 0] rfl) (by omega) (by first | exact sd_up i4_1 True.intro True.intro (by omega) (by omega) (by omega) | exact sd_0) (Nat.lt_succ_self _)
set_option maxHeartbeats 4000000 in
set_option maxRecDepth 100000 in
theorem c_X12_pay_x {l : Launch} {D : va_G} {cA : FieldType → ClassId} {sz : Nat} {al : Al} {iv : Iv} {rv : Rv} (hG : GI al iv rv) (cl : Int32) (pp : Int32) (v : Int32) : Met l yX12_pay (wd yX12_pay cX12_pay 4 (some .int)) (rm 2) (PcW D cA sz al iv rv [.ref (al.2 0 0), .int cl, .int pp, .int v]) (QI D cA sz al (fI al ([16, 38], []) iv rv (fun r iv' rv' => (spPay iv cl pp v = 0 ∧ r = sdN iv' cl.toNatClampNeg 5 ∧ (∀ k : Nat, iv' 38 0 k = (if k = 5 * cl.toNatClampNeg + pp.toNatClampNeg then iv 38 0 (5 * cl.toNatClampNeg + pp.toNatClampNeg) + v else iv 38 0 k))) ∨ (spPay iv cl pp v ≠ 0 ∧ r = spPay iv cl pp v ∧ (∀ k : Nat, iv' 38 0 k = iv 38 0 k))))) 0 0 (Aq sz) := by
  refine mk_i (by decide) (Nat.le_of_ble_eq_true rfl) rfl ?_
  intro p e s m args below meth c ls Q H locs C hU hS hl hret
  have hx := C.1.1
  have hb := C.1.2.1
  have hl : lv_has ls 4 [(0, .ref (al.2 0 0)), (1, .int cl), (2, .int pp), (3, .int v)] := hl
  have hG0 := hG
  have h6 := le6 hG
  have h20 := le20 hG
  have h41 := le41 hG
  have h41 := le41 hG
  have h20 := le20 hG
  have hF1 : FR ([16, 38], []) iv iv := FR.rf
  have hF2 : FR ([16, 38], []) rv rv := FR.rf
  have km6 : ((-6) : Int32).toInt = -6 := by decide
  have km4 : ((-4) : Int32).toInt = -4 := by decide
  have km1 : ((-1) : Int32).toInt = -1 := by decide
  have k1 : (1 : Int32).toInt = 1 := by decide
  have k5 : (5 : Int32).toInt = 5 := by decide
  have k9999 : (9999 : Int32).toInt = 9999 := by decide
  have k99999 : (99999 : Int32).toInt = 99999 := by decide
  refine lv_aload_n hx hb dX12_pay_0 rfl (lv_at hl 0 rfl) ?_
  refine lv_iload_n hx hb dX12_pay_1 rfl (lv_at hl 1 rfl) ?_
  refine q_pi (q_runV (t := 0) (i := 0) (As := [.int cl]) (rest := []) C hU (c_X12_isClaim hG cl ) vm_X12_isClaim ml_X12_281 k_0.1 (hc := rfl) rfl (h1_0 hG) hl.1 rfl rfl (Nat.le_of_ble_eq_true rfl) dX12_pay_2 rfl rfl ⟨Nat.le_of_ble_eq_true rfl, Nat.le_of_ble_eq_true rfl⟩ ⟨Nat.le_refl _, Nat.le_refl _⟩) hS (fun x_2 H locs hp_1 hU hS => ?_)
  refine b_if_eq (tgt := 15) hx hb dX12_pay_5 (by decide) (fun c_3 => ?_) (fun c_3 => ?_)
  ·
    refine lv_aload_n hx hb dX12_pay_15 rfl (lv_at hl 0 rfl) ?_
    refine lv_iconst (v := (-1)) hx hb dX12_pay_16 (by decide) ?_
    refine q_fi (q_runV (t := 0) (i := 0) (As := [.int (-1)]) (rest := []) C hU (c_X12_refuse hG (-1) (by omega)) vm_X12_refuse ml_X12_164 k_0.1 (hc := rfl) rfl (h1_0 hG) hl.1 rfl rfl (Nat.le_of_ble_eq_true rfl) dX12_pay_17 rfl rfl ⟨Nat.le_of_ble_eq_true rfl, Nat.le_of_ble_eq_true rfl⟩ ⟨Nat.le_refl _, Nat.le_refl _⟩) hS (fun x_9 iv_5 rv_6 H locs hG fa_7 fb_8 hp_4 hU hS => ?_)
    have hF1 := hF1.tr (m := ([16, 38], [])) fa_7 (by decide)
    have hF2 := hF2.tr (m := ([16, 38], [])) fb_8 (by decide)
    exact hret (⟨hG, hF1, hF2, sp_no (z := (-1)) (by unfold spPay; (repeat' split) <;> first | rfl | omega) (by decide) hp_4 (fun k => fa_7.arr 38 0 k (by decide))⟩) hU hS dX12_pay_20
  ·
    refine lv_iload_n hx hb dX12_pay_8 rfl (lv_at hl 2 rfl) ?_
    refine q_pi (q_runS (As := [.int pp]) (rest := []) C hU (c_X12_isPayer  pp ) sm_X12_isPayer ml_X12_290 hl.1 rfl rfl (Nat.le_of_ble_eq_true rfl) dX12_pay_9 rfl rfl ⟨Nat.le_of_ble_eq_true rfl, Nat.le_of_ble_eq_true rfl⟩ ⟨Nat.le_refl _, Nat.le_refl _⟩) hS (fun x_11 H locs hp_10 hU hS => ?_)
    refine b_if_ne (tgt := 21) hx hb dX12_pay_12 (by decide) (fun c_12 => ?_) (fun c_12 => ?_)
    ·
      refine lv_iload_n hx hb dX12_pay_21 rfl (lv_at hl 3 rfl) ?_
      refine lv_iconst (v := 1) hx hb dX12_pay_22 (by decide) ?_
      refine b_icmp_ge (tgt := 33) hx hb dX12_pay_23 (by decide) (fun c_13 => ?_) (fun c_13 => ?_)
      ·
        refine lv_iload_n hx hb dX12_pay_33 rfl (lv_at hl 3 rfl) ?_
        refine lv_sipush (v := 9999) hx hb dX12_pay_34 (by decide) ?_
        refine b_icmp_gt (tgt := 53) hx hb dX12_pay_37 (by decide) (fun c_14 => ?_) (fun c_14 => ?_)
        ·
          refine lv_aload_n hx hb dX12_pay_53 rfl (lv_at hl 0 rfl) ?_
          refine lv_bipush (v := (-6)) hx hb dX12_pay_54 (by decide) ?_
          refine q_fi (q_runV (t := 0) (i := 0) (As := [.int (-6)]) (rest := []) C hU (c_X12_refuse hG (-6) (by omega)) vm_X12_refuse ml_X12_164 k_0.1 (hc := rfl) rfl (h1_0 hG) hl.1 rfl rfl (Nat.le_of_ble_eq_true rfl) dX12_pay_56 rfl rfl ⟨Nat.le_of_ble_eq_true rfl, Nat.le_of_ble_eq_true rfl⟩ ⟨Nat.le_refl _, Nat.le_refl _⟩) hS (fun x_20 iv_16 rv_17 H locs hG fa_18 fb_19 hp_15 hU hS => ?_)
          have hF1 := hF1.tr (m := ([16, 38], [])) fa_18 (by decide)
          have hF2 := hF2.tr (m := ([16, 38], [])) fb_19 (by decide)
          exact hret (⟨hG, hF1, hF2, sp_no (z := (-6)) (by unfold spPay; (repeat' split) <;> first | rfl | omega) (by decide) hp_15 (fun k => fa_18.arr 38 0 k (by decide))⟩) hU hS dX12_pay_59
        ·
          refine lv_aload_n hx hb dX12_pay_40 rfl (lv_at hl 0 rfl) ?_
          refine lv_iload_n hx hb dX12_pay_41 rfl (lv_at hl 1 rfl) ?_
          refine q_pi (q_runV (t := 0) (i := 0) (As := [.int cl]) (rest := []) C hU (c_X12_settledOf_x hG cl (by omega)) vm_X12_settledOf ml_X12_287 k_0.1 (hc := rfl) rfl (h1_0 hG) hl.1 rfl rfl (Nat.le_of_ble_eq_true rfl) dX12_pay_42 rfl rfl ⟨Nat.le_of_ble_eq_true rfl, Nat.le_of_ble_eq_true rfl⟩ ⟨Nat.le_refl _, Nat.le_refl _⟩) hS (fun x_22 H locs hp_21 hU hS => ?_)
          refine lv_iload_n hx hb dX12_pay_45 rfl (lv_at hl 3 rfl) ?_
          refine lv_iadd hx hb dX12_pay_46 ?_
          refine lv_topi (fun x_23 e_24 => ?_)
          have h46 := e_24
          rw [hp_21] at h46
          have t46 := congrArg Int32.toInt h46
          refine lv_ldcw (v := 99999) hx hb C.1.2.2.2.1 (C.1.2.2.2.2 _ ct_X12_293) dX12_pay_47 ?_
          refine b_icmp_le (tgt := 60) hx hb dX12_pay_50 (by decide) (fun c_25 => ?_) (fun c_25 => ?_)
          ·
            refine lv_aload_n hx hb dX12_pay_60 rfl (lv_at hl 0 rfl) ?_
            refine g_0_45 C hU hG (h1_0 hG) fl_X12_122 dX12_pay_61 ?_
            refine lv_iconst (v := 5) hx hb dX12_pay_64 (by decide) ?_
            refine lv_iload_n hx hb dX12_pay_65 rfl (lv_at hl 1 rfl) ?_
            refine lv_imul hx hb dX12_pay_66 ?_
            refine lv_topi (fun x_26 e_27 => ?_)
            have te_27 : x_26.toInt = 5 * (cl : Int32).toInt := by rw [e_27, fb_mulI (by rw [show (5 : Int32).toInt = 5 from by decide]; omega) (by rw [show (5 : Int32).toInt = 5 from by decide]; omega), show (5 : Int32).toInt = 5 from by decide]
            refine lv_iload_n hx hb dX12_pay_67 rfl (lv_at hl 2 rfl) ?_
            refine lv_iadd hx hb dX12_pay_68 ?_
            refine lv_topi (fun x_28 e_29 => ?_)
            have te_29 : x_28.toInt = (x_26 : Int32).toInt + (pp : Int32).toInt := by rw [e_29]; exact fb_addI (by omega) (by omega)
            refine lv_dup2_11 hx hb dX12_pay_69 rfl rfl ?_
            refine a_38 C hU hG (h1_38 hG) (x := x_28) (by omega) (by omega) dX12_pay_70 (fun x_30 e_31 => ?_)
            have te_31 := congrArg Int32.toInt e_31
            refine lv_iload_n hx hb dX12_pay_71 rfl (lv_at hl 3 rfl) ?_
            refine lv_iadd hx hb dX12_pay_72 ?_
            refine lv_topi (fun x_32 e_33 => ?_)
            refine s_38 C hU hS (h1_38 hG) (x := x_28) (by omega) (by omega) dX12_pay_73 (fun iv_34 H locs ei_35 hU hS => ?_)
            have hG : GI al iv_34 rv := by rw [ei_35]; exact hG.puti (show _ ∧ _ from ⟨(fb_rng _).1, Int.le_of_lt_add_one (fb_rng _).2⟩) (nsA (by decide) _)
            have hF1 : FR ([16, 38], []) iv iv_34 := by rw [ei_35]; exact hF1.put (Or.inl (by decide))
            refine lv_aload_n hx hb dX12_pay_74 rfl (lv_at hl 0 rfl) ?_
            refine lv_iload_n hx hb dX12_pay_75 rfl (lv_at hl 1 rfl) ?_
            refine q_pi (q_runV (t := 0) (i := 0) (As := [.int cl]) (rest := []) C hU (c_X12_settledOf_x hG cl (by omega)) vm_X12_settledOf ml_X12_287 k_0.1 (hc := rfl) rfl (h1_0 hG) hl.1 rfl rfl (Nat.le_of_ble_eq_true rfl) dX12_pay_76 rfl rfl ⟨Nat.le_of_ble_eq_true rfl, Nat.le_of_ble_eq_true rfl⟩ ⟨Nat.le_refl _, Nat.le_refl _⟩) hS (fun x_37 H locs hp_36 hU hS => ?_)
            exact hret (⟨hG, hF1, hF2, Or.inl ⟨(by unfold spPay; (repeat' split) <;> first | rfl | omega), hp_36, fun k => py_ok e_31 e_33 ei_35 (by omega) (by omega)⟩⟩) hU hS dX12_pay_79
          ·
            refine lv_aload_n hx hb dX12_pay_53 rfl (lv_at hl 0 rfl) ?_
            refine lv_bipush (v := (-6)) hx hb dX12_pay_54 (by decide) ?_
            refine q_fi (q_runV (t := 0) (i := 0) (As := [.int (-6)]) (rest := []) C hU (c_X12_refuse hG (-6) (by omega)) vm_X12_refuse ml_X12_164 k_0.1 (hc := rfl) rfl (h1_0 hG) hl.1 rfl rfl (Nat.le_of_ble_eq_true rfl) dX12_pay_56 rfl rfl ⟨Nat.le_of_ble_eq_true rfl, Nat.le_of_ble_eq_true rfl⟩ ⟨Nat.le_refl _, Nat.le_refl _⟩) hS (fun x_43 iv_39 rv_40 H locs hG fa_41 fb_42 hp_38 hU hS => ?_)
            have hF1 := hF1.tr (m := ([16, 38], [])) fa_41 (by decide)
            have hF2 := hF2.tr (m := ([16, 38], [])) fb_42 (by decide)
            exact hret (⟨hG, hF1, hF2, sp_no (z := (-6)) (by unfold spPay; (repeat' split) <;> first | rfl | omega) (by decide) hp_38 (fun k => fa_41.arr 38 0 k (by decide))⟩) hU hS dX12_pay_59
      ·
        refine lv_aload_n hx hb dX12_pay_26 rfl (lv_at hl 0 rfl) ?_
        refine lv_bipush (v := (-4)) hx hb dX12_pay_27 (by decide) ?_
        refine q_fi (q_runV (t := 0) (i := 0) (As := [.int (-4)]) (rest := []) C hU (c_X12_refuse hG (-4) (by omega)) vm_X12_refuse ml_X12_164 k_0.1 (hc := rfl) rfl (h1_0 hG) hl.1 rfl rfl (Nat.le_of_ble_eq_true rfl) dX12_pay_29 rfl rfl ⟨Nat.le_of_ble_eq_true rfl, Nat.le_of_ble_eq_true rfl⟩ ⟨Nat.le_refl _, Nat.le_refl _⟩) hS (fun x_49 iv_45 rv_46 H locs hG fa_47 fb_48 hp_44 hU hS => ?_)
        have hF1 := hF1.tr (m := ([16, 38], [])) fa_47 (by decide)
        have hF2 := hF2.tr (m := ([16, 38], [])) fb_48 (by decide)
        exact hret (⟨hG, hF1, hF2, sp_no (z := (-4)) (by unfold spPay; (repeat' split) <;> first | rfl | omega) (by decide) hp_44 (fun k => fa_47.arr 38 0 k (by decide))⟩) hU hS dX12_pay_32
    ·
      refine lv_aload_n hx hb dX12_pay_15 rfl (lv_at hl 0 rfl) ?_
      refine lv_iconst (v := (-1)) hx hb dX12_pay_16 (by decide) ?_
      refine q_fi (q_runV (t := 0) (i := 0) (As := [.int (-1)]) (rest := []) C hU (c_X12_refuse hG (-1) (by omega)) vm_X12_refuse ml_X12_164 k_0.1 (hc := rfl) rfl (h1_0 hG) hl.1 rfl rfl (Nat.le_of_ble_eq_true rfl) dX12_pay_17 rfl rfl ⟨Nat.le_of_ble_eq_true rfl, Nat.le_of_ble_eq_true rfl⟩ ⟨Nat.le_refl _, Nat.le_refl _⟩) hS (fun x_55 iv_51 rv_52 H locs hG fa_53 fb_54 hp_50 hU hS => ?_)
      have hF1 := hF1.tr (m := ([16, 38], [])) fa_53 (by decide)
      have hF2 := hF2.tr (m := ([16, 38], [])) fb_54 (by decide)
      exact hret (⟨hG, hF1, hF2, sp_no (z := (-1)) (by unfold spPay; (repeat' split) <;> first | rfl | omega) (by decide) hp_50 (fun k => fa_53.arr 38 0 k (by decide))⟩) hU hS dX12_pay_20
set_option maxHeartbeats 4000000 in
set_option maxRecDepth 100000 in
theorem c_X11_pay_x {l : Launch} {D : va_G} {cA : FieldType → ClassId} {sz : Nat} {al : Al} {iv : Iv} {rv : Rv} (hG : GI al iv rv) (cl : Int32) (pp : Int32) (v : Int32) (pre0 : BP iv rv) : Met l yX11_pay (wd yX11_pay cX11_pay 5 (some .int)) (rm 2) (PcW D cA sz al iv rv [.ref (al.2 49 0), .int cl, .int pp, .int v]) (QI D cA sz al (fI al ([51, 89], [(88, 3)]) iv rv (fun r iv' rv' => (spPay iv cl pp v = 0 ∧ r = iv' 88 cl.toNatClampNeg 3 ∧ (∀ i k : Nat, iv' 89 i k = (if i = cl.toNatClampNeg ∧ k = pp.toNatClampNeg then iv 89 cl.toNatClampNeg pp.toNatClampNeg + v else iv 89 i k)) ∧ (∀ k : Nat, iv' 88 k 3 = (if k = cl.toNatClampNeg then iv 88 cl.toNatClampNeg 3 + v else iv 88 k 3))) ∨ (spPay iv cl pp v ≠ 0 ∧ r = spPay iv cl pp v ∧ (∀ i k : Nat, iv' 89 i k = iv 89 i k) ∧ (∀ k : Nat, iv' 88 k 3 = iv 88 k 3))))) 0 0 (Aq sz) := by
  refine mk_i (by decide) (Nat.le_of_ble_eq_true rfl) rfl ?_
  intro p e s m args below meth c ls Q H locs C hU hS hl hret
  have hx := C.1.1
  have hb := C.1.2.1
  have hl : lv_has ls 5 [(0, .ref (al.2 49 0)), (1, .int cl), (2, .int pp), (3, .int v)] := hl
  have hG0 := hG
  have hn41 := congrArg Int32.toInt pre0.1.1
  have hF1 : FR ([51, 89], [(88, 3)]) iv iv := FR.rf
  have hF2 : FR ([51, 89], [(88, 3)]) rv rv := FR.rf
  have km6 : ((-6) : Int32).toInt = -6 := by decide
  have km4 : ((-4) : Int32).toInt = -4 := by decide
  have km1 : ((-1) : Int32).toInt = -1 := by decide
  have k1 : (1 : Int32).toInt = 1 := by decide
  have k5 : (5 : Int32).toInt = 5 := by decide
  have k9999 : (9999 : Int32).toInt = 9999 := by decide
  have k99999 : (99999 : Int32).toInt = 99999 := by decide
  refine lv_aload_n hx hb dX11_pay_0 rfl (lv_at hl 0 rfl) ?_
  refine g_49_5 C hU hG (h1_49 hG) fl_X11_47 dX11_pay_1 ?_
  refine lv_iload_n hx hb dX11_pay_4 rfl (lv_at hl 1 rfl) ?_
  refine q_pr (q_runV (t := 84) (i := 0) (As := [.int cl]) (rest := []) C hU (c_X3_find hG cl ) vm_X3_find ml_X11_261 k_84.1 (hc := rfl) rfl (h1_84 hG) hl.1 rfl rfl (Nat.le_of_ble_eq_true rfl) dX11_pay_5 rfl rfl ⟨Nat.le_of_ble_eq_true rfl, Nat.le_of_ble_eq_true rfl⟩ ⟨Nat.le_refl _, Nat.le_refl _⟩) hS (fun r_2 H locs hp_1 hU hS => ?_)
  have hb_3 := hp_1.1
  refine b_astore (lv' := [(4, rfv al 88 r_2), (0, .ref (al.2 49 0)), (1, .int cl), (2, .int pp), (3, .int v)]) hx hb dX11_pay_8 hl (by decide) rfl (fun ls hl => ?_)
  refine b_aload (al := al) (t' := 88) (r := r_2) hx hb dX11_pay_10 (lv_at hl 0 rfl) ?_
  refine b_ifnull (tgt := 23) hx hb dX11_pay_12 (by decide) (fun ej_6 => ?_) (fun j_5 ej_6 => ?_)
  ·
    subst ej_6
    have hl : lv_has ls 5 [(4, rfv al 88 none), (0, .ref (al.2 49 0)), (1, .int cl), (2, .int pp), (3, .int v)] := hl
    have hq4 := hp_1.2.2 rfl
    refine lv_aload_n hx hb dX11_pay_23 rfl (lv_at hl 1 rfl) ?_
    refine lv_iconst (v := (-1)) hx hb dX11_pay_24 (by decide) ?_
    refine q_fi (q_runV (t := 49) (i := 0) (As := [.int (-1)]) (rest := []) C hU (c_X11_refuse hG (-1) (by omega)) vm_X11_refuse ml_X11_77 k_49.1 (hc := rfl) rfl (h1_49 hG) hl.1 rfl rfl (Nat.le_of_ble_eq_true rfl) dX11_pay_25 rfl rfl ⟨Nat.le_of_ble_eq_true rfl, Nat.le_of_ble_eq_true rfl⟩ ⟨Nat.le_refl _, Nat.le_refl _⟩) hS (fun x_12 iv_8 rv_9 H locs hG fa_10 fb_11 hp_7 hU hS => ?_)
    have hF1 := hF1.tr (m := ([51, 89], [(88, 3)])) fa_10 (by decide)
    have hF2 := hF2.tr (m := ([51, 89], [(88, 3)])) fb_11 (by decide)
    exact hret (⟨hG, hF1, hF2, sp_no (z := (-1)) (by unfold spPay; (repeat' split) <;> first | rfl | omega) (by decide) hp_7 (⟨fun i k => fa_10.arr 89 i k (by decide), fun k => fa_10 88 k 3 (by decide)⟩)⟩) hU hS dX11_pay_28
  ·
    subst ej_6
    have hl : lv_has ls 5 [(4, .ref (al.2 88 j_5)), (0, .ref (al.2 49 0)), (1, .int cl), (2, .int pp), (3, .int v)] := hl
    have hb_13 : j_5 < al.1 88 := hb_3 j_5 rfl
    have hq4 := hp_1.2.1 _ rfl
    have hn4 := hq4.1
    rw [clamp_n] at hn4
    refine lv_iconst (v := 5) hx hb dX11_pay_15 (by decide) ?_
    refine lv_iload_n hx hb dX11_pay_16 rfl (lv_at hl 3 rfl) ?_
    refine q_pi (q_runS (As := [.int 5, .int pp]) (rest := []) C hU (c_X11_isOneOf  5 pp ) sm_X11_isOneOf ml_X11_85 hl.1 rfl rfl (Nat.le_of_ble_eq_true rfl) dX11_pay_17 rfl rfl ⟨Nat.le_of_ble_eq_true rfl, Nat.le_of_ble_eq_true rfl⟩ ⟨Nat.le_refl _, Nat.le_refl _⟩) hS (fun x_15 H locs hp_14 hU hS => ?_)
    refine b_if_ne (tgt := 29) hx hb dX11_pay_20 (by decide) (fun c_16 => ?_) (fun c_16 => ?_)
    ·
      refine lv_iload_n hx hb dX11_pay_29 rfl (lv_at hl 4 rfl) ?_
      refine lv_iconst (v := 1) hx hb dX11_pay_30 (by decide) ?_
      refine b_icmp_ge (tgt := 41) hx hb dX11_pay_31 (by decide) (fun c_17 => ?_) (fun c_17 => ?_)
      ·
        refine lv_iload_n hx hb dX11_pay_41 rfl (lv_at hl 4 rfl) ?_
        refine lv_sipush (v := 9999) hx hb dX11_pay_42 (by decide) ?_
        refine b_icmp_gt (tgt := 61) hx hb dX11_pay_45 (by decide) (fun c_18 => ?_) (fun c_18 => ?_)
        ·
          refine lv_aload_n hx hb dX11_pay_61 rfl (lv_at hl 1 rfl) ?_
          refine lv_bipush (v := (-6)) hx hb dX11_pay_62 (by decide) ?_
          refine q_fi (q_runV (t := 49) (i := 0) (As := [.int (-6)]) (rest := []) C hU (c_X11_refuse hG (-6) (by omega)) vm_X11_refuse ml_X11_77 k_49.1 (hc := rfl) rfl (h1_49 hG) hl.1 rfl rfl (Nat.le_of_ble_eq_true rfl) dX11_pay_64 rfl rfl ⟨Nat.le_of_ble_eq_true rfl, Nat.le_of_ble_eq_true rfl⟩ ⟨Nat.le_refl _, Nat.le_refl _⟩) hS (fun x_24 iv_20 rv_21 H locs hG fa_22 fb_23 hp_19 hU hS => ?_)
          have hF1 := hF1.tr (m := ([51, 89], [(88, 3)])) fa_22 (by decide)
          have hF2 := hF2.tr (m := ([51, 89], [(88, 3)])) fb_23 (by decide)
          exact hret (⟨hG, hF1, hF2, sp_no (z := (-6)) (by unfold spPay; (repeat' split) <;> first | rfl | omega) (by decide) hp_19 (⟨fun i k => fa_22.arr 89 i k (by decide), fun k => fa_22 88 k 3 (by decide)⟩)⟩) hU hS dX11_pay_67
        ·
          refine lv_aload hx hb dX11_pay_48 (lv_at hl 0 rfl) ?_
          refine g_88_3 C hU hG hb_13 fl_X11_282 dX11_pay_50 (fun x_25 e_26 => ?_)
          have te_26 := congrArg Int32.toInt e_26
          refine lv_iload_n hx hb dX11_pay_53 rfl (lv_at hl 4 rfl) ?_
          refine lv_iadd hx hb dX11_pay_54 ?_
          refine lv_topi (fun x_27 e_28 => ?_)
          have h54 := e_28
          rw [e_26, hq4.1, pre0.2.2.1 cl.toNatClampNeg (by have z := ix_nat (x := cl) (by omega); omega)] at h54
          have t54 := congrArg Int32.toInt h54
          refine lv_ldcw (v := 99999) hx hb C.1.2.2.2.1 (C.1.2.2.2.2 _ ct_X11_288) dX11_pay_55 ?_
          refine b_icmp_le (tgt := 68) hx hb dX11_pay_58 (by decide) (fun c_29 => ?_) (fun c_29 => ?_)
          ·
            refine lv_aload hx hb dX11_pay_68 (lv_at hl 0 rfl) ?_
            refine g_88_2 C hU hG hb_13 fl_X11_289 dX11_pay_70 (fun hb_30 => ?_)
            refine lv_iload_n hx hb dX11_pay_73 rfl (lv_at hl 3 rfl) ?_
            refine lv_dup2_11 hx hb dX11_pay_74 rfl rfl ?_
            refine a_89 C hU hG hb_30 (x := pp) (by omega) (by omega) dX11_pay_75 (fun x_31 e_32 => ?_)
            have te_32 := congrArg Int32.toInt e_32
            refine lv_iload_n hx hb dX11_pay_76 rfl (lv_at hl 4 rfl) ?_
            refine lv_iadd hx hb dX11_pay_77 ?_
            refine lv_topi (fun x_33 e_34 => ?_)
            refine s_89 C hU hS hb_30 (x := pp) (by omega) (by omega) dX11_pay_78 (fun iv_35 H locs ei_36 hU hS => ?_)
            have hG : GI al iv_35 rv := by rw [ei_36]; exact hG.puti (show _ ∧ _ from ⟨(fb_rng _).1, Int.le_of_lt_add_one (fb_rng _).2⟩) (nsA (by decide) _)
            have hF1 : FR ([51, 89], [(88, 3)]) iv iv_35 := by rw [ei_36]; exact hF1.put (Or.inl (by decide))
            refine lv_aload hx hb dX11_pay_79 (lv_at hl 0 rfl) ?_
            refine lv_dup hx hb dX11_pay_81 rfl ?_
            refine g_88_3 C hU hG hb_13 fl_X11_282 dX11_pay_82 (fun x_37 e_38 => ?_)
            have te_38 := congrArg Int32.toInt e_38
            refine lv_iload_n hx hb dX11_pay_85 rfl (lv_at hl 4 rfl) ?_
            refine lv_iadd hx hb dX11_pay_86 ?_
            refine lv_topi (fun x_39 e_40 => ?_)
            refine p_88_3 C hU hS hb_13 fl_X11_282 dX11_pay_87 (fun iv_41 H locs ei_42 hU hS => ?_)
            have hG : GI al iv_41 rv := by rw [ei_42]; exact hG.puti (show _ ∧ _ from ⟨(fb_rng _).1, Int.le_of_lt_add_one (fb_rng _).2⟩) (nsF (by decide))
            have hF1 : FR ([51, 89], [(88, 3)]) iv iv_41 := by rw [ei_42]; exact hF1.put (by decide)
            refine lv_aload hx hb dX11_pay_90 (lv_at hl 0 rfl) ?_
            refine g_88_3 C hU hG hb_13 fl_X11_282 dX11_pay_92 (fun x_43 e_44 => ?_)
            have te_44 := congrArg Int32.toInt e_44
            exact hret (⟨hG, hF1, hF2, Or.inl ⟨(by unfold spPay; (repeat' split) <;> first | rfl | omega), by rw [e_44, hq4.1], fun i k => by rw [ei_42, up3_ne (fun z => absurd z.1 (by decide)), ei_36, hq4.1]; exact py_x e_32 e_34 hq4.1, fun k => by rw [ei_42, hq4.1]; exact py_s e_38 e_40 ei_36 hq4.1⟩⟩) hU hS dX11_pay_95
          ·
            refine lv_aload_n hx hb dX11_pay_61 rfl (lv_at hl 1 rfl) ?_
            refine lv_bipush (v := (-6)) hx hb dX11_pay_62 (by decide) ?_
            refine q_fi (q_runV (t := 49) (i := 0) (As := [.int (-6)]) (rest := []) C hU (c_X11_refuse hG (-6) (by omega)) vm_X11_refuse ml_X11_77 k_49.1 (hc := rfl) rfl (h1_49 hG) hl.1 rfl rfl (Nat.le_of_ble_eq_true rfl) dX11_pay_64 rfl rfl ⟨Nat.le_of_ble_eq_true rfl, Nat.le_of_ble_eq_true rfl⟩ ⟨Nat.le_refl _, Nat.le_refl _⟩) hS (fun x_50 iv_46 rv_47 H locs hG fa_48 fb_49 hp_45 hU hS => ?_)
            have hF1 := hF1.tr (m := ([51, 89], [(88, 3)])) fa_48 (by decide)
            have hF2 := hF2.tr (m := ([51, 89], [(88, 3)])) fb_49 (by decide)
            exact hret (⟨hG, hF1, hF2, sp_no (z := (-6)) (by unfold spPay; (repeat' split) <;> first | rfl | omega) (by decide) hp_45 (⟨fun i k => fa_48.arr 89 i k (by decide), fun k => fa_48 88 k 3 (by decide)⟩)⟩) hU hS dX11_pay_67
      ·
        refine lv_aload_n hx hb dX11_pay_34 rfl (lv_at hl 1 rfl) ?_
        refine lv_bipush (v := (-4)) hx hb dX11_pay_35 (by decide) ?_
        refine q_fi (q_runV (t := 49) (i := 0) (As := [.int (-4)]) (rest := []) C hU (c_X11_refuse hG (-4) (by omega)) vm_X11_refuse ml_X11_77 k_49.1 (hc := rfl) rfl (h1_49 hG) hl.1 rfl rfl (Nat.le_of_ble_eq_true rfl) dX11_pay_37 rfl rfl ⟨Nat.le_of_ble_eq_true rfl, Nat.le_of_ble_eq_true rfl⟩ ⟨Nat.le_refl _, Nat.le_refl _⟩) hS (fun x_56 iv_52 rv_53 H locs hG fa_54 fb_55 hp_51 hU hS => ?_)
        have hF1 := hF1.tr (m := ([51, 89], [(88, 3)])) fa_54 (by decide)
        have hF2 := hF2.tr (m := ([51, 89], [(88, 3)])) fb_55 (by decide)
        exact hret (⟨hG, hF1, hF2, sp_no (z := (-4)) (by unfold spPay; (repeat' split) <;> first | rfl | omega) (by decide) hp_51 (⟨fun i k => fa_54.arr 89 i k (by decide), fun k => fa_54 88 k 3 (by decide)⟩)⟩) hU hS dX11_pay_40
    ·
      refine lv_aload_n hx hb dX11_pay_23 rfl (lv_at hl 1 rfl) ?_
      refine lv_iconst (v := (-1)) hx hb dX11_pay_24 (by decide) ?_
      refine q_fi (q_runV (t := 49) (i := 0) (As := [.int (-1)]) (rest := []) C hU (c_X11_refuse hG (-1) (by omega)) vm_X11_refuse ml_X11_77 k_49.1 (hc := rfl) rfl (h1_49 hG) hl.1 rfl rfl (Nat.le_of_ble_eq_true rfl) dX11_pay_25 rfl rfl ⟨Nat.le_of_ble_eq_true rfl, Nat.le_of_ble_eq_true rfl⟩ ⟨Nat.le_refl _, Nat.le_refl _⟩) hS (fun x_62 iv_58 rv_59 H locs hG fa_60 fb_61 hp_57 hU hS => ?_)
      have hF1 := hF1.tr (m := ([51, 89], [(88, 3)])) fa_60 (by decide)
      have hF2 := hF2.tr (m := ([51, 89], [(88, 3)])) fb_61 (by decide)
      exact hret (⟨hG, hF1, hF2, sp_no (z := (-1)) (by unfold spPay; (repeat' split) <;> first | rfl | omega) (by decide) hp_57 (⟨fun i k => fa_60.arr 89 i k (by decide), fun k => fa_60 88 k 3 (by decide)⟩)⟩) hU hS dX11_pay_28
