section
set_option maxHeartbeats 4000000 in
set_option maxRecDepth 100000 in
theorem c_X12_claim_x {l : Launch} {D : va_G} {cA : FieldType → ClassId} {sz : Nat} {al : Al} {iv : Iv} {rv : Rv} (hG : GI al iv rv) (tt : Int32) : Met l yX12_claim (wd yX12_claim cX12_claim 3 (some .int)) (rm 2) (PcW D cA sz al iv rv [.ref (al.2 0 0), .int tt]) (QI D cA sz al (fI al ([16, 35, 36], [(0, 41)]) iv rv (fun r iv' rv' => (spClaim iv tt = 0 ∧ r.toInt = (iv 0 0 41).toInt ∧ (iv' 0 0 41).toInt = (iv 0 0 41).toInt + 1 ∧ (∀ k : Nat, iv' 35 0 k = (if k = (iv 0 0 41).toNatClampNeg then tt else iv 35 0 k) ∧ iv' 36 0 k = (if k = (iv 0 0 41).toNatClampNeg then iv 0 0 0 else iv 36 0 k))) ∨ (spClaim iv tt ≠ 0 ∧ r = spClaim iv tt ∧ iv' 0 0 41 = iv 0 0 41 ∧ (∀ k : Nat, iv' 35 0 k = iv 35 0 k ∧ iv' 36 0 k = iv 36 0 k))))) 0 0 (Aq sz) := by
  refine mk_i (by decide) (Nat.le_of_ble_eq_true rfl) rfl ?_
  intro p e s m args below meth c ls Q H locs C hU hS hl hret
  have hx := C.1.1
  have hb := C.1.2.1
  have hl : lv_has ls 3 [(0, .ref (al.2 0 0)), (1, .int tt)] := hl
  have hG0 := hG
  have h6 := le6 hG
  have h20 := le20 hG
  have h41 := le41 hG
  have hF1 : FR ([16, 35, 36], [(0, 41)]) iv iv := FR.rf
  have hF2 : FR ([16, 35, 36], [(0, 41)]) rv rv := FR.rf
  have km6 : ((-6) : Int32).toInt = -6 := by decide
  have km3 : ((-3) : Int32).toInt = -3 := by decide
  have km1 : ((-1) : Int32).toInt = -1 := by decide
  have k0 : (0 : Int32).toInt = 0 := by decide
  have k1 : (1 : Int32).toInt = 1 := by decide
  have k30 : (30 : Int32).toInt = 30 := by decide
  refine lv_aload_n hx hb dX12_claim_0 rfl (lv_at hl 0 rfl) ?_
  refine lv_iload_n hx hb dX12_claim_1 rfl (lv_at hl 1 rfl) ?_
  refine q_pi (q_runV (t := 0) (i := 0) (As := [.int tt]) (rest := []) C hU (c_X12_isTraveller hG tt ) vm_X12_isTraveller ml_X12_226 k_0.1 (hc := rfl) rfl (h1_0 hG) hl.1 rfl rfl (Nat.le_of_ble_eq_true rfl) dX12_claim_2 rfl rfl ⟨Nat.le_of_ble_eq_true rfl, Nat.le_of_ble_eq_true rfl⟩ ⟨Nat.le_refl _, Nat.le_refl _⟩) hS (fun x_2 H locs hp_1 hU hS => ?_)
  refine b_if_ne (tgt := 14) hx hb dX12_claim_5 (by decide) (fun c_3 => ?_) (fun c_3 => ?_)
  ·
    refine lv_iconst (v := 0) hx hb dX12_claim_14 (by decide) ?_
    refine lv_istore_n (lv' := [(2, .int 0), (0, .ref (al.2 0 0)), (1, .int tt)]) hx hb dX12_claim_15 rfl hl (by decide) rfl (fun ls hl => ?_)
    have J_16 : ∀ (n_16 : Nat) (l2_4 : Int32) (ls : Array Slot), lv_has ls 3 [(0, .ref (al.2 0 0)), (1, .int tt), (2, .int l2_4)] → (0 ≤ l2_4.toInt ∧ l2_4.toInt ≤ 30) → (ownN iv tt.toInt l2_4.toNatClampNeg).toInt = 0 → l2_4.toInt ≤ (iv 0 0 41).toInt → (30 - l2_4.toInt).toNat < n_16 → W p l e (rm 2) s m args below meth c H locs 0 0 Q (F0 m 16 ls []) := by
      intro n_16
      induction n_16 with
      | zero =>
        intro l2_4 ls hl i16_0 i16_1 i16_2 hm_16
        exact absurd hm_16 (Nat.not_lt_zero _)
      | succ n_16 ih_16 =>
        intro l2_4 ls hl i16_0 i16_1 i16_2 hm_16
        refine lv_iload_n hx hb dX12_claim_16 rfl (lv_at hl 2 rfl) ?_
        refine lv_aload_n hx hb dX12_claim_17 rfl (lv_at hl 0 rfl) ?_
        refine g_0_41 C hU hG (h1_0 hG) fl_X12_275 dX12_claim_18 (fun x_5 e_6 le_6 ue_6 => ?_)
        have te_6 := congrArg Int32.toInt e_6
        refine b_icmp_ge (tgt := 47) hx hb dX12_claim_21 (by decide) (fun c_7 => ?_) (fun c_7 => ?_)
        ·
          have hown := own_end i16_1 (by omega)
          refine lv_aload_n hx hb dX12_claim_47 rfl (lv_at hl 0 rfl) ?_
          refine g_0_41 C hU hG (h1_0 hG) fl_X12_275 dX12_claim_48 (fun x_8 e_9 le_9 ue_9 => ?_)
          have te_9 := congrArg Int32.toInt e_9
          refine lv_bipush (v := 30) hx hb dX12_claim_51 (by decide) ?_
          refine b_icmp_ne (tgt := 63) hx hb dX12_claim_53 (by decide) (fun c_10 => ?_) (fun c_10 => ?_)
          ·
            refine lv_aload_n hx hb dX12_claim_63 rfl (lv_at hl 0 rfl) ?_
            refine g_0_42 C hU hG (h1_0 hG) fl_X12_113 dX12_claim_64 ?_
            refine lv_aload_n hx hb dX12_claim_67 rfl (lv_at hl 0 rfl) ?_
            refine g_0_41 C hU hG (h1_0 hG) fl_X12_275 dX12_claim_68 (fun x_11 e_12 le_12 ue_12 => ?_)
            have te_12 := congrArg Int32.toInt e_12
            refine lv_iload_n hx hb dX12_claim_71 rfl (lv_at hl 1 rfl) ?_
            refine s_35 C hU hS (h1_35 hG) (x := x_11) (by omega) (by omega) dX12_claim_72 (fun iv_13 H locs ei_14 hU hS => ?_)
            have hG : GI al iv_13 rv := by rw [ei_14]; exact hG.put35 ⟨by omega, by omega⟩ (by omega)
            have hF1 : FR ([16, 35, 36], [(0, 41)]) iv iv_13 := by rw [ei_14]; exact hF1.put (Or.inl (by decide))
            have kf_15 := congrArg Int32.toInt (show iv_13 0 0 20 = iv 0 0 20 by rw [ei_14]; exact up3_ne (fun z => absurd z.1 (by decide)))
            have kf_16 := congrArg Int32.toInt (show iv_13 0 0 41 = iv 0 0 41 by rw [ei_14]; exact up3_ne (fun z => absurd z.1 (by decide)))
            refine lv_aload_n hx hb dX12_claim_73 rfl (lv_at hl 0 rfl) ?_
            refine g_0_43 C hU hG (h1_0 hG) fl_X12_116 dX12_claim_74 ?_
            refine lv_aload_n hx hb dX12_claim_77 rfl (lv_at hl 0 rfl) ?_
            refine g_0_41 C hU hG (h1_0 hG) fl_X12_275 dX12_claim_78 (fun x_17 e_18 le_18 ue_18 => ?_)
            have te_18 := congrArg Int32.toInt e_18
            refine lv_aload_n hx hb dX12_claim_81 rfl (lv_at hl 0 rfl) ?_
            refine g_0_0 C hU hG (h1_0 hG) fl_X12_168 dX12_claim_82 (fun x_19 e_20 le_20 ue_20 => ?_)
            have te_20 := congrArg Int32.toInt e_20
            have ne_20 : x_19.toInt = (iv 0 0 0).toInt := by rw [e_20, hF1 0 0 0 (by decide)]
            have htold : x_19 = iv 0 0 0 := by rw [e_20, ei_14, up3_ne (fun z => absurd z.1 (by decide))]
            refine s_36 C hU hS (h1_36 hG) (x := x_17) (by omega) (by omega) dX12_claim_85 (fun iv_21 H locs ei_22 hU hS => ?_)
            have hG : GI al iv_21 rv := by rw [ei_22]; exact hG.puti (show _ ∧ _ from ⟨show (0 : Int) ≤ _ by omega, show _ ≤ (4000 : Int) by omega⟩) (nsA (by decide) _)
            have hF1 : FR ([16, 35, 36], [(0, 41)]) iv iv_21 := by rw [ei_22]; exact hF1.put (Or.inl (by decide))
            have kf_23 := congrArg Int32.toInt (show iv_21 0 0 20 = iv_13 0 0 20 by rw [ei_22]; exact up3_ne (fun z => absurd z.1 (by decide)))
            have kf_24 := congrArg Int32.toInt (show iv_21 0 0 41 = iv_13 0 0 41 by rw [ei_22]; exact up3_ne (fun z => absurd z.1 (by decide)))
            refine lv_aload_n hx hb dX12_claim_86 rfl (lv_at hl 0 rfl) ?_
            refine lv_dup hx hb dX12_claim_87 rfl ?_
            refine g_0_41 C hU hG (h1_0 hG) fl_X12_275 dX12_claim_88 (fun x_25 e_26 le_26 ue_26 => ?_)
            have te_26 := congrArg Int32.toInt e_26
            have a1 : iv_21 35 0 x_25.toNatClampNeg = tt := by rw [ei_22, up3_ne (fun z => absurd z.1 (by decide)), ei_14, clamp_eq (show x_25.toInt = x_11.toInt by omega)]; exact up3_self _ _ _ _ _
            refine lv_iconst (v := 1) hx hb dX12_claim_91 (by decide) ?_
            refine lv_iadd hx hb dX12_claim_92 ?_
            refine lv_topi (fun x_27 e_28 => ?_)
            have te_28 : x_27.toInt = (x_25 : Int32).toInt + (1 : Int32).toInt := by rw [e_28]; exact fb_addI (by omega) (by omega)
            refine p_0_41 C hU hS (h1_0 hG) fl_X12_275 dX12_claim_93 (fun iv_29 H locs ei_30 hU hS => ?_)
            have hG : GI al iv_29 rv := by rw [ei_30]; exact hG.put41 (x := x_25) ⟨by omega, by omega⟩ (by omega) (by omega) (by rw [a1]; omega)
            have hF1 : FR ([16, 35, 36], [(0, 41)]) iv iv_29 := by rw [ei_30]; exact hF1.put (by decide)
            have kf_31 := congrArg Int32.toInt (show iv_29 0 0 20 = iv_21 0 0 20 by rw [ei_30]; exact up3_ne (fun z => absurd z.2.2 (by decide)))
            refine lv_aload_n hx hb dX12_claim_96 rfl (lv_at hl 0 rfl) ?_
            refine g_0_41 C hU hG (h1_0 hG) fl_X12_275 dX12_claim_97 (fun x_32 e_33 le_33 ue_33 => ?_)
            have te_33 := congrArg Int32.toInt e_33
            have hz_ := e_33
            rw [ei_30, up3_self] at hz_
            have tz_ := congrArg Int32.toInt hz_
            refine lv_iconst (v := 1) hx hb dX12_claim_100 (by decide) ?_
            refine lv_isub hx hb dX12_claim_101 ?_
            refine lv_topi (fun x_34 e_35 => ?_)
            have te_35 : x_34.toInt = (x_32 : Int32).toInt - (1 : Int32).toInt := by rw [e_35]; exact fb_subI (by omega) (by omega)
            exact hret (⟨hG, hF1, hF2, Or.inl ⟨(by unfold spClaim; (repeat' split) <;> first | rfl | omega), by omega, by rw [ei_30, up3_self]; omega, fun k => ⟨by rw [ei_30, up3_ne (fun z => absurd z.1 (by decide)), ei_22, up3_ne (fun z => absurd z.1 (by decide)), ei_14, clamp_eq (show (x_11 : Int32).toInt = (iv 0 0 41).toInt by omega), up3_k], by rw [ei_30, up3_ne (fun z => absurd z.1 (by decide)), ei_22, clamp_eq (show (x_17 : Int32).toInt = (iv 0 0 41).toInt by omega), up3_k, htold, ei_14, up3_ne (fun z => absurd z.1 (by decide))]⟩⟩⟩) hU hS dX12_claim_102
          ·
            refine lv_aload_n hx hb dX12_claim_56 rfl (lv_at hl 0 rfl) ?_
            refine lv_bipush (v := (-6)) hx hb dX12_claim_57 (by decide) ?_
            refine q_fi (q_runV (t := 0) (i := 0) (As := [.int (-6)]) (rest := []) C hU (c_X12_refuse hG (-6) (by omega)) vm_X12_refuse ml_X12_164 k_0.1 (hc := rfl) rfl (h1_0 hG) hl.1 rfl rfl (Nat.le_of_ble_eq_true rfl) dX12_claim_59 rfl rfl ⟨Nat.le_of_ble_eq_true rfl, Nat.le_of_ble_eq_true rfl⟩ ⟨Nat.le_refl _, Nat.le_refl _⟩) hS (fun x_41 iv_37 rv_38 H locs hG fa_39 fb_40 hp_36 hU hS => ?_)
            have hF1 := hF1.tr (m := ([16, 35, 36], [(0, 41)])) fa_39 (by decide)
            have hF2 := hF2.tr (m := ([16, 35, 36], [(0, 41)])) fb_40 (by decide)
            have kf_42 := congrArg Int32.toInt (hF1 0 0 20 (by decide))
            exact hret (⟨hG, hF1, hF2, sp_no (z := (-6)) (by unfold spClaim; (repeat' split) <;> first | rfl | omega) (by decide) hp_36 (⟨fa_39 0 0 41 (by decide), fun k => ⟨fa_39.arr 35 0 k (by decide), fa_39.arr 36 0 k (by decide)⟩⟩)⟩) hU hS dX12_claim_62
        ·
          refine lv_aload_n hx hb dX12_claim_24 rfl (lv_at hl 0 rfl) ?_
          refine g_0_42 C hU hG (h1_0 hG) fl_X12_113 dX12_claim_25 ?_
          refine lv_iload_n hx hb dX12_claim_28 rfl (lv_at hl 2 rfl) ?_
          refine a_35 C hU hG (h1_35 hG) (x := l2_4) (by omega) (by omega) dX12_claim_29 (fun x_43 e_44 le_44 ue_44 => ?_)
          have te_44 := congrArg Int32.toInt e_44
          refine lv_iload_n hx hb dX12_claim_30 rfl (lv_at hl 1 rfl) ?_
          refine b_icmp_ne (tgt := 41) hx hb dX12_claim_31 (by decide) (fun c_45 => ?_) (fun c_45 => ?_)
          ·
            obtain ⟨x_46, e_47⟩ : ∃ y : Int32, y = l2_4 + 1 := ⟨_, rfl⟩
            have te_47 : x_46.toInt = (l2_4 : Int32).toInt + (1 : Int32).toInt := by rw [e_47]; exact fb_addI (by omega) (by omega)
            refine lv_iinc (v := x_46) (lv' := [(2, .int x_46), (0, .ref (al.2 0 0)), (1, .int tt)]) hx hb dX12_claim_41 hl (k := 2) rfl (by rw [e_47]; rfl) (by decide) rfl (fun ls hl => ?_)
            refine lv_goto (tgt := 16) hx hb dX12_claim_44 (by decide) ?_
            exact ih_16 x_46 _ (lv_sub hl [1, 2, 0] rfl) (by omega) (by first | exact own_up (by omega) (by omega) i16_1 (by omega) | exact own_0) (by omega) (by omega)
          ·
            have hown := own_hit (iv := iv) (t := tt.toInt) (x := l2_4) (by omega) (by omega)
            refine lv_aload_n hx hb dX12_claim_34 rfl (lv_at hl 0 rfl) ?_
            refine lv_bipush (v := (-3)) hx hb dX12_claim_35 (by decide) ?_
            refine q_fi (q_runV (t := 0) (i := 0) (As := [.int (-3)]) (rest := []) C hU (c_X12_refuse hG (-3) (by omega)) vm_X12_refuse ml_X12_164 k_0.1 (hc := rfl) rfl (h1_0 hG) hl.1 rfl rfl (Nat.le_of_ble_eq_true rfl) dX12_claim_37 rfl rfl ⟨Nat.le_of_ble_eq_true rfl, Nat.le_of_ble_eq_true rfl⟩ ⟨Nat.le_refl _, Nat.le_refl _⟩) hS (fun x_53 iv_49 rv_50 H locs hG fa_51 fb_52 hp_48 hU hS => ?_)
            have hF1 := hF1.tr (m := ([16, 35, 36], [(0, 41)])) fa_51 (by decide)
            have hF2 := hF2.tr (m := ([16, 35, 36], [(0, 41)])) fb_52 (by decide)
            have kf_54 := congrArg Int32.toInt (hF1 0 0 20 (by decide))
            exact hret (⟨hG, hF1, hF2, sp_no (z := (-3)) (by unfold spClaim; (repeat' split) <;> first | rfl | omega) (by decide) hp_48 (⟨fa_51 0 0 41 (by decide), fun k => ⟨fa_51.arr 35 0 k (by decide), fa_51.arr 36 0 k (by decide)⟩⟩)⟩) hU hS dX12_claim_40
    exact J_16 _ 0 _ (lv_sub hl [1, 2, 0] rfl) (by omega) (by first | exact own_up (by omega) (by omega) i16_1 (by omega) | exact own_0) (by omega) (Nat.lt_succ_self _)
  ·
    refine lv_aload_n hx hb dX12_claim_8 rfl (lv_at hl 0 rfl) ?_
    refine lv_iconst (v := (-1)) hx hb dX12_claim_9 (by decide) ?_
    refine q_fi (q_runV (t := 0) (i := 0) (As := [.int (-1)]) (rest := []) C hU (c_X12_refuse hG (-1) (by omega)) vm_X12_refuse ml_X12_164 k_0.1 (hc := rfl) rfl (h1_0 hG) hl.1 rfl rfl (Nat.le_of_ble_eq_true rfl) dX12_claim_10 rfl rfl ⟨Nat.le_of_ble_eq_true rfl, Nat.le_of_ble_eq_true rfl⟩ ⟨Nat.le_refl _, Nat.le_refl _⟩) hS (fun x_60 iv_56 rv_57 H locs hG fa_58 fb_59 hp_55 hU hS => ?_)
    have hF1 := hF1.tr (m := ([16, 35, 36], [(0, 41)])) fa_58 (by decide)
    have hF2 := hF2.tr (m := ([16, 35, 36], [(0, 41)])) fb_59 (by decide)
    have kf_61 := congrArg Int32.toInt (hF1 0 0 20 (by decide))
    exact hret (⟨hG, hF1, hF2, sp_no (z := (-1)) (by unfold spClaim; (repeat' split) <;> first | rfl | omega) (by decide) hp_55 (⟨fa_58 0 0 41 (by decide), fun k => ⟨fa_58.arr 35 0 k (by decide), fa_58.arr 36 0 k (by decide)⟩⟩)⟩) hU hS dX12_claim_13
set_option maxHeartbeats 4000000 in
set_option maxRecDepth 100000 in
theorem c_X11_claim_y {l : Launch} {D : va_G} {cA : FieldType → ClassId} {sz : Nat} {al : Al} {iv : Iv} {rv : Rv} (hG : GI al iv rv) (tt : Int32) (pre0 : BK iv rv) : Met l yX11_claim (wd yX11_claim cX11_claim 3 (some .int)) (rmA 3 2 9) (PcA D cA sz al iv rv [.ref (al.2 49 0), .int tt] (fun _ => True)) (QIA D cA sz (fun r al' iv' rv' => GI al' iv' rv' ∧ EX ([51, 85], [(84, 1), (65, 6)]) al iv rv al' iv' rv' ∧ ((spClaim iv tt = 0 ∧ r.toInt = (iv 84 0 1).toInt ∧ (iv' 84 0 1).toInt = (iv 84 0 1).toInt + 1 ∧ ∃ (aa a9 : Nat) (siz : Int32), siz.toInt = al.1 88 + 1 ∧ al' = grow (grow al 88 aa) 89 a9 ∧ iv' = claimIv iv (al.1 88) tt.toNatClampNeg (iv 49 0 9) siz ∧ rv' = claimRv rv (al.1 88) tt.toNatClampNeg) ∨ (spClaim iv tt ≠ 0 ∧ r = spClaim iv tt ∧ iv' 84 0 1 = iv 84 0 1 ∧ (∀ k : Nat, iv' 65 k 6 = iv 65 k 6))))) 2 9 (Aq sz) := by
  refine mk_ia (by decide) (Nat.le_of_ble_eq_true rfl) rfl ?_
  intro p e s m args below meth c ls Q H locs C hU hS hX hz0 hl hret
  have hx := C.1.1
  have hb := C.1.2.1
  have hl : lv_has ls 3 [(0, .ref (al.2 49 0)), (1, .int tt)] := hl
  have hG0 := hG
  have hn20 := congrArg Int32.toInt pre0.1
  have hn41 := congrArg Int32.toInt pre0.2.1
  have hF1 : FR ([51, 85], [(84, 1), (65, 6)]) iv iv := FR.rf
  have hF2 : FR ([51, 85], [(84, 1), (65, 6)]) rv rv := FR.rf
  have km6 : ((-6) : Int32).toInt = -6 := by decide
  have km3 : ((-3) : Int32).toInt = -3 := by decide
  have km1 : ((-1) : Int32).toInt = -1 := by decide
  refine lv_aload_n hx hb dX11_claim_0 rfl (lv_at hl 0 rfl) ?_
  refine g_49_2 C hU hG (h1_49 hG) fl_X11_26 dX11_claim_1 ?_
  refine lv_iload_n hx hb dX11_claim_4 rfl (lv_at hl 1 rfl) ?_
  refine q_pr (q_runV (t := 63) (i := 0) (As := [.int tt]) (rest := []) C hU (c_X9_find hG tt ) vm_X9_find ml_X11_192 k_63.1 (hc := rfl) rfl (h1_63 hG) hl.1 rfl rfl (Nat.le_of_ble_eq_true rfl) dX11_claim_5 rfl rfl ⟨Nat.le_of_ble_eq_true rfl, Nat.le_of_ble_eq_true rfl⟩ ⟨Nat.le_of_ble_eq_true rfl, Nat.le_of_ble_eq_true rfl⟩) hS (fun r_2 H locs hp_1 hU hS => ?_)
  have hb_3 := hp_1.1
  refine b_astore_n (lv' := [(2, rfv al 65 r_2), (0, .ref (al.2 49 0)), (1, .int tt)]) hx hb dX11_claim_8 rfl hl (by decide) rfl (fun ls hl => ?_)
  refine b_aload_n (al := al) (t' := 65) (r := r_2) hx hb dX11_claim_9 rfl (lv_at hl 0 rfl) ?_
  refine b_ifnonnull (tgt := 19) hx hb dX11_claim_10 (by decide) (fun j_5 ej_6 => ?_) (fun ej_6 => ?_)
  ·
    subst ej_6
    have hl : lv_has ls 3 [(2, .ref (al.2 65 j_5)), (0, .ref (al.2 49 0)), (1, .int tt)] := hl
    have hb_7 : j_5 < al.1 65 := hb_3 j_5 rfl
    have hq3 := hp_1.2.1 _ rfl
    have hn3 := hq3.1
    rw [clamp_n] at hn3
    refine lv_aload_n hx hb dX11_claim_19 rfl (lv_at hl 0 rfl) ?_
    refine g_65_6 C hU hG hb_7 fl_X11_255 dX11_claim_20 (fun x_8 e_9 le_9 ue_9 => ?_)
    have te_9 := congrArg Int32.toInt e_9
    have hcl := cl_own hG0 pre0 hb_7 hq3.1 e_9
    refine b_if_eq (tgt := 33) hx hb dX11_claim_23 (by decide) (fun c_10 => ?_) (fun c_10 => ?_)
    ·
      refine lv_aload_n hx hb dX11_claim_33 rfl (lv_at hl 1 rfl) ?_
      refine g_49_5 C hU hG (h1_49 hG) fl_X11_47 dX11_claim_34 ?_
      refine q_pi (q_runV (t := 84) (i := 0) (As := []) (rest := []) C hU (c_X3_isFull hG  ) vm_X3_isFull ml_X11_258 k_84.1 (hc := rfl) rfl (h1_84 hG) hl.1 rfl rfl (Nat.le_of_ble_eq_true rfl) dX11_claim_37 rfl rfl ⟨Nat.le_of_ble_eq_true rfl, Nat.le_of_ble_eq_true rfl⟩ ⟨Nat.le_of_ble_eq_true rfl, Nat.le_of_ble_eq_true rfl⟩) hS (fun x_12 H locs hp_11 hU hS => ?_)
      refine b_if_eq (tgt := 50) hx hb dX11_claim_40 (by decide) (fun c_13 => ?_) (fun c_13 => ?_)
      ·
        refine lv_aload_n hx hb dX11_claim_50 rfl (lv_at hl 1 rfl) ?_
        refine g_49_5 C hU hG (h1_49 hG) fl_X11_47 dX11_claim_51 ?_
        refine lv_aload_n hx hb dX11_claim_54 rfl (lv_at hl 0 rfl) ?_
        refine lv_aload_n hx hb dX11_claim_55 rfl (lv_at hl 1 rfl) ?_
        refine g_49_9 C hU hG (h1_49 hG) fl_X11_73 dX11_claim_56 (fun x_14 e_15 le_15 ue_15 => ?_)
        have te_15 := congrArg Int32.toInt e_15
        refine q_ciA (q_runVA (t := 84) (i := 0) (As := [.ref (al.2 65 j_5), .int x_14]) (rest := []) C hU (Nat.le_trans hz0 hS.1) (c_X3_add hG (j_5) hb_7 x_14 (by omega) (by omega)) vm_X3_add ml_X11_259 k_84.1 (hc := rfl) rfl (h1_84 hG) hl.1 rfl rfl (Nat.le_of_ble_eq_true rfl) dX11_claim_59 rfl rfl ⟨Nat.le_of_ble_eq_true rfl, Nat.le_of_ble_eq_true rfl⟩ ⟨Nat.le_of_ble_eq_true rfl, Nat.le_of_ble_eq_true rfl⟩) hS (Nat.le_trans hz0 hS.1) (fun x_17 al' iv' rv' H locs hp_16 hU hS _ => ?_)
        exact hret (⟨hp_16.1, (EX.of hF1 hF2).tr hp_16.2.1 (by decide) (by decide), Or.inl ⟨(by unfold spClaim; (repeat' split) <;> first | rfl | omega), by rw [hp_16.2.2.1], claim_cnt hG0 hp_16.2.2.2, (by have z := hp_16.2.2.2; rw [hq3.1, e_15] at z; exact z)⟩⟩) hU hS dX11_claim_62
      ·
        refine lv_aload_n hx hb dX11_claim_43 rfl (lv_at hl 1 rfl) ?_
        refine lv_bipush (v := (-6)) hx hb dX11_claim_44 (by decide) ?_
        refine q_fi (q_runV (t := 49) (i := 0) (As := [.int (-6)]) (rest := []) C hU (c_X11_refuse hG (-6) (by omega)) vm_X11_refuse ml_X11_77 k_49.1 (hc := rfl) rfl (h1_49 hG) hl.1 rfl rfl (Nat.le_of_ble_eq_true rfl) dX11_claim_46 rfl rfl ⟨Nat.le_of_ble_eq_true rfl, Nat.le_of_ble_eq_true rfl⟩ ⟨Nat.le_of_ble_eq_true rfl, Nat.le_of_ble_eq_true rfl⟩) hS (fun x_23 iv_19 rv_20 H locs hG fa_21 fb_22 hp_18 hU hS => ?_)
        have hF1 := hF1.tr (m := ([51, 85], [(84, 1), (65, 6)])) fa_21 (by decide)
        have hF2 := hF2.tr (m := ([51, 85], [(84, 1), (65, 6)])) fb_22 (by decide)
        refine W.widen (k := 2) (n := 9) (Nat.zero_le _) (Nat.zero_le _) ?_
        exact hret (⟨hG, EX.of hF1 hF2, sp_no (z := (-6)) (by unfold spClaim; (repeat' split) <;> first | rfl | omega) (by decide) hp_18 (⟨fa_21 84 0 1 (by decide), fun k => fa_21 65 k 6 (by decide)⟩)⟩) hU hS dX11_claim_49
    ·
      refine lv_aload_n hx hb dX11_claim_26 rfl (lv_at hl 1 rfl) ?_
      refine lv_bipush (v := (-3)) hx hb dX11_claim_27 (by decide) ?_
      refine q_fi (q_runV (t := 49) (i := 0) (As := [.int (-3)]) (rest := []) C hU (c_X11_refuse hG (-3) (by omega)) vm_X11_refuse ml_X11_77 k_49.1 (hc := rfl) rfl (h1_49 hG) hl.1 rfl rfl (Nat.le_of_ble_eq_true rfl) dX11_claim_29 rfl rfl ⟨Nat.le_of_ble_eq_true rfl, Nat.le_of_ble_eq_true rfl⟩ ⟨Nat.le_of_ble_eq_true rfl, Nat.le_of_ble_eq_true rfl⟩) hS (fun x_29 iv_25 rv_26 H locs hG fa_27 fb_28 hp_24 hU hS => ?_)
      have hF1 := hF1.tr (m := ([51, 85], [(84, 1), (65, 6)])) fa_27 (by decide)
      have hF2 := hF2.tr (m := ([51, 85], [(84, 1), (65, 6)])) fb_28 (by decide)
      refine W.widen (k := 2) (n := 9) (Nat.zero_le _) (Nat.zero_le _) ?_
      exact hret (⟨hG, EX.of hF1 hF2, sp_no (z := (-3)) (by unfold spClaim; (repeat' split) <;> first | rfl | omega) (by decide) hp_24 (⟨fa_27 84 0 1 (by decide), fun k => fa_27 65 k 6 (by decide)⟩)⟩) hU hS dX11_claim_32
  ·
    subst ej_6
    have hl : lv_has ls 3 [(2, rfv al 65 none), (0, .ref (al.2 49 0)), (1, .int tt)] := hl
    have hq3 := hp_1.2.2 rfl
    refine lv_aload_n hx hb dX11_claim_13 rfl (lv_at hl 1 rfl) ?_
    refine lv_iconst (v := (-1)) hx hb dX11_claim_14 (by decide) ?_
    refine q_fi (q_runV (t := 49) (i := 0) (As := [.int (-1)]) (rest := []) C hU (c_X11_refuse hG (-1) (by omega)) vm_X11_refuse ml_X11_77 k_49.1 (hc := rfl) rfl (h1_49 hG) hl.1 rfl rfl (Nat.le_of_ble_eq_true rfl) dX11_claim_15 rfl rfl ⟨Nat.le_of_ble_eq_true rfl, Nat.le_of_ble_eq_true rfl⟩ ⟨Nat.le_of_ble_eq_true rfl, Nat.le_of_ble_eq_true rfl⟩) hS (fun x_35 iv_31 rv_32 H locs hG fa_33 fb_34 hp_30 hU hS => ?_)
    have hF1 := hF1.tr (m := ([51, 85], [(84, 1), (65, 6)])) fa_33 (by decide)
    have hF2 := hF2.tr (m := ([51, 85], [(84, 1), (65, 6)])) fb_34 (by decide)
    refine W.widen (k := 2) (n := 9) (Nat.zero_le _) (Nat.zero_le _) ?_
    exact hret (⟨hG, EX.of hF1 hF2, sp_no (z := (-1)) (by unfold spClaim; (repeat' split) <;> first | rfl | omega) (by decide) hp_30 (⟨fa_33 84 0 1 (by decide), fun k => fa_33 65 k 6 (by decide)⟩)⟩) hU hS dX11_claim_18
set_option maxHeartbeats 4000000 in
set_option maxRecDepth 100000 in
theorem c_X12_settledOf_x {l : Launch} {D : va_G} {cA : FieldType → ClassId} {sz : Nat} {al : Al} {iv : Iv} {rv : Rv} (hG : GI al iv rv) (cl : Int32) (pre0 : 0 ≤ cl.toInt ∧ cl.toInt < 30) : Met l yX12_settledOf (wd yX12_settledOf cX12_settledOf 4 (some .int)) (rm 0) (PcW D cA sz al iv rv [.ref (al.2 0 0), .int cl]) (QI D cA sz al (pI iv rv (fun r => r = sdN iv cl.toNatClampNeg 5))) 0 0 (Aq sz) := by
  refine mk_i (by decide) (Nat.le_of_ble_eq_true rfl) rfl ?_
  intro p e s m args below meth c ls Q H locs C hU hS hl hret
  have hx := C.1.1
  have hb := C.1.2.1
  have hl : lv_has ls 4 [(0, .ref (al.2 0 0)), (1, .int cl)] := hl
  have hG0 := hG
  have h6 := le6 hG
  have h20 := le20 hG
  have h41 := le41 hG
  have k0 : (0 : Int32).toInt = 0 := by decide
  have k1 : (1 : Int32).toInt = 1 := by decide
  have k5 : (5 : Int32).toInt = 5 := by decide
  refine lv_iconst (v := 0) hx hb dX12_settledOf_0 (by decide) ?_
  refine lv_istore_n (lv' := [(2, .int 0), (0, .ref (al.2 0 0)), (1, .int cl)]) hx hb dX12_settledOf_1 rfl hl (by decide) rfl (fun ls hl => ?_)
  refine lv_iconst (v := 0) hx hb dX12_settledOf_2 (by decide) ?_
  refine lv_istore_n (lv' := [(3, .int 0), (2, .int 0), (0, .ref (al.2 0 0)), (1, .int cl)]) hx hb dX12_settledOf_3 rfl hl (by decide) rfl (fun ls hl => ?_)
  have J_4 : ∀ (n_4 : Nat) (l2_1 : Int32) (l3_2 : Int32) (ls : Array Slot), lv_has ls 4 [(0, .ref (al.2 0 0)), (1, .int cl), (2, .int l2_1), (3, .int l3_2)] → (0 ≤ l3_2.toInt ∧ l3_2.toInt ≤ 5) → l2_1 = sdN iv cl.toNatClampNeg l3_2.toNatClampNeg → (5 - l3_2.toInt).toNat < n_4 → W p l e (rm 0) s m args below meth c H locs 0 0 Q (F0 m 4 ls []) := by
    intro n_4
    induction n_4 with
    | zero =>
      intro l2_1 l3_2 ls hl i4_0 i4_1 hm_4
      exact absurd hm_4 (Nat.not_lt_zero _)
    | succ n_4 ih_4 =>
      intro l2_1 l3_2 ls hl i4_0 i4_1 hm_4
      refine lv_iload_n hx hb dX12_settledOf_4 rfl (lv_at hl 3 rfl) ?_
      refine lv_iconst (v := 5) hx hb dX12_settledOf_5 (by decide) ?_
      refine b_icmp_ge (tgt := 28) hx hb dX12_settledOf_6 (by decide) (fun c_3 => ?_) (fun c_3 => ?_)
      ·
        refine lv_iload_n hx hb dX12_settledOf_28 rfl (lv_at hl 2 rfl) ?_
        exact hret (⟨rfl, rfl, by rw [i4_1, show (l3_2 : Int32).toNatClampNeg = 5 from by rw [clamp_n]; omega]⟩) hU hS dX12_settledOf_29
      ·
        refine lv_iload_n hx hb dX12_settledOf_9 rfl (lv_at hl 2 rfl) ?_
        refine lv_aload_n hx hb dX12_settledOf_10 rfl (lv_at hl 0 rfl) ?_
        refine g_0_45 C hU hG (h1_0 hG) fl_X12_122 dX12_settledOf_11 ?_
        refine lv_iconst (v := 5) hx hb dX12_settledOf_14 (by decide) ?_
        refine lv_iload_n hx hb dX12_settledOf_15 rfl (lv_at hl 1 rfl) ?_
        refine lv_imul hx hb dX12_settledOf_16 ?_
        refine lv_topi (fun x_4 e_5 => ?_)
        have te_5 : x_4.toInt = 5 * (cl : Int32).toInt := by rw [e_5, fb_mulI (by rw [show (5 : Int32).toInt = 5 from by decide]; omega) (by rw [show (5 : Int32).toInt = 5 from by decide]; omega), show (5 : Int32).toInt = 5 from by decide]
        refine lv_iload_n hx hb dX12_settledOf_17 rfl (lv_at hl 3 rfl) ?_
        refine lv_iadd hx hb dX12_settledOf_18 ?_
        refine lv_topi (fun x_6 e_7 => ?_)
        have te_7 : x_6.toInt = (x_4 : Int32).toInt + (l3_2 : Int32).toInt := by rw [e_7]; exact fb_addI (by omega) (by omega)
        refine a_38 C hU hG (h1_38 hG) (x := x_6) (by omega) (by omega) dX12_settledOf_19 (fun x_8 e_9 => ?_)
        have te_9 := congrArg Int32.toInt e_9
        refine lv_iadd hx hb dX12_settledOf_20 ?_
        refine lv_topi (fun x_10 e_11 => ?_)
        refine lv_istore_n (lv' := [(2, .int x_10), (0, .ref (al.2 0 0)), (1, .int cl), (3, .int l3_2)]) hx hb dX12_settledOf_21 rfl hl (by decide) rfl (fun ls hl => ?_)
        obtain ⟨x_12, e_13⟩ : ∃ y : Int32, y = l3_2 + 1 := ⟨_, rfl⟩
        have te_13 : x_12.toInt = (l3_2 : Int32).toInt + (1 : Int32).toInt := by rw [e_13]; exact fb_addI (by omega) (by omega)
        refine lv_iinc (v := x_12) (lv' := [(3, .int x_12), (2, .int x_10), (0, .ref (al.2 0 0)), (1, .int cl)]) hx hb dX12_settledOf_22 hl (k := 3) rfl (by rw [e_13]; rfl) (by decide) rfl (fun ls hl => ?_)
        refine lv_goto (tgt := 4) hx hb dX12_settledOf_25 (by decide) ?_
        exact ih_4 x_10 x_12 _ (lv_sub hl [2, 3, 1, 0] rfl) (by omega) (by first | exact sd_up i4_1 e_9 e_11 (by omega) (by omega) (by omega) | exact sd_0) (by omega)
  exact J_4 _ 0 0 _ (lv_sub hl [2, 3, 1, 0] rfl) (by omega) (by first | exact sd_up i4_1 True.intro True.intro (by omega) (by omega) (by omega) | exact sd_0) (Nat.lt_succ_self _)
set_option maxHeartbeats 4000000 in
set_option maxRecDepth 100000 in
theorem c_X12_pay_x {l : Launch} {D : va_G} {cA : FieldType → ClassId} {sz : Nat} {al : Al} {iv : Iv} {rv : Rv} (hG : GI al iv rv) (cl : Int32) (pp : Int32) (v : Int32) : Met l yX12_pay (wd yX12_pay cX12_pay 4 (some .int)) (rm 2) (PcW D cA sz al iv rv [.ref (al.2 0 0), .int cl, .int pp, .int v]) (QI D cA sz al (fI al ([16, 38], []) iv rv (fun r iv' rv' => (spPay iv cl pp v = 0 ∧ r = sdN iv' cl.toNatClampNeg 5 ∧ (∀ k : Nat, iv' 38 0 k = (if k = 5 * cl.toNatClampNeg + pp.toNatClampNeg then iv 38 0 (5 * cl.toNatClampNeg + pp.toNatClampNeg) + v else iv 38 0 k))) ∨ (spPay iv cl pp v ≠ 0 ∧ r = spPay iv cl pp v ∧ (∀ k : Nat, iv' 38 0 k = iv 38 0 k))))) 0 0 (Aq sz) := by
  refine mk_i (by decide) (Nat.le_of_ble_eq_true rfl) rfl ?_
  intro p e s m args below meth c ls Q H locs C hU hS hl hret
  have hx := C.1.1
  have hb := C.1.2.1
  have hl : lv_has ls 4 [(0, .ref (al.2 0 0)), (1, .int cl), (2, .int pp), (3, .int v)] := hl
  have hG0 := hG
  have h6 := le6 hG
  have h20 := le20 hG
  have h41 := le41 hG
  have h41 := le41 hG
  have h20 := le20 hG
  have hF1 : FR ([16, 38], []) iv iv := FR.rf
  have hF2 : FR ([16, 38], []) rv rv := FR.rf
  have km6 : ((-6) : Int32).toInt = -6 := by decide
  have km4 : ((-4) : Int32).toInt = -4 := by decide
  have km1 : ((-1) : Int32).toInt = -1 := by decide
  have k1 : (1 : Int32).toInt = 1 := by decide
  have k5 : (5 : Int32).toInt = 5 := by decide
  have k9999 : (9999 : Int32).toInt = 9999 := by decide
  have k99999 : (99999 : Int32).toInt = 99999 := by decide
  refine lv_aload_n hx hb dX12_pay_0 rfl (lv_at hl 0 rfl) ?_
  refine lv_iload_n hx hb dX12_pay_1 rfl (lv_at hl 1 rfl) ?_
  refine q_pi (q_runV (t := 0) (i := 0) (As := [.int cl]) (rest := []) C hU (c_X12_isClaim hG cl ) vm_X12_isClaim ml_X12_281 k_0.1 (hc := rfl) rfl (h1_0 hG) hl.1 rfl rfl (Nat.le_of_ble_eq_true rfl) dX12_pay_2 rfl rfl ⟨Nat.le_of_ble_eq_true rfl, Nat.le_of_ble_eq_true rfl⟩ ⟨Nat.le_refl _, Nat.le_refl _⟩) hS (fun x_2 H locs hp_1 hU hS => ?_)
  refine b_if_eq (tgt := 15) hx hb dX12_pay_5 (by decide) (fun c_3 => ?_) (fun c_3 => ?_)
  ·
    refine lv_aload_n hx hb dX12_pay_15 rfl (lv_at hl 0 rfl) ?_
    refine lv_iconst (v := (-1)) hx hb dX12_pay_16 (by decide) ?_
    refine q_fi (q_runV (t := 0) (i := 0) (As := [.int (-1)]) (rest := []) C hU (c_X12_refuse hG (-1) (by omega)) vm_X12_refuse ml_X12_164 k_0.1 (hc := rfl) rfl (h1_0 hG) hl.1 rfl rfl (Nat.le_of_ble_eq_true rfl) dX12_pay_17 rfl rfl ⟨Nat.le_of_ble_eq_true rfl, Nat.le_of_ble_eq_true rfl⟩ ⟨Nat.le_refl _, Nat.le_refl _⟩) hS (fun x_9 iv_5 rv_6 H locs hG fa_7 fb_8 hp_4 hU hS => ?_)
    have hF1 := hF1.tr (m := ([16, 38], [])) fa_7 (by decide)
    have hF2 := hF2.tr (m := ([16, 38], [])) fb_8 (by decide)
    exact hret (⟨hG, hF1, hF2, sp_no (z := (-1)) (by unfold spPay; (repeat' split) <;> first | rfl | omega) (by decide) hp_4 (fun k => fa_7.arr 38 0 k (by decide))⟩) hU hS dX12_pay_20
  ·
    refine lv_iload_n hx hb dX12_pay_8 rfl (lv_at hl 2 rfl) ?_
    refine q_pi (q_runS (As := [.int pp]) (rest := []) C hU (c_X12_isPayer  pp ) sm_X12_isPayer ml_X12_290 hl.1 rfl rfl (Nat.le_of_ble_eq_true rfl) dX12_pay_9 rfl rfl ⟨Nat.le_of_ble_eq_true rfl, Nat.le_of_ble_eq_true rfl⟩ ⟨Nat.le_refl _, Nat.le_refl _⟩) hS (fun x_11 H locs hp_10 hU hS => ?_)
    refine b_if_ne (tgt := 21) hx hb dX12_pay_12 (by decide) (fun c_12 => ?_) (fun c_12 => ?_)
    ·
      refine lv_iload_n hx hb dX12_pay_21 rfl (lv_at hl 3 rfl) ?_
      refine lv_iconst (v := 1) hx hb dX12_pay_22 (by decide) ?_
      refine b_icmp_ge (tgt := 33) hx hb dX12_pay_23 (by decide) (fun c_13 => ?_) (fun c_13 => ?_)
      ·
        refine lv_iload_n hx hb dX12_pay_33 rfl (lv_at hl 3 rfl) ?_
        refine lv_sipush (v := 9999) hx hb dX12_pay_34 (by decide) ?_
        refine b_icmp_gt (tgt := 53) hx hb dX12_pay_37 (by decide) (fun c_14 => ?_) (fun c_14 => ?_)
        ·
          refine lv_aload_n hx hb dX12_pay_53 rfl (lv_at hl 0 rfl) ?_
          refine lv_bipush (v := (-6)) hx hb dX12_pay_54 (by decide) ?_
          refine q_fi (q_runV (t := 0) (i := 0) (As := [.int (-6)]) (rest := []) C hU (c_X12_refuse hG (-6) (by omega)) vm_X12_refuse ml_X12_164 k_0.1 (hc := rfl) rfl (h1_0 hG) hl.1 rfl rfl (Nat.le_of_ble_eq_true rfl) dX12_pay_56 rfl rfl ⟨Nat.le_of_ble_eq_true rfl, Nat.le_of_ble_eq_true rfl⟩ ⟨Nat.le_refl _, Nat.le_refl _⟩) hS (fun x_20 iv_16 rv_17 H locs hG fa_18 fb_19 hp_15 hU hS => ?_)
          have hF1 := hF1.tr (m := ([16, 38], [])) fa_18 (by decide)
          have hF2 := hF2.tr (m := ([16, 38], [])) fb_19 (by decide)
          exact hret (⟨hG, hF1, hF2, sp_no (z := (-6)) (by unfold spPay; (repeat' split) <;> first | rfl | omega) (by decide) hp_15 (fun k => fa_18.arr 38 0 k (by decide))⟩) hU hS dX12_pay_59
        ·
          refine lv_aload_n hx hb dX12_pay_40 rfl (lv_at hl 0 rfl) ?_
          refine lv_iload_n hx hb dX12_pay_41 rfl (lv_at hl 1 rfl) ?_
          refine q_pi (q_runV (t := 0) (i := 0) (As := [.int cl]) (rest := []) C hU (c_X12_settledOf_x hG cl (by omega)) vm_X12_settledOf ml_X12_287 k_0.1 (hc := rfl) rfl (h1_0 hG) hl.1 rfl rfl (Nat.le_of_ble_eq_true rfl) dX12_pay_42 rfl rfl ⟨Nat.le_of_ble_eq_true rfl, Nat.le_of_ble_eq_true rfl⟩ ⟨Nat.le_refl _, Nat.le_refl _⟩) hS (fun x_22 H locs hp_21 hU hS => ?_)
          refine lv_iload_n hx hb dX12_pay_45 rfl (lv_at hl 3 rfl) ?_
          refine lv_iadd hx hb dX12_pay_46 ?_
          refine lv_topi (fun x_23 e_24 => ?_)
          have h46 := e_24
          rw [hp_21] at h46
          have t46 := congrArg Int32.toInt h46
          refine lv_ldcw (v := 99999) hx hb C.1.2.2.2.1 (C.1.2.2.2.2 _ ct_X12_293) dX12_pay_47 ?_
          refine b_icmp_le (tgt := 60) hx hb dX12_pay_50 (by decide) (fun c_25 => ?_) (fun c_25 => ?_)
          ·
            refine lv_aload_n hx hb dX12_pay_60 rfl (lv_at hl 0 rfl) ?_
            refine g_0_45 C hU hG (h1_0 hG) fl_X12_122 dX12_pay_61 ?_
            refine lv_iconst (v := 5) hx hb dX12_pay_64 (by decide) ?_
            refine lv_iload_n hx hb dX12_pay_65 rfl (lv_at hl 1 rfl) ?_
            refine lv_imul hx hb dX12_pay_66 ?_
            refine lv_topi (fun x_26 e_27 => ?_)
            have te_27 : x_26.toInt = 5 * (cl : Int32).toInt := by rw [e_27, fb_mulI (by rw [show (5 : Int32).toInt = 5 from by decide]; omega) (by rw [show (5 : Int32).toInt = 5 from by decide]; omega), show (5 : Int32).toInt = 5 from by decide]
            refine lv_iload_n hx hb dX12_pay_67 rfl (lv_at hl 2 rfl) ?_
            refine lv_iadd hx hb dX12_pay_68 ?_
            refine lv_topi (fun x_28 e_29 => ?_)
            have te_29 : x_28.toInt = (x_26 : Int32).toInt + (pp : Int32).toInt := by rw [e_29]; exact fb_addI (by omega) (by omega)
            refine lv_dup2_11 hx hb dX12_pay_69 rfl rfl ?_
            refine a_38 C hU hG (h1_38 hG) (x := x_28) (by omega) (by omega) dX12_pay_70 (fun x_30 e_31 => ?_)
            have te_31 := congrArg Int32.toInt e_31
            refine lv_iload_n hx hb dX12_pay_71 rfl (lv_at hl 3 rfl) ?_
            refine lv_iadd hx hb dX12_pay_72 ?_
            refine lv_topi (fun x_32 e_33 => ?_)
            refine s_38 C hU hS (h1_38 hG) (x := x_28) (by omega) (by omega) dX12_pay_73 (fun iv_34 H locs ei_35 hU hS => ?_)
            have hG : GI al iv_34 rv := by rw [ei_35]; exact hG.puti (show _ ∧ _ from ⟨(fb_rng _).1, Int.le_of_lt_add_one (fb_rng _).2⟩) (nsA (by decide) _)
            have hF1 : FR ([16, 38], []) iv iv_34 := by rw [ei_35]; exact hF1.put (Or.inl (by decide))
            refine lv_aload_n hx hb dX12_pay_74 rfl (lv_at hl 0 rfl) ?_
            refine lv_iload_n hx hb dX12_pay_75 rfl (lv_at hl 1 rfl) ?_
            refine q_pi (q_runV (t := 0) (i := 0) (As := [.int cl]) (rest := []) C hU (c_X12_settledOf_x hG cl (by omega)) vm_X12_settledOf ml_X12_287 k_0.1 (hc := rfl) rfl (h1_0 hG) hl.1 rfl rfl (Nat.le_of_ble_eq_true rfl) dX12_pay_76 rfl rfl ⟨Nat.le_of_ble_eq_true rfl, Nat.le_of_ble_eq_true rfl⟩ ⟨Nat.le_refl _, Nat.le_refl _⟩) hS (fun x_37 H locs hp_36 hU hS => ?_)
            exact hret (⟨hG, hF1, hF2, Or.inl ⟨(by unfold spPay; (repeat' split) <;> first | rfl | omega), hp_36, fun k => py_ok e_31 e_33 ei_35 (by omega) (by omega)⟩⟩) hU hS dX12_pay_79
          ·
            refine lv_aload_n hx hb dX12_pay_53 rfl (lv_at hl 0 rfl) ?_
            refine lv_bipush (v := (-6)) hx hb dX12_pay_54 (by decide) ?_
            refine q_fi (q_runV (t := 0) (i := 0) (As := [.int (-6)]) (rest := []) C hU (c_X12_refuse hG (-6) (by omega)) vm_X12_refuse ml_X12_164 k_0.1 (hc := rfl) rfl (h1_0 hG) hl.1 rfl rfl (Nat.le_of_ble_eq_true rfl) dX12_pay_56 rfl rfl ⟨Nat.le_of_ble_eq_true rfl, Nat.le_of_ble_eq_true rfl⟩ ⟨Nat.le_refl _, Nat.le_refl _⟩) hS (fun x_43 iv_39 rv_40 H locs hG fa_41 fb_42 hp_38 hU hS => ?_)
            have hF1 := hF1.tr (m := ([16, 38], [])) fa_41 (by decide)
            have hF2 := hF2.tr (m := ([16, 38], [])) fb_42 (by decide)
            exact hret (⟨hG, hF1, hF2, sp_no (z := (-6)) (by unfold spPay; (repeat' split) <;> first | rfl | omega) (by decide) hp_38 (fun k => fa_41.arr 38 0 k (by decide))⟩) hU hS dX12_pay_59
      ·
        refine lv_aload_n hx hb dX12_pay_26 rfl (lv_at hl 0 rfl) ?_
        refine lv_bipush (v := (-4)) hx hb dX12_pay_27 (by decide) ?_
        refine q_fi (q_runV (t := 0) (i := 0) (As := [.int (-4)]) (rest := []) C hU (c_X12_refuse hG (-4) (by omega)) vm_X12_refuse ml_X12_164 k_0.1 (hc := rfl) rfl (h1_0 hG) hl.1 rfl rfl (Nat.le_of_ble_eq_true rfl) dX12_pay_29 rfl rfl ⟨Nat.le_of_ble_eq_true rfl, Nat.le_of_ble_eq_true rfl⟩ ⟨Nat.le_refl _, Nat.le_refl _⟩) hS (fun x_49 iv_45 rv_46 H locs hG fa_47 fb_48 hp_44 hU hS => ?_)
        have hF1 := hF1.tr (m := ([16, 38], [])) fa_47 (by decide)
        have hF2 := hF2.tr (m := ([16, 38], [])) fb_48 (by decide)
        exact hret (⟨hG, hF1, hF2, sp_no (z := (-4)) (by unfold spPay; (repeat' split) <;> first | rfl | omega) (by decide) hp_44 (fun k => fa_47.arr 38 0 k (by decide))⟩) hU hS dX12_pay_32
    ·
      refine lv_aload_n hx hb dX12_pay_15 rfl (lv_at hl 0 rfl) ?_
      refine lv_iconst (v := (-1)) hx hb dX12_pay_16 (by decide) ?_
      refine q_fi (q_runV (t := 0) (i := 0) (As := [.int (-1)]) (rest := []) C hU (c_X12_refuse hG (-1) (by omega)) vm_X12_refuse ml_X12_164 k_0.1 (hc := rfl) rfl (h1_0 hG) hl.1 rfl rfl (Nat.le_of_ble_eq_true rfl) dX12_pay_17 rfl rfl ⟨Nat.le_of_ble_eq_true rfl, Nat.le_of_ble_eq_true rfl⟩ ⟨Nat.le_refl _, Nat.le_refl _⟩) hS (fun x_55 iv_51 rv_52 H locs hG fa_53 fb_54 hp_50 hU hS => ?_)
      have hF1 := hF1.tr (m := ([16, 38], [])) fa_53 (by decide)
      have hF2 := hF2.tr (m := ([16, 38], [])) fb_54 (by decide)
      exact hret (⟨hG, hF1, hF2, sp_no (z := (-1)) (by unfold spPay; (repeat' split) <;> first | rfl | omega) (by decide) hp_50 (fun k => fa_53.arr 38 0 k (by decide))⟩) hU hS dX12_pay_20
set_option maxHeartbeats 4000000 in
set_option maxRecDepth 100000 in
theorem c_X11_pay_x {l : Launch} {D : va_G} {cA : FieldType → ClassId} {sz : Nat} {al : Al} {iv : Iv} {rv : Rv} (hG : GI al iv rv) (cl : Int32) (pp : Int32) (v : Int32) (pre0 : BP iv rv) : Met l yX11_pay (wd yX11_pay cX11_pay 5 (some .int)) (rm 2) (PcW D cA sz al iv rv [.ref (al.2 49 0), .int cl, .int pp, .int v]) (QI D cA sz al (fI al ([51, 89], [(88, 3)]) iv rv (fun r iv' rv' => (spPay iv cl pp v = 0 ∧ r = iv' 88 cl.toNatClampNeg 3 ∧ (∀ i k : Nat, iv' 89 i k = (if i = cl.toNatClampNeg ∧ k = pp.toNatClampNeg then iv 89 cl.toNatClampNeg pp.toNatClampNeg + v else iv 89 i k)) ∧ (∀ k : Nat, iv' 88 k 3 = (if k = cl.toNatClampNeg then iv 88 cl.toNatClampNeg 3 + v else iv 88 k 3))) ∨ (spPay iv cl pp v ≠ 0 ∧ r = spPay iv cl pp v ∧ (∀ i k : Nat, iv' 89 i k = iv 89 i k) ∧ (∀ k : Nat, iv' 88 k 3 = iv 88 k 3))))) 0 0 (Aq sz) := by
  refine mk_i (by decide) (Nat.le_of_ble_eq_true rfl) rfl ?_
  intro p e s m args below meth c ls Q H locs C hU hS hl hret
  have hx := C.1.1
  have hb := C.1.2.1
  have hl : lv_has ls 5 [(0, .ref (al.2 49 0)), (1, .int cl), (2, .int pp), (3, .int v)] := hl
  have hG0 := hG
  have hn41 := congrArg Int32.toInt pre0.1.1
  have hF1 : FR ([51, 89], [(88, 3)]) iv iv := FR.rf
  have hF2 : FR ([51, 89], [(88, 3)]) rv rv := FR.rf
  have km6 : ((-6) : Int32).toInt = -6 := by decide
  have km4 : ((-4) : Int32).toInt = -4 := by decide
  have km1 : ((-1) : Int32).toInt = -1 := by decide
  have k1 : (1 : Int32).toInt = 1 := by decide
  have k5 : (5 : Int32).toInt = 5 := by decide
  have k9999 : (9999 : Int32).toInt = 9999 := by decide
  have k99999 : (99999 : Int32).toInt = 99999 := by decide
  refine lv_aload_n hx hb dX11_pay_0 rfl (lv_at hl 0 rfl) ?_
  refine g_49_5 C hU hG (h1_49 hG) fl_X11_47 dX11_pay_1 ?_
  refine lv_iload_n hx hb dX11_pay_4 rfl (lv_at hl 1 rfl) ?_
  refine q_pr (q_runV (t := 84) (i := 0) (As := [.int cl]) (rest := []) C hU (c_X3_find hG cl ) vm_X3_find ml_X11_261 k_84.1 (hc := rfl) rfl (h1_84 hG) hl.1 rfl rfl (Nat.le_of_ble_eq_true rfl) dX11_pay_5 rfl rfl ⟨Nat.le_of_ble_eq_true rfl, Nat.le_of_ble_eq_true rfl⟩ ⟨Nat.le_refl _, Nat.le_refl _⟩) hS (fun r_2 H locs hp_1 hU hS => ?_)
  have hb_3 := hp_1.1
  refine b_astore (lv' := [(4, rfv al 88 r_2), (0, .ref (al.2 49 0)), (1, .int cl), (2, .int pp), (3, .int v)]) hx hb dX11_pay_8 hl (by decide) rfl (fun ls hl => ?_)
  refine b_aload (al := al) (t' := 88) (r := r_2) hx hb dX11_pay_10 (lv_at hl 0 rfl) ?_
  refine b_ifnull (tgt := 23) hx hb dX11_pay_12 (by decide) (fun ej_6 => ?_) (fun j_5 ej_6 => ?_)
  ·
    subst ej_6
    have hl : lv_has ls 5 [(4, rfv al 88 none), (0, .ref (al.2 49 0)), (1, .int cl), (2, .int pp), (3, .int v)] := hl
    have hq4 := hp_1.2.2 rfl
    refine lv_aload_n hx hb dX11_pay_23 rfl (lv_at hl 1 rfl) ?_
    refine lv_iconst (v := (-1)) hx hb dX11_pay_24 (by decide) ?_
    refine q_fi (q_runV (t := 49) (i := 0) (As := [.int (-1)]) (rest := []) C hU (c_X11_refuse hG (-1) (by omega)) vm_X11_refuse ml_X11_77 k_49.1 (hc := rfl) rfl (h1_49 hG) hl.1 rfl rfl (Nat.le_of_ble_eq_true rfl) dX11_pay_25 rfl rfl ⟨Nat.le_of_ble_eq_true rfl, Nat.le_of_ble_eq_true rfl⟩ ⟨Nat.le_refl _, Nat.le_refl _⟩) hS (fun x_12 iv_8 rv_9 H locs hG fa_10 fb_11 hp_7 hU hS => ?_)
    have hF1 := hF1.tr (m := ([51, 89], [(88, 3)])) fa_10 (by decide)
    have hF2 := hF2.tr (m := ([51, 89], [(88, 3)])) fb_11 (by decide)
    exact hret (⟨hG, hF1, hF2, sp_no (z := (-1)) (by unfold spPay; (repeat' split) <;> first | rfl | omega) (by decide) hp_7 (⟨fun i k => fa_10.arr 89 i k (by decide), fun k => fa_10 88 k 3 (by decide)⟩)⟩) hU hS dX11_pay_28
  ·
    subst ej_6
    have hl : lv_has ls 5 [(4, .ref (al.2 88 j_5)), (0, .ref (al.2 49 0)), (1, .int cl), (2, .int pp), (3, .int v)] := hl
    have hb_13 : j_5 < al.1 88 := hb_3 j_5 rfl
    have hq4 := hp_1.2.1 _ rfl
    have hn4 := hq4.1
    rw [clamp_n] at hn4
    refine lv_iconst (v := 5) hx hb dX11_pay_15 (by decide) ?_
    refine lv_iload_n hx hb dX11_pay_16 rfl (lv_at hl 3 rfl) ?_
    refine q_pi (q_runS (As := [.int 5, .int pp]) (rest := []) C hU (c_X11_isOneOf  5 pp ) sm_X11_isOneOf ml_X11_85 hl.1 rfl rfl (Nat.le_of_ble_eq_true rfl) dX11_pay_17 rfl rfl ⟨Nat.le_of_ble_eq_true rfl, Nat.le_of_ble_eq_true rfl⟩ ⟨Nat.le_refl _, Nat.le_refl _⟩) hS (fun x_15 H locs hp_14 hU hS => ?_)
    refine b_if_ne (tgt := 29) hx hb dX11_pay_20 (by decide) (fun c_16 => ?_) (fun c_16 => ?_)
    ·
      refine lv_iload_n hx hb dX11_pay_29 rfl (lv_at hl 4 rfl) ?_
      refine lv_iconst (v := 1) hx hb dX11_pay_30 (by decide) ?_
      refine b_icmp_ge (tgt := 41) hx hb dX11_pay_31 (by decide) (fun c_17 => ?_) (fun c_17 => ?_)
      ·
        refine lv_iload_n hx hb dX11_pay_41 rfl (lv_at hl 4 rfl) ?_
        refine lv_sipush (v := 9999) hx hb dX11_pay_42 (by decide) ?_
        refine b_icmp_gt (tgt := 61) hx hb dX11_pay_45 (by decide) (fun c_18 => ?_) (fun c_18 => ?_)
        ·
          refine lv_aload_n hx hb dX11_pay_61 rfl (lv_at hl 1 rfl) ?_
          refine lv_bipush (v := (-6)) hx hb dX11_pay_62 (by decide) ?_
          refine q_fi (q_runV (t := 49) (i := 0) (As := [.int (-6)]) (rest := []) C hU (c_X11_refuse hG (-6) (by omega)) vm_X11_refuse ml_X11_77 k_49.1 (hc := rfl) rfl (h1_49 hG) hl.1 rfl rfl (Nat.le_of_ble_eq_true rfl) dX11_pay_64 rfl rfl ⟨Nat.le_of_ble_eq_true rfl, Nat.le_of_ble_eq_true rfl⟩ ⟨Nat.le_refl _, Nat.le_refl _⟩) hS (fun x_24 iv_20 rv_21 H locs hG fa_22 fb_23 hp_19 hU hS => ?_)
          have hF1 := hF1.tr (m := ([51, 89], [(88, 3)])) fa_22 (by decide)
          have hF2 := hF2.tr (m := ([51, 89], [(88, 3)])) fb_23 (by decide)
          exact hret (⟨hG, hF1, hF2, sp_no (z := (-6)) (by unfold spPay; (repeat' split) <;> first | rfl | omega) (by decide) hp_19 (⟨fun i k => fa_22.arr 89 i k (by decide), fun k => fa_22 88 k 3 (by decide)⟩)⟩) hU hS dX11_pay_67
        ·
          refine lv_aload hx hb dX11_pay_48 (lv_at hl 0 rfl) ?_
          refine g_88_3 C hU hG hb_13 fl_X11_282 dX11_pay_50 (fun x_25 e_26 => ?_)
          have te_26 := congrArg Int32.toInt e_26
          refine lv_iload_n hx hb dX11_pay_53 rfl (lv_at hl 4 rfl) ?_
          refine lv_iadd hx hb dX11_pay_54 ?_
          refine lv_topi (fun x_27 e_28 => ?_)
          have h54 := e_28
          rw [e_26, hq4.1, pre0.2.2.1 cl.toNatClampNeg (by have z := ix_nat (x := cl) (by omega); omega)] at h54
          have t54 := congrArg Int32.toInt h54
          refine lv_ldcw (v := 99999) hx hb C.1.2.2.2.1 (C.1.2.2.2.2 _ ct_X11_288) dX11_pay_55 ?_
          refine b_icmp_le (tgt := 68) hx hb dX11_pay_58 (by decide) (fun c_29 => ?_) (fun c_29 => ?_)
          ·
            refine lv_aload hx hb dX11_pay_68 (lv_at hl 0 rfl) ?_
            refine g_88_2 C hU hG hb_13 fl_X11_289 dX11_pay_70 (fun hb_30 => ?_)
            refine lv_iload_n hx hb dX11_pay_73 rfl (lv_at hl 3 rfl) ?_
            refine lv_dup2_11 hx hb dX11_pay_74 rfl rfl ?_
            refine a_89 C hU hG hb_30 (x := pp) (by omega) (by omega) dX11_pay_75 (fun x_31 e_32 => ?_)
            have te_32 := congrArg Int32.toInt e_32
            refine lv_iload_n hx hb dX11_pay_76 rfl (lv_at hl 4 rfl) ?_
            refine lv_iadd hx hb dX11_pay_77 ?_
            refine lv_topi (fun x_33 e_34 => ?_)
            refine s_89 C hU hS hb_30 (x := pp) (by omega) (by omega) dX11_pay_78 (fun iv_35 H locs ei_36 hU hS => ?_)
            have hG : GI al iv_35 rv := by rw [ei_36]; exact hG.puti (show _ ∧ _ from ⟨(fb_rng _).1, Int.le_of_lt_add_one (fb_rng _).2⟩) (nsA (by decide) _)
            have hF1 : FR ([51, 89], [(88, 3)]) iv iv_35 := by rw [ei_36]; exact hF1.put (Or.inl (by decide))
            refine lv_aload hx hb dX11_pay_79 (lv_at hl 0 rfl) ?_
            refine lv_dup hx hb dX11_pay_81 rfl ?_
            refine g_88_3 C hU hG hb_13 fl_X11_282 dX11_pay_82 (fun x_37 e_38 => ?_)
            have te_38 := congrArg Int32.toInt e_38
            refine lv_iload_n hx hb dX11_pay_85 rfl (lv_at hl 4 rfl) ?_
            refine lv_iadd hx hb dX11_pay_86 ?_
            refine lv_topi (fun x_39 e_40 => ?_)
            refine p_88_3 C hU hS hb_13 fl_X11_282 dX11_pay_87 (fun iv_41 H locs ei_42 hU hS => ?_)
            have hG : GI al iv_41 rv := by rw [ei_42]; exact hG.puti (show _ ∧ _ from ⟨(fb_rng _).1, Int.le_of_lt_add_one (fb_rng _).2⟩) (nsF (by decide))
            have hF1 : FR ([51, 89], [(88, 3)]) iv iv_41 := by rw [ei_42]; exact hF1.put (by decide)
            refine lv_aload hx hb dX11_pay_90 (lv_at hl 0 rfl) ?_
            refine g_88_3 C hU hG hb_13 fl_X11_282 dX11_pay_92 (fun x_43 e_44 => ?_)
            have te_44 := congrArg Int32.toInt e_44
            exact hret (⟨hG, hF1, hF2, Or.inl ⟨(by unfold spPay; (repeat' split) <;> first | rfl | omega), by rw [e_44, hq4.1], fun i k => by rw [ei_42, up3_ne (fun z => absurd z.1 (by decide)), ei_36, hq4.1]; exact py_x e_32 e_34 hq4.1, fun k => by rw [ei_42, hq4.1]; exact py_s e_38 e_40 ei_36 hq4.1⟩⟩) hU hS dX11_pay_95
          ·
            refine lv_aload_n hx hb dX11_pay_61 rfl (lv_at hl 1 rfl) ?_
            refine lv_bipush (v := (-6)) hx hb dX11_pay_62 (by decide) ?_
            refine q_fi (q_runV (t := 49) (i := 0) (As := [.int (-6)]) (rest := []) C hU (c_X11_refuse hG (-6) (by omega)) vm_X11_refuse ml_X11_77 k_49.1 (hc := rfl) rfl (h1_49 hG) hl.1 rfl rfl (Nat.le_of_ble_eq_true rfl) dX11_pay_64 rfl rfl ⟨Nat.le_of_ble_eq_true rfl, Nat.le_of_ble_eq_true rfl⟩ ⟨Nat.le_refl _, Nat.le_refl _⟩) hS (fun x_50 iv_46 rv_47 H locs hG fa_48 fb_49 hp_45 hU hS => ?_)
            have hF1 := hF1.tr (m := ([51, 89], [(88, 3)])) fa_48 (by decide)
            have hF2 := hF2.tr (m := ([51, 89], [(88, 3)])) fb_49 (by decide)
            exact hret (⟨hG, hF1, hF2, sp_no (z := (-6)) (by unfold spPay; (repeat' split) <;> first | rfl | omega) (by decide) hp_45 (⟨fun i k => fa_48.arr 89 i k (by decide), fun k => fa_48 88 k 3 (by decide)⟩)⟩) hU hS dX11_pay_67
      ·
        refine lv_aload_n hx hb dX11_pay_34 rfl (lv_at hl 1 rfl) ?_
        refine lv_bipush (v := (-4)) hx hb dX11_pay_35 (by decide) ?_
        refine q_fi (q_runV (t := 49) (i := 0) (As := [.int (-4)]) (rest := []) C hU (c_X11_refuse hG (-4) (by omega)) vm_X11_refuse ml_X11_77 k_49.1 (hc := rfl) rfl (h1_49 hG) hl.1 rfl rfl (Nat.le_of_ble_eq_true rfl) dX11_pay_37 rfl rfl ⟨Nat.le_of_ble_eq_true rfl, Nat.le_of_ble_eq_true rfl⟩ ⟨Nat.le_refl _, Nat.le_refl _⟩) hS (fun x_56 iv_52 rv_53 H locs hG fa_54 fb_55 hp_51 hU hS => ?_)
        have hF1 := hF1.tr (m := ([51, 89], [(88, 3)])) fa_54 (by decide)
        have hF2 := hF2.tr (m := ([51, 89], [(88, 3)])) fb_55 (by decide)
        exact hret (⟨hG, hF1, hF2, sp_no (z := (-4)) (by unfold spPay; (repeat' split) <;> first | rfl | omega) (by decide) hp_51 (⟨fun i k => fa_54.arr 89 i k (by decide), fun k => fa_54 88 k 3 (by decide)⟩)⟩) hU hS dX11_pay_40
    ·
      refine lv_aload_n hx hb dX11_pay_23 rfl (lv_at hl 1 rfl) ?_
      refine lv_iconst (v := (-1)) hx hb dX11_pay_24 (by decide) ?_
      refine q_fi (q_runV (t := 49) (i := 0) (As := [.int (-1)]) (rest := []) C hU (c_X11_refuse hG (-1) (by omega)) vm_X11_refuse ml_X11_77 k_49.1 (hc := rfl) rfl (h1_49 hG) hl.1 rfl rfl (Nat.le_of_ble_eq_true rfl) dX11_pay_25 rfl rfl ⟨Nat.le_of_ble_eq_true rfl, Nat.le_of_ble_eq_true rfl⟩ ⟨Nat.le_refl _, Nat.le_refl _⟩) hS (fun x_62 iv_58 rv_59 H locs hG fa_60 fb_61 hp_57 hU hS => ?_)
      have hF1 := hF1.tr (m := ([51, 89], [(88, 3)])) fa_60 (by decide)
      have hF2 := hF2.tr (m := ([51, 89], [(88, 3)])) fb_61 (by decide)
      exact hret (⟨hG, hF1, hF2, sp_no (z := (-1)) (by unfold spPay; (repeat' split) <;> first | rfl | omega) (by decide) hp_57 (⟨fun i k => fa_60.arr 89 i k (by decide), fun k => fa_60 88 k 3 (by decide)⟩)⟩) hU hS dX11_pay_28
end
section
def dsN (iv : Iv) (l d : Int) : Nat → Int32
  | 0 => 0
  | n + 1 => if (¬ (dsN iv l d n).toInt = 0) ∨ ((iv 32 0 n).toInt = l ∧ (iv 33 0 n).toInt ≤ d ∧ d ≤ (iv 34 0 n).toInt) then 1 else 0
def drN (iv : Iv) (l a : Int) : Nat → Int
  | 0 => 0
  | k + 1 => drN iv l a k + (if (dsN iv l (a + k) (iv 0 0 37).toNatClampNeg).toInt = 0 then 1 else 0)
def cown (iv : Iv) (c : Nat) : Nat := (iv 35 0 c).toNatClampNeg
def clw (iv : Iv) (c : Nat) : Int32 := lwF iv (cown iv c) (iv 36 0 c)
def caD (iv : Iv) (c : Nat) : Int := (iv 10 0 (thL iv (cown iv c)) / 1440).toInt + 1
def brF (iv : Iv) (c : Nat) : Int32 := if (clw iv c).toInt < 0 then 0 else if (iv 31 0 (clw iv c).toNatClampNeg).toInt < drN iv (clw iv c).toInt (caD iv c) ((iv 36 0 c).toInt - caD iv c + 1).toNat then 1 else 0
noncomputable def wrF (iv : Iv) (c : Nat) : Int32 := if ¬ (brF iv c).toInt = 0 then 0 else smF iv (cown iv c) (iv 36 0 c)
noncomputable def coS (iv : Iv) (c w : Int32) : Int32 := if ¬ (0 ≤ c.toInt ∧ c.toInt < (iv 0 0 41).toInt) then -1 else if ¬ (0 ≤ w.toInt ∧ w.toInt ≤ 5) then -2 else if w.toInt = 0 then iv 35 0 c.toNatClampNeg else if w.toInt = 1 then iv 36 0 c.toNatClampNeg else if w.toInt = 2 then (if ¬ (brF iv c.toNatClampNeg).toInt = 0 then 1 else 0) else if w.toInt = 3 then wrF iv c.toNatClampNeg else if w.toInt = 4 then sdN iv c.toNatClampNeg 5 else oF (sdN iv c.toNatClampNeg 5 - wrF iv c.toNatClampNeg)
theorem ds_0 {iv : Iv} {l d : Int} : (0 : Int32) = dsN iv l d (0 : Int32).toNatClampNeg := by
  rw [show (0 : Int32).toNatClampNeg = 0 from by decide]; rfl
theorem ds_up {iv : Iv} {l d : Int} {b x y : Int32} (h : y.toInt = x.toInt + 1) (h0 : 0 ≤ x.toInt) (i : b = dsN iv l d (x.toNatClampNeg + 1)) : b = dsN iv l d y.toNatClampNeg := by rw [clamp_s h h0]; exact i
theorem ds_y {iv : Iv} {l d : Int} {b : Int32} {n : Nat} (i : b = dsN iv l d n) (h : (¬ b.toInt = 0) ∨ ((iv 32 0 n).toInt = l ∧ (iv 33 0 n).toInt ≤ d ∧ d ≤ (iv 34 0 n).toInt)) : (1 : Int32) = dsN iv l d (n + 1) := by
  show _ = (if (¬ (dsN iv l d n).toInt = 0) ∨ ((iv 32 0 n).toInt = l ∧ (iv 33 0 n).toInt ≤ d ∧ d ≤ (iv 34 0 n).toInt) then 1 else 0)
  rw [← i, if_pos h]
theorem ds_n {iv : Iv} {l d : Int} {b : Int32} {n : Nat} (i : b = dsN iv l d n) (h : ¬ ((¬ b.toInt = 0) ∨ ((iv 32 0 n).toInt = l ∧ (iv 33 0 n).toInt ≤ d ∧ d ≤ (iv 34 0 n).toInt))) : (0 : Int32) = dsN iv l d (n + 1) := by
  show _ = (if (¬ (dsN iv l d n).toInt = 0) ∨ ((iv 32 0 n).toInt = l ∧ (iv 33 0 n).toInt ≤ d ∧ d ≤ (iv 34 0 n).toInt) then 1 else 0)
  rw [← i, if_neg h]
theorem ds_iff {iv : Iv} {l d : Int} : ∀ n : Nat, (¬ (dsN iv l d n).toInt = 0) ↔ ∃ k : Nat, k < n ∧ ((iv 32 0 k).toInt = l ∧ (iv 33 0 k).toInt ≤ d ∧ d ≤ (iv 34 0 k).toInt)
  | 0 => ⟨fun h => absurd (show (0 : Int32).toInt = 0 by decide) h, fun ⟨_, h, _⟩ => absurd h (Nat.not_lt_zero _)⟩
  | n + 1 => by
    have ih := ds_iff (iv := iv) (l := l) (d := d) n
    show (¬ (if (¬ (dsN iv l d n).toInt = 0) ∨ ((iv 32 0 n).toInt = l ∧ (iv 33 0 n).toInt ≤ d ∧ d ≤ (iv 34 0 n).toInt) then (1 : Int32) else 0).toInt = 0) ↔ _
    by_cases q : (¬ (dsN iv l d n).toInt = 0) ∨ ((iv 32 0 n).toInt = l ∧ (iv 33 0 n).toInt ≤ d ∧ d ≤ (iv 34 0 n).toInt)
    · rw [if_pos q]
      refine ⟨fun _ => ?_, fun _ => by decide⟩
      rcases q with q | q
      · obtain ⟨c, h1, h2⟩ := ih.mp q; exact ⟨c, by omega, h2⟩
      · exact ⟨n, Nat.lt_succ_self _, q⟩
    · rw [if_neg q]
      refine ⟨fun z => absurd (show (0 : Int32).toInt = 0 by decide) z, fun ⟨c, h1, h2⟩ => ?_⟩
      exfalso
      by_cases e : c = n
      · rw [e] at h2; exact q (Or.inr h2)
      · exact q (Or.inl (ih.mpr ⟨c, by omega, h2⟩))
theorem dr_0 {iv : Iv} {l A : Int} {x : Int32} (h : x.toInt = A) : (0 : Int32).toInt = drN iv l A (x.toInt - A).toNat := by
  rw [h, Int.sub_self]; show (0 : Int32).toInt = 0; decide
theorem dr_up {iv : Iv} {l A : Int} {n d d' s f n' : Int32} (i : n.toInt = drN iv l A (d.toInt - A).toNat) (hf : f = dsN iv l d.toInt (iv 0 0 37).toNatClampNeg) (hs : (s.toInt = 1 ∧ f.toInt = 0) ∨ (s.toInt = 0 ∧ ¬ f.toInt = 0)) (hn : n'.toInt = n.toInt + s.toInt) (hd : d'.toInt = d.toInt + 1) (hA : A ≤ d.toInt) : n'.toInt = drN iv l A (d'.toInt - A).toNat := by
  have e : (d'.toInt - A).toNat = (d.toInt - A).toNat + 1 := by omega
  rw [e]
  show _ = drN iv l A (d.toInt - A).toNat + (if (dsN iv l (A + ((d.toInt - A).toNat : Nat)) (iv 0 0 37).toNatClampNeg).toInt = 0 then 1 else 0)
  have k : A + (((d.toInt - A).toNat : Nat) : Int) = d.toInt := by omega
  rw [k, ← hf, ← i, hn]
  rcases hs with ⟨a, b⟩ | ⟨a, b⟩
  · rw [if_pos b, a]
  · rw [if_neg b, a]
theorem dr_end {iv : Iv} {l A D : Int} {n d : Int32} (i : n.toInt = drN iv l A (d.toInt - A).toNat) (h : D < d.toInt ∧ (d.toInt ≤ D + 1 ∨ d.toInt = A)) : n.toInt = drN iv l A (D - A + 1).toNat := by
  rw [i]
  have e : (d.toInt - A).toNat = (D - A + 1).toNat := by omega
  rw [e]
theorem dr_split {iv : Iv} {l a : Int} : ∀ m k : Nat, drN iv l a (m + k) = drN iv l a m + drN iv l (a + m) k
  | m, 0 => by show _ = _ + (0 : Int); rw [Int.add_zero]; rfl
  | m, k + 1 => by
    show drN iv l a (m + k) + (if (dsN iv l (a + ((m + k : Nat) : Int)) (iv 0 0 37).toNatClampNeg).toInt = 0 then 1 else 0) = drN iv l a m + (drN iv l (a + m) k + (if (dsN iv l (a + m + (k : Int)) (iv 0 0 37).toNatClampNeg).toInt = 0 then 1 else 0))
    rw [dr_split m k, show a + ((m + k : Nat) : Int) = a + m + (k : Int) by omega, Int.add_assoc]
theorem dr_free {iv : Iv} {l a : Int} : ∀ k : Nat, (∀ j : Nat, j < k → (dsN iv l (a + j) (iv 0 0 37).toNatClampNeg).toInt = 0) → drN iv l a k = k
  | 0, _ => rfl
  | k + 1, h => by
    show drN iv l a k + (if (dsN iv l (a + (k : Int)) (iv 0 0 37).toNatClampNeg).toInt = 0 then 1 else 0) = _
    rw [dr_free k (fun j hj => h j (by omega)), if_pos (h k (Nat.lt_succ_self _))]; omega
theorem dr_stop {iv : Iv} {l a : Int} : ∀ k : Nat, (∀ j : Nat, j < k → ¬ (dsN iv l (a + j) (iv 0 0 37).toNatClampNeg).toInt = 0) → drN iv l a k = 0
  | 0, _ => rfl
  | k + 1, h => by
    show drN iv l a k + (if (dsN iv l (a + (k : Int)) (iv 0 0 37).toNatClampNeg).toInt = 0 then 1 else 0) = _
    rw [dr_stop k (fun j hj => h j (by omega)), if_neg (h k (Nat.lt_succ_self _))]; rfl
def nxP (iv : Iv) (l d : Int) (r : Int32) (n : Nat) : Prop := (r.toInt = -9 ∧ ∀ k : Nat, k < n → ¬ ((iv 81 0 k).toInt = l ∧ d ≤ (iv 83 0 k).toInt)) ∨ ((0 ≤ r.toInt ∧ r.toNatClampNeg < n) ∧ ((iv 81 0 r.toNatClampNeg).toInt = l ∧ d ≤ (iv 83 0 r.toNatClampNeg).toInt) ∧ ∀ k : Nat, k < n → ((iv 81 0 k).toInt = l ∧ d ≤ (iv 83 0 k).toInt) → (iv 82 0 r.toNatClampNeg).toInt ≤ (iv 82 0 k).toInt)
theorem nx_0 {iv : Iv} {l d : Int} : nxP iv l d (-9) (0 : Int32).toNatClampNeg := Or.inl ⟨by decide, fun k hk => by rw [show (0 : Int32).toNatClampNeg = 0 from by decide] at hk; omega⟩
theorem nx_up {iv : Iv} {l d : Int} {r x y : Int32} (h : y.toInt = x.toInt + 1) (h0 : 0 ≤ x.toInt) (i : nxP iv l d r (x.toNatClampNeg + 1)) : nxP iv l d r y.toNatClampNeg := by rw [clamp_s h h0]; exact i
theorem nx_n {iv : Iv} {l d : Int} {r x : Int32} (i : nxP iv l d r x.toNatClampNeg) (h : ¬ ((iv 81 0 x.toNatClampNeg).toInt = l ∧ d ≤ (iv 83 0 x.toNatClampNeg).toInt) ∨ (¬ r.toInt = -9 ∧ (iv 82 0 r.toNatClampNeg).toInt ≤ (iv 82 0 x.toNatClampNeg).toInt)) : nxP iv l d r (x.toNatClampNeg + 1) := by
  generalize x.toNatClampNeg = n at i h
  rcases i with ⟨a, b⟩ | ⟨⟨a0, a1⟩, b, c⟩
  · refine Or.inl ⟨a, fun k hk z => ?_⟩
    by_cases e : k = n
    · rw [e] at z
      rcases h with h | h
      · exact h z
      · exact h.1 a
    · exact b k (by omega) z
  · refine Or.inr ⟨⟨a0, by omega⟩, b, fun k hk z => ?_⟩
    by_cases e : k = n
    · rw [e] at z ⊢
      rcases h with h | h
      · exact absurd z h
      · exact h.2
    · exact c k (by omega) z
theorem nx_y {iv : Iv} {l d : Int} {r x : Int32} (i : nxP iv l d r x.toNatClampNeg) (h : (iv 81 0 x.toNatClampNeg).toInt = l ∧ d ≤ (iv 83 0 x.toNatClampNeg).toInt) (h0 : 0 ≤ x.toInt) (hr : r.toInt = -9 ∨ (iv 82 0 x.toNatClampNeg).toInt < (iv 82 0 r.toNatClampNeg).toInt) : nxP iv l d x (x.toNatClampNeg + 1) := by
  refine Or.inr ⟨⟨h0, Nat.lt_succ_self _⟩, h, fun k hk z => ?_⟩
  by_cases e : k = x.toNatClampNeg
  · rw [e]; exact Int.le_refl _
  · rcases i with ⟨a, b⟩ | ⟨⟨a0, a1⟩, b, c⟩
    · exact absurd z (b k (by omega))
    · have := c k (by omega) z
      omega
theorem nx_end {iv : Iv} {l d : Int} {r x : Int32} (i : nxP iv l d r x.toNatClampNeg) (h : x.toInt = (iv 79 0 4).toInt) (_ : 0 ≤ x.toInt) : nxP iv l d r (iv 79 0 4).toInt.toNat := by
  have e : x.toNatClampNeg = (iv 79 0 4).toInt.toNat := by rw [clamp_n]; omega
  rw [← e]; exact i
theorem dsN_m {iv iv' : Iv} (h : MA iv iv') (l d : Int) : ∀ n : Nat, dsN iv' l d n = dsN iv l d n
  | 0 => rfl
  | n + 1 => by
    show (if (¬ (dsN iv' l d n).toInt = 0) ∨ ((iv' 32 0 n).toInt = l ∧ (iv' 33 0 n).toInt ≤ d ∧ d ≤ (iv' 34 0 n).toInt) then (1 : Int32) else 0) = (if (¬ (dsN iv l d n).toInt = 0) ∨ ((iv 32 0 n).toInt = l ∧ (iv 33 0 n).toInt ≤ d ∧ d ≤ (iv 34 0 n).toInt) then (1 : Int32) else 0)
    rw [dsN_m h l d n, h 32 _ (by decide), h 33 _ (by decide), h 34 _ (by decide)]
theorem drN_m {iv iv' : Iv} (h : MA iv iv') (l a : Int) : ∀ n : Nat, drN iv' l a n = drN iv l a n
  | 0 => rfl
  | n + 1 => by
    show drN iv' l a n + (if (dsN iv' l (a + n) (iv' 0 0 37).toNatClampNeg).toInt = 0 then 1 else 0) = drN iv l a n + (if (dsN iv l (a + n) (iv 0 0 37).toNatClampNeg).toInt = 0 then 1 else 0)
    rw [drN_m h l a n, dsN_m h, h 0 _ (by decide)]
theorem cown_m {iv iv' : Iv} (h : MA iv iv') (c : Nat) : cown iv' c = cown iv c := by unfold cown; rw [h 35 _ (by decide)]
theorem clw_m {iv iv' : Iv} (h : MA iv iv') (c : Nat) : clw iv' c = clw iv c := by unfold clw; rw [cown_m h, lw_m h, h 36 _ (by decide)]
theorem caD_m {iv iv' : Iv} (h : MA iv iv') (c : Nat) : caD iv' c = caD iv c := by unfold caD; rw [cown_m h, thL_m h, h 10 _ (by decide)]
theorem br_m {iv iv' : Iv} (h : MA iv iv') (c : Nat) : brF iv' c = brF iv c := by
  unfold brF; rw [clw_m h, caD_m h, drN_m h, h 31 _ (by decide), h 36 _ (by decide)]
theorem wr_m {iv iv' : Iv} (h : MA iv iv') (c : Nat) : wrF iv' c = wrF iv c := by
  unfold wrF; rw [br_m h, cown_m h, sm_m h, h 36 _ (by decide)]
theorem coS_m {iv iv' : Iv} (h : MA iv iv') (c w : Int32) : coS iv' c w = coS iv c w := by
  unfold coS; rw [br_m h, wr_m h, sdN_m h, h 35 _ (by decide), h 36 _ (by decide), h 0 _ (by decide)]
theorem le37m {al : Al} {iv : Iv} {rv : Rv} (hG : GI al iv rv) : 0 ≤ (iv 0 0 37).toInt ∧ (iv 0 0 37).toInt ≤ 20 := hG.1 0 0 37 (h1_0 hG) (by decide)
theorem le37 {al : Al} {iv : Iv} {rv : Rv} (hG : GI al iv rv) : 0 ≤ (iv 79 0 4).toInt ∧ (iv 79 0 4).toInt ≤ 20 := hG.1 79 0 4 (h1_79 hG) (by decide)
-- how many STOPS are not over
def cSt (iv : Iv) (l d : Int) : Nat → Nat
  | 0 => 0
  | n + 1 => cSt iv l d n + (if (iv 81 0 n).toInt = l ∧ d ≤ (iv 83 0 n).toInt then 1 else 0)
theorem cSt_le {iv : Iv} {l d : Int} : ∀ n : Nat, cSt iv l d n ≤ n
  | 0 => Nat.le_refl _
  | n + 1 => by
    have := cSt_le (iv := iv) (l := l) (d := d) n
    show cSt iv l d n + (if (iv 81 0 n).toInt = l ∧ d ≤ (iv 83 0 n).toInt then 1 else 0) ≤ n + 1
    split <;> omega
theorem cSt_mono {iv : Iv} {l d e : Int} (h : d ≤ e) : ∀ n : Nat, cSt iv l e n ≤ cSt iv l d n
  | 0 => Nat.le_refl _
  | n + 1 => by
    have := cSt_mono (iv := iv) (l := l) h n
    show cSt iv l e n + (if (iv 81 0 n).toInt = l ∧ e ≤ (iv 83 0 n).toInt then 1 else 0) ≤ cSt iv l d n + (if (iv 81 0 n).toInt = l ∧ d ≤ (iv 83 0 n).toInt then 1 else 0)
    by_cases q : (iv 81 0 n).toInt = l ∧ e ≤ (iv 83 0 n).toInt
    · rw [if_pos q, if_pos ⟨q.1, by omega⟩]; omega
    · rw [if_neg q]; split <;> omega
theorem cSt_lt {iv : Iv} {l d e : Int} (h : d ≤ e) {k : Nat} (h1 : (iv 81 0 k).toInt = l ∧ d ≤ (iv 83 0 k).toInt) (h2 : ¬ e ≤ (iv 83 0 k).toInt) : ∀ n : Nat, k < n → cSt iv l e n + 1 ≤ cSt iv l d n
  | 0, hk => absurd hk (Nat.not_lt_zero _)
  | n + 1, hk => by
    have m := cSt_mono (iv := iv) (l := l) h n
    show cSt iv l e n + (if (iv 81 0 n).toInt = l ∧ e ≤ (iv 83 0 n).toInt then 1 else 0) + 1 ≤ cSt iv l d n + (if (iv 81 0 n).toInt = l ∧ d ≤ (iv 83 0 n).toInt then 1 else 0)
    by_cases q : k = n
    · subst q; rw [if_neg (fun z => h2 z.2), if_pos h1]; omega
    · have := cSt_lt h h1 h2 n (by omega)
      by_cases w : (iv 81 0 n).toInt = l ∧ e ≤ (iv 83 0 n).toInt
      · rw [if_pos w, if_pos ⟨w.1, by omega⟩]; omega
      · rw [if_neg w]; split <;> omega
theorem cSt_pos {iv : Iv} {l d : Int} {k : Nat} (h1 : (iv 81 0 k).toInt = l ∧ d ≤ (iv 83 0 k).toInt) : ∀ n : Nat, k < n → 1 ≤ cSt iv l d n
  | 0, hk => absurd hk (Nat.not_lt_zero _)
  | n + 1, hk => by
    show 1 ≤ cSt iv l d n + (if (iv 81 0 n).toInt = l ∧ d ≤ (iv 83 0 n).toInt then 1 else 0)
    by_cases q : k = n
    · subst q; rw [if_pos h1]; omega
    · have := cSt_pos h1 n (by omega); omega
def DR (iv : Iv) (l a b ran day i : Int) : Prop := ran = drN iv l a (min day (b + 1) - a).toNat ∧ a ≤ day ∧ (b < day ∨ i + cSt iv l day (iv 79 0 4).toInt.toNat ≤ (iv 79 0 4).toInt)
end
section
def Cord (iv : Iv) (rv : Rv) : Prop := ∀ k : Nat, (k : Int) < (iv 79 0 4).toInt → (iv 82 0 k).toInt ≤ (iv 83 0 k).toInt
abbrev T_Cord : List Nat := [82, 83]
abbrev F_Cord : List (Nat × Nat) := [(79, 4)]
theorem Cord.keep {al : Al} {iv iv' : Iv} {rv rv' : Rv} (h : Cord iv rv) (hG : GI al iv rv) (e : KP T_Cord F_Cord al iv rv iv' rv') : Cord iv' rv' := by
  intro k hk
  rw [(e 79 0 4 (h1_79 hG) (Or.inr (by decide))).1] at hk
  rw [(e 82 0 k (h1_82 hG) (Or.inl (by decide))).1, (e 83 0 k (h1_83 hG) (Or.inl (by decide))).1]; exact h k hk
theorem spStop_ok {l a b : Int32} {n : Int} (h : spStop l a b n = 0) : a.toInt ≤ b.toInt := by
  unfold spStop at h
  by_cases q : ¬ (0 ≤ l.toInt ∧ l.toInt ≤ 3)
  · rw [if_pos q] at h; exact absurd h (by decide)
  · rw [if_neg q] at h
    by_cases q2 : a.toInt < 0 ∨ b.toInt < a.toInt
    · rw [if_pos q2] at h; exact absurd h (by decide)
    · omega
def BX (iv : Iv) (rv : Rv) : Prop := BQ iv rv ∧ Cbar iv rv ∧ Cstop iv rv ∧ Cclm iv rv
def BV (iv : Iv) (rv : Rv) : Prop := BX iv rv ∧ Cpay iv rv
theorem st_t {iv : Iv} {rv : Rv} (h : Cstop iv rv) (k : Nat) : (iv 32 0 k).toInt = (iv 81 0 k).toInt ∧ (iv 33 0 k).toInt = (iv 82 0 k).toInt ∧ (iv 34 0 k).toInt = (iv 83 0 k).toInt := by
  obtain ⟨a, b, c⟩ := h.2 k
  rw [a, b, c]; exact ⟨rfl, rfl, rfl⟩
theorem nx_ge {iv : Iv} {rv : Rv} {l d : Int} {r : Int32} (h : nxP iv l d r (iv 79 0 4).toInt.toNat) (hO : Cord iv rv) : r.toInt = -9 ∨ ((0 ≤ r.toInt ∧ r.toInt < (iv 79 0 4).toInt) ∧ d ≤ (iv 83 0 r.toNatClampNeg).toInt ∧ (iv 82 0 r.toNatClampNeg).toInt ≤ (iv 83 0 r.toNatClampNeg).toInt) := by
  rcases h with ⟨a, _⟩ | ⟨⟨a0, a1⟩, b, _⟩
  · exact Or.inl a
  · have c : r.toNatClampNeg = r.toInt.toNat := clamp_n
    exact Or.inr ⟨⟨a0, by omega⟩, b.2, hO _ (by omega)⟩
theorem dR_0 {iv : Iv} {rv : Rv} (_ : Cstop iv rv) {l a b : Int} (h0 : 0 ≤ (iv 79 0 4).toInt := by omega) : DR iv l a b (0 : Int32).toInt a (0 : Int32).toInt := by
  have z : (0 : Int32).toInt = 0 := by decide
  rw [z]
  have c := cSt_le (iv := iv) (l := l) (d := a) (iv 79 0 4).toInt.toNat
  refine ⟨?_, Int.le_refl _, ?_⟩
  · by_cases q : a ≤ b + 1
    · rw [show (min a (b + 1) - a).toNat = 0 by omega]; rfl
    · rw [show (min a (b + 1) - a).toNat = 0 by omega]; rfl
  · exact Or.inr (by omega)
theorem ds_cl {iv : Iv} {rv : Rv} (h : Cstop iv rv) {l d : Int} : (¬ (dsN iv l d (iv 0 0 37).toNatClampNeg).toInt = 0) ↔ ∃ k : Nat, k < (iv 79 0 4).toInt.toNat ∧ ((iv 81 0 k).toInt = l ∧ (iv 82 0 k).toInt ≤ d ∧ d ≤ (iv 83 0 k).toInt) := by
  rw [ds_iff]
  have e : (iv 0 0 37).toNatClampNeg = (iv 79 0 4).toInt.toNat := by rw [h.1]; rfl
  rw [e]
  constructor
  · rintro ⟨k, h1, h2⟩
    have t := st_t h k
    exact ⟨k, h1, by omega⟩
  · rintro ⟨k, h1, h2⟩
    have t := st_t h k
    exact ⟨k, h1, by omega⟩
theorem dR_step {iv : Iv} {rv : Rv} (h : Cstop iv rv) (hO : Cord iv rv) {l a b i' ran' : Int} {ran day i nx sf day' : Int32} (d : DR iv l a b ran.toInt day.toInt i.toInt) (hn : nxP iv l day.toInt nx (iv 79 0 4).toInt.toNat) (hb : day.toInt ≤ b) (hr : ran' = ran.toInt + max 0 (sf.toInt - day.toInt)) (hi : i' = i.toInt + 1)
    (hs : (nx.toInt = -9 ∧ sf.toInt = b + 1) ∨ (0 ≤ nx.toInt ∧ sf.toInt = min (iv 82 0 nx.toNatClampNeg).toInt (b + 1))) (hd : (nx.toInt = -9 ∧ day'.toInt = b + 1) ∨ (0 ≤ nx.toInt ∧ day'.toInt = (iv 83 0 nx.toNatClampNeg).toInt + 1)) (_ : True := trivial) : DR iv l a b ran' day'.toInt i' := by
  obtain ⟨d1, d2, d3⟩ := d
  have free : ∀ x : Int, day.toInt ≤ x → (∀ k : Nat, k < (iv 79 0 4).toInt.toNat → ((iv 81 0 k).toInt = l ∧ day.toInt ≤ (iv 83 0 k).toInt) → x < (iv 82 0 k).toInt) → (dsN iv l x (iv 0 0 37).toNatClampNeg).toInt = 0 := fun x hx hk => by
    by_cases z : (dsN iv l x (iv 0 0 37).toNatClampNeg).toInt = 0
    · exact z
    · obtain ⟨k, k1, k2⟩ := (ds_cl h).mp z
      have := hk k k1 ⟨k2.1, by omega⟩
      omega
  have split : ∀ y : Int, day.toInt ≤ y → drN iv l a (y - a).toNat = drN iv l a (day.toInt - a).toNat + drN iv l day.toInt (y - day.toInt).toNat := fun y hy => by
    have := dr_split (iv := iv) (l := l) (a := a) (day.toInt - a).toNat (y - day.toInt).toNat
    rw [show (day.toInt - a).toNat + (y - day.toInt).toNat = (y - a).toNat by omega, show a + (((day.toInt - a).toNat : Nat) : Int) = day.toInt by omega] at this
    exact this
  rw [show min day.toInt (b + 1) = day.toInt by omega] at d1
  rcases hn with ⟨n1, n2⟩ | ⟨⟨n0, n1⟩, n2, n3⟩
  · have s1 : sf.toInt = b + 1 := by omega
    have s2 : day'.toInt = b + 1 := by omega
    refine ⟨?_, by omega, Or.inl (by omega)⟩
    have u1 := dr_free (iv := iv) (l := l) (a := day.toInt) (b + 1 - day.toInt).toNat (fun j hj => free _ (by omega) (fun k k1 k2 => absurd k2 (n2 k k1)))
    rw [s2, show min (b + 1) (b + 1) = b + 1 by omega, split (b + 1) (by omega), hr, d1, u1]
    omega
  · have s1 : sf.toInt = min (iv 82 0 nx.toNatClampNeg).toInt (b + 1) := by omega
    have s2 : day'.toInt = (iv 83 0 nx.toNatClampNeg).toInt + 1 := by omega
    have m := cSt_lt (iv := iv) (l := l) (d := day.toInt) (e := day'.toInt) (by omega) n2 (by omega) (iv 79 0 4).toInt.toNat n1
    refine ⟨?_, by omega, ?_⟩
    · rw [split (min day'.toInt (b + 1)) (by omega), hr, d1]
      by_cases q : day.toInt ≤ min (iv 82 0 nx.toNatClampNeg).toInt (b + 1)
      · have u := dr_split (iv := iv) (l := l) (a := day.toInt) (sf.toInt - day.toInt).toNat (min day'.toInt (b + 1) - sf.toInt).toNat
        by_cases w : (iv 82 0 nx.toNatClampNeg).toInt ≤ day'.toInt
        · rw [show (sf.toInt - day.toInt).toNat + (min day'.toInt (b + 1) - sf.toInt).toNat = (min day'.toInt (b + 1) - day.toInt).toNat by omega, show day.toInt + (((sf.toInt - day.toInt).toNat : Nat) : Int) = sf.toInt by omega] at u
          have u1 := dr_free (iv := iv) (l := l) (a := day.toInt) (sf.toInt - day.toInt).toNat (fun j hj => free _ (by omega) (fun k k1 k2 => by have := n3 k k1 k2; omega))
          have u2 := dr_stop (iv := iv) (l := l) (a := sf.toInt) (min day'.toInt (b + 1) - sf.toInt).toNat (fun j hj => (ds_cl h).mpr ⟨nx.toNatClampNeg, n1, n2.1, by omega, by omega⟩)
          rw [u, u1, u2]
          omega
        · exfalso
          have e1 := hO nx.toNatClampNeg (by omega)
          omega
      · have u2 := dr_stop (iv := iv) (l := l) (a := day.toInt) (min day'.toInt (b + 1) - day.toInt).toNat (fun j hj => (ds_cl h).mpr ⟨nx.toNatClampNeg, n1, n2.1, by omega, by omega⟩)
        rw [u2]
        omega
    · by_cases w : b < day'.toInt
      · exact Or.inl w
      · exact Or.inr (by omega)
theorem dR_end {iv : Iv} {rv : Rv} (_ : Cstop iv rv) {l a b : Int} {ran day i : Int32} (d : DR iv l a b ran.toInt day.toInt i.toInt) (h : (iv 79 0 4).toInt < i.toInt ∨ b < day.toInt) : ran.toInt = drN iv l a (b - a + 1).toNat := by
  obtain ⟨d1, d2, d3⟩ := d
  have w : b < day.toInt := by omega
  rw [d1, show (min day.toInt (b + 1) - a).toNat = (b - a + 1).toNat by omega]
theorem ad_ar {al : Al} {iv : Iv} {rv : Rv} (hG : GI al iv rv) (h : BM iv rv) {t j : Nat} {x : Int32} (ht : t < al.1 65) (htk : tkk iv rv t) (e1 : rv 65 t 2 = some j) (e : x = iv 62 j 6) : x = iv 10 0 (thL iv t) := by
  have hj := (hG.2.1 65 t 2 62 ht (by decide) rfl).1 _ e1
  exact sx_ar hG h hj (sx_last htk e1) e
theorem cw_t {al : Al} {iv : Iv} {rv : Rv} (hG : GI al iv rv) (h : BX iv rv) {c j : Nat} (hc : c < al.1 88) (e : rv 88 c 0 = some j) : j = cown iv c := Option.some.inj (e.symm.trans (h.2.2.2.2.1 c (by rw [hG.2.2.2.2.2.1.2]; omega)).1)
theorem cw_d {al : Al} {iv : Iv} {rv : Rv} (hG : GI al iv rv) (h : BX iv rv) {c : Nat} {x : Int32} (hc : c < al.1 88) (e : x = iv 88 c 1) : x = iv 36 0 c := e.trans (h.2.2.2.2.1 c (by rw [hG.2.2.2.2.2.1.2]; omega)).2.symm
theorem cw_b {iv : Iv} {rv : Rv} (h : BX iv rv) {x y : Int32} (e : x = iv 80 0 y.toNatClampNeg) (h0 : 0 ≤ y.toInt) (h1 : y.toInt ≤ 3) : x = iv 31 0 y.toNatClampNeg := e.trans (h.2.1 _ (by rw [clamp_n]; omega)).symm
theorem cw_n {al : Al} {iv : Iv} {rv : Rv} (hG : GI al iv rv) (h : BX iv rv) {c j : Nat} {x : Int32} (hc : c < al.1 88) (hj : j < al.1 65) (ej : j = cown iv c) (e : x = iv 65 j 0) : x = iv 35 0 c := by
  have n := hG.2.2.2.2.1.2
  have a := (h.1.1.2.2 j (by omega)).2.2.2.2.2
  have l41 := hG.2.2.2.2.2.1.2
  have le : al.1 88 ≤ 30 := by
    have b : (iv 84 0 1).toInt ≤ 30 := (hG.1 84 0 1 (h1_84 hG) (by decide)).2
    omega
  have r : 0 ≤ (iv 35 0 c).toInt := (hG.1 35 0 c (h1_35 hG) (by show c < 30; omega)).1
  have k : cown iv c = (iv 35 0 c).toInt.toNat := clamp_n
  exact (fa_eq _ _).mpr (by rw [e]; omega)
theorem cw_s {iv : Iv} {rv : Rv} (h : BV iv rv) {c n : Nat} {x : Int32} (e : x = iv 88 c 3) (hc : c = n) (hl : (c : Int) < (iv 84 0 1).toInt) : x = sdN iv n 5 := by
  subst hc; rw [e]; exact h.2.2.1 c hl
theorem cw_1 {iv : Iv} {c : Nat} {lw ad y b dd r : Int32} (hl : lw = lwF iv (cown iv c) (iv 36 0 c)) (_ : lw.toInt = -9 ∨ 0 ≤ lw.toInt) (h0 : 0 ≤ lw.toInt) (hr : r.toInt = drN iv lw.toInt y.toInt (dd.toInt - y.toInt + 1).toNat) (had : ad.toInt = (iv 10 0 (thL iv (cown iv c)) / 1440).toInt) (hdd : dd.toInt = (iv 36 0 c).toInt) (hb : b.toInt = (iv 31 0 (lwF iv (cown iv c) (iv 36 0 c)).toNatClampNeg).toInt) (hc : y.toInt = ad.toInt + 1 ∧ b.toInt < r.toInt) : (1 : Int32) = brF iv c := by
  unfold brF clw caD
  rw [← hl, if_neg (by omega), ← had, ← hdd, ← hc.1, ← hr]
  rw [← hl] at hb
  rw [if_pos (by omega)]
theorem cw_0 {iv : Iv} {c : Nat} {lw ad y b dd r : Int32} (hl : lw = lwF iv (cown iv c) (iv 36 0 c)) (_ : lw.toInt = -9 ∨ 0 ≤ lw.toInt) (h0 : 0 ≤ lw.toInt) (hr : r.toInt = drN iv lw.toInt y.toInt (dd.toInt - y.toInt + 1).toNat) (had : ad.toInt = (iv 10 0 (thL iv (cown iv c)) / 1440).toInt) (hdd : dd.toInt = (iv 36 0 c).toInt) (hb : b.toInt = (iv 31 0 (lwF iv (cown iv c) (iv 36 0 c)).toNatClampNeg).toInt) (hc : y.toInt = ad.toInt + 1 ∧ ¬ b.toInt < r.toInt) : (0 : Int32) = brF iv c := by
  unfold brF clw caD
  rw [← hl, if_neg (by omega), ← had, ← hdd, ← hc.1, ← hr]
  rw [← hl] at hb
  rw [if_neg (by omega)]
end
section
set_option maxHeartbeats 4000000 in
set_option maxRecDepth 100000 in
theorem c_X12_isBarred_x {l : Launch} {D : va_G} {cA : FieldType → ClassId} {sz : Nat} {al : Al} {iv : Iv} {rv : Rv} (hG : GI al iv rv) (cl : Int32) (pre0 : 0 ≤ cl.toInt ∧ cl.toInt < (iv 0 0 41).toInt) : Met l yX12_isBarred (wd yX12_isBarred cX12_isBarred 8 (some .boolean)) (rm 2) (PcW D cA sz al iv rv [.ref (al.2 0 0), .int cl]) (QI D cA sz al (pI iv rv (fun r => (0 ≤ r.toInt ∧ r.toInt ≤ 1) ∧ (r = brF iv cl.toNatClampNeg)))) 0 0 (Aq sz) := by
  refine mk_z (by decide) (Nat.le_of_ble_eq_true rfl) rfl ?_
  intro p e s m args below meth c ls Q H locs C hU hS hl hret
  have hx := C.1.1
  have hb := C.1.2.1
  have hl : lv_has ls 8 [(0, .ref (al.2 0 0)), (1, .int cl)] := hl
  have hG0 := hG
  have h6 := le6 hG
  have h20 := le20 hG
  have h41 := le41 hG
  have h41 := le41 hG
  have h20 := le20 hG
  have hco := co1 hG pre0.1 pre0.2
  have l37 := le37m hG
  have k0 : (0 : Int32).toInt = 0 := by decide
  have k1 : (1 : Int32).toInt = 1 := by decide
  have k1440 : (1440 : Int32).toInt = 1440 := by decide
  refine lv_aload_n hx hb dX12_isBarred_0 rfl (lv_at hl 0 rfl) ?_
  refine g_0_42 C hU hG (h1_0 hG) fl_X12_113 dX12_isBarred_1 ?_
  refine lv_iload_n hx hb dX12_isBarred_4 rfl (lv_at hl 1 rfl) ?_
  refine a_35 C hU hG (h1_35 hG) (x := cl) (by omega) (by omega) dX12_isBarred_5 (fun x_1 e_2 le_2 ue_2 => ?_)
  have te_2 := congrArg Int32.toInt e_2
  refine lv_istore_n (lv' := [(2, .int x_1), (0, .ref (al.2 0 0)), (1, .int cl)]) hx hb dX12_isBarred_6 rfl hl (by decide) rfl (fun ls hl => ?_)
  refine lv_aload_n hx hb dX12_isBarred_7 rfl (lv_at hl 1 rfl) ?_
  refine lv_iload_n hx hb dX12_isBarred_8 rfl (lv_at hl 0 rfl) ?_
  refine lv_aload_n hx hb dX12_isBarred_9 rfl (lv_at hl 1 rfl) ?_
  refine g_0_43 C hU hG (h1_0 hG) fl_X12_116 dX12_isBarred_10 ?_
  refine lv_iload_n hx hb dX12_isBarred_13 rfl (lv_at hl 2 rfl) ?_
  refine a_36 C hU hG (h1_36 hG) (x := cl) (by omega) (by omega) dX12_isBarred_14 (fun x_3 e_4 le_4 ue_4 => ?_)
  have te_4 := congrArg Int32.toInt e_4
  refine q_pi (q_runV (t := 0) (i := 0) (As := [.int x_1, .int x_3]) (rest := []) C hU (c_X12_lawOf_x hG x_1 x_3 (by omega)) vm_X12_lawOf ml_X12_260 k_0.1 (hc := rfl) rfl (h1_0 hG) hl.1 rfl rfl (Nat.le_of_ble_eq_true rfl) dX12_isBarred_15 rfl rfl ⟨Nat.le_of_ble_eq_true rfl, Nat.le_of_ble_eq_true rfl⟩ ⟨Nat.le_refl _, Nat.le_refl _⟩) hS (fun x_6 H locs hp_5 hU hS => ?_)
  have hlw := hp_5.2.1
  rw [e_2, e_4] at hlw
  have hlc : x_6 = clw iv cl.toNatClampNeg := hlw
  have tlw := congrArg Int32.toInt hlc
  refine lv_istore_n (lv' := [(3, .int x_6), (2, .int x_1), (0, .ref (al.2 0 0)), (1, .int cl)]) hx hb dX12_isBarred_18 rfl hl (by decide) rfl (fun ls hl => ?_)
  refine lv_iconst (v := 0) hx hb dX12_isBarred_19 (by decide) ?_
  refine lv_istore (lv' := [(4, .int 0), (3, .int x_6), (2, .int x_1), (0, .ref (al.2 0 0)), (1, .int cl)]) hx hb dX12_isBarred_20 hl (by decide) rfl (fun ls hl => ?_)
  refine lv_aload_n hx hb dX12_isBarred_22 rfl (lv_at hl 3 rfl) ?_
  refine g_0_12 C hU hG (h1_0 hG) fl_X12_37 dX12_isBarred_23 ?_
  refine lv_aload_n hx hb dX12_isBarred_26 rfl (lv_at hl 3 rfl) ?_
  refine lv_iload_n hx hb dX12_isBarred_27 rfl (lv_at hl 2 rfl) ?_
  refine q_pi (q_runV (t := 0) (i := 0) (As := [.int x_1]) (rest := [.ref (al.2 10 0)]) C hU (c_X12_lastLeg_x hG x_1 (by omega)) vm_X12_lastLeg ml_X12_232 k_0.1 (hc := rfl) rfl (h1_0 hG) hl.1 rfl rfl (Nat.le_of_ble_eq_true rfl) dX12_isBarred_28 rfl rfl ⟨Nat.le_of_ble_eq_true rfl, Nat.le_of_ble_eq_true rfl⟩ ⟨Nat.le_refl _, Nat.le_refl _⟩) hS (fun x_8 H locs hp_7 hU hS => ?_)
  refine a_10 C hU hG (h1_10 hG) (x := x_8) (by omega) (by omega) dX12_isBarred_31 (fun x_9 e_10 le_10 ue_10 => ?_)
  have te_10 := congrArg Int32.toInt e_10
  have h31 := e_10
  rw [hp_7.2, e_2] at h31
  refine lv_sipush (v := 1440) hx hb dX12_isBarred_32 (by decide) ?_
  refine lv_idiv hx hb dX12_isBarred_35 (by decide) ?_
  refine lv_topi (fun x_11 e_12 => ?_)
  have te_12 : 0 ≤ x_11.toInt ∧ x_11.toInt ≤ (x_9 : Int32).toInt := by rw [e_12]; exact div_rng (by omega) (by omega)
  have h35 := e_12
  rw [h31] at h35
  have t35 := congrArg Int32.toInt h35
  refine lv_iconst (v := 1) hx hb dX12_isBarred_36 (by decide) ?_
  refine lv_iadd hx hb dX12_isBarred_37 ?_
  refine lv_topi (fun x_13 e_14 => ?_)
  have te_14 : x_13.toInt = (x_11 : Int32).toInt + (1 : Int32).toInt := by rw [e_14]; exact fb_addI (by omega) (by omega)
  have hA : x_13.toInt = caD iv cl.toNatClampNeg := by unfold caD cown; omega
  refine lv_istore (lv' := [(5, .int x_13), (4, .int 0), (3, .int x_6), (2, .int x_1), (0, .ref (al.2 0 0)), (1, .int cl)]) hx hb dX12_isBarred_38 hl (by decide) rfl (fun ls hl => ?_)
  have J_40 : ∀ (n_40 : Nat) (l4_15 : Int32) (l5_16 : Int32) (H : Heap) (locs : List Loc) (ls : Array Slot), lv_has ls 8 [(0, .ref (al.2 0 0)), (1, .int cl), (3, .int x_6), (4, .int l4_15), (5, .int l5_16)] → UW D cA sz al iv rv H → va_S (Aq sz) s.heap H locs → (0 ≤ l4_15.toInt ∧ l4_15.toInt ≤ 20001) → (0 ≤ l5_16.toInt ∧ l5_16.toInt ≤ 20001) → l4_15.toInt = drN iv x_6.toInt (caD iv cl.toNatClampNeg) (l5_16.toInt - caD iv cl.toNatClampNeg).toNat → caD iv cl.toNatClampNeg ≤ l5_16.toInt → l4_15.toInt ≤ l5_16.toInt → l5_16.toInt ≤ (iv 36 0 cl.toNatClampNeg).toInt + 1 ∨ l5_16.toInt = caD iv cl.toNatClampNeg → (4001 - l5_16.toInt).toNat < n_40 → W p l e (rm 2) s m args below meth c H locs 0 0 Q (F0 m 40 ls []) := by
    intro n_40
    induction n_40 with
    | zero =>
      intro l4_15 l5_16 H locs ls hl hU hS i40_0 i40_1 i40_2 i40_3 i40_4 i40_5 hm_40
      exact absurd hm_40 (Nat.not_lt_zero _)
    | succ n_40 ih_40 =>
      intro l4_15 l5_16 H locs ls hl hU hS i40_0 i40_1 i40_2 i40_3 i40_4 i40_5 hm_40
      refine lv_iload hx hb dX12_isBarred_40 (lv_at hl 4 rfl) ?_
      refine lv_aload_n hx hb dX12_isBarred_42 rfl (lv_at hl 0 rfl) ?_
      refine g_0_43 C hU hG (h1_0 hG) fl_X12_116 dX12_isBarred_43 ?_
      refine lv_iload_n hx hb dX12_isBarred_46 rfl (lv_at hl 1 rfl) ?_
      refine a_36 C hU hG (h1_36 hG) (x := cl) (by omega) (by omega) dX12_isBarred_47 (fun x_17 e_18 le_18 ue_18 => ?_)
      have te_18 := congrArg Int32.toInt e_18
      have J_142 : ∀ (ls : Array Slot), lv_has ls 8 [(0, .ref (al.2 0 0)), (3, .int x_6), (4, .int l4_15)] → x_6.toInt < 0 ∨ l4_15.toInt = drN iv x_6.toInt (caD iv cl.toNatClampNeg) ((iv 36 0 cl.toNatClampNeg).toInt - caD iv cl.toNatClampNeg + 1).toNat → W p l e (rm 2) s m args below meth c H locs 0 0 Q (F0 m 142 ls []) := by
        intro ls hl i142_0
        refine lv_iload_n hx hb dX12_isBarred_142 rfl (lv_at hl 1 rfl) ?_
        refine b_if_lt (tgt := 161) hx hb dX12_isBarred_143 (by decide) (fun c_19 => ?_) (fun c_19 => ?_)
        ·
          refine lv_iconst (v := 0) hx hb dX12_isBarred_161 (by decide) ?_
          exact hret (by omega) (by omega) (⟨rfl, rfl, ⟨⟨by omega, by omega⟩, by unfold brF; rw [← hlc]; first | (rw [if_pos (by omega)]; done) | (rw [if_neg (by omega), if_pos (by omega)]; done) | (rw [if_neg (by omega), if_neg (by omega)]; done)⟩⟩) hU hS dX12_isBarred_162
        ·
          refine lv_iload hx hb dX12_isBarred_146 (lv_at hl 2 rfl) ?_
          refine lv_aload_n hx hb dX12_isBarred_148 rfl (lv_at hl 0 rfl) ?_
          refine g_0_36 C hU hG (h1_0 hG) fl_X12_101 dX12_isBarred_149 ?_
          refine lv_iload_n hx hb dX12_isBarred_152 rfl (lv_at hl 1 rfl) ?_
          refine a_31 C hU hG (h1_31 hG) (x := x_6) (by omega) (by omega) dX12_isBarred_153 (fun x_20 e_21 le_21 ue_21 => ?_)
          have te_21 := congrArg Int32.toInt e_21
          refine b_icmp_le (tgt := 161) hx hb dX12_isBarred_154 (by decide) (fun c_22 => ?_) (fun c_22 => ?_)
          ·
            refine lv_iconst (v := 0) hx hb dX12_isBarred_161 (by decide) ?_
            exact hret (by omega) (by omega) (⟨rfl, rfl, ⟨⟨by omega, by omega⟩, by unfold brF; rw [← hlc]; first | (rw [if_pos (by omega)]; done) | (rw [if_neg (by omega), if_pos (by omega)]; done) | (rw [if_neg (by omega), if_neg (by omega)]; done)⟩⟩) hU hS dX12_isBarred_162
          ·
            refine lv_iconst (v := 1) hx hb dX12_isBarred_157 (by decide) ?_
            refine lv_goto (tgt := 162) hx hb dX12_isBarred_158 (by decide) ?_
            exact hret (by omega) (by omega) (⟨rfl, rfl, ⟨⟨by omega, by omega⟩, by unfold brF; rw [← hlc]; first | (rw [if_pos (by omega)]; done) | (rw [if_neg (by omega), if_pos (by omega)]; done) | (rw [if_neg (by omega), if_neg (by omega)]; done)⟩⟩) hU hS dX12_isBarred_162
      refine b_icmp_gt (tgt := 142) hx hb dX12_isBarred_48 (by decide) (fun c_23 => ?_) (fun c_23 => ?_)
      ·
        exact J_142 _ (lv_sub hl [0, 2, 3] rfl) (by first | (left; omega) | (right; exact dr_end i40_2 (by omega)))
      ·
        refine lv_iload_n hx hb dX12_isBarred_51 rfl (lv_at hl 2 rfl) ?_
        refine b_if_lt (tgt := 142) hx hb dX12_isBarred_52 (by decide) (fun c_24 => ?_) (fun c_24 => ?_)
        ·
          exact J_142 _ (lv_sub hl [0, 2, 3] rfl) (by first | (left; omega) | (right; exact dr_end i40_2 (by omega)))
        ·
          refine lv_iconst (v := 0) hx hb dX12_isBarred_55 (by decide) ?_
          refine lv_istore (lv' := [(6, .int 0), (0, .ref (al.2 0 0)), (1, .int cl), (3, .int x_6), (4, .int l4_15), (5, .int l5_16)]) hx hb dX12_isBarred_56 hl (by decide) rfl (fun ls hl => ?_)
          refine lv_iconst (v := 0) hx hb dX12_isBarred_58 (by decide) ?_
          refine lv_istore (lv' := [(7, .int 0), (6, .int 0), (0, .ref (al.2 0 0)), (1, .int cl), (3, .int x_6), (4, .int l4_15), (5, .int l5_16)]) hx hb dX12_isBarred_59 hl (by decide) rfl (fun ls hl => ?_)
          have J_61 : ∀ (n_61 : Nat) (l6_25 : Int32) (l7_26 : Int32) (H : Heap) (locs : List Loc) (ls : Array Slot), lv_has ls 8 [(0, .ref (al.2 0 0)), (1, .int cl), (3, .int x_6), (4, .int l4_15), (5, .int l5_16), (6, .int l6_25), (7, .int l7_26)] → UW D cA sz al iv rv H → va_S (Aq sz) s.heap H locs → (0 ≤ l6_25.toInt ∧ l6_25.toInt ≤ 1) → (0 ≤ l7_26.toInt ∧ l7_26.toInt ≤ 20) → l6_25 = dsN iv x_6.toInt l5_16.toInt l7_26.toNatClampNeg → l7_26.toInt ≤ (iv 0 0 37).toInt → (20 - l7_26.toInt).toNat < n_61 → W p l e (rm 2) s m args below meth c H locs 0 0 Q (F0 m 61 ls []) := by
            intro n_61
            induction n_61 with
            | zero =>
              intro l6_25 l7_26 H locs ls hl hU hS i61_0 i61_1 i61_2 i61_3 hm_61
              exact absurd hm_61 (Nat.not_lt_zero _)
            | succ n_61 ih_61 =>
              intro l6_25 l7_26 H locs ls hl hU hS i61_0 i61_1 i61_2 i61_3 hm_61
              refine lv_iload hx hb dX12_isBarred_61 (lv_at hl 6 rfl) ?_
              refine lv_aload_n hx hb dX12_isBarred_63 rfl (lv_at hl 0 rfl) ?_
              refine g_0_37 C hU hG (h1_0 hG) fl_X12_272 dX12_isBarred_64 (fun x_27 e_28 le_28 ue_28 => ?_)
              have te_28 := congrArg Int32.toInt e_28
              refine b_icmp_ge (tgt := 121) hx hb dX12_isBarred_67 (by decide) (fun c_29 => ?_) (fun c_29 => ?_)
              ·
                have hds : l6_25 = dsN iv x_6.toInt l5_16.toInt (iv 0 0 37).toNatClampNeg := by rw [i61_2, clamp_eq (show (l7_26 : Int32).toInt = (iv 0 0 37).toInt by omega)]
                refine lv_iload hx hb dX12_isBarred_121 (lv_at hl 3 rfl) ?_
                refine lv_iload hx hb dX12_isBarred_123 (lv_at hl 5 rfl) ?_
                have J_133 : ∀ (v_30 : Int32) (ls : Array Slot), lv_has ls 8 [(0, .ref (al.2 0 0)), (1, .int cl), (3, .int x_6), (5, .int l5_16)] → (0 ≤ v_30.toInt ∧ v_30.toInt ≤ 1) → ((v_30.toInt = 1 ∧ l6_25.toInt = 0) ∨ (v_30.toInt = 0 ∧ ¬ l6_25.toInt = 0)) → W p l e (rm 2) s m args below meth c H locs 0 0 Q (F0 m 133 ls [.int v_30, .int l4_15]) := by
                  intro v_30 ls hl i133_0 i133_1
                  refine lv_iadd hx hb dX12_isBarred_133 ?_
                  refine lv_topi (fun x_31 e_32 => ?_)
                  have te_32 : x_31.toInt = (l4_15 : Int32).toInt + (v_30 : Int32).toInt := by rw [e_32]; exact fb_addI (by omega) (by omega)
                  refine lv_istore (lv' := [(4, .int x_31), (0, .ref (al.2 0 0)), (1, .int cl), (3, .int x_6), (5, .int l5_16)]) hx hb dX12_isBarred_134 hl (by decide) rfl (fun ls hl => ?_)
                  obtain ⟨x_33, e_34⟩ : ∃ y : Int32, y = l5_16 + 1 := ⟨_, rfl⟩
                  have te_34 : x_33.toInt = (l5_16 : Int32).toInt + (1 : Int32).toInt := by rw [e_34]; exact fb_addI (by omega) (by omega)
                  refine lv_iinc (v := x_33) (lv' := [(5, .int x_33), (4, .int x_31), (0, .ref (al.2 0 0)), (1, .int cl), (3, .int x_6)]) hx hb dX12_isBarred_136 hl (k := 4) rfl (by rw [e_34]; rfl) (by decide) rfl (fun ls hl => ?_)
                  refine lv_goto (tgt := 40) hx hb dX12_isBarred_139 (by decide) ?_
                  exact ih_40 x_31 x_33 _ _ _ (lv_sub hl [2, 3, 4, 1, 0] rfl) hU hS (by omega) (by omega) (by first | exact dr_up i40_2 hds i133_1 (by omega) (by omega) (by omega) | exact dr_0 hA) (by omega) (by omega) (by omega) (by omega)
                refine b_if_eq (tgt := 132) hx hb dX12_isBarred_125 (by decide) (fun c_35 => ?_) (fun c_35 => ?_)
                ·
                  refine lv_iconst (v := 1) hx hb dX12_isBarred_132 (by decide) ?_
                  exact J_133 1 _ (lv_sub hl [0, 1, 2, 4] rfl) (by omega) (by omega)
                ·
                  refine lv_iconst (v := 0) hx hb dX12_isBarred_128 (by decide) ?_
                  refine lv_goto (tgt := 133) hx hb dX12_isBarred_129 (by decide) ?_
                  exact J_133 0 _ (lv_sub hl [0, 1, 2, 4] rfl) (by omega) (by omega)
              ·
                refine lv_iload hx hb dX12_isBarred_70 (lv_at hl 5 rfl) ?_
                have J_113 : ∀ (v_36 : Int32) (H : Heap) (locs : List Loc) (ls : Array Slot), lv_has ls 8 [(0, .ref (al.2 0 0)), (1, .int cl), (3, .int x_6), (4, .int l4_15), (5, .int l5_16), (7, .int l7_26)] → UW D cA sz al iv rv H → va_S (Aq sz) s.heap H locs → (0 ≤ v_36.toInt ∧ v_36.toInt ≤ 1) → v_36 = dsN iv x_6.toInt l5_16.toInt (l7_26.toNatClampNeg + 1) → W p l e (rm 2) s m args below meth c H locs 0 0 Q (F0 m 113 ls [.int v_36]) := by
                  intro v_36 H locs ls hl hU hS i113_0 i113_1
                  refine lv_istore (lv' := [(6, .int v_36), (0, .ref (al.2 0 0)), (1, .int cl), (3, .int x_6), (4, .int l4_15), (5, .int l5_16), (7, .int l7_26)]) hx hb dX12_isBarred_113 hl (by decide) rfl (fun ls hl => ?_)
                  obtain ⟨x_37, e_38⟩ : ∃ y : Int32, y = l7_26 + 1 := ⟨_, rfl⟩
                  have te_38 : x_37.toInt = (l7_26 : Int32).toInt + (1 : Int32).toInt := by rw [e_38]; exact fb_addI (by omega) (by omega)
                  refine lv_iinc (v := x_37) (lv' := [(7, .int x_37), (6, .int v_36), (0, .ref (al.2 0 0)), (1, .int cl), (3, .int x_6), (4, .int l4_15), (5, .int l5_16)]) hx hb dX12_isBarred_115 hl (k := 6) rfl (by rw [e_38]; rfl) (by decide) rfl (fun ls hl => ?_)
                  refine lv_goto (tgt := 61) hx hb dX12_isBarred_118 (by decide) ?_
                  exact ih_61 v_36 x_37 _ _ _ (lv_sub hl [2, 3, 4, 5, 6, 1, 0] rfl) hU hS (by omega) (by omega) (by first | exact ds_up (by omega) (by omega) i113_1 | exact ds_0) (by omega) (by omega)
                have J_108 : ∀ (H : Heap) (locs : List Loc) (ls : Array Slot), lv_has ls 8 [(0, .ref (al.2 0 0)), (1, .int cl), (3, .int x_6), (4, .int l4_15), (5, .int l5_16), (7, .int l7_26)] → UW D cA sz al iv rv H → va_S (Aq sz) s.heap H locs → ((¬ l6_25.toInt = 0) ∨ ((iv 32 0 l7_26.toNatClampNeg).toInt = x_6.toInt ∧ (iv 33 0 l7_26.toNatClampNeg).toInt ≤ l5_16.toInt ∧ l5_16.toInt ≤ (iv 34 0 l7_26.toNatClampNeg).toInt)) → W p l e (rm 2) s m args below meth c H locs 0 0 Q (F0 m 108 ls []) := by
                  intro H locs ls hl hU hS i108_0
                  refine lv_iconst (v := 1) hx hb dX12_isBarred_108 (by decide) ?_
                  refine lv_goto (tgt := 113) hx hb dX12_isBarred_109 (by decide) ?_
                  exact J_113 1 _ _ _ (lv_sub hl [0, 1, 2, 3, 4, 5] rfl) hU hS (by omega) (by first | exact ds_y i61_2 i108_0 | exact ds_n i61_2 True.intro)
                refine b_if_ne (tgt := 108) hx hb dX12_isBarred_72 (by decide) (fun c_39 => ?_) (fun c_39 => ?_)
                ·
                  exact J_108 _ _ _ (lv_sub hl [0, 1, 2, 3, 4, 6] rfl) hU hS (by omega)
                ·
                  refine lv_aload_n hx hb dX12_isBarred_75 rfl (lv_at hl 0 rfl) ?_
                  refine g_0_38 C hU hG (h1_0 hG) fl_X12_104 dX12_isBarred_76 ?_
                  refine lv_iload hx hb dX12_isBarred_79 (lv_at hl 6 rfl) ?_
                  refine a_32 C hU hG (h1_32 hG) (x := l7_26) (by omega) (by omega) dX12_isBarred_81 (fun x_40 e_41 => ?_)
                  have te_41 := congrArg Int32.toInt e_41
                  refine lv_iload_n hx hb dX12_isBarred_82 rfl (lv_at hl 2 rfl) ?_
                  have J_112 : ∀ (H : Heap) (locs : List Loc) (ls : Array Slot), lv_has ls 8 [(0, .ref (al.2 0 0)), (1, .int cl), (3, .int x_6), (4, .int l4_15), (5, .int l5_16), (7, .int l7_26)] → UW D cA sz al iv rv H → va_S (Aq sz) s.heap H locs → (¬ ((¬ l6_25.toInt = 0) ∨ ((iv 32 0 l7_26.toNatClampNeg).toInt = x_6.toInt ∧ (iv 33 0 l7_26.toNatClampNeg).toInt ≤ l5_16.toInt ∧ l5_16.toInt ≤ (iv 34 0 l7_26.toNatClampNeg).toInt))) → W p l e (rm 2) s m args below meth c H locs 0 0 Q (F0 m 112 ls []) := by
                    intro H locs ls hl hU hS i112_0
                    refine lv_iconst (v := 0) hx hb dX12_isBarred_112 (by decide) ?_
                    exact J_113 0 _ _ _ (lv_sub hl [0, 1, 2, 3, 4, 5] rfl) hU hS (by omega) (by first | exact ds_y i61_2 i108_0 | exact ds_n i61_2 i112_0)
                  refine b_icmp_ne (tgt := 112) hx hb dX12_isBarred_83 (by decide) (fun c_42 => ?_) (fun c_42 => ?_)
                  ·
                    exact J_112 _ _ _ (lv_sub hl [0, 1, 2, 3, 4, 6] rfl) hU hS (by omega)
                  ·
                    refine lv_iload hx hb dX12_isBarred_86 (lv_at hl 4 rfl) ?_
                    refine lv_aload_n hx hb dX12_isBarred_88 rfl (lv_at hl 0 rfl) ?_
                    refine g_0_39 C hU hG (h1_0 hG) fl_X12_107 dX12_isBarred_89 ?_
                    refine lv_iload hx hb dX12_isBarred_92 (lv_at hl 6 rfl) ?_
                    refine a_33 C hU hG (h1_33 hG) (x := l7_26) (by omega) (by omega) dX12_isBarred_94 (fun x_43 e_44 => ?_)
                    have te_44 := congrArg Int32.toInt e_44
                    refine lv_aload_n hx hb dX12_isBarred_95 rfl (lv_at hl 0 rfl) ?_
                    refine g_0_40 C hU hG (h1_0 hG) fl_X12_110 dX12_isBarred_96 ?_
                    refine lv_iload hx hb dX12_isBarred_99 (lv_at hl 6 rfl) ?_
                    refine a_34 C hU hG (h1_34 hG) (x := l7_26) (by omega) (by omega) dX12_isBarred_101 (fun x_45 e_46 => ?_)
                    have te_46 := congrArg Int32.toInt e_46
                    refine q_pi (q_runS (As := [.int l5_16, .int x_43, .int x_45]) (rest := []) C hU (c_X12_in  l5_16 x_43 x_45 ) sm_X12_in ml_X12_156 hl.1 rfl rfl (Nat.le_of_ble_eq_true rfl) dX12_isBarred_102 rfl rfl ⟨Nat.le_of_ble_eq_true rfl, Nat.le_of_ble_eq_true rfl⟩ ⟨Nat.le_refl _, Nat.le_refl _⟩) hS (fun x_48 H locs hp_47 hU hS => ?_)
                    refine b_if_eq (tgt := 112) hx hb dX12_isBarred_105 (by decide) (fun c_49 => ?_) (fun c_49 => ?_)
                    ·
                      exact J_112 _ _ _ (lv_sub hl [0, 1, 2, 3, 4, 6] rfl) hU hS (by omega)
                    ·
                      exact J_108 _ _ _ (lv_sub hl [0, 1, 2, 3, 4, 6] rfl) hU hS (by omega)
          exact J_61 _ 0 0 _ _ _ (lv_sub hl [2, 3, 4, 5, 6, 1, 0] rfl) hU hS (by omega) (by omega) (by first | exact ds_up (by omega) (by omega) i113_1 | exact ds_0) (by omega) (Nat.lt_succ_self _)
  exact J_40 _ 0 x_13 _ _ _ (lv_sub hl [4, 5, 2, 1, 0] rfl) hU hS (by omega) (by omega) (by first | exact dr_up i40_2 hds i133_1 (by omega) (by omega) (by omega) | exact dr_0 hA) (by omega) (by omega) (by omega) (Nat.lt_succ_self _)
set_option maxHeartbeats 4000000 in
set_option maxRecDepth 100000 in
theorem c_X12_worthOf_x {l : Launch} {D : va_G} {cA : FieldType → ClassId} {sz : Nat} {al : Al} {iv : Iv} {rv : Rv} (hG : GI al iv rv) (cl : Int32) (pre0 : 0 ≤ cl.toInt ∧ cl.toInt < (iv 0 0 41).toInt) (pre1 : BT iv rv) : Met l yX12_worthOf (wd yX12_worthOf cX12_worthOf 2 (some .int)) (rm 10) (PcW D cA sz al iv rv [.ref (al.2 0 0), .int cl]) (QI D cA sz al (fI al ([17, 20], []) iv rv (fun r iv' rv' => r = wrF iv cl.toNatClampNeg))) 0 0 (Aq sz) := by
  refine mk_i (by decide) (Nat.le_of_ble_eq_true rfl) rfl ?_
  intro p e s m args below meth c ls Q H locs C hU hS hl hret
  have hx := C.1.1
  have hb := C.1.2.1
  have hl : lv_has ls 2 [(0, .ref (al.2 0 0)), (1, .int cl)] := hl
  have hG0 := hG
  have h6 := le6 hG
  have h20 := le20 hG
  have h41 := le41 hG
  have h41 := le41 hG
  have h20 := le20 hG
  have hco := co1 hG pre0.1 pre0.2
  have hF1 : FR ([17, 20], []) iv iv := FR.rf
  have hF2 : FR ([17, 20], []) rv rv := FR.rf
  have k0 : (0 : Int32).toInt = 0 := by decide
  refine lv_aload_n hx hb dX12_worthOf_0 rfl (lv_at hl 0 rfl) ?_
  refine lv_iload_n hx hb dX12_worthOf_1 rfl (lv_at hl 1 rfl) ?_
  refine q_pi (q_runV (t := 0) (i := 0) (As := [.int cl]) (rest := []) C hU (c_X12_isBarred_x hG cl (by omega)) vm_X12_isBarred ml_X12_278 k_0.1 (hc := rfl) rfl (h1_0 hG) hl.1 rfl rfl (Nat.le_of_ble_eq_true rfl) dX12_worthOf_2 rfl rfl ⟨Nat.le_of_ble_eq_true rfl, Nat.le_of_ble_eq_true rfl⟩ ⟨Nat.le_refl _, Nat.le_refl _⟩) hS (fun x_2 H locs hp_1 hU hS => ?_)
  have tbr := congrArg Int32.toInt hp_1.2
  refine b_if_eq (tgt := 12) hx hb dX12_worthOf_5 (by decide) (fun c_3 => ?_) (fun c_3 => ?_)
  ·
    refine lv_aload_n hx hb dX12_worthOf_12 rfl (lv_at hl 0 rfl) ?_
    refine lv_aload_n hx hb dX12_worthOf_13 rfl (lv_at hl 0 rfl) ?_
    refine g_0_42 C hU hG (h1_0 hG) fl_X12_113 dX12_worthOf_14 ?_
    refine lv_iload_n hx hb dX12_worthOf_17 rfl (lv_at hl 1 rfl) ?_
    refine a_35 C hU hG (h1_35 hG) (x := cl) (by omega) (by omega) dX12_worthOf_18 (fun x_4 e_5 le_5 ue_5 => ?_)
    have te_5 := congrArg Int32.toInt e_5
    refine lv_aload_n hx hb dX12_worthOf_19 rfl (lv_at hl 0 rfl) ?_
    refine g_0_43 C hU hG (h1_0 hG) fl_X12_116 dX12_worthOf_20 ?_
    refine lv_iload_n hx hb dX12_worthOf_23 rfl (lv_at hl 1 rfl) ?_
    refine a_36 C hU hG (h1_36 hG) (x := cl) (by omega) (by omega) dX12_worthOf_24 (fun x_6 e_7 le_7 ue_7 => ?_)
    have te_7 := congrArg Int32.toInt e_7
    refine q_fi (q_runV (t := 0) (i := 0) (As := [.int x_4, .int x_6]) (rest := []) C hU (c_X12_sumOf_x hG x_4 x_6 (by omega) (pre1)) vm_X12_sumOf ml_X12_269 k_0.1 (hc := rfl) rfl (h1_0 hG) hl.1 rfl rfl (Nat.le_of_ble_eq_true rfl) dX12_worthOf_25 rfl rfl ⟨Nat.le_of_ble_eq_true rfl, Nat.le_of_ble_eq_true rfl⟩ ⟨Nat.le_refl _, Nat.le_refl _⟩) hS (fun x_13 iv_9 rv_10 H locs hG fa_11 fb_12 hp_8 hU hS => ?_)
    have hF1 := hF1.tr (m := ([17, 20], [])) fa_11 (by decide)
    have hF2 := hF2.tr (m := ([17, 20], [])) fb_12 (by decide)
    have kf_14 := congrArg Int32.toInt (hF1 0 0 20 (by decide))
    have kf_15 := congrArg Int32.toInt (hF1 0 0 41 (by decide))
    exact hret (⟨hG, hF1, hF2, by unfold wrF; first | (rw [if_pos (by omega)]; done) | (rw [if_neg (by omega), hp_8, e_5, e_7]; rfl)⟩) hU hS dX12_worthOf_28
  ·
    refine lv_iconst (v := 0) hx hb dX12_worthOf_8 (by decide) ?_
    refine lv_goto (tgt := 28) hx hb dX12_worthOf_9 (by decide) ?_
    exact hret (⟨hG, hF1, hF2, by unfold wrF; first | (rw [if_pos (by omega)]; done) | (rw [if_neg (by omega), True.intro, True.intro, True.intro]; rfl)⟩) hU hS dX12_worthOf_28
set_option maxHeartbeats 4000000 in
set_option maxRecDepth 100000 in
theorem c_X12_claimOf_x {l : Launch} {D : va_G} {cA : FieldType → ClassId} {sz : Nat} {al : Al} {iv : Iv} {rv : Rv} (hG : GI al iv rv) (cl : Int32) (what : Int32) (pre0 : BT iv rv) : Met l yX12_claimOf (wd yX12_claimOf cX12_claimOf 3 (some .int)) (rm 11) (PcW D cA sz al iv rv [.ref (al.2 0 0), .int cl, .int what]) (QI D cA sz al (fI al ([16, 17, 20], []) iv rv (fun r iv' rv' => r = coS iv cl what))) 0 0 (Aq sz) := by
  refine mk_i (by decide) (Nat.le_of_ble_eq_true rfl) rfl ?_
  intro p e s m args below meth c ls Q H locs C hU hS hl hret
  have hx := C.1.1
  have hb := C.1.2.1
  have hl : lv_has ls 3 [(0, .ref (al.2 0 0)), (1, .int cl), (2, .int what)] := hl
  have hG0 := hG
  have h6 := le6 hG
  have h20 := le20 hG
  have h41 := le41 hG
  have hF1 : FR ([16, 17, 20], []) iv iv := FR.rf
  have hF2 : FR ([16, 17, 20], []) rv rv := FR.rf
  have km2 : ((-2) : Int32).toInt = -2 := by decide
  have km1 : ((-1) : Int32).toInt = -1 := by decide
  have k0 : (0 : Int32).toInt = 0 := by decide
  have k1 : (1 : Int32).toInt = 1 := by decide
  have k5 : (5 : Int32).toInt = 5 := by decide
  refine lv_aload_n hx hb dX12_claimOf_0 rfl (lv_at hl 0 rfl) ?_
  refine lv_iload_n hx hb dX12_claimOf_1 rfl (lv_at hl 1 rfl) ?_
  refine q_pi (q_runV (t := 0) (i := 0) (As := [.int cl]) (rest := []) C hU (c_X12_isClaim hG cl ) vm_X12_isClaim ml_X12_281 k_0.1 (hc := rfl) rfl (h1_0 hG) hl.1 rfl rfl (Nat.le_of_ble_eq_true rfl) dX12_claimOf_2 rfl rfl ⟨Nat.le_of_ble_eq_true rfl, Nat.le_of_ble_eq_true rfl⟩ ⟨Nat.le_refl _, Nat.le_refl _⟩) hS (fun x_2 H locs hp_1 hU hS => ?_)
  refine b_if_ne (tgt := 14) hx hb dX12_claimOf_5 (by decide) (fun c_3 => ?_) (fun c_3 => ?_)
  ·
    refine lv_iload_n hx hb dX12_claimOf_14 rfl (lv_at hl 2 rfl) ?_
    refine lv_iconst (v := 0) hx hb dX12_claimOf_15 (by decide) ?_
    refine lv_iconst (v := 5) hx hb dX12_claimOf_16 (by decide) ?_
    refine q_pi (q_runS (As := [.int what, .int 0, .int 5]) (rest := []) C hU (c_X12_in  what 0 5 ) sm_X12_in ml_X12_156 hl.1 rfl rfl (Nat.le_of_ble_eq_true rfl) dX12_claimOf_17 rfl rfl ⟨Nat.le_of_ble_eq_true rfl, Nat.le_of_ble_eq_true rfl⟩ ⟨Nat.le_refl _, Nat.le_refl _⟩) hS (fun x_5 H locs hp_4 hU hS => ?_)
    refine b_if_ne (tgt := 30) hx hb dX12_claimOf_20 (by decide) (fun c_6 => ?_) (fun c_6 => ?_)
    ·
      refine lv_iload_n hx hb dX12_claimOf_30 rfl (lv_at hl 2 rfl) ?_
      refine b_table hx hb dX12_claimOf_31 104 (by decide) [64, 71, 78, 92, 98] (by decide) (fun j hj => ?_) (fun c_7 => ?_) (fun j tt htt c_7 => ?_)
      ·
        match j, hj with
        | 0, _ => exact ⟨33, 64, by decide, by decide, by decide⟩
        | 1, _ => exact ⟨40, 71, by decide, by decide, by decide⟩
        | 2, _ => exact ⟨47, 78, by decide, by decide, by decide⟩
        | 3, _ => exact ⟨61, 92, by decide, by decide, by decide⟩
        | 4, _ => exact ⟨67, 98, by decide, by decide, by decide⟩
        | q + 5, hq => exact absurd hq (by simp)
      ·
        refine lv_aload_n hx hb dX12_claimOf_104 rfl (lv_at hl 0 rfl) ?_
        refine lv_iload_n hx hb dX12_claimOf_105 rfl (lv_at hl 1 rfl) ?_
        refine q_pi (q_runV (t := 0) (i := 0) (As := [.int cl]) (rest := []) C hU (c_X12_settledOf_x hG cl (by omega)) vm_X12_settledOf ml_X12_287 k_0.1 (hc := rfl) rfl (h1_0 hG) hl.1 rfl rfl (Nat.le_of_ble_eq_true rfl) dX12_claimOf_106 rfl rfl ⟨Nat.le_of_ble_eq_true rfl, Nat.le_of_ble_eq_true rfl⟩ ⟨Nat.le_refl _, Nat.le_refl _⟩) hS (fun x_9 H locs hp_8 hU hS => ?_)
        refine lv_aload_n hx hb dX12_claimOf_109 rfl (lv_at hl 0 rfl) ?_
        refine lv_iload_n hx hb dX12_claimOf_110 rfl (lv_at hl 1 rfl) ?_
        refine q_fi (q_runV (t := 0) (i := 0) (As := [.int cl]) (rest := [.int x_9]) C hU (c_X12_worthOf_x hG cl (by omega) (pre0)) vm_X12_worthOf ml_X12_284 k_0.1 (hc := rfl) rfl (h1_0 hG) hl.1 rfl rfl (Nat.le_of_ble_eq_true rfl) dX12_claimOf_111 rfl rfl ⟨Nat.le_of_ble_eq_true rfl, Nat.le_of_ble_eq_true rfl⟩ ⟨Nat.le_refl _, Nat.le_refl _⟩) hS (fun x_15 iv_11 rv_12 H locs hG fa_13 fb_14 hp_10 hU hS => ?_)
        have hF1 := hF1.tr (m := ([16, 17, 20], [])) fa_13 (by decide)
        have hF2 := hF2.tr (m := ([16, 17, 20], [])) fb_14 (by decide)
        refine lv_isub hx hb dX12_claimOf_114 ?_
        refine lv_topi (fun x_16 e_17 => ?_)
        refine q_pi (q_runS (As := [.int x_16]) (rest := []) C hU (c_X12_over  x_16 ) sm_X12_over ml_X12_187 hl.1 rfl rfl (Nat.le_of_ble_eq_true rfl) dX12_claimOf_115 rfl rfl ⟨Nat.le_of_ble_eq_true rfl, Nat.le_of_ble_eq_true rfl⟩ ⟨Nat.le_refl _, Nat.le_refl _⟩) hS (fun x_19 H locs hp_18 hU hS => ?_)
        have q_20 := hp_18.2
        have tq_20 := congrArg Int32.toInt q_20
        exact hret (⟨hG, hF1, hF2, by unfold coS; rw [if_neg (by omega), if_neg (by omega), if_neg (by omega), if_neg (by omega), if_neg (by omega), if_neg (by omega), if_neg (by omega), q_20, e_17, hp_8, hp_10]⟩) hU hS dX12_claimOf_118
      ·
        match j, htt with
        | 0, htt =>
          cases htt
          refine lv_aload_n hx hb dX12_claimOf_64 rfl (lv_at hl 0 rfl) ?_
          refine g_0_42 C hU hG (h1_0 hG) fl_X12_113 dX12_claimOf_65 ?_
          refine lv_iload_n hx hb dX12_claimOf_68 rfl (lv_at hl 1 rfl) ?_
          refine a_35 C hU hG (h1_35 hG) (x := cl) (by omega) (by omega) dX12_claimOf_69 (fun x_21 e_22 le_22 ue_22 => ?_)
          have te_22 := congrArg Int32.toInt e_22
          exact hret (⟨hG, hF1, hF2, by unfold coS; rw [if_neg (by omega), if_neg (by omega), if_pos (by omega)]; exact e_22⟩) hU hS dX12_claimOf_70
        | 1, htt =>
          cases htt
          refine lv_aload_n hx hb dX12_claimOf_71 rfl (lv_at hl 0 rfl) ?_
          refine g_0_43 C hU hG (h1_0 hG) fl_X12_116 dX12_claimOf_72 ?_
          refine lv_iload_n hx hb dX12_claimOf_75 rfl (lv_at hl 1 rfl) ?_
          refine a_36 C hU hG (h1_36 hG) (x := cl) (by omega) (by omega) dX12_claimOf_76 (fun x_23 e_24 le_24 ue_24 => ?_)
          have te_24 := congrArg Int32.toInt e_24
          exact hret (⟨hG, hF1, hF2, by unfold coS; rw [if_neg (by omega), if_neg (by omega), if_neg (by omega), if_pos (by omega)]; exact e_24⟩) hU hS dX12_claimOf_77
        | 2, htt =>
          cases htt
          refine lv_aload_n hx hb dX12_claimOf_78 rfl (lv_at hl 0 rfl) ?_
          refine lv_iload_n hx hb dX12_claimOf_79 rfl (lv_at hl 1 rfl) ?_
          refine q_pi (q_runV (t := 0) (i := 0) (As := [.int cl]) (rest := []) C hU (c_X12_isBarred_x hG cl (by omega)) vm_X12_isBarred ml_X12_278 k_0.1 (hc := rfl) rfl (h1_0 hG) hl.1 rfl rfl (Nat.le_of_ble_eq_true rfl) dX12_claimOf_80 rfl rfl ⟨Nat.le_of_ble_eq_true rfl, Nat.le_of_ble_eq_true rfl⟩ ⟨Nat.le_refl _, Nat.le_refl _⟩) hS (fun x_26 H locs hp_25 hU hS => ?_)
          have tbr := congrArg Int32.toInt hp_25.2
          refine b_if_eq (tgt := 90) hx hb dX12_claimOf_83 (by decide) (fun c_27 => ?_) (fun c_27 => ?_)
          ·
            refine lv_iconst (v := 0) hx hb dX12_claimOf_90 (by decide) ?_
            exact hret (⟨hG, hF1, hF2, by unfold coS; rw [if_neg (by omega), if_neg (by omega), if_neg (by omega), if_neg (by omega), if_pos (by omega)]; first | (rw [if_pos (by omega)]; done) | (rw [if_neg (by omega)]; done)⟩) hU hS dX12_claimOf_91
          ·
            refine lv_iconst (v := 1) hx hb dX12_claimOf_86 (by decide) ?_
            refine lv_goto (tgt := 91) hx hb dX12_claimOf_87 (by decide) ?_
            exact hret (⟨hG, hF1, hF2, by unfold coS; rw [if_neg (by omega), if_neg (by omega), if_neg (by omega), if_neg (by omega), if_pos (by omega)]; first | (rw [if_pos (by omega)]; done) | (rw [if_neg (by omega)]; done)⟩) hU hS dX12_claimOf_91
        | 3, htt =>
          cases htt
          refine lv_aload_n hx hb dX12_claimOf_92 rfl (lv_at hl 0 rfl) ?_
          refine lv_iload_n hx hb dX12_claimOf_93 rfl (lv_at hl 1 rfl) ?_
          refine q_fi (q_runV (t := 0) (i := 0) (As := [.int cl]) (rest := []) C hU (c_X12_worthOf_x hG cl (by omega) (pre0)) vm_X12_worthOf ml_X12_284 k_0.1 (hc := rfl) rfl (h1_0 hG) hl.1 rfl rfl (Nat.le_of_ble_eq_true rfl) dX12_claimOf_94 rfl rfl ⟨Nat.le_of_ble_eq_true rfl, Nat.le_of_ble_eq_true rfl⟩ ⟨Nat.le_refl _, Nat.le_refl _⟩) hS (fun x_33 iv_29 rv_30 H locs hG fa_31 fb_32 hp_28 hU hS => ?_)
          have hF1 := hF1.tr (m := ([16, 17, 20], [])) fa_31 (by decide)
          have hF2 := hF2.tr (m := ([16, 17, 20], [])) fb_32 (by decide)
          exact hret (⟨hG, hF1, hF2, by unfold coS; rw [if_neg (by omega), if_neg (by omega), if_neg (by omega), if_neg (by omega), if_neg (by omega), if_pos (by omega)]; exact hp_28⟩) hU hS dX12_claimOf_97
        | 4, htt =>
          cases htt
          refine lv_aload_n hx hb dX12_claimOf_98 rfl (lv_at hl 0 rfl) ?_
          refine lv_iload_n hx hb dX12_claimOf_99 rfl (lv_at hl 1 rfl) ?_
          refine q_pi (q_runV (t := 0) (i := 0) (As := [.int cl]) (rest := []) C hU (c_X12_settledOf_x hG cl (by omega)) vm_X12_settledOf ml_X12_287 k_0.1 (hc := rfl) rfl (h1_0 hG) hl.1 rfl rfl (Nat.le_of_ble_eq_true rfl) dX12_claimOf_100 rfl rfl ⟨Nat.le_of_ble_eq_true rfl, Nat.le_of_ble_eq_true rfl⟩ ⟨Nat.le_refl _, Nat.le_refl _⟩) hS (fun x_35 H locs hp_34 hU hS => ?_)
          exact hret (⟨hG, hF1, hF2, by unfold coS; rw [if_neg (by omega), if_neg (by omega), if_neg (by omega), if_neg (by omega), if_neg (by omega), if_neg (by omega), if_pos (by omega)]; exact hp_34⟩) hU hS dX12_claimOf_103
        | q + 5, htt => simp at htt
    ·
      refine lv_aload_n hx hb dX12_claimOf_23 rfl (lv_at hl 0 rfl) ?_
      refine lv_bipush (v := (-2)) hx hb dX12_claimOf_24 (by decide) ?_
      refine q_fi (q_runV (t := 0) (i := 0) (As := [.int (-2)]) (rest := []) C hU (c_X12_refuse hG (-2) (by omega)) vm_X12_refuse ml_X12_164 k_0.1 (hc := rfl) rfl (h1_0 hG) hl.1 rfl rfl (Nat.le_of_ble_eq_true rfl) dX12_claimOf_26 rfl rfl ⟨Nat.le_of_ble_eq_true rfl, Nat.le_of_ble_eq_true rfl⟩ ⟨Nat.le_refl _, Nat.le_refl _⟩) hS (fun x_41 iv_37 rv_38 H locs hG fa_39 fb_40 hp_36 hU hS => ?_)
      have hF1 := hF1.tr (m := ([16, 17, 20], [])) fa_39 (by decide)
      have hF2 := hF2.tr (m := ([16, 17, 20], [])) fb_40 (by decide)
      exact hret (⟨hG, hF1, hF2, by unfold coS; rw [if_neg (by omega), if_pos (by omega)]; exact hp_36⟩) hU hS dX12_claimOf_29
  ·
    refine lv_aload_n hx hb dX12_claimOf_8 rfl (lv_at hl 0 rfl) ?_
    refine lv_iconst (v := (-1)) hx hb dX12_claimOf_9 (by decide) ?_
    refine q_fi (q_runV (t := 0) (i := 0) (As := [.int (-1)]) (rest := []) C hU (c_X12_refuse hG (-1) (by omega)) vm_X12_refuse ml_X12_164 k_0.1 (hc := rfl) rfl (h1_0 hG) hl.1 rfl rfl (Nat.le_of_ble_eq_true rfl) dX12_claimOf_10 rfl rfl ⟨Nat.le_of_ble_eq_true rfl, Nat.le_of_ble_eq_true rfl⟩ ⟨Nat.le_refl _, Nat.le_refl _⟩) hS (fun x_47 iv_43 rv_44 H locs hG fa_45 fb_46 hp_42 hU hS => ?_)
    have hF1 := hF1.tr (m := ([16, 17, 20], [])) fa_45 (by decide)
    have hF2 := hF2.tr (m := ([16, 17, 20], [])) fb_46 (by decide)
    exact hret (⟨hG, hF1, hF2, by unfold coS; rw [if_pos (by omega)]; exact hp_42⟩) hU hS dX12_claimOf_13
set_option maxHeartbeats 4000000 in
set_option maxRecDepth 100000 in
theorem c_X8_arriveDay_x {l : Launch} {D : va_G} {cA : FieldType → ClassId} {sz : Nat} {al : Al} {iv : Iv} {rv : Rv} (hG : GI al iv rv) (ti : Nat) (hti : ti < al.1 65) (pre0 : BM iv rv) : Met l yX8_arriveDay (wd yX8_arriveDay cX8_arriveDay 1 (some .int)) (rm 0) (PcW D cA sz al iv rv [.ref (al.2 65 ti)]) (QI D cA sz al (pI iv rv (fun r => (0 ≤ r.toInt ∧ r.toInt ≤ 20000) ∧ (r = iv 10 0 (thL iv ti) / 1440)))) 0 0 (Aq sz) := by
  refine mk_i (by decide) (Nat.le_of_ble_eq_true rfl) rfl ?_
  intro p e s m args below meth c ls Q H locs C hU hS hl hret
  have hx := C.1.1
  have hb := C.1.2.1
  have hl : lv_has ls 1 [(0, .ref (al.2 65 ti))] := hl
  have hG0 := hG
  have htk := tk_k hG pre0 hti
  have k1440 : (1440 : Int32).toInt = 1440 := by decide
  refine lv_aload_n hx hb dX8_arriveDay_0 rfl (lv_at hl 0 rfl) ?_
  refine g_65_2 C hU hG hti fl_X8_19 dX8_arriveDay_1 (fun j_1 ej_2 hb_3 => ?_)
  refine g_62_6 C hU hG hb_3 fl_X8_45 dX8_arriveDay_4 (fun x_4 e_5 le_5 ue_5 => ?_)
  have te_5 := congrArg Int32.toInt e_5
  refine lv_sipush (v := 1440) hx hb dX8_arriveDay_7 (by decide) ?_
  refine lv_idiv hx hb dX8_arriveDay_10 (by decide) ?_
  refine lv_topi (fun x_6 e_7 => ?_)
  have te_7 : 0 ≤ x_6.toInt ∧ x_6.toInt ≤ (x_4 : Int32).toInt := by rw [e_7]; exact div_rng (by omega) (by omega)
  exact hret (⟨rfl, rfl, ⟨⟨by omega, by omega⟩, by rw [e_7, ad_ar hG0 pre0 hti htk ej_2 e_5]⟩⟩) hU hS dX8_arriveDay_11
set_option maxHeartbeats 4000000 in
set_option maxRecDepth 100000 in
theorem c_X0_nextStop_x {l : Launch} {D : va_G} {cA : FieldType → ClassId} {sz : Nat} {al : Al} {iv : Iv} {rv : Rv} (hG : GI al iv rv) (ld : Int32) (d : Int32) : Met l yX0_nextStop (wd yX0_nextStop cX0_nextStop 5 (some .int)) (rm 0) (PcW D cA sz al iv rv [.ref (al.2 79 0), .int ld, .int d]) (QI D cA sz al (pI iv rv (fun r => (-9 ≤ r.toInt ∧ r.toInt ≤ 19) ∧ ((r.toInt = -9 ∨ 0 ≤ r.toInt) ∧ nxP iv ld.toInt d.toInt r (iv 79 0 4).toInt.toNat)))) 0 0 (Aq sz) := by
  refine mk_i (by decide) (Nat.le_of_ble_eq_true rfl) rfl ?_
  intro p e s m args below meth c ls Q H locs C hU hS hl hret
  have hx := C.1.1
  have hb := C.1.2.1
  have hl : lv_has ls 5 [(0, .ref (al.2 79 0)), (1, .int ld), (2, .int d)] := hl
  have hG0 := hG
  have l37 := le37 hG
  have km9 : ((-9) : Int32).toInt = -9 := by decide
  have k0 : (0 : Int32).toInt = 0 := by decide
  have k1 : (1 : Int32).toInt = 1 := by decide
  refine lv_bipush (v := (-9)) hx hb dX0_nextStop_0 (by decide) ?_
  refine lv_istore_n (lv' := [(3, .int (-9)), (0, .ref (al.2 79 0)), (1, .int ld), (2, .int d)]) hx hb dX0_nextStop_2 rfl hl (by decide) rfl (fun ls hl => ?_)
  refine lv_iconst (v := 0) hx hb dX0_nextStop_3 (by decide) ?_
  refine lv_istore (lv' := [(4, .int 0), (3, .int (-9)), (0, .ref (al.2 79 0)), (1, .int ld), (2, .int d)]) hx hb dX0_nextStop_4 hl (by decide) rfl (fun ls hl => ?_)
  have J_6 : ∀ (n_6 : Nat) (l3_1 : Int32) (l4_2 : Int32) (ls : Array Slot), lv_has ls 5 [(0, .ref (al.2 79 0)), (1, .int ld), (2, .int d), (3, .int l3_1), (4, .int l4_2)] → (-9 ≤ l3_1.toInt ∧ l3_1.toInt ≤ 19) → (0 ≤ l4_2.toInt ∧ l4_2.toInt ≤ 20) → l3_1.toInt = -9 ∨ 0 ≤ l3_1.toInt → nxP iv ld.toInt d.toInt l3_1 l4_2.toNatClampNeg → l4_2.toInt ≤ (iv 79 0 4).toInt → (20 - l4_2.toInt).toNat < n_6 → W p l e (rm 0) s m args below meth c H locs 0 0 Q (F0 m 6 ls []) := by
    intro n_6
    induction n_6 with
    | zero =>
      intro l3_1 l4_2 ls hl i6_0 i6_1 i6_2 i6_3 i6_4 hm_6
      exact absurd hm_6 (Nat.not_lt_zero _)
    | succ n_6 ih_6 =>
      intro l3_1 l4_2 ls hl i6_0 i6_1 i6_2 i6_3 i6_4 hm_6
      refine lv_iload hx hb dX0_nextStop_6 (lv_at hl 4 rfl) ?_
      refine lv_aload_n hx hb dX0_nextStop_8 rfl (lv_at hl 0 rfl) ?_
      refine g_79_4 C hU hG (h1_79 hG) fl_X0_30 dX0_nextStop_9 (fun x_3 e_4 le_4 ue_4 => ?_)
      have te_4 := congrArg Int32.toInt e_4
      refine b_icmp_ge (tgt := 71) hx hb dX0_nextStop_12 (by decide) (fun c_5 => ?_) (fun c_5 => ?_)
      ·
        refine lv_iload_n hx hb dX0_nextStop_71 rfl (lv_at hl 3 rfl) ?_
        exact hret (⟨rfl, rfl, ⟨⟨by omega, by omega⟩, ⟨by omega, nx_end i6_3 (by omega) (by omega)⟩⟩⟩) hU hS dX0_nextStop_72
      ·
        refine lv_aload_n hx hb dX0_nextStop_15 rfl (lv_at hl 0 rfl) ?_
        refine g_79_1 C hU hG (h1_79 hG) fl_X0_21 dX0_nextStop_16 ?_
        refine lv_iload hx hb dX0_nextStop_19 (lv_at hl 4 rfl) ?_
        refine a_81 C hU hG (h1_81 hG) (x := l4_2) (by omega) (by omega) dX0_nextStop_21 (fun x_6 e_7 le_7 ue_7 => ?_)
        have te_7 := congrArg Int32.toInt e_7
        refine lv_iload_n hx hb dX0_nextStop_22 rfl (lv_at hl 1 rfl) ?_
        have J_65 : ∀ (l3_8 : Int32) (ls : Array Slot), lv_has ls 5 [(0, .ref (al.2 79 0)), (1, .int ld), (2, .int d), (4, .int l4_2), (3, .int l3_8)] → (-9 ≤ l3_8.toInt ∧ l3_8.toInt ≤ 19) → l3_8.toInt = -9 ∨ 0 ≤ l3_8.toInt → nxP iv ld.toInt d.toInt l3_8 (l4_2.toNatClampNeg + 1) → W p l e (rm 0) s m args below meth c H locs 0 0 Q (F0 m 65 ls []) := by
          intro l3_8 ls hl i65_0 i65_1 i65_2
          obtain ⟨x_9, e_10⟩ : ∃ y : Int32, y = l4_2 + 1 := ⟨_, rfl⟩
          have te_10 : x_9.toInt = (l4_2 : Int32).toInt + (1 : Int32).toInt := by rw [e_10]; exact fb_addI (by omega) (by omega)
          refine lv_iinc (v := x_9) (lv' := [(4, .int x_9), (0, .ref (al.2 79 0)), (1, .int ld), (2, .int d), (3, .int l3_8)]) hx hb dX0_nextStop_65 hl (k := 3) rfl (by rw [e_10]; rfl) (by decide) rfl (fun ls hl => ?_)
          refine lv_goto (tgt := 6) hx hb dX0_nextStop_68 (by decide) ?_
          exact ih_6 l3_8 x_9 _ (lv_sub hl [1, 2, 3, 4, 0] rfl) (by omega) (by omega) (by omega) (by first | exact nx_up (by omega) (by omega) i65_2 | exact nx_0) (by omega) (by omega)
        refine b_icmp_ne (tgt := 65) hx hb dX0_nextStop_23 (by decide) (fun c_11 => ?_) (fun c_11 => ?_)
        ·
          exact J_65 l3_1 _ (lv_sub hl [0, 1, 2, 4, 3] rfl) (by omega) (by omega) (by first | exact nx_y i6_3 (by omega) (by omega) True.intro | exact nx_n i6_3 (by omega))
        ·
          refine lv_aload_n hx hb dX0_nextStop_26 rfl (lv_at hl 0 rfl) ?_
          refine g_79_3 C hU hG (h1_79 hG) fl_X0_27 dX0_nextStop_27 ?_
          refine lv_iload hx hb dX0_nextStop_30 (lv_at hl 4 rfl) ?_
          refine a_83 C hU hG (h1_83 hG) (x := l4_2) (by omega) (by omega) dX0_nextStop_32 (fun x_12 e_13 le_13 ue_13 => ?_)
          have te_13 := congrArg Int32.toInt e_13
          refine lv_iload_n hx hb dX0_nextStop_33 rfl (lv_at hl 2 rfl) ?_
          refine b_icmp_ge (tgt := 40) hx hb dX0_nextStop_34 (by decide) (fun c_14 => ?_) (fun c_14 => ?_)
          ·
            refine lv_iload_n hx hb dX0_nextStop_40 rfl (lv_at hl 3 rfl) ?_
            refine lv_bipush (v := (-9)) hx hb dX0_nextStop_41 (by decide) ?_
            have J_62 : ∀ (ls : Array Slot), lv_has ls 5 [(0, .ref (al.2 79 0)), (1, .int ld), (2, .int d), (4, .int l4_2)] → l3_1.toInt = -9 ∨ (iv 82 0 l4_2.toNatClampNeg).toInt < (iv 82 0 l3_1.toNatClampNeg).toInt → W p l e (rm 0) s m args below meth c H locs 0 0 Q (F0 m 62 ls []) := by
              intro ls hl i62_0
              refine lv_iload hx hb dX0_nextStop_62 (lv_at hl 3 rfl) ?_
              refine lv_istore_n (lv' := [(3, .int l4_2), (0, .ref (al.2 79 0)), (1, .int ld), (2, .int d), (4, .int l4_2)]) hx hb dX0_nextStop_64 rfl hl (by decide) rfl (fun ls hl => ?_)
              exact J_65 l4_2 _ (lv_sub hl [1, 2, 3, 4, 0] rfl) (by omega) (by omega) (by first | exact nx_y i6_3 (by omega) (by omega) i62_0 | exact nx_n i6_3 (by omega))
            refine b_icmp_eq (tgt := 62) hx hb dX0_nextStop_43 (by decide) (fun c_15 => ?_) (fun c_15 => ?_)
            ·
              exact J_62 _ (lv_sub hl [0, 1, 2, 4] rfl) (by omega)
            ·
              refine lv_aload_n hx hb dX0_nextStop_46 rfl (lv_at hl 0 rfl) ?_
              refine g_79_2 C hU hG (h1_79 hG) fl_X0_24 dX0_nextStop_47 ?_
              refine lv_iload hx hb dX0_nextStop_50 (lv_at hl 4 rfl) ?_
              refine a_82 C hU hG (h1_82 hG) (x := l4_2) (by omega) (by omega) dX0_nextStop_52 (fun x_16 e_17 le_17 ue_17 => ?_)
              have te_17 := congrArg Int32.toInt e_17
              refine lv_aload_n hx hb dX0_nextStop_53 rfl (lv_at hl 0 rfl) ?_
              refine g_79_2 C hU hG (h1_79 hG) fl_X0_24 dX0_nextStop_54 ?_
              refine lv_iload_n hx hb dX0_nextStop_57 rfl (lv_at hl 3 rfl) ?_
              refine a_82 C hU hG (h1_82 hG) (x := l3_1) (by omega) (by omega) dX0_nextStop_58 (fun x_18 e_19 le_19 ue_19 => ?_)
              have te_19 := congrArg Int32.toInt e_19
              refine b_icmp_ge (tgt := 65) hx hb dX0_nextStop_59 (by decide) (fun c_20 => ?_) (fun c_20 => ?_)
              ·
                exact J_65 l3_1 _ (lv_sub hl [0, 1, 2, 4, 3] rfl) (by omega) (by omega) (by first | exact nx_y i6_3 (by omega) (by omega) i62_0 | exact nx_n i6_3 (by omega))
              ·
                exact J_62 _ (lv_sub hl [0, 1, 2, 4] rfl) (by omega)
          ·
            refine lv_goto (tgt := 65) hx hb dX0_nextStop_37 (by decide) ?_
            exact J_65 l3_1 _ (lv_sub hl [0, 1, 2, 4, 3] rfl) (by omega) (by omega) (by first | exact nx_y i6_3 (by omega) (by omega) i62_0 | exact nx_n i6_3 (by omega))
  exact J_6 _ (-9) 0 _ (lv_sub hl [2, 3, 4, 1, 0] rfl) (by omega) (by omega) (by omega) (by first | exact nx_up (by omega) (by omega) i65_2 | exact nx_0) (by omega) (Nat.lt_succ_self _)
set_option maxHeartbeats 4000000 in
set_option maxRecDepth 100000 in
theorem c_X0_daysThatRan_x {l : Launch} {D : va_G} {cA : FieldType → ClassId} {sz : Nat} {al : Al} {iv : Iv} {rv : Rv} (hG : GI al iv rv) (ld : Int32) (a : Int32) (b : Int32) (pre0 : Cstop iv rv) (pre1 : Cord iv rv) (pre2 : 0 ≤ a.toInt ∧ a.toInt ≤ 20001) (pre3 : 0 ≤ b.toInt ∧ b.toInt ≤ 4000) : Met l yX0_daysThatRan (wd yX0_daysThatRan cX0_daysThatRan 9 (some .int)) (rm 1) (PcW D cA sz al iv rv [.ref (al.2 79 0), .int ld, .int a, .int b]) (QI D cA sz al (pI iv rv (fun r => r.toInt = drN iv ld.toInt a.toInt (b.toInt - a.toInt + 1).toNat))) 0 0 (Aq sz) := by
  refine mk_i (by decide) (Nat.le_of_ble_eq_true rfl) rfl ?_
  intro p e s m args below meth c ls Q H locs C hU hS hl hret
  have hx := C.1.1
  have hb := C.1.2.1
  have hl : lv_has ls 9 [(0, .ref (al.2 79 0)), (1, .int ld), (2, .int a), (3, .int b)] := hl
  have hG0 := hG
  have hcn := congrArg Int32.toInt pre0.1
  have hst := le37 hG
  have km9 : ((-9) : Int32).toInt = -9 := by decide
  have k0 : (0 : Int32).toInt = 0 := by decide
  have k1 : (1 : Int32).toInt = 1 := by decide
  refine lv_iconst (v := 0) hx hb dX0_daysThatRan_0 (by decide) ?_
  refine lv_istore (lv' := [(4, .int 0), (0, .ref (al.2 79 0)), (1, .int ld), (2, .int a), (3, .int b)]) hx hb dX0_daysThatRan_1 hl (by decide) rfl (fun ls hl => ?_)
  refine lv_iload_n hx hb dX0_daysThatRan_3 rfl (lv_at hl 3 rfl) ?_
  refine lv_istore (lv' := [(5, .int a), (4, .int 0), (0, .ref (al.2 79 0)), (1, .int ld), (2, .int a), (3, .int b)]) hx hb dX0_daysThatRan_4 hl (by decide) rfl (fun ls hl => ?_)
  refine lv_iconst (v := 0) hx hb dX0_daysThatRan_6 (by decide) ?_
  refine lv_istore (lv' := [(6, .int 0), (5, .int a), (4, .int 0), (0, .ref (al.2 79 0)), (1, .int ld), (2, .int a), (3, .int b)]) hx hb dX0_daysThatRan_7 hl (by decide) rfl (fun ls hl => ?_)
  have J_9 : ∀ (n_9 : Nat) (l4_1 : Int32) (l5_2 : Int32) (l6_3 : Int32) (H : Heap) (locs : List Loc) (ls : Array Slot), lv_has ls 9 [(0, .ref (al.2 79 0)), (1, .int ld), (3, .int b), (4, .int l4_1), (5, .int l5_2), (6, .int l6_3)] → UW D cA sz al iv rv H → va_S (Aq sz) s.heap H locs → (0 ≤ l4_1.toInt ∧ l4_1.toInt ≤ 20001) → (0 ≤ l5_2.toInt ∧ l5_2.toInt ≤ 20001) → (0 ≤ l6_3.toInt ∧ l6_3.toInt ≤ 21) → DR iv ld.toInt a.toInt b.toInt l4_1.toInt l5_2.toInt l6_3.toInt → l4_1.toInt ≤ l5_2.toInt → (22 - l6_3.toInt).toNat < n_9 → W p l e (rm 1) s m args below meth c H locs 0 0 Q (F0 m 9 ls []) := by
    intro n_9
    induction n_9 with
    | zero =>
      intro l4_1 l5_2 l6_3 H locs ls hl hU hS i9_0 i9_1 i9_2 i9_3 i9_4 hm_9
      exact absurd hm_9 (Nat.not_lt_zero _)
    | succ n_9 ih_9 =>
      intro l4_1 l5_2 l6_3 H locs ls hl hU hS i9_0 i9_1 i9_2 i9_3 i9_4 hm_9
      refine lv_iload hx hb dX0_daysThatRan_9 (lv_at hl 5 rfl) ?_
      refine lv_aload_n hx hb dX0_daysThatRan_11 rfl (lv_at hl 0 rfl) ?_
      refine g_79_4 C hU hG (h1_79 hG) fl_X0_30 dX0_daysThatRan_12 (fun x_4 e_5 le_5 ue_5 => ?_)
      have te_5 := congrArg Int32.toInt e_5
      refine b_icmp_gt (tgt := 105) hx hb dX0_daysThatRan_15 (by decide) (fun c_6 => ?_) (fun c_6 => ?_)
      ·
        refine lv_iload hx hb dX0_daysThatRan_105 (lv_at hl 3 rfl) ?_
        exact hret (⟨rfl, rfl, dR_end pre0 i9_3 (by omega)⟩) hU hS dX0_daysThatRan_107
      ·
        refine lv_iload hx hb dX0_daysThatRan_18 (lv_at hl 4 rfl) ?_
        refine lv_iload_n hx hb dX0_daysThatRan_20 rfl (lv_at hl 2 rfl) ?_
        refine b_icmp_gt (tgt := 105) hx hb dX0_daysThatRan_21 (by decide) (fun c_7 => ?_) (fun c_7 => ?_)
        ·
          refine lv_iload hx hb dX0_daysThatRan_105 (lv_at hl 3 rfl) ?_
          exact hret (⟨rfl, rfl, dR_end pre0 i9_3 (by omega)⟩) hU hS dX0_daysThatRan_107
        ·
          refine lv_aload_n hx hb dX0_daysThatRan_24 rfl (lv_at hl 0 rfl) ?_
          refine lv_iload_n hx hb dX0_daysThatRan_25 rfl (lv_at hl 1 rfl) ?_
          refine lv_iload hx hb dX0_daysThatRan_26 (lv_at hl 4 rfl) ?_
          refine q_pi (q_runV (t := 79) (i := 0) (As := [.int ld, .int l5_2]) (rest := []) C hU (c_X0_nextStop_x hG ld l5_2 ) vm_X0_nextStop ml_X0_34 k_79.1 (hc := rfl) rfl (h1_79 hG) hl.1 rfl rfl (Nat.le_of_ble_eq_true rfl) dX0_daysThatRan_28 rfl rfl ⟨Nat.le_of_ble_eq_true rfl, Nat.le_of_ble_eq_true rfl⟩ ⟨Nat.le_refl _, Nat.le_refl _⟩) hS (fun x_9 H locs hp_8 hU hS => ?_)
          have hnx := nx_ge hp_8.2.2 pre1
          refine lv_istore (lv' := [(7, .int x_9), (0, .ref (al.2 79 0)), (1, .int ld), (3, .int b), (4, .int l4_1), (5, .int l5_2), (6, .int l6_3)]) hx hb dX0_daysThatRan_31 hl (by decide) rfl (fun ls hl => ?_)
          refine lv_iload hx hb dX0_daysThatRan_33 (lv_at hl 0 rfl) ?_
          refine lv_bipush (v := (-9)) hx hb dX0_daysThatRan_35 (by decide) ?_
          have J_59 : ∀ (v_10 : Int32) (H : Heap) (locs : List Loc) (ls : Array Slot), lv_has ls 9 [(0, .ref (al.2 79 0)), (1, .int ld), (3, .int b), (4, .int l4_1), (5, .int l5_2), (6, .int l6_3), (7, .int x_9)] → UW D cA sz al iv rv H → va_S (Aq sz) s.heap H locs → ((x_9.toInt = -9 ∧ v_10.toInt = b.toInt + 1) ∨ (0 ≤ x_9.toInt ∧ v_10.toInt = min (iv 82 0 x_9.toNatClampNeg).toInt (b.toInt + 1))) → (0 ≤ v_10.toInt ∧ v_10.toInt ≤ 4001) → W p l e (rm 1) s m args below meth c H locs 0 0 Q (F0 m 59 ls [.int v_10]) := by
            intro v_10 H locs ls hl hU hS i59_0 i59_1
            refine lv_istore (lv' := [(8, .int v_10), (0, .ref (al.2 79 0)), (1, .int ld), (3, .int b), (4, .int l4_1), (5, .int l5_2), (6, .int l6_3), (7, .int x_9)]) hx hb dX0_daysThatRan_59 hl (by decide) rfl (fun ls hl => ?_)
            refine lv_iload hx hb dX0_daysThatRan_61 (lv_at hl 4 rfl) ?_
            refine lv_iconst (v := 0) hx hb dX0_daysThatRan_63 (by decide) ?_
            refine lv_iload hx hb dX0_daysThatRan_64 (lv_at hl 0 rfl) ?_
            refine lv_iload hx hb dX0_daysThatRan_66 (lv_at hl 5 rfl) ?_
            refine lv_isub hx hb dX0_daysThatRan_68 ?_
            refine lv_topi (fun x_11 e_12 => ?_)
            have t68 : x_11.toInt = v_10.toInt - l5_2.toInt := by rw [e_12]; exact fb_subI (by omega) (by omega)
            refine q_max C hl.1 ml_X0_43 (Nat.le_of_ble_eq_true rfl) (Nat.le_of_ble_eq_true rfl) (Nat.le_refl _) (Nat.le_refl _) dX0_daysThatRan_69 (fun x_13 q_14 tq_14 => ?_)
            have t72 : (l4_1 + x_13 : Int32).toInt = l4_1.toInt + x_13.toInt := fb_addI (by omega) (by omega)
            refine lv_iadd hx hb dX0_daysThatRan_72 ?_
            refine lv_topi (fun x_15 e_16 => ?_)
            rw [← e_16] at t72
            refine lv_istore (lv' := [(4, .int x_15), (8, .int v_10), (0, .ref (al.2 79 0)), (1, .int ld), (3, .int b), (5, .int l5_2), (6, .int l6_3), (7, .int x_9)]) hx hb dX0_daysThatRan_73 hl (by decide) rfl (fun ls hl => ?_)
            refine lv_iload hx hb dX0_daysThatRan_75 (lv_at hl 7 rfl) ?_
            refine lv_bipush (v := (-9)) hx hb dX0_daysThatRan_77 (by decide) ?_
            have J_97 : ∀ (v_17 : Int32) (ls : Array Slot), lv_has ls 9 [(0, .ref (al.2 79 0)), (1, .int ld), (3, .int b), (4, .int x_15), (6, .int l6_3)] → (1 ≤ v_17.toInt ∧ v_17.toInt ≤ 4001) → ((x_9.toInt = -9 ∧ v_17.toInt = b.toInt + 1) ∨ (0 ≤ x_9.toInt ∧ v_17.toInt = (iv 83 0 x_9.toNatClampNeg).toInt + 1)) → W p l e (rm 1) s m args below meth c H locs 0 0 Q (F0 m 97 ls [.int v_17]) := by
              intro v_17 ls hl i97_0 i97_1
              refine lv_istore (lv' := [(5, .int v_17), (0, .ref (al.2 79 0)), (1, .int ld), (3, .int b), (4, .int x_15), (6, .int l6_3)]) hx hb dX0_daysThatRan_97 hl (by decide) rfl (fun ls hl => ?_)
              obtain ⟨x_18, e_19⟩ : ∃ y : Int32, y = l6_3 + 1 := ⟨_, rfl⟩
              have te_19 : x_18.toInt = (l6_3 : Int32).toInt + (1 : Int32).toInt := by rw [e_19]; exact fb_addI (by omega) (by omega)
              refine lv_iinc (v := x_18) (lv' := [(6, .int x_18), (5, .int v_17), (0, .ref (al.2 79 0)), (1, .int ld), (3, .int b), (4, .int x_15)]) hx hb dX0_daysThatRan_99 hl (k := 5) rfl (by rw [e_19]; rfl) (by decide) rfl (fun ls hl => ?_)
              refine lv_goto (tgt := 9) hx hb dX0_daysThatRan_102 (by decide) ?_
              exact ih_9 x_15 v_17 x_18 _ _ _ (lv_sub hl [2, 3, 4, 5, 1, 0] rfl) hU hS (by omega) (by omega) (by omega) (by first | exact dR_step pre0 pre1 i9_3 hp_8.2.2 (by omega) (by omega) (by omega) i59_0 i97_1 | exact dR_0 pre0) (by omega) (by omega)
            refine b_icmp_ne (tgt := 88) hx hb dX0_daysThatRan_79 (by decide) (fun c_20 => ?_) (fun c_20 => ?_)
            ·
              refine lv_aload_n hx hb dX0_daysThatRan_88 rfl (lv_at hl 2 rfl) ?_
              refine g_79_3 C hU hG (h1_79 hG) fl_X0_27 dX0_daysThatRan_89 ?_
              refine lv_iload hx hb dX0_daysThatRan_92 (lv_at hl 7 rfl) ?_
              refine a_83 C hU hG (h1_83 hG) (x := x_9) (by omega) (by omega) dX0_daysThatRan_94 (fun x_21 e_22 le_22 ue_22 => ?_)
              have te_22 := congrArg Int32.toInt e_22
              refine lv_iconst (v := 1) hx hb dX0_daysThatRan_95 (by decide) ?_
              refine lv_iadd hx hb dX0_daysThatRan_96 ?_
              refine lv_topi (fun x_23 e_24 => ?_)
              have te_24 : x_23.toInt = (x_21 : Int32).toInt + (1 : Int32).toInt := by rw [e_24]; exact fb_addI (by omega) (by omega)
              exact J_97 x_23 _ (lv_sub hl [2, 3, 4, 0, 6] rfl) (by omega) (by omega)
            ·
              refine lv_iload_n hx hb dX0_daysThatRan_82 rfl (lv_at hl 4 rfl) ?_
              refine lv_iconst (v := 1) hx hb dX0_daysThatRan_83 (by decide) ?_
              refine lv_iadd hx hb dX0_daysThatRan_84 ?_
              refine lv_topi (fun x_25 e_26 => ?_)
              have te_26 : x_25.toInt = (b : Int32).toInt + (1 : Int32).toInt := by rw [e_26]; exact fb_addI (by omega) (by omega)
              refine lv_goto (tgt := 97) hx hb dX0_daysThatRan_85 (by decide) ?_
              exact J_97 x_25 _ (lv_sub hl [2, 3, 4, 0, 6] rfl) (by omega) (by omega)
          refine b_icmp_ne (tgt := 46) hx hb dX0_daysThatRan_37 (by decide) (fun c_27 => ?_) (fun c_27 => ?_)
          ·
            refine lv_aload_n hx hb dX0_daysThatRan_46 rfl (lv_at hl 1 rfl) ?_
            refine g_79_2 C hU hG (h1_79 hG) fl_X0_24 dX0_daysThatRan_47 ?_
            refine lv_iload hx hb dX0_daysThatRan_50 (lv_at hl 0 rfl) ?_
            refine a_82 C hU hG (h1_82 hG) (x := x_9) (by omega) (by omega) dX0_daysThatRan_52 (fun x_28 e_29 le_29 ue_29 => ?_)
            have te_29 := congrArg Int32.toInt e_29
            refine lv_iload_n hx hb dX0_daysThatRan_53 rfl (lv_at hl 3 rfl) ?_
            refine lv_iconst (v := 1) hx hb dX0_daysThatRan_54 (by decide) ?_
            refine lv_iadd hx hb dX0_daysThatRan_55 ?_
            refine lv_topi (fun x_30 e_31 => ?_)
            have te_31 : x_30.toInt = (b : Int32).toInt + (1 : Int32).toInt := by rw [e_31]; exact fb_addI (by omega) (by omega)
            refine q_min C hl.1 ml_X0_38 (Nat.le_of_ble_eq_true rfl) (Nat.le_of_ble_eq_true rfl) (Nat.le_refl _) (Nat.le_refl _) dX0_daysThatRan_56 (fun x_32 q_33 tq_33 => ?_)
            exact J_59 x_32 _ _ _ (lv_sub hl [1, 2, 3, 4, 5, 6, 0] rfl) hU hS (by omega) (by omega)
          ·
            refine lv_iload_n hx hb dX0_daysThatRan_40 rfl (lv_at hl 3 rfl) ?_
            refine lv_iconst (v := 1) hx hb dX0_daysThatRan_41 (by decide) ?_
            refine lv_iadd hx hb dX0_daysThatRan_42 ?_
            refine lv_topi (fun x_34 e_35 => ?_)
            have te_35 : x_34.toInt = (b : Int32).toInt + (1 : Int32).toInt := by rw [e_35]; exact fb_addI (by omega) (by omega)
            refine lv_goto (tgt := 59) hx hb dX0_daysThatRan_43 (by decide) ?_
            exact J_59 x_34 _ _ _ (lv_sub hl [1, 2, 3, 4, 5, 6, 0] rfl) hU hS (by omega) (by omega)
  exact J_9 _ 0 a 0 _ _ _ (lv_sub hl [3, 4, 6, 2, 1, 0] rfl) hU hS (by omega) (by omega) (by omega) (by first | exact dR_step pre0 pre1 i9_3 True.intro.2.2 (by omega) (by omega) (by omega) i59_0 i97_1 | exact dR_0 pre0) (by omega) (Nat.lt_succ_self _)
end
section
set_option maxHeartbeats 4000000 in
set_option maxRecDepth 100000 in
theorem c_X11_isBarred_x {l : Launch} {D : va_G} {cA : FieldType → ClassId} {sz : Nat} {al : Al} {iv : Iv} {rv : Rv} (hG : GI al iv rv) (ci : Nat) (hci : ci < al.1 88) (pre0 : BX iv rv) (pre1 : Cord iv rv) : Met l yX11_isBarred (wd yX11_isBarred cX11_isBarred 3 (some .boolean)) (rm 3) (PcW D cA sz al iv rv [.ref (al.2 49 0), .ref (al.2 88 ci)]) (QI D cA sz al (pI iv rv (fun r => (0 ≤ r.toInt ∧ r.toInt ≤ 1) ∧ (r = brF iv ci)))) 0 0 (Aq sz) := by
  refine mk_z (by decide) (Nat.le_of_ble_eq_true rfl) rfl ?_
  intro p e s m args below meth c ls Q H locs C hU hS hl hret
  have hx := C.1.1
  have hb := C.1.2.1
  have hl : lv_has ls 3 [(0, .ref (al.2 49 0)), (1, .ref (al.2 88 ci))] := hl
  have hG0 := hG
  have km9 : ((-9) : Int32).toInt = -9 := by decide
  have k0 : (0 : Int32).toInt = 0 := by decide
  have k1 : (1 : Int32).toInt = 1 := by decide
  refine lv_aload_n hx hb dX11_isBarred_0 rfl (lv_at hl 0 rfl) ?_
  refine g_49_3 C hU hG (h1_49 hG) fl_X11_33 dX11_isBarred_1 ?_
  refine lv_aload_n hx hb dX11_isBarred_4 rfl (lv_at hl 1 rfl) ?_
  refine g_88_0 C hU hG hci fl_X11_264 dX11_isBarred_5 (fun j_1 ej_2 hb_3 => ?_)
  have hti := cw_t hG0 pre0 hci ej_2
  refine lv_aload_n hx hb dX11_isBarred_8 rfl (lv_at hl 1 rfl) ?_
  refine g_88_1 C hU hG hci fl_X11_271 dX11_isBarred_9 (fun x_4 e_5 le_5 ue_5 => ?_)
  have te_5 := congrArg Int32.toInt e_5
  have hdd := cw_d hG0 pre0 hci e_5
  refine q_pi (q_runV (t := 68) (i := 0) (As := [.ref (al.2 65 j_1), .int x_4]) (rest := []) C hU (c_X4_landFor_x hG (j_1) hb_3 x_4 (pre0.1)) vm_X4_landFor ml_X11_236 k_68.1 (hc := rfl) rfl (h1_68 hG) hl.1 rfl rfl (Nat.le_of_ble_eq_true rfl) dX11_isBarred_12 rfl rfl ⟨Nat.le_of_ble_eq_true rfl, Nat.le_of_ble_eq_true rfl⟩ ⟨Nat.le_refl _, Nat.le_refl _⟩) hS (fun x_7 H locs hp_6 hU hS => ?_)
  refine lv_istore_n (lv' := [(2, .int x_7), (0, .ref (al.2 49 0)), (1, .ref (al.2 88 ci))]) hx hb dX11_isBarred_15 rfl hl (by decide) rfl (fun ls hl => ?_)
  have hlw := hp_6.2.1
  rw [hti, hdd] at hlw
  have tlw := congrArg Int32.toInt hlw
  have olw := hp_6.2.2
  refine lv_iload_n hx hb dX11_isBarred_16 rfl (lv_at hl 0 rfl) ?_
  refine lv_bipush (v := (-9)) hx hb dX11_isBarred_17 (by decide) ?_
  refine b_icmp_ne (tgt := 24) hx hb dX11_isBarred_19 (by decide) (fun c_8 => ?_) (fun c_8 => ?_)
  ·
    refine lv_aload_n hx hb dX11_isBarred_24 rfl (lv_at hl 1 rfl) ?_
    refine g_49_4 C hU hG (h1_49 hG) fl_X11_40 dX11_isBarred_25 ?_
    refine lv_iload_n hx hb dX11_isBarred_28 rfl (lv_at hl 0 rfl) ?_
    refine lv_aload_n hx hb dX11_isBarred_29 rfl (lv_at hl 2 rfl) ?_
    refine g_88_0 C hU hG hci fl_X11_264 dX11_isBarred_30 (fun j_9 ej_10 hb_11 => ?_)
    have hti2 := cw_t hG0 pre0 hci ej_10
    refine q_pi (q_runV (t := 65) (i := j_9) (As := []) (rest := [.int x_7, .ref (al.2 79 0)]) C hU (c_X8_arriveDay_x hG (j_9) hb_11 (bb_bm pre0.1.1)) vm_X8_arriveDay ml_X11_384 k_65.1 (hc := rfl) rfl hb_11 hl.1 rfl rfl (Nat.le_of_ble_eq_true rfl) dX11_isBarred_33 rfl rfl ⟨Nat.le_of_ble_eq_true rfl, Nat.le_of_ble_eq_true rfl⟩ ⟨Nat.le_refl _, Nat.le_refl _⟩) hS (fun x_13 H locs hp_12 hU hS => ?_)
    have had := hp_12.2
    rw [hti2] at had
    have tad := congrArg Int32.toInt had
    refine lv_iconst (v := 1) hx hb dX11_isBarred_36 (by decide) ?_
    refine lv_iadd hx hb dX11_isBarred_37 ?_
    refine lv_topi (fun x_14 e_15 => ?_)
    have te_15 : x_14.toInt = (x_13 : Int32).toInt + (1 : Int32).toInt := by rw [e_15]; exact fb_addI (by omega) (by omega)
    refine lv_aload_n hx hb dX11_isBarred_38 rfl (lv_at hl 2 rfl) ?_
    refine g_88_1 C hU hG hci fl_X11_271 dX11_isBarred_39 (fun x_16 e_17 le_17 ue_17 => ?_)
    have te_17 := congrArg Int32.toInt e_17
    have hdd2 := cw_d hG0 pre0 hci e_17
    have td2 := congrArg Int32.toInt hdd2
    refine q_pi (q_runV (t := 79) (i := 0) (As := [.int x_7, .int x_14, .int x_16]) (rest := []) C hU (c_X0_daysThatRan_x hG x_7 x_14 x_16 (pre0.2.2.1) (pre1) (by omega) (by omega)) vm_X0_daysThatRan ml_X11_387 k_79.1 (hc := rfl) rfl (h1_79 hG) hl.1 rfl rfl (Nat.le_of_ble_eq_true rfl) dX11_isBarred_42 rfl rfl ⟨Nat.le_of_ble_eq_true rfl, Nat.le_of_ble_eq_true rfl⟩ ⟨Nat.le_refl _, Nat.le_refl _⟩) hS (fun x_19 H locs hp_18 hU hS => ?_)
    refine lv_aload_n hx hb dX11_isBarred_45 rfl (lv_at hl 1 rfl) ?_
    refine g_49_4 C hU hG (h1_49 hG) fl_X11_40 dX11_isBarred_46 ?_
    refine g_79_0 C hU hG (h1_79 hG) fl_X11_247 dX11_isBarred_49 ?_
    refine lv_iload_n hx hb dX11_isBarred_52 rfl (lv_at hl 0 rfl) ?_
    refine a_80 C hU hG (h1_80 hG) (x := x_7) (by omega) (by omega) dX11_isBarred_53 (fun x_20 e_21 le_21 ue_21 => ?_)
    have te_21 := congrArg Int32.toInt e_21
    have hb53 := cw_b pre0 e_21 (by omega) (by omega)
    rw [hlw] at hb53
    have tb53 := congrArg Int32.toInt hb53
    refine b_icmp_le (tgt := 61) hx hb dX11_isBarred_54 (by decide) (fun c_22 => ?_) (fun c_22 => ?_)
    ·
      refine lv_iconst (v := 0) hx hb dX11_isBarred_61 (by decide) ?_
      exact hret (by omega) (by omega) (⟨rfl, rfl, ⟨⟨by omega, by omega⟩, by have z := hp_18; first | exact cw_1 hlw olw (by omega) z tad td2 tb53 (by omega) | exact cw_0 hlw olw (by omega) z tad td2 tb53 (by omega)⟩⟩) hU hS dX11_isBarred_62
    ·
      refine lv_iconst (v := 1) hx hb dX11_isBarred_57 (by decide) ?_
      refine lv_goto (tgt := 62) hx hb dX11_isBarred_58 (by decide) ?_
      exact hret (by omega) (by omega) (⟨rfl, rfl, ⟨⟨by omega, by omega⟩, by have z := hp_18; first | exact cw_1 hlw olw (by omega) z tad td2 tb53 (by omega) | exact cw_0 hlw olw (by omega) z tad td2 tb53 (by omega)⟩⟩) hU hS dX11_isBarred_62
  ·
    refine lv_iconst (v := 0) hx hb dX11_isBarred_22 (by decide) ?_
    exact hret (by omega) (by omega) (⟨rfl, rfl, ⟨⟨by omega, by omega⟩, by unfold brF clw; rw [if_pos (by omega)]⟩⟩) hU hS dX11_isBarred_23
set_option maxHeartbeats 4000000 in
set_option maxRecDepth 100000 in
theorem c_X11_worthOf_x {l : Launch} {D : va_G} {cA : FieldType → ClassId} {sz : Nat} {al : Al} {iv : Iv} {rv : Rv} (hG : GI al iv rv) (ci : Nat) (hci : ci < al.1 88) (pre0 : BX iv rv) (pre1 : Cord iv rv) : Met l yX11_worthOf (wd yX11_worthOf cX11_worthOf 2 (some .int)) (rm 5) (PcW D cA sz al iv rv [.ref (al.2 49 0), .ref (al.2 88 ci)]) (QI D cA sz al (fI al ([59, 60, 61], []) iv rv (fun r iv' rv' => r = wrF iv ci))) 0 0 (Aq sz) := by
  refine mk_i (by decide) (Nat.le_of_ble_eq_true rfl) rfl ?_
  intro p e s m args below meth c ls Q H locs C hU hS hl hret
  have hx := C.1.1
  have hb := C.1.2.1
  have hl : lv_has ls 2 [(0, .ref (al.2 49 0)), (1, .ref (al.2 88 ci))] := hl
  have hG0 := hG
  have hF1 : FR ([59, 60, 61], []) iv iv := FR.rf
  have hF2 : FR ([59, 60, 61], []) rv rv := FR.rf
  have k0 : (0 : Int32).toInt = 0 := by decide
  refine lv_aload_n hx hb dX11_worthOf_0 rfl (lv_at hl 0 rfl) ?_
  refine lv_aload_n hx hb dX11_worthOf_1 rfl (lv_at hl 1 rfl) ?_
  refine q_pi (q_runV (t := 49) (i := 0) (As := [.ref (al.2 88 ci)]) (rest := []) C hU (c_X11_isBarred_x hG (ci) hci (pre0) (pre1)) vm_X11_isBarred ml_X11_274 k_49.1 (hc := rfl) rfl (h1_49 hG) hl.1 rfl rfl (Nat.le_of_ble_eq_true rfl) dX11_worthOf_2 rfl rfl ⟨Nat.le_of_ble_eq_true rfl, Nat.le_of_ble_eq_true rfl⟩ ⟨Nat.le_refl _, Nat.le_refl _⟩) hS (fun x_2 H locs hp_1 hU hS => ?_)
  have tbr := congrArg Int32.toInt hp_1.2
  refine b_if_eq (tgt := 12) hx hb dX11_worthOf_5 (by decide) (fun c_3 => ?_) (fun c_3 => ?_)
  ·
    refine lv_aload_n hx hb dX11_worthOf_12 rfl (lv_at hl 0 rfl) ?_
    refine lv_aload_n hx hb dX11_worthOf_13 rfl (lv_at hl 1 rfl) ?_
    refine g_88_0 C hU hG hci fl_X11_264 dX11_worthOf_14 (fun j_4 ej_5 hb_6 => ?_)
    have hti := cw_t hG0 pre0 hci ej_5
    refine lv_aload_n hx hb dX11_worthOf_17 rfl (lv_at hl 1 rfl) ?_
    refine g_88_1 C hU hG hci fl_X11_271 dX11_worthOf_18 (fun x_7 e_8 le_8 ue_8 => ?_)
    have te_8 := congrArg Int32.toInt e_8
    have hdd := cw_d hG0 pre0 hci e_8
    refine q_fi (q_runV (t := 49) (i := 0) (As := [.ref (al.2 65 j_4), .int x_7]) (rest := []) C hU (c_X11_sumFor_x hG (j_4) hb_6 x_7 (pre0.1)) vm_X11_sumFor ml_X11_232 k_49.1 (hc := rfl) rfl (h1_49 hG) hl.1 rfl rfl (Nat.le_of_ble_eq_true rfl) dX11_worthOf_21 rfl rfl ⟨Nat.le_of_ble_eq_true rfl, Nat.le_of_ble_eq_true rfl⟩ ⟨Nat.le_refl _, Nat.le_refl _⟩) hS (fun x_14 iv_10 rv_11 H locs hG fa_12 fb_13 hp_9 hU hS => ?_)
    have hF1 := hF1.tr (m := ([59, 60, 61], [])) fa_12 (by decide)
    have hF2 := hF2.tr (m := ([59, 60, 61], [])) fb_13 (by decide)
    exact hret (⟨hG, hF1, hF2, by unfold wrF; first | (rw [if_pos (by omega)]; done) | (rw [if_neg (by omega), hp_9, hti, hdd]; done)⟩) hU hS dX11_worthOf_24
  ·
    refine lv_iconst (v := 0) hx hb dX11_worthOf_8 (by decide) ?_
    refine lv_goto (tgt := 24) hx hb dX11_worthOf_9 (by decide) ?_
    exact hret (⟨hG, hF1, hF2, by unfold wrF; first | (rw [if_pos (by omega)]; done) | (rw [if_neg (by omega), True.intro, hti, hdd]; done)⟩) hU hS dX11_worthOf_24
set_option maxHeartbeats 4000000 in
set_option maxRecDepth 100000 in
theorem c_X11_claimOf_x {l : Launch} {D : va_G} {cA : FieldType → ClassId} {sz : Nat} {al : Al} {iv : Iv} {rv : Rv} (hG : GI al iv rv) (cl : Int32) (what : Int32) (pre0 : BV iv rv) (pre1 : Cord iv rv) : Met l yX11_claimOf (wd yX11_claimOf cX11_claimOf 4 (some .int)) (rm 6) (PcW D cA sz al iv rv [.ref (al.2 49 0), .int cl, .int what]) (QI D cA sz al (fI al ([51, 59, 60, 61], []) iv rv (fun r iv' rv' => r = coS iv cl what))) 0 0 (Aq sz) := by
  refine mk_i (by decide) (Nat.le_of_ble_eq_true rfl) rfl ?_
  intro p e s m args below meth c ls Q H locs C hU hS hl hret
  have hx := C.1.1
  have hb := C.1.2.1
  have hl : lv_has ls 4 [(0, .ref (al.2 49 0)), (1, .int cl), (2, .int what)] := hl
  have hG0 := hG
  have hn41 := congrArg Int32.toInt pre0.1.2.2.2.1
  have hF1 : FR ([51, 59, 60, 61], []) iv iv := FR.rf
  have hF2 : FR ([51, 59, 60, 61], []) rv rv := FR.rf
  have km2 : ((-2) : Int32).toInt = -2 := by decide
  have km1 : ((-1) : Int32).toInt = -1 := by decide
  have k0 : (0 : Int32).toInt = 0 := by decide
  have k1 : (1 : Int32).toInt = 1 := by decide
  refine lv_aload_n hx hb dX11_claimOf_0 rfl (lv_at hl 0 rfl) ?_
  refine g_49_5 C hU hG (h1_49 hG) fl_X11_47 dX11_claimOf_1 ?_
  refine lv_iload_n hx hb dX11_claimOf_4 rfl (lv_at hl 1 rfl) ?_
  refine q_pr (q_runV (t := 84) (i := 0) (As := [.int cl]) (rest := []) C hU (c_X3_find hG cl ) vm_X3_find ml_X11_261 k_84.1 (hc := rfl) rfl (h1_84 hG) hl.1 rfl rfl (Nat.le_of_ble_eq_true rfl) dX11_claimOf_5 rfl rfl ⟨Nat.le_of_ble_eq_true rfl, Nat.le_of_ble_eq_true rfl⟩ ⟨Nat.le_refl _, Nat.le_refl _⟩) hS (fun r_2 H locs hp_1 hU hS => ?_)
  have hb_3 := hp_1.1
  refine b_astore_n (lv' := [(3, rfv al 88 r_2), (0, .ref (al.2 49 0)), (1, .int cl), (2, .int what)]) hx hb dX11_claimOf_8 rfl hl (by decide) rfl (fun ls hl => ?_)
  refine b_aload_n (al := al) (t' := 88) (r := r_2) hx hb dX11_claimOf_9 rfl (lv_at hl 0 rfl) ?_
  refine b_ifnonnull (tgt := 19) hx hb dX11_claimOf_10 (by decide) (fun j_5 ej_6 => ?_) (fun ej_6 => ?_)
  ·
    subst ej_6
    have hl : lv_has ls 4 [(3, .ref (al.2 88 j_5)), (0, .ref (al.2 49 0)), (1, .int cl), (2, .int what)] := hl
    have hb_7 : j_5 < al.1 88 := hb_3 j_5 rfl
    have hq4 := hp_1.2.1 _ rfl
    have hn4 := hq4.1
    rw [clamp_n] at hn4
    refine lv_iload_n hx hb dX11_claimOf_19 rfl (lv_at hl 3 rfl) ?_
    refine b_table hx hb dX11_claimOf_20 113 (by decide) [60, 68, 73, 87, 93, 98] (by decide) (fun j hj => ?_) (fun c_8 => ?_) (fun j tt htt c_8 => ?_)
    ·
      match j, hj with
      | 0, _ => exact ⟨40, 60, by decide, by decide, by decide⟩
      | 1, _ => exact ⟨48, 68, by decide, by decide, by decide⟩
      | 2, _ => exact ⟨53, 73, by decide, by decide, by decide⟩
      | 3, _ => exact ⟨67, 87, by decide, by decide, by decide⟩
      | 4, _ => exact ⟨73, 93, by decide, by decide, by decide⟩
      | 5, _ => exact ⟨78, 98, by decide, by decide, by decide⟩
      | q + 6, hq => exact absurd hq (by simp)
    ·
      refine lv_aload_n hx hb dX11_claimOf_113 rfl (lv_at hl 1 rfl) ?_
      refine lv_bipush (v := (-2)) hx hb dX11_claimOf_114 (by decide) ?_
      refine q_fi (q_runV (t := 49) (i := 0) (As := [.int (-2)]) (rest := []) C hU (c_X11_refuse hG (-2) (by omega)) vm_X11_refuse ml_X11_77 k_49.1 (hc := rfl) rfl (h1_49 hG) hl.1 rfl rfl (Nat.le_of_ble_eq_true rfl) dX11_claimOf_116 rfl rfl ⟨Nat.le_of_ble_eq_true rfl, Nat.le_of_ble_eq_true rfl⟩ ⟨Nat.le_refl _, Nat.le_refl _⟩) hS (fun x_14 iv_10 rv_11 H locs hG fa_12 fb_13 hp_9 hU hS => ?_)
      have hF1 := hF1.tr (m := ([51, 59, 60, 61], [])) fa_12 (by decide)
      have hF2 := hF2.tr (m := ([51, 59, 60, 61], [])) fb_13 (by decide)
      exact hret (⟨hG, hF1, hF2, by unfold coS; rw [if_neg (by omega), if_pos (by omega)]; exact hp_9⟩) hU hS dX11_claimOf_119
    ·
      match j, htt with
      | 0, htt =>
        cases htt
        refine lv_aload_n hx hb dX11_claimOf_60 rfl (lv_at hl 0 rfl) ?_
        refine g_88_0 C hU hG hb_7 fl_X11_264 dX11_claimOf_61 (fun j_15 ej_16 hb_17 => ?_)
        have hti := cw_t hG0 pre0.1 hb_7 ej_16
        have hb61 := hb_17
        refine g_65_0 C hU hG hb_17 fl_X11_270 dX11_claimOf_64 (fun x_18 e_19 le_19 ue_19 => ?_)
        have te_19 := congrArg Int32.toInt e_19
        have hnum := cw_n hG0 pre0.1 hb_7 hb61 hti e_19
        exact hret (⟨hG, hF1, hF2, by unfold coS; rw [if_neg (by omega), if_neg (by omega), if_pos (by omega), hnum, hq4.1]⟩) hU hS dX11_claimOf_67
      | 1, htt =>
        cases htt
        refine lv_aload_n hx hb dX11_claimOf_68 rfl (lv_at hl 0 rfl) ?_
        refine g_88_1 C hU hG hb_7 fl_X11_271 dX11_claimOf_69 (fun x_20 e_21 le_21 ue_21 => ?_)
        have te_21 := congrArg Int32.toInt e_21
        have hdd := cw_d hG0 pre0.1 hb_7 e_21
        exact hret (⟨hG, hF1, hF2, by unfold coS; rw [if_neg (by omega), if_neg (by omega), if_neg (by omega), if_pos (by omega), hdd, hq4.1]⟩) hU hS dX11_claimOf_72
      | 2, htt =>
        cases htt
        refine lv_aload_n hx hb dX11_claimOf_73 rfl (lv_at hl 1 rfl) ?_
        refine lv_aload_n hx hb dX11_claimOf_74 rfl (lv_at hl 0 rfl) ?_
        refine q_pi (q_runV (t := 49) (i := 0) (As := [.ref (al.2 88 j_5)]) (rest := []) C hU (c_X11_isBarred_x hG (j_5) hb_7 (pre0.1) (pre1)) vm_X11_isBarred ml_X11_274 k_49.1 (hc := rfl) rfl (h1_49 hG) hl.1 rfl rfl (Nat.le_of_ble_eq_true rfl) dX11_claimOf_75 rfl rfl ⟨Nat.le_of_ble_eq_true rfl, Nat.le_of_ble_eq_true rfl⟩ ⟨Nat.le_refl _, Nat.le_refl _⟩) hS (fun x_23 H locs hp_22 hU hS => ?_)
        have tbr := congrArg Int32.toInt hp_22.2
        rw [hq4.1] at tbr
        refine b_if_eq (tgt := 85) hx hb dX11_claimOf_78 (by decide) (fun c_24 => ?_) (fun c_24 => ?_)
        ·
          refine lv_iconst (v := 0) hx hb dX11_claimOf_85 (by decide) ?_
          exact hret (⟨hG, hF1, hF2, by unfold coS; rw [if_neg (by omega), if_neg (by omega), if_neg (by omega), if_neg (by omega), if_pos (by omega)]; first | (rw [if_pos (by omega)]; done) | (rw [if_neg (by omega)]; done)⟩) hU hS dX11_claimOf_86
        ·
          refine lv_iconst (v := 1) hx hb dX11_claimOf_81 (by decide) ?_
          refine lv_goto (tgt := 86) hx hb dX11_claimOf_82 (by decide) ?_
          exact hret (⟨hG, hF1, hF2, by unfold coS; rw [if_neg (by omega), if_neg (by omega), if_neg (by omega), if_neg (by omega), if_pos (by omega)]; first | (rw [if_pos (by omega)]; done) | (rw [if_neg (by omega)]; done)⟩) hU hS dX11_claimOf_86
      | 3, htt =>
        cases htt
        refine lv_aload_n hx hb dX11_claimOf_87 rfl (lv_at hl 1 rfl) ?_
        refine lv_aload_n hx hb dX11_claimOf_88 rfl (lv_at hl 0 rfl) ?_
        refine q_fi (q_runV (t := 49) (i := 0) (As := [.ref (al.2 88 j_5)]) (rest := []) C hU (c_X11_worthOf_x hG (j_5) hb_7 (pre0.1) (pre1)) vm_X11_worthOf ml_X11_278 k_49.1 (hc := rfl) rfl (h1_49 hG) hl.1 rfl rfl (Nat.le_of_ble_eq_true rfl) dX11_claimOf_89 rfl rfl ⟨Nat.le_of_ble_eq_true rfl, Nat.le_of_ble_eq_true rfl⟩ ⟨Nat.le_refl _, Nat.le_refl _⟩) hS (fun x_30 iv_26 rv_27 H locs hG fa_28 fb_29 hp_25 hU hS => ?_)
        have hF1 := hF1.tr (m := ([51, 59, 60, 61], [])) fa_28 (by decide)
        have hF2 := hF2.tr (m := ([51, 59, 60, 61], [])) fb_29 (by decide)
        exact hret (⟨hG, hF1, hF2, by unfold coS; rw [if_neg (by omega), if_neg (by omega), if_neg (by omega), if_neg (by omega), if_neg (by omega), if_pos (by omega), hp_25, hq4.1]⟩) hU hS dX11_claimOf_92
      | 4, htt =>
        cases htt
        refine lv_aload_n hx hb dX11_claimOf_93 rfl (lv_at hl 0 rfl) ?_
        refine g_88_3 C hU hG hb_7 fl_X11_282 dX11_claimOf_94 (fun x_31 e_32 => ?_)
        have te_32 := congrArg Int32.toInt e_32
        have hse := cw_s pre0 e_32 hq4.1 (by omega)
        exact hret (⟨hG, hF1, hF2, by unfold coS; rw [if_neg (by omega), if_neg (by omega), if_neg (by omega), if_neg (by omega), if_neg (by omega), if_neg (by omega), if_pos (by omega)]; exact hse⟩) hU hS dX11_claimOf_97
      | 5, htt =>
        cases htt
        refine lv_iconst (v := 0) hx hb dX11_claimOf_98 (by decide) ?_
        refine lv_aload_n hx hb dX11_claimOf_99 rfl (lv_at hl 0 rfl) ?_
        refine g_88_3 C hU hG hb_7 fl_X11_282 dX11_claimOf_100 (fun x_33 e_34 => ?_)
        have te_34 := congrArg Int32.toInt e_34
        have hse := cw_s pre0 e_34 hq4.1 (by omega)
        refine lv_aload_n hx hb dX11_claimOf_103 rfl (lv_at hl 1 rfl) ?_
        refine lv_aload_n hx hb dX11_claimOf_104 rfl (lv_at hl 0 rfl) ?_
        refine q_fi (q_runV (t := 49) (i := 0) (As := [.ref (al.2 88 j_5)]) (rest := [.int x_33, .int 0]) C hU (c_X11_worthOf_x hG (j_5) hb_7 (pre0.1) (pre1)) vm_X11_worthOf ml_X11_278 k_49.1 (hc := rfl) rfl (h1_49 hG) hl.1 rfl rfl (Nat.le_of_ble_eq_true rfl) dX11_claimOf_105 rfl rfl ⟨Nat.le_of_ble_eq_true rfl, Nat.le_of_ble_eq_true rfl⟩ ⟨Nat.le_refl _, Nat.le_refl _⟩) hS (fun x_40 iv_36 rv_37 H locs hG fa_38 fb_39 hp_35 hU hS => ?_)
        have hF1 := hF1.tr (m := ([51, 59, 60, 61], [])) fa_38 (by decide)
        have hF2 := hF2.tr (m := ([51, 59, 60, 61], [])) fb_39 (by decide)
        refine lv_isub hx hb dX11_claimOf_108 ?_
        refine lv_topi (fun x_41 e_42 => ?_)
        refine q_max C hl.1 ml_X11_180 (Nat.le_of_ble_eq_true rfl) (Nat.le_of_ble_eq_true rfl) (Nat.le_refl _) (Nat.le_refl _) dX11_claimOf_109 (fun x_43 q_44 tq_44 => ?_)
        exact hret (⟨hG, hF1, hF2, by unfold coS; rw [if_neg (by omega), if_neg (by omega), if_neg (by omega), if_neg (by omega), if_neg (by omega), if_neg (by omega), if_neg (by omega), q_44, mx0, e_42, hse, hp_35, hq4.1]⟩) hU hS dX11_claimOf_112
      | q + 6, htt => simp at htt
  ·
    subst ej_6
    have hl : lv_has ls 4 [(3, rfv al 88 none), (0, .ref (al.2 49 0)), (1, .int cl), (2, .int what)] := hl
    have hq4 := hp_1.2.2 rfl
    refine lv_aload_n hx hb dX11_claimOf_13 rfl (lv_at hl 1 rfl) ?_
    refine lv_iconst (v := (-1)) hx hb dX11_claimOf_14 (by decide) ?_
    refine q_fi (q_runV (t := 49) (i := 0) (As := [.int (-1)]) (rest := []) C hU (c_X11_refuse hG (-1) (by omega)) vm_X11_refuse ml_X11_77 k_49.1 (hc := rfl) rfl (h1_49 hG) hl.1 rfl rfl (Nat.le_of_ble_eq_true rfl) dX11_claimOf_15 rfl rfl ⟨Nat.le_of_ble_eq_true rfl, Nat.le_of_ble_eq_true rfl⟩ ⟨Nat.le_refl _, Nat.le_refl _⟩) hS (fun x_50 iv_46 rv_47 H locs hG fa_48 fb_49 hp_45 hU hS => ?_)
    have hF1 := hF1.tr (m := ([51, 59, 60, 61], [])) fa_48 (by decide)
    have hF2 := hF2.tr (m := ([51, 59, 60, 61], [])) fb_49 (by decide)
    exact hret (⟨hG, hF1, hF2, by unfold coS; rw [if_pos (by omega)]; exact hp_45⟩) hU hS dX11_claimOf_18
end
