set_option maxHeartbeats 4000000 in
set_option maxRecDepth 100000 in
theorem c_X12_set_x {l : Launch} {D : va_G} {cA : FieldType → ClassId} {sz : Nat} {al : Al} {iv : Iv} {rv : Rv} (hG : GI al iv rv) (what : Int32) (v : Int32) : Met l yX12_set (wd yX12_set cX12_set 4 (some .int)) (rm 1) (PcW D cA sz al iv rv [.ref (al.2 0 0), .int what, .int v]) (QI D cA sz al (fI al ([16, 15], []) iv rv (fun r iv' rv' => (spSet what v = 0 ∧ r = iv 15 0 what.toNatClampNeg ∧ ∀ k, iv' 15 0 k = if k = what.toNatClampNeg then v else iv 15 0 k) ∨ (spSet what v ≠ 0 ∧ r = spSet what v ∧ ∀ k, iv' 15 0 k = iv 15 0 k)))) 0 0 (Aq sz) := by
  refine mk_i (by decide) (Nat.le_of_ble_eq_true rfl) rfl ?_
  intro p e s m args below meth c ls Q H locs C hU hS hl hret
  have hx := C.1.1
  have hb := C.1.2.1
  have hl : lv_has ls 4 [(0, .ref (al.2 0 0)), (1, .int what), (2, .int v)] := hl
  have hG0 := hG
  have h6 := le6 hG
  have h20 := le20 hG
  have h41 := le41 hG
  have hF1 : FR ([16, 15], []) iv iv := FR.rf
  have hF2 : FR ([16, 15], []) rv rv := FR.rf
  have km6 : ((-6) : Int32).toInt = -6 := by decide
  have km4 : ((-4) : Int32).toInt = -4 := by decide
  have km2 : ((-2) : Int32).toInt = -2 := by decide
  have k0 : (0 : Int32).toInt = 0 := by decide
  have k1 : (1 : Int32).toInt = 1 := by decide
  have k2 : (2 : Int32).toInt = 2 := by decide
  have k3 : (3 : Int32).toInt = 3 := by decide
  have k9 : (9 : Int32).toInt = 9 := by decide
  have k200 : (200 : Int32).toInt = 200 := by decide
  have k300 : (300 : Int32).toInt = 300 := by decide
  have k900 : (900 : Int32).toInt = 900 := by decide
  refine lv_iload_n hx hb dX12_set_0 rfl (lv_at hl 1 rfl) ?_
  refine lv_iconst (v := 0) hx hb dX12_set_1 (by decide) ?_
  refine lv_iconst (v := 3) hx hb dX12_set_2 (by decide) ?_
  refine q_pi (q_runS (As := [.int what, .int 0, .int 3]) (rest := []) C hU (c_X12_in  what 0 3 ) sm_X12_in ml_X12_156 hl.1 rfl rfl (Nat.le_of_ble_eq_true rfl) dX12_set_3 rfl rfl ⟨Nat.le_of_ble_eq_true rfl, Nat.le_of_ble_eq_true rfl⟩ ⟨Nat.le_refl _, Nat.le_refl _⟩) hS (fun x_2 H locs hp_1 hU hS => ?_)
  refine b_if_ne (tgt := 16) hx hb dX12_set_6 (by decide) (fun c_3 => ?_) (fun c_3 => ?_)
  ·
    refine lv_iload_n hx hb dX12_set_16 rfl (lv_at hl 2 rfl) ?_
    refine lv_iload_n hx hb dX12_set_17 rfl (lv_at hl 1 rfl) ?_
    refine lv_iconst (v := 3) hx hb dX12_set_18 (by decide) ?_
    have J_27 : ∀ (v_4 : Int32) (ls : Array Slot), lv_has ls 4 [(0, .ref (al.2 0 0)), (1, .int what), (2, .int v)] → (0 ≤ v_4.toInt ∧ v_4.toInt ≤ 1) → ((what.toInt = 3 ∧ v_4.toInt = 1) ∨ (¬ what.toInt = 3 ∧ v_4.toInt = 0)) → W p l e (rm 1) s m args below meth c H locs 0 0 Q (F0 m 27 ls [.int v_4, .int v]) := by
      intro v_4 ls hl i27_0 i27_1
      refine b_icmp_ge (tgt := 37) hx hb dX12_set_27 (by decide) (fun c_5 => ?_) (fun c_5 => ?_)
      ·
        refine lv_iload_n hx hb dX12_set_37 rfl (lv_at hl 2 rfl) ?_
        refine lv_iload_n hx hb dX12_set_38 rfl (lv_at hl 1 rfl) ?_
        have J_72 : ∀ (v_6 : Int32) (ls : Array Slot), lv_has ls 4 [(0, .ref (al.2 0 0)), (1, .int what), (2, .int v)] → (9 ≤ v_6.toInt ∧ v_6.toInt ≤ 900) → ((what.toInt = 0 ∧ v_6.toInt = 200) ∨ (what.toInt = 1 ∧ v_6.toInt = 900) ∨ (what.toInt = 2 ∧ v_6.toInt = 300) ∨ (what.toInt = 3 ∧ v_6.toInt = 9)) → W p l e (rm 1) s m args below meth c H locs 0 0 Q (F0 m 72 ls [.int v_6, .int v]) := by
          intro v_6 ls hl i72_0 i72_1
          refine b_icmp_le (tgt := 82) hx hb dX12_set_72 (by decide) (fun c_7 => ?_) (fun c_7 => ?_)
          ·
            refine lv_aload_n hx hb dX12_set_82 rfl (lv_at hl 0 rfl) ?_
            refine g_0_17 C hU hG (h1_0 hG) fl_X12_53 dX12_set_83 ?_
            refine lv_iload_n hx hb dX12_set_86 rfl (lv_at hl 1 rfl) ?_
            refine a_15 C hU hG (h1_15 hG) (x := what) (by omega) (by omega) dX12_set_87 (fun x_8 e_9 le_9 ue_9 => ?_)
            have te_9 := congrArg Int32.toInt e_9
            refine lv_istore_n (lv' := [(3, .int x_8), (0, .ref (al.2 0 0)), (1, .int what), (2, .int v)]) hx hb dX12_set_88 rfl hl (by decide) rfl (fun ls hl => ?_)
            refine lv_aload_n hx hb dX12_set_89 rfl (lv_at hl 1 rfl) ?_
            refine g_0_17 C hU hG (h1_0 hG) fl_X12_53 dX12_set_90 ?_
            refine lv_iload_n hx hb dX12_set_93 rfl (lv_at hl 2 rfl) ?_
            refine lv_iload_n hx hb dX12_set_94 rfl (lv_at hl 3 rfl) ?_
            refine s_15 C hU hS (h1_15 hG) (x := what) (by omega) (by omega) dX12_set_95 (fun iv_10 H locs ei_11 hU hS => ?_)
            have hG : GI al iv_10 rv := by rw [ei_11]; exact hG.puti (show _ ∧ _ from ⟨show (0 : Int) ≤ _ by omega, show _ ≤ (900 : Int) by omega⟩) (nsA (by decide) _)
            have hF1 : FR ([16, 15], []) iv iv_10 := by rw [ei_11]; exact hF1.put (Or.inl (by decide))
            refine lv_iload_n hx hb dX12_set_96 rfl (lv_at hl 0 rfl) ?_
            exact hret (⟨hG, hF1, hF2, Or.inl ⟨(by unfold spSet; (repeat' split) <;> first | rfl | omega), e_9, fun k => by rw [ei_11]; simp [up3]⟩⟩) hU hS dX12_set_97
          ·
            refine lv_aload_n hx hb dX12_set_75 rfl (lv_at hl 0 rfl) ?_
            refine lv_bipush (v := (-6)) hx hb dX12_set_76 (by decide) ?_
            refine q_fi (q_runV (t := 0) (i := 0) (As := [.int (-6)]) (rest := []) C hU (c_X12_refuse hG (-6) (by omega)) vm_X12_refuse ml_X12_164 k_0.1 (hc := rfl) rfl (h1_0 hG) hl.1 rfl rfl (Nat.le_of_ble_eq_true rfl) dX12_set_78 rfl rfl ⟨Nat.le_of_ble_eq_true rfl, Nat.le_of_ble_eq_true rfl⟩ ⟨Nat.le_refl _, Nat.le_refl _⟩) hS (fun x_17 iv_13 rv_14 H locs hG fa_15 fb_16 hp_12 hU hS => ?_)
            have hF1 := hF1.tr (m := ([16, 15], [])) fa_15 (by decide)
            have hF2 := hF2.tr (m := ([16, 15], [])) fb_16 (by decide)
            exact hret (⟨hG, hF1, hF2, sp_no (z := (-6)) (by unfold spSet; (repeat' split) <;> first | rfl | omega) (by decide) hp_12 (fun k => fa_15.arr 15 0 k (by decide))⟩) hU hS dX12_set_81
        refine b_if_ne (tgt := 48) hx hb dX12_set_39 (by decide) (fun c_18 => ?_) (fun c_18 => ?_)
        ·
          refine lv_iload_n hx hb dX12_set_48 rfl (lv_at hl 1 rfl) ?_
          refine lv_iconst (v := 1) hx hb dX12_set_49 (by decide) ?_
          refine b_icmp_ne (tgt := 59) hx hb dX12_set_50 (by decide) (fun c_19 => ?_) (fun c_19 => ?_)
          ·
            refine lv_iload_n hx hb dX12_set_59 rfl (lv_at hl 1 rfl) ?_
            refine lv_iconst (v := 2) hx hb dX12_set_60 (by decide) ?_
            refine b_icmp_ne (tgt := 70) hx hb dX12_set_61 (by decide) (fun c_20 => ?_) (fun c_20 => ?_)
            ·
              refine lv_bipush (v := 9) hx hb dX12_set_70 (by decide) ?_
              exact J_72 9 _ (lv_sub hl [0, 1, 2] rfl) (by omega) (by omega)
            ·
              refine lv_sipush (v := 300) hx hb dX12_set_64 (by decide) ?_
              refine lv_goto (tgt := 72) hx hb dX12_set_67 (by decide) ?_
              exact J_72 300 _ (lv_sub hl [0, 1, 2] rfl) (by omega) (by omega)
          ·
            refine lv_sipush (v := 900) hx hb dX12_set_53 (by decide) ?_
            refine lv_goto (tgt := 72) hx hb dX12_set_56 (by decide) ?_
            exact J_72 900 _ (lv_sub hl [0, 1, 2] rfl) (by omega) (by omega)
        ·
          refine lv_sipush (v := 200) hx hb dX12_set_42 (by decide) ?_
          refine lv_goto (tgt := 72) hx hb dX12_set_45 (by decide) ?_
          exact J_72 200 _ (lv_sub hl [0, 1, 2] rfl) (by omega) (by omega)
      ·
        refine lv_aload_n hx hb dX12_set_30 rfl (lv_at hl 0 rfl) ?_
        refine lv_bipush (v := (-4)) hx hb dX12_set_31 (by decide) ?_
        refine q_fi (q_runV (t := 0) (i := 0) (As := [.int (-4)]) (rest := []) C hU (c_X12_refuse hG (-4) (by omega)) vm_X12_refuse ml_X12_164 k_0.1 (hc := rfl) rfl (h1_0 hG) hl.1 rfl rfl (Nat.le_of_ble_eq_true rfl) dX12_set_33 rfl rfl ⟨Nat.le_of_ble_eq_true rfl, Nat.le_of_ble_eq_true rfl⟩ ⟨Nat.le_refl _, Nat.le_refl _⟩) hS (fun x_26 iv_22 rv_23 H locs hG fa_24 fb_25 hp_21 hU hS => ?_)
        have hF1 := hF1.tr (m := ([16, 15], [])) fa_24 (by decide)
        have hF2 := hF2.tr (m := ([16, 15], [])) fb_25 (by decide)
        exact hret (⟨hG, hF1, hF2, sp_no (z := (-4)) (by unfold spSet; (repeat' split) <;> first | rfl | omega) (by decide) hp_21 (fun k => fa_24.arr 15 0 k (by decide))⟩) hU hS dX12_set_36
    refine b_icmp_ne (tgt := 26) hx hb dX12_set_19 (by decide) (fun c_27 => ?_) (fun c_27 => ?_)
    ·
      refine lv_iconst (v := 0) hx hb dX12_set_26 (by decide) ?_
      exact J_27 0 _ (lv_sub hl [0, 1, 2] rfl) (by omega) (by omega)
    ·
      refine lv_iconst (v := 1) hx hb dX12_set_22 (by decide) ?_
      refine lv_goto (tgt := 27) hx hb dX12_set_23 (by decide) ?_
      exact J_27 1 _ (lv_sub hl [0, 1, 2] rfl) (by omega) (by omega)
  ·
    refine lv_aload_n hx hb dX12_set_9 rfl (lv_at hl 0 rfl) ?_
    refine lv_bipush (v := (-2)) hx hb dX12_set_10 (by decide) ?_
    refine q_fi (q_runV (t := 0) (i := 0) (As := [.int (-2)]) (rest := []) C hU (c_X12_refuse hG (-2) (by omega)) vm_X12_refuse ml_X12_164 k_0.1 (hc := rfl) rfl (h1_0 hG) hl.1 rfl rfl (Nat.le_of_ble_eq_true rfl) dX12_set_12 rfl rfl ⟨Nat.le_of_ble_eq_true rfl, Nat.le_of_ble_eq_true rfl⟩ ⟨Nat.le_refl _, Nat.le_refl _⟩) hS (fun x_33 iv_29 rv_30 H locs hG fa_31 fb_32 hp_28 hU hS => ?_)
    have hF1 := hF1.tr (m := ([16, 15], [])) fa_31 (by decide)
    have hF2 := hF2.tr (m := ([16, 15], [])) fb_32 (by decide)
    exact hret (⟨hG, hF1, hF2, sp_no (z := (-2)) (by unfold spSet; (repeat' split) <;> first | rfl | omega) (by decide) hp_28 (fun k => fa_31.arr 15 0 k (by decide))⟩) hU hS dX12_set_15
set_option maxHeartbeats 4000000 in
set_option maxRecDepth 100000 in
theorem c_X11_set_x {l : Launch} {D : va_G} {cA : FieldType → ClassId} {sz : Nat} {al : Al} {iv : Iv} {rv : Rv} (hG : GI al iv rv) (wh : Int32) (v : Int32) : Met l yX11_set (wd yX11_set cX11_set 4 (some .int)) (rm 2) (PcA D cA sz al iv rv [.ref (al.2 49 0), .int wh, .int v] (fun U => SX cA sz U U.heap)) (QI D cA sz al (fI al ([51, 50], []) iv rv (fun r iv' rv' => (spSet wh v = 0 ∧ r = iv 50 0 wh.toNatClampNeg ∧ ∀ k, iv' 50 0 k = if k = wh.toNatClampNeg then v else iv 50 0 k) ∨ (spSet wh v ≠ 0 ∧ r = spSet wh v ∧ ∀ k, iv' 50 0 k = iv 50 0 k)))) 0 0 (Aq sz) := by
  refine mk_is (by decide) (Nat.le_of_ble_eq_true rfl) rfl ?_
  intro p e s m args below meth c ls Q H locs C hU hS hX hz0 hl hret
  have hx := C.1.1
  have hb := C.1.2.1
  have hl : lv_has ls 4 [(0, .ref (al.2 49 0)), (1, .int wh), (2, .int v)] := hl
  have hG0 := hG
  have hF1 : FR ([51, 50], []) iv iv := FR.rf
  have hF2 : FR ([51, 50], []) rv rv := FR.rf
  have km6 : ((-6) : Int32).toInt = -6 := by decide
  have km4 : ((-4) : Int32).toInt = -4 := by decide
  have km2 : ((-2) : Int32).toInt = -2 := by decide
  have k4 : (4 : Int32).toInt = 4 := by decide
  refine lv_aload_n hx hb dX11_set_0 rfl (lv_at hl 0 rfl) ?_
  refine g_49_7 C hU hG (h1_49 hG) fl_X11_67 dX11_set_1 ?_
  refine q_alen (t := 50) (v := 4) C hU k_50 (by decide) (h1_50 hG) (by decide) dX11_set_4 ?_
  refine lv_iload_n hx hb dX11_set_5 rfl (lv_at hl 1 rfl) ?_
  refine q_pi (q_runS (As := [.int 4, .int wh]) (rest := []) C hU (c_X11_isOneOf  4 wh ) sm_X11_isOneOf ml_X11_85 hl.1 rfl rfl (Nat.le_of_ble_eq_true rfl) dX11_set_6 rfl rfl ⟨Nat.le_of_ble_eq_true rfl, Nat.le_of_ble_eq_true rfl⟩ ⟨Nat.le_refl _, Nat.le_refl _⟩) hS (fun x_2 H locs hp_1 hU hS => ?_)
  refine b_if_ne (tgt := 19) hx hb dX11_set_9 (by decide) (fun c_3 => ?_) (fun c_3 => ?_)
  ·
    refine lv_iload_n hx hb dX11_set_19 rfl (lv_at hl 2 rfl) ?_
    obtain ⟨ta_4, zta_4, yta_4⟩ := hX.2.1
    refine q_gets C zta_4 hS fl_X11_139 dX11_set_20 ?_
    refine lv_iload_n hx hb dX11_set_23 rfl (lv_at hl 1 rfl) ?_
    refine va_ti (v := .int (lst4 (wh : Int32).toNatClampNeg)) hx hb yta_4 hS (ix_in (by omega) (by omega)) rfl dX11_set_24 ?_
    refine lv_topi (fun x_5 e_6 => ?_)
    have te_6 : 0 ≤ x_5.toInt ∧ x_5.toInt ≤ 900 := by rw [e_6]; exact lst4_rng _
    have hl4 := lst4_v e_6 (by omega) (by omega)
    refine b_icmp_ge (tgt := 35) hx hb dX11_set_25 (by decide) (fun c_7 => ?_) (fun c_7 => ?_)
    ·
      refine lv_iload_n hx hb dX11_set_35 rfl (lv_at hl 2 rfl) ?_
      obtain ⟨ta_8, zta_8, yta_8⟩ := hX.2.2.1
      refine q_gets C zta_8 hS fl_X11_142 dX11_set_36 ?_
      refine lv_iload_n hx hb dX11_set_39 rfl (lv_at hl 1 rfl) ?_
      refine va_ti (v := .int (grt4 (wh : Int32).toNatClampNeg)) hx hb yta_8 hS (ix_in (by omega) (by omega)) rfl dX11_set_40 ?_
      refine lv_topi (fun x_9 e_10 => ?_)
      have te_10 : 0 ≤ x_9.toInt ∧ x_9.toInt ≤ 900 := by rw [e_10]; exact grt4_rng _
      have hg4 := grt4_v e_10 (by omega) (by omega)
      refine b_icmp_le (tgt := 51) hx hb dX11_set_41 (by decide) (fun c_11 => ?_) (fun c_11 => ?_)
      ·
        refine lv_aload_n hx hb dX11_set_51 rfl (lv_at hl 0 rfl) ?_
        refine g_49_7 C hU hG (h1_49 hG) fl_X11_67 dX11_set_52 ?_
        refine lv_iload_n hx hb dX11_set_55 rfl (lv_at hl 1 rfl) ?_
        refine a_50 C hU hG (h1_50 hG) (x := wh) (by omega) (by omega) dX11_set_56 (fun x_12 e_13 le_13 ue_13 => ?_)
        have te_13 := congrArg Int32.toInt e_13
        refine lv_istore_n (lv' := [(3, .int x_12), (0, .ref (al.2 49 0)), (1, .int wh), (2, .int v)]) hx hb dX11_set_57 rfl hl (by decide) rfl (fun ls hl => ?_)
        refine lv_aload_n hx hb dX11_set_58 rfl (lv_at hl 1 rfl) ?_
        refine g_49_7 C hU hG (h1_49 hG) fl_X11_67 dX11_set_59 ?_
        refine lv_iload_n hx hb dX11_set_62 rfl (lv_at hl 2 rfl) ?_
        refine lv_iload_n hx hb dX11_set_63 rfl (lv_at hl 3 rfl) ?_
        refine s_50 C hU hS (h1_50 hG) (x := wh) (by omega) (by omega) dX11_set_64 (fun iv_14 H locs ei_15 hU hS => ?_)
        have hG : GI al iv_14 rv := by rw [ei_15]; exact hG.puti (show _ ∧ _ from ⟨show (0 : Int) ≤ _ by omega, show _ ≤ (900 : Int) by omega⟩) (nsA (by decide) _)
        have hF1 : FR ([51, 50], []) iv iv_14 := by rw [ei_15]; exact hF1.put (Or.inl (by decide))
        refine lv_iload_n hx hb dX11_set_65 rfl (lv_at hl 0 rfl) ?_
        exact hret (⟨hG, hF1, hF2, Or.inl ⟨(by unfold spSet; (repeat' split) <;> first | rfl | omega), e_13, fun k => by rw [ei_15]; simp [up3]⟩⟩) hU hS dX11_set_66
      ·
        refine lv_aload_n hx hb dX11_set_44 rfl (lv_at hl 0 rfl) ?_
        refine lv_bipush (v := (-6)) hx hb dX11_set_45 (by decide) ?_
        refine q_fi (q_runV (t := 49) (i := 0) (As := [.int (-6)]) (rest := []) C hU (c_X11_refuse hG (-6) (by omega)) vm_X11_refuse ml_X11_77 k_49.1 (hc := rfl) rfl (h1_49 hG) hl.1 rfl rfl (Nat.le_of_ble_eq_true rfl) dX11_set_47 rfl rfl ⟨Nat.le_of_ble_eq_true rfl, Nat.le_of_ble_eq_true rfl⟩ ⟨Nat.le_refl _, Nat.le_refl _⟩) hS (fun x_21 iv_17 rv_18 H locs hG fa_19 fb_20 hp_16 hU hS => ?_)
        have hF1 := hF1.tr (m := ([51, 50], [])) fa_19 (by decide)
        have hF2 := hF2.tr (m := ([51, 50], [])) fb_20 (by decide)
        exact hret (⟨hG, hF1, hF2, sp_no (z := (-6)) (by unfold spSet; (repeat' split) <;> first | rfl | omega) (by decide) hp_16 (fun k => fa_19.arr 50 0 k (by decide))⟩) hU hS dX11_set_50
    ·
      refine lv_aload_n hx hb dX11_set_28 rfl (lv_at hl 0 rfl) ?_
      refine lv_bipush (v := (-4)) hx hb dX11_set_29 (by decide) ?_
      refine q_fi (q_runV (t := 49) (i := 0) (As := [.int (-4)]) (rest := []) C hU (c_X11_refuse hG (-4) (by omega)) vm_X11_refuse ml_X11_77 k_49.1 (hc := rfl) rfl (h1_49 hG) hl.1 rfl rfl (Nat.le_of_ble_eq_true rfl) dX11_set_31 rfl rfl ⟨Nat.le_of_ble_eq_true rfl, Nat.le_of_ble_eq_true rfl⟩ ⟨Nat.le_refl _, Nat.le_refl _⟩) hS (fun x_27 iv_23 rv_24 H locs hG fa_25 fb_26 hp_22 hU hS => ?_)
      have hF1 := hF1.tr (m := ([51, 50], [])) fa_25 (by decide)
      have hF2 := hF2.tr (m := ([51, 50], [])) fb_26 (by decide)
      exact hret (⟨hG, hF1, hF2, sp_no (z := (-4)) (by unfold spSet; (repeat' split) <;> first | rfl | omega) (by decide) hp_22 (fun k => fa_25.arr 50 0 k (by decide))⟩) hU hS dX11_set_34
  ·
    refine lv_aload_n hx hb dX11_set_12 rfl (lv_at hl 0 rfl) ?_
    refine lv_bipush (v := (-2)) hx hb dX11_set_13 (by decide) ?_
    refine q_fi (q_runV (t := 49) (i := 0) (As := [.int (-2)]) (rest := []) C hU (c_X11_refuse hG (-2) (by omega)) vm_X11_refuse ml_X11_77 k_49.1 (hc := rfl) rfl (h1_49 hG) hl.1 rfl rfl (Nat.le_of_ble_eq_true rfl) dX11_set_15 rfl rfl ⟨Nat.le_of_ble_eq_true rfl, Nat.le_of_ble_eq_true rfl⟩ ⟨Nat.le_refl _, Nat.le_refl _⟩) hS (fun x_33 iv_29 rv_30 H locs hG fa_31 fb_32 hp_28 hU hS => ?_)
    have hF1 := hF1.tr (m := ([51, 50], [])) fa_31 (by decide)
    have hF2 := hF2.tr (m := ([51, 50], [])) fb_32 (by decide)
    exact hret (⟨hG, hF1, hF2, sp_no (z := (-2)) (by unfold spSet; (repeat' split) <;> first | rfl | omega) (by decide) hp_28 (fun k => fa_31.arr 50 0 k (by decide))⟩) hU hS dX11_set_18
