section
set_option maxHeartbeats 4000000 in
set_option maxRecDepth 100000 in
theorem c_X12_set_x {l : Launch} {D : va_G} {cA : FieldType → ClassId} {sz : Nat} {al : Al} {iv : Iv} {rv : Rv} (hG : GI al iv rv) (what : Int32) (v : Int32) : Met l yX12_set (wd yX12_set cX12_set 4 (some .int)) (rm 1) (PcW D cA sz al iv rv [.ref (al.2 0 0), .int what, .int v]) (QI D cA sz al (fI al ([16, 15], []) iv rv (fun r iv' rv' => (spSet what v = 0 ∧ r = iv 15 0 what.toNatClampNeg ∧ ∀ k, iv' 15 0 k = if k = what.toNatClampNeg then v else iv 15 0 k) ∨ (spSet what v ≠ 0 ∧ r = spSet what v ∧ ∀ k, iv' 15 0 k = iv 15 0 k)))) 0 0 (Aq sz) := by
  refine mk_i (by decide) (Nat.le_of_ble_eq_true rfl) rfl ?_
  intro p e s m args below meth c ls Q H locs C hU hS hl hret
  have hx := C.1.1
  have hb := C.1.2.1
  have hl : lv_has ls 4 [(0, .ref (al.2 0 0)), (1, .int what), (2, .int v)] := hl
  have hG0 := hG
  have h6 := le6 hG
  have h20 := le20 hG
  have h41 := le41 hG
  have hF1 : FR ([16, 15], []) iv iv := FR.rf
  have hF2 : FR ([16, 15], []) rv rv := FR.rf
  have km6 : ((-6) : Int32).toInt = -6 := by decide
  have km4 : ((-4) : Int32).toInt = -4 := by decide
  have km2 : ((-2) : Int32).toInt = -2 := by decide
  have k0 : (0 : Int32).toInt = 0 := by decide
  have k1 : (1 : Int32).toInt = 1 := by decide
  have k2 : (2 : Int32).toInt = 2 := by decide
  have k3 : (3 : Int32).toInt = 3 := by decide
  have k9 : (9 : Int32).toInt = 9 := by decide
  have k200 : (200 : Int32).toInt = 200 := by decide
  have k300 : (300 : Int32).toInt = 300 := by decide
  have k900 : (900 : Int32).toInt = 900 := by decide
  refine lv_iload_n hx hb dX12_set_0 rfl (lv_at hl 1 rfl) ?_
  refine lv_iconst (v := 0) hx hb dX12_set_1 (by decide) ?_
  refine lv_iconst (v := 3) hx hb dX12_set_2 (by decide) ?_
  refine q_pi (q_runS (As := [.int what, .int 0, .int 3]) (rest := []) C hU (c_X12_in  what 0 3 ) sm_X12_in ml_X12_156 hl.1 rfl rfl (Nat.le_of_ble_eq_true rfl) dX12_set_3 rfl rfl ⟨Nat.le_of_ble_eq_true rfl, Nat.le_of_ble_eq_true rfl⟩ ⟨Nat.le_refl _, Nat.le_refl _⟩) hS (fun x_2 H locs hp_1 hU hS => ?_)
  refine b_if_ne (tgt := 16) hx hb dX12_set_6 (by decide) (fun c_3 => ?_) (fun c_3 => ?_)
  ·
    refine lv_iload_n hx hb dX12_set_16 rfl (lv_at hl 2 rfl) ?_
    refine lv_iload_n hx hb dX12_set_17 rfl (lv_at hl 1 rfl) ?_
    refine lv_iconst (v := 3) hx hb dX12_set_18 (by decide) ?_
    have J_27 : ∀ (v_4 : Int32) (ls : Array Slot), lv_has ls 4 [(0, .ref (al.2 0 0)), (1, .int what), (2, .int v)] → (0 ≤ v_4.toInt ∧ v_4.toInt ≤ 1) → ((what.toInt = 3 ∧ v_4.toInt = 1) ∨ (¬ what.toInt = 3 ∧ v_4.toInt = 0)) → W p l e (rm 1) s m args below meth c H locs 0 0 Q (F0 m 27 ls [.int v_4, .int v]) := by
      intro v_4 ls hl i27_0 i27_1
      refine b_icmp_ge (tgt := 37) hx hb dX12_set_27 (by decide) (fun c_5 => ?_) (fun c_5 => ?_)
      ·
        refine lv_iload_n hx hb dX12_set_37 rfl (lv_at hl 2 rfl) ?_
        refine lv_iload_n hx hb dX12_set_38 rfl (lv_at hl 1 rfl) ?_
        have J_72 : ∀ (v_6 : Int32) (ls : Array Slot), lv_has ls 4 [(0, .ref (al.2 0 0)), (1, .int what), (2, .int v)] → (9 ≤ v_6.toInt ∧ v_6.toInt ≤ 900) → ((what.toInt = 0 ∧ v_6.toInt = 200) ∨ (what.toInt = 1 ∧ v_6.toInt = 900) ∨ (what.toInt = 2 ∧ v_6.toInt = 300) ∨ (what.toInt = 3 ∧ v_6.toInt = 9)) → W p l e (rm 1) s m args below meth c H locs 0 0 Q (F0 m 72 ls [.int v_6, .int v]) := by
          intro v_6 ls hl i72_0 i72_1
          refine b_icmp_le (tgt := 82) hx hb dX12_set_72 (by decide) (fun c_7 => ?_) (fun c_7 => ?_)
          ·
            refine lv_aload_n hx hb dX12_set_82 rfl (lv_at hl 0 rfl) ?_
            refine g_0_17 C hU hG (h1_0 hG) fl_X12_53 dX12_set_83 ?_
            refine lv_iload_n hx hb dX12_set_86 rfl (lv_at hl 1 rfl) ?_
            refine a_15 C hU hG (h1_15 hG) (x := what) (by omega) (by omega) dX12_set_87 (fun x_8 e_9 le_9 ue_9 => ?_)
            have te_9 := congrArg Int32.toInt e_9
            refine lv_istore_n (lv' := [(3, .int x_8), (0, .ref (al.2 0 0)), (1, .int what), (2, .int v)]) hx hb dX12_set_88 rfl hl (by decide) rfl (fun ls hl => ?_)
            refine lv_aload_n hx hb dX12_set_89 rfl (lv_at hl 1 rfl) ?_
            refine g_0_17 C hU hG (h1_0 hG) fl_X12_53 dX12_set_90 ?_
            refine lv_iload_n hx hb dX12_set_93 rfl (lv_at hl 2 rfl) ?_
            refine lv_iload_n hx hb dX12_set_94 rfl (lv_at hl 3 rfl) ?_
            refine s_15 C hU hS (h1_15 hG) (x := what) (by omega) (by omega) dX12_set_95 (fun iv_10 H locs ei_11 hU hS => ?_)
            have hG : GI al iv_10 rv := by rw [ei_11]; exact hG.puti (show _ ∧ _ from ⟨show (0 : Int) ≤ _ by omega, show _ ≤ (900 : Int) by omega⟩) (nsA (by decide) _)
            have hF1 : FR ([16, 15], []) iv iv_10 := by rw [ei_11]; exact hF1.put (Or.inl (by decide))
            refine lv_iload_n hx hb dX12_set_96 rfl (lv_at hl 0 rfl) ?_
            exact hret (⟨hG, hF1, hF2, Or.inl ⟨(by unfold spSet; (repeat' split) <;> first | rfl | omega), e_9, fun k => by rw [ei_11]; simp [up3]⟩⟩) hU hS dX12_set_97
          ·
            refine lv_aload_n hx hb dX12_set_75 rfl (lv_at hl 0 rfl) ?_
            refine lv_bipush (v := (-6)) hx hb dX12_set_76 (by decide) ?_
            refine q_fi (q_runV (t := 0) (i := 0) (As := [.int (-6)]) (rest := []) C hU (c_X12_refuse hG (-6) (by omega)) vm_X12_refuse ml_X12_164 k_0.1 (hc := rfl) rfl (h1_0 hG) hl.1 rfl rfl (Nat.le_of_ble_eq_true rfl) dX12_set_78 rfl rfl ⟨Nat.le_of_ble_eq_true rfl, Nat.le_of_ble_eq_true rfl⟩ ⟨Nat.le_refl _, Nat.le_refl _⟩) hS (fun x_17 iv_13 rv_14 H locs hG fa_15 fb_16 hp_12 hU hS => ?_)
            have hF1 := hF1.tr (m := ([16, 15], [])) fa_15 (by decide)
            have hF2 := hF2.tr (m := ([16, 15], [])) fb_16 (by decide)
            exact hret (⟨hG, hF1, hF2, sp_no (z := (-6)) (by unfold spSet; (repeat' split) <;> first | rfl | omega) (by decide) hp_12 (fun k => fa_15.arr 15 0 k (by decide))⟩) hU hS dX12_set_81
        refine b_if_ne (tgt := 48) hx hb dX12_set_39 (by decide) (fun c_18 => ?_) (fun c_18 => ?_)
        ·
          refine lv_iload_n hx hb dX12_set_48 rfl (lv_at hl 1 rfl) ?_
          refine lv_iconst (v := 1) hx hb dX12_set_49 (by decide) ?_
          refine b_icmp_ne (tgt := 59) hx hb dX12_set_50 (by decide) (fun c_19 => ?_) (fun c_19 => ?_)
          ·
            refine lv_iload_n hx hb dX12_set_59 rfl (lv_at hl 1 rfl) ?_
            refine lv_iconst (v := 2) hx hb dX12_set_60 (by decide) ?_
            refine b_icmp_ne (tgt := 70) hx hb dX12_set_61 (by decide) (fun c_20 => ?_) (fun c_20 => ?_)
            ·
              refine lv_bipush (v := 9) hx hb dX12_set_70 (by decide) ?_
              exact J_72 9 _ (lv_sub hl [0, 1, 2] rfl) (by omega) (by omega)
            ·
              refine lv_sipush (v := 300) hx hb dX12_set_64 (by decide) ?_
              refine lv_goto (tgt := 72) hx hb dX12_set_67 (by decide) ?_
              exact J_72 300 _ (lv_sub hl [0, 1, 2] rfl) (by omega) (by omega)
          ·
            refine lv_sipush (v := 900) hx hb dX12_set_53 (by decide) ?_
            refine lv_goto (tgt := 72) hx hb dX12_set_56 (by decide) ?_
            exact J_72 900 _ (lv_sub hl [0, 1, 2] rfl) (by omega) (by omega)
        ·
          refine lv_sipush (v := 200) hx hb dX12_set_42 (by decide) ?_
          refine lv_goto (tgt := 72) hx hb dX12_set_45 (by decide) ?_
          exact J_72 200 _ (lv_sub hl [0, 1, 2] rfl) (by omega) (by omega)
      ·
        refine lv_aload_n hx hb dX12_set_30 rfl (lv_at hl 0 rfl) ?_
        refine lv_bipush (v := (-4)) hx hb dX12_set_31 (by decide) ?_
        refine q_fi (q_runV (t := 0) (i := 0) (As := [.int (-4)]) (rest := []) C hU (c_X12_refuse hG (-4) (by omega)) vm_X12_refuse ml_X12_164 k_0.1 (hc := rfl) rfl (h1_0 hG) hl.1 rfl rfl (Nat.le_of_ble_eq_true rfl) dX12_set_33 rfl rfl ⟨Nat.le_of_ble_eq_true rfl, Nat.le_of_ble_eq_true rfl⟩ ⟨Nat.le_refl _, Nat.le_refl _⟩) hS (fun x_26 iv_22 rv_23 H locs hG fa_24 fb_25 hp_21 hU hS => ?_)
        have hF1 := hF1.tr (m := ([16, 15], [])) fa_24 (by decide)
        have hF2 := hF2.tr (m := ([16, 15], [])) fb_25 (by decide)
        exact hret (⟨hG, hF1, hF2, sp_no (z := (-4)) (by unfold spSet; (repeat' split) <;> first | rfl | omega) (by decide) hp_21 (fun k => fa_24.arr 15 0 k (by decide))⟩) hU hS dX12_set_36
    refine b_icmp_ne (tgt := 26) hx hb dX12_set_19 (by decide) (fun c_27 => ?_) (fun c_27 => ?_)
    ·
      refine lv_iconst (v := 0) hx hb dX12_set_26 (by decide) ?_
      exact J_27 0 _ (lv_sub hl [0, 1, 2] rfl) (by omega) (by omega)
    ·
      refine lv_iconst (v := 1) hx hb dX12_set_22 (by decide) ?_
      refine lv_goto (tgt := 27) hx hb dX12_set_23 (by decide) ?_
      exact J_27 1 _ (lv_sub hl [0, 1, 2] rfl) (by omega) (by omega)
  ·
    refine lv_aload_n hx hb dX12_set_9 rfl (lv_at hl 0 rfl) ?_
    refine lv_bipush (v := (-2)) hx hb dX12_set_10 (by decide) ?_
    refine q_fi (q_runV (t := 0) (i := 0) (As := [.int (-2)]) (rest := []) C hU (c_X12_refuse hG (-2) (by omega)) vm_X12_refuse ml_X12_164 k_0.1 (hc := rfl) rfl (h1_0 hG) hl.1 rfl rfl (Nat.le_of_ble_eq_true rfl) dX12_set_12 rfl rfl ⟨Nat.le_of_ble_eq_true rfl, Nat.le_of_ble_eq_true rfl⟩ ⟨Nat.le_refl _, Nat.le_refl _⟩) hS (fun x_33 iv_29 rv_30 H locs hG fa_31 fb_32 hp_28 hU hS => ?_)
    have hF1 := hF1.tr (m := ([16, 15], [])) fa_31 (by decide)
    have hF2 := hF2.tr (m := ([16, 15], [])) fb_32 (by decide)
    exact hret (⟨hG, hF1, hF2, sp_no (z := (-2)) (by unfold spSet; (repeat' split) <;> first | rfl | omega) (by decide) hp_28 (fun k => fa_31.arr 15 0 k (by decide))⟩) hU hS dX12_set_15
set_option maxHeartbeats 4000000 in
set_option maxRecDepth 100000 in
theorem c_X11_set_x {l : Launch} {D : va_G} {cA : FieldType → ClassId} {sz : Nat} {al : Al} {iv : Iv} {rv : Rv} (hG : GI al iv rv) (wh : Int32) (v : Int32) : Met l yX11_set (wd yX11_set cX11_set 4 (some .int)) (rm 2) (PcA D cA sz al iv rv [.ref (al.2 49 0), .int wh, .int v] (fun U => SX cA sz U U.heap)) (QI D cA sz al (fI al ([51, 50], []) iv rv (fun r iv' rv' => (spSet wh v = 0 ∧ r = iv 50 0 wh.toNatClampNeg ∧ ∀ k, iv' 50 0 k = if k = wh.toNatClampNeg then v else iv 50 0 k) ∨ (spSet wh v ≠ 0 ∧ r = spSet wh v ∧ ∀ k, iv' 50 0 k = iv 50 0 k)))) 0 0 (Aq sz) := by
  refine mk_is (by decide) (Nat.le_of_ble_eq_true rfl) rfl ?_
  intro p e s m args below meth c ls Q H locs C hU hS hX hz0 hl hret
  have hx := C.1.1
  have hb := C.1.2.1
  have hl : lv_has ls 4 [(0, .ref (al.2 49 0)), (1, .int wh), (2, .int v)] := hl
  have hG0 := hG
  have hF1 : FR ([51, 50], []) iv iv := FR.rf
  have hF2 : FR ([51, 50], []) rv rv := FR.rf
  have km6 : ((-6) : Int32).toInt = -6 := by decide
  have km4 : ((-4) : Int32).toInt = -4 := by decide
  have km2 : ((-2) : Int32).toInt = -2 := by decide
  have k4 : (4 : Int32).toInt = 4 := by decide
  refine lv_aload_n hx hb dX11_set_0 rfl (lv_at hl 0 rfl) ?_
  refine g_49_7 C hU hG (h1_49 hG) fl_X11_67 dX11_set_1 ?_
  refine q_alen (t := 50) (v := 4) C hU k_50 (by decide) (h1_50 hG) (by decide) dX11_set_4 ?_
  refine lv_iload_n hx hb dX11_set_5 rfl (lv_at hl 1 rfl) ?_
  refine q_pi (q_runS (As := [.int 4, .int wh]) (rest := []) C hU (c_X11_isOneOf  4 wh ) sm_X11_isOneOf ml_X11_85 hl.1 rfl rfl (Nat.le_of_ble_eq_true rfl) dX11_set_6 rfl rfl ⟨Nat.le_of_ble_eq_true rfl, Nat.le_of_ble_eq_true rfl⟩ ⟨Nat.le_refl _, Nat.le_refl _⟩) hS (fun x_2 H locs hp_1 hU hS => ?_)
  refine b_if_ne (tgt := 19) hx hb dX11_set_9 (by decide) (fun c_3 => ?_) (fun c_3 => ?_)
  ·
    refine lv_iload_n hx hb dX11_set_19 rfl (lv_at hl 2 rfl) ?_
    obtain ⟨ta_4, zta_4, yta_4⟩ := hX.2.1
    refine q_gets C zta_4 hS fl_X11_139 dX11_set_20 ?_
    refine lv_iload_n hx hb dX11_set_23 rfl (lv_at hl 1 rfl) ?_
    refine va_ti (v := .int (lst4 (wh : Int32).toNatClampNeg)) hx hb yta_4 hS (ix_in (by omega) (by omega)) rfl dX11_set_24 ?_
    refine lv_topi (fun x_5 e_6 => ?_)
    have te_6 : 0 ≤ x_5.toInt ∧ x_5.toInt ≤ 900 := by rw [e_6]; exact lst4_rng _
    have hl4 := lst4_v e_6 (by omega) (by omega)
    refine b_icmp_ge (tgt := 35) hx hb dX11_set_25 (by decide) (fun c_7 => ?_) (fun c_7 => ?_)
    ·
      refine lv_iload_n hx hb dX11_set_35 rfl (lv_at hl 2 rfl) ?_
      obtain ⟨ta_8, zta_8, yta_8⟩ := hX.2.2.1
      refine q_gets C zta_8 hS fl_X11_142 dX11_set_36 ?_
      refine lv_iload_n hx hb dX11_set_39 rfl (lv_at hl 1 rfl) ?_
      refine va_ti (v := .int (grt4 (wh : Int32).toNatClampNeg)) hx hb yta_8 hS (ix_in (by omega) (by omega)) rfl dX11_set_40 ?_
      refine lv_topi (fun x_9 e_10 => ?_)
      have te_10 : 0 ≤ x_9.toInt ∧ x_9.toInt ≤ 900 := by rw [e_10]; exact grt4_rng _
      have hg4 := grt4_v e_10 (by omega) (by omega)
      refine b_icmp_le (tgt := 51) hx hb dX11_set_41 (by decide) (fun c_11 => ?_) (fun c_11 => ?_)
      ·
        refine lv_aload_n hx hb dX11_set_51 rfl (lv_at hl 0 rfl) ?_
        refine g_49_7 C hU hG (h1_49 hG) fl_X11_67 dX11_set_52 ?_
        refine lv_iload_n hx hb dX11_set_55 rfl (lv_at hl 1 rfl) ?_
        refine a_50 C hU hG (h1_50 hG) (x := wh) (by omega) (by omega) dX11_set_56 (fun x_12 e_13 le_13 ue_13 => ?_)
        have te_13 := congrArg Int32.toInt e_13
        refine lv_istore_n (lv' := [(3, .int x_12), (0, .ref (al.2 49 0)), (1, .int wh), (2, .int v)]) hx hb dX11_set_57 rfl hl (by decide) rfl (fun ls hl => ?_)
        refine lv_aload_n hx hb dX11_set_58 rfl (lv_at hl 1 rfl) ?_
        refine g_49_7 C hU hG (h1_49 hG) fl_X11_67 dX11_set_59 ?_
        refine lv_iload_n hx hb dX11_set_62 rfl (lv_at hl 2 rfl) ?_
        refine lv_iload_n hx hb dX11_set_63 rfl (lv_at hl 3 rfl) ?_
        refine s_50 C hU hS (h1_50 hG) (x := wh) (by omega) (by omega) dX11_set_64 (fun iv_14 H locs ei_15 hU hS => ?_)
        have hG : GI al iv_14 rv := by rw [ei_15]; exact hG.puti (show _ ∧ _ from ⟨show (0 : Int) ≤ _ by omega, show _ ≤ (900 : Int) by omega⟩) (nsA (by decide) _)
        have hF1 : FR ([51, 50], []) iv iv_14 := by rw [ei_15]; exact hF1.put (Or.inl (by decide))
        refine lv_iload_n hx hb dX11_set_65 rfl (lv_at hl 0 rfl) ?_
        exact hret (⟨hG, hF1, hF2, Or.inl ⟨(by unfold spSet; (repeat' split) <;> first | rfl | omega), e_13, fun k => by rw [ei_15]; simp [up3]⟩⟩) hU hS dX11_set_66
      ·
        refine lv_aload_n hx hb dX11_set_44 rfl (lv_at hl 0 rfl) ?_
        refine lv_bipush (v := (-6)) hx hb dX11_set_45 (by decide) ?_
        refine q_fi (q_runV (t := 49) (i := 0) (As := [.int (-6)]) (rest := []) C hU (c_X11_refuse hG (-6) (by omega)) vm_X11_refuse ml_X11_77 k_49.1 (hc := rfl) rfl (h1_49 hG) hl.1 rfl rfl (Nat.le_of_ble_eq_true rfl) dX11_set_47 rfl rfl ⟨Nat.le_of_ble_eq_true rfl, Nat.le_of_ble_eq_true rfl⟩ ⟨Nat.le_refl _, Nat.le_refl _⟩) hS (fun x_21 iv_17 rv_18 H locs hG fa_19 fb_20 hp_16 hU hS => ?_)
        have hF1 := hF1.tr (m := ([51, 50], [])) fa_19 (by decide)
        have hF2 := hF2.tr (m := ([51, 50], [])) fb_20 (by decide)
        exact hret (⟨hG, hF1, hF2, sp_no (z := (-6)) (by unfold spSet; (repeat' split) <;> first | rfl | omega) (by decide) hp_16 (fun k => fa_19.arr 50 0 k (by decide))⟩) hU hS dX11_set_50
    ·
      refine lv_aload_n hx hb dX11_set_28 rfl (lv_at hl 0 rfl) ?_
      refine lv_bipush (v := (-4)) hx hb dX11_set_29 (by decide) ?_
      refine q_fi (q_runV (t := 49) (i := 0) (As := [.int (-4)]) (rest := []) C hU (c_X11_refuse hG (-4) (by omega)) vm_X11_refuse ml_X11_77 k_49.1 (hc := rfl) rfl (h1_49 hG) hl.1 rfl rfl (Nat.le_of_ble_eq_true rfl) dX11_set_31 rfl rfl ⟨Nat.le_of_ble_eq_true rfl, Nat.le_of_ble_eq_true rfl⟩ ⟨Nat.le_refl _, Nat.le_refl _⟩) hS (fun x_27 iv_23 rv_24 H locs hG fa_25 fb_26 hp_22 hU hS => ?_)
      have hF1 := hF1.tr (m := ([51, 50], [])) fa_25 (by decide)
      have hF2 := hF2.tr (m := ([51, 50], [])) fb_26 (by decide)
      exact hret (⟨hG, hF1, hF2, sp_no (z := (-4)) (by unfold spSet; (repeat' split) <;> first | rfl | omega) (by decide) hp_22 (fun k => fa_25.arr 50 0 k (by decide))⟩) hU hS dX11_set_34
  ·
    refine lv_aload_n hx hb dX11_set_12 rfl (lv_at hl 0 rfl) ?_
    refine lv_bipush (v := (-2)) hx hb dX11_set_13 (by decide) ?_
    refine q_fi (q_runV (t := 49) (i := 0) (As := [.int (-2)]) (rest := []) C hU (c_X11_refuse hG (-2) (by omega)) vm_X11_refuse ml_X11_77 k_49.1 (hc := rfl) rfl (h1_49 hG) hl.1 rfl rfl (Nat.le_of_ble_eq_true rfl) dX11_set_15 rfl rfl ⟨Nat.le_of_ble_eq_true rfl, Nat.le_of_ble_eq_true rfl⟩ ⟨Nat.le_refl _, Nat.le_refl _⟩) hS (fun x_33 iv_29 rv_30 H locs hG fa_31 fb_32 hp_28 hU hS => ?_)
    have hF1 := hF1.tr (m := ([51, 50], [])) fa_31 (by decide)
    have hF2 := hF2.tr (m := ([51, 50], [])) fb_32 (by decide)
    exact hret (⟨hG, hF1, hF2, sp_no (z := (-2)) (by unfold spSet; (repeat' split) <;> first | rfl | omega) (by decide) hp_28 (fun k => fa_31.arr 50 0 k (by decide))⟩) hU hS dX11_set_18
set_option maxHeartbeats 4000000 in
set_option maxRecDepth 100000 in
theorem c_X12_bar_x {l : Launch} {D : va_G} {cA : FieldType → ClassId} {sz : Nat} {al : Al} {iv : Iv} {rv : Rv} (hG : GI al iv rv) (lw : Int32) (n : Int32) : Met l yX12_bar (wd yX12_bar cX12_bar 4 (some .int)) (rm 2) (PcW D cA sz al iv rv [.ref (al.2 0 0), .int lw, .int n]) (QI D cA sz al (fI al ([16, 31], []) iv rv (fun r iv' rv' => (spBar lw n = 0 ∧ r = iv 31 0 lw.toNatClampNeg ∧ ∀ k, iv' 31 0 k = if k = lw.toNatClampNeg then n else iv 31 0 k) ∨ (spBar lw n ≠ 0 ∧ r = spBar lw n ∧ ∀ k, iv' 31 0 k = iv 31 0 k)))) 0 0 (Aq sz) := by
  refine mk_i (by decide) (Nat.le_of_ble_eq_true rfl) rfl ?_
  intro p e s m args below meth c ls Q H locs C hU hS hl hret
  have hx := C.1.1
  have hb := C.1.2.1
  have hl : lv_has ls 4 [(0, .ref (al.2 0 0)), (1, .int lw), (2, .int n)] := hl
  have hG0 := hG
  have h6 := le6 hG
  have h20 := le20 hG
  have h41 := le41 hG
  have hF1 : FR ([16, 31], []) iv iv := FR.rf
  have hF2 : FR ([16, 31], []) rv rv := FR.rf
  have km6 : ((-6) : Int32).toInt = -6 := by decide
  have km4 : ((-4) : Int32).toInt = -4 := by decide
  have km1 : ((-1) : Int32).toInt = -1 := by decide
  have k1 : (1 : Int32).toInt = 1 := by decide
  have k3000 : (3000 : Int32).toInt = 3000 := by decide
  refine lv_iload_n hx hb dX12_bar_0 rfl (lv_at hl 1 rfl) ?_
  refine q_pi (q_runS (As := [.int lw]) (rest := []) C hU (c_X12_isLand  lw ) sm_X12_isLand ml_X12_244 hl.1 rfl rfl (Nat.le_of_ble_eq_true rfl) dX12_bar_1 rfl rfl ⟨Nat.le_of_ble_eq_true rfl, Nat.le_of_ble_eq_true rfl⟩ ⟨Nat.le_refl _, Nat.le_refl _⟩) hS (fun x_2 H locs hp_1 hU hS => ?_)
  refine b_if_ne (tgt := 13) hx hb dX12_bar_4 (by decide) (fun c_3 => ?_) (fun c_3 => ?_)
  ·
    refine lv_iload_n hx hb dX12_bar_13 rfl (lv_at hl 2 rfl) ?_
    refine lv_iconst (v := 1) hx hb dX12_bar_14 (by decide) ?_
    refine b_icmp_ge (tgt := 25) hx hb dX12_bar_15 (by decide) (fun c_4 => ?_) (fun c_4 => ?_)
    ·
      refine lv_iload_n hx hb dX12_bar_25 rfl (lv_at hl 2 rfl) ?_
      refine lv_sipush (v := 3000) hx hb dX12_bar_26 (by decide) ?_
      refine b_icmp_le (tgt := 39) hx hb dX12_bar_29 (by decide) (fun c_5 => ?_) (fun c_5 => ?_)
      ·
        refine lv_aload_n hx hb dX12_bar_39 rfl (lv_at hl 0 rfl) ?_
        refine g_0_36 C hU hG (h1_0 hG) fl_X12_101 dX12_bar_40 ?_
        refine lv_iload_n hx hb dX12_bar_43 rfl (lv_at hl 1 rfl) ?_
        refine a_31 C hU hG (h1_31 hG) (x := lw) (by omega) (by omega) dX12_bar_44 (fun x_6 e_7 le_7 ue_7 => ?_)
        have te_7 := congrArg Int32.toInt e_7
        refine lv_istore_n (lv' := [(3, .int x_6), (0, .ref (al.2 0 0)), (1, .int lw), (2, .int n)]) hx hb dX12_bar_45 rfl hl (by decide) rfl (fun ls hl => ?_)
        refine lv_aload_n hx hb dX12_bar_46 rfl (lv_at hl 1 rfl) ?_
        refine g_0_36 C hU hG (h1_0 hG) fl_X12_101 dX12_bar_47 ?_
        refine lv_iload_n hx hb dX12_bar_50 rfl (lv_at hl 2 rfl) ?_
        refine lv_iload_n hx hb dX12_bar_51 rfl (lv_at hl 3 rfl) ?_
        refine s_31 C hU hS (h1_31 hG) (x := lw) (by omega) (by omega) dX12_bar_52 (fun iv_8 H locs ei_9 hU hS => ?_)
        have hG : GI al iv_8 rv := by rw [ei_9]; exact hG.puti (show _ ∧ _ from ⟨show (0 : Int) ≤ _ by omega, show _ ≤ (3000 : Int) by omega⟩) (nsA (by decide) _)
        have hF1 : FR ([16, 31], []) iv iv_8 := by rw [ei_9]; exact hF1.put (Or.inl (by decide))
        refine lv_iload_n hx hb dX12_bar_53 rfl (lv_at hl 0 rfl) ?_
        exact hret (⟨hG, hF1, hF2, Or.inl ⟨(by unfold spBar; (repeat' split) <;> first | rfl | omega), e_7, fun k => by rw [ei_9]; simp [up3]⟩⟩) hU hS dX12_bar_54
      ·
        refine lv_aload_n hx hb dX12_bar_32 rfl (lv_at hl 0 rfl) ?_
        refine lv_bipush (v := (-6)) hx hb dX12_bar_33 (by decide) ?_
        refine q_fi (q_runV (t := 0) (i := 0) (As := [.int (-6)]) (rest := []) C hU (c_X12_refuse hG (-6) (by omega)) vm_X12_refuse ml_X12_164 k_0.1 (hc := rfl) rfl (h1_0 hG) hl.1 rfl rfl (Nat.le_of_ble_eq_true rfl) dX12_bar_35 rfl rfl ⟨Nat.le_of_ble_eq_true rfl, Nat.le_of_ble_eq_true rfl⟩ ⟨Nat.le_refl _, Nat.le_refl _⟩) hS (fun x_15 iv_11 rv_12 H locs hG fa_13 fb_14 hp_10 hU hS => ?_)
        have hF1 := hF1.tr (m := ([16, 31], [])) fa_13 (by decide)
        have hF2 := hF2.tr (m := ([16, 31], [])) fb_14 (by decide)
        exact hret (⟨hG, hF1, hF2, sp_no (z := (-6)) (by unfold spBar; (repeat' split) <;> first | rfl | omega) (by decide) hp_10 (fun k => fa_13.arr 31 0 k (by decide))⟩) hU hS dX12_bar_38
    ·
      refine lv_aload_n hx hb dX12_bar_18 rfl (lv_at hl 0 rfl) ?_
      refine lv_bipush (v := (-4)) hx hb dX12_bar_19 (by decide) ?_
      refine q_fi (q_runV (t := 0) (i := 0) (As := [.int (-4)]) (rest := []) C hU (c_X12_refuse hG (-4) (by omega)) vm_X12_refuse ml_X12_164 k_0.1 (hc := rfl) rfl (h1_0 hG) hl.1 rfl rfl (Nat.le_of_ble_eq_true rfl) dX12_bar_21 rfl rfl ⟨Nat.le_of_ble_eq_true rfl, Nat.le_of_ble_eq_true rfl⟩ ⟨Nat.le_refl _, Nat.le_refl _⟩) hS (fun x_21 iv_17 rv_18 H locs hG fa_19 fb_20 hp_16 hU hS => ?_)
      have hF1 := hF1.tr (m := ([16, 31], [])) fa_19 (by decide)
      have hF2 := hF2.tr (m := ([16, 31], [])) fb_20 (by decide)
      exact hret (⟨hG, hF1, hF2, sp_no (z := (-4)) (by unfold spBar; (repeat' split) <;> first | rfl | omega) (by decide) hp_16 (fun k => fa_19.arr 31 0 k (by decide))⟩) hU hS dX12_bar_24
  ·
    refine lv_aload_n hx hb dX12_bar_7 rfl (lv_at hl 0 rfl) ?_
    refine lv_iconst (v := (-1)) hx hb dX12_bar_8 (by decide) ?_
    refine q_fi (q_runV (t := 0) (i := 0) (As := [.int (-1)]) (rest := []) C hU (c_X12_refuse hG (-1) (by omega)) vm_X12_refuse ml_X12_164 k_0.1 (hc := rfl) rfl (h1_0 hG) hl.1 rfl rfl (Nat.le_of_ble_eq_true rfl) dX12_bar_9 rfl rfl ⟨Nat.le_of_ble_eq_true rfl, Nat.le_of_ble_eq_true rfl⟩ ⟨Nat.le_refl _, Nat.le_refl _⟩) hS (fun x_27 iv_23 rv_24 H locs hG fa_25 fb_26 hp_22 hU hS => ?_)
    have hF1 := hF1.tr (m := ([16, 31], [])) fa_25 (by decide)
    have hF2 := hF2.tr (m := ([16, 31], [])) fb_26 (by decide)
    exact hret (⟨hG, hF1, hF2, sp_no (z := (-1)) (by unfold spBar; (repeat' split) <;> first | rfl | omega) (by decide) hp_22 (fun k => fa_25.arr 31 0 k (by decide))⟩) hU hS dX12_bar_12
set_option maxHeartbeats 4000000 in
set_option maxRecDepth 100000 in
theorem c_X11_bar_x {l : Launch} {D : va_G} {cA : FieldType → ClassId} {sz : Nat} {al : Al} {iv : Iv} {rv : Rv} (hG : GI al iv rv) (lw : Int32) (n : Int32) : Met l yX11_bar (wd yX11_bar cX11_bar 4 (some .int)) (rm 2) (PcW D cA sz al iv rv [.ref (al.2 49 0), .int lw, .int n]) (QI D cA sz al (fI al ([51, 80], []) iv rv (fun r iv' rv' => (spBar lw n = 0 ∧ r = iv 80 0 lw.toNatClampNeg ∧ ∀ k, iv' 80 0 k = if k = lw.toNatClampNeg then n else iv 80 0 k) ∨ (spBar lw n ≠ 0 ∧ r = spBar lw n ∧ ∀ k, iv' 80 0 k = iv 80 0 k)))) 0 0 (Aq sz) := by
  refine mk_i (by decide) (Nat.le_of_ble_eq_true rfl) rfl ?_
  intro p e s m args below meth c ls Q H locs C hU hS hl hret
  have hx := C.1.1
  have hb := C.1.2.1
  have hl : lv_has ls 4 [(0, .ref (al.2 49 0)), (1, .int lw), (2, .int n)] := hl
  have hG0 := hG
  have hF1 : FR ([51, 80], []) iv iv := FR.rf
  have hF2 : FR ([51, 80], []) rv rv := FR.rf
  have km6 : ((-6) : Int32).toInt = -6 := by decide
  have km4 : ((-4) : Int32).toInt = -4 := by decide
  have km1 : ((-1) : Int32).toInt = -1 := by decide
  have k1 : (1 : Int32).toInt = 1 := by decide
  have k4 : (4 : Int32).toInt = 4 := by decide
  have k3000 : (3000 : Int32).toInt = 3000 := by decide
  refine lv_iconst (v := 4) hx hb dX11_bar_0 (by decide) ?_
  refine lv_iload_n hx hb dX11_bar_1 rfl (lv_at hl 1 rfl) ?_
  refine q_pi (q_runS (As := [.int 4, .int lw]) (rest := []) C hU (c_X11_isOneOf  4 lw ) sm_X11_isOneOf ml_X11_85 hl.1 rfl rfl (Nat.le_of_ble_eq_true rfl) dX11_bar_2 rfl rfl ⟨Nat.le_of_ble_eq_true rfl, Nat.le_of_ble_eq_true rfl⟩ ⟨Nat.le_refl _, Nat.le_refl _⟩) hS (fun x_2 H locs hp_1 hU hS => ?_)
  refine b_if_ne (tgt := 14) hx hb dX11_bar_5 (by decide) (fun c_3 => ?_) (fun c_3 => ?_)
  ·
    refine lv_iload_n hx hb dX11_bar_14 rfl (lv_at hl 2 rfl) ?_
    refine lv_iconst (v := 1) hx hb dX11_bar_15 (by decide) ?_
    refine b_icmp_ge (tgt := 26) hx hb dX11_bar_16 (by decide) (fun c_4 => ?_) (fun c_4 => ?_)
    ·
      refine lv_iload_n hx hb dX11_bar_26 rfl (lv_at hl 2 rfl) ?_
      refine lv_sipush (v := 3000) hx hb dX11_bar_27 (by decide) ?_
      refine b_icmp_le (tgt := 40) hx hb dX11_bar_30 (by decide) (fun c_5 => ?_) (fun c_5 => ?_)
      ·
        refine lv_aload_n hx hb dX11_bar_40 rfl (lv_at hl 0 rfl) ?_
        refine g_49_4 C hU hG (h1_49 hG) fl_X11_40 dX11_bar_41 ?_
        refine g_79_0 C hU hG (h1_79 hG) fl_X11_247 dX11_bar_44 ?_
        refine lv_iload_n hx hb dX11_bar_47 rfl (lv_at hl 1 rfl) ?_
        refine a_80 C hU hG (h1_80 hG) (x := lw) (by omega) (by omega) dX11_bar_48 (fun x_6 e_7 le_7 ue_7 => ?_)
        have te_7 := congrArg Int32.toInt e_7
        refine lv_istore_n (lv' := [(3, .int x_6), (0, .ref (al.2 49 0)), (1, .int lw), (2, .int n)]) hx hb dX11_bar_49 rfl hl (by decide) rfl (fun ls hl => ?_)
        refine lv_aload_n hx hb dX11_bar_50 rfl (lv_at hl 1 rfl) ?_
        refine g_49_4 C hU hG (h1_49 hG) fl_X11_40 dX11_bar_51 ?_
        refine g_79_0 C hU hG (h1_79 hG) fl_X11_247 dX11_bar_54 ?_
        refine lv_iload_n hx hb dX11_bar_57 rfl (lv_at hl 2 rfl) ?_
        refine lv_iload_n hx hb dX11_bar_58 rfl (lv_at hl 3 rfl) ?_
        refine s_80 C hU hS (h1_80 hG) (x := lw) (by omega) (by omega) dX11_bar_59 (fun iv_8 H locs ei_9 hU hS => ?_)
        have hG : GI al iv_8 rv := by rw [ei_9]; exact hG.puti (show _ ∧ _ from ⟨show (0 : Int) ≤ _ by omega, show _ ≤ (3000 : Int) by omega⟩) (nsA (by decide) _)
        have hF1 : FR ([51, 80], []) iv iv_8 := by rw [ei_9]; exact hF1.put (Or.inl (by decide))
        refine lv_iload_n hx hb dX11_bar_60 rfl (lv_at hl 0 rfl) ?_
        exact hret (⟨hG, hF1, hF2, Or.inl ⟨(by unfold spBar; (repeat' split) <;> first | rfl | omega), e_7, fun k => by rw [ei_9]; simp [up3]⟩⟩) hU hS dX11_bar_61
      ·
        refine lv_aload_n hx hb dX11_bar_33 rfl (lv_at hl 0 rfl) ?_
        refine lv_bipush (v := (-6)) hx hb dX11_bar_34 (by decide) ?_
        refine q_fi (q_runV (t := 49) (i := 0) (As := [.int (-6)]) (rest := []) C hU (c_X11_refuse hG (-6) (by omega)) vm_X11_refuse ml_X11_77 k_49.1 (hc := rfl) rfl (h1_49 hG) hl.1 rfl rfl (Nat.le_of_ble_eq_true rfl) dX11_bar_36 rfl rfl ⟨Nat.le_of_ble_eq_true rfl, Nat.le_of_ble_eq_true rfl⟩ ⟨Nat.le_refl _, Nat.le_refl _⟩) hS (fun x_15 iv_11 rv_12 H locs hG fa_13 fb_14 hp_10 hU hS => ?_)
        have hF1 := hF1.tr (m := ([51, 80], [])) fa_13 (by decide)
        have hF2 := hF2.tr (m := ([51, 80], [])) fb_14 (by decide)
        exact hret (⟨hG, hF1, hF2, sp_no (z := (-6)) (by unfold spBar; (repeat' split) <;> first | rfl | omega) (by decide) hp_10 (fun k => fa_13.arr 80 0 k (by decide))⟩) hU hS dX11_bar_39
    ·
      refine lv_aload_n hx hb dX11_bar_19 rfl (lv_at hl 0 rfl) ?_
      refine lv_bipush (v := (-4)) hx hb dX11_bar_20 (by decide) ?_
      refine q_fi (q_runV (t := 49) (i := 0) (As := [.int (-4)]) (rest := []) C hU (c_X11_refuse hG (-4) (by omega)) vm_X11_refuse ml_X11_77 k_49.1 (hc := rfl) rfl (h1_49 hG) hl.1 rfl rfl (Nat.le_of_ble_eq_true rfl) dX11_bar_22 rfl rfl ⟨Nat.le_of_ble_eq_true rfl, Nat.le_of_ble_eq_true rfl⟩ ⟨Nat.le_refl _, Nat.le_refl _⟩) hS (fun x_21 iv_17 rv_18 H locs hG fa_19 fb_20 hp_16 hU hS => ?_)
      have hF1 := hF1.tr (m := ([51, 80], [])) fa_19 (by decide)
      have hF2 := hF2.tr (m := ([51, 80], [])) fb_20 (by decide)
      exact hret (⟨hG, hF1, hF2, sp_no (z := (-4)) (by unfold spBar; (repeat' split) <;> first | rfl | omega) (by decide) hp_16 (fun k => fa_19.arr 80 0 k (by decide))⟩) hU hS dX11_bar_25
  ·
    refine lv_aload_n hx hb dX11_bar_8 rfl (lv_at hl 0 rfl) ?_
    refine lv_iconst (v := (-1)) hx hb dX11_bar_9 (by decide) ?_
    refine q_fi (q_runV (t := 49) (i := 0) (As := [.int (-1)]) (rest := []) C hU (c_X11_refuse hG (-1) (by omega)) vm_X11_refuse ml_X11_77 k_49.1 (hc := rfl) rfl (h1_49 hG) hl.1 rfl rfl (Nat.le_of_ble_eq_true rfl) dX11_bar_10 rfl rfl ⟨Nat.le_of_ble_eq_true rfl, Nat.le_of_ble_eq_true rfl⟩ ⟨Nat.le_refl _, Nat.le_refl _⟩) hS (fun x_27 iv_23 rv_24 H locs hG fa_25 fb_26 hp_22 hU hS => ?_)
    have hF1 := hF1.tr (m := ([51, 80], [])) fa_25 (by decide)
    have hF2 := hF2.tr (m := ([51, 80], [])) fb_26 (by decide)
    exact hret (⟨hG, hF1, hF2, sp_no (z := (-1)) (by unfold spBar; (repeat' split) <;> first | rfl | omega) (by decide) hp_22 (fun k => fa_25.arr 80 0 k (by decide))⟩) hU hS dX11_bar_13
set_option maxHeartbeats 4000000 in
set_option maxRecDepth 100000 in
theorem c_X12_seen_x {l : Launch} {D : va_G} {cA : FieldType → ClassId} {sz : Nat} {al : Al} {iv : Iv} {rv : Rv} (hG : GI al iv rv) (a : Int32) (b : Int32) (by_ : Int32) : Met l yX12_seen (wd yX12_seen cX12_seen 9 (some .int)) (rm 2) (PcW D cA sz al iv rv [.ref (al.2 0 0), .int a, .int b, .int by_]) (QI D cA sz al (fI al ([16, 4, 3], [(0, 5)]) iv rv (fun r iv' rv' => (spSeen a b by_ = 0 ∧ tkM iv iv' a.toNatClampNeg b.toNatClampNeg by_ r) ∨ (spSeen a b by_ ≠ 0 ∧ r = spSeen a b by_ ∧ ∀ k : Nat, iv' 3 0 k = iv 3 0 k ∧ iv' 4 0 k = iv 4 0 k)))) 0 0 (Aq sz) := by
  refine mk_i (by decide) (Nat.le_of_ble_eq_true rfl) rfl ?_
  intro p e s m args below meth c ls Q H locs C hU hS hl hret
  have hx := C.1.1
  have hb := C.1.2.1
  have hl : lv_has ls 9 [(0, .ref (al.2 0 0)), (1, .int a), (2, .int b), (3, .int by_)] := hl
  have hG0 := hG
  have h6 := le6 hG
  have h20 := le20 hG
  have h41 := le41 hG
  have hF1 : FR ([16, 4, 3], [(0, 5)]) iv iv := FR.rf
  have hF2 : FR ([16, 4, 3], [(0, 5)]) rv rv := FR.rf
  have km600 : ((-600) : Int32).toInt = -600 := by decide
  have km6 : ((-6) : Int32).toInt = -6 := by decide
  have km4 : ((-4) : Int32).toInt = -4 := by decide
  have km1 : ((-1) : Int32).toInt = -1 := by decide
  have k0 : (0 : Int32).toInt = 0 := by decide
  have k1 : (1 : Int32).toInt = 1 := by decide
  have k10 : (10 : Int32).toInt = 10 := by decide
  have k600 : (600 : Int32).toInt = 600 := by decide
  refine lv_iload_n hx hb dX12_seen_0 rfl (lv_at hl 1 rfl) ?_
  refine q_pi (q_runS (As := [.int a]) (rest := []) C hU (c_X12_isPort  a ) sm_X12_isPort ml_X12_171 hl.1 rfl rfl (Nat.le_of_ble_eq_true rfl) dX12_seen_1 rfl rfl ⟨Nat.le_of_ble_eq_true rfl, Nat.le_of_ble_eq_true rfl⟩ ⟨Nat.le_refl _, Nat.le_refl _⟩) hS (fun x_2 H locs hp_1 hU hS => ?_)
  refine b_if_eq (tgt := 19) hx hb dX12_seen_4 (by decide) (fun c_3 => ?_) (fun c_3 => ?_)
  ·
    refine lv_aload_n hx hb dX12_seen_19 rfl (lv_at hl 0 rfl) ?_
    refine lv_iconst (v := (-1)) hx hb dX12_seen_20 (by decide) ?_
    refine q_fi (q_runV (t := 0) (i := 0) (As := [.int (-1)]) (rest := []) C hU (c_X12_refuse hG (-1) (by omega)) vm_X12_refuse ml_X12_164 k_0.1 (hc := rfl) rfl (h1_0 hG) hl.1 rfl rfl (Nat.le_of_ble_eq_true rfl) dX12_seen_21 rfl rfl ⟨Nat.le_of_ble_eq_true rfl, Nat.le_of_ble_eq_true rfl⟩ ⟨Nat.le_refl _, Nat.le_refl _⟩) hS (fun x_9 iv_5 rv_6 H locs hG fa_7 fb_8 hp_4 hU hS => ?_)
    have hF1 := hF1.tr (m := ([16, 4, 3], [(0, 5)])) fa_7 (by decide)
    have hF2 := hF2.tr (m := ([16, 4, 3], [(0, 5)])) fb_8 (by decide)
    exact hret (⟨hG, hF1, hF2, sp_no (z := (-1)) (by unfold spSeen; (repeat' split) <;> first | rfl | omega) (by decide) hp_4 (fun k => ⟨fa_7.arr 3 0 k (by decide), fa_7.arr 4 0 k (by decide)⟩)⟩) hU hS dX12_seen_24
  ·
    refine lv_iload_n hx hb dX12_seen_7 rfl (lv_at hl 2 rfl) ?_
    refine q_pi (q_runS (As := [.int b]) (rest := []) C hU (c_X12_isPort  b ) sm_X12_isPort ml_X12_171 hl.1 rfl rfl (Nat.le_of_ble_eq_true rfl) dX12_seen_8 rfl rfl ⟨Nat.le_of_ble_eq_true rfl, Nat.le_of_ble_eq_true rfl⟩ ⟨Nat.le_refl _, Nat.le_refl _⟩) hS (fun x_11 H locs hp_10 hU hS => ?_)
    refine b_if_eq (tgt := 19) hx hb dX12_seen_11 (by decide) (fun c_12 => ?_) (fun c_12 => ?_)
    ·
      refine lv_aload_n hx hb dX12_seen_19 rfl (lv_at hl 0 rfl) ?_
      refine lv_iconst (v := (-1)) hx hb dX12_seen_20 (by decide) ?_
      refine q_fi (q_runV (t := 0) (i := 0) (As := [.int (-1)]) (rest := []) C hU (c_X12_refuse hG (-1) (by omega)) vm_X12_refuse ml_X12_164 k_0.1 (hc := rfl) rfl (h1_0 hG) hl.1 rfl rfl (Nat.le_of_ble_eq_true rfl) dX12_seen_21 rfl rfl ⟨Nat.le_of_ble_eq_true rfl, Nat.le_of_ble_eq_true rfl⟩ ⟨Nat.le_refl _, Nat.le_refl _⟩) hS (fun x_18 iv_14 rv_15 H locs hG fa_16 fb_17 hp_13 hU hS => ?_)
      have hF1 := hF1.tr (m := ([16, 4, 3], [(0, 5)])) fa_16 (by decide)
      have hF2 := hF2.tr (m := ([16, 4, 3], [(0, 5)])) fb_17 (by decide)
      exact hret (⟨hG, hF1, hF2, sp_no (z := (-1)) (by unfold spSeen; (repeat' split) <;> first | rfl | omega) (by decide) hp_13 (fun k => ⟨fa_16.arr 3 0 k (by decide), fa_16.arr 4 0 k (by decide)⟩)⟩) hU hS dX12_seen_24
    ·
      refine lv_iload_n hx hb dX12_seen_14 rfl (lv_at hl 1 rfl) ?_
      refine lv_iload_n hx hb dX12_seen_15 rfl (lv_at hl 2 rfl) ?_
      refine b_icmp_ne (tgt := 25) hx hb dX12_seen_16 (by decide) (fun c_19 => ?_) (fun c_19 => ?_)
      ·
        refine lv_iload_n hx hb dX12_seen_25 rfl (lv_at hl 3 rfl) ?_
        refine lv_sipush (v := (-600)) hx hb dX12_seen_26 (by decide) ?_
        refine b_icmp_ge (tgt := 39) hx hb dX12_seen_29 (by decide) (fun c_20 => ?_) (fun c_20 => ?_)
        ·
          refine lv_iload_n hx hb dX12_seen_39 rfl (lv_at hl 3 rfl) ?_
          refine lv_sipush (v := 600) hx hb dX12_seen_40 (by decide) ?_
          refine b_icmp_le (tgt := 53) hx hb dX12_seen_43 (by decide) (fun c_21 => ?_) (fun c_21 => ?_)
          ·
            refine lv_aload_n hx hb dX12_seen_53 rfl (lv_at hl 0 rfl) ?_
            refine g_0_3 C hU hG (h1_0 hG) fl_X12_16 dX12_seen_54 ?_
            refine lv_iload_n hx hb dX12_seen_57 rfl (lv_at hl 1 rfl) ?_
            refine a_3 C hU hG (h1_3 hG) (x := a) (by omega) (by omega) dX12_seen_58 (fun x_22 e_23 le_23 ue_23 => ?_)
            have te_23 := congrArg Int32.toInt e_23
            refine lv_aload_n hx hb dX12_seen_59 rfl (lv_at hl 0 rfl) ?_
            refine g_0_3 C hU hG (h1_0 hG) fl_X12_16 dX12_seen_60 ?_
            refine lv_iload_n hx hb dX12_seen_63 rfl (lv_at hl 2 rfl) ?_
            refine a_3 C hU hG (h1_3 hG) (x := b) (by omega) (by omega) dX12_seen_64 (fun x_24 e_25 le_25 ue_25 => ?_)
            have te_25 := congrArg Int32.toInt e_25
            refine b_icmp_ne (tgt := 122) hx hb dX12_seen_65 (by decide) (fun c_26 => ?_) (fun c_26 => ?_)
            ·
              refine lv_iload_n hx hb dX12_seen_122 rfl (lv_at hl 3 rfl) ?_
              refine lv_aload_n hx hb dX12_seen_123 rfl (lv_at hl 0 rfl) ?_
              refine g_0_4 C hU hG (h1_0 hG) fl_X12_19 dX12_seen_124 ?_
              refine lv_iload_n hx hb dX12_seen_127 rfl (lv_at hl 1 rfl) ?_
              refine a_4 C hU hG (h1_4 hG) (x := a) (by omega) (by omega) dX12_seen_128 (fun x_27 e_28 => ?_)
              have te_28 := congrArg Int32.toInt e_28
              refine lv_isub hx hb dX12_seen_129 ?_
              refine lv_topi (fun x_29 e_30 => ?_)
              refine lv_aload_n hx hb dX12_seen_130 rfl (lv_at hl 0 rfl) ?_
              refine g_0_4 C hU hG (h1_0 hG) fl_X12_19 dX12_seen_131 ?_
              refine lv_iload_n hx hb dX12_seen_134 rfl (lv_at hl 2 rfl) ?_
              refine a_4 C hU hG (h1_4 hG) (x := b) (by omega) (by omega) dX12_seen_135 (fun x_31 e_32 => ?_)
              have te_32 := congrArg Int32.toInt e_32
              refine lv_iadd hx hb dX12_seen_136 ?_
              refine lv_topi (fun x_33 e_34 => ?_)
              refine lv_istore (lv' := [(4, .int x_33), (0, .ref (al.2 0 0)), (1, .int a), (2, .int b), (3, .int by_)]) hx hb dX12_seen_137 hl (by decide) rfl (fun ls hl => ?_)
              refine lv_aload_n hx hb dX12_seen_139 rfl (lv_at hl 1 rfl) ?_
              refine g_0_3 C hU hG (h1_0 hG) fl_X12_16 dX12_seen_140 ?_
              refine lv_iload_n hx hb dX12_seen_143 rfl (lv_at hl 2 rfl) ?_
              refine a_3 C hU hG (h1_3 hG) (x := a) (by omega) (by omega) dX12_seen_144 (fun x_35 e_36 le_36 ue_36 => ?_)
              have te_36 := congrArg Int32.toInt e_36
              refine lv_istore (lv' := [(5, .int x_35), (4, .int x_33), (0, .ref (al.2 0 0)), (1, .int a), (2, .int b), (3, .int by_)]) hx hb dX12_seen_145 hl (by decide) rfl (fun ls hl => ?_)
              refine lv_aload_n hx hb dX12_seen_147 rfl (lv_at hl 2 rfl) ?_
              refine g_0_3 C hU hG (h1_0 hG) fl_X12_16 dX12_seen_148 ?_
              refine lv_iload_n hx hb dX12_seen_151 rfl (lv_at hl 4 rfl) ?_
              refine a_3 C hU hG (h1_3 hG) (x := b) (by omega) (by omega) dX12_seen_152 (fun x_37 e_38 le_38 ue_38 => ?_)
              have te_38 := congrArg Int32.toInt e_38
              refine lv_istore (lv' := [(6, .int x_37), (5, .int x_35), (4, .int x_33), (0, .ref (al.2 0 0)), (1, .int a), (2, .int b), (3, .int by_)]) hx hb dX12_seen_153 hl (by decide) rfl (fun ls hl => ?_)
              refine lv_iload hx hb dX12_seen_155 (lv_at hl 1 rfl) ?_
              refine lv_iload hx hb dX12_seen_157 (lv_at hl 0 rfl) ?_
              have J_169 : ∀ (v_39 : Int32) (ls : Array Slot), lv_has ls 9 [(0, .ref (al.2 0 0)), (4, .int x_33), (5, .int x_35), (6, .int x_37)] → (0 ≤ v_39.toInt ∧ v_39.toInt ≤ 9) → ((x_35.toInt < x_37.toInt ∧ v_39.toInt = x_35.toInt) ∨ (¬ x_35.toInt < x_37.toInt ∧ v_39.toInt = x_37.toInt)) → W p l e (rm 2) s m args below meth c H locs 0 0 Q (F0 m 169 ls [.int v_39]) := by
                intro v_39 ls hl i169_0 i169_1
                refine lv_istore (lv' := [(7, .int v_39), (0, .ref (al.2 0 0)), (4, .int x_33), (5, .int x_35), (6, .int x_37)]) hx hb dX12_seen_169 hl (by decide) rfl (fun ls hl => ?_)
                refine lv_iconst (v := 0) hx hb dX12_seen_171 (by decide) ?_
                refine lv_istore (lv' := [(8, .int 0), (7, .int v_39), (0, .ref (al.2 0 0)), (4, .int x_33), (5, .int x_35), (6, .int x_37)]) hx hb dX12_seen_172 hl (by decide) rfl (fun ls hl => ?_)
                have J_174 : ∀ (n_174 : Nat) (l8_40 : Int32) (iv_41 : Iv) (rv_42 : Rv) (H : Heap) (locs : List Loc) (ls : Array Slot), lv_has ls 9 [(0, .ref (al.2 0 0)), (4, .int x_33), (5, .int x_35), (6, .int x_37), (7, .int v_39), (8, .int l8_40)] → GI al iv_41 rv_42 → FR ([16, 4, 3], [(0, 5)]) iv iv_41 → FR ([16, 4, 3], [(0, 5)]) rv rv_42 → UW D cA sz al iv_41 rv_42 H → va_S (Aq sz) s.heap H locs → (0 ≤ l8_40.toInt ∧ l8_40.toInt ≤ 10) → snI iv iv_41 a.toNatClampNeg b.toNatClampNeg by_ l8_40.toNatClampNeg → (10 - l8_40.toInt).toNat < n_174 → W p l e (rm 2) s m args below meth c H locs 0 0 Q (F0 m 174 ls []) := by
                  intro n_174
                  induction n_174 with
                  | zero =>
                    intro l8_40 iv_41 rv_42 H locs ls hl hG hF1 hF2 hU hS i174_0 i174_1 hm_174
                    exact absurd hm_174 (Nat.not_lt_zero _)
                  | succ n_174 ih_174 =>
                    intro l8_40 iv_41 rv_42 H locs ls hl hG hF1 hF2 hU hS i174_0 i174_1 hm_174
                    refine lv_iload hx hb dX12_seen_174 (lv_at hl 5 rfl) ?_
                    refine lv_bipush (v := 10) hx hb dX12_seen_176 (by decide) ?_
                    refine b_icmp_ge (tgt := 270) hx hb dX12_seen_178 (by decide) (fun c_43 => ?_) (fun c_43 => ?_)
                    ·
                      refine lv_iconst (v := 1) hx hb dX12_seen_270 (by decide) ?_
                      exact hret (⟨hG, hF1, hF2, Or.inl ⟨(by unfold spSeen; (repeat' split) <;> first | rfl | omega), Or.inr ⟨by omega, by decide, sn_end i174_1 (by omega)⟩⟩⟩) hU hS dX12_seen_271
                    ·
                      refine lv_iload hx hb dX12_seen_181 (lv_at hl 4 rfl) ?_
                      refine lv_iload hx hb dX12_seen_183 (lv_at hl 2 rfl) ?_
                      have J_264 : ∀ (iv_44 : Iv) (rv_45 : Rv) (H : Heap) (locs : List Loc) (ls : Array Slot), lv_has ls 9 [(0, .ref (al.2 0 0)), (4, .int x_33), (5, .int x_35), (6, .int x_37), (7, .int v_39), (8, .int l8_40)] → GI al iv_44 rv_45 → FR ([16, 4, 3], [(0, 5)]) iv iv_44 → FR ([16, 4, 3], [(0, 5)]) rv rv_45 → UW D cA sz al iv_44 rv_45 H → va_S (Aq sz) s.heap H locs → snI iv iv_44 a.toNatClampNeg b.toNatClampNeg by_ (l8_40.toNatClampNeg + 1) → W p l e (rm 2) s m args below meth c H locs 0 0 Q (F0 m 264 ls []) := by
                        intro iv_44 rv_45 H locs ls hl hG hF1 hF2 hU hS i264_0
                        obtain ⟨x_46, e_47⟩ : ∃ y : Int32, y = l8_40 + 1 := ⟨_, rfl⟩
                        have te_47 : x_46.toInt = (l8_40 : Int32).toInt + (1 : Int32).toInt := by rw [e_47]; exact fb_addI (by omega) (by omega)
                        refine lv_iinc (v := x_46) (lv' := [(8, .int x_46), (0, .ref (al.2 0 0)), (4, .int x_33), (5, .int x_35), (6, .int x_37), (7, .int v_39)]) hx hb dX12_seen_264 hl (k := 5) rfl (by rw [e_47]; rfl) (by decide) rfl (fun ls hl => ?_)
                        refine lv_goto (tgt := 174) hx hb dX12_seen_267 (by decide) ?_
                        exact ih_174 x_46 _ _ _ _ _ (lv_sub hl [1, 2, 3, 4, 5, 0] rfl) hG hF1 hF2 hU hS (by omega) (by first | exact sn_up (by omega) (by omega) i264_0 | exact sn_0) (by omega)
                      have J_224 : ∀ (ls : Array Slot), lv_has ls 9 [(0, .ref (al.2 0 0)), (4, .int x_33), (5, .int x_35), (6, .int x_37), (7, .int v_39), (8, .int l8_40)] → (¬ (v_39.toInt = x_35.toInt ∧ (iv_41 3 0 l8_40.toNatClampNeg).toInt = x_37.toInt)) → W p l e (rm 2) s m args below meth c H locs 0 0 Q (F0 m 224 ls []) := by
                        intro ls hl i224_0
                        refine lv_iload hx hb dX12_seen_224 (lv_at hl 4 rfl) ?_
                        refine lv_iload hx hb dX12_seen_226 (lv_at hl 3 rfl) ?_
                        refine b_icmp_ne (tgt := 264) hx hb dX12_seen_228 (by decide) (fun c_48 => ?_) (fun c_48 => ?_)
                        ·
                          exact J_264 _ _ _ _ _ (lv_sub hl [0, 1, 2, 3, 4, 5] rfl) hG hF1 hF2 hU hS (by first | exact sn_k i174_1 (by omega) (by omega) | exact sn_p1 i174_1 e_28 e_30 e_32 e_34 True.intro True.intro True.intro True.intro (by omega) (by omega) (by omega) | exact sn_p2 i174_1 e_28 e_30 e_32 e_34 True.intro True.intro True.intro True.intro (by omega) (by omega) (by omega))
                        ·
                          refine lv_aload_n hx hb dX12_seen_231 rfl (lv_at hl 0 rfl) ?_
                          refine g_0_3 C hU hG (h1_0 hG) fl_X12_16 dX12_seen_232 ?_
                          refine lv_iload hx hb dX12_seen_235 (lv_at hl 5 rfl) ?_
                          refine a_3 C hU hG (h1_3 hG) (x := l8_40) (by omega) (by omega) dX12_seen_237 (fun x_49 e_50 le_50 ue_50 => ?_)
                          have te_50 := congrArg Int32.toInt e_50
                          refine lv_iload hx hb dX12_seen_238 (lv_at hl 2 rfl) ?_
                          refine b_icmp_ne (tgt := 264) hx hb dX12_seen_240 (by decide) (fun c_51 => ?_) (fun c_51 => ?_)
                          ·
                            exact J_264 _ _ _ _ _ (lv_sub hl [0, 1, 2, 3, 4, 5] rfl) hG hF1 hF2 hU hS (by first | exact sn_k i174_1 (by omega) (by omega) | exact sn_p1 i174_1 e_28 e_30 e_32 e_34 True.intro True.intro True.intro True.intro (by omega) (by omega) (by omega) | exact sn_p2 i174_1 e_28 e_30 e_32 e_34 True.intro True.intro True.intro True.intro (by omega) (by omega) (by omega))
                          ·
                            refine lv_aload_n hx hb dX12_seen_243 rfl (lv_at hl 0 rfl) ?_
                            refine g_0_4 C hU hG (h1_0 hG) fl_X12_19 dX12_seen_244 ?_
                            refine lv_iload hx hb dX12_seen_247 (lv_at hl 5 rfl) ?_
                            refine lv_dup2_11 hx hb dX12_seen_249 rfl rfl ?_
                            refine a_4 C hU hG (h1_4 hG) (x := l8_40) (by omega) (by omega) dX12_seen_250 (fun x_52 e_53 => ?_)
                            have te_53 := congrArg Int32.toInt e_53
                            refine lv_iload hx hb dX12_seen_251 (lv_at hl 1 rfl) ?_
                            refine lv_iadd hx hb dX12_seen_253 ?_
                            refine lv_topi (fun x_54 e_55 => ?_)
                            refine s_4 C hU hS (h1_4 hG) (x := l8_40) (by omega) (by omega) dX12_seen_254 (fun iv_56 H locs ei_57 hU hS => ?_)
                            have hG : GI al iv_56 rv_42 := by rw [ei_57]; exact hG.puti (show _ ∧ _ from ⟨(fb_rng _).1, Int.le_of_lt_add_one (fb_rng _).2⟩) (nsA (by decide) _)
                            have hF1 : FR ([16, 4, 3], [(0, 5)]) iv iv_56 := by rw [ei_57]; exact hF1.put (Or.inl (by decide))
                            have kf_58 := congrArg Int32.toInt (show iv_56 0 0 5 = iv_41 0 0 5 by rw [ei_57]; exact up3_ne (fun z => absurd z.1 (by decide)))
                            refine lv_aload_n hx hb dX12_seen_255 rfl (lv_at hl 0 rfl) ?_
                            refine g_0_3 C hU hG (h1_0 hG) fl_X12_16 dX12_seen_256 ?_
                            refine lv_iload hx hb dX12_seen_259 (lv_at hl 5 rfl) ?_
                            refine lv_iload hx hb dX12_seen_261 (lv_at hl 4 rfl) ?_
                            refine s_3 C hU hS (h1_3 hG) (x := l8_40) (by omega) (by omega) dX12_seen_263 (fun iv_59 H locs ei_60 hU hS => ?_)
                            have hG : GI al iv_59 rv_42 := by rw [ei_60]; exact hG.puti (show _ ∧ _ from ⟨show (0 : Int) ≤ _ by omega, show _ ≤ (9 : Int) by omega⟩) (nsA (by decide) _)
                            have hF1 : FR ([16, 4, 3], [(0, 5)]) iv iv_59 := by rw [ei_60]; exact hF1.put (Or.inl (by decide))
                            have kf_61 := congrArg Int32.toInt (show iv_59 0 0 5 = iv_56 0 0 5 by rw [ei_60]; exact up3_ne (fun z => absurd z.1 (by decide)))
                            exact J_264 _ _ _ _ _ (lv_sub hl [0, 1, 2, 3, 4, 5] rfl) hG hF1 hF2 hU hS (by first | exact sn_k i174_1 (by omega) (by omega) | exact sn_p1 i174_1 e_28 e_30 e_32 e_34 True.intro True.intro True.intro True.intro (by omega) (by omega) (by omega) | exact sn_p2 i174_1 e_28 e_30 e_32 e_34 e_53 e_55 ei_57 ei_60 (by omega) (by omega) (by omega))
                      refine b_icmp_ne (tgt := 224) hx hb dX12_seen_185 (by decide) (fun c_62 => ?_) (fun c_62 => ?_)
                      ·
                        exact J_224 _ (lv_sub hl [0, 1, 2, 3, 4, 5] rfl) (by omega)
                      ·
                        refine lv_aload_n hx hb dX12_seen_188 rfl (lv_at hl 0 rfl) ?_
                        refine g_0_3 C hU hG (h1_0 hG) fl_X12_16 dX12_seen_189 ?_
                        refine lv_iload hx hb dX12_seen_192 (lv_at hl 5 rfl) ?_
                        refine a_3 C hU hG (h1_3 hG) (x := l8_40) (by omega) (by omega) dX12_seen_194 (fun x_63 e_64 le_64 ue_64 => ?_)
                        have te_64 := congrArg Int32.toInt e_64
                        refine lv_iload hx hb dX12_seen_195 (lv_at hl 3 rfl) ?_
                        refine b_icmp_ne (tgt := 224) hx hb dX12_seen_197 (by decide) (fun c_65 => ?_) (fun c_65 => ?_)
                        ·
                          exact J_224 _ (lv_sub hl [0, 1, 2, 3, 4, 5] rfl) (by omega)
                        ·
                          refine lv_aload_n hx hb dX12_seen_200 rfl (lv_at hl 0 rfl) ?_
                          refine g_0_4 C hU hG (h1_0 hG) fl_X12_19 dX12_seen_201 ?_
                          refine lv_iload hx hb dX12_seen_204 (lv_at hl 5 rfl) ?_
                          refine lv_dup2_11 hx hb dX12_seen_206 rfl rfl ?_
                          refine a_4 C hU hG (h1_4 hG) (x := l8_40) (by omega) (by omega) dX12_seen_207 (fun x_66 e_67 => ?_)
                          have te_67 := congrArg Int32.toInt e_67
                          refine lv_iload hx hb dX12_seen_208 (lv_at hl 1 rfl) ?_
                          refine lv_isub hx hb dX12_seen_210 ?_
                          refine lv_topi (fun x_68 e_69 => ?_)
                          refine s_4 C hU hS (h1_4 hG) (x := l8_40) (by omega) (by omega) dX12_seen_211 (fun iv_70 H locs ei_71 hU hS => ?_)
                          have hG : GI al iv_70 rv_42 := by rw [ei_71]; exact hG.puti (show _ ∧ _ from ⟨(fb_rng _).1, Int.le_of_lt_add_one (fb_rng _).2⟩) (nsA (by decide) _)
                          have hF1 : FR ([16, 4, 3], [(0, 5)]) iv iv_70 := by rw [ei_71]; exact hF1.put (Or.inl (by decide))
                          have kf_72 := congrArg Int32.toInt (show iv_70 0 0 5 = iv_41 0 0 5 by rw [ei_71]; exact up3_ne (fun z => absurd z.1 (by decide)))
                          refine lv_aload_n hx hb dX12_seen_212 rfl (lv_at hl 0 rfl) ?_
                          refine g_0_3 C hU hG (h1_0 hG) fl_X12_16 dX12_seen_213 ?_
                          refine lv_iload hx hb dX12_seen_216 (lv_at hl 5 rfl) ?_
                          refine lv_iload hx hb dX12_seen_218 (lv_at hl 4 rfl) ?_
                          refine s_3 C hU hS (h1_3 hG) (x := l8_40) (by omega) (by omega) dX12_seen_220 (fun iv_73 H locs ei_74 hU hS => ?_)
                          have hG : GI al iv_73 rv_42 := by rw [ei_74]; exact hG.puti (show _ ∧ _ from ⟨show (0 : Int) ≤ _ by omega, show _ ≤ (9 : Int) by omega⟩) (nsA (by decide) _)
                          have hF1 : FR ([16, 4, 3], [(0, 5)]) iv iv_73 := by rw [ei_74]; exact hF1.put (Or.inl (by decide))
                          have kf_75 := congrArg Int32.toInt (show iv_73 0 0 5 = iv_70 0 0 5 by rw [ei_74]; exact up3_ne (fun z => absurd z.1 (by decide)))
                          refine lv_goto (tgt := 264) hx hb dX12_seen_221 (by decide) ?_
                          exact J_264 _ _ _ _ _ (lv_sub hl [0, 1, 2, 3, 4, 5] rfl) hG hF1 hF2 hU hS (by first | exact sn_k i174_1 (by omega) (by omega) | exact sn_p1 i174_1 e_28 e_30 e_32 e_34 e_67 e_69 ei_71 ei_74 (by omega) (by omega) (by omega) | exact sn_p2 i174_1 e_28 e_30 e_32 e_34 True.intro True.intro True.intro True.intro (by omega) (by omega) (by omega))
                exact J_174 _ 0 _ _ _ _ _ (lv_sub hl [2, 3, 4, 5, 1, 0] rfl) hG hF1 hF2 hU hS (by omega) (by first | exact sn_up (by omega) (by omega) i264_0 | exact sn_0) (Nat.lt_succ_self _)
              refine b_icmp_ge (tgt := 167) hx hb dX12_seen_159 (by decide) (fun c_76 => ?_) (fun c_76 => ?_)
              ·
                refine lv_iload hx hb dX12_seen_167 (lv_at hl 0 rfl) ?_
                exact J_169 x_37 _ (lv_sub hl [3, 2, 1, 0] rfl) (by omega) (by omega)
              ·
                refine lv_iload hx hb dX12_seen_162 (lv_at hl 1 rfl) ?_
                refine lv_goto (tgt := 169) hx hb dX12_seen_164 (by decide) ?_
                exact J_169 x_35 _ (lv_sub hl [3, 2, 1, 0] rfl) (by omega) (by omega)
            ·
              refine lv_aload_n hx hb dX12_seen_68 rfl (lv_at hl 0 rfl) ?_
              refine g_0_4 C hU hG (h1_0 hG) fl_X12_19 dX12_seen_69 ?_
              refine lv_iload_n hx hb dX12_seen_72 rfl (lv_at hl 1 rfl) ?_
              refine a_4 C hU hG (h1_4 hG) (x := a) (by omega) (by omega) dX12_seen_73 (fun x_77 e_78 => ?_)
              have te_78 := congrArg Int32.toInt e_78
              refine lv_aload_n hx hb dX12_seen_74 rfl (lv_at hl 0 rfl) ?_
              refine g_0_4 C hU hG (h1_0 hG) fl_X12_19 dX12_seen_75 ?_
              refine lv_iload_n hx hb dX12_seen_78 rfl (lv_at hl 2 rfl) ?_
              refine a_4 C hU hG (h1_4 hG) (x := b) (by omega) (by omega) dX12_seen_79 (fun x_79 e_80 => ?_)
              have te_80 := congrArg Int32.toInt e_80
              refine lv_isub hx hb dX12_seen_80 ?_
              refine lv_topi (fun x_81 e_82 => ?_)
              refine lv_iload_n hx hb dX12_seen_81 rfl (lv_at hl 3 rfl) ?_
              have J_90 : ∀ (v_83 : Int32) (ls : Array Slot), lv_has ls 9 [(0, .ref (al.2 0 0))] → (0 ≤ v_83.toInt ∧ v_83.toInt ≤ 1) → ((v_83.toInt = 1 ∧ x_81.toInt = by_.toInt) ∨ (v_83.toInt = 0 ∧ ¬ x_81.toInt = by_.toInt)) → W p l e (rm 2) s m args below meth c H locs 0 0 Q (F0 m 90 ls [.int v_83]) := by
                intro v_83 ls hl i90_0 i90_1
                refine lv_istore (lv' := [(4, .int v_83), (0, .ref (al.2 0 0))]) hx hb dX12_seen_90 hl (by decide) rfl (fun ls hl => ?_)
                refine lv_aload_n hx hb dX12_seen_92 rfl (lv_at hl 1 rfl) ?_
                refine lv_dup hx hb dX12_seen_93 rfl ?_
                refine g_0_5 C hU hG (h1_0 hG) fl_X12_175 dX12_seen_94 (fun x_84 e_85 => ?_)
                have te_85 := congrArg Int32.toInt e_85
                refine lv_iload hx hb dX12_seen_97 (lv_at hl 0 rfl) ?_
                refine b_if_eq (tgt := 106) hx hb dX12_seen_99 (by decide) (fun c_86 => ?_) (fun c_86 => ?_)
                ·
                  refine lv_iconst (v := 1) hx hb dX12_seen_106 (by decide) ?_
                  refine lv_iadd hx hb dX12_seen_107 ?_
                  refine lv_topi (fun x_87 e_88 => ?_)
                  refine p_0_5 C hU hS (h1_0 hG) fl_X12_175 dX12_seen_108 (fun iv_89 H locs ei_90 hU hS => ?_)
                  have hG : GI al iv_89 rv := by rw [ei_90]; exact hG.puti (show _ ∧ _ from ⟨(fb_rng _).1, Int.le_of_lt_add_one (fb_rng _).2⟩) (nsF (by decide))
                  have hF1 : FR ([16, 4, 3], [(0, 5)]) iv iv_89 := by rw [ei_90]; exact hF1.put (by decide)
                  refine lv_iload hx hb dX12_seen_111 (lv_at hl 0 rfl) ?_
                  refine b_if_eq (tgt := 120) hx hb dX12_seen_113 (by decide) (fun c_91 => ?_) (fun c_91 => ?_)
                  ·
                    refine lv_iconst (v := 0) hx hb dX12_seen_120 (by decide) ?_
                    exact hret (⟨hG, hF1, hF2, Or.inl ⟨(by unfold spSeen; (repeat' split) <;> first | rfl | omega), Or.inl ⟨by omega, sn_fit e_78 e_80 e_82 (by omega), fun k => ⟨by rw [ei_90]; exact up3_ne (fun z => absurd z.1 (by decide)), by rw [ei_90]; exact up3_ne (fun z => absurd z.1 (by decide))⟩⟩⟩⟩) hU hS dX12_seen_121
                  ·
                    refine lv_iconst (v := 1) hx hb dX12_seen_116 (by decide) ?_
                    refine lv_goto (tgt := 121) hx hb dX12_seen_117 (by decide) ?_
                    exact hret (⟨hG, hF1, hF2, Or.inl ⟨(by unfold spSeen; (repeat' split) <;> first | rfl | omega), Or.inl ⟨by omega, sn_fit e_78 e_80 e_82 (by omega), fun k => ⟨by rw [ei_90]; exact up3_ne (fun z => absurd z.1 (by decide)), by rw [ei_90]; exact up3_ne (fun z => absurd z.1 (by decide))⟩⟩⟩⟩) hU hS dX12_seen_121
                ·
                  refine lv_iconst (v := 0) hx hb dX12_seen_102 (by decide) ?_
                  refine lv_goto (tgt := 107) hx hb dX12_seen_103 (by decide) ?_
                  refine lv_iadd hx hb dX12_seen_107 ?_
                  refine lv_topi (fun x_92 e_93 => ?_)
                  refine p_0_5 C hU hS (h1_0 hG) fl_X12_175 dX12_seen_108 (fun iv_94 H locs ei_95 hU hS => ?_)
                  have hG : GI al iv_94 rv := by rw [ei_95]; exact hG.puti (show _ ∧ _ from ⟨(fb_rng _).1, Int.le_of_lt_add_one (fb_rng _).2⟩) (nsF (by decide))
                  have hF1 : FR ([16, 4, 3], [(0, 5)]) iv iv_94 := by rw [ei_95]; exact hF1.put (by decide)
                  refine lv_iload hx hb dX12_seen_111 (lv_at hl 0 rfl) ?_
                  refine b_if_eq (tgt := 120) hx hb dX12_seen_113 (by decide) (fun c_96 => ?_) (fun c_96 => ?_)
                  ·
                    refine lv_iconst (v := 0) hx hb dX12_seen_120 (by decide) ?_
                    exact hret (⟨hG, hF1, hF2, Or.inl ⟨(by unfold spSeen; (repeat' split) <;> first | rfl | omega), Or.inl ⟨by omega, sn_fit e_78 e_80 e_82 (by omega), fun k => ⟨by rw [ei_95]; exact up3_ne (fun z => absurd z.1 (by decide)), by rw [ei_95]; exact up3_ne (fun z => absurd z.1 (by decide))⟩⟩⟩⟩) hU hS dX12_seen_121
                  ·
                    refine lv_iconst (v := 1) hx hb dX12_seen_116 (by decide) ?_
                    refine lv_goto (tgt := 121) hx hb dX12_seen_117 (by decide) ?_
                    exact hret (⟨hG, hF1, hF2, Or.inl ⟨(by unfold spSeen; (repeat' split) <;> first | rfl | omega), Or.inl ⟨by omega, sn_fit e_78 e_80 e_82 (by omega), fun k => ⟨by rw [ei_95]; exact up3_ne (fun z => absurd z.1 (by decide)), by rw [ei_95]; exact up3_ne (fun z => absurd z.1 (by decide))⟩⟩⟩⟩) hU hS dX12_seen_121
              refine b_icmp_ne (tgt := 89) hx hb dX12_seen_82 (by decide) (fun c_97 => ?_) (fun c_97 => ?_)
              ·
                refine lv_iconst (v := 0) hx hb dX12_seen_89 (by decide) ?_
                exact J_90 0 _ (lv_sub hl [0] rfl) (by omega) (by omega)
              ·
                refine lv_iconst (v := 1) hx hb dX12_seen_85 (by decide) ?_
                refine lv_goto (tgt := 90) hx hb dX12_seen_86 (by decide) ?_
                exact J_90 1 _ (lv_sub hl [0] rfl) (by omega) (by omega)
          ·
            refine lv_aload_n hx hb dX12_seen_46 rfl (lv_at hl 0 rfl) ?_
            refine lv_bipush (v := (-6)) hx hb dX12_seen_47 (by decide) ?_
            refine q_fi (q_runV (t := 0) (i := 0) (As := [.int (-6)]) (rest := []) C hU (c_X12_refuse hG (-6) (by omega)) vm_X12_refuse ml_X12_164 k_0.1 (hc := rfl) rfl (h1_0 hG) hl.1 rfl rfl (Nat.le_of_ble_eq_true rfl) dX12_seen_49 rfl rfl ⟨Nat.le_of_ble_eq_true rfl, Nat.le_of_ble_eq_true rfl⟩ ⟨Nat.le_refl _, Nat.le_refl _⟩) hS (fun x_103 iv_99 rv_100 H locs hG fa_101 fb_102 hp_98 hU hS => ?_)
            have hF1 := hF1.tr (m := ([16, 4, 3], [(0, 5)])) fa_101 (by decide)
            have hF2 := hF2.tr (m := ([16, 4, 3], [(0, 5)])) fb_102 (by decide)
            exact hret (⟨hG, hF1, hF2, sp_no (z := (-6)) (by unfold spSeen; (repeat' split) <;> first | rfl | omega) (by decide) hp_98 (fun k => ⟨fa_101.arr 3 0 k (by decide), fa_101.arr 4 0 k (by decide)⟩)⟩) hU hS dX12_seen_52
        ·
          refine lv_aload_n hx hb dX12_seen_32 rfl (lv_at hl 0 rfl) ?_
          refine lv_bipush (v := (-4)) hx hb dX12_seen_33 (by decide) ?_
          refine q_fi (q_runV (t := 0) (i := 0) (As := [.int (-4)]) (rest := []) C hU (c_X12_refuse hG (-4) (by omega)) vm_X12_refuse ml_X12_164 k_0.1 (hc := rfl) rfl (h1_0 hG) hl.1 rfl rfl (Nat.le_of_ble_eq_true rfl) dX12_seen_35 rfl rfl ⟨Nat.le_of_ble_eq_true rfl, Nat.le_of_ble_eq_true rfl⟩ ⟨Nat.le_refl _, Nat.le_refl _⟩) hS (fun x_109 iv_105 rv_106 H locs hG fa_107 fb_108 hp_104 hU hS => ?_)
          have hF1 := hF1.tr (m := ([16, 4, 3], [(0, 5)])) fa_107 (by decide)
          have hF2 := hF2.tr (m := ([16, 4, 3], [(0, 5)])) fb_108 (by decide)
          exact hret (⟨hG, hF1, hF2, sp_no (z := (-4)) (by unfold spSeen; (repeat' split) <;> first | rfl | omega) (by decide) hp_104 (fun k => ⟨fa_107.arr 3 0 k (by decide), fa_107.arr 4 0 k (by decide)⟩)⟩) hU hS dX12_seen_38
      ·
        refine lv_aload_n hx hb dX12_seen_19 rfl (lv_at hl 0 rfl) ?_
        refine lv_iconst (v := (-1)) hx hb dX12_seen_20 (by decide) ?_
        refine q_fi (q_runV (t := 0) (i := 0) (As := [.int (-1)]) (rest := []) C hU (c_X12_refuse hG (-1) (by omega)) vm_X12_refuse ml_X12_164 k_0.1 (hc := rfl) rfl (h1_0 hG) hl.1 rfl rfl (Nat.le_of_ble_eq_true rfl) dX12_seen_21 rfl rfl ⟨Nat.le_of_ble_eq_true rfl, Nat.le_of_ble_eq_true rfl⟩ ⟨Nat.le_refl _, Nat.le_refl _⟩) hS (fun x_115 iv_111 rv_112 H locs hG fa_113 fb_114 hp_110 hU hS => ?_)
        have hF1 := hF1.tr (m := ([16, 4, 3], [(0, 5)])) fa_113 (by decide)
        have hF2 := hF2.tr (m := ([16, 4, 3], [(0, 5)])) fb_114 (by decide)
        exact hret (⟨hG, hF1, hF2, sp_no (z := (-1)) (by unfold spSeen; (repeat' split) <;> first | rfl | omega) (by decide) hp_110 (fun k => ⟨fa_113.arr 3 0 k (by decide), fa_113.arr 4 0 k (by decide)⟩)⟩) hU hS dX12_seen_24
end
section
set_option maxHeartbeats 4000000 in
set_option maxRecDepth 100000 in
theorem c_X7_move_x {l : Launch} {D : va_G} {cA : FieldType → ClassId} {sz : Nat} {al : Al} {iv : Iv} {rv : Rv} (hG : GI al iv rv) (fl : Int32) (tl : Int32) (sh : Int32) (pre0 : 0 ≤ tl.toInt ∧ tl.toInt ≤ 9) : Met l yX7_move (wd yX7_move cX7_move 6 none) (rm 0) (PcW D cA sz al iv rv [.ref (al.2 52 0), .int fl, .int tl, .int sh]) (QV D cA sz al (fV al ([], [(56, 2), (56, 3)]) iv rv (fun iv' rv' => mvI iv iv' fl tl sh 10))) 0 0 (Aq sz) := by
  refine mk_v (by decide) (Nat.le_of_ble_eq_true rfl) rfl ?_
  intro p e s m args below meth c ls Q H locs C hU hS hl hret
  have hx := C.1.1
  have hb := C.1.2.1
  have hl : lv_has ls 6 [(0, .ref (al.2 52 0)), (1, .int fl), (2, .int tl), (3, .int sh)] := hl
  have hG0 := hG
  have hF1 : FR ([], [(56, 2), (56, 3)]) iv iv := FR.rf
  have hF2 : FR ([], [(56, 2), (56, 3)]) rv rv := FR.rf
  have k0 : (0 : Int32).toInt = 0 := by decide
  have k1 : (1 : Int32).toInt = 1 := by decide
  have k10 : (10 : Int32).toInt = 10 := by decide
  refine lv_iconst (v := 0) hx hb dX7_move_0 (by decide) ?_
  refine lv_istore (lv' := [(4, .int 0), (0, .ref (al.2 52 0)), (1, .int fl), (2, .int tl), (3, .int sh)]) hx hb dX7_move_1 hl (by decide) rfl (fun ls hl => ?_)
  have J_3 : ∀ (n_3 : Nat) (l4_1 : Int32) (iv_2 : Iv) (rv_3 : Rv) (H : Heap) (locs : List Loc) (ls : Array Slot), lv_has ls 6 [(0, .ref (al.2 52 0)), (1, .int fl), (2, .int tl), (3, .int sh), (4, .int l4_1)] → GI al iv_2 rv_3 → FR ([], [(56, 2), (56, 3)]) iv iv_2 → FR ([], [(56, 2), (56, 3)]) rv rv_3 → UW D cA sz al iv_2 rv_3 H → va_S (Aq sz) s.heap H locs → (0 ≤ l4_1.toInt ∧ l4_1.toInt ≤ 10) → mvI iv iv_2 fl tl sh l4_1.toNatClampNeg → (10 - l4_1.toInt).toNat < n_3 → W p l e (rm 0) s m args below meth c H locs 0 0 Q (F0 m 3 ls []) := by
    intro n_3
    induction n_3 with
    | zero =>
      intro l4_1 iv_2 rv_3 H locs ls hl hG hF1 hF2 hU hS i3_0 i3_1 hm_3
      exact absurd hm_3 (Nat.not_lt_zero _)
    | succ n_3 ih_3 =>
      intro l4_1 iv_2 rv_3 H locs ls hl hG hF1 hF2 hU hS i3_0 i3_1 hm_3
      refine lv_iload hx hb dX7_move_3 (lv_at hl 4 rfl) ?_
      refine lv_bipush (v := 10) hx hb dX7_move_5 (by decide) ?_
      refine b_icmp_ge (tgt := 51) hx hb dX7_move_7 (by decide) (fun c_4 => ?_) (fun c_4 => ?_)
      ·
        exact hret (⟨hG, hF1, hF2, mv_end i3_1 (by omega)⟩) hU hS dX7_move_51
      ·
        refine lv_aload_n hx hb dX7_move_10 rfl (lv_at hl 0 rfl) ?_
        refine g_52_0 C hU hG (h1_52 hG) fl_X7_11 dX7_move_11 ?_
        refine lv_iload hx hb dX7_move_14 (lv_at hl 4 rfl) ?_
        refine a_53 C hU hG (h1_53 hG) (x := l4_1) (by omega) (by omega) dX7_move_16 (fun j_5 ej_6 hb_7 => ?_)
        refine lv_astore (lv' := [(5, .ref (al.2 56 j_5)), (0, .ref (al.2 52 0)), (1, .int fl), (2, .int tl), (3, .int sh), (4, .int l4_1)]) hx hb dX7_move_17 hl (by decide) rfl (fun ls hl => ?_)
        refine lv_aload hx hb dX7_move_19 (lv_at hl 0 rfl) ?_
        refine g_56_2 C hU hG hb_7 fl_X7_33 dX7_move_21 (fun x_8 e_9 le_9 ue_9 => ?_)
        have te_9 := congrArg Int32.toInt e_9
        refine lv_iload_n hx hb dX7_move_24 rfl (lv_at hl 2 rfl) ?_
        have J_45 : ∀ (iv_10 : Iv) (rv_11 : Rv) (H : Heap) (locs : List Loc) (ls : Array Slot), lv_has ls 6 [(0, .ref (al.2 52 0)), (1, .int fl), (2, .int tl), (3, .int sh), (4, .int l4_1)] → GI al iv_10 rv_11 → FR ([], [(56, 2), (56, 3)]) iv iv_10 → FR ([], [(56, 2), (56, 3)]) rv rv_11 → UW D cA sz al iv_10 rv_11 H → va_S (Aq sz) s.heap H locs → mvI iv iv_10 fl tl sh (l4_1.toNatClampNeg + 1) → W p l e (rm 0) s m args below meth c H locs 0 0 Q (F0 m 45 ls []) := by
          intro iv_10 rv_11 H locs ls hl hG hF1 hF2 hU hS i45_0
          obtain ⟨x_12, e_13⟩ : ∃ y : Int32, y = l4_1 + 1 := ⟨_, rfl⟩
          have te_13 : x_12.toInt = (l4_1 : Int32).toInt + (1 : Int32).toInt := by rw [e_13]; exact fb_addI (by omega) (by omega)
          refine lv_iinc (v := x_12) (lv' := [(4, .int x_12), (0, .ref (al.2 52 0)), (1, .int fl), (2, .int tl), (3, .int sh)]) hx hb dX7_move_45 hl (k := 4) rfl (by rw [e_13]; rfl) (by decide) rfl (fun ls hl => ?_)
          refine lv_goto (tgt := 3) hx hb dX7_move_48 (by decide) ?_
          exact ih_3 x_12 _ _ _ _ _ (lv_sub hl [1, 2, 3, 4, 0] rfl) hG hF1 hF2 hU hS (by omega) (by first | exact mv_up (by omega) (by omega) i45_0 | exact mv_0) (by omega)
        refine b_icmp_ne (tgt := 45) hx hb dX7_move_25 (by decide) (fun c_14 => ?_) (fun c_14 => ?_)
        ·
          exact J_45 _ _ _ _ _ (lv_sub hl [1, 2, 3, 4, 5] rfl) hG hF1 hF2 hU hS (by first | exact mv_keep i3_1 e_9 (pix hG ej_6 (by omega) (by omega)) c_14 | exact mv_put i3_1 e_9 (pix hG ej_6 (by omega) (by omega)) c_14 True.intro True.intro True.intro True.intro)
        ·
          refine lv_aload hx hb dX7_move_28 (lv_at hl 0 rfl) ?_
          refine lv_iload_n hx hb dX7_move_30 rfl (lv_at hl 3 rfl) ?_
          refine p_56_2 C hU hS hb_7 fl_X7_33 dX7_move_31 (fun iv_15 H locs ei_16 hU hS => ?_)
          have hG : GI al iv_15 rv_3 := by rw [ei_16]; exact hG.puti (show _ ∧ _ from ⟨show (0 : Int) ≤ _ by omega, show _ ≤ (9 : Int) by omega⟩) (nsF (by decide))
          have hF1 : FR ([], [(56, 2), (56, 3)]) iv iv_15 := by rw [ei_16]; exact hF1.put (by decide)
          refine lv_aload hx hb dX7_move_34 (lv_at hl 0 rfl) ?_
          refine lv_dup hx hb dX7_move_36 rfl ?_
          refine g_56_3 C hU hG hb_7 fl_X7_36 dX7_move_37 (fun x_17 e_18 => ?_)
          have te_18 := congrArg Int32.toInt e_18
          refine lv_iload_n hx hb dX7_move_40 rfl (lv_at hl 4 rfl) ?_
          refine lv_iadd hx hb dX7_move_41 ?_
          refine lv_topi (fun x_19 e_20 => ?_)
          refine p_56_3 C hU hS hb_7 fl_X7_36 dX7_move_42 (fun iv_21 H locs ei_22 hU hS => ?_)
          have hG : GI al iv_21 rv_3 := by rw [ei_22]; exact hG.puti (show _ ∧ _ from ⟨(fb_rng _).1, Int.le_of_lt_add_one (fb_rng _).2⟩) (nsF (by decide))
          have hF1 : FR ([], [(56, 2), (56, 3)]) iv iv_21 := by rw [ei_22]; exact hF1.put (by decide)
          exact J_45 _ _ _ _ _ (lv_sub hl [1, 2, 3, 4, 5] rfl) hG hF1 hF2 hU hS (by first | exact mv_keep i3_1 e_9 (pix hG ej_6 (by omega) (by omega)) c_14 | exact mv_put i3_1 e_9 (pix hG ej_6 (by omega) (by omega)) c_14 ei_16 e_18 e_20 ei_22)
  exact J_3 _ 0 _ _ _ _ _ (lv_sub hl [1, 2, 3, 4, 0] rfl) hG hF1 hF2 hU hS (by omega) (by first | exact mv_up (by omega) (by omega) i45_0 | exact mv_0) (Nat.lt_succ_self _)
set_option maxHeartbeats 4000000 in
set_option maxRecDepth 100000 in
theorem c_X7_take_x {l : Launch} {D : va_G} {cA : FieldType → ClassId} {sz : Nat} {al : Al} {iv : Iv} {rv : Rv} (hG : GI al iv rv) (pi : Nat) (hpi : pi < al.1 56) (pj : Nat) (hpj : pj < al.1 56) (by_ : Int32) : Met l yX7_take (wd yX7_take cX7_take 5 (some .boolean)) (rm 1) (PcW D cA sz al iv rv [.ref (al.2 52 0), .ref (al.2 56 pi), .ref (al.2 56 pj), .int by_]) (QI D cA sz al (fI al ([], [(56, 2), (56, 3), (52, 2)]) iv rv (fun r iv' rv' => (0 ≤ r.toInt ∧ r.toInt ≤ 1) ∧ (tkP iv iv' pi pj by_ r)))) 0 0 (Aq sz) := by
  refine mk_z (by decide) (Nat.le_of_ble_eq_true rfl) rfl ?_
  intro p e s m args below meth c ls Q H locs C hU hS hl hret
  have hx := C.1.1
  have hb := C.1.2.1
  have hl : lv_has ls 5 [(0, .ref (al.2 52 0)), (1, .ref (al.2 56 pi)), (2, .ref (al.2 56 pj)), (3, .int by_)] := hl
  have hG0 := hG
  have hF1 : FR ([], [(56, 2), (56, 3), (52, 2)]) iv iv := FR.rf
  have hF2 : FR ([], [(56, 2), (56, 3), (52, 2)]) rv rv := FR.rf
  have k0 : (0 : Int32).toInt = 0 := by decide
  have k1 : (1 : Int32).toInt = 1 := by decide
  refine lv_aload_n hx hb dX7_take_0 rfl (lv_at hl 1 rfl) ?_
  refine g_56_2 C hU hG hpi fl_X7_33 dX7_take_1 (fun x_1 e_2 le_2 ue_2 => ?_)
  have te_2 := congrArg Int32.toInt e_2
  refine lv_aload_n hx hb dX7_take_4 rfl (lv_at hl 2 rfl) ?_
  refine g_56_2 C hU hG hpj fl_X7_33 dX7_take_5 (fun x_3 e_4 le_4 ue_4 => ?_)
  have te_4 := congrArg Int32.toInt e_4
  refine b_icmp_ne (tgt := 49) hx hb dX7_take_8 (by decide) (fun c_5 => ?_) (fun c_5 => ?_)
  ·
    refine lv_aload_n hx hb dX7_take_49 rfl (lv_at hl 1 rfl) ?_
    refine g_56_2 C hU hG hpi fl_X7_33 dX7_take_50 (fun x_6 e_7 le_7 ue_7 => ?_)
    have te_7 := congrArg Int32.toInt e_7
    refine lv_aload_n hx hb dX7_take_53 rfl (lv_at hl 2 rfl) ?_
    refine g_56_2 C hU hG hpj fl_X7_33 dX7_take_54 (fun x_8 e_9 le_9 ue_9 => ?_)
    have te_9 := congrArg Int32.toInt e_9
    refine b_icmp_ge (tgt := 86) hx hb dX7_take_57 (by decide) (fun c_10 => ?_) (fun c_10 => ?_)
    ·
      refine lv_aload_n hx hb dX7_take_86 rfl (lv_at hl 0 rfl) ?_
      refine lv_aload_n hx hb dX7_take_87 rfl (lv_at hl 1 rfl) ?_
      refine g_56_2 C hU hG hpi fl_X7_33 dX7_take_88 (fun x_11 e_12 le_12 ue_12 => ?_)
      have te_12 := congrArg Int32.toInt e_12
      refine lv_aload_n hx hb dX7_take_91 rfl (lv_at hl 2 rfl) ?_
      refine g_56_2 C hU hG hpj fl_X7_33 dX7_take_92 (fun x_13 e_14 le_14 ue_14 => ?_)
      have te_14 := congrArg Int32.toInt e_14
      refine lv_aload_n hx hb dX7_take_95 rfl (lv_at hl 2 rfl) ?_
      refine g_56_3 C hU hG hpj fl_X7_36 dX7_take_96 (fun x_15 e_16 => ?_)
      have te_16 := congrArg Int32.toInt e_16
      refine lv_iload_n hx hb dX7_take_99 rfl (lv_at hl 3 rfl) ?_
      refine lv_iadd hx hb dX7_take_100 ?_
      refine lv_topi (fun x_17 e_18 => ?_)
      refine lv_aload_n hx hb dX7_take_101 rfl (lv_at hl 1 rfl) ?_
      refine g_56_3 C hU hG hpi fl_X7_36 dX7_take_102 (fun x_19 e_20 => ?_)
      have te_20 := congrArg Int32.toInt e_20
      refine lv_isub hx hb dX7_take_105 ?_
      refine lv_topi (fun x_21 e_22 => ?_)
      refine q_fv (q_runV (t := 52) (i := 0) (As := [.int x_11, .int x_13, .int x_21]) (rest := []) C hU (c_X7_move_x hG x_11 x_13 x_21 (by omega)) vm_X7_move ml_X7_42 k_52.1 (hc := rfl) rfl (h1_52 hG) hl.1 rfl rfl (Nat.le_of_ble_eq_true rfl) dX7_take_106 rfl rfl ⟨Nat.le_of_ble_eq_true rfl, Nat.le_of_ble_eq_true rfl⟩ ⟨Nat.le_refl _, Nat.le_refl _⟩) hS (fun iv_24 rv_25 H locs hG fa_26 fb_27 hp_23 hU hS => ?_)
      have hF1 := hF1.tr (m := ([], [(56, 2), (56, 3), (52, 2)])) fa_26 (by decide)
      have hF2 := hF2.tr (m := ([], [(56, 2), (56, 3), (52, 2)])) fb_27 (by decide)
      refine lv_iconst (v := 1) hx hb dX7_take_109 (by decide) ?_
      exact hret (by omega) (by omega) (⟨hG, hF1, hF2, ⟨⟨by omega, by omega⟩, Or.inr ⟨by omega, by decide, by first | exact tk_a True.intro True.intro True.intro True.intro True.intro True.intro True.intro (by omega) | exact tk_b hp_23 e_12 e_14 e_16 e_18 e_20 e_22 (by omega)⟩⟩⟩) hU hS dX7_take_110
    ·
      refine lv_aload_n hx hb dX7_take_60 rfl (lv_at hl 0 rfl) ?_
      refine lv_aload_n hx hb dX7_take_61 rfl (lv_at hl 2 rfl) ?_
      refine g_56_2 C hU hG hpj fl_X7_33 dX7_take_62 (fun x_28 e_29 le_29 ue_29 => ?_)
      have te_29 := congrArg Int32.toInt e_29
      refine lv_aload_n hx hb dX7_take_65 rfl (lv_at hl 1 rfl) ?_
      refine g_56_2 C hU hG hpi fl_X7_33 dX7_take_66 (fun x_30 e_31 le_31 ue_31 => ?_)
      have te_31 := congrArg Int32.toInt e_31
      refine lv_aload_n hx hb dX7_take_69 rfl (lv_at hl 1 rfl) ?_
      refine g_56_3 C hU hG hpi fl_X7_36 dX7_take_70 (fun x_32 e_33 => ?_)
      have te_33 := congrArg Int32.toInt e_33
      refine lv_iload_n hx hb dX7_take_73 rfl (lv_at hl 3 rfl) ?_
      refine lv_isub hx hb dX7_take_74 ?_
      refine lv_topi (fun x_34 e_35 => ?_)
      refine lv_aload_n hx hb dX7_take_75 rfl (lv_at hl 2 rfl) ?_
      refine g_56_3 C hU hG hpj fl_X7_36 dX7_take_76 (fun x_36 e_37 => ?_)
      have te_37 := congrArg Int32.toInt e_37
      refine lv_isub hx hb dX7_take_79 ?_
      refine lv_topi (fun x_38 e_39 => ?_)
      refine q_fv (q_runV (t := 52) (i := 0) (As := [.int x_28, .int x_30, .int x_38]) (rest := []) C hU (c_X7_move_x hG x_28 x_30 x_38 (by omega)) vm_X7_move ml_X7_42 k_52.1 (hc := rfl) rfl (h1_52 hG) hl.1 rfl rfl (Nat.le_of_ble_eq_true rfl) dX7_take_80 rfl rfl ⟨Nat.le_of_ble_eq_true rfl, Nat.le_of_ble_eq_true rfl⟩ ⟨Nat.le_refl _, Nat.le_refl _⟩) hS (fun iv_41 rv_42 H locs hG fa_43 fb_44 hp_40 hU hS => ?_)
      have hF1 := hF1.tr (m := ([], [(56, 2), (56, 3), (52, 2)])) fa_43 (by decide)
      have hF2 := hF2.tr (m := ([], [(56, 2), (56, 3), (52, 2)])) fb_44 (by decide)
      refine lv_goto (tgt := 109) hx hb dX7_take_83 (by decide) ?_
      refine lv_iconst (v := 1) hx hb dX7_take_109 (by decide) ?_
      exact hret (by omega) (by omega) (⟨hG, hF1, hF2, ⟨⟨by omega, by omega⟩, Or.inr ⟨by omega, by decide, by first | exact tk_a hp_40 e_29 e_31 e_33 e_35 e_37 e_39 (by omega) | exact tk_b True.intro True.intro True.intro True.intro True.intro True.intro True.intro (by omega)⟩⟩⟩) hU hS dX7_take_110
  ·
    refine lv_aload_n hx hb dX7_take_11 rfl (lv_at hl 1 rfl) ?_
    refine g_56_3 C hU hG hpi fl_X7_36 dX7_take_12 (fun x_45 e_46 => ?_)
    have te_46 := congrArg Int32.toInt e_46
    refine lv_aload_n hx hb dX7_take_15 rfl (lv_at hl 2 rfl) ?_
    refine g_56_3 C hU hG hpj fl_X7_36 dX7_take_16 (fun x_47 e_48 => ?_)
    have te_48 := congrArg Int32.toInt e_48
    refine lv_isub hx hb dX7_take_19 ?_
    refine lv_topi (fun x_49 e_50 => ?_)
    refine lv_iload_n hx hb dX7_take_20 rfl (lv_at hl 3 rfl) ?_
    have J_29 : ∀ (v_51 : Int32) (ls : Array Slot), lv_has ls 5 [(0, .ref (al.2 52 0))] → (0 ≤ v_51.toInt ∧ v_51.toInt ≤ 1) → ((v_51.toInt = 1 ∧ x_49.toInt = by_.toInt) ∨ (v_51.toInt = 0 ∧ ¬ x_49.toInt = by_.toInt)) → W p l e (rm 1) s m args below meth c H locs 0 0 Q (F0 m 29 ls [.int v_51]) := by
      intro v_51 ls hl i29_0 i29_1
      refine lv_istore (lv' := [(4, .int v_51), (0, .ref (al.2 52 0))]) hx hb dX7_take_29 hl (by decide) rfl (fun ls hl => ?_)
      refine lv_iload hx hb dX7_take_31 (lv_at hl 0 rfl) ?_
      refine b_if_ne (tgt := 46) hx hb dX7_take_33 (by decide) (fun c_52 => ?_) (fun c_52 => ?_)
      ·
        refine lv_iload hx hb dX7_take_46 (lv_at hl 0 rfl) ?_
        exact hret (by omega) (by omega) (⟨hG, hF1, hF2, ⟨⟨by omega, by omega⟩, Or.inl ⟨by omega, by first | exact tk_fit e_46 e_48 e_50 (by omega), fun k => by first | exact ⟨rfl, rfl⟩ | exact ⟨by rw [True.intro]; exact up3_ne (fun z => absurd z.1 (by decide)), by rw [True.intro]; exact up3_ne (fun z => absurd z.1 (by decide))⟩⟩⟩⟩) hU hS dX7_take_48
      ·
        refine lv_aload_n hx hb dX7_take_36 rfl (lv_at hl 1 rfl) ?_
        refine lv_dup hx hb dX7_take_37 rfl ?_
        refine g_52_2 C hU hG (h1_52 hG) fl_X7_39 dX7_take_38 (fun x_53 e_54 => ?_)
        have te_54 := congrArg Int32.toInt e_54
        refine lv_iconst (v := 1) hx hb dX7_take_41 (by decide) ?_
        refine lv_iadd hx hb dX7_take_42 ?_
        refine lv_topi (fun x_55 e_56 => ?_)
        refine p_52_2 C hU hS (h1_52 hG) fl_X7_39 dX7_take_43 (fun iv_57 H locs ei_58 hU hS => ?_)
        have hG : GI al iv_57 rv := by rw [ei_58]; exact hG.puti (show _ ∧ _ from ⟨(fb_rng _).1, Int.le_of_lt_add_one (fb_rng _).2⟩) (nsF (by decide))
        have hF1 : FR ([], [(56, 2), (56, 3), (52, 2)]) iv iv_57 := by rw [ei_58]; exact hF1.put (by decide)
        refine lv_iload hx hb dX7_take_46 (lv_at hl 0 rfl) ?_
        exact hret (by omega) (by omega) (⟨hG, hF1, hF2, ⟨⟨by omega, by omega⟩, Or.inl ⟨by omega, by first | exact tk_fit e_46 e_48 e_50 (by omega), fun k => by first | exact ⟨rfl, rfl⟩ | exact ⟨by rw [ei_58]; exact up3_ne (fun z => absurd z.1 (by decide)), by rw [ei_58]; exact up3_ne (fun z => absurd z.1 (by decide))⟩⟩⟩⟩) hU hS dX7_take_48
    refine b_icmp_ne (tgt := 28) hx hb dX7_take_21 (by decide) (fun c_59 => ?_) (fun c_59 => ?_)
    ·
      refine lv_iconst (v := 0) hx hb dX7_take_28 (by decide) ?_
      exact J_29 0 _ (lv_sub hl [0] rfl) (by omega) (by omega)
    ·
      refine lv_iconst (v := 1) hx hb dX7_take_24 (by decide) ?_
      refine lv_goto (tgt := 29) hx hb dX7_take_25 (by decide) ?_
      exact J_29 1 _ (lv_sub hl [0] rfl) (by omega) (by omega)
set_option maxHeartbeats 4000000 in
set_option maxRecDepth 100000 in
theorem c_X5_putRight_x {l : Launch} {D : va_G} {cA : FieldType → ClassId} {sz : Nat} {al : Al} {iv : Iv} {rv : Rv} (hG : GI al iv rv) (li : Nat) (hli : li < al.1 62) : Met l yX5_putRight (wd yX5_putRight cX5_putRight 1 none) (rm 1) (PcW D cA sz al iv rv [.ref (al.2 62 li)]) (QV D cA sz al (fV al ([], [(62, 10), (62, 11), (62, 12), (62, 13)]) iv rv (fun iv' rv' => prQ iv rv iv' rv' li))) 0 0 (Aq sz) := by
  refine mk_v (by decide) (Nat.le_of_ble_eq_true rfl) rfl ?_
  intro p e s m args below meth c ls Q H locs C hU hS hl hret
  have hx := C.1.1
  have hb := C.1.2.1
  have hl : lv_has ls 1 [(0, .ref (al.2 62 li))] := hl
  have hG0 := hG
  have hF1 : FR ([], [(62, 10), (62, 11), (62, 12), (62, 13)]) iv iv := FR.rf
  have hF2 : FR ([], [(62, 10), (62, 11), (62, 12), (62, 13)]) rv rv := FR.rf
  have k0 : (0 : Int32).toInt = 0 := by decide
  refine lv_aload_n hx hb dX5_putRight_0 rfl (lv_at hl 0 rfl) ?_
  refine lv_iconst (v := 0) hx hb dX5_putRight_1 (by decide) ?_
  refine lv_aload_n hx hb dX5_putRight_2 rfl (lv_at hl 0 rfl) ?_
  refine g_62_8 C hU hG hli fl_X5_32 dX5_putRight_3 (fun x_1 e_2 le_2 ue_2 => ?_)
  have te_2 := congrArg Int32.toInt e_2
  refine lv_aload_n hx hb dX5_putRight_6 rfl (lv_at hl 0 rfl) ?_
  refine g_62_1 C hU hG hli fl_X5_13 dX5_putRight_7 (fun j_3 ej_4 hb_5 => ?_)
  refine g_56_3 C hU hG hb_5 fl_X5_45 dX5_putRight_10 (fun x_6 e_7 => ?_)
  have te_7 := congrArg Int32.toInt e_7
  refine lv_isub hx hb dX5_putRight_13 ?_
  refine lv_topi (fun x_8 e_9 => ?_)
  refine q_max C hl.1 ml_X5_50 (Nat.le_of_ble_eq_true rfl) (Nat.le_of_ble_eq_true rfl) (Nat.le_refl _) (Nat.le_refl _) dX5_putRight_14 (fun x_10 q_11 tq_11 => ?_)
  refine p_62_10 C hU hS hli fl_X5_56 dX5_putRight_17 (fun iv_12 H locs ei_13 hU hS => ?_)
  have hG : GI al iv_12 rv := by rw [ei_13]; exact hG.puti (show _ ∧ _ from ⟨(fb_rng _).1, Int.le_of_lt_add_one (fb_rng _).2⟩) (nsF (by decide))
  have hF1 : FR ([], [(62, 10), (62, 11), (62, 12), (62, 13)]) iv iv_12 := by rw [ei_13]; exact hF1.put (by decide)
  refine lv_aload_n hx hb dX5_putRight_20 rfl (lv_at hl 0 rfl) ?_
  refine lv_iconst (v := 0) hx hb dX5_putRight_21 (by decide) ?_
  refine lv_aload_n hx hb dX5_putRight_22 rfl (lv_at hl 0 rfl) ?_
  refine g_62_9 C hU hG hli fl_X5_35 dX5_putRight_23 (fun x_14 e_15 le_15 ue_15 => ?_)
  have te_15 := congrArg Int32.toInt e_15
  have ne_15 : x_14.toInt = (iv 62 li 9).toInt := by rw [e_15, hF1 62 li 9 (by decide)]
  refine lv_aload_n hx hb dX5_putRight_26 rfl (lv_at hl 0 rfl) ?_
  refine g_62_2 C hU hG hli fl_X5_17 dX5_putRight_27 (fun j_16 ej_17 hb_18 => ?_)
  refine g_56_3 C hU hG hb_18 fl_X5_45 dX5_putRight_30 (fun x_19 e_20 => ?_)
  have te_20 := congrArg Int32.toInt e_20
  have ne_20 : x_19.toInt = (iv 56 j_16 3).toInt := by rw [e_20, hF1 56 j_16 3 (by decide)]
  refine lv_isub hx hb dX5_putRight_33 ?_
  refine lv_topi (fun x_21 e_22 => ?_)
  refine q_max C hl.1 ml_X5_50 (Nat.le_of_ble_eq_true rfl) (Nat.le_of_ble_eq_true rfl) (Nat.le_refl _) (Nat.le_refl _) dX5_putRight_34 (fun x_23 q_24 tq_24 => ?_)
  refine p_62_11 C hU hS hli fl_X5_59 dX5_putRight_37 (fun iv_25 H locs ei_26 hU hS => ?_)
  have hG : GI al iv_25 rv := by rw [ei_26]; exact hG.puti (show _ ∧ _ from ⟨(fb_rng _).1, Int.le_of_lt_add_one (fb_rng _).2⟩) (nsF (by decide))
  have hF1 : FR ([], [(62, 10), (62, 11), (62, 12), (62, 13)]) iv iv_25 := by rw [ei_26]; exact hF1.put (by decide)
  refine lv_aload_n hx hb dX5_putRight_40 rfl (lv_at hl 0 rfl) ?_
  refine lv_iconst (v := 0) hx hb dX5_putRight_41 (by decide) ?_
  refine lv_aload_n hx hb dX5_putRight_42 rfl (lv_at hl 0 rfl) ?_
  refine g_62_10 C hU hG hli fl_X5_56 dX5_putRight_43 (fun x_27 e_28 => ?_)
  have te_28 := congrArg Int32.toInt e_28
  refine lv_aload_n hx hb dX5_putRight_46 rfl (lv_at hl 0 rfl) ?_
  refine g_62_5 C hU hG hli fl_X5_26 dX5_putRight_47 (fun x_29 e_30 le_30 ue_30 => ?_)
  have te_30 := congrArg Int32.toInt e_30
  have ne_30 : x_29.toInt = (iv 62 li 5).toInt := by rw [e_30, hF1 62 li 5 (by decide)]
  refine lv_isub hx hb dX5_putRight_50 ?_
  refine lv_topi (fun x_31 e_32 => ?_)
  refine q_max C hl.1 ml_X5_50 (Nat.le_of_ble_eq_true rfl) (Nat.le_of_ble_eq_true rfl) (Nat.le_refl _) (Nat.le_refl _) dX5_putRight_51 (fun x_33 q_34 tq_34 => ?_)
  refine p_62_12 C hU hS hli fl_X5_62 dX5_putRight_54 (fun iv_35 H locs ei_36 hU hS => ?_)
  have hG : GI al iv_35 rv := by rw [ei_36]; exact hG.puti (show _ ∧ _ from ⟨(fb_rng _).1, Int.le_of_lt_add_one (fb_rng _).2⟩) (nsF (by decide))
  have hF1 : FR ([], [(62, 10), (62, 11), (62, 12), (62, 13)]) iv iv_35 := by rw [ei_36]; exact hF1.put (by decide)
  refine lv_aload_n hx hb dX5_putRight_57 rfl (lv_at hl 0 rfl) ?_
  refine lv_iconst (v := 0) hx hb dX5_putRight_58 (by decide) ?_
  refine lv_aload_n hx hb dX5_putRight_59 rfl (lv_at hl 0 rfl) ?_
  refine g_62_11 C hU hG hli fl_X5_59 dX5_putRight_60 (fun x_37 e_38 => ?_)
  have te_38 := congrArg Int32.toInt e_38
  refine lv_aload_n hx hb dX5_putRight_63 rfl (lv_at hl 0 rfl) ?_
  refine g_62_6 C hU hG hli fl_X5_29 dX5_putRight_64 (fun x_39 e_40 le_40 ue_40 => ?_)
  have te_40 := congrArg Int32.toInt e_40
  have ne_40 : x_39.toInt = (iv 62 li 6).toInt := by rw [e_40, hF1 62 li 6 (by decide)]
  refine lv_isub hx hb dX5_putRight_67 ?_
  refine lv_topi (fun x_41 e_42 => ?_)
  refine q_max C hl.1 ml_X5_50 (Nat.le_of_ble_eq_true rfl) (Nat.le_of_ble_eq_true rfl) (Nat.le_refl _) (Nat.le_refl _) dX5_putRight_68 (fun x_43 q_44 tq_44 => ?_)
  refine p_62_13 C hU hS hli fl_X5_65 dX5_putRight_71 (fun iv_45 H locs ei_46 hU hS => ?_)
  have hG : GI al iv_45 rv := by rw [ei_46]; exact hG.puti (show _ ∧ _ from ⟨(fb_rng _).1, Int.le_of_lt_add_one (fb_rng _).2⟩) (nsF (by decide))
  have hF1 : FR ([], [(62, 10), (62, 11), (62, 12), (62, 13)]) iv iv_45 := by rw [ei_46]; exact hF1.put (by decide)
  exact hret (⟨hG, hF1, hF2, pr_ok e_2 ej_4 e_7 e_9 q_11 ei_13 e_15 ej_17 e_20 e_22 q_24 ei_26 e_28 e_30 e_32 q_34 ei_36 e_38 e_40 e_42 q_44 ei_46⟩) hU hS dX5_putRight_74
set_option maxHeartbeats 4000000 in
set_option maxRecDepth 100000 in
theorem c_X10_putRight_x {l : Launch} {D : va_G} {cA : FieldType → ClassId} {sz : Nat} {al : Al} {iv : Iv} {rv : Rv} (hG : GI al iv rv) : Met l yX10_putRight (wd yX10_putRight cX10_putRight 2 none) (rm 2) (PcW D cA sz al iv rv [.ref (al.2 57 0)]) (QV D cA sz al (fV al ([], [(62, 10), (62, 11), (62, 12), (62, 13)]) iv rv (fun iv' rv' => CRT iv' rv'))) 0 0 (Aq sz) := by
  refine mk_v (by decide) (Nat.le_of_ble_eq_true rfl) rfl ?_
  intro p e s m args below meth c ls Q H locs C hU hS hl hret
  have hx := C.1.1
  have hb := C.1.2.1
  have hl : lv_has ls 2 [(0, .ref (al.2 57 0))] := hl
  have hG0 := hG
  have hF1 : FR ([], [(62, 10), (62, 11), (62, 12), (62, 13)]) iv iv := FR.rf
  have hF2 : FR ([], [(62, 10), (62, 11), (62, 12), (62, 13)]) rv rv := FR.rf
  have k0 : (0 : Int32).toInt = 0 := by decide
  have k1 : (1 : Int32).toInt = 1 := by decide
  refine lv_iconst (v := 0) hx hb dX10_putRight_0 (by decide) ?_
  refine lv_istore_n (lv' := [(1, .int 0), (0, .ref (al.2 57 0))]) hx hb dX10_putRight_1 rfl hl (by decide) rfl (fun ls hl => ?_)
  have J_2 : ∀ (n_2 : Nat) (l1_1 : Int32) (iv_2 : Iv) (rv_3 : Rv) (H : Heap) (locs : List Loc) (ls : Array Slot), lv_has ls 2 [(0, .ref (al.2 57 0)), (1, .int l1_1)] → GI al iv_2 rv_3 → FR ([], [(62, 10), (62, 11), (62, 12), (62, 13)]) iv iv_2 → FR ([], [(62, 10), (62, 11), (62, 12), (62, 13)]) rv rv_3 → UW D cA sz al iv_2 rv_3 H → va_S (Aq sz) s.heap H locs → (0 ≤ l1_1.toInt ∧ l1_1.toInt ≤ 40) → CRN iv_2 rv_3 l1_1.toNatClampNeg → (40 - l1_1.toInt).toNat < n_2 → W p l e (rm 2) s m args below meth c H locs 0 0 Q (F0 m 2 ls []) := by
    intro n_2
    induction n_2 with
    | zero =>
      intro l1_1 iv_2 rv_3 H locs ls hl hG hF1 hF2 hU hS i2_0 i2_1 hm_2
      exact absurd hm_2 (Nat.not_lt_zero _)
    | succ n_2 ih_2 =>
      intro l1_1 iv_2 rv_3 H locs ls hl hG hF1 hF2 hU hS i2_0 i2_1 hm_2
      refine lv_iload_n hx hb dX10_putRight_2 rfl (lv_at hl 1 rfl) ?_
      refine lv_aload_n hx hb dX10_putRight_3 rfl (lv_at hl 0 rfl) ?_
      refine g_57_1 C hU hG (h1_57 hG) fl_X10_28 dX10_putRight_4 (fun x_4 e_5 le_5 ue_5 => ?_)
      have te_5 := congrArg Int32.toInt e_5
      have ne_5 : x_4.toInt = (iv 57 0 1).toInt := by rw [e_5, hF1 57 0 1 (by decide)]
      refine b_icmp_ge (tgt := 37) hx hb dX10_putRight_7 (by decide) (fun c_6 => ?_) (fun c_6 => ?_)
      ·
        exact hret (⟨hG, hF1, hF2, crn_end i2_1 (by omega)⟩) hU hS dX10_putRight_37
      ·
        refine lv_aload_n hx hb dX10_putRight_10 rfl (lv_at hl 0 rfl) ?_
        refine g_57_0 C hU hG (h1_57 hG) fl_X10_13 dX10_putRight_11 ?_
        refine lv_iload_n hx hb dX10_putRight_14 rfl (lv_at hl 1 rfl) ?_
        refine a_58 C hU hG (h1_58 hG) (x := l1_1) (by omega) (by omega) dX10_putRight_15 (fun r_7 er_8 hb_9 => ?_)
        have ner_8 : r_7 = rv 58 0 (l1_1 : Int32).toNatClampNeg := by rw [er_8, hF2.arr 58 0 _ (by decide)]
        obtain ⟨j_10, ej_11⟩ : ∃ j, r_7 = some j := ⟨_, er_8.trans (tall hG (by omega) (by omega))⟩
        subst ej_11
        have hl : lv_has ls 2 [(0, .ref (al.2 57 0)), (1, .int l1_1)] := hl
        have hb_12 : j_10 < al.1 62 := hb_9 j_10 rfl
        refine g_62_7 C hU hG hb_12 fl_X10_39 dX10_putRight_16 (fun x_13 e_14 le_14 ue_14 => ?_)
        have te_14 := congrArg Int32.toInt e_14
        have ne_14 : x_13.toInt = (iv 62 j_10 7).toInt := by rw [e_14, hF1 62 j_10 7 (by decide)]
        have J_31 : ∀ (iv_15 : Iv) (rv_16 : Rv) (H : Heap) (locs : List Loc) (ls : Array Slot), lv_has ls 2 [(0, .ref (al.2 57 0)), (1, .int l1_1)] → GI al iv_15 rv_16 → FR ([], [(62, 10), (62, 11), (62, 12), (62, 13)]) iv iv_15 → FR ([], [(62, 10), (62, 11), (62, 12), (62, 13)]) rv rv_16 → UW D cA sz al iv_15 rv_16 H → va_S (Aq sz) s.heap H locs → CRN iv_15 rv_16 (l1_1.toNatClampNeg + 1) → W p l e (rm 2) s m args below meth c H locs 0 0 Q (F0 m 31 ls []) := by
          intro iv_15 rv_16 H locs ls hl hG hF1 hF2 hU hS i31_0
          obtain ⟨x_17, e_18⟩ : ∃ y : Int32, y = l1_1 + 1 := ⟨_, rfl⟩
          have te_18 : x_17.toInt = (l1_1 : Int32).toInt + (1 : Int32).toInt := by rw [e_18]; exact fb_addI (by omega) (by omega)
          refine lv_iinc (v := x_17) (lv' := [(1, .int x_17), (0, .ref (al.2 57 0))]) hx hb dX10_putRight_31 hl (k := 1) rfl (by rw [e_18]; rfl) (by decide) rfl (fun ls hl => ?_)
          refine lv_goto (tgt := 2) hx hb dX10_putRight_34 (by decide) ?_
          exact ih_2 x_17 _ _ _ _ _ (lv_sub hl [1, 0] rfl) hG hF1 hF2 hU hS (by omega) (by first | exact crn_up (by omega) (by omega) i31_0 | exact crn_0) (by omega)
        refine b_if_eq (tgt := 31) hx hb dX10_putRight_19 (by decide) (fun c_19 => ?_) (fun c_19 => ?_)
        ·
          exact J_31 _ _ _ _ _ (lv_sub hl [0, 1] rfl) hG hF1 hF2 hU hS (by first | exact crn_keep i2_1 e_14 (tix hG er_8 (by omega) (by omega)) c_19 | exact crn_put i2_1 True.intro (tix hGb True.intro (by omega) (by omega)) True.intro True.intro)
        ·
          refine lv_aload_n hx hb dX10_putRight_22 rfl (lv_at hl 0 rfl) ?_
          refine g_57_0 C hU hG (h1_57 hG) fl_X10_13 dX10_putRight_23 ?_
          refine lv_iload_n hx hb dX10_putRight_26 rfl (lv_at hl 1 rfl) ?_
          refine a_58 C hU hG (h1_58 hG) (x := l1_1) (by omega) (by omega) dX10_putRight_27 (fun r_20 er_21 hb_22 => ?_)
          have ner_21 : r_20 = rv 58 0 (l1_1 : Int32).toNatClampNeg := by rw [er_21, hF2.arr 58 0 _ (by decide)]
          obtain ⟨j_23, ej_24⟩ : ∃ j, r_20 = some j := ⟨_, er_21.trans (tall hG (by omega) (by omega))⟩
          subst ej_24
          have hl : lv_has ls 2 [(0, .ref (al.2 57 0)), (1, .int l1_1)] := hl
          have hb_25 : j_23 < al.1 62 := hb_22 j_23 rfl
          have hGb := hG
          refine q_fv (q_runV (t := 62) (i := j_23) (As := []) (rest := []) C hU (c_X5_putRight_x hG (j_23) hb_25 ) vm_X5_putRight ml_X10_43 k_62.1 (hc := rfl) rfl hb_25 hl.1 rfl rfl (Nat.le_of_ble_eq_true rfl) dX10_putRight_28 rfl rfl ⟨Nat.le_of_ble_eq_true rfl, Nat.le_of_ble_eq_true rfl⟩ ⟨Nat.le_refl _, Nat.le_refl _⟩) hS (fun iv_27 rv_28 H locs hG fa_29 fb_30 hp_26 hU hS => ?_)
          have hF1 := hF1.tr (m := ([], [(62, 10), (62, 11), (62, 12), (62, 13)])) fa_29 (by decide)
          have hF2 := hF2.tr (m := ([], [(62, 10), (62, 11), (62, 12), (62, 13)])) fb_30 (by decide)
          exact J_31 _ _ _ _ _ (lv_sub hl [0, 1] rfl) hG hF1 hF2 hU hS (by first | exact crn_keep i2_1 e_14 (tix hG er_8 (by omega) (by omega)) c_19 | exact crn_put i2_1 hp_26 (tix hGb er_21 (by omega) (by omega)) fa_29 fb_30)
  exact J_2 _ 0 _ _ _ _ _ (lv_sub hl [1, 0] rfl) hG hF1 hF2 hU hS (by omega) (by first | exact crn_up (by omega) (by omega) i31_0 | exact crn_0) (Nat.lt_succ_self _)
set_option maxHeartbeats 4000000 in
set_option maxRecDepth 100000 in
theorem c_X11_seen_x {l : Launch} {D : va_G} {cA : FieldType → ClassId} {sz : Nat} {al : Al} {iv : Iv} {rv : Rv} (hG : GI al iv rv) (a : Int32) (b : Int32) (by_ : Int32) : Met l yX11_seen (wd yX11_seen cX11_seen 6 (some .int)) (rm 3) (PcW D cA sz al iv rv [.ref (al.2 49 0), .int a, .int b, .int by_]) (QI D cA sz al (fI al ([51], [(56, 2), (56, 3), (52, 2), (62, 10), (62, 11), (62, 12), (62, 13)]) iv rv (fun r iv' rv' => (spSeen a b by_ = 0 ∧ tkP iv iv' a.toNatClampNeg b.toNatClampNeg by_ r ∧ (CRT iv rv → CRT iv' rv')) ∨ (spSeen a b by_ ≠ 0 ∧ r = spSeen a b by_ ∧ (∀ k : Nat, iv' 56 k 2 = iv 56 k 2 ∧ iv' 56 k 3 = iv 56 k 3) ∧ (CRT iv rv → CRT iv' rv'))))) 0 0 (Aq sz) := by
  refine mk_i (by decide) (Nat.le_of_ble_eq_true rfl) rfl ?_
  intro p e s m args below meth c ls Q H locs C hU hS hl hret
  have hx := C.1.1
  have hb := C.1.2.1
  have hl : lv_has ls 6 [(0, .ref (al.2 49 0)), (1, .int a), (2, .int b), (3, .int by_)] := hl
  have hG0 := hG
  have hF1 : FR ([51], [(56, 2), (56, 3), (52, 2), (62, 10), (62, 11), (62, 12), (62, 13)]) iv iv := FR.rf
  have hF2 : FR ([51], [(56, 2), (56, 3), (52, 2), (62, 10), (62, 11), (62, 12), (62, 13)]) rv rv := FR.rf
  have km600 : ((-600) : Int32).toInt = -600 := by decide
  have km6 : ((-6) : Int32).toInt = -6 := by decide
  have km4 : ((-4) : Int32).toInt = -4 := by decide
  have km1 : ((-1) : Int32).toInt = -1 := by decide
  have k0 : (0 : Int32).toInt = 0 := by decide
  have k1 : (1 : Int32).toInt = 1 := by decide
  have k600 : (600 : Int32).toInt = 600 := by decide
  refine lv_aload_n hx hb dX11_seen_0 rfl (lv_at hl 0 rfl) ?_
  refine g_49_0 C hU hG (h1_49 hG) fl_X11_10 dX11_seen_1 ?_
  refine lv_iload_n hx hb dX11_seen_4 rfl (lv_at hl 1 rfl) ?_
  refine q_pr (q_runV (t := 52) (i := 0) (As := [.int a]) (rest := []) C hU (c_X7_find hG a ) vm_X7_find ml_X11_81 k_52.1 (hc := rfl) rfl (h1_52 hG) hl.1 rfl rfl (Nat.le_of_ble_eq_true rfl) dX11_seen_5 rfl rfl ⟨Nat.le_of_ble_eq_true rfl, Nat.le_of_ble_eq_true rfl⟩ ⟨Nat.le_refl _, Nat.le_refl _⟩) hS (fun r_2 H locs hp_1 hU hS => ?_)
  have hb_3 := hp_1.1
  refine b_astore (lv' := [(4, rfv al 56 r_2), (0, .ref (al.2 49 0)), (1, .int a), (2, .int b), (3, .int by_)]) hx hb dX11_seen_8 hl (by decide) rfl (fun ls hl => ?_)
  refine lv_aload_n hx hb dX11_seen_10 rfl (lv_at hl 1 rfl) ?_
  refine g_49_0 C hU hG (h1_49 hG) fl_X11_10 dX11_seen_11 ?_
  refine lv_iload_n hx hb dX11_seen_14 rfl (lv_at hl 3 rfl) ?_
  refine q_pr (q_runV (t := 52) (i := 0) (As := [.int b]) (rest := []) C hU (c_X7_find hG b ) vm_X7_find ml_X11_81 k_52.1 (hc := rfl) rfl (h1_52 hG) hl.1 rfl rfl (Nat.le_of_ble_eq_true rfl) dX11_seen_15 rfl rfl ⟨Nat.le_of_ble_eq_true rfl, Nat.le_of_ble_eq_true rfl⟩ ⟨Nat.le_refl _, Nat.le_refl _⟩) hS (fun r_5 H locs hp_4 hU hS => ?_)
  have hb_6 := hp_4.1
  refine b_astore (lv' := [(5, rfv al 56 r_5), (4, rfv al 56 r_2), (0, .ref (al.2 49 0)), (1, .int a), (2, .int b), (3, .int by_)]) hx hb dX11_seen_18 hl (by decide) (by simp [List.filter_cons, rfv_cat]) (fun ls hl => ?_)
  refine b_aload (al := al) (t' := 56) (r := r_2) hx hb dX11_seen_20 (lv_at hl 1 rfl) ?_
  refine b_ifnull (tgt := 37) hx hb dX11_seen_22 (by decide) (fun ej_9 => ?_) (fun j_8 ej_9 => ?_)
  ·
    subst ej_9
    have hl : lv_has ls 6 [(5, rfv al 56 r_5), (4, rfv al 56 none), (0, .ref (al.2 49 0)), (1, .int a), (2, .int b), (3, .int by_)] := hl
    have hq4 := hp_1.2.2 rfl
    refine lv_aload_n hx hb dX11_seen_37 rfl (lv_at hl 2 rfl) ?_
    refine lv_iconst (v := (-1)) hx hb dX11_seen_38 (by decide) ?_
    refine q_fi (q_runV (t := 49) (i := 0) (As := [.int (-1)]) (rest := []) C hU (c_X11_refuse hG (-1) (by omega)) vm_X11_refuse ml_X11_77 k_49.1 (hc := rfl) rfl (h1_49 hG) hl.1 rfl rfl (Nat.le_of_ble_eq_true rfl) dX11_seen_39 rfl rfl ⟨Nat.le_of_ble_eq_true rfl, Nat.le_of_ble_eq_true rfl⟩ ⟨Nat.le_refl _, Nat.le_refl _⟩) hS (fun x_15 iv_11 rv_12 H locs hG fa_13 fb_14 hp_10 hU hS => ?_)
    have hF1 := hF1.tr (m := ([51], [(56, 2), (56, 3), (52, 2), (62, 10), (62, 11), (62, 12), (62, 13)])) fa_13 (by decide)
    have hF2 := hF2.tr (m := ([51], [(56, 2), (56, 3), (52, 2), (62, 10), (62, 11), (62, 12), (62, 13)])) fb_14 (by decide)
    exact hret (⟨hG, hF1, hF2, sp_no (z := (-1)) (by unfold spSeen; (repeat' split) <;> first | rfl | omega) (by decide) hp_10 (⟨fun k => ⟨fa_13 56 k 2 (by decide), fa_13 56 k 3 (by decide)⟩, crt_fr fa_13 fb_14 (by decide)⟩)⟩) hU hS dX11_seen_42
  ·
    subst ej_9
    have hl : lv_has ls 6 [(5, rfv al 56 r_5), (4, .ref (al.2 56 j_8)), (0, .ref (al.2 49 0)), (1, .int a), (2, .int b), (3, .int by_)] := hl
    have hb_16 : j_8 < al.1 56 := hb_3 j_8 rfl
    have hq4 := hp_1.2.1 _ rfl
    have hn4 := hq4.1
    rw [clamp_n] at hn4
    refine b_aload (al := al) (t' := 56) (r := r_5) hx hb dX11_seen_25 (lv_at hl 0 rfl) ?_
    refine b_ifnull (tgt := 37) hx hb dX11_seen_27 (by decide) (fun ej_19 => ?_) (fun j_18 ej_19 => ?_)
    ·
      subst ej_19
      have hl : lv_has ls 6 [(5, rfv al 56 none), (4, .ref (al.2 56 j_8)), (0, .ref (al.2 49 0)), (1, .int a), (2, .int b), (3, .int by_)] := hl
      have hq5 := hp_4.2.2 rfl
      refine lv_aload_n hx hb dX11_seen_37 rfl (lv_at hl 2 rfl) ?_
      refine lv_iconst (v := (-1)) hx hb dX11_seen_38 (by decide) ?_
      refine q_fi (q_runV (t := 49) (i := 0) (As := [.int (-1)]) (rest := []) C hU (c_X11_refuse hG (-1) (by omega)) vm_X11_refuse ml_X11_77 k_49.1 (hc := rfl) rfl (h1_49 hG) hl.1 rfl rfl (Nat.le_of_ble_eq_true rfl) dX11_seen_39 rfl rfl ⟨Nat.le_of_ble_eq_true rfl, Nat.le_of_ble_eq_true rfl⟩ ⟨Nat.le_refl _, Nat.le_refl _⟩) hS (fun x_25 iv_21 rv_22 H locs hG fa_23 fb_24 hp_20 hU hS => ?_)
      have hF1 := hF1.tr (m := ([51], [(56, 2), (56, 3), (52, 2), (62, 10), (62, 11), (62, 12), (62, 13)])) fa_23 (by decide)
      have hF2 := hF2.tr (m := ([51], [(56, 2), (56, 3), (52, 2), (62, 10), (62, 11), (62, 12), (62, 13)])) fb_24 (by decide)
      exact hret (⟨hG, hF1, hF2, sp_no (z := (-1)) (by unfold spSeen; (repeat' split) <;> first | rfl | omega) (by decide) hp_20 (⟨fun k => ⟨fa_23 56 k 2 (by decide), fa_23 56 k 3 (by decide)⟩, crt_fr fa_23 fb_24 (by decide)⟩)⟩) hU hS dX11_seen_42
    ·
      subst ej_19
      have hl : lv_has ls 6 [(5, .ref (al.2 56 j_18)), (4, .ref (al.2 56 j_8)), (0, .ref (al.2 49 0)), (1, .int a), (2, .int b), (3, .int by_)] := hl
      have hb_26 : j_18 < al.1 56 := hb_6 j_18 rfl
      have hq5 := hp_4.2.1 _ rfl
      have hn5 := hq5.1
      rw [clamp_n] at hn5
      refine lv_aload hx hb dX11_seen_30 (lv_at hl 1 rfl) ?_
      refine lv_aload hx hb dX11_seen_32 (lv_at hl 0 rfl) ?_
      refine b_acmp_ne (tgt := 43) hx hb hU hb_16 hb_26 dX11_seen_34 (by decide) (fun c_27 => ?_) (fun c_27 => ?_)
      ·
        refine lv_iload_n hx hb dX11_seen_43 rfl (lv_at hl 5 rfl) ?_
        refine lv_sipush (v := (-600)) hx hb dX11_seen_44 (by decide) ?_
        refine b_icmp_ge (tgt := 57) hx hb dX11_seen_47 (by decide) (fun c_28 => ?_) (fun c_28 => ?_)
        ·
          refine lv_iload_n hx hb dX11_seen_57 rfl (lv_at hl 5 rfl) ?_
          refine lv_sipush (v := 600) hx hb dX11_seen_58 (by decide) ?_
          refine b_icmp_le (tgt := 71) hx hb dX11_seen_61 (by decide) (fun c_29 => ?_) (fun c_29 => ?_)
          ·
            refine lv_aload_n hx hb dX11_seen_71 rfl (lv_at hl 2 rfl) ?_
            refine g_49_0 C hU hG (h1_49 hG) fl_X11_10 dX11_seen_72 ?_
            refine lv_aload hx hb dX11_seen_75 (lv_at hl 1 rfl) ?_
            refine lv_aload hx hb dX11_seen_77 (lv_at hl 0 rfl) ?_
            refine lv_iload_n hx hb dX11_seen_79 rfl (lv_at hl 5 rfl) ?_
            refine q_fi (q_runV (t := 52) (i := 0) (As := [.ref (al.2 56 j_8), .ref (al.2 56 j_18), .int by_]) (rest := []) C hU (c_X7_take_x hG (j_8) hb_16 (j_18) hb_26 by_ ) vm_X7_take ml_X11_102 k_52.1 (hc := rfl) rfl (h1_52 hG) hl.1 rfl rfl (Nat.le_of_ble_eq_true rfl) dX11_seen_80 rfl rfl ⟨Nat.le_of_ble_eq_true rfl, Nat.le_of_ble_eq_true rfl⟩ ⟨Nat.le_refl _, Nat.le_refl _⟩) hS (fun x_35 iv_31 rv_32 H locs hG fa_33 fb_34 hp_30 hU hS => ?_)
            have hF1 := hF1.tr (m := ([51], [(56, 2), (56, 3), (52, 2), (62, 10), (62, 11), (62, 12), (62, 13)])) fa_33 (by decide)
            have hF2 := hF2.tr (m := ([51], [(56, 2), (56, 3), (52, 2), (62, 10), (62, 11), (62, 12), (62, 13)])) fb_34 (by decide)
            refine b_if_ne (tgt := 88) hx hb dX11_seen_83 (by decide) (fun c_36 => ?_) (fun c_36 => ?_)
            ·
              refine lv_aload_n hx hb dX11_seen_88 rfl (lv_at hl 2 rfl) ?_
              refine g_49_1 C hU hG (h1_49 hG) fl_X11_19 dX11_seen_89 ?_
              refine q_fv (q_runV (t := 57) (i := 0) (As := []) (rest := []) C hU (c_X10_putRight_x hG  ) vm_X10_putRight ml_X11_106 k_57.1 (hc := rfl) rfl (h1_57 hG) hl.1 rfl rfl (Nat.le_of_ble_eq_true rfl) dX11_seen_92 rfl rfl ⟨Nat.le_of_ble_eq_true rfl, Nat.le_of_ble_eq_true rfl⟩ ⟨Nat.le_refl _, Nat.le_refl _⟩) hS (fun iv_38 rv_39 H locs hG fa_40 fb_41 hp_37 hU hS => ?_)
              have hF1 := hF1.tr (m := ([51], [(56, 2), (56, 3), (52, 2), (62, 10), (62, 11), (62, 12), (62, 13)])) fa_40 (by decide)
              have hF2 := hF2.tr (m := ([51], [(56, 2), (56, 3), (52, 2), (62, 10), (62, 11), (62, 12), (62, 13)])) fb_41 (by decide)
              refine lv_iconst (v := 1) hx hb dX11_seen_95 (by decide) ?_
              exact hret (⟨hG, hF1, hF2, Or.inl ⟨(by unfold spSeen; (repeat' split) <;> first | rfl | omega), tk_fr (by have z := hp_30.2; rw [hq4.1, hq5.1] at z; exact z) (by omega) fa_40, fun _ => hp_37⟩⟩) hU hS dX11_seen_96
            ·
              refine lv_iconst (v := 0) hx hb dX11_seen_86 (by decide) ?_
              exact hret (⟨hG, hF1, hF2, Or.inl ⟨(by unfold spSeen; (repeat' split) <;> first | rfl | omega), tk_r (by have z := hp_30.2; rw [hq4.1, hq5.1] at z; exact z) (by omega), fun h => crt_tk h hp_30.2 (by omega) fa_33 fb_34⟩⟩) hU hS dX11_seen_87
          ·
            refine lv_aload_n hx hb dX11_seen_64 rfl (lv_at hl 2 rfl) ?_
            refine lv_bipush (v := (-6)) hx hb dX11_seen_65 (by decide) ?_
            refine q_fi (q_runV (t := 49) (i := 0) (As := [.int (-6)]) (rest := []) C hU (c_X11_refuse hG (-6) (by omega)) vm_X11_refuse ml_X11_77 k_49.1 (hc := rfl) rfl (h1_49 hG) hl.1 rfl rfl (Nat.le_of_ble_eq_true rfl) dX11_seen_67 rfl rfl ⟨Nat.le_of_ble_eq_true rfl, Nat.le_of_ble_eq_true rfl⟩ ⟨Nat.le_refl _, Nat.le_refl _⟩) hS (fun x_47 iv_43 rv_44 H locs hG fa_45 fb_46 hp_42 hU hS => ?_)
            have hF1 := hF1.tr (m := ([51], [(56, 2), (56, 3), (52, 2), (62, 10), (62, 11), (62, 12), (62, 13)])) fa_45 (by decide)
            have hF2 := hF2.tr (m := ([51], [(56, 2), (56, 3), (52, 2), (62, 10), (62, 11), (62, 12), (62, 13)])) fb_46 (by decide)
            exact hret (⟨hG, hF1, hF2, sp_no (z := (-6)) (by unfold spSeen; (repeat' split) <;> first | rfl | omega) (by decide) hp_42 (⟨fun k => ⟨fa_45 56 k 2 (by decide), fa_45 56 k 3 (by decide)⟩, crt_fr fa_45 fb_46 (by decide)⟩)⟩) hU hS dX11_seen_70
        ·
          refine lv_aload_n hx hb dX11_seen_50 rfl (lv_at hl 2 rfl) ?_
          refine lv_bipush (v := (-4)) hx hb dX11_seen_51 (by decide) ?_
          refine q_fi (q_runV (t := 49) (i := 0) (As := [.int (-4)]) (rest := []) C hU (c_X11_refuse hG (-4) (by omega)) vm_X11_refuse ml_X11_77 k_49.1 (hc := rfl) rfl (h1_49 hG) hl.1 rfl rfl (Nat.le_of_ble_eq_true rfl) dX11_seen_53 rfl rfl ⟨Nat.le_of_ble_eq_true rfl, Nat.le_of_ble_eq_true rfl⟩ ⟨Nat.le_refl _, Nat.le_refl _⟩) hS (fun x_53 iv_49 rv_50 H locs hG fa_51 fb_52 hp_48 hU hS => ?_)
          have hF1 := hF1.tr (m := ([51], [(56, 2), (56, 3), (52, 2), (62, 10), (62, 11), (62, 12), (62, 13)])) fa_51 (by decide)
          have hF2 := hF2.tr (m := ([51], [(56, 2), (56, 3), (52, 2), (62, 10), (62, 11), (62, 12), (62, 13)])) fb_52 (by decide)
          exact hret (⟨hG, hF1, hF2, sp_no (z := (-4)) (by unfold spSeen; (repeat' split) <;> first | rfl | omega) (by decide) hp_48 (⟨fun k => ⟨fa_51 56 k 2 (by decide), fa_51 56 k 3 (by decide)⟩, crt_fr fa_51 fb_52 (by decide)⟩)⟩) hU hS dX11_seen_56
      ·
        refine lv_aload_n hx hb dX11_seen_37 rfl (lv_at hl 2 rfl) ?_
        refine lv_iconst (v := (-1)) hx hb dX11_seen_38 (by decide) ?_
        refine q_fi (q_runV (t := 49) (i := 0) (As := [.int (-1)]) (rest := []) C hU (c_X11_refuse hG (-1) (by omega)) vm_X11_refuse ml_X11_77 k_49.1 (hc := rfl) rfl (h1_49 hG) hl.1 rfl rfl (Nat.le_of_ble_eq_true rfl) dX11_seen_39 rfl rfl ⟨Nat.le_of_ble_eq_true rfl, Nat.le_of_ble_eq_true rfl⟩ ⟨Nat.le_refl _, Nat.le_refl _⟩) hS (fun x_59 iv_55 rv_56 H locs hG fa_57 fb_58 hp_54 hU hS => ?_)
        have hF1 := hF1.tr (m := ([51], [(56, 2), (56, 3), (52, 2), (62, 10), (62, 11), (62, 12), (62, 13)])) fa_57 (by decide)
        have hF2 := hF2.tr (m := ([51], [(56, 2), (56, 3), (52, 2), (62, 10), (62, 11), (62, 12), (62, 13)])) fb_58 (by decide)
        exact hret (⟨hG, hF1, hF2, sp_no (z := (-1)) (by unfold spSeen; (repeat' split) <;> first | rfl | omega) (by decide) hp_54 (⟨fun k => ⟨fa_57 56 k 2 (by decide), fa_57 56 k 3 (by decide)⟩, crt_fr fa_57 fb_58 (by decide)⟩)⟩) hU hS dX11_seen_42
set_option maxHeartbeats 4000000 in
set_option maxRecDepth 100000 in
theorem c_X12_leg_y {l : Launch} {D : va_G} {cA : FieldType → ClassId} {sz : Nat} {al : Al} {iv : Iv} {rv : Rv} (hG : GI al iv rv) (a : Int32) (b : Int32) (pp : Int32) (cc_ : Int32) (lv_ : Int32) (rr : Int32) : Met l yX12_leg (wd yX12_leg cX12_leg 7 (some .int)) (rm 2) (PcW D cA sz al iv rv [.ref (al.2 0 0), .int a, .int b, .int pp, .int cc_, .int lv_, .int rr]) (QI D cA sz al (fI al ([16, 5, 6, 7, 8, 9, 10], [(0, 6)]) iv rv (fun r iv' rv' => (spLeg a b pp cc_ lv_ rr (iv 0 0 6).toInt = 0 ∧ r.toInt = (iv 0 0 6).toInt ∧ (iv' 0 0 6).toInt = (iv 0 0 6).toInt + 1 ∧ lgM iv iv' a b pp cc_ lv_ rr) ∨ (spLeg a b pp cc_ lv_ rr (iv 0 0 6).toInt ≠ 0 ∧ r = spLeg a b pp cc_ lv_ rr (iv 0 0 6).toInt ∧ iv' 0 0 6 = iv 0 0 6 ∧ lgK iv iv')))) 0 0 (Aq sz) := by
  refine mk_i (by decide) (Nat.le_of_ble_eq_true rfl) rfl ?_
  intro p e s m args below meth c ls Q H locs C hU hS hl hret
  have hx := C.1.1
  have hb := C.1.2.1
  have hl : lv_has ls 7 [(0, .ref (al.2 0 0)), (1, .int a), (2, .int b), (3, .int pp), (4, .int cc_), (5, .int lv_), (6, .int rr)] := hl
  have hG0 := hG
  have h6 := le6 hG
  have h20 := le20 hG
  have h41 := le41 hG
  have hF1 : FR ([16, 5, 6, 7, 8, 9, 10], [(0, 6)]) iv iv := FR.rf
  have hF2 : FR ([16, 5, 6, 7, 8, 9, 10], [(0, 6)]) rv rv := FR.rf
  have km6 : ((-6) : Int32).toInt = -6 := by decide
  have km4 : ((-4) : Int32).toInt = -4 := by decide
  have km1 : ((-1) : Int32).toInt = -1 := by decide
  have k0 : (0 : Int32).toInt = 0 := by decide
  have k1 : (1 : Int32).toInt = 1 := by decide
  have k5 : (5 : Int32).toInt = 5 := by decide
  have k40 : (40 : Int32).toInt = 40 := by decide
  have k20000 : (20000 : Int32).toInt = 20000 := by decide
  refine lv_iload_n hx hb dX12_leg_0 rfl (lv_at hl 1 rfl) ?_
  refine q_pi (q_runS (As := [.int a]) (rest := []) C hU (c_X12_isPort  a ) sm_X12_isPort ml_X12_171 hl.1 rfl rfl (Nat.le_of_ble_eq_true rfl) dX12_leg_1 rfl rfl ⟨Nat.le_of_ble_eq_true rfl, Nat.le_of_ble_eq_true rfl⟩ ⟨Nat.le_refl _, Nat.le_refl _⟩) hS (fun x_2 H locs hp_1 hU hS => ?_)
  refine b_if_eq (tgt := 38) hx hb dX12_leg_4 (by decide) (fun c_3 => ?_) (fun c_3 => ?_)
  ·
    refine lv_aload_n hx hb dX12_leg_38 rfl (lv_at hl 0 rfl) ?_
    refine lv_iconst (v := (-1)) hx hb dX12_leg_39 (by decide) ?_
    refine q_fi (q_runV (t := 0) (i := 0) (As := [.int (-1)]) (rest := []) C hU (c_X12_refuse hG (-1) (by omega)) vm_X12_refuse ml_X12_164 k_0.1 (hc := rfl) rfl (h1_0 hG) hl.1 rfl rfl (Nat.le_of_ble_eq_true rfl) dX12_leg_40 rfl rfl ⟨Nat.le_of_ble_eq_true rfl, Nat.le_of_ble_eq_true rfl⟩ ⟨Nat.le_refl _, Nat.le_refl _⟩) hS (fun x_9 iv_5 rv_6 H locs hG fa_7 fb_8 hp_4 hU hS => ?_)
    have hF1 := hF1.tr (m := ([16, 5, 6, 7, 8, 9, 10], [(0, 6)])) fa_7 (by decide)
    have hF2 := hF2.tr (m := ([16, 5, 6, 7, 8, 9, 10], [(0, 6)])) fb_8 (by decide)
    exact hret (⟨hG, hF1, hF2, sp_no (z := (-1)) (by unfold spLeg; (repeat' split) <;> first | rfl | omega) (by decide) hp_4 (⟨fa_7 0 0 6 (by decide), lg_fr fa_7 (by decide)⟩)⟩) hU hS dX12_leg_43
  ·
    refine lv_iload_n hx hb dX12_leg_7 rfl (lv_at hl 2 rfl) ?_
    refine q_pi (q_runS (As := [.int b]) (rest := []) C hU (c_X12_isPort  b ) sm_X12_isPort ml_X12_171 hl.1 rfl rfl (Nat.le_of_ble_eq_true rfl) dX12_leg_8 rfl rfl ⟨Nat.le_of_ble_eq_true rfl, Nat.le_of_ble_eq_true rfl⟩ ⟨Nat.le_refl _, Nat.le_refl _⟩) hS (fun x_11 H locs hp_10 hU hS => ?_)
    refine b_if_eq (tgt := 38) hx hb dX12_leg_11 (by decide) (fun c_12 => ?_) (fun c_12 => ?_)
    ·
      refine lv_aload_n hx hb dX12_leg_38 rfl (lv_at hl 0 rfl) ?_
      refine lv_iconst (v := (-1)) hx hb dX12_leg_39 (by decide) ?_
      refine q_fi (q_runV (t := 0) (i := 0) (As := [.int (-1)]) (rest := []) C hU (c_X12_refuse hG (-1) (by omega)) vm_X12_refuse ml_X12_164 k_0.1 (hc := rfl) rfl (h1_0 hG) hl.1 rfl rfl (Nat.le_of_ble_eq_true rfl) dX12_leg_40 rfl rfl ⟨Nat.le_of_ble_eq_true rfl, Nat.le_of_ble_eq_true rfl⟩ ⟨Nat.le_refl _, Nat.le_refl _⟩) hS (fun x_18 iv_14 rv_15 H locs hG fa_16 fb_17 hp_13 hU hS => ?_)
      have hF1 := hF1.tr (m := ([16, 5, 6, 7, 8, 9, 10], [(0, 6)])) fa_16 (by decide)
      have hF2 := hF2.tr (m := ([16, 5, 6, 7, 8, 9, 10], [(0, 6)])) fb_17 (by decide)
      exact hret (⟨hG, hF1, hF2, sp_no (z := (-1)) (by unfold spLeg; (repeat' split) <;> first | rfl | omega) (by decide) hp_13 (⟨fa_16 0 0 6 (by decide), lg_fr fa_16 (by decide)⟩)⟩) hU hS dX12_leg_43
    ·
      refine lv_iload_n hx hb dX12_leg_14 rfl (lv_at hl 1 rfl) ?_
      refine lv_iload_n hx hb dX12_leg_15 rfl (lv_at hl 2 rfl) ?_
      refine b_icmp_eq (tgt := 38) hx hb dX12_leg_16 (by decide) (fun c_19 => ?_) (fun c_19 => ?_)
      ·
        refine lv_aload_n hx hb dX12_leg_38 rfl (lv_at hl 0 rfl) ?_
        refine lv_iconst (v := (-1)) hx hb dX12_leg_39 (by decide) ?_
        refine q_fi (q_runV (t := 0) (i := 0) (As := [.int (-1)]) (rest := []) C hU (c_X12_refuse hG (-1) (by omega)) vm_X12_refuse ml_X12_164 k_0.1 (hc := rfl) rfl (h1_0 hG) hl.1 rfl rfl (Nat.le_of_ble_eq_true rfl) dX12_leg_40 rfl rfl ⟨Nat.le_of_ble_eq_true rfl, Nat.le_of_ble_eq_true rfl⟩ ⟨Nat.le_refl _, Nat.le_refl _⟩) hS (fun x_25 iv_21 rv_22 H locs hG fa_23 fb_24 hp_20 hU hS => ?_)
        have hF1 := hF1.tr (m := ([16, 5, 6, 7, 8, 9, 10], [(0, 6)])) fa_23 (by decide)
        have hF2 := hF2.tr (m := ([16, 5, 6, 7, 8, 9, 10], [(0, 6)])) fb_24 (by decide)
        exact hret (⟨hG, hF1, hF2, sp_no (z := (-1)) (by unfold spLeg; (repeat' split) <;> first | rfl | omega) (by decide) hp_20 (⟨fa_23 0 0 6 (by decide), lg_fr fa_23 (by decide)⟩)⟩) hU hS dX12_leg_43
      ·
        refine lv_iload_n hx hb dX12_leg_19 rfl (lv_at hl 3 rfl) ?_
        refine lv_iconst (v := 0) hx hb dX12_leg_20 (by decide) ?_
        refine lv_iconst (v := 5) hx hb dX12_leg_21 (by decide) ?_
        refine q_pi (q_runS (As := [.int pp, .int 0, .int 5]) (rest := []) C hU (c_X12_in  pp 0 5 ) sm_X12_in ml_X12_156 hl.1 rfl rfl (Nat.le_of_ble_eq_true rfl) dX12_leg_22 rfl rfl ⟨Nat.le_of_ble_eq_true rfl, Nat.le_of_ble_eq_true rfl⟩ ⟨Nat.le_refl _, Nat.le_refl _⟩) hS (fun x_27 H locs hp_26 hU hS => ?_)
        refine b_if_eq (tgt := 38) hx hb dX12_leg_25 (by decide) (fun c_28 => ?_) (fun c_28 => ?_)
        ·
          refine lv_aload_n hx hb dX12_leg_38 rfl (lv_at hl 0 rfl) ?_
          refine lv_iconst (v := (-1)) hx hb dX12_leg_39 (by decide) ?_
          refine q_fi (q_runV (t := 0) (i := 0) (As := [.int (-1)]) (rest := []) C hU (c_X12_refuse hG (-1) (by omega)) vm_X12_refuse ml_X12_164 k_0.1 (hc := rfl) rfl (h1_0 hG) hl.1 rfl rfl (Nat.le_of_ble_eq_true rfl) dX12_leg_40 rfl rfl ⟨Nat.le_of_ble_eq_true rfl, Nat.le_of_ble_eq_true rfl⟩ ⟨Nat.le_refl _, Nat.le_refl _⟩) hS (fun x_34 iv_30 rv_31 H locs hG fa_32 fb_33 hp_29 hU hS => ?_)
          have hF1 := hF1.tr (m := ([16, 5, 6, 7, 8, 9, 10], [(0, 6)])) fa_32 (by decide)
          have hF2 := hF2.tr (m := ([16, 5, 6, 7, 8, 9, 10], [(0, 6)])) fb_33 (by decide)
          exact hret (⟨hG, hF1, hF2, sp_no (z := (-1)) (by unfold spLeg; (repeat' split) <;> first | rfl | omega) (by decide) hp_29 (⟨fa_32 0 0 6 (by decide), lg_fr fa_32 (by decide)⟩)⟩) hU hS dX12_leg_43
        ·
          refine lv_iload hx hb dX12_leg_28 (lv_at hl 4 rfl) ?_
          refine lv_iconst (v := 0) hx hb dX12_leg_30 (by decide) ?_
          refine lv_iconst (v := 5) hx hb dX12_leg_31 (by decide) ?_
          refine q_pi (q_runS (As := [.int cc_, .int 0, .int 5]) (rest := []) C hU (c_X12_in  cc_ 0 5 ) sm_X12_in ml_X12_156 hl.1 rfl rfl (Nat.le_of_ble_eq_true rfl) dX12_leg_32 rfl rfl ⟨Nat.le_of_ble_eq_true rfl, Nat.le_of_ble_eq_true rfl⟩ ⟨Nat.le_refl _, Nat.le_refl _⟩) hS (fun x_36 H locs hp_35 hU hS => ?_)
          refine b_if_ne (tgt := 44) hx hb dX12_leg_35 (by decide) (fun c_37 => ?_) (fun c_37 => ?_)
          ·
            refine lv_iload hx hb dX12_leg_44 (lv_at hl 5 rfl) ?_
            refine b_if_lt (tgt := 56) hx hb dX12_leg_46 (by decide) (fun c_38 => ?_) (fun c_38 => ?_)
            ·
              refine lv_aload_n hx hb dX12_leg_56 rfl (lv_at hl 0 rfl) ?_
              refine lv_bipush (v := (-4)) hx hb dX12_leg_57 (by decide) ?_
              refine q_fi (q_runV (t := 0) (i := 0) (As := [.int (-4)]) (rest := []) C hU (c_X12_refuse hG (-4) (by omega)) vm_X12_refuse ml_X12_164 k_0.1 (hc := rfl) rfl (h1_0 hG) hl.1 rfl rfl (Nat.le_of_ble_eq_true rfl) dX12_leg_59 rfl rfl ⟨Nat.le_of_ble_eq_true rfl, Nat.le_of_ble_eq_true rfl⟩ ⟨Nat.le_refl _, Nat.le_refl _⟩) hS (fun x_44 iv_40 rv_41 H locs hG fa_42 fb_43 hp_39 hU hS => ?_)
              have hF1 := hF1.tr (m := ([16, 5, 6, 7, 8, 9, 10], [(0, 6)])) fa_42 (by decide)
              have hF2 := hF2.tr (m := ([16, 5, 6, 7, 8, 9, 10], [(0, 6)])) fb_43 (by decide)
              exact hret (⟨hG, hF1, hF2, sp_no (z := (-4)) (by unfold spLeg; (repeat' split) <;> first | rfl | omega) (by decide) hp_39 (⟨fa_42 0 0 6 (by decide), lg_fr fa_42 (by decide)⟩)⟩) hU hS dX12_leg_62
            ·
              refine lv_iload hx hb dX12_leg_49 (lv_at hl 6 rfl) ?_
              refine lv_iload hx hb dX12_leg_51 (lv_at hl 5 rfl) ?_
              refine b_icmp_gt (tgt := 63) hx hb dX12_leg_53 (by decide) (fun c_45 => ?_) (fun c_45 => ?_)
              ·
                refine lv_iload hx hb dX12_leg_63 (lv_at hl 6 rfl) ?_
                refine lv_sipush (v := 20000) hx hb dX12_leg_65 (by decide) ?_
                refine b_icmp_gt (tgt := 80) hx hb dX12_leg_68 (by decide) (fun c_46 => ?_) (fun c_46 => ?_)
                ·
                  refine lv_aload_n hx hb dX12_leg_80 rfl (lv_at hl 0 rfl) ?_
                  refine lv_bipush (v := (-6)) hx hb dX12_leg_81 (by decide) ?_
                  refine q_fi (q_runV (t := 0) (i := 0) (As := [.int (-6)]) (rest := []) C hU (c_X12_refuse hG (-6) (by omega)) vm_X12_refuse ml_X12_164 k_0.1 (hc := rfl) rfl (h1_0 hG) hl.1 rfl rfl (Nat.le_of_ble_eq_true rfl) dX12_leg_83 rfl rfl ⟨Nat.le_of_ble_eq_true rfl, Nat.le_of_ble_eq_true rfl⟩ ⟨Nat.le_refl _, Nat.le_refl _⟩) hS (fun x_52 iv_48 rv_49 H locs hG fa_50 fb_51 hp_47 hU hS => ?_)
                  have hF1 := hF1.tr (m := ([16, 5, 6, 7, 8, 9, 10], [(0, 6)])) fa_50 (by decide)
                  have hF2 := hF2.tr (m := ([16, 5, 6, 7, 8, 9, 10], [(0, 6)])) fb_51 (by decide)
                  exact hret (⟨hG, hF1, hF2, sp_no (z := (-6)) (by unfold spLeg; (repeat' split) <;> first | rfl | omega) (by decide) hp_47 (⟨fa_50 0 0 6 (by decide), lg_fr fa_50 (by decide)⟩)⟩) hU hS dX12_leg_86
                ·
                  refine lv_aload_n hx hb dX12_leg_71 rfl (lv_at hl 0 rfl) ?_
                  refine g_0_6 C hU hG (h1_0 hG) fl_X12_160 dX12_leg_72 (fun x_53 e_54 le_54 ue_54 => ?_)
                  have te_54 := congrArg Int32.toInt e_54
                  refine lv_bipush (v := 40) hx hb dX12_leg_75 (by decide) ?_
                  refine b_icmp_ne (tgt := 87) hx hb dX12_leg_77 (by decide) (fun c_55 => ?_) (fun c_55 => ?_)
                  ·
                    refine lv_aload_n hx hb dX12_leg_87 rfl (lv_at hl 0 rfl) ?_
                    refine g_0_7 C hU hG (h1_0 hG) fl_X12_22 dX12_leg_88 ?_
                    refine lv_aload_n hx hb dX12_leg_91 rfl (lv_at hl 0 rfl) ?_
                    refine g_0_6 C hU hG (h1_0 hG) fl_X12_160 dX12_leg_92 (fun x_56 e_57 le_57 ue_57 => ?_)
                    have te_57 := congrArg Int32.toInt e_57
                    refine lv_iload_n hx hb dX12_leg_95 rfl (lv_at hl 1 rfl) ?_
                    refine s_5 C hU hS (h1_5 hG) (x := x_56) (by omega) (by omega) dX12_leg_96 (fun iv_58 H locs ei_59 hU hS => ?_)
                    have hG : GI al iv_58 rv := by rw [ei_59]; exact hG.puti (show _ ∧ _ from ⟨show (0 : Int) ≤ _ by omega, show _ ≤ (9 : Int) by omega⟩) (nsA (by decide) _)
                    have hF1 : FR ([16, 5, 6, 7, 8, 9, 10], [(0, 6)]) iv iv_58 := by rw [ei_59]; exact hF1.put (Or.inl (by decide))
                    have kf_60 := congrArg Int32.toInt (show iv_58 0 0 6 = iv 0 0 6 by rw [ei_59]; exact up3_ne (fun z => absurd z.1 (by decide)))
                    refine lv_aload_n hx hb dX12_leg_97 rfl (lv_at hl 0 rfl) ?_
                    refine g_0_8 C hU hG (h1_0 hG) fl_X12_25 dX12_leg_98 ?_
                    refine lv_aload_n hx hb dX12_leg_101 rfl (lv_at hl 0 rfl) ?_
                    refine g_0_6 C hU hG (h1_0 hG) fl_X12_160 dX12_leg_102 (fun x_61 e_62 le_62 ue_62 => ?_)
                    have te_62 := congrArg Int32.toInt e_62
                    refine lv_iload_n hx hb dX12_leg_105 rfl (lv_at hl 2 rfl) ?_
                    refine s_6 C hU hS (h1_6 hG) (x := x_61) (by omega) (by omega) dX12_leg_106 (fun iv_63 H locs ei_64 hU hS => ?_)
                    have hG : GI al iv_63 rv := by rw [ei_64]; exact hG.puti (show _ ∧ _ from ⟨show (0 : Int) ≤ _ by omega, show _ ≤ (9 : Int) by omega⟩) (nsA (by decide) _)
                    have hF1 : FR ([16, 5, 6, 7, 8, 9, 10], [(0, 6)]) iv iv_63 := by rw [ei_64]; exact hF1.put (Or.inl (by decide))
                    have kf_65 := congrArg Int32.toInt (show iv_63 0 0 6 = iv_58 0 0 6 by rw [ei_64]; exact up3_ne (fun z => absurd z.1 (by decide)))
                    refine lv_aload_n hx hb dX12_leg_107 rfl (lv_at hl 0 rfl) ?_
                    refine g_0_9 C hU hG (h1_0 hG) fl_X12_28 dX12_leg_108 ?_
                    refine lv_aload_n hx hb dX12_leg_111 rfl (lv_at hl 0 rfl) ?_
                    refine g_0_6 C hU hG (h1_0 hG) fl_X12_160 dX12_leg_112 (fun x_66 e_67 le_67 ue_67 => ?_)
                    have te_67 := congrArg Int32.toInt e_67
                    refine lv_iload_n hx hb dX12_leg_115 rfl (lv_at hl 3 rfl) ?_
                    refine s_7 C hU hS (h1_7 hG) (x := x_66) (by omega) (by omega) dX12_leg_116 (fun iv_68 H locs ei_69 hU hS => ?_)
                    have hG : GI al iv_68 rv := by rw [ei_69]; exact hG.puti (show _ ∧ _ from ⟨(fb_rng _).1, Int.le_of_lt_add_one (fb_rng _).2⟩) (nsA (by decide) _)
                    have hF1 : FR ([16, 5, 6, 7, 8, 9, 10], [(0, 6)]) iv iv_68 := by rw [ei_69]; exact hF1.put (Or.inl (by decide))
                    have kf_70 := congrArg Int32.toInt (show iv_68 0 0 6 = iv_63 0 0 6 by rw [ei_69]; exact up3_ne (fun z => absurd z.1 (by decide)))
                    refine lv_aload_n hx hb dX12_leg_117 rfl (lv_at hl 0 rfl) ?_
                    refine g_0_10 C hU hG (h1_0 hG) fl_X12_31 dX12_leg_118 ?_
                    refine lv_aload_n hx hb dX12_leg_121 rfl (lv_at hl 0 rfl) ?_
                    refine g_0_6 C hU hG (h1_0 hG) fl_X12_160 dX12_leg_122 (fun x_71 e_72 le_72 ue_72 => ?_)
                    have te_72 := congrArg Int32.toInt e_72
                    refine lv_iload hx hb dX12_leg_125 (lv_at hl 4 rfl) ?_
                    refine s_8 C hU hS (h1_8 hG) (x := x_71) (by omega) (by omega) dX12_leg_127 (fun iv_73 H locs ei_74 hU hS => ?_)
                    have hG : GI al iv_73 rv := by rw [ei_74]; exact hG.puti (show _ ∧ _ from ⟨(fb_rng _).1, Int.le_of_lt_add_one (fb_rng _).2⟩) (nsA (by decide) _)
                    have hF1 : FR ([16, 5, 6, 7, 8, 9, 10], [(0, 6)]) iv iv_73 := by rw [ei_74]; exact hF1.put (Or.inl (by decide))
                    have kf_75 := congrArg Int32.toInt (show iv_73 0 0 6 = iv_68 0 0 6 by rw [ei_74]; exact up3_ne (fun z => absurd z.1 (by decide)))
                    refine lv_aload_n hx hb dX12_leg_128 rfl (lv_at hl 0 rfl) ?_
                    refine g_0_11 C hU hG (h1_0 hG) fl_X12_34 dX12_leg_129 ?_
                    refine lv_aload_n hx hb dX12_leg_132 rfl (lv_at hl 0 rfl) ?_
                    refine g_0_6 C hU hG (h1_0 hG) fl_X12_160 dX12_leg_133 (fun x_76 e_77 le_77 ue_77 => ?_)
                    have te_77 := congrArg Int32.toInt e_77
                    refine lv_iload hx hb dX12_leg_136 (lv_at hl 5 rfl) ?_
                    refine s_9 C hU hS (h1_9 hG) (x := x_76) (by omega) (by omega) dX12_leg_138 (fun iv_78 H locs ei_79 hU hS => ?_)
                    have hG : GI al iv_78 rv := by rw [ei_79]; exact hG.put9 ⟨by omega, by omega⟩ (by omega) (by omega)
                    have hF1 : FR ([16, 5, 6, 7, 8, 9, 10], [(0, 6)]) iv iv_78 := by rw [ei_79]; exact hF1.put (Or.inl (by decide))
                    have kf_80 := congrArg Int32.toInt (show iv_78 0 0 6 = iv_73 0 0 6 by rw [ei_79]; exact up3_ne (fun z => absurd z.1 (by decide)))
                    refine lv_aload_n hx hb dX12_leg_139 rfl (lv_at hl 0 rfl) ?_
                    refine g_0_12 C hU hG (h1_0 hG) fl_X12_37 dX12_leg_140 ?_
                    refine lv_aload_n hx hb dX12_leg_143 rfl (lv_at hl 0 rfl) ?_
                    refine g_0_6 C hU hG (h1_0 hG) fl_X12_160 dX12_leg_144 (fun x_81 e_82 le_82 ue_82 => ?_)
                    have te_82 := congrArg Int32.toInt e_82
                    refine lv_iload hx hb dX12_leg_147 (lv_at hl 6 rfl) ?_
                    refine s_10 C hU hS (h1_10 hG) (x := x_81) (by omega) (by omega) dX12_leg_149 (fun iv_83 H locs ei_84 hU hS => ?_)
                    have hG : GI al iv_83 rv := by rw [ei_84]; exact hG.put10 ⟨by omega, by omega⟩ (by omega) (by omega)
                    have hF1 : FR ([16, 5, 6, 7, 8, 9, 10], [(0, 6)]) iv iv_83 := by rw [ei_84]; exact hF1.put (Or.inl (by decide))
                    have kf_85 := congrArg Int32.toInt (show iv_83 0 0 6 = iv_78 0 0 6 by rw [ei_84]; exact up3_ne (fun z => absurd z.1 (by decide)))
                    refine lv_aload_n hx hb dX12_leg_150 rfl (lv_at hl 0 rfl) ?_
                    refine lv_dup hx hb dX12_leg_151 rfl ?_
                    refine g_0_6 C hU hG (h1_0 hG) fl_X12_160 dX12_leg_152 (fun x_86 e_87 le_87 ue_87 => ?_)
                    have te_87 := congrArg Int32.toInt e_87
                    have a1 : iv_83 10 0 x_86.toNatClampNeg = rr := by rw [ei_84, clamp_eq (show x_86.toInt = x_81.toInt by omega)]; exact up3_self _ _ _ _ _
                    have a2 : iv_83 9 0 x_86.toNatClampNeg = lv_ := by rw [ei_84, up3_ne (fun z => absurd z.1 (by decide)), ei_79, clamp_eq (show x_86.toInt = x_76.toInt by omega)]; exact up3_self _ _ _ _ _
                    refine lv_iconst (v := 1) hx hb dX12_leg_155 (by decide) ?_
                    refine lv_iadd hx hb dX12_leg_156 ?_
                    refine lv_topi (fun x_88 e_89 => ?_)
                    have te_89 : x_88.toInt = (x_86 : Int32).toInt + (1 : Int32).toInt := by rw [e_89]; exact fb_addI (by omega) (by omega)
                    refine p_0_6 C hU hS (h1_0 hG) fl_X12_160 dX12_leg_157 (fun iv_90 H locs ei_91 hU hS => ?_)
                    have hG : GI al iv_90 rv := by rw [ei_91]; exact hG.put6 (x := x_86) ⟨by omega, by omega⟩ (by omega) (by omega) (by rw [a1, a2]; omega)
                    have hF1 : FR ([16, 5, 6, 7, 8, 9, 10], [(0, 6)]) iv iv_90 := by rw [ei_91]; exact hF1.put (by decide)
                    refine lv_aload_n hx hb dX12_leg_160 rfl (lv_at hl 0 rfl) ?_
                    refine g_0_6 C hU hG (h1_0 hG) fl_X12_160 dX12_leg_161 (fun x_92 e_93 le_93 ue_93 => ?_)
                    have te_93 := congrArg Int32.toInt e_93
                    have hz_ := e_93
                    rw [ei_91, up3_self] at hz_
                    have tz_ := congrArg Int32.toInt hz_
                    refine lv_iconst (v := 1) hx hb dX12_leg_164 (by decide) ?_
                    refine lv_isub hx hb dX12_leg_165 ?_
                    refine lv_topi (fun x_94 e_95 => ?_)
                    have te_95 : x_94.toInt = (x_92 : Int32).toInt - (1 : Int32).toInt := by rw [e_95]; exact fb_subI (by omega) (by omega)
                    exact hret (⟨hG, hF1, hF2, Or.inl ⟨(by unfold spLeg; (repeat' split) <;> first | rfl | omega), by omega, by rw [ei_91, up3_self]; omega, lg_ok ei_59 ei_64 ei_69 ei_74 ei_79 ei_84 ei_91 (by omega) (by omega) (by omega) (by omega) (by omega) (by omega)⟩⟩) hU hS dX12_leg_166
                  ·
                    refine lv_aload_n hx hb dX12_leg_80 rfl (lv_at hl 0 rfl) ?_
                    refine lv_bipush (v := (-6)) hx hb dX12_leg_81 (by decide) ?_
                    refine q_fi (q_runV (t := 0) (i := 0) (As := [.int (-6)]) (rest := []) C hU (c_X12_refuse hG (-6) (by omega)) vm_X12_refuse ml_X12_164 k_0.1 (hc := rfl) rfl (h1_0 hG) hl.1 rfl rfl (Nat.le_of_ble_eq_true rfl) dX12_leg_83 rfl rfl ⟨Nat.le_of_ble_eq_true rfl, Nat.le_of_ble_eq_true rfl⟩ ⟨Nat.le_refl _, Nat.le_refl _⟩) hS (fun x_101 iv_97 rv_98 H locs hG fa_99 fb_100 hp_96 hU hS => ?_)
                    have hF1 := hF1.tr (m := ([16, 5, 6, 7, 8, 9, 10], [(0, 6)])) fa_99 (by decide)
                    have hF2 := hF2.tr (m := ([16, 5, 6, 7, 8, 9, 10], [(0, 6)])) fb_100 (by decide)
                    exact hret (⟨hG, hF1, hF2, sp_no (z := (-6)) (by unfold spLeg; (repeat' split) <;> first | rfl | omega) (by decide) hp_96 (⟨fa_99 0 0 6 (by decide), lg_fr fa_99 (by decide)⟩)⟩) hU hS dX12_leg_86
              ·
                refine lv_aload_n hx hb dX12_leg_56 rfl (lv_at hl 0 rfl) ?_
                refine lv_bipush (v := (-4)) hx hb dX12_leg_57 (by decide) ?_
                refine q_fi (q_runV (t := 0) (i := 0) (As := [.int (-4)]) (rest := []) C hU (c_X12_refuse hG (-4) (by omega)) vm_X12_refuse ml_X12_164 k_0.1 (hc := rfl) rfl (h1_0 hG) hl.1 rfl rfl (Nat.le_of_ble_eq_true rfl) dX12_leg_59 rfl rfl ⟨Nat.le_of_ble_eq_true rfl, Nat.le_of_ble_eq_true rfl⟩ ⟨Nat.le_refl _, Nat.le_refl _⟩) hS (fun x_107 iv_103 rv_104 H locs hG fa_105 fb_106 hp_102 hU hS => ?_)
                have hF1 := hF1.tr (m := ([16, 5, 6, 7, 8, 9, 10], [(0, 6)])) fa_105 (by decide)
                have hF2 := hF2.tr (m := ([16, 5, 6, 7, 8, 9, 10], [(0, 6)])) fb_106 (by decide)
                exact hret (⟨hG, hF1, hF2, sp_no (z := (-4)) (by unfold spLeg; (repeat' split) <;> first | rfl | omega) (by decide) hp_102 (⟨fa_105 0 0 6 (by decide), lg_fr fa_105 (by decide)⟩)⟩) hU hS dX12_leg_62
          ·
            refine lv_aload_n hx hb dX12_leg_38 rfl (lv_at hl 0 rfl) ?_
            refine lv_iconst (v := (-1)) hx hb dX12_leg_39 (by decide) ?_
            refine q_fi (q_runV (t := 0) (i := 0) (As := [.int (-1)]) (rest := []) C hU (c_X12_refuse hG (-1) (by omega)) vm_X12_refuse ml_X12_164 k_0.1 (hc := rfl) rfl (h1_0 hG) hl.1 rfl rfl (Nat.le_of_ble_eq_true rfl) dX12_leg_40 rfl rfl ⟨Nat.le_of_ble_eq_true rfl, Nat.le_of_ble_eq_true rfl⟩ ⟨Nat.le_refl _, Nat.le_refl _⟩) hS (fun x_113 iv_109 rv_110 H locs hG fa_111 fb_112 hp_108 hU hS => ?_)
            have hF1 := hF1.tr (m := ([16, 5, 6, 7, 8, 9, 10], [(0, 6)])) fa_111 (by decide)
            have hF2 := hF2.tr (m := ([16, 5, 6, 7, 8, 9, 10], [(0, 6)])) fb_112 (by decide)
            exact hret (⟨hG, hF1, hF2, sp_no (z := (-1)) (by unfold spLeg; (repeat' split) <;> first | rfl | omega) (by decide) hp_108 (⟨fa_111 0 0 6 (by decide), lg_fr fa_111 (by decide)⟩)⟩) hU hS dX12_leg_43
end
