set_option maxHeartbeats 4000000 in
set_option maxRecDepth 100000 in
theorem c_X12_set_x {l : Launch} {D : va_G} {cA : FieldType → ClassId} {sz : Nat} {al : Al} {iv : Iv} {rv : Rv} (hG : GI al iv rv) (what : Int32) (v : Int32) : Met l yX12_set (wd yX12_set cX12_set 4 (some .int)) (rm 1) (PcW D cA sz al iv rv [.ref (al.2 0 0), .int what, .int v]) (QI D cA sz al (fI al ([16, 15], []) iv rv (fun r iv' rv' => (spSet what v = 0 ∧ r = iv 15 0 what.toNatClampNeg ∧ ∀ k, iv' 15 0 k = if k = what.toNatClampNeg then v else iv 15 0 k) ∨ (spSet what v ≠ 0 ∧ r = spSet what v ∧ ∀ k, iv' 15 0 k = iv 15 0 k)))) 0 0 (Aq sz) := by
  refine mk_i (by decide) (Nat.le_of_ble_eq_true rfl) rfl ?_
  intro p e s m args below meth c ls Q H locs C hU hS hl hret
  have hx := C.1.1
  have hb := C.1.2.1
  have hl : lv_has ls 4 [(0, .ref (al.2 0 0)), (1, .int what), (2, .int v)] := hl
  have hG0 := hG
  have h6 := le6 hG
  have h20 := le20 hG
  have h41 := le41 hG
  have hF1 : FR ([16, 15], []) iv iv := FR.rf
  have hF2 : FR ([16, 15], []) rv rv := FR.rf
  have km6 : ((-6) : Int32).toInt = -6 := by decide
  have km4 : ((-4) : Int32).toInt = -4 := by decide
  have km2 : ((-2) : Int32).toInt = -2 := by decide
  have k0 : (0 : Int32).toInt = 0 := by decide
  have k1 : (1 : Int32).toInt = 1 := by decide
  have k2 : (2 : Int32).toInt = 2 := by decide
  have k3 : (3 : Int32).toInt = 3 := by decide
  have k9 : (9 : Int32).toInt = 9 := by decide
  have k200 : (200 : Int32).toInt = 200 := by decide
  have k300 : (300 : Int32).toInt = 300 := by decide
  have k900 : (900 : Int32).toInt = 900 := by decide
  refine lv_iload_n hx hb dX12_set_0 rfl (lv_at hl 1 rfl) ?_
  refine lv_iconst (v := 0) hx hb dX12_set_1 (by decide) ?_
  refine lv_iconst (v := 3) hx hb dX12_set_2 (by decide) ?_
  refine q_pi (q_runS (As := [.int what, .int 0, .int 3]) (rest := []) C hU (c_X12_in  what 0 3 ) sm_X12_in ml_X12_156 hl.1 rfl rfl (Nat.le_of_ble_eq_true rfl) dX12_set_3 rfl rfl ⟨Nat.le_of_ble_eq_true rfl, Nat.le_of_ble_eq_true rfl⟩ ⟨Nat.le_refl _, Nat.le_refl _⟩) hS (fun x_2 H locs hp_1 hU hS => ?_)
  refine b_if_ne (tgt := 16) hx hb dX12_set_6 (by decide) (fun c_3 => ?_) (fun c_3 => ?_)
  ·
    refine lv_iload_n hx hb dX12_set_16 rfl (lv_at hl 2 rfl) ?_
    refine lv_iload_n hx hb dX12_set_17 rfl (lv_at hl 1 rfl) ?_
    refine lv_iconst (v := 3) hx hb dX12_set_18 (by decide) ?_
    have J_27 : ∀ (v_4 : Int32) (ls : Array Slot), lv_has ls 4 [(0, .ref (al.2 0 0)), (1, .int what), (2, .int v)] → (0 ≤ v_4.toInt ∧ v_4.toInt ≤ 1) → ((what.toInt = 3 ∧ v_4.toInt = 1) ∨ (¬ what.toInt = 3 ∧ v_4.toInt = 0)) → W p l e (rm 1) s m args below meth c H locs 0 0 Q (F0 m 27 ls [.int v_4, .int v]) := by
      intro v_4 ls hl i27_0 i27_1
      refine b_icmp_ge (tgt := 37) hx hb dX12_set_27 (by decide) (fun c_5 => ?_) (fun c_5 => ?_)
      ·
        refine lv_iload_n hx hb dX12_set_37 rfl (lv_at hl 2 rfl) ?_
        refine lv_iload_n hx hb dX12_set_38 rfl (lv_at hl 1 rfl) ?_
        have J_72 : ∀ (v_6 : Int32) (ls : Array Slot), lv_has ls 4 [(0, .ref (al.2 0 0)), (1, .int what), (2, .int v)] → (9 ≤ v_6.toInt ∧ v_6.toInt ≤ 900) → ((what.toInt = 0 ∧ v_6.toInt = 200) ∨ (what.toInt = 1 ∧ v_6.toInt = 900) ∨ (what.toInt = 2 ∧ v_6.toInt = 300) ∨ (what.toInt = 3 ∧ v_6.toInt = 9)) → W p l e (rm 1) s m args below meth c H locs 0 0 Q (F0 m 72 ls [.int v_6, .int v]) := by
          intro v_6 ls hl i72_0 i72_1
          refine b_icmp_le (tgt := 82) hx hb dX12_set_72 (by decide) (fun c_7 => ?_) (fun c_7 => ?_)
          ·
            refine lv_aload_n hx hb dX12_set_82 rfl (lv_at hl 0 rfl) ?_
            refine g_0_17 C hU hG (h1_0 hG) fl_X12_53 dX12_set_83 ?_
            refine lv_iload_n hx hb dX12_set_86 rfl (lv_at hl 1 rfl) ?_
            refine a_15 C hU hG (h1_15 hG) (x := what) (by omega) (by omega) dX12_set_87 (fun x_8 e_9 le_9 ue_9 => ?_)
            have te_9 := congrArg Int32.toInt e_9
            refine lv_istore_n (lv' := [(3, .int x_8), (0, .ref (al.2 0 0)), (1, .int what), (2, .int v)]) hx hb dX12_set_88 rfl hl (by decide) rfl (fun ls hl => ?_)
            refine lv_aload_n hx hb dX12_set_89 rfl (lv_at hl 1 rfl) ?_
            refine g_0_17 C hU hG (h1_0 hG) fl_X12_53 dX12_set_90 ?_
            refine lv_iload_n hx hb dX12_set_93 rfl (lv_at hl 2 rfl) ?_
            refine lv_iload_n hx hb dX12_set_94 rfl (lv_at hl 3 rfl) ?_
            refine s_15 C hU hS (h1_15 hG) (x := what) (by omega) (by omega) dX12_set_95 (fun iv_10 H locs ei_11 hU hS => ?_)
            have hG : GI al iv_10 rv := by rw [ei_11]; exact hG.puti (show _ ∧ _ from ⟨show (0 : Int) ≤ _ by omega, show _ ≤ (900 : Int) by omega⟩) (nsA (by decide) _)
            have hF1 : FR ([16, 15], []) iv iv_10 := by rw [ei_11]; exact hF1.put (Or.inl (by decide))
            refine lv_iload_n hx hb dX12_set_96 rfl (lv_at hl 0 rfl) ?_
            exact hret (⟨hG, hF1, hF2, Or.inl ⟨(by unfold spSet; (repeat' split) <;> first | rfl | omega), e_9, fun k => by rw [ei_11]; simp [up3]⟩⟩) hU hS dX12_set_97
          ·
            refine lv_aload_n hx hb dX12_set_75 rfl (lv_at hl 0 rfl) ?_
            refine lv_bipush (v := (-6)) hx hb dX12_set_76 (by decide) ?_
            refine q_fi (q_runV (t := 0) (i := 0) (As := [.int (-6)]) (rest := []) C hU (c_X12_refuse hG (-6) (by omega)) vm_X12_refuse ml_X12_164 k_0.1 (hc := rfl) rfl (h1_0 hG) hl.1 rfl rfl (Nat.le_of_ble_eq_true rfl) dX12_set_78 rfl rfl ⟨Nat.le_of_ble_eq_true rfl, Nat.le_of_ble_eq_true rfl⟩ ⟨Nat.le_refl _, Nat.le_refl _⟩) hS (fun x_17 iv_13 rv_14 H locs hG fa_15 fb_16 hp_12 hU hS => ?_)
            have hF1 := hF1.tr (m := ([16, 15], [])) fa_15 (by decide)
            have hF2 := hF2.tr (m := ([16, 15], [])) fb_16 (by decide)
            exact hret (⟨hG, hF1, hF2, sp_no (z := (-6)) (by unfold spSet; (repeat' split) <;> first | rfl | omega) (by decide) hp_12 (fun k => fa_15.arr 15 0 k (by decide))⟩) hU hS dX12_set_81
        refine b_if_ne (tgt := 48) hx hb dX12_set_39 (by decide) (fun c_18 => ?_) (fun c_18 => ?_)
        ·
          refine lv_iload_n hx hb dX12_set_48 rfl (lv_at hl 1 rfl) ?_
          refine lv_iconst (v := 1) hx hb dX12_set_49 (by decide) ?_
          refine b_icmp_ne (tgt := 59) hx hb dX12_set_50 (by decide) (fun c_19 => ?_) (fun c_19 => ?_)
          ·
            refine lv_iload_n hx hb dX12_set_59 rfl (lv_at hl 1 rfl) ?_
            refine lv_iconst (v := 2) hx hb dX12_set_60 (by decide) ?_
            refine b_icmp_ne (tgt := 70) hx hb dX12_set_61 (by decide) (fun c_20 => ?_) (fun c_20 => ?_)
            ·
              refine lv_bipush (v := 9) hx hb dX12_set_70 (by decide) ?_
              exact J_72 9 _ (lv_sub hl [0, 1, 2] rfl) (by omega) (by omega)
            ·
              refine lv_sipush (v := 300) hx hb dX12_set_64 (by decide) ?_
              refine lv_goto (tgt := 72) hx hb dX12_set_67 (by decide) ?_
              exact J_72 300 _ (lv_sub hl [0, 1, 2] rfl) (by omega) (by omega)
          ·
            refine lv_sipush (v := 900) hx hb dX12_set_53 (by decide) ?_
            refine lv_goto (tgt := 72) hx hb dX12_set_56 (by decide) ?_
            exact J_72 900 _ (lv_sub hl [0, 1, 2] rfl) (by omega) (by omega)
        ·
          refine lv_sipush (v := 200) hx hb dX12_set_42 (by decide) ?_
          refine lv_goto (tgt := 72) hx hb dX12_set_45 (by decide) ?_
          exact J_72 200 _ (lv_sub hl [0, 1, 2] rfl) (by omega) (by omega)
      ·
        refine lv_aload_n hx hb dX12_set_30 rfl (lv_at hl 0 rfl) ?_
        refine lv_bipush (v := (-4)) hx hb dX12_set_31 (by decide) ?_
        refine q_fi (q_runV (t := 0) (i := 0) (As := [.int (-4)]) (rest := []) C hU (c_X12_refuse hG (-4) (by omega)) vm_X12_refuse ml_X12_164 k_0.1 (hc := rfl) rfl (h1_0 hG) hl.1 rfl rfl (Nat.le_of_ble_eq_true rfl) dX12_set_33 rfl rfl ⟨Nat.le_of_ble_eq_true rfl, Nat.le_of_ble_eq_true rfl⟩ ⟨Nat.le_refl _, Nat.le_refl _⟩) hS (fun x_26 iv_22 rv_23 H locs hG fa_24 fb_25 hp_21 hU hS => ?_)
        have hF1 := hF1.tr (m := ([16, 15], [])) fa_24 (by decide)
        have hF2 := hF2.tr (m := ([16, 15], [])) fb_25 (by decide)
        exact hret (⟨hG, hF1, hF2, sp_no (z := (-4)) (by unfold spSet; (repeat' split) <;> first | rfl | omega) (by decide) hp_21 (fun k => fa_24.arr 15 0 k (by decide))⟩) hU hS dX12_set_36
    refine b_icmp_ne (tgt := 26) hx hb dX12_set_19 (by decide) (fun c_27 => ?_) (fun c_27 => ?_)
    ·
      refine lv_iconst (v := 0) hx hb dX12_set_26 (by decide) ?_
      exact J_27 0 _ (lv_sub hl [0, 1, 2] rfl) (by omega) (by omega)
    ·
      refine lv_iconst (v := 1) hx hb dX12_set_22 (by decide) ?_
      refine lv_goto (tgt := 27) hx hb dX12_set_23 (by decide) ?_
      exact J_27 1 _ (lv_sub hl [0, 1, 2] rfl) (by omega) (by omega)
  ·
    refine lv_aload_n hx hb dX12_set_9 rfl (lv_at hl 0 rfl) ?_
    refine lv_bipush (v := (-2)) hx hb dX12_set_10 (by decide) ?_
    refine q_fi (q_runV (t := 0) (i := 0) (As := [.int (-2)]) (rest := []) C hU (c_X12_refuse hG (-2) (by omega)) vm_X12_refuse ml_X12_164 k_0.1 (hc := rfl) rfl (h1_0 hG) hl.1 rfl rfl (Nat.le_of_ble_eq_true rfl) dX12_set_12 rfl rfl ⟨Nat.le_of_ble_eq_true rfl, Nat.le_of_ble_eq_true rfl⟩ ⟨Nat.le_refl _, Nat.le_refl _⟩) hS (fun x_33 iv_29 rv_30 H locs hG fa_31 fb_32 hp_28 hU hS => ?_)
    have hF1 := hF1.tr (m := ([16, 15], [])) fa_31 (by decide)
    have hF2 := hF2.tr (m := ([16, 15], [])) fb_32 (by decide)
    exact hret (⟨hG, hF1, hF2, sp_no (z := (-2)) (by unfold spSet; (repeat' split) <;> first | rfl | omega) (by decide) hp_28 (fun k => fa_31.arr 15 0 k (by decide))⟩) hU hS dX12_set_15
set_option maxHeartbeats 4000000 in
set_option maxRecDepth 100000 in
theorem c_X11_set_x {l : Launch} {D : va_G} {cA : FieldType → ClassId} {sz : Nat} {al : Al} {iv : Iv} {rv : Rv} (hG : GI al iv rv) (wh : Int32) (v : Int32) : Met l yX11_set (wd yX11_set cX11_set 4 (some .int)) (rm 2) (PcA D cA sz al iv rv [.ref (al.2 49 0), .int wh, .int v] (fun U => SX cA sz U U.heap)) (QI D cA sz al (fI al ([51, 50], []) iv rv (fun r iv' rv' => (spSet wh v = 0 ∧ r = iv 50 0 wh.toNatClampNeg ∧ ∀ k, iv' 50 0 k = if k = wh.toNatClampNeg then v else iv 50 0 k) ∨ (spSet wh v ≠ 0 ∧ r = spSet wh v ∧ ∀ k, iv' 50 0 k = iv 50 0 k)))) 0 0 (Aq sz) := by
  refine mk_is (by decide) (Nat.le_of_ble_eq_true rfl) rfl ?_
  intro p e s m args below meth c ls Q H locs C hU hS hX hz0 hl hret
  have hx := C.1.1
  have hb := C.1.2.1
  have hl : lv_has ls 4 [(0, .ref (al.2 49 0)), (1, .int wh), (2, .int v)] := hl
  have hG0 := hG
  have hF1 : FR ([51, 50], []) iv iv := FR.rf
  have hF2 : FR ([51, 50], []) rv rv := FR.rf
  have km6 : ((-6) : Int32).toInt = -6 := by decide
  have km4 : ((-4) : Int32).toInt = -4 := by decide
  have km2 : ((-2) : Int32).toInt = -2 := by decide
  have k4 : (4 : Int32).toInt = 4 := by decide
  refine lv_aload_n hx hb dX11_set_0 rfl (lv_at hl 0 rfl) ?_
  refine g_49_7 C hU hG (h1_49 hG) fl_X11_67 dX11_set_1 ?_
  refine q_alen (t := 50) (v := 4) C hU k_50 (by decide) (h1_50 hG) (by decide) dX11_set_4 ?_
  refine lv_iload_n hx hb dX11_set_5 rfl (lv_at hl 1 rfl) ?_
  refine q_pi (q_runS (As := [.int 4, .int wh]) (rest := []) C hU (c_X11_isOneOf  4 wh ) sm_X11_isOneOf ml_X11_85 hl.1 rfl rfl (Nat.le_of_ble_eq_true rfl) dX11_set_6 rfl rfl ⟨Nat.le_of_ble_eq_true rfl, Nat.le_of_ble_eq_true rfl⟩ ⟨Nat.le_refl _, Nat.le_refl _⟩) hS (fun x_2 H locs hp_1 hU hS => ?_)
  refine b_if_ne (tgt := 19) hx hb dX11_set_9 (by decide) (fun c_3 => ?_) (fun c_3 => ?_)
  ·
    refine lv_iload_n hx hb dX11_set_19 rfl (lv_at hl 2 rfl) ?_
    obtain ⟨ta_4, zta_4, yta_4⟩ := hX.2.1
    refine q_gets C zta_4 hS fl_X11_139 dX11_set_20 ?_
    refine lv_iload_n hx hb dX11_set_23 rfl (lv_at hl 1 rfl) ?_
    refine va_ti (v := .int (lst4 (wh : Int32).toNatClampNeg)) hx hb yta_4 hS (ix_in (by omega) (by omega)) rfl dX11_set_24 ?_
    refine lv_topi (fun x_5 e_6 => ?_)
    have te_6 : 0 ≤ x_5.toInt ∧ x_5.toInt ≤ 900 := by rw [e_6]; exact lst4_rng _
    have hl4 := lst4_v e_6 (by omega) (by omega)
    refine b_icmp_ge (tgt := 35) hx hb dX11_set_25 (by decide) (fun c_7 => ?_) (fun c_7 => ?_)
    ·
      refine lv_iload_n hx hb dX11_set_35 rfl (lv_at hl 2 rfl) ?_
      obtain ⟨ta_8, zta_8, yta_8⟩ := hX.2.2.1
      refine q_gets C zta_8 hS fl_X11_142 dX11_set_36 ?_
      refine lv_iload_n hx hb dX11_set_39 rfl (lv_at hl 1 rfl) ?_
      refine va_ti (v := .int (grt4 (wh : Int32).toNatClampNeg)) hx hb yta_8 hS (ix_in (by omega) (by omega)) rfl dX11_set_40 ?_
      refine lv_topi (fun x_9 e_10 => ?_)
      have te_10 : 0 ≤ x_9.toInt ∧ x_9.toInt ≤ 900 := by rw [e_10]; exact grt4_rng _
      have hg4 := grt4_v e_10 (by omega) (by omega)
      refine b_icmp_le (tgt := 51) hx hb dX11_set_41 (by decide) (fun c_11 => ?_) (fun c_11 => ?_)
      ·
        refine lv_aload_n hx hb dX11_set_51 rfl (lv_at hl 0 rfl) ?_
        refine g_49_7 C hU hG (h1_49 hG) fl_X11_67 dX11_set_52 ?_
        refine lv_iload_n hx hb dX11_set_55 rfl (lv_at hl 1 rfl) ?_
        refine a_50 C hU hG (h1_50 hG) (x := wh) (by omega) (by omega) dX11_set_56 (fun x_12 e_13 le_13 ue_13 => ?_)
        have te_13 := congrArg Int32.toInt e_13
        refine lv_istore_n (lv' := [(3, .int x_12), (0, .ref (al.2 49 0)), (1, .int wh), (2, .int v)]) hx hb dX11_set_57 rfl hl (by decide) rfl (fun ls hl => ?_)
        refine lv_aload_n hx hb dX11_set_58 rfl (lv_at hl 1 rfl) ?_
        refine g_49_7 C hU hG (h1_49 hG) fl_X11_67 dX11_set_59 ?_
        refine lv_iload_n hx hb dX11_set_62 rfl (lv_at hl 2 rfl) ?_
        refine lv_iload_n hx hb dX11_set_63 rfl (lv_at hl 3 rfl) ?_
        refine s_50 C hU hS (h1_50 hG) (x := wh) (by omega) (by omega) dX11_set_64 (fun iv_14 H locs ei_15 hU hS => ?_)
        have hG : GI al iv_14 rv := by rw [ei_15]; exact hG.puti (show _ ∧ _ from ⟨show (0 : Int) ≤ _ by omega, show _ ≤ (900 : Int) by omega⟩) (nsA (by decide) _)
        have hF1 : FR ([51, 50], []) iv iv_14 := by rw [ei_15]; exact hF1.put (Or.inl (by decide))
        refine lv_iload_n hx hb dX11_set_65 rfl (lv_at hl 0 rfl) ?_
        exact hret (⟨hG, hF1, hF2, Or.inl ⟨(by unfold spSet; (repeat' split) <;> first | rfl | omega), e_13, fun k => by rw [ei_15]; simp [up3]⟩⟩) hU hS dX11_set_66
      ·
        refine lv_aload_n hx hb dX11_set_44 rfl (lv_at hl 0 rfl) ?_
        refine lv_bipush (v := (-6)) hx hb dX11_set_45 (by decide) ?_
        refine q_fi (q_runV (t := 49) (i := 0) (As := [.int (-6)]) (rest := []) C hU (c_X11_refuse hG (-6) (by omega)) vm_X11_refuse ml_X11_77 k_49.1 (hc := rfl) rfl (h1_49 hG) hl.1 rfl rfl (Nat.le_of_ble_eq_true rfl) dX11_set_47 rfl rfl ⟨Nat.le_of_ble_eq_true rfl, Nat.le_of_ble_eq_true rfl⟩ ⟨Nat.le_refl _, Nat.le_refl _⟩) hS (fun x_21 iv_17 rv_18 H locs hG fa_19 fb_20 hp_16 hU hS => ?_)
        have hF1 := hF1.tr (m := ([51, 50], [])) fa_19 (by decide)
        have hF2 := hF2.tr (m := ([51, 50], [])) fb_20 (by decide)
        exact hret (⟨hG, hF1, hF2, sp_no (z := (-6)) (by unfold spSet; (repeat' split) <;> first | rfl | omega) (by decide) hp_16 (fun k => fa_19.arr 50 0 k (by decide))⟩) hU hS dX11_set_50
    ·
      refine lv_aload_n hx hb dX11_set_28 rfl (lv_at hl 0 rfl) ?_
      refine lv_bipush (v := (-4)) hx hb dX11_set_29 (by decide) ?_
      refine q_fi (q_runV (t := 49) (i := 0) (As := [.int (-4)]) (rest := []) C hU (c_X11_refuse hG (-4) (by omega)) vm_X11_refuse ml_X11_77 k_49.1 (hc := rfl) rfl (h1_49 hG) hl.1 rfl rfl (Nat.le_of_ble_eq_true rfl) dX11_set_31 rfl rfl ⟨Nat.le_of_ble_eq_true rfl, Nat.le_of_ble_eq_true rfl⟩ ⟨Nat.le_refl _, Nat.le_refl _⟩) hS (fun x_27 iv_23 rv_24 H locs hG fa_25 fb_26 hp_22 hU hS => ?_)
      have hF1 := hF1.tr (m := ([51, 50], [])) fa_25 (by decide)
      have hF2 := hF2.tr (m := ([51, 50], [])) fb_26 (by decide)
      exact hret (⟨hG, hF1, hF2, sp_no (z := (-4)) (by unfold spSet; (repeat' split) <;> first | rfl | omega) (by decide) hp_22 (fun k => fa_25.arr 50 0 k (by decide))⟩) hU hS dX11_set_34
  ·
    refine lv_aload_n hx hb dX11_set_12 rfl (lv_at hl 0 rfl) ?_
    refine lv_bipush (v := (-2)) hx hb dX11_set_13 (by decide) ?_
    refine q_fi (q_runV (t := 49) (i := 0) (As := [.int (-2)]) (rest := []) C hU (c_X11_refuse hG (-2) (by omega)) vm_X11_refuse ml_X11_77 k_49.1 (hc := rfl) rfl (h1_49 hG) hl.1 rfl rfl (Nat.le_of_ble_eq_true rfl) dX11_set_15 rfl rfl ⟨Nat.le_of_ble_eq_true rfl, Nat.le_of_ble_eq_true rfl⟩ ⟨Nat.le_refl _, Nat.le_refl _⟩) hS (fun x_33 iv_29 rv_30 H locs hG fa_31 fb_32 hp_28 hU hS => ?_)
    have hF1 := hF1.tr (m := ([51, 50], [])) fa_31 (by decide)
    have hF2 := hF2.tr (m := ([51, 50], [])) fb_32 (by decide)
    exact hret (⟨hG, hF1, hF2, sp_no (z := (-2)) (by unfold spSet; (repeat' split) <;> first | rfl | omega) (by decide) hp_28 (fun k => fa_31.arr 50 0 k (by decide))⟩) hU hS dX11_set_18
set_option maxHeartbeats 4000000 in
set_option maxRecDepth 100000 in
theorem c_X12_leg_y {l : Launch} {D : va_G} {cA : FieldType → ClassId} {sz : Nat} {al : Al} {iv : Iv} {rv : Rv} (hG : GI al iv rv) (a : Int32) (b : Int32) (pp : Int32) (cc_ : Int32) (lv_ : Int32) (rr : Int32) : Met l yX12_leg (wd yX12_leg cX12_leg 7 (some .int)) (rm 2) (PcW D cA sz al iv rv [.ref (al.2 0 0), .int a, .int b, .int pp, .int cc_, .int lv_, .int rr]) (QI D cA sz al (fI al ([16, 5, 6, 7, 8, 9, 10], [(0, 6)]) iv rv (fun r iv' rv' => (spLeg a b pp cc_ lv_ rr (iv 0 0 6).toInt = 0 ∧ r.toInt = (iv 0 0 6).toInt ∧ (iv' 0 0 6).toInt = (iv 0 0 6).toInt + 1 ∧ lgM iv iv' a b pp cc_ lv_ rr) ∨ (spLeg a b pp cc_ lv_ rr (iv 0 0 6).toInt ≠ 0 ∧ r = spLeg a b pp cc_ lv_ rr (iv 0 0 6).toInt ∧ iv' 0 0 6 = iv 0 0 6 ∧ lgK iv iv')))) 0 0 (Aq sz) := by
  refine mk_i (by decide) (Nat.le_of_ble_eq_true rfl) rfl ?_
  intro p e s m args below meth c ls Q H locs C hU hS hl hret
  have hx := C.1.1
  have hb := C.1.2.1
  have hl : lv_has ls 7 [(0, .ref (al.2 0 0)), (1, .int a), (2, .int b), (3, .int pp), (4, .int cc_), (5, .int lv_), (6, .int rr)] := hl
  have hG0 := hG
  have h6 := le6 hG
  have h20 := le20 hG
  have h41 := le41 hG
  have hF1 : FR ([16, 5, 6, 7, 8, 9, 10], [(0, 6)]) iv iv := FR.rf
  have hF2 : FR ([16, 5, 6, 7, 8, 9, 10], [(0, 6)]) rv rv := FR.rf
  have km6 : ((-6) : Int32).toInt = -6 := by decide
  have km4 : ((-4) : Int32).toInt = -4 := by decide
  have km1 : ((-1) : Int32).toInt = -1 := by decide
  have k0 : (0 : Int32).toInt = 0 := by decide
  have k1 : (1 : Int32).toInt = 1 := by decide
  have k5 : (5 : Int32).toInt = 5 := by decide
  have k40 : (40 : Int32).toInt = 40 := by decide
  have k20000 : (20000 : Int32).toInt = 20000 := by decide
  refine lv_iload_n hx hb dX12_leg_0 rfl (lv_at hl 1 rfl) ?_
  refine q_pi (q_runS (As := [.int a]) (rest := []) C hU (c_X12_isPort  a ) sm_X12_isPort ml_X12_171 hl.1 rfl rfl (Nat.le_of_ble_eq_true rfl) dX12_leg_1 rfl rfl ⟨Nat.le_of_ble_eq_true rfl, Nat.le_of_ble_eq_true rfl⟩ ⟨Nat.le_refl _, Nat.le_refl _⟩) hS (fun x_2 H locs hp_1 hU hS => ?_)
  refine b_if_eq (tgt := 38) hx hb dX12_leg_4 (by decide) (fun c_3 => ?_) (fun c_3 => ?_)
  ·
    refine lv_aload_n hx hb dX12_leg_38 rfl (lv_at hl 0 rfl) ?_
    refine lv_iconst (v := (-1)) hx hb dX12_leg_39 (by decide) ?_
    refine q_fi (q_runV (t := 0) (i := 0) (As := [.int (-1)]) (rest := []) C hU (c_X12_refuse hG (-1) (by omega)) vm_X12_refuse ml_X12_164 k_0.1 (hc := rfl) rfl (h1_0 hG) hl.1 rfl rfl (Nat.le_of_ble_eq_true rfl) dX12_leg_40 rfl rfl ⟨Nat.le_of_ble_eq_true rfl, Nat.le_of_ble_eq_true rfl⟩ ⟨Nat.le_refl _, Nat.le_refl _⟩) hS (fun x_9 iv_5 rv_6 H locs hG fa_7 fb_8 hp_4 hU hS => ?_)
    have hF1 := hF1.tr (m := ([16, 5, 6, 7, 8, 9, 10], [(0, 6)])) fa_7 (by decide)
    have hF2 := hF2.tr (m := ([16, 5, 6, 7, 8, 9, 10], [(0, 6)])) fb_8 (by decide)
    exact hret (⟨hG, hF1, hF2, sp_no (z := (-1)) (by unfold spLeg; (repeat' split) <;> first | rfl | omega) (by decide) hp_4 (⟨fa_7 0 0 6 (by decide), lg_fr fa_7 (by decide)⟩)⟩) hU hS dX12_leg_43
  ·
    refine lv_iload_n hx hb dX12_leg_7 rfl (lv_at hl 2 rfl) ?_
    refine q_pi (q_runS (As := [.int b]) (rest := []) C hU (c_X12_isPort  b ) sm_X12_isPort ml_X12_171 hl.1 rfl rfl (Nat.le_of_ble_eq_true rfl) dX12_leg_8 rfl rfl ⟨Nat.le_of_ble_eq_true rfl, Nat.le_of_ble_eq_true rfl⟩ ⟨Nat.le_refl _, Nat.le_refl _⟩) hS (fun x_11 H locs hp_10 hU hS => ?_)
    refine b_if_eq (tgt := 38) hx hb dX12_leg_11 (by decide) (fun c_12 => ?_) (fun c_12 => ?_)
    ·
      refine lv_aload_n hx hb dX12_leg_38 rfl (lv_at hl 0 rfl) ?_
      refine lv_iconst (v := (-1)) hx hb dX12_leg_39 (by decide) ?_
      refine q_fi (q_runV (t := 0) (i := 0) (As := [.int (-1)]) (rest := []) C hU (c_X12_refuse hG (-1) (by omega)) vm_X12_refuse ml_X12_164 k_0.1 (hc := rfl) rfl (h1_0 hG) hl.1 rfl rfl (Nat.le_of_ble_eq_true rfl) dX12_leg_40 rfl rfl ⟨Nat.le_of_ble_eq_true rfl, Nat.le_of_ble_eq_true rfl⟩ ⟨Nat.le_refl _, Nat.le_refl _⟩) hS (fun x_18 iv_14 rv_15 H locs hG fa_16 fb_17 hp_13 hU hS => ?_)
      have hF1 := hF1.tr (m := ([16, 5, 6, 7, 8, 9, 10], [(0, 6)])) fa_16 (by decide)
      have hF2 := hF2.tr (m := ([16, 5, 6, 7, 8, 9, 10], [(0, 6)])) fb_17 (by decide)
      exact hret (⟨hG, hF1, hF2, sp_no (z := (-1)) (by unfold spLeg; (repeat' split) <;> first | rfl | omega) (by decide) hp_13 (⟨fa_16 0 0 6 (by decide), lg_fr fa_16 (by decide)⟩)⟩) hU hS dX12_leg_43
    ·
      refine lv_iload_n hx hb dX12_leg_14 rfl (lv_at hl 1 rfl) ?_
      refine lv_iload_n hx hb dX12_leg_15 rfl (lv_at hl 2 rfl) ?_
      refine b_icmp_eq (tgt := 38) hx hb dX12_leg_16 (by decide) (fun c_19 => ?_) (fun c_19 => ?_)
      ·
        refine lv_aload_n hx hb dX12_leg_38 rfl (lv_at hl 0 rfl) ?_
        refine lv_iconst (v := (-1)) hx hb dX12_leg_39 (by decide) ?_
        refine q_fi (q_runV (t := 0) (i := 0) (As := [.int (-1)]) (rest := []) C hU (c_X12_refuse hG (-1) (by omega)) vm_X12_refuse ml_X12_164 k_0.1 (hc := rfl) rfl (h1_0 hG) hl.1 rfl rfl (Nat.le_of_ble_eq_true rfl) dX12_leg_40 rfl rfl ⟨Nat.le_of_ble_eq_true rfl, Nat.le_of_ble_eq_true rfl⟩ ⟨Nat.le_refl _, Nat.le_refl _⟩) hS (fun x_25 iv_21 rv_22 H locs hG fa_23 fb_24 hp_20 hU hS => ?_)
        have hF1 := hF1.tr (m := ([16, 5, 6, 7, 8, 9, 10], [(0, 6)])) fa_23 (by decide)
        have hF2 := hF2.tr (m := ([16, 5, 6, 7, 8, 9, 10], [(0, 6)])) fb_24 (by decide)
        exact hret (⟨hG, hF1, hF2, sp_no (z := (-1)) (by unfold spLeg; (repeat' split) <;> first | rfl | omega) (by decide) hp_20 (⟨fa_23 0 0 6 (by decide), lg_fr fa_23 (by decide)⟩)⟩) hU hS dX12_leg_43
      ·
        refine lv_iload_n hx hb dX12_leg_19 rfl (lv_at hl 3 rfl) ?_
        refine lv_iconst (v := 0) hx hb dX12_leg_20 (by decide) ?_
        refine lv_iconst (v := 5) hx hb dX12_leg_21 (by decide) ?_
        refine q_pi (q_runS (As := [.int pp, .int 0, .int 5]) (rest := []) C hU (c_X12_in  pp 0 5 ) sm_X12_in ml_X12_156 hl.1 rfl rfl (Nat.le_of_ble_eq_true rfl) dX12_leg_22 rfl rfl ⟨Nat.le_of_ble_eq_true rfl, Nat.le_of_ble_eq_true rfl⟩ ⟨Nat.le_refl _, Nat.le_refl _⟩) hS (fun x_27 H locs hp_26 hU hS => ?_)
        refine b_if_eq (tgt := 38) hx hb dX12_leg_25 (by decide) (fun c_28 => ?_) (fun c_28 => ?_)
        ·
          refine lv_aload_n hx hb dX12_leg_38 rfl (lv_at hl 0 rfl) ?_
          refine lv_iconst (v := (-1)) hx hb dX12_leg_39 (by decide) ?_
          refine q_fi (q_runV (t := 0) (i := 0) (As := [.int (-1)]) (rest := []) C hU (c_X12_refuse hG (-1) (by omega)) vm_X12_refuse ml_X12_164 k_0.1 (hc := rfl) rfl (h1_0 hG) hl.1 rfl rfl (Nat.le_of_ble_eq_true rfl) dX12_leg_40 rfl rfl ⟨Nat.le_of_ble_eq_true rfl, Nat.le_of_ble_eq_true rfl⟩ ⟨Nat.le_refl _, Nat.le_refl _⟩) hS (fun x_34 iv_30 rv_31 H locs hG fa_32 fb_33 hp_29 hU hS => ?_)
          have hF1 := hF1.tr (m := ([16, 5, 6, 7, 8, 9, 10], [(0, 6)])) fa_32 (by decide)
          have hF2 := hF2.tr (m := ([16, 5, 6, 7, 8, 9, 10], [(0, 6)])) fb_33 (by decide)
          exact hret (⟨hG, hF1, hF2, sp_no (z := (-1)) (by unfold spLeg; (repeat' split) <;> first | rfl | omega) (by decide) hp_29 (⟨fa_32 0 0 6 (by decide), lg_fr fa_32 (by decide)⟩)⟩) hU hS dX12_leg_43
        ·
          refine lv_iload hx hb dX12_leg_28 (lv_at hl 4 rfl) ?_
          refine lv_iconst (v := 0) hx hb dX12_leg_30 (by decide) ?_
          refine lv_iconst (v := 5) hx hb dX12_leg_31 (by decide) ?_
          refine q_pi (q_runS (As := [.int cc_, .int 0, .int 5]) (rest := []) C hU (c_X12_in  cc_ 0 5 ) sm_X12_in ml_X12_156 hl.1 rfl rfl (Nat.le_of_ble_eq_true rfl) dX12_leg_32 rfl rfl ⟨Nat.le_of_ble_eq_true rfl, Nat.le_of_ble_eq_true rfl⟩ ⟨Nat.le_refl _, Nat.le_refl _⟩) hS (fun x_36 H locs hp_35 hU hS => ?_)
          refine b_if_ne (tgt := 44) hx hb dX12_leg_35 (by decide) (fun c_37 => ?_) (fun c_37 => ?_)
          ·
            refine lv_iload hx hb dX12_leg_44 (lv_at hl 5 rfl) ?_
            refine b_if_lt (tgt := 56) hx hb dX12_leg_46 (by decide) (fun c_38 => ?_) (fun c_38 => ?_)
            ·
              refine lv_aload_n hx hb dX12_leg_56 rfl (lv_at hl 0 rfl) ?_
              refine lv_bipush (v := (-4)) hx hb dX12_leg_57 (by decide) ?_
              refine q_fi (q_runV (t := 0) (i := 0) (As := [.int (-4)]) (rest := []) C hU (c_X12_refuse hG (-4) (by omega)) vm_X12_refuse ml_X12_164 k_0.1 (hc := rfl) rfl (h1_0 hG) hl.1 rfl rfl (Nat.le_of_ble_eq_true rfl) dX12_leg_59 rfl rfl ⟨Nat.le_of_ble_eq_true rfl, Nat.le_of_ble_eq_true rfl⟩ ⟨Nat.le_refl _, Nat.le_refl _⟩) hS (fun x_44 iv_40 rv_41 H locs hG fa_42 fb_43 hp_39 hU hS => ?_)
              have hF1 := hF1.tr (m := ([16, 5, 6, 7, 8, 9, 10], [(0, 6)])) fa_42 (by decide)
              have hF2 := hF2.tr (m := ([16, 5, 6, 7, 8, 9, 10], [(0, 6)])) fb_43 (by decide)
              exact hret (⟨hG, hF1, hF2, sp_no (z := (-4)) (by unfold spLeg; (repeat' split) <;> first | rfl | omega) (by decide) hp_39 (⟨fa_42 0 0 6 (by decide), lg_fr fa_42 (by decide)⟩)⟩) hU hS dX12_leg_62
            ·
              refine lv_iload hx hb dX12_leg_49 (lv_at hl 6 rfl) ?_
              refine lv_iload hx hb dX12_leg_51 (lv_at hl 5 rfl) ?_
              refine b_icmp_gt (tgt := 63) hx hb dX12_leg_53 (by decide) (fun c_45 => ?_) (fun c_45 => ?_)
              ·
                refine lv_iload hx hb dX12_leg_63 (lv_at hl 6 rfl) ?_
                refine lv_sipush (v := 20000) hx hb dX12_leg_65 (by decide) ?_
                refine b_icmp_gt (tgt := 80) hx hb dX12_leg_68 (by decide) (fun c_46 => ?_) (fun c_46 => ?_)
                ·
                  refine lv_aload_n hx hb dX12_leg_80 rfl (lv_at hl 0 rfl) ?_
                  refine lv_bipush (v := (-6)) hx hb dX12_leg_81 (by decide) ?_
                  refine q_fi (q_runV (t := 0) (i := 0) (As := [.int (-6)]) (rest := []) C hU (c_X12_refuse hG (-6) (by omega)) vm_X12_refuse ml_X12_164 k_0.1 (hc := rfl) rfl (h1_0 hG) hl.1 rfl rfl (Nat.le_of_ble_eq_true rfl) dX12_leg_83 rfl rfl ⟨Nat.le_of_ble_eq_true rfl, Nat.le_of_ble_eq_true rfl⟩ ⟨Nat.le_refl _, Nat.le_refl _⟩) hS (fun x_52 iv_48 rv_49 H locs hG fa_50 fb_51 hp_47 hU hS => ?_)
                  have hF1 := hF1.tr (m := ([16, 5, 6, 7, 8, 9, 10], [(0, 6)])) fa_50 (by decide)
                  have hF2 := hF2.tr (m := ([16, 5, 6, 7, 8, 9, 10], [(0, 6)])) fb_51 (by decide)
                  exact hret (⟨hG, hF1, hF2, sp_no (z := (-6)) (by unfold spLeg; (repeat' split) <;> first | rfl | omega) (by decide) hp_47 (⟨fa_50 0 0 6 (by decide), lg_fr fa_50 (by decide)⟩)⟩) hU hS dX12_leg_86
                ·
                  refine lv_aload_n hx hb dX12_leg_71 rfl (lv_at hl 0 rfl) ?_
                  refine g_0_6 C hU hG (h1_0 hG) fl_X12_160 dX12_leg_72 (fun x_53 e_54 le_54 ue_54 => ?_)
                  have te_54 := congrArg Int32.toInt e_54
                  refine lv_bipush (v := 40) hx hb dX12_leg_75 (by decide) ?_
                  refine b_icmp_ne (tgt := 87) hx hb dX12_leg_77 (by decide) (fun c_55 => ?_) (fun c_55 => ?_)
                  ·
                    refine lv_aload_n hx hb dX12_leg_87 rfl (lv_at hl 0 rfl) ?_
                    refine g_0_7 C hU hG (h1_0 hG) fl_X12_22 dX12_leg_88 ?_
                    refine lv_aload_n hx hb dX12_leg_91 rfl (lv_at hl 0 rfl) ?_
                    refine g_0_6 C hU hG (h1_0 hG) fl_X12_160 dX12_leg_92 (fun x_56 e_57 le_57 ue_57 => ?_)
                    have te_57 := congrArg Int32.toInt e_57
                    refine lv_iload_n hx hb dX12_leg_95 rfl (lv_at hl 1 rfl) ?_
                    refine s_5 C hU hS (h1_5 hG) (x := x_56) (by omega) (by omega) dX12_leg_96 (fun iv_58 H locs ei_59 hU hS => ?_)
                    have hG : GI al iv_58 rv := by rw [ei_59]; exact hG.puti (show _ ∧ _ from ⟨show (0 : Int) ≤ _ by omega, show _ ≤ (9 : Int) by omega⟩) (nsA (by decide) _)
                    have hF1 : FR ([16, 5, 6, 7, 8, 9, 10], [(0, 6)]) iv iv_58 := by rw [ei_59]; exact hF1.put (Or.inl (by decide))
                    have kf_60 := congrArg Int32.toInt (show iv_58 0 0 6 = iv 0 0 6 by rw [ei_59]; exact up3_ne (fun z => absurd z.1 (by decide)))
                    refine lv_aload_n hx hb dX12_leg_97 rfl (lv_at hl 0 rfl) ?_
                    refine g_0_8 C hU hG (h1_0 hG) fl_X12_25 dX12_leg_98 ?_
                    refine lv_aload_n hx hb dX12_leg_101 rfl (lv_at hl 0 rfl) ?_
                    refine g_0_6 C hU hG (h1_0 hG) fl_X12_160 dX12_leg_102 (fun x_61 e_62 le_62 ue_62 => ?_)
                    have te_62 := congrArg Int32.toInt e_62
                    refine lv_iload_n hx hb dX12_leg_105 rfl (lv_at hl 2 rfl) ?_
                    refine s_6 C hU hS (h1_6 hG) (x := x_61) (by omega) (by omega) dX12_leg_106 (fun iv_63 H locs ei_64 hU hS => ?_)
                    have hG : GI al iv_63 rv := by rw [ei_64]; exact hG.puti (show _ ∧ _ from ⟨show (0 : Int) ≤ _ by omega, show _ ≤ (9 : Int) by omega⟩) (nsA (by decide) _)
                    have hF1 : FR ([16, 5, 6, 7, 8, 9, 10], [(0, 6)]) iv iv_63 := by rw [ei_64]; exact hF1.put (Or.inl (by decide))
                    have kf_65 := congrArg Int32.toInt (show iv_63 0 0 6 = iv_58 0 0 6 by rw [ei_64]; exact up3_ne (fun z => absurd z.1 (by decide)))
                    refine lv_aload_n hx hb dX12_leg_107 rfl (lv_at hl 0 rfl) ?_
                    refine g_0_9 C hU hG (h1_0 hG) fl_X12_28 dX12_leg_108 ?_
                    refine lv_aload_n hx hb dX12_leg_111 rfl (lv_at hl 0 rfl) ?_
                    refine g_0_6 C hU hG (h1_0 hG) fl_X12_160 dX12_leg_112 (fun x_66 e_67 le_67 ue_67 => ?_)
                    have te_67 := congrArg Int32.toInt e_67
                    refine lv_iload_n hx hb dX12_leg_115 rfl (lv_at hl 3 rfl) ?_
                    refine s_7 C hU hS (h1_7 hG) (x := x_66) (by omega) (by omega) dX12_leg_116 (fun iv_68 H locs ei_69 hU hS => ?_)
                    have hG : GI al iv_68 rv := by rw [ei_69]; exact hG.puti (show _ ∧ _ from ⟨(fb_rng _).1, Int.le_of_lt_add_one (fb_rng _).2⟩) (nsA (by decide) _)
                    have hF1 : FR ([16, 5, 6, 7, 8, 9, 10], [(0, 6)]) iv iv_68 := by rw [ei_69]; exact hF1.put (Or.inl (by decide))
                    have kf_70 := congrArg Int32.toInt (show iv_68 0 0 6 = iv_63 0 0 6 by rw [ei_69]; exact up3_ne (fun z => absurd z.1 (by decide)))
                    refine lv_aload_n hx hb dX12_leg_117 rfl (lv_at hl 0 rfl) ?_
                    refine g_0_10 C hU hG (h1_0 hG) fl_X12_31 dX12_leg_118 ?_
                    refine lv_aload_n hx hb dX12_leg_121 rfl (lv_at hl 0 rfl) ?_
                    refine g_0_6 C hU hG (h1_0 hG) fl_X12_160 dX12_leg_122 (fun x_71 e_72 le_72 ue_72 => ?_)
                    have te_72 := congrArg Int32.toInt e_72
                    refine lv_iload hx hb dX12_leg_125 (lv_at hl 4 rfl) ?_
                    refine s_8 C hU hS (h1_8 hG) (x := x_71) (by omega) (by omega) dX12_leg_127 (fun iv_73 H locs ei_74 hU hS => ?_)
                    have hG : GI al iv_73 rv := by rw [ei_74]; exact hG.puti (show _ ∧ _ from ⟨(fb_rng _).1, Int.le_of_lt_add_one (fb_rng _).2⟩) (nsA (by decide) _)
                    have hF1 : FR ([16, 5, 6, 7, 8, 9, 10], [(0, 6)]) iv iv_73 := by rw [ei_74]; exact hF1.put (Or.inl (by decide))
                    have kf_75 := congrArg Int32.toInt (show iv_73 0 0 6 = iv_68 0 0 6 by rw [ei_74]; exact up3_ne (fun z => absurd z.1 (by decide)))
                    refine lv_aload_n hx hb dX12_leg_128 rfl (lv_at hl 0 rfl) ?_
                    refine g_0_11 C hU hG (h1_0 hG) fl_X12_34 dX12_leg_129 ?_
                    refine lv_aload_n hx hb dX12_leg_132 rfl (lv_at hl 0 rfl) ?_
                    refine g_0_6 C hU hG (h1_0 hG) fl_X12_160 dX12_leg_133 (fun x_76 e_77 le_77 ue_77 => ?_)
                    have te_77 := congrArg Int32.toInt e_77
                    refine lv_iload hx hb dX12_leg_136 (lv_at hl 5 rfl) ?_
                    refine s_9 C hU hS (h1_9 hG) (x := x_76) (by omega) (by omega) dX12_leg_138 (fun iv_78 H locs ei_79 hU hS => ?_)
                    have hG : GI al iv_78 rv := by rw [ei_79]; exact hG.put9 ⟨by omega, by omega⟩ (by omega) (by omega)
                    have hF1 : FR ([16, 5, 6, 7, 8, 9, 10], [(0, 6)]) iv iv_78 := by rw [ei_79]; exact hF1.put (Or.inl (by decide))
                    have kf_80 := congrArg Int32.toInt (show iv_78 0 0 6 = iv_73 0 0 6 by rw [ei_79]; exact up3_ne (fun z => absurd z.1 (by decide)))
                    refine lv_aload_n hx hb dX12_leg_139 rfl (lv_at hl 0 rfl) ?_
                    refine g_0_12 C hU hG (h1_0 hG) fl_X12_37 dX12_leg_140 ?_
                    refine lv_aload_n hx hb dX12_leg_143 rfl (lv_at hl 0 rfl) ?_
                    refine g_0_6 C hU hG (h1_0 hG) fl_X12_160 dX12_leg_144 (fun x_81 e_82 le_82 ue_82 => ?_)
                    have te_82 := congrArg Int32.toInt e_82
                    refine lv_iload hx hb dX12_leg_147 (lv_at hl 6 rfl) ?_
                    refine s_10 C hU hS (h1_10 hG) (x := x_81) (by omega) (by omega) dX12_leg_149 (fun iv_83 H locs ei_84 hU hS => ?_)
                    have hG : GI al iv_83 rv := by rw [ei_84]; exact hG.put10 ⟨by omega, by omega⟩ (by omega) (by omega)
                    have hF1 : FR ([16, 5, 6, 7, 8, 9, 10], [(0, 6)]) iv iv_83 := by rw [ei_84]; exact hF1.put (Or.inl (by decide))
                    have kf_85 := congrArg Int32.toInt (show iv_83 0 0 6 = iv_78 0 0 6 by rw [ei_84]; exact up3_ne (fun z => absurd z.1 (by decide)))
                    refine lv_aload_n hx hb dX12_leg_150 rfl (lv_at hl 0 rfl) ?_
                    refine lv_dup hx hb dX12_leg_151 rfl ?_
                    refine g_0_6 C hU hG (h1_0 hG) fl_X12_160 dX12_leg_152 (fun x_86 e_87 le_87 ue_87 => ?_)
                    have te_87 := congrArg Int32.toInt e_87
                    have a1 : iv_83 10 0 x_86.toNatClampNeg = rr := by rw [ei_84, clamp_eq (show x_86.toInt = x_81.toInt by omega)]; exact up3_self _ _ _ _ _
                    have a2 : iv_83 9 0 x_86.toNatClampNeg = lv_ := by rw [ei_84, up3_ne (fun z => absurd z.1 (by decide)), ei_79, clamp_eq (show x_86.toInt = x_76.toInt by omega)]; exact up3_self _ _ _ _ _
                    refine lv_iconst (v := 1) hx hb dX12_leg_155 (by decide) ?_
                    refine lv_iadd hx hb dX12_leg_156 ?_
                    refine lv_topi (fun x_88 e_89 => ?_)
                    have te_89 : x_88.toInt = (x_86 : Int32).toInt + (1 : Int32).toInt := by rw [e_89]; exact fb_addI (by omega) (by omega)
                    refine p_0_6 C hU hS (h1_0 hG) fl_X12_160 dX12_leg_157 (fun iv_90 H locs ei_91 hU hS => ?_)
                    have hG : GI al iv_90 rv := by rw [ei_91]; exact hG.put6 (x := x_86) ⟨by omega, by omega⟩ (by omega) (by omega) (by rw [a1, a2]; omega)
                    have hF1 : FR ([16, 5, 6, 7, 8, 9, 10], [(0, 6)]) iv iv_90 := by rw [ei_91]; exact hF1.put (by decide)
                    refine lv_aload_n hx hb dX12_leg_160 rfl (lv_at hl 0 rfl) ?_
                    refine g_0_6 C hU hG (h1_0 hG) fl_X12_160 dX12_leg_161 (fun x_92 e_93 le_93 ue_93 => ?_)
                    have te_93 := congrArg Int32.toInt e_93
                    have hz_ := e_93
                    rw [ei_91, up3_self] at hz_
                    have tz_ := congrArg Int32.toInt hz_
                    refine lv_iconst (v := 1) hx hb dX12_leg_164 (by decide) ?_
                    refine lv_isub hx hb dX12_leg_165 ?_
                    refine lv_topi (fun x_94 e_95 => ?_)
                    have te_95 : x_94.toInt = (x_92 : Int32).toInt - (1 : Int32).toInt := by rw [e_95]; exact fb_subI (by omega) (by omega)
                    exact hret (⟨hG, hF1, hF2, Or.inl ⟨(by unfold spLeg; (repeat' split) <;> first | rfl | omega), by omega, by rw [ei_91, up3_self]; omega, lg_ok ei_59 ei_64 ei_69 ei_74 ei_79 ei_84 ei_91 (by omega) (by omega) (by omega) (by omega) (by omega) (by omega)⟩⟩) hU hS dX12_leg_166
                  ·
                    refine lv_aload_n hx hb dX12_leg_80 rfl (lv_at hl 0 rfl) ?_
                    refine lv_bipush (v := (-6)) hx hb dX12_leg_81 (by decide) ?_
                    refine q_fi (q_runV (t := 0) (i := 0) (As := [.int (-6)]) (rest := []) C hU (c_X12_refuse hG (-6) (by omega)) vm_X12_refuse ml_X12_164 k_0.1 (hc := rfl) rfl (h1_0 hG) hl.1 rfl rfl (Nat.le_of_ble_eq_true rfl) dX12_leg_83 rfl rfl ⟨Nat.le_of_ble_eq_true rfl, Nat.le_of_ble_eq_true rfl⟩ ⟨Nat.le_refl _, Nat.le_refl _⟩) hS (fun x_101 iv_97 rv_98 H locs hG fa_99 fb_100 hp_96 hU hS => ?_)
                    have hF1 := hF1.tr (m := ([16, 5, 6, 7, 8, 9, 10], [(0, 6)])) fa_99 (by decide)
                    have hF2 := hF2.tr (m := ([16, 5, 6, 7, 8, 9, 10], [(0, 6)])) fb_100 (by decide)
                    exact hret (⟨hG, hF1, hF2, sp_no (z := (-6)) (by unfold spLeg; (repeat' split) <;> first | rfl | omega) (by decide) hp_96 (⟨fa_99 0 0 6 (by decide), lg_fr fa_99 (by decide)⟩)⟩) hU hS dX12_leg_86
              ·
                refine lv_aload_n hx hb dX12_leg_56 rfl (lv_at hl 0 rfl) ?_
                refine lv_bipush (v := (-4)) hx hb dX12_leg_57 (by decide) ?_
                refine q_fi (q_runV (t := 0) (i := 0) (As := [.int (-4)]) (rest := []) C hU (c_X12_refuse hG (-4) (by omega)) vm_X12_refuse ml_X12_164 k_0.1 (hc := rfl) rfl (h1_0 hG) hl.1 rfl rfl (Nat.le_of_ble_eq_true rfl) dX12_leg_59 rfl rfl ⟨Nat.le_of_ble_eq_true rfl, Nat.le_of_ble_eq_true rfl⟩ ⟨Nat.le_refl _, Nat.le_refl _⟩) hS (fun x_107 iv_103 rv_104 H locs hG fa_105 fb_106 hp_102 hU hS => ?_)
                have hF1 := hF1.tr (m := ([16, 5, 6, 7, 8, 9, 10], [(0, 6)])) fa_105 (by decide)
                have hF2 := hF2.tr (m := ([16, 5, 6, 7, 8, 9, 10], [(0, 6)])) fb_106 (by decide)
                exact hret (⟨hG, hF1, hF2, sp_no (z := (-4)) (by unfold spLeg; (repeat' split) <;> first | rfl | omega) (by decide) hp_102 (⟨fa_105 0 0 6 (by decide), lg_fr fa_105 (by decide)⟩)⟩) hU hS dX12_leg_62
          ·
            refine lv_aload_n hx hb dX12_leg_38 rfl (lv_at hl 0 rfl) ?_
            refine lv_iconst (v := (-1)) hx hb dX12_leg_39 (by decide) ?_
            refine q_fi (q_runV (t := 0) (i := 0) (As := [.int (-1)]) (rest := []) C hU (c_X12_refuse hG (-1) (by omega)) vm_X12_refuse ml_X12_164 k_0.1 (hc := rfl) rfl (h1_0 hG) hl.1 rfl rfl (Nat.le_of_ble_eq_true rfl) dX12_leg_40 rfl rfl ⟨Nat.le_of_ble_eq_true rfl, Nat.le_of_ble_eq_true rfl⟩ ⟨Nat.le_refl _, Nat.le_refl _⟩) hS (fun x_113 iv_109 rv_110 H locs hG fa_111 fb_112 hp_108 hU hS => ?_)
            have hF1 := hF1.tr (m := ([16, 5, 6, 7, 8, 9, 10], [(0, 6)])) fa_111 (by decide)
            have hF2 := hF2.tr (m := ([16, 5, 6, 7, 8, 9, 10], [(0, 6)])) fb_112 (by decide)
            exact hret (⟨hG, hF1, hF2, sp_no (z := (-1)) (by unfold spLeg; (repeat' split) <;> first | rfl | omega) (by decide) hp_108 (⟨fa_111 0 0 6 (by decide), lg_fr fa_111 (by decide)⟩)⟩) hU hS dX12_leg_43
set_option maxHeartbeats 4000000 in
set_option maxRecDepth 100000 in
theorem c_X11_leg_y {l : Launch} {D : va_G} {cA : FieldType → ClassId} {sz : Nat} {al : Al} {iv : Iv} {rv : Rv} (hG : GI al iv rv) (a : Int32) (b : Int32) (pl : Int32) (cr : Int32) (lv_ : Int32) (ar : Int32) : Met l yX11_leg (wd yX11_leg cX11_leg 9 (some .int)) (rmA 3 1 15) (PcA D cA sz al iv rv [.ref (al.2 49 0), .int a, .int b, .int pl, .int cr, .int lv_, .int ar] (fun _ => True)) (QIA D cA sz (fun r al' iv' rv' => GI al' iv' rv' ∧ EX ([51, 58], [(57, 1)]) al iv rv al' iv' rv' ∧ ((spLeg a b pl cr lv_ ar (iv 57 0 1).toInt = 0 ∧ r.toInt = (iv 57 0 1).toInt ∧ (iv' 57 0 1).toInt = (iv 57 0 1).toInt + 1 ∧ ∃ (aa : Nat) (siz : Int32), siz.toInt = al.1 62 + 1 ∧ al' = grow al 62 aa ∧ iv' = legIv iv (al.1 62) r pl cr lv_ ar siz ∧ rv' = legRv rv (al.1 62) a.toNatClampNeg b.toNatClampNeg) ∨ (spLeg a b pl cr lv_ ar (iv 57 0 1).toInt ≠ 0 ∧ r = spLeg a b pl cr lv_ ar (iv 57 0 1).toInt ∧ iv' 57 0 1 = iv 57 0 1)))) 1 15 (Aq sz) := by
  refine mk_ia (by decide) (Nat.le_of_ble_eq_true rfl) rfl ?_
  intro p e s m args below meth c ls Q H locs C hU hS hX hz0 hl hret
  have hx := C.1.1
  have hb := C.1.2.1
  have hl : lv_has ls 9 [(0, .ref (al.2 49 0)), (1, .int a), (2, .int b), (3, .int pl), (4, .int cr), (5, .int lv_), (6, .int ar)] := hl
  have hG0 := hG
  have hF1 : FR ([51, 58], [(57, 1)]) iv iv := FR.rf
  have hF2 : FR ([51, 58], [(57, 1)]) rv rv := FR.rf
  have km6 : ((-6) : Int32).toInt = -6 := by decide
  have km4 : ((-4) : Int32).toInt = -4 := by decide
  have km1 : ((-1) : Int32).toInt = -1 := by decide
  have k6 : (6 : Int32).toInt = 6 := by decide
  have k20000 : (20000 : Int32).toInt = 20000 := by decide
  refine lv_aload_n hx hb dX11_leg_0 rfl (lv_at hl 0 rfl) ?_
  refine g_49_0 C hU hG (h1_49 hG) fl_X11_10 dX11_leg_1 ?_
  refine lv_iload_n hx hb dX11_leg_4 rfl (lv_at hl 1 rfl) ?_
  refine q_pr (q_runV (t := 52) (i := 0) (As := [.int a]) (rest := []) C hU (c_X7_find hG a ) vm_X7_find ml_X11_81 k_52.1 (hc := rfl) rfl (h1_52 hG) hl.1 rfl rfl (Nat.le_of_ble_eq_true rfl) dX11_leg_5 rfl rfl ⟨Nat.le_of_ble_eq_true rfl, Nat.le_of_ble_eq_true rfl⟩ ⟨Nat.le_of_ble_eq_true rfl, Nat.le_of_ble_eq_true rfl⟩) hS (fun r_2 H locs hp_1 hU hS => ?_)
  have hb_3 := hp_1.1
  refine b_astore (lv' := [(7, rfv al 56 r_2), (0, .ref (al.2 49 0)), (1, .int a), (2, .int b), (3, .int pl), (4, .int cr), (5, .int lv_), (6, .int ar)]) hx hb dX11_leg_8 hl (by decide) rfl (fun ls hl => ?_)
  refine lv_aload_n hx hb dX11_leg_10 rfl (lv_at hl 1 rfl) ?_
  refine g_49_0 C hU hG (h1_49 hG) fl_X11_10 dX11_leg_11 ?_
  refine lv_iload_n hx hb dX11_leg_14 rfl (lv_at hl 3 rfl) ?_
  refine q_pr (q_runV (t := 52) (i := 0) (As := [.int b]) (rest := []) C hU (c_X7_find hG b ) vm_X7_find ml_X11_81 k_52.1 (hc := rfl) rfl (h1_52 hG) hl.1 rfl rfl (Nat.le_of_ble_eq_true rfl) dX11_leg_15 rfl rfl ⟨Nat.le_of_ble_eq_true rfl, Nat.le_of_ble_eq_true rfl⟩ ⟨Nat.le_of_ble_eq_true rfl, Nat.le_of_ble_eq_true rfl⟩) hS (fun r_5 H locs hp_4 hU hS => ?_)
  have hb_6 := hp_4.1
  refine b_astore (lv' := [(8, rfv al 56 r_5), (7, rfv al 56 r_2), (0, .ref (al.2 49 0)), (1, .int a), (2, .int b), (3, .int pl), (4, .int cr), (5, .int lv_), (6, .int ar)]) hx hb dX11_leg_18 hl (by decide) (by simp [List.filter_cons, rfv_cat]) (fun ls hl => ?_)
  refine b_aload (al := al) (t' := 56) (r := r_2) hx hb dX11_leg_20 (lv_at hl 1 rfl) ?_
  refine b_ifnull (tgt := 37) hx hb dX11_leg_22 (by decide) (fun ej_9 => ?_) (fun j_8 ej_9 => ?_)
  ·
    subst ej_9
    have hl : lv_has ls 9 [(8, rfv al 56 r_5), (7, rfv al 56 none), (0, .ref (al.2 49 0)), (1, .int a), (2, .int b), (3, .int pl), (4, .int cr), (5, .int lv_), (6, .int ar)] := hl
    have hq4 := hp_1.2.2 rfl
    refine lv_aload_n hx hb dX11_leg_37 rfl (lv_at hl 2 rfl) ?_
    refine lv_iconst (v := (-1)) hx hb dX11_leg_38 (by decide) ?_
    refine q_fi (q_runV (t := 49) (i := 0) (As := [.int (-1)]) (rest := []) C hU (c_X11_refuse hG (-1) (by omega)) vm_X11_refuse ml_X11_77 k_49.1 (hc := rfl) rfl (h1_49 hG) hl.1 rfl rfl (Nat.le_of_ble_eq_true rfl) dX11_leg_39 rfl rfl ⟨Nat.le_of_ble_eq_true rfl, Nat.le_of_ble_eq_true rfl⟩ ⟨Nat.le_of_ble_eq_true rfl, Nat.le_of_ble_eq_true rfl⟩) hS (fun x_15 iv_11 rv_12 H locs hG fa_13 fb_14 hp_10 hU hS => ?_)
    have hF1 := hF1.tr (m := ([51, 58], [(57, 1)])) fa_13 (by decide)
    have hF2 := hF2.tr (m := ([51, 58], [(57, 1)])) fb_14 (by decide)
    refine W.widen (k := 1) (n := 15) (Nat.zero_le _) (Nat.zero_le _) ?_
    exact hret (⟨hG, EX.of hF1 hF2, sp_no (z := (-1)) (by unfold spLeg; (repeat' split) <;> first | rfl | omega) (by decide) hp_10 (fa_13 57 0 1 (by decide))⟩) hU hS dX11_leg_42
  ·
    subst ej_9
    have hl : lv_has ls 9 [(8, rfv al 56 r_5), (7, .ref (al.2 56 j_8)), (0, .ref (al.2 49 0)), (1, .int a), (2, .int b), (3, .int pl), (4, .int cr), (5, .int lv_), (6, .int ar)] := hl
    have hb_16 : j_8 < al.1 56 := hb_3 j_8 rfl
    have hq4 := hp_1.2.1 _ rfl
    have hn4 := hq4.1
    rw [clamp_n] at hn4
    refine b_aload (al := al) (t' := 56) (r := r_5) hx hb dX11_leg_25 (lv_at hl 0 rfl) ?_
    refine b_ifnull (tgt := 37) hx hb dX11_leg_27 (by decide) (fun ej_19 => ?_) (fun j_18 ej_19 => ?_)
    ·
      subst ej_19
      have hl : lv_has ls 9 [(8, rfv al 56 none), (7, .ref (al.2 56 j_8)), (0, .ref (al.2 49 0)), (1, .int a), (2, .int b), (3, .int pl), (4, .int cr), (5, .int lv_), (6, .int ar)] := hl
      have hq5 := hp_4.2.2 rfl
      refine lv_aload_n hx hb dX11_leg_37 rfl (lv_at hl 2 rfl) ?_
      refine lv_iconst (v := (-1)) hx hb dX11_leg_38 (by decide) ?_
      refine q_fi (q_runV (t := 49) (i := 0) (As := [.int (-1)]) (rest := []) C hU (c_X11_refuse hG (-1) (by omega)) vm_X11_refuse ml_X11_77 k_49.1 (hc := rfl) rfl (h1_49 hG) hl.1 rfl rfl (Nat.le_of_ble_eq_true rfl) dX11_leg_39 rfl rfl ⟨Nat.le_of_ble_eq_true rfl, Nat.le_of_ble_eq_true rfl⟩ ⟨Nat.le_of_ble_eq_true rfl, Nat.le_of_ble_eq_true rfl⟩) hS (fun x_25 iv_21 rv_22 H locs hG fa_23 fb_24 hp_20 hU hS => ?_)
      have hF1 := hF1.tr (m := ([51, 58], [(57, 1)])) fa_23 (by decide)
      have hF2 := hF2.tr (m := ([51, 58], [(57, 1)])) fb_24 (by decide)
      refine W.widen (k := 1) (n := 15) (Nat.zero_le _) (Nat.zero_le _) ?_
      exact hret (⟨hG, EX.of hF1 hF2, sp_no (z := (-1)) (by unfold spLeg; (repeat' split) <;> first | rfl | omega) (by decide) hp_20 (fa_23 57 0 1 (by decide))⟩) hU hS dX11_leg_42
    ·
      subst ej_19
      have hl : lv_has ls 9 [(8, .ref (al.2 56 j_18)), (7, .ref (al.2 56 j_8)), (0, .ref (al.2 49 0)), (1, .int a), (2, .int b), (3, .int pl), (4, .int cr), (5, .int lv_), (6, .int ar)] := hl
      have hb_26 : j_18 < al.1 56 := hb_6 j_18 rfl
      have hq5 := hp_4.2.1 _ rfl
      have hn5 := hq5.1
      rw [clamp_n] at hn5
      refine lv_aload hx hb dX11_leg_30 (lv_at hl 1 rfl) ?_
      refine lv_aload hx hb dX11_leg_32 (lv_at hl 0 rfl) ?_
      refine b_acmp_ne (tgt := 43) hx hb hU hb_16 hb_26 dX11_leg_34 (by decide) (fun c_27 => ?_) (fun c_27 => ?_)
      ·
        refine lv_bipush (v := 6) hx hb dX11_leg_43 (by decide) ?_
        refine lv_iload_n hx hb dX11_leg_45 rfl (lv_at hl 5 rfl) ?_
        refine q_pi (q_runS (As := [.int 6, .int pl]) (rest := []) C hU (c_X11_isOneOf  6 pl ) sm_X11_isOneOf ml_X11_85 hl.1 rfl rfl (Nat.le_of_ble_eq_true rfl) dX11_leg_46 rfl rfl ⟨Nat.le_of_ble_eq_true rfl, Nat.le_of_ble_eq_true rfl⟩ ⟨Nat.le_of_ble_eq_true rfl, Nat.le_of_ble_eq_true rfl⟩) hS (fun x_29 H locs hp_28 hU hS => ?_)
        refine b_if_eq (tgt := 62) hx hb dX11_leg_49 (by decide) (fun c_30 => ?_) (fun c_30 => ?_)
        ·
          refine lv_aload_n hx hb dX11_leg_62 rfl (lv_at hl 2 rfl) ?_
          refine lv_iconst (v := (-1)) hx hb dX11_leg_63 (by decide) ?_
          refine q_fi (q_runV (t := 49) (i := 0) (As := [.int (-1)]) (rest := []) C hU (c_X11_refuse hG (-1) (by omega)) vm_X11_refuse ml_X11_77 k_49.1 (hc := rfl) rfl (h1_49 hG) hl.1 rfl rfl (Nat.le_of_ble_eq_true rfl) dX11_leg_64 rfl rfl ⟨Nat.le_of_ble_eq_true rfl, Nat.le_of_ble_eq_true rfl⟩ ⟨Nat.le_of_ble_eq_true rfl, Nat.le_of_ble_eq_true rfl⟩) hS (fun x_36 iv_32 rv_33 H locs hG fa_34 fb_35 hp_31 hU hS => ?_)
          have hF1 := hF1.tr (m := ([51, 58], [(57, 1)])) fa_34 (by decide)
          have hF2 := hF2.tr (m := ([51, 58], [(57, 1)])) fb_35 (by decide)
          refine W.widen (k := 1) (n := 15) (Nat.zero_le _) (Nat.zero_le _) ?_
          exact hret (⟨hG, EX.of hF1 hF2, sp_no (z := (-1)) (by unfold spLeg; (repeat' split) <;> first | rfl | omega) (by decide) hp_31 (fa_34 57 0 1 (by decide))⟩) hU hS dX11_leg_67
        ·
          refine lv_bipush (v := 6) hx hb dX11_leg_52 (by decide) ?_
          refine lv_iload hx hb dX11_leg_54 (lv_at hl 6 rfl) ?_
          refine q_pi (q_runS (As := [.int 6, .int cr]) (rest := []) C hU (c_X11_isOneOf  6 cr ) sm_X11_isOneOf ml_X11_85 hl.1 rfl rfl (Nat.le_of_ble_eq_true rfl) dX11_leg_56 rfl rfl ⟨Nat.le_of_ble_eq_true rfl, Nat.le_of_ble_eq_true rfl⟩ ⟨Nat.le_of_ble_eq_true rfl, Nat.le_of_ble_eq_true rfl⟩) hS (fun x_38 H locs hp_37 hU hS => ?_)
          refine b_if_ne (tgt := 68) hx hb dX11_leg_59 (by decide) (fun c_39 => ?_) (fun c_39 => ?_)
          ·
            refine lv_iload hx hb dX11_leg_68 (lv_at hl 7 rfl) ?_
            refine b_if_lt (tgt := 80) hx hb dX11_leg_70 (by decide) (fun c_40 => ?_) (fun c_40 => ?_)
            ·
              refine lv_aload_n hx hb dX11_leg_80 rfl (lv_at hl 2 rfl) ?_
              refine lv_bipush (v := (-4)) hx hb dX11_leg_81 (by decide) ?_
              refine q_fi (q_runV (t := 49) (i := 0) (As := [.int (-4)]) (rest := []) C hU (c_X11_refuse hG (-4) (by omega)) vm_X11_refuse ml_X11_77 k_49.1 (hc := rfl) rfl (h1_49 hG) hl.1 rfl rfl (Nat.le_of_ble_eq_true rfl) dX11_leg_83 rfl rfl ⟨Nat.le_of_ble_eq_true rfl, Nat.le_of_ble_eq_true rfl⟩ ⟨Nat.le_of_ble_eq_true rfl, Nat.le_of_ble_eq_true rfl⟩) hS (fun x_46 iv_42 rv_43 H locs hG fa_44 fb_45 hp_41 hU hS => ?_)
              have hF1 := hF1.tr (m := ([51, 58], [(57, 1)])) fa_44 (by decide)
              have hF2 := hF2.tr (m := ([51, 58], [(57, 1)])) fb_45 (by decide)
              refine W.widen (k := 1) (n := 15) (Nat.zero_le _) (Nat.zero_le _) ?_
              exact hret (⟨hG, EX.of hF1 hF2, sp_no (z := (-4)) (by unfold spLeg; (repeat' split) <;> first | rfl | omega) (by decide) hp_41 (fa_44 57 0 1 (by decide))⟩) hU hS dX11_leg_86
            ·
              refine lv_iload hx hb dX11_leg_73 (lv_at hl 8 rfl) ?_
              refine lv_iload hx hb dX11_leg_75 (lv_at hl 7 rfl) ?_
              refine b_icmp_gt (tgt := 87) hx hb dX11_leg_77 (by decide) (fun c_47 => ?_) (fun c_47 => ?_)
              ·
                refine lv_iload hx hb dX11_leg_87 (lv_at hl 7 rfl) ?_
                refine lv_sipush (v := 20000) hx hb dX11_leg_89 (by decide) ?_
                refine b_icmp_gt (tgt := 113) hx hb dX11_leg_92 (by decide) (fun c_48 => ?_) (fun c_48 => ?_)
                ·
                  refine lv_aload_n hx hb dX11_leg_113 rfl (lv_at hl 2 rfl) ?_
                  refine lv_bipush (v := (-6)) hx hb dX11_leg_114 (by decide) ?_
                  refine q_fi (q_runV (t := 49) (i := 0) (As := [.int (-6)]) (rest := []) C hU (c_X11_refuse hG (-6) (by omega)) vm_X11_refuse ml_X11_77 k_49.1 (hc := rfl) rfl (h1_49 hG) hl.1 rfl rfl (Nat.le_of_ble_eq_true rfl) dX11_leg_116 rfl rfl ⟨Nat.le_of_ble_eq_true rfl, Nat.le_of_ble_eq_true rfl⟩ ⟨Nat.le_of_ble_eq_true rfl, Nat.le_of_ble_eq_true rfl⟩) hS (fun x_54 iv_50 rv_51 H locs hG fa_52 fb_53 hp_49 hU hS => ?_)
                  have hF1 := hF1.tr (m := ([51, 58], [(57, 1)])) fa_52 (by decide)
                  have hF2 := hF2.tr (m := ([51, 58], [(57, 1)])) fb_53 (by decide)
                  refine W.widen (k := 1) (n := 15) (Nat.zero_le _) (Nat.zero_le _) ?_
                  exact hret (⟨hG, EX.of hF1 hF2, sp_no (z := (-6)) (by unfold spLeg; (repeat' split) <;> first | rfl | omega) (by decide) hp_49 (fa_52 57 0 1 (by decide))⟩) hU hS dX11_leg_119
                ·
                  refine lv_iload hx hb dX11_leg_95 (lv_at hl 8 rfl) ?_
                  refine lv_sipush (v := 20000) hx hb dX11_leg_97 (by decide) ?_
                  refine b_icmp_gt (tgt := 113) hx hb dX11_leg_100 (by decide) (fun c_55 => ?_) (fun c_55 => ?_)
                  ·
                    refine lv_aload_n hx hb dX11_leg_113 rfl (lv_at hl 2 rfl) ?_
                    refine lv_bipush (v := (-6)) hx hb dX11_leg_114 (by decide) ?_
                    refine q_fi (q_runV (t := 49) (i := 0) (As := [.int (-6)]) (rest := []) C hU (c_X11_refuse hG (-6) (by omega)) vm_X11_refuse ml_X11_77 k_49.1 (hc := rfl) rfl (h1_49 hG) hl.1 rfl rfl (Nat.le_of_ble_eq_true rfl) dX11_leg_116 rfl rfl ⟨Nat.le_of_ble_eq_true rfl, Nat.le_of_ble_eq_true rfl⟩ ⟨Nat.le_of_ble_eq_true rfl, Nat.le_of_ble_eq_true rfl⟩) hS (fun x_61 iv_57 rv_58 H locs hG fa_59 fb_60 hp_56 hU hS => ?_)
                    have hF1 := hF1.tr (m := ([51, 58], [(57, 1)])) fa_59 (by decide)
                    have hF2 := hF2.tr (m := ([51, 58], [(57, 1)])) fb_60 (by decide)
                    refine W.widen (k := 1) (n := 15) (Nat.zero_le _) (Nat.zero_le _) ?_
                    exact hret (⟨hG, EX.of hF1 hF2, sp_no (z := (-6)) (by unfold spLeg; (repeat' split) <;> first | rfl | omega) (by decide) hp_56 (fa_59 57 0 1 (by decide))⟩) hU hS dX11_leg_119
                  ·
                    refine lv_aload_n hx hb dX11_leg_103 rfl (lv_at hl 2 rfl) ?_
                    refine g_49_1 C hU hG (h1_49 hG) fl_X11_19 dX11_leg_104 ?_
                    refine q_pi (q_runV (t := 57) (i := 0) (As := []) (rest := []) C hU (c_X10_isFull hG  ) vm_X10_isFull ml_X11_115 k_57.1 (hc := rfl) rfl (h1_57 hG) hl.1 rfl rfl (Nat.le_of_ble_eq_true rfl) dX11_leg_107 rfl rfl ⟨Nat.le_of_ble_eq_true rfl, Nat.le_of_ble_eq_true rfl⟩ ⟨Nat.le_of_ble_eq_true rfl, Nat.le_of_ble_eq_true rfl⟩) hS (fun x_63 H locs hp_62 hU hS => ?_)
                    refine b_if_eq (tgt := 120) hx hb dX11_leg_110 (by decide) (fun c_64 => ?_) (fun c_64 => ?_)
                    ·
                      refine lv_aload_n hx hb dX11_leg_120 rfl (lv_at hl 2 rfl) ?_
                      refine g_49_1 C hU hG (h1_49 hG) fl_X11_19 dX11_leg_121 ?_
                      refine lv_aload hx hb dX11_leg_124 (lv_at hl 1 rfl) ?_
                      refine lv_aload hx hb dX11_leg_126 (lv_at hl 0 rfl) ?_
                      refine lv_iload_n hx hb dX11_leg_128 rfl (lv_at hl 5 rfl) ?_
                      refine lv_iload hx hb dX11_leg_129 (lv_at hl 6 rfl) ?_
                      refine lv_iload hx hb dX11_leg_131 (lv_at hl 7 rfl) ?_
                      refine lv_iload hx hb dX11_leg_133 (lv_at hl 8 rfl) ?_
                      refine q_ciA (q_runVA (t := 57) (i := 0) (As := [.ref (al.2 56 j_8), .ref (al.2 56 j_18), .int pl, .int cr, .int lv_, .int ar]) (rest := []) C hU (Nat.le_trans hz0 hS.1) (c_X10_add hG (j_8) hb_16 (j_18) hb_26 pl cr lv_ ar (by omega) (by omega) (by omega) (by omega) (by omega)) vm_X10_add ml_X11_119 k_57.1 (hc := rfl) rfl (h1_57 hG) hl.1 rfl rfl (Nat.le_of_ble_eq_true rfl) dX11_leg_135 rfl rfl ⟨Nat.le_of_ble_eq_true rfl, Nat.le_of_ble_eq_true rfl⟩ ⟨Nat.le_of_ble_eq_true rfl, Nat.le_of_ble_eq_true rfl⟩) hS (Nat.le_trans hz0 hS.1) (fun x_66 al' iv' rv' H locs hp_65 hU hS _ => ?_)
                      exact hret (⟨hp_65.1, (EX.of hF1 hF2).tr hp_65.2.1 (by decide) (by decide), Or.inl ⟨(by unfold spLeg; (repeat' split) <;> first | rfl | omega), by rw [hp_65.2.2.1], leg_cnt hG0 hp_65.2.2.2, (by have z := hp_65.2.2.2; rw [hq4.1, hq5.1] at z; exact z)⟩⟩) hU hS dX11_leg_138
                    ·
                      refine lv_aload_n hx hb dX11_leg_113 rfl (lv_at hl 2 rfl) ?_
                      refine lv_bipush (v := (-6)) hx hb dX11_leg_114 (by decide) ?_
                      refine q_fi (q_runV (t := 49) (i := 0) (As := [.int (-6)]) (rest := []) C hU (c_X11_refuse hG (-6) (by omega)) vm_X11_refuse ml_X11_77 k_49.1 (hc := rfl) rfl (h1_49 hG) hl.1 rfl rfl (Nat.le_of_ble_eq_true rfl) dX11_leg_116 rfl rfl ⟨Nat.le_of_ble_eq_true rfl, Nat.le_of_ble_eq_true rfl⟩ ⟨Nat.le_of_ble_eq_true rfl, Nat.le_of_ble_eq_true rfl⟩) hS (fun x_72 iv_68 rv_69 H locs hG fa_70 fb_71 hp_67 hU hS => ?_)
                      have hF1 := hF1.tr (m := ([51, 58], [(57, 1)])) fa_70 (by decide)
                      have hF2 := hF2.tr (m := ([51, 58], [(57, 1)])) fb_71 (by decide)
                      refine W.widen (k := 1) (n := 15) (Nat.zero_le _) (Nat.zero_le _) ?_
                      exact hret (⟨hG, EX.of hF1 hF2, sp_no (z := (-6)) (by unfold spLeg; (repeat' split) <;> first | rfl | omega) (by decide) hp_67 (fa_70 57 0 1 (by decide))⟩) hU hS dX11_leg_119
              ·
                refine lv_aload_n hx hb dX11_leg_80 rfl (lv_at hl 2 rfl) ?_
                refine lv_bipush (v := (-4)) hx hb dX11_leg_81 (by decide) ?_
                refine q_fi (q_runV (t := 49) (i := 0) (As := [.int (-4)]) (rest := []) C hU (c_X11_refuse hG (-4) (by omega)) vm_X11_refuse ml_X11_77 k_49.1 (hc := rfl) rfl (h1_49 hG) hl.1 rfl rfl (Nat.le_of_ble_eq_true rfl) dX11_leg_83 rfl rfl ⟨Nat.le_of_ble_eq_true rfl, Nat.le_of_ble_eq_true rfl⟩ ⟨Nat.le_of_ble_eq_true rfl, Nat.le_of_ble_eq_true rfl⟩) hS (fun x_78 iv_74 rv_75 H locs hG fa_76 fb_77 hp_73 hU hS => ?_)
                have hF1 := hF1.tr (m := ([51, 58], [(57, 1)])) fa_76 (by decide)
                have hF2 := hF2.tr (m := ([51, 58], [(57, 1)])) fb_77 (by decide)
                refine W.widen (k := 1) (n := 15) (Nat.zero_le _) (Nat.zero_le _) ?_
                exact hret (⟨hG, EX.of hF1 hF2, sp_no (z := (-4)) (by unfold spLeg; (repeat' split) <;> first | rfl | omega) (by decide) hp_73 (fa_76 57 0 1 (by decide))⟩) hU hS dX11_leg_86
          ·
            refine lv_aload_n hx hb dX11_leg_62 rfl (lv_at hl 2 rfl) ?_
            refine lv_iconst (v := (-1)) hx hb dX11_leg_63 (by decide) ?_
            refine q_fi (q_runV (t := 49) (i := 0) (As := [.int (-1)]) (rest := []) C hU (c_X11_refuse hG (-1) (by omega)) vm_X11_refuse ml_X11_77 k_49.1 (hc := rfl) rfl (h1_49 hG) hl.1 rfl rfl (Nat.le_of_ble_eq_true rfl) dX11_leg_64 rfl rfl ⟨Nat.le_of_ble_eq_true rfl, Nat.le_of_ble_eq_true rfl⟩ ⟨Nat.le_of_ble_eq_true rfl, Nat.le_of_ble_eq_true rfl⟩) hS (fun x_84 iv_80 rv_81 H locs hG fa_82 fb_83 hp_79 hU hS => ?_)
            have hF1 := hF1.tr (m := ([51, 58], [(57, 1)])) fa_82 (by decide)
            have hF2 := hF2.tr (m := ([51, 58], [(57, 1)])) fb_83 (by decide)
            refine W.widen (k := 1) (n := 15) (Nat.zero_le _) (Nat.zero_le _) ?_
            exact hret (⟨hG, EX.of hF1 hF2, sp_no (z := (-1)) (by unfold spLeg; (repeat' split) <;> first | rfl | omega) (by decide) hp_79 (fa_82 57 0 1 (by decide))⟩) hU hS dX11_leg_67
      ·
        refine lv_aload_n hx hb dX11_leg_37 rfl (lv_at hl 2 rfl) ?_
        refine lv_iconst (v := (-1)) hx hb dX11_leg_38 (by decide) ?_
        refine q_fi (q_runV (t := 49) (i := 0) (As := [.int (-1)]) (rest := []) C hU (c_X11_refuse hG (-1) (by omega)) vm_X11_refuse ml_X11_77 k_49.1 (hc := rfl) rfl (h1_49 hG) hl.1 rfl rfl (Nat.le_of_ble_eq_true rfl) dX11_leg_39 rfl rfl ⟨Nat.le_of_ble_eq_true rfl, Nat.le_of_ble_eq_true rfl⟩ ⟨Nat.le_of_ble_eq_true rfl, Nat.le_of_ble_eq_true rfl⟩) hS (fun x_90 iv_86 rv_87 H locs hG fa_88 fb_89 hp_85 hU hS => ?_)
        have hF1 := hF1.tr (m := ([51, 58], [(57, 1)])) fa_88 (by decide)
        have hF2 := hF2.tr (m := ([51, 58], [(57, 1)])) fb_89 (by decide)
        refine W.widen (k := 1) (n := 15) (Nat.zero_le _) (Nat.zero_le _) ?_
        exact hret (⟨hG, EX.of hF1 hF2, sp_no (z := (-1)) (by unfold spLeg; (repeat' split) <;> first | rfl | omega) (by decide) hp_85 (fa_88 57 0 1 (by decide))⟩) hU hS dX11_leg_42
