set_option maxHeartbeats 4000000 in
set_option maxRecDepth 100000 in
theorem c_X12_set_x {l : Launch} {D : va_G} {cA : FieldType → ClassId} {sz : Nat} {al : Al} {iv : Iv} {rv : Rv} (hG : GI al iv rv) (what : Int32) (v : Int32) : Met l yX12_set (wd yX12_set cX12_set 4 (some .int)) (rm 1) (PcW D cA sz al iv rv [.ref (al.2 0 0), .int what, .int v]) (QI D cA sz al (fI al ([16, 15], []) iv rv (fun r iv' rv' => (spSet what v = 0 ∧ r = iv 15 0 what.toNatClampNeg ∧ ∀ k, iv' 15 0 k = if k = what.toNatClampNeg then v else iv 15 0 k) ∨ (spSet what v ≠ 0 ∧ r = spSet what v ∧ ∀ k, iv' 15 0 k = iv 15 0 k)))) 0 0 (Aq sz) := by
  refine mk_i (by decide) (Nat.le_of_ble_eq_true rfl) rfl ?_
  intro p e s m args below meth c ls Q H locs C hU hS hl hret
  have hx := C.1.1
  have hb := C.1.2.1
  have hl : lv_has ls 4 [(0, .ref (al.2 0 0)), (1, .int what), (2, .int v)] := hl
  have hG0 := hG
  have h6 := le6 hG
  have h20 := le20 hG
  have h41 := le41 hG
  have hF1 : FR ([16, 15], []) iv iv := FR.rf
  have hF2 : FR ([16, 15], []) rv rv := FR.rf
  have km6 : ((-6) : Int32).toInt = -6 := by decide
  have km4 : ((-4) : Int32).toInt = -4 := by decide
  have km2 : ((-2) : Int32).toInt = -2 := by decide
  have k0 : (0 : Int32).toInt = 0 := by decide
  have k1 : (1 : Int32).toInt = 1 := by decide
  have k2 : (2 : Int32).toInt = 2 := by decide
  have k3 : (3 : Int32).toInt = 3 := by decide
  have k9 : (9 : Int32).toInt = 9 := by decide
  have k200 : (200 : Int32).toInt = 200 := by decide
  have k300 : (300 : Int32).toInt = 300 := by decide
  have k900 : (900 : Int32).toInt = 900 := by decide
  refine lv_iload_n hx hb dX12_set_0 rfl (lv_at hl 1 rfl) ?_
  refine lv_iconst (v := 0) hx hb dX12_set_1 (by decide) ?_
  refine lv_iconst (v := 3) hx hb dX12_set_2 (by decide) ?_
  refine q_pi (q_runS (As := [.int what, .int 0, .int 3]) (rest := []) C hU (c_X12_in  what 0 3 ) sm_X12_in ml_X12_156 hl.1 rfl rfl (Nat.le_of_ble_eq_true rfl) dX12_set_3 rfl rfl ⟨Nat.le_of_ble_eq_true rfl, Nat.le_of_ble_eq_true rfl⟩ ⟨Nat.le_refl _, Nat.le_refl _⟩) hS (fun x_2 H locs hp_1 hU hS => ?_)
  refine b_if_ne (tgt := 16) hx hb dX12_set_6 (by decide) (fun c_3 => ?_) (fun c_3 => ?_)
  ·
    refine lv_iload_n hx hb dX12_set_16 rfl (lv_at hl 2 rfl) ?_
    refine lv_iload_n hx hb dX12_set_17 rfl (lv_at hl 1 rfl) ?_
    refine lv_iconst (v := 3) hx hb dX12_set_18 (by decide) ?_
    have J_27 : ∀ (v_4 : Int32) (ls : Array Slot), lv_has ls 4 [(0, .ref (al.2 0 0)), (1, .int what), (2, .int v)] → (0 ≤ v_4.toInt ∧ v_4.toInt ≤ 1) → ((what.toInt = 3 ∧ v_4.toInt = 1) ∨ (¬ what.toInt = 3 ∧ v_4.toInt = 0)) → W p l e (rm 1) s m args below meth c H locs 0 0 Q (F0 m 27 ls [.int v_4, .int v]) := by
      intro v_4 ls hl i27_0 i27_1
      refine b_icmp_ge (tgt := 37) hx hb dX12_set_27 (by decide) (fun c_5 => ?_) (fun c_5 => ?_)
      ·
        refine lv_iload_n hx hb dX12_set_37 rfl (lv_at hl 2 rfl) ?_
        refine lv_iload_n hx hb dX12_set_38 rfl (lv_at hl 1 rfl) ?_
        have J_72 : ∀ (v_6 : Int32) (ls : Array Slot), lv_has ls 4 [(0, .ref (al.2 0 0)), (1, .int what), (2, .int v)] → (9 ≤ v_6.toInt ∧ v_6.toInt ≤ 900) → ((what.toInt = 0 ∧ v_6.toInt = 200) ∨ (what.toInt = 1 ∧ v_6.toInt = 900) ∨ (what.toInt = 2 ∧ v_6.toInt = 300) ∨ (what.toInt = 3 ∧ v_6.toInt = 9)) → W p l e (rm 1) s m args below meth c H locs 0 0 Q (F0 m 72 ls [.int v_6, .int v]) := by
          intro v_6 ls hl i72_0 i72_1
          refine b_icmp_le (tgt := 82) hx hb dX12_set_72 (by decide) (fun c_7 => ?_) (fun c_7 => ?_)
          ·
            refine lv_aload_n hx hb dX12_set_82 rfl (lv_at hl 0 rfl) ?_
            refine g_0_17 C hU hG (h1_0 hG) fl_X12_53 dX12_set_83 ?_
            refine lv_iload_n hx hb dX12_set_86 rfl (lv_at hl 1 rfl) ?_
            refine a_15 C hU hG (h1_15 hG) (x := what) (by omega) (by omega) dX12_set_87 (fun x_8 e_9 le_9 ue_9 => ?_)
            have te_9 := congrArg Int32.toInt e_9
            refine lv_istore_n (lv' := [(3, .int x_8), (0, .ref (al.2 0 0)), (1, .int what), (2, .int v)]) hx hb dX12_set_88 rfl hl (by decide) rfl (fun ls hl => ?_)
            refine lv_aload_n hx hb dX12_set_89 rfl (lv_at hl 1 rfl) ?_
            refine g_0_17 C hU hG (h1_0 hG) fl_X12_53 dX12_set_90 ?_
            refine lv_iload_n hx hb dX12_set_93 rfl (lv_at hl 2 rfl) ?_
            refine lv_iload_n hx hb dX12_set_94 rfl (lv_at hl 3 rfl) ?_
            refine s_15 C hU hS (h1_15 hG) (x := what) (by omega) (by omega) dX12_set_95 (fun iv_10 H locs ei_11 hU hS => ?_)
            have hG : GI al iv_10 rv := by rw [ei_11]; exact hG.puti (show _ ∧ _ from ⟨show (0 : Int) ≤ _ by omega, show _ ≤ (900 : Int) by omega⟩) (nsA (by decide) _)
            have hF1 : FR ([16, 15], []) iv iv_10 := by rw [ei_11]; exact hF1.put (Or.inl (by decide))
            refine lv_iload_n hx hb dX12_set_96 rfl (lv_at hl 0 rfl) ?_
            exact hret (⟨hG, hF1, hF2, Or.inl ⟨(by unfold spSet; (repeat' split) <;> first | rfl | omega), e_9, fun k => by rw [ei_11]; simp [up3]⟩⟩) hU hS dX12_set_97
          ·
            refine lv_aload_n hx hb dX12_set_75 rfl (lv_at hl 0 rfl) ?_
            refine lv_bipush (v := (-6)) hx hb dX12_set_76 (by decide) ?_
            refine q_fi (q_runV (t := 0) (i := 0) (As := [.int (-6)]) (rest := []) C hU (c_X12_refuse hG (-6) (by omega)) vm_X12_refuse ml_X12_164 k_0.1 (hc := rfl) rfl (h1_0 hG) hl.1 rfl rfl (Nat.le_of_ble_eq_true rfl) dX12_set_78 rfl rfl ⟨Nat.le_of_ble_eq_true rfl, Nat.le_of_ble_eq_true rfl⟩ ⟨Nat.le_refl _, Nat.le_refl _⟩) hS (fun x_17 iv_13 rv_14 H locs hG fa_15 fb_16 hp_12 hU hS => ?_)
            have hF1 := hF1.tr (m := ([16, 15], [])) fa_15 (by decide)
            have hF2 := hF2.tr (m := ([16, 15], [])) fb_16 (by decide)
            exact hret (⟨hG, hF1, hF2, sp_no (z := (-6)) (by unfold spSet; (repeat' split) <;> first | rfl | omega) (by decide) hp_12 (fun k => fa_15.arr 15 0 k (by decide))⟩) hU hS dX12_set_81
        refine b_if_ne (tgt := 48) hx hb dX12_set_39 (by decide) (fun c_18 => ?_) (fun c_18 => ?_)
        ·
          refine lv_iload_n hx hb dX12_set_48 rfl (lv_at hl 1 rfl) ?_
          refine lv_iconst (v := 1) hx hb dX12_set_49 (by decide) ?_
          refine b_icmp_ne (tgt := 59) hx hb dX12_set_50 (by decide) (fun c_19 => ?_) (fun c_19 => ?_)
          ·
            refine lv_iload_n hx hb dX12_set_59 rfl (lv_at hl 1 rfl) ?_
            refine lv_iconst (v := 2) hx hb dX12_set_60 (by decide) ?_
            refine b_icmp_ne (tgt := 70) hx hb dX12_set_61 (by decide) (fun c_20 => ?_) (fun c_20 => ?_)
            ·
              refine lv_bipush (v := 9) hx hb dX12_set_70 (by decide) ?_
              exact J_72 9 _ (lv_sub hl [0, 1, 2] rfl) (by omega) (by omega)
            ·
              refine lv_sipush (v := 300) hx hb dX12_set_64 (by decide) ?_
              refine lv_goto (tgt := 72) hx hb dX12_set_67 (by decide) ?_
              exact J_72 300 _ (lv_sub hl [0, 1, 2] rfl) (by omega) (by omega)
          ·
            refine lv_sipush (v := 900) hx hb dX12_set_53 (by decide) ?_
            refine lv_goto (tgt := 72) hx hb dX12_set_56 (by decide) ?_
            exact J_72 900 _ (lv_sub hl [0, 1, 2] rfl) (by omega) (by omega)
        ·
          refine lv_sipush (v := 200) hx hb dX12_set_42 (by decide) ?_
          refine lv_goto (tgt := 72) hx hb dX12_set_45 (by decide) ?_
          exact J_72 200 _ (lv_sub hl [0, 1, 2] rfl) (by omega) (by omega)
      ·
        refine lv_aload_n hx hb dX12_set_30 rfl (lv_at hl 0 rfl) ?_
        refine lv_bipush (v := (-4)) hx hb dX12_set_31 (by decide) ?_
        refine q_fi (q_runV (t := 0) (i := 0) (As := [.int (-4)]) (rest := []) C hU (c_X12_refuse hG (-4) (by omega)) vm_X12_refuse ml_X12_164 k_0.1 (hc := rfl) rfl (h1_0 hG) hl.1 rfl rfl (Nat.le_of_ble_eq_true rfl) dX12_set_33 rfl rfl ⟨Nat.le_of_ble_eq_true rfl, Nat.le_of_ble_eq_true rfl⟩ ⟨Nat.le_refl _, Nat.le_refl _⟩) hS (fun x_26 iv_22 rv_23 H locs hG fa_24 fb_25 hp_21 hU hS => ?_)
        have hF1 := hF1.tr (m := ([16, 15], [])) fa_24 (by decide)
        have hF2 := hF2.tr (m := ([16, 15], [])) fb_25 (by decide)
        exact hret (⟨hG, hF1, hF2, sp_no (z := (-4)) (by unfold spSet; (repeat' split) <;> first | rfl | omega) (by decide) hp_21 (fun k => fa_24.arr 15 0 k (by decide))⟩) hU hS dX12_set_36
    refine b_icmp_ne (tgt := 26) hx hb dX12_set_19 (by decide) (fun c_27 => ?_) (fun c_27 => ?_)
    ·
      refine lv_iconst (v := 0) hx hb dX12_set_26 (by decide) ?_
      exact J_27 0 _ (lv_sub hl [0, 1, 2] rfl) (by omega) (by omega)
    ·
      refine lv_iconst (v := 1) hx hb dX12_set_22 (by decide) ?_
      refine lv_goto (tgt := 27) hx hb dX12_set_23 (by decide) ?_
      exact J_27 1 _ (lv_sub hl [0, 1, 2] rfl) (by omega) (by omega)
  ·
    refine lv_aload_n hx hb dX12_set_9 rfl (lv_at hl 0 rfl) ?_
    refine lv_bipush (v := (-2)) hx hb dX12_set_10 (by decide) ?_
    refine q_fi (q_runV (t := 0) (i := 0) (As := [.int (-2)]) (rest := []) C hU (c_X12_refuse hG (-2) (by omega)) vm_X12_refuse ml_X12_164 k_0.1 (hc := rfl) rfl (h1_0 hG) hl.1 rfl rfl (Nat.le_of_ble_eq_true rfl) dX12_set_12 rfl rfl ⟨Nat.le_of_ble_eq_true rfl, Nat.le_of_ble_eq_true rfl⟩ ⟨Nat.le_refl _, Nat.le_refl _⟩) hS (fun x_33 iv_29 rv_30 H locs hG fa_31 fb_32 hp_28 hU hS => ?_)
    have hF1 := hF1.tr (m := ([16, 15], [])) fa_31 (by decide)
    have hF2 := hF2.tr (m := ([16, 15], [])) fb_32 (by decide)
    exact hret (⟨hG, hF1, hF2, sp_no (z := (-2)) (by unfold spSet; (repeat' split) <;> first | rfl | omega) (by decide) hp_28 (fun k => fa_31.arr 15 0 k (by decide))⟩) hU hS dX12_set_15
set_option maxHeartbeats 4000000 in
set_option maxRecDepth 100000 in
theorem c_X11_set_x {l : Launch} {D : va_G} {cA : FieldType → ClassId} {sz : Nat} {al : Al} {iv : Iv} {rv : Rv} (hG : GI al iv rv) (wh : Int32) (v : Int32) : Met l yX11_set (wd yX11_set cX11_set 4 (some .int)) (rm 2) (PcA D cA sz al iv rv [.ref (al.2 49 0), .int wh, .int v] (fun U => SX cA sz U U.heap)) (QI D cA sz al (fI al ([51, 50], []) iv rv (fun r iv' rv' => (spSet wh v = 0 ∧ r = iv 50 0 wh.toNatClampNeg ∧ ∀ k, iv' 50 0 k = if k = wh.toNatClampNeg then v else iv 50 0 k) ∨ (spSet wh v ≠ 0 ∧ r = spSet wh v ∧ ∀ k, iv' 50 0 k = iv 50 0 k)))) 0 0 (Aq sz) := by
  refine mk_is (by decide) (Nat.le_of_ble_eq_true rfl) rfl ?_
  intro p e s m args below meth c ls Q H locs C hU hS hX hz0 hl hret
  have hx := C.1.1
  have hb := C.1.2.1
  have hl : lv_has ls 4 [(0, .ref (al.2 49 0)), (1, .int wh), (2, .int v)] := hl
  have hG0 := hG
  have hF1 : FR ([51, 50], []) iv iv := FR.rf
  have hF2 : FR ([51, 50], []) rv rv := FR.rf
  have km6 : ((-6) : Int32).toInt = -6 := by decide
  have km4 : ((-4) : Int32).toInt = -4 := by decide
  have km2 : ((-2) : Int32).toInt = -2 := by decide
  have k4 : (4 : Int32).toInt = 4 := by decide
  refine lv_aload_n hx hb dX11_set_0 rfl (lv_at hl 0 rfl) ?_
  refine g_49_7 C hU hG (h1_49 hG) fl_X11_67 dX11_set_1 ?_
  refine q_alen (t := 50) (v := 4) C hU k_50 (by decide) (h1_50 hG) (by decide) dX11_set_4 ?_
  refine lv_iload_n hx hb dX11_set_5 rfl (lv_at hl 1 rfl) ?_
  refine q_pi (q_runS (As := [.int 4, .int wh]) (rest := []) C hU (c_X11_isOneOf  4 wh ) sm_X11_isOneOf ml_X11_85 hl.1 rfl rfl (Nat.le_of_ble_eq_true rfl) dX11_set_6 rfl rfl ⟨Nat.le_of_ble_eq_true rfl, Nat.le_of_ble_eq_true rfl⟩ ⟨Nat.le_refl _, Nat.le_refl _⟩) hS (fun x_2 H locs hp_1 hU hS => ?_)
  refine b_if_ne (tgt := 19) hx hb dX11_set_9 (by decide) (fun c_3 => ?_) (fun c_3 => ?_)
  ·
    refine lv_iload_n hx hb dX11_set_19 rfl (lv_at hl 2 rfl) ?_
    obtain ⟨ta_4, zta_4, yta_4⟩ := hX.2.1
    refine q_gets C zta_4 hS fl_X11_139 dX11_set_20 ?_
    refine lv_iload_n hx hb dX11_set_23 rfl (lv_at hl 1 rfl) ?_
    refine va_ti (v := .int (lst4 (wh : Int32).toNatClampNeg)) hx hb yta_4 hS (ix_in (by omega) (by omega)) rfl dX11_set_24 ?_
    refine lv_topi (fun x_5 e_6 => ?_)
    have te_6 : 0 ≤ x_5.toInt ∧ x_5.toInt ≤ 900 := by rw [e_6]; exact lst4_rng _
    have hl4 := lst4_v e_6 (by omega) (by omega)
    refine b_icmp_ge (tgt := 35) hx hb dX11_set_25 (by decide) (fun c_7 => ?_) (fun c_7 => ?_)
    ·
      refine lv_iload_n hx hb dX11_set_35 rfl (lv_at hl 2 rfl) ?_
      obtain ⟨ta_8, zta_8, yta_8⟩ := hX.2.2.1
      refine q_gets C zta_8 hS fl_X11_142 dX11_set_36 ?_
      refine lv_iload_n hx hb dX11_set_39 rfl (lv_at hl 1 rfl) ?_
      refine va_ti (v := .int (grt4 (wh : Int32).toNatClampNeg)) hx hb yta_8 hS (ix_in (by omega) (by omega)) rfl dX11_set_40 ?_
      refine lv_topi (fun x_9 e_10 => ?_)
      have te_10 : 0 ≤ x_9.toInt ∧ x_9.toInt ≤ 900 := by rw [e_10]; exact grt4_rng _
      have hg4 := grt4_v e_10 (by omega) (by omega)
      refine b_icmp_le (tgt := 51) hx hb dX11_set_41 (by decide) (fun c_11 => ?_) (fun c_11 => ?_)
      ·
        refine lv_aload_n hx hb dX11_set_51 rfl (lv_at hl 0 rfl) ?_
        refine g_49_7 C hU hG (h1_49 hG) fl_X11_67 dX11_set_52 ?_
        refine lv_iload_n hx hb dX11_set_55 rfl (lv_at hl 1 rfl) ?_
        refine a_50 C hU hG (h1_50 hG) (x := wh) (by omega) (by omega) dX11_set_56 (fun x_12 e_13 le_13 ue_13 => ?_)
        have te_13 := congrArg Int32.toInt e_13
        refine lv_istore_n (lv' := [(3, .int x_12), (0, .ref (al.2 49 0)), (1, .int wh), (2, .int v)]) hx hb dX11_set_57 rfl hl (by decide) rfl (fun ls hl => ?_)
        refine lv_aload_n hx hb dX11_set_58 rfl (lv_at hl 1 rfl) ?_
        refine g_49_7 C hU hG (h1_49 hG) fl_X11_67 dX11_set_59 ?_
        refine lv_iload_n hx hb dX11_set_62 rfl (lv_at hl 2 rfl) ?_
        refine lv_iload_n hx hb dX11_set_63 rfl (lv_at hl 3 rfl) ?_
        refine s_50 C hU hS (h1_50 hG) (x := wh) (by omega) (by omega) dX11_set_64 (fun iv_14 H locs ei_15 hU hS => ?_)
        have hG : GI al iv_14 rv := by rw [ei_15]; exact hG.puti (show _ ∧ _ from ⟨show (0 : Int) ≤ _ by omega, show _ ≤ (900 : Int) by omega⟩) (nsA (by decide) _)
        have hF1 : FR ([51, 50], []) iv iv_14 := by rw [ei_15]; exact hF1.put (Or.inl (by decide))
        refine lv_iload_n hx hb dX11_set_65 rfl (lv_at hl 0 rfl) ?_
        exact hret (⟨hG, hF1, hF2, Or.inl ⟨(by unfold spSet; (repeat' split) <;> first | rfl | omega), e_13, fun k => by rw [ei_15]; simp [up3]⟩⟩) hU hS dX11_set_66
      ·
        refine lv_aload_n hx hb dX11_set_44 rfl (lv_at hl 0 rfl) ?_
        refine lv_bipush (v := (-6)) hx hb dX11_set_45 (by decide) ?_
        refine q_fi (q_runV (t := 49) (i := 0) (As := [.int (-6)]) (rest := []) C hU (c_X11_refuse hG (-6) (by omega)) vm_X11_refuse ml_X11_77 k_49.1 (hc := rfl) rfl (h1_49 hG) hl.1 rfl rfl (Nat.le_of_ble_eq_true rfl) dX11_set_47 rfl rfl ⟨Nat.le_of_ble_eq_true rfl, Nat.le_of_ble_eq_true rfl⟩ ⟨Nat.le_refl _, Nat.le_refl _⟩) hS (fun x_21 iv_17 rv_18 H locs hG fa_19 fb_20 hp_16 hU hS => ?_)
        have hF1 := hF1.tr (m := ([51, 50], [])) fa_19 (by decide)
        have hF2 := hF2.tr (m := ([51, 50], [])) fb_20 (by decide)
        exact hret (⟨hG, hF1, hF2, sp_no (z := (-6)) (by unfold spSet; (repeat' split) <;> first | rfl | omega) (by decide) hp_16 (fun k => fa_19.arr 50 0 k (by decide))⟩) hU hS dX11_set_50
    ·
      refine lv_aload_n hx hb dX11_set_28 rfl (lv_at hl 0 rfl) ?_
      refine lv_bipush (v := (-4)) hx hb dX11_set_29 (by decide) ?_
      refine q_fi (q_runV (t := 49) (i := 0) (As := [.int (-4)]) (rest := []) C hU (c_X11_refuse hG (-4) (by omega)) vm_X11_refuse ml_X11_77 k_49.1 (hc := rfl) rfl (h1_49 hG) hl.1 rfl rfl (Nat.le_of_ble_eq_true rfl) dX11_set_31 rfl rfl ⟨Nat.le_of_ble_eq_true rfl, Nat.le_of_ble_eq_true rfl⟩ ⟨Nat.le_refl _, Nat.le_refl _⟩) hS (fun x_27 iv_23 rv_24 H locs hG fa_25 fb_26 hp_22 hU hS => ?_)
      have hF1 := hF1.tr (m := ([51, 50], [])) fa_25 (by decide)
      have hF2 := hF2.tr (m := ([51, 50], [])) fb_26 (by decide)
      exact hret (⟨hG, hF1, hF2, sp_no (z := (-4)) (by unfold spSet; (repeat' split) <;> first | rfl | omega) (by decide) hp_22 (fun k => fa_25.arr 50 0 k (by decide))⟩) hU hS dX11_set_34
  ·
    refine lv_aload_n hx hb dX11_set_12 rfl (lv_at hl 0 rfl) ?_
    refine lv_bipush (v := (-2)) hx hb dX11_set_13 (by decide) ?_
    refine q_fi (q_runV (t := 49) (i := 0) (As := [.int (-2)]) (rest := []) C hU (c_X11_refuse hG (-2) (by omega)) vm_X11_refuse ml_X11_77 k_49.1 (hc := rfl) rfl (h1_49 hG) hl.1 rfl rfl (Nat.le_of_ble_eq_true rfl) dX11_set_15 rfl rfl ⟨Nat.le_of_ble_eq_true rfl, Nat.le_of_ble_eq_true rfl⟩ ⟨Nat.le_refl _, Nat.le_refl _⟩) hS (fun x_33 iv_29 rv_30 H locs hG fa_31 fb_32 hp_28 hU hS => ?_)
    have hF1 := hF1.tr (m := ([51, 50], [])) fa_31 (by decide)
    have hF2 := hF2.tr (m := ([51, 50], [])) fb_32 (by decide)
    exact hret (⟨hG, hF1, hF2, sp_no (z := (-2)) (by unfold spSet; (repeat' split) <;> first | rfl | omega) (by decide) hp_28 (fun k => fa_31.arr 50 0 k (by decide))⟩) hU hS dX11_set_18
set_option maxHeartbeats 4000000 in
set_option maxRecDepth 100000 in
theorem c_X12_bar_x {l : Launch} {D : va_G} {cA : FieldType → ClassId} {sz : Nat} {al : Al} {iv : Iv} {rv : Rv} (hG : GI al iv rv) (lw : Int32) (n : Int32) : Met l yX12_bar (wd yX12_bar cX12_bar 4 (some .int)) (rm 2) (PcW D cA sz al iv rv [.ref (al.2 0 0), .int lw, .int n]) (QI D cA sz al (fI al ([16, 31], []) iv rv (fun r iv' rv' => (spBar lw n = 0 ∧ r = iv 31 0 lw.toNatClampNeg ∧ ∀ k, iv' 31 0 k = if k = lw.toNatClampNeg then n else iv 31 0 k) ∨ (spBar lw n ≠ 0 ∧ r = spBar lw n ∧ ∀ k, iv' 31 0 k = iv 31 0 k)))) 0 0 (Aq sz) := by
  refine mk_i (by decide) (Nat.le_of_ble_eq_true rfl) rfl ?_
  intro p e s m args below meth c ls Q H locs C hU hS hl hret
  have hx := C.1.1
  have hb := C.1.2.1
  have hl : lv_has ls 4 [(0, .ref (al.2 0 0)), (1, .int lw), (2, .int n)] := hl
  have hG0 := hG
  have h6 := le6 hG
  have h20 := le20 hG
  have h41 := le41 hG
  have hF1 : FR ([16, 31], []) iv iv := FR.rf
  have hF2 : FR ([16, 31], []) rv rv := FR.rf
  have km6 : ((-6) : Int32).toInt = -6 := by decide
  have km4 : ((-4) : Int32).toInt = -4 := by decide
  have km1 : ((-1) : Int32).toInt = -1 := by decide
  have k1 : (1 : Int32).toInt = 1 := by decide
  have k3000 : (3000 : Int32).toInt = 3000 := by decide
  refine lv_iload_n hx hb dX12_bar_0 rfl (lv_at hl 1 rfl) ?_
  refine q_pi (q_runS (As := [.int lw]) (rest := []) C hU (c_X12_isLand  lw ) sm_X12_isLand ml_X12_244 hl.1 rfl rfl (Nat.le_of_ble_eq_true rfl) dX12_bar_1 rfl rfl ⟨Nat.le_of_ble_eq_true rfl, Nat.le_of_ble_eq_true rfl⟩ ⟨Nat.le_refl _, Nat.le_refl _⟩) hS (fun x_2 H locs hp_1 hU hS => ?_)
  refine b_if_ne (tgt := 13) hx hb dX12_bar_4 (by decide) (fun c_3 => ?_) (fun c_3 => ?_)
  ·
    refine lv_iload_n hx hb dX12_bar_13 rfl (lv_at hl 2 rfl) ?_
    refine lv_iconst (v := 1) hx hb dX12_bar_14 (by decide) ?_
    refine b_icmp_ge (tgt := 25) hx hb dX12_bar_15 (by decide) (fun c_4 => ?_) (fun c_4 => ?_)
    ·
      refine lv_iload_n hx hb dX12_bar_25 rfl (lv_at hl 2 rfl) ?_
      refine lv_sipush (v := 3000) hx hb dX12_bar_26 (by decide) ?_
      refine b_icmp_le (tgt := 39) hx hb dX12_bar_29 (by decide) (fun c_5 => ?_) (fun c_5 => ?_)
      ·
        refine lv_aload_n hx hb dX12_bar_39 rfl (lv_at hl 0 rfl) ?_
        refine g_0_36 C hU hG (h1_0 hG) fl_X12_101 dX12_bar_40 ?_
        refine lv_iload_n hx hb dX12_bar_43 rfl (lv_at hl 1 rfl) ?_
        refine a_31 C hU hG (h1_31 hG) (x := lw) (by omega) (by omega) dX12_bar_44 (fun x_6 e_7 le_7 ue_7 => ?_)
        have te_7 := congrArg Int32.toInt e_7
        refine lv_istore_n (lv' := [(3, .int x_6), (0, .ref (al.2 0 0)), (1, .int lw), (2, .int n)]) hx hb dX12_bar_45 rfl hl (by decide) rfl (fun ls hl => ?_)
        refine lv_aload_n hx hb dX12_bar_46 rfl (lv_at hl 1 rfl) ?_
        refine g_0_36 C hU hG (h1_0 hG) fl_X12_101 dX12_bar_47 ?_
        refine lv_iload_n hx hb dX12_bar_50 rfl (lv_at hl 2 rfl) ?_
        refine lv_iload_n hx hb dX12_bar_51 rfl (lv_at hl 3 rfl) ?_
        refine s_31 C hU hS (h1_31 hG) (x := lw) (by omega) (by omega) dX12_bar_52 (fun iv_8 H locs ei_9 hU hS => ?_)
        have hG : GI al iv_8 rv := by rw [ei_9]; exact hG.puti (show _ ∧ _ from ⟨show (0 : Int) ≤ _ by omega, show _ ≤ (3000 : Int) by omega⟩) (nsA (by decide) _)
        have hF1 : FR ([16, 31], []) iv iv_8 := by rw [ei_9]; exact hF1.put (Or.inl (by decide))
        refine lv_iload_n hx hb dX12_bar_53 rfl (lv_at hl 0 rfl) ?_
        exact hret (⟨hG, hF1, hF2, Or.inl ⟨(by unfold spBar; (repeat' split) <;> first | rfl | omega), e_7, fun k => by rw [ei_9]; simp [up3]⟩⟩) hU hS dX12_bar_54
      ·
        refine lv_aload_n hx hb dX12_bar_32 rfl (lv_at hl 0 rfl) ?_
        refine lv_bipush (v := (-6)) hx hb dX12_bar_33 (by decide) ?_
        refine q_fi (q_runV (t := 0) (i := 0) (As := [.int (-6)]) (rest := []) C hU (c_X12_refuse hG (-6) (by omega)) vm_X12_refuse ml_X12_164 k_0.1 (hc := rfl) rfl (h1_0 hG) hl.1 rfl rfl (Nat.le_of_ble_eq_true rfl) dX12_bar_35 rfl rfl ⟨Nat.le_of_ble_eq_true rfl, Nat.le_of_ble_eq_true rfl⟩ ⟨Nat.le_refl _, Nat.le_refl _⟩) hS (fun x_15 iv_11 rv_12 H locs hG fa_13 fb_14 hp_10 hU hS => ?_)
        have hF1 := hF1.tr (m := ([16, 31], [])) fa_13 (by decide)
        have hF2 := hF2.tr (m := ([16, 31], [])) fb_14 (by decide)
        exact hret (⟨hG, hF1, hF2, sp_no (z := (-6)) (by unfold spBar; (repeat' split) <;> first | rfl | omega) (by decide) hp_10 (fun k => fa_13.arr 31 0 k (by decide))⟩) hU hS dX12_bar_38
    ·
      refine lv_aload_n hx hb dX12_bar_18 rfl (lv_at hl 0 rfl) ?_
      refine lv_bipush (v := (-4)) hx hb dX12_bar_19 (by decide) ?_
      refine q_fi (q_runV (t := 0) (i := 0) (As := [.int (-4)]) (rest := []) C hU (c_X12_refuse hG (-4) (by omega)) vm_X12_refuse ml_X12_164 k_0.1 (hc := rfl) rfl (h1_0 hG) hl.1 rfl rfl (Nat.le_of_ble_eq_true rfl) dX12_bar_21 rfl rfl ⟨Nat.le_of_ble_eq_true rfl, Nat.le_of_ble_eq_true rfl⟩ ⟨Nat.le_refl _, Nat.le_refl _⟩) hS (fun x_21 iv_17 rv_18 H locs hG fa_19 fb_20 hp_16 hU hS => ?_)
      have hF1 := hF1.tr (m := ([16, 31], [])) fa_19 (by decide)
      have hF2 := hF2.tr (m := ([16, 31], [])) fb_20 (by decide)
      exact hret (⟨hG, hF1, hF2, sp_no (z := (-4)) (by unfold spBar; (repeat' split) <;> first | rfl | omega) (by decide) hp_16 (fun k => fa_19.arr 31 0 k (by decide))⟩) hU hS dX12_bar_24
  ·
    refine lv_aload_n hx hb dX12_bar_7 rfl (lv_at hl 0 rfl) ?_
    refine lv_iconst (v := (-1)) hx hb dX12_bar_8 (by decide) ?_
    refine q_fi (q_runV (t := 0) (i := 0) (As := [.int (-1)]) (rest := []) C hU (c_X12_refuse hG (-1) (by omega)) vm_X12_refuse ml_X12_164 k_0.1 (hc := rfl) rfl (h1_0 hG) hl.1 rfl rfl (Nat.le_of_ble_eq_true rfl) dX12_bar_9 rfl rfl ⟨Nat.le_of_ble_eq_true rfl, Nat.le_of_ble_eq_true rfl⟩ ⟨Nat.le_refl _, Nat.le_refl _⟩) hS (fun x_27 iv_23 rv_24 H locs hG fa_25 fb_26 hp_22 hU hS => ?_)
    have hF1 := hF1.tr (m := ([16, 31], [])) fa_25 (by decide)
    have hF2 := hF2.tr (m := ([16, 31], [])) fb_26 (by decide)
    exact hret (⟨hG, hF1, hF2, sp_no (z := (-1)) (by unfold spBar; (repeat' split) <;> first | rfl | omega) (by decide) hp_22 (fun k => fa_25.arr 31 0 k (by decide))⟩) hU hS dX12_bar_12
set_option maxHeartbeats 4000000 in
set_option maxRecDepth 100000 in
theorem c_X11_bar_x {l : Launch} {D : va_G} {cA : FieldType → ClassId} {sz : Nat} {al : Al} {iv : Iv} {rv : Rv} (hG : GI al iv rv) (lw : Int32) (n : Int32) : Met l yX11_bar (wd yX11_bar cX11_bar 4 (some .int)) (rm 2) (PcW D cA sz al iv rv [.ref (al.2 49 0), .int lw, .int n]) (QI D cA sz al (fI al ([51, 80], []) iv rv (fun r iv' rv' => (spBar lw n = 0 ∧ r = iv 80 0 lw.toNatClampNeg ∧ ∀ k, iv' 80 0 k = if k = lw.toNatClampNeg then n else iv 80 0 k) ∨ (spBar lw n ≠ 0 ∧ r = spBar lw n ∧ ∀ k, iv' 80 0 k = iv 80 0 k)))) 0 0 (Aq sz) := by
  refine mk_i (by decide) (Nat.le_of_ble_eq_true rfl) rfl ?_
  intro p e s m args below meth c ls Q H locs C hU hS hl hret
  have hx := C.1.1
  have hb := C.1.2.1
  have hl : lv_has ls 4 [(0, .ref (al.2 49 0)), (1, .int lw), (2, .int n)] := hl
  have hG0 := hG
  have hF1 : FR ([51, 80], []) iv iv := FR.rf
  have hF2 : FR ([51, 80], []) rv rv := FR.rf
  have km6 : ((-6) : Int32).toInt = -6 := by decide
  have km4 : ((-4) : Int32).toInt = -4 := by decide
  have km1 : ((-1) : Int32).toInt = -1 := by decide
  have k1 : (1 : Int32).toInt = 1 := by decide
  have k4 : (4 : Int32).toInt = 4 := by decide
  have k3000 : (3000 : Int32).toInt = 3000 := by decide
  refine lv_iconst (v := 4) hx hb dX11_bar_0 (by decide) ?_
  refine lv_iload_n hx hb dX11_bar_1 rfl (lv_at hl 1 rfl) ?_
  refine q_pi (q_runS (As := [.int 4, .int lw]) (rest := []) C hU (c_X11_isOneOf  4 lw ) sm_X11_isOneOf ml_X11_85 hl.1 rfl rfl (Nat.le_of_ble_eq_true rfl) dX11_bar_2 rfl rfl ⟨Nat.le_of_ble_eq_true rfl, Nat.le_of_ble_eq_true rfl⟩ ⟨Nat.le_refl _, Nat.le_refl _⟩) hS (fun x_2 H locs hp_1 hU hS => ?_)
  refine b_if_ne (tgt := 14) hx hb dX11_bar_5 (by decide) (fun c_3 => ?_) (fun c_3 => ?_)
  ·
    refine lv_iload_n hx hb dX11_bar_14 rfl (lv_at hl 2 rfl) ?_
    refine lv_iconst (v := 1) hx hb dX11_bar_15 (by decide) ?_
    refine b_icmp_ge (tgt := 26) hx hb dX11_bar_16 (by decide) (fun c_4 => ?_) (fun c_4 => ?_)
    ·
      refine lv_iload_n hx hb dX11_bar_26 rfl (lv_at hl 2 rfl) ?_
      refine lv_sipush (v := 3000) hx hb dX11_bar_27 (by decide) ?_
      refine b_icmp_le (tgt := 40) hx hb dX11_bar_30 (by decide) (fun c_5 => ?_) (fun c_5 => ?_)
      ·
        refine lv_aload_n hx hb dX11_bar_40 rfl (lv_at hl 0 rfl) ?_
        refine g_49_4 C hU hG (h1_49 hG) fl_X11_40 dX11_bar_41 ?_
        refine g_79_0 C hU hG (h1_79 hG) fl_X11_247 dX11_bar_44 ?_
        refine lv_iload_n hx hb dX11_bar_47 rfl (lv_at hl 1 rfl) ?_
        refine a_80 C hU hG (h1_80 hG) (x := lw) (by omega) (by omega) dX11_bar_48 (fun x_6 e_7 le_7 ue_7 => ?_)
        have te_7 := congrArg Int32.toInt e_7
        refine lv_istore_n (lv' := [(3, .int x_6), (0, .ref (al.2 49 0)), (1, .int lw), (2, .int n)]) hx hb dX11_bar_49 rfl hl (by decide) rfl (fun ls hl => ?_)
        refine lv_aload_n hx hb dX11_bar_50 rfl (lv_at hl 1 rfl) ?_
        refine g_49_4 C hU hG (h1_49 hG) fl_X11_40 dX11_bar_51 ?_
        refine g_79_0 C hU hG (h1_79 hG) fl_X11_247 dX11_bar_54 ?_
        refine lv_iload_n hx hb dX11_bar_57 rfl (lv_at hl 2 rfl) ?_
        refine lv_iload_n hx hb dX11_bar_58 rfl (lv_at hl 3 rfl) ?_
        refine s_80 C hU hS (h1_80 hG) (x := lw) (by omega) (by omega) dX11_bar_59 (fun iv_8 H locs ei_9 hU hS => ?_)
        have hG : GI al iv_8 rv := by rw [ei_9]; exact hG.puti (show _ ∧ _ from ⟨show (0 : Int) ≤ _ by omega, show _ ≤ (3000 : Int) by omega⟩) (nsA (by decide) _)
        have hF1 : FR ([51, 80], []) iv iv_8 := by rw [ei_9]; exact hF1.put (Or.inl (by decide))
        refine lv_iload_n hx hb dX11_bar_60 rfl (lv_at hl 0 rfl) ?_
        exact hret (⟨hG, hF1, hF2, Or.inl ⟨(by unfold spBar; (repeat' split) <;> first | rfl | omega), e_7, fun k => by rw [ei_9]; simp [up3]⟩⟩) hU hS dX11_bar_61
      ·
        refine lv_aload_n hx hb dX11_bar_33 rfl (lv_at hl 0 rfl) ?_
        refine lv_bipush (v := (-6)) hx hb dX11_bar_34 (by decide) ?_
        refine q_fi (q_runV (t := 49) (i := 0) (As := [.int (-6)]) (rest := []) C hU (c_X11_refuse hG (-6) (by omega)) vm_X11_refuse ml_X11_77 k_49.1 (hc := rfl) rfl (h1_49 hG) hl.1 rfl rfl (Nat.le_of_ble_eq_true rfl) dX11_bar_36 rfl rfl ⟨Nat.le_of_ble_eq_true rfl, Nat.le_of_ble_eq_true rfl⟩ ⟨Nat.le_refl _, Nat.le_refl _⟩) hS (fun x_15 iv_11 rv_12 H locs hG fa_13 fb_14 hp_10 hU hS => ?_)
        have hF1 := hF1.tr (m := ([51, 80], [])) fa_13 (by decide)
        have hF2 := hF2.tr (m := ([51, 80], [])) fb_14 (by decide)
        exact hret (⟨hG, hF1, hF2, sp_no (z := (-6)) (by unfold spBar; (repeat' split) <;> first | rfl | omega) (by decide) hp_10 (fun k => fa_13.arr 80 0 k (by decide))⟩) hU hS dX11_bar_39
    ·
      refine lv_aload_n hx hb dX11_bar_19 rfl (lv_at hl 0 rfl) ?_
      refine lv_bipush (v := (-4)) hx hb dX11_bar_20 (by decide) ?_
      refine q_fi (q_runV (t := 49) (i := 0) (As := [.int (-4)]) (rest := []) C hU (c_X11_refuse hG (-4) (by omega)) vm_X11_refuse ml_X11_77 k_49.1 (hc := rfl) rfl (h1_49 hG) hl.1 rfl rfl (Nat.le_of_ble_eq_true rfl) dX11_bar_22 rfl rfl ⟨Nat.le_of_ble_eq_true rfl, Nat.le_of_ble_eq_true rfl⟩ ⟨Nat.le_refl _, Nat.le_refl _⟩) hS (fun x_21 iv_17 rv_18 H locs hG fa_19 fb_20 hp_16 hU hS => ?_)
      have hF1 := hF1.tr (m := ([51, 80], [])) fa_19 (by decide)
      have hF2 := hF2.tr (m := ([51, 80], [])) fb_20 (by decide)
      exact hret (⟨hG, hF1, hF2, sp_no (z := (-4)) (by unfold spBar; (repeat' split) <;> first | rfl | omega) (by decide) hp_16 (fun k => fa_19.arr 80 0 k (by decide))⟩) hU hS dX11_bar_25
  ·
    refine lv_aload_n hx hb dX11_bar_8 rfl (lv_at hl 0 rfl) ?_
    refine lv_iconst (v := (-1)) hx hb dX11_bar_9 (by decide) ?_
    refine q_fi (q_runV (t := 49) (i := 0) (As := [.int (-1)]) (rest := []) C hU (c_X11_refuse hG (-1) (by omega)) vm_X11_refuse ml_X11_77 k_49.1 (hc := rfl) rfl (h1_49 hG) hl.1 rfl rfl (Nat.le_of_ble_eq_true rfl) dX11_bar_10 rfl rfl ⟨Nat.le_of_ble_eq_true rfl, Nat.le_of_ble_eq_true rfl⟩ ⟨Nat.le_refl _, Nat.le_refl _⟩) hS (fun x_27 iv_23 rv_24 H locs hG fa_25 fb_26 hp_22 hU hS => ?_)
    have hF1 := hF1.tr (m := ([51, 80], [])) fa_25 (by decide)
    have hF2 := hF2.tr (m := ([51, 80], [])) fb_26 (by decide)
    exact hret (⟨hG, hF1, hF2, sp_no (z := (-1)) (by unfold spBar; (repeat' split) <;> first | rfl | omega) (by decide) hp_22 (fun k => fa_25.arr 80 0 k (by decide))⟩) hU hS dX11_bar_13
set_option maxHeartbeats 4000000 in
set_option maxRecDepth 100000 in
theorem c_X12_seen_x {l : Launch} {D : va_G} {cA : FieldType → ClassId} {sz : Nat} {al : Al} {iv : Iv} {rv : Rv} (hG : GI al iv rv) (a : Int32) (b : Int32) (by_ : Int32) : Met l yX12_seen (wd yX12_seen cX12_seen 9 (some .int)) (rm 2) (PcW D cA sz al iv rv [.ref (al.2 0 0), .int a, .int b, .int by_]) (QI D cA sz al (fI al ([16, 4, 3], [(0, 5)]) iv rv (fun r iv' rv' => (spSeen a b by_ = 0 ∧ tkM iv iv' a.toNatClampNeg b.toNatClampNeg by_ r) ∨ (spSeen a b by_ ≠ 0 ∧ r = spSeen a b by_ ∧ ∀ k : Nat, iv' 3 0 k = iv 3 0 k ∧ iv' 4 0 k = iv 4 0 k)))) 0 0 (Aq sz) := by
  refine mk_i (by decide) (Nat.le_of_ble_eq_true rfl) rfl ?_
  intro p e s m args below meth c ls Q H locs C hU hS hl hret
  have hx := C.1.1
  have hb := C.1.2.1
  have hl : lv_has ls 9 [(0, .ref (al.2 0 0)), (1, .int a), (2, .int b), (3, .int by_)] := hl
  have hG0 := hG
  have h6 := le6 hG
  have h20 := le20 hG
  have h41 := le41 hG
  have hF1 : FR ([16, 4, 3], [(0, 5)]) iv iv := FR.rf
  have hF2 : FR ([16, 4, 3], [(0, 5)]) rv rv := FR.rf
  have km600 : ((-600) : Int32).toInt = -600 := by decide
  have km6 : ((-6) : Int32).toInt = -6 := by decide
  have km4 : ((-4) : Int32).toInt = -4 := by decide
  have km1 : ((-1) : Int32).toInt = -1 := by decide
  have k0 : (0 : Int32).toInt = 0 := by decide
  have k1 : (1 : Int32).toInt = 1 := by decide
  have k10 : (10 : Int32).toInt = 10 := by decide
  have k600 : (600 : Int32).toInt = 600 := by decide
  refine lv_iload_n hx hb dX12_seen_0 rfl (lv_at hl 1 rfl) ?_
  refine q_pi (q_runS (As := [.int a]) (rest := []) C hU (c_X12_isPort  a ) sm_X12_isPort ml_X12_171 hl.1 rfl rfl (Nat.le_of_ble_eq_true rfl) dX12_seen_1 rfl rfl ⟨Nat.le_of_ble_eq_true rfl, Nat.le_of_ble_eq_true rfl⟩ ⟨Nat.le_refl _, Nat.le_refl _⟩) hS (fun x_2 H locs hp_1 hU hS => ?_)
  refine b_if_eq (tgt := 19) hx hb dX12_seen_4 (by decide) (fun c_3 => ?_) (fun c_3 => ?_)
  ·
    refine lv_aload_n hx hb dX12_seen_19 rfl (lv_at hl 0 rfl) ?_
    refine lv_iconst (v := (-1)) hx hb dX12_seen_20 (by decide) ?_
    refine q_fi (q_runV (t := 0) (i := 0) (As := [.int (-1)]) (rest := []) C hU (c_X12_refuse hG (-1) (by omega)) vm_X12_refuse ml_X12_164 k_0.1 (hc := rfl) rfl (h1_0 hG) hl.1 rfl rfl (Nat.le_of_ble_eq_true rfl) dX12_seen_21 rfl rfl ⟨Nat.le_of_ble_eq_true rfl, Nat.le_of_ble_eq_true rfl⟩ ⟨Nat.le_refl _, Nat.le_refl _⟩) hS (fun x_9 iv_5 rv_6 H locs hG fa_7 fb_8 hp_4 hU hS => ?_)
    have hF1 := hF1.tr (m := ([16, 4, 3], [(0, 5)])) fa_7 (by decide)
    have hF2 := hF2.tr (m := ([16, 4, 3], [(0, 5)])) fb_8 (by decide)
    exact hret (⟨hG, hF1, hF2, sp_no (z := (-1)) (by unfold spSeen; (repeat' split) <;> first | rfl | omega) (by decide) hp_4 (fun k => ⟨fa_7.arr 3 0 k (by decide), fa_7.arr 4 0 k (by decide)⟩)⟩) hU hS dX12_seen_24
  ·
    refine lv_iload_n hx hb dX12_seen_7 rfl (lv_at hl 2 rfl) ?_
    refine q_pi (q_runS (As := [.int b]) (rest := []) C hU (c_X12_isPort  b ) sm_X12_isPort ml_X12_171 hl.1 rfl rfl (Nat.le_of_ble_eq_true rfl) dX12_seen_8 rfl rfl ⟨Nat.le_of_ble_eq_true rfl, Nat.le_of_ble_eq_true rfl⟩ ⟨Nat.le_refl _, Nat.le_refl _⟩) hS (fun x_11 H locs hp_10 hU hS => ?_)
    refine b_if_eq (tgt := 19) hx hb dX12_seen_11 (by decide) (fun c_12 => ?_) (fun c_12 => ?_)
    ·
      refine lv_aload_n hx hb dX12_seen_19 rfl (lv_at hl 0 rfl) ?_
      refine lv_iconst (v := (-1)) hx hb dX12_seen_20 (by decide) ?_
      refine q_fi (q_runV (t := 0) (i := 0) (As := [.int (-1)]) (rest := []) C hU (c_X12_refuse hG (-1) (by omega)) vm_X12_refuse ml_X12_164 k_0.1 (hc := rfl) rfl (h1_0 hG) hl.1 rfl rfl (Nat.le_of_ble_eq_true rfl) dX12_seen_21 rfl rfl ⟨Nat.le_of_ble_eq_true rfl, Nat.le_of_ble_eq_true rfl⟩ ⟨Nat.le_refl _, Nat.le_refl _⟩) hS (fun x_18 iv_14 rv_15 H locs hG fa_16 fb_17 hp_13 hU hS => ?_)
      have hF1 := hF1.tr (m := ([16, 4, 3], [(0, 5)])) fa_16 (by decide)
      have hF2 := hF2.tr (m := ([16, 4, 3], [(0, 5)])) fb_17 (by decide)
      exact hret (⟨hG, hF1, hF2, sp_no (z := (-1)) (by unfold spSeen; (repeat' split) <;> first | rfl | omega) (by decide) hp_13 (fun k => ⟨fa_16.arr 3 0 k (by decide), fa_16.arr 4 0 k (by decide)⟩)⟩) hU hS dX12_seen_24
    ·
      refine lv_iload_n hx hb dX12_seen_14 rfl (lv_at hl 1 rfl) ?_
      refine lv_iload_n hx hb dX12_seen_15 rfl (lv_at hl 2 rfl) ?_
      refine b_icmp_ne (tgt := 25) hx hb dX12_seen_16 (by decide) (fun c_19 => ?_) (fun c_19 => ?_)
      ·
        refine lv_iload_n hx hb dX12_seen_25 rfl (lv_at hl 3 rfl) ?_
        refine lv_sipush (v := (-600)) hx hb dX12_seen_26 (by decide) ?_
        refine b_icmp_ge (tgt := 39) hx hb dX12_seen_29 (by decide) (fun c_20 => ?_) (fun c_20 => ?_)
        ·
          refine lv_iload_n hx hb dX12_seen_39 rfl (lv_at hl 3 rfl) ?_
          refine lv_sipush (v := 600) hx hb dX12_seen_40 (by decide) ?_
          refine b_icmp_le (tgt := 53) hx hb dX12_seen_43 (by decide) (fun c_21 => ?_) (fun c_21 => ?_)
          ·
            refine lv_aload_n hx hb dX12_seen_53 rfl (lv_at hl 0 rfl) ?_
            refine g_0_3 C hU hG (h1_0 hG) fl_X12_16 dX12_seen_54 ?_
            refine lv_iload_n hx hb dX12_seen_57 rfl (lv_at hl 1 rfl) ?_
            refine a_3 C hU hG (h1_3 hG) (x := a) (by omega) (by omega) dX12_seen_58 (fun x_22 e_23 le_23 ue_23 => ?_)
            have te_23 := congrArg Int32.toInt e_23
            refine lv_aload_n hx hb dX12_seen_59 rfl (lv_at hl 0 rfl) ?_
            refine g_0_3 C hU hG (h1_0 hG) fl_X12_16 dX12_seen_60 ?_
            refine lv_iload_n hx hb dX12_seen_63 rfl (lv_at hl 2 rfl) ?_
            refine a_3 C hU hG (h1_3 hG) (x := b) (by omega) (by omega) dX12_seen_64 (fun x_24 e_25 le_25 ue_25 => ?_)
            have te_25 := congrArg Int32.toInt e_25
            refine b_icmp_ne (tgt := 122) hx hb dX12_seen_65 (by decide) (fun c_26 => ?_) (fun c_26 => ?_)
            ·
              refine lv_iload_n hx hb dX12_seen_122 rfl (lv_at hl 3 rfl) ?_
              refine lv_aload_n hx hb dX12_seen_123 rfl (lv_at hl 0 rfl) ?_
              refine g_0_4 C hU hG (h1_0 hG) fl_X12_19 dX12_seen_124 ?_
              refine lv_iload_n hx hb dX12_seen_127 rfl (lv_at hl 1 rfl) ?_
              refine a_4 C hU hG (h1_4 hG) (x := a) (by omega) (by omega) dX12_seen_128 (fun x_27 e_28 => ?_)
              have te_28 := congrArg Int32.toInt e_28
              refine lv_isub hx hb dX12_seen_129 ?_
              refine lv_topi (fun x_29 e_30 => ?_)
              refine lv_aload_n hx hb dX12_seen_130 rfl (lv_at hl 0 rfl) ?_
              refine g_0_4 C hU hG (h1_0 hG) fl_X12_19 dX12_seen_131 ?_
              refine lv_iload_n hx hb dX12_seen_134 rfl (lv_at hl 2 rfl) ?_
              refine a_4 C hU hG (h1_4 hG) (x := b) (by omega) (by omega) dX12_seen_135 (fun x_31 e_32 => ?_)
              have te_32 := congrArg Int32.toInt e_32
              refine lv_iadd hx hb dX12_seen_136 ?_
              refine lv_topi (fun x_33 e_34 => ?_)
              refine lv_istore (lv' := [(4, .int x_33), (0, .ref (al.2 0 0)), (1, .int a), (2, .int b), (3, .int by_)]) hx hb dX12_seen_137 hl (by decide) rfl (fun ls hl => ?_)
              refine lv_aload_n hx hb dX12_seen_139 rfl (lv_at hl 1 rfl) ?_
              refine g_0_3 C hU hG (h1_0 hG) fl_X12_16 dX12_seen_140 ?_
              refine lv_iload_n hx hb dX12_seen_143 rfl (lv_at hl 2 rfl) ?_
              refine a_3 C hU hG (h1_3 hG) (x := a) (by omega) (by omega) dX12_seen_144 (fun x_35 e_36 le_36 ue_36 => ?_)
              have te_36 := congrArg Int32.toInt e_36
              refine lv_istore (lv' := [(5, .int x_35), (4, .int x_33), (0, .ref (al.2 0 0)), (1, .int a), (2, .int b), (3, .int by_)]) hx hb dX12_seen_145 hl (by decide) rfl (fun ls hl => ?_)
              refine lv_aload_n hx hb dX12_seen_147 rfl (lv_at hl 2 rfl) ?_
              refine g_0_3 C hU hG (h1_0 hG) fl_X12_16 dX12_seen_148 ?_
              refine lv_iload_n hx hb dX12_seen_151 rfl (lv_at hl 4 rfl) ?_
              refine a_3 C hU hG (h1_3 hG) (x := b) (by omega) (by omega) dX12_seen_152 (fun x_37 e_38 le_38 ue_38 => ?_)
              have te_38 := congrArg Int32.toInt e_38
              refine lv_istore (lv' := [(6, .int x_37), (5, .int x_35), (4, .int x_33), (0, .ref (al.2 0 0)), (1, .int a), (2, .int b), (3, .int by_)]) hx hb dX12_seen_153 hl (by decide) rfl (fun ls hl => ?_)
              refine lv_iload hx hb dX12_seen_155 (lv_at hl 1 rfl) ?_
              refine lv_iload hx hb dX12_seen_157 (lv_at hl 0 rfl) ?_
              have J_169 : ∀ (v_39 : Int32) (ls : Array Slot), lv_has ls 9 [(0, .ref (al.2 0 0)), (4, .int x_33), (5, .int x_35), (6, .int x_37)] → (0 ≤ v_39.toInt ∧ v_39.toInt ≤ 9) → ((x_35.toInt < x_37.toInt ∧ v_39.toInt = x_35.toInt) ∨ (¬ x_35.toInt < x_37.toInt ∧ v_39.toInt = x_37.toInt)) → W p l e (rm 2) s m args below meth c H locs 0 0 Q (F0 m 169 ls [.int v_39]) := by
                intro v_39 ls hl i169_0 i169_1
                refine lv_istore (lv' := [(7, .int v_39), (0, .ref (al.2 0 0)), (4, .int x_33), (5, .int x_35), (6, .int x_37)]) hx hb dX12_seen_169 hl (by decide) rfl (fun ls hl => ?_)
                refine lv_iconst (v := 0) hx hb dX12_seen_171 (by decide) ?_
                refine lv_istore (lv' := [(8, .int 0), (7, .int v_39), (0, .ref (al.2 0 0)), (4, .int x_33), (5, .int x_35), (6, .int x_37)]) hx hb dX12_seen_172 hl (by decide) rfl (fun ls hl => ?_)
                have J_174 : ∀ (n_174 : Nat) (l8_40 : Int32) (iv_41 : Iv) (rv_42 : Rv) (H : Heap) (locs : List Loc) (ls : Array Slot), lv_has ls 9 [(0, .ref (al.2 0 0)), (4, .int x_33), (5, .int x_35), (6, .int x_37), (7, .int v_39), (8, .int l8_40)] → GI al iv_41 rv_42 → FR ([16, 4, 3], [(0, 5)]) iv iv_41 → FR ([16, 4, 3], [(0, 5)]) rv rv_42 → UW D cA sz al iv_41 rv_42 H → va_S (Aq sz) s.heap H locs → (0 ≤ l8_40.toInt ∧ l8_40.toInt ≤ 10) → snI iv iv_41 a.toNatClampNeg b.toNatClampNeg by_ l8_40.toNatClampNeg → (10 - l8_40.toInt).toNat < n_174 → W p l e (rm 2) s m args below meth c H locs 0 0 Q (F0 m 174 ls []) := by
                  intro n_174
                  induction n_174 with
                  | zero =>
                    intro l8_40 iv_41 rv_42 H locs ls hl hG hF1 hF2 hU hS i174_0 i174_1 hm_174
                    exact absurd hm_174 (Nat.not_lt_zero _)
                  | succ n_174 ih_174 =>
                    intro l8_40 iv_41 rv_42 H locs ls hl hG hF1 hF2 hU hS i174_0 i174_1 hm_174
                    refine lv_iload hx hb dX12_seen_174 (lv_at hl 5 rfl) ?_
                    refine lv_bipush (v := 10) hx hb dX12_seen_176 (by decide) ?_
                    refine b_icmp_ge (tgt := 270) hx hb dX12_seen_178 (by decide) (fun c_43 => ?_) (fun c_43 => ?_)
                    ·
                      refine lv_iconst (v := 1) hx hb dX12_seen_270 (by decide) ?_
                      exact hret (⟨hG, hF1, hF2, Or.inl ⟨(by unfold spSeen; (repeat' split) <;> first | rfl | omega), Or.inr ⟨by omega, by decide, sn_end i174_1 (by omega)⟩⟩⟩) hU hS dX12_seen_271
                    ·
                      refine lv_iload hx hb dX12_seen_181 (lv_at hl 4 rfl) ?_
                      refine lv_iload hx hb dX12_seen_183 (lv_at hl 2 rfl) ?_
                      have J_264 : ∀ (iv_44 : Iv) (rv_45 : Rv) (H : Heap) (locs : List Loc) (ls : Array Slot), lv_has ls 9 [(0, .ref (al.2 0 0)), (4, .int x_33), (5, .int x_35), (6, .int x_37), (7, .int v_39), (8, .int l8_40)] → GI al iv_44 rv_45 → FR ([16, 4, 3], [(0, 5)]) iv iv_44 → FR ([16, 4, 3], [(0, 5)]) rv rv_45 → UW D cA sz al iv_44 rv_45 H → va_S (Aq sz) s.heap H locs → snI iv iv_44 a.toNatClampNeg b.toNatClampNeg by_ (l8_40.toNatClampNeg + 1) → W p l e (rm 2) s m args below meth c H locs 0 0 Q (F0 m 264 ls []) := by
                        intro iv_44 rv_45 H locs ls hl hG hF1 hF2 hU hS i264_0
                        obtain ⟨x_46, e_47⟩ : ∃ y : Int32, y = l8_40 + 1 := ⟨_, rfl⟩
                        have te_47 : x_46.toInt = (l8_40 : Int32).toInt + (1 : Int32).toInt := by rw [e_47]; exact fb_addI (by omega) (by omega)
                        refine lv_iinc (v := x_46) (lv' := [(8, .int x_46), (0, .ref (al.2 0 0)), (4, .int x_33), (5, .int x_35), (6, .int x_37), (7, .int v_39)]) hx hb dX12_seen_264 hl (k := 5) rfl (by rw [e_47]; rfl) (by decide) rfl (fun ls hl => ?_)
                        refine lv_goto (tgt := 174) hx hb dX12_seen_267 (by decide) ?_
                        exact ih_174 x_46 _ _ _ _ _ (lv_sub hl [1, 2, 3, 4, 5, 0] rfl) hG hF1 hF2 hU hS (by omega) (by first | exact sn_up (by omega) (by omega) i264_0 | exact sn_0) (by omega)
                      have J_224 : ∀ (ls : Array Slot), lv_has ls 9 [(0, .ref (al.2 0 0)), (4, .int x_33), (5, .int x_35), (6, .int x_37), (7, .int v_39), (8, .int l8_40)] → (¬ (v_39.toInt = x_35.toInt ∧ (iv_41 3 0 l8_40.toNatClampNeg).toInt = x_37.toInt)) → W p l e (rm 2) s m args below meth c H locs 0 0 Q (F0 m 224 ls []) := by
                        intro ls hl i224_0
                        refine lv_iload hx hb dX12_seen_224 (lv_at hl 4 rfl) ?_
                        refine lv_iload hx hb dX12_seen_226 (lv_at hl 3 rfl) ?_
                        refine b_icmp_ne (tgt := 264) hx hb dX12_seen_228 (by decide) (fun c_48 => ?_) (fun c_48 => ?_)
                        ·
                          exact J_264 _ _ _ _ _ (lv_sub hl [0, 1, 2, 3, 4, 5] rfl) hG hF1 hF2 hU hS (by first | exact sn_k i174_1 (by omega) (by omega) | exact sn_p1 i174_1 e_28 e_30 e_32 e_34 True.intro True.intro True.intro True.intro (by omega) (by omega) (by omega) | exact sn_p2 i174_1 e_28 e_30 e_32 e_34 True.intro True.intro True.intro True.intro (by omega) (by omega) (by omega))
                        ·
                          refine lv_aload_n hx hb dX12_seen_231 rfl (lv_at hl 0 rfl) ?_
                          refine g_0_3 C hU hG (h1_0 hG) fl_X12_16 dX12_seen_232 ?_
                          refine lv_iload hx hb dX12_seen_235 (lv_at hl 5 rfl) ?_
                          refine a_3 C hU hG (h1_3 hG) (x := l8_40) (by omega) (by omega) dX12_seen_237 (fun x_49 e_50 le_50 ue_50 => ?_)
                          have te_50 := congrArg Int32.toInt e_50
                          refine lv_iload hx hb dX12_seen_238 (lv_at hl 2 rfl) ?_
                          refine b_icmp_ne (tgt := 264) hx hb dX12_seen_240 (by decide) (fun c_51 => ?_) (fun c_51 => ?_)
                          ·
                            exact J_264 _ _ _ _ _ (lv_sub hl [0, 1, 2, 3, 4, 5] rfl) hG hF1 hF2 hU hS (by first | exact sn_k i174_1 (by omega) (by omega) | exact sn_p1 i174_1 e_28 e_30 e_32 e_34 True.intro True.intro True.intro True.intro (by omega) (by omega) (by omega) | exact sn_p2 i174_1 e_28 e_30 e_32 e_34 True.intro True.intro True.intro True.intro (by omega) (by omega) (by omega))
                          ·
                            refine lv_aload_n hx hb dX12_seen_243 rfl (lv_at hl 0 rfl) ?_
                            refine g_0_4 C hU hG (h1_0 hG) fl_X12_19 dX12_seen_244 ?_
                            refine lv_iload hx hb dX12_seen_247 (lv_at hl 5 rfl) ?_
                            refine lv_dup2_11 hx hb dX12_seen_249 rfl rfl ?_
                            refine a_4 C hU hG (h1_4 hG) (x := l8_40) (by omega) (by omega) dX12_seen_250 (fun x_52 e_53 => ?_)
                            have te_53 := congrArg Int32.toInt e_53
                            refine lv_iload hx hb dX12_seen_251 (lv_at hl 1 rfl) ?_
                            refine lv_iadd hx hb dX12_seen_253 ?_
                            refine lv_topi (fun x_54 e_55 => ?_)
                            refine s_4 C hU hS (h1_4 hG) (x := l8_40) (by omega) (by omega) dX12_seen_254 (fun iv_56 H locs ei_57 hU hS => ?_)
                            have hG : GI al iv_56 rv_42 := by rw [ei_57]; exact hG.puti (show _ ∧ _ from ⟨(fb_rng _).1, Int.le_of_lt_add_one (fb_rng _).2⟩) (nsA (by decide) _)
                            have hF1 : FR ([16, 4, 3], [(0, 5)]) iv iv_56 := by rw [ei_57]; exact hF1.put (Or.inl (by decide))
                            have kf_58 := congrArg Int32.toInt (show iv_56 0 0 5 = iv_41 0 0 5 by rw [ei_57]; exact up3_ne (fun z => absurd z.1 (by decide)))
                            refine lv_aload_n hx hb dX12_seen_255 rfl (lv_at hl 0 rfl) ?_
                            refine g_0_3 C hU hG (h1_0 hG) fl_X12_16 dX12_seen_256 ?_
                            refine lv_iload hx hb dX12_seen_259 (lv_at hl 5 rfl) ?_
                            refine lv_iload hx hb dX12_seen_261 (lv_at hl 4 rfl) ?_
                            refine s_3 C hU hS (h1_3 hG) (x := l8_40) (by omega) (by omega) dX12_seen_263 (fun iv_59 H locs ei_60 hU hS => ?_)
                            have hG : GI al iv_59 rv_42 := by rw [ei_60]; exact hG.puti (show _ ∧ _ from ⟨show (0 : Int) ≤ _ by omega, show _ ≤ (9 : Int) by omega⟩) (nsA (by decide) _)
                            have hF1 : FR ([16, 4, 3], [(0, 5)]) iv iv_59 := by rw [ei_60]; exact hF1.put (Or.inl (by decide))
                            have kf_61 := congrArg Int32.toInt (show iv_59 0 0 5 = iv_56 0 0 5 by rw [ei_60]; exact up3_ne (fun z => absurd z.1 (by decide)))
                            exact J_264 _ _ _ _ _ (lv_sub hl [0, 1, 2, 3, 4, 5] rfl) hG hF1 hF2 hU hS (by first | exact sn_k i174_1 (by omega) (by omega) | exact sn_p1 i174_1 e_28 e_30 e_32 e_34 True.intro True.intro True.intro True.intro (by omega) (by omega) (by omega) | exact sn_p2 i174_1 e_28 e_30 e_32 e_34 e_53 e_55 ei_57 ei_60 (by omega) (by omega) (by omega))
                      refine b_icmp_ne (tgt := 224) hx hb dX12_seen_185 (by decide) (fun c_62 => ?_) (fun c_62 => ?_)
                      ·
                        exact J_224 _ (lv_sub hl [0, 1, 2, 3, 4, 5] rfl) (by omega)
                      ·
                        refine lv_aload_n hx hb dX12_seen_188 rfl (lv_at hl 0 rfl) ?_
                        refine g_0_3 C hU hG (h1_0 hG) fl_X12_16 dX12_seen_189 ?_
                        refine lv_iload hx hb dX12_seen_192 (lv_at hl 5 rfl) ?_
                        refine a_3 C hU hG (h1_3 hG) (x := l8_40) (by omega) (by omega) dX12_seen_194 (fun x_63 e_64 le_64 ue_64 => ?_)
                        have te_64 := congrArg Int32.toInt e_64
                        refine lv_iload hx hb dX12_seen_195 (lv_at hl 3 rfl) ?_
                        refine b_icmp_ne (tgt := 224) hx hb dX12_seen_197 (by decide) (fun c_65 => ?_) (fun c_65 => ?_)
                        ·
                          exact J_224 _ (lv_sub hl [0, 1, 2, 3, 4, 5] rfl) (by omega)
                        ·
                          refine lv_aload_n hx hb dX12_seen_200 rfl (lv_at hl 0 rfl) ?_
                          refine g_0_4 C hU hG (h1_0 hG) fl_X12_19 dX12_seen_201 ?_
                          refine lv_iload hx hb dX12_seen_204 (lv_at hl 5 rfl) ?_
                          refine lv_dup2_11 hx hb dX12_seen_206 rfl rfl ?_
                          refine a_4 C hU hG (h1_4 hG) (x := l8_40) (by omega) (by omega) dX12_seen_207 (fun x_66 e_67 => ?_)
                          have te_67 := congrArg Int32.toInt e_67
                          refine lv_iload hx hb dX12_seen_208 (lv_at hl 1 rfl) ?_
                          refine lv_isub hx hb dX12_seen_210 ?_
                          refine lv_topi (fun x_68 e_69 => ?_)
                          refine s_4 C hU hS (h1_4 hG) (x := l8_40) (by omega) (by omega) dX12_seen_211 (fun iv_70 H locs ei_71 hU hS => ?_)
                          have hG : GI al iv_70 rv_42 := by rw [ei_71]; exact hG.puti (show _ ∧ _ from ⟨(fb_rng _).1, Int.le_of_lt_add_one (fb_rng _).2⟩) (nsA (by decide) _)
                          have hF1 : FR ([16, 4, 3], [(0, 5)]) iv iv_70 := by rw [ei_71]; exact hF1.put (Or.inl (by decide))
                          have kf_72 := congrArg Int32.toInt (show iv_70 0 0 5 = iv_41 0 0 5 by rw [ei_71]; exact up3_ne (fun z => absurd z.1 (by decide)))
                          refine lv_aload_n hx hb dX12_seen_212 rfl (lv_at hl 0 rfl) ?_
                          refine g_0_3 C hU hG (h1_0 hG) fl_X12_16 dX12_seen_213 ?_
                          refine lv_iload hx hb dX12_seen_216 (lv_at hl 5 rfl) ?_
                          refine lv_iload hx hb dX12_seen_218 (lv_at hl 4 rfl) ?_
                          refine s_3 C hU hS (h1_3 hG) (x := l8_40) (by omega) (by omega) dX12_seen_220 (fun iv_73 H locs ei_74 hU hS => ?_)
                          have hG : GI al iv_73 rv_42 := by rw [ei_74]; exact hG.puti (show _ ∧ _ from ⟨show (0 : Int) ≤ _ by omega, show _ ≤ (9 : Int) by omega⟩) (nsA (by decide) _)
                          have hF1 : FR ([16, 4, 3], [(0, 5)]) iv iv_73 := by rw [ei_74]; exact hF1.put (Or.inl (by decide))
                          have kf_75 := congrArg Int32.toInt (show iv_73 0 0 5 = iv_70 0 0 5 by rw [ei_74]; exact up3_ne (fun z => absurd z.1 (by decide)))
                          refine lv_goto (tgt := 264) hx hb dX12_seen_221 (by decide) ?_
                          exact J_264 _ _ _ _ _ (lv_sub hl [0, 1, 2, 3, 4, 5] rfl) hG hF1 hF2 hU hS (by first | exact sn_k i174_1 (by omega) (by omega) | exact sn_p1 i174_1 e_28 e_30 e_32 e_34 e_67 e_69 ei_71 ei_74 (by omega) (by omega) (by omega) | exact sn_p2 i174_1 e_28 e_30 e_32 e_34 True.intro True.intro True.intro True.intro (by omega) (by omega) (by omega))
                exact J_174 _ 0 _ _ _ _ _ (lv_sub hl [2, 3, 4, 5, 1, 0] rfl) hG hF1 hF2 hU hS (by omega) (by first | exact sn_up (by omega) (by omega) i264_0 | exact sn_0) (Nat.lt_succ_self _)
              refine b_icmp_ge (tgt := 167) hx hb dX12_seen_159 (by decide) (fun c_76 => ?_) (fun c_76 => ?_)
              ·
                refine lv_iload hx hb dX12_seen_167 (lv_at hl 0 rfl) ?_
                exact J_169 x_37 _ (lv_sub hl [3, 2, 1, 0] rfl) (by omega) (by omega)
              ·
                refine lv_iload hx hb dX12_seen_162 (lv_at hl 1 rfl) ?_
                refine lv_goto (tgt := 169) hx hb dX12_seen_164 (by decide) ?_
                exact J_169 x_35 _ (lv_sub hl [3, 2, 1, 0] rfl) (by omega) (by omega)
            ·
              refine lv_aload_n hx hb dX12_seen_68 rfl (lv_at hl 0 rfl) ?_
              refine g_0_4 C hU hG (h1_0 hG) fl_X12_19 dX12_seen_69 ?_
              refine lv_iload_n hx hb dX12_seen_72 rfl (lv_at hl 1 rfl) ?_
              refine a_4 C hU hG (h1_4 hG) (x := a) (by omega) (by omega) dX12_seen_73 (fun x_77 e_78 => ?_)
              have te_78 := congrArg Int32.toInt e_78
              refine lv_aload_n hx hb dX12_seen_74 rfl (lv_at hl 0 rfl) ?_
              refine g_0_4 C hU hG (h1_0 hG) fl_X12_19 dX12_seen_75 ?_
              refine lv_iload_n hx hb dX12_seen_78 rfl (lv_at hl 2 rfl) ?_
              refine a_4 C hU hG (h1_4 hG) (x := b) (by omega) (by omega) dX12_seen_79 (fun x_79 e_80 => ?_)
              have te_80 := congrArg Int32.toInt e_80
              refine lv_isub hx hb dX12_seen_80 ?_
              refine lv_topi (fun x_81 e_82 => ?_)
              refine lv_iload_n hx hb dX12_seen_81 rfl (lv_at hl 3 rfl) ?_
              have J_90 : ∀ (v_83 : Int32) (ls : Array Slot), lv_has ls 9 [(0, .ref (al.2 0 0))] → (0 ≤ v_83.toInt ∧ v_83.toInt ≤ 1) → ((v_83.toInt = 1 ∧ x_81.toInt = by_.toInt) ∨ (v_83.toInt = 0 ∧ ¬ x_81.toInt = by_.toInt)) → W p l e (rm 2) s m args below meth c H locs 0 0 Q (F0 m 90 ls [.int v_83]) := by
                intro v_83 ls hl i90_0 i90_1
                refine lv_istore (lv' := [(4, .int v_83), (0, .ref (al.2 0 0))]) hx hb dX12_seen_90 hl (by decide) rfl (fun ls hl => ?_)
                refine lv_aload_n hx hb dX12_seen_92 rfl (lv_at hl 1 rfl) ?_
                refine lv_dup hx hb dX12_seen_93 rfl ?_
                refine g_0_5 C hU hG (h1_0 hG) fl_X12_175 dX12_seen_94 (fun x_84 e_85 => ?_)
                have te_85 := congrArg Int32.toInt e_85
                refine lv_iload hx hb dX12_seen_97 (lv_at hl 0 rfl) ?_
                refine b_if_eq (tgt := 106) hx hb dX12_seen_99 (by decide) (fun c_86 => ?_) (fun c_86 => ?_)
                ·
                  refine lv_iconst (v := 1) hx hb dX12_seen_106 (by decide) ?_
                  refine lv_iadd hx hb dX12_seen_107 ?_
                  refine lv_topi (fun x_87 e_88 => ?_)
                  refine p_0_5 C hU hS (h1_0 hG) fl_X12_175 dX12_seen_108 (fun iv_89 H locs ei_90 hU hS => ?_)
                  have hG : GI al iv_89 rv := by rw [ei_90]; exact hG.puti (show _ ∧ _ from ⟨(fb_rng _).1, Int.le_of_lt_add_one (fb_rng _).2⟩) (nsF (by decide))
                  have hF1 : FR ([16, 4, 3], [(0, 5)]) iv iv_89 := by rw [ei_90]; exact hF1.put (by decide)
                  refine lv_iload hx hb dX12_seen_111 (lv_at hl 0 rfl) ?_
                  refine b_if_eq (tgt := 120) hx hb dX12_seen_113 (by decide) (fun c_91 => ?_) (fun c_91 => ?_)
                  ·
                    refine lv_iconst (v := 0) hx hb dX12_seen_120 (by decide) ?_
                    exact hret (⟨hG, hF1, hF2, Or.inl ⟨(by unfold spSeen; (repeat' split) <;> first | rfl | omega), Or.inl ⟨by omega, sn_fit e_78 e_80 e_82 (by omega), fun k => ⟨by rw [ei_90]; exact up3_ne (fun z => absurd z.1 (by decide)), by rw [ei_90]; exact up3_ne (fun z => absurd z.1 (by decide))⟩⟩⟩⟩) hU hS dX12_seen_121
                  ·
                    refine lv_iconst (v := 1) hx hb dX12_seen_116 (by decide) ?_
                    refine lv_goto (tgt := 121) hx hb dX12_seen_117 (by decide) ?_
                    exact hret (⟨hG, hF1, hF2, Or.inl ⟨(by unfold spSeen; (repeat' split) <;> first | rfl | omega), Or.inl ⟨by omega, sn_fit e_78 e_80 e_82 (by omega), fun k => ⟨by rw [ei_90]; exact up3_ne (fun z => absurd z.1 (by decide)), by rw [ei_90]; exact up3_ne (fun z => absurd z.1 (by decide))⟩⟩⟩⟩) hU hS dX12_seen_121
                ·
                  refine lv_iconst (v := 0) hx hb dX12_seen_102 (by decide) ?_
                  refine lv_goto (tgt := 107) hx hb dX12_seen_103 (by decide) ?_
                  refine lv_iadd hx hb dX12_seen_107 ?_
                  refine lv_topi (fun x_92 e_93 => ?_)
                  refine p_0_5 C hU hS (h1_0 hG) fl_X12_175 dX12_seen_108 (fun iv_94 H locs ei_95 hU hS => ?_)
                  have hG : GI al iv_94 rv := by rw [ei_95]; exact hG.puti (show _ ∧ _ from ⟨(fb_rng _).1, Int.le_of_lt_add_one (fb_rng _).2⟩) (nsF (by decide))
                  have hF1 : FR ([16, 4, 3], [(0, 5)]) iv iv_94 := by rw [ei_95]; exact hF1.put (by decide)
                  refine lv_iload hx hb dX12_seen_111 (lv_at hl 0 rfl) ?_
                  refine b_if_eq (tgt := 120) hx hb dX12_seen_113 (by decide) (fun c_96 => ?_) (fun c_96 => ?_)
                  ·
                    refine lv_iconst (v := 0) hx hb dX12_seen_120 (by decide) ?_
                    exact hret (⟨hG, hF1, hF2, Or.inl ⟨(by unfold spSeen; (repeat' split) <;> first | rfl | omega), Or.inl ⟨by omega, sn_fit e_78 e_80 e_82 (by omega), fun k => ⟨by rw [ei_95]; exact up3_ne (fun z => absurd z.1 (by decide)), by rw [ei_95]; exact up3_ne (fun z => absurd z.1 (by decide))⟩⟩⟩⟩) hU hS dX12_seen_121
                  ·
                    refine lv_iconst (v := 1) hx hb dX12_seen_116 (by decide) ?_
                    refine lv_goto (tgt := 121) hx hb dX12_seen_117 (by decide) ?_
                    exact hret (⟨hG, hF1, hF2, Or.inl ⟨(by unfold spSeen; (repeat' split) <;> first | rfl | omega), Or.inl ⟨by omega, sn_fit e_78 e_80 e_82 (by omega), fun k => ⟨by rw [ei_95]; exact up3_ne (fun z => absurd z.1 (by decide)), by rw [ei_95]; exact up3_ne (fun z => absurd z.1 (by decide))⟩⟩⟩⟩) hU hS dX12_seen_121
              refine b_icmp_ne (tgt := 89) hx hb dX12_seen_82 (by decide) (fun c_97 => ?_) (fun c_97 => ?_)
              ·
                refine lv_iconst (v := 0) hx hb dX12_seen_89 (by decide) ?_
                exact J_90 0 _ (lv_sub hl [0] rfl) (by omega) (by omega)
              ·
                refine lv_iconst (v := 1) hx hb dX12_seen_85 (by decide) ?_
                refine lv_goto (tgt := 90) hx hb dX12_seen_86 (by decide) ?_
                exact J_90 1 _ (lv_sub hl [0] rfl) (by omega) (by omega)
          ·
            refine lv_aload_n hx hb dX12_seen_46 rfl (lv_at hl 0 rfl) ?_
            refine lv_bipush (v := (-6)) hx hb dX12_seen_47 (by decide) ?_
            refine q_fi (q_runV (t := 0) (i := 0) (As := [.int (-6)]) (rest := []) C hU (c_X12_refuse hG (-6) (by omega)) vm_X12_refuse ml_X12_164 k_0.1 (hc := rfl) rfl (h1_0 hG) hl.1 rfl rfl (Nat.le_of_ble_eq_true rfl) dX12_seen_49 rfl rfl ⟨Nat.le_of_ble_eq_true rfl, Nat.le_of_ble_eq_true rfl⟩ ⟨Nat.le_refl _, Nat.le_refl _⟩) hS (fun x_103 iv_99 rv_100 H locs hG fa_101 fb_102 hp_98 hU hS => ?_)
            have hF1 := hF1.tr (m := ([16, 4, 3], [(0, 5)])) fa_101 (by decide)
            have hF2 := hF2.tr (m := ([16, 4, 3], [(0, 5)])) fb_102 (by decide)
            exact hret (⟨hG, hF1, hF2, sp_no (z := (-6)) (by unfold spSeen; (repeat' split) <;> first | rfl | omega) (by decide) hp_98 (fun k => ⟨fa_101.arr 3 0 k (by decide), fa_101.arr 4 0 k (by decide)⟩)⟩) hU hS dX12_seen_52
        ·
          refine lv_aload_n hx hb dX12_seen_32 rfl (lv_at hl 0 rfl) ?_
          refine lv_bipush (v := (-4)) hx hb dX12_seen_33 (by decide) ?_
          refine q_fi (q_runV (t := 0) (i := 0) (As := [.int (-4)]) (rest := []) C hU (c_X12_refuse hG (-4) (by omega)) vm_X12_refuse ml_X12_164 k_0.1 (hc := rfl) rfl (h1_0 hG) hl.1 rfl rfl (Nat.le_of_ble_eq_true rfl) dX12_seen_35 rfl rfl ⟨Nat.le_of_ble_eq_true rfl, Nat.le_of_ble_eq_true rfl⟩ ⟨Nat.le_refl _, Nat.le_refl _⟩) hS (fun x_109 iv_105 rv_106 H locs hG fa_107 fb_108 hp_104 hU hS => ?_)
          have hF1 := hF1.tr (m := ([16, 4, 3], [(0, 5)])) fa_107 (by decide)
          have hF2 := hF2.tr (m := ([16, 4, 3], [(0, 5)])) fb_108 (by decide)
          exact hret (⟨hG, hF1, hF2, sp_no (z := (-4)) (by unfold spSeen; (repeat' split) <;> first | rfl | omega) (by decide) hp_104 (fun k => ⟨fa_107.arr 3 0 k (by decide), fa_107.arr 4 0 k (by decide)⟩)⟩) hU hS dX12_seen_38
      ·
        refine lv_aload_n hx hb dX12_seen_19 rfl (lv_at hl 0 rfl) ?_
        refine lv_iconst (v := (-1)) hx hb dX12_seen_20 (by decide) ?_
        refine q_fi (q_runV (t := 0) (i := 0) (As := [.int (-1)]) (rest := []) C hU (c_X12_refuse hG (-1) (by omega)) vm_X12_refuse ml_X12_164 k_0.1 (hc := rfl) rfl (h1_0 hG) hl.1 rfl rfl (Nat.le_of_ble_eq_true rfl) dX12_seen_21 rfl rfl ⟨Nat.le_of_ble_eq_true rfl, Nat.le_of_ble_eq_true rfl⟩ ⟨Nat.le_refl _, Nat.le_refl _⟩) hS (fun x_115 iv_111 rv_112 H locs hG fa_113 fb_114 hp_110 hU hS => ?_)
        have hF1 := hF1.tr (m := ([16, 4, 3], [(0, 5)])) fa_113 (by decide)
        have hF2 := hF2.tr (m := ([16, 4, 3], [(0, 5)])) fb_114 (by decide)
        exact hret (⟨hG, hF1, hF2, sp_no (z := (-1)) (by unfold spSeen; (repeat' split) <;> first | rfl | omega) (by decide) hp_110 (fun k => ⟨fa_113.arr 3 0 k (by decide), fa_113.arr 4 0 k (by decide)⟩)⟩) hU hS dX12_seen_24
