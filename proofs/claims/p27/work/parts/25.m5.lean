set_option maxHeartbeats 4000000 in
set_option maxRecDepth 100000 in
theorem c_X12_law {l : Launch} {D : va_G} {cA : FieldType → ClassId} {sz : Nat} {al : Al} {iv : Iv} {rv : Rv} (hG : GI al iv rv) (lw : Int32) (d : Int32) (mm : Int32) (far : Int32) (sm : Int32) : Met l yX12_law (wd yX12_law cX12_law 6 (some .int)) (rm 2) (PcW D cA sz al iv rv [.ref (al.2 0 0), .int lw, .int d, .int mm, .int far, .int sm]) (QI D cA sz al (fI al ([16, 21, 22, 23, 24, 25], [(0, 24)]) iv rv (fun r iv' rv' => True))) 0 0 (Aq sz) := by
  refine mk_i (by decide) (Nat.le_of_ble_eq_true rfl) rfl ?_
  intro p e s m args below meth c ls Q H locs C hU hS hl hret
  have hx := C.1.1
  have hb := C.1.2.1
  have hl : lv_has ls 6 [(0, .ref (al.2 0 0)), (1, .int lw), (2, .int d), (3, .int mm), (4, .int far), (5, .int sm)] := hl
  have hG0 := hG
  have h6 := le6 hG
  have h20 := le20 hG
  have h41 := le41 hG
  have hF1 : FR ([16, 21, 22, 23, 24, 25], [(0, 24)]) iv iv := FR.rf
  have hF2 : FR ([16, 21, 22, 23, 24, 25], [(0, 24)]) rv rv := FR.rf
  have km6 : ((-6) : Int32).toInt = -6 := by decide
  have km4 : ((-4) : Int32).toInt = -4 := by decide
  have km1 : ((-1) : Int32).toInt = -1 := by decide
  have k1 : (1 : Int32).toInt = 1 := by decide
  have k30 : (30 : Int32).toInt = 30 := by decide
  have k4000 : (4000 : Int32).toInt = 4000 := by decide
  have k9999 : (9999 : Int32).toInt = 9999 := by decide
  refine lv_iload_n hx hb dX12_law_0 rfl (lv_at hl 1 rfl) ?_
  refine q_pi (q_runS (As := [.int lw]) (rest := []) C hU (c_X12_isLand  lw ) sm_X12_isLand ml_X12_244 hl.1 rfl rfl (Nat.le_of_ble_eq_true rfl) dX12_law_1 rfl rfl ⟨Nat.le_of_ble_eq_true rfl, Nat.le_of_ble_eq_true rfl⟩ ⟨Nat.le_refl _, Nat.le_refl _⟩) hS (fun x_2 H locs hp_1 hU hS => ?_)
  refine b_if_ne (tgt := 13) hx hb dX12_law_4 (by decide) (fun c_3 => ?_) (fun c_3 => ?_)
  ·
    refine lv_iload_n hx hb dX12_law_13 rfl (lv_at hl 2 rfl) ?_
    refine lv_aload_n hx hb dX12_law_14 rfl (lv_at hl 0 rfl) ?_
    refine g_0_0 C hU hG (h1_0 hG) fl_X12_168 dX12_law_15 (fun x_4 e_5 le_5 ue_5 => ?_)
    have te_5 := congrArg Int32.toInt e_5
    refine b_icmp_lt (tgt := 35) hx hb dX12_law_18 (by decide) (fun c_6 => ?_) (fun c_6 => ?_)
    ·
      refine lv_aload_n hx hb dX12_law_35 rfl (lv_at hl 0 rfl) ?_
      refine lv_bipush (v := (-4)) hx hb dX12_law_36 (by decide) ?_
      refine q_fi (q_runV (t := 0) (i := 0) (As := [.int (-4)]) (rest := []) C hU (c_X12_refuse hG (-4) (by omega)) vm_X12_refuse ml_X12_164 k_0.1 (hc := rfl) rfl (h1_0 hG) hl.1 rfl rfl (Nat.le_of_ble_eq_true rfl) dX12_law_38 rfl rfl ⟨Nat.le_of_ble_eq_true rfl, Nat.le_of_ble_eq_true rfl⟩ ⟨Nat.le_refl _, Nat.le_refl _⟩) hS (fun x_12 iv_8 rv_9 H locs hG fa_10 fb_11 hp_7 hU hS => ?_)
      have hF1 := hF1.tr (m := ([16, 21, 22, 23, 24, 25], [(0, 24)])) fa_10 (by decide)
      have hF2 := hF2.tr (m := ([16, 21, 22, 23, 24, 25], [(0, 24)])) fb_11 (by decide)
      exact hret (⟨hG, hF1, hF2, trivial⟩) hU hS dX12_law_41
    ·
      refine lv_iload_n hx hb dX12_law_21 rfl (lv_at hl 3 rfl) ?_
      refine b_if_lt (tgt := 35) hx hb dX12_law_22 (by decide) (fun c_13 => ?_) (fun c_13 => ?_)
      ·
        refine lv_aload_n hx hb dX12_law_35 rfl (lv_at hl 0 rfl) ?_
        refine lv_bipush (v := (-4)) hx hb dX12_law_36 (by decide) ?_
        refine q_fi (q_runV (t := 0) (i := 0) (As := [.int (-4)]) (rest := []) C hU (c_X12_refuse hG (-4) (by omega)) vm_X12_refuse ml_X12_164 k_0.1 (hc := rfl) rfl (h1_0 hG) hl.1 rfl rfl (Nat.le_of_ble_eq_true rfl) dX12_law_38 rfl rfl ⟨Nat.le_of_ble_eq_true rfl, Nat.le_of_ble_eq_true rfl⟩ ⟨Nat.le_refl _, Nat.le_refl _⟩) hS (fun x_19 iv_15 rv_16 H locs hG fa_17 fb_18 hp_14 hU hS => ?_)
        have hF1 := hF1.tr (m := ([16, 21, 22, 23, 24, 25], [(0, 24)])) fa_17 (by decide)
        have hF2 := hF2.tr (m := ([16, 21, 22, 23, 24, 25], [(0, 24)])) fb_18 (by decide)
        exact hret (⟨hG, hF1, hF2, trivial⟩) hU hS dX12_law_41
      ·
        refine lv_iload hx hb dX12_law_25 (lv_at hl 4 rfl) ?_
        refine b_if_lt (tgt := 35) hx hb dX12_law_27 (by decide) (fun c_20 => ?_) (fun c_20 => ?_)
        ·
          refine lv_aload_n hx hb dX12_law_35 rfl (lv_at hl 0 rfl) ?_
          refine lv_bipush (v := (-4)) hx hb dX12_law_36 (by decide) ?_
          refine q_fi (q_runV (t := 0) (i := 0) (As := [.int (-4)]) (rest := []) C hU (c_X12_refuse hG (-4) (by omega)) vm_X12_refuse ml_X12_164 k_0.1 (hc := rfl) rfl (h1_0 hG) hl.1 rfl rfl (Nat.le_of_ble_eq_true rfl) dX12_law_38 rfl rfl ⟨Nat.le_of_ble_eq_true rfl, Nat.le_of_ble_eq_true rfl⟩ ⟨Nat.le_refl _, Nat.le_refl _⟩) hS (fun x_26 iv_22 rv_23 H locs hG fa_24 fb_25 hp_21 hU hS => ?_)
          have hF1 := hF1.tr (m := ([16, 21, 22, 23, 24, 25], [(0, 24)])) fa_24 (by decide)
          have hF2 := hF2.tr (m := ([16, 21, 22, 23, 24, 25], [(0, 24)])) fb_25 (by decide)
          exact hret (⟨hG, hF1, hF2, trivial⟩) hU hS dX12_law_41
        ·
          refine lv_iload hx hb dX12_law_30 (lv_at hl 5 rfl) ?_
          refine b_if_ge (tgt := 42) hx hb dX12_law_32 (by decide) (fun c_27 => ?_) (fun c_27 => ?_)
          ·
            refine lv_iload_n hx hb dX12_law_42 rfl (lv_at hl 2 rfl) ?_
            refine lv_sipush (v := 4000) hx hb dX12_law_43 (by decide) ?_
            refine b_icmp_gt (tgt := 81) hx hb dX12_law_46 (by decide) (fun c_28 => ?_) (fun c_28 => ?_)
            ·
              refine lv_aload_n hx hb dX12_law_81 rfl (lv_at hl 0 rfl) ?_
              refine lv_bipush (v := (-6)) hx hb dX12_law_82 (by decide) ?_
              refine q_fi (q_runV (t := 0) (i := 0) (As := [.int (-6)]) (rest := []) C hU (c_X12_refuse hG (-6) (by omega)) vm_X12_refuse ml_X12_164 k_0.1 (hc := rfl) rfl (h1_0 hG) hl.1 rfl rfl (Nat.le_of_ble_eq_true rfl) dX12_law_84 rfl rfl ⟨Nat.le_of_ble_eq_true rfl, Nat.le_of_ble_eq_true rfl⟩ ⟨Nat.le_refl _, Nat.le_refl _⟩) hS (fun x_34 iv_30 rv_31 H locs hG fa_32 fb_33 hp_29 hU hS => ?_)
              have hF1 := hF1.tr (m := ([16, 21, 22, 23, 24, 25], [(0, 24)])) fa_32 (by decide)
              have hF2 := hF2.tr (m := ([16, 21, 22, 23, 24, 25], [(0, 24)])) fb_33 (by decide)
              exact hret (⟨hG, hF1, hF2, trivial⟩) hU hS dX12_law_87
            ·
              refine lv_iload_n hx hb dX12_law_49 rfl (lv_at hl 3 rfl) ?_
              refine lv_sipush (v := 9999) hx hb dX12_law_50 (by decide) ?_
              refine b_icmp_gt (tgt := 81) hx hb dX12_law_53 (by decide) (fun c_35 => ?_) (fun c_35 => ?_)
              ·
                refine lv_aload_n hx hb dX12_law_81 rfl (lv_at hl 0 rfl) ?_
                refine lv_bipush (v := (-6)) hx hb dX12_law_82 (by decide) ?_
                refine q_fi (q_runV (t := 0) (i := 0) (As := [.int (-6)]) (rest := []) C hU (c_X12_refuse hG (-6) (by omega)) vm_X12_refuse ml_X12_164 k_0.1 (hc := rfl) rfl (h1_0 hG) hl.1 rfl rfl (Nat.le_of_ble_eq_true rfl) dX12_law_84 rfl rfl ⟨Nat.le_of_ble_eq_true rfl, Nat.le_of_ble_eq_true rfl⟩ ⟨Nat.le_refl _, Nat.le_refl _⟩) hS (fun x_41 iv_37 rv_38 H locs hG fa_39 fb_40 hp_36 hU hS => ?_)
                have hF1 := hF1.tr (m := ([16, 21, 22, 23, 24, 25], [(0, 24)])) fa_39 (by decide)
                have hF2 := hF2.tr (m := ([16, 21, 22, 23, 24, 25], [(0, 24)])) fb_40 (by decide)
                exact hret (⟨hG, hF1, hF2, trivial⟩) hU hS dX12_law_87
              ·
                refine lv_iload hx hb dX12_law_56 (lv_at hl 4 rfl) ?_
                refine lv_sipush (v := 9999) hx hb dX12_law_58 (by decide) ?_
                refine b_icmp_gt (tgt := 81) hx hb dX12_law_61 (by decide) (fun c_42 => ?_) (fun c_42 => ?_)
                ·
                  refine lv_aload_n hx hb dX12_law_81 rfl (lv_at hl 0 rfl) ?_
                  refine lv_bipush (v := (-6)) hx hb dX12_law_82 (by decide) ?_
                  refine q_fi (q_runV (t := 0) (i := 0) (As := [.int (-6)]) (rest := []) C hU (c_X12_refuse hG (-6) (by omega)) vm_X12_refuse ml_X12_164 k_0.1 (hc := rfl) rfl (h1_0 hG) hl.1 rfl rfl (Nat.le_of_ble_eq_true rfl) dX12_law_84 rfl rfl ⟨Nat.le_of_ble_eq_true rfl, Nat.le_of_ble_eq_true rfl⟩ ⟨Nat.le_refl _, Nat.le_refl _⟩) hS (fun x_48 iv_44 rv_45 H locs hG fa_46 fb_47 hp_43 hU hS => ?_)
                  have hF1 := hF1.tr (m := ([16, 21, 22, 23, 24, 25], [(0, 24)])) fa_46 (by decide)
                  have hF2 := hF2.tr (m := ([16, 21, 22, 23, 24, 25], [(0, 24)])) fb_47 (by decide)
                  exact hret (⟨hG, hF1, hF2, trivial⟩) hU hS dX12_law_87
                ·
                  refine lv_iload hx hb dX12_law_64 (lv_at hl 5 rfl) ?_
                  refine lv_sipush (v := 9999) hx hb dX12_law_66 (by decide) ?_
                  refine b_icmp_gt (tgt := 81) hx hb dX12_law_69 (by decide) (fun c_49 => ?_) (fun c_49 => ?_)
                  ·
                    refine lv_aload_n hx hb dX12_law_81 rfl (lv_at hl 0 rfl) ?_
                    refine lv_bipush (v := (-6)) hx hb dX12_law_82 (by decide) ?_
                    refine q_fi (q_runV (t := 0) (i := 0) (As := [.int (-6)]) (rest := []) C hU (c_X12_refuse hG (-6) (by omega)) vm_X12_refuse ml_X12_164 k_0.1 (hc := rfl) rfl (h1_0 hG) hl.1 rfl rfl (Nat.le_of_ble_eq_true rfl) dX12_law_84 rfl rfl ⟨Nat.le_of_ble_eq_true rfl, Nat.le_of_ble_eq_true rfl⟩ ⟨Nat.le_refl _, Nat.le_refl _⟩) hS (fun x_55 iv_51 rv_52 H locs hG fa_53 fb_54 hp_50 hU hS => ?_)
                    have hF1 := hF1.tr (m := ([16, 21, 22, 23, 24, 25], [(0, 24)])) fa_53 (by decide)
                    have hF2 := hF2.tr (m := ([16, 21, 22, 23, 24, 25], [(0, 24)])) fb_54 (by decide)
                    exact hret (⟨hG, hF1, hF2, trivial⟩) hU hS dX12_law_87
                  ·
                    refine lv_aload_n hx hb dX12_law_72 rfl (lv_at hl 0 rfl) ?_
                    refine g_0_24 C hU hG (h1_0 hG) fl_X12_247 dX12_law_73 (fun x_56 e_57 le_57 ue_57 => ?_)
                    have te_57 := congrArg Int32.toInt e_57
                    refine lv_bipush (v := 30) hx hb dX12_law_76 (by decide) ?_
                    refine b_icmp_ne (tgt := 88) hx hb dX12_law_78 (by decide) (fun c_58 => ?_) (fun c_58 => ?_)
                    ·
                      refine lv_aload_n hx hb dX12_law_88 rfl (lv_at hl 0 rfl) ?_
                      refine g_0_25 C hU hG (h1_0 hG) fl_X12_71 dX12_law_89 ?_
                      refine lv_aload_n hx hb dX12_law_92 rfl (lv_at hl 0 rfl) ?_
                      refine g_0_24 C hU hG (h1_0 hG) fl_X12_247 dX12_law_93 (fun x_59 e_60 le_60 ue_60 => ?_)
                      have te_60 := congrArg Int32.toInt e_60
                      refine lv_iload_n hx hb dX12_law_96 rfl (lv_at hl 1 rfl) ?_
                      refine s_21 C hU hS (h1_21 hG) (x := x_59) (by omega) (by omega) dX12_law_97 (fun iv_61 H locs ei_62 hU hS => ?_)
                      have hG : GI al iv_61 rv := by rw [ei_62]; exact hG.puti (show _ ∧ _ from ⟨show (0 : Int) ≤ _ by omega, show _ ≤ (3 : Int) by omega⟩) (nsA (by decide) _)
                      have hF1 : FR ([16, 21, 22, 23, 24, 25], [(0, 24)]) iv iv_61 := by rw [ei_62]; exact hF1.put (Or.inl (by decide))
                      have kf_63 := congrArg Int32.toInt (show iv_61 0 0 24 = iv 0 0 24 by rw [ei_62]; exact up3_ne (fun z => absurd z.1 (by decide)))
                      refine lv_aload_n hx hb dX12_law_98 rfl (lv_at hl 0 rfl) ?_
                      refine g_0_26 C hU hG (h1_0 hG) fl_X12_74 dX12_law_99 ?_
                      refine lv_aload_n hx hb dX12_law_102 rfl (lv_at hl 0 rfl) ?_
                      refine g_0_24 C hU hG (h1_0 hG) fl_X12_247 dX12_law_103 (fun x_64 e_65 le_65 ue_65 => ?_)
                      have te_65 := congrArg Int32.toInt e_65
                      refine lv_iload_n hx hb dX12_law_106 rfl (lv_at hl 2 rfl) ?_
                      refine s_22 C hU hS (h1_22 hG) (x := x_64) (by omega) (by omega) dX12_law_107 (fun iv_66 H locs ei_67 hU hS => ?_)
                      have hG : GI al iv_66 rv := by rw [ei_67]; exact hG.puti (show _ ∧ _ from ⟨show (0 : Int) ≤ _ by omega, show _ ≤ (4000 : Int) by omega⟩) (nsA (by decide) _)
                      have hF1 : FR ([16, 21, 22, 23, 24, 25], [(0, 24)]) iv iv_66 := by rw [ei_67]; exact hF1.put (Or.inl (by decide))
                      have kf_68 := congrArg Int32.toInt (show iv_66 0 0 24 = iv_61 0 0 24 by rw [ei_67]; exact up3_ne (fun z => absurd z.1 (by decide)))
                      refine lv_aload_n hx hb dX12_law_108 rfl (lv_at hl 0 rfl) ?_
                      refine g_0_27 C hU hG (h1_0 hG) fl_X12_77 dX12_law_109 ?_
                      refine lv_aload_n hx hb dX12_law_112 rfl (lv_at hl 0 rfl) ?_
                      refine g_0_24 C hU hG (h1_0 hG) fl_X12_247 dX12_law_113 (fun x_69 e_70 le_70 ue_70 => ?_)
                      have te_70 := congrArg Int32.toInt e_70
                      refine lv_iload_n hx hb dX12_law_116 rfl (lv_at hl 3 rfl) ?_
                      refine s_23 C hU hS (h1_23 hG) (x := x_69) (by omega) (by omega) dX12_law_117 (fun iv_71 H locs ei_72 hU hS => ?_)
                      have hG : GI al iv_71 rv := by rw [ei_72]; exact hG.puti (show _ ∧ _ from ⟨show (0 : Int) ≤ _ by omega, show _ ≤ (9999 : Int) by omega⟩) (nsA (by decide) _)
                      have hF1 : FR ([16, 21, 22, 23, 24, 25], [(0, 24)]) iv iv_71 := by rw [ei_72]; exact hF1.put (Or.inl (by decide))
                      have kf_73 := congrArg Int32.toInt (show iv_71 0 0 24 = iv_66 0 0 24 by rw [ei_72]; exact up3_ne (fun z => absurd z.1 (by decide)))
                      refine lv_aload_n hx hb dX12_law_118 rfl (lv_at hl 0 rfl) ?_
                      refine g_0_28 C hU hG (h1_0 hG) fl_X12_80 dX12_law_119 ?_
                      refine lv_aload_n hx hb dX12_law_122 rfl (lv_at hl 0 rfl) ?_
                      refine g_0_24 C hU hG (h1_0 hG) fl_X12_247 dX12_law_123 (fun x_74 e_75 le_75 ue_75 => ?_)
                      have te_75 := congrArg Int32.toInt e_75
                      refine lv_iload hx hb dX12_law_126 (lv_at hl 4 rfl) ?_
                      refine s_24 C hU hS (h1_24 hG) (x := x_74) (by omega) (by omega) dX12_law_128 (fun iv_76 H locs ei_77 hU hS => ?_)
                      have hG : GI al iv_76 rv := by rw [ei_77]; exact hG.puti (show _ ∧ _ from ⟨show (0 : Int) ≤ _ by omega, show _ ≤ (9999 : Int) by omega⟩) (nsA (by decide) _)
                      have hF1 : FR ([16, 21, 22, 23, 24, 25], [(0, 24)]) iv iv_76 := by rw [ei_77]; exact hF1.put (Or.inl (by decide))
                      have kf_78 := congrArg Int32.toInt (show iv_76 0 0 24 = iv_71 0 0 24 by rw [ei_77]; exact up3_ne (fun z => absurd z.1 (by decide)))
                      refine lv_aload_n hx hb dX12_law_129 rfl (lv_at hl 0 rfl) ?_
                      refine g_0_29 C hU hG (h1_0 hG) fl_X12_83 dX12_law_130 ?_
                      refine lv_aload_n hx hb dX12_law_133 rfl (lv_at hl 0 rfl) ?_
                      refine g_0_24 C hU hG (h1_0 hG) fl_X12_247 dX12_law_134 (fun x_79 e_80 le_80 ue_80 => ?_)
                      have te_80 := congrArg Int32.toInt e_80
                      refine lv_iload hx hb dX12_law_137 (lv_at hl 5 rfl) ?_
                      refine s_25 C hU hS (h1_25 hG) (x := x_79) (by omega) (by omega) dX12_law_139 (fun iv_81 H locs ei_82 hU hS => ?_)
                      have hG : GI al iv_81 rv := by rw [ei_82]; exact hG.puti (show _ ∧ _ from ⟨show (0 : Int) ≤ _ by omega, show _ ≤ (9999 : Int) by omega⟩) (nsA (by decide) _)
                      have hF1 : FR ([16, 21, 22, 23, 24, 25], [(0, 24)]) iv iv_81 := by rw [ei_82]; exact hF1.put (Or.inl (by decide))
                      have kf_83 := congrArg Int32.toInt (show iv_81 0 0 24 = iv_76 0 0 24 by rw [ei_82]; exact up3_ne (fun z => absurd z.1 (by decide)))
                      refine lv_aload_n hx hb dX12_law_140 rfl (lv_at hl 0 rfl) ?_
                      refine lv_dup hx hb dX12_law_141 rfl ?_
                      refine g_0_24 C hU hG (h1_0 hG) fl_X12_247 dX12_law_142 (fun x_84 e_85 le_85 ue_85 => ?_)
                      have te_85 := congrArg Int32.toInt e_85
                      refine lv_iconst (v := 1) hx hb dX12_law_145 (by decide) ?_
                      refine lv_iadd hx hb dX12_law_146 ?_
                      refine lv_topi (fun x_86 e_87 => ?_)
                      have te_87 : x_86.toInt = (x_84 : Int32).toInt + (1 : Int32).toInt := by rw [e_87]; exact fb_addI (by omega) (by omega)
                      refine p_0_24 C hU hS (h1_0 hG) fl_X12_247 dX12_law_147 (fun iv_88 H locs ei_89 hU hS => ?_)
                      have hG : GI al iv_88 rv := by rw [ei_89]; exact hG.puti (show _ ∧ _ from ⟨show (0 : Int) ≤ _ by omega, show _ ≤ (30 : Int) by omega⟩) (nsF (by decide))
                      have hF1 : FR ([16, 21, 22, 23, 24, 25], [(0, 24)]) iv iv_88 := by rw [ei_89]; exact hF1.put (by decide)
                      refine lv_aload_n hx hb dX12_law_150 rfl (lv_at hl 0 rfl) ?_
                      refine g_0_24 C hU hG (h1_0 hG) fl_X12_247 dX12_law_151 (fun x_90 e_91 le_91 ue_91 => ?_)
                      have te_91 := congrArg Int32.toInt e_91
                      refine lv_iconst (v := 1) hx hb dX12_law_154 (by decide) ?_
                      refine lv_isub hx hb dX12_law_155 ?_
                      refine lv_topi (fun x_92 e_93 => ?_)
                      have te_93 : x_92.toInt = (x_90 : Int32).toInt - (1 : Int32).toInt := by rw [e_93]; exact fb_subI (by omega) (by omega)
                      exact hret (⟨hG, hF1, hF2, trivial⟩) hU hS dX12_law_156
                    ·
                      refine lv_aload_n hx hb dX12_law_81 rfl (lv_at hl 0 rfl) ?_
                      refine lv_bipush (v := (-6)) hx hb dX12_law_82 (by decide) ?_
                      refine q_fi (q_runV (t := 0) (i := 0) (As := [.int (-6)]) (rest := []) C hU (c_X12_refuse hG (-6) (by omega)) vm_X12_refuse ml_X12_164 k_0.1 (hc := rfl) rfl (h1_0 hG) hl.1 rfl rfl (Nat.le_of_ble_eq_true rfl) dX12_law_84 rfl rfl ⟨Nat.le_of_ble_eq_true rfl, Nat.le_of_ble_eq_true rfl⟩ ⟨Nat.le_refl _, Nat.le_refl _⟩) hS (fun x_99 iv_95 rv_96 H locs hG fa_97 fb_98 hp_94 hU hS => ?_)
                      have hF1 := hF1.tr (m := ([16, 21, 22, 23, 24, 25], [(0, 24)])) fa_97 (by decide)
                      have hF2 := hF2.tr (m := ([16, 21, 22, 23, 24, 25], [(0, 24)])) fb_98 (by decide)
                      exact hret (⟨hG, hF1, hF2, trivial⟩) hU hS dX12_law_87
          ·
            refine lv_aload_n hx hb dX12_law_35 rfl (lv_at hl 0 rfl) ?_
            refine lv_bipush (v := (-4)) hx hb dX12_law_36 (by decide) ?_
            refine q_fi (q_runV (t := 0) (i := 0) (As := [.int (-4)]) (rest := []) C hU (c_X12_refuse hG (-4) (by omega)) vm_X12_refuse ml_X12_164 k_0.1 (hc := rfl) rfl (h1_0 hG) hl.1 rfl rfl (Nat.le_of_ble_eq_true rfl) dX12_law_38 rfl rfl ⟨Nat.le_of_ble_eq_true rfl, Nat.le_of_ble_eq_true rfl⟩ ⟨Nat.le_refl _, Nat.le_refl _⟩) hS (fun x_105 iv_101 rv_102 H locs hG fa_103 fb_104 hp_100 hU hS => ?_)
            have hF1 := hF1.tr (m := ([16, 21, 22, 23, 24, 25], [(0, 24)])) fa_103 (by decide)
            have hF2 := hF2.tr (m := ([16, 21, 22, 23, 24, 25], [(0, 24)])) fb_104 (by decide)
            exact hret (⟨hG, hF1, hF2, trivial⟩) hU hS dX12_law_41
  ·
    refine lv_aload_n hx hb dX12_law_7 rfl (lv_at hl 0 rfl) ?_
    refine lv_iconst (v := (-1)) hx hb dX12_law_8 (by decide) ?_
    refine q_fi (q_runV (t := 0) (i := 0) (As := [.int (-1)]) (rest := []) C hU (c_X12_refuse hG (-1) (by omega)) vm_X12_refuse ml_X12_164 k_0.1 (hc := rfl) rfl (h1_0 hG) hl.1 rfl rfl (Nat.le_of_ble_eq_true rfl) dX12_law_9 rfl rfl ⟨Nat.le_of_ble_eq_true rfl, Nat.le_of_ble_eq_true rfl⟩ ⟨Nat.le_refl _, Nat.le_refl _⟩) hS (fun x_111 iv_107 rv_108 H locs hG fa_109 fb_110 hp_106 hU hS => ?_)
    have hF1 := hF1.tr (m := ([16, 21, 22, 23, 24, 25], [(0, 24)])) fa_109 (by decide)
    have hF2 := hF2.tr (m := ([16, 21, 22, 23, 24, 25], [(0, 24)])) fb_110 (by decide)
    exact hret (⟨hG, hF1, hF2, trivial⟩) hU hS dX12_law_12
set_option maxHeartbeats 4000000 in
set_option maxRecDepth 100000 in
theorem c_X12_excuse {l : Launch} {D : va_G} {cA : FieldType → ClassId} {sz : Nat} {al : Al} {iv : Iv} {rv : Rv} (hG : GI al iv rv) (lw : Int32) (cs : Int32) (d : Int32) (on : Int32) (pre0 : 0 ≤ on.toInt ∧ on.toInt ≤ 1) : Met l yX12_excuse (wd yX12_excuse cX12_excuse 5 (some .int)) (rm 2) (PcW D cA sz al iv rv [.ref (al.2 0 0), .int lw, .int cs, .int d, .int on]) (QI D cA sz al (fI al ([16, 26, 27, 28, 29, 30], [(0, 30)]) iv rv (fun r iv' rv' => True))) 0 0 (Aq sz) := by
  refine mk_i (by decide) (Nat.le_of_ble_eq_true rfl) rfl ?_
  intro p e s m args below meth c ls Q H locs C hU hS hl hret
  have hx := C.1.1
  have hb := C.1.2.1
  have hl : lv_has ls 5 [(0, .ref (al.2 0 0)), (1, .int lw), (2, .int cs), (3, .int d), (4, .int on)] := hl
  have hG0 := hG
  have h6 := le6 hG
  have h20 := le20 hG
  have h41 := le41 hG
  have hF1 : FR ([16, 26, 27, 28, 29, 30], [(0, 30)]) iv iv := FR.rf
  have hF2 : FR ([16, 26, 27, 28, 29, 30], [(0, 30)]) rv rv := FR.rf
  have km6 : ((-6) : Int32).toInt = -6 := by decide
  have km4 : ((-4) : Int32).toInt = -4 := by decide
  have km1 : ((-1) : Int32).toInt = -1 := by decide
  have k1 : (1 : Int32).toInt = 1 := by decide
  have k40 : (40 : Int32).toInt = 40 := by decide
  have k4000 : (4000 : Int32).toInt = 4000 := by decide
  refine lv_iload_n hx hb dX12_excuse_0 rfl (lv_at hl 1 rfl) ?_
  refine q_pi (q_runS (As := [.int lw]) (rest := []) C hU (c_X12_isLand  lw ) sm_X12_isLand ml_X12_244 hl.1 rfl rfl (Nat.le_of_ble_eq_true rfl) dX12_excuse_1 rfl rfl ⟨Nat.le_of_ble_eq_true rfl, Nat.le_of_ble_eq_true rfl⟩ ⟨Nat.le_refl _, Nat.le_refl _⟩) hS (fun x_2 H locs hp_1 hU hS => ?_)
  refine b_if_eq (tgt := 14) hx hb dX12_excuse_4 (by decide) (fun c_3 => ?_) (fun c_3 => ?_)
  ·
    refine lv_aload_n hx hb dX12_excuse_14 rfl (lv_at hl 0 rfl) ?_
    refine lv_iconst (v := (-1)) hx hb dX12_excuse_15 (by decide) ?_
    refine q_fi (q_runV (t := 0) (i := 0) (As := [.int (-1)]) (rest := []) C hU (c_X12_refuse hG (-1) (by omega)) vm_X12_refuse ml_X12_164 k_0.1 (hc := rfl) rfl (h1_0 hG) hl.1 rfl rfl (Nat.le_of_ble_eq_true rfl) dX12_excuse_16 rfl rfl ⟨Nat.le_of_ble_eq_true rfl, Nat.le_of_ble_eq_true rfl⟩ ⟨Nat.le_refl _, Nat.le_refl _⟩) hS (fun x_9 iv_5 rv_6 H locs hG fa_7 fb_8 hp_4 hU hS => ?_)
    have hF1 := hF1.tr (m := ([16, 26, 27, 28, 29, 30], [(0, 30)])) fa_7 (by decide)
    have hF2 := hF2.tr (m := ([16, 26, 27, 28, 29, 30], [(0, 30)])) fb_8 (by decide)
    exact hret (⟨hG, hF1, hF2, trivial⟩) hU hS dX12_excuse_19
  ·
    refine lv_iload_n hx hb dX12_excuse_7 rfl (lv_at hl 2 rfl) ?_
    refine q_pi (q_runS (As := [.int cs]) (rest := []) C hU (c_X12_isCause  cs ) sm_X12_isCause ml_X12_184 hl.1 rfl rfl (Nat.le_of_ble_eq_true rfl) dX12_excuse_8 rfl rfl ⟨Nat.le_of_ble_eq_true rfl, Nat.le_of_ble_eq_true rfl⟩ ⟨Nat.le_refl _, Nat.le_refl _⟩) hS (fun x_11 H locs hp_10 hU hS => ?_)
    refine b_if_ne (tgt := 20) hx hb dX12_excuse_11 (by decide) (fun c_12 => ?_) (fun c_12 => ?_)
    ·
      refine lv_iload_n hx hb dX12_excuse_20 rfl (lv_at hl 3 rfl) ?_
      refine b_if_ge (tgt := 31) hx hb dX12_excuse_21 (by decide) (fun c_13 => ?_) (fun c_13 => ?_)
      ·
        refine lv_iload_n hx hb dX12_excuse_31 rfl (lv_at hl 3 rfl) ?_
        refine lv_sipush (v := 4000) hx hb dX12_excuse_32 (by decide) ?_
        refine b_icmp_gt (tgt := 47) hx hb dX12_excuse_35 (by decide) (fun c_14 => ?_) (fun c_14 => ?_)
        ·
          refine lv_aload_n hx hb dX12_excuse_47 rfl (lv_at hl 0 rfl) ?_
          refine lv_bipush (v := (-6)) hx hb dX12_excuse_48 (by decide) ?_
          refine q_fi (q_runV (t := 0) (i := 0) (As := [.int (-6)]) (rest := []) C hU (c_X12_refuse hG (-6) (by omega)) vm_X12_refuse ml_X12_164 k_0.1 (hc := rfl) rfl (h1_0 hG) hl.1 rfl rfl (Nat.le_of_ble_eq_true rfl) dX12_excuse_50 rfl rfl ⟨Nat.le_of_ble_eq_true rfl, Nat.le_of_ble_eq_true rfl⟩ ⟨Nat.le_refl _, Nat.le_refl _⟩) hS (fun x_20 iv_16 rv_17 H locs hG fa_18 fb_19 hp_15 hU hS => ?_)
          have hF1 := hF1.tr (m := ([16, 26, 27, 28, 29, 30], [(0, 30)])) fa_18 (by decide)
          have hF2 := hF2.tr (m := ([16, 26, 27, 28, 29, 30], [(0, 30)])) fb_19 (by decide)
          exact hret (⟨hG, hF1, hF2, trivial⟩) hU hS dX12_excuse_53
        ·
          refine lv_aload_n hx hb dX12_excuse_38 rfl (lv_at hl 0 rfl) ?_
          refine g_0_30 C hU hG (h1_0 hG) fl_X12_250 dX12_excuse_39 (fun x_21 e_22 le_22 ue_22 => ?_)
          have te_22 := congrArg Int32.toInt e_22
          refine lv_bipush (v := 40) hx hb dX12_excuse_42 (by decide) ?_
          refine b_icmp_ne (tgt := 54) hx hb dX12_excuse_44 (by decide) (fun c_23 => ?_) (fun c_23 => ?_)
          ·
            refine lv_aload_n hx hb dX12_excuse_54 rfl (lv_at hl 0 rfl) ?_
            refine g_0_31 C hU hG (h1_0 hG) fl_X12_86 dX12_excuse_55 ?_
            refine lv_aload_n hx hb dX12_excuse_58 rfl (lv_at hl 0 rfl) ?_
            refine g_0_30 C hU hG (h1_0 hG) fl_X12_250 dX12_excuse_59 (fun x_24 e_25 le_25 ue_25 => ?_)
            have te_25 := congrArg Int32.toInt e_25
            refine lv_iload_n hx hb dX12_excuse_62 rfl (lv_at hl 1 rfl) ?_
            refine s_26 C hU hS (h1_26 hG) (x := x_24) (by omega) (by omega) dX12_excuse_63 (fun iv_26 H locs ei_27 hU hS => ?_)
            have hG : GI al iv_26 rv := by rw [ei_27]; exact hG.puti (show _ ∧ _ from ⟨show (0 : Int) ≤ _ by omega, show _ ≤ (3 : Int) by omega⟩) (nsA (by decide) _)
            have hF1 : FR ([16, 26, 27, 28, 29, 30], [(0, 30)]) iv iv_26 := by rw [ei_27]; exact hF1.put (Or.inl (by decide))
            have kf_28 := congrArg Int32.toInt (show iv_26 0 0 30 = iv 0 0 30 by rw [ei_27]; exact up3_ne (fun z => absurd z.1 (by decide)))
            refine lv_aload_n hx hb dX12_excuse_64 rfl (lv_at hl 0 rfl) ?_
            refine g_0_32 C hU hG (h1_0 hG) fl_X12_89 dX12_excuse_65 ?_
            refine lv_aload_n hx hb dX12_excuse_68 rfl (lv_at hl 0 rfl) ?_
            refine g_0_30 C hU hG (h1_0 hG) fl_X12_250 dX12_excuse_69 (fun x_29 e_30 le_30 ue_30 => ?_)
            have te_30 := congrArg Int32.toInt e_30
            refine lv_iload_n hx hb dX12_excuse_72 rfl (lv_at hl 2 rfl) ?_
            refine s_27 C hU hS (h1_27 hG) (x := x_29) (by omega) (by omega) dX12_excuse_73 (fun iv_31 H locs ei_32 hU hS => ?_)
            have hG : GI al iv_31 rv := by rw [ei_32]; exact hG.puti (show _ ∧ _ from ⟨show (0 : Int) ≤ _ by omega, show _ ≤ (5 : Int) by omega⟩) (nsA (by decide) _)
            have hF1 : FR ([16, 26, 27, 28, 29, 30], [(0, 30)]) iv iv_31 := by rw [ei_32]; exact hF1.put (Or.inl (by decide))
            have kf_33 := congrArg Int32.toInt (show iv_31 0 0 30 = iv_26 0 0 30 by rw [ei_32]; exact up3_ne (fun z => absurd z.1 (by decide)))
            refine lv_aload_n hx hb dX12_excuse_74 rfl (lv_at hl 0 rfl) ?_
            refine g_0_33 C hU hG (h1_0 hG) fl_X12_92 dX12_excuse_75 ?_
            refine lv_aload_n hx hb dX12_excuse_78 rfl (lv_at hl 0 rfl) ?_
            refine g_0_30 C hU hG (h1_0 hG) fl_X12_250 dX12_excuse_79 (fun x_34 e_35 le_35 ue_35 => ?_)
            have te_35 := congrArg Int32.toInt e_35
            refine lv_iload_n hx hb dX12_excuse_82 rfl (lv_at hl 3 rfl) ?_
            refine s_28 C hU hS (h1_28 hG) (x := x_34) (by omega) (by omega) dX12_excuse_83 (fun iv_36 H locs ei_37 hU hS => ?_)
            have hG : GI al iv_36 rv := by rw [ei_37]; exact hG.puti (show _ ∧ _ from ⟨show (0 : Int) ≤ _ by omega, show _ ≤ (4000 : Int) by omega⟩) (nsA (by decide) _)
            have hF1 : FR ([16, 26, 27, 28, 29, 30], [(0, 30)]) iv iv_36 := by rw [ei_37]; exact hF1.put (Or.inl (by decide))
            have kf_38 := congrArg Int32.toInt (show iv_36 0 0 30 = iv_31 0 0 30 by rw [ei_37]; exact up3_ne (fun z => absurd z.1 (by decide)))
            refine lv_aload_n hx hb dX12_excuse_84 rfl (lv_at hl 0 rfl) ?_
            refine g_0_34 C hU hG (h1_0 hG) fl_X12_95 dX12_excuse_85 ?_
            refine lv_aload_n hx hb dX12_excuse_88 rfl (lv_at hl 0 rfl) ?_
            refine g_0_30 C hU hG (h1_0 hG) fl_X12_250 dX12_excuse_89 (fun x_39 e_40 le_40 ue_40 => ?_)
            have te_40 := congrArg Int32.toInt e_40
            refine lv_aload_n hx hb dX12_excuse_92 rfl (lv_at hl 0 rfl) ?_
            refine g_0_0 C hU hG (h1_0 hG) fl_X12_168 dX12_excuse_93 (fun x_41 e_42 le_42 ue_42 => ?_)
            have te_42 := congrArg Int32.toInt e_42
            have ne_42 : x_41.toInt = (iv 0 0 0).toInt := by rw [e_42, hF1 0 0 0 (by decide)]
            refine s_29 C hU hS (h1_29 hG) (x := x_39) (by omega) (by omega) dX12_excuse_96 (fun iv_43 H locs ei_44 hU hS => ?_)
            have hG : GI al iv_43 rv := by rw [ei_44]; exact hG.puti (show _ ∧ _ from ⟨show (0 : Int) ≤ _ by omega, show _ ≤ (4000 : Int) by omega⟩) (nsA (by decide) _)
            have hF1 : FR ([16, 26, 27, 28, 29, 30], [(0, 30)]) iv iv_43 := by rw [ei_44]; exact hF1.put (Or.inl (by decide))
            have kf_45 := congrArg Int32.toInt (show iv_43 0 0 30 = iv_36 0 0 30 by rw [ei_44]; exact up3_ne (fun z => absurd z.1 (by decide)))
            refine lv_aload_n hx hb dX12_excuse_97 rfl (lv_at hl 0 rfl) ?_
            refine g_0_35 C hU hG (h1_0 hG) fl_X12_98 dX12_excuse_98 ?_
            refine lv_aload_n hx hb dX12_excuse_101 rfl (lv_at hl 0 rfl) ?_
            refine g_0_30 C hU hG (h1_0 hG) fl_X12_250 dX12_excuse_102 (fun x_46 e_47 le_47 ue_47 => ?_)
            have te_47 := congrArg Int32.toInt e_47
            refine lv_iload hx hb dX12_excuse_105 (lv_at hl 4 rfl) ?_
            refine s_30 C hU hS (h1_30 hG) (x := x_46) (by omega) (by omega) (by omega) (by omega) dX12_excuse_107 (fun iv_48 H locs ei_49 hU hS => ?_)
            have hG : GI al iv_48 rv := by rw [ei_49]; exact hG.puti (show _ ∧ _ from ⟨show (0 : Int) ≤ _ by omega, show _ ≤ (1 : Int) by omega⟩) (nsA (by decide) _)
            have hF1 : FR ([16, 26, 27, 28, 29, 30], [(0, 30)]) iv iv_48 := by rw [ei_49]; exact hF1.put (Or.inl (by decide))
            have kf_50 := congrArg Int32.toInt (show iv_48 0 0 30 = iv_43 0 0 30 by rw [ei_49]; exact up3_ne (fun z => absurd z.1 (by decide)))
            refine lv_aload_n hx hb dX12_excuse_108 rfl (lv_at hl 0 rfl) ?_
            refine lv_dup hx hb dX12_excuse_109 rfl ?_
            refine g_0_30 C hU hG (h1_0 hG) fl_X12_250 dX12_excuse_110 (fun x_51 e_52 le_52 ue_52 => ?_)
            have te_52 := congrArg Int32.toInt e_52
            refine lv_iconst (v := 1) hx hb dX12_excuse_113 (by decide) ?_
            refine lv_iadd hx hb dX12_excuse_114 ?_
            refine lv_topi (fun x_53 e_54 => ?_)
            have te_54 : x_53.toInt = (x_51 : Int32).toInt + (1 : Int32).toInt := by rw [e_54]; exact fb_addI (by omega) (by omega)
            refine p_0_30 C hU hS (h1_0 hG) fl_X12_250 dX12_excuse_115 (fun iv_55 H locs ei_56 hU hS => ?_)
            have hG : GI al iv_55 rv := by rw [ei_56]; exact hG.puti (show _ ∧ _ from ⟨show (0 : Int) ≤ _ by omega, show _ ≤ (40 : Int) by omega⟩) (nsF (by decide))
            have hF1 : FR ([16, 26, 27, 28, 29, 30], [(0, 30)]) iv iv_55 := by rw [ei_56]; exact hF1.put (by decide)
            refine lv_aload_n hx hb dX12_excuse_118 rfl (lv_at hl 0 rfl) ?_
            refine g_0_30 C hU hG (h1_0 hG) fl_X12_250 dX12_excuse_119 (fun x_57 e_58 le_58 ue_58 => ?_)
            have te_58 := congrArg Int32.toInt e_58
            exact hret (⟨hG, hF1, hF2, trivial⟩) hU hS dX12_excuse_122
          ·
            refine lv_aload_n hx hb dX12_excuse_47 rfl (lv_at hl 0 rfl) ?_
            refine lv_bipush (v := (-6)) hx hb dX12_excuse_48 (by decide) ?_
            refine q_fi (q_runV (t := 0) (i := 0) (As := [.int (-6)]) (rest := []) C hU (c_X12_refuse hG (-6) (by omega)) vm_X12_refuse ml_X12_164 k_0.1 (hc := rfl) rfl (h1_0 hG) hl.1 rfl rfl (Nat.le_of_ble_eq_true rfl) dX12_excuse_50 rfl rfl ⟨Nat.le_of_ble_eq_true rfl, Nat.le_of_ble_eq_true rfl⟩ ⟨Nat.le_refl _, Nat.le_refl _⟩) hS (fun x_64 iv_60 rv_61 H locs hG fa_62 fb_63 hp_59 hU hS => ?_)
            have hF1 := hF1.tr (m := ([16, 26, 27, 28, 29, 30], [(0, 30)])) fa_62 (by decide)
            have hF2 := hF2.tr (m := ([16, 26, 27, 28, 29, 30], [(0, 30)])) fb_63 (by decide)
            exact hret (⟨hG, hF1, hF2, trivial⟩) hU hS dX12_excuse_53
      ·
        refine lv_aload_n hx hb dX12_excuse_24 rfl (lv_at hl 0 rfl) ?_
        refine lv_bipush (v := (-4)) hx hb dX12_excuse_25 (by decide) ?_
        refine q_fi (q_runV (t := 0) (i := 0) (As := [.int (-4)]) (rest := []) C hU (c_X12_refuse hG (-4) (by omega)) vm_X12_refuse ml_X12_164 k_0.1 (hc := rfl) rfl (h1_0 hG) hl.1 rfl rfl (Nat.le_of_ble_eq_true rfl) dX12_excuse_27 rfl rfl ⟨Nat.le_of_ble_eq_true rfl, Nat.le_of_ble_eq_true rfl⟩ ⟨Nat.le_refl _, Nat.le_refl _⟩) hS (fun x_70 iv_66 rv_67 H locs hG fa_68 fb_69 hp_65 hU hS => ?_)
        have hF1 := hF1.tr (m := ([16, 26, 27, 28, 29, 30], [(0, 30)])) fa_68 (by decide)
        have hF2 := hF2.tr (m := ([16, 26, 27, 28, 29, 30], [(0, 30)])) fb_69 (by decide)
        exact hret (⟨hG, hF1, hF2, trivial⟩) hU hS dX12_excuse_30
    ·
      refine lv_aload_n hx hb dX12_excuse_14 rfl (lv_at hl 0 rfl) ?_
      refine lv_iconst (v := (-1)) hx hb dX12_excuse_15 (by decide) ?_
      refine q_fi (q_runV (t := 0) (i := 0) (As := [.int (-1)]) (rest := []) C hU (c_X12_refuse hG (-1) (by omega)) vm_X12_refuse ml_X12_164 k_0.1 (hc := rfl) rfl (h1_0 hG) hl.1 rfl rfl (Nat.le_of_ble_eq_true rfl) dX12_excuse_16 rfl rfl ⟨Nat.le_of_ble_eq_true rfl, Nat.le_of_ble_eq_true rfl⟩ ⟨Nat.le_refl _, Nat.le_refl _⟩) hS (fun x_76 iv_72 rv_73 H locs hG fa_74 fb_75 hp_71 hU hS => ?_)
      have hF1 := hF1.tr (m := ([16, 26, 27, 28, 29, 30], [(0, 30)])) fa_74 (by decide)
      have hF2 := hF2.tr (m := ([16, 26, 27, 28, 29, 30], [(0, 30)])) fb_75 (by decide)
      exact hret (⟨hG, hF1, hF2, trivial⟩) hU hS dX12_excuse_19
set_option maxHeartbeats 4000000 in
set_option maxRecDepth 100000 in
theorem c_X12_hasLaw {l : Launch} {D : va_G} {cA : FieldType → ClassId} {sz : Nat} {al : Al} {iv : Iv} {rv : Rv} (hG : GI al iv rv) (lw : Int32) (d : Int32) : Met l yX12_hasLaw (wd yX12_hasLaw cX12_hasLaw 5 (some .boolean)) (rm 0) (PcW D cA sz al iv rv [.ref (al.2 0 0), .int lw, .int d]) (QI D cA sz al (pI iv rv (fun r => (0 ≤ r.toInt ∧ r.toInt ≤ 1) ∧ (True)))) 0 0 (Aq sz) := by
  refine mk_z (by decide) (Nat.le_of_ble_eq_true rfl) rfl ?_
  intro p e s m args below meth c ls Q H locs C hU hS hl hret
  have hx := C.1.1
  have hb := C.1.2.1
  have hl : lv_has ls 5 [(0, .ref (al.2 0 0)), (1, .int lw), (2, .int d)] := hl
  have hG0 := hG
  have h6 := le6 hG
  have h20 := le20 hG
  have h41 := le41 hG
  have k0 : (0 : Int32).toInt = 0 := by decide
  have k1 : (1 : Int32).toInt = 1 := by decide
  refine lv_iconst (v := 0) hx hb dX12_hasLaw_0 (by decide) ?_
  refine lv_istore_n (lv' := [(3, .int 0), (0, .ref (al.2 0 0)), (1, .int lw), (2, .int d)]) hx hb dX12_hasLaw_1 rfl hl (by decide) rfl (fun ls hl => ?_)
  refine lv_iconst (v := 0) hx hb dX12_hasLaw_2 (by decide) ?_
  refine lv_istore (lv' := [(4, .int 0), (3, .int 0), (0, .ref (al.2 0 0)), (1, .int lw), (2, .int d)]) hx hb dX12_hasLaw_3 hl (by decide) rfl (fun ls hl => ?_)
  have J_5 : ∀ (n_5 : Nat) (l3_1 : Int32) (l4_2 : Int32) (ls : Array Slot), lv_has ls 5 [(0, .ref (al.2 0 0)), (1, .int lw), (2, .int d), (3, .int l3_1), (4, .int l4_2)] → (0 ≤ l3_1.toInt ∧ l3_1.toInt ≤ 1) → (0 ≤ l4_2.toInt ∧ l4_2.toInt ≤ 30) → (30 - l4_2.toInt).toNat < n_5 → W p l e (rm 0) s m args below meth c H locs 0 0 Q (F0 m 5 ls []) := by
    intro n_5
    induction n_5 with
    | zero =>
      intro l3_1 l4_2 ls hl i5_0 i5_1 hm_5
      exact absurd hm_5 (Nat.not_lt_zero _)
    | succ n_5 ih_5 =>
      intro l3_1 l4_2 ls hl i5_0 i5_1 hm_5
      refine lv_iload hx hb dX12_hasLaw_5 (lv_at hl 4 rfl) ?_
      refine lv_aload_n hx hb dX12_hasLaw_7 rfl (lv_at hl 0 rfl) ?_
      refine g_0_24 C hU hG (h1_0 hG) fl_X12_247 dX12_hasLaw_8 (fun x_3 e_4 le_4 ue_4 => ?_)
      have te_4 := congrArg Int32.toInt e_4
      refine b_icmp_ge (tgt := 52) hx hb dX12_hasLaw_11 (by decide) (fun c_5 => ?_) (fun c_5 => ?_)
      ·
        refine lv_iload_n hx hb dX12_hasLaw_52 rfl (lv_at hl 3 rfl) ?_
        exact hret (by omega) (by omega) (⟨rfl, rfl, ⟨⟨by omega, by omega⟩, trivial⟩⟩) hU hS dX12_hasLaw_53
      ·
        refine lv_iload_n hx hb dX12_hasLaw_14 rfl (lv_at hl 3 rfl) ?_
        have J_45 : ∀ (v_6 : Int32) (ls : Array Slot), lv_has ls 5 [(0, .ref (al.2 0 0)), (1, .int lw), (2, .int d), (4, .int l4_2)] → (0 ≤ v_6.toInt ∧ v_6.toInt ≤ 1) → W p l e (rm 0) s m args below meth c H locs 0 0 Q (F0 m 45 ls [.int v_6]) := by
          intro v_6 ls hl i45_0
          refine lv_istore_n (lv' := [(3, .int v_6), (0, .ref (al.2 0 0)), (1, .int lw), (2, .int d), (4, .int l4_2)]) hx hb dX12_hasLaw_45 rfl hl (by decide) rfl (fun ls hl => ?_)
          obtain ⟨x_7, e_8⟩ : ∃ y : Int32, y = l4_2 + 1 := ⟨_, rfl⟩
          have te_8 : x_7.toInt = (l4_2 : Int32).toInt + (1 : Int32).toInt := by rw [e_8]; exact fb_addI (by omega) (by omega)
          refine lv_iinc (v := x_7) (lv' := [(4, .int x_7), (3, .int v_6), (0, .ref (al.2 0 0)), (1, .int lw), (2, .int d)]) hx hb dX12_hasLaw_46 hl (k := 4) rfl (by rw [e_8]; rfl) (by decide) rfl (fun ls hl => ?_)
          refine lv_goto (tgt := 5) hx hb dX12_hasLaw_49 (by decide) ?_
          exact ih_5 v_6 x_7 _ (lv_sub hl [2, 3, 4, 1, 0] rfl) (by omega) (by omega) (by omega)
        have J_40 : ∀ (ls : Array Slot), lv_has ls 5 [(0, .ref (al.2 0 0)), (1, .int lw), (2, .int d), (4, .int l4_2)] → W p l e (rm 0) s m args below meth c H locs 0 0 Q (F0 m 40 ls []) := by
          intro ls hl
          refine lv_iconst (v := 1) hx hb dX12_hasLaw_40 (by decide) ?_
          refine lv_goto (tgt := 45) hx hb dX12_hasLaw_41 (by decide) ?_
          exact J_45 1 _ (lv_sub hl [0, 1, 2, 3] rfl) (by omega)
        refine b_if_ne (tgt := 40) hx hb dX12_hasLaw_15 (by decide) (fun c_9 => ?_) (fun c_9 => ?_)
        ·
          exact J_40 _ (lv_sub hl [0, 1, 2, 4] rfl)
        ·
          refine lv_aload_n hx hb dX12_hasLaw_18 rfl (lv_at hl 0 rfl) ?_
          refine g_0_25 C hU hG (h1_0 hG) fl_X12_71 dX12_hasLaw_19 ?_
          refine lv_iload hx hb dX12_hasLaw_22 (lv_at hl 4 rfl) ?_
          refine a_21 C hU hG (h1_21 hG) (x := l4_2) (by omega) (by omega) dX12_hasLaw_24 (fun x_10 e_11 le_11 ue_11 => ?_)
          have te_11 := congrArg Int32.toInt e_11
          refine lv_iload_n hx hb dX12_hasLaw_25 rfl (lv_at hl 1 rfl) ?_
          have J_44 : ∀ (ls : Array Slot), lv_has ls 5 [(0, .ref (al.2 0 0)), (1, .int lw), (2, .int d), (4, .int l4_2)] → W p l e (rm 0) s m args below meth c H locs 0 0 Q (F0 m 44 ls []) := by
            intro ls hl
            refine lv_iconst (v := 0) hx hb dX12_hasLaw_44 (by decide) ?_
            exact J_45 0 _ (lv_sub hl [0, 1, 2, 3] rfl) (by omega)
          refine b_icmp_ne (tgt := 44) hx hb dX12_hasLaw_26 (by decide) (fun c_12 => ?_) (fun c_12 => ?_)
          ·
            exact J_44 _ (lv_sub hl [0, 1, 2, 4] rfl)
          ·
            refine lv_aload_n hx hb dX12_hasLaw_29 rfl (lv_at hl 0 rfl) ?_
            refine g_0_26 C hU hG (h1_0 hG) fl_X12_74 dX12_hasLaw_30 ?_
            refine lv_iload hx hb dX12_hasLaw_33 (lv_at hl 4 rfl) ?_
            refine a_22 C hU hG (h1_22 hG) (x := l4_2) (by omega) (by omega) dX12_hasLaw_35 (fun x_13 e_14 le_14 ue_14 => ?_)
            have te_14 := congrArg Int32.toInt e_14
            refine lv_iload_n hx hb dX12_hasLaw_36 rfl (lv_at hl 2 rfl) ?_
            refine b_icmp_gt (tgt := 44) hx hb dX12_hasLaw_37 (by decide) (fun c_15 => ?_) (fun c_15 => ?_)
            ·
              exact J_44 _ (lv_sub hl [0, 1, 2, 4] rfl)
            ·
              exact J_40 _ (lv_sub hl [0, 1, 2, 4] rfl)
  exact J_5 _ 0 0 _ (lv_sub hl [2, 3, 4, 1, 0] rfl) (by omega) (by omega) (Nat.lt_succ_self _)
set_option maxHeartbeats 4000000 in
set_option maxRecDepth 100000 in
theorem c_X12_lawOf {l : Launch} {D : va_G} {cA : FieldType → ClassId} {sz : Nat} {al : Al} {iv : Iv} {rv : Rv} (hG : GI al iv rv) (tt : Int32) (d : Int32) (pre0 : 0 ≤ tt.toInt ∧ tt.toInt < (iv 0 0 20).toInt) : Met l yX12_lawOf (wd yX12_lawOf cX12_lawOf 5 (some .int)) (rm 1) (PcW D cA sz al iv rv [.ref (al.2 0 0), .int tt, .int d]) (QI D cA sz al (pI iv rv (fun r => (-9 ≤ r.toInt ∧ r.toInt ≤ 3) ∧ (r.toInt = -9 ∨ 0 ≤ r.toInt)))) 0 0 (Aq sz) := by
  refine mk_i (by decide) (Nat.le_of_ble_eq_true rfl) rfl ?_
  intro p e s m args below meth c ls Q H locs C hU hS hl hret
  have hx := C.1.1
  have hb := C.1.2.1
  have hl : lv_has ls 5 [(0, .ref (al.2 0 0)), (1, .int tt), (2, .int d)] := hl
  have hG0 := hG
  have h6 := le6 hG
  have h20 := le20 hG
  have h41 := le41 hG
  have h20 := le20 hG
  have km9 : ((-9) : Int32).toInt = -9 := by decide
  refine lv_aload_n hx hb dX12_lawOf_0 rfl (lv_at hl 0 rfl) ?_
  refine g_0_1 C hU hG (h1_0 hG) fl_X12_7 dX12_lawOf_1 ?_
  refine lv_aload_n hx hb dX12_lawOf_4 rfl (lv_at hl 0 rfl) ?_
  refine g_0_7 C hU hG (h1_0 hG) fl_X12_22 dX12_lawOf_5 ?_
  refine lv_aload_n hx hb dX12_lawOf_8 rfl (lv_at hl 0 rfl) ?_
  refine lv_iload_n hx hb dX12_lawOf_9 rfl (lv_at hl 1 rfl) ?_
  refine q_pi (q_runV (t := 0) (i := 0) (As := [.int tt]) (rest := [.ref (al.2 5 0), .ref (al.2 1 0)]) C hU (c_X12_firstLeg hG tt (by omega)) vm_X12_firstLeg ml_X12_253 k_0.1 (hc := rfl) rfl (h1_0 hG) hl.1 rfl rfl (Nat.le_of_ble_eq_true rfl) dX12_lawOf_10 rfl rfl ⟨Nat.le_of_ble_eq_true rfl, Nat.le_of_ble_eq_true rfl⟩ ⟨Nat.le_refl _, Nat.le_refl _⟩) hS (fun x_2 H locs hp_1 hU hS => ?_)
  refine a_5 C hU hG (h1_5 hG) (x := x_2) (by omega) (by omega) dX12_lawOf_13 (fun x_3 e_4 le_4 ue_4 => ?_)
  have te_4 := congrArg Int32.toInt e_4
  refine a_1 C hU hG (h1_1 hG) (x := x_3) (by omega) (by omega) dX12_lawOf_14 (fun x_5 e_6 le_6 ue_6 => ?_)
  have te_6 := congrArg Int32.toInt e_6
  refine lv_istore_n (lv' := [(3, .int x_5), (0, .ref (al.2 0 0)), (1, .int tt), (2, .int d)]) hx hb dX12_lawOf_15 rfl hl (by decide) rfl (fun ls hl => ?_)
  refine lv_aload_n hx hb dX12_lawOf_16 rfl (lv_at hl 1 rfl) ?_
  refine g_0_1 C hU hG (h1_0 hG) fl_X12_7 dX12_lawOf_17 ?_
  refine lv_aload_n hx hb dX12_lawOf_20 rfl (lv_at hl 1 rfl) ?_
  refine g_0_8 C hU hG (h1_0 hG) fl_X12_25 dX12_lawOf_21 ?_
  refine lv_aload_n hx hb dX12_lawOf_24 rfl (lv_at hl 1 rfl) ?_
  refine lv_iload_n hx hb dX12_lawOf_25 rfl (lv_at hl 2 rfl) ?_
  refine q_pi (q_runV (t := 0) (i := 0) (As := [.int tt]) (rest := [.ref (al.2 6 0), .ref (al.2 1 0)]) C hU (c_X12_lastLeg hG tt (by omega)) vm_X12_lastLeg ml_X12_232 k_0.1 (hc := rfl) rfl (h1_0 hG) hl.1 rfl rfl (Nat.le_of_ble_eq_true rfl) dX12_lawOf_26 rfl rfl ⟨Nat.le_of_ble_eq_true rfl, Nat.le_of_ble_eq_true rfl⟩ ⟨Nat.le_refl _, Nat.le_refl _⟩) hS (fun x_8 H locs hp_7 hU hS => ?_)
  refine a_6 C hU hG (h1_6 hG) (x := x_8) (by omega) (by omega) dX12_lawOf_29 (fun x_9 e_10 le_10 ue_10 => ?_)
  have te_10 := congrArg Int32.toInt e_10
  refine a_1 C hU hG (h1_1 hG) (x := x_9) (by omega) (by omega) dX12_lawOf_30 (fun x_11 e_12 le_12 ue_12 => ?_)
  have te_12 := congrArg Int32.toInt e_12
  refine lv_istore (lv' := [(4, .int x_11), (3, .int x_5), (0, .ref (al.2 0 0)), (1, .int tt), (2, .int d)]) hx hb dX12_lawOf_31 hl (by decide) rfl (fun ls hl => ?_)
  refine lv_aload_n hx hb dX12_lawOf_33 rfl (lv_at hl 2 rfl) ?_
  refine lv_iload_n hx hb dX12_lawOf_34 rfl (lv_at hl 1 rfl) ?_
  refine lv_iload_n hx hb dX12_lawOf_35 rfl (lv_at hl 4 rfl) ?_
  refine q_pi (q_runV (t := 0) (i := 0) (As := [.int x_5, .int d]) (rest := []) C hU (c_X12_hasLaw hG x_5 d ) vm_X12_hasLaw ml_X12_256 k_0.1 (hc := rfl) rfl (h1_0 hG) hl.1 rfl rfl (Nat.le_of_ble_eq_true rfl) dX12_lawOf_36 rfl rfl ⟨Nat.le_of_ble_eq_true rfl, Nat.le_of_ble_eq_true rfl⟩ ⟨Nat.le_refl _, Nat.le_refl _⟩) hS (fun x_14 H locs hp_13 hU hS => ?_)
  refine b_if_eq (tgt := 46) hx hb dX12_lawOf_39 (by decide) (fun c_15 => ?_) (fun c_15 => ?_)
  ·
    refine lv_aload_n hx hb dX12_lawOf_46 rfl (lv_at hl 2 rfl) ?_
    refine lv_iload hx hb dX12_lawOf_47 (lv_at hl 0 rfl) ?_
    refine lv_iload_n hx hb dX12_lawOf_49 rfl (lv_at hl 4 rfl) ?_
    refine q_pi (q_runV (t := 0) (i := 0) (As := [.int x_11, .int d]) (rest := []) C hU (c_X12_hasLaw hG x_11 d ) vm_X12_hasLaw ml_X12_256 k_0.1 (hc := rfl) rfl (h1_0 hG) hl.1 rfl rfl (Nat.le_of_ble_eq_true rfl) dX12_lawOf_50 rfl rfl ⟨Nat.le_of_ble_eq_true rfl, Nat.le_of_ble_eq_true rfl⟩ ⟨Nat.le_refl _, Nat.le_refl _⟩) hS (fun x_17 H locs hp_16 hU hS => ?_)
    refine b_if_eq (tgt := 61) hx hb dX12_lawOf_53 (by decide) (fun c_18 => ?_) (fun c_18 => ?_)
    ·
      refine lv_bipush (v := (-9)) hx hb dX12_lawOf_61 (by decide) ?_
      exact hret (⟨rfl, rfl, ⟨⟨by omega, by omega⟩, by omega⟩⟩) hU hS dX12_lawOf_63
    ·
      refine lv_iload hx hb dX12_lawOf_56 (lv_at hl 0 rfl) ?_
      refine lv_goto (tgt := 63) hx hb dX12_lawOf_58 (by decide) ?_
      exact hret (⟨rfl, rfl, ⟨⟨by omega, by omega⟩, by omega⟩⟩) hU hS dX12_lawOf_63
  ·
    refine lv_iload_n hx hb dX12_lawOf_42 rfl (lv_at hl 1 rfl) ?_
    refine lv_goto (tgt := 63) hx hb dX12_lawOf_43 (by decide) ?_
    exact hret (⟨rfl, rfl, ⟨⟨by omega, by omega⟩, by omega⟩⟩) hU hS dX12_lawOf_63
set_option maxHeartbeats 4000000 in
set_option maxRecDepth 100000 in
theorem c_X12_milesOf {l : Launch} {D : va_G} {cA : FieldType → ClassId} {sz : Nat} {al : Al} {iv : Iv} {rv : Rv} (hG : GI al iv rv) (tt : Int32) (pre0 : 0 ≤ tt.toInt ∧ tt.toInt < (iv 0 0 20).toInt) : Met l yX12_milesOf (wd yX12_milesOf cX12_milesOf 2 (some .int)) (rm 1) (PcW D cA sz al iv rv [.ref (al.2 0 0), .int tt]) (QI D cA sz al (pI iv rv (fun r => True))) 0 0 (Aq sz) := by
  refine mk_i (by decide) (Nat.le_of_ble_eq_true rfl) rfl ?_
  intro p e s m args below meth c ls Q H locs C hU hS hl hret
  have hx := C.1.1
  have hb := C.1.2.1
  have hl : lv_has ls 2 [(0, .ref (al.2 0 0)), (1, .int tt)] := hl
  have hG0 := hG
  have h6 := le6 hG
  have h20 := le20 hG
  have h41 := le41 hG
  have h20 := le20 hG
  have k10 : (10 : Int32).toInt = 10 := by decide
  refine lv_aload_n hx hb dX12_milesOf_0 rfl (lv_at hl 0 rfl) ?_
  refine g_0_2 C hU hG (h1_0 hG) fl_X12_13 dX12_milesOf_1 ?_
  refine lv_bipush (v := 10) hx hb dX12_milesOf_4 (by decide) ?_
  refine lv_aload_n hx hb dX12_milesOf_6 rfl (lv_at hl 0 rfl) ?_
  refine g_0_7 C hU hG (h1_0 hG) fl_X12_22 dX12_milesOf_7 ?_
  refine lv_aload_n hx hb dX12_milesOf_10 rfl (lv_at hl 0 rfl) ?_
  refine lv_iload_n hx hb dX12_milesOf_11 rfl (lv_at hl 1 rfl) ?_
  refine q_pi (q_runV (t := 0) (i := 0) (As := [.int tt]) (rest := [.ref (al.2 5 0), .int 10, .ref (al.2 2 0)]) C hU (c_X12_firstLeg hG tt (by omega)) vm_X12_firstLeg ml_X12_253 k_0.1 (hc := rfl) rfl (h1_0 hG) hl.1 rfl rfl (Nat.le_of_ble_eq_true rfl) dX12_milesOf_12 rfl rfl ⟨Nat.le_of_ble_eq_true rfl, Nat.le_of_ble_eq_true rfl⟩ ⟨Nat.le_refl _, Nat.le_refl _⟩) hS (fun x_2 H locs hp_1 hU hS => ?_)
  refine a_5 C hU hG (h1_5 hG) (x := x_2) (by omega) (by omega) dX12_milesOf_15 (fun x_3 e_4 le_4 ue_4 => ?_)
  have te_4 := congrArg Int32.toInt e_4
  refine lv_imul hx hb dX12_milesOf_16 ?_
  refine lv_topi (fun x_5 e_6 => ?_)
  have te_6 : x_5.toInt = 10 * (x_3 : Int32).toInt := by rw [e_6, fb_mulI (by rw [show (10 : Int32).toInt = 10 from by decide]; omega) (by rw [show (10 : Int32).toInt = 10 from by decide]; omega), show (10 : Int32).toInt = 10 from by decide]
  refine lv_aload_n hx hb dX12_milesOf_17 rfl (lv_at hl 0 rfl) ?_
  refine g_0_8 C hU hG (h1_0 hG) fl_X12_25 dX12_milesOf_18 ?_
  refine lv_aload_n hx hb dX12_milesOf_21 rfl (lv_at hl 0 rfl) ?_
  refine lv_iload_n hx hb dX12_milesOf_22 rfl (lv_at hl 1 rfl) ?_
  refine q_pi (q_runV (t := 0) (i := 0) (As := [.int tt]) (rest := [.ref (al.2 6 0), .int x_5, .ref (al.2 2 0)]) C hU (c_X12_lastLeg hG tt (by omega)) vm_X12_lastLeg ml_X12_232 k_0.1 (hc := rfl) rfl (h1_0 hG) hl.1 rfl rfl (Nat.le_of_ble_eq_true rfl) dX12_milesOf_23 rfl rfl ⟨Nat.le_of_ble_eq_true rfl, Nat.le_of_ble_eq_true rfl⟩ ⟨Nat.le_refl _, Nat.le_refl _⟩) hS (fun x_8 H locs hp_7 hU hS => ?_)
  refine a_6 C hU hG (h1_6 hG) (x := x_8) (by omega) (by omega) dX12_milesOf_26 (fun x_9 e_10 le_10 ue_10 => ?_)
  have te_10 := congrArg Int32.toInt e_10
  refine lv_iadd hx hb dX12_milesOf_27 ?_
  refine lv_topi (fun x_11 e_12 => ?_)
  have te_12 : x_11.toInt = (x_5 : Int32).toInt + (x_9 : Int32).toInt := by rw [e_12]; exact fb_addI (by omega) (by omega)
  refine a_2 C hU hG (h1_2 hG) (x := x_11) (by omega) (by omega) dX12_milesOf_28 (fun x_13 e_14 => ?_)
  have te_14 := congrArg Int32.toInt e_14
  exact hret (⟨rfl, rfl, trivial⟩) hU hS dX12_milesOf_29
set_option maxHeartbeats 4000000 in
set_option maxRecDepth 100000 in
theorem c_X12_isExcused {l : Launch} {D : va_G} {cA : FieldType → ClassId} {sz : Nat} {al : Al} {iv : Iv} {rv : Rv} (hG : GI al iv rv) (tt : Int32) (d : Int32) (pre0 : 0 ≤ tt.toInt ∧ tt.toInt < (iv 0 0 20).toInt) : Met l yX12_isExcused (wd yX12_isExcused cX12_isExcused 9 (some .boolean)) (rm 8) (PcW D cA sz al iv rv [.ref (al.2 0 0), .int tt, .int d]) (QI D cA sz al (fI al ([17], []) iv rv (fun r iv' rv' => (0 ≤ r.toInt ∧ r.toInt ≤ 1) ∧ (True)))) 0 0 (Aq sz) := by
  refine mk_z (by decide) (Nat.le_of_ble_eq_true rfl) rfl ?_
  intro p e s m args below meth c ls Q H locs C hU hS hl hret
  have hx := C.1.1
  have hb := C.1.2.1
  have hl : lv_has ls 9 [(0, .ref (al.2 0 0)), (1, .int tt), (2, .int d)] := hl
  have hG0 := hG
  have h6 := le6 hG
  have h20 := le20 hG
  have h41 := le41 hG
  have h20 := le20 hG
  have hF1 : FR ([17], []) iv iv := FR.rf
  have hF2 : FR ([17], []) rv rv := FR.rf
  have k0 : (0 : Int32).toInt = 0 := by decide
  have k1 : (1 : Int32).toInt = 1 := by decide
  have k1440 : (1440 : Int32).toInt = 1440 := by decide
  refine lv_aload_n hx hb dX12_isExcused_0 rfl (lv_at hl 0 rfl) ?_
  refine lv_iload_n hx hb dX12_isExcused_1 rfl (lv_at hl 1 rfl) ?_
  refine lv_iload_n hx hb dX12_isExcused_2 rfl (lv_at hl 2 rfl) ?_
  refine q_pi (q_runV (t := 0) (i := 0) (As := [.int tt, .int d]) (rest := []) C hU (c_X12_lawOf hG tt d (by omega)) vm_X12_lawOf ml_X12_260 k_0.1 (hc := rfl) rfl (h1_0 hG) hl.1 rfl rfl (Nat.le_of_ble_eq_true rfl) dX12_isExcused_3 rfl rfl ⟨Nat.le_of_ble_eq_true rfl, Nat.le_of_ble_eq_true rfl⟩ ⟨Nat.le_refl _, Nat.le_refl _⟩) hS (fun x_2 H locs hp_1 hU hS => ?_)
  refine lv_istore_n (lv' := [(3, .int x_2), (0, .ref (al.2 0 0)), (1, .int tt), (2, .int d)]) hx hb dX12_isExcused_6 rfl hl (by decide) rfl (fun ls hl => ?_)
  refine lv_aload_n hx hb dX12_isExcused_7 rfl (lv_at hl 1 rfl) ?_
  refine lv_iload_n hx hb dX12_isExcused_8 rfl (lv_at hl 2 rfl) ?_
  refine q_fi (q_runV (t := 0) (i := 0) (As := [.int tt]) (rest := []) C hU (c_X12_blameOf hG tt (by omega)) vm_X12_blameOf ml_X12_241 k_0.1 (hc := rfl) rfl (h1_0 hG) hl.1 rfl rfl (Nat.le_of_ble_eq_true rfl) dX12_isExcused_9 rfl rfl ⟨Nat.le_of_ble_eq_true rfl, Nat.le_of_ble_eq_true rfl⟩ ⟨Nat.le_refl _, Nat.le_refl _⟩) hS (fun x_8 iv_4 rv_5 H locs hG fa_6 fb_7 hp_3 hU hS => ?_)
  have hF1 := hF1.tr (m := ([17], [])) fa_6 (by decide)
  have hF2 := hF2.tr (m := ([17], [])) fb_7 (by decide)
  have kf_9 := congrArg Int32.toInt (hF1 0 0 20 (by decide))
  refine lv_istore (lv' := [(4, .int x_8), (3, .int x_2), (0, .ref (al.2 0 0)), (1, .int tt), (2, .int d)]) hx hb dX12_isExcused_12 hl (by decide) rfl (fun ls hl => ?_)
  refine lv_aload_n hx hb dX12_isExcused_14 rfl (lv_at hl 2 rfl) ?_
  refine g_0_11 C hU hG (h1_0 hG) fl_X12_34 dX12_isExcused_15 ?_
  refine lv_aload_n hx hb dX12_isExcused_18 rfl (lv_at hl 2 rfl) ?_
  refine lv_iload_n hx hb dX12_isExcused_19 rfl (lv_at hl 3 rfl) ?_
  refine q_pi (q_runV (t := 0) (i := 0) (As := [.int tt]) (rest := [.ref (al.2 9 0)]) C hU (c_X12_firstLeg hG tt (by omega)) vm_X12_firstLeg ml_X12_253 k_0.1 (hc := rfl) rfl (h1_0 hG) hl.1 rfl rfl (Nat.le_of_ble_eq_true rfl) dX12_isExcused_20 rfl rfl ⟨Nat.le_of_ble_eq_true rfl, Nat.le_of_ble_eq_true rfl⟩ ⟨Nat.le_refl _, Nat.le_refl _⟩) hS (fun x_11 H locs hp_10 hU hS => ?_)
  refine a_9 C hU hG (h1_9 hG) (x := x_11) (by omega) (by omega) dX12_isExcused_23 (fun x_12 e_13 le_13 ue_13 => ?_)
  have te_13 := congrArg Int32.toInt e_13
  have ne_13 : x_12.toInt = (iv 9 0 (x_11 : Int32).toNatClampNeg).toInt := by rw [e_13, hF1.arr 9 0 (x_11 : Int32).toNatClampNeg (by decide)]
  refine lv_sipush (v := 1440) hx hb dX12_isExcused_24 (by decide) ?_
  refine lv_idiv hx hb dX12_isExcused_27 (by decide) ?_
  refine lv_topi (fun x_14 e_15 => ?_)
  have te_15 : 0 ≤ x_14.toInt ∧ x_14.toInt ≤ (x_12 : Int32).toInt := by rw [e_15]; exact div_rng (by omega) (by omega)
  refine lv_istore (lv' := [(5, .int x_14), (4, .int x_8), (3, .int x_2), (0, .ref (al.2 0 0)), (1, .int tt), (2, .int d)]) hx hb dX12_isExcused_28 hl (by decide) rfl (fun ls hl => ?_)
  refine lv_iconst (v := 0) hx hb dX12_isExcused_30 (by decide) ?_
  refine lv_istore (lv' := [(6, .int 0), (5, .int x_14), (4, .int x_8), (3, .int x_2), (0, .ref (al.2 0 0)), (1, .int tt), (2, .int d)]) hx hb dX12_isExcused_31 hl (by decide) rfl (fun ls hl => ?_)
  refine lv_iconst (v := 0) hx hb dX12_isExcused_33 (by decide) ?_
  refine lv_istore (lv' := [(7, .int 0), (6, .int 0), (5, .int x_14), (4, .int x_8), (3, .int x_2), (0, .ref (al.2 0 0)), (1, .int tt), (2, .int d)]) hx hb dX12_isExcused_34 hl (by decide) rfl (fun ls hl => ?_)
  have J_36 : ∀ (n_36 : Nat) (l6_16 : Int32) (l7_17 : Int32) (ls : Array Slot), lv_has ls 9 [(0, .ref (al.2 0 0)), (3, .int x_2), (4, .int x_8), (5, .int x_14), (6, .int l6_16), (7, .int l7_17)] → (0 ≤ l6_16.toInt ∧ l6_16.toInt ≤ 1) → (0 ≤ l7_17.toInt ∧ l7_17.toInt ≤ 40) → (40 - l7_17.toInt).toNat < n_36 → W p l e (rm 8) s m args below meth c H locs 0 0 Q (F0 m 36 ls []) := by
    intro n_36
    induction n_36 with
    | zero =>
      intro l6_16 l7_17 ls hl i36_0 i36_1 hm_36
      exact absurd hm_36 (Nat.not_lt_zero _)
    | succ n_36 ih_36 =>
      intro l6_16 l7_17 ls hl i36_0 i36_1 hm_36
      refine lv_iload hx hb dX12_isExcused_36 (lv_at hl 5 rfl) ?_
      refine lv_aload_n hx hb dX12_isExcused_38 rfl (lv_at hl 0 rfl) ?_
      refine g_0_30 C hU hG (h1_0 hG) fl_X12_250 dX12_isExcused_39 (fun x_18 e_19 le_19 ue_19 => ?_)
      have te_19 := congrArg Int32.toInt e_19
      have ne_19 : x_18.toInt = (iv 0 0 30).toInt := by rw [e_19, hF1 0 0 30 (by decide)]
      refine b_icmp_ge (tgt := 124) hx hb dX12_isExcused_42 (by decide) (fun c_20 => ?_) (fun c_20 => ?_)
      ·
        refine lv_iload hx hb dX12_isExcused_124 (lv_at hl 4 rfl) ?_
        exact hret (by omega) (by omega) (⟨hG, hF1, hF2, ⟨⟨by omega, by omega⟩, trivial⟩⟩) hU hS dX12_isExcused_126
      ·
        refine lv_aload_n hx hb dX12_isExcused_45 rfl (lv_at hl 0 rfl) ?_
        refine g_0_31 C hU hG (h1_0 hG) fl_X12_86 dX12_isExcused_46 ?_
        refine lv_iload hx hb dX12_isExcused_49 (lv_at hl 5 rfl) ?_
        refine a_26 C hU hG (h1_26 hG) (x := l7_17) (by omega) (by omega) dX12_isExcused_51 (fun x_21 e_22 le_22 ue_22 => ?_)
        have te_22 := congrArg Int32.toInt e_22
        have ne_22 : x_21.toInt = (iv 26 0 (l7_17 : Int32).toNatClampNeg).toInt := by rw [e_22, hF1.arr 26 0 (l7_17 : Int32).toNatClampNeg (by decide)]
        refine lv_iload_n hx hb dX12_isExcused_52 rfl (lv_at hl 1 rfl) ?_
        have J_97 : ∀ (v_23 : Int32) (ls : Array Slot), lv_has ls 9 [(0, .ref (al.2 0 0)), (3, .int x_2), (4, .int x_8), (5, .int x_14), (6, .int l6_16), (7, .int l7_17)] → (0 ≤ v_23.toInt ∧ v_23.toInt ≤ 1) → W p l e (rm 8) s m args below meth c H locs 0 0 Q (F0 m 97 ls [.int v_23]) := by
          intro v_23 ls hl i97_0
          refine lv_istore (lv' := [(8, .int v_23), (0, .ref (al.2 0 0)), (3, .int x_2), (4, .int x_8), (5, .int x_14), (6, .int l6_16), (7, .int l7_17)]) hx hb dX12_isExcused_97 hl (by decide) rfl (fun ls hl => ?_)
          refine lv_iload hx hb dX12_isExcused_99 (lv_at hl 0 rfl) ?_
          have J_116 : ∀ (v_24 : Int32) (ls : Array Slot), lv_has ls 9 [(0, .ref (al.2 0 0)), (3, .int x_2), (4, .int x_8), (5, .int x_14), (7, .int l7_17)] → (0 ≤ v_24.toInt ∧ v_24.toInt ≤ 1) → W p l e (rm 8) s m args below meth c H locs 0 0 Q (F0 m 116 ls [.int v_24]) := by
            intro v_24 ls hl i116_0
            refine lv_istore (lv' := [(6, .int v_24), (0, .ref (al.2 0 0)), (3, .int x_2), (4, .int x_8), (5, .int x_14), (7, .int l7_17)]) hx hb dX12_isExcused_116 hl (by decide) rfl (fun ls hl => ?_)
            obtain ⟨x_25, e_26⟩ : ∃ y : Int32, y = l7_17 + 1 := ⟨_, rfl⟩
            have te_26 : x_25.toInt = (l7_17 : Int32).toInt + (1 : Int32).toInt := by rw [e_26]; exact fb_addI (by omega) (by omega)
            refine lv_iinc (v := x_25) (lv' := [(7, .int x_25), (6, .int v_24), (0, .ref (al.2 0 0)), (3, .int x_2), (4, .int x_8), (5, .int x_14)]) hx hb dX12_isExcused_118 hl (k := 5) rfl (by rw [e_26]; rfl) (by decide) rfl (fun ls hl => ?_)
            refine lv_goto (tgt := 36) hx hb dX12_isExcused_121 (by decide) ?_
            exact ih_36 v_24 x_25 _ (lv_sub hl [2, 3, 4, 5, 1, 0] rfl) (by omega) (by omega) (by omega)
          refine b_if_eq (tgt := 114) hx hb dX12_isExcused_101 (by decide) (fun c_27 => ?_) (fun c_27 => ?_)
          ·
            refine lv_iload hx hb dX12_isExcused_114 (lv_at hl 5 rfl) ?_
            exact J_116 l6_16 _ (lv_sub hl [1, 2, 3, 4, 6] rfl) (by omega)
          ·
            refine lv_aload_n hx hb dX12_isExcused_104 rfl (lv_at hl 1 rfl) ?_
            refine g_0_35 C hU hG (h1_0 hG) fl_X12_98 dX12_isExcused_105 ?_
            refine lv_iload hx hb dX12_isExcused_108 (lv_at hl 6 rfl) ?_
            refine a_30 C hU hG (h1_30 hG) (x := l7_17) (by omega) (by omega) dX12_isExcused_110 (fun x_28 e_29 le_29 ue_29 => ?_)
            have te_29 := congrArg Int32.toInt e_29
            have ne_29 : x_28.toInt = (iv 30 0 (l7_17 : Int32).toNatClampNeg).toInt := by rw [e_29, hF1.arr 30 0 (l7_17 : Int32).toNatClampNeg (by decide)]
            refine lv_goto (tgt := 116) hx hb dX12_isExcused_111 (by decide) ?_
            exact J_116 x_28 _ (lv_sub hl [1, 2, 3, 4, 6] rfl) (by omega)
        have J_96 : ∀ (ls : Array Slot), lv_has ls 9 [(0, .ref (al.2 0 0)), (3, .int x_2), (4, .int x_8), (5, .int x_14), (6, .int l6_16), (7, .int l7_17)] → W p l e (rm 8) s m args below meth c H locs 0 0 Q (F0 m 96 ls []) := by
          intro ls hl
          refine lv_iconst (v := 0) hx hb dX12_isExcused_96 (by decide) ?_
          exact J_97 0 _ (lv_sub hl [0, 1, 2, 3, 4, 5] rfl) (by omega)
        refine b_icmp_ne (tgt := 96) hx hb dX12_isExcused_53 (by decide) (fun c_30 => ?_) (fun c_30 => ?_)
        ·
          exact J_96 _ (lv_sub hl [0, 1, 2, 3, 4, 5] rfl)
        ·
          refine lv_aload_n hx hb dX12_isExcused_56 rfl (lv_at hl 0 rfl) ?_
          refine g_0_32 C hU hG (h1_0 hG) fl_X12_89 dX12_isExcused_57 ?_
          refine lv_iload hx hb dX12_isExcused_60 (lv_at hl 5 rfl) ?_
          refine a_27 C hU hG (h1_27 hG) (x := l7_17) (by omega) (by omega) dX12_isExcused_62 (fun x_31 e_32 le_32 ue_32 => ?_)
          have te_32 := congrArg Int32.toInt e_32
          have ne_32 : x_31.toInt = (iv 27 0 (l7_17 : Int32).toNatClampNeg).toInt := by rw [e_32, hF1.arr 27 0 (l7_17 : Int32).toNatClampNeg (by decide)]
          refine lv_iload hx hb dX12_isExcused_63 (lv_at hl 2 rfl) ?_
          refine b_icmp_ne (tgt := 96) hx hb dX12_isExcused_65 (by decide) (fun c_33 => ?_) (fun c_33 => ?_)
          ·
            exact J_96 _ (lv_sub hl [0, 1, 2, 3, 4, 5] rfl)
          ·
            refine lv_aload_n hx hb dX12_isExcused_68 rfl (lv_at hl 0 rfl) ?_
            refine g_0_34 C hU hG (h1_0 hG) fl_X12_95 dX12_isExcused_69 ?_
            refine lv_iload hx hb dX12_isExcused_72 (lv_at hl 5 rfl) ?_
            refine a_29 C hU hG (h1_29 hG) (x := l7_17) (by omega) (by omega) dX12_isExcused_74 (fun x_34 e_35 le_35 ue_35 => ?_)
            have te_35 := congrArg Int32.toInt e_35
            have ne_35 : x_34.toInt = (iv 29 0 (l7_17 : Int32).toNatClampNeg).toInt := by rw [e_35, hF1.arr 29 0 (l7_17 : Int32).toNatClampNeg (by decide)]
            refine lv_iload hx hb dX12_isExcused_75 (lv_at hl 3 rfl) ?_
            refine b_icmp_gt (tgt := 96) hx hb dX12_isExcused_77 (by decide) (fun c_36 => ?_) (fun c_36 => ?_)
            ·
              exact J_96 _ (lv_sub hl [0, 1, 2, 3, 4, 5] rfl)
            ·
              refine lv_aload_n hx hb dX12_isExcused_80 rfl (lv_at hl 0 rfl) ?_
              refine g_0_33 C hU hG (h1_0 hG) fl_X12_92 dX12_isExcused_81 ?_
              refine lv_iload hx hb dX12_isExcused_84 (lv_at hl 5 rfl) ?_
              refine a_28 C hU hG (h1_28 hG) (x := l7_17) (by omega) (by omega) dX12_isExcused_86 (fun x_37 e_38 le_38 ue_38 => ?_)
              have te_38 := congrArg Int32.toInt e_38
              have ne_38 : x_37.toInt = (iv 28 0 (l7_17 : Int32).toNatClampNeg).toInt := by rw [e_38, hF1.arr 28 0 (l7_17 : Int32).toNatClampNeg (by decide)]
              refine lv_iload hx hb dX12_isExcused_87 (lv_at hl 3 rfl) ?_
              refine b_icmp_gt (tgt := 96) hx hb dX12_isExcused_89 (by decide) (fun c_39 => ?_) (fun c_39 => ?_)
              ·
                exact J_96 _ (lv_sub hl [0, 1, 2, 3, 4, 5] rfl)
              ·
                refine lv_iconst (v := 1) hx hb dX12_isExcused_92 (by decide) ?_
                refine lv_goto (tgt := 97) hx hb dX12_isExcused_93 (by decide) ?_
                exact J_97 1 _ (lv_sub hl [0, 1, 2, 3, 4, 5] rfl) (by omega)
  exact J_36 _ 0 0 _ (lv_sub hl [5, 4, 3, 2, 1, 0] rfl) (by omega) (by omega) (Nat.lt_succ_self _)
set_option maxHeartbeats 4000000 in
set_option maxRecDepth 100000 in
theorem c_X12_sumOf {l : Launch} {D : va_G} {cA : FieldType → ClassId} {sz : Nat} {al : Al} {iv : Iv} {rv : Rv} (hG : GI al iv rv) (tt : Int32) (d : Int32) (pre0 : 0 ≤ tt.toInt ∧ tt.toInt < (iv 0 0 20).toInt) : Met l yX12_sumOf (wd yX12_sumOf cX12_sumOf 8 (some .int)) (rm 9) (PcW D cA sz al iv rv [.ref (al.2 0 0), .int tt, .int d]) (QI D cA sz al (fI al ([17, 20], []) iv rv (fun r iv' rv' => True))) 0 0 (Aq sz) := by
  refine mk_i (by decide) (Nat.le_of_ble_eq_true rfl) rfl ?_
  intro p e s m args below meth c ls Q H locs C hU hS hl hret
  have hx := C.1.1
  have hb := C.1.2.1
  have hl : lv_has ls 8 [(0, .ref (al.2 0 0)), (1, .int tt), (2, .int d)] := hl
  have hG0 := hG
  have h6 := le6 hG
  have h20 := le20 hG
  have h41 := le41 hG
  have h20 := le20 hG
  have hF1 : FR ([17, 20], []) iv iv := FR.rf
  have hF2 : FR ([17, 20], []) rv rv := FR.rf
  have k0 : (0 : Int32).toInt = 0 := by decide
  have k1 : (1 : Int32).toInt = 1 := by decide
  refine lv_aload_n hx hb dX12_sumOf_0 rfl (lv_at hl 0 rfl) ?_
  refine lv_iload_n hx hb dX12_sumOf_1 rfl (lv_at hl 1 rfl) ?_
  refine lv_iload_n hx hb dX12_sumOf_2 rfl (lv_at hl 2 rfl) ?_
  refine q_pi (q_runV (t := 0) (i := 0) (As := [.int tt, .int d]) (rest := []) C hU (c_X12_lawOf hG tt d (by omega)) vm_X12_lawOf ml_X12_260 k_0.1 (hc := rfl) rfl (h1_0 hG) hl.1 rfl rfl (Nat.le_of_ble_eq_true rfl) dX12_sumOf_3 rfl rfl ⟨Nat.le_of_ble_eq_true rfl, Nat.le_of_ble_eq_true rfl⟩ ⟨Nat.le_refl _, Nat.le_refl _⟩) hS (fun x_2 H locs hp_1 hU hS => ?_)
  refine lv_istore_n (lv' := [(3, .int x_2), (0, .ref (al.2 0 0)), (1, .int tt), (2, .int d)]) hx hb dX12_sumOf_6 rfl hl (by decide) rfl (fun ls hl => ?_)
  refine lv_iload_n hx hb dX12_sumOf_7 rfl (lv_at hl 0 rfl) ?_
  refine b_if_lt (tgt := 20) hx hb dX12_sumOf_8 (by decide) (fun c_3 => ?_) (fun c_3 => ?_)
  ·
    refine lv_iconst (v := 0) hx hb dX12_sumOf_20 (by decide) ?_
    exact hret (⟨hG, hF1, hF2, trivial⟩) hU hS dX12_sumOf_21
  ·
    refine lv_aload_n hx hb dX12_sumOf_11 rfl (lv_at hl 1 rfl) ?_
    refine lv_iload_n hx hb dX12_sumOf_12 rfl (lv_at hl 2 rfl) ?_
    refine lv_iload_n hx hb dX12_sumOf_13 rfl (lv_at hl 3 rfl) ?_
    refine q_fi (q_runV (t := 0) (i := 0) (As := [.int tt, .int d]) (rest := []) C hU (c_X12_isExcused hG tt d (by omega)) vm_X12_isExcused ml_X12_263 k_0.1 (hc := rfl) rfl (h1_0 hG) hl.1 rfl rfl (Nat.le_of_ble_eq_true rfl) dX12_sumOf_14 rfl rfl ⟨Nat.le_of_ble_eq_true rfl, Nat.le_of_ble_eq_true rfl⟩ ⟨Nat.le_refl _, Nat.le_refl _⟩) hS (fun x_9 iv_5 rv_6 H locs hG fa_7 fb_8 hp_4 hU hS => ?_)
    have hF1 := hF1.tr (m := ([17, 20], [])) fa_7 (by decide)
    have hF2 := hF2.tr (m := ([17, 20], [])) fb_8 (by decide)
    have kf_10 := congrArg Int32.toInt (hF1 0 0 20 (by decide))
    refine b_if_eq (tgt := 22) hx hb dX12_sumOf_17 (by decide) (fun c_11 => ?_) (fun c_11 => ?_)
    ·
      refine lv_aload_n hx hb dX12_sumOf_22 rfl (lv_at hl 1 rfl) ?_
      refine lv_iload_n hx hb dX12_sumOf_23 rfl (lv_at hl 2 rfl) ?_
      refine q_fi (q_runV (t := 0) (i := 0) (As := [.int tt]) (rest := []) C hU (c_X12_hoursOf hG tt (by omega)) vm_X12_hoursOf ml_X12_238 k_0.1 (hc := rfl) rfl (h1_0 hG) hl.1 rfl rfl (Nat.le_of_ble_eq_true rfl) dX12_sumOf_24 rfl rfl ⟨Nat.le_of_ble_eq_true rfl, Nat.le_of_ble_eq_true rfl⟩ ⟨Nat.le_refl _, Nat.le_refl _⟩) hS (fun x_17 iv_13 rv_14 H locs hG fa_15 fb_16 hp_12 hU hS => ?_)
      have hF1 := hF1.tr (m := ([17, 20], [])) fa_15 (by decide)
      have hF2 := hF2.tr (m := ([17, 20], [])) fb_16 (by decide)
      have kf_18 := congrArg Int32.toInt (hF1 0 0 20 (by decide))
      refine lv_istore (lv' := [(4, .int x_17), (3, .int x_2), (0, .ref (al.2 0 0)), (1, .int tt), (2, .int d)]) hx hb dX12_sumOf_27 hl (by decide) rfl (fun ls hl => ?_)
      refine lv_iconst (v := 0) hx hb dX12_sumOf_29 (by decide) ?_
      refine lv_istore (lv' := [(5, .int 0), (4, .int x_17), (3, .int x_2), (0, .ref (al.2 0 0)), (1, .int tt), (2, .int d)]) hx hb dX12_sumOf_30 hl (by decide) rfl (fun ls hl => ?_)
      refine lv_iconst (v := 0) hx hb dX12_sumOf_32 (by decide) ?_
      refine lv_istore (lv' := [(6, .int 0), (5, .int 0), (4, .int x_17), (3, .int x_2), (0, .ref (al.2 0 0)), (1, .int tt), (2, .int d)]) hx hb dX12_sumOf_33 hl (by decide) rfl (fun ls hl => ?_)
      have J_35 : ∀ (n_35 : Nat) (l5_19 : Int32) (l6_20 : Int32) (H : Heap) (locs : List Loc) (ls : Array Slot), lv_has ls 8 [(0, .ref (al.2 0 0)), (1, .int tt), (2, .int d), (3, .int x_2), (4, .int x_17), (5, .int l5_19), (6, .int l6_20)] → UW D cA sz al iv_13 rv_14 H → va_S (Aq sz) s.heap H locs → (0 ≤ l6_20.toInt ∧ l6_20.toInt ≤ 30) → (30 - l6_20.toInt).toNat < n_35 → W p l e (rm 9) s m args below meth c H locs 0 0 Q (F0 m 35 ls []) := by
        intro n_35
        induction n_35 with
        | zero =>
          intro l5_19 l6_20 H locs ls hl hU hS i35_0 hm_35
          exact absurd hm_35 (Nat.not_lt_zero _)
        | succ n_35 ih_35 =>
          intro l5_19 l6_20 H locs ls hl hU hS i35_0 hm_35
          refine lv_iload hx hb dX12_sumOf_35 (lv_at hl 6 rfl) ?_
          refine lv_aload_n hx hb dX12_sumOf_37 rfl (lv_at hl 0 rfl) ?_
          refine g_0_24 C hU hG (h1_0 hG) fl_X12_247 dX12_sumOf_38 (fun x_21 e_22 le_22 ue_22 => ?_)
          have te_22 := congrArg Int32.toInt e_22
          have ne_22 : x_21.toInt = (iv 0 0 24).toInt := by rw [e_22, hF1 0 0 24 (by decide)]
          refine b_icmp_ge (tgt := 137) hx hb dX12_sumOf_41 (by decide) (fun c_23 => ?_) (fun c_23 => ?_)
          ·
            refine lv_iload hx hb dX12_sumOf_137 (lv_at hl 5 rfl) ?_
            exact hret (⟨hG, hF1, hF2, trivial⟩) hU hS dX12_sumOf_139
          ·
            refine lv_aload_n hx hb dX12_sumOf_44 rfl (lv_at hl 0 rfl) ?_
            refine g_0_25 C hU hG (h1_0 hG) fl_X12_71 dX12_sumOf_45 ?_
            refine lv_iload hx hb dX12_sumOf_48 (lv_at hl 6 rfl) ?_
            refine a_21 C hU hG (h1_21 hG) (x := l6_20) (by omega) (by omega) dX12_sumOf_50 (fun x_24 e_25 le_25 ue_25 => ?_)
            have te_25 := congrArg Int32.toInt e_25
            have ne_25 : x_24.toInt = (iv 21 0 (l6_20 : Int32).toNatClampNeg).toInt := by rw [e_25, hF1.arr 21 0 (l6_20 : Int32).toNatClampNeg (by decide)]
            refine lv_iload_n hx hb dX12_sumOf_51 rfl (lv_at hl 3 rfl) ?_
            have J_98 : ∀ (v_26 : Int32) (H : Heap) (locs : List Loc) (ls : Array Slot), lv_has ls 8 [(0, .ref (al.2 0 0)), (1, .int tt), (2, .int d), (3, .int x_2), (4, .int x_17), (5, .int l5_19), (6, .int l6_20)] → UW D cA sz al iv_13 rv_14 H → va_S (Aq sz) s.heap H locs → (0 ≤ v_26.toInt ∧ v_26.toInt ≤ 1) → W p l e (rm 9) s m args below meth c H locs 0 0 Q (F0 m 98 ls [.int v_26]) := by
              intro v_26 H locs ls hl hU hS i98_0
              refine lv_istore (lv' := [(7, .int v_26), (0, .ref (al.2 0 0)), (1, .int tt), (2, .int d), (3, .int x_2), (4, .int x_17), (5, .int l5_19), (6, .int l6_20)]) hx hb dX12_sumOf_98 hl (by decide) rfl (fun ls hl => ?_)
              refine lv_iload hx hb dX12_sumOf_100 (lv_at hl 0 rfl) ?_
              have J_129 : ∀ (v_27 : Int32) (ls : Array Slot), lv_has ls 8 [(0, .ref (al.2 0 0)), (1, .int tt), (2, .int d), (3, .int x_2), (4, .int x_17), (6, .int l6_20)] → W p l e (rm 9) s m args below meth c H locs 0 0 Q (F0 m 129 ls [.int v_27]) := by
                intro v_27 ls hl
                refine lv_istore (lv' := [(5, .int v_27), (0, .ref (al.2 0 0)), (1, .int tt), (2, .int d), (3, .int x_2), (4, .int x_17), (6, .int l6_20)]) hx hb dX12_sumOf_129 hl (by decide) rfl (fun ls hl => ?_)
                obtain ⟨x_28, e_29⟩ : ∃ y : Int32, y = l6_20 + 1 := ⟨_, rfl⟩
                have te_29 : x_28.toInt = (l6_20 : Int32).toInt + (1 : Int32).toInt := by rw [e_29]; exact fb_addI (by omega) (by omega)
                refine lv_iinc (v := x_28) (lv' := [(6, .int x_28), (5, .int v_27), (0, .ref (al.2 0 0)), (1, .int tt), (2, .int d), (3, .int x_2), (4, .int x_17)]) hx hb dX12_sumOf_131 hl (k := 6) rfl (by rw [e_29]; rfl) (by decide) rfl (fun ls hl => ?_)
                refine lv_goto (tgt := 35) hx hb dX12_sumOf_134 (by decide) ?_
                exact ih_35 v_27 x_28 _ _ _ (lv_sub hl [2, 3, 4, 5, 6, 1, 0] rfl) hU hS (by omega) (by omega)
              have J_127 : ∀ (ls : Array Slot), lv_has ls 8 [(0, .ref (al.2 0 0)), (1, .int tt), (2, .int d), (3, .int x_2), (4, .int x_17), (5, .int l5_19), (6, .int l6_20)] → W p l e (rm 9) s m args below meth c H locs 0 0 Q (F0 m 127 ls []) := by
                intro ls hl
                refine lv_iload hx hb dX12_sumOf_127 (lv_at hl 5 rfl) ?_
                exact J_129 l5_19 _ (lv_sub hl [0, 1, 2, 3, 4, 6] rfl)
              refine b_if_eq (tgt := 127) hx hb dX12_sumOf_102 (by decide) (fun c_30 => ?_) (fun c_30 => ?_)
              ·
                exact J_127 _ (lv_sub hl [1, 2, 3, 4, 5, 6, 7] rfl)
              ·
                refine lv_aload_n hx hb dX12_sumOf_105 rfl (lv_at hl 1 rfl) ?_
                refine g_0_29 C hU hG (h1_0 hG) fl_X12_83 dX12_sumOf_106 ?_
                refine lv_iload hx hb dX12_sumOf_109 (lv_at hl 7 rfl) ?_
                refine a_25 C hU hG (h1_25 hG) (x := l6_20) (by omega) (by omega) dX12_sumOf_111 (fun x_31 e_32 le_32 ue_32 => ?_)
                have te_32 := congrArg Int32.toInt e_32
                have ne_32 : x_31.toInt = (iv 25 0 (l6_20 : Int32).toNatClampNeg).toInt := by rw [e_32, hF1.arr 25 0 (l6_20 : Int32).toNatClampNeg (by decide)]
                refine lv_iload hx hb dX12_sumOf_112 (lv_at hl 6 rfl) ?_
                refine b_icmp_le (tgt := 127) hx hb dX12_sumOf_114 (by decide) (fun c_33 => ?_) (fun c_33 => ?_)
                ·
                  exact J_127 _ (lv_sub hl [1, 2, 3, 4, 5, 6, 7] rfl)
                ·
                  refine lv_aload_n hx hb dX12_sumOf_117 rfl (lv_at hl 1 rfl) ?_
                  refine g_0_29 C hU hG (h1_0 hG) fl_X12_83 dX12_sumOf_118 ?_
                  refine lv_iload hx hb dX12_sumOf_121 (lv_at hl 7 rfl) ?_
                  refine a_25 C hU hG (h1_25 hG) (x := l6_20) (by omega) (by omega) dX12_sumOf_123 (fun x_34 e_35 le_35 ue_35 => ?_)
                  have te_35 := congrArg Int32.toInt e_35
                  have ne_35 : x_34.toInt = (iv 25 0 (l6_20 : Int32).toNatClampNeg).toInt := by rw [e_35, hF1.arr 25 0 (l6_20 : Int32).toNatClampNeg (by decide)]
                  refine lv_goto (tgt := 129) hx hb dX12_sumOf_124 (by decide) ?_
                  exact J_129 x_34 _ (lv_sub hl [1, 2, 3, 4, 5, 7] rfl)
            have J_97 : ∀ (H : Heap) (locs : List Loc) (ls : Array Slot), lv_has ls 8 [(0, .ref (al.2 0 0)), (1, .int tt), (2, .int d), (3, .int x_2), (4, .int x_17), (5, .int l5_19), (6, .int l6_20)] → UW D cA sz al iv_13 rv_14 H → va_S (Aq sz) s.heap H locs → W p l e (rm 9) s m args below meth c H locs 0 0 Q (F0 m 97 ls []) := by
              intro H locs ls hl hU hS
              refine lv_iconst (v := 0) hx hb dX12_sumOf_97 (by decide) ?_
              exact J_98 0 _ _ _ (lv_sub hl [0, 1, 2, 3, 4, 5, 6] rfl) hU hS (by omega)
            refine b_icmp_ne (tgt := 97) hx hb dX12_sumOf_52 (by decide) (fun c_36 => ?_) (fun c_36 => ?_)
            ·
              exact J_97 _ _ _ (lv_sub hl [0, 1, 2, 3, 4, 5, 6] rfl) hU hS
            ·
              refine lv_aload_n hx hb dX12_sumOf_55 rfl (lv_at hl 0 rfl) ?_
              refine g_0_26 C hU hG (h1_0 hG) fl_X12_74 dX12_sumOf_56 ?_
              refine lv_iload hx hb dX12_sumOf_59 (lv_at hl 6 rfl) ?_
              refine a_22 C hU hG (h1_22 hG) (x := l6_20) (by omega) (by omega) dX12_sumOf_61 (fun x_37 e_38 le_38 ue_38 => ?_)
              have te_38 := congrArg Int32.toInt e_38
              have ne_38 : x_37.toInt = (iv 22 0 (l6_20 : Int32).toNatClampNeg).toInt := by rw [e_38, hF1.arr 22 0 (l6_20 : Int32).toNatClampNeg (by decide)]
              refine lv_iload_n hx hb dX12_sumOf_62 rfl (lv_at hl 2 rfl) ?_
              refine b_icmp_gt (tgt := 97) hx hb dX12_sumOf_63 (by decide) (fun c_39 => ?_) (fun c_39 => ?_)
              ·
                exact J_97 _ _ _ (lv_sub hl [0, 1, 2, 3, 4, 5, 6] rfl) hU hS
              ·
                refine lv_iload hx hb dX12_sumOf_66 (lv_at hl 4 rfl) ?_
                refine lv_aload_n hx hb dX12_sumOf_68 rfl (lv_at hl 0 rfl) ?_
                refine g_0_27 C hU hG (h1_0 hG) fl_X12_77 dX12_sumOf_69 ?_
                refine lv_iload hx hb dX12_sumOf_72 (lv_at hl 6 rfl) ?_
                refine a_23 C hU hG (h1_23 hG) (x := l6_20) (by omega) (by omega) dX12_sumOf_74 (fun x_40 e_41 le_41 ue_41 => ?_)
                have te_41 := congrArg Int32.toInt e_41
                have ne_41 : x_40.toInt = (iv 23 0 (l6_20 : Int32).toNatClampNeg).toInt := by rw [e_41, hF1.arr 23 0 (l6_20 : Int32).toNatClampNeg (by decide)]
                refine b_icmp_lt (tgt := 97) hx hb dX12_sumOf_75 (by decide) (fun c_42 => ?_) (fun c_42 => ?_)
                ·
                  exact J_97 _ _ _ (lv_sub hl [0, 1, 2, 3, 4, 5, 6] rfl) hU hS
                ·
                  refine lv_aload_n hx hb dX12_sumOf_78 rfl (lv_at hl 0 rfl) ?_
                  refine lv_iload_n hx hb dX12_sumOf_79 rfl (lv_at hl 1 rfl) ?_
                  refine q_pi (q_runV (t := 0) (i := 0) (As := [.int tt]) (rest := []) C hU (c_X12_milesOf hG tt (by omega)) vm_X12_milesOf ml_X12_266 k_0.1 (hc := rfl) rfl (h1_0 hG) hl.1 rfl rfl (Nat.le_of_ble_eq_true rfl) dX12_sumOf_80 rfl rfl ⟨Nat.le_of_ble_eq_true rfl, Nat.le_of_ble_eq_true rfl⟩ ⟨Nat.le_refl _, Nat.le_refl _⟩) hS (fun x_44 H locs hp_43 hU hS => ?_)
                  refine lv_aload_n hx hb dX12_sumOf_83 rfl (lv_at hl 0 rfl) ?_
                  refine g_0_28 C hU hG (h1_0 hG) fl_X12_80 dX12_sumOf_84 ?_
                  refine lv_iload hx hb dX12_sumOf_87 (lv_at hl 6 rfl) ?_
                  refine a_24 C hU hG (h1_24 hG) (x := l6_20) (by omega) (by omega) dX12_sumOf_89 (fun x_45 e_46 le_46 ue_46 => ?_)
                  have te_46 := congrArg Int32.toInt e_46
                  have ne_46 : x_45.toInt = (iv 24 0 (l6_20 : Int32).toNatClampNeg).toInt := by rw [e_46, hF1.arr 24 0 (l6_20 : Int32).toNatClampNeg (by decide)]
                  refine b_icmp_lt (tgt := 97) hx hb dX12_sumOf_90 (by decide) (fun c_47 => ?_) (fun c_47 => ?_)
                  ·
                    exact J_97 _ _ _ (lv_sub hl [0, 1, 2, 3, 4, 5, 6] rfl) hU hS
                  ·
                    refine lv_iconst (v := 1) hx hb dX12_sumOf_93 (by decide) ?_
                    refine lv_goto (tgt := 98) hx hb dX12_sumOf_94 (by decide) ?_
                    exact J_98 1 _ _ _ (lv_sub hl [0, 1, 2, 3, 4, 5, 6] rfl) hU hS (by omega)
      exact J_35 _ 0 0 _ _ _ (lv_sub hl [4, 5, 6, 3, 2, 1, 0] rfl) hU hS (by omega) (Nat.lt_succ_self _)
    ·
      refine lv_iconst (v := 0) hx hb dX12_sumOf_20 (by decide) ?_
      exact hret (⟨hG, hF1, hF2, trivial⟩) hU hS dX12_sumOf_21
set_option maxHeartbeats 4000000 in
set_option maxRecDepth 100000 in
theorem c_X12_sum {l : Launch} {D : va_G} {cA : FieldType → ClassId} {sz : Nat} {al : Al} {iv : Iv} {rv : Rv} (hG : GI al iv rv) (tt : Int32) (d : Int32) (what : Int32) : Met l yX12_sum (wd yX12_sum cX12_sum 4 (some .int)) (rm 10) (PcW D cA sz al iv rv [.ref (al.2 0 0), .int tt, .int d, .int what]) (QI D cA sz al (fI al ([16, 17, 20], []) iv rv (fun r iv' rv' => True))) 0 0 (Aq sz) := by
  refine mk_i (by decide) (Nat.le_of_ble_eq_true rfl) rfl ?_
  intro p e s m args below meth c ls Q H locs C hU hS hl hret
  have hx := C.1.1
  have hb := C.1.2.1
  have hl : lv_has ls 4 [(0, .ref (al.2 0 0)), (1, .int tt), (2, .int d), (3, .int what)] := hl
  have hG0 := hG
  have h6 := le6 hG
  have h20 := le20 hG
  have h41 := le41 hG
  have hF1 : FR ([16, 17, 20], []) iv iv := FR.rf
  have hF2 : FR ([16, 17, 20], []) rv rv := FR.rf
  have km6 : ((-6) : Int32).toInt = -6 := by decide
  have km4 : ((-4) : Int32).toInt = -4 := by decide
  have km2 : ((-2) : Int32).toInt = -2 := by decide
  have km1 : ((-1) : Int32).toInt = -1 := by decide
  have k0 : (0 : Int32).toInt = 0 := by decide
  have k1 : (1 : Int32).toInt = 1 := by decide
  have k2 : (2 : Int32).toInt = 2 := by decide
  have k4000 : (4000 : Int32).toInt = 4000 := by decide
  refine lv_aload_n hx hb dX12_sum_0 rfl (lv_at hl 0 rfl) ?_
  refine lv_iload_n hx hb dX12_sum_1 rfl (lv_at hl 1 rfl) ?_
  refine q_pi (q_runV (t := 0) (i := 0) (As := [.int tt]) (rest := []) C hU (c_X12_isTraveller hG tt ) vm_X12_isTraveller ml_X12_226 k_0.1 (hc := rfl) rfl (h1_0 hG) hl.1 rfl rfl (Nat.le_of_ble_eq_true rfl) dX12_sum_2 rfl rfl ⟨Nat.le_of_ble_eq_true rfl, Nat.le_of_ble_eq_true rfl⟩ ⟨Nat.le_refl _, Nat.le_refl _⟩) hS (fun x_2 H locs hp_1 hU hS => ?_)
  refine b_if_ne (tgt := 14) hx hb dX12_sum_5 (by decide) (fun c_3 => ?_) (fun c_3 => ?_)
  ·
    refine lv_iload_n hx hb dX12_sum_14 rfl (lv_at hl 3 rfl) ?_
    refine lv_iconst (v := 0) hx hb dX12_sum_15 (by decide) ?_
    refine lv_iconst (v := 2) hx hb dX12_sum_16 (by decide) ?_
    refine q_pi (q_runS (As := [.int what, .int 0, .int 2]) (rest := []) C hU (c_X12_in  what 0 2 ) sm_X12_in ml_X12_156 hl.1 rfl rfl (Nat.le_of_ble_eq_true rfl) dX12_sum_17 rfl rfl ⟨Nat.le_of_ble_eq_true rfl, Nat.le_of_ble_eq_true rfl⟩ ⟨Nat.le_refl _, Nat.le_refl _⟩) hS (fun x_5 H locs hp_4 hU hS => ?_)
    refine b_if_ne (tgt := 30) hx hb dX12_sum_20 (by decide) (fun c_6 => ?_) (fun c_6 => ?_)
    ·
      refine lv_iload_n hx hb dX12_sum_30 rfl (lv_at hl 2 rfl) ?_
      refine b_if_ge (tgt := 41) hx hb dX12_sum_31 (by decide) (fun c_7 => ?_) (fun c_7 => ?_)
      ·
        refine lv_iload_n hx hb dX12_sum_41 rfl (lv_at hl 2 rfl) ?_
        refine lv_sipush (v := 4000) hx hb dX12_sum_42 (by decide) ?_
        refine b_icmp_le (tgt := 55) hx hb dX12_sum_45 (by decide) (fun c_8 => ?_) (fun c_8 => ?_)
        ·
          refine lv_iload_n hx hb dX12_sum_55 rfl (lv_at hl 3 rfl) ?_
          refine b_if_ne (tgt := 68) hx hb dX12_sum_56 (by decide) (fun c_9 => ?_) (fun c_9 => ?_)
          ·
            refine lv_iload_n hx hb dX12_sum_68 rfl (lv_at hl 3 rfl) ?_
            refine lv_iconst (v := 1) hx hb dX12_sum_69 (by decide) ?_
            refine b_icmp_ne (tgt := 82) hx hb dX12_sum_70 (by decide) (fun c_10 => ?_) (fun c_10 => ?_)
            ·
              refine lv_aload_n hx hb dX12_sum_82 rfl (lv_at hl 0 rfl) ?_
              refine lv_iload_n hx hb dX12_sum_83 rfl (lv_at hl 1 rfl) ?_
              refine lv_iload_n hx hb dX12_sum_84 rfl (lv_at hl 2 rfl) ?_
              refine q_fi (q_runV (t := 0) (i := 0) (As := [.int tt, .int d]) (rest := []) C hU (c_X12_isExcused hG tt d (by omega)) vm_X12_isExcused ml_X12_263 k_0.1 (hc := rfl) rfl (h1_0 hG) hl.1 rfl rfl (Nat.le_of_ble_eq_true rfl) dX12_sum_85 rfl rfl ⟨Nat.le_of_ble_eq_true rfl, Nat.le_of_ble_eq_true rfl⟩ ⟨Nat.le_refl _, Nat.le_refl _⟩) hS (fun x_16 iv_12 rv_13 H locs hG fa_14 fb_15 hp_11 hU hS => ?_)
              have hF1 := hF1.tr (m := ([16, 17, 20], [])) fa_14 (by decide)
              have hF2 := hF2.tr (m := ([16, 17, 20], [])) fb_15 (by decide)
              refine b_if_eq (tgt := 95) hx hb dX12_sum_88 (by decide) (fun c_17 => ?_) (fun c_17 => ?_)
              ·
                refine lv_iconst (v := 0) hx hb dX12_sum_95 (by decide) ?_
                exact hret (⟨hG, hF1, hF2, trivial⟩) hU hS dX12_sum_96
              ·
                refine lv_iconst (v := 1) hx hb dX12_sum_91 (by decide) ?_
                refine lv_goto (tgt := 96) hx hb dX12_sum_92 (by decide) ?_
                exact hret (⟨hG, hF1, hF2, trivial⟩) hU hS dX12_sum_96
            ·
              refine lv_aload_n hx hb dX12_sum_73 rfl (lv_at hl 0 rfl) ?_
              refine lv_iload_n hx hb dX12_sum_74 rfl (lv_at hl 1 rfl) ?_
              refine lv_iload_n hx hb dX12_sum_75 rfl (lv_at hl 2 rfl) ?_
              refine q_pi (q_runV (t := 0) (i := 0) (As := [.int tt, .int d]) (rest := []) C hU (c_X12_lawOf hG tt d (by omega)) vm_X12_lawOf ml_X12_260 k_0.1 (hc := rfl) rfl (h1_0 hG) hl.1 rfl rfl (Nat.le_of_ble_eq_true rfl) dX12_sum_76 rfl rfl ⟨Nat.le_of_ble_eq_true rfl, Nat.le_of_ble_eq_true rfl⟩ ⟨Nat.le_refl _, Nat.le_refl _⟩) hS (fun x_19 H locs hp_18 hU hS => ?_)
              refine lv_goto (tgt := 96) hx hb dX12_sum_79 (by decide) ?_
              exact hret (⟨hG, hF1, hF2, trivial⟩) hU hS dX12_sum_96
          ·
            refine lv_aload_n hx hb dX12_sum_59 rfl (lv_at hl 0 rfl) ?_
            refine lv_iload_n hx hb dX12_sum_60 rfl (lv_at hl 1 rfl) ?_
            refine lv_iload_n hx hb dX12_sum_61 rfl (lv_at hl 2 rfl) ?_
            refine q_fi (q_runV (t := 0) (i := 0) (As := [.int tt, .int d]) (rest := []) C hU (c_X12_sumOf hG tt d (by omega)) vm_X12_sumOf ml_X12_269 k_0.1 (hc := rfl) rfl (h1_0 hG) hl.1 rfl rfl (Nat.le_of_ble_eq_true rfl) dX12_sum_62 rfl rfl ⟨Nat.le_of_ble_eq_true rfl, Nat.le_of_ble_eq_true rfl⟩ ⟨Nat.le_refl _, Nat.le_refl _⟩) hS (fun x_25 iv_21 rv_22 H locs hG fa_23 fb_24 hp_20 hU hS => ?_)
            have hF1 := hF1.tr (m := ([16, 17, 20], [])) fa_23 (by decide)
            have hF2 := hF2.tr (m := ([16, 17, 20], [])) fb_24 (by decide)
            refine lv_goto (tgt := 96) hx hb dX12_sum_65 (by decide) ?_
            exact hret (⟨hG, hF1, hF2, trivial⟩) hU hS dX12_sum_96
        ·
          refine lv_aload_n hx hb dX12_sum_48 rfl (lv_at hl 0 rfl) ?_
          refine lv_bipush (v := (-6)) hx hb dX12_sum_49 (by decide) ?_
          refine q_fi (q_runV (t := 0) (i := 0) (As := [.int (-6)]) (rest := []) C hU (c_X12_refuse hG (-6) (by omega)) vm_X12_refuse ml_X12_164 k_0.1 (hc := rfl) rfl (h1_0 hG) hl.1 rfl rfl (Nat.le_of_ble_eq_true rfl) dX12_sum_51 rfl rfl ⟨Nat.le_of_ble_eq_true rfl, Nat.le_of_ble_eq_true rfl⟩ ⟨Nat.le_refl _, Nat.le_refl _⟩) hS (fun x_31 iv_27 rv_28 H locs hG fa_29 fb_30 hp_26 hU hS => ?_)
          have hF1 := hF1.tr (m := ([16, 17, 20], [])) fa_29 (by decide)
          have hF2 := hF2.tr (m := ([16, 17, 20], [])) fb_30 (by decide)
          exact hret (⟨hG, hF1, hF2, trivial⟩) hU hS dX12_sum_54
      ·
        refine lv_aload_n hx hb dX12_sum_34 rfl (lv_at hl 0 rfl) ?_
        refine lv_bipush (v := (-4)) hx hb dX12_sum_35 (by decide) ?_
        refine q_fi (q_runV (t := 0) (i := 0) (As := [.int (-4)]) (rest := []) C hU (c_X12_refuse hG (-4) (by omega)) vm_X12_refuse ml_X12_164 k_0.1 (hc := rfl) rfl (h1_0 hG) hl.1 rfl rfl (Nat.le_of_ble_eq_true rfl) dX12_sum_37 rfl rfl ⟨Nat.le_of_ble_eq_true rfl, Nat.le_of_ble_eq_true rfl⟩ ⟨Nat.le_refl _, Nat.le_refl _⟩) hS (fun x_37 iv_33 rv_34 H locs hG fa_35 fb_36 hp_32 hU hS => ?_)
        have hF1 := hF1.tr (m := ([16, 17, 20], [])) fa_35 (by decide)
        have hF2 := hF2.tr (m := ([16, 17, 20], [])) fb_36 (by decide)
        exact hret (⟨hG, hF1, hF2, trivial⟩) hU hS dX12_sum_40
    ·
      refine lv_aload_n hx hb dX12_sum_23 rfl (lv_at hl 0 rfl) ?_
      refine lv_bipush (v := (-2)) hx hb dX12_sum_24 (by decide) ?_
      refine q_fi (q_runV (t := 0) (i := 0) (As := [.int (-2)]) (rest := []) C hU (c_X12_refuse hG (-2) (by omega)) vm_X12_refuse ml_X12_164 k_0.1 (hc := rfl) rfl (h1_0 hG) hl.1 rfl rfl (Nat.le_of_ble_eq_true rfl) dX12_sum_26 rfl rfl ⟨Nat.le_of_ble_eq_true rfl, Nat.le_of_ble_eq_true rfl⟩ ⟨Nat.le_refl _, Nat.le_refl _⟩) hS (fun x_43 iv_39 rv_40 H locs hG fa_41 fb_42 hp_38 hU hS => ?_)
      have hF1 := hF1.tr (m := ([16, 17, 20], [])) fa_41 (by decide)
      have hF2 := hF2.tr (m := ([16, 17, 20], [])) fb_42 (by decide)
      exact hret (⟨hG, hF1, hF2, trivial⟩) hU hS dX12_sum_29
  ·
    refine lv_aload_n hx hb dX12_sum_8 rfl (lv_at hl 0 rfl) ?_
    refine lv_iconst (v := (-1)) hx hb dX12_sum_9 (by decide) ?_
    refine q_fi (q_runV (t := 0) (i := 0) (As := [.int (-1)]) (rest := []) C hU (c_X12_refuse hG (-1) (by omega)) vm_X12_refuse ml_X12_164 k_0.1 (hc := rfl) rfl (h1_0 hG) hl.1 rfl rfl (Nat.le_of_ble_eq_true rfl) dX12_sum_10 rfl rfl ⟨Nat.le_of_ble_eq_true rfl, Nat.le_of_ble_eq_true rfl⟩ ⟨Nat.le_refl _, Nat.le_refl _⟩) hS (fun x_49 iv_45 rv_46 H locs hG fa_47 fb_48 hp_44 hU hS => ?_)
    have hF1 := hF1.tr (m := ([16, 17, 20], [])) fa_47 (by decide)
    have hF2 := hF2.tr (m := ([16, 17, 20], [])) fb_48 (by decide)
    exact hret (⟨hG, hF1, hF2, trivial⟩) hU hS dX12_sum_13
set_option maxHeartbeats 4000000 in
set_option maxRecDepth 100000 in
theorem c_X12_bar {l : Launch} {D : va_G} {cA : FieldType → ClassId} {sz : Nat} {al : Al} {iv : Iv} {rv : Rv} (hG : GI al iv rv) (lw : Int32) (n : Int32) : Met l yX12_bar (wd yX12_bar cX12_bar 4 (some .int)) (rm 2) (PcW D cA sz al iv rv [.ref (al.2 0 0), .int lw, .int n]) (QI D cA sz al (fI al ([16, 31], []) iv rv (fun r iv' rv' => True))) 0 0 (Aq sz) := by
  refine mk_i (by decide) (Nat.le_of_ble_eq_true rfl) rfl ?_
  intro p e s m args below meth c ls Q H locs C hU hS hl hret
  have hx := C.1.1
  have hb := C.1.2.1
  have hl : lv_has ls 4 [(0, .ref (al.2 0 0)), (1, .int lw), (2, .int n)] := hl
  have hG0 := hG
  have h6 := le6 hG
  have h20 := le20 hG
  have h41 := le41 hG
  have hF1 : FR ([16, 31], []) iv iv := FR.rf
  have hF2 : FR ([16, 31], []) rv rv := FR.rf
  have km6 : ((-6) : Int32).toInt = -6 := by decide
  have km4 : ((-4) : Int32).toInt = -4 := by decide
  have km1 : ((-1) : Int32).toInt = -1 := by decide
  have k1 : (1 : Int32).toInt = 1 := by decide
  have k3000 : (3000 : Int32).toInt = 3000 := by decide
  refine lv_iload_n hx hb dX12_bar_0 rfl (lv_at hl 1 rfl) ?_
  refine q_pi (q_runS (As := [.int lw]) (rest := []) C hU (c_X12_isLand  lw ) sm_X12_isLand ml_X12_244 hl.1 rfl rfl (Nat.le_of_ble_eq_true rfl) dX12_bar_1 rfl rfl ⟨Nat.le_of_ble_eq_true rfl, Nat.le_of_ble_eq_true rfl⟩ ⟨Nat.le_refl _, Nat.le_refl _⟩) hS (fun x_2 H locs hp_1 hU hS => ?_)
  refine b_if_ne (tgt := 13) hx hb dX12_bar_4 (by decide) (fun c_3 => ?_) (fun c_3 => ?_)
  ·
    refine lv_iload_n hx hb dX12_bar_13 rfl (lv_at hl 2 rfl) ?_
    refine lv_iconst (v := 1) hx hb dX12_bar_14 (by decide) ?_
    refine b_icmp_ge (tgt := 25) hx hb dX12_bar_15 (by decide) (fun c_4 => ?_) (fun c_4 => ?_)
    ·
      refine lv_iload_n hx hb dX12_bar_25 rfl (lv_at hl 2 rfl) ?_
      refine lv_sipush (v := 3000) hx hb dX12_bar_26 (by decide) ?_
      refine b_icmp_le (tgt := 39) hx hb dX12_bar_29 (by decide) (fun c_5 => ?_) (fun c_5 => ?_)
      ·
        refine lv_aload_n hx hb dX12_bar_39 rfl (lv_at hl 0 rfl) ?_
        refine g_0_36 C hU hG (h1_0 hG) fl_X12_101 dX12_bar_40 ?_
        refine lv_iload_n hx hb dX12_bar_43 rfl (lv_at hl 1 rfl) ?_
        refine a_31 C hU hG (h1_31 hG) (x := lw) (by omega) (by omega) dX12_bar_44 (fun x_6 e_7 le_7 ue_7 => ?_)
        have te_7 := congrArg Int32.toInt e_7
        refine lv_istore_n (lv' := [(3, .int x_6), (0, .ref (al.2 0 0)), (1, .int lw), (2, .int n)]) hx hb dX12_bar_45 rfl hl (by decide) rfl (fun ls hl => ?_)
        refine lv_aload_n hx hb dX12_bar_46 rfl (lv_at hl 1 rfl) ?_
        refine g_0_36 C hU hG (h1_0 hG) fl_X12_101 dX12_bar_47 ?_
        refine lv_iload_n hx hb dX12_bar_50 rfl (lv_at hl 2 rfl) ?_
        refine lv_iload_n hx hb dX12_bar_51 rfl (lv_at hl 3 rfl) ?_
        refine s_31 C hU hS (h1_31 hG) (x := lw) (by omega) (by omega) dX12_bar_52 (fun iv_8 H locs ei_9 hU hS => ?_)
        have hG : GI al iv_8 rv := by rw [ei_9]; exact hG.puti (show _ ∧ _ from ⟨show (0 : Int) ≤ _ by omega, show _ ≤ (3000 : Int) by omega⟩) (nsA (by decide) _)
        have hF1 : FR ([16, 31], []) iv iv_8 := by rw [ei_9]; exact hF1.put (Or.inl (by decide))
        refine lv_iload_n hx hb dX12_bar_53 rfl (lv_at hl 0 rfl) ?_
        exact hret (⟨hG, hF1, hF2, trivial⟩) hU hS dX12_bar_54
      ·
        refine lv_aload_n hx hb dX12_bar_32 rfl (lv_at hl 0 rfl) ?_
        refine lv_bipush (v := (-6)) hx hb dX12_bar_33 (by decide) ?_
        refine q_fi (q_runV (t := 0) (i := 0) (As := [.int (-6)]) (rest := []) C hU (c_X12_refuse hG (-6) (by omega)) vm_X12_refuse ml_X12_164 k_0.1 (hc := rfl) rfl (h1_0 hG) hl.1 rfl rfl (Nat.le_of_ble_eq_true rfl) dX12_bar_35 rfl rfl ⟨Nat.le_of_ble_eq_true rfl, Nat.le_of_ble_eq_true rfl⟩ ⟨Nat.le_refl _, Nat.le_refl _⟩) hS (fun x_15 iv_11 rv_12 H locs hG fa_13 fb_14 hp_10 hU hS => ?_)
        have hF1 := hF1.tr (m := ([16, 31], [])) fa_13 (by decide)
        have hF2 := hF2.tr (m := ([16, 31], [])) fb_14 (by decide)
        exact hret (⟨hG, hF1, hF2, trivial⟩) hU hS dX12_bar_38
    ·
      refine lv_aload_n hx hb dX12_bar_18 rfl (lv_at hl 0 rfl) ?_
      refine lv_bipush (v := (-4)) hx hb dX12_bar_19 (by decide) ?_
      refine q_fi (q_runV (t := 0) (i := 0) (As := [.int (-4)]) (rest := []) C hU (c_X12_refuse hG (-4) (by omega)) vm_X12_refuse ml_X12_164 k_0.1 (hc := rfl) rfl (h1_0 hG) hl.1 rfl rfl (Nat.le_of_ble_eq_true rfl) dX12_bar_21 rfl rfl ⟨Nat.le_of_ble_eq_true rfl, Nat.le_of_ble_eq_true rfl⟩ ⟨Nat.le_refl _, Nat.le_refl _⟩) hS (fun x_21 iv_17 rv_18 H locs hG fa_19 fb_20 hp_16 hU hS => ?_)
      have hF1 := hF1.tr (m := ([16, 31], [])) fa_19 (by decide)
      have hF2 := hF2.tr (m := ([16, 31], [])) fb_20 (by decide)
      exact hret (⟨hG, hF1, hF2, trivial⟩) hU hS dX12_bar_24
  ·
    refine lv_aload_n hx hb dX12_bar_7 rfl (lv_at hl 0 rfl) ?_
    refine lv_iconst (v := (-1)) hx hb dX12_bar_8 (by decide) ?_
    refine q_fi (q_runV (t := 0) (i := 0) (As := [.int (-1)]) (rest := []) C hU (c_X12_refuse hG (-1) (by omega)) vm_X12_refuse ml_X12_164 k_0.1 (hc := rfl) rfl (h1_0 hG) hl.1 rfl rfl (Nat.le_of_ble_eq_true rfl) dX12_bar_9 rfl rfl ⟨Nat.le_of_ble_eq_true rfl, Nat.le_of_ble_eq_true rfl⟩ ⟨Nat.le_refl _, Nat.le_refl _⟩) hS (fun x_27 iv_23 rv_24 H locs hG fa_25 fb_26 hp_22 hU hS => ?_)
    have hF1 := hF1.tr (m := ([16, 31], [])) fa_25 (by decide)
    have hF2 := hF2.tr (m := ([16, 31], [])) fb_26 (by decide)
    exact hret (⟨hG, hF1, hF2, trivial⟩) hU hS dX12_bar_12
set_option maxHeartbeats 4000000 in
set_option maxRecDepth 100000 in
theorem c_X12_stop {l : Launch} {D : va_G} {cA : FieldType → ClassId} {sz : Nat} {al : Al} {iv : Iv} {rv : Rv} (hG : GI al iv rv) (lw : Int32) (a : Int32) (b : Int32) : Met l yX12_stop (wd yX12_stop cX12_stop 4 (some .int)) (rm 2) (PcW D cA sz al iv rv [.ref (al.2 0 0), .int lw, .int a, .int b]) (QI D cA sz al (fI al ([16, 32, 33, 34], [(0, 37)]) iv rv (fun r iv' rv' => True))) 0 0 (Aq sz) := by
  refine mk_i (by decide) (Nat.le_of_ble_eq_true rfl) rfl ?_
  intro p e s m args below meth c ls Q H locs C hU hS hl hret
  have hx := C.1.1
  have hb := C.1.2.1
  have hl : lv_has ls 4 [(0, .ref (al.2 0 0)), (1, .int lw), (2, .int a), (3, .int b)] := hl
  have hG0 := hG
  have h6 := le6 hG
  have h20 := le20 hG
  have h41 := le41 hG
  have hF1 : FR ([16, 32, 33, 34], [(0, 37)]) iv iv := FR.rf
  have hF2 : FR ([16, 32, 33, 34], [(0, 37)]) rv rv := FR.rf
  have km6 : ((-6) : Int32).toInt = -6 := by decide
  have km4 : ((-4) : Int32).toInt = -4 := by decide
  have km1 : ((-1) : Int32).toInt = -1 := by decide
  have k1 : (1 : Int32).toInt = 1 := by decide
  have k20 : (20 : Int32).toInt = 20 := by decide
  have k4000 : (4000 : Int32).toInt = 4000 := by decide
  refine lv_iload_n hx hb dX12_stop_0 rfl (lv_at hl 1 rfl) ?_
  refine q_pi (q_runS (As := [.int lw]) (rest := []) C hU (c_X12_isLand  lw ) sm_X12_isLand ml_X12_244 hl.1 rfl rfl (Nat.le_of_ble_eq_true rfl) dX12_stop_1 rfl rfl ⟨Nat.le_of_ble_eq_true rfl, Nat.le_of_ble_eq_true rfl⟩ ⟨Nat.le_refl _, Nat.le_refl _⟩) hS (fun x_2 H locs hp_1 hU hS => ?_)
  refine b_if_ne (tgt := 13) hx hb dX12_stop_4 (by decide) (fun c_3 => ?_) (fun c_3 => ?_)
  ·
    refine lv_iload_n hx hb dX12_stop_13 rfl (lv_at hl 2 rfl) ?_
    refine b_if_lt (tgt := 22) hx hb dX12_stop_14 (by decide) (fun c_4 => ?_) (fun c_4 => ?_)
    ·
      refine lv_aload_n hx hb dX12_stop_22 rfl (lv_at hl 0 rfl) ?_
      refine lv_bipush (v := (-4)) hx hb dX12_stop_23 (by decide) ?_
      refine q_fi (q_runV (t := 0) (i := 0) (As := [.int (-4)]) (rest := []) C hU (c_X12_refuse hG (-4) (by omega)) vm_X12_refuse ml_X12_164 k_0.1 (hc := rfl) rfl (h1_0 hG) hl.1 rfl rfl (Nat.le_of_ble_eq_true rfl) dX12_stop_25 rfl rfl ⟨Nat.le_of_ble_eq_true rfl, Nat.le_of_ble_eq_true rfl⟩ ⟨Nat.le_refl _, Nat.le_refl _⟩) hS (fun x_10 iv_6 rv_7 H locs hG fa_8 fb_9 hp_5 hU hS => ?_)
      have hF1 := hF1.tr (m := ([16, 32, 33, 34], [(0, 37)])) fa_8 (by decide)
      have hF2 := hF2.tr (m := ([16, 32, 33, 34], [(0, 37)])) fb_9 (by decide)
      exact hret (⟨hG, hF1, hF2, trivial⟩) hU hS dX12_stop_28
    ·
      refine lv_iload_n hx hb dX12_stop_17 rfl (lv_at hl 3 rfl) ?_
      refine lv_iload_n hx hb dX12_stop_18 rfl (lv_at hl 2 rfl) ?_
      refine b_icmp_ge (tgt := 29) hx hb dX12_stop_19 (by decide) (fun c_11 => ?_) (fun c_11 => ?_)
      ·
        refine lv_iload_n hx hb dX12_stop_29 rfl (lv_at hl 3 rfl) ?_
        refine lv_sipush (v := 4000) hx hb dX12_stop_30 (by decide) ?_
        refine b_icmp_gt (tgt := 45) hx hb dX12_stop_33 (by decide) (fun c_12 => ?_) (fun c_12 => ?_)
        ·
          refine lv_aload_n hx hb dX12_stop_45 rfl (lv_at hl 0 rfl) ?_
          refine lv_bipush (v := (-6)) hx hb dX12_stop_46 (by decide) ?_
          refine q_fi (q_runV (t := 0) (i := 0) (As := [.int (-6)]) (rest := []) C hU (c_X12_refuse hG (-6) (by omega)) vm_X12_refuse ml_X12_164 k_0.1 (hc := rfl) rfl (h1_0 hG) hl.1 rfl rfl (Nat.le_of_ble_eq_true rfl) dX12_stop_48 rfl rfl ⟨Nat.le_of_ble_eq_true rfl, Nat.le_of_ble_eq_true rfl⟩ ⟨Nat.le_refl _, Nat.le_refl _⟩) hS (fun x_18 iv_14 rv_15 H locs hG fa_16 fb_17 hp_13 hU hS => ?_)
          have hF1 := hF1.tr (m := ([16, 32, 33, 34], [(0, 37)])) fa_16 (by decide)
          have hF2 := hF2.tr (m := ([16, 32, 33, 34], [(0, 37)])) fb_17 (by decide)
          exact hret (⟨hG, hF1, hF2, trivial⟩) hU hS dX12_stop_51
        ·
          refine lv_aload_n hx hb dX12_stop_36 rfl (lv_at hl 0 rfl) ?_
          refine g_0_37 C hU hG (h1_0 hG) fl_X12_272 dX12_stop_37 (fun x_19 e_20 le_20 ue_20 => ?_)
          have te_20 := congrArg Int32.toInt e_20
          refine lv_bipush (v := 20) hx hb dX12_stop_40 (by decide) ?_
          refine b_icmp_ne (tgt := 52) hx hb dX12_stop_42 (by decide) (fun c_21 => ?_) (fun c_21 => ?_)
          ·
            refine lv_aload_n hx hb dX12_stop_52 rfl (lv_at hl 0 rfl) ?_
            refine g_0_38 C hU hG (h1_0 hG) fl_X12_104 dX12_stop_53 ?_
            refine lv_aload_n hx hb dX12_stop_56 rfl (lv_at hl 0 rfl) ?_
            refine g_0_37 C hU hG (h1_0 hG) fl_X12_272 dX12_stop_57 (fun x_22 e_23 le_23 ue_23 => ?_)
            have te_23 := congrArg Int32.toInt e_23
            refine lv_iload_n hx hb dX12_stop_60 rfl (lv_at hl 1 rfl) ?_
            refine s_32 C hU hS (h1_32 hG) (x := x_22) (by omega) (by omega) dX12_stop_61 (fun iv_24 H locs ei_25 hU hS => ?_)
            have hG : GI al iv_24 rv := by rw [ei_25]; exact hG.puti (show _ ∧ _ from ⟨(fb_rng _).1, Int.le_of_lt_add_one (fb_rng _).2⟩) (nsA (by decide) _)
            have hF1 : FR ([16, 32, 33, 34], [(0, 37)]) iv iv_24 := by rw [ei_25]; exact hF1.put (Or.inl (by decide))
            have kf_26 := congrArg Int32.toInt (show iv_24 0 0 37 = iv 0 0 37 by rw [ei_25]; exact up3_ne (fun z => absurd z.1 (by decide)))
            refine lv_aload_n hx hb dX12_stop_62 rfl (lv_at hl 0 rfl) ?_
            refine g_0_39 C hU hG (h1_0 hG) fl_X12_107 dX12_stop_63 ?_
            refine lv_aload_n hx hb dX12_stop_66 rfl (lv_at hl 0 rfl) ?_
            refine g_0_37 C hU hG (h1_0 hG) fl_X12_272 dX12_stop_67 (fun x_27 e_28 le_28 ue_28 => ?_)
            have te_28 := congrArg Int32.toInt e_28
            refine lv_iload_n hx hb dX12_stop_70 rfl (lv_at hl 2 rfl) ?_
            refine s_33 C hU hS (h1_33 hG) (x := x_27) (by omega) (by omega) dX12_stop_71 (fun iv_29 H locs ei_30 hU hS => ?_)
            have hG : GI al iv_29 rv := by rw [ei_30]; exact hG.puti (show _ ∧ _ from ⟨(fb_rng _).1, Int.le_of_lt_add_one (fb_rng _).2⟩) (nsA (by decide) _)
            have hF1 : FR ([16, 32, 33, 34], [(0, 37)]) iv iv_29 := by rw [ei_30]; exact hF1.put (Or.inl (by decide))
            have kf_31 := congrArg Int32.toInt (show iv_29 0 0 37 = iv_24 0 0 37 by rw [ei_30]; exact up3_ne (fun z => absurd z.1 (by decide)))
            refine lv_aload_n hx hb dX12_stop_72 rfl (lv_at hl 0 rfl) ?_
            refine g_0_40 C hU hG (h1_0 hG) fl_X12_110 dX12_stop_73 ?_
            refine lv_aload_n hx hb dX12_stop_76 rfl (lv_at hl 0 rfl) ?_
            refine g_0_37 C hU hG (h1_0 hG) fl_X12_272 dX12_stop_77 (fun x_32 e_33 le_33 ue_33 => ?_)
            have te_33 := congrArg Int32.toInt e_33
            refine lv_iload_n hx hb dX12_stop_80 rfl (lv_at hl 3 rfl) ?_
            refine s_34 C hU hS (h1_34 hG) (x := x_32) (by omega) (by omega) dX12_stop_81 (fun iv_34 H locs ei_35 hU hS => ?_)
            have hG : GI al iv_34 rv := by rw [ei_35]; exact hG.puti (show _ ∧ _ from ⟨(fb_rng _).1, Int.le_of_lt_add_one (fb_rng _).2⟩) (nsA (by decide) _)
            have hF1 : FR ([16, 32, 33, 34], [(0, 37)]) iv iv_34 := by rw [ei_35]; exact hF1.put (Or.inl (by decide))
            have kf_36 := congrArg Int32.toInt (show iv_34 0 0 37 = iv_29 0 0 37 by rw [ei_35]; exact up3_ne (fun z => absurd z.1 (by decide)))
            refine lv_aload_n hx hb dX12_stop_82 rfl (lv_at hl 0 rfl) ?_
            refine lv_dup hx hb dX12_stop_83 rfl ?_
            refine g_0_37 C hU hG (h1_0 hG) fl_X12_272 dX12_stop_84 (fun x_37 e_38 le_38 ue_38 => ?_)
            have te_38 := congrArg Int32.toInt e_38
            refine lv_iconst (v := 1) hx hb dX12_stop_87 (by decide) ?_
            refine lv_iadd hx hb dX12_stop_88 ?_
            refine lv_topi (fun x_39 e_40 => ?_)
            have te_40 : x_39.toInt = (x_37 : Int32).toInt + (1 : Int32).toInt := by rw [e_40]; exact fb_addI (by omega) (by omega)
            refine p_0_37 C hU hS (h1_0 hG) fl_X12_272 dX12_stop_89 (fun iv_41 H locs ei_42 hU hS => ?_)
            have hG : GI al iv_41 rv := by rw [ei_42]; exact hG.puti (show _ ∧ _ from ⟨show (0 : Int) ≤ _ by omega, show _ ≤ (20 : Int) by omega⟩) (nsF (by decide))
            have hF1 : FR ([16, 32, 33, 34], [(0, 37)]) iv iv_41 := by rw [ei_42]; exact hF1.put (by decide)
            refine lv_aload_n hx hb dX12_stop_92 rfl (lv_at hl 0 rfl) ?_
            refine g_0_37 C hU hG (h1_0 hG) fl_X12_272 dX12_stop_93 (fun x_43 e_44 le_44 ue_44 => ?_)
            have te_44 := congrArg Int32.toInt e_44
            exact hret (⟨hG, hF1, hF2, trivial⟩) hU hS dX12_stop_96
          ·
            refine lv_aload_n hx hb dX12_stop_45 rfl (lv_at hl 0 rfl) ?_
            refine lv_bipush (v := (-6)) hx hb dX12_stop_46 (by decide) ?_
            refine q_fi (q_runV (t := 0) (i := 0) (As := [.int (-6)]) (rest := []) C hU (c_X12_refuse hG (-6) (by omega)) vm_X12_refuse ml_X12_164 k_0.1 (hc := rfl) rfl (h1_0 hG) hl.1 rfl rfl (Nat.le_of_ble_eq_true rfl) dX12_stop_48 rfl rfl ⟨Nat.le_of_ble_eq_true rfl, Nat.le_of_ble_eq_true rfl⟩ ⟨Nat.le_refl _, Nat.le_refl _⟩) hS (fun x_50 iv_46 rv_47 H locs hG fa_48 fb_49 hp_45 hU hS => ?_)
            have hF1 := hF1.tr (m := ([16, 32, 33, 34], [(0, 37)])) fa_48 (by decide)
            have hF2 := hF2.tr (m := ([16, 32, 33, 34], [(0, 37)])) fb_49 (by decide)
            exact hret (⟨hG, hF1, hF2, trivial⟩) hU hS dX12_stop_51
      ·
        refine lv_aload_n hx hb dX12_stop_22 rfl (lv_at hl 0 rfl) ?_
        refine lv_bipush (v := (-4)) hx hb dX12_stop_23 (by decide) ?_
        refine q_fi (q_runV (t := 0) (i := 0) (As := [.int (-4)]) (rest := []) C hU (c_X12_refuse hG (-4) (by omega)) vm_X12_refuse ml_X12_164 k_0.1 (hc := rfl) rfl (h1_0 hG) hl.1 rfl rfl (Nat.le_of_ble_eq_true rfl) dX12_stop_25 rfl rfl ⟨Nat.le_of_ble_eq_true rfl, Nat.le_of_ble_eq_true rfl⟩ ⟨Nat.le_refl _, Nat.le_refl _⟩) hS (fun x_56 iv_52 rv_53 H locs hG fa_54 fb_55 hp_51 hU hS => ?_)
        have hF1 := hF1.tr (m := ([16, 32, 33, 34], [(0, 37)])) fa_54 (by decide)
        have hF2 := hF2.tr (m := ([16, 32, 33, 34], [(0, 37)])) fb_55 (by decide)
        exact hret (⟨hG, hF1, hF2, trivial⟩) hU hS dX12_stop_28
  ·
    refine lv_aload_n hx hb dX12_stop_7 rfl (lv_at hl 0 rfl) ?_
    refine lv_iconst (v := (-1)) hx hb dX12_stop_8 (by decide) ?_
    refine q_fi (q_runV (t := 0) (i := 0) (As := [.int (-1)]) (rest := []) C hU (c_X12_refuse hG (-1) (by omega)) vm_X12_refuse ml_X12_164 k_0.1 (hc := rfl) rfl (h1_0 hG) hl.1 rfl rfl (Nat.le_of_ble_eq_true rfl) dX12_stop_9 rfl rfl ⟨Nat.le_of_ble_eq_true rfl, Nat.le_of_ble_eq_true rfl⟩ ⟨Nat.le_refl _, Nat.le_refl _⟩) hS (fun x_62 iv_58 rv_59 H locs hG fa_60 fb_61 hp_57 hU hS => ?_)
    have hF1 := hF1.tr (m := ([16, 32, 33, 34], [(0, 37)])) fa_60 (by decide)
    have hF2 := hF2.tr (m := ([16, 32, 33, 34], [(0, 37)])) fb_61 (by decide)
    exact hret (⟨hG, hF1, hF2, trivial⟩) hU hS dX12_stop_12
set_option maxHeartbeats 4000000 in
set_option maxRecDepth 100000 in
theorem c_X12_isBarred {l : Launch} {D : va_G} {cA : FieldType → ClassId} {sz : Nat} {al : Al} {iv : Iv} {rv : Rv} (hG : GI al iv rv) (cl : Int32) (pre0 : 0 ≤ cl.toInt ∧ cl.toInt < (iv 0 0 41).toInt) : Met l yX12_isBarred (wd yX12_isBarred cX12_isBarred 8 (some .boolean)) (rm 2) (PcW D cA sz al iv rv [.ref (al.2 0 0), .int cl]) (QI D cA sz al (pI iv rv (fun r => (0 ≤ r.toInt ∧ r.toInt ≤ 1) ∧ (True)))) 0 0 (Aq sz) := by
  refine mk_z (by decide) (Nat.le_of_ble_eq_true rfl) rfl ?_
  intro p e s m args below meth c ls Q H locs C hU hS hl hret
  have hx := C.1.1
  have hb := C.1.2.1
  have hl : lv_has ls 8 [(0, .ref (al.2 0 0)), (1, .int cl)] := hl
  have hG0 := hG
  have h6 := le6 hG
  have h20 := le20 hG
  have h41 := le41 hG
  have h41 := le41 hG
  have h20 := le20 hG
  have hco := co1 hG pre0.1 pre0.2
  have k0 : (0 : Int32).toInt = 0 := by decide
  have k1 : (1 : Int32).toInt = 1 := by decide
  have k1440 : (1440 : Int32).toInt = 1440 := by decide
  refine lv_aload_n hx hb dX12_isBarred_0 rfl (lv_at hl 0 rfl) ?_
  refine g_0_42 C hU hG (h1_0 hG) fl_X12_113 dX12_isBarred_1 ?_
  refine lv_iload_n hx hb dX12_isBarred_4 rfl (lv_at hl 1 rfl) ?_
  refine a_35 C hU hG (h1_35 hG) (x := cl) (by omega) (by omega) dX12_isBarred_5 (fun x_1 e_2 le_2 ue_2 => ?_)
  have te_2 := congrArg Int32.toInt e_2
  refine lv_istore_n (lv' := [(2, .int x_1), (0, .ref (al.2 0 0)), (1, .int cl)]) hx hb dX12_isBarred_6 rfl hl (by decide) rfl (fun ls hl => ?_)
  refine lv_aload_n hx hb dX12_isBarred_7 rfl (lv_at hl 1 rfl) ?_
  refine lv_iload_n hx hb dX12_isBarred_8 rfl (lv_at hl 0 rfl) ?_
  refine lv_aload_n hx hb dX12_isBarred_9 rfl (lv_at hl 1 rfl) ?_
  refine g_0_43 C hU hG (h1_0 hG) fl_X12_116 dX12_isBarred_10 ?_
  refine lv_iload_n hx hb dX12_isBarred_13 rfl (lv_at hl 2 rfl) ?_
  refine a_36 C hU hG (h1_36 hG) (x := cl) (by omega) (by omega) dX12_isBarred_14 (fun x_3 e_4 le_4 ue_4 => ?_)
  have te_4 := congrArg Int32.toInt e_4
  refine q_pi (q_runV (t := 0) (i := 0) (As := [.int x_1, .int x_3]) (rest := []) C hU (c_X12_lawOf hG x_1 x_3 (by omega)) vm_X12_lawOf ml_X12_260 k_0.1 (hc := rfl) rfl (h1_0 hG) hl.1 rfl rfl (Nat.le_of_ble_eq_true rfl) dX12_isBarred_15 rfl rfl ⟨Nat.le_of_ble_eq_true rfl, Nat.le_of_ble_eq_true rfl⟩ ⟨Nat.le_refl _, Nat.le_refl _⟩) hS (fun x_6 H locs hp_5 hU hS => ?_)
  refine lv_istore_n (lv' := [(3, .int x_6), (2, .int x_1), (0, .ref (al.2 0 0)), (1, .int cl)]) hx hb dX12_isBarred_18 rfl hl (by decide) rfl (fun ls hl => ?_)
  refine lv_iconst (v := 0) hx hb dX12_isBarred_19 (by decide) ?_
  refine lv_istore (lv' := [(4, .int 0), (3, .int x_6), (2, .int x_1), (0, .ref (al.2 0 0)), (1, .int cl)]) hx hb dX12_isBarred_20 hl (by decide) rfl (fun ls hl => ?_)
  refine lv_aload_n hx hb dX12_isBarred_22 rfl (lv_at hl 3 rfl) ?_
  refine g_0_12 C hU hG (h1_0 hG) fl_X12_37 dX12_isBarred_23 ?_
  refine lv_aload_n hx hb dX12_isBarred_26 rfl (lv_at hl 3 rfl) ?_
  refine lv_iload_n hx hb dX12_isBarred_27 rfl (lv_at hl 2 rfl) ?_
  refine q_pi (q_runV (t := 0) (i := 0) (As := [.int x_1]) (rest := [.ref (al.2 10 0)]) C hU (c_X12_lastLeg hG x_1 (by omega)) vm_X12_lastLeg ml_X12_232 k_0.1 (hc := rfl) rfl (h1_0 hG) hl.1 rfl rfl (Nat.le_of_ble_eq_true rfl) dX12_isBarred_28 rfl rfl ⟨Nat.le_of_ble_eq_true rfl, Nat.le_of_ble_eq_true rfl⟩ ⟨Nat.le_refl _, Nat.le_refl _⟩) hS (fun x_8 H locs hp_7 hU hS => ?_)
  refine a_10 C hU hG (h1_10 hG) (x := x_8) (by omega) (by omega) dX12_isBarred_31 (fun x_9 e_10 le_10 ue_10 => ?_)
  have te_10 := congrArg Int32.toInt e_10
  refine lv_sipush (v := 1440) hx hb dX12_isBarred_32 (by decide) ?_
  refine lv_idiv hx hb dX12_isBarred_35 (by decide) ?_
  refine lv_topi (fun x_11 e_12 => ?_)
  have te_12 : 0 ≤ x_11.toInt ∧ x_11.toInt ≤ (x_9 : Int32).toInt := by rw [e_12]; exact div_rng (by omega) (by omega)
  refine lv_iconst (v := 1) hx hb dX12_isBarred_36 (by decide) ?_
  refine lv_iadd hx hb dX12_isBarred_37 ?_
  refine lv_topi (fun x_13 e_14 => ?_)
  have te_14 : x_13.toInt = (x_11 : Int32).toInt + (1 : Int32).toInt := by rw [e_14]; exact fb_addI (by omega) (by omega)
  refine lv_istore (lv' := [(5, .int x_13), (4, .int 0), (3, .int x_6), (2, .int x_1), (0, .ref (al.2 0 0)), (1, .int cl)]) hx hb dX12_isBarred_38 hl (by decide) rfl (fun ls hl => ?_)
  have J_40 : ∀ (n_40 : Nat) (l4_15 : Int32) (l5_16 : Int32) (H : Heap) (locs : List Loc) (ls : Array Slot), lv_has ls 8 [(0, .ref (al.2 0 0)), (1, .int cl), (3, .int x_6), (4, .int l4_15), (5, .int l5_16)] → UW D cA sz al iv rv H → va_S (Aq sz) s.heap H locs → (0 ≤ l5_16.toInt ∧ l5_16.toInt ≤ 20001) → (4001 - l5_16.toInt).toNat < n_40 → W p l e (rm 2) s m args below meth c H locs 0 0 Q (F0 m 40 ls []) := by
    intro n_40
    induction n_40 with
    | zero =>
      intro l4_15 l5_16 H locs ls hl hU hS i40_0 hm_40
      exact absurd hm_40 (Nat.not_lt_zero _)
    | succ n_40 ih_40 =>
      intro l4_15 l5_16 H locs ls hl hU hS i40_0 hm_40
      refine lv_iload hx hb dX12_isBarred_40 (lv_at hl 4 rfl) ?_
      refine lv_aload_n hx hb dX12_isBarred_42 rfl (lv_at hl 0 rfl) ?_
      refine g_0_43 C hU hG (h1_0 hG) fl_X12_116 dX12_isBarred_43 ?_
      refine lv_iload_n hx hb dX12_isBarred_46 rfl (lv_at hl 1 rfl) ?_
      refine a_36 C hU hG (h1_36 hG) (x := cl) (by omega) (by omega) dX12_isBarred_47 (fun x_17 e_18 le_18 ue_18 => ?_)
      have te_18 := congrArg Int32.toInt e_18
      have J_142 : ∀ (ls : Array Slot), lv_has ls 8 [(0, .ref (al.2 0 0)), (3, .int x_6), (4, .int l4_15)] → W p l e (rm 2) s m args below meth c H locs 0 0 Q (F0 m 142 ls []) := by
        intro ls hl
        refine lv_iload_n hx hb dX12_isBarred_142 rfl (lv_at hl 1 rfl) ?_
        refine b_if_lt (tgt := 161) hx hb dX12_isBarred_143 (by decide) (fun c_19 => ?_) (fun c_19 => ?_)
        ·
          refine lv_iconst (v := 0) hx hb dX12_isBarred_161 (by decide) ?_
          exact hret (by omega) (by omega) (⟨rfl, rfl, ⟨⟨by omega, by omega⟩, trivial⟩⟩) hU hS dX12_isBarred_162
        ·
          refine lv_iload hx hb dX12_isBarred_146 (lv_at hl 2 rfl) ?_
          refine lv_aload_n hx hb dX12_isBarred_148 rfl (lv_at hl 0 rfl) ?_
          refine g_0_36 C hU hG (h1_0 hG) fl_X12_101 dX12_isBarred_149 ?_
          refine lv_iload_n hx hb dX12_isBarred_152 rfl (lv_at hl 1 rfl) ?_
          refine a_31 C hU hG (h1_31 hG) (x := x_6) (by omega) (by omega) dX12_isBarred_153 (fun x_20 e_21 le_21 ue_21 => ?_)
          have te_21 := congrArg Int32.toInt e_21
          refine b_icmp_le (tgt := 161) hx hb dX12_isBarred_154 (by decide) (fun c_22 => ?_) (fun c_22 => ?_)
          ·
            refine lv_iconst (v := 0) hx hb dX12_isBarred_161 (by decide) ?_
            exact hret (by omega) (by omega) (⟨rfl, rfl, ⟨⟨by omega, by omega⟩, trivial⟩⟩) hU hS dX12_isBarred_162
          ·
            refine lv_iconst (v := 1) hx hb dX12_isBarred_157 (by decide) ?_
            refine lv_goto (tgt := 162) hx hb dX12_isBarred_158 (by decide) ?_
            exact hret (by omega) (by omega) (⟨rfl, rfl, ⟨⟨by omega, by omega⟩, trivial⟩⟩) hU hS dX12_isBarred_162
      refine b_icmp_gt (tgt := 142) hx hb dX12_isBarred_48 (by decide) (fun c_23 => ?_) (fun c_23 => ?_)
      ·
        exact J_142 _ (lv_sub hl [0, 2, 3] rfl)
      ·
        refine lv_iload_n hx hb dX12_isBarred_51 rfl (lv_at hl 2 rfl) ?_
        refine b_if_lt (tgt := 142) hx hb dX12_isBarred_52 (by decide) (fun c_24 => ?_) (fun c_24 => ?_)
        ·
          exact J_142 _ (lv_sub hl [0, 2, 3] rfl)
        ·
          refine lv_iconst (v := 0) hx hb dX12_isBarred_55 (by decide) ?_
          refine lv_istore (lv' := [(6, .int 0), (0, .ref (al.2 0 0)), (1, .int cl), (3, .int x_6), (4, .int l4_15), (5, .int l5_16)]) hx hb dX12_isBarred_56 hl (by decide) rfl (fun ls hl => ?_)
          refine lv_iconst (v := 0) hx hb dX12_isBarred_58 (by decide) ?_
          refine lv_istore (lv' := [(7, .int 0), (6, .int 0), (0, .ref (al.2 0 0)), (1, .int cl), (3, .int x_6), (4, .int l4_15), (5, .int l5_16)]) hx hb dX12_isBarred_59 hl (by decide) rfl (fun ls hl => ?_)
          have J_61 : ∀ (n_61 : Nat) (l6_25 : Int32) (l7_26 : Int32) (H : Heap) (locs : List Loc) (ls : Array Slot), lv_has ls 8 [(0, .ref (al.2 0 0)), (1, .int cl), (3, .int x_6), (4, .int l4_15), (5, .int l5_16), (6, .int l6_25), (7, .int l7_26)] → UW D cA sz al iv rv H → va_S (Aq sz) s.heap H locs → (0 ≤ l6_25.toInt ∧ l6_25.toInt ≤ 1) → (0 ≤ l7_26.toInt ∧ l7_26.toInt ≤ 20) → (20 - l7_26.toInt).toNat < n_61 → W p l e (rm 2) s m args below meth c H locs 0 0 Q (F0 m 61 ls []) := by
            intro n_61
            induction n_61 with
            | zero =>
              intro l6_25 l7_26 H locs ls hl hU hS i61_0 i61_1 hm_61
              exact absurd hm_61 (Nat.not_lt_zero _)
            | succ n_61 ih_61 =>
              intro l6_25 l7_26 H locs ls hl hU hS i61_0 i61_1 hm_61
              refine lv_iload hx hb dX12_isBarred_61 (lv_at hl 6 rfl) ?_
              refine lv_aload_n hx hb dX12_isBarred_63 rfl (lv_at hl 0 rfl) ?_
              refine g_0_37 C hU hG (h1_0 hG) fl_X12_272 dX12_isBarred_64 (fun x_27 e_28 le_28 ue_28 => ?_)
              have te_28 := congrArg Int32.toInt e_28
              refine b_icmp_ge (tgt := 121) hx hb dX12_isBarred_67 (by decide) (fun c_29 => ?_) (fun c_29 => ?_)
              ·
                refine lv_iload hx hb dX12_isBarred_121 (lv_at hl 3 rfl) ?_
                refine lv_iload hx hb dX12_isBarred_123 (lv_at hl 5 rfl) ?_
                have J_133 : ∀ (v_30 : Int32) (ls : Array Slot), lv_has ls 8 [(0, .ref (al.2 0 0)), (1, .int cl), (3, .int x_6), (5, .int l5_16)] → (0 ≤ v_30.toInt ∧ v_30.toInt ≤ 1) → W p l e (rm 2) s m args below meth c H locs 0 0 Q (F0 m 133 ls [.int v_30, .int l4_15]) := by
                  intro v_30 ls hl i133_0
                  refine lv_iadd hx hb dX12_isBarred_133 ?_
                  refine lv_topi (fun x_31 e_32 => ?_)
                  refine lv_istore (lv' := [(4, .int x_31), (0, .ref (al.2 0 0)), (1, .int cl), (3, .int x_6), (5, .int l5_16)]) hx hb dX12_isBarred_134 hl (by decide) rfl (fun ls hl => ?_)
                  obtain ⟨x_33, e_34⟩ : ∃ y : Int32, y = l5_16 + 1 := ⟨_, rfl⟩
                  have te_34 : x_33.toInt = (l5_16 : Int32).toInt + (1 : Int32).toInt := by rw [e_34]; exact fb_addI (by omega) (by omega)
                  refine lv_iinc (v := x_33) (lv' := [(5, .int x_33), (4, .int x_31), (0, .ref (al.2 0 0)), (1, .int cl), (3, .int x_6)]) hx hb dX12_isBarred_136 hl (k := 4) rfl (by rw [e_34]; rfl) (by decide) rfl (fun ls hl => ?_)
                  refine lv_goto (tgt := 40) hx hb dX12_isBarred_139 (by decide) ?_
                  exact ih_40 x_31 x_33 _ _ _ (lv_sub hl [2, 3, 4, 1, 0] rfl) hU hS (by omega) (by omega)
                refine b_if_eq (tgt := 132) hx hb dX12_isBarred_125 (by decide) (fun c_35 => ?_) (fun c_35 => ?_)
                ·
                  refine lv_iconst (v := 1) hx hb dX12_isBarred_132 (by decide) ?_
                  exact J_133 1 _ (lv_sub hl [0, 1, 2, 4] rfl) (by omega)
                ·
                  refine lv_iconst (v := 0) hx hb dX12_isBarred_128 (by decide) ?_
                  refine lv_goto (tgt := 133) hx hb dX12_isBarred_129 (by decide) ?_
                  exact J_133 0 _ (lv_sub hl [0, 1, 2, 4] rfl) (by omega)
              ·
                refine lv_iload hx hb dX12_isBarred_70 (lv_at hl 5 rfl) ?_
                have J_113 : ∀ (v_36 : Int32) (H : Heap) (locs : List Loc) (ls : Array Slot), lv_has ls 8 [(0, .ref (al.2 0 0)), (1, .int cl), (3, .int x_6), (4, .int l4_15), (5, .int l5_16), (7, .int l7_26)] → UW D cA sz al iv rv H → va_S (Aq sz) s.heap H locs → (0 ≤ v_36.toInt ∧ v_36.toInt ≤ 1) → W p l e (rm 2) s m args below meth c H locs 0 0 Q (F0 m 113 ls [.int v_36]) := by
                  intro v_36 H locs ls hl hU hS i113_0
                  refine lv_istore (lv' := [(6, .int v_36), (0, .ref (al.2 0 0)), (1, .int cl), (3, .int x_6), (4, .int l4_15), (5, .int l5_16), (7, .int l7_26)]) hx hb dX12_isBarred_113 hl (by decide) rfl (fun ls hl => ?_)
                  obtain ⟨x_37, e_38⟩ : ∃ y : Int32, y = l7_26 + 1 := ⟨_, rfl⟩
                  have te_38 : x_37.toInt = (l7_26 : Int32).toInt + (1 : Int32).toInt := by rw [e_38]; exact fb_addI (by omega) (by omega)
                  refine lv_iinc (v := x_37) (lv' := [(7, .int x_37), (6, .int v_36), (0, .ref (al.2 0 0)), (1, .int cl), (3, .int x_6), (4, .int l4_15), (5, .int l5_16)]) hx hb dX12_isBarred_115 hl (k := 6) rfl (by rw [e_38]; rfl) (by decide) rfl (fun ls hl => ?_)
                  refine lv_goto (tgt := 61) hx hb dX12_isBarred_118 (by decide) ?_
                  exact ih_61 v_36 x_37 _ _ _ (lv_sub hl [2, 3, 4, 5, 6, 1, 0] rfl) hU hS (by omega) (by omega) (by omega)
                have J_108 : ∀ (H : Heap) (locs : List Loc) (ls : Array Slot), lv_has ls 8 [(0, .ref (al.2 0 0)), (1, .int cl), (3, .int x_6), (4, .int l4_15), (5, .int l5_16), (7, .int l7_26)] → UW D cA sz al iv rv H → va_S (Aq sz) s.heap H locs → W p l e (rm 2) s m args below meth c H locs 0 0 Q (F0 m 108 ls []) := by
                  intro H locs ls hl hU hS
                  refine lv_iconst (v := 1) hx hb dX12_isBarred_108 (by decide) ?_
                  refine lv_goto (tgt := 113) hx hb dX12_isBarred_109 (by decide) ?_
                  exact J_113 1 _ _ _ (lv_sub hl [0, 1, 2, 3, 4, 5] rfl) hU hS (by omega)
                refine b_if_ne (tgt := 108) hx hb dX12_isBarred_72 (by decide) (fun c_39 => ?_) (fun c_39 => ?_)
                ·
                  exact J_108 _ _ _ (lv_sub hl [0, 1, 2, 3, 4, 6] rfl) hU hS
                ·
                  refine lv_aload_n hx hb dX12_isBarred_75 rfl (lv_at hl 0 rfl) ?_
                  refine g_0_38 C hU hG (h1_0 hG) fl_X12_104 dX12_isBarred_76 ?_
                  refine lv_iload hx hb dX12_isBarred_79 (lv_at hl 6 rfl) ?_
                  refine a_32 C hU hG (h1_32 hG) (x := l7_26) (by omega) (by omega) dX12_isBarred_81 (fun x_40 e_41 => ?_)
                  have te_41 := congrArg Int32.toInt e_41
                  refine lv_iload_n hx hb dX12_isBarred_82 rfl (lv_at hl 2 rfl) ?_
                  have J_112 : ∀ (H : Heap) (locs : List Loc) (ls : Array Slot), lv_has ls 8 [(0, .ref (al.2 0 0)), (1, .int cl), (3, .int x_6), (4, .int l4_15), (5, .int l5_16), (7, .int l7_26)] → UW D cA sz al iv rv H → va_S (Aq sz) s.heap H locs → W p l e (rm 2) s m args below meth c H locs 0 0 Q (F0 m 112 ls []) := by
                    intro H locs ls hl hU hS
                    refine lv_iconst (v := 0) hx hb dX12_isBarred_112 (by decide) ?_
                    exact J_113 0 _ _ _ (lv_sub hl [0, 1, 2, 3, 4, 5] rfl) hU hS (by omega)
                  refine b_icmp_ne (tgt := 112) hx hb dX12_isBarred_83 (by decide) (fun c_42 => ?_) (fun c_42 => ?_)
                  ·
                    exact J_112 _ _ _ (lv_sub hl [0, 1, 2, 3, 4, 6] rfl) hU hS
                  ·
                    refine lv_iload hx hb dX12_isBarred_86 (lv_at hl 4 rfl) ?_
                    refine lv_aload_n hx hb dX12_isBarred_88 rfl (lv_at hl 0 rfl) ?_
                    refine g_0_39 C hU hG (h1_0 hG) fl_X12_107 dX12_isBarred_89 ?_
                    refine lv_iload hx hb dX12_isBarred_92 (lv_at hl 6 rfl) ?_
                    refine a_33 C hU hG (h1_33 hG) (x := l7_26) (by omega) (by omega) dX12_isBarred_94 (fun x_43 e_44 => ?_)
                    have te_44 := congrArg Int32.toInt e_44
                    refine lv_aload_n hx hb dX12_isBarred_95 rfl (lv_at hl 0 rfl) ?_
                    refine g_0_40 C hU hG (h1_0 hG) fl_X12_110 dX12_isBarred_96 ?_
                    refine lv_iload hx hb dX12_isBarred_99 (lv_at hl 6 rfl) ?_
                    refine a_34 C hU hG (h1_34 hG) (x := l7_26) (by omega) (by omega) dX12_isBarred_101 (fun x_45 e_46 => ?_)
                    have te_46 := congrArg Int32.toInt e_46
                    refine q_pi (q_runS (As := [.int l5_16, .int x_43, .int x_45]) (rest := []) C hU (c_X12_in  l5_16 x_43 x_45 ) sm_X12_in ml_X12_156 hl.1 rfl rfl (Nat.le_of_ble_eq_true rfl) dX12_isBarred_102 rfl rfl ⟨Nat.le_of_ble_eq_true rfl, Nat.le_of_ble_eq_true rfl⟩ ⟨Nat.le_refl _, Nat.le_refl _⟩) hS (fun x_48 H locs hp_47 hU hS => ?_)
                    refine b_if_eq (tgt := 112) hx hb dX12_isBarred_105 (by decide) (fun c_49 => ?_) (fun c_49 => ?_)
                    ·
                      exact J_112 _ _ _ (lv_sub hl [0, 1, 2, 3, 4, 6] rfl) hU hS
                    ·
                      exact J_108 _ _ _ (lv_sub hl [0, 1, 2, 3, 4, 6] rfl) hU hS
          exact J_61 _ 0 0 _ _ _ (lv_sub hl [2, 3, 4, 5, 6, 1, 0] rfl) hU hS (by omega) (by omega) (Nat.lt_succ_self _)
  exact J_40 _ 0 x_13 _ _ _ (lv_sub hl [4, 5, 2, 1, 0] rfl) hU hS (by omega) (Nat.lt_succ_self _)
set_option maxHeartbeats 4000000 in
set_option maxRecDepth 100000 in
theorem c_X12_worthOf {l : Launch} {D : va_G} {cA : FieldType → ClassId} {sz : Nat} {al : Al} {iv : Iv} {rv : Rv} (hG : GI al iv rv) (cl : Int32) (pre0 : 0 ≤ cl.toInt ∧ cl.toInt < (iv 0 0 41).toInt) : Met l yX12_worthOf (wd yX12_worthOf cX12_worthOf 2 (some .int)) (rm 10) (PcW D cA sz al iv rv [.ref (al.2 0 0), .int cl]) (QI D cA sz al (fI al ([17, 20], []) iv rv (fun r iv' rv' => True))) 0 0 (Aq sz) := by
  refine mk_i (by decide) (Nat.le_of_ble_eq_true rfl) rfl ?_
  intro p e s m args below meth c ls Q H locs C hU hS hl hret
  have hx := C.1.1
  have hb := C.1.2.1
  have hl : lv_has ls 2 [(0, .ref (al.2 0 0)), (1, .int cl)] := hl
  have hG0 := hG
  have h6 := le6 hG
  have h20 := le20 hG
  have h41 := le41 hG
  have h41 := le41 hG
  have h20 := le20 hG
  have hco := co1 hG pre0.1 pre0.2
  have hF1 : FR ([17, 20], []) iv iv := FR.rf
  have hF2 : FR ([17, 20], []) rv rv := FR.rf
  have k0 : (0 : Int32).toInt = 0 := by decide
  refine lv_aload_n hx hb dX12_worthOf_0 rfl (lv_at hl 0 rfl) ?_
  refine lv_iload_n hx hb dX12_worthOf_1 rfl (lv_at hl 1 rfl) ?_
  refine q_pi (q_runV (t := 0) (i := 0) (As := [.int cl]) (rest := []) C hU (c_X12_isBarred hG cl (by omega)) vm_X12_isBarred ml_X12_278 k_0.1 (hc := rfl) rfl (h1_0 hG) hl.1 rfl rfl (Nat.le_of_ble_eq_true rfl) dX12_worthOf_2 rfl rfl ⟨Nat.le_of_ble_eq_true rfl, Nat.le_of_ble_eq_true rfl⟩ ⟨Nat.le_refl _, Nat.le_refl _⟩) hS (fun x_2 H locs hp_1 hU hS => ?_)
  refine b_if_eq (tgt := 12) hx hb dX12_worthOf_5 (by decide) (fun c_3 => ?_) (fun c_3 => ?_)
  ·
    refine lv_aload_n hx hb dX12_worthOf_12 rfl (lv_at hl 0 rfl) ?_
    refine lv_aload_n hx hb dX12_worthOf_13 rfl (lv_at hl 0 rfl) ?_
    refine g_0_42 C hU hG (h1_0 hG) fl_X12_113 dX12_worthOf_14 ?_
    refine lv_iload_n hx hb dX12_worthOf_17 rfl (lv_at hl 1 rfl) ?_
    refine a_35 C hU hG (h1_35 hG) (x := cl) (by omega) (by omega) dX12_worthOf_18 (fun x_4 e_5 le_5 ue_5 => ?_)
    have te_5 := congrArg Int32.toInt e_5
    refine lv_aload_n hx hb dX12_worthOf_19 rfl (lv_at hl 0 rfl) ?_
    refine g_0_43 C hU hG (h1_0 hG) fl_X12_116 dX12_worthOf_20 ?_
    refine lv_iload_n hx hb dX12_worthOf_23 rfl (lv_at hl 1 rfl) ?_
    refine a_36 C hU hG (h1_36 hG) (x := cl) (by omega) (by omega) dX12_worthOf_24 (fun x_6 e_7 le_7 ue_7 => ?_)
    have te_7 := congrArg Int32.toInt e_7
    refine q_fi (q_runV (t := 0) (i := 0) (As := [.int x_4, .int x_6]) (rest := []) C hU (c_X12_sumOf hG x_4 x_6 (by omega)) vm_X12_sumOf ml_X12_269 k_0.1 (hc := rfl) rfl (h1_0 hG) hl.1 rfl rfl (Nat.le_of_ble_eq_true rfl) dX12_worthOf_25 rfl rfl ⟨Nat.le_of_ble_eq_true rfl, Nat.le_of_ble_eq_true rfl⟩ ⟨Nat.le_refl _, Nat.le_refl _⟩) hS (fun x_13 iv_9 rv_10 H locs hG fa_11 fb_12 hp_8 hU hS => ?_)
    have hF1 := hF1.tr (m := ([17, 20], [])) fa_11 (by decide)
    have hF2 := hF2.tr (m := ([17, 20], [])) fb_12 (by decide)
    have kf_14 := congrArg Int32.toInt (hF1 0 0 20 (by decide))
    have kf_15 := congrArg Int32.toInt (hF1 0 0 41 (by decide))
    exact hret (⟨hG, hF1, hF2, trivial⟩) hU hS dX12_worthOf_28
  ·
    refine lv_iconst (v := 0) hx hb dX12_worthOf_8 (by decide) ?_
    refine lv_goto (tgt := 28) hx hb dX12_worthOf_9 (by decide) ?_
    exact hret (⟨hG, hF1, hF2, trivial⟩) hU hS dX12_worthOf_28
set_option maxHeartbeats 4000000 in
set_option maxRecDepth 100000 in
theorem c_X12_settledOf {l : Launch} {D : va_G} {cA : FieldType → ClassId} {sz : Nat} {al : Al} {iv : Iv} {rv : Rv} (hG : GI al iv rv) (cl : Int32) (pre0 : 0 ≤ cl.toInt ∧ cl.toInt < 30) : Met l yX12_settledOf (wd yX12_settledOf cX12_settledOf 4 (some .int)) (rm 0) (PcW D cA sz al iv rv [.ref (al.2 0 0), .int cl]) (QI D cA sz al (pI iv rv (fun r => True))) 0 0 (Aq sz) := by
  refine mk_i (by decide) (Nat.le_of_ble_eq_true rfl) rfl ?_
  intro p e s m args below meth c ls Q H locs C hU hS hl hret
  have hx := C.1.1
  have hb := C.1.2.1
  have hl : lv_has ls 4 [(0, .ref (al.2 0 0)), (1, .int cl)] := hl
  have hG0 := hG
  have h6 := le6 hG
  have h20 := le20 hG
  have h41 := le41 hG
  have k0 : (0 : Int32).toInt = 0 := by decide
  have k1 : (1 : Int32).toInt = 1 := by decide
  have k5 : (5 : Int32).toInt = 5 := by decide
  refine lv_iconst (v := 0) hx hb dX12_settledOf_0 (by decide) ?_
  refine lv_istore_n (lv' := [(2, .int 0), (0, .ref (al.2 0 0)), (1, .int cl)]) hx hb dX12_settledOf_1 rfl hl (by decide) rfl (fun ls hl => ?_)
  refine lv_iconst (v := 0) hx hb dX12_settledOf_2 (by decide) ?_
  refine lv_istore_n (lv' := [(3, .int 0), (2, .int 0), (0, .ref (al.2 0 0)), (1, .int cl)]) hx hb dX12_settledOf_3 rfl hl (by decide) rfl (fun ls hl => ?_)
  have J_4 : ∀ (n_4 : Nat) (l2_1 : Int32) (l3_2 : Int32) (ls : Array Slot), lv_has ls 4 [(0, .ref (al.2 0 0)), (1, .int cl), (2, .int l2_1), (3, .int l3_2)] → (0 ≤ l3_2.toInt ∧ l3_2.toInt ≤ 5) → (5 - l3_2.toInt).toNat < n_4 → W p l e (rm 0) s m args below meth c H locs 0 0 Q (F0 m 4 ls []) := by
    intro n_4
    induction n_4 with
    | zero =>
      intro l2_1 l3_2 ls hl i4_0 hm_4
      exact absurd hm_4 (Nat.not_lt_zero _)
    | succ n_4 ih_4 =>
      intro l2_1 l3_2 ls hl i4_0 hm_4
      refine lv_iload_n hx hb dX12_settledOf_4 rfl (lv_at hl 3 rfl) ?_
      refine lv_iconst (v := 5) hx hb dX12_settledOf_5 (by decide) ?_
      refine b_icmp_ge (tgt := 28) hx hb dX12_settledOf_6 (by decide) (fun c_3 => ?_) (fun c_3 => ?_)
      ·
        refine lv_iload_n hx hb dX12_settledOf_28 rfl (lv_at hl 2 rfl) ?_
        exact hret (⟨rfl, rfl, trivial⟩) hU hS dX12_settledOf_29
      ·
        refine lv_iload_n hx hb dX12_settledOf_9 rfl (lv_at hl 2 rfl) ?_
        refine lv_aload_n hx hb dX12_settledOf_10 rfl (lv_at hl 0 rfl) ?_
        refine g_0_45 C hU hG (h1_0 hG) fl_X12_122 dX12_settledOf_11 ?_
        refine lv_iconst (v := 5) hx hb dX12_settledOf_14 (by decide) ?_
        refine lv_iload_n hx hb dX12_settledOf_15 rfl (lv_at hl 1 rfl) ?_
        refine lv_imul hx hb dX12_settledOf_16 ?_
        refine lv_topi (fun x_4 e_5 => ?_)
        have te_5 : x_4.toInt = 5 * (cl : Int32).toInt := by rw [e_5, fb_mulI (by rw [show (5 : Int32).toInt = 5 from by decide]; omega) (by rw [show (5 : Int32).toInt = 5 from by decide]; omega), show (5 : Int32).toInt = 5 from by decide]
        refine lv_iload_n hx hb dX12_settledOf_17 rfl (lv_at hl 3 rfl) ?_
        refine lv_iadd hx hb dX12_settledOf_18 ?_
        refine lv_topi (fun x_6 e_7 => ?_)
        have te_7 : x_6.toInt = (x_4 : Int32).toInt + (l3_2 : Int32).toInt := by rw [e_7]; exact fb_addI (by omega) (by omega)
        refine a_38 C hU hG (h1_38 hG) (x := x_6) (by omega) (by omega) dX12_settledOf_19 (fun x_8 e_9 => ?_)
        have te_9 := congrArg Int32.toInt e_9
        refine lv_iadd hx hb dX12_settledOf_20 ?_
        refine lv_topi (fun x_10 e_11 => ?_)
        refine lv_istore_n (lv' := [(2, .int x_10), (0, .ref (al.2 0 0)), (1, .int cl), (3, .int l3_2)]) hx hb dX12_settledOf_21 rfl hl (by decide) rfl (fun ls hl => ?_)
        obtain ⟨x_12, e_13⟩ : ∃ y : Int32, y = l3_2 + 1 := ⟨_, rfl⟩
        have te_13 : x_12.toInt = (l3_2 : Int32).toInt + (1 : Int32).toInt := by rw [e_13]; exact fb_addI (by omega) (by omega)
        refine lv_iinc (v := x_12) (lv' := [(3, .int x_12), (2, .int x_10), (0, .ref (al.2 0 0)), (1, .int cl)]) hx hb dX12_settledOf_22 hl (k := 3) rfl (by rw [e_13]; rfl) (by decide) rfl (fun ls hl => ?_)
        refine lv_goto (tgt := 4) hx hb dX12_settledOf_25 (by decide) ?_
        exact ih_4 x_10 x_12 _ (lv_sub hl [2, 3, 1, 0] rfl) (by omega) (by omega)
  exact J_4 _ 0 0 _ (lv_sub hl [2, 3, 1, 0] rfl) (by omega) (Nat.lt_succ_self _)
set_option maxHeartbeats 4000000 in
set_option maxRecDepth 100000 in
theorem c_X12_claimOf {l : Launch} {D : va_G} {cA : FieldType → ClassId} {sz : Nat} {al : Al} {iv : Iv} {rv : Rv} (hG : GI al iv rv) (cl : Int32) (what : Int32) : Met l yX12_claimOf (wd yX12_claimOf cX12_claimOf 3 (some .int)) (rm 11) (PcW D cA sz al iv rv [.ref (al.2 0 0), .int cl, .int what]) (QI D cA sz al (fI al ([16, 17, 20], []) iv rv (fun r iv' rv' => True))) 0 0 (Aq sz) := by
  refine mk_i (by decide) (Nat.le_of_ble_eq_true rfl) rfl ?_
  intro p e s m args below meth c ls Q H locs C hU hS hl hret
  have hx := C.1.1
  have hb := C.1.2.1
  have hl : lv_has ls 3 [(0, .ref (al.2 0 0)), (1, .int cl), (2, .int what)] := hl
  have hG0 := hG
  have h6 := le6 hG
  have h20 := le20 hG
  have h41 := le41 hG
  have hF1 : FR ([16, 17, 20], []) iv iv := FR.rf
  have hF2 : FR ([16, 17, 20], []) rv rv := FR.rf
  have km2 : ((-2) : Int32).toInt = -2 := by decide
  have km1 : ((-1) : Int32).toInt = -1 := by decide
  have k0 : (0 : Int32).toInt = 0 := by decide
  have k1 : (1 : Int32).toInt = 1 := by decide
  have k5 : (5 : Int32).toInt = 5 := by decide
  refine lv_aload_n hx hb dX12_claimOf_0 rfl (lv_at hl 0 rfl) ?_
  refine lv_iload_n hx hb dX12_claimOf_1 rfl (lv_at hl 1 rfl) ?_
  refine q_pi (q_runV (t := 0) (i := 0) (As := [.int cl]) (rest := []) C hU (c_X12_isClaim hG cl ) vm_X12_isClaim ml_X12_281 k_0.1 (hc := rfl) rfl (h1_0 hG) hl.1 rfl rfl (Nat.le_of_ble_eq_true rfl) dX12_claimOf_2 rfl rfl ⟨Nat.le_of_ble_eq_true rfl, Nat.le_of_ble_eq_true rfl⟩ ⟨Nat.le_refl _, Nat.le_refl _⟩) hS (fun x_2 H locs hp_1 hU hS => ?_)
  refine b_if_ne (tgt := 14) hx hb dX12_claimOf_5 (by decide) (fun c_3 => ?_) (fun c_3 => ?_)
  ·
    refine lv_iload_n hx hb dX12_claimOf_14 rfl (lv_at hl 2 rfl) ?_
    refine lv_iconst (v := 0) hx hb dX12_claimOf_15 (by decide) ?_
    refine lv_iconst (v := 5) hx hb dX12_claimOf_16 (by decide) ?_
    refine q_pi (q_runS (As := [.int what, .int 0, .int 5]) (rest := []) C hU (c_X12_in  what 0 5 ) sm_X12_in ml_X12_156 hl.1 rfl rfl (Nat.le_of_ble_eq_true rfl) dX12_claimOf_17 rfl rfl ⟨Nat.le_of_ble_eq_true rfl, Nat.le_of_ble_eq_true rfl⟩ ⟨Nat.le_refl _, Nat.le_refl _⟩) hS (fun x_5 H locs hp_4 hU hS => ?_)
    refine b_if_ne (tgt := 30) hx hb dX12_claimOf_20 (by decide) (fun c_6 => ?_) (fun c_6 => ?_)
    ·
      refine lv_iload_n hx hb dX12_claimOf_30 rfl (lv_at hl 2 rfl) ?_
      refine b_table hx hb dX12_claimOf_31 104 (by decide) [64, 71, 78, 92, 98] (by decide) (fun j hj => ?_) (fun c_7 => ?_) (fun j tt htt c_7 => ?_)
      ·
        match j, hj with
        | 0, _ => exact ⟨33, 64, by decide, by decide, by decide⟩
        | 1, _ => exact ⟨40, 71, by decide, by decide, by decide⟩
        | 2, _ => exact ⟨47, 78, by decide, by decide, by decide⟩
        | 3, _ => exact ⟨61, 92, by decide, by decide, by decide⟩
        | 4, _ => exact ⟨67, 98, by decide, by decide, by decide⟩
        | q + 5, hq => exact absurd hq (by simp)
      ·
        refine lv_aload_n hx hb dX12_claimOf_104 rfl (lv_at hl 0 rfl) ?_
        refine lv_iload_n hx hb dX12_claimOf_105 rfl (lv_at hl 1 rfl) ?_
        refine q_pi (q_runV (t := 0) (i := 0) (As := [.int cl]) (rest := []) C hU (c_X12_settledOf hG cl (by omega)) vm_X12_settledOf ml_X12_287 k_0.1 (hc := rfl) rfl (h1_0 hG) hl.1 rfl rfl (Nat.le_of_ble_eq_true rfl) dX12_claimOf_106 rfl rfl ⟨Nat.le_of_ble_eq_true rfl, Nat.le_of_ble_eq_true rfl⟩ ⟨Nat.le_refl _, Nat.le_refl _⟩) hS (fun x_9 H locs hp_8 hU hS => ?_)
        refine lv_aload_n hx hb dX12_claimOf_109 rfl (lv_at hl 0 rfl) ?_
        refine lv_iload_n hx hb dX12_claimOf_110 rfl (lv_at hl 1 rfl) ?_
        refine q_fi (q_runV (t := 0) (i := 0) (As := [.int cl]) (rest := [.int x_9]) C hU (c_X12_worthOf hG cl (by omega)) vm_X12_worthOf ml_X12_284 k_0.1 (hc := rfl) rfl (h1_0 hG) hl.1 rfl rfl (Nat.le_of_ble_eq_true rfl) dX12_claimOf_111 rfl rfl ⟨Nat.le_of_ble_eq_true rfl, Nat.le_of_ble_eq_true rfl⟩ ⟨Nat.le_refl _, Nat.le_refl _⟩) hS (fun x_15 iv_11 rv_12 H locs hG fa_13 fb_14 hp_10 hU hS => ?_)
        have hF1 := hF1.tr (m := ([16, 17, 20], [])) fa_13 (by decide)
        have hF2 := hF2.tr (m := ([16, 17, 20], [])) fb_14 (by decide)
        refine lv_isub hx hb dX12_claimOf_114 ?_
        refine lv_topi (fun x_16 e_17 => ?_)
        refine q_pi (q_runS (As := [.int x_16]) (rest := []) C hU (c_X12_over  x_16 ) sm_X12_over ml_X12_187 hl.1 rfl rfl (Nat.le_of_ble_eq_true rfl) dX12_claimOf_115 rfl rfl ⟨Nat.le_of_ble_eq_true rfl, Nat.le_of_ble_eq_true rfl⟩ ⟨Nat.le_refl _, Nat.le_refl _⟩) hS (fun x_19 H locs hp_18 hU hS => ?_)
        have q_20 := hp_18.2
        have tq_20 := congrArg Int32.toInt q_20
        exact hret (⟨hG, hF1, hF2, trivial⟩) hU hS dX12_claimOf_118
      ·
        match j, htt with
        | 0, htt =>
          cases htt
          refine lv_aload_n hx hb dX12_claimOf_64 rfl (lv_at hl 0 rfl) ?_
          refine g_0_42 C hU hG (h1_0 hG) fl_X12_113 dX12_claimOf_65 ?_
          refine lv_iload_n hx hb dX12_claimOf_68 rfl (lv_at hl 1 rfl) ?_
          refine a_35 C hU hG (h1_35 hG) (x := cl) (by omega) (by omega) dX12_claimOf_69 (fun x_21 e_22 le_22 ue_22 => ?_)
          have te_22 := congrArg Int32.toInt e_22
          exact hret (⟨hG, hF1, hF2, trivial⟩) hU hS dX12_claimOf_70
        | 1, htt =>
          cases htt
          refine lv_aload_n hx hb dX12_claimOf_71 rfl (lv_at hl 0 rfl) ?_
          refine g_0_43 C hU hG (h1_0 hG) fl_X12_116 dX12_claimOf_72 ?_
          refine lv_iload_n hx hb dX12_claimOf_75 rfl (lv_at hl 1 rfl) ?_
          refine a_36 C hU hG (h1_36 hG) (x := cl) (by omega) (by omega) dX12_claimOf_76 (fun x_23 e_24 le_24 ue_24 => ?_)
          have te_24 := congrArg Int32.toInt e_24
          exact hret (⟨hG, hF1, hF2, trivial⟩) hU hS dX12_claimOf_77
        | 2, htt =>
          cases htt
          refine lv_aload_n hx hb dX12_claimOf_78 rfl (lv_at hl 0 rfl) ?_
          refine lv_iload_n hx hb dX12_claimOf_79 rfl (lv_at hl 1 rfl) ?_
          refine q_pi (q_runV (t := 0) (i := 0) (As := [.int cl]) (rest := []) C hU (c_X12_isBarred hG cl (by omega)) vm_X12_isBarred ml_X12_278 k_0.1 (hc := rfl) rfl (h1_0 hG) hl.1 rfl rfl (Nat.le_of_ble_eq_true rfl) dX12_claimOf_80 rfl rfl ⟨Nat.le_of_ble_eq_true rfl, Nat.le_of_ble_eq_true rfl⟩ ⟨Nat.le_refl _, Nat.le_refl _⟩) hS (fun x_26 H locs hp_25 hU hS => ?_)
          refine b_if_eq (tgt := 90) hx hb dX12_claimOf_83 (by decide) (fun c_27 => ?_) (fun c_27 => ?_)
          ·
            refine lv_iconst (v := 0) hx hb dX12_claimOf_90 (by decide) ?_
            exact hret (⟨hG, hF1, hF2, trivial⟩) hU hS dX12_claimOf_91
          ·
            refine lv_iconst (v := 1) hx hb dX12_claimOf_86 (by decide) ?_
            refine lv_goto (tgt := 91) hx hb dX12_claimOf_87 (by decide) ?_
            exact hret (⟨hG, hF1, hF2, trivial⟩) hU hS dX12_claimOf_91
        | 3, htt =>
          cases htt
          refine lv_aload_n hx hb dX12_claimOf_92 rfl (lv_at hl 0 rfl) ?_
          refine lv_iload_n hx hb dX12_claimOf_93 rfl (lv_at hl 1 rfl) ?_
          refine q_fi (q_runV (t := 0) (i := 0) (As := [.int cl]) (rest := []) C hU (c_X12_worthOf hG cl (by omega)) vm_X12_worthOf ml_X12_284 k_0.1 (hc := rfl) rfl (h1_0 hG) hl.1 rfl rfl (Nat.le_of_ble_eq_true rfl) dX12_claimOf_94 rfl rfl ⟨Nat.le_of_ble_eq_true rfl, Nat.le_of_ble_eq_true rfl⟩ ⟨Nat.le_refl _, Nat.le_refl _⟩) hS (fun x_33 iv_29 rv_30 H locs hG fa_31 fb_32 hp_28 hU hS => ?_)
          have hF1 := hF1.tr (m := ([16, 17, 20], [])) fa_31 (by decide)
          have hF2 := hF2.tr (m := ([16, 17, 20], [])) fb_32 (by decide)
          exact hret (⟨hG, hF1, hF2, trivial⟩) hU hS dX12_claimOf_97
        | 4, htt =>
          cases htt
          refine lv_aload_n hx hb dX12_claimOf_98 rfl (lv_at hl 0 rfl) ?_
          refine lv_iload_n hx hb dX12_claimOf_99 rfl (lv_at hl 1 rfl) ?_
          refine q_pi (q_runV (t := 0) (i := 0) (As := [.int cl]) (rest := []) C hU (c_X12_settledOf hG cl (by omega)) vm_X12_settledOf ml_X12_287 k_0.1 (hc := rfl) rfl (h1_0 hG) hl.1 rfl rfl (Nat.le_of_ble_eq_true rfl) dX12_claimOf_100 rfl rfl ⟨Nat.le_of_ble_eq_true rfl, Nat.le_of_ble_eq_true rfl⟩ ⟨Nat.le_refl _, Nat.le_refl _⟩) hS (fun x_35 H locs hp_34 hU hS => ?_)
          exact hret (⟨hG, hF1, hF2, trivial⟩) hU hS dX12_claimOf_103
        | q + 5, htt => simp at htt
    ·
      refine lv_aload_n hx hb dX12_claimOf_23 rfl (lv_at hl 0 rfl) ?_
      refine lv_bipush (v := (-2)) hx hb dX12_claimOf_24 (by decide) ?_
      refine q_fi (q_runV (t := 0) (i := 0) (As := [.int (-2)]) (rest := []) C hU (c_X12_refuse hG (-2) (by omega)) vm_X12_refuse ml_X12_164 k_0.1 (hc := rfl) rfl (h1_0 hG) hl.1 rfl rfl (Nat.le_of_ble_eq_true rfl) dX12_claimOf_26 rfl rfl ⟨Nat.le_of_ble_eq_true rfl, Nat.le_of_ble_eq_true rfl⟩ ⟨Nat.le_refl _, Nat.le_refl _⟩) hS (fun x_41 iv_37 rv_38 H locs hG fa_39 fb_40 hp_36 hU hS => ?_)
      have hF1 := hF1.tr (m := ([16, 17, 20], [])) fa_39 (by decide)
      have hF2 := hF2.tr (m := ([16, 17, 20], [])) fb_40 (by decide)
      exact hret (⟨hG, hF1, hF2, trivial⟩) hU hS dX12_claimOf_29
  ·
    refine lv_aload_n hx hb dX12_claimOf_8 rfl (lv_at hl 0 rfl) ?_
    refine lv_iconst (v := (-1)) hx hb dX12_claimOf_9 (by decide) ?_
    refine q_fi (q_runV (t := 0) (i := 0) (As := [.int (-1)]) (rest := []) C hU (c_X12_refuse hG (-1) (by omega)) vm_X12_refuse ml_X12_164 k_0.1 (hc := rfl) rfl (h1_0 hG) hl.1 rfl rfl (Nat.le_of_ble_eq_true rfl) dX12_claimOf_10 rfl rfl ⟨Nat.le_of_ble_eq_true rfl, Nat.le_of_ble_eq_true rfl⟩ ⟨Nat.le_refl _, Nat.le_refl _⟩) hS (fun x_47 iv_43 rv_44 H locs hG fa_45 fb_46 hp_42 hU hS => ?_)
    have hF1 := hF1.tr (m := ([16, 17, 20], [])) fa_45 (by decide)
    have hF2 := hF2.tr (m := ([16, 17, 20], [])) fb_46 (by decide)
    exact hret (⟨hG, hF1, hF2, trivial⟩) hU hS dX12_claimOf_13
set_option maxHeartbeats 4000000 in
set_option maxRecDepth 100000 in
theorem c_X12_owes {l : Launch} {D : va_G} {cA : FieldType → ClassId} {sz : Nat} {al : Al} {iv : Iv} {rv : Rv} (hG : GI al iv rv) (pp : Int32) (tt : Int32) (v : Int32) : Met l yX12_owes (wd yX12_owes cX12_owes 5 (some .int)) (rm 2) (PcW D cA sz al iv rv [.ref (al.2 0 0), .int pp, .int tt, .int v]) (QI D cA sz al (fI al ([16, 37], []) iv rv (fun r iv' rv' => True))) 0 0 (Aq sz) := by
  refine mk_i (by decide) (Nat.le_of_ble_eq_true rfl) rfl ?_
  intro p e s m args below meth c ls Q H locs C hU hS hl hret
  have hx := C.1.1
  have hb := C.1.2.1
  have hl : lv_has ls 5 [(0, .ref (al.2 0 0)), (1, .int pp), (2, .int tt), (3, .int v)] := hl
  have hG0 := hG
  have h6 := le6 hG
  have h20 := le20 hG
  have h41 := le41 hG
  have hF1 : FR ([16, 37], []) iv iv := FR.rf
  have hF2 : FR ([16, 37], []) rv rv := FR.rf
  have km6 : ((-6) : Int32).toInt = -6 := by decide
  have km4 : ((-4) : Int32).toInt = -4 := by decide
  have km1 : ((-1) : Int32).toInt = -1 := by decide
  have k20 : (20 : Int32).toInt = 20 := by decide
  have k9999 : (9999 : Int32).toInt = 9999 := by decide
  refine lv_iload_n hx hb dX12_owes_0 rfl (lv_at hl 1 rfl) ?_
  refine q_pi (q_runS (As := [.int pp]) (rest := []) C hU (c_X12_isPayer  pp ) sm_X12_isPayer ml_X12_290 hl.1 rfl rfl (Nat.le_of_ble_eq_true rfl) dX12_owes_1 rfl rfl ⟨Nat.le_of_ble_eq_true rfl, Nat.le_of_ble_eq_true rfl⟩ ⟨Nat.le_refl _, Nat.le_refl _⟩) hS (fun x_2 H locs hp_1 hU hS => ?_)
  refine b_if_eq (tgt := 15) hx hb dX12_owes_4 (by decide) (fun c_3 => ?_) (fun c_3 => ?_)
  ·
    refine lv_aload_n hx hb dX12_owes_15 rfl (lv_at hl 0 rfl) ?_
    refine lv_iconst (v := (-1)) hx hb dX12_owes_16 (by decide) ?_
    refine q_fi (q_runV (t := 0) (i := 0) (As := [.int (-1)]) (rest := []) C hU (c_X12_refuse hG (-1) (by omega)) vm_X12_refuse ml_X12_164 k_0.1 (hc := rfl) rfl (h1_0 hG) hl.1 rfl rfl (Nat.le_of_ble_eq_true rfl) dX12_owes_17 rfl rfl ⟨Nat.le_of_ble_eq_true rfl, Nat.le_of_ble_eq_true rfl⟩ ⟨Nat.le_refl _, Nat.le_refl _⟩) hS (fun x_9 iv_5 rv_6 H locs hG fa_7 fb_8 hp_4 hU hS => ?_)
    have hF1 := hF1.tr (m := ([16, 37], [])) fa_7 (by decide)
    have hF2 := hF2.tr (m := ([16, 37], [])) fb_8 (by decide)
    exact hret (⟨hG, hF1, hF2, trivial⟩) hU hS dX12_owes_20
  ·
    refine lv_aload_n hx hb dX12_owes_7 rfl (lv_at hl 0 rfl) ?_
    refine lv_iload_n hx hb dX12_owes_8 rfl (lv_at hl 2 rfl) ?_
    refine q_pi (q_runV (t := 0) (i := 0) (As := [.int tt]) (rest := []) C hU (c_X12_isTraveller hG tt ) vm_X12_isTraveller ml_X12_226 k_0.1 (hc := rfl) rfl (h1_0 hG) hl.1 rfl rfl (Nat.le_of_ble_eq_true rfl) dX12_owes_9 rfl rfl ⟨Nat.le_of_ble_eq_true rfl, Nat.le_of_ble_eq_true rfl⟩ ⟨Nat.le_refl _, Nat.le_refl _⟩) hS (fun x_11 H locs hp_10 hU hS => ?_)
    refine b_if_ne (tgt := 21) hx hb dX12_owes_12 (by decide) (fun c_12 => ?_) (fun c_12 => ?_)
    ·
      refine lv_iload_n hx hb dX12_owes_21 rfl (lv_at hl 3 rfl) ?_
      refine b_if_ge (tgt := 32) hx hb dX12_owes_22 (by decide) (fun c_13 => ?_) (fun c_13 => ?_)
      ·
        refine lv_iload_n hx hb dX12_owes_32 rfl (lv_at hl 3 rfl) ?_
        refine lv_sipush (v := 9999) hx hb dX12_owes_33 (by decide) ?_
        refine b_icmp_le (tgt := 46) hx hb dX12_owes_36 (by decide) (fun c_14 => ?_) (fun c_14 => ?_)
        ·
          refine lv_aload_n hx hb dX12_owes_46 rfl (lv_at hl 0 rfl) ?_
          refine g_0_44 C hU hG (h1_0 hG) fl_X12_119 dX12_owes_47 ?_
          refine lv_bipush (v := 20) hx hb dX12_owes_50 (by decide) ?_
          refine lv_iload_n hx hb dX12_owes_52 rfl (lv_at hl 1 rfl) ?_
          refine lv_imul hx hb dX12_owes_53 ?_
          refine lv_topi (fun x_15 e_16 => ?_)
          have te_16 : x_15.toInt = 20 * (pp : Int32).toInt := by rw [e_16, fb_mulI (by rw [show (20 : Int32).toInt = 20 from by decide]; omega) (by rw [show (20 : Int32).toInt = 20 from by decide]; omega), show (20 : Int32).toInt = 20 from by decide]
          refine lv_iload_n hx hb dX12_owes_54 rfl (lv_at hl 2 rfl) ?_
          refine lv_iadd hx hb dX12_owes_55 ?_
          refine lv_topi (fun x_17 e_18 => ?_)
          have te_18 : x_17.toInt = (x_15 : Int32).toInt + (tt : Int32).toInt := by rw [e_18]; exact fb_addI (by omega) (by omega)
          refine a_37 C hU hG (h1_37 hG) (x := x_17) (by omega) (by omega) dX12_owes_56 (fun x_19 e_20 => ?_)
          have te_20 := congrArg Int32.toInt e_20
          refine lv_istore (lv' := [(4, .int x_19), (0, .ref (al.2 0 0)), (1, .int pp), (2, .int tt), (3, .int v)]) hx hb dX12_owes_57 hl (by decide) rfl (fun ls hl => ?_)
          refine lv_aload_n hx hb dX12_owes_59 rfl (lv_at hl 1 rfl) ?_
          refine g_0_44 C hU hG (h1_0 hG) fl_X12_119 dX12_owes_60 ?_
          refine lv_bipush (v := 20) hx hb dX12_owes_63 (by decide) ?_
          refine lv_iload_n hx hb dX12_owes_65 rfl (lv_at hl 2 rfl) ?_
          refine lv_imul hx hb dX12_owes_66 ?_
          refine lv_topi (fun x_21 e_22 => ?_)
          have te_22 : x_21.toInt = 20 * (pp : Int32).toInt := by rw [e_22, fb_mulI (by rw [show (20 : Int32).toInt = 20 from by decide]; omega) (by rw [show (20 : Int32).toInt = 20 from by decide]; omega), show (20 : Int32).toInt = 20 from by decide]
          refine lv_iload_n hx hb dX12_owes_67 rfl (lv_at hl 3 rfl) ?_
          refine lv_iadd hx hb dX12_owes_68 ?_
          refine lv_topi (fun x_23 e_24 => ?_)
          have te_24 : x_23.toInt = (x_21 : Int32).toInt + (tt : Int32).toInt := by rw [e_24]; exact fb_addI (by omega) (by omega)
          refine lv_iload_n hx hb dX12_owes_69 rfl (lv_at hl 4 rfl) ?_
          refine s_37 C hU hS (h1_37 hG) (x := x_23) (by omega) (by omega) dX12_owes_70 (fun iv_25 H locs ei_26 hU hS => ?_)
          have hG : GI al iv_25 rv := by rw [ei_26]; exact hG.puti (show _ ∧ _ from ⟨(fb_rng _).1, Int.le_of_lt_add_one (fb_rng _).2⟩) (nsA (by decide) _)
          have hF1 : FR ([16, 37], []) iv iv_25 := by rw [ei_26]; exact hF1.put (Or.inl (by decide))
          refine lv_iload hx hb dX12_owes_71 (lv_at hl 0 rfl) ?_
          exact hret (⟨hG, hF1, hF2, trivial⟩) hU hS dX12_owes_73
        ·
          refine lv_aload_n hx hb dX12_owes_39 rfl (lv_at hl 0 rfl) ?_
          refine lv_bipush (v := (-6)) hx hb dX12_owes_40 (by decide) ?_
          refine q_fi (q_runV (t := 0) (i := 0) (As := [.int (-6)]) (rest := []) C hU (c_X12_refuse hG (-6) (by omega)) vm_X12_refuse ml_X12_164 k_0.1 (hc := rfl) rfl (h1_0 hG) hl.1 rfl rfl (Nat.le_of_ble_eq_true rfl) dX12_owes_42 rfl rfl ⟨Nat.le_of_ble_eq_true rfl, Nat.le_of_ble_eq_true rfl⟩ ⟨Nat.le_refl _, Nat.le_refl _⟩) hS (fun x_32 iv_28 rv_29 H locs hG fa_30 fb_31 hp_27 hU hS => ?_)
          have hF1 := hF1.tr (m := ([16, 37], [])) fa_30 (by decide)
          have hF2 := hF2.tr (m := ([16, 37], [])) fb_31 (by decide)
          exact hret (⟨hG, hF1, hF2, trivial⟩) hU hS dX12_owes_45
      ·
        refine lv_aload_n hx hb dX12_owes_25 rfl (lv_at hl 0 rfl) ?_
        refine lv_bipush (v := (-4)) hx hb dX12_owes_26 (by decide) ?_
        refine q_fi (q_runV (t := 0) (i := 0) (As := [.int (-4)]) (rest := []) C hU (c_X12_refuse hG (-4) (by omega)) vm_X12_refuse ml_X12_164 k_0.1 (hc := rfl) rfl (h1_0 hG) hl.1 rfl rfl (Nat.le_of_ble_eq_true rfl) dX12_owes_28 rfl rfl ⟨Nat.le_of_ble_eq_true rfl, Nat.le_of_ble_eq_true rfl⟩ ⟨Nat.le_refl _, Nat.le_refl _⟩) hS (fun x_38 iv_34 rv_35 H locs hG fa_36 fb_37 hp_33 hU hS => ?_)
        have hF1 := hF1.tr (m := ([16, 37], [])) fa_36 (by decide)
        have hF2 := hF2.tr (m := ([16, 37], [])) fb_37 (by decide)
        exact hret (⟨hG, hF1, hF2, trivial⟩) hU hS dX12_owes_31
    ·
      refine lv_aload_n hx hb dX12_owes_15 rfl (lv_at hl 0 rfl) ?_
      refine lv_iconst (v := (-1)) hx hb dX12_owes_16 (by decide) ?_
      refine q_fi (q_runV (t := 0) (i := 0) (As := [.int (-1)]) (rest := []) C hU (c_X12_refuse hG (-1) (by omega)) vm_X12_refuse ml_X12_164 k_0.1 (hc := rfl) rfl (h1_0 hG) hl.1 rfl rfl (Nat.le_of_ble_eq_true rfl) dX12_owes_17 rfl rfl ⟨Nat.le_of_ble_eq_true rfl, Nat.le_of_ble_eq_true rfl⟩ ⟨Nat.le_refl _, Nat.le_refl _⟩) hS (fun x_44 iv_40 rv_41 H locs hG fa_42 fb_43 hp_39 hU hS => ?_)
      have hF1 := hF1.tr (m := ([16, 37], [])) fa_42 (by decide)
      have hF2 := hF2.tr (m := ([16, 37], [])) fb_43 (by decide)
      exact hret (⟨hG, hF1, hF2, trivial⟩) hU hS dX12_owes_20
set_option maxHeartbeats 4000000 in
set_option maxRecDepth 100000 in
theorem c_X12_pay {l : Launch} {D : va_G} {cA : FieldType → ClassId} {sz : Nat} {al : Al} {iv : Iv} {rv : Rv} (hG : GI al iv rv) (cl : Int32) (pp : Int32) (v : Int32) : Met l yX12_pay (wd yX12_pay cX12_pay 4 (some .int)) (rm 2) (PcW D cA sz al iv rv [.ref (al.2 0 0), .int cl, .int pp, .int v]) (QI D cA sz al (fI al ([16, 38], []) iv rv (fun r iv' rv' => True))) 0 0 (Aq sz) := by
  refine mk_i (by decide) (Nat.le_of_ble_eq_true rfl) rfl ?_
  intro p e s m args below meth c ls Q H locs C hU hS hl hret
  have hx := C.1.1
  have hb := C.1.2.1
  have hl : lv_has ls 4 [(0, .ref (al.2 0 0)), (1, .int cl), (2, .int pp), (3, .int v)] := hl
  have hG0 := hG
  have h6 := le6 hG
  have h20 := le20 hG
  have h41 := le41 hG
  have h41 := le41 hG
  have h20 := le20 hG
  have hF1 : FR ([16, 38], []) iv iv := FR.rf
  have hF2 : FR ([16, 38], []) rv rv := FR.rf
  have km6 : ((-6) : Int32).toInt = -6 := by decide
  have km4 : ((-4) : Int32).toInt = -4 := by decide
  have km1 : ((-1) : Int32).toInt = -1 := by decide
  have k1 : (1 : Int32).toInt = 1 := by decide
  have k5 : (5 : Int32).toInt = 5 := by decide
  have k9999 : (9999 : Int32).toInt = 9999 := by decide
  have k99999 : (99999 : Int32).toInt = 99999 := by decide
  refine lv_aload_n hx hb dX12_pay_0 rfl (lv_at hl 0 rfl) ?_
  refine lv_iload_n hx hb dX12_pay_1 rfl (lv_at hl 1 rfl) ?_
  refine q_pi (q_runV (t := 0) (i := 0) (As := [.int cl]) (rest := []) C hU (c_X12_isClaim hG cl ) vm_X12_isClaim ml_X12_281 k_0.1 (hc := rfl) rfl (h1_0 hG) hl.1 rfl rfl (Nat.le_of_ble_eq_true rfl) dX12_pay_2 rfl rfl ⟨Nat.le_of_ble_eq_true rfl, Nat.le_of_ble_eq_true rfl⟩ ⟨Nat.le_refl _, Nat.le_refl _⟩) hS (fun x_2 H locs hp_1 hU hS => ?_)
  refine b_if_eq (tgt := 15) hx hb dX12_pay_5 (by decide) (fun c_3 => ?_) (fun c_3 => ?_)
  ·
    refine lv_aload_n hx hb dX12_pay_15 rfl (lv_at hl 0 rfl) ?_
    refine lv_iconst (v := (-1)) hx hb dX12_pay_16 (by decide) ?_
    refine q_fi (q_runV (t := 0) (i := 0) (As := [.int (-1)]) (rest := []) C hU (c_X12_refuse hG (-1) (by omega)) vm_X12_refuse ml_X12_164 k_0.1 (hc := rfl) rfl (h1_0 hG) hl.1 rfl rfl (Nat.le_of_ble_eq_true rfl) dX12_pay_17 rfl rfl ⟨Nat.le_of_ble_eq_true rfl, Nat.le_of_ble_eq_true rfl⟩ ⟨Nat.le_refl _, Nat.le_refl _⟩) hS (fun x_9 iv_5 rv_6 H locs hG fa_7 fb_8 hp_4 hU hS => ?_)
    have hF1 := hF1.tr (m := ([16, 38], [])) fa_7 (by decide)
    have hF2 := hF2.tr (m := ([16, 38], [])) fb_8 (by decide)
    exact hret (⟨hG, hF1, hF2, trivial⟩) hU hS dX12_pay_20
  ·
    refine lv_iload_n hx hb dX12_pay_8 rfl (lv_at hl 2 rfl) ?_
    refine q_pi (q_runS (As := [.int pp]) (rest := []) C hU (c_X12_isPayer  pp ) sm_X12_isPayer ml_X12_290 hl.1 rfl rfl (Nat.le_of_ble_eq_true rfl) dX12_pay_9 rfl rfl ⟨Nat.le_of_ble_eq_true rfl, Nat.le_of_ble_eq_true rfl⟩ ⟨Nat.le_refl _, Nat.le_refl _⟩) hS (fun x_11 H locs hp_10 hU hS => ?_)
    refine b_if_ne (tgt := 21) hx hb dX12_pay_12 (by decide) (fun c_12 => ?_) (fun c_12 => ?_)
    ·
      refine lv_iload_n hx hb dX12_pay_21 rfl (lv_at hl 3 rfl) ?_
      refine lv_iconst (v := 1) hx hb dX12_pay_22 (by decide) ?_
      refine b_icmp_ge (tgt := 33) hx hb dX12_pay_23 (by decide) (fun c_13 => ?_) (fun c_13 => ?_)
      ·
        refine lv_iload_n hx hb dX12_pay_33 rfl (lv_at hl 3 rfl) ?_
        refine lv_sipush (v := 9999) hx hb dX12_pay_34 (by decide) ?_
        refine b_icmp_gt (tgt := 53) hx hb dX12_pay_37 (by decide) (fun c_14 => ?_) (fun c_14 => ?_)
        ·
          refine lv_aload_n hx hb dX12_pay_53 rfl (lv_at hl 0 rfl) ?_
          refine lv_bipush (v := (-6)) hx hb dX12_pay_54 (by decide) ?_
          refine q_fi (q_runV (t := 0) (i := 0) (As := [.int (-6)]) (rest := []) C hU (c_X12_refuse hG (-6) (by omega)) vm_X12_refuse ml_X12_164 k_0.1 (hc := rfl) rfl (h1_0 hG) hl.1 rfl rfl (Nat.le_of_ble_eq_true rfl) dX12_pay_56 rfl rfl ⟨Nat.le_of_ble_eq_true rfl, Nat.le_of_ble_eq_true rfl⟩ ⟨Nat.le_refl _, Nat.le_refl _⟩) hS (fun x_20 iv_16 rv_17 H locs hG fa_18 fb_19 hp_15 hU hS => ?_)
          have hF1 := hF1.tr (m := ([16, 38], [])) fa_18 (by decide)
          have hF2 := hF2.tr (m := ([16, 38], [])) fb_19 (by decide)
          exact hret (⟨hG, hF1, hF2, trivial⟩) hU hS dX12_pay_59
        ·
          refine lv_aload_n hx hb dX12_pay_40 rfl (lv_at hl 0 rfl) ?_
          refine lv_iload_n hx hb dX12_pay_41 rfl (lv_at hl 1 rfl) ?_
          refine q_pi (q_runV (t := 0) (i := 0) (As := [.int cl]) (rest := []) C hU (c_X12_settledOf hG cl (by omega)) vm_X12_settledOf ml_X12_287 k_0.1 (hc := rfl) rfl (h1_0 hG) hl.1 rfl rfl (Nat.le_of_ble_eq_true rfl) dX12_pay_42 rfl rfl ⟨Nat.le_of_ble_eq_true rfl, Nat.le_of_ble_eq_true rfl⟩ ⟨Nat.le_refl _, Nat.le_refl _⟩) hS (fun x_22 H locs hp_21 hU hS => ?_)
          refine lv_iload_n hx hb dX12_pay_45 rfl (lv_at hl 3 rfl) ?_
          refine lv_iadd hx hb dX12_pay_46 ?_
          refine lv_topi (fun x_23 e_24 => ?_)
          refine lv_ldcw (v := 99999) hx hb C.1.2.2.2.1 (C.1.2.2.2.2 _ ct_X12_293) dX12_pay_47 ?_
          refine b_icmp_le (tgt := 60) hx hb dX12_pay_50 (by decide) (fun c_25 => ?_) (fun c_25 => ?_)
          ·
            refine lv_aload_n hx hb dX12_pay_60 rfl (lv_at hl 0 rfl) ?_
            refine g_0_45 C hU hG (h1_0 hG) fl_X12_122 dX12_pay_61 ?_
            refine lv_iconst (v := 5) hx hb dX12_pay_64 (by decide) ?_
            refine lv_iload_n hx hb dX12_pay_65 rfl (lv_at hl 1 rfl) ?_
            refine lv_imul hx hb dX12_pay_66 ?_
            refine lv_topi (fun x_26 e_27 => ?_)
            have te_27 : x_26.toInt = 5 * (cl : Int32).toInt := by rw [e_27, fb_mulI (by rw [show (5 : Int32).toInt = 5 from by decide]; omega) (by rw [show (5 : Int32).toInt = 5 from by decide]; omega), show (5 : Int32).toInt = 5 from by decide]
            refine lv_iload_n hx hb dX12_pay_67 rfl (lv_at hl 2 rfl) ?_
            refine lv_iadd hx hb dX12_pay_68 ?_
            refine lv_topi (fun x_28 e_29 => ?_)
            have te_29 : x_28.toInt = (x_26 : Int32).toInt + (pp : Int32).toInt := by rw [e_29]; exact fb_addI (by omega) (by omega)
            refine lv_dup2_11 hx hb dX12_pay_69 rfl rfl ?_
            refine a_38 C hU hG (h1_38 hG) (x := x_28) (by omega) (by omega) dX12_pay_70 (fun x_30 e_31 => ?_)
            have te_31 := congrArg Int32.toInt e_31
            refine lv_iload_n hx hb dX12_pay_71 rfl (lv_at hl 3 rfl) ?_
            refine lv_iadd hx hb dX12_pay_72 ?_
            refine lv_topi (fun x_32 e_33 => ?_)
            refine s_38 C hU hS (h1_38 hG) (x := x_28) (by omega) (by omega) dX12_pay_73 (fun iv_34 H locs ei_35 hU hS => ?_)
            have hG : GI al iv_34 rv := by rw [ei_35]; exact hG.puti (show _ ∧ _ from ⟨(fb_rng _).1, Int.le_of_lt_add_one (fb_rng _).2⟩) (nsA (by decide) _)
            have hF1 : FR ([16, 38], []) iv iv_34 := by rw [ei_35]; exact hF1.put (Or.inl (by decide))
            refine lv_aload_n hx hb dX12_pay_74 rfl (lv_at hl 0 rfl) ?_
            refine lv_iload_n hx hb dX12_pay_75 rfl (lv_at hl 1 rfl) ?_
            refine q_pi (q_runV (t := 0) (i := 0) (As := [.int cl]) (rest := []) C hU (c_X12_settledOf hG cl (by omega)) vm_X12_settledOf ml_X12_287 k_0.1 (hc := rfl) rfl (h1_0 hG) hl.1 rfl rfl (Nat.le_of_ble_eq_true rfl) dX12_pay_76 rfl rfl ⟨Nat.le_of_ble_eq_true rfl, Nat.le_of_ble_eq_true rfl⟩ ⟨Nat.le_refl _, Nat.le_refl _⟩) hS (fun x_37 H locs hp_36 hU hS => ?_)
            exact hret (⟨hG, hF1, hF2, trivial⟩) hU hS dX12_pay_79
          ·
            refine lv_aload_n hx hb dX12_pay_53 rfl (lv_at hl 0 rfl) ?_
            refine lv_bipush (v := (-6)) hx hb dX12_pay_54 (by decide) ?_
            refine q_fi (q_runV (t := 0) (i := 0) (As := [.int (-6)]) (rest := []) C hU (c_X12_refuse hG (-6) (by omega)) vm_X12_refuse ml_X12_164 k_0.1 (hc := rfl) rfl (h1_0 hG) hl.1 rfl rfl (Nat.le_of_ble_eq_true rfl) dX12_pay_56 rfl rfl ⟨Nat.le_of_ble_eq_true rfl, Nat.le_of_ble_eq_true rfl⟩ ⟨Nat.le_refl _, Nat.le_refl _⟩) hS (fun x_43 iv_39 rv_40 H locs hG fa_41 fb_42 hp_38 hU hS => ?_)
            have hF1 := hF1.tr (m := ([16, 38], [])) fa_41 (by decide)
            have hF2 := hF2.tr (m := ([16, 38], [])) fb_42 (by decide)
            exact hret (⟨hG, hF1, hF2, trivial⟩) hU hS dX12_pay_59
      ·
        refine lv_aload_n hx hb dX12_pay_26 rfl (lv_at hl 0 rfl) ?_
        refine lv_bipush (v := (-4)) hx hb dX12_pay_27 (by decide) ?_
        refine q_fi (q_runV (t := 0) (i := 0) (As := [.int (-4)]) (rest := []) C hU (c_X12_refuse hG (-4) (by omega)) vm_X12_refuse ml_X12_164 k_0.1 (hc := rfl) rfl (h1_0 hG) hl.1 rfl rfl (Nat.le_of_ble_eq_true rfl) dX12_pay_29 rfl rfl ⟨Nat.le_of_ble_eq_true rfl, Nat.le_of_ble_eq_true rfl⟩ ⟨Nat.le_refl _, Nat.le_refl _⟩) hS (fun x_49 iv_45 rv_46 H locs hG fa_47 fb_48 hp_44 hU hS => ?_)
        have hF1 := hF1.tr (m := ([16, 38], [])) fa_47 (by decide)
        have hF2 := hF2.tr (m := ([16, 38], [])) fb_48 (by decide)
        exact hret (⟨hG, hF1, hF2, trivial⟩) hU hS dX12_pay_32
    ·
      refine lv_aload_n hx hb dX12_pay_15 rfl (lv_at hl 0 rfl) ?_
      refine lv_iconst (v := (-1)) hx hb dX12_pay_16 (by decide) ?_
      refine q_fi (q_runV (t := 0) (i := 0) (As := [.int (-1)]) (rest := []) C hU (c_X12_refuse hG (-1) (by omega)) vm_X12_refuse ml_X12_164 k_0.1 (hc := rfl) rfl (h1_0 hG) hl.1 rfl rfl (Nat.le_of_ble_eq_true rfl) dX12_pay_17 rfl rfl ⟨Nat.le_of_ble_eq_true rfl, Nat.le_of_ble_eq_true rfl⟩ ⟨Nat.le_refl _, Nat.le_refl _⟩) hS (fun x_55 iv_51 rv_52 H locs hG fa_53 fb_54 hp_50 hU hS => ?_)
      have hF1 := hF1.tr (m := ([16, 38], [])) fa_53 (by decide)
      have hF2 := hF2.tr (m := ([16, 38], [])) fb_54 (by decide)
      exact hret (⟨hG, hF1, hF2, trivial⟩) hU hS dX12_pay_20
set_option maxHeartbeats 4000000 in
set_option maxRecDepth 100000 in
theorem c_X12_dueOf {l : Launch} {D : va_G} {cA : FieldType → ClassId} {sz : Nat} {al : Al} {iv : Iv} {rv : Rv} (hG : GI al iv rv) (cl : Int32) (pp : Int32) (pre0 : 0 ≤ cl.toInt ∧ cl.toInt < (iv 0 0 41).toInt) (pre1 : 0 ≤ pp.toInt ∧ pp.toInt ≤ 4) : Met l yX12_dueOf (wd yX12_dueOf cX12_dueOf 6 (some .int)) (rm 11) (PcW D cA sz al iv rv [.ref (al.2 0 0), .int cl, .int pp]) (QI D cA sz al (fI al ([17, 20], []) iv rv (fun r iv' rv' => True))) 0 0 (Aq sz) := by
  refine mk_i (by decide) (Nat.le_of_ble_eq_true rfl) rfl ?_
  intro p e s m args below meth c ls Q H locs C hU hS hl hret
  have hx := C.1.1
  have hb := C.1.2.1
  have hl : lv_has ls 6 [(0, .ref (al.2 0 0)), (1, .int cl), (2, .int pp)] := hl
  have hG0 := hG
  have h6 := le6 hG
  have h20 := le20 hG
  have h41 := le41 hG
  have h41 := le41 hG
  have h20 := le20 hG
  have hF1 : FR ([17, 20], []) iv iv := FR.rf
  have hF2 : FR ([17, 20], []) rv rv := FR.rf
  have k0 : (0 : Int32).toInt = 0 := by decide
  have k1 : (1 : Int32).toInt = 1 := by decide
  have k20 : (20 : Int32).toInt = 20 := by decide
  refine lv_aload_n hx hb dX12_dueOf_0 rfl (lv_at hl 0 rfl) ?_
  refine lv_iload_n hx hb dX12_dueOf_1 rfl (lv_at hl 1 rfl) ?_
  refine q_fi (q_runV (t := 0) (i := 0) (As := [.int cl]) (rest := []) C hU (c_X12_worthOf hG cl (by omega)) vm_X12_worthOf ml_X12_284 k_0.1 (hc := rfl) rfl (h1_0 hG) hl.1 rfl rfl (Nat.le_of_ble_eq_true rfl) dX12_dueOf_2 rfl rfl ⟨Nat.le_of_ble_eq_true rfl, Nat.le_of_ble_eq_true rfl⟩ ⟨Nat.le_refl _, Nat.le_refl _⟩) hS (fun x_6 iv_2 rv_3 H locs hG fa_4 fb_5 hp_1 hU hS => ?_)
  have hF1 := hF1.tr (m := ([17, 20], [])) fa_4 (by decide)
  have hF2 := hF2.tr (m := ([17, 20], [])) fb_5 (by decide)
  have kf_7 := congrArg Int32.toInt (hF1 0 0 20 (by decide))
  have kf_8 := congrArg Int32.toInt (hF1 0 0 41 (by decide))
  refine lv_istore_n (lv' := [(3, .int x_6), (0, .ref (al.2 0 0)), (1, .int cl), (2, .int pp)]) hx hb dX12_dueOf_5 rfl hl (by decide) rfl (fun ls hl => ?_)
  refine lv_iconst (v := 0) hx hb dX12_dueOf_6 (by decide) ?_
  refine lv_istore (lv' := [(4, .int 0), (3, .int x_6), (0, .ref (al.2 0 0)), (1, .int cl), (2, .int pp)]) hx hb dX12_dueOf_7 hl (by decide) rfl (fun ls hl => ?_)
  refine lv_iconst (v := 0) hx hb dX12_dueOf_9 (by decide) ?_
  refine lv_istore (lv' := [(5, .int 0), (4, .int 0), (3, .int x_6), (0, .ref (al.2 0 0)), (1, .int cl), (2, .int pp)]) hx hb dX12_dueOf_10 hl (by decide) rfl (fun ls hl => ?_)
  have J_12 : ∀ (n_12 : Nat) (l3_9 : Int32) (l4_10 : Int32) (l5_11 : Int32) (H : Heap) (locs : List Loc) (ls : Array Slot), lv_has ls 6 [(0, .ref (al.2 0 0)), (1, .int cl), (2, .int pp), (3, .int l3_9), (4, .int l4_10), (5, .int l5_11)] → UW D cA sz al iv_2 rv_3 H → va_S (Aq sz) s.heap H locs → (0 ≤ l5_11.toInt ∧ l5_11.toInt ≤ 5) → (5 - l5_11.toInt).toNat < n_12 → W p l e (rm 11) s m args below meth c H locs 0 0 Q (F0 m 12 ls []) := by
    intro n_12
    induction n_12 with
    | zero =>
      intro l3_9 l4_10 l5_11 H locs ls hl hU hS i12_0 hm_12
      exact absurd hm_12 (Nat.not_lt_zero _)
    | succ n_12 ih_12 =>
      intro l3_9 l4_10 l5_11 H locs ls hl hU hS i12_0 hm_12
      refine lv_iload hx hb dX12_dueOf_12 (lv_at hl 5 rfl) ?_
      refine lv_iload_n hx hb dX12_dueOf_14 rfl (lv_at hl 2 rfl) ?_
      refine b_icmp_gt (tgt := 52) hx hb dX12_dueOf_15 (by decide) (fun c_12 => ?_) (fun c_12 => ?_)
      ·
        refine lv_iload hx hb dX12_dueOf_52 (lv_at hl 4 rfl) ?_
        exact hret (⟨hG, hF1, hF2, trivial⟩) hU hS dX12_dueOf_54
      ·
        refine lv_iload_n hx hb dX12_dueOf_18 rfl (lv_at hl 3 rfl) ?_
        refine lv_aload_n hx hb dX12_dueOf_19 rfl (lv_at hl 0 rfl) ?_
        refine g_0_44 C hU hG (h1_0 hG) fl_X12_119 dX12_dueOf_20 ?_
        refine lv_bipush (v := 20) hx hb dX12_dueOf_23 (by decide) ?_
        refine lv_iload hx hb dX12_dueOf_25 (lv_at hl 5 rfl) ?_
        refine lv_imul hx hb dX12_dueOf_27 ?_
        refine lv_topi (fun x_13 e_14 => ?_)
        have te_14 : x_13.toInt = 20 * (l5_11 : Int32).toInt := by rw [e_14, fb_mulI (by rw [show (20 : Int32).toInt = 20 from by decide]; omega) (by rw [show (20 : Int32).toInt = 20 from by decide]; omega), show (20 : Int32).toInt = 20 from by decide]
        refine lv_aload_n hx hb dX12_dueOf_28 rfl (lv_at hl 0 rfl) ?_
        refine g_0_42 C hU hG (h1_0 hG) fl_X12_113 dX12_dueOf_29 ?_
        refine lv_iload_n hx hb dX12_dueOf_32 rfl (lv_at hl 1 rfl) ?_
        refine a_35 C hU hG (h1_35 hG) (x := cl) (by omega) (by omega) dX12_dueOf_33 (fun x_15 e_16 le_16 ue_16 => ?_)
        have te_16 := congrArg Int32.toInt e_16
        have ne_16 : x_15.toInt = (iv 35 0 (cl : Int32).toNatClampNeg).toInt := by rw [e_16, hF1.arr 35 0 (cl : Int32).toNatClampNeg (by decide)]
        refine lv_iadd hx hb dX12_dueOf_34 ?_
        refine lv_topi (fun x_17 e_18 => ?_)
        have te_18 : x_17.toInt = (x_13 : Int32).toInt + (x_15 : Int32).toInt := by rw [e_18]; exact fb_addI (by omega) (by omega)
        refine a_37 C hU hG (h1_37 hG) (x := x_17) (by omega) (by omega) dX12_dueOf_35 (fun x_19 e_20 => ?_)
        have te_20 := congrArg Int32.toInt e_20
        have ne_20 : x_19.toInt = (iv 37 0 (x_17 : Int32).toNatClampNeg).toInt := by rw [e_20, hF1.arr 37 0 (x_17 : Int32).toNatClampNeg (by decide)]
        refine q_pi (q_runS (As := [.int l3_9, .int x_19]) (rest := []) C hU (c_X12_lesser  l3_9 x_19 ) sm_X12_lesser ml_X12_203 hl.1 rfl rfl (Nat.le_of_ble_eq_true rfl) dX12_dueOf_36 rfl rfl ⟨Nat.le_of_ble_eq_true rfl, Nat.le_of_ble_eq_true rfl⟩ ⟨Nat.le_refl _, Nat.le_refl _⟩) hS (fun x_22 H locs hp_21 hU hS => ?_)
        have q_23 := hp_21.1
        have tq_23 := congrArg Int32.toInt q_23
        refine lv_istore (lv' := [(4, .int x_22), (0, .ref (al.2 0 0)), (1, .int cl), (2, .int pp), (3, .int l3_9), (5, .int l5_11)]) hx hb dX12_dueOf_39 hl (by decide) rfl (fun ls hl => ?_)
        refine lv_iload_n hx hb dX12_dueOf_41 rfl (lv_at hl 4 rfl) ?_
        refine lv_iload hx hb dX12_dueOf_42 (lv_at hl 0 rfl) ?_
        refine lv_isub hx hb dX12_dueOf_44 ?_
        refine lv_topi (fun x_24 e_25 => ?_)
        refine lv_istore_n (lv' := [(3, .int x_24), (4, .int x_22), (0, .ref (al.2 0 0)), (1, .int cl), (2, .int pp), (5, .int l5_11)]) hx hb dX12_dueOf_45 rfl hl (by decide) rfl (fun ls hl => ?_)
        obtain ⟨x_26, e_27⟩ : ∃ y : Int32, y = l5_11 + 1 := ⟨_, rfl⟩
        have te_27 : x_26.toInt = (l5_11 : Int32).toInt + (1 : Int32).toInt := by rw [e_27]; exact fb_addI (by omega) (by omega)
        refine lv_iinc (v := x_26) (lv' := [(5, .int x_26), (3, .int x_24), (4, .int x_22), (0, .ref (al.2 0 0)), (1, .int cl), (2, .int pp)]) hx hb dX12_dueOf_46 hl (k := 5) rfl (by rw [e_27]; rfl) (by decide) rfl (fun ls hl => ?_)
        refine lv_goto (tgt := 12) hx hb dX12_dueOf_49 (by decide) ?_
        exact ih_12 x_24 x_22 x_26 _ _ _ (lv_sub hl [3, 4, 5, 1, 2, 0] rfl) hU hS (by omega) (by omega)
  exact J_12 _ x_6 0 0 _ _ _ (lv_sub hl [3, 4, 5, 2, 1, 0] rfl) hU hS (by omega) (Nat.lt_succ_self _)
set_option maxHeartbeats 4000000 in
set_option maxRecDepth 100000 in
theorem c_X12_due {l : Launch} {D : va_G} {cA : FieldType → ClassId} {sz : Nat} {al : Al} {iv : Iv} {rv : Rv} (hG : GI al iv rv) (cl : Int32) (pp : Int32) : Met l yX12_due (wd yX12_due cX12_due 3 (some .int)) (rm 12) (PcW D cA sz al iv rv [.ref (al.2 0 0), .int cl, .int pp]) (QI D cA sz al (fI al ([16, 17, 20], []) iv rv (fun r iv' rv' => True))) 0 0 (Aq sz) := by
  refine mk_i (by decide) (Nat.le_of_ble_eq_true rfl) rfl ?_
  intro p e s m args below meth c ls Q H locs C hU hS hl hret
  have hx := C.1.1
  have hb := C.1.2.1
  have hl : lv_has ls 3 [(0, .ref (al.2 0 0)), (1, .int cl), (2, .int pp)] := hl
  have hG0 := hG
  have h6 := le6 hG
  have h20 := le20 hG
  have h41 := le41 hG
  have h41 := le41 hG
  have h20 := le20 hG
  have hF1 : FR ([16, 17, 20], []) iv iv := FR.rf
  have hF2 : FR ([16, 17, 20], []) rv rv := FR.rf
  have km1 : ((-1) : Int32).toInt = -1 := by decide
  refine lv_aload_n hx hb dX12_due_0 rfl (lv_at hl 0 rfl) ?_
  refine lv_iload_n hx hb dX12_due_1 rfl (lv_at hl 1 rfl) ?_
  refine q_pi (q_runV (t := 0) (i := 0) (As := [.int cl]) (rest := []) C hU (c_X12_isClaim hG cl ) vm_X12_isClaim ml_X12_281 k_0.1 (hc := rfl) rfl (h1_0 hG) hl.1 rfl rfl (Nat.le_of_ble_eq_true rfl) dX12_due_2 rfl rfl ⟨Nat.le_of_ble_eq_true rfl, Nat.le_of_ble_eq_true rfl⟩ ⟨Nat.le_refl _, Nat.le_refl _⟩) hS (fun x_2 H locs hp_1 hU hS => ?_)
  refine b_if_eq (tgt := 24) hx hb dX12_due_5 (by decide) (fun c_3 => ?_) (fun c_3 => ?_)
  ·
    refine lv_aload_n hx hb dX12_due_24 rfl (lv_at hl 0 rfl) ?_
    refine lv_iconst (v := (-1)) hx hb dX12_due_25 (by decide) ?_
    refine q_fi (q_runV (t := 0) (i := 0) (As := [.int (-1)]) (rest := []) C hU (c_X12_refuse hG (-1) (by omega)) vm_X12_refuse ml_X12_164 k_0.1 (hc := rfl) rfl (h1_0 hG) hl.1 rfl rfl (Nat.le_of_ble_eq_true rfl) dX12_due_26 rfl rfl ⟨Nat.le_of_ble_eq_true rfl, Nat.le_of_ble_eq_true rfl⟩ ⟨Nat.le_refl _, Nat.le_refl _⟩) hS (fun x_9 iv_5 rv_6 H locs hG fa_7 fb_8 hp_4 hU hS => ?_)
    have hF1 := hF1.tr (m := ([16, 17, 20], [])) fa_7 (by decide)
    have hF2 := hF2.tr (m := ([16, 17, 20], [])) fb_8 (by decide)
    exact hret (⟨hG, hF1, hF2, trivial⟩) hU hS dX12_due_29
  ·
    refine lv_iload_n hx hb dX12_due_8 rfl (lv_at hl 2 rfl) ?_
    refine q_pi (q_runS (As := [.int pp]) (rest := []) C hU (c_X12_isPayer  pp ) sm_X12_isPayer ml_X12_290 hl.1 rfl rfl (Nat.le_of_ble_eq_true rfl) dX12_due_9 rfl rfl ⟨Nat.le_of_ble_eq_true rfl, Nat.le_of_ble_eq_true rfl⟩ ⟨Nat.le_refl _, Nat.le_refl _⟩) hS (fun x_11 H locs hp_10 hU hS => ?_)
    refine b_if_eq (tgt := 24) hx hb dX12_due_12 (by decide) (fun c_12 => ?_) (fun c_12 => ?_)
    ·
      refine lv_aload_n hx hb dX12_due_24 rfl (lv_at hl 0 rfl) ?_
      refine lv_iconst (v := (-1)) hx hb dX12_due_25 (by decide) ?_
      refine q_fi (q_runV (t := 0) (i := 0) (As := [.int (-1)]) (rest := []) C hU (c_X12_refuse hG (-1) (by omega)) vm_X12_refuse ml_X12_164 k_0.1 (hc := rfl) rfl (h1_0 hG) hl.1 rfl rfl (Nat.le_of_ble_eq_true rfl) dX12_due_26 rfl rfl ⟨Nat.le_of_ble_eq_true rfl, Nat.le_of_ble_eq_true rfl⟩ ⟨Nat.le_refl _, Nat.le_refl _⟩) hS (fun x_18 iv_14 rv_15 H locs hG fa_16 fb_17 hp_13 hU hS => ?_)
      have hF1 := hF1.tr (m := ([16, 17, 20], [])) fa_16 (by decide)
      have hF2 := hF2.tr (m := ([16, 17, 20], [])) fb_17 (by decide)
      exact hret (⟨hG, hF1, hF2, trivial⟩) hU hS dX12_due_29
    ·
      refine lv_aload_n hx hb dX12_due_15 rfl (lv_at hl 0 rfl) ?_
      refine lv_iload_n hx hb dX12_due_16 rfl (lv_at hl 1 rfl) ?_
      refine lv_iload_n hx hb dX12_due_17 rfl (lv_at hl 2 rfl) ?_
      refine q_fi (q_runV (t := 0) (i := 0) (As := [.int cl, .int pp]) (rest := []) C hU (c_X12_dueOf hG cl pp (by omega) (by omega)) vm_X12_dueOf ml_X12_294 k_0.1 (hc := rfl) rfl (h1_0 hG) hl.1 rfl rfl (Nat.le_of_ble_eq_true rfl) dX12_due_18 rfl rfl ⟨Nat.le_of_ble_eq_true rfl, Nat.le_of_ble_eq_true rfl⟩ ⟨Nat.le_refl _, Nat.le_refl _⟩) hS (fun x_24 iv_20 rv_21 H locs hG fa_22 fb_23 hp_19 hU hS => ?_)
      have hF1 := hF1.tr (m := ([16, 17, 20], [])) fa_22 (by decide)
      have hF2 := hF2.tr (m := ([16, 17, 20], [])) fb_23 (by decide)
      refine lv_goto (tgt := 29) hx hb dX12_due_21 (by decide) ?_
      exact hret (⟨hG, hF1, hF2, trivial⟩) hU hS dX12_due_29
set_option maxHeartbeats 4000000 in
set_option maxRecDepth 100000 in
theorem c_X12_balanceOf {l : Launch} {D : va_G} {cA : FieldType → ClassId} {sz : Nat} {al : Al} {iv : Iv} {rv : Rv} (hG : GI al iv rv) (pp : Int32) (pre0 : 0 ≤ pp.toInt ∧ pp.toInt ≤ 4) : Met l yX12_balanceOf (wd yX12_balanceOf cX12_balanceOf 4 (some .int)) (rm 12) (PcW D cA sz al iv rv [.ref (al.2 0 0), .int pp]) (QI D cA sz al (fI al ([17, 20], []) iv rv (fun r iv' rv' => True))) 0 0 (Aq sz) := by
  refine mk_i (by decide) (Nat.le_of_ble_eq_true rfl) rfl ?_
  intro p e s m args below meth c ls Q H locs C hU hS hl hret
  have hx := C.1.1
  have hb := C.1.2.1
  have hl : lv_has ls 4 [(0, .ref (al.2 0 0)), (1, .int pp)] := hl
  have hG0 := hG
  have h6 := le6 hG
  have h20 := le20 hG
  have h41 := le41 hG
  have h41 := le41 hG
  have h20 := le20 hG
  have hF1 : FR ([17, 20], []) iv iv := FR.rf
  have hF2 : FR ([17, 20], []) rv rv := FR.rf
  have k0 : (0 : Int32).toInt = 0 := by decide
  have k1 : (1 : Int32).toInt = 1 := by decide
  have k5 : (5 : Int32).toInt = 5 := by decide
  refine lv_iconst (v := 0) hx hb dX12_balanceOf_0 (by decide) ?_
  refine lv_istore_n (lv' := [(2, .int 0), (0, .ref (al.2 0 0)), (1, .int pp)]) hx hb dX12_balanceOf_1 rfl hl (by decide) rfl (fun ls hl => ?_)
  refine lv_iconst (v := 0) hx hb dX12_balanceOf_2 (by decide) ?_
  refine lv_istore_n (lv' := [(3, .int 0), (2, .int 0), (0, .ref (al.2 0 0)), (1, .int pp)]) hx hb dX12_balanceOf_3 rfl hl (by decide) rfl (fun ls hl => ?_)
  have J_4 : ∀ (n_4 : Nat) (l2_1 : Int32) (l3_2 : Int32) (iv_3 : Iv) (rv_4 : Rv) (H : Heap) (locs : List Loc) (ls : Array Slot), lv_has ls 4 [(0, .ref (al.2 0 0)), (1, .int pp), (2, .int l2_1), (3, .int l3_2)] → GI al iv_3 rv_4 → FR ([17, 20], []) iv iv_3 → FR ([17, 20], []) rv rv_4 → UW D cA sz al iv_3 rv_4 H → va_S (Aq sz) s.heap H locs → (0 ≤ l3_2.toInt ∧ l3_2.toInt ≤ 30) → (30 - l3_2.toInt).toNat < n_4 → W p l e (rm 12) s m args below meth c H locs 0 0 Q (F0 m 4 ls []) := by
    intro n_4
    induction n_4 with
    | zero =>
      intro l2_1 l3_2 iv_3 rv_4 H locs ls hl hG hF1 hF2 hU hS i4_0 hm_4
      exact absurd hm_4 (Nat.not_lt_zero _)
    | succ n_4 ih_4 =>
      intro l2_1 l3_2 iv_3 rv_4 H locs ls hl hG hF1 hF2 hU hS i4_0 hm_4
      have kf_5 := congrArg Int32.toInt (hF1 0 0 20 (by decide))
      have kf_6 := congrArg Int32.toInt (hF1 0 0 41 (by decide))
      refine lv_iload_n hx hb dX12_balanceOf_4 rfl (lv_at hl 3 rfl) ?_
      refine lv_aload_n hx hb dX12_balanceOf_5 rfl (lv_at hl 0 rfl) ?_
      refine g_0_41 C hU hG (h1_0 hG) fl_X12_275 dX12_balanceOf_6 (fun x_7 e_8 le_8 ue_8 => ?_)
      have te_8 := congrArg Int32.toInt e_8
      have ne_8 : x_7.toInt = (iv 0 0 41).toInt := by rw [e_8, hF1 0 0 41 (by decide)]
      refine b_icmp_ge (tgt := 55) hx hb dX12_balanceOf_9 (by decide) (fun c_9 => ?_) (fun c_9 => ?_)
      ·
        refine lv_iload_n hx hb dX12_balanceOf_55 rfl (lv_at hl 2 rfl) ?_
        exact hret (⟨hG, hF1, hF2, trivial⟩) hU hS dX12_balanceOf_56
      ·
        refine lv_iload_n hx hb dX12_balanceOf_12 rfl (lv_at hl 2 rfl) ?_
        refine lv_aload_n hx hb dX12_balanceOf_13 rfl (lv_at hl 0 rfl) ?_
        refine lv_iload_n hx hb dX12_balanceOf_14 rfl (lv_at hl 3 rfl) ?_
        refine q_pi (q_runV (t := 0) (i := 0) (As := [.int l3_2]) (rest := [.int l2_1]) C hU (c_X12_settledOf hG l3_2 (by omega)) vm_X12_settledOf ml_X12_287 k_0.1 (hc := rfl) rfl (h1_0 hG) hl.1 rfl rfl (Nat.le_of_ble_eq_true rfl) dX12_balanceOf_15 rfl rfl ⟨Nat.le_of_ble_eq_true rfl, Nat.le_of_ble_eq_true rfl⟩ ⟨Nat.le_refl _, Nat.le_refl _⟩) hS (fun x_11 H locs hp_10 hU hS => ?_)
        refine lv_aload_n hx hb dX12_balanceOf_18 rfl (lv_at hl 0 rfl) ?_
        refine lv_iload_n hx hb dX12_balanceOf_19 rfl (lv_at hl 3 rfl) ?_
        refine q_fi (q_runV (t := 0) (i := 0) (As := [.int l3_2]) (rest := [.int x_11, .int l2_1]) C hU (c_X12_worthOf hG l3_2 (by omega)) vm_X12_worthOf ml_X12_284 k_0.1 (hc := rfl) rfl (h1_0 hG) hl.1 rfl rfl (Nat.le_of_ble_eq_true rfl) dX12_balanceOf_20 rfl rfl ⟨Nat.le_of_ble_eq_true rfl, Nat.le_of_ble_eq_true rfl⟩ ⟨Nat.le_refl _, Nat.le_refl _⟩) hS (fun x_17 iv_13 rv_14 H locs hG fa_15 fb_16 hp_12 hU hS => ?_)
        have hF1 := hF1.tr (m := ([17, 20], [])) fa_15 (by decide)
        have hF2 := hF2.tr (m := ([17, 20], [])) fb_16 (by decide)
        have kf_18 := congrArg Int32.toInt (hF1 0 0 20 (by decide))
        have kf_19 := congrArg Int32.toInt (hF1 0 0 41 (by decide))
        have J_47 : ∀ (v_20 : Int32) (iv_21 : Iv) (rv_22 : Rv) (H : Heap) (locs : List Loc) (ls : Array Slot), lv_has ls 4 [(0, .ref (al.2 0 0)), (1, .int pp), (3, .int l3_2)] → GI al iv_21 rv_22 → FR ([17, 20], []) iv iv_21 → FR ([17, 20], []) rv rv_22 → UW D cA sz al iv_21 rv_22 H → va_S (Aq sz) s.heap H locs → W p l e (rm 12) s m args below meth c H locs 0 0 Q (F0 m 47 ls [.int v_20, .int l2_1]) := by
          intro v_20 iv_21 rv_22 H locs ls hl hG hF1 hF2 hU hS
          have kf_23 := congrArg Int32.toInt (hF1 0 0 20 (by decide))
          have kf_24 := congrArg Int32.toInt (hF1 0 0 41 (by decide))
          refine lv_iadd hx hb dX12_balanceOf_47 ?_
          refine lv_topi (fun x_25 e_26 => ?_)
          refine lv_istore_n (lv' := [(2, .int x_25), (0, .ref (al.2 0 0)), (1, .int pp), (3, .int l3_2)]) hx hb dX12_balanceOf_48 rfl hl (by decide) rfl (fun ls hl => ?_)
          obtain ⟨x_27, e_28⟩ : ∃ y : Int32, y = l3_2 + 1 := ⟨_, rfl⟩
          have te_28 : x_27.toInt = (l3_2 : Int32).toInt + (1 : Int32).toInt := by rw [e_28]; exact fb_addI (by omega) (by omega)
          refine lv_iinc (v := x_27) (lv' := [(3, .int x_27), (2, .int x_25), (0, .ref (al.2 0 0)), (1, .int pp)]) hx hb dX12_balanceOf_49 hl (k := 3) rfl (by rw [e_28]; rfl) (by decide) rfl (fun ls hl => ?_)
          refine lv_goto (tgt := 4) hx hb dX12_balanceOf_52 (by decide) ?_
          exact ih_4 x_25 x_27 _ _ _ _ _ (lv_sub hl [2, 3, 1, 0] rfl) hG hF1 hF2 hU hS (by omega) (by omega)
        refine b_icmp_lt (tgt := 46) hx hb dX12_balanceOf_23 (by decide) (fun c_29 => ?_) (fun c_29 => ?_)
        ·
          refine lv_iconst (v := 0) hx hb dX12_balanceOf_46 (by decide) ?_
          exact J_47 0 _ _ _ _ _ (lv_sub hl [0, 1, 3] rfl) hG hF1 hF2 hU hS
        ·
          refine lv_aload_n hx hb dX12_balanceOf_26 rfl (lv_at hl 0 rfl) ?_
          refine g_0_45 C hU hG (h1_0 hG) fl_X12_122 dX12_balanceOf_27 ?_
          refine lv_iconst (v := 5) hx hb dX12_balanceOf_30 (by decide) ?_
          refine lv_iload_n hx hb dX12_balanceOf_31 rfl (lv_at hl 3 rfl) ?_
          refine lv_imul hx hb dX12_balanceOf_32 ?_
          refine lv_topi (fun x_30 e_31 => ?_)
          have te_31 : x_30.toInt = 5 * (l3_2 : Int32).toInt := by rw [e_31, fb_mulI (by rw [show (5 : Int32).toInt = 5 from by decide]; omega) (by rw [show (5 : Int32).toInt = 5 from by decide]; omega), show (5 : Int32).toInt = 5 from by decide]
          refine lv_iload_n hx hb dX12_balanceOf_33 rfl (lv_at hl 1 rfl) ?_
          refine lv_iadd hx hb dX12_balanceOf_34 ?_
          refine lv_topi (fun x_32 e_33 => ?_)
          have te_33 : x_32.toInt = (x_30 : Int32).toInt + (pp : Int32).toInt := by rw [e_33]; exact fb_addI (by omega) (by omega)
          refine a_38 C hU hG (h1_38 hG) (x := x_32) (by omega) (by omega) dX12_balanceOf_35 (fun x_34 e_35 => ?_)
          have te_35 := congrArg Int32.toInt e_35
          have ne_35 : x_34.toInt = (iv 38 0 (x_32 : Int32).toNatClampNeg).toInt := by rw [e_35, hF1.arr 38 0 (x_32 : Int32).toNatClampNeg (by decide)]
          refine lv_aload_n hx hb dX12_balanceOf_36 rfl (lv_at hl 0 rfl) ?_
          refine lv_iload_n hx hb dX12_balanceOf_37 rfl (lv_at hl 3 rfl) ?_
          refine lv_iload_n hx hb dX12_balanceOf_38 rfl (lv_at hl 1 rfl) ?_
          refine q_fi (q_runV (t := 0) (i := 0) (As := [.int l3_2, .int pp]) (rest := [.int x_34, .int l2_1]) C hU (c_X12_dueOf hG l3_2 pp (by omega) (by omega)) vm_X12_dueOf ml_X12_294 k_0.1 (hc := rfl) rfl (h1_0 hG) hl.1 rfl rfl (Nat.le_of_ble_eq_true rfl) dX12_balanceOf_39 rfl rfl ⟨Nat.le_of_ble_eq_true rfl, Nat.le_of_ble_eq_true rfl⟩ ⟨Nat.le_refl _, Nat.le_refl _⟩) hS (fun x_41 iv_37 rv_38 H locs hG fa_39 fb_40 hp_36 hU hS => ?_)
          have hF1 := hF1.tr (m := ([17, 20], [])) fa_39 (by decide)
          have hF2 := hF2.tr (m := ([17, 20], [])) fb_40 (by decide)
          have kf_42 := congrArg Int32.toInt (hF1 0 0 20 (by decide))
          have kf_43 := congrArg Int32.toInt (hF1 0 0 41 (by decide))
          refine lv_isub hx hb dX12_balanceOf_42 ?_
          refine lv_topi (fun x_44 e_45 => ?_)
          refine lv_goto (tgt := 47) hx hb dX12_balanceOf_43 (by decide) ?_
          exact J_47 x_44 _ _ _ _ _ (lv_sub hl [0, 1, 3] rfl) hG hF1 hF2 hU hS
  exact J_4 _ 0 0 _ _ _ _ _ (lv_sub hl [2, 3, 1, 0] rfl) hG hF1 hF2 hU hS (by omega) (Nat.lt_succ_self _)
set_option maxHeartbeats 4000000 in
set_option maxRecDepth 100000 in
theorem c_X12_balance {l : Launch} {D : va_G} {cA : FieldType → ClassId} {sz : Nat} {al : Al} {iv : Iv} {rv : Rv} (hG : GI al iv rv) (pp : Int32) : Met l yX12_balance (wd yX12_balance cX12_balance 2 (some .int)) (rm 13) (PcW D cA sz al iv rv [.ref (al.2 0 0), .int pp]) (QI D cA sz al (fI al ([16, 17, 20], []) iv rv (fun r iv' rv' => True))) 0 0 (Aq sz) := by
  refine mk_i (by decide) (Nat.le_of_ble_eq_true rfl) rfl ?_
  intro p e s m args below meth c ls Q H locs C hU hS hl hret
  have hx := C.1.1
  have hb := C.1.2.1
  have hl : lv_has ls 2 [(0, .ref (al.2 0 0)), (1, .int pp)] := hl
  have hG0 := hG
  have h6 := le6 hG
  have h20 := le20 hG
  have h41 := le41 hG
  have hF1 : FR ([16, 17, 20], []) iv iv := FR.rf
  have hF2 : FR ([16, 17, 20], []) rv rv := FR.rf
  have km1 : ((-1) : Int32).toInt = -1 := by decide
  refine lv_iload_n hx hb dX12_balance_0 rfl (lv_at hl 1 rfl) ?_
  refine q_pi (q_runS (As := [.int pp]) (rest := []) C hU (c_X12_isPayer  pp ) sm_X12_isPayer ml_X12_290 hl.1 rfl rfl (Nat.le_of_ble_eq_true rfl) dX12_balance_1 rfl rfl ⟨Nat.le_of_ble_eq_true rfl, Nat.le_of_ble_eq_true rfl⟩ ⟨Nat.le_refl _, Nat.le_refl _⟩) hS (fun x_2 H locs hp_1 hU hS => ?_)
  refine b_if_eq (tgt := 15) hx hb dX12_balance_4 (by decide) (fun c_3 => ?_) (fun c_3 => ?_)
  ·
    refine lv_aload_n hx hb dX12_balance_15 rfl (lv_at hl 0 rfl) ?_
    refine lv_iconst (v := (-1)) hx hb dX12_balance_16 (by decide) ?_
    refine q_fi (q_runV (t := 0) (i := 0) (As := [.int (-1)]) (rest := []) C hU (c_X12_refuseFar hG (-1) (by omega)) vm_X12_refuseFar ml_X12_178 k_0.1 (hc := rfl) rfl (h1_0 hG) hl.1 rfl rfl (Nat.le_of_ble_eq_true rfl) dX12_balance_17 rfl rfl ⟨Nat.le_of_ble_eq_true rfl, Nat.le_of_ble_eq_true rfl⟩ ⟨Nat.le_refl _, Nat.le_refl _⟩) hS (fun x_9 iv_5 rv_6 H locs hG fa_7 fb_8 hp_4 hU hS => ?_)
    have hF1 := hF1.tr (m := ([16, 17, 20], [])) fa_7 (by decide)
    have hF2 := hF2.tr (m := ([16, 17, 20], [])) fb_8 (by decide)
    exact hret (⟨hG, hF1, hF2, trivial⟩) hU hS dX12_balance_20
  ·
    refine lv_aload_n hx hb dX12_balance_7 rfl (lv_at hl 0 rfl) ?_
    refine lv_iload_n hx hb dX12_balance_8 rfl (lv_at hl 1 rfl) ?_
    refine q_fi (q_runV (t := 0) (i := 0) (As := [.int pp]) (rest := []) C hU (c_X12_balanceOf hG pp (by omega)) vm_X12_balanceOf ml_X12_297 k_0.1 (hc := rfl) rfl (h1_0 hG) hl.1 rfl rfl (Nat.le_of_ble_eq_true rfl) dX12_balance_9 rfl rfl ⟨Nat.le_of_ble_eq_true rfl, Nat.le_of_ble_eq_true rfl⟩ ⟨Nat.le_refl _, Nat.le_refl _⟩) hS (fun x_15 iv_11 rv_12 H locs hG fa_13 fb_14 hp_10 hU hS => ?_)
    have hF1 := hF1.tr (m := ([16, 17, 20], [])) fa_13 (by decide)
    have hF2 := hF2.tr (m := ([16, 17, 20], [])) fb_14 (by decide)
    refine lv_goto (tgt := 20) hx hb dX12_balance_12 (by decide) ?_
    exact hret (⟨hG, hF1, hF2, trivial⟩) hU hS dX12_balance_20
set_option maxHeartbeats 4000000 in
set_option maxRecDepth 100000 in
theorem c_X12_back {l : Launch} {D : va_G} {cA : FieldType → ClassId} {sz : Nat} {al : Al} {iv : Iv} {rv : Rv} (hG : GI al iv rv) : Met l yX12_back (wd yX12_back cX12_back 6 (some .int)) (rm 13) (PcW D cA sz al iv rv [.ref (al.2 0 0)]) (QI D cA sz al (fI al ([17, 20, 39, 40], []) iv rv (fun r iv' rv' => True))) 0 0 (Aq sz) := by
  refine mk_i (by decide) (Nat.le_of_ble_eq_true rfl) rfl ?_
  intro p e s m args below meth c ls Q H locs C hU hS hl hret
  have hx := C.1.1
  have hb := C.1.2.1
  have hl : lv_has ls 6 [(0, .ref (al.2 0 0))] := hl
  have hG0 := hG
  have h6 := le6 hG
  have h20 := le20 hG
  have h41 := le41 hG
  have hF1 : FR ([17, 20, 39, 40], []) iv iv := FR.rf
  have hF2 : FR ([17, 20, 39, 40], []) rv rv := FR.rf
  have km9 : ((-9) : Int32).toInt = -9 := by decide
  have km1 : ((-1) : Int32).toInt = -1 := by decide
  have k0 : (0 : Int32).toInt = 0 := by decide
  have k1 : (1 : Int32).toInt = 1 := by decide
  have k5 : (5 : Int32).toInt = 5 := by decide
  have k31 : (31 : Int32).toInt = 31 := by decide
  have k32 : (32 : Int32).toInt = 32 := by decide
  refine lv_iconst (v := 0) hx hb dX12_back_0 (by decide) ?_
  refine lv_istore_n (lv' := [(1, .int 0), (0, .ref (al.2 0 0))]) hx hb dX12_back_1 rfl hl (by decide) rfl (fun ls hl => ?_)
  refine lv_iconst (v := 0) hx hb dX12_back_2 (by decide) ?_
  refine lv_istore_n (lv' := [(2, .int 0), (1, .int 0), (0, .ref (al.2 0 0))]) hx hb dX12_back_3 rfl hl (by decide) rfl (fun ls hl => ?_)
  have J_4 : ∀ (n_4 : Nat) (l1_1 : Int32) (l2_2 : Int32) (iv_3 : Iv) (rv_4 : Rv) (H : Heap) (locs : List Loc) (ls : Array Slot), lv_has ls 6 [(0, .ref (al.2 0 0)), (1, .int l1_1), (2, .int l2_2)] → GI al iv_3 rv_4 → FR ([17, 20, 39, 40], []) iv iv_3 → FR ([17, 20, 39, 40], []) rv rv_4 → UW D cA sz al iv_3 rv_4 H → va_S (Aq sz) s.heap H locs → (0 ≤ l2_2.toInt ∧ l2_2.toInt ≤ 5) → (5 - l2_2.toInt).toNat < n_4 → W p l e (rm 13) s m args below meth c H locs 0 0 Q (F0 m 4 ls []) := by
    intro n_4
    induction n_4 with
    | zero =>
      intro l1_1 l2_2 iv_3 rv_4 H locs ls hl hG hF1 hF2 hU hS i4_0 hm_4
      exact absurd hm_4 (Nat.not_lt_zero _)
    | succ n_4 ih_4 =>
      intro l1_1 l2_2 iv_3 rv_4 H locs ls hl hG hF1 hF2 hU hS i4_0 hm_4
      refine lv_iload_n hx hb dX12_back_4 rfl (lv_at hl 2 rfl) ?_
      refine lv_iconst (v := 5) hx hb dX12_back_5 (by decide) ?_
      refine b_icmp_ge (tgt := 87) hx hb dX12_back_6 (by decide) (fun c_5 => ?_) (fun c_5 => ?_)
      ·
        refine lv_aload_n hx hb dX12_back_87 rfl (lv_at hl 0 rfl) ?_
        refine g_0_46 C hU hG (h1_0 hG) fl_X12_125 dX12_back_88 ?_
        refine lv_bipush (v := 31) hx hb dX12_back_91 (by decide) ?_
        refine a_39 C hU hG (h1_39 hG) (x := 31) (by omega) (by omega) dX12_back_93 (fun x_6 e_7 => ?_)
        have te_7 := congrArg Int32.toInt e_7
        refine b_if_eq (tgt := 100) hx hb dX12_back_94 (by decide) (fun c_8 => ?_) (fun c_8 => ?_)
        ·
          refine lv_iconst (v := 5) hx hb dX12_back_100 (by decide) ?_
          refine lv_iload_n hx hb dX12_back_101 rfl (lv_at hl 1 rfl) ?_
          refine lv_isub hx hb dX12_back_102 ?_
          refine lv_topi (fun x_9 e_10 => ?_)
          refine lv_istore_n (lv' := [(2, .int x_9), (0, .ref (al.2 0 0)), (1, .int l1_1)]) hx hb dX12_back_103 rfl hl (by decide) rfl (fun ls hl => ?_)
          refine lv_aload_n hx hb dX12_back_104 rfl (lv_at hl 1 rfl) ?_
          refine g_0_47 C hU hG (h1_0 hG) fl_X12_128 dX12_back_105 ?_
          refine lv_iconst (v := 0) hx hb dX12_back_108 (by decide) ?_
          refine lv_iconst (v := 0) hx hb dX12_back_109 (by decide) ?_
          refine s_40 C hU hS (h1_40 hG) (x := 0) (by omega) (by omega) dX12_back_110 (fun iv_11 H locs ei_12 hU hS => ?_)
          have hG : GI al iv_11 rv_4 := by rw [ei_12]; exact hG.puti (show _ ∧ _ from ⟨(fb_rng _).1, Int.le_of_lt_add_one (fb_rng _).2⟩) (nsA (by decide) _)
          have hF1 : FR ([17, 20, 39, 40], []) iv iv_11 := by rw [ei_12]; exact hF1.put (Or.inl (by decide))
          refine lv_iconst (v := 1) hx hb dX12_back_111 (by decide) ?_
          refine lv_istore_n (lv' := [(3, .int 1), (2, .int x_9), (0, .ref (al.2 0 0)), (1, .int l1_1)]) hx hb dX12_back_112 rfl hl (by decide) rfl (fun ls hl => ?_)
          have J_113 : ∀ (n_113 : Nat) (l3_13 : Int32) (iv_14 : Iv) (rv_15 : Rv) (H : Heap) (locs : List Loc) (ls : Array Slot), lv_has ls 6 [(0, .ref (al.2 0 0)), (1, .int l1_1), (2, .int x_9), (3, .int l3_13)] → GI al iv_14 rv_15 → FR ([17, 20, 39, 40], []) iv iv_14 → FR ([17, 20, 39, 40], []) rv rv_15 → UW D cA sz al iv_14 rv_15 H → va_S (Aq sz) s.heap H locs → (1 ≤ l3_13.toInt ∧ l3_13.toInt ≤ 32) → (32 - l3_13.toInt).toNat < n_113 → W p l e (rm 13) s m args below meth c H locs 0 0 Q (F0 m 113 ls []) := by
            intro n_113
            induction n_113 with
            | zero =>
              intro l3_13 iv_14 rv_15 H locs ls hl hG hF1 hF2 hU hS i113_0 hm_113
              exact absurd hm_113 (Nat.not_lt_zero _)
            | succ n_113 ih_113 =>
              intro l3_13 iv_14 rv_15 H locs ls hl hG hF1 hF2 hU hS i113_0 hm_113
              refine lv_iload_n hx hb dX12_back_113 rfl (lv_at hl 3 rfl) ?_
              refine lv_bipush (v := 32) hx hb dX12_back_114 (by decide) ?_
              refine b_icmp_ge (tgt := 242) hx hb dX12_back_116 (by decide) (fun c_16 => ?_) (fun c_16 => ?_)
              ·
                refine lv_iload_n hx hb dX12_back_242 rfl (lv_at hl 1 rfl) ?_
                refine lv_aload_n hx hb dX12_back_243 rfl (lv_at hl 0 rfl) ?_
                refine g_0_47 C hU hG (h1_0 hG) fl_X12_128 dX12_back_244 ?_
                refine lv_bipush (v := 31) hx hb dX12_back_247 (by decide) ?_
                refine a_40 C hU hG (h1_40 hG) (x := 31) (by omega) (by omega) dX12_back_249 (fun x_17 e_18 => ?_)
                have te_18 := congrArg Int32.toInt e_18
                refine lv_iload_n hx hb dX12_back_250 rfl (lv_at hl 2 rfl) ?_
                refine lv_isub hx hb dX12_back_251 ?_
                refine lv_topi (fun x_19 e_20 => ?_)
                refine lv_isub hx hb dX12_back_252 ?_
                refine lv_topi (fun x_21 e_22 => ?_)
                exact hret (⟨hG, hF1, hF2, trivial⟩) hU hS dX12_back_253
              ·
                refine lv_aload_n hx hb dX12_back_119 rfl (lv_at hl 0 rfl) ?_
                refine g_0_47 C hU hG (h1_0 hG) fl_X12_128 dX12_back_120 ?_
                refine lv_iload_n hx hb dX12_back_123 rfl (lv_at hl 3 rfl) ?_
                refine lv_iconst (v := (-1)) hx hb dX12_back_124 (by decide) ?_
                refine s_40 C hU hS (h1_40 hG) (x := l3_13) (by omega) (by omega) dX12_back_125 (fun iv_23 H locs ei_24 hU hS => ?_)
                have hG : GI al iv_23 rv_15 := by rw [ei_24]; exact hG.puti (show _ ∧ _ from ⟨(fb_rng _).1, Int.le_of_lt_add_one (fb_rng _).2⟩) (nsA (by decide) _)
                have hF1 : FR ([17, 20, 39, 40], []) iv iv_23 := by rw [ei_24]; exact hF1.put (Or.inl (by decide))
                refine lv_iconst (v := 1) hx hb dX12_back_126 (by decide) ?_
                refine lv_istore (lv' := [(4, .int 1), (0, .ref (al.2 0 0)), (1, .int l1_1), (2, .int x_9), (3, .int l3_13)]) hx hb dX12_back_127 hl (by decide) rfl (fun ls hl => ?_)
                have J_129 : ∀ (n_129 : Nat) (l4_25 : Int32) (iv_26 : Iv) (rv_27 : Rv) (H : Heap) (locs : List Loc) (ls : Array Slot), lv_has ls 6 [(0, .ref (al.2 0 0)), (1, .int l1_1), (2, .int x_9), (3, .int l3_13), (4, .int l4_25)] → GI al iv_26 rv_27 → FR ([17, 20, 39, 40], []) iv iv_26 → FR ([17, 20, 39, 40], []) rv rv_27 → UW D cA sz al iv_26 rv_27 H → va_S (Aq sz) s.heap H locs → (1 ≤ l4_25.toInt ∧ l4_25.toInt ≤ 33) → (33 - l4_25.toInt).toNat < n_129 → W p l e (rm 13) s m args below meth c H locs 0 0 Q (F0 m 129 ls []) := by
                  intro n_129
                  induction n_129 with
                  | zero =>
                    intro l4_25 iv_26 rv_27 H locs ls hl hG hF1 hF2 hU hS i129_0 hm_129
                    exact absurd hm_129 (Nat.not_lt_zero _)
                  | succ n_129 ih_129 =>
                    intro l4_25 iv_26 rv_27 H locs ls hl hG hF1 hF2 hU hS i129_0 hm_129
                    refine lv_iload hx hb dX12_back_129 (lv_at hl 4 rfl) ?_
                    refine lv_iload_n hx hb dX12_back_131 rfl (lv_at hl 3 rfl) ?_
                    refine b_icmp_gt (tgt := 236) hx hb dX12_back_132 (by decide) (fun c_28 => ?_) (fun c_28 => ?_)
                    ·
                      obtain ⟨x_29, e_30⟩ : ∃ y : Int32, y = l3_13 + 1 := ⟨_, rfl⟩
                      have te_30 : x_29.toInt = (l3_13 : Int32).toInt + (1 : Int32).toInt := by rw [e_30]; exact fb_addI (by omega) (by omega)
                      refine lv_iinc (v := x_29) (lv' := [(3, .int x_29), (0, .ref (al.2 0 0)), (1, .int l1_1), (2, .int x_9), (4, .int l4_25)]) hx hb dX12_back_236 hl (k := 3) rfl (by rw [e_30]; rfl) (by decide) rfl (fun ls hl => ?_)
                      refine lv_goto (tgt := 113) hx hb dX12_back_239 (by decide) ?_
                      exact ih_113 x_29 _ _ _ _ _ (lv_sub hl [1, 2, 3, 0] rfl) hG hF1 hF2 hU hS (by omega) (by omega)
                    ·
                      refine lv_iload hx hb dX12_back_135 (lv_at hl 4 rfl) ?_
                      refine lv_iload_n hx hb dX12_back_137 rfl (lv_at hl 3 rfl) ?_
                      refine lv_iconst (v := (-1)) hx hb dX12_back_138 (by decide) ?_
                      refine lv_ixor hx hb dX12_back_139 ?_
                      refine lv_topi (fun x_31 e_32 => ?_)
                      refine lv_iand hx hb dX12_back_140 ?_
                      refine lv_topi (fun x_33 e_34 => ?_)
                      have te_34 : 0 ≤ x_33.toInt ∧ x_33.toInt ≤ (l4_25 : Int32).toInt := by rw [e_34]; exact and_rng (by omega)
                      have J_173 : ∀ (v_35 : Int32) (ls : Array Slot), lv_has ls 6 [(0, .ref (al.2 0 0)), (1, .int l1_1), (2, .int x_9), (3, .int l3_13), (4, .int l4_25)] → (0 ≤ v_35.toInt ∧ v_35.toInt ≤ 1) → W p l e (rm 13) s m args below meth c H locs 0 0 Q (F0 m 173 ls [.int v_35]) := by
                        intro v_35 ls hl i173_0
                        refine lv_istore (lv' := [(5, .int v_35), (0, .ref (al.2 0 0)), (1, .int l1_1), (2, .int x_9), (3, .int l3_13), (4, .int l4_25)]) hx hb dX12_back_173 hl (by decide) rfl (fun ls hl => ?_)
                        refine lv_aload_n hx hb dX12_back_175 rfl (lv_at hl 1 rfl) ?_
                        refine g_0_47 C hU hG (h1_0 hG) fl_X12_128 dX12_back_176 ?_
                        refine lv_iload_n hx hb dX12_back_179 rfl (lv_at hl 4 rfl) ?_
                        refine lv_iload hx hb dX12_back_180 (lv_at hl 0 rfl) ?_
                        have J_229 : ∀ (v_36 : Int32) (ls : Array Slot), lv_has ls 6 [(0, .ref (al.2 0 0)), (1, .int l1_1), (2, .int x_9), (3, .int l3_13), (4, .int l4_25)] → W p l e (rm 13) s m args below meth c H locs 0 0 Q (F0 m 229 ls [.int v_36, .int l3_13, .ref (al.2 40 0)]) := by
                          intro v_36 ls hl
                          refine s_40 C hU hS (h1_40 hG) (x := l3_13) (by omega) (by omega) dX12_back_229 (fun iv_37 H locs ei_38 hU hS => ?_)
                          have hG : GI al iv_37 rv_27 := by rw [ei_38]; exact hG.puti (show _ ∧ _ from ⟨(fb_rng _).1, Int.le_of_lt_add_one (fb_rng _).2⟩) (nsA (by decide) _)
                          have hF1 : FR ([17, 20, 39, 40], []) iv iv_37 := by rw [ei_38]; exact hF1.put (Or.inl (by decide))
                          obtain ⟨x_39, e_40⟩ : ∃ y : Int32, y = l4_25 + 1 := ⟨_, rfl⟩
                          have te_40 : x_39.toInt = (l4_25 : Int32).toInt + (1 : Int32).toInt := by rw [e_40]; exact fb_addI (by omega) (by omega)
                          refine lv_iinc (v := x_39) (lv' := [(4, .int x_39), (0, .ref (al.2 0 0)), (1, .int l1_1), (2, .int x_9), (3, .int l3_13)]) hx hb dX12_back_230 hl (k := 4) rfl (by rw [e_40]; rfl) (by decide) rfl (fun ls hl => ?_)
                          refine lv_goto (tgt := 129) hx hb dX12_back_233 (by decide) ?_
                          exact ih_129 x_39 _ _ _ _ _ (lv_sub hl [1, 2, 3, 4, 0] rfl) hG hF1 hF2 hU hS (by omega) (by omega)
                        have J_223 : ∀ (ls : Array Slot), lv_has ls 6 [(0, .ref (al.2 0 0)), (1, .int l1_1), (2, .int x_9), (3, .int l3_13), (4, .int l4_25)] → W p l e (rm 13) s m args below meth c H locs 0 0 Q (F0 m 223 ls [.int l3_13, .ref (al.2 40 0)]) := by
                          intro ls hl
                          refine lv_aload_n hx hb dX12_back_223 rfl (lv_at hl 0 rfl) ?_
                          refine g_0_47 C hU hG (h1_0 hG) fl_X12_128 dX12_back_224 ?_
                          refine lv_iload_n hx hb dX12_back_227 rfl (lv_at hl 3 rfl) ?_
                          refine a_40 C hU hG (h1_40 hG) (x := l3_13) (by omega) (by omega) dX12_back_228 (fun x_41 e_42 => ?_)
                          have te_42 := congrArg Int32.toInt e_42
                          exact J_229 x_41 _ (lv_sub hl [0, 1, 2, 3, 4] rfl)
                        refine b_if_eq (tgt := 223) hx hb dX12_back_182 (by decide) (fun c_43 => ?_) (fun c_43 => ?_)
                        ·
                          exact J_223 _ (lv_sub hl [1, 2, 3, 4, 5] rfl)
                        ·
                          refine lv_aload_n hx hb dX12_back_185 rfl (lv_at hl 1 rfl) ?_
                          refine g_0_47 C hU hG (h1_0 hG) fl_X12_128 dX12_back_186 ?_
                          refine lv_iload_n hx hb dX12_back_189 rfl (lv_at hl 4 rfl) ?_
                          refine lv_iload hx hb dX12_back_190 (lv_at hl 5 rfl) ?_
                          refine lv_iconst (v := (-1)) hx hb dX12_back_192 (by decide) ?_
                          refine lv_ixor hx hb dX12_back_193 ?_
                          refine lv_topi (fun x_44 e_45 => ?_)
                          refine lv_iand hx hb dX12_back_194 ?_
                          refine lv_topi (fun x_46 e_47 => ?_)
                          have te_47 : 0 ≤ x_46.toInt ∧ x_46.toInt ≤ (l3_13 : Int32).toInt := by rw [e_47]; exact and_rng (by omega)
                          refine a_40 C hU hG (h1_40 hG) (x := x_46) (by omega) (by omega) dX12_back_195 (fun x_48 e_49 => ?_)
                          have te_49 := congrArg Int32.toInt e_49
                          refine lv_iconst (v := 1) hx hb dX12_back_196 (by decide) ?_
                          refine lv_iadd hx hb dX12_back_197 ?_
                          refine lv_topi (fun x_50 e_51 => ?_)
                          refine lv_aload_n hx hb dX12_back_198 rfl (lv_at hl 1 rfl) ?_
                          refine g_0_47 C hU hG (h1_0 hG) fl_X12_128 dX12_back_199 ?_
                          refine lv_iload_n hx hb dX12_back_202 rfl (lv_at hl 4 rfl) ?_
                          refine a_40 C hU hG (h1_40 hG) (x := l3_13) (by omega) (by omega) dX12_back_203 (fun x_52 e_53 => ?_)
                          have te_53 := congrArg Int32.toInt e_53
                          refine b_icmp_le (tgt := 223) hx hb dX12_back_204 (by decide) (fun c_54 => ?_) (fun c_54 => ?_)
                          ·
                            exact J_223 _ (lv_sub hl [1, 2, 3, 4, 5] rfl)
                          ·
                            refine lv_aload_n hx hb dX12_back_207 rfl (lv_at hl 1 rfl) ?_
                            refine g_0_47 C hU hG (h1_0 hG) fl_X12_128 dX12_back_208 ?_
                            refine lv_iload_n hx hb dX12_back_211 rfl (lv_at hl 4 rfl) ?_
                            refine lv_iload hx hb dX12_back_212 (lv_at hl 5 rfl) ?_
                            refine lv_iconst (v := (-1)) hx hb dX12_back_214 (by decide) ?_
                            refine lv_ixor hx hb dX12_back_215 ?_
                            refine lv_topi (fun x_55 e_56 => ?_)
                            refine lv_iand hx hb dX12_back_216 ?_
                            refine lv_topi (fun x_57 e_58 => ?_)
                            have te_58 : 0 ≤ x_57.toInt ∧ x_57.toInt ≤ (l3_13 : Int32).toInt := by rw [e_58]; exact and_rng (by omega)
                            refine a_40 C hU hG (h1_40 hG) (x := x_57) (by omega) (by omega) dX12_back_217 (fun x_59 e_60 => ?_)
                            have te_60 := congrArg Int32.toInt e_60
                            refine lv_iconst (v := 1) hx hb dX12_back_218 (by decide) ?_
                            refine lv_iadd hx hb dX12_back_219 ?_
                            refine lv_topi (fun x_61 e_62 => ?_)
                            refine lv_goto (tgt := 229) hx hb dX12_back_220 (by decide) ?_
                            exact J_229 x_61 _ (lv_sub hl [1, 2, 3, 4, 5] rfl)
                      have J_172 : ∀ (ls : Array Slot), lv_has ls 6 [(0, .ref (al.2 0 0)), (1, .int l1_1), (2, .int x_9), (3, .int l3_13), (4, .int l4_25)] → W p l e (rm 13) s m args below meth c H locs 0 0 Q (F0 m 172 ls []) := by
                        intro ls hl
                        refine lv_iconst (v := 0) hx hb dX12_back_172 (by decide) ?_
                        exact J_173 0 _ (lv_sub hl [0, 1, 2, 3, 4] rfl) (by omega)
                      refine b_if_ne (tgt := 172) hx hb dX12_back_141 (by decide) (fun c_63 => ?_) (fun c_63 => ?_)
                      ·
                        exact J_172 _ (lv_sub hl [0, 1, 2, 3, 4] rfl)
                      ·
                        refine lv_aload_n hx hb dX12_back_144 rfl (lv_at hl 0 rfl) ?_
                        refine g_0_46 C hU hG (h1_0 hG) fl_X12_125 dX12_back_145 ?_
                        refine lv_iload hx hb dX12_back_148 (lv_at hl 4 rfl) ?_
                        refine a_39 C hU hG (h1_39 hG) (x := l4_25) (by omega) (by omega) dX12_back_150 (fun x_64 e_65 => ?_)
                        have te_65 := congrArg Int32.toInt e_65
                        refine b_if_ne (tgt := 172) hx hb dX12_back_151 (by decide) (fun c_66 => ?_) (fun c_66 => ?_)
                        ·
                          exact J_172 _ (lv_sub hl [0, 1, 2, 3, 4] rfl)
                        ·
                          refine lv_aload_n hx hb dX12_back_154 rfl (lv_at hl 0 rfl) ?_
                          refine g_0_47 C hU hG (h1_0 hG) fl_X12_128 dX12_back_155 ?_
                          refine lv_iload_n hx hb dX12_back_158 rfl (lv_at hl 3 rfl) ?_
                          refine lv_iload hx hb dX12_back_159 (lv_at hl 4 rfl) ?_
                          refine lv_iconst (v := (-1)) hx hb dX12_back_161 (by decide) ?_
                          refine lv_ixor hx hb dX12_back_162 ?_
                          refine lv_topi (fun x_67 e_68 => ?_)
                          refine lv_iand hx hb dX12_back_163 ?_
                          refine lv_topi (fun x_69 e_70 => ?_)
                          have te_70 : 0 ≤ x_69.toInt ∧ x_69.toInt ≤ (l3_13 : Int32).toInt := by rw [e_70]; exact and_rng (by omega)
                          refine a_40 C hU hG (h1_40 hG) (x := x_69) (by omega) (by omega) dX12_back_164 (fun x_71 e_72 => ?_)
                          have te_72 := congrArg Int32.toInt e_72
                          refine b_if_lt (tgt := 172) hx hb dX12_back_165 (by decide) (fun c_73 => ?_) (fun c_73 => ?_)
                          ·
                            exact J_172 _ (lv_sub hl [0, 1, 2, 3, 4] rfl)
                          ·
                            refine lv_iconst (v := 1) hx hb dX12_back_168 (by decide) ?_
                            refine lv_goto (tgt := 173) hx hb dX12_back_169 (by decide) ?_
                            exact J_173 1 _ (lv_sub hl [0, 1, 2, 3, 4] rfl) (by omega)
                exact J_129 _ 1 _ _ _ _ _ (lv_sub hl [1, 2, 3, 4, 0] rfl) hG hF1 hF2 hU hS (by omega) (Nat.lt_succ_self _)
          exact J_113 _ 1 _ _ _ _ _ (lv_sub hl [2, 3, 1, 0] rfl) hG hF1 hF2 hU hS (by omega) (Nat.lt_succ_self _)
        ·
          refine lv_bipush (v := (-9)) hx hb dX12_back_97 (by decide) ?_
          exact hret (⟨hG, hF1, hF2, trivial⟩) hU hS dX12_back_99
      ·
        refine lv_aload_n hx hb dX12_back_9 rfl (lv_at hl 0 rfl) ?_
        refine lv_iload_n hx hb dX12_back_10 rfl (lv_at hl 2 rfl) ?_
        refine q_fi (q_runV (t := 0) (i := 0) (As := [.int l2_2]) (rest := []) C hU (c_X12_balanceOf hG l2_2 (by omega)) vm_X12_balanceOf ml_X12_297 k_0.1 (hc := rfl) rfl (h1_0 hG) hl.1 rfl rfl (Nat.le_of_ble_eq_true rfl) dX12_back_11 rfl rfl ⟨Nat.le_of_ble_eq_true rfl, Nat.le_of_ble_eq_true rfl⟩ ⟨Nat.le_refl _, Nat.le_refl _⟩) hS (fun x_79 iv_75 rv_76 H locs hG fa_77 fb_78 hp_74 hU hS => ?_)
        have hF1 := hF1.tr (m := ([17, 20, 39, 40], [])) fa_77 (by decide)
        have hF2 := hF2.tr (m := ([17, 20, 39, 40], [])) fb_78 (by decide)
        refine lv_istore_n (lv' := [(3, .int x_79), (0, .ref (al.2 0 0)), (1, .int l1_1), (2, .int l2_2)]) hx hb dX12_back_14 rfl hl (by decide) rfl (fun ls hl => ?_)
        refine lv_iload_n hx hb dX12_back_15 rfl (lv_at hl 2 rfl) ?_
        refine lv_iload_n hx hb dX12_back_16 rfl (lv_at hl 0 rfl) ?_
        have J_25 : ∀ (v_80 : Int32) (ls : Array Slot), lv_has ls 6 [(0, .ref (al.2 0 0)), (2, .int l2_2), (3, .int x_79)] → (0 ≤ v_80.toInt ∧ v_80.toInt ≤ 1) → W p l e (rm 13) s m args below meth c H locs 0 0 Q (F0 m 25 ls [.int v_80, .int l1_1]) := by
          intro v_80 ls hl i25_0
          refine lv_iadd hx hb dX12_back_25 ?_
          refine lv_topi (fun x_81 e_82 => ?_)
          refine lv_istore_n (lv' := [(1, .int x_81), (0, .ref (al.2 0 0)), (2, .int l2_2), (3, .int x_79)]) hx hb dX12_back_26 rfl hl (by decide) rfl (fun ls hl => ?_)
          refine lv_iconst (v := 0) hx hb dX12_back_27 (by decide) ?_
          refine lv_istore (lv' := [(4, .int 0), (1, .int x_81), (0, .ref (al.2 0 0)), (2, .int l2_2), (3, .int x_79)]) hx hb dX12_back_28 hl (by decide) rfl (fun ls hl => ?_)
          have J_30 : ∀ (n_30 : Nat) (l4_83 : Int32) (iv_84 : Iv) (rv_85 : Rv) (H : Heap) (locs : List Loc) (ls : Array Slot), lv_has ls 6 [(0, .ref (al.2 0 0)), (1, .int x_81), (2, .int l2_2), (3, .int x_79), (4, .int l4_83)] → GI al iv_84 rv_85 → FR ([17, 20, 39, 40], []) iv iv_84 → FR ([17, 20, 39, 40], []) rv rv_85 → UW D cA sz al iv_84 rv_85 H → va_S (Aq sz) s.heap H locs → (0 ≤ l4_83.toInt ∧ l4_83.toInt ≤ 32) → (32 - l4_83.toInt).toNat < n_30 → W p l e (rm 13) s m args below meth c H locs 0 0 Q (F0 m 30 ls []) := by
            intro n_30
            induction n_30 with
            | zero =>
              intro l4_83 iv_84 rv_85 H locs ls hl hG hF1 hF2 hU hS i30_0 hm_30
              exact absurd hm_30 (Nat.not_lt_zero _)
            | succ n_30 ih_30 =>
              intro l4_83 iv_84 rv_85 H locs ls hl hG hF1 hF2 hU hS i30_0 hm_30
              refine lv_iload hx hb dX12_back_30 (lv_at hl 4 rfl) ?_
              refine lv_bipush (v := 32) hx hb dX12_back_32 (by decide) ?_
              refine b_icmp_ge (tgt := 81) hx hb dX12_back_34 (by decide) (fun c_86 => ?_) (fun c_86 => ?_)
              ·
                obtain ⟨x_87, e_88⟩ : ∃ y : Int32, y = l2_2 + 1 := ⟨_, rfl⟩
                have te_88 : x_87.toInt = (l2_2 : Int32).toInt + (1 : Int32).toInt := by rw [e_88]; exact fb_addI (by omega) (by omega)
                refine lv_iinc (v := x_87) (lv' := [(2, .int x_87), (0, .ref (al.2 0 0)), (1, .int x_81), (3, .int x_79), (4, .int l4_83)]) hx hb dX12_back_81 hl (k := 2) rfl (by rw [e_88]; rfl) (by decide) rfl (fun ls hl => ?_)
                refine lv_goto (tgt := 4) hx hb dX12_back_84 (by decide) ?_
                exact ih_4 x_81 x_87 _ _ _ _ _ (lv_sub hl [1, 2, 0] rfl) hG hF1 hF2 hU hS (by omega) (by omega)
              ·
                refine lv_aload_n hx hb dX12_back_37 rfl (lv_at hl 0 rfl) ?_
                refine g_0_46 C hU hG (h1_0 hG) fl_X12_125 dX12_back_38 ?_
                refine lv_iload hx hb dX12_back_41 (lv_at hl 4 rfl) ?_
                refine lv_iload_n hx hb dX12_back_43 rfl (lv_at hl 2 rfl) ?_
                have J_58 : ∀ (v_89 : Int32) (ls : Array Slot), lv_has ls 6 [(0, .ref (al.2 0 0)), (1, .int x_81), (2, .int l2_2), (3, .int x_79), (4, .int l4_83)] → W p l e (rm 13) s m args below meth c H locs 0 0 Q (F0 m 58 ls [.int v_89, .int l4_83, .ref (al.2 39 0)]) := by
                  intro v_89 ls hl
                  refine lv_iload hx hb dX12_back_58 (lv_at hl 4 rfl) ?_
                  refine lv_iload_n hx hb dX12_back_60 rfl (lv_at hl 2 rfl) ?_
                  refine lv_ishr hx hb dX12_back_61 ?_
                  refine lv_topi (fun x_90 e_91 => ?_)
                  refine lv_iconst (v := 1) hx hb dX12_back_62 (by decide) ?_
                  refine lv_iand hx hb dX12_back_63 ?_
                  refine lv_topi (fun x_92 e_93 => ?_)
                  have te_93 : 0 ≤ x_92.toInt ∧ x_92.toInt ≤ (1 : Int32).toInt := by rw [e_93]; exact and_rng' (by omega)
                  refine lv_iconst (v := 1) hx hb dX12_back_64 (by decide) ?_
                  have J_73 : ∀ (v_94 : Int32) (ls : Array Slot), lv_has ls 6 [(0, .ref (al.2 0 0)), (1, .int x_81), (2, .int l2_2), (3, .int x_79), (4, .int l4_83)] → W p l e (rm 13) s m args below meth c H locs 0 0 Q (F0 m 73 ls [.int v_94, .int v_89, .int l4_83, .ref (al.2 39 0)]) := by
                    intro v_94 ls hl
                    refine lv_iadd hx hb dX12_back_73 ?_
                    refine lv_topi (fun x_95 e_96 => ?_)
                    refine s_39 C hU hS (h1_39 hG) (x := l4_83) (by omega) (by omega) dX12_back_74 (fun iv_97 H locs ei_98 hU hS => ?_)
                    have hG : GI al iv_97 rv_85 := by rw [ei_98]; exact hG.puti (show _ ∧ _ from ⟨(fb_rng _).1, Int.le_of_lt_add_one (fb_rng _).2⟩) (nsA (by decide) _)
                    have hF1 : FR ([17, 20, 39, 40], []) iv iv_97 := by rw [ei_98]; exact hF1.put (Or.inl (by decide))
                    obtain ⟨x_99, e_100⟩ : ∃ y : Int32, y = l4_83 + 1 := ⟨_, rfl⟩
                    have te_100 : x_99.toInt = (l4_83 : Int32).toInt + (1 : Int32).toInt := by rw [e_100]; exact fb_addI (by omega) (by omega)
                    refine lv_iinc (v := x_99) (lv' := [(4, .int x_99), (0, .ref (al.2 0 0)), (1, .int x_81), (2, .int l2_2), (3, .int x_79)]) hx hb dX12_back_75 hl (k := 4) rfl (by rw [e_100]; rfl) (by decide) rfl (fun ls hl => ?_)
                    refine lv_goto (tgt := 30) hx hb dX12_back_78 (by decide) ?_
                    exact ih_30 x_99 _ _ _ _ _ (lv_sub hl [1, 2, 3, 4, 0] rfl) hG hF1 hF2 hU hS (by omega) (by omega)
                  refine b_icmp_ne (tgt := 72) hx hb dX12_back_65 (by decide) (fun c_101 => ?_) (fun c_101 => ?_)
                  ·
                    refine lv_iconst (v := 0) hx hb dX12_back_72 (by decide) ?_
                    exact J_73 0 _ (lv_sub hl [0, 1, 2, 3, 4] rfl)
                  ·
                    refine lv_iload_n hx hb dX12_back_68 rfl (lv_at hl 3 rfl) ?_
                    refine lv_goto (tgt := 73) hx hb dX12_back_69 (by decide) ?_
                    exact J_73 x_79 _ (lv_sub hl [0, 1, 2, 3, 4] rfl)
                refine b_if_ne (tgt := 51) hx hb dX12_back_44 (by decide) (fun c_102 => ?_) (fun c_102 => ?_)
                ·
                  refine lv_aload_n hx hb dX12_back_51 rfl (lv_at hl 0 rfl) ?_
                  refine g_0_46 C hU hG (h1_0 hG) fl_X12_125 dX12_back_52 ?_
                  refine lv_iload hx hb dX12_back_55 (lv_at hl 4 rfl) ?_
                  refine a_39 C hU hG (h1_39 hG) (x := l4_83) (by omega) (by omega) dX12_back_57 (fun x_103 e_104 => ?_)
                  have te_104 := congrArg Int32.toInt e_104
                  exact J_58 x_103 _ (lv_sub hl [0, 1, 2, 3, 4] rfl)
                ·
                  refine lv_iconst (v := 0) hx hb dX12_back_47 (by decide) ?_
                  refine lv_goto (tgt := 58) hx hb dX12_back_48 (by decide) ?_
                  exact J_58 0 _ (lv_sub hl [0, 1, 2, 3, 4] rfl)
          exact J_30 _ 0 _ _ _ _ _ (lv_sub hl [2, 1, 3, 4, 0] rfl) hG hF1 hF2 hU hS (by omega) (Nat.lt_succ_self _)
        refine b_if_eq (tgt := 24) hx hb dX12_back_17 (by decide) (fun c_105 => ?_) (fun c_105 => ?_)
        ·
          refine lv_iconst (v := 0) hx hb dX12_back_24 (by decide) ?_
          exact J_25 0 _ (lv_sub hl [1, 3, 0] rfl) (by omega)
        ·
          refine lv_iconst (v := 1) hx hb dX12_back_20 (by decide) ?_
          refine lv_goto (tgt := 25) hx hb dX12_back_21 (by decide) ?_
          exact J_25 1 _ (lv_sub hl [1, 3, 0] rfl) (by omega)
  exact J_4 _ 0 0 _ _ _ _ _ (lv_sub hl [2, 1, 0] rfl) hG hF1 hF2 hU hS (by omega) (Nat.lt_succ_self _)
set_option maxHeartbeats 4000000 in
set_option maxRecDepth 100000 in
theorem c_X12_judged {l : Launch} {D : va_G} {cA : FieldType → ClassId} {sz : Nat} {al : Al} {iv : Iv} {rv : Rv} (hG : GI al iv rv) (lw : Int32) (cs : Int32) (mm : Int32) (far : Int32) (won : Int32) (cost : Int32) (pre0 : 0 ≤ won.toInt ∧ won.toInt ≤ 1) : Met l yX12_judged (wd yX12_judged cX12_judged 7 (some .int)) (rm 2) (PcW D cA sz al iv rv [.ref (al.2 0 0), .int lw, .int cs, .int mm, .int far, .int won, .int cost]) (QI D cA sz al (fI al ([16, 41, 42, 43, 44, 45, 46], [(0, 48)]) iv rv (fun r iv' rv' => True))) 0 0 (Aq sz) := by
  refine mk_i (by decide) (Nat.le_of_ble_eq_true rfl) rfl ?_
  intro p e s m args below meth c ls Q H locs C hU hS hl hret
  have hx := C.1.1
  have hb := C.1.2.1
  have hl : lv_has ls 7 [(0, .ref (al.2 0 0)), (1, .int lw), (2, .int cs), (3, .int mm), (4, .int far), (5, .int won), (6, .int cost)] := hl
  have hG0 := hG
  have h6 := le6 hG
  have h20 := le20 hG
  have h41 := le41 hG
  have hF1 : FR ([16, 41, 42, 43, 44, 45, 46], [(0, 48)]) iv iv := FR.rf
  have hF2 : FR ([16, 41, 42, 43, 44, 45, 46], [(0, 48)]) rv rv := FR.rf
  have km6 : ((-6) : Int32).toInt = -6 := by decide
  have km4 : ((-4) : Int32).toInt = -4 := by decide
  have km1 : ((-1) : Int32).toInt = -1 := by decide
  have k1 : (1 : Int32).toInt = 1 := by decide
  have k40 : (40 : Int32).toInt = 40 := by decide
  have k9999 : (9999 : Int32).toInt = 9999 := by decide
  refine lv_iload_n hx hb dX12_judged_0 rfl (lv_at hl 1 rfl) ?_
  refine q_pi (q_runS (As := [.int lw]) (rest := []) C hU (c_X12_isLand  lw ) sm_X12_isLand ml_X12_244 hl.1 rfl rfl (Nat.le_of_ble_eq_true rfl) dX12_judged_1 rfl rfl ⟨Nat.le_of_ble_eq_true rfl, Nat.le_of_ble_eq_true rfl⟩ ⟨Nat.le_refl _, Nat.le_refl _⟩) hS (fun x_2 H locs hp_1 hU hS => ?_)
  refine b_if_eq (tgt := 14) hx hb dX12_judged_4 (by decide) (fun c_3 => ?_) (fun c_3 => ?_)
  ·
    refine lv_aload_n hx hb dX12_judged_14 rfl (lv_at hl 0 rfl) ?_
    refine lv_iconst (v := (-1)) hx hb dX12_judged_15 (by decide) ?_
    refine q_fi (q_runV (t := 0) (i := 0) (As := [.int (-1)]) (rest := []) C hU (c_X12_refuse hG (-1) (by omega)) vm_X12_refuse ml_X12_164 k_0.1 (hc := rfl) rfl (h1_0 hG) hl.1 rfl rfl (Nat.le_of_ble_eq_true rfl) dX12_judged_16 rfl rfl ⟨Nat.le_of_ble_eq_true rfl, Nat.le_of_ble_eq_true rfl⟩ ⟨Nat.le_refl _, Nat.le_refl _⟩) hS (fun x_9 iv_5 rv_6 H locs hG fa_7 fb_8 hp_4 hU hS => ?_)
    have hF1 := hF1.tr (m := ([16, 41, 42, 43, 44, 45, 46], [(0, 48)])) fa_7 (by decide)
    have hF2 := hF2.tr (m := ([16, 41, 42, 43, 44, 45, 46], [(0, 48)])) fb_8 (by decide)
    exact hret (⟨hG, hF1, hF2, trivial⟩) hU hS dX12_judged_19
  ·
    refine lv_iload_n hx hb dX12_judged_7 rfl (lv_at hl 2 rfl) ?_
    refine q_pi (q_runS (As := [.int cs]) (rest := []) C hU (c_X12_isCause  cs ) sm_X12_isCause ml_X12_184 hl.1 rfl rfl (Nat.le_of_ble_eq_true rfl) dX12_judged_8 rfl rfl ⟨Nat.le_of_ble_eq_true rfl, Nat.le_of_ble_eq_true rfl⟩ ⟨Nat.le_refl _, Nat.le_refl _⟩) hS (fun x_11 H locs hp_10 hU hS => ?_)
    refine b_if_ne (tgt := 20) hx hb dX12_judged_11 (by decide) (fun c_12 => ?_) (fun c_12 => ?_)
    ·
      refine lv_iload_n hx hb dX12_judged_20 rfl (lv_at hl 3 rfl) ?_
      refine b_if_lt (tgt := 34) hx hb dX12_judged_21 (by decide) (fun c_13 => ?_) (fun c_13 => ?_)
      ·
        refine lv_aload_n hx hb dX12_judged_34 rfl (lv_at hl 0 rfl) ?_
        refine lv_bipush (v := (-4)) hx hb dX12_judged_35 (by decide) ?_
        refine q_fi (q_runV (t := 0) (i := 0) (As := [.int (-4)]) (rest := []) C hU (c_X12_refuse hG (-4) (by omega)) vm_X12_refuse ml_X12_164 k_0.1 (hc := rfl) rfl (h1_0 hG) hl.1 rfl rfl (Nat.le_of_ble_eq_true rfl) dX12_judged_37 rfl rfl ⟨Nat.le_of_ble_eq_true rfl, Nat.le_of_ble_eq_true rfl⟩ ⟨Nat.le_refl _, Nat.le_refl _⟩) hS (fun x_19 iv_15 rv_16 H locs hG fa_17 fb_18 hp_14 hU hS => ?_)
        have hF1 := hF1.tr (m := ([16, 41, 42, 43, 44, 45, 46], [(0, 48)])) fa_17 (by decide)
        have hF2 := hF2.tr (m := ([16, 41, 42, 43, 44, 45, 46], [(0, 48)])) fb_18 (by decide)
        exact hret (⟨hG, hF1, hF2, trivial⟩) hU hS dX12_judged_40
      ·
        refine lv_iload hx hb dX12_judged_24 (lv_at hl 4 rfl) ?_
        refine b_if_lt (tgt := 34) hx hb dX12_judged_26 (by decide) (fun c_20 => ?_) (fun c_20 => ?_)
        ·
          refine lv_aload_n hx hb dX12_judged_34 rfl (lv_at hl 0 rfl) ?_
          refine lv_bipush (v := (-4)) hx hb dX12_judged_35 (by decide) ?_
          refine q_fi (q_runV (t := 0) (i := 0) (As := [.int (-4)]) (rest := []) C hU (c_X12_refuse hG (-4) (by omega)) vm_X12_refuse ml_X12_164 k_0.1 (hc := rfl) rfl (h1_0 hG) hl.1 rfl rfl (Nat.le_of_ble_eq_true rfl) dX12_judged_37 rfl rfl ⟨Nat.le_of_ble_eq_true rfl, Nat.le_of_ble_eq_true rfl⟩ ⟨Nat.le_refl _, Nat.le_refl _⟩) hS (fun x_26 iv_22 rv_23 H locs hG fa_24 fb_25 hp_21 hU hS => ?_)
          have hF1 := hF1.tr (m := ([16, 41, 42, 43, 44, 45, 46], [(0, 48)])) fa_24 (by decide)
          have hF2 := hF2.tr (m := ([16, 41, 42, 43, 44, 45, 46], [(0, 48)])) fb_25 (by decide)
          exact hret (⟨hG, hF1, hF2, trivial⟩) hU hS dX12_judged_40
        ·
          refine lv_iload hx hb dX12_judged_29 (lv_at hl 6 rfl) ?_
          refine b_if_ge (tgt := 41) hx hb dX12_judged_31 (by decide) (fun c_27 => ?_) (fun c_27 => ?_)
          ·
            refine lv_iload_n hx hb dX12_judged_41 rfl (lv_at hl 3 rfl) ?_
            refine lv_sipush (v := 9999) hx hb dX12_judged_42 (by decide) ?_
            refine b_icmp_gt (tgt := 73) hx hb dX12_judged_45 (by decide) (fun c_28 => ?_) (fun c_28 => ?_)
            ·
              refine lv_aload_n hx hb dX12_judged_73 rfl (lv_at hl 0 rfl) ?_
              refine lv_bipush (v := (-6)) hx hb dX12_judged_74 (by decide) ?_
              refine q_fi (q_runV (t := 0) (i := 0) (As := [.int (-6)]) (rest := []) C hU (c_X12_refuse hG (-6) (by omega)) vm_X12_refuse ml_X12_164 k_0.1 (hc := rfl) rfl (h1_0 hG) hl.1 rfl rfl (Nat.le_of_ble_eq_true rfl) dX12_judged_76 rfl rfl ⟨Nat.le_of_ble_eq_true rfl, Nat.le_of_ble_eq_true rfl⟩ ⟨Nat.le_refl _, Nat.le_refl _⟩) hS (fun x_34 iv_30 rv_31 H locs hG fa_32 fb_33 hp_29 hU hS => ?_)
              have hF1 := hF1.tr (m := ([16, 41, 42, 43, 44, 45, 46], [(0, 48)])) fa_32 (by decide)
              have hF2 := hF2.tr (m := ([16, 41, 42, 43, 44, 45, 46], [(0, 48)])) fb_33 (by decide)
              exact hret (⟨hG, hF1, hF2, trivial⟩) hU hS dX12_judged_79
            ·
              refine lv_iload hx hb dX12_judged_48 (lv_at hl 4 rfl) ?_
              refine lv_sipush (v := 9999) hx hb dX12_judged_50 (by decide) ?_
              refine b_icmp_gt (tgt := 73) hx hb dX12_judged_53 (by decide) (fun c_35 => ?_) (fun c_35 => ?_)
              ·
                refine lv_aload_n hx hb dX12_judged_73 rfl (lv_at hl 0 rfl) ?_
                refine lv_bipush (v := (-6)) hx hb dX12_judged_74 (by decide) ?_
                refine q_fi (q_runV (t := 0) (i := 0) (As := [.int (-6)]) (rest := []) C hU (c_X12_refuse hG (-6) (by omega)) vm_X12_refuse ml_X12_164 k_0.1 (hc := rfl) rfl (h1_0 hG) hl.1 rfl rfl (Nat.le_of_ble_eq_true rfl) dX12_judged_76 rfl rfl ⟨Nat.le_of_ble_eq_true rfl, Nat.le_of_ble_eq_true rfl⟩ ⟨Nat.le_refl _, Nat.le_refl _⟩) hS (fun x_41 iv_37 rv_38 H locs hG fa_39 fb_40 hp_36 hU hS => ?_)
                have hF1 := hF1.tr (m := ([16, 41, 42, 43, 44, 45, 46], [(0, 48)])) fa_39 (by decide)
                have hF2 := hF2.tr (m := ([16, 41, 42, 43, 44, 45, 46], [(0, 48)])) fb_40 (by decide)
                exact hret (⟨hG, hF1, hF2, trivial⟩) hU hS dX12_judged_79
              ·
                refine lv_iload hx hb dX12_judged_56 (lv_at hl 6 rfl) ?_
                refine lv_sipush (v := 9999) hx hb dX12_judged_58 (by decide) ?_
                refine b_icmp_gt (tgt := 73) hx hb dX12_judged_61 (by decide) (fun c_42 => ?_) (fun c_42 => ?_)
                ·
                  refine lv_aload_n hx hb dX12_judged_73 rfl (lv_at hl 0 rfl) ?_
                  refine lv_bipush (v := (-6)) hx hb dX12_judged_74 (by decide) ?_
                  refine q_fi (q_runV (t := 0) (i := 0) (As := [.int (-6)]) (rest := []) C hU (c_X12_refuse hG (-6) (by omega)) vm_X12_refuse ml_X12_164 k_0.1 (hc := rfl) rfl (h1_0 hG) hl.1 rfl rfl (Nat.le_of_ble_eq_true rfl) dX12_judged_76 rfl rfl ⟨Nat.le_of_ble_eq_true rfl, Nat.le_of_ble_eq_true rfl⟩ ⟨Nat.le_refl _, Nat.le_refl _⟩) hS (fun x_48 iv_44 rv_45 H locs hG fa_46 fb_47 hp_43 hU hS => ?_)
                  have hF1 := hF1.tr (m := ([16, 41, 42, 43, 44, 45, 46], [(0, 48)])) fa_46 (by decide)
                  have hF2 := hF2.tr (m := ([16, 41, 42, 43, 44, 45, 46], [(0, 48)])) fb_47 (by decide)
                  exact hret (⟨hG, hF1, hF2, trivial⟩) hU hS dX12_judged_79
                ·
                  refine lv_aload_n hx hb dX12_judged_64 rfl (lv_at hl 0 rfl) ?_
                  refine g_0_48 C hU hG (h1_0 hG) fl_X12_300 dX12_judged_65 (fun x_49 e_50 le_50 ue_50 => ?_)
                  have te_50 := congrArg Int32.toInt e_50
                  refine lv_bipush (v := 40) hx hb dX12_judged_68 (by decide) ?_
                  refine b_icmp_ne (tgt := 80) hx hb dX12_judged_70 (by decide) (fun c_51 => ?_) (fun c_51 => ?_)
                  ·
                    refine lv_aload_n hx hb dX12_judged_80 rfl (lv_at hl 0 rfl) ?_
                    refine g_0_49 C hU hG (h1_0 hG) fl_X12_131 dX12_judged_81 ?_
                    refine lv_aload_n hx hb dX12_judged_84 rfl (lv_at hl 0 rfl) ?_
                    refine g_0_48 C hU hG (h1_0 hG) fl_X12_300 dX12_judged_85 (fun x_52 e_53 le_53 ue_53 => ?_)
                    have te_53 := congrArg Int32.toInt e_53
                    refine lv_iload_n hx hb dX12_judged_88 rfl (lv_at hl 1 rfl) ?_
                    refine s_41 C hU hS (h1_41 hG) (x := x_52) (by omega) (by omega) dX12_judged_89 (fun iv_54 H locs ei_55 hU hS => ?_)
                    have hG : GI al iv_54 rv := by rw [ei_55]; exact hG.puti (show _ ∧ _ from ⟨(fb_rng _).1, Int.le_of_lt_add_one (fb_rng _).2⟩) (nsA (by decide) _)
                    have hF1 : FR ([16, 41, 42, 43, 44, 45, 46], [(0, 48)]) iv iv_54 := by rw [ei_55]; exact hF1.put (Or.inl (by decide))
                    have kf_56 := congrArg Int32.toInt (show iv_54 0 0 48 = iv 0 0 48 by rw [ei_55]; exact up3_ne (fun z => absurd z.1 (by decide)))
                    refine lv_aload_n hx hb dX12_judged_90 rfl (lv_at hl 0 rfl) ?_
                    refine g_0_50 C hU hG (h1_0 hG) fl_X12_134 dX12_judged_91 ?_
                    refine lv_aload_n hx hb dX12_judged_94 rfl (lv_at hl 0 rfl) ?_
                    refine g_0_48 C hU hG (h1_0 hG) fl_X12_300 dX12_judged_95 (fun x_57 e_58 le_58 ue_58 => ?_)
                    have te_58 := congrArg Int32.toInt e_58
                    refine lv_iload_n hx hb dX12_judged_98 rfl (lv_at hl 2 rfl) ?_
                    refine s_42 C hU hS (h1_42 hG) (x := x_57) (by omega) (by omega) dX12_judged_99 (fun iv_59 H locs ei_60 hU hS => ?_)
                    have hG : GI al iv_59 rv := by rw [ei_60]; exact hG.puti (show _ ∧ _ from ⟨(fb_rng _).1, Int.le_of_lt_add_one (fb_rng _).2⟩) (nsA (by decide) _)
                    have hF1 : FR ([16, 41, 42, 43, 44, 45, 46], [(0, 48)]) iv iv_59 := by rw [ei_60]; exact hF1.put (Or.inl (by decide))
                    have kf_61 := congrArg Int32.toInt (show iv_59 0 0 48 = iv_54 0 0 48 by rw [ei_60]; exact up3_ne (fun z => absurd z.1 (by decide)))
                    refine lv_aload_n hx hb dX12_judged_100 rfl (lv_at hl 0 rfl) ?_
                    refine g_0_51 C hU hG (h1_0 hG) fl_X12_137 dX12_judged_101 ?_
                    refine lv_aload_n hx hb dX12_judged_104 rfl (lv_at hl 0 rfl) ?_
                    refine g_0_48 C hU hG (h1_0 hG) fl_X12_300 dX12_judged_105 (fun x_62 e_63 le_63 ue_63 => ?_)
                    have te_63 := congrArg Int32.toInt e_63
                    refine lv_iload_n hx hb dX12_judged_108 rfl (lv_at hl 3 rfl) ?_
                    refine s_43 C hU hS (h1_43 hG) (x := x_62) (by omega) (by omega) dX12_judged_109 (fun iv_64 H locs ei_65 hU hS => ?_)
                    have hG : GI al iv_64 rv := by rw [ei_65]; exact hG.puti (show _ ∧ _ from ⟨show (0 : Int) ≤ _ by omega, show _ ≤ (9999 : Int) by omega⟩) (nsA (by decide) _)
                    have hF1 : FR ([16, 41, 42, 43, 44, 45, 46], [(0, 48)]) iv iv_64 := by rw [ei_65]; exact hF1.put (Or.inl (by decide))
                    have kf_66 := congrArg Int32.toInt (show iv_64 0 0 48 = iv_59 0 0 48 by rw [ei_65]; exact up3_ne (fun z => absurd z.1 (by decide)))
                    refine lv_aload_n hx hb dX12_judged_110 rfl (lv_at hl 0 rfl) ?_
                    refine g_0_52 C hU hG (h1_0 hG) fl_X12_140 dX12_judged_111 ?_
                    refine lv_aload_n hx hb dX12_judged_114 rfl (lv_at hl 0 rfl) ?_
                    refine g_0_48 C hU hG (h1_0 hG) fl_X12_300 dX12_judged_115 (fun x_67 e_68 le_68 ue_68 => ?_)
                    have te_68 := congrArg Int32.toInt e_68
                    refine lv_iload hx hb dX12_judged_118 (lv_at hl 4 rfl) ?_
                    refine s_44 C hU hS (h1_44 hG) (x := x_67) (by omega) (by omega) dX12_judged_120 (fun iv_69 H locs ei_70 hU hS => ?_)
                    have hG : GI al iv_69 rv := by rw [ei_70]; exact hG.puti (show _ ∧ _ from ⟨show (0 : Int) ≤ _ by omega, show _ ≤ (9999 : Int) by omega⟩) (nsA (by decide) _)
                    have hF1 : FR ([16, 41, 42, 43, 44, 45, 46], [(0, 48)]) iv iv_69 := by rw [ei_70]; exact hF1.put (Or.inl (by decide))
                    have kf_71 := congrArg Int32.toInt (show iv_69 0 0 48 = iv_64 0 0 48 by rw [ei_70]; exact up3_ne (fun z => absurd z.1 (by decide)))
                    refine lv_aload_n hx hb dX12_judged_121 rfl (lv_at hl 0 rfl) ?_
                    refine g_0_53 C hU hG (h1_0 hG) fl_X12_143 dX12_judged_122 ?_
                    refine lv_aload_n hx hb dX12_judged_125 rfl (lv_at hl 0 rfl) ?_
                    refine g_0_48 C hU hG (h1_0 hG) fl_X12_300 dX12_judged_126 (fun x_72 e_73 le_73 ue_73 => ?_)
                    have te_73 := congrArg Int32.toInt e_73
                    refine lv_iload hx hb dX12_judged_129 (lv_at hl 5 rfl) ?_
                    refine s_45 C hU hS (h1_45 hG) (x := x_72) (by omega) (by omega) (by omega) (by omega) dX12_judged_131 (fun iv_74 H locs ei_75 hU hS => ?_)
                    have hG : GI al iv_74 rv := by rw [ei_75]; exact hG.puti (show _ ∧ _ from ⟨show (0 : Int) ≤ _ by omega, show _ ≤ (1 : Int) by omega⟩) (nsA (by decide) _)
                    have hF1 : FR ([16, 41, 42, 43, 44, 45, 46], [(0, 48)]) iv iv_74 := by rw [ei_75]; exact hF1.put (Or.inl (by decide))
                    have kf_76 := congrArg Int32.toInt (show iv_74 0 0 48 = iv_69 0 0 48 by rw [ei_75]; exact up3_ne (fun z => absurd z.1 (by decide)))
                    refine lv_aload_n hx hb dX12_judged_132 rfl (lv_at hl 0 rfl) ?_
                    refine g_0_54 C hU hG (h1_0 hG) fl_X12_146 dX12_judged_133 ?_
                    refine lv_aload_n hx hb dX12_judged_136 rfl (lv_at hl 0 rfl) ?_
                    refine g_0_48 C hU hG (h1_0 hG) fl_X12_300 dX12_judged_137 (fun x_77 e_78 le_78 ue_78 => ?_)
                    have te_78 := congrArg Int32.toInt e_78
                    refine lv_iload hx hb dX12_judged_140 (lv_at hl 6 rfl) ?_
                    refine s_46 C hU hS (h1_46 hG) (x := x_77) (by omega) (by omega) dX12_judged_142 (fun iv_79 H locs ei_80 hU hS => ?_)
                    have hG : GI al iv_79 rv := by rw [ei_80]; exact hG.puti (show _ ∧ _ from ⟨show (0 : Int) ≤ _ by omega, show _ ≤ (9999 : Int) by omega⟩) (nsA (by decide) _)
                    have hF1 : FR ([16, 41, 42, 43, 44, 45, 46], [(0, 48)]) iv iv_79 := by rw [ei_80]; exact hF1.put (Or.inl (by decide))
                    have kf_81 := congrArg Int32.toInt (show iv_79 0 0 48 = iv_74 0 0 48 by rw [ei_80]; exact up3_ne (fun z => absurd z.1 (by decide)))
                    refine lv_aload_n hx hb dX12_judged_143 rfl (lv_at hl 0 rfl) ?_
                    refine lv_dup hx hb dX12_judged_144 rfl ?_
                    refine g_0_48 C hU hG (h1_0 hG) fl_X12_300 dX12_judged_145 (fun x_82 e_83 le_83 ue_83 => ?_)
                    have te_83 := congrArg Int32.toInt e_83
                    refine lv_iconst (v := 1) hx hb dX12_judged_148 (by decide) ?_
                    refine lv_iadd hx hb dX12_judged_149 ?_
                    refine lv_topi (fun x_84 e_85 => ?_)
                    have te_85 : x_84.toInt = (x_82 : Int32).toInt + (1 : Int32).toInt := by rw [e_85]; exact fb_addI (by omega) (by omega)
                    refine p_0_48 C hU hS (h1_0 hG) fl_X12_300 dX12_judged_150 (fun iv_86 H locs ei_87 hU hS => ?_)
                    have hG : GI al iv_86 rv := by rw [ei_87]; exact hG.puti (show _ ∧ _ from ⟨show (0 : Int) ≤ _ by omega, show _ ≤ (40 : Int) by omega⟩) (nsF (by decide))
                    have hF1 : FR ([16, 41, 42, 43, 44, 45, 46], [(0, 48)]) iv iv_86 := by rw [ei_87]; exact hF1.put (by decide)
                    refine lv_aload_n hx hb dX12_judged_153 rfl (lv_at hl 0 rfl) ?_
                    refine g_0_48 C hU hG (h1_0 hG) fl_X12_300 dX12_judged_154 (fun x_88 e_89 le_89 ue_89 => ?_)
                    have te_89 := congrArg Int32.toInt e_89
                    refine lv_iconst (v := 1) hx hb dX12_judged_157 (by decide) ?_
                    refine lv_isub hx hb dX12_judged_158 ?_
                    refine lv_topi (fun x_90 e_91 => ?_)
                    have te_91 : x_90.toInt = (x_88 : Int32).toInt - (1 : Int32).toInt := by rw [e_91]; exact fb_subI (by omega) (by omega)
                    exact hret (⟨hG, hF1, hF2, trivial⟩) hU hS dX12_judged_159
                  ·
                    refine lv_aload_n hx hb dX12_judged_73 rfl (lv_at hl 0 rfl) ?_
                    refine lv_bipush (v := (-6)) hx hb dX12_judged_74 (by decide) ?_
                    refine q_fi (q_runV (t := 0) (i := 0) (As := [.int (-6)]) (rest := []) C hU (c_X12_refuse hG (-6) (by omega)) vm_X12_refuse ml_X12_164 k_0.1 (hc := rfl) rfl (h1_0 hG) hl.1 rfl rfl (Nat.le_of_ble_eq_true rfl) dX12_judged_76 rfl rfl ⟨Nat.le_of_ble_eq_true rfl, Nat.le_of_ble_eq_true rfl⟩ ⟨Nat.le_refl _, Nat.le_refl _⟩) hS (fun x_97 iv_93 rv_94 H locs hG fa_95 fb_96 hp_92 hU hS => ?_)
                    have hF1 := hF1.tr (m := ([16, 41, 42, 43, 44, 45, 46], [(0, 48)])) fa_95 (by decide)
                    have hF2 := hF2.tr (m := ([16, 41, 42, 43, 44, 45, 46], [(0, 48)])) fb_96 (by decide)
                    exact hret (⟨hG, hF1, hF2, trivial⟩) hU hS dX12_judged_79
          ·
            refine lv_aload_n hx hb dX12_judged_34 rfl (lv_at hl 0 rfl) ?_
            refine lv_bipush (v := (-4)) hx hb dX12_judged_35 (by decide) ?_
            refine q_fi (q_runV (t := 0) (i := 0) (As := [.int (-4)]) (rest := []) C hU (c_X12_refuse hG (-4) (by omega)) vm_X12_refuse ml_X12_164 k_0.1 (hc := rfl) rfl (h1_0 hG) hl.1 rfl rfl (Nat.le_of_ble_eq_true rfl) dX12_judged_37 rfl rfl ⟨Nat.le_of_ble_eq_true rfl, Nat.le_of_ble_eq_true rfl⟩ ⟨Nat.le_refl _, Nat.le_refl _⟩) hS (fun x_103 iv_99 rv_100 H locs hG fa_101 fb_102 hp_98 hU hS => ?_)
            have hF1 := hF1.tr (m := ([16, 41, 42, 43, 44, 45, 46], [(0, 48)])) fa_101 (by decide)
            have hF2 := hF2.tr (m := ([16, 41, 42, 43, 44, 45, 46], [(0, 48)])) fb_102 (by decide)
            exact hret (⟨hG, hF1, hF2, trivial⟩) hU hS dX12_judged_40
    ·
      refine lv_aload_n hx hb dX12_judged_14 rfl (lv_at hl 0 rfl) ?_
      refine lv_iconst (v := (-1)) hx hb dX12_judged_15 (by decide) ?_
      refine q_fi (q_runV (t := 0) (i := 0) (As := [.int (-1)]) (rest := []) C hU (c_X12_refuse hG (-1) (by omega)) vm_X12_refuse ml_X12_164 k_0.1 (hc := rfl) rfl (h1_0 hG) hl.1 rfl rfl (Nat.le_of_ble_eq_true rfl) dX12_judged_16 rfl rfl ⟨Nat.le_of_ble_eq_true rfl, Nat.le_of_ble_eq_true rfl⟩ ⟨Nat.le_refl _, Nat.le_refl _⟩) hS (fun x_109 iv_105 rv_106 H locs hG fa_107 fb_108 hp_104 hU hS => ?_)
      have hF1 := hF1.tr (m := ([16, 41, 42, 43, 44, 45, 46], [(0, 48)])) fa_107 (by decide)
      have hF2 := hF2.tr (m := ([16, 41, 42, 43, 44, 45, 46], [(0, 48)])) fb_108 (by decide)
      exact hret (⟨hG, hF1, hF2, trivial⟩) hU hS dX12_judged_19
