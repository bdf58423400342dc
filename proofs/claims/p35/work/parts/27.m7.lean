set_option maxHeartbeats 4000000 in
set_option maxRecDepth 100000 in
theorem c_X12_leg {l : Launch} {D : va_G} {cA : FieldType → ClassId} {sz : Nat} {al : Al} {iv : Iv} {rv : Rv} (hG : GI al iv rv) (a : Int32) (b : Int32) (pp : Int32) (cc_ : Int32) (lv_ : Int32) (rr : Int32) : Met l yX12_leg (wd yX12_leg cX12_leg 7 (some .int)) (rm 2) (PcW D cA sz al iv rv [.ref (al.2 0 0), .int a, .int b, .int pp, .int cc_, .int lv_, .int rr]) (QI D cA sz al (fI al ([16, 5, 6, 7, 8, 9, 10], [(0, 6)]) iv rv (fun r iv' rv' => True))) 0 0 (Aq sz) := by
  refine mk_i (by decide) (Nat.le_of_ble_eq_true rfl) rfl ?_
  intro p e s m args below meth c ls Q H locs C hU hS hl hret
  have hx := C.1.1
  have hb := C.1.2.1
  have hl : lv_has ls 7 [(0, .ref (al.2 0 0)), (1, .int a), (2, .int b), (3, .int pp), (4, .int cc_), (5, .int lv_), (6, .int rr)] := hl
  have hG0 := hG
  have h6 := le6 hG
  have h20 := le20 hG
  have h41 := le41 hG
  have hF1 : FR ([16, 5, 6, 7, 8, 9, 10], [(0, 6)]) iv iv := FR.rf
  have hF2 : FR ([16, 5, 6, 7, 8, 9, 10], [(0, 6)]) rv rv := FR.rf
  have km6 : ((-6) : Int32).toInt = -6 := by decide
  have km4 : ((-4) : Int32).toInt = -4 := by decide
  have km1 : ((-1) : Int32).toInt = -1 := by decide
  have k0 : (0 : Int32).toInt = 0 := by decide
  have k1 : (1 : Int32).toInt = 1 := by decide
  have k5 : (5 : Int32).toInt = 5 := by decide
  have k40 : (40 : Int32).toInt = 40 := by decide
  have k20000 : (20000 : Int32).toInt = 20000 := by decide
  refine lv_iload_n hx hb dX12_leg_0 rfl (lv_at hl 1 rfl) ?_
  refine q_pi (q_runS (As := [.int a]) (rest := []) C hU (c_X12_isPort  a ) sm_X12_isPort ml_X12_171 hl.1 rfl rfl (Nat.le_of_ble_eq_true rfl) dX12_leg_1 rfl rfl ⟨Nat.le_of_ble_eq_true rfl, Nat.le_of_ble_eq_true rfl⟩ ⟨Nat.le_refl _, Nat.le_refl _⟩) hS (fun x_2 H locs hp_1 hU hS => ?_)
  refine b_if_eq (tgt := 38) hx hb dX12_leg_4 (by decide) (fun c_3 => ?_) (fun c_3 => ?_)
  ·
    refine lv_aload_n hx hb dX12_leg_38 rfl (lv_at hl 0 rfl) ?_
    refine lv_iconst (v := (-1)) hx hb dX12_leg_39 (by decide) ?_
    refine q_fi (q_runV (t := 0) (i := 0) (As := [.int (-1)]) (rest := []) C hU (c_X12_refuse hG (-1) (by omega)) vm_X12_refuse ml_X12_164 k_0.1 (hc := rfl) rfl (h1_0 hG) hl.1 rfl rfl (Nat.le_of_ble_eq_true rfl) dX12_leg_40 rfl rfl ⟨Nat.le_of_ble_eq_true rfl, Nat.le_of_ble_eq_true rfl⟩ ⟨Nat.le_refl _, Nat.le_refl _⟩) hS (fun x_9 iv_5 rv_6 H locs hG fa_7 fb_8 hp_4 hU hS => ?_)
    have hF1 := hF1.tr (m := ([16, 5, 6, 7, 8, 9, 10], [(0, 6)])) fa_7 (by decide)
    have hF2 := hF2.tr (m := ([16, 5, 6, 7, 8, 9, 10], [(0, 6)])) fb_8 (by decide)
    exact hret (⟨hG, hF1, hF2, trivial⟩) hU hS dX12_leg_43
  ·
    refine lv_iload_n hx hb dX12_leg_7 rfl (lv_at hl 2 rfl) ?_
    refine q_pi (q_runS (As := [.int b]) (rest := []) C hU (c_X12_isPort  b ) sm_X12_isPort ml_X12_171 hl.1 rfl rfl (Nat.le_of_ble_eq_true rfl) dX12_leg_8 rfl rfl ⟨Nat.le_of_ble_eq_true rfl, Nat.le_of_ble_eq_true rfl⟩ ⟨Nat.le_refl _, Nat.le_refl _⟩) hS (fun x_11 H locs hp_10 hU hS => ?_)
    refine b_if_eq (tgt := 38) hx hb dX12_leg_11 (by decide) (fun c_12 => ?_) (fun c_12 => ?_)
    ·
      refine lv_aload_n hx hb dX12_leg_38 rfl (lv_at hl 0 rfl) ?_
      refine lv_iconst (v := (-1)) hx hb dX12_leg_39 (by decide) ?_
      refine q_fi (q_runV (t := 0) (i := 0) (As := [.int (-1)]) (rest := []) C hU (c_X12_refuse hG (-1) (by omega)) vm_X12_refuse ml_X12_164 k_0.1 (hc := rfl) rfl (h1_0 hG) hl.1 rfl rfl (Nat.le_of_ble_eq_true rfl) dX12_leg_40 rfl rfl ⟨Nat.le_of_ble_eq_true rfl, Nat.le_of_ble_eq_true rfl⟩ ⟨Nat.le_refl _, Nat.le_refl _⟩) hS (fun x_18 iv_14 rv_15 H locs hG fa_16 fb_17 hp_13 hU hS => ?_)
      have hF1 := hF1.tr (m := ([16, 5, 6, 7, 8, 9, 10], [(0, 6)])) fa_16 (by decide)
      have hF2 := hF2.tr (m := ([16, 5, 6, 7, 8, 9, 10], [(0, 6)])) fb_17 (by decide)
      exact hret (⟨hG, hF1, hF2, trivial⟩) hU hS dX12_leg_43
    ·
      refine lv_iload_n hx hb dX12_leg_14 rfl (lv_at hl 1 rfl) ?_
      refine lv_iload_n hx hb dX12_leg_15 rfl (lv_at hl 2 rfl) ?_
      refine b_icmp_eq (tgt := 38) hx hb dX12_leg_16 (by decide) (fun c_19 => ?_) (fun c_19 => ?_)
      ·
        refine lv_aload_n hx hb dX12_leg_38 rfl (lv_at hl 0 rfl) ?_
        refine lv_iconst (v := (-1)) hx hb dX12_leg_39 (by decide) ?_
        refine q_fi (q_runV (t := 0) (i := 0) (As := [.int (-1)]) (rest := []) C hU (c_X12_refuse hG (-1) (by omega)) vm_X12_refuse ml_X12_164 k_0.1 (hc := rfl) rfl (h1_0 hG) hl.1 rfl rfl (Nat.le_of_ble_eq_true rfl) dX12_leg_40 rfl rfl ⟨Nat.le_of_ble_eq_true rfl, Nat.le_of_ble_eq_true rfl⟩ ⟨Nat.le_refl _, Nat.le_refl _⟩) hS (fun x_25 iv_21 rv_22 H locs hG fa_23 fb_24 hp_20 hU hS => ?_)
        have hF1 := hF1.tr (m := ([16, 5, 6, 7, 8, 9, 10], [(0, 6)])) fa_23 (by decide)
        have hF2 := hF2.tr (m := ([16, 5, 6, 7, 8, 9, 10], [(0, 6)])) fb_24 (by decide)
        exact hret (⟨hG, hF1, hF2, trivial⟩) hU hS dX12_leg_43
      ·
        refine lv_iload_n hx hb dX12_leg_19 rfl (lv_at hl 3 rfl) ?_
        refine lv_iconst (v := 0) hx hb dX12_leg_20 (by decide) ?_
        refine lv_iconst (v := 5) hx hb dX12_leg_21 (by decide) ?_
        refine q_pi (q_runS (As := [.int pp, .int 0, .int 5]) (rest := []) C hU (c_X12_in  pp 0 5 ) sm_X12_in ml_X12_156 hl.1 rfl rfl (Nat.le_of_ble_eq_true rfl) dX12_leg_22 rfl rfl ⟨Nat.le_of_ble_eq_true rfl, Nat.le_of_ble_eq_true rfl⟩ ⟨Nat.le_refl _, Nat.le_refl _⟩) hS (fun x_27 H locs hp_26 hU hS => ?_)
        refine b_if_eq (tgt := 38) hx hb dX12_leg_25 (by decide) (fun c_28 => ?_) (fun c_28 => ?_)
        ·
          refine lv_aload_n hx hb dX12_leg_38 rfl (lv_at hl 0 rfl) ?_
          refine lv_iconst (v := (-1)) hx hb dX12_leg_39 (by decide) ?_
          refine q_fi (q_runV (t := 0) (i := 0) (As := [.int (-1)]) (rest := []) C hU (c_X12_refuse hG (-1) (by omega)) vm_X12_refuse ml_X12_164 k_0.1 (hc := rfl) rfl (h1_0 hG) hl.1 rfl rfl (Nat.le_of_ble_eq_true rfl) dX12_leg_40 rfl rfl ⟨Nat.le_of_ble_eq_true rfl, Nat.le_of_ble_eq_true rfl⟩ ⟨Nat.le_refl _, Nat.le_refl _⟩) hS (fun x_34 iv_30 rv_31 H locs hG fa_32 fb_33 hp_29 hU hS => ?_)
          have hF1 := hF1.tr (m := ([16, 5, 6, 7, 8, 9, 10], [(0, 6)])) fa_32 (by decide)
          have hF2 := hF2.tr (m := ([16, 5, 6, 7, 8, 9, 10], [(0, 6)])) fb_33 (by decide)
          exact hret (⟨hG, hF1, hF2, trivial⟩) hU hS dX12_leg_43
        ·
          refine lv_iload hx hb dX12_leg_28 (lv_at hl 4 rfl) ?_
          refine lv_iconst (v := 0) hx hb dX12_leg_30 (by decide) ?_
          refine lv_iconst (v := 5) hx hb dX12_leg_31 (by decide) ?_
          refine q_pi (q_runS (As := [.int cc_, .int 0, .int 5]) (rest := []) C hU (c_X12_in  cc_ 0 5 ) sm_X12_in ml_X12_156 hl.1 rfl rfl (Nat.le_of_ble_eq_true rfl) dX12_leg_32 rfl rfl ⟨Nat.le_of_ble_eq_true rfl, Nat.le_of_ble_eq_true rfl⟩ ⟨Nat.le_refl _, Nat.le_refl _⟩) hS (fun x_36 H locs hp_35 hU hS => ?_)
          refine b_if_ne (tgt := 44) hx hb dX12_leg_35 (by decide) (fun c_37 => ?_) (fun c_37 => ?_)
          ·
            refine lv_iload hx hb dX12_leg_44 (lv_at hl 5 rfl) ?_
            refine b_if_lt (tgt := 56) hx hb dX12_leg_46 (by decide) (fun c_38 => ?_) (fun c_38 => ?_)
            ·
              refine lv_aload_n hx hb dX12_leg_56 rfl (lv_at hl 0 rfl) ?_
              refine lv_bipush (v := (-4)) hx hb dX12_leg_57 (by decide) ?_
              refine q_fi (q_runV (t := 0) (i := 0) (As := [.int (-4)]) (rest := []) C hU (c_X12_refuse hG (-4) (by omega)) vm_X12_refuse ml_X12_164 k_0.1 (hc := rfl) rfl (h1_0 hG) hl.1 rfl rfl (Nat.le_of_ble_eq_true rfl) dX12_leg_59 rfl rfl ⟨Nat.le_of_ble_eq_true rfl, Nat.le_of_ble_eq_true rfl⟩ ⟨Nat.le_refl _, Nat.le_refl _⟩) hS (fun x_44 iv_40 rv_41 H locs hG fa_42 fb_43 hp_39 hU hS => ?_)
              have hF1 := hF1.tr (m := ([16, 5, 6, 7, 8, 9, 10], [(0, 6)])) fa_42 (by decide)
              have hF2 := hF2.tr (m := ([16, 5, 6, 7, 8, 9, 10], [(0, 6)])) fb_43 (by decide)
              exact hret (⟨hG, hF1, hF2, trivial⟩) hU hS dX12_leg_62
            ·
              refine lv_iload hx hb dX12_leg_49 (lv_at hl 6 rfl) ?_
              refine lv_iload hx hb dX12_leg_51 (lv_at hl 5 rfl) ?_
              refine b_icmp_gt (tgt := 63) hx hb dX12_leg_53 (by decide) (fun c_45 => ?_) (fun c_45 => ?_)
              ·
                refine lv_iload hx hb dX12_leg_63 (lv_at hl 6 rfl) ?_
                refine lv_sipush (v := 20000) hx hb dX12_leg_65 (by decide) ?_
                refine b_icmp_gt (tgt := 80) hx hb dX12_leg_68 (by decide) (fun c_46 => ?_) (fun c_46 => ?_)
                ·
                  refine lv_aload_n hx hb dX12_leg_80 rfl (lv_at hl 0 rfl) ?_
                  refine lv_bipush (v := (-6)) hx hb dX12_leg_81 (by decide) ?_
                  refine q_fi (q_runV (t := 0) (i := 0) (As := [.int (-6)]) (rest := []) C hU (c_X12_refuse hG (-6) (by omega)) vm_X12_refuse ml_X12_164 k_0.1 (hc := rfl) rfl (h1_0 hG) hl.1 rfl rfl (Nat.le_of_ble_eq_true rfl) dX12_leg_83 rfl rfl ⟨Nat.le_of_ble_eq_true rfl, Nat.le_of_ble_eq_true rfl⟩ ⟨Nat.le_refl _, Nat.le_refl _⟩) hS (fun x_52 iv_48 rv_49 H locs hG fa_50 fb_51 hp_47 hU hS => ?_)
                  have hF1 := hF1.tr (m := ([16, 5, 6, 7, 8, 9, 10], [(0, 6)])) fa_50 (by decide)
                  have hF2 := hF2.tr (m := ([16, 5, 6, 7, 8, 9, 10], [(0, 6)])) fb_51 (by decide)
                  exact hret (⟨hG, hF1, hF2, trivial⟩) hU hS dX12_leg_86
                ·
                  refine lv_aload_n hx hb dX12_leg_71 rfl (lv_at hl 0 rfl) ?_
                  refine g_0_6 C hU hG (h1_0 hG) fl_X12_160 dX12_leg_72 (fun x_53 e_54 le_54 ue_54 => ?_)
                  have te_54 := congrArg Int32.toInt e_54
                  refine lv_bipush (v := 40) hx hb dX12_leg_75 (by decide) ?_
                  refine b_icmp_ne (tgt := 87) hx hb dX12_leg_77 (by decide) (fun c_55 => ?_) (fun c_55 => ?_)
                  ·
                    refine lv_aload_n hx hb dX12_leg_87 rfl (lv_at hl 0 rfl) ?_
                    refine g_0_7 C hU hG (h1_0 hG) fl_X12_22 dX12_leg_88 ?_
                    refine lv_aload_n hx hb dX12_leg_91 rfl (lv_at hl 0 rfl) ?_
                    refine g_0_6 C hU hG (h1_0 hG) fl_X12_160 dX12_leg_92 (fun x_56 e_57 le_57 ue_57 => ?_)
                    have te_57 := congrArg Int32.toInt e_57
                    refine lv_iload_n hx hb dX12_leg_95 rfl (lv_at hl 1 rfl) ?_
                    refine s_5 C hU hS (h1_5 hG) (x := x_56) (by omega) (by omega) dX12_leg_96 (fun iv_58 H locs ei_59 hU hS => ?_)
                    have hG : GI al iv_58 rv := by rw [ei_59]; exact hG.puti (show _ ∧ _ from ⟨show (0 : Int) ≤ _ by omega, show _ ≤ (9 : Int) by omega⟩) (nsA (by decide) _)
                    have hF1 : FR ([16, 5, 6, 7, 8, 9, 10], [(0, 6)]) iv iv_58 := by rw [ei_59]; exact hF1.put (Or.inl (by decide))
                    have kf_60 := congrArg Int32.toInt (show iv_58 0 0 6 = iv 0 0 6 by rw [ei_59]; exact up3_ne (fun z => absurd z.1 (by decide)))
                    refine lv_aload_n hx hb dX12_leg_97 rfl (lv_at hl 0 rfl) ?_
                    refine g_0_8 C hU hG (h1_0 hG) fl_X12_25 dX12_leg_98 ?_
                    refine lv_aload_n hx hb dX12_leg_101 rfl (lv_at hl 0 rfl) ?_
                    refine g_0_6 C hU hG (h1_0 hG) fl_X12_160 dX12_leg_102 (fun x_61 e_62 le_62 ue_62 => ?_)
                    have te_62 := congrArg Int32.toInt e_62
                    refine lv_iload_n hx hb dX12_leg_105 rfl (lv_at hl 2 rfl) ?_
                    refine s_6 C hU hS (h1_6 hG) (x := x_61) (by omega) (by omega) dX12_leg_106 (fun iv_63 H locs ei_64 hU hS => ?_)
                    have hG : GI al iv_63 rv := by rw [ei_64]; exact hG.puti (show _ ∧ _ from ⟨show (0 : Int) ≤ _ by omega, show _ ≤ (9 : Int) by omega⟩) (nsA (by decide) _)
                    have hF1 : FR ([16, 5, 6, 7, 8, 9, 10], [(0, 6)]) iv iv_63 := by rw [ei_64]; exact hF1.put (Or.inl (by decide))
                    have kf_65 := congrArg Int32.toInt (show iv_63 0 0 6 = iv_58 0 0 6 by rw [ei_64]; exact up3_ne (fun z => absurd z.1 (by decide)))
                    refine lv_aload_n hx hb dX12_leg_107 rfl (lv_at hl 0 rfl) ?_
                    refine g_0_9 C hU hG (h1_0 hG) fl_X12_28 dX12_leg_108 ?_
                    refine lv_aload_n hx hb dX12_leg_111 rfl (lv_at hl 0 rfl) ?_
                    refine g_0_6 C hU hG (h1_0 hG) fl_X12_160 dX12_leg_112 (fun x_66 e_67 le_67 ue_67 => ?_)
                    have te_67 := congrArg Int32.toInt e_67
                    refine lv_iload_n hx hb dX12_leg_115 rfl (lv_at hl 3 rfl) ?_
                    refine s_7 C hU hS (h1_7 hG) (x := x_66) (by omega) (by omega) dX12_leg_116 (fun iv_68 H locs ei_69 hU hS => ?_)
                    have hG : GI al iv_68 rv := by rw [ei_69]; exact hG.puti (show _ ∧ _ from ⟨(fb_rng _).1, Int.le_of_lt_add_one (fb_rng _).2⟩) (nsA (by decide) _)
                    have hF1 : FR ([16, 5, 6, 7, 8, 9, 10], [(0, 6)]) iv iv_68 := by rw [ei_69]; exact hF1.put (Or.inl (by decide))
                    have kf_70 := congrArg Int32.toInt (show iv_68 0 0 6 = iv_63 0 0 6 by rw [ei_69]; exact up3_ne (fun z => absurd z.1 (by decide)))
                    refine lv_aload_n hx hb dX12_leg_117 rfl (lv_at hl 0 rfl) ?_
                    refine g_0_10 C hU hG (h1_0 hG) fl_X12_31 dX12_leg_118 ?_
                    refine lv_aload_n hx hb dX12_leg_121 rfl (lv_at hl 0 rfl) ?_
                    refine g_0_6 C hU hG (h1_0 hG) fl_X12_160 dX12_leg_122 (fun x_71 e_72 le_72 ue_72 => ?_)
                    have te_72 := congrArg Int32.toInt e_72
                    refine lv_iload hx hb dX12_leg_125 (lv_at hl 4 rfl) ?_
                    refine s_8 C hU hS (h1_8 hG) (x := x_71) (by omega) (by omega) dX12_leg_127 (fun iv_73 H locs ei_74 hU hS => ?_)
                    have hG : GI al iv_73 rv := by rw [ei_74]; exact hG.puti (show _ ∧ _ from ⟨(fb_rng _).1, Int.le_of_lt_add_one (fb_rng _).2⟩) (nsA (by decide) _)
                    have hF1 : FR ([16, 5, 6, 7, 8, 9, 10], [(0, 6)]) iv iv_73 := by rw [ei_74]; exact hF1.put (Or.inl (by decide))
                    have kf_75 := congrArg Int32.toInt (show iv_73 0 0 6 = iv_68 0 0 6 by rw [ei_74]; exact up3_ne (fun z => absurd z.1 (by decide)))
                    refine lv_aload_n hx hb dX12_leg_128 rfl (lv_at hl 0 rfl) ?_
                    refine g_0_11 C hU hG (h1_0 hG) fl_X12_34 dX12_leg_129 ?_
                    refine lv_aload_n hx hb dX12_leg_132 rfl (lv_at hl 0 rfl) ?_
                    refine g_0_6 C hU hG (h1_0 hG) fl_X12_160 dX12_leg_133 (fun x_76 e_77 le_77 ue_77 => ?_)
                    have te_77 := congrArg Int32.toInt e_77
                    refine lv_iload hx hb dX12_leg_136 (lv_at hl 5 rfl) ?_
                    refine s_9 C hU hS (h1_9 hG) (x := x_76) (by omega) (by omega) dX12_leg_138 (fun iv_78 H locs ei_79 hU hS => ?_)
                    have hG : GI al iv_78 rv := by rw [ei_79]; exact hG.put9 ⟨by omega, by omega⟩ (by omega) (by omega)
                    have hF1 : FR ([16, 5, 6, 7, 8, 9, 10], [(0, 6)]) iv iv_78 := by rw [ei_79]; exact hF1.put (Or.inl (by decide))
                    have kf_80 := congrArg Int32.toInt (show iv_78 0 0 6 = iv_73 0 0 6 by rw [ei_79]; exact up3_ne (fun z => absurd z.1 (by decide)))
                    refine lv_aload_n hx hb dX12_leg_139 rfl (lv_at hl 0 rfl) ?_
                    refine g_0_12 C hU hG (h1_0 hG) fl_X12_37 dX12_leg_140 ?_
                    refine lv_aload_n hx hb dX12_leg_143 rfl (lv_at hl 0 rfl) ?_
                    refine g_0_6 C hU hG (h1_0 hG) fl_X12_160 dX12_leg_144 (fun x_81 e_82 le_82 ue_82 => ?_)
                    have te_82 := congrArg Int32.toInt e_82
                    refine lv_iload hx hb dX12_leg_147 (lv_at hl 6 rfl) ?_
                    refine s_10 C hU hS (h1_10 hG) (x := x_81) (by omega) (by omega) dX12_leg_149 (fun iv_83 H locs ei_84 hU hS => ?_)
                    have hG : GI al iv_83 rv := by rw [ei_84]; exact hG.put10 ⟨by omega, by omega⟩ (by omega) (by omega)
                    have hF1 : FR ([16, 5, 6, 7, 8, 9, 10], [(0, 6)]) iv iv_83 := by rw [ei_84]; exact hF1.put (Or.inl (by decide))
                    have kf_85 := congrArg Int32.toInt (show iv_83 0 0 6 = iv_78 0 0 6 by rw [ei_84]; exact up3_ne (fun z => absurd z.1 (by decide)))
                    refine lv_aload_n hx hb dX12_leg_150 rfl (lv_at hl 0 rfl) ?_
                    refine lv_dup hx hb dX12_leg_151 rfl ?_
                    refine g_0_6 C hU hG (h1_0 hG) fl_X12_160 dX12_leg_152 (fun x_86 e_87 le_87 ue_87 => ?_)
                    have te_87 := congrArg Int32.toInt e_87
                    have a1 : iv_83 10 0 x_86.toNatClampNeg = rr := by rw [ei_84, clamp_eq (show x_86.toInt = x_81.toInt by omega)]; exact up3_self _ _ _ _ _
                    have a2 : iv_83 9 0 x_86.toNatClampNeg = lv_ := by rw [ei_84, up3_ne (fun z => absurd z.1 (by decide)), ei_79, clamp_eq (show x_86.toInt = x_76.toInt by omega)]; exact up3_self _ _ _ _ _
                    refine lv_iconst (v := 1) hx hb dX12_leg_155 (by decide) ?_
                    refine lv_iadd hx hb dX12_leg_156 ?_
                    refine lv_topi (fun x_88 e_89 => ?_)
                    have te_89 : x_88.toInt = (x_86 : Int32).toInt + (1 : Int32).toInt := by rw [e_89]; exact fb_addI (by omega) (by omega)
                    refine p_0_6 C hU hS (h1_0 hG) fl_X12_160 dX12_leg_157 (fun iv_90 H locs ei_91 hU hS => ?_)
                    have hG : GI al iv_90 rv := by rw [ei_91]; exact hG.put6 (x := x_86) ⟨by omega, by omega⟩ (by omega) (by omega) (by rw [a1, a2]; omega)
                    have hF1 : FR ([16, 5, 6, 7, 8, 9, 10], [(0, 6)]) iv iv_90 := by rw [ei_91]; exact hF1.put (by decide)
                    refine lv_aload_n hx hb dX12_leg_160 rfl (lv_at hl 0 rfl) ?_
                    refine g_0_6 C hU hG (h1_0 hG) fl_X12_160 dX12_leg_161 (fun x_92 e_93 le_93 ue_93 => ?_)
                    have te_93 := congrArg Int32.toInt e_93
                    refine lv_iconst (v := 1) hx hb dX12_leg_164 (by decide) ?_
                    refine lv_isub hx hb dX12_leg_165 ?_
                    refine lv_topi (fun x_94 e_95 => ?_)
                    have te_95 : x_94.toInt = (x_92 : Int32).toInt - (1 : Int32).toInt := by rw [e_95]; exact fb_subI (by omega) (by omega)
                    exact hret (⟨hG, hF1, hF2, trivial⟩) hU hS dX12_leg_166
                  ·
                    refine lv_aload_n hx hb dX12_leg_80 rfl (lv_at hl 0 rfl) ?_
                    refine lv_bipush (v := (-6)) hx hb dX12_leg_81 (by decide) ?_
                    refine q_fi (q_runV (t := 0) (i := 0) (As := [.int (-6)]) (rest := []) C hU (c_X12_refuse hG (-6) (by omega)) vm_X12_refuse ml_X12_164 k_0.1 (hc := rfl) rfl (h1_0 hG) hl.1 rfl rfl (Nat.le_of_ble_eq_true rfl) dX12_leg_83 rfl rfl ⟨Nat.le_of_ble_eq_true rfl, Nat.le_of_ble_eq_true rfl⟩ ⟨Nat.le_refl _, Nat.le_refl _⟩) hS (fun x_101 iv_97 rv_98 H locs hG fa_99 fb_100 hp_96 hU hS => ?_)
                    have hF1 := hF1.tr (m := ([16, 5, 6, 7, 8, 9, 10], [(0, 6)])) fa_99 (by decide)
                    have hF2 := hF2.tr (m := ([16, 5, 6, 7, 8, 9, 10], [(0, 6)])) fb_100 (by decide)
                    exact hret (⟨hG, hF1, hF2, trivial⟩) hU hS dX12_leg_86
              ·
                refine lv_aload_n hx hb dX12_leg_56 rfl (lv_at hl 0 rfl) ?_
                refine lv_bipush (v := (-4)) hx hb dX12_leg_57 (by decide) ?_
                refine q_fi (q_runV (t := 0) (i := 0) (As := [.int (-4)]) (rest := []) C hU (c_X12_refuse hG (-4) (by omega)) vm_X12_refuse ml_X12_164 k_0.1 (hc := rfl) rfl (h1_0 hG) hl.1 rfl rfl (Nat.le_of_ble_eq_true rfl) dX12_leg_59 rfl rfl ⟨Nat.le_of_ble_eq_true rfl, Nat.le_of_ble_eq_true rfl⟩ ⟨Nat.le_refl _, Nat.le_refl _⟩) hS (fun x_107 iv_103 rv_104 H locs hG fa_105 fb_106 hp_102 hU hS => ?_)
                have hF1 := hF1.tr (m := ([16, 5, 6, 7, 8, 9, 10], [(0, 6)])) fa_105 (by decide)
                have hF2 := hF2.tr (m := ([16, 5, 6, 7, 8, 9, 10], [(0, 6)])) fb_106 (by decide)
                exact hret (⟨hG, hF1, hF2, trivial⟩) hU hS dX12_leg_62
          ·
            refine lv_aload_n hx hb dX12_leg_38 rfl (lv_at hl 0 rfl) ?_
            refine lv_iconst (v := (-1)) hx hb dX12_leg_39 (by decide) ?_
            refine q_fi (q_runV (t := 0) (i := 0) (As := [.int (-1)]) (rest := []) C hU (c_X12_refuse hG (-1) (by omega)) vm_X12_refuse ml_X12_164 k_0.1 (hc := rfl) rfl (h1_0 hG) hl.1 rfl rfl (Nat.le_of_ble_eq_true rfl) dX12_leg_40 rfl rfl ⟨Nat.le_of_ble_eq_true rfl, Nat.le_of_ble_eq_true rfl⟩ ⟨Nat.le_refl _, Nat.le_refl _⟩) hS (fun x_113 iv_109 rv_110 H locs hG fa_111 fb_112 hp_108 hU hS => ?_)
            have hF1 := hF1.tr (m := ([16, 5, 6, 7, 8, 9, 10], [(0, 6)])) fa_111 (by decide)
            have hF2 := hF2.tr (m := ([16, 5, 6, 7, 8, 9, 10], [(0, 6)])) fb_112 (by decide)
            exact hret (⟨hG, hF1, hF2, trivial⟩) hU hS dX12_leg_43
set_option maxHeartbeats 4000000 in
set_option maxRecDepth 100000 in
theorem c_X12_traveller {l : Launch} {D : va_G} {cA : FieldType → ClassId} {sz : Nat} {al : Al} {iv : Iv} {rv : Rv} (hG : GI al iv rv) (lg : Int32) : Met l yX12_traveller (wd yX12_traveller cX12_traveller 2 (some .int)) (rm 2) (PcW D cA sz al iv rv [.ref (al.2 0 0), .int lg]) (QI D cA sz al (fI al ([16, 18, 19], [(0, 20)]) iv rv (fun r iv' rv' => True))) 0 0 (Aq sz) := by
  refine mk_i (by decide) (Nat.le_of_ble_eq_true rfl) rfl ?_
  intro p e s m args below meth c ls Q H locs C hU hS hl hret
  have hx := C.1.1
  have hb := C.1.2.1
  have hl : lv_has ls 2 [(0, .ref (al.2 0 0)), (1, .int lg)] := hl
  have hG0 := hG
  have h6 := le6 hG
  have h20 := le20 hG
  have h41 := le41 hG
  have hF1 : FR ([16, 18, 19], [(0, 20)]) iv iv := FR.rf
  have hF2 : FR ([16, 18, 19], [(0, 20)]) rv rv := FR.rf
  have km6 : ((-6) : Int32).toInt = -6 := by decide
  have km1 : ((-1) : Int32).toInt = -1 := by decide
  have k1 : (1 : Int32).toInt = 1 := by decide
  have k4 : (4 : Int32).toInt = 4 := by decide
  have k20 : (20 : Int32).toInt = 20 := by decide
  refine lv_aload_n hx hb dX12_traveller_0 rfl (lv_at hl 0 rfl) ?_
  refine lv_iload_n hx hb dX12_traveller_1 rfl (lv_at hl 1 rfl) ?_
  refine q_pi (q_runV (t := 0) (i := 0) (As := [.int lg]) (rest := []) C hU (c_X12_isLeg hG lg ) vm_X12_isLeg ml_X12_181 k_0.1 (hc := rfl) rfl (h1_0 hG) hl.1 rfl rfl (Nat.le_of_ble_eq_true rfl) dX12_traveller_2 rfl rfl ⟨Nat.le_of_ble_eq_true rfl, Nat.le_of_ble_eq_true rfl⟩ ⟨Nat.le_refl _, Nat.le_refl _⟩) hS (fun x_2 H locs hp_1 hU hS => ?_)
  refine b_if_ne (tgt := 14) hx hb dX12_traveller_5 (by decide) (fun c_3 => ?_) (fun c_3 => ?_)
  ·
    refine lv_aload_n hx hb dX12_traveller_14 rfl (lv_at hl 0 rfl) ?_
    refine g_0_20 C hU hG (h1_0 hG) fl_X12_223 dX12_traveller_15 (fun x_4 e_5 le_5 ue_5 => ?_)
    have te_5 := congrArg Int32.toInt e_5
    refine lv_bipush (v := 20) hx hb dX12_traveller_18 (by decide) ?_
    refine b_icmp_ne (tgt := 30) hx hb dX12_traveller_20 (by decide) (fun c_6 => ?_) (fun c_6 => ?_)
    ·
      refine lv_aload_n hx hb dX12_traveller_30 rfl (lv_at hl 0 rfl) ?_
      refine g_0_21 C hU hG (h1_0 hG) fl_X12_62 dX12_traveller_31 ?_
      refine lv_iconst (v := 4) hx hb dX12_traveller_34 (by decide) ?_
      refine lv_aload_n hx hb dX12_traveller_35 rfl (lv_at hl 0 rfl) ?_
      refine g_0_20 C hU hG (h1_0 hG) fl_X12_223 dX12_traveller_36 (fun x_7 e_8 le_8 ue_8 => ?_)
      have te_8 := congrArg Int32.toInt e_8
      refine lv_imul hx hb dX12_traveller_39 ?_
      refine lv_topi (fun x_9 e_10 => ?_)
      have te_10 : x_9.toInt = 4 * (x_7 : Int32).toInt := by rw [e_10, fb_mulI (by rw [show (4 : Int32).toInt = 4 from by decide]; omega) (by rw [show (4 : Int32).toInt = 4 from by decide]; omega), show (4 : Int32).toInt = 4 from by decide]
      refine lv_iload_n hx hb dX12_traveller_40 rfl (lv_at hl 1 rfl) ?_
      refine s_18 C hU hS (h1_18 hG) (x := x_9) (by omega) (by omega) dX12_traveller_41 (fun iv_11 H locs ei_12 hU hS => ?_)
      have hG : GI al iv_11 rv := by rw [ei_12]; exact hG.puti (show _ ∧ _ from ⟨show (0 : Int) ≤ _ by omega, show _ ≤ (39 : Int) by omega⟩) (nsA (by decide) _)
      have hF1 : FR ([16, 18, 19], [(0, 20)]) iv iv_11 := by rw [ei_12]; exact hF1.put (Or.inl (by decide))
      have kf_13 := congrArg Int32.toInt (show iv_11 0 0 20 = iv 0 0 20 by rw [ei_12]; exact up3_ne (fun z => absurd z.1 (by decide)))
      refine lv_aload_n hx hb dX12_traveller_42 rfl (lv_at hl 0 rfl) ?_
      refine g_0_22 C hU hG (h1_0 hG) fl_X12_65 dX12_traveller_43 ?_
      refine lv_aload_n hx hb dX12_traveller_46 rfl (lv_at hl 0 rfl) ?_
      refine g_0_20 C hU hG (h1_0 hG) fl_X12_223 dX12_traveller_47 (fun x_14 e_15 le_15 ue_15 => ?_)
      have te_15 := congrArg Int32.toInt e_15
      refine lv_iconst (v := 1) hx hb dX12_traveller_50 (by decide) ?_
      refine s_19 C hU hS (h1_19 hG) (x := x_14) (by omega) (by omega) dX12_traveller_51 (fun iv_16 H locs ei_17 hU hS => ?_)
      have hG : GI al iv_16 rv := by rw [ei_17]; exact hG.put19 ⟨by omega, by omega⟩
      have hF1 : FR ([16, 18, 19], [(0, 20)]) iv iv_16 := by rw [ei_17]; exact hF1.put (Or.inl (by decide))
      have kf_18 := congrArg Int32.toInt (show iv_16 0 0 20 = iv_11 0 0 20 by rw [ei_17]; exact up3_ne (fun z => absurd z.1 (by decide)))
      refine lv_aload_n hx hb dX12_traveller_52 rfl (lv_at hl 0 rfl) ?_
      refine lv_dup hx hb dX12_traveller_53 rfl ?_
      refine g_0_20 C hU hG (h1_0 hG) fl_X12_223 dX12_traveller_54 (fun x_19 e_20 le_20 ue_20 => ?_)
      have te_20 := congrArg Int32.toInt e_20
      have a1 : iv_16 19 0 x_19.toNatClampNeg = 1 := by rw [ei_17, clamp_eq (show x_19.toInt = x_14.toInt by omega)]; exact up3_self _ _ _ _ _
      refine lv_iconst (v := 1) hx hb dX12_traveller_57 (by decide) ?_
      refine lv_iadd hx hb dX12_traveller_58 ?_
      refine lv_topi (fun x_21 e_22 => ?_)
      have te_22 : x_21.toInt = (x_19 : Int32).toInt + (1 : Int32).toInt := by rw [e_22]; exact fb_addI (by omega) (by omega)
      refine p_0_20 C hU hS (h1_0 hG) fl_X12_223 dX12_traveller_59 (fun iv_23 H locs ei_24 hU hS => ?_)
      have hG : GI al iv_23 rv := by rw [ei_24]; exact hG.put20 (x := x_19) ⟨by omega, by omega⟩ (by omega) (by omega) (by rw [a1]; omega)
      have hF1 : FR ([16, 18, 19], [(0, 20)]) iv iv_23 := by rw [ei_24]; exact hF1.put (by decide)
      refine lv_aload_n hx hb dX12_traveller_62 rfl (lv_at hl 0 rfl) ?_
      refine g_0_20 C hU hG (h1_0 hG) fl_X12_223 dX12_traveller_63 (fun x_25 e_26 le_26 ue_26 => ?_)
      have te_26 := congrArg Int32.toInt e_26
      refine lv_iconst (v := 1) hx hb dX12_traveller_66 (by decide) ?_
      refine lv_isub hx hb dX12_traveller_67 ?_
      refine lv_topi (fun x_27 e_28 => ?_)
      have te_28 : x_27.toInt = (x_25 : Int32).toInt - (1 : Int32).toInt := by rw [e_28]; exact fb_subI (by omega) (by omega)
      exact hret (⟨hG, hF1, hF2, trivial⟩) hU hS dX12_traveller_68
    ·
      refine lv_aload_n hx hb dX12_traveller_23 rfl (lv_at hl 0 rfl) ?_
      refine lv_bipush (v := (-6)) hx hb dX12_traveller_24 (by decide) ?_
      refine q_fi (q_runV (t := 0) (i := 0) (As := [.int (-6)]) (rest := []) C hU (c_X12_refuse hG (-6) (by omega)) vm_X12_refuse ml_X12_164 k_0.1 (hc := rfl) rfl (h1_0 hG) hl.1 rfl rfl (Nat.le_of_ble_eq_true rfl) dX12_traveller_26 rfl rfl ⟨Nat.le_of_ble_eq_true rfl, Nat.le_of_ble_eq_true rfl⟩ ⟨Nat.le_refl _, Nat.le_refl _⟩) hS (fun x_34 iv_30 rv_31 H locs hG fa_32 fb_33 hp_29 hU hS => ?_)
      have hF1 := hF1.tr (m := ([16, 18, 19], [(0, 20)])) fa_32 (by decide)
      have hF2 := hF2.tr (m := ([16, 18, 19], [(0, 20)])) fb_33 (by decide)
      exact hret (⟨hG, hF1, hF2, trivial⟩) hU hS dX12_traveller_29
  ·
    refine lv_aload_n hx hb dX12_traveller_8 rfl (lv_at hl 0 rfl) ?_
    refine lv_iconst (v := (-1)) hx hb dX12_traveller_9 (by decide) ?_
    refine q_fi (q_runV (t := 0) (i := 0) (As := [.int (-1)]) (rest := []) C hU (c_X12_refuse hG (-1) (by omega)) vm_X12_refuse ml_X12_164 k_0.1 (hc := rfl) rfl (h1_0 hG) hl.1 rfl rfl (Nat.le_of_ble_eq_true rfl) dX12_traveller_10 rfl rfl ⟨Nat.le_of_ble_eq_true rfl, Nat.le_of_ble_eq_true rfl⟩ ⟨Nat.le_refl _, Nat.le_refl _⟩) hS (fun x_40 iv_36 rv_37 H locs hG fa_38 fb_39 hp_35 hU hS => ?_)
    have hF1 := hF1.tr (m := ([16, 18, 19], [(0, 20)])) fa_38 (by decide)
    have hF2 := hF2.tr (m := ([16, 18, 19], [(0, 20)])) fb_39 (by decide)
    exact hret (⟨hG, hF1, hF2, trivial⟩) hU hS dX12_traveller_13
set_option maxHeartbeats 4000000 in
set_option maxRecDepth 100000 in
theorem c_X12_then {l : Launch} {D : va_G} {cA : FieldType → ClassId} {sz : Nat} {al : Al} {iv : Iv} {rv : Rv} (hG : GI al iv rv) (tt : Int32) (lg : Int32) : Met l yX12_then (wd yX12_then cX12_then 4 (some .int)) (rm 2) (PcW D cA sz al iv rv [.ref (al.2 0 0), .int tt, .int lg]) (QI D cA sz al (fI al ([16, 18, 19], []) iv rv (fun r iv' rv' => True))) 0 0 (Aq sz) := by
  refine mk_i (by decide) (Nat.le_of_ble_eq_true rfl) rfl ?_
  intro p e s m args below meth c ls Q H locs C hU hS hl hret
  have hx := C.1.1
  have hb := C.1.2.1
  have hl : lv_has ls 4 [(0, .ref (al.2 0 0)), (1, .int tt), (2, .int lg)] := hl
  have hG0 := hG
  have h6 := le6 hG
  have h20 := le20 hG
  have h41 := le41 hG
  have hF1 : FR ([16, 18, 19], []) iv iv := FR.rf
  have hF2 : FR ([16, 18, 19], []) rv rv := FR.rf
  have km6 : ((-6) : Int32).toInt = -6 := by decide
  have km3 : ((-3) : Int32).toInt = -3 := by decide
  have km1 : ((-1) : Int32).toInt = -1 := by decide
  have k1 : (1 : Int32).toInt = 1 := by decide
  have k2 : (2 : Int32).toInt = 2 := by decide
  have k4 : (4 : Int32).toInt = 4 := by decide
  refine lv_aload_n hx hb dX12_then_0 rfl (lv_at hl 0 rfl) ?_
  refine lv_iload_n hx hb dX12_then_1 rfl (lv_at hl 1 rfl) ?_
  refine q_pi (q_runV (t := 0) (i := 0) (As := [.int tt]) (rest := []) C hU (c_X12_isTraveller hG tt ) vm_X12_isTraveller ml_X12_226 k_0.1 (hc := rfl) rfl (h1_0 hG) hl.1 rfl rfl (Nat.le_of_ble_eq_true rfl) dX12_then_2 rfl rfl ⟨Nat.le_of_ble_eq_true rfl, Nat.le_of_ble_eq_true rfl⟩ ⟨Nat.le_refl _, Nat.le_refl _⟩) hS (fun x_2 H locs hp_1 hU hS => ?_)
  refine b_if_eq (tgt := 16) hx hb dX12_then_5 (by decide) (fun c_3 => ?_) (fun c_3 => ?_)
  ·
    refine lv_aload_n hx hb dX12_then_16 rfl (lv_at hl 0 rfl) ?_
    refine lv_iconst (v := (-1)) hx hb dX12_then_17 (by decide) ?_
    refine q_fi (q_runV (t := 0) (i := 0) (As := [.int (-1)]) (rest := []) C hU (c_X12_refuse hG (-1) (by omega)) vm_X12_refuse ml_X12_164 k_0.1 (hc := rfl) rfl (h1_0 hG) hl.1 rfl rfl (Nat.le_of_ble_eq_true rfl) dX12_then_18 rfl rfl ⟨Nat.le_of_ble_eq_true rfl, Nat.le_of_ble_eq_true rfl⟩ ⟨Nat.le_refl _, Nat.le_refl _⟩) hS (fun x_9 iv_5 rv_6 H locs hG fa_7 fb_8 hp_4 hU hS => ?_)
    have hF1 := hF1.tr (m := ([16, 18, 19], [])) fa_7 (by decide)
    have hF2 := hF2.tr (m := ([16, 18, 19], [])) fb_8 (by decide)
    exact hret (⟨hG, hF1, hF2, trivial⟩) hU hS dX12_then_21
  ·
    refine lv_aload_n hx hb dX12_then_8 rfl (lv_at hl 0 rfl) ?_
    refine lv_iload_n hx hb dX12_then_9 rfl (lv_at hl 2 rfl) ?_
    refine q_pi (q_runV (t := 0) (i := 0) (As := [.int lg]) (rest := []) C hU (c_X12_isLeg hG lg ) vm_X12_isLeg ml_X12_181 k_0.1 (hc := rfl) rfl (h1_0 hG) hl.1 rfl rfl (Nat.le_of_ble_eq_true rfl) dX12_then_10 rfl rfl ⟨Nat.le_of_ble_eq_true rfl, Nat.le_of_ble_eq_true rfl⟩ ⟨Nat.le_refl _, Nat.le_refl _⟩) hS (fun x_11 H locs hp_10 hU hS => ?_)
    refine b_if_ne (tgt := 22) hx hb dX12_then_13 (by decide) (fun c_12 => ?_) (fun c_12 => ?_)
    ·
      refine lv_aload_n hx hb dX12_then_22 rfl (lv_at hl 0 rfl) ?_
      have hq := rm1 hG (x := tt) (by omega) (by omega)
      refine g_0_21 C hU hG (h1_0 hG) fl_X12_62 dX12_then_23 ?_
      refine lv_iconst (v := 4) hx hb dX12_then_26 (by decide) ?_
      refine lv_iload_n hx hb dX12_then_27 rfl (lv_at hl 1 rfl) ?_
      refine lv_imul hx hb dX12_then_28 ?_
      refine lv_topi (fun x_13 e_14 => ?_)
      have te_14 : x_13.toInt = 4 * (tt : Int32).toInt := by rw [e_14, fb_mulI (by rw [show (4 : Int32).toInt = 4 from by decide]; omega) (by rw [show (4 : Int32).toInt = 4 from by decide]; omega), show (4 : Int32).toInt = 4 from by decide]
      refine lv_aload_n hx hb dX12_then_29 rfl (lv_at hl 0 rfl) ?_
      refine g_0_22 C hU hG (h1_0 hG) fl_X12_65 dX12_then_30 ?_
      refine lv_iload_n hx hb dX12_then_33 rfl (lv_at hl 1 rfl) ?_
      refine a_19 C hU hG (h1_19 hG) (x := tt) (by omega) (by omega) dX12_then_34 (fun x_15 e_16 le_16 ue_16 => ?_)
      have te_16 := congrArg Int32.toInt e_16
      refine lv_iadd hx hb dX12_then_35 ?_
      refine lv_topi (fun x_17 e_18 => ?_)
      have te_18 : x_17.toInt = (x_13 : Int32).toInt + (x_15 : Int32).toInt := by rw [e_18]; exact fb_addI (by omega) (by omega)
      refine lv_iconst (v := 1) hx hb dX12_then_36 (by decide) ?_
      refine lv_isub hx hb dX12_then_37 ?_
      refine lv_topi (fun x_19 e_20 => ?_)
      have te_20 : x_19.toInt = (x_17 : Int32).toInt - (1 : Int32).toInt := by rw [e_20]; exact fb_subI (by omega) (by omega)
      refine a_18 C hU hG (h1_18 hG) (x := x_19) (by omega) (by omega) dX12_then_38 (fun x_21 e_22 le_22 ue_22 => ?_)
      have te_22 := congrArg Int32.toInt e_22
      refine lv_istore_n (lv' := [(3, .int x_21), (0, .ref (al.2 0 0)), (1, .int tt), (2, .int lg)]) hx hb dX12_then_39 rfl hl (by decide) rfl (fun ls hl => ?_)
      refine lv_aload_n hx hb dX12_then_40 rfl (lv_at hl 1 rfl) ?_
      refine g_0_7 C hU hG (h1_0 hG) fl_X12_22 dX12_then_41 ?_
      refine lv_iload_n hx hb dX12_then_44 rfl (lv_at hl 3 rfl) ?_
      refine a_5 C hU hG (h1_5 hG) (x := lg) (by omega) (by omega) dX12_then_45 (fun x_23 e_24 le_24 ue_24 => ?_)
      have te_24 := congrArg Int32.toInt e_24
      refine lv_aload_n hx hb dX12_then_46 rfl (lv_at hl 1 rfl) ?_
      refine g_0_8 C hU hG (h1_0 hG) fl_X12_25 dX12_then_47 ?_
      refine lv_iload_n hx hb dX12_then_50 rfl (lv_at hl 0 rfl) ?_
      refine a_6 C hU hG (h1_6 hG) (x := x_21) (by omega) (by omega) dX12_then_51 (fun x_25 e_26 le_26 ue_26 => ?_)
      have te_26 := congrArg Int32.toInt e_26
      refine b_icmp_ne (tgt := 77) hx hb dX12_then_52 (by decide) (fun c_27 => ?_) (fun c_27 => ?_)
      ·
        refine lv_aload_n hx hb dX12_then_77 rfl (lv_at hl 1 rfl) ?_
        refine lv_bipush (v := (-3)) hx hb dX12_then_78 (by decide) ?_
        refine q_fi (q_runV (t := 0) (i := 0) (As := [.int (-3)]) (rest := []) C hU (c_X12_refuse hG (-3) (by omega)) vm_X12_refuse ml_X12_164 k_0.1 (hc := rfl) rfl (h1_0 hG) hl.1 rfl rfl (Nat.le_of_ble_eq_true rfl) dX12_then_80 rfl rfl ⟨Nat.le_of_ble_eq_true rfl, Nat.le_of_ble_eq_true rfl⟩ ⟨Nat.le_refl _, Nat.le_refl _⟩) hS (fun x_33 iv_29 rv_30 H locs hG fa_31 fb_32 hp_28 hU hS => ?_)
        have hF1 := hF1.tr (m := ([16, 18, 19], [])) fa_31 (by decide)
        have hF2 := hF2.tr (m := ([16, 18, 19], [])) fb_32 (by decide)
        exact hret (⟨hG, hF1, hF2, trivial⟩) hU hS dX12_then_83
      ·
        refine lv_aload_n hx hb dX12_then_55 rfl (lv_at hl 1 rfl) ?_
        refine g_0_11 C hU hG (h1_0 hG) fl_X12_34 dX12_then_56 ?_
        refine lv_iload_n hx hb dX12_then_59 rfl (lv_at hl 3 rfl) ?_
        refine a_9 C hU hG (h1_9 hG) (x := lg) (by omega) (by omega) dX12_then_60 (fun x_34 e_35 le_35 ue_35 => ?_)
        have te_35 := congrArg Int32.toInt e_35
        refine lv_aload_n hx hb dX12_then_61 rfl (lv_at hl 1 rfl) ?_
        refine g_0_12 C hU hG (h1_0 hG) fl_X12_37 dX12_then_62 ?_
        refine lv_iload_n hx hb dX12_then_65 rfl (lv_at hl 0 rfl) ?_
        refine a_10 C hU hG (h1_10 hG) (x := x_21) (by omega) (by omega) dX12_then_66 (fun x_36 e_37 le_37 ue_37 => ?_)
        have te_37 := congrArg Int32.toInt e_37
        refine lv_aload_n hx hb dX12_then_67 rfl (lv_at hl 1 rfl) ?_
        refine g_0_17 C hU hG (h1_0 hG) fl_X12_53 dX12_then_68 ?_
        refine lv_iconst (v := 2) hx hb dX12_then_71 (by decide) ?_
        refine a_15 C hU hG (h1_15 hG) (x := 2) (by omega) (by omega) dX12_then_72 (fun x_38 e_39 le_39 ue_39 => ?_)
        have te_39 := congrArg Int32.toInt e_39
        refine lv_iadd hx hb dX12_then_73 ?_
        refine lv_topi (fun x_40 e_41 => ?_)
        have te_41 : x_40.toInt = (x_36 : Int32).toInt + (x_38 : Int32).toInt := by rw [e_41]; exact fb_addI (by omega) (by omega)
        refine b_icmp_ge (tgt := 84) hx hb dX12_then_74 (by decide) (fun c_42 => ?_) (fun c_42 => ?_)
        ·
          refine lv_aload_n hx hb dX12_then_84 rfl (lv_at hl 1 rfl) ?_
          refine g_0_22 C hU hG (h1_0 hG) fl_X12_65 dX12_then_85 ?_
          refine lv_iload_n hx hb dX12_then_88 rfl (lv_at hl 2 rfl) ?_
          refine a_19 C hU hG (h1_19 hG) (x := tt) (by omega) (by omega) dX12_then_89 (fun x_43 e_44 le_44 ue_44 => ?_)
          have te_44 := congrArg Int32.toInt e_44
          refine lv_iconst (v := 4) hx hb dX12_then_90 (by decide) ?_
          refine b_icmp_ne (tgt := 101) hx hb dX12_then_91 (by decide) (fun c_45 => ?_) (fun c_45 => ?_)
          ·
            refine lv_aload_n hx hb dX12_then_101 rfl (lv_at hl 1 rfl) ?_
            refine g_0_21 C hU hG (h1_0 hG) fl_X12_62 dX12_then_102 ?_
            refine lv_iconst (v := 4) hx hb dX12_then_105 (by decide) ?_
            refine lv_iload_n hx hb dX12_then_106 rfl (lv_at hl 2 rfl) ?_
            refine lv_imul hx hb dX12_then_107 ?_
            refine lv_topi (fun x_46 e_47 => ?_)
            have te_47 : x_46.toInt = 4 * (tt : Int32).toInt := by rw [e_47, fb_mulI (by rw [show (4 : Int32).toInt = 4 from by decide]; omega) (by rw [show (4 : Int32).toInt = 4 from by decide]; omega), show (4 : Int32).toInt = 4 from by decide]
            refine lv_aload_n hx hb dX12_then_108 rfl (lv_at hl 1 rfl) ?_
            refine g_0_22 C hU hG (h1_0 hG) fl_X12_65 dX12_then_109 ?_
            refine lv_iload_n hx hb dX12_then_112 rfl (lv_at hl 2 rfl) ?_
            refine a_19 C hU hG (h1_19 hG) (x := tt) (by omega) (by omega) dX12_then_113 (fun x_48 e_49 le_49 ue_49 => ?_)
            have te_49 := congrArg Int32.toInt e_49
            refine lv_iadd hx hb dX12_then_114 ?_
            refine lv_topi (fun x_50 e_51 => ?_)
            have te_51 : x_50.toInt = (x_46 : Int32).toInt + (x_48 : Int32).toInt := by rw [e_51]; exact fb_addI (by omega) (by omega)
            refine lv_iload_n hx hb dX12_then_115 rfl (lv_at hl 3 rfl) ?_
            refine s_18 C hU hS (h1_18 hG) (x := x_50) (by omega) (by omega) dX12_then_116 (fun iv_52 H locs ei_53 hU hS => ?_)
            have hG : GI al iv_52 rv := by rw [ei_53]; exact hG.puti (show _ ∧ _ from ⟨show (0 : Int) ≤ _ by omega, show _ ≤ (39 : Int) by omega⟩) (nsA (by decide) _)
            have hF1 : FR ([16, 18, 19], []) iv iv_52 := by rw [ei_53]; exact hF1.put (Or.inl (by decide))
            have kf_54 := congrArg Int32.toInt (show iv_52 19 0 tt.toNatClampNeg = iv 19 0 tt.toNatClampNeg by rw [ei_53]; exact up3_ne (fun z => absurd z.1 (by decide)))
            refine lv_aload_n hx hb dX12_then_117 rfl (lv_at hl 1 rfl) ?_
            refine g_0_22 C hU hG (h1_0 hG) fl_X12_65 dX12_then_118 ?_
            refine lv_iload_n hx hb dX12_then_121 rfl (lv_at hl 2 rfl) ?_
            refine lv_dup2_11 hx hb dX12_then_122 rfl rfl ?_
            refine a_19 C hU hG (h1_19 hG) (x := tt) (by omega) (by omega) dX12_then_123 (fun x_55 e_56 le_56 ue_56 => ?_)
            have te_56 := congrArg Int32.toInt e_56
            refine lv_iconst (v := 1) hx hb dX12_then_124 (by decide) ?_
            refine lv_iadd hx hb dX12_then_125 ?_
            refine lv_topi (fun x_57 e_58 => ?_)
            have te_58 : x_57.toInt = (x_55 : Int32).toInt + (1 : Int32).toInt := by rw [e_58]; exact fb_addI (by omega) (by omega)
            refine s_19 C hU hS (h1_19 hG) (x := tt) (by omega) (by omega) dX12_then_126 (fun iv_59 H locs ei_60 hU hS => ?_)
            have hG : GI al iv_59 rv := by rw [ei_60]; exact hG.put19 ⟨by omega, by omega⟩
            have hF1 : FR ([16, 18, 19], []) iv iv_59 := by rw [ei_60]; exact hF1.put (Or.inl (by decide))
            refine lv_aload_n hx hb dX12_then_127 rfl (lv_at hl 1 rfl) ?_
            refine g_0_22 C hU hG (h1_0 hG) fl_X12_65 dX12_then_128 ?_
            refine lv_iload_n hx hb dX12_then_131 rfl (lv_at hl 2 rfl) ?_
            refine a_19 C hU hG (h1_19 hG) (x := tt) (by omega) (by omega) dX12_then_132 (fun x_61 e_62 le_62 ue_62 => ?_)
            have te_62 := congrArg Int32.toInt e_62
            exact hret (⟨hG, hF1, hF2, trivial⟩) hU hS dX12_then_133
          ·
            refine lv_aload_n hx hb dX12_then_94 rfl (lv_at hl 1 rfl) ?_
            refine lv_bipush (v := (-6)) hx hb dX12_then_95 (by decide) ?_
            refine q_fi (q_runV (t := 0) (i := 0) (As := [.int (-6)]) (rest := []) C hU (c_X12_refuse hG (-6) (by omega)) vm_X12_refuse ml_X12_164 k_0.1 (hc := rfl) rfl (h1_0 hG) hl.1 rfl rfl (Nat.le_of_ble_eq_true rfl) dX12_then_97 rfl rfl ⟨Nat.le_of_ble_eq_true rfl, Nat.le_of_ble_eq_true rfl⟩ ⟨Nat.le_refl _, Nat.le_refl _⟩) hS (fun x_68 iv_64 rv_65 H locs hG fa_66 fb_67 hp_63 hU hS => ?_)
            have hF1 := hF1.tr (m := ([16, 18, 19], [])) fa_66 (by decide)
            have hF2 := hF2.tr (m := ([16, 18, 19], [])) fb_67 (by decide)
            exact hret (⟨hG, hF1, hF2, trivial⟩) hU hS dX12_then_100
        ·
          refine lv_aload_n hx hb dX12_then_77 rfl (lv_at hl 1 rfl) ?_
          refine lv_bipush (v := (-3)) hx hb dX12_then_78 (by decide) ?_
          refine q_fi (q_runV (t := 0) (i := 0) (As := [.int (-3)]) (rest := []) C hU (c_X12_refuse hG (-3) (by omega)) vm_X12_refuse ml_X12_164 k_0.1 (hc := rfl) rfl (h1_0 hG) hl.1 rfl rfl (Nat.le_of_ble_eq_true rfl) dX12_then_80 rfl rfl ⟨Nat.le_of_ble_eq_true rfl, Nat.le_of_ble_eq_true rfl⟩ ⟨Nat.le_refl _, Nat.le_refl _⟩) hS (fun x_74 iv_70 rv_71 H locs hG fa_72 fb_73 hp_69 hU hS => ?_)
          have hF1 := hF1.tr (m := ([16, 18, 19], [])) fa_72 (by decide)
          have hF2 := hF2.tr (m := ([16, 18, 19], [])) fb_73 (by decide)
          exact hret (⟨hG, hF1, hF2, trivial⟩) hU hS dX12_then_83
    ·
      refine lv_aload_n hx hb dX12_then_16 rfl (lv_at hl 0 rfl) ?_
      refine lv_iconst (v := (-1)) hx hb dX12_then_17 (by decide) ?_
      refine q_fi (q_runV (t := 0) (i := 0) (As := [.int (-1)]) (rest := []) C hU (c_X12_refuse hG (-1) (by omega)) vm_X12_refuse ml_X12_164 k_0.1 (hc := rfl) rfl (h1_0 hG) hl.1 rfl rfl (Nat.le_of_ble_eq_true rfl) dX12_then_18 rfl rfl ⟨Nat.le_of_ble_eq_true rfl, Nat.le_of_ble_eq_true rfl⟩ ⟨Nat.le_refl _, Nat.le_refl _⟩) hS (fun x_80 iv_76 rv_77 H locs hG fa_78 fb_79 hp_75 hU hS => ?_)
      have hF1 := hF1.tr (m := ([16, 18, 19], [])) fa_78 (by decide)
      have hF2 := hF2.tr (m := ([16, 18, 19], [])) fb_79 (by decide)
      exact hret (⟨hG, hF1, hF2, trivial⟩) hU hS dX12_then_21
set_option maxHeartbeats 4000000 in
set_option maxRecDepth 100000 in
theorem c_X12_claim {l : Launch} {D : va_G} {cA : FieldType → ClassId} {sz : Nat} {al : Al} {iv : Iv} {rv : Rv} (hG : GI al iv rv) (tt : Int32) : Met l yX12_claim (wd yX12_claim cX12_claim 3 (some .int)) (rm 2) (PcW D cA sz al iv rv [.ref (al.2 0 0), .int tt]) (QI D cA sz al (fI al ([16, 35, 36], [(0, 41)]) iv rv (fun r iv' rv' => True))) 0 0 (Aq sz) := by
  refine mk_i (by decide) (Nat.le_of_ble_eq_true rfl) rfl ?_
  intro p e s m args below meth c ls Q H locs C hU hS hl hret
  have hx := C.1.1
  have hb := C.1.2.1
  have hl : lv_has ls 3 [(0, .ref (al.2 0 0)), (1, .int tt)] := hl
  have hG0 := hG
  have h6 := le6 hG
  have h20 := le20 hG
  have h41 := le41 hG
  have hF1 : FR ([16, 35, 36], [(0, 41)]) iv iv := FR.rf
  have hF2 : FR ([16, 35, 36], [(0, 41)]) rv rv := FR.rf
  have km6 : ((-6) : Int32).toInt = -6 := by decide
  have km3 : ((-3) : Int32).toInt = -3 := by decide
  have km1 : ((-1) : Int32).toInt = -1 := by decide
  have k0 : (0 : Int32).toInt = 0 := by decide
  have k1 : (1 : Int32).toInt = 1 := by decide
  have k30 : (30 : Int32).toInt = 30 := by decide
  refine lv_aload_n hx hb dX12_claim_0 rfl (lv_at hl 0 rfl) ?_
  refine lv_iload_n hx hb dX12_claim_1 rfl (lv_at hl 1 rfl) ?_
  refine q_pi (q_runV (t := 0) (i := 0) (As := [.int tt]) (rest := []) C hU (c_X12_isTraveller hG tt ) vm_X12_isTraveller ml_X12_226 k_0.1 (hc := rfl) rfl (h1_0 hG) hl.1 rfl rfl (Nat.le_of_ble_eq_true rfl) dX12_claim_2 rfl rfl ⟨Nat.le_of_ble_eq_true rfl, Nat.le_of_ble_eq_true rfl⟩ ⟨Nat.le_refl _, Nat.le_refl _⟩) hS (fun x_2 H locs hp_1 hU hS => ?_)
  refine b_if_ne (tgt := 14) hx hb dX12_claim_5 (by decide) (fun c_3 => ?_) (fun c_3 => ?_)
  ·
    refine lv_iconst (v := 0) hx hb dX12_claim_14 (by decide) ?_
    refine lv_istore_n (lv' := [(2, .int 0), (0, .ref (al.2 0 0)), (1, .int tt)]) hx hb dX12_claim_15 rfl hl (by decide) rfl (fun ls hl => ?_)
    have J_16 : ∀ (n_16 : Nat) (l2_4 : Int32) (ls : Array Slot), lv_has ls 3 [(0, .ref (al.2 0 0)), (1, .int tt), (2, .int l2_4)] → (0 ≤ l2_4.toInt ∧ l2_4.toInt ≤ 30) → (30 - l2_4.toInt).toNat < n_16 → W p l e (rm 2) s m args below meth c H locs 0 0 Q (F0 m 16 ls []) := by
      intro n_16
      induction n_16 with
      | zero =>
        intro l2_4 ls hl i16_0 hm_16
        exact absurd hm_16 (Nat.not_lt_zero _)
      | succ n_16 ih_16 =>
        intro l2_4 ls hl i16_0 hm_16
        refine lv_iload_n hx hb dX12_claim_16 rfl (lv_at hl 2 rfl) ?_
        refine lv_aload_n hx hb dX12_claim_17 rfl (lv_at hl 0 rfl) ?_
        refine g_0_41 C hU hG (h1_0 hG) fl_X12_275 dX12_claim_18 (fun x_5 e_6 le_6 ue_6 => ?_)
        have te_6 := congrArg Int32.toInt e_6
        refine b_icmp_ge (tgt := 47) hx hb dX12_claim_21 (by decide) (fun c_7 => ?_) (fun c_7 => ?_)
        ·
          refine lv_aload_n hx hb dX12_claim_47 rfl (lv_at hl 0 rfl) ?_
          refine g_0_41 C hU hG (h1_0 hG) fl_X12_275 dX12_claim_48 (fun x_8 e_9 le_9 ue_9 => ?_)
          have te_9 := congrArg Int32.toInt e_9
          refine lv_bipush (v := 30) hx hb dX12_claim_51 (by decide) ?_
          refine b_icmp_ne (tgt := 63) hx hb dX12_claim_53 (by decide) (fun c_10 => ?_) (fun c_10 => ?_)
          ·
            refine lv_aload_n hx hb dX12_claim_63 rfl (lv_at hl 0 rfl) ?_
            refine g_0_42 C hU hG (h1_0 hG) fl_X12_113 dX12_claim_64 ?_
            refine lv_aload_n hx hb dX12_claim_67 rfl (lv_at hl 0 rfl) ?_
            refine g_0_41 C hU hG (h1_0 hG) fl_X12_275 dX12_claim_68 (fun x_11 e_12 le_12 ue_12 => ?_)
            have te_12 := congrArg Int32.toInt e_12
            refine lv_iload_n hx hb dX12_claim_71 rfl (lv_at hl 1 rfl) ?_
            refine s_35 C hU hS (h1_35 hG) (x := x_11) (by omega) (by omega) dX12_claim_72 (fun iv_13 H locs ei_14 hU hS => ?_)
            have hG : GI al iv_13 rv := by rw [ei_14]; exact hG.put35 ⟨by omega, by omega⟩ (by omega)
            have hF1 : FR ([16, 35, 36], [(0, 41)]) iv iv_13 := by rw [ei_14]; exact hF1.put (Or.inl (by decide))
            have kf_15 := congrArg Int32.toInt (show iv_13 0 0 20 = iv 0 0 20 by rw [ei_14]; exact up3_ne (fun z => absurd z.1 (by decide)))
            have kf_16 := congrArg Int32.toInt (show iv_13 0 0 41 = iv 0 0 41 by rw [ei_14]; exact up3_ne (fun z => absurd z.1 (by decide)))
            refine lv_aload_n hx hb dX12_claim_73 rfl (lv_at hl 0 rfl) ?_
            refine g_0_43 C hU hG (h1_0 hG) fl_X12_116 dX12_claim_74 ?_
            refine lv_aload_n hx hb dX12_claim_77 rfl (lv_at hl 0 rfl) ?_
            refine g_0_41 C hU hG (h1_0 hG) fl_X12_275 dX12_claim_78 (fun x_17 e_18 le_18 ue_18 => ?_)
            have te_18 := congrArg Int32.toInt e_18
            refine lv_aload_n hx hb dX12_claim_81 rfl (lv_at hl 0 rfl) ?_
            refine g_0_0 C hU hG (h1_0 hG) fl_X12_168 dX12_claim_82 (fun x_19 e_20 le_20 ue_20 => ?_)
            have te_20 := congrArg Int32.toInt e_20
            have ne_20 : x_19.toInt = (iv 0 0 0).toInt := by rw [e_20, hF1 0 0 0 (by decide)]
            refine s_36 C hU hS (h1_36 hG) (x := x_17) (by omega) (by omega) dX12_claim_85 (fun iv_21 H locs ei_22 hU hS => ?_)
            have hG : GI al iv_21 rv := by rw [ei_22]; exact hG.puti (show _ ∧ _ from ⟨show (0 : Int) ≤ _ by omega, show _ ≤ (4000 : Int) by omega⟩) (nsA (by decide) _)
            have hF1 : FR ([16, 35, 36], [(0, 41)]) iv iv_21 := by rw [ei_22]; exact hF1.put (Or.inl (by decide))
            have kf_23 := congrArg Int32.toInt (show iv_21 0 0 20 = iv_13 0 0 20 by rw [ei_22]; exact up3_ne (fun z => absurd z.1 (by decide)))
            have kf_24 := congrArg Int32.toInt (show iv_21 0 0 41 = iv_13 0 0 41 by rw [ei_22]; exact up3_ne (fun z => absurd z.1 (by decide)))
            refine lv_aload_n hx hb dX12_claim_86 rfl (lv_at hl 0 rfl) ?_
            refine lv_dup hx hb dX12_claim_87 rfl ?_
            refine g_0_41 C hU hG (h1_0 hG) fl_X12_275 dX12_claim_88 (fun x_25 e_26 le_26 ue_26 => ?_)
            have te_26 := congrArg Int32.toInt e_26
            have a1 : iv_21 35 0 x_25.toNatClampNeg = tt := by rw [ei_22, up3_ne (fun z => absurd z.1 (by decide)), ei_14, clamp_eq (show x_25.toInt = x_11.toInt by omega)]; exact up3_self _ _ _ _ _
            refine lv_iconst (v := 1) hx hb dX12_claim_91 (by decide) ?_
            refine lv_iadd hx hb dX12_claim_92 ?_
            refine lv_topi (fun x_27 e_28 => ?_)
            have te_28 : x_27.toInt = (x_25 : Int32).toInt + (1 : Int32).toInt := by rw [e_28]; exact fb_addI (by omega) (by omega)
            refine p_0_41 C hU hS (h1_0 hG) fl_X12_275 dX12_claim_93 (fun iv_29 H locs ei_30 hU hS => ?_)
            have hG : GI al iv_29 rv := by rw [ei_30]; exact hG.put41 (x := x_25) ⟨by omega, by omega⟩ (by omega) (by omega) (by rw [a1]; omega)
            have hF1 : FR ([16, 35, 36], [(0, 41)]) iv iv_29 := by rw [ei_30]; exact hF1.put (by decide)
            have kf_31 := congrArg Int32.toInt (show iv_29 0 0 20 = iv_21 0 0 20 by rw [ei_30]; exact up3_ne (fun z => absurd z.2.2 (by decide)))
            refine lv_aload_n hx hb dX12_claim_96 rfl (lv_at hl 0 rfl) ?_
            refine g_0_41 C hU hG (h1_0 hG) fl_X12_275 dX12_claim_97 (fun x_32 e_33 le_33 ue_33 => ?_)
            have te_33 := congrArg Int32.toInt e_33
            refine lv_iconst (v := 1) hx hb dX12_claim_100 (by decide) ?_
            refine lv_isub hx hb dX12_claim_101 ?_
            refine lv_topi (fun x_34 e_35 => ?_)
            have te_35 : x_34.toInt = (x_32 : Int32).toInt - (1 : Int32).toInt := by rw [e_35]; exact fb_subI (by omega) (by omega)
            exact hret (⟨hG, hF1, hF2, trivial⟩) hU hS dX12_claim_102
          ·
            refine lv_aload_n hx hb dX12_claim_56 rfl (lv_at hl 0 rfl) ?_
            refine lv_bipush (v := (-6)) hx hb dX12_claim_57 (by decide) ?_
            refine q_fi (q_runV (t := 0) (i := 0) (As := [.int (-6)]) (rest := []) C hU (c_X12_refuse hG (-6) (by omega)) vm_X12_refuse ml_X12_164 k_0.1 (hc := rfl) rfl (h1_0 hG) hl.1 rfl rfl (Nat.le_of_ble_eq_true rfl) dX12_claim_59 rfl rfl ⟨Nat.le_of_ble_eq_true rfl, Nat.le_of_ble_eq_true rfl⟩ ⟨Nat.le_refl _, Nat.le_refl _⟩) hS (fun x_41 iv_37 rv_38 H locs hG fa_39 fb_40 hp_36 hU hS => ?_)
            have hF1 := hF1.tr (m := ([16, 35, 36], [(0, 41)])) fa_39 (by decide)
            have hF2 := hF2.tr (m := ([16, 35, 36], [(0, 41)])) fb_40 (by decide)
            have kf_42 := congrArg Int32.toInt (hF1 0 0 20 (by decide))
            exact hret (⟨hG, hF1, hF2, trivial⟩) hU hS dX12_claim_62
        ·
          refine lv_aload_n hx hb dX12_claim_24 rfl (lv_at hl 0 rfl) ?_
          refine g_0_42 C hU hG (h1_0 hG) fl_X12_113 dX12_claim_25 ?_
          refine lv_iload_n hx hb dX12_claim_28 rfl (lv_at hl 2 rfl) ?_
          refine a_35 C hU hG (h1_35 hG) (x := l2_4) (by omega) (by omega) dX12_claim_29 (fun x_43 e_44 le_44 ue_44 => ?_)
          have te_44 := congrArg Int32.toInt e_44
          refine lv_iload_n hx hb dX12_claim_30 rfl (lv_at hl 1 rfl) ?_
          refine b_icmp_ne (tgt := 41) hx hb dX12_claim_31 (by decide) (fun c_45 => ?_) (fun c_45 => ?_)
          ·
            obtain ⟨x_46, e_47⟩ : ∃ y : Int32, y = l2_4 + 1 := ⟨_, rfl⟩
            have te_47 : x_46.toInt = (l2_4 : Int32).toInt + (1 : Int32).toInt := by rw [e_47]; exact fb_addI (by omega) (by omega)
            refine lv_iinc (v := x_46) (lv' := [(2, .int x_46), (0, .ref (al.2 0 0)), (1, .int tt)]) hx hb dX12_claim_41 hl (k := 2) rfl (by rw [e_47]; rfl) (by decide) rfl (fun ls hl => ?_)
            refine lv_goto (tgt := 16) hx hb dX12_claim_44 (by decide) ?_
            exact ih_16 x_46 _ (lv_sub hl [1, 2, 0] rfl) (by omega) (by omega)
          ·
            refine lv_aload_n hx hb dX12_claim_34 rfl (lv_at hl 0 rfl) ?_
            refine lv_bipush (v := (-3)) hx hb dX12_claim_35 (by decide) ?_
            refine q_fi (q_runV (t := 0) (i := 0) (As := [.int (-3)]) (rest := []) C hU (c_X12_refuse hG (-3) (by omega)) vm_X12_refuse ml_X12_164 k_0.1 (hc := rfl) rfl (h1_0 hG) hl.1 rfl rfl (Nat.le_of_ble_eq_true rfl) dX12_claim_37 rfl rfl ⟨Nat.le_of_ble_eq_true rfl, Nat.le_of_ble_eq_true rfl⟩ ⟨Nat.le_refl _, Nat.le_refl _⟩) hS (fun x_53 iv_49 rv_50 H locs hG fa_51 fb_52 hp_48 hU hS => ?_)
            have hF1 := hF1.tr (m := ([16, 35, 36], [(0, 41)])) fa_51 (by decide)
            have hF2 := hF2.tr (m := ([16, 35, 36], [(0, 41)])) fb_52 (by decide)
            have kf_54 := congrArg Int32.toInt (hF1 0 0 20 (by decide))
            exact hret (⟨hG, hF1, hF2, trivial⟩) hU hS dX12_claim_40
    exact J_16 _ 0 _ (lv_sub hl [1, 2, 0] rfl) (by omega) (Nat.lt_succ_self _)
  ·
    refine lv_aload_n hx hb dX12_claim_8 rfl (lv_at hl 0 rfl) ?_
    refine lv_iconst (v := (-1)) hx hb dX12_claim_9 (by decide) ?_
    refine q_fi (q_runV (t := 0) (i := 0) (As := [.int (-1)]) (rest := []) C hU (c_X12_refuse hG (-1) (by omega)) vm_X12_refuse ml_X12_164 k_0.1 (hc := rfl) rfl (h1_0 hG) hl.1 rfl rfl (Nat.le_of_ble_eq_true rfl) dX12_claim_10 rfl rfl ⟨Nat.le_of_ble_eq_true rfl, Nat.le_of_ble_eq_true rfl⟩ ⟨Nat.le_refl _, Nat.le_refl _⟩) hS (fun x_60 iv_56 rv_57 H locs hG fa_58 fb_59 hp_55 hU hS => ?_)
    have hF1 := hF1.tr (m := ([16, 35, 36], [(0, 41)])) fa_58 (by decide)
    have hF2 := hF2.tr (m := ([16, 35, 36], [(0, 41)])) fb_59 (by decide)
    have kf_61 := congrArg Int32.toInt (hF1 0 0 20 (by decide))
    exact hret (⟨hG, hF1, hF2, trivial⟩) hU hS dX12_claim_13
