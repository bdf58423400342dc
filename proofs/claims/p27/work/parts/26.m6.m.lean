section
set_option maxHeartbeats 4000000 in
set_option maxRecDepth 100000 in
theorem c_X12_findLike {l : Launch} {D : va_G} {cA : FieldType → ClassId} {sz : Nat} {al : Al} {iv : Iv} {rv : Rv} (hG : GI al iv rv) (cl : Int32) (pre0 : 0 ≤ cl.toInt ∧ cl.toInt < (iv 0 0 41).toInt) : Met l yX12_findLike (wd yX12_findLike cX12_findLike 10 none) (rm 8) (PcW D cA sz al iv rv [.ref (al.2 0 0), .int cl]) (QV D cA sz al (fV al ([17, 20, 47, 48], [(0, 55), (0, 56), (0, 57)]) iv rv (fun iv' rv' => True))) 0 0 (Aq sz) := by
  refine mk_v (by decide) (Nat.le_of_ble_eq_true rfl) rfl ?_
  intro p e s m args below meth c ls Q H locs C hU hS hl hret
  have hx := C.1.1
  have hb := C.1.2.1
  have hl : lv_has ls 10 [(0, .ref (al.2 0 0)), (1, .int cl)] := hl
  have hG0 := hG
  have h6 := le6 hG
  have h20 := le20 hG
  have h41 := le41 hG
  have h41 := le41 hG
  have h20 := le20 hG
  have hco := co1 hG pre0.1 pre0.2
  have hF1 : FR ([17, 20, 47, 48], [(0, 55), (0, 56), (0, 57)]) iv iv := FR.rf
  have hF2 : FR ([17, 20, 47, 48], [(0, 55), (0, 56), (0, 57)]) rv rv := FR.rf
  have km1 : ((-1) : Int32).toInt = -1 := by decide
  have k0 : (0 : Int32).toInt = 0 := by decide
  have k1 : (1 : Int32).toInt = 1 := by decide
  have k3 : (3 : Int32).toInt = 3 := by decide
  have k10 : (10 : Int32).toInt = 10 := by decide
  have k50 : (50 : Int32).toInt = 50 := by decide
  refine lv_aload_n hx hb dX12_findLike_0 rfl (lv_at hl 0 rfl) ?_
  refine g_0_42 C hU hG (h1_0 hG) fl_X12_113 dX12_findLike_1 ?_
  refine lv_iload_n hx hb dX12_findLike_4 rfl (lv_at hl 1 rfl) ?_
  refine a_35 C hU hG (h1_35 hG) (x := cl) (by omega) (by omega) dX12_findLike_5 (fun x_1 e_2 le_2 ue_2 => ?_)
  have te_2 := congrArg Int32.toInt e_2
  refine lv_istore_n (lv' := [(2, .int x_1), (0, .ref (al.2 0 0)), (1, .int cl)]) hx hb dX12_findLike_6 rfl hl (by decide) rfl (fun ls hl => ?_)
  refine lv_aload_n hx hb dX12_findLike_7 rfl (lv_at hl 1 rfl) ?_
  refine lv_iload_n hx hb dX12_findLike_8 rfl (lv_at hl 0 rfl) ?_
  refine lv_aload_n hx hb dX12_findLike_9 rfl (lv_at hl 1 rfl) ?_
  refine g_0_43 C hU hG (h1_0 hG) fl_X12_116 dX12_findLike_10 ?_
  refine lv_iload_n hx hb dX12_findLike_13 rfl (lv_at hl 2 rfl) ?_
  refine a_36 C hU hG (h1_36 hG) (x := cl) (by omega) (by omega) dX12_findLike_14 (fun x_3 e_4 le_4 ue_4 => ?_)
  have te_4 := congrArg Int32.toInt e_4
  refine q_pi (q_runV (t := 0) (i := 0) (As := [.int x_1, .int x_3]) (rest := []) C hU (c_X12_lawOf hG x_1 x_3 (by omega)) vm_X12_lawOf ml_X12_260 k_0.1 (hc := rfl) rfl (h1_0 hG) hl.1 rfl rfl (Nat.le_of_ble_eq_true rfl) dX12_findLike_15 rfl rfl ⟨Nat.le_of_ble_eq_true rfl, Nat.le_of_ble_eq_true rfl⟩ ⟨Nat.le_refl _, Nat.le_refl _⟩) hS (fun x_6 H locs hp_5 hU hS => ?_)
  refine lv_istore_n (lv' := [(3, .int x_6), (2, .int x_1), (0, .ref (al.2 0 0)), (1, .int cl)]) hx hb dX12_findLike_18 rfl hl (by decide) rfl (fun ls hl => ?_)
  refine lv_aload_n hx hb dX12_findLike_19 rfl (lv_at hl 2 rfl) ?_
  refine lv_iload_n hx hb dX12_findLike_20 rfl (lv_at hl 1 rfl) ?_
  refine q_fi (q_runV (t := 0) (i := 0) (As := [.int x_1]) (rest := []) C hU (c_X12_blameOf hG x_1 (by omega)) vm_X12_blameOf ml_X12_241 k_0.1 (hc := rfl) rfl (h1_0 hG) hl.1 rfl rfl (Nat.le_of_ble_eq_true rfl) dX12_findLike_21 rfl rfl ⟨Nat.le_of_ble_eq_true rfl, Nat.le_of_ble_eq_true rfl⟩ ⟨Nat.le_refl _, Nat.le_refl _⟩) hS (fun x_12 iv_8 rv_9 H locs hG fa_10 fb_11 hp_7 hU hS => ?_)
  have hF1 := hF1.tr (m := ([17, 20, 47, 48], [(0, 55), (0, 56), (0, 57)])) fa_10 (by decide)
  have hF2 := hF2.tr (m := ([17, 20, 47, 48], [(0, 55), (0, 56), (0, 57)])) fb_11 (by decide)
  have kf_13 := congrArg Int32.toInt (hF1 0 0 20 (by decide))
  have kf_14 := congrArg Int32.toInt (hF1 0 0 41 (by decide))
  refine lv_istore (lv' := [(4, .int x_12), (3, .int x_6), (2, .int x_1), (0, .ref (al.2 0 0)), (1, .int cl)]) hx hb dX12_findLike_24 hl (by decide) rfl (fun ls hl => ?_)
  refine lv_aload_n hx hb dX12_findLike_26 rfl (lv_at hl 3 rfl) ?_
  refine lv_iload_n hx hb dX12_findLike_27 rfl (lv_at hl 2 rfl) ?_
  refine q_fi (q_runV (t := 0) (i := 0) (As := [.int x_1]) (rest := []) C hU (c_X12_hoursOf hG x_1 (by omega)) vm_X12_hoursOf ml_X12_238 k_0.1 (hc := rfl) rfl (h1_0 hG) hl.1 rfl rfl (Nat.le_of_ble_eq_true rfl) dX12_findLike_28 rfl rfl ⟨Nat.le_of_ble_eq_true rfl, Nat.le_of_ble_eq_true rfl⟩ ⟨Nat.le_refl _, Nat.le_refl _⟩) hS (fun x_20 iv_16 rv_17 H locs hG fa_18 fb_19 hp_15 hU hS => ?_)
  have hF1 := hF1.tr (m := ([17, 20, 47, 48], [(0, 55), (0, 56), (0, 57)])) fa_18 (by decide)
  have hF2 := hF2.tr (m := ([17, 20, 47, 48], [(0, 55), (0, 56), (0, 57)])) fb_19 (by decide)
  have kf_21 := congrArg Int32.toInt (hF1 0 0 20 (by decide))
  have kf_22 := congrArg Int32.toInt (hF1 0 0 41 (by decide))
  refine lv_istore (lv' := [(5, .int x_20), (4, .int x_12), (3, .int x_6), (2, .int x_1), (0, .ref (al.2 0 0)), (1, .int cl)]) hx hb dX12_findLike_31 hl (by decide) rfl (fun ls hl => ?_)
  refine lv_iconst (v := 0) hx hb dX12_findLike_33 (by decide) ?_
  refine lv_istore (lv' := [(6, .int 0), (5, .int x_20), (4, .int x_12), (3, .int x_6), (2, .int x_1), (0, .ref (al.2 0 0)), (1, .int cl)]) hx hb dX12_findLike_34 hl (by decide) rfl (fun ls hl => ?_)
  refine lv_iconst (v := 0) hx hb dX12_findLike_36 (by decide) ?_
  refine lv_istore (lv' := [(7, .int 0), (6, .int 0), (5, .int x_20), (4, .int x_12), (3, .int x_6), (2, .int x_1), (0, .ref (al.2 0 0)), (1, .int cl)]) hx hb dX12_findLike_37 hl (by decide) rfl (fun ls hl => ?_)
  have J_39 : ∀ (n_39 : Nat) (l6_23 : Int32) (l7_24 : Int32) (iv_25 : Iv) (rv_26 : Rv) (H : Heap) (locs : List Loc) (ls : Array Slot), lv_has ls 10 [(0, .ref (al.2 0 0)), (2, .int x_1), (3, .int x_6), (4, .int x_12), (5, .int x_20), (6, .int l6_23), (7, .int l7_24)] → GI al iv_25 rv_26 → FR ([17, 20, 47, 48], [(0, 55), (0, 56), (0, 57)]) iv iv_25 → FR ([17, 20, 47, 48], [(0, 55), (0, 56), (0, 57)]) rv rv_26 → UW D cA sz al iv_25 rv_26 H → va_S (Aq sz) s.heap H locs → (0 ≤ l6_23.toInt ∧ l6_23.toInt ≤ 40) → (0 ≤ l7_24.toInt ∧ l7_24.toInt ≤ 40) → l6_23.toInt ≤ l7_24.toInt → (40 - l7_24.toInt).toNat < n_39 → W p l e (rm 8) s m args below meth c H locs 0 0 Q (F0 m 39 ls []) := by
    intro n_39
    induction n_39 with
    | zero =>
      intro l6_23 l7_24 iv_25 rv_26 H locs ls hl hG hF1 hF2 hU hS i39_0 i39_1 i39_2 hm_39
      exact absurd hm_39 (Nat.not_lt_zero _)
    | succ n_39 ih_39 =>
      intro l6_23 l7_24 iv_25 rv_26 H locs ls hl hG hF1 hF2 hU hS i39_0 i39_1 i39_2 hm_39
      have kf_27 := congrArg Int32.toInt (hF1 0 0 20 (by decide))
      have kf_28 := congrArg Int32.toInt (hF1 0 0 41 (by decide))
      refine lv_iload hx hb dX12_findLike_39 (lv_at hl 6 rfl) ?_
      refine lv_aload_n hx hb dX12_findLike_41 rfl (lv_at hl 0 rfl) ?_
      refine g_0_48 C hU hG (h1_0 hG) fl_X12_300 dX12_findLike_42 (fun x_29 e_30 le_30 ue_30 => ?_)
      have te_30 := congrArg Int32.toInt e_30
      have ne_30 : x_29.toInt = (iv 0 0 48).toInt := by rw [e_30, hF1 0 0 48 (by decide)]
      refine b_icmp_ge (tgt := 197) hx hb dX12_findLike_45 (by decide) (fun c_31 => ?_) (fun c_31 => ?_)
      ·
        refine lv_aload_n hx hb dX12_findLike_197 rfl (lv_at hl 0 rfl) ?_
        refine lv_iload hx hb dX12_findLike_198 (lv_at hl 5 rfl) ?_
        refine lv_aload_n hx hb dX12_findLike_200 rfl (lv_at hl 0 rfl) ?_
        refine g_0_17 C hU hG (h1_0 hG) fl_X12_53 dX12_findLike_201 ?_
        refine lv_iconst (v := 3) hx hb dX12_findLike_204 (by decide) ?_
        refine a_15 C hU hG (h1_15 hG) (x := 3) (by omega) (by omega) dX12_findLike_205 (fun x_32 e_33 le_33 ue_33 => ?_)
        have te_33 := congrArg Int32.toInt e_33
        have ne_33 : x_32.toInt = (iv 15 0 (3 : Int32).toNatClampNeg).toInt := by rw [e_33, hF1.arr 15 0 (3 : Int32).toNatClampNeg (by decide)]
        refine q_pi (q_runS (As := [.int l6_23, .int x_32]) (rest := [.ref (al.2 0 0)]) C hU (c_X12_lesser  l6_23 x_32 ) sm_X12_lesser ml_X12_203 hl.1 rfl rfl (Nat.le_of_ble_eq_true rfl) dX12_findLike_206 rfl rfl ⟨Nat.le_of_ble_eq_true rfl, Nat.le_of_ble_eq_true rfl⟩ ⟨Nat.le_refl _, Nat.le_refl _⟩) hS (fun x_35 H locs hp_34 hU hS => ?_)
        have q_36 := hp_34.1
        have tq_36 := congrArg Int32.toInt q_36
        refine p_0_55 C hU hS (h1_0 hG) fl_X12_306 dX12_findLike_209 (fun iv_37 H locs ei_38 hU hS => ?_)
        have hG : GI al iv_37 rv_26 := by rw [ei_38]; exact hG.puti (show _ ∧ _ from ⟨show (0 : Int) ≤ _ by omega, show _ ≤ (40 : Int) by omega⟩) (nsF (by decide))
        have hF1 : FR ([17, 20, 47, 48], [(0, 55), (0, 56), (0, 57)]) iv iv_37 := by rw [ei_38]; exact hF1.put (by decide)
        have kf_39 := congrArg Int32.toInt (show iv_37 0 0 20 = iv_25 0 0 20 by rw [ei_38]; exact up3_ne (fun z => absurd z.2.2 (by decide)))
        have kf_40 := congrArg Int32.toInt (show iv_37 0 0 41 = iv_25 0 0 41 by rw [ei_38]; exact up3_ne (fun z => absurd z.2.2 (by decide)))
        have kf_41 := congrArg Int32.toInt (show iv_37 0 0 56 = iv_25 0 0 56 by rw [ei_38]; exact up3_ne (fun z => absurd z.2.2 (by decide)))
        have kf_42 := congrArg Int32.toInt (show iv_37 0 0 57 = iv_25 0 0 57 by rw [ei_38]; exact up3_ne (fun z => absurd z.2.2 (by decide)))
        refine lv_aload_n hx hb dX12_findLike_212 rfl (lv_at hl 0 rfl) ?_
        refine lv_iconst (v := 0) hx hb dX12_findLike_213 (by decide) ?_
        refine p_0_56 C hU hS (h1_0 hG) fl_X12_309 dX12_findLike_214 (fun iv_43 H locs ei_44 hU hS => ?_)
        have hG : GI al iv_43 rv_26 := by rw [ei_44]; exact hG.puti (show _ ∧ _ from ⟨(fb_rng _).1, Int.le_of_lt_add_one (fb_rng _).2⟩) (nsF (by decide))
        have hF1 : FR ([17, 20, 47, 48], [(0, 55), (0, 56), (0, 57)]) iv iv_43 := by rw [ei_44]; exact hF1.put (by decide)
        have kf_45 := congrArg Int32.toInt (show iv_43 0 0 20 = iv_37 0 0 20 by rw [ei_44]; exact up3_ne (fun z => absurd z.2.2 (by decide)))
        have kf_46 := congrArg Int32.toInt (show iv_43 0 0 41 = iv_37 0 0 41 by rw [ei_44]; exact up3_ne (fun z => absurd z.2.2 (by decide)))
        have kf_47 := congrArg Int32.toInt (show iv_43 0 0 55 = iv_37 0 0 55 by rw [ei_44]; exact up3_ne (fun z => absurd z.2.2 (by decide)))
        have kf_48 := congrArg Int32.toInt (show iv_43 0 0 57 = iv_37 0 0 57 by rw [ei_44]; exact up3_ne (fun z => absurd z.2.2 (by decide)))
        refine lv_aload_n hx hb dX12_findLike_217 rfl (lv_at hl 0 rfl) ?_
        refine lv_iconst (v := 0) hx hb dX12_findLike_218 (by decide) ?_
        refine p_0_57 C hU hS (h1_0 hG) fl_X12_312 dX12_findLike_219 (fun iv_49 H locs ei_50 hU hS => ?_)
        have hG : GI al iv_49 rv_26 := by rw [ei_50]; exact hG.puti (show _ ∧ _ from ⟨(fb_rng _).1, Int.le_of_lt_add_one (fb_rng _).2⟩) (nsF (by decide))
        have hF1 : FR ([17, 20, 47, 48], [(0, 55), (0, 56), (0, 57)]) iv iv_49 := by rw [ei_50]; exact hF1.put (by decide)
        have kf_51 := congrArg Int32.toInt (show iv_49 0 0 20 = iv_43 0 0 20 by rw [ei_50]; exact up3_ne (fun z => absurd z.2.2 (by decide)))
        have kf_52 := congrArg Int32.toInt (show iv_49 0 0 41 = iv_43 0 0 41 by rw [ei_50]; exact up3_ne (fun z => absurd z.2.2 (by decide)))
        have kf_53 := congrArg Int32.toInt (show iv_49 0 0 55 = iv_43 0 0 55 by rw [ei_50]; exact up3_ne (fun z => absurd z.2.2 (by decide)))
        have kf_54 := congrArg Int32.toInt (show iv_49 0 0 56 = iv_43 0 0 56 by rw [ei_50]; exact up3_ne (fun z => absurd z.2.2 (by decide)))
        refine lv_iconst (v := 0) hx hb dX12_findLike_222 (by decide) ?_
        refine lv_istore (lv' := [(7, .int 0), (0, .ref (al.2 0 0)), (2, .int x_1), (3, .int x_6), (4, .int x_12), (5, .int x_20), (6, .int l6_23)]) hx hb dX12_findLike_223 hl (by decide) rfl (fun ls hl => ?_)
        have J_225 : ∀ (n_225 : Nat) (l7_55 : Int32) (iv_56 : Iv) (rv_57 : Rv) (H : Heap) (locs : List Loc) (ls : Array Slot), lv_has ls 10 [(0, .ref (al.2 0 0)), (7, .int l7_55)] → GI al iv_56 rv_57 → FR ([17, 20, 47, 48], [(0, 55), (0, 56), (0, 57)]) iv iv_56 → FR ([17, 20, 47, 48], [(0, 55), (0, 56), (0, 57)]) rv rv_57 → UW D cA sz al iv_56 rv_57 H → va_S (Aq sz) s.heap H locs → (0 ≤ l7_55.toInt ∧ l7_55.toInt ≤ 40) → (40 - l7_55.toInt).toNat < n_225 → W p l e (rm 8) s m args below meth c H locs 0 0 Q (F0 m 225 ls []) := by
          intro n_225
          induction n_225 with
          | zero =>
            intro l7_55 iv_56 rv_57 H locs ls hl hG hF1 hF2 hU hS i225_0 hm_225
            exact absurd hm_225 (Nat.not_lt_zero _)
          | succ n_225 ih_225 =>
            intro l7_55 iv_56 rv_57 H locs ls hl hG hF1 hF2 hU hS i225_0 hm_225
            have kf_58 := congrArg Int32.toInt (hF1 0 0 20 (by decide))
            have kf_59 := congrArg Int32.toInt (hF1 0 0 41 (by decide))
            refine lv_iload hx hb dX12_findLike_225 (lv_at hl 1 rfl) ?_
            refine lv_aload_n hx hb dX12_findLike_227 rfl (lv_at hl 0 rfl) ?_
            refine g_0_55 C hU hG (h1_0 hG) fl_X12_306 dX12_findLike_228 (fun x_60 e_61 le_61 ue_61 => ?_)
            have te_61 := congrArg Int32.toInt e_61
            refine b_icmp_ge (tgt := 290) hx hb dX12_findLike_231 (by decide) (fun c_62 => ?_) (fun c_62 => ?_)
            ·
              exact hret (⟨hG, hF1, hF2, trivial⟩) hU hS dX12_findLike_290
            ·
              refine lv_aload_n hx hb dX12_findLike_234 rfl (lv_at hl 0 rfl) ?_
              refine lv_dup hx hb dX12_findLike_235 rfl ?_
              refine g_0_56 C hU hG (h1_0 hG) fl_X12_309 dX12_findLike_236 (fun x_63 e_64 => ?_)
              have te_64 := congrArg Int32.toInt e_64
              refine lv_aload_n hx hb dX12_findLike_239 rfl (lv_at hl 0 rfl) ?_
              refine g_0_53 C hU hG (h1_0 hG) fl_X12_143 dX12_findLike_240 ?_
              refine lv_aload_n hx hb dX12_findLike_243 rfl (lv_at hl 0 rfl) ?_
              refine g_0_58 C hU hG (h1_0 hG) fl_X12_149 dX12_findLike_244 ?_
              refine lv_iload hx hb dX12_findLike_247 (lv_at hl 1 rfl) ?_
              refine a_47 C hU hG (h1_47 hG) (x := l7_55) (by omega) (by omega) dX12_findLike_249 (fun x_65 e_66 le_66 ue_66 => ?_)
              have te_66 := congrArg Int32.toInt e_66
              refine a_45 C hU hG (h1_45 hG) (x := x_65) (by omega) (by omega) dX12_findLike_250 (fun x_67 e_68 le_68 ue_68 => ?_)
              have te_68 := congrArg Int32.toInt e_68
              have ne_68 : x_67.toInt = (iv 45 0 (x_65 : Int32).toNatClampNeg).toInt := by rw [e_68, hF1.arr 45 0 (x_65 : Int32).toNatClampNeg (by decide)]
              have J_259 : ∀ (v_69 : Int32) (ls : Array Slot), lv_has ls 10 [(0, .ref (al.2 0 0)), (7, .int l7_55)] → (0 ≤ v_69.toInt ∧ v_69.toInt ≤ 1) → W p l e (rm 8) s m args below meth c H locs 0 0 Q (F0 m 259 ls [.int v_69, .int x_63, .ref (al.2 0 0)]) := by
                intro v_69 ls hl i259_0
                refine lv_iadd hx hb dX12_findLike_259 ?_
                refine lv_topi (fun x_70 e_71 => ?_)
                refine p_0_56 C hU hS (h1_0 hG) fl_X12_309 dX12_findLike_260 (fun iv_72 H locs ei_73 hU hS => ?_)
                have hG : GI al iv_72 rv_57 := by rw [ei_73]; exact hG.puti (show _ ∧ _ from ⟨(fb_rng _).1, Int.le_of_lt_add_one (fb_rng _).2⟩) (nsF (by decide))
                have hF1 : FR ([17, 20, 47, 48], [(0, 55), (0, 56), (0, 57)]) iv iv_72 := by rw [ei_73]; exact hF1.put (by decide)
                have kf_74 := congrArg Int32.toInt (show iv_72 0 0 20 = iv_56 0 0 20 by rw [ei_73]; exact up3_ne (fun z => absurd z.2.2 (by decide)))
                have kf_75 := congrArg Int32.toInt (show iv_72 0 0 41 = iv_56 0 0 41 by rw [ei_73]; exact up3_ne (fun z => absurd z.2.2 (by decide)))
                have kf_76 := congrArg Int32.toInt (show iv_72 0 0 55 = iv_56 0 0 55 by rw [ei_73]; exact up3_ne (fun z => absurd z.2.2 (by decide)))
                have kf_77 := congrArg Int32.toInt (show iv_72 0 0 57 = iv_56 0 0 57 by rw [ei_73]; exact up3_ne (fun z => absurd z.2.2 (by decide)))
                refine lv_aload_n hx hb dX12_findLike_263 rfl (lv_at hl 0 rfl) ?_
                refine lv_dup hx hb dX12_findLike_264 rfl ?_
                refine g_0_57 C hU hG (h1_0 hG) fl_X12_312 dX12_findLike_265 (fun x_78 e_79 => ?_)
                have te_79 := congrArg Int32.toInt e_79
                refine lv_aload_n hx hb dX12_findLike_268 rfl (lv_at hl 0 rfl) ?_
                refine g_0_54 C hU hG (h1_0 hG) fl_X12_146 dX12_findLike_269 ?_
                refine lv_aload_n hx hb dX12_findLike_272 rfl (lv_at hl 0 rfl) ?_
                refine g_0_58 C hU hG (h1_0 hG) fl_X12_149 dX12_findLike_273 ?_
                refine lv_iload hx hb dX12_findLike_276 (lv_at hl 1 rfl) ?_
                refine a_47 C hU hG (h1_47 hG) (x := l7_55) (by omega) (by omega) dX12_findLike_278 (fun x_80 e_81 le_81 ue_81 => ?_)
                have te_81 := congrArg Int32.toInt e_81
                refine a_46 C hU hG (h1_46 hG) (x := x_80) (by omega) (by omega) dX12_findLike_279 (fun x_82 e_83 le_83 ue_83 => ?_)
                have te_83 := congrArg Int32.toInt e_83
                have ne_83 : x_82.toInt = (iv 46 0 (x_80 : Int32).toNatClampNeg).toInt := by rw [e_83, hF1.arr 46 0 (x_80 : Int32).toNatClampNeg (by decide)]
                refine lv_iadd hx hb dX12_findLike_280 ?_
                refine lv_topi (fun x_84 e_85 => ?_)
                refine p_0_57 C hU hS (h1_0 hG) fl_X12_312 dX12_findLike_281 (fun iv_86 H locs ei_87 hU hS => ?_)
                have hG : GI al iv_86 rv_57 := by rw [ei_87]; exact hG.puti (show _ ∧ _ from ⟨(fb_rng _).1, Int.le_of_lt_add_one (fb_rng _).2⟩) (nsF (by decide))
                have hF1 : FR ([17, 20, 47, 48], [(0, 55), (0, 56), (0, 57)]) iv iv_86 := by rw [ei_87]; exact hF1.put (by decide)
                have kf_88 := congrArg Int32.toInt (show iv_86 0 0 20 = iv_72 0 0 20 by rw [ei_87]; exact up3_ne (fun z => absurd z.2.2 (by decide)))
                have kf_89 := congrArg Int32.toInt (show iv_86 0 0 41 = iv_72 0 0 41 by rw [ei_87]; exact up3_ne (fun z => absurd z.2.2 (by decide)))
                have kf_90 := congrArg Int32.toInt (show iv_86 0 0 55 = iv_72 0 0 55 by rw [ei_87]; exact up3_ne (fun z => absurd z.2.2 (by decide)))
                have kf_91 := congrArg Int32.toInt (show iv_86 0 0 56 = iv_72 0 0 56 by rw [ei_87]; exact up3_ne (fun z => absurd z.2.2 (by decide)))
                obtain ⟨x_92, e_93⟩ : ∃ y : Int32, y = l7_55 + 1 := ⟨_, rfl⟩
                have te_93 : x_92.toInt = (l7_55 : Int32).toInt + (1 : Int32).toInt := by rw [e_93]; exact fb_addI (by omega) (by omega)
                refine lv_iinc (v := x_92) (lv' := [(7, .int x_92), (0, .ref (al.2 0 0))]) hx hb dX12_findLike_284 hl (k := 1) rfl (by rw [e_93]; rfl) (by decide) rfl (fun ls hl => ?_)
                refine lv_goto (tgt := 225) hx hb dX12_findLike_287 (by decide) ?_
                exact ih_225 x_92 _ _ _ _ _ (lv_sub hl [1, 0] rfl) hG hF1 hF2 hU hS (by omega) (by omega)
              refine b_if_eq (tgt := 258) hx hb dX12_findLike_251 (by decide) (fun c_94 => ?_) (fun c_94 => ?_)
              ·
                refine lv_iconst (v := 0) hx hb dX12_findLike_258 (by decide) ?_
                exact J_259 0 _ (lv_sub hl [0, 1] rfl) (by omega)
              ·
                refine lv_iconst (v := 1) hx hb dX12_findLike_254 (by decide) ?_
                refine lv_goto (tgt := 259) hx hb dX12_findLike_255 (by decide) ?_
                exact J_259 1 _ (lv_sub hl [0, 1] rfl) (by omega)
        exact J_225 _ 0 _ _ _ _ _ (lv_sub hl [1, 0] rfl) hG hF1 hF2 hU hS (by omega) (Nat.lt_succ_self _)
      ·
        refine lv_aload_n hx hb dX12_findLike_48 rfl (lv_at hl 0 rfl) ?_
        refine g_0_49 C hU hG (h1_0 hG) fl_X12_131 dX12_findLike_49 ?_
        refine lv_iload hx hb dX12_findLike_52 (lv_at hl 6 rfl) ?_
        refine a_41 C hU hG (h1_41 hG) (x := l7_24) (by omega) (by omega) dX12_findLike_54 (fun x_95 e_96 => ?_)
        have te_96 := congrArg Int32.toInt e_96
        have ne_96 : x_95.toInt = (iv 41 0 (l7_24 : Int32).toNatClampNeg).toInt := by rw [e_96, hF1.arr 41 0 (l7_24 : Int32).toNatClampNeg (by decide)]
        refine lv_iload_n hx hb dX12_findLike_55 rfl (lv_at hl 2 rfl) ?_
        have J_191 : ∀ (l6_97 : Int32) (iv_98 : Iv) (rv_99 : Rv) (H : Heap) (locs : List Loc) (ls : Array Slot), lv_has ls 10 [(0, .ref (al.2 0 0)), (2, .int x_1), (3, .int x_6), (4, .int x_12), (5, .int x_20), (7, .int l7_24), (6, .int l6_97)] → GI al iv_98 rv_99 → FR ([17, 20, 47, 48], [(0, 55), (0, 56), (0, 57)]) iv iv_98 → FR ([17, 20, 47, 48], [(0, 55), (0, 56), (0, 57)]) rv rv_99 → UW D cA sz al iv_98 rv_99 H → va_S (Aq sz) s.heap H locs → (0 ≤ l6_97.toInt ∧ l6_97.toInt ≤ 40) → l6_97.toInt ≤ l7_24.toInt + 1 → W p l e (rm 8) s m args below meth c H locs 0 0 Q (F0 m 191 ls []) := by
          intro l6_97 iv_98 rv_99 H locs ls hl hG hF1 hF2 hU hS i191_0 i191_1
          have kf_100 := congrArg Int32.toInt (hF1 0 0 20 (by decide))
          have kf_101 := congrArg Int32.toInt (hF1 0 0 41 (by decide))
          obtain ⟨x_102, e_103⟩ : ∃ y : Int32, y = l7_24 + 1 := ⟨_, rfl⟩
          have te_103 : x_102.toInt = (l7_24 : Int32).toInt + (1 : Int32).toInt := by rw [e_103]; exact fb_addI (by omega) (by omega)
          refine lv_iinc (v := x_102) (lv' := [(7, .int x_102), (0, .ref (al.2 0 0)), (2, .int x_1), (3, .int x_6), (4, .int x_12), (5, .int x_20), (6, .int l6_97)]) hx hb dX12_findLike_191 hl (k := 5) rfl (by rw [e_103]; rfl) (by decide) rfl (fun ls hl => ?_)
          refine lv_goto (tgt := 39) hx hb dX12_findLike_194 (by decide) ?_
          exact ih_39 l6_97 x_102 _ _ _ _ _ (lv_sub hl [1, 2, 3, 4, 5, 6, 0] rfl) hG hF1 hF2 hU hS (by omega) (by omega) (by omega) (by omega)
        refine b_icmp_ne (tgt := 191) hx hb dX12_findLike_56 (by decide) (fun c_104 => ?_) (fun c_104 => ?_)
        ·
          exact J_191 l6_23 _ _ _ _ _ (lv_sub hl [0, 1, 2, 3, 4, 6, 5] rfl) hG hF1 hF2 hU hS (by omega) (by omega)
        ·
          refine lv_aload_n hx hb dX12_findLike_59 rfl (lv_at hl 0 rfl) ?_
          refine g_0_50 C hU hG (h1_0 hG) fl_X12_134 dX12_findLike_60 ?_
          refine lv_iload hx hb dX12_findLike_63 (lv_at hl 6 rfl) ?_
          refine a_42 C hU hG (h1_42 hG) (x := l7_24) (by omega) (by omega) dX12_findLike_65 (fun x_105 e_106 => ?_)
          have te_106 := congrArg Int32.toInt e_106
          have ne_106 : x_105.toInt = (iv 42 0 (l7_24 : Int32).toNatClampNeg).toInt := by rw [e_106, hF1.arr 42 0 (l7_24 : Int32).toNatClampNeg (by decide)]
          refine lv_iload hx hb dX12_findLike_66 (lv_at hl 3 rfl) ?_
          refine b_icmp_ne (tgt := 191) hx hb dX12_findLike_68 (by decide) (fun c_107 => ?_) (fun c_107 => ?_)
          ·
            exact J_191 l6_23 _ _ _ _ _ (lv_sub hl [0, 1, 2, 3, 4, 6, 5] rfl) hG hF1 hF2 hU hS (by omega) (by omega)
          ·
            refine lv_iload hx hb dX12_findLike_71 (lv_at hl 4 rfl) ?_
            refine lv_aload_n hx hb dX12_findLike_73 rfl (lv_at hl 0 rfl) ?_
            refine g_0_51 C hU hG (h1_0 hG) fl_X12_137 dX12_findLike_74 ?_
            refine lv_iload hx hb dX12_findLike_77 (lv_at hl 6 rfl) ?_
            refine a_43 C hU hG (h1_43 hG) (x := l7_24) (by omega) (by omega) dX12_findLike_79 (fun x_108 e_109 le_109 ue_109 => ?_)
            have te_109 := congrArg Int32.toInt e_109
            have ne_109 : x_108.toInt = (iv 43 0 (l7_24 : Int32).toNatClampNeg).toInt := by rw [e_109, hF1.arr 43 0 (l7_24 : Int32).toNatClampNeg (by decide)]
            refine lv_isub hx hb dX12_findLike_80 ?_
            refine lv_topi (fun x_110 e_111 => ?_)
            refine q_pi (q_runS (As := [.int x_110]) (rest := []) C hU (c_X12_amount  x_110 ) sm_X12_amount ml_X12_303 hl.1 rfl rfl (Nat.le_of_ble_eq_true rfl) dX12_findLike_81 rfl rfl ⟨Nat.le_of_ble_eq_true rfl, Nat.le_of_ble_eq_true rfl⟩ ⟨Nat.le_refl _, Nat.le_refl _⟩) hS (fun x_113 H locs hp_112 hU hS => ?_)
            refine lv_bipush (v := 10) hx hb dX12_findLike_84 (by decide) ?_
            refine lv_idiv hx hb dX12_findLike_86 (by decide) ?_
            refine lv_topi (fun x_114 e_115 => ?_)
            refine lv_aload_n hx hb dX12_findLike_87 rfl (lv_at hl 0 rfl) ?_
            refine lv_iload_n hx hb dX12_findLike_88 rfl (lv_at hl 1 rfl) ?_
            refine q_pi (q_runV (t := 0) (i := 0) (As := [.int x_1]) (rest := [.int x_114]) C hU (c_X12_milesOf hG x_1 (by omega)) vm_X12_milesOf ml_X12_266 k_0.1 (hc := rfl) rfl (h1_0 hG) hl.1 rfl rfl (Nat.le_of_ble_eq_true rfl) dX12_findLike_89 rfl rfl ⟨Nat.le_of_ble_eq_true rfl, Nat.le_of_ble_eq_true rfl⟩ ⟨Nat.le_refl _, Nat.le_refl _⟩) hS (fun x_117 H locs hp_116 hU hS => ?_)
            refine lv_aload_n hx hb dX12_findLike_92 rfl (lv_at hl 0 rfl) ?_
            refine g_0_52 C hU hG (h1_0 hG) fl_X12_140 dX12_findLike_93 ?_
            refine lv_iload hx hb dX12_findLike_96 (lv_at hl 6 rfl) ?_
            refine a_44 C hU hG (h1_44 hG) (x := l7_24) (by omega) (by omega) dX12_findLike_98 (fun x_118 e_119 le_119 ue_119 => ?_)
            have te_119 := congrArg Int32.toInt e_119
            have ne_119 : x_118.toInt = (iv 44 0 (l7_24 : Int32).toNatClampNeg).toInt := by rw [e_119, hF1.arr 44 0 (l7_24 : Int32).toNatClampNeg (by decide)]
            refine lv_isub hx hb dX12_findLike_99 ?_
            refine lv_topi (fun x_120 e_121 => ?_)
            refine q_pi (q_runS (As := [.int x_120]) (rest := [.int x_114]) C hU (c_X12_amount  x_120 ) sm_X12_amount ml_X12_303 hl.1 rfl rfl (Nat.le_of_ble_eq_true rfl) dX12_findLike_100 rfl rfl ⟨Nat.le_of_ble_eq_true rfl, Nat.le_of_ble_eq_true rfl⟩ ⟨Nat.le_refl _, Nat.le_refl _⟩) hS (fun x_123 H locs hp_122 hU hS => ?_)
            refine lv_bipush (v := 50) hx hb dX12_findLike_103 (by decide) ?_
            refine lv_idiv hx hb dX12_findLike_105 (by decide) ?_
            refine lv_topi (fun x_124 e_125 => ?_)
            refine lv_iadd hx hb dX12_findLike_106 ?_
            refine lv_topi (fun x_126 e_127 => ?_)
            refine lv_istore (lv' := [(8, .int x_126), (0, .ref (al.2 0 0)), (2, .int x_1), (3, .int x_6), (4, .int x_12), (5, .int x_20), (6, .int l6_23), (7, .int l7_24)]) hx hb dX12_findLike_107 hl (by decide) rfl (fun ls hl => ?_)
            refine lv_iload hx hb dX12_findLike_109 (lv_at hl 6 rfl) ?_
            refine lv_istore (lv' := [(9, .int l6_23), (8, .int x_126), (0, .ref (al.2 0 0)), (2, .int x_1), (3, .int x_6), (4, .int x_12), (5, .int x_20), (6, .int l6_23), (7, .int l7_24)]) hx hb dX12_findLike_111 hl (by decide) rfl (fun ls hl => ?_)
            have J_113 : ∀ (n_113 : Nat) (l9_128 : Int32) (iv_129 : Iv) (rv_130 : Rv) (H : Heap) (locs : List Loc) (ls : Array Slot), lv_has ls 10 [(0, .ref (al.2 0 0)), (2, .int x_1), (3, .int x_6), (4, .int x_12), (5, .int x_20), (6, .int l6_23), (7, .int l7_24), (8, .int x_126), (9, .int l9_128)] → GI al iv_129 rv_130 → FR ([17, 20, 47, 48], [(0, 55), (0, 56), (0, 57)]) iv iv_129 → FR ([17, 20, 47, 48], [(0, 55), (0, 56), (0, 57)]) rv rv_130 → UW D cA sz al iv_129 rv_130 H → va_S (Aq sz) s.heap H locs → (0 ≤ l9_128.toInt ∧ l9_128.toInt ≤ 40) → l9_128.toInt ≤ l6_23.toInt → l9_128.toInt.toNat < n_113 → W p l e (rm 8) s m args below meth c H locs 0 0 Q (F0 m 113 ls []) := by
              intro n_113
              induction n_113 with
              | zero =>
                intro l9_128 iv_129 rv_130 H locs ls hl hG hF1 hF2 hU hS i113_0 i113_1 hm_113
                exact absurd hm_113 (Nat.not_lt_zero _)
              | succ n_113 ih_113 =>
                intro l9_128 iv_129 rv_130 H locs ls hl hG hF1 hF2 hU hS i113_0 i113_1 hm_113
                have kf_131 := congrArg Int32.toInt (hF1 0 0 20 (by decide))
                have kf_132 := congrArg Int32.toInt (hF1 0 0 41 (by decide))
                refine lv_iload hx hb dX12_findLike_113 (lv_at hl 8 rfl) ?_
                have J_170 : ∀ (ls : Array Slot), lv_has ls 10 [(0, .ref (al.2 0 0)), (2, .int x_1), (3, .int x_6), (4, .int x_12), (5, .int x_20), (6, .int l6_23), (7, .int l7_24), (8, .int x_126), (9, .int l9_128)] → W p l e (rm 8) s m args below meth c H locs 0 0 Q (F0 m 170 ls []) := by
                  intro ls hl
                  refine lv_aload_n hx hb dX12_findLike_170 rfl (lv_at hl 0 rfl) ?_
                  refine g_0_59 C hU hG (h1_0 hG) fl_X12_152 dX12_findLike_171 ?_
                  refine lv_iload hx hb dX12_findLike_174 (lv_at hl 8 rfl) ?_
                  refine lv_iload hx hb dX12_findLike_176 (lv_at hl 7 rfl) ?_
                  refine s_48 C hU hS (h1_48 hG) (x := l9_128) (by omega) (by omega) dX12_findLike_178 (fun iv_133 H locs ei_134 hU hS => ?_)
                  have hG : GI al iv_133 rv_130 := by rw [ei_134]; exact hG.puti (show _ ∧ _ from ⟨(fb_rng _).1, Int.le_of_lt_add_one (fb_rng _).2⟩) (nsA (by decide) _)
                  have hF1 : FR ([17, 20, 47, 48], [(0, 55), (0, 56), (0, 57)]) iv iv_133 := by rw [ei_134]; exact hF1.put (Or.inl (by decide))
                  have kf_135 := congrArg Int32.toInt (show iv_133 0 0 20 = iv_129 0 0 20 by rw [ei_134]; exact up3_ne (fun z => absurd z.1 (by decide)))
                  have kf_136 := congrArg Int32.toInt (show iv_133 0 0 41 = iv_129 0 0 41 by rw [ei_134]; exact up3_ne (fun z => absurd z.1 (by decide)))
                  have kf_137 := congrArg Int32.toInt (show iv_133 0 0 55 = iv_129 0 0 55 by rw [ei_134]; exact up3_ne (fun z => absurd z.1 (by decide)))
                  have kf_138 := congrArg Int32.toInt (show iv_133 0 0 56 = iv_129 0 0 56 by rw [ei_134]; exact up3_ne (fun z => absurd z.1 (by decide)))
                  have kf_139 := congrArg Int32.toInt (show iv_133 0 0 57 = iv_129 0 0 57 by rw [ei_134]; exact up3_ne (fun z => absurd z.1 (by decide)))
                  refine lv_aload_n hx hb dX12_findLike_179 rfl (lv_at hl 0 rfl) ?_
                  refine g_0_58 C hU hG (h1_0 hG) fl_X12_149 dX12_findLike_180 ?_
                  refine lv_iload hx hb dX12_findLike_183 (lv_at hl 8 rfl) ?_
                  refine lv_iload hx hb dX12_findLike_185 (lv_at hl 6 rfl) ?_
                  refine s_47 C hU hS (h1_47 hG) (x := l9_128) (by omega) (by omega) dX12_findLike_187 (fun iv_140 H locs ei_141 hU hS => ?_)
                  have hG : GI al iv_140 rv_130 := by rw [ei_141]; exact hG.puti (show _ ∧ _ from ⟨show (0 : Int) ≤ _ by omega, show _ ≤ (39 : Int) by omega⟩) (nsA (by decide) _)
                  have hF1 : FR ([17, 20, 47, 48], [(0, 55), (0, 56), (0, 57)]) iv iv_140 := by rw [ei_141]; exact hF1.put (Or.inl (by decide))
                  have kf_142 := congrArg Int32.toInt (show iv_140 0 0 20 = iv_133 0 0 20 by rw [ei_141]; exact up3_ne (fun z => absurd z.1 (by decide)))
                  have kf_143 := congrArg Int32.toInt (show iv_140 0 0 41 = iv_133 0 0 41 by rw [ei_141]; exact up3_ne (fun z => absurd z.1 (by decide)))
                  have kf_144 := congrArg Int32.toInt (show iv_140 0 0 55 = iv_133 0 0 55 by rw [ei_141]; exact up3_ne (fun z => absurd z.1 (by decide)))
                  have kf_145 := congrArg Int32.toInt (show iv_140 0 0 56 = iv_133 0 0 56 by rw [ei_141]; exact up3_ne (fun z => absurd z.1 (by decide)))
                  have kf_146 := congrArg Int32.toInt (show iv_140 0 0 57 = iv_133 0 0 57 by rw [ei_141]; exact up3_ne (fun z => absurd z.1 (by decide)))
                  obtain ⟨x_147, e_148⟩ : ∃ y : Int32, y = l6_23 + 1 := ⟨_, rfl⟩
                  have te_148 : x_147.toInt = (l6_23 : Int32).toInt + (1 : Int32).toInt := by rw [e_148]; exact fb_addI (by omega) (by omega)
                  refine lv_iinc (v := x_147) (lv' := [(6, .int x_147), (0, .ref (al.2 0 0)), (2, .int x_1), (3, .int x_6), (4, .int x_12), (5, .int x_20), (7, .int l7_24), (8, .int x_126), (9, .int l9_128)]) hx hb dX12_findLike_188 hl (k := 5) rfl (by rw [e_148]; rfl) (by decide) rfl (fun ls hl => ?_)
                  exact J_191 x_147 _ _ _ _ _ (lv_sub hl [1, 2, 3, 4, 5, 6, 0] rfl) hG hF1 hF2 hU hS (by omega) (by omega)
                refine b_if_le (tgt := 170) hx hb dX12_findLike_115 (by decide) (fun c_149 => ?_) (fun c_149 => ?_)
                ·
                  exact J_170 _ (lv_sub hl [0, 1, 2, 3, 4, 5, 6, 7, 8] rfl)
                ·
                  refine lv_aload_n hx hb dX12_findLike_118 rfl (lv_at hl 0 rfl) ?_
                  refine g_0_59 C hU hG (h1_0 hG) fl_X12_152 dX12_findLike_119 ?_
                  refine lv_iload hx hb dX12_findLike_122 (lv_at hl 8 rfl) ?_
                  refine lv_iconst (v := 1) hx hb dX12_findLike_124 (by decide) ?_
                  refine lv_isub hx hb dX12_findLike_125 ?_
                  refine lv_topi (fun x_150 e_151 => ?_)
                  have te_151 : x_150.toInt = (l9_128 : Int32).toInt - (1 : Int32).toInt := by rw [e_151]; exact fb_subI (by omega) (by omega)
                  refine a_48 C hU hG (h1_48 hG) (x := x_150) (by omega) (by omega) dX12_findLike_126 (fun x_152 e_153 => ?_)
                  have te_153 := congrArg Int32.toInt e_153
                  refine lv_iload hx hb dX12_findLike_127 (lv_at hl 7 rfl) ?_
                  refine b_icmp_le (tgt := 170) hx hb dX12_findLike_129 (by decide) (fun c_154 => ?_) (fun c_154 => ?_)
                  ·
                    exact J_170 _ (lv_sub hl [0, 1, 2, 3, 4, 5, 6, 7, 8] rfl)
                  ·
                    refine lv_aload_n hx hb dX12_findLike_132 rfl (lv_at hl 0 rfl) ?_
                    refine g_0_59 C hU hG (h1_0 hG) fl_X12_152 dX12_findLike_133 ?_
                    refine lv_iload hx hb dX12_findLike_136 (lv_at hl 8 rfl) ?_
                    refine lv_aload_n hx hb dX12_findLike_138 rfl (lv_at hl 0 rfl) ?_
                    refine g_0_59 C hU hG (h1_0 hG) fl_X12_152 dX12_findLike_139 ?_
                    refine lv_iload hx hb dX12_findLike_142 (lv_at hl 8 rfl) ?_
                    refine lv_iconst (v := 1) hx hb dX12_findLike_144 (by decide) ?_
                    refine lv_isub hx hb dX12_findLike_145 ?_
                    refine lv_topi (fun x_155 e_156 => ?_)
                    have te_156 : x_155.toInt = (l9_128 : Int32).toInt - (1 : Int32).toInt := by rw [e_156]; exact fb_subI (by omega) (by omega)
                    refine a_48 C hU hG (h1_48 hG) (x := x_155) (by omega) (by omega) dX12_findLike_146 (fun x_157 e_158 => ?_)
                    have te_158 := congrArg Int32.toInt e_158
                    refine s_48 C hU hS (h1_48 hG) (x := l9_128) (by omega) (by omega) dX12_findLike_147 (fun iv_159 H locs ei_160 hU hS => ?_)
                    have hG : GI al iv_159 rv_130 := by rw [ei_160]; exact hG.puti (show _ ∧ _ from ⟨(fb_rng _).1, Int.le_of_lt_add_one (fb_rng _).2⟩) (nsA (by decide) _)
                    have hF1 : FR ([17, 20, 47, 48], [(0, 55), (0, 56), (0, 57)]) iv iv_159 := by rw [ei_160]; exact hF1.put (Or.inl (by decide))
                    have kf_161 := congrArg Int32.toInt (show iv_159 0 0 20 = iv_129 0 0 20 by rw [ei_160]; exact up3_ne (fun z => absurd z.1 (by decide)))
                    have kf_162 := congrArg Int32.toInt (show iv_159 0 0 41 = iv_129 0 0 41 by rw [ei_160]; exact up3_ne (fun z => absurd z.1 (by decide)))
                    have kf_163 := congrArg Int32.toInt (show iv_159 0 0 55 = iv_129 0 0 55 by rw [ei_160]; exact up3_ne (fun z => absurd z.1 (by decide)))
                    have kf_164 := congrArg Int32.toInt (show iv_159 0 0 56 = iv_129 0 0 56 by rw [ei_160]; exact up3_ne (fun z => absurd z.1 (by decide)))
                    have kf_165 := congrArg Int32.toInt (show iv_159 0 0 57 = iv_129 0 0 57 by rw [ei_160]; exact up3_ne (fun z => absurd z.1 (by decide)))
                    refine lv_aload_n hx hb dX12_findLike_148 rfl (lv_at hl 0 rfl) ?_
                    refine g_0_58 C hU hG (h1_0 hG) fl_X12_149 dX12_findLike_149 ?_
                    refine lv_iload hx hb dX12_findLike_152 (lv_at hl 8 rfl) ?_
                    refine lv_aload_n hx hb dX12_findLike_154 rfl (lv_at hl 0 rfl) ?_
                    refine g_0_58 C hU hG (h1_0 hG) fl_X12_149 dX12_findLike_155 ?_
                    refine lv_iload hx hb dX12_findLike_158 (lv_at hl 8 rfl) ?_
                    refine lv_iconst (v := 1) hx hb dX12_findLike_160 (by decide) ?_
                    refine lv_isub hx hb dX12_findLike_161 ?_
                    refine lv_topi (fun x_166 e_167 => ?_)
                    have te_167 : x_166.toInt = (l9_128 : Int32).toInt - (1 : Int32).toInt := by rw [e_167]; exact fb_subI (by omega) (by omega)
                    refine a_47 C hU hG (h1_47 hG) (x := x_166) (by omega) (by omega) dX12_findLike_162 (fun x_168 e_169 le_169 ue_169 => ?_)
                    have te_169 := congrArg Int32.toInt e_169
                    refine s_47 C hU hS (h1_47 hG) (x := l9_128) (by omega) (by omega) dX12_findLike_163 (fun iv_170 H locs ei_171 hU hS => ?_)
                    have hG : GI al iv_170 rv_130 := by rw [ei_171]; exact hG.puti (show _ ∧ _ from ⟨show (0 : Int) ≤ _ by omega, show _ ≤ (39 : Int) by omega⟩) (nsA (by decide) _)
                    have hF1 : FR ([17, 20, 47, 48], [(0, 55), (0, 56), (0, 57)]) iv iv_170 := by rw [ei_171]; exact hF1.put (Or.inl (by decide))
                    have kf_172 := congrArg Int32.toInt (show iv_170 0 0 20 = iv_159 0 0 20 by rw [ei_171]; exact up3_ne (fun z => absurd z.1 (by decide)))
                    have kf_173 := congrArg Int32.toInt (show iv_170 0 0 41 = iv_159 0 0 41 by rw [ei_171]; exact up3_ne (fun z => absurd z.1 (by decide)))
                    have kf_174 := congrArg Int32.toInt (show iv_170 0 0 55 = iv_159 0 0 55 by rw [ei_171]; exact up3_ne (fun z => absurd z.1 (by decide)))
                    have kf_175 := congrArg Int32.toInt (show iv_170 0 0 56 = iv_159 0 0 56 by rw [ei_171]; exact up3_ne (fun z => absurd z.1 (by decide)))
                    have kf_176 := congrArg Int32.toInt (show iv_170 0 0 57 = iv_159 0 0 57 by rw [ei_171]; exact up3_ne (fun z => absurd z.1 (by decide)))
                    obtain ⟨x_177, e_178⟩ : ∃ y : Int32, y = l9_128 + (-1) := ⟨_, rfl⟩
                    have te_178 : x_177.toInt = (l9_128 : Int32).toInt + ((-1) : Int32).toInt := by rw [e_178]; exact fb_addI (by omega) (by omega)
                    refine lv_iinc (v := x_177) (lv' := [(9, .int x_177), (0, .ref (al.2 0 0)), (2, .int x_1), (3, .int x_6), (4, .int x_12), (5, .int x_20), (6, .int l6_23), (7, .int l7_24), (8, .int x_126)]) hx hb dX12_findLike_164 hl (k := 8) rfl (by rw [e_178]; rfl) (by decide) rfl (fun ls hl => ?_)
                    refine lv_goto (tgt := 113) hx hb dX12_findLike_167 (by decide) ?_
                    exact ih_113 x_177 _ _ _ _ _ (lv_sub hl [1, 2, 3, 4, 5, 6, 7, 8, 0] rfl) hG hF1 hF2 hU hS (by omega) (by omega) (by omega)
            exact J_113 _ l6_23 _ _ _ _ _ (lv_sub hl [2, 3, 4, 5, 6, 7, 8, 1, 0] rfl) hG hF1 hF2 hU hS (by omega) (by omega) (Nat.lt_succ_self _)
  exact J_39 _ 0 0 _ _ _ _ _ (lv_sub hl [6, 5, 4, 3, 2, 1, 0] rfl) hG hF1 hF2 hU hS (by omega) (by omega) (by omega) (Nat.lt_succ_self _)
set_option maxHeartbeats 4000000 in
set_option maxRecDepth 100000 in
theorem c_X12_odds {l : Launch} {D : va_G} {cA : FieldType → ClassId} {sz : Nat} {al : Al} {iv : Iv} {rv : Rv} (hG : GI al iv rv) (cl : Int32) (what : Int32) : Met l yX12_odds (wd yX12_odds cX12_odds 3 (some .int)) (rm 11) (PcW D cA sz al iv rv [.ref (al.2 0 0), .int cl, .int what]) (QI D cA sz al (fI al ([16, 17, 20, 47, 48], [(0, 55), (0, 56), (0, 57)]) iv rv (fun r iv' rv' => True))) 0 0 (Aq sz) := by
  refine mk_i (by decide) (Nat.le_of_ble_eq_true rfl) rfl ?_
  intro p e s m args below meth c ls Q H locs C hU hS hl hret
  have hx := C.1.1
  have hb := C.1.2.1
  have hl : lv_has ls 3 [(0, .ref (al.2 0 0)), (1, .int cl), (2, .int what)] := hl
  have hG0 := hG
  have h6 := le6 hG
  have h20 := le20 hG
  have h41 := le41 hG
  have hF1 : FR ([16, 17, 20, 47, 48], [(0, 55), (0, 56), (0, 57)]) iv iv := FR.rf
  have hF2 : FR ([16, 17, 20, 47, 48], [(0, 55), (0, 56), (0, 57)]) rv rv := FR.rf
  have km2 : ((-2) : Int32).toInt = -2 := by decide
  have km1 : ((-1) : Int32).toInt = -1 := by decide
  have k0 : (0 : Int32).toInt = 0 := by decide
  have k1 : (1 : Int32).toInt = 1 := by decide
  have k2 : (2 : Int32).toInt = 2 := by decide
  refine lv_aload_n hx hb dX12_odds_0 rfl (lv_at hl 0 rfl) ?_
  refine lv_iload_n hx hb dX12_odds_1 rfl (lv_at hl 1 rfl) ?_
  refine q_pi (q_runV (t := 0) (i := 0) (As := [.int cl]) (rest := []) C hU (c_X12_isClaim hG cl ) vm_X12_isClaim ml_X12_281 k_0.1 (hc := rfl) rfl (h1_0 hG) hl.1 rfl rfl (Nat.le_of_ble_eq_true rfl) dX12_odds_2 rfl rfl ⟨Nat.le_of_ble_eq_true rfl, Nat.le_of_ble_eq_true rfl⟩ ⟨Nat.le_refl _, Nat.le_refl _⟩) hS (fun x_2 H locs hp_1 hU hS => ?_)
  refine b_if_ne (tgt := 14) hx hb dX12_odds_5 (by decide) (fun c_3 => ?_) (fun c_3 => ?_)
  ·
    refine lv_iload_n hx hb dX12_odds_14 rfl (lv_at hl 2 rfl) ?_
    refine lv_iconst (v := 0) hx hb dX12_odds_15 (by decide) ?_
    refine lv_iconst (v := 2) hx hb dX12_odds_16 (by decide) ?_
    refine q_pi (q_runS (As := [.int what, .int 0, .int 2]) (rest := []) C hU (c_X12_in  what 0 2 ) sm_X12_in ml_X12_156 hl.1 rfl rfl (Nat.le_of_ble_eq_true rfl) dX12_odds_17 rfl rfl ⟨Nat.le_of_ble_eq_true rfl, Nat.le_of_ble_eq_true rfl⟩ ⟨Nat.le_refl _, Nat.le_refl _⟩) hS (fun x_5 H locs hp_4 hU hS => ?_)
    refine b_if_ne (tgt := 30) hx hb dX12_odds_20 (by decide) (fun c_6 => ?_) (fun c_6 => ?_)
    ·
      refine lv_aload_n hx hb dX12_odds_30 rfl (lv_at hl 0 rfl) ?_
      refine lv_iload_n hx hb dX12_odds_31 rfl (lv_at hl 1 rfl) ?_
      refine q_fv (q_runV (t := 0) (i := 0) (As := [.int cl]) (rest := []) C hU (c_X12_findLike hG cl (by omega)) vm_X12_findLike ml_X12_315 k_0.1 (hc := rfl) rfl (h1_0 hG) hl.1 rfl rfl (Nat.le_of_ble_eq_true rfl) dX12_odds_32 rfl rfl ⟨Nat.le_of_ble_eq_true rfl, Nat.le_of_ble_eq_true rfl⟩ ⟨Nat.le_refl _, Nat.le_refl _⟩) hS (fun iv_8 rv_9 H locs hG fa_10 fb_11 hp_7 hU hS => ?_)
      have hF1 := hF1.tr (m := ([16, 17, 20, 47, 48], [(0, 55), (0, 56), (0, 57)])) fa_10 (by decide)
      have hF2 := hF2.tr (m := ([16, 17, 20, 47, 48], [(0, 55), (0, 56), (0, 57)])) fb_11 (by decide)
      have kf_12 := congrArg Int32.toInt (hF1 0 0 20 (by decide))
      have kf_13 := congrArg Int32.toInt (hF1 0 0 41 (by decide))
      refine lv_iload_n hx hb dX12_odds_35 rfl (lv_at hl 2 rfl) ?_
      refine b_if_ne (tgt := 46) hx hb dX12_odds_36 (by decide) (fun c_14 => ?_) (fun c_14 => ?_)
      ·
        refine lv_iload_n hx hb dX12_odds_46 rfl (lv_at hl 2 rfl) ?_
        refine lv_iconst (v := 1) hx hb dX12_odds_47 (by decide) ?_
        refine b_icmp_ne (tgt := 58) hx hb dX12_odds_48 (by decide) (fun c_15 => ?_) (fun c_15 => ?_)
        ·
          refine lv_aload_n hx hb dX12_odds_58 rfl (lv_at hl 0 rfl) ?_
          refine lv_iload_n hx hb dX12_odds_59 rfl (lv_at hl 1 rfl) ?_
          refine q_fi (q_runV (t := 0) (i := 0) (As := [.int cl]) (rest := []) C hU (c_X12_worthOf hG cl (by omega)) vm_X12_worthOf ml_X12_284 k_0.1 (hc := rfl) rfl (h1_0 hG) hl.1 rfl rfl (Nat.le_of_ble_eq_true rfl) dX12_odds_60 rfl rfl ⟨Nat.le_of_ble_eq_true rfl, Nat.le_of_ble_eq_true rfl⟩ ⟨Nat.le_refl _, Nat.le_refl _⟩) hS (fun x_21 iv_17 rv_18 H locs hG fa_19 fb_20 hp_16 hU hS => ?_)
          have hF1 := hF1.tr (m := ([16, 17, 20, 47, 48], [(0, 55), (0, 56), (0, 57)])) fa_19 (by decide)
          have hF2 := hF2.tr (m := ([16, 17, 20, 47, 48], [(0, 55), (0, 56), (0, 57)])) fb_20 (by decide)
          have kf_22 := congrArg Int32.toInt (hF1 0 0 20 (by decide))
          have kf_23 := congrArg Int32.toInt (hF1 0 0 41 (by decide))
          refine lv_aload_n hx hb dX12_odds_63 rfl (lv_at hl 0 rfl) ?_
          refine g_0_56 C hU hG (h1_0 hG) fl_X12_309 dX12_odds_64 (fun x_24 e_25 => ?_)
          have te_25 := congrArg Int32.toInt e_25
          refine lv_imul hx hb dX12_odds_67 ?_
          refine lv_topi (fun x_26 e_27 => ?_)
          refine lv_aload_n hx hb dX12_odds_68 rfl (lv_at hl 0 rfl) ?_
          refine g_0_57 C hU hG (h1_0 hG) fl_X12_312 dX12_odds_69 (fun x_28 e_29 => ?_)
          have te_29 := congrArg Int32.toInt e_29
          refine lv_isub hx hb dX12_odds_72 ?_
          refine lv_topi (fun x_30 e_31 => ?_)
          exact hret (⟨hG, hF1, hF2, trivial⟩) hU hS dX12_odds_73
        ·
          refine lv_aload_n hx hb dX12_odds_51 rfl (lv_at hl 0 rfl) ?_
          refine g_0_55 C hU hG (h1_0 hG) fl_X12_306 dX12_odds_52 (fun x_32 e_33 le_33 ue_33 => ?_)
          have te_33 := congrArg Int32.toInt e_33
          refine lv_goto (tgt := 73) hx hb dX12_odds_55 (by decide) ?_
          exact hret (⟨hG, hF1, hF2, trivial⟩) hU hS dX12_odds_73
      ·
        refine lv_aload_n hx hb dX12_odds_39 rfl (lv_at hl 0 rfl) ?_
        refine g_0_56 C hU hG (h1_0 hG) fl_X12_309 dX12_odds_40 (fun x_34 e_35 => ?_)
        have te_35 := congrArg Int32.toInt e_35
        refine lv_goto (tgt := 73) hx hb dX12_odds_43 (by decide) ?_
        exact hret (⟨hG, hF1, hF2, trivial⟩) hU hS dX12_odds_73
    ·
      refine lv_aload_n hx hb dX12_odds_23 rfl (lv_at hl 0 rfl) ?_
      refine lv_bipush (v := (-2)) hx hb dX12_odds_24 (by decide) ?_
      refine q_fi (q_runV (t := 0) (i := 0) (As := [.int (-2)]) (rest := []) C hU (c_X12_refuseFar hG (-2) (by omega)) vm_X12_refuseFar ml_X12_178 k_0.1 (hc := rfl) rfl (h1_0 hG) hl.1 rfl rfl (Nat.le_of_ble_eq_true rfl) dX12_odds_26 rfl rfl ⟨Nat.le_of_ble_eq_true rfl, Nat.le_of_ble_eq_true rfl⟩ ⟨Nat.le_refl _, Nat.le_refl _⟩) hS (fun x_41 iv_37 rv_38 H locs hG fa_39 fb_40 hp_36 hU hS => ?_)
      have hF1 := hF1.tr (m := ([16, 17, 20, 47, 48], [(0, 55), (0, 56), (0, 57)])) fa_39 (by decide)
      have hF2 := hF2.tr (m := ([16, 17, 20, 47, 48], [(0, 55), (0, 56), (0, 57)])) fb_40 (by decide)
      have kf_42 := congrArg Int32.toInt (hF1 0 0 20 (by decide))
      have kf_43 := congrArg Int32.toInt (hF1 0 0 41 (by decide))
      exact hret (⟨hG, hF1, hF2, trivial⟩) hU hS dX12_odds_29
  ·
    refine lv_aload_n hx hb dX12_odds_8 rfl (lv_at hl 0 rfl) ?_
    refine lv_iconst (v := (-1)) hx hb dX12_odds_9 (by decide) ?_
    refine q_fi (q_runV (t := 0) (i := 0) (As := [.int (-1)]) (rest := []) C hU (c_X12_refuseFar hG (-1) (by omega)) vm_X12_refuseFar ml_X12_178 k_0.1 (hc := rfl) rfl (h1_0 hG) hl.1 rfl rfl (Nat.le_of_ble_eq_true rfl) dX12_odds_10 rfl rfl ⟨Nat.le_of_ble_eq_true rfl, Nat.le_of_ble_eq_true rfl⟩ ⟨Nat.le_refl _, Nat.le_refl _⟩) hS (fun x_49 iv_45 rv_46 H locs hG fa_47 fb_48 hp_44 hU hS => ?_)
    have hF1 := hF1.tr (m := ([16, 17, 20, 47, 48], [(0, 55), (0, 56), (0, 57)])) fa_47 (by decide)
    have hF2 := hF2.tr (m := ([16, 17, 20, 47, 48], [(0, 55), (0, 56), (0, 57)])) fb_48 (by decide)
    have kf_50 := congrArg Int32.toInt (hF1 0 0 20 (by decide))
    have kf_51 := congrArg Int32.toInt (hF1 0 0 41 (by decide))
    exact hret (⟨hG, hF1, hF2, trivial⟩) hU hS dX12_odds_13
set_option maxHeartbeats 4000000 in
set_option maxRecDepth 100000 in
theorem c_X12_good {l : Launch} {D : va_G} {cA : FieldType → ClassId} {sz : Nat} {al : Al} {iv : Iv} {rv : Rv} (hG : GI al iv rv) (cl : Int32) (v : Int32) : Met l yX12_good (wd yX12_good cX12_good 5 (some .int)) (rm 11) (PcW D cA sz al iv rv [.ref (al.2 0 0), .int cl, .int v]) (QI D cA sz al (fI al ([16, 17, 20, 47, 48], [(0, 55), (0, 56), (0, 57)]) iv rv (fun r iv' rv' => True))) 0 0 (Aq sz) := by
  refine mk_i (by decide) (Nat.le_of_ble_eq_true rfl) rfl ?_
  intro p e s m args below meth c ls Q H locs C hU hS hl hret
  have hx := C.1.1
  have hb := C.1.2.1
  have hl : lv_has ls 5 [(0, .ref (al.2 0 0)), (1, .int cl), (2, .int v)] := hl
  have hG0 := hG
  have h6 := le6 hG
  have h20 := le20 hG
  have h41 := le41 hG
  have hF1 : FR ([16, 17, 20, 47, 48], [(0, 55), (0, 56), (0, 57)]) iv iv := FR.rf
  have hF2 : FR ([16, 17, 20, 47, 48], [(0, 55), (0, 56), (0, 57)]) rv rv := FR.rf
  have km6 : ((-6) : Int32).toInt = -6 := by decide
  have km4 : ((-4) : Int32).toInt = -4 := by decide
  have km1 : ((-1) : Int32).toInt = -1 := by decide
  have k0 : (0 : Int32).toInt = 0 := by decide
  have k1 : (1 : Int32).toInt = 1 := by decide
  have k2 : (2 : Int32).toInt = 2 := by decide
  have k9999 : (9999 : Int32).toInt = 9999 := by decide
  refine lv_aload_n hx hb dX12_good_0 rfl (lv_at hl 0 rfl) ?_
  refine lv_iload_n hx hb dX12_good_1 rfl (lv_at hl 1 rfl) ?_
  refine q_pi (q_runV (t := 0) (i := 0) (As := [.int cl]) (rest := []) C hU (c_X12_isClaim hG cl ) vm_X12_isClaim ml_X12_281 k_0.1 (hc := rfl) rfl (h1_0 hG) hl.1 rfl rfl (Nat.le_of_ble_eq_true rfl) dX12_good_2 rfl rfl ⟨Nat.le_of_ble_eq_true rfl, Nat.le_of_ble_eq_true rfl⟩ ⟨Nat.le_refl _, Nat.le_refl _⟩) hS (fun x_2 H locs hp_1 hU hS => ?_)
  refine b_if_ne (tgt := 14) hx hb dX12_good_5 (by decide) (fun c_3 => ?_) (fun c_3 => ?_)
  ·
    refine lv_iload_n hx hb dX12_good_14 rfl (lv_at hl 2 rfl) ?_
    refine b_if_ge (tgt := 25) hx hb dX12_good_15 (by decide) (fun c_4 => ?_) (fun c_4 => ?_)
    ·
      refine lv_iload_n hx hb dX12_good_25 rfl (lv_at hl 2 rfl) ?_
      refine lv_sipush (v := 9999) hx hb dX12_good_26 (by decide) ?_
      refine b_icmp_le (tgt := 39) hx hb dX12_good_29 (by decide) (fun c_5 => ?_) (fun c_5 => ?_)
      ·
        refine lv_aload_n hx hb dX12_good_39 rfl (lv_at hl 0 rfl) ?_
        refine lv_iload_n hx hb dX12_good_40 rfl (lv_at hl 1 rfl) ?_
        refine q_fv (q_runV (t := 0) (i := 0) (As := [.int cl]) (rest := []) C hU (c_X12_findLike hG cl (by omega)) vm_X12_findLike ml_X12_315 k_0.1 (hc := rfl) rfl (h1_0 hG) hl.1 rfl rfl (Nat.le_of_ble_eq_true rfl) dX12_good_41 rfl rfl ⟨Nat.le_of_ble_eq_true rfl, Nat.le_of_ble_eq_true rfl⟩ ⟨Nat.le_refl _, Nat.le_refl _⟩) hS (fun iv_7 rv_8 H locs hG fa_9 fb_10 hp_6 hU hS => ?_)
        have hF1 := hF1.tr (m := ([16, 17, 20, 47, 48], [(0, 55), (0, 56), (0, 57)])) fa_9 (by decide)
        have hF2 := hF2.tr (m := ([16, 17, 20, 47, 48], [(0, 55), (0, 56), (0, 57)])) fb_10 (by decide)
        have kf_11 := congrArg Int32.toInt (hF1 0 0 20 (by decide))
        have kf_12 := congrArg Int32.toInt (hF1 0 0 41 (by decide))
        refine lv_aload_n hx hb dX12_good_44 rfl (lv_at hl 0 rfl) ?_
        refine lv_iload_n hx hb dX12_good_45 rfl (lv_at hl 1 rfl) ?_
        refine q_fi (q_runV (t := 0) (i := 0) (As := [.int cl]) (rest := []) C hU (c_X12_worthOf hG cl (by omega)) vm_X12_worthOf ml_X12_284 k_0.1 (hc := rfl) rfl (h1_0 hG) hl.1 rfl rfl (Nat.le_of_ble_eq_true rfl) dX12_good_46 rfl rfl ⟨Nat.le_of_ble_eq_true rfl, Nat.le_of_ble_eq_true rfl⟩ ⟨Nat.le_refl _, Nat.le_refl _⟩) hS (fun x_18 iv_14 rv_15 H locs hG fa_16 fb_17 hp_13 hU hS => ?_)
        have hF1 := hF1.tr (m := ([16, 17, 20, 47, 48], [(0, 55), (0, 56), (0, 57)])) fa_16 (by decide)
        have hF2 := hF2.tr (m := ([16, 17, 20, 47, 48], [(0, 55), (0, 56), (0, 57)])) fb_17 (by decide)
        have kf_19 := congrArg Int32.toInt (hF1 0 0 20 (by decide))
        have kf_20 := congrArg Int32.toInt (hF1 0 0 41 (by decide))
        refine lv_istore_n (lv' := [(3, .int x_18), (0, .ref (al.2 0 0)), (1, .int cl), (2, .int v)]) hx hb dX12_good_49 rfl hl (by decide) rfl (fun ls hl => ?_)
        refine lv_aload_n hx hb dX12_good_50 rfl (lv_at hl 1 rfl) ?_
        refine g_0_55 C hU hG (h1_0 hG) fl_X12_306 dX12_good_51 (fun x_21 e_22 le_22 ue_22 => ?_)
        have te_22 := congrArg Int32.toInt e_22
        refine b_if_ne (tgt := 72) hx hb dX12_good_54 (by decide) (fun c_23 => ?_) (fun c_23 => ?_)
        ·
          refine lv_iload_n hx hb dX12_good_72 rfl (lv_at hl 3 rfl) ?_
          refine lv_aload_n hx hb dX12_good_73 rfl (lv_at hl 1 rfl) ?_
          refine g_0_55 C hU hG (h1_0 hG) fl_X12_306 dX12_good_74 (fun x_24 e_25 le_25 ue_25 => ?_)
          have te_25 := congrArg Int32.toInt e_25
          refine lv_imul hx hb dX12_good_77 ?_
          refine lv_topi (fun x_26 e_27 => ?_)
          refine lv_iload_n hx hb dX12_good_78 rfl (lv_at hl 0 rfl) ?_
          refine lv_aload_n hx hb dX12_good_79 rfl (lv_at hl 1 rfl) ?_
          refine g_0_56 C hU hG (h1_0 hG) fl_X12_309 dX12_good_80 (fun x_28 e_29 => ?_)
          have te_29 := congrArg Int32.toInt e_29
          refine lv_imul hx hb dX12_good_83 ?_
          refine lv_topi (fun x_30 e_31 => ?_)
          refine lv_aload_n hx hb dX12_good_84 rfl (lv_at hl 1 rfl) ?_
          refine g_0_57 C hU hG (h1_0 hG) fl_X12_312 dX12_good_85 (fun x_32 e_33 => ?_)
          have te_33 := congrArg Int32.toInt e_33
          refine lv_isub hx hb dX12_good_88 ?_
          refine lv_topi (fun x_34 e_35 => ?_)
          refine b_icmp_lt (tgt := 96) hx hb dX12_good_89 (by decide) (fun c_36 => ?_) (fun c_36 => ?_)
          ·
            refine lv_iconst (v := 0) hx hb dX12_good_96 (by decide) ?_
            refine lv_istore (lv' := [(4, .int 0), (3, .int x_18), (0, .ref (al.2 0 0)), (1, .int cl), (2, .int v)]) hx hb dX12_good_97 hl (by decide) rfl (fun ls hl => ?_)
            refine lv_iload hx hb dX12_good_99 (lv_at hl 0 rfl) ?_
            refine b_if_eq (tgt := 108) hx hb dX12_good_101 (by decide) (fun c_37 => ?_) (fun c_37 => ?_)
            ·
              refine lv_iconst (v := 0) hx hb dX12_good_108 (by decide) ?_
              exact hret (⟨hG, hF1, hF2, trivial⟩) hU hS dX12_good_109
            ·
              refine lv_iconst (v := 1) hx hb dX12_good_104 (by decide) ?_
              refine lv_goto (tgt := 109) hx hb dX12_good_105 (by decide) ?_
              exact hret (⟨hG, hF1, hF2, trivial⟩) hU hS dX12_good_109
          ·
            refine lv_iconst (v := 1) hx hb dX12_good_92 (by decide) ?_
            refine lv_goto (tgt := 97) hx hb dX12_good_93 (by decide) ?_
            refine lv_istore (lv' := [(4, .int 1), (3, .int x_18), (0, .ref (al.2 0 0)), (1, .int cl), (2, .int v)]) hx hb dX12_good_97 hl (by decide) rfl (fun ls hl => ?_)
            refine lv_iload hx hb dX12_good_99 (lv_at hl 0 rfl) ?_
            refine b_if_eq (tgt := 108) hx hb dX12_good_101 (by decide) (fun c_38 => ?_) (fun c_38 => ?_)
            ·
              refine lv_iconst (v := 0) hx hb dX12_good_108 (by decide) ?_
              exact hret (⟨hG, hF1, hF2, trivial⟩) hU hS dX12_good_109
            ·
              refine lv_iconst (v := 1) hx hb dX12_good_104 (by decide) ?_
              refine lv_goto (tgt := 109) hx hb dX12_good_105 (by decide) ?_
              exact hret (⟨hG, hF1, hF2, trivial⟩) hU hS dX12_good_109
        ·
          refine lv_iconst (v := 2) hx hb dX12_good_57 (by decide) ?_
          refine lv_iload_n hx hb dX12_good_58 rfl (lv_at hl 3 rfl) ?_
          refine lv_imul hx hb dX12_good_59 ?_
          refine lv_topi (fun x_39 e_40 => ?_)
          have te_40 : x_39.toInt = 2 * (v : Int32).toInt := by rw [e_40, fb_mulI (by rw [show (2 : Int32).toInt = 2 from by decide]; omega) (by rw [show (2 : Int32).toInt = 2 from by decide]; omega), show (2 : Int32).toInt = 2 from by decide]
          refine lv_iload_n hx hb dX12_good_60 rfl (lv_at hl 0 rfl) ?_
          refine b_icmp_lt (tgt := 68) hx hb dX12_good_61 (by decide) (fun c_41 => ?_) (fun c_41 => ?_)
          ·
            refine lv_iconst (v := 0) hx hb dX12_good_68 (by decide) ?_
            refine lv_goto (tgt := 97) hx hb dX12_good_69 (by decide) ?_
            refine lv_istore (lv' := [(4, .int 0), (3, .int x_18), (0, .ref (al.2 0 0)), (1, .int cl), (2, .int v)]) hx hb dX12_good_97 hl (by decide) rfl (fun ls hl => ?_)
            refine lv_iload hx hb dX12_good_99 (lv_at hl 0 rfl) ?_
            refine b_if_eq (tgt := 108) hx hb dX12_good_101 (by decide) (fun c_42 => ?_) (fun c_42 => ?_)
            ·
              refine lv_iconst (v := 0) hx hb dX12_good_108 (by decide) ?_
              exact hret (⟨hG, hF1, hF2, trivial⟩) hU hS dX12_good_109
            ·
              refine lv_iconst (v := 1) hx hb dX12_good_104 (by decide) ?_
              refine lv_goto (tgt := 109) hx hb dX12_good_105 (by decide) ?_
              exact hret (⟨hG, hF1, hF2, trivial⟩) hU hS dX12_good_109
          ·
            refine lv_iconst (v := 1) hx hb dX12_good_64 (by decide) ?_
            refine lv_goto (tgt := 97) hx hb dX12_good_65 (by decide) ?_
            refine lv_istore (lv' := [(4, .int 1), (3, .int x_18), (0, .ref (al.2 0 0)), (1, .int cl), (2, .int v)]) hx hb dX12_good_97 hl (by decide) rfl (fun ls hl => ?_)
            refine lv_iload hx hb dX12_good_99 (lv_at hl 0 rfl) ?_
            refine b_if_eq (tgt := 108) hx hb dX12_good_101 (by decide) (fun c_43 => ?_) (fun c_43 => ?_)
            ·
              refine lv_iconst (v := 0) hx hb dX12_good_108 (by decide) ?_
              exact hret (⟨hG, hF1, hF2, trivial⟩) hU hS dX12_good_109
            ·
              refine lv_iconst (v := 1) hx hb dX12_good_104 (by decide) ?_
              refine lv_goto (tgt := 109) hx hb dX12_good_105 (by decide) ?_
              exact hret (⟨hG, hF1, hF2, trivial⟩) hU hS dX12_good_109
      ·
        refine lv_aload_n hx hb dX12_good_32 rfl (lv_at hl 0 rfl) ?_
        refine lv_bipush (v := (-6)) hx hb dX12_good_33 (by decide) ?_
        refine q_fi (q_runV (t := 0) (i := 0) (As := [.int (-6)]) (rest := []) C hU (c_X12_refuse hG (-6) (by omega)) vm_X12_refuse ml_X12_164 k_0.1 (hc := rfl) rfl (h1_0 hG) hl.1 rfl rfl (Nat.le_of_ble_eq_true rfl) dX12_good_35 rfl rfl ⟨Nat.le_of_ble_eq_true rfl, Nat.le_of_ble_eq_true rfl⟩ ⟨Nat.le_refl _, Nat.le_refl _⟩) hS (fun x_49 iv_45 rv_46 H locs hG fa_47 fb_48 hp_44 hU hS => ?_)
        have hF1 := hF1.tr (m := ([16, 17, 20, 47, 48], [(0, 55), (0, 56), (0, 57)])) fa_47 (by decide)
        have hF2 := hF2.tr (m := ([16, 17, 20, 47, 48], [(0, 55), (0, 56), (0, 57)])) fb_48 (by decide)
        have kf_50 := congrArg Int32.toInt (hF1 0 0 20 (by decide))
        have kf_51 := congrArg Int32.toInt (hF1 0 0 41 (by decide))
        exact hret (⟨hG, hF1, hF2, trivial⟩) hU hS dX12_good_38
    ·
      refine lv_aload_n hx hb dX12_good_18 rfl (lv_at hl 0 rfl) ?_
      refine lv_bipush (v := (-4)) hx hb dX12_good_19 (by decide) ?_
      refine q_fi (q_runV (t := 0) (i := 0) (As := [.int (-4)]) (rest := []) C hU (c_X12_refuse hG (-4) (by omega)) vm_X12_refuse ml_X12_164 k_0.1 (hc := rfl) rfl (h1_0 hG) hl.1 rfl rfl (Nat.le_of_ble_eq_true rfl) dX12_good_21 rfl rfl ⟨Nat.le_of_ble_eq_true rfl, Nat.le_of_ble_eq_true rfl⟩ ⟨Nat.le_refl _, Nat.le_refl _⟩) hS (fun x_57 iv_53 rv_54 H locs hG fa_55 fb_56 hp_52 hU hS => ?_)
      have hF1 := hF1.tr (m := ([16, 17, 20, 47, 48], [(0, 55), (0, 56), (0, 57)])) fa_55 (by decide)
      have hF2 := hF2.tr (m := ([16, 17, 20, 47, 48], [(0, 55), (0, 56), (0, 57)])) fb_56 (by decide)
      have kf_58 := congrArg Int32.toInt (hF1 0 0 20 (by decide))
      have kf_59 := congrArg Int32.toInt (hF1 0 0 41 (by decide))
      exact hret (⟨hG, hF1, hF2, trivial⟩) hU hS dX12_good_24
  ·
    refine lv_aload_n hx hb dX12_good_8 rfl (lv_at hl 0 rfl) ?_
    refine lv_iconst (v := (-1)) hx hb dX12_good_9 (by decide) ?_
    refine q_fi (q_runV (t := 0) (i := 0) (As := [.int (-1)]) (rest := []) C hU (c_X12_refuse hG (-1) (by omega)) vm_X12_refuse ml_X12_164 k_0.1 (hc := rfl) rfl (h1_0 hG) hl.1 rfl rfl (Nat.le_of_ble_eq_true rfl) dX12_good_10 rfl rfl ⟨Nat.le_of_ble_eq_true rfl, Nat.le_of_ble_eq_true rfl⟩ ⟨Nat.le_refl _, Nat.le_refl _⟩) hS (fun x_65 iv_61 rv_62 H locs hG fa_63 fb_64 hp_60 hU hS => ?_)
    have hF1 := hF1.tr (m := ([16, 17, 20, 47, 48], [(0, 55), (0, 56), (0, 57)])) fa_63 (by decide)
    have hF2 := hF2.tr (m := ([16, 17, 20, 47, 48], [(0, 55), (0, 56), (0, 57)])) fb_64 (by decide)
    have kf_66 := congrArg Int32.toInt (hF1 0 0 20 (by decide))
    have kf_67 := congrArg Int32.toInt (hF1 0 0 41 (by decide))
    exact hret (⟨hG, hF1, hF2, trivial⟩) hU hS dX12_good_13
set_option maxHeartbeats 4000000 in
set_option maxRecDepth 100000 in
theorem c_X12_count {l : Launch} {D : va_G} {cA : FieldType → ClassId} {sz : Nat} {al : Al} {iv : Iv} {rv : Rv} (hG : GI al iv rv) (what : Int32) : Met l yX12_count (wd yX12_count cX12_count 4 (some .int)) (rm 3) (PcW D cA sz al iv rv [.ref (al.2 0 0), .int what]) (QI D cA sz al (fI al ([16], []) iv rv (fun r iv' rv' => True))) 0 0 (Aq sz) := by
  refine mk_i (by decide) (Nat.le_of_ble_eq_true rfl) rfl ?_
  intro p e s m args below meth c ls Q H locs C hU hS hl hret
  have hx := C.1.1
  have hb := C.1.2.1
  have hl : lv_has ls 4 [(0, .ref (al.2 0 0)), (1, .int what)] := hl
  have hG0 := hG
  have h6 := le6 hG
  have h20 := le20 hG
  have h41 := le41 hG
  have hF1 : FR ([16], []) iv iv := FR.rf
  have hF2 : FR ([16], []) rv rv := FR.rf
  have km9 : ((-9) : Int32).toInt = -9 := by decide
  have k0 : (0 : Int32).toInt = 0 := by decide
  have k1 : (1 : Int32).toInt = 1 := by decide
  have k10 : (10 : Int32).toInt = 10 := by decide
  have k11 : (11 : Int32).toInt = 11 := by decide
  have k16 : (16 : Int32).toInt = 16 := by decide
  refine lv_iconst (v := 0) hx hb dX12_count_0 (by decide) ?_
  refine lv_istore_n (lv' := [(2, .int 0), (0, .ref (al.2 0 0)), (1, .int what)]) hx hb dX12_count_1 rfl hl (by decide) rfl (fun ls hl => ?_)
  refine lv_iload_n hx hb dX12_count_2 rfl (lv_at hl 2 rfl) ?_
  refine b_table hx hb dX12_count_3 156 (by decide) [52, 57, 62, 97, 102, 107, 112, 146, 151] (by decide) (fun j hj => ?_) (fun c_1 => ?_) (fun j tt htt c_1 => ?_)
  ·
    match j, hj with
    | 0, _ => exact ⟨49, 52, by decide, by decide, by decide⟩
    | 1, _ => exact ⟨54, 57, by decide, by decide, by decide⟩
    | 2, _ => exact ⟨59, 62, by decide, by decide, by decide⟩
    | 3, _ => exact ⟨94, 97, by decide, by decide, by decide⟩
    | 4, _ => exact ⟨99, 102, by decide, by decide, by decide⟩
    | 5, _ => exact ⟨104, 107, by decide, by decide, by decide⟩
    | 6, _ => exact ⟨109, 112, by decide, by decide, by decide⟩
    | 7, _ => exact ⟨143, 146, by decide, by decide, by decide⟩
    | 8, _ => exact ⟨148, 151, by decide, by decide, by decide⟩
    | q + 9, hq => exact absurd hq (by simp)
  ·
    refine lv_iload_n hx hb dX12_count_156 rfl (lv_at hl 2 rfl) ?_
    refine lv_bipush (v := 11) hx hb dX12_count_157 (by decide) ?_
    refine lv_bipush (v := 16) hx hb dX12_count_159 (by decide) ?_
    refine q_pi (q_runS (As := [.int what, .int 11, .int 16]) (rest := []) C hU (c_X12_in  what 11 16 ) sm_X12_in ml_X12_156 hl.1 rfl rfl (Nat.le_of_ble_eq_true rfl) dX12_count_161 rfl rfl ⟨Nat.le_of_ble_eq_true rfl, Nat.le_of_ble_eq_true rfl⟩ ⟨Nat.le_refl _, Nat.le_refl _⟩) hS (fun x_3 H locs hp_2 hU hS => ?_)
    refine b_if_eq (tgt := 179) hx hb dX12_count_164 (by decide) (fun c_4 => ?_) (fun c_4 => ?_)
    ·
      refine lv_bipush (v := (-9)) hx hb dX12_count_179 (by decide) ?_
      exact hret (⟨hG, hF1, hF2, trivial⟩) hU hS dX12_count_181
    ·
      refine lv_aload_n hx hb dX12_count_167 rfl (lv_at hl 1 rfl) ?_
      refine g_0_18 C hU hG (h1_0 hG) fl_X12_56 dX12_count_168 ?_
      refine lv_iload_n hx hb dX12_count_171 rfl (lv_at hl 2 rfl) ?_
      refine lv_bipush (v := 10) hx hb dX12_count_172 (by decide) ?_
      refine lv_isub hx hb dX12_count_174 ?_
      refine lv_topi (fun x_5 e_6 => ?_)
      have te_6 : x_5.toInt = (what : Int32).toInt - (10 : Int32).toInt := by rw [e_6]; exact fb_subI (by omega) (by omega)
      refine a_16 C hU hG (h1_16 hG) (x := x_5) (by omega) (by omega) dX12_count_175 (fun x_7 e_8 => ?_)
      have te_8 := congrArg Int32.toInt e_8
      refine lv_goto (tgt := 181) hx hb dX12_count_176 (by decide) ?_
      exact hret (⟨hG, hF1, hF2, trivial⟩) hU hS dX12_count_181
  ·
    match j, htt with
    | 0, htt =>
      cases htt
      refine lv_aload_n hx hb dX12_count_52 rfl (lv_at hl 1 rfl) ?_
      refine g_0_0 C hU hG (h1_0 hG) fl_X12_168 dX12_count_53 (fun x_9 e_10 le_10 ue_10 => ?_)
      have te_10 := congrArg Int32.toInt e_10
      exact hret (⟨hG, hF1, hF2, trivial⟩) hU hS dX12_count_56
    | 1, htt =>
      cases htt
      refine lv_aload_n hx hb dX12_count_57 rfl (lv_at hl 1 rfl) ?_
      refine g_0_6 C hU hG (h1_0 hG) fl_X12_160 dX12_count_58 (fun x_11 e_12 le_12 ue_12 => ?_)
      have te_12 := congrArg Int32.toInt e_12
      exact hret (⟨hG, hF1, hF2, trivial⟩) hU hS dX12_count_61
    | 2, htt =>
      cases htt
      refine lv_iconst (v := 0) hx hb dX12_count_62 (by decide) ?_
      refine lv_istore_n (lv' := [(3, .int 0), (2, .int 0), (0, .ref (al.2 0 0)), (1, .int what)]) hx hb dX12_count_63 rfl hl (by decide) rfl (fun ls hl => ?_)
      have J_64 : ∀ (n_64 : Nat) (l2_13 : Int32) (l3_14 : Int32) (ls : Array Slot), lv_has ls 4 [(0, .ref (al.2 0 0)), (2, .int l2_13), (3, .int l3_14)] → (0 ≤ l3_14.toInt ∧ l3_14.toInt ≤ 40) → (40 - l3_14.toInt).toNat < n_64 → W p l e (rm 3) s m args below meth c H locs 0 0 Q (F0 m 64 ls []) := by
        intro n_64
        induction n_64 with
        | zero =>
          intro l2_13 l3_14 ls hl i64_0 hm_64
          exact absurd hm_64 (Nat.not_lt_zero _)
        | succ n_64 ih_64 =>
          intro l2_13 l3_14 ls hl i64_0 hm_64
          refine lv_iload_n hx hb dX12_count_64 rfl (lv_at hl 2 rfl) ?_
          refine lv_aload_n hx hb dX12_count_65 rfl (lv_at hl 0 rfl) ?_
          refine g_0_6 C hU hG (h1_0 hG) fl_X12_160 dX12_count_66 (fun x_15 e_16 le_16 ue_16 => ?_)
          have te_16 := congrArg Int32.toInt e_16
          refine b_icmp_ge (tgt := 95) hx hb dX12_count_69 (by decide) (fun c_17 => ?_) (fun c_17 => ?_)
          ·
            refine lv_iload_n hx hb dX12_count_95 rfl (lv_at hl 1 rfl) ?_
            exact hret (⟨hG, hF1, hF2, trivial⟩) hU hS dX12_count_96
          ·
            refine lv_iload_n hx hb dX12_count_72 rfl (lv_at hl 1 rfl) ?_
            refine lv_aload_n hx hb dX12_count_73 rfl (lv_at hl 0 rfl) ?_
            refine g_0_13 C hU hG (h1_0 hG) fl_X12_40 dX12_count_74 ?_
            refine lv_iload_n hx hb dX12_count_77 rfl (lv_at hl 2 rfl) ?_
            refine a_11 C hU hG (h1_11 hG) (x := l3_14) (by omega) (by omega) dX12_count_78 (fun x_18 e_19 le_19 ue_19 => ?_)
            have te_19 := congrArg Int32.toInt e_19
            have J_87 : ∀ (v_20 : Int32) (ls : Array Slot), lv_has ls 4 [(0, .ref (al.2 0 0)), (3, .int l3_14)] → (0 ≤ v_20.toInt ∧ v_20.toInt ≤ 1) → W p l e (rm 3) s m args below meth c H locs 0 0 Q (F0 m 87 ls [.int v_20, .int l2_13]) := by
              intro v_20 ls hl i87_0
              refine lv_iadd hx hb dX12_count_87 ?_
              refine lv_topi (fun x_21 e_22 => ?_)
              refine lv_istore_n (lv' := [(2, .int x_21), (0, .ref (al.2 0 0)), (3, .int l3_14)]) hx hb dX12_count_88 rfl hl (by decide) rfl (fun ls hl => ?_)
              obtain ⟨x_23, e_24⟩ : ∃ y : Int32, y = l3_14 + 1 := ⟨_, rfl⟩
              have te_24 : x_23.toInt = (l3_14 : Int32).toInt + (1 : Int32).toInt := by rw [e_24]; exact fb_addI (by omega) (by omega)
              refine lv_iinc (v := x_23) (lv' := [(3, .int x_23), (2, .int x_21), (0, .ref (al.2 0 0))]) hx hb dX12_count_89 hl (k := 2) rfl (by rw [e_24]; rfl) (by decide) rfl (fun ls hl => ?_)
              refine lv_goto (tgt := 64) hx hb dX12_count_92 (by decide) ?_
              exact ih_64 x_21 x_23 _ (lv_sub hl [2, 1, 0] rfl) (by omega) (by omega)
            refine b_if_eq (tgt := 86) hx hb dX12_count_79 (by decide) (fun c_25 => ?_) (fun c_25 => ?_)
            ·
              refine lv_iconst (v := 0) hx hb dX12_count_86 (by decide) ?_
              exact J_87 0 _ (lv_sub hl [0, 2] rfl) (by omega)
            ·
              refine lv_iconst (v := 1) hx hb dX12_count_82 (by decide) ?_
              refine lv_goto (tgt := 87) hx hb dX12_count_83 (by decide) ?_
              exact J_87 1 _ (lv_sub hl [0, 2] rfl) (by omega)
      exact J_64 _ 0 0 _ (lv_sub hl [2, 1, 0] rfl) (by omega) (Nat.lt_succ_self _)
    | 3, htt =>
      cases htt
      refine lv_aload_n hx hb dX12_count_97 rfl (lv_at hl 1 rfl) ?_
      refine g_0_20 C hU hG (h1_0 hG) fl_X12_223 dX12_count_98 (fun x_26 e_27 le_27 ue_27 => ?_)
      have te_27 := congrArg Int32.toInt e_27
      exact hret (⟨hG, hF1, hF2, trivial⟩) hU hS dX12_count_101
    | 4, htt =>
      cases htt
      refine lv_aload_n hx hb dX12_count_102 rfl (lv_at hl 1 rfl) ?_
      refine g_0_24 C hU hG (h1_0 hG) fl_X12_247 dX12_count_103 (fun x_28 e_29 le_29 ue_29 => ?_)
      have te_29 := congrArg Int32.toInt e_29
      exact hret (⟨hG, hF1, hF2, trivial⟩) hU hS dX12_count_106
    | 5, htt =>
      cases htt
      refine lv_aload_n hx hb dX12_count_107 rfl (lv_at hl 1 rfl) ?_
      refine g_0_41 C hU hG (h1_0 hG) fl_X12_275 dX12_count_108 (fun x_30 e_31 le_31 ue_31 => ?_)
      have te_31 := congrArg Int32.toInt e_31
      exact hret (⟨hG, hF1, hF2, trivial⟩) hU hS dX12_count_111
    | 6, htt =>
      cases htt
      refine lv_iconst (v := 0) hx hb dX12_count_112 (by decide) ?_
      refine lv_istore_n (lv' := [(3, .int 0), (2, .int 0), (0, .ref (al.2 0 0)), (1, .int what)]) hx hb dX12_count_113 rfl hl (by decide) rfl (fun ls hl => ?_)
      have J_114 : ∀ (n_114 : Nat) (l2_32 : Int32) (l3_33 : Int32) (H : Heap) (locs : List Loc) (ls : Array Slot), lv_has ls 4 [(0, .ref (al.2 0 0)), (2, .int l2_32), (3, .int l3_33)] → UW D cA sz al iv rv H → va_S (Aq sz) s.heap H locs → (0 ≤ l3_33.toInt ∧ l3_33.toInt ≤ 30) → (30 - l3_33.toInt).toNat < n_114 → W p l e (rm 3) s m args below meth c H locs 0 0 Q (F0 m 114 ls []) := by
        intro n_114
        induction n_114 with
        | zero =>
          intro l2_32 l3_33 H locs ls hl hU hS i114_0 hm_114
          exact absurd hm_114 (Nat.not_lt_zero _)
        | succ n_114 ih_114 =>
          intro l2_32 l3_33 H locs ls hl hU hS i114_0 hm_114
          refine lv_iload_n hx hb dX12_count_114 rfl (lv_at hl 2 rfl) ?_
          refine lv_aload_n hx hb dX12_count_115 rfl (lv_at hl 0 rfl) ?_
          refine g_0_41 C hU hG (h1_0 hG) fl_X12_275 dX12_count_116 (fun x_34 e_35 le_35 ue_35 => ?_)
          have te_35 := congrArg Int32.toInt e_35
          refine b_icmp_ge (tgt := 144) hx hb dX12_count_119 (by decide) (fun c_36 => ?_) (fun c_36 => ?_)
          ·
            refine lv_iload_n hx hb dX12_count_144 rfl (lv_at hl 1 rfl) ?_
            exact hret (⟨hG, hF1, hF2, trivial⟩) hU hS dX12_count_145
          ·
            refine lv_iload_n hx hb dX12_count_122 rfl (lv_at hl 1 rfl) ?_
            refine lv_aload_n hx hb dX12_count_123 rfl (lv_at hl 0 rfl) ?_
            refine lv_iload_n hx hb dX12_count_124 rfl (lv_at hl 2 rfl) ?_
            refine q_pi (q_runV (t := 0) (i := 0) (As := [.int l3_33]) (rest := [.int l2_32]) C hU (c_X12_isBarred hG l3_33 (by omega)) vm_X12_isBarred ml_X12_278 k_0.1 (hc := rfl) rfl (h1_0 hG) hl.1 rfl rfl (Nat.le_of_ble_eq_true rfl) dX12_count_125 rfl rfl ⟨Nat.le_of_ble_eq_true rfl, Nat.le_of_ble_eq_true rfl⟩ ⟨Nat.le_refl _, Nat.le_refl _⟩) hS (fun x_38 H locs hp_37 hU hS => ?_)
            have J_136 : ∀ (v_39 : Int32) (ls : Array Slot), lv_has ls 4 [(0, .ref (al.2 0 0)), (3, .int l3_33)] → (0 ≤ v_39.toInt ∧ v_39.toInt ≤ 1) → W p l e (rm 3) s m args below meth c H locs 0 0 Q (F0 m 136 ls [.int v_39, .int l2_32]) := by
              intro v_39 ls hl i136_0
              refine lv_iadd hx hb dX12_count_136 ?_
              refine lv_topi (fun x_40 e_41 => ?_)
              refine lv_istore_n (lv' := [(2, .int x_40), (0, .ref (al.2 0 0)), (3, .int l3_33)]) hx hb dX12_count_137 rfl hl (by decide) rfl (fun ls hl => ?_)
              obtain ⟨x_42, e_43⟩ : ∃ y : Int32, y = l3_33 + 1 := ⟨_, rfl⟩
              have te_43 : x_42.toInt = (l3_33 : Int32).toInt + (1 : Int32).toInt := by rw [e_43]; exact fb_addI (by omega) (by omega)
              refine lv_iinc (v := x_42) (lv' := [(3, .int x_42), (2, .int x_40), (0, .ref (al.2 0 0))]) hx hb dX12_count_138 hl (k := 2) rfl (by rw [e_43]; rfl) (by decide) rfl (fun ls hl => ?_)
              refine lv_goto (tgt := 114) hx hb dX12_count_141 (by decide) ?_
              exact ih_114 x_40 x_42 _ _ _ (lv_sub hl [2, 1, 0] rfl) hU hS (by omega) (by omega)
            refine b_if_eq (tgt := 135) hx hb dX12_count_128 (by decide) (fun c_44 => ?_) (fun c_44 => ?_)
            ·
              refine lv_iconst (v := 0) hx hb dX12_count_135 (by decide) ?_
              exact J_136 0 _ (lv_sub hl [0, 2] rfl) (by omega)
            ·
              refine lv_iconst (v := 1) hx hb dX12_count_131 (by decide) ?_
              refine lv_goto (tgt := 136) hx hb dX12_count_132 (by decide) ?_
              exact J_136 1 _ (lv_sub hl [0, 2] rfl) (by omega)
      exact J_114 _ 0 0 _ _ _ (lv_sub hl [2, 1, 0] rfl) hU hS (by omega) (Nat.lt_succ_self _)
    | 7, htt =>
      cases htt
      refine lv_aload_n hx hb dX12_count_146 rfl (lv_at hl 1 rfl) ?_
      refine g_0_48 C hU hG (h1_0 hG) fl_X12_300 dX12_count_147 (fun x_45 e_46 le_46 ue_46 => ?_)
      have te_46 := congrArg Int32.toInt e_46
      exact hret (⟨hG, hF1, hF2, trivial⟩) hU hS dX12_count_150
    | 8, htt =>
      cases htt
      refine lv_aload_n hx hb dX12_count_151 rfl (lv_at hl 1 rfl) ?_
      refine g_0_5 C hU hG (h1_0 hG) fl_X12_175 dX12_count_152 (fun x_47 e_48 => ?_)
      have te_48 := congrArg Int32.toInt e_48
      exact hret (⟨hG, hF1, hF2, trivial⟩) hU hS dX12_count_155
    | q + 9, htt => simp at htt
end
section
set_option maxHeartbeats 4000000 in
set_option maxRecDepth 100000 in
theorem c_X12_leg {l : Launch} {D : va_G} {cA : FieldType → ClassId} {sz : Nat} {al : Al} {iv : Iv} {rv : Rv} (hG : GI al iv rv) (a : Int32) (b : Int32) (pp : Int32) (cc_ : Int32) (lv_ : Int32) (rr : Int32) : Met l yX12_leg (wd yX12_leg cX12_leg 7 (some .int)) (rm 2) (PcW D cA sz al iv rv [.ref (al.2 0 0), .int a, .int b, .int pp, .int cc_, .int lv_, .int rr]) (QI D cA sz al (fI al ([16, 5, 6, 7, 8, 9, 10], [(0, 6)]) iv rv (fun r iv' rv' => True))) 0 0 (Aq sz) := by
  refine mk_i (by decide) (Nat.le_of_ble_eq_true rfl) rfl ?_
  intro p e s m args below meth c ls Q H locs C hU hS hl hret
  have hx := C.1.1
  have hb := C.1.2.1
  have hl : lv_has ls 7 [(0, .ref (al.2 0 0)), (1, .int a), (2, .int b), (3, .int pp), (4, .int cc_), (5, .int lv_), (6, .int rr)] := hl
  have hG0 := hG
  have h6 := le6 hG
  have h20 := le20 hG
  have h41 := le41 hG
  have hF1 : FR ([16, 5, 6, 7, 8, 9, 10], [(0, 6)]) iv iv := FR.rf
  have hF2 : FR ([16, 5, 6, 7, 8, 9, 10], [(0, 6)]) rv rv := FR.rf
  have km6 : ((-6) : Int32).toInt = -6 := by decide
  have km4 : ((-4) : Int32).toInt = -4 := by decide
  have km1 : ((-1) : Int32).toInt = -1 := by decide
  have k0 : (0 : Int32).toInt = 0 := by decide
  have k1 : (1 : Int32).toInt = 1 := by decide
  have k5 : (5 : Int32).toInt = 5 := by decide
  have k40 : (40 : Int32).toInt = 40 := by decide
  have k20000 : (20000 : Int32).toInt = 20000 := by decide
  refine lv_iload_n hx hb dX12_leg_0 rfl (lv_at hl 1 rfl) ?_
  refine q_pi (q_runS (As := [.int a]) (rest := []) C hU (c_X12_isPort  a ) sm_X12_isPort ml_X12_171 hl.1 rfl rfl (Nat.le_of_ble_eq_true rfl) dX12_leg_1 rfl rfl ⟨Nat.le_of_ble_eq_true rfl, Nat.le_of_ble_eq_true rfl⟩ ⟨Nat.le_refl _, Nat.le_refl _⟩) hS (fun x_2 H locs hp_1 hU hS => ?_)
  refine b_if_eq (tgt := 38) hx hb dX12_leg_4 (by decide) (fun c_3 => ?_) (fun c_3 => ?_)
  ·
    refine lv_aload_n hx hb dX12_leg_38 rfl (lv_at hl 0 rfl) ?_
    refine lv_iconst (v := (-1)) hx hb dX12_leg_39 (by decide) ?_
    refine q_fi (q_runV (t := 0) (i := 0) (As := [.int (-1)]) (rest := []) C hU (c_X12_refuse hG (-1) (by omega)) vm_X12_refuse ml_X12_164 k_0.1 (hc := rfl) rfl (h1_0 hG) hl.1 rfl rfl (Nat.le_of_ble_eq_true rfl) dX12_leg_40 rfl rfl ⟨Nat.le_of_ble_eq_true rfl, Nat.le_of_ble_eq_true rfl⟩ ⟨Nat.le_refl _, Nat.le_refl _⟩) hS (fun x_9 iv_5 rv_6 H locs hG fa_7 fb_8 hp_4 hU hS => ?_)
    have hF1 := hF1.tr (m := ([16, 5, 6, 7, 8, 9, 10], [(0, 6)])) fa_7 (by decide)
    have hF2 := hF2.tr (m := ([16, 5, 6, 7, 8, 9, 10], [(0, 6)])) fb_8 (by decide)
    exact hret (⟨hG, hF1, hF2, trivial⟩) hU hS dX12_leg_43
  ·
    refine lv_iload_n hx hb dX12_leg_7 rfl (lv_at hl 2 rfl) ?_
    refine q_pi (q_runS (As := [.int b]) (rest := []) C hU (c_X12_isPort  b ) sm_X12_isPort ml_X12_171 hl.1 rfl rfl (Nat.le_of_ble_eq_true rfl) dX12_leg_8 rfl rfl ⟨Nat.le_of_ble_eq_true rfl, Nat.le_of_ble_eq_true rfl⟩ ⟨Nat.le_refl _, Nat.le_refl _⟩) hS (fun x_11 H locs hp_10 hU hS => ?_)
    refine b_if_eq (tgt := 38) hx hb dX12_leg_11 (by decide) (fun c_12 => ?_) (fun c_12 => ?_)
    ·
      refine lv_aload_n hx hb dX12_leg_38 rfl (lv_at hl 0 rfl) ?_
      refine lv_iconst (v := (-1)) hx hb dX12_leg_39 (by decide) ?_
      refine q_fi (q_runV (t := 0) (i := 0) (As := [.int (-1)]) (rest := []) C hU (c_X12_refuse hG (-1) (by omega)) vm_X12_refuse ml_X12_164 k_0.1 (hc := rfl) rfl (h1_0 hG) hl.1 rfl rfl (Nat.le_of_ble_eq_true rfl) dX12_leg_40 rfl rfl ⟨Nat.le_of_ble_eq_true rfl, Nat.le_of_ble_eq_true rfl⟩ ⟨Nat.le_refl _, Nat.le_refl _⟩) hS (fun x_18 iv_14 rv_15 H locs hG fa_16 fb_17 hp_13 hU hS => ?_)
      have hF1 := hF1.tr (m := ([16, 5, 6, 7, 8, 9, 10], [(0, 6)])) fa_16 (by decide)
      have hF2 := hF2.tr (m := ([16, 5, 6, 7, 8, 9, 10], [(0, 6)])) fb_17 (by decide)
      exact hret (⟨hG, hF1, hF2, trivial⟩) hU hS dX12_leg_43
    ·
      refine lv_iload_n hx hb dX12_leg_14 rfl (lv_at hl 1 rfl) ?_
      refine lv_iload_n hx hb dX12_leg_15 rfl (lv_at hl 2 rfl) ?_
      refine b_icmp_eq (tgt := 38) hx hb dX12_leg_16 (by decide) (fun c_19 => ?_) (fun c_19 => ?_)
      ·
        refine lv_aload_n hx hb dX12_leg_38 rfl (lv_at hl 0 rfl) ?_
        refine lv_iconst (v := (-1)) hx hb dX12_leg_39 (by decide) ?_
        refine q_fi (q_runV (t := 0) (i := 0) (As := [.int (-1)]) (rest := []) C hU (c_X12_refuse hG (-1) (by omega)) vm_X12_refuse ml_X12_164 k_0.1 (hc := rfl) rfl (h1_0 hG) hl.1 rfl rfl (Nat.le_of_ble_eq_true rfl) dX12_leg_40 rfl rfl ⟨Nat.le_of_ble_eq_true rfl, Nat.le_of_ble_eq_true rfl⟩ ⟨Nat.le_refl _, Nat.le_refl _⟩) hS (fun x_25 iv_21 rv_22 H locs hG fa_23 fb_24 hp_20 hU hS => ?_)
        have hF1 := hF1.tr (m := ([16, 5, 6, 7, 8, 9, 10], [(0, 6)])) fa_23 (by decide)
        have hF2 := hF2.tr (m := ([16, 5, 6, 7, 8, 9, 10], [(0, 6)])) fb_24 (by decide)
        exact hret (⟨hG, hF1, hF2, trivial⟩) hU hS dX12_leg_43
      ·
        refine lv_iload_n hx hb dX12_leg_19 rfl (lv_at hl 3 rfl) ?_
        refine lv_iconst (v := 0) hx hb dX12_leg_20 (by decide) ?_
        refine lv_iconst (v := 5) hx hb dX12_leg_21 (by decide) ?_
        refine q_pi (q_runS (As := [.int pp, .int 0, .int 5]) (rest := []) C hU (c_X12_in  pp 0 5 ) sm_X12_in ml_X12_156 hl.1 rfl rfl (Nat.le_of_ble_eq_true rfl) dX12_leg_22 rfl rfl ⟨Nat.le_of_ble_eq_true rfl, Nat.le_of_ble_eq_true rfl⟩ ⟨Nat.le_refl _, Nat.le_refl _⟩) hS (fun x_27 H locs hp_26 hU hS => ?_)
        refine b_if_eq (tgt := 38) hx hb dX12_leg_25 (by decide) (fun c_28 => ?_) (fun c_28 => ?_)
        ·
          refine lv_aload_n hx hb dX12_leg_38 rfl (lv_at hl 0 rfl) ?_
          refine lv_iconst (v := (-1)) hx hb dX12_leg_39 (by decide) ?_
          refine q_fi (q_runV (t := 0) (i := 0) (As := [.int (-1)]) (rest := []) C hU (c_X12_refuse hG (-1) (by omega)) vm_X12_refuse ml_X12_164 k_0.1 (hc := rfl) rfl (h1_0 hG) hl.1 rfl rfl (Nat.le_of_ble_eq_true rfl) dX12_leg_40 rfl rfl ⟨Nat.le_of_ble_eq_true rfl, Nat.le_of_ble_eq_true rfl⟩ ⟨Nat.le_refl _, Nat.le_refl _⟩) hS (fun x_34 iv_30 rv_31 H locs hG fa_32 fb_33 hp_29 hU hS => ?_)
          have hF1 := hF1.tr (m := ([16, 5, 6, 7, 8, 9, 10], [(0, 6)])) fa_32 (by decide)
          have hF2 := hF2.tr (m := ([16, 5, 6, 7, 8, 9, 10], [(0, 6)])) fb_33 (by decide)
          exact hret (⟨hG, hF1, hF2, trivial⟩) hU hS dX12_leg_43
        ·
          refine lv_iload hx hb dX12_leg_28 (lv_at hl 4 rfl) ?_
          refine lv_iconst (v := 0) hx hb dX12_leg_30 (by decide) ?_
          refine lv_iconst (v := 5) hx hb dX12_leg_31 (by decide) ?_
          refine q_pi (q_runS (As := [.int cc_, .int 0, .int 5]) (rest := []) C hU (c_X12_in  cc_ 0 5 ) sm_X12_in ml_X12_156 hl.1 rfl rfl (Nat.le_of_ble_eq_true rfl) dX12_leg_32 rfl rfl ⟨Nat.le_of_ble_eq_true rfl, Nat.le_of_ble_eq_true rfl⟩ ⟨Nat.le_refl _, Nat.le_refl _⟩) hS (fun x_36 H locs hp_35 hU hS => ?_)
          refine b_if_ne (tgt := 44) hx hb dX12_leg_35 (by decide) (fun c_37 => ?_) (fun c_37 => ?_)
          ·
            refine lv_iload hx hb dX12_leg_44 (lv_at hl 5 rfl) ?_
            refine b_if_lt (tgt := 56) hx hb dX12_leg_46 (by decide) (fun c_38 => ?_) (fun c_38 => ?_)
            ·
              refine lv_aload_n hx hb dX12_leg_56 rfl (lv_at hl 0 rfl) ?_
              refine lv_bipush (v := (-4)) hx hb dX12_leg_57 (by decide) ?_
              refine q_fi (q_runV (t := 0) (i := 0) (As := [.int (-4)]) (rest := []) C hU (c_X12_refuse hG (-4) (by omega)) vm_X12_refuse ml_X12_164 k_0.1 (hc := rfl) rfl (h1_0 hG) hl.1 rfl rfl (Nat.le_of_ble_eq_true rfl) dX12_leg_59 rfl rfl ⟨Nat.le_of_ble_eq_true rfl, Nat.le_of_ble_eq_true rfl⟩ ⟨Nat.le_refl _, Nat.le_refl _⟩) hS (fun x_44 iv_40 rv_41 H locs hG fa_42 fb_43 hp_39 hU hS => ?_)
              have hF1 := hF1.tr (m := ([16, 5, 6, 7, 8, 9, 10], [(0, 6)])) fa_42 (by decide)
              have hF2 := hF2.tr (m := ([16, 5, 6, 7, 8, 9, 10], [(0, 6)])) fb_43 (by decide)
              exact hret (⟨hG, hF1, hF2, trivial⟩) hU hS dX12_leg_62
            ·
              refine lv_iload hx hb dX12_leg_49 (lv_at hl 6 rfl) ?_
              refine lv_iload hx hb dX12_leg_51 (lv_at hl 5 rfl) ?_
              refine b_icmp_gt (tgt := 63) hx hb dX12_leg_53 (by decide) (fun c_45 => ?_) (fun c_45 => ?_)
              ·
                refine lv_iload hx hb dX12_leg_63 (lv_at hl 6 rfl) ?_
                refine lv_sipush (v := 20000) hx hb dX12_leg_65 (by decide) ?_
                refine b_icmp_gt (tgt := 80) hx hb dX12_leg_68 (by decide) (fun c_46 => ?_) (fun c_46 => ?_)
                ·
                  refine lv_aload_n hx hb dX12_leg_80 rfl (lv_at hl 0 rfl) ?_
                  refine lv_bipush (v := (-6)) hx hb dX12_leg_81 (by decide) ?_
                  refine q_fi (q_runV (t := 0) (i := 0) (As := [.int (-6)]) (rest := []) C hU (c_X12_refuse hG (-6) (by omega)) vm_X12_refuse ml_X12_164 k_0.1 (hc := rfl) rfl (h1_0 hG) hl.1 rfl rfl (Nat.le_of_ble_eq_true rfl) dX12_leg_83 rfl rfl ⟨Nat.le_of_ble_eq_true rfl, Nat.le_of_ble_eq_true rfl⟩ ⟨Nat.le_refl _, Nat.le_refl _⟩) hS (fun x_52 iv_48 rv_49 H locs hG fa_50 fb_51 hp_47 hU hS => ?_)
                  have hF1 := hF1.tr (m := ([16, 5, 6, 7, 8, 9, 10], [(0, 6)])) fa_50 (by decide)
                  have hF2 := hF2.tr (m := ([16, 5, 6, 7, 8, 9, 10], [(0, 6)])) fb_51 (by decide)
                  exact hret (⟨hG, hF1, hF2, trivial⟩) hU hS dX12_leg_86
                ·
                  refine lv_aload_n hx hb dX12_leg_71 rfl (lv_at hl 0 rfl) ?_
                  refine g_0_6 C hU hG (h1_0 hG) fl_X12_160 dX12_leg_72 (fun x_53 e_54 le_54 ue_54 => ?_)
                  have te_54 := congrArg Int32.toInt e_54
                  refine lv_bipush (v := 40) hx hb dX12_leg_75 (by decide) ?_
                  refine b_icmp_ne (tgt := 87) hx hb dX12_leg_77 (by decide) (fun c_55 => ?_) (fun c_55 => ?_)
                  ·
                    refine lv_aload_n hx hb dX12_leg_87 rfl (lv_at hl 0 rfl) ?_
                    refine g_0_7 C hU hG (h1_0 hG) fl_X12_22 dX12_leg_88 ?_
                    refine lv_aload_n hx hb dX12_leg_91 rfl (lv_at hl 0 rfl) ?_
                    refine g_0_6 C hU hG (h1_0 hG) fl_X12_160 dX12_leg_92 (fun x_56 e_57 le_57 ue_57 => ?_)
                    have te_57 := congrArg Int32.toInt e_57
                    refine lv_iload_n hx hb dX12_leg_95 rfl (lv_at hl 1 rfl) ?_
                    refine s_5 C hU hS (h1_5 hG) (x := x_56) (by omega) (by omega) dX12_leg_96 (fun iv_58 H locs ei_59 hU hS => ?_)
                    have hG : GI al iv_58 rv := by rw [ei_59]; exact hG.puti (show _ ∧ _ from ⟨show (0 : Int) ≤ _ by omega, show _ ≤ (9 : Int) by omega⟩) (nsA (by decide) _)
                    have hF1 : FR ([16, 5, 6, 7, 8, 9, 10], [(0, 6)]) iv iv_58 := by rw [ei_59]; exact hF1.put (Or.inl (by decide))
                    have kf_60 := congrArg Int32.toInt (show iv_58 0 0 6 = iv 0 0 6 by rw [ei_59]; exact up3_ne (fun z => absurd z.1 (by decide)))
                    refine lv_aload_n hx hb dX12_leg_97 rfl (lv_at hl 0 rfl) ?_
                    refine g_0_8 C hU hG (h1_0 hG) fl_X12_25 dX12_leg_98 ?_
                    refine lv_aload_n hx hb dX12_leg_101 rfl (lv_at hl 0 rfl) ?_
                    refine g_0_6 C hU hG (h1_0 hG) fl_X12_160 dX12_leg_102 (fun x_61 e_62 le_62 ue_62 => ?_)
                    have te_62 := congrArg Int32.toInt e_62
                    refine lv_iload_n hx hb dX12_leg_105 rfl (lv_at hl 2 rfl) ?_
                    refine s_6 C hU hS (h1_6 hG) (x := x_61) (by omega) (by omega) dX12_leg_106 (fun iv_63 H locs ei_64 hU hS => ?_)
                    have hG : GI al iv_63 rv := by rw [ei_64]; exact hG.puti (show _ ∧ _ from ⟨show (0 : Int) ≤ _ by omega, show _ ≤ (9 : Int) by omega⟩) (nsA (by decide) _)
                    have hF1 : FR ([16, 5, 6, 7, 8, 9, 10], [(0, 6)]) iv iv_63 := by rw [ei_64]; exact hF1.put (Or.inl (by decide))
                    have kf_65 := congrArg Int32.toInt (show iv_63 0 0 6 = iv_58 0 0 6 by rw [ei_64]; exact up3_ne (fun z => absurd z.1 (by decide)))
                    refine lv_aload_n hx hb dX12_leg_107 rfl (lv_at hl 0 rfl) ?_
                    refine g_0_9 C hU hG (h1_0 hG) fl_X12_28 dX12_leg_108 ?_
                    refine lv_aload_n hx hb dX12_leg_111 rfl (lv_at hl 0 rfl) ?_
                    refine g_0_6 C hU hG (h1_0 hG) fl_X12_160 dX12_leg_112 (fun x_66 e_67 le_67 ue_67 => ?_)
                    have te_67 := congrArg Int32.toInt e_67
                    refine lv_iload_n hx hb dX12_leg_115 rfl (lv_at hl 3 rfl) ?_
                    refine s_7 C hU hS (h1_7 hG) (x := x_66) (by omega) (by omega) dX12_leg_116 (fun iv_68 H locs ei_69 hU hS => ?_)
                    have hG : GI al iv_68 rv := by rw [ei_69]; exact hG.puti (show _ ∧ _ from ⟨(fb_rng _).1, Int.le_of_lt_add_one (fb_rng _).2⟩) (nsA (by decide) _)
                    have hF1 : FR ([16, 5, 6, 7, 8, 9, 10], [(0, 6)]) iv iv_68 := by rw [ei_69]; exact hF1.put (Or.inl (by decide))
                    have kf_70 := congrArg Int32.toInt (show iv_68 0 0 6 = iv_63 0 0 6 by rw [ei_69]; exact up3_ne (fun z => absurd z.1 (by decide)))
                    refine lv_aload_n hx hb dX12_leg_117 rfl (lv_at hl 0 rfl) ?_
                    refine g_0_10 C hU hG (h1_0 hG) fl_X12_31 dX12_leg_118 ?_
                    refine lv_aload_n hx hb dX12_leg_121 rfl (lv_at hl 0 rfl) ?_
                    refine g_0_6 C hU hG (h1_0 hG) fl_X12_160 dX12_leg_122 (fun x_71 e_72 le_72 ue_72 => ?_)
                    have te_72 := congrArg Int32.toInt e_72
                    refine lv_iload hx hb dX12_leg_125 (lv_at hl 4 rfl) ?_
                    refine s_8 C hU hS (h1_8 hG) (x := x_71) (by omega) (by omega) dX12_leg_127 (fun iv_73 H locs ei_74 hU hS => ?_)
                    have hG : GI al iv_73 rv := by rw [ei_74]; exact hG.puti (show _ ∧ _ from ⟨(fb_rng _).1, Int.le_of_lt_add_one (fb_rng _).2⟩) (nsA (by decide) _)
                    have hF1 : FR ([16, 5, 6, 7, 8, 9, 10], [(0, 6)]) iv iv_73 := by rw [ei_74]; exact hF1.put (Or.inl (by decide))
                    have kf_75 := congrArg Int32.toInt (show iv_73 0 0 6 = iv_68 0 0 6 by rw [ei_74]; exact up3_ne (fun z => absurd z.1 (by decide)))
                    refine lv_aload_n hx hb dX12_leg_128 rfl (lv_at hl 0 rfl) ?_
                    refine g_0_11 C hU hG (h1_0 hG) fl_X12_34 dX12_leg_129 ?_
                    refine lv_aload_n hx hb dX12_leg_132 rfl (lv_at hl 0 rfl) ?_
                    refine g_0_6 C hU hG (h1_0 hG) fl_X12_160 dX12_leg_133 (fun x_76 e_77 le_77 ue_77 => ?_)
                    have te_77 := congrArg Int32.toInt e_77
                    refine lv_iload hx hb dX12_leg_136 (lv_at hl 5 rfl) ?_
                    refine s_9 C hU hS (h1_9 hG) (x := x_76) (by omega) (by omega) dX12_leg_138 (fun iv_78 H locs ei_79 hU hS => ?_)
                    have hG : GI al iv_78 rv := by rw [ei_79]; exact hG.put9 ⟨by omega, by omega⟩ (by omega) (by omega)
                    have hF1 : FR ([16, 5, 6, 7, 8, 9, 10], [(0, 6)]) iv iv_78 := by rw [ei_79]; exact hF1.put (Or.inl (by decide))
                    have kf_80 := congrArg Int32.toInt (show iv_78 0 0 6 = iv_73 0 0 6 by rw [ei_79]; exact up3_ne (fun z => absurd z.1 (by decide)))
                    refine lv_aload_n hx hb dX12_leg_139 rfl (lv_at hl 0 rfl) ?_
                    refine g_0_12 C hU hG (h1_0 hG) fl_X12_37 dX12_leg_140 ?_
                    refine lv_aload_n hx hb dX12_leg_143 rfl (lv_at hl 0 rfl) ?_
                    refine g_0_6 C hU hG (h1_0 hG) fl_X12_160 dX12_leg_144 (fun x_81 e_82 le_82 ue_82 => ?_)
                    have te_82 := congrArg Int32.toInt e_82
                    refine lv_iload hx hb dX12_leg_147 (lv_at hl 6 rfl) ?_
                    refine s_10 C hU hS (h1_10 hG) (x := x_81) (by omega) (by omega) dX12_leg_149 (fun iv_83 H locs ei_84 hU hS => ?_)
                    have hG : GI al iv_83 rv := by rw [ei_84]; exact hG.put10 ⟨by omega, by omega⟩ (by omega) (by omega)
                    have hF1 : FR ([16, 5, 6, 7, 8, 9, 10], [(0, 6)]) iv iv_83 := by rw [ei_84]; exact hF1.put (Or.inl (by decide))
                    have kf_85 := congrArg Int32.toInt (show iv_83 0 0 6 = iv_78 0 0 6 by rw [ei_84]; exact up3_ne (fun z => absurd z.1 (by decide)))
                    refine lv_aload_n hx hb dX12_leg_150 rfl (lv_at hl 0 rfl) ?_
                    refine lv_dup hx hb dX12_leg_151 rfl ?_
                    refine g_0_6 C hU hG (h1_0 hG) fl_X12_160 dX12_leg_152 (fun x_86 e_87 le_87 ue_87 => ?_)
                    have te_87 := congrArg Int32.toInt e_87
                    have a1 : iv_83 10 0 x_86.toNatClampNeg = rr := by rw [ei_84, clamp_eq (show x_86.toInt = x_81.toInt by omega)]; exact up3_self _ _ _ _ _
                    have a2 : iv_83 9 0 x_86.toNatClampNeg = lv_ := by rw [ei_84, up3_ne (fun z => absurd z.1 (by decide)), ei_79, clamp_eq (show x_86.toInt = x_76.toInt by omega)]; exact up3_self _ _ _ _ _
                    refine lv_iconst (v := 1) hx hb dX12_leg_155 (by decide) ?_
                    refine lv_iadd hx hb dX12_leg_156 ?_
                    refine lv_topi (fun x_88 e_89 => ?_)
                    have te_89 : x_88.toInt = (x_86 : Int32).toInt + (1 : Int32).toInt := by rw [e_89]; exact fb_addI (by omega) (by omega)
                    refine p_0_6 C hU hS (h1_0 hG) fl_X12_160 dX12_leg_157 (fun iv_90 H locs ei_91 hU hS => ?_)
                    have hG : GI al iv_90 rv := by rw [ei_91]; exact hG.put6 (x := x_86) ⟨by omega, by omega⟩ (by omega) (by omega) (by rw [a1, a2]; omega)
                    have hF1 : FR ([16, 5, 6, 7, 8, 9, 10], [(0, 6)]) iv iv_90 := by rw [ei_91]; exact hF1.put (by decide)
                    refine lv_aload_n hx hb dX12_leg_160 rfl (lv_at hl 0 rfl) ?_
                    refine g_0_6 C hU hG (h1_0 hG) fl_X12_160 dX12_leg_161 (fun x_92 e_93 le_93 ue_93 => ?_)
                    have te_93 := congrArg Int32.toInt e_93
                    refine lv_iconst (v := 1) hx hb dX12_leg_164 (by decide) ?_
                    refine lv_isub hx hb dX12_leg_165 ?_
                    refine lv_topi (fun x_94 e_95 => ?_)
                    have te_95 : x_94.toInt = (x_92 : Int32).toInt - (1 : Int32).toInt := by rw [e_95]; exact fb_subI (by omega) (by omega)
                    exact hret (⟨hG, hF1, hF2, trivial⟩) hU hS dX12_leg_166
                  ·
                    refine lv_aload_n hx hb dX12_leg_80 rfl (lv_at hl 0 rfl) ?_
                    refine lv_bipush (v := (-6)) hx hb dX12_leg_81 (by decide) ?_
                    refine q_fi (q_runV (t := 0) (i := 0) (As := [.int (-6)]) (rest := []) C hU (c_X12_refuse hG (-6) (by omega)) vm_X12_refuse ml_X12_164 k_0.1 (hc := rfl) rfl (h1_0 hG) hl.1 rfl rfl (Nat.le_of_ble_eq_true rfl) dX12_leg_83 rfl rfl ⟨Nat.le_of_ble_eq_true rfl, Nat.le_of_ble_eq_true rfl⟩ ⟨Nat.le_refl _, Nat.le_refl _⟩) hS (fun x_101 iv_97 rv_98 H locs hG fa_99 fb_100 hp_96 hU hS => ?_)
                    have hF1 := hF1.tr (m := ([16, 5, 6, 7, 8, 9, 10], [(0, 6)])) fa_99 (by decide)
                    have hF2 := hF2.tr (m := ([16, 5, 6, 7, 8, 9, 10], [(0, 6)])) fb_100 (by decide)
                    exact hret (⟨hG, hF1, hF2, trivial⟩) hU hS dX12_leg_86
              ·
                refine lv_aload_n hx hb dX12_leg_56 rfl (lv_at hl 0 rfl) ?_
                refine lv_bipush (v := (-4)) hx hb dX12_leg_57 (by decide) ?_
                refine q_fi (q_runV (t := 0) (i := 0) (As := [.int (-4)]) (rest := []) C hU (c_X12_refuse hG (-4) (by omega)) vm_X12_refuse ml_X12_164 k_0.1 (hc := rfl) rfl (h1_0 hG) hl.1 rfl rfl (Nat.le_of_ble_eq_true rfl) dX12_leg_59 rfl rfl ⟨Nat.le_of_ble_eq_true rfl, Nat.le_of_ble_eq_true rfl⟩ ⟨Nat.le_refl _, Nat.le_refl _⟩) hS (fun x_107 iv_103 rv_104 H locs hG fa_105 fb_106 hp_102 hU hS => ?_)
                have hF1 := hF1.tr (m := ([16, 5, 6, 7, 8, 9, 10], [(0, 6)])) fa_105 (by decide)
                have hF2 := hF2.tr (m := ([16, 5, 6, 7, 8, 9, 10], [(0, 6)])) fb_106 (by decide)
                exact hret (⟨hG, hF1, hF2, trivial⟩) hU hS dX12_leg_62
          ·
            refine lv_aload_n hx hb dX12_leg_38 rfl (lv_at hl 0 rfl) ?_
            refine lv_iconst (v := (-1)) hx hb dX12_leg_39 (by decide) ?_
            refine q_fi (q_runV (t := 0) (i := 0) (As := [.int (-1)]) (rest := []) C hU (c_X12_refuse hG (-1) (by omega)) vm_X12_refuse ml_X12_164 k_0.1 (hc := rfl) rfl (h1_0 hG) hl.1 rfl rfl (Nat.le_of_ble_eq_true rfl) dX12_leg_40 rfl rfl ⟨Nat.le_of_ble_eq_true rfl, Nat.le_of_ble_eq_true rfl⟩ ⟨Nat.le_refl _, Nat.le_refl _⟩) hS (fun x_113 iv_109 rv_110 H locs hG fa_111 fb_112 hp_108 hU hS => ?_)
            have hF1 := hF1.tr (m := ([16, 5, 6, 7, 8, 9, 10], [(0, 6)])) fa_111 (by decide)
            have hF2 := hF2.tr (m := ([16, 5, 6, 7, 8, 9, 10], [(0, 6)])) fb_112 (by decide)
            exact hret (⟨hG, hF1, hF2, trivial⟩) hU hS dX12_leg_43
set_option maxHeartbeats 4000000 in
set_option maxRecDepth 100000 in
theorem c_X12_traveller {l : Launch} {D : va_G} {cA : FieldType → ClassId} {sz : Nat} {al : Al} {iv : Iv} {rv : Rv} (hG : GI al iv rv) (lg : Int32) : Met l yX12_traveller (wd yX12_traveller cX12_traveller 2 (some .int)) (rm 2) (PcW D cA sz al iv rv [.ref (al.2 0 0), .int lg]) (QI D cA sz al (fI al ([16, 18, 19], [(0, 20)]) iv rv (fun r iv' rv' => True))) 0 0 (Aq sz) := by
  refine mk_i (by decide) (Nat.le_of_ble_eq_true rfl) rfl ?_
  intro p e s m args below meth c ls Q H locs C hU hS hl hret
  have hx := C.1.1
  have hb := C.1.2.1
  have hl : lv_has ls 2 [(0, .ref (al.2 0 0)), (1, .int lg)] := hl
  have hG0 := hG
  have h6 := le6 hG
  have h20 := le20 hG
  have h41 := le41 hG
  have hF1 : FR ([16, 18, 19], [(0, 20)]) iv iv := FR.rf
  have hF2 : FR ([16, 18, 19], [(0, 20)]) rv rv := FR.rf
  have km6 : ((-6) : Int32).toInt = -6 := by decide
  have km1 : ((-1) : Int32).toInt = -1 := by decide
  have k1 : (1 : Int32).toInt = 1 := by decide
  have k4 : (4 : Int32).toInt = 4 := by decide
  have k20 : (20 : Int32).toInt = 20 := by decide
  refine lv_aload_n hx hb dX12_traveller_0 rfl (lv_at hl 0 rfl) ?_
  refine lv_iload_n hx hb dX12_traveller_1 rfl (lv_at hl 1 rfl) ?_
  refine q_pi (q_runV (t := 0) (i := 0) (As := [.int lg]) (rest := []) C hU (c_X12_isLeg hG lg ) vm_X12_isLeg ml_X12_181 k_0.1 (hc := rfl) rfl (h1_0 hG) hl.1 rfl rfl (Nat.le_of_ble_eq_true rfl) dX12_traveller_2 rfl rfl ⟨Nat.le_of_ble_eq_true rfl, Nat.le_of_ble_eq_true rfl⟩ ⟨Nat.le_refl _, Nat.le_refl _⟩) hS (fun x_2 H locs hp_1 hU hS => ?_)
  refine b_if_ne (tgt := 14) hx hb dX12_traveller_5 (by decide) (fun c_3 => ?_) (fun c_3 => ?_)
  ·
    refine lv_aload_n hx hb dX12_traveller_14 rfl (lv_at hl 0 rfl) ?_
    refine g_0_20 C hU hG (h1_0 hG) fl_X12_223 dX12_traveller_15 (fun x_4 e_5 le_5 ue_5 => ?_)
    have te_5 := congrArg Int32.toInt e_5
    refine lv_bipush (v := 20) hx hb dX12_traveller_18 (by decide) ?_
    refine b_icmp_ne (tgt := 30) hx hb dX12_traveller_20 (by decide) (fun c_6 => ?_) (fun c_6 => ?_)
    ·
      refine lv_aload_n hx hb dX12_traveller_30 rfl (lv_at hl 0 rfl) ?_
      refine g_0_21 C hU hG (h1_0 hG) fl_X12_62 dX12_traveller_31 ?_
      refine lv_iconst (v := 4) hx hb dX12_traveller_34 (by decide) ?_
      refine lv_aload_n hx hb dX12_traveller_35 rfl (lv_at hl 0 rfl) ?_
      refine g_0_20 C hU hG (h1_0 hG) fl_X12_223 dX12_traveller_36 (fun x_7 e_8 le_8 ue_8 => ?_)
      have te_8 := congrArg Int32.toInt e_8
      refine lv_imul hx hb dX12_traveller_39 ?_
      refine lv_topi (fun x_9 e_10 => ?_)
      have te_10 : x_9.toInt = 4 * (x_7 : Int32).toInt := by rw [e_10, fb_mulI (by rw [show (4 : Int32).toInt = 4 from by decide]; omega) (by rw [show (4 : Int32).toInt = 4 from by decide]; omega), show (4 : Int32).toInt = 4 from by decide]
      refine lv_iload_n hx hb dX12_traveller_40 rfl (lv_at hl 1 rfl) ?_
      refine s_18 C hU hS (h1_18 hG) (x := x_9) (by omega) (by omega) dX12_traveller_41 (fun iv_11 H locs ei_12 hU hS => ?_)
      have hG : GI al iv_11 rv := by rw [ei_12]; exact hG.puti (show _ ∧ _ from ⟨show (0 : Int) ≤ _ by omega, show _ ≤ (39 : Int) by omega⟩) (nsA (by decide) _)
      have hF1 : FR ([16, 18, 19], [(0, 20)]) iv iv_11 := by rw [ei_12]; exact hF1.put (Or.inl (by decide))
      have kf_13 := congrArg Int32.toInt (show iv_11 0 0 20 = iv 0 0 20 by rw [ei_12]; exact up3_ne (fun z => absurd z.1 (by decide)))
      refine lv_aload_n hx hb dX12_traveller_42 rfl (lv_at hl 0 rfl) ?_
      refine g_0_22 C hU hG (h1_0 hG) fl_X12_65 dX12_traveller_43 ?_
      refine lv_aload_n hx hb dX12_traveller_46 rfl (lv_at hl 0 rfl) ?_
      refine g_0_20 C hU hG (h1_0 hG) fl_X12_223 dX12_traveller_47 (fun x_14 e_15 le_15 ue_15 => ?_)
      have te_15 := congrArg Int32.toInt e_15
      refine lv_iconst (v := 1) hx hb dX12_traveller_50 (by decide) ?_
      refine s_19 C hU hS (h1_19 hG) (x := x_14) (by omega) (by omega) dX12_traveller_51 (fun iv_16 H locs ei_17 hU hS => ?_)
      have hG : GI al iv_16 rv := by rw [ei_17]; exact hG.put19 ⟨by omega, by omega⟩
      have hF1 : FR ([16, 18, 19], [(0, 20)]) iv iv_16 := by rw [ei_17]; exact hF1.put (Or.inl (by decide))
      have kf_18 := congrArg Int32.toInt (show iv_16 0 0 20 = iv_11 0 0 20 by rw [ei_17]; exact up3_ne (fun z => absurd z.1 (by decide)))
      refine lv_aload_n hx hb dX12_traveller_52 rfl (lv_at hl 0 rfl) ?_
      refine lv_dup hx hb dX12_traveller_53 rfl ?_
      refine g_0_20 C hU hG (h1_0 hG) fl_X12_223 dX12_traveller_54 (fun x_19 e_20 le_20 ue_20 => ?_)
      have te_20 := congrArg Int32.toInt e_20
      have a1 : iv_16 19 0 x_19.toNatClampNeg = 1 := by rw [ei_17, clamp_eq (show x_19.toInt = x_14.toInt by omega)]; exact up3_self _ _ _ _ _
      refine lv_iconst (v := 1) hx hb dX12_traveller_57 (by decide) ?_
      refine lv_iadd hx hb dX12_traveller_58 ?_
      refine lv_topi (fun x_21 e_22 => ?_)
      have te_22 : x_21.toInt = (x_19 : Int32).toInt + (1 : Int32).toInt := by rw [e_22]; exact fb_addI (by omega) (by omega)
      refine p_0_20 C hU hS (h1_0 hG) fl_X12_223 dX12_traveller_59 (fun iv_23 H locs ei_24 hU hS => ?_)
      have hG : GI al iv_23 rv := by rw [ei_24]; exact hG.put20 (x := x_19) ⟨by omega, by omega⟩ (by omega) (by omega) (by rw [a1]; omega)
      have hF1 : FR ([16, 18, 19], [(0, 20)]) iv iv_23 := by rw [ei_24]; exact hF1.put (by decide)
      refine lv_aload_n hx hb dX12_traveller_62 rfl (lv_at hl 0 rfl) ?_
      refine g_0_20 C hU hG (h1_0 hG) fl_X12_223 dX12_traveller_63 (fun x_25 e_26 le_26 ue_26 => ?_)
      have te_26 := congrArg Int32.toInt e_26
      refine lv_iconst (v := 1) hx hb dX12_traveller_66 (by decide) ?_
      refine lv_isub hx hb dX12_traveller_67 ?_
      refine lv_topi (fun x_27 e_28 => ?_)
      have te_28 : x_27.toInt = (x_25 : Int32).toInt - (1 : Int32).toInt := by rw [e_28]; exact fb_subI (by omega) (by omega)
      exact hret (⟨hG, hF1, hF2, trivial⟩) hU hS dX12_traveller_68
    ·
      refine lv_aload_n hx hb dX12_traveller_23 rfl (lv_at hl 0 rfl) ?_
      refine lv_bipush (v := (-6)) hx hb dX12_traveller_24 (by decide) ?_
      refine q_fi (q_runV (t := 0) (i := 0) (As := [.int (-6)]) (rest := []) C hU (c_X12_refuse hG (-6) (by omega)) vm_X12_refuse ml_X12_164 k_0.1 (hc := rfl) rfl (h1_0 hG) hl.1 rfl rfl (Nat.le_of_ble_eq_true rfl) dX12_traveller_26 rfl rfl ⟨Nat.le_of_ble_eq_true rfl, Nat.le_of_ble_eq_true rfl⟩ ⟨Nat.le_refl _, Nat.le_refl _⟩) hS (fun x_34 iv_30 rv_31 H locs hG fa_32 fb_33 hp_29 hU hS => ?_)
      have hF1 := hF1.tr (m := ([16, 18, 19], [(0, 20)])) fa_32 (by decide)
      have hF2 := hF2.tr (m := ([16, 18, 19], [(0, 20)])) fb_33 (by decide)
      exact hret (⟨hG, hF1, hF2, trivial⟩) hU hS dX12_traveller_29
  ·
    refine lv_aload_n hx hb dX12_traveller_8 rfl (lv_at hl 0 rfl) ?_
    refine lv_iconst (v := (-1)) hx hb dX12_traveller_9 (by decide) ?_
    refine q_fi (q_runV (t := 0) (i := 0) (As := [.int (-1)]) (rest := []) C hU (c_X12_refuse hG (-1) (by omega)) vm_X12_refuse ml_X12_164 k_0.1 (hc := rfl) rfl (h1_0 hG) hl.1 rfl rfl (Nat.le_of_ble_eq_true rfl) dX12_traveller_10 rfl rfl ⟨Nat.le_of_ble_eq_true rfl, Nat.le_of_ble_eq_true rfl⟩ ⟨Nat.le_refl _, Nat.le_refl _⟩) hS (fun x_40 iv_36 rv_37 H locs hG fa_38 fb_39 hp_35 hU hS => ?_)
    have hF1 := hF1.tr (m := ([16, 18, 19], [(0, 20)])) fa_38 (by decide)
    have hF2 := hF2.tr (m := ([16, 18, 19], [(0, 20)])) fb_39 (by decide)
    exact hret (⟨hG, hF1, hF2, trivial⟩) hU hS dX12_traveller_13
set_option maxHeartbeats 4000000 in
set_option maxRecDepth 100000 in
theorem c_X12_then {l : Launch} {D : va_G} {cA : FieldType → ClassId} {sz : Nat} {al : Al} {iv : Iv} {rv : Rv} (hG : GI al iv rv) (tt : Int32) (lg : Int32) : Met l yX12_then (wd yX12_then cX12_then 4 (some .int)) (rm 2) (PcW D cA sz al iv rv [.ref (al.2 0 0), .int tt, .int lg]) (QI D cA sz al (fI al ([16, 18, 19], []) iv rv (fun r iv' rv' => True))) 0 0 (Aq sz) := by
  refine mk_i (by decide) (Nat.le_of_ble_eq_true rfl) rfl ?_
  intro p e s m args below meth c ls Q H locs C hU hS hl hret
  have hx := C.1.1
  have hb := C.1.2.1
  have hl : lv_has ls 4 [(0, .ref (al.2 0 0)), (1, .int tt), (2, .int lg)] := hl
  have hG0 := hG
  have h6 := le6 hG
  have h20 := le20 hG
  have h41 := le41 hG
  have hF1 : FR ([16, 18, 19], []) iv iv := FR.rf
  have hF2 : FR ([16, 18, 19], []) rv rv := FR.rf
  have km6 : ((-6) : Int32).toInt = -6 := by decide
  have km3 : ((-3) : Int32).toInt = -3 := by decide
  have km1 : ((-1) : Int32).toInt = -1 := by decide
  have k1 : (1 : Int32).toInt = 1 := by decide
  have k2 : (2 : Int32).toInt = 2 := by decide
  have k4 : (4 : Int32).toInt = 4 := by decide
  refine lv_aload_n hx hb dX12_then_0 rfl (lv_at hl 0 rfl) ?_
  refine lv_iload_n hx hb dX12_then_1 rfl (lv_at hl 1 rfl) ?_
  refine q_pi (q_runV (t := 0) (i := 0) (As := [.int tt]) (rest := []) C hU (c_X12_isTraveller hG tt ) vm_X12_isTraveller ml_X12_226 k_0.1 (hc := rfl) rfl (h1_0 hG) hl.1 rfl rfl (Nat.le_of_ble_eq_true rfl) dX12_then_2 rfl rfl ⟨Nat.le_of_ble_eq_true rfl, Nat.le_of_ble_eq_true rfl⟩ ⟨Nat.le_refl _, Nat.le_refl _⟩) hS (fun x_2 H locs hp_1 hU hS => ?_)
  refine b_if_eq (tgt := 16) hx hb dX12_then_5 (by decide) (fun c_3 => ?_) (fun c_3 => ?_)
  ·
    refine lv_aload_n hx hb dX12_then_16 rfl (lv_at hl 0 rfl) ?_
    refine lv_iconst (v := (-1)) hx hb dX12_then_17 (by decide) ?_
    refine q_fi (q_runV (t := 0) (i := 0) (As := [.int (-1)]) (rest := []) C hU (c_X12_refuse hG (-1) (by omega)) vm_X12_refuse ml_X12_164 k_0.1 (hc := rfl) rfl (h1_0 hG) hl.1 rfl rfl (Nat.le_of_ble_eq_true rfl) dX12_then_18 rfl rfl ⟨Nat.le_of_ble_eq_true rfl, Nat.le_of_ble_eq_true rfl⟩ ⟨Nat.le_refl _, Nat.le_refl _⟩) hS (fun x_9 iv_5 rv_6 H locs hG fa_7 fb_8 hp_4 hU hS => ?_)
    have hF1 := hF1.tr (m := ([16, 18, 19], [])) fa_7 (by decide)
    have hF2 := hF2.tr (m := ([16, 18, 19], [])) fb_8 (by decide)
    exact hret (⟨hG, hF1, hF2, trivial⟩) hU hS dX12_then_21
  ·
    refine lv_aload_n hx hb dX12_then_8 rfl (lv_at hl 0 rfl) ?_
    refine lv_iload_n hx hb dX12_then_9 rfl (lv_at hl 2 rfl) ?_
    refine q_pi (q_runV (t := 0) (i := 0) (As := [.int lg]) (rest := []) C hU (c_X12_isLeg hG lg ) vm_X12_isLeg ml_X12_181 k_0.1 (hc := rfl) rfl (h1_0 hG) hl.1 rfl rfl (Nat.le_of_ble_eq_true rfl) dX12_then_10 rfl rfl ⟨Nat.le_of_ble_eq_true rfl, Nat.le_of_ble_eq_true rfl⟩ ⟨Nat.le_refl _, Nat.le_refl _⟩) hS (fun x_11 H locs hp_10 hU hS => ?_)
    refine b_if_ne (tgt := 22) hx hb dX12_then_13 (by decide) (fun c_12 => ?_) (fun c_12 => ?_)
    ·
      refine lv_aload_n hx hb dX12_then_22 rfl (lv_at hl 0 rfl) ?_
      have hq := rm1 hG (x := tt) (by omega) (by omega)
      refine g_0_21 C hU hG (h1_0 hG) fl_X12_62 dX12_then_23 ?_
      refine lv_iconst (v := 4) hx hb dX12_then_26 (by decide) ?_
      refine lv_iload_n hx hb dX12_then_27 rfl (lv_at hl 1 rfl) ?_
      refine lv_imul hx hb dX12_then_28 ?_
      refine lv_topi (fun x_13 e_14 => ?_)
      have te_14 : x_13.toInt = 4 * (tt : Int32).toInt := by rw [e_14, fb_mulI (by rw [show (4 : Int32).toInt = 4 from by decide]; omega) (by rw [show (4 : Int32).toInt = 4 from by decide]; omega), show (4 : Int32).toInt = 4 from by decide]
      refine lv_aload_n hx hb dX12_then_29 rfl (lv_at hl 0 rfl) ?_
      refine g_0_22 C hU hG (h1_0 hG) fl_X12_65 dX12_then_30 ?_
      refine lv_iload_n hx hb dX12_then_33 rfl (lv_at hl 1 rfl) ?_
      refine a_19 C hU hG (h1_19 hG) (x := tt) (by omega) (by omega) dX12_then_34 (fun x_15 e_16 le_16 ue_16 => ?_)
      have te_16 := congrArg Int32.toInt e_16
      refine lv_iadd hx hb dX12_then_35 ?_
      refine lv_topi (fun x_17 e_18 => ?_)
      have te_18 : x_17.toInt = (x_13 : Int32).toInt + (x_15 : Int32).toInt := by rw [e_18]; exact fb_addI (by omega) (by omega)
      refine lv_iconst (v := 1) hx hb dX12_then_36 (by decide) ?_
      refine lv_isub hx hb dX12_then_37 ?_
      refine lv_topi (fun x_19 e_20 => ?_)
      have te_20 : x_19.toInt = (x_17 : Int32).toInt - (1 : Int32).toInt := by rw [e_20]; exact fb_subI (by omega) (by omega)
      refine a_18 C hU hG (h1_18 hG) (x := x_19) (by omega) (by omega) dX12_then_38 (fun x_21 e_22 le_22 ue_22 => ?_)
      have te_22 := congrArg Int32.toInt e_22
      refine lv_istore_n (lv' := [(3, .int x_21), (0, .ref (al.2 0 0)), (1, .int tt), (2, .int lg)]) hx hb dX12_then_39 rfl hl (by decide) rfl (fun ls hl => ?_)
      refine lv_aload_n hx hb dX12_then_40 rfl (lv_at hl 1 rfl) ?_
      refine g_0_7 C hU hG (h1_0 hG) fl_X12_22 dX12_then_41 ?_
      refine lv_iload_n hx hb dX12_then_44 rfl (lv_at hl 3 rfl) ?_
      refine a_5 C hU hG (h1_5 hG) (x := lg) (by omega) (by omega) dX12_then_45 (fun x_23 e_24 le_24 ue_24 => ?_)
      have te_24 := congrArg Int32.toInt e_24
      refine lv_aload_n hx hb dX12_then_46 rfl (lv_at hl 1 rfl) ?_
      refine g_0_8 C hU hG (h1_0 hG) fl_X12_25 dX12_then_47 ?_
      refine lv_iload_n hx hb dX12_then_50 rfl (lv_at hl 0 rfl) ?_
      refine a_6 C hU hG (h1_6 hG) (x := x_21) (by omega) (by omega) dX12_then_51 (fun x_25 e_26 le_26 ue_26 => ?_)
      have te_26 := congrArg Int32.toInt e_26
      refine b_icmp_ne (tgt := 77) hx hb dX12_then_52 (by decide) (fun c_27 => ?_) (fun c_27 => ?_)
      ·
        refine lv_aload_n hx hb dX12_then_77 rfl (lv_at hl 1 rfl) ?_
        refine lv_bipush (v := (-3)) hx hb dX12_then_78 (by decide) ?_
        refine q_fi (q_runV (t := 0) (i := 0) (As := [.int (-3)]) (rest := []) C hU (c_X12_refuse hG (-3) (by omega)) vm_X12_refuse ml_X12_164 k_0.1 (hc := rfl) rfl (h1_0 hG) hl.1 rfl rfl (Nat.le_of_ble_eq_true rfl) dX12_then_80 rfl rfl ⟨Nat.le_of_ble_eq_true rfl, Nat.le_of_ble_eq_true rfl⟩ ⟨Nat.le_refl _, Nat.le_refl _⟩) hS (fun x_33 iv_29 rv_30 H locs hG fa_31 fb_32 hp_28 hU hS => ?_)
        have hF1 := hF1.tr (m := ([16, 18, 19], [])) fa_31 (by decide)
        have hF2 := hF2.tr (m := ([16, 18, 19], [])) fb_32 (by decide)
        exact hret (⟨hG, hF1, hF2, trivial⟩) hU hS dX12_then_83
      ·
        refine lv_aload_n hx hb dX12_then_55 rfl (lv_at hl 1 rfl) ?_
        refine g_0_11 C hU hG (h1_0 hG) fl_X12_34 dX12_then_56 ?_
        refine lv_iload_n hx hb dX12_then_59 rfl (lv_at hl 3 rfl) ?_
        refine a_9 C hU hG (h1_9 hG) (x := lg) (by omega) (by omega) dX12_then_60 (fun x_34 e_35 le_35 ue_35 => ?_)
        have te_35 := congrArg Int32.toInt e_35
        refine lv_aload_n hx hb dX12_then_61 rfl (lv_at hl 1 rfl) ?_
        refine g_0_12 C hU hG (h1_0 hG) fl_X12_37 dX12_then_62 ?_
        refine lv_iload_n hx hb dX12_then_65 rfl (lv_at hl 0 rfl) ?_
        refine a_10 C hU hG (h1_10 hG) (x := x_21) (by omega) (by omega) dX12_then_66 (fun x_36 e_37 le_37 ue_37 => ?_)
        have te_37 := congrArg Int32.toInt e_37
        refine lv_aload_n hx hb dX12_then_67 rfl (lv_at hl 1 rfl) ?_
        refine g_0_17 C hU hG (h1_0 hG) fl_X12_53 dX12_then_68 ?_
        refine lv_iconst (v := 2) hx hb dX12_then_71 (by decide) ?_
        refine a_15 C hU hG (h1_15 hG) (x := 2) (by omega) (by omega) dX12_then_72 (fun x_38 e_39 le_39 ue_39 => ?_)
        have te_39 := congrArg Int32.toInt e_39
        refine lv_iadd hx hb dX12_then_73 ?_
        refine lv_topi (fun x_40 e_41 => ?_)
        have te_41 : x_40.toInt = (x_36 : Int32).toInt + (x_38 : Int32).toInt := by rw [e_41]; exact fb_addI (by omega) (by omega)
        refine b_icmp_ge (tgt := 84) hx hb dX12_then_74 (by decide) (fun c_42 => ?_) (fun c_42 => ?_)
        ·
          refine lv_aload_n hx hb dX12_then_84 rfl (lv_at hl 1 rfl) ?_
          refine g_0_22 C hU hG (h1_0 hG) fl_X12_65 dX12_then_85 ?_
          refine lv_iload_n hx hb dX12_then_88 rfl (lv_at hl 2 rfl) ?_
          refine a_19 C hU hG (h1_19 hG) (x := tt) (by omega) (by omega) dX12_then_89 (fun x_43 e_44 le_44 ue_44 => ?_)
          have te_44 := congrArg Int32.toInt e_44
          refine lv_iconst (v := 4) hx hb dX12_then_90 (by decide) ?_
          refine b_icmp_ne (tgt := 101) hx hb dX12_then_91 (by decide) (fun c_45 => ?_) (fun c_45 => ?_)
          ·
            refine lv_aload_n hx hb dX12_then_101 rfl (lv_at hl 1 rfl) ?_
            refine g_0_21 C hU hG (h1_0 hG) fl_X12_62 dX12_then_102 ?_
            refine lv_iconst (v := 4) hx hb dX12_then_105 (by decide) ?_
            refine lv_iload_n hx hb dX12_then_106 rfl (lv_at hl 2 rfl) ?_
            refine lv_imul hx hb dX12_then_107 ?_
            refine lv_topi (fun x_46 e_47 => ?_)
            have te_47 : x_46.toInt = 4 * (tt : Int32).toInt := by rw [e_47, fb_mulI (by rw [show (4 : Int32).toInt = 4 from by decide]; omega) (by rw [show (4 : Int32).toInt = 4 from by decide]; omega), show (4 : Int32).toInt = 4 from by decide]
            refine lv_aload_n hx hb dX12_then_108 rfl (lv_at hl 1 rfl) ?_
            refine g_0_22 C hU hG (h1_0 hG) fl_X12_65 dX12_then_109 ?_
            refine lv_iload_n hx hb dX12_then_112 rfl (lv_at hl 2 rfl) ?_
            refine a_19 C hU hG (h1_19 hG) (x := tt) (by omega) (by omega) dX12_then_113 (fun x_48 e_49 le_49 ue_49 => ?_)
            have te_49 := congrArg Int32.toInt e_49
            refine lv_iadd hx hb dX12_then_114 ?_
            refine lv_topi (fun x_50 e_51 => ?_)
            have te_51 : x_50.toInt = (x_46 : Int32).toInt + (x_48 : Int32).toInt := by rw [e_51]; exact fb_addI (by omega) (by omega)
            refine lv_iload_n hx hb dX12_then_115 rfl (lv_at hl 3 rfl) ?_
            refine s_18 C hU hS (h1_18 hG) (x := x_50) (by omega) (by omega) dX12_then_116 (fun iv_52 H locs ei_53 hU hS => ?_)
            have hG : GI al iv_52 rv := by rw [ei_53]; exact hG.puti (show _ ∧ _ from ⟨show (0 : Int) ≤ _ by omega, show _ ≤ (39 : Int) by omega⟩) (nsA (by decide) _)
            have hF1 : FR ([16, 18, 19], []) iv iv_52 := by rw [ei_53]; exact hF1.put (Or.inl (by decide))
            have kf_54 := congrArg Int32.toInt (show iv_52 19 0 tt.toNatClampNeg = iv 19 0 tt.toNatClampNeg by rw [ei_53]; exact up3_ne (fun z => absurd z.1 (by decide)))
            refine lv_aload_n hx hb dX12_then_117 rfl (lv_at hl 1 rfl) ?_
            refine g_0_22 C hU hG (h1_0 hG) fl_X12_65 dX12_then_118 ?_
            refine lv_iload_n hx hb dX12_then_121 rfl (lv_at hl 2 rfl) ?_
            refine lv_dup2_11 hx hb dX12_then_122 rfl rfl ?_
            refine a_19 C hU hG (h1_19 hG) (x := tt) (by omega) (by omega) dX12_then_123 (fun x_55 e_56 le_56 ue_56 => ?_)
            have te_56 := congrArg Int32.toInt e_56
            refine lv_iconst (v := 1) hx hb dX12_then_124 (by decide) ?_
            refine lv_iadd hx hb dX12_then_125 ?_
            refine lv_topi (fun x_57 e_58 => ?_)
            have te_58 : x_57.toInt = (x_55 : Int32).toInt + (1 : Int32).toInt := by rw [e_58]; exact fb_addI (by omega) (by omega)
            refine s_19 C hU hS (h1_19 hG) (x := tt) (by omega) (by omega) dX12_then_126 (fun iv_59 H locs ei_60 hU hS => ?_)
            have hG : GI al iv_59 rv := by rw [ei_60]; exact hG.put19 ⟨by omega, by omega⟩
            have hF1 : FR ([16, 18, 19], []) iv iv_59 := by rw [ei_60]; exact hF1.put (Or.inl (by decide))
            refine lv_aload_n hx hb dX12_then_127 rfl (lv_at hl 1 rfl) ?_
            refine g_0_22 C hU hG (h1_0 hG) fl_X12_65 dX12_then_128 ?_
            refine lv_iload_n hx hb dX12_then_131 rfl (lv_at hl 2 rfl) ?_
            refine a_19 C hU hG (h1_19 hG) (x := tt) (by omega) (by omega) dX12_then_132 (fun x_61 e_62 le_62 ue_62 => ?_)
            have te_62 := congrArg Int32.toInt e_62
            exact hret (⟨hG, hF1, hF2, trivial⟩) hU hS dX12_then_133
          ·
            refine lv_aload_n hx hb dX12_then_94 rfl (lv_at hl 1 rfl) ?_
            refine lv_bipush (v := (-6)) hx hb dX12_then_95 (by decide) ?_
            refine q_fi (q_runV (t := 0) (i := 0) (As := [.int (-6)]) (rest := []) C hU (c_X12_refuse hG (-6) (by omega)) vm_X12_refuse ml_X12_164 k_0.1 (hc := rfl) rfl (h1_0 hG) hl.1 rfl rfl (Nat.le_of_ble_eq_true rfl) dX12_then_97 rfl rfl ⟨Nat.le_of_ble_eq_true rfl, Nat.le_of_ble_eq_true rfl⟩ ⟨Nat.le_refl _, Nat.le_refl _⟩) hS (fun x_68 iv_64 rv_65 H locs hG fa_66 fb_67 hp_63 hU hS => ?_)
            have hF1 := hF1.tr (m := ([16, 18, 19], [])) fa_66 (by decide)
            have hF2 := hF2.tr (m := ([16, 18, 19], [])) fb_67 (by decide)
            exact hret (⟨hG, hF1, hF2, trivial⟩) hU hS dX12_then_100
        ·
          refine lv_aload_n hx hb dX12_then_77 rfl (lv_at hl 1 rfl) ?_
          refine lv_bipush (v := (-3)) hx hb dX12_then_78 (by decide) ?_
          refine q_fi (q_runV (t := 0) (i := 0) (As := [.int (-3)]) (rest := []) C hU (c_X12_refuse hG (-3) (by omega)) vm_X12_refuse ml_X12_164 k_0.1 (hc := rfl) rfl (h1_0 hG) hl.1 rfl rfl (Nat.le_of_ble_eq_true rfl) dX12_then_80 rfl rfl ⟨Nat.le_of_ble_eq_true rfl, Nat.le_of_ble_eq_true rfl⟩ ⟨Nat.le_refl _, Nat.le_refl _⟩) hS (fun x_74 iv_70 rv_71 H locs hG fa_72 fb_73 hp_69 hU hS => ?_)
          have hF1 := hF1.tr (m := ([16, 18, 19], [])) fa_72 (by decide)
          have hF2 := hF2.tr (m := ([16, 18, 19], [])) fb_73 (by decide)
          exact hret (⟨hG, hF1, hF2, trivial⟩) hU hS dX12_then_83
    ·
      refine lv_aload_n hx hb dX12_then_16 rfl (lv_at hl 0 rfl) ?_
      refine lv_iconst (v := (-1)) hx hb dX12_then_17 (by decide) ?_
      refine q_fi (q_runV (t := 0) (i := 0) (As := [.int (-1)]) (rest := []) C hU (c_X12_refuse hG (-1) (by omega)) vm_X12_refuse ml_X12_164 k_0.1 (hc := rfl) rfl (h1_0 hG) hl.1 rfl rfl (Nat.le_of_ble_eq_true rfl) dX12_then_18 rfl rfl ⟨Nat.le_of_ble_eq_true rfl, Nat.le_of_ble_eq_true rfl⟩ ⟨Nat.le_refl _, Nat.le_refl _⟩) hS (fun x_80 iv_76 rv_77 H locs hG fa_78 fb_79 hp_75 hU hS => ?_)
      have hF1 := hF1.tr (m := ([16, 18, 19], [])) fa_78 (by decide)
      have hF2 := hF2.tr (m := ([16, 18, 19], [])) fb_79 (by decide)
      exact hret (⟨hG, hF1, hF2, trivial⟩) hU hS dX12_then_21
set_option maxHeartbeats 4000000 in
set_option maxRecDepth 100000 in
theorem c_X12_claim {l : Launch} {D : va_G} {cA : FieldType → ClassId} {sz : Nat} {al : Al} {iv : Iv} {rv : Rv} (hG : GI al iv rv) (tt : Int32) : Met l yX12_claim (wd yX12_claim cX12_claim 3 (some .int)) (rm 2) (PcW D cA sz al iv rv [.ref (al.2 0 0), .int tt]) (QI D cA sz al (fI al ([16, 35, 36], [(0, 41)]) iv rv (fun r iv' rv' => True))) 0 0 (Aq sz) := by
  refine mk_i (by decide) (Nat.le_of_ble_eq_true rfl) rfl ?_
  intro p e s m args below meth c ls Q H locs C hU hS hl hret
  have hx := C.1.1
  have hb := C.1.2.1
  have hl : lv_has ls 3 [(0, .ref (al.2 0 0)), (1, .int tt)] := hl
  have hG0 := hG
  have h6 := le6 hG
  have h20 := le20 hG
  have h41 := le41 hG
  have hF1 : FR ([16, 35, 36], [(0, 41)]) iv iv := FR.rf
  have hF2 : FR ([16, 35, 36], [(0, 41)]) rv rv := FR.rf
  have km6 : ((-6) : Int32).toInt = -6 := by decide
  have km3 : ((-3) : Int32).toInt = -3 := by decide
  have km1 : ((-1) : Int32).toInt = -1 := by decide
  have k0 : (0 : Int32).toInt = 0 := by decide
  have k1 : (1 : Int32).toInt = 1 := by decide
  have k30 : (30 : Int32).toInt = 30 := by decide
  refine lv_aload_n hx hb dX12_claim_0 rfl (lv_at hl 0 rfl) ?_
  refine lv_iload_n hx hb dX12_claim_1 rfl (lv_at hl 1 rfl) ?_
  refine q_pi (q_runV (t := 0) (i := 0) (As := [.int tt]) (rest := []) C hU (c_X12_isTraveller hG tt ) vm_X12_isTraveller ml_X12_226 k_0.1 (hc := rfl) rfl (h1_0 hG) hl.1 rfl rfl (Nat.le_of_ble_eq_true rfl) dX12_claim_2 rfl rfl ⟨Nat.le_of_ble_eq_true rfl, Nat.le_of_ble_eq_true rfl⟩ ⟨Nat.le_refl _, Nat.le_refl _⟩) hS (fun x_2 H locs hp_1 hU hS => ?_)
  refine b_if_ne (tgt := 14) hx hb dX12_claim_5 (by decide) (fun c_3 => ?_) (fun c_3 => ?_)
  ·
    refine lv_iconst (v := 0) hx hb dX12_claim_14 (by decide) ?_
    refine lv_istore_n (lv' := [(2, .int 0), (0, .ref (al.2 0 0)), (1, .int tt)]) hx hb dX12_claim_15 rfl hl (by decide) rfl (fun ls hl => ?_)
    have J_16 : ∀ (n_16 : Nat) (l2_4 : Int32) (ls : Array Slot), lv_has ls 3 [(0, .ref (al.2 0 0)), (1, .int tt), (2, .int l2_4)] → (0 ≤ l2_4.toInt ∧ l2_4.toInt ≤ 30) → (30 - l2_4.toInt).toNat < n_16 → W p l e (rm 2) s m args below meth c H locs 0 0 Q (F0 m 16 ls []) := by
      intro n_16
      induction n_16 with
      | zero =>
        intro l2_4 ls hl i16_0 hm_16
        exact absurd hm_16 (Nat.not_lt_zero _)
      | succ n_16 ih_16 =>
        intro l2_4 ls hl i16_0 hm_16
        refine lv_iload_n hx hb dX12_claim_16 rfl (lv_at hl 2 rfl) ?_
        refine lv_aload_n hx hb dX12_claim_17 rfl (lv_at hl 0 rfl) ?_
        refine g_0_41 C hU hG (h1_0 hG) fl_X12_275 dX12_claim_18 (fun x_5 e_6 le_6 ue_6 => ?_)
        have te_6 := congrArg Int32.toInt e_6
        refine b_icmp_ge (tgt := 47) hx hb dX12_claim_21 (by decide) (fun c_7 => ?_) (fun c_7 => ?_)
        ·
          refine lv_aload_n hx hb dX12_claim_47 rfl (lv_at hl 0 rfl) ?_
          refine g_0_41 C hU hG (h1_0 hG) fl_X12_275 dX12_claim_48 (fun x_8 e_9 le_9 ue_9 => ?_)
          have te_9 := congrArg Int32.toInt e_9
          refine lv_bipush (v := 30) hx hb dX12_claim_51 (by decide) ?_
          refine b_icmp_ne (tgt := 63) hx hb dX12_claim_53 (by decide) (fun c_10 => ?_) (fun c_10 => ?_)
          ·
            refine lv_aload_n hx hb dX12_claim_63 rfl (lv_at hl 0 rfl) ?_
            refine g_0_42 C hU hG (h1_0 hG) fl_X12_113 dX12_claim_64 ?_
            refine lv_aload_n hx hb dX12_claim_67 rfl (lv_at hl 0 rfl) ?_
            refine g_0_41 C hU hG (h1_0 hG) fl_X12_275 dX12_claim_68 (fun x_11 e_12 le_12 ue_12 => ?_)
            have te_12 := congrArg Int32.toInt e_12
            refine lv_iload_n hx hb dX12_claim_71 rfl (lv_at hl 1 rfl) ?_
            refine s_35 C hU hS (h1_35 hG) (x := x_11) (by omega) (by omega) dX12_claim_72 (fun iv_13 H locs ei_14 hU hS => ?_)
            have hG : GI al iv_13 rv := by rw [ei_14]; exact hG.put35 ⟨by omega, by omega⟩ (by omega)
            have hF1 : FR ([16, 35, 36], [(0, 41)]) iv iv_13 := by rw [ei_14]; exact hF1.put (Or.inl (by decide))
            have kf_15 := congrArg Int32.toInt (show iv_13 0 0 20 = iv 0 0 20 by rw [ei_14]; exact up3_ne (fun z => absurd z.1 (by decide)))
            have kf_16 := congrArg Int32.toInt (show iv_13 0 0 41 = iv 0 0 41 by rw [ei_14]; exact up3_ne (fun z => absurd z.1 (by decide)))
            refine lv_aload_n hx hb dX12_claim_73 rfl (lv_at hl 0 rfl) ?_
            refine g_0_43 C hU hG (h1_0 hG) fl_X12_116 dX12_claim_74 ?_
            refine lv_aload_n hx hb dX12_claim_77 rfl (lv_at hl 0 rfl) ?_
            refine g_0_41 C hU hG (h1_0 hG) fl_X12_275 dX12_claim_78 (fun x_17 e_18 le_18 ue_18 => ?_)
            have te_18 := congrArg Int32.toInt e_18
            refine lv_aload_n hx hb dX12_claim_81 rfl (lv_at hl 0 rfl) ?_
            refine g_0_0 C hU hG (h1_0 hG) fl_X12_168 dX12_claim_82 (fun x_19 e_20 le_20 ue_20 => ?_)
            have te_20 := congrArg Int32.toInt e_20
            have ne_20 : x_19.toInt = (iv 0 0 0).toInt := by rw [e_20, hF1 0 0 0 (by decide)]
            refine s_36 C hU hS (h1_36 hG) (x := x_17) (by omega) (by omega) dX12_claim_85 (fun iv_21 H locs ei_22 hU hS => ?_)
            have hG : GI al iv_21 rv := by rw [ei_22]; exact hG.puti (show _ ∧ _ from ⟨show (0 : Int) ≤ _ by omega, show _ ≤ (4000 : Int) by omega⟩) (nsA (by decide) _)
            have hF1 : FR ([16, 35, 36], [(0, 41)]) iv iv_21 := by rw [ei_22]; exact hF1.put (Or.inl (by decide))
            have kf_23 := congrArg Int32.toInt (show iv_21 0 0 20 = iv_13 0 0 20 by rw [ei_22]; exact up3_ne (fun z => absurd z.1 (by decide)))
            have kf_24 := congrArg Int32.toInt (show iv_21 0 0 41 = iv_13 0 0 41 by rw [ei_22]; exact up3_ne (fun z => absurd z.1 (by decide)))
            refine lv_aload_n hx hb dX12_claim_86 rfl (lv_at hl 0 rfl) ?_
            refine lv_dup hx hb dX12_claim_87 rfl ?_
            refine g_0_41 C hU hG (h1_0 hG) fl_X12_275 dX12_claim_88 (fun x_25 e_26 le_26 ue_26 => ?_)
            have te_26 := congrArg Int32.toInt e_26
            have a1 : iv_21 35 0 x_25.toNatClampNeg = tt := by rw [ei_22, up3_ne (fun z => absurd z.1 (by decide)), ei_14, clamp_eq (show x_25.toInt = x_11.toInt by omega)]; exact up3_self _ _ _ _ _
            refine lv_iconst (v := 1) hx hb dX12_claim_91 (by decide) ?_
            refine lv_iadd hx hb dX12_claim_92 ?_
            refine lv_topi (fun x_27 e_28 => ?_)
            have te_28 : x_27.toInt = (x_25 : Int32).toInt + (1 : Int32).toInt := by rw [e_28]; exact fb_addI (by omega) (by omega)
            refine p_0_41 C hU hS (h1_0 hG) fl_X12_275 dX12_claim_93 (fun iv_29 H locs ei_30 hU hS => ?_)
            have hG : GI al iv_29 rv := by rw [ei_30]; exact hG.put41 (x := x_25) ⟨by omega, by omega⟩ (by omega) (by omega) (by rw [a1]; omega)
            have hF1 : FR ([16, 35, 36], [(0, 41)]) iv iv_29 := by rw [ei_30]; exact hF1.put (by decide)
            have kf_31 := congrArg Int32.toInt (show iv_29 0 0 20 = iv_21 0 0 20 by rw [ei_30]; exact up3_ne (fun z => absurd z.2.2 (by decide)))
            refine lv_aload_n hx hb dX12_claim_96 rfl (lv_at hl 0 rfl) ?_
            refine g_0_41 C hU hG (h1_0 hG) fl_X12_275 dX12_claim_97 (fun x_32 e_33 le_33 ue_33 => ?_)
            have te_33 := congrArg Int32.toInt e_33
            refine lv_iconst (v := 1) hx hb dX12_claim_100 (by decide) ?_
            refine lv_isub hx hb dX12_claim_101 ?_
            refine lv_topi (fun x_34 e_35 => ?_)
            have te_35 : x_34.toInt = (x_32 : Int32).toInt - (1 : Int32).toInt := by rw [e_35]; exact fb_subI (by omega) (by omega)
            exact hret (⟨hG, hF1, hF2, trivial⟩) hU hS dX12_claim_102
          ·
            refine lv_aload_n hx hb dX12_claim_56 rfl (lv_at hl 0 rfl) ?_
            refine lv_bipush (v := (-6)) hx hb dX12_claim_57 (by decide) ?_
            refine q_fi (q_runV (t := 0) (i := 0) (As := [.int (-6)]) (rest := []) C hU (c_X12_refuse hG (-6) (by omega)) vm_X12_refuse ml_X12_164 k_0.1 (hc := rfl) rfl (h1_0 hG) hl.1 rfl rfl (Nat.le_of_ble_eq_true rfl) dX12_claim_59 rfl rfl ⟨Nat.le_of_ble_eq_true rfl, Nat.le_of_ble_eq_true rfl⟩ ⟨Nat.le_refl _, Nat.le_refl _⟩) hS (fun x_41 iv_37 rv_38 H locs hG fa_39 fb_40 hp_36 hU hS => ?_)
            have hF1 := hF1.tr (m := ([16, 35, 36], [(0, 41)])) fa_39 (by decide)
            have hF2 := hF2.tr (m := ([16, 35, 36], [(0, 41)])) fb_40 (by decide)
            have kf_42 := congrArg Int32.toInt (hF1 0 0 20 (by decide))
            exact hret (⟨hG, hF1, hF2, trivial⟩) hU hS dX12_claim_62
        ·
          refine lv_aload_n hx hb dX12_claim_24 rfl (lv_at hl 0 rfl) ?_
          refine g_0_42 C hU hG (h1_0 hG) fl_X12_113 dX12_claim_25 ?_
          refine lv_iload_n hx hb dX12_claim_28 rfl (lv_at hl 2 rfl) ?_
          refine a_35 C hU hG (h1_35 hG) (x := l2_4) (by omega) (by omega) dX12_claim_29 (fun x_43 e_44 le_44 ue_44 => ?_)
          have te_44 := congrArg Int32.toInt e_44
          refine lv_iload_n hx hb dX12_claim_30 rfl (lv_at hl 1 rfl) ?_
          refine b_icmp_ne (tgt := 41) hx hb dX12_claim_31 (by decide) (fun c_45 => ?_) (fun c_45 => ?_)
          ·
            obtain ⟨x_46, e_47⟩ : ∃ y : Int32, y = l2_4 + 1 := ⟨_, rfl⟩
            have te_47 : x_46.toInt = (l2_4 : Int32).toInt + (1 : Int32).toInt := by rw [e_47]; exact fb_addI (by omega) (by omega)
            refine lv_iinc (v := x_46) (lv' := [(2, .int x_46), (0, .ref (al.2 0 0)), (1, .int tt)]) hx hb dX12_claim_41 hl (k := 2) rfl (by rw [e_47]; rfl) (by decide) rfl (fun ls hl => ?_)
            refine lv_goto (tgt := 16) hx hb dX12_claim_44 (by decide) ?_
            exact ih_16 x_46 _ (lv_sub hl [1, 2, 0] rfl) (by omega) (by omega)
          ·
            refine lv_aload_n hx hb dX12_claim_34 rfl (lv_at hl 0 rfl) ?_
            refine lv_bipush (v := (-3)) hx hb dX12_claim_35 (by decide) ?_
            refine q_fi (q_runV (t := 0) (i := 0) (As := [.int (-3)]) (rest := []) C hU (c_X12_refuse hG (-3) (by omega)) vm_X12_refuse ml_X12_164 k_0.1 (hc := rfl) rfl (h1_0 hG) hl.1 rfl rfl (Nat.le_of_ble_eq_true rfl) dX12_claim_37 rfl rfl ⟨Nat.le_of_ble_eq_true rfl, Nat.le_of_ble_eq_true rfl⟩ ⟨Nat.le_refl _, Nat.le_refl _⟩) hS (fun x_53 iv_49 rv_50 H locs hG fa_51 fb_52 hp_48 hU hS => ?_)
            have hF1 := hF1.tr (m := ([16, 35, 36], [(0, 41)])) fa_51 (by decide)
            have hF2 := hF2.tr (m := ([16, 35, 36], [(0, 41)])) fb_52 (by decide)
            have kf_54 := congrArg Int32.toInt (hF1 0 0 20 (by decide))
            exact hret (⟨hG, hF1, hF2, trivial⟩) hU hS dX12_claim_40
    exact J_16 _ 0 _ (lv_sub hl [1, 2, 0] rfl) (by omega) (Nat.lt_succ_self _)
  ·
    refine lv_aload_n hx hb dX12_claim_8 rfl (lv_at hl 0 rfl) ?_
    refine lv_iconst (v := (-1)) hx hb dX12_claim_9 (by decide) ?_
    refine q_fi (q_runV (t := 0) (i := 0) (As := [.int (-1)]) (rest := []) C hU (c_X12_refuse hG (-1) (by omega)) vm_X12_refuse ml_X12_164 k_0.1 (hc := rfl) rfl (h1_0 hG) hl.1 rfl rfl (Nat.le_of_ble_eq_true rfl) dX12_claim_10 rfl rfl ⟨Nat.le_of_ble_eq_true rfl, Nat.le_of_ble_eq_true rfl⟩ ⟨Nat.le_refl _, Nat.le_refl _⟩) hS (fun x_60 iv_56 rv_57 H locs hG fa_58 fb_59 hp_55 hU hS => ?_)
    have hF1 := hF1.tr (m := ([16, 35, 36], [(0, 41)])) fa_58 (by decide)
    have hF2 := hF2.tr (m := ([16, 35, 36], [(0, 41)])) fb_59 (by decide)
    have kf_61 := congrArg Int32.toInt (hF1 0 0 20 (by decide))
    exact hret (⟨hG, hF1, hF2, trivial⟩) hU hS dX12_claim_13
end
section
def mxF (x y : Int32) : Int32 := if x < y then y else x
def mnF (x y : Int32) : Int32 := if y < x then y else x
def abF (x : Int32) : Int32 := if 0 ≤ x then x else 0 - x
theorem mx_i (x y : Int32) : (mxF x y).toInt = max x.toInt y.toInt := by
  unfold mxF
  split
  · rename_i h; rw [fa_lt] at h; omega
  · rename_i h; rw [fa_lt] at h; omega
theorem mn_i (x y : Int32) : (mnF x y).toInt = min x.toInt y.toInt := by
  unfold mnF
  split
  · rename_i h; rw [fa_lt] at h; omega
  · rename_i h; rw [fa_lt] at h; omega
section QM
variable {p : Program} {l : Launch} {e : Env} {R : Room} {s : State} {m : MethodId} {args : Array Value} {below : List Frame} {meth : Method} {c : Code} {H : Heap} {locs : List Loc} {cells slots : Nat} {Q : State → Prop}
variable {cc : ByteArray} {pc nL : Nat} {ls : Array Slot} {rest : List Value} {own : String} {D : va_G} {cA : FieldType → ClassId}
theorem q_max (C : Cx p s m args c cc nL own D cA) (hl : ls.size = nL) {index : Nat} (hlink : Cond.methodLink own index yJ9_max_7cf53 ∈ BW) (hf : 1 ≤ R.frames) (hlo : (rest.map fun v => v.category).sum + 13 ≤ R.locals) (hc : cells ≤ R.cells) (hs : slots ≤ R.slots) {x y : Int32} (hdg : decode cc pc = .ok (.invokestatic index, 3))
    (kk : ∀ r : Int32, r = mxF x y → r.toInt = max x.toInt y.toInt → W p l e R s m args below meth c H locs cells slots Q (F0 m (pc + 3) ls (.int r :: rest))) : W p l e R s m args below meth c H locs cells slots Q (F0 m pc ls (.int y :: .int x :: rest)) :=
  va_mmax C.1.1 C.1.2.1 (C.1.2.2.1.trans hl.symm) C.1.2.2.2.1 (C.1.2.2.2.2 _ hlink) (C.1.2.2.2.2 _ sm_J9_max_7cf53.2.1) (C.1.2.2.2.2 _ sm_J9_max_7cf53.2.2.1) (C.1.2.2.2.2 _ sm_J9_max_7cf53.1) hf hlo hc hs hdg (kk _ rfl (mx_i x y))
theorem q_min (C : Cx p s m args c cc nL own D cA) (hl : ls.size = nL) {index : Nat} (hlink : Cond.methodLink own index yJ9_min_7cf53 ∈ BW) (hf : 1 ≤ R.frames) (hlo : (rest.map fun v => v.category).sum + 13 ≤ R.locals) (hc : cells ≤ R.cells) (hs : slots ≤ R.slots) {x y : Int32} (hdg : decode cc pc = .ok (.invokestatic index, 3))
    (kk : ∀ r : Int32, r = mnF x y → r.toInt = min x.toInt y.toInt → W p l e R s m args below meth c H locs cells slots Q (F0 m (pc + 3) ls (.int r :: rest))) : W p l e R s m args below meth c H locs cells slots Q (F0 m pc ls (.int y :: .int x :: rest)) :=
  va_mmin C.1.1 C.1.2.1 (C.1.2.2.1.trans hl.symm) C.1.2.2.2.1 (C.1.2.2.2.2 _ hlink) (C.1.2.2.2.2 _ sm_J9_min_7cf53.2.1) (C.1.2.2.2.2 _ sm_J9_min_7cf53.2.2.1) (C.1.2.2.2.2 _ sm_J9_min_7cf53.1) hf hlo hc hs hdg (kk _ rfl (mn_i x y))
theorem q_abs (C : Cx p s m args c cc nL own D cA) (hl : ls.size = nL) {index : Nat} (hlink : Cond.methodLink own index yJ9_abs_0f7a4 ∈ BW) (hf : 1 ≤ R.frames) (hlo : (rest.map fun v => v.category).sum + 13 ≤ R.locals) (hc : cells ≤ R.cells) (hs : slots ≤ R.slots) {x : Int32} (hdg : decode cc pc = .ok (.invokestatic index, 3))
    (kk : ∀ r : Int32, r = abF x → W p l e R s m args below meth c H locs cells slots Q (F0 m (pc + 3) ls (.int r :: rest))) : W p l e R s m args below meth c H locs cells slots Q (F0 m pc ls (.int x :: rest)) :=
  va_mabs C.1.1 C.1.2.1 (C.1.2.2.1.trans hl.symm) C.1.2.2.2.1 (C.1.2.2.2.2 _ hlink) (C.1.2.2.2.2 _ sm_J9_abs_0f7a4.2.1) (C.1.2.2.2.2 _ sm_J9_abs_0f7a4.2.2.1) (C.1.2.2.2.2 _ sm_J9_abs_0f7a4.1) hf hlo hc hs hdg (kk _ rfl)
end QM
theorem rfv_cat (al : Al) (t : Nat) (r : Option Nat) : (rfv al t r).category = 1 := by cases r <;> rfl
end
section
section XS
variable {al : Al} {iv : Iv} {rv : Rv} {x : Int32}
theorem pall (hG : GI al iv rv) (h0 : 0 ≤ x.toInt) (h1 : x.toInt < 10) : rv 53 0 x.toNatClampNeg = some x.toNatClampNeg := hG.2.2.2.2.2.2.1.1 _ (by rw [clamp_n]; omega)
theorem dall (hG : GI al iv rv) (h0 : 0 ≤ x.toInt) (h1 : x.toInt < 10) : rv 54 0 x.toNatClampNeg = some x.toNatClampNeg := hG.2.2.2.2.2.2.1.2.1 _ (by rw [clamp_n]; omega)
theorem tall (hG : GI al iv rv) (h0 : 0 ≤ x.toInt) (h1 : x.toInt < (iv 57 0 1).toInt) : rv 58 0 x.toNatClampNeg = some x.toNatClampNeg := by
  have s := hG.2.2.2.1
  exact s.1 _ (by have := ix_nat h0; have := s.2; omega)
theorem kall (hG : GI al iv rv) (h0 : 0 ≤ x.toInt) (h1 : x.toInt < (iv 63 0 1).toInt) : rv 64 0 x.toNatClampNeg = some x.toNatClampNeg := by
  have s := hG.2.2.2.2.1
  exact s.1 _ (by have := ix_nat h0; have := s.2; omega)
theorem call_ (hG : GI al iv rv) (h0 : 0 ≤ x.toInt) (h1 : x.toInt < (iv 84 0 1).toInt) : rv 85 0 x.toNatClampNeg = some x.toNatClampNeg := by
  have s := hG.2.2.2.2.2.1
  exact s.1 _ (by have := ix_nat h0; have := s.2; omega)
theorem tleg (hG : GI al iv rv) {i : Nat} (hi : i < al.1 65) (h0 : 0 ≤ x.toInt) (h1 : x.toInt < (iv 65 i 4).toInt) : ∃ j, rv 66 i x.toNatClampNeg = some j := (hG.2.2.2.2.2.2.2.1 i hi).2.2 _ (by rw [ix_nat h0]; exact h1)
theorem GI.put66 (h : GI al iv rv) {i k j : Nat} (hj : j < al.1 62) : GI al iv (up3 rv 66 i k (some j)) := by
  refine ⟨h.1, h.2.1.put rfl hj, h.2.2.1, ?_⟩
  obtain ⟨y1, y2, y3, y4, y5, y6, y7⟩ := h.2.2.2
  refine ⟨y1, y2, y3, y4, fun i' hi' => ⟨(y5 i' hi').1, (y5 i' hi').2.1, fun k' hk' => ?_⟩, y6, y7⟩
  rcases up3_cases (f := rv) (t := 66) (i := i) (k := k) (t' := 66) (i' := i') (k' := k') (x := some j) with ⟨-, -, -, e⟩ | e
  · exact ⟨j, e⟩
  · rw [e]; exact (y5 i' hi').2.2 k' hk'
theorem GI.put65 (h : GI al iv rv) {i j : Nat} {v : Int32} (hr : 0 ≤ v.toInt ∧ v.toInt ≤ 4) (hx : x.toInt = (iv 65 i 4).toInt) (hv : v.toInt = x.toInt + 1) (h0 : 0 ≤ x.toInt) (hn : rv 66 i x.toNatClampNeg = some j) : GI al (up3 iv 65 i 4 v) rv := by
  refine ⟨h.1.put hr, h.2.1, h.2.2.1, ?_⟩
  obtain ⟨y1, y2, y3, y4, y5, y6, y7⟩ := h.2.2.2
  refine ⟨y1, y2, y3, ⟨y4.1, y4.2.1, fun q hq => ?_⟩, fun i' hi' => ⟨(y5 i' hi').1, (y5 i' hi').2.1, fun k' hk' => ?_⟩, y6, y7⟩
  · rw [up3_ne (fun z => absurd z.1 (by decide))]; exact y4.2.2 q hq
  · rcases up3_cases (f := iv) (t := 65) (i := i) (k := 4) (t' := 65) (i' := i') (k' := 4) (x := v) with ⟨-, ei, -, e⟩ | e
    · subst ei
      rw [e] at hk'
      rcases Int.lt_or_le (k' : Int) (iv 65 i' 4).toInt with q | q
      · exact (y5 i' hi').2.2 k' q
      · have e2 : k' = x.toNatClampNeg := by rw [clamp_n]; omega
        rw [e2]; exact ⟨j, hn⟩
    · rw [e] at hk'; exact (y5 i' hi').2.2 k' hk'
theorem nn_put {e y : Int32} {rv1 : Rv} {j : Nat} (h : ∀ k : Nat, (k : Int) < e.toInt → ∃ j, rv 61 0 k = some j) (e1 : rv1 = up3 rv 61 0 e.toNatClampNeg (some j)) (h0 : 0 ≤ e.toInt) (hy : y.toInt = e.toInt + 1) : ∀ k : Nat, (k : Int) < y.toInt → ∃ j, rv1 61 0 k = some j := by
  intro k hk
  rw [e1]
  by_cases ek : k = e.toNatClampNeg
  · rw [ek]; exact ⟨j, up3_self _ _ _ _ _⟩
  · rw [up3_ne (fun z => ek z.2.2)]
    exact h k (by have := ix_nat h0; omega)
end XS
end
