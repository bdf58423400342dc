set_option maxHeartbeats 4000000 in
set_option maxRecDepth 100000 in
theorem c_X12_findLike {l : Launch} {D : va_G} {cA : FieldType → ClassId} {sz : Nat} {al : Al} {iv : Iv} {rv : Rv} (hG : GI al iv rv) (cl : Int32) (pre0 : 0 ≤ cl.toInt ∧ cl.toInt < (iv 0 0 41).toInt) : Met l yX12_findLike (wd yX12_findLike cX12_findLike 10 none) (rm 8) (PcW D cA sz al iv rv [.ref (al.2 0 0), .int cl]) (QV D cA sz al (fV al ([17, 20, 47, 48], [(0, 55), (0, 56), (0, 57)]) iv rv (fun iv' rv' => True))) 0 0 (Aq sz) := by
  refine mk_v (by decide) (Nat.le_of_ble_eq_true rfl) rfl ?_
  intro p e s m args below meth c ls Q H locs C hU hS hl hret
  have hx := C.1.1
  have hb := C.1.2.1
  have hl : lv_has ls 10 [(0, .ref (al.2 0 0)), (1, .int cl)] := hl
  have hG0 := hG
  have h6 := le6 hG
  have h20 := le20 hG
  have h41 := le41 hG
  have h41 := le41 hG
  have h20 := le20 hG
  have hco := co1 hG pre0.1 pre0.2
  have hF1 : FR ([17, 20, 47, 48], [(0, 55), (0, 56), (0, 57)]) iv iv := FR.rf
  have hF2 : FR ([17, 20, 47, 48], [(0, 55), (0, 56), (0, 57)]) rv rv := FR.rf
  have km1 : ((-1) : Int32).toInt = -1 := by decide
  have k0 : (0 : Int32).toInt = 0 := by decide
  have k1 : (1 : Int32).toInt = 1 := by decide
  have k3 : (3 : Int32).toInt = 3 := by decide
  have k10 : (10 : Int32).toInt = 10 := by decide
  have k50 : (50 : Int32).toInt = 50 := by decide
  refine lv_aload_n hx hb dX12_findLike_0 rfl (lv_at hl 0 rfl) ?_
  refine g_0_42 C hU hG (h1_0 hG) fl_X12_113 dX12_findLike_1 ?_
  refine lv_iload_n hx hb dX12_findLike_4 rfl (lv_at hl 1 rfl) ?_
  refine a_35 C hU hG (h1_35 hG) (x := cl) (by omega) (by omega) dX12_findLike_5 (fun x_1 e_2 le_2 ue_2 => ?_)
  have te_2 := congrArg Int32.toInt e_2
  refine lv_istore_n (lv' := [(2, .int x_1), (0, .ref (al.2 0 0)), (1, .int cl)]) hx hb dX12_findLike_6 rfl hl (by decide) rfl (fun ls hl => ?_)
  refine lv_aload_n hx hb dX12_findLike_7 rfl (lv_at hl 1 rfl) ?_
  refine lv_iload_n hx hb dX12_findLike_8 rfl (lv_at hl 0 rfl) ?_
  refine lv_aload_n hx hb dX12_findLike_9 rfl (lv_at hl 1 rfl) ?_
  refine g_0_43 C hU hG (h1_0 hG) fl_X12_116 dX12_findLike_10 ?_
  refine lv_iload_n hx hb dX12_findLike_13 rfl (lv_at hl 2 rfl) ?_
  refine a_36 C hU hG (h1_36 hG) (x := cl) (by omega) (by omega) dX12_findLike_14 (fun x_3 e_4 le_4 ue_4 => ?_)
  have te_4 := congrArg Int32.toInt e_4
  refine q_pi (q_runV (t := 0) (i := 0) (As := [.int x_1, .int x_3]) (rest := []) C hU (c_X12_lawOf hG x_1 x_3 (by omega)) vm_X12_lawOf ml_X12_260 k_0.1 (hc := rfl) rfl (h1_0 hG) hl.1 rfl rfl (Nat.le_of_ble_eq_true rfl) dX12_findLike_15 rfl rfl ⟨Nat.le_of_ble_eq_true rfl, Nat.le_of_ble_eq_true rfl⟩ ⟨Nat.le_refl _, Nat.le_refl _⟩) hS (fun x_6 H locs hp_5 hU hS => ?_)
  refine lv_istore_n (lv' := [(3, .int x_6), (2, .int x_1), (0, .ref (al.2 0 0)), (1, .int cl)]) hx hb dX12_findLike_18 rfl hl (by decide) rfl (fun ls hl => ?_)
  refine lv_aload_n hx hb dX12_findLike_19 rfl (lv_at hl 2 rfl) ?_
  refine lv_iload_n hx hb dX12_findLike_20 rfl (lv_at hl 1 rfl) ?_
  refine q_fi (q_runV (t := 0) (i := 0) (As := [.int x_1]) (rest := []) C hU (c_X12_blameOf hG x_1 (by omega)) vm_X12_blameOf ml_X12_241 k_0.1 (hc := rfl) rfl (h1_0 hG) hl.1 rfl rfl (Nat.le_of_ble_eq_true rfl) dX12_findLike_21 rfl rfl ⟨Nat.le_of_ble_eq_true rfl, Nat.le_of_ble_eq_true rfl⟩ ⟨Nat.le_refl _, Nat.le_refl _⟩) hS (fun x_12 iv_8 rv_9 H locs hG fa_10 fb_11 hp_7 hU hS => ?_)
  have hF1 := hF1.tr (m := ([17, 20, 47, 48], [(0, 55), (0, 56), (0, 57)])) fa_10 (by decide)
  have hF2 := hF2.tr (m := ([17, 20, 47, 48], [(0, 55), (0, 56), (0, 57)])) fb_11 (by decide)
  have kf_13 := congrArg Int32.toInt (hF1 0 0 20 (by decide))
  have kf_14 := congrArg Int32.toInt (hF1 0 0 41 (by decide))
  refine lv_istore (lv' := [(4, .int x_12), (3, .int x_6), (2, .int x_1), (0, .ref (al.2 0 0)), (1, .int cl)]) hx hb dX12_findLike_24 hl (by decide) rfl (fun ls hl => ?_)
  refine lv_aload_n hx hb dX12_findLike_26 rfl (lv_at hl 3 rfl) ?_
  refine lv_iload_n hx hb dX12_findLike_27 rfl (lv_at hl 2 rfl) ?_
  refine q_fi (q_runV (t := 0) (i := 0) (As := [.int x_1]) (rest := []) C hU (c_X12_hoursOf hG x_1 (by omega)) vm_X12_hoursOf ml_X12_238 k_0.1 (hc := rfl) rfl (h1_0 hG) hl.1 rfl rfl (Nat.le_of_ble_eq_true rfl) dX12_findLike_28 rfl rfl ⟨Nat.le_of_ble_eq_true rfl, Nat.le_of_ble_eq_true rfl⟩ ⟨Nat.le_refl _, Nat.le_refl _⟩) hS (fun x_20 iv_16 rv_17 H locs hG fa_18 fb_19 hp_15 hU hS => ?_)
  have hF1 := hF1.tr (m := ([17, 20, 47, 48], [(0, 55), (0, 56), (0, 57)])) fa_18 (by decide)
  have hF2 := hF2.tr (m := ([17, 20, 47, 48], [(0, 55), (0, 56), (0, 57)])) fb_19 (by decide)
  have kf_21 := congrArg Int32.toInt (hF1 0 0 20 (by decide))
  have kf_22 := congrArg Int32.toInt (hF1 0 0 41 (by decide))
  refine lv_istore (lv' := [(5, .int x_20), (4, .int x_12), (3, .int x_6), (2, .int x_1), (0, .ref (al.2 0 0)), (1, .int cl)]) hx hb dX12_findLike_31 hl (by decide) rfl (fun ls hl => ?_)
  refine lv_iconst (v := 0) hx hb dX12_findLike_33 (by decide) ?_
  refine lv_istore (lv' := [(6, .int 0), (5, .int x_20), (4, .int x_12), (3, .int x_6), (2, .int x_1), (0, .ref (al.2 0 0)), (1, .int cl)]) hx hb dX12_findLike_34 hl (by decide) rfl (fun ls hl => ?_)
  refine lv_iconst (v := 0) hx hb dX12_findLike_36 (by decide) ?_
  refine lv_istore (lv' := [(7, .int 0), (6, .int 0), (5, .int x_20), (4, .int x_12), (3, .int x_6), (2, .int x_1), (0, .ref (al.2 0 0)), (1, .int cl)]) hx hb dX12_findLike_37 hl (by decide) rfl (fun ls hl => ?_)
  have J_39 : ∀ (n_39 : Nat) (l6_23 : Int32) (l7_24 : Int32) (iv_25 : Iv) (rv_26 : Rv) (H : Heap) (locs : List Loc) (ls : Array Slot), lv_has ls 10 [(0, .ref (al.2 0 0)), (2, .int x_1), (3, .int x_6), (4, .int x_12), (5, .int x_20), (6, .int l6_23), (7, .int l7_24)] → GI al iv_25 rv_26 → FR ([17, 20, 47, 48], [(0, 55), (0, 56), (0, 57)]) iv iv_25 → FR ([17, 20, 47, 48], [(0, 55), (0, 56), (0, 57)]) rv rv_26 → UW D cA sz al iv_25 rv_26 H → va_S (Aq sz) s.heap H locs → (0 ≤ l6_23.toInt ∧ l6_23.toInt ≤ 40) → (0 ≤ l7_24.toInt ∧ l7_24.toInt ≤ 40) → l6_23.toInt ≤ l7_24.toInt → (40 - l7_24.toInt).toNat < n_39 → W p l e (rm 8) s m args below meth c H locs 0 0 Q (F0 m 39 ls []) := by
    intro n_39
    induction n_39 with
    | zero =>
      intro l6_23 l7_24 iv_25 rv_26 H locs ls hl hG hF1 hF2 hU hS i39_0 i39_1 i39_2 hm_39
      exact absurd hm_39 (Nat.not_lt_zero _)
    | succ n_39 ih_39 =>
      intro l6_23 l7_24 iv_25 rv_26 H locs ls hl hG hF1 hF2 hU hS i39_0 i39_1 i39_2 hm_39
      have kf_27 := congrArg Int32.toInt (hF1 0 0 20 (by decide))
      have kf_28 := congrArg Int32.toInt (hF1 0 0 41 (by decide))
      refine lv_iload hx hb dX12_findLike_39 (lv_at hl 6 rfl) ?_
      refine lv_aload_n hx hb dX12_findLike_41 rfl (lv_at hl 0 rfl) ?_
      refine g_0_48 C hU hG (h1_0 hG) fl_X12_300 dX12_findLike_42 (fun x_29 e_30 le_30 ue_30 => ?_)
      have te_30 := congrArg Int32.toInt e_30
      have ne_30 : x_29.toInt = (iv 0 0 48).toInt := by rw [e_30, hF1 0 0 48 (by decide)]
      refine b_icmp_ge (tgt := 197) hx hb dX12_findLike_45 (by decide) (fun c_31 => ?_) (fun c_31 => ?_)
      ·
        refine lv_aload_n hx hb dX12_findLike_197 rfl (lv_at hl 0 rfl) ?_
        refine lv_iload hx hb dX12_findLike_198 (lv_at hl 5 rfl) ?_
        refine lv_aload_n hx hb dX12_findLike_200 rfl (lv_at hl 0 rfl) ?_
        refine g_0_17 C hU hG (h1_0 hG) fl_X12_53 dX12_findLike_201 ?_
        refine lv_iconst (v := 3) hx hb dX12_findLike_204 (by decide) ?_
        refine a_15 C hU hG (h1_15 hG) (x := 3) (by omega) (by omega) dX12_findLike_205 (fun x_32 e_33 le_33 ue_33 => ?_)
        have te_33 := congrArg Int32.toInt e_33
        have ne_33 : x_32.toInt = (iv 15 0 (3 : Int32).toNatClampNeg).toInt := by rw [e_33, hF1.arr 15 0 (3 : Int32).toNatClampNeg (by decide)]
        refine q_pi (q_runS (As := [.int l6_23, .int x_32]) (rest := [.ref (al.2 0 0)]) C hU (c_X12_lesser  l6_23 x_32 ) sm_X12_lesser ml_X12_203 hl.1 rfl rfl (Nat.le_of_ble_eq_true rfl) dX12_findLike_206 rfl rfl ⟨Nat.le_of_ble_eq_true rfl, Nat.le_of_ble_eq_true rfl⟩ ⟨Nat.le_refl _, Nat.le_refl _⟩) hS (fun x_35 H locs hp_34 hU hS => ?_)
        have q_36 := hp_34.1
        have tq_36 := congrArg Int32.toInt q_36
        refine p_0_55 C hU hS (h1_0 hG) fl_X12_306 dX12_findLike_209 (fun iv_37 H locs ei_38 hU hS => ?_)
        have hG : GI al iv_37 rv_26 := by rw [ei_38]; exact hG.puti (show _ ∧ _ from ⟨show (0 : Int) ≤ _ by omega, show _ ≤ (40 : Int) by omega⟩) (nsF (by decide))
        have hF1 : FR ([17, 20, 47, 48], [(0, 55), (0, 56), (0, 57)]) iv iv_37 := by rw [ei_38]; exact hF1.put (by decide)
        have kf_39 := congrArg Int32.toInt (show iv_37 0 0 20 = iv_25 0 0 20 by rw [ei_38]; exact up3_ne (fun z => absurd z.2.2 (by decide)))
        have kf_40 := congrArg Int32.toInt (show iv_37 0 0 41 = iv_25 0 0 41 by rw [ei_38]; exact up3_ne (fun z => absurd z.2.2 (by decide)))
        have kf_41 := congrArg Int32.toInt (show iv_37 0 0 56 = iv_25 0 0 56 by rw [ei_38]; exact up3_ne (fun z => absurd z.2.2 (by decide)))
        have kf_42 := congrArg Int32.toInt (show iv_37 0 0 57 = iv_25 0 0 57 by rw [ei_38]; exact up3_ne (fun z => absurd z.2.2 (by decide)))
        refine lv_aload_n hx hb dX12_findLike_212 rfl (lv_at hl 0 rfl) ?_
        refine lv_iconst (v := 0) hx hb dX12_findLike_213 (by decide) ?_
        refine p_0_56 C hU hS (h1_0 hG) fl_X12_309 dX12_findLike_214 (fun iv_43 H locs ei_44 hU hS => ?_)
        have hG : GI al iv_43 rv_26 := by rw [ei_44]; exact hG.puti (show _ ∧ _ from ⟨(fb_rng _).1, Int.le_of_lt_add_one (fb_rng _).2⟩) (nsF (by decide))
        have hF1 : FR ([17, 20, 47, 48], [(0, 55), (0, 56), (0, 57)]) iv iv_43 := by rw [ei_44]; exact hF1.put (by decide)
        have kf_45 := congrArg Int32.toInt (show iv_43 0 0 20 = iv_37 0 0 20 by rw [ei_44]; exact up3_ne (fun z => absurd z.2.2 (by decide)))
        have kf_46 := congrArg Int32.toInt (show iv_43 0 0 41 = iv_37 0 0 41 by rw [ei_44]; exact up3_ne (fun z => absurd z.2.2 (by decide)))
        have kf_47 := congrArg Int32.toInt (show iv_43 0 0 55 = iv_37 0 0 55 by rw [ei_44]; exact up3_ne (fun z => absurd z.2.2 (by decide)))
        have kf_48 := congrArg Int32.toInt (show iv_43 0 0 57 = iv_37 0 0 57 by rw [ei_44]; exact up3_ne (fun z => absurd z.2.2 (by decide)))
        refine lv_aload_n hx hb dX12_findLike_217 rfl (lv_at hl 0 rfl) ?_
        refine lv_iconst (v := 0) hx hb dX12_findLike_218 (by decide) ?_
        refine p_0_57 C hU hS (h1_0 hG) fl_X12_312 dX12_findLike_219 (fun iv_49 H locs ei_50 hU hS => ?_)
        have hG : GI al iv_49 rv_26 := by rw [ei_50]; exact hG.puti (show _ ∧ _ from ⟨(fb_rng _).1, Int.le_of_lt_add_one (fb_rng _).2⟩) (nsF (by decide))
        have hF1 : FR ([17, 20, 47, 48], [(0, 55), (0, 56), (0, 57)]) iv iv_49 := by rw [ei_50]; exact hF1.put (by decide)
        have kf_51 := congrArg Int32.toInt (show iv_49 0 0 20 = iv_43 0 0 20 by rw [ei_50]; exact up3_ne (fun z => absurd z.2.2 (by decide)))
        have kf_52 := congrArg Int32.toInt (show iv_49 0 0 41 = iv_43 0 0 41 by rw [ei_50]; exact up3_ne (fun z => absurd z.2.2 (by decide)))
        have kf_53 := congrArg Int32.toInt (show iv_49 0 0 55 = iv_43 0 0 55 by rw [ei_50]; exact up3_ne (fun z => absurd z.2.2 (by decide)))
        have kf_54 := congrArg Int32.toInt (show iv_49 0 0 56 = iv_43 0 0 56 by rw [ei_50]; exact up3_ne (fun z => absurd z.2.2 (by decide)))
        refine lv_iconst (v := 0) hx hb dX12_findLike_222 (by decide) ?_
        refine lv_istore (lv' := [(7, .int 0), (0, .ref (al.2 0 0)), (2, .int x_1), (3, .int x_6), (4, .int x_12), (5, .int x_20), (6, .int l6_23)]) hx hb dX12_findLike_223 hl (by decide) rfl (fun ls hl => ?_)
        have J_225 : ∀ (n_225 : Nat) (l7_55 : Int32) (iv_56 : Iv) (rv_57 : Rv) (H : Heap) (locs : List Loc) (ls : Array Slot), lv_has ls 10 [(0, .ref (al.2 0 0)), (7, .int l7_55)] → GI al iv_56 rv_57 → FR ([17, 20, 47, 48], [(0, 55), (0, 56), (0, 57)]) iv iv_56 → FR ([17, 20, 47, 48], [(0, 55), (0, 56), (0, 57)]) rv rv_57 → UW D cA sz al iv_56 rv_57 H → va_S (Aq sz) s.heap H locs → (0 ≤ l7_55.toInt ∧ l7_55.toInt ≤ 40) → (40 - l7_55.toInt).toNat < n_225 → W p l e (rm 8) s m args below meth c H locs 0 0 Q (F0 m 225 ls []) := by
          intro n_225
          induction n_225 with
          | zero =>
            intro l7_55 iv_56 rv_57 H locs ls hl hG hF1 hF2 hU hS i225_0 hm_225
            exact absurd hm_225 (Nat.not_lt_zero _)
          | succ n_225 ih_225 =>
            intro l7_55 iv_56 rv_57 H locs ls hl hG hF1 hF2 hU hS i225_0 hm_225
            have kf_58 := congrArg Int32.toInt (hF1 0 0 20 (by decide))
            have kf_59 := congrArg Int32.toInt (hF1 0 0 41 (by decide))
            refine lv_iload hx hb dX12_findLike_225 (lv_at hl 1 rfl) ?_
            refine lv_aload_n hx hb dX12_findLike_227 rfl (lv_at hl 0 rfl) ?_
            refine g_0_55 C hU hG (h1_0 hG) fl_X12_306 dX12_findLike_228 (fun x_60 e_61 le_61 ue_61 => ?_)
            have te_61 := congrArg Int32.toInt e_61
            refine b_icmp_ge (tgt := 290) hx hb dX12_findLike_231 (by decide) (fun c_62 => ?_) (fun c_62 => ?_)
            ·
              exact hret (⟨hG, hF1, hF2, trivial⟩) hU hS dX12_findLike_290
            ·
              refine lv_aload_n hx hb dX12_findLike_234 rfl (lv_at hl 0 rfl) ?_
              refine lv_dup hx hb dX12_findLike_235 rfl ?_
              refine g_0_56 C hU hG (h1_0 hG) fl_X12_309 dX12_findLike_236 (fun x_63 e_64 => ?_)
              have te_64 := congrArg Int32.toInt e_64
              refine lv_aload_n hx hb dX12_findLike_239 rfl (lv_at hl 0 rfl) ?_
              refine g_0_53 C hU hG (h1_0 hG) fl_X12_143 dX12_findLike_240 ?_
              refine lv_aload_n hx hb dX12_findLike_243 rfl (lv_at hl 0 rfl) ?_
              refine g_0_58 C hU hG (h1_0 hG) fl_X12_149 dX12_findLike_244 ?_
              refine lv_iload hx hb dX12_findLike_247 (lv_at hl 1 rfl) ?_
              refine a_47 C hU hG (h1_47 hG) (x := l7_55) (by omega) (by omega) dX12_findLike_249 (fun x_65 e_66 le_66 ue_66 => ?_)
              have te_66 := congrArg Int32.toInt e_66
              refine a_45 C hU hG (h1_45 hG) (x := x_65) (by omega) (by omega) dX12_findLike_250 (fun x_67 e_68 le_68 ue_68 => ?_)
              have te_68 := congrArg Int32.toInt e_68
              have ne_68 : x_67.toInt = (iv 45 0 (x_65 : Int32).toNatClampNeg).toInt := by rw [e_68, hF1.arr 45 0 (x_65 : Int32).toNatClampNeg (by decide)]
              have J_259 : ∀ (v_69 : Int32) (ls : Array Slot), lv_has ls 10 [(0, .ref (al.2 0 0)), (7, .int l7_55)] → (0 ≤ v_69.toInt ∧ v_69.toInt ≤ 1) → W p l e (rm 8) s m args below meth c H locs 0 0 Q (F0 m 259 ls [.int v_69, .int x_63, .ref (al.2 0 0)]) := by
                intro v_69 ls hl i259_0
                refine lv_iadd hx hb dX12_findLike_259 ?_
                refine lv_topi (fun x_70 e_71 => ?_)
                refine p_0_56 C hU hS (h1_0 hG) fl_X12_309 dX12_findLike_260 (fun iv_72 H locs ei_73 hU hS => ?_)
                have hG : GI al iv_72 rv_57 := by rw [ei_73]; exact hG.puti (show _ ∧ _ from ⟨(fb_rng _).1, Int.le_of_lt_add_one (fb_rng _).2⟩) (nsF (by decide))
                have hF1 : FR ([17, 20, 47, 48], [(0, 55), (0, 56), (0, 57)]) iv iv_72 := by rw [ei_73]; exact hF1.put (by decide)
                have kf_74 := congrArg Int32.toInt (show iv_72 0 0 20 = iv_56 0 0 20 by rw [ei_73]; exact up3_ne (fun z => absurd z.2.2 (by decide)))
                have kf_75 := congrArg Int32.toInt (show iv_72 0 0 41 = iv_56 0 0 41 by rw [ei_73]; exact up3_ne (fun z => absurd z.2.2 (by decide)))
                have kf_76 := congrArg Int32.toInt (show iv_72 0 0 55 = iv_56 0 0 55 by rw [ei_73]; exact up3_ne (fun z => absurd z.2.2 (by decide)))
                have kf_77 := congrArg Int32.toInt (show iv_72 0 0 57 = iv_56 0 0 57 by rw [ei_73]; exact up3_ne (fun z => absurd z.2.2 (by decide)))
                refine lv_aload_n hx hb dX12_findLike_263 rfl (lv_at hl 0 rfl) ?_
                refine lv_dup hx hb dX12_findLike_264 rfl ?_
                refine g_0_57 C hU hG (h1_0 hG) fl_X12_312 dX12_findLike_265 (fun x_78 e_79 => ?_)
                have te_79 := congrArg Int32.toInt e_79
                refine lv_aload_n hx hb dX12_findLike_268 rfl (lv_at hl 0 rfl) ?_
                refine g_0_54 C hU hG (h1_0 hG) fl_X12_146 dX12_findLike_269 ?_
                refine lv_aload_n hx hb dX12_findLike_272 rfl (lv_at hl 0 rfl) ?_
                refine g_0_58 C hU hG (h1_0 hG) fl_X12_149 dX12_findLike_273 ?_
                refine lv_iload hx hb dX12_findLike_276 (lv_at hl 1 rfl) ?_
                refine a_47 C hU hG (h1_47 hG) (x := l7_55) (by omega) (by omega) dX12_findLike_278 (fun x_80 e_81 le_81 ue_81 => ?_)
                have te_81 := congrArg Int32.toInt e_81
                refine a_46 C hU hG (h1_46 hG) (x := x_80) (by omega) (by omega) dX12_findLike_279 (fun x_82 e_83 le_83 ue_83 => ?_)
                have te_83 := congrArg Int32.toInt e_83
                have ne_83 : x_82.toInt = (iv 46 0 (x_80 : Int32).toNatClampNeg).toInt := by rw [e_83, hF1.arr 46 0 (x_80 : Int32).toNatClampNeg (by decide)]
                refine lv_iadd hx hb dX12_findLike_280 ?_
                refine lv_topi (fun x_84 e_85 => ?_)
                refine p_0_57 C hU hS (h1_0 hG) fl_X12_312 dX12_findLike_281 (fun iv_86 H locs ei_87 hU hS => ?_)
                have hG : GI al iv_86 rv_57 := by rw [ei_87]; exact hG.puti (show _ ∧ _ from ⟨(fb_rng _).1, Int.le_of_lt_add_one (fb_rng _).2⟩) (nsF (by decide))
                have hF1 : FR ([17, 20, 47, 48], [(0, 55), (0, 56), (0, 57)]) iv iv_86 := by rw [ei_87]; exact hF1.put (by decide)
                have kf_88 := congrArg Int32.toInt (show iv_86 0 0 20 = iv_72 0 0 20 by rw [ei_87]; exact up3_ne (fun z => absurd z.2.2 (by decide)))
                have kf_89 := congrArg Int32.toInt (show iv_86 0 0 41 = iv_72 0 0 41 by rw [ei_87]; exact up3_ne (fun z => absurd z.2.2 (by decide)))
                have kf_90 := congrArg Int32.toInt (show iv_86 0 0 55 = iv_72 0 0 55 by rw [ei_87]; exact up3_ne (fun z => absurd z.2.2 (by decide)))
                have kf_91 := congrArg Int32.toInt (show iv_86 0 0 56 = iv_72 0 0 56 by rw [ei_87]; exact up3_ne (fun z => absurd z.2.2 (by decide)))
                obtain ⟨x_92, e_93⟩ : ∃ y : Int32, y = l7_55 + 1 := ⟨_, rfl⟩
                have te_93 : x_92.toInt = (l7_55 : Int32).toInt + (1 : Int32).toInt := by rw [e_93]; exact fb_addI (by omega) (by omega)
                refine lv_iinc (v := x_92) (lv' := [(7, .int x_92), (0, .ref (al.2 0 0))]) hx hb dX12_findLike_284 hl (k := 1) rfl (by rw [e_93]; rfl) (by decide) rfl (fun ls hl => ?_)
                refine lv_goto (tgt := 225) hx hb dX12_findLike_287 (by decide) ?_
                exact ih_225 x_92 _ _ _ _ _ (lv_sub hl [1, 0] rfl) hG hF1 hF2 hU hS (by omega) (by omega)
              refine b_if_eq (tgt := 258) hx hb dX12_findLike_251 (by decide) (fun c_94 => ?_) (fun c_94 => ?_)
              ·
                refine lv_iconst (v := 0) hx hb dX12_findLike_258 (by decide) ?_
                exact J_259 0 _ (lv_sub hl [0, 1] rfl) (by omega)
              ·
                refine lv_iconst (v := 1) hx hb dX12_findLike_254 (by decide) ?_
                refine lv_goto (tgt := 259) hx hb dX12_findLike_255 (by decide) ?_
                exact J_259 1 _ (lv_sub hl [0, 1] rfl) (by omega)
        exact J_225 _ 0 _ _ _ _ _ (lv_sub hl [1, 0] rfl) hG hF1 hF2 hU hS (by omega) (Nat.lt_succ_self _)
      ·
        refine lv_aload_n hx hb dX12_findLike_48 rfl (lv_at hl 0 rfl) ?_
        refine g_0_49 C hU hG (h1_0 hG) fl_X12_131 dX12_findLike_49 ?_
        refine lv_iload hx hb dX12_findLike_52 (lv_at hl 6 rfl) ?_
        refine a_41 C hU hG (h1_41 hG) (x := l7_24) (by omega) (by omega) dX12_findLike_54 (fun x_95 e_96 => ?_)
        have te_96 := congrArg Int32.toInt e_96
        have ne_96 : x_95.toInt = (iv 41 0 (l7_24 : Int32).toNatClampNeg).toInt := by rw [e_96, hF1.arr 41 0 (l7_24 : Int32).toNatClampNeg (by decide)]
        refine lv_iload_n hx hb dX12_findLike_55 rfl (lv_at hl 2 rfl) ?_
        have J_191 : ∀ (l6_97 : Int32) (iv_98 : Iv) (rv_99 : Rv) (H : Heap) (locs : List Loc) (ls : Array Slot), lv_has ls 10 [(0, .ref (al.2 0 0)), (2, .int x_1), (3, .int x_6), (4, .int x_12), (5, .int x_20), (7, .int l7_24), (6, .int l6_97)] → GI al iv_98 rv_99 → FR ([17, 20, 47, 48], [(0, 55), (0, 56), (0, 57)]) iv iv_98 → FR ([17, 20, 47, 48], [(0, 55), (0, 56), (0, 57)]) rv rv_99 → UW D cA sz al iv_98 rv_99 H → va_S (Aq sz) s.heap H locs → (0 ≤ l6_97.toInt ∧ l6_97.toInt ≤ 40) → l6_97.toInt ≤ l7_24.toInt + 1 → W p l e (rm 8) s m args below meth c H locs 0 0 Q (F0 m 191 ls []) := by
          intro l6_97 iv_98 rv_99 H locs ls hl hG hF1 hF2 hU hS i191_0 i191_1
          have kf_100 := congrArg Int32.toInt (hF1 0 0 20 (by decide))
          have kf_101 := congrArg Int32.toInt (hF1 0 0 41 (by decide))
          obtain ⟨x_102, e_103⟩ : ∃ y : Int32, y = l7_24 + 1 := ⟨_, rfl⟩
          have te_103 : x_102.toInt = (l7_24 : Int32).toInt + (1 : Int32).toInt := by rw [e_103]; exact fb_addI (by omega) (by omega)
          refine lv_iinc (v := x_102) (lv' := [(7, .int x_102), (0, .ref (al.2 0 0)), (2, .int x_1), (3, .int x_6), (4, .int x_12), (5, .int x_20), (6, .int l6_97)]) hx hb dX12_findLike_191 hl (k := 5) rfl (by rw [e_103]; rfl) (by decide) rfl (fun ls hl => ?_)
          refine lv_goto (tgt := 39) hx hb dX12_findLike_194 (by decide) ?_
          exact ih_39 l6_97 x_102 _ _ _ _ _ (lv_sub hl [1, 2, 3, 4, 5, 6, 0] rfl) hG hF1 hF2 hU hS (by omega) (by omega) (by omega) (by omega)
        refine b_icmp_ne (tgt := 191) hx hb dX12_findLike_56 (by decide) (fun c_104 => ?_) (fun c_104 => ?_)
        ·
          exact J_191 l6_23 _ _ _ _ _ (lv_sub hl [0, 1, 2, 3, 4, 6, 5] rfl) hG hF1 hF2 hU hS (by omega) (by omega)
        ·
          refine lv_aload_n hx hb dX12_findLike_59 rfl (lv_at hl 0 rfl) ?_
          refine g_0_50 C hU hG (h1_0 hG) fl_X12_134 dX12_findLike_60 ?_
          refine lv_iload hx hb dX12_findLike_63 (lv_at hl 6 rfl) ?_
          refine a_42 C hU hG (h1_42 hG) (x := l7_24) (by omega) (by omega) dX12_findLike_65 (fun x_105 e_106 => ?_)
          have te_106 := congrArg Int32.toInt e_106
          have ne_106 : x_105.toInt = (iv 42 0 (l7_24 : Int32).toNatClampNeg).toInt := by rw [e_106, hF1.arr 42 0 (l7_24 : Int32).toNatClampNeg (by decide)]
          refine lv_iload hx hb dX12_findLike_66 (lv_at hl 3 rfl) ?_
          refine b_icmp_ne (tgt := 191) hx hb dX12_findLike_68 (by decide) (fun c_107 => ?_) (fun c_107 => ?_)
          ·
            exact J_191 l6_23 _ _ _ _ _ (lv_sub hl [0, 1, 2, 3, 4, 6, 5] rfl) hG hF1 hF2 hU hS (by omega) (by omega)
          ·
            refine lv_iload hx hb dX12_findLike_71 (lv_at hl 4 rfl) ?_
            refine lv_aload_n hx hb dX12_findLike_73 rfl (lv_at hl 0 rfl) ?_
            refine g_0_51 C hU hG (h1_0 hG) fl_X12_137 dX12_findLike_74 ?_
            refine lv_iload hx hb dX12_findLike_77 (lv_at hl 6 rfl) ?_
            refine a_43 C hU hG (h1_43 hG) (x := l7_24) (by omega) (by omega) dX12_findLike_79 (fun x_108 e_109 le_109 ue_109 => ?_)
            have te_109 := congrArg Int32.toInt e_109
            have ne_109 : x_108.toInt = (iv 43 0 (l7_24 : Int32).toNatClampNeg).toInt := by rw [e_109, hF1.arr 43 0 (l7_24 : Int32).toNatClampNeg (by decide)]
            refine lv_isub hx hb dX12_findLike_80 ?_
            refine lv_topi (fun x_110 e_111 => ?_)
            refine q_pi (q_runS (As := [.int x_110]) (rest := []) C hU (c_X12_amount  x_110 ) sm_X12_amount ml_X12_303 hl.1 rfl rfl (Nat.le_of_ble_eq_true rfl) dX12_findLike_81 rfl rfl ⟨Nat.le_of_ble_eq_true rfl, Nat.le_of_ble_eq_true rfl⟩ ⟨Nat.le_refl _, Nat.le_refl _⟩) hS (fun x_113 H locs hp_112 hU hS => ?_)
            refine lv_bipush (v := 10) hx hb dX12_findLike_84 (by decide) ?_
            refine lv_idiv hx hb dX12_findLike_86 (by decide) ?_
            refine lv_topi (fun x_114 e_115 => ?_)
            refine lv_aload_n hx hb dX12_findLike_87 rfl (lv_at hl 0 rfl) ?_
            refine lv_iload_n hx hb dX12_findLike_88 rfl (lv_at hl 1 rfl) ?_
            refine q_pi (q_runV (t := 0) (i := 0) (As := [.int x_1]) (rest := [.int x_114]) C hU (c_X12_milesOf hG x_1 (by omega)) vm_X12_milesOf ml_X12_266 k_0.1 (hc := rfl) rfl (h1_0 hG) hl.1 rfl rfl (Nat.le_of_ble_eq_true rfl) dX12_findLike_89 rfl rfl ⟨Nat.le_of_ble_eq_true rfl, Nat.le_of_ble_eq_true rfl⟩ ⟨Nat.le_refl _, Nat.le_refl _⟩) hS (fun x_117 H locs hp_116 hU hS => ?_)
            refine lv_aload_n hx hb dX12_findLike_92 rfl (lv_at hl 0 rfl) ?_
            refine g_0_52 C hU hG (h1_0 hG) fl_X12_140 dX12_findLike_93 ?_
            refine lv_iload hx hb dX12_findLike_96 (lv_at hl 6 rfl) ?_
            refine a_44 C hU hG (h1_44 hG) (x := l7_24) (by omega) (by omega) dX12_findLike_98 (fun x_118 e_119 le_119 ue_119 => ?_)
            have te_119 := congrArg Int32.toInt e_119
            have ne_119 : x_118.toInt = (iv 44 0 (l7_24 : Int32).toNatClampNeg).toInt := by rw [e_119, hF1.arr 44 0 (l7_24 : Int32).toNatClampNeg (by decide)]
            refine lv_isub hx hb dX12_findLike_99 ?_
            refine lv_topi (fun x_120 e_121 => ?_)
            refine q_pi (q_runS (As := [.int x_120]) (rest := [.int x_114]) C hU (c_X12_amount  x_120 ) sm_X12_amount ml_X12_303 hl.1 rfl rfl (Nat.le_of_ble_eq_true rfl) dX12_findLike_100 rfl rfl ⟨Nat.le_of_ble_eq_true rfl, Nat.le_of_ble_eq_true rfl⟩ ⟨Nat.le_refl _, Nat.le_refl _⟩) hS (fun x_123 H locs hp_122 hU hS => ?_)
            refine lv_bipush (v := 50) hx hb dX12_findLike_103 (by decide) ?_
            refine lv_idiv hx hb dX12_findLike_105 (by decide) ?_
            refine lv_topi (fun x_124 e_125 => ?_)
            refine lv_iadd hx hb dX12_findLike_106 ?_
            refine lv_topi (fun x_126 e_127 => ?_)
            refine lv_istore (lv' := [(8, .int x_126), (0, .ref (al.2 0 0)), (2, .int x_1), (3, .int x_6), (4, .int x_12), (5, .int x_20), (6, .int l6_23), (7, .int l7_24)]) hx hb dX12_findLike_107 hl (by decide) rfl (fun ls hl => ?_)
            refine lv_iload hx hb dX12_findLike_109 (lv_at hl 6 rfl) ?_
            refine lv_istore (lv' := [(9, .int l6_23), (8, .int x_126), (0, .ref (al.2 0 0)), (2, .int x_1), (3, .int x_6), (4, .int x_12), (5, .int x_20), (6, .int l6_23), (7, .int l7_24)]) hx hb dX12_findLike_111 hl (by decide) rfl (fun ls hl => ?_)
            have J_113 : ∀ (n_113 : Nat) (l9_128 : Int32) (iv_129 : Iv) (rv_130 : Rv) (H : Heap) (locs : List Loc) (ls : Array Slot), lv_has ls 10 [(0, .ref (al.2 0 0)), (2, .int x_1), (3, .int x_6), (4, .int x_12), (5, .int x_20), (6, .int l6_23), (7, .int l7_24), (8, .int x_126), (9, .int l9_128)] → GI al iv_129 rv_130 → FR ([17, 20, 47, 48], [(0, 55), (0, 56), (0, 57)]) iv iv_129 → FR ([17, 20, 47, 48], [(0, 55), (0, 56), (0, 57)]) rv rv_130 → UW D cA sz al iv_129 rv_130 H → va_S (Aq sz) s.heap H locs → (0 ≤ l9_128.toInt ∧ l9_128.toInt ≤ 40) → l9_128.toInt ≤ l6_23.toInt → l9_128.toInt.toNat < n_113 → W p l e (rm 8) s m args below meth c H locs 0 0 Q (F0 m 113 ls []) := by
              intro n_113
              induction n_113 with
              | zero =>
                intro l9_128 iv_129 rv_130 H locs ls hl hG hF1 hF2 hU hS i113_0 i113_1 hm_113
                exact absurd hm_113 (Nat.not_lt_zero _)
              | succ n_113 ih_113 =>
                intro l9_128 iv_129 rv_130 H locs ls hl hG hF1 hF2 hU hS i113_0 i113_1 hm_113
                have kf_131 := congrArg Int32.toInt (hF1 0 0 20 (by decide))
                have kf_132 := congrArg Int32.toInt (hF1 0 0 41 (by decide))
                refine lv_iload hx hb dX12_findLike_113 (lv_at hl 8 rfl) ?_
                have J_170 : ∀ (ls : Array Slot), lv_has ls 10 [(0, .ref (al.2 0 0)), (2, .int x_1), (3, .int x_6), (4, .int x_12), (5, .int x_20), (6, .int l6_23), (7, .int l7_24), (8, .int x_126), (9, .int l9_128)] → W p l e (rm 8) s m args below meth c H locs 0 0 Q (F0 m 170 ls []) := by
                  intro ls hl
                  refine lv_aload_n hx hb dX12_findLike_170 rfl (lv_at hl 0 rfl) ?_
                  refine g_0_59 C hU hG (h1_0 hG) fl_X12_152 dX12_findLike_171 ?_
                  refine lv_iload hx hb dX12_findLike_174 (lv_at hl 8 rfl) ?_
                  refine lv_iload hx hb dX12_findLike_176 (lv_at hl 7 rfl) ?_
                  refine s_48 C hU hS (h1_48 hG) (x := l9_128) (by omega) (by omega) dX12_findLike_178 (fun iv_133 H locs ei_134 hU hS => ?_)
                  have hG : GI al iv_133 rv_130 := by rw [ei_134]; exact hG.puti (show _ ∧ _ from ⟨(fb_rng _).1, Int.le_of_lt_add_one (fb_rng _).2⟩) (nsA (by decide) _)
                  have hF1 : FR ([17, 20, 47, 48], [(0, 55), (0, 56), (0, 57)]) iv iv_133 := by rw [ei_134]; exact hF1.put (Or.inl (by decide))
                  have kf_135 := congrArg Int32.toInt (show iv_133 0 0 20 = iv_129 0 0 20 by rw [ei_134]; exact up3_ne (fun z => absurd z.1 (by decide)))
                  have kf_136 := congrArg Int32.toInt (show iv_133 0 0 41 = iv_129 0 0 41 by rw [ei_134]; exact up3_ne (fun z => absurd z.1 (by decide)))
                  have kf_137 := congrArg Int32.toInt (show iv_133 0 0 55 = iv_129 0 0 55 by rw [ei_134]; exact up3_ne (fun z => absurd z.1 (by decide)))
                  have kf_138 := congrArg Int32.toInt (show iv_133 0 0 56 = iv_129 0 0 56 by rw [ei_134]; exact up3_ne (fun z => absurd z.1 (by decide)))
                  have kf_139 := congrArg Int32.toInt (show iv_133 0 0 57 = iv_129 0 0 57 by rw [ei_134]; exact up3_ne (fun z => absurd z.1 (by decide)))
                  refine lv_aload_n hx hb dX12_findLike_179 rfl (lv_at hl 0 rfl) ?_
                  refine g_0_58 C hU hG (h1_0 hG) fl_X12_149 dX12_findLike_180 ?_
                  refine lv_iload hx hb dX12_findLike_183 (lv_at hl 8 rfl) ?_
                  refine lv_iload hx hb dX12_findLike_185 (lv_at hl 6 rfl) ?_
                  refine s_47 C hU hS (h1_47 hG) (x := l9_128) (by omega) (by omega) dX12_findLike_187 (fun iv_140 H locs ei_141 hU hS => ?_)
                  have hG : GI al iv_140 rv_130 := by rw [ei_141]; exact hG.puti (show _ ∧ _ from ⟨show (0 : Int) ≤ _ by omega, show _ ≤ (39 : Int) by omega⟩) (nsA (by decide) _)
                  have hF1 : FR ([17, 20, 47, 48], [(0, 55), (0, 56), (0, 57)]) iv iv_140 := by rw [ei_141]; exact hF1.put (Or.inl (by decide))
                  have kf_142 := congrArg Int32.toInt (show iv_140 0 0 20 = iv_133 0 0 20 by rw [ei_141]; exact up3_ne (fun z => absurd z.1 (by decide)))
                  have kf_143 := congrArg Int32.toInt (show iv_140 0 0 41 = iv_133 0 0 41 by rw [ei_141]; exact up3_ne (fun z => absurd z.1 (by decide)))
                  have kf_144 := congrArg Int32.toInt (show iv_140 0 0 55 = iv_133 0 0 55 by rw [ei_141]; exact up3_ne (fun z => absurd z.1 (by decide)))
                  have kf_145 := congrArg Int32.toInt (show iv_140 0 0 56 = iv_133 0 0 56 by rw [ei_141]; exact up3_ne (fun z => absurd z.1 (by decide)))
                  have kf_146 := congrArg Int32.toInt (show iv_140 0 0 57 = iv_133 0 0 57 by rw [ei_141]; exact up3_ne (fun z => absurd z.1 (by decide)))
                  obtain ⟨x_147, e_148⟩ : ∃ y : Int32, y = l6_23 + 1 := ⟨_, rfl⟩
                  have te_148 : x_147.toInt = (l6_23 : Int32).toInt + (1 : Int32).toInt := by rw [e_148]; exact fb_addI (by omega) (by omega)
                  refine lv_iinc (v := x_147) (lv' := [(6, .int x_147), (0, .ref (al.2 0 0)), (2, .int x_1), (3, .int x_6), (4, .int x_12), (5, .int x_20), (7, .int l7_24), (8, .int x_126), (9, .int l9_128)]) hx hb dX12_findLike_188 hl (k := 5) rfl (by rw [e_148]; rfl) (by decide) rfl (fun ls hl => ?_)
                  exact J_191 x_147 _ _ _ _ _ (lv_sub hl [1, 2, 3, 4, 5, 6, 0] rfl) hG hF1 hF2 hU hS (by omega) (by omega)
                refine b_if_le (tgt := 170) hx hb dX12_findLike_115 (by decide) (fun c_149 => ?_) (fun c_149 => ?_)
                ·
                  exact J_170 _ (lv_sub hl [0, 1, 2, 3, 4, 5, 6, 7, 8] rfl)
                ·
                  refine lv_aload_n hx hb dX12_findLike_118 rfl (lv_at hl 0 rfl) ?_
                  refine g_0_59 C hU hG (h1_0 hG) fl_X12_152 dX12_findLike_119 ?_
                  refine lv_iload hx hb dX12_findLike_122 (lv_at hl 8 rfl) ?_
                  refine lv_iconst (v := 1) hx hb dX12_findLike_124 (by decide) ?_
                  refine lv_isub hx hb dX12_findLike_125 ?_
                  refine lv_topi (fun x_150 e_151 => ?_)
                  have te_151 : x_150.toInt = (l9_128 : Int32).toInt - (1 : Int32).toInt := by rw [e_151]; exact fb_subI (by omega) (by omega)
                  refine a_48 C hU hG (h1_48 hG) (x := x_150) (by omega) (by omega) dX12_findLike_126 (fun x_152 e_153 => ?_)
                  have te_153 := congrArg Int32.toInt e_153
                  refine lv_iload hx hb dX12_findLike_127 (lv_at hl 7 rfl) ?_
                  refine b_icmp_le (tgt := 170) hx hb dX12_findLike_129 (by decide) (fun c_154 => ?_) (fun c_154 => ?_)
                  ·
                    exact J_170 _ (lv_sub hl [0, 1, 2, 3, 4, 5, 6, 7, 8] rfl)
                  ·
                    refine lv_aload_n hx hb dX12_findLike_132 rfl (lv_at hl 0 rfl) ?_
                    refine g_0_59 C hU hG (h1_0 hG) fl_X12_152 dX12_findLike_133 ?_
                    refine lv_iload hx hb dX12_findLike_136 (lv_at hl 8 rfl) ?_
                    refine lv_aload_n hx hb dX12_findLike_138 rfl (lv_at hl 0 rfl) ?_
                    refine g_0_59 C hU hG (h1_0 hG) fl_X12_152 dX12_findLike_139 ?_
                    refine lv_iload hx hb dX12_findLike_142 (lv_at hl 8 rfl) ?_
                    refine lv_iconst (v := 1) hx hb dX12_findLike_144 (by decide) ?_
                    refine lv_isub hx hb dX12_findLike_145 ?_
                    refine lv_topi (fun x_155 e_156 => ?_)
                    have te_156 : x_155.toInt = (l9_128 : Int32).toInt - (1 : Int32).toInt := by rw [e_156]; exact fb_subI (by omega) (by omega)
                    refine a_48 C hU hG (h1_48 hG) (x := x_155) (by omega) (by omega) dX12_findLike_146 (fun x_157 e_158 => ?_)
                    have te_158 := congrArg Int32.toInt e_158
                    refine s_48 C hU hS (h1_48 hG) (x := l9_128) (by omega) (by omega) dX12_findLike_147 (fun iv_159 H locs ei_160 hU hS => ?_)
                    have hG : GI al iv_159 rv_130 := by rw [ei_160]; exact hG.puti (show _ ∧ _ from ⟨(fb_rng _).1, Int.le_of_lt_add_one (fb_rng _).2⟩) (nsA (by decide) _)
                    have hF1 : FR ([17, 20, 47, 48], [(0, 55), (0, 56), (0, 57)]) iv iv_159 := by rw [ei_160]; exact hF1.put (Or.inl (by decide))
                    have kf_161 := congrArg Int32.toInt (show iv_159 0 0 20 = iv_129 0 0 20 by rw [ei_160]; exact up3_ne (fun z => absurd z.1 (by decide)))
                    have kf_162 := congrArg Int32.toInt (show iv_159 0 0 41 = iv_129 0 0 41 by rw [ei_160]; exact up3_ne (fun z => absurd z.1 (by decide)))
                    have kf_163 := congrArg Int32.toInt (show iv_159 0 0 55 = iv_129 0 0 55 by rw [ei_160]; exact up3_ne (fun z => absurd z.1 (by decide)))
                    have kf_164 := congrArg Int32.toInt (show iv_159 0 0 56 = iv_129 0 0 56 by rw [ei_160]; exact up3_ne (fun z => absurd z.1 (by decide)))
                    have kf_165 := congrArg Int32.toInt (show iv_159 0 0 57 = iv_129 0 0 57 by rw [ei_160]; exact up3_ne (fun z => absurd z.1 (by decide)))
                    refine lv_aload_n hx hb dX12_findLike_148 rfl (lv_at hl 0 rfl) ?_
                    refine g_0_58 C hU hG (h1_0 hG) fl_X12_149 dX12_findLike_149 ?_
                    refine lv_iload hx hb dX12_findLike_152 (lv_at hl 8 rfl) ?_
                    refine lv_aload_n hx hb dX12_findLike_154 rfl (lv_at hl 0 rfl) ?_
                    refine g_0_58 C hU hG (h1_0 hG) fl_X12_149 dX12_findLike_155 ?_
                    refine lv_iload hx hb dX12_findLike_158 (lv_at hl 8 rfl) ?_
                    refine lv_iconst (v := 1) hx hb dX12_findLike_160 (by decide) ?_
                    refine lv_isub hx hb dX12_findLike_161 ?_
                    refine lv_topi (fun x_166 e_167 => ?_)
                    have te_167 : x_166.toInt = (l9_128 : Int32).toInt - (1 : Int32).toInt := by rw [e_167]; exact fb_subI (by omega) (by omega)
                    refine a_47 C hU hG (h1_47 hG) (x := x_166) (by omega) (by omega) dX12_findLike_162 (fun x_168 e_169 le_169 ue_169 => ?_)
                    have te_169 := congrArg Int32.toInt e_169
                    refine s_47 C hU hS (h1_47 hG) (x := l9_128) (by omega) (by omega) dX12_findLike_163 (fun iv_170 H locs ei_171 hU hS => ?_)
                    have hG : GI al iv_170 rv_130 := by rw [ei_171]; exact hG.puti (show _ ∧ _ from ⟨show (0 : Int) ≤ _ by omega, show _ ≤ (39 : Int) by omega⟩) (nsA (by decide) _)
                    have hF1 : FR ([17, 20, 47, 48], [(0, 55), (0, 56), (0, 57)]) iv iv_170 := by rw [ei_171]; exact hF1.put (Or.inl (by decide))
                    have kf_172 := congrArg Int32.toInt (show iv_170 0 0 20 = iv_159 0 0 20 by rw [ei_171]; exact up3_ne (fun z => absurd z.1 (by decide)))
                    have kf_173 := congrArg Int32.toInt (show iv_170 0 0 41 = iv_159 0 0 41 by rw [ei_171]; exact up3_ne (fun z => absurd z.1 (by decide)))
                    have kf_174 := congrArg Int32.toInt (show iv_170 0 0 55 = iv_159 0 0 55 by rw [ei_171]; exact up3_ne (fun z => absurd z.1 (by decide)))
                    have kf_175 := congrArg Int32.toInt (show iv_170 0 0 56 = iv_159 0 0 56 by rw [ei_171]; exact up3_ne (fun z => absurd z.1 (by decide)))
                    have kf_176 := congrArg Int32.toInt (show iv_170 0 0 57 = iv_159 0 0 57 by rw [ei_171]; exact up3_ne (fun z => absurd z.1 (by decide)))
                    obtain ⟨x_177, e_178⟩ : ∃ y : Int32, y = l9_128 + (-1) := ⟨_, rfl⟩
                    have te_178 : x_177.toInt = (l9_128 : Int32).toInt + ((-1) : Int32).toInt := by rw [e_178]; exact fb_addI (by omega) (by omega)
                    refine lv_iinc (v := x_177) (lv' := [(9, .int x_177), (0, .ref (al.2 0 0)), (2, .int x_1), (3, .int x_6), (4, .int x_12), (5, .int x_20), (6, .int l6_23), (7, .int l7_24), (8, .int x_126)]) hx hb dX12_findLike_164 hl (k := 8) rfl (by rw [e_178]; rfl) (by decide) rfl (fun ls hl => ?_)
                    refine lv_goto (tgt := 113) hx hb dX12_findLike_167 (by decide) ?_
                    exact ih_113 x_177 _ _ _ _ _ (lv_sub hl [1, 2, 3, 4, 5, 6, 7, 8, 0] rfl) hG hF1 hF2 hU hS (by omega) (by omega) (by omega)
            exact J_113 _ l6_23 _ _ _ _ _ (lv_sub hl [2, 3, 4, 5, 6, 7, 8, 1, 0] rfl) hG hF1 hF2 hU hS (by omega) (by omega) (Nat.lt_succ_self _)
  exact J_39 _ 0 0 _ _ _ _ _ (lv_sub hl [6, 5, 4, 3, 2, 1, 0] rfl) hG hF1 hF2 hU hS (by omega) (by omega) (by omega) (Nat.lt_succ_self _)
set_option maxHeartbeats 4000000 in
set_option maxRecDepth 100000 in
theorem c_X12_odds {l : Launch} {D : va_G} {cA : FieldType → ClassId} {sz : Nat} {al : Al} {iv : Iv} {rv : Rv} (hG : GI al iv rv) (cl : Int32) (what : Int32) : Met l yX12_odds (wd yX12_odds cX12_odds 3 (some .int)) (rm 11) (PcW D cA sz al iv rv [.ref (al.2 0 0), .int cl, .int what]) (QI D cA sz al (fI al ([16, 17, 20, 47, 48], [(0, 55), (0, 56), (0, 57)]) iv rv (fun r iv' rv' => True))) 0 0 (Aq sz) := by
  refine mk_i (by decide) (Nat.le_of_ble_eq_true rfl) rfl ?_
  intro p e s m args below meth c ls Q H locs C hU hS hl hret
  have hx := C.1.1
  have hb := C.1.2.1
  have hl : lv_has ls 3 [(0, .ref (al.2 0 0)), (1, .int cl), (2, .int what)] := hl
  have hG0 := hG
  have h6 := le6 hG
  have h20 := le20 hG
  have h41 := le41 hG
  have hF1 : FR ([16, 17, 20, 47, 48], [(0, 55), (0, 56), (0, 57)]) iv iv := FR.rf
  have hF2 : FR ([16, 17, 20, 47, 48], [(0, 55), (0, 56), (0, 57)]) rv rv := FR.rf
  have km2 : ((-2) : Int32).toInt = -2 := by decide
  have km1 : ((-1) : Int32).toInt = -1 := by decide
  have k0 : (0 : Int32).toInt = 0 := by decide
  have k1 : (1 : Int32).toInt = 1 := by decide
  have k2 : (2 : Int32).toInt = 2 := by decide
  refine lv_aload_n hx hb dX12_odds_0 rfl (lv_at hl 0 rfl) ?_
  refine lv_iload_n hx hb dX12_odds_1 rfl (lv_at hl 1 rfl) ?_
  refine q_pi (q_runV (t := 0) (i := 0) (As := [.int cl]) (rest := []) C hU (c_X12_isClaim hG cl ) vm_X12_isClaim ml_X12_281 k_0.1 (hc := rfl) rfl (h1_0 hG) hl.1 rfl rfl (Nat.le_of_ble_eq_true rfl) dX12_odds_2 rfl rfl ⟨Nat.le_of_ble_eq_true rfl, Nat.le_of_ble_eq_true rfl⟩ ⟨Nat.le_refl _, Nat.le_refl _⟩) hS (fun x_2 H locs hp_1 hU hS => ?_)
  refine b_if_ne (tgt := 14) hx hb dX12_odds_5 (by decide) (fun c_3 => ?_) (fun c_3 => ?_)
  ·
    refine lv_iload_n hx hb dX12_odds_14 rfl (lv_at hl 2 rfl) ?_
    refine lv_iconst (v := 0) hx hb dX12_odds_15 (by decide) ?_
    refine lv_iconst (v := 2) hx hb dX12_odds_16 (by decide) ?_
    refine q_pi (q_runS (As := [.int what, .int 0, .int 2]) (rest := []) C hU (c_X12_in  what 0 2 ) sm_X12_in ml_X12_156 hl.1 rfl rfl (Nat.le_of_ble_eq_true rfl) dX12_odds_17 rfl rfl ⟨Nat.le_of_ble_eq_true rfl, Nat.le_of_ble_eq_true rfl⟩ ⟨Nat.le_refl _, Nat.le_refl _⟩) hS (fun x_5 H locs hp_4 hU hS => ?_)
    refine b_if_ne (tgt := 30) hx hb dX12_odds_20 (by decide) (fun c_6 => ?_) (fun c_6 => ?_)
    ·
      refine lv_aload_n hx hb dX12_odds_30 rfl (lv_at hl 0 rfl) ?_
      refine lv_iload_n hx hb dX12_odds_31 rfl (lv_at hl 1 rfl) ?_
      refine q_fv (q_runV (t := 0) (i := 0) (As := [.int cl]) (rest := []) C hU (c_X12_findLike hG cl (by omega)) vm_X12_findLike ml_X12_315 k_0.1 (hc := rfl) rfl (h1_0 hG) hl.1 rfl rfl (Nat.le_of_ble_eq_true rfl) dX12_odds_32 rfl rfl ⟨Nat.le_of_ble_eq_true rfl, Nat.le_of_ble_eq_true rfl⟩ ⟨Nat.le_refl _, Nat.le_refl _⟩) hS (fun iv_8 rv_9 H locs hG fa_10 fb_11 hp_7 hU hS => ?_)
      have hF1 := hF1.tr (m := ([16, 17, 20, 47, 48], [(0, 55), (0, 56), (0, 57)])) fa_10 (by decide)
      have hF2 := hF2.tr (m := ([16, 17, 20, 47, 48], [(0, 55), (0, 56), (0, 57)])) fb_11 (by decide)
      have kf_12 := congrArg Int32.toInt (hF1 0 0 20 (by decide))
      have kf_13 := congrArg Int32.toInt (hF1 0 0 41 (by decide))
      refine lv_iload_n hx hb dX12_odds_35 rfl (lv_at hl 2 rfl) ?_
      refine b_if_ne (tgt := 46) hx hb dX12_odds_36 (by decide) (fun c_14 => ?_) (fun c_14 => ?_)
      ·
        refine lv_iload_n hx hb dX12_odds_46 rfl (lv_at hl 2 rfl) ?_
        refine lv_iconst (v := 1) hx hb dX12_odds_47 (by decide) ?_
        refine b_icmp_ne (tgt := 58) hx hb dX12_odds_48 (by decide) (fun c_15 => ?_) (fun c_15 => ?_)
        ·
          refine lv_aload_n hx hb dX12_odds_58 rfl (lv_at hl 0 rfl) ?_
          refine lv_iload_n hx hb dX12_odds_59 rfl (lv_at hl 1 rfl) ?_
          refine q_fi (q_runV (t := 0) (i := 0) (As := [.int cl]) (rest := []) C hU (c_X12_worthOf hG cl (by omega)) vm_X12_worthOf ml_X12_284 k_0.1 (hc := rfl) rfl (h1_0 hG) hl.1 rfl rfl (Nat.le_of_ble_eq_true rfl) dX12_odds_60 rfl rfl ⟨Nat.le_of_ble_eq_true rfl, Nat.le_of_ble_eq_true rfl⟩ ⟨Nat.le_refl _, Nat.le_refl _⟩) hS (fun x_21 iv_17 rv_18 H locs hG fa_19 fb_20 hp_16 hU hS => ?_)
          have hF1 := hF1.tr (m := ([16, 17, 20, 47, 48], [(0, 55), (0, 56), (0, 57)])) fa_19 (by decide)
          have hF2 := hF2.tr (m := ([16, 17, 20, 47, 48], [(0, 55), (0, 56), (0, 57)])) fb_20 (by decide)
          have kf_22 := congrArg Int32.toInt (hF1 0 0 20 (by decide))
          have kf_23 := congrArg Int32.toInt (hF1 0 0 41 (by decide))
          refine lv_aload_n hx hb dX12_odds_63 rfl (lv_at hl 0 rfl) ?_
          refine g_0_56 C hU hG (h1_0 hG) fl_X12_309 dX12_odds_64 (fun x_24 e_25 => ?_)
          have te_25 := congrArg Int32.toInt e_25
          refine lv_imul hx hb dX12_odds_67 ?_
          refine lv_topi (fun x_26 e_27 => ?_)
          refine lv_aload_n hx hb dX12_odds_68 rfl (lv_at hl 0 rfl) ?_
          refine g_0_57 C hU hG (h1_0 hG) fl_X12_312 dX12_odds_69 (fun x_28 e_29 => ?_)
          have te_29 := congrArg Int32.toInt e_29
          refine lv_isub hx hb dX12_odds_72 ?_
          refine lv_topi (fun x_30 e_31 => ?_)
          exact hret (⟨hG, hF1, hF2, trivial⟩) hU hS dX12_odds_73
        ·
          refine lv_aload_n hx hb dX12_odds_51 rfl (lv_at hl 0 rfl) ?_
          refine g_0_55 C hU hG (h1_0 hG) fl_X12_306 dX12_odds_52 (fun x_32 e_33 le_33 ue_33 => ?_)
          have te_33 := congrArg Int32.toInt e_33
          refine lv_goto (tgt := 73) hx hb dX12_odds_55 (by decide) ?_
          exact hret (⟨hG, hF1, hF2, trivial⟩) hU hS dX12_odds_73
      ·
        refine lv_aload_n hx hb dX12_odds_39 rfl (lv_at hl 0 rfl) ?_
        refine g_0_56 C hU hG (h1_0 hG) fl_X12_309 dX12_odds_40 (fun x_34 e_35 => ?_)
        have te_35 := congrArg Int32.toInt e_35
        refine lv_goto (tgt := 73) hx hb dX12_odds_43 (by decide) ?_
        exact hret (⟨hG, hF1, hF2, trivial⟩) hU hS dX12_odds_73
    ·
      refine lv_aload_n hx hb dX12_odds_23 rfl (lv_at hl 0 rfl) ?_
      refine lv_bipush (v := (-2)) hx hb dX12_odds_24 (by decide) ?_
      refine q_fi (q_runV (t := 0) (i := 0) (As := [.int (-2)]) (rest := []) C hU (c_X12_refuseFar hG (-2) (by omega)) vm_X12_refuseFar ml_X12_178 k_0.1 (hc := rfl) rfl (h1_0 hG) hl.1 rfl rfl (Nat.le_of_ble_eq_true rfl) dX12_odds_26 rfl rfl ⟨Nat.le_of_ble_eq_true rfl, Nat.le_of_ble_eq_true rfl⟩ ⟨Nat.le_refl _, Nat.le_refl _⟩) hS (fun x_41 iv_37 rv_38 H locs hG fa_39 fb_40 hp_36 hU hS => ?_)
      have hF1 := hF1.tr (m := ([16, 17, 20, 47, 48], [(0, 55), (0, 56), (0, 57)])) fa_39 (by decide)
      have hF2 := hF2.tr (m := ([16, 17, 20, 47, 48], [(0, 55), (0, 56), (0, 57)])) fb_40 (by decide)
      have kf_42 := congrArg Int32.toInt (hF1 0 0 20 (by decide))
      have kf_43 := congrArg Int32.toInt (hF1 0 0 41 (by decide))
      exact hret (⟨hG, hF1, hF2, trivial⟩) hU hS dX12_odds_29
  ·
    refine lv_aload_n hx hb dX12_odds_8 rfl (lv_at hl 0 rfl) ?_
    refine lv_iconst (v := (-1)) hx hb dX12_odds_9 (by decide) ?_
    refine q_fi (q_runV (t := 0) (i := 0) (As := [.int (-1)]) (rest := []) C hU (c_X12_refuseFar hG (-1) (by omega)) vm_X12_refuseFar ml_X12_178 k_0.1 (hc := rfl) rfl (h1_0 hG) hl.1 rfl rfl (Nat.le_of_ble_eq_true rfl) dX12_odds_10 rfl rfl ⟨Nat.le_of_ble_eq_true rfl, Nat.le_of_ble_eq_true rfl⟩ ⟨Nat.le_refl _, Nat.le_refl _⟩) hS (fun x_49 iv_45 rv_46 H locs hG fa_47 fb_48 hp_44 hU hS => ?_)
    have hF1 := hF1.tr (m := ([16, 17, 20, 47, 48], [(0, 55), (0, 56), (0, 57)])) fa_47 (by decide)
    have hF2 := hF2.tr (m := ([16, 17, 20, 47, 48], [(0, 55), (0, 56), (0, 57)])) fb_48 (by decide)
    have kf_50 := congrArg Int32.toInt (hF1 0 0 20 (by decide))
    have kf_51 := congrArg Int32.toInt (hF1 0 0 41 (by decide))
    exact hret (⟨hG, hF1, hF2, trivial⟩) hU hS dX12_odds_13
set_option maxHeartbeats 4000000 in
set_option maxRecDepth 100000 in
theorem c_X12_good {l : Launch} {D : va_G} {cA : FieldType → ClassId} {sz : Nat} {al : Al} {iv : Iv} {rv : Rv} (hG : GI al iv rv) (cl : Int32) (v : Int32) : Met l yX12_good (wd yX12_good cX12_good 5 (some .int)) (rm 11) (PcW D cA sz al iv rv [.ref (al.2 0 0), .int cl, .int v]) (QI D cA sz al (fI al ([16, 17, 20, 47, 48], [(0, 55), (0, 56), (0, 57)]) iv rv (fun r iv' rv' => True))) 0 0 (Aq sz) := by
  refine mk_i (by decide) (Nat.le_of_ble_eq_true rfl) rfl ?_
  intro p e s m args below meth c ls Q H locs C hU hS hl hret
  have hx := C.1.1
  have hb := C.1.2.1
  have hl : lv_has ls 5 [(0, .ref (al.2 0 0)), (1, .int cl), (2, .int v)] := hl
  have hG0 := hG
  have h6 := le6 hG
  have h20 := le20 hG
  have h41 := le41 hG
  have hF1 : FR ([16, 17, 20, 47, 48], [(0, 55), (0, 56), (0, 57)]) iv iv := FR.rf
  have hF2 : FR ([16, 17, 20, 47, 48], [(0, 55), (0, 56), (0, 57)]) rv rv := FR.rf
  have km6 : ((-6) : Int32).toInt = -6 := by decide
  have km4 : ((-4) : Int32).toInt = -4 := by decide
  have km1 : ((-1) : Int32).toInt = -1 := by decide
  have k0 : (0 : Int32).toInt = 0 := by decide
  have k1 : (1 : Int32).toInt = 1 := by decide
  have k2 : (2 : Int32).toInt = 2 := by decide
  have k9999 : (9999 : Int32).toInt = 9999 := by decide
  refine lv_aload_n hx hb dX12_good_0 rfl (lv_at hl 0 rfl) ?_
  refine lv_iload_n hx hb dX12_good_1 rfl (lv_at hl 1 rfl) ?_
  refine q_pi (q_runV (t := 0) (i := 0) (As := [.int cl]) (rest := []) C hU (c_X12_isClaim hG cl ) vm_X12_isClaim ml_X12_281 k_0.1 (hc := rfl) rfl (h1_0 hG) hl.1 rfl rfl (Nat.le_of_ble_eq_true rfl) dX12_good_2 rfl rfl ⟨Nat.le_of_ble_eq_true rfl, Nat.le_of_ble_eq_true rfl⟩ ⟨Nat.le_refl _, Nat.le_refl _⟩) hS (fun x_2 H locs hp_1 hU hS => ?_)
  refine b_if_ne (tgt := 14) hx hb dX12_good_5 (by decide) (fun c_3 => ?_) (fun c_3 => ?_)
  ·
    refine lv_iload_n hx hb dX12_good_14 rfl (lv_at hl 2 rfl) ?_
    refine b_if_ge (tgt := 25) hx hb dX12_good_15 (by decide) (fun c_4 => ?_) (fun c_4 => ?_)
    ·
      refine lv_iload_n hx hb dX12_good_25 rfl (lv_at hl 2 rfl) ?_
      refine lv_sipush (v := 9999) hx hb dX12_good_26 (by decide) ?_
      refine b_icmp_le (tgt := 39) hx hb dX12_good_29 (by decide) (fun c_5 => ?_) (fun c_5 => ?_)
      ·
        refine lv_aload_n hx hb dX12_good_39 rfl (lv_at hl 0 rfl) ?_
        refine lv_iload_n hx hb dX12_good_40 rfl (lv_at hl 1 rfl) ?_
        refine q_fv (q_runV (t := 0) (i := 0) (As := [.int cl]) (rest := []) C hU (c_X12_findLike hG cl (by omega)) vm_X12_findLike ml_X12_315 k_0.1 (hc := rfl) rfl (h1_0 hG) hl.1 rfl rfl (Nat.le_of_ble_eq_true rfl) dX12_good_41 rfl rfl ⟨Nat.le_of_ble_eq_true rfl, Nat.le_of_ble_eq_true rfl⟩ ⟨Nat.le_refl _, Nat.le_refl _⟩) hS (fun iv_7 rv_8 H locs hG fa_9 fb_10 hp_6 hU hS => ?_)
        have hF1 := hF1.tr (m := ([16, 17, 20, 47, 48], [(0, 55), (0, 56), (0, 57)])) fa_9 (by decide)
        have hF2 := hF2.tr (m := ([16, 17, 20, 47, 48], [(0, 55), (0, 56), (0, 57)])) fb_10 (by decide)
        have kf_11 := congrArg Int32.toInt (hF1 0 0 20 (by decide))
        have kf_12 := congrArg Int32.toInt (hF1 0 0 41 (by decide))
        refine lv_aload_n hx hb dX12_good_44 rfl (lv_at hl 0 rfl) ?_
        refine lv_iload_n hx hb dX12_good_45 rfl (lv_at hl 1 rfl) ?_
        refine q_fi (q_runV (t := 0) (i := 0) (As := [.int cl]) (rest := []) C hU (c_X12_worthOf hG cl (by omega)) vm_X12_worthOf ml_X12_284 k_0.1 (hc := rfl) rfl (h1_0 hG) hl.1 rfl rfl (Nat.le_of_ble_eq_true rfl) dX12_good_46 rfl rfl ⟨Nat.le_of_ble_eq_true rfl, Nat.le_of_ble_eq_true rfl⟩ ⟨Nat.le_refl _, Nat.le_refl _⟩) hS (fun x_18 iv_14 rv_15 H locs hG fa_16 fb_17 hp_13 hU hS => ?_)
        have hF1 := hF1.tr (m := ([16, 17, 20, 47, 48], [(0, 55), (0, 56), (0, 57)])) fa_16 (by decide)
        have hF2 := hF2.tr (m := ([16, 17, 20, 47, 48], [(0, 55), (0, 56), (0, 57)])) fb_17 (by decide)
        have kf_19 := congrArg Int32.toInt (hF1 0 0 20 (by decide))
        have kf_20 := congrArg Int32.toInt (hF1 0 0 41 (by decide))
        refine lv_istore_n (lv' := [(3, .int x_18), (0, .ref (al.2 0 0)), (1, .int cl), (2, .int v)]) hx hb dX12_good_49 rfl hl (by decide) rfl (fun ls hl => ?_)
        refine lv_aload_n hx hb dX12_good_50 rfl (lv_at hl 1 rfl) ?_
        refine g_0_55 C hU hG (h1_0 hG) fl_X12_306 dX12_good_51 (fun x_21 e_22 le_22 ue_22 => ?_)
        have te_22 := congrArg Int32.toInt e_22
        refine b_if_ne (tgt := 72) hx hb dX12_good_54 (by decide) (fun c_23 => ?_) (fun c_23 => ?_)
        ·
          refine lv_iload_n hx hb dX12_good_72 rfl (lv_at hl 3 rfl) ?_
          refine lv_aload_n hx hb dX12_good_73 rfl (lv_at hl 1 rfl) ?_
          refine g_0_55 C hU hG (h1_0 hG) fl_X12_306 dX12_good_74 (fun x_24 e_25 le_25 ue_25 => ?_)
          have te_25 := congrArg Int32.toInt e_25
          refine lv_imul hx hb dX12_good_77 ?_
          refine lv_topi (fun x_26 e_27 => ?_)
          refine lv_iload_n hx hb dX12_good_78 rfl (lv_at hl 0 rfl) ?_
          refine lv_aload_n hx hb dX12_good_79 rfl (lv_at hl 1 rfl) ?_
          refine g_0_56 C hU hG (h1_0 hG) fl_X12_309 dX12_good_80 (fun x_28 e_29 => ?_)
          have te_29 := congrArg Int32.toInt e_29
          refine lv_imul hx hb dX12_good_83 ?_
          refine lv_topi (fun x_30 e_31 => ?_)
          refine lv_aload_n hx hb dX12_good_84 rfl (lv_at hl 1 rfl) ?_
          refine g_0_57 C hU hG (h1_0 hG) fl_X12_312 dX12_good_85 (fun x_32 e_33 => ?_)
          have te_33 := congrArg Int32.toInt e_33
          refine lv_isub hx hb dX12_good_88 ?_
          refine lv_topi (fun x_34 e_35 => ?_)
          refine b_icmp_lt (tgt := 96) hx hb dX12_good_89 (by decide) (fun c_36 => ?_) (fun c_36 => ?_)
          ·
            refine lv_iconst (v := 0) hx hb dX12_good_96 (by decide) ?_
            refine lv_istore (lv' := [(4, .int 0), (3, .int x_18), (0, .ref (al.2 0 0)), (1, .int cl), (2, .int v)]) hx hb dX12_good_97 hl (by decide) rfl (fun ls hl => ?_)
            refine lv_iload hx hb dX12_good_99 (lv_at hl 0 rfl) ?_
            refine b_if_eq (tgt := 108) hx hb dX12_good_101 (by decide) (fun c_37 => ?_) (fun c_37 => ?_)
            ·
              refine lv_iconst (v := 0) hx hb dX12_good_108 (by decide) ?_
              exact hret (⟨hG, hF1, hF2, trivial⟩) hU hS dX12_good_109
            ·
              refine lv_iconst (v := 1) hx hb dX12_good_104 (by decide) ?_
              refine lv_goto (tgt := 109) hx hb dX12_good_105 (by decide) ?_
              exact hret (⟨hG, hF1, hF2, trivial⟩) hU hS dX12_good_109
          ·
            refine lv_iconst (v := 1) hx hb dX12_good_92 (by decide) ?_
            refine lv_goto (tgt := 97) hx hb dX12_good_93 (by decide) ?_
            refine lv_istore (lv' := [(4, .int 1), (3, .int x_18), (0, .ref (al.2 0 0)), (1, .int cl), (2, .int v)]) hx hb dX12_good_97 hl (by decide) rfl (fun ls hl => ?_)
            refine lv_iload hx hb dX12_good_99 (lv_at hl 0 rfl) ?_
            refine b_if_eq (tgt := 108) hx hb dX12_good_101 (by decide) (fun c_38 => ?_) (fun c_38 => ?_)
            ·
              refine lv_iconst (v := 0) hx hb dX12_good_108 (by decide) ?_
              exact hret (⟨hG, hF1, hF2, trivial⟩) hU hS dX12_good_109
            ·
              refine lv_iconst (v := 1) hx hb dX12_good_104 (by decide) ?_
              refine lv_goto (tgt := 109) hx hb dX12_good_105 (by decide) ?_
              exact hret (⟨hG, hF1, hF2, trivial⟩) hU hS dX12_good_109
        ·
          refine lv_iconst (v := 2) hx hb dX12_good_57 (by decide) ?_
          refine lv_iload_n hx hb dX12_good_58 rfl (lv_at hl 3 rfl) ?_
          refine lv_imul hx hb dX12_good_59 ?_
          refine lv_topi (fun x_39 e_40 => ?_)
          have te_40 : x_39.toInt = 2 * (v : Int32).toInt := by rw [e_40, fb_mulI (by rw [show (2 : Int32).toInt = 2 from by decide]; omega) (by rw [show (2 : Int32).toInt = 2 from by decide]; omega), show (2 : Int32).toInt = 2 from by decide]
          refine lv_iload_n hx hb dX12_good_60 rfl (lv_at hl 0 rfl) ?_
          refine b_icmp_lt (tgt := 68) hx hb dX12_good_61 (by decide) (fun c_41 => ?_) (fun c_41 => ?_)
          ·
            refine lv_iconst (v := 0) hx hb dX12_good_68 (by decide) ?_
            refine lv_goto (tgt := 97) hx hb dX12_good_69 (by decide) ?_
            refine lv_istore (lv' := [(4, .int 0), (3, .int x_18), (0, .ref (al.2 0 0)), (1, .int cl), (2, .int v)]) hx hb dX12_good_97 hl (by decide) rfl (fun ls hl => ?_)
            refine lv_iload hx hb dX12_good_99 (lv_at hl 0 rfl) ?_
            refine b_if_eq (tgt := 108) hx hb dX12_good_101 (by decide) (fun c_42 => ?_) (fun c_42 => ?_)
            ·
              refine lv_iconst (v := 0) hx hb dX12_good_108 (by decide) ?_
              exact hret (⟨hG, hF1, hF2, trivial⟩) hU hS dX12_good_109
            ·
              refine lv_iconst (v := 1) hx hb dX12_good_104 (by decide) ?_
              refine lv_goto (tgt := 109) hx hb dX12_good_105 (by decide) ?_
              exact hret (⟨hG, hF1, hF2, trivial⟩) hU hS dX12_good_109
          ·
            refine lv_iconst (v := 1) hx hb dX12_good_64 (by decide) ?_
            refine lv_goto (tgt := 97) hx hb dX12_good_65 (by decide) ?_
            refine lv_istore (lv' := [(4, .int 1), (3, .int x_18), (0, .ref (al.2 0 0)), (1, .int cl), (2, .int v)]) hx hb dX12_good_97 hl (by decide) rfl (fun ls hl => ?_)
            refine lv_iload hx hb dX12_good_99 (lv_at hl 0 rfl) ?_
            refine b_if_eq (tgt := 108) hx hb dX12_good_101 (by decide) (fun c_43 => ?_) (fun c_43 => ?_)
            ·
              refine lv_iconst (v := 0) hx hb dX12_good_108 (by decide) ?_
              exact hret (⟨hG, hF1, hF2, trivial⟩) hU hS dX12_good_109
            ·
              refine lv_iconst (v := 1) hx hb dX12_good_104 (by decide) ?_
              refine lv_goto (tgt := 109) hx hb dX12_good_105 (by decide) ?_
              exact hret (⟨hG, hF1, hF2, trivial⟩) hU hS dX12_good_109
      ·
        refine lv_aload_n hx hb dX12_good_32 rfl (lv_at hl 0 rfl) ?_
        refine lv_bipush (v := (-6)) hx hb dX12_good_33 (by decide) ?_
        refine q_fi (q_runV (t := 0) (i := 0) (As := [.int (-6)]) (rest := []) C hU (c_X12_refuse hG (-6) (by omega)) vm_X12_refuse ml_X12_164 k_0.1 (hc := rfl) rfl (h1_0 hG) hl.1 rfl rfl (Nat.le_of_ble_eq_true rfl) dX12_good_35 rfl rfl ⟨Nat.le_of_ble_eq_true rfl, Nat.le_of_ble_eq_true rfl⟩ ⟨Nat.le_refl _, Nat.le_refl _⟩) hS (fun x_49 iv_45 rv_46 H locs hG fa_47 fb_48 hp_44 hU hS => ?_)
        have hF1 := hF1.tr (m := ([16, 17, 20, 47, 48], [(0, 55), (0, 56), (0, 57)])) fa_47 (by decide)
        have hF2 := hF2.tr (m := ([16, 17, 20, 47, 48], [(0, 55), (0, 56), (0, 57)])) fb_48 (by decide)
        have kf_50 := congrArg Int32.toInt (hF1 0 0 20 (by decide))
        have kf_51 := congrArg Int32.toInt (hF1 0 0 41 (by decide))
        exact hret (⟨hG, hF1, hF2, trivial⟩) hU hS dX12_good_38
    ·
      refine lv_aload_n hx hb dX12_good_18 rfl (lv_at hl 0 rfl) ?_
      refine lv_bipush (v := (-4)) hx hb dX12_good_19 (by decide) ?_
      refine q_fi (q_runV (t := 0) (i := 0) (As := [.int (-4)]) (rest := []) C hU (c_X12_refuse hG (-4) (by omega)) vm_X12_refuse ml_X12_164 k_0.1 (hc := rfl) rfl (h1_0 hG) hl.1 rfl rfl (Nat.le_of_ble_eq_true rfl) dX12_good_21 rfl rfl ⟨Nat.le_of_ble_eq_true rfl, Nat.le_of_ble_eq_true rfl⟩ ⟨Nat.le_refl _, Nat.le_refl _⟩) hS (fun x_57 iv_53 rv_54 H locs hG fa_55 fb_56 hp_52 hU hS => ?_)
      have hF1 := hF1.tr (m := ([16, 17, 20, 47, 48], [(0, 55), (0, 56), (0, 57)])) fa_55 (by decide)
      have hF2 := hF2.tr (m := ([16, 17, 20, 47, 48], [(0, 55), (0, 56), (0, 57)])) fb_56 (by decide)
      have kf_58 := congrArg Int32.toInt (hF1 0 0 20 (by decide))
      have kf_59 := congrArg Int32.toInt (hF1 0 0 41 (by decide))
      exact hret (⟨hG, hF1, hF2, trivial⟩) hU hS dX12_good_24
  ·
    refine lv_aload_n hx hb dX12_good_8 rfl (lv_at hl 0 rfl) ?_
    refine lv_iconst (v := (-1)) hx hb dX12_good_9 (by decide) ?_
    refine q_fi (q_runV (t := 0) (i := 0) (As := [.int (-1)]) (rest := []) C hU (c_X12_refuse hG (-1) (by omega)) vm_X12_refuse ml_X12_164 k_0.1 (hc := rfl) rfl (h1_0 hG) hl.1 rfl rfl (Nat.le_of_ble_eq_true rfl) dX12_good_10 rfl rfl ⟨Nat.le_of_ble_eq_true rfl, Nat.le_of_ble_eq_true rfl⟩ ⟨Nat.le_refl _, Nat.le_refl _⟩) hS (fun x_65 iv_61 rv_62 H locs hG fa_63 fb_64 hp_60 hU hS => ?_)
    have hF1 := hF1.tr (m := ([16, 17, 20, 47, 48], [(0, 55), (0, 56), (0, 57)])) fa_63 (by decide)
    have hF2 := hF2.tr (m := ([16, 17, 20, 47, 48], [(0, 55), (0, 56), (0, 57)])) fb_64 (by decide)
    have kf_66 := congrArg Int32.toInt (hF1 0 0 20 (by decide))
    have kf_67 := congrArg Int32.toInt (hF1 0 0 41 (by decide))
    exact hret (⟨hG, hF1, hF2, trivial⟩) hU hS dX12_good_13
set_option maxHeartbeats 4000000 in
set_option maxRecDepth 100000 in
theorem c_X12_count {l : Launch} {D : va_G} {cA : FieldType → ClassId} {sz : Nat} {al : Al} {iv : Iv} {rv : Rv} (hG : GI al iv rv) (what : Int32) : Met l yX12_count (wd yX12_count cX12_count 4 (some .int)) (rm 3) (PcW D cA sz al iv rv [.ref (al.2 0 0), .int what]) (QI D cA sz al (fI al ([16], []) iv rv (fun r iv' rv' => True))) 0 0 (Aq sz) := by
  refine mk_i (by decide) (Nat.le_of_ble_eq_true rfl) rfl ?_
  intro p e s m args below meth c ls Q H locs C hU hS hl hret
  have hx := C.1.1
  have hb := C.1.2.1
  have hl : lv_has ls 4 [(0, .ref (al.2 0 0)), (1, .int what)] := hl
  have hG0 := hG
  have h6 := le6 hG
  have h20 := le20 hG
  have h41 := le41 hG
  have hF1 : FR ([16], []) iv iv := FR.rf
  have hF2 : FR ([16], []) rv rv := FR.rf
  have km9 : ((-9) : Int32).toInt = -9 := by decide
  have k0 : (0 : Int32).toInt = 0 := by decide
  have k1 : (1 : Int32).toInt = 1 := by decide
  have k10 : (10 : Int32).toInt = 10 := by decide
  have k11 : (11 : Int32).toInt = 11 := by decide
  have k16 : (16 : Int32).toInt = 16 := by decide
  refine lv_iconst (v := 0) hx hb dX12_count_0 (by decide) ?_
  refine lv_istore_n (lv' := [(2, .int 0), (0, .ref (al.2 0 0)), (1, .int what)]) hx hb dX12_count_1 rfl hl (by decide) rfl (fun ls hl => ?_)
  refine lv_iload_n hx hb dX12_count_2 rfl (lv_at hl 2 rfl) ?_
  refine b_table hx hb dX12_count_3 156 (by decide) [52, 57, 62, 97, 102, 107, 112, 146, 151] (by decide) (fun j hj => ?_) (fun c_1 => ?_) (fun j tt htt c_1 => ?_)
  ·
    match j, hj with
    | 0, _ => exact ⟨49, 52, by decide, by decide, by decide⟩
    | 1, _ => exact ⟨54, 57, by decide, by decide, by decide⟩
    | 2, _ => exact ⟨59, 62, by decide, by decide, by decide⟩
    | 3, _ => exact ⟨94, 97, by decide, by decide, by decide⟩
    | 4, _ => exact ⟨99, 102, by decide, by decide, by decide⟩
    | 5, _ => exact ⟨104, 107, by decide, by decide, by decide⟩
    | 6, _ => exact ⟨109, 112, by decide, by decide, by decide⟩
    | 7, _ => exact ⟨143, 146, by decide, by decide, by decide⟩
    | 8, _ => exact ⟨148, 151, by decide, by decide, by decide⟩
    | q + 9, hq => exact absurd hq (by simp)
  ·
    refine lv_iload_n hx hb dX12_count_156 rfl (lv_at hl 2 rfl) ?_
    refine lv_bipush (v := 11) hx hb dX12_count_157 (by decide) ?_
    refine lv_bipush (v := 16) hx hb dX12_count_159 (by decide) ?_
    refine q_pi (q_runS (As := [.int what, .int 11, .int 16]) (rest := []) C hU (c_X12_in  what 11 16 ) sm_X12_in ml_X12_156 hl.1 rfl rfl (Nat.le_of_ble_eq_true rfl) dX12_count_161 rfl rfl ⟨Nat.le_of_ble_eq_true rfl, Nat.le_of_ble_eq_true rfl⟩ ⟨Nat.le_refl _, Nat.le_refl _⟩) hS (fun x_3 H locs hp_2 hU hS => ?_)
    refine b_if_eq (tgt := 179) hx hb dX12_count_164 (by decide) (fun c_4 => ?_) (fun c_4 => ?_)
    ·
      refine lv_bipush (v := (-9)) hx hb dX12_count_179 (by decide) ?_
      exact hret (⟨hG, hF1, hF2, trivial⟩) hU hS dX12_count_181
    ·
      refine lv_aload_n hx hb dX12_count_167 rfl (lv_at hl 1 rfl) ?_
      refine g_0_18 C hU hG (h1_0 hG) fl_X12_56 dX12_count_168 ?_
      refine lv_iload_n hx hb dX12_count_171 rfl (lv_at hl 2 rfl) ?_
      refine lv_bipush (v := 10) hx hb dX12_count_172 (by decide) ?_
      refine lv_isub hx hb dX12_count_174 ?_
      refine lv_topi (fun x_5 e_6 => ?_)
      have te_6 : x_5.toInt = (what : Int32).toInt - (10 : Int32).toInt := by rw [e_6]; exact fb_subI (by omega) (by omega)
      refine a_16 C hU hG (h1_16 hG) (x := x_5) (by omega) (by omega) dX12_count_175 (fun x_7 e_8 => ?_)
      have te_8 := congrArg Int32.toInt e_8
      refine lv_goto (tgt := 181) hx hb dX12_count_176 (by decide) ?_
      exact hret (⟨hG, hF1, hF2, trivial⟩) hU hS dX12_count_181
  ·
    match j, htt with
    | 0, htt =>
      cases htt
      refine lv_aload_n hx hb dX12_count_52 rfl (lv_at hl 1 rfl) ?_
      refine g_0_0 C hU hG (h1_0 hG) fl_X12_168 dX12_count_53 (fun x_9 e_10 le_10 ue_10 => ?_)
      have te_10 := congrArg Int32.toInt e_10
      exact hret (⟨hG, hF1, hF2, trivial⟩) hU hS dX12_count_56
    | 1, htt =>
      cases htt
      refine lv_aload_n hx hb dX12_count_57 rfl (lv_at hl 1 rfl) ?_
      refine g_0_6 C hU hG (h1_0 hG) fl_X12_160 dX12_count_58 (fun x_11 e_12 le_12 ue_12 => ?_)
      have te_12 := congrArg Int32.toInt e_12
      exact hret (⟨hG, hF1, hF2, trivial⟩) hU hS dX12_count_61
    | 2, htt =>
      cases htt
      refine lv_iconst (v := 0) hx hb dX12_count_62 (by decide) ?_
      refine lv_istore_n (lv' := [(3, .int 0), (2, .int 0), (0, .ref (al.2 0 0)), (1, .int what)]) hx hb dX12_count_63 rfl hl (by decide) rfl (fun ls hl => ?_)
      have J_64 : ∀ (n_64 : Nat) (l2_13 : Int32) (l3_14 : Int32) (ls : Array Slot), lv_has ls 4 [(0, .ref (al.2 0 0)), (2, .int l2_13), (3, .int l3_14)] → (0 ≤ l3_14.toInt ∧ l3_14.toInt ≤ 40) → (40 - l3_14.toInt).toNat < n_64 → W p l e (rm 3) s m args below meth c H locs 0 0 Q (F0 m 64 ls []) := by
        intro n_64
        induction n_64 with
        | zero =>
          intro l2_13 l3_14 ls hl i64_0 hm_64
          exact absurd hm_64 (Nat.not_lt_zero _)
        | succ n_64 ih_64 =>
          intro l2_13 l3_14 ls hl i64_0 hm_64
          refine lv_iload_n hx hb dX12_count_64 rfl (lv_at hl 2 rfl) ?_
          refine lv_aload_n hx hb dX12_count_65 rfl (lv_at hl 0 rfl) ?_
          refine g_0_6 C hU hG (h1_0 hG) fl_X12_160 dX12_count_66 (fun x_15 e_16 le_16 ue_16 => ?_)
          have te_16 := congrArg Int32.toInt e_16
          refine b_icmp_ge (tgt := 95) hx hb dX12_count_69 (by decide) (fun c_17 => ?_) (fun c_17 => ?_)
          ·
            refine lv_iload_n hx hb dX12_count_95 rfl (lv_at hl 1 rfl) ?_
            exact hret (⟨hG, hF1, hF2, trivial⟩) hU hS dX12_count_96
          ·
            refine lv_iload_n hx hb dX12_count_72 rfl (lv_at hl 1 rfl) ?_
            refine lv_aload_n hx hb dX12_count_73 rfl (lv_at hl 0 rfl) ?_
            refine g_0_13 C hU hG (h1_0 hG) fl_X12_40 dX12_count_74 ?_
            refine lv_iload_n hx hb dX12_count_77 rfl (lv_at hl 2 rfl) ?_
            refine a_11 C hU hG (h1_11 hG) (x := l3_14) (by omega) (by omega) dX12_count_78 (fun x_18 e_19 le_19 ue_19 => ?_)
            have te_19 := congrArg Int32.toInt e_19
            have J_87 : ∀ (v_20 : Int32) (ls : Array Slot), lv_has ls 4 [(0, .ref (al.2 0 0)), (3, .int l3_14)] → (0 ≤ v_20.toInt ∧ v_20.toInt ≤ 1) → W p l e (rm 3) s m args below meth c H locs 0 0 Q (F0 m 87 ls [.int v_20, .int l2_13]) := by
              intro v_20 ls hl i87_0
              refine lv_iadd hx hb dX12_count_87 ?_
              refine lv_topi (fun x_21 e_22 => ?_)
              refine lv_istore_n (lv' := [(2, .int x_21), (0, .ref (al.2 0 0)), (3, .int l3_14)]) hx hb dX12_count_88 rfl hl (by decide) rfl (fun ls hl => ?_)
              obtain ⟨x_23, e_24⟩ : ∃ y : Int32, y = l3_14 + 1 := ⟨_, rfl⟩
              have te_24 : x_23.toInt = (l3_14 : Int32).toInt + (1 : Int32).toInt := by rw [e_24]; exact fb_addI (by omega) (by omega)
              refine lv_iinc (v := x_23) (lv' := [(3, .int x_23), (2, .int x_21), (0, .ref (al.2 0 0))]) hx hb dX12_count_89 hl (k := 2) rfl (by rw [e_24]; rfl) (by decide) rfl (fun ls hl => ?_)
              refine lv_goto (tgt := 64) hx hb dX12_count_92 (by decide) ?_
              exact ih_64 x_21 x_23 _ (lv_sub hl [2, 1, 0] rfl) (by omega) (by omega)
            refine b_if_eq (tgt := 86) hx hb dX12_count_79 (by decide) (fun c_25 => ?_) (fun c_25 => ?_)
            ·
              refine lv_iconst (v := 0) hx hb dX12_count_86 (by decide) ?_
              exact J_87 0 _ (lv_sub hl [0, 2] rfl) (by omega)
            ·
              refine lv_iconst (v := 1) hx hb dX12_count_82 (by decide) ?_
              refine lv_goto (tgt := 87) hx hb dX12_count_83 (by decide) ?_
              exact J_87 1 _ (lv_sub hl [0, 2] rfl) (by omega)
      exact J_64 _ 0 0 _ (lv_sub hl [2, 1, 0] rfl) (by omega) (Nat.lt_succ_self _)
    | 3, htt =>
      cases htt
      refine lv_aload_n hx hb dX12_count_97 rfl (lv_at hl 1 rfl) ?_
      refine g_0_20 C hU hG (h1_0 hG) fl_X12_223 dX12_count_98 (fun x_26 e_27 le_27 ue_27 => ?_)
      have te_27 := congrArg Int32.toInt e_27
      exact hret (⟨hG, hF1, hF2, trivial⟩) hU hS dX12_count_101
    | 4, htt =>
      cases htt
      refine lv_aload_n hx hb dX12_count_102 rfl (lv_at hl 1 rfl) ?_
      refine g_0_24 C hU hG (h1_0 hG) fl_X12_247 dX12_count_103 (fun x_28 e_29 le_29 ue_29 => ?_)
      have te_29 := congrArg Int32.toInt e_29
      exact hret (⟨hG, hF1, hF2, trivial⟩) hU hS dX12_count_106
    | 5, htt =>
      cases htt
      refine lv_aload_n hx hb dX12_count_107 rfl (lv_at hl 1 rfl) ?_
      refine g_0_41 C hU hG (h1_0 hG) fl_X12_275 dX12_count_108 (fun x_30 e_31 le_31 ue_31 => ?_)
      have te_31 := congrArg Int32.toInt e_31
      exact hret (⟨hG, hF1, hF2, trivial⟩) hU hS dX12_count_111
    | 6, htt =>
      cases htt
      refine lv_iconst (v := 0) hx hb dX12_count_112 (by decide) ?_
      refine lv_istore_n (lv' := [(3, .int 0), (2, .int 0), (0, .ref (al.2 0 0)), (1, .int what)]) hx hb dX12_count_113 rfl hl (by decide) rfl (fun ls hl => ?_)
      have J_114 : ∀ (n_114 : Nat) (l2_32 : Int32) (l3_33 : Int32) (H : Heap) (locs : List Loc) (ls : Array Slot), lv_has ls 4 [(0, .ref (al.2 0 0)), (2, .int l2_32), (3, .int l3_33)] → UW D cA sz al iv rv H → va_S (Aq sz) s.heap H locs → (0 ≤ l3_33.toInt ∧ l3_33.toInt ≤ 30) → (30 - l3_33.toInt).toNat < n_114 → W p l e (rm 3) s m args below meth c H locs 0 0 Q (F0 m 114 ls []) := by
        intro n_114
        induction n_114 with
        | zero =>
          intro l2_32 l3_33 H locs ls hl hU hS i114_0 hm_114
          exact absurd hm_114 (Nat.not_lt_zero _)
        | succ n_114 ih_114 =>
          intro l2_32 l3_33 H locs ls hl hU hS i114_0 hm_114
          refine lv_iload_n hx hb dX12_count_114 rfl (lv_at hl 2 rfl) ?_
          refine lv_aload_n hx hb dX12_count_115 rfl (lv_at hl 0 rfl) ?_
          refine g_0_41 C hU hG (h1_0 hG) fl_X12_275 dX12_count_116 (fun x_34 e_35 le_35 ue_35 => ?_)
          have te_35 := congrArg Int32.toInt e_35
          refine b_icmp_ge (tgt := 144) hx hb dX12_count_119 (by decide) (fun c_36 => ?_) (fun c_36 => ?_)
          ·
            refine lv_iload_n hx hb dX12_count_144 rfl (lv_at hl 1 rfl) ?_
            exact hret (⟨hG, hF1, hF2, trivial⟩) hU hS dX12_count_145
          ·
            refine lv_iload_n hx hb dX12_count_122 rfl (lv_at hl 1 rfl) ?_
            refine lv_aload_n hx hb dX12_count_123 rfl (lv_at hl 0 rfl) ?_
            refine lv_iload_n hx hb dX12_count_124 rfl (lv_at hl 2 rfl) ?_
            refine q_pi (q_runV (t := 0) (i := 0) (As := [.int l3_33]) (rest := [.int l2_32]) C hU (c_X12_isBarred hG l3_33 (by omega)) vm_X12_isBarred ml_X12_278 k_0.1 (hc := rfl) rfl (h1_0 hG) hl.1 rfl rfl (Nat.le_of_ble_eq_true rfl) dX12_count_125 rfl rfl ⟨Nat.le_of_ble_eq_true rfl, Nat.le_of_ble_eq_true rfl⟩ ⟨Nat.le_refl _, Nat.le_refl _⟩) hS (fun x_38 H locs hp_37 hU hS => ?_)
            have J_136 : ∀ (v_39 : Int32) (ls : Array Slot), lv_has ls 4 [(0, .ref (al.2 0 0)), (3, .int l3_33)] → (0 ≤ v_39.toInt ∧ v_39.toInt ≤ 1) → W p l e (rm 3) s m args below meth c H locs 0 0 Q (F0 m 136 ls [.int v_39, .int l2_32]) := by
              intro v_39 ls hl i136_0
              refine lv_iadd hx hb dX12_count_136 ?_
              refine lv_topi (fun x_40 e_41 => ?_)
              refine lv_istore_n (lv' := [(2, .int x_40), (0, .ref (al.2 0 0)), (3, .int l3_33)]) hx hb dX12_count_137 rfl hl (by decide) rfl (fun ls hl => ?_)
              obtain ⟨x_42, e_43⟩ : ∃ y : Int32, y = l3_33 + 1 := ⟨_, rfl⟩
              have te_43 : x_42.toInt = (l3_33 : Int32).toInt + (1 : Int32).toInt := by rw [e_43]; exact fb_addI (by omega) (by omega)
              refine lv_iinc (v := x_42) (lv' := [(3, .int x_42), (2, .int x_40), (0, .ref (al.2 0 0))]) hx hb dX12_count_138 hl (k := 2) rfl (by rw [e_43]; rfl) (by decide) rfl (fun ls hl => ?_)
              refine lv_goto (tgt := 114) hx hb dX12_count_141 (by decide) ?_
              exact ih_114 x_40 x_42 _ _ _ (lv_sub hl [2, 1, 0] rfl) hU hS (by omega) (by omega)
            refine b_if_eq (tgt := 135) hx hb dX12_count_128 (by decide) (fun c_44 => ?_) (fun c_44 => ?_)
            ·
              refine lv_iconst (v := 0) hx hb dX12_count_135 (by decide) ?_
              exact J_136 0 _ (lv_sub hl [0, 2] rfl) (by omega)
            ·
              refine lv_iconst (v := 1) hx hb dX12_count_131 (by decide) ?_
              refine lv_goto (tgt := 136) hx hb dX12_count_132 (by decide) ?_
              exact J_136 1 _ (lv_sub hl [0, 2] rfl) (by omega)
      exact J_114 _ 0 0 _ _ _ (lv_sub hl [2, 1, 0] rfl) hU hS (by omega) (Nat.lt_succ_self _)
    | 7, htt =>
      cases htt
      refine lv_aload_n hx hb dX12_count_146 rfl (lv_at hl 1 rfl) ?_
      refine g_0_48 C hU hG (h1_0 hG) fl_X12_300 dX12_count_147 (fun x_45 e_46 le_46 ue_46 => ?_)
      have te_46 := congrArg Int32.toInt e_46
      exact hret (⟨hG, hF1, hF2, trivial⟩) hU hS dX12_count_150
    | 8, htt =>
      cases htt
      refine lv_aload_n hx hb dX12_count_151 rfl (lv_at hl 1 rfl) ?_
      refine g_0_5 C hU hG (h1_0 hG) fl_X12_175 dX12_count_152 (fun x_47 e_48 => ?_)
      have te_48 := congrArg Int32.toInt e_48
      exact hret (⟨hG, hF1, hF2, trivial⟩) hU hS dX12_count_155
    | q + 9, htt => simp at htt
