set_option maxHeartbeats 4000000 in
set_option maxRecDepth 100000 in
theorem c_X10_reach {l : Launch} {D : va_G} {cA : FieldType → ClassId} {sz : Nat} {al : Al} {iv : Iv} {rv : Rv} (hG : GI al iv rv) (fd : Int32) (pi : Nat) (hpi : pi < al.1 56) (time : Int32) (pre0 : 0 ≤ fd.toInt ∧ fd.toInt ≤ 40) (pre1 : ∀ k : Nat, (k : Int) < fd.toInt → ∃ j, rv 61 0 k = some j) : Met l yX10_reach (wd yX10_reach cX10_reach 7 (some .int)) (rm 0) (PcW D cA sz al iv rv [.ref (al.2 57 0), .int fd, .ref (al.2 56 pi), .int time]) (QI D cA sz al (fI al ([60, 61], []) iv rv (fun r iv' rv' => (0 ≤ r.toInt ∧ r.toInt ≤ 40) ∧ (fd.toInt ≤ r.toInt ∧ (∀ k : Nat, (k : Int) < r.toInt → ∃ j, rv' 61 0 k = some j))))) 0 0 (Aq sz) := by
  refine mk_i (by decide) (Nat.le_of_ble_eq_true rfl) rfl ?_
  intro p e s m args below meth c ls Q H locs C hU hS hl hret
  have hx := C.1.1
  have hb := C.1.2.1
  have hl : lv_has ls 7 [(0, .ref (al.2 57 0)), (1, .int fd), (2, .ref (al.2 56 pi)), (3, .int time)] := hl
  have hG0 := hG
  have hF1 : FR ([60, 61], []) iv iv := FR.rf
  have hF2 : FR ([60, 61], []) rv rv := FR.rf
  have k0 : (0 : Int32).toInt = 0 := by decide
  have k1 : (1 : Int32).toInt = 1 := by decide
  have k40 : (40 : Int32).toInt = 40 := by decide
  refine lv_iload_n hx hb dX10_reach_0 rfl (lv_at hl 1 rfl) ?_
  refine lv_istore (lv' := [(4, .int fd), (0, .ref (al.2 57 0)), (1, .int fd), (2, .ref (al.2 56 pi)), (3, .int time)]) hx hb dX10_reach_1 hl (by decide) rfl (fun ls hl => ?_)
  refine lv_iconst (v := 0) hx hb dX10_reach_3 (by decide) ?_
  refine lv_istore (lv' := [(5, .int 0), (4, .int fd), (0, .ref (al.2 57 0)), (1, .int fd), (2, .ref (al.2 56 pi)), (3, .int time)]) hx hb dX10_reach_4 hl (by decide) rfl (fun ls hl => ?_)
  have J_6 : ∀ (n_6 : Nat) (l4_1 : Int32) (l5_2 : Int32) (iv_3 : Iv) (rv_4 : Rv) (H : Heap) (locs : List Loc) (ls : Array Slot), lv_has ls 7 [(0, .ref (al.2 57 0)), (2, .ref (al.2 56 pi)), (3, .int time), (4, .int l4_1), (5, .int l5_2)] → GI al iv_3 rv_4 → FR ([60, 61], []) iv iv_3 → FR ([60, 61], []) rv rv_4 → UW D cA sz al iv_3 rv_4 H → va_S (Aq sz) s.heap H locs → (0 ≤ l4_1.toInt ∧ l4_1.toInt ≤ 40) → (0 ≤ l5_2.toInt ∧ l5_2.toInt ≤ 40) → fd.toInt ≤ l4_1.toInt → (∀ k : Nat, (k : Int) < l4_1.toInt → ∃ j, rv_4 61 0 k = some j) → (40 - l5_2.toInt).toNat < n_6 → W p l e (rm 0) s m args below meth c H locs 0 0 Q (F0 m 6 ls []) := by
    intro n_6
    induction n_6 with
    | zero =>
      intro l4_1 l5_2 iv_3 rv_4 H locs ls hl hG hF1 hF2 hU hS i6_0 i6_1 i6_2 i6_3 hm_6
      exact absurd hm_6 (Nat.not_lt_zero _)
    | succ n_6 ih_6 =>
      intro l4_1 l5_2 iv_3 rv_4 H locs ls hl hG hF1 hF2 hU hS i6_0 i6_1 i6_2 i6_3 hm_6
      refine lv_iload hx hb dX10_reach_6 (lv_at hl 4 rfl) ?_
      refine lv_aload_n hx hb dX10_reach_8 rfl (lv_at hl 0 rfl) ?_
      refine g_57_1 C hU hG (h1_57 hG) fl_X10_28 dX10_reach_9 (fun x_5 e_6 le_6 ue_6 => ?_)
      have te_6 := congrArg Int32.toInt e_6
      have ne_6 : x_5.toInt = (iv 57 0 1).toInt := by rw [e_6, hF1 57 0 1 (by decide)]
      refine b_icmp_ge (tgt := 96) hx hb dX10_reach_12 (by decide) (fun c_7 => ?_) (fun c_7 => ?_)
      ·
        refine lv_iload hx hb dX10_reach_96 (lv_at hl 3 rfl) ?_
        exact hret (⟨hG, hF1, hF2, ⟨⟨by omega, by omega⟩, ⟨by omega, i6_3⟩⟩⟩) hU hS dX10_reach_98
      ·
        refine lv_iload hx hb dX10_reach_15 (lv_at hl 3 rfl) ?_
        refine lv_bipush (v := 40) hx hb dX10_reach_17 (by decide) ?_
        refine b_icmp_ge (tgt := 96) hx hb dX10_reach_19 (by decide) (fun c_8 => ?_) (fun c_8 => ?_)
        ·
          refine lv_iload hx hb dX10_reach_96 (lv_at hl 3 rfl) ?_
          exact hret (⟨hG, hF1, hF2, ⟨⟨by omega, by omega⟩, ⟨by omega, i6_3⟩⟩⟩) hU hS dX10_reach_98
        ·
          refine lv_aload_n hx hb dX10_reach_22 rfl (lv_at hl 0 rfl) ?_
          refine g_57_0 C hU hG (h1_57 hG) fl_X10_13 dX10_reach_23 ?_
          refine lv_iload hx hb dX10_reach_26 (lv_at hl 4 rfl) ?_
          refine a_58 C hU hG (h1_58 hG) (x := l5_2) (by omega) (by omega) dX10_reach_28 (fun r_9 er_10 hb_11 => ?_)
          have ner_10 : r_9 = rv 58 0 (l5_2 : Int32).toNatClampNeg := by rw [er_10, hF2.arr 58 0 _ (by decide)]
          obtain ⟨j_12, ej_13⟩ : ∃ j, r_9 = some j := ⟨_, er_10.trans (tall hG (by omega) (by omega))⟩
          subst ej_13
          have hl : lv_has ls 7 [(0, .ref (al.2 57 0)), (2, .ref (al.2 56 pi)), (3, .int time), (4, .int l4_1), (5, .int l5_2)] := hl
          have hb_14 : j_12 < al.1 62 := hb_11 j_12 rfl
          refine lv_astore (lv' := [(6, .ref (al.2 62 j_12)), (0, .ref (al.2 57 0)), (2, .ref (al.2 56 pi)), (3, .int time), (4, .int l4_1), (5, .int l5_2)]) hx hb dX10_reach_29 hl (by decide) rfl (fun ls hl => ?_)
          refine lv_aload_n hx hb dX10_reach_31 rfl (lv_at hl 1 rfl) ?_
          refine g_57_3 C hU hG (h1_57 hG) fl_X10_21 dX10_reach_32 ?_
          refine lv_iload hx hb dX10_reach_35 (lv_at hl 5 rfl) ?_
          refine a_60 C hU hG (h1_60 hG) (x := l5_2) (by omega) (by omega) dX10_reach_37 (fun x_15 e_16 le_16 ue_16 => ?_)
          have te_16 := congrArg Int32.toInt e_16
          have J_90 : ∀ (l4_17 : Int32) (iv_18 : Iv) (rv_19 : Rv) (H : Heap) (locs : List Loc) (ls : Array Slot), lv_has ls 7 [(0, .ref (al.2 57 0)), (2, .ref (al.2 56 pi)), (3, .int time), (5, .int l5_2), (4, .int l4_17)] → GI al iv_18 rv_19 → FR ([60, 61], []) iv iv_18 → FR ([60, 61], []) rv rv_19 → UW D cA sz al iv_18 rv_19 H → va_S (Aq sz) s.heap H locs → (0 ≤ l4_17.toInt ∧ l4_17.toInt ≤ 40) → fd.toInt ≤ l4_17.toInt → (∀ k : Nat, (k : Int) < l4_17.toInt → ∃ j, rv_19 61 0 k = some j) → W p l e (rm 0) s m args below meth c H locs 0 0 Q (F0 m 90 ls []) := by
            intro l4_17 iv_18 rv_19 H locs ls hl hG hF1 hF2 hU hS i90_0 i90_1 i90_2
            obtain ⟨x_20, e_21⟩ : ∃ y : Int32, y = l5_2 + 1 := ⟨_, rfl⟩
            have te_21 : x_20.toInt = (l5_2 : Int32).toInt + (1 : Int32).toInt := by rw [e_21]; exact fb_addI (by omega) (by omega)
            refine lv_iinc (v := x_20) (lv' := [(5, .int x_20), (0, .ref (al.2 57 0)), (2, .ref (al.2 56 pi)), (3, .int time), (4, .int l4_17)]) hx hb dX10_reach_90 hl (k := 3) rfl (by rw [e_21]; rfl) (by decide) rfl (fun ls hl => ?_)
            refine lv_goto (tgt := 6) hx hb dX10_reach_93 (by decide) ?_
            exact ih_6 l4_17 x_20 _ _ _ _ _ (lv_sub hl [1, 2, 3, 4, 0] rfl) hG hF1 hF2 hU hS (by omega) (by omega) (by omega) (by first | exact pre1 | exact i90_2) (by omega)
          refine b_if_ne (tgt := 90) hx hb dX10_reach_38 (by decide) (fun c_22 => ?_) (fun c_22 => ?_)
          ·
            exact J_90 l4_1 _ _ _ _ _ (lv_sub hl [1, 2, 3, 5, 4] rfl) hG hF1 hF2 hU hS (by omega) (by omega) (by first | exact i6_3 | exact nn_put i6_3 True.intro (by omega) (by omega))
          ·
            refine lv_aload hx hb dX10_reach_41 (lv_at hl 0 rfl) ?_
            refine g_62_7 C hU hG hb_14 fl_X10_39 dX10_reach_43 (fun x_23 e_24 le_24 ue_24 => ?_)
            have te_24 := congrArg Int32.toInt e_24
            have ne_24 : x_23.toInt = (iv 62 j_12 7).toInt := by rw [e_24, hF1 62 j_12 7 (by decide)]
            refine b_if_eq (tgt := 90) hx hb dX10_reach_46 (by decide) (fun c_25 => ?_) (fun c_25 => ?_)
            ·
              exact J_90 l4_1 _ _ _ _ _ (lv_sub hl [1, 2, 3, 5, 4] rfl) hG hF1 hF2 hU hS (by omega) (by omega) (by first | exact i6_3 | exact nn_put i6_3 True.intro (by omega) (by omega))
            ·
              refine lv_aload hx hb dX10_reach_49 (lv_at hl 0 rfl) ?_
              refine g_62_1 C hU hG hb_14 fl_X10_56 dX10_reach_51 (fun j_26 ej_27 hb_28 => ?_)
              have nej_27 : rv 62 j_12 1 = some j_26 := (hF2 62 j_12 1 (by decide)).symm.trans ej_27
              refine lv_aload_n hx hb dX10_reach_54 rfl (lv_at hl 2 rfl) ?_
              refine b_acmp_ne (tgt := 90) hx hb hU hb_28 hpi dX10_reach_55 (by decide) (fun c_29 => ?_) (fun c_29 => ?_)
              ·
                exact J_90 l4_1 _ _ _ _ _ (lv_sub hl [1, 2, 3, 5, 4] rfl) hG hF1 hF2 hU hS (by omega) (by omega) (by first | exact i6_3 | exact nn_put i6_3 True.intro (by omega) (by omega))
              ·
                refine lv_aload hx hb dX10_reach_58 (lv_at hl 0 rfl) ?_
                refine g_62_10 C hU hG hb_14 fl_X10_101 dX10_reach_60 (fun x_30 e_31 => ?_)
                have te_31 := congrArg Int32.toInt e_31
                have ne_31 : x_30.toInt = (iv 62 j_12 10).toInt := by rw [e_31, hF1 62 j_12 10 (by decide)]
                refine lv_iload_n hx hb dX10_reach_63 rfl (lv_at hl 3 rfl) ?_
                refine b_icmp_ge (tgt := 70) hx hb dX10_reach_64 (by decide) (fun c_32 => ?_) (fun c_32 => ?_)
                ·
                  refine lv_aload_n hx hb dX10_reach_70 rfl (lv_at hl 1 rfl) ?_
                  refine g_57_3 C hU hG (h1_57 hG) fl_X10_21 dX10_reach_71 ?_
                  refine lv_iload hx hb dX10_reach_74 (lv_at hl 5 rfl) ?_
                  refine lv_iconst (v := 1) hx hb dX10_reach_76 (by decide) ?_
                  refine s_60 C hU hS (h1_60 hG) (x := l5_2) (by omega) (by omega) (by omega) (by omega) dX10_reach_77 (fun iv_33 H locs ei_34 hU hS => ?_)
                  have hG : GI al iv_33 rv_4 := by rw [ei_34]; exact hG.puti (show _ ∧ _ from ⟨show (0 : Int) ≤ _ by omega, show _ ≤ (1 : Int) by omega⟩) (nsA (by decide) _)
                  have hF1 : FR ([60, 61], []) iv iv_33 := by rw [ei_34]; exact hF1.put (Or.inl (by decide))
                  refine lv_aload_n hx hb dX10_reach_78 rfl (lv_at hl 1 rfl) ?_
                  refine g_57_4 C hU hG (h1_57 hG) fl_X10_25 dX10_reach_79 ?_
                  refine lv_iload hx hb dX10_reach_82 (lv_at hl 4 rfl) ?_
                  refine lv_aload hx hb dX10_reach_84 (lv_at hl 0 rfl) ?_
                  refine s_61 C hU hS (h1_61 hG) hb_14 (x := l4_1) (by omega) (by omega) dX10_reach_86 (fun rv_35 H locs er_36 hU hS => ?_)
                  have hG : GI al iv_33 rv_35 := by rw [er_36]; exact hG.putr rfl hb_14 (nsA (by decide) _)
                  have hF2 : FR ([60, 61], []) rv rv_35 := by rw [er_36]; exact hF2.put (Or.inl (by decide))
                  obtain ⟨x_37, e_38⟩ : ∃ y : Int32, y = l4_1 + 1 := ⟨_, rfl⟩
                  have te_38 : x_37.toInt = (l4_1 : Int32).toInt + (1 : Int32).toInt := by rw [e_38]; exact fb_addI (by omega) (by omega)
                  refine lv_iinc (v := x_37) (lv' := [(4, .int x_37), (6, .ref (al.2 62 j_12)), (0, .ref (al.2 57 0)), (2, .ref (al.2 56 pi)), (3, .int time), (5, .int l5_2)]) hx hb dX10_reach_87 hl (k := 4) rfl (by rw [e_38]; rfl) (by decide) rfl (fun ls hl => ?_)
                  exact J_90 x_37 _ _ _ _ _ (lv_sub hl [2, 3, 4, 5, 0] rfl) hG hF1 hF2 hU hS (by omega) (by omega) (by first | exact i6_3 | exact nn_put i6_3 er_36 (by omega) (by omega))
                ·
                  refine lv_goto (tgt := 90) hx hb dX10_reach_67 (by decide) ?_
                  exact J_90 l4_1 _ _ _ _ _ (lv_sub hl [1, 2, 3, 5, 4] rfl) hG hF1 hF2 hU hS (by omega) (by omega) (by first | exact i6_3 | exact nn_put i6_3 True.intro (by omega) (by omega))
  exact J_6 _ fd 0 _ _ _ _ _ (lv_sub hl [2, 4, 5, 1, 0] rfl) hG hF1 hF2 hU hS (by omega) (by omega) (by omega) (by first | exact pre1 | exact i90_2) (Nat.lt_succ_self _)
set_option maxHeartbeats 4000000 in
set_option maxRecDepth 100000 in
theorem c_X10_soonestBy {l : Launch} {D : va_G} {cA : FieldType → ClassId} {sz : Nat} {al : Al} {iv : Iv} {rv : Rv} (hG : GI al iv rv) (pi : Nat) (hpi : pi < al.1 56) (time : Int32) (pj : Nat) (hpj : pj < al.1 56) (conn : Int32) : Met l yX10_soonestBy (wd yX10_soonestBy cX10_soonestBy 9 (some .int)) (rm 1) (PcW D cA sz al iv rv [.ref (al.2 57 0), .ref (al.2 56 pi), .int time, .ref (al.2 56 pj), .int conn]) (QI D cA sz al (fI al ([60, 61], []) iv rv (fun r iv' rv' => True))) 0 0 (Aq sz) := by
  refine mk_i (by decide) (Nat.le_of_ble_eq_true rfl) rfl ?_
  intro p e s m args below meth c ls Q H locs C hU hS hl hret
  have hx := C.1.1
  have hb := C.1.2.1
  have hl : lv_has ls 9 [(0, .ref (al.2 57 0)), (1, .ref (al.2 56 pi)), (2, .int time), (3, .ref (al.2 56 pj)), (4, .int conn)] := hl
  have hG0 := hG
  have hF1 : FR ([60, 61], []) iv iv := FR.rf
  have hF2 : FR ([60, 61], []) rv rv := FR.rf
  have km9 : ((-9) : Int32).toInt = -9 := by decide
  have k0 : (0 : Int32).toInt = 0 := by decide
  have k1 : (1 : Int32).toInt = 1 := by decide
  have k40 : (40 : Int32).toInt = 40 := by decide
  refine lv_iconst (v := 0) hx hb dX10_soonestBy_0 (by decide) ?_
  refine lv_istore (lv' := [(5, .int 0), (0, .ref (al.2 57 0)), (1, .ref (al.2 56 pi)), (2, .int time), (3, .ref (al.2 56 pj)), (4, .int conn)]) hx hb dX10_soonestBy_1 hl (by decide) rfl (fun ls hl => ?_)
  have J_3 : ∀ (n_3 : Nat) (l5_1 : Int32) (iv_2 : Iv) (rv_3 : Rv) (H : Heap) (locs : List Loc) (ls : Array Slot), lv_has ls 9 [(0, .ref (al.2 57 0)), (1, .ref (al.2 56 pi)), (2, .int time), (3, .ref (al.2 56 pj)), (4, .int conn), (5, .int l5_1)] → GI al iv_2 rv_3 → FR ([60, 61], []) iv iv_2 → FR ([60, 61], []) rv rv_3 → UW D cA sz al iv_2 rv_3 H → va_S (Aq sz) s.heap H locs → (0 ≤ l5_1.toInt ∧ l5_1.toInt ≤ 40) → (40 - l5_1.toInt).toNat < n_3 → W p l e (rm 1) s m args below meth c H locs 0 0 Q (F0 m 3 ls []) := by
    intro n_3
    induction n_3 with
    | zero =>
      intro l5_1 iv_2 rv_3 H locs ls hl hG hF1 hF2 hU hS i3_0 hm_3
      exact absurd hm_3 (Nat.not_lt_zero _)
    | succ n_3 ih_3 =>
      intro l5_1 iv_2 rv_3 H locs ls hl hG hF1 hF2 hU hS i3_0 hm_3
      refine lv_iload hx hb dX10_soonestBy_3 (lv_at hl 5 rfl) ?_
      refine lv_aload_n hx hb dX10_soonestBy_5 rfl (lv_at hl 0 rfl) ?_
      refine g_57_1 C hU hG (h1_57 hG) fl_X10_28 dX10_soonestBy_6 (fun x_4 e_5 le_5 ue_5 => ?_)
      have te_5 := congrArg Int32.toInt e_5
      have ne_5 : x_4.toInt = (iv 57 0 1).toInt := by rw [e_5, hF1 57 0 1 (by decide)]
      refine b_icmp_ge (tgt := 26) hx hb dX10_soonestBy_9 (by decide) (fun c_6 => ?_) (fun c_6 => ?_)
      ·
        refine lv_aload_n hx hb dX10_soonestBy_26 rfl (lv_at hl 0 rfl) ?_
        refine lv_iconst (v := 0) hx hb dX10_soonestBy_27 (by decide) ?_
        refine lv_aload_n hx hb dX10_soonestBy_28 rfl (lv_at hl 1 rfl) ?_
        refine lv_iload_n hx hb dX10_soonestBy_29 rfl (lv_at hl 2 rfl) ?_
        refine q_fi (q_runV (t := 57) (i := 0) (As := [.int 0, .ref (al.2 56 pi), .int time]) (rest := []) C hU (c_X10_reach hG 0 (pi) hpi time (by omega) (fun k hk => by exfalso; omega)) vm_X10_reach ml_X10_94 k_57.1 (hc := rfl) rfl (h1_57 hG) hl.1 rfl rfl (Nat.le_of_ble_eq_true rfl) dX10_soonestBy_30 rfl rfl ⟨Nat.le_of_ble_eq_true rfl, Nat.le_of_ble_eq_true rfl⟩ ⟨Nat.le_refl _, Nat.le_refl _⟩) hS (fun x_12 iv_8 rv_9 H locs hG fa_10 fb_11 hp_7 hU hS => ?_)
        have hF1 := hF1.tr (m := ([60, 61], [])) fa_10 (by decide)
        have hF2 := hF2.tr (m := ([60, 61], [])) fb_11 (by decide)
        refine lv_istore (lv' := [(5, .int x_12), (0, .ref (al.2 57 0)), (1, .ref (al.2 56 pi)), (2, .int time), (3, .ref (al.2 56 pj)), (4, .int conn)]) hx hb dX10_soonestBy_33 hl (by decide) rfl (fun ls hl => ?_)
        refine lv_bipush (v := (-9)) hx hb dX10_soonestBy_35 (by decide) ?_
        refine lv_istore (lv' := [(6, .int (-9)), (5, .int x_12), (0, .ref (al.2 57 0)), (1, .ref (al.2 56 pi)), (2, .int time), (3, .ref (al.2 56 pj)), (4, .int conn)]) hx hb dX10_soonestBy_37 hl (by decide) rfl (fun ls hl => ?_)
        refine lv_iconst (v := 0) hx hb dX10_soonestBy_39 (by decide) ?_
        refine lv_istore (lv' := [(7, .int 0), (6, .int (-9)), (5, .int x_12), (0, .ref (al.2 57 0)), (1, .ref (al.2 56 pi)), (2, .int time), (3, .ref (al.2 56 pj)), (4, .int conn)]) hx hb dX10_soonestBy_40 hl (by decide) rfl (fun ls hl => ?_)
        have J_42 : ∀ (n_42 : Nat) (l5_13 : Int32) (l6_14 : Int32) (l7_15 : Int32) (iv_16 : Iv) (rv_17 : Rv) (H : Heap) (locs : List Loc) (ls : Array Slot), lv_has ls 9 [(0, .ref (al.2 57 0)), (3, .ref (al.2 56 pj)), (4, .int conn), (5, .int l5_13), (6, .int l6_14), (7, .int l7_15)] → GI al iv_16 rv_17 → FR ([60, 61], []) iv iv_16 → FR ([60, 61], []) rv rv_17 → UW D cA sz al iv_16 rv_17 H → va_S (Aq sz) s.heap H locs → (0 ≤ l5_13.toInt ∧ l5_13.toInt ≤ 40) → (0 ≤ l7_15.toInt ∧ l7_15.toInt ≤ 40) → (∀ k : Nat, (k : Int) < l5_13.toInt → ∃ j, rv_17 61 0 k = some j) → (40 - l7_15.toInt).toNat < n_42 → W p l e (rm 1) s m args below meth c H locs 0 0 Q (F0 m 42 ls []) := by
          intro n_42
          induction n_42 with
          | zero =>
            intro l5_13 l6_14 l7_15 iv_16 rv_17 H locs ls hl hG hF1 hF2 hU hS i42_0 i42_1 i42_2 hm_42
            exact absurd hm_42 (Nat.not_lt_zero _)
          | succ n_42 ih_42 =>
            intro l5_13 l6_14 l7_15 iv_16 rv_17 H locs ls hl hG hF1 hF2 hU hS i42_0 i42_1 i42_2 hm_42
            refine lv_iload hx hb dX10_soonestBy_42 (lv_at hl 5 rfl) ?_
            refine lv_iload hx hb dX10_soonestBy_44 (lv_at hl 3 rfl) ?_
            refine b_icmp_ge (tgt := 125) hx hb dX10_soonestBy_46 (by decide) (fun c_18 => ?_) (fun c_18 => ?_)
            ·
              refine lv_iload hx hb dX10_soonestBy_125 (lv_at hl 4 rfl) ?_
              exact hret (⟨hG, hF1, hF2, trivial⟩) hU hS dX10_soonestBy_127
            ·
              refine lv_iload hx hb dX10_soonestBy_49 (lv_at hl 5 rfl) ?_
              refine lv_bipush (v := 40) hx hb dX10_soonestBy_51 (by decide) ?_
              refine b_icmp_ge (tgt := 125) hx hb dX10_soonestBy_53 (by decide) (fun c_19 => ?_) (fun c_19 => ?_)
              ·
                refine lv_iload hx hb dX10_soonestBy_125 (lv_at hl 4 rfl) ?_
                exact hret (⟨hG, hF1, hF2, trivial⟩) hU hS dX10_soonestBy_127
              ·
                refine lv_aload_n hx hb dX10_soonestBy_56 rfl (lv_at hl 0 rfl) ?_
                refine g_57_4 C hU hG (h1_57 hG) fl_X10_25 dX10_soonestBy_57 ?_
                refine lv_iload hx hb dX10_soonestBy_60 (lv_at hl 5 rfl) ?_
                refine a_61 C hU hG (h1_61 hG) (x := l7_15) (by omega) (by omega) dX10_soonestBy_62 (fun r_20 er_21 hb_22 => ?_)
                obtain ⟨j_23, ej_24⟩ : ∃ j, r_20 = some j := (i42_2 _ (by have := ix_nat (x := l7_15) (by omega); omega)).imp (fun _ h => er_21.trans h)
                subst ej_24
                have hl : lv_has ls 9 [(0, .ref (al.2 57 0)), (3, .ref (al.2 56 pj)), (4, .int conn), (5, .int l5_13), (6, .int l6_14), (7, .int l7_15)] := hl
                have hb_25 : j_23 < al.1 62 := hb_22 j_23 rfl
                refine lv_astore (lv' := [(8, .ref (al.2 62 j_23)), (0, .ref (al.2 57 0)), (3, .ref (al.2 56 pj)), (4, .int conn), (5, .int l5_13), (6, .int l6_14), (7, .int l7_15)]) hx hb dX10_soonestBy_63 hl (by decide) rfl (fun ls hl => ?_)
                refine lv_aload hx hb dX10_soonestBy_65 (lv_at hl 0 rfl) ?_
                refine g_62_2 C hU hG hb_25 fl_X10_52 dX10_soonestBy_67 (fun j_26 ej_27 hb_28 => ?_)
                have nej_27 : rv 62 j_23 2 = some j_26 := (hF2 62 j_23 2 (by decide)).symm.trans ej_27
                refine lv_aload_n hx hb dX10_soonestBy_70 rfl (lv_at hl 2 rfl) ?_
                have J_98 : ∀ (l6_29 : Int32) (ls : Array Slot), lv_has ls 9 [(0, .ref (al.2 57 0)), (3, .ref (al.2 56 pj)), (4, .int conn), (5, .int l5_13), (7, .int l7_15), (8, .ref (al.2 62 j_23)), (6, .int l6_29)] → W p l e (rm 1) s m args below meth c H locs 0 0 Q (F0 m 98 ls []) := by
                  intro l6_29 ls hl
                  refine lv_aload_n hx hb dX10_soonestBy_98 rfl (lv_at hl 0 rfl) ?_
                  refine lv_iload hx hb dX10_soonestBy_99 (lv_at hl 3 rfl) ?_
                  refine lv_aload hx hb dX10_soonestBy_101 (lv_at hl 5 rfl) ?_
                  refine g_62_2 C hU hG hb_25 fl_X10_52 dX10_soonestBy_103 (fun j_30 ej_31 hb_32 => ?_)
                  have nej_31 : rv 62 j_23 2 = some j_30 := (hF2 62 j_23 2 (by decide)).symm.trans ej_31
                  refine lv_aload hx hb dX10_soonestBy_106 (lv_at hl 5 rfl) ?_
                  refine g_62_11 C hU hG hb_25 fl_X10_98 dX10_soonestBy_108 (fun x_33 e_34 => ?_)
                  have te_34 := congrArg Int32.toInt e_34
                  have ne_34 : x_33.toInt = (iv 62 j_23 11).toInt := by rw [e_34, hF1 62 j_23 11 (by decide)]
                  refine lv_iload hx hb dX10_soonestBy_111 (lv_at hl 2 rfl) ?_
                  refine lv_iadd hx hb dX10_soonestBy_113 ?_
                  refine lv_topi (fun x_35 e_36 => ?_)
                  refine q_fi (q_runV (t := 57) (i := 0) (As := [.int l5_13, .ref (al.2 56 j_30), .int x_35]) (rest := []) C hU (c_X10_reach hG l5_13 (j_30) hb_32 x_35 (by omega) (i42_2)) vm_X10_reach ml_X10_94 k_57.1 (hc := rfl) rfl (h1_57 hG) hl.1 rfl rfl (Nat.le_of_ble_eq_true rfl) dX10_soonestBy_114 rfl rfl ⟨Nat.le_of_ble_eq_true rfl, Nat.le_of_ble_eq_true rfl⟩ ⟨Nat.le_refl _, Nat.le_refl _⟩) hS (fun x_42 iv_38 rv_39 H locs hG fa_40 fb_41 hp_37 hU hS => ?_)
                  have hF1 := hF1.tr (m := ([60, 61], [])) fa_40 (by decide)
                  have hF2 := hF2.tr (m := ([60, 61], [])) fb_41 (by decide)
                  refine lv_istore (lv' := [(5, .int x_42), (0, .ref (al.2 57 0)), (3, .ref (al.2 56 pj)), (4, .int conn), (7, .int l7_15), (8, .ref (al.2 62 j_23)), (6, .int l6_29)]) hx hb dX10_soonestBy_117 hl (by decide) rfl (fun ls hl => ?_)
                  obtain ⟨x_43, e_44⟩ : ∃ y : Int32, y = l7_15 + 1 := ⟨_, rfl⟩
                  have te_44 : x_43.toInt = (l7_15 : Int32).toInt + (1 : Int32).toInt := by rw [e_44]; exact fb_addI (by omega) (by omega)
                  refine lv_iinc (v := x_43) (lv' := [(7, .int x_43), (5, .int x_42), (0, .ref (al.2 57 0)), (3, .ref (al.2 56 pj)), (4, .int conn), (8, .ref (al.2 62 j_23)), (6, .int l6_29)]) hx hb dX10_soonestBy_119 hl (k := 4) rfl (by rw [e_44]; rfl) (by decide) rfl (fun ls hl => ?_)
                  refine lv_goto (tgt := 42) hx hb dX10_soonestBy_122 (by decide) ?_
                  exact ih_42 x_42 l6_29 x_43 _ _ _ _ _ (lv_sub hl [2, 3, 4, 1, 6, 0] rfl) hG hF1 hF2 hU hS (by omega) (by omega) (by first | exact hp_37.2.2 | exact hp_7.2.2) (by omega)
                refine b_acmp_ne (tgt := 98) hx hb hU hb_28 hpj dX10_soonestBy_71 (by decide) (fun c_45 => ?_) (fun c_45 => ?_)
                ·
                  exact J_98 l6_14 _ (lv_sub hl [1, 2, 3, 4, 6, 0, 5] rfl)
                ·
                  refine lv_iload hx hb dX10_soonestBy_74 (lv_at hl 5 rfl) ?_
                  refine lv_bipush (v := (-9)) hx hb dX10_soonestBy_76 (by decide) ?_
                  have J_91 : ∀ (ls : Array Slot), lv_has ls 9 [(0, .ref (al.2 57 0)), (3, .ref (al.2 56 pj)), (4, .int conn), (5, .int l5_13), (7, .int l7_15), (8, .ref (al.2 62 j_23))] → W p l e (rm 1) s m args below meth c H locs 0 0 Q (F0 m 91 ls []) := by
                    intro ls hl
                    refine lv_aload hx hb dX10_soonestBy_91 (lv_at hl 5 rfl) ?_
                    refine g_62_11 C hU hG hb_25 fl_X10_98 dX10_soonestBy_93 (fun x_46 e_47 => ?_)
                    have te_47 := congrArg Int32.toInt e_47
                    have ne_47 : x_46.toInt = (iv 62 j_23 11).toInt := by rw [e_47, hF1 62 j_23 11 (by decide)]
                    refine lv_istore (lv' := [(6, .int x_46), (0, .ref (al.2 57 0)), (3, .ref (al.2 56 pj)), (4, .int conn), (5, .int l5_13), (7, .int l7_15), (8, .ref (al.2 62 j_23))]) hx hb dX10_soonestBy_96 hl (by decide) rfl (fun ls hl => ?_)
                    exact J_98 x_46 _ (lv_sub hl [1, 2, 3, 4, 5, 6, 0] rfl)
                  refine b_icmp_eq (tgt := 91) hx hb dX10_soonestBy_78 (by decide) (fun c_48 => ?_) (fun c_48 => ?_)
                  ·
                    exact J_91 _ (lv_sub hl [1, 2, 3, 4, 6, 0] rfl)
                  ·
                    refine lv_aload hx hb dX10_soonestBy_81 (lv_at hl 0 rfl) ?_
                    refine g_62_11 C hU hG hb_25 fl_X10_98 dX10_soonestBy_83 (fun x_49 e_50 => ?_)
                    have te_50 := congrArg Int32.toInt e_50
                    have ne_50 : x_49.toInt = (iv 62 j_23 11).toInt := by rw [e_50, hF1 62 j_23 11 (by decide)]
                    refine lv_iload hx hb dX10_soonestBy_86 (lv_at hl 5 rfl) ?_
                    refine b_icmp_ge (tgt := 98) hx hb dX10_soonestBy_88 (by decide) (fun c_51 => ?_) (fun c_51 => ?_)
                    ·
                      exact J_98 l6_14 _ (lv_sub hl [1, 2, 3, 4, 6, 0, 5] rfl)
                    ·
                      exact J_91 _ (lv_sub hl [1, 2, 3, 4, 6, 0] rfl)
        exact J_42 _ x_12 (-9) 0 _ _ _ _ _ (lv_sub hl [3, 6, 7, 2, 1, 0] rfl) hG hF1 hF2 hU hS (by omega) (by omega) (by first | exact True.intro.2.2 | exact hp_7.2.2) (Nat.lt_succ_self _)
      ·
        refine lv_aload_n hx hb dX10_soonestBy_12 rfl (lv_at hl 0 rfl) ?_
        refine g_57_3 C hU hG (h1_57 hG) fl_X10_21 dX10_soonestBy_13 ?_
        refine lv_iload hx hb dX10_soonestBy_16 (lv_at hl 5 rfl) ?_
        refine lv_iconst (v := 0) hx hb dX10_soonestBy_18 (by decide) ?_
        refine s_60 C hU hS (h1_60 hG) (x := l5_1) (by omega) (by omega) (by omega) (by omega) dX10_soonestBy_19 (fun iv_52 H locs ei_53 hU hS => ?_)
        have hG : GI al iv_52 rv_3 := by rw [ei_53]; exact hG.puti (show _ ∧ _ from ⟨show (0 : Int) ≤ _ by omega, show _ ≤ (1 : Int) by omega⟩) (nsA (by decide) _)
        have hF1 : FR ([60, 61], []) iv iv_52 := by rw [ei_53]; exact hF1.put (Or.inl (by decide))
        obtain ⟨x_54, e_55⟩ : ∃ y : Int32, y = l5_1 + 1 := ⟨_, rfl⟩
        have te_55 : x_54.toInt = (l5_1 : Int32).toInt + (1 : Int32).toInt := by rw [e_55]; exact fb_addI (by omega) (by omega)
        refine lv_iinc (v := x_54) (lv' := [(5, .int x_54), (0, .ref (al.2 57 0)), (1, .ref (al.2 56 pi)), (2, .int time), (3, .ref (al.2 56 pj)), (4, .int conn)]) hx hb dX10_soonestBy_20 hl (k := 5) rfl (by rw [e_55]; rfl) (by decide) rfl (fun ls hl => ?_)
        refine lv_goto (tgt := 3) hx hb dX10_soonestBy_23 (by decide) ?_
        exact ih_3 x_54 _ _ _ _ _ (lv_sub hl [1, 2, 3, 4, 5, 0] rfl) hG hF1 hF2 hU hS (by omega) (by omega)
  exact J_3 _ 0 _ _ _ _ _ (lv_sub hl [1, 2, 3, 4, 5, 0] rfl) hG hF1 hF2 hU hS (by omega) (Nat.lt_succ_self _)
set_option maxHeartbeats 4000000 in
set_option maxRecDepth 100000 in
theorem c_X8_isFollowedBy {l : Launch} {D : va_G} {cA : FieldType → ClassId} {sz : Nat} {al : Al} {iv : Iv} {rv : Rv} (hG : GI al iv rv) (ti : Nat) (hti : ti < al.1 65) (li : Nat) (hli : li < al.1 62) (conn : Int32) : Met l yX8_isFollowedBy (wd yX8_isFollowedBy cX8_isFollowedBy 3 (some .boolean)) (rm 0) (PcW D cA sz al iv rv [.ref (al.2 65 ti), .ref (al.2 62 li), .int conn]) (QI D cA sz al (pI iv rv (fun r => (0 ≤ r.toInt ∧ r.toInt ≤ 1) ∧ (True)))) 0 0 (Aq sz) := by
  refine mk_z (by decide) (Nat.le_of_ble_eq_true rfl) rfl ?_
  intro p e s m args below meth c ls Q H locs C hU hS hl hret
  have hx := C.1.1
  have hb := C.1.2.1
  have hl : lv_has ls 3 [(0, .ref (al.2 65 ti)), (1, .ref (al.2 62 li)), (2, .int conn)] := hl
  have hG0 := hG
  have k0 : (0 : Int32).toInt = 0 := by decide
  have k1 : (1 : Int32).toInt = 1 := by decide
  refine lv_aload_n hx hb dX8_isFollowedBy_0 rfl (lv_at hl 1 rfl) ?_
  refine g_62_1 C hU hG hli fl_X8_35 dX8_isFollowedBy_1 (fun j_1 ej_2 hb_3 => ?_)
  refine lv_aload_n hx hb dX8_isFollowedBy_4 rfl (lv_at hl 0 rfl) ?_
  refine g_65_2 C hU hG hti fl_X8_19 dX8_isFollowedBy_5 (fun j_4 ej_5 hb_6 => ?_)
  refine g_62_2 C hU hG hb_6 fl_X8_39 dX8_isFollowedBy_8 (fun j_7 ej_8 hb_9 => ?_)
  refine b_acmp_ne (tgt := 34) hx hb hU hb_3 hb_9 dX8_isFollowedBy_11 (by decide) (fun c_10 => ?_) (fun c_10 => ?_)
  ·
    refine lv_iconst (v := 0) hx hb dX8_isFollowedBy_34 (by decide) ?_
    exact hret (by omega) (by omega) (⟨rfl, rfl, ⟨⟨by omega, by omega⟩, trivial⟩⟩) hU hS dX8_isFollowedBy_35
  ·
    refine lv_aload_n hx hb dX8_isFollowedBy_14 rfl (lv_at hl 1 rfl) ?_
    refine g_62_5 C hU hG hli fl_X8_42 dX8_isFollowedBy_15 (fun x_11 e_12 le_12 ue_12 => ?_)
    have te_12 := congrArg Int32.toInt e_12
    refine lv_aload_n hx hb dX8_isFollowedBy_18 rfl (lv_at hl 0 rfl) ?_
    refine g_65_2 C hU hG hti fl_X8_19 dX8_isFollowedBy_19 (fun j_13 ej_14 hb_15 => ?_)
    refine g_62_6 C hU hG hb_15 fl_X8_45 dX8_isFollowedBy_22 (fun x_16 e_17 le_17 ue_17 => ?_)
    have te_17 := congrArg Int32.toInt e_17
    refine lv_isub hx hb dX8_isFollowedBy_25 ?_
    refine lv_topi (fun x_18 e_19 => ?_)
    have te_19 : x_18.toInt = (x_11 : Int32).toInt - (x_16 : Int32).toInt := by rw [e_19]; exact fb_subI (by omega) (by omega)
    refine lv_iload_n hx hb dX8_isFollowedBy_26 rfl (lv_at hl 2 rfl) ?_
    refine b_icmp_lt (tgt := 34) hx hb dX8_isFollowedBy_27 (by decide) (fun c_20 => ?_) (fun c_20 => ?_)
    ·
      refine lv_iconst (v := 0) hx hb dX8_isFollowedBy_34 (by decide) ?_
      exact hret (by omega) (by omega) (⟨rfl, rfl, ⟨⟨by omega, by omega⟩, trivial⟩⟩) hU hS dX8_isFollowedBy_35
    ·
      refine lv_iconst (v := 1) hx hb dX8_isFollowedBy_30 (by decide) ?_
      refine lv_goto (tgt := 35) hx hb dX8_isFollowedBy_31 (by decide) ?_
      exact hret (by omega) (by omega) (⟨rfl, rfl, ⟨⟨by omega, by omega⟩, trivial⟩⟩) hU hS dX8_isFollowedBy_35
set_option maxHeartbeats 4000000 in
set_option maxRecDepth 100000 in
theorem c_X8_add {l : Launch} {D : va_G} {cA : FieldType → ClassId} {sz : Nat} {al : Al} {iv : Iv} {rv : Rv} (hG : GI al iv rv) (ti : Nat) (hti : ti < al.1 65) (li : Nat) (hli : li < al.1 62) (pre0 : (iv 65 ti 4).toInt < 4) : Met l yX8_add (wd yX8_add cX8_add 2 none) (rm 0) (PcW D cA sz al iv rv [.ref (al.2 65 ti), .ref (al.2 62 li)]) (QV D cA sz al (fV al ([66], [(65, 2), (65, 4)]) iv rv (fun iv' rv' => True))) 0 0 (Aq sz) := by
  refine mk_v (by decide) (Nat.le_of_ble_eq_true rfl) rfl ?_
  intro p e s m args below meth c ls Q H locs C hU hS hl hret
  have hx := C.1.1
  have hb := C.1.2.1
  have hl : lv_has ls 2 [(0, .ref (al.2 65 ti)), (1, .ref (al.2 62 li))] := hl
  have hG0 := hG
  have hF1 : FR ([66], [(65, 2), (65, 4)]) iv iv := FR.rf
  have hF2 : FR ([66], [(65, 2), (65, 4)]) rv rv := FR.rf
  have k1 : (1 : Int32).toInt = 1 := by decide
  refine lv_aload_n hx hb dX8_add_0 rfl (lv_at hl 0 rfl) ?_
  refine g_65_3 C hU hG hti fl_X8_24 dX8_add_1 (fun hb_1 => ?_)
  refine lv_aload_n hx hb dX8_add_4 rfl (lv_at hl 0 rfl) ?_
  refine g_65_4 C hU hG hti fl_X8_28 dX8_add_5 (fun x_2 e_3 le_3 ue_3 => ?_)
  have te_3 := congrArg Int32.toInt e_3
  refine lv_aload_n hx hb dX8_add_8 rfl (lv_at hl 1 rfl) ?_
  refine s_66 C hU hS hb_1 hli (x := x_2) (by omega) (by omega) dX8_add_9 (fun rv_4 H locs er_5 hU hS => ?_)
  have hG : GI al iv rv_4 := by rw [er_5]; exact hG.put66 hli
  have hF2 : FR ([66], [(65, 2), (65, 4)]) rv rv_4 := by rw [er_5]; exact hF2.put (Or.inl (by decide))
  refine lv_aload_n hx hb dX8_add_10 rfl (lv_at hl 0 rfl) ?_
  refine lv_aload_n hx hb dX8_add_11 rfl (lv_at hl 1 rfl) ?_
  refine p_65_2 C hU hS hti fl_X8_19 dX8_add_12 (fun rv_6 H locs er_7 hU hS => ?_)
  have hG : GI al iv rv_6 := by rw [er_7]; exact hG.putr rfl hli (nsF (by decide))
  have hF2 : FR ([66], [(65, 2), (65, 4)]) rv rv_6 := by rw [er_7]; exact hF2.put (by decide)
  refine lv_aload_n hx hb dX8_add_15 rfl (lv_at hl 0 rfl) ?_
  refine lv_dup hx hb dX8_add_16 rfl ?_
  refine g_65_4 C hU hG hti fl_X8_28 dX8_add_17 (fun x_8 e_9 le_9 ue_9 => ?_)
  have te_9 := congrArg Int32.toInt e_9
  refine lv_iconst (v := 1) hx hb dX8_add_20 (by decide) ?_
  refine lv_iadd hx hb dX8_add_21 ?_
  refine lv_topi (fun x_10 e_11 => ?_)
  have te_11 : x_10.toInt = (x_8 : Int32).toInt + (1 : Int32).toInt := by rw [e_11]; exact fb_addI (by omega) (by omega)
  refine p_65_4 C hU hS hti fl_X8_28 dX8_add_22 (fun iv_12 H locs ei_13 hU hS => ?_)
  have hG : GI al iv_12 rv_6 := by rw [ei_13]; exact hG.put65 (x := x_8) (j := li) ⟨by omega, by omega⟩ (by omega) (by omega) (by omega) (by rw [er_7, up3_ne (fun z => absurd z.1 (by decide)), er_5, clamp_eq (show x_8.toInt = x_2.toInt by omega)]; exact up3_self _ _ _ _ _)
  have hF1 : FR ([66], [(65, 2), (65, 4)]) iv iv_12 := by rw [ei_13]; exact hF1.put (by decide)
  exact hret (⟨hG, hF1, hF2, trivial⟩) hU hS dX8_add_25
set_option maxHeartbeats 4000000 in
set_option maxRecDepth 100000 in
theorem c_X8_missedPlace {l : Launch} {D : va_G} {cA : FieldType → ClassId} {sz : Nat} {al : Al} {iv : Iv} {rv : Rv} (hG : GI al iv rv) (ti : Nat) (hti : ti < al.1 65) (conn : Int32) : Met l yX8_missedPlace (wd yX8_missedPlace cX8_missedPlace 3 (some .int)) (rm 0) (PcW D cA sz al iv rv [.ref (al.2 65 ti), .int conn]) (QI D cA sz al (pI iv rv (fun r => (-9 ≤ r.toInt ∧ r.toInt ≤ 3) ∧ (r.toInt = -9 ∨ (0 ≤ r.toInt ∧ r.toInt < (iv 65 ti 4).toInt))))) 0 0 (Aq sz) := by
  refine mk_i (by decide) (Nat.le_of_ble_eq_true rfl) rfl ?_
  intro p e s m args below meth c ls Q H locs C hU hS hl hret
  have hx := C.1.1
  have hb := C.1.2.1
  have hl : lv_has ls 3 [(0, .ref (al.2 65 ti)), (1, .int conn)] := hl
  have hG0 := hG
  have km9 : ((-9) : Int32).toInt = -9 := by decide
  have k0 : (0 : Int32).toInt = 0 := by decide
  have k1 : (1 : Int32).toInt = 1 := by decide
  refine lv_iconst (v := 0) hx hb dX8_missedPlace_0 (by decide) ?_
  refine lv_istore_n (lv' := [(2, .int 0), (0, .ref (al.2 65 ti)), (1, .int conn)]) hx hb dX8_missedPlace_1 rfl hl (by decide) rfl (fun ls hl => ?_)
  have J_2 : ∀ (n_2 : Nat) (l2_1 : Int32) (ls : Array Slot), lv_has ls 3 [(0, .ref (al.2 65 ti)), (1, .int conn), (2, .int l2_1)] → (0 ≤ l2_1.toInt ∧ l2_1.toInt ≤ 4) → (4 - l2_1.toInt).toNat < n_2 → W p l e (rm 0) s m args below meth c H locs 0 0 Q (F0 m 2 ls []) := by
    intro n_2
    induction n_2 with
    | zero =>
      intro l2_1 ls hl i2_0 hm_2
      exact absurd hm_2 (Nat.not_lt_zero _)
    | succ n_2 ih_2 =>
      intro l2_1 ls hl i2_0 hm_2
      refine lv_iload_n hx hb dX8_missedPlace_2 rfl (lv_at hl 2 rfl) ?_
      refine lv_aload_n hx hb dX8_missedPlace_3 rfl (lv_at hl 0 rfl) ?_
      refine g_65_4 C hU hG hti fl_X8_28 dX8_missedPlace_4 (fun x_2 e_3 le_3 ue_3 => ?_)
      have te_3 := congrArg Int32.toInt e_3
      refine b_icmp_ge (tgt := 61) hx hb dX8_missedPlace_7 (by decide) (fun c_4 => ?_) (fun c_4 => ?_)
      ·
        refine lv_bipush (v := (-9)) hx hb dX8_missedPlace_61 (by decide) ?_
        exact hret (⟨rfl, rfl, ⟨⟨by omega, by omega⟩, by omega⟩⟩) hU hS dX8_missedPlace_63
      ·
        refine lv_aload_n hx hb dX8_missedPlace_10 rfl (lv_at hl 0 rfl) ?_
        refine g_65_3 C hU hG hti fl_X8_24 dX8_missedPlace_11 (fun hb_5 => ?_)
        refine lv_iload_n hx hb dX8_missedPlace_14 rfl (lv_at hl 2 rfl) ?_
        refine a_66 C hU hG hb_5 (x := l2_1) (by omega) (by omega) dX8_missedPlace_15 (fun r_6 er_7 hb_8 => ?_)
        obtain ⟨j_9, ej_10⟩ : ∃ j, r_6 = some j := (tleg hG hti (by omega) (by omega)).imp (fun _ h => er_7.trans h)
        subst ej_10
        have hl : lv_has ls 3 [(0, .ref (al.2 65 ti)), (1, .int conn), (2, .int l2_1)] := hl
        have hb_11 : j_9 < al.1 62 := hb_8 j_9 rfl
        refine g_62_7 C hU hG hb_11 fl_X8_48 dX8_missedPlace_16 (fun x_12 e_13 le_13 ue_13 => ?_)
        have te_13 := congrArg Int32.toInt e_13
        refine b_if_ne (tgt := 24) hx hb dX8_missedPlace_19 (by decide) (fun c_14 => ?_) (fun c_14 => ?_)
        ·
          refine lv_iload_n hx hb dX8_missedPlace_24 rfl (lv_at hl 2 rfl) ?_
          have J_55 : ∀ (ls : Array Slot), lv_has ls 3 [(0, .ref (al.2 65 ti)), (1, .int conn), (2, .int l2_1)] → W p l e (rm 0) s m args below meth c H locs 0 0 Q (F0 m 55 ls []) := by
            intro ls hl
            obtain ⟨x_15, e_16⟩ : ∃ y : Int32, y = l2_1 + 1 := ⟨_, rfl⟩
            have te_16 : x_15.toInt = (l2_1 : Int32).toInt + (1 : Int32).toInt := by rw [e_16]; exact fb_addI (by omega) (by omega)
            refine lv_iinc (v := x_15) (lv' := [(2, .int x_15), (0, .ref (al.2 65 ti)), (1, .int conn)]) hx hb dX8_missedPlace_55 hl (k := 2) rfl (by rw [e_16]; rfl) (by decide) rfl (fun ls hl => ?_)
            refine lv_goto (tgt := 2) hx hb dX8_missedPlace_58 (by decide) ?_
            exact ih_2 x_15 _ (lv_sub hl [1, 2, 0] rfl) (by omega) (by omega)
          refine b_if_le (tgt := 55) hx hb dX8_missedPlace_25 (by decide) (fun c_17 => ?_) (fun c_17 => ?_)
          ·
            exact J_55 _ (lv_sub hl [0, 1, 2] rfl)
          ·
            refine lv_aload_n hx hb dX8_missedPlace_28 rfl (lv_at hl 0 rfl) ?_
            refine g_65_3 C hU hG hti fl_X8_24 dX8_missedPlace_29 (fun hb_18 => ?_)
            refine lv_iload_n hx hb dX8_missedPlace_32 rfl (lv_at hl 2 rfl) ?_
            refine a_66 C hU hG hb_18 (x := l2_1) (by omega) (by omega) dX8_missedPlace_33 (fun r_19 er_20 hb_21 => ?_)
            obtain ⟨j_22, ej_23⟩ : ∃ j, r_19 = some j := (tleg hG hti (by omega) (by omega)).imp (fun _ h => er_20.trans h)
            subst ej_23
            have hl : lv_has ls 3 [(0, .ref (al.2 65 ti)), (1, .int conn), (2, .int l2_1)] := hl
            have hb_24 : j_22 < al.1 62 := hb_21 j_22 rfl
            refine g_62_10 C hU hG hb_24 fl_X8_52 dX8_missedPlace_34 (fun x_25 e_26 => ?_)
            have te_26 := congrArg Int32.toInt e_26
            refine lv_aload_n hx hb dX8_missedPlace_37 rfl (lv_at hl 0 rfl) ?_
            refine g_65_3 C hU hG hti fl_X8_24 dX8_missedPlace_38 (fun hb_27 => ?_)
            refine lv_iload_n hx hb dX8_missedPlace_41 rfl (lv_at hl 2 rfl) ?_
            refine lv_iconst (v := 1) hx hb dX8_missedPlace_42 (by decide) ?_
            refine lv_isub hx hb dX8_missedPlace_43 ?_
            refine lv_topi (fun x_28 e_29 => ?_)
            have te_29 : x_28.toInt = (l2_1 : Int32).toInt - (1 : Int32).toInt := by rw [e_29]; exact fb_subI (by omega) (by omega)
            refine a_66 C hU hG hb_27 (x := x_28) (by omega) (by omega) dX8_missedPlace_44 (fun r_30 er_31 hb_32 => ?_)
            obtain ⟨j_33, ej_34⟩ : ∃ j, r_30 = some j := (tleg hG hti (by omega) (by omega)).imp (fun _ h => er_31.trans h)
            subst ej_34
            have hl : lv_has ls 3 [(0, .ref (al.2 65 ti)), (1, .int conn), (2, .int l2_1)] := hl
            have hb_35 : j_33 < al.1 62 := hb_32 j_33 rfl
            refine g_62_11 C hU hG hb_35 fl_X8_55 dX8_missedPlace_45 (fun x_36 e_37 => ?_)
            have te_37 := congrArg Int32.toInt e_37
            refine lv_isub hx hb dX8_missedPlace_48 ?_
            refine lv_topi (fun x_38 e_39 => ?_)
            refine lv_iload_n hx hb dX8_missedPlace_49 rfl (lv_at hl 1 rfl) ?_
            refine b_icmp_ge (tgt := 55) hx hb dX8_missedPlace_50 (by decide) (fun c_40 => ?_) (fun c_40 => ?_)
            ·
              exact J_55 _ (lv_sub hl [0, 1, 2] rfl)
            ·
              refine lv_iload_n hx hb dX8_missedPlace_53 rfl (lv_at hl 2 rfl) ?_
              exact hret (⟨rfl, rfl, ⟨⟨by omega, by omega⟩, by omega⟩⟩) hU hS dX8_missedPlace_54
        ·
          refine lv_iload_n hx hb dX8_missedPlace_22 rfl (lv_at hl 2 rfl) ?_
          exact hret (⟨rfl, rfl, ⟨⟨by omega, by omega⟩, by omega⟩⟩) hU hS dX8_missedPlace_23
  exact J_2 _ 0 _ (lv_sub hl [1, 2, 0] rfl) (by omega) (Nat.lt_succ_self _)
set_option maxHeartbeats 4000000 in
set_option maxRecDepth 100000 in
theorem c_X8_legAtFault {l : Launch} {D : va_G} {cA : FieldType → ClassId} {sz : Nat} {al : Al} {iv : Iv} {rv : Rv} (hG : GI al iv rv) (ti : Nat) (hti : ti < al.1 65) (conn : Int32) : Met l yX8_legAtFault (wd yX8_legAtFault cX8_legAtFault 3 (some (.object "LateClaims$Leg"))) (rm 1) (PcW D cA sz al iv rv [.ref (al.2 65 ti), .int conn]) (QR D cA sz al 62 (pR iv rv (fun r => (∃ j, r = some j ∧ j < al.1 62) ∧ (True)))) 0 0 (Aq sz) := by
  refine mk_r (by decide) (Nat.le_of_ble_eq_true rfl) rfl ?_
  intro p e s m args below meth c ls Q H locs C hU hS hl hret
  have hx := C.1.1
  have hb := C.1.2.1
  have hl : lv_has ls 3 [(0, .ref (al.2 65 ti)), (1, .int conn)] := hl
  have hG0 := hG
  have km9 : ((-9) : Int32).toInt = -9 := by decide
  have k1 : (1 : Int32).toInt = 1 := by decide
  refine lv_aload_n hx hb dX8_legAtFault_0 rfl (lv_at hl 0 rfl) ?_
  refine lv_iload_n hx hb dX8_legAtFault_1 rfl (lv_at hl 1 rfl) ?_
  refine q_pi (q_runV (t := 65) (i := ti) (As := [.int conn]) (rest := []) C hU (c_X8_missedPlace hG (ti) hti conn ) vm_X8_missedPlace ml_X8_58 k_65.1 (hc := rfl) rfl hti hl.1 rfl rfl (Nat.le_of_ble_eq_true rfl) dX8_legAtFault_2 rfl rfl ⟨Nat.le_of_ble_eq_true rfl, Nat.le_of_ble_eq_true rfl⟩ ⟨Nat.le_refl _, Nat.le_refl _⟩) hS (fun x_2 H locs hp_1 hU hS => ?_)
  refine lv_istore_n (lv' := [(2, .int x_2), (0, .ref (al.2 65 ti)), (1, .int conn)]) hx hb dX8_legAtFault_5 rfl hl (by decide) rfl (fun ls hl => ?_)
  refine lv_iload_n hx hb dX8_legAtFault_6 rfl (lv_at hl 0 rfl) ?_
  refine lv_bipush (v := (-9)) hx hb dX8_legAtFault_7 (by decide) ?_
  refine b_icmp_ne (tgt := 17) hx hb dX8_legAtFault_9 (by decide) (fun c_3 => ?_) (fun c_3 => ?_)
  ·
    refine lv_iload_n hx hb dX8_legAtFault_17 rfl (lv_at hl 0 rfl) ?_
    refine b_if_eq (tgt := 33) hx hb dX8_legAtFault_18 (by decide) (fun c_4 => ?_) (fun c_4 => ?_)
    ·
      refine lv_aload_n hx hb dX8_legAtFault_33 rfl (lv_at hl 1 rfl) ?_
      refine g_65_3 C hU hG hti fl_X8_24 dX8_legAtFault_34 (fun hb_5 => ?_)
      refine lv_iload_n hx hb dX8_legAtFault_37 rfl (lv_at hl 0 rfl) ?_
      refine a_66 C hU hG hb_5 (x := x_2) (by omega) (by omega) dX8_legAtFault_38 (fun r_6 er_7 hb_8 => ?_)
      obtain ⟨j_9, ej_10⟩ : ∃ j, r_6 = some j := (tleg hG hti (by omega) (by omega)).imp (fun _ h => er_7.trans h)
      subst ej_10
      have hl : lv_has ls 3 [(2, .int x_2), (0, .ref (al.2 65 ti)), (1, .int conn)] := hl
      have hb_11 : j_9 < al.1 62 := hb_8 j_9 rfl
      refine lv_goto (tgt := 50) hx hb dX8_legAtFault_39 (by decide) ?_
      exact hret (some j_9) (⟨rfl, rfl, ⟨⟨j_9, rfl, hb_11⟩, trivial⟩⟩) hU hS dX8_legAtFault_50
    ·
      refine lv_aload_n hx hb dX8_legAtFault_21 rfl (lv_at hl 1 rfl) ?_
      refine g_65_3 C hU hG hti fl_X8_24 dX8_legAtFault_22 (fun hb_12 => ?_)
      refine lv_iload_n hx hb dX8_legAtFault_25 rfl (lv_at hl 0 rfl) ?_
      refine a_66 C hU hG hb_12 (x := x_2) (by omega) (by omega) dX8_legAtFault_26 (fun r_13 er_14 hb_15 => ?_)
      obtain ⟨j_16, ej_17⟩ : ∃ j, r_13 = some j := (tleg hG hti (by omega) (by omega)).imp (fun _ h => er_14.trans h)
      subst ej_17
      have hl : lv_has ls 3 [(2, .int x_2), (0, .ref (al.2 65 ti)), (1, .int conn)] := hl
      have hb_18 : j_16 < al.1 62 := hb_15 j_16 rfl
      refine g_62_7 C hU hG hb_18 fl_X8_48 dX8_legAtFault_27 (fun x_19 e_20 le_20 ue_20 => ?_)
      have te_20 := congrArg Int32.toInt e_20
      refine b_if_ne (tgt := 42) hx hb dX8_legAtFault_30 (by decide) (fun c_21 => ?_) (fun c_21 => ?_)
      ·
        refine lv_aload_n hx hb dX8_legAtFault_42 rfl (lv_at hl 1 rfl) ?_
        refine g_65_3 C hU hG hti fl_X8_24 dX8_legAtFault_43 (fun hb_22 => ?_)
        refine lv_iload_n hx hb dX8_legAtFault_46 rfl (lv_at hl 0 rfl) ?_
        refine lv_iconst (v := 1) hx hb dX8_legAtFault_47 (by decide) ?_
        refine lv_isub hx hb dX8_legAtFault_48 ?_
        refine lv_topi (fun x_23 e_24 => ?_)
        have te_24 : x_23.toInt = (x_2 : Int32).toInt - (1 : Int32).toInt := by rw [e_24]; exact fb_subI (by omega) (by omega)
        refine a_66 C hU hG hb_22 (x := x_23) (by omega) (by omega) dX8_legAtFault_49 (fun r_25 er_26 hb_27 => ?_)
        obtain ⟨j_28, ej_29⟩ : ∃ j, r_25 = some j := (tleg hG hti (by omega) (by omega)).imp (fun _ h => er_26.trans h)
        subst ej_29
        have hl : lv_has ls 3 [(2, .int x_2), (0, .ref (al.2 65 ti)), (1, .int conn)] := hl
        have hb_30 : j_28 < al.1 62 := hb_27 j_28 rfl
        exact hret (some j_28) (⟨rfl, rfl, ⟨⟨j_28, rfl, hb_30⟩, trivial⟩⟩) hU hS dX8_legAtFault_50
      ·
        refine lv_aload_n hx hb dX8_legAtFault_33 rfl (lv_at hl 1 rfl) ?_
        refine g_65_3 C hU hG hti fl_X8_24 dX8_legAtFault_34 (fun hb_31 => ?_)
        refine lv_iload_n hx hb dX8_legAtFault_37 rfl (lv_at hl 0 rfl) ?_
        refine a_66 C hU hG hb_31 (x := x_2) (by omega) (by omega) dX8_legAtFault_38 (fun r_32 er_33 hb_34 => ?_)
        obtain ⟨j_35, ej_36⟩ : ∃ j, r_32 = some j := (tleg hG hti (by omega) (by omega)).imp (fun _ h => er_33.trans h)
        subst ej_36
        have hl : lv_has ls 3 [(2, .int x_2), (0, .ref (al.2 65 ti)), (1, .int conn)] := hl
        have hb_37 : j_35 < al.1 62 := hb_34 j_35 rfl
        refine lv_goto (tgt := 50) hx hb dX8_legAtFault_39 (by decide) ?_
        exact hret (some j_35) (⟨rfl, rfl, ⟨⟨j_35, rfl, hb_37⟩, trivial⟩⟩) hU hS dX8_legAtFault_50
  ·
    refine lv_aload_n hx hb dX8_legAtFault_12 rfl (lv_at hl 1 rfl) ?_
    refine g_65_2 C hU hG hti fl_X8_19 dX8_legAtFault_13 (fun j_38 ej_39 hb_40 => ?_)
    exact hret (some j_38) (⟨rfl, rfl, ⟨⟨j_38, rfl, hb_40⟩, trivial⟩⟩) hU hS dX8_legAtFault_16
set_option maxHeartbeats 4000000 in
set_option maxRecDepth 100000 in
theorem c_X8_leaveDay {l : Launch} {D : va_G} {cA : FieldType → ClassId} {sz : Nat} {al : Al} {iv : Iv} {rv : Rv} (hG : GI al iv rv) (ti : Nat) (hti : ti < al.1 65) : Met l yX8_leaveDay (wd yX8_leaveDay cX8_leaveDay 1 (some .int)) (rm 0) (PcW D cA sz al iv rv [.ref (al.2 65 ti)]) (QI D cA sz al (pI iv rv (fun r => True))) 0 0 (Aq sz) := by
  refine mk_i (by decide) (Nat.le_of_ble_eq_true rfl) rfl ?_
  intro p e s m args below meth c ls Q H locs C hU hS hl hret
  have hx := C.1.1
  have hb := C.1.2.1
  have hl : lv_has ls 1 [(0, .ref (al.2 65 ti))] := hl
  have hG0 := hG
  have k1440 : (1440 : Int32).toInt = 1440 := by decide
  refine lv_aload_n hx hb dX8_leaveDay_0 rfl (lv_at hl 0 rfl) ?_
  refine g_65_1 C hU hG hti fl_X8_15 dX8_leaveDay_1 (fun j_1 ej_2 hb_3 => ?_)
  refine g_62_5 C hU hG hb_3 fl_X8_42 dX8_leaveDay_4 (fun x_4 e_5 le_5 ue_5 => ?_)
  have te_5 := congrArg Int32.toInt e_5
  refine lv_sipush (v := 1440) hx hb dX8_leaveDay_7 (by decide) ?_
  refine lv_idiv hx hb dX8_leaveDay_10 (by decide) ?_
  refine lv_topi (fun x_6 e_7 => ?_)
  have te_7 : 0 ≤ x_6.toInt ∧ x_6.toInt ≤ (x_4 : Int32).toInt := by rw [e_7]; exact div_rng (by omega) (by omega)
  exact hret (⟨rfl, rfl, trivial⟩) hU hS dX8_leaveDay_11
set_option maxHeartbeats 4000000 in
set_option maxRecDepth 100000 in
theorem c_X8_arriveDay {l : Launch} {D : va_G} {cA : FieldType → ClassId} {sz : Nat} {al : Al} {iv : Iv} {rv : Rv} (hG : GI al iv rv) (ti : Nat) (hti : ti < al.1 65) : Met l yX8_arriveDay (wd yX8_arriveDay cX8_arriveDay 1 (some .int)) (rm 0) (PcW D cA sz al iv rv [.ref (al.2 65 ti)]) (QI D cA sz al (pI iv rv (fun r => True))) 0 0 (Aq sz) := by
  refine mk_i (by decide) (Nat.le_of_ble_eq_true rfl) rfl ?_
  intro p e s m args below meth c ls Q H locs C hU hS hl hret
  have hx := C.1.1
  have hb := C.1.2.1
  have hl : lv_has ls 1 [(0, .ref (al.2 65 ti))] := hl
  have hG0 := hG
  have k1440 : (1440 : Int32).toInt = 1440 := by decide
  refine lv_aload_n hx hb dX8_arriveDay_0 rfl (lv_at hl 0 rfl) ?_
  refine g_65_2 C hU hG hti fl_X8_19 dX8_arriveDay_1 (fun j_1 ej_2 hb_3 => ?_)
  refine g_62_6 C hU hG hb_3 fl_X8_45 dX8_arriveDay_4 (fun x_4 e_5 le_5 ue_5 => ?_)
  have te_5 := congrArg Int32.toInt e_5
  refine lv_sipush (v := 1440) hx hb dX8_arriveDay_7 (by decide) ?_
  refine lv_idiv hx hb dX8_arriveDay_10 (by decide) ?_
  refine lv_topi (fun x_6 e_7 => ?_)
  have te_7 : 0 ≤ x_6.toInt ∧ x_6.toInt ≤ (x_4 : Int32).toInt := by rw [e_7]; exact div_rng (by omega) (by omega)
  exact hret (⟨rfl, rfl, trivial⟩) hU hS dX8_arriveDay_11
