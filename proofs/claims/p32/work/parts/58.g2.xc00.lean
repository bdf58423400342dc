set_option maxHeartbeats 4000000 in
set_option maxRecDepth 100000 in
theorem c_X12_back_x {l : Launch} {D : va_G} {cA : FieldType → ClassId} {sz : Nat} {al : Al} {iv : Iv} {rv : Rv} (hG : GI al iv rv) (pre0 : BT iv rv) : Met l yX12_back (wd yX12_back cX12_back 6 (some .int)) (rm 13) (PcW D cA sz al iv rv [.ref (al.2 0 0)]) (QI D cA sz al (fI al ([17, 20, 39, 40], []) iv rv (fun r iv' rv' => bkR (bkZ iv) (fun k => iv' 40 0 k) r))) 0 0 (Aq sz) := by
  refine mk_i (by decide) (Nat.le_of_ble_eq_true rfl) rfl ?_
  intro p e s m args below meth c ls Q H locs C hU hS hl hret
  have hx := C.1.1
  have hb := C.1.2.1
  have hl : lv_has ls 6 [(0, .ref (al.2 0 0))] := hl
  have hG0 := hG
  have h6 := le6 hG
  have h20 := le20 hG
  have h41 := le41 hG
  have hF1 : FR ([17, 20, 39, 40], []) iv iv := FR.rf
  have hF2 : FR ([17, 20, 39, 40], []) rv rv := FR.rf
  have km9 : ((-9) : Int32).toInt = -9 := by decide
  have km1 : ((-1) : Int32).toInt = -1 := by decide
  have k0 : (0 : Int32).toInt = 0 := by decide
  have k1 : (1 : Int32).toInt = 1 := by decide
  have k5 : (5 : Int32).toInt = 5 := by decide
  have k31 : (31 : Int32).toInt = 31 := by decide
  have k32 : (32 : Int32).toInt = 32 := by decide
  refine lv_iconst (v := 0) hx hb dX12_back_0 (by decide) ?_
  refine lv_istore_n (lv' := [(1, .int 0), (0, .ref (al.2 0 0))]) hx hb dX12_back_1 rfl hl (by decide) rfl (fun ls hl => ?_)
  refine lv_iconst (v := 0) hx hb dX12_back_2 (by decide) ?_
  refine lv_istore_n (lv' := [(2, .int 0), (1, .int 0), (0, .ref (al.2 0 0))]) hx hb dX12_back_3 rfl hl (by decide) rfl (fun ls hl => ?_)
  have J_4 : ∀ (n_4 : Nat) (l1_1 : Int32) (l2_2 : Int32) (iv_3 : Iv) (rv_4 : Rv) (H : Heap) (locs : List Loc) (ls : Array Slot), lv_has ls 6 [(0, .ref (al.2 0 0)), (1, .int l1_1), (2, .int l2_2)] → GI al iv_3 rv_4 → FR ([17, 20, 39, 40], []) iv iv_3 → FR ([17, 20, 39, 40], []) rv rv_4 → UW D cA sz al iv_3 rv_4 H → va_S (Aq sz) s.heap H locs → (0 ≤ l2_2.toInt ∧ l2_2.toInt ≤ 5) → sgO (bkV iv) iv_3 l2_2 → (5 - l2_2.toInt).toNat < n_4 → W p l e (rm 13) s m args below meth c H locs 0 0 Q (F0 m 4 ls []) := by
    intro n_4
    induction n_4 with
    | zero =>
      intro l1_1 l2_2 iv_3 rv_4 H locs ls hl hG hF1 hF2 hU hS i4_0 i4_1 hm_4
      exact absurd hm_4 (Nat.not_lt_zero _)
    | succ n_4 ih_4 =>
      intro l1_1 l2_2 iv_3 rv_4 H locs ls hl hG hF1 hF2 hU hS i4_0 i4_1 hm_4
      refine lv_iload_n hx hb dX12_back_4 rfl (lv_at hl 2 rfl) ?_
      refine lv_iconst (v := 5) hx hb dX12_back_5 (by decide) ?_
      refine b_icmp_ge (tgt := 87) hx hb dX12_back_6 (by decide) (fun c_5 => ?_) (fun c_5 => ?_)
      ·
        refine lv_aload_n hx hb dX12_back_87 rfl (lv_at hl 0 rfl) ?_
        refine g_0_46 C hU hG (h1_0 hG) fl_X12_125 dX12_back_88 ?_
        refine lv_bipush (v := 31) hx hb dX12_back_91 (by decide) ?_
        refine a_39 C hU hG (h1_39 hG) (x := 31) (by omega) (by omega) dX12_back_93 (fun x_6 e_7 => ?_)
        have te_7 := congrArg Int32.toInt e_7
        have h39 := sg_fin i4_1 (by omega)
        have h93 : x_6 = bkZ iv 31 := by rw [e_7, show (31 : Int32).toNatClampNeg = 31 from by decide]; exact h39 31 (by decide)
        have t93 := congrArg Int32.toInt h93
        refine b_if_eq (tgt := 100) hx hb dX12_back_94 (by decide) (fun c_8 => ?_) (fun c_8 => ?_)
        ·
          refine lv_iconst (v := 5) hx hb dX12_back_100 (by decide) ?_
          refine lv_iload_n hx hb dX12_back_101 rfl (lv_at hl 1 rfl) ?_
          refine lv_isub hx hb dX12_back_102 ?_
          refine lv_topi (fun x_9 e_10 => ?_)
          refine lv_istore_n (lv' := [(2, .int x_9), (0, .ref (al.2 0 0)), (1, .int l1_1)]) hx hb dX12_back_103 rfl hl (by decide) rfl (fun ls hl => ?_)
          refine lv_aload_n hx hb dX12_back_104 rfl (lv_at hl 1 rfl) ?_
          refine g_0_47 C hU hG (h1_0 hG) fl_X12_128 dX12_back_105 ?_
          refine lv_iconst (v := 0) hx hb dX12_back_108 (by decide) ?_
          refine lv_iconst (v := 0) hx hb dX12_back_109 (by decide) ?_
          refine s_40 C hU hS (h1_40 hG) (x := 0) (by omega) (by omega) dX12_back_110 (fun iv_11 H locs ei_12 hU hS => ?_)
          have hG : GI al iv_11 rv_4 := by rw [ei_12]; exact hG.puti (show _ ∧ _ from ⟨(fb_rng _).1, Int.le_of_lt_add_one (fb_rng _).2⟩) (nsA (by decide) _)
          have hF1 : FR ([17, 20, 39, 40], []) iv iv_11 := by rw [ei_12]; exact hF1.put (Or.inl (by decide))
          refine lv_iconst (v := 1) hx hb dX12_back_111 (by decide) ?_
          refine lv_istore_n (lv' := [(3, .int 1), (2, .int x_9), (0, .ref (al.2 0 0)), (1, .int l1_1)]) hx hb dX12_back_112 rfl hl (by decide) rfl (fun ls hl => ?_)
          have J_113 : ∀ (n_113 : Nat) (l3_13 : Int32) (iv_14 : Iv) (rv_15 : Rv) (H : Heap) (locs : List Loc) (ls : Array Slot), lv_has ls 6 [(0, .ref (al.2 0 0)), (1, .int l1_1), (2, .int x_9), (3, .int l3_13)] → GI al iv_14 rv_15 → FR ([17, 20, 39, 40], []) iv iv_14 → FR ([17, 20, 39, 40], []) rv rv_15 → UW D cA sz al iv_14 rv_15 H → va_S (Aq sz) s.heap H locs → (1 ≤ l3_13.toInt ∧ l3_13.toInt ≤ 32) → bkI (bkZ iv) iv_14 l3_13.toNatClampNeg → (32 - l3_13.toInt).toNat < n_113 → W p l e (rm 13) s m args below meth c H locs 0 0 Q (F0 m 113 ls []) := by
            intro n_113
            induction n_113 with
            | zero =>
              intro l3_13 iv_14 rv_15 H locs ls hl hG hF1 hF2 hU hS i113_0 i113_1 hm_113
              exact absurd hm_113 (Nat.not_lt_zero _)
            | succ n_113 ih_113 =>
              intro l3_13 iv_14 rv_15 H locs ls hl hG hF1 hF2 hU hS i113_0 i113_1 hm_113
              refine lv_iload_n hx hb dX12_back_113 rfl (lv_at hl 3 rfl) ?_
              refine lv_bipush (v := 32) hx hb dX12_back_114 (by decide) ?_
              refine b_icmp_ge (tgt := 242) hx hb dX12_back_116 (by decide) (fun c_16 => ?_) (fun c_16 => ?_)
              ·
                refine lv_iload_n hx hb dX12_back_242 rfl (lv_at hl 1 rfl) ?_
                refine lv_aload_n hx hb dX12_back_243 rfl (lv_at hl 0 rfl) ?_
                refine g_0_47 C hU hG (h1_0 hG) fl_X12_128 dX12_back_244 ?_
                refine lv_bipush (v := 31) hx hb dX12_back_247 (by decide) ?_
                refine a_40 C hU hG (h1_40 hG) (x := 31) (by omega) (by omega) dX12_back_249 (fun x_17 e_18 => ?_)
                have te_18 := congrArg Int32.toInt e_18
                refine lv_iload_n hx hb dX12_back_250 rfl (lv_at hl 2 rfl) ?_
                refine lv_isub hx hb dX12_back_251 ?_
                refine lv_topi (fun x_19 e_20 => ?_)
                refine lv_isub hx hb dX12_back_252 ?_
                refine lv_topi (fun x_21 e_22 => ?_)
                exact hret (⟨hG, hF1, hF2, bk_ret i113_1 (by omega) (by omega) e_18 e_10 e_20 e_22⟩) hU hS dX12_back_253
              ·
                refine lv_aload_n hx hb dX12_back_119 rfl (lv_at hl 0 rfl) ?_
                refine g_0_47 C hU hG (h1_0 hG) fl_X12_128 dX12_back_120 ?_
                refine lv_iload_n hx hb dX12_back_123 rfl (lv_at hl 3 rfl) ?_
                refine lv_iconst (v := (-1)) hx hb dX12_back_124 (by decide) ?_
                refine s_40 C hU hS (h1_40 hG) (x := l3_13) (by omega) (by omega) dX12_back_125 (fun iv_23 H locs ei_24 hU hS => ?_)
                have hG : GI al iv_23 rv_15 := by rw [ei_24]; exact hG.puti (show _ ∧ _ from ⟨(fb_rng _).1, Int.le_of_lt_add_one (fb_rng _).2⟩) (nsA (by decide) _)
                have hF1 : FR ([17, 20, 39, 40], []) iv iv_23 := by rw [ei_24]; exact hF1.put (Or.inl (by decide))
                refine lv_iconst (v := 1) hx hb dX12_back_126 (by decide) ?_
                refine lv_istore (lv' := [(4, .int 1), (0, .ref (al.2 0 0)), (1, .int l1_1), (2, .int x_9), (3, .int l3_13)]) hx hb dX12_back_127 hl (by decide) rfl (fun ls hl => ?_)
                have J_129 : ∀ (n_129 : Nat) (l4_25 : Int32) (iv_26 : Iv) (rv_27 : Rv) (H : Heap) (locs : List Loc) (ls : Array Slot), lv_has ls 6 [(0, .ref (al.2 0 0)), (1, .int l1_1), (2, .int x_9), (3, .int l3_13), (4, .int l4_25)] → GI al iv_26 rv_27 → FR ([17, 20, 39, 40], []) iv iv_26 → FR ([17, 20, 39, 40], []) rv rv_27 → UW D cA sz al iv_26 rv_27 H → va_S (Aq sz) s.heap H locs → (1 ≤ l4_25.toInt ∧ l4_25.toInt ≤ 33) → bkJ (bkZ iv) iv_26 l3_13.toNatClampNeg (l4_25.toNatClampNeg - 1) → l4_25.toInt ≤ l3_13.toInt + 1 → (33 - l4_25.toInt).toNat < n_129 → W p l e (rm 13) s m args below meth c H locs 0 0 Q (F0 m 129 ls []) := by
                  intro n_129
                  induction n_129 with
                  | zero =>
                    intro l4_25 iv_26 rv_27 H locs ls hl hG hF1 hF2 hU hS i129_0 i129_1 i129_2 hm_129
                    exact absurd hm_129 (Nat.not_lt_zero _)
                  | succ n_129 ih_129 =>
                    intro l4_25 iv_26 rv_27 H locs ls hl hG hF1 hF2 hU hS i129_0 i129_1 i129_2 hm_129
                    refine lv_iload hx hb dX12_back_129 (lv_at hl 4 rfl) ?_
                    refine lv_iload_n hx hb dX12_back_131 rfl (lv_at hl 3 rfl) ?_
                    refine b_icmp_gt (tgt := 236) hx hb dX12_back_132 (by decide) (fun c_28 => ?_) (fun c_28 => ?_)
                    ·
                      obtain ⟨x_29, e_30⟩ : ∃ y : Int32, y = l3_13 + 1 := ⟨_, rfl⟩
                      have te_30 : x_29.toInt = (l3_13 : Int32).toInt + (1 : Int32).toInt := by rw [e_30]; exact fb_addI (by omega) (by omega)
                      refine lv_iinc (v := x_29) (lv' := [(3, .int x_29), (0, .ref (al.2 0 0)), (1, .int l1_1), (2, .int x_9), (4, .int l4_25)]) hx hb dX12_back_236 hl (k := 3) rfl (by rw [e_30]; rfl) (by decide) rfl (fun ls hl => ?_)
                      refine lv_goto (tgt := 113) hx hb dX12_back_239 (by decide) ?_
                      exact ih_113 x_29 _ _ _ _ _ (lv_sub hl [1, 2, 3, 0] rfl) hG hF1 hF2 hU hS (by omega) (by first | exact bk_next i129_1 (by omega) (by omega) (by omega) (by omega) | exact bk_0 h39 ei_12) (by omega)
                    ·
                      refine lv_iload hx hb dX12_back_135 (lv_at hl 4 rfl) ?_
                      refine lv_iload_n hx hb dX12_back_137 rfl (lv_at hl 3 rfl) ?_
                      refine lv_iconst (v := (-1)) hx hb dX12_back_138 (by decide) ?_
                      refine lv_ixor hx hb dX12_back_139 ?_
                      refine lv_topi (fun x_31 e_32 => ?_)
                      refine lv_iand hx hb dX12_back_140 ?_
                      refine lv_topi (fun x_33 e_34 => ?_)
                      have te_34 : 0 ≤ x_33.toInt ∧ x_33.toInt ≤ (l4_25 : Int32).toInt := by rw [e_34]; exact and_rng (by omega)
                      have hz := sbk_i e_32 e_34 (by omega) (by omega)
                      have J_173 : ∀ (v_35 : Int32) (ls : Array Slot), lv_has ls 6 [(0, .ref (al.2 0 0)), (1, .int l1_1), (2, .int x_9), (3, .int l3_13), (4, .int l4_25)] → (0 ≤ v_35.toInt ∧ v_35.toInt ≤ 1) → ((v_35.toInt = 1 ∧ bcd (fun k => iv_26 40 0 k) (bkZ iv) l3_13.toNatClampNeg l4_25.toNatClampNeg) ∨ (v_35.toInt = 0 ∧ ¬ bcd (fun k => iv_26 40 0 k) (bkZ iv) l3_13.toNatClampNeg l4_25.toNatClampNeg)) → W p l e (rm 13) s m args below meth c H locs 0 0 Q (F0 m 173 ls [.int v_35]) := by
                        intro v_35 ls hl i173_0 i173_1
                        refine lv_istore (lv' := [(5, .int v_35), (0, .ref (al.2 0 0)), (1, .int l1_1), (2, .int x_9), (3, .int l3_13), (4, .int l4_25)]) hx hb dX12_back_173 hl (by decide) rfl (fun ls hl => ?_)
                        refine lv_aload_n hx hb dX12_back_175 rfl (lv_at hl 1 rfl) ?_
                        refine g_0_47 C hU hG (h1_0 hG) fl_X12_128 dX12_back_176 ?_
                        refine lv_iload_n hx hb dX12_back_179 rfl (lv_at hl 4 rfl) ?_
                        refine lv_iload hx hb dX12_back_180 (lv_at hl 0 rfl) ?_
                        have J_229 : ∀ (v_36 : Int32) (ls : Array Slot), lv_has ls 6 [(0, .ref (al.2 0 0)), (1, .int l1_1), (2, .int x_9), (3, .int l3_13), (4, .int l4_25)] → v_36 = bst (fun k => iv_26 40 0 k) (bkZ iv) l3_13.toNatClampNeg l4_25.toNatClampNeg → W p l e (rm 13) s m args below meth c H locs 0 0 Q (F0 m 229 ls [.int v_36, .int l3_13, .ref (al.2 40 0)]) := by
                          intro v_36 ls hl i229_0
                          refine s_40 C hU hS (h1_40 hG) (x := l3_13) (by omega) (by omega) dX12_back_229 (fun iv_37 H locs ei_38 hU hS => ?_)
                          have hG : GI al iv_37 rv_27 := by rw [ei_38]; exact hG.puti (show _ ∧ _ from ⟨(fb_rng _).1, Int.le_of_lt_add_one (fb_rng _).2⟩) (nsA (by decide) _)
                          have hF1 : FR ([17, 20, 39, 40], []) iv iv_37 := by rw [ei_38]; exact hF1.put (Or.inl (by decide))
                          obtain ⟨x_39, e_40⟩ : ∃ y : Int32, y = l4_25 + 1 := ⟨_, rfl⟩
                          have te_40 : x_39.toInt = (l4_25 : Int32).toInt + (1 : Int32).toInt := by rw [e_40]; exact fb_addI (by omega) (by omega)
                          refine lv_iinc (v := x_39) (lv' := [(4, .int x_39), (0, .ref (al.2 0 0)), (1, .int l1_1), (2, .int x_9), (3, .int l3_13)]) hx hb dX12_back_230 hl (k := 4) rfl (by rw [e_40]; rfl) (by decide) rfl (fun ls hl => ?_)
                          refine lv_goto (tgt := 129) hx hb dX12_back_233 (by decide) ?_
                          exact ih_129 x_39 _ _ _ _ _ (lv_sub hl [1, 2, 3, 4, 0] rfl) hG hF1 hF2 hU hS (by omega) (by first | exact bk_s i129_1 i229_0 ei_38 (by omega) (by omega) (by omega) (by omega) | exact bk_j0 i113_1 ei_24 (by omega) (by omega)) (by omega) (by omega)
                        have J_223 : ∀ (ls : Array Slot), lv_has ls 6 [(0, .ref (al.2 0 0)), (1, .int l1_1), (2, .int x_9), (3, .int l3_13), (4, .int l4_25)] → (¬ (bcd (fun k => iv_26 40 0 k) (bkZ iv) l3_13.toNatClampNeg l4_25.toNatClampNeg ∧ (iv_26 40 0 l3_13.toNatClampNeg).toInt < (iv_26 40 0 (sbt l3_13.toNatClampNeg l4_25.toNatClampNeg) + 1).toInt)) → W p l e (rm 13) s m args below meth c H locs 0 0 Q (F0 m 223 ls [.int l3_13, .ref (al.2 40 0)]) := by
                          intro ls hl i223_0
                          refine lv_aload_n hx hb dX12_back_223 rfl (lv_at hl 0 rfl) ?_
                          refine g_0_47 C hU hG (h1_0 hG) fl_X12_128 dX12_back_224 ?_
                          refine lv_iload_n hx hb dX12_back_227 rfl (lv_at hl 3 rfl) ?_
                          refine a_40 C hU hG (h1_40 hG) (x := l3_13) (by omega) (by omega) dX12_back_228 (fun x_41 e_42 => ?_)
                          have te_42 := congrArg Int32.toInt e_42
                          exact J_229 x_41 _ (lv_sub hl [0, 1, 2, 3, 4] rfl) (by first | exact bq_u i129_1 i173_1 (by omega) h219 (by omega) (by omega) | exact bq_v i129_1 i223_0 e_42 (by omega))
                        refine b_if_eq (tgt := 223) hx hb dX12_back_182 (by decide) (fun c_43 => ?_) (fun c_43 => ?_)
                        ·
                          exact J_223 _ (lv_sub hl [1, 2, 3, 4, 5] rfl) (by first | exact bq_a i173_1 (by omega) | exact fun z => absurd z.2 (by omega))
                        ·
                          refine lv_aload_n hx hb dX12_back_185 rfl (lv_at hl 1 rfl) ?_
                          refine g_0_47 C hU hG (h1_0 hG) fl_X12_128 dX12_back_186 ?_
                          refine lv_iload_n hx hb dX12_back_189 rfl (lv_at hl 4 rfl) ?_
                          refine lv_iload hx hb dX12_back_190 (lv_at hl 5 rfl) ?_
                          refine lv_iconst (v := (-1)) hx hb dX12_back_192 (by decide) ?_
                          refine lv_ixor hx hb dX12_back_193 ?_
                          refine lv_topi (fun x_44 e_45 => ?_)
                          refine lv_iand hx hb dX12_back_194 ?_
                          refine lv_topi (fun x_46 e_47 => ?_)
                          have te_47 : 0 ≤ x_46.toInt ∧ x_46.toInt ≤ (l3_13 : Int32).toInt := by rw [e_47]; exact and_rng (by omega)
                          refine a_40 C hU hG (h1_40 hG) (x := x_46) (by omega) (by omega) dX12_back_195 (fun x_48 e_49 => ?_)
                          have te_49 := congrArg Int32.toInt e_49
                          have h195 : x_48 = iv_26 40 0 (sbt l3_13.toNatClampNeg l4_25.toNatClampNeg) := by rw [e_49, sbk_n e_45 e_47 (by omega) (by omega)]
                          refine lv_iconst (v := 1) hx hb dX12_back_196 (by decide) ?_
                          refine lv_iadd hx hb dX12_back_197 ?_
                          refine lv_topi (fun x_50 e_51 => ?_)
                          have h197 : x_50 = iv_26 40 0 (sbt l3_13.toNatClampNeg l4_25.toNatClampNeg) + 1 := by rw [e_51, h195]
                          have t197 := congrArg Int32.toInt h197
                          refine lv_aload_n hx hb dX12_back_198 rfl (lv_at hl 1 rfl) ?_
                          refine g_0_47 C hU hG (h1_0 hG) fl_X12_128 dX12_back_199 ?_
                          refine lv_iload_n hx hb dX12_back_202 rfl (lv_at hl 4 rfl) ?_
                          refine a_40 C hU hG (h1_40 hG) (x := l3_13) (by omega) (by omega) dX12_back_203 (fun x_52 e_53 => ?_)
                          have te_53 := congrArg Int32.toInt e_53
                          have t203 := congrArg Int32.toInt e_53
                          refine b_icmp_le (tgt := 223) hx hb dX12_back_204 (by decide) (fun c_54 => ?_) (fun c_54 => ?_)
                          ·
                            exact J_223 _ (lv_sub hl [1, 2, 3, 4, 5] rfl) (by first | exact bq_a i173_1 (by omega) | exact fun z => absurd z.2 (by omega))
                          ·
                            refine lv_aload_n hx hb dX12_back_207 rfl (lv_at hl 1 rfl) ?_
                            refine g_0_47 C hU hG (h1_0 hG) fl_X12_128 dX12_back_208 ?_
                            refine lv_iload_n hx hb dX12_back_211 rfl (lv_at hl 4 rfl) ?_
                            refine lv_iload hx hb dX12_back_212 (lv_at hl 5 rfl) ?_
                            refine lv_iconst (v := (-1)) hx hb dX12_back_214 (by decide) ?_
                            refine lv_ixor hx hb dX12_back_215 ?_
                            refine lv_topi (fun x_55 e_56 => ?_)
                            refine lv_iand hx hb dX12_back_216 ?_
                            refine lv_topi (fun x_57 e_58 => ?_)
                            have te_58 : 0 ≤ x_57.toInt ∧ x_57.toInt ≤ (l3_13 : Int32).toInt := by rw [e_58]; exact and_rng (by omega)
                            refine a_40 C hU hG (h1_40 hG) (x := x_57) (by omega) (by omega) dX12_back_217 (fun x_59 e_60 => ?_)
                            have te_60 := congrArg Int32.toInt e_60
                            have h217 : x_59 = iv_26 40 0 (sbt l3_13.toNatClampNeg l4_25.toNatClampNeg) := by rw [e_60, sbk_n e_56 e_58 (by omega) (by omega)]
                            refine lv_iconst (v := 1) hx hb dX12_back_218 (by decide) ?_
                            refine lv_iadd hx hb dX12_back_219 ?_
                            refine lv_topi (fun x_61 e_62 => ?_)
                            have h219 : x_61 = iv_26 40 0 (sbt l3_13.toNatClampNeg l4_25.toNatClampNeg) + 1 := by rw [e_62, h217]
                            refine lv_goto (tgt := 229) hx hb dX12_back_220 (by decide) ?_
                            exact J_229 x_61 _ (lv_sub hl [1, 2, 3, 4, 5] rfl) (by first | exact bq_u i129_1 i173_1 (by omega) h219 (by omega) (by omega) | exact bq_v i129_1 i223_0 True.intro (by omega))
                      have J_172 : ∀ (ls : Array Slot), lv_has ls 6 [(0, .ref (al.2 0 0)), (1, .int l1_1), (2, .int x_9), (3, .int l3_13), (4, .int l4_25)] → ¬ bcd (fun k => iv_26 40 0 k) (bkZ iv) l3_13.toNatClampNeg l4_25.toNatClampNeg → W p l e (rm 13) s m args below meth c H locs 0 0 Q (F0 m 172 ls []) := by
                        intro ls hl i172_0
                        refine lv_iconst (v := 0) hx hb dX12_back_172 (by decide) ?_
                        exact J_173 0 _ (lv_sub hl [0, 1, 2, 3, 4] rfl) (by omega) (by first | exact Or.inr ⟨by decide, i172_0⟩ | exact Or.inl ⟨by decide, bq_y hz (by omega) h150 (by omega) h164 (by omega)⟩)
                      refine b_if_ne (tgt := 172) hx hb dX12_back_141 (by decide) (fun c_63 => ?_) (fun c_63 => ?_)
                      ·
                        exact J_172 _ (lv_sub hl [0, 1, 2, 3, 4] rfl) (by first | exact bq_1 hz (by omega) | exact bq_2 h150 (by omega) | exact bq_3 h164 (by omega))
                      ·
                        refine lv_aload_n hx hb dX12_back_144 rfl (lv_at hl 0 rfl) ?_
                        refine g_0_46 C hU hG (h1_0 hG) fl_X12_125 dX12_back_145 ?_
                        refine lv_iload hx hb dX12_back_148 (lv_at hl 4 rfl) ?_
                        refine a_39 C hU hG (h1_39 hG) (x := l4_25) (by omega) (by omega) dX12_back_150 (fun x_64 e_65 => ?_)
                        have te_65 := congrArg Int32.toInt e_65
                        have h150 : x_64 = bkZ iv l4_25.toNatClampNeg := e_65.trans (i129_1.1.1 _ (by rw [clamp_n]; omega))
                        have t150 := congrArg Int32.toInt h150
                        refine b_if_ne (tgt := 172) hx hb dX12_back_151 (by decide) (fun c_66 => ?_) (fun c_66 => ?_)
                        ·
                          exact J_172 _ (lv_sub hl [0, 1, 2, 3, 4] rfl) (by first | exact bq_1 hz (by omega) | exact bq_2 h150 (by omega) | exact bq_3 h164 (by omega))
                        ·
                          refine lv_aload_n hx hb dX12_back_154 rfl (lv_at hl 0 rfl) ?_
                          refine g_0_47 C hU hG (h1_0 hG) fl_X12_128 dX12_back_155 ?_
                          refine lv_iload_n hx hb dX12_back_158 rfl (lv_at hl 3 rfl) ?_
                          refine lv_iload hx hb dX12_back_159 (lv_at hl 4 rfl) ?_
                          refine lv_iconst (v := (-1)) hx hb dX12_back_161 (by decide) ?_
                          refine lv_ixor hx hb dX12_back_162 ?_
                          refine lv_topi (fun x_67 e_68 => ?_)
                          refine lv_iand hx hb dX12_back_163 ?_
                          refine lv_topi (fun x_69 e_70 => ?_)
                          have te_70 : 0 ≤ x_69.toInt ∧ x_69.toInt ≤ (l3_13 : Int32).toInt := by rw [e_70]; exact and_rng (by omega)
                          refine a_40 C hU hG (h1_40 hG) (x := x_69) (by omega) (by omega) dX12_back_164 (fun x_71 e_72 => ?_)
                          have te_72 := congrArg Int32.toInt e_72
                          have h164 : x_71 = iv_26 40 0 (sbt l3_13.toNatClampNeg l4_25.toNatClampNeg) := by rw [e_72, sbk_n e_68 e_70 (by omega) (by omega)]
                          have t164 := congrArg Int32.toInt h164
                          refine b_if_lt (tgt := 172) hx hb dX12_back_165 (by decide) (fun c_73 => ?_) (fun c_73 => ?_)
                          ·
                            exact J_172 _ (lv_sub hl [0, 1, 2, 3, 4] rfl) (by first | exact bq_1 hz (by omega) | exact bq_2 h150 (by omega) | exact bq_3 h164 (by omega))
                          ·
                            refine lv_iconst (v := 1) hx hb dX12_back_168 (by decide) ?_
                            refine lv_goto (tgt := 173) hx hb dX12_back_169 (by decide) ?_
                            exact J_173 1 _ (lv_sub hl [0, 1, 2, 3, 4] rfl) (by omega) (by first | exact Or.inr ⟨by decide, i172_0⟩ | exact Or.inl ⟨by decide, bq_y hz (by omega) h150 (by omega) h164 (by omega)⟩)
                exact J_129 _ 1 _ _ _ _ _ (lv_sub hl [1, 2, 3, 4, 0] rfl) hG hF1 hF2 hU hS (by omega) (by first | exact bk_s i129_1 i229_0 True.intro (by omega) (by omega) (by omega) (by omega) | exact bk_j0 i113_1 ei_24 (by omega) (by omega)) (by omega) (Nat.lt_succ_self _)
          exact J_113 _ 1 _ _ _ _ _ (lv_sub hl [2, 3, 1, 0] rfl) hG hF1 hF2 hU hS (by omega) (by first | exact bk_next i129_1 (by omega) (by omega) (by omega) (by omega) | exact bk_0 h39 ei_12) (Nat.lt_succ_self _)
        ·
          refine lv_bipush (v := (-9)) hx hb dX12_back_97 (by decide) ?_
          exact hret (⟨hG, hF1, hF2, Or.inl ⟨by omega, rfl⟩⟩) hU hS dX12_back_99
      ·
        refine lv_aload_n hx hb dX12_back_9 rfl (lv_at hl 0 rfl) ?_
        refine lv_iload_n hx hb dX12_back_10 rfl (lv_at hl 2 rfl) ?_
        have hMA := ma_fr hF1
        refine q_fi (q_runV (t := 0) (i := 0) (As := [.int l2_2]) (rest := []) C hU (c_X12_balanceOf_x hG l2_2 (by omega) (bt_fr hG0 pre0 hF1 hF2)) vm_X12_balanceOf ml_X12_297 k_0.1 (hc := rfl) rfl (h1_0 hG) hl.1 rfl rfl (Nat.le_of_ble_eq_true rfl) dX12_back_11 rfl rfl ⟨Nat.le_of_ble_eq_true rfl, Nat.le_of_ble_eq_true rfl⟩ ⟨Nat.le_refl _, Nat.le_refl _⟩) hS (fun x_79 iv_75 rv_76 H locs hG fa_77 fb_78 hp_74 hU hS => ?_)
        have hF1 := hF1.tr (m := ([17, 20, 39, 40], [])) fa_77 (by decide)
        have hF2 := hF2.tr (m := ([17, 20, 39, 40], [])) fb_78 (by decide)
        have h11 : x_79 = bkV iv l2_2.toNatClampNeg := hp_74.trans (baF_m hMA _)
        have f39 := fun k => fa_77.arr 39 0 k (by decide)
        refine lv_istore_n (lv' := [(3, .int x_79), (0, .ref (al.2 0 0)), (1, .int l1_1), (2, .int l2_2)]) hx hb dX12_back_14 rfl hl (by decide) rfl (fun ls hl => ?_)
        refine lv_iload_n hx hb dX12_back_15 rfl (lv_at hl 2 rfl) ?_
        refine lv_iload_n hx hb dX12_back_16 rfl (lv_at hl 0 rfl) ?_
        have J_25 : ∀ (v_80 : Int32) (ls : Array Slot), lv_has ls 6 [(0, .ref (al.2 0 0)), (2, .int l2_2), (3, .int x_79)] → (0 ≤ v_80.toInt ∧ v_80.toInt ≤ 1) → W p l e (rm 13) s m args below meth c H locs 0 0 Q (F0 m 25 ls [.int v_80, .int l1_1]) := by
          intro v_80 ls hl i25_0
          refine lv_iadd hx hb dX12_back_25 ?_
          refine lv_topi (fun x_81 e_82 => ?_)
          refine lv_istore_n (lv' := [(1, .int x_81), (0, .ref (al.2 0 0)), (2, .int l2_2), (3, .int x_79)]) hx hb dX12_back_26 rfl hl (by decide) rfl (fun ls hl => ?_)
          refine lv_iconst (v := 0) hx hb dX12_back_27 (by decide) ?_
          refine lv_istore (lv' := [(4, .int 0), (1, .int x_81), (0, .ref (al.2 0 0)), (2, .int l2_2), (3, .int x_79)]) hx hb dX12_back_28 hl (by decide) rfl (fun ls hl => ?_)
          have J_30 : ∀ (n_30 : Nat) (l4_83 : Int32) (iv_84 : Iv) (rv_85 : Rv) (H : Heap) (locs : List Loc) (ls : Array Slot), lv_has ls 6 [(0, .ref (al.2 0 0)), (1, .int x_81), (2, .int l2_2), (3, .int x_79), (4, .int l4_83)] → GI al iv_84 rv_85 → FR ([17, 20, 39, 40], []) iv iv_84 → FR ([17, 20, 39, 40], []) rv rv_85 → UW D cA sz al iv_84 rv_85 H → va_S (Aq sz) s.heap H locs → (0 ≤ l4_83.toInt ∧ l4_83.toInt ≤ 32) → sgI (bkV iv) iv_84 l2_2 l4_83 → (32 - l4_83.toInt).toNat < n_30 → W p l e (rm 13) s m args below meth c H locs 0 0 Q (F0 m 30 ls []) := by
            intro n_30
            induction n_30 with
            | zero =>
              intro l4_83 iv_84 rv_85 H locs ls hl hG hF1 hF2 hU hS i30_0 i30_1 hm_30
              exact absurd hm_30 (Nat.not_lt_zero _)
            | succ n_30 ih_30 =>
              intro l4_83 iv_84 rv_85 H locs ls hl hG hF1 hF2 hU hS i30_0 i30_1 hm_30
              refine lv_iload hx hb dX12_back_30 (lv_at hl 4 rfl) ?_
              refine lv_bipush (v := 32) hx hb dX12_back_32 (by decide) ?_
              refine b_icmp_ge (tgt := 81) hx hb dX12_back_34 (by decide) (fun c_86 => ?_) (fun c_86 => ?_)
              ·
                obtain ⟨x_87, e_88⟩ : ∃ y : Int32, y = l2_2 + 1 := ⟨_, rfl⟩
                have te_88 : x_87.toInt = (l2_2 : Int32).toInt + (1 : Int32).toInt := by rw [e_88]; exact fb_addI (by omega) (by omega)
                refine lv_iinc (v := x_87) (lv' := [(2, .int x_87), (0, .ref (al.2 0 0)), (1, .int x_81), (3, .int x_79), (4, .int l4_83)]) hx hb dX12_back_81 hl (k := 2) rfl (by rw [e_88]; rfl) (by decide) rfl (fun ls hl => ?_)
                refine lv_goto (tgt := 4) hx hb dX12_back_84 (by decide) ?_
                exact ih_4 x_81 x_87 _ _ _ _ _ (lv_sub hl [1, 2, 0] rfl) hG hF1 hF2 hU hS (by omega) (by first | exact sg_o i30_1 (by omega) (by omega) (by omega) | exact sg_o0) (by omega)
              ·
                refine lv_aload_n hx hb dX12_back_37 rfl (lv_at hl 0 rfl) ?_
                refine g_0_46 C hU hG (h1_0 hG) fl_X12_125 dX12_back_38 ?_
                refine lv_iload hx hb dX12_back_41 (lv_at hl 4 rfl) ?_
                refine lv_iload_n hx hb dX12_back_43 rfl (lv_at hl 2 rfl) ?_
                have J_58 : ∀ (v_89 : Int32) (ls : Array Slot), lv_has ls 6 [(0, .ref (al.2 0 0)), (1, .int x_81), (2, .int l2_2), (3, .int x_79), (4, .int l4_83)] → v_89 = sgN (bkV iv) l4_83.toNatClampNeg l2_2.toNatClampNeg → W p l e (rm 13) s m args below meth c H locs 0 0 Q (F0 m 58 ls [.int v_89, .int l4_83, .ref (al.2 39 0)]) := by
                  intro v_89 ls hl i58_0
                  refine lv_iload hx hb dX12_back_58 (lv_at hl 4 rfl) ?_
                  refine lv_iload_n hx hb dX12_back_60 rfl (lv_at hl 2 rfl) ?_
                  refine lv_ishr hx hb dX12_back_61 ?_
                  refine lv_topi (fun x_90 e_91 => ?_)
                  refine lv_iconst (v := 1) hx hb dX12_back_62 (by decide) ?_
                  refine lv_iand hx hb dX12_back_63 ?_
                  refine lv_topi (fun x_92 e_93 => ?_)
                  have te_93 : 0 ≤ x_92.toInt ∧ x_92.toInt ≤ (1 : Int32).toInt := by rw [e_93]; exact and_rng' (by omega)
                  refine lv_iconst (v := 1) hx hb dX12_back_64 (by decide) ?_
                  have J_73 : ∀ (v_94 : Int32) (ls : Array Slot), lv_has ls 6 [(0, .ref (al.2 0 0)), (1, .int x_81), (2, .int l2_2), (3, .int x_79), (4, .int l4_83)] → v_94 = (if (l4_83.toNatClampNeg).testBit (l2_2.toNatClampNeg) = true then x_79 else 0) → W p l e (rm 13) s m args below meth c H locs 0 0 Q (F0 m 73 ls [.int v_94, .int v_89, .int l4_83, .ref (al.2 39 0)]) := by
                    intro v_94 ls hl i73_0
                    refine lv_iadd hx hb dX12_back_73 ?_
                    refine lv_topi (fun x_95 e_96 => ?_)
                    refine s_39 C hU hS (h1_39 hG) (x := l4_83) (by omega) (by omega) dX12_back_74 (fun iv_97 H locs ei_98 hU hS => ?_)
                    have hG : GI al iv_97 rv_85 := by rw [ei_98]; exact hG.puti (show _ ∧ _ from ⟨(fb_rng _).1, Int.le_of_lt_add_one (fb_rng _).2⟩) (nsA (by decide) _)
                    have hF1 : FR ([17, 20, 39, 40], []) iv iv_97 := by rw [ei_98]; exact hF1.put (Or.inl (by decide))
                    obtain ⟨x_99, e_100⟩ : ∃ y : Int32, y = l4_83 + 1 := ⟨_, rfl⟩
                    have te_100 : x_99.toInt = (l4_83 : Int32).toInt + (1 : Int32).toInt := by rw [e_100]; exact fb_addI (by omega) (by omega)
                    refine lv_iinc (v := x_99) (lv' := [(4, .int x_99), (0, .ref (al.2 0 0)), (1, .int x_81), (2, .int l2_2), (3, .int x_79)]) hx hb dX12_back_75 hl (k := 4) rfl (by rw [e_100]; rfl) (by decide) rfl (fun ls hl => ?_)
                    refine lv_goto (tgt := 30) hx hb dX12_back_78 (by decide) ?_
                    exact ih_30 x_99 _ _ _ _ _ (lv_sub hl [1, 2, 3, 4, 0] rfl) hG hF1 hF2 hU hS (by omega) (by first | exact sg_s i30_1 i58_0 i73_0 h11 e_96 ei_98 (by omega) (by omega) (by omega) | exact sg_i0 i4_1 f39) (by omega)
                  refine b_icmp_ne (tgt := 72) hx hb dX12_back_65 (by decide) (fun c_101 => ?_) (fun c_101 => ?_)
                  ·
                    refine lv_iconst (v := 0) hx hb dX12_back_72 (by decide) ?_
                    exact J_73 0 _ (lv_sub hl [0, 1, 2, 3, 4] rfl) (by first | exact sg_b1 e_91 e_93 (by omega) (by omega) (by omega) | exact sg_b0 e_91 e_93 (by omega) (by omega) (by omega))
                  ·
                    refine lv_iload_n hx hb dX12_back_68 rfl (lv_at hl 3 rfl) ?_
                    refine lv_goto (tgt := 73) hx hb dX12_back_69 (by decide) ?_
                    exact J_73 x_79 _ (lv_sub hl [0, 1, 2, 3, 4] rfl) (by first | exact sg_b1 e_91 e_93 (by omega) (by omega) (by omega) | exact sg_b0 e_91 e_93 (by omega) (by omega) (by omega))
                refine b_if_ne (tgt := 51) hx hb dX12_back_44 (by decide) (fun c_102 => ?_) (fun c_102 => ?_)
                ·
                  refine lv_aload_n hx hb dX12_back_51 rfl (lv_at hl 0 rfl) ?_
                  refine g_0_46 C hU hG (h1_0 hG) fl_X12_125 dX12_back_52 ?_
                  refine lv_iload hx hb dX12_back_55 (lv_at hl 4 rfl) ?_
                  refine a_39 C hU hG (h1_39 hG) (x := l4_83) (by omega) (by omega) dX12_back_57 (fun x_103 e_104 => ?_)
                  have te_104 := congrArg Int32.toInt e_104
                  exact J_58 x_103 _ (lv_sub hl [0, 1, 2, 3, 4] rfl) (by first | exact sg_p0 (by omega) | exact sg_p1 i30_1 e_104 (by omega) (by omega) (by omega))
                ·
                  refine lv_iconst (v := 0) hx hb dX12_back_47 (by decide) ?_
                  refine lv_goto (tgt := 58) hx hb dX12_back_48 (by decide) ?_
                  exact J_58 0 _ (lv_sub hl [0, 1, 2, 3, 4] rfl) (by first | exact sg_p0 (by omega) | exact sg_p1 i30_1 True.intro (by omega) (by omega) (by omega))
          exact J_30 _ 0 _ _ _ _ _ (lv_sub hl [2, 1, 3, 4, 0] rfl) hG hF1 hF2 hU hS (by omega) (by first | exact sg_s i30_1 i58_0 i73_0 h11 True.intro True.intro (by omega) (by omega) (by omega) | exact sg_i0 i4_1 f39) (Nat.lt_succ_self _)
        refine b_if_eq (tgt := 24) hx hb dX12_back_17 (by decide) (fun c_105 => ?_) (fun c_105 => ?_)
        ·
          refine lv_iconst (v := 0) hx hb dX12_back_24 (by decide) ?_
          exact J_25 0 _ (lv_sub hl [1, 3, 0] rfl) (by omega)
        ·
          refine lv_iconst (v := 1) hx hb dX12_back_20 (by decide) ?_
          refine lv_goto (tgt := 25) hx hb dX12_back_21 (by decide) ?_
          exact J_25 1 _ (lv_sub hl [1, 3, 0] rfl) (by omega)
  exact J_4 _ 0 0 _ _ _ _ _ (lv_sub hl [2, 1, 0] rfl) hG hF1 hF2 hU hS (by omega) (by first | exact sg_o i30_1 (by omega) (by omega) (by omega) | exact sg_o0) (Nat.lt_succ_self _)
set_option maxHeartbeats 4000000 in
set_option maxRecDepth 100000 in
theorem c_X3_togetherIn_x {l : Launch} {D : va_G} {cA : FieldType → ClassId} {sz : Nat} {al : Al} {iv : Iv} {rv : Rv} (hG : GI al iv rv) (set_ : Int32) (pre0 : 0 ≤ set_.toInt ∧ set_.toInt ≤ 31) : Met l yX3_togetherIn (wd yX3_togetherIn cX3_togetherIn 4 (some .int)) (rm 0) (PcW D cA sz al iv rv [.ref (al.2 84 0), .int set_]) (QI D cA sz al (pI iv rv (fun r => r = tgZ iv set_.toNatClampNeg))) 0 0 (Aq sz) := by
  refine mk_i (by decide) (Nat.le_of_ble_eq_true rfl) rfl ?_
  intro p e s m args below meth c ls Q H locs C hU hS hl hret
  have hx := C.1.1
  have hb := C.1.2.1
  have hl : lv_has ls 4 [(0, .ref (al.2 84 0)), (1, .int set_)] := hl
  have hG0 := hG
  have k0 : (0 : Int32).toInt = 0 := by decide
  have k1 : (1 : Int32).toInt = 1 := by decide
  have k5 : (5 : Int32).toInt = 5 := by decide
  refine lv_iconst (v := 0) hx hb dX3_togetherIn_0 (by decide) ?_
  refine lv_istore_n (lv' := [(2, .int 0), (0, .ref (al.2 84 0)), (1, .int set_)]) hx hb dX3_togetherIn_1 rfl hl (by decide) rfl (fun ls hl => ?_)
  refine lv_iconst (v := 0) hx hb dX3_togetherIn_2 (by decide) ?_
  refine lv_istore_n (lv' := [(3, .int 0), (2, .int 0), (0, .ref (al.2 84 0)), (1, .int set_)]) hx hb dX3_togetherIn_3 rfl hl (by decide) rfl (fun ls hl => ?_)
  have J_4 : ∀ (n_4 : Nat) (l2_1 : Int32) (l3_2 : Int32) (ls : Array Slot), lv_has ls 4 [(0, .ref (al.2 84 0)), (1, .int set_), (2, .int l2_1), (3, .int l3_2)] → (0 ≤ l3_2.toInt ∧ l3_2.toInt ≤ 5) → l2_1 = sgN (fun k => iv 86 0 k) set_.toNatClampNeg l3_2.toNatClampNeg → (5 - l3_2.toInt).toNat < n_4 → W p l e (rm 0) s m args below meth c H locs 0 0 Q (F0 m 4 ls []) := by
    intro n_4
    induction n_4 with
    | zero =>
      intro l2_1 l3_2 ls hl i4_0 i4_1 hm_4
      exact absurd hm_4 (Nat.not_lt_zero _)
    | succ n_4 ih_4 =>
      intro l2_1 l3_2 ls hl i4_0 i4_1 hm_4
      refine lv_iload_n hx hb dX3_togetherIn_4 rfl (lv_at hl 3 rfl) ?_
      refine lv_iconst (v := 5) hx hb dX3_togetherIn_5 (by decide) ?_
      refine b_icmp_ge (tgt := 32) hx hb dX3_togetherIn_6 (by decide) (fun c_3 => ?_) (fun c_3 => ?_)
      ·
        refine lv_iload_n hx hb dX3_togetherIn_32 rfl (lv_at hl 2 rfl) ?_
        exact hret (⟨rfl, rfl, by rw [i4_1, show (l3_2 : Int32).toNatClampNeg = 5 from by rw [clamp_n]; omega]; rfl⟩) hU hS dX3_togetherIn_33
      ·
        refine lv_iload_n hx hb dX3_togetherIn_9 rfl (lv_at hl 1 rfl) ?_
        refine lv_iconst (v := 1) hx hb dX3_togetherIn_10 (by decide) ?_
        refine lv_iload_n hx hb dX3_togetherIn_11 rfl (lv_at hl 3 rfl) ?_
        refine lv_ishl hx hb dX3_togetherIn_12 ?_
        refine lv_topi (fun x_4 e_5 => ?_)
        refine lv_iand hx hb dX3_togetherIn_13 ?_
        refine lv_topi (fun x_6 e_7 => ?_)
        have te_7 : 0 ≤ x_6.toInt ∧ x_6.toInt ≤ (set_ : Int32).toInt := by rw [e_7]; exact and_rng (by omega)
        have J_26 : ∀ (l2_8 : Int32) (ls : Array Slot), lv_has ls 4 [(0, .ref (al.2 84 0)), (1, .int set_), (3, .int l3_2), (2, .int l2_8)] → l2_8 = sgN (fun k => iv 86 0 k) set_.toNatClampNeg (l3_2.toNatClampNeg + 1) → W p l e (rm 0) s m args below meth c H locs 0 0 Q (F0 m 26 ls []) := by
          intro l2_8 ls hl i26_0
          obtain ⟨x_9, e_10⟩ : ∃ y : Int32, y = l3_2 + 1 := ⟨_, rfl⟩
          have te_10 : x_9.toInt = (l3_2 : Int32).toInt + (1 : Int32).toInt := by rw [e_10]; exact fb_addI (by omega) (by omega)
          refine lv_iinc (v := x_9) (lv' := [(3, .int x_9), (0, .ref (al.2 84 0)), (1, .int set_), (2, .int l2_8)]) hx hb dX3_togetherIn_26 hl (k := 2) rfl (by rw [e_10]; rfl) (by decide) rfl (fun ls hl => ?_)
          refine lv_goto (tgt := 4) hx hb dX3_togetherIn_29 (by decide) ?_
          exact ih_4 l2_8 x_9 _ (lv_sub hl [1, 2, 3, 0] rfl) (by omega) (by first | exact tg_up i26_0 (by omega) (by omega) | exact tg_0) (by omega)
        refine b_if_eq (tgt := 26) hx hb dX3_togetherIn_14 (by decide) (fun c_11 => ?_) (fun c_11 => ?_)
        ·
          exact J_26 l2_1 _ (lv_sub hl [0, 1, 3, 2] rfl) (by first | exact tg_y i4_1 e_5 e_7 True.intro True.intro (by omega) (by omega) (by omega) | exact tg_n i4_1 e_5 e_7 (by omega) (by omega) (by omega))
        ·
          refine lv_iload_n hx hb dX3_togetherIn_17 rfl (lv_at hl 2 rfl) ?_
          refine lv_aload_n hx hb dX3_togetherIn_18 rfl (lv_at hl 0 rfl) ?_
          refine g_84_2 C hU hG (h1_84 hG) fl_X3_17 dX3_togetherIn_19 ?_
          refine lv_iload_n hx hb dX3_togetherIn_22 rfl (lv_at hl 3 rfl) ?_
          refine a_86 C hU hG (h1_86 hG) (x := l3_2) (by omega) (by omega) dX3_togetherIn_23 (fun x_12 e_13 => ?_)
          have te_13 := congrArg Int32.toInt e_13
          refine lv_iadd hx hb dX3_togetherIn_24 ?_
          refine lv_topi (fun x_14 e_15 => ?_)
          refine lv_istore_n (lv' := [(2, .int x_14), (0, .ref (al.2 84 0)), (1, .int set_), (3, .int l3_2)]) hx hb dX3_togetherIn_25 rfl hl (by decide) rfl (fun ls hl => ?_)
          exact J_26 x_14 _ (lv_sub hl [1, 2, 3, 0] rfl) (by first | exact tg_y i4_1 e_5 e_7 e_13 e_15 (by omega) (by omega) (by omega) | exact tg_n i4_1 e_5 e_7 (by omega) (by omega) (by omega))
  exact J_4 _ 0 0 _ (lv_sub hl [2, 3, 1, 0] rfl) (by omega) (by first | exact tg_up i26_0 (by omega) (by omega) | exact tg_0) (Nat.lt_succ_self _)
set_option maxHeartbeats 4000000 in
set_option maxRecDepth 100000 in
theorem c_X3_fewestPayments_x {l : Launch} {D : va_G} {cA : FieldType → ClassId} {sz : Nat} {al : Al} {iv : Iv} {rv : Rv} (hG : GI al iv rv) (pre0 : iv 87 0 0 = 0) : Met l yX3_fewestPayments (wd yX3_fewestPayments cX3_fewestPayments 6 (some .int)) (rm 1) (PcW D cA sz al iv rv [.ref (al.2 84 0)]) (QI D cA sz al (fI al ([87], []) iv rv (fun r iv' rv' => bkC (tgZ iv) (fun k => iv' 87 0 k) r ∧ iv' 87 0 0 = 0))) 0 0 (Aq sz) := by
  refine mk_i (by decide) (Nat.le_of_ble_eq_true rfl) rfl ?_
  intro p e s m args below meth c ls Q H locs C hU hS hl hret
  have hx := C.1.1
  have hb := C.1.2.1
  have hl : lv_has ls 6 [(0, .ref (al.2 84 0))] := hl
  have hG0 := hG
  have hF1 : FR ([87], []) iv iv := FR.rf
  have hF2 : FR ([87], []) rv rv := FR.rf
  have km9 : ((-9) : Int32).toInt = -9 := by decide
  have km1 : ((-1) : Int32).toInt = -1 := by decide
  have k0 : (0 : Int32).toInt = 0 := by decide
  have k1 : (1 : Int32).toInt = 1 := by decide
  have k5 : (5 : Int32).toInt = 5 := by decide
  have k31 : (31 : Int32).toInt = 31 := by decide
  have k32 : (32 : Int32).toInt = 32 := by decide
  refine lv_bipush (v := 31) hx hb dX3_fewestPayments_0 (by decide) ?_
  refine lv_istore_n (lv' := [(1, .int 31), (0, .ref (al.2 84 0))]) hx hb dX3_fewestPayments_2 rfl hl (by decide) rfl (fun ls hl => ?_)
  refine lv_aload_n hx hb dX3_fewestPayments_3 rfl (lv_at hl 1 rfl) ?_
  refine lv_iload_n hx hb dX3_fewestPayments_4 rfl (lv_at hl 0 rfl) ?_
  refine q_pi (q_runV (t := 84) (i := 0) (As := [.int 31]) (rest := []) C hU (c_X3_togetherIn_x hG 31 (by omega)) vm_X3_togetherIn ml_X3_48 k_84.1 (hc := rfl) rfl (h1_84 hG) hl.1 rfl rfl (Nat.le_of_ble_eq_true rfl) dX3_fewestPayments_5 rfl rfl ⟨Nat.le_of_ble_eq_true rfl, Nat.le_of_ble_eq_true rfl⟩ ⟨Nat.le_refl _, Nat.le_refl _⟩) hS (fun x_2 H locs hp_1 hU hS => ?_)
  have h5 : x_2 = tgZ iv 31 := by rw [hp_1, show (31 : Int32).toNatClampNeg = 31 from by decide]
  have t5 := congrArg Int32.toInt h5
  refine b_if_eq (tgt := 14) hx hb dX3_fewestPayments_8 (by decide) (fun c_3 => ?_) (fun c_3 => ?_)
  ·
    refine lv_iconst (v := 1) hx hb dX3_fewestPayments_14 (by decide) ?_
    refine lv_istore_n (lv' := [(2, .int 1), (1, .int 31), (0, .ref (al.2 84 0))]) hx hb dX3_fewestPayments_15 rfl hl (by decide) rfl (fun ls hl => ?_)
    have J_16 : ∀ (n_16 : Nat) (l2_4 : Int32) (iv_5 : Iv) (rv_6 : Rv) (H : Heap) (locs : List Loc) (ls : Array Slot), lv_has ls 6 [(0, .ref (al.2 84 0)), (1, .int 31), (2, .int l2_4)] → GI al iv_5 rv_6 → FR ([87], []) iv iv_5 → FR ([87], []) rv rv_6 → UW D cA sz al iv_5 rv_6 H → va_S (Aq sz) s.heap H locs → (1 ≤ l2_4.toInt ∧ l2_4.toInt ≤ 32) → (iv_5 87 0 0 = 0 ∧ cpI (tgZ iv) iv_5 l2_4.toNatClampNeg) → (32 - l2_4.toInt).toNat < n_16 → W p l e (rm 1) s m args below meth c H locs 0 0 Q (F0 m 16 ls []) := by
      intro n_16
      induction n_16 with
      | zero =>
        intro l2_4 iv_5 rv_6 H locs ls hl hG hF1 hF2 hU hS i16_0 i16_1 hm_16
        exact absurd hm_16 (Nat.not_lt_zero _)
      | succ n_16 ih_16 =>
        intro l2_4 iv_5 rv_6 H locs ls hl hG hF1 hF2 hU hS i16_0 i16_1 hm_16
        refine lv_iload_n hx hb dX3_fewestPayments_16 rfl (lv_at hl 2 rfl) ?_
        refine lv_bipush (v := 32) hx hb dX3_fewestPayments_17 (by decide) ?_
        refine b_icmp_ge (tgt := 94) hx hb dX3_fewestPayments_19 (by decide) (fun c_7 => ?_) (fun c_7 => ?_)
        ·
          refine lv_iconst (v := 5) hx hb dX3_fewestPayments_94 (by decide) ?_
          refine lv_aload_n hx hb dX3_fewestPayments_95 rfl (lv_at hl 0 rfl) ?_
          refine g_84_3 C hU hG (h1_84 hG) fl_X3_21 dX3_fewestPayments_96 ?_
          refine lv_iload_n hx hb dX3_fewestPayments_99 rfl (lv_at hl 1 rfl) ?_
          refine a_87 C hU hG (h1_87 hG) (x := 31) (by omega) (by omega) dX3_fewestPayments_100 (fun x_8 e_9 => ?_)
          have te_9 := congrArg Int32.toInt e_9
          refine lv_isub hx hb dX3_fewestPayments_101 ?_
          refine lv_topi (fun x_10 e_11 => ?_)
          exact hret (⟨hG, hF1, hF2, ⟨cp_ret i16_1 (by omega) (by omega) e_9 e_11, i16_1.1⟩⟩) hU hS dX3_fewestPayments_102
        ·
          refine lv_iconst (v := 0) hx hb dX3_fewestPayments_22 (by decide) ?_
          refine lv_istore_n (lv' := [(3, .int 0), (0, .ref (al.2 84 0)), (1, .int 31), (2, .int l2_4)]) hx hb dX3_fewestPayments_23 rfl hl (by decide) rfl (fun ls hl => ?_)
          refine lv_iconst (v := 0) hx hb dX3_fewestPayments_24 (by decide) ?_
          refine lv_istore (lv' := [(4, .int 0), (3, .int 0), (0, .ref (al.2 84 0)), (1, .int 31), (2, .int l2_4)]) hx hb dX3_fewestPayments_25 hl (by decide) rfl (fun ls hl => ?_)
          have J_27 : ∀ (n_27 : Nat) (l3_12 : Int32) (l4_13 : Int32) (H : Heap) (locs : List Loc) (ls : Array Slot), lv_has ls 6 [(0, .ref (al.2 84 0)), (1, .int 31), (2, .int l2_4), (3, .int l3_12), (4, .int l4_13)] → UW D cA sz al iv_5 rv_6 H → va_S (Aq sz) s.heap H locs → (0 ≤ l4_13.toInt ∧ l4_13.toInt ≤ 5) → l3_12 = mst (fun k => iv_5 87 0 k) l2_4.toNatClampNeg l4_13.toNatClampNeg → (5 - l4_13.toInt).toNat < n_27 → W p l e (rm 1) s m args below meth c H locs 0 0 Q (F0 m 27 ls []) := by
            intro n_27
            induction n_27 with
            | zero =>
              intro l3_12 l4_13 H locs ls hl hU hS i27_0 i27_1 hm_27
              exact absurd hm_27 (Nat.not_lt_zero _)
            | succ n_27 ih_27 =>
              intro l3_12 l4_13 H locs ls hl hU hS i27_0 i27_1 hm_27
              refine lv_iload hx hb dX3_fewestPayments_27 (lv_at hl 4 rfl) ?_
              refine lv_iconst (v := 5) hx hb dX3_fewestPayments_29 (by decide) ?_
              refine b_icmp_ge (tgt := 67) hx hb dX3_fewestPayments_30 (by decide) (fun c_14 => ?_) (fun c_14 => ?_)
              ·
                have hm5 : l3_12 = mst (fun k => iv_5 87 0 k) l2_4.toNatClampNeg 5 := by rw [i27_1, show (l4_13 : Int32).toNatClampNeg = 5 from by rw [clamp_n]; omega]
                refine lv_aload_n hx hb dX3_fewestPayments_67 rfl (lv_at hl 0 rfl) ?_
                refine g_84_3 C hU hG (h1_84 hG) fl_X3_21 dX3_fewestPayments_68 ?_
                refine lv_iload_n hx hb dX3_fewestPayments_71 rfl (lv_at hl 2 rfl) ?_
                refine lv_aload_n hx hb dX3_fewestPayments_72 rfl (lv_at hl 0 rfl) ?_
                refine lv_iload_n hx hb dX3_fewestPayments_73 rfl (lv_at hl 2 rfl) ?_
                refine q_pi (q_runV (t := 84) (i := 0) (As := [.int l2_4]) (rest := [.int l2_4, .ref (al.2 87 0)]) C hU (c_X3_togetherIn_x hG l2_4 (by omega)) vm_X3_togetherIn ml_X3_48 k_84.1 (hc := rfl) rfl (h1_84 hG) hl.1 rfl rfl (Nat.le_of_ble_eq_true rfl) dX3_fewestPayments_74 rfl rfl ⟨Nat.le_of_ble_eq_true rfl, Nat.le_of_ble_eq_true rfl⟩ ⟨Nat.le_refl _, Nat.le_refl _⟩) hS (fun x_16 H locs hp_15 hU hS => ?_)
                have h74 : x_16 = tgZ iv l2_4.toNatClampNeg := hp_15.trans (tg_f (fun k => hF1.arr 86 0 k (by decide)) _)
                have t74 := congrArg Int32.toInt h74
                have J_87 : ∀ (v_17 : Int32) (ls : Array Slot), lv_has ls 6 [(0, .ref (al.2 84 0)), (1, .int 31), (2, .int l2_4)] → v_17 = pst (fun k => iv_5 87 0 k) (tgZ iv) l2_4.toNatClampNeg → W p l e (rm 1) s m args below meth c H locs 0 0 Q (F0 m 87 ls [.int v_17, .int l2_4, .ref (al.2 87 0)]) := by
                  intro v_17 ls hl i87_0
                  refine s_87 C hU hS (h1_87 hG) (x := l2_4) (by omega) (by omega) dX3_fewestPayments_87 (fun iv_18 H locs ei_19 hU hS => ?_)
                  have hG : GI al iv_18 rv_6 := by rw [ei_19]; exact hG.puti (show _ ∧ _ from ⟨(fb_rng _).1, Int.le_of_lt_add_one (fb_rng _).2⟩) (nsA (by decide) _)
                  have hF1 : FR ([87], []) iv iv_18 := by rw [ei_19]; exact hF1.put (Or.inl (by decide))
                  obtain ⟨x_20, e_21⟩ : ∃ y : Int32, y = l2_4 + 1 := ⟨_, rfl⟩
                  have te_21 : x_20.toInt = (l2_4 : Int32).toInt + (1 : Int32).toInt := by rw [e_21]; exact fb_addI (by omega) (by omega)
                  refine lv_iinc (v := x_20) (lv' := [(2, .int x_20), (0, .ref (al.2 84 0)), (1, .int 31)]) hx hb dX3_fewestPayments_88 hl (k := 2) rfl (by rw [e_21]; rfl) (by decide) rfl (fun ls hl => ?_)
                  refine lv_goto (tgt := 16) hx hb dX3_fewestPayments_91 (by decide) ?_
                  exact ih_16 x_20 _ _ _ _ _ (lv_sub hl [1, 2, 0] rfl) hG hF1 hF2 hU hS (by omega) (by first | exact cp_s i16_1 i87_0 ei_19 (by omega) (by omega) (by omega) | exact cp_0 pre0) (by omega)
                refine b_if_ne (tgt := 86) hx hb dX3_fewestPayments_77 (by decide) (fun c_22 => ?_) (fun c_22 => ?_)
                ·
                  refine lv_iload_n hx hb dX3_fewestPayments_86 rfl (lv_at hl 3 rfl) ?_
                  exact J_87 l3_12 _ (lv_sub hl [0, 1, 2] rfl) (by first | exact ps_y hm5 True.intro (by omega) | exact ps_n hm5 (by omega))
                ·
                  refine lv_iload_n hx hb dX3_fewestPayments_80 rfl (lv_at hl 3 rfl) ?_
                  refine lv_iconst (v := 1) hx hb dX3_fewestPayments_81 (by decide) ?_
                  refine lv_iadd hx hb dX3_fewestPayments_82 ?_
                  refine lv_topi (fun x_23 e_24 => ?_)
                  refine lv_goto (tgt := 87) hx hb dX3_fewestPayments_83 (by decide) ?_
                  exact J_87 x_23 _ (lv_sub hl [0, 1, 2] rfl) (by first | exact ps_y hm5 e_24 (by omega) | exact ps_n hm5 (by omega))
              ·
                refine lv_iload_n hx hb dX3_fewestPayments_33 rfl (lv_at hl 2 rfl) ?_
                refine lv_iconst (v := 1) hx hb dX3_fewestPayments_34 (by decide) ?_
                refine lv_iload hx hb dX3_fewestPayments_35 (lv_at hl 4 rfl) ?_
                refine lv_ishl hx hb dX3_fewestPayments_37 ?_
                refine lv_topi (fun x_25 e_26 => ?_)
                refine lv_iconst (v := (-1)) hx hb dX3_fewestPayments_38 (by decide) ?_
                refine lv_ixor hx hb dX3_fewestPayments_39 ?_
                refine lv_topi (fun x_27 e_28 => ?_)
                refine lv_iand hx hb dX3_fewestPayments_40 ?_
                refine lv_topi (fun x_29 e_30 => ?_)
                have te_30 : 0 ≤ x_29.toInt ∧ x_29.toInt ≤ (l2_4 : Int32).toInt := by rw [e_30]; exact and_rng (by omega)
                have hu := sbk_p e_26 e_28 e_30 (by omega) (by omega)
                refine lv_istore (lv' := [(5, .int x_29), (0, .ref (al.2 84 0)), (1, .int 31), (2, .int l2_4), (3, .int l3_12), (4, .int l4_13)]) hx hb dX3_fewestPayments_41 hl (by decide) rfl (fun ls hl => ?_)
                refine lv_iload hx hb dX3_fewestPayments_43 (lv_at hl 0 rfl) ?_
                refine lv_iload_n hx hb dX3_fewestPayments_45 rfl (lv_at hl 3 rfl) ?_
                have J_61 : ∀ (l3_31 : Int32) (H : Heap) (locs : List Loc) (ls : Array Slot), lv_has ls 6 [(0, .ref (al.2 84 0)), (1, .int 31), (2, .int l2_4), (4, .int l4_13), (3, .int l3_31)] → UW D cA sz al iv_5 rv_6 H → va_S (Aq sz) s.heap H locs → l3_31 = mst (fun k => iv_5 87 0 k) l2_4.toNatClampNeg (l4_13.toNatClampNeg + 1) → W p l e (rm 1) s m args below meth c H locs 0 0 Q (F0 m 61 ls []) := by
                  intro l3_31 H locs ls hl hU hS i61_0
                  obtain ⟨x_32, e_33⟩ : ∃ y : Int32, y = l4_13 + 1 := ⟨_, rfl⟩
                  have te_33 : x_32.toInt = (l4_13 : Int32).toInt + (1 : Int32).toInt := by rw [e_33]; exact fb_addI (by omega) (by omega)
                  refine lv_iinc (v := x_32) (lv' := [(4, .int x_32), (0, .ref (al.2 84 0)), (1, .int 31), (2, .int l2_4), (3, .int l3_31)]) hx hb dX3_fewestPayments_61 hl (k := 3) rfl (by rw [e_33]; rfl) (by decide) rfl (fun ls hl => ?_)
                  refine lv_goto (tgt := 27) hx hb dX3_fewestPayments_64 (by decide) ?_
                  exact ih_27 l3_31 x_32 _ _ _ (lv_sub hl [1, 2, 3, 4, 0] rfl) hU hS (by omega) (by first | exact mo_up i61_0 (by omega) (by omega) | exact mo_0) (by omega)
                refine b_icmp_eq (tgt := 61) hx hb dX3_fewestPayments_46 (by decide) (fun c_34 => ?_) (fun c_34 => ?_)
                ·
                  exact J_61 l3_12 _ _ _ (lv_sub hl [1, 2, 3, 5, 4] rfl) hU hS (by first | exact mo_y i27_1 hu h56 tTrue.intro (by omega) (by omega) (by omega) | exact mo_n i27_1 hu (by omega))
                ·
                  refine lv_iload_n hx hb dX3_fewestPayments_49 rfl (lv_at hl 4 rfl) ?_
                  refine lv_aload_n hx hb dX3_fewestPayments_50 rfl (lv_at hl 1 rfl) ?_
                  refine g_84_3 C hU hG (h1_84 hG) fl_X3_21 dX3_fewestPayments_51 ?_
                  refine lv_iload hx hb dX3_fewestPayments_54 (lv_at hl 0 rfl) ?_
                  refine a_87 C hU hG (h1_87 hG) (x := x_29) (by omega) (by omega) dX3_fewestPayments_56 (fun x_35 e_36 => ?_)
                  have te_36 := congrArg Int32.toInt e_36
                  have h56 : x_35 = iv_5 87 0 (sbt l2_4.toNatClampNeg (2 ^ l4_13.toNatClampNeg)) := by rw [e_36, hu]
                  refine q_max C hl.1 ml_X3_52 (Nat.le_of_ble_eq_true rfl) (Nat.le_of_ble_eq_true rfl) (Nat.le_refl _) (Nat.le_refl _) dX3_fewestPayments_57 (fun x_37 q_38 tq_38 => ?_)
                  refine lv_istore_n (lv' := [(3, .int x_37), (5, .int x_29), (0, .ref (al.2 84 0)), (1, .int 31), (2, .int l2_4), (4, .int l4_13)]) hx hb dX3_fewestPayments_60 rfl hl (by decide) rfl (fun ls hl => ?_)
                  exact J_61 x_37 _ _ _ (lv_sub hl [2, 3, 4, 5, 0] rfl) hU hS (by first | exact mo_y i27_1 hu h56 tq_38 (by omega) (by omega) (by omega) | exact mo_n i27_1 hu (by omega))
          exact J_27 _ 0 0 _ _ _ (lv_sub hl [2, 3, 4, 1, 0] rfl) hU hS (by omega) (by first | exact mo_up i61_0 (by omega) (by omega) | exact mo_0) (Nat.lt_succ_self _)
    exact J_16 _ 1 _ _ _ _ _ (lv_sub hl [2, 1, 0] rfl) hG hF1 hF2 hU hS (by omega) (by first | exact cp_s i16_1 i87_0 True.intro (by omega) (by omega) (by omega) | exact cp_0 pre0) (Nat.lt_succ_self _)
  ·
    refine lv_bipush (v := (-9)) hx hb dX3_fewestPayments_11 (by decide) ?_
    exact hret (⟨hG, hF1, hF2, ⟨Or.inl ⟨by omega, rfl⟩, pre0⟩⟩) hU hS dX3_fewestPayments_13
