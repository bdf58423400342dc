section
set_option maxHeartbeats 4000000 in
set_option maxRecDepth 100000 in
theorem c_J7_fill_53178_59 {l : Launch} {D : va_G} {cA : FieldType → ClassId} {sz : Nat} {al : Al} {iv : Iv} {rv : Rv} (hG : GI al iv rv) (v : Int32) : Met l yJ7_fill_53178 (wd yJ7_fill_53178 cJ7_fill_53178 4 none) (rm 0) (PcW D cA sz al iv rv [.ref (al.2 59 0), .int v]) (QV D cA sz al (fV al ([59], []) iv rv (fun iv' rv' => True))) 0 0 (Aq sz) := by
  refine mk_v (by decide) (Nat.le_of_ble_eq_true rfl) rfl ?_
  intro p e s m args below meth c ls Q H locs C hU hS hl hret
  have hx := C.1.1
  have hb := C.1.2.1
  have hl : lv_has ls 4 [(0, .ref (al.2 59 0)), (1, .int v)] := hl
  have hG0 := hG
  have hF1 : FR ([59], []) iv iv := FR.rf
  have hF2 : FR ([59], []) rv rv := FR.rf
  have k0 : (0 : Int32).toInt = 0 := by decide
  have k1 : (1 : Int32).toInt = 1 := by decide
  have k6 : (6 : Int32).toInt = 6 := by decide
  refine lv_iconst (v := 0) hx hb dJ7_fill_53178_0 (by decide) ?_
  refine lv_istore_n (lv' := [(2, .int 0), (0, .ref (al.2 59 0)), (1, .int v)]) hx hb dJ7_fill_53178_1 rfl hl (by decide) rfl (fun ls hl => ?_)
  refine lv_aload_n hx hb dJ7_fill_53178_2 rfl (lv_at hl 1 rfl) ?_
  refine q_alen (t := 59) (v := 6) C hU k_59 (by decide) (h1_59 hG) (by decide) dJ7_fill_53178_3 ?_
  refine lv_istore_n (lv' := [(3, .int 6), (2, .int 0), (0, .ref (al.2 59 0)), (1, .int v)]) hx hb dJ7_fill_53178_4 rfl hl (by decide) rfl (fun ls hl => ?_)
  have J_5 : ∀ (n_5 : Nat) (l2_1 : Int32) (iv_2 : Iv) (rv_3 : Rv) (H : Heap) (locs : List Loc) (ls : Array Slot), lv_has ls 4 [(0, .ref (al.2 59 0)), (1, .int v), (3, .int 6), (2, .int l2_1)] → GI al iv_2 rv_3 → FR ([59], []) iv iv_2 → FR ([59], []) rv rv_3 → UW D cA sz al iv_2 rv_3 H → va_S (Aq sz) s.heap H locs → (0 ≤ l2_1.toInt ∧ l2_1.toInt ≤ 6) → (6 - l2_1.toInt).toNat < n_5 → W p l e (rm 0) s m args below meth c H locs 0 0 Q (F0 m 5 ls []) := by
    intro n_5
    induction n_5 with
    | zero =>
      intro l2_1 iv_2 rv_3 H locs ls hl hG hF1 hF2 hU hS i5_0 hm_5
      exact absurd hm_5 (Nat.not_lt_zero _)
    | succ n_5 ih_5 =>
      intro l2_1 iv_2 rv_3 H locs ls hl hG hF1 hF2 hU hS i5_0 hm_5
      refine lv_iload_n hx hb dJ7_fill_53178_5 rfl (lv_at hl 3 rfl) ?_
      refine lv_iload_n hx hb dJ7_fill_53178_6 rfl (lv_at hl 2 rfl) ?_
      refine b_icmp_ge (tgt := 20) hx hb dJ7_fill_53178_7 (by decide) (fun c_4 => ?_) (fun c_4 => ?_)
      ·
        exact hret (⟨hG, hF1, hF2, trivial⟩) hU hS dJ7_fill_53178_20
      ·
        refine lv_aload_n hx hb dJ7_fill_53178_10 rfl (lv_at hl 0 rfl) ?_
        refine lv_iload_n hx hb dJ7_fill_53178_11 rfl (lv_at hl 3 rfl) ?_
        refine lv_iload_n hx hb dJ7_fill_53178_12 rfl (lv_at hl 1 rfl) ?_
        refine s_59 C hU hS (h1_59 hG) (x := l2_1) (by omega) (by omega) dJ7_fill_53178_13 (fun iv_5 H locs ei_6 hU hS => ?_)
        have hG : GI al iv_5 rv_3 := by rw [ei_6]; exact hG.puti (show _ ∧ _ from ⟨(fb_rng _).1, Int.le_of_lt_add_one (fb_rng _).2⟩) (nsA (by decide) _)
        have hF1 : FR ([59], []) iv iv_5 := by rw [ei_6]; exact hF1.put (Or.inl (by decide))
        obtain ⟨x_7, e_8⟩ : ∃ y : Int32, y = l2_1 + 1 := ⟨_, rfl⟩
        have te_8 : x_7.toInt = (l2_1 : Int32).toInt + (1 : Int32).toInt := by rw [e_8]; exact fb_addI (by omega) (by omega)
        refine lv_iinc (v := x_7) (lv' := [(2, .int x_7), (0, .ref (al.2 59 0)), (1, .int v), (3, .int 6)]) hx hb dJ7_fill_53178_14 hl (k := 3) rfl (by rw [e_8]; rfl) (by decide) rfl (fun ls hl => ?_)
        refine lv_goto (tgt := 5) hx hb dJ7_fill_53178_17 (by decide) ?_
        exact ih_5 x_7 _ _ _ _ _ (lv_sub hl [1, 2, 3, 0] rfl) hG hF1 hF2 hU hS (by omega) (by omega)
  exact J_5 _ 0 _ _ _ _ _ (lv_sub hl [2, 3, 0, 1] rfl) hG hF1 hF2 hU hS (by omega) (Nat.lt_succ_self _)
set_option maxHeartbeats 4000000 in
set_option maxRecDepth 100000 in
theorem c_J7_fill_53178_86 {l : Launch} {D : va_G} {cA : FieldType → ClassId} {sz : Nat} {al : Al} {iv : Iv} {rv : Rv} (hG : GI al iv rv) (v : Int32) : Met l yJ7_fill_53178 (wd yJ7_fill_53178 cJ7_fill_53178 4 none) (rm 0) (PcW D cA sz al iv rv [.ref (al.2 86 0), .int v]) (QV D cA sz al (fV al ([86], []) iv rv (fun iv' rv' => True))) 0 0 (Aq sz) := by
  refine mk_v (by decide) (Nat.le_of_ble_eq_true rfl) rfl ?_
  intro p e s m args below meth c ls Q H locs C hU hS hl hret
  have hx := C.1.1
  have hb := C.1.2.1
  have hl : lv_has ls 4 [(0, .ref (al.2 86 0)), (1, .int v)] := hl
  have hG0 := hG
  have hF1 : FR ([86], []) iv iv := FR.rf
  have hF2 : FR ([86], []) rv rv := FR.rf
  have k0 : (0 : Int32).toInt = 0 := by decide
  have k1 : (1 : Int32).toInt = 1 := by decide
  have k5 : (5 : Int32).toInt = 5 := by decide
  refine lv_iconst (v := 0) hx hb dJ7_fill_53178_0 (by decide) ?_
  refine lv_istore_n (lv' := [(2, .int 0), (0, .ref (al.2 86 0)), (1, .int v)]) hx hb dJ7_fill_53178_1 rfl hl (by decide) rfl (fun ls hl => ?_)
  refine lv_aload_n hx hb dJ7_fill_53178_2 rfl (lv_at hl 1 rfl) ?_
  refine q_alen (t := 86) (v := 5) C hU k_86 (by decide) (h1_86 hG) (by decide) dJ7_fill_53178_3 ?_
  refine lv_istore_n (lv' := [(3, .int 5), (2, .int 0), (0, .ref (al.2 86 0)), (1, .int v)]) hx hb dJ7_fill_53178_4 rfl hl (by decide) rfl (fun ls hl => ?_)
  have J_5 : ∀ (n_5 : Nat) (l2_1 : Int32) (iv_2 : Iv) (rv_3 : Rv) (H : Heap) (locs : List Loc) (ls : Array Slot), lv_has ls 4 [(0, .ref (al.2 86 0)), (1, .int v), (3, .int 5), (2, .int l2_1)] → GI al iv_2 rv_3 → FR ([86], []) iv iv_2 → FR ([86], []) rv rv_3 → UW D cA sz al iv_2 rv_3 H → va_S (Aq sz) s.heap H locs → (0 ≤ l2_1.toInt ∧ l2_1.toInt ≤ 5) → (5 - l2_1.toInt).toNat < n_5 → W p l e (rm 0) s m args below meth c H locs 0 0 Q (F0 m 5 ls []) := by
    intro n_5
    induction n_5 with
    | zero =>
      intro l2_1 iv_2 rv_3 H locs ls hl hG hF1 hF2 hU hS i5_0 hm_5
      exact absurd hm_5 (Nat.not_lt_zero _)
    | succ n_5 ih_5 =>
      intro l2_1 iv_2 rv_3 H locs ls hl hG hF1 hF2 hU hS i5_0 hm_5
      refine lv_iload_n hx hb dJ7_fill_53178_5 rfl (lv_at hl 3 rfl) ?_
      refine lv_iload_n hx hb dJ7_fill_53178_6 rfl (lv_at hl 2 rfl) ?_
      refine b_icmp_ge (tgt := 20) hx hb dJ7_fill_53178_7 (by decide) (fun c_4 => ?_) (fun c_4 => ?_)
      ·
        exact hret (⟨hG, hF1, hF2, trivial⟩) hU hS dJ7_fill_53178_20
      ·
        refine lv_aload_n hx hb dJ7_fill_53178_10 rfl (lv_at hl 0 rfl) ?_
        refine lv_iload_n hx hb dJ7_fill_53178_11 rfl (lv_at hl 3 rfl) ?_
        refine lv_iload_n hx hb dJ7_fill_53178_12 rfl (lv_at hl 1 rfl) ?_
        refine s_86 C hU hS (h1_86 hG) (x := l2_1) (by omega) (by omega) dJ7_fill_53178_13 (fun iv_5 H locs ei_6 hU hS => ?_)
        have hG : GI al iv_5 rv_3 := by rw [ei_6]; exact hG.puti (show _ ∧ _ from ⟨(fb_rng _).1, Int.le_of_lt_add_one (fb_rng _).2⟩) (nsA (by decide) _)
        have hF1 : FR ([86], []) iv iv_5 := by rw [ei_6]; exact hF1.put (Or.inl (by decide))
        obtain ⟨x_7, e_8⟩ : ∃ y : Int32, y = l2_1 + 1 := ⟨_, rfl⟩
        have te_8 : x_7.toInt = (l2_1 : Int32).toInt + (1 : Int32).toInt := by rw [e_8]; exact fb_addI (by omega) (by omega)
        refine lv_iinc (v := x_7) (lv' := [(2, .int x_7), (0, .ref (al.2 86 0)), (1, .int v), (3, .int 5)]) hx hb dJ7_fill_53178_14 hl (k := 3) rfl (by rw [e_8]; rfl) (by decide) rfl (fun ls hl => ?_)
        refine lv_goto (tgt := 5) hx hb dJ7_fill_53178_17 (by decide) ?_
        exact ih_5 x_7 _ _ _ _ _ (lv_sub hl [1, 2, 3, 0] rfl) hG hF1 hF2 hU hS (by omega) (by omega)
  exact J_5 _ 0 _ _ _ _ _ (lv_sub hl [2, 3, 0, 1] rfl) hG hF1 hF2 hU hS (by omega) (Nat.lt_succ_self _)
set_option maxHeartbeats 4000000 in
set_option maxRecDepth 100000 in
theorem c_X11_isOneOf {l : Launch} {D : va_G} {cA : FieldType → ClassId} {sz : Nat} {al : Al} {iv : Iv} {rv : Rv} (many : Int32) (num : Int32) : Met l yX11_isOneOf (wd yX11_isOneOf cX11_isOneOf 2 (some .boolean)) (rm 0) (PcW D cA sz al iv rv [.int many, .int num]) (QI D cA sz al (pI iv rv (fun r => (0 ≤ r.toInt ∧ r.toInt ≤ 1) ∧ (((0 ≤ num.toInt ∧ num.toInt < many.toInt) ∧ r.toInt = 1) ∨ ((¬ (0 ≤ num.toInt ∧ num.toInt < many.toInt)) ∧ r.toInt = 0))))) 0 0 (Aq sz) := by
  refine mk_z (by decide) (Nat.le_of_ble_eq_true rfl) rfl ?_
  intro p e s m args below meth c ls Q H locs C hU hS hl hret
  have hx := C.1.1
  have hb := C.1.2.1
  have hl : lv_has ls 2 [(0, .int many), (1, .int num)] := hl
  have k0 : (0 : Int32).toInt = 0 := by decide
  have k1 : (1 : Int32).toInt = 1 := by decide
  refine lv_iload_n hx hb dX11_isOneOf_0 rfl (lv_at hl 1 rfl) ?_
  refine b_if_lt (tgt := 13) hx hb dX11_isOneOf_1 (by decide) (fun c_1 => ?_) (fun c_1 => ?_)
  ·
    refine lv_iconst (v := 0) hx hb dX11_isOneOf_13 (by decide) ?_
    exact hret (by omega) (by omega) (⟨rfl, rfl, ⟨⟨by omega, by omega⟩, by omega⟩⟩) hU hS dX11_isOneOf_14
  ·
    refine lv_iload_n hx hb dX11_isOneOf_4 rfl (lv_at hl 1 rfl) ?_
    refine lv_iload_n hx hb dX11_isOneOf_5 rfl (lv_at hl 0 rfl) ?_
    refine b_icmp_ge (tgt := 13) hx hb dX11_isOneOf_6 (by decide) (fun c_2 => ?_) (fun c_2 => ?_)
    ·
      refine lv_iconst (v := 0) hx hb dX11_isOneOf_13 (by decide) ?_
      exact hret (by omega) (by omega) (⟨rfl, rfl, ⟨⟨by omega, by omega⟩, by omega⟩⟩) hU hS dX11_isOneOf_14
    ·
      refine lv_iconst (v := 1) hx hb dX11_isOneOf_9 (by decide) ?_
      refine lv_goto (tgt := 14) hx hb dX11_isOneOf_10 (by decide) ?_
      exact hret (by omega) (by omega) (⟨rfl, rfl, ⟨⟨by omega, by omega⟩, by omega⟩⟩) hU hS dX11_isOneOf_14
set_option maxHeartbeats 4000000 in
set_option maxRecDepth 100000 in
theorem c_X11_refuse {l : Launch} {D : va_G} {cA : FieldType → ClassId} {sz : Nat} {al : Al} {iv : Iv} {rv : Rv} (hG : GI al iv rv) (num : Int32) (pre0 : -6 ≤ num.toInt ∧ num.toInt ≤ -1) : Met l yX11_refuse (wd yX11_refuse cX11_refuse 3 (some .int)) (rm 1) (PcW D cA sz al iv rv [.ref (al.2 49 0), .int num]) (QI D cA sz al (fI al ([51], []) iv rv (fun r iv' rv' => r = num))) 0 0 (Aq sz) := by
  refine mk_i (by decide) (Nat.le_of_ble_eq_true rfl) rfl ?_
  intro p e s m args below meth c ls Q H locs C hU hS hl hret
  have hx := C.1.1
  have hb := C.1.2.1
  have hl : lv_has ls 3 [(0, .ref (al.2 49 0)), (1, .int num)] := hl
  have hG0 := hG
  have hF1 : FR ([51], []) iv iv := FR.rf
  have hF2 : FR ([51], []) rv rv := FR.rf
  have k1 : (1 : Int32).toInt = 1 := by decide
  have k7 : (7 : Int32).toInt = 7 := by decide
  refine lv_iload_n hx hb dX11_refuse_0 rfl (lv_at hl 1 rfl) ?_
  refine lv_ineg hx hb dX11_refuse_1 ?_
  refine lv_topi (fun x_1 e_2 => ?_)
  have te_2 : x_1.toInt = -(num : Int32).toInt := by rw [e_2]; exact fb_negI (by omega)
  refine lv_istore_n (lv' := [(2, .int x_1), (0, .ref (al.2 49 0)), (1, .int num)]) hx hb dX11_refuse_2 rfl hl (by decide) rfl (fun ls hl => ?_)
  refine lv_aload_n hx hb dX11_refuse_3 rfl (lv_at hl 1 rfl) ?_
  refine g_49_8 C hU hG (h1_49 hG) fl_X11_70 dX11_refuse_4 ?_
  refine q_alen (t := 51) (v := 7) C hU k_51 (by decide) (h1_51 hG) (by decide) dX11_refuse_7 ?_
  refine lv_iload_n hx hb dX11_refuse_8 rfl (lv_at hl 0 rfl) ?_
  refine q_pi (q_runS (As := [.int 7, .int x_1]) (rest := []) C hU (c_X11_isOneOf  7 x_1 ) sm_X11_isOneOf ml_X11_85 hl.1 rfl rfl (Nat.le_of_ble_eq_true rfl) dX11_refuse_9 rfl rfl ⟨Nat.le_of_ble_eq_true rfl, Nat.le_of_ble_eq_true rfl⟩ ⟨Nat.le_refl _, Nat.le_refl _⟩) hS (fun x_4 H locs hp_3 hU hS => ?_)
  refine b_if_eq (tgt := 25) hx hb dX11_refuse_12 (by decide) (fun c_5 => ?_) (fun c_5 => ?_)
  ·
    refine lv_iload_n hx hb dX11_refuse_25 rfl (lv_at hl 2 rfl) ?_
    exact hret (⟨hG, hF1, hF2, rfl⟩) hU hS dX11_refuse_26
  ·
    refine lv_aload_n hx hb dX11_refuse_15 rfl (lv_at hl 1 rfl) ?_
    refine g_49_8 C hU hG (h1_49 hG) fl_X11_70 dX11_refuse_16 ?_
    refine lv_iload_n hx hb dX11_refuse_19 rfl (lv_at hl 0 rfl) ?_
    refine lv_dup2_11 hx hb dX11_refuse_20 rfl rfl ?_
    refine a_51 C hU hG (h1_51 hG) (x := x_1) (by omega) (by omega) dX11_refuse_21 (fun x_6 e_7 => ?_)
    have te_7 := congrArg Int32.toInt e_7
    refine lv_iconst (v := 1) hx hb dX11_refuse_22 (by decide) ?_
    refine lv_iadd hx hb dX11_refuse_23 ?_
    refine lv_topi (fun x_8 e_9 => ?_)
    refine s_51 C hU hS (h1_51 hG) (x := x_1) (by omega) (by omega) dX11_refuse_24 (fun iv_10 H locs ei_11 hU hS => ?_)
    have hG : GI al iv_10 rv := by rw [ei_11]; exact hG.puti (show _ ∧ _ from ⟨(fb_rng _).1, Int.le_of_lt_add_one (fb_rng _).2⟩) (nsA (by decide) _)
    have hF1 : FR ([51], []) iv iv_10 := by rw [ei_11]; exact hF1.put (Or.inl (by decide))
    refine lv_iload_n hx hb dX11_refuse_25 rfl (lv_at hl 2 rfl) ?_
    exact hret (⟨hG, hF1, hF2, rfl⟩) hU hS dX11_refuse_26
set_option maxHeartbeats 4000000 in
set_option maxRecDepth 100000 in
theorem c_X11_refuseBeyond {l : Launch} {D : va_G} {cA : FieldType → ClassId} {sz : Nat} {al : Al} {iv : Iv} {rv : Rv} (hG : GI al iv rv) (num : Int32) (pre0 : -6 ≤ num.toInt ∧ num.toInt ≤ -1) : Met l yX11_refuseBeyond (wd yX11_refuseBeyond cX11_refuseBeyond 2 (some .int)) (rm 2) (PcW D cA sz al iv rv [.ref (al.2 49 0), .int num]) (QI D cA sz al (fI al ([51], []) iv rv (fun r iv' rv' => True))) 0 0 (Aq sz) := by
  refine mk_i (by decide) (Nat.le_of_ble_eq_true rfl) rfl ?_
  intro p e s m args below meth c ls Q H locs C hU hS hl hret
  have hx := C.1.1
  have hb := C.1.2.1
  have hl : lv_has ls 2 [(0, .ref (al.2 49 0)), (1, .int num)] := hl
  have hG0 := hG
  have hF1 : FR ([51], []) iv iv := FR.rf
  have hF2 : FR ([51], []) rv rv := FR.rf
  have k1000000000 : (1000000000 : Int32).toInt = 1000000000 := by decide
  refine lv_ldcw (v := 1000000000) hx hb C.1.2.2.2.1 (C.1.2.2.2.2 _ ct_X11_335) dX11_refuseBeyond_0 ?_
  refine lv_aload_n hx hb dX11_refuseBeyond_3 rfl (lv_at hl 0 rfl) ?_
  refine lv_iload_n hx hb dX11_refuseBeyond_4 rfl (lv_at hl 1 rfl) ?_
  refine q_fi (q_runV (t := 49) (i := 0) (As := [.int num]) (rest := [.int 1000000000]) C hU (c_X11_refuse hG num (by omega)) vm_X11_refuse ml_X11_77 k_49.1 (hc := rfl) rfl (h1_49 hG) hl.1 rfl rfl (Nat.le_of_ble_eq_true rfl) dX11_refuseBeyond_5 rfl rfl ⟨Nat.le_of_ble_eq_true rfl, Nat.le_of_ble_eq_true rfl⟩ ⟨Nat.le_refl _, Nat.le_refl _⟩) hS (fun x_6 iv_2 rv_3 H locs hG fa_4 fb_5 hp_1 hU hS => ?_)
  have hF1 := hF1.tr (m := ([51], [])) fa_4 (by decide)
  have hF2 := hF2.tr (m := ([51], [])) fb_5 (by decide)
  refine lv_isub hx hb dX11_refuseBeyond_8 ?_
  refine lv_topi (fun x_7 e_8 => ?_)
  exact hret (⟨hG, hF1, hF2, trivial⟩) hU hS dX11_refuseBeyond_9
set_option maxHeartbeats 4000000 in
set_option maxRecDepth 100000 in
theorem c_X11_gapFor {l : Launch} {D : va_G} {cA : FieldType → ClassId} {sz : Nat} {al : Al} {iv : Iv} {rv : Rv} (hG : GI al iv rv) (crew : Int32) : Met l yX11_gapFor (wd yX11_gapFor cX11_gapFor 2 (some .int)) (rm 0) (PcW D cA sz al iv rv [.ref (al.2 49 0), .int crew]) (QI D cA sz al (pI iv rv (fun r => (0 ≤ r.toInt ∧ r.toInt ≤ 900) ∧ (True)))) 0 0 (Aq sz) := by
  refine mk_i (by decide) (Nat.le_of_ble_eq_true rfl) rfl ?_
  intro p e s m args below meth c ls Q H locs C hU hS hl hret
  have hx := C.1.1
  have hb := C.1.2.1
  have hl : lv_has ls 2 [(0, .ref (al.2 49 0)), (1, .int crew)] := hl
  have hG0 := hG
  have k0 : (0 : Int32).toInt = 0 := by decide
  have k1 : (1 : Int32).toInt = 1 := by decide
  refine lv_iload_n hx hb dX11_gapFor_0 rfl (lv_at hl 1 rfl) ?_
  refine b_if_eq (tgt := 13) hx hb dX11_gapFor_1 (by decide) (fun c_1 => ?_) (fun c_1 => ?_)
  ·
    refine lv_aload_n hx hb dX11_gapFor_13 rfl (lv_at hl 0 rfl) ?_
    refine g_49_7 C hU hG (h1_49 hG) fl_X11_67 dX11_gapFor_14 ?_
    refine lv_iconst (v := 0) hx hb dX11_gapFor_17 (by decide) ?_
    refine a_50 C hU hG (h1_50 hG) (x := 0) (by omega) (by omega) dX11_gapFor_18 (fun x_2 e_3 le_3 ue_3 => ?_)
    have te_3 := congrArg Int32.toInt e_3
    exact hret (⟨rfl, rfl, ⟨⟨by omega, by omega⟩, trivial⟩⟩) hU hS dX11_gapFor_19
  ·
    refine lv_aload_n hx hb dX11_gapFor_4 rfl (lv_at hl 0 rfl) ?_
    refine g_49_7 C hU hG (h1_49 hG) fl_X11_67 dX11_gapFor_5 ?_
    refine lv_iconst (v := 1) hx hb dX11_gapFor_8 (by decide) ?_
    refine a_50 C hU hG (h1_50 hG) (x := 1) (by omega) (by omega) dX11_gapFor_9 (fun x_4 e_5 le_5 ue_5 => ?_)
    have te_5 := congrArg Int32.toInt e_5
    refine lv_goto (tgt := 19) hx hb dX11_gapFor_10 (by decide) ?_
    exact hret (⟨rfl, rfl, ⟨⟨by omega, by omega⟩, trivial⟩⟩) hU hS dX11_gapFor_19
set_option maxHeartbeats 4000000 in
set_option maxRecDepth 100000 in
theorem c_X7_find {l : Launch} {D : va_G} {cA : FieldType → ClassId} {sz : Nat} {al : Al} {iv : Iv} {rv : Rv} (hG : GI al iv rv) (num : Int32) : Met l yX7_find (wd yX7_find cX7_find 2 (some (.object "LateClaims$Port"))) (rm 1) (PcW D cA sz al iv rv [.ref (al.2 52 0), .int num]) (QR D cA sz al 56 (pR iv rv (fun r => (∀ j, r = some j → j < al.1 56) ∧ ((∀ j, r = some j → j = num.toNatClampNeg ∧ 0 ≤ num.toInt ∧ num.toInt < 10) ∧ (r = none → ¬ (0 ≤ num.toInt ∧ num.toInt < 10)))))) 0 0 (Aq sz) := by
  refine mk_r (by decide) (Nat.le_of_ble_eq_true rfl) rfl ?_
  intro p e s m args below meth c ls Q H locs C hU hS hl hret
  have hx := C.1.1
  have hb := C.1.2.1
  have hl : lv_has ls 2 [(0, .ref (al.2 52 0)), (1, .int num)] := hl
  have hG0 := hG
  have k10 : (10 : Int32).toInt = 10 := by decide
  refine lv_bipush (v := 10) hx hb dX7_find_0 (by decide) ?_
  refine lv_iload_n hx hb dX7_find_2 rfl (lv_at hl 1 rfl) ?_
  refine q_pi (q_runSN (As := [.int 10, .int num]) (rest := []) C hU (c_X11_isOneOf  10 num ) sm_X11_isOneOf C.2.2.2.2.1 hl.1 rfl rfl (Nat.le_of_ble_eq_true rfl) dX7_find_3 rfl rfl ⟨Nat.le_of_ble_eq_true rfl, Nat.le_of_ble_eq_true rfl⟩ ⟨Nat.le_refl _, Nat.le_refl _⟩) hS (fun x_2 H locs hp_1 hU hS => ?_)
  refine b_if_eq (tgt := 18) hx hb dX7_find_6 (by decide) (fun c_3 => ?_) (fun c_3 => ?_)
  ·
    refine lv_null hx hb dX7_find_18 ?_
    exact hret (none) (⟨rfl, rfl, ⟨(fun _ h => by cases h), ⟨fun j h => by first | (cases h; done) | (cases h; exact ⟨Option.some.inj (True.intro.symm.trans (pall hG (by omega) (by omega))), by omega, by omega⟩), fun h => by first | (cases h; done) | omega⟩⟩⟩) hU hS dX7_find_19
  ·
    refine lv_aload_n hx hb dX7_find_9 rfl (lv_at hl 0 rfl) ?_
    refine g_52_0 C hU hG (h1_52 hG) fl_X7_11 dX7_find_10 ?_
    refine lv_iload_n hx hb dX7_find_13 rfl (lv_at hl 1 rfl) ?_
    refine a_53 C hU hG (h1_53 hG) (x := num) (by omega) (by omega) dX7_find_14 (fun j_4 ej_5 hb_6 => ?_)
    refine lv_goto (tgt := 19) hx hb dX7_find_15 (by decide) ?_
    exact hret (some j_4) (⟨rfl, rfl, ⟨(fun _ h => by cases h; exact hb_6), ⟨fun j h => by first | (cases h; done) | (cases h; exact ⟨Option.some.inj (ej_5.symm.trans (pall hG (by omega) (by omega))), by omega, by omega⟩), fun h => by first | (cases h; done) | omega⟩⟩⟩) hU hS dX7_find_19
set_option maxHeartbeats 4000000 in
set_option maxRecDepth 100000 in
theorem c_X10_find {l : Launch} {D : va_G} {cA : FieldType → ClassId} {sz : Nat} {al : Al} {iv : Iv} {rv : Rv} (hG : GI al iv rv) (num : Int32) : Met l yX10_find (wd yX10_find cX10_find 2 (some (.object "LateClaims$Leg"))) (rm 1) (PcW D cA sz al iv rv [.ref (al.2 57 0), .int num]) (QR D cA sz al 62 (pR iv rv (fun r => (∀ j, r = some j → j < al.1 62) ∧ ((∀ j, r = some j → j = num.toNatClampNeg ∧ 0 ≤ num.toInt ∧ num.toInt < (iv 57 0 1).toInt) ∧ (r = none → ¬ (0 ≤ num.toInt ∧ num.toInt < (iv 57 0 1).toInt)))))) 0 0 (Aq sz) := by
  refine mk_r (by decide) (Nat.le_of_ble_eq_true rfl) rfl ?_
  intro p e s m args below meth c ls Q H locs C hU hS hl hret
  have hx := C.1.1
  have hb := C.1.2.1
  have hl : lv_has ls 2 [(0, .ref (al.2 57 0)), (1, .int num)] := hl
  have hG0 := hG
  refine lv_aload_n hx hb dX10_find_0 rfl (lv_at hl 0 rfl) ?_
  refine g_57_1 C hU hG (h1_57 hG) fl_X10_28 dX10_find_1 (fun x_1 e_2 le_2 ue_2 => ?_)
  have te_2 := congrArg Int32.toInt e_2
  refine lv_iload_n hx hb dX10_find_4 rfl (lv_at hl 1 rfl) ?_
  refine q_pi (q_runSN (As := [.int x_1, .int num]) (rest := []) C hU (c_X11_isOneOf  x_1 num ) sm_X11_isOneOf C.2.2.2.2.2.1 hl.1 rfl rfl (Nat.le_of_ble_eq_true rfl) dX10_find_5 rfl rfl ⟨Nat.le_of_ble_eq_true rfl, Nat.le_of_ble_eq_true rfl⟩ ⟨Nat.le_refl _, Nat.le_refl _⟩) hS (fun x_4 H locs hp_3 hU hS => ?_)
  refine b_if_eq (tgt := 20) hx hb dX10_find_8 (by decide) (fun c_5 => ?_) (fun c_5 => ?_)
  ·
    refine lv_null hx hb dX10_find_20 ?_
    exact hret (none) (⟨rfl, rfl, ⟨(fun _ h => by cases h), ⟨fun j h => by first | (cases h; done) | (cases h; exact ⟨Option.some.inj (True.intro.trans (tall hG (by omega) (by omega))), by omega, by omega⟩), fun h => by first | (cases h; done) | omega⟩⟩⟩) hU hS dX10_find_21
  ·
    refine lv_aload_n hx hb dX10_find_11 rfl (lv_at hl 0 rfl) ?_
    refine g_57_0 C hU hG (h1_57 hG) fl_X10_13 dX10_find_12 ?_
    refine lv_iload_n hx hb dX10_find_15 rfl (lv_at hl 1 rfl) ?_
    refine a_58 C hU hG (h1_58 hG) (x := num) (by omega) (by omega) dX10_find_16 (fun r_6 er_7 hb_8 => ?_)
    obtain ⟨j_9, ej_10⟩ : ∃ j, r_6 = some j := ⟨_, er_7.trans (tall hG (by omega) (by omega))⟩
    subst ej_10
    have hl : lv_has ls 2 [(0, .ref (al.2 57 0)), (1, .int num)] := hl
    have hb_11 : j_9 < al.1 62 := hb_8 j_9 rfl
    refine lv_goto (tgt := 21) hx hb dX10_find_17 (by decide) ?_
    exact hret (some j_9) (⟨rfl, rfl, ⟨(fun _ h => by cases h; exact hb_11), ⟨fun j h => by first | (cases h; done) | (cases h; exact ⟨Option.some.inj (er_7.trans (tall hG (by omega) (by omega))), by omega, by omega⟩), fun h => by first | (cases h; done) | omega⟩⟩⟩) hU hS dX10_find_21
set_option maxHeartbeats 4000000 in
set_option maxRecDepth 100000 in
theorem c_X9_find {l : Launch} {D : va_G} {cA : FieldType → ClassId} {sz : Nat} {al : Al} {iv : Iv} {rv : Rv} (hG : GI al iv rv) (num : Int32) : Met l yX9_find (wd yX9_find cX9_find 2 (some (.object "LateClaims$Ticket"))) (rm 1) (PcW D cA sz al iv rv [.ref (al.2 63 0), .int num]) (QR D cA sz al 65 (pR iv rv (fun r => (∀ j, r = some j → j < al.1 65) ∧ ((∀ j, r = some j → j = num.toNatClampNeg ∧ 0 ≤ num.toInt ∧ num.toInt < (iv 63 0 1).toInt) ∧ (r = none → ¬ (0 ≤ num.toInt ∧ num.toInt < (iv 63 0 1).toInt)))))) 0 0 (Aq sz) := by
  refine mk_r (by decide) (Nat.le_of_ble_eq_true rfl) rfl ?_
  intro p e s m args below meth c ls Q H locs C hU hS hl hret
  have hx := C.1.1
  have hb := C.1.2.1
  have hl : lv_has ls 2 [(0, .ref (al.2 63 0)), (1, .int num)] := hl
  have hG0 := hG
  refine lv_aload_n hx hb dX9_find_0 rfl (lv_at hl 0 rfl) ?_
  refine g_63_1 C hU hG (h1_63 hG) fl_X9_15 dX9_find_1 (fun x_1 e_2 le_2 ue_2 => ?_)
  have te_2 := congrArg Int32.toInt e_2
  refine lv_iload_n hx hb dX9_find_4 rfl (lv_at hl 1 rfl) ?_
  refine q_pi (q_runSN (As := [.int x_1, .int num]) (rest := []) C hU (c_X11_isOneOf  x_1 num ) sm_X11_isOneOf C.2.2.2.2.2.2.1 hl.1 rfl rfl (Nat.le_of_ble_eq_true rfl) dX9_find_5 rfl rfl ⟨Nat.le_of_ble_eq_true rfl, Nat.le_of_ble_eq_true rfl⟩ ⟨Nat.le_refl _, Nat.le_refl _⟩) hS (fun x_4 H locs hp_3 hU hS => ?_)
  refine b_if_eq (tgt := 20) hx hb dX9_find_8 (by decide) (fun c_5 => ?_) (fun c_5 => ?_)
  ·
    refine lv_null hx hb dX9_find_20 ?_
    exact hret (none) (⟨rfl, rfl, ⟨(fun _ h => by cases h), ⟨fun j h => by first | (cases h; done) | (cases h; exact ⟨Option.some.inj (True.intro.trans (kall hG (by omega) (by omega))), by omega, by omega⟩), fun h => by first | (cases h; done) | omega⟩⟩⟩) hU hS dX9_find_21
  ·
    refine lv_aload_n hx hb dX9_find_11 rfl (lv_at hl 0 rfl) ?_
    refine g_63_0 C hU hG (h1_63 hG) fl_X9_11 dX9_find_12 ?_
    refine lv_iload_n hx hb dX9_find_15 rfl (lv_at hl 1 rfl) ?_
    refine a_64 C hU hG (h1_64 hG) (x := num) (by omega) (by omega) dX9_find_16 (fun r_6 er_7 hb_8 => ?_)
    obtain ⟨j_9, ej_10⟩ : ∃ j, r_6 = some j := ⟨_, er_7.trans (kall hG (by omega) (by omega))⟩
    subst ej_10
    have hl : lv_has ls 2 [(0, .ref (al.2 63 0)), (1, .int num)] := hl
    have hb_11 : j_9 < al.1 65 := hb_8 j_9 rfl
    refine lv_goto (tgt := 21) hx hb dX9_find_17 (by decide) ?_
    exact hret (some j_9) (⟨rfl, rfl, ⟨(fun _ h => by cases h; exact hb_11), ⟨fun j h => by first | (cases h; done) | (cases h; exact ⟨Option.some.inj (er_7.trans (kall hG (by omega) (by omega))), by omega, by omega⟩), fun h => by first | (cases h; done) | omega⟩⟩⟩) hU hS dX9_find_21
set_option maxHeartbeats 4000000 in
set_option maxRecDepth 100000 in
theorem c_X3_find {l : Launch} {D : va_G} {cA : FieldType → ClassId} {sz : Nat} {al : Al} {iv : Iv} {rv : Rv} (hG : GI al iv rv) (num : Int32) : Met l yX3_find (wd yX3_find cX3_find 2 (some (.object "LateClaims$Claim"))) (rm 1) (PcW D cA sz al iv rv [.ref (al.2 84 0), .int num]) (QR D cA sz al 88 (pR iv rv (fun r => (∀ j, r = some j → j < al.1 88) ∧ ((∀ j, r = some j → j = num.toNatClampNeg ∧ 0 ≤ num.toInt ∧ num.toInt < (iv 84 0 1).toInt) ∧ (r = none → ¬ (0 ≤ num.toInt ∧ num.toInt < (iv 84 0 1).toInt)))))) 0 0 (Aq sz) := by
  refine mk_r (by decide) (Nat.le_of_ble_eq_true rfl) rfl ?_
  intro p e s m args below meth c ls Q H locs C hU hS hl hret
  have hx := C.1.1
  have hb := C.1.2.1
  have hl : lv_has ls 2 [(0, .ref (al.2 84 0)), (1, .int num)] := hl
  have hG0 := hG
  refine lv_aload_n hx hb dX3_find_0 rfl (lv_at hl 0 rfl) ?_
  refine g_84_1 C hU hG (h1_84 hG) fl_X3_24 dX3_find_1 (fun x_1 e_2 le_2 ue_2 => ?_)
  have te_2 := congrArg Int32.toInt e_2
  refine lv_iload_n hx hb dX3_find_4 rfl (lv_at hl 1 rfl) ?_
  refine q_pi (q_runSN (As := [.int x_1, .int num]) (rest := []) C hU (c_X11_isOneOf  x_1 num ) sm_X11_isOneOf C.2.2.2.2.2.2.2 hl.1 rfl rfl (Nat.le_of_ble_eq_true rfl) dX3_find_5 rfl rfl ⟨Nat.le_of_ble_eq_true rfl, Nat.le_of_ble_eq_true rfl⟩ ⟨Nat.le_refl _, Nat.le_refl _⟩) hS (fun x_4 H locs hp_3 hU hS => ?_)
  refine b_if_eq (tgt := 20) hx hb dX3_find_8 (by decide) (fun c_5 => ?_) (fun c_5 => ?_)
  ·
    refine lv_null hx hb dX3_find_20 ?_
    exact hret (none) (⟨rfl, rfl, ⟨(fun _ h => by cases h), ⟨fun j h => by first | (cases h; done) | (cases h; exact ⟨Option.some.inj (True.intro.trans (call_ hG (by omega) (by omega))), by omega, by omega⟩), fun h => by first | (cases h; done) | omega⟩⟩⟩) hU hS dX3_find_21
  ·
    refine lv_aload_n hx hb dX3_find_11 rfl (lv_at hl 0 rfl) ?_
    refine g_84_0 C hU hG (h1_84 hG) fl_X3_13 dX3_find_12 ?_
    refine lv_iload_n hx hb dX3_find_15 rfl (lv_at hl 1 rfl) ?_
    refine a_85 C hU hG (h1_85 hG) (x := num) (by omega) (by omega) dX3_find_16 (fun r_6 er_7 hb_8 => ?_)
    obtain ⟨j_9, ej_10⟩ : ∃ j, r_6 = some j := ⟨_, er_7.trans (call_ hG (by omega) (by omega))⟩
    subst ej_10
    have hl : lv_has ls 2 [(0, .ref (al.2 84 0)), (1, .int num)] := hl
    have hb_11 : j_9 < al.1 88 := hb_8 j_9 rfl
    refine lv_goto (tgt := 21) hx hb dX3_find_17 (by decide) ?_
    exact hret (some j_9) (⟨rfl, rfl, ⟨(fun _ h => by cases h; exact hb_11), ⟨fun j h => by first | (cases h; done) | (cases h; exact ⟨Option.some.inj (er_7.trans (call_ hG (by omega) (by omega))), by omega, by omega⟩), fun h => by first | (cases h; done) | omega⟩⟩⟩) hU hS dX3_find_21
set_option maxHeartbeats 4000000 in
set_option maxRecDepth 100000 in
theorem c_X10_isFull {l : Launch} {D : va_G} {cA : FieldType → ClassId} {sz : Nat} {al : Al} {iv : Iv} {rv : Rv} (hG : GI al iv rv) : Met l yX10_isFull (wd yX10_isFull cX10_isFull 1 (some .boolean)) (rm 0) (PcW D cA sz al iv rv [.ref (al.2 57 0)]) (QI D cA sz al (pI iv rv (fun r => (0 ≤ r.toInt ∧ r.toInt ≤ 1) ∧ (((40 ≤ (iv 57 0 1).toInt) ∧ r.toInt = 1) ∨ ((iv 57 0 1).toInt < 40 ∧ r.toInt = 0))))) 0 0 (Aq sz) := by
  refine mk_z (by decide) (Nat.le_of_ble_eq_true rfl) rfl ?_
  intro p e s m args below meth c ls Q H locs C hU hS hl hret
  have hx := C.1.1
  have hb := C.1.2.1
  have hl : lv_has ls 1 [(0, .ref (al.2 57 0))] := hl
  have hG0 := hG
  have k0 : (0 : Int32).toInt = 0 := by decide
  have k1 : (1 : Int32).toInt = 1 := by decide
  have k40 : (40 : Int32).toInt = 40 := by decide
  refine lv_aload_n hx hb dX10_isFull_0 rfl (lv_at hl 0 rfl) ?_
  refine g_57_1 C hU hG (h1_57 hG) fl_X10_28 dX10_isFull_1 (fun x_1 e_2 le_2 ue_2 => ?_)
  have te_2 := congrArg Int32.toInt e_2
  refine lv_bipush (v := 40) hx hb dX10_isFull_4 (by decide) ?_
  refine b_icmp_lt (tgt := 13) hx hb dX10_isFull_6 (by decide) (fun c_3 => ?_) (fun c_3 => ?_)
  ·
    refine lv_iconst (v := 0) hx hb dX10_isFull_13 (by decide) ?_
    exact hret (by omega) (by omega) (⟨rfl, rfl, ⟨⟨by omega, by omega⟩, by omega⟩⟩) hU hS dX10_isFull_14
  ·
    refine lv_iconst (v := 1) hx hb dX10_isFull_9 (by decide) ?_
    refine lv_goto (tgt := 14) hx hb dX10_isFull_10 (by decide) ?_
    exact hret (by omega) (by omega) (⟨rfl, rfl, ⟨⟨by omega, by omega⟩, by omega⟩⟩) hU hS dX10_isFull_14
set_option maxHeartbeats 4000000 in
set_option maxRecDepth 100000 in
theorem c_X9_isFull {l : Launch} {D : va_G} {cA : FieldType → ClassId} {sz : Nat} {al : Al} {iv : Iv} {rv : Rv} (hG : GI al iv rv) : Met l yX9_isFull (wd yX9_isFull cX9_isFull 1 (some .boolean)) (rm 0) (PcW D cA sz al iv rv [.ref (al.2 63 0)]) (QI D cA sz al (pI iv rv (fun r => (0 ≤ r.toInt ∧ r.toInt ≤ 1) ∧ (((20 ≤ (iv 63 0 1).toInt) ∧ r.toInt = 1) ∨ ((iv 63 0 1).toInt < 20 ∧ r.toInt = 0))))) 0 0 (Aq sz) := by
  refine mk_z (by decide) (Nat.le_of_ble_eq_true rfl) rfl ?_
  intro p e s m args below meth c ls Q H locs C hU hS hl hret
  have hx := C.1.1
  have hb := C.1.2.1
  have hl : lv_has ls 1 [(0, .ref (al.2 63 0))] := hl
  have hG0 := hG
  have k0 : (0 : Int32).toInt = 0 := by decide
  have k1 : (1 : Int32).toInt = 1 := by decide
  have k20 : (20 : Int32).toInt = 20 := by decide
  refine lv_aload_n hx hb dX9_isFull_0 rfl (lv_at hl 0 rfl) ?_
  refine g_63_1 C hU hG (h1_63 hG) fl_X9_15 dX9_isFull_1 (fun x_1 e_2 le_2 ue_2 => ?_)
  have te_2 := congrArg Int32.toInt e_2
  refine lv_bipush (v := 20) hx hb dX9_isFull_4 (by decide) ?_
  refine b_icmp_lt (tgt := 13) hx hb dX9_isFull_6 (by decide) (fun c_3 => ?_) (fun c_3 => ?_)
  ·
    refine lv_iconst (v := 0) hx hb dX9_isFull_13 (by decide) ?_
    exact hret (by omega) (by omega) (⟨rfl, rfl, ⟨⟨by omega, by omega⟩, by omega⟩⟩) hU hS dX9_isFull_14
  ·
    refine lv_iconst (v := 1) hx hb dX9_isFull_9 (by decide) ?_
    refine lv_goto (tgt := 14) hx hb dX9_isFull_10 (by decide) ?_
    exact hret (by omega) (by omega) (⟨rfl, rfl, ⟨⟨by omega, by omega⟩, by omega⟩⟩) hU hS dX9_isFull_14
set_option maxHeartbeats 4000000 in
set_option maxRecDepth 100000 in
theorem c_X3_isFull {l : Launch} {D : va_G} {cA : FieldType → ClassId} {sz : Nat} {al : Al} {iv : Iv} {rv : Rv} (hG : GI al iv rv) : Met l yX3_isFull (wd yX3_isFull cX3_isFull 1 (some .boolean)) (rm 0) (PcW D cA sz al iv rv [.ref (al.2 84 0)]) (QI D cA sz al (pI iv rv (fun r => (0 ≤ r.toInt ∧ r.toInt ≤ 1) ∧ (((30 ≤ (iv 84 0 1).toInt) ∧ r.toInt = 1) ∨ ((iv 84 0 1).toInt < 30 ∧ r.toInt = 0))))) 0 0 (Aq sz) := by
  refine mk_z (by decide) (Nat.le_of_ble_eq_true rfl) rfl ?_
  intro p e s m args below meth c ls Q H locs C hU hS hl hret
  have hx := C.1.1
  have hb := C.1.2.1
  have hl : lv_has ls 1 [(0, .ref (al.2 84 0))] := hl
  have hG0 := hG
  have k0 : (0 : Int32).toInt = 0 := by decide
  have k1 : (1 : Int32).toInt = 1 := by decide
  have k30 : (30 : Int32).toInt = 30 := by decide
  refine lv_aload_n hx hb dX3_isFull_0 rfl (lv_at hl 0 rfl) ?_
  refine g_84_1 C hU hG (h1_84 hG) fl_X3_24 dX3_isFull_1 (fun x_1 e_2 le_2 ue_2 => ?_)
  have te_2 := congrArg Int32.toInt e_2
  refine lv_bipush (v := 30) hx hb dX3_isFull_4 (by decide) ?_
  refine b_icmp_lt (tgt := 13) hx hb dX3_isFull_6 (by decide) (fun c_3 => ?_) (fun c_3 => ?_)
  ·
    refine lv_iconst (v := 0) hx hb dX3_isFull_13 (by decide) ?_
    exact hret (by omega) (by omega) (⟨rfl, rfl, ⟨⟨by omega, by omega⟩, by omega⟩⟩) hU hS dX3_isFull_14
  ·
    refine lv_iconst (v := 1) hx hb dX3_isFull_9 (by decide) ?_
    refine lv_goto (tgt := 14) hx hb dX3_isFull_10 (by decide) ?_
    exact hret (by omega) (by omega) (⟨rfl, rfl, ⟨⟨by omega, by omega⟩, by omega⟩⟩) hU hS dX3_isFull_14
set_option maxHeartbeats 4000000 in
set_option maxRecDepth 100000 in
theorem c_X4_isFull {l : Launch} {D : va_G} {cA : FieldType → ClassId} {sz : Nat} {al : Al} {iv : Iv} {rv : Rv} (hG : GI al iv rv) : Met l yX4_isFull (wd yX4_isFull cX4_isFull 1 (some .boolean)) (rm 0) (PcW D cA sz al iv rv [.ref (al.2 68 0)]) (QI D cA sz al (pI iv rv (fun r => (0 ≤ r.toInt ∧ r.toInt ≤ 1) ∧ (((30 ≤ (iv 68 0 5).toInt) ∧ r.toInt = 1) ∨ ((iv 68 0 5).toInt < 30 ∧ r.toInt = 0))))) 0 0 (Aq sz) := by
  refine mk_z (by decide) (Nat.le_of_ble_eq_true rfl) rfl ?_
  intro p e s m args below meth c ls Q H locs C hU hS hl hret
  have hx := C.1.1
  have hb := C.1.2.1
  have hl : lv_has ls 1 [(0, .ref (al.2 68 0))] := hl
  have hG0 := hG
  have k0 : (0 : Int32).toInt = 0 := by decide
  have k1 : (1 : Int32).toInt = 1 := by decide
  have k30 : (30 : Int32).toInt = 30 := by decide
  refine lv_aload_n hx hb dX4_isFull_0 rfl (lv_at hl 0 rfl) ?_
  refine g_68_5 C hU hG (h1_68 hG) fl_X4_43 dX4_isFull_1 (fun x_1 e_2 le_2 ue_2 => ?_)
  have te_2 := congrArg Int32.toInt e_2
  refine lv_bipush (v := 30) hx hb dX4_isFull_4 (by decide) ?_
  refine b_icmp_lt (tgt := 13) hx hb dX4_isFull_6 (by decide) (fun c_3 => ?_) (fun c_3 => ?_)
  ·
    refine lv_iconst (v := 0) hx hb dX4_isFull_13 (by decide) ?_
    exact hret (by omega) (by omega) (⟨rfl, rfl, ⟨⟨by omega, by omega⟩, by omega⟩⟩) hU hS dX4_isFull_14
  ·
    refine lv_iconst (v := 1) hx hb dX4_isFull_9 (by decide) ?_
    refine lv_goto (tgt := 14) hx hb dX4_isFull_10 (by decide) ?_
    exact hret (by omega) (by omega) (⟨rfl, rfl, ⟨⟨by omega, by omega⟩, by omega⟩⟩) hU hS dX4_isFull_14
set_option maxHeartbeats 4000000 in
set_option maxRecDepth 100000 in
theorem c_X4_isFullOfExcuses {l : Launch} {D : va_G} {cA : FieldType → ClassId} {sz : Nat} {al : Al} {iv : Iv} {rv : Rv} (hG : GI al iv rv) : Met l yX4_isFullOfExcuses (wd yX4_isFullOfExcuses cX4_isFullOfExcuses 1 (some .boolean)) (rm 0) (PcW D cA sz al iv rv [.ref (al.2 68 0)]) (QI D cA sz al (pI iv rv (fun r => (0 ≤ r.toInt ∧ r.toInt ≤ 1) ∧ (((40 ≤ (iv 68 0 11).toInt) ∧ r.toInt = 1) ∨ ((iv 68 0 11).toInt < 40 ∧ r.toInt = 0))))) 0 0 (Aq sz) := by
  refine mk_z (by decide) (Nat.le_of_ble_eq_true rfl) rfl ?_
  intro p e s m args below meth c ls Q H locs C hU hS hl hret
  have hx := C.1.1
  have hb := C.1.2.1
  have hl : lv_has ls 1 [(0, .ref (al.2 68 0))] := hl
  have hG0 := hG
  have k0 : (0 : Int32).toInt = 0 := by decide
  have k1 : (1 : Int32).toInt = 1 := by decide
  have k40 : (40 : Int32).toInt = 40 := by decide
  refine lv_aload_n hx hb dX4_isFullOfExcuses_0 rfl (lv_at hl 0 rfl) ?_
  refine g_68_11 C hU hG (h1_68 hG) fl_X4_47 dX4_isFullOfExcuses_1 (fun x_1 e_2 le_2 ue_2 => ?_)
  have te_2 := congrArg Int32.toInt e_2
  refine lv_bipush (v := 40) hx hb dX4_isFullOfExcuses_4 (by decide) ?_
  refine b_icmp_lt (tgt := 13) hx hb dX4_isFullOfExcuses_6 (by decide) (fun c_3 => ?_) (fun c_3 => ?_)
  ·
    refine lv_iconst (v := 0) hx hb dX4_isFullOfExcuses_13 (by decide) ?_
    exact hret (by omega) (by omega) (⟨rfl, rfl, ⟨⟨by omega, by omega⟩, by omega⟩⟩) hU hS dX4_isFullOfExcuses_14
  ·
    refine lv_iconst (v := 1) hx hb dX4_isFullOfExcuses_9 (by decide) ?_
    refine lv_goto (tgt := 14) hx hb dX4_isFullOfExcuses_10 (by decide) ?_
    exact hret (by omega) (by omega) (⟨rfl, rfl, ⟨⟨by omega, by omega⟩, by omega⟩⟩) hU hS dX4_isFullOfExcuses_14
set_option maxHeartbeats 4000000 in
set_option maxRecDepth 100000 in
theorem c_X0_isFull {l : Launch} {D : va_G} {cA : FieldType → ClassId} {sz : Nat} {al : Al} {iv : Iv} {rv : Rv} (hG : GI al iv rv) : Met l yX0_isFull (wd yX0_isFull cX0_isFull 1 (some .boolean)) (rm 0) (PcW D cA sz al iv rv [.ref (al.2 79 0)]) (QI D cA sz al (pI iv rv (fun r => (0 ≤ r.toInt ∧ r.toInt ≤ 1) ∧ (((20 ≤ (iv 79 0 4).toInt) ∧ r.toInt = 1) ∨ ((iv 79 0 4).toInt < 20 ∧ r.toInt = 0))))) 0 0 (Aq sz) := by
  refine mk_z (by decide) (Nat.le_of_ble_eq_true rfl) rfl ?_
  intro p e s m args below meth c ls Q H locs C hU hS hl hret
  have hx := C.1.1
  have hb := C.1.2.1
  have hl : lv_has ls 1 [(0, .ref (al.2 79 0))] := hl
  have hG0 := hG
  have k0 : (0 : Int32).toInt = 0 := by decide
  have k1 : (1 : Int32).toInt = 1 := by decide
  have k20 : (20 : Int32).toInt = 20 := by decide
  refine lv_aload_n hx hb dX0_isFull_0 rfl (lv_at hl 0 rfl) ?_
  refine g_79_4 C hU hG (h1_79 hG) fl_X0_30 dX0_isFull_1 (fun x_1 e_2 le_2 ue_2 => ?_)
  have te_2 := congrArg Int32.toInt e_2
  refine lv_bipush (v := 20) hx hb dX0_isFull_4 (by decide) ?_
  refine b_icmp_lt (tgt := 13) hx hb dX0_isFull_6 (by decide) (fun c_3 => ?_) (fun c_3 => ?_)
  ·
    refine lv_iconst (v := 0) hx hb dX0_isFull_13 (by decide) ?_
    exact hret (by omega) (by omega) (⟨rfl, rfl, ⟨⟨by omega, by omega⟩, by omega⟩⟩) hU hS dX0_isFull_14
  ·
    refine lv_iconst (v := 1) hx hb dX0_isFull_9 (by decide) ?_
    refine lv_goto (tgt := 14) hx hb dX0_isFull_10 (by decide) ?_
    exact hret (by omega) (by omega) (⟨rfl, rfl, ⟨⟨by omega, by omega⟩, by omega⟩⟩) hU hS dX0_isFull_14
set_option maxHeartbeats 4000000 in
set_option maxRecDepth 100000 in
theorem c_X1_isFull {l : Launch} {D : va_G} {cA : FieldType → ClassId} {sz : Nat} {al : Al} {iv : Iv} {rv : Rv} (hG : GI al iv rv) : Met l yX1_isFull (wd yX1_isFull cX1_isFull 1 (some .boolean)) (rm 0) (PcW D cA sz al iv rv [.ref (al.2 90 0)]) (QI D cA sz al (pI iv rv (fun r => (0 ≤ r.toInt ∧ r.toInt ≤ 1) ∧ (((40 ≤ (iv 90 0 6).toInt) ∧ r.toInt = 1) ∨ ((iv 90 0 6).toInt < 40 ∧ r.toInt = 0))))) 0 0 (Aq sz) := by
  refine mk_z (by decide) (Nat.le_of_ble_eq_true rfl) rfl ?_
  intro p e s m args below meth c ls Q H locs C hU hS hl hret
  have hx := C.1.1
  have hb := C.1.2.1
  have hl : lv_has ls 1 [(0, .ref (al.2 90 0))] := hl
  have hG0 := hG
  have k0 : (0 : Int32).toInt = 0 := by decide
  have k1 : (1 : Int32).toInt = 1 := by decide
  have k40 : (40 : Int32).toInt = 40 := by decide
  refine lv_aload_n hx hb dX1_isFull_0 rfl (lv_at hl 0 rfl) ?_
  refine g_90_6 C hU hG (h1_90 hG) fl_X1_34 dX1_isFull_1 (fun x_1 e_2 le_2 ue_2 => ?_)
  have te_2 := congrArg Int32.toInt e_2
  refine lv_bipush (v := 40) hx hb dX1_isFull_4 (by decide) ?_
  refine b_icmp_lt (tgt := 13) hx hb dX1_isFull_6 (by decide) (fun c_3 => ?_) (fun c_3 => ?_)
  ·
    refine lv_iconst (v := 0) hx hb dX1_isFull_13 (by decide) ?_
    exact hret (by omega) (by omega) (⟨rfl, rfl, ⟨⟨by omega, by omega⟩, by omega⟩⟩) hU hS dX1_isFull_14
  ·
    refine lv_iconst (v := 1) hx hb dX1_isFull_9 (by decide) ?_
    refine lv_goto (tgt := 14) hx hb dX1_isFull_10 (by decide) ?_
    exact hret (by omega) (by omega) (⟨rfl, rfl, ⟨⟨by omega, by omega⟩, by omega⟩⟩) hU hS dX1_isFull_14
set_option maxHeartbeats 4000000 in
set_option maxRecDepth 100000 in
theorem c_X8_isFull {l : Launch} {D : va_G} {cA : FieldType → ClassId} {sz : Nat} {al : Al} {iv : Iv} {rv : Rv} (hG : GI al iv rv) (ti : Nat) (hti : ti < al.1 65) : Met l yX8_isFull (wd yX8_isFull cX8_isFull 1 (some .boolean)) (rm 0) (PcW D cA sz al iv rv [.ref (al.2 65 ti)]) (QI D cA sz al (pI iv rv (fun r => (0 ≤ r.toInt ∧ r.toInt ≤ 1) ∧ (((4 ≤ (iv 65 ti 4).toInt) ∧ r.toInt = 1) ∨ ((iv 65 ti 4).toInt < 4 ∧ r.toInt = 0))))) 0 0 (Aq sz) := by
  refine mk_z (by decide) (Nat.le_of_ble_eq_true rfl) rfl ?_
  intro p e s m args below meth c ls Q H locs C hU hS hl hret
  have hx := C.1.1
  have hb := C.1.2.1
  have hl : lv_has ls 1 [(0, .ref (al.2 65 ti))] := hl
  have hG0 := hG
  have k0 : (0 : Int32).toInt = 0 := by decide
  have k1 : (1 : Int32).toInt = 1 := by decide
  have k4 : (4 : Int32).toInt = 4 := by decide
  refine lv_aload_n hx hb dX8_isFull_0 rfl (lv_at hl 0 rfl) ?_
  refine g_65_4 C hU hG hti fl_X8_28 dX8_isFull_1 (fun x_1 e_2 le_2 ue_2 => ?_)
  have te_2 := congrArg Int32.toInt e_2
  refine lv_iconst (v := 4) hx hb dX8_isFull_4 (by decide) ?_
  refine b_icmp_lt (tgt := 12) hx hb dX8_isFull_5 (by decide) (fun c_3 => ?_) (fun c_3 => ?_)
  ·
    refine lv_iconst (v := 0) hx hb dX8_isFull_12 (by decide) ?_
    exact hret (by omega) (by omega) (⟨rfl, rfl, ⟨⟨by omega, by omega⟩, by omega⟩⟩) hU hS dX8_isFull_13
  ·
    refine lv_iconst (v := 1) hx hb dX8_isFull_8 (by decide) ?_
    refine lv_goto (tgt := 13) hx hb dX8_isFull_9 (by decide) ?_
    exact hret (by omega) (by omega) (⟨rfl, rfl, ⟨⟨by omega, by omega⟩, by omega⟩⟩) hU hS dX8_isFull_13
end
section
set_option maxHeartbeats 4000000 in
set_option maxRecDepth 100000 in
theorem c_X7_milesBetween {l : Launch} {D : va_G} {cA : FieldType → ClassId} {sz : Nat} {al : Al} {iv : Iv} {rv : Rv} (hG : GI al iv rv) (pi : Nat) (hpi : pi < al.1 56) (pj : Nat) (hpj : pj < al.1 56) : Met l yX7_milesBetween (wd yX7_milesBetween cX7_milesBetween 3 (some .int)) (rm 0) (PcW D cA sz al iv rv [.ref (al.2 52 0), .ref (al.2 56 pi), .ref (al.2 56 pj)]) (QI D cA sz al (pI iv rv (fun r => True))) 0 0 (Aq sz) := by
  refine mk_i (by decide) (Nat.le_of_ble_eq_true rfl) rfl ?_
  intro p e s m args below meth c ls Q H locs C hU hS hl hret
  have hx := C.1.1
  have hb := C.1.2.1
  have hl : lv_has ls 3 [(0, .ref (al.2 52 0)), (1, .ref (al.2 56 pi)), (2, .ref (al.2 56 pj))] := hl
  have hG0 := hG
  refine lv_aload_n hx hb dX7_milesBetween_0 rfl (lv_at hl 0 rfl) ?_
  refine g_52_1 C hU hG (h1_52 hG) fl_X7_20 dX7_milesBetween_1 ?_
  refine lv_aload_n hx hb dX7_milesBetween_4 rfl (lv_at hl 1 rfl) ?_
  refine g_56_0 C hU hG hpi fl_X7_29 dX7_milesBetween_5 (fun x_1 e_2 le_2 ue_2 => ?_)
  have te_2 := congrArg Int32.toInt e_2
  refine a_54 C hU hG (h1_54 hG) (x := x_1) (by omega) (by omega) dX7_milesBetween_8 (fun j_3 ej_4 hb_5 => ?_)
  refine lv_aload_n hx hb dX7_milesBetween_9 rfl (lv_at hl 2 rfl) ?_
  refine g_56_0 C hU hG hpj fl_X7_29 dX7_milesBetween_10 (fun x_6 e_7 le_7 ue_7 => ?_)
  have te_7 := congrArg Int32.toInt e_7
  refine a_55 C hU hG hb_5 (x := x_6) (by omega) (by omega) dX7_milesBetween_13 (fun x_8 e_9 => ?_)
  have te_9 := congrArg Int32.toInt e_9
  exact hret (⟨rfl, rfl, trivial⟩) hU hS dX7_milesBetween_14
set_option maxHeartbeats 4000000 in
set_option maxRecDepth 100000 in
theorem c_X7_setMiles {l : Launch} {D : va_G} {cA : FieldType → ClassId} {sz : Nat} {al : Al} {iv : Iv} {rv : Rv} (hG : GI al iv rv) (pi : Nat) (hpi : pi < al.1 56) (pj : Nat) (hpj : pj < al.1 56) (v : Int32) : Met l yX7_setMiles (wd yX7_setMiles cX7_setMiles 4 none) (rm 0) (PcW D cA sz al iv rv [.ref (al.2 52 0), .ref (al.2 56 pi), .ref (al.2 56 pj), .int v]) (QV D cA sz al (fV al ([55], []) iv rv (fun iv' rv' => True))) 0 0 (Aq sz) := by
  refine mk_v (by decide) (Nat.le_of_ble_eq_true rfl) rfl ?_
  intro p e s m args below meth c ls Q H locs C hU hS hl hret
  have hx := C.1.1
  have hb := C.1.2.1
  have hl : lv_has ls 4 [(0, .ref (al.2 52 0)), (1, .ref (al.2 56 pi)), (2, .ref (al.2 56 pj)), (3, .int v)] := hl
  have hG0 := hG
  have hF1 : FR ([55], []) iv iv := FR.rf
  have hF2 : FR ([55], []) rv rv := FR.rf
  refine lv_aload_n hx hb dX7_setMiles_0 rfl (lv_at hl 0 rfl) ?_
  refine g_52_1 C hU hG (h1_52 hG) fl_X7_20 dX7_setMiles_1 ?_
  refine lv_aload_n hx hb dX7_setMiles_4 rfl (lv_at hl 1 rfl) ?_
  refine g_56_0 C hU hG hpi fl_X7_29 dX7_setMiles_5 (fun x_1 e_2 le_2 ue_2 => ?_)
  have te_2 := congrArg Int32.toInt e_2
  refine a_54 C hU hG (h1_54 hG) (x := x_1) (by omega) (by omega) dX7_setMiles_8 (fun j_3 ej_4 hb_5 => ?_)
  refine lv_aload_n hx hb dX7_setMiles_9 rfl (lv_at hl 2 rfl) ?_
  refine g_56_0 C hU hG hpj fl_X7_29 dX7_setMiles_10 (fun x_6 e_7 le_7 ue_7 => ?_)
  have te_7 := congrArg Int32.toInt e_7
  refine lv_iload_n hx hb dX7_setMiles_13 rfl (lv_at hl 3 rfl) ?_
  refine s_55 C hU hS hb_5 (x := x_6) (by omega) (by omega) dX7_setMiles_14 (fun iv_8 H locs ei_9 hU hS => ?_)
  have hG : GI al iv_8 rv := by rw [ei_9]; exact hG.puti (show _ ∧ _ from ⟨(fb_rng _).1, Int.le_of_lt_add_one (fb_rng _).2⟩) (nsA (by decide) _)
  have hF1 : FR ([55], []) iv iv_8 := by rw [ei_9]; exact hF1.put (Or.inl (by decide))
  refine lv_aload_n hx hb dX7_setMiles_15 rfl (lv_at hl 0 rfl) ?_
  refine g_52_1 C hU hG (h1_52 hG) fl_X7_20 dX7_setMiles_16 ?_
  refine lv_aload_n hx hb dX7_setMiles_19 rfl (lv_at hl 2 rfl) ?_
  refine g_56_0 C hU hG hpj fl_X7_29 dX7_setMiles_20 (fun x_10 e_11 le_11 ue_11 => ?_)
  have te_11 := congrArg Int32.toInt e_11
  have ne_11 : x_10.toInt = (iv 56 pj 0).toInt := by rw [e_11, hF1 56 pj 0 (by decide)]
  refine a_54 C hU hG (h1_54 hG) (x := x_10) (by omega) (by omega) dX7_setMiles_23 (fun j_12 ej_13 hb_14 => ?_)
  refine lv_aload_n hx hb dX7_setMiles_24 rfl (lv_at hl 1 rfl) ?_
  refine g_56_0 C hU hG hpi fl_X7_29 dX7_setMiles_25 (fun x_15 e_16 le_16 ue_16 => ?_)
  have te_16 := congrArg Int32.toInt e_16
  have ne_16 : x_15.toInt = (iv 56 pi 0).toInt := by rw [e_16, hF1 56 pi 0 (by decide)]
  refine lv_iload_n hx hb dX7_setMiles_28 rfl (lv_at hl 3 rfl) ?_
  refine s_55 C hU hS hb_14 (x := x_15) (by omega) (by omega) dX7_setMiles_29 (fun iv_17 H locs ei_18 hU hS => ?_)
  have hG : GI al iv_17 rv := by rw [ei_18]; exact hG.puti (show _ ∧ _ from ⟨(fb_rng _).1, Int.le_of_lt_add_one (fb_rng _).2⟩) (nsA (by decide) _)
  have hF1 : FR ([55], []) iv iv_17 := by rw [ei_18]; exact hF1.put (Or.inl (by decide))
  exact hret (⟨hG, hF1, hF2, trivial⟩) hU hS dX7_setMiles_30
set_option maxHeartbeats 4000000 in
set_option maxRecDepth 100000 in
theorem c_X7_move {l : Launch} {D : va_G} {cA : FieldType → ClassId} {sz : Nat} {al : Al} {iv : Iv} {rv : Rv} (hG : GI al iv rv) (fl : Int32) (tl : Int32) (sh : Int32) (pre0 : 0 ≤ tl.toInt ∧ tl.toInt ≤ 9) : Met l yX7_move (wd yX7_move cX7_move 6 none) (rm 0) (PcW D cA sz al iv rv [.ref (al.2 52 0), .int fl, .int tl, .int sh]) (QV D cA sz al (fV al ([], [(56, 2), (56, 3)]) iv rv (fun iv' rv' => True))) 0 0 (Aq sz) := by
  refine mk_v (by decide) (Nat.le_of_ble_eq_true rfl) rfl ?_
  intro p e s m args below meth c ls Q H locs C hU hS hl hret
  have hx := C.1.1
  have hb := C.1.2.1
  have hl : lv_has ls 6 [(0, .ref (al.2 52 0)), (1, .int fl), (2, .int tl), (3, .int sh)] := hl
  have hG0 := hG
  have hF1 : FR ([], [(56, 2), (56, 3)]) iv iv := FR.rf
  have hF2 : FR ([], [(56, 2), (56, 3)]) rv rv := FR.rf
  have k0 : (0 : Int32).toInt = 0 := by decide
  have k1 : (1 : Int32).toInt = 1 := by decide
  have k10 : (10 : Int32).toInt = 10 := by decide
  refine lv_iconst (v := 0) hx hb dX7_move_0 (by decide) ?_
  refine lv_istore (lv' := [(4, .int 0), (0, .ref (al.2 52 0)), (1, .int fl), (2, .int tl), (3, .int sh)]) hx hb dX7_move_1 hl (by decide) rfl (fun ls hl => ?_)
  have J_3 : ∀ (n_3 : Nat) (l4_1 : Int32) (iv_2 : Iv) (rv_3 : Rv) (H : Heap) (locs : List Loc) (ls : Array Slot), lv_has ls 6 [(0, .ref (al.2 52 0)), (1, .int fl), (2, .int tl), (3, .int sh), (4, .int l4_1)] → GI al iv_2 rv_3 → FR ([], [(56, 2), (56, 3)]) iv iv_2 → FR ([], [(56, 2), (56, 3)]) rv rv_3 → UW D cA sz al iv_2 rv_3 H → va_S (Aq sz) s.heap H locs → (0 ≤ l4_1.toInt ∧ l4_1.toInt ≤ 10) → (10 - l4_1.toInt).toNat < n_3 → W p l e (rm 0) s m args below meth c H locs 0 0 Q (F0 m 3 ls []) := by
    intro n_3
    induction n_3 with
    | zero =>
      intro l4_1 iv_2 rv_3 H locs ls hl hG hF1 hF2 hU hS i3_0 hm_3
      exact absurd hm_3 (Nat.not_lt_zero _)
    | succ n_3 ih_3 =>
      intro l4_1 iv_2 rv_3 H locs ls hl hG hF1 hF2 hU hS i3_0 hm_3
      refine lv_iload hx hb dX7_move_3 (lv_at hl 4 rfl) ?_
      refine lv_bipush (v := 10) hx hb dX7_move_5 (by decide) ?_
      refine b_icmp_ge (tgt := 51) hx hb dX7_move_7 (by decide) (fun c_4 => ?_) (fun c_4 => ?_)
      ·
        exact hret (⟨hG, hF1, hF2, trivial⟩) hU hS dX7_move_51
      ·
        refine lv_aload_n hx hb dX7_move_10 rfl (lv_at hl 0 rfl) ?_
        refine g_52_0 C hU hG (h1_52 hG) fl_X7_11 dX7_move_11 ?_
        refine lv_iload hx hb dX7_move_14 (lv_at hl 4 rfl) ?_
        refine a_53 C hU hG (h1_53 hG) (x := l4_1) (by omega) (by omega) dX7_move_16 (fun j_5 ej_6 hb_7 => ?_)
        refine lv_astore (lv' := [(5, .ref (al.2 56 j_5)), (0, .ref (al.2 52 0)), (1, .int fl), (2, .int tl), (3, .int sh), (4, .int l4_1)]) hx hb dX7_move_17 hl (by decide) rfl (fun ls hl => ?_)
        refine lv_aload hx hb dX7_move_19 (lv_at hl 0 rfl) ?_
        refine g_56_2 C hU hG hb_7 fl_X7_33 dX7_move_21 (fun x_8 e_9 le_9 ue_9 => ?_)
        have te_9 := congrArg Int32.toInt e_9
        refine lv_iload_n hx hb dX7_move_24 rfl (lv_at hl 2 rfl) ?_
        have J_45 : ∀ (iv_10 : Iv) (rv_11 : Rv) (H : Heap) (locs : List Loc) (ls : Array Slot), lv_has ls 6 [(0, .ref (al.2 52 0)), (1, .int fl), (2, .int tl), (3, .int sh), (4, .int l4_1)] → GI al iv_10 rv_11 → FR ([], [(56, 2), (56, 3)]) iv iv_10 → FR ([], [(56, 2), (56, 3)]) rv rv_11 → UW D cA sz al iv_10 rv_11 H → va_S (Aq sz) s.heap H locs → W p l e (rm 0) s m args below meth c H locs 0 0 Q (F0 m 45 ls []) := by
          intro iv_10 rv_11 H locs ls hl hG hF1 hF2 hU hS
          obtain ⟨x_12, e_13⟩ : ∃ y : Int32, y = l4_1 + 1 := ⟨_, rfl⟩
          have te_13 : x_12.toInt = (l4_1 : Int32).toInt + (1 : Int32).toInt := by rw [e_13]; exact fb_addI (by omega) (by omega)
          refine lv_iinc (v := x_12) (lv' := [(4, .int x_12), (0, .ref (al.2 52 0)), (1, .int fl), (2, .int tl), (3, .int sh)]) hx hb dX7_move_45 hl (k := 4) rfl (by rw [e_13]; rfl) (by decide) rfl (fun ls hl => ?_)
          refine lv_goto (tgt := 3) hx hb dX7_move_48 (by decide) ?_
          exact ih_3 x_12 _ _ _ _ _ (lv_sub hl [1, 2, 3, 4, 0] rfl) hG hF1 hF2 hU hS (by omega) (by omega)
        refine b_icmp_ne (tgt := 45) hx hb dX7_move_25 (by decide) (fun c_14 => ?_) (fun c_14 => ?_)
        ·
          exact J_45 _ _ _ _ _ (lv_sub hl [1, 2, 3, 4, 5] rfl) hG hF1 hF2 hU hS
        ·
          refine lv_aload hx hb dX7_move_28 (lv_at hl 0 rfl) ?_
          refine lv_iload_n hx hb dX7_move_30 rfl (lv_at hl 3 rfl) ?_
          refine p_56_2 C hU hS hb_7 fl_X7_33 dX7_move_31 (fun iv_15 H locs ei_16 hU hS => ?_)
          have hG : GI al iv_15 rv_3 := by rw [ei_16]; exact hG.puti (show _ ∧ _ from ⟨show (0 : Int) ≤ _ by omega, show _ ≤ (9 : Int) by omega⟩) (nsF (by decide))
          have hF1 : FR ([], [(56, 2), (56, 3)]) iv iv_15 := by rw [ei_16]; exact hF1.put (by decide)
          refine lv_aload hx hb dX7_move_34 (lv_at hl 0 rfl) ?_
          refine lv_dup hx hb dX7_move_36 rfl ?_
          refine g_56_3 C hU hG hb_7 fl_X7_36 dX7_move_37 (fun x_17 e_18 => ?_)
          have te_18 := congrArg Int32.toInt e_18
          refine lv_iload_n hx hb dX7_move_40 rfl (lv_at hl 4 rfl) ?_
          refine lv_iadd hx hb dX7_move_41 ?_
          refine lv_topi (fun x_19 e_20 => ?_)
          refine p_56_3 C hU hS hb_7 fl_X7_36 dX7_move_42 (fun iv_21 H locs ei_22 hU hS => ?_)
          have hG : GI al iv_21 rv_3 := by rw [ei_22]; exact hG.puti (show _ ∧ _ from ⟨(fb_rng _).1, Int.le_of_lt_add_one (fb_rng _).2⟩) (nsF (by decide))
          have hF1 : FR ([], [(56, 2), (56, 3)]) iv iv_21 := by rw [ei_22]; exact hF1.put (by decide)
          exact J_45 _ _ _ _ _ (lv_sub hl [1, 2, 3, 4, 5] rfl) hG hF1 hF2 hU hS
  exact J_3 _ 0 _ _ _ _ _ (lv_sub hl [1, 2, 3, 4, 0] rfl) hG hF1 hF2 hU hS (by omega) (Nat.lt_succ_self _)
set_option maxHeartbeats 4000000 in
set_option maxRecDepth 100000 in
theorem c_X7_take {l : Launch} {D : va_G} {cA : FieldType → ClassId} {sz : Nat} {al : Al} {iv : Iv} {rv : Rv} (hG : GI al iv rv) (pi : Nat) (hpi : pi < al.1 56) (pj : Nat) (hpj : pj < al.1 56) (by_ : Int32) : Met l yX7_take (wd yX7_take cX7_take 5 (some .boolean)) (rm 1) (PcW D cA sz al iv rv [.ref (al.2 52 0), .ref (al.2 56 pi), .ref (al.2 56 pj), .int by_]) (QI D cA sz al (fI al ([], [(56, 2), (56, 3), (52, 2)]) iv rv (fun r iv' rv' => (0 ≤ r.toInt ∧ r.toInt ≤ 1) ∧ (True)))) 0 0 (Aq sz) := by
  refine mk_z (by decide) (Nat.le_of_ble_eq_true rfl) rfl ?_
  intro p e s m args below meth c ls Q H locs C hU hS hl hret
  have hx := C.1.1
  have hb := C.1.2.1
  have hl : lv_has ls 5 [(0, .ref (al.2 52 0)), (1, .ref (al.2 56 pi)), (2, .ref (al.2 56 pj)), (3, .int by_)] := hl
  have hG0 := hG
  have hF1 : FR ([], [(56, 2), (56, 3), (52, 2)]) iv iv := FR.rf
  have hF2 : FR ([], [(56, 2), (56, 3), (52, 2)]) rv rv := FR.rf
  have k0 : (0 : Int32).toInt = 0 := by decide
  have k1 : (1 : Int32).toInt = 1 := by decide
  refine lv_aload_n hx hb dX7_take_0 rfl (lv_at hl 1 rfl) ?_
  refine g_56_2 C hU hG hpi fl_X7_33 dX7_take_1 (fun x_1 e_2 le_2 ue_2 => ?_)
  have te_2 := congrArg Int32.toInt e_2
  refine lv_aload_n hx hb dX7_take_4 rfl (lv_at hl 2 rfl) ?_
  refine g_56_2 C hU hG hpj fl_X7_33 dX7_take_5 (fun x_3 e_4 le_4 ue_4 => ?_)
  have te_4 := congrArg Int32.toInt e_4
  refine b_icmp_ne (tgt := 49) hx hb dX7_take_8 (by decide) (fun c_5 => ?_) (fun c_5 => ?_)
  ·
    refine lv_aload_n hx hb dX7_take_49 rfl (lv_at hl 1 rfl) ?_
    refine g_56_2 C hU hG hpi fl_X7_33 dX7_take_50 (fun x_6 e_7 le_7 ue_7 => ?_)
    have te_7 := congrArg Int32.toInt e_7
    refine lv_aload_n hx hb dX7_take_53 rfl (lv_at hl 2 rfl) ?_
    refine g_56_2 C hU hG hpj fl_X7_33 dX7_take_54 (fun x_8 e_9 le_9 ue_9 => ?_)
    have te_9 := congrArg Int32.toInt e_9
    refine b_icmp_ge (tgt := 86) hx hb dX7_take_57 (by decide) (fun c_10 => ?_) (fun c_10 => ?_)
    ·
      refine lv_aload_n hx hb dX7_take_86 rfl (lv_at hl 0 rfl) ?_
      refine lv_aload_n hx hb dX7_take_87 rfl (lv_at hl 1 rfl) ?_
      refine g_56_2 C hU hG hpi fl_X7_33 dX7_take_88 (fun x_11 e_12 le_12 ue_12 => ?_)
      have te_12 := congrArg Int32.toInt e_12
      refine lv_aload_n hx hb dX7_take_91 rfl (lv_at hl 2 rfl) ?_
      refine g_56_2 C hU hG hpj fl_X7_33 dX7_take_92 (fun x_13 e_14 le_14 ue_14 => ?_)
      have te_14 := congrArg Int32.toInt e_14
      refine lv_aload_n hx hb dX7_take_95 rfl (lv_at hl 2 rfl) ?_
      refine g_56_3 C hU hG hpj fl_X7_36 dX7_take_96 (fun x_15 e_16 => ?_)
      have te_16 := congrArg Int32.toInt e_16
      refine lv_iload_n hx hb dX7_take_99 rfl (lv_at hl 3 rfl) ?_
      refine lv_iadd hx hb dX7_take_100 ?_
      refine lv_topi (fun x_17 e_18 => ?_)
      refine lv_aload_n hx hb dX7_take_101 rfl (lv_at hl 1 rfl) ?_
      refine g_56_3 C hU hG hpi fl_X7_36 dX7_take_102 (fun x_19 e_20 => ?_)
      have te_20 := congrArg Int32.toInt e_20
      refine lv_isub hx hb dX7_take_105 ?_
      refine lv_topi (fun x_21 e_22 => ?_)
      refine q_fv (q_runV (t := 52) (i := 0) (As := [.int x_11, .int x_13, .int x_21]) (rest := []) C hU (c_X7_move hG x_11 x_13 x_21 (by omega)) vm_X7_move ml_X7_42 k_52.1 (hc := rfl) rfl (h1_52 hG) hl.1 rfl rfl (Nat.le_of_ble_eq_true rfl) dX7_take_106 rfl rfl ⟨Nat.le_of_ble_eq_true rfl, Nat.le_of_ble_eq_true rfl⟩ ⟨Nat.le_refl _, Nat.le_refl _⟩) hS (fun iv_24 rv_25 H locs hG fa_26 fb_27 hp_23 hU hS => ?_)
      have hF1 := hF1.tr (m := ([], [(56, 2), (56, 3), (52, 2)])) fa_26 (by decide)
      have hF2 := hF2.tr (m := ([], [(56, 2), (56, 3), (52, 2)])) fb_27 (by decide)
      refine lv_iconst (v := 1) hx hb dX7_take_109 (by decide) ?_
      exact hret (by omega) (by omega) (⟨hG, hF1, hF2, ⟨⟨by omega, by omega⟩, trivial⟩⟩) hU hS dX7_take_110
    ·
      refine lv_aload_n hx hb dX7_take_60 rfl (lv_at hl 0 rfl) ?_
      refine lv_aload_n hx hb dX7_take_61 rfl (lv_at hl 2 rfl) ?_
      refine g_56_2 C hU hG hpj fl_X7_33 dX7_take_62 (fun x_28 e_29 le_29 ue_29 => ?_)
      have te_29 := congrArg Int32.toInt e_29
      refine lv_aload_n hx hb dX7_take_65 rfl (lv_at hl 1 rfl) ?_
      refine g_56_2 C hU hG hpi fl_X7_33 dX7_take_66 (fun x_30 e_31 le_31 ue_31 => ?_)
      have te_31 := congrArg Int32.toInt e_31
      refine lv_aload_n hx hb dX7_take_69 rfl (lv_at hl 1 rfl) ?_
      refine g_56_3 C hU hG hpi fl_X7_36 dX7_take_70 (fun x_32 e_33 => ?_)
      have te_33 := congrArg Int32.toInt e_33
      refine lv_iload_n hx hb dX7_take_73 rfl (lv_at hl 3 rfl) ?_
      refine lv_isub hx hb dX7_take_74 ?_
      refine lv_topi (fun x_34 e_35 => ?_)
      refine lv_aload_n hx hb dX7_take_75 rfl (lv_at hl 2 rfl) ?_
      refine g_56_3 C hU hG hpj fl_X7_36 dX7_take_76 (fun x_36 e_37 => ?_)
      have te_37 := congrArg Int32.toInt e_37
      refine lv_isub hx hb dX7_take_79 ?_
      refine lv_topi (fun x_38 e_39 => ?_)
      refine q_fv (q_runV (t := 52) (i := 0) (As := [.int x_28, .int x_30, .int x_38]) (rest := []) C hU (c_X7_move hG x_28 x_30 x_38 (by omega)) vm_X7_move ml_X7_42 k_52.1 (hc := rfl) rfl (h1_52 hG) hl.1 rfl rfl (Nat.le_of_ble_eq_true rfl) dX7_take_80 rfl rfl ⟨Nat.le_of_ble_eq_true rfl, Nat.le_of_ble_eq_true rfl⟩ ⟨Nat.le_refl _, Nat.le_refl _⟩) hS (fun iv_41 rv_42 H locs hG fa_43 fb_44 hp_40 hU hS => ?_)
      have hF1 := hF1.tr (m := ([], [(56, 2), (56, 3), (52, 2)])) fa_43 (by decide)
      have hF2 := hF2.tr (m := ([], [(56, 2), (56, 3), (52, 2)])) fb_44 (by decide)
      refine lv_goto (tgt := 109) hx hb dX7_take_83 (by decide) ?_
      refine lv_iconst (v := 1) hx hb dX7_take_109 (by decide) ?_
      exact hret (by omega) (by omega) (⟨hG, hF1, hF2, ⟨⟨by omega, by omega⟩, trivial⟩⟩) hU hS dX7_take_110
  ·
    refine lv_aload_n hx hb dX7_take_11 rfl (lv_at hl 1 rfl) ?_
    refine g_56_3 C hU hG hpi fl_X7_36 dX7_take_12 (fun x_45 e_46 => ?_)
    have te_46 := congrArg Int32.toInt e_46
    refine lv_aload_n hx hb dX7_take_15 rfl (lv_at hl 2 rfl) ?_
    refine g_56_3 C hU hG hpj fl_X7_36 dX7_take_16 (fun x_47 e_48 => ?_)
    have te_48 := congrArg Int32.toInt e_48
    refine lv_isub hx hb dX7_take_19 ?_
    refine lv_topi (fun x_49 e_50 => ?_)
    refine lv_iload_n hx hb dX7_take_20 rfl (lv_at hl 3 rfl) ?_
    have J_29 : ∀ (v_51 : Int32) (ls : Array Slot), lv_has ls 5 [(0, .ref (al.2 52 0))] → (0 ≤ v_51.toInt ∧ v_51.toInt ≤ 1) → W p l e (rm 1) s m args below meth c H locs 0 0 Q (F0 m 29 ls [.int v_51]) := by
      intro v_51 ls hl i29_0
      refine lv_istore (lv' := [(4, .int v_51), (0, .ref (al.2 52 0))]) hx hb dX7_take_29 hl (by decide) rfl (fun ls hl => ?_)
      refine lv_iload hx hb dX7_take_31 (lv_at hl 0 rfl) ?_
      refine b_if_ne (tgt := 46) hx hb dX7_take_33 (by decide) (fun c_52 => ?_) (fun c_52 => ?_)
      ·
        refine lv_iload hx hb dX7_take_46 (lv_at hl 0 rfl) ?_
        exact hret (by omega) (by omega) (⟨hG, hF1, hF2, ⟨⟨by omega, by omega⟩, trivial⟩⟩) hU hS dX7_take_48
      ·
        refine lv_aload_n hx hb dX7_take_36 rfl (lv_at hl 1 rfl) ?_
        refine lv_dup hx hb dX7_take_37 rfl ?_
        refine g_52_2 C hU hG (h1_52 hG) fl_X7_39 dX7_take_38 (fun x_53 e_54 => ?_)
        have te_54 := congrArg Int32.toInt e_54
        refine lv_iconst (v := 1) hx hb dX7_take_41 (by decide) ?_
        refine lv_iadd hx hb dX7_take_42 ?_
        refine lv_topi (fun x_55 e_56 => ?_)
        refine p_52_2 C hU hS (h1_52 hG) fl_X7_39 dX7_take_43 (fun iv_57 H locs ei_58 hU hS => ?_)
        have hG : GI al iv_57 rv := by rw [ei_58]; exact hG.puti (show _ ∧ _ from ⟨(fb_rng _).1, Int.le_of_lt_add_one (fb_rng _).2⟩) (nsF (by decide))
        have hF1 : FR ([], [(56, 2), (56, 3), (52, 2)]) iv iv_57 := by rw [ei_58]; exact hF1.put (by decide)
        refine lv_iload hx hb dX7_take_46 (lv_at hl 0 rfl) ?_
        exact hret (by omega) (by omega) (⟨hG, hF1, hF2, ⟨⟨by omega, by omega⟩, trivial⟩⟩) hU hS dX7_take_48
    refine b_icmp_ne (tgt := 28) hx hb dX7_take_21 (by decide) (fun c_59 => ?_) (fun c_59 => ?_)
    ·
      refine lv_iconst (v := 0) hx hb dX7_take_28 (by decide) ?_
      exact J_29 0 _ (lv_sub hl [0] rfl) (by omega)
    ·
      refine lv_iconst (v := 1) hx hb dX7_take_24 (by decide) ?_
      refine lv_goto (tgt := 29) hx hb dX7_take_25 (by decide) ?_
      exact J_29 1 _ (lv_sub hl [0] rfl) (by omega)
set_option maxHeartbeats 4000000 in
set_option maxRecDepth 100000 in
theorem c_X5_putRight {l : Launch} {D : va_G} {cA : FieldType → ClassId} {sz : Nat} {al : Al} {iv : Iv} {rv : Rv} (hG : GI al iv rv) (li : Nat) (hli : li < al.1 62) : Met l yX5_putRight (wd yX5_putRight cX5_putRight 1 none) (rm 1) (PcW D cA sz al iv rv [.ref (al.2 62 li)]) (QV D cA sz al (fV al ([], [(62, 10), (62, 11), (62, 12), (62, 13)]) iv rv (fun iv' rv' => True))) 0 0 (Aq sz) := by
  refine mk_v (by decide) (Nat.le_of_ble_eq_true rfl) rfl ?_
  intro p e s m args below meth c ls Q H locs C hU hS hl hret
  have hx := C.1.1
  have hb := C.1.2.1
  have hl : lv_has ls 1 [(0, .ref (al.2 62 li))] := hl
  have hG0 := hG
  have hF1 : FR ([], [(62, 10), (62, 11), (62, 12), (62, 13)]) iv iv := FR.rf
  have hF2 : FR ([], [(62, 10), (62, 11), (62, 12), (62, 13)]) rv rv := FR.rf
  have k0 : (0 : Int32).toInt = 0 := by decide
  refine lv_aload_n hx hb dX5_putRight_0 rfl (lv_at hl 0 rfl) ?_
  refine lv_iconst (v := 0) hx hb dX5_putRight_1 (by decide) ?_
  refine lv_aload_n hx hb dX5_putRight_2 rfl (lv_at hl 0 rfl) ?_
  refine g_62_8 C hU hG hli fl_X5_32 dX5_putRight_3 (fun x_1 e_2 le_2 ue_2 => ?_)
  have te_2 := congrArg Int32.toInt e_2
  refine lv_aload_n hx hb dX5_putRight_6 rfl (lv_at hl 0 rfl) ?_
  refine g_62_1 C hU hG hli fl_X5_13 dX5_putRight_7 (fun j_3 ej_4 hb_5 => ?_)
  refine g_56_3 C hU hG hb_5 fl_X5_45 dX5_putRight_10 (fun x_6 e_7 => ?_)
  have te_7 := congrArg Int32.toInt e_7
  refine lv_isub hx hb dX5_putRight_13 ?_
  refine lv_topi (fun x_8 e_9 => ?_)
  refine q_max C hl.1 ml_X5_50 (Nat.le_of_ble_eq_true rfl) (Nat.le_of_ble_eq_true rfl) (Nat.le_refl _) (Nat.le_refl _) dX5_putRight_14 (fun x_10 q_11 tq_11 => ?_)
  refine p_62_10 C hU hS hli fl_X5_56 dX5_putRight_17 (fun iv_12 H locs ei_13 hU hS => ?_)
  have hG : GI al iv_12 rv := by rw [ei_13]; exact hG.puti (show _ ∧ _ from ⟨(fb_rng _).1, Int.le_of_lt_add_one (fb_rng _).2⟩) (nsF (by decide))
  have hF1 : FR ([], [(62, 10), (62, 11), (62, 12), (62, 13)]) iv iv_12 := by rw [ei_13]; exact hF1.put (by decide)
  refine lv_aload_n hx hb dX5_putRight_20 rfl (lv_at hl 0 rfl) ?_
  refine lv_iconst (v := 0) hx hb dX5_putRight_21 (by decide) ?_
  refine lv_aload_n hx hb dX5_putRight_22 rfl (lv_at hl 0 rfl) ?_
  refine g_62_9 C hU hG hli fl_X5_35 dX5_putRight_23 (fun x_14 e_15 le_15 ue_15 => ?_)
  have te_15 := congrArg Int32.toInt e_15
  have ne_15 : x_14.toInt = (iv 62 li 9).toInt := by rw [e_15, hF1 62 li 9 (by decide)]
  refine lv_aload_n hx hb dX5_putRight_26 rfl (lv_at hl 0 rfl) ?_
  refine g_62_2 C hU hG hli fl_X5_17 dX5_putRight_27 (fun j_16 ej_17 hb_18 => ?_)
  refine g_56_3 C hU hG hb_18 fl_X5_45 dX5_putRight_30 (fun x_19 e_20 => ?_)
  have te_20 := congrArg Int32.toInt e_20
  have ne_20 : x_19.toInt = (iv 56 j_16 3).toInt := by rw [e_20, hF1 56 j_16 3 (by decide)]
  refine lv_isub hx hb dX5_putRight_33 ?_
  refine lv_topi (fun x_21 e_22 => ?_)
  refine q_max C hl.1 ml_X5_50 (Nat.le_of_ble_eq_true rfl) (Nat.le_of_ble_eq_true rfl) (Nat.le_refl _) (Nat.le_refl _) dX5_putRight_34 (fun x_23 q_24 tq_24 => ?_)
  refine p_62_11 C hU hS hli fl_X5_59 dX5_putRight_37 (fun iv_25 H locs ei_26 hU hS => ?_)
  have hG : GI al iv_25 rv := by rw [ei_26]; exact hG.puti (show _ ∧ _ from ⟨(fb_rng _).1, Int.le_of_lt_add_one (fb_rng _).2⟩) (nsF (by decide))
  have hF1 : FR ([], [(62, 10), (62, 11), (62, 12), (62, 13)]) iv iv_25 := by rw [ei_26]; exact hF1.put (by decide)
  refine lv_aload_n hx hb dX5_putRight_40 rfl (lv_at hl 0 rfl) ?_
  refine lv_iconst (v := 0) hx hb dX5_putRight_41 (by decide) ?_
  refine lv_aload_n hx hb dX5_putRight_42 rfl (lv_at hl 0 rfl) ?_
  refine g_62_10 C hU hG hli fl_X5_56 dX5_putRight_43 (fun x_27 e_28 => ?_)
  have te_28 := congrArg Int32.toInt e_28
  refine lv_aload_n hx hb dX5_putRight_46 rfl (lv_at hl 0 rfl) ?_
  refine g_62_5 C hU hG hli fl_X5_26 dX5_putRight_47 (fun x_29 e_30 le_30 ue_30 => ?_)
  have te_30 := congrArg Int32.toInt e_30
  have ne_30 : x_29.toInt = (iv 62 li 5).toInt := by rw [e_30, hF1 62 li 5 (by decide)]
  refine lv_isub hx hb dX5_putRight_50 ?_
  refine lv_topi (fun x_31 e_32 => ?_)
  refine q_max C hl.1 ml_X5_50 (Nat.le_of_ble_eq_true rfl) (Nat.le_of_ble_eq_true rfl) (Nat.le_refl _) (Nat.le_refl _) dX5_putRight_51 (fun x_33 q_34 tq_34 => ?_)
  refine p_62_12 C hU hS hli fl_X5_62 dX5_putRight_54 (fun iv_35 H locs ei_36 hU hS => ?_)
  have hG : GI al iv_35 rv := by rw [ei_36]; exact hG.puti (show _ ∧ _ from ⟨(fb_rng _).1, Int.le_of_lt_add_one (fb_rng _).2⟩) (nsF (by decide))
  have hF1 : FR ([], [(62, 10), (62, 11), (62, 12), (62, 13)]) iv iv_35 := by rw [ei_36]; exact hF1.put (by decide)
  refine lv_aload_n hx hb dX5_putRight_57 rfl (lv_at hl 0 rfl) ?_
  refine lv_iconst (v := 0) hx hb dX5_putRight_58 (by decide) ?_
  refine lv_aload_n hx hb dX5_putRight_59 rfl (lv_at hl 0 rfl) ?_
  refine g_62_11 C hU hG hli fl_X5_59 dX5_putRight_60 (fun x_37 e_38 => ?_)
  have te_38 := congrArg Int32.toInt e_38
  refine lv_aload_n hx hb dX5_putRight_63 rfl (lv_at hl 0 rfl) ?_
  refine g_62_6 C hU hG hli fl_X5_29 dX5_putRight_64 (fun x_39 e_40 le_40 ue_40 => ?_)
  have te_40 := congrArg Int32.toInt e_40
  have ne_40 : x_39.toInt = (iv 62 li 6).toInt := by rw [e_40, hF1 62 li 6 (by decide)]
  refine lv_isub hx hb dX5_putRight_67 ?_
  refine lv_topi (fun x_41 e_42 => ?_)
  refine q_max C hl.1 ml_X5_50 (Nat.le_of_ble_eq_true rfl) (Nat.le_of_ble_eq_true rfl) (Nat.le_refl _) (Nat.le_refl _) dX5_putRight_68 (fun x_43 q_44 tq_44 => ?_)
  refine p_62_13 C hU hS hli fl_X5_65 dX5_putRight_71 (fun iv_45 H locs ei_46 hU hS => ?_)
  have hG : GI al iv_45 rv := by rw [ei_46]; exact hG.puti (show _ ∧ _ from ⟨(fb_rng _).1, Int.le_of_lt_add_one (fb_rng _).2⟩) (nsF (by decide))
  have hF1 : FR ([], [(62, 10), (62, 11), (62, 12), (62, 13)]) iv iv_45 := by rw [ei_46]; exact hF1.put (by decide)
  exact hret (⟨hG, hF1, hF2, trivial⟩) hU hS dX5_putRight_74
set_option maxHeartbeats 4000000 in
set_option maxRecDepth 100000 in
theorem c_X5_enter {l : Launch} {D : va_G} {cA : FieldType → ClassId} {sz : Nat} {al : Al} {iv : Iv} {rv : Rv} (hG : GI al iv rv) (li : Nat) (hli : li < al.1 62) (a : Int32) (b : Int32) (pre0 : 0 ≤ a.toInt ∧ a.toInt ≤ 30000) (pre1 : 0 ≤ b.toInt ∧ b.toInt ≤ 30000) : Met l yX5_enter (wd yX5_enter cX5_enter 3 none) (rm 2) (PcW D cA sz al iv rv [.ref (al.2 62 li), .int a, .int b]) (QV D cA sz al (fV al ([], [(62, 10), (62, 11), (62, 12), (62, 13), (62, 7), (62, 8), (62, 9)]) iv rv (fun iv' rv' => True))) 0 0 (Aq sz) := by
  refine mk_v (by decide) (Nat.le_of_ble_eq_true rfl) rfl ?_
  intro p e s m args below meth c ls Q H locs C hU hS hl hret
  have hx := C.1.1
  have hb := C.1.2.1
  have hl : lv_has ls 3 [(0, .ref (al.2 62 li)), (1, .int a), (2, .int b)] := hl
  have hG0 := hG
  have hF1 : FR ([], [(62, 10), (62, 11), (62, 12), (62, 13), (62, 7), (62, 8), (62, 9)]) iv iv := FR.rf
  have hF2 : FR ([], [(62, 10), (62, 11), (62, 12), (62, 13), (62, 7), (62, 8), (62, 9)]) rv rv := FR.rf
  have k1 : (1 : Int32).toInt = 1 := by decide
  refine lv_aload_n hx hb dX5_enter_0 rfl (lv_at hl 0 rfl) ?_
  refine lv_iload_n hx hb dX5_enter_1 rfl (lv_at hl 1 rfl) ?_
  refine p_62_8 C hU hS hli fl_X5_32 dX5_enter_2 (fun iv_1 H locs ei_2 hU hS => ?_)
  have hG : GI al iv_1 rv := by rw [ei_2]; exact hG.puti (show _ ∧ _ from ⟨show (0 : Int) ≤ _ by omega, show _ ≤ (30000 : Int) by omega⟩) (nsF (by decide))
  have hF1 : FR ([], [(62, 10), (62, 11), (62, 12), (62, 13), (62, 7), (62, 8), (62, 9)]) iv iv_1 := by rw [ei_2]; exact hF1.put (by decide)
  refine lv_aload_n hx hb dX5_enter_5 rfl (lv_at hl 0 rfl) ?_
  refine lv_iload_n hx hb dX5_enter_6 rfl (lv_at hl 2 rfl) ?_
  refine p_62_9 C hU hS hli fl_X5_35 dX5_enter_7 (fun iv_3 H locs ei_4 hU hS => ?_)
  have hG : GI al iv_3 rv := by rw [ei_4]; exact hG.puti (show _ ∧ _ from ⟨show (0 : Int) ≤ _ by omega, show _ ≤ (30000 : Int) by omega⟩) (nsF (by decide))
  have hF1 : FR ([], [(62, 10), (62, 11), (62, 12), (62, 13), (62, 7), (62, 8), (62, 9)]) iv iv_3 := by rw [ei_4]; exact hF1.put (by decide)
  refine lv_aload_n hx hb dX5_enter_10 rfl (lv_at hl 0 rfl) ?_
  refine lv_iconst (v := 1) hx hb dX5_enter_11 (by decide) ?_
  refine p_62_7 C hU hS hli fl_X5_38 dX5_enter_12 (by omega) (by omega) (fun iv_5 H locs ei_6 hU hS => ?_)
  have hG : GI al iv_5 rv := by rw [ei_6]; exact hG.puti (show _ ∧ _ from ⟨show (0 : Int) ≤ _ by omega, show _ ≤ (1 : Int) by omega⟩) (nsF (by decide))
  have hF1 : FR ([], [(62, 10), (62, 11), (62, 12), (62, 13), (62, 7), (62, 8), (62, 9)]) iv iv_5 := by rw [ei_6]; exact hF1.put (by decide)
  refine lv_aload_n hx hb dX5_enter_15 rfl (lv_at hl 0 rfl) ?_
  refine q_fv (q_runV (t := 62) (i := li) (As := []) (rest := []) C hU (c_X5_putRight hG (li) hli ) vm_X5_putRight ml_X5_42 k_62.1 (hc := rfl) rfl hli hl.1 rfl rfl (Nat.le_of_ble_eq_true rfl) dX5_enter_16 rfl rfl ⟨Nat.le_of_ble_eq_true rfl, Nat.le_of_ble_eq_true rfl⟩ ⟨Nat.le_refl _, Nat.le_refl _⟩) hS (fun iv_8 rv_9 H locs hG fa_10 fb_11 hp_7 hU hS => ?_)
  have hF1 := hF1.tr (m := ([], [(62, 10), (62, 11), (62, 12), (62, 13), (62, 7), (62, 8), (62, 9)])) fa_10 (by decide)
  have hF2 := hF2.tr (m := ([], [(62, 10), (62, 11), (62, 12), (62, 13), (62, 7), (62, 8), (62, 9)])) fb_11 (by decide)
  exact hret (⟨hG, hF1, hF2, trivial⟩) hU hS dX5_enter_19
set_option maxHeartbeats 4000000 in
set_option maxRecDepth 100000 in
theorem c_X5_waitFor {l : Launch} {D : va_G} {cA : FieldType → ClassId} {sz : Nat} {al : Al} {iv : Iv} {rv : Rv} (hG : GI al iv rv) (li : Nat) (hli : li < al.1 62) (bf : Option Nat) (hbf : ∀ j, bf = some j → j < al.1 62) (gap : Int32) : Met l yX5_waitFor (wd yX5_waitFor cX5_waitFor 4 (some .int)) (rm 1) (PcW D cA sz al iv rv [.ref (al.2 62 li), rfv al 62 bf, .int gap]) (QI D cA sz al (pI iv rv (fun r => True))) 0 0 (Aq sz) := by
  cases bf with
  | none =>
    refine mk_i (by decide) (Nat.le_of_ble_eq_true rfl) rfl ?_
    intro p e s m args below meth c ls Q H locs C hU hS hl hret
    have hx := C.1.1
    have hb := C.1.2.1
    have hl : lv_has ls 4 [(0, .ref (al.2 62 li)), (1, .null), (2, .int gap)] := hl
    have hG0 := hG
    have k0 : (0 : Int32).toInt = 0 := by decide
    refine lv_aload_nN hx hb dX5_waitFor_0 rfl (lv_at hl 1 rfl) ?_
    refine lv_ifnullN (tgt := 11) hx hb dX5_waitFor_1 (by decide) ?_
    refine lv_iconst (v := 0) hx hb dX5_waitFor_11 (by decide) ?_
    exact hret (⟨rfl, rfl, trivial⟩) hU hS dX5_waitFor_12
  | some bf_j =>
    have hbf_j : bf_j < al.1 62 := hbf bf_j rfl
    refine mk_i (by decide) (Nat.le_of_ble_eq_true rfl) rfl ?_
    intro p e s m args below meth c ls Q H locs C hU hS hl hret
    have hx := C.1.1
    have hb := C.1.2.1
    have hl : lv_has ls 4 [(0, .ref (al.2 62 li)), (1, .ref (al.2 62 bf_j)), (2, .int gap)] := hl
    have hG0 := hG
    have k0 : (0 : Int32).toInt = 0 := by decide
    refine lv_aload_n hx hb dX5_waitFor_0 rfl (lv_at hl 1 rfl) ?_
    refine lv_ifnull hx hb dX5_waitFor_1 ?_
    refine lv_aload_n hx hb dX5_waitFor_4 rfl (lv_at hl 1 rfl) ?_
    refine g_62_7 C hU hG hbf_j fl_X5_38 dX5_waitFor_5 (fun x_2 e_3 le_3 ue_3 => ?_)
    have te_3 := congrArg Int32.toInt e_3
    refine b_if_ne (tgt := 13) hx hb dX5_waitFor_8 (by decide) (fun c_4 => ?_) (fun c_4 => ?_)
    ·
      refine lv_iconst (v := 0) hx hb dX5_waitFor_13 (by decide) ?_
      refine lv_aload_n hx hb dX5_waitFor_14 rfl (lv_at hl 1 rfl) ?_
      refine g_62_11 C hU hG hbf_j fl_X5_59 dX5_waitFor_15 (fun x_5 e_6 => ?_)
      have te_6 := congrArg Int32.toInt e_6
      refine lv_iload_n hx hb dX5_waitFor_18 rfl (lv_at hl 2 rfl) ?_
      refine lv_iadd hx hb dX5_waitFor_19 ?_
      refine lv_topi (fun x_7 e_8 => ?_)
      refine lv_aload_n hx hb dX5_waitFor_20 rfl (lv_at hl 0 rfl) ?_
      refine g_62_5 C hU hG hli fl_X5_26 dX5_waitFor_21 (fun x_9 e_10 le_10 ue_10 => ?_)
      have te_10 := congrArg Int32.toInt e_10
      refine lv_isub hx hb dX5_waitFor_24 ?_
      refine lv_topi (fun x_11 e_12 => ?_)
      refine q_max C hl.1 ml_X5_50 (Nat.le_of_ble_eq_true rfl) (Nat.le_of_ble_eq_true rfl) (Nat.le_refl _) (Nat.le_refl _) dX5_waitFor_25 (fun x_13 q_14 tq_14 => ?_)
      refine lv_istore_n (lv' := [(3, .int x_13), (0, .ref (al.2 62 li)), (1, .ref (al.2 62 bf_j)), (2, .int gap)]) hx hb dX5_waitFor_28 rfl hl (by decide) rfl (fun ls hl => ?_)
      refine lv_iload_n hx hb dX5_waitFor_29 rfl (lv_at hl 0 rfl) ?_
      refine lv_aload_n hx hb dX5_waitFor_30 rfl (lv_at hl 1 rfl) ?_
      refine g_62_12 C hU hG hli fl_X5_62 dX5_waitFor_31 (fun x_15 e_16 => ?_)
      have te_16 := congrArg Int32.toInt e_16
      refine q_min C hl.1 ml_X5_68 (Nat.le_of_ble_eq_true rfl) (Nat.le_of_ble_eq_true rfl) (Nat.le_refl _) (Nat.le_refl _) dX5_waitFor_34 (fun x_17 q_18 tq_18 => ?_)
      exact hret (⟨rfl, rfl, trivial⟩) hU hS dX5_waitFor_37
    ·
      refine lv_iconst (v := 0) hx hb dX5_waitFor_11 (by decide) ?_
      exact hret (⟨rfl, rfl, trivial⟩) hU hS dX5_waitFor_12
set_option maxHeartbeats 4000000 in
set_option maxRecDepth 100000 in
theorem c_X10_putRight {l : Launch} {D : va_G} {cA : FieldType → ClassId} {sz : Nat} {al : Al} {iv : Iv} {rv : Rv} (hG : GI al iv rv) : Met l yX10_putRight (wd yX10_putRight cX10_putRight 2 none) (rm 2) (PcW D cA sz al iv rv [.ref (al.2 57 0)]) (QV D cA sz al (fV al ([], [(62, 10), (62, 11), (62, 12), (62, 13)]) iv rv (fun iv' rv' => True))) 0 0 (Aq sz) := by
  refine mk_v (by decide) (Nat.le_of_ble_eq_true rfl) rfl ?_
  intro p e s m args below meth c ls Q H locs C hU hS hl hret
  have hx := C.1.1
  have hb := C.1.2.1
  have hl : lv_has ls 2 [(0, .ref (al.2 57 0))] := hl
  have hG0 := hG
  have hF1 : FR ([], [(62, 10), (62, 11), (62, 12), (62, 13)]) iv iv := FR.rf
  have hF2 : FR ([], [(62, 10), (62, 11), (62, 12), (62, 13)]) rv rv := FR.rf
  have k0 : (0 : Int32).toInt = 0 := by decide
  have k1 : (1 : Int32).toInt = 1 := by decide
  refine lv_iconst (v := 0) hx hb dX10_putRight_0 (by decide) ?_
  refine lv_istore_n (lv' := [(1, .int 0), (0, .ref (al.2 57 0))]) hx hb dX10_putRight_1 rfl hl (by decide) rfl (fun ls hl => ?_)
  have J_2 : ∀ (n_2 : Nat) (l1_1 : Int32) (iv_2 : Iv) (rv_3 : Rv) (H : Heap) (locs : List Loc) (ls : Array Slot), lv_has ls 2 [(0, .ref (al.2 57 0)), (1, .int l1_1)] → GI al iv_2 rv_3 → FR ([], [(62, 10), (62, 11), (62, 12), (62, 13)]) iv iv_2 → FR ([], [(62, 10), (62, 11), (62, 12), (62, 13)]) rv rv_3 → UW D cA sz al iv_2 rv_3 H → va_S (Aq sz) s.heap H locs → (0 ≤ l1_1.toInt ∧ l1_1.toInt ≤ 40) → (40 - l1_1.toInt).toNat < n_2 → W p l e (rm 2) s m args below meth c H locs 0 0 Q (F0 m 2 ls []) := by
    intro n_2
    induction n_2 with
    | zero =>
      intro l1_1 iv_2 rv_3 H locs ls hl hG hF1 hF2 hU hS i2_0 hm_2
      exact absurd hm_2 (Nat.not_lt_zero _)
    | succ n_2 ih_2 =>
      intro l1_1 iv_2 rv_3 H locs ls hl hG hF1 hF2 hU hS i2_0 hm_2
      refine lv_iload_n hx hb dX10_putRight_2 rfl (lv_at hl 1 rfl) ?_
      refine lv_aload_n hx hb dX10_putRight_3 rfl (lv_at hl 0 rfl) ?_
      refine g_57_1 C hU hG (h1_57 hG) fl_X10_28 dX10_putRight_4 (fun x_4 e_5 le_5 ue_5 => ?_)
      have te_5 := congrArg Int32.toInt e_5
      have ne_5 : x_4.toInt = (iv 57 0 1).toInt := by rw [e_5, hF1 57 0 1 (by decide)]
      refine b_icmp_ge (tgt := 37) hx hb dX10_putRight_7 (by decide) (fun c_6 => ?_) (fun c_6 => ?_)
      ·
        exact hret (⟨hG, hF1, hF2, trivial⟩) hU hS dX10_putRight_37
      ·
        refine lv_aload_n hx hb dX10_putRight_10 rfl (lv_at hl 0 rfl) ?_
        refine g_57_0 C hU hG (h1_57 hG) fl_X10_13 dX10_putRight_11 ?_
        refine lv_iload_n hx hb dX10_putRight_14 rfl (lv_at hl 1 rfl) ?_
        refine a_58 C hU hG (h1_58 hG) (x := l1_1) (by omega) (by omega) dX10_putRight_15 (fun r_7 er_8 hb_9 => ?_)
        have ner_8 : r_7 = rv 58 0 (l1_1 : Int32).toNatClampNeg := by rw [er_8, hF2.arr 58 0 _ (by decide)]
        obtain ⟨j_10, ej_11⟩ : ∃ j, r_7 = some j := ⟨_, er_8.trans (tall hG (by omega) (by omega))⟩
        subst ej_11
        have hl : lv_has ls 2 [(0, .ref (al.2 57 0)), (1, .int l1_1)] := hl
        have hb_12 : j_10 < al.1 62 := hb_9 j_10 rfl
        refine g_62_7 C hU hG hb_12 fl_X10_39 dX10_putRight_16 (fun x_13 e_14 le_14 ue_14 => ?_)
        have te_14 := congrArg Int32.toInt e_14
        have ne_14 : x_13.toInt = (iv 62 j_10 7).toInt := by rw [e_14, hF1 62 j_10 7 (by decide)]
        have J_31 : ∀ (iv_15 : Iv) (rv_16 : Rv) (H : Heap) (locs : List Loc) (ls : Array Slot), lv_has ls 2 [(0, .ref (al.2 57 0)), (1, .int l1_1)] → GI al iv_15 rv_16 → FR ([], [(62, 10), (62, 11), (62, 12), (62, 13)]) iv iv_15 → FR ([], [(62, 10), (62, 11), (62, 12), (62, 13)]) rv rv_16 → UW D cA sz al iv_15 rv_16 H → va_S (Aq sz) s.heap H locs → W p l e (rm 2) s m args below meth c H locs 0 0 Q (F0 m 31 ls []) := by
          intro iv_15 rv_16 H locs ls hl hG hF1 hF2 hU hS
          obtain ⟨x_17, e_18⟩ : ∃ y : Int32, y = l1_1 + 1 := ⟨_, rfl⟩
          have te_18 : x_17.toInt = (l1_1 : Int32).toInt + (1 : Int32).toInt := by rw [e_18]; exact fb_addI (by omega) (by omega)
          refine lv_iinc (v := x_17) (lv' := [(1, .int x_17), (0, .ref (al.2 57 0))]) hx hb dX10_putRight_31 hl (k := 1) rfl (by rw [e_18]; rfl) (by decide) rfl (fun ls hl => ?_)
          refine lv_goto (tgt := 2) hx hb dX10_putRight_34 (by decide) ?_
          exact ih_2 x_17 _ _ _ _ _ (lv_sub hl [1, 0] rfl) hG hF1 hF2 hU hS (by omega) (by omega)
        refine b_if_eq (tgt := 31) hx hb dX10_putRight_19 (by decide) (fun c_19 => ?_) (fun c_19 => ?_)
        ·
          exact J_31 _ _ _ _ _ (lv_sub hl [0, 1] rfl) hG hF1 hF2 hU hS
        ·
          refine lv_aload_n hx hb dX10_putRight_22 rfl (lv_at hl 0 rfl) ?_
          refine g_57_0 C hU hG (h1_57 hG) fl_X10_13 dX10_putRight_23 ?_
          refine lv_iload_n hx hb dX10_putRight_26 rfl (lv_at hl 1 rfl) ?_
          refine a_58 C hU hG (h1_58 hG) (x := l1_1) (by omega) (by omega) dX10_putRight_27 (fun r_20 er_21 hb_22 => ?_)
          have ner_21 : r_20 = rv 58 0 (l1_1 : Int32).toNatClampNeg := by rw [er_21, hF2.arr 58 0 _ (by decide)]
          obtain ⟨j_23, ej_24⟩ : ∃ j, r_20 = some j := ⟨_, er_21.trans (tall hG (by omega) (by omega))⟩
          subst ej_24
          have hl : lv_has ls 2 [(0, .ref (al.2 57 0)), (1, .int l1_1)] := hl
          have hb_25 : j_23 < al.1 62 := hb_22 j_23 rfl
          refine q_fv (q_runV (t := 62) (i := j_23) (As := []) (rest := []) C hU (c_X5_putRight hG (j_23) hb_25 ) vm_X5_putRight ml_X10_43 k_62.1 (hc := rfl) rfl hb_25 hl.1 rfl rfl (Nat.le_of_ble_eq_true rfl) dX10_putRight_28 rfl rfl ⟨Nat.le_of_ble_eq_true rfl, Nat.le_of_ble_eq_true rfl⟩ ⟨Nat.le_refl _, Nat.le_refl _⟩) hS (fun iv_27 rv_28 H locs hG fa_29 fb_30 hp_26 hU hS => ?_)
          have hF1 := hF1.tr (m := ([], [(62, 10), (62, 11), (62, 12), (62, 13)])) fa_29 (by decide)
          have hF2 := hF2.tr (m := ([], [(62, 10), (62, 11), (62, 12), (62, 13)])) fb_30 (by decide)
          exact J_31 _ _ _ _ _ (lv_sub hl [0, 1] rfl) hG hF1 hF2 hU hS
  exact J_2 _ 0 _ _ _ _ _ (lv_sub hl [1, 0] rfl) hG hF1 hF2 hU hS (by omega) (Nat.lt_succ_self _)
set_option maxHeartbeats 4000000 in
set_option maxRecDepth 100000 in
theorem c_X10_countLogged {l : Launch} {D : va_G} {cA : FieldType → ClassId} {sz : Nat} {al : Al} {iv : Iv} {rv : Rv} (hG : GI al iv rv) : Met l yX10_countLogged (wd yX10_countLogged cX10_countLogged 3 (some .int)) (rm 0) (PcW D cA sz al iv rv [.ref (al.2 57 0)]) (QI D cA sz al (pI iv rv (fun r => True))) 0 0 (Aq sz) := by
  refine mk_i (by decide) (Nat.le_of_ble_eq_true rfl) rfl ?_
  intro p e s m args below meth c ls Q H locs C hU hS hl hret
  have hx := C.1.1
  have hb := C.1.2.1
  have hl : lv_has ls 3 [(0, .ref (al.2 57 0))] := hl
  have hG0 := hG
  have k0 : (0 : Int32).toInt = 0 := by decide
  have k1 : (1 : Int32).toInt = 1 := by decide
  refine lv_iconst (v := 0) hx hb dX10_countLogged_0 (by decide) ?_
  refine lv_istore_n (lv' := [(1, .int 0), (0, .ref (al.2 57 0))]) hx hb dX10_countLogged_1 rfl hl (by decide) rfl (fun ls hl => ?_)
  refine lv_iconst (v := 0) hx hb dX10_countLogged_2 (by decide) ?_
  refine lv_istore_n (lv' := [(2, .int 0), (1, .int 0), (0, .ref (al.2 57 0))]) hx hb dX10_countLogged_3 rfl hl (by decide) rfl (fun ls hl => ?_)
  have J_4 : ∀ (n_4 : Nat) (l1_1 : Int32) (l2_2 : Int32) (ls : Array Slot), lv_has ls 3 [(0, .ref (al.2 57 0)), (1, .int l1_1), (2, .int l2_2)] → (0 ≤ l2_2.toInt ∧ l2_2.toInt ≤ 40) → (40 - l2_2.toInt).toNat < n_4 → W p l e (rm 0) s m args below meth c H locs 0 0 Q (F0 m 4 ls []) := by
    intro n_4
    induction n_4 with
    | zero =>
      intro l1_1 l2_2 ls hl i4_0 hm_4
      exact absurd hm_4 (Nat.not_lt_zero _)
    | succ n_4 ih_4 =>
      intro l1_1 l2_2 ls hl i4_0 hm_4
      refine lv_iload_n hx hb dX10_countLogged_4 rfl (lv_at hl 2 rfl) ?_
      refine lv_aload_n hx hb dX10_countLogged_5 rfl (lv_at hl 0 rfl) ?_
      refine g_57_1 C hU hG (h1_57 hG) fl_X10_28 dX10_countLogged_6 (fun x_3 e_4 le_4 ue_4 => ?_)
      have te_4 := congrArg Int32.toInt e_4
      refine b_icmp_ge (tgt := 33) hx hb dX10_countLogged_9 (by decide) (fun c_5 => ?_) (fun c_5 => ?_)
      ·
        refine lv_iload_n hx hb dX10_countLogged_33 rfl (lv_at hl 1 rfl) ?_
        exact hret (⟨rfl, rfl, trivial⟩) hU hS dX10_countLogged_34
      ·
        refine lv_aload_n hx hb dX10_countLogged_12 rfl (lv_at hl 0 rfl) ?_
        refine g_57_0 C hU hG (h1_57 hG) fl_X10_13 dX10_countLogged_13 ?_
        refine lv_iload_n hx hb dX10_countLogged_16 rfl (lv_at hl 2 rfl) ?_
        refine a_58 C hU hG (h1_58 hG) (x := l2_2) (by omega) (by omega) dX10_countLogged_17 (fun r_6 er_7 hb_8 => ?_)
        obtain ⟨j_9, ej_10⟩ : ∃ j, r_6 = some j := ⟨_, er_7.trans (tall hG (by omega) (by omega))⟩
        subst ej_10
        have hl : lv_has ls 3 [(0, .ref (al.2 57 0)), (1, .int l1_1), (2, .int l2_2)] := hl
        have hb_11 : j_9 < al.1 62 := hb_8 j_9 rfl
        refine g_62_7 C hU hG hb_11 fl_X10_39 dX10_countLogged_18 (fun x_12 e_13 le_13 ue_13 => ?_)
        have te_13 := congrArg Int32.toInt e_13
        have J_27 : ∀ (l1_14 : Int32) (ls : Array Slot), lv_has ls 3 [(0, .ref (al.2 57 0)), (2, .int l2_2), (1, .int l1_14)] → W p l e (rm 0) s m args below meth c H locs 0 0 Q (F0 m 27 ls []) := by
          intro l1_14 ls hl
          obtain ⟨x_15, e_16⟩ : ∃ y : Int32, y = l2_2 + 1 := ⟨_, rfl⟩
          have te_16 : x_15.toInt = (l2_2 : Int32).toInt + (1 : Int32).toInt := by rw [e_16]; exact fb_addI (by omega) (by omega)
          refine lv_iinc (v := x_15) (lv' := [(2, .int x_15), (0, .ref (al.2 57 0)), (1, .int l1_14)]) hx hb dX10_countLogged_27 hl (k := 1) rfl (by rw [e_16]; rfl) (by decide) rfl (fun ls hl => ?_)
          refine lv_goto (tgt := 4) hx hb dX10_countLogged_30 (by decide) ?_
          exact ih_4 l1_14 x_15 _ (lv_sub hl [1, 2, 0] rfl) (by omega) (by omega)
        refine b_if_eq (tgt := 27) hx hb dX10_countLogged_21 (by decide) (fun c_17 => ?_) (fun c_17 => ?_)
        ·
          exact J_27 l1_1 _ (lv_sub hl [0, 2, 1] rfl)
        ·
          obtain ⟨x_18, e_19⟩ : ∃ y : Int32, y = l1_1 + 1 := ⟨_, rfl⟩
          refine lv_iinc (v := x_18) (lv' := [(1, .int x_18), (0, .ref (al.2 57 0)), (2, .int l2_2)]) hx hb dX10_countLogged_24 hl (k := 1) rfl (by rw [e_19]; rfl) (by decide) rfl (fun ls hl => ?_)
          exact J_27 x_18 _ (lv_sub hl [1, 2, 0] rfl)
  exact J_4 _ 0 0 _ (lv_sub hl [2, 1, 0] rfl) (by omega) (Nat.lt_succ_self _)
set_option maxHeartbeats 4000000 in
set_option maxRecDepth 100000 in
theorem c_X10_aheadOf {l : Launch} {D : va_G} {cA : FieldType → ClassId} {sz : Nat} {al : Al} {iv : Iv} {rv : Rv} (hG : GI al iv rv) (li : Nat) (hli : li < al.1 62) (crew : Int32) (gap : Int32) : Met l yX10_aheadOf (wd yX10_aheadOf cX10_aheadOf 8 (some (.object "LateClaims$Leg"))) (rm 0) (PcW D cA sz al iv rv [.ref (al.2 57 0), .ref (al.2 62 li), .int crew, .int gap]) (QR D cA sz al 62 (pR iv rv (fun r => (∀ j, r = some j → j < al.1 62) ∧ (True)))) 0 0 (Aq sz) := by
  refine mk_r (by decide) (Nat.le_of_ble_eq_true rfl) rfl ?_
  intro p e s m args below meth c ls Q H locs C hU hS hl hret
  have hx := C.1.1
  have hb := C.1.2.1
  have hl : lv_has ls 8 [(0, .ref (al.2 57 0)), (1, .ref (al.2 62 li)), (2, .int crew), (3, .int gap)] := hl
  have hG0 := hG
  have k0 : (0 : Int32).toInt = 0 := by decide
  have k1 : (1 : Int32).toInt = 1 := by decide
  refine lv_null hx hb dX10_aheadOf_0 ?_
  refine lv_astoreN (lv' := [(4, .null), (0, .ref (al.2 57 0)), (1, .ref (al.2 62 li)), (2, .int crew), (3, .int gap)]) hx hb dX10_aheadOf_1 hl (by decide) rfl (fun ls hl => ?_)
  refine lv_iconst (v := 0) hx hb dX10_aheadOf_3 (by decide) ?_
  refine lv_istore (lv' := [(5, .int 0), (4, .null), (0, .ref (al.2 57 0)), (1, .ref (al.2 62 li)), (2, .int crew), (3, .int gap)]) hx hb dX10_aheadOf_4 hl (by decide) rfl (fun ls hl => ?_)
  have J_6 : ∀ (n_6 : Nat) (r_1 : Option Nat) (l5_3 : Int32) (ls : Array Slot), lv_has ls 8 [(0, .ref (al.2 57 0)), (1, .ref (al.2 62 li)), (2, .int crew), (3, .int gap), (4, rfv al 62 r_1), (5, .int l5_3)] → (∀ j, r_1 = some j → j < al.1 62) → (0 ≤ l5_3.toInt ∧ l5_3.toInt ≤ 40) → (40 - l5_3.toInt).toNat < n_6 → W p l e (rm 0) s m args below meth c H locs 0 0 Q (F0 m 6 ls []) := by
    intro n_6
    induction n_6 with
    | zero =>
      intro r_1 l5_3 ls hl hb_2 i6_0 hm_6
      exact absurd hm_6 (Nat.not_lt_zero _)
    | succ n_6 ih_6 =>
      intro r_1 l5_3 ls hl hb_2 i6_0 hm_6
      refine lv_iload hx hb dX10_aheadOf_6 (lv_at hl 5 rfl) ?_
      refine lv_aload_n hx hb dX10_aheadOf_8 rfl (lv_at hl 0 rfl) ?_
      refine g_57_1 C hU hG (h1_57 hG) fl_X10_28 dX10_aheadOf_9 (fun x_4 e_5 le_5 ue_5 => ?_)
      have te_5 := congrArg Int32.toInt e_5
      refine b_icmp_ge (tgt := 129) hx hb dX10_aheadOf_12 (by decide) (fun c_6 => ?_) (fun c_6 => ?_)
      ·
        refine b_aload (al := al) (t' := 62) (r := r_1) hx hb dX10_aheadOf_129 (lv_at hl 4 rfl) ?_
        exact hret (r_1) (⟨rfl, rfl, ⟨hb_2, trivial⟩⟩) hU hS dX10_aheadOf_131
      ·
        refine lv_aload_n hx hb dX10_aheadOf_15 rfl (lv_at hl 0 rfl) ?_
        refine g_57_0 C hU hG (h1_57 hG) fl_X10_13 dX10_aheadOf_16 ?_
        refine lv_iload hx hb dX10_aheadOf_19 (lv_at hl 5 rfl) ?_
        refine a_58 C hU hG (h1_58 hG) (x := l5_3) (by omega) (by omega) dX10_aheadOf_21 (fun r_7 er_8 hb_9 => ?_)
        obtain ⟨j_10, ej_11⟩ : ∃ j, r_7 = some j := ⟨_, er_8.trans (tall hG (by omega) (by omega))⟩
        subst ej_11
        have hl : lv_has ls 8 [(0, .ref (al.2 57 0)), (1, .ref (al.2 62 li)), (2, .int crew), (3, .int gap), (4, rfv al 62 r_1), (5, .int l5_3)] := hl
        have hb_12 : j_10 < al.1 62 := hb_9 j_10 rfl
        refine lv_astore (lv' := [(6, .ref (al.2 62 j_10)), (0, .ref (al.2 57 0)), (1, .ref (al.2 62 li)), (2, .int crew), (3, .int gap), (4, rfv al 62 r_1), (5, .int l5_3)]) hx hb dX10_aheadOf_22 hl (by decide) rfl (fun ls hl => ?_)
        refine lv_iload_n hx hb dX10_aheadOf_24 rfl (lv_at hl 3 rfl) ?_
        have J_65 : ∀ (v_13 : Int32) (ls : Array Slot), lv_has ls 8 [(0, .ref (al.2 57 0)), (1, .ref (al.2 62 li)), (2, .int crew), (3, .int gap), (4, rfv al 62 r_1), (5, .int l5_3), (6, .ref (al.2 62 j_10))] → (0 ≤ v_13.toInt ∧ v_13.toInt ≤ 1) → W p l e (rm 0) s m args below meth c H locs 0 0 Q (F0 m 65 ls [.int v_13]) := by
          intro v_13 ls hl i65_0
          refine lv_istore (lv' := [(7, .int v_13), (0, .ref (al.2 57 0)), (1, .ref (al.2 62 li)), (2, .int crew), (3, .int gap), (4, rfv al 62 r_1), (5, .int l5_3), (6, .ref (al.2 62 j_10))]) hx hb dX10_aheadOf_65 hl (by decide) rfl (fun ls hl => ?_)
          refine lv_iload hx hb dX10_aheadOf_67 (lv_at hl 0 rfl) ?_
          have J_123 : ∀ (r_14 : Option Nat) (ls : Array Slot), lv_has ls 8 [(0, .ref (al.2 57 0)), (1, .ref (al.2 62 li)), (2, .int crew), (3, .int gap), (5, .int l5_3), (4, rfv al 62 r_14)] → (∀ j, r_14 = some j → j < al.1 62) → W p l e (rm 0) s m args below meth c H locs 0 0 Q (F0 m 123 ls []) := by
            intro r_14 ls hl hb_15
            obtain ⟨x_16, e_17⟩ : ∃ y : Int32, y = l5_3 + 1 := ⟨_, rfl⟩
            have te_17 : x_16.toInt = (l5_3 : Int32).toInt + (1 : Int32).toInt := by rw [e_17]; exact fb_addI (by omega) (by omega)
            refine lv_iinc (v := x_16) (lv' := [(5, .int x_16), (0, .ref (al.2 57 0)), (1, .ref (al.2 62 li)), (2, .int crew), (3, .int gap), (4, rfv al 62 r_14)]) hx hb dX10_aheadOf_123 hl (k := 4) rfl (by rw [e_17]; rfl) (by decide) (by simp [List.filter_cons, rfv_cat]) (fun ls hl => ?_)
            refine lv_goto (tgt := 6) hx hb dX10_aheadOf_126 (by decide) ?_
            exact ih_6 r_14 x_16 _ (lv_sub hl [1, 2, 3, 4, 5, 0] rfl) hb_15 (by omega) (by omega)
          refine b_if_eq (tgt := 123) hx hb dX10_aheadOf_69 (by decide) (fun c_18 => ?_) (fun c_18 => ?_)
          ·
            exact J_123 r_1 _ (lv_sub hl [1, 2, 3, 4, 6, 5] rfl) hb_2
          ·
            refine lv_aload hx hb dX10_aheadOf_72 (lv_at hl 7 rfl) ?_
            refine g_62_2 C hU hG hb_12 fl_X10_52 dX10_aheadOf_74 (fun j_19 ej_20 hb_21 => ?_)
            refine lv_aload_n hx hb dX10_aheadOf_77 rfl (lv_at hl 2 rfl) ?_
            refine g_62_1 C hU hG hli fl_X10_56 dX10_aheadOf_78 (fun j_22 ej_23 hb_24 => ?_)
            refine b_acmp_ne (tgt := 123) hx hb hU hb_21 hb_24 dX10_aheadOf_81 (by decide) (fun c_25 => ?_) (fun c_25 => ?_)
            ·
              exact J_123 r_1 _ (lv_sub hl [1, 2, 3, 4, 6, 5] rfl) hb_2
            ·
              refine lv_aload_n hx hb dX10_aheadOf_84 rfl (lv_at hl 2 rfl) ?_
              refine g_62_5 C hU hG hli fl_X10_59 dX10_aheadOf_85 (fun x_26 e_27 le_27 ue_27 => ?_)
              have te_27 := congrArg Int32.toInt e_27
              refine lv_aload hx hb dX10_aheadOf_88 (lv_at hl 7 rfl) ?_
              refine g_62_6 C hU hG hb_12 fl_X10_62 dX10_aheadOf_90 (fun x_28 e_29 le_29 ue_29 => ?_)
              have te_29 := congrArg Int32.toInt e_29
              refine lv_isub hx hb dX10_aheadOf_93 ?_
              refine lv_topi (fun x_30 e_31 => ?_)
              have te_31 : x_30.toInt = (x_26 : Int32).toInt - (x_28 : Int32).toInt := by rw [e_31]; exact fb_subI (by omega) (by omega)
              refine lv_iload_n hx hb dX10_aheadOf_94 rfl (lv_at hl 4 rfl) ?_
              refine b_icmp_ge (tgt := 101) hx hb dX10_aheadOf_95 (by decide) (fun c_32 => ?_) (fun c_32 => ?_)
              ·
                refine b_aload (al := al) (t' := 62) (r := r_1) hx hb dX10_aheadOf_101 (lv_at hl 5 rfl) ?_
                have J_119 : ∀ (ls : Array Slot), lv_has ls 8 [(0, .ref (al.2 57 0)), (1, .ref (al.2 62 li)), (2, .int crew), (3, .int gap), (5, .int l5_3), (6, .ref (al.2 62 j_10))] → W p l e (rm 0) s m args below meth c H locs 0 0 Q (F0 m 119 ls []) := by
                  intro ls hl
                  refine lv_aload hx hb dX10_aheadOf_119 (lv_at hl 5 rfl) ?_
                  refine lv_astore (lv' := [(4, .ref (al.2 62 j_10)), (0, .ref (al.2 57 0)), (1, .ref (al.2 62 li)), (2, .int crew), (3, .int gap), (5, .int l5_3), (6, .ref (al.2 62 j_10))]) hx hb dX10_aheadOf_121 hl (by decide) rfl (fun ls hl => ?_)
                  exact J_123 (some j_10) _ (lv_sub hl [1, 2, 3, 4, 5, 0] rfl) (fun _ h => by cases h; exact hb_12)
                refine b_ifnull (tgt := 119) hx hb dX10_aheadOf_103 (by decide) (fun ej_35 => ?_) (fun j_34 ej_35 => ?_)
                ·
                  subst ej_35
                  have hl : lv_has ls 8 [(7, .int v_13), (0, .ref (al.2 57 0)), (1, .ref (al.2 62 li)), (2, .int crew), (3, .int gap), (4, rfv al 62 none), (5, .int l5_3), (6, .ref (al.2 62 j_10))] := hl
                  exact J_119 _ (lv_sub hl [1, 2, 3, 4, 6, 7] rfl)
                ·
                  subst ej_35
                  have hl : lv_has ls 8 [(7, .int v_13), (0, .ref (al.2 57 0)), (1, .ref (al.2 62 li)), (2, .int crew), (3, .int gap), (4, .ref (al.2 62 j_34)), (5, .int l5_3), (6, .ref (al.2 62 j_10))] := hl
                  have hb_36 : j_34 < al.1 62 := hb_2 j_34 rfl
                  refine lv_aload hx hb dX10_aheadOf_106 (lv_at hl 7 rfl) ?_
                  refine g_62_6 C hU hG hb_12 fl_X10_62 dX10_aheadOf_108 (fun x_37 e_38 le_38 ue_38 => ?_)
                  have te_38 := congrArg Int32.toInt e_38
                  refine lv_aload hx hb dX10_aheadOf_111 (lv_at hl 5 rfl) ?_
                  refine g_62_6 C hU hG hb_36 fl_X10_62 dX10_aheadOf_113 (fun x_39 e_40 le_40 ue_40 => ?_)
                  have te_40 := congrArg Int32.toInt e_40
                  refine b_icmp_lt (tgt := 123) hx hb dX10_aheadOf_116 (by decide) (fun c_41 => ?_) (fun c_41 => ?_)
                  ·
                    exact J_123 (some j_34) _ (lv_sub hl [1, 2, 3, 4, 6, 5] rfl) (fun _ h => by cases h; exact hb_36)
                  ·
                    exact J_119 _ (lv_sub hl [1, 2, 3, 4, 6, 7] rfl)
              ·
                refine lv_goto (tgt := 123) hx hb dX10_aheadOf_98 (by decide) ?_
                exact J_123 r_1 _ (lv_sub hl [1, 2, 3, 4, 6, 5] rfl) hb_2
        refine b_if_eq (tgt := 48) hx hb dX10_aheadOf_25 (by decide) (fun c_42 => ?_) (fun c_42 => ?_)
        ·
          refine lv_aload hx hb dX10_aheadOf_48 (lv_at hl 0 rfl) ?_
          refine g_62_3 C hU hG hb_12 fl_X10_49 dX10_aheadOf_50 (fun x_43 e_44 le_44 ue_44 => ?_)
          have te_44 := congrArg Int32.toInt e_44
          refine lv_aload_n hx hb dX10_aheadOf_53 rfl (lv_at hl 2 rfl) ?_
          refine g_62_3 C hU hG hli fl_X10_49 dX10_aheadOf_54 (fun x_45 e_46 le_46 ue_46 => ?_)
          have te_46 := congrArg Int32.toInt e_46
          refine b_icmp_ne (tgt := 64) hx hb dX10_aheadOf_57 (by decide) (fun c_47 => ?_) (fun c_47 => ?_)
          ·
            refine lv_iconst (v := 0) hx hb dX10_aheadOf_64 (by decide) ?_
            exact J_65 0 _ (lv_sub hl [1, 2, 3, 4, 5, 6, 0] rfl) (by omega)
          ·
            refine lv_iconst (v := 1) hx hb dX10_aheadOf_60 (by decide) ?_
            refine lv_goto (tgt := 65) hx hb dX10_aheadOf_61 (by decide) ?_
            exact J_65 1 _ (lv_sub hl [1, 2, 3, 4, 5, 6, 0] rfl) (by omega)
        ·
          refine lv_aload hx hb dX10_aheadOf_28 (lv_at hl 0 rfl) ?_
          refine g_62_4 C hU hG hb_12 fl_X10_46 dX10_aheadOf_30 (fun x_48 e_49 le_49 ue_49 => ?_)
          have te_49 := congrArg Int32.toInt e_49
          refine lv_aload_n hx hb dX10_aheadOf_33 rfl (lv_at hl 2 rfl) ?_
          refine g_62_4 C hU hG hli fl_X10_46 dX10_aheadOf_34 (fun x_50 e_51 le_51 ue_51 => ?_)
          have te_51 := congrArg Int32.toInt e_51
          refine b_icmp_ne (tgt := 44) hx hb dX10_aheadOf_37 (by decide) (fun c_52 => ?_) (fun c_52 => ?_)
          ·
            refine lv_iconst (v := 0) hx hb dX10_aheadOf_44 (by decide) ?_
            refine lv_goto (tgt := 65) hx hb dX10_aheadOf_45 (by decide) ?_
            exact J_65 0 _ (lv_sub hl [1, 2, 3, 4, 5, 6, 0] rfl) (by omega)
          ·
            refine lv_iconst (v := 1) hx hb dX10_aheadOf_40 (by decide) ?_
            refine lv_goto (tgt := 65) hx hb dX10_aheadOf_41 (by decide) ?_
            exact J_65 1 _ (lv_sub hl [1, 2, 3, 4, 5, 6, 0] rfl) (by omega)
  exact J_6 _ none 0 _ (lv_sub hl [2, 3, 4, 5, 1, 0] rfl) (fun _ h => by cases h) (by omega) (Nat.lt_succ_self _)
set_option maxHeartbeats 4000000 in
set_option maxRecDepth 100000 in
theorem c_X10_trace {l : Launch} {D : va_G} {cA : FieldType → ClassId} {sz : Nat} {al : Al} {iv : Iv} {rv : Rv} (hG : GI al iv rv) (li : Nat) (hli : li < al.1 62) (turn : Int32) (rest_ : Int32) : Met l yX10_trace (wd yX10_trace cX10_trace 13 none) (rm 2) (PcW D cA sz al iv rv [.ref (al.2 57 0), .ref (al.2 62 li), .int turn, .int rest_]) (QV D cA sz al (fV al ([59], []) iv rv (fun iv' rv' => True))) 0 0 (Aq sz) := by
  refine mk_v (by decide) (Nat.le_of_ble_eq_true rfl) rfl ?_
  intro p e s m args below meth c ls Q H locs C hU hS hl hret
  have hx := C.1.1
  have hb := C.1.2.1
  have hl : lv_has ls 13 [(0, .ref (al.2 57 0)), (1, .ref (al.2 62 li)), (2, .int turn), (3, .int rest_)] := hl
  have hG0 := hG
  have hF1 : FR ([59], []) iv iv := FR.rf
  have hF2 : FR ([59], []) rv rv := FR.rf
  have k0 : (0 : Int32).toInt = 0 := by decide
  have k1 : (1 : Int32).toInt = 1 := by decide
  have k40 : (40 : Int32).toInt = 40 := by decide
  refine lv_aload_n hx hb dX10_trace_0 rfl (lv_at hl 0 rfl) ?_
  refine g_57_2 C hU hG (h1_57 hG) fl_X10_17 dX10_trace_1 ?_
  refine lv_iconst (v := 0) hx hb dX10_trace_4 (by decide) ?_
  refine q_fv (q_runS (As := [.ref (al.2 59 0), .int 0]) (rest := []) C hU (c_J7_fill_53178_59 hG 0 ) sm_J7_fill_53178 ml_X10_65 hl.1 rfl rfl (Nat.le_of_ble_eq_true rfl) dX10_trace_5 rfl rfl ⟨Nat.le_of_ble_eq_true rfl, Nat.le_of_ble_eq_true rfl⟩ ⟨Nat.le_refl _, Nat.le_refl _⟩) hS (fun iv_2 rv_3 H locs hG fa_4 fb_5 hp_1 hU hS => ?_)
  have hF1 := hF1.tr (m := ([59], [])) fa_4 (by decide)
  have hF2 := hF2.tr (m := ([59], [])) fb_5 (by decide)
  refine lv_aload_n hx hb dX10_trace_8 rfl (lv_at hl 1 rfl) ?_
  refine lv_astore (lv' := [(4, .ref (al.2 62 li)), (0, .ref (al.2 57 0)), (1, .ref (al.2 62 li)), (2, .int turn), (3, .int rest_)]) hx hb dX10_trace_9 hl (by decide) rfl (fun ls hl => ?_)
  refine lv_aload_n hx hb dX10_trace_11 rfl (lv_at hl 2 rfl) ?_
  refine g_62_13 C hU hG hli fl_X10_71 dX10_trace_12 (fun x_6 e_7 => ?_)
  have te_7 := congrArg Int32.toInt e_7
  have ne_7 : x_6.toInt = (iv 62 li 13).toInt := by rw [e_7, hF1 62 li 13 (by decide)]
  refine lv_istore (lv' := [(5, .int x_6), (4, .ref (al.2 62 li)), (0, .ref (al.2 57 0)), (1, .ref (al.2 62 li)), (2, .int turn), (3, .int rest_)]) hx hb dX10_trace_15 hl (by decide) rfl (fun ls hl => ?_)
  refine lv_iconst (v := 0) hx hb dX10_trace_17 (by decide) ?_
  refine lv_istore (lv' := [(6, .int 0), (5, .int x_6), (4, .ref (al.2 62 li)), (0, .ref (al.2 57 0)), (1, .ref (al.2 62 li)), (2, .int turn), (3, .int rest_)]) hx hb dX10_trace_18 hl (by decide) rfl (fun ls hl => ?_)
  have J_20 : ∀ (n_20 : Nat) (r_8 : Option Nat) (l5_10 : Int32) (l6_11 : Int32) (iv_12 : Iv) (rv_13 : Rv) (H : Heap) (locs : List Loc) (ls : Array Slot), lv_has ls 13 [(0, .ref (al.2 57 0)), (2, .int turn), (3, .int rest_), (4, rfv al 62 r_8), (5, .int l5_10), (6, .int l6_11)] → (∀ j, r_8 = some j → j < al.1 62) → GI al iv_12 rv_13 → FR ([59], []) iv iv_12 → FR ([59], []) rv rv_13 → UW D cA sz al iv_12 rv_13 H → va_S (Aq sz) s.heap H locs → (0 ≤ l6_11.toInt ∧ l6_11.toInt ≤ 40) → (40 - l6_11.toInt).toNat < n_20 → W p l e (rm 2) s m args below meth c H locs 0 0 Q (F0 m 20 ls []) := by
    intro n_20
    induction n_20 with
    | zero =>
      intro r_8 l5_10 l6_11 iv_12 rv_13 H locs ls hl hb_9 hG hF1 hF2 hU hS i20_0 hm_20
      exact absurd hm_20 (Nat.not_lt_zero _)
    | succ n_20 ih_20 =>
      intro r_8 l5_10 l6_11 iv_12 rv_13 H locs ls hl hb_9 hG hF1 hF2 hU hS i20_0 hm_20
      refine lv_iload hx hb dX10_trace_20 (lv_at hl 5 rfl) ?_
      refine lv_bipush (v := 40) hx hb dX10_trace_22 (by decide) ?_
      refine b_icmp_ge (tgt := 147) hx hb dX10_trace_24 (by decide) (fun c_14 => ?_) (fun c_14 => ?_)
      ·
        exact hret (⟨hG, hF1, hF2, trivial⟩) hU hS dX10_trace_147
      ·
        refine b_aload (al := al) (t' := 62) (r := r_8) hx hb dX10_trace_27 (lv_at hl 3 rfl) ?_
        refine b_ifnull (tgt := 147) hx hb dX10_trace_29 (by decide) (fun ej_17 => ?_) (fun j_16 ej_17 => ?_)
        ·
          subst ej_17
          have hl : lv_has ls 13 [(0, .ref (al.2 57 0)), (2, .int turn), (3, .int rest_), (4, rfv al 62 none), (5, .int l5_10), (6, .int l6_11)] := hl
          exact hret (⟨hG, hF1, hF2, trivial⟩) hU hS dX10_trace_147
        ·
          subst ej_17
          have hl : lv_has ls 13 [(0, .ref (al.2 57 0)), (2, .int turn), (3, .int rest_), (4, .ref (al.2 62 j_16)), (5, .int l5_10), (6, .int l6_11)] := hl
          have hb_18 : j_16 < al.1 62 := hb_9 j_16 rfl
          refine lv_iload hx hb dX10_trace_32 (lv_at hl 4 rfl) ?_
          refine b_if_le (tgt := 147) hx hb dX10_trace_34 (by decide) (fun c_19 => ?_) (fun c_19 => ?_)
          ·
            exact hret (⟨hG, hF1, hF2, trivial⟩) hU hS dX10_trace_147
          ·
            refine lv_aload_n hx hb dX10_trace_37 rfl (lv_at hl 0 rfl) ?_
            refine lv_aload hx hb dX10_trace_38 (lv_at hl 3 rfl) ?_
            refine lv_iconst (v := 0) hx hb dX10_trace_40 (by decide) ?_
            refine lv_iload_n hx hb dX10_trace_41 rfl (lv_at hl 1 rfl) ?_
            refine q_pr (q_runV (t := 57) (i := 0) (As := [.ref (al.2 62 j_16), .int 0, .int turn]) (rest := []) C hU (c_X10_aheadOf hG (j_16) hb_18 0 turn ) vm_X10_aheadOf ml_X10_74 k_57.1 (hc := rfl) rfl (h1_57 hG) hl.1 rfl rfl (Nat.le_of_ble_eq_true rfl) dX10_trace_42 rfl rfl ⟨Nat.le_of_ble_eq_true rfl, Nat.le_of_ble_eq_true rfl⟩ ⟨Nat.le_refl _, Nat.le_refl _⟩) hS (fun r_21 H locs hp_20 hU hS => ?_)
            have hb_22 := hp_20.1
            refine b_astore (lv' := [(7, rfv al 62 r_21), (0, .ref (al.2 57 0)), (2, .int turn), (3, .int rest_), (4, .ref (al.2 62 j_16)), (5, .int l5_10), (6, .int l6_11)]) hx hb dX10_trace_45 hl (by decide) rfl (fun ls hl => ?_)
            refine lv_aload_n hx hb dX10_trace_47 rfl (lv_at hl 1 rfl) ?_
            refine lv_aload hx hb dX10_trace_48 (lv_at hl 4 rfl) ?_
            refine lv_iconst (v := 1) hx hb dX10_trace_50 (by decide) ?_
            refine lv_iload_n hx hb dX10_trace_51 rfl (lv_at hl 3 rfl) ?_
            refine q_pr (q_runV (t := 57) (i := 0) (As := [.ref (al.2 62 j_16), .int 1, .int rest_]) (rest := []) C hU (c_X10_aheadOf hG (j_16) hb_18 1 rest_ ) vm_X10_aheadOf ml_X10_74 k_57.1 (hc := rfl) rfl (h1_57 hG) hl.1 rfl rfl (Nat.le_of_ble_eq_true rfl) dX10_trace_52 rfl rfl ⟨Nat.le_of_ble_eq_true rfl, Nat.le_of_ble_eq_true rfl⟩ ⟨Nat.le_refl _, Nat.le_refl _⟩) hS (fun r_24 H locs hp_23 hU hS => ?_)
            have hb_25 := hp_23.1
            refine b_astore (lv' := [(8, rfv al 62 r_24), (7, rfv al 62 r_21), (0, .ref (al.2 57 0)), (2, .int turn), (3, .int rest_), (4, .ref (al.2 62 j_16)), (5, .int l5_10), (6, .int l6_11)]) hx hb dX10_trace_55 hl (by decide) (by simp [List.filter_cons, rfv_cat]) (fun ls hl => ?_)
            refine lv_aload hx hb dX10_trace_57 (lv_at hl 5 rfl) ?_
            refine b_aload (al := al) (t' := 62) (r := r_21) hx hb dX10_trace_59 (lv_at hl 1 rfl) ?_
            refine lv_iload_n hx hb dX10_trace_61 rfl (lv_at hl 3 rfl) ?_
            refine q_pi (q_runV (t := 62) (i := j_16) (As := [rfv al 62 r_21, .int turn]) (rest := []) C hU (c_X5_waitFor hG (j_16) hb_18 r_21 hb_22 turn ) vm_X5_waitFor ml_X10_78 k_62.1 (hc := rfl) rfl hb_18 hl.1 rfl rfl (Nat.le_of_ble_eq_true rfl) dX10_trace_62 rfl rfl ⟨Nat.le_of_ble_eq_true rfl, Nat.le_of_ble_eq_true rfl⟩ ⟨Nat.le_refl _, Nat.le_refl _⟩) hS (fun x_27 H locs hp_26 hU hS => ?_)
            refine lv_istore (lv' := [(9, .int x_27), (8, rfv al 62 r_24), (7, rfv al 62 r_21), (0, .ref (al.2 57 0)), (2, .int turn), (3, .int rest_), (4, .ref (al.2 62 j_16)), (5, .int l5_10), (6, .int l6_11)]) hx hb dX10_trace_65 hl (by decide) (by simp [List.filter_cons, rfv_cat]) (fun ls hl => ?_)
            refine lv_aload hx hb dX10_trace_67 (lv_at hl 6 rfl) ?_
            refine b_aload (al := al) (t' := 62) (r := r_24) hx hb dX10_trace_69 (lv_at hl 1 rfl) ?_
            refine lv_iload_n hx hb dX10_trace_71 rfl (lv_at hl 5 rfl) ?_
            refine q_pi (q_runV (t := 62) (i := j_16) (As := [rfv al 62 r_24, .int rest_]) (rest := []) C hU (c_X5_waitFor hG (j_16) hb_18 r_24 hb_25 rest_ ) vm_X5_waitFor ml_X10_78 k_62.1 (hc := rfl) rfl hb_18 hl.1 rfl rfl (Nat.le_of_ble_eq_true rfl) dX10_trace_72 rfl rfl ⟨Nat.le_of_ble_eq_true rfl, Nat.le_of_ble_eq_true rfl⟩ ⟨Nat.le_refl _, Nat.le_refl _⟩) hS (fun x_29 H locs hp_28 hU hS => ?_)
            refine lv_istore (lv' := [(10, .int x_29), (9, .int x_27), (8, rfv al 62 r_24), (7, rfv al 62 r_21), (0, .ref (al.2 57 0)), (2, .int turn), (3, .int rest_), (4, .ref (al.2 62 j_16)), (5, .int l5_10), (6, .int l6_11)]) hx hb dX10_trace_75 hl (by decide) rfl (fun ls hl => ?_)
            refine lv_aload hx hb dX10_trace_77 (lv_at hl 7 rfl) ?_
            refine g_62_13 C hU hG hb_18 fl_X10_71 dX10_trace_79 (fun x_30 e_31 => ?_)
            have te_31 := congrArg Int32.toInt e_31
            have ne_31 : x_30.toInt = (iv 62 j_16 13).toInt := by rw [e_31, hF1 62 j_16 13 (by decide)]
            refine lv_iload hx hb dX10_trace_82 (lv_at hl 1 rfl) ?_
            refine lv_iload hx hb dX10_trace_84 (lv_at hl 0 rfl) ?_
            refine q_max C hl.1 ml_X10_82 (Nat.le_of_ble_eq_true rfl) (Nat.le_of_ble_eq_true rfl) (Nat.le_refl _) (Nat.le_refl _) dX10_trace_86 (fun x_32 q_33 tq_33 => ?_)
            refine q_min C hl.1 ml_X10_88 (Nat.le_of_ble_eq_true rfl) (Nat.le_of_ble_eq_true rfl) (Nat.le_refl _) (Nat.le_refl _) dX10_trace_89 (fun x_34 q_35 tq_35 => ?_)
            refine lv_istore (lv' := [(11, .int x_34), (10, .int x_29), (9, .int x_27), (8, rfv al 62 r_24), (7, rfv al 62 r_21), (0, .ref (al.2 57 0)), (2, .int turn), (3, .int rest_), (4, .ref (al.2 62 j_16)), (5, .int l5_10), (6, .int l6_11)]) hx hb dX10_trace_92 hl (by decide) rfl (fun ls hl => ?_)
            refine lv_iload hx hb dX10_trace_94 (lv_at hl 9 rfl) ?_
            refine lv_iload hx hb dX10_trace_96 (lv_at hl 0 rfl) ?_
            refine q_min C hl.1 ml_X10_88 (Nat.le_of_ble_eq_true rfl) (Nat.le_of_ble_eq_true rfl) (Nat.le_refl _) (Nat.le_refl _) dX10_trace_98 (fun x_36 q_37 tq_37 => ?_)
            refine lv_istore (lv' := [(12, .int x_36), (11, .int x_34), (10, .int x_29), (9, .int x_27), (8, rfv al 62 r_24), (7, rfv al 62 r_21), (0, .ref (al.2 57 0)), (2, .int turn), (3, .int rest_), (4, .ref (al.2 62 j_16)), (5, .int l5_10), (6, .int l6_11)]) hx hb dX10_trace_101 hl (by decide) rfl (fun ls hl => ?_)
            refine lv_aload_n hx hb dX10_trace_103 rfl (lv_at hl 6 rfl) ?_
            refine g_57_2 C hU hG (h1_57 hG) fl_X10_17 dX10_trace_104 ?_
            refine lv_aload hx hb dX10_trace_107 (lv_at hl 9 rfl) ?_
            refine g_62_14 C hU hG hb_18 fl_X10_91 dX10_trace_109 (fun x_38 e_39 le_39 ue_39 => ?_)
            have te_39 := congrArg Int32.toInt e_39
            have ne_39 : x_38.toInt = (iv 62 j_16 14).toInt := by rw [e_39, hF1 62 j_16 14 (by decide)]
            refine lv_dup2_11 hx hb dX10_trace_112 rfl rfl ?_
            refine a_59 C hU hG (h1_59 hG) (x := x_38) (by omega) (by omega) dX10_trace_113 (fun x_40 e_41 => ?_)
            have te_41 := congrArg Int32.toInt e_41
            refine lv_iload hx hb dX10_trace_114 (lv_at hl 10 rfl) ?_
            refine lv_iload hx hb dX10_trace_116 (lv_at hl 0 rfl) ?_
            refine lv_isub hx hb dX10_trace_118 ?_
            refine lv_topi (fun x_42 e_43 => ?_)
            refine lv_iadd hx hb dX10_trace_119 ?_
            refine lv_topi (fun x_44 e_45 => ?_)
            refine s_59 C hU hS (h1_59 hG) (x := x_38) (by omega) (by omega) dX10_trace_120 (fun iv_46 H locs ei_47 hU hS => ?_)
            have hG : GI al iv_46 rv_13 := by rw [ei_47]; exact hG.puti (show _ ∧ _ from ⟨(fb_rng _).1, Int.le_of_lt_add_one (fb_rng _).2⟩) (nsA (by decide) _)
            have hF1 : FR ([59], []) iv iv_46 := by rw [ei_47]; exact hF1.put (Or.inl (by decide))
            refine lv_iload hx hb dX10_trace_121 (lv_at hl 0 rfl) ?_
            refine lv_istore (lv' := [(5, .int x_36), (12, .int x_36), (11, .int x_34), (10, .int x_29), (9, .int x_27), (8, rfv al 62 r_24), (7, rfv al 62 r_21), (0, .ref (al.2 57 0)), (2, .int turn), (3, .int rest_), (4, .ref (al.2 62 j_16)), (6, .int l6_11)]) hx hb dX10_trace_123 hl (by decide) rfl (fun ls hl => ?_)
            refine lv_iload hx hb dX10_trace_125 (lv_at hl 3 rfl) ?_
            refine lv_iload hx hb dX10_trace_127 (lv_at hl 4 rfl) ?_
            have J_139 : ∀ (r_48 : Option Nat) (ls : Array Slot), lv_has ls 13 [(0, .ref (al.2 57 0)), (2, .int turn), (3, .int rest_), (5, .int x_36), (6, .int l6_11)] → (∀ j, r_48 = some j → j < al.1 62) → W p l e (rm 2) s m args below meth c H locs 0 0 Q (F0 m 139 ls [rfv al 62 r_48]) := by
              intro r_48 ls hl hb_49
              refine b_astore (lv' := [(4, rfv al 62 r_48), (0, .ref (al.2 57 0)), (2, .int turn), (3, .int rest_), (5, .int x_36), (6, .int l6_11)]) hx hb dX10_trace_139 hl (by decide) rfl (fun ls hl => ?_)
              obtain ⟨x_50, e_51⟩ : ∃ y : Int32, y = l6_11 + 1 := ⟨_, rfl⟩
              have te_51 : x_50.toInt = (l6_11 : Int32).toInt + (1 : Int32).toInt := by rw [e_51]; exact fb_addI (by omega) (by omega)
              refine lv_iinc (v := x_50) (lv' := [(6, .int x_50), (4, rfv al 62 r_48), (0, .ref (al.2 57 0)), (2, .int turn), (3, .int rest_), (5, .int x_36)]) hx hb dX10_trace_141 hl (k := 5) rfl (by rw [e_51]; rfl) (by decide) rfl (fun ls hl => ?_)
              refine lv_goto (tgt := 20) hx hb dX10_trace_144 (by decide) ?_
              exact ih_20 r_48 x_36 x_50 _ _ _ _ _ (lv_sub hl [2, 3, 4, 1, 5, 0] rfl) hb_49 hG hF1 hF2 hU hS (by omega) (by omega)
            refine b_icmp_le (tgt := 137) hx hb dX10_trace_129 (by decide) (fun c_52 => ?_) (fun c_52 => ?_)
            ·
              refine b_aload (al := al) (t' := 62) (r := r_21) hx hb dX10_trace_137 (lv_at hl 6 rfl) ?_
              exact J_139 r_21 _ (lv_sub hl [7, 8, 9, 0, 11] rfl) hb_22
            ·
              refine b_aload (al := al) (t' := 62) (r := r_24) hx hb dX10_trace_132 (lv_at hl 5 rfl) ?_
              refine lv_goto (tgt := 139) hx hb dX10_trace_134 (by decide) ?_
              exact J_139 r_24 _ (lv_sub hl [7, 8, 9, 0, 11] rfl) hb_25
  exact J_20 _ (some li) x_6 0 _ _ _ _ _ (lv_sub hl [3, 5, 6, 2, 1, 0] rfl) (fun _ h => by cases h; exact hli) hG hF1 hF2 hU hS (by omega) (Nat.lt_succ_self _)
set_option maxHeartbeats 4000000 in
set_option maxRecDepth 100000 in
theorem c_X10_greatestCause {l : Launch} {D : va_G} {cA : FieldType → ClassId} {sz : Nat} {al : Al} {iv : Iv} {rv : Rv} (hG : GI al iv rv) : Met l yX10_greatestCause (wd yX10_greatestCause cX10_greatestCause 3 (some .int)) (rm 0) (PcW D cA sz al iv rv [.ref (al.2 57 0)]) (QI D cA sz al (pI iv rv (fun r => (0 ≤ r.toInt ∧ r.toInt ≤ 5) ∧ (True)))) 0 0 (Aq sz) := by
  refine mk_i (by decide) (Nat.le_of_ble_eq_true rfl) rfl ?_
  intro p e s m args below meth c ls Q H locs C hU hS hl hret
  have hx := C.1.1
  have hb := C.1.2.1
  have hl : lv_has ls 3 [(0, .ref (al.2 57 0))] := hl
  have hG0 := hG
  have k0 : (0 : Int32).toInt = 0 := by decide
  have k1 : (1 : Int32).toInt = 1 := by decide
  have k6 : (6 : Int32).toInt = 6 := by decide
  refine lv_iconst (v := 0) hx hb dX10_greatestCause_0 (by decide) ?_
  refine lv_istore_n (lv' := [(1, .int 0), (0, .ref (al.2 57 0))]) hx hb dX10_greatestCause_1 rfl hl (by decide) rfl (fun ls hl => ?_)
  refine lv_iconst (v := 1) hx hb dX10_greatestCause_2 (by decide) ?_
  refine lv_istore_n (lv' := [(2, .int 1), (1, .int 0), (0, .ref (al.2 57 0))]) hx hb dX10_greatestCause_3 rfl hl (by decide) rfl (fun ls hl => ?_)
  have J_4 : ∀ (n_4 : Nat) (l1_1 : Int32) (l2_2 : Int32) (ls : Array Slot), lv_has ls 3 [(0, .ref (al.2 57 0)), (1, .int l1_1), (2, .int l2_2)] → (0 ≤ l1_1.toInt ∧ l1_1.toInt ≤ 5) → (1 ≤ l2_2.toInt ∧ l2_2.toInt ≤ 6) → (6 - l2_2.toInt).toNat < n_4 → W p l e (rm 0) s m args below meth c H locs 0 0 Q (F0 m 4 ls []) := by
    intro n_4
    induction n_4 with
    | zero =>
      intro l1_1 l2_2 ls hl i4_0 i4_1 hm_4
      exact absurd hm_4 (Nat.not_lt_zero _)
    | succ n_4 ih_4 =>
      intro l1_1 l2_2 ls hl i4_0 i4_1 hm_4
      refine lv_iload_n hx hb dX10_greatestCause_4 rfl (lv_at hl 2 rfl) ?_
      refine lv_bipush (v := 6) hx hb dX10_greatestCause_5 (by decide) ?_
      refine b_icmp_ge (tgt := 33) hx hb dX10_greatestCause_7 (by decide) (fun c_3 => ?_) (fun c_3 => ?_)
      ·
        refine lv_iload_n hx hb dX10_greatestCause_33 rfl (lv_at hl 1 rfl) ?_
        exact hret (⟨rfl, rfl, ⟨⟨by omega, by omega⟩, trivial⟩⟩) hU hS dX10_greatestCause_34
      ·
        refine lv_aload_n hx hb dX10_greatestCause_10 rfl (lv_at hl 0 rfl) ?_
        refine g_57_2 C hU hG (h1_57 hG) fl_X10_17 dX10_greatestCause_11 ?_
        refine lv_iload_n hx hb dX10_greatestCause_14 rfl (lv_at hl 2 rfl) ?_
        refine a_59 C hU hG (h1_59 hG) (x := l2_2) (by omega) (by omega) dX10_greatestCause_15 (fun x_4 e_5 => ?_)
        have te_5 := congrArg Int32.toInt e_5
        refine lv_aload_n hx hb dX10_greatestCause_16 rfl (lv_at hl 0 rfl) ?_
        refine g_57_2 C hU hG (h1_57 hG) fl_X10_17 dX10_greatestCause_17 ?_
        refine lv_iload_n hx hb dX10_greatestCause_20 rfl (lv_at hl 1 rfl) ?_
        refine a_59 C hU hG (h1_59 hG) (x := l1_1) (by omega) (by omega) dX10_greatestCause_21 (fun x_6 e_7 => ?_)
        have te_7 := congrArg Int32.toInt e_7
        have J_27 : ∀ (l1_8 : Int32) (ls : Array Slot), lv_has ls 3 [(0, .ref (al.2 57 0)), (2, .int l2_2), (1, .int l1_8)] → (0 ≤ l1_8.toInt ∧ l1_8.toInt ≤ 5) → W p l e (rm 0) s m args below meth c H locs 0 0 Q (F0 m 27 ls []) := by
          intro l1_8 ls hl i27_0
          obtain ⟨x_9, e_10⟩ : ∃ y : Int32, y = l2_2 + 1 := ⟨_, rfl⟩
          have te_10 : x_9.toInt = (l2_2 : Int32).toInt + (1 : Int32).toInt := by rw [e_10]; exact fb_addI (by omega) (by omega)
          refine lv_iinc (v := x_9) (lv' := [(2, .int x_9), (0, .ref (al.2 57 0)), (1, .int l1_8)]) hx hb dX10_greatestCause_27 hl (k := 1) rfl (by rw [e_10]; rfl) (by decide) rfl (fun ls hl => ?_)
          refine lv_goto (tgt := 4) hx hb dX10_greatestCause_30 (by decide) ?_
          exact ih_4 l1_8 x_9 _ (lv_sub hl [1, 2, 0] rfl) (by omega) (by omega) (by omega)
        refine b_icmp_le (tgt := 27) hx hb dX10_greatestCause_22 (by decide) (fun c_11 => ?_) (fun c_11 => ?_)
        ·
          exact J_27 l1_1 _ (lv_sub hl [0, 2, 1] rfl) (by omega)
        ·
          refine lv_iload_n hx hb dX10_greatestCause_25 rfl (lv_at hl 2 rfl) ?_
          refine lv_istore_n (lv' := [(1, .int l2_2), (0, .ref (al.2 57 0)), (2, .int l2_2)]) hx hb dX10_greatestCause_26 rfl hl (by decide) rfl (fun ls hl => ?_)
          exact J_27 l2_2 _ (lv_sub hl [1, 2, 0] rfl) (by omega)
  exact J_4 _ 0 1 _ (lv_sub hl [2, 1, 0] rfl) (by omega) (by omega) (Nat.lt_succ_self _)
end
