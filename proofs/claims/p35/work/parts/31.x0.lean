set_option maxHeartbeats 4000000 in
set_option maxRecDepth 100000 in
theorem c_J7_fill_53178_59 {l : Launch} {D : va_G} {cA : FieldType → ClassId} {sz : Nat} {al : Al} {iv : Iv} {rv : Rv} (hG : GI al iv rv) (v : Int32) : Met l yJ7_fill_53178 (wd yJ7_fill_53178 cJ7_fill_53178 4 none) (rm 0) (PcW D cA sz al iv rv [.ref (al.2 59 0), .int v]) (QV D cA sz al (fV al ([59], []) iv rv (fun iv' rv' => True))) 0 0 (Aq sz) := by
  refine mk_v (by decide) (Nat.le_of_ble_eq_true rfl) rfl ?_
  intro p e s m args below meth c ls Q H locs C hU hS hl hret
  have hx := C.1.1
  have hb := C.1.2.1
  have hl : lv_has ls 4 [(0, .ref (al.2 59 0)), (1, .int v)] := hl
  have hG0 := hG
  have hF1 : FR ([59], []) iv iv := FR.rf
  have hF2 : FR ([59], []) rv rv := FR.rf
  have k0 : (0 : Int32).toInt = 0 := by decide
  have k1 : (1 : Int32).toInt = 1 := by decide
  have k6 : (6 : Int32).toInt = 6 := by decide
  refine lv_iconst (v := 0) hx hb dJ7_fill_53178_0 (by decide) ?_
  refine lv_istore_n (lv' := [(2, .int 0), (0, .ref (al.2 59 0)), (1, .int v)]) hx hb dJ7_fill_53178_1 rfl hl (by decide) rfl (fun ls hl => ?_)
  refine lv_aload_n hx hb dJ7_fill_53178_2 rfl (lv_at hl 1 rfl) ?_
  refine q_alen (t := 59) (v := 6) C hU k_59 (by decide) (h1_59 hG) (by decide) dJ7_fill_53178_3 ?_
  refine lv_istore_n (lv' := [(3, .int 6), (2, .int 0), (0, .ref (al.2 59 0)), (1, .int v)]) hx hb dJ7_fill_53178_4 rfl hl (by decide) rfl (fun ls hl => ?_)
  have J_5 : ∀ (n_5 : Nat) (l2_1 : Int32) (iv_2 : Iv) (rv_3 : Rv) (H : Heap) (locs : List Loc) (ls : Array Slot), lv_has ls 4 [(0, .ref (al.2 59 0)), (1, .int v), (3, .int 6), (2, .int l2_1)] → GI al iv_2 rv_3 → FR ([59], []) iv iv_2 → FR ([59], []) rv rv_3 → UW D cA sz al iv_2 rv_3 H → va_S (Aq sz) s.heap H locs → (0 ≤ l2_1.toInt ∧ l2_1.toInt ≤ 6) → (6 - l2_1.toInt).toNat < n_5 → W p l e (rm 0) s m args below meth c H locs 0 0 Q (F0 m 5 ls []) := by
    intro n_5
    induction n_5 with
    | zero =>
      intro l2_1 iv_2 rv_3 H locs ls hl hG hF1 hF2 hU hS i5_0 hm_5
      exact absurd hm_5 (Nat.not_lt_zero _)
    | succ n_5 ih_5 =>
      intro l2_1 iv_2 rv_3 H locs ls hl hG hF1 hF2 hU hS i5_0 hm_5
      refine lv_iload_n hx hb dJ7_fill_53178_5 rfl (lv_at hl 3 rfl) ?_
      refine lv_iload_n hx hb dJ7_fill_53178_6 rfl (lv_at hl 2 rfl) ?_
      refine b_icmp_ge (tgt := 20) hx hb dJ7_fill_53178_7 (by decide) (fun c_4 => ?_) (fun c_4 => ?_)
      ·
        exact hret (⟨hG, hF1, hF2, trivial⟩) hU hS dJ7_fill_53178_20
      ·
        refine lv_aload_n hx hb dJ7_fill_53178_10 rfl (lv_at hl 0 rfl) ?_
        refine lv_iload_n hx hb dJ7_fill_53178_11 rfl (lv_at hl 3 rfl) ?_
        refine lv_iload_n hx hb dJ7_fill_53178_12 rfl (lv_at hl 1 rfl) ?_
        refine s_59 C hU hS (h1_59 hG) (x := l2_1) (by omega) (by omega) dJ7_fill_53178_13 (fun iv_5 H locs ei_6 hU hS => ?_)
        have hG : GI al iv_5 rv_3 := by rw [ei_6]; exact hG.puti (show _ ∧ _ from ⟨(fb_rng _).1, Int.le_of_lt_add_one (fb_rng _).2⟩) (nsA (by decide) _)
        have hF1 : FR ([59], []) iv iv_5 := by rw [ei_6]; exact hF1.put (Or.inl (by decide))
        obtain ⟨x_7, e_8⟩ : ∃ y : Int32, y = l2_1 + 1 := ⟨_, rfl⟩
        have te_8 : x_7.toInt = (l2_1 : Int32).toInt + (1 : Int32).toInt := by rw [e_8]; exact fb_addI (by omega) (by omega)
        refine lv_iinc (v := x_7) (lv' := [(2, .int x_7), (0, .ref (al.2 59 0)), (1, .int v), (3, .int 6)]) hx hb dJ7_fill_53178_14 hl (k := 3) rfl (by rw [e_8]; rfl) (by decide) rfl (fun ls hl => ?_)
        refine lv_goto (tgt := 5) hx hb dJ7_fill_53178_17 (by decide) ?_
        exact ih_5 x_7 _ _ _ _ _ (lv_sub hl [1, 2, 3, 0] rfl) hG hF1 hF2 hU hS (by omega) (by omega)
  exact J_5 _ 0 _ _ _ _ _ (lv_sub hl [2, 3, 0, 1] rfl) hG hF1 hF2 hU hS (by omega) (Nat.lt_succ_self _)
set_option maxHeartbeats 4000000 in
set_option maxRecDepth 100000 in
theorem c_J7_fill_53178_86 {l : Launch} {D : va_G} {cA : FieldType → ClassId} {sz : Nat} {al : Al} {iv : Iv} {rv : Rv} (hG : GI al iv rv) (v : Int32) : Met l yJ7_fill_53178 (wd yJ7_fill_53178 cJ7_fill_53178 4 none) (rm 0) (PcW D cA sz al iv rv [.ref (al.2 86 0), .int v]) (QV D cA sz al (fV al ([86], []) iv rv (fun iv' rv' => True))) 0 0 (Aq sz) := by
  refine mk_v (by decide) (Nat.le_of_ble_eq_true rfl) rfl ?_
  intro p e s m args below meth c ls Q H locs C hU hS hl hret
  have hx := C.1.1
  have hb := C.1.2.1
  have hl : lv_has ls 4 [(0, .ref (al.2 86 0)), (1, .int v)] := hl
  have hG0 := hG
  have hF1 : FR ([86], []) iv iv := FR.rf
  have hF2 : FR ([86], []) rv rv := FR.rf
  have k0 : (0 : Int32).toInt = 0 := by decide
  have k1 : (1 : Int32).toInt = 1 := by decide
  have k5 : (5 : Int32).toInt = 5 := by decide
  refine lv_iconst (v := 0) hx hb dJ7_fill_53178_0 (by decide) ?_
  refine lv_istore_n (lv' := [(2, .int 0), (0, .ref (al.2 86 0)), (1, .int v)]) hx hb dJ7_fill_53178_1 rfl hl (by decide) rfl (fun ls hl => ?_)
  refine lv_aload_n hx hb dJ7_fill_53178_2 rfl (lv_at hl 1 rfl) ?_
  refine q_alen (t := 86) (v := 5) C hU k_86 (by decide) (h1_86 hG) (by decide) dJ7_fill_53178_3 ?_
  refine lv_istore_n (lv' := [(3, .int 5), (2, .int 0), (0, .ref (al.2 86 0)), (1, .int v)]) hx hb dJ7_fill_53178_4 rfl hl (by decide) rfl (fun ls hl => ?_)
  have J_5 : ∀ (n_5 : Nat) (l2_1 : Int32) (iv_2 : Iv) (rv_3 : Rv) (H : Heap) (locs : List Loc) (ls : Array Slot), lv_has ls 4 [(0, .ref (al.2 86 0)), (1, .int v), (3, .int 5), (2, .int l2_1)] → GI al iv_2 rv_3 → FR ([86], []) iv iv_2 → FR ([86], []) rv rv_3 → UW D cA sz al iv_2 rv_3 H → va_S (Aq sz) s.heap H locs → (0 ≤ l2_1.toInt ∧ l2_1.toInt ≤ 5) → (5 - l2_1.toInt).toNat < n_5 → W p l e (rm 0) s m args below meth c H locs 0 0 Q (F0 m 5 ls []) := by
    intro n_5
    induction n_5 with
    | zero =>
      intro l2_1 iv_2 rv_3 H locs ls hl hG hF1 hF2 hU hS i5_0 hm_5
      exact absurd hm_5 (Nat.not_lt_zero _)
    | succ n_5 ih_5 =>
      intro l2_1 iv_2 rv_3 H locs ls hl hG hF1 hF2 hU hS i5_0 hm_5
      refine lv_iload_n hx hb dJ7_fill_53178_5 rfl (lv_at hl 3 rfl) ?_
      refine lv_iload_n hx hb dJ7_fill_53178_6 rfl (lv_at hl 2 rfl) ?_
      refine b_icmp_ge (tgt := 20) hx hb dJ7_fill_53178_7 (by decide) (fun c_4 => ?_) (fun c_4 => ?_)
      ·
        exact hret (⟨hG, hF1, hF2, trivial⟩) hU hS dJ7_fill_53178_20
      ·
        refine lv_aload_n hx hb dJ7_fill_53178_10 rfl (lv_at hl 0 rfl) ?_
        refine lv_iload_n hx hb dJ7_fill_53178_11 rfl (lv_at hl 3 rfl) ?_
        refine lv_iload_n hx hb dJ7_fill_53178_12 rfl (lv_at hl 1 rfl) ?_
        refine s_86 C hU hS (h1_86 hG) (x := l2_1) (by omega) (by omega) dJ7_fill_53178_13 (fun iv_5 H locs ei_6 hU hS => ?_)
        have hG : GI al iv_5 rv_3 := by rw [ei_6]; exact hG.puti (show _ ∧ _ from ⟨(fb_rng _).1, Int.le_of_lt_add_one (fb_rng _).2⟩) (nsA (by decide) _)
        have hF1 : FR ([86], []) iv iv_5 := by rw [ei_6]; exact hF1.put (Or.inl (by decide))
        obtain ⟨x_7, e_8⟩ : ∃ y : Int32, y = l2_1 + 1 := ⟨_, rfl⟩
        have te_8 : x_7.toInt = (l2_1 : Int32).toInt + (1 : Int32).toInt := by rw [e_8]; exact fb_addI (by omega) (by omega)
        refine lv_iinc (v := x_7) (lv' := [(2, .int x_7), (0, .ref (al.2 86 0)), (1, .int v), (3, .int 5)]) hx hb dJ7_fill_53178_14 hl (k := 3) rfl (by rw [e_8]; rfl) (by decide) rfl (fun ls hl => ?_)
        refine lv_goto (tgt := 5) hx hb dJ7_fill_53178_17 (by decide) ?_
        exact ih_5 x_7 _ _ _ _ _ (lv_sub hl [1, 2, 3, 0] rfl) hG hF1 hF2 hU hS (by omega) (by omega)
  exact J_5 _ 0 _ _ _ _ _ (lv_sub hl [2, 3, 0, 1] rfl) hG hF1 hF2 hU hS (by omega) (Nat.lt_succ_self _)
set_option maxHeartbeats 4000000 in
set_option maxRecDepth 100000 in
theorem c_X11_isOneOf {l : Launch} {D : va_G} {cA : FieldType → ClassId} {sz : Nat} {al : Al} {iv : Iv} {rv : Rv} (many : Int32) (num : Int32) : Met l yX11_isOneOf (wd yX11_isOneOf cX11_isOneOf 2 (some .boolean)) (rm 0) (PcW D cA sz al iv rv [.int many, .int num]) (QI D cA sz al (pI iv rv (fun r => (0 ≤ r.toInt ∧ r.toInt ≤ 1) ∧ (((0 ≤ num.toInt ∧ num.toInt < many.toInt) ∧ r.toInt = 1) ∨ ((¬ (0 ≤ num.toInt ∧ num.toInt < many.toInt)) ∧ r.toInt = 0))))) 0 0 (Aq sz) := by
  refine mk_z (by decide) (Nat.le_of_ble_eq_true rfl) rfl ?_
  intro p e s m args below meth c ls Q H locs C hU hS hl hret
  have hx := C.1.1
  have hb := C.1.2.1
  have hl : lv_has ls 2 [(0, .int many), (1, .int num)] := hl
  have k0 : (0 : Int32).toInt = 0 := by decide
  have k1 : (1 : Int32).toInt = 1 := by decide
  refine lv_iload_n hx hb dX11_isOneOf_0 rfl (lv_at hl 1 rfl) ?_
  refine b_if_lt (tgt := 13) hx hb dX11_isOneOf_1 (by decide) (fun c_1 => ?_) (fun c_1 => ?_)
  ·
    refine lv_iconst (v := 0) hx hb dX11_isOneOf_13 (by decide) ?_
    exact hret (by omega) (by omega) (⟨rfl, rfl, ⟨⟨by omega, by omega⟩, by omega⟩⟩) hU hS dX11_isOneOf_14
  ·
    refine lv_iload_n hx hb dX11_isOneOf_4 rfl (lv_at hl 1 rfl) ?_
    refine lv_iload_n hx hb dX11_isOneOf_5 rfl (lv_at hl 0 rfl) ?_
    refine b_icmp_ge (tgt := 13) hx hb dX11_isOneOf_6 (by decide) (fun c_2 => ?_) (fun c_2 => ?_)
    ·
      refine lv_iconst (v := 0) hx hb dX11_isOneOf_13 (by decide) ?_
      exact hret (by omega) (by omega) (⟨rfl, rfl, ⟨⟨by omega, by omega⟩, by omega⟩⟩) hU hS dX11_isOneOf_14
    ·
      refine lv_iconst (v := 1) hx hb dX11_isOneOf_9 (by decide) ?_
      refine lv_goto (tgt := 14) hx hb dX11_isOneOf_10 (by decide) ?_
      exact hret (by omega) (by omega) (⟨rfl, rfl, ⟨⟨by omega, by omega⟩, by omega⟩⟩) hU hS dX11_isOneOf_14
set_option maxHeartbeats 4000000 in
set_option maxRecDepth 100000 in
theorem c_X11_refuse {l : Launch} {D : va_G} {cA : FieldType → ClassId} {sz : Nat} {al : Al} {iv : Iv} {rv : Rv} (hG : GI al iv rv) (num : Int32) (pre0 : -6 ≤ num.toInt ∧ num.toInt ≤ -1) : Met l yX11_refuse (wd yX11_refuse cX11_refuse 3 (some .int)) (rm 1) (PcW D cA sz al iv rv [.ref (al.2 49 0), .int num]) (QI D cA sz al (fI al ([51], []) iv rv (fun r iv' rv' => r = num))) 0 0 (Aq sz) := by
  refine mk_i (by decide) (Nat.le_of_ble_eq_true rfl) rfl ?_
  intro p e s m args below meth c ls Q H locs C hU hS hl hret
  have hx := C.1.1
  have hb := C.1.2.1
  have hl : lv_has ls 3 [(0, .ref (al.2 49 0)), (1, .int num)] := hl
  have hG0 := hG
  have hF1 : FR ([51], []) iv iv := FR.rf
  have hF2 : FR ([51], []) rv rv := FR.rf
  have k1 : (1 : Int32).toInt = 1 := by decide
  have k7 : (7 : Int32).toInt = 7 := by decide
  refine lv_iload_n hx hb dX11_refuse_0 rfl (lv_at hl 1 rfl) ?_
  refine lv_ineg hx hb dX11_refuse_1 ?_
  refine lv_topi (fun x_1 e_2 => ?_)
  have te_2 : x_1.toInt = -(num : Int32).toInt := by rw [e_2]; exact fb_negI (by omega)
  refine lv_istore_n (lv' := [(2, .int x_1), (0, .ref (al.2 49 0)), (1, .int num)]) hx hb dX11_refuse_2 rfl hl (by decide) rfl (fun ls hl => ?_)
  refine lv_aload_n hx hb dX11_refuse_3 rfl (lv_at hl 1 rfl) ?_
  refine g_49_8 C hU hG (h1_49 hG) fl_X11_70 dX11_refuse_4 ?_
  refine q_alen (t := 51) (v := 7) C hU k_51 (by decide) (h1_51 hG) (by decide) dX11_refuse_7 ?_
  refine lv_iload_n hx hb dX11_refuse_8 rfl (lv_at hl 0 rfl) ?_
  refine q_pi (q_runS (As := [.int 7, .int x_1]) (rest := []) C hU (c_X11_isOneOf  7 x_1 ) sm_X11_isOneOf ml_X11_85 hl.1 rfl rfl (Nat.le_of_ble_eq_true rfl) dX11_refuse_9 rfl rfl ⟨Nat.le_of_ble_eq_true rfl, Nat.le_of_ble_eq_true rfl⟩ ⟨Nat.le_refl _, Nat.le_refl _⟩) hS (fun x_4 H locs hp_3 hU hS => ?_)
  refine b_if_eq (tgt := 25) hx hb dX11_refuse_12 (by decide) (fun c_5 => ?_) (fun c_5 => ?_)
  ·
    refine lv_iload_n hx hb dX11_refuse_25 rfl (lv_at hl 2 rfl) ?_
    exact hret (⟨hG, hF1, hF2, rfl⟩) hU hS dX11_refuse_26
  ·
    refine lv_aload_n hx hb dX11_refuse_15 rfl (lv_at hl 1 rfl) ?_
    refine g_49_8 C hU hG (h1_49 hG) fl_X11_70 dX11_refuse_16 ?_
    refine lv_iload_n hx hb dX11_refuse_19 rfl (lv_at hl 0 rfl) ?_
    refine lv_dup2_11 hx hb dX11_refuse_20 rfl rfl ?_
    refine a_51 C hU hG (h1_51 hG) (x := x_1) (by omega) (by omega) dX11_refuse_21 (fun x_6 e_7 => ?_)
    have te_7 := congrArg Int32.toInt e_7
    refine lv_iconst (v := 1) hx hb dX11_refuse_22 (by decide) ?_
    refine lv_iadd hx hb dX11_refuse_23 ?_
    refine lv_topi (fun x_8 e_9 => ?_)
    refine s_51 C hU hS (h1_51 hG) (x := x_1) (by omega) (by omega) dX11_refuse_24 (fun iv_10 H locs ei_11 hU hS => ?_)
    have hG : GI al iv_10 rv := by rw [ei_11]; exact hG.puti (show _ ∧ _ from ⟨(fb_rng _).1, Int.le_of_lt_add_one (fb_rng _).2⟩) (nsA (by decide) _)
    have hF1 : FR ([51], []) iv iv_10 := by rw [ei_11]; exact hF1.put (Or.inl (by decide))
    refine lv_iload_n hx hb dX11_refuse_25 rfl (lv_at hl 2 rfl) ?_
    exact hret (⟨hG, hF1, hF2, rfl⟩) hU hS dX11_refuse_26
set_option maxHeartbeats 4000000 in
set_option maxRecDepth 100000 in
theorem c_X11_refuseBeyond {l : Launch} {D : va_G} {cA : FieldType → ClassId} {sz : Nat} {al : Al} {iv : Iv} {rv : Rv} (hG : GI al iv rv) (num : Int32) (pre0 : -6 ≤ num.toInt ∧ num.toInt ≤ -1) : Met l yX11_refuseBeyond (wd yX11_refuseBeyond cX11_refuseBeyond 2 (some .int)) (rm 2) (PcW D cA sz al iv rv [.ref (al.2 49 0), .int num]) (QI D cA sz al (fI al ([51], []) iv rv (fun r iv' rv' => True))) 0 0 (Aq sz) := by
  refine mk_i (by decide) (Nat.le_of_ble_eq_true rfl) rfl ?_
  intro p e s m args below meth c ls Q H locs C hU hS hl hret
  have hx := C.1.1
  have hb := C.1.2.1
  have hl : lv_has ls 2 [(0, .ref (al.2 49 0)), (1, .int num)] := hl
  have hG0 := hG
  have hF1 : FR ([51], []) iv iv := FR.rf
  have hF2 : FR ([51], []) rv rv := FR.rf
  have k1000000000 : (1000000000 : Int32).toInt = 1000000000 := by decide
  refine lv_ldcw (v := 1000000000) hx hb C.1.2.2.2.1 (C.1.2.2.2.2 _ ct_X11_335) dX11_refuseBeyond_0 ?_
  refine lv_aload_n hx hb dX11_refuseBeyond_3 rfl (lv_at hl 0 rfl) ?_
  refine lv_iload_n hx hb dX11_refuseBeyond_4 rfl (lv_at hl 1 rfl) ?_
  refine q_fi (q_runV (t := 49) (i := 0) (As := [.int num]) (rest := [.int 1000000000]) C hU (c_X11_refuse hG num (by omega)) vm_X11_refuse ml_X11_77 k_49.1 (hc := rfl) rfl (h1_49 hG) hl.1 rfl rfl (Nat.le_of_ble_eq_true rfl) dX11_refuseBeyond_5 rfl rfl ⟨Nat.le_of_ble_eq_true rfl, Nat.le_of_ble_eq_true rfl⟩ ⟨Nat.le_refl _, Nat.le_refl _⟩) hS (fun x_6 iv_2 rv_3 H locs hG fa_4 fb_5 hp_1 hU hS => ?_)
  have hF1 := hF1.tr (m := ([51], [])) fa_4 (by decide)
  have hF2 := hF2.tr (m := ([51], [])) fb_5 (by decide)
  refine lv_isub hx hb dX11_refuseBeyond_8 ?_
  refine lv_topi (fun x_7 e_8 => ?_)
  exact hret (⟨hG, hF1, hF2, trivial⟩) hU hS dX11_refuseBeyond_9
set_option maxHeartbeats 4000000 in
set_option maxRecDepth 100000 in
theorem c_X11_gapFor {l : Launch} {D : va_G} {cA : FieldType → ClassId} {sz : Nat} {al : Al} {iv : Iv} {rv : Rv} (hG : GI al iv rv) (crew : Int32) : Met l yX11_gapFor (wd yX11_gapFor cX11_gapFor 2 (some .int)) (rm 0) (PcW D cA sz al iv rv [.ref (al.2 49 0), .int crew]) (QI D cA sz al (pI iv rv (fun r => (0 ≤ r.toInt ∧ r.toInt ≤ 900) ∧ (True)))) 0 0 (Aq sz) := by
  refine mk_i (by decide) (Nat.le_of_ble_eq_true rfl) rfl ?_
  intro p e s m args below meth c ls Q H locs C hU hS hl hret
  have hx := C.1.1
  have hb := C.1.2.1
  have hl : lv_has ls 2 [(0, .ref (al.2 49 0)), (1, .int crew)] := hl
  have hG0 := hG
  have k0 : (0 : Int32).toInt = 0 := by decide
  have k1 : (1 : Int32).toInt = 1 := by decide
  refine lv_iload_n hx hb dX11_gapFor_0 rfl (lv_at hl 1 rfl) ?_
  refine b_if_eq (tgt := 13) hx hb dX11_gapFor_1 (by decide) (fun c_1 => ?_) (fun c_1 => ?_)
  ·
    refine lv_aload_n hx hb dX11_gapFor_13 rfl (lv_at hl 0 rfl) ?_
    refine g_49_7 C hU hG (h1_49 hG) fl_X11_67 dX11_gapFor_14 ?_
    refine lv_iconst (v := 0) hx hb dX11_gapFor_17 (by decide) ?_
    refine a_50 C hU hG (h1_50 hG) (x := 0) (by omega) (by omega) dX11_gapFor_18 (fun x_2 e_3 le_3 ue_3 => ?_)
    have te_3 := congrArg Int32.toInt e_3
    exact hret (⟨rfl, rfl, ⟨⟨by omega, by omega⟩, trivial⟩⟩) hU hS dX11_gapFor_19
  ·
    refine lv_aload_n hx hb dX11_gapFor_4 rfl (lv_at hl 0 rfl) ?_
    refine g_49_7 C hU hG (h1_49 hG) fl_X11_67 dX11_gapFor_5 ?_
    refine lv_iconst (v := 1) hx hb dX11_gapFor_8 (by decide) ?_
    refine a_50 C hU hG (h1_50 hG) (x := 1) (by omega) (by omega) dX11_gapFor_9 (fun x_4 e_5 le_5 ue_5 => ?_)
    have te_5 := congrArg Int32.toInt e_5
    refine lv_goto (tgt := 19) hx hb dX11_gapFor_10 (by decide) ?_
    exact hret (⟨rfl, rfl, ⟨⟨by omega, by omega⟩, trivial⟩⟩) hU hS dX11_gapFor_19
set_option maxHeartbeats 4000000 in
set_option maxRecDepth 100000 in
theorem c_X7_find {l : Launch} {D : va_G} {cA : FieldType → ClassId} {sz : Nat} {al : Al} {iv : Iv} {rv : Rv} (hG : GI al iv rv) (num : Int32) : Met l yX7_find (wd yX7_find cX7_find 2 (some (.object "LateClaims$Port"))) (rm 1) (PcW D cA sz al iv rv [.ref (al.2 52 0), .int num]) (QR D cA sz al 56 (pR iv rv (fun r => (∀ j, r = some j → j < al.1 56) ∧ ((∀ j, r = some j → j = num.toNatClampNeg ∧ 0 ≤ num.toInt ∧ num.toInt < 10) ∧ (r = none → ¬ (0 ≤ num.toInt ∧ num.toInt < 10)))))) 0 0 (Aq sz) := by
  refine mk_r (by decide) (Nat.le_of_ble_eq_true rfl) rfl ?_
  intro p e s m args below meth c ls Q H locs C hU hS hl hret
  have hx := C.1.1
  have hb := C.1.2.1
  have hl : lv_has ls 2 [(0, .ref (al.2 52 0)), (1, .int num)] := hl
  have hG0 := hG
  have k10 : (10 : Int32).toInt = 10 := by decide
  refine lv_bipush (v := 10) hx hb dX7_find_0 (by decide) ?_
  refine lv_iload_n hx hb dX7_find_2 rfl (lv_at hl 1 rfl) ?_
  refine q_pi (q_runSN (As := [.int 10, .int num]) (rest := []) C hU (c_X11_isOneOf  10 num ) sm_X11_isOneOf C.2.2.2.2.1 hl.1 rfl rfl (Nat.le_of_ble_eq_true rfl) dX7_find_3 rfl rfl ⟨Nat.le_of_ble_eq_true rfl, Nat.le_of_ble_eq_true rfl⟩ ⟨Nat.le_refl _, Nat.le_refl _⟩) hS (fun x_2 H locs hp_1 hU hS => ?_)
  refine b_if_eq (tgt := 18) hx hb dX7_find_6 (by decide) (fun c_3 => ?_) (fun c_3 => ?_)
  ·
    refine lv_null hx hb dX7_find_18 ?_
    exact hret (none) (⟨rfl, rfl, ⟨(fun _ h => by cases h), ⟨fun j h => by first | (cases h; done) | (cases h; exact ⟨Option.some.inj (True.intro.symm.trans (pall hG (by omega) (by omega))), by omega, by omega⟩), fun h => by first | (cases h; done) | omega⟩⟩⟩) hU hS dX7_find_19
  ·
    refine lv_aload_n hx hb dX7_find_9 rfl (lv_at hl 0 rfl) ?_
    refine g_52_0 C hU hG (h1_52 hG) fl_X7_11 dX7_find_10 ?_
    refine lv_iload_n hx hb dX7_find_13 rfl (lv_at hl 1 rfl) ?_
    refine a_53 C hU hG (h1_53 hG) (x := num) (by omega) (by omega) dX7_find_14 (fun j_4 ej_5 hb_6 => ?_)
    refine lv_goto (tgt := 19) hx hb dX7_find_15 (by decide) ?_
    exact hret (some j_4) (⟨rfl, rfl, ⟨(fun _ h => by cases h; exact hb_6), ⟨fun j h => by first | (cases h; done) | (cases h; exact ⟨Option.some.inj (ej_5.symm.trans (pall hG (by omega) (by omega))), by omega, by omega⟩), fun h => by first | (cases h; done) | omega⟩⟩⟩) hU hS dX7_find_19
set_option maxHeartbeats 4000000 in
set_option maxRecDepth 100000 in
theorem c_X10_find {l : Launch} {D : va_G} {cA : FieldType → ClassId} {sz : Nat} {al : Al} {iv : Iv} {rv : Rv} (hG : GI al iv rv) (num : Int32) : Met l yX10_find (wd yX10_find cX10_find 2 (some (.object "LateClaims$Leg"))) (rm 1) (PcW D cA sz al iv rv [.ref (al.2 57 0), .int num]) (QR D cA sz al 62 (pR iv rv (fun r => (∀ j, r = some j → j < al.1 62) ∧ ((∀ j, r = some j → j = num.toNatClampNeg ∧ 0 ≤ num.toInt ∧ num.toInt < (iv 57 0 1).toInt) ∧ (r = none → ¬ (0 ≤ num.toInt ∧ num.toInt < (iv 57 0 1).toInt)))))) 0 0 (Aq sz) := by
  refine mk_r (by decide) (Nat.le_of_ble_eq_true rfl) rfl ?_
  intro p e s m args below meth c ls Q H locs C hU hS hl hret
  have hx := C.1.1
  have hb := C.1.2.1
  have hl : lv_has ls 2 [(0, .ref (al.2 57 0)), (1, .int num)] := hl
  have hG0 := hG
  refine lv_aload_n hx hb dX10_find_0 rfl (lv_at hl 0 rfl) ?_
  refine g_57_1 C hU hG (h1_57 hG) fl_X10_28 dX10_find_1 (fun x_1 e_2 le_2 ue_2 => ?_)
  have te_2 := congrArg Int32.toInt e_2
  refine lv_iload_n hx hb dX10_find_4 rfl (lv_at hl 1 rfl) ?_
  refine q_pi (q_runSN (As := [.int x_1, .int num]) (rest := []) C hU (c_X11_isOneOf  x_1 num ) sm_X11_isOneOf C.2.2.2.2.2.1 hl.1 rfl rfl (Nat.le_of_ble_eq_true rfl) dX10_find_5 rfl rfl ⟨Nat.le_of_ble_eq_true rfl, Nat.le_of_ble_eq_true rfl⟩ ⟨Nat.le_refl _, Nat.le_refl _⟩) hS (fun x_4 H locs hp_3 hU hS => ?_)
  refine b_if_eq (tgt := 20) hx hb dX10_find_8 (by decide) (fun c_5 => ?_) (fun c_5 => ?_)
  ·
    refine lv_null hx hb dX10_find_20 ?_
    exact hret (none) (⟨rfl, rfl, ⟨(fun _ h => by cases h), ⟨fun j h => by first | (cases h; done) | (cases h; exact ⟨Option.some.inj (True.intro.trans (tall hG (by omega) (by omega))), by omega, by omega⟩), fun h => by first | (cases h; done) | omega⟩⟩⟩) hU hS dX10_find_21
  ·
    refine lv_aload_n hx hb dX10_find_11 rfl (lv_at hl 0 rfl) ?_
    refine g_57_0 C hU hG (h1_57 hG) fl_X10_13 dX10_find_12 ?_
    refine lv_iload_n hx hb dX10_find_15 rfl (lv_at hl 1 rfl) ?_
    refine a_58 C hU hG (h1_58 hG) (x := num) (by omega) (by omega) dX10_find_16 (fun r_6 er_7 hb_8 => ?_)
    obtain ⟨j_9, ej_10⟩ : ∃ j, r_6 = some j := ⟨_, er_7.trans (tall hG (by omega) (by omega))⟩
    subst ej_10
    have hl : lv_has ls 2 [(0, .ref (al.2 57 0)), (1, .int num)] := hl
    have hb_11 : j_9 < al.1 62 := hb_8 j_9 rfl
    refine lv_goto (tgt := 21) hx hb dX10_find_17 (by decide) ?_
    exact hret (some j_9) (⟨rfl, rfl, ⟨(fun _ h => by cases h; exact hb_11), ⟨fun j h => by first | (cases h; done) | (cases h; exact ⟨Option.some.inj (er_7.trans (tall hG (by omega) (by omega))), by omega, by omega⟩), fun h => by first | (cases h; done) | omega⟩⟩⟩) hU hS dX10_find_21
set_option maxHeartbeats 4000000 in
set_option maxRecDepth 100000 in
theorem c_X9_find {l : Launch} {D : va_G} {cA : FieldType → ClassId} {sz : Nat} {al : Al} {iv : Iv} {rv : Rv} (hG : GI al iv rv) (num : Int32) : Met l yX9_find (wd yX9_find cX9_find 2 (some (.object "LateClaims$Ticket"))) (rm 1) (PcW D cA sz al iv rv [.ref (al.2 63 0), .int num]) (QR D cA sz al 65 (pR iv rv (fun r => (∀ j, r = some j → j < al.1 65) ∧ ((∀ j, r = some j → j = num.toNatClampNeg ∧ 0 ≤ num.toInt ∧ num.toInt < (iv 63 0 1).toInt) ∧ (r = none → ¬ (0 ≤ num.toInt ∧ num.toInt < (iv 63 0 1).toInt)))))) 0 0 (Aq sz) := by
  refine mk_r (by decide) (Nat.le_of_ble_eq_true rfl) rfl ?_
  intro p e s m args below meth c ls Q H locs C hU hS hl hret
  have hx := C.1.1
  have hb := C.1.2.1
  have hl : lv_has ls 2 [(0, .ref (al.2 63 0)), (1, .int num)] := hl
  have hG0 := hG
  refine lv_aload_n hx hb dX9_find_0 rfl (lv_at hl 0 rfl) ?_
  refine g_63_1 C hU hG (h1_63 hG) fl_X9_15 dX9_find_1 (fun x_1 e_2 le_2 ue_2 => ?_)
  have te_2 := congrArg Int32.toInt e_2
  refine lv_iload_n hx hb dX9_find_4 rfl (lv_at hl 1 rfl) ?_
  refine q_pi (q_runSN (As := [.int x_1, .int num]) (rest := []) C hU (c_X11_isOneOf  x_1 num ) sm_X11_isOneOf C.2.2.2.2.2.2.1 hl.1 rfl rfl (Nat.le_of_ble_eq_true rfl) dX9_find_5 rfl rfl ⟨Nat.le_of_ble_eq_true rfl, Nat.le_of_ble_eq_true rfl⟩ ⟨Nat.le_refl _, Nat.le_refl _⟩) hS (fun x_4 H locs hp_3 hU hS => ?_)
  refine b_if_eq (tgt := 20) hx hb dX9_find_8 (by decide) (fun c_5 => ?_) (fun c_5 => ?_)
  ·
    refine lv_null hx hb dX9_find_20 ?_
    exact hret (none) (⟨rfl, rfl, ⟨(fun _ h => by cases h), ⟨fun j h => by first | (cases h; done) | (cases h; exact ⟨Option.some.inj (True.intro.trans (kall hG (by omega) (by omega))), by omega, by omega⟩), fun h => by first | (cases h; done) | omega⟩⟩⟩) hU hS dX9_find_21
  ·
    refine lv_aload_n hx hb dX9_find_11 rfl (lv_at hl 0 rfl) ?_
    refine g_63_0 C hU hG (h1_63 hG) fl_X9_11 dX9_find_12 ?_
    refine lv_iload_n hx hb dX9_find_15 rfl (lv_at hl 1 rfl) ?_
    refine a_64 C hU hG (h1_64 hG) (x := num) (by omega) (by omega) dX9_find_16 (fun r_6 er_7 hb_8 => ?_)
    obtain ⟨j_9, ej_10⟩ : ∃ j, r_6 = some j := ⟨_, er_7.trans (kall hG (by omega) (by omega))⟩
    subst ej_10
    have hl : lv_has ls 2 [(0, .ref (al.2 63 0)), (1, .int num)] := hl
    have hb_11 : j_9 < al.1 65 := hb_8 j_9 rfl
    refine lv_goto (tgt := 21) hx hb dX9_find_17 (by decide) ?_
    exact hret (some j_9) (⟨rfl, rfl, ⟨(fun _ h => by cases h; exact hb_11), ⟨fun j h => by first | (cases h; done) | (cases h; exact ⟨Option.some.inj (er_7.trans (kall hG (by omega) (by omega))), by omega, by omega⟩), fun h => by first | (cases h; done) | omega⟩⟩⟩) hU hS dX9_find_21
set_option maxHeartbeats 4000000 in
set_option maxRecDepth 100000 in
theorem c_X3_find {l : Launch} {D : va_G} {cA : FieldType → ClassId} {sz : Nat} {al : Al} {iv : Iv} {rv : Rv} (hG : GI al iv rv) (num : Int32) : Met l yX3_find (wd yX3_find cX3_find 2 (some (.object "LateClaims$Claim"))) (rm 1) (PcW D cA sz al iv rv [.ref (al.2 84 0), .int num]) (QR D cA sz al 88 (pR iv rv (fun r => (∀ j, r = some j → j < al.1 88) ∧ ((∀ j, r = some j → j = num.toNatClampNeg ∧ 0 ≤ num.toInt ∧ num.toInt < (iv 84 0 1).toInt) ∧ (r = none → ¬ (0 ≤ num.toInt ∧ num.toInt < (iv 84 0 1).toInt)))))) 0 0 (Aq sz) := by
  refine mk_r (by decide) (Nat.le_of_ble_eq_true rfl) rfl ?_
  intro p e s m args below meth c ls Q H locs C hU hS hl hret
  have hx := C.1.1
  have hb := C.1.2.1
  have hl : lv_has ls 2 [(0, .ref (al.2 84 0)), (1, .int num)] := hl
  have hG0 := hG
  refine lv_aload_n hx hb dX3_find_0 rfl (lv_at hl 0 rfl) ?_
  refine g_84_1 C hU hG (h1_84 hG) fl_X3_24 dX3_find_1 (fun x_1 e_2 le_2 ue_2 => ?_)
  have te_2 := congrArg Int32.toInt e_2
  refine lv_iload_n hx hb dX3_find_4 rfl (lv_at hl 1 rfl) ?_
  refine q_pi (q_runSN (As := [.int x_1, .int num]) (rest := []) C hU (c_X11_isOneOf  x_1 num ) sm_X11_isOneOf C.2.2.2.2.2.2.2 hl.1 rfl rfl (Nat.le_of_ble_eq_true rfl) dX3_find_5 rfl rfl ⟨Nat.le_of_ble_eq_true rfl, Nat.le_of_ble_eq_true rfl⟩ ⟨Nat.le_refl _, Nat.le_refl _⟩) hS (fun x_4 H locs hp_3 hU hS => ?_)
  refine b_if_eq (tgt := 20) hx hb dX3_find_8 (by decide) (fun c_5 => ?_) (fun c_5 => ?_)
  ·
    refine lv_null hx hb dX3_find_20 ?_
    exact hret (none) (⟨rfl, rfl, ⟨(fun _ h => by cases h), ⟨fun j h => by first | (cases h; done) | (cases h; exact ⟨Option.some.inj (True.intro.trans (call_ hG (by omega) (by omega))), by omega, by omega⟩), fun h => by first | (cases h; done) | omega⟩⟩⟩) hU hS dX3_find_21
  ·
    refine lv_aload_n hx hb dX3_find_11 rfl (lv_at hl 0 rfl) ?_
    refine g_84_0 C hU hG (h1_84 hG) fl_X3_13 dX3_find_12 ?_
    refine lv_iload_n hx hb dX3_find_15 rfl (lv_at hl 1 rfl) ?_
    refine a_85 C hU hG (h1_85 hG) (x := num) (by omega) (by omega) dX3_find_16 (fun r_6 er_7 hb_8 => ?_)
    obtain ⟨j_9, ej_10⟩ : ∃ j, r_6 = some j := ⟨_, er_7.trans (call_ hG (by omega) (by omega))⟩
    subst ej_10
    have hl : lv_has ls 2 [(0, .ref (al.2 84 0)), (1, .int num)] := hl
    have hb_11 : j_9 < al.1 88 := hb_8 j_9 rfl
    refine lv_goto (tgt := 21) hx hb dX3_find_17 (by decide) ?_
    exact hret (some j_9) (⟨rfl, rfl, ⟨(fun _ h => by cases h; exact hb_11), ⟨fun j h => by first | (cases h; done) | (cases h; exact ⟨Option.some.inj (er_7.trans (call_ hG (by omega) (by omega))), by omega, by omega⟩), fun h => by first | (cases h; done) | omega⟩⟩⟩) hU hS dX3_find_21
set_option maxHeartbeats 4000000 in
set_option maxRecDepth 100000 in
theorem c_X10_isFull {l : Launch} {D : va_G} {cA : FieldType → ClassId} {sz : Nat} {al : Al} {iv : Iv} {rv : Rv} (hG : GI al iv rv) : Met l yX10_isFull (wd yX10_isFull cX10_isFull 1 (some .boolean)) (rm 0) (PcW D cA sz al iv rv [.ref (al.2 57 0)]) (QI D cA sz al (pI iv rv (fun r => (0 ≤ r.toInt ∧ r.toInt ≤ 1) ∧ (((40 ≤ (iv 57 0 1).toInt) ∧ r.toInt = 1) ∨ ((iv 57 0 1).toInt < 40 ∧ r.toInt = 0))))) 0 0 (Aq sz) := by
  refine mk_z (by decide) (Nat.le_of_ble_eq_true rfl) rfl ?_
  intro p e s m args below meth c ls Q H locs C hU hS hl hret
  have hx := C.1.1
  have hb := C.1.2.1
  have hl : lv_has ls 1 [(0, .ref (al.2 57 0))] := hl
  have hG0 := hG
  have k0 : (0 : Int32).toInt = 0 := by decide
  have k1 : (1 : Int32).toInt = 1 := by decide
  have k40 : (40 : Int32).toInt = 40 := by decide
  refine lv_aload_n hx hb dX10_isFull_0 rfl (lv_at hl 0 rfl) ?_
  refine g_57_1 C hU hG (h1_57 hG) fl_X10_28 dX10_isFull_1 (fun x_1 e_2 le_2 ue_2 => ?_)
  have te_2 := congrArg Int32.toInt e_2
  refine lv_bipush (v := 40) hx hb dX10_isFull_4 (by decide) ?_
  refine b_icmp_lt (tgt := 13) hx hb dX10_isFull_6 (by decide) (fun c_3 => ?_) (fun c_3 => ?_)
  ·
    refine lv_iconst (v := 0) hx hb dX10_isFull_13 (by decide) ?_
    exact hret (by omega) (by omega) (⟨rfl, rfl, ⟨⟨by omega, by omega⟩, by omega⟩⟩) hU hS dX10_isFull_14
  ·
    refine lv_iconst (v := 1) hx hb dX10_isFull_9 (by decide) ?_
    refine lv_goto (tgt := 14) hx hb dX10_isFull_10 (by decide) ?_
    exact hret (by omega) (by omega) (⟨rfl, rfl, ⟨⟨by omega, by omega⟩, by omega⟩⟩) hU hS dX10_isFull_14
set_option maxHeartbeats 4000000 in
set_option maxRecDepth 100000 in
theorem c_X9_isFull {l : Launch} {D : va_G} {cA : FieldType → ClassId} {sz : Nat} {al : Al} {iv : Iv} {rv : Rv} (hG : GI al iv rv) : Met l yX9_isFull (wd yX9_isFull cX9_isFull 1 (some .boolean)) (rm 0) (PcW D cA sz al iv rv [.ref (al.2 63 0)]) (QI D cA sz al (pI iv rv (fun r => (0 ≤ r.toInt ∧ r.toInt ≤ 1) ∧ (((20 ≤ (iv 63 0 1).toInt) ∧ r.toInt = 1) ∨ ((iv 63 0 1).toInt < 20 ∧ r.toInt = 0))))) 0 0 (Aq sz) := by
  refine mk_z (by decide) (Nat.le_of_ble_eq_true rfl) rfl ?_
  intro p e s m args below meth c ls Q H locs C hU hS hl hret
  have hx := C.1.1
  have hb := C.1.2.1
  have hl : lv_has ls 1 [(0, .ref (al.2 63 0))] := hl
  have hG0 := hG
  have k0 : (0 : Int32).toInt = 0 := by decide
  have k1 : (1 : Int32).toInt = 1 := by decide
  have k20 : (20 : Int32).toInt = 20 := by decide
  refine lv_aload_n hx hb dX9_isFull_0 rfl (lv_at hl 0 rfl) ?_
  refine g_63_1 C hU hG (h1_63 hG) fl_X9_15 dX9_isFull_1 (fun x_1 e_2 le_2 ue_2 => ?_)
  have te_2 := congrArg Int32.toInt e_2
  refine lv_bipush (v := 20) hx hb dX9_isFull_4 (by decide) ?_
  refine b_icmp_lt (tgt := 13) hx hb dX9_isFull_6 (by decide) (fun c_3 => ?_) (fun c_3 => ?_)
  ·
    refine lv_iconst (v := 0) hx hb dX9_isFull_13 (by decide) ?_
    exact hret (by omega) (by omega) (⟨rfl, rfl, ⟨⟨by omega, by omega⟩, by omega⟩⟩) hU hS dX9_isFull_14
  ·
    refine lv_iconst (v := 1) hx hb dX9_isFull_9 (by decide) ?_
    refine lv_goto (tgt := 14) hx hb dX9_isFull_10 (by decide) ?_
    exact hret (by omega) (by omega) (⟨rfl, rfl, ⟨⟨by omega, by omega⟩, by omega⟩⟩) hU hS dX9_isFull_14
set_option maxHeartbeats 4000000 in
set_option maxRecDepth 100000 in
theorem c_X3_isFull {l : Launch} {D : va_G} {cA : FieldType → ClassId} {sz : Nat} {al : Al} {iv : Iv} {rv : Rv} (hG : GI al iv rv) : Met l yX3_isFull (wd yX3_isFull cX3_isFull 1 (some .boolean)) (rm 0) (PcW D cA sz al iv rv [.ref (al.2 84 0)]) (QI D cA sz al (pI iv rv (fun r => (0 ≤ r.toInt ∧ r.toInt ≤ 1) ∧ (((30 ≤ (iv 84 0 1).toInt) ∧ r.toInt = 1) ∨ ((iv 84 0 1).toInt < 30 ∧ r.toInt = 0))))) 0 0 (Aq sz) := by
  refine mk_z (by decide) (Nat.le_of_ble_eq_true rfl) rfl ?_
  intro p e s m args below meth c ls Q H locs C hU hS hl hret
  have hx := C.1.1
  have hb := C.1.2.1
  have hl : lv_has ls 1 [(0, .ref (al.2 84 0))] := hl
  have hG0 := hG
  have k0 : (0 : Int32).toInt = 0 := by decide
  have k1 : (1 : Int32).toInt = 1 := by decide
  have k30 : (30 : Int32).toInt = 30 := by decide
  refine lv_aload_n hx hb dX3_isFull_0 rfl (lv_at hl 0 rfl) ?_
  refine g_84_1 C hU hG (h1_84 hG) fl_X3_24 dX3_isFull_1 (fun x_1 e_2 le_2 ue_2 => ?_)
  have te_2 := congrArg Int32.toInt e_2
  refine lv_bipush (v := 30) hx hb dX3_isFull_4 (by decide) ?_
  refine b_icmp_lt (tgt := 13) hx hb dX3_isFull_6 (by decide) (fun c_3 => ?_) (fun c_3 => ?_)
  ·
    refine lv_iconst (v := 0) hx hb dX3_isFull_13 (by decide) ?_
    exact hret (by omega) (by omega) (⟨rfl, rfl, ⟨⟨by omega, by omega⟩, by omega⟩⟩) hU hS dX3_isFull_14
  ·
    refine lv_iconst (v := 1) hx hb dX3_isFull_9 (by decide) ?_
    refine lv_goto (tgt := 14) hx hb dX3_isFull_10 (by decide) ?_
    exact hret (by omega) (by omega) (⟨rfl, rfl, ⟨⟨by omega, by omega⟩, by omega⟩⟩) hU hS dX3_isFull_14
set_option maxHeartbeats 4000000 in
set_option maxRecDepth 100000 in
theorem c_X4_isFull {l : Launch} {D : va_G} {cA : FieldType → ClassId} {sz : Nat} {al : Al} {iv : Iv} {rv : Rv} (hG : GI al iv rv) : Met l yX4_isFull (wd yX4_isFull cX4_isFull 1 (some .boolean)) (rm 0) (PcW D cA sz al iv rv [.ref (al.2 68 0)]) (QI D cA sz al (pI iv rv (fun r => (0 ≤ r.toInt ∧ r.toInt ≤ 1) ∧ (((30 ≤ (iv 68 0 5).toInt) ∧ r.toInt = 1) ∨ ((iv 68 0 5).toInt < 30 ∧ r.toInt = 0))))) 0 0 (Aq sz) := by
  refine mk_z (by decide) (Nat.le_of_ble_eq_true rfl) rfl ?_
  intro p e s m args below meth c ls Q H locs C hU hS hl hret
  have hx := C.1.1
  have hb := C.1.2.1
  have hl : lv_has ls 1 [(0, .ref (al.2 68 0))] := hl
  have hG0 := hG
  have k0 : (0 : Int32).toInt = 0 := by decide
  have k1 : (1 : Int32).toInt = 1 := by decide
  have k30 : (30 : Int32).toInt = 30 := by decide
  refine lv_aload_n hx hb dX4_isFull_0 rfl (lv_at hl 0 rfl) ?_
  refine g_68_5 C hU hG (h1_68 hG) fl_X4_43 dX4_isFull_1 (fun x_1 e_2 le_2 ue_2 => ?_)
  have te_2 := congrArg Int32.toInt e_2
  refine lv_bipush (v := 30) hx hb dX4_isFull_4 (by decide) ?_
  refine b_icmp_lt (tgt := 13) hx hb dX4_isFull_6 (by decide) (fun c_3 => ?_) (fun c_3 => ?_)
  ·
    refine lv_iconst (v := 0) hx hb dX4_isFull_13 (by decide) ?_
    exact hret (by omega) (by omega) (⟨rfl, rfl, ⟨⟨by omega, by omega⟩, by omega⟩⟩) hU hS dX4_isFull_14
  ·
    refine lv_iconst (v := 1) hx hb dX4_isFull_9 (by decide) ?_
    refine lv_goto (tgt := 14) hx hb dX4_isFull_10 (by decide) ?_
    exact hret (by omega) (by omega) (⟨rfl, rfl, ⟨⟨by omega, by omega⟩, by omega⟩⟩) hU hS dX4_isFull_14
set_option maxHeartbeats 4000000 in
set_option maxRecDepth 100000 in
theorem c_X4_isFullOfExcuses {l : Launch} {D : va_G} {cA : FieldType → ClassId} {sz : Nat} {al : Al} {iv : Iv} {rv : Rv} (hG : GI al iv rv) : Met l yX4_isFullOfExcuses (wd yX4_isFullOfExcuses cX4_isFullOfExcuses 1 (some .boolean)) (rm 0) (PcW D cA sz al iv rv [.ref (al.2 68 0)]) (QI D cA sz al (pI iv rv (fun r => (0 ≤ r.toInt ∧ r.toInt ≤ 1) ∧ (((40 ≤ (iv 68 0 11).toInt) ∧ r.toInt = 1) ∨ ((iv 68 0 11).toInt < 40 ∧ r.toInt = 0))))) 0 0 (Aq sz) := by
  refine mk_z (by decide) (Nat.le_of_ble_eq_true rfl) rfl ?_
  intro p e s m args below meth c ls Q H locs C hU hS hl hret
  have hx := C.1.1
  have hb := C.1.2.1
  have hl : lv_has ls 1 [(0, .ref (al.2 68 0))] := hl
  have hG0 := hG
  have k0 : (0 : Int32).toInt = 0 := by decide
  have k1 : (1 : Int32).toInt = 1 := by decide
  have k40 : (40 : Int32).toInt = 40 := by decide
  refine lv_aload_n hx hb dX4_isFullOfExcuses_0 rfl (lv_at hl 0 rfl) ?_
  refine g_68_11 C hU hG (h1_68 hG) fl_X4_47 dX4_isFullOfExcuses_1 (fun x_1 e_2 le_2 ue_2 => ?_)
  have te_2 := congrArg Int32.toInt e_2
  refine lv_bipush (v := 40) hx hb dX4_isFullOfExcuses_4 (by decide) ?_
  refine b_icmp_lt (tgt := 13) hx hb dX4_isFullOfExcuses_6 (by decide) (fun c_3 => ?_) (fun c_3 => ?_)
  ·
    refine lv_iconst (v := 0) hx hb dX4_isFullOfExcuses_13 (by decide) ?_
    exact hret (by omega) (by omega) (⟨rfl, rfl, ⟨⟨by omega, by omega⟩, by omega⟩⟩) hU hS dX4_isFullOfExcuses_14
  ·
    refine lv_iconst (v := 1) hx hb dX4_isFullOfExcuses_9 (by decide) ?_
    refine lv_goto (tgt := 14) hx hb dX4_isFullOfExcuses_10 (by decide) ?_
    exact hret (by omega) (by omega) (⟨rfl, rfl, ⟨⟨by omega, by omega⟩, by omega⟩⟩) hU hS dX4_isFullOfExcuses_14
set_option maxHeartbeats 4000000 in
set_option maxRecDepth 100000 in
theorem c_X0_isFull {l : Launch} {D : va_G} {cA : FieldType → ClassId} {sz : Nat} {al : Al} {iv : Iv} {rv : Rv} (hG : GI al iv rv) : Met l yX0_isFull (wd yX0_isFull cX0_isFull 1 (some .boolean)) (rm 0) (PcW D cA sz al iv rv [.ref (al.2 79 0)]) (QI D cA sz al (pI iv rv (fun r => (0 ≤ r.toInt ∧ r.toInt ≤ 1) ∧ (((20 ≤ (iv 79 0 4).toInt) ∧ r.toInt = 1) ∨ ((iv 79 0 4).toInt < 20 ∧ r.toInt = 0))))) 0 0 (Aq sz) := by
  refine mk_z (by decide) (Nat.le_of_ble_eq_true rfl) rfl ?_
  intro p e s m args below meth c ls Q H locs C hU hS hl hret
  have hx := C.1.1
  have hb := C.1.2.1
  have hl : lv_has ls 1 [(0, .ref (al.2 79 0))] := hl
  have hG0 := hG
  have k0 : (0 : Int32).toInt = 0 := by decide
  have k1 : (1 : Int32).toInt = 1 := by decide
  have k20 : (20 : Int32).toInt = 20 := by decide
  refine lv_aload_n hx hb dX0_isFull_0 rfl (lv_at hl 0 rfl) ?_
  refine g_79_4 C hU hG (h1_79 hG) fl_X0_30 dX0_isFull_1 (fun x_1 e_2 le_2 ue_2 => ?_)
  have te_2 := congrArg Int32.toInt e_2
  refine lv_bipush (v := 20) hx hb dX0_isFull_4 (by decide) ?_
  refine b_icmp_lt (tgt := 13) hx hb dX0_isFull_6 (by decide) (fun c_3 => ?_) (fun c_3 => ?_)
  ·
    refine lv_iconst (v := 0) hx hb dX0_isFull_13 (by decide) ?_
    exact hret (by omega) (by omega) (⟨rfl, rfl, ⟨⟨by omega, by omega⟩, by omega⟩⟩) hU hS dX0_isFull_14
  ·
    refine lv_iconst (v := 1) hx hb dX0_isFull_9 (by decide) ?_
    refine lv_goto (tgt := 14) hx hb dX0_isFull_10 (by decide) ?_
    exact hret (by omega) (by omega) (⟨rfl, rfl, ⟨⟨by omega, by omega⟩, by omega⟩⟩) hU hS dX0_isFull_14
set_option maxHeartbeats 4000000 in
set_option maxRecDepth 100000 in
theorem c_X1_isFull {l : Launch} {D : va_G} {cA : FieldType → ClassId} {sz : Nat} {al : Al} {iv : Iv} {rv : Rv} (hG : GI al iv rv) : Met l yX1_isFull (wd yX1_isFull cX1_isFull 1 (some .boolean)) (rm 0) (PcW D cA sz al iv rv [.ref (al.2 90 0)]) (QI D cA sz al (pI iv rv (fun r => (0 ≤ r.toInt ∧ r.toInt ≤ 1) ∧ (((40 ≤ (iv 90 0 6).toInt) ∧ r.toInt = 1) ∨ ((iv 90 0 6).toInt < 40 ∧ r.toInt = 0))))) 0 0 (Aq sz) := by
  refine mk_z (by decide) (Nat.le_of_ble_eq_true rfl) rfl ?_
  intro p e s m args below meth c ls Q H locs C hU hS hl hret
  have hx := C.1.1
  have hb := C.1.2.1
  have hl : lv_has ls 1 [(0, .ref (al.2 90 0))] := hl
  have hG0 := hG
  have k0 : (0 : Int32).toInt = 0 := by decide
  have k1 : (1 : Int32).toInt = 1 := by decide
  have k40 : (40 : Int32).toInt = 40 := by decide
  refine lv_aload_n hx hb dX1_isFull_0 rfl (lv_at hl 0 rfl) ?_
  refine g_90_6 C hU hG (h1_90 hG) fl_X1_34 dX1_isFull_1 (fun x_1 e_2 le_2 ue_2 => ?_)
  have te_2 := congrArg Int32.toInt e_2
  refine lv_bipush (v := 40) hx hb dX1_isFull_4 (by decide) ?_
  refine b_icmp_lt (tgt := 13) hx hb dX1_isFull_6 (by decide) (fun c_3 => ?_) (fun c_3 => ?_)
  ·
    refine lv_iconst (v := 0) hx hb dX1_isFull_13 (by decide) ?_
    exact hret (by omega) (by omega) (⟨rfl, rfl, ⟨⟨by omega, by omega⟩, by omega⟩⟩) hU hS dX1_isFull_14
  ·
    refine lv_iconst (v := 1) hx hb dX1_isFull_9 (by decide) ?_
    refine lv_goto (tgt := 14) hx hb dX1_isFull_10 (by decide) ?_
    exact hret (by omega) (by omega) (⟨rfl, rfl, ⟨⟨by omega, by omega⟩, by omega⟩⟩) hU hS dX1_isFull_14
set_option maxHeartbeats 4000000 in
set_option maxRecDepth 100000 in
theorem c_X8_isFull {l : Launch} {D : va_G} {cA : FieldType → ClassId} {sz : Nat} {al : Al} {iv : Iv} {rv : Rv} (hG : GI al iv rv) (ti : Nat) (hti : ti < al.1 65) : Met l yX8_isFull (wd yX8_isFull cX8_isFull 1 (some .boolean)) (rm 0) (PcW D cA sz al iv rv [.ref (al.2 65 ti)]) (QI D cA sz al (pI iv rv (fun r => (0 ≤ r.toInt ∧ r.toInt ≤ 1) ∧ (((4 ≤ (iv 65 ti 4).toInt) ∧ r.toInt = 1) ∨ ((iv 65 ti 4).toInt < 4 ∧ r.toInt = 0))))) 0 0 (Aq sz) := by
  refine mk_z (by decide) (Nat.le_of_ble_eq_true rfl) rfl ?_
  intro p e s m args below meth c ls Q H locs C hU hS hl hret
  have hx := C.1.1
  have hb := C.1.2.1
  have hl : lv_has ls 1 [(0, .ref (al.2 65 ti))] := hl
  have hG0 := hG
  have k0 : (0 : Int32).toInt = 0 := by decide
  have k1 : (1 : Int32).toInt = 1 := by decide
  have k4 : (4 : Int32).toInt = 4 := by decide
  refine lv_aload_n hx hb dX8_isFull_0 rfl (lv_at hl 0 rfl) ?_
  refine g_65_4 C hU hG hti fl_X8_28 dX8_isFull_1 (fun x_1 e_2 le_2 ue_2 => ?_)
  have te_2 := congrArg Int32.toInt e_2
  refine lv_iconst (v := 4) hx hb dX8_isFull_4 (by decide) ?_
  refine b_icmp_lt (tgt := 12) hx hb dX8_isFull_5 (by decide) (fun c_3 => ?_) (fun c_3 => ?_)
  ·
    refine lv_iconst (v := 0) hx hb dX8_isFull_12 (by decide) ?_
    exact hret (by omega) (by omega) (⟨rfl, rfl, ⟨⟨by omega, by omega⟩, by omega⟩⟩) hU hS dX8_isFull_13
  ·
    refine lv_iconst (v := 1) hx hb dX8_isFull_8 (by decide) ?_
    refine lv_goto (tgt := 13) hx hb dX8_isFull_9 (by decide) ?_
    exact hret (by omega) (by omega) (⟨rfl, rfl, ⟨⟨by omega, by omega⟩, by omega⟩⟩) hU hS dX8_isFull_13
