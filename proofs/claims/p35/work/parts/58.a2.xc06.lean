set_option maxHeartbeats 4000000 in
set_option maxRecDepth 100000 in
theorem c_X10_greatestCause_x {l : Launch} {D : va_G} {cA : FieldType → ClassId} {sz : Nat} {al : Al} {iv : Iv} {rv : Rv} (hG : GI al iv rv) : Met l yX10_greatestCause (wd yX10_greatestCause cX10_greatestCause 3 (some .int)) (rm 0) (PcW D cA sz al iv rv [.ref (al.2 57 0)]) (QI D cA sz al (pI iv rv (fun r => (0 ≤ r.toInt ∧ r.toInt ≤ 5) ∧ (r = gcN (fun k => iv 59 0 k) 5)))) 0 0 (Aq sz) := by
  refine mk_i (by decide) (Nat.le_of_ble_eq_true rfl) rfl ?_
  intro p e s m args below meth c ls Q H locs C hU hS hl hret
  have hx := C.1.1
  have hb := C.1.2.1
  have hl : lv_has ls 3 [(0, .ref (al.2 57 0))] := hl
  have hG0 := hG
  have k0 : (0 : Int32).toInt = 0 := by decide
  have k1 : (1 : Int32).toInt = 1 := by decide
  have k6 : (6 : Int32).toInt = 6 := by decide
  refine lv_iconst (v := 0) hx hb dX10_greatestCause_0 (by decide) ?_
  refine lv_istore_n (lv' := [(1, .int 0), (0, .ref (al.2 57 0))]) hx hb dX10_greatestCause_1 rfl hl (by decide) rfl (fun ls hl => ?_)
  refine lv_iconst (v := 1) hx hb dX10_greatestCause_2 (by decide) ?_
  refine lv_istore_n (lv' := [(2, .int 1), (1, .int 0), (0, .ref (al.2 57 0))]) hx hb dX10_greatestCause_3 rfl hl (by decide) rfl (fun ls hl => ?_)
  have J_4 : ∀ (n_4 : Nat) (l1_1 : Int32) (l2_2 : Int32) (ls : Array Slot), lv_has ls 3 [(0, .ref (al.2 57 0)), (1, .int l1_1), (2, .int l2_2)] → (0 ≤ l1_1.toInt ∧ l1_1.toInt ≤ 5) → (1 ≤ l2_2.toInt ∧ l2_2.toInt ≤ 6) → l1_1 = gcN (fun k => iv 59 0 k) (l2_2.toNatClampNeg - 1) → (6 - l2_2.toInt).toNat < n_4 → W p l e (rm 0) s m args below meth c H locs 0 0 Q (F0 m 4 ls []) := by
    intro n_4
    induction n_4 with
    | zero =>
      intro l1_1 l2_2 ls hl i4_0 i4_1 i4_2 hm_4
      exact absurd hm_4 (Nat.not_lt_zero _)
    | succ n_4 ih_4 =>
      intro l1_1 l2_2 ls hl i4_0 i4_1 i4_2 hm_4
      refine lv_iload_n hx hb dX10_greatestCause_4 rfl (lv_at hl 2 rfl) ?_
      refine lv_bipush (v := 6) hx hb dX10_greatestCause_5 (by decide) ?_
      refine b_icmp_ge (tgt := 33) hx hb dX10_greatestCause_7 (by decide) (fun c_3 => ?_) (fun c_3 => ?_)
      ·
        refine lv_iload_n hx hb dX10_greatestCause_33 rfl (lv_at hl 1 rfl) ?_
        exact hret (⟨rfl, rfl, ⟨⟨by omega, by omega⟩, by rw [i4_2, gc_end (by omega)]⟩⟩) hU hS dX10_greatestCause_34
      ·
        refine lv_aload_n hx hb dX10_greatestCause_10 rfl (lv_at hl 0 rfl) ?_
        refine g_57_2 C hU hG (h1_57 hG) fl_X10_17 dX10_greatestCause_11 ?_
        refine lv_iload_n hx hb dX10_greatestCause_14 rfl (lv_at hl 2 rfl) ?_
        refine a_59 C hU hG (h1_59 hG) (x := l2_2) (by omega) (by omega) dX10_greatestCause_15 (fun x_4 e_5 => ?_)
        have te_5 := congrArg Int32.toInt e_5
        refine lv_aload_n hx hb dX10_greatestCause_16 rfl (lv_at hl 0 rfl) ?_
        refine g_57_2 C hU hG (h1_57 hG) fl_X10_17 dX10_greatestCause_17 ?_
        refine lv_iload_n hx hb dX10_greatestCause_20 rfl (lv_at hl 1 rfl) ?_
        refine a_59 C hU hG (h1_59 hG) (x := l1_1) (by omega) (by omega) dX10_greatestCause_21 (fun x_6 e_7 => ?_)
        have te_7 := congrArg Int32.toInt e_7
        have J_27 : ∀ (l1_8 : Int32) (ls : Array Slot), lv_has ls 3 [(0, .ref (al.2 57 0)), (2, .int l2_2), (1, .int l1_8)] → (0 ≤ l1_8.toInt ∧ l1_8.toInt ≤ 5) → l1_8 = gcN (fun k => iv 59 0 k) l2_2.toNatClampNeg → W p l e (rm 0) s m args below meth c H locs 0 0 Q (F0 m 27 ls []) := by
          intro l1_8 ls hl i27_0 i27_1
          obtain ⟨x_9, e_10⟩ : ∃ y : Int32, y = l2_2 + 1 := ⟨_, rfl⟩
          have te_10 : x_9.toInt = (l2_2 : Int32).toInt + (1 : Int32).toInt := by rw [e_10]; exact fb_addI (by omega) (by omega)
          refine lv_iinc (v := x_9) (lv' := [(2, .int x_9), (0, .ref (al.2 57 0)), (1, .int l1_8)]) hx hb dX10_greatestCause_27 hl (k := 1) rfl (by rw [e_10]; rfl) (by decide) rfl (fun ls hl => ?_)
          refine lv_goto (tgt := 4) hx hb dX10_greatestCause_30 (by decide) ?_
          exact ih_4 l1_8 x_9 _ (lv_sub hl [1, 2, 0] rfl) (by omega) (by omega) (by first | exact gc_up (by omega) (by omega) i27_1 | exact gc_0) (by omega)
        refine b_icmp_le (tgt := 27) hx hb dX10_greatestCause_22 (by decide) (fun c_11 => ?_) (fun c_11 => ?_)
        ·
          exact J_27 l1_1 _ (lv_sub hl [0, 2, 1] rfl) (by omega) (by first | exact gc_y i4_2 e_5 e_7 (by omega) (by omega) (by omega) | exact gc_n i4_2 e_5 e_7 (by omega) (by omega) (by omega))
        ·
          refine lv_iload_n hx hb dX10_greatestCause_25 rfl (lv_at hl 2 rfl) ?_
          refine lv_istore_n (lv' := [(1, .int l2_2), (0, .ref (al.2 57 0)), (2, .int l2_2)]) hx hb dX10_greatestCause_26 rfl hl (by decide) rfl (fun ls hl => ?_)
          exact J_27 l2_2 _ (lv_sub hl [1, 2, 0] rfl) (by omega) (by first | exact gc_y i4_2 e_5 e_7 (by omega) (by omega) (by omega) | exact gc_n i4_2 e_5 e_7 (by omega) (by omega) (by omega))
  exact J_4 _ 0 1 _ (lv_sub hl [2, 1, 0] rfl) (by omega) (by omega) (by first | exact gc_up (by omega) (by omega) i27_1 | exact gc_0) (Nat.lt_succ_self _)
set_option maxHeartbeats 4000000 in
set_option maxRecDepth 100000 in
theorem c_X11_blameOf_x {l : Launch} {D : va_G} {cA : FieldType → ClassId} {sz : Nat} {al : Al} {iv : Iv} {rv : Rv} (hG : GI al iv rv) (ti : Nat) (hti : ti < al.1 65) (pre0 : BB iv rv) : Met l yX11_blameOf (wd yX11_blameOf cX11_blameOf 3 (some .int)) (rm 3) (PcW D cA sz al iv rv [.ref (al.2 49 0), .ref (al.2 65 ti)]) (QI D cA sz al (fI al ([59], []) iv rv (fun r iv' rv' => r = blF iv ti))) 0 0 (Aq sz) := by
  refine mk_i (by decide) (Nat.le_of_ble_eq_true rfl) rfl ?_
  intro p e s m args below meth c ls Q H locs C hU hS hl hret
  have hx := C.1.1
  have hb := C.1.2.1
  have hl : lv_has ls 3 [(0, .ref (al.2 49 0)), (1, .ref (al.2 65 ti))] := hl
  have hG0 := hG
  have hF1 : FR ([59], []) iv iv := FR.rf
  have hF2 : FR ([59], []) rv rv := FR.rf
  have km9 : ((-9) : Int32).toInt = -9 := by decide
  have k0 : (0 : Int32).toInt = 0 := by decide
  have k1 : (1 : Int32).toInt = 1 := by decide
  have k2 : (2 : Int32).toInt = 2 := by decide
  refine lv_aload_n hx hb dX11_blameOf_0 rfl (lv_at hl 1 rfl) ?_
  refine lv_aload_n hx hb dX11_blameOf_1 rfl (lv_at hl 0 rfl) ?_
  refine g_49_7 C hU hG (h1_49 hG) fl_X11_67 dX11_blameOf_2 ?_
  refine lv_iconst (v := 2) hx hb dX11_blameOf_5 (by decide) ?_
  refine a_50 C hU hG (h1_50 hG) (x := 2) (by omega) (by omega) dX11_blameOf_6 (fun x_1 e_2 le_2 ue_2 => ?_)
  have te_2 := congrArg Int32.toInt e_2
  refine q_pr (q_runV (t := 65) (i := ti) (As := [.int x_1]) (rest := []) C hU (c_X8_legAtFault_x hG (ti) hti x_1 (bb_bm pre0) (by rw [e_2]; exact (pre0.1.1.1.2.2 2 (by decide)).symm)) vm_X8_legAtFault ml_X11_368 k_65.1 (hc := rfl) rfl hti hl.1 rfl rfl (Nat.le_of_ble_eq_true rfl) dX11_blameOf_7 rfl rfl ⟨Nat.le_of_ble_eq_true rfl, Nat.le_of_ble_eq_true rfl⟩ ⟨Nat.le_refl _, Nat.le_refl _⟩) hS (fun r_4 H locs hp_3 hU hS => ?_)
  obtain ⟨⟨j_5, ej_6, hb_7⟩, hp_3⟩ := hp_3
  subst ej_6
  refine lv_astore_n (lv' := [(2, .ref (al.2 62 j_5)), (0, .ref (al.2 49 0)), (1, .ref (al.2 65 ti))]) hx hb dX11_blameOf_10 rfl hl (by decide) rfl (fun ls hl => ?_)
  have hlf := Option.some.inj hp_3
  refine lv_aload_n hx hb dX11_blameOf_11 rfl (lv_at hl 0 rfl) ?_
  refine g_62_7 C hU hG hb_7 fl_X11_126 dX11_blameOf_12 (fun x_8 e_9 le_9 ue_9 => ?_)
  have te_9 := congrArg Int32.toInt e_9
  have hl7 := lg_done hG0 pre0.1.1 hb_7 hlf
  refine b_if_eq (tgt := 25) hx hb dX11_blameOf_15 (by decide) (fun c_10 => ?_) (fun c_10 => ?_)
  ·
    refine lv_bipush (v := (-9)) hx hb dX11_blameOf_25 (by decide) ?_
    exact hret (⟨hG, hF1, hF2, by unfold blF; rw [if_pos (by omega)]⟩) hU hS dX11_blameOf_27
  ·
    have hrt := rt_x hG0 pre0.1.1 hb_7 (by omega)
    refine lv_aload_n hx hb dX11_blameOf_18 rfl (lv_at hl 0 rfl) ?_
    refine g_62_13 C hU hG hb_7 fl_X11_145 dX11_blameOf_19 (fun x_11 e_12 => ?_)
    have te_12 := congrArg Int32.toInt e_12
    have h19 := e_12
    rw [hrt.2.2.2, hlf] at h19
    have t19 := congrArg Int32.toInt h19
    refine b_if_ne (tgt := 28) hx hb dX11_blameOf_22 (by decide) (fun c_13 => ?_) (fun c_13 => ?_)
    ·
      refine lv_aload_n hx hb dX11_blameOf_28 rfl (lv_at hl 1 rfl) ?_
      refine g_49_1 C hU hG (h1_49 hG) fl_X11_19 dX11_blameOf_29 ?_
      refine lv_aload_n hx hb dX11_blameOf_32 rfl (lv_at hl 0 rfl) ?_
      refine lv_aload_n hx hb dX11_blameOf_33 rfl (lv_at hl 1 rfl) ?_
      refine g_49_7 C hU hG (h1_49 hG) fl_X11_67 dX11_blameOf_34 ?_
      refine lv_iconst (v := 0) hx hb dX11_blameOf_37 (by decide) ?_
      refine a_50 C hU hG (h1_50 hG) (x := 0) (by omega) (by omega) dX11_blameOf_38 (fun x_14 e_15 le_15 ue_15 => ?_)
      have te_15 := congrArg Int32.toInt e_15
      refine lv_aload_n hx hb dX11_blameOf_39 rfl (lv_at hl 1 rfl) ?_
      refine g_49_7 C hU hG (h1_49 hG) fl_X11_67 dX11_blameOf_40 ?_
      refine lv_iconst (v := 1) hx hb dX11_blameOf_43 (by decide) ?_
      refine a_50 C hU hG (h1_50 hG) (x := 1) (by omega) (by omega) dX11_blameOf_44 (fun x_16 e_17 le_17 ue_17 => ?_)
      have te_17 := congrArg Int32.toInt e_17
      refine q_fv (q_runV (t := 57) (i := 0) (As := [.ref (al.2 62 j_5), .int x_14, .int x_16]) (rest := []) C hU (c_X10_trace_x hG (j_5) hb_7 x_14 x_16 (pre0.1) (by omega) (by rw [e_15]; exact (pre0.1.1.1.2.2 0 (by decide)).symm) (by rw [e_17]; exact (pre0.1.1.1.2.2 1 (by decide)).symm)) vm_X10_trace ml_X11_170 k_57.1 (hc := rfl) rfl (h1_57 hG) hl.1 rfl rfl (Nat.le_of_ble_eq_true rfl) dX11_blameOf_45 rfl rfl ⟨Nat.le_of_ble_eq_true rfl, Nat.le_of_ble_eq_true rfl⟩ ⟨Nat.le_refl _, Nat.le_refl _⟩) hS (fun iv_19 rv_20 H locs hG fa_21 fb_22 hp_18 hU hS => ?_)
      have hF1 := hF1.tr (m := ([59], [])) fa_21 (by decide)
      have hF2 := hF2.tr (m := ([59], [])) fb_22 (by decide)
      refine lv_aload_n hx hb dX11_blameOf_48 rfl (lv_at hl 1 rfl) ?_
      refine g_49_1 C hU hG (h1_49 hG) fl_X11_19 dX11_blameOf_49 ?_
      refine q_pi (q_runV (t := 57) (i := 0) (As := []) (rest := []) C hU (c_X10_greatestCause_x hG  ) vm_X10_greatestCause ml_X11_371 k_57.1 (hc := rfl) rfl (h1_57 hG) hl.1 rfl rfl (Nat.le_of_ble_eq_true rfl) dX11_blameOf_52 rfl rfl ⟨Nat.le_of_ble_eq_true rfl, Nat.le_of_ble_eq_true rfl⟩ ⟨Nat.le_refl _, Nat.le_refl _⟩) hS (fun x_24 H locs hp_23 hU hS => ?_)
      exact hret (⟨hG, hF1, hF2, by unfold blF; rw [if_neg (by omega), hp_23.2]; exact gc_cong (by rw [← hlf]; exact hp_18)⟩) hU hS dX11_blameOf_55
    ·
      refine lv_bipush (v := (-9)) hx hb dX11_blameOf_25 (by decide) ?_
      exact hret (⟨hG, hF1, hF2, by unfold blF; rw [if_pos (by omega)]⟩) hU hS dX11_blameOf_27
set_option maxHeartbeats 4000000 in
set_option maxRecDepth 100000 in
theorem c_X10_reach_x {l : Launch} {D : va_G} {cA : FieldType → ClassId} {sz : Nat} {al : Al} {iv : Iv} {rv : Rv} (hG : GI al iv rv) (fd : Int32) (pi : Nat) (hpi : pi < al.1 56) (time : Int32) (pre0 : 0 ≤ fd.toInt ∧ fd.toInt ≤ 40) (pre1 : ∀ k : Nat, (k : Int) < fd.toInt → ∃ j, rv 61 0 k = some j) (pre2 : BL iv rv) (pre3 : QU iv rv fd) : Met l yX10_reach (wd yX10_reach cX10_reach 7 (some .int)) (rm 0) (PcW D cA sz al iv rv [.ref (al.2 57 0), .int fd, .ref (al.2 56 pi), .int time]) (QI D cA sz al (fI al ([60, 61], []) iv rv (fun r iv' rv' => (0 ≤ r.toInt ∧ r.toInt ≤ 40) ∧ (fd.toInt ≤ r.toInt ∧ QU iv' rv' r ∧ (∀ j : Nat, (j : Int) < (iv 57 0 1).toInt → (¬ (iv' 60 0 j).toInt = 0 ↔ (¬ (iv 60 0 j).toInt = 0 ∨ S0 iv pi time.toInt j))) ∧ (∀ k : Nat, (k : Int) < fd.toInt → rv' 61 0 k = rv 61 0 k))))) 0 0 (Aq sz) := by
  refine mk_i (by decide) (Nat.le_of_ble_eq_true rfl) rfl ?_
  intro p e s m args below meth c ls Q H locs C hU hS hl hret
  have hx := C.1.1
  have hb := C.1.2.1
  have hl : lv_has ls 7 [(0, .ref (al.2 57 0)), (1, .int fd), (2, .ref (al.2 56 pi)), (3, .int time)] := hl
  have hG0 := hG
  have n57 : (iv 57 0 1).toInt = al.1 62 := hG.2.2.2.1.2
  have hF1 : FR ([60, 61], []) iv iv := FR.rf
  have hF2 : FR ([60, 61], []) rv rv := FR.rf
  have k0 : (0 : Int32).toInt = 0 := by decide
  have k1 : (1 : Int32).toInt = 1 := by decide
  have k40 : (40 : Int32).toInt = 40 := by decide
  refine lv_iload_n hx hb dX10_reach_0 rfl (lv_at hl 1 rfl) ?_
  refine lv_istore (lv' := [(4, .int fd), (0, .ref (al.2 57 0)), (1, .int fd), (2, .ref (al.2 56 pi)), (3, .int time)]) hx hb dX10_reach_1 hl (by decide) rfl (fun ls hl => ?_)
  refine lv_iconst (v := 0) hx hb dX10_reach_3 (by decide) ?_
  refine lv_istore (lv' := [(5, .int 0), (4, .int fd), (0, .ref (al.2 57 0)), (1, .int fd), (2, .ref (al.2 56 pi)), (3, .int time)]) hx hb dX10_reach_4 hl (by decide) rfl (fun ls hl => ?_)
  have J_6 : ∀ (n_6 : Nat) (l4_1 : Int32) (l5_2 : Int32) (iv_3 : Iv) (rv_4 : Rv) (H : Heap) (locs : List Loc) (ls : Array Slot), lv_has ls 7 [(0, .ref (al.2 57 0)), (2, .ref (al.2 56 pi)), (3, .int time), (4, .int l4_1), (5, .int l5_2)] → GI al iv_3 rv_4 → FR ([60, 61], []) iv iv_3 → FR ([60, 61], []) rv rv_4 → UW D cA sz al iv_3 rv_4 H → va_S (Aq sz) s.heap H locs → (0 ≤ l4_1.toInt ∧ l4_1.toInt ≤ 40) → (0 ≤ l5_2.toInt ∧ l5_2.toInt ≤ 40) → fd.toInt ≤ l4_1.toInt → (∀ k : Nat, (k : Int) < l4_1.toInt → ∃ j, rv_4 61 0 k = some j) → RI iv rv iv_3 rv_4 fd pi time.toInt l4_1 l5_2.toNatClampNeg → (40 - l5_2.toInt).toNat < n_6 → W p l e (rm 0) s m args below meth c H locs 0 0 Q (F0 m 6 ls []) := by
    intro n_6
    induction n_6 with
    | zero =>
      intro l4_1 l5_2 iv_3 rv_4 H locs ls hl hG hF1 hF2 hU hS i6_0 i6_1 i6_2 i6_3 i6_4 hm_6
      exact absurd hm_6 (Nat.not_lt_zero _)
    | succ n_6 ih_6 =>
      intro l4_1 l5_2 iv_3 rv_4 H locs ls hl hG hF1 hF2 hU hS i6_0 i6_1 i6_2 i6_3 i6_4 hm_6
      refine lv_iload hx hb dX10_reach_6 (lv_at hl 4 rfl) ?_
      refine lv_aload_n hx hb dX10_reach_8 rfl (lv_at hl 0 rfl) ?_
      refine g_57_1 C hU hG (h1_57 hG) fl_X10_28 dX10_reach_9 (fun x_5 e_6 le_6 ue_6 => ?_)
      have te_6 := congrArg Int32.toInt e_6
      have ne_6 : x_5.toInt = (iv 57 0 1).toInt := by rw [e_6, hF1 57 0 1 (by decide)]
      refine b_icmp_ge (tgt := 96) hx hb dX10_reach_12 (by decide) (fun c_7 => ?_) (fun c_7 => ?_)
      ·
        refine lv_iload hx hb dX10_reach_96 (lv_at hl 3 rfl) ?_
        exact hret (⟨hG, hF1, hF2, ⟨⟨by omega, by omega⟩, ⟨by omega, by first | exact ri_end i6_4 (by omega) | exact ri_full hG0 i6_4 (by omega) (by omega)⟩⟩⟩) hU hS dX10_reach_98
      ·
        refine lv_iload hx hb dX10_reach_15 (lv_at hl 3 rfl) ?_
        refine lv_bipush (v := 40) hx hb dX10_reach_17 (by decide) ?_
        refine b_icmp_ge (tgt := 96) hx hb dX10_reach_19 (by decide) (fun c_8 => ?_) (fun c_8 => ?_)
        ·
          refine lv_iload hx hb dX10_reach_96 (lv_at hl 3 rfl) ?_
          exact hret (⟨hG, hF1, hF2, ⟨⟨by omega, by omega⟩, ⟨by omega, by first | exact ri_end i6_4 (by omega) | exact ri_full hG0 i6_4 (by omega) (by omega)⟩⟩⟩) hU hS dX10_reach_98
        ·
          refine lv_aload_n hx hb dX10_reach_22 rfl (lv_at hl 0 rfl) ?_
          refine g_57_0 C hU hG (h1_57 hG) fl_X10_13 dX10_reach_23 ?_
          refine lv_iload hx hb dX10_reach_26 (lv_at hl 4 rfl) ?_
          refine a_58 C hU hG (h1_58 hG) (x := l5_2) (by omega) (by omega) dX10_reach_28 (fun r_9 er_10 hb_11 => ?_)
          have ner_10 : r_9 = rv 58 0 (l5_2 : Int32).toNatClampNeg := by rw [er_10, hF2.arr 58 0 _ (by decide)]
          obtain ⟨j_12, ej_13⟩ : ∃ j, r_9 = some j := ⟨_, er_10.trans (tall hG (by omega) (by omega))⟩
          subst ej_13
          have hl : lv_has ls 7 [(0, .ref (al.2 57 0)), (2, .ref (al.2 56 pi)), (3, .int time), (4, .int l4_1), (5, .int l5_2)] := hl
          have hb_14 : j_12 < al.1 62 := hb_11 j_12 rfl
          refine lv_astore (lv' := [(6, .ref (al.2 62 j_12)), (0, .ref (al.2 57 0)), (2, .ref (al.2 56 pi)), (3, .int time), (4, .int l4_1), (5, .int l5_2)]) hx hb dX10_reach_29 hl (by decide) rfl (fun ls hl => ?_)
          have hj6 := tix hG er_10 (by omega) (by omega)
          have hl11 := rc_11 hG0 pre2 hb_14 hj6
          refine lv_aload_n hx hb dX10_reach_31 rfl (lv_at hl 1 rfl) ?_
          refine g_57_3 C hU hG (h1_57 hG) fl_X10_21 dX10_reach_32 ?_
          refine lv_iload hx hb dX10_reach_35 (lv_at hl 5 rfl) ?_
          refine a_60 C hU hG (h1_60 hG) (x := l5_2) (by omega) (by omega) dX10_reach_37 (fun x_15 e_16 le_16 ue_16 => ?_)
          have te_16 := congrArg Int32.toInt e_16
          have J_90 : ∀ (l4_17 : Int32) (iv_18 : Iv) (rv_19 : Rv) (H : Heap) (locs : List Loc) (ls : Array Slot), lv_has ls 7 [(0, .ref (al.2 57 0)), (2, .ref (al.2 56 pi)), (3, .int time), (5, .int l5_2), (4, .int l4_17)] → GI al iv_18 rv_19 → FR ([60, 61], []) iv iv_18 → FR ([60, 61], []) rv rv_19 → UW D cA sz al iv_18 rv_19 H → va_S (Aq sz) s.heap H locs → (0 ≤ l4_17.toInt ∧ l4_17.toInt ≤ 40) → fd.toInt ≤ l4_17.toInt → (∀ k : Nat, (k : Int) < l4_17.toInt → ∃ j, rv_19 61 0 k = some j) → RI iv rv iv_18 rv_19 fd pi time.toInt l4_17 (l5_2.toNatClampNeg + 1) → W p l e (rm 0) s m args below meth c H locs 0 0 Q (F0 m 90 ls []) := by
            intro l4_17 iv_18 rv_19 H locs ls hl hG hF1 hF2 hU hS i90_0 i90_1 i90_2 i90_3
            obtain ⟨x_20, e_21⟩ : ∃ y : Int32, y = l5_2 + 1 := ⟨_, rfl⟩
            have te_21 : x_20.toInt = (l5_2 : Int32).toInt + (1 : Int32).toInt := by rw [e_21]; exact fb_addI (by omega) (by omega)
            refine lv_iinc (v := x_20) (lv' := [(5, .int x_20), (0, .ref (al.2 57 0)), (2, .ref (al.2 56 pi)), (3, .int time), (4, .int l4_17)]) hx hb dX10_reach_90 hl (k := 3) rfl (by rw [e_21]; rfl) (by decide) rfl (fun ls hl => ?_)
            refine lv_goto (tgt := 6) hx hb dX10_reach_93 (by decide) ?_
            exact ih_6 l4_17 x_20 _ _ _ _ _ (lv_sub hl [1, 2, 3, 4, 0] rfl) hG hF1 hF2 hU hS (by omega) (by omega) (by omega) (by first | exact pre1 | exact i90_2) (by first | exact ri_up (by omega) (by omega) i90_3 | exact ri_0 pre3) (by omega)
          refine b_if_ne (tgt := 90) hx hb dX10_reach_38 (by decide) (fun c_22 => ?_) (fun c_22 => ?_)
          ·
            exact J_90 l4_1 _ _ _ _ _ (lv_sub hl [1, 2, 3, 5, 4] rfl) hG hF1 hF2 hU hS (by omega) (by omega) (by first | exact i6_3 | exact nn_put i6_3 True.intro (by omega) (by omega)) (by first | exact ri_put i6_4 True.intro True.intro hj6 (by omega) (by omega) (by omega) (by omega) ⟨by omega, by omega, by omega⟩ (by omega) | exact ri_keep i6_4 (by omega) (by omega) (by omega))
          ·
            refine lv_aload hx hb dX10_reach_41 (lv_at hl 0 rfl) ?_
            refine g_62_7 C hU hG hb_14 fl_X10_39 dX10_reach_43 (fun x_23 e_24 le_24 ue_24 => ?_)
            have te_24 := congrArg Int32.toInt e_24
            have ne_24 : x_23.toInt = (iv 62 j_12 7).toInt := by rw [e_24, hF1 62 j_12 7 (by decide)]
            refine b_if_eq (tgt := 90) hx hb dX10_reach_46 (by decide) (fun c_25 => ?_) (fun c_25 => ?_)
            ·
              exact J_90 l4_1 _ _ _ _ _ (lv_sub hl [1, 2, 3, 5, 4] rfl) hG hF1 hF2 hU hS (by omega) (by omega) (by first | exact i6_3 | exact nn_put i6_3 True.intro (by omega) (by omega)) (by first | exact ri_put i6_4 True.intro True.intro hj6 (by omega) (by omega) (by omega) (by omega) ⟨by omega, by omega, by omega⟩ (by omega) | exact ri_keep i6_4 (by omega) (by omega) (by omega))
            ·
              refine lv_aload hx hb dX10_reach_49 (lv_at hl 0 rfl) ?_
              refine g_62_1 C hU hG hb_14 fl_X10_56 dX10_reach_51 (fun j_26 ej_27 hb_28 => ?_)
              have nej_27 : rv 62 j_12 1 = some j_26 := (hF2 62 j_12 1 (by decide)).symm.trans ej_27
              have hp5 := rc_5 hG0 pre2 hb_14 hj6 nej_27
              refine lv_aload_n hx hb dX10_reach_54 rfl (lv_at hl 2 rfl) ?_
              refine b_acmp_ne (tgt := 90) hx hb hU hb_28 hpi dX10_reach_55 (by decide) (fun c_29 => ?_) (fun c_29 => ?_)
              ·
                exact J_90 l4_1 _ _ _ _ _ (lv_sub hl [1, 2, 3, 5, 4] rfl) hG hF1 hF2 hU hS (by omega) (by omega) (by first | exact i6_3 | exact nn_put i6_3 True.intro (by omega) (by omega)) (by first | exact ri_put i6_4 True.intro True.intro hj6 (by omega) (by omega) (by omega) (by omega) ⟨by omega, by omega, by omega⟩ (by omega) | exact ri_keep i6_4 (by omega) (by omega) (by omega))
              ·
                refine lv_aload hx hb dX10_reach_58 (lv_at hl 0 rfl) ?_
                refine g_62_10 C hU hG hb_14 fl_X10_101 dX10_reach_60 (fun x_30 e_31 => ?_)
                have te_31 := congrArg Int32.toInt e_31
                have ne_31 : x_30.toInt = (iv 62 j_12 10).toInt := by rw [e_31, hF1 62 j_12 10 (by decide)]
                have h60 := rc_60 hG0 pre2 hb_14 hj6 hF1 e_31 (by omega)
                refine lv_iload_n hx hb dX10_reach_63 rfl (lv_at hl 3 rfl) ?_
                refine b_icmp_ge (tgt := 70) hx hb dX10_reach_64 (by decide) (fun c_32 => ?_) (fun c_32 => ?_)
                ·
                  refine lv_aload_n hx hb dX10_reach_70 rfl (lv_at hl 1 rfl) ?_
                  refine g_57_3 C hU hG (h1_57 hG) fl_X10_21 dX10_reach_71 ?_
                  refine lv_iload hx hb dX10_reach_74 (lv_at hl 5 rfl) ?_
                  refine lv_iconst (v := 1) hx hb dX10_reach_76 (by decide) ?_
                  have hFb := hF1
                  have ivb := i6_4
                  refine s_60 C hU hS (h1_60 hG) (x := l5_2) (by omega) (by omega) (by omega) (by omega) dX10_reach_77 (fun iv_33 H locs ei_34 hU hS => ?_)
                  have hG : GI al iv_33 rv_4 := by rw [ei_34]; exact hG.puti (show _ ∧ _ from ⟨show (0 : Int) ≤ _ by omega, show _ ≤ (1 : Int) by omega⟩) (nsA (by decide) _)
                  have hF1 : FR ([60, 61], []) iv iv_33 := by rw [ei_34]; exact hF1.put (Or.inl (by decide))
                  refine lv_aload_n hx hb dX10_reach_78 rfl (lv_at hl 1 rfl) ?_
                  refine g_57_4 C hU hG (h1_57 hG) fl_X10_25 dX10_reach_79 ?_
                  refine lv_iload hx hb dX10_reach_82 (lv_at hl 4 rfl) ?_
                  refine lv_aload hx hb dX10_reach_84 (lv_at hl 0 rfl) ?_
                  refine s_61 C hU hS (h1_61 hG) hb_14 (x := l4_1) (by omega) (by omega) dX10_reach_86 (fun rv_35 H locs er_36 hU hS => ?_)
                  have hG : GI al iv_33 rv_35 := by rw [er_36]; exact hG.putr rfl hb_14 (nsA (by decide) _)
                  have hF2 : FR ([60, 61], []) rv rv_35 := by rw [er_36]; exact hF2.put (Or.inl (by decide))
                  obtain ⟨x_37, e_38⟩ : ∃ y : Int32, y = l4_1 + 1 := ⟨_, rfl⟩
                  have te_38 : x_37.toInt = (l4_1 : Int32).toInt + (1 : Int32).toInt := by rw [e_38]; exact fb_addI (by omega) (by omega)
                  refine lv_iinc (v := x_37) (lv' := [(4, .int x_37), (6, .ref (al.2 62 j_12)), (0, .ref (al.2 57 0)), (2, .ref (al.2 56 pi)), (3, .int time), (5, .int l5_2)]) hx hb dX10_reach_87 hl (k := 4) rfl (by rw [e_38]; rfl) (by decide) rfl (fun ls hl => ?_)
                  exact J_90 x_37 _ _ _ _ _ (lv_sub hl [2, 3, 4, 5, 0] rfl) hG hF1 hF2 hU hS (by omega) (by omega) (by first | exact i6_3 | exact nn_put i6_3 er_36 (by omega) (by omega)) (by first | exact ri_put i6_4 ei_34 er_36 hj6 (by omega) (by omega) (by omega) (by omega) ⟨by omega, by omega, by omega⟩ (by omega) | exact ri_keep i6_4 (by omega) (by omega) (by omega))
                ·
                  refine lv_goto (tgt := 90) hx hb dX10_reach_67 (by decide) ?_
                  exact J_90 l4_1 _ _ _ _ _ (lv_sub hl [1, 2, 3, 5, 4] rfl) hG hF1 hF2 hU hS (by omega) (by omega) (by first | exact i6_3 | exact nn_put i6_3 True.intro (by omega) (by omega)) (by first | exact ri_put i6_4 True.intro True.intro hj6 (by omega) (by omega) (by omega) (by omega) ⟨by omega, by omega, by omega⟩ (by omega) | exact ri_keep i6_4 (by omega) (by omega) (by omega))
  exact J_6 _ fd 0 _ _ _ _ _ (lv_sub hl [2, 4, 5, 1, 0] rfl) hG hF1 hF2 hU hS (by omega) (by omega) (by omega) (by first | exact pre1 | exact i90_2) (by first | exact ri_up (by omega) (by omega) i90_3 | exact ri_0 pre3) (Nat.lt_succ_self _)
set_option maxHeartbeats 4000000 in
set_option maxRecDepth 100000 in
theorem c_X10_soonestBy_x {l : Launch} {D : va_G} {cA : FieldType → ClassId} {sz : Nat} {al : Al} {iv : Iv} {rv : Rv} (hG : GI al iv rv) (pi : Nat) (hpi : pi < al.1 56) (time : Int32) (pj : Nat) (hpj : pj < al.1 56) (conn : Int32) (pre0 : BL iv rv) (pre1 : Coff iv rv) (pre2 : conn = iv 15 0 2) : Met l yX10_soonestBy (wd yX10_soonestBy cX10_soonestBy 9 (some .int)) (rm 1) (PcW D cA sz al iv rv [.ref (al.2 57 0), .ref (al.2 56 pi), .int time, .ref (al.2 56 pj), .int conn]) (QI D cA sz al (fI al ([60, 61], []) iv rv (fun r iv' rv' => r = sbN iv (Rch iv pi time.toInt) pj (iv 0 0 6).toNatClampNeg))) 0 0 (Aq sz) := by
  refine mk_i (by decide) (Nat.le_of_ble_eq_true rfl) rfl ?_
  intro p e s m args below meth c ls Q H locs C hU hS hl hret
  have hx := C.1.1
  have hb := C.1.2.1
  have hl : lv_has ls 9 [(0, .ref (al.2 57 0)), (1, .ref (al.2 56 pi)), (2, .int time), (3, .ref (al.2 56 pj)), (4, .int conn)] := hl
  have hG0 := hG
  have n57 : (iv 57 0 1).toInt = al.1 62 := hG.2.2.2.1.2
  have hn6 := congrArg Int32.toInt pre0.1.1
  have tcon := congrArg Int32.toInt pre2
  have hF1 : FR ([60, 61], []) iv iv := FR.rf
  have hF2 : FR ([60, 61], []) rv rv := FR.rf
  have km9 : ((-9) : Int32).toInt = -9 := by decide
  have k0 : (0 : Int32).toInt = 0 := by decide
  have k1 : (1 : Int32).toInt = 1 := by decide
  have k40 : (40 : Int32).toInt = 40 := by decide
  refine lv_iconst (v := 0) hx hb dX10_soonestBy_0 (by decide) ?_
  refine lv_istore (lv' := [(5, .int 0), (0, .ref (al.2 57 0)), (1, .ref (al.2 56 pi)), (2, .int time), (3, .ref (al.2 56 pj)), (4, .int conn)]) hx hb dX10_soonestBy_1 hl (by decide) rfl (fun ls hl => ?_)
  have J_3 : ∀ (n_3 : Nat) (l5_1 : Int32) (iv_2 : Iv) (rv_3 : Rv) (H : Heap) (locs : List Loc) (ls : Array Slot), lv_has ls 9 [(0, .ref (al.2 57 0)), (1, .ref (al.2 56 pi)), (2, .int time), (3, .ref (al.2 56 pj)), (4, .int conn), (5, .int l5_1)] → GI al iv_2 rv_3 → FR ([60, 61], []) iv iv_2 → FR ([60, 61], []) rv rv_3 → UW D cA sz al iv_2 rv_3 H → va_S (Aq sz) s.heap H locs → (0 ≤ l5_1.toInt ∧ l5_1.toInt ≤ 40) → (∀ k : Nat, (k : Int) < l5_1.toInt → (iv_2 60 0 k).toInt = 0) → (40 - l5_1.toInt).toNat < n_3 → W p l e (rm 1) s m args below meth c H locs 0 0 Q (F0 m 3 ls []) := by
    intro n_3
    induction n_3 with
    | zero =>
      intro l5_1 iv_2 rv_3 H locs ls hl hG hF1 hF2 hU hS i3_0 i3_1 hm_3
      exact absurd hm_3 (Nat.not_lt_zero _)
    | succ n_3 ih_3 =>
      intro l5_1 iv_2 rv_3 H locs ls hl hG hF1 hF2 hU hS i3_0 i3_1 hm_3
      refine lv_iload hx hb dX10_soonestBy_3 (lv_at hl 5 rfl) ?_
      refine lv_aload_n hx hb dX10_soonestBy_5 rfl (lv_at hl 0 rfl) ?_
      refine g_57_1 C hU hG (h1_57 hG) fl_X10_28 dX10_soonestBy_6 (fun x_4 e_5 le_5 ue_5 => ?_)
      have te_5 := congrArg Int32.toInt e_5
      have ne_5 : x_4.toInt = (iv 57 0 1).toInt := by rw [e_5, hF1 57 0 1 (by decide)]
      refine b_icmp_ge (tgt := 26) hx hb dX10_soonestBy_9 (by decide) (fun c_6 => ?_) (fun c_6 => ?_)
      ·
        have hFz := hF1
        have hz60 : ∀ k : Nat, (k : Int) < (iv 57 0 1).toInt → (iv_2 60 0 k).toInt = 0 := fun k hk => i3_1 k (by omega)
        have hBLz := bl_kp hG0 pre0 hF1 hF2
        refine lv_aload_n hx hb dX10_soonestBy_26 rfl (lv_at hl 0 rfl) ?_
        refine lv_iconst (v := 0) hx hb dX10_soonestBy_27 (by decide) ?_
        refine lv_aload_n hx hb dX10_soonestBy_28 rfl (lv_at hl 1 rfl) ?_
        refine lv_iload_n hx hb dX10_soonestBy_29 rfl (lv_at hl 2 rfl) ?_
        refine q_fi (q_runV (t := 57) (i := 0) (As := [.int 0, .ref (al.2 56 pi), .int time]) (rest := []) C hU (c_X10_reach_x hG 0 (pi) hpi time (by omega) (fun k hk => by exfalso; omega) (hBLz) (qu_0 hFz hz60)) vm_X10_reach ml_X10_94 k_57.1 (hc := rfl) rfl (h1_57 hG) hl.1 rfl rfl (Nat.le_of_ble_eq_true rfl) dX10_soonestBy_30 rfl rfl ⟨Nat.le_of_ble_eq_true rfl, Nat.le_of_ble_eq_true rfl⟩ ⟨Nat.le_refl _, Nat.le_refl _⟩) hS (fun x_12 iv_8 rv_9 H locs hG fa_10 fb_11 hp_7 hU hS => ?_)
        have hF1 := hF1.tr (m := ([60, 61], [])) fa_10 (by decide)
        have hF2 := hF2.tr (m := ([60, 61], [])) fb_11 (by decide)
        refine lv_istore (lv' := [(5, .int x_12), (0, .ref (al.2 57 0)), (1, .ref (al.2 56 pi)), (2, .int time), (3, .ref (al.2 56 pj)), (4, .int conn)]) hx hb dX10_soonestBy_33 hl (by decide) rfl (fun ls hl => ?_)
        refine lv_bipush (v := (-9)) hx hb dX10_soonestBy_35 (by decide) ?_
        refine lv_istore (lv' := [(6, .int (-9)), (5, .int x_12), (0, .ref (al.2 57 0)), (1, .ref (al.2 56 pi)), (2, .int time), (3, .ref (al.2 56 pj)), (4, .int conn)]) hx hb dX10_soonestBy_37 hl (by decide) rfl (fun ls hl => ?_)
        refine lv_iconst (v := 0) hx hb dX10_soonestBy_39 (by decide) ?_
        refine lv_istore (lv' := [(7, .int 0), (6, .int (-9)), (5, .int x_12), (0, .ref (al.2 57 0)), (1, .ref (al.2 56 pi)), (2, .int time), (3, .ref (al.2 56 pj)), (4, .int conn)]) hx hb dX10_soonestBy_40 hl (by decide) rfl (fun ls hl => ?_)
        have J_42 : ∀ (n_42 : Nat) (l5_13 : Int32) (l6_14 : Int32) (l7_15 : Int32) (iv_16 : Iv) (rv_17 : Rv) (H : Heap) (locs : List Loc) (ls : Array Slot), lv_has ls 9 [(0, .ref (al.2 57 0)), (3, .ref (al.2 56 pj)), (4, .int conn), (5, .int l5_13), (6, .int l6_14), (7, .int l7_15)] → GI al iv_16 rv_17 → FR ([60, 61], []) iv iv_16 → FR ([60, 61], []) rv rv_17 → UW D cA sz al iv_16 rv_17 H → va_S (Aq sz) s.heap H locs → (0 ≤ l5_13.toInt ∧ l5_13.toInt ≤ 40) → (-9 ≤ l6_14.toInt ∧ l6_14.toInt ≤ 2147483647) → (0 ≤ l7_15.toInt ∧ l7_15.toInt ≤ 40) → (∀ k : Nat, (k : Int) < l5_13.toInt → ∃ j, rv_17 61 0 k = some j) → SI iv iv_16 rv_17 pi time.toInt pj l5_13 l6_14 l7_15.toNatClampNeg → l7_15.toInt ≤ l5_13.toInt → (40 - l7_15.toInt).toNat < n_42 → W p l e (rm 1) s m args below meth c H locs 0 0 Q (F0 m 42 ls []) := by
          intro n_42
          induction n_42 with
          | zero =>
            intro l5_13 l6_14 l7_15 iv_16 rv_17 H locs ls hl hG hF1 hF2 hU hS i42_0 i42_1 i42_2 i42_3 i42_4 i42_5 hm_42
            exact absurd hm_42 (Nat.not_lt_zero _)
          | succ n_42 ih_42 =>
            intro l5_13 l6_14 l7_15 iv_16 rv_17 H locs ls hl hG hF1 hF2 hU hS i42_0 i42_1 i42_2 i42_3 i42_4 i42_5 hm_42
            have hBL := bl_kp hG0 pre0 hF1 hF2
            refine lv_iload hx hb dX10_soonestBy_42 (lv_at hl 5 rfl) ?_
            refine lv_iload hx hb dX10_soonestBy_44 (lv_at hl 3 rfl) ?_
            refine b_icmp_ge (tgt := 125) hx hb dX10_soonestBy_46 (by decide) (fun c_18 => ?_) (fun c_18 => ?_)
            ·
              refine lv_iload hx hb dX10_soonestBy_125 (lv_at hl 4 rfl) ?_
              exact hret (⟨hG, hF1, hF2, sy_end hG0 pre0 i42_4 ⟨⟨by omega, by omega⟩, congrArg Int32.toInt (hF1 57 0 1 (by decide))⟩⟩) hU hS dX10_soonestBy_127
            ·
              refine lv_iload hx hb dX10_soonestBy_49 (lv_at hl 5 rfl) ?_
              refine lv_bipush (v := 40) hx hb dX10_soonestBy_51 (by decide) ?_
              refine b_icmp_ge (tgt := 125) hx hb dX10_soonestBy_53 (by decide) (fun c_19 => ?_) (fun c_19 => ?_)
              ·
                refine lv_iload hx hb dX10_soonestBy_125 (lv_at hl 4 rfl) ?_
                exact hret (⟨hG, hF1, hF2, sy_end hG0 pre0 i42_4 ⟨⟨by omega, by omega⟩, congrArg Int32.toInt (hF1 57 0 1 (by decide))⟩⟩) hU hS dX10_soonestBy_127
              ·
                refine lv_aload_n hx hb dX10_soonestBy_56 rfl (lv_at hl 0 rfl) ?_
                refine g_57_4 C hU hG (h1_57 hG) fl_X10_25 dX10_soonestBy_57 ?_
                refine lv_iload hx hb dX10_soonestBy_60 (lv_at hl 5 rfl) ?_
                refine a_61 C hU hG (h1_61 hG) (x := l7_15) (by omega) (by omega) dX10_soonestBy_62 (fun r_20 er_21 hb_22 => ?_)
                obtain ⟨j_23, ej_24⟩ : ∃ j, r_20 = some j := (i42_3 _ (by have := ix_nat (x := l7_15) (by omega); omega)).imp (fun _ h => er_21.trans h)
                subst ej_24
                have hl : lv_has ls 9 [(0, .ref (al.2 57 0)), (3, .ref (al.2 56 pj)), (4, .int conn), (5, .int l5_13), (6, .int l6_14), (7, .int l7_15)] := hl
                have hb_25 : j_23 < al.1 62 := hb_22 j_23 rfl
                refine lv_astore (lv' := [(8, .ref (al.2 62 j_23)), (0, .ref (al.2 57 0)), (3, .ref (al.2 56 pj)), (4, .int conn), (5, .int l5_13), (6, .int l6_14), (7, .int l7_15)]) hx hb dX10_soonestBy_63 hl (by decide) rfl (fun ls hl => ?_)
                have hb8 := hb_25
                have hj8 := er_21
                have hn8 := sy_q i42_4 hj8 (by omega)
                have hra8 := (rt_x hG0 pre0 hb_25 (sy_lg hG0 pre0 hb_25 i42_4 hn8)).2.1
                refine lv_aload hx hb dX10_soonestBy_65 (lv_at hl 0 rfl) ?_
                refine g_62_2 C hU hG hb_25 fl_X10_52 dX10_soonestBy_67 (fun j_26 ej_27 hb_28 => ?_)
                have nej_27 : rv 62 j_23 2 = some j_26 := (hF2 62 j_23 2 (by decide)).symm.trans ej_27
                have hto := lf_to hG0 pre0.1.2.1 hb_25 rfl nej_27
                refine lv_aload_n hx hb dX10_soonestBy_70 rfl (lv_at hl 2 rfl) ?_
                have J_98 : ∀ (l6_29 : Int32) (ls : Array Slot), lv_has ls 9 [(0, .ref (al.2 57 0)), (3, .ref (al.2 56 pj)), (4, .int conn), (5, .int l5_13), (7, .int l7_15), (8, .ref (al.2 62 j_23)), (6, .int l6_29)] → (-9 ≤ l6_29.toInt ∧ l6_29.toInt ≤ 2147483647) → mnQ iv rv_17 pj l6_29 (l7_15.toNatClampNeg + 1) → W p l e (rm 1) s m args below meth c H locs 0 0 Q (F0 m 98 ls []) := by
                  intro l6_29 ls hl i98_0 i98_1
                  have hFl := hF1
                  have hGl := hG
                  refine lv_aload_n hx hb dX10_soonestBy_98 rfl (lv_at hl 0 rfl) ?_
                  refine lv_iload hx hb dX10_soonestBy_99 (lv_at hl 3 rfl) ?_
                  refine lv_aload hx hb dX10_soonestBy_101 (lv_at hl 5 rfl) ?_
                  refine g_62_2 C hU hG hb_25 fl_X10_52 dX10_soonestBy_103 (fun j_30 ej_31 hb_32 => ?_)
                  have nej_31 : rv 62 j_23 2 = some j_30 := (hF2 62 j_23 2 (by decide)).symm.trans ej_31
                  have hto2 := lf_to hG0 pre0.1.2.1 hb_25 rfl nej_31
                  refine lv_aload hx hb dX10_soonestBy_106 (lv_at hl 5 rfl) ?_
                  refine g_62_11 C hU hG hb_25 fl_X10_98 dX10_soonestBy_108 (fun x_33 e_34 => ?_)
                  have te_34 := congrArg Int32.toInt e_34
                  have ne_34 : x_33.toInt = (iv 62 j_23 11).toInt := by rw [e_34, hF1 62 j_23 11 (by decide)]
                  have h108 := e_34.trans ((hF1 62 _ 11 (by decide)).trans hra8)
                  refine lv_iload hx hb dX10_soonestBy_111 (lv_at hl 2 rfl) ?_
                  refine lv_iadd hx hb dX10_soonestBy_113 ?_
                  refine lv_topi (fun x_35 e_36 => ?_)
                  refine q_fi (q_runV (t := 57) (i := 0) (As := [.int l5_13, .ref (al.2 56 j_30), .int x_35]) (rest := []) C hU (c_X10_reach_x hG l5_13 (j_30) hb_32 x_35 (by omega) (i42_3) (hBL) (i42_4.1)) vm_X10_reach ml_X10_94 k_57.1 (hc := rfl) rfl (h1_57 hG) hl.1 rfl rfl (Nat.le_of_ble_eq_true rfl) dX10_soonestBy_114 rfl rfl ⟨Nat.le_of_ble_eq_true rfl, Nat.le_of_ble_eq_true rfl⟩ ⟨Nat.le_refl _, Nat.le_refl _⟩) hS (fun x_42 iv_38 rv_39 H locs hG fa_40 fb_41 hp_37 hU hS => ?_)
                  have hF1 := hF1.tr (m := ([60, 61], [])) fa_40 (by decide)
                  have hF2 := hF2.tr (m := ([60, 61], [])) fb_41 (by decide)
                  refine lv_istore (lv' := [(5, .int x_42), (0, .ref (al.2 57 0)), (3, .ref (al.2 56 pj)), (4, .int conn), (7, .int l7_15), (8, .ref (al.2 62 j_23)), (6, .int l6_29)]) hx hb dX10_soonestBy_117 hl (by decide) rfl (fun ls hl => ?_)
                  obtain ⟨x_43, e_44⟩ : ∃ y : Int32, y = l7_15 + 1 := ⟨_, rfl⟩
                  have te_44 : x_43.toInt = (l7_15 : Int32).toInt + (1 : Int32).toInt := by rw [e_44]; exact fb_addI (by omega) (by omega)
                  refine lv_iinc (v := x_43) (lv' := [(7, .int x_43), (5, .int x_42), (0, .ref (al.2 57 0)), (3, .ref (al.2 56 pj)), (4, .int conn), (8, .ref (al.2 62 j_23)), (6, .int l6_29)]) hx hb dX10_soonestBy_119 hl (k := 4) rfl (by rw [e_44]; rfl) (by decide) rfl (fun ls hl => ?_)
                  refine lv_goto (tgt := 42) hx hb dX10_soonestBy_122 (by decide) ?_
                  exact ih_42 x_42 l6_29 x_43 _ _ _ _ _ (lv_sub hl [2, 3, 4, 1, 6, 0] rfl) hG hF1 hF2 hU hS (by omega) (by omega) (by omega) (by first | exact hp_37.2.2.1.nn | exact hp_7.2.2.1.nn) (by first | exact sy_step hG0 pre0 pre1 hFl hb8 i42_4 hj8 hn8.2 hp_37.2.2 hto2 i98_1 h108 e_36 tcon ⟨by omega, by omega, by omega⟩ | exact sy_0 pre0 hp_7.2.2 hFz hz60) (by omega) (by omega)
                refine b_acmp_ne (tgt := 98) hx hb hU hb_28 hpj dX10_soonestBy_71 (by decide) (fun c_45 => ?_) (fun c_45 => ?_)
                ·
                  exact J_98 l6_14 _ (lv_sub hl [1, 2, 3, 4, 6, 0, 5] rfl) (by omega) (by first | exact mn_put i42_4.2.2.2.2 hj8 (by omega) h91 True.intro | exact mn_keep i42_4.2.2.2.2 hj8 (by omega))
                ·
                  refine lv_iload hx hb dX10_soonestBy_74 (lv_at hl 5 rfl) ?_
                  refine lv_bipush (v := (-9)) hx hb dX10_soonestBy_76 (by decide) ?_
                  have J_91 : ∀ (ls : Array Slot), lv_has ls 9 [(0, .ref (al.2 57 0)), (3, .ref (al.2 56 pj)), (4, .int conn), (5, .int l5_13), (7, .int l7_15), (8, .ref (al.2 62 j_23))] → (l6_14.toInt = -9 ∨ (raF iv j_23).toInt < l6_14.toInt) → W p l e (rm 1) s m args below meth c H locs 0 0 Q (F0 m 91 ls []) := by
                    intro ls hl i91_0
                    refine lv_aload hx hb dX10_soonestBy_91 (lv_at hl 5 rfl) ?_
                    refine g_62_11 C hU hG hb_25 fl_X10_98 dX10_soonestBy_93 (fun x_46 e_47 => ?_)
                    have te_47 := congrArg Int32.toInt e_47
                    have ne_47 : x_46.toInt = (iv 62 j_23 11).toInt := by rw [e_47, hF1 62 j_23 11 (by decide)]
                    have h91 := e_47.trans ((hF1 62 _ 11 (by decide)).trans hra8)
                    have t91 := congrArg Int32.toInt h91
                    have g91 := ra_ge iv j_23
                    have u91 := fb_rng (raF iv j_23)
                    refine lv_istore (lv' := [(6, .int x_46), (0, .ref (al.2 57 0)), (3, .ref (al.2 56 pj)), (4, .int conn), (5, .int l5_13), (7, .int l7_15), (8, .ref (al.2 62 j_23))]) hx hb dX10_soonestBy_96 hl (by decide) rfl (fun ls hl => ?_)
                    exact J_98 x_46 _ (lv_sub hl [1, 2, 3, 4, 5, 6, 0] rfl) (by omega) (by first | exact mn_put i42_4.2.2.2.2 hj8 (by omega) h91 i91_0 | exact mn_keep i42_4.2.2.2.2 hj8 (by omega))
                  refine b_icmp_eq (tgt := 91) hx hb dX10_soonestBy_78 (by decide) (fun c_48 => ?_) (fun c_48 => ?_)
                  ·
                    exact J_91 _ (lv_sub hl [1, 2, 3, 4, 6, 0] rfl) (by omega)
                  ·
                    refine lv_aload hx hb dX10_soonestBy_81 (lv_at hl 0 rfl) ?_
                    refine g_62_11 C hU hG hb_25 fl_X10_98 dX10_soonestBy_83 (fun x_49 e_50 => ?_)
                    have te_50 := congrArg Int32.toInt e_50
                    have ne_50 : x_49.toInt = (iv 62 j_23 11).toInt := by rw [e_50, hF1 62 j_23 11 (by decide)]
                    have h83 := e_50.trans ((hF1 62 _ 11 (by decide)).trans hra8)
                    have t83 := congrArg Int32.toInt h83
                    refine lv_iload hx hb dX10_soonestBy_86 (lv_at hl 5 rfl) ?_
                    refine b_icmp_ge (tgt := 98) hx hb dX10_soonestBy_88 (by decide) (fun c_51 => ?_) (fun c_51 => ?_)
                    ·
                      exact J_98 l6_14 _ (lv_sub hl [1, 2, 3, 4, 6, 0, 5] rfl) (by omega) (by first | exact mn_put i42_4.2.2.2.2 hj8 (by omega) h91 i91_0 | exact mn_keep i42_4.2.2.2.2 hj8 (by omega))
                    ·
                      exact J_91 _ (lv_sub hl [1, 2, 3, 4, 6, 0] rfl) (by omega)
        exact J_42 _ x_12 (-9) 0 _ _ _ _ _ (lv_sub hl [3, 6, 7, 2, 1, 0] rfl) hG hF1 hF2 hU hS (by omega) (by omega) (by omega) (by first | exact True.intro.2.2.1.nn | exact hp_7.2.2.1.nn) (by first | exact sy_step hG0 pre0 pre1 hFl hb8 i42_4 hj8 hn8.2 True.intro.2.2 hto2 i98_1 h108 True.intro tcon ⟨by omega, by omega, by omega⟩ | exact sy_0 pre0 hp_7.2.2 hFz hz60) (by omega) (Nat.lt_succ_self _)
      ·
        refine lv_aload_n hx hb dX10_soonestBy_12 rfl (lv_at hl 0 rfl) ?_
        refine g_57_3 C hU hG (h1_57 hG) fl_X10_21 dX10_soonestBy_13 ?_
        refine lv_iload hx hb dX10_soonestBy_16 (lv_at hl 5 rfl) ?_
        refine lv_iconst (v := 0) hx hb dX10_soonestBy_18 (by decide) ?_
        refine s_60 C hU hS (h1_60 hG) (x := l5_1) (by omega) (by omega) (by omega) (by omega) dX10_soonestBy_19 (fun iv_52 H locs ei_53 hU hS => ?_)
        have hG : GI al iv_52 rv_3 := by rw [ei_53]; exact hG.puti (show _ ∧ _ from ⟨show (0 : Int) ≤ _ by omega, show _ ≤ (1 : Int) by omega⟩) (nsA (by decide) _)
        have hF1 : FR ([60, 61], []) iv iv_52 := by rw [ei_53]; exact hF1.put (Or.inl (by decide))
        obtain ⟨x_54, e_55⟩ : ∃ y : Int32, y = l5_1 + 1 := ⟨_, rfl⟩
        have te_55 : x_54.toInt = (l5_1 : Int32).toInt + (1 : Int32).toInt := by rw [e_55]; exact fb_addI (by omega) (by omega)
        refine lv_iinc (v := x_54) (lv' := [(5, .int x_54), (0, .ref (al.2 57 0)), (1, .ref (al.2 56 pi)), (2, .int time), (3, .ref (al.2 56 pj)), (4, .int conn)]) hx hb dX10_soonestBy_20 hl (k := 5) rfl (by rw [e_55]; rfl) (by decide) rfl (fun ls hl => ?_)
        refine lv_goto (tgt := 3) hx hb dX10_soonestBy_23 (by decide) ?_
        exact ih_3 x_54 _ _ _ _ _ (lv_sub hl [1, 2, 3, 4, 5, 0] rfl) hG hF1 hF2 hU hS (by omega) (by first | exact sy_z i3_1 ei_53 (by omega) (by omega) | (intro k hk; exfalso; omega)) (by omega)
  exact J_3 _ 0 _ _ _ _ _ (lv_sub hl [1, 2, 3, 4, 5, 0] rfl) hG hF1 hF2 hU hS (by omega) (by first | exact sy_z i3_1 True.intro (by omega) (by omega) | (intro k hk; exfalso; omega)) (Nat.lt_succ_self _)
set_option maxHeartbeats 4000000 in
set_option maxRecDepth 100000 in
theorem c_X11_soonestOf_x {l : Launch} {D : va_G} {cA : FieldType → ClassId} {sz : Nat} {al : Al} {iv : Iv} {rv : Rv} (hG : GI al iv rv) (ti : Nat) (hti : ti < al.1 65) (pre0 : BS iv rv) : Met l yX11_soonestOf (wd yX11_soonestOf cX11_soonestOf 6 (some .int)) (rm 2) (PcW D cA sz al iv rv [.ref (al.2 49 0), .ref (al.2 65 ti)]) (QI D cA sz al (fI al ([60, 61], []) iv rv (fun r iv' rv' => r = soF iv ti))) 0 0 (Aq sz) := by
  refine mk_i (by decide) (Nat.le_of_ble_eq_true rfl) rfl ?_
  intro p e s m args below meth c ls Q H locs C hU hS hl hret
  have hx := C.1.1
  have hb := C.1.2.1
  have hl : lv_has ls 6 [(0, .ref (al.2 49 0)), (1, .ref (al.2 65 ti))] := hl
  have hG0 := hG
  have htk := tk_k hG pre0.1 hti
  have h19 : (iv 19 0 ti).toInt ≤ 40 := by rw [htk.1]; have := sz4 hG hti; omega
  have c19 := congrArg Int32.toInt htk.1
  have hF1 : FR ([60, 61], []) iv iv := FR.rf
  have hF2 : FR ([60, 61], []) rv rv := FR.rf
  have km9 : ((-9) : Int32).toInt = -9 := by decide
  have k1 : (1 : Int32).toInt = 1 := by decide
  have k2 : (2 : Int32).toInt = 2 := by decide
  refine lv_aload_n hx hb dX11_soonestOf_0 rfl (lv_at hl 0 rfl) ?_
  refine g_49_7 C hU hG (h1_49 hG) fl_X11_67 dX11_soonestOf_1 ?_
  refine lv_iconst (v := 2) hx hb dX11_soonestOf_4 (by decide) ?_
  refine a_50 C hU hG (h1_50 hG) (x := 2) (by omega) (by omega) dX11_soonestOf_5 (fun x_1 e_2 le_2 ue_2 => ?_)
  have te_2 := congrArg Int32.toInt e_2
  refine lv_istore_n (lv' := [(2, .int x_1), (0, .ref (al.2 49 0)), (1, .ref (al.2 65 ti))]) hx hb dX11_soonestOf_6 rfl hl (by decide) rfl (fun ls hl => ?_)
  refine lv_aload_n hx hb dX11_soonestOf_7 rfl (lv_at hl 2 rfl) ?_
  refine lv_iload_n hx hb dX11_soonestOf_8 rfl (lv_at hl 0 rfl) ?_
  refine q_pi (q_runV (t := 65) (i := ti) (As := [.int x_1]) (rest := []) C hU (c_X8_missedPlace_x hG (ti) hti x_1 (pre0.1) (by rw [e_2]; exact (pre0.1.1.1.2.2 2 (by decide)).symm)) vm_X8_missedPlace ml_X11_208 k_65.1 (hc := rfl) rfl hti hl.1 rfl rfl (Nat.le_of_ble_eq_true rfl) dX11_soonestOf_9 rfl rfl ⟨Nat.le_of_ble_eq_true rfl, Nat.le_of_ble_eq_true rfl⟩ ⟨Nat.le_refl _, Nat.le_refl _⟩) hS (fun x_4 H locs hp_3 hU hS => ?_)
  refine lv_istore_n (lv' := [(3, .int x_4), (2, .int x_1), (0, .ref (al.2 49 0)), (1, .ref (al.2 65 ti))]) hx hb dX11_soonestOf_12 rfl hl (by decide) rfl (fun ls hl => ?_)
  have hmp := hp_3.2.1
  have tmp := mpx_t hmp
  refine lv_iload_n hx hb dX11_soonestOf_13 rfl (lv_at hl 0 rfl) ?_
  refine lv_bipush (v := (-9)) hx hb dX11_soonestOf_14 (by decide) ?_
  refine b_icmp_ne (tgt := 27) hx hb dX11_soonestOf_16 (by decide) (fun c_5 => ?_) (fun c_5 => ?_)
  ·
    refine lv_aload_n hx hb dX11_soonestOf_27 rfl (lv_at hl 3 rfl) ?_
    refine g_65_3 C hU hG hti fl_X11_350 dX11_soonestOf_28 (fun hb_6 => ?_)
    refine lv_iload_n hx hb dX11_soonestOf_31 rfl (lv_at hl 0 rfl) ?_
    refine a_66 C hU hG hb_6 (x := x_4) (by omega) (by omega) dX11_soonestOf_32 (fun r_7 er_8 hb_9 => ?_)
    obtain ⟨j_10, ej_11⟩ : ∃ j, r_7 = some j := (tleg hG hti (by omega) (by omega)).imp (fun _ h => er_8.trans h)
    subst ej_11
    have hl : lv_has ls 6 [(3, .int x_4), (2, .int x_1), (0, .ref (al.2 49 0)), (1, .ref (al.2 65 ti))] := hl
    have hb_12 : j_10 < al.1 62 := hb_9 j_10 rfl
    refine lv_astore (lv' := [(4, .ref (al.2 62 j_10)), (3, .int x_4), (2, .int x_1), (0, .ref (al.2 49 0)), (1, .ref (al.2 65 ti))]) hx hb dX11_soonestOf_33 hl (by decide) rfl (fun ls hl => ?_)
    have hw4 := tk_ix hG0 pre0.1 hti er_8 (by omega) (by omega)
    have hms : x_4 = msF iv ti := tmp.elim (fun z => by omega) (fun z => z.1)
    have tms := congrArg Int32.toInt hms
    refine lv_iload_n hx hb dX11_soonestOf_35 rfl (lv_at hl 1 rfl) ?_
    have J_58 : ∀ (v_13 : Int32) (ls : Array Slot), lv_has ls 6 [(0, .ref (al.2 49 0)), (1, .ref (al.2 65 ti)), (2, .int x_1), (4, .ref (al.2 62 j_10))] → v_13.toInt = stT iv ti → W p l e (rm 2) s m args below meth c H locs 0 0 Q (F0 m 58 ls [.int v_13]) := by
      intro v_13 ls hl i58_0
      refine lv_istore (lv' := [(5, .int v_13), (0, .ref (al.2 49 0)), (1, .ref (al.2 65 ti)), (2, .int x_1), (4, .ref (al.2 62 j_10))]) hx hb dX11_soonestOf_58 hl (by decide) rfl (fun ls hl => ?_)
      refine lv_aload_n hx hb dX11_soonestOf_60 rfl (lv_at hl 1 rfl) ?_
      refine g_49_1 C hU hG (h1_49 hG) fl_X11_19 dX11_soonestOf_61 ?_
      refine lv_aload hx hb dX11_soonestOf_64 (lv_at hl 4 rfl) ?_
      refine g_62_1 C hU hG hb_12 fl_X11_354 dX11_soonestOf_66 (fun j_14 ej_15 hb_16 => ?_)
      have hfr := lf_fr hG0 pre0.1.1.1.2.1 hb_12 ej_15
      rw [hw4] at hfr
      refine lv_iload hx hb dX11_soonestOf_69 (lv_at hl 0 rfl) ?_
      refine lv_aload_n hx hb dX11_soonestOf_71 rfl (lv_at hl 2 rfl) ?_
      refine g_65_2 C hU hG hti fl_X11_343 dX11_soonestOf_72 (fun j_17 ej_18 hb_19 => ?_)
      have hth2 := sx_last htk ej_18
      have hb72 := hb_19
      refine g_62_2 C hU hG hb_19 fl_X11_358 dX11_soonestOf_75 (fun j_20 ej_21 hb_22 => ?_)
      have hto := lf_to hG0 pre0.1.1.1.2.1 hb72 rfl ej_21
      rw [hth2] at hto
      refine lv_iload_n hx hb dX11_soonestOf_78 rfl (lv_at hl 3 rfl) ?_
      refine q_fi (q_runV (t := 57) (i := 0) (As := [.ref (al.2 56 j_14), .int v_13, .ref (al.2 56 j_20), .int x_1]) (rest := []) C hU (c_X10_soonestBy_x hG (j_14) hb_16 v_13 (j_20) hb_22 x_1 (pre0.1.1) (pre0.2) (by rw [e_2]; exact (pre0.1.1.1.2.2 2 (by decide)).symm)) vm_X10_soonestBy ml_X11_361 k_57.1 (hc := rfl) rfl (h1_57 hG) hl.1 rfl rfl (Nat.le_of_ble_eq_true rfl) dX11_soonestOf_79 rfl rfl ⟨Nat.le_of_ble_eq_true rfl, Nat.le_of_ble_eq_true rfl⟩ ⟨Nat.le_refl _, Nat.le_refl _⟩) hS (fun x_28 iv_24 rv_25 H locs hG fa_26 fb_27 hp_23 hU hS => ?_)
      have hF1 := hF1.tr (m := ([60, 61], [])) fa_26 (by decide)
      have hF2 := hF2.tr (m := ([60, 61], [])) fb_27 (by decide)
      exact hret (⟨hG, hF1, hF2, by unfold soF; rw [if_neg (by omega), hp_23, hfr, hto, i58_0, hms]⟩) hU hS dX11_soonestOf_82
    refine b_if_ne (tgt := 47) hx hb dX11_soonestOf_36 (by decide) (fun c_29 => ?_) (fun c_29 => ?_)
    ·
      refine lv_aload_n hx hb dX11_soonestOf_47 rfl (lv_at hl 4 rfl) ?_
      refine g_65_3 C hU hG hti fl_X11_350 dX11_soonestOf_48 (fun hb_30 => ?_)
      refine lv_iload_n hx hb dX11_soonestOf_51 rfl (lv_at hl 1 rfl) ?_
      refine lv_iconst (v := 1) hx hb dX11_soonestOf_52 (by decide) ?_
      refine lv_isub hx hb dX11_soonestOf_53 ?_
      refine lv_topi (fun x_31 e_32 => ?_)
      have te_32 : x_31.toInt = (x_4 : Int32).toInt - (1 : Int32).toInt := by rw [e_32]; exact fb_subI (by omega) (by omega)
      refine a_66 C hU hG hb_30 (x := x_31) (by omega) (by omega) dX11_soonestOf_54 (fun r_33 er_34 hb_35 => ?_)
      obtain ⟨j_36, ej_37⟩ : ∃ j, r_33 = some j := (tleg hG hti (by omega) (by omega)).imp (fun _ h => er_34.trans h)
      subst ej_37
      have hl : lv_has ls 6 [(4, .ref (al.2 62 j_10)), (3, .int x_4), (2, .int x_1), (0, .ref (al.2 49 0)), (1, .ref (al.2 65 ti))] := hl
      have hb_38 : j_36 < al.1 62 := hb_35 j_36 rfl
      have hw5 := tk_ix1 (x := x_4) hG0 pre0.1 hti er_34 (by omega) (by omega) (by omega)
      have hrt5 := rt_x hG0 pre0.1.1 hb_38 (sx_lg hG0 pre0.1 hb_38 hw5 hms (by omega) h19)
      refine g_62_11 C hU hG hb_38 fl_X11_347 dX11_soonestOf_55 (fun x_39 e_40 => ?_)
      have te_40 := congrArg Int32.toInt e_40
      have h55 := e_40.trans hrt5.2.1
      rw [hw5] at h55
      have t55 := congrArg Int32.toInt h55
      exact J_58 x_39 _ (lv_sub hl [3, 4, 2, 0] rfl) (by unfold stT; rw [← hms]; first | (rw [if_pos (by rw [clamp_n]; omega)]; omega) | (rw [if_neg (by rw [clamp_n]; omega)]; omega))
    ·
      refine lv_aload hx hb dX11_soonestOf_39 (lv_at hl 0 rfl) ?_
      refine g_62_5 C hU hG hb_12 fl_X11_177 dX11_soonestOf_41 (fun x_41 e_42 le_42 ue_42 => ?_)
      have te_42 := congrArg Int32.toInt e_42
      have z3 : x_4.toNatClampNeg = 0 := by rw [clamp_n]; omega
      rw [z3] at hw4
      have t41 := sx_lv hG0 pre0.1 hb_12 hw4 e_42
      refine lv_goto (tgt := 58) hx hb dX11_soonestOf_44 (by decide) ?_
      exact J_58 x_41 _ (lv_sub hl [3, 4, 2, 0] rfl) (by unfold stT; rw [← hms]; first | (rw [if_pos (by rw [clamp_n]; omega)]; omega) | (rw [if_neg (by rw [clamp_n]; omega)]; omega))
  ·
    refine lv_aload_n hx hb dX11_soonestOf_19 rfl (lv_at hl 3 rfl) ?_
    refine g_65_2 C hU hG hti fl_X11_343 dX11_soonestOf_20 (fun j_43 ej_44 hb_45 => ?_)
    have hth := sx_last htk ej_44
    refine g_62_11 C hU hG hb_45 fl_X11_347 dX11_soonestOf_23 (fun x_46 e_47 => ?_)
    have te_47 := congrArg Int32.toInt e_47
    have h23 := sx_ra hG0 pre0.1 e_47 hth (by omega) hti htk
    exact hret (⟨hG, hF1, hF2, by unfold soF; rw [if_pos (by omega)]; exact h23⟩) hU hS dX11_soonestOf_26
