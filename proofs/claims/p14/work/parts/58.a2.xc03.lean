set_option maxHeartbeats 4000000 in
set_option maxRecDepth 100000 in
theorem c_X11_gapFor_x {l : Launch} {D : va_G} {cA : FieldType → ClassId} {sz : Nat} {al : Al} {iv : Iv} {rv : Rv} (hG : GI al iv rv) (crew : Int32) (pre0 : BA iv rv) : Met l yX11_gapFor (wd yX11_gapFor cX11_gapFor 2 (some .int)) (rm 0) (PcW D cA sz al iv rv [.ref (al.2 49 0), .int crew]) (QI D cA sz al (pI iv rv (fun r => (0 ≤ r.toInt ∧ r.toInt ≤ 900) ∧ (r = rsF iv crew)))) 0 0 (Aq sz) := by
  refine mk_i (by decide) (Nat.le_of_ble_eq_true rfl) rfl ?_
  intro p e s m args below meth c ls Q H locs C hU hS hl hret
  have hx := C.1.1
  have hb := C.1.2.1
  have hl : lv_has ls 2 [(0, .ref (al.2 49 0)), (1, .int crew)] := hl
  have hG0 := hG
  have k0 : (0 : Int32).toInt = 0 := by decide
  have k1 : (1 : Int32).toInt = 1 := by decide
  refine lv_iload_n hx hb dX11_gapFor_0 rfl (lv_at hl 1 rfl) ?_
  refine b_if_eq (tgt := 13) hx hb dX11_gapFor_1 (by decide) (fun c_1 => ?_) (fun c_1 => ?_)
  ·
    refine lv_aload_n hx hb dX11_gapFor_13 rfl (lv_at hl 0 rfl) ?_
    refine g_49_7 C hU hG (h1_49 hG) fl_X11_67 dX11_gapFor_14 ?_
    refine lv_iconst (v := 0) hx hb dX11_gapFor_17 (by decide) ?_
    refine a_50 C hU hG (h1_50 hG) (x := 0) (by omega) (by omega) dX11_gapFor_18 (fun x_2 e_3 le_3 ue_3 => ?_)
    have te_3 := congrArg Int32.toInt e_3
    exact hret (⟨rfl, rfl, ⟨⟨by omega, by omega⟩, by unfold rsF; split <;> first | (exfalso; omega) | (rw [pre0.2.2 0 (by decide)]; simp only [e_3]; rfl) | (rw [pre0.2.2 1 (by decide)]; simp only [e_3]; rfl)⟩⟩) hU hS dX11_gapFor_19
  ·
    refine lv_aload_n hx hb dX11_gapFor_4 rfl (lv_at hl 0 rfl) ?_
    refine g_49_7 C hU hG (h1_49 hG) fl_X11_67 dX11_gapFor_5 ?_
    refine lv_iconst (v := 1) hx hb dX11_gapFor_8 (by decide) ?_
    refine a_50 C hU hG (h1_50 hG) (x := 1) (by omega) (by omega) dX11_gapFor_9 (fun x_4 e_5 le_5 ue_5 => ?_)
    have te_5 := congrArg Int32.toInt e_5
    refine lv_goto (tgt := 19) hx hb dX11_gapFor_10 (by decide) ?_
    exact hret (⟨rfl, rfl, ⟨⟨by omega, by omega⟩, by unfold rsF; split <;> first | (exfalso; omega) | (rw [pre0.2.2 0 (by decide)]; simp only [e_5]; rfl) | (rw [pre0.2.2 1 (by decide)]; simp only [e_5]; rfl)⟩⟩) hU hS dX11_gapFor_19
set_option maxHeartbeats 4000000 in
set_option maxRecDepth 100000 in
theorem c_X10_aheadOf_x {l : Launch} {D : va_G} {cA : FieldType → ClassId} {sz : Nat} {al : Al} {iv : Iv} {rv : Rv} (hG : GI al iv rv) (li : Nat) (hli : li < al.1 62) (crew : Int32) (gap : Int32) (pre0 : BA iv rv) (pre1 : gap = rsF iv crew) : Met l yX10_aheadOf (wd yX10_aheadOf cX10_aheadOf 8 (some (.object "LateClaims$Leg"))) (rm 0) (PcW D cA sz al iv rv [.ref (al.2 57 0), .ref (al.2 62 li), .int crew, .int gap]) (QR D cA sz al 62 (pR iv rv (fun r => (∀ j, r = some j → j < al.1 62) ∧ (r = oI (ahF iv li crew))))) 0 0 (Aq sz) := by
  refine mk_r (by decide) (Nat.le_of_ble_eq_true rfl) rfl ?_
  intro p e s m args below meth c ls Q H locs C hU hS hl hret
  have hx := C.1.1
  have hb := C.1.2.1
  have hl : lv_has ls 8 [(0, .ref (al.2 57 0)), (1, .ref (al.2 62 li)), (2, .int crew), (3, .int gap)] := hl
  have hG0 := hG
  have hn6 := congrArg Int32.toInt pre0.1
  have tgap := congrArg Int32.toInt pre1
  have lfl := lf_i hG pre0.2.1 hli
  have n57 : (iv 57 0 1).toInt = al.1 62 := hG.2.2.2.1.2
  have k0 : (0 : Int32).toInt = 0 := by decide
  have k1 : (1 : Int32).toInt = 1 := by decide
  refine lv_null hx hb dX10_aheadOf_0 ?_
  refine lv_astoreN (lv' := [(4, .null), (0, .ref (al.2 57 0)), (1, .ref (al.2 62 li)), (2, .int crew), (3, .int gap)]) hx hb dX10_aheadOf_1 hl (by decide) rfl (fun ls hl => ?_)
  refine lv_iconst (v := 0) hx hb dX10_aheadOf_3 (by decide) ?_
  refine lv_istore (lv' := [(5, .int 0), (4, .null), (0, .ref (al.2 57 0)), (1, .ref (al.2 62 li)), (2, .int crew), (3, .int gap)]) hx hb dX10_aheadOf_4 hl (by decide) rfl (fun ls hl => ?_)
  have J_6 : ∀ (n_6 : Nat) (r_1 : Option Nat) (l5_3 : Int32) (ls : Array Slot), lv_has ls 8 [(0, .ref (al.2 57 0)), (1, .ref (al.2 62 li)), (2, .int crew), (3, .int gap), (4, rfv al 62 r_1), (5, .int l5_3)] → (∀ j, r_1 = some j → j < al.1 62) → (0 ≤ l5_3.toInt ∧ l5_3.toInt ≤ 40) → r_1 = oI (ahN iv li crew l5_3.toNatClampNeg) → l5_3.toInt ≤ (iv 57 0 1).toInt → (40 - l5_3.toInt).toNat < n_6 → W p l e (rm 0) s m args below meth c H locs 0 0 Q (F0 m 6 ls []) := by
    intro n_6
    induction n_6 with
    | zero =>
      intro r_1 l5_3 ls hl hb_2 i6_0 i6_1 i6_2 hm_6
      exact absurd hm_6 (Nat.not_lt_zero _)
    | succ n_6 ih_6 =>
      intro r_1 l5_3 ls hl hb_2 i6_0 i6_1 i6_2 hm_6
      have hb4 := hb_2
      refine lv_iload hx hb dX10_aheadOf_6 (lv_at hl 5 rfl) ?_
      refine lv_aload_n hx hb dX10_aheadOf_8 rfl (lv_at hl 0 rfl) ?_
      refine g_57_1 C hU hG (h1_57 hG) fl_X10_28 dX10_aheadOf_9 (fun x_4 e_5 le_5 ue_5 => ?_)
      have te_5 := congrArg Int32.toInt e_5
      refine b_icmp_ge (tgt := 129) hx hb dX10_aheadOf_12 (by decide) (fun c_6 => ?_) (fun c_6 => ?_)
      ·
        refine b_aload (al := al) (t' := 62) (r := r_1) hx hb dX10_aheadOf_129 (lv_at hl 4 rfl) ?_
        exact hret (r_1) (⟨rfl, rfl, ⟨hb_2, by rw [i6_1, ahF, clamp_eq (show (l5_3 : Int32).toInt = (iv 0 0 6).toInt by omega)]⟩⟩) hU hS dX10_aheadOf_131
      ·
        refine lv_aload_n hx hb dX10_aheadOf_15 rfl (lv_at hl 0 rfl) ?_
        refine g_57_0 C hU hG (h1_57 hG) fl_X10_13 dX10_aheadOf_16 ?_
        refine lv_iload hx hb dX10_aheadOf_19 (lv_at hl 5 rfl) ?_
        refine a_58 C hU hG (h1_58 hG) (x := l5_3) (by omega) (by omega) dX10_aheadOf_21 (fun r_7 er_8 hb_9 => ?_)
        obtain ⟨j_10, ej_11⟩ : ∃ j, r_7 = some j := ⟨_, er_8.trans (tall hG (by omega) (by omega))⟩
        subst ej_11
        have hl : lv_has ls 8 [(0, .ref (al.2 57 0)), (1, .ref (al.2 62 li)), (2, .int crew), (3, .int gap), (4, rfv al 62 r_1), (5, .int l5_3)] := hl
        have hb_12 : j_10 < al.1 62 := hb_9 j_10 rfl
        refine lv_astore (lv' := [(6, .ref (al.2 62 j_10)), (0, .ref (al.2 57 0)), (1, .ref (al.2 62 li)), (2, .int crew), (3, .int gap), (4, rfv al 62 r_1), (5, .int l5_3)]) hx hb dX10_aheadOf_22 hl (by decide) rfl (fun ls hl => ?_)
        have hj6 := tix hG er_8 (by omega) (by omega)
        have lfj := lf_j hG pre0.2.1 hb_12 hj6
        refine lv_iload_n hx hb dX10_aheadOf_24 rfl (lv_at hl 3 rfl) ?_
        have J_65 : ∀ (v_13 : Int32) (ls : Array Slot), lv_has ls 8 [(0, .ref (al.2 57 0)), (1, .ref (al.2 62 li)), (2, .int crew), (3, .int gap), (4, rfv al 62 r_1), (5, .int l5_3), (6, .ref (al.2 62 j_10))] → (0 ≤ v_13.toInt ∧ v_13.toInt ≤ 1) → ((v_13.toInt = 1 ∧ ((¬ crew.toInt = 0 ∧ (iv 62 j_10 4).toInt = (iv 62 li 4).toInt) ∨ (crew.toInt = 0 ∧ (iv 62 j_10 3).toInt = (iv 62 li 3).toInt))) ∨ (v_13.toInt = 0 ∧ ¬ ((¬ crew.toInt = 0 ∧ (iv 62 j_10 4).toInt = (iv 62 li 4).toInt) ∨ (crew.toInt = 0 ∧ (iv 62 j_10 3).toInt = (iv 62 li 3).toInt)))) → W p l e (rm 0) s m args below meth c H locs 0 0 Q (F0 m 65 ls [.int v_13]) := by
          intro v_13 ls hl i65_0 i65_1
          refine lv_istore (lv' := [(7, .int v_13), (0, .ref (al.2 57 0)), (1, .ref (al.2 62 li)), (2, .int crew), (3, .int gap), (4, rfv al 62 r_1), (5, .int l5_3), (6, .ref (al.2 62 j_10))]) hx hb dX10_aheadOf_65 hl (by decide) rfl (fun ls hl => ?_)
          refine lv_iload hx hb dX10_aheadOf_67 (lv_at hl 0 rfl) ?_
          have J_123 : ∀ (r_14 : Option Nat) (ls : Array Slot), lv_has ls 8 [(0, .ref (al.2 57 0)), (1, .ref (al.2 62 li)), (2, .int crew), (3, .int gap), (5, .int l5_3), (4, rfv al 62 r_14)] → (∀ j, r_14 = some j → j < al.1 62) → r_14 = oI (ahStep iv li crew (ahN iv li crew l5_3.toNatClampNeg) l5_3.toNatClampNeg) → W p l e (rm 0) s m args below meth c H locs 0 0 Q (F0 m 123 ls []) := by
            intro r_14 ls hl hb_15 i123_0
            obtain ⟨x_16, e_17⟩ : ∃ y : Int32, y = l5_3 + 1 := ⟨_, rfl⟩
            have te_17 : x_16.toInt = (l5_3 : Int32).toInt + (1 : Int32).toInt := by rw [e_17]; exact fb_addI (by omega) (by omega)
            refine lv_iinc (v := x_16) (lv' := [(5, .int x_16), (0, .ref (al.2 57 0)), (1, .ref (al.2 62 li)), (2, .int crew), (3, .int gap), (4, rfv al 62 r_14)]) hx hb dX10_aheadOf_123 hl (k := 4) rfl (by rw [e_17]; rfl) (by decide) (by simp [List.filter_cons, rfv_cat]) (fun ls hl => ?_)
            refine lv_goto (tgt := 6) hx hb dX10_aheadOf_126 (by decide) ?_
            exact ih_6 r_14 x_16 _ (lv_sub hl [1, 2, 3, 4, 5, 0] rfl) hb_15 (by omega) (by first | exact ahx_up (by omega) (by omega) i123_0 | exact ahx_0) (by omega) (by omega)
          refine b_if_eq (tgt := 123) hx hb dX10_aheadOf_69 (by decide) (fun c_18 => ?_) (fun c_18 => ?_)
          ·
            exact J_123 r_1 _ (lv_sub hl [1, 2, 3, 4, 6, 5] rfl) hb_2 (by first | exact ahx_no i6_1 (by omega) | exact ahx_yes hG pre0.2.1 hb4 i6_1 i119_0 hj6 (by omega) ⟨by omega, by omega, by omega⟩)
          ·
            refine lv_aload hx hb dX10_aheadOf_72 (lv_at hl 7 rfl) ?_
            refine g_62_2 C hU hG hb_12 fl_X10_52 dX10_aheadOf_74 (fun j_19 ej_20 hb_21 => ?_)
            have hp1 := lf_to hG pre0.2.1 hb_12 hj6 ej_20
            refine lv_aload_n hx hb dX10_aheadOf_77 rfl (lv_at hl 2 rfl) ?_
            refine g_62_1 C hU hG hli fl_X10_56 dX10_aheadOf_78 (fun j_22 ej_23 hb_24 => ?_)
            have hp2 := lf_fr hG pre0.2.1 hli ej_23
            refine b_acmp_ne (tgt := 123) hx hb hU hb_21 hb_24 dX10_aheadOf_81 (by decide) (fun c_25 => ?_) (fun c_25 => ?_)
            ·
              exact J_123 r_1 _ (lv_sub hl [1, 2, 3, 4, 6, 5] rfl) hb_2 (by first | exact ahx_no i6_1 (by omega) | exact ahx_yes hG pre0.2.1 hb4 i6_1 i119_0 hj6 (by omega) ⟨by omega, by omega, by omega⟩)
            ·
              refine lv_aload_n hx hb dX10_aheadOf_84 rfl (lv_at hl 2 rfl) ?_
              refine g_62_5 C hU hG hli fl_X10_59 dX10_aheadOf_85 (fun x_26 e_27 le_27 ue_27 => ?_)
              have te_27 := congrArg Int32.toInt e_27
              refine lv_aload hx hb dX10_aheadOf_88 (lv_at hl 7 rfl) ?_
              refine g_62_6 C hU hG hb_12 fl_X10_62 dX10_aheadOf_90 (fun x_28 e_29 le_29 ue_29 => ?_)
              have te_29 := congrArg Int32.toInt e_29
              refine lv_isub hx hb dX10_aheadOf_93 ?_
              refine lv_topi (fun x_30 e_31 => ?_)
              have te_31 : x_30.toInt = (x_26 : Int32).toInt - (x_28 : Int32).toInt := by rw [e_31]; exact fb_subI (by omega) (by omega)
              refine lv_iload_n hx hb dX10_aheadOf_94 rfl (lv_at hl 4 rfl) ?_
              refine b_icmp_ge (tgt := 101) hx hb dX10_aheadOf_95 (by decide) (fun c_32 => ?_) (fun c_32 => ?_)
              ·
                refine b_aload (al := al) (t' := 62) (r := r_1) hx hb dX10_aheadOf_101 (lv_at hl 5 rfl) ?_
                have J_119 : ∀ (ls : Array Slot), lv_has ls 8 [(0, .ref (al.2 57 0)), (1, .ref (al.2 62 li)), (2, .int crew), (3, .int gap), (5, .int l5_3), (6, .ref (al.2 62 j_10))] → (∀ q : Nat, r_1 = some q → (iv 62 q 6).toInt ≤ (iv 62 j_10 6).toInt) → W p l e (rm 0) s m args below meth c H locs 0 0 Q (F0 m 119 ls []) := by
                  intro ls hl i119_0
                  refine lv_aload hx hb dX10_aheadOf_119 (lv_at hl 5 rfl) ?_
                  refine lv_astore (lv' := [(4, .ref (al.2 62 j_10)), (0, .ref (al.2 57 0)), (1, .ref (al.2 62 li)), (2, .int crew), (3, .int gap), (5, .int l5_3), (6, .ref (al.2 62 j_10))]) hx hb dX10_aheadOf_121 hl (by decide) rfl (fun ls hl => ?_)
                  exact J_123 (some j_10) _ (lv_sub hl [1, 2, 3, 4, 5, 0] rfl) (fun _ h => by cases h; exact hb_12) (by first | exact ahx_no i6_1 (by omega) | exact ahx_yes hG pre0.2.1 hb4 i6_1 i119_0 hj6 (by omega) ⟨by omega, by omega, by omega⟩)
                refine b_ifnull (tgt := 119) hx hb dX10_aheadOf_103 (by decide) (fun ej_35 => ?_) (fun j_34 ej_35 => ?_)
                ·
                  subst ej_35
                  have hl : lv_has ls 8 [(7, .int v_13), (0, .ref (al.2 57 0)), (1, .ref (al.2 62 li)), (2, .int crew), (3, .int gap), (4, rfv al 62 none), (5, .int l5_3), (6, .ref (al.2 62 j_10))] := hl
                  have hb1 := oI_none i6_1
                  exact J_119 _ (lv_sub hl [1, 2, 3, 4, 6, 7] rfl) (by first | (intro _ h; cases h; done) | (intro _ h; cases h; omega))
                ·
                  subst ej_35
                  have hl : lv_has ls 8 [(7, .int v_13), (0, .ref (al.2 57 0)), (1, .ref (al.2 62 li)), (2, .int crew), (3, .int gap), (4, .ref (al.2 62 j_34)), (5, .int l5_3), (6, .ref (al.2 62 j_10))] := hl
                  have hb_36 : j_34 < al.1 62 := hb_2 j_34 rfl
                  have hb1 := oI_some i6_1
                  have hb2 := lf_b hG pre0.2.1 hb_36 hb1.2
                  refine lv_aload hx hb dX10_aheadOf_106 (lv_at hl 7 rfl) ?_
                  refine g_62_6 C hU hG hb_12 fl_X10_62 dX10_aheadOf_108 (fun x_37 e_38 le_38 ue_38 => ?_)
                  have te_38 := congrArg Int32.toInt e_38
                  refine lv_aload hx hb dX10_aheadOf_111 (lv_at hl 5 rfl) ?_
                  refine g_62_6 C hU hG hb_36 fl_X10_62 dX10_aheadOf_113 (fun x_39 e_40 le_40 ue_40 => ?_)
                  have te_40 := congrArg Int32.toInt e_40
                  refine b_icmp_lt (tgt := 123) hx hb dX10_aheadOf_116 (by decide) (fun c_41 => ?_) (fun c_41 => ?_)
                  ·
                    exact J_123 (some j_34) _ (lv_sub hl [1, 2, 3, 4, 6, 5] rfl) (fun _ h => by cases h; exact hb_36) (by first | exact ahx_no i6_1 (by omega) | exact ahx_yes hG pre0.2.1 hb4 i6_1 i119_0 hj6 (by omega) ⟨by omega, by omega, by omega⟩)
                  ·
                    exact J_119 _ (lv_sub hl [1, 2, 3, 4, 6, 7] rfl) (by first | (intro _ h; cases h; done) | (intro _ h; cases h; omega))
              ·
                refine lv_goto (tgt := 123) hx hb dX10_aheadOf_98 (by decide) ?_
                exact J_123 r_1 _ (lv_sub hl [1, 2, 3, 4, 6, 5] rfl) hb_2 (by first | exact ahx_no i6_1 (by omega) | exact ahx_yes hG pre0.2.1 hb4 i6_1 i119_0 hj6 (by omega) ⟨by omega, by omega, by omega⟩)
        refine b_if_eq (tgt := 48) hx hb dX10_aheadOf_25 (by decide) (fun c_42 => ?_) (fun c_42 => ?_)
        ·
          refine lv_aload hx hb dX10_aheadOf_48 (lv_at hl 0 rfl) ?_
          refine g_62_3 C hU hG hb_12 fl_X10_49 dX10_aheadOf_50 (fun x_43 e_44 le_44 ue_44 => ?_)
          have te_44 := congrArg Int32.toInt e_44
          refine lv_aload_n hx hb dX10_aheadOf_53 rfl (lv_at hl 2 rfl) ?_
          refine g_62_3 C hU hG hli fl_X10_49 dX10_aheadOf_54 (fun x_45 e_46 le_46 ue_46 => ?_)
          have te_46 := congrArg Int32.toInt e_46
          refine b_icmp_ne (tgt := 64) hx hb dX10_aheadOf_57 (by decide) (fun c_47 => ?_) (fun c_47 => ?_)
          ·
            refine lv_iconst (v := 0) hx hb dX10_aheadOf_64 (by decide) ?_
            exact J_65 0 _ (lv_sub hl [1, 2, 3, 4, 5, 6, 0] rfl) (by omega) (by omega)
          ·
            refine lv_iconst (v := 1) hx hb dX10_aheadOf_60 (by decide) ?_
            refine lv_goto (tgt := 65) hx hb dX10_aheadOf_61 (by decide) ?_
            exact J_65 1 _ (lv_sub hl [1, 2, 3, 4, 5, 6, 0] rfl) (by omega) (by omega)
        ·
          refine lv_aload hx hb dX10_aheadOf_28 (lv_at hl 0 rfl) ?_
          refine g_62_4 C hU hG hb_12 fl_X10_46 dX10_aheadOf_30 (fun x_48 e_49 le_49 ue_49 => ?_)
          have te_49 := congrArg Int32.toInt e_49
          refine lv_aload_n hx hb dX10_aheadOf_33 rfl (lv_at hl 2 rfl) ?_
          refine g_62_4 C hU hG hli fl_X10_46 dX10_aheadOf_34 (fun x_50 e_51 le_51 ue_51 => ?_)
          have te_51 := congrArg Int32.toInt e_51
          refine b_icmp_ne (tgt := 44) hx hb dX10_aheadOf_37 (by decide) (fun c_52 => ?_) (fun c_52 => ?_)
          ·
            refine lv_iconst (v := 0) hx hb dX10_aheadOf_44 (by decide) ?_
            refine lv_goto (tgt := 65) hx hb dX10_aheadOf_45 (by decide) ?_
            exact J_65 0 _ (lv_sub hl [1, 2, 3, 4, 5, 6, 0] rfl) (by omega) (by omega)
          ·
            refine lv_iconst (v := 1) hx hb dX10_aheadOf_40 (by decide) ?_
            refine lv_goto (tgt := 65) hx hb dX10_aheadOf_41 (by decide) ?_
            exact J_65 1 _ (lv_sub hl [1, 2, 3, 4, 5, 6, 0] rfl) (by omega) (by omega)
  exact J_6 _ none 0 _ (lv_sub hl [2, 3, 4, 5, 1, 0] rfl) (fun _ h => by cases h) (by omega) (by first | exact ahx_up (by omega) (by omega) i123_0 | exact ahx_0) (by omega) (Nat.lt_succ_self _)
set_option maxHeartbeats 4000000 in
set_option maxRecDepth 100000 in
theorem c_X5_waitFor_x {l : Launch} {D : va_G} {cA : FieldType → ClassId} {sz : Nat} {al : Al} {iv : Iv} {rv : Rv} (hG : GI al iv rv) (li : Nat) (hli : li < al.1 62) (bf : Option Nat) (hbf : ∀ j, bf = some j → j < al.1 62) (gap : Int32) : Met l yX5_waitFor (wd yX5_waitFor cX5_waitFor 4 (some .int)) (rm 1) (PcW D cA sz al iv rv [.ref (al.2 62 li), rfv al 62 bf, .int gap]) (QI D cA sz al (pI iv rv (fun r => r = wfX iv li bf gap))) 0 0 (Aq sz) := by
  cases bf with
  | none =>
    refine mk_i (by decide) (Nat.le_of_ble_eq_true rfl) rfl ?_
    intro p e s m args below meth c ls Q H locs C hU hS hl hret
    have hx := C.1.1
    have hb := C.1.2.1
    have hl : lv_has ls 4 [(0, .ref (al.2 62 li)), (1, .null), (2, .int gap)] := hl
    have hG0 := hG
    have k0 : (0 : Int32).toInt = 0 := by decide
    refine lv_aload_nN hx hb dX5_waitFor_0 rfl (lv_at hl 1 rfl) ?_
    refine lv_ifnullN (tgt := 11) hx hb dX5_waitFor_1 (by decide) ?_
    refine lv_iconst (v := 0) hx hb dX5_waitFor_11 (by decide) ?_
    exact hret (⟨rfl, rfl, by first | rfl | exact (wfX_0 (by omega)).symm⟩) hU hS dX5_waitFor_12
  | some bf_j =>
    have hbf_j : bf_j < al.1 62 := hbf bf_j rfl
    refine mk_i (by decide) (Nat.le_of_ble_eq_true rfl) rfl ?_
    intro p e s m args below meth c ls Q H locs C hU hS hl hret
    have hx := C.1.1
    have hb := C.1.2.1
    have hl : lv_has ls 4 [(0, .ref (al.2 62 li)), (1, .ref (al.2 62 bf_j)), (2, .int gap)] := hl
    have hG0 := hG
    have k0 : (0 : Int32).toInt = 0 := by decide
    refine lv_aload_n hx hb dX5_waitFor_0 rfl (lv_at hl 1 rfl) ?_
    refine lv_ifnull hx hb dX5_waitFor_1 ?_
    refine lv_aload_n hx hb dX5_waitFor_4 rfl (lv_at hl 1 rfl) ?_
    refine g_62_7 C hU hG hbf_j fl_X5_38 dX5_waitFor_5 (fun x_2 e_3 le_3 ue_3 => ?_)
    have te_3 := congrArg Int32.toInt e_3
    refine b_if_ne (tgt := 13) hx hb dX5_waitFor_8 (by decide) (fun c_4 => ?_) (fun c_4 => ?_)
    ·
      refine lv_iconst (v := 0) hx hb dX5_waitFor_13 (by decide) ?_
      refine lv_aload_n hx hb dX5_waitFor_14 rfl (lv_at hl 1 rfl) ?_
      refine g_62_11 C hU hG hbf_j fl_X5_59 dX5_waitFor_15 (fun x_5 e_6 => ?_)
      have te_6 := congrArg Int32.toInt e_6
      refine lv_iload_n hx hb dX5_waitFor_18 rfl (lv_at hl 2 rfl) ?_
      refine lv_iadd hx hb dX5_waitFor_19 ?_
      refine lv_topi (fun x_7 e_8 => ?_)
      refine lv_aload_n hx hb dX5_waitFor_20 rfl (lv_at hl 0 rfl) ?_
      refine g_62_5 C hU hG hli fl_X5_26 dX5_waitFor_21 (fun x_9 e_10 le_10 ue_10 => ?_)
      have te_10 := congrArg Int32.toInt e_10
      refine lv_isub hx hb dX5_waitFor_24 ?_
      refine lv_topi (fun x_11 e_12 => ?_)
      refine q_max C hl.1 ml_X5_50 (Nat.le_of_ble_eq_true rfl) (Nat.le_of_ble_eq_true rfl) (Nat.le_refl _) (Nat.le_refl _) dX5_waitFor_25 (fun x_13 q_14 tq_14 => ?_)
      refine lv_istore_n (lv' := [(3, .int x_13), (0, .ref (al.2 62 li)), (1, .ref (al.2 62 bf_j)), (2, .int gap)]) hx hb dX5_waitFor_28 rfl hl (by decide) rfl (fun ls hl => ?_)
      refine lv_iload_n hx hb dX5_waitFor_29 rfl (lv_at hl 0 rfl) ?_
      refine lv_aload_n hx hb dX5_waitFor_30 rfl (lv_at hl 1 rfl) ?_
      refine g_62_12 C hU hG hli fl_X5_62 dX5_waitFor_31 (fun x_15 e_16 => ?_)
      have te_16 := congrArg Int32.toInt e_16
      refine q_min C hl.1 ml_X5_68 (Nat.le_of_ble_eq_true rfl) (Nat.le_of_ble_eq_true rfl) (Nat.le_refl _) (Nat.le_refl _) dX5_waitFor_34 (fun x_17 q_18 tq_18 => ?_)
      exact hret (⟨rfl, rfl, by rw [q_18, q_14]; exact wfX_1 e_6 e_8 e_10 e_12 e_16 (by omega)⟩) hU hS dX5_waitFor_37
    ·
      refine lv_iconst (v := 0) hx hb dX5_waitFor_11 (by decide) ?_
      exact hret (⟨rfl, rfl, by first | rfl | exact (wfX_0 (by omega)).symm⟩) hU hS dX5_waitFor_12
set_option maxHeartbeats 4000000 in
set_option maxRecDepth 100000 in
theorem c_X11_waitOf_x {l : Launch} {D : va_G} {cA : FieldType → ClassId} {sz : Nat} {al : Al} {iv : Iv} {rv : Rv} (hG : GI al iv rv) (li : Nat) (hli : li < al.1 62) (crew : Int32) (pre0 : BL iv rv) (pre1 : ¬ (iv 62 li 7).toInt = 0) : Met l yX11_waitOf (wd yX11_waitOf cX11_waitOf 4 (some .int)) (rm 2) (PcW D cA sz al iv rv [.ref (al.2 49 0), .ref (al.2 62 li), .int crew]) (QI D cA sz al (pI iv rv (fun r => r = wtF iv li crew))) 0 0 (Aq sz) := by
  refine mk_i (by decide) (Nat.le_of_ble_eq_true rfl) rfl ?_
  intro p e s m args below meth c ls Q H locs C hU hS hl hret
  have hx := C.1.1
  have hb := C.1.2.1
  have hl : lv_has ls 4 [(0, .ref (al.2 49 0)), (1, .ref (al.2 62 li)), (2, .int crew)] := hl
  have hG0 := hG
  refine lv_aload_n hx hb dX11_waitOf_0 rfl (lv_at hl 0 rfl) ?_
  refine lv_iload_n hx hb dX11_waitOf_1 rfl (lv_at hl 2 rfl) ?_
  refine q_pi (q_runV (t := 49) (i := 0) (As := [.int crew]) (rest := []) C hU (c_X11_gapFor_x hG crew (pre0.1)) vm_X11_gapFor ml_X11_159 k_49.1 (hc := rfl) rfl (h1_49 hG) hl.1 rfl rfl (Nat.le_of_ble_eq_true rfl) dX11_waitOf_2 rfl rfl ⟨Nat.le_of_ble_eq_true rfl, Nat.le_of_ble_eq_true rfl⟩ ⟨Nat.le_refl _, Nat.le_refl _⟩) hS (fun x_2 H locs hp_1 hU hS => ?_)
  refine lv_istore_n (lv' := [(3, .int x_2), (0, .ref (al.2 49 0)), (1, .ref (al.2 62 li)), (2, .int crew)]) hx hb dX11_waitOf_5 rfl hl (by decide) rfl (fun ls hl => ?_)
  refine lv_aload_n hx hb dX11_waitOf_6 rfl (lv_at hl 2 rfl) ?_
  refine lv_aload_n hx hb dX11_waitOf_7 rfl (lv_at hl 1 rfl) ?_
  refine g_49_1 C hU hG (h1_49 hG) fl_X11_19 dX11_waitOf_8 ?_
  refine lv_aload_n hx hb dX11_waitOf_11 rfl (lv_at hl 2 rfl) ?_
  refine lv_iload_n hx hb dX11_waitOf_12 rfl (lv_at hl 3 rfl) ?_
  refine lv_iload_n hx hb dX11_waitOf_13 rfl (lv_at hl 0 rfl) ?_
  refine q_pr (q_runV (t := 57) (i := 0) (As := [.ref (al.2 62 li), .int crew, .int x_2]) (rest := [.ref (al.2 62 li)]) C hU (c_X10_aheadOf_x hG (li) hli crew x_2 (pre0.1) (hp_1.2)) vm_X10_aheadOf ml_X11_163 k_57.1 (hc := rfl) rfl (h1_57 hG) hl.1 rfl rfl (Nat.le_of_ble_eq_true rfl) dX11_waitOf_14 rfl rfl ⟨Nat.le_of_ble_eq_true rfl, Nat.le_of_ble_eq_true rfl⟩ ⟨Nat.le_refl _, Nat.le_refl _⟩) hS (fun r_4 H locs hp_3 hU hS => ?_)
  have hb_5 := hp_3.1
  refine lv_iload_n hx hb dX11_waitOf_17 rfl (lv_at hl 0 rfl) ?_
  refine q_pi (q_runV (t := 62) (i := li) (As := [rfv al 62 r_4, .int x_2]) (rest := []) C hU (c_X5_waitFor_x hG (li) hli r_4 hb_5 x_2 ) vm_X5_waitFor ml_X11_336 k_62.1 (hc := rfl) rfl hli hl.1 rfl rfl (Nat.le_of_ble_eq_true rfl) dX11_waitOf_18 rfl rfl ⟨Nat.le_of_ble_eq_true rfl, Nat.le_of_ble_eq_true rfl⟩ ⟨Nat.le_refl _, Nat.le_refl _⟩) hS (fun x_7 H locs hp_6 hU hS => ?_)
  exact hret (⟨rfl, rfl, by have z := hp_6; rw [hp_3.2, hp_1.2] at z; rw [z]; exact wt_x hG0 pre0 hli pre1⟩) hU hS dX11_waitOf_21
set_option maxHeartbeats 4000000 in
set_option maxRecDepth 100000 in
theorem c_X11_saved_x {l : Launch} {D : va_G} {cA : FieldType → ClassId} {sz : Nat} {al : Al} {iv : Iv} {rv : Rv} (hG : GI al iv rv) (lg : Int32) (fr : Int32) (pre0 : BL iv rv) : Met l yX11_saved (wd yX11_saved cX11_saved 5 (some .int)) (rm 3) (PcW D cA sz al iv rv [.ref (al.2 49 0), .int lg, .int fr]) (QI D cA sz al (fI al ([51], []) iv rv (fun r iv' rv' => r = svS iv lg fr))) 0 0 (Aq sz) := by
  refine mk_i (by decide) (Nat.le_of_ble_eq_true rfl) rfl ?_
  intro p e s m args below meth c ls Q H locs C hU hS hl hret
  have hx := C.1.1
  have hb := C.1.2.1
  have hl : lv_has ls 5 [(0, .ref (al.2 49 0)), (1, .int lg), (2, .int fr)] := hl
  have hG0 := hG
  have hn6 := congrArg Int32.toInt pre0.1.1
  have hF1 : FR ([51], []) iv iv := FR.rf
  have hF2 : FR ([51], []) rv rv := FR.rf
  have km6 : ((-6) : Int32).toInt = -6 := by decide
  have km5 : ((-5) : Int32).toInt = -5 := by decide
  have km4 : ((-4) : Int32).toInt = -4 := by decide
  have km1 : ((-1) : Int32).toInt = -1 := by decide
  have k0 : (0 : Int32).toInt = 0 := by decide
  have k1 : (1 : Int32).toInt = 1 := by decide
  have k30000 : (30000 : Int32).toInt = 30000 := by decide
  refine lv_aload_n hx hb dX11_saved_0 rfl (lv_at hl 0 rfl) ?_
  refine g_49_1 C hU hG (h1_49 hG) fl_X11_19 dX11_saved_1 ?_
  refine lv_iload_n hx hb dX11_saved_4 rfl (lv_at hl 1 rfl) ?_
  refine q_pr (q_runV (t := 57) (i := 0) (As := [.int lg]) (rest := []) C hU (c_X10_find hG lg ) vm_X10_find ml_X11_123 k_57.1 (hc := rfl) rfl (h1_57 hG) hl.1 rfl rfl (Nat.le_of_ble_eq_true rfl) dX11_saved_5 rfl rfl ⟨Nat.le_of_ble_eq_true rfl, Nat.le_of_ble_eq_true rfl⟩ ⟨Nat.le_refl _, Nat.le_refl _⟩) hS (fun r_2 H locs hp_1 hU hS => ?_)
  have hb_3 := hp_1.1
  refine b_astore_n (lv' := [(3, rfv al 62 r_2), (0, .ref (al.2 49 0)), (1, .int lg), (2, .int fr)]) hx hb dX11_saved_8 rfl hl (by decide) rfl (fun ls hl => ?_)
  refine b_aload_n (al := al) (t' := 62) (r := r_2) hx hb dX11_saved_9 rfl (lv_at hl 0 rfl) ?_
  refine b_ifnonnull (tgt := 19) hx hb dX11_saved_10 (by decide) (fun j_5 ej_6 => ?_) (fun ej_6 => ?_)
  ·
    subst ej_6
    have hl : lv_has ls 5 [(3, .ref (al.2 62 j_5)), (0, .ref (al.2 49 0)), (1, .int lg), (2, .int fr)] := hl
    have hb_7 : j_5 < al.1 62 := hb_3 j_5 rfl
    have hq4 := hp_1.2.1 _ rfl
    have hn4 := hq4.1
    rw [clamp_n] at hn4
    refine lv_aload_n hx hb dX11_saved_19 rfl (lv_at hl 0 rfl) ?_
    refine g_62_7 C hU hG hb_7 fl_X11_126 dX11_saved_20 (fun x_8 e_9 le_9 ue_9 => ?_)
    have te_9 := congrArg Int32.toInt e_9
    have hl7 := lg_done hG0 pre0 hb_7 hq4.1
    refine b_if_ne (tgt := 33) hx hb dX11_saved_23 (by decide) (fun c_10 => ?_) (fun c_10 => ?_)
    ·
      refine lv_iload_n hx hb dX11_saved_33 rfl (lv_at hl 3 rfl) ?_
      refine b_if_ge (tgt := 44) hx hb dX11_saved_34 (by decide) (fun c_11 => ?_) (fun c_11 => ?_)
      ·
        refine lv_iload_n hx hb dX11_saved_44 rfl (lv_at hl 3 rfl) ?_
        refine lv_sipush (v := 30000) hx hb dX11_saved_45 (by decide) ?_
        refine b_icmp_le (tgt := 58) hx hb dX11_saved_48 (by decide) (fun c_12 => ?_) (fun c_12 => ?_)
        ·
          have hrt := rt_x hG0 pre0 hb_7 (by omega)
          refine lv_iload_n hx hb dX11_saved_58 rfl (lv_at hl 3 rfl) ?_
          refine lv_aload_n hx hb dX11_saved_59 rfl (lv_at hl 0 rfl) ?_
          refine g_62_5 C hU hG hb_7 fl_X11_177 dX11_saved_60 (fun x_13 e_14 le_14 ue_14 => ?_)
          have te_14 := congrArg Int32.toInt e_14
          refine lv_aload_n hx hb dX11_saved_63 rfl (lv_at hl 1 rfl) ?_
          refine lv_aload_n hx hb dX11_saved_64 rfl (lv_at hl 0 rfl) ?_
          refine lv_iconst (v := 1) hx hb dX11_saved_65 (by decide) ?_
          refine q_pi (q_runV (t := 49) (i := 0) (As := [.ref (al.2 62 j_5), .int 1]) (rest := [.int x_13, .int fr]) C hU (c_X11_waitOf_x hG (j_5) hb_7 1 (pre0) (by omega)) vm_X11_waitOf ml_X11_151 k_49.1 (hc := rfl) rfl (h1_49 hG) hl.1 rfl rfl (Nat.le_of_ble_eq_true rfl) dX11_saved_66 rfl rfl ⟨Nat.le_of_ble_eq_true rfl, Nat.le_of_ble_eq_true rfl⟩ ⟨Nat.le_refl _, Nat.le_refl _⟩) hS (fun x_16 H locs hp_15 hU hS => ?_)
          refine lv_iadd hx hb dX11_saved_69 ?_
          refine lv_topi (fun x_17 e_18 => ?_)
          refine q_max C hl.1 ml_X11_180 (Nat.le_of_ble_eq_true rfl) (Nat.le_of_ble_eq_true rfl) (Nat.le_refl _) (Nat.le_refl _) dX11_saved_70 (fun x_19 q_20 tq_20 => ?_)
          refine lv_istore (lv' := [(4, .int x_19), (3, .ref (al.2 62 j_5)), (0, .ref (al.2 49 0)), (1, .int lg), (2, .int fr)]) hx hb dX11_saved_73 hl (by decide) rfl (fun ls hl => ?_)
          refine lv_iconst (v := 0) hx hb dX11_saved_75 (by decide) ?_
          refine lv_aload_n hx hb dX11_saved_76 rfl (lv_at hl 1 rfl) ?_
          refine g_62_10 C hU hG hb_7 fl_X11_186 dX11_saved_77 (fun x_21 e_22 => ?_)
          have te_22 := congrArg Int32.toInt e_22
          refine lv_iload hx hb dX11_saved_80 (lv_at hl 0 rfl) ?_
          refine lv_isub hx hb dX11_saved_82 ?_
          refine lv_topi (fun x_23 e_24 => ?_)
          refine q_max C hl.1 ml_X11_180 (Nat.le_of_ble_eq_true rfl) (Nat.le_of_ble_eq_true rfl) (Nat.le_refl _) (Nat.le_refl _) dX11_saved_83 (fun x_25 q_26 tq_26 => ?_)
          exact hret (⟨hG, hF1, hF2, by unfold svS; rw [if_neg (by omega), if_neg (by omega), if_neg (by omega), if_neg (by omega), q_26, mx0, e_24, e_22, hrt.1, q_20, mxw, e_18, e_14, lf_lv hG0 pre0.1.2.1 hb_7, hp_15, hq4.1]⟩) hU hS dX11_saved_86
        ·
          refine lv_aload_n hx hb dX11_saved_51 rfl (lv_at hl 1 rfl) ?_
          refine lv_bipush (v := (-6)) hx hb dX11_saved_52 (by decide) ?_
          refine q_fi (q_runV (t := 49) (i := 0) (As := [.int (-6)]) (rest := []) C hU (c_X11_refuse hG (-6) (by omega)) vm_X11_refuse ml_X11_77 k_49.1 (hc := rfl) rfl (h1_49 hG) hl.1 rfl rfl (Nat.le_of_ble_eq_true rfl) dX11_saved_54 rfl rfl ⟨Nat.le_of_ble_eq_true rfl, Nat.le_of_ble_eq_true rfl⟩ ⟨Nat.le_refl _, Nat.le_refl _⟩) hS (fun x_32 iv_28 rv_29 H locs hG fa_30 fb_31 hp_27 hU hS => ?_)
          have hF1 := hF1.tr (m := ([51], [])) fa_30 (by decide)
          have hF2 := hF2.tr (m := ([51], [])) fb_31 (by decide)
          exact hret (⟨hG, hF1, hF2, by unfold svS; rw [if_neg (by omega), if_neg (by omega), if_neg (by omega), if_pos (by omega)]; exact hp_27⟩) hU hS dX11_saved_57
      ·
        refine lv_aload_n hx hb dX11_saved_37 rfl (lv_at hl 1 rfl) ?_
        refine lv_bipush (v := (-4)) hx hb dX11_saved_38 (by decide) ?_
        refine q_fi (q_runV (t := 49) (i := 0) (As := [.int (-4)]) (rest := []) C hU (c_X11_refuse hG (-4) (by omega)) vm_X11_refuse ml_X11_77 k_49.1 (hc := rfl) rfl (h1_49 hG) hl.1 rfl rfl (Nat.le_of_ble_eq_true rfl) dX11_saved_40 rfl rfl ⟨Nat.le_of_ble_eq_true rfl, Nat.le_of_ble_eq_true rfl⟩ ⟨Nat.le_refl _, Nat.le_refl _⟩) hS (fun x_38 iv_34 rv_35 H locs hG fa_36 fb_37 hp_33 hU hS => ?_)
        have hF1 := hF1.tr (m := ([51], [])) fa_36 (by decide)
        have hF2 := hF2.tr (m := ([51], [])) fb_37 (by decide)
        exact hret (⟨hG, hF1, hF2, by unfold svS; rw [if_neg (by omega), if_neg (by omega), if_pos (by omega)]; exact hp_33⟩) hU hS dX11_saved_43
    ·
      refine lv_aload_n hx hb dX11_saved_26 rfl (lv_at hl 1 rfl) ?_
      refine lv_bipush (v := (-5)) hx hb dX11_saved_27 (by decide) ?_
      refine q_fi (q_runV (t := 49) (i := 0) (As := [.int (-5)]) (rest := []) C hU (c_X11_refuse hG (-5) (by omega)) vm_X11_refuse ml_X11_77 k_49.1 (hc := rfl) rfl (h1_49 hG) hl.1 rfl rfl (Nat.le_of_ble_eq_true rfl) dX11_saved_29 rfl rfl ⟨Nat.le_of_ble_eq_true rfl, Nat.le_of_ble_eq_true rfl⟩ ⟨Nat.le_refl _, Nat.le_refl _⟩) hS (fun x_44 iv_40 rv_41 H locs hG fa_42 fb_43 hp_39 hU hS => ?_)
      have hF1 := hF1.tr (m := ([51], [])) fa_42 (by decide)
      have hF2 := hF2.tr (m := ([51], [])) fb_43 (by decide)
      exact hret (⟨hG, hF1, hF2, by unfold svS; rw [if_neg (by omega), if_pos (by omega)]; exact hp_39⟩) hU hS dX11_saved_32
  ·
    subst ej_6
    have hl : lv_has ls 5 [(3, rfv al 62 none), (0, .ref (al.2 49 0)), (1, .int lg), (2, .int fr)] := hl
    have hq4 := hp_1.2.2 rfl
    refine lv_aload_n hx hb dX11_saved_13 rfl (lv_at hl 1 rfl) ?_
    refine lv_iconst (v := (-1)) hx hb dX11_saved_14 (by decide) ?_
    refine q_fi (q_runV (t := 49) (i := 0) (As := [.int (-1)]) (rest := []) C hU (c_X11_refuse hG (-1) (by omega)) vm_X11_refuse ml_X11_77 k_49.1 (hc := rfl) rfl (h1_49 hG) hl.1 rfl rfl (Nat.le_of_ble_eq_true rfl) dX11_saved_15 rfl rfl ⟨Nat.le_of_ble_eq_true rfl, Nat.le_of_ble_eq_true rfl⟩ ⟨Nat.le_refl _, Nat.le_refl _⟩) hS (fun x_50 iv_46 rv_47 H locs hG fa_48 fb_49 hp_45 hU hS => ?_)
    have hF1 := hF1.tr (m := ([51], [])) fa_48 (by decide)
    have hF2 := hF2.tr (m := ([51], [])) fb_49 (by decide)
    exact hret (⟨hG, hF1, hF2, by unfold svS; rw [if_pos (by omega)]; exact hp_45⟩) hU hS dX11_saved_18
