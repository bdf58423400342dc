section
set_option maxHeartbeats 4000000 in
set_option maxRecDepth 100000 in
theorem c_X8_missedPlace_x {l : Launch} {D : va_G} {cA : FieldType → ClassId} {sz : Nat} {al : Al} {iv : Iv} {rv : Rv} (hG : GI al iv rv) (ti : Nat) (hti : ti < al.1 65) (conn : Int32) (pre0 : BM iv rv) (pre1 : conn = iv 15 0 2) : Met l yX8_missedPlace (wd yX8_missedPlace cX8_missedPlace 3 (some .int)) (rm 0) (PcW D cA sz al iv rv [.ref (al.2 65 ti), .int conn]) (QI D cA sz al (pI iv rv (fun r => (-9 ≤ r.toInt ∧ r.toInt ≤ 3) ∧ (r = mpX iv ti ∧ (r.toInt = -9 ∨ (0 ≤ r.toInt ∧ r.toInt < (iv 65 ti 4).toInt)))))) 0 0 (Aq sz) := by
  refine mk_i (by decide) (Nat.le_of_ble_eq_true rfl) rfl ?_
  intro p e s m args below meth c ls Q H locs C hU hS hl hret
  have hx := C.1.1
  have hb := C.1.2.1
  have hl : lv_has ls 3 [(0, .ref (al.2 65 ti)), (1, .int conn)] := hl
  have hG0 := hG
  have htk := tk_k hG pre0 hti
  have hsz := htk.2.1
  have tcon := congrArg Int32.toInt pre1
  have km9 : ((-9) : Int32).toInt = -9 := by decide
  have k0 : (0 : Int32).toInt = 0 := by decide
  have k1 : (1 : Int32).toInt = 1 := by decide
  refine lv_iconst (v := 0) hx hb dX8_missedPlace_0 (by decide) ?_
  refine lv_istore_n (lv' := [(2, .int 0), (0, .ref (al.2 65 ti)), (1, .int conn)]) hx hb dX8_missedPlace_1 rfl hl (by decide) rfl (fun ls hl => ?_)
  have J_2 : ∀ (n_2 : Nat) (l2_1 : Int32) (ls : Array Slot), lv_has ls 3 [(0, .ref (al.2 65 ti)), (1, .int conn), (2, .int l2_1)] → (0 ≤ l2_1.toInt ∧ l2_1.toInt ≤ 4) → (msN iv ti l2_1.toNatClampNeg).toInt < 0 → l2_1.toInt ≤ (iv 65 ti 4).toInt → (4 - l2_1.toInt).toNat < n_2 → W p l e (rm 0) s m args below meth c H locs 0 0 Q (F0 m 2 ls []) := by
    intro n_2
    induction n_2 with
    | zero =>
      intro l2_1 ls hl i2_0 i2_1 i2_2 hm_2
      exact absurd hm_2 (Nat.not_lt_zero _)
    | succ n_2 ih_2 =>
      intro l2_1 ls hl i2_0 i2_1 i2_2 hm_2
      refine lv_iload_n hx hb dX8_missedPlace_2 rfl (lv_at hl 2 rfl) ?_
      refine lv_aload_n hx hb dX8_missedPlace_3 rfl (lv_at hl 0 rfl) ?_
      refine g_65_4 C hU hG hti fl_X8_28 dX8_missedPlace_4 (fun x_2 e_3 le_3 ue_3 => ?_)
      have te_3 := congrArg Int32.toInt e_3
      refine b_icmp_ge (tgt := 61) hx hb dX8_missedPlace_7 (by decide) (fun c_4 => ?_) (fun c_4 => ?_)
      ·
        refine lv_bipush (v := (-9)) hx hb dX8_missedPlace_61 (by decide) ?_
        exact hret (⟨rfl, rfl, ⟨⟨by omega, by omega⟩, ⟨mpx_end i2_1 htk.1 (by omega), by omega⟩⟩⟩) hU hS dX8_missedPlace_63
      ·
        refine lv_aload_n hx hb dX8_missedPlace_10 rfl (lv_at hl 0 rfl) ?_
        refine g_65_3 C hU hG hti fl_X8_24 dX8_missedPlace_11 (fun hb_5 => ?_)
        refine lv_iload_n hx hb dX8_missedPlace_14 rfl (lv_at hl 2 rfl) ?_
        refine a_66 C hU hG hb_5 (x := l2_1) (by omega) (by omega) dX8_missedPlace_15 (fun r_6 er_7 hb_8 => ?_)
        obtain ⟨j_9, ej_10⟩ : ∃ j, r_6 = some j := (tleg hG hti (by omega) (by omega)).imp (fun _ h => er_7.trans h)
        subst ej_10
        have hl : lv_has ls 3 [(0, .ref (al.2 65 ti)), (1, .int conn), (2, .int l2_1)] := hl
        have hb_11 : j_9 < al.1 62 := hb_8 j_9 rfl
        have hw := tk_ix hG0 pre0 hti er_7 (by omega) (by omega)
        have hl7 := lg_done hG0 pre0.1 hb_11 hw
        refine g_62_7 C hU hG hb_11 fl_X8_48 dX8_missedPlace_16 (fun x_12 e_13 le_13 ue_13 => ?_)
        have te_13 := congrArg Int32.toInt e_13
        refine b_if_ne (tgt := 24) hx hb dX8_missedPlace_19 (by decide) (fun c_14 => ?_) (fun c_14 => ?_)
        ·
          have hd : ¬ (iv 11 0 (rwL iv ti l2_1.toNatClampNeg)).toInt = 0 := by omega
          refine lv_iload_n hx hb dX8_missedPlace_24 rfl (lv_at hl 2 rfl) ?_
          have J_55 : ∀ (ls : Array Slot), lv_has ls 3 [(0, .ref (al.2 65 ti)), (1, .int conn), (2, .int l2_1)] → ¬ bad iv ti l2_1.toNatClampNeg → W p l e (rm 0) s m args below meth c H locs 0 0 Q (F0 m 55 ls []) := by
            intro ls hl i55_0
            obtain ⟨x_15, e_16⟩ : ∃ y : Int32, y = l2_1 + 1 := ⟨_, rfl⟩
            have te_16 : x_15.toInt = (l2_1 : Int32).toInt + (1 : Int32).toInt := by rw [e_16]; exact fb_addI (by omega) (by omega)
            refine lv_iinc (v := x_15) (lv' := [(2, .int x_15), (0, .ref (al.2 65 ti)), (1, .int conn)]) hx hb dX8_missedPlace_55 hl (k := 2) rfl (by rw [e_16]; rfl) (by decide) rfl (fun ls hl => ?_)
            refine lv_goto (tgt := 2) hx hb dX8_missedPlace_58 (by decide) ?_
            exact ih_2 x_15 _ (lv_sub hl [1, 2, 0] rfl) (by omega) (by first | exact ms_up (by omega) (by omega) i2_1 i55_0 | exact ms_0) (by omega) (by omega)
          refine b_if_le (tgt := 55) hx hb dX8_missedPlace_25 (by decide) (fun c_17 => ?_) (fun c_17 => ?_)
          ·
            exact J_55 _ (lv_sub hl [0, 1, 2] rfl) (by first | exact nb_0 hd (by omega) | exact nb_x hd True.intro hrt3.1 hw3 True.intro hrt4.2.1 hw4 True.intro tcon (by omega))
          ·
            refine lv_aload_n hx hb dX8_missedPlace_28 rfl (lv_at hl 0 rfl) ?_
            refine g_65_3 C hU hG hti fl_X8_24 dX8_missedPlace_29 (fun hb_18 => ?_)
            refine lv_iload_n hx hb dX8_missedPlace_32 rfl (lv_at hl 2 rfl) ?_
            refine a_66 C hU hG hb_18 (x := l2_1) (by omega) (by omega) dX8_missedPlace_33 (fun r_19 er_20 hb_21 => ?_)
            obtain ⟨j_22, ej_23⟩ : ∃ j, r_19 = some j := (tleg hG hti (by omega) (by omega)).imp (fun _ h => er_20.trans h)
            subst ej_23
            have hl : lv_has ls 3 [(0, .ref (al.2 65 ti)), (1, .int conn), (2, .int l2_1)] := hl
            have hb_24 : j_22 < al.1 62 := hb_21 j_22 rfl
            have hw3 := tk_ix hG0 pre0 hti er_20 (by omega) (by omega)
            have hrt3 := rt_x hG0 pre0.1 hb_24 (by have := lg_done hG0 pre0.1 hb_24 hw3; omega)
            refine g_62_10 C hU hG hb_24 fl_X8_52 dX8_missedPlace_34 (fun x_25 e_26 => ?_)
            have te_26 := congrArg Int32.toInt e_26
            refine lv_aload_n hx hb dX8_missedPlace_37 rfl (lv_at hl 0 rfl) ?_
            refine g_65_3 C hU hG hti fl_X8_24 dX8_missedPlace_38 (fun hb_27 => ?_)
            refine lv_iload_n hx hb dX8_missedPlace_41 rfl (lv_at hl 2 rfl) ?_
            refine lv_iconst (v := 1) hx hb dX8_missedPlace_42 (by decide) ?_
            refine lv_isub hx hb dX8_missedPlace_43 ?_
            refine lv_topi (fun x_28 e_29 => ?_)
            have te_29 : x_28.toInt = (l2_1 : Int32).toInt - (1 : Int32).toInt := by rw [e_29]; exact fb_subI (by omega) (by omega)
            refine a_66 C hU hG hb_27 (x := x_28) (by omega) (by omega) dX8_missedPlace_44 (fun r_30 er_31 hb_32 => ?_)
            obtain ⟨j_33, ej_34⟩ : ∃ j, r_30 = some j := (tleg hG hti (by omega) (by omega)).imp (fun _ h => er_31.trans h)
            subst ej_34
            have hl : lv_has ls 3 [(0, .ref (al.2 65 ti)), (1, .int conn), (2, .int l2_1)] := hl
            have hb_35 : j_33 < al.1 62 := hb_32 j_33 rfl
            have hw4 := tk_ix1 (x := l2_1) hG0 pre0 hti er_31 (by omega) (by omega) (by omega)
            have hrt4 := rt_x hG0 pre0.1 hb_35 (by have := lg_done hG0 pre0.1 hb_35 hw4; have w := ms_all (by rw [clamp_n]; omega) i2_1 (l2_1.toNatClampNeg - 1) (by rw [clamp_n]; omega); have w2 := nbd w; omega)
            refine g_62_11 C hU hG hb_35 fl_X8_55 dX8_missedPlace_45 (fun x_36 e_37 => ?_)
            have te_37 := congrArg Int32.toInt e_37
            refine lv_isub hx hb dX8_missedPlace_48 ?_
            refine lv_topi (fun x_38 e_39 => ?_)
            refine lv_iload_n hx hb dX8_missedPlace_49 rfl (lv_at hl 1 rfl) ?_
            refine b_icmp_ge (tgt := 55) hx hb dX8_missedPlace_50 (by decide) (fun c_40 => ?_) (fun c_40 => ?_)
            ·
              exact J_55 _ (lv_sub hl [0, 1, 2] rfl) (by first | exact nb_0 hd (by omega) | exact nb_x hd e_26 hrt3.1 hw3 e_37 hrt4.2.1 hw4 e_39 tcon (by omega))
            ·
              refine lv_iload_n hx hb dX8_missedPlace_53 rfl (lv_at hl 2 rfl) ?_
              exact hret (⟨rfl, rfl, ⟨⟨by omega, by omega⟩, ⟨by rw [mpx_ret i2_1 (Or.inr ⟨by rw [clamp_n]; omega, bd_x e_26 hrt3.1 hw3 e_37 hrt4.2.1 hw4 e_39 tcon (by omega)⟩) htk.1 (by omega) (by omega)], by omega⟩⟩⟩) hU hS dX8_missedPlace_54
        ·
          refine lv_iload_n hx hb dX8_missedPlace_22 rfl (lv_at hl 2 rfl) ?_
          exact hret (⟨rfl, rfl, ⟨⟨by omega, by omega⟩, ⟨by rw [mpx_ret i2_1 (Or.inl (by omega)) htk.1 (by omega) (by omega)], by omega⟩⟩⟩) hU hS dX8_missedPlace_23
  exact J_2 _ 0 _ (lv_sub hl [1, 2, 0] rfl) (by omega) (by first | exact ms_up (by omega) (by omega) i2_1 i55_0 | exact ms_0) (by omega) (Nat.lt_succ_self _)
set_option maxHeartbeats 4000000 in
set_option maxRecDepth 100000 in
theorem c_X8_legAtFault_x {l : Launch} {D : va_G} {cA : FieldType → ClassId} {sz : Nat} {al : Al} {iv : Iv} {rv : Rv} (hG : GI al iv rv) (ti : Nat) (hti : ti < al.1 65) (conn : Int32) (pre0 : BM iv rv) (pre1 : conn = iv 15 0 2) : Met l yX8_legAtFault (wd yX8_legAtFault cX8_legAtFault 3 (some (.object "LateClaims$Leg"))) (rm 1) (PcW D cA sz al iv rv [.ref (al.2 65 ti), .int conn]) (QR D cA sz al 62 (pR iv rv (fun r => (∃ j, r = some j ∧ j < al.1 62) ∧ (r = some (lfF iv ti))))) 0 0 (Aq sz) := by
  refine mk_r (by decide) (Nat.le_of_ble_eq_true rfl) rfl ?_
  intro p e s m args below meth c ls Q H locs C hU hS hl hret
  have hx := C.1.1
  have hb := C.1.2.1
  have hl : lv_has ls 3 [(0, .ref (al.2 65 ti)), (1, .int conn)] := hl
  have hG0 := hG
  have htk := tk_k hG pre0 hti
  have h19 : (iv 19 0 ti).toInt ≤ 40 := by rw [htk.1]; have := sz4 hG hti; omega
  have km9 : ((-9) : Int32).toInt = -9 := by decide
  have k1 : (1 : Int32).toInt = 1 := by decide
  refine lv_aload_n hx hb dX8_legAtFault_0 rfl (lv_at hl 0 rfl) ?_
  refine lv_iload_n hx hb dX8_legAtFault_1 rfl (lv_at hl 1 rfl) ?_
  refine q_pi (q_runV (t := 65) (i := ti) (As := [.int conn]) (rest := []) C hU (c_X8_missedPlace_x hG (ti) hti conn (pre0) (pre1)) vm_X8_missedPlace ml_X8_58 k_65.1 (hc := rfl) rfl hti hl.1 rfl rfl (Nat.le_of_ble_eq_true rfl) dX8_legAtFault_2 rfl rfl ⟨Nat.le_of_ble_eq_true rfl, Nat.le_of_ble_eq_true rfl⟩ ⟨Nat.le_refl _, Nat.le_refl _⟩) hS (fun x_2 H locs hp_1 hU hS => ?_)
  refine lv_istore_n (lv' := [(2, .int x_2), (0, .ref (al.2 65 ti)), (1, .int conn)]) hx hb dX8_legAtFault_5 rfl hl (by decide) rfl (fun ls hl => ?_)
  have hmp := hp_1.2.1
  have tmp := mpx_t hmp
  refine lv_iload_n hx hb dX8_legAtFault_6 rfl (lv_at hl 0 rfl) ?_
  refine lv_bipush (v := (-9)) hx hb dX8_legAtFault_7 (by decide) ?_
  refine b_icmp_ne (tgt := 17) hx hb dX8_legAtFault_9 (by decide) (fun c_3 => ?_) (fun c_3 => ?_)
  ·
    refine lv_iload_n hx hb dX8_legAtFault_17 rfl (lv_at hl 0 rfl) ?_
    refine b_if_eq (tgt := 33) hx hb dX8_legAtFault_18 (by decide) (fun c_4 => ?_) (fun c_4 => ?_)
    ·
      refine lv_aload_n hx hb dX8_legAtFault_33 rfl (lv_at hl 1 rfl) ?_
      refine g_65_3 C hU hG hti fl_X8_24 dX8_legAtFault_34 (fun hb_5 => ?_)
      refine lv_iload_n hx hb dX8_legAtFault_37 rfl (lv_at hl 0 rfl) ?_
      refine a_66 C hU hG hb_5 (x := x_2) (by omega) (by omega) dX8_legAtFault_38 (fun r_6 er_7 hb_8 => ?_)
      obtain ⟨j_9, ej_10⟩ : ∃ j, r_6 = some j := (tleg hG hti (by omega) (by omega)).imp (fun _ h => er_7.trans h)
      subst ej_10
      have hl : lv_has ls 3 [(2, .int x_2), (0, .ref (al.2 65 ti)), (1, .int conn)] := hl
      have hb_11 : j_9 < al.1 62 := hb_8 j_9 rfl
      refine lv_goto (tgt := 50) hx hb dX8_legAtFault_39 (by decide) ?_
      exact hret (some j_9) (⟨rfl, rfl, ⟨⟨j_9, rfl, hb_11⟩, by first | exact lfx_2 hmp (by omega) (by omega) (tk_ix hG0 pre0 hti er_7 (by omega) (by omega)) | exact lfx_3 hmp (by omega) (by omega) (tk_ix hG0 pre0 hti er_7 (by omega) (by omega)) | exact lfx_4 hmp (by omega) (by omega) (tk_ix1 (x := x_2) hG0 pre0 hti True.intro (by omega) (by omega) (by omega))⟩⟩) hU hS dX8_legAtFault_50
    ·
      refine lv_aload_n hx hb dX8_legAtFault_21 rfl (lv_at hl 1 rfl) ?_
      refine g_65_3 C hU hG hti fl_X8_24 dX8_legAtFault_22 (fun hb_12 => ?_)
      refine lv_iload_n hx hb dX8_legAtFault_25 rfl (lv_at hl 0 rfl) ?_
      refine a_66 C hU hG hb_12 (x := x_2) (by omega) (by omega) dX8_legAtFault_26 (fun r_13 er_14 hb_15 => ?_)
      obtain ⟨j_16, ej_17⟩ : ∃ j, r_13 = some j := (tleg hG hti (by omega) (by omega)).imp (fun _ h => er_14.trans h)
      subst ej_17
      have hl : lv_has ls 3 [(2, .int x_2), (0, .ref (al.2 65 ti)), (1, .int conn)] := hl
      have hb_18 : j_16 < al.1 62 := hb_15 j_16 rfl
      have hw26 := tk_ix hG0 pre0 hti er_14 (by omega) (by omega)
      have hl26 := lg_done hG0 pre0.1 hb_18 hw26
      refine g_62_7 C hU hG hb_18 fl_X8_48 dX8_legAtFault_27 (fun x_19 e_20 le_20 ue_20 => ?_)
      have te_20 := congrArg Int32.toInt e_20
      refine b_if_ne (tgt := 42) hx hb dX8_legAtFault_30 (by decide) (fun c_21 => ?_) (fun c_21 => ?_)
      ·
        refine lv_aload_n hx hb dX8_legAtFault_42 rfl (lv_at hl 1 rfl) ?_
        refine g_65_3 C hU hG hti fl_X8_24 dX8_legAtFault_43 (fun hb_22 => ?_)
        refine lv_iload_n hx hb dX8_legAtFault_46 rfl (lv_at hl 0 rfl) ?_
        refine lv_iconst (v := 1) hx hb dX8_legAtFault_47 (by decide) ?_
        refine lv_isub hx hb dX8_legAtFault_48 ?_
        refine lv_topi (fun x_23 e_24 => ?_)
        have te_24 : x_23.toInt = (x_2 : Int32).toInt - (1 : Int32).toInt := by rw [e_24]; exact fb_subI (by omega) (by omega)
        refine a_66 C hU hG hb_22 (x := x_23) (by omega) (by omega) dX8_legAtFault_49 (fun r_25 er_26 hb_27 => ?_)
        obtain ⟨j_28, ej_29⟩ : ∃ j, r_25 = some j := (tleg hG hti (by omega) (by omega)).imp (fun _ h => er_26.trans h)
        subst ej_29
        have hl : lv_has ls 3 [(2, .int x_2), (0, .ref (al.2 65 ti)), (1, .int conn)] := hl
        have hb_30 : j_28 < al.1 62 := hb_27 j_28 rfl
        exact hret (some j_28) (⟨rfl, rfl, ⟨⟨j_28, rfl, hb_30⟩, by first | exact lfx_2 hmp (by omega) (by omega) (tk_ix hG0 pre0 hti True.intro (by omega) (by omega)) | exact lfx_3 hmp (by omega) (by omega) (tk_ix hG0 pre0 hti True.intro (by omega) (by omega)) | exact lfx_4 hmp (by omega) (by omega) (tk_ix1 (x := x_2) hG0 pre0 hti er_26 (by omega) (by omega) (by omega))⟩⟩) hU hS dX8_legAtFault_50
      ·
        refine lv_aload_n hx hb dX8_legAtFault_33 rfl (lv_at hl 1 rfl) ?_
        refine g_65_3 C hU hG hti fl_X8_24 dX8_legAtFault_34 (fun hb_31 => ?_)
        refine lv_iload_n hx hb dX8_legAtFault_37 rfl (lv_at hl 0 rfl) ?_
        refine a_66 C hU hG hb_31 (x := x_2) (by omega) (by omega) dX8_legAtFault_38 (fun r_32 er_33 hb_34 => ?_)
        obtain ⟨j_35, ej_36⟩ : ∃ j, r_32 = some j := (tleg hG hti (by omega) (by omega)).imp (fun _ h => er_33.trans h)
        subst ej_36
        have hl : lv_has ls 3 [(2, .int x_2), (0, .ref (al.2 65 ti)), (1, .int conn)] := hl
        have hb_37 : j_35 < al.1 62 := hb_34 j_35 rfl
        refine lv_goto (tgt := 50) hx hb dX8_legAtFault_39 (by decide) ?_
        exact hret (some j_35) (⟨rfl, rfl, ⟨⟨j_35, rfl, hb_37⟩, by first | exact lfx_2 hmp (by omega) (by omega) (tk_ix hG0 pre0 hti er_33 (by omega) (by omega)) | exact lfx_3 hmp (by omega) (by omega) (tk_ix hG0 pre0 hti er_33 (by omega) (by omega)) | exact lfx_4 hmp (by omega) (by omega) (tk_ix1 (x := x_2) hG0 pre0 hti True.intro (by omega) (by omega) (by omega))⟩⟩) hU hS dX8_legAtFault_50
  ·
    refine lv_aload_n hx hb dX8_legAtFault_12 rfl (lv_at hl 1 rfl) ?_
    refine g_65_2 C hU hG hti fl_X8_19 dX8_legAtFault_13 (fun j_38 ej_39 hb_40 => ?_)
    exact hret (some j_38) (⟨rfl, rfl, ⟨⟨j_38, rfl, hb_40⟩, lfx_1 htk hmp (by omega) ej_39⟩⟩) hU hS dX8_legAtFault_16
set_option maxHeartbeats 4000000 in
set_option maxRecDepth 100000 in
theorem c_J7_fill_53178_59x {l : Launch} {D : va_G} {cA : FieldType → ClassId} {sz : Nat} {al : Al} {iv : Iv} {rv : Rv} (hG : GI al iv rv) (v : Int32) : Met l yJ7_fill_53178 (wd yJ7_fill_53178 cJ7_fill_53178 4 none) (rm 0) (PcW D cA sz al iv rv [.ref (al.2 59 0), .int v]) (QV D cA sz al (fV al ([59], []) iv rv (fun iv' rv' => ∀ k : Nat, k < 6 → iv' 59 0 k = v))) 0 0 (Aq sz) := by
  refine mk_v (by decide) (Nat.le_of_ble_eq_true rfl) rfl ?_
  intro p e s m args below meth c ls Q H locs C hU hS hl hret
  have hx := C.1.1
  have hb := C.1.2.1
  have hl : lv_has ls 4 [(0, .ref (al.2 59 0)), (1, .int v)] := hl
  have hG0 := hG
  have hF1 : FR ([59], []) iv iv := FR.rf
  have hF2 : FR ([59], []) rv rv := FR.rf
  have k0 : (0 : Int32).toInt = 0 := by decide
  have k1 : (1 : Int32).toInt = 1 := by decide
  have k6 : (6 : Int32).toInt = 6 := by decide
  refine lv_iconst (v := 0) hx hb dJ7_fill_53178_0 (by decide) ?_
  refine lv_istore_n (lv' := [(2, .int 0), (0, .ref (al.2 59 0)), (1, .int v)]) hx hb dJ7_fill_53178_1 rfl hl (by decide) rfl (fun ls hl => ?_)
  refine lv_aload_n hx hb dJ7_fill_53178_2 rfl (lv_at hl 1 rfl) ?_
  refine q_alen (t := 59) (v := 6) C hU k_59 (by decide) (h1_59 hG) (by decide) dJ7_fill_53178_3 ?_
  refine lv_istore_n (lv' := [(3, .int 6), (2, .int 0), (0, .ref (al.2 59 0)), (1, .int v)]) hx hb dJ7_fill_53178_4 rfl hl (by decide) rfl (fun ls hl => ?_)
  have J_5 : ∀ (n_5 : Nat) (l2_1 : Int32) (iv_2 : Iv) (rv_3 : Rv) (H : Heap) (locs : List Loc) (ls : Array Slot), lv_has ls 4 [(0, .ref (al.2 59 0)), (1, .int v), (3, .int 6), (2, .int l2_1)] → GI al iv_2 rv_3 → FR ([59], []) iv iv_2 → FR ([59], []) rv rv_3 → UW D cA sz al iv_2 rv_3 H → va_S (Aq sz) s.heap H locs → (0 ≤ l2_1.toInt ∧ l2_1.toInt ≤ 6) → (∀ k : Nat, (k : Int) < l2_1.toInt → iv_2 59 0 k = v) → (6 - l2_1.toInt).toNat < n_5 → W p l e (rm 0) s m args below meth c H locs 0 0 Q (F0 m 5 ls []) := by
    intro n_5
    induction n_5 with
    | zero =>
      intro l2_1 iv_2 rv_3 H locs ls hl hG hF1 hF2 hU hS i5_0 i5_1 hm_5
      exact absurd hm_5 (Nat.not_lt_zero _)
    | succ n_5 ih_5 =>
      intro l2_1 iv_2 rv_3 H locs ls hl hG hF1 hF2 hU hS i5_0 i5_1 hm_5
      refine lv_iload_n hx hb dJ7_fill_53178_5 rfl (lv_at hl 3 rfl) ?_
      refine lv_iload_n hx hb dJ7_fill_53178_6 rfl (lv_at hl 2 rfl) ?_
      refine b_icmp_ge (tgt := 20) hx hb dJ7_fill_53178_7 (by decide) (fun c_4 => ?_) (fun c_4 => ?_)
      ·
        exact hret (⟨hG, hF1, hF2, fun k hk => i5_1 k (by omega)⟩) hU hS dJ7_fill_53178_20
      ·
        refine lv_aload_n hx hb dJ7_fill_53178_10 rfl (lv_at hl 0 rfl) ?_
        refine lv_iload_n hx hb dJ7_fill_53178_11 rfl (lv_at hl 3 rfl) ?_
        refine lv_iload_n hx hb dJ7_fill_53178_12 rfl (lv_at hl 1 rfl) ?_
        refine s_59 C hU hS (h1_59 hG) (x := l2_1) (by omega) (by omega) dJ7_fill_53178_13 (fun iv_5 H locs ei_6 hU hS => ?_)
        have hG : GI al iv_5 rv_3 := by rw [ei_6]; exact hG.puti (show _ ∧ _ from ⟨(fb_rng _).1, Int.le_of_lt_add_one (fb_rng _).2⟩) (nsA (by decide) _)
        have hF1 : FR ([59], []) iv iv_5 := by rw [ei_6]; exact hF1.put (Or.inl (by decide))
        obtain ⟨x_7, e_8⟩ : ∃ y : Int32, y = l2_1 + 1 := ⟨_, rfl⟩
        have te_8 : x_7.toInt = (l2_1 : Int32).toInt + (1 : Int32).toInt := by rw [e_8]; exact fb_addI (by omega) (by omega)
        refine lv_iinc (v := x_7) (lv' := [(2, .int x_7), (0, .ref (al.2 59 0)), (1, .int v), (3, .int 6)]) hx hb dJ7_fill_53178_14 hl (k := 3) rfl (by rw [e_8]; rfl) (by decide) rfl (fun ls hl => ?_)
        refine lv_goto (tgt := 5) hx hb dJ7_fill_53178_17 (by decide) ?_
        exact ih_5 x_7 _ _ _ _ _ (lv_sub hl [1, 2, 3, 0] rfl) hG hF1 hF2 hU hS (by omega) (by first | (intro k hk; exfalso; omega) | exact fl_s i5_1 ei_6 (by omega) (by omega)) (by omega)
  exact J_5 _ 0 _ _ _ _ _ (lv_sub hl [2, 3, 0, 1] rfl) hG hF1 hF2 hU hS (by omega) (by first | (intro k hk; exfalso; omega) | exact fl_s i5_1 True.intro (by omega) (by omega)) (Nat.lt_succ_self _)
set_option maxHeartbeats 4000000 in
set_option maxRecDepth 100000 in
theorem c_X10_aheadOf_x {l : Launch} {D : va_G} {cA : FieldType → ClassId} {sz : Nat} {al : Al} {iv : Iv} {rv : Rv} (hG : GI al iv rv) (li : Nat) (hli : li < al.1 62) (crew : Int32) (gap : Int32) (pre0 : BA iv rv) (pre1 : gap = rsF iv crew) : Met l yX10_aheadOf (wd yX10_aheadOf cX10_aheadOf 8 (some (.object "LateClaims$Leg"))) (rm 0) (PcW D cA sz al iv rv [.ref (al.2 57 0), .ref (al.2 62 li), .int crew, .int gap]) (QR D cA sz al 62 (pR iv rv (fun r => (∀ j, r = some j → j < al.1 62) ∧ (r = oI (ahF iv li crew))))) 0 0 (Aq sz) := by
  refine mk_r (by decide) (Nat.le_of_ble_eq_true rfl) rfl ?_
  intro p e s m args below meth c ls Q H locs C hU hS hl hret
  have hx := C.1.1
  have hb := C.1.2.1
  have hl : lv_has ls 8 [(0, .ref (al.2 57 0)), (1, .ref (al.2 62 li)), (2, .int crew), (3, .int gap)] := hl
  have hG0 := hG
  have hn6 := congrArg Int32.toInt pre0.1
  have tgap := congrArg Int32.toInt pre1
  have lfl := lf_i hG pre0.2.1 hli
  have n57 : (iv 57 0 1).toInt = al.1 62 := hG.2.2.2.1.2
  have k0 : (0 : Int32).toInt = 0 := by decide
  have k1 : (1 : Int32).toInt = 1 := by decide
  refine lv_null hx hb dX10_aheadOf_0 ?_
  refine lv_astoreN (lv' := [(4, .null), (0, .ref (al.2 57 0)), (1, .ref (al.2 62 li)), (2, .int crew), (3, .int gap)]) hx hb dX10_aheadOf_1 hl (by decide) rfl (fun ls hl => ?_)
  refine lv_iconst (v := 0) hx hb dX10_aheadOf_3 (by decide) ?_
  refine lv_istore (lv' := [(5, .int 0), (4, .null), (0, .ref (al.2 57 0)), (1, .ref (al.2 62 li)), (2, .int crew), (3, .int gap)]) hx hb dX10_aheadOf_4 hl (by decide) rfl (fun ls hl => ?_)
  have J_6 : ∀ (n_6 : Nat) (r_1 : Option Nat) (l5_3 : Int32) (ls : Array Slot), lv_has ls 8 [(0, .ref (al.2 57 0)), (1, .ref (al.2 62 li)), (2, .int crew), (3, .int gap), (4, rfv al 62 r_1), (5, .int l5_3)] → (∀ j, r_1 = some j → j < al.1 62) → (0 ≤ l5_3.toInt ∧ l5_3.toInt ≤ 40) → r_1 = oI (ahN iv li crew l5_3.toNatClampNeg) → l5_3.toInt ≤ (iv 57 0 1).toInt → (40 - l5_3.toInt).toNat < n_6 → W p l e (rm 0) s m args below meth c H locs 0 0 Q (F0 m 6 ls []) := by
    intro n_6
    induction n_6 with
    | zero =>
      intro r_1 l5_3 ls hl hb_2 i6_0 i6_1 i6_2 hm_6
      exact absurd hm_6 (Nat.not_lt_zero _)
    | succ n_6 ih_6 =>
      intro r_1 l5_3 ls hl hb_2 i6_0 i6_1 i6_2 hm_6
      have hb4 := hb_2
      refine lv_iload hx hb dX10_aheadOf_6 (lv_at hl 5 rfl) ?_
      refine lv_aload_n hx hb dX10_aheadOf_8 rfl (lv_at hl 0 rfl) ?_
      refine g_57_1 C hU hG (h1_57 hG) fl_X10_28 dX10_aheadOf_9 (fun x_4 e_5 le_5 ue_5 => ?_)
      have te_5 := congrArg Int32.toInt e_5
      refine b_icmp_ge (tgt := 129) hx hb dX10_aheadOf_12 (by decide) (fun c_6 => ?_) (fun c_6 => ?_)
      ·
        refine b_aload (al := al) (t' := 62) (r := r_1) hx hb dX10_aheadOf_129 (lv_at hl 4 rfl) ?_
        exact hret (r_1) (⟨rfl, rfl, ⟨hb_2, by rw [i6_1, ahF, clamp_eq (show (l5_3 : Int32).toInt = (iv 0 0 6).toInt by omega)]⟩⟩) hU hS dX10_aheadOf_131
      ·
        refine lv_aload_n hx hb dX10_aheadOf_15 rfl (lv_at hl 0 rfl) ?_
        refine g_57_0 C hU hG (h1_57 hG) fl_X10_13 dX10_aheadOf_16 ?_
        refine lv_iload hx hb dX10_aheadOf_19 (lv_at hl 5 rfl) ?_
        refine a_58 C hU hG (h1_58 hG) (x := l5_3) (by omega) (by omega) dX10_aheadOf_21 (fun r_7 er_8 hb_9 => ?_)
        obtain ⟨j_10, ej_11⟩ : ∃ j, r_7 = some j := ⟨_, er_8.trans (tall hG (by omega) (by omega))⟩
        subst ej_11
        have hl : lv_has ls 8 [(0, .ref (al.2 57 0)), (1, .ref (al.2 62 li)), (2, .int crew), (3, .int gap), (4, rfv al 62 r_1), (5, .int l5_3)] := hl
        have hb_12 : j_10 < al.1 62 := hb_9 j_10 rfl
        refine lv_astore (lv' := [(6, .ref (al.2 62 j_10)), (0, .ref (al.2 57 0)), (1, .ref (al.2 62 li)), (2, .int crew), (3, .int gap), (4, rfv al 62 r_1), (5, .int l5_3)]) hx hb dX10_aheadOf_22 hl (by decide) rfl (fun ls hl => ?_)
        have hj6 := tix hG er_8 (by omega) (by omega)
        have lfj := lf_j hG pre0.2.1 hb_12 hj6
        refine lv_iload_n hx hb dX10_aheadOf_24 rfl (lv_at hl 3 rfl) ?_
        have J_65 : ∀ (v_13 : Int32) (ls : Array Slot), lv_has ls 8 [(0, .ref (al.2 57 0)), (1, .ref (al.2 62 li)), (2, .int crew), (3, .int gap), (4, rfv al 62 r_1), (5, .int l5_3), (6, .ref (al.2 62 j_10))] → (0 ≤ v_13.toInt ∧ v_13.toInt ≤ 1) → ((v_13.toInt = 1 ∧ ((¬ crew.toInt = 0 ∧ (iv 62 j_10 4).toInt = (iv 62 li 4).toInt) ∨ (crew.toInt = 0 ∧ (iv 62 j_10 3).toInt = (iv 62 li 3).toInt))) ∨ (v_13.toInt = 0 ∧ ¬ ((¬ crew.toInt = 0 ∧ (iv 62 j_10 4).toInt = (iv 62 li 4).toInt) ∨ (crew.toInt = 0 ∧ (iv 62 j_10 3).toInt = (iv 62 li 3).toInt)))) → W p l e (rm 0) s m args below meth c H locs 0 0 Q (F0 m 65 ls [.int v_13]) := by
          intro v_13 ls hl i65_0 i65_1
          refine lv_istore (lv' := [(7, .int v_13), (0, .ref (al.2 57 0)), (1, .ref (al.2 62 li)), (2, .int crew), (3, .int gap), (4, rfv al 62 r_1), (5, .int l5_3), (6, .ref (al.2 62 j_10))]) hx hb dX10_aheadOf_65 hl (by decide) rfl (fun ls hl => ?_)
          refine lv_iload hx hb dX10_aheadOf_67 (lv_at hl 0 rfl) ?_
          have J_123 : ∀ (r_14 : Option Nat) (ls : Array Slot), lv_has ls 8 [(0, .ref (al.2 57 0)), (1, .ref (al.2 62 li)), (2, .int crew), (3, .int gap), (5, .int l5_3), (4, rfv al 62 r_14)] → (∀ j, r_14 = some j → j < al.1 62) → r_14 = oI (ahStep iv li crew (ahN iv li crew l5_3.toNatClampNeg) l5_3.toNatClampNeg) → W p l e (rm 0) s m args below meth c H locs 0 0 Q (F0 m 123 ls []) := by
            intro r_14 ls hl hb_15 i123_0
            obtain ⟨x_16, e_17⟩ : ∃ y : Int32, y = l5_3 + 1 := ⟨_, rfl⟩
            have te_17 : x_16.toInt = (l5_3 : Int32).toInt + (1 : Int32).toInt := by rw [e_17]; exact fb_addI (by omega) (by omega)
            refine lv_iinc (v := x_16) (lv' := [(5, .int x_16), (0, .ref (al.2 57 0)), (1, .ref (al.2 62 li)), (2, .int crew), (3, .int gap), (4, rfv al 62 r_14)]) hx hb dX10_aheadOf_123 hl (k := 4) rfl (by rw [e_17]; rfl) (by decide) (by simp [List.filter_cons, rfv_cat]) (fun ls hl => ?_)
            refine lv_goto (tgt := 6) hx hb dX10_aheadOf_126 (by decide) ?_
            exact ih_6 r_14 x_16 _ (lv_sub hl [1, 2, 3, 4, 5, 0] rfl) hb_15 (by omega) (by first | exact ahx_up (by omega) (by omega) i123_0 | exact ahx_0) (by omega) (by omega)
          refine b_if_eq (tgt := 123) hx hb dX10_aheadOf_69 (by decide) (fun c_18 => ?_) (fun c_18 => ?_)
          ·
            exact J_123 r_1 _ (lv_sub hl [1, 2, 3, 4, 6, 5] rfl) hb_2 (by first | exact ahx_no i6_1 (by omega) | exact ahx_yes hG pre0.2.1 hb4 i6_1 i119_0 hj6 (by omega) ⟨by omega, by omega, by omega⟩)
          ·
            refine lv_aload hx hb dX10_aheadOf_72 (lv_at hl 7 rfl) ?_
            refine g_62_2 C hU hG hb_12 fl_X10_52 dX10_aheadOf_74 (fun j_19 ej_20 hb_21 => ?_)
            have hp1 := lf_to hG pre0.2.1 hb_12 hj6 ej_20
            refine lv_aload_n hx hb dX10_aheadOf_77 rfl (lv_at hl 2 rfl) ?_
            refine g_62_1 C hU hG hli fl_X10_56 dX10_aheadOf_78 (fun j_22 ej_23 hb_24 => ?_)
            have hp2 := lf_fr hG pre0.2.1 hli ej_23
            refine b_acmp_ne (tgt := 123) hx hb hU hb_21 hb_24 dX10_aheadOf_81 (by decide) (fun c_25 => ?_) (fun c_25 => ?_)
            ·
              exact J_123 r_1 _ (lv_sub hl [1, 2, 3, 4, 6, 5] rfl) hb_2 (by first | exact ahx_no i6_1 (by omega) | exact ahx_yes hG pre0.2.1 hb4 i6_1 i119_0 hj6 (by omega) ⟨by omega, by omega, by omega⟩)
            ·
              refine lv_aload_n hx hb dX10_aheadOf_84 rfl (lv_at hl 2 rfl) ?_
              refine g_62_5 C hU hG hli fl_X10_59 dX10_aheadOf_85 (fun x_26 e_27 le_27 ue_27 => ?_)
              have te_27 := congrArg Int32.toInt e_27
              refine lv_aload hx hb dX10_aheadOf_88 (lv_at hl 7 rfl) ?_
              refine g_62_6 C hU hG hb_12 fl_X10_62 dX10_aheadOf_90 (fun x_28 e_29 le_29 ue_29 => ?_)
              have te_29 := congrArg Int32.toInt e_29
              refine lv_isub hx hb dX10_aheadOf_93 ?_
              refine lv_topi (fun x_30 e_31 => ?_)
              have te_31 : x_30.toInt = (x_26 : Int32).toInt - (x_28 : Int32).toInt := by rw [e_31]; exact fb_subI (by omega) (by omega)
              refine lv_iload_n hx hb dX10_aheadOf_94 rfl (lv_at hl 4 rfl) ?_
              refine b_icmp_ge (tgt := 101) hx hb dX10_aheadOf_95 (by decide) (fun c_32 => ?_) (fun c_32 => ?_)
              ·
                refine b_aload (al := al) (t' := 62) (r := r_1) hx hb dX10_aheadOf_101 (lv_at hl 5 rfl) ?_
                have J_119 : ∀ (ls : Array Slot), lv_has ls 8 [(0, .ref (al.2 57 0)), (1, .ref (al.2 62 li)), (2, .int crew), (3, .int gap), (5, .int l5_3), (6, .ref (al.2 62 j_10))] → (∀ q : Nat, r_1 = some q → (iv 62 q 6).toInt ≤ (iv 62 j_10 6).toInt) → W p l e (rm 0) s m args below meth c H locs 0 0 Q (F0 m 119 ls []) := by
                  intro ls hl i119_0
                  refine lv_aload hx hb dX10_aheadOf_119 (lv_at hl 5 rfl) ?_
                  refine lv_astore (lv' := [(4, .ref (al.2 62 j_10)), (0, .ref (al.2 57 0)), (1, .ref (al.2 62 li)), (2, .int crew), (3, .int gap), (5, .int l5_3), (6, .ref (al.2 62 j_10))]) hx hb dX10_aheadOf_121 hl (by decide) rfl (fun ls hl => ?_)
                  exact J_123 (some j_10) _ (lv_sub hl [1, 2, 3, 4, 5, 0] rfl) (fun _ h => by cases h; exact hb_12) (by first | exact ahx_no i6_1 (by omega) | exact ahx_yes hG pre0.2.1 hb4 i6_1 i119_0 hj6 (by omega) ⟨by omega, by omega, by omega⟩)
                refine b_ifnull (tgt := 119) hx hb dX10_aheadOf_103 (by decide) (fun ej_35 => ?_) (fun j_34 ej_35 => ?_)
                ·
                  subst ej_35
                  have hl : lv_has ls 8 [(7, .int v_13), (0, .ref (al.2 57 0)), (1, .ref (al.2 62 li)), (2, .int crew), (3, .int gap), (4, rfv al 62 none), (5, .int l5_3), (6, .ref (al.2 62 j_10))] := hl
                  have hb1 := oI_none i6_1
                  exact J_119 _ (lv_sub hl [1, 2, 3, 4, 6, 7] rfl) (by first | (intro _ h; cases h; done) | (intro _ h; cases h; omega))
                ·
                  subst ej_35
                  have hl : lv_has ls 8 [(7, .int v_13), (0, .ref (al.2 57 0)), (1, .ref (al.2 62 li)), (2, .int crew), (3, .int gap), (4, .ref (al.2 62 j_34)), (5, .int l5_3), (6, .ref (al.2 62 j_10))] := hl
                  have hb_36 : j_34 < al.1 62 := hb_2 j_34 rfl
                  have hb1 := oI_some i6_1
                  have hb2 := lf_b hG pre0.2.1 hb_36 hb1.2
                  refine lv_aload hx hb dX10_aheadOf_106 (lv_at hl 7 rfl) ?_
                  refine g_62_6 C hU hG hb_12 fl_X10_62 dX10_aheadOf_108 (fun x_37 e_38 le_38 ue_38 => ?_)
                  have te_38 := congrArg Int32.toInt e_38
                  refine lv_aload hx hb dX10_aheadOf_111 (lv_at hl 5 rfl) ?_
                  refine g_62_6 C hU hG hb_36 fl_X10_62 dX10_aheadOf_113 (fun x_39 e_40 le_40 ue_40 => ?_)
                  have te_40 := congrArg Int32.toInt e_40
                  refine b_icmp_lt (tgt := 123) hx hb dX10_aheadOf_116 (by decide) (fun c_41 => ?_) (fun c_41 => ?_)
                  ·
                    exact J_123 (some j_34) _ (lv_sub hl [1, 2, 3, 4, 6, 5] rfl) (fun _ h => by cases h; exact hb_36) (by first | exact ahx_no i6_1 (by omega) | exact ahx_yes hG pre0.2.1 hb4 i6_1 i119_0 hj6 (by omega) ⟨by omega, by omega, by omega⟩)
                  ·
                    exact J_119 _ (lv_sub hl [1, 2, 3, 4, 6, 7] rfl) (by first | (intro _ h; cases h; done) | (intro _ h; cases h; omega))
              ·
                refine lv_goto (tgt := 123) hx hb dX10_aheadOf_98 (by decide) ?_
                exact J_123 r_1 _ (lv_sub hl [1, 2, 3, 4, 6, 5] rfl) hb_2 (by first | exact ahx_no i6_1 (by omega) | exact ahx_yes hG pre0.2.1 hb4 i6_1 i119_0 hj6 (by omega) ⟨by omega, by omega, by omega⟩)
        refine b_if_eq (tgt := 48) hx hb dX10_aheadOf_25 (by decide) (fun c_42 => ?_) (fun c_42 => ?_)
        ·
          refine lv_aload hx hb dX10_aheadOf_48 (lv_at hl 0 rfl) ?_
          refine g_62_3 C hU hG hb_12 fl_X10_49 dX10_aheadOf_50 (fun x_43 e_44 le_44 ue_44 => ?_)
          have te_44 := congrArg Int32.toInt e_44
          refine lv_aload_n hx hb dX10_aheadOf_53 rfl (lv_at hl 2 rfl) ?_
          refine g_62_3 C hU hG hli fl_X10_49 dX10_aheadOf_54 (fun x_45 e_46 le_46 ue_46 => ?_)
          have te_46 := congrArg Int32.toInt e_46
          refine b_icmp_ne (tgt := 64) hx hb dX10_aheadOf_57 (by decide) (fun c_47 => ?_) (fun c_47 => ?_)
          ·
            refine lv_iconst (v := 0) hx hb dX10_aheadOf_64 (by decide) ?_
            exact J_65 0 _ (lv_sub hl [1, 2, 3, 4, 5, 6, 0] rfl) (by omega) (by omega)
          ·
            refine lv_iconst (v := 1) hx hb dX10_aheadOf_60 (by decide) ?_
            refine lv_goto (tgt := 65) hx hb dX10_aheadOf_61 (by decide) ?_
            exact J_65 1 _ (lv_sub hl [1, 2, 3, 4, 5, 6, 0] rfl) (by omega) (by omega)
        ·
          refine lv_aload hx hb dX10_aheadOf_28 (lv_at hl 0 rfl) ?_
          refine g_62_4 C hU hG hb_12 fl_X10_46 dX10_aheadOf_30 (fun x_48 e_49 le_49 ue_49 => ?_)
          have te_49 := congrArg Int32.toInt e_49
          refine lv_aload_n hx hb dX10_aheadOf_33 rfl (lv_at hl 2 rfl) ?_
          refine g_62_4 C hU hG hli fl_X10_46 dX10_aheadOf_34 (fun x_50 e_51 le_51 ue_51 => ?_)
          have te_51 := congrArg Int32.toInt e_51
          refine b_icmp_ne (tgt := 44) hx hb dX10_aheadOf_37 (by decide) (fun c_52 => ?_) (fun c_52 => ?_)
          ·
            refine lv_iconst (v := 0) hx hb dX10_aheadOf_44 (by decide) ?_
            refine lv_goto (tgt := 65) hx hb dX10_aheadOf_45 (by decide) ?_
            exact J_65 0 _ (lv_sub hl [1, 2, 3, 4, 5, 6, 0] rfl) (by omega) (by omega)
          ·
            refine lv_iconst (v := 1) hx hb dX10_aheadOf_40 (by decide) ?_
            refine lv_goto (tgt := 65) hx hb dX10_aheadOf_41 (by decide) ?_
            exact J_65 1 _ (lv_sub hl [1, 2, 3, 4, 5, 6, 0] rfl) (by omega) (by omega)
  exact J_6 _ none 0 _ (lv_sub hl [2, 3, 4, 5, 1, 0] rfl) (fun _ h => by cases h) (by omega) (by first | exact ahx_up (by omega) (by omega) i123_0 | exact ahx_0) (by omega) (Nat.lt_succ_self _)
set_option maxHeartbeats 4000000 in
set_option maxRecDepth 100000 in
theorem c_X5_waitFor_x {l : Launch} {D : va_G} {cA : FieldType → ClassId} {sz : Nat} {al : Al} {iv : Iv} {rv : Rv} (hG : GI al iv rv) (li : Nat) (hli : li < al.1 62) (bf : Option Nat) (hbf : ∀ j, bf = some j → j < al.1 62) (gap : Int32) : Met l yX5_waitFor (wd yX5_waitFor cX5_waitFor 4 (some .int)) (rm 1) (PcW D cA sz al iv rv [.ref (al.2 62 li), rfv al 62 bf, .int gap]) (QI D cA sz al (pI iv rv (fun r => r = wfX iv li bf gap))) 0 0 (Aq sz) := by
  cases bf with
  | none =>
    refine mk_i (by decide) (Nat.le_of_ble_eq_true rfl) rfl ?_
    intro p e s m args below meth c ls Q H locs C hU hS hl hret
    have hx := C.1.1
    have hb := C.1.2.1
    have hl : lv_has ls 4 [(0, .ref (al.2 62 li)), (1, .null), (2, .int gap)] := hl
    have hG0 := hG
    have k0 : (0 : Int32).toInt = 0 := by decide
    refine lv_aload_nN hx hb dX5_waitFor_0 rfl (lv_at hl 1 rfl) ?_
    refine lv_ifnullN (tgt := 11) hx hb dX5_waitFor_1 (by decide) ?_
    refine lv_iconst (v := 0) hx hb dX5_waitFor_11 (by decide) ?_
    exact hret (⟨rfl, rfl, by first | rfl | exact (wfX_0 (by omega)).symm⟩) hU hS dX5_waitFor_12
  | some bf_j =>
    have hbf_j : bf_j < al.1 62 := hbf bf_j rfl
    refine mk_i (by decide) (Nat.le_of_ble_eq_true rfl) rfl ?_
    intro p e s m args below meth c ls Q H locs C hU hS hl hret
    have hx := C.1.1
    have hb := C.1.2.1
    have hl : lv_has ls 4 [(0, .ref (al.2 62 li)), (1, .ref (al.2 62 bf_j)), (2, .int gap)] := hl
    have hG0 := hG
    have k0 : (0 : Int32).toInt = 0 := by decide
    refine lv_aload_n hx hb dX5_waitFor_0 rfl (lv_at hl 1 rfl) ?_
    refine lv_ifnull hx hb dX5_waitFor_1 ?_
    refine lv_aload_n hx hb dX5_waitFor_4 rfl (lv_at hl 1 rfl) ?_
    refine g_62_7 C hU hG hbf_j fl_X5_38 dX5_waitFor_5 (fun x_2 e_3 le_3 ue_3 => ?_)
    have te_3 := congrArg Int32.toInt e_3
    refine b_if_ne (tgt := 13) hx hb dX5_waitFor_8 (by decide) (fun c_4 => ?_) (fun c_4 => ?_)
    ·
      refine lv_iconst (v := 0) hx hb dX5_waitFor_13 (by decide) ?_
      refine lv_aload_n hx hb dX5_waitFor_14 rfl (lv_at hl 1 rfl) ?_
      refine g_62_11 C hU hG hbf_j fl_X5_59 dX5_waitFor_15 (fun x_5 e_6 => ?_)
      have te_6 := congrArg Int32.toInt e_6
      refine lv_iload_n hx hb dX5_waitFor_18 rfl (lv_at hl 2 rfl) ?_
      refine lv_iadd hx hb dX5_waitFor_19 ?_
      refine lv_topi (fun x_7 e_8 => ?_)
      refine lv_aload_n hx hb dX5_waitFor_20 rfl (lv_at hl 0 rfl) ?_
      refine g_62_5 C hU hG hli fl_X5_26 dX5_waitFor_21 (fun x_9 e_10 le_10 ue_10 => ?_)
      have te_10 := congrArg Int32.toInt e_10
      refine lv_isub hx hb dX5_waitFor_24 ?_
      refine lv_topi (fun x_11 e_12 => ?_)
      refine q_max C hl.1 ml_X5_50 (Nat.le_of_ble_eq_true rfl) (Nat.le_of_ble_eq_true rfl) (Nat.le_refl _) (Nat.le_refl _) dX5_waitFor_25 (fun x_13 q_14 tq_14 => ?_)
      refine lv_istore_n (lv' := [(3, .int x_13), (0, .ref (al.2 62 li)), (1, .ref (al.2 62 bf_j)), (2, .int gap)]) hx hb dX5_waitFor_28 rfl hl (by decide) rfl (fun ls hl => ?_)
      refine lv_iload_n hx hb dX5_waitFor_29 rfl (lv_at hl 0 rfl) ?_
      refine lv_aload_n hx hb dX5_waitFor_30 rfl (lv_at hl 1 rfl) ?_
      refine g_62_12 C hU hG hli fl_X5_62 dX5_waitFor_31 (fun x_15 e_16 => ?_)
      have te_16 := congrArg Int32.toInt e_16
      refine q_min C hl.1 ml_X5_68 (Nat.le_of_ble_eq_true rfl) (Nat.le_of_ble_eq_true rfl) (Nat.le_refl _) (Nat.le_refl _) dX5_waitFor_34 (fun x_17 q_18 tq_18 => ?_)
      exact hret (⟨rfl, rfl, by rw [q_18, q_14]; exact wfX_1 e_6 e_8 e_10 e_12 e_16 (by omega)⟩) hU hS dX5_waitFor_37
    ·
      refine lv_iconst (v := 0) hx hb dX5_waitFor_11 (by decide) ?_
      exact hret (⟨rfl, rfl, by first | rfl | exact (wfX_0 (by omega)).symm⟩) hU hS dX5_waitFor_12
set_option maxHeartbeats 4000000 in
set_option maxRecDepth 100000 in
theorem c_X10_trace_x {l : Launch} {D : va_G} {cA : FieldType → ClassId} {sz : Nat} {al : Al} {iv : Iv} {rv : Rv} (hG : GI al iv rv) (li : Nat) (hli : li < al.1 62) (turn : Int32) (rest_ : Int32) (pre0 : BC iv rv) (pre1 : ¬ (iv 62 li 7).toInt = 0) (pre2 : turn = iv 15 0 0) (pre3 : rest_ = iv 15 0 1) : Met l yX10_trace (wd yX10_trace cX10_trace 13 none) (rm 2) (PcW D cA sz al iv rv [.ref (al.2 57 0), .ref (al.2 62 li), .int turn, .int rest_]) (QV D cA sz al (fV al ([59], []) iv rv (fun iv' rv' => ∀ k : Nat, k < 6 → iv' 59 0 k = mtF iv li k))) 0 0 (Aq sz) := by
  refine mk_v (by decide) (Nat.le_of_ble_eq_true rfl) rfl ?_
  intro p e s m args below meth c ls Q H locs C hU hS hl hret
  have hx := C.1.1
  have hb := C.1.2.1
  have hl : lv_has ls 13 [(0, .ref (al.2 57 0)), (1, .ref (al.2 62 li)), (2, .int turn), (3, .int rest_)] := hl
  have hG0 := hG
  have hF1 : FR ([59], []) iv iv := FR.rf
  have hF2 : FR ([59], []) rv rv := FR.rf
  have k0 : (0 : Int32).toInt = 0 := by decide
  have k1 : (1 : Int32).toInt = 1 := by decide
  have k40 : (40 : Int32).toInt = 40 := by decide
  refine lv_aload_n hx hb dX10_trace_0 rfl (lv_at hl 0 rfl) ?_
  refine g_57_2 C hU hG (h1_57 hG) fl_X10_17 dX10_trace_1 ?_
  refine lv_iconst (v := 0) hx hb dX10_trace_4 (by decide) ?_
  refine q_fv (q_runS (As := [.ref (al.2 59 0), .int 0]) (rest := []) C hU (c_J7_fill_53178_59x hG 0 ) sm_J7_fill_53178 ml_X10_65 hl.1 rfl rfl (Nat.le_of_ble_eq_true rfl) dX10_trace_5 rfl rfl ⟨Nat.le_of_ble_eq_true rfl, Nat.le_of_ble_eq_true rfl⟩ ⟨Nat.le_refl _, Nat.le_refl _⟩) hS (fun iv_2 rv_3 H locs hG fa_4 fb_5 hp_1 hU hS => ?_)
  have hF1 := hF1.tr (m := ([59], [])) fa_4 (by decide)
  have hF2 := hF2.tr (m := ([59], [])) fb_5 (by decide)
  refine lv_aload_n hx hb dX10_trace_8 rfl (lv_at hl 1 rfl) ?_
  refine lv_astore (lv' := [(4, .ref (al.2 62 li)), (0, .ref (al.2 57 0)), (1, .ref (al.2 62 li)), (2, .int turn), (3, .int rest_)]) hx hb dX10_trace_9 hl (by decide) rfl (fun ls hl => ?_)
  refine lv_aload_n hx hb dX10_trace_11 rfl (lv_at hl 2 rfl) ?_
  refine g_62_13 C hU hG hli fl_X10_71 dX10_trace_12 (fun x_6 e_7 => ?_)
  have te_7 := congrArg Int32.toInt e_7
  have ne_7 : x_6.toInt = (iv 62 li 13).toInt := by rw [e_7, hF1 62 li 13 (by decide)]
  refine lv_istore (lv' := [(5, .int x_6), (4, .ref (al.2 62 li)), (0, .ref (al.2 57 0)), (1, .ref (al.2 62 li)), (2, .int turn), (3, .int rest_)]) hx hb dX10_trace_15 hl (by decide) rfl (fun ls hl => ?_)
  refine lv_iconst (v := 0) hx hb dX10_trace_17 (by decide) ?_
  refine lv_istore (lv' := [(6, .int 0), (5, .int x_6), (4, .ref (al.2 62 li)), (0, .ref (al.2 57 0)), (1, .ref (al.2 62 li)), (2, .int turn), (3, .int rest_)]) hx hb dX10_trace_18 hl (by decide) rfl (fun ls hl => ?_)
  have J_20 : ∀ (n_20 : Nat) (r_8 : Option Nat) (l5_10 : Int32) (l6_11 : Int32) (iv_12 : Iv) (rv_13 : Rv) (H : Heap) (locs : List Loc) (ls : Array Slot), lv_has ls 13 [(0, .ref (al.2 57 0)), (2, .int turn), (3, .int rest_), (4, rfv al 62 r_8), (5, .int l5_10), (6, .int l6_11)] → (∀ j, r_8 = some j → j < al.1 62) → GI al iv_12 rv_13 → FR ([59], []) iv iv_12 → FR ([59], []) rv rv_13 → UW D cA sz al iv_12 rv_13 H → va_S (Aq sz) s.heap H locs → (0 ≤ l6_11.toInt ∧ l6_11.toInt ≤ 40) → trI iv iv_12 li r_8 l5_10 l6_11.toNatClampNeg → (40 - l6_11.toInt).toNat < n_20 → W p l e (rm 2) s m args below meth c H locs 0 0 Q (F0 m 20 ls []) := by
    intro n_20
    induction n_20 with
    | zero =>
      intro r_8 l5_10 l6_11 iv_12 rv_13 H locs ls hl hb_9 hG hF1 hF2 hU hS i20_0 i20_1 hm_20
      exact absurd hm_20 (Nat.not_lt_zero _)
    | succ n_20 ih_20 =>
      intro r_8 l5_10 l6_11 iv_12 rv_13 H locs ls hl hb_9 hG hF1 hF2 hU hS i20_0 i20_1 hm_20
      have hMA := ma_fr hF1
      have hBC := bc_fr hG0 pre0 hF1 hF2
      refine lv_iload hx hb dX10_trace_20 (lv_at hl 5 rfl) ?_
      refine lv_bipush (v := 40) hx hb dX10_trace_22 (by decide) ?_
      refine b_icmp_ge (tgt := 147) hx hb dX10_trace_24 (by decide) (fun c_14 => ?_) (fun c_14 => ?_)
      ·
        exact hret (⟨hG, hF1, hF2, by first | exact tr_e1 i20_1 (by omega) | exact tr_e2 i20_1 (by omega) (by omega) | exact tr_e3 i20_1 (by omega)⟩) hU hS dX10_trace_147
      ·
        refine b_aload (al := al) (t' := 62) (r := r_8) hx hb dX10_trace_27 (lv_at hl 3 rfl) ?_
        refine b_ifnull (tgt := 147) hx hb dX10_trace_29 (by decide) (fun ej_17 => ?_) (fun j_16 ej_17 => ?_)
        ·
          subst ej_17
          have hl : lv_has ls 13 [(0, .ref (al.2 57 0)), (2, .int turn), (3, .int rest_), (4, rfv al 62 none), (5, .int l5_10), (6, .int l6_11)] := hl
          exact hret (⟨hG, hF1, hF2, by first | exact tr_e1 i20_1 (by omega) | exact tr_e2 i20_1 (by omega) (by omega) | exact tr_e3 i20_1 (by omega)⟩) hU hS dX10_trace_147
        ·
          subst ej_17
          have hl : lv_has ls 13 [(0, .ref (al.2 57 0)), (2, .int turn), (3, .int rest_), (4, .ref (al.2 62 j_16)), (5, .int l5_10), (6, .int l6_11)] := hl
          have hb_18 : j_16 < al.1 62 := hb_9 j_16 rfl
          have hb4 := hb_18
          refine lv_iload hx hb dX10_trace_32 (lv_at hl 4 rfl) ?_
          refine b_if_le (tgt := 147) hx hb dX10_trace_34 (by decide) (fun c_19 => ?_) (fun c_19 => ?_)
          ·
            exact hret (⟨hG, hF1, hF2, by first | exact tr_e1 i20_1 (by omega) | exact tr_e2 i20_1 (by omega) (by omega) | exact tr_e3 i20_1 (by omega)⟩) hU hS dX10_trace_147
          ·
            have hat := i20_1.2.2 (by omega)
            have hlg := tr_lg hG0 hat
            have hlg2 : ¬ (iv_12 62 j_16 7).toInt = 0 := by rw [hF1 62 j_16 7 (by decide)]; exact hlg
            refine lv_aload_n hx hb dX10_trace_37 rfl (lv_at hl 0 rfl) ?_
            refine lv_aload hx hb dX10_trace_38 (lv_at hl 3 rfl) ?_
            refine lv_iconst (v := 0) hx hb dX10_trace_40 (by decide) ?_
            refine lv_iload_n hx hb dX10_trace_41 rfl (lv_at hl 1 rfl) ?_
            refine q_pr (q_runV (t := 57) (i := 0) (As := [.ref (al.2 62 j_16), .int 0, .int turn]) (rest := []) C hU (c_X10_aheadOf_x hG (j_16) hb_18 0 turn (hBC.1.1) (tr_g0 hMA pre2)) vm_X10_aheadOf ml_X10_74 k_57.1 (hc := rfl) rfl (h1_57 hG) hl.1 rfl rfl (Nat.le_of_ble_eq_true rfl) dX10_trace_42 rfl rfl ⟨Nat.le_of_ble_eq_true rfl, Nat.le_of_ble_eq_true rfl⟩ ⟨Nat.le_refl _, Nat.le_refl _⟩) hS (fun r_21 H locs hp_20 hU hS => ?_)
            have hb_22 := hp_20.1
            have h42 := hp_20.2.trans (congrArg oI (ah_m hMA _ _))
            refine b_astore (lv' := [(7, rfv al 62 r_21), (0, .ref (al.2 57 0)), (2, .int turn), (3, .int rest_), (4, .ref (al.2 62 j_16)), (5, .int l5_10), (6, .int l6_11)]) hx hb dX10_trace_45 hl (by decide) rfl (fun ls hl => ?_)
            refine lv_aload_n hx hb dX10_trace_47 rfl (lv_at hl 1 rfl) ?_
            refine lv_aload hx hb dX10_trace_48 (lv_at hl 4 rfl) ?_
            refine lv_iconst (v := 1) hx hb dX10_trace_50 (by decide) ?_
            refine lv_iload_n hx hb dX10_trace_51 rfl (lv_at hl 3 rfl) ?_
            refine q_pr (q_runV (t := 57) (i := 0) (As := [.ref (al.2 62 j_16), .int 1, .int rest_]) (rest := []) C hU (c_X10_aheadOf_x hG (j_16) hb_18 1 rest_ (hBC.1.1) (tr_g1 hMA pre3)) vm_X10_aheadOf ml_X10_74 k_57.1 (hc := rfl) rfl (h1_57 hG) hl.1 rfl rfl (Nat.le_of_ble_eq_true rfl) dX10_trace_52 rfl rfl ⟨Nat.le_of_ble_eq_true rfl, Nat.le_of_ble_eq_true rfl⟩ ⟨Nat.le_refl _, Nat.le_refl _⟩) hS (fun r_24 H locs hp_23 hU hS => ?_)
            have hb_25 := hp_23.1
            have h52 := hp_23.2.trans (congrArg oI (ah_m hMA _ _))
            refine b_astore (lv' := [(8, rfv al 62 r_24), (7, rfv al 62 r_21), (0, .ref (al.2 57 0)), (2, .int turn), (3, .int rest_), (4, .ref (al.2 62 j_16)), (5, .int l5_10), (6, .int l6_11)]) hx hb dX10_trace_55 hl (by decide) (by simp [List.filter_cons, rfv_cat]) (fun ls hl => ?_)
            refine lv_aload hx hb dX10_trace_57 (lv_at hl 5 rfl) ?_
            refine b_aload (al := al) (t' := 62) (r := r_21) hx hb dX10_trace_59 (lv_at hl 1 rfl) ?_
            refine lv_iload_n hx hb dX10_trace_61 rfl (lv_at hl 3 rfl) ?_
            refine q_pi (q_runV (t := 62) (i := j_16) (As := [rfv al 62 r_21, .int turn]) (rest := []) C hU (c_X5_waitFor_x hG (j_16) hb_18 r_21 hb_22 turn ) vm_X5_waitFor ml_X10_78 k_62.1 (hc := rfl) rfl hb_18 hl.1 rfl rfl (Nat.le_of_ble_eq_true rfl) dX10_trace_62 rfl rfl ⟨Nat.le_of_ble_eq_true rfl, Nat.le_of_ble_eq_true rfl⟩ ⟨Nat.le_refl _, Nat.le_refl _⟩) hS (fun x_27 H locs hp_26 hU hS => ?_)
            have hw0 := tr_w hG hBC.1 hb4 hlg2 hp_20.2 (tr_g0 hMA pre2) hp_26 hMA
            refine lv_istore (lv' := [(9, .int x_27), (8, rfv al 62 r_24), (7, rfv al 62 r_21), (0, .ref (al.2 57 0)), (2, .int turn), (3, .int rest_), (4, .ref (al.2 62 j_16)), (5, .int l5_10), (6, .int l6_11)]) hx hb dX10_trace_65 hl (by decide) (by simp [List.filter_cons, rfv_cat]) (fun ls hl => ?_)
            refine lv_aload hx hb dX10_trace_67 (lv_at hl 6 rfl) ?_
            refine b_aload (al := al) (t' := 62) (r := r_24) hx hb dX10_trace_69 (lv_at hl 1 rfl) ?_
            refine lv_iload_n hx hb dX10_trace_71 rfl (lv_at hl 5 rfl) ?_
            refine q_pi (q_runV (t := 62) (i := j_16) (As := [rfv al 62 r_24, .int rest_]) (rest := []) C hU (c_X5_waitFor_x hG (j_16) hb_18 r_24 hb_25 rest_ ) vm_X5_waitFor ml_X10_78 k_62.1 (hc := rfl) rfl hb_18 hl.1 rfl rfl (Nat.le_of_ble_eq_true rfl) dX10_trace_72 rfl rfl ⟨Nat.le_of_ble_eq_true rfl, Nat.le_of_ble_eq_true rfl⟩ ⟨Nat.le_refl _, Nat.le_refl _⟩) hS (fun x_29 H locs hp_28 hU hS => ?_)
            have hw1 := tr_w hG hBC.1 hb4 hlg2 hp_23.2 (tr_g1 hMA pre3) hp_28 hMA
            refine lv_istore (lv' := [(10, .int x_29), (9, .int x_27), (8, rfv al 62 r_24), (7, rfv al 62 r_21), (0, .ref (al.2 57 0)), (2, .int turn), (3, .int rest_), (4, .ref (al.2 62 j_16)), (5, .int l5_10), (6, .int l6_11)]) hx hb dX10_trace_75 hl (by decide) rfl (fun ls hl => ?_)
            refine lv_aload hx hb dX10_trace_77 (lv_at hl 7 rfl) ?_
            refine g_62_13 C hU hG hb_18 fl_X10_71 dX10_trace_79 (fun x_30 e_31 => ?_)
            have te_31 := congrArg Int32.toInt e_31
            have ne_31 : x_30.toInt = (iv 62 j_16 13).toInt := by rw [e_31, hF1 62 j_16 13 (by decide)]
            refine lv_iload hx hb dX10_trace_82 (lv_at hl 1 rfl) ?_
            refine lv_iload hx hb dX10_trace_84 (lv_at hl 0 rfl) ?_
            refine q_max C hl.1 ml_X10_82 (Nat.le_of_ble_eq_true rfl) (Nat.le_of_ble_eq_true rfl) (Nat.le_refl _) (Nat.le_refl _) dX10_trace_86 (fun x_32 q_33 tq_33 => ?_)
            refine q_min C hl.1 ml_X10_88 (Nat.le_of_ble_eq_true rfl) (Nat.le_of_ble_eq_true rfl) (Nat.le_refl _) (Nat.le_refl _) dX10_trace_89 (fun x_34 q_35 tq_35 => ?_)
            refine lv_istore (lv' := [(11, .int x_34), (10, .int x_29), (9, .int x_27), (8, rfv al 62 r_24), (7, rfv al 62 r_21), (0, .ref (al.2 57 0)), (2, .int turn), (3, .int rest_), (4, .ref (al.2 62 j_16)), (5, .int l5_10), (6, .int l6_11)]) hx hb dX10_trace_92 hl (by decide) rfl (fun ls hl => ?_)
            refine lv_iload hx hb dX10_trace_94 (lv_at hl 9 rfl) ?_
            refine lv_iload hx hb dX10_trace_96 (lv_at hl 0 rfl) ?_
            refine q_min C hl.1 ml_X10_88 (Nat.le_of_ble_eq_true rfl) (Nat.le_of_ble_eq_true rfl) (Nat.le_refl _) (Nat.le_refl _) dX10_trace_98 (fun x_36 q_37 tq_37 => ?_)
            have hled := tr_led hG hBC.1 hb4 hlg2 e_31 q_33 q_35 q_37 hw0 hw1 hMA
            refine lv_istore (lv' := [(12, .int x_36), (11, .int x_34), (10, .int x_29), (9, .int x_27), (8, rfv al 62 r_24), (7, rfv al 62 r_21), (0, .ref (al.2 57 0)), (2, .int turn), (3, .int rest_), (4, .ref (al.2 62 j_16)), (5, .int l5_10), (6, .int l6_11)]) hx hb dX10_trace_101 hl (by decide) rfl (fun ls hl => ?_)
            refine lv_aload_n hx hb dX10_trace_103 rfl (lv_at hl 6 rfl) ?_
            refine g_57_2 C hU hG (h1_57 hG) fl_X10_17 dX10_trace_104 ?_
            refine lv_aload hx hb dX10_trace_107 (lv_at hl 9 rfl) ?_
            refine g_62_14 C hU hG hb_18 fl_X10_91 dX10_trace_109 (fun x_38 e_39 le_39 ue_39 => ?_)
            have te_39 := congrArg Int32.toInt e_39
            have ne_39 : x_38.toInt = (iv 62 j_16 14).toInt := by rw [e_39, hF1 62 j_16 14 (by decide)]
            refine lv_dup2_11 hx hb dX10_trace_112 rfl rfl ?_
            refine a_59 C hU hG (h1_59 hG) (x := x_38) (by omega) (by omega) dX10_trace_113 (fun x_40 e_41 => ?_)
            have te_41 := congrArg Int32.toInt e_41
            refine lv_iload hx hb dX10_trace_114 (lv_at hl 10 rfl) ?_
            refine lv_iload hx hb dX10_trace_116 (lv_at hl 0 rfl) ?_
            refine lv_isub hx hb dX10_trace_118 ?_
            refine lv_topi (fun x_42 e_43 => ?_)
            refine lv_iadd hx hb dX10_trace_119 ?_
            refine lv_topi (fun x_44 e_45 => ?_)
            have hFb := hF1
            refine s_59 C hU hS (h1_59 hG) (x := x_38) (by omega) (by omega) dX10_trace_120 (fun iv_46 H locs ei_47 hU hS => ?_)
            have hG : GI al iv_46 rv_13 := by rw [ei_47]; exact hG.puti (show _ ∧ _ from ⟨(fb_rng _).1, Int.le_of_lt_add_one (fb_rng _).2⟩) (nsA (by decide) _)
            have hF1 : FR ([59], []) iv iv_46 := by rw [ei_47]; exact hF1.put (Or.inl (by decide))
            refine lv_iload hx hb dX10_trace_121 (lv_at hl 0 rfl) ?_
            refine lv_istore (lv' := [(5, .int x_36), (12, .int x_36), (11, .int x_34), (10, .int x_29), (9, .int x_27), (8, rfv al 62 r_24), (7, rfv al 62 r_21), (0, .ref (al.2 57 0)), (2, .int turn), (3, .int rest_), (4, .ref (al.2 62 j_16)), (6, .int l6_11)]) hx hb dX10_trace_123 hl (by decide) rfl (fun ls hl => ?_)
            refine lv_iload hx hb dX10_trace_125 (lv_at hl 3 rfl) ?_
            refine lv_iload hx hb dX10_trace_127 (lv_at hl 4 rfl) ?_
            have J_139 : ∀ (r_48 : Option Nat) (ls : Array Slot), lv_has ls 13 [(0, .ref (al.2 57 0)), (2, .int turn), (3, .int rest_), (5, .int x_36), (6, .int l6_11)] → (∀ j, r_48 = some j → j < al.1 62) → r_48 = oI (ahF iv j_16 (bcF iv j_16)) → W p l e (rm 2) s m args below meth c H locs 0 0 Q (F0 m 139 ls [rfv al 62 r_48]) := by
              intro r_48 ls hl hb_49 i139_0
              refine b_astore (lv' := [(4, rfv al 62 r_48), (0, .ref (al.2 57 0)), (2, .int turn), (3, .int rest_), (5, .int x_36), (6, .int l6_11)]) hx hb dX10_trace_139 hl (by decide) rfl (fun ls hl => ?_)
              obtain ⟨x_50, e_51⟩ : ∃ y : Int32, y = l6_11 + 1 := ⟨_, rfl⟩
              have te_51 : x_50.toInt = (l6_11 : Int32).toInt + (1 : Int32).toInt := by rw [e_51]; exact fb_addI (by omega) (by omega)
              refine lv_iinc (v := x_50) (lv' := [(6, .int x_50), (4, rfv al 62 r_48), (0, .ref (al.2 57 0)), (2, .int turn), (3, .int rest_), (5, .int x_36)]) hx hb dX10_trace_141 hl (k := 5) rfl (by rw [e_51]; rfl) (by decide) rfl (fun ls hl => ?_)
              refine lv_goto (tgt := 20) hx hb dX10_trace_144 (by decide) ?_
              exact ih_20 r_48 x_36 x_50 _ _ _ _ _ (lv_sub hl [2, 3, 4, 1, 5, 0] rfl) hb_49 hG hF1 hF2 hU hS (by omega) (by first | exact tr_step hG0 pre0 hb4 i20_1 (by omega) hled i139_0 e_39 e_41 e_43 e_45 ei_47 hMA hFb (by omega) (by omega) | exact tr_0 hG0 pre0 hli pre1 fa_4 hp_1 e_7) (by omega)
            refine b_icmp_le (tgt := 137) hx hb dX10_trace_129 (by decide) (fun c_52 => ?_) (fun c_52 => ?_)
            ·
              refine b_aload (al := al) (t' := 62) (r := r_21) hx hb dX10_trace_137 (lv_at hl 6 rfl) ?_
              exact J_139 r_21 _ (lv_sub hl [7, 8, 9, 0, 11] rfl) hb_22 (by first | exact tr_c hw0 hw1 h52 (by omega) | exact tr_p hw0 hw1 h42 (by omega))
            ·
              refine b_aload (al := al) (t' := 62) (r := r_24) hx hb dX10_trace_132 (lv_at hl 5 rfl) ?_
              refine lv_goto (tgt := 139) hx hb dX10_trace_134 (by decide) ?_
              exact J_139 r_24 _ (lv_sub hl [7, 8, 9, 0, 11] rfl) hb_25 (by first | exact tr_c hw0 hw1 h52 (by omega) | exact tr_p hw0 hw1 h42 (by omega))
  exact J_20 _ (some li) x_6 0 _ _ _ _ _ (lv_sub hl [3, 5, 6, 2, 1, 0] rfl) (fun _ h => by cases h; exact hli) hG hF1 hF2 hU hS (by omega) (by first | exact tr_step hG0 pre0 hb4 i20_1 (by omega) hled i139_0 True.intro True.intro True.intro True.intro True.intro hMA hFb (by omega) (by omega) | exact tr_0 hG0 pre0 hli pre1 fa_4 hp_1 e_7) (Nat.lt_succ_self _)
end
section
set_option maxHeartbeats 4000000 in
set_option maxRecDepth 100000 in
theorem c_X10_greatestCause_x {l : Launch} {D : va_G} {cA : FieldType → ClassId} {sz : Nat} {al : Al} {iv : Iv} {rv : Rv} (hG : GI al iv rv) : Met l yX10_greatestCause (wd yX10_greatestCause cX10_greatestCause 3 (some .int)) (rm 0) (PcW D cA sz al iv rv [.ref (al.2 57 0)]) (QI D cA sz al (pI iv rv (fun r => (0 ≤ r.toInt ∧ r.toInt ≤ 5) ∧ (r = gcN (fun k => iv 59 0 k) 5)))) 0 0 (Aq sz) := by
  refine mk_i (by decide) (Nat.le_of_ble_eq_true rfl) rfl ?_
  intro p e s m args below meth c ls Q H locs C hU hS hl hret
  have hx := C.1.1
  have hb := C.1.2.1
  have hl : lv_has ls 3 [(0, .ref (al.2 57 0))] := hl
  have hG0 := hG
  have k0 : (0 : Int32).toInt = 0 := by decide
  have k1 : (1 : Int32).toInt = 1 := by decide
  have k6 : (6 : Int32).toInt = 6 := by decide
  refine lv_iconst (v := 0) hx hb dX10_greatestCause_0 (by decide) ?_
  refine lv_istore_n (lv' := [(1, .int 0), (0, .ref (al.2 57 0))]) hx hb dX10_greatestCause_1 rfl hl (by decide) rfl (fun ls hl => ?_)
  refine lv_iconst (v := 1) hx hb dX10_greatestCause_2 (by decide) ?_
  refine lv_istore_n (lv' := [(2, .int 1), (1, .int 0), (0, .ref (al.2 57 0))]) hx hb dX10_greatestCause_3 rfl hl (by decide) rfl (fun ls hl => ?_)
  have J_4 : ∀ (n_4 : Nat) (l1_1 : Int32) (l2_2 : Int32) (ls : Array Slot), lv_has ls 3 [(0, .ref (al.2 57 0)), (1, .int l1_1), (2, .int l2_2)] → (0 ≤ l1_1.toInt ∧ l1_1.toInt ≤ 5) → (1 ≤ l2_2.toInt ∧ l2_2.toInt ≤ 6) → l1_1 = gcN (fun k => iv 59 0 k) (l2_2.toNatClampNeg - 1) → (6 - l2_2.toInt).toNat < n_4 → W p l e (rm 0) s m args below meth c H locs 0 0 Q (F0 m 4 ls []) := by
    intro n_4
    induction n_4 with
    | zero =>
      intro l1_1 l2_2 ls hl i4_0 i4_1 i4_2 hm_4
      exact absurd hm_4 (Nat.not_lt_zero _)
    | succ n_4 ih_4 =>
      intro l1_1 l2_2 ls hl i4_0 i4_1 i4_2 hm_4
      refine lv_iload_n hx hb dX10_greatestCause_4 rfl (lv_at hl 2 rfl) ?_
      refine lv_bipush (v := 6) hx hb dX10_greatestCause_5 (by decide) ?_
      refine b_icmp_ge (tgt := 33) hx hb dX10_greatestCause_7 (by decide) (fun c_3 => ?_) (fun c_3 => ?_)
      ·
        refine lv_iload_n hx hb dX10_greatestCause_33 rfl (lv_at hl 1 rfl) ?_
        exact hret (⟨rfl, rfl, ⟨⟨by omega, by omega⟩, by rw [i4_2, gc_end (by omega)]⟩⟩) hU hS dX10_greatestCause_34
      ·
        refine lv_aload_n hx hb dX10_greatestCause_10 rfl (lv_at hl 0 rfl) ?_
        refine g_57_2 C hU hG (h1_57 hG) fl_X10_17 dX10_greatestCause_11 ?_
        refine lv_iload_n hx hb dX10_greatestCause_14 rfl (lv_at hl 2 rfl) ?_
        refine a_59 C hU hG (h1_59 hG) (x := l2_2) (by omega) (by omega) dX10_greatestCause_15 (fun x_4 e_5 => ?_)
        have te_5 := congrArg Int32.toInt e_5
        refine lv_aload_n hx hb dX10_greatestCause_16 rfl (lv_at hl 0 rfl) ?_
        refine g_57_2 C hU hG (h1_57 hG) fl_X10_17 dX10_greatestCause_17 ?_
        refine lv_iload_n hx hb dX10_greatestCause_20 rfl (lv_at hl 1 rfl) ?_
        refine a_59 C hU hG (h1_59 hG) (x := l1_1) (by omega) (by omega) dX10_greatestCause_21 (fun x_6 e_7 => ?_)
        have te_7 := congrArg Int32.toInt e_7
        have J_27 : ∀ (l1_8 : Int32) (ls : Array Slot), lv_has ls 3 [(0, .ref (al.2 57 0)), (2, .int l2_2), (1, .int l1_8)] → (0 ≤ l1_8.toInt ∧ l1_8.toInt ≤ 5) → l1_8 = gcN (fun k => iv 59 0 k) l2_2.toNatClampNeg → W p l e (rm 0) s m args below meth c H locs 0 0 Q (F0 m 27 ls []) := by
          intro l1_8 ls hl i27_0 i27_1
          obtain ⟨x_9, e_10⟩ : ∃ y : Int32, y = l2_2 + 1 := ⟨_, rfl⟩
          have te_10 : x_9.toInt = (l2_2 : Int32).toInt + (1 : Int32).toInt := by rw [e_10]; exact fb_addI (by omega) (by omega)
          refine lv_iinc (v := x_9) (lv' := [(2, .int x_9), (0, .ref (al.2 57 0)), (1, .int l1_8)]) hx hb dX10_greatestCause_27 hl (k := 1) rfl (by rw [e_10]; rfl) (by decide) rfl (fun ls hl => ?_)
          refine lv_goto (tgt := 4) hx hb dX10_greatestCause_30 (by decide) ?_
          exact ih_4 l1_8 x_9 _ (lv_sub hl [1, 2, 0] rfl) (by omega) (by omega) (by first | exact gc_up (by omega) (by omega) i27_1 | exact gc_0) (by omega)
        refine b_icmp_le (tgt := 27) hx hb dX10_greatestCause_22 (by decide) (fun c_11 => ?_) (fun c_11 => ?_)
        ·
          exact J_27 l1_1 _ (lv_sub hl [0, 2, 1] rfl) (by omega) (by first | exact gc_y i4_2 e_5 e_7 (by omega) (by omega) (by omega) | exact gc_n i4_2 e_5 e_7 (by omega) (by omega) (by omega))
        ·
          refine lv_iload_n hx hb dX10_greatestCause_25 rfl (lv_at hl 2 rfl) ?_
          refine lv_istore_n (lv' := [(1, .int l2_2), (0, .ref (al.2 57 0)), (2, .int l2_2)]) hx hb dX10_greatestCause_26 rfl hl (by decide) rfl (fun ls hl => ?_)
          exact J_27 l2_2 _ (lv_sub hl [1, 2, 0] rfl) (by omega) (by first | exact gc_y i4_2 e_5 e_7 (by omega) (by omega) (by omega) | exact gc_n i4_2 e_5 e_7 (by omega) (by omega) (by omega))
  exact J_4 _ 0 1 _ (lv_sub hl [2, 1, 0] rfl) (by omega) (by omega) (by first | exact gc_up (by omega) (by omega) i27_1 | exact gc_0) (Nat.lt_succ_self _)
set_option maxHeartbeats 4000000 in
set_option maxRecDepth 100000 in
theorem c_X11_blameOf_x {l : Launch} {D : va_G} {cA : FieldType → ClassId} {sz : Nat} {al : Al} {iv : Iv} {rv : Rv} (hG : GI al iv rv) (ti : Nat) (hti : ti < al.1 65) (pre0 : BB iv rv) : Met l yX11_blameOf (wd yX11_blameOf cX11_blameOf 3 (some .int)) (rm 3) (PcW D cA sz al iv rv [.ref (al.2 49 0), .ref (al.2 65 ti)]) (QI D cA sz al (fI al ([59], []) iv rv (fun r iv' rv' => r = blF iv ti))) 0 0 (Aq sz) := by
  refine mk_i (by decide) (Nat.le_of_ble_eq_true rfl) rfl ?_
  intro p e s m args below meth c ls Q H locs C hU hS hl hret
  have hx := C.1.1
  have hb := C.1.2.1
  have hl : lv_has ls 3 [(0, .ref (al.2 49 0)), (1, .ref (al.2 65 ti))] := hl
  have hG0 := hG
  have hF1 : FR ([59], []) iv iv := FR.rf
  have hF2 : FR ([59], []) rv rv := FR.rf
  have km9 : ((-9) : Int32).toInt = -9 := by decide
  have k0 : (0 : Int32).toInt = 0 := by decide
  have k1 : (1 : Int32).toInt = 1 := by decide
  have k2 : (2 : Int32).toInt = 2 := by decide
  refine lv_aload_n hx hb dX11_blameOf_0 rfl (lv_at hl 1 rfl) ?_
  refine lv_aload_n hx hb dX11_blameOf_1 rfl (lv_at hl 0 rfl) ?_
  refine g_49_7 C hU hG (h1_49 hG) fl_X11_67 dX11_blameOf_2 ?_
  refine lv_iconst (v := 2) hx hb dX11_blameOf_5 (by decide) ?_
  refine a_50 C hU hG (h1_50 hG) (x := 2) (by omega) (by omega) dX11_blameOf_6 (fun x_1 e_2 le_2 ue_2 => ?_)
  have te_2 := congrArg Int32.toInt e_2
  refine q_pr (q_runV (t := 65) (i := ti) (As := [.int x_1]) (rest := []) C hU (c_X8_legAtFault_x hG (ti) hti x_1 (bb_bm pre0) (by rw [e_2]; exact (pre0.1.1.1.2.2 2 (by decide)).symm)) vm_X8_legAtFault ml_X11_368 k_65.1 (hc := rfl) rfl hti hl.1 rfl rfl (Nat.le_of_ble_eq_true rfl) dX11_blameOf_7 rfl rfl ⟨Nat.le_of_ble_eq_true rfl, Nat.le_of_ble_eq_true rfl⟩ ⟨Nat.le_refl _, Nat.le_refl _⟩) hS (fun r_4 H locs hp_3 hU hS => ?_)
  obtain ⟨⟨j_5, ej_6, hb_7⟩, hp_3⟩ := hp_3
  subst ej_6
  refine lv_astore_n (lv' := [(2, .ref (al.2 62 j_5)), (0, .ref (al.2 49 0)), (1, .ref (al.2 65 ti))]) hx hb dX11_blameOf_10 rfl hl (by decide) rfl (fun ls hl => ?_)
  have hlf := Option.some.inj hp_3
  refine lv_aload_n hx hb dX11_blameOf_11 rfl (lv_at hl 0 rfl) ?_
  refine g_62_7 C hU hG hb_7 fl_X11_126 dX11_blameOf_12 (fun x_8 e_9 le_9 ue_9 => ?_)
  have te_9 := congrArg Int32.toInt e_9
  have hl7 := lg_done hG0 pre0.1.1 hb_7 hlf
  refine b_if_eq (tgt := 25) hx hb dX11_blameOf_15 (by decide) (fun c_10 => ?_) (fun c_10 => ?_)
  ·
    refine lv_bipush (v := (-9)) hx hb dX11_blameOf_25 (by decide) ?_
    exact hret (⟨hG, hF1, hF2, by unfold blF; rw [if_pos (by omega)]⟩) hU hS dX11_blameOf_27
  ·
    have hrt := rt_x hG0 pre0.1.1 hb_7 (by omega)
    refine lv_aload_n hx hb dX11_blameOf_18 rfl (lv_at hl 0 rfl) ?_
    refine g_62_13 C hU hG hb_7 fl_X11_145 dX11_blameOf_19 (fun x_11 e_12 => ?_)
    have te_12 := congrArg Int32.toInt e_12
    have h19 := e_12
    rw [hrt.2.2.2, hlf] at h19
    have t19 := congrArg Int32.toInt h19
    refine b_if_ne (tgt := 28) hx hb dX11_blameOf_22 (by decide) (fun c_13 => ?_) (fun c_13 => ?_)
    ·
      refine lv_aload_n hx hb dX11_blameOf_28 rfl (lv_at hl 1 rfl) ?_
      refine g_49_1 C hU hG (h1_49 hG) fl_X11_19 dX11_blameOf_29 ?_
      refine lv_aload_n hx hb dX11_blameOf_32 rfl (lv_at hl 0 rfl) ?_
      refine lv_aload_n hx hb dX11_blameOf_33 rfl (lv_at hl 1 rfl) ?_
      refine g_49_7 C hU hG (h1_49 hG) fl_X11_67 dX11_blameOf_34 ?_
      refine lv_iconst (v := 0) hx hb dX11_blameOf_37 (by decide) ?_
      refine a_50 C hU hG (h1_50 hG) (x := 0) (by omega) (by omega) dX11_blameOf_38 (fun x_14 e_15 le_15 ue_15 => ?_)
      have te_15 := congrArg Int32.toInt e_15
      refine lv_aload_n hx hb dX11_blameOf_39 rfl (lv_at hl 1 rfl) ?_
      refine g_49_7 C hU hG (h1_49 hG) fl_X11_67 dX11_blameOf_40 ?_
      refine lv_iconst (v := 1) hx hb dX11_blameOf_43 (by decide) ?_
      refine a_50 C hU hG (h1_50 hG) (x := 1) (by omega) (by omega) dX11_blameOf_44 (fun x_16 e_17 le_17 ue_17 => ?_)
      have te_17 := congrArg Int32.toInt e_17
      refine q_fv (q_runV (t := 57) (i := 0) (As := [.ref (al.2 62 j_5), .int x_14, .int x_16]) (rest := []) C hU (c_X10_trace_x hG (j_5) hb_7 x_14 x_16 (pre0.1) (by omega) (by rw [e_15]; exact (pre0.1.1.1.2.2 0 (by decide)).symm) (by rw [e_17]; exact (pre0.1.1.1.2.2 1 (by decide)).symm)) vm_X10_trace ml_X11_170 k_57.1 (hc := rfl) rfl (h1_57 hG) hl.1 rfl rfl (Nat.le_of_ble_eq_true rfl) dX11_blameOf_45 rfl rfl ⟨Nat.le_of_ble_eq_true rfl, Nat.le_of_ble_eq_true rfl⟩ ⟨Nat.le_refl _, Nat.le_refl _⟩) hS (fun iv_19 rv_20 H locs hG fa_21 fb_22 hp_18 hU hS => ?_)
      have hF1 := hF1.tr (m := ([59], [])) fa_21 (by decide)
      have hF2 := hF2.tr (m := ([59], [])) fb_22 (by decide)
      refine lv_aload_n hx hb dX11_blameOf_48 rfl (lv_at hl 1 rfl) ?_
      refine g_49_1 C hU hG (h1_49 hG) fl_X11_19 dX11_blameOf_49 ?_
      refine q_pi (q_runV (t := 57) (i := 0) (As := []) (rest := []) C hU (c_X10_greatestCause_x hG  ) vm_X10_greatestCause ml_X11_371 k_57.1 (hc := rfl) rfl (h1_57 hG) hl.1 rfl rfl (Nat.le_of_ble_eq_true rfl) dX11_blameOf_52 rfl rfl ⟨Nat.le_of_ble_eq_true rfl, Nat.le_of_ble_eq_true rfl⟩ ⟨Nat.le_refl _, Nat.le_refl _⟩) hS (fun x_24 H locs hp_23 hU hS => ?_)
      exact hret (⟨hG, hF1, hF2, by unfold blF; rw [if_neg (by omega), hp_23.2]; exact gc_cong (by rw [← hlf]; exact hp_18)⟩) hU hS dX11_blameOf_55
    ·
      refine lv_bipush (v := (-9)) hx hb dX11_blameOf_25 (by decide) ?_
      exact hret (⟨hG, hF1, hF2, by unfold blF; rw [if_pos (by omega)]⟩) hU hS dX11_blameOf_27
set_option maxHeartbeats 4000000 in
set_option maxRecDepth 100000 in
theorem c_X11_blame_x {l : Launch} {D : va_G} {cA : FieldType → ClassId} {sz : Nat} {al : Al} {iv : Iv} {rv : Rv} (hG : GI al iv rv) (tt : Int32) (pre0 : BB iv rv) : Met l yX11_blame (wd yX11_blame cX11_blame 3 (some .int)) (rm 4) (PcW D cA sz al iv rv [.ref (al.2 49 0), .int tt]) (QI D cA sz al (fI al ([51, 59], []) iv rv (fun r iv' rv' => r = beS iv tt))) 0 0 (Aq sz) := by
  refine mk_i (by decide) (Nat.le_of_ble_eq_true rfl) rfl ?_
  intro p e s m args below meth c ls Q H locs C hU hS hl hret
  have hx := C.1.1
  have hb := C.1.2.1
  have hl : lv_has ls 3 [(0, .ref (al.2 49 0)), (1, .int tt)] := hl
  have hG0 := hG
  have hn20 := congrArg Int32.toInt pre0.2.1
  have hF1 : FR ([51, 59], []) iv iv := FR.rf
  have hF2 : FR ([51, 59], []) rv rv := FR.rf
  have km1 : ((-1) : Int32).toInt = -1 := by decide
  refine lv_aload_n hx hb dX11_blame_0 rfl (lv_at hl 0 rfl) ?_
  refine g_49_2 C hU hG (h1_49 hG) fl_X11_26 dX11_blame_1 ?_
  refine lv_iload_n hx hb dX11_blame_4 rfl (lv_at hl 1 rfl) ?_
  refine q_pr (q_runV (t := 63) (i := 0) (As := [.int tt]) (rest := []) C hU (c_X9_find hG tt ) vm_X9_find ml_X11_192 k_63.1 (hc := rfl) rfl (h1_63 hG) hl.1 rfl rfl (Nat.le_of_ble_eq_true rfl) dX11_blame_5 rfl rfl ⟨Nat.le_of_ble_eq_true rfl, Nat.le_of_ble_eq_true rfl⟩ ⟨Nat.le_refl _, Nat.le_refl _⟩) hS (fun r_2 H locs hp_1 hU hS => ?_)
  have hb_3 := hp_1.1
  refine b_astore_n (lv' := [(2, rfv al 65 r_2), (0, .ref (al.2 49 0)), (1, .int tt)]) hx hb dX11_blame_8 rfl hl (by decide) rfl (fun ls hl => ?_)
  refine b_aload_n (al := al) (t' := 65) (r := r_2) hx hb dX11_blame_9 rfl (lv_at hl 0 rfl) ?_
  refine b_ifnonnull (tgt := 19) hx hb dX11_blame_10 (by decide) (fun j_5 ej_6 => ?_) (fun ej_6 => ?_)
  ·
    subst ej_6
    have hl : lv_has ls 3 [(2, .ref (al.2 65 j_5)), (0, .ref (al.2 49 0)), (1, .int tt)] := hl
    have hb_7 : j_5 < al.1 65 := hb_3 j_5 rfl
    have hq3 := hp_1.2.1 _ rfl
    have hn3 := hq3.1
    rw [clamp_n] at hn3
    refine lv_aload_n hx hb dX11_blame_19 rfl (lv_at hl 1 rfl) ?_
    refine lv_aload_n hx hb dX11_blame_20 rfl (lv_at hl 0 rfl) ?_
    refine q_fi (q_runV (t := 49) (i := 0) (As := [.ref (al.2 65 j_5)]) (rest := []) C hU (c_X11_blameOf_x hG (j_5) hb_7 (pre0)) vm_X11_blameOf ml_X11_218 k_49.1 (hc := rfl) rfl (h1_49 hG) hl.1 rfl rfl (Nat.le_of_ble_eq_true rfl) dX11_blame_21 rfl rfl ⟨Nat.le_of_ble_eq_true rfl, Nat.le_of_ble_eq_true rfl⟩ ⟨Nat.le_refl _, Nat.le_refl _⟩) hS (fun x_13 iv_9 rv_10 H locs hG fa_11 fb_12 hp_8 hU hS => ?_)
    have hF1 := hF1.tr (m := ([51, 59], [])) fa_11 (by decide)
    have hF2 := hF2.tr (m := ([51, 59], [])) fb_12 (by decide)
    exact hret (⟨hG, hF1, hF2, by unfold beS; rw [if_neg (by omega), hp_8, hq3.1]⟩) hU hS dX11_blame_24
  ·
    subst ej_6
    have hl : lv_has ls 3 [(2, rfv al 65 none), (0, .ref (al.2 49 0)), (1, .int tt)] := hl
    have hq3 := hp_1.2.2 rfl
    refine lv_aload_n hx hb dX11_blame_13 rfl (lv_at hl 1 rfl) ?_
    refine lv_iconst (v := (-1)) hx hb dX11_blame_14 (by decide) ?_
    refine q_fi (q_runV (t := 49) (i := 0) (As := [.int (-1)]) (rest := []) C hU (c_X11_refuse hG (-1) (by omega)) vm_X11_refuse ml_X11_77 k_49.1 (hc := rfl) rfl (h1_49 hG) hl.1 rfl rfl (Nat.le_of_ble_eq_true rfl) dX11_blame_15 rfl rfl ⟨Nat.le_of_ble_eq_true rfl, Nat.le_of_ble_eq_true rfl⟩ ⟨Nat.le_refl _, Nat.le_refl _⟩) hS (fun x_19 iv_15 rv_16 H locs hG fa_17 fb_18 hp_14 hU hS => ?_)
    have hF1 := hF1.tr (m := ([51, 59], [])) fa_17 (by decide)
    have hF2 := hF2.tr (m := ([51, 59], [])) fb_18 (by decide)
    exact hret (⟨hG, hF1, hF2, by unfold beS; rw [if_pos (by omega)]; exact hp_14⟩) hU hS dX11_blame_18
end
section
theorem Cset.s_set {al al1 : Al} {iv iv1 iv2 : Iv} {rv rv1 rv2 : Rv} {what v r1 r2 : Int32} (hG : GI al iv rv) (hCset : Cset iv rv) (p1 : (spSet what v = 0 ∧ r1 = iv 50 0 what.toNatClampNeg ∧ ∀ k, iv1 50 0 k = if k = what.toNatClampNeg then v else iv 50 0 k) ∨ (spSet what v ≠ 0 ∧ r1 = spSet what v ∧ ∀ k, iv1 50 0 k = iv 50 0 k)) (p2 : (spSet what v = 0 ∧ r2 = iv1 15 0 what.toNatClampNeg ∧ ∀ k, iv2 15 0 k = if k = what.toNatClampNeg then v else iv1 15 0 k) ∨ (spSet what v ≠ 0 ∧ r2 = spSet what v ∧ ∀ k, iv2 15 0 k = iv1 15 0 k)) (x1 : EX ([51, 50], []) al iv rv al1 iv1 rv1) (f2 : FR ([16, 15], []) iv1 iv2) (g2 : FR ([16, 15], []) rv1 rv2) : Cset iv2 rv2 := by
  intro k hk
  have m1 : ∀ k, iv1 15 0 k = iv 15 0 k := fun k => (x1.2.2 15 0 k (h1_15 hG) (MD.no (by decide))).1
  have m2 : ∀ k, iv2 50 0 k = iv1 50 0 k := fun k => f2.arr 50 0 k (by decide)
  rcases p1 with ⟨o1, q1, w1⟩ | ⟨o1, q1, w1⟩ <;> rcases p2 with ⟨o2, q2, w2⟩ | ⟨o2, q2, w2⟩
  · rw [w2, m2, w1, m1, hCset k hk]
  · exact absurd o1 o2
  · exact absurd o2 o1
  · rw [w2, m2, w1, m1, hCset k hk]
theorem Cport.s_seen {al al1 : Al} {iv iv1 iv2 : Iv} {rv rv1 rv2 : Rv} {a b by_ r1 r2 : Int32} (hG : GI al iv rv) (hCport : Cport iv rv) (p1 : (spSeen a b by_ = 0 ∧ tkP iv iv1 a.toNatClampNeg b.toNatClampNeg by_ r1 ∧ (CRT iv rv → CRT iv1 rv1)) ∨ (spSeen a b by_ ≠ 0 ∧ r1 = spSeen a b by_ ∧ (∀ k : Nat, iv1 56 k 2 = iv 56 k 2 ∧ iv1 56 k 3 = iv 56 k 3) ∧ (CRT iv rv → CRT iv1 rv1))) (p2 : (spSeen a b by_ = 0 ∧ tkM iv1 iv2 a.toNatClampNeg b.toNatClampNeg by_ r2) ∨ (spSeen a b by_ ≠ 0 ∧ r2 = spSeen a b by_ ∧ ∀ k : Nat, iv2 3 0 k = iv1 3 0 k ∧ iv2 4 0 k = iv1 4 0 k)) (x1 : EX ([51], [(56, 2), (56, 3), (52, 2), (62, 10), (62, 11), (62, 12), (62, 13)]) al iv rv al1 iv1 rv1) (f2 : FR ([16, 4, 3], [(0, 5)]) iv1 iv2) (g2 : FR ([16, 4, 3], [(0, 5)]) rv1 rv2) : Cport iv2 rv2 := by
  have m3 : ∀ k, iv1 3 0 k = iv 3 0 k := fun k => (x1.2.2 3 0 k (h1_3 hG) (MD.no (by decide))).1
  have m4 : ∀ k, iv1 4 0 k = iv 4 0 k := fun k => (x1.2.2 4 0 k (h1_4 hG) (MD.no (by decide))).1
  have m6 : ∀ k, iv2 56 k 2 = iv1 56 k 2 ∧ iv2 56 k 3 = iv1 56 k 3 := fun k => ⟨f2 56 k 2 (by decide), f2 56 k 3 (by decide)⟩
  exact port_s hCport p1 p2 m3 m4 m6
theorem Crt.s_seen {al al1 : Al} {iv iv1 iv2 : Iv} {rv rv1 rv2 : Rv} {a b by_ r1 r2 : Int32} (hG : GI al iv rv) (hCrt : Crt iv rv) (p1 : (spSeen a b by_ = 0 ∧ tkP iv iv1 a.toNatClampNeg b.toNatClampNeg by_ r1 ∧ (CRT iv rv → CRT iv1 rv1)) ∨ (spSeen a b by_ ≠ 0 ∧ r1 = spSeen a b by_ ∧ (∀ k : Nat, iv1 56 k 2 = iv 56 k 2 ∧ iv1 56 k 3 = iv 56 k 3) ∧ (CRT iv rv → CRT iv1 rv1))) (p2 : (spSeen a b by_ = 0 ∧ tkM iv1 iv2 a.toNatClampNeg b.toNatClampNeg by_ r2) ∨ (spSeen a b by_ ≠ 0 ∧ r2 = spSeen a b by_ ∧ ∀ k : Nat, iv2 3 0 k = iv1 3 0 k ∧ iv2 4 0 k = iv1 4 0 k)) (x1 : EX ([51], [(56, 2), (56, 3), (52, 2), (62, 10), (62, 11), (62, 12), (62, 13)]) al iv rv al1 iv1 rv1) (f2 : FR ([16, 4, 3], [(0, 5)]) iv1 iv2) (g2 : FR ([16, 4, 3], [(0, 5)]) rv1 rv2) : Crt iv2 rv2 := by
  rcases p1 with ⟨-, -, h⟩ | ⟨-, -, -, h⟩
  · exact crt_fr f2 g2 (by decide) (h hCrt)
  · exact crt_fr f2 g2 (by decide) (h hCrt)
theorem Clegn.s_leg {al al1 : Al} {iv iv1 iv2 : Iv} {rv rv1 rv2 : Rv} {a b pp cc_ lv_ rr r1 r2 : Int32} (hG : GI al iv rv) (hClegn : Clegn iv rv) (p1 : (spLeg a b pp cc_ lv_ rr (iv 57 0 1).toInt = 0 ∧ r1.toInt = (iv 57 0 1).toInt ∧ (iv1 57 0 1).toInt = (iv 57 0 1).toInt + 1 ∧ ∃ (aa : Nat) (siz : Int32), siz.toInt = al.1 62 + 1 ∧ al1 = grow al 62 aa ∧ iv1 = legIv iv (al.1 62) r1 pp cc_ lv_ rr siz ∧ rv1 = legRv rv (al.1 62) a.toNatClampNeg b.toNatClampNeg) ∨ (spLeg a b pp cc_ lv_ rr (iv 57 0 1).toInt ≠ 0 ∧ r1 = spLeg a b pp cc_ lv_ rr (iv 57 0 1).toInt ∧ iv1 57 0 1 = iv 57 0 1)) (p2 : (spLeg a b pp cc_ lv_ rr (iv1 0 0 6).toInt = 0 ∧ r2.toInt = (iv1 0 0 6).toInt ∧ (iv2 0 0 6).toInt = (iv1 0 0 6).toInt + 1 ∧ lgM iv1 iv2 a b pp cc_ lv_ rr) ∨ (spLeg a b pp cc_ lv_ rr (iv1 0 0 6).toInt ≠ 0 ∧ r2 = spLeg a b pp cc_ lv_ rr (iv1 0 0 6).toInt ∧ iv2 0 0 6 = iv1 0 0 6 ∧ lgK iv1 iv2)) (x1 : EX ([51, 58], [(57, 1)]) al iv rv al1 iv1 rv1) (f2 : FR ([16, 5, 6, 7, 8, 9, 10], [(0, 6)]) iv1 iv2) (g2 : FR ([16, 5, 6, 7, 8, 9, 10], [(0, 6)]) rv1 rv2) : Clegn iv2 rv2 := by
  have e6 : (iv1 0 0 6).toInt = (iv 57 0 1).toInt := by rw [(x1.2.2 0 0 6 (h1_0 hG) (by decide)).1]; exact congrArg Int32.toInt hClegn
  have n := hG.2.2.2.1.2
  have c57 := f2 57 0 1 (by decide)
  rw [e6] at p2
  unfold Clegn
  rcases two_cases p1 p2 with ⟨o, ⟨q1, q2, aa, siz, hs, ha, hi, hr⟩, ⟨s1, s2, M⟩⟩ | ⟨o, ⟨q1, q2⟩, ⟨s1, s2, M⟩⟩
  · exact (fa_eq _ _).mpr (by rw [c57]; omega)
  · exact (fa_eq _ _).mpr (by rw [c57, q2, s2]; omega)
theorem Clegf.s_leg {al al1 : Al} {iv iv1 iv2 : Iv} {rv rv1 rv2 : Rv} {a b pp cc_ lv_ rr r1 r2 : Int32} (hG : GI al iv rv) (hClegn : Clegn iv rv) (hClegf : Clegf iv rv) (p1 : (spLeg a b pp cc_ lv_ rr (iv 57 0 1).toInt = 0 ∧ r1.toInt = (iv 57 0 1).toInt ∧ (iv1 57 0 1).toInt = (iv 57 0 1).toInt + 1 ∧ ∃ (aa : Nat) (siz : Int32), siz.toInt = al.1 62 + 1 ∧ al1 = grow al 62 aa ∧ iv1 = legIv iv (al.1 62) r1 pp cc_ lv_ rr siz ∧ rv1 = legRv rv (al.1 62) a.toNatClampNeg b.toNatClampNeg) ∨ (spLeg a b pp cc_ lv_ rr (iv 57 0 1).toInt ≠ 0 ∧ r1 = spLeg a b pp cc_ lv_ rr (iv 57 0 1).toInt ∧ iv1 57 0 1 = iv 57 0 1)) (p2 : (spLeg a b pp cc_ lv_ rr (iv1 0 0 6).toInt = 0 ∧ r2.toInt = (iv1 0 0 6).toInt ∧ (iv2 0 0 6).toInt = (iv1 0 0 6).toInt + 1 ∧ lgM iv1 iv2 a b pp cc_ lv_ rr) ∨ (spLeg a b pp cc_ lv_ rr (iv1 0 0 6).toInt ≠ 0 ∧ r2 = spLeg a b pp cc_ lv_ rr (iv1 0 0 6).toInt ∧ iv2 0 0 6 = iv1 0 0 6 ∧ lgK iv1 iv2)) (x1 : EX ([51, 58], [(57, 1)]) al iv rv al1 iv1 rv1) (f2 : FR ([16, 5, 6, 7, 8, 9, 10], [(0, 6)]) iv1 iv2) (g2 : FR ([16, 5, 6, 7, 8, 9, 10], [(0, 6)]) rv1 rv2) : Clegf iv2 rv2 := by
  have e6 : (iv1 0 0 6).toInt = (iv 57 0 1).toInt := by rw [(x1.2.2 0 0 6 (h1_0 hG) (by decide)).1]; exact congrArg Int32.toInt hClegn
  have n := hG.2.2.2.1.2
  have c57 := f2 57 0 1 (by decide)
  rw [e6] at p2
  have mo : ∀ t k, 5 ≤ t → t ≤ 10 → iv1 t 0 k = iv t 0 k := fun t k h1 h2 => (x1.2.2 t 0 k (by rw [hG.2.2.1.1 t ((by decide : ∀ t, t ≤ 10 → t ∈ sng) t h2)]; decide) (MD.no ((by decide : ∀ t, t ≤ 10 → 5 ≤ t → t ∉ ([51, 58] : List Nat) ∧ t ∉ [57]) t h2 h1))).1
  have xo : ∀ k f, k < al.1 62 → f ≤ 6 → iv2 62 k f = iv 62 k f ∧ rv2 62 k f = rv 62 k f := fun k f hk hf => by
    have q := x1.2.2 62 k f hk (MD.no (by decide))
    rw [f2.arr 62 k f (by decide), g2.arr 62 k f (by decide)]; exact q
  rcases two_cases p1 p2 with ⟨o, ⟨q1, q2, aa, siz, hs, ha, hi, hr⟩, ⟨s1, s2, M⟩⟩ | ⟨o, ⟨q1, q2⟩, ⟨s1, s2, M⟩⟩
  · have N : (iv1 0 0 6).toNatClampNeg = al.1 62 := by rw [clamp_n]; omega
    intro k hk
    rw [c57, q2] at hk
    by_cases z : k = al.1 62
    · subst z
      obtain ⟨m5, m6, m7, m8, m9, m10⟩ := M (al.1 62)
      rw [if_pos N.symm] at m5 m6 m7 m8 m9 m10
      obtain ⟨v0, v3, v4, v5, v6⟩ := legIv_v (iv := iv) (n := al.1 62) (num := r1) (pl := pp) (cr := cc_) (lv_ := lv_) (ar := rr) (siz := siz)
      obtain ⟨w1, w2⟩ := legRv_v (rv := rv) (n := al.1 62) (pf := a.toNatClampNeg) (pt_ := b.toNatClampNeg)
      rw [← hi] at v0 v3 v4 v5 v6
      rw [← hr] at w1 w2
      unfold lfk
      rw [g2.arr 62 _ 1 (by decide), g2.arr 62 _ 2 (by decide), f2.arr 62 _ 0 (by decide), f2.arr 62 _ 3 (by decide), f2.arr 62 _ 4 (by decide), f2.arr 62 _ 5 (by decide), f2.arr 62 _ 6 (by decide), m5, m6, m7, m8, m9, m10, v0, v3, v4, v5, v6, w1, w2]
      exact ⟨rfl, rfl, rfl, rfl, rfl, rfl, by omega⟩
    · have hk2 : k < al.1 62 := by omega
      refine lfk_cong (hClegf k (by omega)) (fun t h1 h2 => ?_) (fun f hf => (xo k f hk2 hf).1) (fun f _ h2 => (xo k f hk2 (by omega)).2)
      obtain ⟨m5, m6, m7, m8, m9, m10⟩ := M k
      rw [N, if_neg z] at m5 m6 m7 m8 m9 m10
      rw [← mo t k h1 h2]
      match t, h1, h2 with
      | 5, _, _ => exact m5
      | 6, _, _ => exact m6
      | 7, _, _ => exact m7
      | 8, _, _ => exact m8
      | 9, _, _ => exact m9
      | 10, _, _ => exact m10
  · intro k hk
    rw [c57, q2] at hk
    have hk2 : k < al.1 62 := by omega
    refine lfk_cong (hClegf k hk) (fun t h1 h2 => ?_) (fun f hf => (xo k f hk2 hf).1) (fun f _ h2 => (xo k f hk2 (by omega)).2)
    obtain ⟨m5, m6, m7, m8, m9, m10⟩ := M k
    rw [← mo t k h1 h2]
    match t, h1, h2 with
    | 5, _, _ => exact m5
    | 6, _, _ => exact m6
    | 7, _, _ => exact m7
    | 8, _, _ => exact m8
    | 9, _, _ => exact m9
    | 10, _, _ => exact m10
theorem Clog.s_leg {al al1 : Al} {iv iv1 iv2 : Iv} {rv rv1 rv2 : Rv} {a b pp cc_ lv_ rr r1 r2 : Int32} (hG : GI al iv rv) (hClegn : Clegn iv rv) (hClog : Clog iv rv) (p1 : (spLeg a b pp cc_ lv_ rr (iv 57 0 1).toInt = 0 ∧ r1.toInt = (iv 57 0 1).toInt ∧ (iv1 57 0 1).toInt = (iv 57 0 1).toInt + 1 ∧ ∃ (aa : Nat) (siz : Int32), siz.toInt = al.1 62 + 1 ∧ al1 = grow al 62 aa ∧ iv1 = legIv iv (al.1 62) r1 pp cc_ lv_ rr siz ∧ rv1 = legRv rv (al.1 62) a.toNatClampNeg b.toNatClampNeg) ∨ (spLeg a b pp cc_ lv_ rr (iv 57 0 1).toInt ≠ 0 ∧ r1 = spLeg a b pp cc_ lv_ rr (iv 57 0 1).toInt ∧ iv1 57 0 1 = iv 57 0 1)) (p2 : (spLeg a b pp cc_ lv_ rr (iv1 0 0 6).toInt = 0 ∧ r2.toInt = (iv1 0 0 6).toInt ∧ (iv2 0 0 6).toInt = (iv1 0 0 6).toInt + 1 ∧ lgM iv1 iv2 a b pp cc_ lv_ rr) ∨ (spLeg a b pp cc_ lv_ rr (iv1 0 0 6).toInt ≠ 0 ∧ r2 = spLeg a b pp cc_ lv_ rr (iv1 0 0 6).toInt ∧ iv2 0 0 6 = iv1 0 0 6 ∧ lgK iv1 iv2)) (x1 : EX ([51, 58], [(57, 1)]) al iv rv al1 iv1 rv1) (f2 : FR ([16, 5, 6, 7, 8, 9, 10], [(0, 6)]) iv1 iv2) (g2 : FR ([16, 5, 6, 7, 8, 9, 10], [(0, 6)]) rv1 rv2) : Clog iv2 rv2 := by
  have e6 : (iv1 0 0 6).toInt = (iv 57 0 1).toInt := by rw [(x1.2.2 0 0 6 (h1_0 hG) (by decide)).1]; exact congrArg Int32.toInt hClegn
  have n := hG.2.2.2.1.2
  have c57 := f2 57 0 1 (by decide)
  rw [e6] at p2
  have mo : ∀ k, iv2 11 0 k = iv 11 0 k ∧ iv2 12 0 k = iv 12 0 k ∧ iv2 13 0 k = iv 13 0 k := fun k => by
    rw [f2.arr 11 0 k (by decide), f2.arr 12 0 k (by decide), f2.arr 13 0 k (by decide)]
    exact ⟨(x1.2.2 11 0 k (h1_11 hG) (MD.no (by decide))).1, (x1.2.2 12 0 k (h1_12 hG) (MD.no (by decide))).1, (x1.2.2 13 0 k (h1_13 hG) (MD.no (by decide))).1⟩
  have xo : ∀ k f, k < al.1 62 → iv2 62 k f = iv 62 k f := fun k f hk => by
    rw [f2.arr 62 k f (by decide)]; exact (x1.2.2 62 k f hk (MD.no (by decide))).1
  rcases two_cases p1 p2 with ⟨o, ⟨q1, q2, aa, siz, hs, ha, hi, hr⟩, ⟨s1, s2, M⟩⟩ | ⟨o, ⟨q1, q2⟩, ⟨s1, s2, M⟩⟩
  · refine ⟨fun k hk => ?_, fun k hk => ?_⟩
    · rw [c57, q2] at hk
      rw [(mo k).1, (mo k).2.1, (mo k).2.2]
      by_cases z : k = al.1 62
      · rw [z, f2.arr 62 _ 7 (by decide), f2.arr 62 _ 8 (by decide), f2.arr 62 _ 9 (by decide), hi, legIv_blank (by decide), legIv_blank (by decide), legIv_blank (by decide)]
        exact hClog.2 _ (by omega)
      · rw [xo k 7 (by omega), xo k 8 (by omega), xo k 9 (by omega)]; exact hClog.1 k (by omega)
    · rw [c57, q2] at hk
      rw [(mo k).1, (mo k).2.1, (mo k).2.2]; exact hClog.2 k (by omega)
  · refine ⟨fun k hk => ?_, fun k hk => ?_⟩
    · rw [c57, q2] at hk
      rw [(mo k).1, (mo k).2.1, (mo k).2.2, xo k 7 (by omega), xo k 8 (by omega), xo k 9 (by omega)]; exact hClog.1 k hk
    · rw [c57, q2] at hk
      rw [(mo k).1, (mo k).2.1, (mo k).2.2]; exact hClog.2 k hk
theorem Crt.s_leg {al al1 : Al} {iv iv1 iv2 : Iv} {rv rv1 rv2 : Rv} {a b pp cc_ lv_ rr r1 r2 : Int32} (hG : GI al iv rv) (hClegn : Clegn iv rv) (hClegf : Clegf iv rv) (hCrt : Crt iv rv) (p1 : (spLeg a b pp cc_ lv_ rr (iv 57 0 1).toInt = 0 ∧ r1.toInt = (iv 57 0 1).toInt ∧ (iv1 57 0 1).toInt = (iv 57 0 1).toInt + 1 ∧ ∃ (aa : Nat) (siz : Int32), siz.toInt = al.1 62 + 1 ∧ al1 = grow al 62 aa ∧ iv1 = legIv iv (al.1 62) r1 pp cc_ lv_ rr siz ∧ rv1 = legRv rv (al.1 62) a.toNatClampNeg b.toNatClampNeg) ∨ (spLeg a b pp cc_ lv_ rr (iv 57 0 1).toInt ≠ 0 ∧ r1 = spLeg a b pp cc_ lv_ rr (iv 57 0 1).toInt ∧ iv1 57 0 1 = iv 57 0 1)) (p2 : (spLeg a b pp cc_ lv_ rr (iv1 0 0 6).toInt = 0 ∧ r2.toInt = (iv1 0 0 6).toInt ∧ (iv2 0 0 6).toInt = (iv1 0 0 6).toInt + 1 ∧ lgM iv1 iv2 a b pp cc_ lv_ rr) ∨ (spLeg a b pp cc_ lv_ rr (iv1 0 0 6).toInt ≠ 0 ∧ r2 = spLeg a b pp cc_ lv_ rr (iv1 0 0 6).toInt ∧ iv2 0 0 6 = iv1 0 0 6 ∧ lgK iv1 iv2)) (x1 : EX ([51, 58], [(57, 1)]) al iv rv al1 iv1 rv1) (f2 : FR ([16, 5, 6, 7, 8, 9, 10], [(0, 6)]) iv1 iv2) (g2 : FR ([16, 5, 6, 7, 8, 9, 10], [(0, 6)]) rv1 rv2) : Crt iv2 rv2 := by
  have e6 : (iv1 0 0 6).toInt = (iv 57 0 1).toInt := by rw [(x1.2.2 0 0 6 (h1_0 hG) (by decide)).1]; exact congrArg Int32.toInt hClegn
  have n := hG.2.2.2.1.2
  have c57 := f2 57 0 1 (by decide)
  rw [e6] at p2
  rcases two_cases p1 p2 with ⟨o, ⟨q1, q2, aa, siz, hs, ha, hi, hr⟩, ⟨s1, s2, M⟩⟩ | ⟨o, ⟨q1, q2⟩, ⟨s1, s2, M⟩⟩
  · intro k hk hz
    rw [c57, q2] at hk
    by_cases z : k = al.1 62
    · exfalso; apply hz
      rw [z, f2.arr 62 _ 7 (by decide), hi, legIv_blank (by decide)]; decide
    · have hk2 : k < al.1 62 := by omega
      have xo : ∀ f, iv2 62 k f = iv 62 k f ∧ rv2 62 k f = rv 62 k f := fun f => by
        have q := x1.2.2 62 k f hk2 (MD.no (by decide))
        rw [f2.arr 62 k f (by decide), g2.arr 62 k f (by decide)]; exact q
      rw [(xo 7).1] at hz
      exact crk_c3 hG hClegf hk2 (fun i hi => by rw [f2.arr 56 i 3 (by decide), (x1.2.2 56 i 3 hi (MD.no (by decide))).1]) xo (hCrt k (by omega) hz)
  · intro k hk hz
    rw [c57, q2] at hk
    have hk2 : k < al.1 62 := by omega
    have xo : ∀ f, iv2 62 k f = iv 62 k f ∧ rv2 62 k f = rv 62 k f := fun f => by
      have q := x1.2.2 62 k f hk2 (MD.no (by decide))
      rw [f2.arr 62 k f (by decide), g2.arr 62 k f (by decide)]; exact q
    rw [(xo 7).1] at hz
    exact crk_c3 hG hClegf hk2 (fun i hi => by rw [f2.arr 56 i 3 (by decide), (x1.2.2 56 i 3 hi (MD.no (by decide))).1]) xo (hCrt k hk hz)
theorem Ccau.s_leg {al al1 : Al} {iv iv1 iv2 : Iv} {rv rv1 rv2 : Rv} {a b pp cc_ lv_ rr r1 r2 : Int32} (hG : GI al iv rv) (hClegn : Clegn iv rv) (hCcau : Ccau iv rv) (p1 : (spLeg a b pp cc_ lv_ rr (iv 57 0 1).toInt = 0 ∧ r1.toInt = (iv 57 0 1).toInt ∧ (iv1 57 0 1).toInt = (iv 57 0 1).toInt + 1 ∧ ∃ (aa : Nat) (siz : Int32), siz.toInt = al.1 62 + 1 ∧ al1 = grow al 62 aa ∧ iv1 = legIv iv (al.1 62) r1 pp cc_ lv_ rr siz ∧ rv1 = legRv rv (al.1 62) a.toNatClampNeg b.toNatClampNeg) ∨ (spLeg a b pp cc_ lv_ rr (iv 57 0 1).toInt ≠ 0 ∧ r1 = spLeg a b pp cc_ lv_ rr (iv 57 0 1).toInt ∧ iv1 57 0 1 = iv 57 0 1)) (p2 : (spLeg a b pp cc_ lv_ rr (iv1 0 0 6).toInt = 0 ∧ r2.toInt = (iv1 0 0 6).toInt ∧ (iv2 0 0 6).toInt = (iv1 0 0 6).toInt + 1 ∧ lgM iv1 iv2 a b pp cc_ lv_ rr) ∨ (spLeg a b pp cc_ lv_ rr (iv1 0 0 6).toInt ≠ 0 ∧ r2 = spLeg a b pp cc_ lv_ rr (iv1 0 0 6).toInt ∧ iv2 0 0 6 = iv1 0 0 6 ∧ lgK iv1 iv2)) (x1 : EX ([51, 58], [(57, 1)]) al iv rv al1 iv1 rv1) (f2 : FR ([16, 5, 6, 7, 8, 9, 10], [(0, 6)]) iv1 iv2) (g2 : FR ([16, 5, 6, 7, 8, 9, 10], [(0, 6)]) rv1 rv2) : Ccau iv2 rv2 := by
  have e6 : (iv1 0 0 6).toInt = (iv 57 0 1).toInt := by rw [(x1.2.2 0 0 6 (h1_0 hG) (by decide)).1]; exact congrArg Int32.toInt hClegn
  have n := hG.2.2.2.1.2
  have c57 := f2 57 0 1 (by decide)
  rw [e6] at p2
  have mo : ∀ k, iv2 14 0 k = iv 14 0 k := fun k => by
    rw [f2.arr 14 0 k (by decide)]; exact (x1.2.2 14 0 k (h1_14 hG) (MD.no (by decide))).1
  have xo : ∀ k f, k < al.1 62 → iv2 62 k f = iv 62 k f := fun k f hk => by
    rw [f2.arr 62 k f (by decide)]; exact (x1.2.2 62 k f hk (MD.no (by decide))).1
  rcases two_cases p1 p2 with ⟨o, ⟨q1, q2, aa, siz, hs, ha, hi, hr⟩, ⟨s1, s2, M⟩⟩ | ⟨o, ⟨q1, q2⟩, ⟨s1, s2, M⟩⟩
  · refine ⟨fun k hk => ?_, fun k hk => ?_⟩
    · rw [c57, q2] at hk
      rw [mo k]
      by_cases z : k = al.1 62
      · rw [z, f2.arr 62 _ 14 (by decide), hi, legIv_blank (by decide)]
        exact hCcau.2 _ (by omega)
      · rw [xo k 14 (by omega)]; exact hCcau.1 k (by omega)
    · rw [c57, q2] at hk
      rw [mo k]; exact hCcau.2 k (by omega)
  · refine ⟨fun k hk => ?_, fun k hk => ?_⟩
    · rw [c57, q2] at hk
      rw [mo k, xo k 14 (by omega)]; exact hCcau.1 k hk
    · rw [c57, q2] at hk
      rw [mo k]; exact hCcau.2 k hk
theorem Clog.s_log {al al1 : Al} {iv iv1 iv2 : Iv} {rv rv1 rv2 : Rv} {lg a b r1 r2 : Int32} (hG : GI al iv rv) (hClegn : Clegn iv rv) (hClog : Clog iv rv) (p1 : (spLog lg a b (iv 57 0 1).toInt = 0 ∧ r1.toInt = 1 - (iv 62 lg.toNatClampNeg 7).toInt ∧ enP iv iv1 lg.toNatClampNeg a b ∧ (CRT iv rv → CRT iv1 rv1)) ∨ (spLog lg a b (iv 57 0 1).toInt ≠ 0 ∧ r1 = spLog lg a b (iv 57 0 1).toInt ∧ enK iv iv1 ∧ (CRT iv rv → CRT iv1 rv1))) (p2 : (spLog lg a b (iv1 0 0 6).toInt = 0 ∧ r2.toInt = 1 - (iv1 11 0 lg.toNatClampNeg).toInt ∧ ∀ k, iv2 11 0 k = (if k = lg.toNatClampNeg then 1 else iv1 11 0 k) ∧ iv2 12 0 k = (if k = lg.toNatClampNeg then a else iv1 12 0 k) ∧ iv2 13 0 k = (if k = lg.toNatClampNeg then b else iv1 13 0 k)) ∨ (spLog lg a b (iv1 0 0 6).toInt ≠ 0 ∧ r2 = spLog lg a b (iv1 0 0 6).toInt ∧ ∀ k, iv2 11 0 k = iv1 11 0 k ∧ iv2 12 0 k = iv1 12 0 k ∧ iv2 13 0 k = iv1 13 0 k)) (x1 : EX ([51], [(62, 10), (62, 11), (62, 12), (62, 13), (62, 7), (62, 8), (62, 9)]) al iv rv al1 iv1 rv1) (f2 : FR ([16, 11, 12, 13], []) iv1 iv2) (g2 : FR ([16, 11, 12, 13], []) rv1 rv2) : Clog iv2 rv2 := by
  have e6 : (iv1 0 0 6).toInt = (iv 57 0 1).toInt := by rw [(x1.2.2 0 0 6 (h1_0 hG) (by decide)).1]; exact congrArg Int32.toInt hClegn
  have n := hG.2.2.2.1.2
  have c57 : iv2 57 0 1 = iv 57 0 1 := by rw [f2 57 0 1 (by decide), (x1.2.2 57 0 1 (h1_57 hG) (by decide)).1]
  rw [e6] at p2
  have mo : ∀ k, iv1 11 0 k = iv 11 0 k ∧ iv1 12 0 k = iv 12 0 k ∧ iv1 13 0 k = iv 13 0 k := fun k => ⟨(x1.2.2 11 0 k (h1_11 hG) (MD.no (by decide))).1, (x1.2.2 12 0 k (h1_12 hG) (MD.no (by decide))).1, (x1.2.2 13 0 k (h1_13 hG) (MD.no (by decide))).1⟩
  have xo : ∀ k f, iv2 62 k f = iv1 62 k f := fun k f => f2.arr 62 k f (by decide)
  rcases two_cases p1 p2 with ⟨o, ⟨q1, E, -⟩, ⟨s1, M⟩⟩ | ⟨o, ⟨q1, E, -⟩, ⟨s1, M⟩⟩
  · have hl : ((lg.toNatClampNeg : Nat) : Int) < (iv 57 0 1).toInt := by
      have w := spLog_ok o
      rw [ix_nat w.1]; exact w.2
    refine ⟨fun k hk => ?_, fun k hk => ?_⟩
    · rw [c57] at hk
      obtain ⟨m1, m2, m3⟩ := M k
      obtain ⟨x7, x8, x9⟩ := E k
      rw [m1, m2, m3, xo, xo, xo, x7, x8, x9]
      by_cases z : k = lg.toNatClampNeg
      · simp only [if_pos z]; exact ⟨trivial, trivial, trivial⟩
      · simp only [if_neg z]; rw [(mo k).1, (mo k).2.1, (mo k).2.2]; exact hClog.1 k hk
    · rw [c57] at hk
      obtain ⟨m1, m2, m3⟩ := M k
      have z : ¬ k = lg.toNatClampNeg := fun z => by rw [z] at hk; omega
      rw [m1, m2, m3, if_neg z, if_neg z, if_neg z, (mo k).1, (mo k).2.1, (mo k).2.2]; exact hClog.2 k hk
  · refine ⟨fun k hk => ?_, fun k hk => ?_⟩
    · rw [c57] at hk
      obtain ⟨m1, m2, m3⟩ := M k
      obtain ⟨x7, x8, x9⟩ := E k
      rw [m1, m2, m3, xo, xo, xo, x7, x8, x9, (mo k).1, (mo k).2.1, (mo k).2.2]; exact hClog.1 k hk
    · rw [c57] at hk
      obtain ⟨m1, m2, m3⟩ := M k
      rw [m1, m2, m3, (mo k).1, (mo k).2.1, (mo k).2.2]; exact hClog.2 k hk
theorem Crt.s_log {al al1 : Al} {iv iv1 iv2 : Iv} {rv rv1 rv2 : Rv} {lg a b r1 r2 : Int32} (hG : GI al iv rv) (hCrt : Crt iv rv) (p1 : (spLog lg a b (iv 57 0 1).toInt = 0 ∧ r1.toInt = 1 - (iv 62 lg.toNatClampNeg 7).toInt ∧ enP iv iv1 lg.toNatClampNeg a b ∧ (CRT iv rv → CRT iv1 rv1)) ∨ (spLog lg a b (iv 57 0 1).toInt ≠ 0 ∧ r1 = spLog lg a b (iv 57 0 1).toInt ∧ enK iv iv1 ∧ (CRT iv rv → CRT iv1 rv1))) (p2 : (spLog lg a b (iv1 0 0 6).toInt = 0 ∧ r2.toInt = 1 - (iv1 11 0 lg.toNatClampNeg).toInt ∧ ∀ k, iv2 11 0 k = (if k = lg.toNatClampNeg then 1 else iv1 11 0 k) ∧ iv2 12 0 k = (if k = lg.toNatClampNeg then a else iv1 12 0 k) ∧ iv2 13 0 k = (if k = lg.toNatClampNeg then b else iv1 13 0 k)) ∨ (spLog lg a b (iv1 0 0 6).toInt ≠ 0 ∧ r2 = spLog lg a b (iv1 0 0 6).toInt ∧ ∀ k, iv2 11 0 k = iv1 11 0 k ∧ iv2 12 0 k = iv1 12 0 k ∧ iv2 13 0 k = iv1 13 0 k)) (x1 : EX ([51], [(62, 10), (62, 11), (62, 12), (62, 13), (62, 7), (62, 8), (62, 9)]) al iv rv al1 iv1 rv1) (f2 : FR ([16, 11, 12, 13], []) iv1 iv2) (g2 : FR ([16, 11, 12, 13], []) rv1 rv2) : Crt iv2 rv2 := by
  rcases p1 with ⟨-, -, -, h⟩ | ⟨-, -, -, h⟩
  · exact crt_fr f2 g2 (by decide) (h hCrt)
  · exact crt_fr f2 g2 (by decide) (h hCrt)
theorem Ccau.s_cause {al al1 : Al} {iv iv1 iv2 : Iv} {rv rv1 rv2 : Rv} {lg cs r1 r2 : Int32} (hG : GI al iv rv) (hClegn : Clegn iv rv) (hCcau : Ccau iv rv) (p1 : (spCause lg cs (iv 57 0 1).toInt = 0 ∧ r1 = iv 62 lg.toNatClampNeg 14 ∧ ∀ k, iv1 62 k 14 = if k = lg.toNatClampNeg then cs else iv 62 k 14) ∨ (spCause lg cs (iv 57 0 1).toInt ≠ 0 ∧ r1 = spCause lg cs (iv 57 0 1).toInt ∧ ∀ k, iv1 62 k 14 = iv 62 k 14)) (p2 : (spCause lg cs (iv1 0 0 6).toInt = 0 ∧ r2 = iv1 14 0 lg.toNatClampNeg ∧ ∀ k, iv2 14 0 k = if k = lg.toNatClampNeg then cs else iv1 14 0 k) ∨ (spCause lg cs (iv1 0 0 6).toInt ≠ 0 ∧ r2 = spCause lg cs (iv1 0 0 6).toInt ∧ ∀ k, iv2 14 0 k = iv1 14 0 k)) (x1 : EX ([51], [(62, 14)]) al iv rv al1 iv1 rv1) (f2 : FR ([16, 14], []) iv1 iv2) (g2 : FR ([16, 14], []) rv1 rv2) : Ccau iv2 rv2 := by
  have e6 : (iv1 0 0 6).toInt = (iv 57 0 1).toInt := by rw [(x1.2.2 0 0 6 (h1_0 hG) (by decide)).1]; exact congrArg Int32.toInt hClegn
  have c57 : iv2 57 0 1 = iv 57 0 1 := by rw [f2 57 0 1 (by decide), (x1.2.2 57 0 1 (h1_57 hG) (by decide)).1]
  rw [e6] at p2
  have mo : ∀ k, iv1 14 0 k = iv 14 0 k := fun k => (x1.2.2 14 0 k (h1_14 hG) (MD.no (by decide))).1
  have xo : ∀ k, iv2 62 k 14 = iv1 62 k 14 := fun k => f2.arr 62 k 14 (by decide)
  rcases two_cases p1 p2 with ⟨o, ⟨q1, E⟩, ⟨s1, M⟩⟩ | ⟨o, ⟨q1, E⟩, ⟨s1, M⟩⟩
  · have hl : ((lg.toNatClampNeg : Nat) : Int) < (iv 57 0 1).toInt := by
      have w := spCause_ok o
      rw [ix_nat w.1]; exact w.2
    refine ⟨fun k hk => ?_, fun k hk => ?_⟩
    · rw [c57] at hk
      rw [M k, xo, E k]
      by_cases z : k = lg.toNatClampNeg
      · rw [if_pos z, if_pos z]
      · rw [if_neg z, if_neg z, mo k]; exact hCcau.1 k hk
    · rw [c57] at hk
      have z : ¬ k = lg.toNatClampNeg := fun z => by rw [z] at hk; omega
      rw [M k, if_neg z, mo k]; exact hCcau.2 k hk
  · refine ⟨fun k hk => ?_, fun k hk => ?_⟩
    · rw [c57] at hk
      rw [M k, xo, E k, mo k]; exact hCcau.1 k hk
    · rw [c57] at hk
      rw [M k, mo k]; exact hCcau.2 k hk
theorem Ctkn.s_traveller {al al1 : Al} {iv iv1 iv2 : Iv} {rv rv1 rv2 : Rv} {lg r1 r2 : Int32} (hG : GI al iv rv) (hClegn : Clegn iv rv) (hCtkn : Ctkn iv rv) (p1 : (spTrav lg (iv 57 0 1).toInt (iv 63 0 1).toInt = 0 ∧ r1.toInt = (iv 63 0 1).toInt ∧ (iv1 63 0 1).toInt = (iv 63 0 1).toInt + 1 ∧ ∃ (aa a6 a7 : Nat) (siz : Int32), siz.toInt = al.1 65 + 1 ∧ al1 = grow (grow (grow al 65 aa) 66 a6) 67 a7 ∧ iv1 = tickIv iv (al.1 65) r1 siz ∧ rv1 = tickRv rv (al.1 65) lg.toNatClampNeg) ∨ (spTrav lg (iv 57 0 1).toInt (iv 63 0 1).toInt ≠ 0 ∧ r1 = spTrav lg (iv 57 0 1).toInt (iv 63 0 1).toInt ∧ iv1 63 0 1 = iv 63 0 1)) (p2 : (spTrav lg (iv1 0 0 6).toInt (iv1 0 0 20).toInt = 0 ∧ r2.toInt = (iv1 0 0 20).toInt ∧ (iv2 0 0 20).toInt = (iv1 0 0 20).toInt + 1 ∧ (∀ k : Nat, iv2 18 0 k = (if k = 4 * (iv1 0 0 20).toNatClampNeg then lg else iv1 18 0 k) ∧ iv2 19 0 k = (if k = (iv1 0 0 20).toNatClampNeg then 1 else iv1 19 0 k))) ∨ (spTrav lg (iv1 0 0 6).toInt (iv1 0 0 20).toInt ≠ 0 ∧ r2 = spTrav lg (iv1 0 0 6).toInt (iv1 0 0 20).toInt ∧ iv2 0 0 20 = iv1 0 0 20 ∧ (∀ k : Nat, iv2 18 0 k = iv1 18 0 k ∧ iv2 19 0 k = iv1 19 0 k))) (x1 : EX ([51, 64], [(63, 1)]) al iv rv al1 iv1 rv1) (f2 : FR ([16, 18, 19], [(0, 20)]) iv1 iv2) (g2 : FR ([16, 18, 19], [(0, 20)]) rv1 rv2) : Ctkn iv2 rv2 := by
  have e6 : (iv1 0 0 6).toInt = (iv 57 0 1).toInt := by rw [(x1.2.2 0 0 6 (h1_0 hG) (by decide)).1]; exact congrArg Int32.toInt hClegn
  have e20 : (iv1 0 0 20).toInt = (iv 63 0 1).toInt := by rw [(x1.2.2 0 0 20 (h1_0 hG) (by decide)).1]; exact congrArg Int32.toInt hCtkn
  have n := hG.2.2.2.2.1.2
  have c63 := f2 63 0 1 (by decide)
  have N : (iv1 0 0 20).toNatClampNeg = al.1 65 := by rw [clamp_n]; omega
  rw [e6, e20, N] at p2
  unfold Ctkn
  rcases two_cases p1 p2 with ⟨o, ⟨q1, q2, aa, a6, a7, siz, hs, ha, hi, hr⟩, ⟨s1, s2, M⟩⟩ | ⟨o, ⟨q1, q2⟩, ⟨s1, s2, M⟩⟩
  · exact (fa_eq _ _).mpr (by rw [c63]; omega)
  · exact (fa_eq _ _).mpr (by rw [c63, q2, s2]; omega)
theorem Ctick.s_traveller {al al1 : Al} {iv iv1 iv2 : Iv} {rv rv1 rv2 : Rv} {lg r1 r2 : Int32} (hG : GI al iv rv) (hClegn : Clegn iv rv) (hCtkn : Ctkn iv rv) (hCtick : Ctick iv rv) (p1 : (spTrav lg (iv 57 0 1).toInt (iv 63 0 1).toInt = 0 ∧ r1.toInt = (iv 63 0 1).toInt ∧ (iv1 63 0 1).toInt = (iv 63 0 1).toInt + 1 ∧ ∃ (aa a6 a7 : Nat) (siz : Int32), siz.toInt = al.1 65 + 1 ∧ al1 = grow (grow (grow al 65 aa) 66 a6) 67 a7 ∧ iv1 = tickIv iv (al.1 65) r1 siz ∧ rv1 = tickRv rv (al.1 65) lg.toNatClampNeg) ∨ (spTrav lg (iv 57 0 1).toInt (iv 63 0 1).toInt ≠ 0 ∧ r1 = spTrav lg (iv 57 0 1).toInt (iv 63 0 1).toInt ∧ iv1 63 0 1 = iv 63 0 1)) (p2 : (spTrav lg (iv1 0 0 6).toInt (iv1 0 0 20).toInt = 0 ∧ r2.toInt = (iv1 0 0 20).toInt ∧ (iv2 0 0 20).toInt = (iv1 0 0 20).toInt + 1 ∧ (∀ k : Nat, iv2 18 0 k = (if k = 4 * (iv1 0 0 20).toNatClampNeg then lg else iv1 18 0 k) ∧ iv2 19 0 k = (if k = (iv1 0 0 20).toNatClampNeg then 1 else iv1 19 0 k))) ∨ (spTrav lg (iv1 0 0 6).toInt (iv1 0 0 20).toInt ≠ 0 ∧ r2 = spTrav lg (iv1 0 0 6).toInt (iv1 0 0 20).toInt ∧ iv2 0 0 20 = iv1 0 0 20 ∧ (∀ k : Nat, iv2 18 0 k = iv1 18 0 k ∧ iv2 19 0 k = iv1 19 0 k))) (x1 : EX ([51, 64], [(63, 1)]) al iv rv al1 iv1 rv1) (f2 : FR ([16, 18, 19], [(0, 20)]) iv1 iv2) (g2 : FR ([16, 18, 19], [(0, 20)]) rv1 rv2) : Ctick iv2 rv2 := by
  have e6 : (iv1 0 0 6).toInt = (iv 57 0 1).toInt := by rw [(x1.2.2 0 0 6 (h1_0 hG) (by decide)).1]; exact congrArg Int32.toInt hClegn
  have e20 : (iv1 0 0 20).toInt = (iv 63 0 1).toInt := by rw [(x1.2.2 0 0 20 (h1_0 hG) (by decide)).1]; exact congrArg Int32.toInt hCtkn
  have n := hG.2.2.2.2.1.2
  have c63 := f2 63 0 1 (by decide)
  have N : (iv1 0 0 20).toNatClampNeg = al.1 65 := by rw [clamp_n]; omega
  rw [e6, e20, N] at p2
  have n6 : al.1 66 = al.1 65 := hG.2.2.1.2.2.2.1
  have m8 : ∀ k, iv1 18 0 k = iv 18 0 k := fun k => (x1.2.2 18 0 k (h1_18 hG) (MD.no (by decide))).1
  have m9 : ∀ k, iv1 19 0 k = iv 19 0 k := fun k => (x1.2.2 19 0 k (h1_19 hG) (MD.no (by decide))).1
  have xo : ∀ t f, t < al.1 65 → iv2 65 t f = iv 65 t f ∧ rv2 65 t f = rv 65 t f := fun t f ht => by
    have q := x1.2.2 65 t f ht (MD.no (by decide))
    rw [f2.arr 65 t f (by decide), g2.arr 65 t f (by decide)]; exact q
  have xl : ∀ t f, t < al.1 65 → rv2 66 t f = rv 66 t f := fun t f ht => by
    rw [g2.arr 66 t f (by decide)]; exact (x1.2.2 66 t f (by omega) (MD.no (by decide))).2
  rcases two_cases p1 p2 with ⟨o, ⟨q1, q2, aa, a6, a7, siz, hs, ha, hi, hr⟩, ⟨s1, s2, M⟩⟩ | ⟨o, ⟨q1, q2⟩, ⟨s1, s2, M⟩⟩
  · intro t ht
    rw [c63, q2] at ht
    by_cases z : t = al.1 65
    · have w0 : tickIv iv (al.1 65) r1 siz 65 (al.1 65) 0 = r1 ∧ tickIv iv (al.1 65) r1 siz 65 (al.1 65) 4 = 1 := by
        refine ⟨?_, ?_⟩ <;> simp [tickIv, up3, clr]
      have w1 : tickRv rv (al.1 65) lg.toNatClampNeg 65 (al.1 65) 1 = some lg.toNatClampNeg ∧ tickRv rv (al.1 65) lg.toNatClampNeg 65 (al.1 65) 2 = some lg.toNatClampNeg ∧ tickRv rv (al.1 65) lg.toNatClampNeg 66 (al.1 65) 0 = some lg.toNatClampNeg := by
        refine ⟨?_, ?_, ?_⟩ <;> simp [tickRv, up3, clr]
      rw [← hi] at w0
      rw [← hr] at w1
      have k1 : (1 : Int32).toInt = 1 := by decide
      have c1 : (1 : Int32).toNatClampNeg = 1 := by decide
      have m0 := (M (4 * al.1 65)).1
      rw [if_pos rfl] at m0
      subst z
      refine ⟨?_, ?_, fun j hj => ?_, ?_, ?_, ?_⟩
      · rw [(M (al.1 65)).2, if_pos rfl, f2.arr 65 _ 4 (by decide), w0.2]
      · rw [f2.arr 65 _ 4 (by decide), w0.2]; decide
      · rw [f2.arr 65 _ 4 (by decide), w0.2, k1] at hj
        have j0 : j = 0 := by omega
        rw [j0, g2.arr 66 _ 0 (by decide), w1.2.2, Nat.add_zero, m0]
      · rw [g2.arr 65 _ 1 (by decide), w1.1, m0]
      · rw [g2.arr 65 _ 2 (by decide), w1.2.1, f2.arr 65 _ 4 (by decide), w0.2, c1, show 4 * al.1 65 + 1 - 1 = 4 * al.1 65 by omega, m0]
      · rw [f2.arr 65 _ 0 (by decide), w0.1]; omega
    · have ht2 : t < al.1 65 := by omega
      refine tkk_cong (hCtick t (by omega)) (sz4 hG ht2) (fun j hj => ?_) ?_ (xo t 0 ht2).1 (xo t 4 ht2).1 (fun j => xl t j ht2) (xo t 1 ht2).2 (xo t 2 ht2).2
      · rw [(M _).1, if_neg (by omega), m8]
      · rw [(M _).2, if_neg z, m9]
  · intro t ht
    rw [c63, q2] at ht
    have ht2 : t < al.1 65 := by omega
    refine tkk_cong (hCtick t ht) (sz4 hG ht2) (fun j hj => ?_) ?_ (xo t 0 ht2).1 (xo t 4 ht2).1 (fun j => xl t j ht2) (xo t 1 ht2).2 (xo t 2 ht2).2
    · rw [(M _).1, m8]
    · rw [(M _).2, m9]
theorem Ctick.s_then {al al1 : Al} {iv iv1 iv2 : Iv} {rv rv1 rv2 : Rv} {tt lg r1 r2 : Int32} (hG : GI al iv rv) (hClegn : Clegn iv rv) (hClegf : Clegf iv rv) (hCset : Cset iv rv) (hCtkn : Ctkn iv rv) (hCtick : Ctick iv rv) (p1 : (spThen iv tt lg = 0 ∧ r1.toInt = (iv 19 0 tt.toNatClampNeg).toInt + 1 ∧ thX iv rv iv1 rv1 tt.toNatClampNeg lg.toNatClampNeg) ∨ (spThen iv tt lg ≠ 0 ∧ r1 = spThen iv tt lg ∧ (∀ k : Nat, iv1 65 k 4 = iv 65 k 4) ∧ (∀ i k : Nat, rv1 66 i k = rv 66 i k) ∧ (∀ k : Nat, rv1 65 k 2 = rv 65 k 2))) (p2 : (spThen iv1 tt lg = 0 ∧ r2.toInt = (iv1 19 0 tt.toNatClampNeg).toInt + 1 ∧ (∀ k : Nat, iv2 18 0 k = (if k = 4 * tt.toNatClampNeg + (iv1 19 0 tt.toNatClampNeg).toNatClampNeg then lg else iv1 18 0 k) ∧ (iv2 19 0 k).toInt = (if k = tt.toNatClampNeg then (iv1 19 0 tt.toNatClampNeg).toInt + 1 else (iv1 19 0 k).toInt))) ∨ (spThen iv1 tt lg ≠ 0 ∧ r2 = spThen iv1 tt lg ∧ ∀ k : Nat, iv2 18 0 k = iv1 18 0 k ∧ iv2 19 0 k = iv1 19 0 k)) (x1 : EX ([51, 66], [(65, 2), (65, 4)]) al iv rv al1 iv1 rv1) (f2 : FR ([16, 18, 19], []) iv1 iv2) (g2 : FR ([16, 18, 19], []) rv1 rv2) : Ctick iv2 rv2 := by
  have n := hG.2.2.2.2.1.2
  have n6 : al.1 66 = al.1 65 := hG.2.2.1.2.2.2.1
  have ma := ma_ex hG x1 (by decide)
  have e : spThen iv1 tt lg = spThen iv tt lg := spThen_m ma tt lg
  rw [e] at p2
  have c63 : iv2 63 0 1 = iv 63 0 1 := by rw [f2 63 0 1 (by decide), (x1.2.2 63 0 1 (h1_63 hG) (by decide)).1]
  intro t ht
  rw [c63] at ht
  have ht2 : t < al.1 65 := by omega
  have x0 : iv2 65 t 0 = iv 65 t 0 := by rw [f2 65 t 0 (by decide), (x1.2.2 65 t 0 ht2 (by decide)).1]
  have x4 : iv2 65 t 4 = iv1 65 t 4 := f2 65 t 4 (by decide)
  have y1 : rv2 65 t 1 = rv 65 t 1 := by rw [g2 65 t 1 (by decide), (x1.2.2 65 t 1 ht2 (by decide)).2]
  have y2 : rv2 65 t 2 = rv1 65 t 2 := g2 65 t 2 (by decide)
  have y6 : ∀ j, rv2 66 t j = rv1 66 t j := fun j => g2.arr 66 t j (by decide)
  have old := hCtick t ht
  rcases two_cases p1 p2 with ⟨o, ⟨q1, T1, T2, T3⟩, ⟨s1, M⟩⟩ | ⟨o, ⟨q1, T1, T2, T3⟩, ⟨s1, M⟩⟩
  · have ok := spThen_ok o
    have nt : ((tt.toNatClampNeg : Nat) : Int) = tt.toInt := ix_nat ok.1
    obtain ⟨a, b, c, d, e', f⟩ := old
    by_cases z : t = tt.toNatClampNeg
    · subst z
      have m18 : ∀ k, iv2 18 0 k = (if k = 4 * tt.toNatClampNeg + (iv 65 tt.toNatClampNeg 4).toNatClampNeg then lg else iv 18 0 k) := fun k => by rw [(M k).1, ma 19 _ (by decide), ma 18 _ (by decide), a]
      have cl : (iv 65 tt.toNatClampNeg 4).toNatClampNeg = (iv 65 tt.toNatClampNeg 4).toInt.toNat := clamp_n
      have v4 : (iv2 65 tt.toNatClampNeg 4).toInt = (iv 65 tt.toNatClampNeg 4).toInt + 1 := by rw [x4, T1, if_pos rfl]
      have cl2 : (iv2 65 tt.toNatClampNeg 4).toNatClampNeg = (iv 65 tt.toNatClampNeg 4).toNatClampNeg + 1 := by rw [clamp_n, v4, cl]; omega
      have v19 : (iv2 19 0 tt.toNatClampNeg).toInt = (iv 65 tt.toNatClampNeg 4).toInt + 1 := by rw [(M _).2, if_pos rfl, ma 19 _ (by decide), a]
      refine ⟨(fa_eq _ _).mpr (by rw [v19, v4]), by omega, fun j hj => ?_, ?_, ?_, by rw [x0]; exact f⟩
      · rw [v4] at hj
        rw [y6, T2, m18]
        by_cases w : j = (iv 65 tt.toNatClampNeg 4).toNatClampNeg
        · rw [if_pos ⟨rfl, w⟩, if_pos (by omega)]
        · rw [if_neg (fun q => w q.2), if_neg (by omega)]; exact c j (by omega)
      · rw [y1, m18, if_neg (by omega)]; exact d
      · rw [y2, T3, if_pos rfl, cl2, m18, if_pos (by omega)]
    · refine tkk_cong ⟨a, b, c, d, e', f⟩ (sz4 hG ht2) (fun j hj => ?_) ?_ x0 ?_ (fun j => ?_) y1 ?_
      · rw [(M _).1, ma 19 _ (by decide), ma 18 _ (by decide), if_neg]
        have h4 := ok.2.2
        intro w
        have : (iv 19 0 tt.toNatClampNeg).toNatClampNeg < 4 := by rw [clamp_n]; omega
        omega
      · exact (fa_eq _ _).mpr (by rw [(M _).2, if_neg z, ma 19 _ (by decide)])
      · rw [x4]; exact (fa_eq _ _).mpr (by rw [T1, if_neg z])
      · rw [y6, T2, if_neg (fun w => z w.1)]
      · rw [y2, T3, if_neg z]
  · refine tkk_cong old (sz4 hG ht2) (fun j hj => ?_) ?_ x0 (by rw [x4, T1]) (fun j => ?_) y1 ?_
    · rw [(M _).1, ma 18 _ (by decide)]
    · rw [(M _).2, ma 19 _ (by decide)]
    · rw [y6, T2]
    · rw [y2, T3]
theorem ans_blame {al al1 : Al} {iv iv1 iv2 : Iv} {rv rv1 rv2 : Rv} {tt r1 r2 : Int32} (hG : GI al iv rv)  (p1 : r1 = beS iv tt) (p2 : r2 = beS iv1 tt) (x1 : EX ([51, 59], []) al iv rv al1 iv1 rv1) (f2 : FR ([16, 17], []) iv1 iv2) (g2 : FR ([16, 17], []) rv1 rv2) : r1 = r2 := by
  rw [p1, p2, beS_m (ma_ex hG x1 (by decide))]
def REL (iv : Iv) (rv : Rv) : Prop := Cset iv rv ∧ Cport iv rv ∧ Clegn iv rv ∧ Clegf iv rv ∧ Clog iv rv ∧ Crt iv rv ∧ Ctkn iv rv ∧ Ctick iv rv ∧ Ccau iv rv
abbrev rT : List Nat := [15, 50, 3, 4, 5, 6, 7, 8, 9, 10, 11, 12, 13, 18, 19, 66, 14]
abbrev rF : List (Nat × Nat) := [(56, 2), (56, 3), (0, 6), (57, 1), (62, 0), (62, 1), (62, 2), (62, 3), (62, 4), (62, 5), (62, 6), (62, 7), (62, 8), (62, 9), (62, 10), (62, 11), (62, 12), (62, 13), (0, 20), (63, 1), (65, 0), (65, 1), (65, 2), (65, 4), (62, 14)]
theorem sT_Cset {md : Mo} (h : RC rT rF md) : RC T_Cset F_Cset md := ⟨fun t ht => h.1 t ((by decide : ∀ t, t ∈ T_Cset → t ∈ rT) t ht), fun q hq => h.2 q ((by decide : ∀ q, q ∈ F_Cset → q ∈ rF) q hq)⟩
theorem sT_Cport {md : Mo} (h : RC rT rF md) : RC T_Cport F_Cport md := ⟨fun t ht => h.1 t ((by decide : ∀ t, t ∈ T_Cport → t ∈ rT) t ht), fun q hq => h.2 q ((by decide : ∀ q, q ∈ F_Cport → q ∈ rF) q hq)⟩
theorem sT_Clegn {md : Mo} (h : RC rT rF md) : RC T_Clegn F_Clegn md := ⟨fun t ht => h.1 t ((by decide : ∀ t, t ∈ T_Clegn → t ∈ rT) t ht), fun q hq => h.2 q ((by decide : ∀ q, q ∈ F_Clegn → q ∈ rF) q hq)⟩
theorem sT_Clegf {md : Mo} (h : RC rT rF md) : RC T_Clegf F_Clegf md := ⟨fun t ht => h.1 t ((by decide : ∀ t, t ∈ T_Clegf → t ∈ rT) t ht), fun q hq => h.2 q ((by decide : ∀ q, q ∈ F_Clegf → q ∈ rF) q hq)⟩
theorem sT_Clog {md : Mo} (h : RC rT rF md) : RC T_Clog F_Clog md := ⟨fun t ht => h.1 t ((by decide : ∀ t, t ∈ T_Clog → t ∈ rT) t ht), fun q hq => h.2 q ((by decide : ∀ q, q ∈ F_Clog → q ∈ rF) q hq)⟩
theorem sT_Crt {md : Mo} (h : RC rT rF md) : RC T_Crt F_Crt md := ⟨fun t ht => h.1 t ((by decide : ∀ t, t ∈ T_Crt → t ∈ rT) t ht), fun q hq => h.2 q ((by decide : ∀ q, q ∈ F_Crt → q ∈ rF) q hq)⟩
theorem sT_Ctkn {md : Mo} (h : RC rT rF md) : RC T_Ctkn F_Ctkn md := ⟨fun t ht => h.1 t ((by decide : ∀ t, t ∈ T_Ctkn → t ∈ rT) t ht), fun q hq => h.2 q ((by decide : ∀ q, q ∈ F_Ctkn → q ∈ rF) q hq)⟩
theorem sT_Ctick {md : Mo} (h : RC rT rF md) : RC T_Ctick F_Ctick md := ⟨fun t ht => h.1 t ((by decide : ∀ t, t ∈ T_Ctick → t ∈ rT) t ht), fun q hq => h.2 q ((by decide : ∀ q, q ∈ F_Ctick → q ∈ rF) q hq)⟩
theorem sT_Ccau {md : Mo} (h : RC rT rF md) : RC T_Ccau F_Ccau md := ⟨fun t ht => h.1 t ((by decide : ∀ t, t ∈ T_Ccau → t ∈ rT) t ht), fun q hq => h.2 q ((by decide : ∀ q, q ∈ F_Ccau → q ∈ rF) q hq)⟩
theorem REL.fr {al : Al} {iv iv' : Iv} {rv rv' : Rv} {md : Mo} (h : REL iv rv) (hG : GI al iv rv) (f : FR md iv iv') (g : FR md rv rv') (hd : RC rT rF md) : REL iv' rv' := ⟨Cset.keep h.1 hG (KP.fr f g (sT_Cset hd)), Cport.keep h.2.1 hG (KP.fr f g (sT_Cport hd)), Clegn.keep h.2.2.1 hG (KP.fr f g (sT_Clegn hd)), Clegf.keep h.2.2.2.1 hG (KP.fr f g (sT_Clegf hd)), Clog.keep h.2.2.2.2.1 hG (KP.fr f g (sT_Clog hd)), Crt.keep h.2.2.2.2.2.1 hG (KP.fr f g (sT_Crt hd)), Ctkn.keep h.2.2.2.2.2.2.1 hG (KP.fr f g (sT_Ctkn hd)), Ctick.keep h.2.2.2.2.2.2.2.1 hG (KP.fr f g (sT_Ctick hd)), Ccau.keep h.2.2.2.2.2.2.2.2 hG (KP.fr f g (sT_Ccau hd))⟩
theorem REL.ex {al al' : Al} {iv iv' : Iv} {rv rv' : Rv} {md : Mo} (h : REL iv rv) (hG : GI al iv rv) (g : EX md al iv rv al' iv' rv') (hd : RC rT rF md) : REL iv' rv' := ⟨Cset.keep h.1 hG (KP.ex g (sT_Cset hd)), Cport.keep h.2.1 hG (KP.ex g (sT_Cport hd)), Clegn.keep h.2.2.1 hG (KP.ex g (sT_Clegn hd)), Clegf.keep h.2.2.2.1 hG (KP.ex g (sT_Clegf hd)), Clog.keep h.2.2.2.2.1 hG (KP.ex g (sT_Clog hd)), Crt.keep h.2.2.2.2.2.1 hG (KP.ex g (sT_Crt hd)), Ctkn.keep h.2.2.2.2.2.2.1 hG (KP.ex g (sT_Ctkn hd)), Ctick.keep h.2.2.2.2.2.2.2.1 hG (KP.ex g (sT_Ctick hd)), Ccau.keep h.2.2.2.2.2.2.2.2 hG (KP.ex g (sT_Ccau hd))⟩
theorem REL.s_set {al al1 : Al} {iv iv1 iv2 : Iv} {rv rv1 rv2 : Rv} {what v r1 r2 : Int32} (hG : GI al iv rv) (h : REL iv rv) (p1 : (spSet what v = 0 ∧ r1 = iv 50 0 what.toNatClampNeg ∧ ∀ k, iv1 50 0 k = if k = what.toNatClampNeg then v else iv 50 0 k) ∨ (spSet what v ≠ 0 ∧ r1 = spSet what v ∧ ∀ k, iv1 50 0 k = iv 50 0 k)) (p2 : (spSet what v = 0 ∧ r2 = iv1 15 0 what.toNatClampNeg ∧ ∀ k, iv2 15 0 k = if k = what.toNatClampNeg then v else iv1 15 0 k) ∨ (spSet what v ≠ 0 ∧ r2 = spSet what v ∧ ∀ k, iv2 15 0 k = iv1 15 0 k)) (x1 : EX ([51, 50], []) al iv rv al1 iv1 rv1) (f2 : FR ([16, 15], []) iv1 iv2) (g2 : FR ([16, 15], []) rv1 rv2) : REL iv2 rv2 := ⟨Cset.s_set hG h.1 p1 p2 x1 f2 g2, Cport.keep h.2.1 hG (KP.two x1 f2 g2 (by decide) (by decide)), Clegn.keep h.2.2.1 hG (KP.two x1 f2 g2 (by decide) (by decide)), Clegf.keep h.2.2.2.1 hG (KP.two x1 f2 g2 (by decide) (by decide)), Clog.keep h.2.2.2.2.1 hG (KP.two x1 f2 g2 (by decide) (by decide)), Crt.keep h.2.2.2.2.2.1 hG (KP.two x1 f2 g2 (by decide) (by decide)), Ctkn.keep h.2.2.2.2.2.2.1 hG (KP.two x1 f2 g2 (by decide) (by decide)), Ctick.keep h.2.2.2.2.2.2.2.1 hG (KP.two x1 f2 g2 (by decide) (by decide)), Ccau.keep h.2.2.2.2.2.2.2.2 hG (KP.two x1 f2 g2 (by decide) (by decide))⟩
theorem REL.s_seen {al al1 : Al} {iv iv1 iv2 : Iv} {rv rv1 rv2 : Rv} {a b by_ r1 r2 : Int32} (hG : GI al iv rv) (h : REL iv rv) (p1 : (spSeen a b by_ = 0 ∧ tkP iv iv1 a.toNatClampNeg b.toNatClampNeg by_ r1 ∧ (CRT iv rv → CRT iv1 rv1)) ∨ (spSeen a b by_ ≠ 0 ∧ r1 = spSeen a b by_ ∧ (∀ k : Nat, iv1 56 k 2 = iv 56 k 2 ∧ iv1 56 k 3 = iv 56 k 3) ∧ (CRT iv rv → CRT iv1 rv1))) (p2 : (spSeen a b by_ = 0 ∧ tkM iv1 iv2 a.toNatClampNeg b.toNatClampNeg by_ r2) ∨ (spSeen a b by_ ≠ 0 ∧ r2 = spSeen a b by_ ∧ ∀ k : Nat, iv2 3 0 k = iv1 3 0 k ∧ iv2 4 0 k = iv1 4 0 k)) (x1 : EX ([51], [(56, 2), (56, 3), (52, 2), (62, 10), (62, 11), (62, 12), (62, 13)]) al iv rv al1 iv1 rv1) (f2 : FR ([16, 4, 3], [(0, 5)]) iv1 iv2) (g2 : FR ([16, 4, 3], [(0, 5)]) rv1 rv2) : REL iv2 rv2 := ⟨Cset.keep h.1 hG (KP.two x1 f2 g2 (by decide) (by decide)), Cport.s_seen hG h.2.1 p1 p2 x1 f2 g2, Clegn.keep h.2.2.1 hG (KP.two x1 f2 g2 (by decide) (by decide)), Clegf.keep h.2.2.2.1 hG (KP.two x1 f2 g2 (by decide) (by decide)), Clog.keep h.2.2.2.2.1 hG (KP.two x1 f2 g2 (by decide) (by decide)), Crt.s_seen hG h.2.2.2.2.2.1 p1 p2 x1 f2 g2, Ctkn.keep h.2.2.2.2.2.2.1 hG (KP.two x1 f2 g2 (by decide) (by decide)), Ctick.keep h.2.2.2.2.2.2.2.1 hG (KP.two x1 f2 g2 (by decide) (by decide)), Ccau.keep h.2.2.2.2.2.2.2.2 hG (KP.two x1 f2 g2 (by decide) (by decide))⟩
theorem REL.s_leg {al al1 : Al} {iv iv1 iv2 : Iv} {rv rv1 rv2 : Rv} {a b pp cc_ lv_ rr r1 r2 : Int32} (hG : GI al iv rv) (h : REL iv rv) (p1 : (spLeg a b pp cc_ lv_ rr (iv 57 0 1).toInt = 0 ∧ r1.toInt = (iv 57 0 1).toInt ∧ (iv1 57 0 1).toInt = (iv 57 0 1).toInt + 1 ∧ ∃ (aa : Nat) (siz : Int32), siz.toInt = al.1 62 + 1 ∧ al1 = grow al 62 aa ∧ iv1 = legIv iv (al.1 62) r1 pp cc_ lv_ rr siz ∧ rv1 = legRv rv (al.1 62) a.toNatClampNeg b.toNatClampNeg) ∨ (spLeg a b pp cc_ lv_ rr (iv 57 0 1).toInt ≠ 0 ∧ r1 = spLeg a b pp cc_ lv_ rr (iv 57 0 1).toInt ∧ iv1 57 0 1 = iv 57 0 1)) (p2 : (spLeg a b pp cc_ lv_ rr (iv1 0 0 6).toInt = 0 ∧ r2.toInt = (iv1 0 0 6).toInt ∧ (iv2 0 0 6).toInt = (iv1 0 0 6).toInt + 1 ∧ lgM iv1 iv2 a b pp cc_ lv_ rr) ∨ (spLeg a b pp cc_ lv_ rr (iv1 0 0 6).toInt ≠ 0 ∧ r2 = spLeg a b pp cc_ lv_ rr (iv1 0 0 6).toInt ∧ iv2 0 0 6 = iv1 0 0 6 ∧ lgK iv1 iv2)) (x1 : EX ([51, 58], [(57, 1)]) al iv rv al1 iv1 rv1) (f2 : FR ([16, 5, 6, 7, 8, 9, 10], [(0, 6)]) iv1 iv2) (g2 : FR ([16, 5, 6, 7, 8, 9, 10], [(0, 6)]) rv1 rv2) : REL iv2 rv2 := ⟨Cset.keep h.1 hG (KP.two x1 f2 g2 (by decide) (by decide)), Cport.keep h.2.1 hG (KP.two x1 f2 g2 (by decide) (by decide)), Clegn.s_leg hG h.2.2.1 p1 p2 x1 f2 g2, Clegf.s_leg hG h.2.2.1 h.2.2.2.1 p1 p2 x1 f2 g2, Clog.s_leg hG h.2.2.1 h.2.2.2.2.1 p1 p2 x1 f2 g2, Crt.s_leg hG h.2.2.1 h.2.2.2.1 h.2.2.2.2.2.1 p1 p2 x1 f2 g2, Ctkn.keep h.2.2.2.2.2.2.1 hG (KP.two x1 f2 g2 (by decide) (by decide)), Ctick.keep h.2.2.2.2.2.2.2.1 hG (KP.two x1 f2 g2 (by decide) (by decide)), Ccau.s_leg hG h.2.2.1 h.2.2.2.2.2.2.2.2 p1 p2 x1 f2 g2⟩
theorem REL.s_log {al al1 : Al} {iv iv1 iv2 : Iv} {rv rv1 rv2 : Rv} {lg a b r1 r2 : Int32} (hG : GI al iv rv) (h : REL iv rv) (p1 : (spLog lg a b (iv 57 0 1).toInt = 0 ∧ r1.toInt = 1 - (iv 62 lg.toNatClampNeg 7).toInt ∧ enP iv iv1 lg.toNatClampNeg a b ∧ (CRT iv rv → CRT iv1 rv1)) ∨ (spLog lg a b (iv 57 0 1).toInt ≠ 0 ∧ r1 = spLog lg a b (iv 57 0 1).toInt ∧ enK iv iv1 ∧ (CRT iv rv → CRT iv1 rv1))) (p2 : (spLog lg a b (iv1 0 0 6).toInt = 0 ∧ r2.toInt = 1 - (iv1 11 0 lg.toNatClampNeg).toInt ∧ ∀ k, iv2 11 0 k = (if k = lg.toNatClampNeg then 1 else iv1 11 0 k) ∧ iv2 12 0 k = (if k = lg.toNatClampNeg then a else iv1 12 0 k) ∧ iv2 13 0 k = (if k = lg.toNatClampNeg then b else iv1 13 0 k)) ∨ (spLog lg a b (iv1 0 0 6).toInt ≠ 0 ∧ r2 = spLog lg a b (iv1 0 0 6).toInt ∧ ∀ k, iv2 11 0 k = iv1 11 0 k ∧ iv2 12 0 k = iv1 12 0 k ∧ iv2 13 0 k = iv1 13 0 k)) (x1 : EX ([51], [(62, 10), (62, 11), (62, 12), (62, 13), (62, 7), (62, 8), (62, 9)]) al iv rv al1 iv1 rv1) (f2 : FR ([16, 11, 12, 13], []) iv1 iv2) (g2 : FR ([16, 11, 12, 13], []) rv1 rv2) : REL iv2 rv2 := ⟨Cset.keep h.1 hG (KP.two x1 f2 g2 (by decide) (by decide)), Cport.keep h.2.1 hG (KP.two x1 f2 g2 (by decide) (by decide)), Clegn.keep h.2.2.1 hG (KP.two x1 f2 g2 (by decide) (by decide)), Clegf.keep h.2.2.2.1 hG (KP.two x1 f2 g2 (by decide) (by decide)), Clog.s_log hG h.2.2.1 h.2.2.2.2.1 p1 p2 x1 f2 g2, Crt.s_log hG h.2.2.2.2.2.1 p1 p2 x1 f2 g2, Ctkn.keep h.2.2.2.2.2.2.1 hG (KP.two x1 f2 g2 (by decide) (by decide)), Ctick.keep h.2.2.2.2.2.2.2.1 hG (KP.two x1 f2 g2 (by decide) (by decide)), Ccau.keep h.2.2.2.2.2.2.2.2 hG (KP.two x1 f2 g2 (by decide) (by decide))⟩
theorem REL.s_cause {al al1 : Al} {iv iv1 iv2 : Iv} {rv rv1 rv2 : Rv} {lg cs r1 r2 : Int32} (hG : GI al iv rv) (h : REL iv rv) (p1 : (spCause lg cs (iv 57 0 1).toInt = 0 ∧ r1 = iv 62 lg.toNatClampNeg 14 ∧ ∀ k, iv1 62 k 14 = if k = lg.toNatClampNeg then cs else iv 62 k 14) ∨ (spCause lg cs (iv 57 0 1).toInt ≠ 0 ∧ r1 = spCause lg cs (iv 57 0 1).toInt ∧ ∀ k, iv1 62 k 14 = iv 62 k 14)) (p2 : (spCause lg cs (iv1 0 0 6).toInt = 0 ∧ r2 = iv1 14 0 lg.toNatClampNeg ∧ ∀ k, iv2 14 0 k = if k = lg.toNatClampNeg then cs else iv1 14 0 k) ∨ (spCause lg cs (iv1 0 0 6).toInt ≠ 0 ∧ r2 = spCause lg cs (iv1 0 0 6).toInt ∧ ∀ k, iv2 14 0 k = iv1 14 0 k)) (x1 : EX ([51], [(62, 14)]) al iv rv al1 iv1 rv1) (f2 : FR ([16, 14], []) iv1 iv2) (g2 : FR ([16, 14], []) rv1 rv2) : REL iv2 rv2 := ⟨Cset.keep h.1 hG (KP.two x1 f2 g2 (by decide) (by decide)), Cport.keep h.2.1 hG (KP.two x1 f2 g2 (by decide) (by decide)), Clegn.keep h.2.2.1 hG (KP.two x1 f2 g2 (by decide) (by decide)), Clegf.keep h.2.2.2.1 hG (KP.two x1 f2 g2 (by decide) (by decide)), Clog.keep h.2.2.2.2.1 hG (KP.two x1 f2 g2 (by decide) (by decide)), Crt.keep h.2.2.2.2.2.1 hG (KP.two x1 f2 g2 (by decide) (by decide)), Ctkn.keep h.2.2.2.2.2.2.1 hG (KP.two x1 f2 g2 (by decide) (by decide)), Ctick.keep h.2.2.2.2.2.2.2.1 hG (KP.two x1 f2 g2 (by decide) (by decide)), Ccau.s_cause hG h.2.2.1 h.2.2.2.2.2.2.2.2 p1 p2 x1 f2 g2⟩
theorem REL.s_traveller {al al1 : Al} {iv iv1 iv2 : Iv} {rv rv1 rv2 : Rv} {lg r1 r2 : Int32} (hG : GI al iv rv) (h : REL iv rv) (p1 : (spTrav lg (iv 57 0 1).toInt (iv 63 0 1).toInt = 0 ∧ r1.toInt = (iv 63 0 1).toInt ∧ (iv1 63 0 1).toInt = (iv 63 0 1).toInt + 1 ∧ ∃ (aa a6 a7 : Nat) (siz : Int32), siz.toInt = al.1 65 + 1 ∧ al1 = grow (grow (grow al 65 aa) 66 a6) 67 a7 ∧ iv1 = tickIv iv (al.1 65) r1 siz ∧ rv1 = tickRv rv (al.1 65) lg.toNatClampNeg) ∨ (spTrav lg (iv 57 0 1).toInt (iv 63 0 1).toInt ≠ 0 ∧ r1 = spTrav lg (iv 57 0 1).toInt (iv 63 0 1).toInt ∧ iv1 63 0 1 = iv 63 0 1)) (p2 : (spTrav lg (iv1 0 0 6).toInt (iv1 0 0 20).toInt = 0 ∧ r2.toInt = (iv1 0 0 20).toInt ∧ (iv2 0 0 20).toInt = (iv1 0 0 20).toInt + 1 ∧ (∀ k : Nat, iv2 18 0 k = (if k = 4 * (iv1 0 0 20).toNatClampNeg then lg else iv1 18 0 k) ∧ iv2 19 0 k = (if k = (iv1 0 0 20).toNatClampNeg then 1 else iv1 19 0 k))) ∨ (spTrav lg (iv1 0 0 6).toInt (iv1 0 0 20).toInt ≠ 0 ∧ r2 = spTrav lg (iv1 0 0 6).toInt (iv1 0 0 20).toInt ∧ iv2 0 0 20 = iv1 0 0 20 ∧ (∀ k : Nat, iv2 18 0 k = iv1 18 0 k ∧ iv2 19 0 k = iv1 19 0 k))) (x1 : EX ([51, 64], [(63, 1)]) al iv rv al1 iv1 rv1) (f2 : FR ([16, 18, 19], [(0, 20)]) iv1 iv2) (g2 : FR ([16, 18, 19], [(0, 20)]) rv1 rv2) : REL iv2 rv2 := ⟨Cset.keep h.1 hG (KP.two x1 f2 g2 (by decide) (by decide)), Cport.keep h.2.1 hG (KP.two x1 f2 g2 (by decide) (by decide)), Clegn.keep h.2.2.1 hG (KP.two x1 f2 g2 (by decide) (by decide)), Clegf.keep h.2.2.2.1 hG (KP.two x1 f2 g2 (by decide) (by decide)), Clog.keep h.2.2.2.2.1 hG (KP.two x1 f2 g2 (by decide) (by decide)), Crt.keep h.2.2.2.2.2.1 hG (KP.two x1 f2 g2 (by decide) (by decide)), Ctkn.s_traveller hG h.2.2.1 h.2.2.2.2.2.2.1 p1 p2 x1 f2 g2, Ctick.s_traveller hG h.2.2.1 h.2.2.2.2.2.2.1 h.2.2.2.2.2.2.2.1 p1 p2 x1 f2 g2, Ccau.keep h.2.2.2.2.2.2.2.2 hG (KP.two x1 f2 g2 (by decide) (by decide))⟩
theorem REL.s_then {al al1 : Al} {iv iv1 iv2 : Iv} {rv rv1 rv2 : Rv} {tt lg r1 r2 : Int32} (hG : GI al iv rv) (h : REL iv rv) (p1 : (spThen iv tt lg = 0 ∧ r1.toInt = (iv 19 0 tt.toNatClampNeg).toInt + 1 ∧ thX iv rv iv1 rv1 tt.toNatClampNeg lg.toNatClampNeg) ∨ (spThen iv tt lg ≠ 0 ∧ r1 = spThen iv tt lg ∧ (∀ k : Nat, iv1 65 k 4 = iv 65 k 4) ∧ (∀ i k : Nat, rv1 66 i k = rv 66 i k) ∧ (∀ k : Nat, rv1 65 k 2 = rv 65 k 2))) (p2 : (spThen iv1 tt lg = 0 ∧ r2.toInt = (iv1 19 0 tt.toNatClampNeg).toInt + 1 ∧ (∀ k : Nat, iv2 18 0 k = (if k = 4 * tt.toNatClampNeg + (iv1 19 0 tt.toNatClampNeg).toNatClampNeg then lg else iv1 18 0 k) ∧ (iv2 19 0 k).toInt = (if k = tt.toNatClampNeg then (iv1 19 0 tt.toNatClampNeg).toInt + 1 else (iv1 19 0 k).toInt))) ∨ (spThen iv1 tt lg ≠ 0 ∧ r2 = spThen iv1 tt lg ∧ ∀ k : Nat, iv2 18 0 k = iv1 18 0 k ∧ iv2 19 0 k = iv1 19 0 k)) (x1 : EX ([51, 66], [(65, 2), (65, 4)]) al iv rv al1 iv1 rv1) (f2 : FR ([16, 18, 19], []) iv1 iv2) (g2 : FR ([16, 18, 19], []) rv1 rv2) : REL iv2 rv2 := ⟨Cset.keep h.1 hG (KP.two x1 f2 g2 (by decide) (by decide)), Cport.keep h.2.1 hG (KP.two x1 f2 g2 (by decide) (by decide)), Clegn.keep h.2.2.1 hG (KP.two x1 f2 g2 (by decide) (by decide)), Clegf.keep h.2.2.2.1 hG (KP.two x1 f2 g2 (by decide) (by decide)), Clog.keep h.2.2.2.2.1 hG (KP.two x1 f2 g2 (by decide) (by decide)), Crt.keep h.2.2.2.2.2.1 hG (KP.two x1 f2 g2 (by decide) (by decide)), Ctkn.keep h.2.2.2.2.2.2.1 hG (KP.two x1 f2 g2 (by decide) (by decide)), Ctick.s_then hG h.2.2.1 h.2.2.2.1 h.1 h.2.2.2.2.2.2.1 h.2.2.2.2.2.2.2.1 p1 p2 x1 f2 g2, Ccau.keep h.2.2.2.2.2.2.2.2 hG (KP.two x1 f2 g2 (by decide) (by decide))⟩
theorem REL.s_blame {al al1 : Al} {iv iv1 iv2 : Iv} {rv rv1 rv2 : Rv} {tt r1 r2 : Int32} (hG : GI al iv rv) (h : REL iv rv) (p1 : r1 = beS iv tt) (p2 : r2 = beS iv1 tt) (x1 : EX ([51, 59], []) al iv rv al1 iv1 rv1) (f2 : FR ([16, 17], []) iv1 iv2) (g2 : FR ([16, 17], []) rv1 rv2) : REL iv2 rv2 := ⟨Cset.keep h.1 hG (KP.two x1 f2 g2 (by decide) (by decide)), Cport.keep h.2.1 hG (KP.two x1 f2 g2 (by decide) (by decide)), Clegn.keep h.2.2.1 hG (KP.two x1 f2 g2 (by decide) (by decide)), Clegf.keep h.2.2.2.1 hG (KP.two x1 f2 g2 (by decide) (by decide)), Clog.keep h.2.2.2.2.1 hG (KP.two x1 f2 g2 (by decide) (by decide)), Crt.keep h.2.2.2.2.2.1 hG (KP.two x1 f2 g2 (by decide) (by decide)), Ctkn.keep h.2.2.2.2.2.2.1 hG (KP.two x1 f2 g2 (by decide) (by decide)), Ctick.keep h.2.2.2.2.2.2.2.1 hG (KP.two x1 f2 g2 (by decide) (by decide)), Ccau.keep h.2.2.2.2.2.2.2.2 hG (KP.two x1 f2 g2 (by decide) (by decide))⟩
theorem REL.a_blame {al al1 : Al} {iv iv1 iv2 : Iv} {rv rv1 rv2 : Rv} {tt r1 r2 : Int32} (hG : GI al iv rv) (h : REL iv rv) (p1 : r1 = beS iv tt) (p2 : r2 = beS iv1 tt) (x1 : EX ([51, 59], []) al iv rv al1 iv1 rv1) (f2 : FR ([16, 17], []) iv1 iv2) (g2 : FR ([16, 17], []) rv1 rv2) : r1 = r2 := ans_blame hG  p1 p2 x1 f2 g2
def LSt (ox om : Nat) (al : Al) (iv : Iv) (rv : Rv) : Prop := GI al iv rv ∧ al.2 49 0 = ox ∧ al.2 0 0 = om ∧ REL iv rv
def LX (p : Program) (s : State) (m : MethodId) (c : Code) (b L : Nat) (xs : Nat → Int32) (D : va_G) (cA : FieldType → ClassId) : Prop := Cx p s m #[Value.ref b] c cL_law 4 RL D cA ∧ va_X b L xs s s.heap ∧ b < s.heap.size ∧ SX cA s.heap.size s s.heap ∧ L ≤ 3584
def bz (x : Int32) : Int32 := if x = 0 then 0 else 1
theorem bz_0 {x : Int32} (h : x.toInt = (0 : Int32).toInt) : (0 : Int32) = bz x := by
  have : x = 0 := (fa_eq _ _).mpr h
  rw [this]; rfl
theorem bz_1 {x : Int32} (h : ¬ x.toInt = (0 : Int32).toInt) : (1 : Int32) = bz x := by
  unfold bz; rw [if_neg (fun e => h (by rw [e]))]
section LR
variable {p : Program} {l : Launch} {e : Env} {R : Room} {s : State} {m : MethodId} {args : Array Value} {below : List Frame} {meth : Method} {c : Code} {H : Heap} {locs : List Loc} {cells slots : Nat} {Q : State → Prop}
variable {cc : ByteArray} {pc nL : Nat} {ls : Array Slot} {rest : List Value} {own : String} {D : va_G} {cA : FieldType → ClassId} {sz : Nat} {al : Al} {iv : Iv} {rv : Rv} {b L : Nat} {xs : Nat → Int32}
theorem q_ai (X : LX p s m c b L xs D cA) (hS : va_S (Aq s.heap.size) s.heap H locs) {i k v : Int32} (hk : 0 ≤ k.toInt ∧ k.toInt ≤ 6) (hi : 0 ≤ i.toInt ∧ i.toInt + 6 < L) (ev : xs (i + k).toNatClampNeg = v) (d1 : decode cL_law pc = .ok (.iadd, 1)) (d2 : decode cL_law (pc + 1) = .ok (.iaload, 1))
    (kk : W p l e R s m #[Value.ref b] below meth c H locs cells slots Q (F0 m (pc + 2) ls (.int v :: rest))) : W p l e R s m #[Value.ref b] below meth c H locs cells slots Q (F0 m pc ls (.int k :: .int i :: .ref b :: rest)) := by
  obtain ⟨C, hX, hbl, -, hL⟩ := X
  have ti : (i + k).toInt = i.toInt + k.toInt := fb_addI (by omega) (by omega)
  refine lv_iadd C.1.1 C.1.2.1 d1 ?_
  refine va_sld (A := Aq s.heap.size) C.1.1 C.1.2.1 hX hbl (fun z => absurd hbl (Nat.not_lt.mpr z)) hS (ix_in (by omega) (by omega)) d2 ?_
  rw [ev]; exact kk
theorem q_runVX {y : MethodName} {bytes : ByteArray} {maxL mc ms n index t i ci : Nat} {ret : Option FieldType} {rmm : Room} {As : List Value} {q : vw_C} {Qc : Array Value → State → Outcome → State → Prop} {X : State → Prop} {st : List Value} (C : Cx p s m args c cc nL own D cA) (hU : UW D cA sz al iv rv H) (hz : sz ≤ H.size)
    (hX1 : ∀ U : State, U.heap = H → s.WarmedH U.vm → X U) (hX2 : ∀ (U : State) (g : JFrame) (mk : MethodId) (a : Array Value), X U → X (U.calling g mk a))
    (hM : Met l y (wd y bytes maxL ret) rmm (PcA D cA sz al iv rv (.ref (al.2 t i) :: As) X) Qc mc ms (Aq sz)) (vm : VM y bytes maxL ret n) (hl : Cond.methodLink own index y ∈ BW) (kp : (pt t).1 = some ci) (hc : vwCl[ci]? = some q) (hq : q.1 = y.cls) (hi : i < al.1 t) (hls : ls.size = nL) (hn : As.length = n) (hst : st = As.reverse ++ .ref (al.2 t i) :: rest)
    (hrm : (rest.map fun v => v.category).sum ≤ 8) (hdg : decode cc pc = .ok (.invokevirtual index, 3)) (hrc : rmm.cells = mc) (hrs : rmm.slots = ms) (hR : rmm.frames + 1 ≤ R.frames ∧ 8 + (maxL + 11) + rmm.locals ≤ R.locals) (hf : cells + mc ≤ R.cells ∧ slots + ms ≤ R.slots) :
    va_Run p l e R s m args below meth c H locs cells slots mc ms (F0 m pc ls st) rest (Qc (Value.ref (al.2 t i) :: As).toArray) (Aq sz) := by
  obtain ⟨v1, v2, v3, v4, v5⟩ := vm
  have hts := C.1.2.2.2.2
  have hK := C.2
  obtain ⟨cell, g1, g2, g3, -⟩ := (hU.1 t i hi).ob kp
  refine va_runV (C := y.cls) (As := As) (rest := rest) C.1 hM ⟨cb_of hts v1 v4 hl v5 hrc hrs hR, hts _ v2, hts _ v3⟩ ⟨fun a U g mk q => ⟨q.1, q.2.1, q.2.2.1.calling g mk a, q.2.2.2.1, hX2 U g mk a q.2.2.2.2⟩, ⟨cell, g1, by rw [g3]; rfl, ?_⟩, fun U hH hW => ⟨rfl, by rw [hH]; exact hU, hK.warm hW, by rw [hH]; exact hz, hX1 U hH hW⟩⟩ rfl hn hls hst (lv_room hrm) hdg hf
  rw [g2, ← hq]; exact (hK.1.1 ci q hc).2.1
end LR
end
