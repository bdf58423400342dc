section
set_option maxHeartbeats 4000000 in
set_option maxRecDepth 100000 in
theorem c_X12_hoursOf_x {l : Launch} {D : va_G} {cA : FieldType → ClassId} {sz : Nat} {al : Al} {iv : Iv} {rv : Rv} (hG : GI al iv rv) (tt : Int32) (pre0 : 0 ≤ tt.toInt ∧ tt.toInt < (iv 0 0 20).toInt) : Met l yX12_hoursOf (wd yX12_hoursOf cX12_hoursOf 3 (some .int)) (rm 4) (PcW D cA sz al iv rv [.ref (al.2 0 0), .int tt]) (QI D cA sz al (fI al ([20], []) iv rv (fun r iv' rv' => r = hoF iv tt.toNatClampNeg))) 0 0 (Aq sz) := by
  refine mk_i (by decide) (Nat.le_of_ble_eq_true rfl) rfl ?_
  intro p e s m args below meth c ls Q H locs C hU hS hl hret
  have hx := C.1.1
  have hb := C.1.2.1
  have hl : lv_has ls 3 [(0, .ref (al.2 0 0)), (1, .int tt)] := hl
  have hG0 := hG
  have h6 := le6 hG
  have h20 := le20 hG
  have h41 := le41 hG
  have h20 := le20 hG
  have hF1 : FR ([20], []) iv iv := FR.rf
  have hF2 : FR ([20], []) rv rv := FR.rf
  have k9999 : (9999 : Int32).toInt = 9999 := by decide
  refine lv_aload_n hx hb dX12_hoursOf_0 rfl (lv_at hl 0 rfl) ?_
  refine lv_iload_n hx hb dX12_hoursOf_1 rfl (lv_at hl 1 rfl) ?_
  refine q_fi (q_runV (t := 0) (i := 0) (As := [.int tt]) (rest := []) C hU (c_X12_soonestOf_x hG tt (by omega)) vm_X12_soonestOf ml_X12_235 k_0.1 (hc := rfl) rfl (h1_0 hG) hl.1 rfl rfl (Nat.le_of_ble_eq_true rfl) dX12_hoursOf_2 rfl rfl ⟨Nat.le_of_ble_eq_true rfl, Nat.le_of_ble_eq_true rfl⟩ ⟨Nat.le_refl _, Nat.le_refl _⟩) hS (fun x_6 iv_2 rv_3 H locs hG fa_4 fb_5 hp_1 hU hS => ?_)
  have hF1 := hF1.tr (m := ([20], [])) fa_4 (by decide)
  have hF2 := hF2.tr (m := ([20], [])) fb_5 (by decide)
  have kf_7 := congrArg Int32.toInt (hF1 0 0 20 (by decide))
  refine lv_istore_n (lv' := [(2, .int x_6), (0, .ref (al.2 0 0)), (1, .int tt)]) hx hb dX12_hoursOf_5 rfl hl (by decide) rfl (fun ls hl => ?_)
  have hso := hp_1
  have tso := congrArg Int32.toInt hso
  refine lv_iload_n hx hb dX12_hoursOf_6 rfl (lv_at hl 0 rfl) ?_
  refine b_if_ge (tgt := 16) hx hb dX12_hoursOf_7 (by decide) (fun c_8 => ?_) (fun c_8 => ?_)
  ·
    refine lv_iload_n hx hb dX12_hoursOf_16 rfl (lv_at hl 0 rfl) ?_
    refine lv_aload_n hx hb dX12_hoursOf_17 rfl (lv_at hl 1 rfl) ?_
    refine g_0_12 C hU hG (h1_0 hG) fl_X12_37 dX12_hoursOf_18 ?_
    refine lv_aload_n hx hb dX12_hoursOf_21 rfl (lv_at hl 1 rfl) ?_
    refine lv_iload_n hx hb dX12_hoursOf_22 rfl (lv_at hl 2 rfl) ?_
    refine q_pi (q_runV (t := 0) (i := 0) (As := [.int tt]) (rest := [.ref (al.2 10 0), .int x_6]) C hU (c_X12_lastLeg_x hG tt (by omega)) vm_X12_lastLeg ml_X12_232 k_0.1 (hc := rfl) rfl (h1_0 hG) hl.1 rfl rfl (Nat.le_of_ble_eq_true rfl) dX12_hoursOf_23 rfl rfl ⟨Nat.le_of_ble_eq_true rfl, Nat.le_of_ble_eq_true rfl⟩ ⟨Nat.le_refl _, Nat.le_refl _⟩) hS (fun x_10 H locs hp_9 hU hS => ?_)
    refine a_10 C hU hG (h1_10 hG) (x := x_10) (by omega) (by omega) dX12_hoursOf_26 (fun x_11 e_12 le_12 ue_12 => ?_)
    have te_12 := congrArg Int32.toInt e_12
    have ne_12 : x_11.toInt = (iv 10 0 (x_10 : Int32).toNatClampNeg).toInt := by rw [e_12, hF1.arr 10 0 (x_10 : Int32).toNatClampNeg (by decide)]
    have h26 := e_12
    rw [hp_9.2, thL_20 (fr20 hF1), fr20 hF1 10 0 _ (by decide)] at h26
    refine lv_isub hx hb dX12_hoursOf_27 ?_
    refine lv_topi (fun x_13 e_14 => ?_)
    have w_15 := fb_rng x_6
    have te_14 : x_13.toInt = (x_6 : Int32).toInt - (x_11 : Int32).toInt := by rw [e_14]; exact fb_subI (by omega) (by omega)
    refine q_pi (q_runS (As := [.int x_13]) (rest := []) C hU (c_X12_over  x_13 ) sm_X12_over ml_X12_187 hl.1 rfl rfl (Nat.le_of_ble_eq_true rfl) dX12_hoursOf_28 rfl rfl ⟨Nat.le_of_ble_eq_true rfl, Nat.le_of_ble_eq_true rfl⟩ ⟨Nat.le_refl _, Nat.le_refl _⟩) hS (fun x_17 H locs hp_16 hU hS => ?_)
    have q_18 := hp_16.2
    have tq_18 := congrArg Int32.toInt q_18
    exact hret (⟨hG, hF1, hF2, by unfold hoF; first | rw [if_pos (by omega)] | (rw [if_neg (by omega), q_18, e_14, h26, hso])⟩) hU hS dX12_hoursOf_31
  ·
    refine lv_sipush (v := 9999) hx hb dX12_hoursOf_10 (by decide) ?_
    refine lv_goto (tgt := 31) hx hb dX12_hoursOf_13 (by decide) ?_
    exact hret (⟨hG, hF1, hF2, by unfold hoF; first | rw [if_pos (by omega)] | (rw [if_neg (by omega), True.intro, True.intro, h26, hso])⟩) hU hS dX12_hoursOf_31
set_option maxHeartbeats 4000000 in
set_option maxRecDepth 100000 in
theorem c_X8_missedPlace_x {l : Launch} {D : va_G} {cA : FieldType → ClassId} {sz : Nat} {al : Al} {iv : Iv} {rv : Rv} (hG : GI al iv rv) (ti : Nat) (hti : ti < al.1 65) (conn : Int32) (pre0 : BM iv rv) (pre1 : conn = iv 15 0 2) : Met l yX8_missedPlace (wd yX8_missedPlace cX8_missedPlace 3 (some .int)) (rm 0) (PcW D cA sz al iv rv [.ref (al.2 65 ti), .int conn]) (QI D cA sz al (pI iv rv (fun r => (-9 ≤ r.toInt ∧ r.toInt ≤ 3) ∧ (r = mpX iv ti ∧ (r.toInt = -9 ∨ (0 ≤ r.toInt ∧ r.toInt < (iv 65 ti 4).toInt)))))) 0 0 (Aq sz) := by
  refine mk_i (by decide) (Nat.le_of_ble_eq_true rfl) rfl ?_
  intro p e s m args below meth c ls Q H locs C hU hS hl hret
  have hx := C.1.1
  have hb := C.1.2.1
  have hl : lv_has ls 3 [(0, .ref (al.2 65 ti)), (1, .int conn)] := hl
  have hG0 := hG
  have htk := tk_k hG pre0 hti
  have hsz := htk.2.1
  have tcon := congrArg Int32.toInt pre1
  have km9 : ((-9) : Int32).toInt = -9 := by decide
  have k0 : (0 : Int32).toInt = 0 := by decide
  have k1 : (1 : Int32).toInt = 1 := by decide
  refine lv_iconst (v := 0) hx hb dX8_missedPlace_0 (by decide) ?_
  refine lv_istore_n (lv' := [(2, .int 0), (0, .ref (al.2 65 ti)), (1, .int conn)]) hx hb dX8_missedPlace_1 rfl hl (by decide) rfl (fun ls hl => ?_)
  have J_2 : ∀ (n_2 : Nat) (l2_1 : Int32) (ls : Array Slot), lv_has ls 3 [(0, .ref (al.2 65 ti)), (1, .int conn), (2, .int l2_1)] → (0 ≤ l2_1.toInt ∧ l2_1.toInt ≤ 4) → (msN iv ti l2_1.toNatClampNeg).toInt < 0 → l2_1.toInt ≤ (iv 65 ti 4).toInt → (4 - l2_1.toInt).toNat < n_2 → W p l e (rm 0) s m args below meth c H locs 0 0 Q (F0 m 2 ls []) := by
    intro n_2
    induction n_2 with
    | zero =>
      intro l2_1 ls hl i2_0 i2_1 i2_2 hm_2
      exact absurd hm_2 (Nat.not_lt_zero _)
    | succ n_2 ih_2 =>
      intro l2_1 ls hl i2_0 i2_1 i2_2 hm_2
      refine lv_iload_n hx hb dX8_missedPlace_2 rfl (lv_at hl 2 rfl) ?_
      refine lv_aload_n hx hb dX8_missedPlace_3 rfl (lv_at hl 0 rfl) ?_
      refine g_65_4 C hU hG hti fl_X8_28 dX8_missedPlace_4 (fun x_2 e_3 le_3 ue_3 => ?_)
      have te_3 := congrArg Int32.toInt e_3
      refine b_icmp_ge (tgt := 61) hx hb dX8_missedPlace_7 (by decide) (fun c_4 => ?_) (fun c_4 => ?_)
      ·
        refine lv_bipush (v := (-9)) hx hb dX8_missedPlace_61 (by decide) ?_
        exact hret (⟨rfl, rfl, ⟨⟨by omega, by omega⟩, ⟨mpx_end i2_1 htk.1 (by omega), by omega⟩⟩⟩) hU hS dX8_missedPlace_63
      ·
        refine lv_aload_n hx hb dX8_missedPlace_10 rfl (lv_at hl 0 rfl) ?_
        refine g_65_3 C hU hG hti fl_X8_24 dX8_missedPlace_11 (fun hb_5 => ?_)
        refine lv_iload_n hx hb dX8_missedPlace_14 rfl (lv_at hl 2 rfl) ?_
        refine a_66 C hU hG hb_5 (x := l2_1) (by omega) (by omega) dX8_missedPlace_15 (fun r_6 er_7 hb_8 => ?_)
        obtain ⟨j_9, ej_10⟩ : ∃ j, r_6 = some j := (tleg hG hti (by omega) (by omega)).imp (fun _ h => er_7.trans h)
        subst ej_10
        have hl : lv_has ls 3 [(0, .ref (al.2 65 ti)), (1, .int conn), (2, .int l2_1)] := hl
        have hb_11 : j_9 < al.1 62 := hb_8 j_9 rfl
        have hw := tk_ix hG0 pre0 hti er_7 (by omega) (by omega)
        have hl7 := lg_done hG0 pre0.1 hb_11 hw
        refine g_62_7 C hU hG hb_11 fl_X8_48 dX8_missedPlace_16 (fun x_12 e_13 le_13 ue_13 => ?_)
        have te_13 := congrArg Int32.toInt e_13
        refine b_if_ne (tgt := 24) hx hb dX8_missedPlace_19 (by decide) (fun c_14 => ?_) (fun c_14 => ?_)
        ·
          have hd : ¬ (iv 11 0 (rwL iv ti l2_1.toNatClampNeg)).toInt = 0 := by omega
          refine lv_iload_n hx hb dX8_missedPlace_24 rfl (lv_at hl 2 rfl) ?_
          have J_55 : ∀ (ls : Array Slot), lv_has ls 3 [(0, .ref (al.2 65 ti)), (1, .int conn), (2, .int l2_1)] → ¬ bad iv ti l2_1.toNatClampNeg → W p l e (rm 0) s m args below meth c H locs 0 0 Q (F0 m 55 ls []) := by
            intro ls hl i55_0
            obtain ⟨x_15, e_16⟩ : ∃ y : Int32, y = l2_1 + 1 := ⟨_, rfl⟩
            have te_16 : x_15.toInt = (l2_1 : Int32).toInt + (1 : Int32).toInt := by rw [e_16]; exact fb_addI (by omega) (by omega)
            refine lv_iinc (v := x_15) (lv' := [(2, .int x_15), (0, .ref (al.2 65 ti)), (1, .int conn)]) hx hb dX8_missedPlace_55 hl (k := 2) rfl (by rw [e_16]; rfl) (by decide) rfl (fun ls hl => ?_)
            refine lv_goto (tgt := 2) hx hb dX8_missedPlace_58 (by decide) ?_
            exact ih_2 x_15 _ (lv_sub hl [1, 2, 0] rfl) (by omega) (by first | exact ms_up (by omega) (by omega) i2_1 i55_0 | exact ms_0) (by omega) (by omega)
          refine b_if_le (tgt := 55) hx hb dX8_missedPlace_25 (by decide) (fun c_17 => ?_) (fun c_17 => ?_)
          ·
            exact J_55 _ (lv_sub hl [0, 1, 2] rfl) (by first | exact nb_0 hd (by omega) | exact nb_x hd True.intro hrt3.1 hw3 True.intro hrt4.2.1 hw4 True.intro tcon (by omega))
          ·
            refine lv_aload_n hx hb dX8_missedPlace_28 rfl (lv_at hl 0 rfl) ?_
            refine g_65_3 C hU hG hti fl_X8_24 dX8_missedPlace_29 (fun hb_18 => ?_)
            refine lv_iload_n hx hb dX8_missedPlace_32 rfl (lv_at hl 2 rfl) ?_
            refine a_66 C hU hG hb_18 (x := l2_1) (by omega) (by omega) dX8_missedPlace_33 (fun r_19 er_20 hb_21 => ?_)
            obtain ⟨j_22, ej_23⟩ : ∃ j, r_19 = some j := (tleg hG hti (by omega) (by omega)).imp (fun _ h => er_20.trans h)
            subst ej_23
            have hl : lv_has ls 3 [(0, .ref (al.2 65 ti)), (1, .int conn), (2, .int l2_1)] := hl
            have hb_24 : j_22 < al.1 62 := hb_21 j_22 rfl
            have hw3 := tk_ix hG0 pre0 hti er_20 (by omega) (by omega)
            have hrt3 := rt_x hG0 pre0.1 hb_24 (by have := lg_done hG0 pre0.1 hb_24 hw3; omega)
            refine g_62_10 C hU hG hb_24 fl_X8_52 dX8_missedPlace_34 (fun x_25 e_26 => ?_)
            have te_26 := congrArg Int32.toInt e_26
            refine lv_aload_n hx hb dX8_missedPlace_37 rfl (lv_at hl 0 rfl) ?_
            refine g_65_3 C hU hG hti fl_X8_24 dX8_missedPlace_38 (fun hb_27 => ?_)
            refine lv_iload_n hx hb dX8_missedPlace_41 rfl (lv_at hl 2 rfl) ?_
            refine lv_iconst (v := 1) hx hb dX8_missedPlace_42 (by decide) ?_
            refine lv_isub hx hb dX8_missedPlace_43 ?_
            refine lv_topi (fun x_28 e_29 => ?_)
            have te_29 : x_28.toInt = (l2_1 : Int32).toInt - (1 : Int32).toInt := by rw [e_29]; exact fb_subI (by omega) (by omega)
            refine a_66 C hU hG hb_27 (x := x_28) (by omega) (by omega) dX8_missedPlace_44 (fun r_30 er_31 hb_32 => ?_)
            obtain ⟨j_33, ej_34⟩ : ∃ j, r_30 = some j := (tleg hG hti (by omega) (by omega)).imp (fun _ h => er_31.trans h)
            subst ej_34
            have hl : lv_has ls 3 [(0, .ref (al.2 65 ti)), (1, .int conn), (2, .int l2_1)] := hl
            have hb_35 : j_33 < al.1 62 := hb_32 j_33 rfl
            have hw4 := tk_ix1 (x := l2_1) hG0 pre0 hti er_31 (by omega) (by omega) (by omega)
            have hrt4 := rt_x hG0 pre0.1 hb_35 (by have := lg_done hG0 pre0.1 hb_35 hw4; have w := ms_all (by rw [clamp_n]; omega) i2_1 (l2_1.toNatClampNeg - 1) (by rw [clamp_n]; omega); have w2 := nbd w; omega)
            refine g_62_11 C hU hG hb_35 fl_X8_55 dX8_missedPlace_45 (fun x_36 e_37 => ?_)
            have te_37 := congrArg Int32.toInt e_37
            refine lv_isub hx hb dX8_missedPlace_48 ?_
            refine lv_topi (fun x_38 e_39 => ?_)
            refine lv_iload_n hx hb dX8_missedPlace_49 rfl (lv_at hl 1 rfl) ?_
            refine b_icmp_ge (tgt := 55) hx hb dX8_missedPlace_50 (by decide) (fun c_40 => ?_) (fun c_40 => ?_)
            ·
              exact J_55 _ (lv_sub hl [0, 1, 2] rfl) (by first | exact nb_0 hd (by omega) | exact nb_x hd e_26 hrt3.1 hw3 e_37 hrt4.2.1 hw4 e_39 tcon (by omega))
            ·
              refine lv_iload_n hx hb dX8_missedPlace_53 rfl (lv_at hl 2 rfl) ?_
              exact hret (⟨rfl, rfl, ⟨⟨by omega, by omega⟩, ⟨by rw [mpx_ret i2_1 (Or.inr ⟨by rw [clamp_n]; omega, bd_x e_26 hrt3.1 hw3 e_37 hrt4.2.1 hw4 e_39 tcon (by omega)⟩) htk.1 (by omega) (by omega)], by omega⟩⟩⟩) hU hS dX8_missedPlace_54
        ·
          refine lv_iload_n hx hb dX8_missedPlace_22 rfl (lv_at hl 2 rfl) ?_
          exact hret (⟨rfl, rfl, ⟨⟨by omega, by omega⟩, ⟨by rw [mpx_ret i2_1 (Or.inl (by omega)) htk.1 (by omega) (by omega)], by omega⟩⟩⟩) hU hS dX8_missedPlace_23
  exact J_2 _ 0 _ (lv_sub hl [1, 2, 0] rfl) (by omega) (by first | exact ms_up (by omega) (by omega) i2_1 i55_0 | exact ms_0) (by omega) (Nat.lt_succ_self _)
set_option maxHeartbeats 4000000 in
set_option maxRecDepth 100000 in
theorem c_X8_legAtFault_x {l : Launch} {D : va_G} {cA : FieldType → ClassId} {sz : Nat} {al : Al} {iv : Iv} {rv : Rv} (hG : GI al iv rv) (ti : Nat) (hti : ti < al.1 65) (conn : Int32) (pre0 : BM iv rv) (pre1 : conn = iv 15 0 2) : Met l yX8_legAtFault (wd yX8_legAtFault cX8_legAtFault 3 (some (.object "LateClaims$Leg"))) (rm 1) (PcW D cA sz al iv rv [.ref (al.2 65 ti), .int conn]) (QR D cA sz al 62 (pR iv rv (fun r => (∃ j, r = some j ∧ j < al.1 62) ∧ (r = some (lfF iv ti))))) 0 0 (Aq sz) := by
  refine mk_r (by decide) (Nat.le_of_ble_eq_true rfl) rfl ?_
  intro p e s m args below meth c ls Q H locs C hU hS hl hret
  have hx := C.1.1
  have hb := C.1.2.1
  have hl : lv_has ls 3 [(0, .ref (al.2 65 ti)), (1, .int conn)] := hl
  have hG0 := hG
  have htk := tk_k hG pre0 hti
  have h19 : (iv 19 0 ti).toInt ≤ 40 := by rw [htk.1]; have := sz4 hG hti; omega
  have km9 : ((-9) : Int32).toInt = -9 := by decide
  have k1 : (1 : Int32).toInt = 1 := by decide
  refine lv_aload_n hx hb dX8_legAtFault_0 rfl (lv_at hl 0 rfl) ?_
  refine lv_iload_n hx hb dX8_legAtFault_1 rfl (lv_at hl 1 rfl) ?_
  refine q_pi (q_runV (t := 65) (i := ti) (As := [.int conn]) (rest := []) C hU (c_X8_missedPlace_x hG (ti) hti conn (pre0) (pre1)) vm_X8_missedPlace ml_X8_58 k_65.1 (hc := rfl) rfl hti hl.1 rfl rfl (Nat.le_of_ble_eq_true rfl) dX8_legAtFault_2 rfl rfl ⟨Nat.le_of_ble_eq_true rfl, Nat.le_of_ble_eq_true rfl⟩ ⟨Nat.le_refl _, Nat.le_refl _⟩) hS (fun x_2 H locs hp_1 hU hS => ?_)
  refine lv_istore_n (lv' := [(2, .int x_2), (0, .ref (al.2 65 ti)), (1, .int conn)]) hx hb dX8_legAtFault_5 rfl hl (by decide) rfl (fun ls hl => ?_)
  have hmp := hp_1.2.1
  have tmp := mpx_t hmp
  refine lv_iload_n hx hb dX8_legAtFault_6 rfl (lv_at hl 0 rfl) ?_
  refine lv_bipush (v := (-9)) hx hb dX8_legAtFault_7 (by decide) ?_
  refine b_icmp_ne (tgt := 17) hx hb dX8_legAtFault_9 (by decide) (fun c_3 => ?_) (fun c_3 => ?_)
  ·
    refine lv_iload_n hx hb dX8_legAtFault_17 rfl (lv_at hl 0 rfl) ?_
    refine b_if_eq (tgt := 33) hx hb dX8_legAtFault_18 (by decide) (fun c_4 => ?_) (fun c_4 => ?_)
    ·
      refine lv_aload_n hx hb dX8_legAtFault_33 rfl (lv_at hl 1 rfl) ?_
      refine g_65_3 C hU hG hti fl_X8_24 dX8_legAtFault_34 (fun hb_5 => ?_)
      refine lv_iload_n hx hb dX8_legAtFault_37 rfl (lv_at hl 0 rfl) ?_
      refine a_66 C hU hG hb_5 (x := x_2) (by omega) (by omega) dX8_legAtFault_38 (fun r_6 er_7 hb_8 => ?_)
      obtain ⟨j_9, ej_10⟩ : ∃ j, r_6 = some j := (tleg hG hti (by omega) (by omega)).imp (fun _ h => er_7.trans h)
      subst ej_10
      have hl : lv_has ls 3 [(2, .int x_2), (0, .ref (al.2 65 ti)), (1, .int conn)] := hl
      have hb_11 : j_9 < al.1 62 := hb_8 j_9 rfl
      refine lv_goto (tgt := 50) hx hb dX8_legAtFault_39 (by decide) ?_
      exact hret (some j_9) (⟨rfl, rfl, ⟨⟨j_9, rfl, hb_11⟩, by first | exact lfx_2 hmp (by omega) (by omega) (tk_ix hG0 pre0 hti er_7 (by omega) (by omega)) | exact lfx_3 hmp (by omega) (by omega) (tk_ix hG0 pre0 hti er_7 (by omega) (by omega)) | exact lfx_4 hmp (by omega) (by omega) (tk_ix1 (x := x_2) hG0 pre0 hti True.intro (by omega) (by omega) (by omega))⟩⟩) hU hS dX8_legAtFault_50
    ·
      refine lv_aload_n hx hb dX8_legAtFault_21 rfl (lv_at hl 1 rfl) ?_
      refine g_65_3 C hU hG hti fl_X8_24 dX8_legAtFault_22 (fun hb_12 => ?_)
      refine lv_iload_n hx hb dX8_legAtFault_25 rfl (lv_at hl 0 rfl) ?_
      refine a_66 C hU hG hb_12 (x := x_2) (by omega) (by omega) dX8_legAtFault_26 (fun r_13 er_14 hb_15 => ?_)
      obtain ⟨j_16, ej_17⟩ : ∃ j, r_13 = some j := (tleg hG hti (by omega) (by omega)).imp (fun _ h => er_14.trans h)
      subst ej_17
      have hl : lv_has ls 3 [(2, .int x_2), (0, .ref (al.2 65 ti)), (1, .int conn)] := hl
      have hb_18 : j_16 < al.1 62 := hb_15 j_16 rfl
      have hw26 := tk_ix hG0 pre0 hti er_14 (by omega) (by omega)
      have hl26 := lg_done hG0 pre0.1 hb_18 hw26
      refine g_62_7 C hU hG hb_18 fl_X8_48 dX8_legAtFault_27 (fun x_19 e_20 le_20 ue_20 => ?_)
      have te_20 := congrArg Int32.toInt e_20
      refine b_if_ne (tgt := 42) hx hb dX8_legAtFault_30 (by decide) (fun c_21 => ?_) (fun c_21 => ?_)
      ·
        refine lv_aload_n hx hb dX8_legAtFault_42 rfl (lv_at hl 1 rfl) ?_
        refine g_65_3 C hU hG hti fl_X8_24 dX8_legAtFault_43 (fun hb_22 => ?_)
        refine lv_iload_n hx hb dX8_legAtFault_46 rfl (lv_at hl 0 rfl) ?_
        refine lv_iconst (v := 1) hx hb dX8_legAtFault_47 (by decide) ?_
        refine lv_isub hx hb dX8_legAtFault_48 ?_
        refine lv_topi (fun x_23 e_24 => ?_)
        have te_24 : x_23.toInt = (x_2 : Int32).toInt - (1 : Int32).toInt := by rw [e_24]; exact fb_subI (by omega) (by omega)
        refine a_66 C hU hG hb_22 (x := x_23) (by omega) (by omega) dX8_legAtFault_49 (fun r_25 er_26 hb_27 => ?_)
        obtain ⟨j_28, ej_29⟩ : ∃ j, r_25 = some j := (tleg hG hti (by omega) (by omega)).imp (fun _ h => er_26.trans h)
        subst ej_29
        have hl : lv_has ls 3 [(2, .int x_2), (0, .ref (al.2 65 ti)), (1, .int conn)] := hl
        have hb_30 : j_28 < al.1 62 := hb_27 j_28 rfl
        exact hret (some j_28) (⟨rfl, rfl, ⟨⟨j_28, rfl, hb_30⟩, by first | exact lfx_2 hmp (by omega) (by omega) (tk_ix hG0 pre0 hti True.intro (by omega) (by omega)) | exact lfx_3 hmp (by omega) (by omega) (tk_ix hG0 pre0 hti True.intro (by omega) (by omega)) | exact lfx_4 hmp (by omega) (by omega) (tk_ix1 (x := x_2) hG0 pre0 hti er_26 (by omega) (by omega) (by omega))⟩⟩) hU hS dX8_legAtFault_50
      ·
        refine lv_aload_n hx hb dX8_legAtFault_33 rfl (lv_at hl 1 rfl) ?_
        refine g_65_3 C hU hG hti fl_X8_24 dX8_legAtFault_34 (fun hb_31 => ?_)
        refine lv_iload_n hx hb dX8_legAtFault_37 rfl (lv_at hl 0 rfl) ?_
        refine a_66 C hU hG hb_31 (x := x_2) (by omega) (by omega) dX8_legAtFault_38 (fun r_32 er_33 hb_34 => ?_)
        obtain ⟨j_35, ej_36⟩ : ∃ j, r_32 = some j := (tleg hG hti (by omega) (by omega)).imp (fun _ h => er_33.trans h)
        subst ej_36
        have hl : lv_has ls 3 [(2, .int x_2), (0, .ref (al.2 65 ti)), (1, .int conn)] := hl
        have hb_37 : j_35 < al.1 62 := hb_34 j_35 rfl
        refine lv_goto (tgt := 50) hx hb dX8_legAtFault_39 (by decide) ?_
        exact hret (some j_35) (⟨rfl, rfl, ⟨⟨j_35, rfl, hb_37⟩, by first | exact lfx_2 hmp (by omega) (by omega) (tk_ix hG0 pre0 hti er_33 (by omega) (by omega)) | exact lfx_3 hmp (by omega) (by omega) (tk_ix hG0 pre0 hti er_33 (by omega) (by omega)) | exact lfx_4 hmp (by omega) (by omega) (tk_ix1 (x := x_2) hG0 pre0 hti True.intro (by omega) (by omega) (by omega))⟩⟩) hU hS dX8_legAtFault_50
  ·
    refine lv_aload_n hx hb dX8_legAtFault_12 rfl (lv_at hl 1 rfl) ?_
    refine g_65_2 C hU hG hti fl_X8_19 dX8_legAtFault_13 (fun j_38 ej_39 hb_40 => ?_)
    exact hret (some j_38) (⟨rfl, rfl, ⟨⟨j_38, rfl, hb_40⟩, lfx_1 htk hmp (by omega) ej_39⟩⟩) hU hS dX8_legAtFault_16
set_option maxHeartbeats 4000000 in
set_option maxRecDepth 100000 in
theorem c_J7_fill_53178_59x {l : Launch} {D : va_G} {cA : FieldType → ClassId} {sz : Nat} {al : Al} {iv : Iv} {rv : Rv} (hG : GI al iv rv) (v : Int32) : Met l yJ7_fill_53178 (wd yJ7_fill_53178 cJ7_fill_53178 4 none) (rm 0) (PcW D cA sz al iv rv [.ref (al.2 59 0), .int v]) (QV D cA sz al (fV al ([59], []) iv rv (fun iv' rv' => ∀ k : Nat, k < 6 → iv' 59 0 k = v))) 0 0 (Aq sz) := by
  refine mk_v (by decide) (Nat.le_of_ble_eq_true rfl) rfl ?_
  intro p e s m args below meth c ls Q H locs C hU hS hl hret
  have hx := C.1.1
  have hb := C.1.2.1
  have hl : lv_has ls 4 [(0, .ref (al.2 59 0)), (1, .int v)] := hl
  have hG0 := hG
  have hF1 : FR ([59], []) iv iv := FR.rf
  have hF2 : FR ([59], []) rv rv := FR.rf
  have k0 : (0 : Int32).toInt = 0 := by decide
  have k1 : (1 : Int32).toInt = 1 := by decide
  have k6 : (6 : Int32).toInt = 6 := by decide
  refine lv_iconst (v := 0) hx hb dJ7_fill_53178_0 (by decide) ?_
  refine lv_istore_n (lv' := [(2, .int 0), (0, .ref (al.2 59 0)), (1, .int v)]) hx hb dJ7_fill_53178_1 rfl hl (by decide) rfl (fun ls hl => ?_)
  refine lv_aload_n hx hb dJ7_fill_53178_2 rfl (lv_at hl 1 rfl) ?_
  refine q_alen (t := 59) (v := 6) C hU k_59 (by decide) (h1_59 hG) (by decide) dJ7_fill_53178_3 ?_
  refine lv_istore_n (lv' := [(3, .int 6), (2, .int 0), (0, .ref (al.2 59 0)), (1, .int v)]) hx hb dJ7_fill_53178_4 rfl hl (by decide) rfl (fun ls hl => ?_)
  have J_5 : ∀ (n_5 : Nat) (l2_1 : Int32) (iv_2 : Iv) (rv_3 : Rv) (H : Heap) (locs : List Loc) (ls : Array Slot), lv_has ls 4 [(0, .ref (al.2 59 0)), (1, .int v), (3, .int 6), (2, .int l2_1)] → GI al iv_2 rv_3 → FR ([59], []) iv iv_2 → FR ([59], []) rv rv_3 → UW D cA sz al iv_2 rv_3 H → va_S (Aq sz) s.heap H locs → (0 ≤ l2_1.toInt ∧ l2_1.toInt ≤ 6) → (∀ k : Nat, (k : Int) < l2_1.toInt → iv_2 59 0 k = v) → (6 - l2_1.toInt).toNat < n_5 → W p l e (rm 0) s m args below meth c H locs 0 0 Q (F0 m 5 ls []) := by
    intro n_5
    induction n_5 with
    | zero =>
      intro l2_1 iv_2 rv_3 H locs ls hl hG hF1 hF2 hU hS i5_0 i5_1 hm_5
      exact absurd hm_5 (Nat.not_lt_zero _)
    | succ n_5 ih_5 =>
      intro l2_1 iv_2 rv_3 H locs ls hl hG hF1 hF2 hU hS i5_0 i5_1 hm_5
      refine lv_iload_n hx hb dJ7_fill_53178_5 rfl (lv_at hl 3 rfl) ?_
      refine lv_iload_n hx hb dJ7_fill_53178_6 rfl (lv_at hl 2 rfl) ?_
      refine b_icmp_ge (tgt := 20) hx hb dJ7_fill_53178_7 (by decide) (fun c_4 => ?_) (fun c_4 => ?_)
      ·
        exact hret (⟨hG, hF1, hF2, fun k hk => i5_1 k (by omega)⟩) hU hS dJ7_fill_53178_20
      ·
        refine lv_aload_n hx hb dJ7_fill_53178_10 rfl (lv_at hl 0 rfl) ?_
        refine lv_iload_n hx hb dJ7_fill_53178_11 rfl (lv_at hl 3 rfl) ?_
        refine lv_iload_n hx hb dJ7_fill_53178_12 rfl (lv_at hl 1 rfl) ?_
        refine s_59 C hU hS (h1_59 hG) (x := l2_1) (by omega) (by omega) dJ7_fill_53178_13 (fun iv_5 H locs ei_6 hU hS => ?_)
        have hG : GI al iv_5 rv_3 := by rw [ei_6]; exact hG.puti (show _ ∧ _ from ⟨(fb_rng _).1, Int.le_of_lt_add_one (fb_rng _).2⟩) (nsA (by decide) _)
        have hF1 : FR ([59], []) iv iv_5 := by rw [ei_6]; exact hF1.put (Or.inl (by decide))
        obtain ⟨x_7, e_8⟩ : ∃ y : Int32, y = l2_1 + 1 := ⟨_, rfl⟩
        have te_8 : x_7.toInt = (l2_1 : Int32).toInt + (1 : Int32).toInt := by rw [e_8]; exact fb_addI (by omega) (by omega)
        refine lv_iinc (v := x_7) (lv' := [(2, .int x_7), (0, .ref (al.2 59 0)), (1, .int v), (3, .int 6)]) hx hb dJ7_fill_53178_14 hl (k := 3) rfl (by rw [e_8]; rfl) (by decide) rfl (fun ls hl => ?_)
        refine lv_goto (tgt := 5) hx hb dJ7_fill_53178_17 (by decide) ?_
        exact ih_5 x_7 _ _ _ _ _ (lv_sub hl [1, 2, 3, 0] rfl) hG hF1 hF2 hU hS (by omega) (by first | (intro k hk; exfalso; omega) | exact fl_s i5_1 ei_6 (by omega) (by omega)) (by omega)
  exact J_5 _ 0 _ _ _ _ _ (lv_sub hl [2, 3, 0, 1] rfl) hG hF1 hF2 hU hS (by omega) (by first | (intro k hk; exfalso; omega) | exact fl_s i5_1 True.intro (by omega) (by omega)) (Nat.lt_succ_self _)
set_option maxHeartbeats 4000000 in
set_option maxRecDepth 100000 in
theorem c_X10_aheadOf_x {l : Launch} {D : va_G} {cA : FieldType → ClassId} {sz : Nat} {al : Al} {iv : Iv} {rv : Rv} (hG : GI al iv rv) (li : Nat) (hli : li < al.1 62) (crew : Int32) (gap : Int32) (pre0 : BA iv rv) (pre1 : gap = rsF iv crew) : Met l yX10_aheadOf (wd yX10_aheadOf cX10_aheadOf 8 (some (.object "LateClaims$Leg"))) (rm 0) (PcW D cA sz al iv rv [.ref (al.2 57 0), .ref (al.2 62 li), .int crew, .int gap]) (QR D cA sz al 62 (pR iv rv (fun r => (∀ j, r = some j → j < al.1 62) ∧ (r = oI (ahF iv li crew))))) 0 0 (Aq sz) := by
  refine mk_r (by decide) (Nat.le_of_ble_eq_true rfl) rfl ?_
  intro p e s m args below meth c ls Q H locs C hU hS hl hret
  have hx := C.1.1
  have hb := C.1.2.1
  have hl : lv_has ls 8 [(0, .ref (al.2 57 0)), (1, .ref (al.2 62 li)), (2, .int crew), (3, .int gap)] := hl
  have hG0 := hG
  have hn6 := congrArg Int32.toInt pre0.1
  have tgap := congrArg Int32.toInt pre1
  have lfl := lf_i hG pre0.2.1 hli
  have n57 : (iv 57 0 1).toInt = al.1 62 := hG.2.2.2.1.2
  have k0 : (0 : Int32).toInt = 0 := by decide
  have k1 : (1 : Int32).toInt = 1 := by decide
  refine lv_null hx hb dX10_aheadOf_0 ?_
  refine lv_astoreN (lv' := [(4, .null), (0, .ref (al.2 57 0)), (1, .ref (al.2 62 li)), (2, .int crew), (3, .int gap)]) hx hb dX10_aheadOf_1 hl (by decide) rfl (fun ls hl => ?_)
  refine lv_iconst (v := 0) hx hb dX10_aheadOf_3 (by decide) ?_
  refine lv_istore (lv' := [(5, .int 0), (4, .null), (0, .ref (al.2 57 0)), (1, .ref (al.2 62 li)), (2, .int crew), (3, .int gap)]) hx hb dX10_aheadOf_4 hl (by decide) rfl (fun ls hl => ?_)
  have J_6 : ∀ (n_6 : Nat) (r_1 : Option Nat) (l5_3 : Int32) (ls : Array Slot), lv_has ls 8 [(0, .ref (al.2 57 0)), (1, .ref (al.2 62 li)), (2, .int crew), (3, .int gap), (4, rfv al 62 r_1), (5, .int l5_3)] → (∀ j, r_1 = some j → j < al.1 62) → (0 ≤ l5_3.toInt ∧ l5_3.toInt ≤ 40) → r_1 = oI (ahN iv li crew l5_3.toNatClampNeg) → l5_3.toInt ≤ (iv 57 0 1).toInt → (40 - l5_3.toInt).toNat < n_6 → W p l e (rm 0) s m args below meth c H locs 0 0 Q (F0 m 6 ls []) := by
    intro n_6
    induction n_6 with
    | zero =>
      intro r_1 l5_3 ls hl hb_2 i6_0 i6_1 i6_2 hm_6
      exact absurd hm_6 (Nat.not_lt_zero _)
    | succ n_6 ih_6 =>
      intro r_1 l5_3 ls hl hb_2 i6_0 i6_1 i6_2 hm_6
      have hb4 := hb_2
      refine lv_iload hx hb dX10_aheadOf_6 (lv_at hl 5 rfl) ?_
      refine lv_aload_n hx hb dX10_aheadOf_8 rfl (lv_at hl 0 rfl) ?_
      refine g_57_1 C hU hG (h1_57 hG) fl_X10_28 dX10_aheadOf_9 (fun x_4 e_5 le_5 ue_5 => ?_)
      have te_5 := congrArg Int32.toInt e_5
      refine b_icmp_ge (tgt := 129) hx hb dX10_aheadOf_12 (by decide) (fun c_6 => ?_) (fun c_6 => ?_)
      ·
        refine b_aload (al := al) (t' := 62) (r := r_1) hx hb dX10_aheadOf_129 (lv_at hl 4 rfl) ?_
        exact hret (r_1) (⟨rfl, rfl, ⟨hb_2, by rw [i6_1, ahF, clamp_eq (show (l5_3 : Int32).toInt = (iv 0 0 6).toInt by omega)]⟩⟩) hU hS dX10_aheadOf_131
      ·
        refine lv_aload_n hx hb dX10_aheadOf_15 rfl (lv_at hl 0 rfl) ?_
        refine g_57_0 C hU hG (h1_57 hG) fl_X10_13 dX10_aheadOf_16 ?_
        refine lv_iload hx hb dX10_aheadOf_19 (lv_at hl 5 rfl) ?_
        refine a_58 C hU hG (h1_58 hG) (x := l5_3) (by omega) (by omega) dX10_aheadOf_21 (fun r_7 er_8 hb_9 => ?_)
        obtain ⟨j_10, ej_11⟩ : ∃ j, r_7 = some j := ⟨_, er_8.trans (tall hG (by omega) (by omega))⟩
        subst ej_11
        have hl : lv_has ls 8 [(0, .ref (al.2 57 0)), (1, .ref (al.2 62 li)), (2, .int crew), (3, .int gap), (4, rfv al 62 r_1), (5, .int l5_3)] := hl
        have hb_12 : j_10 < al.1 62 := hb_9 j_10 rfl
        refine lv_astore (lv' := [(6, .ref (al.2 62 j_10)), (0, .ref (al.2 57 0)), (1, .ref (al.2 62 li)), (2, .int crew), (3, .int gap), (4, rfv al 62 r_1), (5, .int l5_3)]) hx hb dX10_aheadOf_22 hl (by decide) rfl (fun ls hl => ?_)
        have hj6 := tix hG er_8 (by omega) (by omega)
        have lfj := lf_j hG pre0.2.1 hb_12 hj6
        refine lv_iload_n hx hb dX10_aheadOf_24 rfl (lv_at hl 3 rfl) ?_
        have J_65 : ∀ (v_13 : Int32) (ls : Array Slot), lv_has ls 8 [(0, .ref (al.2 57 0)), (1, .ref (al.2 62 li)), (2, .int crew), (3, .int gap), (4, rfv al 62 r_1), (5, .int l5_3), (6, .ref (al.2 62 j_10))] → (0 ≤ v_13.toInt ∧ v_13.toInt ≤ 1) → ((v_13.toInt = 1 ∧ ((¬ crew.toInt = 0 ∧ (iv 62 j_10 4).toInt = (iv 62 li 4).toInt) ∨ (crew.toInt = 0 ∧ (iv 62 j_10 3).toInt = (iv 62 li 3).toInt))) ∨ (v_13.toInt = 0 ∧ ¬ ((¬ crew.toInt = 0 ∧ (iv 62 j_10 4).toInt = (iv 62 li 4).toInt) ∨ (crew.toInt = 0 ∧ (iv 62 j_10 3).toInt = (iv 62 li 3).toInt)))) → W p l e (rm 0) s m args below meth c H locs 0 0 Q (F0 m 65 ls [.int v_13]) := by
          intro v_13 ls hl i65_0 i65_1
          refine lv_istore (lv' := [(7, .int v_13), (0, .ref (al.2 57 0)), (1, .ref (al.2 62 li)), (2, .int crew), (3, .int gap), (4, rfv al 62 r_1), (5, .int l5_3), (6, .ref (al.2 62 j_10))]) hx hb dX10_aheadOf_65 hl (by decide) rfl (fun ls hl => ?_)
          refine lv_iload hx hb dX10_aheadOf_67 (lv_at hl 0 rfl) ?_
          have J_123 : ∀ (r_14 : Option Nat) (ls : Array Slot), lv_has ls 8 [(0, .ref (al.2 57 0)), (1, .ref (al.2 62 li)), (2, .int crew), (3, .int gap), (5, .int l5_3), (4, rfv al 62 r_14)] → (∀ j, r_14 = some j → j < al.1 62) → r_14 = oI (ahStep iv li crew (ahN iv li crew l5_3.toNatClampNeg) l5_3.toNatClampNeg) → W p l e (rm 0) s m args below meth c H locs 0 0 Q (F0 m 123 ls []) := by
            intro r_14 ls hl hb_15 i123_0
            obtain ⟨x_16, e_17⟩ : ∃ y : Int32, y = l5_3 + 1 := ⟨_, rfl⟩
            have te_17 : x_16.toInt = (l5_3 : Int32).toInt + (1 : Int32).toInt := by rw [e_17]; exact fb_addI (by omega) (by omega)
            refine lv_iinc (v := x_16) (lv' := [(5, .int x_16), (0, .ref (al.2 57 0)), (1, .ref (al.2 62 li)), (2, .int crew), (3, .int gap), (4, rfv al 62 r_14)]) hx hb dX10_aheadOf_123 hl (k := 4) rfl (by rw [e_17]; rfl) (by decide) (by simp [List.filter_cons, rfv_cat]) (fun ls hl => ?_)
            refine lv_goto (tgt := 6) hx hb dX10_aheadOf_126 (by decide) ?_
            exact ih_6 r_14 x_16 _ (lv_sub hl [1, 2, 3, 4, 5, 0] rfl) hb_15 (by omega) (by first | exact ahx_up (by omega) (by omega) i123_0 | exact ahx_0) (by omega) (by omega)
          refine b_if_eq (tgt := 123) hx hb dX10_aheadOf_69 (by decide) (fun c_18 => ?_) (fun c_18 => ?_)
          ·
            exact J_123 r_1 _ (lv_sub hl [1, 2, 3, 4, 6, 5] rfl) hb_2 (by first | exact ahx_no i6_1 (by omega) | exact ahx_yes hG pre0.2.1 hb4 i6_1 i119_0 hj6 (by omega) ⟨by omega, by omega, by omega⟩)
          ·
            refine lv_aload hx hb dX10_aheadOf_72 (lv_at hl 7 rfl) ?_
            refine g_62_2 C hU hG hb_12 fl_X10_52 dX10_aheadOf_74 (fun j_19 ej_20 hb_21 => ?_)
            have hp1 := lf_to hG pre0.2.1 hb_12 hj6 ej_20
            refine lv_aload_n hx hb dX10_aheadOf_77 rfl (lv_at hl 2 rfl) ?_
            refine g_62_1 C hU hG hli fl_X10_56 dX10_aheadOf_78 (fun j_22 ej_23 hb_24 => ?_)
            have hp2 := lf_fr hG pre0.2.1 hli ej_23
            refine b_acmp_ne (tgt := 123) hx hb hU hb_21 hb_24 dX10_aheadOf_81 (by decide) (fun c_25 => ?_) (fun c_25 => ?_)
            ·
              exact J_123 r_1 _ (lv_sub hl [1, 2, 3, 4, 6, 5] rfl) hb_2 (by first | exact ahx_no i6_1 (by omega) | exact ahx_yes hG pre0.2.1 hb4 i6_1 i119_0 hj6 (by omega) ⟨by omega, by omega, by omega⟩)
            ·
              refine lv_aload_n hx hb dX10_aheadOf_84 rfl (lv_at hl 2 rfl) ?_
              refine g_62_5 C hU hG hli fl_X10_59 dX10_aheadOf_85 (fun x_26 e_27 le_27 ue_27 => ?_)
              have te_27 := congrArg Int32.toInt e_27
              refine lv_aload hx hb dX10_aheadOf_88 (lv_at hl 7 rfl) ?_
              refine g_62_6 C hU hG hb_12 fl_X10_62 dX10_aheadOf_90 (fun x_28 e_29 le_29 ue_29 => ?_)
              have te_29 := congrArg Int32.toInt e_29
              refine lv_isub hx hb dX10_aheadOf_93 ?_
              refine lv_topi (fun x_30 e_31 => ?_)
              have te_31 : x_30.toInt = (x_26 : Int32).toInt - (x_28 : Int32).toInt := by rw [e_31]; exact fb_subI (by omega) (by omega)
              refine lv_iload_n hx hb dX10_aheadOf_94 rfl (lv_at hl 4 rfl) ?_
              refine b_icmp_ge (tgt := 101) hx hb dX10_aheadOf_95 (by decide) (fun c_32 => ?_) (fun c_32 => ?_)
              ·
                refine b_aload (al := al) (t' := 62) (r := r_1) hx hb dX10_aheadOf_101 (lv_at hl 5 rfl) ?_
                have J_119 : ∀ (ls : Array Slot), lv_has ls 8 [(0, .ref (al.2 57 0)), (1, .ref (al.2 62 li)), (2, .int crew), (3, .int gap), (5, .int l5_3), (6, .ref (al.2 62 j_10))] → (∀ q : Nat, r_1 = some q → (iv 62 q 6).toInt ≤ (iv 62 j_10 6).toInt) → W p l e (rm 0) s m args below meth c H locs 0 0 Q (F0 m 119 ls []) := by
                  intro ls hl i119_0
                  refine lv_aload hx hb dX10_aheadOf_119 (lv_at hl 5 rfl) ?_
                  refine lv_astore (lv' := [(4, .ref (al.2 62 j_10)), (0, .ref (al.2 57 0)), (1, .ref (al.2 62 li)), (2, .int crew), (3, .int gap), (5, .int l5_3), (6, .ref (al.2 62 j_10))]) hx hb dX10_aheadOf_121 hl (by decide) rfl (fun ls hl => ?_)
                  exact J_123 (some j_10) _ (lv_sub hl [1, 2, 3, 4, 5, 0] rfl) (fun _ h => by cases h; exact hb_12) (by first | exact ahx_no i6_1 (by omega) | exact ahx_yes hG pre0.2.1 hb4 i6_1 i119_0 hj6 (by omega) ⟨by omega, by omega, by omega⟩)
                refine b_ifnull (tgt := 119) hx hb dX10_aheadOf_103 (by decide) (fun ej_35 => ?_) (fun j_34 ej_35 => ?_)
                ·
                  subst ej_35
                  have hl : lv_has ls 8 [(7, .int v_13), (0, .ref (al.2 57 0)), (1, .ref (al.2 62 li)), (2, .int crew), (3, .int gap), (4, rfv al 62 none), (5, .int l5_3), (6, .ref (al.2 62 j_10))] := hl
                  have hb1 := oI_none i6_1
                  exact J_119 _ (lv_sub hl [1, 2, 3, 4, 6, 7] rfl) (by first | (intro _ h; cases h; done) | (intro _ h; cases h; omega))
                ·
                  subst ej_35
                  have hl : lv_has ls 8 [(7, .int v_13), (0, .ref (al.2 57 0)), (1, .ref (al.2 62 li)), (2, .int crew), (3, .int gap), (4, .ref (al.2 62 j_34)), (5, .int l5_3), (6, .ref (al.2 62 j_10))] := hl
                  have hb_36 : j_34 < al.1 62 := hb_2 j_34 rfl
                  have hb1 := oI_some i6_1
                  have hb2 := lf_b hG pre0.2.1 hb_36 hb1.2
                  refine lv_aload hx hb dX10_aheadOf_106 (lv_at hl 7 rfl) ?_
                  refine g_62_6 C hU hG hb_12 fl_X10_62 dX10_aheadOf_108 (fun x_37 e_38 le_38 ue_38 => ?_)
                  have te_38 := congrArg Int32.toInt e_38
                  refine lv_aload hx hb dX10_aheadOf_111 (lv_at hl 5 rfl) ?_
                  refine g_62_6 C hU hG hb_36 fl_X10_62 dX10_aheadOf_113 (fun x_39 e_40 le_40 ue_40 => ?_)
                  have te_40 := congrArg Int32.toInt e_40
                  refine b_icmp_lt (tgt := 123) hx hb dX10_aheadOf_116 (by decide) (fun c_41 => ?_) (fun c_41 => ?_)
                  ·
                    exact J_123 (some j_34) _ (lv_sub hl [1, 2, 3, 4, 6, 5] rfl) (fun _ h => by cases h; exact hb_36) (by first | exact ahx_no i6_1 (by omega) | exact ahx_yes hG pre0.2.1 hb4 i6_1 i119_0 hj6 (by omega) ⟨by omega, by omega, by omega⟩)
                  ·
                    exact J_119 _ (lv_sub hl [1, 2, 3, 4, 6, 7] rfl) (by first | (intro _ h; cases h; done) | (intro _ h; cases h; omega))
              ·
                refine lv_goto (tgt := 123) hx hb dX10_aheadOf_98 (by decide) ?_
                exact J_123 r_1 _ (lv_sub hl [1, 2, 3, 4, 6, 5] rfl) hb_2 (by first | exact ahx_no i6_1 (by omega) | exact ahx_yes hG pre0.2.1 hb4 i6_1 i119_0 hj6 (by omega) ⟨by omega, by omega, by omega⟩)
        refine b_if_eq (tgt := 48) hx hb dX10_aheadOf_25 (by decide) (fun c_42 => ?_) (fun c_42 => ?_)
        ·
          refine lv_aload hx hb dX10_aheadOf_48 (lv_at hl 0 rfl) ?_
          refine g_62_3 C hU hG hb_12 fl_X10_49 dX10_aheadOf_50 (fun x_43 e_44 le_44 ue_44 => ?_)
          have te_44 := congrArg Int32.toInt e_44
          refine lv_aload_n hx hb dX10_aheadOf_53 rfl (lv_at hl 2 rfl) ?_
          refine g_62_3 C hU hG hli fl_X10_49 dX10_aheadOf_54 (fun x_45 e_46 le_46 ue_46 => ?_)
          have te_46 := congrArg Int32.toInt e_46
          refine b_icmp_ne (tgt := 64) hx hb dX10_aheadOf_57 (by decide) (fun c_47 => ?_) (fun c_47 => ?_)
          ·
            refine lv_iconst (v := 0) hx hb dX10_aheadOf_64 (by decide) ?_
            exact J_65 0 _ (lv_sub hl [1, 2, 3, 4, 5, 6, 0] rfl) (by omega) (by omega)
          ·
            refine lv_iconst (v := 1) hx hb dX10_aheadOf_60 (by decide) ?_
            refine lv_goto (tgt := 65) hx hb dX10_aheadOf_61 (by decide) ?_
            exact J_65 1 _ (lv_sub hl [1, 2, 3, 4, 5, 6, 0] rfl) (by omega) (by omega)
        ·
          refine lv_aload hx hb dX10_aheadOf_28 (lv_at hl 0 rfl) ?_
          refine g_62_4 C hU hG hb_12 fl_X10_46 dX10_aheadOf_30 (fun x_48 e_49 le_49 ue_49 => ?_)
          have te_49 := congrArg Int32.toInt e_49
          refine lv_aload_n hx hb dX10_aheadOf_33 rfl (lv_at hl 2 rfl) ?_
          refine g_62_4 C hU hG hli fl_X10_46 dX10_aheadOf_34 (fun x_50 e_51 le_51 ue_51 => ?_)
          have te_51 := congrArg Int32.toInt e_51
          refine b_icmp_ne (tgt := 44) hx hb dX10_aheadOf_37 (by decide) (fun c_52 => ?_) (fun c_52 => ?_)
          ·
            refine lv_iconst (v := 0) hx hb dX10_aheadOf_44 (by decide) ?_
            refine lv_goto (tgt := 65) hx hb dX10_aheadOf_45 (by decide) ?_
            exact J_65 0 _ (lv_sub hl [1, 2, 3, 4, 5, 6, 0] rfl) (by omega) (by omega)
          ·
            refine lv_iconst (v := 1) hx hb dX10_aheadOf_40 (by decide) ?_
            refine lv_goto (tgt := 65) hx hb dX10_aheadOf_41 (by decide) ?_
            exact J_65 1 _ (lv_sub hl [1, 2, 3, 4, 5, 6, 0] rfl) (by omega) (by omega)
  exact J_6 _ none 0 _ (lv_sub hl [2, 3, 4, 5, 1, 0] rfl) (fun _ h => by cases h) (by omega) (by first | exact ahx_up (by omega) (by omega) i123_0 | exact ahx_0) (by omega) (Nat.lt_succ_self _)
set_option maxHeartbeats 4000000 in
set_option maxRecDepth 100000 in
theorem c_X5_waitFor_x {l : Launch} {D : va_G} {cA : FieldType → ClassId} {sz : Nat} {al : Al} {iv : Iv} {rv : Rv} (hG : GI al iv rv) (li : Nat) (hli : li < al.1 62) (bf : Option Nat) (hbf : ∀ j, bf = some j → j < al.1 62) (gap : Int32) : Met l yX5_waitFor (wd yX5_waitFor cX5_waitFor 4 (some .int)) (rm 1) (PcW D cA sz al iv rv [.ref (al.2 62 li), rfv al 62 bf, .int gap]) (QI D cA sz al (pI iv rv (fun r => r = wfX iv li bf gap))) 0 0 (Aq sz) := by
  cases bf with
  | none =>
    refine mk_i (by decide) (Nat.le_of_ble_eq_true rfl) rfl ?_
    intro p e s m args below meth c ls Q H locs C hU hS hl hret
    have hx := C.1.1
    have hb := C.1.2.1
    have hl : lv_has ls 4 [(0, .ref (al.2 62 li)), (1, .null), (2, .int gap)] := hl
    have hG0 := hG
    have k0 : (0 : Int32).toInt = 0 := by decide
    refine lv_aload_nN hx hb dX5_waitFor_0 rfl (lv_at hl 1 rfl) ?_
    refine lv_ifnullN (tgt := 11) hx hb dX5_waitFor_1 (by decide) ?_
    refine lv_iconst (v := 0) hx hb dX5_waitFor_11 (by decide) ?_
    exact hret (⟨rfl, rfl, by first | rfl | exact (wfX_0 (by omega)).symm⟩) hU hS dX5_waitFor_12
  | some bf_j =>
    have hbf_j : bf_j < al.1 62 := hbf bf_j rfl
    refine mk_i (by decide) (Nat.le_of_ble_eq_true rfl) rfl ?_
    intro p e s m args below meth c ls Q H locs C hU hS hl hret
    have hx := C.1.1
    have hb := C.1.2.1
    have hl : lv_has ls 4 [(0, .ref (al.2 62 li)), (1, .ref (al.2 62 bf_j)), (2, .int gap)] := hl
    have hG0 := hG
    have k0 : (0 : Int32).toInt = 0 := by decide
    refine lv_aload_n hx hb dX5_waitFor_0 rfl (lv_at hl 1 rfl) ?_
    refine lv_ifnull hx hb dX5_waitFor_1 ?_
    refine lv_aload_n hx hb dX5_waitFor_4 rfl (lv_at hl 1 rfl) ?_
    refine g_62_7 C hU hG hbf_j fl_X5_38 dX5_waitFor_5 (fun x_2 e_3 le_3 ue_3 => ?_)
    have te_3 := congrArg Int32.toInt e_3
    refine b_if_ne (tgt := 13) hx hb dX5_waitFor_8 (by decide) (fun c_4 => ?_) (fun c_4 => ?_)
    ·
      refine lv_iconst (v := 0) hx hb dX5_waitFor_13 (by decide) ?_
      refine lv_aload_n hx hb dX5_waitFor_14 rfl (lv_at hl 1 rfl) ?_
      refine g_62_11 C hU hG hbf_j fl_X5_59 dX5_waitFor_15 (fun x_5 e_6 => ?_)
      have te_6 := congrArg Int32.toInt e_6
      refine lv_iload_n hx hb dX5_waitFor_18 rfl (lv_at hl 2 rfl) ?_
      refine lv_iadd hx hb dX5_waitFor_19 ?_
      refine lv_topi (fun x_7 e_8 => ?_)
      refine lv_aload_n hx hb dX5_waitFor_20 rfl (lv_at hl 0 rfl) ?_
      refine g_62_5 C hU hG hli fl_X5_26 dX5_waitFor_21 (fun x_9 e_10 le_10 ue_10 => ?_)
      have te_10 := congrArg Int32.toInt e_10
      refine lv_isub hx hb dX5_waitFor_24 ?_
      refine lv_topi (fun x_11 e_12 => ?_)
      refine q_max C hl.1 ml_X5_50 (Nat.le_of_ble_eq_true rfl) (Nat.le_of_ble_eq_true rfl) (Nat.le_refl _) (Nat.le_refl _) dX5_waitFor_25 (fun x_13 q_14 tq_14 => ?_)
      refine lv_istore_n (lv' := [(3, .int x_13), (0, .ref (al.2 62 li)), (1, .ref (al.2 62 bf_j)), (2, .int gap)]) hx hb dX5_waitFor_28 rfl hl (by decide) rfl (fun ls hl => ?_)
      refine lv_iload_n hx hb dX5_waitFor_29 rfl (lv_at hl 0 rfl) ?_
      refine lv_aload_n hx hb dX5_waitFor_30 rfl (lv_at hl 1 rfl) ?_
      refine g_62_12 C hU hG hli fl_X5_62 dX5_waitFor_31 (fun x_15 e_16 => ?_)
      have te_16 := congrArg Int32.toInt e_16
      refine q_min C hl.1 ml_X5_68 (Nat.le_of_ble_eq_true rfl) (Nat.le_of_ble_eq_true rfl) (Nat.le_refl _) (Nat.le_refl _) dX5_waitFor_34 (fun x_17 q_18 tq_18 => ?_)
      exact hret (⟨rfl, rfl, by rw [q_18, q_14]; exact wfX_1 e_6 e_8 e_10 e_12 e_16 (by omega)⟩) hU hS dX5_waitFor_37
    ·
      refine lv_iconst (v := 0) hx hb dX5_waitFor_11 (by decide) ?_
      exact hret (⟨rfl, rfl, by first | rfl | exact (wfX_0 (by omega)).symm⟩) hU hS dX5_waitFor_12
set_option maxHeartbeats 4000000 in
set_option maxRecDepth 100000 in
theorem c_X10_trace_x {l : Launch} {D : va_G} {cA : FieldType → ClassId} {sz : Nat} {al : Al} {iv : Iv} {rv : Rv} (hG : GI al iv rv) (li : Nat) (hli : li < al.1 62) (turn : Int32) (rest_ : Int32) (pre0 : BC iv rv) (pre1 : ¬ (iv 62 li 7).toInt = 0) (pre2 : turn = iv 15 0 0) (pre3 : rest_ = iv 15 0 1) : Met l yX10_trace (wd yX10_trace cX10_trace 13 none) (rm 2) (PcW D cA sz al iv rv [.ref (al.2 57 0), .ref (al.2 62 li), .int turn, .int rest_]) (QV D cA sz al (fV al ([59], []) iv rv (fun iv' rv' => ∀ k : Nat, k < 6 → iv' 59 0 k = mtF iv li k))) 0 0 (Aq sz) := by
  refine mk_v (by decide) (Nat.le_of_ble_eq_true rfl) rfl ?_
  intro p e s m args below meth c ls Q H locs C hU hS hl hret
  have hx := C.1.1
  have hb := C.1.2.1
  have hl : lv_has ls 13 [(0, .ref (al.2 57 0)), (1, .ref (al.2 62 li)), (2, .int turn), (3, .int rest_)] := hl
  have hG0 := hG
  have hF1 : FR ([59], []) iv iv := FR.rf
  have hF2 : FR ([59], []) rv rv := FR.rf
  have k0 : (0 : Int32).toInt = 0 := by decide
  have k1 : (1 : Int32).toInt = 1 := by decide
  have k40 : (40 : Int32).toInt = 40 := by decide
  refine lv_aload_n hx hb dX10_trace_0 rfl (lv_at hl 0 rfl) ?_
  refine g_57_2 C hU hG (h1_57 hG) fl_X10_17 dX10_trace_1 ?_
  refine lv_iconst (v := 0) hx hb dX10_trace_4 (by decide) ?_
  refine q_fv (q_runS (As := [.ref (al.2 59 0), .int 0]) (rest := []) C hU (c_J7_fill_53178_59x hG 0 ) sm_J7_fill_53178 ml_X10_65 hl.1 rfl rfl (Nat.le_of_ble_eq_true rfl) dX10_trace_5 rfl rfl ⟨Nat.le_of_ble_eq_true rfl, Nat.le_of_ble_eq_true rfl⟩ ⟨Nat.le_refl _, Nat.le_refl _⟩) hS (fun iv_2 rv_3 H locs hG fa_4 fb_5 hp_1 hU hS => ?_)
  have hF1 := hF1.tr (m := ([59], [])) fa_4 (by decide)
  have hF2 := hF2.tr (m := ([59], [])) fb_5 (by decide)
  refine lv_aload_n hx hb dX10_trace_8 rfl (lv_at hl 1 rfl) ?_
  refine lv_astore (lv' := [(4, .ref (al.2 62 li)), (0, .ref (al.2 57 0)), (1, .ref (al.2 62 li)), (2, .int turn), (3, .int rest_)]) hx hb dX10_trace_9 hl (by decide) rfl (fun ls hl => ?_)
  refine lv_aload_n hx hb dX10_trace_11 rfl (lv_at hl 2 rfl) ?_
  refine g_62_13 C hU hG hli fl_X10_71 dX10_trace_12 (fun x_6 e_7 => ?_)
  have te_7 := congrArg Int32.toInt e_7
  have ne_7 : x_6.toInt = (iv 62 li 13).toInt := by rw [e_7, hF1 62 li 13 (by decide)]
  refine lv_istore (lv' := [(5, .int x_6), (4, .ref (al.2 62 li)), (0, .ref (al.2 57 0)), (1, .ref (al.2 62 li)), (2, .int turn), (3, .int rest_)]) hx hb dX10_trace_15 hl (by decide) rfl (fun ls hl => ?_)
  refine lv_iconst (v := 0) hx hb dX10_trace_17 (by decide) ?_
  refine lv_istore (lv' := [(6, .int 0), (5, .int x_6), (4, .ref (al.2 62 li)), (0, .ref (al.2 57 0)), (1, .ref (al.2 62 li)), (2, .int turn), (3, .int rest_)]) hx hb dX10_trace_18 hl (by decide) rfl (fun ls hl => ?_)
  have J_20 : ∀ (n_20 : Nat) (r_8 : Option Nat) (l5_10 : Int32) (l6_11 : Int32) (iv_12 : Iv) (rv_13 : Rv) (H : Heap) (locs : List Loc) (ls : Array Slot), lv_has ls 13 [(0, .ref (al.2 57 0)), (2, .int turn), (3, .int rest_), (4, rfv al 62 r_8), (5, .int l5_10), (6, .int l6_11)] → (∀ j, r_8 = some j → j < al.1 62) → GI al iv_12 rv_13 → FR ([59], []) iv iv_12 → FR ([59], []) rv rv_13 → UW D cA sz al iv_12 rv_13 H → va_S (Aq sz) s.heap H locs → (0 ≤ l6_11.toInt ∧ l6_11.toInt ≤ 40) → trI iv iv_12 li r_8 l5_10 l6_11.toNatClampNeg → (40 - l6_11.toInt).toNat < n_20 → W p l e (rm 2) s m args below meth c H locs 0 0 Q (F0 m 20 ls []) := by
    intro n_20
    induction n_20 with
    | zero =>
      intro r_8 l5_10 l6_11 iv_12 rv_13 H locs ls hl hb_9 hG hF1 hF2 hU hS i20_0 i20_1 hm_20
      exact absurd hm_20 (Nat.not_lt_zero _)
    | succ n_20 ih_20 =>
      intro r_8 l5_10 l6_11 iv_12 rv_13 H locs ls hl hb_9 hG hF1 hF2 hU hS i20_0 i20_1 hm_20
      have hMA := ma_fr hF1
      have hBC := bc_fr hG0 pre0 hF1 hF2
      refine lv_iload hx hb dX10_trace_20 (lv_at hl 5 rfl) ?_
      refine lv_bipush (v := 40) hx hb dX10_trace_22 (by decide) ?_
      refine b_icmp_ge (tgt := 147) hx hb dX10_trace_24 (by decide) (fun c_14 => ?_) (fun c_14 => ?_)
      ·
        exact hret (⟨hG, hF1, hF2, by first | exact tr_e1 i20_1 (by omega) | exact tr_e2 i20_1 (by omega) (by omega) | exact tr_e3 i20_1 (by omega)⟩) hU hS dX10_trace_147
      ·
        refine b_aload (al := al) (t' := 62) (r := r_8) hx hb dX10_trace_27 (lv_at hl 3 rfl) ?_
        refine b_ifnull (tgt := 147) hx hb dX10_trace_29 (by decide) (fun ej_17 => ?_) (fun j_16 ej_17 => ?_)
        ·
          subst ej_17
          have hl : lv_has ls 13 [(0, .ref (al.2 57 0)), (2, .int turn), (3, .int rest_), (4, rfv al 62 none), (5, .int l5_10), (6, .int l6_11)] := hl
          exact hret (⟨hG, hF1, hF2, by first | exact tr_e1 i20_1 (by omega) | exact tr_e2 i20_1 (by omega) (by omega) | exact tr_e3 i20_1 (by omega)⟩) hU hS dX10_trace_147
        ·
          subst ej_17
          have hl : lv_has ls 13 [(0, .ref (al.2 57 0)), (2, .int turn), (3, .int rest_), (4, .ref (al.2 62 j_16)), (5, .int l5_10), (6, .int l6_11)] := hl
          have hb_18 : j_16 < al.1 62 := hb_9 j_16 rfl
          have hb4 := hb_18
          refine lv_iload hx hb dX10_trace_32 (lv_at hl 4 rfl) ?_
          refine b_if_le (tgt := 147) hx hb dX10_trace_34 (by decide) (fun c_19 => ?_) (fun c_19 => ?_)
          ·
            exact hret (⟨hG, hF1, hF2, by first | exact tr_e1 i20_1 (by omega) | exact tr_e2 i20_1 (by omega) (by omega) | exact tr_e3 i20_1 (by omega)⟩) hU hS dX10_trace_147
          ·
            have hat := i20_1.2.2 (by omega)
            have hlg := tr_lg hG0 hat
            have hlg2 : ¬ (iv_12 62 j_16 7).toInt = 0 := by rw [hF1 62 j_16 7 (by decide)]; exact hlg
            refine lv_aload_n hx hb dX10_trace_37 rfl (lv_at hl 0 rfl) ?_
            refine lv_aload hx hb dX10_trace_38 (lv_at hl 3 rfl) ?_
            refine lv_iconst (v := 0) hx hb dX10_trace_40 (by decide) ?_
            refine lv_iload_n hx hb dX10_trace_41 rfl (lv_at hl 1 rfl) ?_
            refine q_pr (q_runV (t := 57) (i := 0) (As := [.ref (al.2 62 j_16), .int 0, .int turn]) (rest := []) C hU (c_X10_aheadOf_x hG (j_16) hb_18 0 turn (hBC.1.1) (tr_g0 hMA pre2)) vm_X10_aheadOf ml_X10_74 k_57.1 (hc := rfl) rfl (h1_57 hG) hl.1 rfl rfl (Nat.le_of_ble_eq_true rfl) dX10_trace_42 rfl rfl ⟨Nat.le_of_ble_eq_true rfl, Nat.le_of_ble_eq_true rfl⟩ ⟨Nat.le_refl _, Nat.le_refl _⟩) hS (fun r_21 H locs hp_20 hU hS => ?_)
            have hb_22 := hp_20.1
            have h42 := hp_20.2.trans (congrArg oI (ah_m hMA _ _))
            refine b_astore (lv' := [(7, rfv al 62 r_21), (0, .ref (al.2 57 0)), (2, .int turn), (3, .int rest_), (4, .ref (al.2 62 j_16)), (5, .int l5_10), (6, .int l6_11)]) hx hb dX10_trace_45 hl (by decide) rfl (fun ls hl => ?_)
            refine lv_aload_n hx hb dX10_trace_47 rfl (lv_at hl 1 rfl) ?_
            refine lv_aload hx hb dX10_trace_48 (lv_at hl 4 rfl) ?_
            refine lv_iconst (v := 1) hx hb dX10_trace_50 (by decide) ?_
            refine lv_iload_n hx hb dX10_trace_51 rfl (lv_at hl 3 rfl) ?_
            refine q_pr (q_runV (t := 57) (i := 0) (As := [.ref (al.2 62 j_16), .int 1, .int rest_]) (rest := []) C hU (c_X10_aheadOf_x hG (j_16) hb_18 1 rest_ (hBC.1.1) (tr_g1 hMA pre3)) vm_X10_aheadOf ml_X10_74 k_57.1 (hc := rfl) rfl (h1_57 hG) hl.1 rfl rfl (Nat.le_of_ble_eq_true rfl) dX10_trace_52 rfl rfl ⟨Nat.le_of_ble_eq_true rfl, Nat.le_of_ble_eq_true rfl⟩ ⟨Nat.le_refl _, Nat.le_refl _⟩) hS (fun r_24 H locs hp_23 hU hS => ?_)
            have hb_25 := hp_23.1
            have h52 := hp_23.2.trans (congrArg oI (ah_m hMA _ _))
            refine b_astore (lv' := [(8, rfv al 62 r_24), (7, rfv al 62 r_21), (0, .ref (al.2 57 0)), (2, .int turn), (3, .int rest_), (4, .ref (al.2 62 j_16)), (5, .int l5_10), (6, .int l6_11)]) hx hb dX10_trace_55 hl (by decide) (by simp [List.filter_cons, rfv_cat]) (fun ls hl => ?_)
            refine lv_aload hx hb dX10_trace_57 (lv_at hl 5 rfl) ?_
            refine b_aload (al := al) (t' := 62) (r := r_21) hx hb dX10_trace_59 (lv_at hl 1 rfl) ?_
            refine lv_iload_n hx hb dX10_trace_61 rfl (lv_at hl 3 rfl) ?_
            refine q_pi (q_runV (t := 62) (i := j_16) (As := [rfv al 62 r_21, .int turn]) (rest := []) C hU (c_X5_waitFor_x hG (j_16) hb_18 r_21 hb_22 turn ) vm_X5_waitFor ml_X10_78 k_62.1 (hc := rfl) rfl hb_18 hl.1 rfl rfl (Nat.le_of_ble_eq_true rfl) dX10_trace_62 rfl rfl ⟨Nat.le_of_ble_eq_true rfl, Nat.le_of_ble_eq_true rfl⟩ ⟨Nat.le_refl _, Nat.le_refl _⟩) hS (fun x_27 H locs hp_26 hU hS => ?_)
            have hw0 := tr_w hG hBC.1 hb4 hlg2 hp_20.2 (tr_g0 hMA pre2) hp_26 hMA
            refine lv_istore (lv' := [(9, .int x_27), (8, rfv al 62 r_24), (7, rfv al 62 r_21), (0, .ref (al.2 57 0)), (2, .int turn), (3, .int rest_), (4, .ref (al.2 62 j_16)), (5, .int l5_10), (6, .int l6_11)]) hx hb dX10_trace_65 hl (by decide) (by simp [List.filter_cons, rfv_cat]) (fun ls hl => ?_)
            refine lv_aload hx hb dX10_trace_67 (lv_at hl 6 rfl) ?_
            refine b_aload (al := al) (t' := 62) (r := r_24) hx hb dX10_trace_69 (lv_at hl 1 rfl) ?_
            refine lv_iload_n hx hb dX10_trace_71 rfl (lv_at hl 5 rfl) ?_
            refine q_pi (q_runV (t := 62) (i := j_16) (As := [rfv al 62 r_24, .int rest_]) (rest := []) C hU (c_X5_waitFor_x hG (j_16) hb_18 r_24 hb_25 rest_ ) vm_X5_waitFor ml_X10_78 k_62.1 (hc := rfl) rfl hb_18 hl.1 rfl rfl (Nat.le_of_ble_eq_true rfl) dX10_trace_72 rfl rfl ⟨Nat.le_of_ble_eq_true rfl, Nat.le_of_ble_eq_true rfl⟩ ⟨Nat.le_refl _, Nat.le_refl _⟩) hS (fun x_29 H locs hp_28 hU hS => ?_)
            have hw1 := tr_w hG hBC.1 hb4 hlg2 hp_23.2 (tr_g1 hMA pre3) hp_28 hMA
            refine lv_istore (lv' := [(10, .int x_29), (9, .int x_27), (8, rfv al 62 r_24), (7, rfv al 62 r_21), (0, .ref (al.2 57 0)), (2, .int turn), (3, .int rest_), (4, .ref (al.2 62 j_16)), (5, .int l5_10), (6, .int l6_11)]) hx hb dX10_trace_75 hl (by decide) rfl (fun ls hl => ?_)
            refine lv_aload hx hb dX10_trace_77 (lv_at hl 7 rfl) ?_
            refine g_62_13 C hU hG hb_18 fl_X10_71 dX10_trace_79 (fun x_30 e_31 => ?_)
            have te_31 := congrArg Int32.toInt e_31
            have ne_31 : x_30.toInt = (iv 62 j_16 13).toInt := by rw [e_31, hF1 62 j_16 13 (by decide)]
            refine lv_iload hx hb dX10_trace_82 (lv_at hl 1 rfl) ?_
            refine lv_iload hx hb dX10_trace_84 (lv_at hl 0 rfl) ?_
            refine q_max C hl.1 ml_X10_82 (Nat.le_of_ble_eq_true rfl) (Nat.le_of_ble_eq_true rfl) (Nat.le_refl _) (Nat.le_refl _) dX10_trace_86 (fun x_32 q_33 tq_33 => ?_)
            refine q_min C hl.1 ml_X10_88 (Nat.le_of_ble_eq_true rfl) (Nat.le_of_ble_eq_true rfl) (Nat.le_refl _) (Nat.le_refl _) dX10_trace_89 (fun x_34 q_35 tq_35 => ?_)
            refine lv_istore (lv' := [(11, .int x_34), (10, .int x_29), (9, .int x_27), (8, rfv al 62 r_24), (7, rfv al 62 r_21), (0, .ref (al.2 57 0)), (2, .int turn), (3, .int rest_), (4, .ref (al.2 62 j_16)), (5, .int l5_10), (6, .int l6_11)]) hx hb dX10_trace_92 hl (by decide) rfl (fun ls hl => ?_)
            refine lv_iload hx hb dX10_trace_94 (lv_at hl 9 rfl) ?_
            refine lv_iload hx hb dX10_trace_96 (lv_at hl 0 rfl) ?_
            refine q_min C hl.1 ml_X10_88 (Nat.le_of_ble_eq_true rfl) (Nat.le_of_ble_eq_true rfl) (Nat.le_refl _) (Nat.le_refl _) dX10_trace_98 (fun x_36 q_37 tq_37 => ?_)
            have hled := tr_led hG hBC.1 hb4 hlg2 e_31 q_33 q_35 q_37 hw0 hw1 hMA
            refine lv_istore (lv' := [(12, .int x_36), (11, .int x_34), (10, .int x_29), (9, .int x_27), (8, rfv al 62 r_24), (7, rfv al 62 r_21), (0, .ref (al.2 57 0)), (2, .int turn), (3, .int rest_), (4, .ref (al.2 62 j_16)), (5, .int l5_10), (6, .int l6_11)]) hx hb dX10_trace_101 hl (by decide) rfl (fun ls hl => ?_)
            refine lv_aload_n hx hb dX10_trace_103 rfl (lv_at hl 6 rfl) ?_
            refine g_57_2 C hU hG (h1_57 hG) fl_X10_17 dX10_trace_104 ?_
            refine lv_aload hx hb dX10_trace_107 (lv_at hl 9 rfl) ?_
            refine g_62_14 C hU hG hb_18 fl_X10_91 dX10_trace_109 (fun x_38 e_39 le_39 ue_39 => ?_)
            have te_39 := congrArg Int32.toInt e_39
            have ne_39 : x_38.toInt = (iv 62 j_16 14).toInt := by rw [e_39, hF1 62 j_16 14 (by decide)]
            refine lv_dup2_11 hx hb dX10_trace_112 rfl rfl ?_
            refine a_59 C hU hG (h1_59 hG) (x := x_38) (by omega) (by omega) dX10_trace_113 (fun x_40 e_41 => ?_)
            have te_41 := congrArg Int32.toInt e_41
            refine lv_iload hx hb dX10_trace_114 (lv_at hl 10 rfl) ?_
            refine lv_iload hx hb dX10_trace_116 (lv_at hl 0 rfl) ?_
            refine lv_isub hx hb dX10_trace_118 ?_
            refine lv_topi (fun x_42 e_43 => ?_)
            refine lv_iadd hx hb dX10_trace_119 ?_
            refine lv_topi (fun x_44 e_45 => ?_)
            have hFb := hF1
            refine s_59 C hU hS (h1_59 hG) (x := x_38) (by omega) (by omega) dX10_trace_120 (fun iv_46 H locs ei_47 hU hS => ?_)
            have hG : GI al iv_46 rv_13 := by rw [ei_47]; exact hG.puti (show _ ∧ _ from ⟨(fb_rng _).1, Int.le_of_lt_add_one (fb_rng _).2⟩) (nsA (by decide) _)
            have hF1 : FR ([59], []) iv iv_46 := by rw [ei_47]; exact hF1.put (Or.inl (by decide))
            refine lv_iload hx hb dX10_trace_121 (lv_at hl 0 rfl) ?_
            refine lv_istore (lv' := [(5, .int x_36), (12, .int x_36), (11, .int x_34), (10, .int x_29), (9, .int x_27), (8, rfv al 62 r_24), (7, rfv al 62 r_21), (0, .ref (al.2 57 0)), (2, .int turn), (3, .int rest_), (4, .ref (al.2 62 j_16)), (6, .int l6_11)]) hx hb dX10_trace_123 hl (by decide) rfl (fun ls hl => ?_)
            refine lv_iload hx hb dX10_trace_125 (lv_at hl 3 rfl) ?_
            refine lv_iload hx hb dX10_trace_127 (lv_at hl 4 rfl) ?_
            have J_139 : ∀ (r_48 : Option Nat) (ls : Array Slot), lv_has ls 13 [(0, .ref (al.2 57 0)), (2, .int turn), (3, .int rest_), (5, .int x_36), (6, .int l6_11)] → (∀ j, r_48 = some j → j < al.1 62) → r_48 = oI (ahF iv j_16 (bcF iv j_16)) → W p l e (rm 2) s m args below meth c H locs 0 0 Q (F0 m 139 ls [rfv al 62 r_48]) := by
              intro r_48 ls hl hb_49 i139_0
              refine b_astore (lv' := [(4, rfv al 62 r_48), (0, .ref (al.2 57 0)), (2, .int turn), (3, .int rest_), (5, .int x_36), (6, .int l6_11)]) hx hb dX10_trace_139 hl (by decide) rfl (fun ls hl => ?_)
              obtain ⟨x_50, e_51⟩ : ∃ y : Int32, y = l6_11 + 1 := ⟨_, rfl⟩
              have te_51 : x_50.toInt = (l6_11 : Int32).toInt + (1 : Int32).toInt := by rw [e_51]; exact fb_addI (by omega) (by omega)
              refine lv_iinc (v := x_50) (lv' := [(6, .int x_50), (4, rfv al 62 r_48), (0, .ref (al.2 57 0)), (2, .int turn), (3, .int rest_), (5, .int x_36)]) hx hb dX10_trace_141 hl (k := 5) rfl (by rw [e_51]; rfl) (by decide) rfl (fun ls hl => ?_)
              refine lv_goto (tgt := 20) hx hb dX10_trace_144 (by decide) ?_
              exact ih_20 r_48 x_36 x_50 _ _ _ _ _ (lv_sub hl [2, 3, 4, 1, 5, 0] rfl) hb_49 hG hF1 hF2 hU hS (by omega) (by first | exact tr_step hG0 pre0 hb4 i20_1 (by omega) hled i139_0 e_39 e_41 e_43 e_45 ei_47 hMA hFb (by omega) (by omega) | exact tr_0 hG0 pre0 hli pre1 fa_4 hp_1 e_7) (by omega)
            refine b_icmp_le (tgt := 137) hx hb dX10_trace_129 (by decide) (fun c_52 => ?_) (fun c_52 => ?_)
            ·
              refine b_aload (al := al) (t' := 62) (r := r_21) hx hb dX10_trace_137 (lv_at hl 6 rfl) ?_
              exact J_139 r_21 _ (lv_sub hl [7, 8, 9, 0, 11] rfl) hb_22 (by first | exact tr_c hw0 hw1 h52 (by omega) | exact tr_p hw0 hw1 h42 (by omega))
            ·
              refine b_aload (al := al) (t' := 62) (r := r_24) hx hb dX10_trace_132 (lv_at hl 5 rfl) ?_
              refine lv_goto (tgt := 139) hx hb dX10_trace_134 (by decide) ?_
              exact J_139 r_24 _ (lv_sub hl [7, 8, 9, 0, 11] rfl) hb_25 (by first | exact tr_c hw0 hw1 h52 (by omega) | exact tr_p hw0 hw1 h42 (by omega))
  exact J_20 _ (some li) x_6 0 _ _ _ _ _ (lv_sub hl [3, 5, 6, 2, 1, 0] rfl) (fun _ h => by cases h; exact hli) hG hF1 hF2 hU hS (by omega) (by first | exact tr_step hG0 pre0 hb4 i20_1 (by omega) hled i139_0 True.intro True.intro True.intro True.intro True.intro hMA hFb (by omega) (by omega) | exact tr_0 hG0 pre0 hli pre1 fa_4 hp_1 e_7) (Nat.lt_succ_self _)
end
section
set_option maxHeartbeats 4000000 in
set_option maxRecDepth 100000 in
theorem c_X10_greatestCause_x {l : Launch} {D : va_G} {cA : FieldType → ClassId} {sz : Nat} {al : Al} {iv : Iv} {rv : Rv} (hG : GI al iv rv) : Met l yX10_greatestCause (wd yX10_greatestCause cX10_greatestCause 3 (some .int)) (rm 0) (PcW D cA sz al iv rv [.ref (al.2 57 0)]) (QI D cA sz al (pI iv rv (fun r => (0 ≤ r.toInt ∧ r.toInt ≤ 5) ∧ (r = gcN (fun k => iv 59 0 k) 5)))) 0 0 (Aq sz) := by
  refine mk_i (by decide) (Nat.le_of_ble_eq_true rfl) rfl ?_
  intro p e s m args below meth c ls Q H locs C hU hS hl hret
  have hx := C.1.1
  have hb := C.1.2.1
  have hl : lv_has ls 3 [(0, .ref (al.2 57 0))] := hl
  have hG0 := hG
  have k0 : (0 : Int32).toInt = 0 := by decide
  have k1 : (1 : Int32).toInt = 1 := by decide
  have k6 : (6 : Int32).toInt = 6 := by decide
  refine lv_iconst (v := 0) hx hb dX10_greatestCause_0 (by decide) ?_
  refine lv_istore_n (lv' := [(1, .int 0), (0, .ref (al.2 57 0))]) hx hb dX10_greatestCause_1 rfl hl (by decide) rfl (fun ls hl => ?_)
  refine lv_iconst (v := 1) hx hb dX10_greatestCause_2 (by decide) ?_
  refine lv_istore_n (lv' := [(2, .int 1), (1, .int 0), (0, .ref (al.2 57 0))]) hx hb dX10_greatestCause_3 rfl hl (by decide) rfl (fun ls hl => ?_)
  have J_4 : ∀ (n_4 : Nat) (l1_1 : Int32) (l2_2 : Int32) (ls : Array Slot), lv_has ls 3 [(0, .ref (al.2 57 0)), (1, .int l1_1), (2, .int l2_2)] → (0 ≤ l1_1.toInt ∧ l1_1.toInt ≤ 5) → (1 ≤ l2_2.toInt ∧ l2_2.toInt ≤ 6) → l1_1 = gcN (fun k => iv 59 0 k) (l2_2.toNatClampNeg - 1) → (6 - l2_2.toInt).toNat < n_4 → W p l e (rm 0) s m args below meth c H locs 0 0 Q (F0 m 4 ls []) := by
    intro n_4
    induction n_4 with
    | zero =>
      intro l1_1 l2_2 ls hl i4_0 i4_1 i4_2 hm_4
      exact absurd hm_4 (Nat.not_lt_zero _)
    | succ n_4 ih_4 =>
      intro l1_1 l2_2 ls hl i4_0 i4_1 i4_2 hm_4
      refine lv_iload_n hx hb dX10_greatestCause_4 rfl (lv_at hl 2 rfl) ?_
      refine lv_bipush (v := 6) hx hb dX10_greatestCause_5 (by decide) ?_
      refine b_icmp_ge (tgt := 33) hx hb dX10_greatestCause_7 (by decide) (fun c_3 => ?_) (fun c_3 => ?_)
      ·
        refine lv_iload_n hx hb dX10_greatestCause_33 rfl (lv_at hl 1 rfl) ?_
        exact hret (⟨rfl, rfl, ⟨⟨by omega, by omega⟩, by rw [i4_2, gc_end (by omega)]⟩⟩) hU hS dX10_greatestCause_34
      ·
        refine lv_aload_n hx hb dX10_greatestCause_10 rfl (lv_at hl 0 rfl) ?_
        refine g_57_2 C hU hG (h1_57 hG) fl_X10_17 dX10_greatestCause_11 ?_
        refine lv_iload_n hx hb dX10_greatestCause_14 rfl (lv_at hl 2 rfl) ?_
        refine a_59 C hU hG (h1_59 hG) (x := l2_2) (by omega) (by omega) dX10_greatestCause_15 (fun x_4 e_5 => ?_)
        have te_5 := congrArg Int32.toInt e_5
        refine lv_aload_n hx hb dX10_greatestCause_16 rfl (lv_at hl 0 rfl) ?_
        refine g_57_2 C hU hG (h1_57 hG) fl_X10_17 dX10_greatestCause_17 ?_
        refine lv_iload_n hx hb dX10_greatestCause_20 rfl (lv_at hl 1 rfl) ?_
        refine a_59 C hU hG (h1_59 hG) (x := l1_1) (by omega) (by omega) dX10_greatestCause_21 (fun x_6 e_7 => ?_)
        have te_7 := congrArg Int32.toInt e_7
        have J_27 : ∀ (l1_8 : Int32) (ls : Array Slot), lv_has ls 3 [(0, .ref (al.2 57 0)), (2, .int l2_2), (1, .int l1_8)] → (0 ≤ l1_8.toInt ∧ l1_8.toInt ≤ 5) → l1_8 = gcN (fun k => iv 59 0 k) l2_2.toNatClampNeg → W p l e (rm 0) s m args below meth c H locs 0 0 Q (F0 m 27 ls []) := by
          intro l1_8 ls hl i27_0 i27_1
          obtain ⟨x_9, e_10⟩ : ∃ y : Int32, y = l2_2 + 1 := ⟨_, rfl⟩
          have te_10 : x_9.toInt = (l2_2 : Int32).toInt + (1 : Int32).toInt := by rw [e_10]; exact fb_addI (by omega) (by omega)
          refine lv_iinc (v := x_9) (lv' := [(2, .int x_9), (0, .ref (al.2 57 0)), (1, .int l1_8)]) hx hb dX10_greatestCause_27 hl (k := 1) rfl (by rw [e_10]; rfl) (by decide) rfl (fun ls hl => ?_)
          refine lv_goto (tgt := 4) hx hb dX10_greatestCause_30 (by decide) ?_
          exact ih_4 l1_8 x_9 _ (lv_sub hl [1, 2, 0] rfl) (by omega) (by omega) (by first | exact gc_up (by omega) (by omega) i27_1 | exact gc_0) (by omega)
        refine b_icmp_le (tgt := 27) hx hb dX10_greatestCause_22 (by decide) (fun c_11 => ?_) (fun c_11 => ?_)
        ·
          exact J_27 l1_1 _ (lv_sub hl [0, 2, 1] rfl) (by omega) (by first | exact gc_y i4_2 e_5 e_7 (by omega) (by omega) (by omega) | exact gc_n i4_2 e_5 e_7 (by omega) (by omega) (by omega))
        ·
          refine lv_iload_n hx hb dX10_greatestCause_25 rfl (lv_at hl 2 rfl) ?_
          refine lv_istore_n (lv' := [(1, .int l2_2), (0, .ref (al.2 57 0)), (2, .int l2_2)]) hx hb dX10_greatestCause_26 rfl hl (by decide) rfl (fun ls hl => ?_)
          exact J_27 l2_2 _ (lv_sub hl [1, 2, 0] rfl) (by omega) (by first | exact gc_y i4_2 e_5 e_7 (by omega) (by omega) (by omega) | exact gc_n i4_2 e_5 e_7 (by omega) (by omega) (by omega))
  exact J_4 _ 0 1 _ (lv_sub hl [2, 1, 0] rfl) (by omega) (by omega) (by first | exact gc_up (by omega) (by omega) i27_1 | exact gc_0) (Nat.lt_succ_self _)
set_option maxHeartbeats 4000000 in
set_option maxRecDepth 100000 in
theorem c_X11_blameOf_x {l : Launch} {D : va_G} {cA : FieldType → ClassId} {sz : Nat} {al : Al} {iv : Iv} {rv : Rv} (hG : GI al iv rv) (ti : Nat) (hti : ti < al.1 65) (pre0 : BB iv rv) : Met l yX11_blameOf (wd yX11_blameOf cX11_blameOf 3 (some .int)) (rm 3) (PcW D cA sz al iv rv [.ref (al.2 49 0), .ref (al.2 65 ti)]) (QI D cA sz al (fI al ([59], []) iv rv (fun r iv' rv' => r = blF iv ti))) 0 0 (Aq sz) := by
  refine mk_i (by decide) (Nat.le_of_ble_eq_true rfl) rfl ?_
  intro p e s m args below meth c ls Q H locs C hU hS hl hret
  have hx := C.1.1
  have hb := C.1.2.1
  have hl : lv_has ls 3 [(0, .ref (al.2 49 0)), (1, .ref (al.2 65 ti))] := hl
  have hG0 := hG
  have hF1 : FR ([59], []) iv iv := FR.rf
  have hF2 : FR ([59], []) rv rv := FR.rf
  have km9 : ((-9) : Int32).toInt = -9 := by decide
  have k0 : (0 : Int32).toInt = 0 := by decide
  have k1 : (1 : Int32).toInt = 1 := by decide
  have k2 : (2 : Int32).toInt = 2 := by decide
  refine lv_aload_n hx hb dX11_blameOf_0 rfl (lv_at hl 1 rfl) ?_
  refine lv_aload_n hx hb dX11_blameOf_1 rfl (lv_at hl 0 rfl) ?_
  refine g_49_7 C hU hG (h1_49 hG) fl_X11_67 dX11_blameOf_2 ?_
  refine lv_iconst (v := 2) hx hb dX11_blameOf_5 (by decide) ?_
  refine a_50 C hU hG (h1_50 hG) (x := 2) (by omega) (by omega) dX11_blameOf_6 (fun x_1 e_2 le_2 ue_2 => ?_)
  have te_2 := congrArg Int32.toInt e_2
  refine q_pr (q_runV (t := 65) (i := ti) (As := [.int x_1]) (rest := []) C hU (c_X8_legAtFault_x hG (ti) hti x_1 (bb_bm pre0) (by rw [e_2]; exact (pre0.1.1.1.2.2 2 (by decide)).symm)) vm_X8_legAtFault ml_X11_368 k_65.1 (hc := rfl) rfl hti hl.1 rfl rfl (Nat.le_of_ble_eq_true rfl) dX11_blameOf_7 rfl rfl ⟨Nat.le_of_ble_eq_true rfl, Nat.le_of_ble_eq_true rfl⟩ ⟨Nat.le_refl _, Nat.le_refl _⟩) hS (fun r_4 H locs hp_3 hU hS => ?_)
  obtain ⟨⟨j_5, ej_6, hb_7⟩, hp_3⟩ := hp_3
  subst ej_6
  refine lv_astore_n (lv' := [(2, .ref (al.2 62 j_5)), (0, .ref (al.2 49 0)), (1, .ref (al.2 65 ti))]) hx hb dX11_blameOf_10 rfl hl (by decide) rfl (fun ls hl => ?_)
  have hlf := Option.some.inj hp_3
  refine lv_aload_n hx hb dX11_blameOf_11 rfl (lv_at hl 0 rfl) ?_
  refine g_62_7 C hU hG hb_7 fl_X11_126 dX11_blameOf_12 (fun x_8 e_9 le_9 ue_9 => ?_)
  have te_9 := congrArg Int32.toInt e_9
  have hl7 := lg_done hG0 pre0.1.1 hb_7 hlf
  refine b_if_eq (tgt := 25) hx hb dX11_blameOf_15 (by decide) (fun c_10 => ?_) (fun c_10 => ?_)
  ·
    refine lv_bipush (v := (-9)) hx hb dX11_blameOf_25 (by decide) ?_
    exact hret (⟨hG, hF1, hF2, by unfold blF; rw [if_pos (by omega)]⟩) hU hS dX11_blameOf_27
  ·
    have hrt := rt_x hG0 pre0.1.1 hb_7 (by omega)
    refine lv_aload_n hx hb dX11_blameOf_18 rfl (lv_at hl 0 rfl) ?_
    refine g_62_13 C hU hG hb_7 fl_X11_145 dX11_blameOf_19 (fun x_11 e_12 => ?_)
    have te_12 := congrArg Int32.toInt e_12
    have h19 := e_12
    rw [hrt.2.2.2, hlf] at h19
    have t19 := congrArg Int32.toInt h19
    refine b_if_ne (tgt := 28) hx hb dX11_blameOf_22 (by decide) (fun c_13 => ?_) (fun c_13 => ?_)
    ·
      refine lv_aload_n hx hb dX11_blameOf_28 rfl (lv_at hl 1 rfl) ?_
      refine g_49_1 C hU hG (h1_49 hG) fl_X11_19 dX11_blameOf_29 ?_
      refine lv_aload_n hx hb dX11_blameOf_32 rfl (lv_at hl 0 rfl) ?_
      refine lv_aload_n hx hb dX11_blameOf_33 rfl (lv_at hl 1 rfl) ?_
      refine g_49_7 C hU hG (h1_49 hG) fl_X11_67 dX11_blameOf_34 ?_
      refine lv_iconst (v := 0) hx hb dX11_blameOf_37 (by decide) ?_
      refine a_50 C hU hG (h1_50 hG) (x := 0) (by omega) (by omega) dX11_blameOf_38 (fun x_14 e_15 le_15 ue_15 => ?_)
      have te_15 := congrArg Int32.toInt e_15
      refine lv_aload_n hx hb dX11_blameOf_39 rfl (lv_at hl 1 rfl) ?_
      refine g_49_7 C hU hG (h1_49 hG) fl_X11_67 dX11_blameOf_40 ?_
      refine lv_iconst (v := 1) hx hb dX11_blameOf_43 (by decide) ?_
      refine a_50 C hU hG (h1_50 hG) (x := 1) (by omega) (by omega) dX11_blameOf_44 (fun x_16 e_17 le_17 ue_17 => ?_)
      have te_17 := congrArg Int32.toInt e_17
      refine q_fv (q_runV (t := 57) (i := 0) (As := [.ref (al.2 62 j_5), .int x_14, .int x_16]) (rest := []) C hU (c_X10_trace_x hG (j_5) hb_7 x_14 x_16 (pre0.1) (by omega) (by rw [e_15]; exact (pre0.1.1.1.2.2 0 (by decide)).symm) (by rw [e_17]; exact (pre0.1.1.1.2.2 1 (by decide)).symm)) vm_X10_trace ml_X11_170 k_57.1 (hc := rfl) rfl (h1_57 hG) hl.1 rfl rfl (Nat.le_of_ble_eq_true rfl) dX11_blameOf_45 rfl rfl ⟨Nat.le_of_ble_eq_true rfl, Nat.le_of_ble_eq_true rfl⟩ ⟨Nat.le_refl _, Nat.le_refl _⟩) hS (fun iv_19 rv_20 H locs hG fa_21 fb_22 hp_18 hU hS => ?_)
      have hF1 := hF1.tr (m := ([59], [])) fa_21 (by decide)
      have hF2 := hF2.tr (m := ([59], [])) fb_22 (by decide)
      refine lv_aload_n hx hb dX11_blameOf_48 rfl (lv_at hl 1 rfl) ?_
      refine g_49_1 C hU hG (h1_49 hG) fl_X11_19 dX11_blameOf_49 ?_
      refine q_pi (q_runV (t := 57) (i := 0) (As := []) (rest := []) C hU (c_X10_greatestCause_x hG  ) vm_X10_greatestCause ml_X11_371 k_57.1 (hc := rfl) rfl (h1_57 hG) hl.1 rfl rfl (Nat.le_of_ble_eq_true rfl) dX11_blameOf_52 rfl rfl ⟨Nat.le_of_ble_eq_true rfl, Nat.le_of_ble_eq_true rfl⟩ ⟨Nat.le_refl _, Nat.le_refl _⟩) hS (fun x_24 H locs hp_23 hU hS => ?_)
      exact hret (⟨hG, hF1, hF2, by unfold blF; rw [if_neg (by omega), hp_23.2]; exact gc_cong (by rw [← hlf]; exact hp_18)⟩) hU hS dX11_blameOf_55
    ·
      refine lv_bipush (v := (-9)) hx hb dX11_blameOf_25 (by decide) ?_
      exact hret (⟨hG, hF1, hF2, by unfold blF; rw [if_pos (by omega)]⟩) hU hS dX11_blameOf_27
set_option maxHeartbeats 4000000 in
set_option maxRecDepth 100000 in
theorem c_X10_reach_x {l : Launch} {D : va_G} {cA : FieldType → ClassId} {sz : Nat} {al : Al} {iv : Iv} {rv : Rv} (hG : GI al iv rv) (fd : Int32) (pi : Nat) (hpi : pi < al.1 56) (time : Int32) (pre0 : 0 ≤ fd.toInt ∧ fd.toInt ≤ 40) (pre1 : ∀ k : Nat, (k : Int) < fd.toInt → ∃ j, rv 61 0 k = some j) (pre2 : BL iv rv) (pre3 : QU iv rv fd) : Met l yX10_reach (wd yX10_reach cX10_reach 7 (some .int)) (rm 0) (PcW D cA sz al iv rv [.ref (al.2 57 0), .int fd, .ref (al.2 56 pi), .int time]) (QI D cA sz al (fI al ([60, 61], []) iv rv (fun r iv' rv' => (0 ≤ r.toInt ∧ r.toInt ≤ 40) ∧ (fd.toInt ≤ r.toInt ∧ QU iv' rv' r ∧ (∀ j : Nat, (j : Int) < (iv 57 0 1).toInt → (¬ (iv' 60 0 j).toInt = 0 ↔ (¬ (iv 60 0 j).toInt = 0 ∨ S0 iv pi time.toInt j))) ∧ (∀ k : Nat, (k : Int) < fd.toInt → rv' 61 0 k = rv 61 0 k))))) 0 0 (Aq sz) := by
  refine mk_i (by decide) (Nat.le_of_ble_eq_true rfl) rfl ?_
  intro p e s m args below meth c ls Q H locs C hU hS hl hret
  have hx := C.1.1
  have hb := C.1.2.1
  have hl : lv_has ls 7 [(0, .ref (al.2 57 0)), (1, .int fd), (2, .ref (al.2 56 pi)), (3, .int time)] := hl
  have hG0 := hG
  have n57 : (iv 57 0 1).toInt = al.1 62 := hG.2.2.2.1.2
  have hF1 : FR ([60, 61], []) iv iv := FR.rf
  have hF2 : FR ([60, 61], []) rv rv := FR.rf
  have k0 : (0 : Int32).toInt = 0 := by decide
  have k1 : (1 : Int32).toInt = 1 := by decide
  have k40 : (40 : Int32).toInt = 40 := by decide
  refine lv_iload_n hx hb dX10_reach_0 rfl (lv_at hl 1 rfl) ?_
  refine lv_istore (lv' := [(4, .int fd), (0, .ref (al.2 57 0)), (1, .int fd), (2, .ref (al.2 56 pi)), (3, .int time)]) hx hb dX10_reach_1 hl (by decide) rfl (fun ls hl => ?_)
  refine lv_iconst (v := 0) hx hb dX10_reach_3 (by decide) ?_
  refine lv_istore (lv' := [(5, .int 0), (4, .int fd), (0, .ref (al.2 57 0)), (1, .int fd), (2, .ref (al.2 56 pi)), (3, .int time)]) hx hb dX10_reach_4 hl (by decide) rfl (fun ls hl => ?_)
  have J_6 : ∀ (n_6 : Nat) (l4_1 : Int32) (l5_2 : Int32) (iv_3 : Iv) (rv_4 : Rv) (H : Heap) (locs : List Loc) (ls : Array Slot), lv_has ls 7 [(0, .ref (al.2 57 0)), (2, .ref (al.2 56 pi)), (3, .int time), (4, .int l4_1), (5, .int l5_2)] → GI al iv_3 rv_4 → FR ([60, 61], []) iv iv_3 → FR ([60, 61], []) rv rv_4 → UW D cA sz al iv_3 rv_4 H → va_S (Aq sz) s.heap H locs → (0 ≤ l4_1.toInt ∧ l4_1.toInt ≤ 40) → (0 ≤ l5_2.toInt ∧ l5_2.toInt ≤ 40) → fd.toInt ≤ l4_1.toInt → (∀ k : Nat, (k : Int) < l4_1.toInt → ∃ j, rv_4 61 0 k = some j) → RI iv rv iv_3 rv_4 fd pi time.toInt l4_1 l5_2.toNatClampNeg → (40 - l5_2.toInt).toNat < n_6 → W p l e (rm 0) s m args below meth c H locs 0 0 Q (F0 m 6 ls []) := by
    intro n_6
    induction n_6 with
    | zero =>
      intro l4_1 l5_2 iv_3 rv_4 H locs ls hl hG hF1 hF2 hU hS i6_0 i6_1 i6_2 i6_3 i6_4 hm_6
      exact absurd hm_6 (Nat.not_lt_zero _)
    | succ n_6 ih_6 =>
      intro l4_1 l5_2 iv_3 rv_4 H locs ls hl hG hF1 hF2 hU hS i6_0 i6_1 i6_2 i6_3 i6_4 hm_6
      refine lv_iload hx hb dX10_reach_6 (lv_at hl 4 rfl) ?_
      refine lv_aload_n hx hb dX10_reach_8 rfl (lv_at hl 0 rfl) ?_
      refine g_57_1 C hU hG (h1_57 hG) fl_X10_28 dX10_reach_9 (fun x_5 e_6 le_6 ue_6 => ?_)
      have te_6 := congrArg Int32.toInt e_6
      have ne_6 : x_5.toInt = (iv 57 0 1).toInt := by rw [e_6, hF1 57 0 1 (by decide)]
      refine b_icmp_ge (tgt := 96) hx hb dX10_reach_12 (by decide) (fun c_7 => ?_) (fun c_7 => ?_)
      ·
        refine lv_iload hx hb dX10_reach_96 (lv_at hl 3 rfl) ?_
        exact hret (⟨hG, hF1, hF2, ⟨⟨by omega, by omega⟩, ⟨by omega, by first | exact ri_end i6_4 (by omega) | exact ri_full hG0 i6_4 (by omega) (by omega)⟩⟩⟩) hU hS dX10_reach_98
      ·
        refine lv_iload hx hb dX10_reach_15 (lv_at hl 3 rfl) ?_
        refine lv_bipush (v := 40) hx hb dX10_reach_17 (by decide) ?_
        refine b_icmp_ge (tgt := 96) hx hb dX10_reach_19 (by decide) (fun c_8 => ?_) (fun c_8 => ?_)
        ·
          refine lv_iload hx hb dX10_reach_96 (lv_at hl 3 rfl) ?_
          exact hret (⟨hG, hF1, hF2, ⟨⟨by omega, by omega⟩, ⟨by omega, by first | exact ri_end i6_4 (by omega) | exact ri_full hG0 i6_4 (by omega) (by omega)⟩⟩⟩) hU hS dX10_reach_98
        ·
          refine lv_aload_n hx hb dX10_reach_22 rfl (lv_at hl 0 rfl) ?_
          refine g_57_0 C hU hG (h1_57 hG) fl_X10_13 dX10_reach_23 ?_
          refine lv_iload hx hb dX10_reach_26 (lv_at hl 4 rfl) ?_
          refine a_58 C hU hG (h1_58 hG) (x := l5_2) (by omega) (by omega) dX10_reach_28 (fun r_9 er_10 hb_11 => ?_)
          have ner_10 : r_9 = rv 58 0 (l5_2 : Int32).toNatClampNeg := by rw [er_10, hF2.arr 58 0 _ (by decide)]
          obtain ⟨j_12, ej_13⟩ : ∃ j, r_9 = some j := ⟨_, er_10.trans (tall hG (by omega) (by omega))⟩
          subst ej_13
          have hl : lv_has ls 7 [(0, .ref (al.2 57 0)), (2, .ref (al.2 56 pi)), (3, .int time), (4, .int l4_1), (5, .int l5_2)] := hl
          have hb_14 : j_12 < al.1 62 := hb_11 j_12 rfl
          refine lv_astore (lv' := [(6, .ref (al.2 62 j_12)), (0, .ref (al.2 57 0)), (2, .ref (al.2 56 pi)), (3, .int time), (4, .int l4_1), (5, .int l5_2)]) hx hb dX10_reach_29 hl (by decide) rfl (fun ls hl => ?_)
          have hj6 := tix hG er_10 (by omega) (by omega)
          have hl11 := rc_11 hG0 pre2 hb_14 hj6
          refine lv_aload_n hx hb dX10_reach_31 rfl (lv_at hl 1 rfl) ?_
          refine g_57_3 C hU hG (h1_57 hG) fl_X10_21 dX10_reach_32 ?_
          refine lv_iload hx hb dX10_reach_35 (lv_at hl 5 rfl) ?_
          refine a_60 C hU hG (h1_60 hG) (x := l5_2) (by omega) (by omega) dX10_reach_37 (fun x_15 e_16 le_16 ue_16 => ?_)
          have te_16 := congrArg Int32.toInt e_16
          have J_90 : ∀ (l4_17 : Int32) (iv_18 : Iv) (rv_19 : Rv) (H : Heap) (locs : List Loc) (ls : Array Slot), lv_has ls 7 [(0, .ref (al.2 57 0)), (2, .ref (al.2 56 pi)), (3, .int time), (5, .int l5_2), (4, .int l4_17)] → GI al iv_18 rv_19 → FR ([60, 61], []) iv iv_18 → FR ([60, 61], []) rv rv_19 → UW D cA sz al iv_18 rv_19 H → va_S (Aq sz) s.heap H locs → (0 ≤ l4_17.toInt ∧ l4_17.toInt ≤ 40) → fd.toInt ≤ l4_17.toInt → (∀ k : Nat, (k : Int) < l4_17.toInt → ∃ j, rv_19 61 0 k = some j) → RI iv rv iv_18 rv_19 fd pi time.toInt l4_17 (l5_2.toNatClampNeg + 1) → W p l e (rm 0) s m args below meth c H locs 0 0 Q (F0 m 90 ls []) := by
            intro l4_17 iv_18 rv_19 H locs ls hl hG hF1 hF2 hU hS i90_0 i90_1 i90_2 i90_3
            obtain ⟨x_20, e_21⟩ : ∃ y : Int32, y = l5_2 + 1 := ⟨_, rfl⟩
            have te_21 : x_20.toInt = (l5_2 : Int32).toInt + (1 : Int32).toInt := by rw [e_21]; exact fb_addI (by omega) (by omega)
            refine lv_iinc (v := x_20) (lv' := [(5, .int x_20), (0, .ref (al.2 57 0)), (2, .ref (al.2 56 pi)), (3, .int time), (4, .int l4_17)]) hx hb dX10_reach_90 hl (k := 3) rfl (by rw [e_21]; rfl) (by decide) rfl (fun ls hl => ?_)
            refine lv_goto (tgt := 6) hx hb dX10_reach_93 (by decide) ?_
            exact ih_6 l4_17 x_20 _ _ _ _ _ (lv_sub hl [1, 2, 3, 4, 0] rfl) hG hF1 hF2 hU hS (by omega) (by omega) (by omega) (by first | exact pre1 | exact i90_2) (by first | exact ri_up (by omega) (by omega) i90_3 | exact ri_0 pre3) (by omega)
          refine b_if_ne (tgt := 90) hx hb dX10_reach_38 (by decide) (fun c_22 => ?_) (fun c_22 => ?_)
          ·
            exact J_90 l4_1 _ _ _ _ _ (lv_sub hl [1, 2, 3, 5, 4] rfl) hG hF1 hF2 hU hS (by omega) (by omega) (by first | exact i6_3 | exact nn_put i6_3 True.intro (by omega) (by omega)) (by first | exact ri_put i6_4 True.intro True.intro hj6 (by omega) (by omega) (by omega) (by omega) ⟨by omega, by omega, by omega⟩ (by omega) | exact ri_keep i6_4 (by omega) (by omega) (by omega))
          ·
            refine lv_aload hx hb dX10_reach_41 (lv_at hl 0 rfl) ?_
            refine g_62_7 C hU hG hb_14 fl_X10_39 dX10_reach_43 (fun x_23 e_24 le_24 ue_24 => ?_)
            have te_24 := congrArg Int32.toInt e_24
            have ne_24 : x_23.toInt = (iv 62 j_12 7).toInt := by rw [e_24, hF1 62 j_12 7 (by decide)]
            refine b_if_eq (tgt := 90) hx hb dX10_reach_46 (by decide) (fun c_25 => ?_) (fun c_25 => ?_)
            ·
              exact J_90 l4_1 _ _ _ _ _ (lv_sub hl [1, 2, 3, 5, 4] rfl) hG hF1 hF2 hU hS (by omega) (by omega) (by first | exact i6_3 | exact nn_put i6_3 True.intro (by omega) (by omega)) (by first | exact ri_put i6_4 True.intro True.intro hj6 (by omega) (by omega) (by omega) (by omega) ⟨by omega, by omega, by omega⟩ (by omega) | exact ri_keep i6_4 (by omega) (by omega) (by omega))
            ·
              refine lv_aload hx hb dX10_reach_49 (lv_at hl 0 rfl) ?_
              refine g_62_1 C hU hG hb_14 fl_X10_56 dX10_reach_51 (fun j_26 ej_27 hb_28 => ?_)
              have nej_27 : rv 62 j_12 1 = some j_26 := (hF2 62 j_12 1 (by decide)).symm.trans ej_27
              have hp5 := rc_5 hG0 pre2 hb_14 hj6 nej_27
              refine lv_aload_n hx hb dX10_reach_54 rfl (lv_at hl 2 rfl) ?_
              refine b_acmp_ne (tgt := 90) hx hb hU hb_28 hpi dX10_reach_55 (by decide) (fun c_29 => ?_) (fun c_29 => ?_)
              ·
                exact J_90 l4_1 _ _ _ _ _ (lv_sub hl [1, 2, 3, 5, 4] rfl) hG hF1 hF2 hU hS (by omega) (by omega) (by first | exact i6_3 | exact nn_put i6_3 True.intro (by omega) (by omega)) (by first | exact ri_put i6_4 True.intro True.intro hj6 (by omega) (by omega) (by omega) (by omega) ⟨by omega, by omega, by omega⟩ (by omega) | exact ri_keep i6_4 (by omega) (by omega) (by omega))
              ·
                refine lv_aload hx hb dX10_reach_58 (lv_at hl 0 rfl) ?_
                refine g_62_10 C hU hG hb_14 fl_X10_101 dX10_reach_60 (fun x_30 e_31 => ?_)
                have te_31 := congrArg Int32.toInt e_31
                have ne_31 : x_30.toInt = (iv 62 j_12 10).toInt := by rw [e_31, hF1 62 j_12 10 (by decide)]
                have h60 := rc_60 hG0 pre2 hb_14 hj6 hF1 e_31 (by omega)
                refine lv_iload_n hx hb dX10_reach_63 rfl (lv_at hl 3 rfl) ?_
                refine b_icmp_ge (tgt := 70) hx hb dX10_reach_64 (by decide) (fun c_32 => ?_) (fun c_32 => ?_)
                ·
                  refine lv_aload_n hx hb dX10_reach_70 rfl (lv_at hl 1 rfl) ?_
                  refine g_57_3 C hU hG (h1_57 hG) fl_X10_21 dX10_reach_71 ?_
                  refine lv_iload hx hb dX10_reach_74 (lv_at hl 5 rfl) ?_
                  refine lv_iconst (v := 1) hx hb dX10_reach_76 (by decide) ?_
                  have hFb := hF1
                  have ivb := i6_4
                  refine s_60 C hU hS (h1_60 hG) (x := l5_2) (by omega) (by omega) (by omega) (by omega) dX10_reach_77 (fun iv_33 H locs ei_34 hU hS => ?_)
                  have hG : GI al iv_33 rv_4 := by rw [ei_34]; exact hG.puti (show _ ∧ _ from ⟨show (0 : Int) ≤ _ by omega, show _ ≤ (1 : Int) by omega⟩) (nsA (by decide) _)
                  have hF1 : FR ([60, 61], []) iv iv_33 := by rw [ei_34]; exact hF1.put (Or.inl (by decide))
                  refine lv_aload_n hx hb dX10_reach_78 rfl (lv_at hl 1 rfl) ?_
                  refine g_57_4 C hU hG (h1_57 hG) fl_X10_25 dX10_reach_79 ?_
                  refine lv_iload hx hb dX10_reach_82 (lv_at hl 4 rfl) ?_
                  refine lv_aload hx hb dX10_reach_84 (lv_at hl 0 rfl) ?_
                  refine s_61 C hU hS (h1_61 hG) hb_14 (x := l4_1) (by omega) (by omega) dX10_reach_86 (fun rv_35 H locs er_36 hU hS => ?_)
                  have hG : GI al iv_33 rv_35 := by rw [er_36]; exact hG.putr rfl hb_14 (nsA (by decide) _)
                  have hF2 : FR ([60, 61], []) rv rv_35 := by rw [er_36]; exact hF2.put (Or.inl (by decide))
                  obtain ⟨x_37, e_38⟩ : ∃ y : Int32, y = l4_1 + 1 := ⟨_, rfl⟩
                  have te_38 : x_37.toInt = (l4_1 : Int32).toInt + (1 : Int32).toInt := by rw [e_38]; exact fb_addI (by omega) (by omega)
                  refine lv_iinc (v := x_37) (lv' := [(4, .int x_37), (6, .ref (al.2 62 j_12)), (0, .ref (al.2 57 0)), (2, .ref (al.2 56 pi)), (3, .int time), (5, .int l5_2)]) hx hb dX10_reach_87 hl (k := 4) rfl (by rw [e_38]; rfl) (by decide) rfl (fun ls hl => ?_)
                  exact J_90 x_37 _ _ _ _ _ (lv_sub hl [2, 3, 4, 5, 0] rfl) hG hF1 hF2 hU hS (by omega) (by omega) (by first | exact i6_3 | exact nn_put i6_3 er_36 (by omega) (by omega)) (by first | exact ri_put i6_4 ei_34 er_36 hj6 (by omega) (by omega) (by omega) (by omega) ⟨by omega, by omega, by omega⟩ (by omega) | exact ri_keep i6_4 (by omega) (by omega) (by omega))
                ·
                  refine lv_goto (tgt := 90) hx hb dX10_reach_67 (by decide) ?_
                  exact J_90 l4_1 _ _ _ _ _ (lv_sub hl [1, 2, 3, 5, 4] rfl) hG hF1 hF2 hU hS (by omega) (by omega) (by first | exact i6_3 | exact nn_put i6_3 True.intro (by omega) (by omega)) (by first | exact ri_put i6_4 True.intro True.intro hj6 (by omega) (by omega) (by omega) (by omega) ⟨by omega, by omega, by omega⟩ (by omega) | exact ri_keep i6_4 (by omega) (by omega) (by omega))
  exact J_6 _ fd 0 _ _ _ _ _ (lv_sub hl [2, 4, 5, 1, 0] rfl) hG hF1 hF2 hU hS (by omega) (by omega) (by omega) (by first | exact pre1 | exact i90_2) (by first | exact ri_up (by omega) (by omega) i90_3 | exact ri_0 pre3) (Nat.lt_succ_self _)
set_option maxHeartbeats 4000000 in
set_option maxRecDepth 100000 in
theorem c_X10_soonestBy_x {l : Launch} {D : va_G} {cA : FieldType → ClassId} {sz : Nat} {al : Al} {iv : Iv} {rv : Rv} (hG : GI al iv rv) (pi : Nat) (hpi : pi < al.1 56) (time : Int32) (pj : Nat) (hpj : pj < al.1 56) (conn : Int32) (pre0 : BL iv rv) (pre1 : Coff iv rv) (pre2 : conn = iv 15 0 2) : Met l yX10_soonestBy (wd yX10_soonestBy cX10_soonestBy 9 (some .int)) (rm 1) (PcW D cA sz al iv rv [.ref (al.2 57 0), .ref (al.2 56 pi), .int time, .ref (al.2 56 pj), .int conn]) (QI D cA sz al (fI al ([60, 61], []) iv rv (fun r iv' rv' => r = sbN iv (Rch iv pi time.toInt) pj (iv 0 0 6).toNatClampNeg))) 0 0 (Aq sz) := by
  refine mk_i (by decide) (Nat.le_of_ble_eq_true rfl) rfl ?_
  intro p e s m args below meth c ls Q H locs C hU hS hl hret
  have hx := C.1.1
  have hb := C.1.2.1
  have hl : lv_has ls 9 [(0, .ref (al.2 57 0)), (1, .ref (al.2 56 pi)), (2, .int time), (3, .ref (al.2 56 pj)), (4, .int conn)] := hl
  have hG0 := hG
  have n57 : (iv 57 0 1).toInt = al.1 62 := hG.2.2.2.1.2
  have hn6 := congrArg Int32.toInt pre0.1.1
  have tcon := congrArg Int32.toInt pre2
  have hF1 : FR ([60, 61], []) iv iv := FR.rf
  have hF2 : FR ([60, 61], []) rv rv := FR.rf
  have km9 : ((-9) : Int32).toInt = -9 := by decide
  have k0 : (0 : Int32).toInt = 0 := by decide
  have k1 : (1 : Int32).toInt = 1 := by decide
  have k40 : (40 : Int32).toInt = 40 := by decide
  refine lv_iconst (v := 0) hx hb dX10_soonestBy_0 (by decide) ?_
  refine lv_istore (lv' := [(5, .int 0), (0, .ref (al.2 57 0)), (1, .ref (al.2 56 pi)), (2, .int time), (3, .ref (al.2 56 pj)), (4, .int conn)]) hx hb dX10_soonestBy_1 hl (by decide) rfl (fun ls hl => ?_)
  have J_3 : ∀ (n_3 : Nat) (l5_1 : Int32) (iv_2 : Iv) (rv_3 : Rv) (H : Heap) (locs : List Loc) (ls : Array Slot), lv_has ls 9 [(0, .ref (al.2 57 0)), (1, .ref (al.2 56 pi)), (2, .int time), (3, .ref (al.2 56 pj)), (4, .int conn), (5, .int l5_1)] → GI al iv_2 rv_3 → FR ([60, 61], []) iv iv_2 → FR ([60, 61], []) rv rv_3 → UW D cA sz al iv_2 rv_3 H → va_S (Aq sz) s.heap H locs → (0 ≤ l5_1.toInt ∧ l5_1.toInt ≤ 40) → (∀ k : Nat, (k : Int) < l5_1.toInt → (iv_2 60 0 k).toInt = 0) → (40 - l5_1.toInt).toNat < n_3 → W p l e (rm 1) s m args below meth c H locs 0 0 Q (F0 m 3 ls []) := by
    intro n_3
    induction n_3 with
    | zero =>
      intro l5_1 iv_2 rv_3 H locs ls hl hG hF1 hF2 hU hS i3_0 i3_1 hm_3
      exact absurd hm_3 (Nat.not_lt_zero _)
    | succ n_3 ih_3 =>
      intro l5_1 iv_2 rv_3 H locs ls hl hG hF1 hF2 hU hS i3_0 i3_1 hm_3
      refine lv_iload hx hb dX10_soonestBy_3 (lv_at hl 5 rfl) ?_
      refine lv_aload_n hx hb dX10_soonestBy_5 rfl (lv_at hl 0 rfl) ?_
      refine g_57_1 C hU hG (h1_57 hG) fl_X10_28 dX10_soonestBy_6 (fun x_4 e_5 le_5 ue_5 => ?_)
      have te_5 := congrArg Int32.toInt e_5
      have ne_5 : x_4.toInt = (iv 57 0 1).toInt := by rw [e_5, hF1 57 0 1 (by decide)]
      refine b_icmp_ge (tgt := 26) hx hb dX10_soonestBy_9 (by decide) (fun c_6 => ?_) (fun c_6 => ?_)
      ·
        have hFz := hF1
        have hz60 : ∀ k : Nat, (k : Int) < (iv 57 0 1).toInt → (iv_2 60 0 k).toInt = 0 := fun k hk => i3_1 k (by omega)
        have hBLz := bl_kp hG0 pre0 hF1 hF2
        refine lv_aload_n hx hb dX10_soonestBy_26 rfl (lv_at hl 0 rfl) ?_
        refine lv_iconst (v := 0) hx hb dX10_soonestBy_27 (by decide) ?_
        refine lv_aload_n hx hb dX10_soonestBy_28 rfl (lv_at hl 1 rfl) ?_
        refine lv_iload_n hx hb dX10_soonestBy_29 rfl (lv_at hl 2 rfl) ?_
        refine q_fi (q_runV (t := 57) (i := 0) (As := [.int 0, .ref (al.2 56 pi), .int time]) (rest := []) C hU (c_X10_reach_x hG 0 (pi) hpi time (by omega) (fun k hk => by exfalso; omega) (hBLz) (qu_0 hFz hz60)) vm_X10_reach ml_X10_94 k_57.1 (hc := rfl) rfl (h1_57 hG) hl.1 rfl rfl (Nat.le_of_ble_eq_true rfl) dX10_soonestBy_30 rfl rfl ⟨Nat.le_of_ble_eq_true rfl, Nat.le_of_ble_eq_true rfl⟩ ⟨Nat.le_refl _, Nat.le_refl _⟩) hS (fun x_12 iv_8 rv_9 H locs hG fa_10 fb_11 hp_7 hU hS => ?_)
        have hF1 := hF1.tr (m := ([60, 61], [])) fa_10 (by decide)
        have hF2 := hF2.tr (m := ([60, 61], [])) fb_11 (by decide)
        refine lv_istore (lv' := [(5, .int x_12), (0, .ref (al.2 57 0)), (1, .ref (al.2 56 pi)), (2, .int time), (3, .ref (al.2 56 pj)), (4, .int conn)]) hx hb dX10_soonestBy_33 hl (by decide) rfl (fun ls hl => ?_)
        refine lv_bipush (v := (-9)) hx hb dX10_soonestBy_35 (by decide) ?_
        refine lv_istore (lv' := [(6, .int (-9)), (5, .int x_12), (0, .ref (al.2 57 0)), (1, .ref (al.2 56 pi)), (2, .int time), (3, .ref (al.2 56 pj)), (4, .int conn)]) hx hb dX10_soonestBy_37 hl (by decide) rfl (fun ls hl => ?_)
        refine lv_iconst (v := 0) hx hb dX10_soonestBy_39 (by decide) ?_
        refine lv_istore (lv' := [(7, .int 0), (6, .int (-9)), (5, .int x_12), (0, .ref (al.2 57 0)), (1, .ref (al.2 56 pi)), (2, .int time), (3, .ref (al.2 56 pj)), (4, .int conn)]) hx hb dX10_soonestBy_40 hl (by decide) rfl (fun ls hl => ?_)
        have J_42 : ∀ (n_42 : Nat) (l5_13 : Int32) (l6_14 : Int32) (l7_15 : Int32) (iv_16 : Iv) (rv_17 : Rv) (H : Heap) (locs : List Loc) (ls : Array Slot), lv_has ls 9 [(0, .ref (al.2 57 0)), (3, .ref (al.2 56 pj)), (4, .int conn), (5, .int l5_13), (6, .int l6_14), (7, .int l7_15)] → GI al iv_16 rv_17 → FR ([60, 61], []) iv iv_16 → FR ([60, 61], []) rv rv_17 → UW D cA sz al iv_16 rv_17 H → va_S (Aq sz) s.heap H locs → (0 ≤ l5_13.toInt ∧ l5_13.toInt ≤ 40) → (-9 ≤ l6_14.toInt ∧ l6_14.toInt ≤ 2147483647) → (0 ≤ l7_15.toInt ∧ l7_15.toInt ≤ 40) → (∀ k : Nat, (k : Int) < l5_13.toInt → ∃ j, rv_17 61 0 k = some j) → SI iv iv_16 rv_17 pi time.toInt pj l5_13 l6_14 l7_15.toNatClampNeg → l7_15.toInt ≤ l5_13.toInt → (40 - l7_15.toInt).toNat < n_42 → W p l e (rm 1) s m args below meth c H locs 0 0 Q (F0 m 42 ls []) := by
          intro n_42
          induction n_42 with
          | zero =>
            intro l5_13 l6_14 l7_15 iv_16 rv_17 H locs ls hl hG hF1 hF2 hU hS i42_0 i42_1 i42_2 i42_3 i42_4 i42_5 hm_42
            exact absurd hm_42 (Nat.not_lt_zero _)
          | succ n_42 ih_42 =>
            intro l5_13 l6_14 l7_15 iv_16 rv_17 H locs ls hl hG hF1 hF2 hU hS i42_0 i42_1 i42_2 i42_3 i42_4 i42_5 hm_42
            have hBL := bl_kp hG0 pre0 hF1 hF2
            refine lv_iload hx hb dX10_soonestBy_42 (lv_at hl 5 rfl) ?_
            refine lv_iload hx hb dX10_soonestBy_44 (lv_at hl 3 rfl) ?_
            refine b_icmp_ge (tgt := 125) hx hb dX10_soonestBy_46 (by decide) (fun c_18 => ?_) (fun c_18 => ?_)
            ·
              refine lv_iload hx hb dX10_soonestBy_125 (lv_at hl 4 rfl) ?_
              exact hret (⟨hG, hF1, hF2, sy_end hG0 pre0 i42_4 ⟨⟨by omega, by omega⟩, congrArg Int32.toInt (hF1 57 0 1 (by decide))⟩⟩) hU hS dX10_soonestBy_127
            ·
              refine lv_iload hx hb dX10_soonestBy_49 (lv_at hl 5 rfl) ?_
              refine lv_bipush (v := 40) hx hb dX10_soonestBy_51 (by decide) ?_
              refine b_icmp_ge (tgt := 125) hx hb dX10_soonestBy_53 (by decide) (fun c_19 => ?_) (fun c_19 => ?_)
              ·
                refine lv_iload hx hb dX10_soonestBy_125 (lv_at hl 4 rfl) ?_
                exact hret (⟨hG, hF1, hF2, sy_end hG0 pre0 i42_4 ⟨⟨by omega, by omega⟩, congrArg Int32.toInt (hF1 57 0 1 (by decide))⟩⟩) hU hS dX10_soonestBy_127
              ·
                refine lv_aload_n hx hb dX10_soonestBy_56 rfl (lv_at hl 0 rfl) ?_
                refine g_57_4 C hU hG (h1_57 hG) fl_X10_25 dX10_soonestBy_57 ?_
                refine lv_iload hx hb dX10_soonestBy_60 (lv_at hl 5 rfl) ?_
                refine a_61 C hU hG (h1_61 hG) (x := l7_15) (by omega) (by omega) dX10_soonestBy_62 (fun r_20 er_21 hb_22 => ?_)
                obtain ⟨j_23, ej_24⟩ : ∃ j, r_20 = some j := (i42_3 _ (by have := ix_nat (x := l7_15) (by omega); omega)).imp (fun _ h => er_21.trans h)
                subst ej_24
                have hl : lv_has ls 9 [(0, .ref (al.2 57 0)), (3, .ref (al.2 56 pj)), (4, .int conn), (5, .int l5_13), (6, .int l6_14), (7, .int l7_15)] := hl
                have hb_25 : j_23 < al.1 62 := hb_22 j_23 rfl
                refine lv_astore (lv' := [(8, .ref (al.2 62 j_23)), (0, .ref (al.2 57 0)), (3, .ref (al.2 56 pj)), (4, .int conn), (5, .int l5_13), (6, .int l6_14), (7, .int l7_15)]) hx hb dX10_soonestBy_63 hl (by decide) rfl (fun ls hl => ?_)
                have hb8 := hb_25
                have hj8 := er_21
                have hn8 := sy_q i42_4 hj8 (by omega)
                have hra8 := (rt_x hG0 pre0 hb_25 (sy_lg hG0 pre0 hb_25 i42_4 hn8)).2.1
                refine lv_aload hx hb dX10_soonestBy_65 (lv_at hl 0 rfl) ?_
                refine g_62_2 C hU hG hb_25 fl_X10_52 dX10_soonestBy_67 (fun j_26 ej_27 hb_28 => ?_)
                have nej_27 : rv 62 j_23 2 = some j_26 := (hF2 62 j_23 2 (by decide)).symm.trans ej_27
                have hto := lf_to hG0 pre0.1.2.1 hb_25 rfl nej_27
                refine lv_aload_n hx hb dX10_soonestBy_70 rfl (lv_at hl 2 rfl) ?_
                have J_98 : ∀ (l6_29 : Int32) (ls : Array Slot), lv_has ls 9 [(0, .ref (al.2 57 0)), (3, .ref (al.2 56 pj)), (4, .int conn), (5, .int l5_13), (7, .int l7_15), (8, .ref (al.2 62 j_23)), (6, .int l6_29)] → (-9 ≤ l6_29.toInt ∧ l6_29.toInt ≤ 2147483647) → mnQ iv rv_17 pj l6_29 (l7_15.toNatClampNeg + 1) → W p l e (rm 1) s m args below meth c H locs 0 0 Q (F0 m 98 ls []) := by
                  intro l6_29 ls hl i98_0 i98_1
                  have hFl := hF1
                  have hGl := hG
                  refine lv_aload_n hx hb dX10_soonestBy_98 rfl (lv_at hl 0 rfl) ?_
                  refine lv_iload hx hb dX10_soonestBy_99 (lv_at hl 3 rfl) ?_
                  refine lv_aload hx hb dX10_soonestBy_101 (lv_at hl 5 rfl) ?_
                  refine g_62_2 C hU hG hb_25 fl_X10_52 dX10_soonestBy_103 (fun j_30 ej_31 hb_32 => ?_)
                  have nej_31 : rv 62 j_23 2 = some j_30 := (hF2 62 j_23 2 (by decide)).symm.trans ej_31
                  have hto2 := lf_to hG0 pre0.1.2.1 hb_25 rfl nej_31
                  refine lv_aload hx hb dX10_soonestBy_106 (lv_at hl 5 rfl) ?_
                  refine g_62_11 C hU hG hb_25 fl_X10_98 dX10_soonestBy_108 (fun x_33 e_34 => ?_)
                  have te_34 := congrArg Int32.toInt e_34
                  have ne_34 : x_33.toInt = (iv 62 j_23 11).toInt := by rw [e_34, hF1 62 j_23 11 (by decide)]
                  have h108 := e_34.trans ((hF1 62 _ 11 (by decide)).trans hra8)
                  refine lv_iload hx hb dX10_soonestBy_111 (lv_at hl 2 rfl) ?_
                  refine lv_iadd hx hb dX10_soonestBy_113 ?_
                  refine lv_topi (fun x_35 e_36 => ?_)
                  refine q_fi (q_runV (t := 57) (i := 0) (As := [.int l5_13, .ref (al.2 56 j_30), .int x_35]) (rest := []) C hU (c_X10_reach_x hG l5_13 (j_30) hb_32 x_35 (by omega) (i42_3) (hBL) (i42_4.1)) vm_X10_reach ml_X10_94 k_57.1 (hc := rfl) rfl (h1_57 hG) hl.1 rfl rfl (Nat.le_of_ble_eq_true rfl) dX10_soonestBy_114 rfl rfl ⟨Nat.le_of_ble_eq_true rfl, Nat.le_of_ble_eq_true rfl⟩ ⟨Nat.le_refl _, Nat.le_refl _⟩) hS (fun x_42 iv_38 rv_39 H locs hG fa_40 fb_41 hp_37 hU hS => ?_)
                  have hF1 := hF1.tr (m := ([60, 61], [])) fa_40 (by decide)
                  have hF2 := hF2.tr (m := ([60, 61], [])) fb_41 (by decide)
                  refine lv_istore (lv' := [(5, .int x_42), (0, .ref (al.2 57 0)), (3, .ref (al.2 56 pj)), (4, .int conn), (7, .int l7_15), (8, .ref (al.2 62 j_23)), (6, .int l6_29)]) hx hb dX10_soonestBy_117 hl (by decide) rfl (fun ls hl => ?_)
                  obtain ⟨x_43, e_44⟩ : ∃ y : Int32, y = l7_15 + 1 := ⟨_, rfl⟩
                  have te_44 : x_43.toInt = (l7_15 : Int32).toInt + (1 : Int32).toInt := by rw [e_44]; exact fb_addI (by omega) (by omega)
                  refine lv_iinc (v := x_43) (lv' := [(7, .int x_43), (5, .int x_42), (0, .ref (al.2 57 0)), (3, .ref (al.2 56 pj)), (4, .int conn), (8, .ref (al.2 62 j_23)), (6, .int l6_29)]) hx hb dX10_soonestBy_119 hl (k := 4) rfl (by rw [e_44]; rfl) (by decide) rfl (fun ls hl => ?_)
                  refine lv_goto (tgt := 42) hx hb dX10_soonestBy_122 (by decide) ?_
                  exact ih_42 x_42 l6_29 x_43 _ _ _ _ _ (lv_sub hl [2, 3, 4, 1, 6, 0] rfl) hG hF1 hF2 hU hS (by omega) (by omega) (by omega) (by first | exact hp_37.2.2.1.nn | exact hp_7.2.2.1.nn) (by first | exact sy_step hG0 pre0 pre1 hFl hb8 i42_4 hj8 hn8.2 hp_37.2.2 hto2 i98_1 h108 e_36 tcon ⟨by omega, by omega, by omega⟩ | exact sy_0 pre0 hp_7.2.2 hFz hz60) (by omega) (by omega)
                refine b_acmp_ne (tgt := 98) hx hb hU hb_28 hpj dX10_soonestBy_71 (by decide) (fun c_45 => ?_) (fun c_45 => ?_)
                ·
                  exact J_98 l6_14 _ (lv_sub hl [1, 2, 3, 4, 6, 0, 5] rfl) (by omega) (by first | exact mn_put i42_4.2.2.2.2 hj8 (by omega) h91 True.intro | exact mn_keep i42_4.2.2.2.2 hj8 (by omega))
                ·
                  refine lv_iload hx hb dX10_soonestBy_74 (lv_at hl 5 rfl) ?_
                  refine lv_bipush (v := (-9)) hx hb dX10_soonestBy_76 (by decide) ?_
                  have J_91 : ∀ (ls : Array Slot), lv_has ls 9 [(0, .ref (al.2 57 0)), (3, .ref (al.2 56 pj)), (4, .int conn), (5, .int l5_13), (7, .int l7_15), (8, .ref (al.2 62 j_23))] → (l6_14.toInt = -9 ∨ (raF iv j_23).toInt < l6_14.toInt) → W p l e (rm 1) s m args below meth c H locs 0 0 Q (F0 m 91 ls []) := by
                    intro ls hl i91_0
                    refine lv_aload hx hb dX10_soonestBy_91 (lv_at hl 5 rfl) ?_
                    refine g_62_11 C hU hG hb_25 fl_X10_98 dX10_soonestBy_93 (fun x_46 e_47 => ?_)
                    have te_47 := congrArg Int32.toInt e_47
                    have ne_47 : x_46.toInt = (iv 62 j_23 11).toInt := by rw [e_47, hF1 62 j_23 11 (by decide)]
                    have h91 := e_47.trans ((hF1 62 _ 11 (by decide)).trans hra8)
                    have t91 := congrArg Int32.toInt h91
                    have g91 := ra_ge iv j_23
                    have u91 := fb_rng (raF iv j_23)
                    refine lv_istore (lv' := [(6, .int x_46), (0, .ref (al.2 57 0)), (3, .ref (al.2 56 pj)), (4, .int conn), (5, .int l5_13), (7, .int l7_15), (8, .ref (al.2 62 j_23))]) hx hb dX10_soonestBy_96 hl (by decide) rfl (fun ls hl => ?_)
                    exact J_98 x_46 _ (lv_sub hl [1, 2, 3, 4, 5, 6, 0] rfl) (by omega) (by first | exact mn_put i42_4.2.2.2.2 hj8 (by omega) h91 i91_0 | exact mn_keep i42_4.2.2.2.2 hj8 (by omega))
                  refine b_icmp_eq (tgt := 91) hx hb dX10_soonestBy_78 (by decide) (fun c_48 => ?_) (fun c_48 => ?_)
                  ·
                    exact J_91 _ (lv_sub hl [1, 2, 3, 4, 6, 0] rfl) (by omega)
                  ·
                    refine lv_aload hx hb dX10_soonestBy_81 (lv_at hl 0 rfl) ?_
                    refine g_62_11 C hU hG hb_25 fl_X10_98 dX10_soonestBy_83 (fun x_49 e_50 => ?_)
                    have te_50 := congrArg Int32.toInt e_50
                    have ne_50 : x_49.toInt = (iv 62 j_23 11).toInt := by rw [e_50, hF1 62 j_23 11 (by decide)]
                    have h83 := e_50.trans ((hF1 62 _ 11 (by decide)).trans hra8)
                    have t83 := congrArg Int32.toInt h83
                    refine lv_iload hx hb dX10_soonestBy_86 (lv_at hl 5 rfl) ?_
                    refine b_icmp_ge (tgt := 98) hx hb dX10_soonestBy_88 (by decide) (fun c_51 => ?_) (fun c_51 => ?_)
                    ·
                      exact J_98 l6_14 _ (lv_sub hl [1, 2, 3, 4, 6, 0, 5] rfl) (by omega) (by first | exact mn_put i42_4.2.2.2.2 hj8 (by omega) h91 i91_0 | exact mn_keep i42_4.2.2.2.2 hj8 (by omega))
                    ·
                      exact J_91 _ (lv_sub hl [1, 2, 3, 4, 6, 0] rfl) (by omega)
        exact J_42 _ x_12 (-9) 0 _ _ _ _ _ (lv_sub hl [3, 6, 7, 2, 1, 0] rfl) hG hF1 hF2 hU hS (by omega) (by omega) (by omega) (by first | exact True.intro.2.2.1.nn | exact hp_7.2.2.1.nn) (by first | exact sy_step hG0 pre0 pre1 hFl hb8 i42_4 hj8 hn8.2 True.intro.2.2 hto2 i98_1 h108 True.intro tcon ⟨by omega, by omega, by omega⟩ | exact sy_0 pre0 hp_7.2.2 hFz hz60) (by omega) (Nat.lt_succ_self _)
      ·
        refine lv_aload_n hx hb dX10_soonestBy_12 rfl (lv_at hl 0 rfl) ?_
        refine g_57_3 C hU hG (h1_57 hG) fl_X10_21 dX10_soonestBy_13 ?_
        refine lv_iload hx hb dX10_soonestBy_16 (lv_at hl 5 rfl) ?_
        refine lv_iconst (v := 0) hx hb dX10_soonestBy_18 (by decide) ?_
        refine s_60 C hU hS (h1_60 hG) (x := l5_1) (by omega) (by omega) (by omega) (by omega) dX10_soonestBy_19 (fun iv_52 H locs ei_53 hU hS => ?_)
        have hG : GI al iv_52 rv_3 := by rw [ei_53]; exact hG.puti (show _ ∧ _ from ⟨show (0 : Int) ≤ _ by omega, show _ ≤ (1 : Int) by omega⟩) (nsA (by decide) _)
        have hF1 : FR ([60, 61], []) iv iv_52 := by rw [ei_53]; exact hF1.put (Or.inl (by decide))
        obtain ⟨x_54, e_55⟩ : ∃ y : Int32, y = l5_1 + 1 := ⟨_, rfl⟩
        have te_55 : x_54.toInt = (l5_1 : Int32).toInt + (1 : Int32).toInt := by rw [e_55]; exact fb_addI (by omega) (by omega)
        refine lv_iinc (v := x_54) (lv' := [(5, .int x_54), (0, .ref (al.2 57 0)), (1, .ref (al.2 56 pi)), (2, .int time), (3, .ref (al.2 56 pj)), (4, .int conn)]) hx hb dX10_soonestBy_20 hl (k := 5) rfl (by rw [e_55]; rfl) (by decide) rfl (fun ls hl => ?_)
        refine lv_goto (tgt := 3) hx hb dX10_soonestBy_23 (by decide) ?_
        exact ih_3 x_54 _ _ _ _ _ (lv_sub hl [1, 2, 3, 4, 5, 0] rfl) hG hF1 hF2 hU hS (by omega) (by first | exact sy_z i3_1 ei_53 (by omega) (by omega) | (intro k hk; exfalso; omega)) (by omega)
  exact J_3 _ 0 _ _ _ _ _ (lv_sub hl [1, 2, 3, 4, 5, 0] rfl) hG hF1 hF2 hU hS (by omega) (by first | exact sy_z i3_1 True.intro (by omega) (by omega) | (intro k hk; exfalso; omega)) (Nat.lt_succ_self _)
set_option maxHeartbeats 4000000 in
set_option maxRecDepth 100000 in
theorem c_X11_soonestOf_x {l : Launch} {D : va_G} {cA : FieldType → ClassId} {sz : Nat} {al : Al} {iv : Iv} {rv : Rv} (hG : GI al iv rv) (ti : Nat) (hti : ti < al.1 65) (pre0 : BS iv rv) : Met l yX11_soonestOf (wd yX11_soonestOf cX11_soonestOf 6 (some .int)) (rm 2) (PcW D cA sz al iv rv [.ref (al.2 49 0), .ref (al.2 65 ti)]) (QI D cA sz al (fI al ([60, 61], []) iv rv (fun r iv' rv' => r = soF iv ti))) 0 0 (Aq sz) := by
  refine mk_i (by decide) (Nat.le_of_ble_eq_true rfl) rfl ?_
  intro p e s m args below meth c ls Q H locs C hU hS hl hret
  have hx := C.1.1
  have hb := C.1.2.1
  have hl : lv_has ls 6 [(0, .ref (al.2 49 0)), (1, .ref (al.2 65 ti))] := hl
  have hG0 := hG
  have htk := tk_k hG pre0.1 hti
  have h19 : (iv 19 0 ti).toInt ≤ 40 := by rw [htk.1]; have := sz4 hG hti; omega
  have c19 := congrArg Int32.toInt htk.1
  have hF1 : FR ([60, 61], []) iv iv := FR.rf
  have hF2 : FR ([60, 61], []) rv rv := FR.rf
  have km9 : ((-9) : Int32).toInt = -9 := by decide
  have k1 : (1 : Int32).toInt = 1 := by decide
  have k2 : (2 : Int32).toInt = 2 := by decide
  refine lv_aload_n hx hb dX11_soonestOf_0 rfl (lv_at hl 0 rfl) ?_
  refine g_49_7 C hU hG (h1_49 hG) fl_X11_67 dX11_soonestOf_1 ?_
  refine lv_iconst (v := 2) hx hb dX11_soonestOf_4 (by decide) ?_
  refine a_50 C hU hG (h1_50 hG) (x := 2) (by omega) (by omega) dX11_soonestOf_5 (fun x_1 e_2 le_2 ue_2 => ?_)
  have te_2 := congrArg Int32.toInt e_2
  refine lv_istore_n (lv' := [(2, .int x_1), (0, .ref (al.2 49 0)), (1, .ref (al.2 65 ti))]) hx hb dX11_soonestOf_6 rfl hl (by decide) rfl (fun ls hl => ?_)
  refine lv_aload_n hx hb dX11_soonestOf_7 rfl (lv_at hl 2 rfl) ?_
  refine lv_iload_n hx hb dX11_soonestOf_8 rfl (lv_at hl 0 rfl) ?_
  refine q_pi (q_runV (t := 65) (i := ti) (As := [.int x_1]) (rest := []) C hU (c_X8_missedPlace_x hG (ti) hti x_1 (pre0.1) (by rw [e_2]; exact (pre0.1.1.1.2.2 2 (by decide)).symm)) vm_X8_missedPlace ml_X11_208 k_65.1 (hc := rfl) rfl hti hl.1 rfl rfl (Nat.le_of_ble_eq_true rfl) dX11_soonestOf_9 rfl rfl ⟨Nat.le_of_ble_eq_true rfl, Nat.le_of_ble_eq_true rfl⟩ ⟨Nat.le_refl _, Nat.le_refl _⟩) hS (fun x_4 H locs hp_3 hU hS => ?_)
  refine lv_istore_n (lv' := [(3, .int x_4), (2, .int x_1), (0, .ref (al.2 49 0)), (1, .ref (al.2 65 ti))]) hx hb dX11_soonestOf_12 rfl hl (by decide) rfl (fun ls hl => ?_)
  have hmp := hp_3.2.1
  have tmp := mpx_t hmp
  refine lv_iload_n hx hb dX11_soonestOf_13 rfl (lv_at hl 0 rfl) ?_
  refine lv_bipush (v := (-9)) hx hb dX11_soonestOf_14 (by decide) ?_
  refine b_icmp_ne (tgt := 27) hx hb dX11_soonestOf_16 (by decide) (fun c_5 => ?_) (fun c_5 => ?_)
  ·
    refine lv_aload_n hx hb dX11_soonestOf_27 rfl (lv_at hl 3 rfl) ?_
    refine g_65_3 C hU hG hti fl_X11_350 dX11_soonestOf_28 (fun hb_6 => ?_)
    refine lv_iload_n hx hb dX11_soonestOf_31 rfl (lv_at hl 0 rfl) ?_
    refine a_66 C hU hG hb_6 (x := x_4) (by omega) (by omega) dX11_soonestOf_32 (fun r_7 er_8 hb_9 => ?_)
    obtain ⟨j_10, ej_11⟩ : ∃ j, r_7 = some j := (tleg hG hti (by omega) (by omega)).imp (fun _ h => er_8.trans h)
    subst ej_11
    have hl : lv_has ls 6 [(3, .int x_4), (2, .int x_1), (0, .ref (al.2 49 0)), (1, .ref (al.2 65 ti))] := hl
    have hb_12 : j_10 < al.1 62 := hb_9 j_10 rfl
    refine lv_astore (lv' := [(4, .ref (al.2 62 j_10)), (3, .int x_4), (2, .int x_1), (0, .ref (al.2 49 0)), (1, .ref (al.2 65 ti))]) hx hb dX11_soonestOf_33 hl (by decide) rfl (fun ls hl => ?_)
    have hw4 := tk_ix hG0 pre0.1 hti er_8 (by omega) (by omega)
    have hms : x_4 = msF iv ti := tmp.elim (fun z => by omega) (fun z => z.1)
    have tms := congrArg Int32.toInt hms
    refine lv_iload_n hx hb dX11_soonestOf_35 rfl (lv_at hl 1 rfl) ?_
    have J_58 : ∀ (v_13 : Int32) (ls : Array Slot), lv_has ls 6 [(0, .ref (al.2 49 0)), (1, .ref (al.2 65 ti)), (2, .int x_1), (4, .ref (al.2 62 j_10))] → v_13.toInt = stT iv ti → W p l e (rm 2) s m args below meth c H locs 0 0 Q (F0 m 58 ls [.int v_13]) := by
      intro v_13 ls hl i58_0
      refine lv_istore (lv' := [(5, .int v_13), (0, .ref (al.2 49 0)), (1, .ref (al.2 65 ti)), (2, .int x_1), (4, .ref (al.2 62 j_10))]) hx hb dX11_soonestOf_58 hl (by decide) rfl (fun ls hl => ?_)
      refine lv_aload_n hx hb dX11_soonestOf_60 rfl (lv_at hl 1 rfl) ?_
      refine g_49_1 C hU hG (h1_49 hG) fl_X11_19 dX11_soonestOf_61 ?_
      refine lv_aload hx hb dX11_soonestOf_64 (lv_at hl 4 rfl) ?_
      refine g_62_1 C hU hG hb_12 fl_X11_354 dX11_soonestOf_66 (fun j_14 ej_15 hb_16 => ?_)
      have hfr := lf_fr hG0 pre0.1.1.1.2.1 hb_12 ej_15
      rw [hw4] at hfr
      refine lv_iload hx hb dX11_soonestOf_69 (lv_at hl 0 rfl) ?_
      refine lv_aload_n hx hb dX11_soonestOf_71 rfl (lv_at hl 2 rfl) ?_
      refine g_65_2 C hU hG hti fl_X11_343 dX11_soonestOf_72 (fun j_17 ej_18 hb_19 => ?_)
      have hth2 := sx_last htk ej_18
      have hb72 := hb_19
      refine g_62_2 C hU hG hb_19 fl_X11_358 dX11_soonestOf_75 (fun j_20 ej_21 hb_22 => ?_)
      have hto := lf_to hG0 pre0.1.1.1.2.1 hb72 rfl ej_21
      rw [hth2] at hto
      refine lv_iload_n hx hb dX11_soonestOf_78 rfl (lv_at hl 3 rfl) ?_
      refine q_fi (q_runV (t := 57) (i := 0) (As := [.ref (al.2 56 j_14), .int v_13, .ref (al.2 56 j_20), .int x_1]) (rest := []) C hU (c_X10_soonestBy_x hG (j_14) hb_16 v_13 (j_20) hb_22 x_1 (pre0.1.1) (pre0.2) (by rw [e_2]; exact (pre0.1.1.1.2.2 2 (by decide)).symm)) vm_X10_soonestBy ml_X11_361 k_57.1 (hc := rfl) rfl (h1_57 hG) hl.1 rfl rfl (Nat.le_of_ble_eq_true rfl) dX11_soonestOf_79 rfl rfl ⟨Nat.le_of_ble_eq_true rfl, Nat.le_of_ble_eq_true rfl⟩ ⟨Nat.le_refl _, Nat.le_refl _⟩) hS (fun x_28 iv_24 rv_25 H locs hG fa_26 fb_27 hp_23 hU hS => ?_)
      have hF1 := hF1.tr (m := ([60, 61], [])) fa_26 (by decide)
      have hF2 := hF2.tr (m := ([60, 61], [])) fb_27 (by decide)
      exact hret (⟨hG, hF1, hF2, by unfold soF; rw [if_neg (by omega), hp_23, hfr, hto, i58_0, hms]⟩) hU hS dX11_soonestOf_82
    refine b_if_ne (tgt := 47) hx hb dX11_soonestOf_36 (by decide) (fun c_29 => ?_) (fun c_29 => ?_)
    ·
      refine lv_aload_n hx hb dX11_soonestOf_47 rfl (lv_at hl 4 rfl) ?_
      refine g_65_3 C hU hG hti fl_X11_350 dX11_soonestOf_48 (fun hb_30 => ?_)
      refine lv_iload_n hx hb dX11_soonestOf_51 rfl (lv_at hl 1 rfl) ?_
      refine lv_iconst (v := 1) hx hb dX11_soonestOf_52 (by decide) ?_
      refine lv_isub hx hb dX11_soonestOf_53 ?_
      refine lv_topi (fun x_31 e_32 => ?_)
      have te_32 : x_31.toInt = (x_4 : Int32).toInt - (1 : Int32).toInt := by rw [e_32]; exact fb_subI (by omega) (by omega)
      refine a_66 C hU hG hb_30 (x := x_31) (by omega) (by omega) dX11_soonestOf_54 (fun r_33 er_34 hb_35 => ?_)
      obtain ⟨j_36, ej_37⟩ : ∃ j, r_33 = some j := (tleg hG hti (by omega) (by omega)).imp (fun _ h => er_34.trans h)
      subst ej_37
      have hl : lv_has ls 6 [(4, .ref (al.2 62 j_10)), (3, .int x_4), (2, .int x_1), (0, .ref (al.2 49 0)), (1, .ref (al.2 65 ti))] := hl
      have hb_38 : j_36 < al.1 62 := hb_35 j_36 rfl
      have hw5 := tk_ix1 (x := x_4) hG0 pre0.1 hti er_34 (by omega) (by omega) (by omega)
      have hrt5 := rt_x hG0 pre0.1.1 hb_38 (sx_lg hG0 pre0.1 hb_38 hw5 hms (by omega) h19)
      refine g_62_11 C hU hG hb_38 fl_X11_347 dX11_soonestOf_55 (fun x_39 e_40 => ?_)
      have te_40 := congrArg Int32.toInt e_40
      have h55 := e_40.trans hrt5.2.1
      rw [hw5] at h55
      have t55 := congrArg Int32.toInt h55
      exact J_58 x_39 _ (lv_sub hl [3, 4, 2, 0] rfl) (by unfold stT; rw [← hms]; first | (rw [if_pos (by rw [clamp_n]; omega)]; omega) | (rw [if_neg (by rw [clamp_n]; omega)]; omega))
    ·
      refine lv_aload hx hb dX11_soonestOf_39 (lv_at hl 0 rfl) ?_
      refine g_62_5 C hU hG hb_12 fl_X11_177 dX11_soonestOf_41 (fun x_41 e_42 le_42 ue_42 => ?_)
      have te_42 := congrArg Int32.toInt e_42
      have z3 : x_4.toNatClampNeg = 0 := by rw [clamp_n]; omega
      rw [z3] at hw4
      have t41 := sx_lv hG0 pre0.1 hb_12 hw4 e_42
      refine lv_goto (tgt := 58) hx hb dX11_soonestOf_44 (by decide) ?_
      exact J_58 x_41 _ (lv_sub hl [3, 4, 2, 0] rfl) (by unfold stT; rw [← hms]; first | (rw [if_pos (by rw [clamp_n]; omega)]; omega) | (rw [if_neg (by rw [clamp_n]; omega)]; omega))
  ·
    refine lv_aload_n hx hb dX11_soonestOf_19 rfl (lv_at hl 3 rfl) ?_
    refine g_65_2 C hU hG hti fl_X11_343 dX11_soonestOf_20 (fun j_43 ej_44 hb_45 => ?_)
    have hth := sx_last htk ej_44
    refine g_62_11 C hU hG hb_45 fl_X11_347 dX11_soonestOf_23 (fun x_46 e_47 => ?_)
    have te_47 := congrArg Int32.toInt e_47
    have h23 := sx_ra hG0 pre0.1 e_47 hth (by omega) hti htk
    exact hret (⟨hG, hF1, hF2, by unfold soF; rw [if_pos (by omega)]; exact h23⟩) hU hS dX11_soonestOf_26
end
section
set_option maxHeartbeats 4000000 in
set_option maxRecDepth 100000 in
theorem c_X11_hoursOf_x {l : Launch} {D : va_G} {cA : FieldType → ClassId} {sz : Nat} {al : Al} {iv : Iv} {rv : Rv} (hG : GI al iv rv) (ti : Nat) (hti : ti < al.1 65) (pre0 : BS iv rv) : Met l yX11_hoursOf (wd yX11_hoursOf cX11_hoursOf 3 (some .int)) (rm 3) (PcW D cA sz al iv rv [.ref (al.2 49 0), .ref (al.2 65 ti)]) (QI D cA sz al (fI al ([60, 61], []) iv rv (fun r iv' rv' => r = hoF iv ti))) 0 0 (Aq sz) := by
  refine mk_i (by decide) (Nat.le_of_ble_eq_true rfl) rfl ?_
  intro p e s m args below meth c ls Q H locs C hU hS hl hret
  have hx := C.1.1
  have hb := C.1.2.1
  have hl : lv_has ls 3 [(0, .ref (al.2 49 0)), (1, .ref (al.2 65 ti))] := hl
  have hG0 := hG
  have htk := tk_k hG pre0.1 hti
  have hF1 : FR ([60, 61], []) iv iv := FR.rf
  have hF2 : FR ([60, 61], []) rv rv := FR.rf
  have km9 : ((-9) : Int32).toInt = -9 := by decide
  have k0 : (0 : Int32).toInt = 0 := by decide
  have k9999 : (9999 : Int32).toInt = 9999 := by decide
  refine lv_aload_n hx hb dX11_hoursOf_0 rfl (lv_at hl 0 rfl) ?_
  refine lv_aload_n hx hb dX11_hoursOf_1 rfl (lv_at hl 1 rfl) ?_
  refine q_fi (q_runV (t := 49) (i := 0) (As := [.ref (al.2 65 ti)]) (rest := []) C hU (c_X11_soonestOf_x hG (ti) hti (pre0)) vm_X11_soonestOf ml_X11_211 k_49.1 (hc := rfl) rfl (h1_49 hG) hl.1 rfl rfl (Nat.le_of_ble_eq_true rfl) dX11_hoursOf_2 rfl rfl ⟨Nat.le_of_ble_eq_true rfl, Nat.le_of_ble_eq_true rfl⟩ ⟨Nat.le_refl _, Nat.le_refl _⟩) hS (fun x_6 iv_2 rv_3 H locs hG fa_4 fb_5 hp_1 hU hS => ?_)
  have hF1 := hF1.tr (m := ([60, 61], [])) fa_4 (by decide)
  have hF2 := hF2.tr (m := ([60, 61], [])) fb_5 (by decide)
  refine lv_istore_n (lv' := [(2, .int x_6), (0, .ref (al.2 49 0)), (1, .ref (al.2 65 ti))]) hx hb dX11_hoursOf_5 rfl hl (by decide) rfl (fun ls hl => ?_)
  have hso := hp_1
  have tso := so_neg hso
  refine lv_iload_n hx hb dX11_hoursOf_6 rfl (lv_at hl 0 rfl) ?_
  refine lv_bipush (v := (-9)) hx hb dX11_hoursOf_7 (by decide) ?_
  refine b_icmp_ne (tgt := 18) hx hb dX11_hoursOf_9 (by decide) (fun c_7 => ?_) (fun c_7 => ?_)
  ·
    refine lv_iconst (v := 0) hx hb dX11_hoursOf_18 (by decide) ?_
    refine lv_iload_n hx hb dX11_hoursOf_19 rfl (lv_at hl 0 rfl) ?_
    refine lv_aload_n hx hb dX11_hoursOf_20 rfl (lv_at hl 2 rfl) ?_
    refine g_65_2 C hU hG hti fl_X11_343 dX11_hoursOf_21 (fun j_8 ej_9 hb_10 => ?_)
    have nej_9 : rv 65 ti 2 = some j_8 := (hF2 65 ti 2 (by decide)).symm.trans ej_9
    have hth := sx_last htk nej_9
    have hb21 := hb_10
    refine g_62_6 C hU hG hb_10 fl_X11_365 dX11_hoursOf_24 (fun x_11 e_12 le_12 ue_12 => ?_)
    have te_12 := congrArg Int32.toInt e_12
    have ne_12 : x_11.toInt = (iv 62 j_8 6).toInt := by rw [e_12, hF1 62 j_8 6 (by decide)]
    have h24 := sx_ar hG0 pre0.1 hb21 hth (e_12.trans (hF1 62 _ 6 (by decide)))
    refine lv_isub hx hb dX11_hoursOf_27 ?_
    refine lv_topi (fun x_13 e_14 => ?_)
    refine q_max C hl.1 ml_X11_180 (Nat.le_of_ble_eq_true rfl) (Nat.le_of_ble_eq_true rfl) (Nat.le_refl _) (Nat.le_refl _) dX11_hoursOf_28 (fun x_15 q_16 tq_16 => ?_)
    exact hret (⟨hG, hF1, hF2, by unfold hoF; first | rw [if_pos (by omega)] | rw [if_neg (by omega), q_16, mx0, e_14, h24, hso]⟩) hU hS dX11_hoursOf_31
  ·
    refine lv_sipush (v := 9999) hx hb dX11_hoursOf_12 (by decide) ?_
    refine lv_goto (tgt := 31) hx hb dX11_hoursOf_15 (by decide) ?_
    exact hret (⟨hG, hF1, hF2, by unfold hoF; first | rw [if_pos (by omega)] | rw [if_neg (by omega), True.intro, mx0, True.intro, h24, hso]⟩) hU hS dX11_hoursOf_31
end
section
theorem le24 {al : Al} {iv : Iv} {rv : Rv} (hG : GI al iv rv) : 0 ≤ (iv 0 0 24).toInt ∧ (iv 0 0 24).toInt ≤ 30 := hG.1 0 0 24 (h1_0 hG) (by decide)
theorem le30 {al : Al} {iv : Iv} {rv : Rv} (hG : GI al iv rv) : 0 ≤ (iv 0 0 30).toInt ∧ (iv 0 0 30).toInt ≤ 40 := hG.1 0 0 30 (h1_0 hG) (by decide)
theorem up3_k {f : Iv} {t n k : Nat} {v : Int32} : up3 f t 0 n v t 0 k = if k = n then v else f t 0 k := by simp [up3]
def hlN (iv : Iv) (l d : Int) : Nat → Int32
  | 0 => 0
  | n + 1 => if (¬ (hlN iv l d n).toInt = 0) ∨ ((iv 21 0 n).toInt = l ∧ (iv 22 0 n).toInt ≤ d) then 1 else 0
def hlF (iv : Iv) (l d : Int32) : Int32 := hlN iv l.toInt d.toInt (iv 0 0 24).toNatClampNeg
def lwF (iv : Iv) (t : Nat) (d : Int32) : Int32 := if ¬ (hlF iv (iv 1 0 (iv 5 0 (rwL iv t 0)).toNatClampNeg) d).toInt = 0 then iv 1 0 (iv 5 0 (rwL iv t 0)).toNatClampNeg else if ¬ (hlF iv (iv 1 0 (iv 6 0 (thL iv t)).toNatClampNeg) d).toInt = 0 then iv 1 0 (iv 6 0 (thL iv t)).toNatClampNeg else -9
def miF (iv : Iv) (t : Nat) : Int32 := iv 2 0 (10 * (iv 5 0 (rwL iv t 0)).toNatClampNeg + (iv 6 0 (thL iv t)).toNatClampNeg)
def exN (iv : Iv) (l c b : Int) : Nat → Int32
  | 0 => 0
  | n + 1 => if (iv 26 0 n).toInt = l ∧ (iv 27 0 n).toInt = c ∧ (iv 29 0 n).toInt ≤ b ∧ (iv 28 0 n).toInt ≤ b then iv 30 0 n else exN iv l c b n
def exF (iv : Iv) (t : Nat) (d : Int32) : Int32 := exN iv (lwF iv t d).toInt (blF iv t).toInt (iv 9 0 (rwL iv t 0) / 1440).toInt (iv 0 0 30).toNatClampNeg
theorem hl_0 {iv : Iv} {l d : Int} : (0 : Int32) = hlN iv l d (0 : Int32).toNatClampNeg := by
  rw [show (0 : Int32).toNatClampNeg = 0 from by decide]; rfl
theorem hl_up {iv : Iv} {l d : Int} {b x y : Int32} (h : y.toInt = x.toInt + 1) (h0 : 0 ≤ x.toInt) (i : b = hlN iv l d (x.toNatClampNeg + 1)) : b = hlN iv l d y.toNatClampNeg := by rw [clamp_s h h0]; exact i
theorem hl_y {iv : Iv} {l d : Int} {b : Int32} {n : Nat} (i : b = hlN iv l d n) (h : (¬ b.toInt = 0) ∨ ((iv 21 0 n).toInt = l ∧ (iv 22 0 n).toInt ≤ d)) : (1 : Int32) = hlN iv l d (n + 1) := by
  show _ = (if (¬ (hlN iv l d n).toInt = 0) ∨ ((iv 21 0 n).toInt = l ∧ (iv 22 0 n).toInt ≤ d) then 1 else 0)
  rw [← i, if_pos h]
theorem hl_n {iv : Iv} {l d : Int} {b : Int32} {n : Nat} (i : b = hlN iv l d n) (h : ¬ ((¬ b.toInt = 0) ∨ ((iv 21 0 n).toInt = l ∧ (iv 22 0 n).toInt ≤ d))) : (0 : Int32) = hlN iv l d (n + 1) := by
  show _ = (if (¬ (hlN iv l d n).toInt = 0) ∨ ((iv 21 0 n).toInt = l ∧ (iv 22 0 n).toInt ≤ d) then 1 else 0)
  rw [← i, if_neg h]
theorem hl_on {iv : Iv} {l d : Int} {n : Nat} (h : ¬ (hlN iv l d n).toInt = 0) : ∀ m : Nat, n < m → hlN iv l d m = 1
  | 0, hm => absurd hm (Nat.not_lt_zero _)
  | m + 1, hm => by
    show (if (¬ (hlN iv l d m).toInt = 0) ∨ ((iv 21 0 m).toInt = l ∧ (iv 22 0 m).toInt ≤ d) then 1 else 0) = 1
    by_cases e : n = m
    · rw [← e, if_pos (Or.inl h)]
    · rw [hl_on h m (by omega), if_pos (Or.inl (by decide))]
theorem mi_ok {iv : Iv} {t : Nat} {r x y z : Int32} (e : r = iv 2 0 z.toNatClampNeg) (h1 : x = iv 5 0 (rwL iv t 0)) (h2 : y = iv 6 0 (thL iv t)) (hz : z.toInt = 10 * x.toInt + y.toInt) (h0 : 0 ≤ x.toInt ∧ 0 ≤ y.toInt) : r = miF iv t := by
  have c : z.toNatClampNeg = 10 * x.toNatClampNeg + y.toNatClampNeg := by simp only [clamp_n]; omega
  unfold miF; rw [e, c, h1, h2]
theorem rwL_17 {iv iv' : Iv} (h : ∀ t i k, t ≠ 17 → iv' t i k = iv t i k) (t j : Nat) : rwL iv' t j = rwL iv t j := by simp only [rwL, h 18 _ _ (by decide)]
theorem ex_0 {iv : Iv} {l c b : Int} : (0 : Int32) = exN iv l c b (0 : Int32).toNatClampNeg := by
  rw [show (0 : Int32).toNatClampNeg = 0 from by decide]; rfl
theorem ex_up {iv : Iv} {l c b : Int} {s x y : Int32} (h : y.toInt = x.toInt + 1) (h0 : 0 ≤ x.toInt) (i : s = exN iv l c b (x.toNatClampNeg + 1)) : s = exN iv l c b y.toNatClampNeg := by rw [clamp_s h h0]; exact i
theorem ex_y {iv : Iv} {l c b : Int} {s v z : Int32} {n : Nat} (_ : s = exN iv l c b n) (h : (z.toInt = 1 ∧ ((iv 26 0 n).toInt = l ∧ (iv 27 0 n).toInt = c ∧ (iv 29 0 n).toInt ≤ b ∧ (iv 28 0 n).toInt ≤ b)) ∨ (z.toInt = 0 ∧ ¬ ((iv 26 0 n).toInt = l ∧ (iv 27 0 n).toInt = c ∧ (iv 29 0 n).toInt ≤ b ∧ (iv 28 0 n).toInt ≤ b))) (hz : ¬ z.toInt = 0) (e : v = iv 30 0 n) : v = exN iv l c b (n + 1) := by
  show _ = (if (iv 26 0 n).toInt = l ∧ (iv 27 0 n).toInt = c ∧ (iv 29 0 n).toInt ≤ b ∧ (iv 28 0 n).toInt ≤ b then iv 30 0 n else exN iv l c b n)
  rcases h with ⟨-, h⟩ | ⟨h, -⟩
  · rw [if_pos h]; exact e
  · exact absurd h hz
theorem ex_n {iv : Iv} {l c b : Int} {s z : Int32} {n : Nat} (i : s = exN iv l c b n) (h : (z.toInt = 1 ∧ ((iv 26 0 n).toInt = l ∧ (iv 27 0 n).toInt = c ∧ (iv 29 0 n).toInt ≤ b ∧ (iv 28 0 n).toInt ≤ b)) ∨ (z.toInt = 0 ∧ ¬ ((iv 26 0 n).toInt = l ∧ (iv 27 0 n).toInt = c ∧ (iv 29 0 n).toInt ≤ b ∧ (iv 28 0 n).toInt ≤ b))) (hz : z.toInt = 0) : s = exN iv l c b (n + 1) := by
  show _ = (if (iv 26 0 n).toInt = l ∧ (iv 27 0 n).toInt = c ∧ (iv 29 0 n).toInt ≤ b ∧ (iv 28 0 n).toInt ≤ b then iv 30 0 n else exN iv l c b n)
  rcases h with ⟨h, -⟩ | ⟨-, h⟩
  · omega
  · rw [if_neg h]; exact i
theorem ex_y1 {iv : Iv} {l c b : Int} {s v : Int32} {n : Nat} (_ : s = exN iv l c b n) (h : (iv 26 0 n).toInt = l ∧ (iv 27 0 n).toInt = c ∧ (iv 29 0 n).toInt ≤ b ∧ (iv 28 0 n).toInt ≤ b) (e : v = iv 30 0 n) : v = exN iv l c b (n + 1) := by
  show _ = (if (iv 26 0 n).toInt = l ∧ (iv 27 0 n).toInt = c ∧ (iv 29 0 n).toInt ≤ b ∧ (iv 28 0 n).toInt ≤ b then iv 30 0 n else exN iv l c b n)
  rw [if_pos h]; exact e
theorem ex_n1 {iv : Iv} {l c b : Int} {s : Int32} {n : Nat} (i : s = exN iv l c b n) (h : ¬ ((iv 26 0 n).toInt = l ∧ (iv 27 0 n).toInt = c ∧ (iv 29 0 n).toInt ≤ b ∧ (iv 28 0 n).toInt ≤ b)) : s = exN iv l c b (n + 1) := by
  show _ = (if (iv 26 0 n).toInt = l ∧ (iv 27 0 n).toInt = c ∧ (iv 29 0 n).toInt ≤ b ∧ (iv 28 0 n).toInt ≤ b then iv 30 0 n else exN iv l c b n)
  rw [if_neg h]; exact i
def gsN (iv : Iv) (l d h m : Int) : Nat → Int32
  | 0 => 0
  | n + 1 => if ((iv 21 0 n).toInt = l ∧ (iv 22 0 n).toInt ≤ d ∧ (iv 23 0 n).toInt ≤ h ∧ (iv 24 0 n).toInt ≤ m) ∧ (gsN iv l d h m n).toInt < (iv 25 0 n).toInt then iv 25 0 n else gsN iv l d h m n
theorem gs_0 {iv : Iv} {l d h m : Int} : (0 : Int32) = gsN iv l d h m (0 : Int32).toNatClampNeg := by
  rw [show (0 : Int32).toNatClampNeg = 0 from by decide]; rfl
theorem gs_up {iv : Iv} {l d h m : Int} {s x y : Int32} (hy : y.toInt = x.toInt + 1) (h0 : 0 ≤ x.toInt) (i : s = gsN iv l d h m (x.toNatClampNeg + 1)) : s = gsN iv l d h m y.toNatClampNeg := by rw [clamp_s hy h0]; exact i
theorem gs_y {iv : Iv} {l d h m : Int} {s v z : Int32} {n : Nat} (i : s = gsN iv l d h m n) (c : (z.toInt = 1 ∧ ((iv 21 0 n).toInt = l ∧ (iv 22 0 n).toInt ≤ d ∧ (iv 23 0 n).toInt ≤ h ∧ (iv 24 0 n).toInt ≤ m)) ∨ (z.toInt = 0 ∧ ¬ ((iv 21 0 n).toInt = l ∧ (iv 22 0 n).toInt ≤ d ∧ (iv 23 0 n).toInt ≤ h ∧ (iv 24 0 n).toInt ≤ m))) (hz : ¬ z.toInt = 0) (hs : s.toInt < (iv 25 0 n).toInt) (e : v = iv 25 0 n) : v = gsN iv l d h m (n + 1) := by
  show _ = (if ((iv 21 0 n).toInt = l ∧ (iv 22 0 n).toInt ≤ d ∧ (iv 23 0 n).toInt ≤ h ∧ (iv 24 0 n).toInt ≤ m) ∧ (gsN iv l d h m n).toInt < (iv 25 0 n).toInt then iv 25 0 n else gsN iv l d h m n)
  rcases c with ⟨-, c⟩ | ⟨c, -⟩
  · rw [if_pos ⟨c, by rw [← i]; exact hs⟩]; exact e
  · exact absurd c hz
theorem gs_n {iv : Iv} {l d h m : Int} {s : Int32} {n : Nat} (i : s = gsN iv l d h m n) (c : ¬ (((iv 21 0 n).toInt = l ∧ (iv 22 0 n).toInt ≤ d ∧ (iv 23 0 n).toInt ≤ h ∧ (iv 24 0 n).toInt ≤ m) ∧ s.toInt < (iv 25 0 n).toInt)) : s = gsN iv l d h m (n + 1) := by
  show _ = (if ((iv 21 0 n).toInt = l ∧ (iv 22 0 n).toInt ≤ d ∧ (iv 23 0 n).toInt ≤ h ∧ (iv 24 0 n).toInt ≤ m) ∧ (gsN iv l d h m n).toInt < (iv 25 0 n).toInt then iv 25 0 n else gsN iv l d h m n)
  rw [← i, if_neg c]
theorem hx_0 {iv : Iv} {l d : Int} : (hlN iv l d (0 : Int32).toNatClampNeg).toInt = 0 := by
  rw [show (0 : Int32).toNatClampNeg = 0 from by decide]; show (0 : Int32).toInt = 0; decide
theorem hx_up {iv : Iv} {l d : Int} {x y : Int32} (h : y.toInt = x.toInt + 1) (h0 : 0 ≤ x.toInt) (i : (hlN iv l d x.toNatClampNeg).toInt = 0) (c : ¬ ((iv 21 0 x.toNatClampNeg).toInt = l ∧ (iv 22 0 x.toNatClampNeg).toInt ≤ d)) : (hlN iv l d y.toNatClampNeg).toInt = 0 := by
  rw [clamp_s h h0]
  show (if (¬ (hlN iv l d x.toNatClampNeg).toInt = 0) ∨ ((iv 21 0 x.toNatClampNeg).toInt = l ∧ (iv 22 0 x.toNatClampNeg).toInt ≤ d) then (1 : Int32) else 0).toInt = 0
  rw [if_neg (fun z => z.elim (fun w => w i) c)]; decide
theorem hx_1 {iv : Iv} {l d x : Int32} (i : (hlN iv l.toInt d.toInt x.toNatClampNeg).toInt = 0) (c : (iv 21 0 x.toNatClampNeg).toInt = l.toInt ∧ (iv 22 0 x.toNatClampNeg).toInt ≤ d.toInt) (h : 0 ≤ x.toInt ∧ x.toInt < (iv 0 0 24).toInt) : (1 : Int32) = hlF iv l d := by
  have e : hlN iv l.toInt d.toInt (x.toNatClampNeg + 1) = 1 := by
    show (if (¬ (hlN iv l.toInt d.toInt x.toNatClampNeg).toInt = 0) ∨ ((iv 21 0 x.toNatClampNeg).toInt = l.toInt ∧ (iv 22 0 x.toNatClampNeg).toInt ≤ d.toInt) then (1 : Int32) else 0) = 1
    rw [if_pos (Or.inr c)]
  unfold hlF
  have c1 : x.toNatClampNeg = x.toInt.toNat := clamp_n
  have c2 : (iv 0 0 24).toNatClampNeg = (iv 0 0 24).toInt.toNat := clamp_n
  by_cases q : (iv 0 0 24).toNatClampNeg = x.toNatClampNeg + 1
  · rw [q, e]
  · rw [hl_on (n := x.toNatClampNeg + 1) (by rw [e]; decide) _ (by omega)]
theorem hx_2 {iv : Iv} {l d x : Int32} (i : (hlN iv l.toInt d.toInt x.toNatClampNeg).toInt = 0) (h : x.toInt = (iv 0 0 24).toInt) : (0 : Int32) = hlF iv l d := by
  unfold hlF
  rw [← clamp_eq h]
  exact (fa_eq _ _).mpr (by rw [i]; decide)
noncomputable def smF (iv : Iv) (t : Nat) (d : Int32) : Int32 := if (lwF iv t d).toInt < 0 ∨ ¬ (exF iv t d).toInt = 0 then 0 else gsN iv (lwF iv t d).toInt d.toInt (hoF iv t).toInt (miF iv t).toInt (iv 0 0 24).toNatClampNeg
noncomputable def suS (iv : Iv) (t d w : Int32) : Int32 := if ¬ (0 ≤ t.toInt ∧ t.toInt < (iv 0 0 20).toInt) then -1 else if ¬ (0 ≤ w.toInt ∧ w.toInt ≤ 2) then -2 else if d.toInt < 0 then -4 else if 4000 < d.toInt then -6 else if w.toInt = 0 then smF iv t.toNatClampNeg d else if w.toInt = 1 then lwF iv t.toNatClampNeg d else if ¬ (exF iv t.toNatClampNeg d).toInt = 0 then 1 else 0
theorem hlN_m {iv iv' : Iv} (h : MA iv iv') (l d : Int) : ∀ n : Nat, hlN iv' l d n = hlN iv l d n
  | 0 => rfl
  | n + 1 => by
    show (if (¬ (hlN iv' l d n).toInt = 0) ∨ ((iv' 21 0 n).toInt = l ∧ (iv' 22 0 n).toInt ≤ d) then (1 : Int32) else 0) = (if (¬ (hlN iv l d n).toInt = 0) ∨ ((iv 21 0 n).toInt = l ∧ (iv 22 0 n).toInt ≤ d) then (1 : Int32) else 0)
    rw [hlN_m h l d n, h 21 _ (by decide), h 22 _ (by decide)]
theorem exN_m {iv iv' : Iv} (h : MA iv iv') (l c b : Int) : ∀ n : Nat, exN iv' l c b n = exN iv l c b n
  | 0 => rfl
  | n + 1 => by
    show (if (iv' 26 0 n).toInt = l ∧ (iv' 27 0 n).toInt = c ∧ (iv' 29 0 n).toInt ≤ b ∧ (iv' 28 0 n).toInt ≤ b then iv' 30 0 n else exN iv' l c b n) = (if (iv 26 0 n).toInt = l ∧ (iv 27 0 n).toInt = c ∧ (iv 29 0 n).toInt ≤ b ∧ (iv 28 0 n).toInt ≤ b then iv 30 0 n else exN iv l c b n)
    rw [exN_m h l c b n, h 26 _ (by decide), h 27 _ (by decide), h 28 _ (by decide), h 29 _ (by decide), h 30 _ (by decide)]
theorem gsN_m {iv iv' : Iv} (h : MA iv iv') (l d u m : Int) : ∀ n : Nat, gsN iv' l d u m n = gsN iv l d u m n
  | 0 => rfl
  | n + 1 => by
    show (if ((iv' 21 0 n).toInt = l ∧ (iv' 22 0 n).toInt ≤ d ∧ (iv' 23 0 n).toInt ≤ u ∧ (iv' 24 0 n).toInt ≤ m) ∧ (gsN iv' l d u m n).toInt < (iv' 25 0 n).toInt then iv' 25 0 n else gsN iv' l d u m n) = (if ((iv 21 0 n).toInt = l ∧ (iv 22 0 n).toInt ≤ d ∧ (iv 23 0 n).toInt ≤ u ∧ (iv 24 0 n).toInt ≤ m) ∧ (gsN iv l d u m n).toInt < (iv 25 0 n).toInt then iv 25 0 n else gsN iv l d u m n)
    rw [gsN_m h l d u m n, h 21 _ (by decide), h 22 _ (by decide), h 23 _ (by decide), h 24 _ (by decide), h 25 _ (by decide)]
theorem hl_m {iv iv' : Iv} (h : MA iv iv') (l d : Int32) : hlF iv' l d = hlF iv l d := by unfold hlF; rw [hlN_m h, h 0 _ (by decide)]
theorem lw_m {iv iv' : Iv} (h : MA iv iv') (t : Nat) (d : Int32) : lwF iv' t d = lwF iv t d := by
  unfold lwF; rw [rwL_m h, thL_m h, h 5 _ (by decide), h 6 _ (by decide), h 1 _ (by decide), h 1 _ (by decide), hl_m h, hl_m h]
theorem mi_m {iv iv' : Iv} (h : MA iv iv') (t : Nat) : miF iv' t = miF iv t := by
  unfold miF; rw [rwL_m h, thL_m h, h 5 _ (by decide), h 6 _ (by decide), h 2 _ (by decide)]
theorem ex_m {iv iv' : Iv} (h : MA iv iv') (t : Nat) (d : Int32) : exF iv' t d = exF iv t d := by
  unfold exF; rw [lw_m h, bl_m h, rwL_m h, exN_m h, h 9 _ (by decide), h 0 _ (by decide)]
theorem sm_m {iv iv' : Iv} (h : MA iv iv') (t : Nat) (d : Int32) : smF iv' t d = smF iv t d := by
  unfold smF; rw [lw_m h, ex_m h, ho_m h, mi_m h, gsN_m h, h 0 _ (by decide)]
theorem suS_m {iv iv' : Iv} (h : MA iv iv') (t d w : Int32) : suS iv' t d w = suS iv t d w := by
  unfold suS; rw [sm_m h, lw_m h, ex_m h, h 0 _ (by decide)]
end
section
def Cday (iv : Iv) (rv : Rv) : Prop := iv 0 0 0 = iv 49 0 9
abbrev T_Cday : List Nat := []
abbrev F_Cday : List (Nat × Nat) := [(0, 0), (49, 9)]
theorem Cday.keep {al : Al} {iv iv' : Iv} {rv rv' : Rv} (h : Cday iv rv) (hG : GI al iv rv) (e : KP T_Cday F_Cday al iv rv iv' rv') : Cday iv' rv' := by
  unfold Cday
  rw [(e 0 0 0 (h1_0 hG) (Or.inr (by decide))).1, (e 49 0 9 (h1_49 hG) (Or.inr (by decide))).1]; exact h
def Cland (iv : Iv) (rv : Rv) : Prop := ∀ k : Nat, k < 10 → iv 1 0 k = iv 56 k 1
abbrev T_Cland : List Nat := [1]
abbrev F_Cland : List (Nat × Nat) := [(56, 1)]
theorem Cland.keep {al : Al} {iv iv' : Iv} {rv rv' : Rv} (h : Cland iv rv) (hG : GI al iv rv) (e : KP T_Cland F_Cland al iv rv iv' rv') : Cland iv' rv' := by
  intro k hk
  have i6 : k < al.1 56 := by rw [hG.2.2.1.2.1]; exact hk
  rw [(e 1 0 k (h1_1 hG) (Or.inl (by decide))).1, (e 56 k 1 i6 (Or.inr (by decide))).1]; exact h k hk
def Cmile (iv : Iv) (rv : Rv) : Prop := ∀ a b : Nat, a < 10 → b < 10 → iv 2 0 (10 * a + b) = iv 55 a b
abbrev T_Cmile : List Nat := [2, 55]
abbrev F_Cmile : List (Nat × Nat) := []
theorem Cmile.keep {al : Al} {iv iv' : Iv} {rv rv' : Rv} (h : Cmile iv rv) (hG : GI al iv rv) (e : KP T_Cmile F_Cmile al iv rv iv' rv') : Cmile iv' rv' := by
  intro a b ha hb
  rw [(e 2 0 _ (h1_2 hG) (Or.inl (by decide))).1, (e 55 a b (by rw [hG.2.2.1.2.2.1]; exact ha) (Or.inl (by decide))).1]; exact h a b ha hb
theorem spMiles_ok {a b v : Int32} (h : spMiles a b v = 0) : (0 ≤ a.toInt ∧ a.toInt ≤ 9) ∧ (0 ≤ b.toInt ∧ b.toInt ≤ 9) := by
  unfold spMiles at h
  by_cases q : ¬ ((0 ≤ a.toInt ∧ a.toInt ≤ 9) ∧ (0 ≤ b.toInt ∧ b.toInt ≤ 9) ∧ ¬ a.toInt = b.toInt)
  · rw [if_pos q] at h; exact absurd h (by decide)
  · exact ⟨by omega, by omega⟩
def Claw (iv : Iv) (rv : Rv) : Prop := iv 0 0 24 = iv 68 0 5 ∧ (∀ k : Nat, iv 21 0 k = iv 69 0 k ∧ iv 22 0 k = iv 70 0 k ∧ iv 23 0 k = iv 71 0 k ∧ iv 24 0 k = iv 72 0 k ∧ iv 25 0 k = iv 73 0 k)
abbrev T_Claw : List Nat := [21, 22, 23, 24, 25, 69, 70, 71, 72, 73]
abbrev F_Claw : List (Nat × Nat) := [(0, 24), (68, 5)]
theorem Claw.keep {al : Al} {iv iv' : Iv} {rv rv' : Rv} (h : Claw iv rv) (hG : GI al iv rv) (e : KP T_Claw F_Claw al iv rv iv' rv') : Claw iv' rv' := by
  refine ⟨?_, fun k => ?_⟩
  · rw [(e 0 0 24 (h1_0 hG) (Or.inr (by decide))).1, (e 68 0 5 (h1_68 hG) (Or.inr (by decide))).1]; exact h.1
  · rw [(e 21 0 k (h1_21 hG) (Or.inl (by decide))).1, (e 22 0 k (h1_22 hG) (Or.inl (by decide))).1, (e 23 0 k (h1_23 hG) (Or.inl (by decide))).1, (e 24 0 k (h1_24 hG) (Or.inl (by decide))).1, (e 25 0 k (h1_25 hG) (Or.inl (by decide))).1, (e 69 0 k (h1_69 hG) (Or.inl (by decide))).1, (e 70 0 k (h1_70 hG) (Or.inl (by decide))).1, (e 71 0 k (h1_71 hG) (Or.inl (by decide))).1, (e 72 0 k (h1_72 hG) (Or.inl (by decide))).1, (e 73 0 k (h1_73 hG) (Or.inl (by decide))).1]; exact h.2 k
def Cexc (iv : Iv) (rv : Rv) : Prop := iv 0 0 30 = iv 68 0 11 ∧ (∀ k : Nat, iv 26 0 k = iv 74 0 k ∧ iv 27 0 k = iv 75 0 k ∧ iv 28 0 k = iv 76 0 k ∧ iv 29 0 k = iv 77 0 k ∧ iv 30 0 k = iv 78 0 k)
abbrev T_Cexc : List Nat := [26, 27, 28, 29, 30, 74, 75, 76, 77, 78]
abbrev F_Cexc : List (Nat × Nat) := [(0, 30), (68, 11)]
theorem Cexc.keep {al : Al} {iv iv' : Iv} {rv rv' : Rv} (h : Cexc iv rv) (hG : GI al iv rv) (e : KP T_Cexc F_Cexc al iv rv iv' rv') : Cexc iv' rv' := by
  refine ⟨?_, fun k => ?_⟩
  · rw [(e 0 0 30 (h1_0 hG) (Or.inr (by decide))).1, (e 68 0 11 (h1_68 hG) (Or.inr (by decide))).1]; exact h.1
  · rw [(e 26 0 k (h1_26 hG) (Or.inl (by decide))).1, (e 27 0 k (h1_27 hG) (Or.inl (by decide))).1, (e 28 0 k (h1_28 hG) (Or.inl (by decide))).1, (e 29 0 k (h1_29 hG) (Or.inl (by decide))).1, (e 30 0 k (h1_30 hG) (Or.inl (by decide))).1, (e 74 0 k (h1_74 hG) (Or.inl (by decide))).1, (e 75 0 k (h1_75 hG) (Or.inl (by decide))).1, (e 76 0 k (h1_76 hG) (Or.inl (by decide))).1, (e 77 0 k (h1_77 hG) (Or.inl (by decide))).1, (e 78 0 k (h1_78 hG) (Or.inl (by decide))).1]; exact h.2 k
def Cstop (iv : Iv) (rv : Rv) : Prop := iv 0 0 37 = iv 79 0 4 ∧ (∀ k : Nat, iv 32 0 k = iv 81 0 k ∧ iv 33 0 k = iv 82 0 k ∧ iv 34 0 k = iv 83 0 k)
abbrev T_Cstop : List Nat := [32, 33, 34, 81, 82, 83]
abbrev F_Cstop : List (Nat × Nat) := [(0, 37), (79, 4)]
theorem Cstop.keep {al : Al} {iv iv' : Iv} {rv rv' : Rv} (h : Cstop iv rv) (hG : GI al iv rv) (e : KP T_Cstop F_Cstop al iv rv iv' rv') : Cstop iv' rv' := by
  refine ⟨?_, fun k => ?_⟩
  · rw [(e 0 0 37 (h1_0 hG) (Or.inr (by decide))).1, (e 79 0 4 (h1_79 hG) (Or.inr (by decide))).1]; exact h.1
  · rw [(e 32 0 k (h1_32 hG) (Or.inl (by decide))).1, (e 33 0 k (h1_33 hG) (Or.inl (by decide))).1, (e 34 0 k (h1_34 hG) (Or.inl (by decide))).1, (e 81 0 k (h1_81 hG) (Or.inl (by decide))).1, (e 82 0 k (h1_82 hG) (Or.inl (by decide))).1, (e 83 0 k (h1_83 hG) (Or.inl (by decide))).1]; exact h.2 k
def BQ (iv : Iv) (rv : Rv) : Prop := BB iv rv ∧ Coff iv rv ∧ Claw iv rv ∧ Cexc iv rv ∧ Cland iv rv ∧ Cmile iv rv
theorem bq_fr {al : Al} {iv iv' : Iv} {rv rv' : Rv} (hG : GI al iv rv) (h : BQ iv rv) {md : Mo} (f : FR md iv iv') (g : FR md rv rv') (dClegn : RC T_Clegn F_Clegn md := by decide) (dClegf : RC T_Clegf F_Clegf md := by decide) (dCset : RC T_Cset F_Cset md := by decide) (dClog : RC T_Clog F_Clog md := by decide) (dCrt : RC T_Crt F_Crt md := by decide) (dCport : RC T_Cport F_Cport md := by decide) (dCcau : RC T_Ccau F_Ccau md := by decide) (dCtkn : RC T_Ctkn F_Ctkn md := by decide) (dCtick : RC T_Ctick F_Ctick md := by decide) (dCoff : RC T_Coff F_Coff md := by decide) (dClaw : RC T_Claw F_Claw md := by decide) (dCexc : RC T_Cexc F_Cexc md := by decide) (dCland : RC T_Cland F_Cland md := by decide) (dCmile : RC T_Cmile F_Cmile md := by decide) : BQ iv' rv' := ⟨⟨⟨⟨⟨Clegn.keep h.1.1.1.1.1 hG (KP.fr f g dClegn), Clegf.keep h.1.1.1.1.2.1 hG (KP.fr f g dClegf), Cset.keep h.1.1.1.1.2.2 hG (KP.fr f g dCset)⟩, Clog.keep h.1.1.1.2.1 hG (KP.fr f g dClog), Crt.keep h.1.1.1.2.2.1 hG (KP.fr f g dCrt), Cport.keep h.1.1.1.2.2.2 hG (KP.fr f g dCport)⟩, Ccau.keep h.1.1.2 hG (KP.fr f g dCcau)⟩, Ctkn.keep h.1.2.1 hG (KP.fr f g dCtkn), Ctick.keep h.1.2.2 hG (KP.fr f g dCtick)⟩, Coff.keep h.2.1 hG (KP.fr f g dCoff), Claw.keep h.2.2.1 hG (KP.fr f g dClaw), Cexc.keep h.2.2.2.1 hG (KP.fr f g dCexc), Cland.keep h.2.2.2.2.1 hG (KP.fr f g dCland), Cmile.keep h.2.2.2.2.2 hG (KP.fr f g dCmile)⟩
theorem lw_t {iv : Iv} {rv : Rv} (h : Claw iv rv) (k : Nat) : (iv 21 0 k).toInt = (iv 69 0 k).toInt ∧ (iv 22 0 k).toInt = (iv 70 0 k).toInt ∧ (iv 23 0 k).toInt = (iv 71 0 k).toInt ∧ (iv 24 0 k).toInt = (iv 72 0 k).toInt ∧ (iv 25 0 k).toInt = (iv 73 0 k).toInt := by
  obtain ⟨a, b, c, d, e⟩ := h.2 k
  rw [a, b, c, d, e]; exact ⟨rfl, rfl, rfl, rfl, rfl⟩
theorem xc_t {iv : Iv} {rv : Rv} (h : Cexc iv rv) (k : Nat) : (iv 26 0 k).toInt = (iv 74 0 k).toInt ∧ (iv 27 0 k).toInt = (iv 75 0 k).toInt ∧ (iv 28 0 k).toInt = (iv 76 0 k).toInt ∧ (iv 29 0 k).toInt = (iv 77 0 k).toInt ∧ (iv 30 0 k).toInt = (iv 78 0 k).toInt := by
  obtain ⟨a, b, c, d, e⟩ := h.2 k
  rw [a, b, c, d, e]; exact ⟨rfl, rfl, rfl, rfl, rfl⟩
theorem ld_rw {iv : Iv} {rv : Rv} {t j : Nat} (htk : tkk iv rv t) (e : rv 65 t 1 = some j) : j = rwL iv t 0 := Option.some.inj (e.symm.trans htk.2.2.2.1)
theorem ld_p {al : Al} {iv : Iv} {rv : Rv} (hG : GI al iv rv) (h : Cland iv rv) {p : Nat} {a x : Int32} (hp : (p : Int) = a.toInt) (h9 : a.toInt ≤ 9) (e : x = iv 56 p 1) : x = iv 1 0 a.toNatClampNeg := by
  have c : a.toNatClampNeg = p := by rw [clamp_n]; omega
  rw [c, e]; exact (h p (by omega)).symm
theorem ld_first {al : Al} {iv : Iv} {rv : Rv} (hG : GI al iv rv) (h : BQ iv rv) {t j p : Nat} {x : Int32} (htk : tkk iv rv t) (e1 : rv 65 t 1 = some j) (e2 : rv 62 j 1 = some p) (e : x = iv 56 p 1) (hj : j < al.1 62 := by assumption) : x = iv 1 0 (iv 5 0 (rwL iv t 0)).toNatClampNeg := by
  have c := rng5 hG (Nat.lt_of_lt_of_le hj (al62 hG))
  have q := lf_fr hG h.1.1.1.1.2.1 hj e2
  rw [← ld_rw htk e1]
  exact ld_p hG h.2.2.2.2.1 q c.1.2 e
theorem ld_last {al : Al} {iv : Iv} {rv : Rv} (hG : GI al iv rv) (h : BQ iv rv) {t j p : Nat} {x : Int32} (ht : t < al.1 65) (htk : tkk iv rv t) (e1 : rv 65 t 2 = some j) (e2 : rv 62 j 2 = some p) (e : x = iv 56 p 1) : x = iv 1 0 (iv 6 0 (thL iv t)).toNatClampNeg := by
  have hj := (hG.2.1 65 t 2 62 ht (by decide) rfl).1 _ e1
  have c := rng5 hG (Nat.lt_of_lt_of_le hj (al62 hG))
  have q := lf_to hG h.1.1.1.1.2.1 hj rfl e2
  rw [← sx_last htk e1]
  exact ld_p hG h.2.2.2.2.1 q c.2.2 e
theorem ld_lv {al : Al} {iv : Iv} {rv : Rv} (hG : GI al iv rv) (h : BM iv rv) {t j : Nat} {x : Int32} (ht : t < al.1 65) (htk : tkk iv rv t) (e1 : rv 65 t 1 = some j) (e : x = iv 62 j 5) : x = iv 9 0 (rwL iv t 0) := by
  have hj := (hG.2.1 65 t 1 62 ht (by decide) rfl).1 _ e1
  rw [← ld_rw htk e1, e, lf_lv hG h.1.1.2.1 hj]
theorem ml_x {al : Al} {iv : Iv} {rv : Rv} (hG : GI al iv rv) (h : BQ iv rv) {t j p q o : Nat} (ht : t < al.1 65) (htk : tkk iv rv t) (e1 : rv 65 t 1 = some j) (e2 : rv 62 j 1 = some p) (e3 : rv 65 t 2 = some q) (e4 : rv 62 q 2 = some o) : iv 55 p o = miF iv t := by
  have hj := (hG.2.1 65 t 1 62 ht (by decide) rfl).1 _ e1
  have hq := (hG.2.1 65 t 2 62 ht (by decide) rfl).1 _ e3
  have c := rng5 hG (Nat.lt_of_lt_of_le hj (al62 hG))
  have c' := rng5 hG (Nat.lt_of_lt_of_le hq (al62 hG))
  have a := lf_fr hG h.1.1.1.1.2.1 hj e2
  have b := lf_to hG h.1.1.1.1.2.1 hq rfl e4
  unfold miF
  rw [← ld_rw htk e1, ← sx_last htk e3]
  have d1 : (iv 5 0 j).toNatClampNeg = p := by rw [clamp_n]; omega
  have d2 : (iv 6 0 q).toNatClampNeg = o := by rw [clamp_n]; omega
  rw [d1, d2]; exact (h.2.2.2.2.2 p o (by omega) (by omega)).symm
theorem sf_ex {iv iv1 : Iv} {t : Nat} {d lw bl ld r : Int32} (h : r = exN iv1 lw.toInt bl.toInt ld.toInt (iv1 0 0 30).toNatClampNeg) (hd : ld = iv1 9 0 (rwL iv1 t 0) / 1440) (hb : bl = blF iv t) (hl : lw = lwF iv t d) (m : MA iv iv1) : r = exF iv t d := by
  unfold exF
  rw [h, hd, hb, hl, exN_m m, rwL_m m, m 9 _ (by decide), m 0 _ (by decide)]
theorem sf_gs {iv iv1 : Iv} {t : Nat} {d lw ho mi r : Int32} (h : r = gsN iv1 lw.toInt d.toInt ho.toInt mi.toInt (iv1 0 0 24).toNatClampNeg) (hl : lw = lwF iv t d) (hh : ho = hoF iv t) (hm : mi = miF iv t) (m : MA iv iv1) : r = gsN iv (lwF iv t d).toInt d.toInt (hoF iv t).toInt (miF iv t).toInt (iv 0 0 24).toNatClampNeg := by
  rw [h, hl, hh, hm, gsN_m m, m 0 _ (by decide)]
end
