set_option maxHeartbeats 4000000 in
set_option maxRecDepth 100000 in
theorem c_X12_hoursOf_x {l : Launch} {D : va_G} {cA : FieldType → ClassId} {sz : Nat} {al : Al} {iv : Iv} {rv : Rv} (hG : GI al iv rv) (tt : Int32) (pre0 : 0 ≤ tt.toInt ∧ tt.toInt < (iv 0 0 20).toInt) : Met l yX12_hoursOf (wd yX12_hoursOf cX12_hoursOf 3 (some .int)) (rm 4) (PcW D cA sz al iv rv [.ref (al.2 0 0), .int tt]) (QI D cA sz al (fI al ([20], []) iv rv (fun r iv' rv' => r = hoF iv tt.toNatClampNeg))) 0 0 (Aq sz) := by
  refine mk_i (by decide) (Nat.le_of_ble_eq_true rfl) rfl ?_
  intro p e s m args below meth c ls Q H locs C hU hS hl hret
  have hx := C.1.1
  have hb := C.1.2.1
  have hl : lv_has ls 3 [(0, .ref (al.2 0 0)), (1, .int tt)] := hl
  have hG0 := hG
  have h6 := le6 hG
  have h20 := le20 hG
  have h41 := le41 hG
  have h20 := le20 hG
  have hF1 : FR ([20], []) iv iv := FR.rf
  have hF2 : FR ([20], []) rv rv := FR.rf
  have k9999 : (9999 : Int32).toInt = 9999 := by decide
  refine lv_aload_n hx hb dX12_hoursOf_0 rfl (lv_at hl 0 rfl) ?_
  refine lv_iload_n hx hb dX12_hoursOf_1 rfl (lv_at hl 1 rfl) ?_
  refine q_fi (q_runV (t := 0) (i := 0) (As := [.int tt]) (rest := []) C hU (c_X12_soonestOf_x hG tt (by omega)) vm_X12_soonestOf ml_X12_235 k_0.1 (hc := rfl) rfl (h1_0 hG) hl.1 rfl rfl (Nat.le_of_ble_eq_true rfl) dX12_hoursOf_2 rfl rfl ⟨Nat.le_of_ble_eq_true rfl, Nat.le_of_ble_eq_true rfl⟩ ⟨Nat.le_refl _, Nat.le_refl _⟩) hS (fun x_6 iv_2 rv_3 H locs hG fa_4 fb_5 hp_1 hU hS => ?_)
  have hF1 := hF1.tr (m := ([20], [])) fa_4 (by decide)
  have hF2 := hF2.tr (m := ([20], [])) fb_5 (by decide)
  have kf_7 := congrArg Int32.toInt (hF1 0 0 20 (by decide))
  refine lv_istore_n (lv' := [(2, .int x_6), (0, .ref (al.2 0 0)), (1, .int tt)]) hx hb dX12_hoursOf_5 rfl hl (by decide) rfl (fun ls hl => ?_)
  have hso := hp_1
  have tso := congrArg Int32.toInt hso
  refine lv_iload_n hx hb dX12_hoursOf_6 rfl (lv_at hl 0 rfl) ?_
  refine b_if_ge (tgt := 16) hx hb dX12_hoursOf_7 (by decide) (fun c_8 => ?_) (fun c_8 => ?_)
  ·
    refine lv_iload_n hx hb dX12_hoursOf_16 rfl (lv_at hl 0 rfl) ?_
    refine lv_aload_n hx hb dX12_hoursOf_17 rfl (lv_at hl 1 rfl) ?_
    refine g_0_12 C hU hG (h1_0 hG) fl_X12_37 dX12_hoursOf_18 ?_
    refine lv_aload_n hx hb dX12_hoursOf_21 rfl (lv_at hl 1 rfl) ?_
    refine lv_iload_n hx hb dX12_hoursOf_22 rfl (lv_at hl 2 rfl) ?_
    refine q_pi (q_runV (t := 0) (i := 0) (As := [.int tt]) (rest := [.ref (al.2 10 0), .int x_6]) C hU (c_X12_lastLeg_x hG tt (by omega)) vm_X12_lastLeg ml_X12_232 k_0.1 (hc := rfl) rfl (h1_0 hG) hl.1 rfl rfl (Nat.le_of_ble_eq_true rfl) dX12_hoursOf_23 rfl rfl ⟨Nat.le_of_ble_eq_true rfl, Nat.le_of_ble_eq_true rfl⟩ ⟨Nat.le_refl _, Nat.le_refl _⟩) hS (fun x_10 H locs hp_9 hU hS => ?_)
    refine a_10 C hU hG (h1_10 hG) (x := x_10) (by omega) (by omega) dX12_hoursOf_26 (fun x_11 e_12 le_12 ue_12 => ?_)
    have te_12 := congrArg Int32.toInt e_12
    have ne_12 : x_11.toInt = (iv 10 0 (x_10 : Int32).toNatClampNeg).toInt := by rw [e_12, hF1.arr 10 0 (x_10 : Int32).toNatClampNeg (by decide)]
    have h26 := e_12
    rw [hp_9.2, thL_20 (fr20 hF1), fr20 hF1 10 0 _ (by decide)] at h26
    refine lv_isub hx hb dX12_hoursOf_27 ?_
    refine lv_topi (fun x_13 e_14 => ?_)
    have w_15 := fb_rng x_6
    have te_14 : x_13.toInt = (x_6 : Int32).toInt - (x_11 : Int32).toInt := by rw [e_14]; exact fb_subI (by omega) (by omega)
    refine q_pi (q_runS (As := [.int x_13]) (rest := []) C hU (c_X12_over  x_13 ) sm_X12_over ml_X12_187 hl.1 rfl rfl (Nat.le_of_ble_eq_true rfl) dX12_hoursOf_28 rfl rfl ⟨Nat.le_of_ble_eq_true rfl, Nat.le_of_ble_eq_true rfl⟩ ⟨Nat.le_refl _, Nat.le_refl _⟩) hS (fun x_17 H locs hp_16 hU hS => ?_)
    have q_18 := hp_16.2
    have tq_18 := congrArg Int32.toInt q_18
    exact hret (⟨hG, hF1, hF2, by unfold hoF; first | rw [if_pos (by omega)] | (rw [if_neg (by omega), q_18, e_14, h26, hso])⟩) hU hS dX12_hoursOf_31
  ·
    refine lv_sipush (v := 9999) hx hb dX12_hoursOf_10 (by decide) ?_
    refine lv_goto (tgt := 31) hx hb dX12_hoursOf_13 (by decide) ?_
    exact hret (⟨hG, hF1, hF2, by unfold hoF; first | rw [if_pos (by omega)] | (rw [if_neg (by omega), True.intro, True.intro, h26, hso])⟩) hU hS dX12_hoursOf_31
set_option maxHeartbeats 4000000 in
set_option maxRecDepth 100000 in
theorem c_X8_missedPlace_x {l : Launch} {D : va_G} {cA : FieldType → ClassId} {sz : Nat} {al : Al} {iv : Iv} {rv : Rv} (hG : GI al iv rv) (ti : Nat) (hti : ti < al.1 65) (conn : Int32) (pre0 : BM iv rv) (pre1 : conn = iv 15 0 2) : Met l yX8_missedPlace (wd yX8_missedPlace cX8_missedPlace 3 (some .int)) (rm 0) (PcW D cA sz al iv rv [.ref (al.2 65 ti), .int conn]) (QI D cA sz al (pI iv rv (fun r => (-9 ≤ r.toInt ∧ r.toInt ≤ 3) ∧ (r = mpX iv ti ∧ (r.toInt = -9 ∨ (0 ≤ r.toInt ∧ r.toInt < (iv 65 ti 4).toInt)))))) 0 0 (Aq sz) := by
  refine mk_i (by decide) (Nat.le_of_ble_eq_true rfl) rfl ?_
  intro p e s m args below meth c ls Q H locs C hU hS hl hret
  have hx := C.1.1
  have hb := C.1.2.1
  have hl : lv_has ls 3 [(0, .ref (al.2 65 ti)), (1, .int conn)] := hl
  have hG0 := hG
  have htk := tk_k hG pre0 hti
  have hsz := htk.2.1
  have tcon := congrArg Int32.toInt pre1
  have km9 : ((-9) : Int32).toInt = -9 := by decide
  have k0 : (0 : Int32).toInt = 0 := by decide
  have k1 : (1 : Int32).toInt = 1 := by decide
  refine lv_iconst (v := 0) hx hb dX8_missedPlace_0 (by decide) ?_
  refine lv_istore_n (lv' := [(2, .int 0), (0, .ref (al.2 65 ti)), (1, .int conn)]) hx hb dX8_missedPlace_1 rfl hl (by decide) rfl (fun ls hl => ?_)
  have J_2 : ∀ (n_2 : Nat) (l2_1 : Int32) (ls : Array Slot), lv_has ls 3 [(0, .ref (al.2 65 ti)), (1, .int conn), (2, .int l2_1)] → (0 ≤ l2_1.toInt ∧ l2_1.toInt ≤ 4) → (msN iv ti l2_1.toNatClampNeg).toInt < 0 → l2_1.toInt ≤ (iv 65 ti 4).toInt → (4 - l2_1.toInt).toNat < n_2 → W p l e (rm 0) s m args below meth c H locs 0 0 Q (F0 m 2 ls []) := by
    intro n_2
    induction n_2 with
    | zero =>
      intro l2_1 ls hl i2_0 i2_1 i2_2 hm_2
      exact absurd hm_2 (Nat.not_lt_zero _)
    | succ n_2 ih_2 =>
      intro l2_1 ls hl i2_0 i2_1 i2_2 hm_2
      refine lv_iload_n hx hb dX8_missedPlace_2 rfl (lv_at hl 2 rfl) ?_
      refine lv_aload_n hx hb dX8_missedPlace_3 rfl (lv_at hl 0 rfl) ?_
      refine g_65_4 C hU hG hti fl_X8_28 dX8_missedPlace_4 (fun x_2 e_3 le_3 ue_3 => ?_)
      have te_3 := congrArg Int32.toInt e_3
      refine b_icmp_ge (tgt := 61) hx hb dX8_missedPlace_7 (by decide) (fun c_4 => ?_) (fun c_4 => ?_)
      ·
        refine lv_bipush (v := (-9)) hx hb dX8_missedPlace_61 (by decide) ?_
        exact hret (⟨rfl, rfl, ⟨⟨by omega, by omega⟩, ⟨mpx_end i2_1 htk.1 (by omega), by omega⟩⟩⟩) hU hS dX8_missedPlace_63
      ·
        refine lv_aload_n hx hb dX8_missedPlace_10 rfl (lv_at hl 0 rfl) ?_
        refine g_65_3 C hU hG hti fl_X8_24 dX8_missedPlace_11 (fun hb_5 => ?_)
        refine lv_iload_n hx hb dX8_missedPlace_14 rfl (lv_at hl 2 rfl) ?_
        refine a_66 C hU hG hb_5 (x := l2_1) (by omega) (by omega) dX8_missedPlace_15 (fun r_6 er_7 hb_8 => ?_)
        obtain ⟨j_9, ej_10⟩ : ∃ j, r_6 = some j := (tleg hG hti (by omega) (by omega)).imp (fun _ h => er_7.trans h)
        subst ej_10
        have hl : lv_has ls 3 [(0, .ref (al.2 65 ti)), (1, .int conn), (2, .int l2_1)] := hl
        have hb_11 : j_9 < al.1 62 := hb_8 j_9 rfl
        have hw := tk_ix hG0 pre0 hti er_7 (by omega) (by omega)
        have hl7 := lg_done hG0 pre0.1 hb_11 hw
        refine g_62_7 C hU hG hb_11 fl_X8_48 dX8_missedPlace_16 (fun x_12 e_13 le_13 ue_13 => ?_)
        have te_13 := congrArg Int32.toInt e_13
        refine b_if_ne (tgt := 24) hx hb dX8_missedPlace_19 (by decide) (fun c_14 => ?_) (fun c_14 => ?_)
        ·
          have hd : ¬ (iv 11 0 (rwL iv ti l2_1.toNatClampNeg)).toInt = 0 := by omega
          refine lv_iload_n hx hb dX8_missedPlace_24 rfl (lv_at hl 2 rfl) ?_
          have J_55 : ∀ (ls : Array Slot), lv_has ls 3 [(0, .ref (al.2 65 ti)), (1, .int conn), (2, .int l2_1)] → ¬ bad iv ti l2_1.toNatClampNeg → W p l e (rm 0) s m args below meth c H locs 0 0 Q (F0 m 55 ls []) := by
            intro ls hl i55_0
            obtain ⟨x_15, e_16⟩ : ∃ y : Int32, y = l2_1 + 1 := ⟨_, rfl⟩
            have te_16 : x_15.toInt = (l2_1 : Int32).toInt + (1 : Int32).toInt := by rw [e_16]; exact fb_addI (by omega) (by omega)
            refine lv_iinc (v := x_15) (lv' := [(2, .int x_15), (0, .ref (al.2 65 ti)), (1, .int conn)]) hx hb dX8_missedPlace_55 hl (k := 2) rfl (by rw [e_16]; rfl) (by decide) rfl (fun ls hl => ?_)
            refine lv_goto (tgt := 2) hx hb dX8_missedPlace_58 (by decide) ?_
            exact ih_2 x_15 _ (lv_sub hl [1, 2, 0] rfl) (by omega) (by first | exact ms_up (by omega) (by omega) i2_1 i55_0 | exact ms_0) (by omega) (by omega)
          refine b_if_le (tgt := 55) hx hb dX8_missedPlace_25 (by decide) (fun c_17 => ?_) (fun c_17 => ?_)
          ·
            exact J_55 _ (lv_sub hl [0, 1, 2] rfl) (by first | exact nb_0 hd (by omega) | exact nb_x hd True.intro hrt3.1 hw3 True.intro hrt4.2.1 hw4 True.intro tcon (by omega))
          ·
            refine lv_aload_n hx hb dX8_missedPlace_28 rfl (lv_at hl 0 rfl) ?_
            refine g_65_3 C hU hG hti fl_X8_24 dX8_missedPlace_29 (fun hb_18 => ?_)
            refine lv_iload_n hx hb dX8_missedPlace_32 rfl (lv_at hl 2 rfl) ?_
            refine a_66 C hU hG hb_18 (x := l2_1) (by omega) (by omega) dX8_missedPlace_33 (fun r_19 er_20 hb_21 => ?_)
            obtain ⟨j_22, ej_23⟩ : ∃ j, r_19 = some j := (tleg hG hti (by omega) (by omega)).imp (fun _ h => er_20.trans h)
            subst ej_23
            have hl : lv_has ls 3 [(0, .ref (al.2 65 ti)), (1, .int conn), (2, .int l2_1)] := hl
            have hb_24 : j_22 < al.1 62 := hb_21 j_22 rfl
            have hw3 := tk_ix hG0 pre0 hti er_20 (by omega) (by omega)
            have hrt3 := rt_x hG0 pre0.1 hb_24 (by have := lg_done hG0 pre0.1 hb_24 hw3; omega)
            refine g_62_10 C hU hG hb_24 fl_X8_52 dX8_missedPlace_34 (fun x_25 e_26 => ?_)
            have te_26 := congrArg Int32.toInt e_26
            refine lv_aload_n hx hb dX8_missedPlace_37 rfl (lv_at hl 0 rfl) ?_
            refine g_65_3 C hU hG hti fl_X8_24 dX8_missedPlace_38 (fun hb_27 => ?_)
            refine lv_iload_n hx hb dX8_missedPlace_41 rfl (lv_at hl 2 rfl) ?_
            refine lv_iconst (v := 1) hx hb dX8_missedPlace_42 (by decide) ?_
            refine lv_isub hx hb dX8_missedPlace_43 ?_
            refine lv_topi (fun x_28 e_29 => ?_)
            have te_29 : x_28.toInt = (l2_1 : Int32).toInt - (1 : Int32).toInt := by rw [e_29]; exact fb_subI (by omega) (by omega)
            refine a_66 C hU hG hb_27 (x := x_28) (by omega) (by omega) dX8_missedPlace_44 (fun r_30 er_31 hb_32 => ?_)
            obtain ⟨j_33, ej_34⟩ : ∃ j, r_30 = some j := (tleg hG hti (by omega) (by omega)).imp (fun _ h => er_31.trans h)
            subst ej_34
            have hl : lv_has ls 3 [(0, .ref (al.2 65 ti)), (1, .int conn), (2, .int l2_1)] := hl
            have hb_35 : j_33 < al.1 62 := hb_32 j_33 rfl
            have hw4 := tk_ix1 (x := l2_1) hG0 pre0 hti er_31 (by omega) (by omega) (by omega)
            have hrt4 := rt_x hG0 pre0.1 hb_35 (by have := lg_done hG0 pre0.1 hb_35 hw4; have w := ms_all (by rw [clamp_n]; omega) i2_1 (l2_1.toNatClampNeg - 1) (by rw [clamp_n]; omega); have w2 := nbd w; omega)
            refine g_62_11 C hU hG hb_35 fl_X8_55 dX8_missedPlace_45 (fun x_36 e_37 => ?_)
            have te_37 := congrArg Int32.toInt e_37
            refine lv_isub hx hb dX8_missedPlace_48 ?_
            refine lv_topi (fun x_38 e_39 => ?_)
            refine lv_iload_n hx hb dX8_missedPlace_49 rfl (lv_at hl 1 rfl) ?_
            refine b_icmp_ge (tgt := 55) hx hb dX8_missedPlace_50 (by decide) (fun c_40 => ?_) (fun c_40 => ?_)
            ·
              exact J_55 _ (lv_sub hl [0, 1, 2] rfl) (by first | exact nb_0 hd (by omega) | exact nb_x hd e_26 hrt3.1 hw3 e_37 hrt4.2.1 hw4 e_39 tcon (by omega))
            ·
              refine lv_iload_n hx hb dX8_missedPlace_53 rfl (lv_at hl 2 rfl) ?_
              exact hret (⟨rfl, rfl, ⟨⟨by omega, by omega⟩, ⟨by rw [mpx_ret i2_1 (Or.inr ⟨by rw [clamp_n]; omega, bd_x e_26 hrt3.1 hw3 e_37 hrt4.2.1 hw4 e_39 tcon (by omega)⟩) htk.1 (by omega) (by omega)], by omega⟩⟩⟩) hU hS dX8_missedPlace_54
        ·
          refine lv_iload_n hx hb dX8_missedPlace_22 rfl (lv_at hl 2 rfl) ?_
          exact hret (⟨rfl, rfl, ⟨⟨by omega, by omega⟩, ⟨by rw [mpx_ret i2_1 (Or.inl (by omega)) htk.1 (by omega) (by omega)], by omega⟩⟩⟩) hU hS dX8_missedPlace_23
  exact J_2 _ 0 _ (lv_sub hl [1, 2, 0] rfl) (by omega) (by first | exact ms_up (by omega) (by omega) i2_1 i55_0 | exact ms_0) (by omega) (Nat.lt_succ_self _)
set_option maxHeartbeats 4000000 in
set_option maxRecDepth 100000 in
theorem c_X8_legAtFault_x {l : Launch} {D : va_G} {cA : FieldType → ClassId} {sz : Nat} {al : Al} {iv : Iv} {rv : Rv} (hG : GI al iv rv) (ti : Nat) (hti : ti < al.1 65) (conn : Int32) (pre0 : BM iv rv) (pre1 : conn = iv 15 0 2) : Met l yX8_legAtFault (wd yX8_legAtFault cX8_legAtFault 3 (some (.object "LateClaims$Leg"))) (rm 1) (PcW D cA sz al iv rv [.ref (al.2 65 ti), .int conn]) (QR D cA sz al 62 (pR iv rv (fun r => (∃ j, r = some j ∧ j < al.1 62) ∧ (r = some (lfF iv ti))))) 0 0 (Aq sz) := by
  refine mk_r (by decide) (Nat.le_of_ble_eq_true rfl) rfl ?_
  intro p e s m args below meth c ls Q H locs C hU hS hl hret
  have hx := C.1.1
  have hb := C.1.2.1
  have hl : lv_has ls 3 [(0, .ref (al.2 65 ti)), (1, .int conn)] := hl
  have hG0 := hG
  have htk := tk_k hG pre0 hti
  have h19 : (iv 19 0 ti).toInt ≤ 40 := by rw [htk.1]; have := sz4 hG hti; omega
  have km9 : ((-9) : Int32).toInt = -9 := by decide
  have k1 : (1 : Int32).toInt = 1 := by decide
  refine lv_aload_n hx hb dX8_legAtFault_0 rfl (lv_at hl 0 rfl) ?_
  refine lv_iload_n hx hb dX8_legAtFault_1 rfl (lv_at hl 1 rfl) ?_
  refine q_pi (q_runV (t := 65) (i := ti) (As := [.int conn]) (rest := []) C hU (c_X8_missedPlace_x hG (ti) hti conn (pre0) (pre1)) vm_X8_missedPlace ml_X8_58 k_65.1 (hc := rfl) rfl hti hl.1 rfl rfl (Nat.le_of_ble_eq_true rfl) dX8_legAtFault_2 rfl rfl ⟨Nat.le_of_ble_eq_true rfl, Nat.le_of_ble_eq_true rfl⟩ ⟨Nat.le_refl _, Nat.le_refl _⟩) hS (fun x_2 H locs hp_1 hU hS => ?_)
  refine lv_istore_n (lv' := [(2, .int x_2), (0, .ref (al.2 65 ti)), (1, .int conn)]) hx hb dX8_legAtFault_5 rfl hl (by decide) rfl (fun ls hl => ?_)
  have hmp := hp_1.2.1
  have tmp := mpx_t hmp
  refine lv_iload_n hx hb dX8_legAtFault_6 rfl (lv_at hl 0 rfl) ?_
  refine lv_bipush (v := (-9)) hx hb dX8_legAtFault_7 (by decide) ?_
  refine b_icmp_ne (tgt := 17) hx hb dX8_legAtFault_9 (by decide) (fun c_3 => ?_) (fun c_3 => ?_)
  ·
    refine lv_iload_n hx hb dX8_legAtFault_17 rfl (lv_at hl 0 rfl) ?_
    refine b_if_eq (tgt := 33) hx hb dX8_legAtFault_18 (by decide) (fun c_4 => ?_) (fun c_4 => ?_)
    ·
      refine lv_aload_n hx hb dX8_legAtFault_33 rfl (lv_at hl 1 rfl) ?_
      refine g_65_3 C hU hG hti fl_X8_24 dX8_legAtFault_34 (fun hb_5 => ?_)
      refine lv_iload_n hx hb dX8_legAtFault_37 rfl (lv_at hl 0 rfl) ?_
      refine a_66 C hU hG hb_5 (x := x_2) (by omega) (by omega) dX8_legAtFault_38 (fun r_6 er_7 hb_8 => ?_)
      obtain ⟨j_9, ej_10⟩ : ∃ j, r_6 = some j := (tleg hG hti (by omega) (by omega)).imp (fun _ h => er_7.trans h)
      subst ej_10
      have hl : lv_has ls 3 [(2, .int x_2), (0, .ref (al.2 65 ti)), (1, .int conn)] := hl
      have hb_11 : j_9 < al.1 62 := hb_8 j_9 rfl
      refine lv_goto (tgt := 50) hx hb dX8_legAtFault_39 (by decide) ?_
      exact hret (some j_9) (⟨rfl, rfl, ⟨⟨j_9, rfl, hb_11⟩, by first | exact lfx_2 hmp (by omega) (by omega) (tk_ix hG0 pre0 hti er_7 (by omega) (by omega)) | exact lfx_3 hmp (by omega) (by omega) (tk_ix hG0 pre0 hti er_7 (by omega) (by omega)) | exact lfx_4 hmp (by omega) (by omega) (tk_ix1 (x := x_2) hG0 pre0 hti True.intro (by omega) (by omega) (by omega))⟩⟩) hU hS dX8_legAtFault_50
    ·
      refine lv_aload_n hx hb dX8_legAtFault_21 rfl (lv_at hl 1 rfl) ?_
      refine g_65_3 C hU hG hti fl_X8_24 dX8_legAtFault_22 (fun hb_12 => ?_)
      refine lv_iload_n hx hb dX8_legAtFault_25 rfl (lv_at hl 0 rfl) ?_
      refine a_66 C hU hG hb_12 (x := x_2) (by omega) (by omega) dX8_legAtFault_26 (fun r_13 er_14 hb_15 => ?_)
      obtain ⟨j_16, ej_17⟩ : ∃ j, r_13 = some j := (tleg hG hti (by omega) (by omega)).imp (fun _ h => er_14.trans h)
      subst ej_17
      have hl : lv_has ls 3 [(2, .int x_2), (0, .ref (al.2 65 ti)), (1, .int conn)] := hl
      have hb_18 : j_16 < al.1 62 := hb_15 j_16 rfl
      have hw26 := tk_ix hG0 pre0 hti er_14 (by omega) (by omega)
      have hl26 := lg_done hG0 pre0.1 hb_18 hw26
      refine g_62_7 C hU hG hb_18 fl_X8_48 dX8_legAtFault_27 (fun x_19 e_20 le_20 ue_20 => ?_)
      have te_20 := congrArg Int32.toInt e_20
      refine b_if_ne (tgt := 42) hx hb dX8_legAtFault_30 (by decide) (fun c_21 => ?_) (fun c_21 => ?_)
      ·
        refine lv_aload_n hx hb dX8_legAtFault_42 rfl (lv_at hl 1 rfl) ?_
        refine g_65_3 C hU hG hti fl_X8_24 dX8_legAtFault_43 (fun hb_22 => ?_)
        refine lv_iload_n hx hb dX8_legAtFault_46 rfl (lv_at hl 0 rfl) ?_
        refine lv_iconst (v := 1) hx hb dX8_legAtFault_47 (by decide) ?_
        refine lv_isub hx hb dX8_legAtFault_48 ?_
        refine lv_topi (fun x_23 e_24 => ?_)
        have te_24 : x_23.toInt = (x_2 : Int32).toInt - (1 : Int32).toInt := by rw [e_24]; exact fb_subI (by omega) (by omega)
        refine a_66 C hU hG hb_22 (x := x_23) (by omega) (by omega) dX8_legAtFault_49 (fun r_25 er_26 hb_27 => ?_)
        obtain ⟨j_28, ej_29⟩ : ∃ j, r_25 = some j := (tleg hG hti (by omega) (by omega)).imp (fun _ h => er_26.trans h)
        subst ej_29
        have hl : lv_has ls 3 [(2, .int x_2), (0, .ref (al.2 65 ti)), (1, .int conn)] := hl
        have hb_30 : j_28 < al.1 62 := hb_27 j_28 rfl
        exact hret (some j_28) (⟨rfl, rfl, ⟨⟨j_28, rfl, hb_30⟩, by first | exact lfx_2 hmp (by omega) (by omega) (tk_ix hG0 pre0 hti True.intro (by omega) (by omega)) | exact lfx_3 hmp (by omega) (by omega) (tk_ix hG0 pre0 hti True.intro (by omega) (by omega)) | exact lfx_4 hmp (by omega) (by omega) (tk_ix1 (x := x_2) hG0 pre0 hti er_26 (by omega) (by omega) (by omega))⟩⟩) hU hS dX8_legAtFault_50
      ·
        refine lv_aload_n hx hb dX8_legAtFault_33 rfl (lv_at hl 1 rfl) ?_
        refine g_65_3 C hU hG hti fl_X8_24 dX8_legAtFault_34 (fun hb_31 => ?_)
        refine lv_iload_n hx hb dX8_legAtFault_37 rfl (lv_at hl 0 rfl) ?_
        refine a_66 C hU hG hb_31 (x := x_2) (by omega) (by omega) dX8_legAtFault_38 (fun r_32 er_33 hb_34 => ?_)
        obtain ⟨j_35, ej_36⟩ : ∃ j, r_32 = some j := (tleg hG hti (by omega) (by omega)).imp (fun _ h => er_33.trans h)
        subst ej_36
        have hl : lv_has ls 3 [(2, .int x_2), (0, .ref (al.2 65 ti)), (1, .int conn)] := hl
        have hb_37 : j_35 < al.1 62 := hb_34 j_35 rfl
        refine lv_goto (tgt := 50) hx hb dX8_legAtFault_39 (by decide) ?_
        exact hret (some j_35) (⟨rfl, rfl, ⟨⟨j_35, rfl, hb_37⟩, by first | exact lfx_2 hmp (by omega) (by omega) (tk_ix hG0 pre0 hti er_33 (by omega) (by omega)) | exact lfx_3 hmp (by omega) (by omega) (tk_ix hG0 pre0 hti er_33 (by omega) (by omega)) | exact lfx_4 hmp (by omega) (by omega) (tk_ix1 (x := x_2) hG0 pre0 hti True.intro (by omega) (by omega) (by omega))⟩⟩) hU hS dX8_legAtFault_50
  ·
    refine lv_aload_n hx hb dX8_legAtFault_12 rfl (lv_at hl 1 rfl) ?_
    refine g_65_2 C hU hG hti fl_X8_19 dX8_legAtFault_13 (fun j_38 ej_39 hb_40 => ?_)
    exact hret (some j_38) (⟨rfl, rfl, ⟨⟨j_38, rfl, hb_40⟩, lfx_1 htk hmp (by omega) ej_39⟩⟩) hU hS dX8_legAtFault_16
set_option maxHeartbeats 4000000 in
set_option maxRecDepth 100000 in
theorem c_J7_fill_53178_59x {l : Launch} {D : va_G} {cA : FieldType → ClassId} {sz : Nat} {al : Al} {iv : Iv} {rv : Rv} (hG : GI al iv rv) (v : Int32) : Met l yJ7_fill_53178 (wd yJ7_fill_53178 cJ7_fill_53178 4 none) (rm 0) (PcW D cA sz al iv rv [.ref (al.2 59 0), .int v]) (QV D cA sz al (fV al ([59], []) iv rv (fun iv' rv' => ∀ k : Nat, k < 6 → iv' 59 0 k = v))) 0 0 (Aq sz) := by
  refine mk_v (by decide) (Nat.le_of_ble_eq_true rfl) rfl ?_
  intro p e s m args below meth c ls Q H locs C hU hS hl hret
  have hx := C.1.1
  have hb := C.1.2.1
  have hl : lv_has ls 4 [(0, .ref (al.2 59 0)), (1, .int v)] := hl
  have hG0 := hG
  have hF1 : FR ([59], []) iv iv := FR.rf
  have hF2 : FR ([59], []) rv rv := FR.rf
  have k0 : (0 : Int32).toInt = 0 := by decide
  have k1 : (1 : Int32).toInt = 1 := by decide
  have k6 : (6 : Int32).toInt = 6 := by decide
  refine lv_iconst (v := 0) hx hb dJ7_fill_53178_0 (by decide) ?_
  refine lv_istore_n (lv' := [(2, .int 0), (0, .ref (al.2 59 0)), (1, .int v)]) hx hb dJ7_fill_53178_1 rfl hl (by decide) rfl (fun ls hl => ?_)
  refine lv_aload_n hx hb dJ7_fill_53178_2 rfl (lv_at hl 1 rfl) ?_
  refine q_alen (t := 59) (v := 6) C hU k_59 (by decide) (h1_59 hG) (by decide) dJ7_fill_53178_3 ?_
  refine lv_istore_n (lv' := [(3, .int 6), (2, .int 0), (0, .ref (al.2 59 0)), (1, .int v)]) hx hb dJ7_fill_53178_4 rfl hl (by decide) rfl (fun ls hl => ?_)
  have J_5 : ∀ (n_5 : Nat) (l2_1 : Int32) (iv_2 : Iv) (rv_3 : Rv) (H : Heap) (locs : List Loc) (ls : Array Slot), lv_has ls 4 [(0, .ref (al.2 59 0)), (1, .int v), (3, .int 6), (2, .int l2_1)] → GI al iv_2 rv_3 → FR ([59], []) iv iv_2 → FR ([59], []) rv rv_3 → UW D cA sz al iv_2 rv_3 H → va_S (Aq sz) s.heap H locs → (0 ≤ l2_1.toInt ∧ l2_1.toInt ≤ 6) → (∀ k : Nat, (k : Int) < l2_1.toInt → iv_2 59 0 k = v) → (6 - l2_1.toInt).toNat < n_5 → W p l e (rm 0) s m args below meth c H locs 0 0 Q (F0 m 5 ls []) := by
    intro n_5
    induction n_5 with
    | zero =>
      intro l2_1 iv_2 rv_3 H locs ls hl hG hF1 hF2 hU hS i5_0 i5_1 hm_5
      exact absurd hm_5 (Nat.not_lt_zero _)
    | succ n_5 ih_5 =>
      intro l2_1 iv_2 rv_3 H locs ls hl hG hF1 hF2 hU hS i5_0 i5_1 hm_5
      refine lv_iload_n hx hb dJ7_fill_53178_5 rfl (lv_at hl 3 rfl) ?_
      refine lv_iload_n hx hb dJ7_fill_53178_6 rfl (lv_at hl 2 rfl) ?_
      refine b_icmp_ge (tgt := 20) hx hb dJ7_fill_53178_7 (by decide) (fun c_4 => ?_) (fun c_4 => ?_)
      ·
        exact hret (⟨hG, hF1, hF2, fun k hk => i5_1 k (by omega)⟩) hU hS dJ7_fill_53178_20
      ·
        refine lv_aload_n hx hb dJ7_fill_53178_10 rfl (lv_at hl 0 rfl) ?_
        refine lv_iload_n hx hb dJ7_fill_53178_11 rfl (lv_at hl 3 rfl) ?_
        refine lv_iload_n hx hb dJ7_fill_53178_12 rfl (lv_at hl 1 rfl) ?_
        refine s_59 C hU hS (h1_59 hG) (x := l2_1) (by omega) (by omega) dJ7_fill_53178_13 (fun iv_5 H locs ei_6 hU hS => ?_)
        have hG : GI al iv_5 rv_3 := by rw [ei_6]; exact hG.puti (show _ ∧ _ from ⟨(fb_rng _).1, Int.le_of_lt_add_one (fb_rng _).2⟩) (nsA (by decide) _)
        have hF1 : FR ([59], []) iv iv_5 := by rw [ei_6]; exact hF1.put (Or.inl (by decide))
        obtain ⟨x_7, e_8⟩ : ∃ y : Int32, y = l2_1 + 1 := ⟨_, rfl⟩
        have te_8 : x_7.toInt = (l2_1 : Int32).toInt + (1 : Int32).toInt := by rw [e_8]; exact fb_addI (by omega) (by omega)
        refine lv_iinc (v := x_7) (lv' := [(2, .int x_7), (0, .ref (al.2 59 0)), (1, .int v), (3, .int 6)]) hx hb dJ7_fill_53178_14 hl (k := 3) rfl (by rw [e_8]; rfl) (by decide) rfl (fun ls hl => ?_)
        refine lv_goto (tgt := 5) hx hb dJ7_fill_53178_17 (by decide) ?_
        exact ih_5 x_7 _ _ _ _ _ (lv_sub hl [1, 2, 3, 0] rfl) hG hF1 hF2 hU hS (by omega) (by first | (intro k hk; exfalso; omega) | exact fl_s i5_1 ei_6 (by omega) (by omega)) (by omega)
  exact J_5 _ 0 _ _ _ _ _ (lv_sub hl [2, 3, 0, 1] rfl) hG hF1 hF2 hU hS (by omega) (by first | (intro k hk; exfalso; omega) | exact fl_s i5_1 True.intro (by omega) (by omega)) (Nat.lt_succ_self _)
set_option maxHeartbeats 4000000 in
set_option maxRecDepth 100000 in
theorem c_X10_aheadOf_x {l : Launch} {D : va_G} {cA : FieldType → ClassId} {sz : Nat} {al : Al} {iv : Iv} {rv : Rv} (hG : GI al iv rv) (li : Nat) (hli : li < al.1 62) (crew : Int32) (gap : Int32) (pre0 : BA iv rv) (pre1 : gap = rsF iv crew) : Met l yX10_aheadOf (wd yX10_aheadOf cX10_aheadOf 8 (some (.object "LateClaims$Leg"))) (rm 0) (PcW D cA sz al iv rv [.ref (al.2 57 0), .ref (al.2 62 li), .int crew, .int gap]) (QR D cA sz al 62 (pR iv rv (fun r => (∀ j, r = some j → j < al.1 62) ∧ (r = oI (ahF iv li crew))))) 0 0 (Aq sz) := by
  refine mk_r (by decide) (Nat.le_of_ble_eq_true rfl) rfl ?_
  intro p e s m args below meth c ls Q H locs C hU hS hl hret
  have hx := C.1.1
  have hb := C.1.2.1
  have hl : lv_has ls 8 [(0, .ref (al.2 57 0)), (1, .ref (al.2 62 li)), (2, .int crew), (3, .int gap)] := hl
  have hG0 := hG
  have hn6 := congrArg Int32.toInt pre0.1
  have tgap := congrArg Int32.toInt pre1
  have lfl := lf_i hG pre0.2.1 hli
  have n57 : (iv 57 0 1).toInt = al.1 62 := hG.2.2.2.1.2
  have k0 : (0 : Int32).toInt = 0 := by decide
  have k1 : (1 : Int32).toInt = 1 := by decide
  refine lv_null hx hb dX10_aheadOf_0 ?_
  refine lv_astoreN (lv' := [(4, .null), (0, .ref (al.2 57 0)), (1, .ref (al.2 62 li)), (2, .int crew), (3, .int gap)]) hx hb dX10_aheadOf_1 hl (by decide) rfl (fun ls hl => ?_)
  refine lv_iconst (v := 0) hx hb dX10_aheadOf_3 (by decide) ?_
  refine lv_istore (lv' := [(5, .int 0), (4, .null), (0, .ref (al.2 57 0)), (1, .ref (al.2 62 li)), (2, .int crew), (3, .int gap)]) hx hb dX10_aheadOf_4 hl (by decide) rfl (fun ls hl => ?_)
  have J_6 : ∀ (n_6 : Nat) (r_1 : Option Nat) (l5_3 : Int32) (ls : Array Slot), lv_has ls 8 [(0, .ref (al.2 57 0)), (1, .ref (al.2 62 li)), (2, .int crew), (3, .int gap), (4, rfv al 62 r_1), (5, .int l5_3)] → (∀ j, r_1 = some j → j < al.1 62) → (0 ≤ l5_3.toInt ∧ l5_3.toInt ≤ 40) → r_1 = oI (ahN iv li crew l5_3.toNatClampNeg) → l5_3.toInt ≤ (iv 57 0 1).toInt → (40 - l5_3.toInt).toNat < n_6 → W p l e (rm 0) s m args below meth c H locs 0 0 Q (F0 m 6 ls []) := by
    intro n_6
    induction n_6 with
    | zero =>
      intro r_1 l5_3 ls hl hb_2 i6_0 i6_1 i6_2 hm_6
      exact absurd hm_6 (Nat.not_lt_zero _)
    | succ n_6 ih_6 =>
      intro r_1 l5_3 ls hl hb_2 i6_0 i6_1 i6_2 hm_6
      have hb4 := hb_2
      refine lv_iload hx hb dX10_aheadOf_6 (lv_at hl 5 rfl) ?_
      refine lv_aload_n hx hb dX10_aheadOf_8 rfl (lv_at hl 0 rfl) ?_
      refine g_57_1 C hU hG (h1_57 hG) fl_X10_28 dX10_aheadOf_9 (fun x_4 e_5 le_5 ue_5 => ?_)
      have te_5 := congrArg Int32.toInt e_5
      refine b_icmp_ge (tgt := 129) hx hb dX10_aheadOf_12 (by decide) (fun c_6 => ?_) (fun c_6 => ?_)
      ·
        refine b_aload (al := al) (t' := 62) (r := r_1) hx hb dX10_aheadOf_129 (lv_at hl 4 rfl) ?_
        exact hret (r_1) (⟨rfl, rfl, ⟨hb_2, by rw [i6_1, ahF, clamp_eq (show (l5_3 : Int32).toInt = (iv 0 0 6).toInt by omega)]⟩⟩) hU hS dX10_aheadOf_131
      ·
        refine lv_aload_n hx hb dX10_aheadOf_15 rfl (lv_at hl 0 rfl) ?_
        refine g_57_0 C hU hG (h1_57 hG) fl_X10_13 dX10_aheadOf_16 ?_
        refine lv_iload hx hb dX10_aheadOf_19 (lv_at hl 5 rfl) ?_
        refine a_58 C hU hG (h1_58 hG) (x := l5_3) (by omega) (by omega) dX10_aheadOf_21 (fun r_7 er_8 hb_9 => ?_)
        obtain ⟨j_10, ej_11⟩ : ∃ j, r_7 = some j := ⟨_, er_8.trans (tall hG (by omega) (by omega))⟩
        subst ej_11
        have hl : lv_has ls 8 [(0, .ref (al.2 57 0)), (1, .ref (al.2 62 li)), (2, .int crew), (3, .int gap), (4, rfv al 62 r_1), (5, .int l5_3)] := hl
        have hb_12 : j_10 < al.1 62 := hb_9 j_10 rfl
        refine lv_astore (lv' := [(6, .ref (al.2 62 j_10)), (0, .ref (al.2 57 0)), (1, .ref (al.2 62 li)), (2, .int crew), (3, .int gap), (4, rfv al 62 r_1), (5, .int l5_3)]) hx hb dX10_aheadOf_22 hl (by decide) rfl (fun ls hl => ?_)
        have hj6 := tix hG er_8 (by omega) (by omega)
        have lfj := lf_j hG pre0.2.1 hb_12 hj6
        refine lv_iload_n hx hb dX10_aheadOf_24 rfl (lv_at hl 3 rfl) ?_
        have J_65 : ∀ (v_13 : Int32) (ls : Array Slot), lv_has ls 8 [(0, .ref (al.2 57 0)), (1, .ref (al.2 62 li)), (2, .int crew), (3, .int gap), (4, rfv al 62 r_1), (5, .int l5_3), (6, .ref (al.2 62 j_10))] → (0 ≤ v_13.toInt ∧ v_13.toInt ≤ 1) → ((v_13.toInt = 1 ∧ ((¬ crew.toInt = 0 ∧ (iv 62 j_10 4).toInt = (iv 62 li 4).toInt) ∨ (crew.toInt = 0 ∧ (iv 62 j_10 3).toInt = (iv 62 li 3).toInt))) ∨ (v_13.toInt = 0 ∧ ¬ ((¬ crew.toInt = 0 ∧ (iv 62 j_10 4).toInt = (iv 62 li 4).toInt) ∨ (crew.toInt = 0 ∧ (iv 62 j_10 3).toInt = (iv 62 li 3).toInt)))) → W p l e (rm 0) s m args below meth c H locs 0 0 Q (F0 m 65 ls [.int v_13]) := by
          intro v_13 ls hl i65_0 i65_1
          refine lv_istore (lv' := [(7, .int v_13), (0, .ref (al.2 57 0)), (1, .ref (al.2 62 li)), (2, .int crew), (3, .int gap), (4, rfv al 62 r_1), (5, .int l5_3), (6, .ref (al.2 62 j_10))]) hx hb dX10_aheadOf_65 hl (by decide) rfl (fun ls hl => ?_)
          refine lv_iload hx hb dX10_aheadOf_67 (lv_at hl 0 rfl) ?_
          have J_123 : ∀ (r_14 : Option Nat) (ls : Array Slot), lv_has ls 8 [(0, .ref (al.2 57 0)), (1, .ref (al.2 62 li)), (2, .int crew), (3, .int gap), (5, .int l5_3), (4, rfv al 62 r_14)] → (∀ j, r_14 = some j → j < al.1 62) → r_14 = oI (ahStep iv li crew (ahN iv li crew l5_3.toNatClampNeg) l5_3.toNatClampNeg) → W p l e (rm 0) s m args below meth c H locs 0 0 Q (F0 m 123 ls []) := by
            intro r_14 ls hl hb_15 i123_0
            obtain ⟨x_16, e_17⟩ : ∃ y : Int32, y = l5_3 + 1 := ⟨_, rfl⟩
            have te_17 : x_16.toInt = (l5_3 : Int32).toInt + (1 : Int32).toInt := by rw [e_17]; exact fb_addI (by omega) (by omega)
            refine lv_iinc (v := x_16) (lv' := [(5, .int x_16), (0, .ref (al.2 57 0)), (1, .ref (al.2 62 li)), (2, .int crew), (3, .int gap), (4, rfv al 62 r_14)]) hx hb dX10_aheadOf_123 hl (k := 4) rfl (by rw [e_17]; rfl) (by decide) (by simp [List.filter_cons, rfv_cat]) (fun ls hl => ?_)
            refine lv_goto (tgt := 6) hx hb dX10_aheadOf_126 (by decide) ?_
            exact ih_6 r_14 x_16 _ (lv_sub hl [1, 2, 3, 4, 5, 0] rfl) hb_15 (by omega) (by first | exact ahx_up (by omega) (by omega) i123_0 | exact ahx_0) (by omega) (by omega)
          refine b_if_eq (tgt := 123) hx hb dX10_aheadOf_69 (by decide) (fun c_18 => ?_) (fun c_18 => ?_)
          ·
            exact J_123 r_1 _ (lv_sub hl [1, 2, 3, 4, 6, 5] rfl) hb_2 (by first | exact ahx_no i6_1 (by omega) | exact ahx_yes hG pre0.2.1 hb4 i6_1 i119_0 hj6 (by omega) ⟨by omega, by omega, by omega⟩)
          ·
            refine lv_aload hx hb dX10_aheadOf_72 (lv_at hl 7 rfl) ?_
            refine g_62_2 C hU hG hb_12 fl_X10_52 dX10_aheadOf_74 (fun j_19 ej_20 hb_21 => ?_)
            have hp1 := lf_to hG pre0.2.1 hb_12 hj6 ej_20
            refine lv_aload_n hx hb dX10_aheadOf_77 rfl (lv_at hl 2 rfl) ?_
            refine g_62_1 C hU hG hli fl_X10_56 dX10_aheadOf_78 (fun j_22 ej_23 hb_24 => ?_)
            have hp2 := lf_fr hG pre0.2.1 hli ej_23
            refine b_acmp_ne (tgt := 123) hx hb hU hb_21 hb_24 dX10_aheadOf_81 (by decide) (fun c_25 => ?_) (fun c_25 => ?_)
            ·
              exact J_123 r_1 _ (lv_sub hl [1, 2, 3, 4, 6, 5] rfl) hb_2 (by first | exact ahx_no i6_1 (by omega) | exact ahx_yes hG pre0.2.1 hb4 i6_1 i119_0 hj6 (by omega) ⟨by omega, by omega, by omega⟩)
            ·
              refine lv_aload_n hx hb dX10_aheadOf_84 rfl (lv_at hl 2 rfl) ?_
              refine g_62_5 C hU hG hli fl_X10_59 dX10_aheadOf_85 (fun x_26 e_27 le_27 ue_27 => ?_)
              have te_27 := congrArg Int32.toInt e_27
              refine lv_aload hx hb dX10_aheadOf_88 (lv_at hl 7 rfl) ?_
              refine g_62_6 C hU hG hb_12 fl_X10_62 dX10_aheadOf_90 (fun x_28 e_29 le_29 ue_29 => ?_)
              have te_29 := congrArg Int32.toInt e_29
              refine lv_isub hx hb dX10_aheadOf_93 ?_
              refine lv_topi (fun x_30 e_31 => ?_)
              have te_31 : x_30.toInt = (x_26 : Int32).toInt - (x_28 : Int32).toInt := by rw [e_31]; exact fb_subI (by omega) (by omega)
              refine lv_iload_n hx hb dX10_aheadOf_94 rfl (lv_at hl 4 rfl) ?_
              refine b_icmp_ge (tgt := 101) hx hb dX10_aheadOf_95 (by decide) (fun c_32 => ?_) (fun c_32 => ?_)
              ·
                refine b_aload (al := al) (t' := 62) (r := r_1) hx hb dX10_aheadOf_101 (lv_at hl 5 rfl) ?_
                have J_119 : ∀ (ls : Array Slot), lv_has ls 8 [(0, .ref (al.2 57 0)), (1, .ref (al.2 62 li)), (2, .int crew), (3, .int gap), (5, .int l5_3), (6, .ref (al.2 62 j_10))] → (∀ q : Nat, r_1 = some q → (iv 62 q 6).toInt ≤ (iv 62 j_10 6).toInt) → W p l e (rm 0) s m args below meth c H locs 0 0 Q (F0 m 119 ls []) := by
                  intro ls hl i119_0
                  refine lv_aload hx hb dX10_aheadOf_119 (lv_at hl 5 rfl) ?_
                  refine lv_astore (lv' := [(4, .ref (al.2 62 j_10)), (0, .ref (al.2 57 0)), (1, .ref (al.2 62 li)), (2, .int crew), (3, .int gap), (5, .int l5_3), (6, .ref (al.2 62 j_10))]) hx hb dX10_aheadOf_121 hl (by decide) rfl (fun ls hl => ?_)
                  exact J_123 (some j_10) _ (lv_sub hl [1, 2, 3, 4, 5, 0] rfl) (fun _ h => by cases h; exact hb_12) (by first | exact ahx_no i6_1 (by omega) | exact ahx_yes hG pre0.2.1 hb4 i6_1 i119_0 hj6 (by omega) ⟨by omega, by omega, by omega⟩)
                refine b_ifnull (tgt := 119) hx hb dX10_aheadOf_103 (by decide) (fun ej_35 => ?_) (fun j_34 ej_35 => ?_)
                ·
                  subst ej_35
                  have hl : lv_has ls 8 [(7, .int v_13), (0, .ref (al.2 57 0)), (1, .ref (al.2 62 li)), (2, .int crew), (3, .int gap), (4, rfv al 62 none), (5, .int l5_3), (6, .ref (al.2 62 j_10))] := hl
                  have hb1 := oI_none i6_1
                  exact J_119 _ (lv_sub hl [1, 2, 3, 4, 6, 7] rfl) (by first | (intro _ h; cases h; done) | (intro _ h; cases h; omega))
                ·
                  subst ej_35
                  have hl : lv_has ls 8 [(7, .int v_13), (0, .ref (al.2 57 0)), (1, .ref (al.2 62 li)), (2, .int crew), (3, .int gap), (4, .ref (al.2 62 j_34)), (5, .int l5_3), (6, .ref (al.2 62 j_10))] := hl
                  have hb_36 : j_34 < al.1 62 := hb_2 j_34 rfl
                  have hb1 := oI_some i6_1
                  have hb2 := lf_b hG pre0.2.1 hb_36 hb1.2
                  refine lv_aload hx hb dX10_aheadOf_106 (lv_at hl 7 rfl) ?_
                  refine g_62_6 C hU hG hb_12 fl_X10_62 dX10_aheadOf_108 (fun x_37 e_38 le_38 ue_38 => ?_)
                  have te_38 := congrArg Int32.toInt e_38
                  refine lv_aload hx hb dX10_aheadOf_111 (lv_at hl 5 rfl) ?_
                  refine g_62_6 C hU hG hb_36 fl_X10_62 dX10_aheadOf_113 (fun x_39 e_40 le_40 ue_40 => ?_)
                  have te_40 := congrArg Int32.toInt e_40
                  refine b_icmp_lt (tgt := 123) hx hb dX10_aheadOf_116 (by decide) (fun c_41 => ?_) (fun c_41 => ?_)
                  ·
                    exact J_123 (some j_34) _ (lv_sub hl [1, 2, 3, 4, 6, 5] rfl) (fun _ h => by cases h; exact hb_36) (by first | exact ahx_no i6_1 (by omega) | exact ahx_yes hG pre0.2.1 hb4 i6_1 i119_0 hj6 (by omega) ⟨by omega, by omega, by omega⟩)
                  ·
                    exact J_119 _ (lv_sub hl [1, 2, 3, 4, 6, 7] rfl) (by first | (intro _ h; cases h; done) | (intro _ h; cases h; omega))
              ·
                refine lv_goto (tgt := 123) hx hb dX10_aheadOf_98 (by decide) ?_
                exact J_123 r_1 _ (lv_sub hl [1, 2, 3, 4, 6, 5] rfl) hb_2 (by first | exact ahx_no i6_1 (by omega) | exact ahx_yes hG pre0.2.1 hb4 i6_1 i119_0 hj6 (by omega) ⟨by omega, by omega, by omega⟩)
        refine b_if_eq (tgt := 48) hx hb dX10_aheadOf_25 (by decide) (fun c_42 => ?_) (fun c_42 => ?_)
        ·
          refine lv_aload hx hb dX10_aheadOf_48 (lv_at hl 0 rfl) ?_
          refine g_62_3 C hU hG hb_12 fl_X10_49 dX10_aheadOf_50 (fun x_43 e_44 le_44 ue_44 => ?_)
          have te_44 := congrArg Int32.toInt e_44
          refine lv_aload_n hx hb dX10_aheadOf_53 rfl (lv_at hl 2 rfl) ?_
          refine g_62_3 C hU hG hli fl_X10_49 dX10_aheadOf_54 (fun x_45 e_46 le_46 ue_46 => ?_)
          have te_46 := congrArg Int32.toInt e_46
          refine b_icmp_ne (tgt := 64) hx hb dX10_aheadOf_57 (by decide) (fun c_47 => ?_) (fun c_47 => ?_)
          ·
            refine lv_iconst (v := 0) hx hb dX10_aheadOf_64 (by decide) ?_
            exact J_65 0 _ (lv_sub hl [1, 2, 3, 4, 5, 6, 0] rfl) (by omega) (by omega)
          ·
            refine lv_iconst (v := 1) hx hb dX10_aheadOf_60 (by decide) ?_
            refine lv_goto (tgt := 65) hx hb dX10_aheadOf_61 (by decide) ?_
            exact J_65 1 _ (lv_sub hl [1, 2, 3, 4, 5, 6, 0] rfl) (by omega) (by omega)
        ·
          refine lv_aload hx hb dX10_aheadOf_28 (lv_at hl 0 rfl) ?_
          refine g_62_4 C hU hG hb_12 fl_X10_46 dX10_aheadOf_30 (fun x_48 e_49 le_49 ue_49 => ?_)
          have te_49 := congrArg Int32.toInt e_49
          refine lv_aload_n hx hb dX10_aheadOf_33 rfl (lv_at hl 2 rfl) ?_
          refine g_62_4 C hU hG hli fl_X10_46 dX10_aheadOf_34 (fun x_50 e_51 le_51 ue_51 => ?_)
          have te_51 := congrArg Int32.toInt e_51
          refine b_icmp_ne (tgt := 44) hx hb dX10_aheadOf_37 (by decide) (fun c_52 => ?_) (fun c_52 => ?_)
          ·
            refine lv_iconst (v := 0) hx hb dX10_aheadOf_44 (by decide) ?_
            refine lv_goto (tgt := 65) hx hb dX10_aheadOf_45 (by decide) ?_
            exact J_65 0 _ (lv_sub hl [1, 2, 3, 4, 5, 6, 0] rfl) (by omega) (by omega)
          ·
            refine lv_iconst (v := 1) hx hb dX10_aheadOf_40 (by decide) ?_
            refine lv_goto (tgt := 65) hx hb dX10_aheadOf_41 (by decide) ?_
            exact J_65 1 _ (lv_sub hl [1, 2, 3, 4, 5, 6, 0] rfl) (by omega) (by omega)
  exact J_6 _ none 0 _ (lv_sub hl [2, 3, 4, 5, 1, 0] rfl) (fun _ h => by cases h) (by omega) (by first | exact ahx_up (by omega) (by omega) i123_0 | exact ahx_0) (by omega) (Nat.lt_succ_self _)
set_option maxHeartbeats 4000000 in
set_option maxRecDepth 100000 in
theorem c_X5_waitFor_x {l : Launch} {D : va_G} {cA : FieldType → ClassId} {sz : Nat} {al : Al} {iv : Iv} {rv : Rv} (hG : GI al iv rv) (li : Nat) (hli : li < al.1 62) (bf : Option Nat) (hbf : ∀ j, bf = some j → j < al.1 62) (gap : Int32) : Met l yX5_waitFor (wd yX5_waitFor cX5_waitFor 4 (some .int)) (rm 1) (PcW D cA sz al iv rv [.ref (al.2 62 li), rfv al 62 bf, .int gap]) (QI D cA sz al (pI iv rv (fun r => r = wfX iv li bf gap))) 0 0 (Aq sz) := by
  cases bf with
  | none =>
    refine mk_i (by decide) (Nat.le_of_ble_eq_true rfl) rfl ?_
    intro p e s m args below meth c ls Q H locs C hU hS hl hret
    have hx := C.1.1
    have hb := C.1.2.1
    have hl : lv_has ls 4 [(0, .ref (al.2 62 li)), (1, .null), (2, .int gap)] := hl
    have hG0 := hG
    have k0 : (0 : Int32).toInt = 0 := by decide
    refine lv_aload_nN hx hb dX5_waitFor_0 rfl (lv_at hl 1 rfl) ?_
    refine lv_ifnullN (tgt := 11) hx hb dX5_waitFor_1 (by decide) ?_
    refine lv_iconst (v := 0) hx hb dX5_waitFor_11 (by decide) ?_
    exact hret (⟨rfl, rfl, by first | rfl | exact (wfX_0 (by omega)).symm⟩) hU hS dX5_waitFor_12
  | some bf_j =>
    have hbf_j : bf_j < al.1 62 := hbf bf_j rfl
    refine mk_i (by decide) (Nat.le_of_ble_eq_true rfl) rfl ?_
    intro p e s m args below meth c ls Q H locs C hU hS hl hret
    have hx := C.1.1
    have hb := C.1.2.1
    have hl : lv_has ls 4 [(0, .ref (al.2 62 li)), (1, .ref (al.2 62 bf_j)), (2, .int gap)] := hl
    have hG0 := hG
    have k0 : (0 : Int32).toInt = 0 := by decide
    refine lv_aload_n hx hb dX5_waitFor_0 rfl (lv_at hl 1 rfl) ?_
    refine lv_ifnull hx hb dX5_waitFor_1 ?_
    refine lv_aload_n hx hb dX5_waitFor_4 rfl (lv_at hl 1 rfl) ?_
    refine g_62_7 C hU hG hbf_j fl_X5_38 dX5_waitFor_5 (fun x_2 e_3 le_3 ue_3 => ?_)
    have te_3 := congrArg Int32.toInt e_3
    refine b_if_ne (tgt := 13) hx hb dX5_waitFor_8 (by decide) (fun c_4 => ?_) (fun c_4 => ?_)
    ·
      refine lv_iconst (v := 0) hx hb dX5_waitFor_13 (by decide) ?_
      refine lv_aload_n hx hb dX5_waitFor_14 rfl (lv_at hl 1 rfl) ?_
      refine g_62_11 C hU hG hbf_j fl_X5_59 dX5_waitFor_15 (fun x_5 e_6 => ?_)
      have te_6 := congrArg Int32.toInt e_6
      refine lv_iload_n hx hb dX5_waitFor_18 rfl (lv_at hl 2 rfl) ?_
      refine lv_iadd hx hb dX5_waitFor_19 ?_
      refine lv_topi (fun x_7 e_8 => ?_)
      refine lv_aload_n hx hb dX5_waitFor_20 rfl (lv_at hl 0 rfl) ?_
      refine g_62_5 C hU hG hli fl_X5_26 dX5_waitFor_21 (fun x_9 e_10 le_10 ue_10 => ?_)
      have te_10 := congrArg Int32.toInt e_10
      refine lv_isub hx hb dX5_waitFor_24 ?_
      refine lv_topi (fun x_11 e_12 => ?_)
      refine q_max C hl.1 ml_X5_50 (Nat.le_of_ble_eq_true rfl) (Nat.le_of_ble_eq_true rfl) (Nat.le_refl _) (Nat.le_refl _) dX5_waitFor_25 (fun x_13 q_14 tq_14 => ?_)
      refine lv_istore_n (lv' := [(3, .int x_13), (0, .ref (al.2 62 li)), (1, .ref (al.2 62 bf_j)), (2, .int gap)]) hx hb dX5_waitFor_28 rfl hl (by decide) rfl (fun ls hl => ?_)
      refine lv_iload_n hx hb dX5_waitFor_29 rfl (lv_at hl 0 rfl) ?_
      refine lv_aload_n hx hb dX5_waitFor_30 rfl (lv_at hl 1 rfl) ?_
      refine g_62_12 C hU hG hli fl_X5_62 dX5_waitFor_31 (fun x_15 e_16 => ?_)
      have te_16 := congrArg Int32.toInt e_16
      refine q_min C hl.1 ml_X5_68 (Nat.le_of_ble_eq_true rfl) (Nat.le_of_ble_eq_true rfl) (Nat.le_refl _) (Nat.le_refl _) dX5_waitFor_34 (fun x_17 q_18 tq_18 => ?_)
      exact hret (⟨rfl, rfl, by rw [q_18, q_14]; exact wfX_1 e_6 e_8 e_10 e_12 e_16 (by omega)⟩) hU hS dX5_waitFor_37
    ·
      refine lv_iconst (v := 0) hx hb dX5_waitFor_11 (by decide) ?_
      exact hret (⟨rfl, rfl, by first | rfl | exact (wfX_0 (by omega)).symm⟩) hU hS dX5_waitFor_12
set_option maxHeartbeats 4000000 in
set_option maxRecDepth 100000 in
theorem c_X10_trace_x {l : Launch} {D : va_G} {cA : FieldType → ClassId} {sz : Nat} {al : Al} {iv : Iv} {rv : Rv} (hG : GI al iv rv) (li : Nat) (hli : li < al.1 62) (turn : Int32) (rest_ : Int32) (pre0 : BC iv rv) (pre1 : ¬ (iv 62 li 7).toInt = 0) (pre2 : turn = iv 15 0 0) (pre3 : rest_ = iv 15 0 1) : Met l yX10_trace (wd yX10_trace cX10_trace 13 none) (rm 2) (PcW D cA sz al iv rv [.ref (al.2 57 0), .ref (al.2 62 li), .int turn, .int rest_]) (QV D cA sz al (fV al ([59], []) iv rv (fun iv' rv' => ∀ k : Nat, k < 6 → iv' 59 0 k = mtF iv li k))) 0 0 (Aq sz) := by
  refine mk_v (by decide) (Nat.le_of_ble_eq_true rfl) rfl ?_
  intro p e s m args below meth c ls Q H locs C hU hS hl hret
  have hx := C.1.1
  have hb := C.1.2.1
  have hl : lv_has ls 13 [(0, .ref (al.2 57 0)), (1, .ref (al.2 62 li)), (2, .int turn), (3, .int rest_)] := hl
  have hG0 := hG
  have hF1 : FR ([59], []) iv iv := FR.rf
  have hF2 : FR ([59], []) rv rv := FR.rf
  have k0 : (0 : Int32).toInt = 0 := by decide
  have k1 : (1 : Int32).toInt = 1 := by decide
  have k40 : (40 : Int32).toInt = 40 := by decide
  refine lv_aload_n hx hb dX10_trace_0 rfl (lv_at hl 0 rfl) ?_
  refine g_57_2 C hU hG (h1_57 hG) fl_X10_17 dX10_trace_1 ?_
  refine lv_iconst (v := 0) hx hb dX10_trace_4 (by decide) ?_
  refine q_fv (q_runS (As := [.ref (al.2 59 0), .int 0]) (rest := []) C hU (c_J7_fill_53178_59x hG 0 ) sm_J7_fill_53178 ml_X10_65 hl.1 rfl rfl (Nat.le_of_ble_eq_true rfl) dX10_trace_5 rfl rfl ⟨Nat.le_of_ble_eq_true rfl, Nat.le_of_ble_eq_true rfl⟩ ⟨Nat.le_refl _, Nat.le_refl _⟩) hS (fun iv_2 rv_3 H locs hG fa_4 fb_5 hp_1 hU hS => ?_)
  have hF1 := hF1.tr (m := ([59], [])) fa_4 (by decide)
  have hF2 := hF2.tr (m := ([59], [])) fb_5 (by decide)
  refine lv_aload_n hx hb dX10_trace_8 rfl (lv_at hl 1 rfl) ?_
  refine lv_astore (lv' := [(4, .ref (al.2 62 li)), (0, .ref (al.2 57 0)), (1, .ref (al.2 62 li)), (2, .int turn), (3, .int rest_)]) hx hb dX10_trace_9 hl (by decide) rfl (fun ls hl => ?_)
  refine lv_aload_n hx hb dX10_trace_11 rfl (lv_at hl 2 rfl) ?_
  refine g_62_13 C hU hG hli fl_X10_71 dX10_trace_12 (fun x_6 e_7 => ?_)
  have te_7 := congrArg Int32.toInt e_7
  have ne_7 : x_6.toInt = (iv 62 li 13).toInt := by rw [e_7, hF1 62 li 13 (by decide)]
  refine lv_istore (lv' := [(5, .int x_6), (4, .ref (al.2 62 li)), (0, .ref (al.2 57 0)), (1, .ref (al.2 62 li)), (2, .int turn), (3, .int rest_)]) hx hb dX10_trace_15 hl (by decide) rfl (fun ls hl => ?_)
  refine lv_iconst (v := 0) hx hb dX10_trace_17 (by decide) ?_
  refine lv_istore (lv' := [(6, .int 0), (5, .int x_6), (4, .ref (al.2 62 li)), (0, .ref (al.2 57 0)), (1, .ref (al.2 62 li)), (2, .int turn), (3, .int rest_)]) hx hb dX10_trace_18 hl (by decide) rfl (fun ls hl => ?_)
  have J_20 : ∀ (n_20 : Nat) (r_8 : Option Nat) (l5_10 : Int32) (l6_11 : Int32) (iv_12 : Iv) (rv_13 : Rv) (H : Heap) (locs : List Loc) (ls : Array Slot), lv_has ls 13 [(0, .ref (al.2 57 0)), (2, .int turn), (3, .int rest_), (4, rfv al 62 r_8), (5, .int l5_10), (6, .int l6_11)] → (∀ j, r_8 = some j → j < al.1 62) → GI al iv_12 rv_13 → FR ([59], []) iv iv_12 → FR ([59], []) rv rv_13 → UW D cA sz al iv_12 rv_13 H → va_S (Aq sz) s.heap H locs → (0 ≤ l6_11.toInt ∧ l6_11.toInt ≤ 40) → trI iv iv_12 li r_8 l5_10 l6_11.toNatClampNeg → (40 - l6_11.toInt).toNat < n_20 → W p l e (rm 2) s m args below meth c H locs 0 0 Q (F0 m 20 ls []) := by
    intro n_20
    induction n_20 with
    | zero =>
      intro r_8 l5_10 l6_11 iv_12 rv_13 H locs ls hl hb_9 hG hF1 hF2 hU hS i20_0 i20_1 hm_20
      exact absurd hm_20 (Nat.not_lt_zero _)
    | succ n_20 ih_20 =>
      intro r_8 l5_10 l6_11 iv_12 rv_13 H locs ls hl hb_9 hG hF1 hF2 hU hS i20_0 i20_1 hm_20
      have hMA := ma_fr hF1
      have hBC := bc_fr hG0 pre0 hF1 hF2
      refine lv_iload hx hb dX10_trace_20 (lv_at hl 5 rfl) ?_
      refine lv_bipush (v := 40) hx hb dX10_trace_22 (by decide) ?_
      refine b_icmp_ge (tgt := 147) hx hb dX10_trace_24 (by decide) (fun c_14 => ?_) (fun c_14 => ?_)
      ·
        exact hret (⟨hG, hF1, hF2, by first | exact tr_e1 i20_1 (by omega) | exact tr_e2 i20_1 (by omega) (by omega) | exact tr_e3 i20_1 (by omega)⟩) hU hS dX10_trace_147
      ·
        refine b_aload (al := al) (t' := 62) (r := r_8) hx hb dX10_trace_27 (lv_at hl 3 rfl) ?_
        refine b_ifnull (tgt := 147) hx hb dX10_trace_29 (by decide) (fun ej_17 => ?_) (fun j_16 ej_17 => ?_)
        ·
          subst ej_17
          have hl : lv_has ls 13 [(0, .ref (al.2 57 0)), (2, .int turn), (3, .int rest_), (4, rfv al 62 none), (5, .int l5_10), (6, .int l6_11)] := hl
          exact hret (⟨hG, hF1, hF2, by first | exact tr_e1 i20_1 (by omega) | exact tr_e2 i20_1 (by omega) (by omega) | exact tr_e3 i20_1 (by omega)⟩) hU hS dX10_trace_147
        ·
          subst ej_17
          have hl : lv_has ls 13 [(0, .ref (al.2 57 0)), (2, .int turn), (3, .int rest_), (4, .ref (al.2 62 j_16)), (5, .int l5_10), (6, .int l6_11)] := hl
          have hb_18 : j_16 < al.1 62 := hb_9 j_16 rfl
          have hb4 := hb_18
          refine lv_iload hx hb dX10_trace_32 (lv_at hl 4 rfl) ?_
          refine b_if_le (tgt := 147) hx hb dX10_trace_34 (by decide) (fun c_19 => ?_) (fun c_19 => ?_)
          ·
            exact hret (⟨hG, hF1, hF2, by first | exact tr_e1 i20_1 (by omega) | exact tr_e2 i20_1 (by omega) (by omega) | exact tr_e3 i20_1 (by omega)⟩) hU hS dX10_trace_147
          ·
            have hat := i20_1.2.2 (by omega)
            have hlg := tr_lg hG0 hat
            have hlg2 : ¬ (iv_12 62 j_16 7).toInt = 0 := by rw [hF1 62 j_16 7 (by decide)]; exact hlg
            refine lv_aload_n hx hb dX10_trace_37 rfl (lv_at hl 0 rfl) ?_
            refine lv_aload hx hb dX10_trace_38 (lv_at hl 3 rfl) ?_
            refine lv_iconst (v := 0) hx hb dX10_trace_40 (by decide) ?_
            refine lv_iload_n hx hb dX10_trace_41 rfl (lv_at hl 1 rfl) ?_
            refine q_pr (q_runV (t := 57) (i := 0) (As := [.ref (al.2 62 j_16), .int 0, .int turn]) (rest := []) C hU (c_X10_aheadOf_x hG (j_16) hb_18 0 turn (hBC.1.1) (tr_g0 hMA pre2)) vm_X10_aheadOf ml_X10_74 k_57.1 (hc := rfl) rfl (h1_57 hG) hl.1 rfl rfl (Nat.le_of_ble_eq_true rfl) dX10_trace_42 rfl rfl ⟨Nat.le_of_ble_eq_true rfl, Nat.le_of_ble_eq_true rfl⟩ ⟨Nat.le_refl _, Nat.le_refl _⟩) hS (fun r_21 H locs hp_20 hU hS => ?_)
            have hb_22 := hp_20.1
            have h42 := hp_20.2.trans (congrArg oI (ah_m hMA _ _))
            refine b_astore (lv' := [(7, rfv al 62 r_21), (0, .ref (al.2 57 0)), (2, .int turn), (3, .int rest_), (4, .ref (al.2 62 j_16)), (5, .int l5_10), (6, .int l6_11)]) hx hb dX10_trace_45 hl (by decide) rfl (fun ls hl => ?_)
            refine lv_aload_n hx hb dX10_trace_47 rfl (lv_at hl 1 rfl) ?_
            refine lv_aload hx hb dX10_trace_48 (lv_at hl 4 rfl) ?_
            refine lv_iconst (v := 1) hx hb dX10_trace_50 (by decide) ?_
            refine lv_iload_n hx hb dX10_trace_51 rfl (lv_at hl 3 rfl) ?_
            refine q_pr (q_runV (t := 57) (i := 0) (As := [.ref (al.2 62 j_16), .int 1, .int rest_]) (rest := []) C hU (c_X10_aheadOf_x hG (j_16) hb_18 1 rest_ (hBC.1.1) (tr_g1 hMA pre3)) vm_X10_aheadOf ml_X10_74 k_57.1 (hc := rfl) rfl (h1_57 hG) hl.1 rfl rfl (Nat.le_of_ble_eq_true rfl) dX10_trace_52 rfl rfl ⟨Nat.le_of_ble_eq_true rfl, Nat.le_of_ble_eq_true rfl⟩ ⟨Nat.le_refl _, Nat.le_refl _⟩) hS (fun r_24 H locs hp_23 hU hS => ?_)
            have hb_25 := hp_23.1
            have h52 := hp_23.2.trans (congrArg oI (ah_m hMA _ _))
            refine b_astore (lv' := [(8, rfv al 62 r_24), (7, rfv al 62 r_21), (0, .ref (al.2 57 0)), (2, .int turn), (3, .int rest_), (4, .ref (al.2 62 j_16)), (5, .int l5_10), (6, .int l6_11)]) hx hb dX10_trace_55 hl (by decide) (by simp [List.filter_cons, rfv_cat]) (fun ls hl => ?_)
            refine lv_aload hx hb dX10_trace_57 (lv_at hl 5 rfl) ?_
            refine b_aload (al := al) (t' := 62) (r := r_21) hx hb dX10_trace_59 (lv_at hl 1 rfl) ?_
            refine lv_iload_n hx hb dX10_trace_61 rfl (lv_at hl 3 rfl) ?_
            refine q_pi (q_runV (t := 62) (i := j_16) (As := [rfv al 62 r_21, .int turn]) (rest := []) C hU (c_X5_waitFor_x hG (j_16) hb_18 r_21 hb_22 turn ) vm_X5_waitFor ml_X10_78 k_62.1 (hc := rfl) rfl hb_18 hl.1 rfl rfl (Nat.le_of_ble_eq_true rfl) dX10_trace_62 rfl rfl ⟨Nat.le_of_ble_eq_true rfl, Nat.le_of_ble_eq_true rfl⟩ ⟨Nat.le_refl _, Nat.le_refl _⟩) hS (fun x_27 H locs hp_26 hU hS => ?_)
            have hw0 := tr_w hG hBC.1 hb4 hlg2 hp_20.2 (tr_g0 hMA pre2) hp_26 hMA
            refine lv_istore (lv' := [(9, .int x_27), (8, rfv al 62 r_24), (7, rfv al 62 r_21), (0, .ref (al.2 57 0)), (2, .int turn), (3, .int rest_), (4, .ref (al.2 62 j_16)), (5, .int l5_10), (6, .int l6_11)]) hx hb dX10_trace_65 hl (by decide) (by simp [List.filter_cons, rfv_cat]) (fun ls hl => ?_)
            refine lv_aload hx hb dX10_trace_67 (lv_at hl 6 rfl) ?_
            refine b_aload (al := al) (t' := 62) (r := r_24) hx hb dX10_trace_69 (lv_at hl 1 rfl) ?_
            refine lv_iload_n hx hb dX10_trace_71 rfl (lv_at hl 5 rfl) ?_
            refine q_pi (q_runV (t := 62) (i := j_16) (As := [rfv al 62 r_24, .int rest_]) (rest := []) C hU (c_X5_waitFor_x hG (j_16) hb_18 r_24 hb_25 rest_ ) vm_X5_waitFor ml_X10_78 k_62.1 (hc := rfl) rfl hb_18 hl.1 rfl rfl (Nat.le_of_ble_eq_true rfl) dX10_trace_72 rfl rfl ⟨Nat.le_of_ble_eq_true rfl, Nat.le_of_ble_eq_true rfl⟩ ⟨Nat.le_refl _, Nat.le_refl _⟩) hS (fun x_29 H locs hp_28 hU hS => ?_)
            have hw1 := tr_w hG hBC.1 hb4 hlg2 hp_23.2 (tr_g1 hMA pre3) hp_28 hMA
            refine lv_istore (lv' := [(10, .int x_29), (9, .int x_27), (8, rfv al 62 r_24), (7, rfv al 62 r_21), (0, .ref (al.2 57 0)), (2, .int turn), (3, .int rest_), (4, .ref (al.2 62 j_16)), (5, .int l5_10), (6, .int l6_11)]) hx hb dX10_trace_75 hl (by decide) rfl (fun ls hl => ?_)
            refine lv_aload hx hb dX10_trace_77 (lv_at hl 7 rfl) ?_
            refine g_62_13 C hU hG hb_18 fl_X10_71 dX10_trace_79 (fun x_30 e_31 => ?_)
            have te_31 := congrArg Int32.toInt e_31
            have ne_31 : x_30.toInt = (iv 62 j_16 13).toInt := by rw [e_31, hF1 62 j_16 13 (by decide)]
            refine lv_iload hx hb dX10_trace_82 (lv_at hl 1 rfl) ?_
            refine lv_iload hx hb dX10_trace_84 (lv_at hl 0 rfl) ?_
            refine q_max C hl.1 ml_X10_82 (Nat.le_of_ble_eq_true rfl) (Nat.le_of_ble_eq_true rfl) (Nat.le_refl _) (Nat.le_refl _) dX10_trace_86 (fun x_32 q_33 tq_33 => ?_)
            refine q_min C hl.1 ml_X10_88 (Nat.le_of_ble_eq_true rfl) (Nat.le_of_ble_eq_true rfl) (Nat.le_refl _) (Nat.le_refl _) dX10_trace_89 (fun x_34 q_35 tq_35 => ?_)
            refine lv_istore (lv' := [(11, .int x_34), (10, .int x_29), (9, .int x_27), (8, rfv al 62 r_24), (7, rfv al 62 r_21), (0, .ref (al.2 57 0)), (2, .int turn), (3, .int rest_), (4, .ref (al.2 62 j_16)), (5, .int l5_10), (6, .int l6_11)]) hx hb dX10_trace_92 hl (by decide) rfl (fun ls hl => ?_)
            refine lv_iload hx hb dX10_trace_94 (lv_at hl 9 rfl) ?_
            refine lv_iload hx hb dX10_trace_96 (lv_at hl 0 rfl) ?_
            refine q_min C hl.1 ml_X10_88 (Nat.le_of_ble_eq_true rfl) (Nat.le_of_ble_eq_true rfl) (Nat.le_refl _) (Nat.le_refl _) dX10_trace_98 (fun x_36 q_37 tq_37 => ?_)
            have hled := tr_led hG hBC.1 hb4 hlg2 e_31 q_33 q_35 q_37 hw0 hw1 hMA
            refine lv_istore (lv' := [(12, .int x_36), (11, .int x_34), (10, .int x_29), (9, .int x_27), (8, rfv al 62 r_24), (7, rfv al 62 r_21), (0, .ref (al.2 57 0)), (2, .int turn), (3, .int rest_), (4, .ref (al.2 62 j_16)), (5, .int l5_10), (6, .int l6_11)]) hx hb dX10_trace_101 hl (by decide) rfl (fun ls hl => ?_)
            refine lv_aload_n hx hb dX10_trace_103 rfl (lv_at hl 6 rfl) ?_
            refine g_57_2 C hU hG (h1_57 hG) fl_X10_17 dX10_trace_104 ?_
            refine lv_aload hx hb dX10_trace_107 (lv_at hl 9 rfl) ?_
            refine g_62_14 C hU hG hb_18 fl_X10_91 dX10_trace_109 (fun x_38 e_39 le_39 ue_39 => ?_)
            have te_39 := congrArg Int32.toInt e_39
            have ne_39 : x_38.toInt = (iv 62 j_16 14).toInt := by rw [e_39, hF1 62 j_16 14 (by decide)]
            refine lv_dup2_11 hx hb dX10_trace_112 rfl rfl ?_
            refine a_59 C hU hG (h1_59 hG) (x := x_38) (by omega) (by omega) dX10_trace_113 (fun x_40 e_41 => ?_)
            have te_41 := congrArg Int32.toInt e_41
            refine lv_iload hx hb dX10_trace_114 (lv_at hl 10 rfl) ?_
            refine lv_iload hx hb dX10_trace_116 (lv_at hl 0 rfl) ?_
            refine lv_isub hx hb dX10_trace_118 ?_
            refine lv_topi (fun x_42 e_43 => ?_)
            refine lv_iadd hx hb dX10_trace_119 ?_
            refine lv_topi (fun x_44 e_45 => ?_)
            have hFb := hF1
            refine s_59 C hU hS (h1_59 hG) (x := x_38) (by omega) (by omega) dX10_trace_120 (fun iv_46 H locs ei_47 hU hS => ?_)
            have hG : GI al iv_46 rv_13 := by rw [ei_47]; exact hG.puti (show _ ∧ _ from ⟨(fb_rng _).1, Int.le_of_lt_add_one (fb_rng _).2⟩) (nsA (by decide) _)
            have hF1 : FR ([59], []) iv iv_46 := by rw [ei_47]; exact hF1.put (Or.inl (by decide))
            refine lv_iload hx hb dX10_trace_121 (lv_at hl 0 rfl) ?_
            refine lv_istore (lv' := [(5, .int x_36), (12, .int x_36), (11, .int x_34), (10, .int x_29), (9, .int x_27), (8, rfv al 62 r_24), (7, rfv al 62 r_21), (0, .ref (al.2 57 0)), (2, .int turn), (3, .int rest_), (4, .ref (al.2 62 j_16)), (6, .int l6_11)]) hx hb dX10_trace_123 hl (by decide) rfl (fun ls hl => ?_)
            refine lv_iload hx hb dX10_trace_125 (lv_at hl 3 rfl) ?_
            refine lv_iload hx hb dX10_trace_127 (lv_at hl 4 rfl) ?_
            have J_139 : ∀ (r_48 : Option Nat) (ls : Array Slot), lv_has ls 13 [(0, .ref (al.2 57 0)), (2, .int turn), (3, .int rest_), (5, .int x_36), (6, .int l6_11)] → (∀ j, r_48 = some j → j < al.1 62) → r_48 = oI (ahF iv j_16 (bcF iv j_16)) → W p l e (rm 2) s m args below meth c H locs 0 0 Q (F0 m 139 ls [rfv al 62 r_48]) := by
              intro r_48 ls hl hb_49 i139_0
              refine b_astore (lv' := [(4, rfv al 62 r_48), (0, .ref (al.2 57 0)), (2, .int turn), (3, .int rest_), (5, .int x_36), (6, .int l6_11)]) hx hb dX10_trace_139 hl (by decide) rfl (fun ls hl => ?_)
              obtain ⟨x_50, e_51⟩ : ∃ y : Int32, y = l6_11 + 1 := ⟨_, rfl⟩
              have te_51 : x_50.toInt = (l6_11 : Int32).toInt + (1 : Int32).toInt := by rw [e_51]; exact fb_addI (by omega) (by omega)
              refine lv_iinc (v := x_50) (lv' := [(6, .int x_50), (4, rfv al 62 r_48), (0, .ref (al.2 57 0)), (2, .int turn), (3, .int rest_), (5, .int x_36)]) hx hb dX10_trace_141 hl (k := 5) rfl (by rw [e_51]; rfl) (by decide) rfl (fun ls hl => ?_)
              refine lv_goto (tgt := 20) hx hb dX10_trace_144 (by decide) ?_
              exact ih_20 r_48 x_36 x_50 _ _ _ _ _ (lv_sub hl [2, 3, 4, 1, 5, 0] rfl) hb_49 hG hF1 hF2 hU hS (by omega) (by first | exact tr_step hG0 pre0 hb4 i20_1 (by omega) hled i139_0 e_39 e_41 e_43 e_45 ei_47 hMA hFb (by omega) (by omega) | exact tr_0 hG0 pre0 hli pre1 fa_4 hp_1 e_7) (by omega)
            refine b_icmp_le (tgt := 137) hx hb dX10_trace_129 (by decide) (fun c_52 => ?_) (fun c_52 => ?_)
            ·
              refine b_aload (al := al) (t' := 62) (r := r_21) hx hb dX10_trace_137 (lv_at hl 6 rfl) ?_
              exact J_139 r_21 _ (lv_sub hl [7, 8, 9, 0, 11] rfl) hb_22 (by first | exact tr_c hw0 hw1 h52 (by omega) | exact tr_p hw0 hw1 h42 (by omega))
            ·
              refine b_aload (al := al) (t' := 62) (r := r_24) hx hb dX10_trace_132 (lv_at hl 5 rfl) ?_
              refine lv_goto (tgt := 139) hx hb dX10_trace_134 (by decide) ?_
              exact J_139 r_24 _ (lv_sub hl [7, 8, 9, 0, 11] rfl) hb_25 (by first | exact tr_c hw0 hw1 h52 (by omega) | exact tr_p hw0 hw1 h42 (by omega))
  exact J_20 _ (some li) x_6 0 _ _ _ _ _ (lv_sub hl [3, 5, 6, 2, 1, 0] rfl) (fun _ h => by cases h; exact hli) hG hF1 hF2 hU hS (by omega) (by first | exact tr_step hG0 pre0 hb4 i20_1 (by omega) hled i139_0 True.intro True.intro True.intro True.intro True.intro hMA hFb (by omega) (by omega) | exact tr_0 hG0 pre0 hli pre1 fa_4 hp_1 e_7) (Nat.lt_succ_self _)
