set_option maxHeartbeats 4000000 in
set_option maxRecDepth 100000 in
theorem c_X12_missed_x {l : Launch} {D : va_G} {cA : FieldType → ClassId} {sz : Nat} {al : Al} {iv : Iv} {rv : Rv} (hG : GI al iv rv) (tt : Int32) : Met l yX12_missed (wd yX12_missed cX12_missed 3 (some .int)) (rm 3) (PcW D cA sz al iv rv [.ref (al.2 0 0), .int tt]) (QI D cA sz al (fI al ([16], []) iv rv (fun r iv' rv' => r = miS iv tt))) 0 0 (Aq sz) := by
  refine mk_i (by decide) (Nat.le_of_ble_eq_true rfl) rfl ?_
  intro p e s m args below meth c ls Q H locs C hU hS hl hret
  have hx := C.1.1
  have hb := C.1.2.1
  have hl : lv_has ls 3 [(0, .ref (al.2 0 0)), (1, .int tt)] := hl
  have hG0 := hG
  have h6 := le6 hG
  have h20 := le20 hG
  have h41 := le41 hG
  have hF1 : FR ([16], []) iv iv := FR.rf
  have hF2 : FR ([16], []) rv rv := FR.rf
  have km9 : ((-9) : Int32).toInt = -9 := by decide
  have km1 : ((-1) : Int32).toInt = -1 := by decide
  refine lv_aload_n hx hb dX12_missed_0 rfl (lv_at hl 0 rfl) ?_
  refine lv_iload_n hx hb dX12_missed_1 rfl (lv_at hl 1 rfl) ?_
  refine q_pi (q_runV (t := 0) (i := 0) (As := [.int tt]) (rest := []) C hU (c_X12_isTraveller hG tt ) vm_X12_isTraveller ml_X12_226 k_0.1 (hc := rfl) rfl (h1_0 hG) hl.1 rfl rfl (Nat.le_of_ble_eq_true rfl) dX12_missed_2 rfl rfl ⟨Nat.le_of_ble_eq_true rfl, Nat.le_of_ble_eq_true rfl⟩ ⟨Nat.le_refl _, Nat.le_refl _⟩) hS (fun x_2 H locs hp_1 hU hS => ?_)
  refine b_if_ne (tgt := 14) hx hb dX12_missed_5 (by decide) (fun c_3 => ?_) (fun c_3 => ?_)
  ·
    refine lv_aload_n hx hb dX12_missed_14 rfl (lv_at hl 0 rfl) ?_
    refine lv_iload_n hx hb dX12_missed_15 rfl (lv_at hl 1 rfl) ?_
    refine q_pi (q_runV (t := 0) (i := 0) (As := [.int tt]) (rest := []) C hU (c_X12_missedOf_x hG tt (by omega)) vm_X12_missedOf ml_X12_229 k_0.1 (hc := rfl) rfl (h1_0 hG) hl.1 rfl rfl (Nat.le_of_ble_eq_true rfl) dX12_missed_16 rfl rfl ⟨Nat.le_of_ble_eq_true rfl, Nat.le_of_ble_eq_true rfl⟩ ⟨Nat.le_refl _, Nat.le_refl _⟩) hS (fun x_5 H locs hp_4 hU hS => ?_)
    refine lv_istore_n (lv' := [(2, .int x_5), (0, .ref (al.2 0 0)), (1, .int tt)]) hx hb dX12_missed_19 rfl hl (by decide) rfl (fun ls hl => ?_)
    refine lv_iload_n hx hb dX12_missed_20 rfl (lv_at hl 0 rfl) ?_
    refine b_if_ge (tgt := 29) hx hb dX12_missed_21 (by decide) (fun c_6 => ?_) (fun c_6 => ?_)
    ·
      refine lv_iload_n hx hb dX12_missed_29 rfl (lv_at hl 0 rfl) ?_
      exact hret (⟨hG, hF1, hF2, by unfold miS; have z := hp_4.2.1; have tz := congrArg Int32.toInt z; rw [if_neg (by omega)]; first | rw [if_pos (by omega)] | (rw [if_neg (by omega)]; exact z)⟩) hU hS dX12_missed_30
    ·
      refine lv_bipush (v := (-9)) hx hb dX12_missed_24 (by decide) ?_
      refine lv_goto (tgt := 30) hx hb dX12_missed_26 (by decide) ?_
      exact hret (⟨hG, hF1, hF2, by unfold miS; have z := hp_4.2.1; have tz := congrArg Int32.toInt z; rw [if_neg (by omega)]; first | rw [if_pos (by omega)] | (rw [if_neg (by omega)]; exact z)⟩) hU hS dX12_missed_30
  ·
    refine lv_aload_n hx hb dX12_missed_8 rfl (lv_at hl 0 rfl) ?_
    refine lv_iconst (v := (-1)) hx hb dX12_missed_9 (by decide) ?_
    refine q_fi (q_runV (t := 0) (i := 0) (As := [.int (-1)]) (rest := []) C hU (c_X12_refuse hG (-1) (by omega)) vm_X12_refuse ml_X12_164 k_0.1 (hc := rfl) rfl (h1_0 hG) hl.1 rfl rfl (Nat.le_of_ble_eq_true rfl) dX12_missed_10 rfl rfl ⟨Nat.le_of_ble_eq_true rfl, Nat.le_of_ble_eq_true rfl⟩ ⟨Nat.le_refl _, Nat.le_refl _⟩) hS (fun x_12 iv_8 rv_9 H locs hG fa_10 fb_11 hp_7 hU hS => ?_)
    have hF1 := hF1.tr (m := ([16], [])) fa_10 (by decide)
    have hF2 := hF2.tr (m := ([16], [])) fb_11 (by decide)
    exact hret (⟨hG, hF1, hF2, by unfold miS; rw [if_pos (by omega)]; exact hp_7⟩) hU hS dX12_missed_13
set_option maxHeartbeats 4000000 in
set_option maxRecDepth 100000 in
theorem c_X8_missedPlace_x {l : Launch} {D : va_G} {cA : FieldType → ClassId} {sz : Nat} {al : Al} {iv : Iv} {rv : Rv} (hG : GI al iv rv) (ti : Nat) (hti : ti < al.1 65) (conn : Int32) (pre0 : BM iv rv) (pre1 : conn = iv 15 0 2) : Met l yX8_missedPlace (wd yX8_missedPlace cX8_missedPlace 3 (some .int)) (rm 0) (PcW D cA sz al iv rv [.ref (al.2 65 ti), .int conn]) (QI D cA sz al (pI iv rv (fun r => (-9 ≤ r.toInt ∧ r.toInt ≤ 3) ∧ (r = mpX iv ti ∧ (r.toInt = -9 ∨ (0 ≤ r.toInt ∧ r.toInt < (iv 65 ti 4).toInt)))))) 0 0 (Aq sz) := by
  refine mk_i (by decide) (Nat.le_of_ble_eq_true rfl) rfl ?_
  intro p e s m args below meth c ls Q H locs C hU hS hl hret
  have hx := C.1.1
  have hb := C.1.2.1
  have hl : lv_has ls 3 [(0, .ref (al.2 65 ti)), (1, .int conn)] := hl
  have hG0 := hG
  have htk := tk_k hG pre0 hti
  have hsz := htk.2.1
  have tcon := congrArg Int32.toInt pre1
  have km9 : ((-9) : Int32).toInt = -9 := by decide
  have k0 : (0 : Int32).toInt = 0 := by decide
  have k1 : (1 : Int32).toInt = 1 := by decide
  refine lv_iconst (v := 0) hx hb dX8_missedPlace_0 (by decide) ?_
  refine lv_istore_n (lv' := [(2, .int 0), (0, .ref (al.2 65 ti)), (1, .int conn)]) hx hb dX8_missedPlace_1 rfl hl (by decide) rfl (fun ls hl => ?_)
  have J_2 : ∀ (n_2 : Nat) (l2_1 : Int32) (ls : Array Slot), lv_has ls 3 [(0, .ref (al.2 65 ti)), (1, .int conn), (2, .int l2_1)] → (0 ≤ l2_1.toInt ∧ l2_1.toInt ≤ 4) → (msN iv ti l2_1.toNatClampNeg).toInt < 0 → l2_1.toInt ≤ (iv 65 ti 4).toInt → (4 - l2_1.toInt).toNat < n_2 → W p l e (rm 0) s m args below meth c H locs 0 0 Q (F0 m 2 ls []) := by
    intro n_2
    induction n_2 with
    | zero =>
      intro l2_1 ls hl i2_0 i2_1 i2_2 hm_2
      exact absurd hm_2 (Nat.not_lt_zero _)
    | succ n_2 ih_2 =>
      intro l2_1 ls hl i2_0 i2_1 i2_2 hm_2
      refine lv_iload_n hx hb dX8_missedPlace_2 rfl (lv_at hl 2 rfl) ?_
      refine lv_aload_n hx hb dX8_missedPlace_3 rfl (lv_at hl 0 rfl) ?_
      refine g_65_4 C hU hG hti fl_X8_28 dX8_missedPlace_4 (fun x_2 e_3 le_3 ue_3 => ?_)
      have te_3 := congrArg Int32.toInt e_3
      refine b_icmp_ge (tgt := 61) hx hb dX8_missedPlace_7 (by decide) (fun c_4 => ?_) (fun c_4 => ?_)
      ·
        refine lv_bipush (v := (-9)) hx hb dX8_missedPlace_61 (by decide) ?_
        exact hret (⟨rfl, rfl, ⟨⟨by omega, by omega⟩, ⟨mpx_end i2_1 htk.1 (by omega), by omega⟩⟩⟩) hU hS dX8_missedPlace_63
      ·
        refine lv_aload_n hx hb dX8_missedPlace_10 rfl (lv_at hl 0 rfl) ?_
        refine g_65_3 C hU hG hti fl_X8_24 dX8_missedPlace_11 (fun hb_5 => ?_)
        refine lv_iload_n hx hb dX8_missedPlace_14 rfl (lv_at hl 2 rfl) ?_
        refine a_66 C hU hG hb_5 (x := l2_1) (by omega) (by omega) dX8_missedPlace_15 (fun r_6 er_7 hb_8 => ?_)
        obtain ⟨j_9, ej_10⟩ : ∃ j, r_6 = some j := (tleg hG hti (by omega) (by omega)).imp (fun _ h => er_7.trans h)
        subst ej_10
        have hl : lv_has ls 3 [(0, .ref (al.2 65 ti)), (1, .int conn), (2, .int l2_1)] := hl
        have hb_11 : j_9 < al.1 62 := hb_8 j_9 rfl
        have hw := tk_ix hG0 pre0 hti er_7 (by omega) (by omega)
        have hl7 := lg_done hG0 pre0.1 hb_11 hw
        refine g_62_7 C hU hG hb_11 fl_X8_48 dX8_missedPlace_16 (fun x_12 e_13 le_13 ue_13 => ?_)
        have te_13 := congrArg Int32.toInt e_13
        refine b_if_ne (tgt := 24) hx hb dX8_missedPlace_19 (by decide) (fun c_14 => ?_) (fun c_14 => ?_)
        ·
          have hd : ¬ (iv 11 0 (rwL iv ti l2_1.toNatClampNeg)).toInt = 0 := by omega
          refine lv_iload_n hx hb dX8_missedPlace_24 rfl (lv_at hl 2 rfl) ?_
          have J_55 : ∀ (ls : Array Slot), lv_has ls 3 [(0, .ref (al.2 65 ti)), (1, .int conn), (2, .int l2_1)] → ¬ bad iv ti l2_1.toNatClampNeg → W p l e (rm 0) s m args below meth c H locs 0 0 Q (F0 m 55 ls []) := by
            intro ls hl i55_0
            obtain ⟨x_15, e_16⟩ : ∃ y : Int32, y = l2_1 + 1 := ⟨_, rfl⟩
            have te_16 : x_15.toInt = (l2_1 : Int32).toInt + (1 : Int32).toInt := by rw [e_16]; exact fb_addI (by omega) (by omega)
            refine lv_iinc (v := x_15) (lv' := [(2, .int x_15), (0, .ref (al.2 65 ti)), (1, .int conn)]) hx hb dX8_missedPlace_55 hl (k := 2) rfl (by rw [e_16]; rfl) (by decide) rfl (fun ls hl => ?_)
            refine lv_goto (tgt := 2) hx hb dX8_missedPlace_58 (by decide) ?_
            exact ih_2 x_15 _ (lv_sub hl [1, 2, 0] rfl) (by omega) (by first | exact ms_up (by omega) (by omega) i2_1 i55_0 | exact ms_0) (by omega) (by omega)
          refine b_if_le (tgt := 55) hx hb dX8_missedPlace_25 (by decide) (fun c_17 => ?_) (fun c_17 => ?_)
          ·
            exact J_55 _ (lv_sub hl [0, 1, 2] rfl) (by first | exact nb_0 hd (by omega) | exact nb_x hd True.intro hrt3.1 hw3 True.intro hrt4.2.1 hw4 True.intro tcon (by omega))
          ·
            refine lv_aload_n hx hb dX8_missedPlace_28 rfl (lv_at hl 0 rfl) ?_
            refine g_65_3 C hU hG hti fl_X8_24 dX8_missedPlace_29 (fun hb_18 => ?_)
            refine lv_iload_n hx hb dX8_missedPlace_32 rfl (lv_at hl 2 rfl) ?_
            refine a_66 C hU hG hb_18 (x := l2_1) (by omega) (by omega) dX8_missedPlace_33 (fun r_19 er_20 hb_21 => ?_)
            obtain ⟨j_22, ej_23⟩ : ∃ j, r_19 = some j := (tleg hG hti (by omega) (by omega)).imp (fun _ h => er_20.trans h)
            subst ej_23
            have hl : lv_has ls 3 [(0, .ref (al.2 65 ti)), (1, .int conn), (2, .int l2_1)] := hl
            have hb_24 : j_22 < al.1 62 := hb_21 j_22 rfl
            have hw3 := tk_ix hG0 pre0 hti er_20 (by omega) (by omega)
            have hrt3 := rt_x hG0 pre0.1 hb_24 (by have := lg_done hG0 pre0.1 hb_24 hw3; omega)
            refine g_62_10 C hU hG hb_24 fl_X8_52 dX8_missedPlace_34 (fun x_25 e_26 => ?_)
            have te_26 := congrArg Int32.toInt e_26
            refine lv_aload_n hx hb dX8_missedPlace_37 rfl (lv_at hl 0 rfl) ?_
            refine g_65_3 C hU hG hti fl_X8_24 dX8_missedPlace_38 (fun hb_27 => ?_)
            refine lv_iload_n hx hb dX8_missedPlace_41 rfl (lv_at hl 2 rfl) ?_
            refine lv_iconst (v := 1) hx hb dX8_missedPlace_42 (by decide) ?_
            refine lv_isub hx hb dX8_missedPlace_43 ?_
            refine lv_topi (fun x_28 e_29 => ?_)
            have te_29 : x_28.toInt = (l2_1 : Int32).toInt - (1 : Int32).toInt := by rw [e_29]; exact fb_subI (by omega) (by omega)
            refine a_66 C hU hG hb_27 (x := x_28) (by omega) (by omega) dX8_missedPlace_44 (fun r_30 er_31 hb_32 => ?_)
            obtain ⟨j_33, ej_34⟩ : ∃ j, r_30 = some j := (tleg hG hti (by omega) (by omega)).imp (fun _ h => er_31.trans h)
            subst ej_34
            have hl : lv_has ls 3 [(0, .ref (al.2 65 ti)), (1, .int conn), (2, .int l2_1)] := hl
            have hb_35 : j_33 < al.1 62 := hb_32 j_33 rfl
            have hw4 := tk_ix1 (x := l2_1) hG0 pre0 hti er_31 (by omega) (by omega) (by omega)
            have hrt4 := rt_x hG0 pre0.1 hb_35 (by have := lg_done hG0 pre0.1 hb_35 hw4; have w := ms_all (by rw [clamp_n]; omega) i2_1 (l2_1.toNatClampNeg - 1) (by rw [clamp_n]; omega); have w2 := nbd w; omega)
            refine g_62_11 C hU hG hb_35 fl_X8_55 dX8_missedPlace_45 (fun x_36 e_37 => ?_)
            have te_37 := congrArg Int32.toInt e_37
            refine lv_isub hx hb dX8_missedPlace_48 ?_
            refine lv_topi (fun x_38 e_39 => ?_)
            refine lv_iload_n hx hb dX8_missedPlace_49 rfl (lv_at hl 1 rfl) ?_
            refine b_icmp_ge (tgt := 55) hx hb dX8_missedPlace_50 (by decide) (fun c_40 => ?_) (fun c_40 => ?_)
            ·
              exact J_55 _ (lv_sub hl [0, 1, 2] rfl) (by first | exact nb_0 hd (by omega) | exact nb_x hd e_26 hrt3.1 hw3 e_37 hrt4.2.1 hw4 e_39 tcon (by omega))
            ·
              refine lv_iload_n hx hb dX8_missedPlace_53 rfl (lv_at hl 2 rfl) ?_
              exact hret (⟨rfl, rfl, ⟨⟨by omega, by omega⟩, ⟨by rw [mpx_ret i2_1 (Or.inr ⟨by rw [clamp_n]; omega, bd_x e_26 hrt3.1 hw3 e_37 hrt4.2.1 hw4 e_39 tcon (by omega)⟩) htk.1 (by omega) (by omega)], by omega⟩⟩⟩) hU hS dX8_missedPlace_54
        ·
          refine lv_iload_n hx hb dX8_missedPlace_22 rfl (lv_at hl 2 rfl) ?_
          exact hret (⟨rfl, rfl, ⟨⟨by omega, by omega⟩, ⟨by rw [mpx_ret i2_1 (Or.inl (by omega)) htk.1 (by omega) (by omega)], by omega⟩⟩⟩) hU hS dX8_missedPlace_23
  exact J_2 _ 0 _ (lv_sub hl [1, 2, 0] rfl) (by omega) (by first | exact ms_up (by omega) (by omega) i2_1 i55_0 | exact ms_0) (by omega) (Nat.lt_succ_self _)
set_option maxHeartbeats 4000000 in
set_option maxRecDepth 100000 in
theorem c_X11_missed_x {l : Launch} {D : va_G} {cA : FieldType → ClassId} {sz : Nat} {al : Al} {iv : Iv} {rv : Rv} (hG : GI al iv rv) (tt : Int32) (pre0 : BM iv rv) : Met l yX11_missed (wd yX11_missed cX11_missed 3 (some .int)) (rm 2) (PcW D cA sz al iv rv [.ref (al.2 49 0), .int tt]) (QI D cA sz al (fI al ([51], []) iv rv (fun r iv' rv' => r = miS iv tt))) 0 0 (Aq sz) := by
  refine mk_i (by decide) (Nat.le_of_ble_eq_true rfl) rfl ?_
  intro p e s m args below meth c ls Q H locs C hU hS hl hret
  have hx := C.1.1
  have hb := C.1.2.1
  have hl : lv_has ls 3 [(0, .ref (al.2 49 0)), (1, .int tt)] := hl
  have hG0 := hG
  have hn20 := congrArg Int32.toInt pre0.2.1
  have hF1 : FR ([51], []) iv iv := FR.rf
  have hF2 : FR ([51], []) rv rv := FR.rf
  have km1 : ((-1) : Int32).toInt = -1 := by decide
  have k2 : (2 : Int32).toInt = 2 := by decide
  refine lv_aload_n hx hb dX11_missed_0 rfl (lv_at hl 0 rfl) ?_
  refine g_49_2 C hU hG (h1_49 hG) fl_X11_26 dX11_missed_1 ?_
  refine lv_iload_n hx hb dX11_missed_4 rfl (lv_at hl 1 rfl) ?_
  refine q_pr (q_runV (t := 63) (i := 0) (As := [.int tt]) (rest := []) C hU (c_X9_find hG tt ) vm_X9_find ml_X11_192 k_63.1 (hc := rfl) rfl (h1_63 hG) hl.1 rfl rfl (Nat.le_of_ble_eq_true rfl) dX11_missed_5 rfl rfl ⟨Nat.le_of_ble_eq_true rfl, Nat.le_of_ble_eq_true rfl⟩ ⟨Nat.le_refl _, Nat.le_refl _⟩) hS (fun r_2 H locs hp_1 hU hS => ?_)
  have hb_3 := hp_1.1
  refine b_astore_n (lv' := [(2, rfv al 65 r_2), (0, .ref (al.2 49 0)), (1, .int tt)]) hx hb dX11_missed_8 rfl hl (by decide) rfl (fun ls hl => ?_)
  refine b_aload_n (al := al) (t' := 65) (r := r_2) hx hb dX11_missed_9 rfl (lv_at hl 0 rfl) ?_
  refine b_ifnonnull (tgt := 19) hx hb dX11_missed_10 (by decide) (fun j_5 ej_6 => ?_) (fun ej_6 => ?_)
  ·
    subst ej_6
    have hl : lv_has ls 3 [(2, .ref (al.2 65 j_5)), (0, .ref (al.2 49 0)), (1, .int tt)] := hl
    have hb_7 : j_5 < al.1 65 := hb_3 j_5 rfl
    have hq3 := hp_1.2.1 _ rfl
    have hn3 := hq3.1
    rw [clamp_n] at hn3
    refine lv_aload_n hx hb dX11_missed_19 rfl (lv_at hl 0 rfl) ?_
    refine lv_aload_n hx hb dX11_missed_20 rfl (lv_at hl 1 rfl) ?_
    refine g_49_7 C hU hG (h1_49 hG) fl_X11_67 dX11_missed_21 ?_
    refine lv_iconst (v := 2) hx hb dX11_missed_24 (by decide) ?_
    refine a_50 C hU hG (h1_50 hG) (x := 2) (by omega) (by omega) dX11_missed_25 (fun x_8 e_9 le_9 ue_9 => ?_)
    have te_9 := congrArg Int32.toInt e_9
    refine q_pi (q_runV (t := 65) (i := j_5) (As := [.int x_8]) (rest := []) C hU (c_X8_missedPlace_x hG (j_5) hb_7 x_8 (pre0) (by rw [e_9]; exact (pre0.1.1.2.2 2 (by decide)).symm)) vm_X8_missedPlace ml_X11_208 k_65.1 (hc := rfl) rfl hb_7 hl.1 rfl rfl (Nat.le_of_ble_eq_true rfl) dX11_missed_26 rfl rfl ⟨Nat.le_of_ble_eq_true rfl, Nat.le_of_ble_eq_true rfl⟩ ⟨Nat.le_refl _, Nat.le_refl _⟩) hS (fun x_11 H locs hp_10 hU hS => ?_)
    exact hret (⟨hG, hF1, hF2, by unfold miS; rw [if_neg (by omega), hp_10.2.1, hq3.1]; rfl⟩) hU hS dX11_missed_29
  ·
    subst ej_6
    have hl : lv_has ls 3 [(2, rfv al 65 none), (0, .ref (al.2 49 0)), (1, .int tt)] := hl
    have hq3 := hp_1.2.2 rfl
    refine lv_aload_n hx hb dX11_missed_13 rfl (lv_at hl 1 rfl) ?_
    refine lv_iconst (v := (-1)) hx hb dX11_missed_14 (by decide) ?_
    refine q_fi (q_runV (t := 49) (i := 0) (As := [.int (-1)]) (rest := []) C hU (c_X11_refuse hG (-1) (by omega)) vm_X11_refuse ml_X11_77 k_49.1 (hc := rfl) rfl (h1_49 hG) hl.1 rfl rfl (Nat.le_of_ble_eq_true rfl) dX11_missed_15 rfl rfl ⟨Nat.le_of_ble_eq_true rfl, Nat.le_of_ble_eq_true rfl⟩ ⟨Nat.le_refl _, Nat.le_refl _⟩) hS (fun x_17 iv_13 rv_14 H locs hG fa_15 fb_16 hp_12 hU hS => ?_)
    have hF1 := hF1.tr (m := ([51], [])) fa_15 (by decide)
    have hF2 := hF2.tr (m := ([51], [])) fb_16 (by decide)
    exact hret (⟨hG, hF1, hF2, by unfold miS; rw [if_pos (by omega)]; exact hp_12⟩) hU hS dX11_missed_18
