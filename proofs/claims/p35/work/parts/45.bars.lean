set_option maxHeartbeats 4000000 in
set_option maxRecDepth 100000 in
theorem c_J7_fill_53178_80 {l : Launch} {D : va_G} {cA : FieldType → ClassId} {sz : Nat} {al : Al} {iv : Iv} {rv : Rv} (hR : RG al iv) (i0 : Nat) (hi0 : i0 < al.1 80) (v : Int32) (pre0 : 0 ≤ v.toInt ∧ v.toInt ≤ 3000) : Met l yJ7_fill_53178 (wd yJ7_fill_53178 cJ7_fill_53178 4 none) (rm 0) (PcW D cA sz al iv rv [.ref (al.2 80 i0), .int v]) (QV D cA sz al (fun iv' rv' => rv' = rv ∧ RG al iv' ∧ FR ([80], []) iv iv' ∧ ∀ k : Nat, k < 4 → iv' 80 i0 k = v)) 0 0 (Aq sz) := by
  refine mk_v (by decide) (Nat.le_of_ble_eq_true rfl) rfl ?_
  intro p e s m args below meth c ls Q H locs C hU hS hl hret
  have hx := C.1.1
  have hb := C.1.2.1
  have hl : lv_has ls 4 [(0, .ref (al.2 80 i0)), (1, .int v)] := hl
  have hF1 : FR ([80], []) iv iv := FR.rf
  have hF2 : FR ([80], []) rv rv := FR.rf
  have k0 : (0 : Int32).toInt = 0 := by decide
  have k1 : (1 : Int32).toInt = 1 := by decide
  have k4 : (4 : Int32).toInt = 4 := by decide
  refine lv_iconst (v := 0) hx hb dJ7_fill_53178_0 (by decide) ?_
  refine lv_istore_n (lv' := [(2, .int 0), (0, .ref (al.2 80 i0)), (1, .int v)]) hx hb dJ7_fill_53178_1 rfl hl (by decide) rfl (fun ls hl => ?_)
  refine lv_aload_n hx hb dJ7_fill_53178_2 rfl (lv_at hl 1 rfl) ?_
  refine q_alen (t := 80) (v := 4) C hU k_80 (by decide) hi0 (by decide) dJ7_fill_53178_3 ?_
  refine lv_istore_n (lv' := [(3, .int 4), (2, .int 0), (0, .ref (al.2 80 i0)), (1, .int v)]) hx hb dJ7_fill_53178_4 rfl hl (by decide) rfl (fun ls hl => ?_)
  have J_5 : ∀ (n_5 : Nat) (l2_1 : Int32) (iv_2 : Iv) (H : Heap) (locs : List Loc) (ls : Array Slot), lv_has ls 4 [(0, .ref (al.2 80 i0)), (1, .int v), (3, .int 4), (2, .int l2_1)] → RG al iv_2 → FR ([80], []) iv iv_2 → UW D cA sz al iv_2 rv H → va_S (Aq sz) s.heap H locs → (∀ k : Nat, (k : Int) < l2_1.toInt → iv_2 80 i0 k = v) → (0 ≤ l2_1.toInt ∧ l2_1.toInt ≤ 4) → (4 - l2_1.toInt).toNat < n_5 → W p l e (rm 0) s m args below meth c H locs 0 0 Q (F0 m 5 ls []) := by
    intro n_5
    induction n_5 with
    | zero =>
      intro l2_1 iv_2 H locs ls hl hR hF1 hU hS hV i5_0 hm_5
      exact absurd hm_5 (Nat.not_lt_zero _)
    | succ n_5 ih_5 =>
      intro l2_1 iv_2 H locs ls hl hR hF1 hU hS hV i5_0 hm_5
      refine lv_iload_n hx hb dJ7_fill_53178_5 rfl (lv_at hl 3 rfl) ?_
      refine lv_iload_n hx hb dJ7_fill_53178_6 rfl (lv_at hl 2 rfl) ?_
      refine b_icmp_ge (tgt := 20) hx hb dJ7_fill_53178_7 (by decide) (fun c_3 => ?_) (fun c_3 => ?_)
      ·
        exact hret (⟨rfl, hR, hF1, fun k hk => hV k (by omega)⟩) hU hS dJ7_fill_53178_20
      ·
        refine lv_aload_n hx hb dJ7_fill_53178_10 rfl (lv_at hl 0 rfl) ?_
        refine lv_iload_n hx hb dJ7_fill_53178_11 rfl (lv_at hl 3 rfl) ?_
        refine lv_iload_n hx hb dJ7_fill_53178_12 rfl (lv_at hl 1 rfl) ?_
        refine s_80 C hU hS hi0 (x := l2_1) (by omega) (by omega) dJ7_fill_53178_13 (fun iv_4 H locs ei_5 hU hS => ?_)
        have hR : RG al iv_4 := by rw [ei_5]; exact hR.put (show _ ∧ _ from ⟨show (0 : Int) ≤ _ by omega, show _ ≤ (3000 : Int) by omega⟩)
        have hF1 : FR ([80], []) iv iv_4 := by rw [ei_5]; exact hF1.put (Or.inl (by decide))
        obtain ⟨x_6, e_7⟩ : ∃ y : Int32, y = l2_1 + 1 := ⟨_, rfl⟩
        have te_7 : x_6.toInt = (l2_1 : Int32).toInt + (1 : Int32).toInt := by rw [e_7]; exact fb_addI (by omega) (by omega)
        have hV2 : ∀ k : Nat, (k : Int) < x_6.toInt → iv_4 80 i0 k = v := fun k hk => by
          rw [ei_5]
          by_cases z : k = l2_1.toNatClampNeg
          · rw [z]; exact up3_self _ _ _ _ _
          · rw [up3_ne (fun w => z w.2.2)]; exact hV k (by have := ix_nat i5_0.1; omega)
        refine lv_iinc (v := x_6) (lv' := [(2, .int x_6), (0, .ref (al.2 80 i0)), (1, .int v), (3, .int 4)]) hx hb dJ7_fill_53178_14 hl (k := 3) rfl (by rw [e_7]; rfl) (by decide) rfl (fun ls hl => ?_)
        refine lv_goto (tgt := 5) hx hb dJ7_fill_53178_17 (by decide) ?_
        exact ih_5 x_6 _ _ _ _ (lv_sub hl [1, 2, 3, 0] rfl) hR hF1 hU hS hV2 (by omega) (by omega)
  exact J_5 _ 0 _ _ _ _ (lv_sub hl [2, 3, 0, 1] rfl) hR hF1 hU hS (fun k hk => by exfalso; omega) (by omega) (Nat.lt_succ_self _)
set_option maxHeartbeats 4000000 in
set_option maxRecDepth 100000 in
theorem c_X0_init {l : Launch} {D : va_G} {cA : FieldType → ClassId} {sz : Nat} {al : Al} {iv : Iv} {rv : Rv} (hR : RG al iv) (hB : RB al rv) (i0 : Nat) (hi0 : i0 < al.1 79) : Met l yX0_init (wd yX0_init cX0_init 1 none) (rmA 2 4 64) (PcA D cA sz al iv rv [.ref (al.2 79 i0)] (fun _ => True)) (QVA D cA sz (fun al' iv' rv' => RG al' iv' ∧ RB al' rv' ∧ EXT (nx (nx (nx (nx (fun _ => 0) 80) 81) 82) 83) ([80], [(79, 0), (79, 1), (79, 2), (79, 3)]) al iv rv al' iv' rv' ∧ NN 79 i0 [3, 2, 1, 0] rv' ∧ ∀ k : Nat, k < 4 → iv' 80 (al.1 80) k = 365)) 4 64 (Aq sz) := by
  refine mk_a (by decide) (Nat.le_of_ble_eq_true rfl) rfl ?_
  intro p e s m below meth c ls C hr hlk hnm hU hS hz _ hl
  have hx := C.1.1
  have hb := C.1.2.1
  have k4 : (4 : Int32).toInt = 4 := by decide
  have k20 : (20 : Int32).toInt = 20 := by decide
  have k365 : (365 : Int32).toInt = 365 := by decide
  obtain ⟨o, ho_o⟩ : ∃ z, al.2 79 i0 = z := ⟨_, rfl⟩
  have hi_o := hi0
  have hl : lv_has ls 1 [(0, .ref o)] := by rw [← ho_o]; exact hl
  have hE : EXT (fun _ => 0) ([80], [(79, 0), (79, 1), (79, 2), (79, 3)]) al iv rv al iv rv := EXT.rf
  have hN : NN 79 i0 [] rv := NN.nil
  have hz0 := hz
  refine lv_aload_n hx hb dX0_init_0 rfl (lv_at hl 0 rfl) ?_
  refine W.objInit hx hb C.1.2.2.2.1 (C.1.2.2.2.2 _ oi_X0) (C.1.2.2.2.2 _ oi_m) (C.1.2.2.2.2 _ oi_c) rfl (by rw [C.1.2.2.1]; exact hl.1) rfl dX0_init_1 (Nat.le_of_ble_eq_true rfl) (Nat.le_of_ble_eq_true rfl) ?_
  refine W.eq (g2 := F0 m 4 ls []) rfl ?_
  refine lv_aload_n hx hb dX0_init_4 rfl (lv_at hl 0 rfl) ?_
  refine lv_iconst (v := 4) hx hb dX0_init_5 (by decide) ?_
  refine q_newp (t := 80) (ty := .int) C hU hS hB hz rfl (Or.inl rfl) k_80 (fun _ => rfl) ac_int (by decide) (by decide) (by decide) (Nat.le_of_ble_eq_true rfl) (Nat.le_of_ble_eq_true rfl) dX0_init_6 (fun a_1 H hU hS hz => ?_)
  have hc_8 : al.1 80 = al.1 80 := hE.1 80
  have hE9 := hE.new 80 a_1
  have hR9 := hR.new 80 a_1
  have hB9 := hB.new 80 a_1
  have hn9 := grow_new (al := al) (t := 80) (a := a_1)
  rw [hc_8] at hU hE9 hR9 hB9 hn9
  obtain ⟨al_2, ea_5⟩ : ∃ z, z = grow al 80 a_1 := ⟨_, rfl⟩
  obtain ⟨iv_3, ei_6⟩ : ∃ z, z = clr iv 80 (al.1 80) 0 := ⟨_, rfl⟩
  obtain ⟨rv_4, er_7⟩ : ∃ z, z = clr rv 80 (al.1 80) none := ⟨_, rfl⟩
  rw [← ea_5] at hU hE9 hR9 hB9 hn9
  rw [← ei_6] at hU hE9 hR9
  rw [← er_7] at hU hE9 hB9
  have ho_o : al_2.2 79 i0 = o := by rw [ea_5, grow_ad hi_o]; exact ho_o
  have hi_o : i0 < al_2.1 79 := by rw [ea_5, grow_ct]; omega
  have ho_a_1 : al_2.2 80 (al.1 80) = a_1 := hn9
  have hi_a_1 : (al.1 80) < al_2.1 80 := by rw [ea_5, grow_ct, hc_8]; simp
  have hN : NN 79 i0 [] rv_4 := hN.keep (fun k => by rw [er_7]; exact clr_ne (fun z => absurd z.1 (by decide)))
  have hE := hE9
  have hR := hR9
  have hB := hB9
  refine W.widen (k := 1) (n := 4) (Nat.le_of_ble_eq_true rfl) (Nat.le_of_ble_eq_true rfl) ?_
  refine W.eq (g2 := F0 m 8 ls [.ref (al_2.2 80 (al.1 80)), .ref (al_2.2 79 i0)]) (by rw [ho_a_1, ho_o]) ?_
  refine q_putr (t := 79) (i := i0) (k := 0) (t' := 80) (j := (al.1 80)) C hU hS k_79 (hc := rfl) uwX0 tyX0 tyX0_ok nmX0 hi_o (by decide) rfl (Or.inr ⟨rfl, hnm, rfl⟩) rfl fl_X0_9 dX0_init_8 (fun _ => rfl) (fun _ => rfl) (fun H locs hU hS => ?_)
  have hz : sz ≤ H.size := Nat.le_trans hz0 hS.1
  obtain ⟨rv_9, er_10⟩ : ∃ z, z = up3 rv_4 79 i0 0 (some (al.1 80)) := ⟨_, rfl⟩
  rw [← er_10] at hU
  have hB : RB al_2 rv_9 := by rw [er_10]; exact hB.put rfl hi_a_1
  have hE := hE.putr (t := 79) (i := i0) (k := 0) (x := some (al.1 80)) (by decide)
  rw [← er_10] at hE
  have hN : NN 79 i0 [0] rv_9 := by rw [er_10]; exact hN.put 0 (al.1 80)
  refine lv_aload_n hx hb dX0_init_11 rfl (lv_at hl 0 rfl) ?_
  refine W.eq (g2 := F0 m 12 ls [.ref (al_2.2 79 i0)]) (by rw [ho_o]) ?_
  refine q_getr (t := 79) (i := i0) (k := 0) (t' := 80) (j := (al.1 80)) C hU k_79 (hc := rfl) uwX0 hi_o (by decide) rfl rfl fl_X0_9 dX0_init_12 (by rw [er_10]; exact up3_self _ _ _ _ _) ?_
  refine W.eq (g2 := F0 m 15 ls [.ref a_1]) (by rw [ho_a_1]) ?_
  refine lv_sipush (v := 365) hx hb dX0_init_15 (by decide) ?_
  refine W.eq (g2 := F0 m 18 ls [.int 365, .ref (al_2.2 80 (al.1 80))]) (by rw [ho_a_1]) ?_
  refine q_cv (q_runS (As := [.ref (al_2.2 80 (al.1 80)), .int 365]) (rest := []) C hU (c_J7_fill_53178_80 hR (al.1 80) hi_a_1 365 ⟨by omega, by omega⟩) sm_J7_fill_53178 ml_X0_15 hl.1 rfl rfl (Nat.le_of_ble_eq_true rfl) dX0_init_18 rfl rfl ⟨Nat.le_of_ble_eq_true rfl, Nat.le_of_ble_eq_true rfl⟩ ⟨Nat.le_of_ble_eq_true rfl, Nat.le_of_ble_eq_true rfl⟩) hS (fun iv_11 rv_12 H locs hp_13 hU hS => ?_)
  have hz : sz ≤ H.size := Nat.le_trans hz0 hS.1
  obtain ⟨hp_13_1, hR, hp_13_3, hv80⟩ := hp_13
  rw [hp_13_1] at hU
  have hE := hE.fr hp_13_3 (by decide)
  refine lv_aload_n hx hb dX0_init_21 rfl (lv_at hl 0 rfl) ?_
  refine lv_bipush (v := 20) hx hb dX0_init_22 (by decide) ?_
  refine q_newp (t := 81) (ty := .int) C hU hS hB hz rfl (Or.inl rfl) k_81 (fun _ => rfl) ac_int (by decide) (by decide) (by decide) (Nat.le_of_ble_eq_true rfl) (Nat.le_of_ble_eq_true rfl) dX0_init_24 (fun a_14 H hU hS hz => ?_)
  have hc_21 : al_2.1 81 = al.1 81 := hE.1 81
  have hE9 := hE.new 81 a_14
  have hR9 := hR.new 81 a_14
  have hB9 := hB.new 81 a_14
  have hn9 := grow_new (al := al_2) (t := 81) (a := a_14)
  rw [hc_21] at hU hE9 hR9 hB9 hn9
  obtain ⟨al_15, ea_18⟩ : ∃ z, z = grow al_2 81 a_14 := ⟨_, rfl⟩
  obtain ⟨iv_16, ei_19⟩ : ∃ z, z = clr iv_11 81 (al.1 81) 0 := ⟨_, rfl⟩
  obtain ⟨rv_17, er_20⟩ : ∃ z, z = clr rv_9 81 (al.1 81) none := ⟨_, rfl⟩
  rw [← ea_18] at hU hE9 hR9 hB9 hn9
  rw [← ei_19] at hU hE9 hR9
  rw [← er_20] at hU hE9 hB9
  have ho_a_1 : al_15.2 80 (al.1 80) = a_1 := by rw [ea_18, grow_ad hi_a_1]; exact ho_a_1
  have hi_a_1 : (al.1 80) < al_15.1 80 := by rw [ea_18, grow_ct]; omega
  have ho_o : al_15.2 79 i0 = o := by rw [ea_18, grow_ad hi_o]; exact ho_o
  have hi_o : i0 < al_15.1 79 := by rw [ea_18, grow_ct]; omega
  have ho_a_14 : al_15.2 81 (al.1 81) = a_14 := hn9
  have hi_a_14 : (al.1 81) < al_15.1 81 := by rw [ea_18, grow_ct, hc_21]; simp
  have hN : NN 79 i0 [0] rv_17 := hN.keep (fun k => by rw [er_20]; exact clr_ne (fun z => absurd z.1 (by decide)))
  have hE := hE9
  have hR := hR9
  have hB := hB9
  refine W.widen (k := 2) (n := 24) (Nat.le_of_ble_eq_true rfl) (Nat.le_of_ble_eq_true rfl) ?_
  refine W.eq (g2 := F0 m 26 ls [.ref (al_15.2 81 (al.1 81)), .ref (al_15.2 79 i0)]) (by rw [ho_a_14, ho_o]) ?_
  refine q_putr (t := 79) (i := i0) (k := 1) (t' := 81) (j := (al.1 81)) C hU hS k_79 (hc := rfl) uwX0 tyX0 tyX0_ok nmX0 hi_o (by decide) rfl (Or.inr ⟨rfl, hnm, rfl⟩) rfl fl_X0_21 dX0_init_26 (fun _ => rfl) (fun _ => rfl) (fun H locs hU hS => ?_)
  have hz : sz ≤ H.size := Nat.le_trans hz0 hS.1
  obtain ⟨rv_22, er_23⟩ : ∃ z, z = up3 rv_17 79 i0 1 (some (al.1 81)) := ⟨_, rfl⟩
  rw [← er_23] at hU
  have hB : RB al_15 rv_22 := by rw [er_23]; exact hB.put rfl hi_a_14
  have hE := hE.putr (t := 79) (i := i0) (k := 1) (x := some (al.1 81)) (by decide)
  rw [← er_23] at hE
  have hN : NN 79 i0 [1, 0] rv_22 := by rw [er_23]; exact hN.put 1 (al.1 81)
  refine lv_aload_n hx hb dX0_init_29 rfl (lv_at hl 0 rfl) ?_
  refine lv_bipush (v := 20) hx hb dX0_init_30 (by decide) ?_
  refine q_newp (t := 82) (ty := .int) C hU hS hB hz rfl (Or.inl rfl) k_82 (fun _ => rfl) ac_int (by decide) (by decide) (by decide) (Nat.le_of_ble_eq_true rfl) (Nat.le_of_ble_eq_true rfl) dX0_init_32 (fun a_24 H hU hS hz => ?_)
  have hc_31 : al_15.1 82 = al.1 82 := hE.1 82
  have hE9 := hE.new 82 a_24
  have hR9 := hR.new 82 a_24
  have hB9 := hB.new 82 a_24
  have hn9 := grow_new (al := al_15) (t := 82) (a := a_24)
  rw [hc_31] at hU hE9 hR9 hB9 hn9
  obtain ⟨al_25, ea_28⟩ : ∃ z, z = grow al_15 82 a_24 := ⟨_, rfl⟩
  obtain ⟨iv_26, ei_29⟩ : ∃ z, z = clr iv_16 82 (al.1 82) 0 := ⟨_, rfl⟩
  obtain ⟨rv_27, er_30⟩ : ∃ z, z = clr rv_22 82 (al.1 82) none := ⟨_, rfl⟩
  rw [← ea_28] at hU hE9 hR9 hB9 hn9
  rw [← ei_29] at hU hE9 hR9
  rw [← er_30] at hU hE9 hB9
  have ho_a_1 : al_25.2 80 (al.1 80) = a_1 := by rw [ea_28, grow_ad hi_a_1]; exact ho_a_1
  have hi_a_1 : (al.1 80) < al_25.1 80 := by rw [ea_28, grow_ct]; omega
  have ho_a_14 : al_25.2 81 (al.1 81) = a_14 := by rw [ea_28, grow_ad hi_a_14]; exact ho_a_14
  have hi_a_14 : (al.1 81) < al_25.1 81 := by rw [ea_28, grow_ct]; omega
  have ho_o : al_25.2 79 i0 = o := by rw [ea_28, grow_ad hi_o]; exact ho_o
  have hi_o : i0 < al_25.1 79 := by rw [ea_28, grow_ct]; omega
  have ho_a_24 : al_25.2 82 (al.1 82) = a_24 := hn9
  have hi_a_24 : (al.1 82) < al_25.1 82 := by rw [ea_28, grow_ct, hc_31]; simp
  have hN : NN 79 i0 [1, 0] rv_27 := hN.keep (fun k => by rw [er_30]; exact clr_ne (fun z => absurd z.1 (by decide)))
  have hE := hE9
  have hR := hR9
  have hB := hB9
  refine W.widen (k := 3) (n := 44) (Nat.le_of_ble_eq_true rfl) (Nat.le_of_ble_eq_true rfl) ?_
  refine W.eq (g2 := F0 m 34 ls [.ref (al_25.2 82 (al.1 82)), .ref (al_25.2 79 i0)]) (by rw [ho_a_24, ho_o]) ?_
  refine q_putr (t := 79) (i := i0) (k := 2) (t' := 82) (j := (al.1 82)) C hU hS k_79 (hc := rfl) uwX0 tyX0 tyX0_ok nmX0 hi_o (by decide) rfl (Or.inr ⟨rfl, hnm, rfl⟩) rfl fl_X0_24 dX0_init_34 (fun _ => rfl) (fun _ => rfl) (fun H locs hU hS => ?_)
  have hz : sz ≤ H.size := Nat.le_trans hz0 hS.1
  obtain ⟨rv_32, er_33⟩ : ∃ z, z = up3 rv_27 79 i0 2 (some (al.1 82)) := ⟨_, rfl⟩
  rw [← er_33] at hU
  have hB : RB al_25 rv_32 := by rw [er_33]; exact hB.put rfl hi_a_24
  have hE := hE.putr (t := 79) (i := i0) (k := 2) (x := some (al.1 82)) (by decide)
  rw [← er_33] at hE
  have hN : NN 79 i0 [2, 1, 0] rv_32 := by rw [er_33]; exact hN.put 2 (al.1 82)
  refine lv_aload_n hx hb dX0_init_37 rfl (lv_at hl 0 rfl) ?_
  refine lv_bipush (v := 20) hx hb dX0_init_38 (by decide) ?_
  refine q_newp (t := 83) (ty := .int) C hU hS hB hz rfl (Or.inl rfl) k_83 (fun _ => rfl) ac_int (by decide) (by decide) (by decide) (Nat.le_of_ble_eq_true rfl) (Nat.le_of_ble_eq_true rfl) dX0_init_40 (fun a_34 H hU hS hz => ?_)
  have hc_41 : al_25.1 83 = al.1 83 := hE.1 83
  have hE9 := hE.new 83 a_34
  have hR9 := hR.new 83 a_34
  have hB9 := hB.new 83 a_34
  have hn9 := grow_new (al := al_25) (t := 83) (a := a_34)
  rw [hc_41] at hU hE9 hR9 hB9 hn9
  obtain ⟨al_35, ea_38⟩ : ∃ z, z = grow al_25 83 a_34 := ⟨_, rfl⟩
  obtain ⟨iv_36, ei_39⟩ : ∃ z, z = clr iv_26 83 (al.1 83) 0 := ⟨_, rfl⟩
  obtain ⟨rv_37, er_40⟩ : ∃ z, z = clr rv_32 83 (al.1 83) none := ⟨_, rfl⟩
  rw [← ea_38] at hU hE9 hR9 hB9 hn9
  rw [← ei_39] at hU hE9 hR9
  rw [← er_40] at hU hE9 hB9
  have ho_a_1 : al_35.2 80 (al.1 80) = a_1 := by rw [ea_38, grow_ad hi_a_1]; exact ho_a_1
  have hi_a_1 : (al.1 80) < al_35.1 80 := by rw [ea_38, grow_ct]; omega
  have ho_a_14 : al_35.2 81 (al.1 81) = a_14 := by rw [ea_38, grow_ad hi_a_14]; exact ho_a_14
  have hi_a_14 : (al.1 81) < al_35.1 81 := by rw [ea_38, grow_ct]; omega
  have ho_a_24 : al_35.2 82 (al.1 82) = a_24 := by rw [ea_38, grow_ad hi_a_24]; exact ho_a_24
  have hi_a_24 : (al.1 82) < al_35.1 82 := by rw [ea_38, grow_ct]; omega
  have ho_o : al_35.2 79 i0 = o := by rw [ea_38, grow_ad hi_o]; exact ho_o
  have hi_o : i0 < al_35.1 79 := by rw [ea_38, grow_ct]; omega
  have ho_a_34 : al_35.2 83 (al.1 83) = a_34 := hn9
  have hi_a_34 : (al.1 83) < al_35.1 83 := by rw [ea_38, grow_ct, hc_41]; simp
  have hN : NN 79 i0 [2, 1, 0] rv_37 := hN.keep (fun k => by rw [er_40]; exact clr_ne (fun z => absurd z.1 (by decide)))
  have hE := hE9
  have hR := hR9
  have hB := hB9
  refine W.widen (k := 4) (n := 64) (Nat.le_of_ble_eq_true rfl) (Nat.le_of_ble_eq_true rfl) ?_
  refine W.eq (g2 := F0 m 42 ls [.ref (al_35.2 83 (al.1 83)), .ref (al_35.2 79 i0)]) (by rw [ho_a_34, ho_o]) ?_
  refine q_putr (t := 79) (i := i0) (k := 3) (t' := 83) (j := (al.1 83)) C hU hS k_79 (hc := rfl) uwX0 tyX0 tyX0_ok nmX0 hi_o (by decide) rfl (Or.inr ⟨rfl, hnm, rfl⟩) rfl fl_X0_27 dX0_init_42 (fun _ => rfl) (fun _ => rfl) (fun H locs hU hS => ?_)
  have hz : sz ≤ H.size := Nat.le_trans hz0 hS.1
  obtain ⟨rv_42, er_43⟩ : ∃ z, z = up3 rv_37 79 i0 3 (some (al.1 83)) := ⟨_, rfl⟩
  rw [← er_43] at hU
  have hB : RB al_35 rv_42 := by rw [er_43]; exact hB.put rfl hi_a_34
  have hE := hE.putr (t := 79) (i := i0) (k := 3) (x := some (al.1 83)) (by decide)
  rw [← er_43] at hE
  have hN : NN 79 i0 [3, 2, 1, 0] rv_42 := by rw [er_43]; exact hN.put 3 (al.1 83)
  exact q_vretA C hr hlk hU hS (⟨hR, hB, hE, hN, fun k hk => by rw [ei_39, clr_ne (fun z => absurd z.1 (by decide)), ei_29, clr_ne (fun z => absurd z.1 (by decide)), ei_19, clr_ne (fun z => absurd z.1 (by decide))]; exact hv80 k hk⟩) dX0_init_45
