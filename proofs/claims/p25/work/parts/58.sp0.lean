theorem sp_no {S r z : Int32} {K A : Prop} (hs : S = z) (hz : z ≠ 0) (hr : r = z) (k : K) : (S = 0 ∧ A) ∨ (S ≠ 0 ∧ r = S ∧ K) := Or.inr ⟨by rw [hs]; exact hz, hr.trans hs.symm, k⟩
def spJud (l c m far cost : Int32) (cnt : Int) : Int32 := if ¬ ((0 ≤ l.toInt ∧ l.toInt ≤ 3) ∧ (0 ≤ c.toInt ∧ c.toInt ≤ 5)) then -1 else if m.toInt < 0 ∨ far.toInt < 0 ∨ cost.toInt < 0 then -4 else if 9999 < m.toInt ∨ 9999 < far.toInt ∨ 9999 < cost.toInt ∨ 40 ≤ cnt then -6 else 0
def spStop (l a b : Int32) (cnt : Int) : Int32 := if ¬ (0 ≤ l.toInt ∧ l.toInt ≤ 3) then -1 else if a.toInt < 0 ∨ b.toInt < a.toInt then -4 else if 4000 < b.toInt ∨ 20 ≤ cnt then -6 else 0
def spLaw (l d m far s : Int32) (day cnt : Int) : Int32 := if ¬ (0 ≤ l.toInt ∧ l.toInt ≤ 3) then -1 else if d.toInt < day ∨ m.toInt < 0 ∨ far.toInt < 0 ∨ s.toInt < 0 then -4 else if 4000 < d.toInt ∨ 9999 < m.toInt ∨ 9999 < far.toInt ∨ 9999 < s.toInt ∨ 30 ≤ cnt then -6 else 0
def spExc (l c d : Int32) (cnt : Int) : Int32 := if ¬ ((0 ≤ l.toInt ∧ l.toInt ≤ 3) ∧ (0 ≤ c.toInt ∧ c.toInt ≤ 5)) then -1 else if d.toInt < 0 then -4 else if 4000 < d.toInt ∨ 40 ≤ cnt then -6 else 0
def spMiles (a b v : Int32) : Int32 := if ¬ ((0 ≤ a.toInt ∧ a.toInt ≤ 9) ∧ (0 ≤ b.toInt ∧ b.toInt ≤ 9) ∧ ¬ a.toInt = b.toInt) then -1 else if v.toInt < 0 then -4 else if 9999 < v.toInt then -6 else 0
def spLeg (a b p c l r : Int32) (cnt : Int) : Int32 := if ¬ ((0 ≤ a.toInt ∧ a.toInt ≤ 9) ∧ (0 ≤ b.toInt ∧ b.toInt ≤ 9) ∧ ¬ a.toInt = b.toInt ∧ (0 ≤ p.toInt ∧ p.toInt ≤ 5) ∧ (0 ≤ c.toInt ∧ c.toInt ≤ 5)) then -1 else if l.toInt < 0 ∨ r.toInt ≤ l.toInt then -4 else if 20000 < r.toInt ∨ 40 ≤ cnt then -6 else 0
def spTrav (g : Int32) (legs cnt : Int) : Int32 := if ¬ (0 ≤ g.toInt ∧ g.toInt < legs) then -1 else if 20 ≤ cnt then -6 else 0
def spCause (g c : Int32) (legs : Int) : Int32 := if ¬ ((0 ≤ g.toInt ∧ g.toInt < legs) ∧ (0 ≤ c.toInt ∧ c.toInt ≤ 5)) then -1 else 0
def spOwes (p t v : Int32) (trav : Int) : Int32 := if ¬ ((0 ≤ p.toInt ∧ p.toInt ≤ 4) ∧ (0 ≤ t.toInt ∧ t.toInt < trav)) then -1 else if v.toInt < 0 then -4 else if 9999 < v.toInt then -6 else 0
def spLog (g a b : Int32) (legs : Int) : Int32 := if ¬ (0 ≤ g.toInt ∧ g.toInt < legs) then -1 else if a.toInt < 0 ∨ b.toInt < 0 then -4 else if 30000 < a.toInt ∨ 30000 < b.toInt then -6 else 0
theorem up2_if {iv : Iv} {t i x y : Nat} {v : Int32} {k : Nat} : up3 (up3 iv t i x v) t i y v t i k = if k = x ∨ k = y then v else iv t i k := by
  simp only [up3]
  by_cases h1 : k = x <;> by_cases h2 : k = y <;> simp [h1, h2]
theorem up2_ij {iv : Iv} {t i1 k1 i2 k2 : Nat} {v : Int32} {i k : Nat} : up3 (up3 iv t i1 k1 v) t i2 k2 v t i k = if (i = i1 ∧ k = k1) ∨ (i = i2 ∧ k = k2) then v else iv t i k := by
  simp only [up3]
  by_cases h1 : i = i1 ∧ k = k1 <;> by_cases h2 : i = i2 ∧ k = k2 <;> simp [h1, h2]
theorem pnum {al : Al} {iv : Iv} {rv : Rv} (hG : GI al iv rv) {i : Nat} (hi : i < al.1 56) : (iv 56 i 0).toInt = i ∧ i < 10 := by
  have h : i < 10 := by rw [hG.2.2.1.2.1] at hi; exact hi
  exact ⟨hG.2.2.2.2.2.2.1.2.2 i h, h⟩
theorem mbw {al : Al} {iv : Iv} {rv : Rv} (hG : GI al iv rv) {pi pj : Nat} (hi : pi < al.1 56) (hj : pj < al.1 56) {x1 x2 : Int32} {j : Nat} (e1 : x1.toInt = (iv 56 pi 0).toInt) (ej : rv 54 0 x1.toNatClampNeg = some j) (e2 : x2.toInt = (iv 56 pj 0).toInt) : j = pi ∧ x2.toNatClampNeg = pj := by
  obtain ⟨a1, b1⟩ := pnum hG hi
  obtain ⟨a2, b2⟩ := pnum hG hj
  have q := Option.some.inj (ej.symm.trans (dall hG (by omega) (by omega)))
  rw [clamp_n] at q ⊢
  exact ⟨by omega, by omega⟩
theorem leg_cnt {al al' : Al} {iv iv' : Iv} {rv rv' : Rv} (hG : GI al iv rv) {r pl cr lv_ ar : Int32} {pf pt_ : Nat} (h : ∃ (a : Nat) (siz : Int32), siz.toInt = al.1 62 + 1 ∧ al' = grow al 62 a ∧ iv' = legIv iv (al.1 62) r pl cr lv_ ar siz ∧ rv' = legRv rv (al.1 62) pf pt_) : (iv' 57 0 1).toInt = (iv 57 0 1).toInt + 1 := by
  obtain ⟨a, siz, hs, -, e, -⟩ := h
  have n := hG.2.2.2.1.2
  rw [e, n, ← hs]
  exact congrArg Int32.toInt (up3_self _ _ _ _ _)
theorem tick_cnt {al al' : Al} {iv iv' : Iv} {rv rv' : Rv} (hG : GI al iv rv) {r : Int32} {li : Nat} (h : ∃ (a a6 a7 : Nat) (siz : Int32), siz.toInt = al.1 65 + 1 ∧ al' = grow (grow (grow al 65 a) 66 a6) 67 a7 ∧ iv' = tickIv iv (al.1 65) r siz ∧ rv' = tickRv rv (al.1 65) li) : (iv' 63 0 1).toInt = (iv 63 0 1).toInt + 1 := by
  obtain ⟨a, a6, a7, siz, hs, -, e, -⟩ := h
  have n := hG.2.2.2.2.1.2
  rw [e, n, ← hs]
  exact congrArg Int32.toInt (up3_self _ _ _ _ _)
def dayF (n t : Int) : Int := if 0 ≤ n ∧ n ≤ 4000 - t then t + n else t

set_option maxHeartbeats 4000000 in
set_option maxRecDepth 100000 in
theorem c_X12_stop_x {l : Launch} {D : va_G} {cA : FieldType → ClassId} {sz : Nat} {al : Al} {iv : Iv} {rv : Rv} (hG : GI al iv rv) (lw : Int32) (a : Int32) (b : Int32) : Met l yX12_stop (wd yX12_stop cX12_stop 4 (some .int)) (rm 2) (PcW D cA sz al iv rv [.ref (al.2 0 0), .int lw, .int a, .int b]) (QI D cA sz al (fI al ([16, 32, 33, 34], [(0, 37)]) iv rv (fun r iv' rv' => (spStop lw a b (iv 0 0 37).toInt = 0 ∧ r.toInt = (iv 0 0 37).toInt + 1 ∧ (iv' 0 0 37).toInt = (iv 0 0 37).toInt + 1) ∨ (spStop lw a b (iv 0 0 37).toInt ≠ 0 ∧ r = spStop lw a b (iv 0 0 37).toInt ∧ iv' 0 0 37 = iv 0 0 37)))) 0 0 (Aq sz) := by
  refine mk_i (by decide) (Nat.le_of_ble_eq_true rfl) rfl ?_
  intro p e s m args below meth c ls Q H locs C hU hS hl hret
  have hx := C.1.1
  have hb := C.1.2.1
  have hl : lv_has ls 4 [(0, .ref (al.2 0 0)), (1, .int lw), (2, .int a), (3, .int b)] := hl
  have hG0 := hG
  have h6 := le6 hG
  have h20 := le20 hG
  have h41 := le41 hG
  have hF1 : FR ([16, 32, 33, 34], [(0, 37)]) iv iv := FR.rf
  have hF2 : FR ([16, 32, 33, 34], [(0, 37)]) rv rv := FR.rf
  have km6 : ((-6) : Int32).toInt = -6 := by decide
  have km4 : ((-4) : Int32).toInt = -4 := by decide
  have km1 : ((-1) : Int32).toInt = -1 := by decide
  have k1 : (1 : Int32).toInt = 1 := by decide
  have k20 : (20 : Int32).toInt = 20 := by decide
  have k4000 : (4000 : Int32).toInt = 4000 := by decide
  refine lv_iload_n hx hb dX12_stop_0 rfl (lv_at hl 1 rfl) ?_
  refine q_pi (q_runS (As := [.int lw]) (rest := []) C hU (c_X12_isLand  lw ) sm_X12_isLand ml_X12_244 hl.1 rfl rfl (Nat.le_of_ble_eq_true rfl) dX12_stop_1 rfl rfl ⟨Nat.le_of_ble_eq_true rfl, Nat.le_of_ble_eq_true rfl⟩ ⟨Nat.le_refl _, Nat.le_refl _⟩) hS (fun x_2 H locs hp_1 hU hS => ?_)
  refine b_if_ne (tgt := 13) hx hb dX12_stop_4 (by decide) (fun c_3 => ?_) (fun c_3 => ?_)
  ·
    refine lv_iload_n hx hb dX12_stop_13 rfl (lv_at hl 2 rfl) ?_
    refine b_if_lt (tgt := 22) hx hb dX12_stop_14 (by decide) (fun c_4 => ?_) (fun c_4 => ?_)
    ·
      refine lv_aload_n hx hb dX12_stop_22 rfl (lv_at hl 0 rfl) ?_
      refine lv_bipush (v := (-4)) hx hb dX12_stop_23 (by decide) ?_
      refine q_fi (q_runV (t := 0) (i := 0) (As := [.int (-4)]) (rest := []) C hU (c_X12_refuse hG (-4) (by omega)) vm_X12_refuse ml_X12_164 k_0.1 (hc := rfl) rfl (h1_0 hG) hl.1 rfl rfl (Nat.le_of_ble_eq_true rfl) dX12_stop_25 rfl rfl ⟨Nat.le_of_ble_eq_true rfl, Nat.le_of_ble_eq_true rfl⟩ ⟨Nat.le_refl _, Nat.le_refl _⟩) hS (fun x_10 iv_6 rv_7 H locs hG fa_8 fb_9 hp_5 hU hS => ?_)
      have hF1 := hF1.tr (m := ([16, 32, 33, 34], [(0, 37)])) fa_8 (by decide)
      have hF2 := hF2.tr (m := ([16, 32, 33, 34], [(0, 37)])) fb_9 (by decide)
      exact hret (⟨hG, hF1, hF2, sp_no (z := (-4)) (by unfold spStop; (repeat' split) <;> first | rfl | omega) (by decide) hp_5 (fa_8 0 0 37 (by decide))⟩) hU hS dX12_stop_28
    ·
      refine lv_iload_n hx hb dX12_stop_17 rfl (lv_at hl 3 rfl) ?_
      refine lv_iload_n hx hb dX12_stop_18 rfl (lv_at hl 2 rfl) ?_
      refine b_icmp_ge (tgt := 29) hx hb dX12_stop_19 (by decide) (fun c_11 => ?_) (fun c_11 => ?_)
      ·
        refine lv_iload_n hx hb dX12_stop_29 rfl (lv_at hl 3 rfl) ?_
        refine lv_sipush (v := 4000) hx hb dX12_stop_30 (by decide) ?_
        refine b_icmp_gt (tgt := 45) hx hb dX12_stop_33 (by decide) (fun c_12 => ?_) (fun c_12 => ?_)
        ·
          refine lv_aload_n hx hb dX12_stop_45 rfl (lv_at hl 0 rfl) ?_
          refine lv_bipush (v := (-6)) hx hb dX12_stop_46 (by decide) ?_
          refine q_fi (q_runV (t := 0) (i := 0) (As := [.int (-6)]) (rest := []) C hU (c_X12_refuse hG (-6) (by omega)) vm_X12_refuse ml_X12_164 k_0.1 (hc := rfl) rfl (h1_0 hG) hl.1 rfl rfl (Nat.le_of_ble_eq_true rfl) dX12_stop_48 rfl rfl ⟨Nat.le_of_ble_eq_true rfl, Nat.le_of_ble_eq_true rfl⟩ ⟨Nat.le_refl _, Nat.le_refl _⟩) hS (fun x_18 iv_14 rv_15 H locs hG fa_16 fb_17 hp_13 hU hS => ?_)
          have hF1 := hF1.tr (m := ([16, 32, 33, 34], [(0, 37)])) fa_16 (by decide)
          have hF2 := hF2.tr (m := ([16, 32, 33, 34], [(0, 37)])) fb_17 (by decide)
          exact hret (⟨hG, hF1, hF2, sp_no (z := (-6)) (by unfold spStop; (repeat' split) <;> first | rfl | omega) (by decide) hp_13 (fa_16 0 0 37 (by decide))⟩) hU hS dX12_stop_51
        ·
          refine lv_aload_n hx hb dX12_stop_36 rfl (lv_at hl 0 rfl) ?_
          refine g_0_37 C hU hG (h1_0 hG) fl_X12_272 dX12_stop_37 (fun x_19 e_20 le_20 ue_20 => ?_)
          have te_20 := congrArg Int32.toInt e_20
          refine lv_bipush (v := 20) hx hb dX12_stop_40 (by decide) ?_
          refine b_icmp_ne (tgt := 52) hx hb dX12_stop_42 (by decide) (fun c_21 => ?_) (fun c_21 => ?_)
          ·
            refine lv_aload_n hx hb dX12_stop_52 rfl (lv_at hl 0 rfl) ?_
            refine g_0_38 C hU hG (h1_0 hG) fl_X12_104 dX12_stop_53 ?_
            refine lv_aload_n hx hb dX12_stop_56 rfl (lv_at hl 0 rfl) ?_
            refine g_0_37 C hU hG (h1_0 hG) fl_X12_272 dX12_stop_57 (fun x_22 e_23 le_23 ue_23 => ?_)
            have te_23 := congrArg Int32.toInt e_23
            refine lv_iload_n hx hb dX12_stop_60 rfl (lv_at hl 1 rfl) ?_
            refine s_32 C hU hS (h1_32 hG) (x := x_22) (by omega) (by omega) dX12_stop_61 (fun iv_24 H locs ei_25 hU hS => ?_)
            have hG : GI al iv_24 rv := by rw [ei_25]; exact hG.puti (show _ ∧ _ from ⟨(fb_rng _).1, Int.le_of_lt_add_one (fb_rng _).2⟩) (nsA (by decide) _)
            have hF1 : FR ([16, 32, 33, 34], [(0, 37)]) iv iv_24 := by rw [ei_25]; exact hF1.put (Or.inl (by decide))
            have kf_26 := congrArg Int32.toInt (show iv_24 0 0 37 = iv 0 0 37 by rw [ei_25]; exact up3_ne (fun z => absurd z.1 (by decide)))
            refine lv_aload_n hx hb dX12_stop_62 rfl (lv_at hl 0 rfl) ?_
            refine g_0_39 C hU hG (h1_0 hG) fl_X12_107 dX12_stop_63 ?_
            refine lv_aload_n hx hb dX12_stop_66 rfl (lv_at hl 0 rfl) ?_
            refine g_0_37 C hU hG (h1_0 hG) fl_X12_272 dX12_stop_67 (fun x_27 e_28 le_28 ue_28 => ?_)
            have te_28 := congrArg Int32.toInt e_28
            refine lv_iload_n hx hb dX12_stop_70 rfl (lv_at hl 2 rfl) ?_
            refine s_33 C hU hS (h1_33 hG) (x := x_27) (by omega) (by omega) dX12_stop_71 (fun iv_29 H locs ei_30 hU hS => ?_)
            have hG : GI al iv_29 rv := by rw [ei_30]; exact hG.puti (show _ ∧ _ from ⟨(fb_rng _).1, Int.le_of_lt_add_one (fb_rng _).2⟩) (nsA (by decide) _)
            have hF1 : FR ([16, 32, 33, 34], [(0, 37)]) iv iv_29 := by rw [ei_30]; exact hF1.put (Or.inl (by decide))
            have kf_31 := congrArg Int32.toInt (show iv_29 0 0 37 = iv_24 0 0 37 by rw [ei_30]; exact up3_ne (fun z => absurd z.1 (by decide)))
            refine lv_aload_n hx hb dX12_stop_72 rfl (lv_at hl 0 rfl) ?_
            refine g_0_40 C hU hG (h1_0 hG) fl_X12_110 dX12_stop_73 ?_
            refine lv_aload_n hx hb dX12_stop_76 rfl (lv_at hl 0 rfl) ?_
            refine g_0_37 C hU hG (h1_0 hG) fl_X12_272 dX12_stop_77 (fun x_32 e_33 le_33 ue_33 => ?_)
            have te_33 := congrArg Int32.toInt e_33
            refine lv_iload_n hx hb dX12_stop_80 rfl (lv_at hl 3 rfl) ?_
            refine s_34 C hU hS (h1_34 hG) (x := x_32) (by omega) (by omega) dX12_stop_81 (fun iv_34 H locs ei_35 hU hS => ?_)
            have hG : GI al iv_34 rv := by rw [ei_35]; exact hG.puti (show _ ∧ _ from ⟨(fb_rng _).1, Int.le_of_lt_add_one (fb_rng _).2⟩) (nsA (by decide) _)
            have hF1 : FR ([16, 32, 33, 34], [(0, 37)]) iv iv_34 := by rw [ei_35]; exact hF1.put (Or.inl (by decide))
            have kf_36 := congrArg Int32.toInt (show iv_34 0 0 37 = iv_29 0 0 37 by rw [ei_35]; exact up3_ne (fun z => absurd z.1 (by decide)))
            refine lv_aload_n hx hb dX12_stop_82 rfl (lv_at hl 0 rfl) ?_
            refine lv_dup hx hb dX12_stop_83 rfl ?_
            refine g_0_37 C hU hG (h1_0 hG) fl_X12_272 dX12_stop_84 (fun x_37 e_38 le_38 ue_38 => ?_)
            have te_38 := congrArg Int32.toInt e_38
            refine lv_iconst (v := 1) hx hb dX12_stop_87 (by decide) ?_
            refine lv_iadd hx hb dX12_stop_88 ?_
            refine lv_topi (fun x_39 e_40 => ?_)
            have te_40 : x_39.toInt = (x_37 : Int32).toInt + (1 : Int32).toInt := by rw [e_40]; exact fb_addI (by omega) (by omega)
            refine p_0_37 C hU hS (h1_0 hG) fl_X12_272 dX12_stop_89 (fun iv_41 H locs ei_42 hU hS => ?_)
            have hG : GI al iv_41 rv := by rw [ei_42]; exact hG.puti (show _ ∧ _ from ⟨show (0 : Int) ≤ _ by omega, show _ ≤ (20 : Int) by omega⟩) (nsF (by decide))
            have hF1 : FR ([16, 32, 33, 34], [(0, 37)]) iv iv_41 := by rw [ei_42]; exact hF1.put (by decide)
            refine lv_aload_n hx hb dX12_stop_92 rfl (lv_at hl 0 rfl) ?_
            refine g_0_37 C hU hG (h1_0 hG) fl_X12_272 dX12_stop_93 (fun x_43 e_44 le_44 ue_44 => ?_)
            have te_44 := congrArg Int32.toInt e_44
            have hz_ := e_44
            rw [ei_42, up3_self] at hz_
            have tz_ := congrArg Int32.toInt hz_
            exact hret (⟨hG, hF1, hF2, Or.inl ⟨(by unfold spStop; (repeat' split) <;> first | rfl | omega), by omega, by rw [ei_42, up3_self]; omega⟩⟩) hU hS dX12_stop_96
          ·
            refine lv_aload_n hx hb dX12_stop_45 rfl (lv_at hl 0 rfl) ?_
            refine lv_bipush (v := (-6)) hx hb dX12_stop_46 (by decide) ?_
            refine q_fi (q_runV (t := 0) (i := 0) (As := [.int (-6)]) (rest := []) C hU (c_X12_refuse hG (-6) (by omega)) vm_X12_refuse ml_X12_164 k_0.1 (hc := rfl) rfl (h1_0 hG) hl.1 rfl rfl (Nat.le_of_ble_eq_true rfl) dX12_stop_48 rfl rfl ⟨Nat.le_of_ble_eq_true rfl, Nat.le_of_ble_eq_true rfl⟩ ⟨Nat.le_refl _, Nat.le_refl _⟩) hS (fun x_50 iv_46 rv_47 H locs hG fa_48 fb_49 hp_45 hU hS => ?_)
            have hF1 := hF1.tr (m := ([16, 32, 33, 34], [(0, 37)])) fa_48 (by decide)
            have hF2 := hF2.tr (m := ([16, 32, 33, 34], [(0, 37)])) fb_49 (by decide)
            exact hret (⟨hG, hF1, hF2, sp_no (z := (-6)) (by unfold spStop; (repeat' split) <;> first | rfl | omega) (by decide) hp_45 (fa_48 0 0 37 (by decide))⟩) hU hS dX12_stop_51
      ·
        refine lv_aload_n hx hb dX12_stop_22 rfl (lv_at hl 0 rfl) ?_
        refine lv_bipush (v := (-4)) hx hb dX12_stop_23 (by decide) ?_
        refine q_fi (q_runV (t := 0) (i := 0) (As := [.int (-4)]) (rest := []) C hU (c_X12_refuse hG (-4) (by omega)) vm_X12_refuse ml_X12_164 k_0.1 (hc := rfl) rfl (h1_0 hG) hl.1 rfl rfl (Nat.le_of_ble_eq_true rfl) dX12_stop_25 rfl rfl ⟨Nat.le_of_ble_eq_true rfl, Nat.le_of_ble_eq_true rfl⟩ ⟨Nat.le_refl _, Nat.le_refl _⟩) hS (fun x_56 iv_52 rv_53 H locs hG fa_54 fb_55 hp_51 hU hS => ?_)
        have hF1 := hF1.tr (m := ([16, 32, 33, 34], [(0, 37)])) fa_54 (by decide)
        have hF2 := hF2.tr (m := ([16, 32, 33, 34], [(0, 37)])) fb_55 (by decide)
        exact hret (⟨hG, hF1, hF2, sp_no (z := (-4)) (by unfold spStop; (repeat' split) <;> first | rfl | omega) (by decide) hp_51 (fa_54 0 0 37 (by decide))⟩) hU hS dX12_stop_28
  ·
    refine lv_aload_n hx hb dX12_stop_7 rfl (lv_at hl 0 rfl) ?_
    refine lv_iconst (v := (-1)) hx hb dX12_stop_8 (by decide) ?_
    refine q_fi (q_runV (t := 0) (i := 0) (As := [.int (-1)]) (rest := []) C hU (c_X12_refuse hG (-1) (by omega)) vm_X12_refuse ml_X12_164 k_0.1 (hc := rfl) rfl (h1_0 hG) hl.1 rfl rfl (Nat.le_of_ble_eq_true rfl) dX12_stop_9 rfl rfl ⟨Nat.le_of_ble_eq_true rfl, Nat.le_of_ble_eq_true rfl⟩ ⟨Nat.le_refl _, Nat.le_refl _⟩) hS (fun x_62 iv_58 rv_59 H locs hG fa_60 fb_61 hp_57 hU hS => ?_)
    have hF1 := hF1.tr (m := ([16, 32, 33, 34], [(0, 37)])) fa_60 (by decide)
    have hF2 := hF2.tr (m := ([16, 32, 33, 34], [(0, 37)])) fb_61 (by decide)
    exact hret (⟨hG, hF1, hF2, sp_no (z := (-1)) (by unfold spStop; (repeat' split) <;> first | rfl | omega) (by decide) hp_57 (fa_60 0 0 37 (by decide))⟩) hU hS dX12_stop_12
set_option maxHeartbeats 4000000 in
set_option maxRecDepth 100000 in
theorem c_X0_addStop_x {l : Launch} {D : va_G} {cA : FieldType → ClassId} {sz : Nat} {al : Al} {iv : Iv} {rv : Rv} (hG : GI al iv rv) (ld : Int32) (a : Int32) (b : Int32) (pre0 : (iv 79 0 4).toInt < 20) (pre1 : 0 ≤ ld.toInt ∧ ld.toInt ≤ 4000) (pre2 : 0 ≤ a.toInt ∧ a.toInt ≤ 4000) (pre3 : 0 ≤ b.toInt ∧ b.toInt ≤ 4000) : Met l yX0_addStop (wd yX0_addStop cX0_addStop 4 (some .int)) (rm 0) (PcW D cA sz al iv rv [.ref (al.2 79 0), .int ld, .int a, .int b]) (QI D cA sz al (fI al ([81, 82, 83], [(79, 4)]) iv rv (fun r iv' rv' => r.toInt = (iv 79 0 4).toInt + 1 ∧ (iv' 79 0 4).toInt = (iv 79 0 4).toInt + 1))) 0 0 (Aq sz) := by
  refine mk_i (by decide) (Nat.le_of_ble_eq_true rfl) rfl ?_
  intro p e s m args below meth c ls Q H locs C hU hS hl hret
  have hx := C.1.1
  have hb := C.1.2.1
  have hl : lv_has ls 4 [(0, .ref (al.2 79 0)), (1, .int ld), (2, .int a), (3, .int b)] := hl
  have hG0 := hG
  have hF1 : FR ([81, 82, 83], [(79, 4)]) iv iv := FR.rf
  have hF2 : FR ([81, 82, 83], [(79, 4)]) rv rv := FR.rf
  have k1 : (1 : Int32).toInt = 1 := by decide
  refine lv_aload_n hx hb dX0_addStop_0 rfl (lv_at hl 0 rfl) ?_
  refine g_79_1 C hU hG (h1_79 hG) fl_X0_21 dX0_addStop_1 ?_
  refine lv_aload_n hx hb dX0_addStop_4 rfl (lv_at hl 0 rfl) ?_
  refine g_79_4 C hU hG (h1_79 hG) fl_X0_30 dX0_addStop_5 (fun x_1 e_2 le_2 ue_2 => ?_)
  have te_2 := congrArg Int32.toInt e_2
  refine lv_iload_n hx hb dX0_addStop_8 rfl (lv_at hl 1 rfl) ?_
  refine s_81 C hU hS (h1_81 hG) (x := x_1) (by omega) (by omega) dX0_addStop_9 (fun iv_3 H locs ei_4 hU hS => ?_)
  have hG : GI al iv_3 rv := by rw [ei_4]; exact hG.puti (show _ ∧ _ from ⟨show (0 : Int) ≤ _ by omega, show _ ≤ (4000 : Int) by omega⟩) (nsA (by decide) _)
  have hF1 : FR ([81, 82, 83], [(79, 4)]) iv iv_3 := by rw [ei_4]; exact hF1.put (Or.inl (by decide))
  have kf_5 := congrArg Int32.toInt (show iv_3 79 0 4 = iv 79 0 4 by rw [ei_4]; exact up3_ne (fun z => absurd z.1 (by decide)))
  refine lv_aload_n hx hb dX0_addStop_10 rfl (lv_at hl 0 rfl) ?_
  refine g_79_2 C hU hG (h1_79 hG) fl_X0_24 dX0_addStop_11 ?_
  refine lv_aload_n hx hb dX0_addStop_14 rfl (lv_at hl 0 rfl) ?_
  refine g_79_4 C hU hG (h1_79 hG) fl_X0_30 dX0_addStop_15 (fun x_6 e_7 le_7 ue_7 => ?_)
  have te_7 := congrArg Int32.toInt e_7
  refine lv_iload_n hx hb dX0_addStop_18 rfl (lv_at hl 2 rfl) ?_
  refine s_82 C hU hS (h1_82 hG) (x := x_6) (by omega) (by omega) dX0_addStop_19 (fun iv_8 H locs ei_9 hU hS => ?_)
  have hG : GI al iv_8 rv := by rw [ei_9]; exact hG.puti (show _ ∧ _ from ⟨show (0 : Int) ≤ _ by omega, show _ ≤ (4000 : Int) by omega⟩) (nsA (by decide) _)
  have hF1 : FR ([81, 82, 83], [(79, 4)]) iv iv_8 := by rw [ei_9]; exact hF1.put (Or.inl (by decide))
  have kf_10 := congrArg Int32.toInt (show iv_8 79 0 4 = iv_3 79 0 4 by rw [ei_9]; exact up3_ne (fun z => absurd z.1 (by decide)))
  refine lv_aload_n hx hb dX0_addStop_20 rfl (lv_at hl 0 rfl) ?_
  refine g_79_3 C hU hG (h1_79 hG) fl_X0_27 dX0_addStop_21 ?_
  refine lv_aload_n hx hb dX0_addStop_24 rfl (lv_at hl 0 rfl) ?_
  refine g_79_4 C hU hG (h1_79 hG) fl_X0_30 dX0_addStop_25 (fun x_11 e_12 le_12 ue_12 => ?_)
  have te_12 := congrArg Int32.toInt e_12
  refine lv_iload_n hx hb dX0_addStop_28 rfl (lv_at hl 3 rfl) ?_
  refine s_83 C hU hS (h1_83 hG) (x := x_11) (by omega) (by omega) dX0_addStop_29 (fun iv_13 H locs ei_14 hU hS => ?_)
  have hG : GI al iv_13 rv := by rw [ei_14]; exact hG.puti (show _ ∧ _ from ⟨show (0 : Int) ≤ _ by omega, show _ ≤ (4000 : Int) by omega⟩) (nsA (by decide) _)
  have hF1 : FR ([81, 82, 83], [(79, 4)]) iv iv_13 := by rw [ei_14]; exact hF1.put (Or.inl (by decide))
  have kf_15 := congrArg Int32.toInt (show iv_13 79 0 4 = iv_8 79 0 4 by rw [ei_14]; exact up3_ne (fun z => absurd z.1 (by decide)))
  refine lv_aload_n hx hb dX0_addStop_30 rfl (lv_at hl 0 rfl) ?_
  refine lv_dup hx hb dX0_addStop_31 rfl ?_
  refine g_79_4 C hU hG (h1_79 hG) fl_X0_30 dX0_addStop_32 (fun x_16 e_17 le_17 ue_17 => ?_)
  have te_17 := congrArg Int32.toInt e_17
  refine lv_iconst (v := 1) hx hb dX0_addStop_35 (by decide) ?_
  refine lv_iadd hx hb dX0_addStop_36 ?_
  refine lv_topi (fun x_18 e_19 => ?_)
  have te_19 : x_18.toInt = (x_16 : Int32).toInt + (1 : Int32).toInt := by rw [e_19]; exact fb_addI (by omega) (by omega)
  refine p_79_4 C hU hS (h1_79 hG) fl_X0_30 dX0_addStop_37 (fun iv_20 H locs ei_21 hU hS => ?_)
  have hG : GI al iv_20 rv := by rw [ei_21]; exact hG.puti (show _ ∧ _ from ⟨show (0 : Int) ≤ _ by omega, show _ ≤ (20 : Int) by omega⟩) (nsF (by decide))
  have hF1 : FR ([81, 82, 83], [(79, 4)]) iv iv_20 := by rw [ei_21]; exact hF1.put (by decide)
  refine lv_aload_n hx hb dX0_addStop_40 rfl (lv_at hl 0 rfl) ?_
  refine g_79_4 C hU hG (h1_79 hG) fl_X0_30 dX0_addStop_41 (fun x_22 e_23 le_23 ue_23 => ?_)
  have te_23 := congrArg Int32.toInt e_23
  have hz_ := e_23
  rw [ei_21, up3_self] at hz_
  have tz_ := congrArg Int32.toInt hz_
  exact hret (⟨hG, hF1, hF2, ⟨by omega, by rw [ei_21, up3_self]; omega⟩⟩) hU hS dX0_addStop_44
set_option maxHeartbeats 4000000 in
set_option maxRecDepth 100000 in
theorem c_X11_stop_x {l : Launch} {D : va_G} {cA : FieldType → ClassId} {sz : Nat} {al : Al} {iv : Iv} {rv : Rv} (hG : GI al iv rv) (lw : Int32) (a : Int32) (b : Int32) : Met l yX11_stop (wd yX11_stop cX11_stop 4 (some .int)) (rm 2) (PcW D cA sz al iv rv [.ref (al.2 49 0), .int lw, .int a, .int b]) (QI D cA sz al (fI al ([51, 81, 82, 83], [(79, 4)]) iv rv (fun r iv' rv' => (spStop lw a b (iv 79 0 4).toInt = 0 ∧ r.toInt = (iv 79 0 4).toInt + 1 ∧ (iv' 79 0 4).toInt = (iv 79 0 4).toInt + 1) ∨ (spStop lw a b (iv 79 0 4).toInt ≠ 0 ∧ r = spStop lw a b (iv 79 0 4).toInt ∧ iv' 79 0 4 = iv 79 0 4)))) 0 0 (Aq sz) := by
  refine mk_i (by decide) (Nat.le_of_ble_eq_true rfl) rfl ?_
  intro p e s m args below meth c ls Q H locs C hU hS hl hret
  have hx := C.1.1
  have hb := C.1.2.1
  have hl : lv_has ls 4 [(0, .ref (al.2 49 0)), (1, .int lw), (2, .int a), (3, .int b)] := hl
  have hG0 := hG
  have hF1 : FR ([51, 81, 82, 83], [(79, 4)]) iv iv := FR.rf
  have hF2 : FR ([51, 81, 82, 83], [(79, 4)]) rv rv := FR.rf
  have km6 : ((-6) : Int32).toInt = -6 := by decide
  have km4 : ((-4) : Int32).toInt = -4 := by decide
  have km1 : ((-1) : Int32).toInt = -1 := by decide
  have k4 : (4 : Int32).toInt = 4 := by decide
  have k4000 : (4000 : Int32).toInt = 4000 := by decide
  refine lv_iconst (v := 4) hx hb dX11_stop_0 (by decide) ?_
  refine lv_iload_n hx hb dX11_stop_1 rfl (lv_at hl 1 rfl) ?_
  refine q_pi (q_runS (As := [.int 4, .int lw]) (rest := []) C hU (c_X11_isOneOf  4 lw ) sm_X11_isOneOf ml_X11_85 hl.1 rfl rfl (Nat.le_of_ble_eq_true rfl) dX11_stop_2 rfl rfl ⟨Nat.le_of_ble_eq_true rfl, Nat.le_of_ble_eq_true rfl⟩ ⟨Nat.le_refl _, Nat.le_refl _⟩) hS (fun x_2 H locs hp_1 hU hS => ?_)
  refine b_if_ne (tgt := 14) hx hb dX11_stop_5 (by decide) (fun c_3 => ?_) (fun c_3 => ?_)
  ·
    refine lv_iload_n hx hb dX11_stop_14 rfl (lv_at hl 2 rfl) ?_
    refine b_if_lt (tgt := 23) hx hb dX11_stop_15 (by decide) (fun c_4 => ?_) (fun c_4 => ?_)
    ·
      refine lv_aload_n hx hb dX11_stop_23 rfl (lv_at hl 0 rfl) ?_
      refine lv_bipush (v := (-4)) hx hb dX11_stop_24 (by decide) ?_
      refine q_fi (q_runV (t := 49) (i := 0) (As := [.int (-4)]) (rest := []) C hU (c_X11_refuse hG (-4) (by omega)) vm_X11_refuse ml_X11_77 k_49.1 (hc := rfl) rfl (h1_49 hG) hl.1 rfl rfl (Nat.le_of_ble_eq_true rfl) dX11_stop_26 rfl rfl ⟨Nat.le_of_ble_eq_true rfl, Nat.le_of_ble_eq_true rfl⟩ ⟨Nat.le_refl _, Nat.le_refl _⟩) hS (fun x_10 iv_6 rv_7 H locs hG fa_8 fb_9 hp_5 hU hS => ?_)
      have hF1 := hF1.tr (m := ([51, 81, 82, 83], [(79, 4)])) fa_8 (by decide)
      have hF2 := hF2.tr (m := ([51, 81, 82, 83], [(79, 4)])) fb_9 (by decide)
      exact hret (⟨hG, hF1, hF2, sp_no (z := (-4)) (by unfold spStop; (repeat' split) <;> first | rfl | omega) (by decide) hp_5 (fa_8 79 0 4 (by decide))⟩) hU hS dX11_stop_29
    ·
      refine lv_iload_n hx hb dX11_stop_18 rfl (lv_at hl 3 rfl) ?_
      refine lv_iload_n hx hb dX11_stop_19 rfl (lv_at hl 2 rfl) ?_
      refine b_icmp_ge (tgt := 30) hx hb dX11_stop_20 (by decide) (fun c_11 => ?_) (fun c_11 => ?_)
      ·
        refine lv_iload_n hx hb dX11_stop_30 rfl (lv_at hl 2 rfl) ?_
        refine lv_sipush (v := 4000) hx hb dX11_stop_31 (by decide) ?_
        refine b_icmp_gt (tgt := 54) hx hb dX11_stop_34 (by decide) (fun c_12 => ?_) (fun c_12 => ?_)
        ·
          refine lv_aload_n hx hb dX11_stop_54 rfl (lv_at hl 0 rfl) ?_
          refine lv_bipush (v := (-6)) hx hb dX11_stop_55 (by decide) ?_
          refine q_fi (q_runV (t := 49) (i := 0) (As := [.int (-6)]) (rest := []) C hU (c_X11_refuse hG (-6) (by omega)) vm_X11_refuse ml_X11_77 k_49.1 (hc := rfl) rfl (h1_49 hG) hl.1 rfl rfl (Nat.le_of_ble_eq_true rfl) dX11_stop_57 rfl rfl ⟨Nat.le_of_ble_eq_true rfl, Nat.le_of_ble_eq_true rfl⟩ ⟨Nat.le_refl _, Nat.le_refl _⟩) hS (fun x_18 iv_14 rv_15 H locs hG fa_16 fb_17 hp_13 hU hS => ?_)
          have hF1 := hF1.tr (m := ([51, 81, 82, 83], [(79, 4)])) fa_16 (by decide)
          have hF2 := hF2.tr (m := ([51, 81, 82, 83], [(79, 4)])) fb_17 (by decide)
          exact hret (⟨hG, hF1, hF2, sp_no (z := (-6)) (by unfold spStop; (repeat' split) <;> first | rfl | omega) (by decide) hp_13 (fa_16 79 0 4 (by decide))⟩) hU hS dX11_stop_60
        ·
          refine lv_iload_n hx hb dX11_stop_37 rfl (lv_at hl 3 rfl) ?_
          refine lv_sipush (v := 4000) hx hb dX11_stop_38 (by decide) ?_
          refine b_icmp_gt (tgt := 54) hx hb dX11_stop_41 (by decide) (fun c_19 => ?_) (fun c_19 => ?_)
          ·
            refine lv_aload_n hx hb dX11_stop_54 rfl (lv_at hl 0 rfl) ?_
            refine lv_bipush (v := (-6)) hx hb dX11_stop_55 (by decide) ?_
            refine q_fi (q_runV (t := 49) (i := 0) (As := [.int (-6)]) (rest := []) C hU (c_X11_refuse hG (-6) (by omega)) vm_X11_refuse ml_X11_77 k_49.1 (hc := rfl) rfl (h1_49 hG) hl.1 rfl rfl (Nat.le_of_ble_eq_true rfl) dX11_stop_57 rfl rfl ⟨Nat.le_of_ble_eq_true rfl, Nat.le_of_ble_eq_true rfl⟩ ⟨Nat.le_refl _, Nat.le_refl _⟩) hS (fun x_25 iv_21 rv_22 H locs hG fa_23 fb_24 hp_20 hU hS => ?_)
            have hF1 := hF1.tr (m := ([51, 81, 82, 83], [(79, 4)])) fa_23 (by decide)
            have hF2 := hF2.tr (m := ([51, 81, 82, 83], [(79, 4)])) fb_24 (by decide)
            exact hret (⟨hG, hF1, hF2, sp_no (z := (-6)) (by unfold spStop; (repeat' split) <;> first | rfl | omega) (by decide) hp_20 (fa_23 79 0 4 (by decide))⟩) hU hS dX11_stop_60
          ·
            refine lv_aload_n hx hb dX11_stop_44 rfl (lv_at hl 0 rfl) ?_
            refine g_49_4 C hU hG (h1_49 hG) fl_X11_40 dX11_stop_45 ?_
            refine q_pi (q_runV (t := 79) (i := 0) (As := []) (rest := []) C hU (c_X0_isFull hG  ) vm_X0_isFull ml_X11_250 k_79.1 (hc := rfl) rfl (h1_79 hG) hl.1 rfl rfl (Nat.le_of_ble_eq_true rfl) dX11_stop_48 rfl rfl ⟨Nat.le_of_ble_eq_true rfl, Nat.le_of_ble_eq_true rfl⟩ ⟨Nat.le_refl _, Nat.le_refl _⟩) hS (fun x_27 H locs hp_26 hU hS => ?_)
            refine b_if_eq (tgt := 61) hx hb dX11_stop_51 (by decide) (fun c_28 => ?_) (fun c_28 => ?_)
            ·
              refine lv_aload_n hx hb dX11_stop_61 rfl (lv_at hl 0 rfl) ?_
              refine g_49_4 C hU hG (h1_49 hG) fl_X11_40 dX11_stop_62 ?_
              refine lv_iload_n hx hb dX11_stop_65 rfl (lv_at hl 1 rfl) ?_
              refine lv_iload_n hx hb dX11_stop_66 rfl (lv_at hl 2 rfl) ?_
              refine lv_iload_n hx hb dX11_stop_67 rfl (lv_at hl 3 rfl) ?_
              refine q_fi (q_runV (t := 79) (i := 0) (As := [.int lw, .int a, .int b]) (rest := []) C hU (c_X0_addStop_x hG lw a b (by omega) (by omega) (by omega) (by omega)) vm_X0_addStop ml_X11_251 k_79.1 (hc := rfl) rfl (h1_79 hG) hl.1 rfl rfl (Nat.le_of_ble_eq_true rfl) dX11_stop_68 rfl rfl ⟨Nat.le_of_ble_eq_true rfl, Nat.le_of_ble_eq_true rfl⟩ ⟨Nat.le_refl _, Nat.le_refl _⟩) hS (fun x_34 iv_30 rv_31 H locs hG fa_32 fb_33 hp_29 hU hS => ?_)
              have hF1 := hF1.tr (m := ([51, 81, 82, 83], [(79, 4)])) fa_32 (by decide)
              have hF2 := hF2.tr (m := ([51, 81, 82, 83], [(79, 4)])) fb_33 (by decide)
              exact hret (⟨hG, hF1, hF2, Or.inl ⟨(by unfold spStop; (repeat' split) <;> first | rfl | omega), hp_29.1, hp_29.2⟩⟩) hU hS dX11_stop_71
            ·
              refine lv_aload_n hx hb dX11_stop_54 rfl (lv_at hl 0 rfl) ?_
              refine lv_bipush (v := (-6)) hx hb dX11_stop_55 (by decide) ?_
              refine q_fi (q_runV (t := 49) (i := 0) (As := [.int (-6)]) (rest := []) C hU (c_X11_refuse hG (-6) (by omega)) vm_X11_refuse ml_X11_77 k_49.1 (hc := rfl) rfl (h1_49 hG) hl.1 rfl rfl (Nat.le_of_ble_eq_true rfl) dX11_stop_57 rfl rfl ⟨Nat.le_of_ble_eq_true rfl, Nat.le_of_ble_eq_true rfl⟩ ⟨Nat.le_refl _, Nat.le_refl _⟩) hS (fun x_40 iv_36 rv_37 H locs hG fa_38 fb_39 hp_35 hU hS => ?_)
              have hF1 := hF1.tr (m := ([51, 81, 82, 83], [(79, 4)])) fa_38 (by decide)
              have hF2 := hF2.tr (m := ([51, 81, 82, 83], [(79, 4)])) fb_39 (by decide)
              exact hret (⟨hG, hF1, hF2, sp_no (z := (-6)) (by unfold spStop; (repeat' split) <;> first | rfl | omega) (by decide) hp_35 (fa_38 79 0 4 (by decide))⟩) hU hS dX11_stop_60
      ·
        refine lv_aload_n hx hb dX11_stop_23 rfl (lv_at hl 0 rfl) ?_
        refine lv_bipush (v := (-4)) hx hb dX11_stop_24 (by decide) ?_
        refine q_fi (q_runV (t := 49) (i := 0) (As := [.int (-4)]) (rest := []) C hU (c_X11_refuse hG (-4) (by omega)) vm_X11_refuse ml_X11_77 k_49.1 (hc := rfl) rfl (h1_49 hG) hl.1 rfl rfl (Nat.le_of_ble_eq_true rfl) dX11_stop_26 rfl rfl ⟨Nat.le_of_ble_eq_true rfl, Nat.le_of_ble_eq_true rfl⟩ ⟨Nat.le_refl _, Nat.le_refl _⟩) hS (fun x_46 iv_42 rv_43 H locs hG fa_44 fb_45 hp_41 hU hS => ?_)
        have hF1 := hF1.tr (m := ([51, 81, 82, 83], [(79, 4)])) fa_44 (by decide)
        have hF2 := hF2.tr (m := ([51, 81, 82, 83], [(79, 4)])) fb_45 (by decide)
        exact hret (⟨hG, hF1, hF2, sp_no (z := (-4)) (by unfold spStop; (repeat' split) <;> first | rfl | omega) (by decide) hp_41 (fa_44 79 0 4 (by decide))⟩) hU hS dX11_stop_29
  ·
    refine lv_aload_n hx hb dX11_stop_8 rfl (lv_at hl 0 rfl) ?_
    refine lv_iconst (v := (-1)) hx hb dX11_stop_9 (by decide) ?_
    refine q_fi (q_runV (t := 49) (i := 0) (As := [.int (-1)]) (rest := []) C hU (c_X11_refuse hG (-1) (by omega)) vm_X11_refuse ml_X11_77 k_49.1 (hc := rfl) rfl (h1_49 hG) hl.1 rfl rfl (Nat.le_of_ble_eq_true rfl) dX11_stop_10 rfl rfl ⟨Nat.le_of_ble_eq_true rfl, Nat.le_of_ble_eq_true rfl⟩ ⟨Nat.le_refl _, Nat.le_refl _⟩) hS (fun x_52 iv_48 rv_49 H locs hG fa_50 fb_51 hp_47 hU hS => ?_)
    have hF1 := hF1.tr (m := ([51, 81, 82, 83], [(79, 4)])) fa_50 (by decide)
    have hF2 := hF2.tr (m := ([51, 81, 82, 83], [(79, 4)])) fb_51 (by decide)
    exact hret (⟨hG, hF1, hF2, sp_no (z := (-1)) (by unfold spStop; (repeat' split) <;> first | rfl | omega) (by decide) hp_47 (fa_50 79 0 4 (by decide))⟩) hU hS dX11_stop_13
