theorem sp_no {S r z : Int32} {K A : Prop} (hs : S = z) (hz : z ≠ 0) (hr : r = z) (k : K) : (S = 0 ∧ A) ∨ (S ≠ 0 ∧ r = S ∧ K) := Or.inr ⟨by rw [hs]; exact hz, hr.trans hs.symm, k⟩
def spJud (l c m far cost : Int32) (cnt : Int) : Int32 := if ¬ ((0 ≤ l.toInt ∧ l.toInt ≤ 3) ∧ (0 ≤ c.toInt ∧ c.toInt ≤ 5)) then -1 else if m.toInt < 0 ∨ far.toInt < 0 ∨ cost.toInt < 0 then -4 else if 9999 < m.toInt ∨ 9999 < far.toInt ∨ 9999 < cost.toInt ∨ 40 ≤ cnt then -6 else 0
def spStop (l a b : Int32) (cnt : Int) : Int32 := if ¬ (0 ≤ l.toInt ∧ l.toInt ≤ 3) then -1 else if a.toInt < 0 ∨ b.toInt < a.toInt then -4 else if 4000 < b.toInt ∨ 20 ≤ cnt then -6 else 0
def spLaw (l d m far s : Int32) (day cnt : Int) : Int32 := if ¬ (0 ≤ l.toInt ∧ l.toInt ≤ 3) then -1 else if d.toInt < day ∨ m.toInt < 0 ∨ far.toInt < 0 ∨ s.toInt < 0 then -4 else if 4000 < d.toInt ∨ 9999 < m.toInt ∨ 9999 < far.toInt ∨ 9999 < s.toInt ∨ 30 ≤ cnt then -6 else 0
def spExc (l c d : Int32) (cnt : Int) : Int32 := if ¬ ((0 ≤ l.toInt ∧ l.toInt ≤ 3) ∧ (0 ≤ c.toInt ∧ c.toInt ≤ 5)) then -1 else if d.toInt < 0 then -4 else if 4000 < d.toInt ∨ 40 ≤ cnt then -6 else 0
def spMiles (a b v : Int32) : Int32 := if ¬ ((0 ≤ a.toInt ∧ a.toInt ≤ 9) ∧ (0 ≤ b.toInt ∧ b.toInt ≤ 9) ∧ ¬ a.toInt = b.toInt) then -1 else if v.toInt < 0 then -4 else if 9999 < v.toInt then -6 else 0
def spLeg (a b p c l r : Int32) (cnt : Int) : Int32 := if ¬ ((0 ≤ a.toInt ∧ a.toInt ≤ 9) ∧ (0 ≤ b.toInt ∧ b.toInt ≤ 9) ∧ ¬ a.toInt = b.toInt ∧ (0 ≤ p.toInt ∧ p.toInt ≤ 5) ∧ (0 ≤ c.toInt ∧ c.toInt ≤ 5)) then -1 else if l.toInt < 0 ∨ r.toInt ≤ l.toInt then -4 else if 20000 < r.toInt ∨ 40 ≤ cnt then -6 else 0
def spTrav (g : Int32) (legs cnt : Int) : Int32 := if ¬ (0 ≤ g.toInt ∧ g.toInt < legs) then -1 else if 20 ≤ cnt then -6 else 0
def spCause (g c : Int32) (legs : Int) : Int32 := if ¬ ((0 ≤ g.toInt ∧ g.toInt < legs) ∧ (0 ≤ c.toInt ∧ c.toInt ≤ 5)) then -1 else 0
def spOwes (p t v : Int32) (trav : Int) : Int32 := if ¬ ((0 ≤ p.toInt ∧ p.toInt ≤ 4) ∧ (0 ≤ t.toInt ∧ t.toInt < trav)) then -1 else if v.toInt < 0 then -4 else if 9999 < v.toInt then -6 else 0
def spLog (g a b : Int32) (legs : Int) : Int32 := if ¬ (0 ≤ g.toInt ∧ g.toInt < legs) then -1 else if a.toInt < 0 ∨ b.toInt < 0 then -4 else if 30000 < a.toInt ∨ 30000 < b.toInt then -6 else 0
theorem up2_if {iv : Iv} {t i x y : Nat} {v : Int32} {k : Nat} : up3 (up3 iv t i x v) t i y v t i k = if k = x ∨ k = y then v else iv t i k := by
  simp only [up3]
  by_cases h1 : k = x <;> by_cases h2 : k = y <;> simp [h1, h2]
theorem up2_ij {iv : Iv} {t i1 k1 i2 k2 : Nat} {v : Int32} {i k : Nat} : up3 (up3 iv t i1 k1 v) t i2 k2 v t i k = if (i = i1 ∧ k = k1) ∨ (i = i2 ∧ k = k2) then v else iv t i k := by
  simp only [up3]
  by_cases h1 : i = i1 ∧ k = k1 <;> by_cases h2 : i = i2 ∧ k = k2 <;> simp [h1, h2]
theorem pnum {al : Al} {iv : Iv} {rv : Rv} (hG : GI al iv rv) {i : Nat} (hi : i < al.1 56) : (iv 56 i 0).toInt = i ∧ i < 10 := by
  have h : i < 10 := by rw [hG.2.2.1.2.1] at hi; exact hi
  exact ⟨hG.2.2.2.2.2.2.1.2.2 i h, h⟩
theorem mbw {al : Al} {iv : Iv} {rv : Rv} (hG : GI al iv rv) {pi pj : Nat} (hi : pi < al.1 56) (hj : pj < al.1 56) {x1 x2 : Int32} {j : Nat} (e1 : x1.toInt = (iv 56 pi 0).toInt) (ej : rv 54 0 x1.toNatClampNeg = some j) (e2 : x2.toInt = (iv 56 pj 0).toInt) : j = pi ∧ x2.toNatClampNeg = pj := by
  obtain ⟨a1, b1⟩ := pnum hG hi
  obtain ⟨a2, b2⟩ := pnum hG hj
  have q := Option.some.inj (ej.symm.trans (dall hG (by omega) (by omega)))
  rw [clamp_n] at q ⊢
  exact ⟨by omega, by omega⟩
theorem leg_cnt {al al' : Al} {iv iv' : Iv} {rv rv' : Rv} (hG : GI al iv rv) {r pl cr lv_ ar : Int32} {pf pt_ : Nat} (h : ∃ (a : Nat) (siz : Int32), siz.toInt = al.1 62 + 1 ∧ al' = grow al 62 a ∧ iv' = legIv iv (al.1 62) r pl cr lv_ ar siz ∧ rv' = legRv rv (al.1 62) pf pt_) : (iv' 57 0 1).toInt = (iv 57 0 1).toInt + 1 := by
  obtain ⟨a, siz, hs, -, e, -⟩ := h
  have n := hG.2.2.2.1.2
  rw [e, n, ← hs]
  exact congrArg Int32.toInt (up3_self _ _ _ _ _)
theorem tick_cnt {al al' : Al} {iv iv' : Iv} {rv rv' : Rv} (hG : GI al iv rv) {r : Int32} {li : Nat} (h : ∃ (a a6 a7 : Nat) (siz : Int32), siz.toInt = al.1 65 + 1 ∧ al' = grow (grow (grow al 65 a) 66 a6) 67 a7 ∧ iv' = tickIv iv (al.1 65) r siz ∧ rv' = tickRv rv (al.1 65) li) : (iv' 63 0 1).toInt = (iv 63 0 1).toInt + 1 := by
  obtain ⟨a, a6, a7, siz, hs, -, e, -⟩ := h
  have n := hG.2.2.2.2.1.2
  rw [e, n, ← hs]
  exact congrArg Int32.toInt (up3_self _ _ _ _ _)
def dayF (n t : Int) : Int := if 0 ≤ n ∧ n ≤ 4000 - t then t + n else t

set_option maxHeartbeats 4000000 in
set_option maxRecDepth 100000 in
theorem c_X12_judged_x {l : Launch} {D : va_G} {cA : FieldType → ClassId} {sz : Nat} {al : Al} {iv : Iv} {rv : Rv} (hG : GI al iv rv) (lw : Int32) (cs : Int32) (mm : Int32) (far : Int32) (won : Int32) (cost : Int32) (pre0 : 0 ≤ won.toInt ∧ won.toInt ≤ 1) : Met l yX12_judged (wd yX12_judged cX12_judged 7 (some .int)) (rm 2) (PcW D cA sz al iv rv [.ref (al.2 0 0), .int lw, .int cs, .int mm, .int far, .int won, .int cost]) (QI D cA sz al (fI al ([16, 41, 42, 43, 44, 45, 46], [(0, 48)]) iv rv (fun r iv' rv' => (spJud lw cs mm far cost (iv 0 0 48).toInt = 0 ∧ r.toInt = (iv 0 0 48).toInt ∧ (iv' 0 0 48).toInt = (iv 0 0 48).toInt + 1) ∨ (spJud lw cs mm far cost (iv 0 0 48).toInt ≠ 0 ∧ r = spJud lw cs mm far cost (iv 0 0 48).toInt ∧ iv' 0 0 48 = iv 0 0 48)))) 0 0 (Aq sz) := by
  refine mk_i (by decide) (Nat.le_of_ble_eq_true rfl) rfl ?_
  intro p e s m args below meth c ls Q H locs C hU hS hl hret
  have hx := C.1.1
  have hb := C.1.2.1
  have hl : lv_has ls 7 [(0, .ref (al.2 0 0)), (1, .int lw), (2, .int cs), (3, .int mm), (4, .int far), (5, .int won), (6, .int cost)] := hl
  have hG0 := hG
  have h6 := le6 hG
  have h20 := le20 hG
  have h41 := le41 hG
  have hF1 : FR ([16, 41, 42, 43, 44, 45, 46], [(0, 48)]) iv iv := FR.rf
  have hF2 : FR ([16, 41, 42, 43, 44, 45, 46], [(0, 48)]) rv rv := FR.rf
  have km6 : ((-6) : Int32).toInt = -6 := by decide
  have km4 : ((-4) : Int32).toInt = -4 := by decide
  have km1 : ((-1) : Int32).toInt = -1 := by decide
  have k1 : (1 : Int32).toInt = 1 := by decide
  have k40 : (40 : Int32).toInt = 40 := by decide
  have k9999 : (9999 : Int32).toInt = 9999 := by decide
  refine lv_iload_n hx hb dX12_judged_0 rfl (lv_at hl 1 rfl) ?_
  refine q_pi (q_runS (As := [.int lw]) (rest := []) C hU (c_X12_isLand  lw ) sm_X12_isLand ml_X12_244 hl.1 rfl rfl (Nat.le_of_ble_eq_true rfl) dX12_judged_1 rfl rfl ⟨Nat.le_of_ble_eq_true rfl, Nat.le_of_ble_eq_true rfl⟩ ⟨Nat.le_refl _, Nat.le_refl _⟩) hS (fun x_2 H locs hp_1 hU hS => ?_)
  refine b_if_eq (tgt := 14) hx hb dX12_judged_4 (by decide) (fun c_3 => ?_) (fun c_3 => ?_)
  ·
    refine lv_aload_n hx hb dX12_judged_14 rfl (lv_at hl 0 rfl) ?_
    refine lv_iconst (v := (-1)) hx hb dX12_judged_15 (by decide) ?_
    refine q_fi (q_runV (t := 0) (i := 0) (As := [.int (-1)]) (rest := []) C hU (c_X12_refuse hG (-1) (by omega)) vm_X12_refuse ml_X12_164 k_0.1 (hc := rfl) rfl (h1_0 hG) hl.1 rfl rfl (Nat.le_of_ble_eq_true rfl) dX12_judged_16 rfl rfl ⟨Nat.le_of_ble_eq_true rfl, Nat.le_of_ble_eq_true rfl⟩ ⟨Nat.le_refl _, Nat.le_refl _⟩) hS (fun x_9 iv_5 rv_6 H locs hG fa_7 fb_8 hp_4 hU hS => ?_)
    have hF1 := hF1.tr (m := ([16, 41, 42, 43, 44, 45, 46], [(0, 48)])) fa_7 (by decide)
    have hF2 := hF2.tr (m := ([16, 41, 42, 43, 44, 45, 46], [(0, 48)])) fb_8 (by decide)
    exact hret (⟨hG, hF1, hF2, sp_no (z := (-1)) (by unfold spJud; (repeat' split) <;> first | rfl | omega) (by decide) hp_4 (fa_7 0 0 48 (by decide))⟩) hU hS dX12_judged_19
  ·
    refine lv_iload_n hx hb dX12_judged_7 rfl (lv_at hl 2 rfl) ?_
    refine q_pi (q_runS (As := [.int cs]) (rest := []) C hU (c_X12_isCause  cs ) sm_X12_isCause ml_X12_184 hl.1 rfl rfl (Nat.le_of_ble_eq_true rfl) dX12_judged_8 rfl rfl ⟨Nat.le_of_ble_eq_true rfl, Nat.le_of_ble_eq_true rfl⟩ ⟨Nat.le_refl _, Nat.le_refl _⟩) hS (fun x_11 H locs hp_10 hU hS => ?_)
    refine b_if_ne (tgt := 20) hx hb dX12_judged_11 (by decide) (fun c_12 => ?_) (fun c_12 => ?_)
    ·
      refine lv_iload_n hx hb dX12_judged_20 rfl (lv_at hl 3 rfl) ?_
      refine b_if_lt (tgt := 34) hx hb dX12_judged_21 (by decide) (fun c_13 => ?_) (fun c_13 => ?_)
      ·
        refine lv_aload_n hx hb dX12_judged_34 rfl (lv_at hl 0 rfl) ?_
        refine lv_bipush (v := (-4)) hx hb dX12_judged_35 (by decide) ?_
        refine q_fi (q_runV (t := 0) (i := 0) (As := [.int (-4)]) (rest := []) C hU (c_X12_refuse hG (-4) (by omega)) vm_X12_refuse ml_X12_164 k_0.1 (hc := rfl) rfl (h1_0 hG) hl.1 rfl rfl (Nat.le_of_ble_eq_true rfl) dX12_judged_37 rfl rfl ⟨Nat.le_of_ble_eq_true rfl, Nat.le_of_ble_eq_true rfl⟩ ⟨Nat.le_refl _, Nat.le_refl _⟩) hS (fun x_19 iv_15 rv_16 H locs hG fa_17 fb_18 hp_14 hU hS => ?_)
        have hF1 := hF1.tr (m := ([16, 41, 42, 43, 44, 45, 46], [(0, 48)])) fa_17 (by decide)
        have hF2 := hF2.tr (m := ([16, 41, 42, 43, 44, 45, 46], [(0, 48)])) fb_18 (by decide)
        exact hret (⟨hG, hF1, hF2, sp_no (z := (-4)) (by unfold spJud; (repeat' split) <;> first | rfl | omega) (by decide) hp_14 (fa_17 0 0 48 (by decide))⟩) hU hS dX12_judged_40
      ·
        refine lv_iload hx hb dX12_judged_24 (lv_at hl 4 rfl) ?_
        refine b_if_lt (tgt := 34) hx hb dX12_judged_26 (by decide) (fun c_20 => ?_) (fun c_20 => ?_)
        ·
          refine lv_aload_n hx hb dX12_judged_34 rfl (lv_at hl 0 rfl) ?_
          refine lv_bipush (v := (-4)) hx hb dX12_judged_35 (by decide) ?_
          refine q_fi (q_runV (t := 0) (i := 0) (As := [.int (-4)]) (rest := []) C hU (c_X12_refuse hG (-4) (by omega)) vm_X12_refuse ml_X12_164 k_0.1 (hc := rfl) rfl (h1_0 hG) hl.1 rfl rfl (Nat.le_of_ble_eq_true rfl) dX12_judged_37 rfl rfl ⟨Nat.le_of_ble_eq_true rfl, Nat.le_of_ble_eq_true rfl⟩ ⟨Nat.le_refl _, Nat.le_refl _⟩) hS (fun x_26 iv_22 rv_23 H locs hG fa_24 fb_25 hp_21 hU hS => ?_)
          have hF1 := hF1.tr (m := ([16, 41, 42, 43, 44, 45, 46], [(0, 48)])) fa_24 (by decide)
          have hF2 := hF2.tr (m := ([16, 41, 42, 43, 44, 45, 46], [(0, 48)])) fb_25 (by decide)
          exact hret (⟨hG, hF1, hF2, sp_no (z := (-4)) (by unfold spJud; (repeat' split) <;> first | rfl | omega) (by decide) hp_21 (fa_24 0 0 48 (by decide))⟩) hU hS dX12_judged_40
        ·
          refine lv_iload hx hb dX12_judged_29 (lv_at hl 6 rfl) ?_
          refine b_if_ge (tgt := 41) hx hb dX12_judged_31 (by decide) (fun c_27 => ?_) (fun c_27 => ?_)
          ·
            refine lv_iload_n hx hb dX12_judged_41 rfl (lv_at hl 3 rfl) ?_
            refine lv_sipush (v := 9999) hx hb dX12_judged_42 (by decide) ?_
            refine b_icmp_gt (tgt := 73) hx hb dX12_judged_45 (by decide) (fun c_28 => ?_) (fun c_28 => ?_)
            ·
              refine lv_aload_n hx hb dX12_judged_73 rfl (lv_at hl 0 rfl) ?_
              refine lv_bipush (v := (-6)) hx hb dX12_judged_74 (by decide) ?_
              refine q_fi (q_runV (t := 0) (i := 0) (As := [.int (-6)]) (rest := []) C hU (c_X12_refuse hG (-6) (by omega)) vm_X12_refuse ml_X12_164 k_0.1 (hc := rfl) rfl (h1_0 hG) hl.1 rfl rfl (Nat.le_of_ble_eq_true rfl) dX12_judged_76 rfl rfl ⟨Nat.le_of_ble_eq_true rfl, Nat.le_of_ble_eq_true rfl⟩ ⟨Nat.le_refl _, Nat.le_refl _⟩) hS (fun x_34 iv_30 rv_31 H locs hG fa_32 fb_33 hp_29 hU hS => ?_)
              have hF1 := hF1.tr (m := ([16, 41, 42, 43, 44, 45, 46], [(0, 48)])) fa_32 (by decide)
              have hF2 := hF2.tr (m := ([16, 41, 42, 43, 44, 45, 46], [(0, 48)])) fb_33 (by decide)
              exact hret (⟨hG, hF1, hF2, sp_no (z := (-6)) (by unfold spJud; (repeat' split) <;> first | rfl | omega) (by decide) hp_29 (fa_32 0 0 48 (by decide))⟩) hU hS dX12_judged_79
            ·
              refine lv_iload hx hb dX12_judged_48 (lv_at hl 4 rfl) ?_
              refine lv_sipush (v := 9999) hx hb dX12_judged_50 (by decide) ?_
              refine b_icmp_gt (tgt := 73) hx hb dX12_judged_53 (by decide) (fun c_35 => ?_) (fun c_35 => ?_)
              ·
                refine lv_aload_n hx hb dX12_judged_73 rfl (lv_at hl 0 rfl) ?_
                refine lv_bipush (v := (-6)) hx hb dX12_judged_74 (by decide) ?_
                refine q_fi (q_runV (t := 0) (i := 0) (As := [.int (-6)]) (rest := []) C hU (c_X12_refuse hG (-6) (by omega)) vm_X12_refuse ml_X12_164 k_0.1 (hc := rfl) rfl (h1_0 hG) hl.1 rfl rfl (Nat.le_of_ble_eq_true rfl) dX12_judged_76 rfl rfl ⟨Nat.le_of_ble_eq_true rfl, Nat.le_of_ble_eq_true rfl⟩ ⟨Nat.le_refl _, Nat.le_refl _⟩) hS (fun x_41 iv_37 rv_38 H locs hG fa_39 fb_40 hp_36 hU hS => ?_)
                have hF1 := hF1.tr (m := ([16, 41, 42, 43, 44, 45, 46], [(0, 48)])) fa_39 (by decide)
                have hF2 := hF2.tr (m := ([16, 41, 42, 43, 44, 45, 46], [(0, 48)])) fb_40 (by decide)
                exact hret (⟨hG, hF1, hF2, sp_no (z := (-6)) (by unfold spJud; (repeat' split) <;> first | rfl | omega) (by decide) hp_36 (fa_39 0 0 48 (by decide))⟩) hU hS dX12_judged_79
              ·
                refine lv_iload hx hb dX12_judged_56 (lv_at hl 6 rfl) ?_
                refine lv_sipush (v := 9999) hx hb dX12_judged_58 (by decide) ?_
                refine b_icmp_gt (tgt := 73) hx hb dX12_judged_61 (by decide) (fun c_42 => ?_) (fun c_42 => ?_)
                ·
                  refine lv_aload_n hx hb dX12_judged_73 rfl (lv_at hl 0 rfl) ?_
                  refine lv_bipush (v := (-6)) hx hb dX12_judged_74 (by decide) ?_
                  refine q_fi (q_runV (t := 0) (i := 0) (As := [.int (-6)]) (rest := []) C hU (c_X12_refuse hG (-6) (by omega)) vm_X12_refuse ml_X12_164 k_0.1 (hc := rfl) rfl (h1_0 hG) hl.1 rfl rfl (Nat.le_of_ble_eq_true rfl) dX12_judged_76 rfl rfl ⟨Nat.le_of_ble_eq_true rfl, Nat.le_of_ble_eq_true rfl⟩ ⟨Nat.le_refl _, Nat.le_refl _⟩) hS (fun x_48 iv_44 rv_45 H locs hG fa_46 fb_47 hp_43 hU hS => ?_)
                  have hF1 := hF1.tr (m := ([16, 41, 42, 43, 44, 45, 46], [(0, 48)])) fa_46 (by decide)
                  have hF2 := hF2.tr (m := ([16, 41, 42, 43, 44, 45, 46], [(0, 48)])) fb_47 (by decide)
                  exact hret (⟨hG, hF1, hF2, sp_no (z := (-6)) (by unfold spJud; (repeat' split) <;> first | rfl | omega) (by decide) hp_43 (fa_46 0 0 48 (by decide))⟩) hU hS dX12_judged_79
                ·
                  refine lv_aload_n hx hb dX12_judged_64 rfl (lv_at hl 0 rfl) ?_
                  refine g_0_48 C hU hG (h1_0 hG) fl_X12_300 dX12_judged_65 (fun x_49 e_50 le_50 ue_50 => ?_)
                  have te_50 := congrArg Int32.toInt e_50
                  refine lv_bipush (v := 40) hx hb dX12_judged_68 (by decide) ?_
                  refine b_icmp_ne (tgt := 80) hx hb dX12_judged_70 (by decide) (fun c_51 => ?_) (fun c_51 => ?_)
                  ·
                    refine lv_aload_n hx hb dX12_judged_80 rfl (lv_at hl 0 rfl) ?_
                    refine g_0_49 C hU hG (h1_0 hG) fl_X12_131 dX12_judged_81 ?_
                    refine lv_aload_n hx hb dX12_judged_84 rfl (lv_at hl 0 rfl) ?_
                    refine g_0_48 C hU hG (h1_0 hG) fl_X12_300 dX12_judged_85 (fun x_52 e_53 le_53 ue_53 => ?_)
                    have te_53 := congrArg Int32.toInt e_53
                    refine lv_iload_n hx hb dX12_judged_88 rfl (lv_at hl 1 rfl) ?_
                    refine s_41 C hU hS (h1_41 hG) (x := x_52) (by omega) (by omega) dX12_judged_89 (fun iv_54 H locs ei_55 hU hS => ?_)
                    have hG : GI al iv_54 rv := by rw [ei_55]; exact hG.puti (show _ ∧ _ from ⟨(fb_rng _).1, Int.le_of_lt_add_one (fb_rng _).2⟩) (nsA (by decide) _)
                    have hF1 : FR ([16, 41, 42, 43, 44, 45, 46], [(0, 48)]) iv iv_54 := by rw [ei_55]; exact hF1.put (Or.inl (by decide))
                    have kf_56 := congrArg Int32.toInt (show iv_54 0 0 48 = iv 0 0 48 by rw [ei_55]; exact up3_ne (fun z => absurd z.1 (by decide)))
                    refine lv_aload_n hx hb dX12_judged_90 rfl (lv_at hl 0 rfl) ?_
                    refine g_0_50 C hU hG (h1_0 hG) fl_X12_134 dX12_judged_91 ?_
                    refine lv_aload_n hx hb dX12_judged_94 rfl (lv_at hl 0 rfl) ?_
                    refine g_0_48 C hU hG (h1_0 hG) fl_X12_300 dX12_judged_95 (fun x_57 e_58 le_58 ue_58 => ?_)
                    have te_58 := congrArg Int32.toInt e_58
                    refine lv_iload_n hx hb dX12_judged_98 rfl (lv_at hl 2 rfl) ?_
                    refine s_42 C hU hS (h1_42 hG) (x := x_57) (by omega) (by omega) dX12_judged_99 (fun iv_59 H locs ei_60 hU hS => ?_)
                    have hG : GI al iv_59 rv := by rw [ei_60]; exact hG.puti (show _ ∧ _ from ⟨(fb_rng _).1, Int.le_of_lt_add_one (fb_rng _).2⟩) (nsA (by decide) _)
                    have hF1 : FR ([16, 41, 42, 43, 44, 45, 46], [(0, 48)]) iv iv_59 := by rw [ei_60]; exact hF1.put (Or.inl (by decide))
                    have kf_61 := congrArg Int32.toInt (show iv_59 0 0 48 = iv_54 0 0 48 by rw [ei_60]; exact up3_ne (fun z => absurd z.1 (by decide)))
                    refine lv_aload_n hx hb dX12_judged_100 rfl (lv_at hl 0 rfl) ?_
                    refine g_0_51 C hU hG (h1_0 hG) fl_X12_137 dX12_judged_101 ?_
                    refine lv_aload_n hx hb dX12_judged_104 rfl (lv_at hl 0 rfl) ?_
                    refine g_0_48 C hU hG (h1_0 hG) fl_X12_300 dX12_judged_105 (fun x_62 e_63 le_63 ue_63 => ?_)
                    have te_63 := congrArg Int32.toInt e_63
                    refine lv_iload_n hx hb dX12_judged_108 rfl (lv_at hl 3 rfl) ?_
                    refine s_43 C hU hS (h1_43 hG) (x := x_62) (by omega) (by omega) dX12_judged_109 (fun iv_64 H locs ei_65 hU hS => ?_)
                    have hG : GI al iv_64 rv := by rw [ei_65]; exact hG.puti (show _ ∧ _ from ⟨show (0 : Int) ≤ _ by omega, show _ ≤ (9999 : Int) by omega⟩) (nsA (by decide) _)
                    have hF1 : FR ([16, 41, 42, 43, 44, 45, 46], [(0, 48)]) iv iv_64 := by rw [ei_65]; exact hF1.put (Or.inl (by decide))
                    have kf_66 := congrArg Int32.toInt (show iv_64 0 0 48 = iv_59 0 0 48 by rw [ei_65]; exact up3_ne (fun z => absurd z.1 (by decide)))
                    refine lv_aload_n hx hb dX12_judged_110 rfl (lv_at hl 0 rfl) ?_
                    refine g_0_52 C hU hG (h1_0 hG) fl_X12_140 dX12_judged_111 ?_
                    refine lv_aload_n hx hb dX12_judged_114 rfl (lv_at hl 0 rfl) ?_
                    refine g_0_48 C hU hG (h1_0 hG) fl_X12_300 dX12_judged_115 (fun x_67 e_68 le_68 ue_68 => ?_)
                    have te_68 := congrArg Int32.toInt e_68
                    refine lv_iload hx hb dX12_judged_118 (lv_at hl 4 rfl) ?_
                    refine s_44 C hU hS (h1_44 hG) (x := x_67) (by omega) (by omega) dX12_judged_120 (fun iv_69 H locs ei_70 hU hS => ?_)
                    have hG : GI al iv_69 rv := by rw [ei_70]; exact hG.puti (show _ ∧ _ from ⟨show (0 : Int) ≤ _ by omega, show _ ≤ (9999 : Int) by omega⟩) (nsA (by decide) _)
                    have hF1 : FR ([16, 41, 42, 43, 44, 45, 46], [(0, 48)]) iv iv_69 := by rw [ei_70]; exact hF1.put (Or.inl (by decide))
                    have kf_71 := congrArg Int32.toInt (show iv_69 0 0 48 = iv_64 0 0 48 by rw [ei_70]; exact up3_ne (fun z => absurd z.1 (by decide)))
                    refine lv_aload_n hx hb dX12_judged_121 rfl (lv_at hl 0 rfl) ?_
                    refine g_0_53 C hU hG (h1_0 hG) fl_X12_143 dX12_judged_122 ?_
                    refine lv_aload_n hx hb dX12_judged_125 rfl (lv_at hl 0 rfl) ?_
                    refine g_0_48 C hU hG (h1_0 hG) fl_X12_300 dX12_judged_126 (fun x_72 e_73 le_73 ue_73 => ?_)
                    have te_73 := congrArg Int32.toInt e_73
                    refine lv_iload hx hb dX12_judged_129 (lv_at hl 5 rfl) ?_
                    refine s_45 C hU hS (h1_45 hG) (x := x_72) (by omega) (by omega) (by omega) (by omega) dX12_judged_131 (fun iv_74 H locs ei_75 hU hS => ?_)
                    have hG : GI al iv_74 rv := by rw [ei_75]; exact hG.puti (show _ ∧ _ from ⟨show (0 : Int) ≤ _ by omega, show _ ≤ (1 : Int) by omega⟩) (nsA (by decide) _)
                    have hF1 : FR ([16, 41, 42, 43, 44, 45, 46], [(0, 48)]) iv iv_74 := by rw [ei_75]; exact hF1.put (Or.inl (by decide))
                    have kf_76 := congrArg Int32.toInt (show iv_74 0 0 48 = iv_69 0 0 48 by rw [ei_75]; exact up3_ne (fun z => absurd z.1 (by decide)))
                    refine lv_aload_n hx hb dX12_judged_132 rfl (lv_at hl 0 rfl) ?_
                    refine g_0_54 C hU hG (h1_0 hG) fl_X12_146 dX12_judged_133 ?_
                    refine lv_aload_n hx hb dX12_judged_136 rfl (lv_at hl 0 rfl) ?_
                    refine g_0_48 C hU hG (h1_0 hG) fl_X12_300 dX12_judged_137 (fun x_77 e_78 le_78 ue_78 => ?_)
                    have te_78 := congrArg Int32.toInt e_78
                    refine lv_iload hx hb dX12_judged_140 (lv_at hl 6 rfl) ?_
                    refine s_46 C hU hS (h1_46 hG) (x := x_77) (by omega) (by omega) dX12_judged_142 (fun iv_79 H locs ei_80 hU hS => ?_)
                    have hG : GI al iv_79 rv := by rw [ei_80]; exact hG.puti (show _ ∧ _ from ⟨show (0 : Int) ≤ _ by omega, show _ ≤ (9999 : Int) by omega⟩) (nsA (by decide) _)
                    have hF1 : FR ([16, 41, 42, 43, 44, 45, 46], [(0, 48)]) iv iv_79 := by rw [ei_80]; exact hF1.put (Or.inl (by decide))
                    have kf_81 := congrArg Int32.toInt (show iv_79 0 0 48 = iv_74 0 0 48 by rw [ei_80]; exact up3_ne (fun z => absurd z.1 (by decide)))
                    refine lv_aload_n hx hb dX12_judged_143 rfl (lv_at hl 0 rfl) ?_
                    refine lv_dup hx hb dX12_judged_144 rfl ?_
                    refine g_0_48 C hU hG (h1_0 hG) fl_X12_300 dX12_judged_145 (fun x_82 e_83 le_83 ue_83 => ?_)
                    have te_83 := congrArg Int32.toInt e_83
                    refine lv_iconst (v := 1) hx hb dX12_judged_148 (by decide) ?_
                    refine lv_iadd hx hb dX12_judged_149 ?_
                    refine lv_topi (fun x_84 e_85 => ?_)
                    have te_85 : x_84.toInt = (x_82 : Int32).toInt + (1 : Int32).toInt := by rw [e_85]; exact fb_addI (by omega) (by omega)
                    refine p_0_48 C hU hS (h1_0 hG) fl_X12_300 dX12_judged_150 (fun iv_86 H locs ei_87 hU hS => ?_)
                    have hG : GI al iv_86 rv := by rw [ei_87]; exact hG.puti (show _ ∧ _ from ⟨show (0 : Int) ≤ _ by omega, show _ ≤ (40 : Int) by omega⟩) (nsF (by decide))
                    have hF1 : FR ([16, 41, 42, 43, 44, 45, 46], [(0, 48)]) iv iv_86 := by rw [ei_87]; exact hF1.put (by decide)
                    refine lv_aload_n hx hb dX12_judged_153 rfl (lv_at hl 0 rfl) ?_
                    refine g_0_48 C hU hG (h1_0 hG) fl_X12_300 dX12_judged_154 (fun x_88 e_89 le_89 ue_89 => ?_)
                    have te_89 := congrArg Int32.toInt e_89
                    have hz_ := e_89
                    rw [ei_87, up3_self] at hz_
                    have tz_ := congrArg Int32.toInt hz_
                    refine lv_iconst (v := 1) hx hb dX12_judged_157 (by decide) ?_
                    refine lv_isub hx hb dX12_judged_158 ?_
                    refine lv_topi (fun x_90 e_91 => ?_)
                    have te_91 : x_90.toInt = (x_88 : Int32).toInt - (1 : Int32).toInt := by rw [e_91]; exact fb_subI (by omega) (by omega)
                    exact hret (⟨hG, hF1, hF2, Or.inl ⟨(by unfold spJud; (repeat' split) <;> first | rfl | omega), by omega, by rw [ei_87, up3_self]; omega⟩⟩) hU hS dX12_judged_159
                  ·
                    refine lv_aload_n hx hb dX12_judged_73 rfl (lv_at hl 0 rfl) ?_
                    refine lv_bipush (v := (-6)) hx hb dX12_judged_74 (by decide) ?_
                    refine q_fi (q_runV (t := 0) (i := 0) (As := [.int (-6)]) (rest := []) C hU (c_X12_refuse hG (-6) (by omega)) vm_X12_refuse ml_X12_164 k_0.1 (hc := rfl) rfl (h1_0 hG) hl.1 rfl rfl (Nat.le_of_ble_eq_true rfl) dX12_judged_76 rfl rfl ⟨Nat.le_of_ble_eq_true rfl, Nat.le_of_ble_eq_true rfl⟩ ⟨Nat.le_refl _, Nat.le_refl _⟩) hS (fun x_97 iv_93 rv_94 H locs hG fa_95 fb_96 hp_92 hU hS => ?_)
                    have hF1 := hF1.tr (m := ([16, 41, 42, 43, 44, 45, 46], [(0, 48)])) fa_95 (by decide)
                    have hF2 := hF2.tr (m := ([16, 41, 42, 43, 44, 45, 46], [(0, 48)])) fb_96 (by decide)
                    exact hret (⟨hG, hF1, hF2, sp_no (z := (-6)) (by unfold spJud; (repeat' split) <;> first | rfl | omega) (by decide) hp_92 (fa_95 0 0 48 (by decide))⟩) hU hS dX12_judged_79
          ·
            refine lv_aload_n hx hb dX12_judged_34 rfl (lv_at hl 0 rfl) ?_
            refine lv_bipush (v := (-4)) hx hb dX12_judged_35 (by decide) ?_
            refine q_fi (q_runV (t := 0) (i := 0) (As := [.int (-4)]) (rest := []) C hU (c_X12_refuse hG (-4) (by omega)) vm_X12_refuse ml_X12_164 k_0.1 (hc := rfl) rfl (h1_0 hG) hl.1 rfl rfl (Nat.le_of_ble_eq_true rfl) dX12_judged_37 rfl rfl ⟨Nat.le_of_ble_eq_true rfl, Nat.le_of_ble_eq_true rfl⟩ ⟨Nat.le_refl _, Nat.le_refl _⟩) hS (fun x_103 iv_99 rv_100 H locs hG fa_101 fb_102 hp_98 hU hS => ?_)
            have hF1 := hF1.tr (m := ([16, 41, 42, 43, 44, 45, 46], [(0, 48)])) fa_101 (by decide)
            have hF2 := hF2.tr (m := ([16, 41, 42, 43, 44, 45, 46], [(0, 48)])) fb_102 (by decide)
            exact hret (⟨hG, hF1, hF2, sp_no (z := (-4)) (by unfold spJud; (repeat' split) <;> first | rfl | omega) (by decide) hp_98 (fa_101 0 0 48 (by decide))⟩) hU hS dX12_judged_40
    ·
      refine lv_aload_n hx hb dX12_judged_14 rfl (lv_at hl 0 rfl) ?_
      refine lv_iconst (v := (-1)) hx hb dX12_judged_15 (by decide) ?_
      refine q_fi (q_runV (t := 0) (i := 0) (As := [.int (-1)]) (rest := []) C hU (c_X12_refuse hG (-1) (by omega)) vm_X12_refuse ml_X12_164 k_0.1 (hc := rfl) rfl (h1_0 hG) hl.1 rfl rfl (Nat.le_of_ble_eq_true rfl) dX12_judged_16 rfl rfl ⟨Nat.le_of_ble_eq_true rfl, Nat.le_of_ble_eq_true rfl⟩ ⟨Nat.le_refl _, Nat.le_refl _⟩) hS (fun x_109 iv_105 rv_106 H locs hG fa_107 fb_108 hp_104 hU hS => ?_)
      have hF1 := hF1.tr (m := ([16, 41, 42, 43, 44, 45, 46], [(0, 48)])) fa_107 (by decide)
      have hF2 := hF2.tr (m := ([16, 41, 42, 43, 44, 45, 46], [(0, 48)])) fb_108 (by decide)
      exact hret (⟨hG, hF1, hF2, sp_no (z := (-1)) (by unfold spJud; (repeat' split) <;> first | rfl | omega) (by decide) hp_104 (fa_107 0 0 48 (by decide))⟩) hU hS dX12_judged_19
set_option maxHeartbeats 4000000 in
set_option maxRecDepth 100000 in
theorem c_X1_add_x {l : Launch} {D : va_G} {cA : FieldType → ClassId} {sz : Nat} {al : Al} {iv : Iv} {rv : Rv} (hG : GI al iv rv) (a : Int32) (cs : Int32) (mm : Int32) (far : Int32) (won : Int32) (cost : Int32) (pre0 : (iv 90 0 6).toInt < 40) (pre1 : 0 ≤ a.toInt ∧ a.toInt ≤ 9999) (pre2 : 0 ≤ cs.toInt ∧ cs.toInt ≤ 9999) (pre3 : 0 ≤ mm.toInt ∧ mm.toInt ≤ 9999) (pre4 : 0 ≤ far.toInt ∧ far.toInt ≤ 9999) (pre5 : 0 ≤ cost.toInt ∧ cost.toInt ≤ 9999) (pre6 : 0 ≤ won.toInt ∧ won.toInt ≤ 1) : Met l yX1_add (wd yX1_add cX1_add 7 (some .int)) (rm 0) (PcW D cA sz al iv rv [.ref (al.2 90 0), .int a, .int cs, .int mm, .int far, .int won, .int cost]) (QI D cA sz al (fI al ([91, 92, 93, 94, 95, 96], [(90, 6)]) iv rv (fun r iv' rv' => r.toInt = (iv 90 0 6).toInt ∧ (iv' 90 0 6).toInt = (iv 90 0 6).toInt + 1))) 0 0 (Aq sz) := by
  refine mk_i (by decide) (Nat.le_of_ble_eq_true rfl) rfl ?_
  intro p e s m args below meth c ls Q H locs C hU hS hl hret
  have hx := C.1.1
  have hb := C.1.2.1
  have hl : lv_has ls 7 [(0, .ref (al.2 90 0)), (1, .int a), (2, .int cs), (3, .int mm), (4, .int far), (5, .int won), (6, .int cost)] := hl
  have hG0 := hG
  have hF1 : FR ([91, 92, 93, 94, 95, 96], [(90, 6)]) iv iv := FR.rf
  have hF2 : FR ([91, 92, 93, 94, 95, 96], [(90, 6)]) rv rv := FR.rf
  have k1 : (1 : Int32).toInt = 1 := by decide
  refine lv_aload_n hx hb dX1_add_0 rfl (lv_at hl 0 rfl) ?_
  refine g_90_0 C hU hG (h1_90 hG) fl_X1_11 dX1_add_1 ?_
  refine lv_aload_n hx hb dX1_add_4 rfl (lv_at hl 0 rfl) ?_
  refine g_90_6 C hU hG (h1_90 hG) fl_X1_34 dX1_add_5 (fun x_1 e_2 le_2 ue_2 => ?_)
  have te_2 := congrArg Int32.toInt e_2
  refine lv_iload_n hx hb dX1_add_8 rfl (lv_at hl 1 rfl) ?_
  refine s_91 C hU hS (h1_91 hG) (x := x_1) (by omega) (by omega) dX1_add_9 (fun iv_3 H locs ei_4 hU hS => ?_)
  have hG : GI al iv_3 rv := by rw [ei_4]; exact hG.puti (show _ ∧ _ from ⟨show (0 : Int) ≤ _ by omega, show _ ≤ (9999 : Int) by omega⟩) (nsA (by decide) _)
  have hF1 : FR ([91, 92, 93, 94, 95, 96], [(90, 6)]) iv iv_3 := by rw [ei_4]; exact hF1.put (Or.inl (by decide))
  have kf_5 := congrArg Int32.toInt (show iv_3 90 0 6 = iv 90 0 6 by rw [ei_4]; exact up3_ne (fun z => absurd z.1 (by decide)))
  refine lv_aload_n hx hb dX1_add_10 rfl (lv_at hl 0 rfl) ?_
  refine g_90_1 C hU hG (h1_90 hG) fl_X1_15 dX1_add_11 ?_
  refine lv_aload_n hx hb dX1_add_14 rfl (lv_at hl 0 rfl) ?_
  refine g_90_6 C hU hG (h1_90 hG) fl_X1_34 dX1_add_15 (fun x_6 e_7 le_7 ue_7 => ?_)
  have te_7 := congrArg Int32.toInt e_7
  refine lv_iload_n hx hb dX1_add_18 rfl (lv_at hl 2 rfl) ?_
  refine s_92 C hU hS (h1_92 hG) (x := x_6) (by omega) (by omega) dX1_add_19 (fun iv_8 H locs ei_9 hU hS => ?_)
  have hG : GI al iv_8 rv := by rw [ei_9]; exact hG.puti (show _ ∧ _ from ⟨show (0 : Int) ≤ _ by omega, show _ ≤ (9999 : Int) by omega⟩) (nsA (by decide) _)
  have hF1 : FR ([91, 92, 93, 94, 95, 96], [(90, 6)]) iv iv_8 := by rw [ei_9]; exact hF1.put (Or.inl (by decide))
  have kf_10 := congrArg Int32.toInt (show iv_8 90 0 6 = iv_3 90 0 6 by rw [ei_9]; exact up3_ne (fun z => absurd z.1 (by decide)))
  refine lv_aload_n hx hb dX1_add_20 rfl (lv_at hl 0 rfl) ?_
  refine g_90_2 C hU hG (h1_90 hG) fl_X1_18 dX1_add_21 ?_
  refine lv_aload_n hx hb dX1_add_24 rfl (lv_at hl 0 rfl) ?_
  refine g_90_6 C hU hG (h1_90 hG) fl_X1_34 dX1_add_25 (fun x_11 e_12 le_12 ue_12 => ?_)
  have te_12 := congrArg Int32.toInt e_12
  refine lv_iload_n hx hb dX1_add_28 rfl (lv_at hl 3 rfl) ?_
  refine s_93 C hU hS (h1_93 hG) (x := x_11) (by omega) (by omega) dX1_add_29 (fun iv_13 H locs ei_14 hU hS => ?_)
  have hG : GI al iv_13 rv := by rw [ei_14]; exact hG.puti (show _ ∧ _ from ⟨show (0 : Int) ≤ _ by omega, show _ ≤ (9999 : Int) by omega⟩) (nsA (by decide) _)
  have hF1 : FR ([91, 92, 93, 94, 95, 96], [(90, 6)]) iv iv_13 := by rw [ei_14]; exact hF1.put (Or.inl (by decide))
  have kf_15 := congrArg Int32.toInt (show iv_13 90 0 6 = iv_8 90 0 6 by rw [ei_14]; exact up3_ne (fun z => absurd z.1 (by decide)))
  refine lv_aload_n hx hb dX1_add_30 rfl (lv_at hl 0 rfl) ?_
  refine g_90_3 C hU hG (h1_90 hG) fl_X1_21 dX1_add_31 ?_
  refine lv_aload_n hx hb dX1_add_34 rfl (lv_at hl 0 rfl) ?_
  refine g_90_6 C hU hG (h1_90 hG) fl_X1_34 dX1_add_35 (fun x_16 e_17 le_17 ue_17 => ?_)
  have te_17 := congrArg Int32.toInt e_17
  refine lv_iload hx hb dX1_add_38 (lv_at hl 4 rfl) ?_
  refine s_94 C hU hS (h1_94 hG) (x := x_16) (by omega) (by omega) dX1_add_40 (fun iv_18 H locs ei_19 hU hS => ?_)
  have hG : GI al iv_18 rv := by rw [ei_19]; exact hG.puti (show _ ∧ _ from ⟨show (0 : Int) ≤ _ by omega, show _ ≤ (9999 : Int) by omega⟩) (nsA (by decide) _)
  have hF1 : FR ([91, 92, 93, 94, 95, 96], [(90, 6)]) iv iv_18 := by rw [ei_19]; exact hF1.put (Or.inl (by decide))
  have kf_20 := congrArg Int32.toInt (show iv_18 90 0 6 = iv_13 90 0 6 by rw [ei_19]; exact up3_ne (fun z => absurd z.1 (by decide)))
  refine lv_aload_n hx hb dX1_add_41 rfl (lv_at hl 0 rfl) ?_
  refine g_90_4 C hU hG (h1_90 hG) fl_X1_24 dX1_add_42 ?_
  refine lv_aload_n hx hb dX1_add_45 rfl (lv_at hl 0 rfl) ?_
  refine g_90_6 C hU hG (h1_90 hG) fl_X1_34 dX1_add_46 (fun x_21 e_22 le_22 ue_22 => ?_)
  have te_22 := congrArg Int32.toInt e_22
  refine lv_iload hx hb dX1_add_49 (lv_at hl 5 rfl) ?_
  refine s_95 C hU hS (h1_95 hG) (x := x_21) (by omega) (by omega) (by omega) (by omega) dX1_add_51 (fun iv_23 H locs ei_24 hU hS => ?_)
  have hG : GI al iv_23 rv := by rw [ei_24]; exact hG.puti (show _ ∧ _ from ⟨show (0 : Int) ≤ _ by omega, show _ ≤ (1 : Int) by omega⟩) (nsA (by decide) _)
  have hF1 : FR ([91, 92, 93, 94, 95, 96], [(90, 6)]) iv iv_23 := by rw [ei_24]; exact hF1.put (Or.inl (by decide))
  have kf_25 := congrArg Int32.toInt (show iv_23 90 0 6 = iv_18 90 0 6 by rw [ei_24]; exact up3_ne (fun z => absurd z.1 (by decide)))
  refine lv_aload_n hx hb dX1_add_52 rfl (lv_at hl 0 rfl) ?_
  refine g_90_5 C hU hG (h1_90 hG) fl_X1_28 dX1_add_53 ?_
  refine lv_aload_n hx hb dX1_add_56 rfl (lv_at hl 0 rfl) ?_
  refine g_90_6 C hU hG (h1_90 hG) fl_X1_34 dX1_add_57 (fun x_26 e_27 le_27 ue_27 => ?_)
  have te_27 := congrArg Int32.toInt e_27
  refine lv_iload hx hb dX1_add_60 (lv_at hl 6 rfl) ?_
  refine s_96 C hU hS (h1_96 hG) (x := x_26) (by omega) (by omega) dX1_add_62 (fun iv_28 H locs ei_29 hU hS => ?_)
  have hG : GI al iv_28 rv := by rw [ei_29]; exact hG.puti (show _ ∧ _ from ⟨show (0 : Int) ≤ _ by omega, show _ ≤ (9999 : Int) by omega⟩) (nsA (by decide) _)
  have hF1 : FR ([91, 92, 93, 94, 95, 96], [(90, 6)]) iv iv_28 := by rw [ei_29]; exact hF1.put (Or.inl (by decide))
  have kf_30 := congrArg Int32.toInt (show iv_28 90 0 6 = iv_23 90 0 6 by rw [ei_29]; exact up3_ne (fun z => absurd z.1 (by decide)))
  refine lv_aload_n hx hb dX1_add_63 rfl (lv_at hl 0 rfl) ?_
  refine lv_dup hx hb dX1_add_64 rfl ?_
  refine g_90_6 C hU hG (h1_90 hG) fl_X1_34 dX1_add_65 (fun x_31 e_32 le_32 ue_32 => ?_)
  have te_32 := congrArg Int32.toInt e_32
  refine lv_iconst (v := 1) hx hb dX1_add_68 (by decide) ?_
  refine lv_iadd hx hb dX1_add_69 ?_
  refine lv_topi (fun x_33 e_34 => ?_)
  have te_34 : x_33.toInt = (x_31 : Int32).toInt + (1 : Int32).toInt := by rw [e_34]; exact fb_addI (by omega) (by omega)
  refine p_90_6 C hU hS (h1_90 hG) fl_X1_34 dX1_add_70 (fun iv_35 H locs ei_36 hU hS => ?_)
  have hG : GI al iv_35 rv := by rw [ei_36]; exact hG.puti (show _ ∧ _ from ⟨show (0 : Int) ≤ _ by omega, show _ ≤ (40 : Int) by omega⟩) (nsF (by decide))
  have hF1 : FR ([91, 92, 93, 94, 95, 96], [(90, 6)]) iv iv_35 := by rw [ei_36]; exact hF1.put (by decide)
  refine lv_aload_n hx hb dX1_add_73 rfl (lv_at hl 0 rfl) ?_
  refine g_90_6 C hU hG (h1_90 hG) fl_X1_34 dX1_add_74 (fun x_37 e_38 le_38 ue_38 => ?_)
  have te_38 := congrArg Int32.toInt e_38
  have hz_ := e_38
  rw [ei_36, up3_self] at hz_
  have tz_ := congrArg Int32.toInt hz_
  refine lv_iconst (v := 1) hx hb dX1_add_77 (by decide) ?_
  refine lv_isub hx hb dX1_add_78 ?_
  refine lv_topi (fun x_39 e_40 => ?_)
  have te_40 : x_39.toInt = (x_37 : Int32).toInt - (1 : Int32).toInt := by rw [e_40]; exact fb_subI (by omega) (by omega)
  exact hret (⟨hG, hF1, hF2, ⟨by omega, by rw [ei_36, up3_self]; omega⟩⟩) hU hS dX1_add_79
set_option maxHeartbeats 4000000 in
set_option maxRecDepth 100000 in
theorem c_X11_judged_x {l : Launch} {D : va_G} {cA : FieldType → ClassId} {sz : Nat} {al : Al} {iv : Iv} {rv : Rv} (hG : GI al iv rv) (lw : Int32) (cs : Int32) (mm : Int32) (far : Int32) (won : Int32) (cost : Int32) (pre0 : 0 ≤ won.toInt ∧ won.toInt ≤ 1) : Met l yX11_judged (wd yX11_judged cX11_judged 7 (some .int)) (rm 2) (PcW D cA sz al iv rv [.ref (al.2 49 0), .int lw, .int cs, .int mm, .int far, .int won, .int cost]) (QI D cA sz al (fI al ([51, 91, 92, 93, 94, 95, 96], [(90, 6)]) iv rv (fun r iv' rv' => (spJud lw cs mm far cost (iv 90 0 6).toInt = 0 ∧ r.toInt = (iv 90 0 6).toInt ∧ (iv' 90 0 6).toInt = (iv 90 0 6).toInt + 1) ∨ (spJud lw cs mm far cost (iv 90 0 6).toInt ≠ 0 ∧ r = spJud lw cs mm far cost (iv 90 0 6).toInt ∧ iv' 90 0 6 = iv 90 0 6)))) 0 0 (Aq sz) := by
  refine mk_i (by decide) (Nat.le_of_ble_eq_true rfl) rfl ?_
  intro p e s m args below meth c ls Q H locs C hU hS hl hret
  have hx := C.1.1
  have hb := C.1.2.1
  have hl : lv_has ls 7 [(0, .ref (al.2 49 0)), (1, .int lw), (2, .int cs), (3, .int mm), (4, .int far), (5, .int won), (6, .int cost)] := hl
  have hG0 := hG
  have hF1 : FR ([51, 91, 92, 93, 94, 95, 96], [(90, 6)]) iv iv := FR.rf
  have hF2 : FR ([51, 91, 92, 93, 94, 95, 96], [(90, 6)]) rv rv := FR.rf
  have km6 : ((-6) : Int32).toInt = -6 := by decide
  have km4 : ((-4) : Int32).toInt = -4 := by decide
  have km1 : ((-1) : Int32).toInt = -1 := by decide
  have k4 : (4 : Int32).toInt = 4 := by decide
  have k6 : (6 : Int32).toInt = 6 := by decide
  have k9999 : (9999 : Int32).toInt = 9999 := by decide
  refine lv_iconst (v := 4) hx hb dX11_judged_0 (by decide) ?_
  refine lv_iload_n hx hb dX11_judged_1 rfl (lv_at hl 1 rfl) ?_
  refine q_pi (q_runS (As := [.int 4, .int lw]) (rest := []) C hU (c_X11_isOneOf  4 lw ) sm_X11_isOneOf ml_X11_85 hl.1 rfl rfl (Nat.le_of_ble_eq_true rfl) dX11_judged_2 rfl rfl ⟨Nat.le_of_ble_eq_true rfl, Nat.le_of_ble_eq_true rfl⟩ ⟨Nat.le_refl _, Nat.le_refl _⟩) hS (fun x_2 H locs hp_1 hU hS => ?_)
  refine b_if_eq (tgt := 17) hx hb dX11_judged_5 (by decide) (fun c_3 => ?_) (fun c_3 => ?_)
  ·
    refine lv_aload_n hx hb dX11_judged_17 rfl (lv_at hl 0 rfl) ?_
    refine lv_iconst (v := (-1)) hx hb dX11_judged_18 (by decide) ?_
    refine q_fi (q_runV (t := 49) (i := 0) (As := [.int (-1)]) (rest := []) C hU (c_X11_refuse hG (-1) (by omega)) vm_X11_refuse ml_X11_77 k_49.1 (hc := rfl) rfl (h1_49 hG) hl.1 rfl rfl (Nat.le_of_ble_eq_true rfl) dX11_judged_19 rfl rfl ⟨Nat.le_of_ble_eq_true rfl, Nat.le_of_ble_eq_true rfl⟩ ⟨Nat.le_refl _, Nat.le_refl _⟩) hS (fun x_9 iv_5 rv_6 H locs hG fa_7 fb_8 hp_4 hU hS => ?_)
    have hF1 := hF1.tr (m := ([51, 91, 92, 93, 94, 95, 96], [(90, 6)])) fa_7 (by decide)
    have hF2 := hF2.tr (m := ([51, 91, 92, 93, 94, 95, 96], [(90, 6)])) fb_8 (by decide)
    exact hret (⟨hG, hF1, hF2, sp_no (z := (-1)) (by unfold spJud; (repeat' split) <;> first | rfl | omega) (by decide) hp_4 (fa_7 90 0 6 (by decide))⟩) hU hS dX11_judged_22
  ·
    refine lv_bipush (v := 6) hx hb dX11_judged_8 (by decide) ?_
    refine lv_iload_n hx hb dX11_judged_10 rfl (lv_at hl 2 rfl) ?_
    refine q_pi (q_runS (As := [.int 6, .int cs]) (rest := []) C hU (c_X11_isOneOf  6 cs ) sm_X11_isOneOf ml_X11_85 hl.1 rfl rfl (Nat.le_of_ble_eq_true rfl) dX11_judged_11 rfl rfl ⟨Nat.le_of_ble_eq_true rfl, Nat.le_of_ble_eq_true rfl⟩ ⟨Nat.le_refl _, Nat.le_refl _⟩) hS (fun x_11 H locs hp_10 hU hS => ?_)
    refine b_if_ne (tgt := 23) hx hb dX11_judged_14 (by decide) (fun c_12 => ?_) (fun c_12 => ?_)
    ·
      refine lv_iload_n hx hb dX11_judged_23 rfl (lv_at hl 3 rfl) ?_
      refine b_if_lt (tgt := 37) hx hb dX11_judged_24 (by decide) (fun c_13 => ?_) (fun c_13 => ?_)
      ·
        refine lv_aload_n hx hb dX11_judged_37 rfl (lv_at hl 0 rfl) ?_
        refine lv_bipush (v := (-4)) hx hb dX11_judged_38 (by decide) ?_
        refine q_fi (q_runV (t := 49) (i := 0) (As := [.int (-4)]) (rest := []) C hU (c_X11_refuse hG (-4) (by omega)) vm_X11_refuse ml_X11_77 k_49.1 (hc := rfl) rfl (h1_49 hG) hl.1 rfl rfl (Nat.le_of_ble_eq_true rfl) dX11_judged_40 rfl rfl ⟨Nat.le_of_ble_eq_true rfl, Nat.le_of_ble_eq_true rfl⟩ ⟨Nat.le_refl _, Nat.le_refl _⟩) hS (fun x_19 iv_15 rv_16 H locs hG fa_17 fb_18 hp_14 hU hS => ?_)
        have hF1 := hF1.tr (m := ([51, 91, 92, 93, 94, 95, 96], [(90, 6)])) fa_17 (by decide)
        have hF2 := hF2.tr (m := ([51, 91, 92, 93, 94, 95, 96], [(90, 6)])) fb_18 (by decide)
        exact hret (⟨hG, hF1, hF2, sp_no (z := (-4)) (by unfold spJud; (repeat' split) <;> first | rfl | omega) (by decide) hp_14 (fa_17 90 0 6 (by decide))⟩) hU hS dX11_judged_43
      ·
        refine lv_iload hx hb dX11_judged_27 (lv_at hl 4 rfl) ?_
        refine b_if_lt (tgt := 37) hx hb dX11_judged_29 (by decide) (fun c_20 => ?_) (fun c_20 => ?_)
        ·
          refine lv_aload_n hx hb dX11_judged_37 rfl (lv_at hl 0 rfl) ?_
          refine lv_bipush (v := (-4)) hx hb dX11_judged_38 (by decide) ?_
          refine q_fi (q_runV (t := 49) (i := 0) (As := [.int (-4)]) (rest := []) C hU (c_X11_refuse hG (-4) (by omega)) vm_X11_refuse ml_X11_77 k_49.1 (hc := rfl) rfl (h1_49 hG) hl.1 rfl rfl (Nat.le_of_ble_eq_true rfl) dX11_judged_40 rfl rfl ⟨Nat.le_of_ble_eq_true rfl, Nat.le_of_ble_eq_true rfl⟩ ⟨Nat.le_refl _, Nat.le_refl _⟩) hS (fun x_26 iv_22 rv_23 H locs hG fa_24 fb_25 hp_21 hU hS => ?_)
          have hF1 := hF1.tr (m := ([51, 91, 92, 93, 94, 95, 96], [(90, 6)])) fa_24 (by decide)
          have hF2 := hF2.tr (m := ([51, 91, 92, 93, 94, 95, 96], [(90, 6)])) fb_25 (by decide)
          exact hret (⟨hG, hF1, hF2, sp_no (z := (-4)) (by unfold spJud; (repeat' split) <;> first | rfl | omega) (by decide) hp_21 (fa_24 90 0 6 (by decide))⟩) hU hS dX11_judged_43
        ·
          refine lv_iload hx hb dX11_judged_32 (lv_at hl 6 rfl) ?_
          refine b_if_ge (tgt := 44) hx hb dX11_judged_34 (by decide) (fun c_27 => ?_) (fun c_27 => ?_)
          ·
            refine lv_iload_n hx hb dX11_judged_44 rfl (lv_at hl 3 rfl) ?_
            refine lv_sipush (v := 9999) hx hb dX11_judged_45 (by decide) ?_
            refine b_icmp_gt (tgt := 77) hx hb dX11_judged_48 (by decide) (fun c_28 => ?_) (fun c_28 => ?_)
            ·
              refine lv_aload_n hx hb dX11_judged_77 rfl (lv_at hl 0 rfl) ?_
              refine lv_bipush (v := (-6)) hx hb dX11_judged_78 (by decide) ?_
              refine q_fi (q_runV (t := 49) (i := 0) (As := [.int (-6)]) (rest := []) C hU (c_X11_refuse hG (-6) (by omega)) vm_X11_refuse ml_X11_77 k_49.1 (hc := rfl) rfl (h1_49 hG) hl.1 rfl rfl (Nat.le_of_ble_eq_true rfl) dX11_judged_80 rfl rfl ⟨Nat.le_of_ble_eq_true rfl, Nat.le_of_ble_eq_true rfl⟩ ⟨Nat.le_refl _, Nat.le_refl _⟩) hS (fun x_34 iv_30 rv_31 H locs hG fa_32 fb_33 hp_29 hU hS => ?_)
              have hF1 := hF1.tr (m := ([51, 91, 92, 93, 94, 95, 96], [(90, 6)])) fa_32 (by decide)
              have hF2 := hF2.tr (m := ([51, 91, 92, 93, 94, 95, 96], [(90, 6)])) fb_33 (by decide)
              exact hret (⟨hG, hF1, hF2, sp_no (z := (-6)) (by unfold spJud; (repeat' split) <;> first | rfl | omega) (by decide) hp_29 (fa_32 90 0 6 (by decide))⟩) hU hS dX11_judged_83
            ·
              refine lv_iload hx hb dX11_judged_51 (lv_at hl 4 rfl) ?_
              refine lv_sipush (v := 9999) hx hb dX11_judged_53 (by decide) ?_
              refine b_icmp_gt (tgt := 77) hx hb dX11_judged_56 (by decide) (fun c_35 => ?_) (fun c_35 => ?_)
              ·
                refine lv_aload_n hx hb dX11_judged_77 rfl (lv_at hl 0 rfl) ?_
                refine lv_bipush (v := (-6)) hx hb dX11_judged_78 (by decide) ?_
                refine q_fi (q_runV (t := 49) (i := 0) (As := [.int (-6)]) (rest := []) C hU (c_X11_refuse hG (-6) (by omega)) vm_X11_refuse ml_X11_77 k_49.1 (hc := rfl) rfl (h1_49 hG) hl.1 rfl rfl (Nat.le_of_ble_eq_true rfl) dX11_judged_80 rfl rfl ⟨Nat.le_of_ble_eq_true rfl, Nat.le_of_ble_eq_true rfl⟩ ⟨Nat.le_refl _, Nat.le_refl _⟩) hS (fun x_41 iv_37 rv_38 H locs hG fa_39 fb_40 hp_36 hU hS => ?_)
                have hF1 := hF1.tr (m := ([51, 91, 92, 93, 94, 95, 96], [(90, 6)])) fa_39 (by decide)
                have hF2 := hF2.tr (m := ([51, 91, 92, 93, 94, 95, 96], [(90, 6)])) fb_40 (by decide)
                exact hret (⟨hG, hF1, hF2, sp_no (z := (-6)) (by unfold spJud; (repeat' split) <;> first | rfl | omega) (by decide) hp_36 (fa_39 90 0 6 (by decide))⟩) hU hS dX11_judged_83
              ·
                refine lv_iload hx hb dX11_judged_59 (lv_at hl 6 rfl) ?_
                refine lv_sipush (v := 9999) hx hb dX11_judged_61 (by decide) ?_
                refine b_icmp_gt (tgt := 77) hx hb dX11_judged_64 (by decide) (fun c_42 => ?_) (fun c_42 => ?_)
                ·
                  refine lv_aload_n hx hb dX11_judged_77 rfl (lv_at hl 0 rfl) ?_
                  refine lv_bipush (v := (-6)) hx hb dX11_judged_78 (by decide) ?_
                  refine q_fi (q_runV (t := 49) (i := 0) (As := [.int (-6)]) (rest := []) C hU (c_X11_refuse hG (-6) (by omega)) vm_X11_refuse ml_X11_77 k_49.1 (hc := rfl) rfl (h1_49 hG) hl.1 rfl rfl (Nat.le_of_ble_eq_true rfl) dX11_judged_80 rfl rfl ⟨Nat.le_of_ble_eq_true rfl, Nat.le_of_ble_eq_true rfl⟩ ⟨Nat.le_refl _, Nat.le_refl _⟩) hS (fun x_48 iv_44 rv_45 H locs hG fa_46 fb_47 hp_43 hU hS => ?_)
                  have hF1 := hF1.tr (m := ([51, 91, 92, 93, 94, 95, 96], [(90, 6)])) fa_46 (by decide)
                  have hF2 := hF2.tr (m := ([51, 91, 92, 93, 94, 95, 96], [(90, 6)])) fb_47 (by decide)
                  exact hret (⟨hG, hF1, hF2, sp_no (z := (-6)) (by unfold spJud; (repeat' split) <;> first | rfl | omega) (by decide) hp_43 (fa_46 90 0 6 (by decide))⟩) hU hS dX11_judged_83
                ·
                  refine lv_aload_n hx hb dX11_judged_67 rfl (lv_at hl 0 rfl) ?_
                  refine g_49_6 C hU hG (h1_49 hG) fl_X11_54 dX11_judged_68 ?_
                  refine q_pi (q_runV (t := 90) (i := 0) (As := []) (rest := []) C hU (c_X1_isFull hG  ) vm_X1_isFull ml_X11_304 k_90.1 (hc := rfl) rfl (h1_90 hG) hl.1 rfl rfl (Nat.le_of_ble_eq_true rfl) dX11_judged_71 rfl rfl ⟨Nat.le_of_ble_eq_true rfl, Nat.le_of_ble_eq_true rfl⟩ ⟨Nat.le_refl _, Nat.le_refl _⟩) hS (fun x_50 H locs hp_49 hU hS => ?_)
                  refine b_if_eq (tgt := 84) hx hb dX11_judged_74 (by decide) (fun c_51 => ?_) (fun c_51 => ?_)
                  ·
                    refine lv_aload_n hx hb dX11_judged_84 rfl (lv_at hl 0 rfl) ?_
                    refine g_49_6 C hU hG (h1_49 hG) fl_X11_54 dX11_judged_85 ?_
                    refine lv_iload_n hx hb dX11_judged_88 rfl (lv_at hl 1 rfl) ?_
                    refine lv_iload_n hx hb dX11_judged_89 rfl (lv_at hl 2 rfl) ?_
                    refine lv_iload_n hx hb dX11_judged_90 rfl (lv_at hl 3 rfl) ?_
                    refine lv_iload hx hb dX11_judged_91 (lv_at hl 4 rfl) ?_
                    refine lv_iload hx hb dX11_judged_93 (lv_at hl 5 rfl) ?_
                    refine lv_iload hx hb dX11_judged_95 (lv_at hl 6 rfl) ?_
                    refine q_fi (q_runV (t := 90) (i := 0) (As := [.int lw, .int cs, .int mm, .int far, .int won, .int cost]) (rest := []) C hU (c_X1_add_x hG lw cs mm far won cost (by omega) (by omega) (by omega) (by omega) (by omega) (by omega) (by omega)) vm_X1_add ml_X11_305 k_90.1 (hc := rfl) rfl (h1_90 hG) hl.1 rfl rfl (Nat.le_of_ble_eq_true rfl) dX11_judged_97 rfl rfl ⟨Nat.le_of_ble_eq_true rfl, Nat.le_of_ble_eq_true rfl⟩ ⟨Nat.le_refl _, Nat.le_refl _⟩) hS (fun x_57 iv_53 rv_54 H locs hG fa_55 fb_56 hp_52 hU hS => ?_)
                    have hF1 := hF1.tr (m := ([51, 91, 92, 93, 94, 95, 96], [(90, 6)])) fa_55 (by decide)
                    have hF2 := hF2.tr (m := ([51, 91, 92, 93, 94, 95, 96], [(90, 6)])) fb_56 (by decide)
                    exact hret (⟨hG, hF1, hF2, Or.inl ⟨(by unfold spJud; (repeat' split) <;> first | rfl | omega), hp_52.1, hp_52.2⟩⟩) hU hS dX11_judged_100
                  ·
                    refine lv_aload_n hx hb dX11_judged_77 rfl (lv_at hl 0 rfl) ?_
                    refine lv_bipush (v := (-6)) hx hb dX11_judged_78 (by decide) ?_
                    refine q_fi (q_runV (t := 49) (i := 0) (As := [.int (-6)]) (rest := []) C hU (c_X11_refuse hG (-6) (by omega)) vm_X11_refuse ml_X11_77 k_49.1 (hc := rfl) rfl (h1_49 hG) hl.1 rfl rfl (Nat.le_of_ble_eq_true rfl) dX11_judged_80 rfl rfl ⟨Nat.le_of_ble_eq_true rfl, Nat.le_of_ble_eq_true rfl⟩ ⟨Nat.le_refl _, Nat.le_refl _⟩) hS (fun x_63 iv_59 rv_60 H locs hG fa_61 fb_62 hp_58 hU hS => ?_)
                    have hF1 := hF1.tr (m := ([51, 91, 92, 93, 94, 95, 96], [(90, 6)])) fa_61 (by decide)
                    have hF2 := hF2.tr (m := ([51, 91, 92, 93, 94, 95, 96], [(90, 6)])) fb_62 (by decide)
                    exact hret (⟨hG, hF1, hF2, sp_no (z := (-6)) (by unfold spJud; (repeat' split) <;> first | rfl | omega) (by decide) hp_58 (fa_61 90 0 6 (by decide))⟩) hU hS dX11_judged_83
          ·
            refine lv_aload_n hx hb dX11_judged_37 rfl (lv_at hl 0 rfl) ?_
            refine lv_bipush (v := (-4)) hx hb dX11_judged_38 (by decide) ?_
            refine q_fi (q_runV (t := 49) (i := 0) (As := [.int (-4)]) (rest := []) C hU (c_X11_refuse hG (-4) (by omega)) vm_X11_refuse ml_X11_77 k_49.1 (hc := rfl) rfl (h1_49 hG) hl.1 rfl rfl (Nat.le_of_ble_eq_true rfl) dX11_judged_40 rfl rfl ⟨Nat.le_of_ble_eq_true rfl, Nat.le_of_ble_eq_true rfl⟩ ⟨Nat.le_refl _, Nat.le_refl _⟩) hS (fun x_69 iv_65 rv_66 H locs hG fa_67 fb_68 hp_64 hU hS => ?_)
            have hF1 := hF1.tr (m := ([51, 91, 92, 93, 94, 95, 96], [(90, 6)])) fa_67 (by decide)
            have hF2 := hF2.tr (m := ([51, 91, 92, 93, 94, 95, 96], [(90, 6)])) fb_68 (by decide)
            exact hret (⟨hG, hF1, hF2, sp_no (z := (-4)) (by unfold spJud; (repeat' split) <;> first | rfl | omega) (by decide) hp_64 (fa_67 90 0 6 (by decide))⟩) hU hS dX11_judged_43
    ·
      refine lv_aload_n hx hb dX11_judged_17 rfl (lv_at hl 0 rfl) ?_
      refine lv_iconst (v := (-1)) hx hb dX11_judged_18 (by decide) ?_
      refine q_fi (q_runV (t := 49) (i := 0) (As := [.int (-1)]) (rest := []) C hU (c_X11_refuse hG (-1) (by omega)) vm_X11_refuse ml_X11_77 k_49.1 (hc := rfl) rfl (h1_49 hG) hl.1 rfl rfl (Nat.le_of_ble_eq_true rfl) dX11_judged_19 rfl rfl ⟨Nat.le_of_ble_eq_true rfl, Nat.le_of_ble_eq_true rfl⟩ ⟨Nat.le_refl _, Nat.le_refl _⟩) hS (fun x_75 iv_71 rv_72 H locs hG fa_73 fb_74 hp_70 hU hS => ?_)
      have hF1 := hF1.tr (m := ([51, 91, 92, 93, 94, 95, 96], [(90, 6)])) fa_73 (by decide)
      have hF2 := hF2.tr (m := ([51, 91, 92, 93, 94, 95, 96], [(90, 6)])) fb_74 (by decide)
      exact hret (⟨hG, hF1, hF2, sp_no (z := (-1)) (by unfold spJud; (repeat' split) <;> first | rfl | omega) (by decide) hp_70 (fa_73 90 0 6 (by decide))⟩) hU hS dX11_judged_22
