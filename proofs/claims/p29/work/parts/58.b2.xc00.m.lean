section
set_option maxHeartbeats 4000000 in
set_option maxRecDepth 100000 in
theorem c_X12_days_x {l : Launch} {D : va_G} {cA : FieldType → ClassId} {sz : Nat} {al : Al} {iv : Iv} {rv : Rv} (hG : GI al iv rv) (n : Int32) : Met l yX12_days (wd yX12_days cX12_days 2 (some .int)) (rm 1) (PcW D cA sz al iv rv [.ref (al.2 0 0), .int n]) (QI D cA sz al (fI al ([16], [(0, 0)]) iv rv (fun r iv' rv' => (iv' 0 0 0).toInt = dayF n.toInt (iv 0 0 0).toInt))) 0 0 (Aq sz) := by
  refine mk_i (by decide) (Nat.le_of_ble_eq_true rfl) rfl ?_
  intro p e s m args below meth c ls Q H locs C hU hS hl hret
  have hx := C.1.1
  have hb := C.1.2.1
  have hl : lv_has ls 2 [(0, .ref (al.2 0 0)), (1, .int n)] := hl
  have hG0 := hG
  have h6 := le6 hG
  have h20 := le20 hG
  have h41 := le41 hG
  have hF1 : FR ([16], [(0, 0)]) iv iv := FR.rf
  have hF2 : FR ([16], [(0, 0)]) rv rv := FR.rf
  have km6 : ((-6) : Int32).toInt = -6 := by decide
  have km4 : ((-4) : Int32).toInt = -4 := by decide
  have k1 : (1 : Int32).toInt = 1 := by decide
  have k4000 : (4000 : Int32).toInt = 4000 := by decide
  refine lv_iload_n hx hb dX12_days_0 rfl (lv_at hl 1 rfl) ?_
  refine lv_iconst (v := 1) hx hb dX12_days_1 (by decide) ?_
  refine b_icmp_ge (tgt := 12) hx hb dX12_days_2 (by decide) (fun c_1 => ?_) (fun c_1 => ?_)
  ·
    refine lv_iload_n hx hb dX12_days_12 rfl (lv_at hl 1 rfl) ?_
    refine lv_sipush (v := 4000) hx hb dX12_days_13 (by decide) ?_
    refine lv_aload_n hx hb dX12_days_16 rfl (lv_at hl 0 rfl) ?_
    refine g_0_0 C hU hG (h1_0 hG) fl_X12_168 dX12_days_17 (fun x_2 e_3 le_3 ue_3 => ?_)
    have te_3 := congrArg Int32.toInt e_3
    refine lv_isub hx hb dX12_days_20 ?_
    refine lv_topi (fun x_4 e_5 => ?_)
    have te_5 : x_4.toInt = (4000 : Int32).toInt - (x_2 : Int32).toInt := by rw [e_5]; exact fb_subI (by omega) (by omega)
    refine b_icmp_le (tgt := 31) hx hb dX12_days_21 (by decide) (fun c_6 => ?_) (fun c_6 => ?_)
    ·
      refine lv_aload_n hx hb dX12_days_31 rfl (lv_at hl 0 rfl) ?_
      refine lv_dup hx hb dX12_days_32 rfl ?_
      refine g_0_0 C hU hG (h1_0 hG) fl_X12_168 dX12_days_33 (fun x_7 e_8 le_8 ue_8 => ?_)
      have te_8 := congrArg Int32.toInt e_8
      refine lv_iload_n hx hb dX12_days_36 rfl (lv_at hl 1 rfl) ?_
      refine lv_iadd hx hb dX12_days_37 ?_
      refine lv_topi (fun x_9 e_10 => ?_)
      have te_10 : x_9.toInt = (x_7 : Int32).toInt + (n : Int32).toInt := by rw [e_10]; exact fb_addI (by omega) (by omega)
      refine p_0_0 C hU hS (h1_0 hG) fl_X12_168 dX12_days_38 (fun iv_11 H locs ei_12 hU hS => ?_)
      have hG : GI al iv_11 rv := by rw [ei_12]; exact hG.puti (show _ ∧ _ from ⟨show (0 : Int) ≤ _ by omega, show _ ≤ (4000 : Int) by omega⟩) (nsF (by decide))
      have hF1 : FR ([16], [(0, 0)]) iv iv_11 := by rw [ei_12]; exact hF1.put (by decide)
      refine lv_aload_n hx hb dX12_days_41 rfl (lv_at hl 0 rfl) ?_
      refine g_0_0 C hU hG (h1_0 hG) fl_X12_168 dX12_days_42 (fun x_13 e_14 le_14 ue_14 => ?_)
      have te_14 := congrArg Int32.toInt e_14
      exact hret (⟨hG, hF1, hF2, by show _ = _; rw [ei_12, up3_self]; unfold dayF; split <;> omega⟩) hU hS dX12_days_45
    ·
      refine lv_aload_n hx hb dX12_days_24 rfl (lv_at hl 0 rfl) ?_
      refine lv_bipush (v := (-6)) hx hb dX12_days_25 (by decide) ?_
      refine q_fi (q_runV (t := 0) (i := 0) (As := [.int (-6)]) (rest := []) C hU (c_X12_refuse hG (-6) (by omega)) vm_X12_refuse ml_X12_164 k_0.1 (hc := rfl) rfl (h1_0 hG) hl.1 rfl rfl (Nat.le_of_ble_eq_true rfl) dX12_days_27 rfl rfl ⟨Nat.le_of_ble_eq_true rfl, Nat.le_of_ble_eq_true rfl⟩ ⟨Nat.le_refl _, Nat.le_refl _⟩) hS (fun x_20 iv_16 rv_17 H locs hG fa_18 fb_19 hp_15 hU hS => ?_)
      have hF1 := hF1.tr (m := ([16], [(0, 0)])) fa_18 (by decide)
      have hF2 := hF2.tr (m := ([16], [(0, 0)])) fb_19 (by decide)
      exact hret (⟨hG, hF1, hF2, by show _ = _; rw [fa_18 0 0 0 (by decide)]; unfold dayF; split <;> omega⟩) hU hS dX12_days_30
  ·
    refine lv_aload_n hx hb dX12_days_5 rfl (lv_at hl 0 rfl) ?_
    refine lv_bipush (v := (-4)) hx hb dX12_days_6 (by decide) ?_
    refine q_fi (q_runV (t := 0) (i := 0) (As := [.int (-4)]) (rest := []) C hU (c_X12_refuse hG (-4) (by omega)) vm_X12_refuse ml_X12_164 k_0.1 (hc := rfl) rfl (h1_0 hG) hl.1 rfl rfl (Nat.le_of_ble_eq_true rfl) dX12_days_8 rfl rfl ⟨Nat.le_of_ble_eq_true rfl, Nat.le_of_ble_eq_true rfl⟩ ⟨Nat.le_refl _, Nat.le_refl _⟩) hS (fun x_26 iv_22 rv_23 H locs hG fa_24 fb_25 hp_21 hU hS => ?_)
    have hF1 := hF1.tr (m := ([16], [(0, 0)])) fa_24 (by decide)
    have hF2 := hF2.tr (m := ([16], [(0, 0)])) fb_25 (by decide)
    exact hret (⟨hG, hF1, hF2, by show _ = _; rw [fa_24 0 0 0 (by decide)]; unfold dayF; split <;> omega⟩) hU hS dX12_days_11
set_option maxHeartbeats 4000000 in
set_option maxRecDepth 100000 in
theorem c_X11_days_x {l : Launch} {D : va_G} {cA : FieldType → ClassId} {sz : Nat} {al : Al} {iv : Iv} {rv : Rv} (hG : GI al iv rv) (n : Int32) : Met l yX11_days (wd yX11_days cX11_days 2 (some .int)) (rm 2) (PcW D cA sz al iv rv [.ref (al.2 49 0), .int n]) (QI D cA sz al (fI al ([51], [(49, 9)]) iv rv (fun r iv' rv' => (iv' 49 0 9).toInt = dayF n.toInt (iv 49 0 9).toInt))) 0 0 (Aq sz) := by
  refine mk_i (by decide) (Nat.le_of_ble_eq_true rfl) rfl ?_
  intro p e s m args below meth c ls Q H locs C hU hS hl hret
  have hx := C.1.1
  have hb := C.1.2.1
  have hl : lv_has ls 2 [(0, .ref (al.2 49 0)), (1, .int n)] := hl
  have hG0 := hG
  have hF1 : FR ([51], [(49, 9)]) iv iv := FR.rf
  have hF2 : FR ([51], [(49, 9)]) rv rv := FR.rf
  have km6 : ((-6) : Int32).toInt = -6 := by decide
  have km4 : ((-4) : Int32).toInt = -4 := by decide
  have k4000 : (4000 : Int32).toInt = 4000 := by decide
  refine lv_iload_n hx hb dX11_days_0 rfl (lv_at hl 1 rfl) ?_
  refine b_if_ge (tgt := 11) hx hb dX11_days_1 (by decide) (fun c_1 => ?_) (fun c_1 => ?_)
  ·
    refine lv_iload_n hx hb dX11_days_11 rfl (lv_at hl 1 rfl) ?_
    refine lv_sipush (v := 4000) hx hb dX11_days_12 (by decide) ?_
    refine lv_aload_n hx hb dX11_days_15 rfl (lv_at hl 0 rfl) ?_
    refine g_49_9 C hU hG (h1_49 hG) fl_X11_73 dX11_days_16 (fun x_2 e_3 le_3 ue_3 => ?_)
    have te_3 := congrArg Int32.toInt e_3
    refine lv_isub hx hb dX11_days_19 ?_
    refine lv_topi (fun x_4 e_5 => ?_)
    have te_5 : x_4.toInt = (4000 : Int32).toInt - (x_2 : Int32).toInt := by rw [e_5]; exact fb_subI (by omega) (by omega)
    refine b_icmp_le (tgt := 30) hx hb dX11_days_20 (by decide) (fun c_6 => ?_) (fun c_6 => ?_)
    ·
      refine lv_aload_n hx hb dX11_days_30 rfl (lv_at hl 0 rfl) ?_
      refine lv_dup hx hb dX11_days_31 rfl ?_
      refine g_49_9 C hU hG (h1_49 hG) fl_X11_73 dX11_days_32 (fun x_7 e_8 le_8 ue_8 => ?_)
      have te_8 := congrArg Int32.toInt e_8
      refine lv_iload_n hx hb dX11_days_35 rfl (lv_at hl 1 rfl) ?_
      refine lv_iadd hx hb dX11_days_36 ?_
      refine lv_topi (fun x_9 e_10 => ?_)
      have te_10 : x_9.toInt = (x_7 : Int32).toInt + (n : Int32).toInt := by rw [e_10]; exact fb_addI (by omega) (by omega)
      refine p_49_9 C hU hS (h1_49 hG) fl_X11_73 dX11_days_37 (fun iv_11 H locs ei_12 hU hS => ?_)
      have hG : GI al iv_11 rv := by rw [ei_12]; exact hG.puti (show _ ∧ _ from ⟨show (0 : Int) ≤ _ by omega, show _ ≤ (4000 : Int) by omega⟩) (nsF (by decide))
      have hF1 : FR ([51], [(49, 9)]) iv iv_11 := by rw [ei_12]; exact hF1.put (by decide)
      refine lv_aload_n hx hb dX11_days_40 rfl (lv_at hl 0 rfl) ?_
      refine g_49_9 C hU hG (h1_49 hG) fl_X11_73 dX11_days_41 (fun x_13 e_14 le_14 ue_14 => ?_)
      have te_14 := congrArg Int32.toInt e_14
      exact hret (⟨hG, hF1, hF2, by show _ = _; rw [ei_12, up3_self]; unfold dayF; split <;> omega⟩) hU hS dX11_days_44
    ·
      refine lv_aload_n hx hb dX11_days_23 rfl (lv_at hl 0 rfl) ?_
      refine lv_bipush (v := (-6)) hx hb dX11_days_24 (by decide) ?_
      refine q_fi (q_runV (t := 49) (i := 0) (As := [.int (-6)]) (rest := []) C hU (c_X11_refuse hG (-6) (by omega)) vm_X11_refuse ml_X11_77 k_49.1 (hc := rfl) rfl (h1_49 hG) hl.1 rfl rfl (Nat.le_of_ble_eq_true rfl) dX11_days_26 rfl rfl ⟨Nat.le_of_ble_eq_true rfl, Nat.le_of_ble_eq_true rfl⟩ ⟨Nat.le_refl _, Nat.le_refl _⟩) hS (fun x_20 iv_16 rv_17 H locs hG fa_18 fb_19 hp_15 hU hS => ?_)
      have hF1 := hF1.tr (m := ([51], [(49, 9)])) fa_18 (by decide)
      have hF2 := hF2.tr (m := ([51], [(49, 9)])) fb_19 (by decide)
      exact hret (⟨hG, hF1, hF2, by show _ = _; rw [fa_18 49 0 9 (by decide)]; unfold dayF; split <;> omega⟩) hU hS dX11_days_29
  ·
    refine lv_aload_n hx hb dX11_days_4 rfl (lv_at hl 0 rfl) ?_
    refine lv_bipush (v := (-4)) hx hb dX11_days_5 (by decide) ?_
    refine q_fi (q_runV (t := 49) (i := 0) (As := [.int (-4)]) (rest := []) C hU (c_X11_refuse hG (-4) (by omega)) vm_X11_refuse ml_X11_77 k_49.1 (hc := rfl) rfl (h1_49 hG) hl.1 rfl rfl (Nat.le_of_ble_eq_true rfl) dX11_days_7 rfl rfl ⟨Nat.le_of_ble_eq_true rfl, Nat.le_of_ble_eq_true rfl⟩ ⟨Nat.le_refl _, Nat.le_refl _⟩) hS (fun x_26 iv_22 rv_23 H locs hG fa_24 fb_25 hp_21 hU hS => ?_)
    have hF1 := hF1.tr (m := ([51], [(49, 9)])) fa_24 (by decide)
    have hF2 := hF2.tr (m := ([51], [(49, 9)])) fb_25 (by decide)
    exact hret (⟨hG, hF1, hF2, by show _ = _; rw [fa_24 49 0 9 (by decide)]; unfold dayF; split <;> omega⟩) hU hS dX11_days_10
end
section
def ownN (iv : Iv) (t : Int) : Nat → Int32
  | 0 => 0
  | n + 1 => if (¬ (ownN iv t n).toInt = 0) ∨ (iv 35 0 n).toInt = t then 1 else 0
def spClaim (iv : Iv) (t : Int32) : Int32 := if ¬ (0 ≤ t.toInt ∧ t.toInt < (iv 0 0 20).toInt) then -1 else if ¬ (ownN iv t.toInt (iv 0 0 41).toNatClampNeg).toInt = 0 then -3 else if 30 ≤ (iv 0 0 41).toInt then -6 else 0
theorem own_iff {iv : Iv} {t : Int} : ∀ n : Nat, (¬ (ownN iv t n).toInt = 0) ↔ ∃ c : Nat, c < n ∧ (iv 35 0 c).toInt = t
  | 0 => ⟨fun h => absurd (show (0 : Int32).toInt = 0 by decide) h, fun ⟨_, h, _⟩ => absurd h (Nat.not_lt_zero _)⟩
  | n + 1 => by
    have ih := own_iff (iv := iv) (t := t) n
    show (¬ (if (¬ (ownN iv t n).toInt = 0) ∨ (iv 35 0 n).toInt = t then (1 : Int32) else 0).toInt = 0) ↔ _
    by_cases q : (¬ (ownN iv t n).toInt = 0) ∨ (iv 35 0 n).toInt = t
    · rw [if_pos q]
      refine ⟨fun _ => ?_, fun _ => by decide⟩
      rcases q with q | q
      · obtain ⟨c, h1, h2⟩ := ih.mp q; exact ⟨c, by omega, h2⟩
      · exact ⟨n, Nat.lt_succ_self _, q⟩
    · rw [if_neg q]
      refine ⟨fun z => absurd (show (0 : Int32).toInt = 0 by decide) z, fun ⟨c, h1, h2⟩ => ?_⟩
      exfalso
      by_cases e : c = n
      · rw [e] at h2; exact q (Or.inr h2)
      · exact q (Or.inl (ih.mpr ⟨c, by omega, h2⟩))
theorem own_0 {iv : Iv} {t : Int} : (ownN iv t (0 : Int32).toNatClampNeg).toInt = 0 := by
  rw [show (0 : Int32).toNatClampNeg = 0 from by decide]; show (0 : Int32).toInt = 0; decide
theorem own_up {iv : Iv} {t : Int} {x y : Int32} (h : y.toInt = x.toInt + 1) (h0 : 0 ≤ x.toInt) (i : (ownN iv t x.toNatClampNeg).toInt = 0) (c : ¬ (iv 35 0 x.toNatClampNeg).toInt = t) : (ownN iv t y.toNatClampNeg).toInt = 0 := by
  rw [clamp_s h h0]
  show (if (¬ (ownN iv t x.toNatClampNeg).toInt = 0) ∨ (iv 35 0 x.toNatClampNeg).toInt = t then (1 : Int32) else 0).toInt = 0
  rw [if_neg (fun z => z.elim (fun w => w i) c)]; decide
theorem own_end {iv : Iv} {t : Int} {x : Int32} (i : (ownN iv t x.toNatClampNeg).toInt = 0) (h : x.toInt = (iv 0 0 41).toInt) : (ownN iv t (iv 0 0 41).toNatClampNeg).toInt = 0 := by rw [← clamp_eq h]; exact i
theorem own_hit {iv : Iv} {t : Int} {x : Int32} (c : (iv 35 0 x.toNatClampNeg).toInt = t) (h : 0 ≤ x.toInt ∧ x.toInt < (iv 0 0 41).toInt) : ¬ (ownN iv t (iv 0 0 41).toNatClampNeg).toInt = 0 := (own_iff _).mpr ⟨x.toNatClampNeg, by rw [clamp_n, clamp_n]; omega, c⟩
theorem ownN_m {iv iv' : Iv} (h : MA iv iv') (t : Int) : ∀ n : Nat, ownN iv' t n = ownN iv t n
  | 0 => rfl
  | n + 1 => by
    show (if (¬ (ownN iv' t n).toInt = 0) ∨ (iv' 35 0 n).toInt = t then (1 : Int32) else 0) = (if (¬ (ownN iv t n).toInt = 0) ∨ (iv 35 0 n).toInt = t then (1 : Int32) else 0)
    rw [ownN_m h t n, h 35 _ (by decide)]
theorem spClaim_m {iv iv' : Iv} (h : MA iv iv') (t : Int32) : spClaim iv' t = spClaim iv t := by
  unfold spClaim; rw [ownN_m h, h 0 _ (by decide), h 0 _ (by decide)]
theorem claim_cnt {al al' : Al} {iv iv' : Iv} {rv rv' : Rv} (hG : GI al iv rv) {ti : Nat} {d : Int32} (h : ∃ (a a9 : Nat) (siz : Int32), siz.toInt = al.1 88 + 1 ∧ al' = grow (grow al 88 a) 89 a9 ∧ iv' = claimIv iv (al.1 88) ti d siz ∧ rv' = claimRv rv (al.1 88) ti) : (iv' 84 0 1).toInt = (iv 84 0 1).toInt + 1 := by
  obtain ⟨a, a9, siz, hs, -, e, -⟩ := h
  have n := hG.2.2.2.2.2.1.2
  rw [e, n, ← hs]
  exact congrArg Int32.toInt (up3_self _ _ _ _ _)
def sdN (iv : Iv) (c : Nat) : Nat → Int32
  | 0 => 0
  | n + 1 => sdN iv c n + iv 38 0 (5 * c + n)
theorem sd_0 {iv : Iv} {c : Nat} : (0 : Int32) = sdN iv c (0 : Int32).toNatClampNeg := by
  rw [show (0 : Int32).toNatClampNeg = 0 from by decide]; rfl
theorem sd_up {iv : Iv} {c s x y z w u : Int32} (i : s = sdN iv c.toNatClampNeg x.toNatClampNeg) (e : z = iv 38 0 u.toNatClampNeg) (ew : w = s + z) (hu : u.toInt = 5 * c.toInt + x.toInt ∧ 0 ≤ c.toInt) (hy : y.toInt = x.toInt + 1) (h0 : 0 ≤ x.toInt) : w = sdN iv c.toNatClampNeg y.toNatClampNeg := by
  have q : u.toNatClampNeg = 5 * c.toNatClampNeg + x.toNatClampNeg := by simp only [clamp_n]; omega
  rw [clamp_s hy h0, ew, i, e, q]; rfl
def spPay (iv : Iv) (c p v : Int32) : Int32 := if ¬ ((0 ≤ c.toInt ∧ c.toInt < (iv 0 0 41).toInt) ∧ (0 ≤ p.toInt ∧ p.toInt ≤ 4)) then -1 else if v.toInt < 1 then -4 else if 9999 < v.toInt ∨ 99999 < (sdN iv c.toNatClampNeg 5 + v).toInt then -6 else 0
theorem py_ok {iv iv' : Iv} {c p v x z u : Int32} {k : Nat} (e : x = iv 38 0 u.toNatClampNeg) (ez : z = x + v) (ei : iv' = up3 iv 38 0 u.toNatClampNeg z) (hu : u.toInt = 5 * c.toInt + p.toInt) (h0 : 0 ≤ c.toInt ∧ 0 ≤ p.toInt) : iv' 38 0 k = (if k = 5 * c.toNatClampNeg + p.toNatClampNeg then iv 38 0 (5 * c.toNatClampNeg + p.toNatClampNeg) + v else iv 38 0 k) := by
  have q : u.toNatClampNeg = 5 * c.toNatClampNeg + p.toNatClampNeg := by simp only [clamp_n]; omega
  rw [q] at e ei
  rw [ei, up3_k, ez, e]
theorem py_x {iv : Iv} {c n p i k : Nat} {x z v : Int32} (e : x = iv 89 c p) (ez : z = x + v) (hc : c = n) : up3 iv 89 n p z 89 i k = (if i = n ∧ k = p then iv 89 n p + v else iv 89 i k) := by
  subst hc; rw [ez, e]; simp [up3]
theorem py_s {iv iv1 : Iv} {c n p k : Nat} {x z v y : Int32} (e : x = iv1 88 c 3) (ez : z = x + v) (e1 : iv1 = up3 iv 89 c p y) (hc : c = n) : up3 iv1 88 n 3 z 88 k 3 = (if k = n then iv 88 n 3 + v else iv 88 k 3) := by
  subst hc
  by_cases q : k = c
  · rw [q, up3_self, if_pos rfl, ez, e, e1, up3_ne (fun z => absurd z.1 (by decide))]
  · rw [up3_ne (fun z => q z.2.1), if_neg q, e1, up3_ne (fun z => absurd z.1 (by decide))]
theorem sdN_m {iv iv' : Iv} (h : MA iv iv') (c : Nat) : ∀ n : Nat, sdN iv' c n = sdN iv c n
  | 0 => rfl
  | n + 1 => by
    show sdN iv' c n + iv' 38 0 (5 * c + n) = sdN iv c n + iv 38 0 (5 * c + n)
    rw [sdN_m h c n, h 38 _ (by decide)]
theorem spPay_m {iv iv' : Iv} (h : MA iv iv') (c p v : Int32) : spPay iv' c p v = spPay iv c p v := by
  unfold spPay; rw [sdN_m h, h 0 _ (by decide)]
theorem sd_add {iv iv' : Iv} {c q : Nat} {v : Int32} (hq : q < 5) (h : ∀ k : Nat, iv' 38 0 k = (if k = 5 * c + q then iv 38 0 (5 * c + q) + v else iv 38 0 k)) : sdN iv' c 5 = sdN iv c 5 + v := by
  show 0 + iv' 38 0 (5 * c + 0) + iv' 38 0 (5 * c + 1) + iv' 38 0 (5 * c + 2) + iv' 38 0 (5 * c + 3) + iv' 38 0 (5 * c + 4) = 0 + iv 38 0 (5 * c + 0) + iv 38 0 (5 * c + 1) + iv 38 0 (5 * c + 2) + iv 38 0 (5 * c + 3) + iv 38 0 (5 * c + 4) + v
  rw [h, h, h, h, h]
  match q, hq with
  | 0, _ => rw [if_pos rfl, if_neg (by omega), if_neg (by omega), if_neg (by omega), if_neg (by omega)]; grind
  | 1, _ => rw [if_neg (by omega), if_pos rfl, if_neg (by omega), if_neg (by omega), if_neg (by omega)]; grind
  | 2, _ => rw [if_neg (by omega), if_neg (by omega), if_pos rfl, if_neg (by omega), if_neg (by omega)]; grind
  | 3, _ => rw [if_neg (by omega), if_neg (by omega), if_neg (by omega), if_pos rfl, if_neg (by omega)]; grind
  | 4, _ => rw [if_neg (by omega), if_neg (by omega), if_neg (by omega), if_neg (by omega), if_pos rfl]; grind
theorem sd_keep {iv iv' : Iv} {c : Nat} (h : ∀ p : Nat, p < 5 → iv' 38 0 (5 * c + p) = iv 38 0 (5 * c + p)) : sdN iv' c 5 = sdN iv c 5 := by
  show 0 + iv' 38 0 (5 * c + 0) + iv' 38 0 (5 * c + 1) + iv' 38 0 (5 * c + 2) + iv' 38 0 (5 * c + 3) + iv' 38 0 (5 * c + 4) = 0 + iv 38 0 (5 * c + 0) + iv 38 0 (5 * c + 1) + iv 38 0 (5 * c + 2) + iv 38 0 (5 * c + 3) + iv 38 0 (5 * c + 4)
  rw [h 0 (by decide), h 1 (by decide), h 2 (by decide), h 3 (by decide), h 4 (by decide)]
end
section
def Cclm (iv : Iv) (rv : Rv) : Prop := iv 0 0 41 = iv 84 0 1 ∧ (∀ c : Nat, (c : Int) < (iv 84 0 1).toInt → rv 88 c 0 = some (iv 35 0 c).toNatClampNeg ∧ iv 36 0 c = iv 88 c 1) ∧ (∀ t : Nat, (t : Int) < (iv 63 0 1).toInt → (¬ (iv 65 t 6).toInt = 0 ↔ ∃ c : Nat, (c : Int) < (iv 84 0 1).toInt ∧ (iv 35 0 c).toNatClampNeg = t))
abbrev T_Cclm : List Nat := [35, 36]
abbrev F_Cclm : List (Nat × Nat) := [(0, 41), (84, 1), (88, 0), (88, 1), (65, 6), (63, 1)]
theorem Cclm.keep {al : Al} {iv iv' : Iv} {rv rv' : Rv} (h : Cclm iv rv) (hG : GI al iv rv) (e : KP T_Cclm F_Cclm al iv rv iv' rv') : Cclm iv' rv' := by
  have e84 := (e 84 0 1 (h1_84 hG) (Or.inr (by decide))).1
  have e35 : ∀ c, iv' 35 0 c = iv 35 0 c := fun c => (e 35 0 c (h1_35 hG) (Or.inl (by decide))).1
  have n := hG.2.2.2.2.2.1.2
  have n5 := hG.2.2.2.2.1.2
  refine ⟨by rw [e84, (e 0 0 41 (h1_0 hG) (Or.inr (by decide))).1]; exact h.1, fun c hc => ?_, fun t ht => ?_⟩
  · rw [e84] at hc
    rw [e35, (e 36 0 c (h1_36 hG) (Or.inl (by decide))).1, (e 88 c 0 (by omega) (Or.inr (by decide))).2, (e 88 c 1 (by omega) (Or.inr (by decide))).1]; exact h.2.1 c hc
  · rw [(e 63 0 1 (h1_63 hG) (Or.inr (by decide))).1] at ht
    rw [(e 65 t 6 (by omega) (Or.inr (by decide))).1, e84]
    simp only [e35]
    exact h.2.2 t ht
def Cpay (iv : Iv) (rv : Rv) : Prop := (∀ c p : Nat, (c : Int) < (iv 84 0 1).toInt → p < 5 → iv 38 0 (5 * c + p) = iv 89 c p) ∧ (∀ c : Nat, (c : Int) < (iv 84 0 1).toInt → iv 88 c 3 = sdN iv c 5) ∧ (∀ c p : Nat, (iv 84 0 1).toInt ≤ c → p < 5 → iv 38 0 (5 * c + p) = 0)
abbrev T_Cpay : List Nat := [38, 89]
abbrev F_Cpay : List (Nat × Nat) := [(84, 1), (88, 3)]
theorem Cpay.keep {al : Al} {iv iv' : Iv} {rv rv' : Rv} (h : Cpay iv rv) (hG : GI al iv rv) (e : KP T_Cpay F_Cpay al iv rv iv' rv') : Cpay iv' rv' := by
  have e84 := (e 84 0 1 (h1_84 hG) (Or.inr (by decide))).1
  have e38 : ∀ k, iv' 38 0 k = iv 38 0 k := fun k => (e 38 0 k (h1_38 hG) (Or.inl (by decide))).1
  have n := hG.2.2.2.2.2.1.2
  have n9 : al.1 89 = al.1 88 := hG.2.2.1.2.2.2.2.2
  refine ⟨fun c p hc hp => ?_, fun c hc => ?_, fun c p hc hp => ?_⟩
  · rw [e84] at hc
    rw [e38, (e 89 c p (by omega) (Or.inl (by decide))).1]; exact h.1 c p hc hp
  · rw [e84] at hc
    rw [(e 88 c 3 (by omega) (Or.inr (by decide))).1, sd_keep (fun p _ => e38 _)]; exact h.2.1 c hc
  · rw [e84] at hc
    rw [e38]; exact h.2.2 c p hc hp
theorem spPay_ok {iv : Iv} {c p v : Int32} (h : spPay iv c p v = 0) : (0 ≤ c.toInt ∧ c.toInt < (iv 0 0 41).toInt) ∧ (0 ≤ p.toInt ∧ p.toInt ≤ 4) := by
  unfold spPay at h
  by_cases q : ¬ ((0 ≤ c.toInt ∧ c.toInt < (iv 0 0 41).toInt) ∧ (0 ≤ p.toInt ∧ p.toInt ≤ 4))
  · rw [if_pos q] at h; exact absurd h (by decide)
  · exact ⟨by omega, by omega⟩
def BK (iv : Iv) (rv : Rv) : Prop := Ctkn iv rv ∧ Cclm iv rv
theorem cl_own {al : Al} {iv : Iv} {rv : Rv} (hG : GI al iv rv) (h : BK iv rv) {j : Nat} {t x : Int32} (hj : j < al.1 65) (ej : j = t.toNatClampNeg) (e : x = iv 65 j 6) (h0 : 0 ≤ t.toInt := by omega) : (¬ x.toInt = 0 ∧ ¬ (ownN iv t.toInt (iv 0 0 41).toNatClampNeg).toInt = 0) ∨ (x.toInt = 0 ∧ (ownN iv t.toInt (iv 0 0 41).toNatClampNeg).toInt = 0) := by
  have n := hG.2.2.2.2.1.2
  have n41 := congrArg Int32.toInt h.2.1
  have c := ix_nat h0
  have q := h.2.2.2 j (by omega)
  have o := own_iff (iv := iv) (t := t.toInt) (iv 0 0 41).toNatClampNeg
  have cn : (iv 0 0 41).toNatClampNeg = (iv 0 0 41).toInt.toNat := clamp_n
  have bridge : (∃ c : Nat, (c : Int) < (iv 84 0 1).toInt ∧ (iv 35 0 c).toNatClampNeg = j) ↔ (∃ c : Nat, c < (iv 0 0 41).toNatClampNeg ∧ (iv 35 0 c).toInt = t.toInt) := by
    have r : ∀ c : Nat, c < 30 → 0 ≤ (iv 35 0 c).toInt := fun c hc => (hG.1 35 0 c (h1_35 hG) hc).1
    have l41 := le41 hG
    constructor
    · rintro ⟨c, h1, h2⟩
      have := r c (by omega)
      have k : (iv 35 0 c).toNatClampNeg = (iv 35 0 c).toInt.toNat := clamp_n
      exact ⟨c, by omega, by omega⟩
    · rintro ⟨c, h1, h2⟩
      exact ⟨c, by omega, by rw [clamp_n, h2]; omega⟩
  rw [← e] at q
  by_cases w : x.toInt = 0
  · refine Or.inr ⟨w, ?_⟩
    by_cases z : (ownN iv t.toInt (iv 0 0 41).toNatClampNeg).toInt = 0
    · exact z
    · exact absurd w (q.mpr (bridge.mpr (o.mp z)))
  · exact Or.inl ⟨w, o.mpr (bridge.mp (q.mp w))⟩
def BP (iv : Iv) (rv : Rv) : Prop := Cclm iv rv ∧ Cpay iv rv
end
section
set_option maxHeartbeats 4000000 in
set_option maxRecDepth 100000 in
theorem c_X12_claim_x {l : Launch} {D : va_G} {cA : FieldType → ClassId} {sz : Nat} {al : Al} {iv : Iv} {rv : Rv} (hG : GI al iv rv) (tt : Int32) : Met l yX12_claim (wd yX12_claim cX12_claim 3 (some .int)) (rm 2) (PcW D cA sz al iv rv [.ref (al.2 0 0), .int tt]) (QI D cA sz al (fI al ([16, 35, 36], [(0, 41)]) iv rv (fun r iv' rv' => (spClaim iv tt = 0 ∧ r.toInt = (iv 0 0 41).toInt ∧ (iv' 0 0 41).toInt = (iv 0 0 41).toInt + 1 ∧ (∀ k : Nat, iv' 35 0 k = (if k = (iv 0 0 41).toNatClampNeg then tt else iv 35 0 k) ∧ iv' 36 0 k = (if k = (iv 0 0 41).toNatClampNeg then iv 0 0 0 else iv 36 0 k))) ∨ (spClaim iv tt ≠ 0 ∧ r = spClaim iv tt ∧ iv' 0 0 41 = iv 0 0 41 ∧ (∀ k : Nat, iv' 35 0 k = iv 35 0 k ∧ iv' 36 0 k = iv 36 0 k))))) 0 0 (Aq sz) := by
  refine mk_i (by decide) (Nat.le_of_ble_eq_true rfl) rfl ?_
  intro p e s m args below meth c ls Q H locs C hU hS hl hret
  have hx := C.1.1
  have hb := C.1.2.1
  have hl : lv_has ls 3 [(0, .ref (al.2 0 0)), (1, .int tt)] := hl
  have hG0 := hG
  have h6 := le6 hG
  have h20 := le20 hG
  have h41 := le41 hG
  have hF1 : FR ([16, 35, 36], [(0, 41)]) iv iv := FR.rf
  have hF2 : FR ([16, 35, 36], [(0, 41)]) rv rv := FR.rf
  have km6 : ((-6) : Int32).toInt = -6 := by decide
  have km3 : ((-3) : Int32).toInt = -3 := by decide
  have km1 : ((-1) : Int32).toInt = -1 := by decide
  have k0 : (0 : Int32).toInt = 0 := by decide
  have k1 : (1 : Int32).toInt = 1 := by decide
  have k30 : (30 : Int32).toInt = 30 := by decide
  refine lv_aload_n hx hb dX12_claim_0 rfl (lv_at hl 0 rfl) ?_
  refine lv_iload_n hx hb dX12_claim_1 rfl (lv_at hl 1 rfl) ?_
  refine q_pi (q_runV (t := 0) (i := 0) (As := [.int tt]) (rest := []) C hU (c_X12_isTraveller hG tt ) vm_X12_isTraveller ml_X12_226 k_0.1 (hc := rfl) rfl (h1_0 hG) hl.1 rfl rfl (Nat.le_of_ble_eq_true rfl) dX12_claim_2 rfl rfl ⟨Nat.le_of_ble_eq_true rfl, Nat.le_of_ble_eq_true rfl⟩ ⟨Nat.le_refl _, Nat.le_refl _⟩) hS (fun x_2 H locs hp_1 hU hS => ?_)
  refine b_if_ne (tgt := 14) hx hb dX12_claim_5 (by decide) (fun c_3 => ?_) (fun c_3 => ?_)
  ·
    refine lv_iconst (v := 0) hx hb dX12_claim_14 (by decide) ?_
    refine lv_istore_n (lv' := [(2, .int 0), (0, .ref (al.2 0 0)), (1, .int tt)]) hx hb dX12_claim_15 rfl hl (by decide) rfl (fun ls hl => ?_)
    have J_16 : ∀ (n_16 : Nat) (l2_4 : Int32) (ls : Array Slot), lv_has ls 3 [(0, .ref (al.2 0 0)), (1, .int tt), (2, .int l2_4)] → (0 ≤ l2_4.toInt ∧ l2_4.toInt ≤ 30) → (ownN iv tt.toInt l2_4.toNatClampNeg).toInt = 0 → l2_4.toInt ≤ (iv 0 0 41).toInt → (30 - l2_4.toInt).toNat < n_16 → W p l e (rm 2) s m args below meth c H locs 0 0 Q (F0 m 16 ls []) := by
      intro n_16
      induction n_16 with
      | zero =>
        intro l2_4 ls hl i16_0 i16_1 i16_2 hm_16
        exact absurd hm_16 (Nat.not_lt_zero _)
      | succ n_16 ih_16 =>
        intro l2_4 ls hl i16_0 i16_1 i16_2 hm_16
        refine lv_iload_n hx hb dX12_claim_16 rfl (lv_at hl 2 rfl) ?_
        refine lv_aload_n hx hb dX12_claim_17 rfl (lv_at hl 0 rfl) ?_
        refine g_0_41 C hU hG (h1_0 hG) fl_X12_275 dX12_claim_18 (fun x_5 e_6 le_6 ue_6 => ?_)
        have te_6 := congrArg Int32.toInt e_6
        refine b_icmp_ge (tgt := 47) hx hb dX12_claim_21 (by decide) (fun c_7 => ?_) (fun c_7 => ?_)
        ·
          have hown := own_end i16_1 (by omega)
          refine lv_aload_n hx hb dX12_claim_47 rfl (lv_at hl 0 rfl) ?_
          refine g_0_41 C hU hG (h1_0 hG) fl_X12_275 dX12_claim_48 (fun x_8 e_9 le_9 ue_9 => ?_)
          have te_9 := congrArg Int32.toInt e_9
          refine lv_bipush (v := 30) hx hb dX12_claim_51 (by decide) ?_
          refine b_icmp_ne (tgt := 63) hx hb dX12_claim_53 (by decide) (fun c_10 => ?_) (fun c_10 => ?_)
          ·
            refine lv_aload_n hx hb dX12_claim_63 rfl (lv_at hl 0 rfl) ?_
            refine g_0_42 C hU hG (h1_0 hG) fl_X12_113 dX12_claim_64 ?_
            refine lv_aload_n hx hb dX12_claim_67 rfl (lv_at hl 0 rfl) ?_
            refine g_0_41 C hU hG (h1_0 hG) fl_X12_275 dX12_claim_68 (fun x_11 e_12 le_12 ue_12 => ?_)
            have te_12 := congrArg Int32.toInt e_12
            refine lv_iload_n hx hb dX12_claim_71 rfl (lv_at hl 1 rfl) ?_
            refine s_35 C hU hS (h1_35 hG) (x := x_11) (by omega) (by omega) dX12_claim_72 (fun iv_13 H locs ei_14 hU hS => ?_)
            have hG : GI al iv_13 rv := by rw [ei_14]; exact hG.put35 ⟨by omega, by omega⟩ (by omega)
            have hF1 : FR ([16, 35, 36], [(0, 41)]) iv iv_13 := by rw [ei_14]; exact hF1.put (Or.inl (by decide))
            have kf_15 := congrArg Int32.toInt (show iv_13 0 0 20 = iv 0 0 20 by rw [ei_14]; exact up3_ne (fun z => absurd z.1 (by decide)))
            have kf_16 := congrArg Int32.toInt (show iv_13 0 0 41 = iv 0 0 41 by rw [ei_14]; exact up3_ne (fun z => absurd z.1 (by decide)))
            refine lv_aload_n hx hb dX12_claim_73 rfl (lv_at hl 0 rfl) ?_
            refine g_0_43 C hU hG (h1_0 hG) fl_X12_116 dX12_claim_74 ?_
            refine lv_aload_n hx hb dX12_claim_77 rfl (lv_at hl 0 rfl) ?_
            refine g_0_41 C hU hG (h1_0 hG) fl_X12_275 dX12_claim_78 (fun x_17 e_18 le_18 ue_18 => ?_)
            have te_18 := congrArg Int32.toInt e_18
            refine lv_aload_n hx hb dX12_claim_81 rfl (lv_at hl 0 rfl) ?_
            refine g_0_0 C hU hG (h1_0 hG) fl_X12_168 dX12_claim_82 (fun x_19 e_20 le_20 ue_20 => ?_)
            have te_20 := congrArg Int32.toInt e_20
            have ne_20 : x_19.toInt = (iv 0 0 0).toInt := by rw [e_20, hF1 0 0 0 (by decide)]
            have htold : x_19 = iv 0 0 0 := by rw [e_20, ei_14, up3_ne (fun z => absurd z.1 (by decide))]
            refine s_36 C hU hS (h1_36 hG) (x := x_17) (by omega) (by omega) dX12_claim_85 (fun iv_21 H locs ei_22 hU hS => ?_)
            have hG : GI al iv_21 rv := by rw [ei_22]; exact hG.puti (show _ ∧ _ from ⟨show (0 : Int) ≤ _ by omega, show _ ≤ (4000 : Int) by omega⟩) (nsA (by decide) _)
            have hF1 : FR ([16, 35, 36], [(0, 41)]) iv iv_21 := by rw [ei_22]; exact hF1.put (Or.inl (by decide))
            have kf_23 := congrArg Int32.toInt (show iv_21 0 0 20 = iv_13 0 0 20 by rw [ei_22]; exact up3_ne (fun z => absurd z.1 (by decide)))
            have kf_24 := congrArg Int32.toInt (show iv_21 0 0 41 = iv_13 0 0 41 by rw [ei_22]; exact up3_ne (fun z => absurd z.1 (by decide)))
            refine lv_aload_n hx hb dX12_claim_86 rfl (lv_at hl 0 rfl) ?_
            refine lv_dup hx hb dX12_claim_87 rfl ?_
            refine g_0_41 C hU hG (h1_0 hG) fl_X12_275 dX12_claim_88 (fun x_25 e_26 le_26 ue_26 => ?_)
            have te_26 := congrArg Int32.toInt e_26
            have a1 : iv_21 35 0 x_25.toNatClampNeg = tt := by rw [ei_22, up3_ne (fun z => absurd z.1 (by decide)), ei_14, clamp_eq (show x_25.toInt = x_11.toInt by omega)]; exact up3_self _ _ _ _ _
            refine lv_iconst (v := 1) hx hb dX12_claim_91 (by decide) ?_
            refine lv_iadd hx hb dX12_claim_92 ?_
            refine lv_topi (fun x_27 e_28 => ?_)
            have te_28 : x_27.toInt = (x_25 : Int32).toInt + (1 : Int32).toInt := by rw [e_28]; exact fb_addI (by omega) (by omega)
            refine p_0_41 C hU hS (h1_0 hG) fl_X12_275 dX12_claim_93 (fun iv_29 H locs ei_30 hU hS => ?_)
            have hG : GI al iv_29 rv := by rw [ei_30]; exact hG.put41 (x := x_25) ⟨by omega, by omega⟩ (by omega) (by omega) (by rw [a1]; omega)
            have hF1 : FR ([16, 35, 36], [(0, 41)]) iv iv_29 := by rw [ei_30]; exact hF1.put (by decide)
            have kf_31 := congrArg Int32.toInt (show iv_29 0 0 20 = iv_21 0 0 20 by rw [ei_30]; exact up3_ne (fun z => absurd z.2.2 (by decide)))
            refine lv_aload_n hx hb dX12_claim_96 rfl (lv_at hl 0 rfl) ?_
            refine g_0_41 C hU hG (h1_0 hG) fl_X12_275 dX12_claim_97 (fun x_32 e_33 le_33 ue_33 => ?_)
            have te_33 := congrArg Int32.toInt e_33
            have hz_ := e_33
            rw [ei_30, up3_self] at hz_
            have tz_ := congrArg Int32.toInt hz_
            refine lv_iconst (v := 1) hx hb dX12_claim_100 (by decide) ?_
            refine lv_isub hx hb dX12_claim_101 ?_
            refine lv_topi (fun x_34 e_35 => ?_)
            have te_35 : x_34.toInt = (x_32 : Int32).toInt - (1 : Int32).toInt := by rw [e_35]; exact fb_subI (by omega) (by omega)
            exact hret (⟨hG, hF1, hF2, Or.inl ⟨(by unfold spClaim; (repeat' split) <;> first | rfl | omega), by omega, by rw [ei_30, up3_self]; omega, fun k => ⟨by rw [ei_30, up3_ne (fun z => absurd z.1 (by decide)), ei_22, up3_ne (fun z => absurd z.1 (by decide)), ei_14, clamp_eq (show (x_11 : Int32).toInt = (iv 0 0 41).toInt by omega), up3_k], by rw [ei_30, up3_ne (fun z => absurd z.1 (by decide)), ei_22, clamp_eq (show (x_17 : Int32).toInt = (iv 0 0 41).toInt by omega), up3_k, htold, ei_14, up3_ne (fun z => absurd z.1 (by decide))]⟩⟩⟩) hU hS dX12_claim_102
          ·
            refine lv_aload_n hx hb dX12_claim_56 rfl (lv_at hl 0 rfl) ?_
            refine lv_bipush (v := (-6)) hx hb dX12_claim_57 (by decide) ?_
            refine q_fi (q_runV (t := 0) (i := 0) (As := [.int (-6)]) (rest := []) C hU (c_X12_refuse hG (-6) (by omega)) vm_X12_refuse ml_X12_164 k_0.1 (hc := rfl) rfl (h1_0 hG) hl.1 rfl rfl (Nat.le_of_ble_eq_true rfl) dX12_claim_59 rfl rfl ⟨Nat.le_of_ble_eq_true rfl, Nat.le_of_ble_eq_true rfl⟩ ⟨Nat.le_refl _, Nat.le_refl _⟩) hS (fun x_41 iv_37 rv_38 H locs hG fa_39 fb_40 hp_36 hU hS => ?_)
            have hF1 := hF1.tr (m := ([16, 35, 36], [(0, 41)])) fa_39 (by decide)
            have hF2 := hF2.tr (m := ([16, 35, 36], [(0, 41)])) fb_40 (by decide)
            have kf_42 := congrArg Int32.toInt (hF1 0 0 20 (by decide))
            exact hret (⟨hG, hF1, hF2, sp_no (z := (-6)) (by unfold spClaim; (repeat' split) <;> first | rfl | omega) (by decide) hp_36 (⟨fa_39 0 0 41 (by decide), fun k => ⟨fa_39.arr 35 0 k (by decide), fa_39.arr 36 0 k (by decide)⟩⟩)⟩) hU hS dX12_claim_62
        ·
          refine lv_aload_n hx hb dX12_claim_24 rfl (lv_at hl 0 rfl) ?_
          refine g_0_42 C hU hG (h1_0 hG) fl_X12_113 dX12_claim_25 ?_
          refine lv_iload_n hx hb dX12_claim_28 rfl (lv_at hl 2 rfl) ?_
          refine a_35 C hU hG (h1_35 hG) (x := l2_4) (by omega) (by omega) dX12_claim_29 (fun x_43 e_44 le_44 ue_44 => ?_)
          have te_44 := congrArg Int32.toInt e_44
          refine lv_iload_n hx hb dX12_claim_30 rfl (lv_at hl 1 rfl) ?_
          refine b_icmp_ne (tgt := 41) hx hb dX12_claim_31 (by decide) (fun c_45 => ?_) (fun c_45 => ?_)
          ·
            obtain ⟨x_46, e_47⟩ : ∃ y : Int32, y = l2_4 + 1 := ⟨_, rfl⟩
            have te_47 : x_46.toInt = (l2_4 : Int32).toInt + (1 : Int32).toInt := by rw [e_47]; exact fb_addI (by omega) (by omega)
            refine lv_iinc (v := x_46) (lv' := [(2, .int x_46), (0, .ref (al.2 0 0)), (1, .int tt)]) hx hb dX12_claim_41 hl (k := 2) rfl (by rw [e_47]; rfl) (by decide) rfl (fun ls hl => ?_)
            refine lv_goto (tgt := 16) hx hb dX12_claim_44 (by decide) ?_
            exact ih_16 x_46 _ (lv_sub hl [1, 2, 0] rfl) (by omega) (by first | exact own_up (by omega) (by omega) i16_1 (by omega) | exact own_0) (by omega) (by omega)
          ·
            have hown := own_hit (iv := iv) (t := tt.toInt) (x := l2_4) (by omega) (by omega)
            refine lv_aload_n hx hb dX12_claim_34 rfl (lv_at hl 0 rfl) ?_
            refine lv_bipush (v := (-3)) hx hb dX12_claim_35 (by decide) ?_
            refine q_fi (q_runV (t := 0) (i := 0) (As := [.int (-3)]) (rest := []) C hU (c_X12_refuse hG (-3) (by omega)) vm_X12_refuse ml_X12_164 k_0.1 (hc := rfl) rfl (h1_0 hG) hl.1 rfl rfl (Nat.le_of_ble_eq_true rfl) dX12_claim_37 rfl rfl ⟨Nat.le_of_ble_eq_true rfl, Nat.le_of_ble_eq_true rfl⟩ ⟨Nat.le_refl _, Nat.le_refl _⟩) hS (fun x_53 iv_49 rv_50 H locs hG fa_51 fb_52 hp_48 hU hS => ?_)
            have hF1 := hF1.tr (m := ([16, 35, 36], [(0, 41)])) fa_51 (by decide)
            have hF2 := hF2.tr (m := ([16, 35, 36], [(0, 41)])) fb_52 (by decide)
            have kf_54 := congrArg Int32.toInt (hF1 0 0 20 (by decide))
            exact hret (⟨hG, hF1, hF2, sp_no (z := (-3)) (by unfold spClaim; (repeat' split) <;> first | rfl | omega) (by decide) hp_48 (⟨fa_51 0 0 41 (by decide), fun k => ⟨fa_51.arr 35 0 k (by decide), fa_51.arr 36 0 k (by decide)⟩⟩)⟩) hU hS dX12_claim_40
    exact J_16 _ 0 _ (lv_sub hl [1, 2, 0] rfl) (by omega) (by first | exact own_up (by omega) (by omega) i16_1 (by omega) | exact own_0) (by omega) (Nat.lt_succ_self _)
  ·
    refine lv_aload_n hx hb dX12_claim_8 rfl (lv_at hl 0 rfl) ?_
    refine lv_iconst (v := (-1)) hx hb dX12_claim_9 (by decide) ?_
    refine q_fi (q_runV (t := 0) (i := 0) (As := [.int (-1)]) (rest := []) C hU (c_X12_refuse hG (-1) (by omega)) vm_X12_refuse ml_X12_164 k_0.1 (hc := rfl) rfl (h1_0 hG) hl.1 rfl rfl (Nat.le_of_ble_eq_true rfl) dX12_claim_10 rfl rfl ⟨Nat.le_of_ble_eq_true rfl, Nat.le_of_ble_eq_true rfl⟩ ⟨Nat.le_refl _, Nat.le_refl _⟩) hS (fun x_60 iv_56 rv_57 H locs hG fa_58 fb_59 hp_55 hU hS => ?_)
    have hF1 := hF1.tr (m := ([16, 35, 36], [(0, 41)])) fa_58 (by decide)
    have hF2 := hF2.tr (m := ([16, 35, 36], [(0, 41)])) fb_59 (by decide)
    have kf_61 := congrArg Int32.toInt (hF1 0 0 20 (by decide))
    exact hret (⟨hG, hF1, hF2, sp_no (z := (-1)) (by unfold spClaim; (repeat' split) <;> first | rfl | omega) (by decide) hp_55 (⟨fa_58 0 0 41 (by decide), fun k => ⟨fa_58.arr 35 0 k (by decide), fa_58.arr 36 0 k (by decide)⟩⟩)⟩) hU hS dX12_claim_13
set_option maxHeartbeats 4000000 in
set_option maxRecDepth 100000 in
theorem c_X11_claim_y {l : Launch} {D : va_G} {cA : FieldType → ClassId} {sz : Nat} {al : Al} {iv : Iv} {rv : Rv} (hG : GI al iv rv) (tt : Int32) (pre0 : BK iv rv) : Met l yX11_claim (wd yX11_claim cX11_claim 3 (some .int)) (rmA 3 2 9) (PcA D cA sz al iv rv [.ref (al.2 49 0), .int tt] (fun _ => True)) (QIA D cA sz (fun r al' iv' rv' => GI al' iv' rv' ∧ EX ([51, 85], [(84, 1), (65, 6)]) al iv rv al' iv' rv' ∧ ((spClaim iv tt = 0 ∧ r.toInt = (iv 84 0 1).toInt ∧ (iv' 84 0 1).toInt = (iv 84 0 1).toInt + 1 ∧ ∃ (aa a9 : Nat) (siz : Int32), siz.toInt = al.1 88 + 1 ∧ al' = grow (grow al 88 aa) 89 a9 ∧ iv' = claimIv iv (al.1 88) tt.toNatClampNeg (iv 49 0 9) siz ∧ rv' = claimRv rv (al.1 88) tt.toNatClampNeg) ∨ (spClaim iv tt ≠ 0 ∧ r = spClaim iv tt ∧ iv' 84 0 1 = iv 84 0 1 ∧ (∀ k : Nat, iv' 65 k 6 = iv 65 k 6))))) 2 9 (Aq sz) := by
  refine mk_ia (by decide) (Nat.le_of_ble_eq_true rfl) rfl ?_
  intro p e s m args below meth c ls Q H locs C hU hS hX hz0 hl hret
  have hx := C.1.1
  have hb := C.1.2.1
  have hl : lv_has ls 3 [(0, .ref (al.2 49 0)), (1, .int tt)] := hl
  have hG0 := hG
  have hn20 := congrArg Int32.toInt pre0.1
  have hn41 := congrArg Int32.toInt pre0.2.1
  have hF1 : FR ([51, 85], [(84, 1), (65, 6)]) iv iv := FR.rf
  have hF2 : FR ([51, 85], [(84, 1), (65, 6)]) rv rv := FR.rf
  have km6 : ((-6) : Int32).toInt = -6 := by decide
  have km3 : ((-3) : Int32).toInt = -3 := by decide
  have km1 : ((-1) : Int32).toInt = -1 := by decide
  refine lv_aload_n hx hb dX11_claim_0 rfl (lv_at hl 0 rfl) ?_
  refine g_49_2 C hU hG (h1_49 hG) fl_X11_26 dX11_claim_1 ?_
  refine lv_iload_n hx hb dX11_claim_4 rfl (lv_at hl 1 rfl) ?_
  refine q_pr (q_runV (t := 63) (i := 0) (As := [.int tt]) (rest := []) C hU (c_X9_find hG tt ) vm_X9_find ml_X11_192 k_63.1 (hc := rfl) rfl (h1_63 hG) hl.1 rfl rfl (Nat.le_of_ble_eq_true rfl) dX11_claim_5 rfl rfl ⟨Nat.le_of_ble_eq_true rfl, Nat.le_of_ble_eq_true rfl⟩ ⟨Nat.le_of_ble_eq_true rfl, Nat.le_of_ble_eq_true rfl⟩) hS (fun r_2 H locs hp_1 hU hS => ?_)
  have hb_3 := hp_1.1
  refine b_astore_n (lv' := [(2, rfv al 65 r_2), (0, .ref (al.2 49 0)), (1, .int tt)]) hx hb dX11_claim_8 rfl hl (by decide) rfl (fun ls hl => ?_)
  refine b_aload_n (al := al) (t' := 65) (r := r_2) hx hb dX11_claim_9 rfl (lv_at hl 0 rfl) ?_
  refine b_ifnonnull (tgt := 19) hx hb dX11_claim_10 (by decide) (fun j_5 ej_6 => ?_) (fun ej_6 => ?_)
  ·
    subst ej_6
    have hl : lv_has ls 3 [(2, .ref (al.2 65 j_5)), (0, .ref (al.2 49 0)), (1, .int tt)] := hl
    have hb_7 : j_5 < al.1 65 := hb_3 j_5 rfl
    have hq3 := hp_1.2.1 _ rfl
    have hn3 := hq3.1
    rw [clamp_n] at hn3
    refine lv_aload_n hx hb dX11_claim_19 rfl (lv_at hl 0 rfl) ?_
    refine g_65_6 C hU hG hb_7 fl_X11_255 dX11_claim_20 (fun x_8 e_9 le_9 ue_9 => ?_)
    have te_9 := congrArg Int32.toInt e_9
    have hcl := cl_own hG0 pre0 hb_7 hq3.1 e_9
    refine b_if_eq (tgt := 33) hx hb dX11_claim_23 (by decide) (fun c_10 => ?_) (fun c_10 => ?_)
    ·
      refine lv_aload_n hx hb dX11_claim_33 rfl (lv_at hl 1 rfl) ?_
      refine g_49_5 C hU hG (h1_49 hG) fl_X11_47 dX11_claim_34 ?_
      refine q_pi (q_runV (t := 84) (i := 0) (As := []) (rest := []) C hU (c_X3_isFull hG  ) vm_X3_isFull ml_X11_258 k_84.1 (hc := rfl) rfl (h1_84 hG) hl.1 rfl rfl (Nat.le_of_ble_eq_true rfl) dX11_claim_37 rfl rfl ⟨Nat.le_of_ble_eq_true rfl, Nat.le_of_ble_eq_true rfl⟩ ⟨Nat.le_of_ble_eq_true rfl, Nat.le_of_ble_eq_true rfl⟩) hS (fun x_12 H locs hp_11 hU hS => ?_)
      refine b_if_eq (tgt := 50) hx hb dX11_claim_40 (by decide) (fun c_13 => ?_) (fun c_13 => ?_)
      ·
        refine lv_aload_n hx hb dX11_claim_50 rfl (lv_at hl 1 rfl) ?_
        refine g_49_5 C hU hG (h1_49 hG) fl_X11_47 dX11_claim_51 ?_
        refine lv_aload_n hx hb dX11_claim_54 rfl (lv_at hl 0 rfl) ?_
        refine lv_aload_n hx hb dX11_claim_55 rfl (lv_at hl 1 rfl) ?_
        refine g_49_9 C hU hG (h1_49 hG) fl_X11_73 dX11_claim_56 (fun x_14 e_15 le_15 ue_15 => ?_)
        have te_15 := congrArg Int32.toInt e_15
        refine q_ciA (q_runVA (t := 84) (i := 0) (As := [.ref (al.2 65 j_5), .int x_14]) (rest := []) C hU (Nat.le_trans hz0 hS.1) (c_X3_add hG (j_5) hb_7 x_14 (by omega) (by omega)) vm_X3_add ml_X11_259 k_84.1 (hc := rfl) rfl (h1_84 hG) hl.1 rfl rfl (Nat.le_of_ble_eq_true rfl) dX11_claim_59 rfl rfl ⟨Nat.le_of_ble_eq_true rfl, Nat.le_of_ble_eq_true rfl⟩ ⟨Nat.le_of_ble_eq_true rfl, Nat.le_of_ble_eq_true rfl⟩) hS (Nat.le_trans hz0 hS.1) (fun x_17 al' iv' rv' H locs hp_16 hU hS _ => ?_)
        exact hret (⟨hp_16.1, (EX.of hF1 hF2).tr hp_16.2.1 (by decide) (by decide), Or.inl ⟨(by unfold spClaim; (repeat' split) <;> first | rfl | omega), by rw [hp_16.2.2.1], claim_cnt hG0 hp_16.2.2.2, (by have z := hp_16.2.2.2; rw [hq3.1, e_15] at z; exact z)⟩⟩) hU hS dX11_claim_62
      ·
        refine lv_aload_n hx hb dX11_claim_43 rfl (lv_at hl 1 rfl) ?_
        refine lv_bipush (v := (-6)) hx hb dX11_claim_44 (by decide) ?_
        refine q_fi (q_runV (t := 49) (i := 0) (As := [.int (-6)]) (rest := []) C hU (c_X11_refuse hG (-6) (by omega)) vm_X11_refuse ml_X11_77 k_49.1 (hc := rfl) rfl (h1_49 hG) hl.1 rfl rfl (Nat.le_of_ble_eq_true rfl) dX11_claim_46 rfl rfl ⟨Nat.le_of_ble_eq_true rfl, Nat.le_of_ble_eq_true rfl⟩ ⟨Nat.le_of_ble_eq_true rfl, Nat.le_of_ble_eq_true rfl⟩) hS (fun x_23 iv_19 rv_20 H locs hG fa_21 fb_22 hp_18 hU hS => ?_)
        have hF1 := hF1.tr (m := ([51, 85], [(84, 1), (65, 6)])) fa_21 (by decide)
        have hF2 := hF2.tr (m := ([51, 85], [(84, 1), (65, 6)])) fb_22 (by decide)
        refine W.widen (k := 2) (n := 9) (Nat.zero_le _) (Nat.zero_le _) ?_
        exact hret (⟨hG, EX.of hF1 hF2, sp_no (z := (-6)) (by unfold spClaim; (repeat' split) <;> first | rfl | omega) (by decide) hp_18 (⟨fa_21 84 0 1 (by decide), fun k => fa_21 65 k 6 (by decide)⟩)⟩) hU hS dX11_claim_49
    ·
      refine lv_aload_n hx hb dX11_claim_26 rfl (lv_at hl 1 rfl) ?_
      refine lv_bipush (v := (-3)) hx hb dX11_claim_27 (by decide) ?_
      refine q_fi (q_runV (t := 49) (i := 0) (As := [.int (-3)]) (rest := []) C hU (c_X11_refuse hG (-3) (by omega)) vm_X11_refuse ml_X11_77 k_49.1 (hc := rfl) rfl (h1_49 hG) hl.1 rfl rfl (Nat.le_of_ble_eq_true rfl) dX11_claim_29 rfl rfl ⟨Nat.le_of_ble_eq_true rfl, Nat.le_of_ble_eq_true rfl⟩ ⟨Nat.le_of_ble_eq_true rfl, Nat.le_of_ble_eq_true rfl⟩) hS (fun x_29 iv_25 rv_26 H locs hG fa_27 fb_28 hp_24 hU hS => ?_)
      have hF1 := hF1.tr (m := ([51, 85], [(84, 1), (65, 6)])) fa_27 (by decide)
      have hF2 := hF2.tr (m := ([51, 85], [(84, 1), (65, 6)])) fb_28 (by decide)
      refine W.widen (k := 2) (n := 9) (Nat.zero_le _) (Nat.zero_le _) ?_
      exact hret (⟨hG, EX.of hF1 hF2, sp_no (z := (-3)) (by unfold spClaim; (repeat' split) <;> first | rfl | omega) (by decide) hp_24 (⟨fa_27 84 0 1 (by decide), fun k => fa_27 65 k 6 (by decide)⟩)⟩) hU hS dX11_claim_32
  ·
    subst ej_6
    have hl : lv_has ls 3 [(2, rfv al 65 none), (0, .ref (al.2 49 0)), (1, .int tt)] := hl
    have hq3 := hp_1.2.2 rfl
    refine lv_aload_n hx hb dX11_claim_13 rfl (lv_at hl 1 rfl) ?_
    refine lv_iconst (v := (-1)) hx hb dX11_claim_14 (by decide) ?_
    refine q_fi (q_runV (t := 49) (i := 0) (As := [.int (-1)]) (rest := []) C hU (c_X11_refuse hG (-1) (by omega)) vm_X11_refuse ml_X11_77 k_49.1 (hc := rfl) rfl (h1_49 hG) hl.1 rfl rfl (Nat.le_of_ble_eq_true rfl) dX11_claim_15 rfl rfl ⟨Nat.le_of_ble_eq_true rfl, Nat.le_of_ble_eq_true rfl⟩ ⟨Nat.le_of_ble_eq_true rfl, Nat.le_of_ble_eq_true rfl⟩) hS (fun x_35 iv_31 rv_32 H locs hG fa_33 fb_34 hp_30 hU hS => ?_)
    have hF1 := hF1.tr (m := ([51, 85], [(84, 1), (65, 6)])) fa_33 (by decide)
    have hF2 := hF2.tr (m := ([51, 85], [(84, 1), (65, 6)])) fb_34 (by decide)
    refine W.widen (k := 2) (n := 9) (Nat.zero_le _) (Nat.zero_le _) ?_
    exact hret (⟨hG, EX.of hF1 hF2, sp_no (z := (-1)) (by unfold spClaim; (repeat' split) <;> first | rfl | omega) (by decide) hp_30 (⟨fa_33 84 0 1 (by decide), fun k => fa_33 65 k 6 (by decide)⟩)⟩) hU hS dX11_claim_18
set_option maxHeartbeats 4000000 in
set_option maxRecDepth 100000 in
theorem c_X12_settledOf_x {l : Launch} {D : va_G} {cA : FieldType → ClassId} {sz : Nat} {al : Al} {iv : Iv} {rv : Rv} (hG : GI al iv rv) (cl : Int32) (pre0 : 0 ≤ cl.toInt ∧ cl.toInt < 30) : Met l yX12_settledOf (wd yX12_settledOf cX12_settledOf 4 (some .int)) (rm 0) (PcW D cA sz al iv rv [.ref (al.2 0 0), .int cl]) (QI D cA sz al (pI iv rv (fun r => r = sdN iv cl.toNatClampNeg 5))) 0 0 (Aq sz) := by
  refine mk_i (by decide) (Nat.le_of_ble_eq_true rfl) rfl ?_
  intro p e s m args below meth c ls Q H locs C hU hS hl hret
  have hx := C.1.1
  have hb := C.1.2.1
  have hl : lv_has ls 4 [(0, .ref (al.2 0 0)), (1, .int cl)] := hl
  have hG0 := hG
  have h6 := le6 hG
  have h20 := le20 hG
  have h41 := le41 hG
  have k0 : (0 : Int32).toInt = 0 := by decide
  have k1 : (1 : Int32).toInt = 1 := by decide
  have k5 : (5 : Int32).toInt = 5 := by decide
  refine lv_iconst (v := 0) hx hb dX12_settledOf_0 (by decide) ?_
  refine lv_istore_n (lv' := [(2, .int 0), (0, .ref (al.2 0 0)), (1, .int cl)]) hx hb dX12_settledOf_1 rfl hl (by decide) rfl (fun ls hl => ?_)
  refine lv_iconst (v := 0) hx hb dX12_settledOf_2 (by decide) ?_
  refine lv_istore_n (lv' := [(3, .int 0), (2, .int 0), (0, .ref (al.2 0 0)), (1, .int cl)]) hx hb dX12_settledOf_3 rfl hl (by decide) rfl (fun ls hl => ?_)
  have J_4 : ∀ (n_4 : Nat) (l2_1 : Int32) (l3_2 : Int32) (ls : Array Slot), lv_has ls 4 [(0, .ref (al.2 0 0)), (1, .int cl), (2, .int l2_1), (3, .int l3_2)] → (0 ≤ l3_2.toInt ∧ l3_2.toInt ≤ 5) → l2_1 = sdN iv cl.toNatClampNeg l3_2.toNatClampNeg → (5 - l3_2.toInt).toNat < n_4 → W p l e (rm 0) s m args below meth c H locs 0 0 Q (F0 m 4 ls []) := by
    intro n_4
    induction n_4 with
    | zero =>
      intro l2_1 l3_2 ls hl i4_0 i4_1 hm_4
      exact absurd hm_4 (Nat.not_lt_zero _)
    | succ n_4 ih_4 =>
      intro l2_1 l3_2 ls hl i4_0 i4_1 hm_4
      refine lv_iload_n hx hb dX12_settledOf_4 rfl (lv_at hl 3 rfl) ?_
      refine lv_iconst (v := 5) hx hb dX12_settledOf_5 (by decide) ?_
      refine b_icmp_ge (tgt := 28) hx hb dX12_settledOf_6 (by decide) (fun c_3 => ?_) (fun c_3 => ?_)
      ·
        refine lv_iload_n hx hb dX12_settledOf_28 rfl (lv_at hl 2 rfl) ?_
        exact hret (⟨rfl, rfl, by rw [i4_1, show (l3_2 : Int32).toNatClampNeg = 5 from by rw [clamp_n]; omega]⟩) hU hS dX12_settledOf_29
      ·
        refine lv_iload_n hx hb dX12_settledOf_9 rfl (lv_at hl 2 rfl) ?_
        refine lv_aload_n hx hb dX12_settledOf_10 rfl (lv_at hl 0 rfl) ?_
        refine g_0_45 C hU hG (h1_0 hG) fl_X12_122 dX12_settledOf_11 ?_
        refine lv_iconst (v := 5) hx hb dX12_settledOf_14 (by decide) ?_
        refine lv_iload_n hx hb dX12_settledOf_15 rfl (lv_at hl 1 rfl) ?_
        refine lv_imul hx hb dX12_settledOf_16 ?_
        refine lv_topi (fun x_4 e_5 => ?_)
        have te_5 : x_4.toInt = 5 * (cl : Int32).toInt := by rw [e_5, fb_mulI (by rw [show (5 : Int32).toInt = 5 from by decide]; omega) (by rw [show (5 : Int32).toInt = 5 from by decide]; omega), show (5 : Int32).toInt = 5 from by decide]
        refine lv_iload_n hx hb dX12_settledOf_17 rfl (lv_at hl 3 rfl) ?_
        refine lv_iadd hx hb dX12_settledOf_18 ?_
        refine lv_topi (fun x_6 e_7 => ?_)
        have te_7 : x_6.toInt = (x_4 : Int32).toInt + (l3_2 : Int32).toInt := by rw [e_7]; exact fb_addI (by omega) (by omega)
        refine a_38 C hU hG (h1_38 hG) (x := x_6) (by omega) (by omega) dX12_settledOf_19 (fun x_8 e_9 => ?_)
        have te_9 := congrArg Int32.toInt e_9
        refine lv_iadd hx hb dX12_settledOf_20 ?_
        refine lv_topi (fun x_10 e_11 => ?_)
        refine lv_istore_n (lv' := [(2, .int x_10), (0, .ref (al.2 0 0)), (1, .int cl), (3, .int l3_2)]) hx hb dX12_settledOf_21 rfl hl (by decide) rfl (fun ls hl => ?_)
        obtain ⟨x_12, e_13⟩ : ∃ y : Int32, y = l3_2 + 1 := ⟨_, rfl⟩
        have te_13 : x_12.toInt = (l3_2 : Int32).toInt + (1 : Int32).toInt := by rw [e_13]; exact fb_addI (by omega) (by omega)
        refine lv_iinc (v := x_12) (lv' := [(3, .int x_12), (2, .int x_10), (0, .ref (al.2 0 0)), (1, .int cl)]) hx hb dX12_settledOf_22 hl (k := 3) rfl (by rw [e_13]; rfl) (by decide) rfl (fun ls hl => ?_)
        refine lv_goto (tgt := 4) hx hb dX12_settledOf_25 (by decide) ?_
        exact ih_4 x_10 x_12 _ (lv_sub hl [2, 3, 1, 0] rfl) (by omega) (by first | exact sd_up i4_1 e_9 e_11 (by omega) (by omega) (by omega) | exact sd_0) (by omega)
  exact J_4 _ 0 0 _ (lv_sub hl [2, 3, 1, 0] rfl) (by omega) (by first | exact sd_up i4_1 True.intro True.intro (by omega) (by omega) (by omega) | exact sd_0) (Nat.lt_succ_self _)
set_option maxHeartbeats 4000000 in
set_option maxRecDepth 100000 in
theorem c_X12_pay_x {l : Launch} {D : va_G} {cA : FieldType → ClassId} {sz : Nat} {al : Al} {iv : Iv} {rv : Rv} (hG : GI al iv rv) (cl : Int32) (pp : Int32) (v : Int32) : Met l yX12_pay (wd yX12_pay cX12_pay 4 (some .int)) (rm 2) (PcW D cA sz al iv rv [.ref (al.2 0 0), .int cl, .int pp, .int v]) (QI D cA sz al (fI al ([16, 38], []) iv rv (fun r iv' rv' => (spPay iv cl pp v = 0 ∧ r = sdN iv' cl.toNatClampNeg 5 ∧ (∀ k : Nat, iv' 38 0 k = (if k = 5 * cl.toNatClampNeg + pp.toNatClampNeg then iv 38 0 (5 * cl.toNatClampNeg + pp.toNatClampNeg) + v else iv 38 0 k))) ∨ (spPay iv cl pp v ≠ 0 ∧ r = spPay iv cl pp v ∧ (∀ k : Nat, iv' 38 0 k = iv 38 0 k))))) 0 0 (Aq sz) := by
  refine mk_i (by decide) (Nat.le_of_ble_eq_true rfl) rfl ?_
  intro p e s m args below meth c ls Q H locs C hU hS hl hret
  have hx := C.1.1
  have hb := C.1.2.1
  have hl : lv_has ls 4 [(0, .ref (al.2 0 0)), (1, .int cl), (2, .int pp), (3, .int v)] := hl
  have hG0 := hG
  have h6 := le6 hG
  have h20 := le20 hG
  have h41 := le41 hG
  have h41 := le41 hG
  have h20 := le20 hG
  have hF1 : FR ([16, 38], []) iv iv := FR.rf
  have hF2 : FR ([16, 38], []) rv rv := FR.rf
  have km6 : ((-6) : Int32).toInt = -6 := by decide
  have km4 : ((-4) : Int32).toInt = -4 := by decide
  have km1 : ((-1) : Int32).toInt = -1 := by decide
  have k1 : (1 : Int32).toInt = 1 := by decide
  have k5 : (5 : Int32).toInt = 5 := by decide
  have k9999 : (9999 : Int32).toInt = 9999 := by decide
  have k99999 : (99999 : Int32).toInt = 99999 := by decide
  refine lv_aload_n hx hb dX12_pay_0 rfl (lv_at hl 0 rfl) ?_
  refine lv_iload_n hx hb dX12_pay_1 rfl (lv_at hl 1 rfl) ?_
  refine q_pi (q_runV (t := 0) (i := 0) (As := [.int cl]) (rest := []) C hU (c_X12_isClaim hG cl ) vm_X12_isClaim ml_X12_281 k_0.1 (hc := rfl) rfl (h1_0 hG) hl.1 rfl rfl (Nat.le_of_ble_eq_true rfl) dX12_pay_2 rfl rfl ⟨Nat.le_of_ble_eq_true rfl, Nat.le_of_ble_eq_true rfl⟩ ⟨Nat.le_refl _, Nat.le_refl _⟩) hS (fun x_2 H locs hp_1 hU hS => ?_)
  refine b_if_eq (tgt := 15) hx hb dX12_pay_5 (by decide) (fun c_3 => ?_) (fun c_3 => ?_)
  ·
    refine lv_aload_n hx hb dX12_pay_15 rfl (lv_at hl 0 rfl) ?_
    refine lv_iconst (v := (-1)) hx hb dX12_pay_16 (by decide) ?_
    refine q_fi (q_runV (t := 0) (i := 0) (As := [.int (-1)]) (rest := []) C hU (c_X12_refuse hG (-1) (by omega)) vm_X12_refuse ml_X12_164 k_0.1 (hc := rfl) rfl (h1_0 hG) hl.1 rfl rfl (Nat.le_of_ble_eq_true rfl) dX12_pay_17 rfl rfl ⟨Nat.le_of_ble_eq_true rfl, Nat.le_of_ble_eq_true rfl⟩ ⟨Nat.le_refl _, Nat.le_refl _⟩) hS (fun x_9 iv_5 rv_6 H locs hG fa_7 fb_8 hp_4 hU hS => ?_)
    have hF1 := hF1.tr (m := ([16, 38], [])) fa_7 (by decide)
    have hF2 := hF2.tr (m := ([16, 38], [])) fb_8 (by decide)
    exact hret (⟨hG, hF1, hF2, sp_no (z := (-1)) (by unfold spPay; (repeat' split) <;> first | rfl | omega) (by decide) hp_4 (fun k => fa_7.arr 38 0 k (by decide))⟩) hU hS dX12_pay_20
  ·
    refine lv_iload_n hx hb dX12_pay_8 rfl (lv_at hl 2 rfl) ?_
    refine q_pi (q_runS (As := [.int pp]) (rest := []) C hU (c_X12_isPayer  pp ) sm_X12_isPayer ml_X12_290 hl.1 rfl rfl (Nat.le_of_ble_eq_true rfl) dX12_pay_9 rfl rfl ⟨Nat.le_of_ble_eq_true rfl, Nat.le_of_ble_eq_true rfl⟩ ⟨Nat.le_refl _, Nat.le_refl _⟩) hS (fun x_11 H locs hp_10 hU hS => ?_)
    refine b_if_ne (tgt := 21) hx hb dX12_pay_12 (by decide) (fun c_12 => ?_) (fun c_12 => ?_)
    ·
      refine lv_iload_n hx hb dX12_pay_21 rfl (lv_at hl 3 rfl) ?_
      refine lv_iconst (v := 1) hx hb dX12_pay_22 (by decide) ?_
      refine b_icmp_ge (tgt := 33) hx hb dX12_pay_23 (by decide) (fun c_13 => ?_) (fun c_13 => ?_)
      ·
        refine lv_iload_n hx hb dX12_pay_33 rfl (lv_at hl 3 rfl) ?_
        refine lv_sipush (v := 9999) hx hb dX12_pay_34 (by decide) ?_
        refine b_icmp_gt (tgt := 53) hx hb dX12_pay_37 (by decide) (fun c_14 => ?_) (fun c_14 => ?_)
        ·
          refine lv_aload_n hx hb dX12_pay_53 rfl (lv_at hl 0 rfl) ?_
          refine lv_bipush (v := (-6)) hx hb dX12_pay_54 (by decide) ?_
          refine q_fi (q_runV (t := 0) (i := 0) (As := [.int (-6)]) (rest := []) C hU (c_X12_refuse hG (-6) (by omega)) vm_X12_refuse ml_X12_164 k_0.1 (hc := rfl) rfl (h1_0 hG) hl.1 rfl rfl (Nat.le_of_ble_eq_true rfl) dX12_pay_56 rfl rfl ⟨Nat.le_of_ble_eq_true rfl, Nat.le_of_ble_eq_true rfl⟩ ⟨Nat.le_refl _, Nat.le_refl _⟩) hS (fun x_20 iv_16 rv_17 H locs hG fa_18 fb_19 hp_15 hU hS => ?_)
          have hF1 := hF1.tr (m := ([16, 38], [])) fa_18 (by decide)
          have hF2 := hF2.tr (m := ([16, 38], [])) fb_19 (by decide)
          exact hret (⟨hG, hF1, hF2, sp_no (z := (-6)) (by unfold spPay; (repeat' split) <;> first | rfl | omega) (by decide) hp_15 (fun k => fa_18.arr 38 0 k (by decide))⟩) hU hS dX12_pay_59
        ·
          refine lv_aload_n hx hb dX12_pay_40 rfl (lv_at hl 0 rfl) ?_
          refine lv_iload_n hx hb dX12_pay_41 rfl (lv_at hl 1 rfl) ?_
          refine q_pi (q_runV (t := 0) (i := 0) (As := [.int cl]) (rest := []) C hU (c_X12_settledOf_x hG cl (by omega)) vm_X12_settledOf ml_X12_287 k_0.1 (hc := rfl) rfl (h1_0 hG) hl.1 rfl rfl (Nat.le_of_ble_eq_true rfl) dX12_pay_42 rfl rfl ⟨Nat.le_of_ble_eq_true rfl, Nat.le_of_ble_eq_true rfl⟩ ⟨Nat.le_refl _, Nat.le_refl _⟩) hS (fun x_22 H locs hp_21 hU hS => ?_)
          refine lv_iload_n hx hb dX12_pay_45 rfl (lv_at hl 3 rfl) ?_
          refine lv_iadd hx hb dX12_pay_46 ?_
          refine lv_topi (fun x_23 e_24 => ?_)
          have h46 := e_24
          rw [hp_21] at h46
          have t46 := congrArg Int32.toInt h46
          refine lv_ldcw (v := 99999) hx hb C.1.2.2.2.1 (C.1.2.2.2.2 _ ct_X12_293) dX12_pay_47 ?_
          refine b_icmp_le (tgt := 60) hx hb dX12_pay_50 (by decide) (fun c_25 => ?_) (fun c_25 => ?_)
          ·
            refine lv_aload_n hx hb dX12_pay_60 rfl (lv_at hl 0 rfl) ?_
            refine g_0_45 C hU hG (h1_0 hG) fl_X12_122 dX12_pay_61 ?_
            refine lv_iconst (v := 5) hx hb dX12_pay_64 (by decide) ?_
            refine lv_iload_n hx hb dX12_pay_65 rfl (lv_at hl 1 rfl) ?_
            refine lv_imul hx hb dX12_pay_66 ?_
            refine lv_topi (fun x_26 e_27 => ?_)
            have te_27 : x_26.toInt = 5 * (cl : Int32).toInt := by rw [e_27, fb_mulI (by rw [show (5 : Int32).toInt = 5 from by decide]; omega) (by rw [show (5 : Int32).toInt = 5 from by decide]; omega), show (5 : Int32).toInt = 5 from by decide]
            refine lv_iload_n hx hb dX12_pay_67 rfl (lv_at hl 2 rfl) ?_
            refine lv_iadd hx hb dX12_pay_68 ?_
            refine lv_topi (fun x_28 e_29 => ?_)
            have te_29 : x_28.toInt = (x_26 : Int32).toInt + (pp : Int32).toInt := by rw [e_29]; exact fb_addI (by omega) (by omega)
            refine lv_dup2_11 hx hb dX12_pay_69 rfl rfl ?_
            refine a_38 C hU hG (h1_38 hG) (x := x_28) (by omega) (by omega) dX12_pay_70 (fun x_30 e_31 => ?_)
            have te_31 := congrArg Int32.toInt e_31
            refine lv_iload_n hx hb dX12_pay_71 rfl (lv_at hl 3 rfl) ?_
            refine lv_iadd hx hb dX12_pay_72 ?_
            refine lv_topi (fun x_32 e_33 => ?_)
            refine s_38 C hU hS (h1_38 hG) (x := x_28) (by omega) (by omega) dX12_pay_73 (fun iv_34 H locs ei_35 hU hS => ?_)
            have hG : GI al iv_34 rv := by rw [ei_35]; exact hG.puti (show _ ∧ _ from ⟨(fb_rng _).1, Int.le_of_lt_add_one (fb_rng _).2⟩) (nsA (by decide) _)
            have hF1 : FR ([16, 38], []) iv iv_34 := by rw [ei_35]; exact hF1.put (Or.inl (by decide))
            refine lv_aload_n hx hb dX12_pay_74 rfl (lv_at hl 0 rfl) ?_
            refine lv_iload_n hx hb dX12_pay_75 rfl (lv_at hl 1 rfl) ?_
            refine q_pi (q_runV (t := 0) (i := 0) (As := [.int cl]) (rest := []) C hU (c_X12_settledOf_x hG cl (by omega)) vm_X12_settledOf ml_X12_287 k_0.1 (hc := rfl) rfl (h1_0 hG) hl.1 rfl rfl (Nat.le_of_ble_eq_true rfl) dX12_pay_76 rfl rfl ⟨Nat.le_of_ble_eq_true rfl, Nat.le_of_ble_eq_true rfl⟩ ⟨Nat.le_refl _, Nat.le_refl _⟩) hS (fun x_37 H locs hp_36 hU hS => ?_)
            exact hret (⟨hG, hF1, hF2, Or.inl ⟨(by unfold spPay; (repeat' split) <;> first | rfl | omega), hp_36, fun k => py_ok e_31 e_33 ei_35 (by omega) (by omega)⟩⟩) hU hS dX12_pay_79
          ·
            refine lv_aload_n hx hb dX12_pay_53 rfl (lv_at hl 0 rfl) ?_
            refine lv_bipush (v := (-6)) hx hb dX12_pay_54 (by decide) ?_
            refine q_fi (q_runV (t := 0) (i := 0) (As := [.int (-6)]) (rest := []) C hU (c_X12_refuse hG (-6) (by omega)) vm_X12_refuse ml_X12_164 k_0.1 (hc := rfl) rfl (h1_0 hG) hl.1 rfl rfl (Nat.le_of_ble_eq_true rfl) dX12_pay_56 rfl rfl ⟨Nat.le_of_ble_eq_true rfl, Nat.le_of_ble_eq_true rfl⟩ ⟨Nat.le_refl _, Nat.le_refl _⟩) hS (fun x_43 iv_39 rv_40 H locs hG fa_41 fb_42 hp_38 hU hS => ?_)
            have hF1 := hF1.tr (m := ([16, 38], [])) fa_41 (by decide)
            have hF2 := hF2.tr (m := ([16, 38], [])) fb_42 (by decide)
            exact hret (⟨hG, hF1, hF2, sp_no (z := (-6)) (by unfold spPay; (repeat' split) <;> first | rfl | omega) (by decide) hp_38 (fun k => fa_41.arr 38 0 k (by decide))⟩) hU hS dX12_pay_59
      ·
        refine lv_aload_n hx hb dX12_pay_26 rfl (lv_at hl 0 rfl) ?_
        refine lv_bipush (v := (-4)) hx hb dX12_pay_27 (by decide) ?_
        refine q_fi (q_runV (t := 0) (i := 0) (As := [.int (-4)]) (rest := []) C hU (c_X12_refuse hG (-4) (by omega)) vm_X12_refuse ml_X12_164 k_0.1 (hc := rfl) rfl (h1_0 hG) hl.1 rfl rfl (Nat.le_of_ble_eq_true rfl) dX12_pay_29 rfl rfl ⟨Nat.le_of_ble_eq_true rfl, Nat.le_of_ble_eq_true rfl⟩ ⟨Nat.le_refl _, Nat.le_refl _⟩) hS (fun x_49 iv_45 rv_46 H locs hG fa_47 fb_48 hp_44 hU hS => ?_)
        have hF1 := hF1.tr (m := ([16, 38], [])) fa_47 (by decide)
        have hF2 := hF2.tr (m := ([16, 38], [])) fb_48 (by decide)
        exact hret (⟨hG, hF1, hF2, sp_no (z := (-4)) (by unfold spPay; (repeat' split) <;> first | rfl | omega) (by decide) hp_44 (fun k => fa_47.arr 38 0 k (by decide))⟩) hU hS dX12_pay_32
    ·
      refine lv_aload_n hx hb dX12_pay_15 rfl (lv_at hl 0 rfl) ?_
      refine lv_iconst (v := (-1)) hx hb dX12_pay_16 (by decide) ?_
      refine q_fi (q_runV (t := 0) (i := 0) (As := [.int (-1)]) (rest := []) C hU (c_X12_refuse hG (-1) (by omega)) vm_X12_refuse ml_X12_164 k_0.1 (hc := rfl) rfl (h1_0 hG) hl.1 rfl rfl (Nat.le_of_ble_eq_true rfl) dX12_pay_17 rfl rfl ⟨Nat.le_of_ble_eq_true rfl, Nat.le_of_ble_eq_true rfl⟩ ⟨Nat.le_refl _, Nat.le_refl _⟩) hS (fun x_55 iv_51 rv_52 H locs hG fa_53 fb_54 hp_50 hU hS => ?_)
      have hF1 := hF1.tr (m := ([16, 38], [])) fa_53 (by decide)
      have hF2 := hF2.tr (m := ([16, 38], [])) fb_54 (by decide)
      exact hret (⟨hG, hF1, hF2, sp_no (z := (-1)) (by unfold spPay; (repeat' split) <;> first | rfl | omega) (by decide) hp_50 (fun k => fa_53.arr 38 0 k (by decide))⟩) hU hS dX12_pay_20
set_option maxHeartbeats 4000000 in
set_option maxRecDepth 100000 in
theorem c_X11_pay_x {l : Launch} {D : va_G} {cA : FieldType → ClassId} {sz : Nat} {al : Al} {iv : Iv} {rv : Rv} (hG : GI al iv rv) (cl : Int32) (pp : Int32) (v : Int32) (pre0 : BP iv rv) : Met l yX11_pay (wd yX11_pay cX11_pay 5 (some .int)) (rm 2) (PcW D cA sz al iv rv [.ref (al.2 49 0), .int cl, .int pp, .int v]) (QI D cA sz al (fI al ([51, 89], [(88, 3)]) iv rv (fun r iv' rv' => (spPay iv cl pp v = 0 ∧ r = iv' 88 cl.toNatClampNeg 3 ∧ (∀ i k : Nat, iv' 89 i k = (if i = cl.toNatClampNeg ∧ k = pp.toNatClampNeg then iv 89 cl.toNatClampNeg pp.toNatClampNeg + v else iv 89 i k)) ∧ (∀ k : Nat, iv' 88 k 3 = (if k = cl.toNatClampNeg then iv 88 cl.toNatClampNeg 3 + v else iv 88 k 3))) ∨ (spPay iv cl pp v ≠ 0 ∧ r = spPay iv cl pp v ∧ (∀ i k : Nat, iv' 89 i k = iv 89 i k) ∧ (∀ k : Nat, iv' 88 k 3 = iv 88 k 3))))) 0 0 (Aq sz) := by
  refine mk_i (by decide) (Nat.le_of_ble_eq_true rfl) rfl ?_
  intro p e s m args below meth c ls Q H locs C hU hS hl hret
  have hx := C.1.1
  have hb := C.1.2.1
  have hl : lv_has ls 5 [(0, .ref (al.2 49 0)), (1, .int cl), (2, .int pp), (3, .int v)] := hl
  have hG0 := hG
  have hn41 := congrArg Int32.toInt pre0.1.1
  have hF1 : FR ([51, 89], [(88, 3)]) iv iv := FR.rf
  have hF2 : FR ([51, 89], [(88, 3)]) rv rv := FR.rf
  have km6 : ((-6) : Int32).toInt = -6 := by decide
  have km4 : ((-4) : Int32).toInt = -4 := by decide
  have km1 : ((-1) : Int32).toInt = -1 := by decide
  have k1 : (1 : Int32).toInt = 1 := by decide
  have k5 : (5 : Int32).toInt = 5 := by decide
  have k9999 : (9999 : Int32).toInt = 9999 := by decide
  have k99999 : (99999 : Int32).toInt = 99999 := by decide
  refine lv_aload_n hx hb dX11_pay_0 rfl (lv_at hl 0 rfl) ?_
  refine g_49_5 C hU hG (h1_49 hG) fl_X11_47 dX11_pay_1 ?_
  refine lv_iload_n hx hb dX11_pay_4 rfl (lv_at hl 1 rfl) ?_
  refine q_pr (q_runV (t := 84) (i := 0) (As := [.int cl]) (rest := []) C hU (c_X3_find hG cl ) vm_X3_find ml_X11_261 k_84.1 (hc := rfl) rfl (h1_84 hG) hl.1 rfl rfl (Nat.le_of_ble_eq_true rfl) dX11_pay_5 rfl rfl ⟨Nat.le_of_ble_eq_true rfl, Nat.le_of_ble_eq_true rfl⟩ ⟨Nat.le_refl _, Nat.le_refl _⟩) hS (fun r_2 H locs hp_1 hU hS => ?_)
  have hb_3 := hp_1.1
  refine b_astore (lv' := [(4, rfv al 88 r_2), (0, .ref (al.2 49 0)), (1, .int cl), (2, .int pp), (3, .int v)]) hx hb dX11_pay_8 hl (by decide) rfl (fun ls hl => ?_)
  refine b_aload (al := al) (t' := 88) (r := r_2) hx hb dX11_pay_10 (lv_at hl 0 rfl) ?_
  refine b_ifnull (tgt := 23) hx hb dX11_pay_12 (by decide) (fun ej_6 => ?_) (fun j_5 ej_6 => ?_)
  ·
    subst ej_6
    have hl : lv_has ls 5 [(4, rfv al 88 none), (0, .ref (al.2 49 0)), (1, .int cl), (2, .int pp), (3, .int v)] := hl
    have hq4 := hp_1.2.2 rfl
    refine lv_aload_n hx hb dX11_pay_23 rfl (lv_at hl 1 rfl) ?_
    refine lv_iconst (v := (-1)) hx hb dX11_pay_24 (by decide) ?_
    refine q_fi (q_runV (t := 49) (i := 0) (As := [.int (-1)]) (rest := []) C hU (c_X11_refuse hG (-1) (by omega)) vm_X11_refuse ml_X11_77 k_49.1 (hc := rfl) rfl (h1_49 hG) hl.1 rfl rfl (Nat.le_of_ble_eq_true rfl) dX11_pay_25 rfl rfl ⟨Nat.le_of_ble_eq_true rfl, Nat.le_of_ble_eq_true rfl⟩ ⟨Nat.le_refl _, Nat.le_refl _⟩) hS (fun x_12 iv_8 rv_9 H locs hG fa_10 fb_11 hp_7 hU hS => ?_)
    have hF1 := hF1.tr (m := ([51, 89], [(88, 3)])) fa_10 (by decide)
    have hF2 := hF2.tr (m := ([51, 89], [(88, 3)])) fb_11 (by decide)
    exact hret (⟨hG, hF1, hF2, sp_no (z := (-1)) (by unfold spPay; (repeat' split) <;> first | rfl | omega) (by decide) hp_7 (⟨fun i k => fa_10.arr 89 i k (by decide), fun k => fa_10 88 k 3 (by decide)⟩)⟩) hU hS dX11_pay_28
  ·
    subst ej_6
    have hl : lv_has ls 5 [(4, .ref (al.2 88 j_5)), (0, .ref (al.2 49 0)), (1, .int cl), (2, .int pp), (3, .int v)] := hl
    have hb_13 : j_5 < al.1 88 := hb_3 j_5 rfl
    have hq4 := hp_1.2.1 _ rfl
    have hn4 := hq4.1
    rw [clamp_n] at hn4
    refine lv_iconst (v := 5) hx hb dX11_pay_15 (by decide) ?_
    refine lv_iload_n hx hb dX11_pay_16 rfl (lv_at hl 3 rfl) ?_
    refine q_pi (q_runS (As := [.int 5, .int pp]) (rest := []) C hU (c_X11_isOneOf  5 pp ) sm_X11_isOneOf ml_X11_85 hl.1 rfl rfl (Nat.le_of_ble_eq_true rfl) dX11_pay_17 rfl rfl ⟨Nat.le_of_ble_eq_true rfl, Nat.le_of_ble_eq_true rfl⟩ ⟨Nat.le_refl _, Nat.le_refl _⟩) hS (fun x_15 H locs hp_14 hU hS => ?_)
    refine b_if_ne (tgt := 29) hx hb dX11_pay_20 (by decide) (fun c_16 => ?_) (fun c_16 => ?_)
    ·
      refine lv_iload_n hx hb dX11_pay_29 rfl (lv_at hl 4 rfl) ?_
      refine lv_iconst (v := 1) hx hb dX11_pay_30 (by decide) ?_
      refine b_icmp_ge (tgt := 41) hx hb dX11_pay_31 (by decide) (fun c_17 => ?_) (fun c_17 => ?_)
      ·
        refine lv_iload_n hx hb dX11_pay_41 rfl (lv_at hl 4 rfl) ?_
        refine lv_sipush (v := 9999) hx hb dX11_pay_42 (by decide) ?_
        refine b_icmp_gt (tgt := 61) hx hb dX11_pay_45 (by decide) (fun c_18 => ?_) (fun c_18 => ?_)
        ·
          refine lv_aload_n hx hb dX11_pay_61 rfl (lv_at hl 1 rfl) ?_
          refine lv_bipush (v := (-6)) hx hb dX11_pay_62 (by decide) ?_
          refine q_fi (q_runV (t := 49) (i := 0) (As := [.int (-6)]) (rest := []) C hU (c_X11_refuse hG (-6) (by omega)) vm_X11_refuse ml_X11_77 k_49.1 (hc := rfl) rfl (h1_49 hG) hl.1 rfl rfl (Nat.le_of_ble_eq_true rfl) dX11_pay_64 rfl rfl ⟨Nat.le_of_ble_eq_true rfl, Nat.le_of_ble_eq_true rfl⟩ ⟨Nat.le_refl _, Nat.le_refl _⟩) hS (fun x_24 iv_20 rv_21 H locs hG fa_22 fb_23 hp_19 hU hS => ?_)
          have hF1 := hF1.tr (m := ([51, 89], [(88, 3)])) fa_22 (by decide)
          have hF2 := hF2.tr (m := ([51, 89], [(88, 3)])) fb_23 (by decide)
          exact hret (⟨hG, hF1, hF2, sp_no (z := (-6)) (by unfold spPay; (repeat' split) <;> first | rfl | omega) (by decide) hp_19 (⟨fun i k => fa_22.arr 89 i k (by decide), fun k => fa_22 88 k 3 (by decide)⟩)⟩) hU hS dX11_pay_67
        ·
          refine lv_aload hx hb dX11_pay_48 (lv_at hl 0 rfl) ?_
          refine g_88_3 C hU hG hb_13 fl_X11_282 dX11_pay_50 (fun x_25 e_26 => ?_)
          have te_26 := congrArg Int32.toInt e_26
          refine lv_iload_n hx hb dX11_pay_53 rfl (lv_at hl 4 rfl) ?_
          refine lv_iadd hx hb dX11_pay_54 ?_
          refine lv_topi (fun x_27 e_28 => ?_)
          have h54 := e_28
          rw [e_26, hq4.1, pre0.2.2.1 cl.toNatClampNeg (by have z := ix_nat (x := cl) (by omega); omega)] at h54
          have t54 := congrArg Int32.toInt h54
          refine lv_ldcw (v := 99999) hx hb C.1.2.2.2.1 (C.1.2.2.2.2 _ ct_X11_288) dX11_pay_55 ?_
          refine b_icmp_le (tgt := 68) hx hb dX11_pay_58 (by decide) (fun c_29 => ?_) (fun c_29 => ?_)
          ·
            refine lv_aload hx hb dX11_pay_68 (lv_at hl 0 rfl) ?_
            refine g_88_2 C hU hG hb_13 fl_X11_289 dX11_pay_70 (fun hb_30 => ?_)
            refine lv_iload_n hx hb dX11_pay_73 rfl (lv_at hl 3 rfl) ?_
            refine lv_dup2_11 hx hb dX11_pay_74 rfl rfl ?_
            refine a_89 C hU hG hb_30 (x := pp) (by omega) (by omega) dX11_pay_75 (fun x_31 e_32 => ?_)
            have te_32 := congrArg Int32.toInt e_32
            refine lv_iload_n hx hb dX11_pay_76 rfl (lv_at hl 4 rfl) ?_
            refine lv_iadd hx hb dX11_pay_77 ?_
            refine lv_topi (fun x_33 e_34 => ?_)
            refine s_89 C hU hS hb_30 (x := pp) (by omega) (by omega) dX11_pay_78 (fun iv_35 H locs ei_36 hU hS => ?_)
            have hG : GI al iv_35 rv := by rw [ei_36]; exact hG.puti (show _ ∧ _ from ⟨(fb_rng _).1, Int.le_of_lt_add_one (fb_rng _).2⟩) (nsA (by decide) _)
            have hF1 : FR ([51, 89], [(88, 3)]) iv iv_35 := by rw [ei_36]; exact hF1.put (Or.inl (by decide))
            refine lv_aload hx hb dX11_pay_79 (lv_at hl 0 rfl) ?_
            refine lv_dup hx hb dX11_pay_81 rfl ?_
            refine g_88_3 C hU hG hb_13 fl_X11_282 dX11_pay_82 (fun x_37 e_38 => ?_)
            have te_38 := congrArg Int32.toInt e_38
            refine lv_iload_n hx hb dX11_pay_85 rfl (lv_at hl 4 rfl) ?_
            refine lv_iadd hx hb dX11_pay_86 ?_
            refine lv_topi (fun x_39 e_40 => ?_)
            refine p_88_3 C hU hS hb_13 fl_X11_282 dX11_pay_87 (fun iv_41 H locs ei_42 hU hS => ?_)
            have hG : GI al iv_41 rv := by rw [ei_42]; exact hG.puti (show _ ∧ _ from ⟨(fb_rng _).1, Int.le_of_lt_add_one (fb_rng _).2⟩) (nsF (by decide))
            have hF1 : FR ([51, 89], [(88, 3)]) iv iv_41 := by rw [ei_42]; exact hF1.put (by decide)
            refine lv_aload hx hb dX11_pay_90 (lv_at hl 0 rfl) ?_
            refine g_88_3 C hU hG hb_13 fl_X11_282 dX11_pay_92 (fun x_43 e_44 => ?_)
            have te_44 := congrArg Int32.toInt e_44
            exact hret (⟨hG, hF1, hF2, Or.inl ⟨(by unfold spPay; (repeat' split) <;> first | rfl | omega), by rw [e_44, hq4.1], fun i k => by rw [ei_42, up3_ne (fun z => absurd z.1 (by decide)), ei_36, hq4.1]; exact py_x e_32 e_34 hq4.1, fun k => by rw [ei_42, hq4.1]; exact py_s e_38 e_40 ei_36 hq4.1⟩⟩) hU hS dX11_pay_95
          ·
            refine lv_aload_n hx hb dX11_pay_61 rfl (lv_at hl 1 rfl) ?_
            refine lv_bipush (v := (-6)) hx hb dX11_pay_62 (by decide) ?_
            refine q_fi (q_runV (t := 49) (i := 0) (As := [.int (-6)]) (rest := []) C hU (c_X11_refuse hG (-6) (by omega)) vm_X11_refuse ml_X11_77 k_49.1 (hc := rfl) rfl (h1_49 hG) hl.1 rfl rfl (Nat.le_of_ble_eq_true rfl) dX11_pay_64 rfl rfl ⟨Nat.le_of_ble_eq_true rfl, Nat.le_of_ble_eq_true rfl⟩ ⟨Nat.le_refl _, Nat.le_refl _⟩) hS (fun x_50 iv_46 rv_47 H locs hG fa_48 fb_49 hp_45 hU hS => ?_)
            have hF1 := hF1.tr (m := ([51, 89], [(88, 3)])) fa_48 (by decide)
            have hF2 := hF2.tr (m := ([51, 89], [(88, 3)])) fb_49 (by decide)
            exact hret (⟨hG, hF1, hF2, sp_no (z := (-6)) (by unfold spPay; (repeat' split) <;> first | rfl | omega) (by decide) hp_45 (⟨fun i k => fa_48.arr 89 i k (by decide), fun k => fa_48 88 k 3 (by decide)⟩)⟩) hU hS dX11_pay_67
      ·
        refine lv_aload_n hx hb dX11_pay_34 rfl (lv_at hl 1 rfl) ?_
        refine lv_bipush (v := (-4)) hx hb dX11_pay_35 (by decide) ?_
        refine q_fi (q_runV (t := 49) (i := 0) (As := [.int (-4)]) (rest := []) C hU (c_X11_refuse hG (-4) (by omega)) vm_X11_refuse ml_X11_77 k_49.1 (hc := rfl) rfl (h1_49 hG) hl.1 rfl rfl (Nat.le_of_ble_eq_true rfl) dX11_pay_37 rfl rfl ⟨Nat.le_of_ble_eq_true rfl, Nat.le_of_ble_eq_true rfl⟩ ⟨Nat.le_refl _, Nat.le_refl _⟩) hS (fun x_56 iv_52 rv_53 H locs hG fa_54 fb_55 hp_51 hU hS => ?_)
        have hF1 := hF1.tr (m := ([51, 89], [(88, 3)])) fa_54 (by decide)
        have hF2 := hF2.tr (m := ([51, 89], [(88, 3)])) fb_55 (by decide)
        exact hret (⟨hG, hF1, hF2, sp_no (z := (-4)) (by unfold spPay; (repeat' split) <;> first | rfl | omega) (by decide) hp_51 (⟨fun i k => fa_54.arr 89 i k (by decide), fun k => fa_54 88 k 3 (by decide)⟩)⟩) hU hS dX11_pay_40
    ·
      refine lv_aload_n hx hb dX11_pay_23 rfl (lv_at hl 1 rfl) ?_
      refine lv_iconst (v := (-1)) hx hb dX11_pay_24 (by decide) ?_
      refine q_fi (q_runV (t := 49) (i := 0) (As := [.int (-1)]) (rest := []) C hU (c_X11_refuse hG (-1) (by omega)) vm_X11_refuse ml_X11_77 k_49.1 (hc := rfl) rfl (h1_49 hG) hl.1 rfl rfl (Nat.le_of_ble_eq_true rfl) dX11_pay_25 rfl rfl ⟨Nat.le_of_ble_eq_true rfl, Nat.le_of_ble_eq_true rfl⟩ ⟨Nat.le_refl _, Nat.le_refl _⟩) hS (fun x_62 iv_58 rv_59 H locs hG fa_60 fb_61 hp_57 hU hS => ?_)
      have hF1 := hF1.tr (m := ([51, 89], [(88, 3)])) fa_60 (by decide)
      have hF2 := hF2.tr (m := ([51, 89], [(88, 3)])) fb_61 (by decide)
      exact hret (⟨hG, hF1, hF2, sp_no (z := (-1)) (by unfold spPay; (repeat' split) <;> first | rfl | omega) (by decide) hp_57 (⟨fun i k => fa_60.arr 89 i k (by decide), fun k => fa_60 88 k 3 (by decide)⟩)⟩) hU hS dX11_pay_28
end
section
theorem Clegn.s_leg {al al1 : Al} {iv iv1 iv2 : Iv} {rv rv1 rv2 : Rv} {a b pp cc_ lv_ rr r1 r2 : Int32} (hG : GI al iv rv) (hClegn : Clegn iv rv) (p1 : (spLeg a b pp cc_ lv_ rr (iv 57 0 1).toInt = 0 ∧ r1.toInt = (iv 57 0 1).toInt ∧ (iv1 57 0 1).toInt = (iv 57 0 1).toInt + 1 ∧ ∃ (aa : Nat) (siz : Int32), siz.toInt = al.1 62 + 1 ∧ al1 = grow al 62 aa ∧ iv1 = legIv iv (al.1 62) r1 pp cc_ lv_ rr siz ∧ rv1 = legRv rv (al.1 62) a.toNatClampNeg b.toNatClampNeg) ∨ (spLeg a b pp cc_ lv_ rr (iv 57 0 1).toInt ≠ 0 ∧ r1 = spLeg a b pp cc_ lv_ rr (iv 57 0 1).toInt ∧ iv1 57 0 1 = iv 57 0 1)) (p2 : (spLeg a b pp cc_ lv_ rr (iv1 0 0 6).toInt = 0 ∧ r2.toInt = (iv1 0 0 6).toInt ∧ (iv2 0 0 6).toInt = (iv1 0 0 6).toInt + 1 ∧ lgM iv1 iv2 a b pp cc_ lv_ rr) ∨ (spLeg a b pp cc_ lv_ rr (iv1 0 0 6).toInt ≠ 0 ∧ r2 = spLeg a b pp cc_ lv_ rr (iv1 0 0 6).toInt ∧ iv2 0 0 6 = iv1 0 0 6 ∧ lgK iv1 iv2)) (x1 : EX ([51, 58], [(57, 1)]) al iv rv al1 iv1 rv1) (f2 : FR ([16, 5, 6, 7, 8, 9, 10], [(0, 6)]) iv1 iv2) (g2 : FR ([16, 5, 6, 7, 8, 9, 10], [(0, 6)]) rv1 rv2) : Clegn iv2 rv2 := by
  have e6 : (iv1 0 0 6).toInt = (iv 57 0 1).toInt := by rw [(x1.2.2 0 0 6 (h1_0 hG) (by decide)).1]; exact congrArg Int32.toInt hClegn
  have n := hG.2.2.2.1.2
  have c57 := f2 57 0 1 (by decide)
  rw [e6] at p2
  unfold Clegn
  rcases two_cases p1 p2 with ⟨o, ⟨q1, q2, aa, siz, hs, ha, hi, hr⟩, ⟨s1, s2, M⟩⟩ | ⟨o, ⟨q1, q2⟩, ⟨s1, s2, M⟩⟩
  · exact (fa_eq _ _).mpr (by rw [c57]; omega)
  · exact (fa_eq _ _).mpr (by rw [c57, q2, s2]; omega)
theorem Ctkn.s_traveller {al al1 : Al} {iv iv1 iv2 : Iv} {rv rv1 rv2 : Rv} {lg r1 r2 : Int32} (hG : GI al iv rv) (hClegn : Clegn iv rv) (hCtkn : Ctkn iv rv) (p1 : (spTrav lg (iv 57 0 1).toInt (iv 63 0 1).toInt = 0 ∧ r1.toInt = (iv 63 0 1).toInt ∧ (iv1 63 0 1).toInt = (iv 63 0 1).toInt + 1 ∧ ∃ (aa a6 a7 : Nat) (siz : Int32), siz.toInt = al.1 65 + 1 ∧ al1 = grow (grow (grow al 65 aa) 66 a6) 67 a7 ∧ iv1 = tickIv iv (al.1 65) r1 siz ∧ rv1 = tickRv rv (al.1 65) lg.toNatClampNeg) ∨ (spTrav lg (iv 57 0 1).toInt (iv 63 0 1).toInt ≠ 0 ∧ r1 = spTrav lg (iv 57 0 1).toInt (iv 63 0 1).toInt ∧ iv1 63 0 1 = iv 63 0 1)) (p2 : (spTrav lg (iv1 0 0 6).toInt (iv1 0 0 20).toInt = 0 ∧ r2.toInt = (iv1 0 0 20).toInt ∧ (iv2 0 0 20).toInt = (iv1 0 0 20).toInt + 1 ∧ (∀ k : Nat, iv2 18 0 k = (if k = 4 * (iv1 0 0 20).toNatClampNeg then lg else iv1 18 0 k) ∧ iv2 19 0 k = (if k = (iv1 0 0 20).toNatClampNeg then 1 else iv1 19 0 k))) ∨ (spTrav lg (iv1 0 0 6).toInt (iv1 0 0 20).toInt ≠ 0 ∧ r2 = spTrav lg (iv1 0 0 6).toInt (iv1 0 0 20).toInt ∧ iv2 0 0 20 = iv1 0 0 20 ∧ (∀ k : Nat, iv2 18 0 k = iv1 18 0 k ∧ iv2 19 0 k = iv1 19 0 k))) (x1 : EX ([51, 64], [(63, 1)]) al iv rv al1 iv1 rv1) (f2 : FR ([16, 18, 19], [(0, 20)]) iv1 iv2) (g2 : FR ([16, 18, 19], [(0, 20)]) rv1 rv2) : Ctkn iv2 rv2 := by
  have e6 : (iv1 0 0 6).toInt = (iv 57 0 1).toInt := by rw [(x1.2.2 0 0 6 (h1_0 hG) (by decide)).1]; exact congrArg Int32.toInt hClegn
  have e20 : (iv1 0 0 20).toInt = (iv 63 0 1).toInt := by rw [(x1.2.2 0 0 20 (h1_0 hG) (by decide)).1]; exact congrArg Int32.toInt hCtkn
  have n := hG.2.2.2.2.1.2
  have c63 := f2 63 0 1 (by decide)
  have N : (iv1 0 0 20).toNatClampNeg = al.1 65 := by rw [clamp_n]; omega
  rw [e6, e20, N] at p2
  unfold Ctkn
  rcases two_cases p1 p2 with ⟨o, ⟨q1, q2, aa, a6, a7, siz, hs, ha, hi, hr⟩, ⟨s1, s2, M⟩⟩ | ⟨o, ⟨q1, q2⟩, ⟨s1, s2, M⟩⟩
  · exact (fa_eq _ _).mpr (by rw [c63]; omega)
  · exact (fa_eq _ _).mpr (by rw [c63, q2, s2]; omega)
theorem Cclm.s_traveller {al al1 : Al} {iv iv1 iv2 : Iv} {rv rv1 rv2 : Rv} {lg r1 r2 : Int32} (hG : GI al iv rv) (hClegn : Clegn iv rv) (hCtkn : Ctkn iv rv) (hCclm : Cclm iv rv) (p1 : (spTrav lg (iv 57 0 1).toInt (iv 63 0 1).toInt = 0 ∧ r1.toInt = (iv 63 0 1).toInt ∧ (iv1 63 0 1).toInt = (iv 63 0 1).toInt + 1 ∧ ∃ (aa a6 a7 : Nat) (siz : Int32), siz.toInt = al.1 65 + 1 ∧ al1 = grow (grow (grow al 65 aa) 66 a6) 67 a7 ∧ iv1 = tickIv iv (al.1 65) r1 siz ∧ rv1 = tickRv rv (al.1 65) lg.toNatClampNeg) ∨ (spTrav lg (iv 57 0 1).toInt (iv 63 0 1).toInt ≠ 0 ∧ r1 = spTrav lg (iv 57 0 1).toInt (iv 63 0 1).toInt ∧ iv1 63 0 1 = iv 63 0 1)) (p2 : (spTrav lg (iv1 0 0 6).toInt (iv1 0 0 20).toInt = 0 ∧ r2.toInt = (iv1 0 0 20).toInt ∧ (iv2 0 0 20).toInt = (iv1 0 0 20).toInt + 1 ∧ (∀ k : Nat, iv2 18 0 k = (if k = 4 * (iv1 0 0 20).toNatClampNeg then lg else iv1 18 0 k) ∧ iv2 19 0 k = (if k = (iv1 0 0 20).toNatClampNeg then 1 else iv1 19 0 k))) ∨ (spTrav lg (iv1 0 0 6).toInt (iv1 0 0 20).toInt ≠ 0 ∧ r2 = spTrav lg (iv1 0 0 6).toInt (iv1 0 0 20).toInt ∧ iv2 0 0 20 = iv1 0 0 20 ∧ (∀ k : Nat, iv2 18 0 k = iv1 18 0 k ∧ iv2 19 0 k = iv1 19 0 k))) (x1 : EX ([51, 64], [(63, 1)]) al iv rv al1 iv1 rv1) (f2 : FR ([16, 18, 19], [(0, 20)]) iv1 iv2) (g2 : FR ([16, 18, 19], [(0, 20)]) rv1 rv2) : Cclm iv2 rv2 := by
  have e6 : (iv1 0 0 6).toInt = (iv 57 0 1).toInt := by rw [(x1.2.2 0 0 6 (h1_0 hG) (by decide)).1]; exact congrArg Int32.toInt hClegn
  have e20 : (iv1 0 0 20).toInt = (iv 63 0 1).toInt := by rw [(x1.2.2 0 0 20 (h1_0 hG) (by decide)).1]; exact congrArg Int32.toInt hCtkn
  have n := hG.2.2.2.2.1.2
  have c63 := f2 63 0 1 (by decide)
  have N : (iv1 0 0 20).toNatClampNeg = al.1 65 := by rw [clamp_n]; omega
  rw [e6, e20, N] at p2
  have e84 : iv2 84 0 1 = iv 84 0 1 := by rw [f2 84 0 1 (by decide), (x1.2.2 84 0 1 (h1_84 hG) (by decide)).1]
  have m35 : ∀ k, iv2 35 0 k = iv 35 0 k := fun k => by rw [f2.arr 35 0 k (by decide), (x1.2.2 35 0 k (h1_35 hG) (MD.no (by decide))).1]
  have n8 := hG.2.2.2.2.2.1.2
  have k20 := congrArg Int32.toInt hCtkn
  have k41 := congrArg Int32.toInt hCclm.1
  refine ⟨by rw [e84, f2 0 0 41 (by decide), (x1.2.2 0 0 41 (h1_0 hG) (by decide)).1]; exact hCclm.1, fun c hc => ?_, fun t ht => ?_⟩
  · rw [e84] at hc
    rw [m35, f2.arr 36 0 c (by decide), (x1.2.2 36 0 c (h1_36 hG) (MD.no (by decide))).1, g2 88 c 0 (by decide), (x1.2.2 88 c 0 (by omega) (by decide)).2, f2 88 c 1 (by decide), (x1.2.2 88 c 1 (by omega) (by decide)).1]
    exact hCclm.2.1 c hc
  · rw [e84]
    simp only [m35]
    have old : ∀ t, t < al.1 65 → (¬ (iv2 65 t 6).toInt = 0 ↔ ∃ c : Nat, (c : Int) < (iv 84 0 1).toInt ∧ (iv 35 0 c).toNatClampNeg = t) := fun t ht => by
      rw [f2 65 t 6 (by decide), (x1.2.2 65 t 6 ht (by decide)).1]; exact hCclm.2.2 t (by omega)
    rw [c63] at ht
    rcases two_cases p1 p2 with ⟨o, ⟨q1, q2, aa, a6, a7, siz, hs, ha, hi, hr⟩, ⟨s1, s2, M⟩⟩ | ⟨o, ⟨q1, q2⟩, ⟨s1, s2, M⟩⟩
    · rw [q2] at ht
      by_cases z : t = al.1 65
      · have w : iv2 65 t 6 = 0 := by rw [f2 65 t 6 (by decide), hi, z]; simp [tickIv, up3, clr]
        rw [w]
        refine ⟨fun y => absurd (show (0 : Int32).toInt = 0 by decide) y, fun ⟨c, h1, h2⟩ => ?_⟩
        exfalso
        have own := hG.2.2.2.2.2.2.2.2.2.2.1 c (by omega)
        rw [z] at h2
        have k : (iv 35 0 c).toNatClampNeg = (iv 35 0 c).toInt.toNat := clamp_n
        have b41 := le41 hG
        have r35 : 0 ≤ (iv 35 0 c).toInt ∧ (iv 35 0 c).toInt ≤ 19 := hG.1 35 0 c (h1_35 hG) (show c < 30 by omega)
        omega
      · exact old t (by omega)
    · rw [q2] at ht; exact old t (by omega)
theorem Cday.s_days {al al1 : Al} {iv iv1 iv2 : Iv} {rv rv1 rv2 : Rv} {n : Int32} (hG : GI al iv rv) (hCday : Cday iv rv) (p1 : (iv1 49 0 9).toInt = dayF n.toInt (iv 49 0 9).toInt) (p2 : (iv2 0 0 0).toInt = dayF n.toInt (iv1 0 0 0).toInt) (x1 : EX ([51], [(49, 9)]) al iv rv al1 iv1 rv1) (f2 : FR ([16], [(0, 0)]) iv1 iv2) (g2 : FR ([16], [(0, 0)]) rv1 rv2) : Cday iv2 rv2 := by
  have a0 := (x1.2.2 0 0 0 (h1_0 hG) (by decide)).1
  have a9 := f2 49 0 9 (by decide)
  unfold Cday
  have z : iv 0 0 0 = iv 49 0 9 := hCday
  exact (fa_eq _ _).mpr (by rw [p2, a9, p1, a0, z])
theorem Cclm.s_claim {al al1 : Al} {iv iv1 iv2 : Iv} {rv rv1 rv2 : Rv} {tt r1 r2 : Int32} (hG : GI al iv rv) (hCday : Cday iv rv) (hCtkn : Ctkn iv rv) (hCclm : Cclm iv rv) (p1 : (spClaim iv tt = 0 ∧ r1.toInt = (iv 84 0 1).toInt ∧ (iv1 84 0 1).toInt = (iv 84 0 1).toInt + 1 ∧ ∃ (aa a9 : Nat) (siz : Int32), siz.toInt = al.1 88 + 1 ∧ al1 = grow (grow al 88 aa) 89 a9 ∧ iv1 = claimIv iv (al.1 88) tt.toNatClampNeg (iv 49 0 9) siz ∧ rv1 = claimRv rv (al.1 88) tt.toNatClampNeg) ∨ (spClaim iv tt ≠ 0 ∧ r1 = spClaim iv tt ∧ iv1 84 0 1 = iv 84 0 1 ∧ (∀ k : Nat, iv1 65 k 6 = iv 65 k 6))) (p2 : (spClaim iv1 tt = 0 ∧ r2.toInt = (iv1 0 0 41).toInt ∧ (iv2 0 0 41).toInt = (iv1 0 0 41).toInt + 1 ∧ (∀ k : Nat, iv2 35 0 k = (if k = (iv1 0 0 41).toNatClampNeg then tt else iv1 35 0 k) ∧ iv2 36 0 k = (if k = (iv1 0 0 41).toNatClampNeg then iv1 0 0 0 else iv1 36 0 k))) ∨ (spClaim iv1 tt ≠ 0 ∧ r2 = spClaim iv1 tt ∧ iv2 0 0 41 = iv1 0 0 41 ∧ (∀ k : Nat, iv2 35 0 k = iv1 35 0 k ∧ iv2 36 0 k = iv1 36 0 k))) (x1 : EX ([51, 85], [(84, 1), (65, 6)]) al iv rv al1 iv1 rv1) (f2 : FR ([16, 35, 36], [(0, 41)]) iv1 iv2) (g2 : FR ([16, 35, 36], [(0, 41)]) rv1 rv2) : Cclm iv2 rv2 := by
  have ma := ma_ex hG x1 (by decide)
  rw [spClaim_m ma] at p2
  have eN : iv1 0 0 41 = iv 84 0 1 := by rw [ma 0 41 (by decide)]; exact hCclm.1
  have n := hG.2.2.2.2.2.1.2
  have N : (iv 84 0 1).toNatClampNeg = al.1 88 := by rw [clamp_n]; omega
  rw [eN, N] at p2
  have c84 := f2 84 0 1 (by decide)
  have m5 : ∀ k, iv1 35 0 k = iv 35 0 k := fun k => ma 35 k (by decide)
  have m6 : ∀ k, iv1 36 0 k = iv 36 0 k := fun k => ma 36 k (by decide)
  have eD : iv1 0 0 0 = iv 49 0 9 := by rw [ma 0 0 (by decide)]; exact hCday
  have c63 : iv2 63 0 1 = iv 63 0 1 := by rw [f2 63 0 1 (by decide), (x1.2.2 63 0 1 (h1_63 hG) (by decide)).1]
  have n5 := hG.2.2.2.2.1.2
  have xo : ∀ c f, c < al.1 88 → iv2 88 c f = iv 88 c f ∧ rv2 88 c f = rv 88 c f := fun c f hc => by
    rw [f2.arr 88 c f (by decide), g2.arr 88 c f (by decide)]; exact x1.2.2 88 c f hc (MD.no (by decide))
  rcases two_cases p1 p2 with ⟨o, ⟨q1, q2, aa, a9, siz, hs, ha, hi, hr⟩, ⟨s1, s2, M⟩⟩ | ⟨o, ⟨q1, q2, q3⟩, ⟨s1, s2, M⟩⟩
  · have w : claimIv iv (al.1 88) tt.toNatClampNeg (iv 49 0 9) siz 88 (al.1 88) 1 = iv 49 0 9 := by simp [claimIv, up3, clr]
    have wr : claimRv rv (al.1 88) tt.toNatClampNeg 88 (al.1 88) 0 = some tt.toNatClampNeg := by simp [claimRv, up3, clr]
    have w6 : ∀ t, claimIv iv (al.1 88) tt.toNatClampNeg (iv 49 0 9) siz 65 t 6 = if t = tt.toNatClampNeg then 1 else iv 65 t 6 := fun t => by
      by_cases q : t = tt.toNatClampNeg <;> simp [claimIv, up3, clr, q]
    rw [← hi] at w w6
    rw [← hr] at wr
    have mN := M (al.1 88)
    rw [if_pos rfl, if_pos rfl] at mN
    have mo : ∀ c, ¬ c = al.1 88 → iv2 35 0 c = iv 35 0 c ∧ iv2 36 0 c = iv 36 0 c := fun c hc => by
      have := M c
      rw [if_neg hc, if_neg hc, m5, m6] at this; exact this
    refine ⟨(fa_eq _ _).mpr (by rw [c84]; omega), fun c hc => ?_, fun t ht => ?_⟩
    · rw [c84, q2] at hc
      by_cases z : c = al.1 88
      · rw [z, mN.1, mN.2, eD, g2.arr 88 _ 0 (by decide), wr, f2.arr 88 _ 1 (by decide), w]; exact ⟨rfl, rfl⟩
      · rw [(mo c z).1, (mo c z).2, (xo c 0 (by omega)).2, (xo c 1 (by omega)).1]; exact hCclm.2.1 c (by omega)
    · rw [c63] at ht
      rw [c84, f2 65 t 6 (by decide), w6]
      by_cases z : t = tt.toNatClampNeg
      · rw [if_pos z]
        exact ⟨fun _ => ⟨al.1 88, by omega, by rw [mN.1, z]⟩, fun _ => by decide⟩
      · rw [if_neg z, hCclm.2.2 t ht]
        constructor
        · rintro ⟨c, h1, h2⟩
          exact ⟨c, by omega, by rw [(mo c (by omega)).1]; exact h2⟩
        · rintro ⟨c, h1, h2⟩
          by_cases y : c = al.1 88
          · rw [y, mN.1] at h2; exact absurd h2.symm z
          · exact ⟨c, by omega, by rw [← (mo c y).1]; exact h2⟩
  · refine ⟨by rw [c84, q2, s2], fun c hc => ?_, fun t ht => ?_⟩
    · rw [c84, q2] at hc
      rw [(M c).1, (M c).2, m5, m6, (xo c 0 (by omega)).2, (xo c 1 (by omega)).1]; exact hCclm.2.1 c hc
    · rw [c63] at ht
      rw [c84, q2, f2 65 t 6 (by decide), q3]
      have mm : ∀ c, iv2 35 0 c = iv 35 0 c := fun c => by rw [(M c).1, m5]
      simp only [mm]
      exact hCclm.2.2 t ht
theorem Cpay.s_claim {al al1 : Al} {iv iv1 iv2 : Iv} {rv rv1 rv2 : Rv} {tt r1 r2 : Int32} (hG : GI al iv rv) (hCclm : Cclm iv rv) (hCpay : Cpay iv rv) (p1 : (spClaim iv tt = 0 ∧ r1.toInt = (iv 84 0 1).toInt ∧ (iv1 84 0 1).toInt = (iv 84 0 1).toInt + 1 ∧ ∃ (aa a9 : Nat) (siz : Int32), siz.toInt = al.1 88 + 1 ∧ al1 = grow (grow al 88 aa) 89 a9 ∧ iv1 = claimIv iv (al.1 88) tt.toNatClampNeg (iv 49 0 9) siz ∧ rv1 = claimRv rv (al.1 88) tt.toNatClampNeg) ∨ (spClaim iv tt ≠ 0 ∧ r1 = spClaim iv tt ∧ iv1 84 0 1 = iv 84 0 1 ∧ (∀ k : Nat, iv1 65 k 6 = iv 65 k 6))) (p2 : (spClaim iv1 tt = 0 ∧ r2.toInt = (iv1 0 0 41).toInt ∧ (iv2 0 0 41).toInt = (iv1 0 0 41).toInt + 1 ∧ (∀ k : Nat, iv2 35 0 k = (if k = (iv1 0 0 41).toNatClampNeg then tt else iv1 35 0 k) ∧ iv2 36 0 k = (if k = (iv1 0 0 41).toNatClampNeg then iv1 0 0 0 else iv1 36 0 k))) ∨ (spClaim iv1 tt ≠ 0 ∧ r2 = spClaim iv1 tt ∧ iv2 0 0 41 = iv1 0 0 41 ∧ (∀ k : Nat, iv2 35 0 k = iv1 35 0 k ∧ iv2 36 0 k = iv1 36 0 k))) (x1 : EX ([51, 85], [(84, 1), (65, 6)]) al iv rv al1 iv1 rv1) (f2 : FR ([16, 35, 36], [(0, 41)]) iv1 iv2) (g2 : FR ([16, 35, 36], [(0, 41)]) rv1 rv2) : Cpay iv2 rv2 := by
  have ma := ma_ex hG x1 (by decide)
  rw [spClaim_m ma] at p2
  have eN : iv1 0 0 41 = iv 84 0 1 := by rw [ma 0 41 (by decide)]; exact hCclm.1
  have n := hG.2.2.2.2.2.1.2
  have N : (iv 84 0 1).toNatClampNeg = al.1 88 := by rw [clamp_n]; omega
  rw [eN, N] at p2
  have c84 := f2 84 0 1 (by decide)
  have n9 : al.1 89 = al.1 88 := hG.2.2.1.2.2.2.2.2
  have m38 : ∀ k, iv2 38 0 k = iv 38 0 k := fun k => by rw [f2.arr 38 0 k (by decide)]; exact ma 38 k (by decide)
  have xo : ∀ c f, c < al.1 88 → iv2 88 c f = iv 88 c f := fun c f hc => by rw [f2.arr 88 c f (by decide)]; exact (x1.2.2 88 c f hc (MD.no (by decide))).1
  have yo : ∀ c f, c < al.1 88 → iv2 89 c f = iv 89 c f := fun c f hc => by rw [f2.arr 89 c f (by decide)]; exact (x1.2.2 89 c f (by omega) (MD.no (by decide))).1
  have sk : ∀ c, sdN iv2 c 5 = sdN iv c 5 := fun c => sd_keep (fun p _ => m38 _)
  rcases two_cases p1 p2 with ⟨o, ⟨q1, q2, aa, a9, siz, hs, ha, hi, hr⟩, ⟨s1, s2, M⟩⟩ | ⟨o, ⟨q1, q2, q3⟩, ⟨s1, s2, M⟩⟩
  · have w3 : claimIv iv (al.1 88) tt.toNatClampNeg (iv 49 0 9) siz 88 (al.1 88) 3 = 0 := by simp [claimIv, up3, clr]
    have w9 : ∀ p, claimIv iv (al.1 88) tt.toNatClampNeg (iv 49 0 9) siz 89 (al.1 88) p = 0 := fun p => by simp [claimIv, up3, clr]
    rw [← hi] at w3 w9
    refine ⟨fun c p hc hp => ?_, fun c hc => ?_, fun c p hc hp => ?_⟩
    · rw [c84, q2] at hc
      rw [m38]
      by_cases z : c = al.1 88
      · rw [z, f2.arr 89 _ p (by decide), w9]; exact hCpay.2.2 _ p (by omega) hp
      · rw [yo c p (by omega)]; exact hCpay.1 c p (by omega) hp
    · rw [c84, q2] at hc
      rw [sk]
      by_cases z : c = al.1 88
      · rw [z, f2.arr 88 _ 3 (by decide), w3]
        have o := fun p hp => hCpay.2.2 (al.1 88) p (by omega) hp
        show 0 = 0 + iv 38 0 (5 * al.1 88 + 0) + iv 38 0 (5 * al.1 88 + 1) + iv 38 0 (5 * al.1 88 + 2) + iv 38 0 (5 * al.1 88 + 3) + iv 38 0 (5 * al.1 88 + 4)
        rw [o 0 (by decide), o 1 (by decide), o 2 (by decide), o 3 (by decide), o 4 (by decide)]; decide
      · rw [xo c 3 (by omega)]; exact hCpay.2.1 c (by omega)
    · rw [c84, q2] at hc
      rw [m38]; exact hCpay.2.2 c p (by omega) hp
  · refine ⟨fun c p hc hp => ?_, fun c hc => ?_, fun c p hc hp => ?_⟩
    · rw [c84, q2] at hc; rw [m38, yo c p (by omega)]; exact hCpay.1 c p hc hp
    · rw [c84, q2] at hc; rw [sk, xo c 3 (by omega)]; exact hCpay.2.1 c hc
    · rw [c84, q2] at hc; rw [m38]; exact hCpay.2.2 c p hc hp
theorem Cpay.s_pay {al al1 : Al} {iv iv1 iv2 : Iv} {rv rv1 rv2 : Rv} {cl pp v r1 r2 : Int32} (hG : GI al iv rv) (hCclm : Cclm iv rv) (hCpay : Cpay iv rv) (p1 : (spPay iv cl pp v = 0 ∧ r1 = iv1 88 cl.toNatClampNeg 3 ∧ (∀ i k : Nat, iv1 89 i k = (if i = cl.toNatClampNeg ∧ k = pp.toNatClampNeg then iv 89 cl.toNatClampNeg pp.toNatClampNeg + v else iv 89 i k)) ∧ (∀ k : Nat, iv1 88 k 3 = (if k = cl.toNatClampNeg then iv 88 cl.toNatClampNeg 3 + v else iv 88 k 3))) ∨ (spPay iv cl pp v ≠ 0 ∧ r1 = spPay iv cl pp v ∧ (∀ i k : Nat, iv1 89 i k = iv 89 i k) ∧ (∀ k : Nat, iv1 88 k 3 = iv 88 k 3))) (p2 : (spPay iv1 cl pp v = 0 ∧ r2 = sdN iv2 cl.toNatClampNeg 5 ∧ (∀ k : Nat, iv2 38 0 k = (if k = 5 * cl.toNatClampNeg + pp.toNatClampNeg then iv1 38 0 (5 * cl.toNatClampNeg + pp.toNatClampNeg) + v else iv1 38 0 k))) ∨ (spPay iv1 cl pp v ≠ 0 ∧ r2 = spPay iv1 cl pp v ∧ (∀ k : Nat, iv2 38 0 k = iv1 38 0 k))) (x1 : EX ([51, 89], [(88, 3)]) al iv rv al1 iv1 rv1) (f2 : FR ([16, 38], []) iv1 iv2) (g2 : FR ([16, 38], []) rv1 rv2) : Cpay iv2 rv2 := by
  have ma := fun k => (x1.2.2 38 0 k (h1_38 hG) (MD.no (by decide))).1
  have e41 : iv1 0 0 41 = iv 0 0 41 := (x1.2.2 0 0 41 (h1_0 hG) (by decide)).1
  have sk1 : ∀ c, sdN iv1 c 5 = sdN iv c 5 := fun c => sd_keep (fun p _ => ma _)
  have eS : spPay iv1 cl pp v = spPay iv cl pp v := by unfold spPay; rw [sk1, e41]
  rw [eS] at p2
  have n := hG.2.2.2.2.2.1.2
  have k41 := congrArg Int32.toInt hCclm.1
  have c84 : iv2 84 0 1 = iv 84 0 1 := by rw [f2 84 0 1 (by decide), (x1.2.2 84 0 1 (h1_84 hG) (by decide)).1]
  have x3 : ∀ c, iv2 88 c 3 = iv1 88 c 3 := fun c => f2.arr 88 c 3 (by decide)
  have x9 : ∀ c p, iv2 89 c p = iv1 89 c p := fun c p => f2.arr 89 c p (by decide)
  rcases two_cases p1 p2 with ⟨o, ⟨q1, E, F⟩, ⟨s1, M⟩⟩ | ⟨o, ⟨q1, E, F⟩, ⟨s1, M⟩⟩
  · obtain ⟨oc, op⟩ := spPay_ok o
    have cc := ix_nat oc.1
    have lp : pp.toNatClampNeg < 5 := by rw [clamp_n]; omega
    simp only [ma] at M
    refine ⟨fun c p hc hp => ?_, fun c hc => ?_, fun c p hc hp => ?_⟩
    · rw [c84] at hc
      rw [M, x9, E]
      by_cases z : c = cl.toNatClampNeg ∧ p = pp.toNatClampNeg
      · rw [if_pos z, if_pos (by omega), hCpay.1 _ _ (by omega) lp]
      · rw [if_neg z, if_neg (by omega)]; exact hCpay.1 c p hc hp
    · rw [c84] at hc
      rw [x3, F]
      by_cases z : c = cl.toNatClampNeg
      · rw [if_pos z, z, sd_add lp M, hCpay.2.1 _ (by omega)]
      · rw [if_neg z, sd_keep (fun p hp => by rw [M, if_neg (by omega)])]; exact hCpay.2.1 c hc
    · rw [c84] at hc
      rw [M, if_neg (by omega)]; exact hCpay.2.2 c p hc hp
  · simp only [ma] at M
    refine ⟨fun c p hc hp => ?_, fun c hc => ?_, fun c p hc hp => ?_⟩
    · rw [c84] at hc; rw [M, x9, E]; exact hCpay.1 c p hc hp
    · rw [c84] at hc; rw [x3, F, sd_keep (fun p hp => M _)]; exact hCpay.2.1 c hc
    · rw [c84] at hc; rw [M]; exact hCpay.2.2 c p hc hp
theorem ans_pay {al al1 : Al} {iv iv1 iv2 : Iv} {rv rv1 rv2 : Rv} {cl pp v r1 r2 : Int32} (hG : GI al iv rv) (hCclm : Cclm iv rv) (hCpay : Cpay iv rv) (p1 : (spPay iv cl pp v = 0 ∧ r1 = iv1 88 cl.toNatClampNeg 3 ∧ (∀ i k : Nat, iv1 89 i k = (if i = cl.toNatClampNeg ∧ k = pp.toNatClampNeg then iv 89 cl.toNatClampNeg pp.toNatClampNeg + v else iv 89 i k)) ∧ (∀ k : Nat, iv1 88 k 3 = (if k = cl.toNatClampNeg then iv 88 cl.toNatClampNeg 3 + v else iv 88 k 3))) ∨ (spPay iv cl pp v ≠ 0 ∧ r1 = spPay iv cl pp v ∧ (∀ i k : Nat, iv1 89 i k = iv 89 i k) ∧ (∀ k : Nat, iv1 88 k 3 = iv 88 k 3))) (p2 : (spPay iv1 cl pp v = 0 ∧ r2 = sdN iv2 cl.toNatClampNeg 5 ∧ (∀ k : Nat, iv2 38 0 k = (if k = 5 * cl.toNatClampNeg + pp.toNatClampNeg then iv1 38 0 (5 * cl.toNatClampNeg + pp.toNatClampNeg) + v else iv1 38 0 k))) ∨ (spPay iv1 cl pp v ≠ 0 ∧ r2 = spPay iv1 cl pp v ∧ (∀ k : Nat, iv2 38 0 k = iv1 38 0 k))) (x1 : EX ([51, 89], [(88, 3)]) al iv rv al1 iv1 rv1) (f2 : FR ([16, 38], []) iv1 iv2) (g2 : FR ([16, 38], []) rv1 rv2) : r1 = r2 := by
  have ma := fun k => (x1.2.2 38 0 k (h1_38 hG) (MD.no (by decide))).1
  have e41 : iv1 0 0 41 = iv 0 0 41 := (x1.2.2 0 0 41 (h1_0 hG) (by decide)).1
  have sk1 : ∀ c, sdN iv1 c 5 = sdN iv c 5 := fun c => sd_keep (fun p _ => ma _)
  have eS : spPay iv1 cl pp v = spPay iv cl pp v := by unfold spPay; rw [sk1, e41]
  rw [eS] at p2
  have k41 := congrArg Int32.toInt hCclm.1
  rcases two_cases p1 p2 with ⟨o, ⟨q1, E, F⟩, ⟨s1, M⟩⟩ | ⟨o, ⟨q1, E, F⟩, ⟨s1, M⟩⟩
  · obtain ⟨oc, op⟩ := spPay_ok o
    have cc := ix_nat oc.1
    simp only [ma] at M
    rw [q1, s1, F, if_pos rfl, sd_add (by rw [clamp_n]; omega) M, hCpay.2.1 _ (by omega)]
  · rw [q1, s1]
def REL (iv : Iv) (rv : Rv) : Prop := Clegn iv rv ∧ Ctkn iv rv ∧ Cday iv rv ∧ Cclm iv rv ∧ Cpay iv rv
abbrev rT : List Nat := [35, 36, 38, 89]
abbrev rF : List (Nat × Nat) := [(0, 6), (57, 1), (0, 20), (63, 1), (0, 0), (49, 9), (0, 41), (84, 1), (88, 0), (88, 1), (65, 6), (88, 3)]
theorem sT_Clegn {md : Mo} (h : RC rT rF md) : RC T_Clegn F_Clegn md := ⟨fun t ht => h.1 t ((by decide : ∀ t, t ∈ T_Clegn → t ∈ rT) t ht), fun q hq => h.2 q ((by decide : ∀ q, q ∈ F_Clegn → q ∈ rF) q hq)⟩
theorem sT_Ctkn {md : Mo} (h : RC rT rF md) : RC T_Ctkn F_Ctkn md := ⟨fun t ht => h.1 t ((by decide : ∀ t, t ∈ T_Ctkn → t ∈ rT) t ht), fun q hq => h.2 q ((by decide : ∀ q, q ∈ F_Ctkn → q ∈ rF) q hq)⟩
theorem sT_Cday {md : Mo} (h : RC rT rF md) : RC T_Cday F_Cday md := ⟨fun t ht => h.1 t ((by decide : ∀ t, t ∈ T_Cday → t ∈ rT) t ht), fun q hq => h.2 q ((by decide : ∀ q, q ∈ F_Cday → q ∈ rF) q hq)⟩
theorem sT_Cclm {md : Mo} (h : RC rT rF md) : RC T_Cclm F_Cclm md := ⟨fun t ht => h.1 t ((by decide : ∀ t, t ∈ T_Cclm → t ∈ rT) t ht), fun q hq => h.2 q ((by decide : ∀ q, q ∈ F_Cclm → q ∈ rF) q hq)⟩
theorem sT_Cpay {md : Mo} (h : RC rT rF md) : RC T_Cpay F_Cpay md := ⟨fun t ht => h.1 t ((by decide : ∀ t, t ∈ T_Cpay → t ∈ rT) t ht), fun q hq => h.2 q ((by decide : ∀ q, q ∈ F_Cpay → q ∈ rF) q hq)⟩
theorem REL.fr {al : Al} {iv iv' : Iv} {rv rv' : Rv} {md : Mo} (h : REL iv rv) (hG : GI al iv rv) (f : FR md iv iv') (g : FR md rv rv') (hd : RC rT rF md) : REL iv' rv' := ⟨Clegn.keep h.1 hG (KP.fr f g (sT_Clegn hd)), Ctkn.keep h.2.1 hG (KP.fr f g (sT_Ctkn hd)), Cday.keep h.2.2.1 hG (KP.fr f g (sT_Cday hd)), Cclm.keep h.2.2.2.1 hG (KP.fr f g (sT_Cclm hd)), Cpay.keep h.2.2.2.2 hG (KP.fr f g (sT_Cpay hd))⟩
theorem REL.ex {al al' : Al} {iv iv' : Iv} {rv rv' : Rv} {md : Mo} (h : REL iv rv) (hG : GI al iv rv) (g : EX md al iv rv al' iv' rv') (hd : RC rT rF md) : REL iv' rv' := ⟨Clegn.keep h.1 hG (KP.ex g (sT_Clegn hd)), Ctkn.keep h.2.1 hG (KP.ex g (sT_Ctkn hd)), Cday.keep h.2.2.1 hG (KP.ex g (sT_Cday hd)), Cclm.keep h.2.2.2.1 hG (KP.ex g (sT_Cclm hd)), Cpay.keep h.2.2.2.2 hG (KP.ex g (sT_Cpay hd))⟩
theorem REL.s_leg {al al1 : Al} {iv iv1 iv2 : Iv} {rv rv1 rv2 : Rv} {a b pp cc_ lv_ rr r1 r2 : Int32} (hG : GI al iv rv) (h : REL iv rv) (p1 : (spLeg a b pp cc_ lv_ rr (iv 57 0 1).toInt = 0 ∧ r1.toInt = (iv 57 0 1).toInt ∧ (iv1 57 0 1).toInt = (iv 57 0 1).toInt + 1 ∧ ∃ (aa : Nat) (siz : Int32), siz.toInt = al.1 62 + 1 ∧ al1 = grow al 62 aa ∧ iv1 = legIv iv (al.1 62) r1 pp cc_ lv_ rr siz ∧ rv1 = legRv rv (al.1 62) a.toNatClampNeg b.toNatClampNeg) ∨ (spLeg a b pp cc_ lv_ rr (iv 57 0 1).toInt ≠ 0 ∧ r1 = spLeg a b pp cc_ lv_ rr (iv 57 0 1).toInt ∧ iv1 57 0 1 = iv 57 0 1)) (p2 : (spLeg a b pp cc_ lv_ rr (iv1 0 0 6).toInt = 0 ∧ r2.toInt = (iv1 0 0 6).toInt ∧ (iv2 0 0 6).toInt = (iv1 0 0 6).toInt + 1 ∧ lgM iv1 iv2 a b pp cc_ lv_ rr) ∨ (spLeg a b pp cc_ lv_ rr (iv1 0 0 6).toInt ≠ 0 ∧ r2 = spLeg a b pp cc_ lv_ rr (iv1 0 0 6).toInt ∧ iv2 0 0 6 = iv1 0 0 6 ∧ lgK iv1 iv2)) (x1 : EX ([51, 58], [(57, 1)]) al iv rv al1 iv1 rv1) (f2 : FR ([16, 5, 6, 7, 8, 9, 10], [(0, 6)]) iv1 iv2) (g2 : FR ([16, 5, 6, 7, 8, 9, 10], [(0, 6)]) rv1 rv2) : REL iv2 rv2 := ⟨Clegn.s_leg hG h.1 p1 p2 x1 f2 g2, Ctkn.keep h.2.1 hG (KP.two x1 f2 g2 (by decide) (by decide)), Cday.keep h.2.2.1 hG (KP.two x1 f2 g2 (by decide) (by decide)), Cclm.keep h.2.2.2.1 hG (KP.two x1 f2 g2 (by decide) (by decide)), Cpay.keep h.2.2.2.2 hG (KP.two x1 f2 g2 (by decide) (by decide))⟩
theorem REL.s_traveller {al al1 : Al} {iv iv1 iv2 : Iv} {rv rv1 rv2 : Rv} {lg r1 r2 : Int32} (hG : GI al iv rv) (h : REL iv rv) (p1 : (spTrav lg (iv 57 0 1).toInt (iv 63 0 1).toInt = 0 ∧ r1.toInt = (iv 63 0 1).toInt ∧ (iv1 63 0 1).toInt = (iv 63 0 1).toInt + 1 ∧ ∃ (aa a6 a7 : Nat) (siz : Int32), siz.toInt = al.1 65 + 1 ∧ al1 = grow (grow (grow al 65 aa) 66 a6) 67 a7 ∧ iv1 = tickIv iv (al.1 65) r1 siz ∧ rv1 = tickRv rv (al.1 65) lg.toNatClampNeg) ∨ (spTrav lg (iv 57 0 1).toInt (iv 63 0 1).toInt ≠ 0 ∧ r1 = spTrav lg (iv 57 0 1).toInt (iv 63 0 1).toInt ∧ iv1 63 0 1 = iv 63 0 1)) (p2 : (spTrav lg (iv1 0 0 6).toInt (iv1 0 0 20).toInt = 0 ∧ r2.toInt = (iv1 0 0 20).toInt ∧ (iv2 0 0 20).toInt = (iv1 0 0 20).toInt + 1 ∧ (∀ k : Nat, iv2 18 0 k = (if k = 4 * (iv1 0 0 20).toNatClampNeg then lg else iv1 18 0 k) ∧ iv2 19 0 k = (if k = (iv1 0 0 20).toNatClampNeg then 1 else iv1 19 0 k))) ∨ (spTrav lg (iv1 0 0 6).toInt (iv1 0 0 20).toInt ≠ 0 ∧ r2 = spTrav lg (iv1 0 0 6).toInt (iv1 0 0 20).toInt ∧ iv2 0 0 20 = iv1 0 0 20 ∧ (∀ k : Nat, iv2 18 0 k = iv1 18 0 k ∧ iv2 19 0 k = iv1 19 0 k))) (x1 : EX ([51, 64], [(63, 1)]) al iv rv al1 iv1 rv1) (f2 : FR ([16, 18, 19], [(0, 20)]) iv1 iv2) (g2 : FR ([16, 18, 19], [(0, 20)]) rv1 rv2) : REL iv2 rv2 := ⟨Clegn.keep h.1 hG (KP.two x1 f2 g2 (by decide) (by decide)), Ctkn.s_traveller hG h.1 h.2.1 p1 p2 x1 f2 g2, Cday.keep h.2.2.1 hG (KP.two x1 f2 g2 (by decide) (by decide)), Cclm.s_traveller hG h.1 h.2.1 h.2.2.2.1 p1 p2 x1 f2 g2, Cpay.keep h.2.2.2.2 hG (KP.two x1 f2 g2 (by decide) (by decide))⟩
theorem REL.s_days {al al1 : Al} {iv iv1 iv2 : Iv} {rv rv1 rv2 : Rv} {n : Int32} (hG : GI al iv rv) (h : REL iv rv) (p1 : (iv1 49 0 9).toInt = dayF n.toInt (iv 49 0 9).toInt) (p2 : (iv2 0 0 0).toInt = dayF n.toInt (iv1 0 0 0).toInt) (x1 : EX ([51], [(49, 9)]) al iv rv al1 iv1 rv1) (f2 : FR ([16], [(0, 0)]) iv1 iv2) (g2 : FR ([16], [(0, 0)]) rv1 rv2) : REL iv2 rv2 := ⟨Clegn.keep h.1 hG (KP.two x1 f2 g2 (by decide) (by decide)), Ctkn.keep h.2.1 hG (KP.two x1 f2 g2 (by decide) (by decide)), Cday.s_days hG h.2.2.1 p1 p2 x1 f2 g2, Cclm.keep h.2.2.2.1 hG (KP.two x1 f2 g2 (by decide) (by decide)), Cpay.keep h.2.2.2.2 hG (KP.two x1 f2 g2 (by decide) (by decide))⟩
theorem REL.s_claim {al al1 : Al} {iv iv1 iv2 : Iv} {rv rv1 rv2 : Rv} {tt r1 r2 : Int32} (hG : GI al iv rv) (h : REL iv rv) (p1 : (spClaim iv tt = 0 ∧ r1.toInt = (iv 84 0 1).toInt ∧ (iv1 84 0 1).toInt = (iv 84 0 1).toInt + 1 ∧ ∃ (aa a9 : Nat) (siz : Int32), siz.toInt = al.1 88 + 1 ∧ al1 = grow (grow al 88 aa) 89 a9 ∧ iv1 = claimIv iv (al.1 88) tt.toNatClampNeg (iv 49 0 9) siz ∧ rv1 = claimRv rv (al.1 88) tt.toNatClampNeg) ∨ (spClaim iv tt ≠ 0 ∧ r1 = spClaim iv tt ∧ iv1 84 0 1 = iv 84 0 1 ∧ (∀ k : Nat, iv1 65 k 6 = iv 65 k 6))) (p2 : (spClaim iv1 tt = 0 ∧ r2.toInt = (iv1 0 0 41).toInt ∧ (iv2 0 0 41).toInt = (iv1 0 0 41).toInt + 1 ∧ (∀ k : Nat, iv2 35 0 k = (if k = (iv1 0 0 41).toNatClampNeg then tt else iv1 35 0 k) ∧ iv2 36 0 k = (if k = (iv1 0 0 41).toNatClampNeg then iv1 0 0 0 else iv1 36 0 k))) ∨ (spClaim iv1 tt ≠ 0 ∧ r2 = spClaim iv1 tt ∧ iv2 0 0 41 = iv1 0 0 41 ∧ (∀ k : Nat, iv2 35 0 k = iv1 35 0 k ∧ iv2 36 0 k = iv1 36 0 k))) (x1 : EX ([51, 85], [(84, 1), (65, 6)]) al iv rv al1 iv1 rv1) (f2 : FR ([16, 35, 36], [(0, 41)]) iv1 iv2) (g2 : FR ([16, 35, 36], [(0, 41)]) rv1 rv2) : REL iv2 rv2 := ⟨Clegn.keep h.1 hG (KP.two x1 f2 g2 (by decide) (by decide)), Ctkn.keep h.2.1 hG (KP.two x1 f2 g2 (by decide) (by decide)), Cday.keep h.2.2.1 hG (KP.two x1 f2 g2 (by decide) (by decide)), Cclm.s_claim hG h.2.2.1 h.2.1 h.2.2.2.1 p1 p2 x1 f2 g2, Cpay.s_claim hG h.2.2.2.1 h.2.2.2.2 p1 p2 x1 f2 g2⟩
theorem REL.s_pay {al al1 : Al} {iv iv1 iv2 : Iv} {rv rv1 rv2 : Rv} {cl pp v r1 r2 : Int32} (hG : GI al iv rv) (h : REL iv rv) (p1 : (spPay iv cl pp v = 0 ∧ r1 = iv1 88 cl.toNatClampNeg 3 ∧ (∀ i k : Nat, iv1 89 i k = (if i = cl.toNatClampNeg ∧ k = pp.toNatClampNeg then iv 89 cl.toNatClampNeg pp.toNatClampNeg + v else iv 89 i k)) ∧ (∀ k : Nat, iv1 88 k 3 = (if k = cl.toNatClampNeg then iv 88 cl.toNatClampNeg 3 + v else iv 88 k 3))) ∨ (spPay iv cl pp v ≠ 0 ∧ r1 = spPay iv cl pp v ∧ (∀ i k : Nat, iv1 89 i k = iv 89 i k) ∧ (∀ k : Nat, iv1 88 k 3 = iv 88 k 3))) (p2 : (spPay iv1 cl pp v = 0 ∧ r2 = sdN iv2 cl.toNatClampNeg 5 ∧ (∀ k : Nat, iv2 38 0 k = (if k = 5 * cl.toNatClampNeg + pp.toNatClampNeg then iv1 38 0 (5 * cl.toNatClampNeg + pp.toNatClampNeg) + v else iv1 38 0 k))) ∨ (spPay iv1 cl pp v ≠ 0 ∧ r2 = spPay iv1 cl pp v ∧ (∀ k : Nat, iv2 38 0 k = iv1 38 0 k))) (x1 : EX ([51, 89], [(88, 3)]) al iv rv al1 iv1 rv1) (f2 : FR ([16, 38], []) iv1 iv2) (g2 : FR ([16, 38], []) rv1 rv2) : REL iv2 rv2 := ⟨Clegn.keep h.1 hG (KP.two x1 f2 g2 (by decide) (by decide)), Ctkn.keep h.2.1 hG (KP.two x1 f2 g2 (by decide) (by decide)), Cday.keep h.2.2.1 hG (KP.two x1 f2 g2 (by decide) (by decide)), Cclm.keep h.2.2.2.1 hG (KP.two x1 f2 g2 (by decide) (by decide)), Cpay.s_pay hG h.2.2.2.1 h.2.2.2.2 p1 p2 x1 f2 g2⟩
theorem REL.a_pay {al al1 : Al} {iv iv1 iv2 : Iv} {rv rv1 rv2 : Rv} {cl pp v r1 r2 : Int32} (hG : GI al iv rv) (h : REL iv rv) (p1 : (spPay iv cl pp v = 0 ∧ r1 = iv1 88 cl.toNatClampNeg 3 ∧ (∀ i k : Nat, iv1 89 i k = (if i = cl.toNatClampNeg ∧ k = pp.toNatClampNeg then iv 89 cl.toNatClampNeg pp.toNatClampNeg + v else iv 89 i k)) ∧ (∀ k : Nat, iv1 88 k 3 = (if k = cl.toNatClampNeg then iv 88 cl.toNatClampNeg 3 + v else iv 88 k 3))) ∨ (spPay iv cl pp v ≠ 0 ∧ r1 = spPay iv cl pp v ∧ (∀ i k : Nat, iv1 89 i k = iv 89 i k) ∧ (∀ k : Nat, iv1 88 k 3 = iv 88 k 3))) (p2 : (spPay iv1 cl pp v = 0 ∧ r2 = sdN iv2 cl.toNatClampNeg 5 ∧ (∀ k : Nat, iv2 38 0 k = (if k = 5 * cl.toNatClampNeg + pp.toNatClampNeg then iv1 38 0 (5 * cl.toNatClampNeg + pp.toNatClampNeg) + v else iv1 38 0 k))) ∨ (spPay iv1 cl pp v ≠ 0 ∧ r2 = spPay iv1 cl pp v ∧ (∀ k : Nat, iv2 38 0 k = iv1 38 0 k))) (x1 : EX ([51, 89], [(88, 3)]) al iv rv al1 iv1 rv1) (f2 : FR ([16, 38], []) iv1 iv2) (g2 : FR ([16, 38], []) rv1 rv2) : r1 = r2 := ans_pay hG h.2.2.2.1 h.2.2.2.2 p1 p2 x1 f2 g2
def LSt (ox om : Nat) (al : Al) (iv : Iv) (rv : Rv) : Prop := GI al iv rv ∧ al.2 49 0 = ox ∧ al.2 0 0 = om ∧ REL iv rv
def LX (p : Program) (s : State) (m : MethodId) (c : Code) (b L : Nat) (xs : Nat → Int32) (D : va_G) (cA : FieldType → ClassId) : Prop := Cx p s m #[Value.ref b] c cL_law 4 RL D cA ∧ va_X b L xs s s.heap ∧ b < s.heap.size ∧ SX cA s.heap.size s s.heap ∧ L ≤ 3584
def bz (x : Int32) : Int32 := if x = 0 then 0 else 1
theorem bz_0 {x : Int32} (h : x.toInt = (0 : Int32).toInt) : (0 : Int32) = bz x := by
  have : x = 0 := (fa_eq _ _).mpr h
  rw [this]; rfl
theorem bz_1 {x : Int32} (h : ¬ x.toInt = (0 : Int32).toInt) : (1 : Int32) = bz x := by
  unfold bz; rw [if_neg (fun e => h (by rw [e]))]
section LR
variable {p : Program} {l : Launch} {e : Env} {R : Room} {s : State} {m : MethodId} {args : Array Value} {below : List Frame} {meth : Method} {c : Code} {H : Heap} {locs : List Loc} {cells slots : Nat} {Q : State → Prop}
variable {cc : ByteArray} {pc nL : Nat} {ls : Array Slot} {rest : List Value} {own : String} {D : va_G} {cA : FieldType → ClassId} {sz : Nat} {al : Al} {iv : Iv} {rv : Rv} {b L : Nat} {xs : Nat → Int32}
theorem q_ai (X : LX p s m c b L xs D cA) (hS : va_S (Aq s.heap.size) s.heap H locs) {i k v : Int32} (hk : 0 ≤ k.toInt ∧ k.toInt ≤ 6) (hi : 0 ≤ i.toInt ∧ i.toInt + 6 < L) (ev : xs (i + k).toNatClampNeg = v) (d1 : decode cL_law pc = .ok (.iadd, 1)) (d2 : decode cL_law (pc + 1) = .ok (.iaload, 1))
    (kk : W p l e R s m #[Value.ref b] below meth c H locs cells slots Q (F0 m (pc + 2) ls (.int v :: rest))) : W p l e R s m #[Value.ref b] below meth c H locs cells slots Q (F0 m pc ls (.int k :: .int i :: .ref b :: rest)) := by
  obtain ⟨C, hX, hbl, -, hL⟩ := X
  have ti : (i + k).toInt = i.toInt + k.toInt := fb_addI (by omega) (by omega)
  refine lv_iadd C.1.1 C.1.2.1 d1 ?_
  refine va_sld (A := Aq s.heap.size) C.1.1 C.1.2.1 hX hbl (fun z => absurd hbl (Nat.not_lt.mpr z)) hS (ix_in (by omega) (by omega)) d2 ?_
  rw [ev]; exact kk
theorem q_runVX {y : MethodName} {bytes : ByteArray} {maxL mc ms n index t i ci : Nat} {ret : Option FieldType} {rmm : Room} {As : List Value} {q : vw_C} {Qc : Array Value → State → Outcome → State → Prop} {X : State → Prop} {st : List Value} (C : Cx p s m args c cc nL own D cA) (hU : UW D cA sz al iv rv H) (hz : sz ≤ H.size)
    (hX1 : ∀ U : State, U.heap = H → s.WarmedH U.vm → X U) (hX2 : ∀ (U : State) (g : JFrame) (mk : MethodId) (a : Array Value), X U → X (U.calling g mk a))
    (hM : Met l y (wd y bytes maxL ret) rmm (PcA D cA sz al iv rv (.ref (al.2 t i) :: As) X) Qc mc ms (Aq sz)) (vm : VM y bytes maxL ret n) (hl : Cond.methodLink own index y ∈ BW) (kp : (pt t).1 = some ci) (hc : vwCl[ci]? = some q) (hq : q.1 = y.cls) (hi : i < al.1 t) (hls : ls.size = nL) (hn : As.length = n) (hst : st = As.reverse ++ .ref (al.2 t i) :: rest)
    (hrm : (rest.map fun v => v.category).sum ≤ 8) (hdg : decode cc pc = .ok (.invokevirtual index, 3)) (hrc : rmm.cells = mc) (hrs : rmm.slots = ms) (hR : rmm.frames + 1 ≤ R.frames ∧ 8 + (maxL + 11) + rmm.locals ≤ R.locals) (hf : cells + mc ≤ R.cells ∧ slots + ms ≤ R.slots) :
    va_Run p l e R s m args below meth c H locs cells slots mc ms (F0 m pc ls st) rest (Qc (Value.ref (al.2 t i) :: As).toArray) (Aq sz) := by
  obtain ⟨v1, v2, v3, v4, v5⟩ := vm
  have hts := C.1.2.2.2.2
  have hK := C.2
  obtain ⟨cell, g1, g2, g3, -⟩ := (hU.1 t i hi).ob kp
  refine va_runV (C := y.cls) (As := As) (rest := rest) C.1 hM ⟨cb_of hts v1 v4 hl v5 hrc hrs hR, hts _ v2, hts _ v3⟩ ⟨fun a U g mk q => ⟨q.1, q.2.1, q.2.2.1.calling g mk a, q.2.2.2.1, hX2 U g mk a q.2.2.2.2⟩, ⟨cell, g1, by rw [g3]; rfl, ?_⟩, fun U hH hW => ⟨rfl, by rw [hH]; exact hU, hK.warm hW, by rw [hH]; exact hz, hX1 U hH hW⟩⟩ rfl hn hls hst (lv_room hrm) hdg hf
  rw [g2, ← hq]; exact (hK.1.1 ci q hc).2.1
end LR
end
section
set_option maxHeartbeats 4000000 in
set_option maxRecDepth 100000 in
theorem law_0 {p : Program} {l : Launch} {e : Env} {s : State} {m : MethodId} {below : List Frame} {meth : Method} {c : Code} {b L : Nat} {xs : Nat → Int32} {D : va_G} {cA : FieldType → ClassId} {ls : Array Slot} {Q : State → Prop} {H : Heap} {locs : List Loc} {cells slots : Nat} {i : Int32} {ox om : Nat} {al : Al} {iv : Iv} {rv : Rv} (X : LX p s m c b L xs D cA) (hl : lv_has ls 4 [(3, .int i), (2, .ref om), (1, .ref ox), (0, .ref b)]) (hi : 0 ≤ i.toInt ∧ i.toInt + 6 < L) (hQ : LSt ox om al iv rv) (hU : UW D cA s.heap.size al iv rv H) (hS : va_S (Aq s.heap.size) s.heap H locs) (hc : cells + 3 ≤ 600000 ∧ slots + 16 ≤ 7302250)
    (kk : ∀ (al' : Al) (iv' : Iv) (rv' : Rv) (H' : Heap) (locs' : List Loc), LSt ox om al' iv' rv' → UW D cA s.heap.size al' iv' rv' H' → va_S (Aq s.heap.size) s.heap H' locs' → W p l e room_1 s m #[Value.ref b] below meth c H' locs' (cells + 3) (slots + 16) Q (F0 m 1475 ls [])) : W p l e room_1 s m #[Value.ref b] below meth c H locs cells slots Q (F0 m 188 ls []) := by
  obtain ⟨hG, hox, hom, hRel⟩ := hQ
  have C := X.1
  have hx := C.1.1
  have hb := C.1.2.1
  obtain ⟨v1, e1⟩ : ∃ z, xs (i + 1).toNatClampNeg = z := ⟨_, rfl⟩
  refine lv_aload_n hx hb dL_law_188 rfl (lv_at hl 2 rfl) ?_
  refine lv_aload_n hx hb dL_law_189 rfl (lv_at hl 3 rfl) ?_
  refine lv_iload_n hx hb dL_law_190 rfl (lv_at hl 0 rfl) ?_
  refine lv_iconst (v := 1) hx hb dL_law_191 (by decide) ?_
  refine q_ai X hS (k := 1) (by decide) hi e1 dL_law_192 dL_law_193 ?_
  have hG0 := hG
  have hGp := hG
  refine W.eq (g2 := F0 m 194 ls [.int v1, .ref (al.2 49 0)]) (by rw [hox]) ?_
  refine q_fi (q_runV (t := 49) (i := 0) (As := [.int v1]) (rest := []) C hU (c_X11_days_x hG v1) vm_X11_days ml_L_13 k_49.1 (hc := rfl) rfl (h1_49 hG) hl.1 rfl rfl (Nat.le_of_ble_eq_true rfl) dL_law_194 rfl rfl ⟨Nat.le_of_ble_eq_true rfl, Nat.le_of_ble_eq_true rfl⟩ ⟨by show cells + 0 ≤ 600000; omega, by show slots + 0 ≤ 7302250; omega⟩) hS (fun r1 iv1 rv1 H locs hG f1 g1 hp1 hU hS => ?_)
  refine lv_pop hx hb dL_law_197 rfl ?_
  refine lv_aload_n hx hb dL_law_198 rfl (lv_at hl 1 rfl) ?_
  refine lv_aload_n hx hb dL_law_199 rfl (lv_at hl 3 rfl) ?_
  refine lv_iload_n hx hb dL_law_200 rfl (lv_at hl 0 rfl) ?_
  refine lv_iconst (v := 1) hx hb dL_law_201 (by decide) ?_
  refine q_ai X hS (k := 1) (by decide) hi e1 dL_law_202 dL_law_203 ?_
  have hGp := hG
  refine W.eq (g2 := F0 m 204 ls [.int v1, .ref (al.2 0 0)]) (by rw [hom]) ?_
  refine q_fi (q_runV (t := 0) (i := 0) (As := [.int v1]) (rest := []) C hU (c_X12_days_x hG v1) vm_X12_days ml_L_17 k_0.1 (hc := rfl) rfl (h1_0 hG) hl.1 rfl rfl (Nat.le_of_ble_eq_true rfl) dL_law_204 rfl rfl ⟨Nat.le_of_ble_eq_true rfl, Nat.le_of_ble_eq_true rfl⟩ ⟨by show cells + 0 ≤ 600000; omega, by show slots + 0 ≤ 7302250; omega⟩) hS (fun r2 iv2 rv2 H locs hG f2 g2 hp2 hU hS => ?_)
  have hRel := REL.s_days hG0 hRel hp1 hp2 (EX.of f1 g1) f2 g2
  refine lv_pop hx hb dL_law_207 rfl ?_
  refine lv_goto (tgt := 1475) hx hb dL_law_208 (by decide) ?_
  refine W.widen (k := cells + 3) (n := slots + 16) (by omega) (by omega) ?_
  exact kk _ _ _ _ _ ⟨hG, hox, hom, hRel⟩ hU hS
set_option maxHeartbeats 4000000 in
set_option maxRecDepth 100000 in
theorem law_1 {p : Program} {l : Launch} {e : Env} {s : State} {m : MethodId} {below : List Frame} {meth : Method} {c : Code} {b L : Nat} {xs : Nat → Int32} {D : va_G} {cA : FieldType → ClassId} {ls : Array Slot} {Q : State → Prop} {H : Heap} {locs : List Loc} {cells slots : Nat} {i : Int32} {ox om : Nat} {al : Al} {iv : Iv} {rv : Rv} (X : LX p s m c b L xs D cA) (hl : lv_has ls 4 [(3, .int i), (2, .ref om), (1, .ref ox), (0, .ref b)]) (hi : 0 ≤ i.toInt ∧ i.toInt + 6 < L) (hQ : LSt ox om al iv rv) (hU : UW D cA s.heap.size al iv rv H) (hS : va_S (Aq s.heap.size) s.heap H locs) (hc : cells + 3 ≤ 600000 ∧ slots + 16 ≤ 7302250)
    (kk : ∀ (al' : Al) (iv' : Iv) (rv' : Rv) (H' : Heap) (locs' : List Loc), LSt ox om al' iv' rv' → UW D cA s.heap.size al' iv' rv' H' → va_S (Aq s.heap.size) s.heap H' locs' → W p l e room_1 s m #[Value.ref b] below meth c H' locs' (cells + 3) (slots + 16) Q (F0 m 1475 ls [])) : W p l e room_1 s m #[Value.ref b] below meth c H locs cells slots Q (F0 m 211 ls []) := by
  obtain ⟨hG, hox, hom, hRel⟩ := hQ
  have C := X.1
  have hx := C.1.1
  have hb := C.1.2.1
  obtain ⟨v1, e1⟩ : ∃ z, xs (i + 1).toNatClampNeg = z := ⟨_, rfl⟩
  obtain ⟨v2, e2⟩ : ∃ z, xs (i + 2).toNatClampNeg = z := ⟨_, rfl⟩
  refine lv_aload_n hx hb dL_law_211 rfl (lv_at hl 2 rfl) ?_
  refine lv_aload_n hx hb dL_law_212 rfl (lv_at hl 3 rfl) ?_
  refine lv_iload_n hx hb dL_law_213 rfl (lv_at hl 0 rfl) ?_
  refine lv_iconst (v := 1) hx hb dL_law_214 (by decide) ?_
  refine q_ai X hS (k := 1) (by decide) hi e1 dL_law_215 dL_law_216 ?_
  refine lv_aload_n hx hb dL_law_217 rfl (lv_at hl 3 rfl) ?_
  refine lv_iload_n hx hb dL_law_218 rfl (lv_at hl 0 rfl) ?_
  refine lv_iconst (v := 2) hx hb dL_law_219 (by decide) ?_
  refine q_ai X hS (k := 2) (by decide) hi e2 dL_law_220 dL_law_221 ?_
  have hG0 := hG
  have hGp := hG
  refine W.eq (g2 := F0 m 222 ls [.int v2, .int v1, .ref (al.2 49 0)]) (by rw [hox]) ?_
  refine q_fi (q_runV (t := 49) (i := 0) (As := [.int v1, .int v2]) (rest := []) C hU (c_X11_land hG v1 v2) vm_X11_land ml_L_18 k_49.1 (hc := rfl) rfl (h1_49 hG) hl.1 rfl rfl (Nat.le_of_ble_eq_true rfl) dL_law_222 rfl rfl ⟨Nat.le_of_ble_eq_true rfl, Nat.le_of_ble_eq_true rfl⟩ ⟨by show cells + 0 ≤ 600000; omega, by show slots + 0 ≤ 7302250; omega⟩) hS (fun r1 iv1 rv1 H locs hG f1 g1 hp1 hU hS => ?_)
  have hRel := hRel.fr hGp f1 g1 (by decide)
  refine lv_pop hx hb dL_law_225 rfl ?_
  refine lv_aload_n hx hb dL_law_226 rfl (lv_at hl 1 rfl) ?_
  refine lv_aload_n hx hb dL_law_227 rfl (lv_at hl 3 rfl) ?_
  refine lv_iload_n hx hb dL_law_228 rfl (lv_at hl 0 rfl) ?_
  refine lv_iconst (v := 1) hx hb dL_law_229 (by decide) ?_
  refine q_ai X hS (k := 1) (by decide) hi e1 dL_law_230 dL_law_231 ?_
  refine lv_aload_n hx hb dL_law_232 rfl (lv_at hl 3 rfl) ?_
  refine lv_iload_n hx hb dL_law_233 rfl (lv_at hl 0 rfl) ?_
  refine lv_iconst (v := 2) hx hb dL_law_234 (by decide) ?_
  refine q_ai X hS (k := 2) (by decide) hi e2 dL_law_235 dL_law_236 ?_
  have hGp := hG
  refine W.eq (g2 := F0 m 237 ls [.int v2, .int v1, .ref (al.2 0 0)]) (by rw [hom]) ?_
  refine q_fi (q_runV (t := 0) (i := 0) (As := [.int v1, .int v2]) (rest := []) C hU (c_X12_land hG v1 v2) vm_X12_land ml_L_22 k_0.1 (hc := rfl) rfl (h1_0 hG) hl.1 rfl rfl (Nat.le_of_ble_eq_true rfl) dL_law_237 rfl rfl ⟨Nat.le_of_ble_eq_true rfl, Nat.le_of_ble_eq_true rfl⟩ ⟨by show cells + 0 ≤ 600000; omega, by show slots + 0 ≤ 7302250; omega⟩) hS (fun r2 iv2 rv2 H locs hG f2 g2 hp2 hU hS => ?_)
  have hRel := hRel.fr hGp f2 g2 (by decide)
  refine lv_pop hx hb dL_law_240 rfl ?_
  refine lv_goto (tgt := 1475) hx hb dL_law_241 (by decide) ?_
  refine W.widen (k := cells + 3) (n := slots + 16) (by omega) (by omega) ?_
  exact kk _ _ _ _ _ ⟨hG, hox, hom, hRel⟩ hU hS
set_option maxHeartbeats 4000000 in
set_option maxRecDepth 100000 in
theorem law_2 {p : Program} {l : Launch} {e : Env} {s : State} {m : MethodId} {below : List Frame} {meth : Method} {c : Code} {b L : Nat} {xs : Nat → Int32} {D : va_G} {cA : FieldType → ClassId} {ls : Array Slot} {Q : State → Prop} {H : Heap} {locs : List Loc} {cells slots : Nat} {i : Int32} {ox om : Nat} {al : Al} {iv : Iv} {rv : Rv} (X : LX p s m c b L xs D cA) (hl : lv_has ls 4 [(3, .int i), (2, .ref om), (1, .ref ox), (0, .ref b)]) (hi : 0 ≤ i.toInt ∧ i.toInt + 6 < L) (hQ : LSt ox om al iv rv) (hU : UW D cA s.heap.size al iv rv H) (hS : va_S (Aq s.heap.size) s.heap H locs) (hc : cells + 3 ≤ 600000 ∧ slots + 16 ≤ 7302250)
    (kk : ∀ (al' : Al) (iv' : Iv) (rv' : Rv) (H' : Heap) (locs' : List Loc), LSt ox om al' iv' rv' → UW D cA s.heap.size al' iv' rv' H' → va_S (Aq s.heap.size) s.heap H' locs' → W p l e room_1 s m #[Value.ref b] below meth c H' locs' (cells + 3) (slots + 16) Q (F0 m 1475 ls [])) : W p l e room_1 s m #[Value.ref b] below meth c H locs cells slots Q (F0 m 244 ls []) := by
  obtain ⟨hG, hox, hom, hRel⟩ := hQ
  have C := X.1
  have hx := C.1.1
  have hb := C.1.2.1
  obtain ⟨v1, e1⟩ : ∃ z, xs (i + 1).toNatClampNeg = z := ⟨_, rfl⟩
  obtain ⟨v2, e2⟩ : ∃ z, xs (i + 2).toNatClampNeg = z := ⟨_, rfl⟩
  obtain ⟨v3, e3⟩ : ∃ z, xs (i + 3).toNatClampNeg = z := ⟨_, rfl⟩
  refine lv_aload_n hx hb dL_law_244 rfl (lv_at hl 2 rfl) ?_
  refine lv_aload_n hx hb dL_law_245 rfl (lv_at hl 3 rfl) ?_
  refine lv_iload_n hx hb dL_law_246 rfl (lv_at hl 0 rfl) ?_
  refine lv_iconst (v := 1) hx hb dL_law_247 (by decide) ?_
  refine q_ai X hS (k := 1) (by decide) hi e1 dL_law_248 dL_law_249 ?_
  refine lv_aload_n hx hb dL_law_250 rfl (lv_at hl 3 rfl) ?_
  refine lv_iload_n hx hb dL_law_251 rfl (lv_at hl 0 rfl) ?_
  refine lv_iconst (v := 2) hx hb dL_law_252 (by decide) ?_
  refine q_ai X hS (k := 2) (by decide) hi e2 dL_law_253 dL_law_254 ?_
  refine lv_aload_n hx hb dL_law_255 rfl (lv_at hl 3 rfl) ?_
  refine lv_iload_n hx hb dL_law_256 rfl (lv_at hl 0 rfl) ?_
  refine lv_iconst (v := 3) hx hb dL_law_257 (by decide) ?_
  refine q_ai X hS (k := 3) (by decide) hi e3 dL_law_258 dL_law_259 ?_
  have hG0 := hG
  have hGp := hG
  refine W.eq (g2 := F0 m 260 ls [.int v3, .int v2, .int v1, .ref (al.2 49 0)]) (by rw [hox]) ?_
  refine q_fi (q_runV (t := 49) (i := 0) (As := [.int v1, .int v2, .int v3]) (rest := []) C hU (c_X11_miles hG v1 v2 v3) vm_X11_miles ml_L_23 k_49.1 (hc := rfl) rfl (h1_49 hG) hl.1 rfl rfl (Nat.le_of_ble_eq_true rfl) dL_law_260 rfl rfl ⟨Nat.le_of_ble_eq_true rfl, Nat.le_of_ble_eq_true rfl⟩ ⟨by show cells + 0 ≤ 600000; omega, by show slots + 0 ≤ 7302250; omega⟩) hS (fun r1 iv1 rv1 H locs hG f1 g1 hp1 hU hS => ?_)
  have hRel := hRel.fr hGp f1 g1 (by decide)
  refine lv_pop hx hb dL_law_263 rfl ?_
  refine lv_aload_n hx hb dL_law_264 rfl (lv_at hl 1 rfl) ?_
  refine lv_aload_n hx hb dL_law_265 rfl (lv_at hl 3 rfl) ?_
  refine lv_iload_n hx hb dL_law_266 rfl (lv_at hl 0 rfl) ?_
  refine lv_iconst (v := 1) hx hb dL_law_267 (by decide) ?_
  refine q_ai X hS (k := 1) (by decide) hi e1 dL_law_268 dL_law_269 ?_
  refine lv_aload_n hx hb dL_law_270 rfl (lv_at hl 3 rfl) ?_
  refine lv_iload_n hx hb dL_law_271 rfl (lv_at hl 0 rfl) ?_
  refine lv_iconst (v := 2) hx hb dL_law_272 (by decide) ?_
  refine q_ai X hS (k := 2) (by decide) hi e2 dL_law_273 dL_law_274 ?_
  refine lv_aload_n hx hb dL_law_275 rfl (lv_at hl 3 rfl) ?_
  refine lv_iload_n hx hb dL_law_276 rfl (lv_at hl 0 rfl) ?_
  refine lv_iconst (v := 3) hx hb dL_law_277 (by decide) ?_
  refine q_ai X hS (k := 3) (by decide) hi e3 dL_law_278 dL_law_279 ?_
  have hGp := hG
  refine W.eq (g2 := F0 m 280 ls [.int v3, .int v2, .int v1, .ref (al.2 0 0)]) (by rw [hom]) ?_
  refine q_fi (q_runV (t := 0) (i := 0) (As := [.int v1, .int v2, .int v3]) (rest := []) C hU (c_X12_miles hG v1 v2 v3) vm_X12_miles ml_L_27 k_0.1 (hc := rfl) rfl (h1_0 hG) hl.1 rfl rfl (Nat.le_of_ble_eq_true rfl) dL_law_280 rfl rfl ⟨Nat.le_of_ble_eq_true rfl, Nat.le_of_ble_eq_true rfl⟩ ⟨by show cells + 0 ≤ 600000; omega, by show slots + 0 ≤ 7302250; omega⟩) hS (fun r2 iv2 rv2 H locs hG f2 g2 hp2 hU hS => ?_)
  have hRel := hRel.fr hGp f2 g2 (by decide)
  refine lv_pop hx hb dL_law_283 rfl ?_
  refine lv_goto (tgt := 1475) hx hb dL_law_284 (by decide) ?_
  refine W.widen (k := cells + 3) (n := slots + 16) (by omega) (by omega) ?_
  exact kk _ _ _ _ _ ⟨hG, hox, hom, hRel⟩ hU hS
set_option maxHeartbeats 4000000 in
set_option maxRecDepth 100000 in
theorem law_3 {p : Program} {l : Launch} {e : Env} {s : State} {m : MethodId} {below : List Frame} {meth : Method} {c : Code} {b L : Nat} {xs : Nat → Int32} {D : va_G} {cA : FieldType → ClassId} {ls : Array Slot} {Q : State → Prop} {H : Heap} {locs : List Loc} {cells slots : Nat} {i : Int32} {ox om : Nat} {al : Al} {iv : Iv} {rv : Rv} (X : LX p s m c b L xs D cA) (hl : lv_has ls 4 [(3, .int i), (2, .ref om), (1, .ref ox), (0, .ref b)]) (hi : 0 ≤ i.toInt ∧ i.toInt + 6 < L) (hQ : LSt ox om al iv rv) (hU : UW D cA s.heap.size al iv rv H) (hS : va_S (Aq s.heap.size) s.heap H locs) (hc : cells + 3 ≤ 600000 ∧ slots + 16 ≤ 7302250)
    (kk : ∀ (al' : Al) (iv' : Iv) (rv' : Rv) (H' : Heap) (locs' : List Loc), LSt ox om al' iv' rv' → UW D cA s.heap.size al' iv' rv' H' → va_S (Aq s.heap.size) s.heap H' locs' → W p l e room_1 s m #[Value.ref b] below meth c H' locs' (cells + 3) (slots + 16) Q (F0 m 1475 ls [])) : W p l e room_1 s m #[Value.ref b] below meth c H locs cells slots Q (F0 m 287 ls []) := by
  obtain ⟨hG, hox, hom, hRel⟩ := hQ
  have C := X.1
  have hx := C.1.1
  have hb := C.1.2.1
  obtain ⟨v1, e1⟩ : ∃ z, xs (i + 1).toNatClampNeg = z := ⟨_, rfl⟩
  obtain ⟨v2, e2⟩ : ∃ z, xs (i + 2).toNatClampNeg = z := ⟨_, rfl⟩
  obtain ⟨v3, e3⟩ : ∃ z, xs (i + 3).toNatClampNeg = z := ⟨_, rfl⟩
  refine lv_aload_n hx hb dL_law_287 rfl (lv_at hl 2 rfl) ?_
  refine lv_aload_n hx hb dL_law_288 rfl (lv_at hl 3 rfl) ?_
  refine lv_iload_n hx hb dL_law_289 rfl (lv_at hl 0 rfl) ?_
  refine lv_iconst (v := 1) hx hb dL_law_290 (by decide) ?_
  refine q_ai X hS (k := 1) (by decide) hi e1 dL_law_291 dL_law_292 ?_
  refine lv_aload_n hx hb dL_law_293 rfl (lv_at hl 3 rfl) ?_
  refine lv_iload_n hx hb dL_law_294 rfl (lv_at hl 0 rfl) ?_
  refine lv_iconst (v := 2) hx hb dL_law_295 (by decide) ?_
  refine q_ai X hS (k := 2) (by decide) hi e2 dL_law_296 dL_law_297 ?_
  refine lv_aload_n hx hb dL_law_298 rfl (lv_at hl 3 rfl) ?_
  refine lv_iload_n hx hb dL_law_299 rfl (lv_at hl 0 rfl) ?_
  refine lv_iconst (v := 3) hx hb dL_law_300 (by decide) ?_
  refine q_ai X hS (k := 3) (by decide) hi e3 dL_law_301 dL_law_302 ?_
  have hG0 := hG
  have hGp := hG
  refine W.eq (g2 := F0 m 303 ls [.int v3, .int v2, .int v1, .ref (al.2 49 0)]) (by rw [hox]) ?_
  refine q_fi (q_runV (t := 49) (i := 0) (As := [.int v1, .int v2, .int v3]) (rest := []) C hU (c_X11_seen hG v1 v2 v3) vm_X11_seen ml_L_28 k_49.1 (hc := rfl) rfl (h1_49 hG) hl.1 rfl rfl (Nat.le_of_ble_eq_true rfl) dL_law_303 rfl rfl ⟨Nat.le_of_ble_eq_true rfl, Nat.le_of_ble_eq_true rfl⟩ ⟨by show cells + 0 ≤ 600000; omega, by show slots + 0 ≤ 7302250; omega⟩) hS (fun r1 iv1 rv1 H locs hG f1 g1 hp1 hU hS => ?_)
  have hRel := hRel.fr hGp f1 g1 (by decide)
  refine lv_pop hx hb dL_law_306 rfl ?_
  refine lv_aload_n hx hb dL_law_307 rfl (lv_at hl 1 rfl) ?_
  refine lv_aload_n hx hb dL_law_308 rfl (lv_at hl 3 rfl) ?_
  refine lv_iload_n hx hb dL_law_309 rfl (lv_at hl 0 rfl) ?_
  refine lv_iconst (v := 1) hx hb dL_law_310 (by decide) ?_
  refine q_ai X hS (k := 1) (by decide) hi e1 dL_law_311 dL_law_312 ?_
  refine lv_aload_n hx hb dL_law_313 rfl (lv_at hl 3 rfl) ?_
  refine lv_iload_n hx hb dL_law_314 rfl (lv_at hl 0 rfl) ?_
  refine lv_iconst (v := 2) hx hb dL_law_315 (by decide) ?_
  refine q_ai X hS (k := 2) (by decide) hi e2 dL_law_316 dL_law_317 ?_
  refine lv_aload_n hx hb dL_law_318 rfl (lv_at hl 3 rfl) ?_
  refine lv_iload_n hx hb dL_law_319 rfl (lv_at hl 0 rfl) ?_
  refine lv_iconst (v := 3) hx hb dL_law_320 (by decide) ?_
  refine q_ai X hS (k := 3) (by decide) hi e3 dL_law_321 dL_law_322 ?_
  have hGp := hG
  refine W.eq (g2 := F0 m 323 ls [.int v3, .int v2, .int v1, .ref (al.2 0 0)]) (by rw [hom]) ?_
  refine q_fi (q_runV (t := 0) (i := 0) (As := [.int v1, .int v2, .int v3]) (rest := []) C hU (c_X12_seen hG v1 v2 v3) vm_X12_seen ml_L_31 k_0.1 (hc := rfl) rfl (h1_0 hG) hl.1 rfl rfl (Nat.le_of_ble_eq_true rfl) dL_law_323 rfl rfl ⟨Nat.le_of_ble_eq_true rfl, Nat.le_of_ble_eq_true rfl⟩ ⟨by show cells + 0 ≤ 600000; omega, by show slots + 0 ≤ 7302250; omega⟩) hS (fun r2 iv2 rv2 H locs hG f2 g2 hp2 hU hS => ?_)
  have hRel := hRel.fr hGp f2 g2 (by decide)
  refine lv_pop hx hb dL_law_326 rfl ?_
  refine lv_goto (tgt := 1475) hx hb dL_law_327 (by decide) ?_
  refine W.widen (k := cells + 3) (n := slots + 16) (by omega) (by omega) ?_
  exact kk _ _ _ _ _ ⟨hG, hox, hom, hRel⟩ hU hS
set_option maxHeartbeats 4000000 in
set_option maxRecDepth 100000 in
theorem law_4 {p : Program} {l : Launch} {e : Env} {s : State} {m : MethodId} {below : List Frame} {meth : Method} {c : Code} {b L : Nat} {xs : Nat → Int32} {D : va_G} {cA : FieldType → ClassId} {ls : Array Slot} {Q : State → Prop} {H : Heap} {locs : List Loc} {cells slots : Nat} {i : Int32} {ox om : Nat} {al : Al} {iv : Iv} {rv : Rv} (X : LX p s m c b L xs D cA) (hl : lv_has ls 4 [(3, .int i), (2, .ref om), (1, .ref ox), (0, .ref b)]) (hi : 0 ≤ i.toInt ∧ i.toInt + 6 < L) (hQ : LSt ox om al iv rv) (hU : UW D cA s.heap.size al iv rv H) (hS : va_S (Aq s.heap.size) s.heap H locs) (hc : cells + 3 ≤ 600000 ∧ slots + 16 ≤ 7302250)
    (kk : ∀ (al' : Al) (iv' : Iv) (rv' : Rv) (H' : Heap) (locs' : List Loc), LSt ox om al' iv' rv' → UW D cA s.heap.size al' iv' rv' H' → va_S (Aq s.heap.size) s.heap H' locs' → W p l e room_1 s m #[Value.ref b] below meth c H' locs' (cells + 3) (slots + 16) Q (F0 m 1475 ls [])) : W p l e room_1 s m #[Value.ref b] below meth c H locs cells slots Q (F0 m 330 ls []) := by
  obtain ⟨hG, hox, hom, hRel⟩ := hQ
  have C := X.1
  have hx := C.1.1
  have hb := C.1.2.1
  obtain ⟨v1, e1⟩ : ∃ z, xs (i + 1).toNatClampNeg = z := ⟨_, rfl⟩
  refine lv_aload_n hx hb dL_law_330 rfl (lv_at hl 2 rfl) ?_
  refine lv_aload_n hx hb dL_law_331 rfl (lv_at hl 3 rfl) ?_
  refine lv_iload_n hx hb dL_law_332 rfl (lv_at hl 0 rfl) ?_
  refine lv_iconst (v := 1) hx hb dL_law_333 (by decide) ?_
  refine q_ai X hS (k := 1) (by decide) hi e1 dL_law_334 dL_law_335 ?_
  have hG0 := hG
  have hGp := hG
  refine W.eq (g2 := F0 m 336 ls [.int v1, .ref (al.2 49 0)]) (by rw [hox]) ?_
  refine q_fi (q_runV (t := 49) (i := 0) (As := [.int v1]) (rest := []) C hU (c_X11_off hG v1) vm_X11_off ml_L_32 k_49.1 (hc := rfl) rfl (h1_49 hG) hl.1 rfl rfl (Nat.le_of_ble_eq_true rfl) dL_law_336 rfl rfl ⟨Nat.le_of_ble_eq_true rfl, Nat.le_of_ble_eq_true rfl⟩ ⟨by show cells + 0 ≤ 600000; omega, by show slots + 0 ≤ 7302250; omega⟩) hS (fun r1 iv1 rv1 H locs hG f1 g1 hp1 hU hS => ?_)
  have hRel := hRel.fr hGp f1 g1 (by decide)
  refine lv_pop hx hb dL_law_339 rfl ?_
  refine lv_aload_n hx hb dL_law_340 rfl (lv_at hl 1 rfl) ?_
  refine lv_aload_n hx hb dL_law_341 rfl (lv_at hl 3 rfl) ?_
  refine lv_iload_n hx hb dL_law_342 rfl (lv_at hl 0 rfl) ?_
  refine lv_iconst (v := 1) hx hb dL_law_343 (by decide) ?_
  refine q_ai X hS (k := 1) (by decide) hi e1 dL_law_344 dL_law_345 ?_
  have hGp := hG
  refine W.eq (g2 := F0 m 346 ls [.int v1, .ref (al.2 0 0)]) (by rw [hom]) ?_
  refine q_fi (q_runV (t := 0) (i := 0) (As := [.int v1]) (rest := []) C hU (c_X12_off hG v1) vm_X12_off ml_L_35 k_0.1 (hc := rfl) rfl (h1_0 hG) hl.1 rfl rfl (Nat.le_of_ble_eq_true rfl) dL_law_346 rfl rfl ⟨Nat.le_of_ble_eq_true rfl, Nat.le_of_ble_eq_true rfl⟩ ⟨by show cells + 0 ≤ 600000; omega, by show slots + 0 ≤ 7302250; omega⟩) hS (fun r2 iv2 rv2 H locs hG f2 g2 hp2 hU hS => ?_)
  have hRel := hRel.fr hGp f2 g2 (by decide)
  refine lv_pop hx hb dL_law_349 rfl ?_
  refine lv_goto (tgt := 1475) hx hb dL_law_350 (by decide) ?_
  refine W.widen (k := cells + 3) (n := slots + 16) (by omega) (by omega) ?_
  exact kk _ _ _ _ _ ⟨hG, hox, hom, hRel⟩ hU hS
set_option maxHeartbeats 4000000 in
set_option maxRecDepth 100000 in
theorem law_5 {p : Program} {l : Launch} {e : Env} {s : State} {m : MethodId} {below : List Frame} {meth : Method} {c : Code} {b L : Nat} {xs : Nat → Int32} {D : va_G} {cA : FieldType → ClassId} {ls : Array Slot} {Q : State → Prop} {H : Heap} {locs : List Loc} {cells slots : Nat} {i : Int32} {ox om : Nat} {al : Al} {iv : Iv} {rv : Rv} (X : LX p s m c b L xs D cA) (hl : lv_has ls 4 [(3, .int i), (2, .ref om), (1, .ref ox), (0, .ref b)]) (hi : 0 ≤ i.toInt ∧ i.toInt + 6 < L) (hQ : LSt ox om al iv rv) (hU : UW D cA s.heap.size al iv rv H) (hS : va_S (Aq s.heap.size) s.heap H locs) (hc : cells + 3 ≤ 600000 ∧ slots + 16 ≤ 7302250)
    (kk : ∀ (al' : Al) (iv' : Iv) (rv' : Rv) (H' : Heap) (locs' : List Loc), LSt ox om al' iv' rv' → UW D cA s.heap.size al' iv' rv' H' → va_S (Aq s.heap.size) s.heap H' locs' → W p l e room_1 s m #[Value.ref b] below meth c H' locs' (cells + 3) (slots + 16) Q (F0 m 1475 ls [])) : W p l e room_1 s m #[Value.ref b] below meth c H locs cells slots Q (F0 m 353 ls []) := by
  obtain ⟨hG, hox, hom, hRel⟩ := hQ
  have C := X.1
  have hx := C.1.1
  have hb := C.1.2.1
  obtain ⟨v1, e1⟩ : ∃ z, xs (i + 1).toNatClampNeg = z := ⟨_, rfl⟩
  obtain ⟨v2, e2⟩ : ∃ z, xs (i + 2).toNatClampNeg = z := ⟨_, rfl⟩
  obtain ⟨v3, e3⟩ : ∃ z, xs (i + 3).toNatClampNeg = z := ⟨_, rfl⟩
  obtain ⟨v4, e4⟩ : ∃ z, xs (i + 4).toNatClampNeg = z := ⟨_, rfl⟩
  obtain ⟨v5, e5⟩ : ∃ z, xs (i + 5).toNatClampNeg = z := ⟨_, rfl⟩
  obtain ⟨v6, e6⟩ : ∃ z, xs (i + 6).toNatClampNeg = z := ⟨_, rfl⟩
  refine lv_aload_n hx hb dL_law_353 rfl (lv_at hl 2 rfl) ?_
  refine lv_aload_n hx hb dL_law_354 rfl (lv_at hl 3 rfl) ?_
  refine lv_iload_n hx hb dL_law_355 rfl (lv_at hl 0 rfl) ?_
  refine lv_iconst (v := 1) hx hb dL_law_356 (by decide) ?_
  refine q_ai X hS (k := 1) (by decide) hi e1 dL_law_357 dL_law_358 ?_
  refine lv_aload_n hx hb dL_law_359 rfl (lv_at hl 3 rfl) ?_
  refine lv_iload_n hx hb dL_law_360 rfl (lv_at hl 0 rfl) ?_
  refine lv_iconst (v := 2) hx hb dL_law_361 (by decide) ?_
  refine q_ai X hS (k := 2) (by decide) hi e2 dL_law_362 dL_law_363 ?_
  refine lv_aload_n hx hb dL_law_364 rfl (lv_at hl 3 rfl) ?_
  refine lv_iload_n hx hb dL_law_365 rfl (lv_at hl 0 rfl) ?_
  refine lv_iconst (v := 3) hx hb dL_law_366 (by decide) ?_
  refine q_ai X hS (k := 3) (by decide) hi e3 dL_law_367 dL_law_368 ?_
  refine lv_aload_n hx hb dL_law_369 rfl (lv_at hl 3 rfl) ?_
  refine lv_iload_n hx hb dL_law_370 rfl (lv_at hl 0 rfl) ?_
  refine lv_iconst (v := 4) hx hb dL_law_371 (by decide) ?_
  refine q_ai X hS (k := 4) (by decide) hi e4 dL_law_372 dL_law_373 ?_
  refine lv_aload_n hx hb dL_law_374 rfl (lv_at hl 3 rfl) ?_
  refine lv_iload_n hx hb dL_law_375 rfl (lv_at hl 0 rfl) ?_
  refine lv_iconst (v := 5) hx hb dL_law_376 (by decide) ?_
  refine q_ai X hS (k := 5) (by decide) hi e5 dL_law_377 dL_law_378 ?_
  refine lv_aload_n hx hb dL_law_379 rfl (lv_at hl 3 rfl) ?_
  refine lv_iload_n hx hb dL_law_380 rfl (lv_at hl 0 rfl) ?_
  refine lv_bipush (v := 6) hx hb dL_law_381 (by decide) ?_
  refine q_ai X hS (k := 6) (by decide) hi e6 dL_law_383 dL_law_384 ?_
  have hG0 := hG
  have hGp := hG
  refine W.eq (g2 := F0 m 385 ls [.int v6, .int v5, .int v4, .int v3, .int v2, .int v1, .ref (al.2 49 0)]) (by rw [hox]) ?_
  refine q_ciA (q_runVA (t := 49) (i := 0) (As := [.int v1, .int v2, .int v3, .int v4, .int v5, .int v6]) (rest := []) C hU hS.1 (c_X11_leg_y hG v1 v2 v3 v4 v5 v6) vm_X11_leg ml_L_36 k_49.1 (hc := rfl) rfl (h1_49 hG) hl.1 rfl rfl (Nat.le_of_ble_eq_true rfl) dL_law_385 rfl rfl ⟨Nat.le_of_ble_eq_true rfl, Nat.le_of_ble_eq_true rfl⟩ ⟨by show cells + 1 ≤ 600000; omega, by show slots + 15 ≤ 7302250; omega⟩) hS hS.1 (fun r1 al1 iv1 rv1 H locs hp1 hU hS _ => ?_)
  obtain ⟨hG1, hE1, hp1⟩ := hp1
  have hox := (hE1.2.1 49 0 (h1_49 hG)).trans hox
  have hom := (hE1.2.1 0 0 (h1_0 hG)).trans hom
  have hG := hG1
  refine W.widen (k := cells + 3) (n := slots + 16) (by omega) (by omega) ?_
  refine lv_pop hx hb dL_law_388 rfl ?_
  refine lv_aload_n hx hb dL_law_389 rfl (lv_at hl 1 rfl) ?_
  refine lv_aload_n hx hb dL_law_390 rfl (lv_at hl 3 rfl) ?_
  refine lv_iload_n hx hb dL_law_391 rfl (lv_at hl 0 rfl) ?_
  refine lv_iconst (v := 1) hx hb dL_law_392 (by decide) ?_
  refine q_ai X hS (k := 1) (by decide) hi e1 dL_law_393 dL_law_394 ?_
  refine lv_aload_n hx hb dL_law_395 rfl (lv_at hl 3 rfl) ?_
  refine lv_iload_n hx hb dL_law_396 rfl (lv_at hl 0 rfl) ?_
  refine lv_iconst (v := 2) hx hb dL_law_397 (by decide) ?_
  refine q_ai X hS (k := 2) (by decide) hi e2 dL_law_398 dL_law_399 ?_
  refine lv_aload_n hx hb dL_law_400 rfl (lv_at hl 3 rfl) ?_
  refine lv_iload_n hx hb dL_law_401 rfl (lv_at hl 0 rfl) ?_
  refine lv_iconst (v := 3) hx hb dL_law_402 (by decide) ?_
  refine q_ai X hS (k := 3) (by decide) hi e3 dL_law_403 dL_law_404 ?_
  refine lv_aload_n hx hb dL_law_405 rfl (lv_at hl 3 rfl) ?_
  refine lv_iload_n hx hb dL_law_406 rfl (lv_at hl 0 rfl) ?_
  refine lv_iconst (v := 4) hx hb dL_law_407 (by decide) ?_
  refine q_ai X hS (k := 4) (by decide) hi e4 dL_law_408 dL_law_409 ?_
  refine lv_aload_n hx hb dL_law_410 rfl (lv_at hl 3 rfl) ?_
  refine lv_iload_n hx hb dL_law_411 rfl (lv_at hl 0 rfl) ?_
  refine lv_iconst (v := 5) hx hb dL_law_412 (by decide) ?_
  refine q_ai X hS (k := 5) (by decide) hi e5 dL_law_413 dL_law_414 ?_
  refine lv_aload_n hx hb dL_law_415 rfl (lv_at hl 3 rfl) ?_
  refine lv_iload_n hx hb dL_law_416 rfl (lv_at hl 0 rfl) ?_
  refine lv_bipush (v := 6) hx hb dL_law_417 (by decide) ?_
  refine q_ai X hS (k := 6) (by decide) hi e6 dL_law_419 dL_law_420 ?_
  have hGp := hG
  refine W.eq (g2 := F0 m 421 ls [.int v6, .int v5, .int v4, .int v3, .int v2, .int v1, .ref (al1.2 0 0)]) (by rw [hom]) ?_
  refine q_fi (q_runV (t := 0) (i := 0) (As := [.int v1, .int v2, .int v3, .int v4, .int v5, .int v6]) (rest := []) C hU (c_X12_leg_y hG v1 v2 v3 v4 v5 v6) vm_X12_leg ml_L_40 k_0.1 (hc := rfl) rfl (h1_0 hG) hl.1 rfl rfl (Nat.le_of_ble_eq_true rfl) dL_law_421 rfl rfl ⟨Nat.le_of_ble_eq_true rfl, Nat.le_of_ble_eq_true rfl⟩ ⟨by show (cells + 3) + 0 ≤ 600000; omega, by show (slots + 16) + 0 ≤ 7302250; omega⟩) hS (fun r2 iv2 rv2 H locs hG f2 g2 hp2 hU hS => ?_)
  have hRel := REL.s_leg hG0 hRel hp1 hp2 hE1 f2 g2
  refine lv_pop hx hb dL_law_424 rfl ?_
  refine lv_goto (tgt := 1475) hx hb dL_law_425 (by decide) ?_
  exact kk _ _ _ _ _ ⟨hG, hox, hom, hRel⟩ hU hS
set_option maxHeartbeats 4000000 in
set_option maxRecDepth 100000 in
theorem law_6 {p : Program} {l : Launch} {e : Env} {s : State} {m : MethodId} {below : List Frame} {meth : Method} {c : Code} {b L : Nat} {xs : Nat → Int32} {D : va_G} {cA : FieldType → ClassId} {ls : Array Slot} {Q : State → Prop} {H : Heap} {locs : List Loc} {cells slots : Nat} {i : Int32} {ox om : Nat} {al : Al} {iv : Iv} {rv : Rv} (X : LX p s m c b L xs D cA) (hl : lv_has ls 4 [(3, .int i), (2, .ref om), (1, .ref ox), (0, .ref b)]) (hi : 0 ≤ i.toInt ∧ i.toInt + 6 < L) (hQ : LSt ox om al iv rv) (hU : UW D cA s.heap.size al iv rv H) (hS : va_S (Aq s.heap.size) s.heap H locs) (hc : cells + 3 ≤ 600000 ∧ slots + 16 ≤ 7302250)
    (kk : ∀ (al' : Al) (iv' : Iv) (rv' : Rv) (H' : Heap) (locs' : List Loc), LSt ox om al' iv' rv' → UW D cA s.heap.size al' iv' rv' H' → va_S (Aq s.heap.size) s.heap H' locs' → W p l e room_1 s m #[Value.ref b] below meth c H' locs' (cells + 3) (slots + 16) Q (F0 m 1475 ls [])) : W p l e room_1 s m #[Value.ref b] below meth c H locs cells slots Q (F0 m 428 ls []) := by
  obtain ⟨hG, hox, hom, hRel⟩ := hQ
  have C := X.1
  have hx := C.1.1
  have hb := C.1.2.1
  obtain ⟨v1, e1⟩ : ∃ z, xs (i + 1).toNatClampNeg = z := ⟨_, rfl⟩
  obtain ⟨v2, e2⟩ : ∃ z, xs (i + 2).toNatClampNeg = z := ⟨_, rfl⟩
  obtain ⟨v3, e3⟩ : ∃ z, xs (i + 3).toNatClampNeg = z := ⟨_, rfl⟩
  refine lv_aload_n hx hb dL_law_428 rfl (lv_at hl 2 rfl) ?_
  refine lv_aload_n hx hb dL_law_429 rfl (lv_at hl 3 rfl) ?_
  refine lv_iload_n hx hb dL_law_430 rfl (lv_at hl 0 rfl) ?_
  refine lv_iconst (v := 1) hx hb dL_law_431 (by decide) ?_
  refine q_ai X hS (k := 1) (by decide) hi e1 dL_law_432 dL_law_433 ?_
  refine lv_aload_n hx hb dL_law_434 rfl (lv_at hl 3 rfl) ?_
  refine lv_iload_n hx hb dL_law_435 rfl (lv_at hl 0 rfl) ?_
  refine lv_iconst (v := 2) hx hb dL_law_436 (by decide) ?_
  refine q_ai X hS (k := 2) (by decide) hi e2 dL_law_437 dL_law_438 ?_
  refine lv_aload_n hx hb dL_law_439 rfl (lv_at hl 3 rfl) ?_
  refine lv_iload_n hx hb dL_law_440 rfl (lv_at hl 0 rfl) ?_
  refine lv_iconst (v := 3) hx hb dL_law_441 (by decide) ?_
  refine q_ai X hS (k := 3) (by decide) hi e3 dL_law_442 dL_law_443 ?_
  have hG0 := hG
  have hGp := hG
  refine W.eq (g2 := F0 m 444 ls [.int v3, .int v2, .int v1, .ref (al.2 49 0)]) (by rw [hox]) ?_
  refine q_fi (q_runV (t := 49) (i := 0) (As := [.int v1, .int v2, .int v3]) (rest := []) C hU (c_X11_log hG v1 v2 v3) vm_X11_log ml_L_41 k_49.1 (hc := rfl) rfl (h1_49 hG) hl.1 rfl rfl (Nat.le_of_ble_eq_true rfl) dL_law_444 rfl rfl ⟨Nat.le_of_ble_eq_true rfl, Nat.le_of_ble_eq_true rfl⟩ ⟨by show cells + 0 ≤ 600000; omega, by show slots + 0 ≤ 7302250; omega⟩) hS (fun r1 iv1 rv1 H locs hG f1 g1 hp1 hU hS => ?_)
  have hRel := hRel.fr hGp f1 g1 (by decide)
  refine lv_pop hx hb dL_law_447 rfl ?_
  refine lv_aload_n hx hb dL_law_448 rfl (lv_at hl 1 rfl) ?_
  refine lv_aload_n hx hb dL_law_449 rfl (lv_at hl 3 rfl) ?_
  refine lv_iload_n hx hb dL_law_450 rfl (lv_at hl 0 rfl) ?_
  refine lv_iconst (v := 1) hx hb dL_law_451 (by decide) ?_
  refine q_ai X hS (k := 1) (by decide) hi e1 dL_law_452 dL_law_453 ?_
  refine lv_aload_n hx hb dL_law_454 rfl (lv_at hl 3 rfl) ?_
  refine lv_iload_n hx hb dL_law_455 rfl (lv_at hl 0 rfl) ?_
  refine lv_iconst (v := 2) hx hb dL_law_456 (by decide) ?_
  refine q_ai X hS (k := 2) (by decide) hi e2 dL_law_457 dL_law_458 ?_
  refine lv_aload_n hx hb dL_law_459 rfl (lv_at hl 3 rfl) ?_
  refine lv_iload_n hx hb dL_law_460 rfl (lv_at hl 0 rfl) ?_
  refine lv_iconst (v := 3) hx hb dL_law_461 (by decide) ?_
  refine q_ai X hS (k := 3) (by decide) hi e3 dL_law_462 dL_law_463 ?_
  have hGp := hG
  refine W.eq (g2 := F0 m 464 ls [.int v3, .int v2, .int v1, .ref (al.2 0 0)]) (by rw [hom]) ?_
  refine q_fi (q_runV (t := 0) (i := 0) (As := [.int v1, .int v2, .int v3]) (rest := []) C hU (c_X12_log hG v1 v2 v3) vm_X12_log ml_L_44 k_0.1 (hc := rfl) rfl (h1_0 hG) hl.1 rfl rfl (Nat.le_of_ble_eq_true rfl) dL_law_464 rfl rfl ⟨Nat.le_of_ble_eq_true rfl, Nat.le_of_ble_eq_true rfl⟩ ⟨by show cells + 0 ≤ 600000; omega, by show slots + 0 ≤ 7302250; omega⟩) hS (fun r2 iv2 rv2 H locs hG f2 g2 hp2 hU hS => ?_)
  have hRel := hRel.fr hGp f2 g2 (by decide)
  refine lv_pop hx hb dL_law_467 rfl ?_
  refine lv_goto (tgt := 1475) hx hb dL_law_468 (by decide) ?_
  refine W.widen (k := cells + 3) (n := slots + 16) (by omega) (by omega) ?_
  exact kk _ _ _ _ _ ⟨hG, hox, hom, hRel⟩ hU hS
set_option maxHeartbeats 4000000 in
set_option maxRecDepth 100000 in
theorem law_7 {p : Program} {l : Launch} {e : Env} {s : State} {m : MethodId} {below : List Frame} {meth : Method} {c : Code} {b L : Nat} {xs : Nat → Int32} {D : va_G} {cA : FieldType → ClassId} {ls : Array Slot} {Q : State → Prop} {H : Heap} {locs : List Loc} {cells slots : Nat} {i : Int32} {ox om : Nat} {al : Al} {iv : Iv} {rv : Rv} (X : LX p s m c b L xs D cA) (hl : lv_has ls 4 [(3, .int i), (2, .ref om), (1, .ref ox), (0, .ref b)]) (hi : 0 ≤ i.toInt ∧ i.toInt + 6 < L) (hQ : LSt ox om al iv rv) (hU : UW D cA s.heap.size al iv rv H) (hS : va_S (Aq s.heap.size) s.heap H locs) (hc : cells + 3 ≤ 600000 ∧ slots + 16 ≤ 7302250)
    (kk : ∀ (al' : Al) (iv' : Iv) (rv' : Rv) (H' : Heap) (locs' : List Loc), LSt ox om al' iv' rv' → UW D cA s.heap.size al' iv' rv' H' → va_S (Aq s.heap.size) s.heap H' locs' → W p l e room_1 s m #[Value.ref b] below meth c H' locs' (cells + 3) (slots + 16) Q (F0 m 1475 ls [])) : W p l e room_1 s m #[Value.ref b] below meth c H locs cells slots Q (F0 m 471 ls []) := by
  obtain ⟨hG, hox, hom, hRel⟩ := hQ
  have C := X.1
  have hx := C.1.1
  have hb := C.1.2.1
  obtain ⟨v1, e1⟩ : ∃ z, xs (i + 1).toNatClampNeg = z := ⟨_, rfl⟩
  obtain ⟨v2, e2⟩ : ∃ z, xs (i + 2).toNatClampNeg = z := ⟨_, rfl⟩
  refine lv_aload_n hx hb dL_law_471 rfl (lv_at hl 2 rfl) ?_
  refine lv_aload_n hx hb dL_law_472 rfl (lv_at hl 3 rfl) ?_
  refine lv_iload_n hx hb dL_law_473 rfl (lv_at hl 0 rfl) ?_
  refine lv_iconst (v := 1) hx hb dL_law_474 (by decide) ?_
  refine q_ai X hS (k := 1) (by decide) hi e1 dL_law_475 dL_law_476 ?_
  refine lv_aload_n hx hb dL_law_477 rfl (lv_at hl 3 rfl) ?_
  refine lv_iload_n hx hb dL_law_478 rfl (lv_at hl 0 rfl) ?_
  refine lv_iconst (v := 2) hx hb dL_law_479 (by decide) ?_
  refine q_ai X hS (k := 2) (by decide) hi e2 dL_law_480 dL_law_481 ?_
  have hG0 := hG
  have hGp := hG
  refine W.eq (g2 := F0 m 482 ls [.int v2, .int v1, .ref (al.2 49 0)]) (by rw [hox]) ?_
  refine q_fi (q_runV (t := 49) (i := 0) (As := [.int v1, .int v2]) (rest := []) C hU (c_X11_cause hG v1 v2) vm_X11_cause ml_L_45 k_49.1 (hc := rfl) rfl (h1_49 hG) hl.1 rfl rfl (Nat.le_of_ble_eq_true rfl) dL_law_482 rfl rfl ⟨Nat.le_of_ble_eq_true rfl, Nat.le_of_ble_eq_true rfl⟩ ⟨by show cells + 0 ≤ 600000; omega, by show slots + 0 ≤ 7302250; omega⟩) hS (fun r1 iv1 rv1 H locs hG f1 g1 hp1 hU hS => ?_)
  have hRel := hRel.fr hGp f1 g1 (by decide)
  refine lv_pop hx hb dL_law_485 rfl ?_
  refine lv_aload_n hx hb dL_law_486 rfl (lv_at hl 1 rfl) ?_
  refine lv_aload_n hx hb dL_law_487 rfl (lv_at hl 3 rfl) ?_
  refine lv_iload_n hx hb dL_law_488 rfl (lv_at hl 0 rfl) ?_
  refine lv_iconst (v := 1) hx hb dL_law_489 (by decide) ?_
  refine q_ai X hS (k := 1) (by decide) hi e1 dL_law_490 dL_law_491 ?_
  refine lv_aload_n hx hb dL_law_492 rfl (lv_at hl 3 rfl) ?_
  refine lv_iload_n hx hb dL_law_493 rfl (lv_at hl 0 rfl) ?_
  refine lv_iconst (v := 2) hx hb dL_law_494 (by decide) ?_
  refine q_ai X hS (k := 2) (by decide) hi e2 dL_law_495 dL_law_496 ?_
  have hGp := hG
  refine W.eq (g2 := F0 m 497 ls [.int v2, .int v1, .ref (al.2 0 0)]) (by rw [hom]) ?_
  refine q_fi (q_runV (t := 0) (i := 0) (As := [.int v1, .int v2]) (rest := []) C hU (c_X12_cause hG v1 v2) vm_X12_cause ml_L_48 k_0.1 (hc := rfl) rfl (h1_0 hG) hl.1 rfl rfl (Nat.le_of_ble_eq_true rfl) dL_law_497 rfl rfl ⟨Nat.le_of_ble_eq_true rfl, Nat.le_of_ble_eq_true rfl⟩ ⟨by show cells + 0 ≤ 600000; omega, by show slots + 0 ≤ 7302250; omega⟩) hS (fun r2 iv2 rv2 H locs hG f2 g2 hp2 hU hS => ?_)
  have hRel := hRel.fr hGp f2 g2 (by decide)
  refine lv_pop hx hb dL_law_500 rfl ?_
  refine lv_goto (tgt := 1475) hx hb dL_law_501 (by decide) ?_
  refine W.widen (k := cells + 3) (n := slots + 16) (by omega) (by omega) ?_
  exact kk _ _ _ _ _ ⟨hG, hox, hom, hRel⟩ hU hS
set_option maxHeartbeats 4000000 in
set_option maxRecDepth 100000 in
theorem law_8 {p : Program} {l : Launch} {e : Env} {s : State} {m : MethodId} {below : List Frame} {meth : Method} {c : Code} {b L : Nat} {xs : Nat → Int32} {D : va_G} {cA : FieldType → ClassId} {ls : Array Slot} {Q : State → Prop} {H : Heap} {locs : List Loc} {cells slots : Nat} {i : Int32} {ox om : Nat} {al : Al} {iv : Iv} {rv : Rv} (X : LX p s m c b L xs D cA) (hl : lv_has ls 4 [(3, .int i), (2, .ref om), (1, .ref ox), (0, .ref b)]) (hi : 0 ≤ i.toInt ∧ i.toInt + 6 < L) (hQ : LSt ox om al iv rv) (hU : UW D cA s.heap.size al iv rv H) (hS : va_S (Aq s.heap.size) s.heap H locs) (hc : cells + 3 ≤ 600000 ∧ slots + 16 ≤ 7302250)
    (kk : ∀ (al' : Al) (iv' : Iv) (rv' : Rv) (H' : Heap) (locs' : List Loc), LSt ox om al' iv' rv' → UW D cA s.heap.size al' iv' rv' H' → va_S (Aq s.heap.size) s.heap H' locs' → W p l e room_1 s m #[Value.ref b] below meth c H' locs' (cells + 3) (slots + 16) Q (F0 m 1475 ls [])) : W p l e room_1 s m #[Value.ref b] below meth c H locs cells slots Q (F0 m 504 ls []) := by
  obtain ⟨hG, hox, hom, hRel⟩ := hQ
  have C := X.1
  have hx := C.1.1
  have hb := C.1.2.1
  obtain ⟨v1, e1⟩ : ∃ z, xs (i + 1).toNatClampNeg = z := ⟨_, rfl⟩
  obtain ⟨v2, e2⟩ : ∃ z, xs (i + 2).toNatClampNeg = z := ⟨_, rfl⟩
  refine lv_aload_n hx hb dL_law_504 rfl (lv_at hl 2 rfl) ?_
  refine lv_aload_n hx hb dL_law_505 rfl (lv_at hl 3 rfl) ?_
  refine lv_iload_n hx hb dL_law_506 rfl (lv_at hl 0 rfl) ?_
  refine lv_iconst (v := 1) hx hb dL_law_507 (by decide) ?_
  refine q_ai X hS (k := 1) (by decide) hi e1 dL_law_508 dL_law_509 ?_
  refine lv_aload_n hx hb dL_law_510 rfl (lv_at hl 3 rfl) ?_
  refine lv_iload_n hx hb dL_law_511 rfl (lv_at hl 0 rfl) ?_
  refine lv_iconst (v := 2) hx hb dL_law_512 (by decide) ?_
  refine q_ai X hS (k := 2) (by decide) hi e2 dL_law_513 dL_law_514 ?_
  have hG0 := hG
  have hGp := hG
  refine W.eq (g2 := F0 m 515 ls [.int v2, .int v1, .ref (al.2 49 0)]) (by rw [hox]) ?_
  refine q_fi (q_runVX (t := 49) (i := 0) (As := [.int v1, .int v2]) (rest := []) C hU hS.1 (fun U hH hW => X.2.2.2.1.to hS hH hW) SX.calling (c_X11_set hG v1 v2) vm_X11_set ml_L_49 k_49.1 (hc := rfl) rfl (h1_49 hG) hl.1 rfl rfl (Nat.le_of_ble_eq_true rfl) dL_law_515 rfl rfl ⟨Nat.le_of_ble_eq_true rfl, Nat.le_of_ble_eq_true rfl⟩ ⟨by show cells + 0 ≤ 600000; omega, by show slots + 0 ≤ 7302250; omega⟩) hS (fun r1 iv1 rv1 H locs hG f1 g1 hp1 hU hS => ?_)
  have hRel := hRel.fr hGp f1 g1 (by decide)
  refine lv_pop hx hb dL_law_518 rfl ?_
  refine lv_aload_n hx hb dL_law_519 rfl (lv_at hl 1 rfl) ?_
  refine lv_aload_n hx hb dL_law_520 rfl (lv_at hl 3 rfl) ?_
  refine lv_iload_n hx hb dL_law_521 rfl (lv_at hl 0 rfl) ?_
  refine lv_iconst (v := 1) hx hb dL_law_522 (by decide) ?_
  refine q_ai X hS (k := 1) (by decide) hi e1 dL_law_523 dL_law_524 ?_
  refine lv_aload_n hx hb dL_law_525 rfl (lv_at hl 3 rfl) ?_
  refine lv_iload_n hx hb dL_law_526 rfl (lv_at hl 0 rfl) ?_
  refine lv_iconst (v := 2) hx hb dL_law_527 (by decide) ?_
  refine q_ai X hS (k := 2) (by decide) hi e2 dL_law_528 dL_law_529 ?_
  have hGp := hG
  refine W.eq (g2 := F0 m 530 ls [.int v2, .int v1, .ref (al.2 0 0)]) (by rw [hom]) ?_
  refine q_fi (q_runV (t := 0) (i := 0) (As := [.int v1, .int v2]) (rest := []) C hU (c_X12_set hG v1 v2) vm_X12_set ml_L_52 k_0.1 (hc := rfl) rfl (h1_0 hG) hl.1 rfl rfl (Nat.le_of_ble_eq_true rfl) dL_law_530 rfl rfl ⟨Nat.le_of_ble_eq_true rfl, Nat.le_of_ble_eq_true rfl⟩ ⟨by show cells + 0 ≤ 600000; omega, by show slots + 0 ≤ 7302250; omega⟩) hS (fun r2 iv2 rv2 H locs hG f2 g2 hp2 hU hS => ?_)
  have hRel := hRel.fr hGp f2 g2 (by decide)
  refine lv_pop hx hb dL_law_533 rfl ?_
  refine lv_goto (tgt := 1475) hx hb dL_law_534 (by decide) ?_
  refine W.widen (k := cells + 3) (n := slots + 16) (by omega) (by omega) ?_
  exact kk _ _ _ _ _ ⟨hG, hox, hom, hRel⟩ hU hS
end
