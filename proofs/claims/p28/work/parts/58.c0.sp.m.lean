section
def ownN (iv : Iv) (t : Int) : Nat → Int32
  | 0 => 0
  | n + 1 => if (¬ (ownN iv t n).toInt = 0) ∨ (iv 35 0 n).toInt = t then 1 else 0
def spClaim (iv : Iv) (t : Int32) : Int32 := if ¬ (0 ≤ t.toInt ∧ t.toInt < (iv 0 0 20).toInt) then -1 else if ¬ (ownN iv t.toInt (iv 0 0 41).toNatClampNeg).toInt = 0 then -3 else if 30 ≤ (iv 0 0 41).toInt then -6 else 0
theorem own_iff {iv : Iv} {t : Int} : ∀ n : Nat, (¬ (ownN iv t n).toInt = 0) ↔ ∃ c : Nat, c < n ∧ (iv 35 0 c).toInt = t
  | 0 => ⟨fun h => absurd (show (0 : Int32).toInt = 0 by decide) h, fun ⟨_, h, _⟩ => absurd h (Nat.not_lt_zero _)⟩
  | n + 1 => by
    have ih := own_iff (iv := iv) (t := t) n
    show (¬ (if (¬ (ownN iv t n).toInt = 0) ∨ (iv 35 0 n).toInt = t then (1 : Int32) else 0).toInt = 0) ↔ _
    by_cases q : (¬ (ownN iv t n).toInt = 0) ∨ (iv 35 0 n).toInt = t
    · rw [if_pos q]
      refine ⟨fun _ => ?_, fun _ => by decide⟩
      rcases q with q | q
      · obtain ⟨c, h1, h2⟩ := ih.mp q; exact ⟨c, by omega, h2⟩
      · exact ⟨n, Nat.lt_succ_self _, q⟩
    · rw [if_neg q]
      refine ⟨fun z => absurd (show (0 : Int32).toInt = 0 by decide) z, fun ⟨c, h1, h2⟩ => ?_⟩
      exfalso
      by_cases e : c = n
      · rw [e] at h2; exact q (Or.inr h2)
      · exact q (Or.inl (ih.mpr ⟨c, by omega, h2⟩))
theorem own_0 {iv : Iv} {t : Int} : (ownN iv t (0 : Int32).toNatClampNeg).toInt = 0 := by
  rw [show (0 : Int32).toNatClampNeg = 0 from by decide]; show (0 : Int32).toInt = 0; decide
theorem own_up {iv : Iv} {t : Int} {x y : Int32} (h : y.toInt = x.toInt + 1) (h0 : 0 ≤ x.toInt) (i : (ownN iv t x.toNatClampNeg).toInt = 0) (c : ¬ (iv 35 0 x.toNatClampNeg).toInt = t) : (ownN iv t y.toNatClampNeg).toInt = 0 := by
  rw [clamp_s h h0]
  show (if (¬ (ownN iv t x.toNatClampNeg).toInt = 0) ∨ (iv 35 0 x.toNatClampNeg).toInt = t then (1 : Int32) else 0).toInt = 0
  rw [if_neg (fun z => z.elim (fun w => w i) c)]; decide
theorem own_end {iv : Iv} {t : Int} {x : Int32} (i : (ownN iv t x.toNatClampNeg).toInt = 0) (h : x.toInt = (iv 0 0 41).toInt) : (ownN iv t (iv 0 0 41).toNatClampNeg).toInt = 0 := by rw [← clamp_eq h]; exact i
theorem own_hit {iv : Iv} {t : Int} {x : Int32} (c : (iv 35 0 x.toNatClampNeg).toInt = t) (h : 0 ≤ x.toInt ∧ x.toInt < (iv 0 0 41).toInt) : ¬ (ownN iv t (iv 0 0 41).toNatClampNeg).toInt = 0 := (own_iff _).mpr ⟨x.toNatClampNeg, by rw [clamp_n, clamp_n]; omega, c⟩
theorem ownN_m {iv iv' : Iv} (h : MA iv iv') (t : Int) : ∀ n : Nat, ownN iv' t n = ownN iv t n
  | 0 => rfl
  | n + 1 => by
    show (if (¬ (ownN iv' t n).toInt = 0) ∨ (iv' 35 0 n).toInt = t then (1 : Int32) else 0) = (if (¬ (ownN iv t n).toInt = 0) ∨ (iv 35 0 n).toInt = t then (1 : Int32) else 0)
    rw [ownN_m h t n, h 35 _ (by decide)]
theorem spClaim_m {iv iv' : Iv} (h : MA iv iv') (t : Int32) : spClaim iv' t = spClaim iv t := by
  unfold spClaim; rw [ownN_m h, h 0 _ (by decide), h 0 _ (by decide)]
theorem claim_cnt {al al' : Al} {iv iv' : Iv} {rv rv' : Rv} (hG : GI al iv rv) {ti : Nat} {d : Int32} (h : ∃ (a a9 : Nat) (siz : Int32), siz.toInt = al.1 88 + 1 ∧ al' = grow (grow al 88 a) 89 a9 ∧ iv' = claimIv iv (al.1 88) ti d siz ∧ rv' = claimRv rv (al.1 88) ti) : (iv' 84 0 1).toInt = (iv 84 0 1).toInt + 1 := by
  obtain ⟨a, a9, siz, hs, -, e, -⟩ := h
  have n := hG.2.2.2.2.2.1.2
  rw [e, n, ← hs]
  exact congrArg Int32.toInt (up3_self _ _ _ _ _)
def sdN (iv : Iv) (c : Nat) : Nat → Int32
  | 0 => 0
  | n + 1 => sdN iv c n + iv 38 0 (5 * c + n)
theorem sd_0 {iv : Iv} {c : Nat} : (0 : Int32) = sdN iv c (0 : Int32).toNatClampNeg := by
  rw [show (0 : Int32).toNatClampNeg = 0 from by decide]; rfl
theorem sd_up {iv : Iv} {c s x y z w u : Int32} (i : s = sdN iv c.toNatClampNeg x.toNatClampNeg) (e : z = iv 38 0 u.toNatClampNeg) (ew : w = s + z) (hu : u.toInt = 5 * c.toInt + x.toInt ∧ 0 ≤ c.toInt) (hy : y.toInt = x.toInt + 1) (h0 : 0 ≤ x.toInt) : w = sdN iv c.toNatClampNeg y.toNatClampNeg := by
  have q : u.toNatClampNeg = 5 * c.toNatClampNeg + x.toNatClampNeg := by simp only [clamp_n]; omega
  rw [clamp_s hy h0, ew, i, e, q]; rfl
def spPay (iv : Iv) (c p v : Int32) : Int32 := if ¬ ((0 ≤ c.toInt ∧ c.toInt < (iv 0 0 41).toInt) ∧ (0 ≤ p.toInt ∧ p.toInt ≤ 4)) then -1 else if v.toInt < 1 then -4 else if 9999 < v.toInt ∨ 99999 < (sdN iv c.toNatClampNeg 5 + v).toInt then -6 else 0
theorem py_ok {iv iv' : Iv} {c p v x z u : Int32} {k : Nat} (e : x = iv 38 0 u.toNatClampNeg) (ez : z = x + v) (ei : iv' = up3 iv 38 0 u.toNatClampNeg z) (hu : u.toInt = 5 * c.toInt + p.toInt) (h0 : 0 ≤ c.toInt ∧ 0 ≤ p.toInt) : iv' 38 0 k = (if k = 5 * c.toNatClampNeg + p.toNatClampNeg then iv 38 0 (5 * c.toNatClampNeg + p.toNatClampNeg) + v else iv 38 0 k) := by
  have q : u.toNatClampNeg = 5 * c.toNatClampNeg + p.toNatClampNeg := by simp only [clamp_n]; omega
  rw [q] at e ei
  rw [ei, up3_k, ez, e]
theorem py_x {iv : Iv} {c n p i k : Nat} {x z v : Int32} (e : x = iv 89 c p) (ez : z = x + v) (hc : c = n) : up3 iv 89 n p z 89 i k = (if i = n ∧ k = p then iv 89 n p + v else iv 89 i k) := by
  subst hc; rw [ez, e]; simp [up3]
theorem py_s {iv iv1 : Iv} {c n p k : Nat} {x z v y : Int32} (e : x = iv1 88 c 3) (ez : z = x + v) (e1 : iv1 = up3 iv 89 c p y) (hc : c = n) : up3 iv1 88 n 3 z 88 k 3 = (if k = n then iv 88 n 3 + v else iv 88 k 3) := by
  subst hc
  by_cases q : k = c
  · rw [q, up3_self, if_pos rfl, ez, e, e1, up3_ne (fun z => absurd z.1 (by decide))]
  · rw [up3_ne (fun z => q z.2.1), if_neg q, e1, up3_ne (fun z => absurd z.1 (by decide))]
theorem sdN_m {iv iv' : Iv} (h : MA iv iv') (c : Nat) : ∀ n : Nat, sdN iv' c n = sdN iv c n
  | 0 => rfl
  | n + 1 => by
    show sdN iv' c n + iv' 38 0 (5 * c + n) = sdN iv c n + iv 38 0 (5 * c + n)
    rw [sdN_m h c n, h 38 _ (by decide)]
theorem spPay_m {iv iv' : Iv} (h : MA iv iv') (c p v : Int32) : spPay iv' c p v = spPay iv c p v := by
  unfold spPay; rw [sdN_m h, h 0 _ (by decide)]
theorem sd_add {iv iv' : Iv} {c q : Nat} {v : Int32} (hq : q < 5) (h : ∀ k : Nat, iv' 38 0 k = (if k = 5 * c + q then iv 38 0 (5 * c + q) + v else iv 38 0 k)) : sdN iv' c 5 = sdN iv c 5 + v := by
  show 0 + iv' 38 0 (5 * c + 0) + iv' 38 0 (5 * c + 1) + iv' 38 0 (5 * c + 2) + iv' 38 0 (5 * c + 3) + iv' 38 0 (5 * c + 4) = 0 + iv 38 0 (5 * c + 0) + iv 38 0 (5 * c + 1) + iv 38 0 (5 * c + 2) + iv 38 0 (5 * c + 3) + iv 38 0 (5 * c + 4) + v
  rw [h, h, h, h, h]
  match q, hq with
  | 0, _ => rw [if_pos rfl, if_neg (by omega), if_neg (by omega), if_neg (by omega), if_neg (by omega)]; grind
  | 1, _ => rw [if_neg (by omega), if_pos rfl, if_neg (by omega), if_neg (by omega), if_neg (by omega)]; grind
  | 2, _ => rw [if_neg (by omega), if_neg (by omega), if_pos rfl, if_neg (by omega), if_neg (by omega)]; grind
  | 3, _ => rw [if_neg (by omega), if_neg (by omega), if_neg (by omega), if_pos rfl, if_neg (by omega)]; grind
  | 4, _ => rw [if_neg (by omega), if_neg (by omega), if_neg (by omega), if_neg (by omega), if_pos rfl]; grind
theorem sd_keep {iv iv' : Iv} {c : Nat} (h : ∀ p : Nat, p < 5 → iv' 38 0 (5 * c + p) = iv 38 0 (5 * c + p)) : sdN iv' c 5 = sdN iv c 5 := by
  show 0 + iv' 38 0 (5 * c + 0) + iv' 38 0 (5 * c + 1) + iv' 38 0 (5 * c + 2) + iv' 38 0 (5 * c + 3) + iv' 38 0 (5 * c + 4) = 0 + iv 38 0 (5 * c + 0) + iv 38 0 (5 * c + 1) + iv 38 0 (5 * c + 2) + iv 38 0 (5 * c + 3) + iv 38 0 (5 * c + 4)
  rw [h 0 (by decide), h 1 (by decide), h 2 (by decide), h 3 (by decide), h 4 (by decide)]
end
section
def Cowe (iv : Iv) (rv : Rv) : Prop := (∀ p t : Nat, p < 5 → (t : Int) < (iv 63 0 1).toInt → iv 37 0 (20 * p + t) = iv 67 t p) ∧ (∀ p t : Nat, p < 5 → t < 20 → (iv 63 0 1).toInt ≤ t → iv 37 0 (20 * p + t) = 0)
abbrev T_Cowe : List Nat := [37, 67]
abbrev F_Cowe : List (Nat × Nat) := [(63, 1)]
theorem Cowe.keep {al : Al} {iv iv' : Iv} {rv rv' : Rv} (h : Cowe iv rv) (hG : GI al iv rv) (e : KP T_Cowe F_Cowe al iv rv iv' rv') : Cowe iv' rv' := by
  have e63 := (e 63 0 1 (h1_63 hG) (Or.inr (by decide))).1
  have e37 : ∀ k, iv' 37 0 k = iv 37 0 k := fun k => (e 37 0 k (h1_37 hG) (Or.inl (by decide))).1
  have n := hG.2.2.2.2.1.2
  have n7 : al.1 67 = al.1 65 := hG.2.2.1.2.2.2.2.1
  refine ⟨fun p t hp ht => ?_, fun p t hp ht h0 => ?_⟩
  · rw [e63] at ht
    rw [e37, (e 67 t p (by omega) (Or.inl (by decide))).1]; exact h.1 p t hp ht
  · rw [e63] at h0
    rw [e37]; exact h.2 p t hp ht h0
theorem spOwes_ok {p t v : Int32} {n : Int} (h : spOwes p t v n = 0) : (0 ≤ p.toInt ∧ p.toInt ≤ 4) ∧ (0 ≤ t.toInt ∧ t.toInt < n) := by
  unfold spOwes at h
  by_cases q : ¬ ((0 ≤ p.toInt ∧ p.toInt ≤ 4) ∧ (0 ≤ t.toInt ∧ t.toInt < n))
  · rw [if_pos q] at h; exact absurd h (by decide)
  · exact ⟨by omega, by omega⟩
end
section
set_option maxHeartbeats 4000000 in
set_option maxRecDepth 100000 in
theorem c_X12_owes_x {l : Launch} {D : va_G} {cA : FieldType → ClassId} {sz : Nat} {al : Al} {iv : Iv} {rv : Rv} (hG : GI al iv rv) (pp : Int32) (tt : Int32) (v : Int32) : Met l yX12_owes (wd yX12_owes cX12_owes 5 (some .int)) (rm 2) (PcW D cA sz al iv rv [.ref (al.2 0 0), .int pp, .int tt, .int v]) (QI D cA sz al (fI al ([16, 37], []) iv rv (fun r iv' rv' => (spOwes pp tt v (iv 0 0 20).toInt = 0 ∧ r = iv 37 0 (20 * pp.toNatClampNeg + tt.toNatClampNeg) ∧ ∀ k, iv' 37 0 k = if k = 20 * pp.toNatClampNeg + tt.toNatClampNeg then v else iv 37 0 k) ∨ (spOwes pp tt v (iv 0 0 20).toInt ≠ 0 ∧ r = spOwes pp tt v (iv 0 0 20).toInt ∧ ∀ k, iv' 37 0 k = iv 37 0 k)))) 0 0 (Aq sz) := by
  refine mk_i (by decide) (Nat.le_of_ble_eq_true rfl) rfl ?_
  intro p e s m args below meth c ls Q H locs C hU hS hl hret
  have hx := C.1.1
  have hb := C.1.2.1
  have hl : lv_has ls 5 [(0, .ref (al.2 0 0)), (1, .int pp), (2, .int tt), (3, .int v)] := hl
  have hG0 := hG
  have h6 := le6 hG
  have h20 := le20 hG
  have h41 := le41 hG
  have hF1 : FR ([16, 37], []) iv iv := FR.rf
  have hF2 : FR ([16, 37], []) rv rv := FR.rf
  have km6 : ((-6) : Int32).toInt = -6 := by decide
  have km4 : ((-4) : Int32).toInt = -4 := by decide
  have km1 : ((-1) : Int32).toInt = -1 := by decide
  have k20 : (20 : Int32).toInt = 20 := by decide
  have k9999 : (9999 : Int32).toInt = 9999 := by decide
  refine lv_iload_n hx hb dX12_owes_0 rfl (lv_at hl 1 rfl) ?_
  refine q_pi (q_runS (As := [.int pp]) (rest := []) C hU (c_X12_isPayer  pp ) sm_X12_isPayer ml_X12_290 hl.1 rfl rfl (Nat.le_of_ble_eq_true rfl) dX12_owes_1 rfl rfl ⟨Nat.le_of_ble_eq_true rfl, Nat.le_of_ble_eq_true rfl⟩ ⟨Nat.le_refl _, Nat.le_refl _⟩) hS (fun x_2 H locs hp_1 hU hS => ?_)
  refine b_if_eq (tgt := 15) hx hb dX12_owes_4 (by decide) (fun c_3 => ?_) (fun c_3 => ?_)
  ·
    refine lv_aload_n hx hb dX12_owes_15 rfl (lv_at hl 0 rfl) ?_
    refine lv_iconst (v := (-1)) hx hb dX12_owes_16 (by decide) ?_
    refine q_fi (q_runV (t := 0) (i := 0) (As := [.int (-1)]) (rest := []) C hU (c_X12_refuse hG (-1) (by omega)) vm_X12_refuse ml_X12_164 k_0.1 (hc := rfl) rfl (h1_0 hG) hl.1 rfl rfl (Nat.le_of_ble_eq_true rfl) dX12_owes_17 rfl rfl ⟨Nat.le_of_ble_eq_true rfl, Nat.le_of_ble_eq_true rfl⟩ ⟨Nat.le_refl _, Nat.le_refl _⟩) hS (fun x_9 iv_5 rv_6 H locs hG fa_7 fb_8 hp_4 hU hS => ?_)
    have hF1 := hF1.tr (m := ([16, 37], [])) fa_7 (by decide)
    have hF2 := hF2.tr (m := ([16, 37], [])) fb_8 (by decide)
    exact hret (⟨hG, hF1, hF2, sp_no (z := (-1)) (by unfold spOwes; (repeat' split) <;> first | rfl | omega) (by decide) hp_4 (fun k => fa_7.arr 37 0 k (by decide))⟩) hU hS dX12_owes_20
  ·
    refine lv_aload_n hx hb dX12_owes_7 rfl (lv_at hl 0 rfl) ?_
    refine lv_iload_n hx hb dX12_owes_8 rfl (lv_at hl 2 rfl) ?_
    refine q_pi (q_runV (t := 0) (i := 0) (As := [.int tt]) (rest := []) C hU (c_X12_isTraveller hG tt ) vm_X12_isTraveller ml_X12_226 k_0.1 (hc := rfl) rfl (h1_0 hG) hl.1 rfl rfl (Nat.le_of_ble_eq_true rfl) dX12_owes_9 rfl rfl ⟨Nat.le_of_ble_eq_true rfl, Nat.le_of_ble_eq_true rfl⟩ ⟨Nat.le_refl _, Nat.le_refl _⟩) hS (fun x_11 H locs hp_10 hU hS => ?_)
    refine b_if_ne (tgt := 21) hx hb dX12_owes_12 (by decide) (fun c_12 => ?_) (fun c_12 => ?_)
    ·
      refine lv_iload_n hx hb dX12_owes_21 rfl (lv_at hl 3 rfl) ?_
      refine b_if_ge (tgt := 32) hx hb dX12_owes_22 (by decide) (fun c_13 => ?_) (fun c_13 => ?_)
      ·
        refine lv_iload_n hx hb dX12_owes_32 rfl (lv_at hl 3 rfl) ?_
        refine lv_sipush (v := 9999) hx hb dX12_owes_33 (by decide) ?_
        refine b_icmp_le (tgt := 46) hx hb dX12_owes_36 (by decide) (fun c_14 => ?_) (fun c_14 => ?_)
        ·
          refine lv_aload_n hx hb dX12_owes_46 rfl (lv_at hl 0 rfl) ?_
          refine g_0_44 C hU hG (h1_0 hG) fl_X12_119 dX12_owes_47 ?_
          refine lv_bipush (v := 20) hx hb dX12_owes_50 (by decide) ?_
          refine lv_iload_n hx hb dX12_owes_52 rfl (lv_at hl 1 rfl) ?_
          refine lv_imul hx hb dX12_owes_53 ?_
          refine lv_topi (fun x_15 e_16 => ?_)
          have te_16 : x_15.toInt = 20 * (pp : Int32).toInt := by rw [e_16, fb_mulI (by rw [show (20 : Int32).toInt = 20 from by decide]; omega) (by rw [show (20 : Int32).toInt = 20 from by decide]; omega), show (20 : Int32).toInt = 20 from by decide]
          refine lv_iload_n hx hb dX12_owes_54 rfl (lv_at hl 2 rfl) ?_
          refine lv_iadd hx hb dX12_owes_55 ?_
          refine lv_topi (fun x_17 e_18 => ?_)
          have te_18 : x_17.toInt = (x_15 : Int32).toInt + (tt : Int32).toInt := by rw [e_18]; exact fb_addI (by omega) (by omega)
          refine a_37 C hU hG (h1_37 hG) (x := x_17) (by omega) (by omega) dX12_owes_56 (fun x_19 e_20 => ?_)
          have te_20 := congrArg Int32.toInt e_20
          refine lv_istore (lv' := [(4, .int x_19), (0, .ref (al.2 0 0)), (1, .int pp), (2, .int tt), (3, .int v)]) hx hb dX12_owes_57 hl (by decide) rfl (fun ls hl => ?_)
          refine lv_aload_n hx hb dX12_owes_59 rfl (lv_at hl 1 rfl) ?_
          refine g_0_44 C hU hG (h1_0 hG) fl_X12_119 dX12_owes_60 ?_
          refine lv_bipush (v := 20) hx hb dX12_owes_63 (by decide) ?_
          refine lv_iload_n hx hb dX12_owes_65 rfl (lv_at hl 2 rfl) ?_
          refine lv_imul hx hb dX12_owes_66 ?_
          refine lv_topi (fun x_21 e_22 => ?_)
          have te_22 : x_21.toInt = 20 * (pp : Int32).toInt := by rw [e_22, fb_mulI (by rw [show (20 : Int32).toInt = 20 from by decide]; omega) (by rw [show (20 : Int32).toInt = 20 from by decide]; omega), show (20 : Int32).toInt = 20 from by decide]
          refine lv_iload_n hx hb dX12_owes_67 rfl (lv_at hl 3 rfl) ?_
          refine lv_iadd hx hb dX12_owes_68 ?_
          refine lv_topi (fun x_23 e_24 => ?_)
          have te_24 : x_23.toInt = (x_21 : Int32).toInt + (tt : Int32).toInt := by rw [e_24]; exact fb_addI (by omega) (by omega)
          refine lv_iload_n hx hb dX12_owes_69 rfl (lv_at hl 4 rfl) ?_
          refine s_37 C hU hS (h1_37 hG) (x := x_23) (by omega) (by omega) dX12_owes_70 (fun iv_25 H locs ei_26 hU hS => ?_)
          have hG : GI al iv_25 rv := by rw [ei_26]; exact hG.puti (show _ ∧ _ from ⟨(fb_rng _).1, Int.le_of_lt_add_one (fb_rng _).2⟩) (nsA (by decide) _)
          have hF1 : FR ([16, 37], []) iv iv_25 := by rw [ei_26]; exact hF1.put (Or.inl (by decide))
          refine lv_iload hx hb dX12_owes_71 (lv_at hl 0 rfl) ?_
          exact hret (⟨hG, hF1, hF2, Or.inl ⟨(by unfold spOwes; (repeat' split) <;> first | rfl | omega), by rw [e_20, show (x_17 : Int32).toNatClampNeg = 20 * pp.toNatClampNeg + tt.toNatClampNeg from by simp only [clamp_n]; omega], fun k => by rw [ei_26, show (x_23 : Int32).toNatClampNeg = 20 * pp.toNatClampNeg + tt.toNatClampNeg from by simp only [clamp_n]; omega]; simp [up3]⟩⟩) hU hS dX12_owes_73
        ·
          refine lv_aload_n hx hb dX12_owes_39 rfl (lv_at hl 0 rfl) ?_
          refine lv_bipush (v := (-6)) hx hb dX12_owes_40 (by decide) ?_
          refine q_fi (q_runV (t := 0) (i := 0) (As := [.int (-6)]) (rest := []) C hU (c_X12_refuse hG (-6) (by omega)) vm_X12_refuse ml_X12_164 k_0.1 (hc := rfl) rfl (h1_0 hG) hl.1 rfl rfl (Nat.le_of_ble_eq_true rfl) dX12_owes_42 rfl rfl ⟨Nat.le_of_ble_eq_true rfl, Nat.le_of_ble_eq_true rfl⟩ ⟨Nat.le_refl _, Nat.le_refl _⟩) hS (fun x_32 iv_28 rv_29 H locs hG fa_30 fb_31 hp_27 hU hS => ?_)
          have hF1 := hF1.tr (m := ([16, 37], [])) fa_30 (by decide)
          have hF2 := hF2.tr (m := ([16, 37], [])) fb_31 (by decide)
          exact hret (⟨hG, hF1, hF2, sp_no (z := (-6)) (by unfold spOwes; (repeat' split) <;> first | rfl | omega) (by decide) hp_27 (fun k => fa_30.arr 37 0 k (by decide))⟩) hU hS dX12_owes_45
      ·
        refine lv_aload_n hx hb dX12_owes_25 rfl (lv_at hl 0 rfl) ?_
        refine lv_bipush (v := (-4)) hx hb dX12_owes_26 (by decide) ?_
        refine q_fi (q_runV (t := 0) (i := 0) (As := [.int (-4)]) (rest := []) C hU (c_X12_refuse hG (-4) (by omega)) vm_X12_refuse ml_X12_164 k_0.1 (hc := rfl) rfl (h1_0 hG) hl.1 rfl rfl (Nat.le_of_ble_eq_true rfl) dX12_owes_28 rfl rfl ⟨Nat.le_of_ble_eq_true rfl, Nat.le_of_ble_eq_true rfl⟩ ⟨Nat.le_refl _, Nat.le_refl _⟩) hS (fun x_38 iv_34 rv_35 H locs hG fa_36 fb_37 hp_33 hU hS => ?_)
        have hF1 := hF1.tr (m := ([16, 37], [])) fa_36 (by decide)
        have hF2 := hF2.tr (m := ([16, 37], [])) fb_37 (by decide)
        exact hret (⟨hG, hF1, hF2, sp_no (z := (-4)) (by unfold spOwes; (repeat' split) <;> first | rfl | omega) (by decide) hp_33 (fun k => fa_36.arr 37 0 k (by decide))⟩) hU hS dX12_owes_31
    ·
      refine lv_aload_n hx hb dX12_owes_15 rfl (lv_at hl 0 rfl) ?_
      refine lv_iconst (v := (-1)) hx hb dX12_owes_16 (by decide) ?_
      refine q_fi (q_runV (t := 0) (i := 0) (As := [.int (-1)]) (rest := []) C hU (c_X12_refuse hG (-1) (by omega)) vm_X12_refuse ml_X12_164 k_0.1 (hc := rfl) rfl (h1_0 hG) hl.1 rfl rfl (Nat.le_of_ble_eq_true rfl) dX12_owes_17 rfl rfl ⟨Nat.le_of_ble_eq_true rfl, Nat.le_of_ble_eq_true rfl⟩ ⟨Nat.le_refl _, Nat.le_refl _⟩) hS (fun x_44 iv_40 rv_41 H locs hG fa_42 fb_43 hp_39 hU hS => ?_)
      have hF1 := hF1.tr (m := ([16, 37], [])) fa_42 (by decide)
      have hF2 := hF2.tr (m := ([16, 37], [])) fb_43 (by decide)
      exact hret (⟨hG, hF1, hF2, sp_no (z := (-1)) (by unfold spOwes; (repeat' split) <;> first | rfl | omega) (by decide) hp_39 (fun k => fa_42.arr 37 0 k (by decide))⟩) hU hS dX12_owes_20
set_option maxHeartbeats 4000000 in
set_option maxRecDepth 100000 in
theorem c_X11_owes_x {l : Launch} {D : va_G} {cA : FieldType → ClassId} {sz : Nat} {al : Al} {iv : Iv} {rv : Rv} (hG : GI al iv rv) (pp : Int32) (tt : Int32) (v : Int32) : Met l yX11_owes (wd yX11_owes cX11_owes 6 (some .int)) (rm 2) (PcW D cA sz al iv rv [.ref (al.2 49 0), .int pp, .int tt, .int v]) (QI D cA sz al (fI al ([51, 67], []) iv rv (fun r iv' rv' => (spOwes pp tt v (iv 63 0 1).toInt = 0 ∧ r = iv 67 tt.toNatClampNeg pp.toNatClampNeg ∧ ∀ i k, iv' 67 i k = if i = tt.toNatClampNeg ∧ k = pp.toNatClampNeg then v else iv 67 i k) ∨ (spOwes pp tt v (iv 63 0 1).toInt ≠ 0 ∧ r = spOwes pp tt v (iv 63 0 1).toInt ∧ ∀ i k, iv' 67 i k = iv 67 i k)))) 0 0 (Aq sz) := by
  refine mk_i (by decide) (Nat.le_of_ble_eq_true rfl) rfl ?_
  intro p e s m args below meth c ls Q H locs C hU hS hl hret
  have hx := C.1.1
  have hb := C.1.2.1
  have hl : lv_has ls 6 [(0, .ref (al.2 49 0)), (1, .int pp), (2, .int tt), (3, .int v)] := hl
  have hG0 := hG
  have hF1 : FR ([51, 67], []) iv iv := FR.rf
  have hF2 : FR ([51, 67], []) rv rv := FR.rf
  have km6 : ((-6) : Int32).toInt = -6 := by decide
  have km4 : ((-4) : Int32).toInt = -4 := by decide
  have km1 : ((-1) : Int32).toInt = -1 := by decide
  have k5 : (5 : Int32).toInt = 5 := by decide
  have k9999 : (9999 : Int32).toInt = 9999 := by decide
  refine lv_aload_n hx hb dX11_owes_0 rfl (lv_at hl 0 rfl) ?_
  refine g_49_2 C hU hG (h1_49 hG) fl_X11_26 dX11_owes_1 ?_
  refine lv_iload_n hx hb dX11_owes_4 rfl (lv_at hl 2 rfl) ?_
  refine q_pr (q_runV (t := 63) (i := 0) (As := [.int tt]) (rest := []) C hU (c_X9_find hG tt ) vm_X9_find ml_X11_192 k_63.1 (hc := rfl) rfl (h1_63 hG) hl.1 rfl rfl (Nat.le_of_ble_eq_true rfl) dX11_owes_5 rfl rfl ⟨Nat.le_of_ble_eq_true rfl, Nat.le_of_ble_eq_true rfl⟩ ⟨Nat.le_refl _, Nat.le_refl _⟩) hS (fun r_2 H locs hp_1 hU hS => ?_)
  have hb_3 := hp_1.1
  refine b_astore (lv' := [(4, rfv al 65 r_2), (0, .ref (al.2 49 0)), (1, .int pp), (2, .int tt), (3, .int v)]) hx hb dX11_owes_8 hl (by decide) rfl (fun ls hl => ?_)
  refine lv_iconst (v := 5) hx hb dX11_owes_10 (by decide) ?_
  refine lv_iload_n hx hb dX11_owes_11 rfl (lv_at hl 2 rfl) ?_
  refine q_pi (q_runS (As := [.int 5, .int pp]) (rest := []) C hU (c_X11_isOneOf  5 pp ) sm_X11_isOneOf ml_X11_85 hl.1 rfl rfl (Nat.le_of_ble_eq_true rfl) dX11_owes_12 rfl rfl ⟨Nat.le_of_ble_eq_true rfl, Nat.le_of_ble_eq_true rfl⟩ ⟨Nat.le_refl _, Nat.le_refl _⟩) hS (fun x_5 H locs hp_4 hU hS => ?_)
  refine b_if_eq (tgt := 23) hx hb dX11_owes_15 (by decide) (fun c_6 => ?_) (fun c_6 => ?_)
  ·
    refine lv_aload_n hx hb dX11_owes_23 rfl (lv_at hl 1 rfl) ?_
    refine lv_iconst (v := (-1)) hx hb dX11_owes_24 (by decide) ?_
    refine q_fi (q_runV (t := 49) (i := 0) (As := [.int (-1)]) (rest := []) C hU (c_X11_refuse hG (-1) (by omega)) vm_X11_refuse ml_X11_77 k_49.1 (hc := rfl) rfl (h1_49 hG) hl.1 rfl rfl (Nat.le_of_ble_eq_true rfl) dX11_owes_25 rfl rfl ⟨Nat.le_of_ble_eq_true rfl, Nat.le_of_ble_eq_true rfl⟩ ⟨Nat.le_refl _, Nat.le_refl _⟩) hS (fun x_12 iv_8 rv_9 H locs hG fa_10 fb_11 hp_7 hU hS => ?_)
    have hF1 := hF1.tr (m := ([51, 67], [])) fa_10 (by decide)
    have hF2 := hF2.tr (m := ([51, 67], [])) fb_11 (by decide)
    exact hret (⟨hG, hF1, hF2, sp_no (z := (-1)) (by unfold spOwes; (repeat' split) <;> first | rfl | omega) (by decide) hp_7 (fun i k => fa_10.arr 67 i k (by decide))⟩) hU hS dX11_owes_28
  ·
    refine b_aload (al := al) (t' := 65) (r := r_2) hx hb dX11_owes_18 (lv_at hl 0 rfl) ?_
    refine b_ifnonnull (tgt := 29) hx hb dX11_owes_20 (by decide) (fun j_14 ej_15 => ?_) (fun ej_15 => ?_)
    ·
      subst ej_15
      have hl : lv_has ls 6 [(4, .ref (al.2 65 j_14)), (0, .ref (al.2 49 0)), (1, .int pp), (2, .int tt), (3, .int v)] := hl
      have hb_16 : j_14 < al.1 65 := hb_3 j_14 rfl
      have hq4 := hp_1.2.1 _ rfl
      have hn4 := hq4.1
      rw [clamp_n] at hn4
      refine lv_iload_n hx hb dX11_owes_29 rfl (lv_at hl 4 rfl) ?_
      refine b_if_ge (tgt := 40) hx hb dX11_owes_30 (by decide) (fun c_17 => ?_) (fun c_17 => ?_)
      ·
        refine lv_iload_n hx hb dX11_owes_40 rfl (lv_at hl 4 rfl) ?_
        refine lv_sipush (v := 9999) hx hb dX11_owes_41 (by decide) ?_
        refine b_icmp_le (tgt := 54) hx hb dX11_owes_44 (by decide) (fun c_18 => ?_) (fun c_18 => ?_)
        ·
          refine lv_aload hx hb dX11_owes_54 (lv_at hl 0 rfl) ?_
          refine g_65_5 C hU hG hb_16 fl_X11_285 dX11_owes_56 (fun hb_19 => ?_)
          refine lv_iload_n hx hb dX11_owes_59 rfl (lv_at hl 2 rfl) ?_
          refine a_67 C hU hG hb_19 (x := pp) (by omega) (by omega) dX11_owes_60 (fun x_20 e_21 => ?_)
          have te_21 := congrArg Int32.toInt e_21
          refine lv_istore (lv' := [(5, .int x_20), (4, .ref (al.2 65 j_14)), (0, .ref (al.2 49 0)), (1, .int pp), (2, .int tt), (3, .int v)]) hx hb dX11_owes_61 hl (by decide) rfl (fun ls hl => ?_)
          refine lv_aload hx hb dX11_owes_63 (lv_at hl 1 rfl) ?_
          refine g_65_5 C hU hG hb_16 fl_X11_285 dX11_owes_65 (fun hb_22 => ?_)
          refine lv_iload_n hx hb dX11_owes_68 rfl (lv_at hl 3 rfl) ?_
          refine lv_iload_n hx hb dX11_owes_69 rfl (lv_at hl 5 rfl) ?_
          refine s_67 C hU hS hb_22 (x := pp) (by omega) (by omega) dX11_owes_70 (fun iv_23 H locs ei_24 hU hS => ?_)
          have hG : GI al iv_23 rv := by rw [ei_24]; exact hG.puti (show _ ∧ _ from ⟨(fb_rng _).1, Int.le_of_lt_add_one (fb_rng _).2⟩) (nsA (by decide) _)
          have hF1 : FR ([51, 67], []) iv iv_23 := by rw [ei_24]; exact hF1.put (Or.inl (by decide))
          refine lv_iload hx hb dX11_owes_71 (lv_at hl 0 rfl) ?_
          exact hret (⟨hG, hF1, hF2, Or.inl ⟨(by unfold spOwes; (repeat' split) <;> first | rfl | omega), by rw [e_21, hq4.1], fun i k => by rw [ei_24, hq4.1]; simp [up3]⟩⟩) hU hS dX11_owes_73
        ·
          refine lv_aload_n hx hb dX11_owes_47 rfl (lv_at hl 1 rfl) ?_
          refine lv_bipush (v := (-6)) hx hb dX11_owes_48 (by decide) ?_
          refine q_fi (q_runV (t := 49) (i := 0) (As := [.int (-6)]) (rest := []) C hU (c_X11_refuse hG (-6) (by omega)) vm_X11_refuse ml_X11_77 k_49.1 (hc := rfl) rfl (h1_49 hG) hl.1 rfl rfl (Nat.le_of_ble_eq_true rfl) dX11_owes_50 rfl rfl ⟨Nat.le_of_ble_eq_true rfl, Nat.le_of_ble_eq_true rfl⟩ ⟨Nat.le_refl _, Nat.le_refl _⟩) hS (fun x_30 iv_26 rv_27 H locs hG fa_28 fb_29 hp_25 hU hS => ?_)
          have hF1 := hF1.tr (m := ([51, 67], [])) fa_28 (by decide)
          have hF2 := hF2.tr (m := ([51, 67], [])) fb_29 (by decide)
          exact hret (⟨hG, hF1, hF2, sp_no (z := (-6)) (by unfold spOwes; (repeat' split) <;> first | rfl | omega) (by decide) hp_25 (fun i k => fa_28.arr 67 i k (by decide))⟩) hU hS dX11_owes_53
      ·
        refine lv_aload_n hx hb dX11_owes_33 rfl (lv_at hl 1 rfl) ?_
        refine lv_bipush (v := (-4)) hx hb dX11_owes_34 (by decide) ?_
        refine q_fi (q_runV (t := 49) (i := 0) (As := [.int (-4)]) (rest := []) C hU (c_X11_refuse hG (-4) (by omega)) vm_X11_refuse ml_X11_77 k_49.1 (hc := rfl) rfl (h1_49 hG) hl.1 rfl rfl (Nat.le_of_ble_eq_true rfl) dX11_owes_36 rfl rfl ⟨Nat.le_of_ble_eq_true rfl, Nat.le_of_ble_eq_true rfl⟩ ⟨Nat.le_refl _, Nat.le_refl _⟩) hS (fun x_36 iv_32 rv_33 H locs hG fa_34 fb_35 hp_31 hU hS => ?_)
        have hF1 := hF1.tr (m := ([51, 67], [])) fa_34 (by decide)
        have hF2 := hF2.tr (m := ([51, 67], [])) fb_35 (by decide)
        exact hret (⟨hG, hF1, hF2, sp_no (z := (-4)) (by unfold spOwes; (repeat' split) <;> first | rfl | omega) (by decide) hp_31 (fun i k => fa_34.arr 67 i k (by decide))⟩) hU hS dX11_owes_39
    ·
      subst ej_15
      have hl : lv_has ls 6 [(4, rfv al 65 none), (0, .ref (al.2 49 0)), (1, .int pp), (2, .int tt), (3, .int v)] := hl
      have hq4 := hp_1.2.2 rfl
      refine lv_aload_n hx hb dX11_owes_23 rfl (lv_at hl 1 rfl) ?_
      refine lv_iconst (v := (-1)) hx hb dX11_owes_24 (by decide) ?_
      refine q_fi (q_runV (t := 49) (i := 0) (As := [.int (-1)]) (rest := []) C hU (c_X11_refuse hG (-1) (by omega)) vm_X11_refuse ml_X11_77 k_49.1 (hc := rfl) rfl (h1_49 hG) hl.1 rfl rfl (Nat.le_of_ble_eq_true rfl) dX11_owes_25 rfl rfl ⟨Nat.le_of_ble_eq_true rfl, Nat.le_of_ble_eq_true rfl⟩ ⟨Nat.le_refl _, Nat.le_refl _⟩) hS (fun x_42 iv_38 rv_39 H locs hG fa_40 fb_41 hp_37 hU hS => ?_)
      have hF1 := hF1.tr (m := ([51, 67], [])) fa_40 (by decide)
      have hF2 := hF2.tr (m := ([51, 67], [])) fb_41 (by decide)
      exact hret (⟨hG, hF1, hF2, sp_no (z := (-1)) (by unfold spOwes; (repeat' split) <;> first | rfl | omega) (by decide) hp_37 (fun i k => fa_40.arr 67 i k (by decide))⟩) hU hS dX11_owes_28
end
section
theorem Clegn.s_leg {al al1 : Al} {iv iv1 iv2 : Iv} {rv rv1 rv2 : Rv} {a b pp cc_ lv_ rr r1 r2 : Int32} (hG : GI al iv rv) (hClegn : Clegn iv rv) (p1 : (spLeg a b pp cc_ lv_ rr (iv 57 0 1).toInt = 0 ∧ r1.toInt = (iv 57 0 1).toInt ∧ (iv1 57 0 1).toInt = (iv 57 0 1).toInt + 1 ∧ ∃ (aa : Nat) (siz : Int32), siz.toInt = al.1 62 + 1 ∧ al1 = grow al 62 aa ∧ iv1 = legIv iv (al.1 62) r1 pp cc_ lv_ rr siz ∧ rv1 = legRv rv (al.1 62) a.toNatClampNeg b.toNatClampNeg) ∨ (spLeg a b pp cc_ lv_ rr (iv 57 0 1).toInt ≠ 0 ∧ r1 = spLeg a b pp cc_ lv_ rr (iv 57 0 1).toInt ∧ iv1 57 0 1 = iv 57 0 1)) (p2 : (spLeg a b pp cc_ lv_ rr (iv1 0 0 6).toInt = 0 ∧ r2.toInt = (iv1 0 0 6).toInt ∧ (iv2 0 0 6).toInt = (iv1 0 0 6).toInt + 1 ∧ lgM iv1 iv2 a b pp cc_ lv_ rr) ∨ (spLeg a b pp cc_ lv_ rr (iv1 0 0 6).toInt ≠ 0 ∧ r2 = spLeg a b pp cc_ lv_ rr (iv1 0 0 6).toInt ∧ iv2 0 0 6 = iv1 0 0 6 ∧ lgK iv1 iv2)) (x1 : EX ([51, 58], [(57, 1)]) al iv rv al1 iv1 rv1) (f2 : FR ([16, 5, 6, 7, 8, 9, 10], [(0, 6)]) iv1 iv2) (g2 : FR ([16, 5, 6, 7, 8, 9, 10], [(0, 6)]) rv1 rv2) : Clegn iv2 rv2 := by
  have e6 : (iv1 0 0 6).toInt = (iv 57 0 1).toInt := by rw [(x1.2.2 0 0 6 (h1_0 hG) (by decide)).1]; exact congrArg Int32.toInt hClegn
  have n := hG.2.2.2.1.2
  have c57 := f2 57 0 1 (by decide)
  rw [e6] at p2
  unfold Clegn
  rcases two_cases p1 p2 with ⟨o, ⟨q1, q2, aa, siz, hs, ha, hi, hr⟩, ⟨s1, s2, M⟩⟩ | ⟨o, ⟨q1, q2⟩, ⟨s1, s2, M⟩⟩
  · exact (fa_eq _ _).mpr (by rw [c57]; omega)
  · exact (fa_eq _ _).mpr (by rw [c57, q2, s2]; omega)
theorem Ctkn.s_traveller {al al1 : Al} {iv iv1 iv2 : Iv} {rv rv1 rv2 : Rv} {lg r1 r2 : Int32} (hG : GI al iv rv) (hClegn : Clegn iv rv) (hCtkn : Ctkn iv rv) (p1 : (spTrav lg (iv 57 0 1).toInt (iv 63 0 1).toInt = 0 ∧ r1.toInt = (iv 63 0 1).toInt ∧ (iv1 63 0 1).toInt = (iv 63 0 1).toInt + 1 ∧ ∃ (aa a6 a7 : Nat) (siz : Int32), siz.toInt = al.1 65 + 1 ∧ al1 = grow (grow (grow al 65 aa) 66 a6) 67 a7 ∧ iv1 = tickIv iv (al.1 65) r1 siz ∧ rv1 = tickRv rv (al.1 65) lg.toNatClampNeg) ∨ (spTrav lg (iv 57 0 1).toInt (iv 63 0 1).toInt ≠ 0 ∧ r1 = spTrav lg (iv 57 0 1).toInt (iv 63 0 1).toInt ∧ iv1 63 0 1 = iv 63 0 1)) (p2 : (spTrav lg (iv1 0 0 6).toInt (iv1 0 0 20).toInt = 0 ∧ r2.toInt = (iv1 0 0 20).toInt ∧ (iv2 0 0 20).toInt = (iv1 0 0 20).toInt + 1 ∧ (∀ k : Nat, iv2 18 0 k = (if k = 4 * (iv1 0 0 20).toNatClampNeg then lg else iv1 18 0 k) ∧ iv2 19 0 k = (if k = (iv1 0 0 20).toNatClampNeg then 1 else iv1 19 0 k))) ∨ (spTrav lg (iv1 0 0 6).toInt (iv1 0 0 20).toInt ≠ 0 ∧ r2 = spTrav lg (iv1 0 0 6).toInt (iv1 0 0 20).toInt ∧ iv2 0 0 20 = iv1 0 0 20 ∧ (∀ k : Nat, iv2 18 0 k = iv1 18 0 k ∧ iv2 19 0 k = iv1 19 0 k))) (x1 : EX ([51, 64], [(63, 1)]) al iv rv al1 iv1 rv1) (f2 : FR ([16, 18, 19], [(0, 20)]) iv1 iv2) (g2 : FR ([16, 18, 19], [(0, 20)]) rv1 rv2) : Ctkn iv2 rv2 := by
  have e6 : (iv1 0 0 6).toInt = (iv 57 0 1).toInt := by rw [(x1.2.2 0 0 6 (h1_0 hG) (by decide)).1]; exact congrArg Int32.toInt hClegn
  have e20 : (iv1 0 0 20).toInt = (iv 63 0 1).toInt := by rw [(x1.2.2 0 0 20 (h1_0 hG) (by decide)).1]; exact congrArg Int32.toInt hCtkn
  have n := hG.2.2.2.2.1.2
  have c63 := f2 63 0 1 (by decide)
  have N : (iv1 0 0 20).toNatClampNeg = al.1 65 := by rw [clamp_n]; omega
  rw [e6, e20, N] at p2
  unfold Ctkn
  rcases two_cases p1 p2 with ⟨o, ⟨q1, q2, aa, a6, a7, siz, hs, ha, hi, hr⟩, ⟨s1, s2, M⟩⟩ | ⟨o, ⟨q1, q2⟩, ⟨s1, s2, M⟩⟩
  · exact (fa_eq _ _).mpr (by rw [c63]; omega)
  · exact (fa_eq _ _).mpr (by rw [c63, q2, s2]; omega)
theorem Cowe.s_traveller {al al1 : Al} {iv iv1 iv2 : Iv} {rv rv1 rv2 : Rv} {lg r1 r2 : Int32} (hG : GI al iv rv) (hClegn : Clegn iv rv) (hCtkn : Ctkn iv rv) (hCowe : Cowe iv rv) (p1 : (spTrav lg (iv 57 0 1).toInt (iv 63 0 1).toInt = 0 ∧ r1.toInt = (iv 63 0 1).toInt ∧ (iv1 63 0 1).toInt = (iv 63 0 1).toInt + 1 ∧ ∃ (aa a6 a7 : Nat) (siz : Int32), siz.toInt = al.1 65 + 1 ∧ al1 = grow (grow (grow al 65 aa) 66 a6) 67 a7 ∧ iv1 = tickIv iv (al.1 65) r1 siz ∧ rv1 = tickRv rv (al.1 65) lg.toNatClampNeg) ∨ (spTrav lg (iv 57 0 1).toInt (iv 63 0 1).toInt ≠ 0 ∧ r1 = spTrav lg (iv 57 0 1).toInt (iv 63 0 1).toInt ∧ iv1 63 0 1 = iv 63 0 1)) (p2 : (spTrav lg (iv1 0 0 6).toInt (iv1 0 0 20).toInt = 0 ∧ r2.toInt = (iv1 0 0 20).toInt ∧ (iv2 0 0 20).toInt = (iv1 0 0 20).toInt + 1 ∧ (∀ k : Nat, iv2 18 0 k = (if k = 4 * (iv1 0 0 20).toNatClampNeg then lg else iv1 18 0 k) ∧ iv2 19 0 k = (if k = (iv1 0 0 20).toNatClampNeg then 1 else iv1 19 0 k))) ∨ (spTrav lg (iv1 0 0 6).toInt (iv1 0 0 20).toInt ≠ 0 ∧ r2 = spTrav lg (iv1 0 0 6).toInt (iv1 0 0 20).toInt ∧ iv2 0 0 20 = iv1 0 0 20 ∧ (∀ k : Nat, iv2 18 0 k = iv1 18 0 k ∧ iv2 19 0 k = iv1 19 0 k))) (x1 : EX ([51, 64], [(63, 1)]) al iv rv al1 iv1 rv1) (f2 : FR ([16, 18, 19], [(0, 20)]) iv1 iv2) (g2 : FR ([16, 18, 19], [(0, 20)]) rv1 rv2) : Cowe iv2 rv2 := by
  have e6 : (iv1 0 0 6).toInt = (iv 57 0 1).toInt := by rw [(x1.2.2 0 0 6 (h1_0 hG) (by decide)).1]; exact congrArg Int32.toInt hClegn
  have e20 : (iv1 0 0 20).toInt = (iv 63 0 1).toInt := by rw [(x1.2.2 0 0 20 (h1_0 hG) (by decide)).1]; exact congrArg Int32.toInt hCtkn
  have n := hG.2.2.2.2.1.2
  have c63 := f2 63 0 1 (by decide)
  have N : (iv1 0 0 20).toNatClampNeg = al.1 65 := by rw [clamp_n]; omega
  rw [e6, e20, N] at p2
  have n7 : al.1 67 = al.1 65 := hG.2.2.1.2.2.2.2.1
  have bd2 : (iv 63 0 1).toInt ≤ 20 := (hG.1 63 0 1 (h1_63 hG) (by decide)).2
  have m37 : ∀ k, iv2 37 0 k = iv 37 0 k := fun k => by rw [f2.arr 37 0 k (by decide), (x1.2.2 37 0 k (h1_37 hG) (MD.no (by decide))).1]
  have old : ∀ t p, t < al.1 67 → iv2 67 t p = iv 67 t p := fun t p ht => by rw [f2.arr 67 t p (by decide), (x1.2.2 67 t p ht (MD.no (by decide))).1]
  rcases two_cases p1 p2 with ⟨o, ⟨q1, q2, aa, a6, a7, siz, hs, ha, hi, hr⟩, ⟨s1, s2, M⟩⟩ | ⟨o, ⟨q1, q2⟩, ⟨s1, s2, M⟩⟩
  · have lt : (iv 63 0 1).toInt < 20 := by
      unfold spTrav at o
      by_cases w : ¬ (0 ≤ lg.toInt ∧ lg.toInt < (iv 57 0 1).toInt)
      · rw [if_pos w] at o; exact absurd o (by decide)
      · rw [if_neg w] at o
        by_cases w2 : 20 ≤ (iv 63 0 1).toInt
        · rw [if_pos w2] at o; exact absurd o (by decide)
        · omega
    have new : ∀ p, iv2 67 (al.1 65) p = 0 := fun p => by
      rw [f2.arr 67 _ p (by decide), hi]
      unfold tickIv
      rw [up3_ne (fun z => absurd z.1 (by decide)), clr_self]
    refine ⟨fun p t hp ht => ?_, fun p t hp ht h0 => ?_⟩
    · rw [c63, q2] at ht
      rw [m37]
      by_cases z : t = al.1 65
      · rw [z, new]; exact hCowe.2 p _ hp (by omega) (by omega)
      · rw [old t p (by omega)]; exact hCowe.1 p t hp (by omega)
    · rw [c63, q2] at h0; rw [m37]; exact hCowe.2 p t hp ht (by omega)
  · refine ⟨fun p t hp ht => ?_, fun p t hp ht h0 => ?_⟩
    · rw [c63, q2] at ht; rw [m37, old t p (by omega)]; exact hCowe.1 p t hp ht
    · rw [c63, q2] at h0; rw [m37]; exact hCowe.2 p t hp ht h0
theorem Cowe.s_owes {al al1 : Al} {iv iv1 iv2 : Iv} {rv rv1 rv2 : Rv} {pp tt v r1 r2 : Int32} (hG : GI al iv rv) (hCtkn : Ctkn iv rv) (hCowe : Cowe iv rv) (p1 : (spOwes pp tt v (iv 63 0 1).toInt = 0 ∧ r1 = iv 67 tt.toNatClampNeg pp.toNatClampNeg ∧ ∀ i k, iv1 67 i k = if i = tt.toNatClampNeg ∧ k = pp.toNatClampNeg then v else iv 67 i k) ∨ (spOwes pp tt v (iv 63 0 1).toInt ≠ 0 ∧ r1 = spOwes pp tt v (iv 63 0 1).toInt ∧ ∀ i k, iv1 67 i k = iv 67 i k)) (p2 : (spOwes pp tt v (iv1 0 0 20).toInt = 0 ∧ r2 = iv1 37 0 (20 * pp.toNatClampNeg + tt.toNatClampNeg) ∧ ∀ k, iv2 37 0 k = if k = 20 * pp.toNatClampNeg + tt.toNatClampNeg then v else iv1 37 0 k) ∨ (spOwes pp tt v (iv1 0 0 20).toInt ≠ 0 ∧ r2 = spOwes pp tt v (iv1 0 0 20).toInt ∧ ∀ k, iv2 37 0 k = iv1 37 0 k)) (x1 : EX ([51, 67], []) al iv rv al1 iv1 rv1) (f2 : FR ([16, 37], []) iv1 iv2) (g2 : FR ([16, 37], []) rv1 rv2) : Cowe iv2 rv2 := by
  have bd2 : (iv 63 0 1).toInt ≤ 20 := (hG.1 63 0 1 (h1_63 hG) (by decide)).2
  have e20 : (iv1 0 0 20).toInt = (iv 63 0 1).toInt := by rw [(x1.2.2 0 0 20 (h1_0 hG) (by decide)).1]; exact congrArg Int32.toInt hCtkn
  have c63 : iv2 63 0 1 = iv 63 0 1 := by rw [f2 63 0 1 (by decide), (x1.2.2 63 0 1 (h1_63 hG) (by decide)).1]
  have m1 : ∀ k, iv1 37 0 k = iv 37 0 k := fun k => (x1.2.2 37 0 k (h1_37 hG) (MD.no (by decide))).1
  have m2 : ∀ i k, iv2 67 i k = iv1 67 i k := fun i k => f2.arr 67 i k (by decide)
  rw [e20] at p2
  rcases two_cases p1 p2 with ⟨o, ⟨q1, w1⟩, ⟨s1, w2⟩⟩ | ⟨o, ⟨q1, w1⟩, ⟨s1, w2⟩⟩
  · obtain ⟨kp, kt⟩ := spOwes_ok o
    have lp : pp.toNatClampNeg < 5 := by rw [clamp_n]; omega
    have lt : ((tt.toNatClampNeg : Nat) : Int) < (iv 63 0 1).toInt := by rw [ix_nat kt.1]; exact kt.2
    refine ⟨fun p t hp ht => ?_, fun p t hp ht h0 => ?_⟩
    · rw [c63] at ht
      rw [m2, w1, w2, m1, hCowe.1 p t hp ht]
      generalize pp.toNatClampNeg = x at lp ⊢
      generalize tt.toNatClampNeg = y at lt ⊢
      have hc : (20 * p + t = 20 * x + y) ↔ (t = y ∧ p = x) := by omega
      by_cases z : t = y ∧ p = x
      · rw [if_pos z, if_pos (hc.mpr z)]
      · rw [if_neg z, if_neg (fun w => z (hc.mp w))]
    · rw [c63] at h0
      rw [w2, if_neg (fun e => by omega), m1]; exact hCowe.2 p t hp ht h0
  · refine ⟨fun p t hp ht => ?_, fun p t hp ht h0 => ?_⟩
    · rw [c63] at ht; rw [m2, w1, w2, m1]; exact hCowe.1 p t hp ht
    · rw [c63] at h0; rw [w2, m1]; exact hCowe.2 p t hp ht h0
theorem ans_owes {al al1 : Al} {iv iv1 iv2 : Iv} {rv rv1 rv2 : Rv} {pp tt v r1 r2 : Int32} (hG : GI al iv rv) (hCtkn : Ctkn iv rv) (hCowe : Cowe iv rv) (p1 : (spOwes pp tt v (iv 63 0 1).toInt = 0 ∧ r1 = iv 67 tt.toNatClampNeg pp.toNatClampNeg ∧ ∀ i k, iv1 67 i k = if i = tt.toNatClampNeg ∧ k = pp.toNatClampNeg then v else iv 67 i k) ∨ (spOwes pp tt v (iv 63 0 1).toInt ≠ 0 ∧ r1 = spOwes pp tt v (iv 63 0 1).toInt ∧ ∀ i k, iv1 67 i k = iv 67 i k)) (p2 : (spOwes pp tt v (iv1 0 0 20).toInt = 0 ∧ r2 = iv1 37 0 (20 * pp.toNatClampNeg + tt.toNatClampNeg) ∧ ∀ k, iv2 37 0 k = if k = 20 * pp.toNatClampNeg + tt.toNatClampNeg then v else iv1 37 0 k) ∨ (spOwes pp tt v (iv1 0 0 20).toInt ≠ 0 ∧ r2 = spOwes pp tt v (iv1 0 0 20).toInt ∧ ∀ k, iv2 37 0 k = iv1 37 0 k)) (x1 : EX ([51, 67], []) al iv rv al1 iv1 rv1) (f2 : FR ([16, 37], []) iv1 iv2) (g2 : FR ([16, 37], []) rv1 rv2) : r1 = r2 := by
  have e20 : (iv1 0 0 20).toInt = (iv 63 0 1).toInt := by rw [(x1.2.2 0 0 20 (h1_0 hG) (by decide)).1]; exact congrArg Int32.toInt hCtkn
  have m1 : ∀ k, iv1 37 0 k = iv 37 0 k := fun k => (x1.2.2 37 0 k (h1_37 hG) (MD.no (by decide))).1
  rw [e20] at p2
  rcases two_cases p1 p2 with ⟨o, ⟨q1, w1⟩, ⟨s1, w2⟩⟩ | ⟨o, ⟨q1, w1⟩, ⟨s1, w2⟩⟩
  · obtain ⟨kp, kt⟩ := spOwes_ok o
    rw [q1, s1, m1, hCowe.1 _ _ (by rw [clamp_n]; omega) (by rw [ix_nat kt.1]; exact kt.2)]
  · rw [q1, s1]
def REL (iv : Iv) (rv : Rv) : Prop := Clegn iv rv ∧ Ctkn iv rv ∧ Cowe iv rv
abbrev rT : List Nat := [37, 67]
abbrev rF : List (Nat × Nat) := [(0, 6), (57, 1), (0, 20), (63, 1)]
theorem sT_Clegn {md : Mo} (h : RC rT rF md) : RC T_Clegn F_Clegn md := ⟨fun t ht => h.1 t ((by decide : ∀ t, t ∈ T_Clegn → t ∈ rT) t ht), fun q hq => h.2 q ((by decide : ∀ q, q ∈ F_Clegn → q ∈ rF) q hq)⟩
theorem sT_Ctkn {md : Mo} (h : RC rT rF md) : RC T_Ctkn F_Ctkn md := ⟨fun t ht => h.1 t ((by decide : ∀ t, t ∈ T_Ctkn → t ∈ rT) t ht), fun q hq => h.2 q ((by decide : ∀ q, q ∈ F_Ctkn → q ∈ rF) q hq)⟩
theorem sT_Cowe {md : Mo} (h : RC rT rF md) : RC T_Cowe F_Cowe md := ⟨fun t ht => h.1 t ((by decide : ∀ t, t ∈ T_Cowe → t ∈ rT) t ht), fun q hq => h.2 q ((by decide : ∀ q, q ∈ F_Cowe → q ∈ rF) q hq)⟩
theorem REL.fr {al : Al} {iv iv' : Iv} {rv rv' : Rv} {md : Mo} (h : REL iv rv) (hG : GI al iv rv) (f : FR md iv iv') (g : FR md rv rv') (hd : RC rT rF md) : REL iv' rv' := ⟨Clegn.keep h.1 hG (KP.fr f g (sT_Clegn hd)), Ctkn.keep h.2.1 hG (KP.fr f g (sT_Ctkn hd)), Cowe.keep h.2.2 hG (KP.fr f g (sT_Cowe hd))⟩
theorem REL.ex {al al' : Al} {iv iv' : Iv} {rv rv' : Rv} {md : Mo} (h : REL iv rv) (hG : GI al iv rv) (g : EX md al iv rv al' iv' rv') (hd : RC rT rF md) : REL iv' rv' := ⟨Clegn.keep h.1 hG (KP.ex g (sT_Clegn hd)), Ctkn.keep h.2.1 hG (KP.ex g (sT_Ctkn hd)), Cowe.keep h.2.2 hG (KP.ex g (sT_Cowe hd))⟩
theorem REL.s_leg {al al1 : Al} {iv iv1 iv2 : Iv} {rv rv1 rv2 : Rv} {a b pp cc_ lv_ rr r1 r2 : Int32} (hG : GI al iv rv) (h : REL iv rv) (p1 : (spLeg a b pp cc_ lv_ rr (iv 57 0 1).toInt = 0 ∧ r1.toInt = (iv 57 0 1).toInt ∧ (iv1 57 0 1).toInt = (iv 57 0 1).toInt + 1 ∧ ∃ (aa : Nat) (siz : Int32), siz.toInt = al.1 62 + 1 ∧ al1 = grow al 62 aa ∧ iv1 = legIv iv (al.1 62) r1 pp cc_ lv_ rr siz ∧ rv1 = legRv rv (al.1 62) a.toNatClampNeg b.toNatClampNeg) ∨ (spLeg a b pp cc_ lv_ rr (iv 57 0 1).toInt ≠ 0 ∧ r1 = spLeg a b pp cc_ lv_ rr (iv 57 0 1).toInt ∧ iv1 57 0 1 = iv 57 0 1)) (p2 : (spLeg a b pp cc_ lv_ rr (iv1 0 0 6).toInt = 0 ∧ r2.toInt = (iv1 0 0 6).toInt ∧ (iv2 0 0 6).toInt = (iv1 0 0 6).toInt + 1 ∧ lgM iv1 iv2 a b pp cc_ lv_ rr) ∨ (spLeg a b pp cc_ lv_ rr (iv1 0 0 6).toInt ≠ 0 ∧ r2 = spLeg a b pp cc_ lv_ rr (iv1 0 0 6).toInt ∧ iv2 0 0 6 = iv1 0 0 6 ∧ lgK iv1 iv2)) (x1 : EX ([51, 58], [(57, 1)]) al iv rv al1 iv1 rv1) (f2 : FR ([16, 5, 6, 7, 8, 9, 10], [(0, 6)]) iv1 iv2) (g2 : FR ([16, 5, 6, 7, 8, 9, 10], [(0, 6)]) rv1 rv2) : REL iv2 rv2 := ⟨Clegn.s_leg hG h.1 p1 p2 x1 f2 g2, Ctkn.keep h.2.1 hG (KP.two x1 f2 g2 (by decide) (by decide)), Cowe.keep h.2.2 hG (KP.two x1 f2 g2 (by decide) (by decide))⟩
theorem REL.s_traveller {al al1 : Al} {iv iv1 iv2 : Iv} {rv rv1 rv2 : Rv} {lg r1 r2 : Int32} (hG : GI al iv rv) (h : REL iv rv) (p1 : (spTrav lg (iv 57 0 1).toInt (iv 63 0 1).toInt = 0 ∧ r1.toInt = (iv 63 0 1).toInt ∧ (iv1 63 0 1).toInt = (iv 63 0 1).toInt + 1 ∧ ∃ (aa a6 a7 : Nat) (siz : Int32), siz.toInt = al.1 65 + 1 ∧ al1 = grow (grow (grow al 65 aa) 66 a6) 67 a7 ∧ iv1 = tickIv iv (al.1 65) r1 siz ∧ rv1 = tickRv rv (al.1 65) lg.toNatClampNeg) ∨ (spTrav lg (iv 57 0 1).toInt (iv 63 0 1).toInt ≠ 0 ∧ r1 = spTrav lg (iv 57 0 1).toInt (iv 63 0 1).toInt ∧ iv1 63 0 1 = iv 63 0 1)) (p2 : (spTrav lg (iv1 0 0 6).toInt (iv1 0 0 20).toInt = 0 ∧ r2.toInt = (iv1 0 0 20).toInt ∧ (iv2 0 0 20).toInt = (iv1 0 0 20).toInt + 1 ∧ (∀ k : Nat, iv2 18 0 k = (if k = 4 * (iv1 0 0 20).toNatClampNeg then lg else iv1 18 0 k) ∧ iv2 19 0 k = (if k = (iv1 0 0 20).toNatClampNeg then 1 else iv1 19 0 k))) ∨ (spTrav lg (iv1 0 0 6).toInt (iv1 0 0 20).toInt ≠ 0 ∧ r2 = spTrav lg (iv1 0 0 6).toInt (iv1 0 0 20).toInt ∧ iv2 0 0 20 = iv1 0 0 20 ∧ (∀ k : Nat, iv2 18 0 k = iv1 18 0 k ∧ iv2 19 0 k = iv1 19 0 k))) (x1 : EX ([51, 64], [(63, 1)]) al iv rv al1 iv1 rv1) (f2 : FR ([16, 18, 19], [(0, 20)]) iv1 iv2) (g2 : FR ([16, 18, 19], [(0, 20)]) rv1 rv2) : REL iv2 rv2 := ⟨Clegn.keep h.1 hG (KP.two x1 f2 g2 (by decide) (by decide)), Ctkn.s_traveller hG h.1 h.2.1 p1 p2 x1 f2 g2, Cowe.s_traveller hG h.1 h.2.1 h.2.2 p1 p2 x1 f2 g2⟩
theorem REL.s_owes {al al1 : Al} {iv iv1 iv2 : Iv} {rv rv1 rv2 : Rv} {pp tt v r1 r2 : Int32} (hG : GI al iv rv) (h : REL iv rv) (p1 : (spOwes pp tt v (iv 63 0 1).toInt = 0 ∧ r1 = iv 67 tt.toNatClampNeg pp.toNatClampNeg ∧ ∀ i k, iv1 67 i k = if i = tt.toNatClampNeg ∧ k = pp.toNatClampNeg then v else iv 67 i k) ∨ (spOwes pp tt v (iv 63 0 1).toInt ≠ 0 ∧ r1 = spOwes pp tt v (iv 63 0 1).toInt ∧ ∀ i k, iv1 67 i k = iv 67 i k)) (p2 : (spOwes pp tt v (iv1 0 0 20).toInt = 0 ∧ r2 = iv1 37 0 (20 * pp.toNatClampNeg + tt.toNatClampNeg) ∧ ∀ k, iv2 37 0 k = if k = 20 * pp.toNatClampNeg + tt.toNatClampNeg then v else iv1 37 0 k) ∨ (spOwes pp tt v (iv1 0 0 20).toInt ≠ 0 ∧ r2 = spOwes pp tt v (iv1 0 0 20).toInt ∧ ∀ k, iv2 37 0 k = iv1 37 0 k)) (x1 : EX ([51, 67], []) al iv rv al1 iv1 rv1) (f2 : FR ([16, 37], []) iv1 iv2) (g2 : FR ([16, 37], []) rv1 rv2) : REL iv2 rv2 := ⟨Clegn.keep h.1 hG (KP.two x1 f2 g2 (by decide) (by decide)), Ctkn.keep h.2.1 hG (KP.two x1 f2 g2 (by decide) (by decide)), Cowe.s_owes hG h.2.1 h.2.2 p1 p2 x1 f2 g2⟩
theorem REL.a_owes {al al1 : Al} {iv iv1 iv2 : Iv} {rv rv1 rv2 : Rv} {pp tt v r1 r2 : Int32} (hG : GI al iv rv) (h : REL iv rv) (p1 : (spOwes pp tt v (iv 63 0 1).toInt = 0 ∧ r1 = iv 67 tt.toNatClampNeg pp.toNatClampNeg ∧ ∀ i k, iv1 67 i k = if i = tt.toNatClampNeg ∧ k = pp.toNatClampNeg then v else iv 67 i k) ∨ (spOwes pp tt v (iv 63 0 1).toInt ≠ 0 ∧ r1 = spOwes pp tt v (iv 63 0 1).toInt ∧ ∀ i k, iv1 67 i k = iv 67 i k)) (p2 : (spOwes pp tt v (iv1 0 0 20).toInt = 0 ∧ r2 = iv1 37 0 (20 * pp.toNatClampNeg + tt.toNatClampNeg) ∧ ∀ k, iv2 37 0 k = if k = 20 * pp.toNatClampNeg + tt.toNatClampNeg then v else iv1 37 0 k) ∨ (spOwes pp tt v (iv1 0 0 20).toInt ≠ 0 ∧ r2 = spOwes pp tt v (iv1 0 0 20).toInt ∧ ∀ k, iv2 37 0 k = iv1 37 0 k)) (x1 : EX ([51, 67], []) al iv rv al1 iv1 rv1) (f2 : FR ([16, 37], []) iv1 iv2) (g2 : FR ([16, 37], []) rv1 rv2) : r1 = r2 := ans_owes hG h.2.1 h.2.2 p1 p2 x1 f2 g2
def LSt (ox om : Nat) (al : Al) (iv : Iv) (rv : Rv) : Prop := GI al iv rv ∧ al.2 49 0 = ox ∧ al.2 0 0 = om ∧ REL iv rv
def LX (p : Program) (s : State) (m : MethodId) (c : Code) (b L : Nat) (xs : Nat → Int32) (D : va_G) (cA : FieldType → ClassId) : Prop := Cx p s m #[Value.ref b] c cL_law 4 RL D cA ∧ va_X b L xs s s.heap ∧ b < s.heap.size ∧ SX cA s.heap.size s s.heap ∧ L ≤ 3584
def bz (x : Int32) : Int32 := if x = 0 then 0 else 1
theorem bz_0 {x : Int32} (h : x.toInt = (0 : Int32).toInt) : (0 : Int32) = bz x := by
  have : x = 0 := (fa_eq _ _).mpr h
  rw [this]; rfl
theorem bz_1 {x : Int32} (h : ¬ x.toInt = (0 : Int32).toInt) : (1 : Int32) = bz x := by
  unfold bz; rw [if_neg (fun e => h (by rw [e]))]
section LR
variable {p : Program} {l : Launch} {e : Env} {R : Room} {s : State} {m : MethodId} {args : Array Value} {below : List Frame} {meth : Method} {c : Code} {H : Heap} {locs : List Loc} {cells slots : Nat} {Q : State → Prop}
variable {cc : ByteArray} {pc nL : Nat} {ls : Array Slot} {rest : List Value} {own : String} {D : va_G} {cA : FieldType → ClassId} {sz : Nat} {al : Al} {iv : Iv} {rv : Rv} {b L : Nat} {xs : Nat → Int32}
theorem q_ai (X : LX p s m c b L xs D cA) (hS : va_S (Aq s.heap.size) s.heap H locs) {i k v : Int32} (hk : 0 ≤ k.toInt ∧ k.toInt ≤ 6) (hi : 0 ≤ i.toInt ∧ i.toInt + 6 < L) (ev : xs (i + k).toNatClampNeg = v) (d1 : decode cL_law pc = .ok (.iadd, 1)) (d2 : decode cL_law (pc + 1) = .ok (.iaload, 1))
    (kk : W p l e R s m #[Value.ref b] below meth c H locs cells slots Q (F0 m (pc + 2) ls (.int v :: rest))) : W p l e R s m #[Value.ref b] below meth c H locs cells slots Q (F0 m pc ls (.int k :: .int i :: .ref b :: rest)) := by
  obtain ⟨C, hX, hbl, -, hL⟩ := X
  have ti : (i + k).toInt = i.toInt + k.toInt := fb_addI (by omega) (by omega)
  refine lv_iadd C.1.1 C.1.2.1 d1 ?_
  refine va_sld (A := Aq s.heap.size) C.1.1 C.1.2.1 hX hbl (fun z => absurd hbl (Nat.not_lt.mpr z)) hS (ix_in (by omega) (by omega)) d2 ?_
  rw [ev]; exact kk
theorem q_runVX {y : MethodName} {bytes : ByteArray} {maxL mc ms n index t i ci : Nat} {ret : Option FieldType} {rmm : Room} {As : List Value} {q : vw_C} {Qc : Array Value → State → Outcome → State → Prop} {X : State → Prop} {st : List Value} (C : Cx p s m args c cc nL own D cA) (hU : UW D cA sz al iv rv H) (hz : sz ≤ H.size)
    (hX1 : ∀ U : State, U.heap = H → s.WarmedH U.vm → X U) (hX2 : ∀ (U : State) (g : JFrame) (mk : MethodId) (a : Array Value), X U → X (U.calling g mk a))
    (hM : Met l y (wd y bytes maxL ret) rmm (PcA D cA sz al iv rv (.ref (al.2 t i) :: As) X) Qc mc ms (Aq sz)) (vm : VM y bytes maxL ret n) (hl : Cond.methodLink own index y ∈ BW) (kp : (pt t).1 = some ci) (hc : vwCl[ci]? = some q) (hq : q.1 = y.cls) (hi : i < al.1 t) (hls : ls.size = nL) (hn : As.length = n) (hst : st = As.reverse ++ .ref (al.2 t i) :: rest)
    (hrm : (rest.map fun v => v.category).sum ≤ 8) (hdg : decode cc pc = .ok (.invokevirtual index, 3)) (hrc : rmm.cells = mc) (hrs : rmm.slots = ms) (hR : rmm.frames + 1 ≤ R.frames ∧ 8 + (maxL + 11) + rmm.locals ≤ R.locals) (hf : cells + mc ≤ R.cells ∧ slots + ms ≤ R.slots) :
    va_Run p l e R s m args below meth c H locs cells slots mc ms (F0 m pc ls st) rest (Qc (Value.ref (al.2 t i) :: As).toArray) (Aq sz) := by
  obtain ⟨v1, v2, v3, v4, v5⟩ := vm
  have hts := C.1.2.2.2.2
  have hK := C.2
  obtain ⟨cell, g1, g2, g3, -⟩ := (hU.1 t i hi).ob kp
  refine va_runV (C := y.cls) (As := As) (rest := rest) C.1 hM ⟨cb_of hts v1 v4 hl v5 hrc hrs hR, hts _ v2, hts _ v3⟩ ⟨fun a U g mk q => ⟨q.1, q.2.1, q.2.2.1.calling g mk a, q.2.2.2.1, hX2 U g mk a q.2.2.2.2⟩, ⟨cell, g1, by rw [g3]; rfl, ?_⟩, fun U hH hW => ⟨rfl, by rw [hH]; exact hU, hK.warm hW, by rw [hH]; exact hz, hX1 U hH hW⟩⟩ rfl hn hls hst (lv_room hrm) hdg hf
  rw [g2, ← hq]; exact (hK.1.1 ci q hc).2.1
end LR
end
section
set_option maxHeartbeats 4000000 in
set_option maxRecDepth 100000 in
theorem law_0 {p : Program} {l : Launch} {e : Env} {s : State} {m : MethodId} {below : List Frame} {meth : Method} {c : Code} {b L : Nat} {xs : Nat → Int32} {D : va_G} {cA : FieldType → ClassId} {ls : Array Slot} {Q : State → Prop} {H : Heap} {locs : List Loc} {cells slots : Nat} {i : Int32} {ox om : Nat} {al : Al} {iv : Iv} {rv : Rv} (X : LX p s m c b L xs D cA) (hl : lv_has ls 4 [(3, .int i), (2, .ref om), (1, .ref ox), (0, .ref b)]) (hi : 0 ≤ i.toInt ∧ i.toInt + 6 < L) (hQ : LSt ox om al iv rv) (hU : UW D cA s.heap.size al iv rv H) (hS : va_S (Aq s.heap.size) s.heap H locs) (hc : cells + 3 ≤ 600000 ∧ slots + 16 ≤ 7302250)
    (kk : ∀ (al' : Al) (iv' : Iv) (rv' : Rv) (H' : Heap) (locs' : List Loc), LSt ox om al' iv' rv' → UW D cA s.heap.size al' iv' rv' H' → va_S (Aq s.heap.size) s.heap H' locs' → W p l e room_1 s m #[Value.ref b] below meth c H' locs' (cells + 3) (slots + 16) Q (F0 m 1475 ls [])) : W p l e room_1 s m #[Value.ref b] below meth c H locs cells slots Q (F0 m 188 ls []) := by
  obtain ⟨hG, hox, hom, hRel⟩ := hQ
  have C := X.1
  have hx := C.1.1
  have hb := C.1.2.1
  obtain ⟨v1, e1⟩ : ∃ z, xs (i + 1).toNatClampNeg = z := ⟨_, rfl⟩
  refine lv_aload_n hx hb dL_law_188 rfl (lv_at hl 2 rfl) ?_
  refine lv_aload_n hx hb dL_law_189 rfl (lv_at hl 3 rfl) ?_
  refine lv_iload_n hx hb dL_law_190 rfl (lv_at hl 0 rfl) ?_
  refine lv_iconst (v := 1) hx hb dL_law_191 (by decide) ?_
  refine q_ai X hS (k := 1) (by decide) hi e1 dL_law_192 dL_law_193 ?_
  have hG0 := hG
  have hGp := hG
  refine W.eq (g2 := F0 m 194 ls [.int v1, .ref (al.2 49 0)]) (by rw [hox]) ?_
  refine q_fi (q_runV (t := 49) (i := 0) (As := [.int v1]) (rest := []) C hU (c_X11_days hG v1) vm_X11_days ml_L_13 k_49.1 (hc := rfl) rfl (h1_49 hG) hl.1 rfl rfl (Nat.le_of_ble_eq_true rfl) dL_law_194 rfl rfl ⟨Nat.le_of_ble_eq_true rfl, Nat.le_of_ble_eq_true rfl⟩ ⟨by show cells + 0 ≤ 600000; omega, by show slots + 0 ≤ 7302250; omega⟩) hS (fun r1 iv1 rv1 H locs hG f1 g1 hp1 hU hS => ?_)
  have hRel := hRel.fr hGp f1 g1 (by decide)
  refine lv_pop hx hb dL_law_197 rfl ?_
  refine lv_aload_n hx hb dL_law_198 rfl (lv_at hl 1 rfl) ?_
  refine lv_aload_n hx hb dL_law_199 rfl (lv_at hl 3 rfl) ?_
  refine lv_iload_n hx hb dL_law_200 rfl (lv_at hl 0 rfl) ?_
  refine lv_iconst (v := 1) hx hb dL_law_201 (by decide) ?_
  refine q_ai X hS (k := 1) (by decide) hi e1 dL_law_202 dL_law_203 ?_
  have hGp := hG
  refine W.eq (g2 := F0 m 204 ls [.int v1, .ref (al.2 0 0)]) (by rw [hom]) ?_
  refine q_fi (q_runV (t := 0) (i := 0) (As := [.int v1]) (rest := []) C hU (c_X12_days hG v1) vm_X12_days ml_L_17 k_0.1 (hc := rfl) rfl (h1_0 hG) hl.1 rfl rfl (Nat.le_of_ble_eq_true rfl) dL_law_204 rfl rfl ⟨Nat.le_of_ble_eq_true rfl, Nat.le_of_ble_eq_true rfl⟩ ⟨by show cells + 0 ≤ 600000; omega, by show slots + 0 ≤ 7302250; omega⟩) hS (fun r2 iv2 rv2 H locs hG f2 g2 hp2 hU hS => ?_)
  have hRel := hRel.fr hGp f2 g2 (by decide)
  refine lv_pop hx hb dL_law_207 rfl ?_
  refine lv_goto (tgt := 1475) hx hb dL_law_208 (by decide) ?_
  refine W.widen (k := cells + 3) (n := slots + 16) (by omega) (by omega) ?_
  exact kk _ _ _ _ _ ⟨hG, hox, hom, hRel⟩ hU hS
set_option maxHeartbeats 4000000 in
set_option maxRecDepth 100000 in
theorem law_1 {p : Program} {l : Launch} {e : Env} {s : State} {m : MethodId} {below : List Frame} {meth : Method} {c : Code} {b L : Nat} {xs : Nat → Int32} {D : va_G} {cA : FieldType → ClassId} {ls : Array Slot} {Q : State → Prop} {H : Heap} {locs : List Loc} {cells slots : Nat} {i : Int32} {ox om : Nat} {al : Al} {iv : Iv} {rv : Rv} (X : LX p s m c b L xs D cA) (hl : lv_has ls 4 [(3, .int i), (2, .ref om), (1, .ref ox), (0, .ref b)]) (hi : 0 ≤ i.toInt ∧ i.toInt + 6 < L) (hQ : LSt ox om al iv rv) (hU : UW D cA s.heap.size al iv rv H) (hS : va_S (Aq s.heap.size) s.heap H locs) (hc : cells + 3 ≤ 600000 ∧ slots + 16 ≤ 7302250)
    (kk : ∀ (al' : Al) (iv' : Iv) (rv' : Rv) (H' : Heap) (locs' : List Loc), LSt ox om al' iv' rv' → UW D cA s.heap.size al' iv' rv' H' → va_S (Aq s.heap.size) s.heap H' locs' → W p l e room_1 s m #[Value.ref b] below meth c H' locs' (cells + 3) (slots + 16) Q (F0 m 1475 ls [])) : W p l e room_1 s m #[Value.ref b] below meth c H locs cells slots Q (F0 m 211 ls []) := by
  obtain ⟨hG, hox, hom, hRel⟩ := hQ
  have C := X.1
  have hx := C.1.1
  have hb := C.1.2.1
  obtain ⟨v1, e1⟩ : ∃ z, xs (i + 1).toNatClampNeg = z := ⟨_, rfl⟩
  obtain ⟨v2, e2⟩ : ∃ z, xs (i + 2).toNatClampNeg = z := ⟨_, rfl⟩
  refine lv_aload_n hx hb dL_law_211 rfl (lv_at hl 2 rfl) ?_
  refine lv_aload_n hx hb dL_law_212 rfl (lv_at hl 3 rfl) ?_
  refine lv_iload_n hx hb dL_law_213 rfl (lv_at hl 0 rfl) ?_
  refine lv_iconst (v := 1) hx hb dL_law_214 (by decide) ?_
  refine q_ai X hS (k := 1) (by decide) hi e1 dL_law_215 dL_law_216 ?_
  refine lv_aload_n hx hb dL_law_217 rfl (lv_at hl 3 rfl) ?_
  refine lv_iload_n hx hb dL_law_218 rfl (lv_at hl 0 rfl) ?_
  refine lv_iconst (v := 2) hx hb dL_law_219 (by decide) ?_
  refine q_ai X hS (k := 2) (by decide) hi e2 dL_law_220 dL_law_221 ?_
  have hG0 := hG
  have hGp := hG
  refine W.eq (g2 := F0 m 222 ls [.int v2, .int v1, .ref (al.2 49 0)]) (by rw [hox]) ?_
  refine q_fi (q_runV (t := 49) (i := 0) (As := [.int v1, .int v2]) (rest := []) C hU (c_X11_land hG v1 v2) vm_X11_land ml_L_18 k_49.1 (hc := rfl) rfl (h1_49 hG) hl.1 rfl rfl (Nat.le_of_ble_eq_true rfl) dL_law_222 rfl rfl ⟨Nat.le_of_ble_eq_true rfl, Nat.le_of_ble_eq_true rfl⟩ ⟨by show cells + 0 ≤ 600000; omega, by show slots + 0 ≤ 7302250; omega⟩) hS (fun r1 iv1 rv1 H locs hG f1 g1 hp1 hU hS => ?_)
  have hRel := hRel.fr hGp f1 g1 (by decide)
  refine lv_pop hx hb dL_law_225 rfl ?_
  refine lv_aload_n hx hb dL_law_226 rfl (lv_at hl 1 rfl) ?_
  refine lv_aload_n hx hb dL_law_227 rfl (lv_at hl 3 rfl) ?_
  refine lv_iload_n hx hb dL_law_228 rfl (lv_at hl 0 rfl) ?_
  refine lv_iconst (v := 1) hx hb dL_law_229 (by decide) ?_
  refine q_ai X hS (k := 1) (by decide) hi e1 dL_law_230 dL_law_231 ?_
  refine lv_aload_n hx hb dL_law_232 rfl (lv_at hl 3 rfl) ?_
  refine lv_iload_n hx hb dL_law_233 rfl (lv_at hl 0 rfl) ?_
  refine lv_iconst (v := 2) hx hb dL_law_234 (by decide) ?_
  refine q_ai X hS (k := 2) (by decide) hi e2 dL_law_235 dL_law_236 ?_
  have hGp := hG
  refine W.eq (g2 := F0 m 237 ls [.int v2, .int v1, .ref (al.2 0 0)]) (by rw [hom]) ?_
  refine q_fi (q_runV (t := 0) (i := 0) (As := [.int v1, .int v2]) (rest := []) C hU (c_X12_land hG v1 v2) vm_X12_land ml_L_22 k_0.1 (hc := rfl) rfl (h1_0 hG) hl.1 rfl rfl (Nat.le_of_ble_eq_true rfl) dL_law_237 rfl rfl ⟨Nat.le_of_ble_eq_true rfl, Nat.le_of_ble_eq_true rfl⟩ ⟨by show cells + 0 ≤ 600000; omega, by show slots + 0 ≤ 7302250; omega⟩) hS (fun r2 iv2 rv2 H locs hG f2 g2 hp2 hU hS => ?_)
  have hRel := hRel.fr hGp f2 g2 (by decide)
  refine lv_pop hx hb dL_law_240 rfl ?_
  refine lv_goto (tgt := 1475) hx hb dL_law_241 (by decide) ?_
  refine W.widen (k := cells + 3) (n := slots + 16) (by omega) (by omega) ?_
  exact kk _ _ _ _ _ ⟨hG, hox, hom, hRel⟩ hU hS
set_option maxHeartbeats 4000000 in
set_option maxRecDepth 100000 in
theorem law_2 {p : Program} {l : Launch} {e : Env} {s : State} {m : MethodId} {below : List Frame} {meth : Method} {c : Code} {b L : Nat} {xs : Nat → Int32} {D : va_G} {cA : FieldType → ClassId} {ls : Array Slot} {Q : State → Prop} {H : Heap} {locs : List Loc} {cells slots : Nat} {i : Int32} {ox om : Nat} {al : Al} {iv : Iv} {rv : Rv} (X : LX p s m c b L xs D cA) (hl : lv_has ls 4 [(3, .int i), (2, .ref om), (1, .ref ox), (0, .ref b)]) (hi : 0 ≤ i.toInt ∧ i.toInt + 6 < L) (hQ : LSt ox om al iv rv) (hU : UW D cA s.heap.size al iv rv H) (hS : va_S (Aq s.heap.size) s.heap H locs) (hc : cells + 3 ≤ 600000 ∧ slots + 16 ≤ 7302250)
    (kk : ∀ (al' : Al) (iv' : Iv) (rv' : Rv) (H' : Heap) (locs' : List Loc), LSt ox om al' iv' rv' → UW D cA s.heap.size al' iv' rv' H' → va_S (Aq s.heap.size) s.heap H' locs' → W p l e room_1 s m #[Value.ref b] below meth c H' locs' (cells + 3) (slots + 16) Q (F0 m 1475 ls [])) : W p l e room_1 s m #[Value.ref b] below meth c H locs cells slots Q (F0 m 244 ls []) := by
  obtain ⟨hG, hox, hom, hRel⟩ := hQ
  have C := X.1
  have hx := C.1.1
  have hb := C.1.2.1
  obtain ⟨v1, e1⟩ : ∃ z, xs (i + 1).toNatClampNeg = z := ⟨_, rfl⟩
  obtain ⟨v2, e2⟩ : ∃ z, xs (i + 2).toNatClampNeg = z := ⟨_, rfl⟩
  obtain ⟨v3, e3⟩ : ∃ z, xs (i + 3).toNatClampNeg = z := ⟨_, rfl⟩
  refine lv_aload_n hx hb dL_law_244 rfl (lv_at hl 2 rfl) ?_
  refine lv_aload_n hx hb dL_law_245 rfl (lv_at hl 3 rfl) ?_
  refine lv_iload_n hx hb dL_law_246 rfl (lv_at hl 0 rfl) ?_
  refine lv_iconst (v := 1) hx hb dL_law_247 (by decide) ?_
  refine q_ai X hS (k := 1) (by decide) hi e1 dL_law_248 dL_law_249 ?_
  refine lv_aload_n hx hb dL_law_250 rfl (lv_at hl 3 rfl) ?_
  refine lv_iload_n hx hb dL_law_251 rfl (lv_at hl 0 rfl) ?_
  refine lv_iconst (v := 2) hx hb dL_law_252 (by decide) ?_
  refine q_ai X hS (k := 2) (by decide) hi e2 dL_law_253 dL_law_254 ?_
  refine lv_aload_n hx hb dL_law_255 rfl (lv_at hl 3 rfl) ?_
  refine lv_iload_n hx hb dL_law_256 rfl (lv_at hl 0 rfl) ?_
  refine lv_iconst (v := 3) hx hb dL_law_257 (by decide) ?_
  refine q_ai X hS (k := 3) (by decide) hi e3 dL_law_258 dL_law_259 ?_
  have hG0 := hG
  have hGp := hG
  refine W.eq (g2 := F0 m 260 ls [.int v3, .int v2, .int v1, .ref (al.2 49 0)]) (by rw [hox]) ?_
  refine q_fi (q_runV (t := 49) (i := 0) (As := [.int v1, .int v2, .int v3]) (rest := []) C hU (c_X11_miles hG v1 v2 v3) vm_X11_miles ml_L_23 k_49.1 (hc := rfl) rfl (h1_49 hG) hl.1 rfl rfl (Nat.le_of_ble_eq_true rfl) dL_law_260 rfl rfl ⟨Nat.le_of_ble_eq_true rfl, Nat.le_of_ble_eq_true rfl⟩ ⟨by show cells + 0 ≤ 600000; omega, by show slots + 0 ≤ 7302250; omega⟩) hS (fun r1 iv1 rv1 H locs hG f1 g1 hp1 hU hS => ?_)
  have hRel := hRel.fr hGp f1 g1 (by decide)
  refine lv_pop hx hb dL_law_263 rfl ?_
  refine lv_aload_n hx hb dL_law_264 rfl (lv_at hl 1 rfl) ?_
  refine lv_aload_n hx hb dL_law_265 rfl (lv_at hl 3 rfl) ?_
  refine lv_iload_n hx hb dL_law_266 rfl (lv_at hl 0 rfl) ?_
  refine lv_iconst (v := 1) hx hb dL_law_267 (by decide) ?_
  refine q_ai X hS (k := 1) (by decide) hi e1 dL_law_268 dL_law_269 ?_
  refine lv_aload_n hx hb dL_law_270 rfl (lv_at hl 3 rfl) ?_
  refine lv_iload_n hx hb dL_law_271 rfl (lv_at hl 0 rfl) ?_
  refine lv_iconst (v := 2) hx hb dL_law_272 (by decide) ?_
  refine q_ai X hS (k := 2) (by decide) hi e2 dL_law_273 dL_law_274 ?_
  refine lv_aload_n hx hb dL_law_275 rfl (lv_at hl 3 rfl) ?_
  refine lv_iload_n hx hb dL_law_276 rfl (lv_at hl 0 rfl) ?_
  refine lv_iconst (v := 3) hx hb dL_law_277 (by decide) ?_
  refine q_ai X hS (k := 3) (by decide) hi e3 dL_law_278 dL_law_279 ?_
  have hGp := hG
  refine W.eq (g2 := F0 m 280 ls [.int v3, .int v2, .int v1, .ref (al.2 0 0)]) (by rw [hom]) ?_
  refine q_fi (q_runV (t := 0) (i := 0) (As := [.int v1, .int v2, .int v3]) (rest := []) C hU (c_X12_miles hG v1 v2 v3) vm_X12_miles ml_L_27 k_0.1 (hc := rfl) rfl (h1_0 hG) hl.1 rfl rfl (Nat.le_of_ble_eq_true rfl) dL_law_280 rfl rfl ⟨Nat.le_of_ble_eq_true rfl, Nat.le_of_ble_eq_true rfl⟩ ⟨by show cells + 0 ≤ 600000; omega, by show slots + 0 ≤ 7302250; omega⟩) hS (fun r2 iv2 rv2 H locs hG f2 g2 hp2 hU hS => ?_)
  have hRel := hRel.fr hGp f2 g2 (by decide)
  refine lv_pop hx hb dL_law_283 rfl ?_
  refine lv_goto (tgt := 1475) hx hb dL_law_284 (by decide) ?_
  refine W.widen (k := cells + 3) (n := slots + 16) (by omega) (by omega) ?_
  exact kk _ _ _ _ _ ⟨hG, hox, hom, hRel⟩ hU hS
set_option maxHeartbeats 4000000 in
set_option maxRecDepth 100000 in
theorem law_3 {p : Program} {l : Launch} {e : Env} {s : State} {m : MethodId} {below : List Frame} {meth : Method} {c : Code} {b L : Nat} {xs : Nat → Int32} {D : va_G} {cA : FieldType → ClassId} {ls : Array Slot} {Q : State → Prop} {H : Heap} {locs : List Loc} {cells slots : Nat} {i : Int32} {ox om : Nat} {al : Al} {iv : Iv} {rv : Rv} (X : LX p s m c b L xs D cA) (hl : lv_has ls 4 [(3, .int i), (2, .ref om), (1, .ref ox), (0, .ref b)]) (hi : 0 ≤ i.toInt ∧ i.toInt + 6 < L) (hQ : LSt ox om al iv rv) (hU : UW D cA s.heap.size al iv rv H) (hS : va_S (Aq s.heap.size) s.heap H locs) (hc : cells + 3 ≤ 600000 ∧ slots + 16 ≤ 7302250)
    (kk : ∀ (al' : Al) (iv' : Iv) (rv' : Rv) (H' : Heap) (locs' : List Loc), LSt ox om al' iv' rv' → UW D cA s.heap.size al' iv' rv' H' → va_S (Aq s.heap.size) s.heap H' locs' → W p l e room_1 s m #[Value.ref b] below meth c H' locs' (cells + 3) (slots + 16) Q (F0 m 1475 ls [])) : W p l e room_1 s m #[Value.ref b] below meth c H locs cells slots Q (F0 m 287 ls []) := by
  obtain ⟨hG, hox, hom, hRel⟩ := hQ
  have C := X.1
  have hx := C.1.1
  have hb := C.1.2.1
  obtain ⟨v1, e1⟩ : ∃ z, xs (i + 1).toNatClampNeg = z := ⟨_, rfl⟩
  obtain ⟨v2, e2⟩ : ∃ z, xs (i + 2).toNatClampNeg = z := ⟨_, rfl⟩
  obtain ⟨v3, e3⟩ : ∃ z, xs (i + 3).toNatClampNeg = z := ⟨_, rfl⟩
  refine lv_aload_n hx hb dL_law_287 rfl (lv_at hl 2 rfl) ?_
  refine lv_aload_n hx hb dL_law_288 rfl (lv_at hl 3 rfl) ?_
  refine lv_iload_n hx hb dL_law_289 rfl (lv_at hl 0 rfl) ?_
  refine lv_iconst (v := 1) hx hb dL_law_290 (by decide) ?_
  refine q_ai X hS (k := 1) (by decide) hi e1 dL_law_291 dL_law_292 ?_
  refine lv_aload_n hx hb dL_law_293 rfl (lv_at hl 3 rfl) ?_
  refine lv_iload_n hx hb dL_law_294 rfl (lv_at hl 0 rfl) ?_
  refine lv_iconst (v := 2) hx hb dL_law_295 (by decide) ?_
  refine q_ai X hS (k := 2) (by decide) hi e2 dL_law_296 dL_law_297 ?_
  refine lv_aload_n hx hb dL_law_298 rfl (lv_at hl 3 rfl) ?_
  refine lv_iload_n hx hb dL_law_299 rfl (lv_at hl 0 rfl) ?_
  refine lv_iconst (v := 3) hx hb dL_law_300 (by decide) ?_
  refine q_ai X hS (k := 3) (by decide) hi e3 dL_law_301 dL_law_302 ?_
  have hG0 := hG
  have hGp := hG
  refine W.eq (g2 := F0 m 303 ls [.int v3, .int v2, .int v1, .ref (al.2 49 0)]) (by rw [hox]) ?_
  refine q_fi (q_runV (t := 49) (i := 0) (As := [.int v1, .int v2, .int v3]) (rest := []) C hU (c_X11_seen hG v1 v2 v3) vm_X11_seen ml_L_28 k_49.1 (hc := rfl) rfl (h1_49 hG) hl.1 rfl rfl (Nat.le_of_ble_eq_true rfl) dL_law_303 rfl rfl ⟨Nat.le_of_ble_eq_true rfl, Nat.le_of_ble_eq_true rfl⟩ ⟨by show cells + 0 ≤ 600000; omega, by show slots + 0 ≤ 7302250; omega⟩) hS (fun r1 iv1 rv1 H locs hG f1 g1 hp1 hU hS => ?_)
  have hRel := hRel.fr hGp f1 g1 (by decide)
  refine lv_pop hx hb dL_law_306 rfl ?_
  refine lv_aload_n hx hb dL_law_307 rfl (lv_at hl 1 rfl) ?_
  refine lv_aload_n hx hb dL_law_308 rfl (lv_at hl 3 rfl) ?_
  refine lv_iload_n hx hb dL_law_309 rfl (lv_at hl 0 rfl) ?_
  refine lv_iconst (v := 1) hx hb dL_law_310 (by decide) ?_
  refine q_ai X hS (k := 1) (by decide) hi e1 dL_law_311 dL_law_312 ?_
  refine lv_aload_n hx hb dL_law_313 rfl (lv_at hl 3 rfl) ?_
  refine lv_iload_n hx hb dL_law_314 rfl (lv_at hl 0 rfl) ?_
  refine lv_iconst (v := 2) hx hb dL_law_315 (by decide) ?_
  refine q_ai X hS (k := 2) (by decide) hi e2 dL_law_316 dL_law_317 ?_
  refine lv_aload_n hx hb dL_law_318 rfl (lv_at hl 3 rfl) ?_
  refine lv_iload_n hx hb dL_law_319 rfl (lv_at hl 0 rfl) ?_
  refine lv_iconst (v := 3) hx hb dL_law_320 (by decide) ?_
  refine q_ai X hS (k := 3) (by decide) hi e3 dL_law_321 dL_law_322 ?_
  have hGp := hG
  refine W.eq (g2 := F0 m 323 ls [.int v3, .int v2, .int v1, .ref (al.2 0 0)]) (by rw [hom]) ?_
  refine q_fi (q_runV (t := 0) (i := 0) (As := [.int v1, .int v2, .int v3]) (rest := []) C hU (c_X12_seen hG v1 v2 v3) vm_X12_seen ml_L_31 k_0.1 (hc := rfl) rfl (h1_0 hG) hl.1 rfl rfl (Nat.le_of_ble_eq_true rfl) dL_law_323 rfl rfl ⟨Nat.le_of_ble_eq_true rfl, Nat.le_of_ble_eq_true rfl⟩ ⟨by show cells + 0 ≤ 600000; omega, by show slots + 0 ≤ 7302250; omega⟩) hS (fun r2 iv2 rv2 H locs hG f2 g2 hp2 hU hS => ?_)
  have hRel := hRel.fr hGp f2 g2 (by decide)
  refine lv_pop hx hb dL_law_326 rfl ?_
  refine lv_goto (tgt := 1475) hx hb dL_law_327 (by decide) ?_
  refine W.widen (k := cells + 3) (n := slots + 16) (by omega) (by omega) ?_
  exact kk _ _ _ _ _ ⟨hG, hox, hom, hRel⟩ hU hS
set_option maxHeartbeats 4000000 in
set_option maxRecDepth 100000 in
theorem law_4 {p : Program} {l : Launch} {e : Env} {s : State} {m : MethodId} {below : List Frame} {meth : Method} {c : Code} {b L : Nat} {xs : Nat → Int32} {D : va_G} {cA : FieldType → ClassId} {ls : Array Slot} {Q : State → Prop} {H : Heap} {locs : List Loc} {cells slots : Nat} {i : Int32} {ox om : Nat} {al : Al} {iv : Iv} {rv : Rv} (X : LX p s m c b L xs D cA) (hl : lv_has ls 4 [(3, .int i), (2, .ref om), (1, .ref ox), (0, .ref b)]) (hi : 0 ≤ i.toInt ∧ i.toInt + 6 < L) (hQ : LSt ox om al iv rv) (hU : UW D cA s.heap.size al iv rv H) (hS : va_S (Aq s.heap.size) s.heap H locs) (hc : cells + 3 ≤ 600000 ∧ slots + 16 ≤ 7302250)
    (kk : ∀ (al' : Al) (iv' : Iv) (rv' : Rv) (H' : Heap) (locs' : List Loc), LSt ox om al' iv' rv' → UW D cA s.heap.size al' iv' rv' H' → va_S (Aq s.heap.size) s.heap H' locs' → W p l e room_1 s m #[Value.ref b] below meth c H' locs' (cells + 3) (slots + 16) Q (F0 m 1475 ls [])) : W p l e room_1 s m #[Value.ref b] below meth c H locs cells slots Q (F0 m 330 ls []) := by
  obtain ⟨hG, hox, hom, hRel⟩ := hQ
  have C := X.1
  have hx := C.1.1
  have hb := C.1.2.1
  obtain ⟨v1, e1⟩ : ∃ z, xs (i + 1).toNatClampNeg = z := ⟨_, rfl⟩
  refine lv_aload_n hx hb dL_law_330 rfl (lv_at hl 2 rfl) ?_
  refine lv_aload_n hx hb dL_law_331 rfl (lv_at hl 3 rfl) ?_
  refine lv_iload_n hx hb dL_law_332 rfl (lv_at hl 0 rfl) ?_
  refine lv_iconst (v := 1) hx hb dL_law_333 (by decide) ?_
  refine q_ai X hS (k := 1) (by decide) hi e1 dL_law_334 dL_law_335 ?_
  have hG0 := hG
  have hGp := hG
  refine W.eq (g2 := F0 m 336 ls [.int v1, .ref (al.2 49 0)]) (by rw [hox]) ?_
  refine q_fi (q_runV (t := 49) (i := 0) (As := [.int v1]) (rest := []) C hU (c_X11_off hG v1) vm_X11_off ml_L_32 k_49.1 (hc := rfl) rfl (h1_49 hG) hl.1 rfl rfl (Nat.le_of_ble_eq_true rfl) dL_law_336 rfl rfl ⟨Nat.le_of_ble_eq_true rfl, Nat.le_of_ble_eq_true rfl⟩ ⟨by show cells + 0 ≤ 600000; omega, by show slots + 0 ≤ 7302250; omega⟩) hS (fun r1 iv1 rv1 H locs hG f1 g1 hp1 hU hS => ?_)
  have hRel := hRel.fr hGp f1 g1 (by decide)
  refine lv_pop hx hb dL_law_339 rfl ?_
  refine lv_aload_n hx hb dL_law_340 rfl (lv_at hl 1 rfl) ?_
  refine lv_aload_n hx hb dL_law_341 rfl (lv_at hl 3 rfl) ?_
  refine lv_iload_n hx hb dL_law_342 rfl (lv_at hl 0 rfl) ?_
  refine lv_iconst (v := 1) hx hb dL_law_343 (by decide) ?_
  refine q_ai X hS (k := 1) (by decide) hi e1 dL_law_344 dL_law_345 ?_
  have hGp := hG
  refine W.eq (g2 := F0 m 346 ls [.int v1, .ref (al.2 0 0)]) (by rw [hom]) ?_
  refine q_fi (q_runV (t := 0) (i := 0) (As := [.int v1]) (rest := []) C hU (c_X12_off hG v1) vm_X12_off ml_L_35 k_0.1 (hc := rfl) rfl (h1_0 hG) hl.1 rfl rfl (Nat.le_of_ble_eq_true rfl) dL_law_346 rfl rfl ⟨Nat.le_of_ble_eq_true rfl, Nat.le_of_ble_eq_true rfl⟩ ⟨by show cells + 0 ≤ 600000; omega, by show slots + 0 ≤ 7302250; omega⟩) hS (fun r2 iv2 rv2 H locs hG f2 g2 hp2 hU hS => ?_)
  have hRel := hRel.fr hGp f2 g2 (by decide)
  refine lv_pop hx hb dL_law_349 rfl ?_
  refine lv_goto (tgt := 1475) hx hb dL_law_350 (by decide) ?_
  refine W.widen (k := cells + 3) (n := slots + 16) (by omega) (by omega) ?_
  exact kk _ _ _ _ _ ⟨hG, hox, hom, hRel⟩ hU hS
set_option maxHeartbeats 4000000 in
set_option maxRecDepth 100000 in
theorem law_5 {p : Program} {l : Launch} {e : Env} {s : State} {m : MethodId} {below : List Frame} {meth : Method} {c : Code} {b L : Nat} {xs : Nat → Int32} {D : va_G} {cA : FieldType → ClassId} {ls : Array Slot} {Q : State → Prop} {H : Heap} {locs : List Loc} {cells slots : Nat} {i : Int32} {ox om : Nat} {al : Al} {iv : Iv} {rv : Rv} (X : LX p s m c b L xs D cA) (hl : lv_has ls 4 [(3, .int i), (2, .ref om), (1, .ref ox), (0, .ref b)]) (hi : 0 ≤ i.toInt ∧ i.toInt + 6 < L) (hQ : LSt ox om al iv rv) (hU : UW D cA s.heap.size al iv rv H) (hS : va_S (Aq s.heap.size) s.heap H locs) (hc : cells + 3 ≤ 600000 ∧ slots + 16 ≤ 7302250)
    (kk : ∀ (al' : Al) (iv' : Iv) (rv' : Rv) (H' : Heap) (locs' : List Loc), LSt ox om al' iv' rv' → UW D cA s.heap.size al' iv' rv' H' → va_S (Aq s.heap.size) s.heap H' locs' → W p l e room_1 s m #[Value.ref b] below meth c H' locs' (cells + 3) (slots + 16) Q (F0 m 1475 ls [])) : W p l e room_1 s m #[Value.ref b] below meth c H locs cells slots Q (F0 m 353 ls []) := by
  obtain ⟨hG, hox, hom, hRel⟩ := hQ
  have C := X.1
  have hx := C.1.1
  have hb := C.1.2.1
  obtain ⟨v1, e1⟩ : ∃ z, xs (i + 1).toNatClampNeg = z := ⟨_, rfl⟩
  obtain ⟨v2, e2⟩ : ∃ z, xs (i + 2).toNatClampNeg = z := ⟨_, rfl⟩
  obtain ⟨v3, e3⟩ : ∃ z, xs (i + 3).toNatClampNeg = z := ⟨_, rfl⟩
  obtain ⟨v4, e4⟩ : ∃ z, xs (i + 4).toNatClampNeg = z := ⟨_, rfl⟩
  obtain ⟨v5, e5⟩ : ∃ z, xs (i + 5).toNatClampNeg = z := ⟨_, rfl⟩
  obtain ⟨v6, e6⟩ : ∃ z, xs (i + 6).toNatClampNeg = z := ⟨_, rfl⟩
  refine lv_aload_n hx hb dL_law_353 rfl (lv_at hl 2 rfl) ?_
  refine lv_aload_n hx hb dL_law_354 rfl (lv_at hl 3 rfl) ?_
  refine lv_iload_n hx hb dL_law_355 rfl (lv_at hl 0 rfl) ?_
  refine lv_iconst (v := 1) hx hb dL_law_356 (by decide) ?_
  refine q_ai X hS (k := 1) (by decide) hi e1 dL_law_357 dL_law_358 ?_
  refine lv_aload_n hx hb dL_law_359 rfl (lv_at hl 3 rfl) ?_
  refine lv_iload_n hx hb dL_law_360 rfl (lv_at hl 0 rfl) ?_
  refine lv_iconst (v := 2) hx hb dL_law_361 (by decide) ?_
  refine q_ai X hS (k := 2) (by decide) hi e2 dL_law_362 dL_law_363 ?_
  refine lv_aload_n hx hb dL_law_364 rfl (lv_at hl 3 rfl) ?_
  refine lv_iload_n hx hb dL_law_365 rfl (lv_at hl 0 rfl) ?_
  refine lv_iconst (v := 3) hx hb dL_law_366 (by decide) ?_
  refine q_ai X hS (k := 3) (by decide) hi e3 dL_law_367 dL_law_368 ?_
  refine lv_aload_n hx hb dL_law_369 rfl (lv_at hl 3 rfl) ?_
  refine lv_iload_n hx hb dL_law_370 rfl (lv_at hl 0 rfl) ?_
  refine lv_iconst (v := 4) hx hb dL_law_371 (by decide) ?_
  refine q_ai X hS (k := 4) (by decide) hi e4 dL_law_372 dL_law_373 ?_
  refine lv_aload_n hx hb dL_law_374 rfl (lv_at hl 3 rfl) ?_
  refine lv_iload_n hx hb dL_law_375 rfl (lv_at hl 0 rfl) ?_
  refine lv_iconst (v := 5) hx hb dL_law_376 (by decide) ?_
  refine q_ai X hS (k := 5) (by decide) hi e5 dL_law_377 dL_law_378 ?_
  refine lv_aload_n hx hb dL_law_379 rfl (lv_at hl 3 rfl) ?_
  refine lv_iload_n hx hb dL_law_380 rfl (lv_at hl 0 rfl) ?_
  refine lv_bipush (v := 6) hx hb dL_law_381 (by decide) ?_
  refine q_ai X hS (k := 6) (by decide) hi e6 dL_law_383 dL_law_384 ?_
  have hG0 := hG
  have hGp := hG
  refine W.eq (g2 := F0 m 385 ls [.int v6, .int v5, .int v4, .int v3, .int v2, .int v1, .ref (al.2 49 0)]) (by rw [hox]) ?_
  refine q_ciA (q_runVA (t := 49) (i := 0) (As := [.int v1, .int v2, .int v3, .int v4, .int v5, .int v6]) (rest := []) C hU hS.1 (c_X11_leg_y hG v1 v2 v3 v4 v5 v6) vm_X11_leg ml_L_36 k_49.1 (hc := rfl) rfl (h1_49 hG) hl.1 rfl rfl (Nat.le_of_ble_eq_true rfl) dL_law_385 rfl rfl ⟨Nat.le_of_ble_eq_true rfl, Nat.le_of_ble_eq_true rfl⟩ ⟨by show cells + 1 ≤ 600000; omega, by show slots + 15 ≤ 7302250; omega⟩) hS hS.1 (fun r1 al1 iv1 rv1 H locs hp1 hU hS _ => ?_)
  obtain ⟨hG1, hE1, hp1⟩ := hp1
  have hox := (hE1.2.1 49 0 (h1_49 hG)).trans hox
  have hom := (hE1.2.1 0 0 (h1_0 hG)).trans hom
  have hG := hG1
  refine W.widen (k := cells + 3) (n := slots + 16) (by omega) (by omega) ?_
  refine lv_pop hx hb dL_law_388 rfl ?_
  refine lv_aload_n hx hb dL_law_389 rfl (lv_at hl 1 rfl) ?_
  refine lv_aload_n hx hb dL_law_390 rfl (lv_at hl 3 rfl) ?_
  refine lv_iload_n hx hb dL_law_391 rfl (lv_at hl 0 rfl) ?_
  refine lv_iconst (v := 1) hx hb dL_law_392 (by decide) ?_
  refine q_ai X hS (k := 1) (by decide) hi e1 dL_law_393 dL_law_394 ?_
  refine lv_aload_n hx hb dL_law_395 rfl (lv_at hl 3 rfl) ?_
  refine lv_iload_n hx hb dL_law_396 rfl (lv_at hl 0 rfl) ?_
  refine lv_iconst (v := 2) hx hb dL_law_397 (by decide) ?_
  refine q_ai X hS (k := 2) (by decide) hi e2 dL_law_398 dL_law_399 ?_
  refine lv_aload_n hx hb dL_law_400 rfl (lv_at hl 3 rfl) ?_
  refine lv_iload_n hx hb dL_law_401 rfl (lv_at hl 0 rfl) ?_
  refine lv_iconst (v := 3) hx hb dL_law_402 (by decide) ?_
  refine q_ai X hS (k := 3) (by decide) hi e3 dL_law_403 dL_law_404 ?_
  refine lv_aload_n hx hb dL_law_405 rfl (lv_at hl 3 rfl) ?_
  refine lv_iload_n hx hb dL_law_406 rfl (lv_at hl 0 rfl) ?_
  refine lv_iconst (v := 4) hx hb dL_law_407 (by decide) ?_
  refine q_ai X hS (k := 4) (by decide) hi e4 dL_law_408 dL_law_409 ?_
  refine lv_aload_n hx hb dL_law_410 rfl (lv_at hl 3 rfl) ?_
  refine lv_iload_n hx hb dL_law_411 rfl (lv_at hl 0 rfl) ?_
  refine lv_iconst (v := 5) hx hb dL_law_412 (by decide) ?_
  refine q_ai X hS (k := 5) (by decide) hi e5 dL_law_413 dL_law_414 ?_
  refine lv_aload_n hx hb dL_law_415 rfl (lv_at hl 3 rfl) ?_
  refine lv_iload_n hx hb dL_law_416 rfl (lv_at hl 0 rfl) ?_
  refine lv_bipush (v := 6) hx hb dL_law_417 (by decide) ?_
  refine q_ai X hS (k := 6) (by decide) hi e6 dL_law_419 dL_law_420 ?_
  have hGp := hG
  refine W.eq (g2 := F0 m 421 ls [.int v6, .int v5, .int v4, .int v3, .int v2, .int v1, .ref (al1.2 0 0)]) (by rw [hom]) ?_
  refine q_fi (q_runV (t := 0) (i := 0) (As := [.int v1, .int v2, .int v3, .int v4, .int v5, .int v6]) (rest := []) C hU (c_X12_leg_y hG v1 v2 v3 v4 v5 v6) vm_X12_leg ml_L_40 k_0.1 (hc := rfl) rfl (h1_0 hG) hl.1 rfl rfl (Nat.le_of_ble_eq_true rfl) dL_law_421 rfl rfl ⟨Nat.le_of_ble_eq_true rfl, Nat.le_of_ble_eq_true rfl⟩ ⟨by show (cells + 3) + 0 ≤ 600000; omega, by show (slots + 16) + 0 ≤ 7302250; omega⟩) hS (fun r2 iv2 rv2 H locs hG f2 g2 hp2 hU hS => ?_)
  have hRel := REL.s_leg hG0 hRel hp1 hp2 hE1 f2 g2
  refine lv_pop hx hb dL_law_424 rfl ?_
  refine lv_goto (tgt := 1475) hx hb dL_law_425 (by decide) ?_
  exact kk _ _ _ _ _ ⟨hG, hox, hom, hRel⟩ hU hS
set_option maxHeartbeats 4000000 in
set_option maxRecDepth 100000 in
theorem law_6 {p : Program} {l : Launch} {e : Env} {s : State} {m : MethodId} {below : List Frame} {meth : Method} {c : Code} {b L : Nat} {xs : Nat → Int32} {D : va_G} {cA : FieldType → ClassId} {ls : Array Slot} {Q : State → Prop} {H : Heap} {locs : List Loc} {cells slots : Nat} {i : Int32} {ox om : Nat} {al : Al} {iv : Iv} {rv : Rv} (X : LX p s m c b L xs D cA) (hl : lv_has ls 4 [(3, .int i), (2, .ref om), (1, .ref ox), (0, .ref b)]) (hi : 0 ≤ i.toInt ∧ i.toInt + 6 < L) (hQ : LSt ox om al iv rv) (hU : UW D cA s.heap.size al iv rv H) (hS : va_S (Aq s.heap.size) s.heap H locs) (hc : cells + 3 ≤ 600000 ∧ slots + 16 ≤ 7302250)
    (kk : ∀ (al' : Al) (iv' : Iv) (rv' : Rv) (H' : Heap) (locs' : List Loc), LSt ox om al' iv' rv' → UW D cA s.heap.size al' iv' rv' H' → va_S (Aq s.heap.size) s.heap H' locs' → W p l e room_1 s m #[Value.ref b] below meth c H' locs' (cells + 3) (slots + 16) Q (F0 m 1475 ls [])) : W p l e room_1 s m #[Value.ref b] below meth c H locs cells slots Q (F0 m 428 ls []) := by
  obtain ⟨hG, hox, hom, hRel⟩ := hQ
  have C := X.1
  have hx := C.1.1
  have hb := C.1.2.1
  obtain ⟨v1, e1⟩ : ∃ z, xs (i + 1).toNatClampNeg = z := ⟨_, rfl⟩
  obtain ⟨v2, e2⟩ : ∃ z, xs (i + 2).toNatClampNeg = z := ⟨_, rfl⟩
  obtain ⟨v3, e3⟩ : ∃ z, xs (i + 3).toNatClampNeg = z := ⟨_, rfl⟩
  refine lv_aload_n hx hb dL_law_428 rfl (lv_at hl 2 rfl) ?_
  refine lv_aload_n hx hb dL_law_429 rfl (lv_at hl 3 rfl) ?_
  refine lv_iload_n hx hb dL_law_430 rfl (lv_at hl 0 rfl) ?_
  refine lv_iconst (v := 1) hx hb dL_law_431 (by decide) ?_
  refine q_ai X hS (k := 1) (by decide) hi e1 dL_law_432 dL_law_433 ?_
  refine lv_aload_n hx hb dL_law_434 rfl (lv_at hl 3 rfl) ?_
  refine lv_iload_n hx hb dL_law_435 rfl (lv_at hl 0 rfl) ?_
  refine lv_iconst (v := 2) hx hb dL_law_436 (by decide) ?_
  refine q_ai X hS (k := 2) (by decide) hi e2 dL_law_437 dL_law_438 ?_
  refine lv_aload_n hx hb dL_law_439 rfl (lv_at hl 3 rfl) ?_
  refine lv_iload_n hx hb dL_law_440 rfl (lv_at hl 0 rfl) ?_
  refine lv_iconst (v := 3) hx hb dL_law_441 (by decide) ?_
  refine q_ai X hS (k := 3) (by decide) hi e3 dL_law_442 dL_law_443 ?_
  have hG0 := hG
  have hGp := hG
  refine W.eq (g2 := F0 m 444 ls [.int v3, .int v2, .int v1, .ref (al.2 49 0)]) (by rw [hox]) ?_
  refine q_fi (q_runV (t := 49) (i := 0) (As := [.int v1, .int v2, .int v3]) (rest := []) C hU (c_X11_log hG v1 v2 v3) vm_X11_log ml_L_41 k_49.1 (hc := rfl) rfl (h1_49 hG) hl.1 rfl rfl (Nat.le_of_ble_eq_true rfl) dL_law_444 rfl rfl ⟨Nat.le_of_ble_eq_true rfl, Nat.le_of_ble_eq_true rfl⟩ ⟨by show cells + 0 ≤ 600000; omega, by show slots + 0 ≤ 7302250; omega⟩) hS (fun r1 iv1 rv1 H locs hG f1 g1 hp1 hU hS => ?_)
  have hRel := hRel.fr hGp f1 g1 (by decide)
  refine lv_pop hx hb dL_law_447 rfl ?_
  refine lv_aload_n hx hb dL_law_448 rfl (lv_at hl 1 rfl) ?_
  refine lv_aload_n hx hb dL_law_449 rfl (lv_at hl 3 rfl) ?_
  refine lv_iload_n hx hb dL_law_450 rfl (lv_at hl 0 rfl) ?_
  refine lv_iconst (v := 1) hx hb dL_law_451 (by decide) ?_
  refine q_ai X hS (k := 1) (by decide) hi e1 dL_law_452 dL_law_453 ?_
  refine lv_aload_n hx hb dL_law_454 rfl (lv_at hl 3 rfl) ?_
  refine lv_iload_n hx hb dL_law_455 rfl (lv_at hl 0 rfl) ?_
  refine lv_iconst (v := 2) hx hb dL_law_456 (by decide) ?_
  refine q_ai X hS (k := 2) (by decide) hi e2 dL_law_457 dL_law_458 ?_
  refine lv_aload_n hx hb dL_law_459 rfl (lv_at hl 3 rfl) ?_
  refine lv_iload_n hx hb dL_law_460 rfl (lv_at hl 0 rfl) ?_
  refine lv_iconst (v := 3) hx hb dL_law_461 (by decide) ?_
  refine q_ai X hS (k := 3) (by decide) hi e3 dL_law_462 dL_law_463 ?_
  have hGp := hG
  refine W.eq (g2 := F0 m 464 ls [.int v3, .int v2, .int v1, .ref (al.2 0 0)]) (by rw [hom]) ?_
  refine q_fi (q_runV (t := 0) (i := 0) (As := [.int v1, .int v2, .int v3]) (rest := []) C hU (c_X12_log hG v1 v2 v3) vm_X12_log ml_L_44 k_0.1 (hc := rfl) rfl (h1_0 hG) hl.1 rfl rfl (Nat.le_of_ble_eq_true rfl) dL_law_464 rfl rfl ⟨Nat.le_of_ble_eq_true rfl, Nat.le_of_ble_eq_true rfl⟩ ⟨by show cells + 0 ≤ 600000; omega, by show slots + 0 ≤ 7302250; omega⟩) hS (fun r2 iv2 rv2 H locs hG f2 g2 hp2 hU hS => ?_)
  have hRel := hRel.fr hGp f2 g2 (by decide)
  refine lv_pop hx hb dL_law_467 rfl ?_
  refine lv_goto (tgt := 1475) hx hb dL_law_468 (by decide) ?_
  refine W.widen (k := cells + 3) (n := slots + 16) (by omega) (by omega) ?_
  exact kk _ _ _ _ _ ⟨hG, hox, hom, hRel⟩ hU hS
set_option maxHeartbeats 4000000 in
set_option maxRecDepth 100000 in
theorem law_7 {p : Program} {l : Launch} {e : Env} {s : State} {m : MethodId} {below : List Frame} {meth : Method} {c : Code} {b L : Nat} {xs : Nat → Int32} {D : va_G} {cA : FieldType → ClassId} {ls : Array Slot} {Q : State → Prop} {H : Heap} {locs : List Loc} {cells slots : Nat} {i : Int32} {ox om : Nat} {al : Al} {iv : Iv} {rv : Rv} (X : LX p s m c b L xs D cA) (hl : lv_has ls 4 [(3, .int i), (2, .ref om), (1, .ref ox), (0, .ref b)]) (hi : 0 ≤ i.toInt ∧ i.toInt + 6 < L) (hQ : LSt ox om al iv rv) (hU : UW D cA s.heap.size al iv rv H) (hS : va_S (Aq s.heap.size) s.heap H locs) (hc : cells + 3 ≤ 600000 ∧ slots + 16 ≤ 7302250)
    (kk : ∀ (al' : Al) (iv' : Iv) (rv' : Rv) (H' : Heap) (locs' : List Loc), LSt ox om al' iv' rv' → UW D cA s.heap.size al' iv' rv' H' → va_S (Aq s.heap.size) s.heap H' locs' → W p l e room_1 s m #[Value.ref b] below meth c H' locs' (cells + 3) (slots + 16) Q (F0 m 1475 ls [])) : W p l e room_1 s m #[Value.ref b] below meth c H locs cells slots Q (F0 m 471 ls []) := by
  obtain ⟨hG, hox, hom, hRel⟩ := hQ
  have C := X.1
  have hx := C.1.1
  have hb := C.1.2.1
  obtain ⟨v1, e1⟩ : ∃ z, xs (i + 1).toNatClampNeg = z := ⟨_, rfl⟩
  obtain ⟨v2, e2⟩ : ∃ z, xs (i + 2).toNatClampNeg = z := ⟨_, rfl⟩
  refine lv_aload_n hx hb dL_law_471 rfl (lv_at hl 2 rfl) ?_
  refine lv_aload_n hx hb dL_law_472 rfl (lv_at hl 3 rfl) ?_
  refine lv_iload_n hx hb dL_law_473 rfl (lv_at hl 0 rfl) ?_
  refine lv_iconst (v := 1) hx hb dL_law_474 (by decide) ?_
  refine q_ai X hS (k := 1) (by decide) hi e1 dL_law_475 dL_law_476 ?_
  refine lv_aload_n hx hb dL_law_477 rfl (lv_at hl 3 rfl) ?_
  refine lv_iload_n hx hb dL_law_478 rfl (lv_at hl 0 rfl) ?_
  refine lv_iconst (v := 2) hx hb dL_law_479 (by decide) ?_
  refine q_ai X hS (k := 2) (by decide) hi e2 dL_law_480 dL_law_481 ?_
  have hG0 := hG
  have hGp := hG
  refine W.eq (g2 := F0 m 482 ls [.int v2, .int v1, .ref (al.2 49 0)]) (by rw [hox]) ?_
  refine q_fi (q_runV (t := 49) (i := 0) (As := [.int v1, .int v2]) (rest := []) C hU (c_X11_cause hG v1 v2) vm_X11_cause ml_L_45 k_49.1 (hc := rfl) rfl (h1_49 hG) hl.1 rfl rfl (Nat.le_of_ble_eq_true rfl) dL_law_482 rfl rfl ⟨Nat.le_of_ble_eq_true rfl, Nat.le_of_ble_eq_true rfl⟩ ⟨by show cells + 0 ≤ 600000; omega, by show slots + 0 ≤ 7302250; omega⟩) hS (fun r1 iv1 rv1 H locs hG f1 g1 hp1 hU hS => ?_)
  have hRel := hRel.fr hGp f1 g1 (by decide)
  refine lv_pop hx hb dL_law_485 rfl ?_
  refine lv_aload_n hx hb dL_law_486 rfl (lv_at hl 1 rfl) ?_
  refine lv_aload_n hx hb dL_law_487 rfl (lv_at hl 3 rfl) ?_
  refine lv_iload_n hx hb dL_law_488 rfl (lv_at hl 0 rfl) ?_
  refine lv_iconst (v := 1) hx hb dL_law_489 (by decide) ?_
  refine q_ai X hS (k := 1) (by decide) hi e1 dL_law_490 dL_law_491 ?_
  refine lv_aload_n hx hb dL_law_492 rfl (lv_at hl 3 rfl) ?_
  refine lv_iload_n hx hb dL_law_493 rfl (lv_at hl 0 rfl) ?_
  refine lv_iconst (v := 2) hx hb dL_law_494 (by decide) ?_
  refine q_ai X hS (k := 2) (by decide) hi e2 dL_law_495 dL_law_496 ?_
  have hGp := hG
  refine W.eq (g2 := F0 m 497 ls [.int v2, .int v1, .ref (al.2 0 0)]) (by rw [hom]) ?_
  refine q_fi (q_runV (t := 0) (i := 0) (As := [.int v1, .int v2]) (rest := []) C hU (c_X12_cause hG v1 v2) vm_X12_cause ml_L_48 k_0.1 (hc := rfl) rfl (h1_0 hG) hl.1 rfl rfl (Nat.le_of_ble_eq_true rfl) dL_law_497 rfl rfl ⟨Nat.le_of_ble_eq_true rfl, Nat.le_of_ble_eq_true rfl⟩ ⟨by show cells + 0 ≤ 600000; omega, by show slots + 0 ≤ 7302250; omega⟩) hS (fun r2 iv2 rv2 H locs hG f2 g2 hp2 hU hS => ?_)
  have hRel := hRel.fr hGp f2 g2 (by decide)
  refine lv_pop hx hb dL_law_500 rfl ?_
  refine lv_goto (tgt := 1475) hx hb dL_law_501 (by decide) ?_
  refine W.widen (k := cells + 3) (n := slots + 16) (by omega) (by omega) ?_
  exact kk _ _ _ _ _ ⟨hG, hox, hom, hRel⟩ hU hS
set_option maxHeartbeats 4000000 in
set_option maxRecDepth 100000 in
theorem law_8 {p : Program} {l : Launch} {e : Env} {s : State} {m : MethodId} {below : List Frame} {meth : Method} {c : Code} {b L : Nat} {xs : Nat → Int32} {D : va_G} {cA : FieldType → ClassId} {ls : Array Slot} {Q : State → Prop} {H : Heap} {locs : List Loc} {cells slots : Nat} {i : Int32} {ox om : Nat} {al : Al} {iv : Iv} {rv : Rv} (X : LX p s m c b L xs D cA) (hl : lv_has ls 4 [(3, .int i), (2, .ref om), (1, .ref ox), (0, .ref b)]) (hi : 0 ≤ i.toInt ∧ i.toInt + 6 < L) (hQ : LSt ox om al iv rv) (hU : UW D cA s.heap.size al iv rv H) (hS : va_S (Aq s.heap.size) s.heap H locs) (hc : cells + 3 ≤ 600000 ∧ slots + 16 ≤ 7302250)
    (kk : ∀ (al' : Al) (iv' : Iv) (rv' : Rv) (H' : Heap) (locs' : List Loc), LSt ox om al' iv' rv' → UW D cA s.heap.size al' iv' rv' H' → va_S (Aq s.heap.size) s.heap H' locs' → W p l e room_1 s m #[Value.ref b] below meth c H' locs' (cells + 3) (slots + 16) Q (F0 m 1475 ls [])) : W p l e room_1 s m #[Value.ref b] below meth c H locs cells slots Q (F0 m 504 ls []) := by
  obtain ⟨hG, hox, hom, hRel⟩ := hQ
  have C := X.1
  have hx := C.1.1
  have hb := C.1.2.1
  obtain ⟨v1, e1⟩ : ∃ z, xs (i + 1).toNatClampNeg = z := ⟨_, rfl⟩
  obtain ⟨v2, e2⟩ : ∃ z, xs (i + 2).toNatClampNeg = z := ⟨_, rfl⟩
  refine lv_aload_n hx hb dL_law_504 rfl (lv_at hl 2 rfl) ?_
  refine lv_aload_n hx hb dL_law_505 rfl (lv_at hl 3 rfl) ?_
  refine lv_iload_n hx hb dL_law_506 rfl (lv_at hl 0 rfl) ?_
  refine lv_iconst (v := 1) hx hb dL_law_507 (by decide) ?_
  refine q_ai X hS (k := 1) (by decide) hi e1 dL_law_508 dL_law_509 ?_
  refine lv_aload_n hx hb dL_law_510 rfl (lv_at hl 3 rfl) ?_
  refine lv_iload_n hx hb dL_law_511 rfl (lv_at hl 0 rfl) ?_
  refine lv_iconst (v := 2) hx hb dL_law_512 (by decide) ?_
  refine q_ai X hS (k := 2) (by decide) hi e2 dL_law_513 dL_law_514 ?_
  have hG0 := hG
  have hGp := hG
  refine W.eq (g2 := F0 m 515 ls [.int v2, .int v1, .ref (al.2 49 0)]) (by rw [hox]) ?_
  refine q_fi (q_runVX (t := 49) (i := 0) (As := [.int v1, .int v2]) (rest := []) C hU hS.1 (fun U hH hW => X.2.2.2.1.to hS hH hW) SX.calling (c_X11_set hG v1 v2) vm_X11_set ml_L_49 k_49.1 (hc := rfl) rfl (h1_49 hG) hl.1 rfl rfl (Nat.le_of_ble_eq_true rfl) dL_law_515 rfl rfl ⟨Nat.le_of_ble_eq_true rfl, Nat.le_of_ble_eq_true rfl⟩ ⟨by show cells + 0 ≤ 600000; omega, by show slots + 0 ≤ 7302250; omega⟩) hS (fun r1 iv1 rv1 H locs hG f1 g1 hp1 hU hS => ?_)
  have hRel := hRel.fr hGp f1 g1 (by decide)
  refine lv_pop hx hb dL_law_518 rfl ?_
  refine lv_aload_n hx hb dL_law_519 rfl (lv_at hl 1 rfl) ?_
  refine lv_aload_n hx hb dL_law_520 rfl (lv_at hl 3 rfl) ?_
  refine lv_iload_n hx hb dL_law_521 rfl (lv_at hl 0 rfl) ?_
  refine lv_iconst (v := 1) hx hb dL_law_522 (by decide) ?_
  refine q_ai X hS (k := 1) (by decide) hi e1 dL_law_523 dL_law_524 ?_
  refine lv_aload_n hx hb dL_law_525 rfl (lv_at hl 3 rfl) ?_
  refine lv_iload_n hx hb dL_law_526 rfl (lv_at hl 0 rfl) ?_
  refine lv_iconst (v := 2) hx hb dL_law_527 (by decide) ?_
  refine q_ai X hS (k := 2) (by decide) hi e2 dL_law_528 dL_law_529 ?_
  have hGp := hG
  refine W.eq (g2 := F0 m 530 ls [.int v2, .int v1, .ref (al.2 0 0)]) (by rw [hom]) ?_
  refine q_fi (q_runV (t := 0) (i := 0) (As := [.int v1, .int v2]) (rest := []) C hU (c_X12_set hG v1 v2) vm_X12_set ml_L_52 k_0.1 (hc := rfl) rfl (h1_0 hG) hl.1 rfl rfl (Nat.le_of_ble_eq_true rfl) dL_law_530 rfl rfl ⟨Nat.le_of_ble_eq_true rfl, Nat.le_of_ble_eq_true rfl⟩ ⟨by show cells + 0 ≤ 600000; omega, by show slots + 0 ≤ 7302250; omega⟩) hS (fun r2 iv2 rv2 H locs hG f2 g2 hp2 hU hS => ?_)
  have hRel := hRel.fr hGp f2 g2 (by decide)
  refine lv_pop hx hb dL_law_533 rfl ?_
  refine lv_goto (tgt := 1475) hx hb dL_law_534 (by decide) ?_
  refine W.widen (k := cells + 3) (n := slots + 16) (by omega) (by omega) ?_
  exact kk _ _ _ _ _ ⟨hG, hox, hom, hRel⟩ hU hS
end
section
set_option maxHeartbeats 4000000 in
set_option maxRecDepth 100000 in
theorem law_9 {p : Program} {l : Launch} {e : Env} {s : State} {m : MethodId} {below : List Frame} {meth : Method} {c : Code} {b L : Nat} {xs : Nat → Int32} {D : va_G} {cA : FieldType → ClassId} {ls : Array Slot} {Q : State → Prop} {H : Heap} {locs : List Loc} {cells slots : Nat} {i : Int32} {ox om : Nat} {al : Al} {iv : Iv} {rv : Rv} (X : LX p s m c b L xs D cA) (hl : lv_has ls 4 [(3, .int i), (2, .ref om), (1, .ref ox), (0, .ref b)]) (hi : 0 ≤ i.toInt ∧ i.toInt + 6 < L) (hQ : LSt ox om al iv rv) (hU : UW D cA s.heap.size al iv rv H) (hS : va_S (Aq s.heap.size) s.heap H locs) (hc : cells + 3 ≤ 600000 ∧ slots + 16 ≤ 7302250)
    (kk : ∀ (al' : Al) (iv' : Iv) (rv' : Rv) (H' : Heap) (locs' : List Loc), LSt ox om al' iv' rv' → UW D cA s.heap.size al' iv' rv' H' → va_S (Aq s.heap.size) s.heap H' locs' → W p l e room_1 s m #[Value.ref b] below meth c H' locs' (cells + 3) (slots + 16) Q (F0 m 1475 ls [])) : W p l e room_1 s m #[Value.ref b] below meth c H locs cells slots Q (F0 m 537 ls []) := by
  obtain ⟨hG, hox, hom, hRel⟩ := hQ
  have C := X.1
  have hx := C.1.1
  have hb := C.1.2.1
  obtain ⟨v1, e1⟩ : ∃ z, xs (i + 1).toNatClampNeg = z := ⟨_, rfl⟩
  obtain ⟨v2, e2⟩ : ∃ z, xs (i + 2).toNatClampNeg = z := ⟨_, rfl⟩
  refine lv_aload_n hx hb dL_law_537 rfl (lv_at hl 2 rfl) ?_
  refine lv_aload_n hx hb dL_law_538 rfl (lv_at hl 3 rfl) ?_
  refine lv_iload_n hx hb dL_law_539 rfl (lv_at hl 0 rfl) ?_
  refine lv_iconst (v := 1) hx hb dL_law_540 (by decide) ?_
  refine q_ai X hS (k := 1) (by decide) hi e1 dL_law_541 dL_law_542 ?_
  refine lv_aload_n hx hb dL_law_543 rfl (lv_at hl 3 rfl) ?_
  refine lv_iload_n hx hb dL_law_544 rfl (lv_at hl 0 rfl) ?_
  refine lv_iconst (v := 2) hx hb dL_law_545 (by decide) ?_
  refine q_ai X hS (k := 2) (by decide) hi e2 dL_law_546 dL_law_547 ?_
  have hG0 := hG
  have hGp := hG
  refine W.eq (g2 := F0 m 548 ls [.int v2, .int v1, .ref (al.2 49 0)]) (by rw [hox]) ?_
  refine q_fi (q_runV (t := 49) (i := 0) (As := [.int v1, .int v2]) (rest := []) C hU (c_X11_legOf hG v1 v2) vm_X11_legOf ml_L_53 k_49.1 (hc := rfl) rfl (h1_49 hG) hl.1 rfl rfl (Nat.le_of_ble_eq_true rfl) dL_law_548 rfl rfl ⟨Nat.le_of_ble_eq_true rfl, Nat.le_of_ble_eq_true rfl⟩ ⟨by show cells + 0 ≤ 600000; omega, by show slots + 0 ≤ 7302250; omega⟩) hS (fun r1 iv1 rv1 H locs hG f1 g1 hp1 hU hS => ?_)
  have hRel := hRel.fr hGp f1 g1 (by decide)
  refine lv_pop hx hb dL_law_551 rfl ?_
  refine lv_aload_n hx hb dL_law_552 rfl (lv_at hl 1 rfl) ?_
  refine lv_aload_n hx hb dL_law_553 rfl (lv_at hl 3 rfl) ?_
  refine lv_iload_n hx hb dL_law_554 rfl (lv_at hl 0 rfl) ?_
  refine lv_iconst (v := 1) hx hb dL_law_555 (by decide) ?_
  refine q_ai X hS (k := 1) (by decide) hi e1 dL_law_556 dL_law_557 ?_
  refine lv_aload_n hx hb dL_law_558 rfl (lv_at hl 3 rfl) ?_
  refine lv_iload_n hx hb dL_law_559 rfl (lv_at hl 0 rfl) ?_
  refine lv_iconst (v := 2) hx hb dL_law_560 (by decide) ?_
  refine q_ai X hS (k := 2) (by decide) hi e2 dL_law_561 dL_law_562 ?_
  have hGp := hG
  refine W.eq (g2 := F0 m 563 ls [.int v2, .int v1, .ref (al.2 0 0)]) (by rw [hom]) ?_
  refine q_fi (q_runV (t := 0) (i := 0) (As := [.int v1, .int v2]) (rest := []) C hU (c_X12_legOf hG v1 v2) vm_X12_legOf ml_L_56 k_0.1 (hc := rfl) rfl (h1_0 hG) hl.1 rfl rfl (Nat.le_of_ble_eq_true rfl) dL_law_563 rfl rfl ⟨Nat.le_of_ble_eq_true rfl, Nat.le_of_ble_eq_true rfl⟩ ⟨by show cells + 0 ≤ 600000; omega, by show slots + 0 ≤ 7302250; omega⟩) hS (fun r2 iv2 rv2 H locs hG f2 g2 hp2 hU hS => ?_)
  have hRel := hRel.fr hGp f2 g2 (by decide)
  refine lv_pop hx hb dL_law_566 rfl ?_
  refine lv_goto (tgt := 1475) hx hb dL_law_567 (by decide) ?_
  refine W.widen (k := cells + 3) (n := slots + 16) (by omega) (by omega) ?_
  exact kk _ _ _ _ _ ⟨hG, hox, hom, hRel⟩ hU hS
set_option maxHeartbeats 4000000 in
set_option maxRecDepth 100000 in
theorem law_10 {p : Program} {l : Launch} {e : Env} {s : State} {m : MethodId} {below : List Frame} {meth : Method} {c : Code} {b L : Nat} {xs : Nat → Int32} {D : va_G} {cA : FieldType → ClassId} {ls : Array Slot} {Q : State → Prop} {H : Heap} {locs : List Loc} {cells slots : Nat} {i : Int32} {ox om : Nat} {al : Al} {iv : Iv} {rv : Rv} (X : LX p s m c b L xs D cA) (hl : lv_has ls 4 [(3, .int i), (2, .ref om), (1, .ref ox), (0, .ref b)]) (hi : 0 ≤ i.toInt ∧ i.toInt + 6 < L) (hQ : LSt ox om al iv rv) (hU : UW D cA s.heap.size al iv rv H) (hS : va_S (Aq s.heap.size) s.heap H locs) (hc : cells + 3 ≤ 600000 ∧ slots + 16 ≤ 7302250)
    (kk : ∀ (al' : Al) (iv' : Iv) (rv' : Rv) (H' : Heap) (locs' : List Loc), LSt ox om al' iv' rv' → UW D cA s.heap.size al' iv' rv' H' → va_S (Aq s.heap.size) s.heap H' locs' → W p l e room_1 s m #[Value.ref b] below meth c H' locs' (cells + 3) (slots + 16) Q (F0 m 1475 ls [])) : W p l e room_1 s m #[Value.ref b] below meth c H locs cells slots Q (F0 m 570 ls []) := by
  obtain ⟨hG, hox, hom, hRel⟩ := hQ
  have C := X.1
  have hx := C.1.1
  have hb := C.1.2.1
  obtain ⟨v1, e1⟩ : ∃ z, xs (i + 1).toNatClampNeg = z := ⟨_, rfl⟩
  obtain ⟨v2, e2⟩ : ∃ z, xs (i + 2).toNatClampNeg = z := ⟨_, rfl⟩
  refine lv_aload_n hx hb dL_law_570 rfl (lv_at hl 2 rfl) ?_
  refine lv_aload_n hx hb dL_law_571 rfl (lv_at hl 3 rfl) ?_
  refine lv_iload_n hx hb dL_law_572 rfl (lv_at hl 0 rfl) ?_
  refine lv_iconst (v := 1) hx hb dL_law_573 (by decide) ?_
  refine q_ai X hS (k := 1) (by decide) hi e1 dL_law_574 dL_law_575 ?_
  refine lv_aload_n hx hb dL_law_576 rfl (lv_at hl 3 rfl) ?_
  refine lv_iload_n hx hb dL_law_577 rfl (lv_at hl 0 rfl) ?_
  refine lv_iconst (v := 2) hx hb dL_law_578 (by decide) ?_
  refine q_ai X hS (k := 2) (by decide) hi e2 dL_law_579 dL_law_580 ?_
  have J_589 : ∀ zv2 : Int32, (0 ≤ zv2.toInt ∧ zv2.toInt ≤ 1) → zv2 = bz v2 → W p l e room_1 s m #[Value.ref b] below meth c H locs cells slots Q (F0 m 589 ls [.int zv2, .int v1, .ref ox]) := by
    intro zv2 rzv2 qzv2
    have hG0 := hG
    have hGp := hG
    refine W.eq (g2 := F0 m 589 ls [.int zv2, .int v1, .ref (al.2 49 0)]) (by rw [hox]) ?_
    refine q_fi (q_runV (t := 49) (i := 0) (As := [.int v1, .int zv2]) (rest := []) C hU (c_X11_ahead hG v1 zv2) vm_X11_ahead ml_L_57 k_49.1 (hc := rfl) rfl (h1_49 hG) hl.1 rfl rfl (Nat.le_of_ble_eq_true rfl) dL_law_589 rfl rfl ⟨Nat.le_of_ble_eq_true rfl, Nat.le_of_ble_eq_true rfl⟩ ⟨by show cells + 0 ≤ 600000; omega, by show slots + 0 ≤ 7302250; omega⟩) hS (fun r1 iv1 rv1 H locs hG f1 g1 hp1 hU hS => ?_)
    have hRel := hRel.fr hGp f1 g1 (by decide)
    refine lv_pop hx hb dL_law_592 rfl ?_
    refine lv_aload_n hx hb dL_law_593 rfl (lv_at hl 1 rfl) ?_
    refine lv_aload_n hx hb dL_law_594 rfl (lv_at hl 3 rfl) ?_
    refine lv_iload_n hx hb dL_law_595 rfl (lv_at hl 0 rfl) ?_
    refine lv_iconst (v := 1) hx hb dL_law_596 (by decide) ?_
    refine q_ai X hS (k := 1) (by decide) hi e1 dL_law_597 dL_law_598 ?_
    refine lv_aload_n hx hb dL_law_599 rfl (lv_at hl 3 rfl) ?_
    refine lv_iload_n hx hb dL_law_600 rfl (lv_at hl 0 rfl) ?_
    refine lv_iconst (v := 2) hx hb dL_law_601 (by decide) ?_
    refine q_ai X hS (k := 2) (by decide) hi e2 dL_law_602 dL_law_603 ?_
    have J_612 : ∀ zv2m : Int32, (0 ≤ zv2m.toInt ∧ zv2m.toInt ≤ 1) → zv2m = bz v2 → W p l e room_1 s m #[Value.ref b] below meth c H locs cells slots Q (F0 m 612 ls [.int zv2m, .int v1, .ref om]) := by
      intro zv2m rzv2m qzv2m
      have hGp := hG
      refine W.eq (g2 := F0 m 612 ls [.int zv2m, .int v1, .ref (al.2 0 0)]) (by rw [hom]) ?_
      refine q_fi (q_runV (t := 0) (i := 0) (As := [.int v1, .int zv2m]) (rest := []) C hU (c_X12_ahead hG v1 zv2m rzv2m) vm_X12_ahead ml_L_61 k_0.1 (hc := rfl) rfl (h1_0 hG) hl.1 rfl rfl (Nat.le_of_ble_eq_true rfl) dL_law_612 rfl rfl ⟨Nat.le_of_ble_eq_true rfl, Nat.le_of_ble_eq_true rfl⟩ ⟨by show cells + 0 ≤ 600000; omega, by show slots + 0 ≤ 7302250; omega⟩) hS (fun r2 iv2 rv2 H locs hG f2 g2 hp2 hU hS => ?_)
      have hRel := hRel.fr hGp f2 g2 (by decide)
      refine lv_pop hx hb dL_law_615 rfl ?_
      refine lv_goto (tgt := 1475) hx hb dL_law_616 (by decide) ?_
      refine W.widen (k := cells + 3) (n := slots + 16) (by omega) (by omega) ?_
      exact kk _ _ _ _ _ ⟨hG, hox, hom, hRel⟩ hU hS
    refine b_if_eq (tgt := 611) hx hb dL_law_604 (by decide) (fun c0 => ?_) (fun c0 => ?_)
    · refine lv_iconst (v := 0) hx hb dL_law_611 (by decide) ?_
      exact J_612 0 ⟨by decide, by decide⟩ (bz_0 c0)
    · refine lv_iconst (v := 1) hx hb dL_law_607 (by decide) ?_
      refine lv_goto (tgt := 612) hx hb dL_law_608 (by decide) ?_
      exact J_612 1 ⟨by decide, by decide⟩ (bz_1 c0)
  refine b_if_eq (tgt := 588) hx hb dL_law_581 (by decide) (fun c0 => ?_) (fun c0 => ?_)
  · refine lv_iconst (v := 0) hx hb dL_law_588 (by decide) ?_
    exact J_589 0 ⟨by decide, by decide⟩ (bz_0 c0)
  · refine lv_iconst (v := 1) hx hb dL_law_584 (by decide) ?_
    refine lv_goto (tgt := 589) hx hb dL_law_585 (by decide) ?_
    exact J_589 1 ⟨by decide, by decide⟩ (bz_1 c0)
set_option maxHeartbeats 4000000 in
set_option maxRecDepth 100000 in
theorem law_11 {p : Program} {l : Launch} {e : Env} {s : State} {m : MethodId} {below : List Frame} {meth : Method} {c : Code} {b L : Nat} {xs : Nat → Int32} {D : va_G} {cA : FieldType → ClassId} {ls : Array Slot} {Q : State → Prop} {H : Heap} {locs : List Loc} {cells slots : Nat} {i : Int32} {ox om : Nat} {al : Al} {iv : Iv} {rv : Rv} (X : LX p s m c b L xs D cA) (hl : lv_has ls 4 [(3, .int i), (2, .ref om), (1, .ref ox), (0, .ref b)]) (hi : 0 ≤ i.toInt ∧ i.toInt + 6 < L) (hQ : LSt ox om al iv rv) (hU : UW D cA s.heap.size al iv rv H) (hS : va_S (Aq s.heap.size) s.heap H locs) (hc : cells + 3 ≤ 600000 ∧ slots + 16 ≤ 7302250)
    (kk : ∀ (al' : Al) (iv' : Iv) (rv' : Rv) (H' : Heap) (locs' : List Loc), LSt ox om al' iv' rv' → UW D cA s.heap.size al' iv' rv' H' → va_S (Aq s.heap.size) s.heap H' locs' → W p l e room_1 s m #[Value.ref b] below meth c H' locs' (cells + 3) (slots + 16) Q (F0 m 1475 ls [])) : W p l e room_1 s m #[Value.ref b] below meth c H locs cells slots Q (F0 m 619 ls []) := by
  obtain ⟨hG, hox, hom, hRel⟩ := hQ
  have C := X.1
  have hx := C.1.1
  have hb := C.1.2.1
  obtain ⟨v1, e1⟩ : ∃ z, xs (i + 1).toNatClampNeg = z := ⟨_, rfl⟩
  obtain ⟨v2, e2⟩ : ∃ z, xs (i + 2).toNatClampNeg = z := ⟨_, rfl⟩
  refine lv_aload_n hx hb dL_law_619 rfl (lv_at hl 2 rfl) ?_
  refine lv_aload_n hx hb dL_law_620 rfl (lv_at hl 3 rfl) ?_
  refine lv_iload_n hx hb dL_law_621 rfl (lv_at hl 0 rfl) ?_
  refine lv_iconst (v := 1) hx hb dL_law_622 (by decide) ?_
  refine q_ai X hS (k := 1) (by decide) hi e1 dL_law_623 dL_law_624 ?_
  refine lv_aload_n hx hb dL_law_625 rfl (lv_at hl 3 rfl) ?_
  refine lv_iload_n hx hb dL_law_626 rfl (lv_at hl 0 rfl) ?_
  refine lv_iconst (v := 2) hx hb dL_law_627 (by decide) ?_
  refine q_ai X hS (k := 2) (by decide) hi e2 dL_law_628 dL_law_629 ?_
  have hG0 := hG
  have hGp := hG
  refine W.eq (g2 := F0 m 630 ls [.int v2, .int v1, .ref (al.2 49 0)]) (by rw [hox]) ?_
  refine q_fi (q_runV (t := 49) (i := 0) (As := [.int v1, .int v2]) (rest := []) C hU (c_X11_minutes hG v1 v2) vm_X11_minutes ml_L_62 k_49.1 (hc := rfl) rfl (h1_49 hG) hl.1 rfl rfl (Nat.le_of_ble_eq_true rfl) dL_law_630 rfl rfl ⟨Nat.le_of_ble_eq_true rfl, Nat.le_of_ble_eq_true rfl⟩ ⟨by show cells + 0 ≤ 600000; omega, by show slots + 0 ≤ 7302250; omega⟩) hS (fun r1 iv1 rv1 H locs hG f1 g1 hp1 hU hS => ?_)
  have hRel := hRel.fr hGp f1 g1 (by decide)
  refine lv_pop hx hb dL_law_633 rfl ?_
  refine lv_aload_n hx hb dL_law_634 rfl (lv_at hl 1 rfl) ?_
  refine lv_aload_n hx hb dL_law_635 rfl (lv_at hl 3 rfl) ?_
  refine lv_iload_n hx hb dL_law_636 rfl (lv_at hl 0 rfl) ?_
  refine lv_iconst (v := 1) hx hb dL_law_637 (by decide) ?_
  refine q_ai X hS (k := 1) (by decide) hi e1 dL_law_638 dL_law_639 ?_
  refine lv_aload_n hx hb dL_law_640 rfl (lv_at hl 3 rfl) ?_
  refine lv_iload_n hx hb dL_law_641 rfl (lv_at hl 0 rfl) ?_
  refine lv_iconst (v := 2) hx hb dL_law_642 (by decide) ?_
  refine q_ai X hS (k := 2) (by decide) hi e2 dL_law_643 dL_law_644 ?_
  have hGp := hG
  refine W.eq (g2 := F0 m 645 ls [.int v2, .int v1, .ref (al.2 0 0)]) (by rw [hom]) ?_
  refine q_fi (q_runV (t := 0) (i := 0) (As := [.int v1, .int v2]) (rest := []) C hU (c_X12_minutes hG v1 v2) vm_X12_minutes ml_L_65 k_0.1 (hc := rfl) rfl (h1_0 hG) hl.1 rfl rfl (Nat.le_of_ble_eq_true rfl) dL_law_645 rfl rfl ⟨Nat.le_of_ble_eq_true rfl, Nat.le_of_ble_eq_true rfl⟩ ⟨by show cells + 0 ≤ 600000; omega, by show slots + 0 ≤ 7302250; omega⟩) hS (fun r2 iv2 rv2 H locs hG f2 g2 hp2 hU hS => ?_)
  have hRel := hRel.fr hGp f2 g2 (by decide)
  refine lv_pop hx hb dL_law_648 rfl ?_
  refine lv_goto (tgt := 1475) hx hb dL_law_649 (by decide) ?_
  refine W.widen (k := cells + 3) (n := slots + 16) (by omega) (by omega) ?_
  exact kk _ _ _ _ _ ⟨hG, hox, hom, hRel⟩ hU hS
set_option maxHeartbeats 4000000 in
set_option maxRecDepth 100000 in
theorem law_12 {p : Program} {l : Launch} {e : Env} {s : State} {m : MethodId} {below : List Frame} {meth : Method} {c : Code} {b L : Nat} {xs : Nat → Int32} {D : va_G} {cA : FieldType → ClassId} {ls : Array Slot} {Q : State → Prop} {H : Heap} {locs : List Loc} {cells slots : Nat} {i : Int32} {ox om : Nat} {al : Al} {iv : Iv} {rv : Rv} (X : LX p s m c b L xs D cA) (hl : lv_has ls 4 [(3, .int i), (2, .ref om), (1, .ref ox), (0, .ref b)]) (hi : 0 ≤ i.toInt ∧ i.toInt + 6 < L) (hQ : LSt ox om al iv rv) (hU : UW D cA s.heap.size al iv rv H) (hS : va_S (Aq s.heap.size) s.heap H locs) (hc : cells + 3 ≤ 600000 ∧ slots + 16 ≤ 7302250)
    (kk : ∀ (al' : Al) (iv' : Iv) (rv' : Rv) (H' : Heap) (locs' : List Loc), LSt ox om al' iv' rv' → UW D cA s.heap.size al' iv' rv' H' → va_S (Aq s.heap.size) s.heap H' locs' → W p l e room_1 s m #[Value.ref b] below meth c H' locs' (cells + 3) (slots + 16) Q (F0 m 1475 ls [])) : W p l e room_1 s m #[Value.ref b] below meth c H locs cells slots Q (F0 m 652 ls []) := by
  obtain ⟨hG, hox, hom, hRel⟩ := hQ
  have C := X.1
  have hx := C.1.1
  have hb := C.1.2.1
  obtain ⟨v1, e1⟩ : ∃ z, xs (i + 1).toNatClampNeg = z := ⟨_, rfl⟩
  obtain ⟨v2, e2⟩ : ∃ z, xs (i + 2).toNatClampNeg = z := ⟨_, rfl⟩
  refine lv_aload_n hx hb dL_law_652 rfl (lv_at hl 2 rfl) ?_
  refine lv_aload_n hx hb dL_law_653 rfl (lv_at hl 3 rfl) ?_
  refine lv_iload_n hx hb dL_law_654 rfl (lv_at hl 0 rfl) ?_
  refine lv_iconst (v := 1) hx hb dL_law_655 (by decide) ?_
  refine q_ai X hS (k := 1) (by decide) hi e1 dL_law_656 dL_law_657 ?_
  refine lv_aload_n hx hb dL_law_658 rfl (lv_at hl 3 rfl) ?_
  refine lv_iload_n hx hb dL_law_659 rfl (lv_at hl 0 rfl) ?_
  refine lv_iconst (v := 2) hx hb dL_law_660 (by decide) ?_
  refine q_ai X hS (k := 2) (by decide) hi e2 dL_law_661 dL_law_662 ?_
  have hG0 := hG
  have hGp := hG
  refine W.eq (g2 := F0 m 663 ls [.int v2, .int v1, .ref (al.2 49 0)]) (by rw [hox]) ?_
  refine q_fi (q_runV (t := 49) (i := 0) (As := [.int v1, .int v2]) (rest := []) C hU (c_X11_saved hG v1 v2) vm_X11_saved ml_L_66 k_49.1 (hc := rfl) rfl (h1_49 hG) hl.1 rfl rfl (Nat.le_of_ble_eq_true rfl) dL_law_663 rfl rfl ⟨Nat.le_of_ble_eq_true rfl, Nat.le_of_ble_eq_true rfl⟩ ⟨by show cells + 0 ≤ 600000; omega, by show slots + 0 ≤ 7302250; omega⟩) hS (fun r1 iv1 rv1 H locs hG f1 g1 hp1 hU hS => ?_)
  have hRel := hRel.fr hGp f1 g1 (by decide)
  refine lv_pop hx hb dL_law_666 rfl ?_
  refine lv_aload_n hx hb dL_law_667 rfl (lv_at hl 1 rfl) ?_
  refine lv_aload_n hx hb dL_law_668 rfl (lv_at hl 3 rfl) ?_
  refine lv_iload_n hx hb dL_law_669 rfl (lv_at hl 0 rfl) ?_
  refine lv_iconst (v := 1) hx hb dL_law_670 (by decide) ?_
  refine q_ai X hS (k := 1) (by decide) hi e1 dL_law_671 dL_law_672 ?_
  refine lv_aload_n hx hb dL_law_673 rfl (lv_at hl 3 rfl) ?_
  refine lv_iload_n hx hb dL_law_674 rfl (lv_at hl 0 rfl) ?_
  refine lv_iconst (v := 2) hx hb dL_law_675 (by decide) ?_
  refine q_ai X hS (k := 2) (by decide) hi e2 dL_law_676 dL_law_677 ?_
  have hGp := hG
  refine W.eq (g2 := F0 m 678 ls [.int v2, .int v1, .ref (al.2 0 0)]) (by rw [hom]) ?_
  refine q_fi (q_runV (t := 0) (i := 0) (As := [.int v1, .int v2]) (rest := []) C hU (c_X12_saved hG v1 v2) vm_X12_saved ml_L_69 k_0.1 (hc := rfl) rfl (h1_0 hG) hl.1 rfl rfl (Nat.le_of_ble_eq_true rfl) dL_law_678 rfl rfl ⟨Nat.le_of_ble_eq_true rfl, Nat.le_of_ble_eq_true rfl⟩ ⟨by show cells + 0 ≤ 600000; omega, by show slots + 0 ≤ 7302250; omega⟩) hS (fun r2 iv2 rv2 H locs hG f2 g2 hp2 hU hS => ?_)
  have hRel := hRel.fr hGp f2 g2 (by decide)
  refine lv_pop hx hb dL_law_681 rfl ?_
  refine lv_goto (tgt := 1475) hx hb dL_law_682 (by decide) ?_
  refine W.widen (k := cells + 3) (n := slots + 16) (by omega) (by omega) ?_
  exact kk _ _ _ _ _ ⟨hG, hox, hom, hRel⟩ hU hS
set_option maxHeartbeats 4000000 in
set_option maxRecDepth 100000 in
theorem law_13 {p : Program} {l : Launch} {e : Env} {s : State} {m : MethodId} {below : List Frame} {meth : Method} {c : Code} {b L : Nat} {xs : Nat → Int32} {D : va_G} {cA : FieldType → ClassId} {ls : Array Slot} {Q : State → Prop} {H : Heap} {locs : List Loc} {cells slots : Nat} {i : Int32} {ox om : Nat} {al : Al} {iv : Iv} {rv : Rv} (X : LX p s m c b L xs D cA) (hl : lv_has ls 4 [(3, .int i), (2, .ref om), (1, .ref ox), (0, .ref b)]) (hi : 0 ≤ i.toInt ∧ i.toInt + 6 < L) (hQ : LSt ox om al iv rv) (hU : UW D cA s.heap.size al iv rv H) (hS : va_S (Aq s.heap.size) s.heap H locs) (hc : cells + 3 ≤ 600000 ∧ slots + 16 ≤ 7302250)
    (kk : ∀ (al' : Al) (iv' : Iv) (rv' : Rv) (H' : Heap) (locs' : List Loc), LSt ox om al' iv' rv' → UW D cA s.heap.size al' iv' rv' H' → va_S (Aq s.heap.size) s.heap H' locs' → W p l e room_1 s m #[Value.ref b] below meth c H' locs' (cells + 3) (slots + 16) Q (F0 m 1475 ls [])) : W p l e room_1 s m #[Value.ref b] below meth c H locs cells slots Q (F0 m 685 ls []) := by
  obtain ⟨hG, hox, hom, hRel⟩ := hQ
  have C := X.1
  have hx := C.1.1
  have hb := C.1.2.1
  obtain ⟨v1, e1⟩ : ∃ z, xs (i + 1).toNatClampNeg = z := ⟨_, rfl⟩
  refine lv_aload_n hx hb dL_law_685 rfl (lv_at hl 2 rfl) ?_
  refine lv_aload_n hx hb dL_law_686 rfl (lv_at hl 3 rfl) ?_
  refine lv_iload_n hx hb dL_law_687 rfl (lv_at hl 0 rfl) ?_
  refine lv_iconst (v := 1) hx hb dL_law_688 (by decide) ?_
  refine q_ai X hS (k := 1) (by decide) hi e1 dL_law_689 dL_law_690 ?_
  have hG0 := hG
  have hGp := hG
  refine W.eq (g2 := F0 m 691 ls [.int v1, .ref (al.2 49 0)]) (by rw [hox]) ?_
  refine q_ciA (q_runVA (t := 49) (i := 0) (As := [.int v1]) (rest := []) C hU hS.1 (c_X11_traveller_y hG v1) vm_X11_traveller ml_L_70 k_49.1 (hc := rfl) rfl (h1_49 hG) hl.1 rfl rfl (Nat.le_of_ble_eq_true rfl) dL_law_691 rfl rfl ⟨Nat.le_of_ble_eq_true rfl, Nat.le_of_ble_eq_true rfl⟩ ⟨by show cells + 3 ≤ 600000; omega, by show slots + 16 ≤ 7302250; omega⟩) hS hS.1 (fun r1 al1 iv1 rv1 H locs hp1 hU hS _ => ?_)
  obtain ⟨hG1, hE1, hp1⟩ := hp1
  have hox := (hE1.2.1 49 0 (h1_49 hG)).trans hox
  have hom := (hE1.2.1 0 0 (h1_0 hG)).trans hom
  have hG := hG1
  refine W.widen (k := cells + 3) (n := slots + 16) (by omega) (by omega) ?_
  refine lv_pop hx hb dL_law_694 rfl ?_
  refine lv_aload_n hx hb dL_law_695 rfl (lv_at hl 1 rfl) ?_
  refine lv_aload_n hx hb dL_law_696 rfl (lv_at hl 3 rfl) ?_
  refine lv_iload_n hx hb dL_law_697 rfl (lv_at hl 0 rfl) ?_
  refine lv_iconst (v := 1) hx hb dL_law_698 (by decide) ?_
  refine q_ai X hS (k := 1) (by decide) hi e1 dL_law_699 dL_law_700 ?_
  have hGp := hG
  refine W.eq (g2 := F0 m 701 ls [.int v1, .ref (al1.2 0 0)]) (by rw [hom]) ?_
  refine q_fi (q_runV (t := 0) (i := 0) (As := [.int v1]) (rest := []) C hU (c_X12_traveller_y hG v1) vm_X12_traveller ml_L_73 k_0.1 (hc := rfl) rfl (h1_0 hG) hl.1 rfl rfl (Nat.le_of_ble_eq_true rfl) dL_law_701 rfl rfl ⟨Nat.le_of_ble_eq_true rfl, Nat.le_of_ble_eq_true rfl⟩ ⟨by show (cells + 3) + 0 ≤ 600000; omega, by show (slots + 16) + 0 ≤ 7302250; omega⟩) hS (fun r2 iv2 rv2 H locs hG f2 g2 hp2 hU hS => ?_)
  have hRel := REL.s_traveller hG0 hRel hp1 hp2 hE1 f2 g2
  refine lv_pop hx hb dL_law_704 rfl ?_
  refine lv_goto (tgt := 1475) hx hb dL_law_705 (by decide) ?_
  exact kk _ _ _ _ _ ⟨hG, hox, hom, hRel⟩ hU hS
set_option maxHeartbeats 4000000 in
set_option maxRecDepth 100000 in
theorem law_14 {p : Program} {l : Launch} {e : Env} {s : State} {m : MethodId} {below : List Frame} {meth : Method} {c : Code} {b L : Nat} {xs : Nat → Int32} {D : va_G} {cA : FieldType → ClassId} {ls : Array Slot} {Q : State → Prop} {H : Heap} {locs : List Loc} {cells slots : Nat} {i : Int32} {ox om : Nat} {al : Al} {iv : Iv} {rv : Rv} (X : LX p s m c b L xs D cA) (hl : lv_has ls 4 [(3, .int i), (2, .ref om), (1, .ref ox), (0, .ref b)]) (hi : 0 ≤ i.toInt ∧ i.toInt + 6 < L) (hQ : LSt ox om al iv rv) (hU : UW D cA s.heap.size al iv rv H) (hS : va_S (Aq s.heap.size) s.heap H locs) (hc : cells + 3 ≤ 600000 ∧ slots + 16 ≤ 7302250)
    (kk : ∀ (al' : Al) (iv' : Iv) (rv' : Rv) (H' : Heap) (locs' : List Loc), LSt ox om al' iv' rv' → UW D cA s.heap.size al' iv' rv' H' → va_S (Aq s.heap.size) s.heap H' locs' → W p l e room_1 s m #[Value.ref b] below meth c H' locs' (cells + 3) (slots + 16) Q (F0 m 1475 ls [])) : W p l e room_1 s m #[Value.ref b] below meth c H locs cells slots Q (F0 m 708 ls []) := by
  obtain ⟨hG, hox, hom, hRel⟩ := hQ
  have C := X.1
  have hx := C.1.1
  have hb := C.1.2.1
  obtain ⟨v1, e1⟩ : ∃ z, xs (i + 1).toNatClampNeg = z := ⟨_, rfl⟩
  obtain ⟨v2, e2⟩ : ∃ z, xs (i + 2).toNatClampNeg = z := ⟨_, rfl⟩
  refine lv_aload_n hx hb dL_law_708 rfl (lv_at hl 2 rfl) ?_
  refine lv_aload_n hx hb dL_law_709 rfl (lv_at hl 3 rfl) ?_
  refine lv_iload_n hx hb dL_law_710 rfl (lv_at hl 0 rfl) ?_
  refine lv_iconst (v := 1) hx hb dL_law_711 (by decide) ?_
  refine q_ai X hS (k := 1) (by decide) hi e1 dL_law_712 dL_law_713 ?_
  refine lv_aload_n hx hb dL_law_714 rfl (lv_at hl 3 rfl) ?_
  refine lv_iload_n hx hb dL_law_715 rfl (lv_at hl 0 rfl) ?_
  refine lv_iconst (v := 2) hx hb dL_law_716 (by decide) ?_
  refine q_ai X hS (k := 2) (by decide) hi e2 dL_law_717 dL_law_718 ?_
  have hG0 := hG
  have hGp := hG
  refine W.eq (g2 := F0 m 719 ls [.int v2, .int v1, .ref (al.2 49 0)]) (by rw [hox]) ?_
  refine q_fi (q_runV (t := 49) (i := 0) (As := [.int v1, .int v2]) (rest := []) C hU (c_X11_then hG v1 v2) vm_X11_then ml_L_74 k_49.1 (hc := rfl) rfl (h1_49 hG) hl.1 rfl rfl (Nat.le_of_ble_eq_true rfl) dL_law_719 rfl rfl ⟨Nat.le_of_ble_eq_true rfl, Nat.le_of_ble_eq_true rfl⟩ ⟨by show cells + 0 ≤ 600000; omega, by show slots + 0 ≤ 7302250; omega⟩) hS (fun r1 iv1 rv1 H locs hG f1 g1 hp1 hU hS => ?_)
  have hRel := hRel.fr hGp f1 g1 (by decide)
  refine lv_pop hx hb dL_law_722 rfl ?_
  refine lv_aload_n hx hb dL_law_723 rfl (lv_at hl 1 rfl) ?_
  refine lv_aload_n hx hb dL_law_724 rfl (lv_at hl 3 rfl) ?_
  refine lv_iload_n hx hb dL_law_725 rfl (lv_at hl 0 rfl) ?_
  refine lv_iconst (v := 1) hx hb dL_law_726 (by decide) ?_
  refine q_ai X hS (k := 1) (by decide) hi e1 dL_law_727 dL_law_728 ?_
  refine lv_aload_n hx hb dL_law_729 rfl (lv_at hl 3 rfl) ?_
  refine lv_iload_n hx hb dL_law_730 rfl (lv_at hl 0 rfl) ?_
  refine lv_iconst (v := 2) hx hb dL_law_731 (by decide) ?_
  refine q_ai X hS (k := 2) (by decide) hi e2 dL_law_732 dL_law_733 ?_
  have hGp := hG
  refine W.eq (g2 := F0 m 734 ls [.int v2, .int v1, .ref (al.2 0 0)]) (by rw [hom]) ?_
  refine q_fi (q_runV (t := 0) (i := 0) (As := [.int v1, .int v2]) (rest := []) C hU (c_X12_then hG v1 v2) vm_X12_then ml_L_77 k_0.1 (hc := rfl) rfl (h1_0 hG) hl.1 rfl rfl (Nat.le_of_ble_eq_true rfl) dL_law_734 rfl rfl ⟨Nat.le_of_ble_eq_true rfl, Nat.le_of_ble_eq_true rfl⟩ ⟨by show cells + 0 ≤ 600000; omega, by show slots + 0 ≤ 7302250; omega⟩) hS (fun r2 iv2 rv2 H locs hG f2 g2 hp2 hU hS => ?_)
  have hRel := hRel.fr hGp f2 g2 (by decide)
  refine lv_pop hx hb dL_law_737 rfl ?_
  refine lv_goto (tgt := 1475) hx hb dL_law_738 (by decide) ?_
  refine W.widen (k := cells + 3) (n := slots + 16) (by omega) (by omega) ?_
  exact kk _ _ _ _ _ ⟨hG, hox, hom, hRel⟩ hU hS
set_option maxHeartbeats 4000000 in
set_option maxRecDepth 100000 in
theorem law_15 {p : Program} {l : Launch} {e : Env} {s : State} {m : MethodId} {below : List Frame} {meth : Method} {c : Code} {b L : Nat} {xs : Nat → Int32} {D : va_G} {cA : FieldType → ClassId} {ls : Array Slot} {Q : State → Prop} {H : Heap} {locs : List Loc} {cells slots : Nat} {i : Int32} {ox om : Nat} {al : Al} {iv : Iv} {rv : Rv} (X : LX p s m c b L xs D cA) (hl : lv_has ls 4 [(3, .int i), (2, .ref om), (1, .ref ox), (0, .ref b)]) (hi : 0 ≤ i.toInt ∧ i.toInt + 6 < L) (hQ : LSt ox om al iv rv) (hU : UW D cA s.heap.size al iv rv H) (hS : va_S (Aq s.heap.size) s.heap H locs) (hc : cells + 3 ≤ 600000 ∧ slots + 16 ≤ 7302250)
    (kk : ∀ (al' : Al) (iv' : Iv) (rv' : Rv) (H' : Heap) (locs' : List Loc), LSt ox om al' iv' rv' → UW D cA s.heap.size al' iv' rv' H' → va_S (Aq s.heap.size) s.heap H' locs' → W p l e room_1 s m #[Value.ref b] below meth c H' locs' (cells + 3) (slots + 16) Q (F0 m 1475 ls [])) : W p l e room_1 s m #[Value.ref b] below meth c H locs cells slots Q (F0 m 741 ls []) := by
  obtain ⟨hG, hox, hom, hRel⟩ := hQ
  have C := X.1
  have hx := C.1.1
  have hb := C.1.2.1
  obtain ⟨v1, e1⟩ : ∃ z, xs (i + 1).toNatClampNeg = z := ⟨_, rfl⟩
  refine lv_aload_n hx hb dL_law_741 rfl (lv_at hl 2 rfl) ?_
  refine lv_aload_n hx hb dL_law_742 rfl (lv_at hl 3 rfl) ?_
  refine lv_iload_n hx hb dL_law_743 rfl (lv_at hl 0 rfl) ?_
  refine lv_iconst (v := 1) hx hb dL_law_744 (by decide) ?_
  refine q_ai X hS (k := 1) (by decide) hi e1 dL_law_745 dL_law_746 ?_
  have hG0 := hG
  have hGp := hG
  refine W.eq (g2 := F0 m 747 ls [.int v1, .ref (al.2 49 0)]) (by rw [hox]) ?_
  refine q_fi (q_runV (t := 49) (i := 0) (As := [.int v1]) (rest := []) C hU (c_X11_missed hG v1) vm_X11_missed ml_L_78 k_49.1 (hc := rfl) rfl (h1_49 hG) hl.1 rfl rfl (Nat.le_of_ble_eq_true rfl) dL_law_747 rfl rfl ⟨Nat.le_of_ble_eq_true rfl, Nat.le_of_ble_eq_true rfl⟩ ⟨by show cells + 0 ≤ 600000; omega, by show slots + 0 ≤ 7302250; omega⟩) hS (fun r1 iv1 rv1 H locs hG f1 g1 hp1 hU hS => ?_)
  have hRel := hRel.fr hGp f1 g1 (by decide)
  refine lv_pop hx hb dL_law_750 rfl ?_
  refine lv_aload_n hx hb dL_law_751 rfl (lv_at hl 1 rfl) ?_
  refine lv_aload_n hx hb dL_law_752 rfl (lv_at hl 3 rfl) ?_
  refine lv_iload_n hx hb dL_law_753 rfl (lv_at hl 0 rfl) ?_
  refine lv_iconst (v := 1) hx hb dL_law_754 (by decide) ?_
  refine q_ai X hS (k := 1) (by decide) hi e1 dL_law_755 dL_law_756 ?_
  have hGp := hG
  refine W.eq (g2 := F0 m 757 ls [.int v1, .ref (al.2 0 0)]) (by rw [hom]) ?_
  refine q_fi (q_runV (t := 0) (i := 0) (As := [.int v1]) (rest := []) C hU (c_X12_missed hG v1) vm_X12_missed ml_L_81 k_0.1 (hc := rfl) rfl (h1_0 hG) hl.1 rfl rfl (Nat.le_of_ble_eq_true rfl) dL_law_757 rfl rfl ⟨Nat.le_of_ble_eq_true rfl, Nat.le_of_ble_eq_true rfl⟩ ⟨by show cells + 0 ≤ 600000; omega, by show slots + 0 ≤ 7302250; omega⟩) hS (fun r2 iv2 rv2 H locs hG f2 g2 hp2 hU hS => ?_)
  have hRel := hRel.fr hGp f2 g2 (by decide)
  refine lv_pop hx hb dL_law_760 rfl ?_
  refine lv_goto (tgt := 1475) hx hb dL_law_761 (by decide) ?_
  refine W.widen (k := cells + 3) (n := slots + 16) (by omega) (by omega) ?_
  exact kk _ _ _ _ _ ⟨hG, hox, hom, hRel⟩ hU hS
set_option maxHeartbeats 4000000 in
set_option maxRecDepth 100000 in
theorem law_16 {p : Program} {l : Launch} {e : Env} {s : State} {m : MethodId} {below : List Frame} {meth : Method} {c : Code} {b L : Nat} {xs : Nat → Int32} {D : va_G} {cA : FieldType → ClassId} {ls : Array Slot} {Q : State → Prop} {H : Heap} {locs : List Loc} {cells slots : Nat} {i : Int32} {ox om : Nat} {al : Al} {iv : Iv} {rv : Rv} (X : LX p s m c b L xs D cA) (hl : lv_has ls 4 [(3, .int i), (2, .ref om), (1, .ref ox), (0, .ref b)]) (hi : 0 ≤ i.toInt ∧ i.toInt + 6 < L) (hQ : LSt ox om al iv rv) (hU : UW D cA s.heap.size al iv rv H) (hS : va_S (Aq s.heap.size) s.heap H locs) (hc : cells + 3 ≤ 600000 ∧ slots + 16 ≤ 7302250)
    (kk : ∀ (al' : Al) (iv' : Iv) (rv' : Rv) (H' : Heap) (locs' : List Loc), LSt ox om al' iv' rv' → UW D cA s.heap.size al' iv' rv' H' → va_S (Aq s.heap.size) s.heap H' locs' → W p l e room_1 s m #[Value.ref b] below meth c H' locs' (cells + 3) (slots + 16) Q (F0 m 1475 ls [])) : W p l e room_1 s m #[Value.ref b] below meth c H locs cells slots Q (F0 m 764 ls []) := by
  obtain ⟨hG, hox, hom, hRel⟩ := hQ
  have C := X.1
  have hx := C.1.1
  have hb := C.1.2.1
  obtain ⟨v1, e1⟩ : ∃ z, xs (i + 1).toNatClampNeg = z := ⟨_, rfl⟩
  refine lv_aload_n hx hb dL_law_764 rfl (lv_at hl 2 rfl) ?_
  refine lv_aload_n hx hb dL_law_765 rfl (lv_at hl 3 rfl) ?_
  refine lv_iload_n hx hb dL_law_766 rfl (lv_at hl 0 rfl) ?_
  refine lv_iconst (v := 1) hx hb dL_law_767 (by decide) ?_
  refine q_ai X hS (k := 1) (by decide) hi e1 dL_law_768 dL_law_769 ?_
  have hG0 := hG
  have hGp := hG
  refine W.eq (g2 := F0 m 770 ls [.int v1, .ref (al.2 49 0)]) (by rw [hox]) ?_
  refine q_fi (q_runV (t := 49) (i := 0) (As := [.int v1]) (rest := []) C hU (c_X11_soonest hG v1) vm_X11_soonest ml_L_82 k_49.1 (hc := rfl) rfl (h1_49 hG) hl.1 rfl rfl (Nat.le_of_ble_eq_true rfl) dL_law_770 rfl rfl ⟨Nat.le_of_ble_eq_true rfl, Nat.le_of_ble_eq_true rfl⟩ ⟨by show cells + 0 ≤ 600000; omega, by show slots + 0 ≤ 7302250; omega⟩) hS (fun r1 iv1 rv1 H locs hG f1 g1 hp1 hU hS => ?_)
  have hRel := hRel.fr hGp f1 g1 (by decide)
  refine lv_pop hx hb dL_law_773 rfl ?_
  refine lv_aload_n hx hb dL_law_774 rfl (lv_at hl 1 rfl) ?_
  refine lv_aload_n hx hb dL_law_775 rfl (lv_at hl 3 rfl) ?_
  refine lv_iload_n hx hb dL_law_776 rfl (lv_at hl 0 rfl) ?_
  refine lv_iconst (v := 1) hx hb dL_law_777 (by decide) ?_
  refine q_ai X hS (k := 1) (by decide) hi e1 dL_law_778 dL_law_779 ?_
  have hGp := hG
  refine W.eq (g2 := F0 m 780 ls [.int v1, .ref (al.2 0 0)]) (by rw [hom]) ?_
  refine q_fi (q_runV (t := 0) (i := 0) (As := [.int v1]) (rest := []) C hU (c_X12_soonest hG v1) vm_X12_soonest ml_L_85 k_0.1 (hc := rfl) rfl (h1_0 hG) hl.1 rfl rfl (Nat.le_of_ble_eq_true rfl) dL_law_780 rfl rfl ⟨Nat.le_of_ble_eq_true rfl, Nat.le_of_ble_eq_true rfl⟩ ⟨by show cells + 0 ≤ 600000; omega, by show slots + 0 ≤ 7302250; omega⟩) hS (fun r2 iv2 rv2 H locs hG f2 g2 hp2 hU hS => ?_)
  have hRel := hRel.fr hGp f2 g2 (by decide)
  refine lv_pop hx hb dL_law_783 rfl ?_
  refine lv_goto (tgt := 1475) hx hb dL_law_784 (by decide) ?_
  refine W.widen (k := cells + 3) (n := slots + 16) (by omega) (by omega) ?_
  exact kk _ _ _ _ _ ⟨hG, hox, hom, hRel⟩ hU hS
set_option maxHeartbeats 4000000 in
set_option maxRecDepth 100000 in
theorem law_17 {p : Program} {l : Launch} {e : Env} {s : State} {m : MethodId} {below : List Frame} {meth : Method} {c : Code} {b L : Nat} {xs : Nat → Int32} {D : va_G} {cA : FieldType → ClassId} {ls : Array Slot} {Q : State → Prop} {H : Heap} {locs : List Loc} {cells slots : Nat} {i : Int32} {ox om : Nat} {al : Al} {iv : Iv} {rv : Rv} (X : LX p s m c b L xs D cA) (hl : lv_has ls 4 [(3, .int i), (2, .ref om), (1, .ref ox), (0, .ref b)]) (hi : 0 ≤ i.toInt ∧ i.toInt + 6 < L) (hQ : LSt ox om al iv rv) (hU : UW D cA s.heap.size al iv rv H) (hS : va_S (Aq s.heap.size) s.heap H locs) (hc : cells + 3 ≤ 600000 ∧ slots + 16 ≤ 7302250)
    (kk : ∀ (al' : Al) (iv' : Iv) (rv' : Rv) (H' : Heap) (locs' : List Loc), LSt ox om al' iv' rv' → UW D cA s.heap.size al' iv' rv' H' → va_S (Aq s.heap.size) s.heap H' locs' → W p l e room_1 s m #[Value.ref b] below meth c H' locs' (cells + 3) (slots + 16) Q (F0 m 1475 ls [])) : W p l e room_1 s m #[Value.ref b] below meth c H locs cells slots Q (F0 m 787 ls []) := by
  obtain ⟨hG, hox, hom, hRel⟩ := hQ
  have C := X.1
  have hx := C.1.1
  have hb := C.1.2.1
  obtain ⟨v1, e1⟩ : ∃ z, xs (i + 1).toNatClampNeg = z := ⟨_, rfl⟩
  refine lv_aload_n hx hb dL_law_787 rfl (lv_at hl 2 rfl) ?_
  refine lv_aload_n hx hb dL_law_788 rfl (lv_at hl 3 rfl) ?_
  refine lv_iload_n hx hb dL_law_789 rfl (lv_at hl 0 rfl) ?_
  refine lv_iconst (v := 1) hx hb dL_law_790 (by decide) ?_
  refine q_ai X hS (k := 1) (by decide) hi e1 dL_law_791 dL_law_792 ?_
  have hG0 := hG
  have hGp := hG
  refine W.eq (g2 := F0 m 793 ls [.int v1, .ref (al.2 49 0)]) (by rw [hox]) ?_
  refine q_fi (q_runV (t := 49) (i := 0) (As := [.int v1]) (rest := []) C hU (c_X11_hours hG v1) vm_X11_hours ml_L_86 k_49.1 (hc := rfl) rfl (h1_49 hG) hl.1 rfl rfl (Nat.le_of_ble_eq_true rfl) dL_law_793 rfl rfl ⟨Nat.le_of_ble_eq_true rfl, Nat.le_of_ble_eq_true rfl⟩ ⟨by show cells + 0 ≤ 600000; omega, by show slots + 0 ≤ 7302250; omega⟩) hS (fun r1 iv1 rv1 H locs hG f1 g1 hp1 hU hS => ?_)
  have hRel := hRel.fr hGp f1 g1 (by decide)
  refine lv_pop hx hb dL_law_796 rfl ?_
  refine lv_aload_n hx hb dL_law_797 rfl (lv_at hl 1 rfl) ?_
  refine lv_aload_n hx hb dL_law_798 rfl (lv_at hl 3 rfl) ?_
  refine lv_iload_n hx hb dL_law_799 rfl (lv_at hl 0 rfl) ?_
  refine lv_iconst (v := 1) hx hb dL_law_800 (by decide) ?_
  refine q_ai X hS (k := 1) (by decide) hi e1 dL_law_801 dL_law_802 ?_
  have hGp := hG
  refine W.eq (g2 := F0 m 803 ls [.int v1, .ref (al.2 0 0)]) (by rw [hom]) ?_
  refine q_fi (q_runV (t := 0) (i := 0) (As := [.int v1]) (rest := []) C hU (c_X12_hours hG v1) vm_X12_hours ml_L_89 k_0.1 (hc := rfl) rfl (h1_0 hG) hl.1 rfl rfl (Nat.le_of_ble_eq_true rfl) dL_law_803 rfl rfl ⟨Nat.le_of_ble_eq_true rfl, Nat.le_of_ble_eq_true rfl⟩ ⟨by show cells + 0 ≤ 600000; omega, by show slots + 0 ≤ 7302250; omega⟩) hS (fun r2 iv2 rv2 H locs hG f2 g2 hp2 hU hS => ?_)
  have hRel := hRel.fr hGp f2 g2 (by decide)
  refine lv_pop hx hb dL_law_806 rfl ?_
  refine lv_goto (tgt := 1475) hx hb dL_law_807 (by decide) ?_
  refine W.widen (k := cells + 3) (n := slots + 16) (by omega) (by omega) ?_
  exact kk _ _ _ _ _ ⟨hG, hox, hom, hRel⟩ hU hS
end
