def ownN (iv : Iv) (t : Int) : Nat → Int32
  | 0 => 0
  | n + 1 => if (¬ (ownN iv t n).toInt = 0) ∨ (iv 35 0 n).toInt = t then 1 else 0
def spClaim (iv : Iv) (t : Int32) : Int32 := if ¬ (0 ≤ t.toInt ∧ t.toInt < (iv 0 0 20).toInt) then -1 else if ¬ (ownN iv t.toInt (iv 0 0 41).toNatClampNeg).toInt = 0 then -3 else if 30 ≤ (iv 0 0 41).toInt then -6 else 0
theorem own_iff {iv : Iv} {t : Int} : ∀ n : Nat, (¬ (ownN iv t n).toInt = 0) ↔ ∃ c : Nat, c < n ∧ (iv 35 0 c).toInt = t
  | 0 => ⟨fun h => absurd (show (0 : Int32).toInt = 0 by decide) h, fun ⟨_, h, _⟩ => absurd h (Nat.not_lt_zero _)⟩
  | n + 1 => by
    have ih := own_iff (iv := iv) (t := t) n
    show (¬ (if (¬ (ownN iv t n).toInt = 0) ∨ (iv 35 0 n).toInt = t then (1 : Int32) else 0).toInt = 0) ↔ _
    by_cases q : (¬ (ownN iv t n).toInt = 0) ∨ (iv 35 0 n).toInt = t
    · rw [if_pos q]
      refine ⟨fun _ => ?_, fun _ => by decide⟩
      rcases q with q | q
      · obtain ⟨c, h1, h2⟩ := ih.mp q; exact ⟨c, by omega, h2⟩
      · exact ⟨n, Nat.lt_succ_self _, q⟩
    · rw [if_neg q]
      refine ⟨fun z => absurd (show (0 : Int32).toInt = 0 by decide) z, fun ⟨c, h1, h2⟩ => ?_⟩
      exfalso
      by_cases e : c = n
      · rw [e] at h2; exact q (Or.inr h2)
      · exact q (Or.inl (ih.mpr ⟨c, by omega, h2⟩))
theorem own_0 {iv : Iv} {t : Int} : (ownN iv t (0 : Int32).toNatClampNeg).toInt = 0 := by
  rw [show (0 : Int32).toNatClampNeg = 0 from by decide]; show (0 : Int32).toInt = 0; decide
theorem own_up {iv : Iv} {t : Int} {x y : Int32} (h : y.toInt = x.toInt + 1) (h0 : 0 ≤ x.toInt) (i : (ownN iv t x.toNatClampNeg).toInt = 0) (c : ¬ (iv 35 0 x.toNatClampNeg).toInt = t) : (ownN iv t y.toNatClampNeg).toInt = 0 := by
  rw [clamp_s h h0]
  show (if (¬ (ownN iv t x.toNatClampNeg).toInt = 0) ∨ (iv 35 0 x.toNatClampNeg).toInt = t then (1 : Int32) else 0).toInt = 0
  rw [if_neg (fun z => z.elim (fun w => w i) c)]; decide
theorem own_end {iv : Iv} {t : Int} {x : Int32} (i : (ownN iv t x.toNatClampNeg).toInt = 0) (h : x.toInt = (iv 0 0 41).toInt) : (ownN iv t (iv 0 0 41).toNatClampNeg).toInt = 0 := by rw [← clamp_eq h]; exact i
theorem own_hit {iv : Iv} {t : Int} {x : Int32} (c : (iv 35 0 x.toNatClampNeg).toInt = t) (h : 0 ≤ x.toInt ∧ x.toInt < (iv 0 0 41).toInt) : ¬ (ownN iv t (iv 0 0 41).toNatClampNeg).toInt = 0 := (own_iff _).mpr ⟨x.toNatClampNeg, by rw [clamp_n, clamp_n]; omega, c⟩
theorem ownN_m {iv iv' : Iv} (h : MA iv iv') (t : Int) : ∀ n : Nat, ownN iv' t n = ownN iv t n
  | 0 => rfl
  | n + 1 => by
    show (if (¬ (ownN iv' t n).toInt = 0) ∨ (iv' 35 0 n).toInt = t then (1 : Int32) else 0) = (if (¬ (ownN iv t n).toInt = 0) ∨ (iv 35 0 n).toInt = t then (1 : Int32) else 0)
    rw [ownN_m h t n, h.1 35 _ (by decide) (by decide)]
theorem spClaim_m {iv iv' : Iv} (h : MA iv iv') (t : Int32) : spClaim iv' t = spClaim iv t := by
  unfold spClaim; rw [ownN_m h, h.2 _ (by decide), h.2 _ (by decide)]
theorem claim_cnt {al al' : Al} {iv iv' : Iv} {rv rv' : Rv} (hG : GI al iv rv) {ti : Nat} {d : Int32} (h : ∃ (a a9 : Nat) (siz : Int32), siz.toInt = al.1 88 + 1 ∧ al' = grow (grow al 88 a) 89 a9 ∧ iv' = claimIv iv (al.1 88) ti d siz ∧ rv' = claimRv rv (al.1 88) ti) : (iv' 84 0 1).toInt = (iv 84 0 1).toInt + 1 := by
  obtain ⟨a, a9, siz, hs, -, e, -⟩ := h
  have n := hG.2.2.2.2.2.1.2
  rw [e, n, ← hs]
  exact congrArg Int32.toInt (up3_self _ _ _ _ _)
def sdN (iv : Iv) (c : Nat) : Nat → Int32
  | 0 => 0
  | n + 1 => sdN iv c n + iv 38 0 (5 * c + n)
theorem sd_0 {iv : Iv} {c : Nat} : (0 : Int32) = sdN iv c (0 : Int32).toNatClampNeg := by
  rw [show (0 : Int32).toNatClampNeg = 0 from by decide]; rfl
theorem sd_up {iv : Iv} {c s x y z w u : Int32} (i : s = sdN iv c.toNatClampNeg x.toNatClampNeg) (e : z = iv 38 0 u.toNatClampNeg) (ew : w = s + z) (hu : u.toInt = 5 * c.toInt + x.toInt ∧ 0 ≤ c.toInt) (hy : y.toInt = x.toInt + 1) (h0 : 0 ≤ x.toInt) : w = sdN iv c.toNatClampNeg y.toNatClampNeg := by
  have q : u.toNatClampNeg = 5 * c.toNatClampNeg + x.toNatClampNeg := by simp only [clamp_n]; omega
  rw [clamp_s hy h0, ew, i, e, q]; rfl
def spPay (iv : Iv) (c p v : Int32) : Int32 := if ¬ ((0 ≤ c.toInt ∧ c.toInt < (iv 0 0 41).toInt) ∧ (0 ≤ p.toInt ∧ p.toInt ≤ 4)) then -1 else if v.toInt < 1 then -4 else if 9999 < v.toInt ∨ 99999 < (sdN iv c.toNatClampNeg 5 + v).toInt then -6 else 0
theorem py_ok {iv iv' : Iv} {c p v x z u : Int32} {k : Nat} (e : x = iv 38 0 u.toNatClampNeg) (ez : z = x + v) (ei : iv' = up3 iv 38 0 u.toNatClampNeg z) (hu : u.toInt = 5 * c.toInt + p.toInt) (h0 : 0 ≤ c.toInt ∧ 0 ≤ p.toInt) : iv' 38 0 k = (if k = 5 * c.toNatClampNeg + p.toNatClampNeg then iv 38 0 (5 * c.toNatClampNeg + p.toNatClampNeg) + v else iv 38 0 k) := by
  have q : u.toNatClampNeg = 5 * c.toNatClampNeg + p.toNatClampNeg := by simp only [clamp_n]; omega
  rw [q] at e ei
  rw [ei, up3_k, ez, e]
theorem py_x {iv : Iv} {c n p i k : Nat} {x z v : Int32} (e : x = iv 89 c p) (ez : z = x + v) (hc : c = n) : up3 iv 89 n p z 89 i k = (if i = n ∧ k = p then iv 89 n p + v else iv 89 i k) := by
  subst hc; rw [ez, e]; simp [up3]
theorem py_s {iv iv1 : Iv} {c n p k : Nat} {x z v y : Int32} (e : x = iv1 88 c 3) (ez : z = x + v) (e1 : iv1 = up3 iv 89 c p y) (hc : c = n) : up3 iv1 88 n 3 z 88 k 3 = (if k = n then iv 88 n 3 + v else iv 88 k 3) := by
  subst hc
  by_cases q : k = c
  · rw [q, up3_self, if_pos rfl, ez, e, e1, up3_ne (fun z => absurd z.1 (by decide))]
  · rw [up3_ne (fun z => q z.2.1), if_neg q, e1, up3_ne (fun z => absurd z.1 (by decide))]
theorem sdN_m {iv iv' : Iv} (h : MA iv iv') (c : Nat) : ∀ n : Nat, sdN iv' c n = sdN iv c n
  | 0 => rfl
  | n + 1 => by
    show sdN iv' c n + iv' 38 0 (5 * c + n) = sdN iv c n + iv 38 0 (5 * c + n)
    rw [sdN_m h c n, h.1 38 _ (by decide) (by decide)]
theorem spPay_m {iv iv' : Iv} (h : MA iv iv') (c p v : Int32) : spPay iv' c p v = spPay iv c p v := by
  unfold spPay; rw [sdN_m h, h.2 _ (by decide)]
theorem sd_add {iv iv' : Iv} {c q : Nat} {v : Int32} (hq : q < 5) (h : ∀ k : Nat, iv' 38 0 k = (if k = 5 * c + q then iv 38 0 (5 * c + q) + v else iv 38 0 k)) : sdN iv' c 5 = sdN iv c 5 + v := by
  show 0 + iv' 38 0 (5 * c + 0) + iv' 38 0 (5 * c + 1) + iv' 38 0 (5 * c + 2) + iv' 38 0 (5 * c + 3) + iv' 38 0 (5 * c + 4) = 0 + iv 38 0 (5 * c + 0) + iv 38 0 (5 * c + 1) + iv 38 0 (5 * c + 2) + iv 38 0 (5 * c + 3) + iv 38 0 (5 * c + 4) + v
  rw [h, h, h, h, h]
  match q, hq with
  | 0, _ => rw [if_pos rfl, if_neg (by omega), if_neg (by omega), if_neg (by omega), if_neg (by omega)]; grind
  | 1, _ => rw [if_neg (by omega), if_pos rfl, if_neg (by omega), if_neg (by omega), if_neg (by omega)]; grind
  | 2, _ => rw [if_neg (by omega), if_neg (by omega), if_pos rfl, if_neg (by omega), if_neg (by omega)]; grind
  | 3, _ => rw [if_neg (by omega), if_neg (by omega), if_neg (by omega), if_pos rfl, if_neg (by omega)]; grind
  | 4, _ => rw [if_neg (by omega), if_neg (by omega), if_neg (by omega), if_neg (by omega), if_pos rfl]; grind
theorem sd_keep {iv iv' : Iv} {c : Nat} (h : ∀ p : Nat, p < 5 → iv' 38 0 (5 * c + p) = iv 38 0 (5 * c + p)) : sdN iv' c 5 = sdN iv c 5 := by
  show 0 + iv' 38 0 (5 * c + 0) + iv' 38 0 (5 * c + 1) + iv' 38 0 (5 * c + 2) + iv' 38 0 (5 * c + 3) + iv' 38 0 (5 * c + 4) = 0 + iv 38 0 (5 * c + 0) + iv 38 0 (5 * c + 1) + iv 38 0 (5 * c + 2) + iv 38 0 (5 * c + 3) + iv 38 0 (5 * c + 4)
  rw [h 0 (by decide), h 1 (by decide), h 2 (by decide), h 3 (by decide), h 4 (by decide)]
