theorem sp_no {S r z : Int32} {K A : Prop} (hs : S = z) (hz : z ≠ 0) (hr : r = z) (k : K) : (S = 0 ∧ A) ∨ (S ≠ 0 ∧ r = S ∧ K) := Or.inr ⟨by rw [hs]; exact hz, hr.trans hs.symm, k⟩
def spJud (l c m far cost : Int32) (cnt : Int) : Int32 := if ¬ ((0 ≤ l.toInt ∧ l.toInt ≤ 3) ∧ (0 ≤ c.toInt ∧ c.toInt ≤ 5)) then -1 else if m.toInt < 0 ∨ far.toInt < 0 ∨ cost.toInt < 0 then -4 else if 9999 < m.toInt ∨ 9999 < far.toInt ∨ 9999 < cost.toInt ∨ 40 ≤ cnt then -6 else 0
def spStop (l a b : Int32) (cnt : Int) : Int32 := if ¬ (0 ≤ l.toInt ∧ l.toInt ≤ 3) then -1 else if a.toInt < 0 ∨ b.toInt < a.toInt then -4 else if 4000 < b.toInt ∨ 20 ≤ cnt then -6 else 0
def spLaw (l d m far s : Int32) (day cnt : Int) : Int32 := if ¬ (0 ≤ l.toInt ∧ l.toInt ≤ 3) then -1 else if d.toInt < day ∨ m.toInt < 0 ∨ far.toInt < 0 ∨ s.toInt < 0 then -4 else if 4000 < d.toInt ∨ 9999 < m.toInt ∨ 9999 < far.toInt ∨ 9999 < s.toInt ∨ 30 ≤ cnt then -6 else 0
def spExc (l c d : Int32) (cnt : Int) : Int32 := if ¬ ((0 ≤ l.toInt ∧ l.toInt ≤ 3) ∧ (0 ≤ c.toInt ∧ c.toInt ≤ 5)) then -1 else if d.toInt < 0 then -4 else if 4000 < d.toInt ∨ 40 ≤ cnt then -6 else 0
def spMiles (a b v : Int32) : Int32 := if ¬ ((0 ≤ a.toInt ∧ a.toInt ≤ 9) ∧ (0 ≤ b.toInt ∧ b.toInt ≤ 9) ∧ ¬ a.toInt = b.toInt) then -1 else if v.toInt < 0 then -4 else if 9999 < v.toInt then -6 else 0
def spLeg (a b p c l r : Int32) (cnt : Int) : Int32 := if ¬ ((0 ≤ a.toInt ∧ a.toInt ≤ 9) ∧ (0 ≤ b.toInt ∧ b.toInt ≤ 9) ∧ ¬ a.toInt = b.toInt ∧ (0 ≤ p.toInt ∧ p.toInt ≤ 5) ∧ (0 ≤ c.toInt ∧ c.toInt ≤ 5)) then -1 else if l.toInt < 0 ∨ r.toInt ≤ l.toInt then -4 else if 20000 < r.toInt ∨ 40 ≤ cnt then -6 else 0
def spTrav (g : Int32) (legs cnt : Int) : Int32 := if ¬ (0 ≤ g.toInt ∧ g.toInt < legs) then -1 else if 20 ≤ cnt then -6 else 0
def spCause (g c : Int32) (legs : Int) : Int32 := if ¬ ((0 ≤ g.toInt ∧ g.toInt < legs) ∧ (0 ≤ c.toInt ∧ c.toInt ≤ 5)) then -1 else 0
def spOwes (p t v : Int32) (trav : Int) : Int32 := if ¬ ((0 ≤ p.toInt ∧ p.toInt ≤ 4) ∧ (0 ≤ t.toInt ∧ t.toInt < trav)) then -1 else if v.toInt < 0 then -4 else if 9999 < v.toInt then -6 else 0
def spLog (g a b : Int32) (legs : Int) : Int32 := if ¬ (0 ≤ g.toInt ∧ g.toInt < legs) then -1 else if a.toInt < 0 ∨ b.toInt < 0 then -4 else if 30000 < a.toInt ∨ 30000 < b.toInt then -6 else 0
theorem up2_if {iv : Iv} {t i x y : Nat} {v : Int32} {k : Nat} : up3 (up3 iv t i x v) t i y v t i k = if k = x ∨ k = y then v else iv t i k := by
  simp only [up3]
  by_cases h1 : k = x <;> by_cases h2 : k = y <;> simp [h1, h2]
theorem up2_ij {iv : Iv} {t i1 k1 i2 k2 : Nat} {v : Int32} {i k : Nat} : up3 (up3 iv t i1 k1 v) t i2 k2 v t i k = if (i = i1 ∧ k = k1) ∨ (i = i2 ∧ k = k2) then v else iv t i k := by
  simp only [up3]
  by_cases h1 : i = i1 ∧ k = k1 <;> by_cases h2 : i = i2 ∧ k = k2 <;> simp [h1, h2]
theorem pnum {al : Al} {iv : Iv} {rv : Rv} (hG : GI al iv rv) {i : Nat} (hi : i < al.1 56) : (iv 56 i 0).toInt = i ∧ i < 10 := by
  have h : i < 10 := by rw [hG.2.2.1.2.1] at hi; exact hi
  exact ⟨hG.2.2.2.2.2.2.1.2.2 i h, h⟩
theorem mbw {al : Al} {iv : Iv} {rv : Rv} (hG : GI al iv rv) {pi pj : Nat} (hi : pi < al.1 56) (hj : pj < al.1 56) {x1 x2 : Int32} {j : Nat} (e1 : x1.toInt = (iv 56 pi 0).toInt) (ej : rv 54 0 x1.toNatClampNeg = some j) (e2 : x2.toInt = (iv 56 pj 0).toInt) : j = pi ∧ x2.toNatClampNeg = pj := by
  obtain ⟨a1, b1⟩ := pnum hG hi
  obtain ⟨a2, b2⟩ := pnum hG hj
  have q := Option.some.inj (ej.symm.trans (dall hG (by omega) (by omega)))
  rw [clamp_n] at q ⊢
  exact ⟨by omega, by omega⟩
theorem leg_cnt {al al' : Al} {iv iv' : Iv} {rv rv' : Rv} (hG : GI al iv rv) {r pl cr lv_ ar : Int32} {pf pt_ : Nat} (h : ∃ (a : Nat) (siz : Int32), siz.toInt = al.1 62 + 1 ∧ al' = grow al 62 a ∧ iv' = legIv iv (al.1 62) r pl cr lv_ ar siz ∧ rv' = legRv rv (al.1 62) pf pt_) : (iv' 57 0 1).toInt = (iv 57 0 1).toInt + 1 := by
  obtain ⟨a, siz, hs, -, e, -⟩ := h
  have n := hG.2.2.2.1.2
  rw [e, n, ← hs]
  exact congrArg Int32.toInt (up3_self _ _ _ _ _)
theorem tick_cnt {al al' : Al} {iv iv' : Iv} {rv rv' : Rv} (hG : GI al iv rv) {r : Int32} {li : Nat} (h : ∃ (a a6 a7 : Nat) (siz : Int32), siz.toInt = al.1 65 + 1 ∧ al' = grow (grow (grow al 65 a) 66 a6) 67 a7 ∧ iv' = tickIv iv (al.1 65) r siz ∧ rv' = tickRv rv (al.1 65) li) : (iv' 63 0 1).toInt = (iv 63 0 1).toInt + 1 := by
  obtain ⟨a, a6, a7, siz, hs, -, e, -⟩ := h
  have n := hG.2.2.2.2.1.2
  rw [e, n, ← hs]
  exact congrArg Int32.toInt (up3_self _ _ _ _ _)
def dayF (n t : Int) : Int := if 0 ≤ n ∧ n ≤ 4000 - t then t + n else t
theorem lst4_v {w x : Int32} (e : x = lst4 w.toNatClampNeg) (h0 : 0 ≤ w.toInt) (h1 : w.toInt < 4) : (w.toInt = 3 ∧ x.toInt = 1) ∨ (¬ w.toInt = 3 ∧ x.toInt = 0) := by
  rw [e, clamp_n]; unfold lst4
  by_cases q : w.toInt.toNat = 3
  · rw [if_pos q]; exact Or.inl ⟨by omega, by decide⟩
  · rw [if_neg q]; exact Or.inr ⟨by omega, by decide⟩
theorem grt4_v {w x : Int32} (e : x = grt4 w.toNatClampNeg) (h0 : 0 ≤ w.toInt) (h1 : w.toInt < 4) : (w.toInt = 0 ∧ x.toInt = 200) ∨ (w.toInt = 1 ∧ x.toInt = 900) ∨ (w.toInt = 2 ∧ x.toInt = 300) ∨ (w.toInt = 3 ∧ x.toInt = 9) := by
  rw [e, clamp_n]; unfold grt4
  by_cases q : w.toInt.toNat = 0
  · rw [if_pos q]; exact Or.inl ⟨by omega, by decide⟩
  · rw [if_neg q]
    by_cases q1 : w.toInt.toNat = 1
    · rw [if_pos q1]; exact Or.inr (Or.inl ⟨by omega, by decide⟩)
    · rw [if_neg q1]
      by_cases q2 : w.toInt.toNat = 2
      · rw [if_pos q2]; exact Or.inr (Or.inr (Or.inl ⟨by omega, by decide⟩))
      · rw [if_neg q2]; exact Or.inr (Or.inr (Or.inr ⟨by omega, by decide⟩))
def spBar (l n : Int32) : Int32 := if ¬ (0 ≤ l.toInt ∧ l.toInt ≤ 3) then -1 else if n.toInt < 1 then -4 else if 3000 < n.toInt then -6 else 0
def spSet (w v : Int32) : Int32 := if ¬ (0 ≤ w.toInt ∧ w.toInt ≤ 3) then -2 else if v.toInt < 0 ∨ (w.toInt = 3 ∧ v.toInt < 1) then -4 else if (w.toInt = 0 ∧ 200 < v.toInt) ∨ (w.toInt = 1 ∧ 900 < v.toInt) ∨ (w.toInt = 2 ∧ 300 < v.toInt) ∨ (w.toInt = 3 ∧ 9 < v.toInt) then -6 else 0
def spSeen (a b v : Int32) : Int32 := if ¬ ((0 ≤ a.toInt ∧ a.toInt ≤ 9) ∧ (0 ≤ b.toInt ∧ b.toInt ≤ 9) ∧ ¬ a.toInt = b.toInt) then -1 else if v.toInt < -600 then -4 else if 600 < v.toInt then -6 else 0
theorem pix {al : Al} {iv : Iv} {rv : Rv} (hG : GI al iv rv) {x : Int32} {j : Nat} (ej : rv 53 0 x.toNatClampNeg = some j) (h0 : 0 ≤ x.toInt) (h1 : x.toInt < 10) : j = x.toNatClampNeg := Option.some.inj (ej.symm.trans (pall hG h0 h1))
def mvI (iv0 iv : Iv) (fl tl sh : Int32) (n : Nat) : Prop := ∀ k : Nat, iv 56 k 2 = (if k < n ∧ iv0 56 k 2 = fl then tl else iv0 56 k 2) ∧ iv 56 k 3 = (if k < n ∧ iv0 56 k 2 = fl then iv0 56 k 3 + sh else iv0 56 k 3)
theorem mv_0 {iv : Iv} {fl tl sh : Int32} : mvI iv iv fl tl sh (0 : Int32).toNatClampNeg := fun k => by
  have z : (0 : Int32).toNatClampNeg = 0 := by decide
  rw [z]; simp
theorem mv_up {iv0 iv : Iv} {fl tl sh x y : Int32} (h : y.toInt = x.toInt + 1) (h0 : 0 ≤ x.toInt) (i : mvI iv0 iv fl tl sh (x.toNatClampNeg + 1)) : mvI iv0 iv fl tl sh y.toNatClampNeg := by rw [clamp_s h h0]; exact i
theorem mv_end {iv0 iv : Iv} {fl tl sh x : Int32} (i : mvI iv0 iv fl tl sh x.toNatClampNeg) (h : x.toInt = 10) : mvI iv0 iv fl tl sh 10 := by
  have e : x.toNatClampNeg = 10 := by rw [clamp_n]; omega
  rw [e] at i; exact i
theorem mv_keep {iv0 iv : Iv} {fl tl sh x : Int32} {n j : Nat} (i : mvI iv0 iv fl tl sh n) (e : x = iv 56 j 2) (hj : j = n) (hc : ¬ x.toInt = fl.toInt) : mvI iv0 iv fl tl sh (n + 1) := fun k => by
  subst hj
  obtain ⟨a, b⟩ := i k
  by_cases q : k = j
  · subst q
    rw [if_neg (fun z => absurd z.1 (Nat.lt_irrefl _))] at a b
    have w : ¬ iv0 56 k 2 = fl := fun z => hc (by rw [e, a, z])
    rw [if_neg (fun z => w z.2), if_neg (fun z => w z.2)]; exact ⟨a, b⟩
  · have w : (k < j + 1) = (k < j) := by apply propext; omega
    simp only [w]; exact ⟨a, b⟩
theorem mv_put {iv0 iv iv1 iv2 : Iv} {fl tl sh x y z : Int32} {n j : Nat} (i : mvI iv0 iv fl tl sh n) (e : x = iv 56 j 2) (hj : j = n) (hc : x.toInt = fl.toInt) (e1 : iv1 = up3 iv 56 j 2 tl) (ey : y = iv1 56 j 3) (ez : z = y + sh) (e2 : iv2 = up3 iv1 56 j 3 z) : mvI iv0 iv2 fl tl sh (n + 1) := fun k => by
  subst hj
  obtain ⟨a, b⟩ := i k
  by_cases q : k = j
  · subst q
    rw [if_neg (fun z => absurd z.1 (Nat.lt_irrefl _))] at a b
    have w : iv0 56 k 2 = fl := by rw [← a, ← e]; exact (fa_eq _ _).mpr hc
    rw [if_pos ⟨Nat.lt_succ_self _, w⟩, if_pos ⟨Nat.lt_succ_self _, w⟩]
    refine ⟨?_, ?_⟩
    · rw [e2, up3_ne (fun z => absurd z.2.2 (by decide)), e1, up3_self]
    · rw [e2, up3_self, ez, ey, e1, up3_ne (fun z => absurd z.2.2 (by decide)), b]
  · have w : (k < j + 1) = (k < j) := by apply propext; omega
    simp only [w]
    rw [e2, up3_ne (fun z => q z.2.1), up3_ne (fun z => q z.2.1), e1, up3_ne (fun z => q z.2.1), up3_ne (fun z => q z.2.1)]
    exact ⟨a, b⟩
def seL (L : Nat → Int32) (a b k : Nat) : Int32 := if (L a).toInt < (L b).toInt then (if L k = L b then L a else L k) else (if L k = L a then L b else L k)
def seO (L O : Nat → Int32) (a b : Nat) (v : Int32) (k : Nat) : Int32 := if (L a).toInt < (L b).toInt then (if L k = L b then O k + (O a - v - O b) else O k) else (if L k = L a then O k + (O b + v - O a) else O k)
def tkP (iv iv' : Iv) (a b : Nat) (v r : Int32) : Prop := ((iv 56 a 2).toInt = (iv 56 b 2).toInt ∧ r.toInt = (if iv 56 a 3 - iv 56 b 3 = v then 1 else 0) ∧ ∀ k : Nat, iv' 56 k 2 = iv 56 k 2 ∧ iv' 56 k 3 = iv 56 k 3) ∨
  (¬ (iv 56 a 2).toInt = (iv 56 b 2).toInt ∧ r.toInt = 1 ∧ ∀ k : Nat, k < 10 → iv' 56 k 2 = seL (fun k => iv 56 k 2) a b k ∧ iv' 56 k 3 = seO (fun k => iv 56 k 2) (fun k => iv 56 k 3) a b v k)
theorem tk_fit {iv : Iv} {a b : Nat} {x y z v r : Int32} (e1 : x = iv 56 a 3) (e2 : y = iv 56 b 3) (e3 : z = x - y) (h : (r.toInt = 1 ∧ z.toInt = v.toInt) ∨ (r.toInt = 0 ∧ ¬ z.toInt = v.toInt)) : r.toInt = (if iv 56 a 3 - iv 56 b 3 = v then 1 else 0) := by
  rw [← e1, ← e2, ← e3]
  rcases h with ⟨h1, h2⟩ | ⟨h1, h2⟩
  · rw [if_pos ((fa_eq _ _).mpr h2)]; exact h1
  · rw [if_neg (fun z => h2 (by rw [z]))]; exact h1
theorem tk_a {iv iv' : Iv} {a b : Nat} {x1 x2 x3 x4 x5 x6 v : Int32} (h : mvI iv iv' x1 x2 x6 10) (e1 : x1 = iv 56 b 2) (e2 : x2 = iv 56 a 2) (e3 : x3 = iv 56 a 3) (e4 : x4 = x3 - v) (e5 : x5 = iv 56 b 3) (e6 : x6 = x4 - x5) (hc : (iv 56 a 2).toInt < (iv 56 b 2).toInt) : ∀ k : Nat, k < 10 → iv' 56 k 2 = seL (fun k => iv 56 k 2) a b k ∧ iv' 56 k 3 = seO (fun k => iv 56 k 2) (fun k => iv 56 k 3) a b v k := fun k hk => by
  obtain ⟨p, q⟩ := h k
  simp only [hk, true_and] at p q
  unfold seL seO
  simp only [if_pos hc]
  rw [p, q, e6, e5, e4, e3, e2, e1]; exact ⟨rfl, rfl⟩
theorem tk_b {iv iv' : Iv} {a b : Nat} {x1 x2 x3 x4 x5 x6 v : Int32} (h : mvI iv iv' x1 x2 x6 10) (e1 : x1 = iv 56 a 2) (e2 : x2 = iv 56 b 2) (e3 : x3 = iv 56 b 3) (e4 : x4 = x3 + v) (e5 : x5 = iv 56 a 3) (e6 : x6 = x4 - x5) (hc : ¬ (iv 56 a 2).toInt < (iv 56 b 2).toInt) : ∀ k : Nat, k < 10 → iv' 56 k 2 = seL (fun k => iv 56 k 2) a b k ∧ iv' 56 k 3 = seO (fun k => iv 56 k 2) (fun k => iv 56 k 3) a b v k := fun k hk => by
  obtain ⟨p, q⟩ := h k
  simp only [hk, true_and] at p q
  unfold seL seO
  simp only [if_neg hc]
  rw [p, q, e6, e5, e4, e3, e2, e1]; exact ⟨rfl, rfl⟩
theorem mx0 (v : Int32) : mxF 0 v = oF v := by
  unfold mxF oF
  have z : (0 : Int32).toInt = 0 := by decide
  by_cases h : (0 : Int32) < v
  · rw [if_pos h, if_neg (by rw [fa_lt] at h; omega)]
  · rw [if_neg h]
    rw [fa_lt] at h
    split
    · rfl
    · exact (fa_eq _ _).mpr (by omega)
def xrl (iv : Iv) (rv : Rv) (k : Nat) : Int32 := oF (iv 62 k 8 - iv 56 ((rv 62 k 1).getD 0) 3)
def xra (iv : Iv) (rv : Rv) (k : Nat) : Int32 := oF (iv 62 k 9 - iv 56 ((rv 62 k 2).getD 0) 3)
def crk (iv : Iv) (rv : Rv) (k : Nat) : Prop := iv 62 k 10 = xrl iv rv k ∧ iv 62 k 11 = xra iv rv k ∧ iv 62 k 12 = oF (xrl iv rv k - iv 62 k 5) ∧ iv 62 k 13 = oF (xra iv rv k - iv 62 k 6)
def CRT (iv : Iv) (rv : Rv) : Prop := ∀ k : Nat, (k : Int) < (iv 57 0 1).toInt → ¬ (iv 62 k 7).toInt = 0 → crk iv rv k
def CRN (iv : Iv) (rv : Rv) (n : Nat) : Prop := ∀ k : Nat, k < n → ¬ (iv 62 k 7).toInt = 0 → crk iv rv k
def prQ (iv : Iv) (rv : Rv) (iv' : Iv) (rv' : Rv) (li : Nat) : Prop := crk iv' rv' li ∧ ∀ k, k ≠ li → crk iv rv k → crk iv' rv' k
theorem crk_cong {iv iv' : Iv} {rv rv' : Rv} {k : Nat} (h : ∀ f, 5 ≤ f → iv' 62 k f = iv 62 k f) (hp : ∀ i, iv' 56 i 3 = iv 56 i 3) (hr : ∀ f, rv' 62 k f = rv 62 k f) (c : crk iv rv k) : crk iv' rv' k := by
  obtain ⟨a, b, c, d⟩ := c
  unfold crk xrl xra
  rw [h 5 (by decide), h 6 (by decide), h 8 (by decide), h 9 (by decide), h 10 (by decide), h 11 (by decide), h 12 (by decide), h 13 (by decide), hp, hp, hr, hr]
  exact ⟨a, b, c, d⟩
theorem pr_ok {iv iva ivb ivc ivd : Iv} {rv : Rv} {li j1 j2 : Nat} {x3 x10 x13 r14 x23 x30 x33 r34 x43 x47 x50 r51 x60 x64 x67 r68 : Int32} (e3 : x3 = iv 62 li 8) (ej1 : rv 62 li 1 = some j1) (e10 : x10 = iv 56 j1 3) (e13 : x13 = x3 - x10) (q14 : r14 = mxF 0 x13) (ea : iva = up3 iv 62 li 10 r14) (e23 : x23 = iva 62 li 9) (ej2 : rv 62 li 2 = some j2) (e30 : x30 = iva 56 j2 3) (e33 : x33 = x23 - x30) (q34 : r34 = mxF 0 x33) (eb : ivb = up3 iva 62 li 11 r34)
    (e43 : x43 = ivb 62 li 10) (e47 : x47 = ivb 62 li 5) (e50 : x50 = x43 - x47) (q51 : r51 = mxF 0 x50) (ec : ivc = up3 ivb 62 li 12 r51) (e60 : x60 = ivc 62 li 11) (e64 : x64 = ivc 62 li 6) (e67 : x67 = x60 - x64) (q68 : r68 = mxF 0 x67) (ed : ivd = up3 ivc 62 li 13 r68) : prQ iv rv ivd rv li := by
  have n : ∀ {f : Iv} {t k k' i : Nat} {v : Int32}, k ≠ k' → up3 f 62 li k' v t i k = f t i k := fun h => up3_ne (fun z => h z.2.2)
  have n6 : ∀ {f : Iv} {k k' i : Nat} {v : Int32}, up3 f 62 li k' v 56 i k = f 56 i k := up3_ne (fun z => absurd z.1 (by decide))
  have g : ∀ (t i k : Nat), (k < 10 ∨ t = 56) → ivd t i k = iv t i k := fun t i k h => by
    rw [ed, ec, eb, ea]
    rcases h with h | h
    · rw [n (by omega), n (by omega), n (by omega), n (by omega)]
    · subst h; rw [n6, n6, n6, n6]
  have f10 : ivd 62 li 10 = r14 := by rw [ed, n (by decide), ec, n (by decide), eb, n (by decide), ea, up3_self]
  have f11 : ivd 62 li 11 = r34 := by rw [ed, n (by decide), ec, n (by decide), eb, up3_self]
  have f12 : ivd 62 li 12 = r51 := by rw [ed, n (by decide), ec, up3_self]
  have f13 : ivd 62 li 13 = r68 := by rw [ed, up3_self]
  have h10 : r14 = xrl ivd rv li := by
    unfold xrl
    rw [g 62 li 8 (Or.inl (by decide)), g 56 _ 3 (Or.inr rfl), q14, mx0, e13, e3, e10, ej1]; rfl
  have h11 : r34 = xra ivd rv li := by
    unfold xra
    rw [g 62 li 9 (Or.inl (by decide)), g 56 _ 3 (Or.inr rfl), q34, mx0, e33, e23, e30, ea, n (by decide), n6, ej2]; rfl
  refine ⟨⟨f10.trans h10, f11.trans h11, ?_, ?_⟩, fun k hk => crk_cong (fun f _ => ?_) (fun i => g 56 i 3 (Or.inr rfl)) (fun _ => rfl)⟩
  · rw [f12, q51, mx0, e50, e43, e47, g 62 li 5 (Or.inl (by decide)), ← h10, eb, n (by decide), ea, up3_self, n (by decide), n (by decide)]
  · rw [f13, q68, mx0, e67, e60, e64, g 62 li 6 (Or.inl (by decide)), ← h11, ec, n (by decide), eb, up3_self, n (by decide), n (by decide), ea, n (by decide)]
  · rw [ed, up3_ne (fun z => hk z.2.1), ec, up3_ne (fun z => hk z.2.1), eb, up3_ne (fun z => hk z.2.1), ea, up3_ne (fun z => hk z.2.1)]
theorem tix {al : Al} {iv : Iv} {rv : Rv} (hG : GI al iv rv) {x : Int32} {j : Nat} (ej : some j = rv 58 0 x.toNatClampNeg) (h0 : 0 ≤ x.toInt) (h1 : x.toInt < (iv 57 0 1).toInt) : j = x.toNatClampNeg := Option.some.inj (ej.trans (tall hG h0 h1))
theorem crn_0 {iv : Iv} {rv : Rv} : CRN iv rv (0 : Int32).toNatClampNeg := fun k hk => absurd hk (by rw [show (0 : Int32).toNatClampNeg = 0 from by decide]; omega)
theorem crn_up {iv : Iv} {rv : Rv} {x y : Int32} (h : y.toInt = x.toInt + 1) (h0 : 0 ≤ x.toInt) (i : CRN iv rv (x.toNatClampNeg + 1)) : CRN iv rv y.toNatClampNeg := by rw [clamp_s h h0]; exact i
theorem crn_end {iv : Iv} {rv : Rv} {x : Int32} (i : CRN iv rv x.toNatClampNeg) (h : (iv 57 0 1).toInt ≤ x.toInt) : CRT iv rv := fun k hk => i k (by rw [clamp_n]; omega)
theorem crn_keep {iv : Iv} {rv : Rv} {n j : Nat} {x : Int32} (i : CRN iv rv n) (e : x = iv 62 j 7) (hj : j = n) (hc : x.toInt = 0) : CRN iv rv (n + 1) := fun k hk hz => by
  by_cases q : k = n
  · exact absurd (by rw [q, ← hj, ← e]; exact hc) hz
  · exact i k (by omega) hz
theorem crn_put {iv iv' : Iv} {rv rv' : Rv} {n j : Nat} {md : Mo} (i : CRN iv rv n) (p : prQ iv rv iv' rv' j) (hj : j = n) (f : FR md iv iv') (_ : FR md rv rv') (hd : ¬ MD md 62 7 := by decide) : CRN iv' rv' (n + 1) := fun k hk hz => by
  subst hj
  by_cases q : k = j
  · rw [q]; exact p.1
  · exact p.2 k q (i k (by omega) (by rw [f 62 k 7 hd] at hz; exact hz))
abbrev crtM (md : Mo) : Prop := ¬ MD md 57 1 ∧ ¬ MD md 56 3 ∧ (∀ f, f < 15 → ¬ MD md 62 f)
theorem crt_fr {iv iv' : Iv} {rv rv' : Rv} {md : Mo} (f : FR md iv iv') (g : FR md rv rv') (hd : ¬ MD md 57 1 ∧ ¬ MD md 56 3 ∧ 62 ∉ md.1 ∧ 62 ∉ md.2.map (fun p => p.1)) : CRT iv rv → CRT iv' rv' := fun h k hk hz => by
  rw [f 57 0 1 hd.1] at hk
  rw [f.arr 62 k 7 hd.2.2] at hz
  exact crk_cong (fun q _ => f.arr 62 k q hd.2.2) (fun i => f 56 i 3 hd.2.1) (fun q => g.arr 62 k q hd.2.2) (h k hk hz)
def enP (iv iv' : Iv) (li : Nat) (a b : Int32) : Prop := ∀ k : Nat, iv' 62 k 7 = (if k = li then 1 else iv 62 k 7) ∧ iv' 62 k 8 = (if k = li then a else iv 62 k 8) ∧ iv' 62 k 9 = (if k = li then b else iv 62 k 9)
def enK (iv iv' : Iv) : Prop := ∀ k : Nat, iv' 62 k 7 = iv 62 k 7 ∧ iv' 62 k 8 = iv 62 k 8 ∧ iv' 62 k 9 = iv 62 k 9
theorem en_fr {iv iv' : Iv} {md : Mo} (f : FR md iv iv') (hd : 62 ∉ md.1 ∧ 62 ∉ md.2.map (fun p => p.1)) : enK iv iv' := fun k => ⟨f.arr 62 k 7 hd, f.arr 62 k 8 hd, f.arr 62 k 9 hd⟩
theorem en_ok {iv i1 i2 i3 iv' : Iv} {li : Nat} {a b : Int32} {md : Mo} (e1 : i1 = up3 iv 62 li 8 a) (e2 : i2 = up3 i1 62 li 9 b) (e3 : i3 = up3 i2 62 li 7 1) (f : FR md i3 iv') (h7 : ¬ MD md 62 7 := by decide) (h8 : ¬ MD md 62 8 := by decide) (h9 : ¬ MD md 62 9 := by decide) : enP iv iv' li a b := fun k => by
  rw [f 62 k 7 h7, f 62 k 8 h8, f 62 k 9 h9, e3, e2, e1]
  simp [up3]
theorem en_crt {iv i1 i2 i3 iv' : Iv} {rv rv' : Rv} {li : Nat} {a b : Int32} {md : Mo} (h : CRT iv rv) (e1 : i1 = up3 iv 62 li 8 a) (e2 : i2 = up3 i1 62 li 9 b) (e3 : i3 = up3 i2 62 li 7 1) (f : FR md i3 iv') (_ : FR md rv rv') (p : prQ i3 rv iv' rv' li) (h7 : ¬ MD md 62 7 := by decide) (h5 : ¬ MD md 57 1 := by decide) : CRT iv' rv' := fun k hk hz => by
  have o : ∀ t i q, ¬ (t = 62 ∧ i = li) → i3 t i q = iv t i q := fun t i q w => by
    rw [e3, up3_ne (fun z => w ⟨z.1, z.2.1⟩), e2, up3_ne (fun z => w ⟨z.1, z.2.1⟩), e1, up3_ne (fun z => w ⟨z.1, z.2.1⟩)]
  rw [f 57 0 1 h5, o 57 0 1 (fun z => absurd z.1 (by decide))] at hk
  by_cases q : k = li
  · rw [q]; exact p.1
  · rw [f 62 k 7 h7, o 62 k 7 (fun z => q z.2)] at hz
    exact p.2 k q (crk_cong (fun f _ => o 62 k f (fun z => q z.2)) (fun i => o 56 i 3 (fun z => absurd z.1 (by decide))) (fun _ => rfl) (h k hk hz))
theorem tk_r {iv iv' : Iv} {a b : Nat} {v r r' : Int32} (h : tkP iv iv' a b v r) (e : r'.toInt = r.toInt) : tkP iv iv' a b v r' := by
  unfold tkP; rw [e]; exact h
theorem tk_fr {iv iv1 iv' : Iv} {a b : Nat} {v r r' : Int32} {md : Mo} (h : tkP iv iv1 a b v r) (e : r'.toInt = r.toInt) (f : FR md iv1 iv') (h2 : ¬ MD md 56 2 := by decide) (h3 : ¬ MD md 56 3 := by decide) : tkP iv iv' a b v r' := by
  unfold tkP; rw [e]
  exact h.imp (fun z => ⟨z.1, z.2.1, fun k => by rw [f 56 k 2 h2, f 56 k 3 h3]; exact z.2.2 k⟩) (fun z => ⟨z.1, z.2.1, fun k hk => by rw [f 56 k 2 h2, f 56 k 3 h3]; exact z.2.2 k hk⟩)
theorem crt_tk {iv iv' : Iv} {rv rv' : Rv} {a b : Nat} {v r : Int32} {md : Mo} (h : CRT iv rv) (p : tkP iv iv' a b v r) (hr : r.toInt = 0) (f : FR md iv iv') (g : FR md rv rv') (h1 : ¬ MD md 57 1 := by decide) (h2 : 62 ∉ md.1 ∧ 62 ∉ md.2.map (fun p => p.1) := by decide) : CRT iv' rv' := fun k hk hz => by
  rw [f 57 0 1 h1] at hk
  rw [f.arr 62 k 7 h2] at hz
  rcases p with ⟨-, -, p⟩ | ⟨-, p, -⟩
  · exact crk_cong (fun q _ => f.arr 62 k q h2) (fun i => (p i).2) (fun q => g.arr 62 k q h2) (h k hk hz)
  · omega
def tkM (iv iv' : Iv) (a b : Nat) (v r : Int32) : Prop := ((iv 3 0 a).toInt = (iv 3 0 b).toInt ∧ r.toInt = (if iv 4 0 a - iv 4 0 b = v then 1 else 0) ∧ ∀ k : Nat, iv' 3 0 k = iv 3 0 k ∧ iv' 4 0 k = iv 4 0 k) ∨
  (¬ (iv 3 0 a).toInt = (iv 3 0 b).toInt ∧ r.toInt = 1 ∧ ∀ k : Nat, k < 10 → iv' 3 0 k = seL (fun k => iv 3 0 k) a b k ∧ iv' 4 0 k = seO (fun k => iv 3 0 k) (fun k => iv 4 0 k) a b v k)
theorem sn_fit {iv : Iv} {a b : Nat} {x y z v r : Int32} (e1 : x = iv 4 0 a) (e2 : y = iv 4 0 b) (e3 : z = x - y) (h : (r.toInt = 1 ∧ z.toInt = v.toInt) ∨ (r.toInt = 0 ∧ ¬ z.toInt = v.toInt)) : r.toInt = (if iv 4 0 a - iv 4 0 b = v then 1 else 0) := by
  rw [← e1, ← e2, ← e3]
  rcases h with ⟨h1, h2⟩ | ⟨h1, h2⟩
  · rw [if_pos ((fa_eq _ _).mpr h2)]; exact h1
  · rw [if_neg (fun z => h2 (by rw [z]))]; exact h1
def snI (iv0 iv : Iv) (a b : Nat) (v : Int32) (n : Nat) : Prop := ∀ k : Nat, iv 3 0 k = (if k < n then seL (fun k => iv0 3 0 k) a b k else iv0 3 0 k) ∧ iv 4 0 k = (if k < n then seO (fun k => iv0 3 0 k) (fun k => iv0 4 0 k) a b v k else iv0 4 0 k)
theorem sn_0 {iv : Iv} {a b : Nat} {v : Int32} : snI iv iv a b v (0 : Int32).toNatClampNeg := fun k => by
  have z : (0 : Int32).toNatClampNeg = 0 := by decide
  rw [z]; simp
theorem sn_up {iv0 iv : Iv} {a b : Nat} {v x y : Int32} (h : y.toInt = x.toInt + 1) (h0 : 0 ≤ x.toInt) (i : snI iv0 iv a b v (x.toNatClampNeg + 1)) : snI iv0 iv a b v y.toNatClampNeg := by rw [clamp_s h h0]; exact i
theorem sn_end {iv0 iv : Iv} {a b : Nat} {v x : Int32} (i : snI iv0 iv a b v x.toNatClampNeg) (h : x.toInt = 10) : ∀ k : Nat, k < 10 → iv 3 0 k = seL (fun k => iv0 3 0 k) a b k ∧ iv 4 0 k = seO (fun k => iv0 3 0 k) (fun k => iv0 4 0 k) a b v k := fun k hk => by
  have e : x.toNatClampNeg = 10 := by rw [clamp_n]; omega
  have q := i k
  rw [e, if_pos hk, if_pos hk] at q; exact q
theorem sn_st {iv0 iv iv2 : Iv} {a b : Nat} {v : Int32} {n : Nat} (i : snI iv0 iv a b v n) (h3 : iv2 3 0 n = seL (fun k => iv0 3 0 k) a b n) (h4 : iv2 4 0 n = seO (fun k => iv0 3 0 k) (fun k => iv0 4 0 k) a b v n) (o : ∀ k, k ≠ n → iv2 3 0 k = iv 3 0 k ∧ iv2 4 0 k = iv 4 0 k) : snI iv0 iv2 a b v (n + 1) := fun k => by
  by_cases q : k = n
  · subst q; rw [if_pos (Nat.lt_succ_self _), if_pos (Nat.lt_succ_self _)]; exact ⟨h3, h4⟩
  · have w : (k < n + 1) = (k < n) := by apply propext; omega
    simp only [w]; rw [(o k q).1, (o k q).2]; exact i k
theorem sn_k {iv0 iv : Iv} {a b : Nat} {v : Int32} {n : Nat} (i : snI iv0 iv a b v n) (h1 : (iv0 3 0 a).toInt < (iv0 3 0 b).toInt → ¬ (iv 3 0 n).toInt = (iv0 3 0 b).toInt) (h2 : ¬ (iv0 3 0 a).toInt < (iv0 3 0 b).toInt → ¬ (iv 3 0 n).toInt = (iv0 3 0 a).toInt) : snI iv0 iv a b v (n + 1) := by
  obtain ⟨p, q⟩ := i n
  rw [if_neg (Nat.lt_irrefl _)] at p q
  rw [p] at h1 h2
  refine sn_st i ?_ ?_ (fun _ _ => ⟨rfl, rfl⟩)
  · rw [p]; unfold seL
    by_cases c : (iv0 3 0 a).toInt < (iv0 3 0 b).toInt
    · simp only [if_pos c]; rw [if_neg (fun z => h1 c (by rw [z]))]
    · simp only [if_neg c]; rw [if_neg (fun z => h2 c (by rw [z]))]
  · rw [q]; unfold seO
    by_cases c : (iv0 3 0 a).toInt < (iv0 3 0 b).toInt
    · simp only [if_pos c]; rw [if_neg (fun z => h1 c (by rw [z]))]
    · simp only [if_neg c]; rw [if_neg (fun z => h2 c (by rw [z]))]
theorem ring_a (x v a b : Int32) : x - (v - a + b) = x + (a - v - b) := by grind
theorem ring_b (x v a b : Int32) : x + (v - a + b) = x + (b + v - a) := by grind
theorem sn_p1 {iv0 iv iv1 iv2 : Iv} {a b : Nat} {v x1 x2 x3 x4 x z kv : Int32} {n : Nat} (i : snI iv0 iv a b v n) (f1 : x1 = iv0 4 0 a) (f2 : x2 = v - x1) (f3 : x3 = iv0 4 0 b) (f4 : x4 = x2 + x3) (ex : x = iv 4 0 n) (ez : z = x - x4) (e1 : iv1 = up3 iv 4 0 n z) (e2 : iv2 = up3 iv1 3 0 n kv) (hc : (iv0 3 0 a).toInt < (iv0 3 0 b).toInt) (hq : (iv 3 0 n).toInt = (iv0 3 0 b).toInt) (hk : kv.toInt = (iv0 3 0 a).toInt) : snI iv0 iv2 a b v (n + 1) := by
  obtain ⟨p, q⟩ := i n
  rw [if_neg (Nat.lt_irrefl _)] at p q
  rw [p] at hq
  have hq' := (fa_eq _ _).mpr hq
  refine sn_st i ?_ ?_ (fun k hk => ?_)
  · rw [e2, up3_self]; unfold seL; simp only [if_pos hc, hq', if_true]; exact (fa_eq _ _).mpr hk
  · rw [e2, up3_ne (fun z => absurd z.1 (by decide)), e1, up3_self, ez, ex, q, f4, f3, f2, f1]; unfold seO; simp only [if_pos hc, hq', if_true]; exact ring_a _ _ _ _
  · rw [e2, up3_ne (fun z => hk z.2.2), up3_ne (fun z => hk z.2.2), e1, up3_ne (fun z => hk z.2.2), up3_ne (fun z => hk z.2.2)]; exact ⟨rfl, rfl⟩
theorem sn_p2 {iv0 iv iv1 iv2 : Iv} {a b : Nat} {v x1 x2 x3 x4 x z kv : Int32} {n : Nat} (i : snI iv0 iv a b v n) (f1 : x1 = iv0 4 0 a) (f2 : x2 = v - x1) (f3 : x3 = iv0 4 0 b) (f4 : x4 = x2 + x3) (ex : x = iv 4 0 n) (ez : z = x + x4) (e1 : iv1 = up3 iv 4 0 n z) (e2 : iv2 = up3 iv1 3 0 n kv) (hc : ¬ (iv0 3 0 a).toInt < (iv0 3 0 b).toInt) (hq : (iv 3 0 n).toInt = (iv0 3 0 a).toInt) (hk : kv.toInt = (iv0 3 0 b).toInt) : snI iv0 iv2 a b v (n + 1) := by
  obtain ⟨p, q⟩ := i n
  rw [if_neg (Nat.lt_irrefl _)] at p q
  rw [p] at hq
  have hq' := (fa_eq _ _).mpr hq
  refine sn_st i ?_ ?_ (fun k hk => ?_)
  · rw [e2, up3_self]; unfold seL; simp only [if_neg hc, hq', if_true]; exact (fa_eq _ _).mpr hk
  · rw [e2, up3_ne (fun z => absurd z.1 (by decide)), e1, up3_self, ez, ex, q, f4, f3, f2, f1]; unfold seO; simp only [if_neg hc, hq', if_true]; exact ring_b _ _ _ _
  · rw [e2, up3_ne (fun z => hk z.2.2), up3_ne (fun z => hk z.2.2), e1, up3_ne (fun z => hk z.2.2), up3_ne (fun z => hk z.2.2)]; exact ⟨rfl, rfl⟩
def lgM (iv iv' : Iv) (a b pp cc lv rr : Int32) : Prop := ∀ k : Nat, iv' 5 0 k = (if k = (iv 0 0 6).toNatClampNeg then a else iv 5 0 k) ∧ iv' 6 0 k = (if k = (iv 0 0 6).toNatClampNeg then b else iv 6 0 k) ∧ iv' 7 0 k = (if k = (iv 0 0 6).toNatClampNeg then pp else iv 7 0 k) ∧ iv' 8 0 k = (if k = (iv 0 0 6).toNatClampNeg then cc else iv 8 0 k) ∧ iv' 9 0 k = (if k = (iv 0 0 6).toNatClampNeg then lv else iv 9 0 k) ∧ iv' 10 0 k = (if k = (iv 0 0 6).toNatClampNeg then rr else iv 10 0 k)
def lgK (iv iv' : Iv) : Prop := ∀ k : Nat, iv' 5 0 k = iv 5 0 k ∧ iv' 6 0 k = iv 6 0 k ∧ iv' 7 0 k = iv 7 0 k ∧ iv' 8 0 k = iv 8 0 k ∧ iv' 9 0 k = iv 9 0 k ∧ iv' 10 0 k = iv 10 0 k
theorem lg_fr {iv iv' : Iv} {md : Mo} (f : FR md iv iv') (hd : ∀ t, t < 11 → 5 ≤ t → t ∉ md.1 ∧ t ∉ md.2.map (fun p => p.1)) : lgK iv iv' := fun k => ⟨f.arr 5 0 k (hd 5 (by decide) (by decide)), f.arr 6 0 k (hd 6 (by decide) (by decide)), f.arr 7 0 k (hd 7 (by decide) (by decide)), f.arr 8 0 k (hd 8 (by decide) (by decide)), f.arr 9 0 k (hd 9 (by decide) (by decide)), f.arr 10 0 k (hd 10 (by decide) (by decide))⟩
theorem lg_ok {iv i1 i2 i3 i4 i5 i6 i7 : Iv} {a b pp cc lv rr x1 x2 x3 x4 x5 x6 z : Int32} (e1 : i1 = up3 iv 5 0 x1.toNatClampNeg a) (e2 : i2 = up3 i1 6 0 x2.toNatClampNeg b) (e3 : i3 = up3 i2 7 0 x3.toNatClampNeg pp) (e4 : i4 = up3 i3 8 0 x4.toNatClampNeg cc) (e5 : i5 = up3 i4 9 0 x5.toNatClampNeg lv) (e6 : i6 = up3 i5 10 0 x6.toNatClampNeg rr) (e7 : i7 = up3 i6 0 0 6 z) (h1 : x1.toInt = (iv 0 0 6).toInt) (h2 : x2.toInt = (iv 0 0 6).toInt) (h3 : x3.toInt = (iv 0 0 6).toInt) (h4 : x4.toInt = (iv 0 0 6).toInt) (h5 : x5.toInt = (iv 0 0 6).toInt) (h6 : x6.toInt = (iv 0 0 6).toInt) : lgM iv i7 a b pp cc lv rr := fun k => by
  rw [clamp_eq h1] at e1
  rw [clamp_eq h2] at e2
  rw [clamp_eq h3] at e3
  rw [clamp_eq h4] at e4
  rw [clamp_eq h5] at e5
  rw [clamp_eq h6] at e6
  generalize (iv 0 0 6).toNatClampNeg = n at e1 e2 e3 e4 e5 e6 ⊢
  have d : ∀ {f : Iv} {t t' i q i' q' : Nat} {v : Int32}, t' ≠ t → up3 f t i q v t' i' q' = f t' i' q' := fun h => up3_ne (fun z => h z.1)
  have s : ∀ {f : Iv} {t : Nat} {v : Int32}, up3 f t 0 n v t 0 k = if k = n then v else f t 0 k := by
    intro f t v
    simp [up3]
  refine ⟨?_, ?_, ?_, ?_, ?_, ?_⟩
  · rw [e7, d (by decide), e6, d (by decide), e5, d (by decide), e4, d (by decide), e3, d (by decide), e2, d (by decide), e1, s]
  · rw [e7, d (by decide), e6, d (by decide), e5, d (by decide), e4, d (by decide), e3, d (by decide), e2, s, e1, d (by decide)]
  · rw [e7, d (by decide), e6, d (by decide), e5, d (by decide), e4, d (by decide), e3, s, e2, d (by decide), e1, d (by decide)]
  · rw [e7, d (by decide), e6, d (by decide), e5, d (by decide), e4, s, e3, d (by decide), e2, d (by decide), e1, d (by decide)]
  · rw [e7, d (by decide), e6, d (by decide), e5, s, e4, d (by decide), e3, d (by decide), e2, d (by decide), e1, d (by decide)]
  · rw [e7, d (by decide), e6, s, e5, d (by decide), e4, d (by decide), e3, d (by decide), e2, d (by decide), e1, d (by decide)]
def oI (x : Int32) : Option Nat := if x.toInt < 0 then none else some x.toNatClampNeg
theorem oI_none {x : Int32} (h : none = oI x) : x.toInt < 0 := by
  unfold oI at h
  by_cases q : x.toInt < 0
  · exact q
  · rw [if_neg q] at h; cases h
theorem oI_some {x : Int32} {j : Nat} (h : some j = oI x) : 0 ≤ x.toInt ∧ x.toNatClampNeg = j := by
  unfold oI at h
  by_cases q : x.toInt < 0
  · rw [if_pos q] at h; cases h
  · rw [if_neg q] at h; exact ⟨by omega, (Option.some.inj h).symm⟩
def ahS (iv : Iv) (lg b : Int32) : Int32 := if ¬ (0 ≤ lg.toInt ∧ lg.toInt < (iv 0 0 6).toInt) then -1 else if (ahF iv lg.toNatClampNeg b).toInt < 0 then -9 else ahF iv lg.toNatClampNeg b
def loS (iv : Iv) (lg w : Int32) : Int32 := if ¬ (0 ≤ lg.toInt ∧ lg.toInt < (iv 0 0 6).toInt) then -1 else if ¬ (0 ≤ w.toInt ∧ w.toInt ≤ 5) then -2 else if (iv 11 0 lg.toNatClampNeg).toInt = 0 then -5 else if w.toInt = 0 then laF iv lg.toNatClampNeg else if w.toInt = 1 then olF iv lg.toNatClampNeg else if w.toInt = 2 then wtF iv lg.toNatClampNeg 0 else if w.toInt = 3 then wtF iv lg.toNatClampNeg 1 else if w.toInt = 4 then hdF iv lg.toNatClampNeg else laF iv lg.toNatClampNeg - hdF iv lg.toNatClampNeg
def svS (iv : Iv) (lg f : Int32) : Int32 := if ¬ (0 ≤ lg.toInt ∧ lg.toInt < (iv 0 0 6).toInt) then -1 else if (iv 11 0 lg.toNatClampNeg).toInt = 0 then -5 else if f.toInt < 0 then -4 else if 30000 < f.toInt then -6 else oF (rlF iv lg.toNatClampNeg - (if (iv 9 0 lg.toNatClampNeg + wtF iv lg.toNatClampNeg 1).toInt < f.toInt then f else iv 9 0 lg.toNatClampNeg + wtF iv lg.toNatClampNeg 1))
theorem mxw (f x : Int32) : mxF f x = (if x.toInt < f.toInt then f else x) := by
  unfold mxF
  by_cases h : f < x
  · rw [if_pos h, if_neg (by rw [fa_lt] at h; omega)]
  · rw [if_neg h]; rw [fa_lt] at h
    by_cases q : x.toInt < f.toInt
    · rw [if_pos q]
    · rw [if_neg q]; exact (fa_eq _ _).mpr (by omega)
def wfX (iv : Iv) (li : Nat) (bf : Option Nat) (gap : Int32) : Int32 := match bf with
  | none => 0
  | some b => if (iv 62 b 7).toInt = 0 then 0 else mnF (mxF 0 (iv 62 b 11 + gap - iv 62 li 5)) (iv 62 li 12)
theorem wfX_0 {iv : Iv} {li b : Nat} {gap : Int32} (h : (iv 62 b 7).toInt = 0) : wfX iv li (some b) gap = 0 := by
  show (if (iv 62 b 7).toInt = 0 then 0 else _) = _
  rw [if_pos h]
theorem wfX_1 {iv : Iv} {li b : Nat} {gap x1 x2 x3 x4 x5 : Int32} (e1 : x1 = iv 62 b 11) (e2 : x2 = x1 + gap) (e3 : x3 = iv 62 li 5) (e4 : x4 = x2 - x3) (e5 : x5 = iv 62 li 12) (h : ¬ (iv 62 b 7).toInt = 0) : mnF (mxF 0 x4) x5 = wfX iv li (some b) gap := by
  show _ = (if (iv 62 b 7).toInt = 0 then 0 else _)
  rw [if_neg h, e5, e4, e3, e2, e1]
-- the reference's words look at its own rows alone
def MA (iv iv' : Iv) : Prop := ∀ t k, t < 49 → iv' t 0 k = iv t 0 k
theorem ma_ex {al al1 : Al} {iv iv1 : Iv} {rv rv1 : Rv} {md : Mo} (hG : GI al iv rv) (x : EX md al iv rv al1 iv1 rv1) (hd : ∀ t, t < 49 → t ∉ md.1 ∧ t ∉ md.2.map (fun p => p.1)) : MA iv iv1 := fun t k ht => (x.2.2 t 0 k (by rw [hG.2.2.1.1 t ((by decide : ∀ t, t < 49 → t ∈ sng) t ht)]; decide) (MD.no (hd t ht))).1
theorem rs_m {iv iv' : Iv} (h : MA iv iv') (b : Int32) : rsF iv' b = rsF iv b := by simp only [rsF, h 15 _ (by decide)]
theorem ra_m {iv iv' : Iv} (h : MA iv iv') (l : Nat) : raF iv' l = raF iv l := by simp only [raF, h 13 _ (by decide), h 4 _ (by decide), h 6 _ (by decide)]
theorem rl_m {iv iv' : Iv} (h : MA iv iv') (l : Nat) : rlF iv' l = rlF iv l := by simp only [rlF, h 12 _ (by decide), h 4 _ (by decide), h 5 _ (by decide)]
theorem la_m {iv iv' : Iv} (h : MA iv iv') (l : Nat) : laF iv' l = laF iv l := by simp only [laF, ra_m h, h 10 _ (by decide)]
theorem ol_m {iv iv' : Iv} (h : MA iv iv') (l : Nat) : olF iv' l = olF iv l := by simp only [olF, rl_m h, h 9 _ (by decide)]
theorem ahN_m {iv iv' : Iv} (h : MA iv iv') (l : Nat) (b : Int32) : ∀ n : Nat, ahN iv' l b n = ahN iv l b n
  | 0 => rfl
  | n + 1 => by
    show ahStep iv' l b (ahN iv' l b n) n = ahStep iv l b (ahN iv l b n) n
    rw [ahN_m h l b n]
    simp only [ahStep, rs_m h, h 5 _ (by decide), h 6 _ (by decide), h 7 _ (by decide), h 8 _ (by decide), h 9 _ (by decide), h 10 _ (by decide)]
theorem ah_m {iv iv' : Iv} (h : MA iv iv') (l : Nat) (b : Int32) : ahF iv' l b = ahF iv l b := by
  unfold ahF; rw [h 0 6 (by decide), ahN_m h]
theorem wt_m {iv iv' : Iv} (h : MA iv iv') (l : Nat) (b : Int32) : wtF iv' l b = wtF iv l b := by
  simp only [wtF, ah_m h, ra_m h, rs_m h, ol_m h, h 11 _ (by decide), h 9 _ (by decide)]
theorem bc_m {iv iv' : Iv} (h : MA iv iv') (l : Nat) : bcF iv' l = bcF iv l := by simp only [bcF, wt_m h]
theorem hd_m {iv iv' : Iv} (h : MA iv iv') (l : Nat) : hdF iv' l = hdF iv l := by simp only [hdF, la_m h, wt_m h, bc_m h]
theorem ahS_m {iv iv' : Iv} (h : MA iv iv') (l b : Int32) : ahS iv' l b = ahS iv l b := by simp only [ahS, ah_m h, h 0 _ (by decide)]
theorem loS_m {iv iv' : Iv} (h : MA iv iv') (l b : Int32) : loS iv' l b = loS iv l b := by simp only [loS, la_m h, ol_m h, wt_m h, hd_m h, h 0 _ (by decide), h 11 _ (by decide)]
theorem svS_m {iv iv' : Iv} (h : MA iv iv') (l b : Int32) : svS iv' l b = svS iv l b := by simp only [svS, rl_m h, wt_m h, h 0 _ (by decide), h 9 _ (by decide), h 11 _ (by decide)]
theorem tr_ok {iv i1 i2 i3 : Iv} {lg x1 x2 z : Int32} {k : Nat} (e1 : i1 = up3 iv 18 0 x1.toNatClampNeg lg) (e2 : i2 = up3 i1 19 0 x2.toNatClampNeg 1) (e3 : i3 = up3 i2 0 0 20 z) (h1 : x1.toInt = 4 * (iv 0 0 20).toInt) (h2 : x2.toInt = (iv 0 0 20).toInt) : i3 18 0 k = (if k = 4 * (iv 0 0 20).toNatClampNeg then lg else iv 18 0 k) ∧ i3 19 0 k = (if k = (iv 0 0 20).toNatClampNeg then 1 else iv 19 0 k) := by
  rw [clamp_eq h2] at e2
  have c : x1.toNatClampNeg = 4 * (iv 0 0 20).toNatClampNeg := by simp only [clamp_n]; omega
  rw [c] at e1
  generalize (iv 0 0 20).toNatClampNeg = n at e1 e2 ⊢
  rw [e3, e2, e1]; simp [up3]
def thL (iv : Iv) (t : Nat) : Nat := (iv 18 0 (4 * t + (iv 19 0 t).toNatClampNeg - 1)).toNatClampNeg
def spThen (iv : Iv) (t l : Int32) : Int32 := if ¬ ((0 ≤ t.toInt ∧ t.toInt < (iv 0 0 20).toInt) ∧ (0 ≤ l.toInt ∧ l.toInt < (iv 0 0 6).toInt)) then -1 else if ¬ ((iv 5 0 l.toNatClampNeg).toInt = (iv 6 0 (thL iv t.toNatClampNeg)).toInt ∧ (iv 10 0 (thL iv t.toNatClampNeg)).toInt + (iv 15 0 2).toInt ≤ (iv 9 0 l.toNatClampNeg).toInt) then -3 else if 4 ≤ (iv 19 0 t.toNatClampNeg).toInt then -6 else 0
theorem th_ix {iv : Iv} {t x y z : Int32} (e : x = iv 18 0 y.toNatClampNeg) (e2 : z = iv 19 0 t.toNatClampNeg) (h : y.toInt = 4 * t.toInt + z.toInt - 1) (h0 : 0 ≤ t.toInt) (h1 : 1 ≤ z.toInt) : x.toNatClampNeg = thL iv t.toNatClampNeg := by
  have c : y.toNatClampNeg = 4 * t.toNatClampNeg + (iv 19 0 t.toNatClampNeg).toNatClampNeg - 1 := by rw [← e2]; simp only [clamp_n]; omega
  rw [e, c]; rfl
theorem th_ok {iv i1 i2 : Iv} {t lg m x y z : Int32} {k : Nat} (em : m = iv 19 0 t.toNatClampNeg) (e1 : i1 = up3 iv 18 0 x.toNatClampNeg lg) (ey : y = i1 19 0 t.toNatClampNeg) (ez : z = y + 1) (e2 : i2 = up3 i1 19 0 t.toNatClampNeg z) (h : x.toInt = 4 * t.toInt + m.toInt ∧ 0 ≤ t.toInt ∧ 0 ≤ m.toInt) (hz : z.toInt = y.toInt + 1) : i2 18 0 k = (if k = 4 * t.toNatClampNeg + (iv 19 0 t.toNatClampNeg).toNatClampNeg then lg else iv 18 0 k) ∧ (i2 19 0 k).toInt = (if k = t.toNatClampNeg then (iv 19 0 t.toNatClampNeg).toInt + 1 else (iv 19 0 k).toInt) := by
  have c : x.toNatClampNeg = 4 * t.toNatClampNeg + (iv 19 0 t.toNatClampNeg).toNatClampNeg := by rw [← em]; simp only [clamp_n]; omega
  have y1 : y = iv 19 0 t.toNatClampNeg := by rw [ey, e1, up3_ne (fun z => absurd z.1 (by decide))]
  rw [c] at e1
  refine ⟨?_, ?_⟩
  · rw [e2, up3_ne (fun z => absurd z.1 (by decide)), e1]; simp [up3]
  · rw [e2]
    by_cases q : k = t.toNatClampNeg
    · rw [q, up3_self, if_pos rfl, hz, y1]
    · rw [up3_ne (fun z => q z.2.2), e1, up3_ne (fun z => absurd z.1 (by decide)), if_neg q]
theorem th_r {iv i1 i2 : Iv} {t lg w x y z : Int32} (ew : w = i2 19 0 t.toNatClampNeg) (e2 : i2 = up3 i1 19 0 t.toNatClampNeg z) (ez : z = y + 1) (ey : y = i1 19 0 t.toNatClampNeg) (e1 : i1 = up3 iv 18 0 x.toNatClampNeg lg) (hz : z.toInt = y.toInt + 1) : w.toInt = (iv 19 0 t.toNatClampNeg).toInt + 1 := by
  rw [ew, e2, up3_self, hz, ey, e1, up3_ne (fun z => absurd z.1 (by decide))]
theorem fb_1 {iv : Iv} {rv : Rv} {li ti j1 j5 j8 j9 p q o : Nat} {conn r : Int32} (e1 : rv 62 li 1 = some j1) (e5 : rv 65 ti 2 = some j5) (e8 : rv 62 j5 2 = some j8) (h1 : rv 62 li 1 = some p) (h2 : rv 65 ti 2 = some q) (h3 : rv 62 q 2 = some o) (c : j1 = j8) (e9 : rv 65 ti 2 = some j9) (h : conn.toInt ≤ (iv 62 li 5).toInt - (iv 62 j9 6).toInt) (hr : r.toInt = 1) : ((p = o ∧ conn.toInt ≤ (iv 62 li 5).toInt - (iv 62 q 6).toInt) ∧ r.toInt = 1) ∨ ((¬ (p = o ∧ conn.toInt ≤ (iv 62 li 5).toInt - (iv 62 q 6).toInt)) ∧ r.toInt = 0) := by
  rw [h2] at e5 e9; cases e5; cases e9
  rw [h3] at e8; cases e8
  rw [h1] at e1; cases e1
  exact Or.inl ⟨⟨c, h⟩, hr⟩
theorem fb_2 {iv : Iv} {rv : Rv} {li ti j1 j5 j8 p q o : Nat} {conn r : Int32} (e1 : rv 62 li 1 = some j1) (e5 : rv 65 ti 2 = some j5) (e8 : rv 62 j5 2 = some j8) (h1 : rv 62 li 1 = some p) (h2 : rv 65 ti 2 = some q) (h3 : rv 62 q 2 = some o) (c : ¬ j1 = j8) (hr : r.toInt = 0) : ((p = o ∧ conn.toInt ≤ (iv 62 li 5).toInt - (iv 62 q 6).toInt) ∧ r.toInt = 1) ∨ ((¬ (p = o ∧ conn.toInt ≤ (iv 62 li 5).toInt - (iv 62 q 6).toInt)) ∧ r.toInt = 0) := by
  rw [h2] at e5; cases e5
  rw [h3] at e8; cases e8
  rw [h1] at e1; cases e1
  exact Or.inr ⟨fun z => c z.1, hr⟩
theorem fb_3 {iv : Iv} {rv : Rv} {li ti j5 j9 p q o : Nat} {conn r : Int32} (_ : rv 65 ti 2 = some j5) (h2 : rv 65 ti 2 = some q) (e9 : rv 65 ti 2 = some j9) (h : ¬ conn.toInt ≤ (iv 62 li 5).toInt - (iv 62 j9 6).toInt) (hr : r.toInt = 0) : ((p = o ∧ conn.toInt ≤ (iv 62 li 5).toInt - (iv 62 q 6).toInt) ∧ r.toInt = 1) ∨ ((¬ (p = o ∧ conn.toInt ≤ (iv 62 li 5).toInt - (iv 62 q 6).toInt)) ∧ r.toInt = 0) := by
  rw [h2] at e9; cases e9
  exact Or.inr ⟨fun z => h z.2, hr⟩
def thX (iv : Iv) (rv : Rv) (iv' : Iv) (rv' : Rv) (t l : Nat) : Prop := (∀ k : Nat, (iv' 65 k 4).toInt = if k = t then (iv 65 t 4).toInt + 1 else (iv 65 k 4).toInt) ∧ (∀ i k : Nat, rv' 66 i k = if i = t ∧ k = (iv 65 t 4).toNatClampNeg then some l else rv 66 i k) ∧ (∀ k : Nat, rv' 65 k 2 = if k = t then some l else rv 65 k 2)
theorem thx_ok {iv iv' : Iv} {rv r1 r2 : Rv} {t l : Nat} {x y w : Int32} (e9 : r1 = up3 rv 66 t w.toNatClampNeg (some l)) (e12 : r2 = up3 r1 65 t 2 (some l)) (e17 : x = iv 65 t 4) (e21 : y = x + 1) (e22 : iv' = up3 iv 65 t 4 y) (h : y.toInt = x.toInt + 1 ∧ w.toInt = (iv 65 t 4).toInt) : thX iv rv iv' r2 t l := by
  rw [clamp_eq h.2] at e9
  refine ⟨fun k => ?_, fun i k => ?_, fun k => ?_⟩
  · rw [e22]
    by_cases q : k = t
    · rw [q, up3_self, if_pos rfl, h.1, e17]
    · rw [up3_ne (fun z => q z.2.1), if_neg q]
  · rw [e12, up3_ne (fun z => absurd z.1 (by decide)), e9]; simp [up3]
  · rw [e12]
    by_cases q : k = t
    · rw [q, up3_self, if_pos rfl]
    · rw [up3_ne (fun z => q z.2.1), if_neg q, e9, up3_ne (fun z => absurd z.1 (by decide))]
theorem thx_r {iv iv' : Iv} {rv rv' : Rv} {t l n : Nat} (h : thX iv rv iv' rv' t l) (e : n = t) (_ : True) : (iv' 65 n 4).toInt = (iv 65 n 4).toInt + 1 := by
  rw [e, h.1 t, if_pos rfl]
def rwL (iv : Iv) (t j : Nat) : Nat := (iv 18 0 (4 * t + j)).toNatClampNeg
abbrev bad (iv : Iv) (t i : Nat) : Prop := (iv 11 0 (rwL iv t i)).toInt = 0 ∨ (0 < i ∧ (rlF iv (rwL iv t i) - raF iv (rwL iv t (i - 1))).toInt < (iv 15 0 2).toInt)
def msN (iv : Iv) (t : Nat) : Nat → Int32
  | 0 => -1
  | n + 1 => if 0 ≤ (msN iv t n).toInt then msN iv t n else if bad iv t n then nI n else -1
def msF (iv : Iv) (t : Nat) : Int32 := msN iv t (iv 19 0 t).toNatClampNeg
theorem ms_0 {iv : Iv} {t : Nat} : (msN iv t (0 : Int32).toNatClampNeg).toInt < 0 := by
  rw [show (0 : Int32).toNatClampNeg = 0 from by decide]; show (-1 : Int32).toInt < 0; decide
theorem ms_s {iv : Iv} {t n : Nat} (h : (msN iv t n).toInt < 0) (b : ¬ bad iv t n) : (msN iv t (n + 1)).toInt < 0 := by
  show (if 0 ≤ (msN iv t n).toInt then msN iv t n else if bad iv t n then nI n else -1).toInt < 0
  rw [if_neg (by omega), if_neg b]; decide
theorem ms_up {iv : Iv} {t : Nat} {x y : Int32} (h : y.toInt = x.toInt + 1) (h0 : 0 ≤ x.toInt) (i : (msN iv t x.toNatClampNeg).toInt < 0) (b : ¬ bad iv t x.toNatClampNeg) : (msN iv t y.toNatClampNeg).toInt < 0 := by
  rw [clamp_s h h0]; exact ms_s i b
theorem ms_neg {iv : Iv} {t : Nat} : ∀ n : Nat, n ≤ 40 → (msN iv t n).toInt < 0 → msN iv t n = -1
  | 0, _, _ => rfl
  | n + 1, hn, h => by
    have h' : (if 0 ≤ (msN iv t n).toInt then msN iv t n else if bad iv t n then nI n else -1).toInt < 0 := h
    show (if 0 ≤ (msN iv t n).toInt then msN iv t n else if bad iv t n then nI n else -1) = -1
    by_cases q : 0 ≤ (msN iv t n).toInt
    · rw [if_pos q] at h'; omega
    · rw [if_neg q] at h' ⊢
      by_cases w : bad iv t n
      · rw [if_pos w, nI_toInt (by omega)] at h'; omega
      · rw [if_neg w]
theorem ms_hit {iv : Iv} {t n : Nat} (hn : n ≤ 40) (h : (msN iv t n).toInt < 0) (b : bad iv t n) : ∀ m : Nat, n < m → msN iv t m = nI n
  | 0, hm => absurd hm (Nat.not_lt_zero _)
  | m + 1, hm => by
    show (if 0 ≤ (msN iv t m).toInt then msN iv t m else if bad iv t m then nI m else -1) = nI n
    by_cases q : m = n
    · subst q; rw [if_neg (by omega), if_pos b]
    · have e := ms_hit hn h b m (by omega)
      rw [e, if_pos (by rw [nI_toInt (by omega)]; omega)]
theorem ms_alln {iv : Iv} {t : Nat} : ∀ n : Nat, n ≤ 40 → (msN iv t n).toInt < 0 → ∀ j : Nat, j < n → ¬ bad iv t j := by
  intro n
  induction n with
  | zero => intro _ _ j hj; exact absurd hj (Nat.not_lt_zero _)
  | succ n ih =>
    intro hn h j hj
    have h' : (if 0 ≤ (msN iv t n).toInt then msN iv t n else if bad iv t n then nI n else -1).toInt < 0 := h
    by_cases q : 0 ≤ (msN iv t n).toInt
    · rw [if_pos q] at h'; omega
    · by_cases e : j = n
      · subst e
        intro w
        rw [if_neg q, if_pos w, nI_toInt (by omega)] at h'
        omega
      · exact ih (by omega) (by omega) j (by omega)
theorem ms_all {iv : Iv} {t n : Nat} (hn : n ≤ 40) (h : (msN iv t n).toInt < 0) (j : Nat) (hj : j < n) : ¬ bad iv t j := ms_alln n hn h j hj
theorem ms_end {iv : Iv} {t : Nat} {x : Int32} (i : (msN iv t x.toNatClampNeg).toInt < 0) (h : x.toInt = (iv 19 0 t).toInt ∧ x.toInt ≤ 40) : (-1 : Int32) = msF iv t := by
  unfold msF
  rw [← clamp_eq h.1]; exact (ms_neg _ (by rw [clamp_n]; omega) i).symm
theorem ms_ret {iv : Iv} {t : Nat} {x : Int32} (i : (msN iv t x.toNatClampNeg).toInt < 0) (b : bad iv t x.toNatClampNeg) (h0 : 0 ≤ x.toInt) (h1 : x.toInt ≤ 40) (h2 : x.toInt < (iv 19 0 t).toInt) : x = msF iv t := by
  unfold msF
  rw [ms_hit (by rw [clamp_n]; omega) i b _ (by rw [clamp_n, clamp_n]; omega), nat_of h0]
theorem rw_ix {iv : Iv} {t i x y : Int32} (e : x = iv 18 0 y.toNatClampNeg) (h : y.toInt = 4 * t.toInt + i.toInt) (h0 : 0 ≤ t.toInt) (h1 : 0 ≤ i.toInt) : x.toNatClampNeg = rwL iv t.toNatClampNeg i.toNatClampNeg := by
  have c : y.toNatClampNeg = 4 * t.toNatClampNeg + i.toNatClampNeg := by simp only [clamp_n]; omega
  rw [e, c]; rfl
theorem rw_ix1 {iv : Iv} {t i x y : Int32} (e : x = iv 18 0 y.toNatClampNeg) (h : y.toInt = 4 * t.toInt + i.toInt - 1) (h0 : 0 ≤ t.toInt) (h1 : 0 < i.toInt) : x.toNatClampNeg = rwL iv t.toNatClampNeg (i.toNatClampNeg - 1) := by
  have c : y.toNatClampNeg = 4 * t.toNatClampNeg + (i.toNatClampNeg - 1) := by simp only [clamp_n]; omega
  rw [e, c]; rfl
theorem nb_0 {iv : Iv} {t : Nat} {x : Int32} (hd : ¬ (iv 11 0 (rwL iv t x.toNatClampNeg)).toInt = 0) (h : x.toInt ≤ 0) : ¬ bad iv t x.toNatClampNeg := fun z => z.elim hd (fun w => by have := w.1; rw [clamp_n] at this; omega)
theorem bd_1 {iv : Iv} {t i : Nat} {a1 a2 l1 l2 x : Int32} {c : Int32} (q1 : l1 = rlF iv a1.toNatClampNeg) (w1 : a1.toNatClampNeg = rwL iv t i) (q2 : l2 = raF iv a2.toNatClampNeg) (w2 : a2.toNatClampNeg = rwL iv t (i - 1)) (e : x = l1 - l2) (hc : c.toInt = (iv 15 0 2).toInt) (h : x.toInt < c.toInt) : (rlF iv (rwL iv t i) - raF iv (rwL iv t (i - 1))).toInt < (iv 15 0 2).toInt := by
  rw [← w1, ← w2, ← q1, ← q2, ← e]; omega
theorem nb_1 {iv : Iv} {t i : Nat} {a1 a2 l1 l2 x : Int32} {c : Int32} (hd : ¬ (iv 11 0 (rwL iv t i)).toInt = 0) (q1 : l1 = rlF iv a1.toNatClampNeg) (w1 : a1.toNatClampNeg = rwL iv t i) (q2 : l2 = raF iv a2.toNatClampNeg) (w2 : a2.toNatClampNeg = rwL iv t (i - 1)) (e : x = l1 - l2) (hc : c.toInt = (iv 15 0 2).toInt) (h : ¬ x.toInt < c.toInt) : ¬ bad iv t i := fun z => z.elim hd (fun w => by
  have := w.2
  rw [← w1, ← w2, ← q1, ← q2, ← e] at this; omega)
theorem bd_x {iv : Iv} {t i j1 j2 : Nat} {l1 l2 x c : Int32} (e1 : l1 = iv 62 j1 10) (r1 : iv 62 j1 10 = rlF iv j1) (w1 : j1 = rwL iv t i) (e2 : l2 = iv 62 j2 11) (r2 : iv 62 j2 11 = raF iv j2) (w2 : j2 = rwL iv t (i - 1)) (e : x = l1 - l2) (hc : c.toInt = (iv 15 0 2).toInt) (h : x.toInt < c.toInt) : (rlF iv (rwL iv t i) - raF iv (rwL iv t (i - 1))).toInt < (iv 15 0 2).toInt := by
  rw [← w1, ← w2, ← r1, ← r2, ← e1, ← e2, ← e]; omega
theorem nb_x {iv : Iv} {t i j1 j2 : Nat} {l1 l2 x c : Int32} (hd : ¬ (iv 11 0 (rwL iv t i)).toInt = 0) (e1 : l1 = iv 62 j1 10) (r1 : iv 62 j1 10 = rlF iv j1) (w1 : j1 = rwL iv t i) (e2 : l2 = iv 62 j2 11) (r2 : iv 62 j2 11 = raF iv j2) (w2 : j2 = rwL iv t (i - 1)) (e : x = l1 - l2) (hc : c.toInt = (iv 15 0 2).toInt) (h : ¬ x.toInt < c.toInt) : ¬ bad iv t i := fun z => z.elim hd (fun w => by
  have := w.2
  rw [← w1, ← w2, ← r1, ← r2, ← e1, ← e2, ← e] at this; omega)
theorem nbd {iv : Iv} {t i : Nat} (h : ¬ bad iv t i) : ¬ (iv 11 0 (rwL iv t i)).toInt = 0 := fun z => h (Or.inl z)
def miS (iv : Iv) (t : Int32) : Int32 := if ¬ (0 ≤ t.toInt ∧ t.toInt < (iv 0 0 20).toInt) then -1 else if (msF iv t.toNatClampNeg).toInt < 0 then -9 else msF iv t.toNatClampNeg
def mpX (iv : Iv) (t : Nat) : Int32 := if (msF iv t).toInt < 0 then -9 else msF iv t
theorem mpx_ret {iv : Iv} {t : Nat} {x : Int32} (i : (msN iv t x.toNatClampNeg).toInt < 0) (b : bad iv t x.toNatClampNeg) (e : iv 19 0 t = iv 65 t 4) (h0 : 0 ≤ x.toInt ∧ x.toInt ≤ 40) (h2 : x.toInt < (iv 65 t 4).toInt) : x = mpX iv t := by
  have z := ms_ret i b h0.1 h0.2 (by rw [e]; exact h2)
  unfold mpX; rw [← z, if_neg (by omega)]
theorem mpx_end {iv : Iv} {t : Nat} {x : Int32} (i : (msN iv t x.toNatClampNeg).toInt < 0) (e : iv 19 0 t = iv 65 t 4) (h : x.toInt = (iv 65 t 4).toInt ∧ x.toInt ≤ 40) : (-9 : Int32) = mpX iv t := by
  have z := ms_end i (by rw [e]; exact h)
  unfold mpX; rw [← z, if_pos (by decide)]
theorem ms_m {iv iv' : Iv} (h : MA iv iv') (t : Nat) : msF iv' t = msF iv t := by
  have a : ∀ n, msN iv' t n = msN iv t n := by
    intro n
    induction n with
    | zero => rfl
    | succ n ih =>
      show (if 0 ≤ (msN iv' t n).toInt then msN iv' t n else if bad iv' t n then nI n else -1) = (if 0 ≤ (msN iv t n).toInt then msN iv t n else if bad iv t n then nI n else -1)
      rw [ih]
      have hb : bad iv' t n ↔ bad iv t n := by simp only [bad, rwL, rl_m h, ra_m h, h 11 _ (by decide), h 15 _ (by decide), h 18 _ (by decide)]
      by_cases q : 0 ≤ (msN iv t n).toInt
      · rw [if_pos q, if_pos q]
      · rw [if_neg q, if_neg q]
        by_cases w : bad iv t n
        · rw [if_pos w, if_pos (hb.mpr w)]
        · rw [if_neg w, if_neg (fun z => w (hb.mp z))]
  unfold msF; rw [h 19 _ (by decide), a]
theorem miS_m {iv iv' : Iv} (h : MA iv iv') (t : Int32) : miS iv' t = miS iv t := by simp only [miS, ms_m h, h 0 _ (by decide)]
theorem fl_s {iv iv1 : Iv} {T : Nat} {v x y : Int32} (h : ∀ k : Nat, (k : Int) < x.toInt → iv T 0 k = v) (e : iv1 = up3 iv T 0 x.toNatClampNeg v) (h0 : 0 ≤ x.toInt) (hy : y.toInt = x.toInt + 1) : ∀ k : Nat, (k : Int) < y.toInt → iv1 T 0 k = v := fun k hk => by
  rw [e]
  by_cases q : k = x.toNatClampNeg
  · rw [q, up3_self]
  · rw [up3_ne (fun z => q z.2.2)]; exact h k (by have := ix_nat h0; omega)
def stp (iv : Iv) (s : Nat × Int32 × (Nat → Int32)) : Nat × Int32 × (Nat → Int32) := if s.2.1.toInt ≤ 0 then s else
  (if 0 < (lsF s.2.1 (hdF iv s.1)).toInt then (ahF iv s.1 (bcF iv s.1)).toNatClampNeg else s.1, lsF s.2.1 (hdF iv s.1), fun c => if c = (iv 14 0 s.1).toNatClampNeg then s.2.2 c + (s.2.1 - lsF s.2.1 (hdF iv s.1)) else s.2.2 c)
def stN (iv : Iv) (l : Nat) : Nat → Nat × Int32 × (Nat → Int32)
  | 0 => (l, laF iv l, fun _ => 0)
  | n + 1 => stp iv (stN iv l n)
def mtF (iv : Iv) (l k : Nat) : Int32 := (stN iv l 40).2.2 k
theorem st_stop {iv : Iv} {l n : Nat} (h : (stN iv l n).2.1.toInt ≤ 0) : ∀ d : Nat, stN iv l (n + d) = stN iv l n
  | 0 => rfl
  | d + 1 => by
    show stp iv (stN iv l (n + d)) = _
    rw [st_stop h d]; unfold stp; rw [if_pos h]
theorem st_go {iv : Iv} {l n : Nat} (h : 0 < (stN iv l n).2.1.toInt) : stN iv l (n + 1) = (if 0 < (lsF (stN iv l n).2.1 (hdF iv (stN iv l n).1)).toInt then (ahF iv (stN iv l n).1 (bcF iv (stN iv l n).1)).toNatClampNeg else (stN iv l n).1, lsF (stN iv l n).2.1 (hdF iv (stN iv l n).1), fun c => if c = (iv 14 0 (stN iv l n).1).toNatClampNeg then (stN iv l n).2.2 c + ((stN iv l n).2.1 - lsF (stN iv l n).2.1 (hdF iv (stN iv l n).1)) else (stN iv l n).2.2 c) := by
  show stp iv (stN iv l n) = _
  unfold stp; rw [if_neg (by omega)]
-- how many LEGS are planned to leave sooner
def cntL (iv : Iv) (v : Int) : Nat → Nat
  | 0 => 0
  | n + 1 => cntL iv v n + (if (iv 9 0 n).toInt < v then 1 else 0)
theorem cntL_le {iv : Iv} {v : Int} : ∀ n : Nat, cntL iv v n ≤ n
  | 0 => Nat.le_refl _
  | n + 1 => by
    have := cntL_le (iv := iv) (v := v) n
    show cntL iv v n + (if (iv 9 0 n).toInt < v then 1 else 0) ≤ n + 1
    split <;> omega
theorem cntL_mono {iv : Iv} {v w : Int} (h : v ≤ w) : ∀ n : Nat, cntL iv v n ≤ cntL iv w n
  | 0 => Nat.le_refl _
  | n + 1 => by
    have := cntL_mono (iv := iv) h n
    show cntL iv v n + (if (iv 9 0 n).toInt < v then 1 else 0) ≤ cntL iv w n + (if (iv 9 0 n).toInt < w then 1 else 0)
    split <;> split <;> omega
theorem cntL_lt {iv : Iv} {v w : Int} {j : Nat} (h1 : v ≤ (iv 9 0 j).toInt) (h2 : (iv 9 0 j).toInt < w) : ∀ n : Nat, j < n → cntL iv v n < cntL iv w n
  | 0, hj => absurd hj (Nat.not_lt_zero _)
  | n + 1, hj => by
    have m := cntL_mono (iv := iv) (v := v) (w := w) (by omega) n
    show cntL iv v n + (if (iv 9 0 n).toInt < v then 1 else 0) < cntL iv w n + (if (iv 9 0 n).toInt < w then 1 else 0)
    by_cases e : j = n
    · subst e; rw [if_neg (by omega), if_pos h2]; omega
    · have := cntL_lt h1 h2 n (by omega)
      split <;> split <;> omega
theorem cntL_self {iv : Iv} {v : Int} {j : Nat} (h1 : v ≤ (iv 9 0 j).toInt) : ∀ n : Nat, j < n → cntL iv v n < n
  | 0, hj => absurd hj (Nat.not_lt_zero _)
  | n + 1, hj => by
    have m := cntL_le (iv := iv) (v := v) n
    show cntL iv v n + (if (iv 9 0 n).toInt < v then 1 else 0) < n + 1
    by_cases e : j = n
    · subst e; rw [if_neg (by omega)]; omega
    · have := cntL_self h1 n (by omega)
      split <;> omega
theorem st_rank {al : Al} {iv : Iv} {rv : Rv} (hG : GI al iv rv) {l : Nat} (hl : (l : Int) < (iv 0 0 6).toInt) : ∀ n : Nat, 0 < (stN iv l n).2.1.toInt → (((stN iv l n).1 : Nat) : Int) < (iv 0 0 6).toInt ∧ cntL iv (iv 9 0 (stN iv l n).1).toInt (iv 0 0 6).toNatClampNeg + n ≤ cntL iv (iv 9 0 l).toInt (iv 0 0 6).toNatClampNeg
  | 0, _ => ⟨hl, Nat.le_refl _⟩
  | n + 1, h => by
    by_cases q : (stN iv l n).2.1.toInt ≤ 0
    · have e := st_stop q 1
      rw [e] at h; omega
    · have e := st_go (n := n) (iv := iv) (l := l) (by omega)
      have ih := st_rank hG hl n (by omega)
      have h2 : 0 < (lsF (stN iv l n).2.1 (hdF iv (stN iv l n).1)).toInt := by rw [e] at h; exact h
      rw [e]
      simp only [if_pos h2]
      have hp := hd_pos (ls_pos h2).2
      obtain ⟨a1, a2⟩ := ah_lt hG hp
      have c1 := ix_nat hp
      have c2 : (iv 0 0 6).toNatClampNeg = (iv 0 0 6).toInt.toNat := clamp_n
      have k := cntL_lt (iv := iv) (v := (iv 9 0 (ahF iv (stN iv l n).1 (bcF iv (stN iv l n).1)).toNatClampNeg).toInt) (w := (iv 9 0 (stN iv l n).1).toInt) (Int.le_refl _) a2 (iv 0 0 6).toNatClampNeg (by omega)
      exact ⟨by omega, by omega⟩
theorem st_40 {al : Al} {iv : Iv} {rv : Rv} (hG : GI al iv rv) {l : Nat} (hl : (l : Int) < (iv 0 0 6).toInt) : (stN iv l 40).2.1.toInt ≤ 0 := by
  by_cases h : 0 < (stN iv l 40).2.1.toInt
  · obtain ⟨-, k⟩ := st_rank hG hl 40 h
    have r6 := le6 hG
    have c2 : (iv 0 0 6).toNatClampNeg = (iv 0 0 6).toInt.toNat := clamp_n
    have s := cntL_self (iv := iv) (v := (iv 9 0 l).toInt) (Int.le_refl _) (iv 0 0 6).toNatClampNeg (by omega)
    omega
  · omega
theorem mt_at {al : Al} {iv : Iv} {rv : Rv} (hG : GI al iv rv) {l n : Nat} (hl : (l : Int) < (iv 0 0 6).toInt) (h : (stN iv l n).2.1.toInt ≤ 0) (k : Nat) : (stN iv l n).2.2 k = mtF iv l k := by
  unfold mtF
  rcases Nat.lt_or_ge 40 n with q | q
  · have e := st_stop (st_40 hG hl) (n - 40)
    rw [show 40 + (n - 40) = n by omega] at e
    rw [e]
  · have e := st_stop h (40 - n)
    rw [show n + (40 - n) = 40 by omega] at e
    rw [e]
def fmI (iv0 iv : Iv) (l at_ : Nat) (m : Int32) : Prop := ∃ n : Nat, (stN iv0 l n).1 = at_ ∧ (stN iv0 l n).2.1 = m ∧ ∀ k : Nat, k < 6 → iv 17 0 k = (stN iv0 l n).2.2 k
theorem fm_z {iv iv1 : Iv} {x y : Int32} (h : ∀ k : Nat, (k : Int) < x.toInt → iv 17 0 k = 0) (e : iv1 = up3 iv 17 0 x.toNatClampNeg 0) (h0 : 0 ≤ x.toInt) (hy : y.toInt = x.toInt + 1) : ∀ k : Nat, (k : Int) < y.toInt → iv1 17 0 k = 0 := fl_s h e h0 hy
theorem fm_0 {iv0 iv : Iv} {l x m : Int32} (h : ∀ k : Nat, (k : Int) < x.toInt → iv 17 0 k = 0) (hx : 6 ≤ x.toInt) (e : m = laF iv0 l.toNatClampNeg) : fmI iv0 iv l.toNatClampNeg l.toNatClampNeg m := ⟨0, rfl, e.symm, fun k hk => h k (by omega)⟩
theorem fm_step {iv0 iv iv1 : Iv} {l : Nat} {at_ m h led c y d z s : Int32} (i : fmI iv0 iv l at_.toNatClampNeg m) (hm : 0 < m.toInt) (hh : h = hdF iv0 at_.toNatClampNeg) (ql : led = lsF m h) (ec : c = iv 14 0 at_.toNatClampNeg) (ey : y = iv 17 0 c.toNatClampNeg) (ed : d = m - led) (ez : z = y + d) (e1 : iv1 = up3 iv 17 0 c.toNatClampNeg z) (f : ∀ t i k, t ≠ 17 → iv t i k = iv0 t i k) (hs : s.toNatClampNeg = (if 0 < led.toInt then (ahF iv0 at_.toNatClampNeg (bcF iv0 at_.toNatClampNeg)).toNatClampNeg else at_.toNatClampNeg)) (hc : 0 ≤ c.toInt) (hc2 : c.toInt ≤ 5) : fmI iv0 iv1 l s.toNatClampNeg led := by
  obtain ⟨n, a1, a2, a3⟩ := i
  have e := st_go (iv := iv0) (l := l) (n := n) (by rw [a2]; exact hm)
  rw [a1, a2, ← hh, ← ql] at e
  refine ⟨n + 1, by rw [e, hs], by rw [e], fun k hk => ?_⟩
  rw [e, e1]
  show _ = (if k = (iv0 14 0 at_.toNatClampNeg).toNatClampNeg then _ else _)
  rw [← f 14 0 _ (by decide), ← ec]
  by_cases q : k = c.toNatClampNeg
  · rw [if_pos q, q, up3_self, ez, ey, ed, a3 _ (by rw [clamp_n]; omega)]
  · rw [if_neg q, up3_ne (fun z => q z.2.2)]; exact a3 k hk
theorem fm_end {al : Al} {iv0 iv : Iv} {rv : Rv} (hG : GI al iv0 rv) {l at_ : Nat} {m : Int32} (hl : (l : Int) < (iv0 0 0 6).toInt) (i : fmI iv0 iv l at_ m) (hm : m.toInt ≤ 0) : ∀ k : Nat, k < 6 → iv 17 0 k = mtF iv0 l k := fun k hk => by
  obtain ⟨n, -, a2, a3⟩ := i
  rw [a3 k hk]; exact mt_at hG hl (by rw [a2]; exact hm) k
def mnS (iv : Iv) (lg c : Int32) : Int32 := if ¬ ((0 ≤ lg.toInt ∧ lg.toInt < (iv 0 0 6).toInt) ∧ (0 ≤ c.toInt ∧ c.toInt ≤ 5)) then -1 else if (iv 11 0 lg.toNatClampNeg).toInt = 0 then -5 else mtF iv lg.toNatClampNeg c.toNatClampNeg
theorem st_m {iv iv' : Iv} (h : MA iv iv') (l : Nat) : ∀ n : Nat, stN iv' l n = stN iv l n
  | 0 => by show (l, laF iv' l, _) = (l, laF iv l, _); rw [la_m h]
  | n + 1 => by
    show stp iv' (stN iv' l n) = stp iv (stN iv l n)
    rw [st_m h l n]; simp only [stp, hd_m h, ah_m h, bc_m h, h 14 _ (by decide)]
theorem mt_m {iv iv' : Iv} (h : MA iv iv') (l k : Nat) : mtF iv' l k = mtF iv l k := by unfold mtF; rw [st_m h]
theorem mnS_m {iv iv' : Iv} (h : MA iv iv') (l c : Int32) : mnS iv' l c = mnS iv l c := by simp only [mnS, mt_m h, h 0 _ (by decide), h 11 _ (by decide)]
theorem ma_fr {iv iv' : Iv} {md : Mo} (f : FR md iv iv') (hd : ∀ t, t < 49 → t ∉ md.1 ∧ t ∉ md.2.map (fun p => p.1) := by decide) : MA iv iv' := fun t k ht => f.arr t 0 k (hd t ht)
theorem MA.symm {iv iv' : Iv} (h : MA iv iv') : MA iv' iv := fun t k ht => (h t k ht).symm
