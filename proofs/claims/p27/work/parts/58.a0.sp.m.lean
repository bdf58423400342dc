section
theorem sp_no {S r z : Int32} {K A : Prop} (hs : S = z) (hz : z ≠ 0) (hr : r = z) (k : K) : (S = 0 ∧ A) ∨ (S ≠ 0 ∧ r = S ∧ K) := Or.inr ⟨by rw [hs]; exact hz, hr.trans hs.symm, k⟩
def spJud (l c m far cost : Int32) (cnt : Int) : Int32 := if ¬ ((0 ≤ l.toInt ∧ l.toInt ≤ 3) ∧ (0 ≤ c.toInt ∧ c.toInt ≤ 5)) then -1 else if m.toInt < 0 ∨ far.toInt < 0 ∨ cost.toInt < 0 then -4 else if 9999 < m.toInt ∨ 9999 < far.toInt ∨ 9999 < cost.toInt ∨ 40 ≤ cnt then -6 else 0
def spStop (l a b : Int32) (cnt : Int) : Int32 := if ¬ (0 ≤ l.toInt ∧ l.toInt ≤ 3) then -1 else if a.toInt < 0 ∨ b.toInt < a.toInt then -4 else if 4000 < b.toInt ∨ 20 ≤ cnt then -6 else 0
def spLaw (l d m far s : Int32) (day cnt : Int) : Int32 := if ¬ (0 ≤ l.toInt ∧ l.toInt ≤ 3) then -1 else if d.toInt < day ∨ m.toInt < 0 ∨ far.toInt < 0 ∨ s.toInt < 0 then -4 else if 4000 < d.toInt ∨ 9999 < m.toInt ∨ 9999 < far.toInt ∨ 9999 < s.toInt ∨ 30 ≤ cnt then -6 else 0
def spExc (l c d : Int32) (cnt : Int) : Int32 := if ¬ ((0 ≤ l.toInt ∧ l.toInt ≤ 3) ∧ (0 ≤ c.toInt ∧ c.toInt ≤ 5)) then -1 else if d.toInt < 0 then -4 else if 4000 < d.toInt ∨ 40 ≤ cnt then -6 else 0
def spMiles (a b v : Int32) : Int32 := if ¬ ((0 ≤ a.toInt ∧ a.toInt ≤ 9) ∧ (0 ≤ b.toInt ∧ b.toInt ≤ 9) ∧ ¬ a.toInt = b.toInt) then -1 else if v.toInt < 0 then -4 else if 9999 < v.toInt then -6 else 0
def spLeg (a b p c l r : Int32) (cnt : Int) : Int32 := if ¬ ((0 ≤ a.toInt ∧ a.toInt ≤ 9) ∧ (0 ≤ b.toInt ∧ b.toInt ≤ 9) ∧ ¬ a.toInt = b.toInt ∧ (0 ≤ p.toInt ∧ p.toInt ≤ 5) ∧ (0 ≤ c.toInt ∧ c.toInt ≤ 5)) then -1 else if l.toInt < 0 ∨ r.toInt ≤ l.toInt then -4 else if 20000 < r.toInt ∨ 40 ≤ cnt then -6 else 0
def spTrav (g : Int32) (legs cnt : Int) : Int32 := if ¬ (0 ≤ g.toInt ∧ g.toInt < legs) then -1 else if 20 ≤ cnt then -6 else 0
def spCause (g c : Int32) (legs : Int) : Int32 := if ¬ ((0 ≤ g.toInt ∧ g.toInt < legs) ∧ (0 ≤ c.toInt ∧ c.toInt ≤ 5)) then -1 else 0
def spOwes (p t v : Int32) (trav : Int) : Int32 := if ¬ ((0 ≤ p.toInt ∧ p.toInt ≤ 4) ∧ (0 ≤ t.toInt ∧ t.toInt < trav)) then -1 else if v.toInt < 0 then -4 else if 9999 < v.toInt then -6 else 0
def spLog (g a b : Int32) (legs : Int) : Int32 := if ¬ (0 ≤ g.toInt ∧ g.toInt < legs) then -1 else if a.toInt < 0 ∨ b.toInt < 0 then -4 else if 30000 < a.toInt ∨ 30000 < b.toInt then -6 else 0
theorem up2_if {iv : Iv} {t i x y : Nat} {v : Int32} {k : Nat} : up3 (up3 iv t i x v) t i y v t i k = if k = x ∨ k = y then v else iv t i k := by
  simp only [up3]
  by_cases h1 : k = x <;> by_cases h2 : k = y <;> simp [h1, h2]
theorem up2_ij {iv : Iv} {t i1 k1 i2 k2 : Nat} {v : Int32} {i k : Nat} : up3 (up3 iv t i1 k1 v) t i2 k2 v t i k = if (i = i1 ∧ k = k1) ∨ (i = i2 ∧ k = k2) then v else iv t i k := by
  simp only [up3]
  by_cases h1 : i = i1 ∧ k = k1 <;> by_cases h2 : i = i2 ∧ k = k2 <;> simp [h1, h2]
theorem pnum {al : Al} {iv : Iv} {rv : Rv} (hG : GI al iv rv) {i : Nat} (hi : i < al.1 56) : (iv 56 i 0).toInt = i ∧ i < 10 := by
  have h : i < 10 := by rw [hG.2.2.1.2.1] at hi; exact hi
  exact ⟨hG.2.2.2.2.2.2.1.2.2 i h, h⟩
theorem mbw {al : Al} {iv : Iv} {rv : Rv} (hG : GI al iv rv) {pi pj : Nat} (hi : pi < al.1 56) (hj : pj < al.1 56) {x1 x2 : Int32} {j : Nat} (e1 : x1.toInt = (iv 56 pi 0).toInt) (ej : rv 54 0 x1.toNatClampNeg = some j) (e2 : x2.toInt = (iv 56 pj 0).toInt) : j = pi ∧ x2.toNatClampNeg = pj := by
  obtain ⟨a1, b1⟩ := pnum hG hi
  obtain ⟨a2, b2⟩ := pnum hG hj
  have q := Option.some.inj (ej.symm.trans (dall hG (by omega) (by omega)))
  rw [clamp_n] at q ⊢
  exact ⟨by omega, by omega⟩
theorem leg_cnt {al al' : Al} {iv iv' : Iv} {rv rv' : Rv} (hG : GI al iv rv) {r pl cr lv_ ar : Int32} {pf pt_ : Nat} (h : ∃ (a : Nat) (siz : Int32), siz.toInt = al.1 62 + 1 ∧ al' = grow al 62 a ∧ iv' = legIv iv (al.1 62) r pl cr lv_ ar siz ∧ rv' = legRv rv (al.1 62) pf pt_) : (iv' 57 0 1).toInt = (iv 57 0 1).toInt + 1 := by
  obtain ⟨a, siz, hs, -, e, -⟩ := h
  have n := hG.2.2.2.1.2
  rw [e, n, ← hs]
  exact congrArg Int32.toInt (up3_self _ _ _ _ _)
theorem tick_cnt {al al' : Al} {iv iv' : Iv} {rv rv' : Rv} (hG : GI al iv rv) {r : Int32} {li : Nat} (h : ∃ (a a6 a7 : Nat) (siz : Int32), siz.toInt = al.1 65 + 1 ∧ al' = grow (grow (grow al 65 a) 66 a6) 67 a7 ∧ iv' = tickIv iv (al.1 65) r siz ∧ rv' = tickRv rv (al.1 65) li) : (iv' 63 0 1).toInt = (iv 63 0 1).toInt + 1 := by
  obtain ⟨a, a6, a7, siz, hs, -, e, -⟩ := h
  have n := hG.2.2.2.2.1.2
  rw [e, n, ← hs]
  exact congrArg Int32.toInt (up3_self _ _ _ _ _)
def dayF (n t : Int) : Int := if 0 ≤ n ∧ n ≤ 4000 - t then t + n else t
theorem lst4_v {w x : Int32} (e : x = lst4 w.toNatClampNeg) (h0 : 0 ≤ w.toInt) (h1 : w.toInt < 4) : (w.toInt = 3 ∧ x.toInt = 1) ∨ (¬ w.toInt = 3 ∧ x.toInt = 0) := by
  rw [e, clamp_n]; unfold lst4
  by_cases q : w.toInt.toNat = 3
  · rw [if_pos q]; exact Or.inl ⟨by omega, by decide⟩
  · rw [if_neg q]; exact Or.inr ⟨by omega, by decide⟩
theorem grt4_v {w x : Int32} (e : x = grt4 w.toNatClampNeg) (h0 : 0 ≤ w.toInt) (h1 : w.toInt < 4) : (w.toInt = 0 ∧ x.toInt = 200) ∨ (w.toInt = 1 ∧ x.toInt = 900) ∨ (w.toInt = 2 ∧ x.toInt = 300) ∨ (w.toInt = 3 ∧ x.toInt = 9) := by
  rw [e, clamp_n]; unfold grt4
  by_cases q : w.toInt.toNat = 0
  · rw [if_pos q]; exact Or.inl ⟨by omega, by decide⟩
  · rw [if_neg q]
    by_cases q1 : w.toInt.toNat = 1
    · rw [if_pos q1]; exact Or.inr (Or.inl ⟨by omega, by decide⟩)
    · rw [if_neg q1]
      by_cases q2 : w.toInt.toNat = 2
      · rw [if_pos q2]; exact Or.inr (Or.inr (Or.inl ⟨by omega, by decide⟩))
      · rw [if_neg q2]; exact Or.inr (Or.inr (Or.inr ⟨by omega, by decide⟩))
def spBar (l n : Int32) : Int32 := if ¬ (0 ≤ l.toInt ∧ l.toInt ≤ 3) then -1 else if n.toInt < 1 then -4 else if 3000 < n.toInt then -6 else 0
def spSet (w v : Int32) : Int32 := if ¬ (0 ≤ w.toInt ∧ w.toInt ≤ 3) then -2 else if v.toInt < 0 ∨ (w.toInt = 3 ∧ v.toInt < 1) then -4 else if (w.toInt = 0 ∧ 200 < v.toInt) ∨ (w.toInt = 1 ∧ 900 < v.toInt) ∨ (w.toInt = 2 ∧ 300 < v.toInt) ∨ (w.toInt = 3 ∧ 9 < v.toInt) then -6 else 0
def spSeen (a b v : Int32) : Int32 := if ¬ ((0 ≤ a.toInt ∧ a.toInt ≤ 9) ∧ (0 ≤ b.toInt ∧ b.toInt ≤ 9) ∧ ¬ a.toInt = b.toInt) then -1 else if v.toInt < -600 then -4 else if 600 < v.toInt then -6 else 0
theorem pix {al : Al} {iv : Iv} {rv : Rv} (hG : GI al iv rv) {x : Int32} {j : Nat} (ej : rv 53 0 x.toNatClampNeg = some j) (h0 : 0 ≤ x.toInt) (h1 : x.toInt < 10) : j = x.toNatClampNeg := Option.some.inj (ej.symm.trans (pall hG h0 h1))
def mvI (iv0 iv : Iv) (fl tl sh : Int32) (n : Nat) : Prop := ∀ k : Nat, iv 56 k 2 = (if k < n ∧ iv0 56 k 2 = fl then tl else iv0 56 k 2) ∧ iv 56 k 3 = (if k < n ∧ iv0 56 k 2 = fl then iv0 56 k 3 + sh else iv0 56 k 3)
theorem mv_0 {iv : Iv} {fl tl sh : Int32} : mvI iv iv fl tl sh (0 : Int32).toNatClampNeg := fun k => by
  have z : (0 : Int32).toNatClampNeg = 0 := by decide
  rw [z]; simp
theorem mv_up {iv0 iv : Iv} {fl tl sh x y : Int32} (h : y.toInt = x.toInt + 1) (h0 : 0 ≤ x.toInt) (i : mvI iv0 iv fl tl sh (x.toNatClampNeg + 1)) : mvI iv0 iv fl tl sh y.toNatClampNeg := by rw [clamp_s h h0]; exact i
theorem mv_end {iv0 iv : Iv} {fl tl sh x : Int32} (i : mvI iv0 iv fl tl sh x.toNatClampNeg) (h : x.toInt = 10) : mvI iv0 iv fl tl sh 10 := by
  have e : x.toNatClampNeg = 10 := by rw [clamp_n]; omega
  rw [e] at i; exact i
theorem mv_keep {iv0 iv : Iv} {fl tl sh x : Int32} {n j : Nat} (i : mvI iv0 iv fl tl sh n) (e : x = iv 56 j 2) (hj : j = n) (hc : ¬ x.toInt = fl.toInt) : mvI iv0 iv fl tl sh (n + 1) := fun k => by
  subst hj
  obtain ⟨a, b⟩ := i k
  by_cases q : k = j
  · subst q
    rw [if_neg (fun z => absurd z.1 (Nat.lt_irrefl _))] at a b
    have w : ¬ iv0 56 k 2 = fl := fun z => hc (by rw [e, a, z])
    rw [if_neg (fun z => w z.2), if_neg (fun z => w z.2)]; exact ⟨a, b⟩
  · have w : (k < j + 1) = (k < j) := by apply propext; omega
    simp only [w]; exact ⟨a, b⟩
theorem mv_put {iv0 iv iv1 iv2 : Iv} {fl tl sh x y z : Int32} {n j : Nat} (i : mvI iv0 iv fl tl sh n) (e : x = iv 56 j 2) (hj : j = n) (hc : x.toInt = fl.toInt) (e1 : iv1 = up3 iv 56 j 2 tl) (ey : y = iv1 56 j 3) (ez : z = y + sh) (e2 : iv2 = up3 iv1 56 j 3 z) : mvI iv0 iv2 fl tl sh (n + 1) := fun k => by
  subst hj
  obtain ⟨a, b⟩ := i k
  by_cases q : k = j
  · subst q
    rw [if_neg (fun z => absurd z.1 (Nat.lt_irrefl _))] at a b
    have w : iv0 56 k 2 = fl := by rw [← a, ← e]; exact (fa_eq _ _).mpr hc
    rw [if_pos ⟨Nat.lt_succ_self _, w⟩, if_pos ⟨Nat.lt_succ_self _, w⟩]
    refine ⟨?_, ?_⟩
    · rw [e2, up3_ne (fun z => absurd z.2.2 (by decide)), e1, up3_self]
    · rw [e2, up3_self, ez, ey, e1, up3_ne (fun z => absurd z.2.2 (by decide)), b]
  · have w : (k < j + 1) = (k < j) := by apply propext; omega
    simp only [w]
    rw [e2, up3_ne (fun z => q z.2.1), up3_ne (fun z => q z.2.1), e1, up3_ne (fun z => q z.2.1), up3_ne (fun z => q z.2.1)]
    exact ⟨a, b⟩
def seL (L : Nat → Int32) (a b k : Nat) : Int32 := if (L a).toInt < (L b).toInt then (if L k = L b then L a else L k) else (if L k = L a then L b else L k)
def seO (L O : Nat → Int32) (a b : Nat) (v : Int32) (k : Nat) : Int32 := if (L a).toInt < (L b).toInt then (if L k = L b then O k + (O a - v - O b) else O k) else (if L k = L a then O k + (O b + v - O a) else O k)
def tkP (iv iv' : Iv) (a b : Nat) (v r : Int32) : Prop := ((iv 56 a 2).toInt = (iv 56 b 2).toInt ∧ r.toInt = (if iv 56 a 3 - iv 56 b 3 = v then 1 else 0) ∧ ∀ k : Nat, iv' 56 k 2 = iv 56 k 2 ∧ iv' 56 k 3 = iv 56 k 3) ∨
  (¬ (iv 56 a 2).toInt = (iv 56 b 2).toInt ∧ r.toInt = 1 ∧ ∀ k : Nat, k < 10 → iv' 56 k 2 = seL (fun k => iv 56 k 2) a b k ∧ iv' 56 k 3 = seO (fun k => iv 56 k 2) (fun k => iv 56 k 3) a b v k)
theorem tk_fit {iv : Iv} {a b : Nat} {x y z v r : Int32} (e1 : x = iv 56 a 3) (e2 : y = iv 56 b 3) (e3 : z = x - y) (h : (r.toInt = 1 ∧ z.toInt = v.toInt) ∨ (r.toInt = 0 ∧ ¬ z.toInt = v.toInt)) : r.toInt = (if iv 56 a 3 - iv 56 b 3 = v then 1 else 0) := by
  rw [← e1, ← e2, ← e3]
  rcases h with ⟨h1, h2⟩ | ⟨h1, h2⟩
  · rw [if_pos ((fa_eq _ _).mpr h2)]; exact h1
  · rw [if_neg (fun z => h2 (by rw [z]))]; exact h1
theorem tk_a {iv iv' : Iv} {a b : Nat} {x1 x2 x3 x4 x5 x6 v : Int32} (h : mvI iv iv' x1 x2 x6 10) (e1 : x1 = iv 56 b 2) (e2 : x2 = iv 56 a 2) (e3 : x3 = iv 56 a 3) (e4 : x4 = x3 - v) (e5 : x5 = iv 56 b 3) (e6 : x6 = x4 - x5) (hc : (iv 56 a 2).toInt < (iv 56 b 2).toInt) : ∀ k : Nat, k < 10 → iv' 56 k 2 = seL (fun k => iv 56 k 2) a b k ∧ iv' 56 k 3 = seO (fun k => iv 56 k 2) (fun k => iv 56 k 3) a b v k := fun k hk => by
  obtain ⟨p, q⟩ := h k
  simp only [hk, true_and] at p q
  unfold seL seO
  simp only [if_pos hc]
  rw [p, q, e6, e5, e4, e3, e2, e1]; exact ⟨rfl, rfl⟩
theorem tk_b {iv iv' : Iv} {a b : Nat} {x1 x2 x3 x4 x5 x6 v : Int32} (h : mvI iv iv' x1 x2 x6 10) (e1 : x1 = iv 56 a 2) (e2 : x2 = iv 56 b 2) (e3 : x3 = iv 56 b 3) (e4 : x4 = x3 + v) (e5 : x5 = iv 56 a 3) (e6 : x6 = x4 - x5) (hc : ¬ (iv 56 a 2).toInt < (iv 56 b 2).toInt) : ∀ k : Nat, k < 10 → iv' 56 k 2 = seL (fun k => iv 56 k 2) a b k ∧ iv' 56 k 3 = seO (fun k => iv 56 k 2) (fun k => iv 56 k 3) a b v k := fun k hk => by
  obtain ⟨p, q⟩ := h k
  simp only [hk, true_and] at p q
  unfold seL seO
  simp only [if_neg hc]
  rw [p, q, e6, e5, e4, e3, e2, e1]; exact ⟨rfl, rfl⟩
theorem mx0 (v : Int32) : mxF 0 v = oF v := by
  unfold mxF oF
  have z : (0 : Int32).toInt = 0 := by decide
  by_cases h : (0 : Int32) < v
  · rw [if_pos h, if_neg (by rw [fa_lt] at h; omega)]
  · rw [if_neg h]
    rw [fa_lt] at h
    split
    · rfl
    · exact (fa_eq _ _).mpr (by omega)
def xrl (iv : Iv) (rv : Rv) (k : Nat) : Int32 := oF (iv 62 k 8 - iv 56 ((rv 62 k 1).getD 0) 3)
def xra (iv : Iv) (rv : Rv) (k : Nat) : Int32 := oF (iv 62 k 9 - iv 56 ((rv 62 k 2).getD 0) 3)
def crk (iv : Iv) (rv : Rv) (k : Nat) : Prop := iv 62 k 10 = xrl iv rv k ∧ iv 62 k 11 = xra iv rv k ∧ iv 62 k 12 = oF (xrl iv rv k - iv 62 k 5) ∧ iv 62 k 13 = oF (xra iv rv k - iv 62 k 6)
def CRT (iv : Iv) (rv : Rv) : Prop := ∀ k : Nat, (k : Int) < (iv 57 0 1).toInt → ¬ (iv 62 k 7).toInt = 0 → crk iv rv k
def CRN (iv : Iv) (rv : Rv) (n : Nat) : Prop := ∀ k : Nat, k < n → ¬ (iv 62 k 7).toInt = 0 → crk iv rv k
def prQ (iv : Iv) (rv : Rv) (iv' : Iv) (rv' : Rv) (li : Nat) : Prop := crk iv' rv' li ∧ ∀ k, k ≠ li → crk iv rv k → crk iv' rv' k
theorem crk_cong {iv iv' : Iv} {rv rv' : Rv} {k : Nat} (h : ∀ f, 5 ≤ f → iv' 62 k f = iv 62 k f) (hp : ∀ i, iv' 56 i 3 = iv 56 i 3) (hr : ∀ f, rv' 62 k f = rv 62 k f) (c : crk iv rv k) : crk iv' rv' k := by
  obtain ⟨a, b, c, d⟩ := c
  unfold crk xrl xra
  rw [h 5 (by decide), h 6 (by decide), h 8 (by decide), h 9 (by decide), h 10 (by decide), h 11 (by decide), h 12 (by decide), h 13 (by decide), hp, hp, hr, hr]
  exact ⟨a, b, c, d⟩
theorem pr_ok {iv iva ivb ivc ivd : Iv} {rv : Rv} {li j1 j2 : Nat} {x3 x10 x13 r14 x23 x30 x33 r34 x43 x47 x50 r51 x60 x64 x67 r68 : Int32} (e3 : x3 = iv 62 li 8) (ej1 : rv 62 li 1 = some j1) (e10 : x10 = iv 56 j1 3) (e13 : x13 = x3 - x10) (q14 : r14 = mxF 0 x13) (ea : iva = up3 iv 62 li 10 r14) (e23 : x23 = iva 62 li 9) (ej2 : rv 62 li 2 = some j2) (e30 : x30 = iva 56 j2 3) (e33 : x33 = x23 - x30) (q34 : r34 = mxF 0 x33) (eb : ivb = up3 iva 62 li 11 r34)
    (e43 : x43 = ivb 62 li 10) (e47 : x47 = ivb 62 li 5) (e50 : x50 = x43 - x47) (q51 : r51 = mxF 0 x50) (ec : ivc = up3 ivb 62 li 12 r51) (e60 : x60 = ivc 62 li 11) (e64 : x64 = ivc 62 li 6) (e67 : x67 = x60 - x64) (q68 : r68 = mxF 0 x67) (ed : ivd = up3 ivc 62 li 13 r68) : prQ iv rv ivd rv li := by
  have n : ∀ {f : Iv} {t k k' i : Nat} {v : Int32}, k ≠ k' → up3 f 62 li k' v t i k = f t i k := fun h => up3_ne (fun z => h z.2.2)
  have n6 : ∀ {f : Iv} {k k' i : Nat} {v : Int32}, up3 f 62 li k' v 56 i k = f 56 i k := up3_ne (fun z => absurd z.1 (by decide))
  have g : ∀ (t i k : Nat), (k < 10 ∨ t = 56) → ivd t i k = iv t i k := fun t i k h => by
    rw [ed, ec, eb, ea]
    rcases h with h | h
    · rw [n (by omega), n (by omega), n (by omega), n (by omega)]
    · subst h; rw [n6, n6, n6, n6]
  have f10 : ivd 62 li 10 = r14 := by rw [ed, n (by decide), ec, n (by decide), eb, n (by decide), ea, up3_self]
  have f11 : ivd 62 li 11 = r34 := by rw [ed, n (by decide), ec, n (by decide), eb, up3_self]
  have f12 : ivd 62 li 12 = r51 := by rw [ed, n (by decide), ec, up3_self]
  have f13 : ivd 62 li 13 = r68 := by rw [ed, up3_self]
  have h10 : r14 = xrl ivd rv li := by
    unfold xrl
    rw [g 62 li 8 (Or.inl (by decide)), g 56 _ 3 (Or.inr rfl), q14, mx0, e13, e3, e10, ej1]; rfl
  have h11 : r34 = xra ivd rv li := by
    unfold xra
    rw [g 62 li 9 (Or.inl (by decide)), g 56 _ 3 (Or.inr rfl), q34, mx0, e33, e23, e30, ea, n (by decide), n6, ej2]; rfl
  refine ⟨⟨f10.trans h10, f11.trans h11, ?_, ?_⟩, fun k hk => crk_cong (fun f _ => ?_) (fun i => g 56 i 3 (Or.inr rfl)) (fun _ => rfl)⟩
  · rw [f12, q51, mx0, e50, e43, e47, g 62 li 5 (Or.inl (by decide)), ← h10, eb, n (by decide), ea, up3_self, n (by decide), n (by decide)]
  · rw [f13, q68, mx0, e67, e60, e64, g 62 li 6 (Or.inl (by decide)), ← h11, ec, n (by decide), eb, up3_self, n (by decide), n (by decide), ea, n (by decide)]
  · rw [ed, up3_ne (fun z => hk z.2.1), ec, up3_ne (fun z => hk z.2.1), eb, up3_ne (fun z => hk z.2.1), ea, up3_ne (fun z => hk z.2.1)]
theorem tix {al : Al} {iv : Iv} {rv : Rv} (hG : GI al iv rv) {x : Int32} {j : Nat} (ej : some j = rv 58 0 x.toNatClampNeg) (h0 : 0 ≤ x.toInt) (h1 : x.toInt < (iv 57 0 1).toInt) : j = x.toNatClampNeg := Option.some.inj (ej.trans (tall hG h0 h1))
theorem crn_0 {iv : Iv} {rv : Rv} : CRN iv rv (0 : Int32).toNatClampNeg := fun k hk => absurd hk (by rw [show (0 : Int32).toNatClampNeg = 0 from by decide]; omega)
theorem crn_up {iv : Iv} {rv : Rv} {x y : Int32} (h : y.toInt = x.toInt + 1) (h0 : 0 ≤ x.toInt) (i : CRN iv rv (x.toNatClampNeg + 1)) : CRN iv rv y.toNatClampNeg := by rw [clamp_s h h0]; exact i
theorem crn_end {iv : Iv} {rv : Rv} {x : Int32} (i : CRN iv rv x.toNatClampNeg) (h : (iv 57 0 1).toInt ≤ x.toInt) : CRT iv rv := fun k hk => i k (by rw [clamp_n]; omega)
theorem crn_keep {iv : Iv} {rv : Rv} {n j : Nat} {x : Int32} (i : CRN iv rv n) (e : x = iv 62 j 7) (hj : j = n) (hc : x.toInt = 0) : CRN iv rv (n + 1) := fun k hk hz => by
  by_cases q : k = n
  · exact absurd (by rw [q, ← hj, ← e]; exact hc) hz
  · exact i k (by omega) hz
theorem crn_put {iv iv' : Iv} {rv rv' : Rv} {n j : Nat} {md : Mo} (i : CRN iv rv n) (p : prQ iv rv iv' rv' j) (hj : j = n) (f : FR md iv iv') (_ : FR md rv rv') (hd : ¬ MD md 62 7 := by decide) : CRN iv' rv' (n + 1) := fun k hk hz => by
  subst hj
  by_cases q : k = j
  · rw [q]; exact p.1
  · exact p.2 k q (i k (by omega) (by rw [f 62 k 7 hd] at hz; exact hz))
abbrev crtM (md : Mo) : Prop := ¬ MD md 57 1 ∧ ¬ MD md 56 3 ∧ (∀ f, f < 15 → ¬ MD md 62 f)
theorem crt_fr {iv iv' : Iv} {rv rv' : Rv} {md : Mo} (f : FR md iv iv') (g : FR md rv rv') (hd : ¬ MD md 57 1 ∧ ¬ MD md 56 3 ∧ 62 ∉ md.1 ∧ 62 ∉ md.2.map (fun p => p.1)) : CRT iv rv → CRT iv' rv' := fun h k hk hz => by
  rw [f 57 0 1 hd.1] at hk
  rw [f.arr 62 k 7 hd.2.2] at hz
  exact crk_cong (fun q _ => f.arr 62 k q hd.2.2) (fun i => f 56 i 3 hd.2.1) (fun q => g.arr 62 k q hd.2.2) (h k hk hz)
def enP (iv iv' : Iv) (li : Nat) (a b : Int32) : Prop := ∀ k : Nat, iv' 62 k 7 = (if k = li then 1 else iv 62 k 7) ∧ iv' 62 k 8 = (if k = li then a else iv 62 k 8) ∧ iv' 62 k 9 = (if k = li then b else iv 62 k 9)
def enK (iv iv' : Iv) : Prop := ∀ k : Nat, iv' 62 k 7 = iv 62 k 7 ∧ iv' 62 k 8 = iv 62 k 8 ∧ iv' 62 k 9 = iv 62 k 9
theorem en_fr {iv iv' : Iv} {md : Mo} (f : FR md iv iv') (hd : 62 ∉ md.1 ∧ 62 ∉ md.2.map (fun p => p.1)) : enK iv iv' := fun k => ⟨f.arr 62 k 7 hd, f.arr 62 k 8 hd, f.arr 62 k 9 hd⟩
theorem en_ok {iv i1 i2 i3 iv' : Iv} {li : Nat} {a b : Int32} {md : Mo} (e1 : i1 = up3 iv 62 li 8 a) (e2 : i2 = up3 i1 62 li 9 b) (e3 : i3 = up3 i2 62 li 7 1) (f : FR md i3 iv') (h7 : ¬ MD md 62 7 := by decide) (h8 : ¬ MD md 62 8 := by decide) (h9 : ¬ MD md 62 9 := by decide) : enP iv iv' li a b := fun k => by
  rw [f 62 k 7 h7, f 62 k 8 h8, f 62 k 9 h9, e3, e2, e1]
  simp [up3]
theorem en_crt {iv i1 i2 i3 iv' : Iv} {rv rv' : Rv} {li : Nat} {a b : Int32} {md : Mo} (h : CRT iv rv) (e1 : i1 = up3 iv 62 li 8 a) (e2 : i2 = up3 i1 62 li 9 b) (e3 : i3 = up3 i2 62 li 7 1) (f : FR md i3 iv') (_ : FR md rv rv') (p : prQ i3 rv iv' rv' li) (h7 : ¬ MD md 62 7 := by decide) (h5 : ¬ MD md 57 1 := by decide) : CRT iv' rv' := fun k hk hz => by
  have o : ∀ t i q, ¬ (t = 62 ∧ i = li) → i3 t i q = iv t i q := fun t i q w => by
    rw [e3, up3_ne (fun z => w ⟨z.1, z.2.1⟩), e2, up3_ne (fun z => w ⟨z.1, z.2.1⟩), e1, up3_ne (fun z => w ⟨z.1, z.2.1⟩)]
  rw [f 57 0 1 h5, o 57 0 1 (fun z => absurd z.1 (by decide))] at hk
  by_cases q : k = li
  · rw [q]; exact p.1
  · rw [f 62 k 7 h7, o 62 k 7 (fun z => q z.2)] at hz
    exact p.2 k q (crk_cong (fun f _ => o 62 k f (fun z => q z.2)) (fun i => o 56 i 3 (fun z => absurd z.1 (by decide))) (fun _ => rfl) (h k hk hz))
theorem tk_r {iv iv' : Iv} {a b : Nat} {v r r' : Int32} (h : tkP iv iv' a b v r) (e : r'.toInt = r.toInt) : tkP iv iv' a b v r' := by
  unfold tkP; rw [e]; exact h
theorem tk_fr {iv iv1 iv' : Iv} {a b : Nat} {v r r' : Int32} {md : Mo} (h : tkP iv iv1 a b v r) (e : r'.toInt = r.toInt) (f : FR md iv1 iv') (h2 : ¬ MD md 56 2 := by decide) (h3 : ¬ MD md 56 3 := by decide) : tkP iv iv' a b v r' := by
  unfold tkP; rw [e]
  exact h.imp (fun z => ⟨z.1, z.2.1, fun k => by rw [f 56 k 2 h2, f 56 k 3 h3]; exact z.2.2 k⟩) (fun z => ⟨z.1, z.2.1, fun k hk => by rw [f 56 k 2 h2, f 56 k 3 h3]; exact z.2.2 k hk⟩)
theorem crt_tk {iv iv' : Iv} {rv rv' : Rv} {a b : Nat} {v r : Int32} {md : Mo} (h : CRT iv rv) (p : tkP iv iv' a b v r) (hr : r.toInt = 0) (f : FR md iv iv') (g : FR md rv rv') (h1 : ¬ MD md 57 1 := by decide) (h2 : 62 ∉ md.1 ∧ 62 ∉ md.2.map (fun p => p.1) := by decide) : CRT iv' rv' := fun k hk hz => by
  rw [f 57 0 1 h1] at hk
  rw [f.arr 62 k 7 h2] at hz
  rcases p with ⟨-, -, p⟩ | ⟨-, p, -⟩
  · exact crk_cong (fun q _ => f.arr 62 k q h2) (fun i => (p i).2) (fun q => g.arr 62 k q h2) (h k hk hz)
  · omega
def tkM (iv iv' : Iv) (a b : Nat) (v r : Int32) : Prop := ((iv 3 0 a).toInt = (iv 3 0 b).toInt ∧ r.toInt = (if iv 4 0 a - iv 4 0 b = v then 1 else 0) ∧ ∀ k : Nat, iv' 3 0 k = iv 3 0 k ∧ iv' 4 0 k = iv 4 0 k) ∨
  (¬ (iv 3 0 a).toInt = (iv 3 0 b).toInt ∧ r.toInt = 1 ∧ ∀ k : Nat, k < 10 → iv' 3 0 k = seL (fun k => iv 3 0 k) a b k ∧ iv' 4 0 k = seO (fun k => iv 3 0 k) (fun k => iv 4 0 k) a b v k)
theorem sn_fit {iv : Iv} {a b : Nat} {x y z v r : Int32} (e1 : x = iv 4 0 a) (e2 : y = iv 4 0 b) (e3 : z = x - y) (h : (r.toInt = 1 ∧ z.toInt = v.toInt) ∨ (r.toInt = 0 ∧ ¬ z.toInt = v.toInt)) : r.toInt = (if iv 4 0 a - iv 4 0 b = v then 1 else 0) := by
  rw [← e1, ← e2, ← e3]
  rcases h with ⟨h1, h2⟩ | ⟨h1, h2⟩
  · rw [if_pos ((fa_eq _ _).mpr h2)]; exact h1
  · rw [if_neg (fun z => h2 (by rw [z]))]; exact h1
def snI (iv0 iv : Iv) (a b : Nat) (v : Int32) (n : Nat) : Prop := ∀ k : Nat, iv 3 0 k = (if k < n then seL (fun k => iv0 3 0 k) a b k else iv0 3 0 k) ∧ iv 4 0 k = (if k < n then seO (fun k => iv0 3 0 k) (fun k => iv0 4 0 k) a b v k else iv0 4 0 k)
theorem sn_0 {iv : Iv} {a b : Nat} {v : Int32} : snI iv iv a b v (0 : Int32).toNatClampNeg := fun k => by
  have z : (0 : Int32).toNatClampNeg = 0 := by decide
  rw [z]; simp
theorem sn_up {iv0 iv : Iv} {a b : Nat} {v x y : Int32} (h : y.toInt = x.toInt + 1) (h0 : 0 ≤ x.toInt) (i : snI iv0 iv a b v (x.toNatClampNeg + 1)) : snI iv0 iv a b v y.toNatClampNeg := by rw [clamp_s h h0]; exact i
theorem sn_end {iv0 iv : Iv} {a b : Nat} {v x : Int32} (i : snI iv0 iv a b v x.toNatClampNeg) (h : x.toInt = 10) : ∀ k : Nat, k < 10 → iv 3 0 k = seL (fun k => iv0 3 0 k) a b k ∧ iv 4 0 k = seO (fun k => iv0 3 0 k) (fun k => iv0 4 0 k) a b v k := fun k hk => by
  have e : x.toNatClampNeg = 10 := by rw [clamp_n]; omega
  have q := i k
  rw [e, if_pos hk, if_pos hk] at q; exact q
theorem sn_st {iv0 iv iv2 : Iv} {a b : Nat} {v : Int32} {n : Nat} (i : snI iv0 iv a b v n) (h3 : iv2 3 0 n = seL (fun k => iv0 3 0 k) a b n) (h4 : iv2 4 0 n = seO (fun k => iv0 3 0 k) (fun k => iv0 4 0 k) a b v n) (o : ∀ k, k ≠ n → iv2 3 0 k = iv 3 0 k ∧ iv2 4 0 k = iv 4 0 k) : snI iv0 iv2 a b v (n + 1) := fun k => by
  by_cases q : k = n
  · subst q; rw [if_pos (Nat.lt_succ_self _), if_pos (Nat.lt_succ_self _)]; exact ⟨h3, h4⟩
  · have w : (k < n + 1) = (k < n) := by apply propext; omega
    simp only [w]; rw [(o k q).1, (o k q).2]; exact i k
theorem sn_k {iv0 iv : Iv} {a b : Nat} {v : Int32} {n : Nat} (i : snI iv0 iv a b v n) (h1 : (iv0 3 0 a).toInt < (iv0 3 0 b).toInt → ¬ (iv 3 0 n).toInt = (iv0 3 0 b).toInt) (h2 : ¬ (iv0 3 0 a).toInt < (iv0 3 0 b).toInt → ¬ (iv 3 0 n).toInt = (iv0 3 0 a).toInt) : snI iv0 iv a b v (n + 1) := by
  obtain ⟨p, q⟩ := i n
  rw [if_neg (Nat.lt_irrefl _)] at p q
  rw [p] at h1 h2
  refine sn_st i ?_ ?_ (fun _ _ => ⟨rfl, rfl⟩)
  · rw [p]; unfold seL
    by_cases c : (iv0 3 0 a).toInt < (iv0 3 0 b).toInt
    · simp only [if_pos c]; rw [if_neg (fun z => h1 c (by rw [z]))]
    · simp only [if_neg c]; rw [if_neg (fun z => h2 c (by rw [z]))]
  · rw [q]; unfold seO
    by_cases c : (iv0 3 0 a).toInt < (iv0 3 0 b).toInt
    · simp only [if_pos c]; rw [if_neg (fun z => h1 c (by rw [z]))]
    · simp only [if_neg c]; rw [if_neg (fun z => h2 c (by rw [z]))]
theorem ring_a (x v a b : Int32) : x - (v - a + b) = x + (a - v - b) := by grind
theorem ring_b (x v a b : Int32) : x + (v - a + b) = x + (b + v - a) := by grind
theorem sn_p1 {iv0 iv iv1 iv2 : Iv} {a b : Nat} {v x1 x2 x3 x4 x z kv : Int32} {n : Nat} (i : snI iv0 iv a b v n) (f1 : x1 = iv0 4 0 a) (f2 : x2 = v - x1) (f3 : x3 = iv0 4 0 b) (f4 : x4 = x2 + x3) (ex : x = iv 4 0 n) (ez : z = x - x4) (e1 : iv1 = up3 iv 4 0 n z) (e2 : iv2 = up3 iv1 3 0 n kv) (hc : (iv0 3 0 a).toInt < (iv0 3 0 b).toInt) (hq : (iv 3 0 n).toInt = (iv0 3 0 b).toInt) (hk : kv.toInt = (iv0 3 0 a).toInt) : snI iv0 iv2 a b v (n + 1) := by
  obtain ⟨p, q⟩ := i n
  rw [if_neg (Nat.lt_irrefl _)] at p q
  rw [p] at hq
  have hq' := (fa_eq _ _).mpr hq
  refine sn_st i ?_ ?_ (fun k hk => ?_)
  · rw [e2, up3_self]; unfold seL; simp only [if_pos hc, hq', if_true]; exact (fa_eq _ _).mpr hk
  · rw [e2, up3_ne (fun z => absurd z.1 (by decide)), e1, up3_self, ez, ex, q, f4, f3, f2, f1]; unfold seO; simp only [if_pos hc, hq', if_true]; exact ring_a _ _ _ _
  · rw [e2, up3_ne (fun z => hk z.2.2), up3_ne (fun z => hk z.2.2), e1, up3_ne (fun z => hk z.2.2), up3_ne (fun z => hk z.2.2)]; exact ⟨rfl, rfl⟩
theorem sn_p2 {iv0 iv iv1 iv2 : Iv} {a b : Nat} {v x1 x2 x3 x4 x z kv : Int32} {n : Nat} (i : snI iv0 iv a b v n) (f1 : x1 = iv0 4 0 a) (f2 : x2 = v - x1) (f3 : x3 = iv0 4 0 b) (f4 : x4 = x2 + x3) (ex : x = iv 4 0 n) (ez : z = x + x4) (e1 : iv1 = up3 iv 4 0 n z) (e2 : iv2 = up3 iv1 3 0 n kv) (hc : ¬ (iv0 3 0 a).toInt < (iv0 3 0 b).toInt) (hq : (iv 3 0 n).toInt = (iv0 3 0 a).toInt) (hk : kv.toInt = (iv0 3 0 b).toInt) : snI iv0 iv2 a b v (n + 1) := by
  obtain ⟨p, q⟩ := i n
  rw [if_neg (Nat.lt_irrefl _)] at p q
  rw [p] at hq
  have hq' := (fa_eq _ _).mpr hq
  refine sn_st i ?_ ?_ (fun k hk => ?_)
  · rw [e2, up3_self]; unfold seL; simp only [if_neg hc, hq', if_true]; exact (fa_eq _ _).mpr hk
  · rw [e2, up3_ne (fun z => absurd z.1 (by decide)), e1, up3_self, ez, ex, q, f4, f3, f2, f1]; unfold seO; simp only [if_neg hc, hq', if_true]; exact ring_b _ _ _ _
  · rw [e2, up3_ne (fun z => hk z.2.2), up3_ne (fun z => hk z.2.2), e1, up3_ne (fun z => hk z.2.2), up3_ne (fun z => hk z.2.2)]; exact ⟨rfl, rfl⟩
def lgM (iv iv' : Iv) (a b pp cc lv rr : Int32) : Prop := ∀ k : Nat, iv' 5 0 k = (if k = (iv 0 0 6).toNatClampNeg then a else iv 5 0 k) ∧ iv' 6 0 k = (if k = (iv 0 0 6).toNatClampNeg then b else iv 6 0 k) ∧ iv' 7 0 k = (if k = (iv 0 0 6).toNatClampNeg then pp else iv 7 0 k) ∧ iv' 8 0 k = (if k = (iv 0 0 6).toNatClampNeg then cc else iv 8 0 k) ∧ iv' 9 0 k = (if k = (iv 0 0 6).toNatClampNeg then lv else iv 9 0 k) ∧ iv' 10 0 k = (if k = (iv 0 0 6).toNatClampNeg then rr else iv 10 0 k)
def lgK (iv iv' : Iv) : Prop := ∀ k : Nat, iv' 5 0 k = iv 5 0 k ∧ iv' 6 0 k = iv 6 0 k ∧ iv' 7 0 k = iv 7 0 k ∧ iv' 8 0 k = iv 8 0 k ∧ iv' 9 0 k = iv 9 0 k ∧ iv' 10 0 k = iv 10 0 k
theorem lg_fr {iv iv' : Iv} {md : Mo} (f : FR md iv iv') (hd : ∀ t, t < 11 → 5 ≤ t → t ∉ md.1 ∧ t ∉ md.2.map (fun p => p.1)) : lgK iv iv' := fun k => ⟨f.arr 5 0 k (hd 5 (by decide) (by decide)), f.arr 6 0 k (hd 6 (by decide) (by decide)), f.arr 7 0 k (hd 7 (by decide) (by decide)), f.arr 8 0 k (hd 8 (by decide) (by decide)), f.arr 9 0 k (hd 9 (by decide) (by decide)), f.arr 10 0 k (hd 10 (by decide) (by decide))⟩
theorem lg_ok {iv i1 i2 i3 i4 i5 i6 i7 : Iv} {a b pp cc lv rr x1 x2 x3 x4 x5 x6 z : Int32} (e1 : i1 = up3 iv 5 0 x1.toNatClampNeg a) (e2 : i2 = up3 i1 6 0 x2.toNatClampNeg b) (e3 : i3 = up3 i2 7 0 x3.toNatClampNeg pp) (e4 : i4 = up3 i3 8 0 x4.toNatClampNeg cc) (e5 : i5 = up3 i4 9 0 x5.toNatClampNeg lv) (e6 : i6 = up3 i5 10 0 x6.toNatClampNeg rr) (e7 : i7 = up3 i6 0 0 6 z) (h1 : x1.toInt = (iv 0 0 6).toInt) (h2 : x2.toInt = (iv 0 0 6).toInt) (h3 : x3.toInt = (iv 0 0 6).toInt) (h4 : x4.toInt = (iv 0 0 6).toInt) (h5 : x5.toInt = (iv 0 0 6).toInt) (h6 : x6.toInt = (iv 0 0 6).toInt) : lgM iv i7 a b pp cc lv rr := fun k => by
  rw [clamp_eq h1] at e1
  rw [clamp_eq h2] at e2
  rw [clamp_eq h3] at e3
  rw [clamp_eq h4] at e4
  rw [clamp_eq h5] at e5
  rw [clamp_eq h6] at e6
  generalize (iv 0 0 6).toNatClampNeg = n at e1 e2 e3 e4 e5 e6 ⊢
  have d : ∀ {f : Iv} {t t' i q i' q' : Nat} {v : Int32}, t' ≠ t → up3 f t i q v t' i' q' = f t' i' q' := fun h => up3_ne (fun z => h z.1)
  have s : ∀ {f : Iv} {t : Nat} {v : Int32}, up3 f t 0 n v t 0 k = if k = n then v else f t 0 k := by
    intro f t v
    simp [up3]
  refine ⟨?_, ?_, ?_, ?_, ?_, ?_⟩
  · rw [e7, d (by decide), e6, d (by decide), e5, d (by decide), e4, d (by decide), e3, d (by decide), e2, d (by decide), e1, s]
  · rw [e7, d (by decide), e6, d (by decide), e5, d (by decide), e4, d (by decide), e3, d (by decide), e2, s, e1, d (by decide)]
  · rw [e7, d (by decide), e6, d (by decide), e5, d (by decide), e4, d (by decide), e3, s, e2, d (by decide), e1, d (by decide)]
  · rw [e7, d (by decide), e6, d (by decide), e5, d (by decide), e4, s, e3, d (by decide), e2, d (by decide), e1, d (by decide)]
  · rw [e7, d (by decide), e6, d (by decide), e5, s, e4, d (by decide), e3, d (by decide), e2, d (by decide), e1, d (by decide)]
  · rw [e7, d (by decide), e6, s, e5, d (by decide), e4, d (by decide), e3, d (by decide), e2, d (by decide), e1, d (by decide)]
def oI (x : Int32) : Option Nat := if x.toInt < 0 then none else some x.toNatClampNeg
theorem oI_none {x : Int32} (h : none = oI x) : x.toInt < 0 := by
  unfold oI at h
  by_cases q : x.toInt < 0
  · exact q
  · rw [if_neg q] at h; cases h
theorem oI_some {x : Int32} {j : Nat} (h : some j = oI x) : 0 ≤ x.toInt ∧ x.toNatClampNeg = j := by
  unfold oI at h
  by_cases q : x.toInt < 0
  · rw [if_pos q] at h; cases h
  · rw [if_neg q] at h; exact ⟨by omega, (Option.some.inj h).symm⟩
def ahS (iv : Iv) (lg b : Int32) : Int32 := if ¬ (0 ≤ lg.toInt ∧ lg.toInt < (iv 0 0 6).toInt) then -1 else if (ahF iv lg.toNatClampNeg b).toInt < 0 then -9 else ahF iv lg.toNatClampNeg b
def loS (iv : Iv) (lg w : Int32) : Int32 := if ¬ (0 ≤ lg.toInt ∧ lg.toInt < (iv 0 0 6).toInt) then -1 else if ¬ (0 ≤ w.toInt ∧ w.toInt ≤ 5) then -2 else if (iv 11 0 lg.toNatClampNeg).toInt = 0 then -5 else if w.toInt = 0 then laF iv lg.toNatClampNeg else if w.toInt = 1 then olF iv lg.toNatClampNeg else if w.toInt = 2 then wtF iv lg.toNatClampNeg 0 else if w.toInt = 3 then wtF iv lg.toNatClampNeg 1 else if w.toInt = 4 then hdF iv lg.toNatClampNeg else laF iv lg.toNatClampNeg - hdF iv lg.toNatClampNeg
def svS (iv : Iv) (lg f : Int32) : Int32 := if ¬ (0 ≤ lg.toInt ∧ lg.toInt < (iv 0 0 6).toInt) then -1 else if (iv 11 0 lg.toNatClampNeg).toInt = 0 then -5 else if f.toInt < 0 then -4 else if 30000 < f.toInt then -6 else oF (rlF iv lg.toNatClampNeg - (if (iv 9 0 lg.toNatClampNeg + wtF iv lg.toNatClampNeg 1).toInt < f.toInt then f else iv 9 0 lg.toNatClampNeg + wtF iv lg.toNatClampNeg 1))
theorem mxw (f x : Int32) : mxF f x = (if x.toInt < f.toInt then f else x) := by
  unfold mxF
  by_cases h : f < x
  · rw [if_pos h, if_neg (by rw [fa_lt] at h; omega)]
  · rw [if_neg h]; rw [fa_lt] at h
    by_cases q : x.toInt < f.toInt
    · rw [if_pos q]
    · rw [if_neg q]; exact (fa_eq _ _).mpr (by omega)
def wfX (iv : Iv) (li : Nat) (bf : Option Nat) (gap : Int32) : Int32 := match bf with
  | none => 0
  | some b => if (iv 62 b 7).toInt = 0 then 0 else mnF (mxF 0 (iv 62 b 11 + gap - iv 62 li 5)) (iv 62 li 12)
theorem wfX_0 {iv : Iv} {li b : Nat} {gap : Int32} (h : (iv 62 b 7).toInt = 0) : wfX iv li (some b) gap = 0 := by
  show (if (iv 62 b 7).toInt = 0 then 0 else _) = _
  rw [if_pos h]
theorem wfX_1 {iv : Iv} {li b : Nat} {gap x1 x2 x3 x4 x5 : Int32} (e1 : x1 = iv 62 b 11) (e2 : x2 = x1 + gap) (e3 : x3 = iv 62 li 5) (e4 : x4 = x2 - x3) (e5 : x5 = iv 62 li 12) (h : ¬ (iv 62 b 7).toInt = 0) : mnF (mxF 0 x4) x5 = wfX iv li (some b) gap := by
  show _ = (if (iv 62 b 7).toInt = 0 then 0 else _)
  rw [if_neg h, e5, e4, e3, e2, e1]
-- the reference's words look at its own rows alone
abbrev mdl (t : Nat) : Prop := t < 49 ∧ t ≠ 17 ∧ t ≠ 20 ∧ t ≠ 39 ∧ t ≠ 40 ∧ t ≠ 47 ∧ t ≠ 48
def MA (iv iv' : Iv) : Prop := ∀ t k, mdl t → iv' t 0 k = iv t 0 k
theorem ma_ex {al al1 : Al} {iv iv1 : Iv} {rv rv1 : Rv} {md : Mo} (hG : GI al iv rv) (x : EX md al iv rv al1 iv1 rv1) (hd : ∀ t, t < 49 → mdl t → t ∉ md.1 ∧ t ∉ md.2.map (fun p => p.1)) : MA iv iv1 := fun t k ht => (x.2.2 t 0 k (by rw [hG.2.2.1.1 t ((by decide : ∀ t, t < 49 → t ∈ sng) t ht.1)]; decide) (MD.no (hd t ht.1 ht))).1
theorem rs_m {iv iv' : Iv} (h : MA iv iv') (b : Int32) : rsF iv' b = rsF iv b := by simp only [rsF, h 15 _ (by decide)]
theorem ra_m {iv iv' : Iv} (h : MA iv iv') (l : Nat) : raF iv' l = raF iv l := by simp only [raF, h 13 _ (by decide), h 4 _ (by decide), h 6 _ (by decide)]
theorem rl_m {iv iv' : Iv} (h : MA iv iv') (l : Nat) : rlF iv' l = rlF iv l := by simp only [rlF, h 12 _ (by decide), h 4 _ (by decide), h 5 _ (by decide)]
theorem la_m {iv iv' : Iv} (h : MA iv iv') (l : Nat) : laF iv' l = laF iv l := by simp only [laF, ra_m h, h 10 _ (by decide)]
theorem ol_m {iv iv' : Iv} (h : MA iv iv') (l : Nat) : olF iv' l = olF iv l := by simp only [olF, rl_m h, h 9 _ (by decide)]
theorem ahN_m {iv iv' : Iv} (h : MA iv iv') (l : Nat) (b : Int32) : ∀ n : Nat, ahN iv' l b n = ahN iv l b n
  | 0 => rfl
  | n + 1 => by
    show ahStep iv' l b (ahN iv' l b n) n = ahStep iv l b (ahN iv l b n) n
    rw [ahN_m h l b n]
    simp only [ahStep, rs_m h, h 5 _ (by decide), h 6 _ (by decide), h 7 _ (by decide), h 8 _ (by decide), h 9 _ (by decide), h 10 _ (by decide)]
theorem ah_m {iv iv' : Iv} (h : MA iv iv') (l : Nat) (b : Int32) : ahF iv' l b = ahF iv l b := by
  unfold ahF; rw [h 0 6 (by decide), ahN_m h]
theorem wt_m {iv iv' : Iv} (h : MA iv iv') (l : Nat) (b : Int32) : wtF iv' l b = wtF iv l b := by
  simp only [wtF, ah_m h, ra_m h, rs_m h, ol_m h, h 11 _ (by decide), h 9 _ (by decide)]
theorem bc_m {iv iv' : Iv} (h : MA iv iv') (l : Nat) : bcF iv' l = bcF iv l := by simp only [bcF, wt_m h]
theorem hd_m {iv iv' : Iv} (h : MA iv iv') (l : Nat) : hdF iv' l = hdF iv l := by simp only [hdF, la_m h, wt_m h, bc_m h]
theorem ahS_m {iv iv' : Iv} (h : MA iv iv') (l b : Int32) : ahS iv' l b = ahS iv l b := by simp only [ahS, ah_m h, h 0 _ (by decide)]
theorem loS_m {iv iv' : Iv} (h : MA iv iv') (l b : Int32) : loS iv' l b = loS iv l b := by simp only [loS, la_m h, ol_m h, wt_m h, hd_m h, h 0 _ (by decide), h 11 _ (by decide)]
theorem svS_m {iv iv' : Iv} (h : MA iv iv') (l b : Int32) : svS iv' l b = svS iv l b := by simp only [svS, rl_m h, wt_m h, h 0 _ (by decide), h 9 _ (by decide), h 11 _ (by decide)]
theorem tr_ok {iv i1 i2 i3 : Iv} {lg x1 x2 z : Int32} {k : Nat} (e1 : i1 = up3 iv 18 0 x1.toNatClampNeg lg) (e2 : i2 = up3 i1 19 0 x2.toNatClampNeg 1) (e3 : i3 = up3 i2 0 0 20 z) (h1 : x1.toInt = 4 * (iv 0 0 20).toInt) (h2 : x2.toInt = (iv 0 0 20).toInt) : i3 18 0 k = (if k = 4 * (iv 0 0 20).toNatClampNeg then lg else iv 18 0 k) ∧ i3 19 0 k = (if k = (iv 0 0 20).toNatClampNeg then 1 else iv 19 0 k) := by
  rw [clamp_eq h2] at e2
  have c : x1.toNatClampNeg = 4 * (iv 0 0 20).toNatClampNeg := by simp only [clamp_n]; omega
  rw [c] at e1
  generalize (iv 0 0 20).toNatClampNeg = n at e1 e2 ⊢
  rw [e3, e2, e1]; simp [up3]
def thL (iv : Iv) (t : Nat) : Nat := (iv 18 0 (4 * t + (iv 19 0 t).toNatClampNeg - 1)).toNatClampNeg
def spThen (iv : Iv) (t l : Int32) : Int32 := if ¬ ((0 ≤ t.toInt ∧ t.toInt < (iv 0 0 20).toInt) ∧ (0 ≤ l.toInt ∧ l.toInt < (iv 0 0 6).toInt)) then -1 else if ¬ ((iv 5 0 l.toNatClampNeg).toInt = (iv 6 0 (thL iv t.toNatClampNeg)).toInt ∧ (iv 10 0 (thL iv t.toNatClampNeg)).toInt + (iv 15 0 2).toInt ≤ (iv 9 0 l.toNatClampNeg).toInt) then -3 else if 4 ≤ (iv 19 0 t.toNatClampNeg).toInt then -6 else 0
theorem th_ix {iv : Iv} {t x y z : Int32} (e : x = iv 18 0 y.toNatClampNeg) (e2 : z = iv 19 0 t.toNatClampNeg) (h : y.toInt = 4 * t.toInt + z.toInt - 1) (h0 : 0 ≤ t.toInt) (h1 : 1 ≤ z.toInt) : x.toNatClampNeg = thL iv t.toNatClampNeg := by
  have c : y.toNatClampNeg = 4 * t.toNatClampNeg + (iv 19 0 t.toNatClampNeg).toNatClampNeg - 1 := by rw [← e2]; simp only [clamp_n]; omega
  rw [e, c]; rfl
theorem th_ok {iv i1 i2 : Iv} {t lg m x y z : Int32} {k : Nat} (em : m = iv 19 0 t.toNatClampNeg) (e1 : i1 = up3 iv 18 0 x.toNatClampNeg lg) (ey : y = i1 19 0 t.toNatClampNeg) (ez : z = y + 1) (e2 : i2 = up3 i1 19 0 t.toNatClampNeg z) (h : x.toInt = 4 * t.toInt + m.toInt ∧ 0 ≤ t.toInt ∧ 0 ≤ m.toInt) (hz : z.toInt = y.toInt + 1) : i2 18 0 k = (if k = 4 * t.toNatClampNeg + (iv 19 0 t.toNatClampNeg).toNatClampNeg then lg else iv 18 0 k) ∧ (i2 19 0 k).toInt = (if k = t.toNatClampNeg then (iv 19 0 t.toNatClampNeg).toInt + 1 else (iv 19 0 k).toInt) := by
  have c : x.toNatClampNeg = 4 * t.toNatClampNeg + (iv 19 0 t.toNatClampNeg).toNatClampNeg := by rw [← em]; simp only [clamp_n]; omega
  have y1 : y = iv 19 0 t.toNatClampNeg := by rw [ey, e1, up3_ne (fun z => absurd z.1 (by decide))]
  rw [c] at e1
  refine ⟨?_, ?_⟩
  · rw [e2, up3_ne (fun z => absurd z.1 (by decide)), e1]; simp [up3]
  · rw [e2]
    by_cases q : k = t.toNatClampNeg
    · rw [q, up3_self, if_pos rfl, hz, y1]
    · rw [up3_ne (fun z => q z.2.2), e1, up3_ne (fun z => absurd z.1 (by decide)), if_neg q]
theorem th_r {iv i1 i2 : Iv} {t lg w x y z : Int32} (ew : w = i2 19 0 t.toNatClampNeg) (e2 : i2 = up3 i1 19 0 t.toNatClampNeg z) (ez : z = y + 1) (ey : y = i1 19 0 t.toNatClampNeg) (e1 : i1 = up3 iv 18 0 x.toNatClampNeg lg) (hz : z.toInt = y.toInt + 1) : w.toInt = (iv 19 0 t.toNatClampNeg).toInt + 1 := by
  rw [ew, e2, up3_self, hz, ey, e1, up3_ne (fun z => absurd z.1 (by decide))]
theorem fb_1 {iv : Iv} {rv : Rv} {li ti j1 j5 j8 j9 p q o : Nat} {conn r : Int32} (e1 : rv 62 li 1 = some j1) (e5 : rv 65 ti 2 = some j5) (e8 : rv 62 j5 2 = some j8) (h1 : rv 62 li 1 = some p) (h2 : rv 65 ti 2 = some q) (h3 : rv 62 q 2 = some o) (c : j1 = j8) (e9 : rv 65 ti 2 = some j9) (h : conn.toInt ≤ (iv 62 li 5).toInt - (iv 62 j9 6).toInt) (hr : r.toInt = 1) : ((p = o ∧ conn.toInt ≤ (iv 62 li 5).toInt - (iv 62 q 6).toInt) ∧ r.toInt = 1) ∨ ((¬ (p = o ∧ conn.toInt ≤ (iv 62 li 5).toInt - (iv 62 q 6).toInt)) ∧ r.toInt = 0) := by
  rw [h2] at e5 e9; cases e5; cases e9
  rw [h3] at e8; cases e8
  rw [h1] at e1; cases e1
  exact Or.inl ⟨⟨c, h⟩, hr⟩
theorem fb_2 {iv : Iv} {rv : Rv} {li ti j1 j5 j8 p q o : Nat} {conn r : Int32} (e1 : rv 62 li 1 = some j1) (e5 : rv 65 ti 2 = some j5) (e8 : rv 62 j5 2 = some j8) (h1 : rv 62 li 1 = some p) (h2 : rv 65 ti 2 = some q) (h3 : rv 62 q 2 = some o) (c : ¬ j1 = j8) (hr : r.toInt = 0) : ((p = o ∧ conn.toInt ≤ (iv 62 li 5).toInt - (iv 62 q 6).toInt) ∧ r.toInt = 1) ∨ ((¬ (p = o ∧ conn.toInt ≤ (iv 62 li 5).toInt - (iv 62 q 6).toInt)) ∧ r.toInt = 0) := by
  rw [h2] at e5; cases e5
  rw [h3] at e8; cases e8
  rw [h1] at e1; cases e1
  exact Or.inr ⟨fun z => c z.1, hr⟩
theorem fb_3 {iv : Iv} {rv : Rv} {li ti j5 j9 p q o : Nat} {conn r : Int32} (_ : rv 65 ti 2 = some j5) (h2 : rv 65 ti 2 = some q) (e9 : rv 65 ti 2 = some j9) (h : ¬ conn.toInt ≤ (iv 62 li 5).toInt - (iv 62 j9 6).toInt) (hr : r.toInt = 0) : ((p = o ∧ conn.toInt ≤ (iv 62 li 5).toInt - (iv 62 q 6).toInt) ∧ r.toInt = 1) ∨ ((¬ (p = o ∧ conn.toInt ≤ (iv 62 li 5).toInt - (iv 62 q 6).toInt)) ∧ r.toInt = 0) := by
  rw [h2] at e9; cases e9
  exact Or.inr ⟨fun z => h z.2, hr⟩
def thX (iv : Iv) (rv : Rv) (iv' : Iv) (rv' : Rv) (t l : Nat) : Prop := (∀ k : Nat, (iv' 65 k 4).toInt = if k = t then (iv 65 t 4).toInt + 1 else (iv 65 k 4).toInt) ∧ (∀ i k : Nat, rv' 66 i k = if i = t ∧ k = (iv 65 t 4).toNatClampNeg then some l else rv 66 i k) ∧ (∀ k : Nat, rv' 65 k 2 = if k = t then some l else rv 65 k 2)
theorem thx_ok {iv iv' : Iv} {rv r1 r2 : Rv} {t l : Nat} {x y w : Int32} (e9 : r1 = up3 rv 66 t w.toNatClampNeg (some l)) (e12 : r2 = up3 r1 65 t 2 (some l)) (e17 : x = iv 65 t 4) (e21 : y = x + 1) (e22 : iv' = up3 iv 65 t 4 y) (h : y.toInt = x.toInt + 1 ∧ w.toInt = (iv 65 t 4).toInt) : thX iv rv iv' r2 t l := by
  rw [clamp_eq h.2] at e9
  refine ⟨fun k => ?_, fun i k => ?_, fun k => ?_⟩
  · rw [e22]
    by_cases q : k = t
    · rw [q, up3_self, if_pos rfl, h.1, e17]
    · rw [up3_ne (fun z => q z.2.1), if_neg q]
  · rw [e12, up3_ne (fun z => absurd z.1 (by decide)), e9]; simp [up3]
  · rw [e12]
    by_cases q : k = t
    · rw [q, up3_self, if_pos rfl]
    · rw [up3_ne (fun z => q z.2.1), if_neg q, e9, up3_ne (fun z => absurd z.1 (by decide))]
theorem thx_r {iv iv' : Iv} {rv rv' : Rv} {t l n : Nat} (h : thX iv rv iv' rv' t l) (e : n = t) (_ : True) : (iv' 65 n 4).toInt = (iv 65 n 4).toInt + 1 := by
  rw [e, h.1 t, if_pos rfl]
def rwL (iv : Iv) (t j : Nat) : Nat := (iv 18 0 (4 * t + j)).toNatClampNeg
abbrev bad (iv : Iv) (t i : Nat) : Prop := (iv 11 0 (rwL iv t i)).toInt = 0 ∨ (0 < i ∧ (rlF iv (rwL iv t i) - raF iv (rwL iv t (i - 1))).toInt < (iv 15 0 2).toInt)
def msN (iv : Iv) (t : Nat) : Nat → Int32
  | 0 => -1
  | n + 1 => if 0 ≤ (msN iv t n).toInt then msN iv t n else if bad iv t n then nI n else -1
def msF (iv : Iv) (t : Nat) : Int32 := msN iv t (iv 19 0 t).toNatClampNeg
theorem ms_0 {iv : Iv} {t : Nat} : (msN iv t (0 : Int32).toNatClampNeg).toInt < 0 := by
  rw [show (0 : Int32).toNatClampNeg = 0 from by decide]; show (-1 : Int32).toInt < 0; decide
theorem ms_s {iv : Iv} {t n : Nat} (h : (msN iv t n).toInt < 0) (b : ¬ bad iv t n) : (msN iv t (n + 1)).toInt < 0 := by
  show (if 0 ≤ (msN iv t n).toInt then msN iv t n else if bad iv t n then nI n else -1).toInt < 0
  rw [if_neg (by omega), if_neg b]; decide
theorem ms_up {iv : Iv} {t : Nat} {x y : Int32} (h : y.toInt = x.toInt + 1) (h0 : 0 ≤ x.toInt) (i : (msN iv t x.toNatClampNeg).toInt < 0) (b : ¬ bad iv t x.toNatClampNeg) : (msN iv t y.toNatClampNeg).toInt < 0 := by
  rw [clamp_s h h0]; exact ms_s i b
theorem ms_neg {iv : Iv} {t : Nat} : ∀ n : Nat, n ≤ 40 → (msN iv t n).toInt < 0 → msN iv t n = -1
  | 0, _, _ => rfl
  | n + 1, hn, h => by
    have h' : (if 0 ≤ (msN iv t n).toInt then msN iv t n else if bad iv t n then nI n else -1).toInt < 0 := h
    show (if 0 ≤ (msN iv t n).toInt then msN iv t n else if bad iv t n then nI n else -1) = -1
    by_cases q : 0 ≤ (msN iv t n).toInt
    · rw [if_pos q] at h'; omega
    · rw [if_neg q] at h' ⊢
      by_cases w : bad iv t n
      · rw [if_pos w, nI_toInt (by omega)] at h'; omega
      · rw [if_neg w]
theorem ms_hit {iv : Iv} {t n : Nat} (hn : n ≤ 40) (h : (msN iv t n).toInt < 0) (b : bad iv t n) : ∀ m : Nat, n < m → msN iv t m = nI n
  | 0, hm => absurd hm (Nat.not_lt_zero _)
  | m + 1, hm => by
    show (if 0 ≤ (msN iv t m).toInt then msN iv t m else if bad iv t m then nI m else -1) = nI n
    by_cases q : m = n
    · subst q; rw [if_neg (by omega), if_pos b]
    · have e := ms_hit hn h b m (by omega)
      rw [e, if_pos (by rw [nI_toInt (by omega)]; omega)]
theorem ms_alln {iv : Iv} {t : Nat} : ∀ n : Nat, n ≤ 40 → (msN iv t n).toInt < 0 → ∀ j : Nat, j < n → ¬ bad iv t j := by
  intro n
  induction n with
  | zero => intro _ _ j hj; exact absurd hj (Nat.not_lt_zero _)
  | succ n ih =>
    intro hn h j hj
    have h' : (if 0 ≤ (msN iv t n).toInt then msN iv t n else if bad iv t n then nI n else -1).toInt < 0 := h
    by_cases q : 0 ≤ (msN iv t n).toInt
    · rw [if_pos q] at h'; omega
    · by_cases e : j = n
      · subst e
        intro w
        rw [if_neg q, if_pos w, nI_toInt (by omega)] at h'
        omega
      · exact ih (by omega) (by omega) j (by omega)
theorem ms_all {iv : Iv} {t n : Nat} (hn : n ≤ 40) (h : (msN iv t n).toInt < 0) (j : Nat) (hj : j < n) : ¬ bad iv t j := ms_alln n hn h j hj
theorem ms_end {iv : Iv} {t : Nat} {x : Int32} (i : (msN iv t x.toNatClampNeg).toInt < 0) (h : x.toInt = (iv 19 0 t).toInt ∧ x.toInt ≤ 40) : (-1 : Int32) = msF iv t := by
  unfold msF
  rw [← clamp_eq h.1]; exact (ms_neg _ (by rw [clamp_n]; omega) i).symm
theorem ms_ret {iv : Iv} {t : Nat} {x : Int32} (i : (msN iv t x.toNatClampNeg).toInt < 0) (b : bad iv t x.toNatClampNeg) (h0 : 0 ≤ x.toInt) (h1 : x.toInt ≤ 40) (h2 : x.toInt < (iv 19 0 t).toInt) : x = msF iv t := by
  unfold msF
  rw [ms_hit (by rw [clamp_n]; omega) i b _ (by rw [clamp_n, clamp_n]; omega), nat_of h0]
theorem rw_ix {iv : Iv} {t i x y : Int32} (e : x = iv 18 0 y.toNatClampNeg) (h : y.toInt = 4 * t.toInt + i.toInt) (h0 : 0 ≤ t.toInt) (h1 : 0 ≤ i.toInt) : x.toNatClampNeg = rwL iv t.toNatClampNeg i.toNatClampNeg := by
  have c : y.toNatClampNeg = 4 * t.toNatClampNeg + i.toNatClampNeg := by simp only [clamp_n]; omega
  rw [e, c]; rfl
theorem rw_ix1 {iv : Iv} {t i x y : Int32} (e : x = iv 18 0 y.toNatClampNeg) (h : y.toInt = 4 * t.toInt + i.toInt - 1) (h0 : 0 ≤ t.toInt) (h1 : 0 < i.toInt) : x.toNatClampNeg = rwL iv t.toNatClampNeg (i.toNatClampNeg - 1) := by
  have c : y.toNatClampNeg = 4 * t.toNatClampNeg + (i.toNatClampNeg - 1) := by simp only [clamp_n]; omega
  rw [e, c]; rfl
theorem nb_0 {iv : Iv} {t : Nat} {x : Int32} (hd : ¬ (iv 11 0 (rwL iv t x.toNatClampNeg)).toInt = 0) (h : x.toInt ≤ 0) : ¬ bad iv t x.toNatClampNeg := fun z => z.elim hd (fun w => by have := w.1; rw [clamp_n] at this; omega)
theorem bd_1 {iv : Iv} {t i : Nat} {a1 a2 l1 l2 x : Int32} {c : Int32} (q1 : l1 = rlF iv a1.toNatClampNeg) (w1 : a1.toNatClampNeg = rwL iv t i) (q2 : l2 = raF iv a2.toNatClampNeg) (w2 : a2.toNatClampNeg = rwL iv t (i - 1)) (e : x = l1 - l2) (hc : c.toInt = (iv 15 0 2).toInt) (h : x.toInt < c.toInt) : (rlF iv (rwL iv t i) - raF iv (rwL iv t (i - 1))).toInt < (iv 15 0 2).toInt := by
  rw [← w1, ← w2, ← q1, ← q2, ← e]; omega
theorem nb_1 {iv : Iv} {t i : Nat} {a1 a2 l1 l2 x : Int32} {c : Int32} (hd : ¬ (iv 11 0 (rwL iv t i)).toInt = 0) (q1 : l1 = rlF iv a1.toNatClampNeg) (w1 : a1.toNatClampNeg = rwL iv t i) (q2 : l2 = raF iv a2.toNatClampNeg) (w2 : a2.toNatClampNeg = rwL iv t (i - 1)) (e : x = l1 - l2) (hc : c.toInt = (iv 15 0 2).toInt) (h : ¬ x.toInt < c.toInt) : ¬ bad iv t i := fun z => z.elim hd (fun w => by
  have := w.2
  rw [← w1, ← w2, ← q1, ← q2, ← e] at this; omega)
theorem bd_x {iv : Iv} {t i j1 j2 : Nat} {l1 l2 x c : Int32} (e1 : l1 = iv 62 j1 10) (r1 : iv 62 j1 10 = rlF iv j1) (w1 : j1 = rwL iv t i) (e2 : l2 = iv 62 j2 11) (r2 : iv 62 j2 11 = raF iv j2) (w2 : j2 = rwL iv t (i - 1)) (e : x = l1 - l2) (hc : c.toInt = (iv 15 0 2).toInt) (h : x.toInt < c.toInt) : (rlF iv (rwL iv t i) - raF iv (rwL iv t (i - 1))).toInt < (iv 15 0 2).toInt := by
  rw [← w1, ← w2, ← r1, ← r2, ← e1, ← e2, ← e]; omega
theorem nb_x {iv : Iv} {t i j1 j2 : Nat} {l1 l2 x c : Int32} (hd : ¬ (iv 11 0 (rwL iv t i)).toInt = 0) (e1 : l1 = iv 62 j1 10) (r1 : iv 62 j1 10 = rlF iv j1) (w1 : j1 = rwL iv t i) (e2 : l2 = iv 62 j2 11) (r2 : iv 62 j2 11 = raF iv j2) (w2 : j2 = rwL iv t (i - 1)) (e : x = l1 - l2) (hc : c.toInt = (iv 15 0 2).toInt) (h : ¬ x.toInt < c.toInt) : ¬ bad iv t i := fun z => z.elim hd (fun w => by
  have := w.2
  rw [← w1, ← w2, ← r1, ← r2, ← e1, ← e2, ← e] at this; omega)
theorem nbd {iv : Iv} {t i : Nat} (h : ¬ bad iv t i) : ¬ (iv 11 0 (rwL iv t i)).toInt = 0 := fun z => h (Or.inl z)
def miS (iv : Iv) (t : Int32) : Int32 := if ¬ (0 ≤ t.toInt ∧ t.toInt < (iv 0 0 20).toInt) then -1 else if (msF iv t.toNatClampNeg).toInt < 0 then -9 else msF iv t.toNatClampNeg
def mpX (iv : Iv) (t : Nat) : Int32 := if (msF iv t).toInt < 0 then -9 else msF iv t
theorem mpx_ret {iv : Iv} {t : Nat} {x : Int32} (i : (msN iv t x.toNatClampNeg).toInt < 0) (b : bad iv t x.toNatClampNeg) (e : iv 19 0 t = iv 65 t 4) (h0 : 0 ≤ x.toInt ∧ x.toInt ≤ 40) (h2 : x.toInt < (iv 65 t 4).toInt) : x = mpX iv t := by
  have z := ms_ret i b h0.1 h0.2 (by rw [e]; exact h2)
  unfold mpX; rw [← z, if_neg (by omega)]
theorem mpx_end {iv : Iv} {t : Nat} {x : Int32} (i : (msN iv t x.toNatClampNeg).toInt < 0) (e : iv 19 0 t = iv 65 t 4) (h : x.toInt = (iv 65 t 4).toInt ∧ x.toInt ≤ 40) : (-9 : Int32) = mpX iv t := by
  have z := ms_end i (by rw [e]; exact h)
  unfold mpX; rw [← z, if_pos (by decide)]
theorem ms_m {iv iv' : Iv} (h : MA iv iv') (t : Nat) : msF iv' t = msF iv t := by
  have a : ∀ n, msN iv' t n = msN iv t n := by
    intro n
    induction n with
    | zero => rfl
    | succ n ih =>
      show (if 0 ≤ (msN iv' t n).toInt then msN iv' t n else if bad iv' t n then nI n else -1) = (if 0 ≤ (msN iv t n).toInt then msN iv t n else if bad iv t n then nI n else -1)
      rw [ih]
      have hb : bad iv' t n ↔ bad iv t n := by simp only [bad, rwL, rl_m h, ra_m h, h 11 _ (by decide), h 15 _ (by decide), h 18 _ (by decide)]
      by_cases q : 0 ≤ (msN iv t n).toInt
      · rw [if_pos q, if_pos q]
      · rw [if_neg q, if_neg q]
        by_cases w : bad iv t n
        · rw [if_pos w, if_pos (hb.mpr w)]
        · rw [if_neg w, if_neg (fun z => w (hb.mp z))]
  unfold msF; rw [h 19 _ (by decide), a]
theorem miS_m {iv iv' : Iv} (h : MA iv iv') (t : Int32) : miS iv' t = miS iv t := by simp only [miS, ms_m h, h 0 _ (by decide)]
theorem fl_s {iv iv1 : Iv} {T : Nat} {v x y : Int32} (h : ∀ k : Nat, (k : Int) < x.toInt → iv T 0 k = v) (e : iv1 = up3 iv T 0 x.toNatClampNeg v) (h0 : 0 ≤ x.toInt) (hy : y.toInt = x.toInt + 1) : ∀ k : Nat, (k : Int) < y.toInt → iv1 T 0 k = v := fun k hk => by
  rw [e]
  by_cases q : k = x.toNatClampNeg
  · rw [q, up3_self]
  · rw [up3_ne (fun z => q z.2.2)]; exact h k (by have := ix_nat h0; omega)
def stp (iv : Iv) (s : Nat × Int32 × (Nat → Int32)) : Nat × Int32 × (Nat → Int32) := if s.2.1.toInt ≤ 0 then s else
  (if 0 < (lsF s.2.1 (hdF iv s.1)).toInt then (ahF iv s.1 (bcF iv s.1)).toNatClampNeg else s.1, lsF s.2.1 (hdF iv s.1), fun c => if c = (iv 14 0 s.1).toNatClampNeg then s.2.2 c + (s.2.1 - lsF s.2.1 (hdF iv s.1)) else s.2.2 c)
def stN (iv : Iv) (l : Nat) : Nat → Nat × Int32 × (Nat → Int32)
  | 0 => (l, laF iv l, fun _ => 0)
  | n + 1 => stp iv (stN iv l n)
def mtF (iv : Iv) (l k : Nat) : Int32 := (stN iv l 40).2.2 k
theorem st_stop {iv : Iv} {l n : Nat} (h : (stN iv l n).2.1.toInt ≤ 0) : ∀ d : Nat, stN iv l (n + d) = stN iv l n
  | 0 => rfl
  | d + 1 => by
    show stp iv (stN iv l (n + d)) = _
    rw [st_stop h d]; unfold stp; rw [if_pos h]
theorem st_go {iv : Iv} {l n : Nat} (h : 0 < (stN iv l n).2.1.toInt) : stN iv l (n + 1) = (if 0 < (lsF (stN iv l n).2.1 (hdF iv (stN iv l n).1)).toInt then (ahF iv (stN iv l n).1 (bcF iv (stN iv l n).1)).toNatClampNeg else (stN iv l n).1, lsF (stN iv l n).2.1 (hdF iv (stN iv l n).1), fun c => if c = (iv 14 0 (stN iv l n).1).toNatClampNeg then (stN iv l n).2.2 c + ((stN iv l n).2.1 - lsF (stN iv l n).2.1 (hdF iv (stN iv l n).1)) else (stN iv l n).2.2 c) := by
  show stp iv (stN iv l n) = _
  unfold stp; rw [if_neg (by omega)]
-- how many LEGS are planned to leave sooner
def cntL (iv : Iv) (v : Int) : Nat → Nat
  | 0 => 0
  | n + 1 => cntL iv v n + (if (iv 9 0 n).toInt < v then 1 else 0)
theorem cntL_le {iv : Iv} {v : Int} : ∀ n : Nat, cntL iv v n ≤ n
  | 0 => Nat.le_refl _
  | n + 1 => by
    have := cntL_le (iv := iv) (v := v) n
    show cntL iv v n + (if (iv 9 0 n).toInt < v then 1 else 0) ≤ n + 1
    split <;> omega
theorem cntL_mono {iv : Iv} {v w : Int} (h : v ≤ w) : ∀ n : Nat, cntL iv v n ≤ cntL iv w n
  | 0 => Nat.le_refl _
  | n + 1 => by
    have := cntL_mono (iv := iv) h n
    show cntL iv v n + (if (iv 9 0 n).toInt < v then 1 else 0) ≤ cntL iv w n + (if (iv 9 0 n).toInt < w then 1 else 0)
    split <;> split <;> omega
theorem cntL_lt {iv : Iv} {v w : Int} {j : Nat} (h1 : v ≤ (iv 9 0 j).toInt) (h2 : (iv 9 0 j).toInt < w) : ∀ n : Nat, j < n → cntL iv v n < cntL iv w n
  | 0, hj => absurd hj (Nat.not_lt_zero _)
  | n + 1, hj => by
    have m := cntL_mono (iv := iv) (v := v) (w := w) (by omega) n
    show cntL iv v n + (if (iv 9 0 n).toInt < v then 1 else 0) < cntL iv w n + (if (iv 9 0 n).toInt < w then 1 else 0)
    by_cases e : j = n
    · subst e; rw [if_neg (by omega), if_pos h2]; omega
    · have := cntL_lt h1 h2 n (by omega)
      split <;> split <;> omega
theorem cntL_self {iv : Iv} {v : Int} {j : Nat} (h1 : v ≤ (iv 9 0 j).toInt) : ∀ n : Nat, j < n → cntL iv v n < n
  | 0, hj => absurd hj (Nat.not_lt_zero _)
  | n + 1, hj => by
    have m := cntL_le (iv := iv) (v := v) n
    show cntL iv v n + (if (iv 9 0 n).toInt < v then 1 else 0) < n + 1
    by_cases e : j = n
    · subst e; rw [if_neg (by omega)]; omega
    · have := cntL_self h1 n (by omega)
      split <;> omega
theorem st_rank {al : Al} {iv : Iv} {rv : Rv} (hG : GI al iv rv) {l : Nat} (hl : (l : Int) < (iv 0 0 6).toInt) : ∀ n : Nat, 0 < (stN iv l n).2.1.toInt → (((stN iv l n).1 : Nat) : Int) < (iv 0 0 6).toInt ∧ cntL iv (iv 9 0 (stN iv l n).1).toInt (iv 0 0 6).toNatClampNeg + n ≤ cntL iv (iv 9 0 l).toInt (iv 0 0 6).toNatClampNeg
  | 0, _ => ⟨hl, Nat.le_refl _⟩
  | n + 1, h => by
    by_cases q : (stN iv l n).2.1.toInt ≤ 0
    · have e := st_stop q 1
      rw [e] at h; omega
    · have e := st_go (n := n) (iv := iv) (l := l) (by omega)
      have ih := st_rank hG hl n (by omega)
      have h2 : 0 < (lsF (stN iv l n).2.1 (hdF iv (stN iv l n).1)).toInt := by rw [e] at h; exact h
      rw [e]
      simp only [if_pos h2]
      have hp := hd_pos (ls_pos h2).2
      obtain ⟨a1, a2⟩ := ah_lt hG hp
      have c1 := ix_nat hp
      have c2 : (iv 0 0 6).toNatClampNeg = (iv 0 0 6).toInt.toNat := clamp_n
      have k := cntL_lt (iv := iv) (v := (iv 9 0 (ahF iv (stN iv l n).1 (bcF iv (stN iv l n).1)).toNatClampNeg).toInt) (w := (iv 9 0 (stN iv l n).1).toInt) (Int.le_refl _) a2 (iv 0 0 6).toNatClampNeg (by omega)
      exact ⟨by omega, by omega⟩
theorem st_40 {al : Al} {iv : Iv} {rv : Rv} (hG : GI al iv rv) {l : Nat} (hl : (l : Int) < (iv 0 0 6).toInt) : (stN iv l 40).2.1.toInt ≤ 0 := by
  by_cases h : 0 < (stN iv l 40).2.1.toInt
  · obtain ⟨-, k⟩ := st_rank hG hl 40 h
    have r6 := le6 hG
    have c2 : (iv 0 0 6).toNatClampNeg = (iv 0 0 6).toInt.toNat := clamp_n
    have s := cntL_self (iv := iv) (v := (iv 9 0 l).toInt) (Int.le_refl _) (iv 0 0 6).toNatClampNeg (by omega)
    omega
  · omega
theorem mt_at {al : Al} {iv : Iv} {rv : Rv} (hG : GI al iv rv) {l n : Nat} (hl : (l : Int) < (iv 0 0 6).toInt) (h : (stN iv l n).2.1.toInt ≤ 0) (k : Nat) : (stN iv l n).2.2 k = mtF iv l k := by
  unfold mtF
  rcases Nat.lt_or_ge 40 n with q | q
  · have e := st_stop (st_40 hG hl) (n - 40)
    rw [show 40 + (n - 40) = n by omega] at e
    rw [e]
  · have e := st_stop h (40 - n)
    rw [show n + (40 - n) = 40 by omega] at e
    rw [e]
def fmI (iv0 iv : Iv) (l at_ : Nat) (m : Int32) : Prop := ∃ n : Nat, (stN iv0 l n).1 = at_ ∧ (stN iv0 l n).2.1 = m ∧ ∀ k : Nat, k < 6 → iv 17 0 k = (stN iv0 l n).2.2 k
theorem fm_z {iv iv1 : Iv} {x y : Int32} (h : ∀ k : Nat, (k : Int) < x.toInt → iv 17 0 k = 0) (e : iv1 = up3 iv 17 0 x.toNatClampNeg 0) (h0 : 0 ≤ x.toInt) (hy : y.toInt = x.toInt + 1) : ∀ k : Nat, (k : Int) < y.toInt → iv1 17 0 k = 0 := fl_s h e h0 hy
theorem fm_0 {iv0 iv : Iv} {l x m : Int32} (h : ∀ k : Nat, (k : Int) < x.toInt → iv 17 0 k = 0) (hx : 6 ≤ x.toInt) (e : m = laF iv0 l.toNatClampNeg) : fmI iv0 iv l.toNatClampNeg l.toNatClampNeg m := ⟨0, rfl, e.symm, fun k hk => h k (by omega)⟩
theorem fm_step {iv0 iv iv1 : Iv} {l : Nat} {at_ m h led c y d z s : Int32} (i : fmI iv0 iv l at_.toNatClampNeg m) (hm : 0 < m.toInt) (hh : h = hdF iv0 at_.toNatClampNeg) (ql : led = lsF m h) (ec : c = iv 14 0 at_.toNatClampNeg) (ey : y = iv 17 0 c.toNatClampNeg) (ed : d = m - led) (ez : z = y + d) (e1 : iv1 = up3 iv 17 0 c.toNatClampNeg z) (f : ∀ t i k, t ≠ 17 → iv t i k = iv0 t i k) (hs : s.toNatClampNeg = (if 0 < led.toInt then (ahF iv0 at_.toNatClampNeg (bcF iv0 at_.toNatClampNeg)).toNatClampNeg else at_.toNatClampNeg)) (hc : 0 ≤ c.toInt) (hc2 : c.toInt ≤ 5) : fmI iv0 iv1 l s.toNatClampNeg led := by
  obtain ⟨n, a1, a2, a3⟩ := i
  have e := st_go (iv := iv0) (l := l) (n := n) (by rw [a2]; exact hm)
  rw [a1, a2, ← hh, ← ql] at e
  refine ⟨n + 1, by rw [e, hs], by rw [e], fun k hk => ?_⟩
  rw [e, e1]
  show _ = (if k = (iv0 14 0 at_.toNatClampNeg).toNatClampNeg then _ else _)
  rw [← f 14 0 _ (by decide), ← ec]
  by_cases q : k = c.toNatClampNeg
  · rw [if_pos q, q, up3_self, ez, ey, ed, a3 _ (by rw [clamp_n]; omega)]
  · rw [if_neg q, up3_ne (fun z => q z.2.2)]; exact a3 k hk
theorem fm_end {al : Al} {iv0 iv : Iv} {rv : Rv} (hG : GI al iv0 rv) {l at_ : Nat} {m : Int32} (hl : (l : Int) < (iv0 0 0 6).toInt) (i : fmI iv0 iv l at_ m) (hm : m.toInt ≤ 0) : ∀ k : Nat, k < 6 → iv 17 0 k = mtF iv0 l k := fun k hk => by
  obtain ⟨n, -, a2, a3⟩ := i
  rw [a3 k hk]; exact mt_at hG hl (by rw [a2]; exact hm) k
def mnS (iv : Iv) (lg c : Int32) : Int32 := if ¬ ((0 ≤ lg.toInt ∧ lg.toInt < (iv 0 0 6).toInt) ∧ (0 ≤ c.toInt ∧ c.toInt ≤ 5)) then -1 else if (iv 11 0 lg.toNatClampNeg).toInt = 0 then -5 else mtF iv lg.toNatClampNeg c.toNatClampNeg
theorem st_m {iv iv' : Iv} (h : MA iv iv') (l : Nat) : ∀ n : Nat, stN iv' l n = stN iv l n
  | 0 => by show (l, laF iv' l, _) = (l, laF iv l, _); rw [la_m h]
  | n + 1 => by
    show stp iv' (stN iv' l n) = stp iv (stN iv l n)
    rw [st_m h l n]; simp only [stp, hd_m h, ah_m h, bc_m h, h 14 _ (by decide)]
theorem mt_m {iv iv' : Iv} (h : MA iv iv') (l k : Nat) : mtF iv' l k = mtF iv l k := by unfold mtF; rw [st_m h]
theorem mnS_m {iv iv' : Iv} (h : MA iv iv') (l c : Int32) : mnS iv' l c = mnS iv l c := by simp only [mnS, mt_m h, h 0 _ (by decide), h 11 _ (by decide)]
theorem ma_fr {iv iv' : Iv} {md : Mo} (f : FR md iv iv') (hd : ∀ t, t < 49 → mdl t → t ∉ md.1 ∧ t ∉ md.2.map (fun p => p.1) := by decide) : MA iv iv' := fun t k ht => f.arr t 0 k (hd t ht.1 ht)
theorem MA.symm {iv iv' : Iv} (h : MA iv iv') : MA iv' iv := fun t k ht => (h t k ht).symm
theorem rw_0 {iv : Iv} {t x y : Int32} (e : x = iv 18 0 y.toNatClampNeg) (h : y.toInt = 4 * t.toInt) (h0 : 0 ≤ t.toInt) : x.toNatClampNeg = rwL iv t.toNatClampNeg 0 := by
  have c : y.toNatClampNeg = 4 * t.toNatClampNeg + 0 := by simp only [clamp_n]; omega
  rw [e, c]; rfl
def lfF (iv : Iv) (t : Nat) : Nat := if (msF iv t).toInt < 0 then thL iv t else if (iv 11 0 (rwL iv t (msF iv t).toNatClampNeg)).toInt = 0 then rwL iv t (msF iv t).toNatClampNeg else rwL iv t ((msF iv t).toNatClampNeg - 1)
def gcN (f : Nat → Int32) : Nat → Int32
  | 0 => 0
  | n + 1 => if (f (gcN f n).toNatClampNeg).toInt < (f (n + 1)).toInt then nI (n + 1) else gcN f n
def blF (iv : Iv) (t : Nat) : Int32 := if (iv 11 0 (lfF iv t)).toInt = 0 ∨ (laF iv (lfF iv t)).toInt = 0 then -9 else gcN (mtF iv (lfF iv t)) 5
def beS (iv : Iv) (t : Int32) : Int32 := if ¬ (0 ≤ t.toInt ∧ t.toInt < (iv 0 0 20).toInt) then -1 else blF iv t.toNatClampNeg
theorem gc_rng (f : Nat → Int32) : ∀ n : Nat, n ≤ 5 → 0 ≤ (gcN f n).toInt ∧ (gcN f n).toInt ≤ n
  | 0, _ => by show 0 ≤ (0 : Int32).toInt ∧ (0 : Int32).toInt ≤ _; decide
  | n + 1, hn => by
    have ih := gc_rng f n (by omega)
    show 0 ≤ (if (f (gcN f n).toNatClampNeg).toInt < (f (n + 1)).toInt then nI (n + 1) else gcN f n).toInt ∧ (if (f (gcN f n).toNatClampNeg).toInt < (f (n + 1)).toInt then nI (n + 1) else gcN f n).toInt ≤ _
    split
    · rw [nI_toInt (by omega)]; omega
    · omega
theorem gc_cong {f g : Nat → Int32} (h : ∀ k : Nat, k < 6 → f k = g k) : gcN f 5 = gcN g 5 := by
  have a : ∀ n : Nat, n ≤ 5 → gcN f n = gcN g n := by
    intro n
    induction n with
    | zero => intro _; rfl
    | succ n ih =>
      intro hn
      have r := gc_rng g n (by omega)
      show (if (f (gcN f n).toNatClampNeg).toInt < (f (n + 1)).toInt then nI (n + 1) else gcN f n) = (if (g (gcN g n).toNatClampNeg).toInt < (g (n + 1)).toInt then nI (n + 1) else gcN g n)
      rw [ih (by omega), h _ (show (gcN g n).toNatClampNeg < 6 by rw [clamp_n]; omega), h (n + 1) (by omega)]
  exact a 5 (Nat.le_refl _)
theorem gc_0 {f : Nat → Int32} : (0 : Int32) = gcN f ((1 : Int32).toNatClampNeg - 1) := by
  rw [show (1 : Int32).toNatClampNeg - 1 = 0 from by decide]; rfl
theorem gc_up {f : Nat → Int32} {b x y : Int32} (h : y.toInt = x.toInt + 1) (h0 : 0 ≤ x.toInt) (i : b = gcN f x.toNatClampNeg) : b = gcN f (y.toNatClampNeg - 1) := by
  rw [clamp_s h h0, Nat.add_sub_cancel]; exact i
theorem gc_y {f : Nat → Int32} {b c x y : Int32} (i : b = gcN f (c.toNatClampNeg - 1)) (ex : x = f c.toNatClampNeg) (ey : y = f b.toNatClampNeg) (h : y.toInt < x.toInt) (h1 : 1 ≤ c.toInt) (_ : c.toInt ≤ 5) : c = gcN f c.toNatClampNeg := by
  have e : c.toNatClampNeg = (c.toNatClampNeg - 1) + 1 := by rw [clamp_n]; omega
  have z := nat_of (x := c) (by omega)
  rw [e]
  show c = (if (f (gcN f (c.toNatClampNeg - 1)).toNatClampNeg).toInt < (f (c.toNatClampNeg - 1 + 1)).toInt then nI (c.toNatClampNeg - 1 + 1) else gcN f (c.toNatClampNeg - 1))
  rw [← i, ← e, ← ex, ← ey, if_pos h, z]
theorem gc_n {f : Nat → Int32} {b c x y : Int32} (i : b = gcN f (c.toNatClampNeg - 1)) (ex : x = f c.toNatClampNeg) (ey : y = f b.toNatClampNeg) (h : ¬ y.toInt < x.toInt) (h1 : 1 ≤ c.toInt) (_ : c.toInt ≤ 5) : b = gcN f c.toNatClampNeg := by
  have e : c.toNatClampNeg = (c.toNatClampNeg - 1) + 1 := by rw [clamp_n]; omega
  rw [e]
  show b = (if (f (gcN f (c.toNatClampNeg - 1)).toNatClampNeg).toInt < (f (c.toNatClampNeg - 1 + 1)).toInt then nI (c.toNatClampNeg - 1 + 1) else gcN f (c.toNatClampNeg - 1))
  rw [← i, ← e, ← ex, ← ey, if_neg h]
theorem gc_end {f : Nat → Int32} {x : Int32} (h : x.toInt = 6) : gcN f (x.toNatClampNeg - 1) = gcN f 5 := by
  have e : x.toNatClampNeg - 1 = 5 := by rw [clamp_n]; omega
  rw [e]
theorem ms_bad {iv : Iv} {t : Nat} : ∀ n : Nat, n ≤ 40 → 0 ≤ (msN iv t n).toInt → bad iv t (msN iv t n).toNatClampNeg ∧ (msN iv t n).toNatClampNeg < n := by
  intro n
  induction n with
  | zero => intro _ h; exact absurd h (by show ¬ 0 ≤ (-1 : Int32).toInt; decide)
  | succ n ih =>
    intro hn h
    have e : msN iv t (n + 1) = (if 0 ≤ (msN iv t n).toInt then msN iv t n else if bad iv t n then nI n else -1) := rfl
    by_cases q : 0 ≤ (msN iv t n).toInt
    · rw [if_pos q] at e; rw [e]
      have := ih (by omega) q
      exact ⟨this.1, by omega⟩
    · rw [if_neg q] at e
      by_cases w : bad iv t n
      · rw [if_pos w] at e; rw [e, nI_clamp (by omega)]; exact ⟨w, by omega⟩
      · rw [if_neg w] at e; rw [e] at h; exact absurd h (by decide)
theorem ms_pos {iv : Iv} {t : Nat} {i : Int32} (e : i = msF iv t) (h : 0 ≤ i.toInt) (hd : ¬ (iv 11 0 (rwL iv t i.toNatClampNeg)).toInt = 0) (h4 : (iv 19 0 t).toInt ≤ 40) : 0 < i.toInt := by
  have z := (ms_bad (iv := iv) (t := t) (iv 19 0 t).toNatClampNeg (by rw [clamp_n]; omega) (by show 0 ≤ (msF iv t).toInt; rw [← e]; exact h)).1
  have z' : bad iv t (msF iv t).toNatClampNeg := z
  rw [← e] at z'
  rcases z' with w | w
  · exact absurd w hd
  · have := w.1; rw [clamp_n] at this; omega
theorem lf_1 {iv : Iv} {t : Nat} {i s : Int32} (e : i = msF iv t) (h : i.toInt < 0) (hs : s.toNatClampNeg = thL iv t) : s.toNatClampNeg = lfF iv t := by
  unfold lfF; rw [← e, if_pos h]; exact hs
theorem lf_2 {iv : Iv} {t : Nat} {i a d s : Int32} (e : i = msF iv t) (h : 0 ≤ i.toInt) (hw : a.toNatClampNeg = rwL iv t i.toNatClampNeg) (ed : d = iv 11 0 a.toNatClampNeg) (hd : d.toInt = 0) (hs : s.toNatClampNeg = rwL iv t i.toNatClampNeg) : s.toNatClampNeg = lfF iv t := by
  rw [hw] at ed
  unfold lfF; rw [← e, if_neg (by omega), ← ed, if_pos hd]; exact hs
theorem lf_3 {iv : Iv} {t : Nat} {i a d s : Int32} (e : i = msF iv t) (h : 0 ≤ i.toInt) (hw : a.toNatClampNeg = rwL iv t i.toNatClampNeg) (ed : d = iv 11 0 a.toNatClampNeg) (hd : ¬ d.toInt = 0) (hs : s.toNatClampNeg = rwL iv t (i.toNatClampNeg - 1)) : s.toNatClampNeg = lfF iv t := by
  rw [hw] at ed
  unfold lfF; rw [← e, if_neg (by omega), ← ed, if_neg hd]; exact hs
theorem mpx_t {iv : Iv} {t : Nat} {r : Int32} (h : r = mpX iv t) : (r.toInt = -9 ∧ (msF iv t).toInt < 0) ∨ (r = msF iv t ∧ 0 ≤ r.toInt) := by
  unfold mpX at h
  by_cases q : (msF iv t).toInt < 0
  · rw [if_pos q] at h; exact Or.inl ⟨by rw [h]; decide, q⟩
  · rw [if_neg q] at h; exact Or.inr ⟨h, by rw [h]; omega⟩
theorem lfx_2 {iv : Iv} {t j : Nat} {r : Int32} (h : r = mpX iv t) (h0 : 0 ≤ r.toInt) (hd : (iv 11 0 (rwL iv t r.toNatClampNeg)).toInt = 0) (hj : j = rwL iv t r.toNatClampNeg) : some j = some (lfF iv t) := by
  rcases mpx_t h with ⟨a, -⟩ | ⟨a, -⟩
  · omega
  · unfold lfF; rw [← a, if_neg (by omega), if_pos hd, hj]
theorem lfx_4 {iv : Iv} {t j : Nat} {r : Int32} (h : r = mpX iv t) (h0 : 0 ≤ r.toInt) (hd : ¬ (iv 11 0 (rwL iv t r.toNatClampNeg)).toInt = 0) (hj : j = rwL iv t (r.toNatClampNeg - 1)) : some j = some (lfF iv t) := by
  rcases mpx_t h with ⟨a, -⟩ | ⟨a, -⟩
  · omega
  · unfold lfF; rw [← a, if_neg (by omega), if_neg hd, hj]
theorem lfx_3 {iv : Iv} {t j : Nat} {r : Int32} (h : r = mpX iv t) (h0 : r.toInt = 0) (h4 : (iv 19 0 t).toInt ≤ 40) (hj : j = rwL iv t r.toNatClampNeg) : some j = some (lfF iv t) := by
  rcases mpx_t h with ⟨a, -⟩ | ⟨a, -⟩
  · omega
  · refine lfx_2 h (by omega) ?_ hj
    by_cases hd : (iv 11 0 (rwL iv t r.toNatClampNeg)).toInt = 0
    · exact hd
    · have := ms_pos a (by omega) hd h4; omega
theorem lf_m {iv iv' : Iv} (h : MA iv iv') (t : Nat) : lfF iv' t = lfF iv t := by
  have ht : thL iv' t = thL iv t := by simp only [thL, h 18 _ (by decide), h 19 _ (by decide)]
  have hr : ∀ j, rwL iv' t j = rwL iv t j := fun j => by simp only [rwL, h 18 _ (by decide)]
  unfold lfF; rw [ms_m h, ht, hr, hr, h 11 _ (by decide)]
theorem bl_m {iv iv' : Iv} (h : MA iv iv') (t : Nat) : blF iv' t = blF iv t := by
  have e : mtF iv' (lfF iv t) = mtF iv (lfF iv t) := funext (fun k => mt_m h _ k)
  unfold blF; rw [lf_m h, la_m h, h 11 _ (by decide), e]
theorem beS_m {iv iv' : Iv} (h : MA iv iv') (t : Int32) : beS iv' t = beS iv t := by unfold beS; rw [bl_m h, h 0 _ (by decide)]
def M20 (iv iv' : Iv) : Prop := ∀ t i k, t ≠ 20 → iv' t i k = iv t i k
theorem fr20 {iv iv' : Iv} (h : FR ([20], []) iv iv') : M20 iv iv' := fun t i k ht => h t i k (by
  intro q
  rcases q with q | q
  · exact ht (List.mem_singleton.mp q)
  · cases q)
theorem rl_20 {iv iv' : Iv} (h : M20 iv iv') (l : Nat) : rlF iv' l = rlF iv l := by simp only [rlF, h 12 _ _ (by decide), h 4 _ _ (by decide), h 5 _ _ (by decide)]
theorem ra_20 {iv iv' : Iv} (h : M20 iv iv') (l : Nat) : raF iv' l = raF iv l := by simp only [raF, h 13 _ _ (by decide), h 4 _ _ (by decide), h 6 _ _ (by decide)]
theorem thL_20 {iv iv' : Iv} (h : M20 iv iv') (t : Nat) : thL iv' t = thL iv t := by simp only [thL, h 18 _ _ (by decide), h 19 _ _ (by decide)]
abbrev S0 (iv : Iv) (A T : Int) (l : Nat) : Prop := ¬ (iv 11 0 l).toInt = 0 ∧ (iv 5 0 l).toInt = A ∧ T ≤ (rlF iv l).toInt
abbrev Ed (iv : Iv) (a b : Nat) : Prop := ¬ (iv 11 0 b).toInt = 0 ∧ (iv 5 0 b).toInt = (iv 6 0 a).toInt ∧ (iv 15 0 2).toInt ≤ (rlF iv b - raF iv a).toInt
def Rch (iv : Iv) (A T : Int) (l : Nat) : Prop := ∀ S : Nat → Prop, (∀ k : Nat, (k : Int) < (iv 0 0 6).toInt → S0 iv A T k → S k) → (∀ a b : Nat, (a : Int) < (iv 0 0 6).toInt → (b : Int) < (iv 0 0 6).toInt → S a → Ed iv a b → S b) → S l
theorem Rch.s0 {iv : Iv} {A T : Int} {l : Nat} (hl : (l : Int) < (iv 0 0 6).toInt) (h : S0 iv A T l) : Rch iv A T l := fun _ h1 _ => h1 l hl h
theorem Rch.st {iv : Iv} {A T : Int} {a b : Nat} (ha : (a : Int) < (iv 0 0 6).toInt) (hb : (b : Int) < (iv 0 0 6).toInt) (h : Rch iv A T a) (e : Ed iv a b) : Rch iv A T b := fun S h1 h2 => h2 a b ha hb (h S h1 h2) e
noncomputable def sbN (iv : Iv) (P : Nat → Prop) (G : Int) : Nat → Int32
  | 0 => -9
  | n + 1 => @ite _ (P n ∧ (iv 6 0 n).toInt = G ∧ ((sbN iv P G n).toInt < 0 ∨ (raF iv n).toInt < (sbN iv P G n).toInt)) (Classical.propDecidable _) (raF iv n) (sbN iv P G n)
def stT (iv : Iv) (t : Nat) : Int := if (msF iv t).toNatClampNeg = 0 then (iv 9 0 (rwL iv t 0)).toInt else (raF iv (rwL iv t ((msF iv t).toNatClampNeg - 1))).toInt
noncomputable def soF (iv : Iv) (t : Nat) : Int32 := if (msF iv t).toInt < 0 then raF iv (thL iv t) else sbN iv (Rch iv (iv 5 0 (rwL iv t (msF iv t).toNatClampNeg)).toInt (stT iv t)) (iv 6 0 (thL iv t)).toInt (iv 0 0 6).toNatClampNeg
noncomputable def snS (iv : Iv) (t : Int32) : Int32 := if ¬ (0 ≤ t.toInt ∧ t.toInt < (iv 0 0 20).toInt) then -1 else soF iv t.toNatClampNeg
noncomputable def hoF (iv : Iv) (t : Nat) : Int32 := if (soF iv t).toInt < 0 then 9999 else oF (soF iv t - iv 10 0 (thL iv t))
noncomputable def hrS (iv : Iv) (t : Int32) : Int32 := if ¬ (0 ≤ t.toInt ∧ t.toInt < (iv 0 0 20).toInt) then -1 else hoF iv t.toNatClampNeg
theorem so_eq {iv : Iv} {n : Nat} {G A A' B B' : Int} (h : A = A') (hT : B = B') : sbN iv (Rch iv A B) G n = sbN iv (Rch iv A' B') G n := by rw [h, hT]
theorem ra_ge (iv : Iv) (l : Nat) : 0 ≤ (raF iv l).toInt := by
  unfold raF oF
  split
  · decide
  · omega
theorem so_i77 {iv iv1 iv2 : Iv} {A T : Int} {x y v : Int32} (h : ∀ k : Nat, (k : Int) < x.toInt → (¬ (iv1 20 0 k).toInt = 0 ↔ S0 iv A T k)) (e : iv2 = up3 iv1 20 0 x.toNatClampNeg v) (h0 : 0 ≤ x.toInt) (hy : y.toInt = x.toInt + 1) (hv : (v.toInt = 1 ∧ S0 iv A T x.toNatClampNeg) ∨ (v.toInt = 0 ∧ ¬ S0 iv A T x.toNatClampNeg)) : ∀ k : Nat, (k : Int) < y.toInt → (¬ (iv2 20 0 k).toInt = 0 ↔ S0 iv A T k) := fun k hk => by
  rw [e]
  by_cases q : k = x.toNatClampNeg
  · rw [q, up3_self]
    rcases hv with ⟨a, b⟩ | ⟨a, b⟩
    · exact ⟨fun _ => b, fun _ => by omega⟩
    · exact ⟨fun z => absurd a z, fun z => absurd z b⟩
  · rw [up3_ne (fun z => q z.2.2)]; exact h k (by have := ix_nat h0; omega)
def soJ (iv iv1 : Iv) (A T : Int) (m : Int32) (a b : Nat) : Prop := (∀ k : Nat, (k : Int) < (iv 0 0 6).toInt → S0 iv A T k → ¬ (iv1 20 0 k).toInt = 0) ∧ (∀ k : Nat, (k : Int) < (iv 0 0 6).toInt → ¬ (iv1 20 0 k).toInt = 0 → Rch iv A T k) ∧ (m.toInt = 0 → ∀ p q : Nat, (p : Int) < (iv 0 0 6).toInt → (q : Int) < (iv 0 0 6).toInt → (p < a ∨ (p = a ∧ q < b)) → ¬ (iv1 20 0 p).toInt = 0 → Ed iv p q → ¬ (iv1 20 0 q).toInt = 0)
theorem so_0 {iv iv1 : Iv} {A T : Int} {x : Int32} {a b : Nat} (h : ∀ k : Nat, (k : Int) < x.toInt → (¬ (iv1 20 0 k).toInt = 0 ↔ S0 iv A T k)) (hx : (iv 0 0 6).toInt ≤ x.toInt) : soJ iv iv1 A T 1 a b := ⟨fun k hk z => (h k (by omega)).mpr z, fun k hk z => Rch.s0 hk ((h k (by omega)).mp z), fun z => absurd z (by decide)⟩
theorem so_st {iv iv1 : Iv} {A T : Int} {m : Int32} {a b : Nat} (h : soJ iv iv1 A T m a b) : soJ iv iv1 A T 0 (0 : Int32).toNatClampNeg 0 := ⟨h.1, h.2.1, fun _ p q _ _ z => by
  rw [show (0 : Int32).toNatClampNeg = 0 from by decide] at z; omega⟩
theorem so_b0 {iv iv1 : Iv} {A T : Int} {m : Int32} {a : Nat} (h : soJ iv iv1 A T m a 0) : soJ iv iv1 A T m a (0 : Int32).toNatClampNeg := by
  rw [show (0 : Int32).toNatClampNeg = 0 from by decide]; exact h
theorem so_x162 {iv iv1 : Iv} {A T : Int} {m x y z : Int32} (h : soJ iv iv1 A T m x.toNatClampNeg z.toNatClampNeg) (hy : y.toInt = x.toInt + 1) (h0 : 0 ≤ x.toInt) (hz : (iv 0 0 6).toInt ≤ z.toInt) : soJ iv iv1 A T m y.toNatClampNeg 0 := ⟨h.1, h.2.1, fun hm p q hp hq w => h.2.2 hm p q hp hq (by
  rw [clamp_s hy h0] at w
  have c : z.toNatClampNeg = z.toInt.toNat := clamp_n
  omega)⟩
theorem so_x150 {iv iv1 : Iv} {A T : Int} {m x : Int32} (h : soJ iv iv1 A T m x.toNatClampNeg 0) (h0 : 0 ≤ x.toInt) (hx : (iv 0 0 6).toInt ≤ x.toInt) : soJ iv iv1 A T m (iv 0 0 6).toNatClampNeg 0 := ⟨h.1, h.2.1, fun hm p q hp hq w => h.2.2 hm p q hp hq (by
  have c : x.toNatClampNeg = x.toInt.toNat := clamp_n
  omega)⟩
theorem so_step {iv iv1 iv2 : Iv} {A T : Int} {m m' x y y' on v : Int32} (h : soJ iv iv1 A T m x.toNatClampNeg y.toNatClampNeg) (hx : 0 ≤ x.toInt) (hx2 : x.toInt < (iv 0 0 6).toInt) (hy : 0 ≤ y.toInt) (hy2 : y.toInt < (iv 0 0 6).toInt) (hy' : y'.toInt = y.toInt + 1)
    (ho : (on.toInt = 1 ∧ (¬ (iv1 20 0 x.toNatClampNeg).toInt = 0 ∧ (iv1 20 0 y.toNatClampNeg).toInt = 0 ∧ Ed iv x.toNatClampNeg y.toNatClampNeg)) ∨ (on.toInt = 0 ∧ ¬ (¬ (iv1 20 0 x.toNatClampNeg).toInt = 0 ∧ (iv1 20 0 y.toNatClampNeg).toInt = 0 ∧ Ed iv x.toNatClampNeg y.toNatClampNeg)))
    (hv : (v.toInt = 1 ∧ ((¬ (iv1 20 0 y.toNatClampNeg).toInt = 0) ∨ (¬ on.toInt = 0))) ∨ (v.toInt = 0 ∧ (iv1 20 0 y.toNatClampNeg).toInt = 0 ∧ on.toInt = 0)) (e : iv2 = up3 iv1 20 0 y.toNatClampNeg v)
    (hm : (m'.toInt = 1 ∧ ((¬ m.toInt = 0) ∨ (¬ on.toInt = 0))) ∨ (m'.toInt = 0 ∧ m.toInt = 0 ∧ on.toInt = 0)) : soJ iv iv2 A T m' x.toNatClampNeg y'.toNatClampNeg := by
  rw [clamp_s hy' hy]
  have cx := ix_nat hx
  have cy := ix_nat hy
  generalize x.toNatClampNeg = a at *
  generalize y.toNatClampNeg = b at *
  obtain ⟨h1, h2, h3⟩ := h
  have mono : ∀ k, ¬ (iv1 20 0 k).toInt = 0 → ¬ (iv2 20 0 k).toInt = 0 := fun k z => by
    rw [e]
    by_cases q : k = b
    · rw [q, up3_self]; rw [q] at z; omega
    · rw [up3_ne (fun w => q w.2.2)]; exact z
  refine ⟨fun k hk z => mono k (h1 k hk z), fun k hk z => ?_, fun hz p q hp hq w z ed => ?_⟩
  · by_cases q : k = b
    · rw [e, q, up3_self] at z
      rw [q]
      by_cases rb : (iv1 20 0 b).toInt = 0
      · have on1 : ¬ (iv1 20 0 a).toInt = 0 ∧ (iv1 20 0 b).toInt = 0 ∧ Ed iv a b := by
          rcases ho with ⟨-, o⟩ | ⟨o, -⟩
          · exact o
          · exfalso; omega
        exact Rch.st (by omega) (by omega) (h2 a (by omega) on1.1) on1.2.2
      · exact h2 b (by omega) rb
    · rw [e, up3_ne (fun w => q w.2.2)] at z; exact h2 k hk z
  · have m0 : m.toInt = 0 ∧ on.toInt = 0 := by omega
    have same : ∀ k, ¬ (iv2 20 0 k).toInt = 0 → ¬ (iv1 20 0 k).toInt = 0 := fun k z => by
      rw [e] at z
      by_cases q : k = b
      · rw [q, up3_self] at z; rw [q]; omega
      · rw [up3_ne (fun w => q w.2.2)] at z; exact z
    have zp := same p z
    by_cases c : p = a ∧ q = b
    · obtain ⟨rfl, rfl⟩ := c
      refine mono _ (fun rb => ?_)
      rcases ho with ⟨o, -⟩ | ⟨-, o⟩
      · omega
      · exact o ⟨zp, rb, ed⟩
    · exact mono _ (h3 m0.1 p q hp hq (by omega) zp ed)
theorem so_rc {iv iv1 : Iv} {A T : Int} {m : Int32} (h : soJ iv iv1 A T m (iv 0 0 6).toNatClampNeg 0) (hm : m.toInt = 0) : ∀ k : Nat, (k : Int) < (iv 0 0 6).toInt → (¬ (iv1 20 0 k).toInt = 0 ↔ Rch iv A T k) := fun k hk => ⟨h.2.1 k hk, fun r => by
  have z := r (fun l => (l : Int) < (iv 0 0 6).toInt → ¬ (iv1 20 0 l).toInt = 0) (fun l _ s hl => h.1 l hl s) (fun a b ha hb s ed _ => h.2.2 hm a b ha hb (Or.inl (by rw [clamp_n]; omega)) (s ha) ed)
  exact z hk⟩
theorem sb_0 {iv : Iv} {P : Nat → Prop} {G : Int} : (-9 : Int32) = sbN iv P G (0 : Int32).toNatClampNeg := by
  rw [show (0 : Int32).toNatClampNeg = 0 from by decide]; rfl
theorem sb_up {iv : Iv} {P : Nat → Prop} {G : Int} {b x y : Int32} (h : y.toInt = x.toInt + 1) (h0 : 0 ≤ x.toInt) (i : b = sbN iv P G (x.toNatClampNeg + 1)) : b = sbN iv P G y.toNatClampNeg := by rw [clamp_s h h0]; exact i
theorem sb_y {iv iv1 : Iv} {P : Nat → Prop} {G : Int} {b r x : Int32} (i : b = sbN iv P G x.toNatClampNeg) (hr : r = raF iv x.toNatClampNeg) (hrc : ∀ k : Nat, (k : Int) < (iv 0 0 6).toInt → (¬ (iv1 20 0 k).toInt = 0 ↔ P k)) (h0 : 0 ≤ x.toInt) (h1 : x.toInt < (iv 0 0 6).toInt) (h2 : ¬ (iv1 20 0 x.toNatClampNeg).toInt = 0) (h3 : (iv 6 0 x.toNatClampNeg).toInt = G) (h4 : b.toInt < 0 ∨ (raF iv x.toNatClampNeg).toInt < b.toInt) : r = sbN iv P G (x.toNatClampNeg + 1) := by
  show r = @ite _ _ (Classical.propDecidable _) _ _
  rw [if_pos ⟨(hrc _ (by rw [ix_nat h0]; exact h1)).mp h2, h3, by rw [← i]; exact h4⟩]; exact hr
theorem sb_n {iv iv1 : Iv} {P : Nat → Prop} {G : Int} {b x : Int32} (i : b = sbN iv P G x.toNatClampNeg) (hrc : ∀ k : Nat, (k : Int) < (iv 0 0 6).toInt → (¬ (iv1 20 0 k).toInt = 0 ↔ P k)) (h0 : 0 ≤ x.toInt) (h1 : x.toInt < (iv 0 0 6).toInt) (hn : ¬ ((¬ (iv1 20 0 x.toNatClampNeg).toInt = 0 ∧ (iv 6 0 x.toNatClampNeg).toInt = G) ∧ (b.toInt < 0 ∨ (raF iv x.toNatClampNeg).toInt < b.toInt))) : b = sbN iv P G (x.toNatClampNeg + 1) := by
  show b = @ite _ _ (Classical.propDecidable _) _ _
  rw [if_neg (fun z => hn ⟨⟨(hrc _ (by rw [ix_nat h0]; exact h1)).mpr z.1, z.2.1⟩, by rw [i]; exact z.2.2⟩)]; exact i
-- what sbN is
def sbC (iv : Iv) (P : Nat → Prop) (G : Int) (n : Nat) (r : Int32) : Prop := (r = -9 ∧ ∀ k : Nat, k < n → P k → ¬ (iv 6 0 k).toInt = G) ∨ ((∃ k : Nat, k < n ∧ P k ∧ (iv 6 0 k).toInt = G ∧ r = raF iv k) ∧ ∀ k : Nat, k < n → P k → (iv 6 0 k).toInt = G → r.toInt ≤ (raF iv k).toInt)
theorem sb_c {iv : Iv} {P : Nat → Prop} {G : Int} : ∀ n : Nat, sbC iv P G n (sbN iv P G n) := by
  intro n
  induction n with
  | zero => exact Or.inl ⟨rfl, fun k hk => absurd hk (Nat.not_lt_zero _)⟩
  | succ n ih =>
    have e : sbN iv P G (n + 1) = @ite _ (P n ∧ (iv 6 0 n).toInt = G ∧ ((sbN iv P G n).toInt < 0 ∨ (raF iv n).toInt < (sbN iv P G n).toInt)) (Classical.propDecidable _) (raF iv n) (sbN iv P G n) := rfl
    generalize sbN iv P G n = b at ih e
    by_cases c : P n ∧ (iv 6 0 n).toInt = G ∧ (b.toInt < 0 ∨ (raF iv n).toInt < b.toInt)
    · rw [if_pos c] at e; rw [e]
      refine Or.inr ⟨⟨n, Nat.lt_succ_self _, c.1, c.2.1, rfl⟩, fun k hk hp hg => ?_⟩
      by_cases q : k = n
      · rw [q]; exact Int.le_refl _
      · rcases ih with ⟨rfl, i2⟩ | ⟨⟨k', a1, a2, a3, a4⟩, i2⟩
        · exact absurd hg (i2 k (by omega) hp)
        · have := i2 k (by omega) hp hg
          have r0 := ra_ge iv k'
          rw [← a4] at r0
          omega
    · rw [if_neg c] at e; rw [e]
      rcases ih with ⟨i1, i2⟩ | ⟨⟨k', a1, a2, a3, a4⟩, i2⟩
      · refine Or.inl ⟨i1, fun k hk hp hg => ?_⟩
        by_cases q : k = n
        · exact c ⟨by rw [← q]; exact hp, by rw [← q]; exact hg, Or.inl (by rw [i1]; decide)⟩
        · exact i2 k (by omega) hp hg
      · refine Or.inr ⟨⟨k', by omega, a2, a3, a4⟩, fun k hk hp hg => ?_⟩
        by_cases q : k = n
        · rw [q] at hp hg ⊢
          have : ¬ (b.toInt < 0 ∨ (raF iv n).toInt < b.toInt) := fun z => c ⟨hp, hg, z⟩
          omega
        · exact i2 k (by omega) hp hg
theorem sb_uni {iv : Iv} {P : Nat → Prop} {G : Int} {n : Nat} {r s : Int32} (h : sbC iv P G n r) (g : sbC iv P G n s) : r = s := by
  rcases h with ⟨h1, h2⟩ | ⟨⟨k, a1, a2, a3, a4⟩, h2⟩ <;> rcases g with ⟨g1, g2⟩ | ⟨⟨j, b1, b2, b3, b4⟩, g2⟩
  · rw [h1, g1]
  · exact absurd b3 (h2 j b1 b2)
  · exact absurd a3 (g2 k a1 a2)
  · have u := h2 j b1 b2 b3
    have w := g2 k a1 a2 a3
    rw [← b4] at u
    rw [← a4] at w
    exact (fa_eq _ _).mpr (by omega)
theorem thL_m {iv iv' : Iv} (h : MA iv iv') (t : Nat) : thL iv' t = thL iv t := by simp only [thL, h 18 _ (by decide), h 19 _ (by decide)]
theorem rwL_m {iv iv' : Iv} (h : MA iv iv') (t j : Nat) : rwL iv' t j = rwL iv t j := by simp only [rwL, h 18 _ (by decide)]
theorem rch_m {iv iv' : Iv} (h : MA iv iv') (A T : Int) : Rch iv' A T = Rch iv A T := by
  funext l
  unfold Rch
  simp only [S0, Ed, rl_m h, ra_m h, h 0 _ (by decide), h 11 _ (by decide), h 5 _ (by decide), h 6 _ (by decide), h 15 _ (by decide)]
theorem sbN_m {iv iv' : Iv} (h : MA iv iv') (P : Nat → Prop) (G : Int) : ∀ n : Nat, sbN iv' P G n = sbN iv P G n
  | 0 => rfl
  | n + 1 => by
    show @ite _ (P n ∧ (iv' 6 0 n).toInt = G ∧ ((sbN iv' P G n).toInt < 0 ∨ (raF iv' n).toInt < (sbN iv' P G n).toInt)) (Classical.propDecidable _) (raF iv' n) (sbN iv' P G n) = @ite _ (P n ∧ (iv 6 0 n).toInt = G ∧ ((sbN iv P G n).toInt < 0 ∨ (raF iv n).toInt < (sbN iv P G n).toInt)) (Classical.propDecidable _) (raF iv n) (sbN iv P G n)
    rw [sbN_m h P G n, ra_m h, h 6 _ (by decide)]
theorem stT_m {iv iv' : Iv} (h : MA iv iv') (t : Nat) : stT iv' t = stT iv t := by
  unfold stT; rw [ms_m h, ra_m h, rwL_m h, rwL_m h, h 9 _ (by decide)]
theorem so_m {iv iv' : Iv} (h : MA iv iv') (t : Nat) : soF iv' t = soF iv t := by
  unfold soF; rw [ms_m h, ra_m h, thL_m h, stT_m h, rwL_m h, sbN_m h, rch_m h, h 5 _ (by decide), h 6 _ (by decide), h 0 _ (by decide)]
theorem ho_m {iv iv' : Iv} (h : MA iv iv') (t : Nat) : hoF iv' t = hoF iv t := by
  unfold hoF; rw [so_m h, thL_m h, h 10 _ (by decide)]
theorem snS_m {iv iv' : Iv} (h : MA iv iv') (t : Int32) : snS iv' t = snS iv t := by unfold snS; rw [so_m h, h 0 _ (by decide)]
theorem hrS_m {iv iv' : Iv} (h : MA iv iv') (t : Int32) : hrS iv' t = hrS iv t := by unfold hrS; rw [ho_m h, h 0 _ (by decide)]
end
section
def inR (T : List Nat) (F : List (Nat × Nat)) (t k : Nat) : Prop := t ∈ T ∨ (t, k) ∈ F
abbrev RC (T : List Nat) (F : List (Nat × Nat)) (md : Mo) : Prop := (∀ t, t ∈ T → t ∉ md.1 ∧ t ∉ md.2.map (fun p => p.1)) ∧ (∀ q, q ∈ F → ¬ MD md q.1 q.2)
def KP (T : List Nat) (F : List (Nat × Nat)) (al : Al) (iv : Iv) (rv : Rv) (iv' : Iv) (rv' : Rv) : Prop := ∀ t i k, i < al.1 t → inR T F t k → iv' t i k = iv t i k ∧ rv' t i k = rv t i k
theorem RC.no {T : List Nat} {F : List (Nat × Nat)} {md : Mo} (h : RC T F md) {t k : Nat} (q : inR T F t k) : ¬ MD md t k := q.elim (fun z => MD.no (h.1 t z)) (fun z => h.2 _ z)
theorem KP.two {T : List Nat} {F : List (Nat × Nat)} {al al1 : Al} {iv iv1 iv2 : Iv} {rv rv1 rv2 : Rv} {m1 m2 : Mo} (x1 : EX m1 al iv rv al1 iv1 rv1) (f2 : FR m2 iv1 iv2) (g2 : FR m2 rv1 rv2) (h1 : RC T F m1) (h2 : RC T F m2) : KP T F al iv rv iv2 rv2 := fun t i k hi q => by
  rw [f2 t i k (h2.no q), g2 t i k (h2.no q)]; exact x1.2.2 t i k hi (h1.no q)
theorem KP.fr {T : List Nat} {F : List (Nat × Nat)} {al : Al} {iv iv' : Iv} {rv rv' : Rv} {m : Mo} (f : FR m iv iv') (g : FR m rv rv') (h : RC T F m) : KP T F al iv rv iv' rv' := fun t i k _ q => ⟨f t i k (h.no q), g t i k (h.no q)⟩
theorem KP.ex {T : List Nat} {F : List (Nat × Nat)} {al al1 : Al} {iv iv' : Iv} {rv rv' : Rv} {m : Mo} (x : EX m al iv rv al1 iv' rv') (h : RC T F m) : KP T F al iv rv iv' rv' := fun t i k hi q => x.2.2 t i k hi (h.no q)
def Cset (iv : Iv) (rv : Rv) : Prop := ∀ k : Nat, k < 4 → iv 15 0 k = iv 50 0 k
abbrev T_Cset : List Nat := [15, 50]
abbrev F_Cset : List (Nat × Nat) := []
theorem Cset.keep {al : Al} {iv iv' : Iv} {rv rv' : Rv} (h : Cset iv rv) (hG : GI al iv rv) (e : KP T_Cset F_Cset al iv rv iv' rv') : Cset iv' rv' := by
  intro k hk
  rw [(e 15 0 k (h1_15 hG) (Or.inl (by decide))).1, (e 50 0 k (h1_50 hG) (Or.inl (by decide))).1]; exact h k hk
def Cbar (iv : Iv) (rv : Rv) : Prop := ∀ k : Nat, k < 4 → iv 31 0 k = iv 80 0 k
abbrev T_Cbar : List Nat := [31, 80]
abbrev F_Cbar : List (Nat × Nat) := []
theorem Cbar.keep {al : Al} {iv iv' : Iv} {rv rv' : Rv} (h : Cbar iv rv) (hG : GI al iv rv) (e : KP T_Cbar F_Cbar al iv rv iv' rv') : Cbar iv' rv' := by
  intro k hk
  rw [(e 31 0 k (h1_31 hG) (Or.inl (by decide))).1, (e 80 0 k (h1_80 hG) (Or.inl (by decide))).1]; exact h k hk
def Cport (iv : Iv) (rv : Rv) : Prop := ∀ k : Nat, k < 10 → iv 3 0 k = iv 56 k 2 ∧ iv 4 0 k = iv 56 k 3
abbrev T_Cport : List Nat := [3, 4]
abbrev F_Cport : List (Nat × Nat) := [(56, 2), (56, 3)]
theorem Cport.keep {al : Al} {iv iv' : Iv} {rv rv' : Rv} (h : Cport iv rv) (hG : GI al iv rv) (e : KP T_Cport F_Cport al iv rv iv' rv') : Cport iv' rv' := by
  intro k hk
  have i6 : k < al.1 56 := by rw [hG.2.2.1.2.1]; exact hk
  rw [(e 3 0 k (h1_3 hG) (Or.inl (by decide))).1, (e 4 0 k (h1_4 hG) (Or.inl (by decide))).1, (e 56 k 2 i6 (Or.inr (by decide))).1, (e 56 k 3 i6 (Or.inr (by decide))).1]; exact h k hk
theorem spSeen_ok {a b v : Int32} (h : spSeen a b v = 0) : a.toNatClampNeg < 10 ∧ b.toNatClampNeg < 10 := by
  unfold spSeen at h
  by_cases q : ¬ ((0 ≤ a.toInt ∧ a.toInt ≤ 9) ∧ (0 ≤ b.toInt ∧ b.toInt ≤ 9) ∧ ¬ a.toInt = b.toInt)
  · rw [if_pos q] at h; exact absurd h (by decide)
  · rw [clamp_n, clamp_n]; omega
theorem seL_cong {L M : Nat → Int32} {a b k : Nat} (ha : L a = M a) (hb : L b = M b) (hk : L k = M k) : seL L a b k = seL M a b k := by unfold seL; rw [ha, hb, hk]
theorem seO_cong {L M O P : Nat → Int32} {a b k : Nat} {v : Int32} (ha : L a = M a) (hb : L b = M b) (hk : L k = M k) (oa : O a = P a) (ob : O b = P b) (ok : O k = P k) : seO L O a b v k = seO M P a b v k := by unfold seO; rw [ha, hb, hk, oa, ob, ok]
theorem port_s {iv iv1 iv2 : Iv} {rv rv2 : Rv} {a b by_ r1 r2 : Int32} {C1 C2 : Prop} (h : Cport iv rv)
    (p1 : (spSeen a b by_ = 0 ∧ tkP iv iv1 a.toNatClampNeg b.toNatClampNeg by_ r1 ∧ C1) ∨ (spSeen a b by_ ≠ 0 ∧ r1 = spSeen a b by_ ∧ (∀ k : Nat, iv1 56 k 2 = iv 56 k 2 ∧ iv1 56 k 3 = iv 56 k 3) ∧ C2))
    (p2 : (spSeen a b by_ = 0 ∧ tkM iv1 iv2 a.toNatClampNeg b.toNatClampNeg by_ r2) ∨ (spSeen a b by_ ≠ 0 ∧ r2 = spSeen a b by_ ∧ ∀ k : Nat, iv2 3 0 k = iv1 3 0 k ∧ iv2 4 0 k = iv1 4 0 k))
    (m3 : ∀ k, iv1 3 0 k = iv 3 0 k) (m4 : ∀ k, iv1 4 0 k = iv 4 0 k) (m6 : ∀ k, iv2 56 k 2 = iv1 56 k 2 ∧ iv2 56 k 3 = iv1 56 k 3) : Cport iv2 rv2 := by
  intro k hk
  rw [(m6 k).1, (m6 k).2]
  rcases p1 with ⟨o1, w1, -⟩ | ⟨o1, -, w1, -⟩ <;> rcases p2 with ⟨o2, w2⟩ | ⟨o2, -, w2⟩
  · obtain ⟨la, lb⟩ := spSeen_ok o1
    have ea := h _ la
    have eb := h _ lb
    have ek := h k hk
    rcases w1 with ⟨c1, -, w1⟩ | ⟨c1, -, w1⟩ <;> rcases w2 with ⟨c2, -, w2⟩ | ⟨c2, -, w2⟩
    · rw [(w2 k).1, (w2 k).2, (w1 k).1, (w1 k).2, m3, m4]; exact ek
    · rw [m3, m3, ea.1, eb.1] at c2; exact absurd c1 c2
    · rw [m3, m3, ea.1, eb.1] at c2; exact absurd c2 c1
    · rw [(w2 k hk).1, (w2 k hk).2, (w1 k hk).1, (w1 k hk).2]
      simp only [m3, m4]
      exact ⟨seL_cong ea.1 eb.1 ek.1, seO_cong ea.1 eb.1 ek.1 ea.2 eb.2 ek.2⟩
  · exact absurd o1 o2
  · exact absurd o2 o1
  · rw [(w2 k).1, (w2 k).2, (w1 k).1, (w1 k).2, m3, m4]; exact h k hk
theorem seen_ans {iv iv1 iv2 : Iv} {rv : Rv} {a b by_ r1 r2 : Int32} {C1 C2 K : Prop} (h : Cport iv rv)
    (p1 : (spSeen a b by_ = 0 ∧ tkP iv iv1 a.toNatClampNeg b.toNatClampNeg by_ r1 ∧ C1) ∨ (spSeen a b by_ ≠ 0 ∧ r1 = spSeen a b by_ ∧ C2))
    (p2 : (spSeen a b by_ = 0 ∧ tkM iv1 iv2 a.toNatClampNeg b.toNatClampNeg by_ r2) ∨ (spSeen a b by_ ≠ 0 ∧ r2 = spSeen a b by_ ∧ K))
    (m3 : ∀ k, iv1 3 0 k = iv 3 0 k) (m4 : ∀ k, iv1 4 0 k = iv 4 0 k) : r1 = r2 := by
  rcases p1 with ⟨o1, w1, -⟩ | ⟨o1, w1, -⟩ <;> rcases p2 with ⟨o2, w2⟩ | ⟨o2, w2, -⟩
  · obtain ⟨la, lb⟩ := spSeen_ok o1
    have ea := h _ la
    have eb := h _ lb
    refine (fa_eq _ _).mpr ?_
    rcases w1 with ⟨c1, q1, -⟩ | ⟨c1, q1, -⟩ <;> rcases w2 with ⟨c2, q2, -⟩ | ⟨c2, q2, -⟩
    · rw [q1, q2, m4, m4, ea.2, eb.2]
    · rw [m3, m3, ea.1, eb.1] at c2; exact absurd c1 c2
    · rw [m3, m3, ea.1, eb.1] at c2; exact absurd c2 c1
    · rw [q1, q2]
  · exact absurd o1 o2
  · exact absurd o2 o1
  · rw [w1, w2]
theorem spSeen_v {a b v : Int32} (h : spSeen a b v = 0) : -600 ≤ v.toInt ∧ v.toInt ≤ 600 := by
  unfold spSeen at h
  by_cases q : ¬ ((0 ≤ a.toInt ∧ a.toInt ≤ 9) ∧ (0 ≤ b.toInt ∧ b.toInt ≤ 9) ∧ ¬ a.toInt = b.toInt)
  · rw [if_pos q] at h; exact absurd h (by decide)
  · rw [if_neg q] at h
    by_cases q2 : v.toInt < -600
    · rw [if_pos q2] at h; exact absurd h (by decide)
    · rw [if_neg q2] at h
      by_cases q3 : 600 < v.toInt
      · rw [if_pos q3] at h; exact absurd h (by decide)
      · omega
def Clegn (iv : Iv) (rv : Rv) : Prop := iv 0 0 6 = iv 57 0 1
abbrev T_Clegn : List Nat := []
abbrev F_Clegn : List (Nat × Nat) := [(0, 6), (57, 1)]
theorem Clegn.keep {al : Al} {iv iv' : Iv} {rv rv' : Rv} (h : Clegn iv rv) (hG : GI al iv rv) (e : KP T_Clegn F_Clegn al iv rv iv' rv') : Clegn iv' rv' := by
  unfold Clegn
  rw [(e 0 0 6 (h1_0 hG) (Or.inr (by decide))).1, (e 57 0 1 (h1_57 hG) (Or.inr (by decide))).1]; exact h
theorem two_cases {S : Int32} {A K B L : Prop} (p1 : (S = 0 ∧ A) ∨ (S ≠ 0 ∧ K)) (p2 : (S = 0 ∧ B) ∨ (S ≠ 0 ∧ L)) : (S = 0 ∧ A ∧ B) ∨ (S ≠ 0 ∧ K ∧ L) := by
  rcases p1 with ⟨o1, a⟩ | ⟨o1, a⟩ <;> rcases p2 with ⟨o2, b⟩ | ⟨o2, b⟩
  · exact Or.inl ⟨o1, a, b⟩
  · exact absurd o1 o2
  · exact absurd o2 o1
  · exact Or.inr ⟨o1, a, b⟩
theorem legIv_v {iv : Iv} {n : Nat} {num pl cr lv_ ar siz : Int32} : legIv iv n num pl cr lv_ ar siz 62 n 0 = num ∧ legIv iv n num pl cr lv_ ar siz 62 n 3 = pl ∧ legIv iv n num pl cr lv_ ar siz 62 n 4 = cr ∧ legIv iv n num pl cr lv_ ar siz 62 n 5 = lv_ ∧ legIv iv n num pl cr lv_ ar siz 62 n 6 = ar := by
  refine ⟨?_, ?_, ?_, ?_, ?_⟩ <;> simp [legIv, up3]
theorem legIv_blank {iv : Iv} {n : Nat} {num pl cr lv_ ar siz : Int32} {k : Nat} (h : 7 ≤ k) : legIv iv n num pl cr lv_ ar siz 62 n k = 0 := by
  unfold legIv
  rw [up3_ne (fun z => absurd z.1 (by decide)), up3_ne (fun z => by have := z.2.2; omega), up3_ne (fun z => by have := z.2.2; omega), up3_ne (fun z => by have := z.2.2; omega), up3_ne (fun z => by have := z.2.2; omega), up3_ne (fun z => by have := z.2.2; omega), clr_self]
theorem legRv_v {rv : Rv} {n pf pt_ : Nat} : legRv rv n pf pt_ 62 n 1 = some pf ∧ legRv rv n pf pt_ 62 n 2 = some pt_ := by
  refine ⟨?_, ?_⟩ <;> simp [legRv, up3]
def lfk (iv : Iv) (rv : Rv) (k : Nat) : Prop := rv 62 k 1 = some (iv 5 0 k).toNatClampNeg ∧ rv 62 k 2 = some (iv 6 0 k).toNatClampNeg ∧ iv 7 0 k = iv 62 k 3 ∧ iv 8 0 k = iv 62 k 4 ∧ iv 9 0 k = iv 62 k 5 ∧ iv 10 0 k = iv 62 k 6 ∧ (iv 62 k 0).toInt = k
theorem lfk_cong {iv iv' : Iv} {rv rv' : Rv} {k : Nat} (h : lfk iv rv k) (hm : ∀ t, 5 ≤ t → t ≤ 10 → iv' t 0 k = iv t 0 k) (hx : ∀ f, f ≤ 6 → iv' 62 k f = iv 62 k f) (hr : ∀ f, 1 ≤ f → f ≤ 2 → rv' 62 k f = rv 62 k f) : lfk iv' rv' k := by
  unfold lfk
  rw [hm 5 (by decide) (by decide), hm 6 (by decide) (by decide), hm 7 (by decide) (by decide), hm 8 (by decide) (by decide), hm 9 (by decide) (by decide), hm 10 (by decide) (by decide), hx 0 (by decide), hx 3 (by decide), hx 4 (by decide), hx 5 (by decide), hx 6 (by decide), hr 1 (by decide) (by decide), hr 2 (by decide) (by decide)]
  exact h
def Clegf (iv : Iv) (rv : Rv) : Prop := ∀ k : Nat, (k : Int) < (iv 57 0 1).toInt → lfk iv rv k
abbrev T_Clegf : List Nat := [5, 6, 7, 8, 9, 10]
abbrev F_Clegf : List (Nat × Nat) := [(57, 1), (62, 0), (62, 1), (62, 2), (62, 3), (62, 4), (62, 5), (62, 6)]
theorem Clegf.keep {al : Al} {iv iv' : Iv} {rv rv' : Rv} (h : Clegf iv rv) (hG : GI al iv rv) (e : KP T_Clegf F_Clegf al iv rv iv' rv') : Clegf iv' rv' := by
  intro k hk
  rw [(e 57 0 1 (h1_57 hG) (Or.inr (by decide))).1] at hk
  have i : k < al.1 62 := by have := hG.2.2.2.1.2; omega
  refine lfk_cong (h k hk) (fun t h1 h2 => ?_) (fun f hf => ?_) (fun f h1 h2 => ?_)
  · exact (e t 0 k (by rw [hG.2.2.1.1 t ((by decide : ∀ t, t ≤ 10 → t ∈ sng) t h2)]; decide) (Or.inl ((by decide : ∀ t, t ≤ 10 → 5 ≤ t → t ∈ T_Clegf) t h2 h1))).1
  · exact (e 62 k f i (Or.inr ((by decide : ∀ f, f ≤ 6 → (62, f) ∈ F_Clegf) f hf))).1
  · exact (e 62 k f i (Or.inr ((by decide : ∀ f, f ≤ 6 → (62, f) ∈ F_Clegf) f (by omega)))).2
def Clog (iv : Iv) (rv : Rv) : Prop := (∀ k : Nat, (k : Int) < (iv 57 0 1).toInt → iv 11 0 k = iv 62 k 7 ∧ iv 12 0 k = iv 62 k 8 ∧ iv 13 0 k = iv 62 k 9) ∧ (∀ k : Nat, (iv 57 0 1).toInt ≤ k → iv 11 0 k = 0 ∧ iv 12 0 k = 0 ∧ iv 13 0 k = 0)
abbrev T_Clog : List Nat := [11, 12, 13]
abbrev F_Clog : List (Nat × Nat) := [(57, 1), (62, 7), (62, 8), (62, 9)]
theorem Clog.keep {al : Al} {iv iv' : Iv} {rv rv' : Rv} (h : Clog iv rv) (hG : GI al iv rv) (e : KP T_Clog F_Clog al iv rv iv' rv') : Clog iv' rv' := by
  have e1 : ∀ k, iv' 11 0 k = iv 11 0 k ∧ iv' 12 0 k = iv 12 0 k ∧ iv' 13 0 k = iv 13 0 k := fun k => ⟨(e 11 0 k (h1_11 hG) (Or.inl (by decide))).1, (e 12 0 k (h1_12 hG) (Or.inl (by decide))).1, (e 13 0 k (h1_13 hG) (Or.inl (by decide))).1⟩
  have n := hG.2.2.2.1.2
  refine ⟨fun k hk => ?_, fun k hk => ?_⟩
  · rw [(e 57 0 1 (h1_57 hG) (Or.inr (by decide))).1] at hk
    have i : k < al.1 62 := by omega
    rw [(e1 k).1, (e1 k).2.1, (e1 k).2.2, (e 62 k 7 i (Or.inr (by decide))).1, (e 62 k 8 i (Or.inr (by decide))).1, (e 62 k 9 i (Or.inr (by decide))).1]; exact h.1 k hk
  · rw [(e 57 0 1 (h1_57 hG) (Or.inr (by decide))).1] at hk
    rw [(e1 k).1, (e1 k).2.1, (e1 k).2.2]; exact h.2 k hk
theorem spLog_ok {g a b : Int32} {n : Int} (h : spLog g a b n = 0) : 0 ≤ g.toInt ∧ g.toInt < n := by
  unfold spLog at h
  by_cases q : ¬ (0 ≤ g.toInt ∧ g.toInt < n)
  · rw [if_pos q] at h; exact absurd h (by decide)
  · exact ⟨by omega, by omega⟩
theorem crk_c3 {al : Al} {iv iv' : Iv} {rv rv' : Rv} (hG : GI al iv rv) (hf : Clegf iv rv) {k : Nat} (hk : k < al.1 62) (hp : ∀ i, i < al.1 56 → iv' 56 i 3 = iv 56 i 3) (xo : ∀ f, iv' 62 k f = iv 62 k f ∧ rv' 62 k f = rv 62 k f) (c : crk iv rv k) : crk iv' rv' k := by
  obtain ⟨a, b, -⟩ := hf k (by rw [hG.2.2.2.1.2]; omega)
  have h1 := (hG.2.1 62 k 1 56 hk (by decide) rfl).1 _ a
  have h2 := (hG.2.1 62 k 2 56 hk (by decide) rfl).1 _ b
  obtain ⟨c1, c2, c3, c4⟩ := c
  unfold crk xrl xra at *
  rw [(xo 5).1, (xo 6).1, (xo 8).1, (xo 9).1, (xo 10).1, (xo 11).1, (xo 12).1, (xo 13).1, (xo 1).2, (xo 2).2]
  rw [a, b] at *
  simp only [Option.getD_some] at *
  rw [hp _ h1, hp _ h2]
  exact ⟨c1, c2, c3, c4⟩
theorem crk_c2 {al : Al} {iv iv' : Iv} {rv rv' : Rv} (hG : GI al iv rv) {k : Nat} (hk : k < al.1 62) (c : crk iv rv k) (e : KP [] [(57, 1), (56, 3), (62, 1), (62, 2), (62, 5), (62, 6), (62, 7), (62, 8), (62, 9), (62, 10), (62, 11), (62, 12), (62, 13)] al iv rv iv' rv') : crk iv' rv' k := by
  have x : ∀ f, (62, f) ∈ ([(57, 1), (56, 3), (62, 1), (62, 2), (62, 5), (62, 6), (62, 7), (62, 8), (62, 9), (62, 10), (62, 11), (62, 12), (62, 13)] : List (Nat × Nat)) → iv' 62 k f = iv 62 k f ∧ rv' 62 k f = rv 62 k f := fun f q => e 62 k f hk (Or.inr q)
  obtain ⟨p1, q1⟩ := (hG.2.1 62 k 1 56 hk (by decide) rfl).2 rfl
  obtain ⟨p2, q2⟩ := (hG.2.1 62 k 2 56 hk (by decide) rfl).2 rfl
  have h1 := (hG.2.1 62 k 1 56 hk (by decide) rfl).1 _ q1
  have h2 := (hG.2.1 62 k 2 56 hk (by decide) rfl).1 _ q2
  obtain ⟨c1, c2, c3, c4⟩ := c
  unfold crk xrl xra at *
  rw [(x 5 (by decide)).1, (x 6 (by decide)).1, (x 8 (by decide)).1, (x 9 (by decide)).1, (x 10 (by decide)).1, (x 11 (by decide)).1, (x 12 (by decide)).1, (x 13 (by decide)).1, (x 1 (by decide)).2, (x 2 (by decide)).2]
  rw [q1, q2] at *
  simp only [Option.getD_some] at *
  rw [(e 56 p1 3 h1 (Or.inr (by decide))).1, (e 56 p2 3 h2 (Or.inr (by decide))).1]
  exact ⟨c1, c2, c3, c4⟩
def Crt (iv : Iv) (rv : Rv) : Prop := CRT iv rv
abbrev T_Crt : List Nat := []
abbrev F_Crt : List (Nat × Nat) := [(57, 1), (56, 3), (62, 1), (62, 2), (62, 5), (62, 6), (62, 7), (62, 8), (62, 9), (62, 10), (62, 11), (62, 12), (62, 13)]
theorem Crt.keep {al : Al} {iv iv' : Iv} {rv rv' : Rv} (h : Crt iv rv) (hG : GI al iv rv) (e : KP T_Crt F_Crt al iv rv iv' rv') : Crt iv' rv' := by
  intro k hk hz
  rw [(e 57 0 1 (h1_57 hG) (Or.inr (by decide))).1] at hk
  have i : k < al.1 62 := by have := hG.2.2.2.1.2; omega
  rw [(e 62 k 7 i (Or.inr (by decide))).1] at hz
  exact crk_c2 hG i (h k hk hz) e
def Ctkn (iv : Iv) (rv : Rv) : Prop := iv 0 0 20 = iv 63 0 1
abbrev T_Ctkn : List Nat := []
abbrev F_Ctkn : List (Nat × Nat) := [(0, 20), (63, 1)]
theorem Ctkn.keep {al : Al} {iv iv' : Iv} {rv rv' : Rv} (h : Ctkn iv rv) (hG : GI al iv rv) (e : KP T_Ctkn F_Ctkn al iv rv iv' rv') : Ctkn iv' rv' := by
  unfold Ctkn
  rw [(e 0 0 20 (h1_0 hG) (Or.inr (by decide))).1, (e 63 0 1 (h1_63 hG) (Or.inr (by decide))).1]; exact h
def tkk (iv : Iv) (rv : Rv) (t : Nat) : Prop := iv 19 0 t = iv 65 t 4 ∧ 1 ≤ (iv 65 t 4).toInt ∧ (∀ j : Nat, (j : Int) < (iv 65 t 4).toInt → rv 66 t j = some (iv 18 0 (4 * t + j)).toNatClampNeg) ∧ rv 65 t 1 = some (iv 18 0 (4 * t)).toNatClampNeg ∧ rv 65 t 2 = some (iv 18 0 (4 * t + (iv 65 t 4).toNatClampNeg - 1)).toNatClampNeg ∧ (iv 65 t 0).toInt = t
theorem tkk_cong {iv iv' : Iv} {rv rv' : Rv} {t : Nat} (h : tkk iv rv t) (h4 : (iv 65 t 4).toInt ≤ 4) (m18 : ∀ j, j < 4 → iv' 18 0 (4 * t + j) = iv 18 0 (4 * t + j)) (m19 : iv' 19 0 t = iv 19 0 t) (x0 : iv' 65 t 0 = iv 65 t 0) (x4 : iv' 65 t 4 = iv 65 t 4) (r66 : ∀ j, rv' 66 t j = rv 66 t j) (r1 : rv' 65 t 1 = rv 65 t 1) (r2 : rv' 65 t 2 = rv 65 t 2) : tkk iv' rv' t := by
  obtain ⟨a, b, c, d, e, f⟩ := h
  have cl : (iv 65 t 4).toNatClampNeg = (iv 65 t 4).toInt.toNat := clamp_n
  refine ⟨by rw [m19, x4]; exact a, by rw [x4]; exact b, fun j hj => ?_, ?_, ?_, by rw [x0]; exact f⟩
  · rw [x4] at hj; rw [r66, m18 j (by omega)]; exact c j hj
  · have := m18 0 (by decide)
    rw [Nat.add_zero] at this
    rw [r1, this]; exact d
  · rw [r2, x4, e]
    have := m18 ((iv 65 t 4).toNatClampNeg - 1) (by omega)
    rw [show 4 * t + (iv 65 t 4).toNatClampNeg - 1 = 4 * t + ((iv 65 t 4).toNatClampNeg - 1) by omega, this]
theorem sz4 {al : Al} {iv : Iv} {rv : Rv} (hG : GI al iv rv) {t : Nat} (ht : t < al.1 65) : (iv 65 t 4).toInt ≤ 4 := (hG.1 65 t 4 ht (by decide)).2
def Ctick (iv : Iv) (rv : Rv) : Prop := ∀ t : Nat, (t : Int) < (iv 63 0 1).toInt → tkk iv rv t
abbrev T_Ctick : List Nat := [18, 19, 66]
abbrev F_Ctick : List (Nat × Nat) := [(63, 1), (65, 0), (65, 1), (65, 2), (65, 4)]
theorem Ctick.keep {al : Al} {iv iv' : Iv} {rv rv' : Rv} (h : Ctick iv rv) (hG : GI al iv rv) (e : KP T_Ctick F_Ctick al iv rv iv' rv') : Ctick iv' rv' := by
  intro t ht
  rw [(e 63 0 1 (h1_63 hG) (Or.inr (by decide))).1] at ht
  have i : t < al.1 65 := by have := hG.2.2.2.2.1.2; omega
  have i6 : t < al.1 66 := by rw [hG.2.2.1.2.2.2.1]; exact i
  exact tkk_cong (h t ht) (sz4 hG i) (fun j _ => (e 18 0 _ (h1_18 hG) (Or.inl (by decide))).1) (e 19 0 t (h1_19 hG) (Or.inl (by decide))).1 (e 65 t 0 i (Or.inr (by decide))).1 (e 65 t 4 i (Or.inr (by decide))).1 (fun j => (e 66 t j i6 (Or.inl (by decide))).2) (e 65 t 1 i (Or.inr (by decide))).2 (e 65 t 2 i (Or.inr (by decide))).2
theorem spThen_m {iv iv' : Iv} (h : MA iv iv') (t l : Int32) : spThen iv' t l = spThen iv t l := by
  have ht : thL iv' t.toNatClampNeg = thL iv t.toNatClampNeg := by simp only [thL, h 18 _ (by decide), h 19 _ (by decide)]
  unfold spThen
  rw [ht, h 0 20 (by decide), h 0 6 (by decide), h 5 _ (by decide), h 6 _ (by decide), h 9 _ (by decide), h 10 _ (by decide), h 15 _ (by decide), h 19 _ (by decide)]
theorem spThen_ok {iv : Iv} {t l : Int32} (h : spThen iv t l = 0) : 0 ≤ t.toInt ∧ t.toInt < (iv 0 0 20).toInt ∧ (iv 19 0 t.toNatClampNeg).toInt < 4 := by
  unfold spThen at h
  by_cases q : ¬ ((0 ≤ t.toInt ∧ t.toInt < (iv 0 0 20).toInt) ∧ (0 ≤ l.toInt ∧ l.toInt < (iv 0 0 6).toInt))
  · rw [if_pos q] at h; exact absurd h (by decide)
  · rw [if_neg q] at h
    by_cases q2 : ¬ ((iv 5 0 l.toNatClampNeg).toInt = (iv 6 0 (thL iv t.toNatClampNeg)).toInt ∧ (iv 10 0 (thL iv t.toNatClampNeg)).toInt + (iv 15 0 2).toInt ≤ (iv 9 0 l.toNatClampNeg).toInt)
    · rw [if_pos q2] at h; exact absurd h (by decide)
    · rw [if_neg q2] at h
      by_cases q3 : 4 ≤ (iv 19 0 t.toNatClampNeg).toInt
      · rw [if_pos q3] at h; exact absurd h (by decide)
      · exact ⟨by omega, by omega, by omega⟩
def Ccau (iv : Iv) (rv : Rv) : Prop := (∀ k : Nat, (k : Int) < (iv 57 0 1).toInt → iv 14 0 k = iv 62 k 14) ∧ (∀ k : Nat, (iv 57 0 1).toInt ≤ k → iv 14 0 k = 0)
abbrev T_Ccau : List Nat := [14]
abbrev F_Ccau : List (Nat × Nat) := [(57, 1), (62, 14)]
theorem Ccau.keep {al : Al} {iv iv' : Iv} {rv rv' : Rv} (h : Ccau iv rv) (hG : GI al iv rv) (e : KP T_Ccau F_Ccau al iv rv iv' rv') : Ccau iv' rv' := by
  have e1 : ∀ k, iv' 14 0 k = iv 14 0 k := fun k => (e 14 0 k (h1_14 hG) (Or.inl (by decide))).1
  have n := hG.2.2.2.1.2
  refine ⟨fun k hk => ?_, fun k hk => ?_⟩
  · rw [(e 57 0 1 (h1_57 hG) (Or.inr (by decide))).1] at hk
    rw [e1 k, (e 62 k 14 (by omega) (Or.inr (by decide))).1]; exact h.1 k hk
  · rw [(e 57 0 1 (h1_57 hG) (Or.inr (by decide))).1] at hk
    rw [e1 k]; exact h.2 k hk
theorem spCause_ok {g c : Int32} {n : Int} (h : spCause g c n = 0) : 0 ≤ g.toInt ∧ g.toInt < n := by
  unfold spCause at h
  by_cases q : ¬ ((0 ≤ g.toInt ∧ g.toInt < n) ∧ (0 ≤ c.toInt ∧ c.toInt ≤ 5))
  · rw [if_pos q] at h; exact absurd h (by decide)
  · exact ⟨by omega, by omega⟩
def Bnd : Nat → Int
  | 0 => 0
  | n + 1 => 3 * Bnd n + 600
def nrN (L : Nat → Int32) : Nat → Nat
  | 0 => 0
  | n + 1 => nrN L n + (if (L n).toInt = n then 0 else 1)
theorem Bnd_ge : ∀ n : Nat, 0 ≤ Bnd n
  | 0 => Int.le_refl _
  | n + 1 => by
    have := Bnd_ge n
    show 0 ≤ 3 * Bnd n + 600
    omega
theorem Bnd_s (n : Nat) : Bnd n ≤ Bnd (n + 1) := by
  have := Bnd_ge n
  show Bnd n ≤ 3 * Bnd n + 600
  omega
theorem Bnd_mono {n m : Nat} (h : n ≤ m) : Bnd n ≤ Bnd m := by
  induction m with
  | zero => rw [show n = 0 by omega]; exact Int.le_refl _
  | succ m ih =>
    by_cases q : n = m + 1
    · rw [q]; exact Int.le_refl _
    · exact Int.le_trans (ih (by omega)) (Bnd_s m)
theorem Bnd_10 : Bnd 10 = 17714400 := by decide
theorem nrN_le {L : Nat → Int32} : ∀ n : Nat, nrN L n ≤ n
  | 0 => Nat.le_refl _
  | n + 1 => by
    have := nrN_le (L := L) n
    show nrN L n + (if (L n).toInt = n then 0 else 1) ≤ n + 1
    split <;> omega
theorem nrN_mono {L M : Nat → Int32} (h : ∀ k : Nat, k < 10 → ¬ (L k).toInt = k → ¬ (M k).toInt = k) : ∀ n : Nat, n ≤ 10 → nrN L n ≤ nrN M n
  | 0, _ => Nat.le_refl _
  | n + 1, hn => by
    have := nrN_mono h n (by omega)
    have hk := h n (by omega)
    show nrN L n + (if (L n).toInt = n then 0 else 1) ≤ nrN M n + (if (M n).toInt = n then 0 else 1)
    by_cases q : (L n).toInt = n
    · rw [if_pos q]; split <;> omega
    · rw [if_neg q, if_neg (hk q)]; omega
theorem nrN_lt {L M : Nat → Int32} (h : ∀ k : Nat, k < 10 → ¬ (L k).toInt = k → ¬ (M k).toInt = k) {x : Nat} (h1 : (L x).toInt = x) (h2 : ¬ (M x).toInt = x) : ∀ n : Nat, n ≤ 10 → x < n → nrN L n + 1 ≤ nrN M n
  | 0, _, hx => absurd hx (Nat.not_lt_zero _)
  | n + 1, hn, hx => by
    have m := nrN_mono h n (by omega)
    have hk := h n (by omega)
    show nrN L n + (if (L n).toInt = n then 0 else 1) + 1 ≤ nrN M n + (if (M n).toInt = n then 0 else 1)
    by_cases e : x = n
    · subst e; rw [if_pos h1, if_neg h2]; omega
    · have := nrN_lt h h1 h2 n (by omega) (by omega)
      by_cases q : (L n).toInt = n
      · rw [if_pos q]; split <;> omega
      · rw [if_neg q, if_neg (hk q)]; omega
/-- a group joins another one -/
theorem off_join {L O L' O' : Nat → Int32} {X Y s : Int32} {x y : Nat} {B : Int} (hB : B = Bnd (nrN L 10)) (r : ∀ k : Nat, k < 10 → 0 ≤ (L k).toInt ∧ (L k).toInt ≤ 9) (i : ∀ k : Nat, k < 10 → L (L k).toNatClampNeg = L k) (o : ∀ k : Nat, k < 10 → -B ≤ (O k).toInt ∧ (O k).toInt ≤ B) (hx : x < 10) (hy : y < 10) (ex : X = L x) (ey : Y = L y) (hne : ¬ X.toInt = Y.toInt) (hs : -(2 * B + 600) ≤ s.toInt ∧ s.toInt ≤ 2 * B + 600)
    (l' : ∀ k : Nat, k < 10 → L' k = if L k = X then Y else L k) (o' : ∀ k : Nat, k < 10 → O' k = if L k = X then O k + s else O k) : (∀ k : Nat, k < 10 → L' (L' k).toNatClampNeg = L' k) ∧ (∀ k : Nat, k < 10 → -(Bnd (nrN L' 10)) ≤ (O' k).toInt ∧ (O' k).toInt ≤ Bnd (nrN L' 10)) := by
  have ne : ¬ X = Y := fun z => hne (by rw [z])
  have rx := r x hx
  have ry := r y hy
  have cX : X.toNatClampNeg < 10 := by rw [ex, clamp_n]; omega
  have cY : Y.toNatClampNeg < 10 := by rw [ey, clamp_n]; omega
  have LX : L X.toNatClampNeg = X := by rw [ex]; exact i x hx
  have LY : L Y.toNatClampNeg = Y := by rw [ey]; exact i y hy
  have tX : ((X.toNatClampNeg : Nat) : Int) = X.toInt := ix_nat (by rw [ex]; omega)
  have tY : ((Y.toNatClampNeg : Nat) : Int) = Y.toInt := ix_nat (by rw [ey]; omega)
  have mono : ∀ k : Nat, k < 10 → ¬ (L k).toInt = k → ¬ (L' k).toInt = k := fun k hk z => by
    rw [l' k hk]
    by_cases q : L k = X
    · rw [if_pos q]
      intro w
      have kY : k = Y.toNatClampNeg := by omega
      rw [kY, LY] at q; exact ne q.symm
    · rw [if_neg q]; exact z
  have up : nrN L 10 + 1 ≤ nrN L' 10 := nrN_lt mono (x := X.toNatClampNeg) (by rw [LX]; exact tX.symm) (by
    rw [l' _ cX, LX, if_pos rfl]; omega) 10 (Nat.le_refl _) cX
  have bm := Bnd_mono up
  have bs : Bnd (nrN L 10 + 1) = 3 * B + 600 := by rw [hB]; rfl
  have b0 : 0 ≤ B := by rw [hB]; exact Bnd_ge _
  have b10 : B ≤ 17714400 := by rw [hB, ← Bnd_10]; exact Bnd_mono (nrN_le 10)
  refine ⟨fun k hk => ?_, fun k hk => ?_⟩
  · rw [l' k hk]
    by_cases q : L k = X
    · rw [if_pos q, l' _ cY, LY, if_neg (fun z => ne z.symm)]
    · rw [if_neg q]
      have ck : (L k).toNatClampNeg < 10 := by have := r k hk; rw [clamp_n]; omega
      rw [l' _ ck, i k hk, if_neg q]
  · rw [o' k hk]
    have ok := o k hk
    by_cases q : L k = X
    · rw [if_pos q, fb_addI (by omega) (by omega)]; omega
    · rw [if_neg q]; omega
def Coff (iv : Iv) (rv : Rv) : Prop := (∀ p : Nat, p < 10 → iv 3 0 (iv 3 0 p).toNatClampNeg = iv 3 0 p) ∧ (∀ p : Nat, p < 10 → -(Bnd (nrN (fun k => iv 3 0 k) 10)) ≤ (iv 4 0 p).toInt ∧ (iv 4 0 p).toInt ≤ Bnd (nrN (fun k => iv 3 0 k) 10))
abbrev T_Coff : List Nat := [3, 4]
abbrev F_Coff : List (Nat × Nat) := []
theorem Coff.keep {al : Al} {iv iv' : Iv} {rv rv' : Rv} (h : Coff iv rv) (hG : GI al iv rv) (e : KP T_Coff F_Coff al iv rv iv' rv') : Coff iv' rv' := by
  have e3 : (fun k => iv' 3 0 k) = (fun k => iv 3 0 k) := funext (fun k => (e 3 0 k (h1_3 hG) (Or.inl (by decide))).1)
  have f3 : ∀ k, iv' 3 0 k = iv 3 0 k := fun k => (e 3 0 k (h1_3 hG) (Or.inl (by decide))).1
  have f4 : ∀ k, iv' 4 0 k = iv 4 0 k := fun k => (e 4 0 k (h1_4 hG) (Or.inl (by decide))).1
  unfold Coff
  rw [e3]
  exact ⟨fun p hp => by rw [f3, f3]; exact h.1 p hp, fun p hp => by rw [f4]; exact h.2 p hp⟩
theorem off_s {iv iv1 iv2 : Iv} {rv rv2 : Rv} {a b by_ r2 : Int32} (h : Coff iv rv) (p2 : (spSeen a b by_ = 0 ∧ tkM iv1 iv2 a.toNatClampNeg b.toNatClampNeg by_ r2) ∨ (spSeen a b by_ ≠ 0 ∧ r2 = spSeen a b by_ ∧ ∀ k : Nat, iv2 3 0 k = iv1 3 0 k ∧ iv2 4 0 k = iv1 4 0 k)) (m3 : ∀ k, iv1 3 0 k = iv 3 0 k) (m4 : ∀ k, iv1 4 0 k = iv 4 0 k) (g3 : ∀ k, k < 10 → 0 ≤ (iv 3 0 k).toInt ∧ (iv 3 0 k).toInt ≤ 9) : Coff iv2 rv2 := by
  have same : (∀ k : Nat, iv2 3 0 k = iv1 3 0 k ∧ iv2 4 0 k = iv1 4 0 k) → Coff iv2 rv2 := fun w => by
    have e3 : (fun k => iv2 3 0 k) = (fun k => iv 3 0 k) := funext (fun k => by rw [(w k).1, m3])
    unfold Coff
    rw [e3]
    exact ⟨fun p hp => by rw [(w p).1, (w _).1, m3, m3]; exact h.1 p hp, fun p hp => by rw [(w p).2, m4]; exact h.2 p hp⟩
  rcases p2 with ⟨o, w⟩ | ⟨-, -, w⟩
  · rcases w with ⟨-, -, w⟩ | ⟨c, -, w⟩
    · exact same w
    · obtain ⟨la, lb⟩ := spSeen_ok o
      have vb := spSeen_v o
      rw [m3, m3] at c
      have b0 := Bnd_ge (nrN (fun k => iv 3 0 k) 10)
      have b10 : Bnd (nrN (fun k => iv 3 0 k) 10) ≤ 17714400 := by rw [← Bnd_10]; exact Bnd_mono (nrN_le 10)
      have oa := h.2 _ la
      have ob := h.2 _ lb
      simp only [m3, m4] at w
      by_cases q : (iv 3 0 a.toNatClampNeg).toInt < (iv 3 0 b.toNatClampNeg).toInt
      · have s1 : (iv 4 0 a.toNatClampNeg - by_).toInt = (iv 4 0 a.toNatClampNeg).toInt - by_.toInt := fb_subI (by omega) (by omega)
        have s2 : (iv 4 0 a.toNatClampNeg - by_ - iv 4 0 b.toNatClampNeg).toInt = (iv 4 0 a.toNatClampNeg).toInt - by_.toInt - (iv 4 0 b.toNatClampNeg).toInt := by rw [fb_subI (by omega) (by omega), s1]
        exact off_join (L := fun k => iv 3 0 k) (O := fun k => iv 4 0 k) (L' := fun k => iv2 3 0 k) (O' := fun k => iv2 4 0 k) (x := b.toNatClampNeg) (y := a.toNatClampNeg) (s := iv 4 0 a.toNatClampNeg - by_ - iv 4 0 b.toNatClampNeg) rfl g3 h.1 h.2 lb la rfl rfl (fun z => c z.symm) (by rw [s2]; omega)
          (fun k hk => by rw [(w k hk).1]; unfold seL; simp only [if_pos q]) (fun k hk => by rw [(w k hk).2]; unfold seO; simp only [if_pos q])
      · have s1 : (iv 4 0 b.toNatClampNeg + by_).toInt = (iv 4 0 b.toNatClampNeg).toInt + by_.toInt := fb_addI (by omega) (by omega)
        have s2 : (iv 4 0 b.toNatClampNeg + by_ - iv 4 0 a.toNatClampNeg).toInt = (iv 4 0 b.toNatClampNeg).toInt + by_.toInt - (iv 4 0 a.toNatClampNeg).toInt := by rw [fb_subI (by omega) (by omega), s1]
        exact off_join (L := fun k => iv 3 0 k) (O := fun k => iv 4 0 k) (L' := fun k => iv2 3 0 k) (O' := fun k => iv2 4 0 k) (x := a.toNatClampNeg) (y := b.toNatClampNeg) (s := iv 4 0 b.toNatClampNeg + by_ - iv 4 0 a.toNatClampNeg) rfl g3 h.1 h.2 la lb rfl rfl c (by rw [s2]; omega)
          (fun k hk => by rw [(w k hk).1]; unfold seL; simp only [if_neg q]) (fun k hk => by rw [(w k hk).2]; unfold seO; simp only [if_neg q])
  · exact same w
theorem rb_k {al : Al} {iv : Iv} {rv : Rv} (hG : GI al iv rv) (h : Coff iv rv) {k : Nat} (hk : k < 40) : (0 ≤ (rlF iv k).toInt ∧ (rlF iv k).toInt ≤ 17744400) ∧ (0 ≤ (raF iv k).toInt ∧ (raF iv k).toInt ≤ 17744400) := by
  have b10 : Bnd (nrN (fun k => iv 3 0 k) 10) ≤ 17714400 := by rw [← Bnd_10]; exact Bnd_mono (nrN_le 10)
  have f5 : 0 ≤ (iv 5 0 k).toInt ∧ (iv 5 0 k).toInt ≤ 9 := hG.1 5 0 k (h1_5 hG) hk
  have f6 : 0 ≤ (iv 6 0 k).toInt ∧ (iv 6 0 k).toInt ≤ 9 := hG.1 6 0 k (h1_6 hG) hk
  have l12 : 0 ≤ (iv 12 0 k).toInt ∧ (iv 12 0 k).toInt ≤ 30000 := hG.1 12 0 k (h1_12 hG) hk
  have l13 : 0 ≤ (iv 13 0 k).toInt ∧ (iv 13 0 k).toInt ≤ 30000 := hG.1 13 0 k (h1_13 hG) hk
  have o5 := h.2 (iv 5 0 k).toNatClampNeg (by rw [clamp_n]; omega)
  have o6 := h.2 (iv 6 0 k).toNatClampNeg (by rw [clamp_n]; omega)
  have s1 : (iv 12 0 k - iv 4 0 (iv 5 0 k).toNatClampNeg).toInt = (iv 12 0 k).toInt - (iv 4 0 (iv 5 0 k).toNatClampNeg).toInt := fb_subI (by omega) (by omega)
  have s2 : (iv 13 0 k - iv 4 0 (iv 6 0 k).toNatClampNeg).toInt = (iv 13 0 k).toInt - (iv 4 0 (iv 6 0 k).toNatClampNeg).toInt := fb_subI (by omega) (by omega)
  have z : (0 : Int32).toInt = 0 := by decide
  unfold rlF raF oF
  refine ⟨?_, ?_⟩
  · split
    · rw [z]; omega
    · omega
  · split
    · rw [z]; omega
    · omega
def BA (iv : Iv) (rv : Rv) : Prop := Clegn iv rv ∧ Clegf iv rv ∧ Cset iv rv
theorem lf_k {al : Al} {iv : Iv} {rv : Rv} (hG : GI al iv rv) (hf : Clegf iv rv) {k : Nat} (hk : k < al.1 62) : lfk iv rv k := hf k (by rw [hG.2.2.2.1.2]; omega)
theorem lf_i {al : Al} {iv : Iv} {rv : Rv} (hG : GI al iv rv) (hf : Clegf iv rv) {k : Nat} (hk : k < al.1 62) : (iv 7 0 k).toInt = (iv 62 k 3).toInt ∧ (iv 8 0 k).toInt = (iv 62 k 4).toInt ∧ (iv 9 0 k).toInt = (iv 62 k 5).toInt ∧ (iv 10 0 k).toInt = (iv 62 k 6).toInt := by
  obtain ⟨-, -, a, b, c, d, -⟩ := lf_k hG hf hk
  rw [a, b, c, d]; exact ⟨rfl, rfl, rfl, rfl⟩
theorem lf_j {al : Al} {iv : Iv} {rv : Rv} (hG : GI al iv rv) (hf : Clegf iv rv) {j n : Nat} (hk : j < al.1 62) (hj : j = n) : ((iv 7 0 n).toInt = (iv 62 j 3).toInt ∧ (iv 8 0 n).toInt = (iv 62 j 4).toInt ∧ (iv 9 0 n).toInt = (iv 62 j 5).toInt ∧ (iv 10 0 n).toInt = (iv 62 j 6).toInt) ∧ (0 ≤ (iv 62 j 6).toInt ∧ (iv 62 j 6).toInt ≤ 20000) := by
  subst hj
  exact ⟨lf_i hG hf hk, hG.1 62 j 6 hk (by decide)⟩
theorem lf_lv {al : Al} {iv : Iv} {rv : Rv} (hG : GI al iv rv) (hf : Clegf iv rv) {k : Nat} (hk : k < al.1 62) : iv 62 k 5 = iv 9 0 k := (lf_k hG hf hk).2.2.2.2.1.symm
theorem rng5 {al : Al} {iv : Iv} {rv : Rv} (hG : GI al iv rv) {k : Nat} (hk : k < 40) : (0 ≤ (iv 5 0 k).toInt ∧ (iv 5 0 k).toInt ≤ 9) ∧ (0 ≤ (iv 6 0 k).toInt ∧ (iv 6 0 k).toInt ≤ 9) := ⟨hG.1 5 0 k (h1_5 hG) hk, hG.1 6 0 k (h1_6 hG) hk⟩
theorem al62 {al : Al} {iv : Iv} {rv : Rv} (hG : GI al iv rv) : al.1 62 ≤ 40 := by
  have a := hG.2.2.2.1.2
  have b : (iv 57 0 1).toInt ≤ 40 := (hG.1 57 0 1 (h1_57 hG) (by decide)).2
  omega
theorem lf_to {al : Al} {iv : Iv} {rv : Rv} (hG : GI al iv rv) (hf : Clegf iv rv) {j n p : Nat} (hk : j < al.1 62) (hj : j = n) (e : rv 62 j 2 = some p) : (p : Int) = (iv 6 0 n).toInt := by
  subst hj
  have a := (lf_k hG hf hk).2.1
  have b := Option.some.inj (e.symm.trans a)
  have c := rng5 hG (Nat.lt_of_lt_of_le hk (al62 hG))
  rw [b, ix_nat c.2.1]
theorem lf_fr {al : Al} {iv : Iv} {rv : Rv} (hG : GI al iv rv) (hf : Clegf iv rv) {j p : Nat} (hk : j < al.1 62) (e : rv 62 j 1 = some p) : (p : Int) = (iv 5 0 j).toInt := by
  have a := (lf_k hG hf hk).1
  have b := Option.some.inj (e.symm.trans a)
  have c := rng5 hG (Nat.lt_of_lt_of_le hk (al62 hG))
  rw [b, ix_nat c.1.1]
theorem lf_b {al : Al} {iv : Iv} {rv : Rv} (hG : GI al iv rv) (hf : Clegf iv rv) {j : Nat} {x : Int32} (hk : j < al.1 62) (h : x.toNatClampNeg = j) : (iv 10 0 x.toNatClampNeg).toInt = (iv 62 j 6).toInt := by rw [h]; exact (lf_i hG hf hk).2.2.2
theorem ahx_0 {iv : Iv} {li : Nat} {crew : Int32} : none = oI (ahN iv li crew (0 : Int32).toNatClampNeg) := by
  rw [show (0 : Int32).toNatClampNeg = 0 from by decide]; rfl
theorem ahx_up {iv : Iv} {li : Nat} {crew x y : Int32} {r : Option Nat} (h : y.toInt = x.toInt + 1) (h0 : 0 ≤ x.toInt) (i : r = oI (ahStep iv li crew (ahN iv li crew x.toNatClampNeg) x.toNatClampNeg)) : r = oI (ahN iv li crew y.toNatClampNeg) := by
  rw [clamp_s h h0, i]; rfl
theorem ahx_no {iv : Iv} {li n : Nat} {crew : Int32} {r : Option Nat} (h : r = oI (ahN iv li crew n)) (hc : ¬ (((((¬ crew.toInt = 0) ∧ (iv 8 0 n).toInt = (iv 8 0 li).toInt) ∨ (crew.toInt = 0 ∧ (iv 7 0 n).toInt = (iv 7 0 li).toInt)) ∧ (iv 6 0 n).toInt = (iv 5 0 li).toInt ∧ (iv 10 0 n).toInt + (rsF iv crew).toInt ≤ (iv 9 0 li).toInt) ∧ ((ahN iv li crew n).toInt < 0 ∨ (iv 10 0 (ahN iv li crew n).toNatClampNeg).toInt ≤ (iv 10 0 n).toInt))) : r = oI (ahStep iv li crew (ahN iv li crew n) n) := by
  unfold ahStep; rw [if_neg hc]; exact h
theorem ahx_yes {al : Al} {iv : Iv} {rv : Rv} (hG : GI al iv rv) (hf : Clegf iv rv) {r : Option Nat} {li j n : Nat} {crew : Int32} (hr : ∀ q, r = some q → q < al.1 62) (h : r = oI (ahN iv li crew n)) (hb : ∀ q : Nat, r = some q → (iv 62 q 6).toInt ≤ (iv 62 j 6).toInt) (hj : j = n) (hl : n < al.1 62)
    (hs : (((¬ crew.toInt = 0) ∧ (iv 8 0 n).toInt = (iv 8 0 li).toInt) ∨ (crew.toInt = 0 ∧ (iv 7 0 n).toInt = (iv 7 0 li).toInt)) ∧ (iv 6 0 n).toInt = (iv 5 0 li).toInt ∧ (iv 10 0 n).toInt + (rsF iv crew).toInt ≤ (iv 9 0 li).toInt) : some j = oI (ahStep iv li crew (ahN iv li crew n) n) := by
  subst hj
  have hb2 : (ahN iv li crew j).toInt < 0 ∨ (iv 10 0 (ahN iv li crew j).toNatClampNeg).toInt ≤ (iv 10 0 j).toInt := by
    by_cases q : (ahN iv li crew j).toInt < 0
    · exact Or.inl q
    · have e : r = some (ahN iv li crew j).toNatClampNeg := by rw [h]; unfold oI; rw [if_neg q]
      have a := hb _ e
      rw [(lf_i hG hf (hr _ e)).2.2.2, (lf_i hG hf hl).2.2.2]
      exact Or.inr a
  have l40 := al62 hG
  unfold ahStep
  rw [if_pos ⟨hs, hb2⟩]
  unfold oI
  rw [nI_toInt (by omega), if_neg (by omega), nI_clamp (by omega)]
theorem ah_num {al : Al} {iv : Iv} {rv : Rv} (hG : GI al iv rv) (hf : Clegf iv rv) {j : Nat} {x y : Int32} (hj : j < al.1 62) (e : x = iv 62 j 0) (h : 0 ≤ y.toInt ∧ y.toNatClampNeg = j) : x = y := by
  have a := (lf_k hG hf hj).2.2.2.2.2.2
  have b := ix_nat h.1
  exact (fa_eq _ _).mpr (by rw [e]; omega)
def BL (iv : Iv) (rv : Rv) : Prop := BA iv rv ∧ Clog iv rv ∧ Crt iv rv ∧ Cport iv rv
theorem xra_x {al : Al} {iv : Iv} {rv : Rv} (hG : GI al iv rv) (h : BL iv rv) {k : Nat} (hk : k < al.1 62) : xrl iv rv k = rlF iv k ∧ xra iv rv k = raF iv k := by
  obtain ⟨⟨hn, hf, hs⟩, hl, hc, hp⟩ := h
  have c := rng5 hG (Nat.lt_of_lt_of_le hk (al62 hG))
  obtain ⟨a, b, -⟩ := lf_k hG hf hk
  obtain ⟨l1, l2, l3⟩ := hl.1 k (by rw [hG.2.2.2.1.2]; omega)
  have q1 := (hp (iv 5 0 k).toNatClampNeg (by rw [clamp_n]; omega)).2
  have q2 := (hp (iv 6 0 k).toNatClampNeg (by rw [clamp_n]; omega)).2
  unfold xrl xra rlF raF
  rw [a, b, l2, l3, q1, q2]; exact ⟨rfl, rfl⟩
theorem rt_x {al : Al} {iv : Iv} {rv : Rv} (hG : GI al iv rv) (h : BL iv rv) {k : Nat} (hk : k < al.1 62) (hz : ¬ (iv 62 k 7).toInt = 0) : iv 62 k 10 = rlF iv k ∧ iv 62 k 11 = raF iv k ∧ iv 62 k 12 = olF iv k ∧ iv 62 k 13 = laF iv k := by
  obtain ⟨x1, x2⟩ := xra_x hG h hk
  obtain ⟨a, b, c, d⟩ := h.2.2.1 k (by rw [hG.2.2.2.1.2]; omega) hz
  obtain ⟨-, -, -, -, l5, l6, -⟩ := lf_k hG h.1.2.1 hk
  rw [a, b, c, d, x1, x2, ← l5, ← l6]; exact ⟨rfl, rfl, rfl, rfl⟩
theorem lg_done {al : Al} {iv : Iv} {rv : Rv} (hG : GI al iv rv) (h : BL iv rv) {j n : Nat} (hk : j < al.1 62) (hj : j = n) : (iv 11 0 n).toInt = (iv 62 j 7).toInt := by
  subst hj
  rw [(h.2.1.1 j (by rw [hG.2.2.2.1.2]; omega)).1]
theorem mn_ls (x y : Int32) : mnF x y = lsF x y := by
  unfold mnF lsF
  by_cases h : y < x
  · rw [if_pos h, if_neg (by rw [fa_lt] at h; omega)]
  · rw [if_neg h]; rw [fa_lt] at h
    by_cases q : x.toInt < y.toInt
    · rw [if_pos q]
    · rw [if_neg q]; exact (fa_eq _ _).mpr (by omega)
theorem ah_in {al : Al} {iv : Iv} {rv : Rv} (hG : GI al iv rv) (hn : Clegn iv rv) {l : Nat} {b : Int32} (h : 0 ≤ (ahF iv l b).toInt) : (ahF iv l b).toNatClampNeg < al.1 62 := by
  have a := (ah_lt hG h).1
  have c := hG.2.2.2.1.2
  have e := congrArg Int32.toInt hn
  rw [clamp_n]; omega
theorem wt_x {al : Al} {iv : Iv} {rv : Rv} (hG : GI al iv rv) (h : BL iv rv) {li : Nat} {crew : Int32} (hli : li < al.1 62) (hz : ¬ (iv 62 li 7).toInt = 0) : wfX iv li (oI (ahF iv li crew)) (rsF iv crew) = wtF iv li crew := by
  unfold wtF oI
  by_cases q : (ahF iv li crew).toInt < 0
  · rw [if_pos q, if_pos q]; rfl
  · rw [if_neg q, if_neg q]
    have hb := ah_in hG h.1.1 (l := li) (b := crew) (by omega)
    have d := lg_done hG h hb rfl
    show (if (iv 62 (ahF iv li crew).toNatClampNeg 7).toInt = 0 then 0 else _) = _
    by_cases w : (iv 62 (ahF iv li crew).toNatClampNeg 7).toInt = 0
    · rw [if_pos w, if_pos (by omega)]
    · rw [if_neg w, if_neg (by omega), mn_ls, mx0, (rt_x hG h hb w).2.1, (rt_x hG h hli hz).2.2.1, lf_lv hG h.1.2.1 hli]
theorem hd_x {al : Al} {iv : Iv} {rv : Rv} (hG : GI al iv rv) (h : BL iv rv) {li : Nat} (hli : li < al.1 62) (hz : ¬ (iv 62 li 7).toInt = 0) : mnF (iv 62 li 13) (mxF (wtF iv li 0) (wtF iv li 1)) = hdF iv li := by
  rw [mn_ls, (rt_x hG h hli hz).2.2.2]
  unfold hdF bcF mxF
  by_cases q : (wtF iv li 0).toInt < (wtF iv li 1).toInt
  · rw [if_pos q, if_pos ((fa_lt _ _).mpr q)]
  · rw [if_neg q, if_neg (fun z => q ((fa_lt _ _).mp z))]
theorem bl_kp {al : Al} {iv iv' : Iv} {rv rv' : Rv} (hG : GI al iv rv) (h : BL iv rv) {md : Mo} (f : FR md iv iv') (g : FR md rv rv') (d1 : RC T_Clegn F_Clegn md := by decide) (d2 : RC T_Clegf F_Clegf md := by decide) (d3 : RC T_Cset F_Cset md := by decide) (d4 : RC T_Clog F_Clog md := by decide) (d5 : RC T_Crt F_Crt md := by decide) (d6 : RC T_Cport F_Cport md := by decide) : BL iv' rv' :=
  ⟨⟨Clegn.keep h.1.1 hG (KP.fr f g d1), Clegf.keep h.1.2.1 hG (KP.fr f g d2), Cset.keep h.1.2.2 hG (KP.fr f g d3)⟩, Clog.keep h.2.1 hG (KP.fr f g d4), Crt.keep h.2.2.1 hG (KP.fr f g d5), Cport.keep h.2.2.2 hG (KP.fr f g d6)⟩
def BT (iv : Iv) (rv : Rv) : Prop := Clegn iv rv ∧ Clegf iv rv ∧ Cset iv rv ∧ Ctkn iv rv ∧ Ctick iv rv
theorem then_x {al : Al} {iv : Iv} {rv : Rv} (hG : GI al iv rv) (h : BT iv rv) {ti li : Nat} {tt lg c r : Int32} (hti : ti < al.1 65) (hli : li < al.1 62) (et : ti = tt.toNatClampNeg) (el : li = lg.toNatClampNeg) (ec : c = iv 50 0 (2 : Int32).toNatClampNeg)
    (hp : ∀ p q o : Nat, rv 62 li 1 = some p → rv 65 ti 2 = some q → rv 62 q 2 = some o → ((p = o ∧ c.toInt ≤ (iv 62 li 5).toInt - (iv 62 q 6).toInt) ∧ r.toInt = 1) ∨ ((¬ (p = o ∧ c.toInt ≤ (iv 62 li 5).toInt - (iv 62 q 6).toInt)) ∧ r.toInt = 0)) :
    (iv 19 0 tt.toNatClampNeg).toInt = (iv 65 ti 4).toInt ∧ ((((iv 5 0 lg.toNatClampNeg).toInt = (iv 6 0 (thL iv tt.toNatClampNeg)).toInt ∧ (iv 10 0 (thL iv tt.toNatClampNeg)).toInt + (iv 15 0 2).toInt ≤ (iv 9 0 lg.toNatClampNeg).toInt) ∧ r.toInt = 1) ∨ ((¬ ((iv 5 0 lg.toNatClampNeg).toInt = (iv 6 0 (thL iv tt.toNatClampNeg)).toInt ∧ (iv 10 0 (thL iv tt.toNatClampNeg)).toInt + (iv 15 0 2).toInt ≤ (iv 9 0 lg.toNatClampNeg).toInt)) ∧ r.toInt = 0)) := by
  obtain ⟨hn, hf, hs, hk, htk⟩ := h
  rw [← et, ← el]
  obtain ⟨t1, t2, t3, t4, t5, t6⟩ := htk ti (by rw [hG.2.2.2.2.1.2]; omega)
  have c2 : c = iv 15 0 2 := by rw [ec]; exact (hs 2 (by decide)).symm
  have l5 : rv 65 ti 2 = some (thL iv ti) := by unfold thL; rw [t1]; exact t5
  have hl5 := (hG.2.1 65 ti 2 62 hti (by decide) rfl).1 _ l5
  obtain ⟨a1, -, -, -, a5, -, -⟩ := hf li (by rw [hG.2.2.2.1.2]; omega)
  obtain ⟨-, b2, -, -, -, b6, -⟩ := hf (thL iv ti) (by rw [hG.2.2.2.1.2]; omega)
  have q := hp _ _ _ a1 l5 b2
  have r1 := rng5 hG (Nat.lt_of_lt_of_le hli (al62 hG))
  have r2 := rng5 hG (Nat.lt_of_lt_of_le hl5 (al62 hG))
  rw [← a5, ← b6, c2, clamp_n, clamp_n] at q
  refine ⟨by rw [t1], ?_⟩
  rcases q with ⟨⟨p1, p2⟩, p3⟩ | ⟨p1, p3⟩
  · exact Or.inl ⟨⟨by omega, by omega⟩, p3⟩
  · exact Or.inr ⟨fun z => p1 ⟨by rw [z.1], by omega⟩, p3⟩
theorem le40 {al : Al} {iv : Iv} {rv : Rv} (hG : GI al iv rv) {t : Int32} (h : 0 ≤ t.toInt ∧ t.toInt < (iv 0 0 20).toInt) : (iv 19 0 t.toNatClampNeg).toInt ≤ 40 := by
  have l := le20 hG
  have b : (iv 19 0 t.toNatClampNeg).toInt ≤ 4 := (hG.1 19 0 t.toNatClampNeg (h1_19 hG) (by show _ < 20; rw [clamp_n]; omega)).2
  omega
theorem rw_lt {al : Al} {iv : Iv} {rv : Rv} (hG : GI al iv rv) (h : BT iv rv) {t j : Nat} (ht : (t : Int) < (iv 0 0 20).toInt) (hj : (j : Int) < (iv 19 0 t).toInt) : rwL iv t j < al.1 62 := by
  have k := congrArg Int32.toInt h.2.2.2.1
  have n := hG.2.2.2.2.1.2
  have ht2 : t < al.1 65 := by omega
  obtain ⟨a, -, c, -⟩ := h.2.2.2.2 t (by omega)
  rw [a] at hj
  have n6 : al.1 66 = al.1 65 := hG.2.2.1.2.2.2.1
  have j4 := sz4 hG ht2
  exact (hG.2.1 66 t j 62 (by omega) (by show j < 4; omega) rfl).1 _ (c j hj)
theorem lf_lt {al : Al} {iv : Iv} {rv : Rv} (hG : GI al iv rv) (h : BT iv rv) {t : Int32} (ht : 0 ≤ t.toInt ∧ t.toInt < (iv 0 0 20).toInt) : ((lfF iv t.toNatClampNeg : Nat) : Int) < (iv 0 0 6).toInt := by
  have k := congrArg Int32.toInt h.1
  have n := hG.2.2.2.1.2
  have nt := ix_nat ht.1
  have l := le40 hG ht
  have m1 := rm1 hG ht.1 ht.2
  have m2 : ((iv 19 0 t.toNatClampNeg).toNatClampNeg : Int) = (iv 19 0 t.toNatClampNeg).toInt := ix_nat (by omega)
  have R : ∀ j : Nat, (j : Int) < (iv 19 0 t.toNatClampNeg).toInt → rwL iv t.toNatClampNeg j < al.1 62 := fun j hj => rw_lt hG h (by omega) hj
  unfold lfF
  by_cases q : (msF iv t.toNatClampNeg).toInt < 0
  · rw [if_pos q]
    have e : thL iv t.toNatClampNeg = rwL iv t.toNatClampNeg ((iv 19 0 t.toNatClampNeg).toNatClampNeg - 1) := by
      unfold thL rwL; rw [show 4 * t.toNatClampNeg + (iv 19 0 t.toNatClampNeg).toNatClampNeg - 1 = 4 * t.toNatClampNeg + ((iv 19 0 t.toNatClampNeg).toNatClampNeg - 1) by omega]
    rw [e]
    have := R ((iv 19 0 t.toNatClampNeg).toNatClampNeg - 1) (by omega)
    omega
  · rw [if_neg q]
    have z := (ms_bad (iv := iv) (t := t.toNatClampNeg) (iv 19 0 t.toNatClampNeg).toNatClampNeg (by omega) (by show 0 ≤ (msF iv t.toNatClampNeg).toInt; omega)).2
    have z' : (msF iv t.toNatClampNeg).toNatClampNeg < (iv 19 0 t.toNatClampNeg).toNatClampNeg := z
    have r1 := R (msF iv t.toNatClampNeg).toNatClampNeg (by omega)
    have r2 := R ((msF iv t.toNatClampNeg).toNatClampNeg - 1) (by omega)
    split <;> omega
def BM (iv : Iv) (rv : Rv) : Prop := BL iv rv ∧ Ctkn iv rv ∧ Ctick iv rv
theorem tk_k {al : Al} {iv : Iv} {rv : Rv} (hG : GI al iv rv) (h : BM iv rv) {t : Nat} (ht : t < al.1 65) : tkk iv rv t := h.2.2 t (by rw [hG.2.2.2.2.1.2]; omega)
theorem tk_ix {al : Al} {iv : Iv} {rv : Rv} (hG : GI al iv rv) (h : BM iv rv) {t j : Nat} {x : Int32} (ht : t < al.1 65) (er : some j = rv 66 t x.toNatClampNeg) (h0 : 0 ≤ x.toInt) (h1 : x.toInt < (iv 65 t 4).toInt) : j = rwL iv t x.toNatClampNeg := Option.some.inj (er.trans ((tk_k hG h ht).2.2.1 _ (by rw [ix_nat h0]; exact h1)))
theorem tk_ix1 {al : Al} {iv : Iv} {rv : Rv} (hG : GI al iv rv) (h : BM iv rv) {t j : Nat} {x y : Int32} (ht : t < al.1 65) (er : some j = rv 66 t y.toNatClampNeg) (hy : y.toInt = x.toInt - 1) (h0 : 0 < x.toInt) (h1 : x.toInt ≤ (iv 65 t 4).toInt) : j = rwL iv t (x.toNatClampNeg - 1) := by
  have c : y.toNatClampNeg = x.toNatClampNeg - 1 := by simp only [clamp_n]; omega
  rw [← c]
  exact tk_ix hG h ht er (by omega) (by omega)
def BC (iv : Iv) (rv : Rv) : Prop := BL iv rv ∧ Ccau iv rv
theorem bc_fr {al : Al} {iv iv' : Iv} {rv rv' : Rv} (hG : GI al iv rv) (h : BC iv rv) {md : Mo} (f : FR md iv iv') (g : FR md rv rv') (d1 : RC T_Clegn F_Clegn md := by decide) (d2 : RC T_Clegf F_Clegf md := by decide) (d3 : RC T_Cset F_Cset md := by decide) (d4 : RC T_Clog F_Clog md := by decide) (d5 : RC T_Crt F_Crt md := by decide) (d6 : RC T_Cport F_Cport md := by decide) (d7 : RC T_Ccau F_Ccau md := by decide) : BC iv' rv' := ⟨bl_kp hG h.1 f g d1 d2 d3 d4 d5 d6, Ccau.keep h.2 hG (KP.fr f g d7)⟩
def trI (iv0 iv : Iv) (li : Nat) (at_ : Option Nat) (m : Int32) (n : Nat) : Prop := (stN iv0 li n).2.1 = m ∧ (∀ k : Nat, k < 6 → iv 59 0 k = (stN iv0 li n).2.2 k) ∧ (0 < m.toInt → at_ = some (stN iv0 li n).1 ∧ ¬ (iv0 62 (stN iv0 li n).1 7).toInt = 0)
theorem tr_0 {al : Al} {iv0 iv : Iv} {rv : Rv} {md : Mo} {li : Nat} {m : Int32} (hG : GI al iv0 rv) (h : BC iv0 rv) (hli : li < al.1 62) (hz : ¬ (iv0 62 li 7).toInt = 0) (f : FR md iv0 iv) (hf : ∀ k : Nat, k < 6 → iv 59 0 k = 0) (e : m = iv 62 li 13) (hd : ¬ MD md 62 13 := by decide) : trI iv0 iv li (some li) m (0 : Int32).toNatClampNeg := by
  rw [show (0 : Int32).toNatClampNeg = 0 from by decide]
  refine ⟨?_, hf, fun _ => ⟨rfl, hz⟩⟩
  show laF iv0 li = m
  rw [e, f 62 li 13 hd, (rt_x hG h.1 hli hz).2.2.2]
theorem tr_lg {al : Al} {iv0 : Iv} {rv : Rv} {li n j : Nat} (_ : GI al iv0 rv) (h : some j = some (stN iv0 li n).1 ∧ ¬ (iv0 62 (stN iv0 li n).1 7).toInt = 0) : ¬ (iv0 62 j 7).toInt = 0 := by rw [Option.some.inj h.1]; exact h.2
theorem tr_g0 {iv iv' : Iv} {x : Int32} (h : MA iv iv') (e : x = iv 15 0 0) : x = rsF iv' 0 := by
  rw [rs_m h, e]; rfl
theorem tr_g1 {iv iv' : Iv} {x : Int32} (h : MA iv iv') (e : x = iv 15 0 1) : x = rsF iv' 1 := by
  rw [rs_m h, e]; rfl
theorem tr_w {al : Al} {iv0 iv : Iv} {rv : Rv} (hG : GI al iv rv) (h : BL iv rv) {j : Nat} {crew gap w : Int32} {r : Option Nat} (hj : j < al.1 62) (hz : ¬ (iv 62 j 7).toInt = 0) (hr : r = oI (ahF iv j crew)) (hg : gap = rsF iv crew) (hw : w = wfX iv j r gap) (hM : MA iv0 iv) : w = wtF iv0 j crew := by
  rw [hw, hr, hg, wt_x hG h hj hz, wt_m hM]
theorem tr_led {al : Al} {iv0 iv : Iv} {rv : Rv} (hG : GI al iv rv) (h : BL iv rv) {j : Nat} {x w0 w1 mx hd m led : Int32} (hj : j < al.1 62) (hz : ¬ (iv 62 j 7).toInt = 0) (ex : x = iv 62 j 13) (q1 : mx = mxF w0 w1) (q2 : hd = mnF x mx) (q3 : led = mnF m hd) (h0 : w0 = wtF iv0 j 0) (h1 : w1 = wtF iv0 j 1) (hM : MA iv0 iv) : led = lsF m (hdF iv0 j) := by
  have z := hd_x hG h hj hz
  rw [wt_m hM, wt_m hM, hd_m hM] at z
  rw [q3, q2, q1, ex, h0, h1, z, mn_ls]
theorem tr_c {iv0 : Iv} {j : Nat} {w0 w1 : Int32} {r : Option Nat} (h0 : w0 = wtF iv0 j 0) (h1 : w1 = wtF iv0 j 1) (hr : r = oI (ahF iv0 j 1)) (h : w0.toInt < w1.toInt) : r = oI (ahF iv0 j (bcF iv0 j)) := by
  have e : bcF iv0 j = 1 := by unfold bcF; rw [← h0, ← h1, if_pos h]
  rw [e]; exact hr
theorem tr_p {iv0 : Iv} {j : Nat} {w0 w1 : Int32} {r : Option Nat} (h0 : w0 = wtF iv0 j 0) (h1 : w1 = wtF iv0 j 1) (hr : r = oI (ahF iv0 j 0)) (h : ¬ w0.toInt < w1.toInt) : r = oI (ahF iv0 j (bcF iv0 j)) := by
  have e : bcF iv0 j = 0 := by unfold bcF; rw [← h0, ← h1, if_neg h]
  rw [e]; exact hr
theorem wt_done {iv : Iv} {l : Nat} {b : Int32} (h : 0 < (wtF iv l b).toInt) : ¬ (iv 11 0 (ahF iv l b).toNatClampNeg).toInt = 0 := by
  unfold wtF at h
  by_cases q : (ahF iv l b).toInt < 0
  · rw [if_pos q] at h; exact absurd h (by decide)
  · rw [if_neg q] at h
    by_cases w : (iv 11 0 (ahF iv l b).toNatClampNeg).toInt = 0
    · rw [if_pos w] at h; exact absurd h (by decide)
    · exact w
theorem tr_step {al : Al} {iv0 iv iv1 : Iv} {rv : Rv} {md : Mo} (hG : GI al iv0 rv) (h : BC iv0 rv) {li j : Nat} {m led c y d z x x' : Int32} {r : Option Nat} (hj : j < al.1 62) (i : trI iv0 iv li (some j) m x.toNatClampNeg) (hm : 0 < m.toInt) (hl : led = lsF m (hdF iv0 j)) (hr : r = oI (ahF iv0 j (bcF iv0 j))) (ec : c = iv 62 j 14) (ey : y = iv 59 0 c.toNatClampNeg) (ed : d = m - led) (ez : z = y + d) (e1 : iv1 = up3 iv 59 0 c.toNatClampNeg z) (_ : MA iv0 iv) (f : FR md iv0 iv) (hx : x'.toInt = x.toInt + 1) (hc : 0 ≤ x.toInt ∧ 0 ≤ c.toInt ∧ c.toInt ≤ 5) (hd : ¬ MD md 62 14 := by decide) : trI iv0 iv1 li r led x'.toNatClampNeg := by
  rw [clamp_s hx hc.1]
  generalize x.toNatClampNeg = n at i
  obtain ⟨a2, a3, a4⟩ := i
  have a1 : (stN iv0 li n).1 = j := (Option.some.inj (a4 hm).1).symm
  have e := st_go (iv := iv0) (l := li) (n := n) (by rw [a2]; exact hm)
  rw [a1, a2, ← hl] at e
  have hcau : c = iv0 14 0 j := by rw [ec, f 62 j 14 hd]; exact (h.2.1 j (by rw [hG.2.2.2.1.2]; omega)).symm
  refine ⟨by rw [e], fun k hk => ?_, fun hp => ?_⟩
  · rw [e, e1]
    show _ = (if k = (iv0 14 0 j).toNatClampNeg then _ else _)
    rw [← hcau]
    by_cases q : k = c.toNatClampNeg
    · rw [if_pos q, q, up3_self, ez, ey, ed, a3 _ (by rw [clamp_n]; omega)]
    · rw [if_neg q, up3_ne (fun z => q z.2.2)]; exact a3 k hk
  · rw [e]
    simp only [if_pos hp]
    have hp2 : 0 < (hdF iv0 j).toInt := by rw [hl] at hp; exact (ls_pos hp).2
    have hge := hd_pos hp2
    have hw := wt_done (ls_pos hp2).2
    refine ⟨by rw [hr]; unfold oI; rw [if_neg (by omega)], ?_⟩
    rw [← lg_done hG h.1 (ah_in hG h.1.1.1 hge) rfl]; exact hw
theorem tr_e1 {iv0 iv : Iv} {li : Nat} {at_ : Option Nat} {m x : Int32} (i : trI iv0 iv li at_ m x.toNatClampNeg) (h : x.toInt = 40) : ∀ k : Nat, k < 6 → iv 59 0 k = mtF iv0 li k := fun k hk => by
  have e : x.toNatClampNeg = 40 := by rw [clamp_n]; omega
  rw [e] at i; exact i.2.1 k hk
theorem tr_e2 {iv0 iv : Iv} {li : Nat} {at_ : Option Nat} {m x : Int32} (i : trI iv0 iv li at_ m x.toNatClampNeg) (h : x.toInt ≤ 40) (hm : m.toInt ≤ 0) : ∀ k : Nat, k < 6 → iv 59 0 k = mtF iv0 li k := fun k hk => by
  have e := st_stop (iv := iv0) (l := li) (n := x.toNatClampNeg) (by rw [i.1]; exact hm) (40 - x.toNatClampNeg)
  have c : x.toNatClampNeg = x.toInt.toNat := clamp_n
  rw [show x.toNatClampNeg + (40 - x.toNatClampNeg) = 40 by omega] at e
  unfold mtF; rw [e]; exact i.2.1 k hk
theorem tr_e3 {iv0 iv : Iv} {li : Nat} {m x : Int32} (i : trI iv0 iv li none m x.toNatClampNeg) (h : x.toInt ≤ 40) : ∀ k : Nat, k < 6 → iv 59 0 k = mtF iv0 li k := by
  refine tr_e2 i h ?_
  by_cases q : 0 < m.toInt
  · cases (i.2.2 q).1
  · omega
def BB (iv : Iv) (rv : Rv) : Prop := BC iv rv ∧ Ctkn iv rv ∧ Ctick iv rv
theorem bb_bm {iv : Iv} {rv : Rv} (h : BB iv rv) : BM iv rv := ⟨h.1.1, h.2.1, h.2.2⟩
theorem lfx_1 {iv : Iv} {rv : Rv} {t j : Nat} {r : Int32} (htk : tkk iv rv t) (h : r = mpX iv t) (h9 : r.toInt = -9) (ej : rv 65 t 2 = some j) : some j = some (lfF iv t) := by
  rcases mpx_t h with ⟨-, a⟩ | ⟨a, b⟩
  · unfold lfF; rw [if_pos a, ← ej, htk.2.2.2.2.1]; unfold thL; rw [htk.1]
  · omega
def BS (iv : Iv) (rv : Rv) : Prop := BM iv rv ∧ Coff iv rv
def cR (iv : Iv) : Nat → Nat
  | 0 => 0
  | n + 1 => cR iv n + (if (iv 60 0 n).toInt = 0 then 0 else 1)
theorem cR_le {iv : Iv} : ∀ n : Nat, cR iv n ≤ n
  | 0 => Nat.le_refl _
  | n + 1 => by
    have := cR_le (iv := iv) n
    show cR iv n + (if (iv 60 0 n).toInt = 0 then 0 else 1) ≤ n + 1
    split <;> omega
theorem cR_out {iv : Iv} {j : Nat} {v : Int32} : ∀ n : Nat, n ≤ j → cR (up3 iv 60 0 j v) n = cR iv n
  | 0, _ => rfl
  | n + 1, h => by
    show cR (up3 iv 60 0 j v) n + _ = cR iv n + _
    rw [cR_out n (by omega), up3_ne (fun q => by omega)]
theorem cR_put {iv : Iv} {j : Nat} {v : Int32} (h0 : (iv 60 0 j).toInt = 0) (hv : ¬ v.toInt = 0) : ∀ n : Nat, j < n → cR (up3 iv 60 0 j v) n = cR iv n + 1
  | 0, h => absurd h (Nat.not_lt_zero _)
  | n + 1, h => by
    show cR (up3 iv 60 0 j v) n + (if (up3 iv 60 0 j v 60 0 n).toInt = 0 then 0 else 1) = cR iv n + (if (iv 60 0 n).toInt = 0 then 0 else 1) + 1
    by_cases e : j = n
    · subst e; rw [cR_out j (Nat.le_refl _), up3_self, if_neg hv, if_pos h0]
    · rw [cR_put h0 hv n (by omega), up3_ne (fun z => e z.2.2.symm)]; omega
theorem cR_full {iv : Iv} : ∀ n : Nat, cR iv n = n → ∀ j : Nat, j < n → ¬ (iv 60 0 j).toInt = 0
  | 0, _, _, h => absurd h (Nat.not_lt_zero _)
  | n + 1, e, j, hj => by
    have e' : cR iv n + (if (iv 60 0 n).toInt = 0 then 0 else 1) = n + 1 := e
    have l := cR_le (iv := iv) n
    by_cases q : (iv 60 0 n).toInt = 0
    · rw [if_pos q] at e'; omega
    · rw [if_neg q] at e'
      by_cases w : j = n
      · rw [w]; exact q
      · exact cR_full n (by omega) j (by omega)
theorem cR_zero {iv : Iv} : ∀ n : Nat, (∀ j : Nat, j < n → (iv 60 0 j).toInt = 0) → cR iv n = 0
  | 0, _ => rfl
  | n + 1, h => by
    show cR iv n + (if (iv 60 0 n).toInt = 0 then 0 else 1) = 0
    rw [cR_zero n (fun j hj => h j (by omega)), if_pos (h n (Nat.lt_succ_self _))]
def QU (iv : Iv) (rv : Rv) (fd : Int32) : Prop := (∀ k : Nat, (k : Int) < fd.toInt → ∃ j : Nat, rv 61 0 k = some j ∧ (j : Int) < (iv 57 0 1).toInt ∧ ¬ (iv 60 0 j).toInt = 0) ∧ (∀ j : Nat, (j : Int) < (iv 57 0 1).toInt → ¬ (iv 60 0 j).toInt = 0 → ∃ k : Nat, (k : Int) < fd.toInt ∧ rv 61 0 k = some j) ∧ fd.toInt = cR iv (iv 57 0 1).toNatClampNeg
def RI (iv : Iv) (rv : Rv) (iv1 : Iv) (rv1 : Rv) (fd : Int32) (pi : Nat) (T : Int) (e : Int32) (n : Nat) : Prop := QU iv1 rv1 e ∧ iv1 57 0 1 = iv 57 0 1 ∧ (∀ j : Nat, (j : Int) < (iv 57 0 1).toInt → j < n → (¬ (iv1 60 0 j).toInt = 0 ↔ (¬ (iv 60 0 j).toInt = 0 ∨ S0 iv pi T j))) ∧ (∀ j : Nat, (j : Int) < (iv 57 0 1).toInt → n ≤ j → iv1 60 0 j = iv 60 0 j) ∧ (∀ k : Nat, (k : Int) < fd.toInt → rv1 61 0 k = rv 61 0 k) ∧ fd.toInt ≤ e.toInt
theorem ri_0 {iv : Iv} {rv : Rv} {fd : Int32} {pi : Nat} {T : Int} (h : QU iv rv fd) : RI iv rv iv rv fd pi T fd (0 : Int32).toNatClampNeg := ⟨h, rfl, fun j _ z => by rw [show (0 : Int32).toNatClampNeg = 0 from by decide] at z; omega, fun _ _ _ => rfl, fun _ _ => rfl, Int.le_refl _⟩
theorem ri_up {iv iv1 : Iv} {rv rv1 : Rv} {fd e x y : Int32} {pi : Nat} {T : Int} (h : y.toInt = x.toInt + 1) (h0 : 0 ≤ x.toInt) (i : RI iv rv iv1 rv1 fd pi T e (x.toNatClampNeg + 1)) : RI iv rv iv1 rv1 fd pi T e y.toNatClampNeg := by rw [clamp_s h h0]; exact i
theorem ri_keep {iv iv1 : Iv} {rv rv1 : Rv} {fd e x : Int32} {pi : Nat} {T : Int} (i : RI iv rv iv1 rv1 fd pi T e x.toNatClampNeg) (h0 : 0 ≤ x.toInt) (h1 : x.toInt < (iv 57 0 1).toInt) (hc : ¬ (iv1 60 0 x.toNatClampNeg).toInt = 0 ∨ ¬ (¬ (iv 11 0 x.toNatClampNeg).toInt = 0 ∧ (iv 5 0 x.toNatClampNeg).toInt = pi ∧ T ≤ (rlF iv x.toNatClampNeg).toInt)) : RI iv rv iv1 rv1 fd pi T e (x.toNatClampNeg + 1) := by
  have cx := ix_nat h0
  obtain ⟨a, b, c, d, f, g⟩ := i
  refine ⟨a, b, fun j hj hn => ?_, fun j hj hn => d j hj (by omega), f, g⟩
  by_cases q : j = x.toNatClampNeg
  · have s := d x.toNatClampNeg (by omega) (Nat.le_refl _)
    rw [q, s]
    rw [s] at hc
    rcases hc with hc | hc
    · exact ⟨fun z => Or.inl z, fun _ => hc⟩
    · exact ⟨fun z => Or.inl z, fun z => z.elim id (fun w => absurd w hc)⟩
  · exact c j hj (by omega)
theorem ri_put {iv iv1 iv2 : Iv} {rv rv1 rv2 : Rv} {fd e e' x : Int32} {pi j6 : Nat} {T : Int} (i : RI iv rv iv1 rv1 fd pi T e x.toNatClampNeg) (e1 : iv2 = up3 iv1 60 0 x.toNatClampNeg 1) (e2 : rv2 = up3 rv1 61 0 e.toNatClampNeg (some j6)) (hj : j6 = x.toNatClampNeg) (h0 : 0 ≤ x.toInt) (h1 : x.toInt < (iv 57 0 1).toInt) (he : e'.toInt = e.toInt + 1) (hz : (iv1 60 0 x.toNatClampNeg).toInt = 0) (hs : ¬ (iv 11 0 x.toNatClampNeg).toInt = 0 ∧ (iv 5 0 x.toNatClampNeg).toInt = pi ∧ T ≤ (rlF iv x.toNatClampNeg).toInt) (he0 : 0 ≤ e.toInt) : RI iv rv iv2 rv2 fd pi T e' (x.toNatClampNeg + 1) := by
  have cx := ix_nat h0
  have ce := ix_nat he0
  subst hj
  have t1 : (1 : Int32).toInt = 1 := by decide
  obtain ⟨⟨q1, q2, q3⟩, b, c, d, f, g⟩ := i
  have s57 : iv2 57 0 1 = iv 57 0 1 := by rw [e1, up3_ne (fun z => absurd z.1 (by decide))]; exact b
  have r60 : ∀ j, ¬ j = x.toNatClampNeg → iv2 60 0 j = iv1 60 0 j := fun j hj => by rw [e1, up3_ne (fun z => hj z.2.2)]
  have n60 : iv2 60 0 x.toNatClampNeg = 1 := by rw [e1, up3_self]
  have r61 : ∀ k, ¬ k = e.toNatClampNeg → rv2 61 0 k = rv1 61 0 k := fun k hk => by rw [e2, up3_ne (fun z => hk z.2.2)]
  have n61 : rv2 61 0 e.toNatClampNeg = some x.toNatClampNeg := by rw [e2, up3_self]
  rw [b] at q1 q2 q3
  refine ⟨⟨fun k hk => ?_, fun j hj hr => ?_, ?_⟩, s57, fun j hj hn => ?_, fun j hj hn => ?_, fun k hk => ?_, by omega⟩
  · rw [s57]
    by_cases q : k = e.toNatClampNeg
    · exact ⟨x.toNatClampNeg, by rw [q]; exact n61, by omega, by rw [n60, t1]; omega⟩
    · obtain ⟨j, a1, a2, a3⟩ := q1 k (by omega)
      refine ⟨j, by rw [r61 k q]; exact a1, a2, ?_⟩
      by_cases w : j = x.toNatClampNeg
      · rw [w, n60, t1]; omega
      · rw [r60 j w]; exact a3
  · rw [s57] at hj
    by_cases w : j = x.toNatClampNeg
    · exact ⟨e.toNatClampNeg, by omega, by rw [w]; exact n61⟩
    · rw [r60 j w] at hr
      obtain ⟨k, a1, a2⟩ := q2 j hj hr
      exact ⟨k, by omega, by rw [r61 k (by omega)]; exact a2⟩
  · have cn : (iv 57 0 1).toNatClampNeg = (iv 57 0 1).toInt.toNat := clamp_n
    rw [s57, e1, cR_put hz (by rw [t1]; omega) _ (by omega)]
    omega
  · by_cases w : j = x.toNatClampNeg
    · rw [w, n60, t1]; exact ⟨fun _ => Or.inr hs, fun _ => by omega⟩
    · rw [r60 j w]; exact c j hj (by omega)
  · rw [r60 j (by omega)]; exact d j hj (by omega)
  · rw [r61 k (by omega)]; exact f k hk
theorem ri_end {iv iv1 : Iv} {rv rv1 : Rv} {fd e x : Int32} {pi : Nat} {T : Int} (i : RI iv rv iv1 rv1 fd pi T e x.toNatClampNeg) (h : (iv 57 0 1).toInt ≤ x.toInt) : QU iv1 rv1 e ∧ (∀ j : Nat, (j : Int) < (iv 57 0 1).toInt → (¬ (iv1 60 0 j).toInt = 0 ↔ (¬ (iv 60 0 j).toInt = 0 ∨ S0 iv pi T j))) ∧ (∀ k : Nat, (k : Int) < fd.toInt → rv1 61 0 k = rv 61 0 k) := by
  have c : x.toNatClampNeg = x.toInt.toNat := clamp_n
  exact ⟨i.1, fun j hj => i.2.2.1 j hj (by omega), i.2.2.2.2.1⟩
theorem ri_full {al : Al} {iv iv1 : Iv} {rv rv1 : Rv} (hG : GI al iv rv) {fd e x : Int32} {pi : Nat} {T : Int} (i : RI iv rv iv1 rv1 fd pi T e x.toNatClampNeg) (h : 40 ≤ e.toInt) (_ : e.toInt ≤ 40) : QU iv1 rv1 e ∧ (∀ j : Nat, (j : Int) < (iv 57 0 1).toInt → (¬ (iv1 60 0 j).toInt = 0 ↔ (¬ (iv 60 0 j).toInt = 0 ∨ S0 iv pi T j))) ∧ (∀ k : Nat, (k : Int) < fd.toInt → rv1 61 0 k = rv 61 0 k) := by
  obtain ⟨⟨q1, q2, q3⟩, b, c, d, f, g⟩ := i
  have n := hG.2.2.2.1.2
  have l40 := al62 hG
  rw [b] at q3
  have cn : (iv 57 0 1).toNatClampNeg = (iv 57 0 1).toInt.toNat := clamp_n
  have le := cR_le (iv := iv1) (iv 57 0 1).toNatClampNeg
  have full := cR_full (iv := iv1) (iv 57 0 1).toNatClampNeg (by omega)
  refine ⟨⟨q1, q2, by rw [b]; exact q3⟩, fun j hj => ?_, f⟩
  have rj := full j (by omega)
  rcases Nat.lt_or_ge j x.toNatClampNeg with w | w
  · exact c j hj w
  · have s := d j hj w
    rw [s] at rj ⊢
    exact ⟨fun z => Or.inl z, fun _ => rj⟩
theorem QU.nn {iv : Iv} {rv : Rv} {fd : Int32} (h : QU iv rv fd) : ∀ k : Nat, (k : Int) < fd.toInt → ∃ j, rv 61 0 k = some j := fun k hk => (h.1 k hk).imp (fun _ z => z.1)
theorem sy_z {iv iv1 : Iv} {x y : Int32} (h : ∀ k : Nat, (k : Int) < x.toInt → (iv 60 0 k).toInt = 0) (e : iv1 = up3 iv 60 0 x.toNatClampNeg 0) (h0 : 0 ≤ x.toInt) (hy : y.toInt = x.toInt + 1) : ∀ k : Nat, (k : Int) < y.toInt → (iv1 60 0 k).toInt = 0 := fun k hk => by
  rw [e]
  by_cases q : k = x.toNatClampNeg
  · rw [q, up3_self]; decide
  · rw [up3_ne (fun z => q z.2.2)]; exact h k (by have := ix_nat h0; omega)
theorem qu_0 {iv iv1 : Iv} {rv : Rv} {md : Mo} (f : FR md iv iv1) (h : ∀ k : Nat, (k : Int) < (iv 57 0 1).toInt → (iv1 60 0 k).toInt = 0) (hd : ¬ MD md 57 1 := by decide) : QU iv1 rv 0 := by
  have z : (0 : Int32).toInt = 0 := by decide
  refine ⟨fun k hk => by rw [z] at hk; omega, fun j hj hr => ?_, ?_⟩
  · rw [f 57 0 1 hd] at hj; exact absurd (h j hj) hr
  · rw [z, f 57 0 1 hd, cR_zero _ (fun j hj => h j (by rw [clamp_n] at hj; omega))]; rfl
def mnQ (iv : Iv) (rv : Rv) (G : Nat) (s : Int32) (n : Nat) : Prop := (s = -9 ∧ ∀ k j : Nat, k < n → rv 61 0 k = some j → ¬ (iv 6 0 j).toInt = G) ∨ ((∃ k j : Nat, k < n ∧ rv 61 0 k = some j ∧ (iv 6 0 j).toInt = G ∧ s = raF iv j) ∧ ∀ k j : Nat, k < n → rv 61 0 k = some j → (iv 6 0 j).toInt = G → s.toInt ≤ (raF iv j).toInt)
def SI (iv iv1 : Iv) (rv1 : Rv) (pi : Nat) (T : Int) (pj : Nat) (fd s : Int32) (n : Nat) : Prop := QU iv1 rv1 fd ∧ (∀ j : Nat, (j : Int) < (iv 57 0 1).toInt → S0 iv pi T j → ¬ (iv1 60 0 j).toInt = 0) ∧ (∀ j : Nat, (j : Int) < (iv 57 0 1).toInt → ¬ (iv1 60 0 j).toInt = 0 → Rch iv pi T j) ∧ (∀ k j : Nat, k < n → rv1 61 0 k = some j → ∀ b : Nat, (b : Int) < (iv 57 0 1).toInt → Ed iv j b → ¬ (iv1 60 0 b).toInt = 0) ∧ mnQ iv rv1 pj s n
theorem S0_m {iv iv' : Iv} (h : MA iv iv') {A T : Int} {l : Nat} : S0 iv' A T l ↔ S0 iv A T l := by
  simp only [S0, rl_m h, h 11 _ (by decide), h 5 _ (by decide)]
theorem sy_0 {iv iv1 iv2 : Iv} {rv rv1 rv2 : Rv} {md : Mo} {pi pj : Nat} {T : Int} {r : Int32} (hB : BL iv rv) (hp : QU iv2 rv2 r ∧ (∀ j : Nat, (j : Int) < (iv1 57 0 1).toInt → (¬ (iv2 60 0 j).toInt = 0 ↔ (¬ (iv1 60 0 j).toInt = 0 ∨ S0 iv1 pi T j))) ∧ (∀ k : Nat, (k : Int) < (0 : Int32).toInt → rv2 61 0 k = rv1 61 0 k)) (f : FR md iv iv1) (hz : ∀ k : Nat, (k : Int) < (iv 57 0 1).toInt → (iv1 60 0 k).toInt = 0) (hd : ¬ MD md 57 1 := by decide) (hm : ∀ t, t < 49 → mdl t → t ∉ md.1 ∧ t ∉ md.2.map (fun p => p.1) := by decide) : SI iv iv2 rv2 pi T pj r (-9) (0 : Int32).toNatClampNeg := by
  have ma := ma_fr f hm
  have n6 := congrArg Int32.toInt hB.1.1
  have e57 := f 57 0 1 hd
  rw [show (0 : Int32).toNatClampNeg = 0 from by decide]
  refine ⟨hp.1, fun j hj s => ?_, fun j hj s => ?_, fun k j hk => absurd hk (Nat.not_lt_zero _), Or.inl ⟨rfl, fun k j hk => absurd hk (Nat.not_lt_zero _)⟩⟩
  · exact (hp.2.1 j (by rw [e57]; exact hj)).mpr (Or.inr ((S0_m ma).mpr s))
  · rcases (hp.2.1 j (by rw [e57]; exact hj)).mp s with w | w
    · exact absurd (hz j hj) w
    · exact Rch.s0 (by omega) ((S0_m ma).mp w)
theorem sy_q {iv iv1 : Iv} {rv1 : Rv} {pi pj j : Nat} {T : Int} {fd s x : Int32} (i : SI iv iv1 rv1 pi T pj fd s x.toNatClampNeg) (er : some j = rv1 61 0 x.toNatClampNeg) (h : x.toInt < fd.toInt ∧ 0 ≤ x.toInt) : (j : Int) < (iv1 57 0 1).toInt ∧ ¬ (iv1 60 0 j).toInt = 0 := by
  obtain ⟨j', a1, a2, a3⟩ := i.1.1 x.toNatClampNeg (by rw [ix_nat h.2]; exact h.1)
  rw [← er] at a1; cases a1
  exact ⟨a2, a3⟩
theorem mn_keep {iv : Iv} {rv : Rv} {G n j : Nat} {s : Int32} (h : mnQ iv rv G s n) (er : some j = rv 61 0 n) (hj : ¬ (iv 6 0 j).toInt = G ∨ (¬ s.toInt = -9 ∧ s.toInt ≤ (raF iv j).toInt)) : mnQ iv rv G s (n + 1) := by
  rcases h with ⟨h1, h2⟩ | ⟨⟨k, q, a1, a2, a3, a4⟩, h2⟩
  · refine Or.inl ⟨h1, fun k q hk e => ?_⟩
    by_cases w : k = n
    · rw [w, ← er] at e; cases e
      rcases hj with z | z
      · exact z
      · exact absurd (by rw [h1]; decide) z.1
    · exact h2 k q (by omega) e
  · refine Or.inr ⟨⟨k, q, by omega, a2, a3, a4⟩, fun k q hk e g => ?_⟩
    by_cases w : k = n
    · rw [w, ← er] at e; cases e
      rcases hj with z | z
      · exact absurd g z
      · exact z.2
    · exact h2 k q (by omega) e g
theorem mn_put {iv : Iv} {rv : Rv} {G n j : Nat} {s x : Int32} (h : mnQ iv rv G s n) (er : some j = rv 61 0 n) (hj : (iv 6 0 j).toInt = G) (ex : x = raF iv j) (hs : s.toInt = -9 ∨ (raF iv j).toInt < s.toInt) : mnQ iv rv G x (n + 1) := by
  refine Or.inr ⟨⟨n, j, Nat.lt_succ_self _, er.symm, hj, ex⟩, fun k q hk e g => ?_⟩
  by_cases w : k = n
  · rw [w, ← er] at e; cases e; rw [ex]; exact Int.le_refl _
  · rcases h with ⟨h1, h2⟩ | ⟨⟨k', q', a1, a2, a3, a4⟩, h2⟩
    · exact absurd g (h2 k q (by omega) e)
    · have := h2 k q (by omega) e g
      have r0 := ra_ge iv q'
      rw [← a4] at r0
      rw [ex]; omega
theorem mn_cong {iv : Iv} {rv rv' : Rv} {G n : Nat} {s : Int32} (h : mnQ iv rv G s n) (e : ∀ k : Nat, k < n → rv' 61 0 k = rv 61 0 k) : mnQ iv rv' G s n := by
  rcases h with ⟨h1, h2⟩ | ⟨⟨k, q, a1, a2, a3, a4⟩, h2⟩
  · exact Or.inl ⟨h1, fun k q hk z => h2 k q hk (by rw [← e k hk]; exact z)⟩
  · exact Or.inr ⟨⟨k, q, a1, by rw [e k a1]; exact a2, a3, a4⟩, fun k q hk z => h2 k q hk (by rw [← e k hk]; exact z)⟩
theorem rch_done {iv : Iv} {A T : Int} {l : Nat} (h : Rch iv A T l) : ¬ (iv 11 0 l).toInt = 0 := h (fun l => ¬ (iv 11 0 l).toInt = 0) (fun _ _ s => s.1) (fun _ _ _ _ _ e => e.1)
theorem sy_lg {al : Al} {iv iv1 : Iv} {rv rv1 : Rv} (hG : GI al iv rv) (hB : BL iv rv) {pi pj j : Nat} {T : Int} {fd s x : Int32} (hj : j < al.1 62) (i : SI iv iv1 rv1 pi T pj fd s x.toNatClampNeg) (h : (j : Int) < (iv1 57 0 1).toInt ∧ ¬ (iv1 60 0 j).toInt = 0) : ¬ (iv 62 j 7).toInt = 0 := by
  have n := hG.2.2.2.1.2
  rw [← lg_done hG hB hj rfl]
  exact rch_done (i.2.2.1 j (by omega) h.2)
theorem sy_step {al : Al} {iv iv1 iv2 : Iv} {rv rv1 rv2 : Rv} {md : Mo} (hG : GI al iv rv) (hB : BL iv rv) (hO : Coff iv rv) (f : FR md iv iv1) {pi pj j p : Nat} {T : Int} {fd s s' x x' y tm conn r : Int32} (hj : j < al.1 62) (i : SI iv iv1 rv1 pi T pj fd s x.toNatClampNeg) (er : some j = rv1 61 0 x.toNatClampNeg) (hr : ¬ (iv1 60 0 j).toInt = 0)
    (hp : QU iv2 rv2 r ∧ (∀ q : Nat, (q : Int) < (iv1 57 0 1).toInt → (¬ (iv2 60 0 q).toInt = 0 ↔ (¬ (iv1 60 0 q).toInt = 0 ∨ S0 iv1 p tm.toInt q))) ∧ (∀ k : Nat, (k : Int) < fd.toInt → rv2 61 0 k = rv1 61 0 k)) (hto : (p : Int) = (iv 6 0 j).toInt) (mn : mnQ iv rv1 pj s' (x.toNatClampNeg + 1)) (ey : y = raF iv j) (et : tm = y + conn) (hc : conn.toInt = (iv 15 0 2).toInt) (hx : x'.toInt = x.toInt + 1 ∧ 0 ≤ x.toInt ∧ x.toInt < fd.toInt) (hd : ¬ MD md 57 1 := by decide) (hm : ∀ t, t < 49 → mdl t → t ∉ md.1 ∧ t ∉ md.2.map (fun p => p.1) := by decide) : SI iv iv2 rv2 pi T pj r s' x'.toNatClampNeg := by
  have ma := ma_fr f hm
  have n := hG.2.2.2.1.2
  have l40 := al62 hG
  have n6 := congrArg Int32.toInt hB.1.1
  have e57 := f 57 0 1 hd
  have cx := ix_nat hx.2.1
  rw [clamp_s hx.1 hx.2.1]
  rw [e57] at hp
  have b2 := (hG.1 15 0 2 (h1_15 hG) (by decide))
  have b2a : (0 : Int) ≤ (iv 15 0 2).toInt := b2.1
  have b2b : (iv 15 0 2).toInt ≤ 900 := b2.2
  have raj := (rb_k hG hO (k := j) (by omega)).2
  have tt : tm.toInt = (raF iv j).toInt + (iv 15 0 2).toInt := by
    rw [et, ← hc, ← ey]; exact fb_addI (by rw [ey]; omega) (by rw [ey]; omega)
  have eq : ∀ q : Nat, (q : Int) < (iv 57 0 1).toInt → (S0 iv1 p tm.toInt q ↔ Ed iv j q) := fun q hq => by
    rw [S0_m ma]
    have rlq := (rb_k hG hO (k := q) (by omega)).1
    have sb : (rlF iv q - raF iv j).toInt = (rlF iv q).toInt - (raF iv j).toInt := fb_subI (by omega) (by omega)
    unfold S0 Ed
    rw [sb]
    omega
  obtain ⟨q1, a1, a2, a3, -⟩ := i
  refine ⟨hp.1, fun q hq s0 => ?_, fun q hq s0 => ?_, fun k q hk e b hb ed => ?_, ?_⟩
  · exact (hp.2.1 q hq).mpr (Or.inl (a1 q hq s0))
  · rcases (hp.2.1 q hq).mp s0 with w | w
    · exact a2 q hq w
    · exact Rch.st (by omega) (by omega) (a2 j (by omega) hr) ((eq q hq).mp w)
  · rw [hp.2.2 k (by omega)] at e
    by_cases w : k = x.toNatClampNeg
    · rw [w, ← er] at e; cases e
      exact (hp.2.1 b hb).mpr (Or.inr ((eq b hb).mpr ed))
    · exact (hp.2.1 b hb).mpr (Or.inl (a3 k q (by omega) e b hb ed))
  · exact mn_cong mn (fun k hk => hp.2.2 k (by omega))
theorem sy_end {al : Al} {iv iv1 : Iv} {rv rv1 : Rv} (hG : GI al iv rv) (hB : BL iv rv) {pi pj : Nat} {T : Int} {fd s x : Int32} (i : SI iv iv1 rv1 pi T pj fd s x.toNatClampNeg) (h : (x.toInt = fd.toInt ∧ 0 ≤ x.toInt) ∧ (iv1 57 0 1).toInt = (iv 57 0 1).toInt) : s = sbN iv (Rch iv pi T) pj (iv 0 0 6).toNatClampNeg := by
  have n6 := congrArg Int32.toInt hB.1.1
  obtain ⟨⟨q1, q2, q3⟩, a1, a2, a3, mn⟩ := i
  rw [h.2] at q1 q2
  have cx : x.toNatClampNeg = x.toInt.toNat := clamp_n
  have c6 : (iv 0 0 6).toNatClampNeg = (iv 0 0 6).toInt.toNat := clamp_n
  have all : ∀ k : Nat, (k : Int) < fd.toInt → k < x.toNatClampNeg := fun k hk => by omega
  have rc : ∀ j : Nat, (j : Int) < (iv 0 0 6).toInt → Rch iv pi T j → ¬ (iv1 60 0 j).toInt = 0 := fun j hj r => by
    have z := r (fun l => (l : Int) < (iv 0 0 6).toInt → ¬ (iv1 60 0 l).toInt = 0) (fun l _ s hl => a1 l (by omega) s) (fun a b ha hb s ed _ => by
      obtain ⟨k, k1, k2⟩ := q2 a (by omega) (s ha)
      exact a3 k a (all k k1) k2 b (by omega) ed)
    exact z hj
  refine sb_uni ?_ (sb_c _)
  rcases mn with ⟨m1, m2⟩ | ⟨⟨k, j, b1, b2, b3, b4⟩, m2⟩
  · refine Or.inl ⟨m1, fun l hl hr => ?_⟩
    obtain ⟨k, k1, k2⟩ := q2 l (by omega) (rc l (by omega) hr)
    exact m2 k l (all k k1) k2
  · refine Or.inr ⟨?_, fun l hl hr hg => ?_⟩
    · by_cases w : (k : Int) < fd.toInt
      · obtain ⟨j', d1, d2, d3⟩ := q1 k w
        rw [b2] at d1; cases d1
        exact ⟨j, by omega, a2 j (by omega) d3, b3, b4⟩
      · exfalso; omega
    · obtain ⟨k, k1, k2⟩ := q2 l (by omega) (rc l (by omega) hr)
      exact m2 k l (all k k1) k2 hg
theorem rc_11 {al : Al} {iv : Iv} {rv : Rv} (hG : GI al iv rv) (h : BL iv rv) {j n : Nat} (hk : j < al.1 62) (hj : j = n) : (iv 11 0 n).toInt = (iv 62 j 7).toInt := lg_done hG h hk hj
theorem rc_5 {al : Al} {iv : Iv} {rv : Rv} (hG : GI al iv rv) (h : BL iv rv) {j n p : Nat} (hk : j < al.1 62) (hj : j = n) (e : rv 62 j 1 = some p) : (p : Int) = (iv 5 0 n).toInt := by
  subst hj; exact lf_fr hG h.1.2.1 hk e
theorem rc_60 {al : Al} {iv iv1 : Iv} {rv : Rv} {md : Mo} (hG : GI al iv rv) (h : BL iv rv) {j n : Nat} {x : Int32} (hk : j < al.1 62) (hj : j = n) (f : FR md iv iv1) (e : x = iv1 62 j 10) (hz : ¬ (iv 62 j 7).toInt = 0) (hd : ¬ MD md 62 10 := by decide) : x.toInt = (rlF iv n).toInt := by
  subst hj
  rw [e, f 62 j 10 hd, (rt_x hG h hk hz).1]
theorem hsz40 {al : Al} {iv : Iv} {rv : Rv} {t : Nat} (hG : GI al iv rv) (ht : t < al.1 65) (htk : tkk iv rv t) : (iv 19 0 t).toNatClampNeg ≤ 40 := by
  have := sz4 hG ht
  rw [htk.1, clamp_n]; omega
theorem ms_bef {iv : Iv} {t : Nat} : ∀ n : Nat, n ≤ 40 → 0 ≤ (msN iv t n).toInt → ∀ j : Nat, j < (msN iv t n).toNatClampNeg → ¬ bad iv t j := by
  intro n
  induction n with
  | zero => intro _ h; exact absurd h (by show ¬ 0 ≤ (-1 : Int32).toInt; decide)
  | succ n ih =>
    intro hn h
    have e : msN iv t (n + 1) = (if 0 ≤ (msN iv t n).toInt then msN iv t n else if bad iv t n then nI n else -1) := rfl
    by_cases q : 0 ≤ (msN iv t n).toInt
    · rw [if_pos q] at e; rw [e]; exact ih (by omega) q
    · rw [if_neg q] at e
      by_cases w : bad iv t n
      · rw [if_pos w] at e; rw [e, nI_clamp (by omega)]
        exact ms_alln n (by omega) (by omega)
      · rw [if_neg w] at e; rw [e] at h; exact absurd h (by decide)
theorem ms_before {iv : Iv} {t : Nat} {i : Int32} (e : i = msF iv t) (h : 0 ≤ i.toInt) (h4 : (iv 19 0 t).toInt ≤ 40) : ∀ j : Nat, j < i.toNatClampNeg → ¬ bad iv t j := by
  rw [e] at h ⊢
  exact ms_bef (iv := iv) (t := t) (iv 19 0 t).toNatClampNeg (by rw [clamp_n]; omega) h
theorem sx_last {iv : Iv} {rv : Rv} {t j : Nat} (htk : tkk iv rv t) (e : rv 65 t 2 = some j) : j = thL iv t := by
  have z := Option.some.inj (e.symm.trans htk.2.2.2.2.1)
  rw [z]; unfold thL; rw [htk.1]
theorem thL_rw {iv : Iv} {rv : Rv} {t : Nat} (htk : tkk iv rv t) : thL iv t = rwL iv t ((iv 19 0 t).toNatClampNeg - 1) ∧ (iv 19 0 t).toNatClampNeg - 1 < (iv 19 0 t).toNatClampNeg := by
  have a := htk.2.1
  rw [← htk.1] at a
  have c : (iv 19 0 t).toNatClampNeg = (iv 19 0 t).toInt.toNat := clamp_n
  refine ⟨?_, by omega⟩
  unfold thL rwL; rw [show 4 * t + (iv 19 0 t).toNatClampNeg - 1 = 4 * t + ((iv 19 0 t).toNatClampNeg - 1) by omega]
theorem sx_ra {al : Al} {iv : Iv} {rv : Rv} (hG : GI al iv rv) (h : BM iv rv) {t j : Nat} {x : Int32} (e : x = iv 62 j 11) (hth : j = thL iv t) (hm : (msF iv t).toInt < 0) (ht : t < al.1 65) (htk : tkk iv rv t) : x = raF iv (thL iv t) := by
  subst hth
  obtain ⟨t1, t2⟩ := thL_rw htk
  have hb : thL iv t < al.1 62 := (hG.2.1 65 t 2 62 ht (by decide) rfl).1 _ (by rw [htk.2.2.2.2.1]; unfold thL; rw [htk.1])
  have d : ¬ (iv 11 0 (thL iv t)).toInt = 0 := by
    rw [t1]
    exact nbd (ms_all (n := (iv 19 0 t).toNatClampNeg) (hsz40 hG ht htk) hm _ t2)
  rw [lg_done hG h.1 hb rfl] at d
  rw [e]; exact (rt_x hG h.1 hb d).2.1
theorem sx_lv {al : Al} {iv : Iv} {rv : Rv} (hG : GI al iv rv) (h : BM iv rv) {j n : Nat} {x : Int32} (hb : j < al.1 62) (hj : j = n) (e : x = iv 62 j 5) : x.toInt = (iv 9 0 n).toInt := by
  subst hj; rw [e, lf_lv hG h.1.1.2.1 hb]
theorem sx_ar {al : Al} {iv : Iv} {rv : Rv} (hG : GI al iv rv) (h : BM iv rv) {j n : Nat} {x : Int32} (hb : j < al.1 62) (hj : j = n) (e : x = iv 62 j 6) : x = iv 10 0 n := by
  subst hj; rw [e]; exact (lf_k hG h.1.1.2.1 hb).2.2.2.2.2.1.symm
theorem sx_lg {al : Al} {iv : Iv} {rv : Rv} (hG : GI al iv rv) (h : BM iv rv) {t j : Nat} {i : Int32} (hb : j < al.1 62) (hj : j = rwL iv t (i.toNatClampNeg - 1)) (hms : i = msF iv t) (hi : 0 < i.toInt) (h4 : (iv 19 0 t).toInt ≤ 40) : ¬ (iv 62 j 7).toInt = 0 := by
  rw [← lg_done hG h.1 hb rfl, hj]
  exact nbd (ms_before hms (by omega) h4 _ (by rw [clamp_n]; omega))
theorem so_neg {iv : Iv} {t : Nat} {r : Int32} (h : r = soF iv t) : ((soF iv t).toInt < 0 ∧ r.toInt = -9) ∨ (¬ (soF iv t).toInt < 0 ∧ ¬ r.toInt = -9) := by
  by_cases q : (soF iv t).toInt < 0
  · refine Or.inl ⟨q, ?_⟩
    rw [h]
    have e : soF iv t = (if (msF iv t).toInt < 0 then raF iv (thL iv t) else sbN iv (Rch iv (iv 5 0 (rwL iv t (msF iv t).toNatClampNeg)).toInt (stT iv t)) (iv 6 0 (thL iv t)).toInt (iv 0 0 6).toNatClampNeg) := rfl
    by_cases w : (msF iv t).toInt < 0
    · rw [if_pos w] at e
      rw [e] at q
      have := ra_ge iv (thL iv t); omega
    · rw [if_neg w] at e
      rw [e] at q ⊢
      rcases sb_c (iv := iv) (P := Rch iv (iv 5 0 (rwL iv t (msF iv t).toNatClampNeg)).toInt (stT iv t)) (G := (iv 6 0 (thL iv t)).toInt) (iv 0 0 6).toNatClampNeg with z | ⟨⟨k, -, -, -, z⟩, -⟩
      · rw [z.1]; decide
      · rw [z] at q; have := ra_ge iv k; omega
  · exact Or.inr ⟨q, by rw [h]; omega⟩
end
