section
theorem sp_no {S r z : Int32} {K A : Prop} (hs : S = z) (hz : z ≠ 0) (hr : r = z) (k : K) : (S = 0 ∧ A) ∨ (S ≠ 0 ∧ r = S ∧ K) := Or.inr ⟨by rw [hs]; exact hz, hr.trans hs.symm, k⟩
def spJud (l c m far cost : Int32) (cnt : Int) : Int32 := if ¬ ((0 ≤ l.toInt ∧ l.toInt ≤ 3) ∧ (0 ≤ c.toInt ∧ c.toInt ≤ 5)) then -1 else if m.toInt < 0 ∨ far.toInt < 0 ∨ cost.toInt < 0 then -4 else if 9999 < m.toInt ∨ 9999 < far.toInt ∨ 9999 < cost.toInt ∨ 40 ≤ cnt then -6 else 0
def spStop (l a b : Int32) (cnt : Int) : Int32 := if ¬ (0 ≤ l.toInt ∧ l.toInt ≤ 3) then -1 else if a.toInt < 0 ∨ b.toInt < a.toInt then -4 else if 4000 < b.toInt ∨ 20 ≤ cnt then -6 else 0
def spLaw (l d m far s : Int32) (day cnt : Int) : Int32 := if ¬ (0 ≤ l.toInt ∧ l.toInt ≤ 3) then -1 else if d.toInt < day ∨ m.toInt < 0 ∨ far.toInt < 0 ∨ s.toInt < 0 then -4 else if 4000 < d.toInt ∨ 9999 < m.toInt ∨ 9999 < far.toInt ∨ 9999 < s.toInt ∨ 30 ≤ cnt then -6 else 0
def spExc (l c d : Int32) (cnt : Int) : Int32 := if ¬ ((0 ≤ l.toInt ∧ l.toInt ≤ 3) ∧ (0 ≤ c.toInt ∧ c.toInt ≤ 5)) then -1 else if d.toInt < 0 then -4 else if 4000 < d.toInt ∨ 40 ≤ cnt then -6 else 0
def spMiles (a b v : Int32) : Int32 := if ¬ ((0 ≤ a.toInt ∧ a.toInt ≤ 9) ∧ (0 ≤ b.toInt ∧ b.toInt ≤ 9) ∧ ¬ a.toInt = b.toInt) then -1 else if v.toInt < 0 then -4 else if 9999 < v.toInt then -6 else 0
def spLeg (a b p c l r : Int32) (cnt : Int) : Int32 := if ¬ ((0 ≤ a.toInt ∧ a.toInt ≤ 9) ∧ (0 ≤ b.toInt ∧ b.toInt ≤ 9) ∧ ¬ a.toInt = b.toInt ∧ (0 ≤ p.toInt ∧ p.toInt ≤ 5) ∧ (0 ≤ c.toInt ∧ c.toInt ≤ 5)) then -1 else if l.toInt < 0 ∨ r.toInt ≤ l.toInt then -4 else if 20000 < r.toInt ∨ 40 ≤ cnt then -6 else 0
def spTrav (g : Int32) (legs cnt : Int) : Int32 := if ¬ (0 ≤ g.toInt ∧ g.toInt < legs) then -1 else if 20 ≤ cnt then -6 else 0
def spCause (g c : Int32) (legs : Int) : Int32 := if ¬ ((0 ≤ g.toInt ∧ g.toInt < legs) ∧ (0 ≤ c.toInt ∧ c.toInt ≤ 5)) then -1 else 0
def spOwes (p t v : Int32) (trav : Int) : Int32 := if ¬ ((0 ≤ p.toInt ∧ p.toInt ≤ 4) ∧ (0 ≤ t.toInt ∧ t.toInt < trav)) then -1 else if v.toInt < 0 then -4 else if 9999 < v.toInt then -6 else 0
def spLog (g a b : Int32) (legs : Int) : Int32 := if ¬ (0 ≤ g.toInt ∧ g.toInt < legs) then -1 else if a.toInt < 0 ∨ b.toInt < 0 then -4 else if 30000 < a.toInt ∨ 30000 < b.toInt then -6 else 0
theorem up2_if {iv : Iv} {t i x y : Nat} {v : Int32} {k : Nat} : up3 (up3 iv t i x v) t i y v t i k = if k = x ∨ k = y then v else iv t i k := by
  simp only [up3]
  by_cases h1 : k = x <;> by_cases h2 : k = y <;> simp [h1, h2]
theorem up2_ij {iv : Iv} {t i1 k1 i2 k2 : Nat} {v : Int32} {i k : Nat} : up3 (up3 iv t i1 k1 v) t i2 k2 v t i k = if (i = i1 ∧ k = k1) ∨ (i = i2 ∧ k = k2) then v else iv t i k := by
  simp only [up3]
  by_cases h1 : i = i1 ∧ k = k1 <;> by_cases h2 : i = i2 ∧ k = k2 <;> simp [h1, h2]
theorem pnum {al : Al} {iv : Iv} {rv : Rv} (hG : GI al iv rv) {i : Nat} (hi : i < al.1 56) : (iv 56 i 0).toInt = i ∧ i < 10 := by
  have h : i < 10 := by rw [hG.2.2.1.2.1] at hi; exact hi
  exact ⟨hG.2.2.2.2.2.2.1.2.2 i h, h⟩
theorem mbw {al : Al} {iv : Iv} {rv : Rv} (hG : GI al iv rv) {pi pj : Nat} (hi : pi < al.1 56) (hj : pj < al.1 56) {x1 x2 : Int32} {j : Nat} (e1 : x1.toInt = (iv 56 pi 0).toInt) (ej : rv 54 0 x1.toNatClampNeg = some j) (e2 : x2.toInt = (iv 56 pj 0).toInt) : j = pi ∧ x2.toNatClampNeg = pj := by
  obtain ⟨a1, b1⟩ := pnum hG hi
  obtain ⟨a2, b2⟩ := pnum hG hj
  have q := Option.some.inj (ej.symm.trans (dall hG (by omega) (by omega)))
  rw [clamp_n] at q ⊢
  exact ⟨by omega, by omega⟩
theorem leg_cnt {al al' : Al} {iv iv' : Iv} {rv rv' : Rv} (hG : GI al iv rv) {r pl cr lv_ ar : Int32} {pf pt_ : Nat} (h : ∃ (a : Nat) (siz : Int32), siz.toInt = al.1 62 + 1 ∧ al' = grow al 62 a ∧ iv' = legIv iv (al.1 62) r pl cr lv_ ar siz ∧ rv' = legRv rv (al.1 62) pf pt_) : (iv' 57 0 1).toInt = (iv 57 0 1).toInt + 1 := by
  obtain ⟨a, siz, hs, -, e, -⟩ := h
  have n := hG.2.2.2.1.2
  rw [e, n, ← hs]
  exact congrArg Int32.toInt (up3_self _ _ _ _ _)
theorem tick_cnt {al al' : Al} {iv iv' : Iv} {rv rv' : Rv} (hG : GI al iv rv) {r : Int32} {li : Nat} (h : ∃ (a a6 a7 : Nat) (siz : Int32), siz.toInt = al.1 65 + 1 ∧ al' = grow (grow (grow al 65 a) 66 a6) 67 a7 ∧ iv' = tickIv iv (al.1 65) r siz ∧ rv' = tickRv rv (al.1 65) li) : (iv' 63 0 1).toInt = (iv 63 0 1).toInt + 1 := by
  obtain ⟨a, a6, a7, siz, hs, -, e, -⟩ := h
  have n := hG.2.2.2.2.1.2
  rw [e, n, ← hs]
  exact congrArg Int32.toInt (up3_self _ _ _ _ _)
def dayF (n t : Int) : Int := if 0 ≤ n ∧ n ≤ 4000 - t then t + n else t
theorem lst4_v {w x : Int32} (e : x = lst4 w.toNatClampNeg) (h0 : 0 ≤ w.toInt) (h1 : w.toInt < 4) : (w.toInt = 3 ∧ x.toInt = 1) ∨ (¬ w.toInt = 3 ∧ x.toInt = 0) := by
  rw [e, clamp_n]; unfold lst4
  by_cases q : w.toInt.toNat = 3
  · rw [if_pos q]; exact Or.inl ⟨by omega, by decide⟩
  · rw [if_neg q]; exact Or.inr ⟨by omega, by decide⟩
theorem grt4_v {w x : Int32} (e : x = grt4 w.toNatClampNeg) (h0 : 0 ≤ w.toInt) (h1 : w.toInt < 4) : (w.toInt = 0 ∧ x.toInt = 200) ∨ (w.toInt = 1 ∧ x.toInt = 900) ∨ (w.toInt = 2 ∧ x.toInt = 300) ∨ (w.toInt = 3 ∧ x.toInt = 9) := by
  rw [e, clamp_n]; unfold grt4
  by_cases q : w.toInt.toNat = 0
  · rw [if_pos q]; exact Or.inl ⟨by omega, by decide⟩
  · rw [if_neg q]
    by_cases q1 : w.toInt.toNat = 1
    · rw [if_pos q1]; exact Or.inr (Or.inl ⟨by omega, by decide⟩)
    · rw [if_neg q1]
      by_cases q2 : w.toInt.toNat = 2
      · rw [if_pos q2]; exact Or.inr (Or.inr (Or.inl ⟨by omega, by decide⟩))
      · rw [if_neg q2]; exact Or.inr (Or.inr (Or.inr ⟨by omega, by decide⟩))
def spBar (l n : Int32) : Int32 := if ¬ (0 ≤ l.toInt ∧ l.toInt ≤ 3) then -1 else if n.toInt < 1 then -4 else if 3000 < n.toInt then -6 else 0
def spSet (w v : Int32) : Int32 := if ¬ (0 ≤ w.toInt ∧ w.toInt ≤ 3) then -2 else if v.toInt < 0 ∨ (w.toInt = 3 ∧ v.toInt < 1) then -4 else if (w.toInt = 0 ∧ 200 < v.toInt) ∨ (w.toInt = 1 ∧ 900 < v.toInt) ∨ (w.toInt = 2 ∧ 300 < v.toInt) ∨ (w.toInt = 3 ∧ 9 < v.toInt) then -6 else 0
def spSeen (a b v : Int32) : Int32 := if ¬ ((0 ≤ a.toInt ∧ a.toInt ≤ 9) ∧ (0 ≤ b.toInt ∧ b.toInt ≤ 9) ∧ ¬ a.toInt = b.toInt) then -1 else if v.toInt < -600 then -4 else if 600 < v.toInt then -6 else 0
theorem pix {al : Al} {iv : Iv} {rv : Rv} (hG : GI al iv rv) {x : Int32} {j : Nat} (ej : rv 53 0 x.toNatClampNeg = some j) (h0 : 0 ≤ x.toInt) (h1 : x.toInt < 10) : j = x.toNatClampNeg := Option.some.inj (ej.symm.trans (pall hG h0 h1))
def mvI (iv0 iv : Iv) (fl tl sh : Int32) (n : Nat) : Prop := ∀ k : Nat, iv 56 k 2 = (if k < n ∧ iv0 56 k 2 = fl then tl else iv0 56 k 2) ∧ iv 56 k 3 = (if k < n ∧ iv0 56 k 2 = fl then iv0 56 k 3 + sh else iv0 56 k 3)
theorem mv_0 {iv : Iv} {fl tl sh : Int32} : mvI iv iv fl tl sh (0 : Int32).toNatClampNeg := fun k => by
  have z : (0 : Int32).toNatClampNeg = 0 := by decide
  rw [z]; simp
theorem mv_up {iv0 iv : Iv} {fl tl sh x y : Int32} (h : y.toInt = x.toInt + 1) (h0 : 0 ≤ x.toInt) (i : mvI iv0 iv fl tl sh (x.toNatClampNeg + 1)) : mvI iv0 iv fl tl sh y.toNatClampNeg := by rw [clamp_s h h0]; exact i
theorem mv_end {iv0 iv : Iv} {fl tl sh x : Int32} (i : mvI iv0 iv fl tl sh x.toNatClampNeg) (h : x.toInt = 10) : mvI iv0 iv fl tl sh 10 := by
  have e : x.toNatClampNeg = 10 := by rw [clamp_n]; omega
  rw [e] at i; exact i
theorem mv_keep {iv0 iv : Iv} {fl tl sh x : Int32} {n j : Nat} (i : mvI iv0 iv fl tl sh n) (e : x = iv 56 j 2) (hj : j = n) (hc : ¬ x.toInt = fl.toInt) : mvI iv0 iv fl tl sh (n + 1) := fun k => by
  subst hj
  obtain ⟨a, b⟩ := i k
  by_cases q : k = j
  · subst q
    rw [if_neg (fun z => absurd z.1 (Nat.lt_irrefl _))] at a b
    have w : ¬ iv0 56 k 2 = fl := fun z => hc (by rw [e, a, z])
    rw [if_neg (fun z => w z.2), if_neg (fun z => w z.2)]; exact ⟨a, b⟩
  · have w : (k < j + 1) = (k < j) := by apply propext; omega
    simp only [w]; exact ⟨a, b⟩
theorem mv_put {iv0 iv iv1 iv2 : Iv} {fl tl sh x y z : Int32} {n j : Nat} (i : mvI iv0 iv fl tl sh n) (e : x = iv 56 j 2) (hj : j = n) (hc : x.toInt = fl.toInt) (e1 : iv1 = up3 iv 56 j 2 tl) (ey : y = iv1 56 j 3) (ez : z = y + sh) (e2 : iv2 = up3 iv1 56 j 3 z) : mvI iv0 iv2 fl tl sh (n + 1) := fun k => by
  subst hj
  obtain ⟨a, b⟩ := i k
  by_cases q : k = j
  · subst q
    rw [if_neg (fun z => absurd z.1 (Nat.lt_irrefl _))] at a b
    have w : iv0 56 k 2 = fl := by rw [← a, ← e]; exact (fa_eq _ _).mpr hc
    rw [if_pos ⟨Nat.lt_succ_self _, w⟩, if_pos ⟨Nat.lt_succ_self _, w⟩]
    refine ⟨?_, ?_⟩
    · rw [e2, up3_ne (fun z => absurd z.2.2 (by decide)), e1, up3_self]
    · rw [e2, up3_self, ez, ey, e1, up3_ne (fun z => absurd z.2.2 (by decide)), b]
  · have w : (k < j + 1) = (k < j) := by apply propext; omega
    simp only [w]
    rw [e2, up3_ne (fun z => q z.2.1), up3_ne (fun z => q z.2.1), e1, up3_ne (fun z => q z.2.1), up3_ne (fun z => q z.2.1)]
    exact ⟨a, b⟩
def seL (L : Nat → Int32) (a b k : Nat) : Int32 := if (L a).toInt < (L b).toInt then (if L k = L b then L a else L k) else (if L k = L a then L b else L k)
def seO (L O : Nat → Int32) (a b : Nat) (v : Int32) (k : Nat) : Int32 := if (L a).toInt < (L b).toInt then (if L k = L b then O k + (O a - v - O b) else O k) else (if L k = L a then O k + (O b + v - O a) else O k)
def tkP (iv iv' : Iv) (a b : Nat) (v r : Int32) : Prop := ((iv 56 a 2).toInt = (iv 56 b 2).toInt ∧ r.toInt = (if iv 56 a 3 - iv 56 b 3 = v then 1 else 0) ∧ ∀ k : Nat, iv' 56 k 2 = iv 56 k 2 ∧ iv' 56 k 3 = iv 56 k 3) ∨
  (¬ (iv 56 a 2).toInt = (iv 56 b 2).toInt ∧ r.toInt = 1 ∧ ∀ k : Nat, k < 10 → iv' 56 k 2 = seL (fun k => iv 56 k 2) a b k ∧ iv' 56 k 3 = seO (fun k => iv 56 k 2) (fun k => iv 56 k 3) a b v k)
theorem tk_fit {iv : Iv} {a b : Nat} {x y z v r : Int32} (e1 : x = iv 56 a 3) (e2 : y = iv 56 b 3) (e3 : z = x - y) (h : (r.toInt = 1 ∧ z.toInt = v.toInt) ∨ (r.toInt = 0 ∧ ¬ z.toInt = v.toInt)) : r.toInt = (if iv 56 a 3 - iv 56 b 3 = v then 1 else 0) := by
  rw [← e1, ← e2, ← e3]
  rcases h with ⟨h1, h2⟩ | ⟨h1, h2⟩
  · rw [if_pos ((fa_eq _ _).mpr h2)]; exact h1
  · rw [if_neg (fun z => h2 (by rw [z]))]; exact h1
theorem tk_a {iv iv' : Iv} {a b : Nat} {x1 x2 x3 x4 x5 x6 v : Int32} (h : mvI iv iv' x1 x2 x6 10) (e1 : x1 = iv 56 b 2) (e2 : x2 = iv 56 a 2) (e3 : x3 = iv 56 a 3) (e4 : x4 = x3 - v) (e5 : x5 = iv 56 b 3) (e6 : x6 = x4 - x5) (hc : (iv 56 a 2).toInt < (iv 56 b 2).toInt) : ∀ k : Nat, k < 10 → iv' 56 k 2 = seL (fun k => iv 56 k 2) a b k ∧ iv' 56 k 3 = seO (fun k => iv 56 k 2) (fun k => iv 56 k 3) a b v k := fun k hk => by
  obtain ⟨p, q⟩ := h k
  simp only [hk, true_and] at p q
  unfold seL seO
  simp only [if_pos hc]
  rw [p, q, e6, e5, e4, e3, e2, e1]; exact ⟨rfl, rfl⟩
theorem tk_b {iv iv' : Iv} {a b : Nat} {x1 x2 x3 x4 x5 x6 v : Int32} (h : mvI iv iv' x1 x2 x6 10) (e1 : x1 = iv 56 a 2) (e2 : x2 = iv 56 b 2) (e3 : x3 = iv 56 b 3) (e4 : x4 = x3 + v) (e5 : x5 = iv 56 a 3) (e6 : x6 = x4 - x5) (hc : ¬ (iv 56 a 2).toInt < (iv 56 b 2).toInt) : ∀ k : Nat, k < 10 → iv' 56 k 2 = seL (fun k => iv 56 k 2) a b k ∧ iv' 56 k 3 = seO (fun k => iv 56 k 2) (fun k => iv 56 k 3) a b v k := fun k hk => by
  obtain ⟨p, q⟩ := h k
  simp only [hk, true_and] at p q
  unfold seL seO
  simp only [if_neg hc]
  rw [p, q, e6, e5, e4, e3, e2, e1]; exact ⟨rfl, rfl⟩
theorem mx0 (v : Int32) : mxF 0 v = oF v := by
  unfold mxF oF
  have z : (0 : Int32).toInt = 0 := by decide
  by_cases h : (0 : Int32) < v
  · rw [if_pos h, if_neg (by rw [fa_lt] at h; omega)]
  · rw [if_neg h]
    rw [fa_lt] at h
    split
    · rfl
    · exact (fa_eq _ _).mpr (by omega)
def xrl (iv : Iv) (rv : Rv) (k : Nat) : Int32 := oF (iv 62 k 8 - iv 56 ((rv 62 k 1).getD 0) 3)
def xra (iv : Iv) (rv : Rv) (k : Nat) : Int32 := oF (iv 62 k 9 - iv 56 ((rv 62 k 2).getD 0) 3)
def crk (iv : Iv) (rv : Rv) (k : Nat) : Prop := iv 62 k 10 = xrl iv rv k ∧ iv 62 k 11 = xra iv rv k ∧ iv 62 k 12 = oF (xrl iv rv k - iv 62 k 5) ∧ iv 62 k 13 = oF (xra iv rv k - iv 62 k 6)
def CRT (iv : Iv) (rv : Rv) : Prop := ∀ k : Nat, (k : Int) < (iv 57 0 1).toInt → ¬ (iv 62 k 7).toInt = 0 → crk iv rv k
def CRN (iv : Iv) (rv : Rv) (n : Nat) : Prop := ∀ k : Nat, k < n → ¬ (iv 62 k 7).toInt = 0 → crk iv rv k
def prQ (iv : Iv) (rv : Rv) (iv' : Iv) (rv' : Rv) (li : Nat) : Prop := crk iv' rv' li ∧ ∀ k, k ≠ li → crk iv rv k → crk iv' rv' k
theorem crk_cong {iv iv' : Iv} {rv rv' : Rv} {k : Nat} (h : ∀ f, 5 ≤ f → iv' 62 k f = iv 62 k f) (hp : ∀ i, iv' 56 i 3 = iv 56 i 3) (hr : ∀ f, rv' 62 k f = rv 62 k f) (c : crk iv rv k) : crk iv' rv' k := by
  obtain ⟨a, b, c, d⟩ := c
  unfold crk xrl xra
  rw [h 5 (by decide), h 6 (by decide), h 8 (by decide), h 9 (by decide), h 10 (by decide), h 11 (by decide), h 12 (by decide), h 13 (by decide), hp, hp, hr, hr]
  exact ⟨a, b, c, d⟩
theorem pr_ok {iv iva ivb ivc ivd : Iv} {rv : Rv} {li j1 j2 : Nat} {x3 x10 x13 r14 x23 x30 x33 r34 x43 x47 x50 r51 x60 x64 x67 r68 : Int32} (e3 : x3 = iv 62 li 8) (ej1 : rv 62 li 1 = some j1) (e10 : x10 = iv 56 j1 3) (e13 : x13 = x3 - x10) (q14 : r14 = mxF 0 x13) (ea : iva = up3 iv 62 li 10 r14) (e23 : x23 = iva 62 li 9) (ej2 : rv 62 li 2 = some j2) (e30 : x30 = iva 56 j2 3) (e33 : x33 = x23 - x30) (q34 : r34 = mxF 0 x33) (eb : ivb = up3 iva 62 li 11 r34)
    (e43 : x43 = ivb 62 li 10) (e47 : x47 = ivb 62 li 5) (e50 : x50 = x43 - x47) (q51 : r51 = mxF 0 x50) (ec : ivc = up3 ivb 62 li 12 r51) (e60 : x60 = ivc 62 li 11) (e64 : x64 = ivc 62 li 6) (e67 : x67 = x60 - x64) (q68 : r68 = mxF 0 x67) (ed : ivd = up3 ivc 62 li 13 r68) : prQ iv rv ivd rv li := by
  have n : ∀ {f : Iv} {t k k' i : Nat} {v : Int32}, k ≠ k' → up3 f 62 li k' v t i k = f t i k := fun h => up3_ne (fun z => h z.2.2)
  have n6 : ∀ {f : Iv} {k k' i : Nat} {v : Int32}, up3 f 62 li k' v 56 i k = f 56 i k := up3_ne (fun z => absurd z.1 (by decide))
  have g : ∀ (t i k : Nat), (k < 10 ∨ t = 56) → ivd t i k = iv t i k := fun t i k h => by
    rw [ed, ec, eb, ea]
    rcases h with h | h
    · rw [n (by omega), n (by omega), n (by omega), n (by omega)]
    · subst h; rw [n6, n6, n6, n6]
  have f10 : ivd 62 li 10 = r14 := by rw [ed, n (by decide), ec, n (by decide), eb, n (by decide), ea, up3_self]
  have f11 : ivd 62 li 11 = r34 := by rw [ed, n (by decide), ec, n (by decide), eb, up3_self]
  have f12 : ivd 62 li 12 = r51 := by rw [ed, n (by decide), ec, up3_self]
  have f13 : ivd 62 li 13 = r68 := by rw [ed, up3_self]
  have h10 : r14 = xrl ivd rv li := by
    unfold xrl
    rw [g 62 li 8 (Or.inl (by decide)), g 56 _ 3 (Or.inr rfl), q14, mx0, e13, e3, e10, ej1]; rfl
  have h11 : r34 = xra ivd rv li := by
    unfold xra
    rw [g 62 li 9 (Or.inl (by decide)), g 56 _ 3 (Or.inr rfl), q34, mx0, e33, e23, e30, ea, n (by decide), n6, ej2]; rfl
  refine ⟨⟨f10.trans h10, f11.trans h11, ?_, ?_⟩, fun k hk => crk_cong (fun f _ => ?_) (fun i => g 56 i 3 (Or.inr rfl)) (fun _ => rfl)⟩
  · rw [f12, q51, mx0, e50, e43, e47, g 62 li 5 (Or.inl (by decide)), ← h10, eb, n (by decide), ea, up3_self, n (by decide), n (by decide)]
  · rw [f13, q68, mx0, e67, e60, e64, g 62 li 6 (Or.inl (by decide)), ← h11, ec, n (by decide), eb, up3_self, n (by decide), n (by decide), ea, n (by decide)]
  · rw [ed, up3_ne (fun z => hk z.2.1), ec, up3_ne (fun z => hk z.2.1), eb, up3_ne (fun z => hk z.2.1), ea, up3_ne (fun z => hk z.2.1)]
theorem tix {al : Al} {iv : Iv} {rv : Rv} (hG : GI al iv rv) {x : Int32} {j : Nat} (ej : some j = rv 58 0 x.toNatClampNeg) (h0 : 0 ≤ x.toInt) (h1 : x.toInt < (iv 57 0 1).toInt) : j = x.toNatClampNeg := Option.some.inj (ej.trans (tall hG h0 h1))
theorem crn_0 {iv : Iv} {rv : Rv} : CRN iv rv (0 : Int32).toNatClampNeg := fun k hk => absurd hk (by rw [show (0 : Int32).toNatClampNeg = 0 from by decide]; omega)
theorem crn_up {iv : Iv} {rv : Rv} {x y : Int32} (h : y.toInt = x.toInt + 1) (h0 : 0 ≤ x.toInt) (i : CRN iv rv (x.toNatClampNeg + 1)) : CRN iv rv y.toNatClampNeg := by rw [clamp_s h h0]; exact i
theorem crn_end {iv : Iv} {rv : Rv} {x : Int32} (i : CRN iv rv x.toNatClampNeg) (h : (iv 57 0 1).toInt ≤ x.toInt) : CRT iv rv := fun k hk => i k (by rw [clamp_n]; omega)
theorem crn_keep {iv : Iv} {rv : Rv} {n j : Nat} {x : Int32} (i : CRN iv rv n) (e : x = iv 62 j 7) (hj : j = n) (hc : x.toInt = 0) : CRN iv rv (n + 1) := fun k hk hz => by
  by_cases q : k = n
  · exact absurd (by rw [q, ← hj, ← e]; exact hc) hz
  · exact i k (by omega) hz
theorem crn_put {iv iv' : Iv} {rv rv' : Rv} {n j : Nat} {md : Mo} (i : CRN iv rv n) (p : prQ iv rv iv' rv' j) (hj : j = n) (f : FR md iv iv') (_ : FR md rv rv') (hd : ¬ MD md 62 7 := by decide) : CRN iv' rv' (n + 1) := fun k hk hz => by
  subst hj
  by_cases q : k = j
  · rw [q]; exact p.1
  · exact p.2 k q (i k (by omega) (by rw [f 62 k 7 hd] at hz; exact hz))
abbrev crtM (md : Mo) : Prop := ¬ MD md 57 1 ∧ ¬ MD md 56 3 ∧ (∀ f, f < 15 → ¬ MD md 62 f)
theorem crt_fr {iv iv' : Iv} {rv rv' : Rv} {md : Mo} (f : FR md iv iv') (g : FR md rv rv') (hd : ¬ MD md 57 1 ∧ ¬ MD md 56 3 ∧ 62 ∉ md.1 ∧ 62 ∉ md.2.map (fun p => p.1)) : CRT iv rv → CRT iv' rv' := fun h k hk hz => by
  rw [f 57 0 1 hd.1] at hk
  rw [f.arr 62 k 7 hd.2.2] at hz
  exact crk_cong (fun q _ => f.arr 62 k q hd.2.2) (fun i => f 56 i 3 hd.2.1) (fun q => g.arr 62 k q hd.2.2) (h k hk hz)
def enP (iv iv' : Iv) (li : Nat) (a b : Int32) : Prop := ∀ k : Nat, iv' 62 k 7 = (if k = li then 1 else iv 62 k 7) ∧ iv' 62 k 8 = (if k = li then a else iv 62 k 8) ∧ iv' 62 k 9 = (if k = li then b else iv 62 k 9)
def enK (iv iv' : Iv) : Prop := ∀ k : Nat, iv' 62 k 7 = iv 62 k 7 ∧ iv' 62 k 8 = iv 62 k 8 ∧ iv' 62 k 9 = iv 62 k 9
theorem en_fr {iv iv' : Iv} {md : Mo} (f : FR md iv iv') (hd : 62 ∉ md.1 ∧ 62 ∉ md.2.map (fun p => p.1)) : enK iv iv' := fun k => ⟨f.arr 62 k 7 hd, f.arr 62 k 8 hd, f.arr 62 k 9 hd⟩
theorem en_ok {iv i1 i2 i3 iv' : Iv} {li : Nat} {a b : Int32} {md : Mo} (e1 : i1 = up3 iv 62 li 8 a) (e2 : i2 = up3 i1 62 li 9 b) (e3 : i3 = up3 i2 62 li 7 1) (f : FR md i3 iv') (h7 : ¬ MD md 62 7 := by decide) (h8 : ¬ MD md 62 8 := by decide) (h9 : ¬ MD md 62 9 := by decide) : enP iv iv' li a b := fun k => by
  rw [f 62 k 7 h7, f 62 k 8 h8, f 62 k 9 h9, e3, e2, e1]
  simp [up3]
theorem en_crt {iv i1 i2 i3 iv' : Iv} {rv rv' : Rv} {li : Nat} {a b : Int32} {md : Mo} (h : CRT iv rv) (e1 : i1 = up3 iv 62 li 8 a) (e2 : i2 = up3 i1 62 li 9 b) (e3 : i3 = up3 i2 62 li 7 1) (f : FR md i3 iv') (_ : FR md rv rv') (p : prQ i3 rv iv' rv' li) (h7 : ¬ MD md 62 7 := by decide) (h5 : ¬ MD md 57 1 := by decide) : CRT iv' rv' := fun k hk hz => by
  have o : ∀ t i q, ¬ (t = 62 ∧ i = li) → i3 t i q = iv t i q := fun t i q w => by
    rw [e3, up3_ne (fun z => w ⟨z.1, z.2.1⟩), e2, up3_ne (fun z => w ⟨z.1, z.2.1⟩), e1, up3_ne (fun z => w ⟨z.1, z.2.1⟩)]
  rw [f 57 0 1 h5, o 57 0 1 (fun z => absurd z.1 (by decide))] at hk
  by_cases q : k = li
  · rw [q]; exact p.1
  · rw [f 62 k 7 h7, o 62 k 7 (fun z => q z.2)] at hz
    exact p.2 k q (crk_cong (fun f _ => o 62 k f (fun z => q z.2)) (fun i => o 56 i 3 (fun z => absurd z.1 (by decide))) (fun _ => rfl) (h k hk hz))
theorem tk_r {iv iv' : Iv} {a b : Nat} {v r r' : Int32} (h : tkP iv iv' a b v r) (e : r'.toInt = r.toInt) : tkP iv iv' a b v r' := by
  unfold tkP; rw [e]; exact h
theorem tk_fr {iv iv1 iv' : Iv} {a b : Nat} {v r r' : Int32} {md : Mo} (h : tkP iv iv1 a b v r) (e : r'.toInt = r.toInt) (f : FR md iv1 iv') (h2 : ¬ MD md 56 2 := by decide) (h3 : ¬ MD md 56 3 := by decide) : tkP iv iv' a b v r' := by
  unfold tkP; rw [e]
  exact h.imp (fun z => ⟨z.1, z.2.1, fun k => by rw [f 56 k 2 h2, f 56 k 3 h3]; exact z.2.2 k⟩) (fun z => ⟨z.1, z.2.1, fun k hk => by rw [f 56 k 2 h2, f 56 k 3 h3]; exact z.2.2 k hk⟩)
theorem crt_tk {iv iv' : Iv} {rv rv' : Rv} {a b : Nat} {v r : Int32} {md : Mo} (h : CRT iv rv) (p : tkP iv iv' a b v r) (hr : r.toInt = 0) (f : FR md iv iv') (g : FR md rv rv') (h1 : ¬ MD md 57 1 := by decide) (h2 : 62 ∉ md.1 ∧ 62 ∉ md.2.map (fun p => p.1) := by decide) : CRT iv' rv' := fun k hk hz => by
  rw [f 57 0 1 h1] at hk
  rw [f.arr 62 k 7 h2] at hz
  rcases p with ⟨-, -, p⟩ | ⟨-, p, -⟩
  · exact crk_cong (fun q _ => f.arr 62 k q h2) (fun i => (p i).2) (fun q => g.arr 62 k q h2) (h k hk hz)
  · omega
def tkM (iv iv' : Iv) (a b : Nat) (v r : Int32) : Prop := ((iv 3 0 a).toInt = (iv 3 0 b).toInt ∧ r.toInt = (if iv 4 0 a - iv 4 0 b = v then 1 else 0) ∧ ∀ k : Nat, iv' 3 0 k = iv 3 0 k ∧ iv' 4 0 k = iv 4 0 k) ∨
  (¬ (iv 3 0 a).toInt = (iv 3 0 b).toInt ∧ r.toInt = 1 ∧ ∀ k : Nat, k < 10 → iv' 3 0 k = seL (fun k => iv 3 0 k) a b k ∧ iv' 4 0 k = seO (fun k => iv 3 0 k) (fun k => iv 4 0 k) a b v k)
theorem sn_fit {iv : Iv} {a b : Nat} {x y z v r : Int32} (e1 : x = iv 4 0 a) (e2 : y = iv 4 0 b) (e3 : z = x - y) (h : (r.toInt = 1 ∧ z.toInt = v.toInt) ∨ (r.toInt = 0 ∧ ¬ z.toInt = v.toInt)) : r.toInt = (if iv 4 0 a - iv 4 0 b = v then 1 else 0) := by
  rw [← e1, ← e2, ← e3]
  rcases h with ⟨h1, h2⟩ | ⟨h1, h2⟩
  · rw [if_pos ((fa_eq _ _).mpr h2)]; exact h1
  · rw [if_neg (fun z => h2 (by rw [z]))]; exact h1
def snI (iv0 iv : Iv) (a b : Nat) (v : Int32) (n : Nat) : Prop := ∀ k : Nat, iv 3 0 k = (if k < n then seL (fun k => iv0 3 0 k) a b k else iv0 3 0 k) ∧ iv 4 0 k = (if k < n then seO (fun k => iv0 3 0 k) (fun k => iv0 4 0 k) a b v k else iv0 4 0 k)
theorem sn_0 {iv : Iv} {a b : Nat} {v : Int32} : snI iv iv a b v (0 : Int32).toNatClampNeg := fun k => by
  have z : (0 : Int32).toNatClampNeg = 0 := by decide
  rw [z]; simp
theorem sn_up {iv0 iv : Iv} {a b : Nat} {v x y : Int32} (h : y.toInt = x.toInt + 1) (h0 : 0 ≤ x.toInt) (i : snI iv0 iv a b v (x.toNatClampNeg + 1)) : snI iv0 iv a b v y.toNatClampNeg := by rw [clamp_s h h0]; exact i
theorem sn_end {iv0 iv : Iv} {a b : Nat} {v x : Int32} (i : snI iv0 iv a b v x.toNatClampNeg) (h : x.toInt = 10) : ∀ k : Nat, k < 10 → iv 3 0 k = seL (fun k => iv0 3 0 k) a b k ∧ iv 4 0 k = seO (fun k => iv0 3 0 k) (fun k => iv0 4 0 k) a b v k := fun k hk => by
  have e : x.toNatClampNeg = 10 := by rw [clamp_n]; omega
  have q := i k
  rw [e, if_pos hk, if_pos hk] at q; exact q
theorem sn_st {iv0 iv iv2 : Iv} {a b : Nat} {v : Int32} {n : Nat} (i : snI iv0 iv a b v n) (h3 : iv2 3 0 n = seL (fun k => iv0 3 0 k) a b n) (h4 : iv2 4 0 n = seO (fun k => iv0 3 0 k) (fun k => iv0 4 0 k) a b v n) (o : ∀ k, k ≠ n → iv2 3 0 k = iv 3 0 k ∧ iv2 4 0 k = iv 4 0 k) : snI iv0 iv2 a b v (n + 1) := fun k => by
  by_cases q : k = n
  · subst q; rw [if_pos (Nat.lt_succ_self _), if_pos (Nat.lt_succ_self _)]; exact ⟨h3, h4⟩
  · have w : (k < n + 1) = (k < n) := by apply propext; omega
    simp only [w]; rw [(o k q).1, (o k q).2]; exact i k
theorem sn_k {iv0 iv : Iv} {a b : Nat} {v : Int32} {n : Nat} (i : snI iv0 iv a b v n) (h1 : (iv0 3 0 a).toInt < (iv0 3 0 b).toInt → ¬ (iv 3 0 n).toInt = (iv0 3 0 b).toInt) (h2 : ¬ (iv0 3 0 a).toInt < (iv0 3 0 b).toInt → ¬ (iv 3 0 n).toInt = (iv0 3 0 a).toInt) : snI iv0 iv a b v (n + 1) := by
  obtain ⟨p, q⟩ := i n
  rw [if_neg (Nat.lt_irrefl _)] at p q
  rw [p] at h1 h2
  refine sn_st i ?_ ?_ (fun _ _ => ⟨rfl, rfl⟩)
  · rw [p]; unfold seL
    by_cases c : (iv0 3 0 a).toInt < (iv0 3 0 b).toInt
    · simp only [if_pos c]; rw [if_neg (fun z => h1 c (by rw [z]))]
    · simp only [if_neg c]; rw [if_neg (fun z => h2 c (by rw [z]))]
  · rw [q]; unfold seO
    by_cases c : (iv0 3 0 a).toInt < (iv0 3 0 b).toInt
    · simp only [if_pos c]; rw [if_neg (fun z => h1 c (by rw [z]))]
    · simp only [if_neg c]; rw [if_neg (fun z => h2 c (by rw [z]))]
theorem ring_a (x v a b : Int32) : x - (v - a + b) = x + (a - v - b) := by grind
theorem ring_b (x v a b : Int32) : x + (v - a + b) = x + (b + v - a) := by grind
theorem sn_p1 {iv0 iv iv1 iv2 : Iv} {a b : Nat} {v x1 x2 x3 x4 x z kv : Int32} {n : Nat} (i : snI iv0 iv a b v n) (f1 : x1 = iv0 4 0 a) (f2 : x2 = v - x1) (f3 : x3 = iv0 4 0 b) (f4 : x4 = x2 + x3) (ex : x = iv 4 0 n) (ez : z = x - x4) (e1 : iv1 = up3 iv 4 0 n z) (e2 : iv2 = up3 iv1 3 0 n kv) (hc : (iv0 3 0 a).toInt < (iv0 3 0 b).toInt) (hq : (iv 3 0 n).toInt = (iv0 3 0 b).toInt) (hk : kv.toInt = (iv0 3 0 a).toInt) : snI iv0 iv2 a b v (n + 1) := by
  obtain ⟨p, q⟩ := i n
  rw [if_neg (Nat.lt_irrefl _)] at p q
  rw [p] at hq
  have hq' := (fa_eq _ _).mpr hq
  refine sn_st i ?_ ?_ (fun k hk => ?_)
  · rw [e2, up3_self]; unfold seL; simp only [if_pos hc, hq', if_true]; exact (fa_eq _ _).mpr hk
  · rw [e2, up3_ne (fun z => absurd z.1 (by decide)), e1, up3_self, ez, ex, q, f4, f3, f2, f1]; unfold seO; simp only [if_pos hc, hq', if_true]; exact ring_a _ _ _ _
  · rw [e2, up3_ne (fun z => hk z.2.2), up3_ne (fun z => hk z.2.2), e1, up3_ne (fun z => hk z.2.2), up3_ne (fun z => hk z.2.2)]; exact ⟨rfl, rfl⟩
theorem sn_p2 {iv0 iv iv1 iv2 : Iv} {a b : Nat} {v x1 x2 x3 x4 x z kv : Int32} {n : Nat} (i : snI iv0 iv a b v n) (f1 : x1 = iv0 4 0 a) (f2 : x2 = v - x1) (f3 : x3 = iv0 4 0 b) (f4 : x4 = x2 + x3) (ex : x = iv 4 0 n) (ez : z = x + x4) (e1 : iv1 = up3 iv 4 0 n z) (e2 : iv2 = up3 iv1 3 0 n kv) (hc : ¬ (iv0 3 0 a).toInt < (iv0 3 0 b).toInt) (hq : (iv 3 0 n).toInt = (iv0 3 0 a).toInt) (hk : kv.toInt = (iv0 3 0 b).toInt) : snI iv0 iv2 a b v (n + 1) := by
  obtain ⟨p, q⟩ := i n
  rw [if_neg (Nat.lt_irrefl _)] at p q
  rw [p] at hq
  have hq' := (fa_eq _ _).mpr hq
  refine sn_st i ?_ ?_ (fun k hk => ?_)
  · rw [e2, up3_self]; unfold seL; simp only [if_neg hc, hq', if_true]; exact (fa_eq _ _).mpr hk
  · rw [e2, up3_ne (fun z => absurd z.1 (by decide)), e1, up3_self, ez, ex, q, f4, f3, f2, f1]; unfold seO; simp only [if_neg hc, hq', if_true]; exact ring_b _ _ _ _
  · rw [e2, up3_ne (fun z => hk z.2.2), up3_ne (fun z => hk z.2.2), e1, up3_ne (fun z => hk z.2.2), up3_ne (fun z => hk z.2.2)]; exact ⟨rfl, rfl⟩
def lgM (iv iv' : Iv) (a b pp cc lv rr : Int32) : Prop := ∀ k : Nat, iv' 5 0 k = (if k = (iv 0 0 6).toNatClampNeg then a else iv 5 0 k) ∧ iv' 6 0 k = (if k = (iv 0 0 6).toNatClampNeg then b else iv 6 0 k) ∧ iv' 7 0 k = (if k = (iv 0 0 6).toNatClampNeg then pp else iv 7 0 k) ∧ iv' 8 0 k = (if k = (iv 0 0 6).toNatClampNeg then cc else iv 8 0 k) ∧ iv' 9 0 k = (if k = (iv 0 0 6).toNatClampNeg then lv else iv 9 0 k) ∧ iv' 10 0 k = (if k = (iv 0 0 6).toNatClampNeg then rr else iv 10 0 k)
def lgK (iv iv' : Iv) : Prop := ∀ k : Nat, iv' 5 0 k = iv 5 0 k ∧ iv' 6 0 k = iv 6 0 k ∧ iv' 7 0 k = iv 7 0 k ∧ iv' 8 0 k = iv 8 0 k ∧ iv' 9 0 k = iv 9 0 k ∧ iv' 10 0 k = iv 10 0 k
theorem lg_fr {iv iv' : Iv} {md : Mo} (f : FR md iv iv') (hd : ∀ t, t < 11 → 5 ≤ t → t ∉ md.1 ∧ t ∉ md.2.map (fun p => p.1)) : lgK iv iv' := fun k => ⟨f.arr 5 0 k (hd 5 (by decide) (by decide)), f.arr 6 0 k (hd 6 (by decide) (by decide)), f.arr 7 0 k (hd 7 (by decide) (by decide)), f.arr 8 0 k (hd 8 (by decide) (by decide)), f.arr 9 0 k (hd 9 (by decide) (by decide)), f.arr 10 0 k (hd 10 (by decide) (by decide))⟩
theorem lg_ok {iv i1 i2 i3 i4 i5 i6 i7 : Iv} {a b pp cc lv rr x1 x2 x3 x4 x5 x6 z : Int32} (e1 : i1 = up3 iv 5 0 x1.toNatClampNeg a) (e2 : i2 = up3 i1 6 0 x2.toNatClampNeg b) (e3 : i3 = up3 i2 7 0 x3.toNatClampNeg pp) (e4 : i4 = up3 i3 8 0 x4.toNatClampNeg cc) (e5 : i5 = up3 i4 9 0 x5.toNatClampNeg lv) (e6 : i6 = up3 i5 10 0 x6.toNatClampNeg rr) (e7 : i7 = up3 i6 0 0 6 z) (h1 : x1.toInt = (iv 0 0 6).toInt) (h2 : x2.toInt = (iv 0 0 6).toInt) (h3 : x3.toInt = (iv 0 0 6).toInt) (h4 : x4.toInt = (iv 0 0 6).toInt) (h5 : x5.toInt = (iv 0 0 6).toInt) (h6 : x6.toInt = (iv 0 0 6).toInt) : lgM iv i7 a b pp cc lv rr := fun k => by
  rw [clamp_eq h1] at e1
  rw [clamp_eq h2] at e2
  rw [clamp_eq h3] at e3
  rw [clamp_eq h4] at e4
  rw [clamp_eq h5] at e5
  rw [clamp_eq h6] at e6
  generalize (iv 0 0 6).toNatClampNeg = n at e1 e2 e3 e4 e5 e6 ⊢
  have d : ∀ {f : Iv} {t t' i q i' q' : Nat} {v : Int32}, t' ≠ t → up3 f t i q v t' i' q' = f t' i' q' := fun h => up3_ne (fun z => h z.1)
  have s : ∀ {f : Iv} {t : Nat} {v : Int32}, up3 f t 0 n v t 0 k = if k = n then v else f t 0 k := by
    intro f t v
    simp [up3]
  refine ⟨?_, ?_, ?_, ?_, ?_, ?_⟩
  · rw [e7, d (by decide), e6, d (by decide), e5, d (by decide), e4, d (by decide), e3, d (by decide), e2, d (by decide), e1, s]
  · rw [e7, d (by decide), e6, d (by decide), e5, d (by decide), e4, d (by decide), e3, d (by decide), e2, s, e1, d (by decide)]
  · rw [e7, d (by decide), e6, d (by decide), e5, d (by decide), e4, d (by decide), e3, s, e2, d (by decide), e1, d (by decide)]
  · rw [e7, d (by decide), e6, d (by decide), e5, d (by decide), e4, s, e3, d (by decide), e2, d (by decide), e1, d (by decide)]
  · rw [e7, d (by decide), e6, d (by decide), e5, s, e4, d (by decide), e3, d (by decide), e2, d (by decide), e1, d (by decide)]
  · rw [e7, d (by decide), e6, s, e5, d (by decide), e4, d (by decide), e3, d (by decide), e2, d (by decide), e1, d (by decide)]
def oI (x : Int32) : Option Nat := if x.toInt < 0 then none else some x.toNatClampNeg
theorem oI_none {x : Int32} (h : none = oI x) : x.toInt < 0 := by
  unfold oI at h
  by_cases q : x.toInt < 0
  · exact q
  · rw [if_neg q] at h; cases h
theorem oI_some {x : Int32} {j : Nat} (h : some j = oI x) : 0 ≤ x.toInt ∧ x.toNatClampNeg = j := by
  unfold oI at h
  by_cases q : x.toInt < 0
  · rw [if_pos q] at h; cases h
  · rw [if_neg q] at h; exact ⟨by omega, (Option.some.inj h).symm⟩
def ahS (iv : Iv) (lg b : Int32) : Int32 := if ¬ (0 ≤ lg.toInt ∧ lg.toInt < (iv 0 0 6).toInt) then -1 else if (ahF iv lg.toNatClampNeg b).toInt < 0 then -9 else ahF iv lg.toNatClampNeg b
def loS (iv : Iv) (lg w : Int32) : Int32 := if ¬ (0 ≤ lg.toInt ∧ lg.toInt < (iv 0 0 6).toInt) then -1 else if ¬ (0 ≤ w.toInt ∧ w.toInt ≤ 5) then -2 else if (iv 11 0 lg.toNatClampNeg).toInt = 0 then -5 else if w.toInt = 0 then laF iv lg.toNatClampNeg else if w.toInt = 1 then olF iv lg.toNatClampNeg else if w.toInt = 2 then wtF iv lg.toNatClampNeg 0 else if w.toInt = 3 then wtF iv lg.toNatClampNeg 1 else if w.toInt = 4 then hdF iv lg.toNatClampNeg else laF iv lg.toNatClampNeg - hdF iv lg.toNatClampNeg
def svS (iv : Iv) (lg f : Int32) : Int32 := if ¬ (0 ≤ lg.toInt ∧ lg.toInt < (iv 0 0 6).toInt) then -1 else if (iv 11 0 lg.toNatClampNeg).toInt = 0 then -5 else if f.toInt < 0 then -4 else if 30000 < f.toInt then -6 else oF (rlF iv lg.toNatClampNeg - (if (iv 9 0 lg.toNatClampNeg + wtF iv lg.toNatClampNeg 1).toInt < f.toInt then f else iv 9 0 lg.toNatClampNeg + wtF iv lg.toNatClampNeg 1))
theorem mxw (f x : Int32) : mxF f x = (if x.toInt < f.toInt then f else x) := by
  unfold mxF
  by_cases h : f < x
  · rw [if_pos h, if_neg (by rw [fa_lt] at h; omega)]
  · rw [if_neg h]; rw [fa_lt] at h
    by_cases q : x.toInt < f.toInt
    · rw [if_pos q]
    · rw [if_neg q]; exact (fa_eq _ _).mpr (by omega)
def wfX (iv : Iv) (li : Nat) (bf : Option Nat) (gap : Int32) : Int32 := match bf with
  | none => 0
  | some b => if (iv 62 b 7).toInt = 0 then 0 else mnF (mxF 0 (iv 62 b 11 + gap - iv 62 li 5)) (iv 62 li 12)
theorem wfX_0 {iv : Iv} {li b : Nat} {gap : Int32} (h : (iv 62 b 7).toInt = 0) : wfX iv li (some b) gap = 0 := by
  show (if (iv 62 b 7).toInt = 0 then 0 else _) = _
  rw [if_pos h]
theorem wfX_1 {iv : Iv} {li b : Nat} {gap x1 x2 x3 x4 x5 : Int32} (e1 : x1 = iv 62 b 11) (e2 : x2 = x1 + gap) (e3 : x3 = iv 62 li 5) (e4 : x4 = x2 - x3) (e5 : x5 = iv 62 li 12) (h : ¬ (iv 62 b 7).toInt = 0) : mnF (mxF 0 x4) x5 = wfX iv li (some b) gap := by
  show _ = (if (iv 62 b 7).toInt = 0 then 0 else _)
  rw [if_neg h, e5, e4, e3, e2, e1]
-- the reference's words look at its own rows alone
abbrev mdl (t : Nat) : Prop := t < 49 ∧ t ≠ 17 ∧ t ≠ 20 ∧ t ≠ 39 ∧ t ≠ 40 ∧ t ≠ 47 ∧ t ≠ 48
def MA (iv iv' : Iv) : Prop := ∀ t k, mdl t → iv' t 0 k = iv t 0 k
theorem ma_ex {al al1 : Al} {iv iv1 : Iv} {rv rv1 : Rv} {md : Mo} (hG : GI al iv rv) (x : EX md al iv rv al1 iv1 rv1) (hd : ∀ t, t < 49 → mdl t → t ∉ md.1 ∧ t ∉ md.2.map (fun p => p.1)) : MA iv iv1 := fun t k ht => (x.2.2 t 0 k (by rw [hG.2.2.1.1 t ((by decide : ∀ t, t < 49 → t ∈ sng) t ht.1)]; decide) (MD.no (hd t ht.1 ht))).1
theorem rs_m {iv iv' : Iv} (h : MA iv iv') (b : Int32) : rsF iv' b = rsF iv b := by simp only [rsF, h 15 _ (by decide)]
theorem ra_m {iv iv' : Iv} (h : MA iv iv') (l : Nat) : raF iv' l = raF iv l := by simp only [raF, h 13 _ (by decide), h 4 _ (by decide), h 6 _ (by decide)]
theorem rl_m {iv iv' : Iv} (h : MA iv iv') (l : Nat) : rlF iv' l = rlF iv l := by simp only [rlF, h 12 _ (by decide), h 4 _ (by decide), h 5 _ (by decide)]
theorem la_m {iv iv' : Iv} (h : MA iv iv') (l : Nat) : laF iv' l = laF iv l := by simp only [laF, ra_m h, h 10 _ (by decide)]
theorem ol_m {iv iv' : Iv} (h : MA iv iv') (l : Nat) : olF iv' l = olF iv l := by simp only [olF, rl_m h, h 9 _ (by decide)]
theorem ahN_m {iv iv' : Iv} (h : MA iv iv') (l : Nat) (b : Int32) : ∀ n : Nat, ahN iv' l b n = ahN iv l b n
  | 0 => rfl
  | n + 1 => by
    show ahStep iv' l b (ahN iv' l b n) n = ahStep iv l b (ahN iv l b n) n
    rw [ahN_m h l b n]
    simp only [ahStep, rs_m h, h 5 _ (by decide), h 6 _ (by decide), h 7 _ (by decide), h 8 _ (by decide), h 9 _ (by decide), h 10 _ (by decide)]
theorem ah_m {iv iv' : Iv} (h : MA iv iv') (l : Nat) (b : Int32) : ahF iv' l b = ahF iv l b := by
  unfold ahF; rw [h 0 6 (by decide), ahN_m h]
theorem wt_m {iv iv' : Iv} (h : MA iv iv') (l : Nat) (b : Int32) : wtF iv' l b = wtF iv l b := by
  simp only [wtF, ah_m h, ra_m h, rs_m h, ol_m h, h 11 _ (by decide), h 9 _ (by decide)]
theorem bc_m {iv iv' : Iv} (h : MA iv iv') (l : Nat) : bcF iv' l = bcF iv l := by simp only [bcF, wt_m h]
theorem hd_m {iv iv' : Iv} (h : MA iv iv') (l : Nat) : hdF iv' l = hdF iv l := by simp only [hdF, la_m h, wt_m h, bc_m h]
theorem ahS_m {iv iv' : Iv} (h : MA iv iv') (l b : Int32) : ahS iv' l b = ahS iv l b := by simp only [ahS, ah_m h, h 0 _ (by decide)]
theorem loS_m {iv iv' : Iv} (h : MA iv iv') (l b : Int32) : loS iv' l b = loS iv l b := by simp only [loS, la_m h, ol_m h, wt_m h, hd_m h, h 0 _ (by decide), h 11 _ (by decide)]
theorem svS_m {iv iv' : Iv} (h : MA iv iv') (l b : Int32) : svS iv' l b = svS iv l b := by simp only [svS, rl_m h, wt_m h, h 0 _ (by decide), h 9 _ (by decide), h 11 _ (by decide)]
theorem tr_ok {iv i1 i2 i3 : Iv} {lg x1 x2 z : Int32} {k : Nat} (e1 : i1 = up3 iv 18 0 x1.toNatClampNeg lg) (e2 : i2 = up3 i1 19 0 x2.toNatClampNeg 1) (e3 : i3 = up3 i2 0 0 20 z) (h1 : x1.toInt = 4 * (iv 0 0 20).toInt) (h2 : x2.toInt = (iv 0 0 20).toInt) : i3 18 0 k = (if k = 4 * (iv 0 0 20).toNatClampNeg then lg else iv 18 0 k) ∧ i3 19 0 k = (if k = (iv 0 0 20).toNatClampNeg then 1 else iv 19 0 k) := by
  rw [clamp_eq h2] at e2
  have c : x1.toNatClampNeg = 4 * (iv 0 0 20).toNatClampNeg := by simp only [clamp_n]; omega
  rw [c] at e1
  generalize (iv 0 0 20).toNatClampNeg = n at e1 e2 ⊢
  rw [e3, e2, e1]; simp [up3]
def thL (iv : Iv) (t : Nat) : Nat := (iv 18 0 (4 * t + (iv 19 0 t).toNatClampNeg - 1)).toNatClampNeg
def spThen (iv : Iv) (t l : Int32) : Int32 := if ¬ ((0 ≤ t.toInt ∧ t.toInt < (iv 0 0 20).toInt) ∧ (0 ≤ l.toInt ∧ l.toInt < (iv 0 0 6).toInt)) then -1 else if ¬ ((iv 5 0 l.toNatClampNeg).toInt = (iv 6 0 (thL iv t.toNatClampNeg)).toInt ∧ (iv 10 0 (thL iv t.toNatClampNeg)).toInt + (iv 15 0 2).toInt ≤ (iv 9 0 l.toNatClampNeg).toInt) then -3 else if 4 ≤ (iv 19 0 t.toNatClampNeg).toInt then -6 else 0
theorem th_ix {iv : Iv} {t x y z : Int32} (e : x = iv 18 0 y.toNatClampNeg) (e2 : z = iv 19 0 t.toNatClampNeg) (h : y.toInt = 4 * t.toInt + z.toInt - 1) (h0 : 0 ≤ t.toInt) (h1 : 1 ≤ z.toInt) : x.toNatClampNeg = thL iv t.toNatClampNeg := by
  have c : y.toNatClampNeg = 4 * t.toNatClampNeg + (iv 19 0 t.toNatClampNeg).toNatClampNeg - 1 := by rw [← e2]; simp only [clamp_n]; omega
  rw [e, c]; rfl
theorem th_ok {iv i1 i2 : Iv} {t lg m x y z : Int32} {k : Nat} (em : m = iv 19 0 t.toNatClampNeg) (e1 : i1 = up3 iv 18 0 x.toNatClampNeg lg) (ey : y = i1 19 0 t.toNatClampNeg) (ez : z = y + 1) (e2 : i2 = up3 i1 19 0 t.toNatClampNeg z) (h : x.toInt = 4 * t.toInt + m.toInt ∧ 0 ≤ t.toInt ∧ 0 ≤ m.toInt) (hz : z.toInt = y.toInt + 1) : i2 18 0 k = (if k = 4 * t.toNatClampNeg + (iv 19 0 t.toNatClampNeg).toNatClampNeg then lg else iv 18 0 k) ∧ (i2 19 0 k).toInt = (if k = t.toNatClampNeg then (iv 19 0 t.toNatClampNeg).toInt + 1 else (iv 19 0 k).toInt) := by
  have c : x.toNatClampNeg = 4 * t.toNatClampNeg + (iv 19 0 t.toNatClampNeg).toNatClampNeg := by rw [← em]; simp only [clamp_n]; omega
  have y1 : y = iv 19 0 t.toNatClampNeg := by rw [ey, e1, up3_ne (fun z => absurd z.1 (by decide))]
  rw [c] at e1
  refine ⟨?_, ?_⟩
  · rw [e2, up3_ne (fun z => absurd z.1 (by decide)), e1]; simp [up3]
  · rw [e2]
    by_cases q : k = t.toNatClampNeg
    · rw [q, up3_self, if_pos rfl, hz, y1]
    · rw [up3_ne (fun z => q z.2.2), e1, up3_ne (fun z => absurd z.1 (by decide)), if_neg q]
theorem th_r {iv i1 i2 : Iv} {t lg w x y z : Int32} (ew : w = i2 19 0 t.toNatClampNeg) (e2 : i2 = up3 i1 19 0 t.toNatClampNeg z) (ez : z = y + 1) (ey : y = i1 19 0 t.toNatClampNeg) (e1 : i1 = up3 iv 18 0 x.toNatClampNeg lg) (hz : z.toInt = y.toInt + 1) : w.toInt = (iv 19 0 t.toNatClampNeg).toInt + 1 := by
  rw [ew, e2, up3_self, hz, ey, e1, up3_ne (fun z => absurd z.1 (by decide))]
theorem fb_1 {iv : Iv} {rv : Rv} {li ti j1 j5 j8 j9 p q o : Nat} {conn r : Int32} (e1 : rv 62 li 1 = some j1) (e5 : rv 65 ti 2 = some j5) (e8 : rv 62 j5 2 = some j8) (h1 : rv 62 li 1 = some p) (h2 : rv 65 ti 2 = some q) (h3 : rv 62 q 2 = some o) (c : j1 = j8) (e9 : rv 65 ti 2 = some j9) (h : conn.toInt ≤ (iv 62 li 5).toInt - (iv 62 j9 6).toInt) (hr : r.toInt = 1) : ((p = o ∧ conn.toInt ≤ (iv 62 li 5).toInt - (iv 62 q 6).toInt) ∧ r.toInt = 1) ∨ ((¬ (p = o ∧ conn.toInt ≤ (iv 62 li 5).toInt - (iv 62 q 6).toInt)) ∧ r.toInt = 0) := by
  rw [h2] at e5 e9; cases e5; cases e9
  rw [h3] at e8; cases e8
  rw [h1] at e1; cases e1
  exact Or.inl ⟨⟨c, h⟩, hr⟩
theorem fb_2 {iv : Iv} {rv : Rv} {li ti j1 j5 j8 p q o : Nat} {conn r : Int32} (e1 : rv 62 li 1 = some j1) (e5 : rv 65 ti 2 = some j5) (e8 : rv 62 j5 2 = some j8) (h1 : rv 62 li 1 = some p) (h2 : rv 65 ti 2 = some q) (h3 : rv 62 q 2 = some o) (c : ¬ j1 = j8) (hr : r.toInt = 0) : ((p = o ∧ conn.toInt ≤ (iv 62 li 5).toInt - (iv 62 q 6).toInt) ∧ r.toInt = 1) ∨ ((¬ (p = o ∧ conn.toInt ≤ (iv 62 li 5).toInt - (iv 62 q 6).toInt)) ∧ r.toInt = 0) := by
  rw [h2] at e5; cases e5
  rw [h3] at e8; cases e8
  rw [h1] at e1; cases e1
  exact Or.inr ⟨fun z => c z.1, hr⟩
theorem fb_3 {iv : Iv} {rv : Rv} {li ti j5 j9 p q o : Nat} {conn r : Int32} (_ : rv 65 ti 2 = some j5) (h2 : rv 65 ti 2 = some q) (e9 : rv 65 ti 2 = some j9) (h : ¬ conn.toInt ≤ (iv 62 li 5).toInt - (iv 62 j9 6).toInt) (hr : r.toInt = 0) : ((p = o ∧ conn.toInt ≤ (iv 62 li 5).toInt - (iv 62 q 6).toInt) ∧ r.toInt = 1) ∨ ((¬ (p = o ∧ conn.toInt ≤ (iv 62 li 5).toInt - (iv 62 q 6).toInt)) ∧ r.toInt = 0) := by
  rw [h2] at e9; cases e9
  exact Or.inr ⟨fun z => h z.2, hr⟩
def thX (iv : Iv) (rv : Rv) (iv' : Iv) (rv' : Rv) (t l : Nat) : Prop := (∀ k : Nat, (iv' 65 k 4).toInt = if k = t then (iv 65 t 4).toInt + 1 else (iv 65 k 4).toInt) ∧ (∀ i k : Nat, rv' 66 i k = if i = t ∧ k = (iv 65 t 4).toNatClampNeg then some l else rv 66 i k) ∧ (∀ k : Nat, rv' 65 k 2 = if k = t then some l else rv 65 k 2)
theorem thx_ok {iv iv' : Iv} {rv r1 r2 : Rv} {t l : Nat} {x y w : Int32} (e9 : r1 = up3 rv 66 t w.toNatClampNeg (some l)) (e12 : r2 = up3 r1 65 t 2 (some l)) (e17 : x = iv 65 t 4) (e21 : y = x + 1) (e22 : iv' = up3 iv 65 t 4 y) (h : y.toInt = x.toInt + 1 ∧ w.toInt = (iv 65 t 4).toInt) : thX iv rv iv' r2 t l := by
  rw [clamp_eq h.2] at e9
  refine ⟨fun k => ?_, fun i k => ?_, fun k => ?_⟩
  · rw [e22]
    by_cases q : k = t
    · rw [q, up3_self, if_pos rfl, h.1, e17]
    · rw [up3_ne (fun z => q z.2.1), if_neg q]
  · rw [e12, up3_ne (fun z => absurd z.1 (by decide)), e9]; simp [up3]
  · rw [e12]
    by_cases q : k = t
    · rw [q, up3_self, if_pos rfl]
    · rw [up3_ne (fun z => q z.2.1), if_neg q, e9, up3_ne (fun z => absurd z.1 (by decide))]
theorem thx_r {iv iv' : Iv} {rv rv' : Rv} {t l n : Nat} (h : thX iv rv iv' rv' t l) (e : n = t) (_ : True) : (iv' 65 n 4).toInt = (iv 65 n 4).toInt + 1 := by
  rw [e, h.1 t, if_pos rfl]
def rwL (iv : Iv) (t j : Nat) : Nat := (iv 18 0 (4 * t + j)).toNatClampNeg
abbrev bad (iv : Iv) (t i : Nat) : Prop := (iv 11 0 (rwL iv t i)).toInt = 0 ∨ (0 < i ∧ (rlF iv (rwL iv t i) - raF iv (rwL iv t (i - 1))).toInt < (iv 15 0 2).toInt)
def msN (iv : Iv) (t : Nat) : Nat → Int32
  | 0 => -1
  | n + 1 => if 0 ≤ (msN iv t n).toInt then msN iv t n else if bad iv t n then nI n else -1
def msF (iv : Iv) (t : Nat) : Int32 := msN iv t (iv 19 0 t).toNatClampNeg
theorem ms_0 {iv : Iv} {t : Nat} : (msN iv t (0 : Int32).toNatClampNeg).toInt < 0 := by
  rw [show (0 : Int32).toNatClampNeg = 0 from by decide]; show (-1 : Int32).toInt < 0; decide
theorem ms_s {iv : Iv} {t n : Nat} (h : (msN iv t n).toInt < 0) (b : ¬ bad iv t n) : (msN iv t (n + 1)).toInt < 0 := by
  show (if 0 ≤ (msN iv t n).toInt then msN iv t n else if bad iv t n then nI n else -1).toInt < 0
  rw [if_neg (by omega), if_neg b]; decide
theorem ms_up {iv : Iv} {t : Nat} {x y : Int32} (h : y.toInt = x.toInt + 1) (h0 : 0 ≤ x.toInt) (i : (msN iv t x.toNatClampNeg).toInt < 0) (b : ¬ bad iv t x.toNatClampNeg) : (msN iv t y.toNatClampNeg).toInt < 0 := by
  rw [clamp_s h h0]; exact ms_s i b
theorem ms_neg {iv : Iv} {t : Nat} : ∀ n : Nat, n ≤ 40 → (msN iv t n).toInt < 0 → msN iv t n = -1
  | 0, _, _ => rfl
  | n + 1, hn, h => by
    have h' : (if 0 ≤ (msN iv t n).toInt then msN iv t n else if bad iv t n then nI n else -1).toInt < 0 := h
    show (if 0 ≤ (msN iv t n).toInt then msN iv t n else if bad iv t n then nI n else -1) = -1
    by_cases q : 0 ≤ (msN iv t n).toInt
    · rw [if_pos q] at h'; omega
    · rw [if_neg q] at h' ⊢
      by_cases w : bad iv t n
      · rw [if_pos w, nI_toInt (by omega)] at h'; omega
      · rw [if_neg w]
theorem ms_hit {iv : Iv} {t n : Nat} (hn : n ≤ 40) (h : (msN iv t n).toInt < 0) (b : bad iv t n) : ∀ m : Nat, n < m → msN iv t m = nI n
  | 0, hm => absurd hm (Nat.not_lt_zero _)
  | m + 1, hm => by
    show (if 0 ≤ (msN iv t m).toInt then msN iv t m else if bad iv t m then nI m else -1) = nI n
    by_cases q : m = n
    · subst q; rw [if_neg (by omega), if_pos b]
    · have e := ms_hit hn h b m (by omega)
      rw [e, if_pos (by rw [nI_toInt (by omega)]; omega)]
theorem ms_alln {iv : Iv} {t : Nat} : ∀ n : Nat, n ≤ 40 → (msN iv t n).toInt < 0 → ∀ j : Nat, j < n → ¬ bad iv t j := by
  intro n
  induction n with
  | zero => intro _ _ j hj; exact absurd hj (Nat.not_lt_zero _)
  | succ n ih =>
    intro hn h j hj
    have h' : (if 0 ≤ (msN iv t n).toInt then msN iv t n else if bad iv t n then nI n else -1).toInt < 0 := h
    by_cases q : 0 ≤ (msN iv t n).toInt
    · rw [if_pos q] at h'; omega
    · by_cases e : j = n
      · subst e
        intro w
        rw [if_neg q, if_pos w, nI_toInt (by omega)] at h'
        omega
      · exact ih (by omega) (by omega) j (by omega)
theorem ms_all {iv : Iv} {t n : Nat} (hn : n ≤ 40) (h : (msN iv t n).toInt < 0) (j : Nat) (hj : j < n) : ¬ bad iv t j := ms_alln n hn h j hj
theorem ms_end {iv : Iv} {t : Nat} {x : Int32} (i : (msN iv t x.toNatClampNeg).toInt < 0) (h : x.toInt = (iv 19 0 t).toInt ∧ x.toInt ≤ 40) : (-1 : Int32) = msF iv t := by
  unfold msF
  rw [← clamp_eq h.1]; exact (ms_neg _ (by rw [clamp_n]; omega) i).symm
theorem ms_ret {iv : Iv} {t : Nat} {x : Int32} (i : (msN iv t x.toNatClampNeg).toInt < 0) (b : bad iv t x.toNatClampNeg) (h0 : 0 ≤ x.toInt) (h1 : x.toInt ≤ 40) (h2 : x.toInt < (iv 19 0 t).toInt) : x = msF iv t := by
  unfold msF
  rw [ms_hit (by rw [clamp_n]; omega) i b _ (by rw [clamp_n, clamp_n]; omega), nat_of h0]
theorem rw_ix {iv : Iv} {t i x y : Int32} (e : x = iv 18 0 y.toNatClampNeg) (h : y.toInt = 4 * t.toInt + i.toInt) (h0 : 0 ≤ t.toInt) (h1 : 0 ≤ i.toInt) : x.toNatClampNeg = rwL iv t.toNatClampNeg i.toNatClampNeg := by
  have c : y.toNatClampNeg = 4 * t.toNatClampNeg + i.toNatClampNeg := by simp only [clamp_n]; omega
  rw [e, c]; rfl
theorem rw_ix1 {iv : Iv} {t i x y : Int32} (e : x = iv 18 0 y.toNatClampNeg) (h : y.toInt = 4 * t.toInt + i.toInt - 1) (h0 : 0 ≤ t.toInt) (h1 : 0 < i.toInt) : x.toNatClampNeg = rwL iv t.toNatClampNeg (i.toNatClampNeg - 1) := by
  have c : y.toNatClampNeg = 4 * t.toNatClampNeg + (i.toNatClampNeg - 1) := by simp only [clamp_n]; omega
  rw [e, c]; rfl
theorem nb_0 {iv : Iv} {t : Nat} {x : Int32} (hd : ¬ (iv 11 0 (rwL iv t x.toNatClampNeg)).toInt = 0) (h : x.toInt ≤ 0) : ¬ bad iv t x.toNatClampNeg := fun z => z.elim hd (fun w => by have := w.1; rw [clamp_n] at this; omega)
theorem bd_1 {iv : Iv} {t i : Nat} {a1 a2 l1 l2 x : Int32} {c : Int32} (q1 : l1 = rlF iv a1.toNatClampNeg) (w1 : a1.toNatClampNeg = rwL iv t i) (q2 : l2 = raF iv a2.toNatClampNeg) (w2 : a2.toNatClampNeg = rwL iv t (i - 1)) (e : x = l1 - l2) (hc : c.toInt = (iv 15 0 2).toInt) (h : x.toInt < c.toInt) : (rlF iv (rwL iv t i) - raF iv (rwL iv t (i - 1))).toInt < (iv 15 0 2).toInt := by
  rw [← w1, ← w2, ← q1, ← q2, ← e]; omega
theorem nb_1 {iv : Iv} {t i : Nat} {a1 a2 l1 l2 x : Int32} {c : Int32} (hd : ¬ (iv 11 0 (rwL iv t i)).toInt = 0) (q1 : l1 = rlF iv a1.toNatClampNeg) (w1 : a1.toNatClampNeg = rwL iv t i) (q2 : l2 = raF iv a2.toNatClampNeg) (w2 : a2.toNatClampNeg = rwL iv t (i - 1)) (e : x = l1 - l2) (hc : c.toInt = (iv 15 0 2).toInt) (h : ¬ x.toInt < c.toInt) : ¬ bad iv t i := fun z => z.elim hd (fun w => by
  have := w.2
  rw [← w1, ← w2, ← q1, ← q2, ← e] at this; omega)
theorem bd_x {iv : Iv} {t i j1 j2 : Nat} {l1 l2 x c : Int32} (e1 : l1 = iv 62 j1 10) (r1 : iv 62 j1 10 = rlF iv j1) (w1 : j1 = rwL iv t i) (e2 : l2 = iv 62 j2 11) (r2 : iv 62 j2 11 = raF iv j2) (w2 : j2 = rwL iv t (i - 1)) (e : x = l1 - l2) (hc : c.toInt = (iv 15 0 2).toInt) (h : x.toInt < c.toInt) : (rlF iv (rwL iv t i) - raF iv (rwL iv t (i - 1))).toInt < (iv 15 0 2).toInt := by
  rw [← w1, ← w2, ← r1, ← r2, ← e1, ← e2, ← e]; omega
theorem nb_x {iv : Iv} {t i j1 j2 : Nat} {l1 l2 x c : Int32} (hd : ¬ (iv 11 0 (rwL iv t i)).toInt = 0) (e1 : l1 = iv 62 j1 10) (r1 : iv 62 j1 10 = rlF iv j1) (w1 : j1 = rwL iv t i) (e2 : l2 = iv 62 j2 11) (r2 : iv 62 j2 11 = raF iv j2) (w2 : j2 = rwL iv t (i - 1)) (e : x = l1 - l2) (hc : c.toInt = (iv 15 0 2).toInt) (h : ¬ x.toInt < c.toInt) : ¬ bad iv t i := fun z => z.elim hd (fun w => by
  have := w.2
  rw [← w1, ← w2, ← r1, ← r2, ← e1, ← e2, ← e] at this; omega)
theorem nbd {iv : Iv} {t i : Nat} (h : ¬ bad iv t i) : ¬ (iv 11 0 (rwL iv t i)).toInt = 0 := fun z => h (Or.inl z)
def miS (iv : Iv) (t : Int32) : Int32 := if ¬ (0 ≤ t.toInt ∧ t.toInt < (iv 0 0 20).toInt) then -1 else if (msF iv t.toNatClampNeg).toInt < 0 then -9 else msF iv t.toNatClampNeg
def mpX (iv : Iv) (t : Nat) : Int32 := if (msF iv t).toInt < 0 then -9 else msF iv t
theorem mpx_ret {iv : Iv} {t : Nat} {x : Int32} (i : (msN iv t x.toNatClampNeg).toInt < 0) (b : bad iv t x.toNatClampNeg) (e : iv 19 0 t = iv 65 t 4) (h0 : 0 ≤ x.toInt ∧ x.toInt ≤ 40) (h2 : x.toInt < (iv 65 t 4).toInt) : x = mpX iv t := by
  have z := ms_ret i b h0.1 h0.2 (by rw [e]; exact h2)
  unfold mpX; rw [← z, if_neg (by omega)]
theorem mpx_end {iv : Iv} {t : Nat} {x : Int32} (i : (msN iv t x.toNatClampNeg).toInt < 0) (e : iv 19 0 t = iv 65 t 4) (h : x.toInt = (iv 65 t 4).toInt ∧ x.toInt ≤ 40) : (-9 : Int32) = mpX iv t := by
  have z := ms_end i (by rw [e]; exact h)
  unfold mpX; rw [← z, if_pos (by decide)]
theorem ms_m {iv iv' : Iv} (h : MA iv iv') (t : Nat) : msF iv' t = msF iv t := by
  have a : ∀ n, msN iv' t n = msN iv t n := by
    intro n
    induction n with
    | zero => rfl
    | succ n ih =>
      show (if 0 ≤ (msN iv' t n).toInt then msN iv' t n else if bad iv' t n then nI n else -1) = (if 0 ≤ (msN iv t n).toInt then msN iv t n else if bad iv t n then nI n else -1)
      rw [ih]
      have hb : bad iv' t n ↔ bad iv t n := by simp only [bad, rwL, rl_m h, ra_m h, h 11 _ (by decide), h 15 _ (by decide), h 18 _ (by decide)]
      by_cases q : 0 ≤ (msN iv t n).toInt
      · rw [if_pos q, if_pos q]
      · rw [if_neg q, if_neg q]
        by_cases w : bad iv t n
        · rw [if_pos w, if_pos (hb.mpr w)]
        · rw [if_neg w, if_neg (fun z => w (hb.mp z))]
  unfold msF; rw [h 19 _ (by decide), a]
theorem miS_m {iv iv' : Iv} (h : MA iv iv') (t : Int32) : miS iv' t = miS iv t := by simp only [miS, ms_m h, h 0 _ (by decide)]
theorem fl_s {iv iv1 : Iv} {T : Nat} {v x y : Int32} (h : ∀ k : Nat, (k : Int) < x.toInt → iv T 0 k = v) (e : iv1 = up3 iv T 0 x.toNatClampNeg v) (h0 : 0 ≤ x.toInt) (hy : y.toInt = x.toInt + 1) : ∀ k : Nat, (k : Int) < y.toInt → iv1 T 0 k = v := fun k hk => by
  rw [e]
  by_cases q : k = x.toNatClampNeg
  · rw [q, up3_self]
  · rw [up3_ne (fun z => q z.2.2)]; exact h k (by have := ix_nat h0; omega)
def stp (iv : Iv) (s : Nat × Int32 × (Nat → Int32)) : Nat × Int32 × (Nat → Int32) := if s.2.1.toInt ≤ 0 then s else
  (if 0 < (lsF s.2.1 (hdF iv s.1)).toInt then (ahF iv s.1 (bcF iv s.1)).toNatClampNeg else s.1, lsF s.2.1 (hdF iv s.1), fun c => if c = (iv 14 0 s.1).toNatClampNeg then s.2.2 c + (s.2.1 - lsF s.2.1 (hdF iv s.1)) else s.2.2 c)
def stN (iv : Iv) (l : Nat) : Nat → Nat × Int32 × (Nat → Int32)
  | 0 => (l, laF iv l, fun _ => 0)
  | n + 1 => stp iv (stN iv l n)
def mtF (iv : Iv) (l k : Nat) : Int32 := (stN iv l 40).2.2 k
theorem st_stop {iv : Iv} {l n : Nat} (h : (stN iv l n).2.1.toInt ≤ 0) : ∀ d : Nat, stN iv l (n + d) = stN iv l n
  | 0 => rfl
  | d + 1 => by
    show stp iv (stN iv l (n + d)) = _
    rw [st_stop h d]; unfold stp; rw [if_pos h]
theorem st_go {iv : Iv} {l n : Nat} (h : 0 < (stN iv l n).2.1.toInt) : stN iv l (n + 1) = (if 0 < (lsF (stN iv l n).2.1 (hdF iv (stN iv l n).1)).toInt then (ahF iv (stN iv l n).1 (bcF iv (stN iv l n).1)).toNatClampNeg else (stN iv l n).1, lsF (stN iv l n).2.1 (hdF iv (stN iv l n).1), fun c => if c = (iv 14 0 (stN iv l n).1).toNatClampNeg then (stN iv l n).2.2 c + ((stN iv l n).2.1 - lsF (stN iv l n).2.1 (hdF iv (stN iv l n).1)) else (stN iv l n).2.2 c) := by
  show stp iv (stN iv l n) = _
  unfold stp; rw [if_neg (by omega)]
-- how many LEGS are planned to leave sooner
def cntL (iv : Iv) (v : Int) : Nat → Nat
  | 0 => 0
  | n + 1 => cntL iv v n + (if (iv 9 0 n).toInt < v then 1 else 0)
theorem cntL_le {iv : Iv} {v : Int} : ∀ n : Nat, cntL iv v n ≤ n
  | 0 => Nat.le_refl _
  | n + 1 => by
    have := cntL_le (iv := iv) (v := v) n
    show cntL iv v n + (if (iv 9 0 n).toInt < v then 1 else 0) ≤ n + 1
    split <;> omega
theorem cntL_mono {iv : Iv} {v w : Int} (h : v ≤ w) : ∀ n : Nat, cntL iv v n ≤ cntL iv w n
  | 0 => Nat.le_refl _
  | n + 1 => by
    have := cntL_mono (iv := iv) h n
    show cntL iv v n + (if (iv 9 0 n).toInt < v then 1 else 0) ≤ cntL iv w n + (if (iv 9 0 n).toInt < w then 1 else 0)
    split <;> split <;> omega
theorem cntL_lt {iv : Iv} {v w : Int} {j : Nat} (h1 : v ≤ (iv 9 0 j).toInt) (h2 : (iv 9 0 j).toInt < w) : ∀ n : Nat, j < n → cntL iv v n < cntL iv w n
  | 0, hj => absurd hj (Nat.not_lt_zero _)
  | n + 1, hj => by
    have m := cntL_mono (iv := iv) (v := v) (w := w) (by omega) n
    show cntL iv v n + (if (iv 9 0 n).toInt < v then 1 else 0) < cntL iv w n + (if (iv 9 0 n).toInt < w then 1 else 0)
    by_cases e : j = n
    · subst e; rw [if_neg (by omega), if_pos h2]; omega
    · have := cntL_lt h1 h2 n (by omega)
      split <;> split <;> omega
theorem cntL_self {iv : Iv} {v : Int} {j : Nat} (h1 : v ≤ (iv 9 0 j).toInt) : ∀ n : Nat, j < n → cntL iv v n < n
  | 0, hj => absurd hj (Nat.not_lt_zero _)
  | n + 1, hj => by
    have m := cntL_le (iv := iv) (v := v) n
    show cntL iv v n + (if (iv 9 0 n).toInt < v then 1 else 0) < n + 1
    by_cases e : j = n
    · subst e; rw [if_neg (by omega)]; omega
    · have := cntL_self h1 n (by omega)
      split <;> omega
theorem st_rank {al : Al} {iv : Iv} {rv : Rv} (hG : GI al iv rv) {l : Nat} (hl : (l : Int) < (iv 0 0 6).toInt) : ∀ n : Nat, 0 < (stN iv l n).2.1.toInt → (((stN iv l n).1 : Nat) : Int) < (iv 0 0 6).toInt ∧ cntL iv (iv 9 0 (stN iv l n).1).toInt (iv 0 0 6).toNatClampNeg + n ≤ cntL iv (iv 9 0 l).toInt (iv 0 0 6).toNatClampNeg
  | 0, _ => ⟨hl, Nat.le_refl _⟩
  | n + 1, h => by
    by_cases q : (stN iv l n).2.1.toInt ≤ 0
    · have e := st_stop q 1
      rw [e] at h; omega
    · have e := st_go (n := n) (iv := iv) (l := l) (by omega)
      have ih := st_rank hG hl n (by omega)
      have h2 : 0 < (lsF (stN iv l n).2.1 (hdF iv (stN iv l n).1)).toInt := by rw [e] at h; exact h
      rw [e]
      simp only [if_pos h2]
      have hp := hd_pos (ls_pos h2).2
      obtain ⟨a1, a2⟩ := ah_lt hG hp
      have c1 := ix_nat hp
      have c2 : (iv 0 0 6).toNatClampNeg = (iv 0 0 6).toInt.toNat := clamp_n
      have k := cntL_lt (iv := iv) (v := (iv 9 0 (ahF iv (stN iv l n).1 (bcF iv (stN iv l n).1)).toNatClampNeg).toInt) (w := (iv 9 0 (stN iv l n).1).toInt) (Int.le_refl _) a2 (iv 0 0 6).toNatClampNeg (by omega)
      exact ⟨by omega, by omega⟩
theorem st_40 {al : Al} {iv : Iv} {rv : Rv} (hG : GI al iv rv) {l : Nat} (hl : (l : Int) < (iv 0 0 6).toInt) : (stN iv l 40).2.1.toInt ≤ 0 := by
  by_cases h : 0 < (stN iv l 40).2.1.toInt
  · obtain ⟨-, k⟩ := st_rank hG hl 40 h
    have r6 := le6 hG
    have c2 : (iv 0 0 6).toNatClampNeg = (iv 0 0 6).toInt.toNat := clamp_n
    have s := cntL_self (iv := iv) (v := (iv 9 0 l).toInt) (Int.le_refl _) (iv 0 0 6).toNatClampNeg (by omega)
    omega
  · omega
theorem mt_at {al : Al} {iv : Iv} {rv : Rv} (hG : GI al iv rv) {l n : Nat} (hl : (l : Int) < (iv 0 0 6).toInt) (h : (stN iv l n).2.1.toInt ≤ 0) (k : Nat) : (stN iv l n).2.2 k = mtF iv l k := by
  unfold mtF
  rcases Nat.lt_or_ge 40 n with q | q
  · have e := st_stop (st_40 hG hl) (n - 40)
    rw [show 40 + (n - 40) = n by omega] at e
    rw [e]
  · have e := st_stop h (40 - n)
    rw [show n + (40 - n) = 40 by omega] at e
    rw [e]
def fmI (iv0 iv : Iv) (l at_ : Nat) (m : Int32) : Prop := ∃ n : Nat, (stN iv0 l n).1 = at_ ∧ (stN iv0 l n).2.1 = m ∧ ∀ k : Nat, k < 6 → iv 17 0 k = (stN iv0 l n).2.2 k
theorem fm_z {iv iv1 : Iv} {x y : Int32} (h : ∀ k : Nat, (k : Int) < x.toInt → iv 17 0 k = 0) (e : iv1 = up3 iv 17 0 x.toNatClampNeg 0) (h0 : 0 ≤ x.toInt) (hy : y.toInt = x.toInt + 1) : ∀ k : Nat, (k : Int) < y.toInt → iv1 17 0 k = 0 := fl_s h e h0 hy
theorem fm_0 {iv0 iv : Iv} {l x m : Int32} (h : ∀ k : Nat, (k : Int) < x.toInt → iv 17 0 k = 0) (hx : 6 ≤ x.toInt) (e : m = laF iv0 l.toNatClampNeg) : fmI iv0 iv l.toNatClampNeg l.toNatClampNeg m := ⟨0, rfl, e.symm, fun k hk => h k (by omega)⟩
theorem fm_step {iv0 iv iv1 : Iv} {l : Nat} {at_ m h led c y d z s : Int32} (i : fmI iv0 iv l at_.toNatClampNeg m) (hm : 0 < m.toInt) (hh : h = hdF iv0 at_.toNatClampNeg) (ql : led = lsF m h) (ec : c = iv 14 0 at_.toNatClampNeg) (ey : y = iv 17 0 c.toNatClampNeg) (ed : d = m - led) (ez : z = y + d) (e1 : iv1 = up3 iv 17 0 c.toNatClampNeg z) (f : ∀ t i k, t ≠ 17 → iv t i k = iv0 t i k) (hs : s.toNatClampNeg = (if 0 < led.toInt then (ahF iv0 at_.toNatClampNeg (bcF iv0 at_.toNatClampNeg)).toNatClampNeg else at_.toNatClampNeg)) (hc : 0 ≤ c.toInt) (hc2 : c.toInt ≤ 5) : fmI iv0 iv1 l s.toNatClampNeg led := by
  obtain ⟨n, a1, a2, a3⟩ := i
  have e := st_go (iv := iv0) (l := l) (n := n) (by rw [a2]; exact hm)
  rw [a1, a2, ← hh, ← ql] at e
  refine ⟨n + 1, by rw [e, hs], by rw [e], fun k hk => ?_⟩
  rw [e, e1]
  show _ = (if k = (iv0 14 0 at_.toNatClampNeg).toNatClampNeg then _ else _)
  rw [← f 14 0 _ (by decide), ← ec]
  by_cases q : k = c.toNatClampNeg
  · rw [if_pos q, q, up3_self, ez, ey, ed, a3 _ (by rw [clamp_n]; omega)]
  · rw [if_neg q, up3_ne (fun z => q z.2.2)]; exact a3 k hk
theorem fm_end {al : Al} {iv0 iv : Iv} {rv : Rv} (hG : GI al iv0 rv) {l at_ : Nat} {m : Int32} (hl : (l : Int) < (iv0 0 0 6).toInt) (i : fmI iv0 iv l at_ m) (hm : m.toInt ≤ 0) : ∀ k : Nat, k < 6 → iv 17 0 k = mtF iv0 l k := fun k hk => by
  obtain ⟨n, -, a2, a3⟩ := i
  rw [a3 k hk]; exact mt_at hG hl (by rw [a2]; exact hm) k
def mnS (iv : Iv) (lg c : Int32) : Int32 := if ¬ ((0 ≤ lg.toInt ∧ lg.toInt < (iv 0 0 6).toInt) ∧ (0 ≤ c.toInt ∧ c.toInt ≤ 5)) then -1 else if (iv 11 0 lg.toNatClampNeg).toInt = 0 then -5 else mtF iv lg.toNatClampNeg c.toNatClampNeg
theorem st_m {iv iv' : Iv} (h : MA iv iv') (l : Nat) : ∀ n : Nat, stN iv' l n = stN iv l n
  | 0 => by show (l, laF iv' l, _) = (l, laF iv l, _); rw [la_m h]
  | n + 1 => by
    show stp iv' (stN iv' l n) = stp iv (stN iv l n)
    rw [st_m h l n]; simp only [stp, hd_m h, ah_m h, bc_m h, h 14 _ (by decide)]
theorem mt_m {iv iv' : Iv} (h : MA iv iv') (l k : Nat) : mtF iv' l k = mtF iv l k := by unfold mtF; rw [st_m h]
theorem mnS_m {iv iv' : Iv} (h : MA iv iv') (l c : Int32) : mnS iv' l c = mnS iv l c := by simp only [mnS, mt_m h, h 0 _ (by decide), h 11 _ (by decide)]
theorem ma_fr {iv iv' : Iv} {md : Mo} (f : FR md iv iv') (hd : ∀ t, t < 49 → mdl t → t ∉ md.1 ∧ t ∉ md.2.map (fun p => p.1) := by decide) : MA iv iv' := fun t k ht => f.arr t 0 k (hd t ht.1 ht)
theorem MA.symm {iv iv' : Iv} (h : MA iv iv') : MA iv' iv := fun t k ht => (h t k ht).symm
theorem rw_0 {iv : Iv} {t x y : Int32} (e : x = iv 18 0 y.toNatClampNeg) (h : y.toInt = 4 * t.toInt) (h0 : 0 ≤ t.toInt) : x.toNatClampNeg = rwL iv t.toNatClampNeg 0 := by
  have c : y.toNatClampNeg = 4 * t.toNatClampNeg + 0 := by simp only [clamp_n]; omega
  rw [e, c]; rfl
def lfF (iv : Iv) (t : Nat) : Nat := if (msF iv t).toInt < 0 then thL iv t else if (iv 11 0 (rwL iv t (msF iv t).toNatClampNeg)).toInt = 0 then rwL iv t (msF iv t).toNatClampNeg else rwL iv t ((msF iv t).toNatClampNeg - 1)
def gcN (f : Nat → Int32) : Nat → Int32
  | 0 => 0
  | n + 1 => if (f (gcN f n).toNatClampNeg).toInt < (f (n + 1)).toInt then nI (n + 1) else gcN f n
def blF (iv : Iv) (t : Nat) : Int32 := if (iv 11 0 (lfF iv t)).toInt = 0 ∨ (laF iv (lfF iv t)).toInt = 0 then -9 else gcN (mtF iv (lfF iv t)) 5
def beS (iv : Iv) (t : Int32) : Int32 := if ¬ (0 ≤ t.toInt ∧ t.toInt < (iv 0 0 20).toInt) then -1 else blF iv t.toNatClampNeg
theorem gc_rng (f : Nat → Int32) : ∀ n : Nat, n ≤ 5 → 0 ≤ (gcN f n).toInt ∧ (gcN f n).toInt ≤ n
  | 0, _ => by show 0 ≤ (0 : Int32).toInt ∧ (0 : Int32).toInt ≤ _; decide
  | n + 1, hn => by
    have ih := gc_rng f n (by omega)
    show 0 ≤ (if (f (gcN f n).toNatClampNeg).toInt < (f (n + 1)).toInt then nI (n + 1) else gcN f n).toInt ∧ (if (f (gcN f n).toNatClampNeg).toInt < (f (n + 1)).toInt then nI (n + 1) else gcN f n).toInt ≤ _
    split
    · rw [nI_toInt (by omega)]; omega
    · omega
theorem gc_cong {f g : Nat → Int32} (h : ∀ k : Nat, k < 6 → f k = g k) : gcN f 5 = gcN g 5 := by
  have a : ∀ n : Nat, n ≤ 5 → gcN f n = gcN g n := by
    intro n
    induction n with
    | zero => intro _; rfl
    | succ n ih =>
      intro hn
      have r := gc_rng g n (by omega)
      show (if (f (gcN f n).toNatClampNeg).toInt < (f (n + 1)).toInt then nI (n + 1) else gcN f n) = (if (g (gcN g n).toNatClampNeg).toInt < (g (n + 1)).toInt then nI (n + 1) else gcN g n)
      rw [ih (by omega), h _ (show (gcN g n).toNatClampNeg < 6 by rw [clamp_n]; omega), h (n + 1) (by omega)]
  exact a 5 (Nat.le_refl _)
theorem gc_0 {f : Nat → Int32} : (0 : Int32) = gcN f ((1 : Int32).toNatClampNeg - 1) := by
  rw [show (1 : Int32).toNatClampNeg - 1 = 0 from by decide]; rfl
theorem gc_up {f : Nat → Int32} {b x y : Int32} (h : y.toInt = x.toInt + 1) (h0 : 0 ≤ x.toInt) (i : b = gcN f x.toNatClampNeg) : b = gcN f (y.toNatClampNeg - 1) := by
  rw [clamp_s h h0, Nat.add_sub_cancel]; exact i
theorem gc_y {f : Nat → Int32} {b c x y : Int32} (i : b = gcN f (c.toNatClampNeg - 1)) (ex : x = f c.toNatClampNeg) (ey : y = f b.toNatClampNeg) (h : y.toInt < x.toInt) (h1 : 1 ≤ c.toInt) (_ : c.toInt ≤ 5) : c = gcN f c.toNatClampNeg := by
  have e : c.toNatClampNeg = (c.toNatClampNeg - 1) + 1 := by rw [clamp_n]; omega
  have z := nat_of (x := c) (by omega)
  rw [e]
  show c = (if (f (gcN f (c.toNatClampNeg - 1)).toNatClampNeg).toInt < (f (c.toNatClampNeg - 1 + 1)).toInt then nI (c.toNatClampNeg - 1 + 1) else gcN f (c.toNatClampNeg - 1))
  rw [← i, ← e, ← ex, ← ey, if_pos h, z]
theorem gc_n {f : Nat → Int32} {b c x y : Int32} (i : b = gcN f (c.toNatClampNeg - 1)) (ex : x = f c.toNatClampNeg) (ey : y = f b.toNatClampNeg) (h : ¬ y.toInt < x.toInt) (h1 : 1 ≤ c.toInt) (_ : c.toInt ≤ 5) : b = gcN f c.toNatClampNeg := by
  have e : c.toNatClampNeg = (c.toNatClampNeg - 1) + 1 := by rw [clamp_n]; omega
  rw [e]
  show b = (if (f (gcN f (c.toNatClampNeg - 1)).toNatClampNeg).toInt < (f (c.toNatClampNeg - 1 + 1)).toInt then nI (c.toNatClampNeg - 1 + 1) else gcN f (c.toNatClampNeg - 1))
  rw [← i, ← e, ← ex, ← ey, if_neg h]
theorem gc_end {f : Nat → Int32} {x : Int32} (h : x.toInt = 6) : gcN f (x.toNatClampNeg - 1) = gcN f 5 := by
  have e : x.toNatClampNeg - 1 = 5 := by rw [clamp_n]; omega
  rw [e]
theorem ms_bad {iv : Iv} {t : Nat} : ∀ n : Nat, n ≤ 40 → 0 ≤ (msN iv t n).toInt → bad iv t (msN iv t n).toNatClampNeg ∧ (msN iv t n).toNatClampNeg < n := by
  intro n
  induction n with
  | zero => intro _ h; exact absurd h (by show ¬ 0 ≤ (-1 : Int32).toInt; decide)
  | succ n ih =>
    intro hn h
    have e : msN iv t (n + 1) = (if 0 ≤ (msN iv t n).toInt then msN iv t n else if bad iv t n then nI n else -1) := rfl
    by_cases q : 0 ≤ (msN iv t n).toInt
    · rw [if_pos q] at e; rw [e]
      have := ih (by omega) q
      exact ⟨this.1, by omega⟩
    · rw [if_neg q] at e
      by_cases w : bad iv t n
      · rw [if_pos w] at e; rw [e, nI_clamp (by omega)]; exact ⟨w, by omega⟩
      · rw [if_neg w] at e; rw [e] at h; exact absurd h (by decide)
theorem ms_pos {iv : Iv} {t : Nat} {i : Int32} (e : i = msF iv t) (h : 0 ≤ i.toInt) (hd : ¬ (iv 11 0 (rwL iv t i.toNatClampNeg)).toInt = 0) (h4 : (iv 19 0 t).toInt ≤ 40) : 0 < i.toInt := by
  have z := (ms_bad (iv := iv) (t := t) (iv 19 0 t).toNatClampNeg (by rw [clamp_n]; omega) (by show 0 ≤ (msF iv t).toInt; rw [← e]; exact h)).1
  have z' : bad iv t (msF iv t).toNatClampNeg := z
  rw [← e] at z'
  rcases z' with w | w
  · exact absurd w hd
  · have := w.1; rw [clamp_n] at this; omega
theorem lf_1 {iv : Iv} {t : Nat} {i s : Int32} (e : i = msF iv t) (h : i.toInt < 0) (hs : s.toNatClampNeg = thL iv t) : s.toNatClampNeg = lfF iv t := by
  unfold lfF; rw [← e, if_pos h]; exact hs
theorem lf_2 {iv : Iv} {t : Nat} {i a d s : Int32} (e : i = msF iv t) (h : 0 ≤ i.toInt) (hw : a.toNatClampNeg = rwL iv t i.toNatClampNeg) (ed : d = iv 11 0 a.toNatClampNeg) (hd : d.toInt = 0) (hs : s.toNatClampNeg = rwL iv t i.toNatClampNeg) : s.toNatClampNeg = lfF iv t := by
  rw [hw] at ed
  unfold lfF; rw [← e, if_neg (by omega), ← ed, if_pos hd]; exact hs
theorem lf_3 {iv : Iv} {t : Nat} {i a d s : Int32} (e : i = msF iv t) (h : 0 ≤ i.toInt) (hw : a.toNatClampNeg = rwL iv t i.toNatClampNeg) (ed : d = iv 11 0 a.toNatClampNeg) (hd : ¬ d.toInt = 0) (hs : s.toNatClampNeg = rwL iv t (i.toNatClampNeg - 1)) : s.toNatClampNeg = lfF iv t := by
  rw [hw] at ed
  unfold lfF; rw [← e, if_neg (by omega), ← ed, if_neg hd]; exact hs
theorem mpx_t {iv : Iv} {t : Nat} {r : Int32} (h : r = mpX iv t) : (r.toInt = -9 ∧ (msF iv t).toInt < 0) ∨ (r = msF iv t ∧ 0 ≤ r.toInt) := by
  unfold mpX at h
  by_cases q : (msF iv t).toInt < 0
  · rw [if_pos q] at h; exact Or.inl ⟨by rw [h]; decide, q⟩
  · rw [if_neg q] at h; exact Or.inr ⟨h, by rw [h]; omega⟩
theorem lfx_2 {iv : Iv} {t j : Nat} {r : Int32} (h : r = mpX iv t) (h0 : 0 ≤ r.toInt) (hd : (iv 11 0 (rwL iv t r.toNatClampNeg)).toInt = 0) (hj : j = rwL iv t r.toNatClampNeg) : some j = some (lfF iv t) := by
  rcases mpx_t h with ⟨a, -⟩ | ⟨a, -⟩
  · omega
  · unfold lfF; rw [← a, if_neg (by omega), if_pos hd, hj]
theorem lfx_4 {iv : Iv} {t j : Nat} {r : Int32} (h : r = mpX iv t) (h0 : 0 ≤ r.toInt) (hd : ¬ (iv 11 0 (rwL iv t r.toNatClampNeg)).toInt = 0) (hj : j = rwL iv t (r.toNatClampNeg - 1)) : some j = some (lfF iv t) := by
  rcases mpx_t h with ⟨a, -⟩ | ⟨a, -⟩
  · omega
  · unfold lfF; rw [← a, if_neg (by omega), if_neg hd, hj]
theorem lfx_3 {iv : Iv} {t j : Nat} {r : Int32} (h : r = mpX iv t) (h0 : r.toInt = 0) (h4 : (iv 19 0 t).toInt ≤ 40) (hj : j = rwL iv t r.toNatClampNeg) : some j = some (lfF iv t) := by
  rcases mpx_t h with ⟨a, -⟩ | ⟨a, -⟩
  · omega
  · refine lfx_2 h (by omega) ?_ hj
    by_cases hd : (iv 11 0 (rwL iv t r.toNatClampNeg)).toInt = 0
    · exact hd
    · have := ms_pos a (by omega) hd h4; omega
theorem lf_m {iv iv' : Iv} (h : MA iv iv') (t : Nat) : lfF iv' t = lfF iv t := by
  have ht : thL iv' t = thL iv t := by simp only [thL, h 18 _ (by decide), h 19 _ (by decide)]
  have hr : ∀ j, rwL iv' t j = rwL iv t j := fun j => by simp only [rwL, h 18 _ (by decide)]
  unfold lfF; rw [ms_m h, ht, hr, hr, h 11 _ (by decide)]
theorem bl_m {iv iv' : Iv} (h : MA iv iv') (t : Nat) : blF iv' t = blF iv t := by
  have e : mtF iv' (lfF iv t) = mtF iv (lfF iv t) := funext (fun k => mt_m h _ k)
  unfold blF; rw [lf_m h, la_m h, h 11 _ (by decide), e]
theorem beS_m {iv iv' : Iv} (h : MA iv iv') (t : Int32) : beS iv' t = beS iv t := by unfold beS; rw [bl_m h, h 0 _ (by decide)]
def M20 (iv iv' : Iv) : Prop := ∀ t i k, t ≠ 20 → iv' t i k = iv t i k
theorem fr20 {iv iv' : Iv} (h : FR ([20], []) iv iv') : M20 iv iv' := fun t i k ht => h t i k (by
  intro q
  rcases q with q | q
  · exact ht (List.mem_singleton.mp q)
  · cases q)
theorem rl_20 {iv iv' : Iv} (h : M20 iv iv') (l : Nat) : rlF iv' l = rlF iv l := by simp only [rlF, h 12 _ _ (by decide), h 4 _ _ (by decide), h 5 _ _ (by decide)]
theorem ra_20 {iv iv' : Iv} (h : M20 iv iv') (l : Nat) : raF iv' l = raF iv l := by simp only [raF, h 13 _ _ (by decide), h 4 _ _ (by decide), h 6 _ _ (by decide)]
theorem thL_20 {iv iv' : Iv} (h : M20 iv iv') (t : Nat) : thL iv' t = thL iv t := by simp only [thL, h 18 _ _ (by decide), h 19 _ _ (by decide)]
abbrev S0 (iv : Iv) (A T : Int) (l : Nat) : Prop := ¬ (iv 11 0 l).toInt = 0 ∧ (iv 5 0 l).toInt = A ∧ T ≤ (rlF iv l).toInt
abbrev Ed (iv : Iv) (a b : Nat) : Prop := ¬ (iv 11 0 b).toInt = 0 ∧ (iv 5 0 b).toInt = (iv 6 0 a).toInt ∧ (iv 15 0 2).toInt ≤ (rlF iv b - raF iv a).toInt
def Rch (iv : Iv) (A T : Int) (l : Nat) : Prop := ∀ S : Nat → Prop, (∀ k : Nat, (k : Int) < (iv 0 0 6).toInt → S0 iv A T k → S k) → (∀ a b : Nat, (a : Int) < (iv 0 0 6).toInt → (b : Int) < (iv 0 0 6).toInt → S a → Ed iv a b → S b) → S l
theorem Rch.s0 {iv : Iv} {A T : Int} {l : Nat} (hl : (l : Int) < (iv 0 0 6).toInt) (h : S0 iv A T l) : Rch iv A T l := fun _ h1 _ => h1 l hl h
theorem Rch.st {iv : Iv} {A T : Int} {a b : Nat} (ha : (a : Int) < (iv 0 0 6).toInt) (hb : (b : Int) < (iv 0 0 6).toInt) (h : Rch iv A T a) (e : Ed iv a b) : Rch iv A T b := fun S h1 h2 => h2 a b ha hb (h S h1 h2) e
noncomputable def sbN (iv : Iv) (P : Nat → Prop) (G : Int) : Nat → Int32
  | 0 => -9
  | n + 1 => @ite _ (P n ∧ (iv 6 0 n).toInt = G ∧ ((sbN iv P G n).toInt < 0 ∨ (raF iv n).toInt < (sbN iv P G n).toInt)) (Classical.propDecidable _) (raF iv n) (sbN iv P G n)
def stT (iv : Iv) (t : Nat) : Int := if (msF iv t).toNatClampNeg = 0 then (iv 9 0 (rwL iv t 0)).toInt else (raF iv (rwL iv t ((msF iv t).toNatClampNeg - 1))).toInt
noncomputable def soF (iv : Iv) (t : Nat) : Int32 := if (msF iv t).toInt < 0 then raF iv (thL iv t) else sbN iv (Rch iv (iv 5 0 (rwL iv t (msF iv t).toNatClampNeg)).toInt (stT iv t)) (iv 6 0 (thL iv t)).toInt (iv 0 0 6).toNatClampNeg
noncomputable def snS (iv : Iv) (t : Int32) : Int32 := if ¬ (0 ≤ t.toInt ∧ t.toInt < (iv 0 0 20).toInt) then -1 else soF iv t.toNatClampNeg
noncomputable def hoF (iv : Iv) (t : Nat) : Int32 := if (soF iv t).toInt < 0 then 9999 else oF (soF iv t - iv 10 0 (thL iv t))
noncomputable def hrS (iv : Iv) (t : Int32) : Int32 := if ¬ (0 ≤ t.toInt ∧ t.toInt < (iv 0 0 20).toInt) then -1 else hoF iv t.toNatClampNeg
theorem so_eq {iv : Iv} {n : Nat} {G A A' B B' : Int} (h : A = A') (hT : B = B') : sbN iv (Rch iv A B) G n = sbN iv (Rch iv A' B') G n := by rw [h, hT]
theorem ra_ge (iv : Iv) (l : Nat) : 0 ≤ (raF iv l).toInt := by
  unfold raF oF
  split
  · decide
  · omega
theorem so_i77 {iv iv1 iv2 : Iv} {A T : Int} {x y v : Int32} (h : ∀ k : Nat, (k : Int) < x.toInt → (¬ (iv1 20 0 k).toInt = 0 ↔ S0 iv A T k)) (e : iv2 = up3 iv1 20 0 x.toNatClampNeg v) (h0 : 0 ≤ x.toInt) (hy : y.toInt = x.toInt + 1) (hv : (v.toInt = 1 ∧ S0 iv A T x.toNatClampNeg) ∨ (v.toInt = 0 ∧ ¬ S0 iv A T x.toNatClampNeg)) : ∀ k : Nat, (k : Int) < y.toInt → (¬ (iv2 20 0 k).toInt = 0 ↔ S0 iv A T k) := fun k hk => by
  rw [e]
  by_cases q : k = x.toNatClampNeg
  · rw [q, up3_self]
    rcases hv with ⟨a, b⟩ | ⟨a, b⟩
    · exact ⟨fun _ => b, fun _ => by omega⟩
    · exact ⟨fun z => absurd a z, fun z => absurd z b⟩
  · rw [up3_ne (fun z => q z.2.2)]; exact h k (by have := ix_nat h0; omega)
def soJ (iv iv1 : Iv) (A T : Int) (m : Int32) (a b : Nat) : Prop := (∀ k : Nat, (k : Int) < (iv 0 0 6).toInt → S0 iv A T k → ¬ (iv1 20 0 k).toInt = 0) ∧ (∀ k : Nat, (k : Int) < (iv 0 0 6).toInt → ¬ (iv1 20 0 k).toInt = 0 → Rch iv A T k) ∧ (m.toInt = 0 → ∀ p q : Nat, (p : Int) < (iv 0 0 6).toInt → (q : Int) < (iv 0 0 6).toInt → (p < a ∨ (p = a ∧ q < b)) → ¬ (iv1 20 0 p).toInt = 0 → Ed iv p q → ¬ (iv1 20 0 q).toInt = 0)
theorem so_0 {iv iv1 : Iv} {A T : Int} {x : Int32} {a b : Nat} (h : ∀ k : Nat, (k : Int) < x.toInt → (¬ (iv1 20 0 k).toInt = 0 ↔ S0 iv A T k)) (hx : (iv 0 0 6).toInt ≤ x.toInt) : soJ iv iv1 A T 1 a b := ⟨fun k hk z => (h k (by omega)).mpr z, fun k hk z => Rch.s0 hk ((h k (by omega)).mp z), fun z => absurd z (by decide)⟩
theorem so_st {iv iv1 : Iv} {A T : Int} {m : Int32} {a b : Nat} (h : soJ iv iv1 A T m a b) : soJ iv iv1 A T 0 (0 : Int32).toNatClampNeg 0 := ⟨h.1, h.2.1, fun _ p q _ _ z => by
  rw [show (0 : Int32).toNatClampNeg = 0 from by decide] at z; omega⟩
theorem so_b0 {iv iv1 : Iv} {A T : Int} {m : Int32} {a : Nat} (h : soJ iv iv1 A T m a 0) : soJ iv iv1 A T m a (0 : Int32).toNatClampNeg := by
  rw [show (0 : Int32).toNatClampNeg = 0 from by decide]; exact h
theorem so_x162 {iv iv1 : Iv} {A T : Int} {m x y z : Int32} (h : soJ iv iv1 A T m x.toNatClampNeg z.toNatClampNeg) (hy : y.toInt = x.toInt + 1) (h0 : 0 ≤ x.toInt) (hz : (iv 0 0 6).toInt ≤ z.toInt) : soJ iv iv1 A T m y.toNatClampNeg 0 := ⟨h.1, h.2.1, fun hm p q hp hq w => h.2.2 hm p q hp hq (by
  rw [clamp_s hy h0] at w
  have c : z.toNatClampNeg = z.toInt.toNat := clamp_n
  omega)⟩
theorem so_x150 {iv iv1 : Iv} {A T : Int} {m x : Int32} (h : soJ iv iv1 A T m x.toNatClampNeg 0) (h0 : 0 ≤ x.toInt) (hx : (iv 0 0 6).toInt ≤ x.toInt) : soJ iv iv1 A T m (iv 0 0 6).toNatClampNeg 0 := ⟨h.1, h.2.1, fun hm p q hp hq w => h.2.2 hm p q hp hq (by
  have c : x.toNatClampNeg = x.toInt.toNat := clamp_n
  omega)⟩
theorem so_step {iv iv1 iv2 : Iv} {A T : Int} {m m' x y y' on v : Int32} (h : soJ iv iv1 A T m x.toNatClampNeg y.toNatClampNeg) (hx : 0 ≤ x.toInt) (hx2 : x.toInt < (iv 0 0 6).toInt) (hy : 0 ≤ y.toInt) (hy2 : y.toInt < (iv 0 0 6).toInt) (hy' : y'.toInt = y.toInt + 1)
    (ho : (on.toInt = 1 ∧ (¬ (iv1 20 0 x.toNatClampNeg).toInt = 0 ∧ (iv1 20 0 y.toNatClampNeg).toInt = 0 ∧ Ed iv x.toNatClampNeg y.toNatClampNeg)) ∨ (on.toInt = 0 ∧ ¬ (¬ (iv1 20 0 x.toNatClampNeg).toInt = 0 ∧ (iv1 20 0 y.toNatClampNeg).toInt = 0 ∧ Ed iv x.toNatClampNeg y.toNatClampNeg)))
    (hv : (v.toInt = 1 ∧ ((¬ (iv1 20 0 y.toNatClampNeg).toInt = 0) ∨ (¬ on.toInt = 0))) ∨ (v.toInt = 0 ∧ (iv1 20 0 y.toNatClampNeg).toInt = 0 ∧ on.toInt = 0)) (e : iv2 = up3 iv1 20 0 y.toNatClampNeg v)
    (hm : (m'.toInt = 1 ∧ ((¬ m.toInt = 0) ∨ (¬ on.toInt = 0))) ∨ (m'.toInt = 0 ∧ m.toInt = 0 ∧ on.toInt = 0)) : soJ iv iv2 A T m' x.toNatClampNeg y'.toNatClampNeg := by
  rw [clamp_s hy' hy]
  have cx := ix_nat hx
  have cy := ix_nat hy
  generalize x.toNatClampNeg = a at *
  generalize y.toNatClampNeg = b at *
  obtain ⟨h1, h2, h3⟩ := h
  have mono : ∀ k, ¬ (iv1 20 0 k).toInt = 0 → ¬ (iv2 20 0 k).toInt = 0 := fun k z => by
    rw [e]
    by_cases q : k = b
    · rw [q, up3_self]; rw [q] at z; omega
    · rw [up3_ne (fun w => q w.2.2)]; exact z
  refine ⟨fun k hk z => mono k (h1 k hk z), fun k hk z => ?_, fun hz p q hp hq w z ed => ?_⟩
  · by_cases q : k = b
    · rw [e, q, up3_self] at z
      rw [q]
      by_cases rb : (iv1 20 0 b).toInt = 0
      · have on1 : ¬ (iv1 20 0 a).toInt = 0 ∧ (iv1 20 0 b).toInt = 0 ∧ Ed iv a b := by
          rcases ho with ⟨-, o⟩ | ⟨o, -⟩
          · exact o
          · exfalso; omega
        exact Rch.st (by omega) (by omega) (h2 a (by omega) on1.1) on1.2.2
      · exact h2 b (by omega) rb
    · rw [e, up3_ne (fun w => q w.2.2)] at z; exact h2 k hk z
  · have m0 : m.toInt = 0 ∧ on.toInt = 0 := by omega
    have same : ∀ k, ¬ (iv2 20 0 k).toInt = 0 → ¬ (iv1 20 0 k).toInt = 0 := fun k z => by
      rw [e] at z
      by_cases q : k = b
      · rw [q, up3_self] at z; rw [q]; omega
      · rw [up3_ne (fun w => q w.2.2)] at z; exact z
    have zp := same p z
    by_cases c : p = a ∧ q = b
    · obtain ⟨rfl, rfl⟩ := c
      refine mono _ (fun rb => ?_)
      rcases ho with ⟨o, -⟩ | ⟨-, o⟩
      · omega
      · exact o ⟨zp, rb, ed⟩
    · exact mono _ (h3 m0.1 p q hp hq (by omega) zp ed)
theorem so_rc {iv iv1 : Iv} {A T : Int} {m : Int32} (h : soJ iv iv1 A T m (iv 0 0 6).toNatClampNeg 0) (hm : m.toInt = 0) : ∀ k : Nat, (k : Int) < (iv 0 0 6).toInt → (¬ (iv1 20 0 k).toInt = 0 ↔ Rch iv A T k) := fun k hk => ⟨h.2.1 k hk, fun r => by
  have z := r (fun l => (l : Int) < (iv 0 0 6).toInt → ¬ (iv1 20 0 l).toInt = 0) (fun l _ s hl => h.1 l hl s) (fun a b ha hb s ed _ => h.2.2 hm a b ha hb (Or.inl (by rw [clamp_n]; omega)) (s ha) ed)
  exact z hk⟩
theorem sb_0 {iv : Iv} {P : Nat → Prop} {G : Int} : (-9 : Int32) = sbN iv P G (0 : Int32).toNatClampNeg := by
  rw [show (0 : Int32).toNatClampNeg = 0 from by decide]; rfl
theorem sb_up {iv : Iv} {P : Nat → Prop} {G : Int} {b x y : Int32} (h : y.toInt = x.toInt + 1) (h0 : 0 ≤ x.toInt) (i : b = sbN iv P G (x.toNatClampNeg + 1)) : b = sbN iv P G y.toNatClampNeg := by rw [clamp_s h h0]; exact i
theorem sb_y {iv iv1 : Iv} {P : Nat → Prop} {G : Int} {b r x : Int32} (i : b = sbN iv P G x.toNatClampNeg) (hr : r = raF iv x.toNatClampNeg) (hrc : ∀ k : Nat, (k : Int) < (iv 0 0 6).toInt → (¬ (iv1 20 0 k).toInt = 0 ↔ P k)) (h0 : 0 ≤ x.toInt) (h1 : x.toInt < (iv 0 0 6).toInt) (h2 : ¬ (iv1 20 0 x.toNatClampNeg).toInt = 0) (h3 : (iv 6 0 x.toNatClampNeg).toInt = G) (h4 : b.toInt < 0 ∨ (raF iv x.toNatClampNeg).toInt < b.toInt) : r = sbN iv P G (x.toNatClampNeg + 1) := by
  show r = @ite _ _ (Classical.propDecidable _) _ _
  rw [if_pos ⟨(hrc _ (by rw [ix_nat h0]; exact h1)).mp h2, h3, by rw [← i]; exact h4⟩]; exact hr
theorem sb_n {iv iv1 : Iv} {P : Nat → Prop} {G : Int} {b x : Int32} (i : b = sbN iv P G x.toNatClampNeg) (hrc : ∀ k : Nat, (k : Int) < (iv 0 0 6).toInt → (¬ (iv1 20 0 k).toInt = 0 ↔ P k)) (h0 : 0 ≤ x.toInt) (h1 : x.toInt < (iv 0 0 6).toInt) (hn : ¬ ((¬ (iv1 20 0 x.toNatClampNeg).toInt = 0 ∧ (iv 6 0 x.toNatClampNeg).toInt = G) ∧ (b.toInt < 0 ∨ (raF iv x.toNatClampNeg).toInt < b.toInt))) : b = sbN iv P G (x.toNatClampNeg + 1) := by
  show b = @ite _ _ (Classical.propDecidable _) _ _
  rw [if_neg (fun z => hn ⟨⟨(hrc _ (by rw [ix_nat h0]; exact h1)).mpr z.1, z.2.1⟩, by rw [i]; exact z.2.2⟩)]; exact i
-- what sbN is
def sbC (iv : Iv) (P : Nat → Prop) (G : Int) (n : Nat) (r : Int32) : Prop := (r = -9 ∧ ∀ k : Nat, k < n → P k → ¬ (iv 6 0 k).toInt = G) ∨ ((∃ k : Nat, k < n ∧ P k ∧ (iv 6 0 k).toInt = G ∧ r = raF iv k) ∧ ∀ k : Nat, k < n → P k → (iv 6 0 k).toInt = G → r.toInt ≤ (raF iv k).toInt)
theorem sb_c {iv : Iv} {P : Nat → Prop} {G : Int} : ∀ n : Nat, sbC iv P G n (sbN iv P G n) := by
  intro n
  induction n with
  | zero => exact Or.inl ⟨rfl, fun k hk => absurd hk (Nat.not_lt_zero _)⟩
  | succ n ih =>
    have e : sbN iv P G (n + 1) = @ite _ (P n ∧ (iv 6 0 n).toInt = G ∧ ((sbN iv P G n).toInt < 0 ∨ (raF iv n).toInt < (sbN iv P G n).toInt)) (Classical.propDecidable _) (raF iv n) (sbN iv P G n) := rfl
    generalize sbN iv P G n = b at ih e
    by_cases c : P n ∧ (iv 6 0 n).toInt = G ∧ (b.toInt < 0 ∨ (raF iv n).toInt < b.toInt)
    · rw [if_pos c] at e; rw [e]
      refine Or.inr ⟨⟨n, Nat.lt_succ_self _, c.1, c.2.1, rfl⟩, fun k hk hp hg => ?_⟩
      by_cases q : k = n
      · rw [q]; exact Int.le_refl _
      · rcases ih with ⟨rfl, i2⟩ | ⟨⟨k', a1, a2, a3, a4⟩, i2⟩
        · exact absurd hg (i2 k (by omega) hp)
        · have := i2 k (by omega) hp hg
          have r0 := ra_ge iv k'
          rw [← a4] at r0
          omega
    · rw [if_neg c] at e; rw [e]
      rcases ih with ⟨i1, i2⟩ | ⟨⟨k', a1, a2, a3, a4⟩, i2⟩
      · refine Or.inl ⟨i1, fun k hk hp hg => ?_⟩
        by_cases q : k = n
        · exact c ⟨by rw [← q]; exact hp, by rw [← q]; exact hg, Or.inl (by rw [i1]; decide)⟩
        · exact i2 k (by omega) hp hg
      · refine Or.inr ⟨⟨k', by omega, a2, a3, a4⟩, fun k hk hp hg => ?_⟩
        by_cases q : k = n
        · rw [q] at hp hg ⊢
          have : ¬ (b.toInt < 0 ∨ (raF iv n).toInt < b.toInt) := fun z => c ⟨hp, hg, z⟩
          omega
        · exact i2 k (by omega) hp hg
theorem sb_uni {iv : Iv} {P : Nat → Prop} {G : Int} {n : Nat} {r s : Int32} (h : sbC iv P G n r) (g : sbC iv P G n s) : r = s := by
  rcases h with ⟨h1, h2⟩ | ⟨⟨k, a1, a2, a3, a4⟩, h2⟩ <;> rcases g with ⟨g1, g2⟩ | ⟨⟨j, b1, b2, b3, b4⟩, g2⟩
  · rw [h1, g1]
  · exact absurd b3 (h2 j b1 b2)
  · exact absurd a3 (g2 k a1 a2)
  · have u := h2 j b1 b2 b3
    have w := g2 k a1 a2 a3
    rw [← b4] at u
    rw [← a4] at w
    exact (fa_eq _ _).mpr (by omega)
theorem thL_m {iv iv' : Iv} (h : MA iv iv') (t : Nat) : thL iv' t = thL iv t := by simp only [thL, h 18 _ (by decide), h 19 _ (by decide)]
theorem rwL_m {iv iv' : Iv} (h : MA iv iv') (t j : Nat) : rwL iv' t j = rwL iv t j := by simp only [rwL, h 18 _ (by decide)]
theorem rch_m {iv iv' : Iv} (h : MA iv iv') (A T : Int) : Rch iv' A T = Rch iv A T := by
  funext l
  unfold Rch
  simp only [S0, Ed, rl_m h, ra_m h, h 0 _ (by decide), h 11 _ (by decide), h 5 _ (by decide), h 6 _ (by decide), h 15 _ (by decide)]
theorem sbN_m {iv iv' : Iv} (h : MA iv iv') (P : Nat → Prop) (G : Int) : ∀ n : Nat, sbN iv' P G n = sbN iv P G n
  | 0 => rfl
  | n + 1 => by
    show @ite _ (P n ∧ (iv' 6 0 n).toInt = G ∧ ((sbN iv' P G n).toInt < 0 ∨ (raF iv' n).toInt < (sbN iv' P G n).toInt)) (Classical.propDecidable _) (raF iv' n) (sbN iv' P G n) = @ite _ (P n ∧ (iv 6 0 n).toInt = G ∧ ((sbN iv P G n).toInt < 0 ∨ (raF iv n).toInt < (sbN iv P G n).toInt)) (Classical.propDecidable _) (raF iv n) (sbN iv P G n)
    rw [sbN_m h P G n, ra_m h, h 6 _ (by decide)]
theorem stT_m {iv iv' : Iv} (h : MA iv iv') (t : Nat) : stT iv' t = stT iv t := by
  unfold stT; rw [ms_m h, ra_m h, rwL_m h, rwL_m h, h 9 _ (by decide)]
theorem so_m {iv iv' : Iv} (h : MA iv iv') (t : Nat) : soF iv' t = soF iv t := by
  unfold soF; rw [ms_m h, ra_m h, thL_m h, stT_m h, rwL_m h, sbN_m h, rch_m h, h 5 _ (by decide), h 6 _ (by decide), h 0 _ (by decide)]
theorem ho_m {iv iv' : Iv} (h : MA iv iv') (t : Nat) : hoF iv' t = hoF iv t := by
  unfold hoF; rw [so_m h, thL_m h, h 10 _ (by decide)]
theorem snS_m {iv iv' : Iv} (h : MA iv iv') (t : Int32) : snS iv' t = snS iv t := by unfold snS; rw [so_m h, h 0 _ (by decide)]
theorem hrS_m {iv iv' : Iv} (h : MA iv iv') (t : Int32) : hrS iv' t = hrS iv t := by unfold hrS; rw [ho_m h, h 0 _ (by decide)]
end
section
def inR (T : List Nat) (F : List (Nat × Nat)) (t k : Nat) : Prop := t ∈ T ∨ (t, k) ∈ F
abbrev RC (T : List Nat) (F : List (Nat × Nat)) (md : Mo) : Prop := (∀ t, t ∈ T → t ∉ md.1 ∧ t ∉ md.2.map (fun p => p.1)) ∧ (∀ q, q ∈ F → ¬ MD md q.1 q.2)
def KP (T : List Nat) (F : List (Nat × Nat)) (al : Al) (iv : Iv) (rv : Rv) (iv' : Iv) (rv' : Rv) : Prop := ∀ t i k, i < al.1 t → inR T F t k → iv' t i k = iv t i k ∧ rv' t i k = rv t i k
theorem RC.no {T : List Nat} {F : List (Nat × Nat)} {md : Mo} (h : RC T F md) {t k : Nat} (q : inR T F t k) : ¬ MD md t k := q.elim (fun z => MD.no (h.1 t z)) (fun z => h.2 _ z)
theorem KP.two {T : List Nat} {F : List (Nat × Nat)} {al al1 : Al} {iv iv1 iv2 : Iv} {rv rv1 rv2 : Rv} {m1 m2 : Mo} (x1 : EX m1 al iv rv al1 iv1 rv1) (f2 : FR m2 iv1 iv2) (g2 : FR m2 rv1 rv2) (h1 : RC T F m1) (h2 : RC T F m2) : KP T F al iv rv iv2 rv2 := fun t i k hi q => by
  rw [f2 t i k (h2.no q), g2 t i k (h2.no q)]; exact x1.2.2 t i k hi (h1.no q)
theorem KP.fr {T : List Nat} {F : List (Nat × Nat)} {al : Al} {iv iv' : Iv} {rv rv' : Rv} {m : Mo} (f : FR m iv iv') (g : FR m rv rv') (h : RC T F m) : KP T F al iv rv iv' rv' := fun t i k _ q => ⟨f t i k (h.no q), g t i k (h.no q)⟩
theorem KP.ex {T : List Nat} {F : List (Nat × Nat)} {al al1 : Al} {iv iv' : Iv} {rv rv' : Rv} {m : Mo} (x : EX m al iv rv al1 iv' rv') (h : RC T F m) : KP T F al iv rv iv' rv' := fun t i k hi q => x.2.2 t i k hi (h.no q)
def Clegn (iv : Iv) (rv : Rv) : Prop := iv 0 0 6 = iv 57 0 1
abbrev T_Clegn : List Nat := []
abbrev F_Clegn : List (Nat × Nat) := [(0, 6), (57, 1)]
theorem Clegn.keep {al : Al} {iv iv' : Iv} {rv rv' : Rv} (h : Clegn iv rv) (hG : GI al iv rv) (e : KP T_Clegn F_Clegn al iv rv iv' rv') : Clegn iv' rv' := by
  unfold Clegn
  rw [(e 0 0 6 (h1_0 hG) (Or.inr (by decide))).1, (e 57 0 1 (h1_57 hG) (Or.inr (by decide))).1]; exact h
theorem two_cases {S : Int32} {A K B L : Prop} (p1 : (S = 0 ∧ A) ∨ (S ≠ 0 ∧ K)) (p2 : (S = 0 ∧ B) ∨ (S ≠ 0 ∧ L)) : (S = 0 ∧ A ∧ B) ∨ (S ≠ 0 ∧ K ∧ L) := by
  rcases p1 with ⟨o1, a⟩ | ⟨o1, a⟩ <;> rcases p2 with ⟨o2, b⟩ | ⟨o2, b⟩
  · exact Or.inl ⟨o1, a, b⟩
  · exact absurd o1 o2
  · exact absurd o2 o1
  · exact Or.inr ⟨o1, a, b⟩
theorem legIv_v {iv : Iv} {n : Nat} {num pl cr lv_ ar siz : Int32} : legIv iv n num pl cr lv_ ar siz 62 n 0 = num ∧ legIv iv n num pl cr lv_ ar siz 62 n 3 = pl ∧ legIv iv n num pl cr lv_ ar siz 62 n 4 = cr ∧ legIv iv n num pl cr lv_ ar siz 62 n 5 = lv_ ∧ legIv iv n num pl cr lv_ ar siz 62 n 6 = ar := by
  refine ⟨?_, ?_, ?_, ?_, ?_⟩ <;> simp [legIv, up3]
theorem legIv_blank {iv : Iv} {n : Nat} {num pl cr lv_ ar siz : Int32} {k : Nat} (h : 7 ≤ k) : legIv iv n num pl cr lv_ ar siz 62 n k = 0 := by
  unfold legIv
  rw [up3_ne (fun z => absurd z.1 (by decide)), up3_ne (fun z => by have := z.2.2; omega), up3_ne (fun z => by have := z.2.2; omega), up3_ne (fun z => by have := z.2.2; omega), up3_ne (fun z => by have := z.2.2; omega), up3_ne (fun z => by have := z.2.2; omega), clr_self]
theorem legRv_v {rv : Rv} {n pf pt_ : Nat} : legRv rv n pf pt_ 62 n 1 = some pf ∧ legRv rv n pf pt_ 62 n 2 = some pt_ := by
  refine ⟨?_, ?_⟩ <;> simp [legRv, up3]
def Ctkn (iv : Iv) (rv : Rv) : Prop := iv 0 0 20 = iv 63 0 1
abbrev T_Ctkn : List Nat := []
abbrev F_Ctkn : List (Nat × Nat) := [(0, 20), (63, 1)]
theorem Ctkn.keep {al : Al} {iv iv' : Iv} {rv rv' : Rv} (h : Ctkn iv rv) (hG : GI al iv rv) (e : KP T_Ctkn F_Ctkn al iv rv iv' rv') : Ctkn iv' rv' := by
  unfold Ctkn
  rw [(e 0 0 20 (h1_0 hG) (Or.inr (by decide))).1, (e 63 0 1 (h1_63 hG) (Or.inr (by decide))).1]; exact h
end
section
set_option maxHeartbeats 4000000 in
set_option maxRecDepth 100000 in
theorem c_X12_leg_y {l : Launch} {D : va_G} {cA : FieldType → ClassId} {sz : Nat} {al : Al} {iv : Iv} {rv : Rv} (hG : GI al iv rv) (a : Int32) (b : Int32) (pp : Int32) (cc_ : Int32) (lv_ : Int32) (rr : Int32) : Met l yX12_leg (wd yX12_leg cX12_leg 7 (some .int)) (rm 2) (PcW D cA sz al iv rv [.ref (al.2 0 0), .int a, .int b, .int pp, .int cc_, .int lv_, .int rr]) (QI D cA sz al (fI al ([16, 5, 6, 7, 8, 9, 10], [(0, 6)]) iv rv (fun r iv' rv' => (spLeg a b pp cc_ lv_ rr (iv 0 0 6).toInt = 0 ∧ r.toInt = (iv 0 0 6).toInt ∧ (iv' 0 0 6).toInt = (iv 0 0 6).toInt + 1 ∧ lgM iv iv' a b pp cc_ lv_ rr) ∨ (spLeg a b pp cc_ lv_ rr (iv 0 0 6).toInt ≠ 0 ∧ r = spLeg a b pp cc_ lv_ rr (iv 0 0 6).toInt ∧ iv' 0 0 6 = iv 0 0 6 ∧ lgK iv iv')))) 0 0 (Aq sz) := by
  refine mk_i (by decide) (Nat.le_of_ble_eq_true rfl) rfl ?_
  intro p e s m args below meth c ls Q H locs C hU hS hl hret
  have hx := C.1.1
  have hb := C.1.2.1
  have hl : lv_has ls 7 [(0, .ref (al.2 0 0)), (1, .int a), (2, .int b), (3, .int pp), (4, .int cc_), (5, .int lv_), (6, .int rr)] := hl
  have hG0 := hG
  have h6 := le6 hG
  have h20 := le20 hG
  have h41 := le41 hG
  have hF1 : FR ([16, 5, 6, 7, 8, 9, 10], [(0, 6)]) iv iv := FR.rf
  have hF2 : FR ([16, 5, 6, 7, 8, 9, 10], [(0, 6)]) rv rv := FR.rf
  have km6 : ((-6) : Int32).toInt = -6 := by decide
  have km4 : ((-4) : Int32).toInt = -4 := by decide
  have km1 : ((-1) : Int32).toInt = -1 := by decide
  have k0 : (0 : Int32).toInt = 0 := by decide
  have k1 : (1 : Int32).toInt = 1 := by decide
  have k5 : (5 : Int32).toInt = 5 := by decide
  have k40 : (40 : Int32).toInt = 40 := by decide
  have k20000 : (20000 : Int32).toInt = 20000 := by decide
  refine lv_iload_n hx hb dX12_leg_0 rfl (lv_at hl 1 rfl) ?_
  refine q_pi (q_runS (As := [.int a]) (rest := []) C hU (c_X12_isPort  a ) sm_X12_isPort ml_X12_171 hl.1 rfl rfl (Nat.le_of_ble_eq_true rfl) dX12_leg_1 rfl rfl ⟨Nat.le_of_ble_eq_true rfl, Nat.le_of_ble_eq_true rfl⟩ ⟨Nat.le_refl _, Nat.le_refl _⟩) hS (fun x_2 H locs hp_1 hU hS => ?_)
  refine b_if_eq (tgt := 38) hx hb dX12_leg_4 (by decide) (fun c_3 => ?_) (fun c_3 => ?_)
  ·
    refine lv_aload_n hx hb dX12_leg_38 rfl (lv_at hl 0 rfl) ?_
    refine lv_iconst (v := (-1)) hx hb dX12_leg_39 (by decide) ?_
    refine q_fi (q_runV (t := 0) (i := 0) (As := [.int (-1)]) (rest := []) C hU (c_X12_refuse hG (-1) (by omega)) vm_X12_refuse ml_X12_164 k_0.1 (hc := rfl) rfl (h1_0 hG) hl.1 rfl rfl (Nat.le_of_ble_eq_true rfl) dX12_leg_40 rfl rfl ⟨Nat.le_of_ble_eq_true rfl, Nat.le_of_ble_eq_true rfl⟩ ⟨Nat.le_refl _, Nat.le_refl _⟩) hS (fun x_9 iv_5 rv_6 H locs hG fa_7 fb_8 hp_4 hU hS => ?_)
    have hF1 := hF1.tr (m := ([16, 5, 6, 7, 8, 9, 10], [(0, 6)])) fa_7 (by decide)
    have hF2 := hF2.tr (m := ([16, 5, 6, 7, 8, 9, 10], [(0, 6)])) fb_8 (by decide)
    exact hret (⟨hG, hF1, hF2, sp_no (z := (-1)) (by unfold spLeg; (repeat' split) <;> first | rfl | omega) (by decide) hp_4 (⟨fa_7 0 0 6 (by decide), lg_fr fa_7 (by decide)⟩)⟩) hU hS dX12_leg_43
  ·
    refine lv_iload_n hx hb dX12_leg_7 rfl (lv_at hl 2 rfl) ?_
    refine q_pi (q_runS (As := [.int b]) (rest := []) C hU (c_X12_isPort  b ) sm_X12_isPort ml_X12_171 hl.1 rfl rfl (Nat.le_of_ble_eq_true rfl) dX12_leg_8 rfl rfl ⟨Nat.le_of_ble_eq_true rfl, Nat.le_of_ble_eq_true rfl⟩ ⟨Nat.le_refl _, Nat.le_refl _⟩) hS (fun x_11 H locs hp_10 hU hS => ?_)
    refine b_if_eq (tgt := 38) hx hb dX12_leg_11 (by decide) (fun c_12 => ?_) (fun c_12 => ?_)
    ·
      refine lv_aload_n hx hb dX12_leg_38 rfl (lv_at hl 0 rfl) ?_
      refine lv_iconst (v := (-1)) hx hb dX12_leg_39 (by decide) ?_
      refine q_fi (q_runV (t := 0) (i := 0) (As := [.int (-1)]) (rest := []) C hU (c_X12_refuse hG (-1) (by omega)) vm_X12_refuse ml_X12_164 k_0.1 (hc := rfl) rfl (h1_0 hG) hl.1 rfl rfl (Nat.le_of_ble_eq_true rfl) dX12_leg_40 rfl rfl ⟨Nat.le_of_ble_eq_true rfl, Nat.le_of_ble_eq_true rfl⟩ ⟨Nat.le_refl _, Nat.le_refl _⟩) hS (fun x_18 iv_14 rv_15 H locs hG fa_16 fb_17 hp_13 hU hS => ?_)
      have hF1 := hF1.tr (m := ([16, 5, 6, 7, 8, 9, 10], [(0, 6)])) fa_16 (by decide)
      have hF2 := hF2.tr (m := ([16, 5, 6, 7, 8, 9, 10], [(0, 6)])) fb_17 (by decide)
      exact hret (⟨hG, hF1, hF2, sp_no (z := (-1)) (by unfold spLeg; (repeat' split) <;> first | rfl | omega) (by decide) hp_13 (⟨fa_16 0 0 6 (by decide), lg_fr fa_16 (by decide)⟩)⟩) hU hS dX12_leg_43
    ·
      refine lv_iload_n hx hb dX12_leg_14 rfl (lv_at hl 1 rfl) ?_
      refine lv_iload_n hx hb dX12_leg_15 rfl (lv_at hl 2 rfl) ?_
      refine b_icmp_eq (tgt := 38) hx hb dX12_leg_16 (by decide) (fun c_19 => ?_) (fun c_19 => ?_)
      ·
        refine lv_aload_n hx hb dX12_leg_38 rfl (lv_at hl 0 rfl) ?_
        refine lv_iconst (v := (-1)) hx hb dX12_leg_39 (by decide) ?_
        refine q_fi (q_runV (t := 0) (i := 0) (As := [.int (-1)]) (rest := []) C hU (c_X12_refuse hG (-1) (by omega)) vm_X12_refuse ml_X12_164 k_0.1 (hc := rfl) rfl (h1_0 hG) hl.1 rfl rfl (Nat.le_of_ble_eq_true rfl) dX12_leg_40 rfl rfl ⟨Nat.le_of_ble_eq_true rfl, Nat.le_of_ble_eq_true rfl⟩ ⟨Nat.le_refl _, Nat.le_refl _⟩) hS (fun x_25 iv_21 rv_22 H locs hG fa_23 fb_24 hp_20 hU hS => ?_)
        have hF1 := hF1.tr (m := ([16, 5, 6, 7, 8, 9, 10], [(0, 6)])) fa_23 (by decide)
        have hF2 := hF2.tr (m := ([16, 5, 6, 7, 8, 9, 10], [(0, 6)])) fb_24 (by decide)
        exact hret (⟨hG, hF1, hF2, sp_no (z := (-1)) (by unfold spLeg; (repeat' split) <;> first | rfl | omega) (by decide) hp_20 (⟨fa_23 0 0 6 (by decide), lg_fr fa_23 (by decide)⟩)⟩) hU hS dX12_leg_43
      ·
        refine lv_iload_n hx hb dX12_leg_19 rfl (lv_at hl 3 rfl) ?_
        refine lv_iconst (v := 0) hx hb dX12_leg_20 (by decide) ?_
        refine lv_iconst (v := 5) hx hb dX12_leg_21 (by decide) ?_
        refine q_pi (q_runS (As := [.int pp, .int 0, .int 5]) (rest := []) C hU (c_X12_in  pp 0 5 ) sm_X12_in ml_X12_156 hl.1 rfl rfl (Nat.le_of_ble_eq_true rfl) dX12_leg_22 rfl rfl ⟨Nat.le_of_ble_eq_true rfl, Nat.le_of_ble_eq_true rfl⟩ ⟨Nat.le_refl _, Nat.le_refl _⟩) hS (fun x_27 H locs hp_26 hU hS => ?_)
        refine b_if_eq (tgt := 38) hx hb dX12_leg_25 (by decide) (fun c_28 => ?_) (fun c_28 => ?_)
        ·
          refine lv_aload_n hx hb dX12_leg_38 rfl (lv_at hl 0 rfl) ?_
          refine lv_iconst (v := (-1)) hx hb dX12_leg_39 (by decide) ?_
          refine q_fi (q_runV (t := 0) (i := 0) (As := [.int (-1)]) (rest := []) C hU (c_X12_refuse hG (-1) (by omega)) vm_X12_refuse ml_X12_164 k_0.1 (hc := rfl) rfl (h1_0 hG) hl.1 rfl rfl (Nat.le_of_ble_eq_true rfl) dX12_leg_40 rfl rfl ⟨Nat.le_of_ble_eq_true rfl, Nat.le_of_ble_eq_true rfl⟩ ⟨Nat.le_refl _, Nat.le_refl _⟩) hS (fun x_34 iv_30 rv_31 H locs hG fa_32 fb_33 hp_29 hU hS => ?_)
          have hF1 := hF1.tr (m := ([16, 5, 6, 7, 8, 9, 10], [(0, 6)])) fa_32 (by decide)
          have hF2 := hF2.tr (m := ([16, 5, 6, 7, 8, 9, 10], [(0, 6)])) fb_33 (by decide)
          exact hret (⟨hG, hF1, hF2, sp_no (z := (-1)) (by unfold spLeg; (repeat' split) <;> first | rfl | omega) (by decide) hp_29 (⟨fa_32 0 0 6 (by decide), lg_fr fa_32 (by decide)⟩)⟩) hU hS dX12_leg_43
        ·
          refine lv_iload hx hb dX12_leg_28 (lv_at hl 4 rfl) ?_
          refine lv_iconst (v := 0) hx hb dX12_leg_30 (by decide) ?_
          refine lv_iconst (v := 5) hx hb dX12_leg_31 (by decide) ?_
          refine q_pi (q_runS (As := [.int cc_, .int 0, .int 5]) (rest := []) C hU (c_X12_in  cc_ 0 5 ) sm_X12_in ml_X12_156 hl.1 rfl rfl (Nat.le_of_ble_eq_true rfl) dX12_leg_32 rfl rfl ⟨Nat.le_of_ble_eq_true rfl, Nat.le_of_ble_eq_true rfl⟩ ⟨Nat.le_refl _, Nat.le_refl _⟩) hS (fun x_36 H locs hp_35 hU hS => ?_)
          refine b_if_ne (tgt := 44) hx hb dX12_leg_35 (by decide) (fun c_37 => ?_) (fun c_37 => ?_)
          ·
            refine lv_iload hx hb dX12_leg_44 (lv_at hl 5 rfl) ?_
            refine b_if_lt (tgt := 56) hx hb dX12_leg_46 (by decide) (fun c_38 => ?_) (fun c_38 => ?_)
            ·
              refine lv_aload_n hx hb dX12_leg_56 rfl (lv_at hl 0 rfl) ?_
              refine lv_bipush (v := (-4)) hx hb dX12_leg_57 (by decide) ?_
              refine q_fi (q_runV (t := 0) (i := 0) (As := [.int (-4)]) (rest := []) C hU (c_X12_refuse hG (-4) (by omega)) vm_X12_refuse ml_X12_164 k_0.1 (hc := rfl) rfl (h1_0 hG) hl.1 rfl rfl (Nat.le_of_ble_eq_true rfl) dX12_leg_59 rfl rfl ⟨Nat.le_of_ble_eq_true rfl, Nat.le_of_ble_eq_true rfl⟩ ⟨Nat.le_refl _, Nat.le_refl _⟩) hS (fun x_44 iv_40 rv_41 H locs hG fa_42 fb_43 hp_39 hU hS => ?_)
              have hF1 := hF1.tr (m := ([16, 5, 6, 7, 8, 9, 10], [(0, 6)])) fa_42 (by decide)
              have hF2 := hF2.tr (m := ([16, 5, 6, 7, 8, 9, 10], [(0, 6)])) fb_43 (by decide)
              exact hret (⟨hG, hF1, hF2, sp_no (z := (-4)) (by unfold spLeg; (repeat' split) <;> first | rfl | omega) (by decide) hp_39 (⟨fa_42 0 0 6 (by decide), lg_fr fa_42 (by decide)⟩)⟩) hU hS dX12_leg_62
            ·
              refine lv_iload hx hb dX12_leg_49 (lv_at hl 6 rfl) ?_
              refine lv_iload hx hb dX12_leg_51 (lv_at hl 5 rfl) ?_
              refine b_icmp_gt (tgt := 63) hx hb dX12_leg_53 (by decide) (fun c_45 => ?_) (fun c_45 => ?_)
              ·
                refine lv_iload hx hb dX12_leg_63 (lv_at hl 6 rfl) ?_
                refine lv_sipush (v := 20000) hx hb dX12_leg_65 (by decide) ?_
                refine b_icmp_gt (tgt := 80) hx hb dX12_leg_68 (by decide) (fun c_46 => ?_) (fun c_46 => ?_)
                ·
                  refine lv_aload_n hx hb dX12_leg_80 rfl (lv_at hl 0 rfl) ?_
                  refine lv_bipush (v := (-6)) hx hb dX12_leg_81 (by decide) ?_
                  refine q_fi (q_runV (t := 0) (i := 0) (As := [.int (-6)]) (rest := []) C hU (c_X12_refuse hG (-6) (by omega)) vm_X12_refuse ml_X12_164 k_0.1 (hc := rfl) rfl (h1_0 hG) hl.1 rfl rfl (Nat.le_of_ble_eq_true rfl) dX12_leg_83 rfl rfl ⟨Nat.le_of_ble_eq_true rfl, Nat.le_of_ble_eq_true rfl⟩ ⟨Nat.le_refl _, Nat.le_refl _⟩) hS (fun x_52 iv_48 rv_49 H locs hG fa_50 fb_51 hp_47 hU hS => ?_)
                  have hF1 := hF1.tr (m := ([16, 5, 6, 7, 8, 9, 10], [(0, 6)])) fa_50 (by decide)
                  have hF2 := hF2.tr (m := ([16, 5, 6, 7, 8, 9, 10], [(0, 6)])) fb_51 (by decide)
                  exact hret (⟨hG, hF1, hF2, sp_no (z := (-6)) (by unfold spLeg; (repeat' split) <;> first | rfl | omega) (by decide) hp_47 (⟨fa_50 0 0 6 (by decide), lg_fr fa_50 (by decide)⟩)⟩) hU hS dX12_leg_86
                ·
                  refine lv_aload_n hx hb dX12_leg_71 rfl (lv_at hl 0 rfl) ?_
                  refine g_0_6 C hU hG (h1_0 hG) fl_X12_160 dX12_leg_72 (fun x_53 e_54 le_54 ue_54 => ?_)
                  have te_54 := congrArg Int32.toInt e_54
                  refine lv_bipush (v := 40) hx hb dX12_leg_75 (by decide) ?_
                  refine b_icmp_ne (tgt := 87) hx hb dX12_leg_77 (by decide) (fun c_55 => ?_) (fun c_55 => ?_)
                  ·
                    refine lv_aload_n hx hb dX12_leg_87 rfl (lv_at hl 0 rfl) ?_
                    refine g_0_7 C hU hG (h1_0 hG) fl_X12_22 dX12_leg_88 ?_
                    refine lv_aload_n hx hb dX12_leg_91 rfl (lv_at hl 0 rfl) ?_
                    refine g_0_6 C hU hG (h1_0 hG) fl_X12_160 dX12_leg_92 (fun x_56 e_57 le_57 ue_57 => ?_)
                    have te_57 := congrArg Int32.toInt e_57
                    refine lv_iload_n hx hb dX12_leg_95 rfl (lv_at hl 1 rfl) ?_
                    refine s_5 C hU hS (h1_5 hG) (x := x_56) (by omega) (by omega) dX12_leg_96 (fun iv_58 H locs ei_59 hU hS => ?_)
                    have hG : GI al iv_58 rv := by rw [ei_59]; exact hG.puti (show _ ∧ _ from ⟨show (0 : Int) ≤ _ by omega, show _ ≤ (9 : Int) by omega⟩) (nsA (by decide) _)
                    have hF1 : FR ([16, 5, 6, 7, 8, 9, 10], [(0, 6)]) iv iv_58 := by rw [ei_59]; exact hF1.put (Or.inl (by decide))
                    have kf_60 := congrArg Int32.toInt (show iv_58 0 0 6 = iv 0 0 6 by rw [ei_59]; exact up3_ne (fun z => absurd z.1 (by decide)))
                    refine lv_aload_n hx hb dX12_leg_97 rfl (lv_at hl 0 rfl) ?_
                    refine g_0_8 C hU hG (h1_0 hG) fl_X12_25 dX12_leg_98 ?_
                    refine lv_aload_n hx hb dX12_leg_101 rfl (lv_at hl 0 rfl) ?_
                    refine g_0_6 C hU hG (h1_0 hG) fl_X12_160 dX12_leg_102 (fun x_61 e_62 le_62 ue_62 => ?_)
                    have te_62 := congrArg Int32.toInt e_62
                    refine lv_iload_n hx hb dX12_leg_105 rfl (lv_at hl 2 rfl) ?_
                    refine s_6 C hU hS (h1_6 hG) (x := x_61) (by omega) (by omega) dX12_leg_106 (fun iv_63 H locs ei_64 hU hS => ?_)
                    have hG : GI al iv_63 rv := by rw [ei_64]; exact hG.puti (show _ ∧ _ from ⟨show (0 : Int) ≤ _ by omega, show _ ≤ (9 : Int) by omega⟩) (nsA (by decide) _)
                    have hF1 : FR ([16, 5, 6, 7, 8, 9, 10], [(0, 6)]) iv iv_63 := by rw [ei_64]; exact hF1.put (Or.inl (by decide))
                    have kf_65 := congrArg Int32.toInt (show iv_63 0 0 6 = iv_58 0 0 6 by rw [ei_64]; exact up3_ne (fun z => absurd z.1 (by decide)))
                    refine lv_aload_n hx hb dX12_leg_107 rfl (lv_at hl 0 rfl) ?_
                    refine g_0_9 C hU hG (h1_0 hG) fl_X12_28 dX12_leg_108 ?_
                    refine lv_aload_n hx hb dX12_leg_111 rfl (lv_at hl 0 rfl) ?_
                    refine g_0_6 C hU hG (h1_0 hG) fl_X12_160 dX12_leg_112 (fun x_66 e_67 le_67 ue_67 => ?_)
                    have te_67 := congrArg Int32.toInt e_67
                    refine lv_iload_n hx hb dX12_leg_115 rfl (lv_at hl 3 rfl) ?_
                    refine s_7 C hU hS (h1_7 hG) (x := x_66) (by omega) (by omega) dX12_leg_116 (fun iv_68 H locs ei_69 hU hS => ?_)
                    have hG : GI al iv_68 rv := by rw [ei_69]; exact hG.puti (show _ ∧ _ from ⟨(fb_rng _).1, Int.le_of_lt_add_one (fb_rng _).2⟩) (nsA (by decide) _)
                    have hF1 : FR ([16, 5, 6, 7, 8, 9, 10], [(0, 6)]) iv iv_68 := by rw [ei_69]; exact hF1.put (Or.inl (by decide))
                    have kf_70 := congrArg Int32.toInt (show iv_68 0 0 6 = iv_63 0 0 6 by rw [ei_69]; exact up3_ne (fun z => absurd z.1 (by decide)))
                    refine lv_aload_n hx hb dX12_leg_117 rfl (lv_at hl 0 rfl) ?_
                    refine g_0_10 C hU hG (h1_0 hG) fl_X12_31 dX12_leg_118 ?_
                    refine lv_aload_n hx hb dX12_leg_121 rfl (lv_at hl 0 rfl) ?_
                    refine g_0_6 C hU hG (h1_0 hG) fl_X12_160 dX12_leg_122 (fun x_71 e_72 le_72 ue_72 => ?_)
                    have te_72 := congrArg Int32.toInt e_72
                    refine lv_iload hx hb dX12_leg_125 (lv_at hl 4 rfl) ?_
                    refine s_8 C hU hS (h1_8 hG) (x := x_71) (by omega) (by omega) dX12_leg_127 (fun iv_73 H locs ei_74 hU hS => ?_)
                    have hG : GI al iv_73 rv := by rw [ei_74]; exact hG.puti (show _ ∧ _ from ⟨(fb_rng _).1, Int.le_of_lt_add_one (fb_rng _).2⟩) (nsA (by decide) _)
                    have hF1 : FR ([16, 5, 6, 7, 8, 9, 10], [(0, 6)]) iv iv_73 := by rw [ei_74]; exact hF1.put (Or.inl (by decide))
                    have kf_75 := congrArg Int32.toInt (show iv_73 0 0 6 = iv_68 0 0 6 by rw [ei_74]; exact up3_ne (fun z => absurd z.1 (by decide)))
                    refine lv_aload_n hx hb dX12_leg_128 rfl (lv_at hl 0 rfl) ?_
                    refine g_0_11 C hU hG (h1_0 hG) fl_X12_34 dX12_leg_129 ?_
                    refine lv_aload_n hx hb dX12_leg_132 rfl (lv_at hl 0 rfl) ?_
                    refine g_0_6 C hU hG (h1_0 hG) fl_X12_160 dX12_leg_133 (fun x_76 e_77 le_77 ue_77 => ?_)
                    have te_77 := congrArg Int32.toInt e_77
                    refine lv_iload hx hb dX12_leg_136 (lv_at hl 5 rfl) ?_
                    refine s_9 C hU hS (h1_9 hG) (x := x_76) (by omega) (by omega) dX12_leg_138 (fun iv_78 H locs ei_79 hU hS => ?_)
                    have hG : GI al iv_78 rv := by rw [ei_79]; exact hG.put9 ⟨by omega, by omega⟩ (by omega) (by omega)
                    have hF1 : FR ([16, 5, 6, 7, 8, 9, 10], [(0, 6)]) iv iv_78 := by rw [ei_79]; exact hF1.put (Or.inl (by decide))
                    have kf_80 := congrArg Int32.toInt (show iv_78 0 0 6 = iv_73 0 0 6 by rw [ei_79]; exact up3_ne (fun z => absurd z.1 (by decide)))
                    refine lv_aload_n hx hb dX12_leg_139 rfl (lv_at hl 0 rfl) ?_
                    refine g_0_12 C hU hG (h1_0 hG) fl_X12_37 dX12_leg_140 ?_
                    refine lv_aload_n hx hb dX12_leg_143 rfl (lv_at hl 0 rfl) ?_
                    refine g_0_6 C hU hG (h1_0 hG) fl_X12_160 dX12_leg_144 (fun x_81 e_82 le_82 ue_82 => ?_)
                    have te_82 := congrArg Int32.toInt e_82
                    refine lv_iload hx hb dX12_leg_147 (lv_at hl 6 rfl) ?_
                    refine s_10 C hU hS (h1_10 hG) (x := x_81) (by omega) (by omega) dX12_leg_149 (fun iv_83 H locs ei_84 hU hS => ?_)
                    have hG : GI al iv_83 rv := by rw [ei_84]; exact hG.put10 ⟨by omega, by omega⟩ (by omega) (by omega)
                    have hF1 : FR ([16, 5, 6, 7, 8, 9, 10], [(0, 6)]) iv iv_83 := by rw [ei_84]; exact hF1.put (Or.inl (by decide))
                    have kf_85 := congrArg Int32.toInt (show iv_83 0 0 6 = iv_78 0 0 6 by rw [ei_84]; exact up3_ne (fun z => absurd z.1 (by decide)))
                    refine lv_aload_n hx hb dX12_leg_150 rfl (lv_at hl 0 rfl) ?_
                    refine lv_dup hx hb dX12_leg_151 rfl ?_
                    refine g_0_6 C hU hG (h1_0 hG) fl_X12_160 dX12_leg_152 (fun x_86 e_87 le_87 ue_87 => ?_)
                    have te_87 := congrArg Int32.toInt e_87
                    have a1 : iv_83 10 0 x_86.toNatClampNeg = rr := by rw [ei_84, clamp_eq (show x_86.toInt = x_81.toInt by omega)]; exact up3_self _ _ _ _ _
                    have a2 : iv_83 9 0 x_86.toNatClampNeg = lv_ := by rw [ei_84, up3_ne (fun z => absurd z.1 (by decide)), ei_79, clamp_eq (show x_86.toInt = x_76.toInt by omega)]; exact up3_self _ _ _ _ _
                    refine lv_iconst (v := 1) hx hb dX12_leg_155 (by decide) ?_
                    refine lv_iadd hx hb dX12_leg_156 ?_
                    refine lv_topi (fun x_88 e_89 => ?_)
                    have te_89 : x_88.toInt = (x_86 : Int32).toInt + (1 : Int32).toInt := by rw [e_89]; exact fb_addI (by omega) (by omega)
                    refine p_0_6 C hU hS (h1_0 hG) fl_X12_160 dX12_leg_157 (fun iv_90 H locs ei_91 hU hS => ?_)
                    have hG : GI al iv_90 rv := by rw [ei_91]; exact hG.put6 (x := x_86) ⟨by omega, by omega⟩ (by omega) (by omega) (by rw [a1, a2]; omega)
                    have hF1 : FR ([16, 5, 6, 7, 8, 9, 10], [(0, 6)]) iv iv_90 := by rw [ei_91]; exact hF1.put (by decide)
                    refine lv_aload_n hx hb dX12_leg_160 rfl (lv_at hl 0 rfl) ?_
                    refine g_0_6 C hU hG (h1_0 hG) fl_X12_160 dX12_leg_161 (fun x_92 e_93 le_93 ue_93 => ?_)
                    have te_93 := congrArg Int32.toInt e_93
                    have hz_ := e_93
                    rw [ei_91, up3_self] at hz_
                    have tz_ := congrArg Int32.toInt hz_
                    refine lv_iconst (v := 1) hx hb dX12_leg_164 (by decide) ?_
                    refine lv_isub hx hb dX12_leg_165 ?_
                    refine lv_topi (fun x_94 e_95 => ?_)
                    have te_95 : x_94.toInt = (x_92 : Int32).toInt - (1 : Int32).toInt := by rw [e_95]; exact fb_subI (by omega) (by omega)
                    exact hret (⟨hG, hF1, hF2, Or.inl ⟨(by unfold spLeg; (repeat' split) <;> first | rfl | omega), by omega, by rw [ei_91, up3_self]; omega, lg_ok ei_59 ei_64 ei_69 ei_74 ei_79 ei_84 ei_91 (by omega) (by omega) (by omega) (by omega) (by omega) (by omega)⟩⟩) hU hS dX12_leg_166
                  ·
                    refine lv_aload_n hx hb dX12_leg_80 rfl (lv_at hl 0 rfl) ?_
                    refine lv_bipush (v := (-6)) hx hb dX12_leg_81 (by decide) ?_
                    refine q_fi (q_runV (t := 0) (i := 0) (As := [.int (-6)]) (rest := []) C hU (c_X12_refuse hG (-6) (by omega)) vm_X12_refuse ml_X12_164 k_0.1 (hc := rfl) rfl (h1_0 hG) hl.1 rfl rfl (Nat.le_of_ble_eq_true rfl) dX12_leg_83 rfl rfl ⟨Nat.le_of_ble_eq_true rfl, Nat.le_of_ble_eq_true rfl⟩ ⟨Nat.le_refl _, Nat.le_refl _⟩) hS (fun x_101 iv_97 rv_98 H locs hG fa_99 fb_100 hp_96 hU hS => ?_)
                    have hF1 := hF1.tr (m := ([16, 5, 6, 7, 8, 9, 10], [(0, 6)])) fa_99 (by decide)
                    have hF2 := hF2.tr (m := ([16, 5, 6, 7, 8, 9, 10], [(0, 6)])) fb_100 (by decide)
                    exact hret (⟨hG, hF1, hF2, sp_no (z := (-6)) (by unfold spLeg; (repeat' split) <;> first | rfl | omega) (by decide) hp_96 (⟨fa_99 0 0 6 (by decide), lg_fr fa_99 (by decide)⟩)⟩) hU hS dX12_leg_86
              ·
                refine lv_aload_n hx hb dX12_leg_56 rfl (lv_at hl 0 rfl) ?_
                refine lv_bipush (v := (-4)) hx hb dX12_leg_57 (by decide) ?_
                refine q_fi (q_runV (t := 0) (i := 0) (As := [.int (-4)]) (rest := []) C hU (c_X12_refuse hG (-4) (by omega)) vm_X12_refuse ml_X12_164 k_0.1 (hc := rfl) rfl (h1_0 hG) hl.1 rfl rfl (Nat.le_of_ble_eq_true rfl) dX12_leg_59 rfl rfl ⟨Nat.le_of_ble_eq_true rfl, Nat.le_of_ble_eq_true rfl⟩ ⟨Nat.le_refl _, Nat.le_refl _⟩) hS (fun x_107 iv_103 rv_104 H locs hG fa_105 fb_106 hp_102 hU hS => ?_)
                have hF1 := hF1.tr (m := ([16, 5, 6, 7, 8, 9, 10], [(0, 6)])) fa_105 (by decide)
                have hF2 := hF2.tr (m := ([16, 5, 6, 7, 8, 9, 10], [(0, 6)])) fb_106 (by decide)
                exact hret (⟨hG, hF1, hF2, sp_no (z := (-4)) (by unfold spLeg; (repeat' split) <;> first | rfl | omega) (by decide) hp_102 (⟨fa_105 0 0 6 (by decide), lg_fr fa_105 (by decide)⟩)⟩) hU hS dX12_leg_62
          ·
            refine lv_aload_n hx hb dX12_leg_38 rfl (lv_at hl 0 rfl) ?_
            refine lv_iconst (v := (-1)) hx hb dX12_leg_39 (by decide) ?_
            refine q_fi (q_runV (t := 0) (i := 0) (As := [.int (-1)]) (rest := []) C hU (c_X12_refuse hG (-1) (by omega)) vm_X12_refuse ml_X12_164 k_0.1 (hc := rfl) rfl (h1_0 hG) hl.1 rfl rfl (Nat.le_of_ble_eq_true rfl) dX12_leg_40 rfl rfl ⟨Nat.le_of_ble_eq_true rfl, Nat.le_of_ble_eq_true rfl⟩ ⟨Nat.le_refl _, Nat.le_refl _⟩) hS (fun x_113 iv_109 rv_110 H locs hG fa_111 fb_112 hp_108 hU hS => ?_)
            have hF1 := hF1.tr (m := ([16, 5, 6, 7, 8, 9, 10], [(0, 6)])) fa_111 (by decide)
            have hF2 := hF2.tr (m := ([16, 5, 6, 7, 8, 9, 10], [(0, 6)])) fb_112 (by decide)
            exact hret (⟨hG, hF1, hF2, sp_no (z := (-1)) (by unfold spLeg; (repeat' split) <;> first | rfl | omega) (by decide) hp_108 (⟨fa_111 0 0 6 (by decide), lg_fr fa_111 (by decide)⟩)⟩) hU hS dX12_leg_43
set_option maxHeartbeats 4000000 in
set_option maxRecDepth 100000 in
theorem c_X11_leg_y {l : Launch} {D : va_G} {cA : FieldType → ClassId} {sz : Nat} {al : Al} {iv : Iv} {rv : Rv} (hG : GI al iv rv) (a : Int32) (b : Int32) (pl : Int32) (cr : Int32) (lv_ : Int32) (ar : Int32) : Met l yX11_leg (wd yX11_leg cX11_leg 9 (some .int)) (rmA 3 1 15) (PcA D cA sz al iv rv [.ref (al.2 49 0), .int a, .int b, .int pl, .int cr, .int lv_, .int ar] (fun _ => True)) (QIA D cA sz (fun r al' iv' rv' => GI al' iv' rv' ∧ EX ([51, 58], [(57, 1)]) al iv rv al' iv' rv' ∧ ((spLeg a b pl cr lv_ ar (iv 57 0 1).toInt = 0 ∧ r.toInt = (iv 57 0 1).toInt ∧ (iv' 57 0 1).toInt = (iv 57 0 1).toInt + 1 ∧ ∃ (aa : Nat) (siz : Int32), siz.toInt = al.1 62 + 1 ∧ al' = grow al 62 aa ∧ iv' = legIv iv (al.1 62) r pl cr lv_ ar siz ∧ rv' = legRv rv (al.1 62) a.toNatClampNeg b.toNatClampNeg) ∨ (spLeg a b pl cr lv_ ar (iv 57 0 1).toInt ≠ 0 ∧ r = spLeg a b pl cr lv_ ar (iv 57 0 1).toInt ∧ iv' 57 0 1 = iv 57 0 1)))) 1 15 (Aq sz) := by
  refine mk_ia (by decide) (Nat.le_of_ble_eq_true rfl) rfl ?_
  intro p e s m args below meth c ls Q H locs C hU hS hX hz0 hl hret
  have hx := C.1.1
  have hb := C.1.2.1
  have hl : lv_has ls 9 [(0, .ref (al.2 49 0)), (1, .int a), (2, .int b), (3, .int pl), (4, .int cr), (5, .int lv_), (6, .int ar)] := hl
  have hG0 := hG
  have hF1 : FR ([51, 58], [(57, 1)]) iv iv := FR.rf
  have hF2 : FR ([51, 58], [(57, 1)]) rv rv := FR.rf
  have km6 : ((-6) : Int32).toInt = -6 := by decide
  have km4 : ((-4) : Int32).toInt = -4 := by decide
  have km1 : ((-1) : Int32).toInt = -1 := by decide
  have k6 : (6 : Int32).toInt = 6 := by decide
  have k20000 : (20000 : Int32).toInt = 20000 := by decide
  refine lv_aload_n hx hb dX11_leg_0 rfl (lv_at hl 0 rfl) ?_
  refine g_49_0 C hU hG (h1_49 hG) fl_X11_10 dX11_leg_1 ?_
  refine lv_iload_n hx hb dX11_leg_4 rfl (lv_at hl 1 rfl) ?_
  refine q_pr (q_runV (t := 52) (i := 0) (As := [.int a]) (rest := []) C hU (c_X7_find hG a ) vm_X7_find ml_X11_81 k_52.1 (hc := rfl) rfl (h1_52 hG) hl.1 rfl rfl (Nat.le_of_ble_eq_true rfl) dX11_leg_5 rfl rfl ⟨Nat.le_of_ble_eq_true rfl, Nat.le_of_ble_eq_true rfl⟩ ⟨Nat.le_of_ble_eq_true rfl, Nat.le_of_ble_eq_true rfl⟩) hS (fun r_2 H locs hp_1 hU hS => ?_)
  have hb_3 := hp_1.1
  refine b_astore (lv' := [(7, rfv al 56 r_2), (0, .ref (al.2 49 0)), (1, .int a), (2, .int b), (3, .int pl), (4, .int cr), (5, .int lv_), (6, .int ar)]) hx hb dX11_leg_8 hl (by decide) rfl (fun ls hl => ?_)
  refine lv_aload_n hx hb dX11_leg_10 rfl (lv_at hl 1 rfl) ?_
  refine g_49_0 C hU hG (h1_49 hG) fl_X11_10 dX11_leg_11 ?_
  refine lv_iload_n hx hb dX11_leg_14 rfl (lv_at hl 3 rfl) ?_
  refine q_pr (q_runV (t := 52) (i := 0) (As := [.int b]) (rest := []) C hU (c_X7_find hG b ) vm_X7_find ml_X11_81 k_52.1 (hc := rfl) rfl (h1_52 hG) hl.1 rfl rfl (Nat.le_of_ble_eq_true rfl) dX11_leg_15 rfl rfl ⟨Nat.le_of_ble_eq_true rfl, Nat.le_of_ble_eq_true rfl⟩ ⟨Nat.le_of_ble_eq_true rfl, Nat.le_of_ble_eq_true rfl⟩) hS (fun r_5 H locs hp_4 hU hS => ?_)
  have hb_6 := hp_4.1
  refine b_astore (lv' := [(8, rfv al 56 r_5), (7, rfv al 56 r_2), (0, .ref (al.2 49 0)), (1, .int a), (2, .int b), (3, .int pl), (4, .int cr), (5, .int lv_), (6, .int ar)]) hx hb dX11_leg_18 hl (by decide) (by simp [List.filter_cons, rfv_cat]) (fun ls hl => ?_)
  refine b_aload (al := al) (t' := 56) (r := r_2) hx hb dX11_leg_20 (lv_at hl 1 rfl) ?_
  refine b_ifnull (tgt := 37) hx hb dX11_leg_22 (by decide) (fun ej_9 => ?_) (fun j_8 ej_9 => ?_)
  ·
    subst ej_9
    have hl : lv_has ls 9 [(8, rfv al 56 r_5), (7, rfv al 56 none), (0, .ref (al.2 49 0)), (1, .int a), (2, .int b), (3, .int pl), (4, .int cr), (5, .int lv_), (6, .int ar)] := hl
    have hq4 := hp_1.2.2 rfl
    refine lv_aload_n hx hb dX11_leg_37 rfl (lv_at hl 2 rfl) ?_
    refine lv_iconst (v := (-1)) hx hb dX11_leg_38 (by decide) ?_
    refine q_fi (q_runV (t := 49) (i := 0) (As := [.int (-1)]) (rest := []) C hU (c_X11_refuse hG (-1) (by omega)) vm_X11_refuse ml_X11_77 k_49.1 (hc := rfl) rfl (h1_49 hG) hl.1 rfl rfl (Nat.le_of_ble_eq_true rfl) dX11_leg_39 rfl rfl ⟨Nat.le_of_ble_eq_true rfl, Nat.le_of_ble_eq_true rfl⟩ ⟨Nat.le_of_ble_eq_true rfl, Nat.le_of_ble_eq_true rfl⟩) hS (fun x_15 iv_11 rv_12 H locs hG fa_13 fb_14 hp_10 hU hS => ?_)
    have hF1 := hF1.tr (m := ([51, 58], [(57, 1)])) fa_13 (by decide)
    have hF2 := hF2.tr (m := ([51, 58], [(57, 1)])) fb_14 (by decide)
    refine W.widen (k := 1) (n := 15) (Nat.zero_le _) (Nat.zero_le _) ?_
    exact hret (⟨hG, EX.of hF1 hF2, sp_no (z := (-1)) (by unfold spLeg; (repeat' split) <;> first | rfl | omega) (by decide) hp_10 (fa_13 57 0 1 (by decide))⟩) hU hS dX11_leg_42
  ·
    subst ej_9
    have hl : lv_has ls 9 [(8, rfv al 56 r_5), (7, .ref (al.2 56 j_8)), (0, .ref (al.2 49 0)), (1, .int a), (2, .int b), (3, .int pl), (4, .int cr), (5, .int lv_), (6, .int ar)] := hl
    have hb_16 : j_8 < al.1 56 := hb_3 j_8 rfl
    have hq4 := hp_1.2.1 _ rfl
    have hn4 := hq4.1
    rw [clamp_n] at hn4
    refine b_aload (al := al) (t' := 56) (r := r_5) hx hb dX11_leg_25 (lv_at hl 0 rfl) ?_
    refine b_ifnull (tgt := 37) hx hb dX11_leg_27 (by decide) (fun ej_19 => ?_) (fun j_18 ej_19 => ?_)
    ·
      subst ej_19
      have hl : lv_has ls 9 [(8, rfv al 56 none), (7, .ref (al.2 56 j_8)), (0, .ref (al.2 49 0)), (1, .int a), (2, .int b), (3, .int pl), (4, .int cr), (5, .int lv_), (6, .int ar)] := hl
      have hq5 := hp_4.2.2 rfl
      refine lv_aload_n hx hb dX11_leg_37 rfl (lv_at hl 2 rfl) ?_
      refine lv_iconst (v := (-1)) hx hb dX11_leg_38 (by decide) ?_
      refine q_fi (q_runV (t := 49) (i := 0) (As := [.int (-1)]) (rest := []) C hU (c_X11_refuse hG (-1) (by omega)) vm_X11_refuse ml_X11_77 k_49.1 (hc := rfl) rfl (h1_49 hG) hl.1 rfl rfl (Nat.le_of_ble_eq_true rfl) dX11_leg_39 rfl rfl ⟨Nat.le_of_ble_eq_true rfl, Nat.le_of_ble_eq_true rfl⟩ ⟨Nat.le_of_ble_eq_true rfl, Nat.le_of_ble_eq_true rfl⟩) hS (fun x_25 iv_21 rv_22 H locs hG fa_23 fb_24 hp_20 hU hS => ?_)
      have hF1 := hF1.tr (m := ([51, 58], [(57, 1)])) fa_23 (by decide)
      have hF2 := hF2.tr (m := ([51, 58], [(57, 1)])) fb_24 (by decide)
      refine W.widen (k := 1) (n := 15) (Nat.zero_le _) (Nat.zero_le _) ?_
      exact hret (⟨hG, EX.of hF1 hF2, sp_no (z := (-1)) (by unfold spLeg; (repeat' split) <;> first | rfl | omega) (by decide) hp_20 (fa_23 57 0 1 (by decide))⟩) hU hS dX11_leg_42
    ·
      subst ej_19
      have hl : lv_has ls 9 [(8, .ref (al.2 56 j_18)), (7, .ref (al.2 56 j_8)), (0, .ref (al.2 49 0)), (1, .int a), (2, .int b), (3, .int pl), (4, .int cr), (5, .int lv_), (6, .int ar)] := hl
      have hb_26 : j_18 < al.1 56 := hb_6 j_18 rfl
      have hq5 := hp_4.2.1 _ rfl
      have hn5 := hq5.1
      rw [clamp_n] at hn5
      refine lv_aload hx hb dX11_leg_30 (lv_at hl 1 rfl) ?_
      refine lv_aload hx hb dX11_leg_32 (lv_at hl 0 rfl) ?_
      refine b_acmp_ne (tgt := 43) hx hb hU hb_16 hb_26 dX11_leg_34 (by decide) (fun c_27 => ?_) (fun c_27 => ?_)
      ·
        refine lv_bipush (v := 6) hx hb dX11_leg_43 (by decide) ?_
        refine lv_iload_n hx hb dX11_leg_45 rfl (lv_at hl 5 rfl) ?_
        refine q_pi (q_runS (As := [.int 6, .int pl]) (rest := []) C hU (c_X11_isOneOf  6 pl ) sm_X11_isOneOf ml_X11_85 hl.1 rfl rfl (Nat.le_of_ble_eq_true rfl) dX11_leg_46 rfl rfl ⟨Nat.le_of_ble_eq_true rfl, Nat.le_of_ble_eq_true rfl⟩ ⟨Nat.le_of_ble_eq_true rfl, Nat.le_of_ble_eq_true rfl⟩) hS (fun x_29 H locs hp_28 hU hS => ?_)
        refine b_if_eq (tgt := 62) hx hb dX11_leg_49 (by decide) (fun c_30 => ?_) (fun c_30 => ?_)
        ·
          refine lv_aload_n hx hb dX11_leg_62 rfl (lv_at hl 2 rfl) ?_
          refine lv_iconst (v := (-1)) hx hb dX11_leg_63 (by decide) ?_
          refine q_fi (q_runV (t := 49) (i := 0) (As := [.int (-1)]) (rest := []) C hU (c_X11_refuse hG (-1) (by omega)) vm_X11_refuse ml_X11_77 k_49.1 (hc := rfl) rfl (h1_49 hG) hl.1 rfl rfl (Nat.le_of_ble_eq_true rfl) dX11_leg_64 rfl rfl ⟨Nat.le_of_ble_eq_true rfl, Nat.le_of_ble_eq_true rfl⟩ ⟨Nat.le_of_ble_eq_true rfl, Nat.le_of_ble_eq_true rfl⟩) hS (fun x_36 iv_32 rv_33 H locs hG fa_34 fb_35 hp_31 hU hS => ?_)
          have hF1 := hF1.tr (m := ([51, 58], [(57, 1)])) fa_34 (by decide)
          have hF2 := hF2.tr (m := ([51, 58], [(57, 1)])) fb_35 (by decide)
          refine W.widen (k := 1) (n := 15) (Nat.zero_le _) (Nat.zero_le _) ?_
          exact hret (⟨hG, EX.of hF1 hF2, sp_no (z := (-1)) (by unfold spLeg; (repeat' split) <;> first | rfl | omega) (by decide) hp_31 (fa_34 57 0 1 (by decide))⟩) hU hS dX11_leg_67
        ·
          refine lv_bipush (v := 6) hx hb dX11_leg_52 (by decide) ?_
          refine lv_iload hx hb dX11_leg_54 (lv_at hl 6 rfl) ?_
          refine q_pi (q_runS (As := [.int 6, .int cr]) (rest := []) C hU (c_X11_isOneOf  6 cr ) sm_X11_isOneOf ml_X11_85 hl.1 rfl rfl (Nat.le_of_ble_eq_true rfl) dX11_leg_56 rfl rfl ⟨Nat.le_of_ble_eq_true rfl, Nat.le_of_ble_eq_true rfl⟩ ⟨Nat.le_of_ble_eq_true rfl, Nat.le_of_ble_eq_true rfl⟩) hS (fun x_38 H locs hp_37 hU hS => ?_)
          refine b_if_ne (tgt := 68) hx hb dX11_leg_59 (by decide) (fun c_39 => ?_) (fun c_39 => ?_)
          ·
            refine lv_iload hx hb dX11_leg_68 (lv_at hl 7 rfl) ?_
            refine b_if_lt (tgt := 80) hx hb dX11_leg_70 (by decide) (fun c_40 => ?_) (fun c_40 => ?_)
            ·
              refine lv_aload_n hx hb dX11_leg_80 rfl (lv_at hl 2 rfl) ?_
              refine lv_bipush (v := (-4)) hx hb dX11_leg_81 (by decide) ?_
              refine q_fi (q_runV (t := 49) (i := 0) (As := [.int (-4)]) (rest := []) C hU (c_X11_refuse hG (-4) (by omega)) vm_X11_refuse ml_X11_77 k_49.1 (hc := rfl) rfl (h1_49 hG) hl.1 rfl rfl (Nat.le_of_ble_eq_true rfl) dX11_leg_83 rfl rfl ⟨Nat.le_of_ble_eq_true rfl, Nat.le_of_ble_eq_true rfl⟩ ⟨Nat.le_of_ble_eq_true rfl, Nat.le_of_ble_eq_true rfl⟩) hS (fun x_46 iv_42 rv_43 H locs hG fa_44 fb_45 hp_41 hU hS => ?_)
              have hF1 := hF1.tr (m := ([51, 58], [(57, 1)])) fa_44 (by decide)
              have hF2 := hF2.tr (m := ([51, 58], [(57, 1)])) fb_45 (by decide)
              refine W.widen (k := 1) (n := 15) (Nat.zero_le _) (Nat.zero_le _) ?_
              exact hret (⟨hG, EX.of hF1 hF2, sp_no (z := (-4)) (by unfold spLeg; (repeat' split) <;> first | rfl | omega) (by decide) hp_41 (fa_44 57 0 1 (by decide))⟩) hU hS dX11_leg_86
            ·
              refine lv_iload hx hb dX11_leg_73 (lv_at hl 8 rfl) ?_
              refine lv_iload hx hb dX11_leg_75 (lv_at hl 7 rfl) ?_
              refine b_icmp_gt (tgt := 87) hx hb dX11_leg_77 (by decide) (fun c_47 => ?_) (fun c_47 => ?_)
              ·
                refine lv_iload hx hb dX11_leg_87 (lv_at hl 7 rfl) ?_
                refine lv_sipush (v := 20000) hx hb dX11_leg_89 (by decide) ?_
                refine b_icmp_gt (tgt := 113) hx hb dX11_leg_92 (by decide) (fun c_48 => ?_) (fun c_48 => ?_)
                ·
                  refine lv_aload_n hx hb dX11_leg_113 rfl (lv_at hl 2 rfl) ?_
                  refine lv_bipush (v := (-6)) hx hb dX11_leg_114 (by decide) ?_
                  refine q_fi (q_runV (t := 49) (i := 0) (As := [.int (-6)]) (rest := []) C hU (c_X11_refuse hG (-6) (by omega)) vm_X11_refuse ml_X11_77 k_49.1 (hc := rfl) rfl (h1_49 hG) hl.1 rfl rfl (Nat.le_of_ble_eq_true rfl) dX11_leg_116 rfl rfl ⟨Nat.le_of_ble_eq_true rfl, Nat.le_of_ble_eq_true rfl⟩ ⟨Nat.le_of_ble_eq_true rfl, Nat.le_of_ble_eq_true rfl⟩) hS (fun x_54 iv_50 rv_51 H locs hG fa_52 fb_53 hp_49 hU hS => ?_)
                  have hF1 := hF1.tr (m := ([51, 58], [(57, 1)])) fa_52 (by decide)
                  have hF2 := hF2.tr (m := ([51, 58], [(57, 1)])) fb_53 (by decide)
                  refine W.widen (k := 1) (n := 15) (Nat.zero_le _) (Nat.zero_le _) ?_
                  exact hret (⟨hG, EX.of hF1 hF2, sp_no (z := (-6)) (by unfold spLeg; (repeat' split) <;> first | rfl | omega) (by decide) hp_49 (fa_52 57 0 1 (by decide))⟩) hU hS dX11_leg_119
                ·
                  refine lv_iload hx hb dX11_leg_95 (lv_at hl 8 rfl) ?_
                  refine lv_sipush (v := 20000) hx hb dX11_leg_97 (by decide) ?_
                  refine b_icmp_gt (tgt := 113) hx hb dX11_leg_100 (by decide) (fun c_55 => ?_) (fun c_55 => ?_)
                  ·
                    refine lv_aload_n hx hb dX11_leg_113 rfl (lv_at hl 2 rfl) ?_
                    refine lv_bipush (v := (-6)) hx hb dX11_leg_114 (by decide) ?_
                    refine q_fi (q_runV (t := 49) (i := 0) (As := [.int (-6)]) (rest := []) C hU (c_X11_refuse hG (-6) (by omega)) vm_X11_refuse ml_X11_77 k_49.1 (hc := rfl) rfl (h1_49 hG) hl.1 rfl rfl (Nat.le_of_ble_eq_true rfl) dX11_leg_116 rfl rfl ⟨Nat.le_of_ble_eq_true rfl, Nat.le_of_ble_eq_true rfl⟩ ⟨Nat.le_of_ble_eq_true rfl, Nat.le_of_ble_eq_true rfl⟩) hS (fun x_61 iv_57 rv_58 H locs hG fa_59 fb_60 hp_56 hU hS => ?_)
                    have hF1 := hF1.tr (m := ([51, 58], [(57, 1)])) fa_59 (by decide)
                    have hF2 := hF2.tr (m := ([51, 58], [(57, 1)])) fb_60 (by decide)
                    refine W.widen (k := 1) (n := 15) (Nat.zero_le _) (Nat.zero_le _) ?_
                    exact hret (⟨hG, EX.of hF1 hF2, sp_no (z := (-6)) (by unfold spLeg; (repeat' split) <;> first | rfl | omega) (by decide) hp_56 (fa_59 57 0 1 (by decide))⟩) hU hS dX11_leg_119
                  ·
                    refine lv_aload_n hx hb dX11_leg_103 rfl (lv_at hl 2 rfl) ?_
                    refine g_49_1 C hU hG (h1_49 hG) fl_X11_19 dX11_leg_104 ?_
                    refine q_pi (q_runV (t := 57) (i := 0) (As := []) (rest := []) C hU (c_X10_isFull hG  ) vm_X10_isFull ml_X11_115 k_57.1 (hc := rfl) rfl (h1_57 hG) hl.1 rfl rfl (Nat.le_of_ble_eq_true rfl) dX11_leg_107 rfl rfl ⟨Nat.le_of_ble_eq_true rfl, Nat.le_of_ble_eq_true rfl⟩ ⟨Nat.le_of_ble_eq_true rfl, Nat.le_of_ble_eq_true rfl⟩) hS (fun x_63 H locs hp_62 hU hS => ?_)
                    refine b_if_eq (tgt := 120) hx hb dX11_leg_110 (by decide) (fun c_64 => ?_) (fun c_64 => ?_)
                    ·
                      refine lv_aload_n hx hb dX11_leg_120 rfl (lv_at hl 2 rfl) ?_
                      refine g_49_1 C hU hG (h1_49 hG) fl_X11_19 dX11_leg_121 ?_
                      refine lv_aload hx hb dX11_leg_124 (lv_at hl 1 rfl) ?_
                      refine lv_aload hx hb dX11_leg_126 (lv_at hl 0 rfl) ?_
                      refine lv_iload_n hx hb dX11_leg_128 rfl (lv_at hl 5 rfl) ?_
                      refine lv_iload hx hb dX11_leg_129 (lv_at hl 6 rfl) ?_
                      refine lv_iload hx hb dX11_leg_131 (lv_at hl 7 rfl) ?_
                      refine lv_iload hx hb dX11_leg_133 (lv_at hl 8 rfl) ?_
                      refine q_ciA (q_runVA (t := 57) (i := 0) (As := [.ref (al.2 56 j_8), .ref (al.2 56 j_18), .int pl, .int cr, .int lv_, .int ar]) (rest := []) C hU (Nat.le_trans hz0 hS.1) (c_X10_add hG (j_8) hb_16 (j_18) hb_26 pl cr lv_ ar (by omega) (by omega) (by omega) (by omega) (by omega)) vm_X10_add ml_X11_119 k_57.1 (hc := rfl) rfl (h1_57 hG) hl.1 rfl rfl (Nat.le_of_ble_eq_true rfl) dX11_leg_135 rfl rfl ⟨Nat.le_of_ble_eq_true rfl, Nat.le_of_ble_eq_true rfl⟩ ⟨Nat.le_of_ble_eq_true rfl, Nat.le_of_ble_eq_true rfl⟩) hS (Nat.le_trans hz0 hS.1) (fun x_66 al' iv' rv' H locs hp_65 hU hS _ => ?_)
                      exact hret (⟨hp_65.1, (EX.of hF1 hF2).tr hp_65.2.1 (by decide) (by decide), Or.inl ⟨(by unfold spLeg; (repeat' split) <;> first | rfl | omega), by rw [hp_65.2.2.1], leg_cnt hG0 hp_65.2.2.2, (by have z := hp_65.2.2.2; rw [hq4.1, hq5.1] at z; exact z)⟩⟩) hU hS dX11_leg_138
                    ·
                      refine lv_aload_n hx hb dX11_leg_113 rfl (lv_at hl 2 rfl) ?_
                      refine lv_bipush (v := (-6)) hx hb dX11_leg_114 (by decide) ?_
                      refine q_fi (q_runV (t := 49) (i := 0) (As := [.int (-6)]) (rest := []) C hU (c_X11_refuse hG (-6) (by omega)) vm_X11_refuse ml_X11_77 k_49.1 (hc := rfl) rfl (h1_49 hG) hl.1 rfl rfl (Nat.le_of_ble_eq_true rfl) dX11_leg_116 rfl rfl ⟨Nat.le_of_ble_eq_true rfl, Nat.le_of_ble_eq_true rfl⟩ ⟨Nat.le_of_ble_eq_true rfl, Nat.le_of_ble_eq_true rfl⟩) hS (fun x_72 iv_68 rv_69 H locs hG fa_70 fb_71 hp_67 hU hS => ?_)
                      have hF1 := hF1.tr (m := ([51, 58], [(57, 1)])) fa_70 (by decide)
                      have hF2 := hF2.tr (m := ([51, 58], [(57, 1)])) fb_71 (by decide)
                      refine W.widen (k := 1) (n := 15) (Nat.zero_le _) (Nat.zero_le _) ?_
                      exact hret (⟨hG, EX.of hF1 hF2, sp_no (z := (-6)) (by unfold spLeg; (repeat' split) <;> first | rfl | omega) (by decide) hp_67 (fa_70 57 0 1 (by decide))⟩) hU hS dX11_leg_119
              ·
                refine lv_aload_n hx hb dX11_leg_80 rfl (lv_at hl 2 rfl) ?_
                refine lv_bipush (v := (-4)) hx hb dX11_leg_81 (by decide) ?_
                refine q_fi (q_runV (t := 49) (i := 0) (As := [.int (-4)]) (rest := []) C hU (c_X11_refuse hG (-4) (by omega)) vm_X11_refuse ml_X11_77 k_49.1 (hc := rfl) rfl (h1_49 hG) hl.1 rfl rfl (Nat.le_of_ble_eq_true rfl) dX11_leg_83 rfl rfl ⟨Nat.le_of_ble_eq_true rfl, Nat.le_of_ble_eq_true rfl⟩ ⟨Nat.le_of_ble_eq_true rfl, Nat.le_of_ble_eq_true rfl⟩) hS (fun x_78 iv_74 rv_75 H locs hG fa_76 fb_77 hp_73 hU hS => ?_)
                have hF1 := hF1.tr (m := ([51, 58], [(57, 1)])) fa_76 (by decide)
                have hF2 := hF2.tr (m := ([51, 58], [(57, 1)])) fb_77 (by decide)
                refine W.widen (k := 1) (n := 15) (Nat.zero_le _) (Nat.zero_le _) ?_
                exact hret (⟨hG, EX.of hF1 hF2, sp_no (z := (-4)) (by unfold spLeg; (repeat' split) <;> first | rfl | omega) (by decide) hp_73 (fa_76 57 0 1 (by decide))⟩) hU hS dX11_leg_86
          ·
            refine lv_aload_n hx hb dX11_leg_62 rfl (lv_at hl 2 rfl) ?_
            refine lv_iconst (v := (-1)) hx hb dX11_leg_63 (by decide) ?_
            refine q_fi (q_runV (t := 49) (i := 0) (As := [.int (-1)]) (rest := []) C hU (c_X11_refuse hG (-1) (by omega)) vm_X11_refuse ml_X11_77 k_49.1 (hc := rfl) rfl (h1_49 hG) hl.1 rfl rfl (Nat.le_of_ble_eq_true rfl) dX11_leg_64 rfl rfl ⟨Nat.le_of_ble_eq_true rfl, Nat.le_of_ble_eq_true rfl⟩ ⟨Nat.le_of_ble_eq_true rfl, Nat.le_of_ble_eq_true rfl⟩) hS (fun x_84 iv_80 rv_81 H locs hG fa_82 fb_83 hp_79 hU hS => ?_)
            have hF1 := hF1.tr (m := ([51, 58], [(57, 1)])) fa_82 (by decide)
            have hF2 := hF2.tr (m := ([51, 58], [(57, 1)])) fb_83 (by decide)
            refine W.widen (k := 1) (n := 15) (Nat.zero_le _) (Nat.zero_le _) ?_
            exact hret (⟨hG, EX.of hF1 hF2, sp_no (z := (-1)) (by unfold spLeg; (repeat' split) <;> first | rfl | omega) (by decide) hp_79 (fa_82 57 0 1 (by decide))⟩) hU hS dX11_leg_67
      ·
        refine lv_aload_n hx hb dX11_leg_37 rfl (lv_at hl 2 rfl) ?_
        refine lv_iconst (v := (-1)) hx hb dX11_leg_38 (by decide) ?_
        refine q_fi (q_runV (t := 49) (i := 0) (As := [.int (-1)]) (rest := []) C hU (c_X11_refuse hG (-1) (by omega)) vm_X11_refuse ml_X11_77 k_49.1 (hc := rfl) rfl (h1_49 hG) hl.1 rfl rfl (Nat.le_of_ble_eq_true rfl) dX11_leg_39 rfl rfl ⟨Nat.le_of_ble_eq_true rfl, Nat.le_of_ble_eq_true rfl⟩ ⟨Nat.le_of_ble_eq_true rfl, Nat.le_of_ble_eq_true rfl⟩) hS (fun x_90 iv_86 rv_87 H locs hG fa_88 fb_89 hp_85 hU hS => ?_)
        have hF1 := hF1.tr (m := ([51, 58], [(57, 1)])) fa_88 (by decide)
        have hF2 := hF2.tr (m := ([51, 58], [(57, 1)])) fb_89 (by decide)
        refine W.widen (k := 1) (n := 15) (Nat.zero_le _) (Nat.zero_le _) ?_
        exact hret (⟨hG, EX.of hF1 hF2, sp_no (z := (-1)) (by unfold spLeg; (repeat' split) <;> first | rfl | omega) (by decide) hp_85 (fa_88 57 0 1 (by decide))⟩) hU hS dX11_leg_42
set_option maxHeartbeats 4000000 in
set_option maxRecDepth 100000 in
theorem c_X12_traveller_y {l : Launch} {D : va_G} {cA : FieldType → ClassId} {sz : Nat} {al : Al} {iv : Iv} {rv : Rv} (hG : GI al iv rv) (lg : Int32) : Met l yX12_traveller (wd yX12_traveller cX12_traveller 2 (some .int)) (rm 2) (PcW D cA sz al iv rv [.ref (al.2 0 0), .int lg]) (QI D cA sz al (fI al ([16, 18, 19], [(0, 20)]) iv rv (fun r iv' rv' => (spTrav lg (iv 0 0 6).toInt (iv 0 0 20).toInt = 0 ∧ r.toInt = (iv 0 0 20).toInt ∧ (iv' 0 0 20).toInt = (iv 0 0 20).toInt + 1 ∧ (∀ k : Nat, iv' 18 0 k = (if k = 4 * (iv 0 0 20).toNatClampNeg then lg else iv 18 0 k) ∧ iv' 19 0 k = (if k = (iv 0 0 20).toNatClampNeg then 1 else iv 19 0 k))) ∨ (spTrav lg (iv 0 0 6).toInt (iv 0 0 20).toInt ≠ 0 ∧ r = spTrav lg (iv 0 0 6).toInt (iv 0 0 20).toInt ∧ iv' 0 0 20 = iv 0 0 20 ∧ (∀ k : Nat, iv' 18 0 k = iv 18 0 k ∧ iv' 19 0 k = iv 19 0 k))))) 0 0 (Aq sz) := by
  refine mk_i (by decide) (Nat.le_of_ble_eq_true rfl) rfl ?_
  intro p e s m args below meth c ls Q H locs C hU hS hl hret
  have hx := C.1.1
  have hb := C.1.2.1
  have hl : lv_has ls 2 [(0, .ref (al.2 0 0)), (1, .int lg)] := hl
  have hG0 := hG
  have h6 := le6 hG
  have h20 := le20 hG
  have h41 := le41 hG
  have hF1 : FR ([16, 18, 19], [(0, 20)]) iv iv := FR.rf
  have hF2 : FR ([16, 18, 19], [(0, 20)]) rv rv := FR.rf
  have km6 : ((-6) : Int32).toInt = -6 := by decide
  have km1 : ((-1) : Int32).toInt = -1 := by decide
  have k1 : (1 : Int32).toInt = 1 := by decide
  have k4 : (4 : Int32).toInt = 4 := by decide
  have k20 : (20 : Int32).toInt = 20 := by decide
  refine lv_aload_n hx hb dX12_traveller_0 rfl (lv_at hl 0 rfl) ?_
  refine lv_iload_n hx hb dX12_traveller_1 rfl (lv_at hl 1 rfl) ?_
  refine q_pi (q_runV (t := 0) (i := 0) (As := [.int lg]) (rest := []) C hU (c_X12_isLeg hG lg ) vm_X12_isLeg ml_X12_181 k_0.1 (hc := rfl) rfl (h1_0 hG) hl.1 rfl rfl (Nat.le_of_ble_eq_true rfl) dX12_traveller_2 rfl rfl ⟨Nat.le_of_ble_eq_true rfl, Nat.le_of_ble_eq_true rfl⟩ ⟨Nat.le_refl _, Nat.le_refl _⟩) hS (fun x_2 H locs hp_1 hU hS => ?_)
  refine b_if_ne (tgt := 14) hx hb dX12_traveller_5 (by decide) (fun c_3 => ?_) (fun c_3 => ?_)
  ·
    refine lv_aload_n hx hb dX12_traveller_14 rfl (lv_at hl 0 rfl) ?_
    refine g_0_20 C hU hG (h1_0 hG) fl_X12_223 dX12_traveller_15 (fun x_4 e_5 le_5 ue_5 => ?_)
    have te_5 := congrArg Int32.toInt e_5
    refine lv_bipush (v := 20) hx hb dX12_traveller_18 (by decide) ?_
    refine b_icmp_ne (tgt := 30) hx hb dX12_traveller_20 (by decide) (fun c_6 => ?_) (fun c_6 => ?_)
    ·
      refine lv_aload_n hx hb dX12_traveller_30 rfl (lv_at hl 0 rfl) ?_
      refine g_0_21 C hU hG (h1_0 hG) fl_X12_62 dX12_traveller_31 ?_
      refine lv_iconst (v := 4) hx hb dX12_traveller_34 (by decide) ?_
      refine lv_aload_n hx hb dX12_traveller_35 rfl (lv_at hl 0 rfl) ?_
      refine g_0_20 C hU hG (h1_0 hG) fl_X12_223 dX12_traveller_36 (fun x_7 e_8 le_8 ue_8 => ?_)
      have te_8 := congrArg Int32.toInt e_8
      refine lv_imul hx hb dX12_traveller_39 ?_
      refine lv_topi (fun x_9 e_10 => ?_)
      have te_10 : x_9.toInt = 4 * (x_7 : Int32).toInt := by rw [e_10, fb_mulI (by rw [show (4 : Int32).toInt = 4 from by decide]; omega) (by rw [show (4 : Int32).toInt = 4 from by decide]; omega), show (4 : Int32).toInt = 4 from by decide]
      refine lv_iload_n hx hb dX12_traveller_40 rfl (lv_at hl 1 rfl) ?_
      refine s_18 C hU hS (h1_18 hG) (x := x_9) (by omega) (by omega) dX12_traveller_41 (fun iv_11 H locs ei_12 hU hS => ?_)
      have hG : GI al iv_11 rv := by rw [ei_12]; exact hG.puti (show _ ∧ _ from ⟨show (0 : Int) ≤ _ by omega, show _ ≤ (39 : Int) by omega⟩) (nsA (by decide) _)
      have hF1 : FR ([16, 18, 19], [(0, 20)]) iv iv_11 := by rw [ei_12]; exact hF1.put (Or.inl (by decide))
      have kf_13 := congrArg Int32.toInt (show iv_11 0 0 20 = iv 0 0 20 by rw [ei_12]; exact up3_ne (fun z => absurd z.1 (by decide)))
      refine lv_aload_n hx hb dX12_traveller_42 rfl (lv_at hl 0 rfl) ?_
      refine g_0_22 C hU hG (h1_0 hG) fl_X12_65 dX12_traveller_43 ?_
      refine lv_aload_n hx hb dX12_traveller_46 rfl (lv_at hl 0 rfl) ?_
      refine g_0_20 C hU hG (h1_0 hG) fl_X12_223 dX12_traveller_47 (fun x_14 e_15 le_15 ue_15 => ?_)
      have te_15 := congrArg Int32.toInt e_15
      refine lv_iconst (v := 1) hx hb dX12_traveller_50 (by decide) ?_
      refine s_19 C hU hS (h1_19 hG) (x := x_14) (by omega) (by omega) dX12_traveller_51 (fun iv_16 H locs ei_17 hU hS => ?_)
      have hG : GI al iv_16 rv := by rw [ei_17]; exact hG.put19 ⟨by omega, by omega⟩
      have hF1 : FR ([16, 18, 19], [(0, 20)]) iv iv_16 := by rw [ei_17]; exact hF1.put (Or.inl (by decide))
      have kf_18 := congrArg Int32.toInt (show iv_16 0 0 20 = iv_11 0 0 20 by rw [ei_17]; exact up3_ne (fun z => absurd z.1 (by decide)))
      refine lv_aload_n hx hb dX12_traveller_52 rfl (lv_at hl 0 rfl) ?_
      refine lv_dup hx hb dX12_traveller_53 rfl ?_
      refine g_0_20 C hU hG (h1_0 hG) fl_X12_223 dX12_traveller_54 (fun x_19 e_20 le_20 ue_20 => ?_)
      have te_20 := congrArg Int32.toInt e_20
      have a1 : iv_16 19 0 x_19.toNatClampNeg = 1 := by rw [ei_17, clamp_eq (show x_19.toInt = x_14.toInt by omega)]; exact up3_self _ _ _ _ _
      refine lv_iconst (v := 1) hx hb dX12_traveller_57 (by decide) ?_
      refine lv_iadd hx hb dX12_traveller_58 ?_
      refine lv_topi (fun x_21 e_22 => ?_)
      have te_22 : x_21.toInt = (x_19 : Int32).toInt + (1 : Int32).toInt := by rw [e_22]; exact fb_addI (by omega) (by omega)
      refine p_0_20 C hU hS (h1_0 hG) fl_X12_223 dX12_traveller_59 (fun iv_23 H locs ei_24 hU hS => ?_)
      have hG : GI al iv_23 rv := by rw [ei_24]; exact hG.put20 (x := x_19) ⟨by omega, by omega⟩ (by omega) (by omega) (by rw [a1]; omega)
      have hF1 : FR ([16, 18, 19], [(0, 20)]) iv iv_23 := by rw [ei_24]; exact hF1.put (by decide)
      refine lv_aload_n hx hb dX12_traveller_62 rfl (lv_at hl 0 rfl) ?_
      refine g_0_20 C hU hG (h1_0 hG) fl_X12_223 dX12_traveller_63 (fun x_25 e_26 le_26 ue_26 => ?_)
      have te_26 := congrArg Int32.toInt e_26
      have hz_ := e_26
      rw [ei_24, up3_self] at hz_
      have tz_ := congrArg Int32.toInt hz_
      refine lv_iconst (v := 1) hx hb dX12_traveller_66 (by decide) ?_
      refine lv_isub hx hb dX12_traveller_67 ?_
      refine lv_topi (fun x_27 e_28 => ?_)
      have te_28 : x_27.toInt = (x_25 : Int32).toInt - (1 : Int32).toInt := by rw [e_28]; exact fb_subI (by omega) (by omega)
      exact hret (⟨hG, hF1, hF2, Or.inl ⟨(by unfold spTrav; (repeat' split) <;> first | rfl | omega), by omega, by rw [ei_24, up3_self]; omega, fun k => tr_ok ei_12 ei_17 ei_24 (by omega) (by omega)⟩⟩) hU hS dX12_traveller_68
    ·
      refine lv_aload_n hx hb dX12_traveller_23 rfl (lv_at hl 0 rfl) ?_
      refine lv_bipush (v := (-6)) hx hb dX12_traveller_24 (by decide) ?_
      refine q_fi (q_runV (t := 0) (i := 0) (As := [.int (-6)]) (rest := []) C hU (c_X12_refuse hG (-6) (by omega)) vm_X12_refuse ml_X12_164 k_0.1 (hc := rfl) rfl (h1_0 hG) hl.1 rfl rfl (Nat.le_of_ble_eq_true rfl) dX12_traveller_26 rfl rfl ⟨Nat.le_of_ble_eq_true rfl, Nat.le_of_ble_eq_true rfl⟩ ⟨Nat.le_refl _, Nat.le_refl _⟩) hS (fun x_34 iv_30 rv_31 H locs hG fa_32 fb_33 hp_29 hU hS => ?_)
      have hF1 := hF1.tr (m := ([16, 18, 19], [(0, 20)])) fa_32 (by decide)
      have hF2 := hF2.tr (m := ([16, 18, 19], [(0, 20)])) fb_33 (by decide)
      exact hret (⟨hG, hF1, hF2, sp_no (z := (-6)) (by unfold spTrav; (repeat' split) <;> first | rfl | omega) (by decide) hp_29 (⟨fa_32 0 0 20 (by decide), fun k => ⟨fa_32.arr 18 0 k (by decide), fa_32.arr 19 0 k (by decide)⟩⟩)⟩) hU hS dX12_traveller_29
  ·
    refine lv_aload_n hx hb dX12_traveller_8 rfl (lv_at hl 0 rfl) ?_
    refine lv_iconst (v := (-1)) hx hb dX12_traveller_9 (by decide) ?_
    refine q_fi (q_runV (t := 0) (i := 0) (As := [.int (-1)]) (rest := []) C hU (c_X12_refuse hG (-1) (by omega)) vm_X12_refuse ml_X12_164 k_0.1 (hc := rfl) rfl (h1_0 hG) hl.1 rfl rfl (Nat.le_of_ble_eq_true rfl) dX12_traveller_10 rfl rfl ⟨Nat.le_of_ble_eq_true rfl, Nat.le_of_ble_eq_true rfl⟩ ⟨Nat.le_refl _, Nat.le_refl _⟩) hS (fun x_40 iv_36 rv_37 H locs hG fa_38 fb_39 hp_35 hU hS => ?_)
    have hF1 := hF1.tr (m := ([16, 18, 19], [(0, 20)])) fa_38 (by decide)
    have hF2 := hF2.tr (m := ([16, 18, 19], [(0, 20)])) fb_39 (by decide)
    exact hret (⟨hG, hF1, hF2, sp_no (z := (-1)) (by unfold spTrav; (repeat' split) <;> first | rfl | omega) (by decide) hp_35 (⟨fa_38 0 0 20 (by decide), fun k => ⟨fa_38.arr 18 0 k (by decide), fa_38.arr 19 0 k (by decide)⟩⟩)⟩) hU hS dX12_traveller_13
set_option maxHeartbeats 4000000 in
set_option maxRecDepth 100000 in
theorem c_X11_traveller_y {l : Launch} {D : va_G} {cA : FieldType → ClassId} {sz : Nat} {al : Al} {iv : Iv} {rv : Rv} (hG : GI al iv rv) (lg : Int32) : Met l yX11_traveller (wd yX11_traveller cX11_traveller 3 (some .int)) (rmA 3 3 16) (PcA D cA sz al iv rv [.ref (al.2 49 0), .int lg] (fun _ => True)) (QIA D cA sz (fun r al' iv' rv' => GI al' iv' rv' ∧ EX ([51, 64], [(63, 1)]) al iv rv al' iv' rv' ∧ ((spTrav lg (iv 57 0 1).toInt (iv 63 0 1).toInt = 0 ∧ r.toInt = (iv 63 0 1).toInt ∧ (iv' 63 0 1).toInt = (iv 63 0 1).toInt + 1 ∧ ∃ (aa a6 a7 : Nat) (siz : Int32), siz.toInt = al.1 65 + 1 ∧ al' = grow (grow (grow al 65 aa) 66 a6) 67 a7 ∧ iv' = tickIv iv (al.1 65) r siz ∧ rv' = tickRv rv (al.1 65) lg.toNatClampNeg) ∨ (spTrav lg (iv 57 0 1).toInt (iv 63 0 1).toInt ≠ 0 ∧ r = spTrav lg (iv 57 0 1).toInt (iv 63 0 1).toInt ∧ iv' 63 0 1 = iv 63 0 1)))) 3 16 (Aq sz) := by
  refine mk_ia (by decide) (Nat.le_of_ble_eq_true rfl) rfl ?_
  intro p e s m args below meth c ls Q H locs C hU hS hX hz0 hl hret
  have hx := C.1.1
  have hb := C.1.2.1
  have hl : lv_has ls 3 [(0, .ref (al.2 49 0)), (1, .int lg)] := hl
  have hG0 := hG
  have hF1 : FR ([51, 64], [(63, 1)]) iv iv := FR.rf
  have hF2 : FR ([51, 64], [(63, 1)]) rv rv := FR.rf
  have km6 : ((-6) : Int32).toInt = -6 := by decide
  have km1 : ((-1) : Int32).toInt = -1 := by decide
  refine lv_aload_n hx hb dX11_traveller_0 rfl (lv_at hl 0 rfl) ?_
  refine g_49_1 C hU hG (h1_49 hG) fl_X11_19 dX11_traveller_1 ?_
  refine lv_iload_n hx hb dX11_traveller_4 rfl (lv_at hl 1 rfl) ?_
  refine q_pr (q_runV (t := 57) (i := 0) (As := [.int lg]) (rest := []) C hU (c_X10_find hG lg ) vm_X10_find ml_X11_123 k_57.1 (hc := rfl) rfl (h1_57 hG) hl.1 rfl rfl (Nat.le_of_ble_eq_true rfl) dX11_traveller_5 rfl rfl ⟨Nat.le_of_ble_eq_true rfl, Nat.le_of_ble_eq_true rfl⟩ ⟨Nat.le_of_ble_eq_true rfl, Nat.le_of_ble_eq_true rfl⟩) hS (fun r_2 H locs hp_1 hU hS => ?_)
  have hb_3 := hp_1.1
  refine b_astore_n (lv' := [(2, rfv al 62 r_2), (0, .ref (al.2 49 0)), (1, .int lg)]) hx hb dX11_traveller_8 rfl hl (by decide) rfl (fun ls hl => ?_)
  refine b_aload_n (al := al) (t' := 62) (r := r_2) hx hb dX11_traveller_9 rfl (lv_at hl 0 rfl) ?_
  refine b_ifnonnull (tgt := 19) hx hb dX11_traveller_10 (by decide) (fun j_5 ej_6 => ?_) (fun ej_6 => ?_)
  ·
    subst ej_6
    have hl : lv_has ls 3 [(2, .ref (al.2 62 j_5)), (0, .ref (al.2 49 0)), (1, .int lg)] := hl
    have hb_7 : j_5 < al.1 62 := hb_3 j_5 rfl
    have hq4 := hp_1.2.1 _ rfl
    have hn4 := hq4.1
    rw [clamp_n] at hn4
    refine lv_aload_n hx hb dX11_traveller_19 rfl (lv_at hl 1 rfl) ?_
    refine g_49_2 C hU hG (h1_49 hG) fl_X11_26 dX11_traveller_20 ?_
    refine q_pi (q_runV (t := 63) (i := 0) (As := []) (rest := []) C hU (c_X9_isFull hG  ) vm_X9_isFull ml_X11_189 k_63.1 (hc := rfl) rfl (h1_63 hG) hl.1 rfl rfl (Nat.le_of_ble_eq_true rfl) dX11_traveller_23 rfl rfl ⟨Nat.le_of_ble_eq_true rfl, Nat.le_of_ble_eq_true rfl⟩ ⟨Nat.le_of_ble_eq_true rfl, Nat.le_of_ble_eq_true rfl⟩) hS (fun x_9 H locs hp_8 hU hS => ?_)
    refine b_if_eq (tgt := 36) hx hb dX11_traveller_26 (by decide) (fun c_10 => ?_) (fun c_10 => ?_)
    ·
      refine lv_aload_n hx hb dX11_traveller_36 rfl (lv_at hl 1 rfl) ?_
      refine g_49_2 C hU hG (h1_49 hG) fl_X11_26 dX11_traveller_37 ?_
      refine lv_aload_n hx hb dX11_traveller_40 rfl (lv_at hl 0 rfl) ?_
      refine q_ciA (q_runVA (t := 63) (i := 0) (As := [.ref (al.2 62 j_5)]) (rest := []) C hU (Nat.le_trans hz0 hS.1) (c_X9_add hG (j_5) hb_7 (by omega)) vm_X9_add ml_X11_190 k_63.1 (hc := rfl) rfl (h1_63 hG) hl.1 rfl rfl (Nat.le_of_ble_eq_true rfl) dX11_traveller_41 rfl rfl ⟨Nat.le_of_ble_eq_true rfl, Nat.le_of_ble_eq_true rfl⟩ ⟨Nat.le_of_ble_eq_true rfl, Nat.le_of_ble_eq_true rfl⟩) hS (Nat.le_trans hz0 hS.1) (fun x_12 al' iv' rv' H locs hp_11 hU hS _ => ?_)
      exact hret (⟨hp_11.1, (EX.of hF1 hF2).tr hp_11.2.1 (by decide) (by decide), Or.inl ⟨(by unfold spTrav; (repeat' split) <;> first | rfl | omega), by rw [hp_11.2.2.1], tick_cnt hG0 hp_11.2.2.2, (by have z := hp_11.2.2.2; rw [hq4.1] at z; exact z)⟩⟩) hU hS dX11_traveller_44
    ·
      refine lv_aload_n hx hb dX11_traveller_29 rfl (lv_at hl 1 rfl) ?_
      refine lv_bipush (v := (-6)) hx hb dX11_traveller_30 (by decide) ?_
      refine q_fi (q_runV (t := 49) (i := 0) (As := [.int (-6)]) (rest := []) C hU (c_X11_refuse hG (-6) (by omega)) vm_X11_refuse ml_X11_77 k_49.1 (hc := rfl) rfl (h1_49 hG) hl.1 rfl rfl (Nat.le_of_ble_eq_true rfl) dX11_traveller_32 rfl rfl ⟨Nat.le_of_ble_eq_true rfl, Nat.le_of_ble_eq_true rfl⟩ ⟨Nat.le_of_ble_eq_true rfl, Nat.le_of_ble_eq_true rfl⟩) hS (fun x_18 iv_14 rv_15 H locs hG fa_16 fb_17 hp_13 hU hS => ?_)
      have hF1 := hF1.tr (m := ([51, 64], [(63, 1)])) fa_16 (by decide)
      have hF2 := hF2.tr (m := ([51, 64], [(63, 1)])) fb_17 (by decide)
      refine W.widen (k := 3) (n := 16) (Nat.zero_le _) (Nat.zero_le _) ?_
      exact hret (⟨hG, EX.of hF1 hF2, sp_no (z := (-6)) (by unfold spTrav; (repeat' split) <;> first | rfl | omega) (by decide) hp_13 (fa_16 63 0 1 (by decide))⟩) hU hS dX11_traveller_35
  ·
    subst ej_6
    have hl : lv_has ls 3 [(2, rfv al 62 none), (0, .ref (al.2 49 0)), (1, .int lg)] := hl
    have hq4 := hp_1.2.2 rfl
    refine lv_aload_n hx hb dX11_traveller_13 rfl (lv_at hl 1 rfl) ?_
    refine lv_iconst (v := (-1)) hx hb dX11_traveller_14 (by decide) ?_
    refine q_fi (q_runV (t := 49) (i := 0) (As := [.int (-1)]) (rest := []) C hU (c_X11_refuse hG (-1) (by omega)) vm_X11_refuse ml_X11_77 k_49.1 (hc := rfl) rfl (h1_49 hG) hl.1 rfl rfl (Nat.le_of_ble_eq_true rfl) dX11_traveller_15 rfl rfl ⟨Nat.le_of_ble_eq_true rfl, Nat.le_of_ble_eq_true rfl⟩ ⟨Nat.le_of_ble_eq_true rfl, Nat.le_of_ble_eq_true rfl⟩) hS (fun x_24 iv_20 rv_21 H locs hG fa_22 fb_23 hp_19 hU hS => ?_)
    have hF1 := hF1.tr (m := ([51, 64], [(63, 1)])) fa_22 (by decide)
    have hF2 := hF2.tr (m := ([51, 64], [(63, 1)])) fb_23 (by decide)
    refine W.widen (k := 3) (n := 16) (Nat.zero_le _) (Nat.zero_le _) ?_
    exact hret (⟨hG, EX.of hF1 hF2, sp_no (z := (-1)) (by unfold spTrav; (repeat' split) <;> first | rfl | omega) (by decide) hp_19 (fa_22 63 0 1 (by decide))⟩) hU hS dX11_traveller_18
end
section
theorem le24 {al : Al} {iv : Iv} {rv : Rv} (hG : GI al iv rv) : 0 ≤ (iv 0 0 24).toInt ∧ (iv 0 0 24).toInt ≤ 30 := hG.1 0 0 24 (h1_0 hG) (by decide)
theorem le30 {al : Al} {iv : Iv} {rv : Rv} (hG : GI al iv rv) : 0 ≤ (iv 0 0 30).toInt ∧ (iv 0 0 30).toInt ≤ 40 := hG.1 0 0 30 (h1_0 hG) (by decide)
theorem up3_k {f : Iv} {t n k : Nat} {v : Int32} : up3 f t 0 n v t 0 k = if k = n then v else f t 0 k := by simp [up3]
def hlN (iv : Iv) (l d : Int) : Nat → Int32
  | 0 => 0
  | n + 1 => if (¬ (hlN iv l d n).toInt = 0) ∨ ((iv 21 0 n).toInt = l ∧ (iv 22 0 n).toInt ≤ d) then 1 else 0
def hlF (iv : Iv) (l d : Int32) : Int32 := hlN iv l.toInt d.toInt (iv 0 0 24).toNatClampNeg
def lwF (iv : Iv) (t : Nat) (d : Int32) : Int32 := if ¬ (hlF iv (iv 1 0 (iv 5 0 (rwL iv t 0)).toNatClampNeg) d).toInt = 0 then iv 1 0 (iv 5 0 (rwL iv t 0)).toNatClampNeg else if ¬ (hlF iv (iv 1 0 (iv 6 0 (thL iv t)).toNatClampNeg) d).toInt = 0 then iv 1 0 (iv 6 0 (thL iv t)).toNatClampNeg else -9
def miF (iv : Iv) (t : Nat) : Int32 := iv 2 0 (10 * (iv 5 0 (rwL iv t 0)).toNatClampNeg + (iv 6 0 (thL iv t)).toNatClampNeg)
def exN (iv : Iv) (l c b : Int) : Nat → Int32
  | 0 => 0
  | n + 1 => if (iv 26 0 n).toInt = l ∧ (iv 27 0 n).toInt = c ∧ (iv 29 0 n).toInt ≤ b ∧ (iv 28 0 n).toInt ≤ b then iv 30 0 n else exN iv l c b n
def exF (iv : Iv) (t : Nat) (d : Int32) : Int32 := exN iv (lwF iv t d).toInt (blF iv t).toInt (iv 9 0 (rwL iv t 0) / 1440).toInt (iv 0 0 30).toNatClampNeg
theorem hl_0 {iv : Iv} {l d : Int} : (0 : Int32) = hlN iv l d (0 : Int32).toNatClampNeg := by
  rw [show (0 : Int32).toNatClampNeg = 0 from by decide]; rfl
theorem hl_up {iv : Iv} {l d : Int} {b x y : Int32} (h : y.toInt = x.toInt + 1) (h0 : 0 ≤ x.toInt) (i : b = hlN iv l d (x.toNatClampNeg + 1)) : b = hlN iv l d y.toNatClampNeg := by rw [clamp_s h h0]; exact i
theorem hl_y {iv : Iv} {l d : Int} {b : Int32} {n : Nat} (i : b = hlN iv l d n) (h : (¬ b.toInt = 0) ∨ ((iv 21 0 n).toInt = l ∧ (iv 22 0 n).toInt ≤ d)) : (1 : Int32) = hlN iv l d (n + 1) := by
  show _ = (if (¬ (hlN iv l d n).toInt = 0) ∨ ((iv 21 0 n).toInt = l ∧ (iv 22 0 n).toInt ≤ d) then 1 else 0)
  rw [← i, if_pos h]
theorem hl_n {iv : Iv} {l d : Int} {b : Int32} {n : Nat} (i : b = hlN iv l d n) (h : ¬ ((¬ b.toInt = 0) ∨ ((iv 21 0 n).toInt = l ∧ (iv 22 0 n).toInt ≤ d))) : (0 : Int32) = hlN iv l d (n + 1) := by
  show _ = (if (¬ (hlN iv l d n).toInt = 0) ∨ ((iv 21 0 n).toInt = l ∧ (iv 22 0 n).toInt ≤ d) then 1 else 0)
  rw [← i, if_neg h]
theorem hl_on {iv : Iv} {l d : Int} {n : Nat} (h : ¬ (hlN iv l d n).toInt = 0) : ∀ m : Nat, n < m → hlN iv l d m = 1
  | 0, hm => absurd hm (Nat.not_lt_zero _)
  | m + 1, hm => by
    show (if (¬ (hlN iv l d m).toInt = 0) ∨ ((iv 21 0 m).toInt = l ∧ (iv 22 0 m).toInt ≤ d) then 1 else 0) = 1
    by_cases e : n = m
    · rw [← e, if_pos (Or.inl h)]
    · rw [hl_on h m (by omega), if_pos (Or.inl (by decide))]
theorem mi_ok {iv : Iv} {t : Nat} {r x y z : Int32} (e : r = iv 2 0 z.toNatClampNeg) (h1 : x = iv 5 0 (rwL iv t 0)) (h2 : y = iv 6 0 (thL iv t)) (hz : z.toInt = 10 * x.toInt + y.toInt) (h0 : 0 ≤ x.toInt ∧ 0 ≤ y.toInt) : r = miF iv t := by
  have c : z.toNatClampNeg = 10 * x.toNatClampNeg + y.toNatClampNeg := by simp only [clamp_n]; omega
  unfold miF; rw [e, c, h1, h2]
theorem rwL_17 {iv iv' : Iv} (h : ∀ t i k, t ≠ 17 → iv' t i k = iv t i k) (t j : Nat) : rwL iv' t j = rwL iv t j := by simp only [rwL, h 18 _ _ (by decide)]
theorem ex_0 {iv : Iv} {l c b : Int} : (0 : Int32) = exN iv l c b (0 : Int32).toNatClampNeg := by
  rw [show (0 : Int32).toNatClampNeg = 0 from by decide]; rfl
theorem ex_up {iv : Iv} {l c b : Int} {s x y : Int32} (h : y.toInt = x.toInt + 1) (h0 : 0 ≤ x.toInt) (i : s = exN iv l c b (x.toNatClampNeg + 1)) : s = exN iv l c b y.toNatClampNeg := by rw [clamp_s h h0]; exact i
theorem ex_y {iv : Iv} {l c b : Int} {s v z : Int32} {n : Nat} (_ : s = exN iv l c b n) (h : (z.toInt = 1 ∧ ((iv 26 0 n).toInt = l ∧ (iv 27 0 n).toInt = c ∧ (iv 29 0 n).toInt ≤ b ∧ (iv 28 0 n).toInt ≤ b)) ∨ (z.toInt = 0 ∧ ¬ ((iv 26 0 n).toInt = l ∧ (iv 27 0 n).toInt = c ∧ (iv 29 0 n).toInt ≤ b ∧ (iv 28 0 n).toInt ≤ b))) (hz : ¬ z.toInt = 0) (e : v = iv 30 0 n) : v = exN iv l c b (n + 1) := by
  show _ = (if (iv 26 0 n).toInt = l ∧ (iv 27 0 n).toInt = c ∧ (iv 29 0 n).toInt ≤ b ∧ (iv 28 0 n).toInt ≤ b then iv 30 0 n else exN iv l c b n)
  rcases h with ⟨-, h⟩ | ⟨h, -⟩
  · rw [if_pos h]; exact e
  · exact absurd h hz
theorem ex_n {iv : Iv} {l c b : Int} {s z : Int32} {n : Nat} (i : s = exN iv l c b n) (h : (z.toInt = 1 ∧ ((iv 26 0 n).toInt = l ∧ (iv 27 0 n).toInt = c ∧ (iv 29 0 n).toInt ≤ b ∧ (iv 28 0 n).toInt ≤ b)) ∨ (z.toInt = 0 ∧ ¬ ((iv 26 0 n).toInt = l ∧ (iv 27 0 n).toInt = c ∧ (iv 29 0 n).toInt ≤ b ∧ (iv 28 0 n).toInt ≤ b))) (hz : z.toInt = 0) : s = exN iv l c b (n + 1) := by
  show _ = (if (iv 26 0 n).toInt = l ∧ (iv 27 0 n).toInt = c ∧ (iv 29 0 n).toInt ≤ b ∧ (iv 28 0 n).toInt ≤ b then iv 30 0 n else exN iv l c b n)
  rcases h with ⟨h, -⟩ | ⟨-, h⟩
  · omega
  · rw [if_neg h]; exact i
theorem ex_y1 {iv : Iv} {l c b : Int} {s v : Int32} {n : Nat} (_ : s = exN iv l c b n) (h : (iv 26 0 n).toInt = l ∧ (iv 27 0 n).toInt = c ∧ (iv 29 0 n).toInt ≤ b ∧ (iv 28 0 n).toInt ≤ b) (e : v = iv 30 0 n) : v = exN iv l c b (n + 1) := by
  show _ = (if (iv 26 0 n).toInt = l ∧ (iv 27 0 n).toInt = c ∧ (iv 29 0 n).toInt ≤ b ∧ (iv 28 0 n).toInt ≤ b then iv 30 0 n else exN iv l c b n)
  rw [if_pos h]; exact e
theorem ex_n1 {iv : Iv} {l c b : Int} {s : Int32} {n : Nat} (i : s = exN iv l c b n) (h : ¬ ((iv 26 0 n).toInt = l ∧ (iv 27 0 n).toInt = c ∧ (iv 29 0 n).toInt ≤ b ∧ (iv 28 0 n).toInt ≤ b)) : s = exN iv l c b (n + 1) := by
  show _ = (if (iv 26 0 n).toInt = l ∧ (iv 27 0 n).toInt = c ∧ (iv 29 0 n).toInt ≤ b ∧ (iv 28 0 n).toInt ≤ b then iv 30 0 n else exN iv l c b n)
  rw [if_neg h]; exact i
def gsN (iv : Iv) (l d h m : Int) : Nat → Int32
  | 0 => 0
  | n + 1 => if ((iv 21 0 n).toInt = l ∧ (iv 22 0 n).toInt ≤ d ∧ (iv 23 0 n).toInt ≤ h ∧ (iv 24 0 n).toInt ≤ m) ∧ (gsN iv l d h m n).toInt < (iv 25 0 n).toInt then iv 25 0 n else gsN iv l d h m n
theorem gs_0 {iv : Iv} {l d h m : Int} : (0 : Int32) = gsN iv l d h m (0 : Int32).toNatClampNeg := by
  rw [show (0 : Int32).toNatClampNeg = 0 from by decide]; rfl
theorem gs_up {iv : Iv} {l d h m : Int} {s x y : Int32} (hy : y.toInt = x.toInt + 1) (h0 : 0 ≤ x.toInt) (i : s = gsN iv l d h m (x.toNatClampNeg + 1)) : s = gsN iv l d h m y.toNatClampNeg := by rw [clamp_s hy h0]; exact i
theorem gs_y {iv : Iv} {l d h m : Int} {s v z : Int32} {n : Nat} (i : s = gsN iv l d h m n) (c : (z.toInt = 1 ∧ ((iv 21 0 n).toInt = l ∧ (iv 22 0 n).toInt ≤ d ∧ (iv 23 0 n).toInt ≤ h ∧ (iv 24 0 n).toInt ≤ m)) ∨ (z.toInt = 0 ∧ ¬ ((iv 21 0 n).toInt = l ∧ (iv 22 0 n).toInt ≤ d ∧ (iv 23 0 n).toInt ≤ h ∧ (iv 24 0 n).toInt ≤ m))) (hz : ¬ z.toInt = 0) (hs : s.toInt < (iv 25 0 n).toInt) (e : v = iv 25 0 n) : v = gsN iv l d h m (n + 1) := by
  show _ = (if ((iv 21 0 n).toInt = l ∧ (iv 22 0 n).toInt ≤ d ∧ (iv 23 0 n).toInt ≤ h ∧ (iv 24 0 n).toInt ≤ m) ∧ (gsN iv l d h m n).toInt < (iv 25 0 n).toInt then iv 25 0 n else gsN iv l d h m n)
  rcases c with ⟨-, c⟩ | ⟨c, -⟩
  · rw [if_pos ⟨c, by rw [← i]; exact hs⟩]; exact e
  · exact absurd c hz
theorem gs_n {iv : Iv} {l d h m : Int} {s : Int32} {n : Nat} (i : s = gsN iv l d h m n) (c : ¬ (((iv 21 0 n).toInt = l ∧ (iv 22 0 n).toInt ≤ d ∧ (iv 23 0 n).toInt ≤ h ∧ (iv 24 0 n).toInt ≤ m) ∧ s.toInt < (iv 25 0 n).toInt)) : s = gsN iv l d h m (n + 1) := by
  show _ = (if ((iv 21 0 n).toInt = l ∧ (iv 22 0 n).toInt ≤ d ∧ (iv 23 0 n).toInt ≤ h ∧ (iv 24 0 n).toInt ≤ m) ∧ (gsN iv l d h m n).toInt < (iv 25 0 n).toInt then iv 25 0 n else gsN iv l d h m n)
  rw [← i, if_neg c]
theorem hx_0 {iv : Iv} {l d : Int} : (hlN iv l d (0 : Int32).toNatClampNeg).toInt = 0 := by
  rw [show (0 : Int32).toNatClampNeg = 0 from by decide]; show (0 : Int32).toInt = 0; decide
theorem hx_up {iv : Iv} {l d : Int} {x y : Int32} (h : y.toInt = x.toInt + 1) (h0 : 0 ≤ x.toInt) (i : (hlN iv l d x.toNatClampNeg).toInt = 0) (c : ¬ ((iv 21 0 x.toNatClampNeg).toInt = l ∧ (iv 22 0 x.toNatClampNeg).toInt ≤ d)) : (hlN iv l d y.toNatClampNeg).toInt = 0 := by
  rw [clamp_s h h0]
  show (if (¬ (hlN iv l d x.toNatClampNeg).toInt = 0) ∨ ((iv 21 0 x.toNatClampNeg).toInt = l ∧ (iv 22 0 x.toNatClampNeg).toInt ≤ d) then (1 : Int32) else 0).toInt = 0
  rw [if_neg (fun z => z.elim (fun w => w i) c)]; decide
theorem hx_1 {iv : Iv} {l d x : Int32} (i : (hlN iv l.toInt d.toInt x.toNatClampNeg).toInt = 0) (c : (iv 21 0 x.toNatClampNeg).toInt = l.toInt ∧ (iv 22 0 x.toNatClampNeg).toInt ≤ d.toInt) (h : 0 ≤ x.toInt ∧ x.toInt < (iv 0 0 24).toInt) : (1 : Int32) = hlF iv l d := by
  have e : hlN iv l.toInt d.toInt (x.toNatClampNeg + 1) = 1 := by
    show (if (¬ (hlN iv l.toInt d.toInt x.toNatClampNeg).toInt = 0) ∨ ((iv 21 0 x.toNatClampNeg).toInt = l.toInt ∧ (iv 22 0 x.toNatClampNeg).toInt ≤ d.toInt) then (1 : Int32) else 0) = 1
    rw [if_pos (Or.inr c)]
  unfold hlF
  have c1 : x.toNatClampNeg = x.toInt.toNat := clamp_n
  have c2 : (iv 0 0 24).toNatClampNeg = (iv 0 0 24).toInt.toNat := clamp_n
  by_cases q : (iv 0 0 24).toNatClampNeg = x.toNatClampNeg + 1
  · rw [q, e]
  · rw [hl_on (n := x.toNatClampNeg + 1) (by rw [e]; decide) _ (by omega)]
theorem hx_2 {iv : Iv} {l d x : Int32} (i : (hlN iv l.toInt d.toInt x.toNatClampNeg).toInt = 0) (h : x.toInt = (iv 0 0 24).toInt) : (0 : Int32) = hlF iv l d := by
  unfold hlF
  rw [← clamp_eq h]
  exact (fa_eq _ _).mpr (by rw [i]; decide)
noncomputable def smF (iv : Iv) (t : Nat) (d : Int32) : Int32 := if (lwF iv t d).toInt < 0 ∨ ¬ (exF iv t d).toInt = 0 then 0 else gsN iv (lwF iv t d).toInt d.toInt (hoF iv t).toInt (miF iv t).toInt (iv 0 0 24).toNatClampNeg
noncomputable def suS (iv : Iv) (t d w : Int32) : Int32 := if ¬ (0 ≤ t.toInt ∧ t.toInt < (iv 0 0 20).toInt) then -1 else if ¬ (0 ≤ w.toInt ∧ w.toInt ≤ 2) then -2 else if d.toInt < 0 then -4 else if 4000 < d.toInt then -6 else if w.toInt = 0 then smF iv t.toNatClampNeg d else if w.toInt = 1 then lwF iv t.toNatClampNeg d else if ¬ (exF iv t.toNatClampNeg d).toInt = 0 then 1 else 0
theorem hlN_m {iv iv' : Iv} (h : MA iv iv') (l d : Int) : ∀ n : Nat, hlN iv' l d n = hlN iv l d n
  | 0 => rfl
  | n + 1 => by
    show (if (¬ (hlN iv' l d n).toInt = 0) ∨ ((iv' 21 0 n).toInt = l ∧ (iv' 22 0 n).toInt ≤ d) then (1 : Int32) else 0) = (if (¬ (hlN iv l d n).toInt = 0) ∨ ((iv 21 0 n).toInt = l ∧ (iv 22 0 n).toInt ≤ d) then (1 : Int32) else 0)
    rw [hlN_m h l d n, h 21 _ (by decide), h 22 _ (by decide)]
theorem exN_m {iv iv' : Iv} (h : MA iv iv') (l c b : Int) : ∀ n : Nat, exN iv' l c b n = exN iv l c b n
  | 0 => rfl
  | n + 1 => by
    show (if (iv' 26 0 n).toInt = l ∧ (iv' 27 0 n).toInt = c ∧ (iv' 29 0 n).toInt ≤ b ∧ (iv' 28 0 n).toInt ≤ b then iv' 30 0 n else exN iv' l c b n) = (if (iv 26 0 n).toInt = l ∧ (iv 27 0 n).toInt = c ∧ (iv 29 0 n).toInt ≤ b ∧ (iv 28 0 n).toInt ≤ b then iv 30 0 n else exN iv l c b n)
    rw [exN_m h l c b n, h 26 _ (by decide), h 27 _ (by decide), h 28 _ (by decide), h 29 _ (by decide), h 30 _ (by decide)]
theorem gsN_m {iv iv' : Iv} (h : MA iv iv') (l d u m : Int) : ∀ n : Nat, gsN iv' l d u m n = gsN iv l d u m n
  | 0 => rfl
  | n + 1 => by
    show (if ((iv' 21 0 n).toInt = l ∧ (iv' 22 0 n).toInt ≤ d ∧ (iv' 23 0 n).toInt ≤ u ∧ (iv' 24 0 n).toInt ≤ m) ∧ (gsN iv' l d u m n).toInt < (iv' 25 0 n).toInt then iv' 25 0 n else gsN iv' l d u m n) = (if ((iv 21 0 n).toInt = l ∧ (iv 22 0 n).toInt ≤ d ∧ (iv 23 0 n).toInt ≤ u ∧ (iv 24 0 n).toInt ≤ m) ∧ (gsN iv l d u m n).toInt < (iv 25 0 n).toInt then iv 25 0 n else gsN iv l d u m n)
    rw [gsN_m h l d u m n, h 21 _ (by decide), h 22 _ (by decide), h 23 _ (by decide), h 24 _ (by decide), h 25 _ (by decide)]
theorem hl_m {iv iv' : Iv} (h : MA iv iv') (l d : Int32) : hlF iv' l d = hlF iv l d := by unfold hlF; rw [hlN_m h, h 0 _ (by decide)]
theorem lw_m {iv iv' : Iv} (h : MA iv iv') (t : Nat) (d : Int32) : lwF iv' t d = lwF iv t d := by
  unfold lwF; rw [rwL_m h, thL_m h, h 5 _ (by decide), h 6 _ (by decide), h 1 _ (by decide), h 1 _ (by decide), hl_m h, hl_m h]
theorem mi_m {iv iv' : Iv} (h : MA iv iv') (t : Nat) : miF iv' t = miF iv t := by
  unfold miF; rw [rwL_m h, thL_m h, h 5 _ (by decide), h 6 _ (by decide), h 2 _ (by decide)]
theorem ex_m {iv iv' : Iv} (h : MA iv iv') (t : Nat) (d : Int32) : exF iv' t d = exF iv t d := by
  unfold exF; rw [lw_m h, bl_m h, rwL_m h, exN_m h, h 9 _ (by decide), h 0 _ (by decide)]
theorem sm_m {iv iv' : Iv} (h : MA iv iv') (t : Nat) (d : Int32) : smF iv' t d = smF iv t d := by
  unfold smF; rw [lw_m h, ex_m h, ho_m h, mi_m h, gsN_m h, h 0 _ (by decide)]
theorem suS_m {iv iv' : Iv} (h : MA iv iv') (t d w : Int32) : suS iv' t d w = suS iv t d w := by
  unfold suS; rw [sm_m h, lw_m h, ex_m h, h 0 _ (by decide)]
end
section
def Cday (iv : Iv) (rv : Rv) : Prop := iv 0 0 0 = iv 49 0 9
abbrev T_Cday : List Nat := []
abbrev F_Cday : List (Nat × Nat) := [(0, 0), (49, 9)]
theorem Cday.keep {al : Al} {iv iv' : Iv} {rv rv' : Rv} (h : Cday iv rv) (hG : GI al iv rv) (e : KP T_Cday F_Cday al iv rv iv' rv') : Cday iv' rv' := by
  unfold Cday
  rw [(e 0 0 0 (h1_0 hG) (Or.inr (by decide))).1, (e 49 0 9 (h1_49 hG) (Or.inr (by decide))).1]; exact h
end
