theorem le24 {al : Al} {iv : Iv} {rv : Rv} (hG : GI al iv rv) : 0 ≤ (iv 0 0 24).toInt ∧ (iv 0 0 24).toInt ≤ 30 := hG.1 0 0 24 (h1_0 hG) (by decide)
theorem le30 {al : Al} {iv : Iv} {rv : Rv} (hG : GI al iv rv) : 0 ≤ (iv 0 0 30).toInt ∧ (iv 0 0 30).toInt ≤ 40 := hG.1 0 0 30 (h1_0 hG) (by decide)
theorem up3_k {f : Iv} {t n k : Nat} {v : Int32} : up3 f t 0 n v t 0 k = if k = n then v else f t 0 k := by simp [up3]
def hlN (iv : Iv) (l d : Int) : Nat → Int32
  | 0 => 0
  | n + 1 => if (¬ (hlN iv l d n).toInt = 0) ∨ ((iv 21 0 n).toInt = l ∧ (iv 22 0 n).toInt ≤ d) then 1 else 0
def hlF (iv : Iv) (l d : Int32) : Int32 := hlN iv l.toInt d.toInt (iv 0 0 24).toNatClampNeg
def lwF (iv : Iv) (t : Nat) (d : Int32) : Int32 := if ¬ (hlF iv (iv 1 0 (iv 5 0 (rwL iv t 0)).toNatClampNeg) d).toInt = 0 then iv 1 0 (iv 5 0 (rwL iv t 0)).toNatClampNeg else if ¬ (hlF iv (iv 1 0 (iv 6 0 (thL iv t)).toNatClampNeg) d).toInt = 0 then iv 1 0 (iv 6 0 (thL iv t)).toNatClampNeg else -9
def miF (iv : Iv) (t : Nat) : Int32 := iv 2 0 (10 * (iv 5 0 (rwL iv t 0)).toNatClampNeg + (iv 6 0 (thL iv t)).toNatClampNeg)
def exN (iv : Iv) (l c b : Int) : Nat → Int32
  | 0 => 0
  | n + 1 => if (iv 26 0 n).toInt = l ∧ (iv 27 0 n).toInt = c ∧ (iv 29 0 n).toInt ≤ b ∧ (iv 28 0 n).toInt ≤ b then iv 30 0 n else exN iv l c b n
def exF (iv : Iv) (t : Nat) (d : Int32) : Int32 := exN iv (lwF iv t d).toInt (blF iv t).toInt (iv 9 0 (rwL iv t 0) / 1440).toInt (iv 0 0 30).toNatClampNeg
theorem hl_0 {iv : Iv} {l d : Int} : (0 : Int32) = hlN iv l d (0 : Int32).toNatClampNeg := by
  rw [show (0 : Int32).toNatClampNeg = 0 from by decide]; rfl
theorem hl_up {iv : Iv} {l d : Int} {b x y : Int32} (h : y.toInt = x.toInt + 1) (h0 : 0 ≤ x.toInt) (i : b = hlN iv l d (x.toNatClampNeg + 1)) : b = hlN iv l d y.toNatClampNeg := by rw [clamp_s h h0]; exact i
theorem hl_y {iv : Iv} {l d : Int} {b : Int32} {n : Nat} (i : b = hlN iv l d n) (h : (¬ b.toInt = 0) ∨ ((iv 21 0 n).toInt = l ∧ (iv 22 0 n).toInt ≤ d)) : (1 : Int32) = hlN iv l d (n + 1) := by
  show _ = (if (¬ (hlN iv l d n).toInt = 0) ∨ ((iv 21 0 n).toInt = l ∧ (iv 22 0 n).toInt ≤ d) then 1 else 0)
  rw [← i, if_pos h]
theorem hl_n {iv : Iv} {l d : Int} {b : Int32} {n : Nat} (i : b = hlN iv l d n) (h : ¬ ((¬ b.toInt = 0) ∨ ((iv 21 0 n).toInt = l ∧ (iv 22 0 n).toInt ≤ d))) : (0 : Int32) = hlN iv l d (n + 1) := by
  show _ = (if (¬ (hlN iv l d n).toInt = 0) ∨ ((iv 21 0 n).toInt = l ∧ (iv 22 0 n).toInt ≤ d) then 1 else 0)
  rw [← i, if_neg h]
theorem hl_on {iv : Iv} {l d : Int} {n : Nat} (h : ¬ (hlN iv l d n).toInt = 0) : ∀ m : Nat, n < m → hlN iv l d m = 1
  | 0, hm => absurd hm (Nat.not_lt_zero _)
  | m + 1, hm => by
    show (if (¬ (hlN iv l d m).toInt = 0) ∨ ((iv 21 0 m).toInt = l ∧ (iv 22 0 m).toInt ≤ d) then 1 else 0) = 1
    by_cases e : n = m
    · rw [← e, if_pos (Or.inl h)]
    · rw [hl_on h m (by omega), if_pos (Or.inl (by decide))]
theorem mi_ok {iv : Iv} {t : Nat} {r x y z : Int32} (e : r = iv 2 0 z.toNatClampNeg) (h1 : x = iv 5 0 (rwL iv t 0)) (h2 : y = iv 6 0 (thL iv t)) (hz : z.toInt = 10 * x.toInt + y.toInt) (h0 : 0 ≤ x.toInt ∧ 0 ≤ y.toInt) : r = miF iv t := by
  have c : z.toNatClampNeg = 10 * x.toNatClampNeg + y.toNatClampNeg := by simp only [clamp_n]; omega
  unfold miF; rw [e, c, h1, h2]
theorem rwL_17 {iv iv' : Iv} (h : ∀ t i k, t ≠ 17 → iv' t i k = iv t i k) (t j : Nat) : rwL iv' t j = rwL iv t j := by simp only [rwL, h 18 _ _ (by decide)]
theorem ex_0 {iv : Iv} {l c b : Int} : (0 : Int32) = exN iv l c b (0 : Int32).toNatClampNeg := by
  rw [show (0 : Int32).toNatClampNeg = 0 from by decide]; rfl
theorem ex_up {iv : Iv} {l c b : Int} {s x y : Int32} (h : y.toInt = x.toInt + 1) (h0 : 0 ≤ x.toInt) (i : s = exN iv l c b (x.toNatClampNeg + 1)) : s = exN iv l c b y.toNatClampNeg := by rw [clamp_s h h0]; exact i
theorem ex_y {iv : Iv} {l c b : Int} {s v z : Int32} {n : Nat} (_ : s = exN iv l c b n) (h : (z.toInt = 1 ∧ ((iv 26 0 n).toInt = l ∧ (iv 27 0 n).toInt = c ∧ (iv 29 0 n).toInt ≤ b ∧ (iv 28 0 n).toInt ≤ b)) ∨ (z.toInt = 0 ∧ ¬ ((iv 26 0 n).toInt = l ∧ (iv 27 0 n).toInt = c ∧ (iv 29 0 n).toInt ≤ b ∧ (iv 28 0 n).toInt ≤ b))) (hz : ¬ z.toInt = 0) (e : v = iv 30 0 n) : v = exN iv l c b (n + 1) := by
  show _ = (if (iv 26 0 n).toInt = l ∧ (iv 27 0 n).toInt = c ∧ (iv 29 0 n).toInt ≤ b ∧ (iv 28 0 n).toInt ≤ b then iv 30 0 n else exN iv l c b n)
  rcases h with ⟨-, h⟩ | ⟨h, -⟩
  · rw [if_pos h]; exact e
  · exact absurd h hz
theorem ex_n {iv : Iv} {l c b : Int} {s z : Int32} {n : Nat} (i : s = exN iv l c b n) (h : (z.toInt = 1 ∧ ((iv 26 0 n).toInt = l ∧ (iv 27 0 n).toInt = c ∧ (iv 29 0 n).toInt ≤ b ∧ (iv 28 0 n).toInt ≤ b)) ∨ (z.toInt = 0 ∧ ¬ ((iv 26 0 n).toInt = l ∧ (iv 27 0 n).toInt = c ∧ (iv 29 0 n).toInt ≤ b ∧ (iv 28 0 n).toInt ≤ b))) (hz : z.toInt = 0) : s = exN iv l c b (n + 1) := by
  show _ = (if (iv 26 0 n).toInt = l ∧ (iv 27 0 n).toInt = c ∧ (iv 29 0 n).toInt ≤ b ∧ (iv 28 0 n).toInt ≤ b then iv 30 0 n else exN iv l c b n)
  rcases h with ⟨h, -⟩ | ⟨-, h⟩
  · omega
  · rw [if_neg h]; exact i
theorem ex_y1 {iv : Iv} {l c b : Int} {s v : Int32} {n : Nat} (_ : s = exN iv l c b n) (h : (iv 26 0 n).toInt = l ∧ (iv 27 0 n).toInt = c ∧ (iv 29 0 n).toInt ≤ b ∧ (iv 28 0 n).toInt ≤ b) (e : v = iv 30 0 n) : v = exN iv l c b (n + 1) := by
  show _ = (if (iv 26 0 n).toInt = l ∧ (iv 27 0 n).toInt = c ∧ (iv 29 0 n).toInt ≤ b ∧ (iv 28 0 n).toInt ≤ b then iv 30 0 n else exN iv l c b n)
  rw [if_pos h]; exact e
theorem ex_n1 {iv : Iv} {l c b : Int} {s : Int32} {n : Nat} (i : s = exN iv l c b n) (h : ¬ ((iv 26 0 n).toInt = l ∧ (iv 27 0 n).toInt = c ∧ (iv 29 0 n).toInt ≤ b ∧ (iv 28 0 n).toInt ≤ b)) : s = exN iv l c b (n + 1) := by
  show _ = (if (iv 26 0 n).toInt = l ∧ (iv 27 0 n).toInt = c ∧ (iv 29 0 n).toInt ≤ b ∧ (iv 28 0 n).toInt ≤ b then iv 30 0 n else exN iv l c b n)
  rw [if_neg h]; exact i
def gsN (iv : Iv) (l d h m : Int) : Nat → Int32
  | 0 => 0
  | n + 1 => if ((iv 21 0 n).toInt = l ∧ (iv 22 0 n).toInt ≤ d ∧ (iv 23 0 n).toInt ≤ h ∧ (iv 24 0 n).toInt ≤ m) ∧ (gsN iv l d h m n).toInt < (iv 25 0 n).toInt then iv 25 0 n else gsN iv l d h m n
theorem gs_0 {iv : Iv} {l d h m : Int} : (0 : Int32) = gsN iv l d h m (0 : Int32).toNatClampNeg := by
  rw [show (0 : Int32).toNatClampNeg = 0 from by decide]; rfl
theorem gs_up {iv : Iv} {l d h m : Int} {s x y : Int32} (hy : y.toInt = x.toInt + 1) (h0 : 0 ≤ x.toInt) (i : s = gsN iv l d h m (x.toNatClampNeg + 1)) : s = gsN iv l d h m y.toNatClampNeg := by rw [clamp_s hy h0]; exact i
theorem gs_y {iv : Iv} {l d h m : Int} {s v z : Int32} {n : Nat} (i : s = gsN iv l d h m n) (c : (z.toInt = 1 ∧ ((iv 21 0 n).toInt = l ∧ (iv 22 0 n).toInt ≤ d ∧ (iv 23 0 n).toInt ≤ h ∧ (iv 24 0 n).toInt ≤ m)) ∨ (z.toInt = 0 ∧ ¬ ((iv 21 0 n).toInt = l ∧ (iv 22 0 n).toInt ≤ d ∧ (iv 23 0 n).toInt ≤ h ∧ (iv 24 0 n).toInt ≤ m))) (hz : ¬ z.toInt = 0) (hs : s.toInt < (iv 25 0 n).toInt) (e : v = iv 25 0 n) : v = gsN iv l d h m (n + 1) := by
  show _ = (if ((iv 21 0 n).toInt = l ∧ (iv 22 0 n).toInt ≤ d ∧ (iv 23 0 n).toInt ≤ h ∧ (iv 24 0 n).toInt ≤ m) ∧ (gsN iv l d h m n).toInt < (iv 25 0 n).toInt then iv 25 0 n else gsN iv l d h m n)
  rcases c with ⟨-, c⟩ | ⟨c, -⟩
  · rw [if_pos ⟨c, by rw [← i]; exact hs⟩]; exact e
  · exact absurd c hz
theorem gs_n {iv : Iv} {l d h m : Int} {s : Int32} {n : Nat} (i : s = gsN iv l d h m n) (c : ¬ (((iv 21 0 n).toInt = l ∧ (iv 22 0 n).toInt ≤ d ∧ (iv 23 0 n).toInt ≤ h ∧ (iv 24 0 n).toInt ≤ m) ∧ s.toInt < (iv 25 0 n).toInt)) : s = gsN iv l d h m (n + 1) := by
  show _ = (if ((iv 21 0 n).toInt = l ∧ (iv 22 0 n).toInt ≤ d ∧ (iv 23 0 n).toInt ≤ h ∧ (iv 24 0 n).toInt ≤ m) ∧ (gsN iv l d h m n).toInt < (iv 25 0 n).toInt then iv 25 0 n else gsN iv l d h m n)
  rw [← i, if_neg c]
theorem hx_0 {iv : Iv} {l d : Int} : (hlN iv l d (0 : Int32).toNatClampNeg).toInt = 0 := by
  rw [show (0 : Int32).toNatClampNeg = 0 from by decide]; show (0 : Int32).toInt = 0; decide
theorem hx_up {iv : Iv} {l d : Int} {x y : Int32} (h : y.toInt = x.toInt + 1) (h0 : 0 ≤ x.toInt) (i : (hlN iv l d x.toNatClampNeg).toInt = 0) (c : ¬ ((iv 21 0 x.toNatClampNeg).toInt = l ∧ (iv 22 0 x.toNatClampNeg).toInt ≤ d)) : (hlN iv l d y.toNatClampNeg).toInt = 0 := by
  rw [clamp_s h h0]
  show (if (¬ (hlN iv l d x.toNatClampNeg).toInt = 0) ∨ ((iv 21 0 x.toNatClampNeg).toInt = l ∧ (iv 22 0 x.toNatClampNeg).toInt ≤ d) then (1 : Int32) else 0).toInt = 0
  rw [if_neg (fun z => z.elim (fun w => w i) c)]; decide
theorem hx_1 {iv : Iv} {l d x : Int32} (i : (hlN iv l.toInt d.toInt x.toNatClampNeg).toInt = 0) (c : (iv 21 0 x.toNatClampNeg).toInt = l.toInt ∧ (iv 22 0 x.toNatClampNeg).toInt ≤ d.toInt) (h : 0 ≤ x.toInt ∧ x.toInt < (iv 0 0 24).toInt) : (1 : Int32) = hlF iv l d := by
  have e : hlN iv l.toInt d.toInt (x.toNatClampNeg + 1) = 1 := by
    show (if (¬ (hlN iv l.toInt d.toInt x.toNatClampNeg).toInt = 0) ∨ ((iv 21 0 x.toNatClampNeg).toInt = l.toInt ∧ (iv 22 0 x.toNatClampNeg).toInt ≤ d.toInt) then (1 : Int32) else 0) = 1
    rw [if_pos (Or.inr c)]
  unfold hlF
  have c1 : x.toNatClampNeg = x.toInt.toNat := clamp_n
  have c2 : (iv 0 0 24).toNatClampNeg = (iv 0 0 24).toInt.toNat := clamp_n
  by_cases q : (iv 0 0 24).toNatClampNeg = x.toNatClampNeg + 1
  · rw [q, e]
  · rw [hl_on (n := x.toNatClampNeg + 1) (by rw [e]; decide) _ (by omega)]
theorem hx_2 {iv : Iv} {l d x : Int32} (i : (hlN iv l.toInt d.toInt x.toNatClampNeg).toInt = 0) (h : x.toInt = (iv 0 0 24).toInt) : (0 : Int32) = hlF iv l d := by
  unfold hlF
  rw [← clamp_eq h]
  exact (fa_eq _ _).mpr (by rw [i]; decide)
noncomputable def smF (iv : Iv) (t : Nat) (d : Int32) : Int32 := if (lwF iv t d).toInt < 0 ∨ ¬ (exF iv t d).toInt = 0 then 0 else gsN iv (lwF iv t d).toInt d.toInt (hoF iv t).toInt (miF iv t).toInt (iv 0 0 24).toNatClampNeg
noncomputable def suS (iv : Iv) (t d w : Int32) : Int32 := if ¬ (0 ≤ t.toInt ∧ t.toInt < (iv 0 0 20).toInt) then -1 else if ¬ (0 ≤ w.toInt ∧ w.toInt ≤ 2) then -2 else if d.toInt < 0 then -4 else if 4000 < d.toInt then -6 else if w.toInt = 0 then smF iv t.toNatClampNeg d else if w.toInt = 1 then lwF iv t.toNatClampNeg d else if ¬ (exF iv t.toNatClampNeg d).toInt = 0 then 1 else 0
theorem hlN_m {iv iv' : Iv} (h : MA iv iv') (l d : Int) : ∀ n : Nat, hlN iv' l d n = hlN iv l d n
  | 0 => rfl
  | n + 1 => by
    show (if (¬ (hlN iv' l d n).toInt = 0) ∨ ((iv' 21 0 n).toInt = l ∧ (iv' 22 0 n).toInt ≤ d) then (1 : Int32) else 0) = (if (¬ (hlN iv l d n).toInt = 0) ∨ ((iv 21 0 n).toInt = l ∧ (iv 22 0 n).toInt ≤ d) then (1 : Int32) else 0)
    rw [hlN_m h l d n, h.1 21 _ (by decide) (by decide), h.1 22 _ (by decide) (by decide)]
theorem exN_m {iv iv' : Iv} (h : MA iv iv') (l c b : Int) : ∀ n : Nat, exN iv' l c b n = exN iv l c b n
  | 0 => rfl
  | n + 1 => by
    show (if (iv' 26 0 n).toInt = l ∧ (iv' 27 0 n).toInt = c ∧ (iv' 29 0 n).toInt ≤ b ∧ (iv' 28 0 n).toInt ≤ b then iv' 30 0 n else exN iv' l c b n) = (if (iv 26 0 n).toInt = l ∧ (iv 27 0 n).toInt = c ∧ (iv 29 0 n).toInt ≤ b ∧ (iv 28 0 n).toInt ≤ b then iv 30 0 n else exN iv l c b n)
    rw [exN_m h l c b n, h.1 26 _ (by decide) (by decide), h.1 27 _ (by decide) (by decide), h.1 28 _ (by decide) (by decide), h.1 29 _ (by decide) (by decide), h.1 30 _ (by decide) (by decide)]
theorem gsN_m {iv iv' : Iv} (h : MA iv iv') (l d u m : Int) : ∀ n : Nat, gsN iv' l d u m n = gsN iv l d u m n
  | 0 => rfl
  | n + 1 => by
    show (if ((iv' 21 0 n).toInt = l ∧ (iv' 22 0 n).toInt ≤ d ∧ (iv' 23 0 n).toInt ≤ u ∧ (iv' 24 0 n).toInt ≤ m) ∧ (gsN iv' l d u m n).toInt < (iv' 25 0 n).toInt then iv' 25 0 n else gsN iv' l d u m n) = (if ((iv 21 0 n).toInt = l ∧ (iv 22 0 n).toInt ≤ d ∧ (iv 23 0 n).toInt ≤ u ∧ (iv 24 0 n).toInt ≤ m) ∧ (gsN iv l d u m n).toInt < (iv 25 0 n).toInt then iv 25 0 n else gsN iv l d u m n)
    rw [gsN_m h l d u m n, h.1 21 _ (by decide) (by decide), h.1 22 _ (by decide) (by decide), h.1 23 _ (by decide) (by decide), h.1 24 _ (by decide) (by decide), h.1 25 _ (by decide) (by decide)]
theorem hl_m {iv iv' : Iv} (h : MA iv iv') (l d : Int32) : hlF iv' l d = hlF iv l d := by unfold hlF; rw [hlN_m h, h.2 _ (by decide)]
theorem lw_m {iv iv' : Iv} (h : MA iv iv') (t : Nat) (d : Int32) : lwF iv' t d = lwF iv t d := by
  unfold lwF; rw [rwL_m h, thL_m h, h.1 5 _ (by decide) (by decide), h.1 6 _ (by decide) (by decide), h.1 1 _ (by decide) (by decide), h.1 1 _ (by decide) (by decide), hl_m h, hl_m h]
theorem mi_m {iv iv' : Iv} (h : MA iv iv') (t : Nat) : miF iv' t = miF iv t := by
  unfold miF; rw [rwL_m h, thL_m h, h.1 5 _ (by decide) (by decide), h.1 6 _ (by decide) (by decide), h.1 2 _ (by decide) (by decide)]
theorem ex_m {iv iv' : Iv} (h : MA iv iv') (t : Nat) (d : Int32) : exF iv' t d = exF iv t d := by
  unfold exF; rw [lw_m h, bl_m h, rwL_m h, exN_m h, h.1 9 _ (by decide) (by decide), h.2 _ (by decide)]
theorem sm_m {iv iv' : Iv} (h : MA iv iv') (t : Nat) (d : Int32) : smF iv' t d = smF iv t d := by
  unfold smF; rw [lw_m h, ex_m h, ho_m h, mi_m h, gsN_m h, h.2 _ (by decide)]
theorem suS_m {iv iv' : Iv} (h : MA iv iv') (t d w : Int32) : suS iv' t d w = suS iv t d w := by
  unfold suS; rw [sm_m h, lw_m h, ex_m h, h.2 _ (by decide)]
