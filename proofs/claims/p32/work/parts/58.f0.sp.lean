noncomputable def baT (iv : Iv) (c p : Nat) : Int32 := if (sdN iv c 5).toInt < (wrF iv c).toInt then 0 else iv 38 0 (5 * c + p) - duF iv c p
noncomputable def baN (iv : Iv) (p : Nat) : Nat → Int32
  | 0 => 0
  | n + 1 => baN iv p n + baT iv n p
noncomputable def baF (iv : Iv) (p : Nat) : Int32 := baN iv p (iv 0 0 41).toNatClampNeg
noncomputable def baS (iv : Iv) (p : Int32) : Int32 := if ¬ (0 ≤ p.toInt ∧ p.toInt ≤ 4) then 1000000000 - (-1) else baF iv p.toNatClampNeg
def adF (iv : Iv) (c : Nat) (w : Int32) (k : Nat) : Int32 := iv 89 c k - (duN iv (cown iv c) w (k + 1)).2
theorem ba_ix {u k o : Int32} (h : u.toInt = 5 * k.toInt + o.toInt) (h0 : 0 ≤ k.toInt ∧ 0 ≤ o.toInt) : u.toNatClampNeg = 5 * k.toNatClampNeg + o.toNatClampNeg := by simp only [clamp_n]; omega
theorem ba_0 {iv : Iv} {p : Nat} : (0 : Int32) = baN iv p (0 : Int32).toNatClampNeg := by
  rw [show (0 : Int32).toNatClampNeg = 0 from by decide]; rfl
theorem ba_up {iv : Iv} {p : Nat} {s t s' k k' : Int32} (i : s = baN iv p k.toNatClampNeg) (j : t = baT iv k.toNatClampNeg p) (e : s' = s + t) (hk : k'.toInt = k.toInt + 1) (h0 : 0 ≤ k.toInt) : s' = baN iv p k'.toNatClampNeg := by
  rw [clamp_s hk h0, e, i, j]; rfl
theorem ba_y {iv : Iv} {c p : Nat} {x a d : Int32} (e : x = a - d) (ha : a = iv 38 0 (5 * c + p)) (hd : d = duF iv c p) (h : ¬ (sdN iv c 5).toInt < (wrF iv c).toInt) : x = baT iv c p := by
  unfold baT; rw [if_neg h, e, ha, hd]
theorem ba_n {iv : Iv} {c p : Nat} (h : (sdN iv c 5).toInt < (wrF iv c).toInt) : (0 : Int32) = baT iv c p := by
  unfold baT; rw [if_pos h]
theorem ab_0 {iv : Iv} {c : Nat} {w : Int32} : ∀ k : Nat, k < 5 → iv 86 0 k = if (k : Int) < (0 : Int32).toInt then iv 86 0 k + adF iv c w k else iv 86 0 k := fun k _ => by
  rw [if_neg (by rw [show (0 : Int32).toInt = 0 from by decide]; omega)]
theorem ab_s {iv ivb iv1 : Iv} {c : Nat} {w x y a b d s v : Int32} (h : ∀ k : Nat, k < 5 → ivb 86 0 k = if (k : Int) < x.toInt then iv 86 0 k + adF iv c w k else iv 86 0 k) (ea : a = ivb 86 0 x.toNatClampNeg) (hb : b = iv 89 c x.toNatClampNeg) (hd : d = (duN iv (cown iv c) w (x.toNatClampNeg + 1)).2) (es : s = b - d) (ev : v = a + s) (e1 : iv1 = up3 ivb 86 0 x.toNatClampNeg v) (h0 : 0 ≤ x.toInt) (h5 : x.toInt < 5) (hy : y.toInt = x.toInt + 1) : ∀ k : Nat, k < 5 → iv1 86 0 k = if (k : Int) < y.toInt then iv 86 0 k + adF iv c w k else iv 86 0 k := fun k hk => by
  have c0 := ix_nat h0
  rw [e1]
  by_cases q : k = x.toNatClampNeg
  · rw [q, up3_self, if_pos (by omega), ev, ea, h x.toNatClampNeg (by omega), if_neg (by omega), es, hb, hd]; rfl
  · rw [up3_ne (fun z => q z.2.2), h k hk]
    by_cases u : (k : Int) < x.toInt
    · rw [if_pos u, if_pos (by omega)]
    · rw [if_neg u, if_neg (by omega)]
theorem su_0 {iv iv1 : Iv} (h : ∀ k : Nat, k < 5 → iv1 86 0 k = 0) : ∀ k : Nat, k < 5 → iv1 86 0 k = baN iv k (0 : Int32).toNatClampNeg := fun k hk => by
  rw [h k hk]; exact ba_0
theorem su_up {iv iv1 : Iv} {x y : Int32} (i : ∀ k : Nat, k < 5 → iv1 86 0 k = baN iv k (x.toNatClampNeg + 1)) (hy : y.toInt = x.toInt + 1) (h0 : 0 ≤ x.toInt) : ∀ k : Nat, k < 5 → iv1 86 0 k = baN iv k y.toNatClampNeg := by
  rw [clamp_s hy h0]; exact i
theorem su_n {iv ivA ivB : Iv} {n : Nat} (i : ∀ k : Nat, k < 5 → ivA 86 0 k = baN iv k n) (f : ∀ k, ivB 86 0 k = ivA 86 0 k) (h : (sdN iv n 5).toInt < (wrF iv n).toInt) : ∀ k : Nat, k < 5 → ivB 86 0 k = baN iv k (n + 1) := fun k hk => by
  rw [f, i k hk]
  show _ = baN iv k n + baT iv n k
  rw [← ba_n h]; exact (Int32.add_zero _).symm
theorem su_y {iv ivA ivB ivC : Iv} {n c : Nat} {w : Int32} (i : ∀ k : Nat, k < 5 → ivA 86 0 k = baN iv k n) (f : ∀ k, ivB 86 0 k = ivA 86 0 k) (hp : ∀ k : Nat, k < 5 → ivC 86 0 k = ivB 86 0 k + adF ivB c w k) (m : MA iv ivB) (b9 : ∀ k, ivB 89 c k = iv 89 c k) (hc : c = n) (hw : w = wrF iv n) (hP : ∀ p : Nat, p < 5 → iv 38 0 (5 * n + p) = iv 89 n p) (h : ¬ (sdN iv n 5).toInt < (wrF iv n).toInt) : ∀ k : Nat, k < 5 → ivC 86 0 k = baN iv k (n + 1) := fun k hk => by
  subst hc
  have z : adF ivB c w k = baT iv c k := by
    unfold baT adF duF
    rw [if_neg h, duN_m m, cown_m m, b9, hw, hP k hk]
  rw [hp k hk, f, i k hk, z]; rfl
theorem baT_m {iv iv' : Iv} (h : MA iv iv') (c p : Nat) : baT iv' c p = baT iv c p := by
  unfold baT; rw [sdN_m h, wr_m h, duF_m h, h 38 _ (by decide)]
theorem baN_m {iv iv' : Iv} (h : MA iv iv') (p : Nat) : ∀ n : Nat, baN iv' p n = baN iv p n
  | 0 => rfl
  | n + 1 => by
    show baN iv' p n + baT iv' n p = baN iv p n + baT iv n p
    rw [baN_m h p n, baT_m h]
theorem baF_m {iv iv' : Iv} (h : MA iv iv') (p : Nat) : baF iv' p = baF iv p := by
  unfold baF; rw [baN_m h, h 0 _ (by decide)]
theorem baS_m {iv iv' : Iv} (h : MA iv iv') (p : Int32) : baS iv' p = baS iv p := by
  unfold baS; rw [baF_m h]
