def duN (iv : Iv) (t : Nat) (w : Int32) : Nat → Int32 × Int32
  | 0 => (w, 0)
  | n + 1 => ((duN iv t w n).1 - lsF (duN iv t w n).1 (iv 37 0 (20 * n + t)), lsF (duN iv t w n).1 (iv 37 0 (20 * n + t)))
noncomputable def duF (iv : Iv) (c p : Nat) : Int32 := (duN iv (cown iv c) (wrF iv c) (p + 1)).2
noncomputable def duS (iv : Iv) (c p : Int32) : Int32 := if ¬ ((0 ≤ c.toInt ∧ c.toInt < (iv 0 0 41).toInt) ∧ (0 ≤ p.toInt ∧ p.toInt ≤ 4)) then -1 else duF iv c.toNatClampNeg p.toNatClampNeg
theorem du_ix {u k o : Int32} (h : u.toInt = 20 * k.toInt + o.toInt) (h0 : 0 ≤ k.toInt ∧ 0 ≤ o.toInt) : u.toNatClampNeg = 20 * k.toNatClampNeg + o.toNatClampNeg := by simp only [clamp_n]; omega
theorem du_0 {iv : Iv} {t : Nat} {x w : Int32} (h : x = w) : x = (duN iv t w (0 : Int32).toNatClampNeg).1 := by
  rw [show (0 : Int32).toNatClampNeg = 0 from by decide]; exact h
theorem du_02 {iv : Iv} {t : Nat} {w : Int32} : (0 : Int32) = (duN iv t w (0 : Int32).toNatClampNeg).2 := by
  rw [show (0 : Int32).toNatClampNeg = 0 from by decide]; rfl
theorem du_up1 {iv : Iv} {t : Nat} {w r r' m x k k' : Int32} (i : r = (duN iv t w k.toNatClampNeg).1) (hm : m = lsF r x) (hx : x = iv 37 0 (20 * k.toNatClampNeg + t)) (hr : r' = r - m) (hk : k'.toInt = k.toInt + 1) (h0 : 0 ≤ k.toInt) : r' = (duN iv t w k'.toNatClampNeg).1 := by
  rw [clamp_s hk h0, hr, hm, hx, i]; rfl
theorem du_up2 {iv : Iv} {t : Nat} {w r m x k k' : Int32} (i : r = (duN iv t w k.toNatClampNeg).1) (hm : m = lsF r x) (hx : x = iv 37 0 (20 * k.toNatClampNeg + t)) (hk : k'.toInt = k.toInt + 1) (h0 : 0 ≤ k.toInt) : m = (duN iv t w k'.toNatClampNeg).2 := by
  rw [clamp_s hk h0, hm, hx, i]; rfl
theorem min_ls {m x r : Int32} (h : m.toInt = min x.toInt r.toInt) : m = lsF r x := by
  apply (fa_eq _ _).mpr
  rw [h]; unfold lsF
  split <;> omega
theorem duN_m {iv iv' : Iv} (h : MA iv iv') (t : Nat) (w : Int32) : ∀ n : Nat, duN iv' t w n = duN iv t w n
  | 0 => rfl
  | n + 1 => by
    show ((duN iv' t w n).1 - lsF (duN iv' t w n).1 (iv' 37 0 (20 * n + t)), lsF (duN iv' t w n).1 (iv' 37 0 (20 * n + t))) = ((duN iv t w n).1 - lsF (duN iv t w n).1 (iv 37 0 (20 * n + t)), lsF (duN iv t w n).1 (iv 37 0 (20 * n + t)))
    rw [duN_m h t w n, h 37 _ (by decide)]
theorem duF_m {iv iv' : Iv} (h : MA iv iv') (c p : Nat) : duF iv' c p = duF iv c p := by
  unfold duF; rw [wr_m h, cown_m h, duN_m h]
theorem duS_m {iv iv' : Iv} (h : MA iv iv') (c p : Int32) : duS iv' c p = duS iv c p := by
  unfold duS; rw [duF_m h, h 0 _ (by decide)]
