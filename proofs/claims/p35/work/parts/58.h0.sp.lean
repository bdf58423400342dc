def amF (v : Int32) : Int32 := if v.toInt < 0 then -v else v
noncomputable def frF (iv : Iv) (t k : Nat) : Int32 := amF (hoF iv t - iv 43 0 k) / 10 + amF (miF iv t - iv 44 0 k) / 50
abbrev lkP (iv : Iv) (c k : Nat) : Prop := (iv 41 0 k).toInt = (clw iv c).toInt ∧ (iv 42 0 k).toInt = (blF iv (cown iv c)).toInt
noncomputable def fkF (iv : Iv) (c k : Nat) : Int32 := frF iv (cown iv c) k
def wnG (W : Nat → Int32) (a : Nat → Nat) : Nat → Int32
  | 0 => 0
  | n + 1 => wnG W a n + (if (W (a n)).toInt = 0 then 0 else 1)
def ctG (C : Nat → Int32) (a : Nat → Nat) : Nat → Int32
  | 0 => 0
  | n + 1 => ctG C a n + C (a n)
def Lx1 (P : Nat → Prop) (D : Nat → Int32) (m : Nat) (a : Nat → Nat) (i : Nat) : Prop := (a i < m ∧ P (a i)) ∧ (∀ j : Nat, j < i → ¬ a j = a i) ∧ ∀ k : Nat, k < m → P k → (∀ j : Nat, j < i → ¬ a j = k) → (D (a i)).toInt < (D k).toInt ∨ ((D (a i)).toInt = (D k).toInt ∧ a i ≤ k)
def LK (P : Nat → Prop) (D : Nat → Int32) (m K : Nat) (a : Nat → Nat) (q : Nat) : Prop := (∀ i : Nat, i < q → Lx1 P D m a i) ∧ q ≤ K ∧ (q = K ∨ ∀ k : Nat, k < m → P k → ∃ j : Nat, j < q ∧ a j = k)
def LKc (iv : Iv) (c : Nat) (a : Nat → Nat) (q : Nat) : Prop := LK (lkP iv c) (fkF iv c) (iv 0 0 48).toNatClampNeg (iv 15 0 3).toNatClampNeg a q
def odR (iv : Iv) (c w r : Int32) : Prop := (¬ (0 ≤ c.toInt ∧ c.toInt < (iv 0 0 41).toInt) ∧ r = 1000000000 - (-1)) ∨ ((0 ≤ c.toInt ∧ c.toInt < (iv 0 0 41).toInt) ∧ ¬ (0 ≤ w.toInt ∧ w.toInt ≤ 2) ∧ r = 1000000000 - (-2)) ∨ ((0 ≤ c.toInt ∧ c.toInt < (iv 0 0 41).toInt) ∧ (0 ≤ w.toInt ∧ w.toInt ≤ 2) ∧ ∃ (a : Nat → Nat) (q : Int32), 0 ≤ q.toInt ∧ LKc iv c.toNatClampNeg a q.toNatClampNeg ∧ ((w.toInt = 0 ∧ r = wnG (fun k => iv 45 0 k) a q.toNatClampNeg) ∨ (w.toInt = 1 ∧ r = q) ∨ (w.toInt = 2 ∧ r = wrF iv c.toNatClampNeg * wnG (fun k => iv 45 0 k) a q.toNatClampNeg - ctG (fun k => iv 46 0 k) a q.toNatClampNeg)))
def gdF (v q w n c : Int32) : Int32 := if q.toInt = 0 then (if (v * 2).toInt < w.toInt then 0 else 1) else (if (v * q).toInt < (w * n - c).toInt then 0 else 1)
def gdR (iv : Iv) (c v r : Int32) : Prop := (¬ (0 ≤ c.toInt ∧ c.toInt < (iv 0 0 41).toInt) ∧ r = -1) ∨ ((0 ≤ c.toInt ∧ c.toInt < (iv 0 0 41).toInt) ∧ v.toInt < 0 ∧ r = -4) ∨ ((0 ≤ c.toInt ∧ c.toInt < (iv 0 0 41).toInt) ∧ 9999 < v.toInt ∧ r = -6) ∨ ((0 ≤ c.toInt ∧ c.toInt < (iv 0 0 41).toInt) ∧ (0 ≤ v.toInt ∧ v.toInt ≤ 9999) ∧ ∃ (a : Nat → Nat) (q : Int32), 0 ≤ q.toInt ∧ LKc iv c.toNatClampNeg a q.toNatClampNeg ∧ r = gdF v q (wrF iv c.toNatClampNeg) (wnG (fun k => iv 45 0 k) a q.toNatClampNeg) (ctG (fun k => iv 46 0 k) a q.toNatClampNeg))
-- one way to choose
theorem Lx1.uniq {P : Nat → Prop} {D : Nat → Int32} {m i : Nat} {a b : Nat → Nat} (h : ∀ j : Nat, j < i → a j = b j) (x : Lx1 P D m a i) (y : Lx1 P D m b i) : a i = b i := by
  have u := x.2.2 (b i) y.1.1 y.1.2 (fun j hj => by rw [h j hj]; exact y.2.1 j hj)
  have v := y.2.2 (a i) x.1.1 x.1.2 (fun j hj => by rw [← h j hj]; exact x.2.1 j hj)
  omega
theorem LK.eq {P : Nat → Prop} {D : Nat → Int32} {m K p q : Nat} {a b : Nat → Nat} (x : LK P D m K a p) (y : LK P D m K b q) : ∀ n i : Nat, i < n → i < p → i < q → a i = b i
  | 0, _, h, _, _ => absurd h (Nat.not_lt_zero _)
  | n + 1, i, h, hp, hq => Lx1.uniq (fun j hj => LK.eq x y n j (by omega) (by omega) (by omega)) (x.1 i hp) (y.1 i hq)
theorem LK.le {P : Nat → Prop} {D : Nat → Int32} {m K p q : Nat} {a b : Nat → Nat} (x : LK P D m K a p) (y : LK P D m K b q) : q ≤ p := by
  apply Classical.byContradiction
  intro n
  have yb := y.1 p (by omega)
  have pk : ¬ p = K := by have := y.2.1; omega
  obtain ⟨j, hj, e⟩ := (x.2.2.resolve_left pk) (b p) yb.1.1 yb.1.2
  rw [LK.eq x y (j + 1) j (Nat.lt_succ_self _) hj (by omega)] at e
  exact yb.2.1 j hj e
theorem wnG_c {W : Nat → Int32} {a b : Nat → Nat} : ∀ n : Nat, (∀ i : Nat, i < n → a i = b i) → wnG W a n = wnG W b n
  | 0, _ => rfl
  | n + 1, h => by
    show wnG W a n + (if (W (a n)).toInt = 0 then 0 else 1) = wnG W b n + (if (W (b n)).toInt = 0 then 0 else 1)
    rw [wnG_c n (fun i hi => h i (by omega)), h n (Nat.lt_succ_self _)]
theorem ctG_c {W : Nat → Int32} {a b : Nat → Nat} : ∀ n : Nat, (∀ i : Nat, i < n → a i = b i) → ctG W a n = ctG W b n
  | 0, _ => rfl
  | n + 1, h => by
    show ctG W a n + W (a n) = ctG W b n + W (b n)
    rw [ctG_c n (fun i hi => h i (by omega)), h n (Nat.lt_succ_self _)]
theorem LK.both {P : Nat → Prop} {D : Nat → Int32} {m K : Nat} {p q : Int32} {a b : Nat → Nat} (hp : 0 ≤ p.toInt) (hq : 0 ≤ q.toInt) (x : LK P D m K a p.toNatClampNeg) (y : LK P D m K b q.toNatClampNeg) : p = q ∧ ∀ i : Nat, i < q.toNatClampNeg → a i = b i := by
  have c := ix_nat hp
  have d := ix_nat hq
  have l1 := LK.le x y
  have l2 := LK.le y x
  exact ⟨(fa_eq _ _).mpr (by omega), fun i hi => LK.eq x y (i + 1) i (Nat.lt_succ_self _) (by omega) hi⟩
theorem lkP_m {iv iv' : Iv} (h : MA iv iv') (c : Nat) : lkP iv' c = lkP iv c := by
  funext k
  show ((iv' 41 0 k).toInt = (clw iv' c).toInt ∧ (iv' 42 0 k).toInt = (blF iv' (cown iv' c)).toInt) = ((iv 41 0 k).toInt = (clw iv c).toInt ∧ (iv 42 0 k).toInt = (blF iv (cown iv c)).toInt)
  rw [clw_m h, cown_m h, bl_m h, h.1 41 _ (by decide) (by decide), h.1 42 _ (by decide) (by decide)]
theorem fkF_m {iv iv' : Iv} (h : MA iv iv') (c : Nat) : fkF iv' c = fkF iv c := by
  funext k
  unfold fkF frF
  rw [cown_m h, ho_m h, mi_m h, h.1 43 _ (by decide) (by decide), h.1 44 _ (by decide) (by decide)]
theorem LKc_m {iv iv' : Iv} (h : MA iv iv') (c : Nat) (a : Nat → Nat) (q : Nat) : LKc iv' c a q = LKc iv c a q := by
  unfold LKc; rw [lkP_m h, fkF_m h, h.1 15 _ (by decide) (by decide), MA.f48 h]
theorem f45_m {iv iv' : Iv} (h : MA iv iv') : (fun k => iv' 45 0 k) = (fun k => iv 45 0 k) := funext (fun k => h.1 45 k (by decide) (by decide))
theorem f46_m {iv iv' : Iv} (h : MA iv iv') : (fun k => iv' 46 0 k) = (fun k => iv 46 0 k) := funext (fun k => h.1 46 k (by decide) (by decide))
theorem odR_m {iv iv' : Iv} (h : MA iv iv') (c w r : Int32) : odR iv' c w r = odR iv c w r := by
  unfold odR
  rw [f45_m h, f46_m h, wr_m h, MA.f41 h]
  simp only [LKc_m h]
theorem gdR_m {iv iv' : Iv} (h : MA iv iv') (c v r : Int32) : gdR iv' c v r = gdR iv c v r := by
  unfold gdR
  rw [f45_m h, f46_m h, wr_m h, MA.f41 h]
  simp only [LKc_m h]
theorem od_ans {iv : Iv} {c w r1 r2 : Int32} (p1 : odR iv c w r1) (p2 : odR iv c w r2) : r1 = r2 := by
  rcases p1 with ⟨o, e⟩ | ⟨o, o1, e⟩ | ⟨o, o1, a, q, hq, L, e⟩ <;> rcases p2 with ⟨u, f⟩ | ⟨u, u1, f⟩ | ⟨u, u1, b, p, hp, M, f⟩
  · rw [e, f]
  · exact absurd u o
  · exact absurd u o
  · exact absurd o u
  · rw [e, f]
  · exact absurd u1 o1
  · exact absurd o u
  · exact absurd o1 u1
  · obtain ⟨k1, k2⟩ := LK.both hq hp L M
    subst k1
    rw [wnG_c _ k2, ctG_c _ k2] at e
    rcases e with ⟨x, e⟩ | ⟨x, e⟩ | ⟨x, e⟩ <;> rcases f with ⟨y, f⟩ | ⟨y, f⟩ | ⟨y, f⟩ <;> first | (rw [e, f]; done) | (exfalso; omega)
theorem gd_ans {iv : Iv} {c v r1 r2 : Int32} (p1 : gdR iv c v r1) (p2 : gdR iv c v r2) : r1 = r2 := by
  rcases p1 with ⟨o, e⟩ | ⟨o, o1, e⟩ | ⟨o, o1, e⟩ | ⟨o, o1, a, q, hq, L, e⟩ <;> rcases p2 with ⟨u, f⟩ | ⟨u, u1, f⟩ | ⟨u, u1, f⟩ | ⟨u, u1, b, p, hp, M, f⟩ <;> first | (rw [e, f]; done) | (exfalso; omega) | skip
  obtain ⟨k1, k2⟩ := LK.both hq hp L M
  subst k1
  rw [wnG_c _ k2, ctG_c _ k2] at e
  rw [e, f]
theorem gd_q {iv iv1 : Iv} {T K : Nat} {v x y : Int32} (e : x = v * y) (ey : y = iv1 T 0 K) (g : iv1 T 0 K = iv T 0 K) : x = v * iv T 0 K := by rw [e, ey, g]
theorem gd_o {iv1 iv2 : Iv} {x z w a b n c W : Int32} (e : x = z - b) (ez : z = w * a) (hw : w = W) (ea : a = iv2 0 0 56) (eb : b = iv2 0 0 57) (g6 : iv2 0 0 56 = iv1 0 0 56) (g7 : iv2 0 0 57 = iv1 0 0 57) (hn : iv1 0 0 56 = n) (hc : iv1 0 0 57 = c) : x = W * n - c := by
  rw [e, ez, hw, ea, eb, g6, g7, hn, hc]
theorem gd_p {iv1 iv2 : Iv} {x w n c W : Int32} (e : x = w * iv2 90 0 9 - iv2 90 0 10) (hw : w = W) (g6 : iv2 90 0 9 = iv1 90 0 9) (g7 : iv2 90 0 10 = iv1 90 0 10) (hn : iv1 90 0 9 = n) (hc : iv1 90 0 10 = c) : x = W * n - c := by
  rw [e, hw, g6, g7, hn, hc]
theorem le48 {al : Al} {iv : Iv} {rv : Rv} (hG : GI al iv rv) : 0 ≤ (iv 0 0 48).toInt ∧ (iv 0 0 48).toInt ≤ 40 := hG.1 0 0 48 (h1_0 hG) (by decide)
theorem le15 {al : Al} {iv : Iv} {rv : Rv} (hG : GI al iv rv) : 0 ≤ (iv 15 0 3).toInt ∧ (iv 15 0 3).toInt ≤ 900 := hG.1 15 0 3 (h1_15 hG) (by decide)
theorem le90 {al : Al} {iv : Iv} {rv : Rv} (hG : GI al iv rv) : 0 ≤ (iv 90 0 6).toInt ∧ (iv 90 0 6).toInt ≤ 40 := hG.1 90 0 6 (h1_90 hG) (by decide)
-- the reference's walk: rows put in by how far they are
def lkS (P : Nat → Prop) (D : Nat → Int32) (iv : Iv) (n m : Nat) : Prop := (∀ i : Nat, i < n → (iv 47 0 i).toNatClampNeg < m ∧ P (iv 47 0 i).toNatClampNeg ∧ iv 48 0 i = D (iv 47 0 i).toNatClampNeg) ∧ (∀ i j : Nat, i < j → j < n → (iv 48 0 i).toInt < (iv 48 0 j).toInt ∨ ((iv 48 0 i).toInt = (iv 48 0 j).toInt ∧ (iv 47 0 i).toNatClampNeg < (iv 47 0 j).toNatClampNeg)) ∧ (∀ k : Nat, k < m → P k → ∃ i : Nat, i < n ∧ (iv 47 0 i).toNatClampNeg = k)
def lkM (ivL iv : Iv) (n a : Nat) (f : Int32) : Prop := (∀ i : Nat, i < a → iv 47 0 i = ivL 47 0 i ∧ iv 48 0 i = ivL 48 0 i) ∧ (∀ i : Nat, a < i → i ≤ n → iv 47 0 i = ivL 47 0 (i - 1) ∧ iv 48 0 i = ivL 48 0 (i - 1) ∧ f.toInt < (iv 48 0 i).toInt)
theorem lk_0 {P : Nat → Prop} {D : Nat → Int32} {iv : Iv} : lkS P D iv (0 : Int32).toNatClampNeg (0 : Int32).toNatClampNeg := by
  rw [show (0 : Int32).toNatClampNeg = 0 from by decide]
  exact ⟨fun i h => absurd h (Nat.not_lt_zero _), fun i j _ h => absurd h (Nat.not_lt_zero _), fun k h => absurd h (Nat.not_lt_zero _)⟩
theorem lk_up {P : Nat → Prop} {D : Nat → Int32} {iv : Iv} {n : Nat} {x y : Int32} (i : lkS P D iv n (x.toNatClampNeg + 1)) (h : y.toInt = x.toInt + 1) (h0 : 0 ≤ x.toInt) : lkS P D iv n y.toNatClampNeg := by rw [clamp_s h h0]; exact i
theorem lk_no {P : Nat → Prop} {D : Nat → Int32} {iv : Iv} {n m : Nat} (i : lkS P D iv n m) (h : ¬ P m) : lkS P D iv n (m + 1) := by
  refine ⟨fun j hj => ?_, i.2.1, fun k hk hP => ?_⟩
  · obtain ⟨a, b, c⟩ := i.1 j hj
    exact ⟨by omega, b, c⟩
  · by_cases e : k = m
    · rw [e] at hP; exact absurd hP h
    · exact i.2.2 k (by omega) hP
theorem lm_0 {iv : Iv} {n : Nat} {f : Int32} : lkM iv iv n n f := ⟨fun _ _ => ⟨rfl, rfl⟩, fun i h1 h2 => absurd h1 (by omega)⟩
theorem lm_x {iv : Iv} {a u x f : Int32} (e : x = iv 48 0 u.toNatClampNeg) (hu : u.toInt = a.toInt - 1) (ha : 1 ≤ a.toInt) (h : x.toInt ≤ f.toInt) : (iv 48 0 (a.toNatClampNeg - 1)).toInt ≤ f.toInt := by
  have c := ix_nat (show 0 ≤ a.toInt by omega)
  have d := ix_nat (show 0 ≤ u.toInt by omega)
  rw [show a.toNatClampNeg - 1 = u.toNatClampNeg by omega, ← e]; exact h
theorem lm_s {ivL iv iv1 iv2 : Iv} {n : Nat} {a a' f u u2 u3 x y z : Int32} (i : lkM ivL iv n a.toNatClampNeg f) (e1 : x = iv 48 0 u.toNatClampNeg) (hu : u.toInt = a.toInt - 1) (gt : f.toInt < x.toInt) (e2 : y = iv 48 0 u2.toNatClampNeg) (hu2 : u2.toInt = a.toInt - 1) (ei1 : iv1 = up3 iv 48 0 a.toNatClampNeg y) (e3 : z = iv1 47 0 u3.toNatClampNeg) (hu3 : u3.toInt = a.toInt - 1) (ei2 : iv2 = up3 iv1 47 0 a.toNatClampNeg z) (ha : 1 ≤ a.toInt) (ha' : a'.toInt = a.toInt - 1) : lkM ivL iv2 n a'.toNatClampNeg f := by
  have c := ix_nat (show 0 ≤ a.toInt by omega)
  have d := ix_nat (show 0 ≤ u.toInt by omega)
  have d2 := ix_nat (show 0 ≤ u2.toInt by omega)
  have d3 := ix_nat (show 0 ≤ u3.toInt by omega)
  have c' := ix_nat (show 0 ≤ a'.toInt by omega)
  have k1 : a'.toNatClampNeg = a.toNatClampNeg - 1 := by omega
  have k2 : u.toNatClampNeg = a.toNatClampNeg - 1 := by omega
  have k3 : u2.toNatClampNeg = a.toNatClampNeg - 1 := by omega
  have k4 : u3.toNatClampNeg = a.toNatClampNeg - 1 := by omega
  have pa : 1 ≤ a.toNatClampNeg := by omega
  rw [k2] at e1
  rw [k3] at e2
  rw [k4, ei1, up3_ne (fun z => absurd z.1 (by decide))] at e3
  rw [k1]
  generalize a.toNatClampNeg = A at i ei1 ei2 e1 e2 e3 pa ⊢
  have w7 : ∀ k, iv2 47 0 k = if k = A then iv 47 0 (A - 1) else iv 47 0 k := fun k => by
    rw [ei2]
    by_cases q : k = A
    · rw [q, up3_self, if_pos rfl, e3]
    · rw [up3_ne (fun z => q z.2.2), if_neg q, ei1, up3_ne (fun z => absurd z.1 (by decide))]
  have w8 : ∀ k, iv2 48 0 k = if k = A then iv 48 0 (A - 1) else iv 48 0 k := fun k => by
    rw [ei2, up3_ne (fun z => absurd z.1 (by decide)), ei1]
    by_cases q : k = A
    · rw [q, up3_self, if_pos rfl, e2]
    · rw [up3_ne (fun z => q z.2.2), if_neg q]
  refine ⟨fun k hk => ?_, fun k h1 h2 => ?_⟩
  · rw [w7, w8, if_neg (by omega), if_neg (by omega)]; exact i.1 k (by omega)
  · rw [w7, w8]
    by_cases q : k = A
    · rw [if_pos q, if_pos q, q]
      have o := i.1 (A - 1) (by omega)
      exact ⟨o.1, o.2, by rw [← e1]; exact gt⟩
    · rw [if_neg q, if_neg q]; exact i.2 k (by omega) h2
theorem lk_ins {P : Nat → Prop} {D : Nat → Int32} {ivL iv iv1 iv2 : Iv} {n n' a f k : Int32} (s : lkS P D ivL n.toNatClampNeg k.toNatClampNeg) (i : lkM ivL iv n.toNatClampNeg a.toNatClampNeg f) (x : a.toInt = 0 ∨ (iv 48 0 (a.toNatClampNeg - 1)).toInt ≤ f.toInt) (hP : P k.toNatClampNeg) (hf : f = D k.toNatClampNeg) (ei1 : iv1 = up3 iv 48 0 a.toNatClampNeg f) (ei2 : iv2 = up3 iv1 47 0 a.toNatClampNeg k) (ha : 0 ≤ a.toInt) (hn : a.toInt ≤ n.toInt) (hn' : n'.toInt = n.toInt + 1) (_ : 0 ≤ k.toInt) (_ : 0 ≤ n.toInt) : lkS P D iv2 n'.toNatClampNeg (k.toNatClampNeg + 1) := by
  have c := ix_nat ha
  have d := ix_nat (show 0 ≤ n.toInt by omega)
  have x' : a.toNatClampNeg = 0 ∨ (iv 48 0 (a.toNatClampNeg - 1)).toInt ≤ f.toInt := x.imp (fun z => by omega) id
  have le : a.toNatClampNeg ≤ n.toNatClampNeg := by omega
  rw [clamp_s hn' (by omega)]
  have w7 : ∀ j, iv2 47 0 j = if j = a.toNatClampNeg then k else iv 47 0 j := fun j => by
    rw [ei2]
    by_cases q : j = a.toNatClampNeg
    · rw [q, up3_self, if_pos rfl]
    · rw [up3_ne (fun z => q z.2.2), if_neg q, ei1, up3_ne (fun z => absurd z.1 (by decide))]
  have w8 : ∀ j, iv2 48 0 j = if j = a.toNatClampNeg then f else iv 48 0 j := fun j => by
    rw [ei2, up3_ne (fun z => absurd z.1 (by decide)), ei1]
    by_cases q : j = a.toNatClampNeg
    · rw [q, up3_self, if_pos rfl]
    · rw [up3_ne (fun z => q z.2.2), if_neg q]
  clear ei1 ei2 c d ha hn hn' x
  generalize a.toNatClampNeg = A at i x' le w7 w8
  generalize n.toNatClampNeg = N at s i le ⊢
  obtain ⟨s1, s2, s3⟩ := s
  obtain ⟨i1, i2⟩ := i
  have lo : ∀ j, j < A → iv2 47 0 j = ivL 47 0 j ∧ iv2 48 0 j = ivL 48 0 j := fun j hj => by
    rw [w7, w8, if_neg (by omega), if_neg (by omega)]; exact i1 j hj
  have at7 : iv2 47 0 A = k := by rw [w7, if_pos rfl]
  have at8 : iv2 48 0 A = f := by rw [w8, if_pos rfl]
  have hi : ∀ j, A < j → j ≤ N → iv2 47 0 j = ivL 47 0 (j - 1) ∧ iv2 48 0 j = ivL 48 0 (j - 1) ∧ f.toInt < (iv2 48 0 j).toInt := fun j h1 h2 => by
    rw [w7, w8, if_neg (by omega), if_neg (by omega)]; exact i2 j h1 h2
  have low : ∀ j, j < A → (iv2 48 0 j).toInt ≤ f.toInt := fun j hj => by
    rw [(lo j hj).2]
    have y := x'.resolve_left (by omega)
    rw [(i1 (A - 1) (by omega)).2] at y
    by_cases q : j = A - 1
    · rw [q]; exact y
    · have z := s2 j (A - 1) (by omega) (by omega)
      omega
  refine ⟨fun j hj => ?_, fun j l h1 h2 => ?_, fun q hq hPq => ?_⟩
  · rcases Nat.lt_trichotomy j A with z | z | z
    · obtain ⟨o1, o2⟩ := lo j z
      obtain ⟨u1, u2, u3⟩ := s1 j (by omega)
      rw [o1, o2]; exact ⟨by omega, u2, u3⟩
    · rw [z, at7, at8]; exact ⟨by omega, hP, hf⟩
    · obtain ⟨o1, o2, -⟩ := hi j z (by omega)
      obtain ⟨u1, u2, u3⟩ := s1 (j - 1) (by omega)
      rw [o1, o2]; exact ⟨by omega, u2, u3⟩
  · rcases Nat.lt_trichotomy l A with z | z | z
    · rw [(lo j (by omega)).1, (lo j (by omega)).2, (lo l z).1, (lo l z).2]; exact s2 j l h1 (by omega)
    · rw [z] at h1 ⊢
      have u := low j h1
      have u1 := (s1 j (by omega)).1
      rw [at7, at8, (lo j h1).1]
      omega
    · obtain ⟨o1, o2, o3⟩ := hi l z (by omega)
      rcases Nat.lt_trichotomy j A with y | y | y
      · have u := low j y
        exact Or.inl (by omega)
      · rw [y, at8]; exact Or.inl o3
      · obtain ⟨p1, p2, -⟩ := hi j y (by omega)
        rw [o1, o2, p1, p2]; exact s2 (j - 1) (l - 1) (by omega) (by omega)
  · by_cases e : q = k.toNatClampNeg
    · exact ⟨A, by omega, by rw [at7, e]⟩
    · obtain ⟨j, hj, ej⟩ := s3 q (by omega) hPq
      by_cases z : j < A
      · exact ⟨j, by omega, by rw [(lo j z).1]; exact ej⟩
      · exact ⟨j + 1, by omega, by rw [(hi (j + 1) (by omega) (by omega)).1, Nat.add_sub_cancel]; exact ej⟩
theorem lk_fin {P : Nat → Prop} {D : Nat → Int32} {iv : Iv} {n m K q : Nat} (s : lkS P D iv n m) (hq : q ≤ n) (hK : q ≤ K) (h : q = K ∨ q = n) : LK P D m K (fun i => (iv 47 0 i).toNatClampNeg) q := by
  obtain ⟨s1, s2, s3⟩ := s
  refine ⟨fun i hi => ⟨⟨(s1 i (by omega)).1, (s1 i (by omega)).2.1⟩, fun j hj e => ?_, fun k hk hP hn => ?_⟩, hK, ?_⟩
  · have e' : (iv 47 0 j).toNatClampNeg = (iv 47 0 i).toNatClampNeg := e
    have z := s2 j i hj (by omega)
    have u := (s1 j (by omega)).2.2
    have v := (s1 i (by omega)).2.2
    rw [e', ← v] at u
    rw [u] at z
    omega
  · show (D (iv 47 0 i).toNatClampNeg).toInt < (D k).toInt ∨ ((D (iv 47 0 i).toNatClampNeg).toInt = (D k).toInt ∧ (iv 47 0 i).toNatClampNeg ≤ k)
    obtain ⟨l, hl, el⟩ := s3 k hk hP
    have nl : ¬ l < i := fun z => hn l z el
    have v := (s1 i (by omega)).2.2
    have u := (s1 l hl).2.2
    rw [el] at u
    rw [← v, ← u]
    by_cases z : l = i
    · rw [z] at el ⊢
      exact Or.inr ⟨rfl, by omega⟩
    · have w := s2 i l (by omega) hl
      omega
  · rcases h with h | h
    · exact Or.inl h
    · exact Or.inr (fun k hk hP => by
        obtain ⟨j, hj, e⟩ := s3 k hk hP
        exact ⟨j, by omega, e⟩)
def lwI (iv0 ivE iv : Iv) (n6 : Int32) (i : Nat) : Prop := iv 0 0 55 = lsF n6 (iv0 15 0 3) ∧ (∀ k, iv 47 0 k = ivE 47 0 k) ∧ iv 0 0 56 = wnG (fun k => iv0 45 0 k) (fun j => (ivE 47 0 j).toNatClampNeg) i ∧ iv 0 0 57 = ctG (fun k => iv0 46 0 k) (fun j => (ivE 47 0 j).toNatClampNeg) i
theorem lw_0 {iv0 ivE iv1 iv2 iv3 : Iv} {n r x : Int32} (q : r = lsF n x) (hx : x = iv0 15 0 3) (e1 : iv1 = up3 ivE 0 0 55 r) (e2 : iv2 = up3 iv1 0 0 56 0) (e3 : iv3 = up3 iv2 0 0 57 0) : lwI iv0 ivE iv3 n (0 : Int32).toNatClampNeg := by
  rw [show (0 : Int32).toNatClampNeg = 0 from by decide]
  refine ⟨?_, fun k => ?_, ?_, ?_⟩
  · rw [e3, up3_ne (fun z => absurd z.2.2 (by decide)), e2, up3_ne (fun z => absurd z.2.2 (by decide)), e1, up3_self, q, hx]
  · rw [e3, up3_ne (fun z => absurd z.1 (by decide)), e2, up3_ne (fun z => absurd z.1 (by decide)), e1, up3_ne (fun z => absurd z.1 (by decide))]
  · rw [e3, up3_ne (fun z => absurd z.2.2 (by decide)), e2, up3_self]; rfl
  · rw [e3, up3_self]; rfl
theorem lw_47 {iv0 ivE iv iv1 : Iv} {n6 v : Int32} {i : Nat} (w : lwI iv0 ivE iv n6 i) (e : iv1 = up3 iv 0 0 56 v) (k : Nat) : iv1 47 0 k = ivE 47 0 k := by
  rw [e, up3_ne (fun z => absurd z.1 (by decide))]; exact w.2.1 k
theorem lw_s {iv0 ivE iv iv1 iv2 : Iv} {n6 i i' x s y c d z : Int32} (w : lwI iv0 ivE iv n6 i.toNatClampNeg) (ex : x = iv 0 0 56) (hs : s = if (iv0 45 0 (ivE 47 0 i.toNatClampNeg).toNatClampNeg).toInt = 0 then 0 else 1) (ey : y = x + s) (e1 : iv1 = up3 iv 0 0 56 y) (ec : c = iv1 0 0 57) (hd : d = iv0 46 0 (ivE 47 0 i.toNatClampNeg).toNatClampNeg) (ez : z = c + d) (e2 : iv2 = up3 iv1 0 0 57 z) (hi : i'.toInt = i.toInt + 1) (h0 : 0 ≤ i.toInt) : lwI iv0 ivE iv2 n6 i'.toNatClampNeg := by
  rw [clamp_s hi h0]
  obtain ⟨w1, w2, w3, w4⟩ := w
  refine ⟨?_, fun k => ?_, ?_, ?_⟩
  · rw [e2, up3_ne (fun z => absurd z.2.2 (by decide)), e1, up3_ne (fun z => absurd z.2.2 (by decide))]; exact w1
  · rw [e2, up3_ne (fun z => absurd z.1 (by decide)), e1, up3_ne (fun z => absurd z.1 (by decide))]; exact w2 k
  · rw [e2, up3_ne (fun z => absurd z.2.2 (by decide)), e1, up3_self, ey, ex, w3, hs]; rfl
  · rw [e2, up3_self, ez, ec, e1, up3_ne (fun z => absurd z.2.2 (by decide)), w4, hd]; rfl
theorem lk_ret {iv0 ivE iv : Iv} {c : Nat} {n6 m7 i7 : Int32} (s : lkS (lkP iv0 c) (fkF iv0 c) ivE n6.toNatClampNeg m7.toNatClampNeg) (w : lwI iv0 ivE iv n6 i7.toNatClampNeg) (hm : m7.toInt = (iv0 0 0 48).toInt) (hn : 0 ≤ n6.toInt) (hK : 0 ≤ (iv0 15 0 3).toInt) (hi : i7.toInt = (iv 0 0 55).toInt) (h0 : 0 ≤ i7.toInt) : ∃ a : Nat → Nat, 0 ≤ (iv 0 0 55).toInt ∧ LKc iv0 c a (iv 0 0 55).toNatClampNeg ∧ iv 0 0 56 = wnG (fun k => iv0 45 0 k) a (iv 0 0 55).toNatClampNeg ∧ iv 0 0 57 = ctG (fun k => iv0 46 0 k) a (iv 0 0 55).toNatClampNeg := by
  obtain ⟨w1, w2, w3, w4⟩ := w
  have e := clamp_eq hi
  have h55 : 0 ≤ (iv 0 0 55).toInt := by omega
  refine ⟨fun j => (ivE 47 0 j).toNatClampNeg, h55, ?_, by rw [← e]; exact w3, by rw [← e]; exact w4⟩
  rw [clamp_eq hm] at s
  have c1 := ix_nat hn
  have c2 := ix_nat hK
  have c3 := ix_nat h55
  have t := congrArg Int32.toInt w1
  have ls : ((lsF n6 (iv0 15 0 3)).toInt = n6.toInt ∧ n6.toInt < (iv0 15 0 3).toInt) ∨ ((lsF n6 (iv0 15 0 3)).toInt = (iv0 15 0 3).toInt ∧ (iv0 15 0 3).toInt ≤ n6.toInt) := by
    unfold lsF
    by_cases q : n6.toInt < (iv0 15 0 3).toInt
    · rw [if_pos q]; exact Or.inl ⟨rfl, q⟩
    · rw [if_neg q]; exact Or.inr ⟨rfl, by omega⟩
  exact lk_fin s (by omega) (by omega) (by omega)
-- the class's walk: the least far one, again and again
def lfP (iv : Iv) (r : Int32) (n : Nat) : Prop := (r.toInt = -9 ∧ ∀ k : Nat, k < n → (iv 97 0 k).toInt = -1) ∨ ((0 ≤ r.toInt ∧ r.toNatClampNeg < n) ∧ ¬ (iv 97 0 r.toNatClampNeg).toInt = -1 ∧ ∀ k : Nat, k < n → ¬ (iv 97 0 k).toInt = -1 → (iv 97 0 r.toNatClampNeg).toInt < (iv 97 0 k).toInt ∨ ((iv 97 0 r.toNatClampNeg).toInt = (iv 97 0 k).toInt ∧ r.toNatClampNeg ≤ k))
theorem lf_0 {iv : Iv} : lfP iv (-9) (0 : Int32).toNatClampNeg := Or.inl ⟨by decide, fun k hk => by rw [show (0 : Int32).toNatClampNeg = 0 from by decide] at hk; omega⟩
theorem lf_up {iv : Iv} {r x y : Int32} (h : y.toInt = x.toInt + 1) (h0 : 0 ≤ x.toInt) (i : lfP iv r (x.toNatClampNeg + 1)) : lfP iv r y.toNatClampNeg := by rw [clamp_s h h0]; exact i
theorem lf_n {iv : Iv} {r x : Int32} (i : lfP iv r x.toNatClampNeg) (h : (iv 97 0 x.toNatClampNeg).toInt = -1 ∨ (¬ r.toInt = -9 ∧ (iv 97 0 r.toNatClampNeg).toInt ≤ (iv 97 0 x.toNatClampNeg).toInt)) : lfP iv r (x.toNatClampNeg + 1) := by
  generalize x.toNatClampNeg = n at i h
  rcases i with ⟨a, b⟩ | ⟨⟨a0, a1⟩, b, c⟩
  · refine Or.inl ⟨a, fun k hk => ?_⟩
    by_cases e : k = n
    · rw [e]
      rcases h with h | h
      · exact h
      · exact absurd a h.1
    · exact b k (by omega)
  · refine Or.inr ⟨⟨a0, by omega⟩, b, fun k hk z => ?_⟩
    by_cases e : k = n
    · rw [e] at z ⊢
      rcases h with h | h
      · exact absurd h z
      · omega
    · exact c k (by omega) z
theorem lf_y {iv : Iv} {r x : Int32} (i : lfP iv r x.toNatClampNeg) (h : ¬ (iv 97 0 x.toNatClampNeg).toInt = -1) (h0 : 0 ≤ x.toInt) (hr : r.toInt = -9 ∨ (iv 97 0 x.toNatClampNeg).toInt < (iv 97 0 r.toNatClampNeg).toInt) : lfP iv x (x.toNatClampNeg + 1) := by
  refine Or.inr ⟨⟨h0, Nat.lt_succ_self _⟩, h, fun k hk z => ?_⟩
  by_cases e : k = x.toNatClampNeg
  · rw [e]; exact Or.inr ⟨rfl, Nat.le_refl _⟩
  · rcases i with ⟨a, b⟩ | ⟨⟨a0, a1⟩, b, c⟩
    · exact absurd (b k (by omega)) z
    · have w := c k (by omega) z
      have q : (iv 97 0 x.toNatClampNeg).toInt < (iv 97 0 r.toNatClampNeg).toInt := hr.resolve_left (by omega)
      exact Or.inl (by omega)
theorem lf_end {iv : Iv} {r x : Int32} (i : lfP iv r x.toNatClampNeg) (h : x.toInt = (iv 90 0 6).toInt) (_ : 0 ≤ x.toInt) : lfP iv r (iv 90 0 6).toNatClampNeg := by rw [← clamp_eq h]; exact i
abbrev msC (iv : Iv) (a cs : Int32) (k : Nat) : Prop := (iv 91 0 k).toInt = a.toInt ∧ (iv 92 0 k).toInt = cs.toInt
def msR (iv : Iv) (a cs mm far : Int32) (k : Nat) : Int32 := if msC iv a cs k then abF (iv 93 0 k - mm) / 10 + abF (iv 94 0 k - far) / 50 else -1
theorem me_0 {iv : Iv} {f : Nat → Int32} : ∀ k : Nat, (k : Int) < (0 : Int32).toInt → iv 97 0 k = f k := fun k hk => absurd hk (by rw [show (0 : Int32).toInt = 0 from by decide]; omega)
theorem me_s {iv iv1 : Iv} {f : Nat → Int32} {x y v : Int32} (i : ∀ k : Nat, (k : Int) < x.toInt → iv 97 0 k = f k) (hv : v = f x.toNatClampNeg) (e : iv1 = up3 iv 97 0 x.toNatClampNeg v) (h0 : 0 ≤ x.toInt) (hy : y.toInt = x.toInt + 1) : ∀ k : Nat, (k : Int) < y.toInt → iv1 97 0 k = f k := fun k hk => by
  have c := ix_nat h0
  rw [e]
  by_cases q : k = x.toNatClampNeg
  · rw [q, up3_self, hv]
  · rw [up3_ne (fun z => q z.2.2)]; exact i k (by omega)
theorem me_y {iv : Iv} {a cs mm far x v : Int32} {k : Nat} (h : (x.toInt = 1 ∧ msC iv a cs k) ∨ (x.toInt = 0 ∧ ¬ msC iv a cs k)) (hx : ¬ x.toInt = 0) (hv : v = abF (iv 93 0 k - mm) / 10 + abF (iv 94 0 k - far) / 50) : v = msR iv a cs mm far k := by
  unfold msR
  rcases h with ⟨-, h⟩ | ⟨h, -⟩
  · rw [if_pos h]; exact hv
  · exact absurd h hx
theorem me_n {iv : Iv} {a cs mm far x : Int32} {k : Nat} (h : (x.toInt = 1 ∧ msC iv a cs k) ∨ (x.toInt = 0 ∧ ¬ msC iv a cs k)) (hx : x.toInt = 0) : (-1 : Int32) = msR iv a cs mm far k := by
  unfold msR
  rcases h with ⟨h, -⟩ | ⟨-, h⟩
  · omega
  · rw [if_neg h]
abbrev chP (iv : Iv) (k : Nat) : Prop := ¬ (iv 97 0 k).toInt = -1
def chI (iv0 iv : Iv) (n : Nat) : Prop := ∃ a : Nat → Nat, (∀ i : Nat, i < n → Lx1 (chP iv0) (fun k => iv0 97 0 k) (iv0 90 0 6).toNatClampNeg a i) ∧ (∀ k j : Nat, k < (iv0 90 0 6).toNatClampNeg → j < n → a j = k → iv 97 0 k = -1) ∧ (∀ k : Nat, k < (iv0 90 0 6).toNatClampNeg → (∀ j : Nat, j < n → ¬ a j = k) → iv 97 0 k = iv0 97 0 k) ∧ (iv 90 0 8).toInt = n ∧ iv 90 0 9 = wnG (fun k => iv0 95 0 k) a n ∧ iv 90 0 10 = ctG (fun k => iv0 96 0 k) a n
def chJ (iv0 ivH iv : Iv) (r : Nat) : Prop := iv 90 0 8 = ivH 90 0 8 + 1 ∧ iv 90 0 9 = ivH 90 0 9 + (if (iv0 95 0 r).toInt = 0 then 0 else 1) ∧ iv 90 0 10 = ivH 90 0 10 ∧ ∀ k, iv 97 0 k = ivH 97 0 k
theorem ch_0 {iv iv1 iv2 iv3 : Iv} (e1 : iv1 = up3 iv 90 0 8 0) (e2 : iv2 = up3 iv1 90 0 9 0) (e3 : iv3 = up3 iv2 90 0 10 0) : chI iv iv3 (0 : Int32).toNatClampNeg := by
  rw [show (0 : Int32).toNatClampNeg = 0 from by decide]
  refine ⟨fun _ => 0, fun i h => absurd h (Nat.not_lt_zero _), fun k j _ h => absurd h (Nat.not_lt_zero _), fun k _ _ => ?_, ?_, ?_, ?_⟩
  · rw [e3, up3_ne (fun z => absurd z.1 (by decide)), e2, up3_ne (fun z => absurd z.1 (by decide)), e1, up3_ne (fun z => absurd z.1 (by decide))]
  · rw [e3, up3_ne (fun z => absurd z.2.2 (by decide)), e2, up3_ne (fun z => absurd z.2.2 (by decide)), e1, up3_self]; decide
  · rw [e3, up3_ne (fun z => absurd z.2.2 (by decide)), e2, up3_self]; rfl
  · rw [e3, up3_self]; rfl
theorem ch_lf {iv0 iv : Iv} {r : Int32} (h : lfP iv r (iv 90 0 6).toNatClampNeg) (e : iv 90 0 6 = iv0 90 0 6) : lfP iv r (iv0 90 0 6).toNatClampNeg := by rw [← e]; exact h
theorem ch_j0 {iv0 ivH iv1 : Iv} {x y : Int32} {r : Nat} (ex : x = ivH 90 0 8) (ey : y = x + 1) (e1 : iv1 = up3 ivH 90 0 8 y) (h : (iv0 95 0 r).toInt = 0) : chJ iv0 ivH iv1 r := by
  refine ⟨by rw [e1, up3_self, ey, ex], ?_, ?_, fun k => ?_⟩
  · rw [e1, up3_ne (fun z => absurd z.2.2 (by decide)), if_pos h, Int32.add_zero]
  · rw [e1, up3_ne (fun z => absurd z.2.2 (by decide))]
  · rw [e1, up3_ne (fun z => absurd z.1 (by decide))]
theorem ch_j1 {iv0 ivH iv1 iv2 : Iv} {x y u v : Int32} {r : Nat} (ex : x = ivH 90 0 8) (ey : y = x + 1) (e1 : iv1 = up3 ivH 90 0 8 y) (eu : u = iv1 90 0 9) (ev : v = u + 1) (e2 : iv2 = up3 iv1 90 0 9 v) (h : ¬ (iv0 95 0 r).toInt = 0) : chJ iv0 ivH iv2 r := by
  refine ⟨by rw [e2, up3_ne (fun z => absurd z.2.2 (by decide)), e1, up3_self, ey, ex], ?_, ?_, fun k => ?_⟩
  · rw [e2, up3_self, ev, eu, e1, up3_ne (fun z => absurd z.2.2 (by decide)), if_neg h]
  · rw [e2, up3_ne (fun z => absurd z.2.2 (by decide)), e1, up3_ne (fun z => absurd z.2.2 (by decide))]
  · rw [e2, up3_ne (fun z => absurd z.1 (by decide)), e1, up3_ne (fun z => absurd z.1 (by decide))]
theorem ch_s {iv0 ivH ivJ iv1 iv2 : Iv} {r n n' x c d : Int32} (i : chI iv0 ivH n.toNatClampNeg) (l : lfP ivH r (iv0 90 0 6).toNatClampNeg) (j : chJ iv0 ivH ivJ r.toNatClampNeg) (ex : x = ivJ 90 0 10) (hc : c = iv0 96 0 r.toNatClampNeg) (ed : d = x + c) (e1 : iv1 = up3 ivJ 90 0 10 d) (e2 : iv2 = up3 iv1 97 0 r.toNatClampNeg (-1)) (hr : ¬ r.toInt = -9) (h0 : 0 ≤ n.toInt ∧ n.toInt ≤ 900) (hn : n'.toInt = n.toInt + 1) : chI iv0 iv2 n'.toNatClampNeg := by
  have cn := ix_nat h0.1
  rw [clamp_s hn h0.1]
  obtain ⟨a, i1, i2, i3, i4, i5, i6⟩ := i
  obtain ⟨j1, j2, j3, j4⟩ := j
  obtain ⟨⟨l0, l1⟩, l2, l3⟩ := l.resolve_left (fun z => hr z.1)
  have fr : ∀ q : Nat, q < n.toNatClampNeg → ¬ a q = r.toNatClampNeg := fun q hq e => l2 (by rw [i2 _ q l1 hq e]; decide)
  have gr := i3 _ l1 fr
  have m1 : (1 : Int32).toInt = 1 := by decide
  have lo : ∀ q : Nat, q < n.toNatClampNeg → (if q = n.toNatClampNeg then r.toNatClampNeg else a q) = a q := fun q hq => if_neg (by omega)
  have old : ∀ q : Nat, q < n.toNatClampNeg → Lx1 (chP iv0) (fun k => iv0 97 0 k) (iv0 90 0 6).toNatClampNeg (fun q => if q = n.toNatClampNeg then r.toNatClampNeg else a q) q := fun q hq => by
    obtain ⟨o1, o2, o3⟩ := i1 q hq
    refine ⟨?_, fun p hp => ?_, fun k hk hP hne => ?_⟩
    · show (if q = n.toNatClampNeg then r.toNatClampNeg else a q) < _ ∧ chP iv0 (if q = n.toNatClampNeg then r.toNatClampNeg else a q)
      rw [lo q hq]; exact o1
    · show ¬ (if p = n.toNatClampNeg then r.toNatClampNeg else a p) = (if q = n.toNatClampNeg then r.toNatClampNeg else a q)
      rw [lo q hq, lo p (by omega)]; exact o2 p hp
    · show (iv0 97 0 (if q = n.toNatClampNeg then r.toNatClampNeg else a q)).toInt < _ ∨ ((iv0 97 0 (if q = n.toNatClampNeg then r.toNatClampNeg else a q)).toInt = _ ∧ (if q = n.toNatClampNeg then r.toNatClampNeg else a q) ≤ k)
      rw [lo q hq]
      exact o3 k hk hP (fun p hp e => hne p hp ((lo p (by omega)).trans e))
  have w97 : ∀ k, iv2 97 0 k = if k = r.toNatClampNeg then -1 else ivH 97 0 k := fun k => by
    rw [e2]
    by_cases q : k = r.toNatClampNeg
    · rw [q, up3_self, if_pos rfl]
    · rw [up3_ne (fun z => q z.2.2), if_neg q, e1, up3_ne (fun z => absurd z.1 (by decide))]; exact j4 k
  refine ⟨fun q => if q = n.toNatClampNeg then r.toNatClampNeg else a q, fun q hq => ?_, fun k q hk hq e => ?_, fun k hk hne => ?_, ?_, ?_, ?_⟩
  · by_cases z : q = n.toNatClampNeg
    · rw [z]
      refine ⟨?_, fun p hp => ?_, fun k hk hP hne => ?_⟩
      · show (if n.toNatClampNeg = n.toNatClampNeg then r.toNatClampNeg else a n.toNatClampNeg) < _ ∧ chP iv0 (if n.toNatClampNeg = n.toNatClampNeg then r.toNatClampNeg else a n.toNatClampNeg)
        rw [if_pos rfl]
        exact ⟨l1, by show ¬ (iv0 97 0 r.toNatClampNeg).toInt = -1; rw [← gr]; exact l2⟩
      · show ¬ (if p = n.toNatClampNeg then r.toNatClampNeg else a p) = (if n.toNatClampNeg = n.toNatClampNeg then r.toNatClampNeg else a n.toNatClampNeg)
        rw [if_pos rfl, lo p hp]; exact fr p hp
      · show (iv0 97 0 (if n.toNatClampNeg = n.toNatClampNeg then r.toNatClampNeg else a n.toNatClampNeg)).toInt < (iv0 97 0 k).toInt ∨ ((iv0 97 0 (if n.toNatClampNeg = n.toNatClampNeg then r.toNatClampNeg else a n.toNatClampNeg)).toInt = (iv0 97 0 k).toInt ∧ (if n.toNatClampNeg = n.toNatClampNeg then r.toNatClampNeg else a n.toNatClampNeg) ≤ k)
        rw [if_pos rfl, ← gr]
        have gk := i3 k hk (fun p hp e => hne p hp ((lo p hp).trans e))
        rw [← gk]
        exact l3 k hk (by rw [gk]; exact hP)
    · exact old q (by omega)
  · have e' : (if q = n.toNatClampNeg then r.toNatClampNeg else a q) = k := e
    rw [w97]
    by_cases z : k = r.toNatClampNeg
    · rw [if_pos z]
    · rw [if_neg z]
      by_cases y : q = n.toNatClampNeg
      · rw [if_pos y] at e'; exact absurd e'.symm z
      · rw [if_neg y] at e'; exact i2 k q hk (by omega) e'
  · have nk : ¬ r.toNatClampNeg = k := fun e => hne n.toNatClampNeg (Nat.lt_succ_self _) ((if_pos rfl).trans e)
    rw [w97, if_neg (fun z => nk z.symm)]
    exact i3 k hk (fun p hp e => hne p (by omega) ((lo p hp).trans e))
  · rw [e2, up3_ne (fun z => absurd z.1 (by decide)), e1, up3_ne (fun z => absurd z.2.2 (by decide)), j1, fb_addI (by omega) (by omega)]; omega
  · rw [e2, up3_ne (fun z => absurd z.1 (by decide)), e1, up3_ne (fun z => absurd z.2.2 (by decide)), j2, i5]
    show _ = wnG (fun k => iv0 95 0 k) (fun q => if q = n.toNatClampNeg then r.toNatClampNeg else a q) n.toNatClampNeg + (if (iv0 95 0 (if n.toNatClampNeg = n.toNatClampNeg then r.toNatClampNeg else a n.toNatClampNeg)).toInt = 0 then 0 else 1)
    rw [if_pos (rfl : n.toNatClampNeg = n.toNatClampNeg), wnG_c (a := fun q => if q = n.toNatClampNeg then r.toNatClampNeg else a q) (b := a) _ lo]
  · rw [e2, up3_ne (fun z => absurd z.1 (by decide)), e1, up3_self, ed, ex, j3, i6, hc]
    show _ = ctG (fun k => iv0 96 0 k) (fun q => if q = n.toNatClampNeg then r.toNatClampNeg else a q) n.toNatClampNeg + iv0 96 0 (if n.toNatClampNeg = n.toNatClampNeg then r.toNatClampNeg else a n.toNatClampNeg)
    rw [if_pos (rfl : n.toNatClampNeg = n.toNatClampNeg), ctG_c (a := fun q => if q = n.toNatClampNeg then r.toNatClampNeg else a q) (b := a) _ lo]
theorem ch_q {iv : Iv} {n : Int32} (h : (iv 90 0 8).toInt = ((n.toNatClampNeg : Nat) : Int)) (h0 : 0 ≤ n.toInt) : (iv 90 0 8).toNatClampNeg = n.toNatClampNeg := clamp_eq (by rw [h]; exact ix_nat h0)
theorem ch_e1 {iv0 iv : Iv} {r n K : Int32} (i : chI iv0 iv n.toNatClampNeg) (l : lfP iv r (iv0 90 0 6).toNatClampNeg) (hr : r.toInt = -9) (h0 : 0 ≤ n.toInt) (hK : n.toInt ≤ K.toInt) : ∃ a : Nat → Nat, 0 ≤ (iv 90 0 8).toInt ∧ LK (chP iv0) (fun k => iv0 97 0 k) (iv0 90 0 6).toNatClampNeg K.toNatClampNeg a (iv 90 0 8).toNatClampNeg ∧ iv 90 0 9 = wnG (fun k => iv0 95 0 k) a (iv 90 0 8).toNatClampNeg ∧ iv 90 0 10 = ctG (fun k => iv0 96 0 k) a (iv 90 0 8).toNatClampNeg := by
  obtain ⟨a, i1, i2, i3, i4, i5, i6⟩ := i
  rw [ch_q i4 h0]
  have c1 := ix_nat h0
  have c2 := ix_nat (show 0 ≤ K.toInt by omega)
  refine ⟨a, by omega, ⟨i1, by omega, Or.inr (fun k hk hP => ?_)⟩, i5, i6⟩
  have al : ∀ k : Nat, k < (iv0 90 0 6).toNatClampNeg → (iv 97 0 k).toInt = -1 := by
    rcases l with ⟨-, l⟩ | ⟨⟨l, -⟩, -⟩
    · exact l
    · omega
  apply Classical.byContradiction
  intro ne
  have g := i3 k hk (fun j hj e => ne ⟨j, hj, e⟩)
  exact hP (by rw [← g]; exact al k hk)
theorem ch_e2 {iv0 iv : Iv} {n K : Int32} (i : chI iv0 iv n.toNatClampNeg) (h0 : 0 ≤ n.toInt) (hK : n.toInt = K.toInt) : ∃ a : Nat → Nat, 0 ≤ (iv 90 0 8).toInt ∧ LK (chP iv0) (fun k => iv0 97 0 k) (iv0 90 0 6).toNatClampNeg K.toNatClampNeg a (iv 90 0 8).toNatClampNeg ∧ iv 90 0 9 = wnG (fun k => iv0 95 0 k) a (iv 90 0 8).toNatClampNeg ∧ iv 90 0 10 = ctG (fun k => iv0 96 0 k) a (iv 90 0 8).toNatClampNeg := by
  obtain ⟨a, i1, i2, i3, i4, i5, i6⟩ := i
  rw [ch_q i4 h0, ← clamp_eq hK]
  have c1 := ix_nat h0
  exact ⟨a, by omega, ⟨i1, Nat.le_refl _, Or.inl rfl⟩, i5, i6⟩
-- how far, by either side
theorem ab_am {a b : Int32} (h1 : -2147483647 ≤ a.toInt - b.toInt) (h2 : a.toInt - b.toInt ≤ 2147483647) : abF (a - b) = amF (b - a) := by
  have e1 : (a - b).toInt = a.toInt - b.toInt := fb_subI (by omega) (by omega)
  have e2 : (b - a).toInt = b.toInt - a.toInt := fb_subI (by omega) (by omega)
  have z0 : (0 : Int32).toInt = 0 := by decide
  apply (fa_eq _ _).mpr
  unfold abF amF
  by_cases q : 0 ≤ a.toInt - b.toInt
  · rw [if_pos (Int32.le_iff_toInt_le.mpr (by rw [z0, e1]; exact q))]
    by_cases w : (b - a).toInt < 0
    · rw [if_pos w, fb_negI (by omega), e1, e2]; omega
    · rw [if_neg w, e1, e2]; omega
  · rw [if_neg (fun z => q (by have := Int32.le_iff_toInt_le.mp z; rw [z0, e1] at this; exact this)), if_neg (by omega), fb_subI (by omega) (by omega), z0, e1, e2]; omega
theorem am_rng {v : Int32} (h : -2147483647 ≤ v.toInt) : 0 ≤ (amF v).toInt := by
  unfold amF
  by_cases q : v.toInt < 0
  · rw [if_pos q, fb_negI (by omega)]; omega
  · rw [if_neg q]; omega
theorem dv_e {x d : Int32} (h : 0 ≤ x.toInt) (hd : 0 < d.toInt) : (x / d).toInt = x.toInt / d.toInt := by
  rw [Int32.toInt_div_of_ne_right x d (fun e => by rw [e] at hd; exact absurd hd (by decide)), Int.tdiv_eq_ediv_of_nonneg h]
theorem ho_nn {iv : Iv} {t : Nat} : 0 ≤ (hoF iv t).toInt := by
  unfold hoF
  by_cases q : (soF iv t).toInt < 0
  · rw [if_pos q]; decide
  · rw [if_neg q]; unfold oF
    by_cases w : (soF iv t - iv 10 0 (thL iv t)).toInt < 0
    · rw [if_pos w]; decide
    · rw [if_neg w]; omega
theorem fr_nn {iv : Iv} {t k : Nat} (m : 0 ≤ (iv 43 0 k).toInt ∧ (iv 43 0 k).toInt ≤ 9999) (i : 0 ≤ (miF iv t).toInt ∧ (miF iv t).toInt ≤ 9999) (x : 0 ≤ (iv 44 0 k).toInt ∧ (iv 44 0 k).toInt ≤ 9999) : 0 ≤ (frF iv t k).toInt := by
  have h := ho_nn (iv := iv) (t := t)
  have r := fb_rng (hoF iv t)
  have e1 : (hoF iv t - iv 43 0 k).toInt = (hoF iv t).toInt - (iv 43 0 k).toInt := fb_subI (by omega) (by omega)
  have e2 : (miF iv t - iv 44 0 k).toInt = (miF iv t).toInt - (iv 44 0 k).toInt := fb_subI (by omega) (by omega)
  have a1 := am_rng (v := hoF iv t - iv 43 0 k) (by omega)
  have a2 := am_rng (v := miF iv t - iv 44 0 k) (by omega)
  have r1 := fb_rng (amF (hoF iv t - iv 43 0 k))
  have r2 := fb_rng (amF (miF iv t - iv 44 0 k))
  have k10 : (10 : Int32).toInt = 10 := by decide
  have k50 : (50 : Int32).toInt = 50 := by decide
  have d1 : (amF (hoF iv t - iv 43 0 k) / 10).toInt = (amF (hoF iv t - iv 43 0 k)).toInt / 10 := by rw [dv_e a1 (by omega), k10]
  have d2 : (amF (miF iv t - iv 44 0 k) / 50).toInt = (amF (miF iv t - iv 44 0 k)).toInt / 50 := by rw [dv_e a2 (by omega), k50]
  unfold frF
  rw [fb_addI (by omega) (by omega)]; omega
theorem LK.cong {P P' : Nat → Prop} {D D' : Nat → Int32} {m K q : Nat} {a : Nat → Nat} (h : ∀ k : Nat, k < m → (P k ↔ P' k) ∧ (P k → D k = D' k)) (x : LK P D m K a q) : LK P' D' m K a q := by
  refine ⟨fun i hi => ?_, x.2.1, x.2.2.imp id (fun y k hk hP => y k hk ((h k hk).1.mpr hP))⟩
  obtain ⟨⟨o1, o2⟩, o3, o4⟩ := x.1 i hi
  refine ⟨⟨o1, (h _ o1).1.mp o2⟩, o3, fun k hk hP hn => ?_⟩
  have pk := (h k hk).1.mpr hP
  rw [← (h _ o1).2 o2, ← (h k hk).2 pk]
  exact o4 k hk pk hn
