def inR (T : List Nat) (F : List (Nat × Nat)) (t k : Nat) : Prop := t ∈ T ∨ (t, k) ∈ F
abbrev RC (T : List Nat) (F : List (Nat × Nat)) (md : Mo) : Prop := (∀ t, t ∈ T → t ∉ md.1 ∧ t ∉ md.2.map (fun p => p.1)) ∧ (∀ q, q ∈ F → ¬ MD md q.1 q.2)
def KP (T : List Nat) (F : List (Nat × Nat)) (al : Al) (iv : Iv) (rv : Rv) (iv' : Iv) (rv' : Rv) : Prop := ∀ t i k, i < al.1 t → inR T F t k → iv' t i k = iv t i k ∧ rv' t i k = rv t i k
theorem RC.no {T : List Nat} {F : List (Nat × Nat)} {md : Mo} (h : RC T F md) {t k : Nat} (q : inR T F t k) : ¬ MD md t k := q.elim (fun z => MD.no (h.1 t z)) (fun z => h.2 _ z)
theorem KP.two {T : List Nat} {F : List (Nat × Nat)} {al al1 : Al} {iv iv1 iv2 : Iv} {rv rv1 rv2 : Rv} {m1 m2 : Mo} (x1 : EX m1 al iv rv al1 iv1 rv1) (f2 : FR m2 iv1 iv2) (g2 : FR m2 rv1 rv2) (h1 : RC T F m1) (h2 : RC T F m2) : KP T F al iv rv iv2 rv2 := fun t i k hi q => by
  rw [f2 t i k (h2.no q), g2 t i k (h2.no q)]; exact x1.2.2 t i k hi (h1.no q)
theorem KP.fr {T : List Nat} {F : List (Nat × Nat)} {al : Al} {iv iv' : Iv} {rv rv' : Rv} {m : Mo} (f : FR m iv iv') (g : FR m rv rv') (h : RC T F m) : KP T F al iv rv iv' rv' := fun t i k _ q => ⟨f t i k (h.no q), g t i k (h.no q)⟩
theorem KP.ex {T : List Nat} {F : List (Nat × Nat)} {al al1 : Al} {iv iv' : Iv} {rv rv' : Rv} {m : Mo} (x : EX m al iv rv al1 iv' rv') (h : RC T F m) : KP T F al iv rv iv' rv' := fun t i k hi q => x.2.2 t i k hi (h.no q)
def Cset (iv : Iv) (rv : Rv) : Prop := ∀ k : Nat, k < 4 → iv 15 0 k = iv 50 0 k
abbrev T_Cset : List Nat := [15, 50]
abbrev F_Cset : List (Nat × Nat) := []
theorem Cset.keep {al : Al} {iv iv' : Iv} {rv rv' : Rv} (h : Cset iv rv) (hG : GI al iv rv) (e : KP T_Cset F_Cset al iv rv iv' rv') : Cset iv' rv' := by
  intro k hk
  rw [(e 15 0 k (h1_15 hG) (Or.inl (by decide))).1, (e 50 0 k (h1_50 hG) (Or.inl (by decide))).1]; exact h k hk
def Clegn (iv : Iv) (rv : Rv) : Prop := iv 0 0 6 = iv 57 0 1
abbrev T_Clegn : List Nat := []
abbrev F_Clegn : List (Nat × Nat) := [(0, 6), (57, 1)]
theorem Clegn.keep {al : Al} {iv iv' : Iv} {rv rv' : Rv} (h : Clegn iv rv) (hG : GI al iv rv) (e : KP T_Clegn F_Clegn al iv rv iv' rv') : Clegn iv' rv' := by
  unfold Clegn
  rw [(e 0 0 6 (h1_0 hG) (Or.inr (by decide))).1, (e 57 0 1 (h1_57 hG) (Or.inr (by decide))).1]; exact h
theorem two_cases {S : Int32} {A K B L : Prop} (p1 : (S = 0 ∧ A) ∨ (S ≠ 0 ∧ K)) (p2 : (S = 0 ∧ B) ∨ (S ≠ 0 ∧ L)) : (S = 0 ∧ A ∧ B) ∨ (S ≠ 0 ∧ K ∧ L) := by
  rcases p1 with ⟨o1, a⟩ | ⟨o1, a⟩ <;> rcases p2 with ⟨o2, b⟩ | ⟨o2, b⟩
  · exact Or.inl ⟨o1, a, b⟩
  · exact absurd o1 o2
  · exact absurd o2 o1
  · exact Or.inr ⟨o1, a, b⟩
theorem legIv_v {iv : Iv} {n : Nat} {num pl cr lv_ ar siz : Int32} : legIv iv n num pl cr lv_ ar siz 62 n 0 = num ∧ legIv iv n num pl cr lv_ ar siz 62 n 3 = pl ∧ legIv iv n num pl cr lv_ ar siz 62 n 4 = cr ∧ legIv iv n num pl cr lv_ ar siz 62 n 5 = lv_ ∧ legIv iv n num pl cr lv_ ar siz 62 n 6 = ar := by
  refine ⟨?_, ?_, ?_, ?_, ?_⟩ <;> simp [legIv, up3]
theorem legIv_blank {iv : Iv} {n : Nat} {num pl cr lv_ ar siz : Int32} {k : Nat} (h : 7 ≤ k) : legIv iv n num pl cr lv_ ar siz 62 n k = 0 := by
  unfold legIv
  rw [up3_ne (fun z => absurd z.1 (by decide)), up3_ne (fun z => by have := z.2.2; omega), up3_ne (fun z => by have := z.2.2; omega), up3_ne (fun z => by have := z.2.2; omega), up3_ne (fun z => by have := z.2.2; omega), up3_ne (fun z => by have := z.2.2; omega), clr_self]
theorem legRv_v {rv : Rv} {n pf pt_ : Nat} : legRv rv n pf pt_ 62 n 1 = some pf ∧ legRv rv n pf pt_ 62 n 2 = some pt_ := by
  refine ⟨?_, ?_⟩ <;> simp [legRv, up3]
def lfk (iv : Iv) (rv : Rv) (k : Nat) : Prop := rv 62 k 1 = some (iv 5 0 k).toNatClampNeg ∧ rv 62 k 2 = some (iv 6 0 k).toNatClampNeg ∧ iv 7 0 k = iv 62 k 3 ∧ iv 8 0 k = iv 62 k 4 ∧ iv 9 0 k = iv 62 k 5 ∧ iv 10 0 k = iv 62 k 6 ∧ (iv 62 k 0).toInt = k
theorem lfk_cong {iv iv' : Iv} {rv rv' : Rv} {k : Nat} (h : lfk iv rv k) (hm : ∀ t, 5 ≤ t → t ≤ 10 → iv' t 0 k = iv t 0 k) (hx : ∀ f, f ≤ 6 → iv' 62 k f = iv 62 k f) (hr : ∀ f, 1 ≤ f → f ≤ 2 → rv' 62 k f = rv 62 k f) : lfk iv' rv' k := by
  unfold lfk
  rw [hm 5 (by decide) (by decide), hm 6 (by decide) (by decide), hm 7 (by decide) (by decide), hm 8 (by decide) (by decide), hm 9 (by decide) (by decide), hm 10 (by decide) (by decide), hx 0 (by decide), hx 3 (by decide), hx 4 (by decide), hx 5 (by decide), hx 6 (by decide), hr 1 (by decide) (by decide), hr 2 (by decide) (by decide)]
  exact h
def Clegf (iv : Iv) (rv : Rv) : Prop := ∀ k : Nat, (k : Int) < (iv 57 0 1).toInt → lfk iv rv k
abbrev T_Clegf : List Nat := [5, 6, 7, 8, 9, 10]
abbrev F_Clegf : List (Nat × Nat) := [(57, 1), (62, 0), (62, 1), (62, 2), (62, 3), (62, 4), (62, 5), (62, 6)]
theorem Clegf.keep {al : Al} {iv iv' : Iv} {rv rv' : Rv} (h : Clegf iv rv) (hG : GI al iv rv) (e : KP T_Clegf F_Clegf al iv rv iv' rv') : Clegf iv' rv' := by
  intro k hk
  rw [(e 57 0 1 (h1_57 hG) (Or.inr (by decide))).1] at hk
  have i : k < al.1 62 := by have := hG.2.2.2.1.2; omega
  refine lfk_cong (h k hk) (fun t h1 h2 => ?_) (fun f hf => ?_) (fun f h1 h2 => ?_)
  · exact (e t 0 k (by rw [hG.2.2.1.1 t ((by decide : ∀ t, t ≤ 10 → t ∈ sng) t h2)]; decide) (Or.inl ((by decide : ∀ t, t ≤ 10 → 5 ≤ t → t ∈ T_Clegf) t h2 h1))).1
  · exact (e 62 k f i (Or.inr ((by decide : ∀ f, f ≤ 6 → (62, f) ∈ F_Clegf) f hf))).1
  · exact (e 62 k f i (Or.inr ((by decide : ∀ f, f ≤ 6 → (62, f) ∈ F_Clegf) f (by omega)))).2
def BA (iv : Iv) (rv : Rv) : Prop := Clegn iv rv ∧ Clegf iv rv ∧ Cset iv rv
theorem lf_k {al : Al} {iv : Iv} {rv : Rv} (hG : GI al iv rv) (hf : Clegf iv rv) {k : Nat} (hk : k < al.1 62) : lfk iv rv k := hf k (by rw [hG.2.2.2.1.2]; omega)
theorem lf_i {al : Al} {iv : Iv} {rv : Rv} (hG : GI al iv rv) (hf : Clegf iv rv) {k : Nat} (hk : k < al.1 62) : (iv 7 0 k).toInt = (iv 62 k 3).toInt ∧ (iv 8 0 k).toInt = (iv 62 k 4).toInt ∧ (iv 9 0 k).toInt = (iv 62 k 5).toInt ∧ (iv 10 0 k).toInt = (iv 62 k 6).toInt := by
  obtain ⟨-, -, a, b, c, d, -⟩ := lf_k hG hf hk
  rw [a, b, c, d]; exact ⟨rfl, rfl, rfl, rfl⟩
theorem lf_j {al : Al} {iv : Iv} {rv : Rv} (hG : GI al iv rv) (hf : Clegf iv rv) {j n : Nat} (hk : j < al.1 62) (hj : j = n) : ((iv 7 0 n).toInt = (iv 62 j 3).toInt ∧ (iv 8 0 n).toInt = (iv 62 j 4).toInt ∧ (iv 9 0 n).toInt = (iv 62 j 5).toInt ∧ (iv 10 0 n).toInt = (iv 62 j 6).toInt) ∧ (0 ≤ (iv 62 j 6).toInt ∧ (iv 62 j 6).toInt ≤ 20000) := by
  subst hj
  exact ⟨lf_i hG hf hk, hG.1 62 j 6 hk (by decide)⟩
theorem lf_lv {al : Al} {iv : Iv} {rv : Rv} (hG : GI al iv rv) (hf : Clegf iv rv) {k : Nat} (hk : k < al.1 62) : iv 62 k 5 = iv 9 0 k := (lf_k hG hf hk).2.2.2.2.1.symm
theorem rng5 {al : Al} {iv : Iv} {rv : Rv} (hG : GI al iv rv) {k : Nat} (hk : k < 40) : (0 ≤ (iv 5 0 k).toInt ∧ (iv 5 0 k).toInt ≤ 9) ∧ (0 ≤ (iv 6 0 k).toInt ∧ (iv 6 0 k).toInt ≤ 9) := ⟨hG.1 5 0 k (h1_5 hG) hk, hG.1 6 0 k (h1_6 hG) hk⟩
theorem al62 {al : Al} {iv : Iv} {rv : Rv} (hG : GI al iv rv) : al.1 62 ≤ 40 := by
  have a := hG.2.2.2.1.2
  have b : (iv 57 0 1).toInt ≤ 40 := (hG.1 57 0 1 (h1_57 hG) (by decide)).2
  omega
theorem lf_to {al : Al} {iv : Iv} {rv : Rv} (hG : GI al iv rv) (hf : Clegf iv rv) {j n p : Nat} (hk : j < al.1 62) (hj : j = n) (e : rv 62 j 2 = some p) : (p : Int) = (iv 6 0 n).toInt := by
  subst hj
  have a := (lf_k hG hf hk).2.1
  have b := Option.some.inj (e.symm.trans a)
  have c := rng5 hG (Nat.lt_of_lt_of_le hk (al62 hG))
  rw [b, ix_nat c.2.1]
theorem lf_fr {al : Al} {iv : Iv} {rv : Rv} (hG : GI al iv rv) (hf : Clegf iv rv) {j p : Nat} (hk : j < al.1 62) (e : rv 62 j 1 = some p) : (p : Int) = (iv 5 0 j).toInt := by
  have a := (lf_k hG hf hk).1
  have b := Option.some.inj (e.symm.trans a)
  have c := rng5 hG (Nat.lt_of_lt_of_le hk (al62 hG))
  rw [b, ix_nat c.1.1]
theorem lf_b {al : Al} {iv : Iv} {rv : Rv} (hG : GI al iv rv) (hf : Clegf iv rv) {j : Nat} {x : Int32} (hk : j < al.1 62) (h : x.toNatClampNeg = j) : (iv 10 0 x.toNatClampNeg).toInt = (iv 62 j 6).toInt := by rw [h]; exact (lf_i hG hf hk).2.2.2
theorem ahx_0 {iv : Iv} {li : Nat} {crew : Int32} : none = oI (ahN iv li crew (0 : Int32).toNatClampNeg) := by
  rw [show (0 : Int32).toNatClampNeg = 0 from by decide]; rfl
theorem ahx_up {iv : Iv} {li : Nat} {crew x y : Int32} {r : Option Nat} (h : y.toInt = x.toInt + 1) (h0 : 0 ≤ x.toInt) (i : r = oI (ahStep iv li crew (ahN iv li crew x.toNatClampNeg) x.toNatClampNeg)) : r = oI (ahN iv li crew y.toNatClampNeg) := by
  rw [clamp_s h h0, i]; rfl
theorem ahx_no {iv : Iv} {li n : Nat} {crew : Int32} {r : Option Nat} (h : r = oI (ahN iv li crew n)) (hc : ¬ (((((¬ crew.toInt = 0) ∧ (iv 8 0 n).toInt = (iv 8 0 li).toInt) ∨ (crew.toInt = 0 ∧ (iv 7 0 n).toInt = (iv 7 0 li).toInt)) ∧ (iv 6 0 n).toInt = (iv 5 0 li).toInt ∧ (iv 10 0 n).toInt + (rsF iv crew).toInt ≤ (iv 9 0 li).toInt) ∧ ((ahN iv li crew n).toInt < 0 ∨ (iv 10 0 (ahN iv li crew n).toNatClampNeg).toInt ≤ (iv 10 0 n).toInt))) : r = oI (ahStep iv li crew (ahN iv li crew n) n) := by
  unfold ahStep; rw [if_neg hc]; exact h
theorem ahx_yes {al : Al} {iv : Iv} {rv : Rv} (hG : GI al iv rv) (hf : Clegf iv rv) {r : Option Nat} {li j n : Nat} {crew : Int32} (hr : ∀ q, r = some q → q < al.1 62) (h : r = oI (ahN iv li crew n)) (hb : ∀ q : Nat, r = some q → (iv 62 q 6).toInt ≤ (iv 62 j 6).toInt) (hj : j = n) (hl : n < al.1 62)
    (hs : (((¬ crew.toInt = 0) ∧ (iv 8 0 n).toInt = (iv 8 0 li).toInt) ∨ (crew.toInt = 0 ∧ (iv 7 0 n).toInt = (iv 7 0 li).toInt)) ∧ (iv 6 0 n).toInt = (iv 5 0 li).toInt ∧ (iv 10 0 n).toInt + (rsF iv crew).toInt ≤ (iv 9 0 li).toInt) : some j = oI (ahStep iv li crew (ahN iv li crew n) n) := by
  subst hj
  have hb2 : (ahN iv li crew j).toInt < 0 ∨ (iv 10 0 (ahN iv li crew j).toNatClampNeg).toInt ≤ (iv 10 0 j).toInt := by
    by_cases q : (ahN iv li crew j).toInt < 0
    · exact Or.inl q
    · have e : r = some (ahN iv li crew j).toNatClampNeg := by rw [h]; unfold oI; rw [if_neg q]
      have a := hb _ e
      rw [(lf_i hG hf (hr _ e)).2.2.2, (lf_i hG hf hl).2.2.2]
      exact Or.inr a
  have l40 := al62 hG
  unfold ahStep
  rw [if_pos ⟨hs, hb2⟩]
  unfold oI
  rw [nI_toInt (by omega), if_neg (by omega), nI_clamp (by omega)]
theorem ah_num {al : Al} {iv : Iv} {rv : Rv} (hG : GI al iv rv) (hf : Clegf iv rv) {j : Nat} {x y : Int32} (hj : j < al.1 62) (e : x = iv 62 j 0) (h : 0 ≤ y.toInt ∧ y.toNatClampNeg = j) : x = y := by
  have a := (lf_k hG hf hj).2.2.2.2.2.2
  have b := ix_nat h.1
  exact (fa_eq _ _).mpr (by rw [e]; omega)
