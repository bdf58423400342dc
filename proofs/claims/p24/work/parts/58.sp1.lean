def inR (T : List Nat) (F : List (Nat × Nat)) (t k : Nat) : Prop := t ∈ T ∨ (t, k) ∈ F
abbrev RC (T : List Nat) (F : List (Nat × Nat)) (md : Mo) : Prop := (∀ t, t ∈ T → t ∉ md.1 ∧ t ∉ md.2.map (fun p => p.1)) ∧ (∀ q, q ∈ F → ¬ MD md q.1 q.2)
def KP (T : List Nat) (F : List (Nat × Nat)) (al : Al) (iv : Iv) (rv : Rv) (iv' : Iv) (rv' : Rv) : Prop := ∀ t i k, i < al.1 t → inR T F t k → iv' t i k = iv t i k ∧ rv' t i k = rv t i k
theorem RC.no {T : List Nat} {F : List (Nat × Nat)} {md : Mo} (h : RC T F md) {t k : Nat} (q : inR T F t k) : ¬ MD md t k := q.elim (fun z => MD.no (h.1 t z)) (fun z => h.2 _ z)
theorem KP.two {T : List Nat} {F : List (Nat × Nat)} {al al1 : Al} {iv iv1 iv2 : Iv} {rv rv1 rv2 : Rv} {m1 m2 : Mo} (x1 : EX m1 al iv rv al1 iv1 rv1) (f2 : FR m2 iv1 iv2) (g2 : FR m2 rv1 rv2) (h1 : RC T F m1) (h2 : RC T F m2) : KP T F al iv rv iv2 rv2 := fun t i k hi q => by
  rw [f2 t i k (h2.no q), g2 t i k (h2.no q)]; exact x1.2.2 t i k hi (h1.no q)
theorem KP.fr {T : List Nat} {F : List (Nat × Nat)} {al : Al} {iv iv' : Iv} {rv rv' : Rv} {m : Mo} (f : FR m iv iv') (g : FR m rv rv') (h : RC T F m) : KP T F al iv rv iv' rv' := fun t i k _ q => ⟨f t i k (h.no q), g t i k (h.no q)⟩
theorem KP.ex {T : List Nat} {F : List (Nat × Nat)} {al al1 : Al} {iv iv' : Iv} {rv rv' : Rv} {m : Mo} (x : EX m al iv rv al1 iv' rv') (h : RC T F m) : KP T F al iv rv iv' rv' := fun t i k hi q => x.2.2 t i k hi (h.no q)
theorem two_cases {S : Int32} {A K B L : Prop} (p1 : (S = 0 ∧ A) ∨ (S ≠ 0 ∧ K)) (p2 : (S = 0 ∧ B) ∨ (S ≠ 0 ∧ L)) : (S = 0 ∧ A ∧ B) ∨ (S ≠ 0 ∧ K ∧ L) := by
  rcases p1 with ⟨o1, a⟩ | ⟨o1, a⟩ <;> rcases p2 with ⟨o2, b⟩ | ⟨o2, b⟩
  · exact Or.inl ⟨o1, a, b⟩
  · exact absurd o1 o2
  · exact absurd o2 o1
  · exact Or.inr ⟨o1, a, b⟩
theorem legIv_v {iv : Iv} {n : Nat} {num pl cr lv_ ar siz : Int32} : legIv iv n num pl cr lv_ ar siz 62 n 0 = num ∧ legIv iv n num pl cr lv_ ar siz 62 n 3 = pl ∧ legIv iv n num pl cr lv_ ar siz 62 n 4 = cr ∧ legIv iv n num pl cr lv_ ar siz 62 n 5 = lv_ ∧ legIv iv n num pl cr lv_ ar siz 62 n 6 = ar := by
  refine ⟨?_, ?_, ?_, ?_, ?_⟩ <;> simp [legIv, up3]
theorem legIv_blank {iv : Iv} {n : Nat} {num pl cr lv_ ar siz : Int32} {k : Nat} (h : 7 ≤ k) : legIv iv n num pl cr lv_ ar siz 62 n k = 0 := by
  unfold legIv
  rw [up3_ne (fun z => absurd z.1 (by decide)), up3_ne (fun z => by have := z.2.2; omega), up3_ne (fun z => by have := z.2.2; omega), up3_ne (fun z => by have := z.2.2; omega), up3_ne (fun z => by have := z.2.2; omega), up3_ne (fun z => by have := z.2.2; omega), clr_self]
theorem legRv_v {rv : Rv} {n pf pt_ : Nat} : legRv rv n pf pt_ 62 n 1 = some pf ∧ legRv rv n pf pt_ 62 n 2 = some pt_ := by
  refine ⟨?_, ?_⟩ <;> simp [legRv, up3]
def Cbar (iv : Iv) (rv : Rv) : Prop := ∀ k : Nat, k < 4 → iv 31 0 k = iv 80 0 k
abbrev T_Cbar : List Nat := [31, 80]
abbrev F_Cbar : List (Nat × Nat) := []
theorem Cbar.keep {al : Al} {iv iv' : Iv} {rv rv' : Rv} (h : Cbar iv rv) (hG : GI al iv rv) (e : KP T_Cbar F_Cbar al iv rv iv' rv') : Cbar iv' rv' := by
  intro k hk
  rw [(e 31 0 k (h1_31 hG) (Or.inl (by decide))).1, (e 80 0 k (h1_80 hG) (Or.inl (by decide))).1]; exact h k hk
