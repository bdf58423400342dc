def inR (T : List Nat) (F : List (Nat × Nat)) (t k : Nat) : Prop := t ∈ T ∨ (t, k) ∈ F
abbrev RC (T : List Nat) (F : List (Nat × Nat)) (md : Mo) : Prop := (∀ t, t ∈ T → t ∉ md.1 ∧ t ∉ md.2.map (fun p => p.1)) ∧ (∀ q, q ∈ F → ¬ MD md q.1 q.2)
def KP (T : List Nat) (F : List (Nat × Nat)) (al : Al) (iv : Iv) (rv : Rv) (iv' : Iv) (rv' : Rv) : Prop := ∀ t i k, i < al.1 t → inR T F t k → iv' t i k = iv t i k ∧ rv' t i k = rv t i k
theorem RC.no {T : List Nat} {F : List (Nat × Nat)} {md : Mo} (h : RC T F md) {t k : Nat} (q : inR T F t k) : ¬ MD md t k := q.elim (fun z => MD.no (h.1 t z)) (fun z => h.2 _ z)
theorem KP.two {T : List Nat} {F : List (Nat × Nat)} {al al1 : Al} {iv iv1 iv2 : Iv} {rv rv1 rv2 : Rv} {m1 m2 : Mo} (x1 : EX m1 al iv rv al1 iv1 rv1) (f2 : FR m2 iv1 iv2) (g2 : FR m2 rv1 rv2) (h1 : RC T F m1) (h2 : RC T F m2) : KP T F al iv rv iv2 rv2 := fun t i k hi q => by
  rw [f2 t i k (h2.no q), g2 t i k (h2.no q)]; exact x1.2.2 t i k hi (h1.no q)
theorem KP.fr {T : List Nat} {F : List (Nat × Nat)} {al : Al} {iv iv' : Iv} {rv rv' : Rv} {m : Mo} (f : FR m iv iv') (g : FR m rv rv') (h : RC T F m) : KP T F al iv rv iv' rv' := fun t i k _ q => ⟨f t i k (h.no q), g t i k (h.no q)⟩
theorem KP.ex {T : List Nat} {F : List (Nat × Nat)} {al al1 : Al} {iv iv' : Iv} {rv rv' : Rv} {m : Mo} (x : EX m al iv rv al1 iv' rv') (h : RC T F m) : KP T F al iv rv iv' rv' := fun t i k hi q => x.2.2 t i k hi (h.no q)
theorem two_cases {S : Int32} {A K B L : Prop} (p1 : (S = 0 ∧ A) ∨ (S ≠ 0 ∧ K)) (p2 : (S = 0 ∧ B) ∨ (S ≠ 0 ∧ L)) : (S = 0 ∧ A ∧ B) ∨ (S ≠ 0 ∧ K ∧ L) := by
  rcases p1 with ⟨o1, a⟩ | ⟨o1, a⟩ <;> rcases p2 with ⟨o2, b⟩ | ⟨o2, b⟩
  · exact Or.inl ⟨o1, a, b⟩
  · exact absurd o1 o2
  · exact absurd o2 o1
  · exact Or.inr ⟨o1, a, b⟩
theorem legIv_v {iv : Iv} {n : Nat} {num pl cr lv_ ar siz : Int32} : legIv iv n num pl cr lv_ ar siz 62 n 0 = num ∧ legIv iv n num pl cr lv_ ar siz 62 n 3 = pl ∧ legIv iv n num pl cr lv_ ar siz 62 n 4 = cr ∧ legIv iv n num pl cr lv_ ar siz 62 n 5 = lv_ ∧ legIv iv n num pl cr lv_ ar siz 62 n 6 = ar := by
  refine ⟨?_, ?_, ?_, ?_, ?_⟩ <;> simp [legIv, up3]
theorem legIv_blank {iv : Iv} {n : Nat} {num pl cr lv_ ar siz : Int32} {k : Nat} (h : 7 ≤ k) : legIv iv n num pl cr lv_ ar siz 62 n k = 0 := by
  unfold legIv
  rw [up3_ne (fun z => absurd z.1 (by decide)), up3_ne (fun z => by have := z.2.2; omega), up3_ne (fun z => by have := z.2.2; omega), up3_ne (fun z => by have := z.2.2; omega), up3_ne (fun z => by have := z.2.2; omega), up3_ne (fun z => by have := z.2.2; omega), clr_self]
theorem legRv_v {rv : Rv} {n pf pt_ : Nat} : legRv rv n pf pt_ 62 n 1 = some pf ∧ legRv rv n pf pt_ 62 n 2 = some pt_ := by
  refine ⟨?_, ?_⟩ <;> simp [legRv, up3]
def Cport (iv : Iv) (rv : Rv) : Prop := ∀ k : Nat, k < 10 → iv 3 0 k = iv 56 k 2 ∧ iv 4 0 k = iv 56 k 3
abbrev T_Cport : List Nat := [3, 4]
abbrev F_Cport : List (Nat × Nat) := [(56, 2), (56, 3)]
theorem Cport.keep {al : Al} {iv iv' : Iv} {rv rv' : Rv} (h : Cport iv rv) (hG : GI al iv rv) (e : KP T_Cport F_Cport al iv rv iv' rv') : Cport iv' rv' := by
  intro k hk
  have i6 : k < al.1 56 := by rw [hG.2.2.1.2.1]; exact hk
  rw [(e 3 0 k (h1_3 hG) (Or.inl (by decide))).1, (e 4 0 k (h1_4 hG) (Or.inl (by decide))).1, (e 56 k 2 i6 (Or.inr (by decide))).1, (e 56 k 3 i6 (Or.inr (by decide))).1]; exact h k hk
theorem spSeen_ok {a b v : Int32} (h : spSeen a b v = 0) : a.toNatClampNeg < 10 ∧ b.toNatClampNeg < 10 := by
  unfold spSeen at h
  by_cases q : ¬ ((0 ≤ a.toInt ∧ a.toInt ≤ 9) ∧ (0 ≤ b.toInt ∧ b.toInt ≤ 9) ∧ ¬ a.toInt = b.toInt)
  · rw [if_pos q] at h; exact absurd h (by decide)
  · rw [clamp_n, clamp_n]; omega
theorem seL_cong {L M : Nat → Int32} {a b k : Nat} (ha : L a = M a) (hb : L b = M b) (hk : L k = M k) : seL L a b k = seL M a b k := by unfold seL; rw [ha, hb, hk]
theorem seO_cong {L M O P : Nat → Int32} {a b k : Nat} {v : Int32} (ha : L a = M a) (hb : L b = M b) (hk : L k = M k) (oa : O a = P a) (ob : O b = P b) (ok : O k = P k) : seO L O a b v k = seO M P a b v k := by unfold seO; rw [ha, hb, hk, oa, ob, ok]
theorem port_s {iv iv1 iv2 : Iv} {rv rv2 : Rv} {a b by_ r1 r2 : Int32} {C1 C2 : Prop} (h : Cport iv rv)
    (p1 : (spSeen a b by_ = 0 ∧ tkP iv iv1 a.toNatClampNeg b.toNatClampNeg by_ r1 ∧ C1) ∨ (spSeen a b by_ ≠ 0 ∧ r1 = spSeen a b by_ ∧ (∀ k : Nat, iv1 56 k 2 = iv 56 k 2 ∧ iv1 56 k 3 = iv 56 k 3) ∧ C2))
    (p2 : (spSeen a b by_ = 0 ∧ tkM iv1 iv2 a.toNatClampNeg b.toNatClampNeg by_ r2) ∨ (spSeen a b by_ ≠ 0 ∧ r2 = spSeen a b by_ ∧ ∀ k : Nat, iv2 3 0 k = iv1 3 0 k ∧ iv2 4 0 k = iv1 4 0 k))
    (m3 : ∀ k, iv1 3 0 k = iv 3 0 k) (m4 : ∀ k, iv1 4 0 k = iv 4 0 k) (m6 : ∀ k, iv2 56 k 2 = iv1 56 k 2 ∧ iv2 56 k 3 = iv1 56 k 3) : Cport iv2 rv2 := by
  intro k hk
  rw [(m6 k).1, (m6 k).2]
  rcases p1 with ⟨o1, w1, -⟩ | ⟨o1, -, w1, -⟩ <;> rcases p2 with ⟨o2, w2⟩ | ⟨o2, -, w2⟩
  · obtain ⟨la, lb⟩ := spSeen_ok o1
    have ea := h _ la
    have eb := h _ lb
    have ek := h k hk
    rcases w1 with ⟨c1, -, w1⟩ | ⟨c1, -, w1⟩ <;> rcases w2 with ⟨c2, -, w2⟩ | ⟨c2, -, w2⟩
    · rw [(w2 k).1, (w2 k).2, (w1 k).1, (w1 k).2, m3, m4]; exact ek
    · rw [m3, m3, ea.1, eb.1] at c2; exact absurd c1 c2
    · rw [m3, m3, ea.1, eb.1] at c2; exact absurd c2 c1
    · rw [(w2 k hk).1, (w2 k hk).2, (w1 k hk).1, (w1 k hk).2]
      simp only [m3, m4]
      exact ⟨seL_cong ea.1 eb.1 ek.1, seO_cong ea.1 eb.1 ek.1 ea.2 eb.2 ek.2⟩
  · exact absurd o1 o2
  · exact absurd o2 o1
  · rw [(w2 k).1, (w2 k).2, (w1 k).1, (w1 k).2, m3, m4]; exact h k hk
theorem seen_ans {iv iv1 iv2 : Iv} {rv : Rv} {a b by_ r1 r2 : Int32} {C1 C2 K : Prop} (h : Cport iv rv)
    (p1 : (spSeen a b by_ = 0 ∧ tkP iv iv1 a.toNatClampNeg b.toNatClampNeg by_ r1 ∧ C1) ∨ (spSeen a b by_ ≠ 0 ∧ r1 = spSeen a b by_ ∧ C2))
    (p2 : (spSeen a b by_ = 0 ∧ tkM iv1 iv2 a.toNatClampNeg b.toNatClampNeg by_ r2) ∨ (spSeen a b by_ ≠ 0 ∧ r2 = spSeen a b by_ ∧ K))
    (m3 : ∀ k, iv1 3 0 k = iv 3 0 k) (m4 : ∀ k, iv1 4 0 k = iv 4 0 k) : r1 = r2 := by
  rcases p1 with ⟨o1, w1, -⟩ | ⟨o1, w1, -⟩ <;> rcases p2 with ⟨o2, w2⟩ | ⟨o2, w2, -⟩
  · obtain ⟨la, lb⟩ := spSeen_ok o1
    have ea := h _ la
    have eb := h _ lb
    refine (fa_eq _ _).mpr ?_
    rcases w1 with ⟨c1, q1, -⟩ | ⟨c1, q1, -⟩ <;> rcases w2 with ⟨c2, q2, -⟩ | ⟨c2, q2, -⟩
    · rw [q1, q2, m4, m4, ea.2, eb.2]
    · rw [m3, m3, ea.1, eb.1] at c2; exact absurd c1 c2
    · rw [m3, m3, ea.1, eb.1] at c2; exact absurd c2 c1
    · rw [q1, q2]
  · exact absurd o1 o2
  · exact absurd o2 o1
  · rw [w1, w2]
theorem spSeen_v {a b v : Int32} (h : spSeen a b v = 0) : -600 ≤ v.toInt ∧ v.toInt ≤ 600 := by
  unfold spSeen at h
  by_cases q : ¬ ((0 ≤ a.toInt ∧ a.toInt ≤ 9) ∧ (0 ≤ b.toInt ∧ b.toInt ≤ 9) ∧ ¬ a.toInt = b.toInt)
  · rw [if_pos q] at h; exact absurd h (by decide)
  · rw [if_neg q] at h
    by_cases q2 : v.toInt < -600
    · rw [if_pos q2] at h; exact absurd h (by decide)
    · rw [if_neg q2] at h
      by_cases q3 : 600 < v.toInt
      · rw [if_pos q3] at h; exact absurd h (by decide)
      · omega
