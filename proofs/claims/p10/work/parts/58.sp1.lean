def inR (T : List Nat) (F : List (Nat × Nat)) (t k : Nat) : Prop := t ∈ T ∨ (t, k) ∈ F
abbrev RC (T : List Nat) (F : List (Nat × Nat)) (md : Mo) : Prop := (∀ t, t ∈ T → t ∉ md.1 ∧ t ∉ md.2.map (fun p => p.1)) ∧ (∀ q, q ∈ F → ¬ MD md q.1 q.2)
def KP (T : List Nat) (F : List (Nat × Nat)) (al : Al) (iv : Iv) (rv : Rv) (iv' : Iv) (rv' : Rv) : Prop := ∀ t i k, i < al.1 t → inR T F t k → iv' t i k = iv t i k ∧ rv' t i k = rv t i k
theorem RC.no {T : List Nat} {F : List (Nat × Nat)} {md : Mo} (h : RC T F md) {t k : Nat} (q : inR T F t k) : ¬ MD md t k := q.elim (fun z => MD.no (h.1 t z)) (fun z => h.2 _ z)
theorem KP.two {T : List Nat} {F : List (Nat × Nat)} {al al1 : Al} {iv iv1 iv2 : Iv} {rv rv1 rv2 : Rv} {m1 m2 : Mo} (x1 : EX m1 al iv rv al1 iv1 rv1) (f2 : FR m2 iv1 iv2) (g2 : FR m2 rv1 rv2) (h1 : RC T F m1) (h2 : RC T F m2) : KP T F al iv rv iv2 rv2 := fun t i k hi q => by
  rw [f2 t i k (h2.no q), g2 t i k (h2.no q)]; exact x1.2.2 t i k hi (h1.no q)
theorem KP.fr {T : List Nat} {F : List (Nat × Nat)} {al : Al} {iv iv' : Iv} {rv rv' : Rv} {m : Mo} (f : FR m iv iv') (g : FR m rv rv') (h : RC T F m) : KP T F al iv rv iv' rv' := fun t i k _ q => ⟨f t i k (h.no q), g t i k (h.no q)⟩
theorem KP.ex {T : List Nat} {F : List (Nat × Nat)} {al al1 : Al} {iv iv' : Iv} {rv rv' : Rv} {m : Mo} (x : EX m al iv rv al1 iv' rv') (h : RC T F m) : KP T F al iv rv iv' rv' := fun t i k hi q => x.2.2 t i k hi (h.no q)
def Cset (iv : Iv) (rv : Rv) : Prop := ∀ k : Nat, k < 4 → iv 15 0 k = iv 50 0 k
abbrev T_Cset : List Nat := [15, 50]
abbrev F_Cset : List (Nat × Nat) := []
theorem Cset.keep {al : Al} {iv iv' : Iv} {rv rv' : Rv} (h : Cset iv rv) (hG : GI al iv rv) (e : KP T_Cset F_Cset al iv rv iv' rv') : Cset iv' rv' := by
  intro k hk
  rw [(e 15 0 k (h1_15 hG) (Or.inl (by decide))).1, (e 50 0 k (h1_50 hG) (Or.inl (by decide))).1]; exact h k hk
def Cbar (iv : Iv) (rv : Rv) : Prop := ∀ k : Nat, k < 4 → iv 31 0 k = iv 80 0 k
abbrev T_Cbar : List Nat := [31, 80]
abbrev F_Cbar : List (Nat × Nat) := []
theorem Cbar.keep {al : Al} {iv iv' : Iv} {rv rv' : Rv} (h : Cbar iv rv) (hG : GI al iv rv) (e : KP T_Cbar F_Cbar al iv rv iv' rv') : Cbar iv' rv' := by
  intro k hk
  rw [(e 31 0 k (h1_31 hG) (Or.inl (by decide))).1, (e 80 0 k (h1_80 hG) (Or.inl (by decide))).1]; exact h k hk
def Cport (iv : Iv) (rv : Rv) : Prop := ∀ k : Nat, k < 10 → iv 3 0 k = iv 56 k 2 ∧ iv 4 0 k = iv 56 k 3
abbrev T_Cport : List Nat := [3, 4]
abbrev F_Cport : List (Nat × Nat) := [(56, 2), (56, 3)]
theorem Cport.keep {al : Al} {iv iv' : Iv} {rv rv' : Rv} (h : Cport iv rv) (hG : GI al iv rv) (e : KP T_Cport F_Cport al iv rv iv' rv') : Cport iv' rv' := by
  intro k hk
  have i6 : k < al.1 56 := by rw [hG.2.2.1.2.1]; exact hk
  rw [(e 3 0 k (h1_3 hG) (Or.inl (by decide))).1, (e 4 0 k (h1_4 hG) (Or.inl (by decide))).1, (e 56 k 2 i6 (Or.inr (by decide))).1, (e 56 k 3 i6 (Or.inr (by decide))).1]; exact h k hk
theorem spSeen_ok {a b v : Int32} (h : spSeen a b v = 0) : a.toNatClampNeg < 10 ∧ b.toNatClampNeg < 10 := by
  unfold spSeen at h
  by_cases q : ¬ ((0 ≤ a.toInt ∧ a.toInt ≤ 9) ∧ (0 ≤ b.toInt ∧ b.toInt ≤ 9) ∧ ¬ a.toInt = b.toInt)
  · rw [if_pos q] at h; exact absurd h (by decide)
  · rw [clamp_n, clamp_n]; omega
theorem seL_cong {L M : Nat → Int32} {a b k : Nat} (ha : L a = M a) (hb : L b = M b) (hk : L k = M k) : seL L a b k = seL M a b k := by unfold seL; rw [ha, hb, hk]
theorem seO_cong {L M O P : Nat → Int32} {a b k : Nat} {v : Int32} (ha : L a = M a) (hb : L b = M b) (hk : L k = M k) (oa : O a = P a) (ob : O b = P b) (ok : O k = P k) : seO L O a b v k = seO M P a b v k := by unfold seO; rw [ha, hb, hk, oa, ob, ok]
theorem port_s {iv iv1 iv2 : Iv} {rv rv2 : Rv} {a b by_ r1 r2 : Int32} {C1 C2 : Prop} (h : Cport iv rv)
    (p1 : (spSeen a b by_ = 0 ∧ tkP iv iv1 a.toNatClampNeg b.toNatClampNeg by_ r1 ∧ C1) ∨ (spSeen a b by_ ≠ 0 ∧ r1 = spSeen a b by_ ∧ (∀ k : Nat, iv1 56 k 2 = iv 56 k 2 ∧ iv1 56 k 3 = iv 56 k 3) ∧ C2))
    (p2 : (spSeen a b by_ = 0 ∧ tkM iv1 iv2 a.toNatClampNeg b.toNatClampNeg by_ r2) ∨ (spSeen a b by_ ≠ 0 ∧ r2 = spSeen a b by_ ∧ ∀ k : Nat, iv2 3 0 k = iv1 3 0 k ∧ iv2 4 0 k = iv1 4 0 k))
    (m3 : ∀ k, iv1 3 0 k = iv 3 0 k) (m4 : ∀ k, iv1 4 0 k = iv 4 0 k) (m6 : ∀ k, iv2 56 k 2 = iv1 56 k 2 ∧ iv2 56 k 3 = iv1 56 k 3) : Cport iv2 rv2 := by
  intro k hk
  rw [(m6 k).1, (m6 k).2]
  rcases p1 with ⟨o1, w1, -⟩ | ⟨o1, -, w1, -⟩ <;> rcases p2 with ⟨o2, w2⟩ | ⟨o2, -, w2⟩
  · obtain ⟨la, lb⟩ := spSeen_ok o1
    have ea := h _ la
    have eb := h _ lb
    have ek := h k hk
    rcases w1 with ⟨c1, -, w1⟩ | ⟨c1, -, w1⟩ <;> rcases w2 with ⟨c2, -, w2⟩ | ⟨c2, -, w2⟩
    · rw [(w2 k).1, (w2 k).2, (w1 k).1, (w1 k).2, m3, m4]; exact ek
    · rw [m3, m3, ea.1, eb.1] at c2; exact absurd c1 c2
    · rw [m3, m3, ea.1, eb.1] at c2; exact absurd c2 c1
    · rw [(w2 k hk).1, (w2 k hk).2, (w1 k hk).1, (w1 k hk).2]
      simp only [m3, m4]
      exact ⟨seL_cong ea.1 eb.1 ek.1, seO_cong ea.1 eb.1 ek.1 ea.2 eb.2 ek.2⟩
  · exact absurd o1 o2
  · exact absurd o2 o1
  · rw [(w2 k).1, (w2 k).2, (w1 k).1, (w1 k).2, m3, m4]; exact h k hk
theorem seen_ans {iv iv1 iv2 : Iv} {rv : Rv} {a b by_ r1 r2 : Int32} {C1 C2 K : Prop} (h : Cport iv rv)
    (p1 : (spSeen a b by_ = 0 ∧ tkP iv iv1 a.toNatClampNeg b.toNatClampNeg by_ r1 ∧ C1) ∨ (spSeen a b by_ ≠ 0 ∧ r1 = spSeen a b by_ ∧ C2))
    (p2 : (spSeen a b by_ = 0 ∧ tkM iv1 iv2 a.toNatClampNeg b.toNatClampNeg by_ r2) ∨ (spSeen a b by_ ≠ 0 ∧ r2 = spSeen a b by_ ∧ K))
    (m3 : ∀ k, iv1 3 0 k = iv 3 0 k) (m4 : ∀ k, iv1 4 0 k = iv 4 0 k) : r1 = r2 := by
  rcases p1 with ⟨o1, w1, -⟩ | ⟨o1, w1, -⟩ <;> rcases p2 with ⟨o2, w2⟩ | ⟨o2, w2, -⟩
  · obtain ⟨la, lb⟩ := spSeen_ok o1
    have ea := h _ la
    have eb := h _ lb
    refine (fa_eq _ _).mpr ?_
    rcases w1 with ⟨c1, q1, -⟩ | ⟨c1, q1, -⟩ <;> rcases w2 with ⟨c2, q2, -⟩ | ⟨c2, q2, -⟩
    · rw [q1, q2, m4, m4, ea.2, eb.2]
    · rw [m3, m3, ea.1, eb.1] at c2; exact absurd c1 c2
    · rw [m3, m3, ea.1, eb.1] at c2; exact absurd c2 c1
    · rw [q1, q2]
  · exact absurd o1 o2
  · exact absurd o2 o1
  · rw [w1, w2]
def Clegn (iv : Iv) (rv : Rv) : Prop := iv 0 0 6 = iv 57 0 1
abbrev T_Clegn : List Nat := []
abbrev F_Clegn : List (Nat × Nat) := [(0, 6), (57, 1)]
theorem Clegn.keep {al : Al} {iv iv' : Iv} {rv rv' : Rv} (h : Clegn iv rv) (hG : GI al iv rv) (e : KP T_Clegn F_Clegn al iv rv iv' rv') : Clegn iv' rv' := by
  unfold Clegn
  rw [(e 0 0 6 (h1_0 hG) (Or.inr (by decide))).1, (e 57 0 1 (h1_57 hG) (Or.inr (by decide))).1]; exact h
theorem two_cases {S : Int32} {A K B L : Prop} (p1 : (S = 0 ∧ A) ∨ (S ≠ 0 ∧ K)) (p2 : (S = 0 ∧ B) ∨ (S ≠ 0 ∧ L)) : (S = 0 ∧ A ∧ B) ∨ (S ≠ 0 ∧ K ∧ L) := by
  rcases p1 with ⟨o1, a⟩ | ⟨o1, a⟩ <;> rcases p2 with ⟨o2, b⟩ | ⟨o2, b⟩
  · exact Or.inl ⟨o1, a, b⟩
  · exact absurd o1 o2
  · exact absurd o2 o1
  · exact Or.inr ⟨o1, a, b⟩
theorem legIv_v {iv : Iv} {n : Nat} {num pl cr lv_ ar siz : Int32} : legIv iv n num pl cr lv_ ar siz 62 n 0 = num ∧ legIv iv n num pl cr lv_ ar siz 62 n 3 = pl ∧ legIv iv n num pl cr lv_ ar siz 62 n 4 = cr ∧ legIv iv n num pl cr lv_ ar siz 62 n 5 = lv_ ∧ legIv iv n num pl cr lv_ ar siz 62 n 6 = ar := by
  refine ⟨?_, ?_, ?_, ?_, ?_⟩ <;> simp [legIv, up3]
theorem legIv_blank {iv : Iv} {n : Nat} {num pl cr lv_ ar siz : Int32} {k : Nat} (h : 7 ≤ k) : legIv iv n num pl cr lv_ ar siz 62 n k = 0 := by
  unfold legIv
  rw [up3_ne (fun z => absurd z.1 (by decide)), up3_ne (fun z => by have := z.2.2; omega), up3_ne (fun z => by have := z.2.2; omega), up3_ne (fun z => by have := z.2.2; omega), up3_ne (fun z => by have := z.2.2; omega), up3_ne (fun z => by have := z.2.2; omega), clr_self]
theorem legRv_v {rv : Rv} {n pf pt_ : Nat} : legRv rv n pf pt_ 62 n 1 = some pf ∧ legRv rv n pf pt_ 62 n 2 = some pt_ := by
  refine ⟨?_, ?_⟩ <;> simp [legRv, up3]
def lfk (iv : Iv) (rv : Rv) (k : Nat) : Prop := rv 62 k 1 = some (iv 5 0 k).toNatClampNeg ∧ rv 62 k 2 = some (iv 6 0 k).toNatClampNeg ∧ iv 7 0 k = iv 62 k 3 ∧ iv 8 0 k = iv 62 k 4 ∧ iv 9 0 k = iv 62 k 5 ∧ iv 10 0 k = iv 62 k 6 ∧ (iv 62 k 0).toInt = k
theorem lfk_cong {iv iv' : Iv} {rv rv' : Rv} {k : Nat} (h : lfk iv rv k) (hm : ∀ t, 5 ≤ t → t ≤ 10 → iv' t 0 k = iv t 0 k) (hx : ∀ f, f ≤ 6 → iv' 62 k f = iv 62 k f) (hr : ∀ f, 1 ≤ f → f ≤ 2 → rv' 62 k f = rv 62 k f) : lfk iv' rv' k := by
  unfold lfk
  rw [hm 5 (by decide) (by decide), hm 6 (by decide) (by decide), hm 7 (by decide) (by decide), hm 8 (by decide) (by decide), hm 9 (by decide) (by decide), hm 10 (by decide) (by decide), hx 0 (by decide), hx 3 (by decide), hx 4 (by decide), hx 5 (by decide), hx 6 (by decide), hr 1 (by decide) (by decide), hr 2 (by decide) (by decide)]
  exact h
def Clegf (iv : Iv) (rv : Rv) : Prop := ∀ k : Nat, (k : Int) < (iv 57 0 1).toInt → lfk iv rv k
abbrev T_Clegf : List Nat := [5, 6, 7, 8, 9, 10]
abbrev F_Clegf : List (Nat × Nat) := [(57, 1), (62, 0), (62, 1), (62, 2), (62, 3), (62, 4), (62, 5), (62, 6)]
theorem Clegf.keep {al : Al} {iv iv' : Iv} {rv rv' : Rv} (h : Clegf iv rv) (hG : GI al iv rv) (e : KP T_Clegf F_Clegf al iv rv iv' rv') : Clegf iv' rv' := by
  intro k hk
  rw [(e 57 0 1 (h1_57 hG) (Or.inr (by decide))).1] at hk
  have i : k < al.1 62 := by have := hG.2.2.2.1.2; omega
  refine lfk_cong (h k hk) (fun t h1 h2 => ?_) (fun f hf => ?_) (fun f h1 h2 => ?_)
  · exact (e t 0 k (by rw [hG.2.2.1.1 t ((by decide : ∀ t, t ≤ 10 → t ∈ sng) t h2)]; decide) (Or.inl ((by decide : ∀ t, t ≤ 10 → 5 ≤ t → t ∈ T_Clegf) t h2 h1))).1
  · exact (e 62 k f i (Or.inr ((by decide : ∀ f, f ≤ 6 → (62, f) ∈ F_Clegf) f hf))).1
  · exact (e 62 k f i (Or.inr ((by decide : ∀ f, f ≤ 6 → (62, f) ∈ F_Clegf) f (by omega)))).2
def Clog (iv : Iv) (rv : Rv) : Prop := (∀ k : Nat, (k : Int) < (iv 57 0 1).toInt → iv 11 0 k = iv 62 k 7 ∧ iv 12 0 k = iv 62 k 8 ∧ iv 13 0 k = iv 62 k 9) ∧ (∀ k : Nat, (iv 57 0 1).toInt ≤ k → iv 11 0 k = 0 ∧ iv 12 0 k = 0 ∧ iv 13 0 k = 0)
abbrev T_Clog : List Nat := [11, 12, 13]
abbrev F_Clog : List (Nat × Nat) := [(57, 1), (62, 7), (62, 8), (62, 9)]
theorem Clog.keep {al : Al} {iv iv' : Iv} {rv rv' : Rv} (h : Clog iv rv) (hG : GI al iv rv) (e : KP T_Clog F_Clog al iv rv iv' rv') : Clog iv' rv' := by
  have e1 : ∀ k, iv' 11 0 k = iv 11 0 k ∧ iv' 12 0 k = iv 12 0 k ∧ iv' 13 0 k = iv 13 0 k := fun k => ⟨(e 11 0 k (h1_11 hG) (Or.inl (by decide))).1, (e 12 0 k (h1_12 hG) (Or.inl (by decide))).1, (e 13 0 k (h1_13 hG) (Or.inl (by decide))).1⟩
  have n := hG.2.2.2.1.2
  refine ⟨fun k hk => ?_, fun k hk => ?_⟩
  · rw [(e 57 0 1 (h1_57 hG) (Or.inr (by decide))).1] at hk
    have i : k < al.1 62 := by omega
    rw [(e1 k).1, (e1 k).2.1, (e1 k).2.2, (e 62 k 7 i (Or.inr (by decide))).1, (e 62 k 8 i (Or.inr (by decide))).1, (e 62 k 9 i (Or.inr (by decide))).1]; exact h.1 k hk
  · rw [(e 57 0 1 (h1_57 hG) (Or.inr (by decide))).1] at hk
    rw [(e1 k).1, (e1 k).2.1, (e1 k).2.2]; exact h.2 k hk
theorem spLog_ok {g a b : Int32} {n : Int} (h : spLog g a b n = 0) : 0 ≤ g.toInt ∧ g.toInt < n := by
  unfold spLog at h
  by_cases q : ¬ (0 ≤ g.toInt ∧ g.toInt < n)
  · rw [if_pos q] at h; exact absurd h (by decide)
  · exact ⟨by omega, by omega⟩
theorem crk_c3 {al : Al} {iv iv' : Iv} {rv rv' : Rv} (hG : GI al iv rv) (hf : Clegf iv rv) {k : Nat} (hk : k < al.1 62) (hp : ∀ i, i < al.1 56 → iv' 56 i 3 = iv 56 i 3) (xo : ∀ f, iv' 62 k f = iv 62 k f ∧ rv' 62 k f = rv 62 k f) (c : crk iv rv k) : crk iv' rv' k := by
  obtain ⟨a, b, -⟩ := hf k (by rw [hG.2.2.2.1.2]; omega)
  have h1 := (hG.2.1 62 k 1 56 hk (by decide) rfl).1 _ a
  have h2 := (hG.2.1 62 k 2 56 hk (by decide) rfl).1 _ b
  obtain ⟨c1, c2, c3, c4⟩ := c
  unfold crk xrl xra at *
  rw [(xo 5).1, (xo 6).1, (xo 8).1, (xo 9).1, (xo 10).1, (xo 11).1, (xo 12).1, (xo 13).1, (xo 1).2, (xo 2).2]
  rw [a, b] at *
  simp only [Option.getD_some] at *
  rw [hp _ h1, hp _ h2]
  exact ⟨c1, c2, c3, c4⟩
theorem crk_c2 {al : Al} {iv iv' : Iv} {rv rv' : Rv} (hG : GI al iv rv) {k : Nat} (hk : k < al.1 62) (c : crk iv rv k) (e : KP [] [(57, 1), (56, 3), (62, 1), (62, 2), (62, 5), (62, 6), (62, 7), (62, 8), (62, 9), (62, 10), (62, 11), (62, 12), (62, 13)] al iv rv iv' rv') : crk iv' rv' k := by
  have x : ∀ f, (62, f) ∈ ([(57, 1), (56, 3), (62, 1), (62, 2), (62, 5), (62, 6), (62, 7), (62, 8), (62, 9), (62, 10), (62, 11), (62, 12), (62, 13)] : List (Nat × Nat)) → iv' 62 k f = iv 62 k f ∧ rv' 62 k f = rv 62 k f := fun f q => e 62 k f hk (Or.inr q)
  obtain ⟨p1, q1⟩ := (hG.2.1 62 k 1 56 hk (by decide) rfl).2 rfl
  obtain ⟨p2, q2⟩ := (hG.2.1 62 k 2 56 hk (by decide) rfl).2 rfl
  have h1 := (hG.2.1 62 k 1 56 hk (by decide) rfl).1 _ q1
  have h2 := (hG.2.1 62 k 2 56 hk (by decide) rfl).1 _ q2
  obtain ⟨c1, c2, c3, c4⟩ := c
  unfold crk xrl xra at *
  rw [(x 5 (by decide)).1, (x 6 (by decide)).1, (x 8 (by decide)).1, (x 9 (by decide)).1, (x 10 (by decide)).1, (x 11 (by decide)).1, (x 12 (by decide)).1, (x 13 (by decide)).1, (x 1 (by decide)).2, (x 2 (by decide)).2]
  rw [q1, q2] at *
  simp only [Option.getD_some] at *
  rw [(e 56 p1 3 h1 (Or.inr (by decide))).1, (e 56 p2 3 h2 (Or.inr (by decide))).1]
  exact ⟨c1, c2, c3, c4⟩
def Crt (iv : Iv) (rv : Rv) : Prop := CRT iv rv
abbrev T_Crt : List Nat := []
abbrev F_Crt : List (Nat × Nat) := [(57, 1), (56, 3), (62, 1), (62, 2), (62, 5), (62, 6), (62, 7), (62, 8), (62, 9), (62, 10), (62, 11), (62, 12), (62, 13)]
theorem Crt.keep {al : Al} {iv iv' : Iv} {rv rv' : Rv} (h : Crt iv rv) (hG : GI al iv rv) (e : KP T_Crt F_Crt al iv rv iv' rv') : Crt iv' rv' := by
  intro k hk hz
  rw [(e 57 0 1 (h1_57 hG) (Or.inr (by decide))).1] at hk
  have i : k < al.1 62 := by have := hG.2.2.2.1.2; omega
  rw [(e 62 k 7 i (Or.inr (by decide))).1] at hz
  exact crk_c2 hG i (h k hk hz) e
def Ctkn (iv : Iv) (rv : Rv) : Prop := iv 0 0 20 = iv 63 0 1
abbrev T_Ctkn : List Nat := []
abbrev F_Ctkn : List (Nat × Nat) := [(0, 20), (63, 1)]
theorem Ctkn.keep {al : Al} {iv iv' : Iv} {rv rv' : Rv} (h : Ctkn iv rv) (hG : GI al iv rv) (e : KP T_Ctkn F_Ctkn al iv rv iv' rv') : Ctkn iv' rv' := by
  unfold Ctkn
  rw [(e 0 0 20 (h1_0 hG) (Or.inr (by decide))).1, (e 63 0 1 (h1_63 hG) (Or.inr (by decide))).1]; exact h
def tkk (iv : Iv) (rv : Rv) (t : Nat) : Prop := iv 19 0 t = iv 65 t 4 ∧ 1 ≤ (iv 65 t 4).toInt ∧ (∀ j : Nat, (j : Int) < (iv 65 t 4).toInt → rv 66 t j = some (iv 18 0 (4 * t + j)).toNatClampNeg) ∧ rv 65 t 1 = some (iv 18 0 (4 * t)).toNatClampNeg ∧ rv 65 t 2 = some (iv 18 0 (4 * t + (iv 65 t 4).toNatClampNeg - 1)).toNatClampNeg ∧ (iv 65 t 0).toInt = t
theorem tkk_cong {iv iv' : Iv} {rv rv' : Rv} {t : Nat} (h : tkk iv rv t) (h4 : (iv 65 t 4).toInt ≤ 4) (m18 : ∀ j, j < 4 → iv' 18 0 (4 * t + j) = iv 18 0 (4 * t + j)) (m19 : iv' 19 0 t = iv 19 0 t) (x0 : iv' 65 t 0 = iv 65 t 0) (x4 : iv' 65 t 4 = iv 65 t 4) (r66 : ∀ j, rv' 66 t j = rv 66 t j) (r1 : rv' 65 t 1 = rv 65 t 1) (r2 : rv' 65 t 2 = rv 65 t 2) : tkk iv' rv' t := by
  obtain ⟨a, b, c, d, e, f⟩ := h
  have cl : (iv 65 t 4).toNatClampNeg = (iv 65 t 4).toInt.toNat := clamp_n
  refine ⟨by rw [m19, x4]; exact a, by rw [x4]; exact b, fun j hj => ?_, ?_, ?_, by rw [x0]; exact f⟩
  · rw [x4] at hj; rw [r66, m18 j (by omega)]; exact c j hj
  · have := m18 0 (by decide)
    rw [Nat.add_zero] at this
    rw [r1, this]; exact d
  · rw [r2, x4, e]
    have := m18 ((iv 65 t 4).toNatClampNeg - 1) (by omega)
    rw [show 4 * t + (iv 65 t 4).toNatClampNeg - 1 = 4 * t + ((iv 65 t 4).toNatClampNeg - 1) by omega, this]
theorem sz4 {al : Al} {iv : Iv} {rv : Rv} (hG : GI al iv rv) {t : Nat} (ht : t < al.1 65) : (iv 65 t 4).toInt ≤ 4 := (hG.1 65 t 4 ht (by decide)).2
def Ctick (iv : Iv) (rv : Rv) : Prop := ∀ t : Nat, (t : Int) < (iv 63 0 1).toInt → tkk iv rv t
abbrev T_Ctick : List Nat := [18, 19, 66]
abbrev F_Ctick : List (Nat × Nat) := [(63, 1), (65, 0), (65, 1), (65, 2), (65, 4)]
theorem Ctick.keep {al : Al} {iv iv' : Iv} {rv rv' : Rv} (h : Ctick iv rv) (hG : GI al iv rv) (e : KP T_Ctick F_Ctick al iv rv iv' rv') : Ctick iv' rv' := by
  intro t ht
  rw [(e 63 0 1 (h1_63 hG) (Or.inr (by decide))).1] at ht
  have i : t < al.1 65 := by have := hG.2.2.2.2.1.2; omega
  have i6 : t < al.1 66 := by rw [hG.2.2.1.2.2.2.1]; exact i
  exact tkk_cong (h t ht) (sz4 hG i) (fun j _ => (e 18 0 _ (h1_18 hG) (Or.inl (by decide))).1) (e 19 0 t (h1_19 hG) (Or.inl (by decide))).1 (e 65 t 0 i (Or.inr (by decide))).1 (e 65 t 4 i (Or.inr (by decide))).1 (fun j => (e 66 t j i6 (Or.inl (by decide))).2) (e 65 t 1 i (Or.inr (by decide))).2 (e 65 t 2 i (Or.inr (by decide))).2
theorem spThen_m {iv iv' : Iv} (h : MA iv iv') (t l : Int32) : spThen iv' t l = spThen iv t l := by
  have ht : thL iv' t.toNatClampNeg = thL iv t.toNatClampNeg := by simp only [thL, h 18 _ (by decide), h 19 _ (by decide)]
  unfold spThen
  rw [ht, h 0 20 (by decide), h 0 6 (by decide), h 5 _ (by decide), h 6 _ (by decide), h 9 _ (by decide), h 10 _ (by decide), h 15 _ (by decide), h 19 _ (by decide)]
theorem spThen_ok {iv : Iv} {t l : Int32} (h : spThen iv t l = 0) : 0 ≤ t.toInt ∧ t.toInt < (iv 0 0 20).toInt ∧ (iv 19 0 t.toNatClampNeg).toInt < 4 := by
  unfold spThen at h
  by_cases q : ¬ ((0 ≤ t.toInt ∧ t.toInt < (iv 0 0 20).toInt) ∧ (0 ≤ l.toInt ∧ l.toInt < (iv 0 0 6).toInt))
  · rw [if_pos q] at h; exact absurd h (by decide)
  · rw [if_neg q] at h
    by_cases q2 : ¬ ((iv 5 0 l.toNatClampNeg).toInt = (iv 6 0 (thL iv t.toNatClampNeg)).toInt ∧ (iv 10 0 (thL iv t.toNatClampNeg)).toInt + (iv 15 0 2).toInt ≤ (iv 9 0 l.toNatClampNeg).toInt)
    · rw [if_pos q2] at h; exact absurd h (by decide)
    · rw [if_neg q2] at h
      by_cases q3 : 4 ≤ (iv 19 0 t.toNatClampNeg).toInt
      · rw [if_pos q3] at h; exact absurd h (by decide)
      · exact ⟨by omega, by omega, by omega⟩
def Ccau (iv : Iv) (rv : Rv) : Prop := (∀ k : Nat, (k : Int) < (iv 57 0 1).toInt → iv 14 0 k = iv 62 k 14) ∧ (∀ k : Nat, (iv 57 0 1).toInt ≤ k → iv 14 0 k = 0)
abbrev T_Ccau : List Nat := [14]
abbrev F_Ccau : List (Nat × Nat) := [(57, 1), (62, 14)]
theorem Ccau.keep {al : Al} {iv iv' : Iv} {rv rv' : Rv} (h : Ccau iv rv) (hG : GI al iv rv) (e : KP T_Ccau F_Ccau al iv rv iv' rv') : Ccau iv' rv' := by
  have e1 : ∀ k, iv' 14 0 k = iv 14 0 k := fun k => (e 14 0 k (h1_14 hG) (Or.inl (by decide))).1
  have n := hG.2.2.2.1.2
  refine ⟨fun k hk => ?_, fun k hk => ?_⟩
  · rw [(e 57 0 1 (h1_57 hG) (Or.inr (by decide))).1] at hk
    rw [e1 k, (e 62 k 14 (by omega) (Or.inr (by decide))).1]; exact h.1 k hk
  · rw [(e 57 0 1 (h1_57 hG) (Or.inr (by decide))).1] at hk
    rw [e1 k]; exact h.2 k hk
theorem spCause_ok {g c : Int32} {n : Int} (h : spCause g c n = 0) : 0 ≤ g.toInt ∧ g.toInt < n := by
  unfold spCause at h
  by_cases q : ¬ ((0 ≤ g.toInt ∧ g.toInt < n) ∧ (0 ≤ c.toInt ∧ c.toInt ≤ 5))
  · rw [if_pos q] at h; exact absurd h (by decide)
  · exact ⟨by omega, by omega⟩
def BA (iv : Iv) (rv : Rv) : Prop := Clegn iv rv ∧ Clegf iv rv ∧ Cset iv rv
theorem lf_k {al : Al} {iv : Iv} {rv : Rv} (hG : GI al iv rv) (hf : Clegf iv rv) {k : Nat} (hk : k < al.1 62) : lfk iv rv k := hf k (by rw [hG.2.2.2.1.2]; omega)
theorem lf_i {al : Al} {iv : Iv} {rv : Rv} (hG : GI al iv rv) (hf : Clegf iv rv) {k : Nat} (hk : k < al.1 62) : (iv 7 0 k).toInt = (iv 62 k 3).toInt ∧ (iv 8 0 k).toInt = (iv 62 k 4).toInt ∧ (iv 9 0 k).toInt = (iv 62 k 5).toInt ∧ (iv 10 0 k).toInt = (iv 62 k 6).toInt := by
  obtain ⟨-, -, a, b, c, d, -⟩ := lf_k hG hf hk
  rw [a, b, c, d]; exact ⟨rfl, rfl, rfl, rfl⟩
theorem lf_j {al : Al} {iv : Iv} {rv : Rv} (hG : GI al iv rv) (hf : Clegf iv rv) {j n : Nat} (hk : j < al.1 62) (hj : j = n) : ((iv 7 0 n).toInt = (iv 62 j 3).toInt ∧ (iv 8 0 n).toInt = (iv 62 j 4).toInt ∧ (iv 9 0 n).toInt = (iv 62 j 5).toInt ∧ (iv 10 0 n).toInt = (iv 62 j 6).toInt) ∧ (0 ≤ (iv 62 j 6).toInt ∧ (iv 62 j 6).toInt ≤ 20000) := by
  subst hj
  exact ⟨lf_i hG hf hk, hG.1 62 j 6 hk (by decide)⟩
theorem lf_lv {al : Al} {iv : Iv} {rv : Rv} (hG : GI al iv rv) (hf : Clegf iv rv) {k : Nat} (hk : k < al.1 62) : iv 62 k 5 = iv 9 0 k := (lf_k hG hf hk).2.2.2.2.1.symm
theorem rng5 {al : Al} {iv : Iv} {rv : Rv} (hG : GI al iv rv) {k : Nat} (hk : k < 40) : (0 ≤ (iv 5 0 k).toInt ∧ (iv 5 0 k).toInt ≤ 9) ∧ (0 ≤ (iv 6 0 k).toInt ∧ (iv 6 0 k).toInt ≤ 9) := ⟨hG.1 5 0 k (h1_5 hG) hk, hG.1 6 0 k (h1_6 hG) hk⟩
theorem al62 {al : Al} {iv : Iv} {rv : Rv} (hG : GI al iv rv) : al.1 62 ≤ 40 := by
  have a := hG.2.2.2.1.2
  have b : (iv 57 0 1).toInt ≤ 40 := (hG.1 57 0 1 (h1_57 hG) (by decide)).2
  omega
theorem lf_to {al : Al} {iv : Iv} {rv : Rv} (hG : GI al iv rv) (hf : Clegf iv rv) {j n p : Nat} (hk : j < al.1 62) (hj : j = n) (e : rv 62 j 2 = some p) : (p : Int) = (iv 6 0 n).toInt := by
  subst hj
  have a := (lf_k hG hf hk).2.1
  have b := Option.some.inj (e.symm.trans a)
  have c := rng5 hG (Nat.lt_of_lt_of_le hk (al62 hG))
  rw [b, ix_nat c.2.1]
theorem lf_fr {al : Al} {iv : Iv} {rv : Rv} (hG : GI al iv rv) (hf : Clegf iv rv) {j p : Nat} (hk : j < al.1 62) (e : rv 62 j 1 = some p) : (p : Int) = (iv 5 0 j).toInt := by
  have a := (lf_k hG hf hk).1
  have b := Option.some.inj (e.symm.trans a)
  have c := rng5 hG (Nat.lt_of_lt_of_le hk (al62 hG))
  rw [b, ix_nat c.1.1]
theorem lf_b {al : Al} {iv : Iv} {rv : Rv} (hG : GI al iv rv) (hf : Clegf iv rv) {j : Nat} {x : Int32} (hk : j < al.1 62) (h : x.toNatClampNeg = j) : (iv 10 0 x.toNatClampNeg).toInt = (iv 62 j 6).toInt := by rw [h]; exact (lf_i hG hf hk).2.2.2
theorem ahx_0 {iv : Iv} {li : Nat} {crew : Int32} : none = oI (ahN iv li crew (0 : Int32).toNatClampNeg) := by
  rw [show (0 : Int32).toNatClampNeg = 0 from by decide]; rfl
theorem ahx_up {iv : Iv} {li : Nat} {crew x y : Int32} {r : Option Nat} (h : y.toInt = x.toInt + 1) (h0 : 0 ≤ x.toInt) (i : r = oI (ahStep iv li crew (ahN iv li crew x.toNatClampNeg) x.toNatClampNeg)) : r = oI (ahN iv li crew y.toNatClampNeg) := by
  rw [clamp_s h h0, i]; rfl
theorem ahx_no {iv : Iv} {li n : Nat} {crew : Int32} {r : Option Nat} (h : r = oI (ahN iv li crew n)) (hc : ¬ (((((¬ crew.toInt = 0) ∧ (iv 8 0 n).toInt = (iv 8 0 li).toInt) ∨ (crew.toInt = 0 ∧ (iv 7 0 n).toInt = (iv 7 0 li).toInt)) ∧ (iv 6 0 n).toInt = (iv 5 0 li).toInt ∧ (iv 10 0 n).toInt + (rsF iv crew).toInt ≤ (iv 9 0 li).toInt) ∧ ((ahN iv li crew n).toInt < 0 ∨ (iv 10 0 (ahN iv li crew n).toNatClampNeg).toInt ≤ (iv 10 0 n).toInt))) : r = oI (ahStep iv li crew (ahN iv li crew n) n) := by
  unfold ahStep; rw [if_neg hc]; exact h
theorem ahx_yes {al : Al} {iv : Iv} {rv : Rv} (hG : GI al iv rv) (hf : Clegf iv rv) {r : Option Nat} {li j n : Nat} {crew : Int32} (hr : ∀ q, r = some q → q < al.1 62) (h : r = oI (ahN iv li crew n)) (hb : ∀ q : Nat, r = some q → (iv 62 q 6).toInt ≤ (iv 62 j 6).toInt) (hj : j = n) (hl : n < al.1 62)
    (hs : (((¬ crew.toInt = 0) ∧ (iv 8 0 n).toInt = (iv 8 0 li).toInt) ∨ (crew.toInt = 0 ∧ (iv 7 0 n).toInt = (iv 7 0 li).toInt)) ∧ (iv 6 0 n).toInt = (iv 5 0 li).toInt ∧ (iv 10 0 n).toInt + (rsF iv crew).toInt ≤ (iv 9 0 li).toInt) : some j = oI (ahStep iv li crew (ahN iv li crew n) n) := by
  subst hj
  have hb2 : (ahN iv li crew j).toInt < 0 ∨ (iv 10 0 (ahN iv li crew j).toNatClampNeg).toInt ≤ (iv 10 0 j).toInt := by
    by_cases q : (ahN iv li crew j).toInt < 0
    · exact Or.inl q
    · have e : r = some (ahN iv li crew j).toNatClampNeg := by rw [h]; unfold oI; rw [if_neg q]
      have a := hb _ e
      rw [(lf_i hG hf (hr _ e)).2.2.2, (lf_i hG hf hl).2.2.2]
      exact Or.inr a
  have l40 := al62 hG
  unfold ahStep
  rw [if_pos ⟨hs, hb2⟩]
  unfold oI
  rw [nI_toInt (by omega), if_neg (by omega), nI_clamp (by omega)]
theorem ah_num {al : Al} {iv : Iv} {rv : Rv} (hG : GI al iv rv) (hf : Clegf iv rv) {j : Nat} {x y : Int32} (hj : j < al.1 62) (e : x = iv 62 j 0) (h : 0 ≤ y.toInt ∧ y.toNatClampNeg = j) : x = y := by
  have a := (lf_k hG hf hj).2.2.2.2.2.2
  have b := ix_nat h.1
  exact (fa_eq _ _).mpr (by rw [e]; omega)
def BL (iv : Iv) (rv : Rv) : Prop := BA iv rv ∧ Clog iv rv ∧ Crt iv rv ∧ Cport iv rv
theorem xra_x {al : Al} {iv : Iv} {rv : Rv} (hG : GI al iv rv) (h : BL iv rv) {k : Nat} (hk : k < al.1 62) : xrl iv rv k = rlF iv k ∧ xra iv rv k = raF iv k := by
  obtain ⟨⟨hn, hf, hs⟩, hl, hc, hp⟩ := h
  have c := rng5 hG (Nat.lt_of_lt_of_le hk (al62 hG))
  obtain ⟨a, b, -⟩ := lf_k hG hf hk
  obtain ⟨l1, l2, l3⟩ := hl.1 k (by rw [hG.2.2.2.1.2]; omega)
  have q1 := (hp (iv 5 0 k).toNatClampNeg (by rw [clamp_n]; omega)).2
  have q2 := (hp (iv 6 0 k).toNatClampNeg (by rw [clamp_n]; omega)).2
  unfold xrl xra rlF raF
  rw [a, b, l2, l3, q1, q2]; exact ⟨rfl, rfl⟩
theorem rt_x {al : Al} {iv : Iv} {rv : Rv} (hG : GI al iv rv) (h : BL iv rv) {k : Nat} (hk : k < al.1 62) (hz : ¬ (iv 62 k 7).toInt = 0) : iv 62 k 10 = rlF iv k ∧ iv 62 k 11 = raF iv k ∧ iv 62 k 12 = olF iv k ∧ iv 62 k 13 = laF iv k := by
  obtain ⟨x1, x2⟩ := xra_x hG h hk
  obtain ⟨a, b, c, d⟩ := h.2.2.1 k (by rw [hG.2.2.2.1.2]; omega) hz
  obtain ⟨-, -, -, -, l5, l6, -⟩ := lf_k hG h.1.2.1 hk
  rw [a, b, c, d, x1, x2, ← l5, ← l6]; exact ⟨rfl, rfl, rfl, rfl⟩
theorem lg_done {al : Al} {iv : Iv} {rv : Rv} (hG : GI al iv rv) (h : BL iv rv) {j n : Nat} (hk : j < al.1 62) (hj : j = n) : (iv 11 0 n).toInt = (iv 62 j 7).toInt := by
  subst hj
  rw [(h.2.1.1 j (by rw [hG.2.2.2.1.2]; omega)).1]
theorem mn_ls (x y : Int32) : mnF x y = lsF x y := by
  unfold mnF lsF
  by_cases h : y < x
  · rw [if_pos h, if_neg (by rw [fa_lt] at h; omega)]
  · rw [if_neg h]; rw [fa_lt] at h
    by_cases q : x.toInt < y.toInt
    · rw [if_pos q]
    · rw [if_neg q]; exact (fa_eq _ _).mpr (by omega)
theorem ah_in {al : Al} {iv : Iv} {rv : Rv} (hG : GI al iv rv) (hn : Clegn iv rv) {l : Nat} {b : Int32} (h : 0 ≤ (ahF iv l b).toInt) : (ahF iv l b).toNatClampNeg < al.1 62 := by
  have a := (ah_lt hG h).1
  have c := hG.2.2.2.1.2
  have e := congrArg Int32.toInt hn
  rw [clamp_n]; omega
theorem wt_x {al : Al} {iv : Iv} {rv : Rv} (hG : GI al iv rv) (h : BL iv rv) {li : Nat} {crew : Int32} (hli : li < al.1 62) (hz : ¬ (iv 62 li 7).toInt = 0) : wfX iv li (oI (ahF iv li crew)) (rsF iv crew) = wtF iv li crew := by
  unfold wtF oI
  by_cases q : (ahF iv li crew).toInt < 0
  · rw [if_pos q, if_pos q]; rfl
  · rw [if_neg q, if_neg q]
    have hb := ah_in hG h.1.1 (l := li) (b := crew) (by omega)
    have d := lg_done hG h hb rfl
    show (if (iv 62 (ahF iv li crew).toNatClampNeg 7).toInt = 0 then 0 else _) = _
    by_cases w : (iv 62 (ahF iv li crew).toNatClampNeg 7).toInt = 0
    · rw [if_pos w, if_pos (by omega)]
    · rw [if_neg w, if_neg (by omega), mn_ls, mx0, (rt_x hG h hb w).2.1, (rt_x hG h hli hz).2.2.1, lf_lv hG h.1.2.1 hli]
theorem hd_x {al : Al} {iv : Iv} {rv : Rv} (hG : GI al iv rv) (h : BL iv rv) {li : Nat} (hli : li < al.1 62) (hz : ¬ (iv 62 li 7).toInt = 0) : mnF (iv 62 li 13) (mxF (wtF iv li 0) (wtF iv li 1)) = hdF iv li := by
  rw [mn_ls, (rt_x hG h hli hz).2.2.2]
  unfold hdF bcF mxF
  by_cases q : (wtF iv li 0).toInt < (wtF iv li 1).toInt
  · rw [if_pos q, if_pos ((fa_lt _ _).mpr q)]
  · rw [if_neg q, if_neg (fun z => q ((fa_lt _ _).mp z))]
def BT (iv : Iv) (rv : Rv) : Prop := Clegn iv rv ∧ Clegf iv rv ∧ Cset iv rv ∧ Ctkn iv rv ∧ Ctick iv rv
theorem then_x {al : Al} {iv : Iv} {rv : Rv} (hG : GI al iv rv) (h : BT iv rv) {ti li : Nat} {tt lg c r : Int32} (hti : ti < al.1 65) (hli : li < al.1 62) (et : ti = tt.toNatClampNeg) (el : li = lg.toNatClampNeg) (ec : c = iv 50 0 (2 : Int32).toNatClampNeg)
    (hp : ∀ p q o : Nat, rv 62 li 1 = some p → rv 65 ti 2 = some q → rv 62 q 2 = some o → ((p = o ∧ c.toInt ≤ (iv 62 li 5).toInt - (iv 62 q 6).toInt) ∧ r.toInt = 1) ∨ ((¬ (p = o ∧ c.toInt ≤ (iv 62 li 5).toInt - (iv 62 q 6).toInt)) ∧ r.toInt = 0)) :
    (iv 19 0 tt.toNatClampNeg).toInt = (iv 65 ti 4).toInt ∧ ((((iv 5 0 lg.toNatClampNeg).toInt = (iv 6 0 (thL iv tt.toNatClampNeg)).toInt ∧ (iv 10 0 (thL iv tt.toNatClampNeg)).toInt + (iv 15 0 2).toInt ≤ (iv 9 0 lg.toNatClampNeg).toInt) ∧ r.toInt = 1) ∨ ((¬ ((iv 5 0 lg.toNatClampNeg).toInt = (iv 6 0 (thL iv tt.toNatClampNeg)).toInt ∧ (iv 10 0 (thL iv tt.toNatClampNeg)).toInt + (iv 15 0 2).toInt ≤ (iv 9 0 lg.toNatClampNeg).toInt)) ∧ r.toInt = 0)) := by
  obtain ⟨hn, hf, hs, hk, htk⟩ := h
  rw [← et, ← el]
  obtain ⟨t1, t2, t3, t4, t5, t6⟩ := htk ti (by rw [hG.2.2.2.2.1.2]; omega)
  have c2 : c = iv 15 0 2 := by rw [ec]; exact (hs 2 (by decide)).symm
  have l5 : rv 65 ti 2 = some (thL iv ti) := by unfold thL; rw [t1]; exact t5
  have hl5 := (hG.2.1 65 ti 2 62 hti (by decide) rfl).1 _ l5
  obtain ⟨a1, -, -, -, a5, -, -⟩ := hf li (by rw [hG.2.2.2.1.2]; omega)
  obtain ⟨-, b2, -, -, -, b6, -⟩ := hf (thL iv ti) (by rw [hG.2.2.2.1.2]; omega)
  have q := hp _ _ _ a1 l5 b2
  have r1 := rng5 hG (Nat.lt_of_lt_of_le hli (al62 hG))
  have r2 := rng5 hG (Nat.lt_of_lt_of_le hl5 (al62 hG))
  rw [← a5, ← b6, c2, clamp_n, clamp_n] at q
  refine ⟨by rw [t1], ?_⟩
  rcases q with ⟨⟨p1, p2⟩, p3⟩ | ⟨p1, p3⟩
  · exact Or.inl ⟨⟨by omega, by omega⟩, p3⟩
  · exact Or.inr ⟨fun z => p1 ⟨by rw [z.1], by omega⟩, p3⟩
def BM (iv : Iv) (rv : Rv) : Prop := BL iv rv ∧ Ctkn iv rv ∧ Ctick iv rv
theorem tk_k {al : Al} {iv : Iv} {rv : Rv} (hG : GI al iv rv) (h : BM iv rv) {t : Nat} (ht : t < al.1 65) : tkk iv rv t := h.2.2 t (by rw [hG.2.2.2.2.1.2]; omega)
theorem tk_ix {al : Al} {iv : Iv} {rv : Rv} (hG : GI al iv rv) (h : BM iv rv) {t j : Nat} {x : Int32} (ht : t < al.1 65) (er : some j = rv 66 t x.toNatClampNeg) (h0 : 0 ≤ x.toInt) (h1 : x.toInt < (iv 65 t 4).toInt) : j = rwL iv t x.toNatClampNeg := Option.some.inj (er.trans ((tk_k hG h ht).2.2.1 _ (by rw [ix_nat h0]; exact h1)))
theorem tk_ix1 {al : Al} {iv : Iv} {rv : Rv} (hG : GI al iv rv) (h : BM iv rv) {t j : Nat} {x y : Int32} (ht : t < al.1 65) (er : some j = rv 66 t y.toNatClampNeg) (hy : y.toInt = x.toInt - 1) (h0 : 0 < x.toInt) (h1 : x.toInt ≤ (iv 65 t 4).toInt) : j = rwL iv t (x.toNatClampNeg - 1) := by
  have c : y.toNatClampNeg = x.toNatClampNeg - 1 := by simp only [clamp_n]; omega
  rw [← c]
  exact tk_ix hG h ht er (by omega) (by omega)
def BC (iv : Iv) (rv : Rv) : Prop := BL iv rv ∧ Ccau iv rv
theorem bl_kp {al : Al} {iv iv' : Iv} {rv rv' : Rv} (hG : GI al iv rv) (h : BL iv rv) {md : Mo} (f : FR md iv iv') (g : FR md rv rv') (d1 : RC T_Clegn F_Clegn md := by decide) (d2 : RC T_Clegf F_Clegf md := by decide) (d3 : RC T_Cset F_Cset md := by decide) (d4 : RC T_Clog F_Clog md := by decide) (d5 : RC T_Crt F_Crt md := by decide) (d6 : RC T_Cport F_Cport md := by decide) : BL iv' rv' :=
  ⟨⟨Clegn.keep h.1.1 hG (KP.fr f g d1), Clegf.keep h.1.2.1 hG (KP.fr f g d2), Cset.keep h.1.2.2 hG (KP.fr f g d3)⟩, Clog.keep h.2.1 hG (KP.fr f g d4), Crt.keep h.2.2.1 hG (KP.fr f g d5), Cport.keep h.2.2.2 hG (KP.fr f g d6)⟩
theorem bc_fr {al : Al} {iv iv' : Iv} {rv rv' : Rv} (hG : GI al iv rv) (h : BC iv rv) {md : Mo} (f : FR md iv iv') (g : FR md rv rv') (d1 : RC T_Clegn F_Clegn md := by decide) (d2 : RC T_Clegf F_Clegf md := by decide) (d3 : RC T_Cset F_Cset md := by decide) (d4 : RC T_Clog F_Clog md := by decide) (d5 : RC T_Crt F_Crt md := by decide) (d6 : RC T_Cport F_Cport md := by decide) (d7 : RC T_Ccau F_Ccau md := by decide) : BC iv' rv' := ⟨bl_kp hG h.1 f g d1 d2 d3 d4 d5 d6, Ccau.keep h.2 hG (KP.fr f g d7)⟩
def trI (iv0 iv : Iv) (li : Nat) (at_ : Option Nat) (m : Int32) (n : Nat) : Prop := (stN iv0 li n).2.1 = m ∧ (∀ k : Nat, k < 6 → iv 59 0 k = (stN iv0 li n).2.2 k) ∧ (0 < m.toInt → at_ = some (stN iv0 li n).1 ∧ ¬ (iv0 62 (stN iv0 li n).1 7).toInt = 0)
theorem tr_0 {al : Al} {iv0 iv : Iv} {rv : Rv} {md : Mo} {li : Nat} {m : Int32} (hG : GI al iv0 rv) (h : BC iv0 rv) (hli : li < al.1 62) (hz : ¬ (iv0 62 li 7).toInt = 0) (f : FR md iv0 iv) (hf : ∀ k : Nat, k < 6 → iv 59 0 k = 0) (e : m = iv 62 li 13) (hd : ¬ MD md 62 13 := by decide) : trI iv0 iv li (some li) m (0 : Int32).toNatClampNeg := by
  rw [show (0 : Int32).toNatClampNeg = 0 from by decide]
  refine ⟨?_, hf, fun _ => ⟨rfl, hz⟩⟩
  show laF iv0 li = m
  rw [e, f 62 li 13 hd, (rt_x hG h.1 hli hz).2.2.2]
theorem tr_lg {al : Al} {iv0 : Iv} {rv : Rv} {li n j : Nat} (_ : GI al iv0 rv) (h : some j = some (stN iv0 li n).1 ∧ ¬ (iv0 62 (stN iv0 li n).1 7).toInt = 0) : ¬ (iv0 62 j 7).toInt = 0 := by rw [Option.some.inj h.1]; exact h.2
theorem tr_g0 {iv iv' : Iv} {x : Int32} (h : MA iv iv') (e : x = iv 15 0 0) : x = rsF iv' 0 := by
  rw [rs_m h, e]; rfl
theorem tr_g1 {iv iv' : Iv} {x : Int32} (h : MA iv iv') (e : x = iv 15 0 1) : x = rsF iv' 1 := by
  rw [rs_m h, e]; rfl
theorem tr_w {al : Al} {iv0 iv : Iv} {rv : Rv} (hG : GI al iv rv) (h : BL iv rv) {j : Nat} {crew gap w : Int32} {r : Option Nat} (hj : j < al.1 62) (hz : ¬ (iv 62 j 7).toInt = 0) (hr : r = oI (ahF iv j crew)) (hg : gap = rsF iv crew) (hw : w = wfX iv j r gap) (hM : MA iv0 iv) : w = wtF iv0 j crew := by
  rw [hw, hr, hg, wt_x hG h hj hz, wt_m hM]
theorem tr_led {al : Al} {iv0 iv : Iv} {rv : Rv} (hG : GI al iv rv) (h : BL iv rv) {j : Nat} {x w0 w1 mx hd m led : Int32} (hj : j < al.1 62) (hz : ¬ (iv 62 j 7).toInt = 0) (ex : x = iv 62 j 13) (q1 : mx = mxF w0 w1) (q2 : hd = mnF x mx) (q3 : led = mnF m hd) (h0 : w0 = wtF iv0 j 0) (h1 : w1 = wtF iv0 j 1) (hM : MA iv0 iv) : led = lsF m (hdF iv0 j) := by
  have z := hd_x hG h hj hz
  rw [wt_m hM, wt_m hM, hd_m hM] at z
  rw [q3, q2, q1, ex, h0, h1, z, mn_ls]
theorem tr_c {iv0 : Iv} {j : Nat} {w0 w1 : Int32} {r : Option Nat} (h0 : w0 = wtF iv0 j 0) (h1 : w1 = wtF iv0 j 1) (hr : r = oI (ahF iv0 j 1)) (h : w0.toInt < w1.toInt) : r = oI (ahF iv0 j (bcF iv0 j)) := by
  have e : bcF iv0 j = 1 := by unfold bcF; rw [← h0, ← h1, if_pos h]
  rw [e]; exact hr
theorem tr_p {iv0 : Iv} {j : Nat} {w0 w1 : Int32} {r : Option Nat} (h0 : w0 = wtF iv0 j 0) (h1 : w1 = wtF iv0 j 1) (hr : r = oI (ahF iv0 j 0)) (h : ¬ w0.toInt < w1.toInt) : r = oI (ahF iv0 j (bcF iv0 j)) := by
  have e : bcF iv0 j = 0 := by unfold bcF; rw [← h0, ← h1, if_neg h]
  rw [e]; exact hr
theorem wt_done {iv : Iv} {l : Nat} {b : Int32} (h : 0 < (wtF iv l b).toInt) : ¬ (iv 11 0 (ahF iv l b).toNatClampNeg).toInt = 0 := by
  unfold wtF at h
  by_cases q : (ahF iv l b).toInt < 0
  · rw [if_pos q] at h; exact absurd h (by decide)
  · rw [if_neg q] at h
    by_cases w : (iv 11 0 (ahF iv l b).toNatClampNeg).toInt = 0
    · rw [if_pos w] at h; exact absurd h (by decide)
    · exact w
theorem tr_step {al : Al} {iv0 iv iv1 : Iv} {rv : Rv} {md : Mo} (hG : GI al iv0 rv) (h : BC iv0 rv) {li j : Nat} {m led c y d z x x' : Int32} {r : Option Nat} (hj : j < al.1 62) (i : trI iv0 iv li (some j) m x.toNatClampNeg) (hm : 0 < m.toInt) (hl : led = lsF m (hdF iv0 j)) (hr : r = oI (ahF iv0 j (bcF iv0 j))) (ec : c = iv 62 j 14) (ey : y = iv 59 0 c.toNatClampNeg) (ed : d = m - led) (ez : z = y + d) (e1 : iv1 = up3 iv 59 0 c.toNatClampNeg z) (_ : MA iv0 iv) (f : FR md iv0 iv) (hx : x'.toInt = x.toInt + 1) (hc : 0 ≤ x.toInt ∧ 0 ≤ c.toInt ∧ c.toInt ≤ 5) (hd : ¬ MD md 62 14 := by decide) : trI iv0 iv1 li r led x'.toNatClampNeg := by
  rw [clamp_s hx hc.1]
  generalize x.toNatClampNeg = n at i
  obtain ⟨a2, a3, a4⟩ := i
  have a1 : (stN iv0 li n).1 = j := (Option.some.inj (a4 hm).1).symm
  have e := st_go (iv := iv0) (l := li) (n := n) (by rw [a2]; exact hm)
  rw [a1, a2, ← hl] at e
  have hcau : c = iv0 14 0 j := by rw [ec, f 62 j 14 hd]; exact (h.2.1 j (by rw [hG.2.2.2.1.2]; omega)).symm
  refine ⟨by rw [e], fun k hk => ?_, fun hp => ?_⟩
  · rw [e, e1]
    show _ = (if k = (iv0 14 0 j).toNatClampNeg then _ else _)
    rw [← hcau]
    by_cases q : k = c.toNatClampNeg
    · rw [if_pos q, q, up3_self, ez, ey, ed, a3 _ (by rw [clamp_n]; omega)]
    · rw [if_neg q, up3_ne (fun z => q z.2.2)]; exact a3 k hk
  · rw [e]
    simp only [if_pos hp]
    have hp2 : 0 < (hdF iv0 j).toInt := by rw [hl] at hp; exact (ls_pos hp).2
    have hge := hd_pos hp2
    have hw := wt_done (ls_pos hp2).2
    refine ⟨by rw [hr]; unfold oI; rw [if_neg (by omega)], ?_⟩
    rw [← lg_done hG h.1 (ah_in hG h.1.1.1 hge) rfl]; exact hw
theorem tr_e1 {iv0 iv : Iv} {li : Nat} {at_ : Option Nat} {m x : Int32} (i : trI iv0 iv li at_ m x.toNatClampNeg) (h : x.toInt = 40) : ∀ k : Nat, k < 6 → iv 59 0 k = mtF iv0 li k := fun k hk => by
  have e : x.toNatClampNeg = 40 := by rw [clamp_n]; omega
  rw [e] at i; exact i.2.1 k hk
theorem tr_e2 {iv0 iv : Iv} {li : Nat} {at_ : Option Nat} {m x : Int32} (i : trI iv0 iv li at_ m x.toNatClampNeg) (h : x.toInt ≤ 40) (hm : m.toInt ≤ 0) : ∀ k : Nat, k < 6 → iv 59 0 k = mtF iv0 li k := fun k hk => by
  have e := st_stop (iv := iv0) (l := li) (n := x.toNatClampNeg) (by rw [i.1]; exact hm) (40 - x.toNatClampNeg)
  have c : x.toNatClampNeg = x.toInt.toNat := clamp_n
  rw [show x.toNatClampNeg + (40 - x.toNatClampNeg) = 40 by omega] at e
  unfold mtF; rw [e]; exact i.2.1 k hk
theorem tr_e3 {iv0 iv : Iv} {li : Nat} {m x : Int32} (i : trI iv0 iv li none m x.toNatClampNeg) (h : x.toInt ≤ 40) : ∀ k : Nat, k < 6 → iv 59 0 k = mtF iv0 li k := by
  refine tr_e2 i h ?_
  by_cases q : 0 < m.toInt
  · cases (i.2.2 q).1
  · omega
