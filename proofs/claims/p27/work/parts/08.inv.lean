def sng : List Nat := [0, 1, 2, 3, 4, 5, 6, 7, 8, 9, 10, 11, 12, 13, 14, 15, 16, 17, 18, 19, 20, 21, 22, 23, 24, 25, 26, 27, 28, 29, 30, 31, 32, 33, 34, 35, 36, 37, 38, 39, 40, 41, 42, 43, 44, 45, 46, 47, 48, 49, 50, 51, 52, 53, 54, 57, 58, 59, 60, 61, 63, 64, 68, 69, 70, 71, 72, 73, 74, 75, 76, 77, 78, 79, 80, 81, 82, 83, 84, 85, 86, 87, 90, 91, 92, 93, 94, 95, 96, 97]
def RG (al : Al) (iv : Iv) : Prop := ∀ t i k, i < al.1 t → k < (pt t).2.1 → (rg t k).1 ≤ (iv t i k).toInt ∧ (iv t i k).toInt ≤ (rg t k).2
def RF (al : Al) (rv : Rv) : Prop := ∀ t i k t', i < al.1 t → k < (pt t).2.1 → (pt t).2.2.2 k = some t' → (∀ j, rv t i k = some j → j < al.1 t') ∧ (nnl t k = true → ∃ j, rv t i k = some j)
def CN (al : Al) : Prop := (∀ t, t ∈ sng → al.1 t = 1) ∧ al.1 56 = 10 ∧ al.1 55 = 10 ∧ al.1 66 = al.1 65 ∧ al.1 67 = al.1 65 ∧ al.1 89 = al.1 88
def SP (al : Al) (iv : Iv) (rv : Rv) : Prop :=
  ((∀ i : Nat, i < al.1 62 → rv 58 0 i = some i) ∧ (iv 57 0 1).toInt = al.1 62) ∧
  ((∀ i : Nat, i < al.1 65 → rv 64 0 i = some i) ∧ (iv 63 0 1).toInt = al.1 65) ∧
  ((∀ i : Nat, i < al.1 88 → rv 85 0 i = some i) ∧ (iv 84 0 1).toInt = al.1 88) ∧
  ((∀ i : Nat, i < 10 → rv 53 0 i = some i) ∧ (∀ i : Nat, i < 10 → rv 54 0 i = some i) ∧ (∀ i : Nat, i < 10 → (iv 56 i 0).toInt = i)) ∧
  (∀ i : Nat, i < al.1 65 → rv 65 i 3 = some i ∧ rv 65 i 5 = some i ∧ ∀ k : Nat, (k : Int) < (iv 65 i 4).toInt → ∃ j, rv 66 i k = some j) ∧
  (∀ i : Nat, i < al.1 88 → rv 88 i 2 = some i) ∧
  ((∀ t : Nat, (t : Int) < (iv 0 0 20).toInt → 1 ≤ (iv 19 0 t).toInt) ∧ (∀ c : Nat, (c : Int) < (iv 0 0 41).toInt → (iv 35 0 c).toInt < (iv 0 0 20).toInt) ∧ (∀ k : Nat, (k : Int) < (iv 0 0 6).toInt → (iv 9 0 k).toInt < (iv 10 0 k).toInt))
def spA : List Nat := [58, 64, 85, 53, 54, 66, 19, 35, 9, 10]
def spF : List (Nat × Nat) := [(57, 1), (63, 1), (84, 1), (56, 0), (65, 3), (65, 5), (65, 4), (88, 2), (0, 20), (0, 41), (0, 6)]
def inS (t k : Nat) : Prop := t ∈ spA ∨ (t, k) ∈ spF
theorem SP.keep {al : Al} {iv iv' : Iv} {rv rv' : Rv} (h : SP al iv rv) (h1 : ∀ t i k, inS t k → iv' t i k = iv t i k) (h2 : ∀ t i k, inS t k → rv' t i k = rv t i k) : SP al iv' rv' := by
  have a1 : ∀ t i k, t ∈ spA → iv' t i k = iv t i k := fun t i k q => h1 t i k (Or.inl q)
  have a2 : ∀ t i k, t ∈ spA → rv' t i k = rv t i k := fun t i k q => h2 t i k (Or.inl q)
  have f1 : ∀ t i k, (t, k) ∈ spF → iv' t i k = iv t i k := fun t i k q => h1 t i k (Or.inr q)
  have f2 : ∀ t i k, (t, k) ∈ spF → rv' t i k = rv t i k := fun t i k q => h2 t i k (Or.inr q)
  obtain ⟨⟨x1, x2⟩, ⟨x3, x4⟩, ⟨x5, x6⟩, ⟨x7, x8, x9⟩, x10, x11, x12, x13, x14⟩ := h
  refine ⟨⟨fun i hi => ?_, ?_⟩, ⟨fun i hi => ?_, ?_⟩, ⟨fun i hi => ?_, ?_⟩, ⟨fun i hi => ?_, fun i hi => ?_, fun i hi => ?_⟩, fun i hi => ⟨?_, ?_, fun k hk => ?_⟩, fun i hi => ?_, fun t ht => ?_, fun c hc => ?_, fun k hk => ?_⟩
  · rw [a2 58 0 i (by decide)]; exact x1 i hi
  · rw [f1 57 0 1 (by decide)]; exact x2
  · rw [a2 64 0 i (by decide)]; exact x3 i hi
  · rw [f1 63 0 1 (by decide)]; exact x4
  · rw [a2 85 0 i (by decide)]; exact x5 i hi
  · rw [f1 84 0 1 (by decide)]; exact x6
  · rw [a2 53 0 i (by decide)]; exact x7 i hi
  · rw [a2 54 0 i (by decide)]; exact x8 i hi
  · rw [f1 56 i 0 (by decide)]; exact x9 i hi
  · rw [f2 65 i 3 (by decide)]; exact (x10 i hi).1
  · rw [f2 65 i 5 (by decide)]; exact (x10 i hi).2.1
  · rw [f1 65 i 4 (by decide)] at hk; rw [a2 66 i k (by decide)]; exact (x10 i hi).2.2 k hk
  · rw [f2 88 i 2 (by decide)]; exact x11 i hi
  · rw [f1 0 0 20 (by decide)] at ht; rw [a1 19 0 t (by decide)]; exact x12 t ht
  · rw [f1 0 0 41 (by decide)] at hc; rw [a1 35 0 c (by decide), f1 0 0 20 (by decide)]; exact x13 c hc
  · rw [f1 0 0 6 (by decide)] at hk; rw [a1 9 0 k (by decide), a1 10 0 k (by decide)]; exact x14 k hk
def GI (al : Al) (iv : Iv) (rv : Rv) : Prop := RG al iv ∧ RF al rv ∧ CN al ∧ SP al iv rv
theorem up3_cases {α : Type} {f : Nat → Nat → Nat → α} {t i k t' i' k' : Nat} {x : α} : (t' = t ∧ i' = i ∧ k' = k ∧ up3 f t i k x t' i' k' = x) ∨ up3 f t i k x t' i' k' = f t' i' k' := by
  by_cases h : t' = t ∧ i' = i ∧ k' = k
  · obtain ⟨rfl, rfl, rfl⟩ := h; exact Or.inl ⟨rfl, rfl, rfl, up3_self _ _ _ _ _⟩
  · exact Or.inr (up3_ne h)
theorem RG.put {al : Al} {iv : Iv} (h : RG al iv) {t i k : Nat} {x : Int32} (hr : (rg t k).1 ≤ x.toInt ∧ x.toInt ≤ (rg t k).2) : RG al (up3 iv t i k x) := by
  intro t' i' k' h1 h2
  rcases up3_cases (f := iv) (t := t) (i := i) (k := k) (t' := t') (i' := i') (k' := k') (x := x) with ⟨rfl, rfl, rfl, e⟩ | e
  · rw [e]; exact hr
  · rw [e]; exact h t' i' k' h1 h2
theorem RF.put {al : Al} {rv : Rv} (h : RF al rv) {t i k t1 j : Nat} (ht : (pt t).2.2.2 k = some t1) (hj : j < al.1 t1) : RF al (up3 rv t i k (some j)) := by
  intro t' i' k' t2 h1 h2 h3
  rcases up3_cases (f := rv) (t := t) (i := i) (k := k) (t' := t') (i' := i') (k' := k') (x := some j) with ⟨rfl, rfl, rfl, e⟩ | e
  · rw [e]
    have : t1 = t2 := Option.some.inj (ht.symm.trans h3)
    subst this
    exact ⟨fun j' q => by cases q; exact hj, fun _ => ⟨j, rfl⟩⟩
  · rw [e]; exact h t' i' k' t2 h1 h2 h3
theorem GI.puti {al : Al} {iv : Iv} {rv : Rv} (h : GI al iv rv) {t i k : Nat} {x : Int32} (hr : (rg t k).1 ≤ x.toInt ∧ x.toInt ≤ (rg t k).2) (hns : ∀ k', inS t k' → k' ≠ k) : GI al (up3 iv t i k x) rv := by
  refine ⟨h.1.put hr, h.2.1, h.2.2.1, h.2.2.2.keep (fun t' i' k' hs => up3_ne (fun q => ?_)) (fun _ _ _ _ => rfl)⟩
  obtain ⟨rfl, -, rfl⟩ := q
  exact hns _ hs rfl
theorem GI.putr {al : Al} {iv : Iv} {rv : Rv} (h : GI al iv rv) {t i k t1 j : Nat} (ht : (pt t).2.2.2 k = some t1) (hj : j < al.1 t1) (hns : ∀ k', inS t k' → k' ≠ k) : GI al iv (up3 rv t i k (some j)) := by
  refine ⟨h.1, h.2.1.put ht hj, h.2.2.1, h.2.2.2.keep (fun _ _ _ _ => rfl) (fun t' i' k' hs => up3_ne (fun q => ?_))⟩
  obtain ⟨rfl, -, rfl⟩ := q
  exact hns _ hs rfl
theorem nsA {t : Nat} (h : t ∉ spA ∧ t ∉ spF.map (fun p => p.1)) (k : Nat) : ∀ k', inS t k' → k' ≠ k := fun k' q => by
  rcases q with q | q
  · exact absurd q h.1
  · exact absurd (List.mem_map.mpr ⟨_, q, rfl⟩) h.2
theorem nsF {t k : Nat} (h : t ∉ spA ∧ (t, k) ∉ spF) : ∀ k', inS t k' → k' ≠ k := fun k' q e => by
  subst e
  rcases q with q | q
  · exact absurd q h.1
  · exact absurd q h.2
-- frames
abbrev Mo : Type := List Nat × List (Nat × Nat)
abbrev MD (m : Mo) (t k : Nat) : Prop := t ∈ m.1 ∨ (t, k) ∈ m.2
def FR {α : Type} (m : Mo) (f0 f : Nat → Nat → Nat → α) : Prop := ∀ t i k, ¬ MD m t k → f t i k = f0 t i k
theorem FR.rf {α : Type} {m : Mo} {f : Nat → Nat → Nat → α} : FR m f f := fun _ _ _ _ => rfl
theorem FR.put {α : Type} {m : Mo} {f0 f : Nat → Nat → Nat → α} (h : FR m f0 f) {t i k : Nat} {x : α} (hm : MD m t k) : FR m f0 (up3 f t i k x) := fun t' i' k' hn => by
  rw [up3_ne (fun q => hn (by obtain ⟨rfl, -, rfl⟩ := q; exact hm))]
  exact h t' i' k' hn
abbrev subM (a b : Mo) : Prop := (∀ t, t ∈ a.1 → t ∈ b.1) ∧ (∀ p, p ∈ a.2 → p ∈ b.2)
theorem FR.tr {α : Type} {a m : Mo} {f0 f f1 : Nat → Nat → Nat → α} (h : FR m f0 f) (h1 : FR a f f1) (hs : subM a m) : FR m f0 f1 := fun t i k hn => by
  rw [h1 t i k (fun q => hn (q.elim (fun z => Or.inl (hs.1 t z)) (fun z => Or.inr (hs.2 _ z))))]
  exact h t i k hn
theorem FR.mono {α : Type} {a m : Mo} {f0 f : Nat → Nat → Nat → α} (h : FR a f0 f) (hs : subM a m) : FR m f0 f := FR.tr FR.rf h hs
