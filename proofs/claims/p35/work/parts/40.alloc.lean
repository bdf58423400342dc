-- making cells
def grow (al : Al) (t a : Nat) : Al := (fun t' => if t' = t then al.1 t + 1 else al.1 t', fun t' i' => if t' = t ∧ i' = al.1 t then a else al.2 t' i')
def clr {α : Type} (f : Nat → Nat → Nat → α) (t i : Nat) (z : α) : Nat → Nat → Nat → α := fun t' i' k' => if t' = t ∧ i' = i then z else f t' i' k'
theorem clr_ne {α : Type} {f : Nat → Nat → Nat → α} {t i t' i' k' : Nat} {z : α} (h : ¬ (t' = t ∧ i' = i)) : clr f t i z t' i' k' = f t' i' k' := by simp only [clr, if_neg h]
theorem clr_self {α : Type} {f : Nat → Nat → Nat → α} {t i k' : Nat} {z : α} : clr f t i z t i k' = z := by simp [clr]
theorem grow_ct (al : Al) (t a t' : Nat) : (grow al t a).1 t' = al.1 t' + (if t' = t then 1 else 0) := by
  by_cases h : t' = t
  · subst h; simp [grow]
  · simp [grow, h]
theorem grow_ad {al : Al} {t a t' i' : Nat} (h : i' < al.1 t') : (grow al t a).2 t' i' = al.2 t' i' := by
  have : ¬ (t' = t ∧ i' = al.1 t) := fun q => by obtain ⟨rfl, rfl⟩ := q; exact Nat.lt_irrefl _ h
  simp only [grow, if_neg this]
theorem grow_new {al : Al} {t a : Nat} : (grow al t a).2 t (al.1 t) = a := by simp [grow]
/-- every reference is to a cell that is there -/
def RB (al : Al) (rv : Rv) : Prop := ∀ t i k t', i < al.1 t → k < (pt t).2.1 → (pt t).2.2.2 k = some t' → ∀ j, rv t i k = some j → j < al.1 t'
theorem RB.new {al : Al} {rv : Rv} (h : RB al rv) (t a : Nat) : RB (grow al t a) (clr rv t (al.1 t) none) := by
  intro t1 i1 k1 t2 h1 h2 h3 j h4
  by_cases e : t1 = t ∧ i1 = al.1 t
  · obtain ⟨rfl, rfl⟩ := e; rw [clr_self] at h4; cases h4
  · rw [clr_ne e] at h4
    have h5 : i1 < al.1 t1 := by
      rw [grow_ct] at h1
      by_cases q : t1 = t
      · subst q; simp at h1; rcases Nat.lt_or_ge i1 (al.1 t1) with z | z
        · exact z
        · exact absurd ⟨rfl, by omega⟩ e
      · simp [q] at h1; exact h1
    have := h t1 i1 k1 t2 h5 h2 h3 j h4
    rw [grow_ct]; omega
theorem RB.put {al : Al} {rv : Rv} (h : RB al rv) {t i k t1 j : Nat} (ht : (pt t).2.2.2 k = some t1) (hj : j < al.1 t1) : RB al (up3 rv t i k (some j)) := by
  intro t' i' k' t2 h1 h2 h3 j' h4
  rcases up3_cases (f := rv) (t := t) (i := i) (k := k) (t' := t') (i' := i') (k' := k') (x := some j) with ⟨rfl, rfl, rfl, e⟩ | e
  · rw [e] at h4; cases h4
    have : t1 = t2 := Option.some.inj (ht.symm.trans h3)
    subst this; exact hj
  · rw [e] at h4; exact h t' i' k' t2 h1 h2 h3 j' h4
theorem rg0 : ∀ t k : Nat, (rg t k).1 ≤ 0 ∧ 0 ≤ (rg t k).2 := by
  intro t k
  unfold rg
  split <;> first | exact ⟨by decide, by decide⟩ | (split <;> first | exact ⟨by decide, by decide⟩)
theorem RG.new {al : Al} {iv : Iv} (h : RG al iv) (t a : Nat) : RG (grow al t a) (clr iv t (al.1 t) 0) := by
  intro t1 i1 k1 h1 h2
  by_cases e : t1 = t ∧ i1 = al.1 t
  · obtain ⟨rfl, rfl⟩ := e; rw [clr_self]; exact rg0 t1 k1
  · rw [clr_ne e]
    refine h t1 i1 k1 ?_ h2
    rw [grow_ct] at h1
    by_cases q : t1 = t
    · subst q; simp at h1; rcases Nat.lt_or_ge i1 (al.1 t1) with z | z
      · exact z
      · exact absurd ⟨rfl, by omega⟩ e
    · simp [q] at h1; exact h1
theorem cellAt.congr {D : va_G} {cA : FieldType → ClassId} {t a : Nat} {V V' : Nat → Value} {H : Heap} (g : cellAt D cA t a V H) (h : ∀ k, k < (pt t).2.1 → V k = V' k) : cellAt D cA t a V' H := by
  cases hp : (pt t).1 with
  | none =>
    refine cellAt.ofAr hp ((g.ar hp).trans ?_)
    congr 1
    unfold arrV
    congr 1
    apply Array.ext
    · simp
    · intro i h1 h2
      simp at h1 ⊢
      exact h i h1
  | some ci => exact cellAt.ofOb hp ((g.ob hp).to h)
theorem UW.new {D : va_G} {cA : FieldType → ClassId} {sz : Nat} {al : Al} {iv : Iv} {rv : Rv} {H H1 : Heap} (hU : UW D cA sz al iv rv H) (hB : RB al rv) {t : Nat} (hz : sz ≤ H.size) (o : ∀ q : Nat, q < H.size → H1[q]? = H[q]?)
    (hc : cellAt D cA t H.size (fun k => match (pt t).2.2.2 k with | none => .int 0 | some _ => .null) H1) : UW D cA sz (grow al t H.size) (clr iv t (al.1 t) 0) (clr rv t (al.1 t) none) H1 := by
  have split : ∀ t1 i1, i1 < (grow al t H.size).1 t1 → (t1 = t ∧ i1 = al.1 t) ∨ (i1 < al.1 t1 ∧ ¬ (t1 = t ∧ i1 = al.1 t)) := by
    intro t1 i1 h
    rw [grow_ct] at h
    by_cases e : t1 = t ∧ i1 = al.1 t
    · exact Or.inl e
    · right
      refine ⟨?_, e⟩
      by_cases q : t1 = t
      · subst q; simp at h; rcases Nat.lt_or_ge i1 (al.1 t1) with z | z
        · exact z
        · exact absurd ⟨rfl, by omega⟩ e
      · simp [q] at h; exact h
  refine ⟨fun t1 i1 h => ?_, fun t1 i1 t2 i2 h1 h2 e => ?_, fun t1 i1 h => ?_⟩
  · rcases split t1 i1 h with ⟨rfl, rfl⟩ | ⟨h1, e⟩
    · rw [grow_new]
      refine hc.congr (fun k hk => ?_)
      cases hp : (pt t1).2.2.2 k with
      | none => simp only [vl, hp, clr_self]
      | some t' => simp only [vl, hp, clr_self]; rfl
    · rw [grow_ad h1]
      refine ((hU.1 t1 i1 h1).kept (o _ (hU.1 t1 i1 h1).lt)).congr (fun k hk => ?_)
      cases hp : (pt t1).2.2.2 k with
      | none => simp only [vl, hp, clr_ne e]
      | some t' =>
        simp only [vl, hp, clr_ne e]
        cases hr : rv t1 i1 k with
        | none => rfl
        | some j =>
          have hj := hB t1 i1 k t' h1 hk hp j hr
          show va_rf (some (al.2 t' j)) = va_rf (some ((grow al t H.size).2 t' j))
          rw [grow_ad hj]
  · rcases split t1 i1 h1 with ⟨rfl, rfl⟩ | ⟨g1, e1⟩ <;> rcases split t2 i2 h2 with ⟨rfl, rfl⟩ | ⟨g2, e2⟩
    · exact ⟨rfl, rfl⟩
    · rw [grow_new, grow_ad g2] at e; have := (hU.1 t2 i2 g2).lt; omega
    · rw [grow_new, grow_ad g1] at e; have := (hU.1 t1 i1 g1).lt; omega
    · rw [grow_ad g1, grow_ad g2] at e; exact hU.2.1 t1 i1 t2 i2 g1 g2 e
  · rcases split t1 i1 h with ⟨rfl, rfl⟩ | ⟨g1, e1⟩
    · rw [grow_new]; exact hz
    · rw [grow_ad g1]; exact hU.2.2 t1 i1 g1
/-- what came: N new cells (a number a pool); old cells stay but in the slots of M; new ones are blank but in those -/
def EXT (N : Nat → Nat) (M : Mo) (al : Al) (iv : Iv) (rv : Rv) (al' : Al) (iv' : Iv) (rv' : Rv) : Prop :=
  (∀ t, al'.1 t = al.1 t + N t) ∧ (∀ t i, i < al.1 t → al'.2 t i = al.2 t i) ∧
  (∀ t i k, i < al.1 t → ¬ MD M t k → iv' t i k = iv t i k ∧ rv' t i k = rv t i k) ∧
  (∀ t i k, al.1 t ≤ i → i < al'.1 t → ¬ MD M t k → iv' t i k = 0 ∧ rv' t i k = none)
def nx (N : Nat → Nat) (t : Nat) : Nat → Nat := fun t' => N t' + (if t' = t then 1 else 0)
theorem EXT.rf {M : Mo} {al : Al} {iv : Iv} {rv : Rv} : EXT (fun _ => 0) M al iv rv al iv rv := ⟨fun _ => rfl, fun _ _ _ => rfl, fun _ _ _ _ _ => ⟨rfl, rfl⟩, fun _ _ _ h1 h2 => absurd h2 (by omega)⟩
theorem EXT.new {N : Nat → Nat} {M : Mo} {al al1 : Al} {iv iv1 : Iv} {rv rv1 : Rv} (h : EXT N M al iv rv al1 iv1 rv1) (t a : Nat) : EXT (nx N t) M al iv rv (grow al1 t a) (clr iv1 t (al1.1 t) 0) (clr rv1 t (al1.1 t) none) := by
  obtain ⟨h1, h2, h3, h4⟩ := h
  refine ⟨fun t' => by rw [grow_ct, h1]; unfold nx; omega, fun t' i' q => ?_, fun t' i' k' q m => ?_, fun t' i' k' q1 q2 m => ?_⟩
  · rw [grow_ad (by rw [h1]; omega)]; exact h2 t' i' q
  · have e : ¬ (t' = t ∧ i' = al1.1 t) := fun z => by obtain ⟨rfl, rfl⟩ := z; have := h1 t'; omega
    rw [clr_ne e, clr_ne e]; exact h3 t' i' k' q m
  · by_cases e : t' = t ∧ i' = al1.1 t
    · obtain ⟨rfl, rfl⟩ := e; rw [clr_self, clr_self]; exact ⟨rfl, rfl⟩
    · rw [clr_ne e, clr_ne e]
      refine h4 t' i' k' q1 ?_ m
      rw [grow_ct] at q2
      by_cases z : t' = t
      · subst z; simp at q2; rcases Nat.lt_or_ge i' (al1.1 t') with y | y
        · exact y
        · exact absurd ⟨rfl, by omega⟩ e
      · simp [z] at q2; exact q2
theorem EXT.puti {N : Nat → Nat} {M : Mo} {al al1 : Al} {iv iv1 : Iv} {rv rv1 : Rv} (h : EXT N M al iv rv al1 iv1 rv1) {t i k : Nat} {x : Int32} (hm : MD M t k) : EXT N M al iv rv al1 (up3 iv1 t i k x) rv1 := by
  obtain ⟨h1, h2, h3, h4⟩ := h
  refine ⟨h1, h2, fun t' i' k' q m => ?_, fun t' i' k' q1 q2 m => ?_⟩
  · rw [up3_ne (fun z => m (by obtain ⟨rfl, -, rfl⟩ := z; exact hm))]; exact h3 t' i' k' q m
  · rw [up3_ne (fun z => m (by obtain ⟨rfl, -, rfl⟩ := z; exact hm))]; exact h4 t' i' k' q1 q2 m
theorem EXT.putr {N : Nat → Nat} {M : Mo} {al al1 : Al} {iv iv1 : Iv} {rv rv1 : Rv} (h : EXT N M al iv rv al1 iv1 rv1) {t i k : Nat} {x : Option Nat} (hm : MD M t k) : EXT N M al iv rv al1 iv1 (up3 rv1 t i k x) := by
  obtain ⟨h1, h2, h3, h4⟩ := h
  refine ⟨h1, h2, fun t' i' k' q m => ?_, fun t' i' k' q1 q2 m => ?_⟩
  · rw [up3_ne (fun z => m (by obtain ⟨rfl, -, rfl⟩ := z; exact hm))]; exact h3 t' i' k' q m
  · rw [up3_ne (fun z => m (by obtain ⟨rfl, -, rfl⟩ := z; exact hm))]; exact h4 t' i' k' q1 q2 m
theorem MD.sub {a b : Mo} (h : subM a b) {t k : Nat} (q : MD a t k) : MD b t k := q.elim (fun z => Or.inl (h.1 t z)) (fun z => Or.inr (h.2 _ z))
theorem EXT.tr {N N1 : Nat → Nat} {M M1 : Mo} {al al1 al2 : Al} {iv iv1 iv2 : Iv} {rv rv1 rv2 : Rv} (h : EXT N M al iv rv al1 iv1 rv1) (g : EXT N1 M1 al1 iv1 rv1 al2 iv2 rv2) (hs : subM M1 M) : EXT (fun t => N t + N1 t) M al iv rv al2 iv2 rv2 := by
  obtain ⟨h1, h2, h3, h4⟩ := h
  obtain ⟨g1, g2, g3, g4⟩ := g
  refine ⟨fun t => by rw [g1, h1]; exact Nat.add_assoc _ _ _, fun t i q => ?_, fun t i k q m => ?_, fun t i k q1 q2 m => ?_⟩
  · rw [g2 t i (by rw [h1]; omega)]; exact h2 t i q
  · have z := g3 t i k (by rw [h1]; omega) (fun w => m (w.sub hs))
    rw [z.1, z.2]; exact h3 t i k q m
  · rcases Nat.lt_or_ge i (al1.1 t) with y | y
    · have z := g3 t i k y (fun w => m (w.sub hs))
      rw [z.1, z.2]; exact h4 t i k q1 y m
    · exact g4 t i k y q2 (fun w => m (w.sub hs))
/-- the references of one cell that are set -/
def NN (t i : Nat) (L : List Nat) (rv : Rv) : Prop := ∀ k, k ∈ L → ∃ j, rv t i k = some j
theorem NN.nil {t i : Nat} {rv : Rv} : NN t i [] rv := fun _ h => by cases h
theorem NN.put {t i : Nat} {L : List Nat} {rv : Rv} (h : NN t i L rv) (k j : Nat) : NN t i (k :: L) (up3 rv t i k (some j)) := fun k' q => by
  by_cases e : k' = k
  · subst e; exact ⟨j, up3_self _ _ _ _ _⟩
  · rw [up3_ne (fun z => e z.2.2)]
    exact h k' ((List.mem_cons.mp q).resolve_left e)
theorem NN.keep {t i : Nat} {L : List Nat} {rv rv' : Rv} (h : NN t i L rv) (e : ∀ k, rv' t i k = rv t i k) : NN t i L rv' := fun k q => by rw [e k]; exact h k q
