-- what an adder leaves: more cells, the old ones as they were but in md
def EX (md : Mo) (al : Al) (iv : Iv) (rv : Rv) (al' : Al) (iv' : Iv) (rv' : Rv) : Prop :=
  (∀ t, al.1 t ≤ al'.1 t) ∧ (∀ t i, i < al.1 t → al'.2 t i = al.2 t i) ∧ (∀ t i k, i < al.1 t → ¬ MD md t k → iv' t i k = iv t i k ∧ rv' t i k = rv t i k)
theorem EX.of {md : Mo} {al : Al} {iv iv' : Iv} {rv rv' : Rv} (h1 : FR md iv iv') (h2 : FR md rv rv') : EX md al iv rv al iv' rv' := ⟨fun _ => Nat.le_refl _, fun _ _ _ => rfl, fun t i k _ m => ⟨h1 t i k m, h2 t i k m⟩⟩
theorem EX.mono {a b : Mo} {al al' : Al} {iv iv' : Iv} {rv rv' : Rv} (h : EX a al iv rv al' iv' rv') (hs : subM a b) : EX b al iv rv al' iv' rv' := ⟨h.1, h.2.1, fun t i k q m => h.2.2 t i k q (fun w => m (w.sub hs))⟩
theorem EX.tr {a b : Mo} {al al1 al2 : Al} {iv iv1 iv2 : Iv} {rv rv1 rv2 : Rv} (h : EX a al iv rv al1 iv1 rv1) (g : EX b al1 iv1 rv1 al2 iv2 rv2) {m : Mo} (ha : subM a m) (hb : subM b m) : EX m al iv rv al2 iv2 rv2 := by
  refine ⟨fun t => Nat.le_trans (h.1 t) (g.1 t), fun t i q => ?_, fun t i k q w => ?_⟩
  · rw [g.2.1 t i (Nat.lt_of_lt_of_le q (h.1 t))]; exact h.2.1 t i q
  · have z1 := g.2.2 t i k (Nat.lt_of_lt_of_le q (h.1 t)) (fun y => w (y.sub hb))
    have z2 := h.2.2 t i k q (fun y => w (y.sub ha))
    exact ⟨z1.1.trans z2.1, z1.2.trans z2.2⟩
theorem MD.no {md : Mo} {t k : Nat} (ht : t ∉ md.1 ∧ t ∉ md.2.map (fun p => p.1)) : ¬ MD md t k := fun q => by
  rcases q with q | q
  · exact ht.1 q
  · exact ht.2 (List.mem_map.mpr ⟨_, q, rfl⟩)
theorem RF.rb {al : Al} {rv : Rv} (h : RF al rv) : RB al rv := fun t i k t' h1 h2 h3 j h4 => (h t i k t' h1 h2 h3).1 j h4
theorem RF.ext {al al' : Al} {rv rv' : Rv} (hF : RF al rv) (hB : RB al' rv') (ho : ∀ t i k, i < al.1 t → nnl t k = true → rv' t i k = rv t i k) (hn : ∀ t i k t', al.1 t ≤ i → i < al'.1 t → k < (pt t).2.1 → (pt t).2.2.2 k = some t' → nnl t k = true → ∃ j, rv' t i k = some j) : RF al' rv' := by
  intro t i k t' h1 h2 h3
  refine ⟨fun j hj => hB t i k t' h1 h2 h3 j hj, fun hk => ?_⟩
  rcases Nat.lt_or_ge i (al.1 t) with q | q
  · rw [ho t i k q hk]; exact (hF t i k t' q h2 h3).2 hk
  · exact hn t i k t' q h1 h2 h3 hk
/-- a store whose cells of the watched kinds are as they were; what an adder changes is told apart -/
theorem SP.keep1 {al al' : Al} {iv iv' : Iv} {rv rv' : Rv} (h : SP al iv rv) (hC : CN al) (hc : ∀ t, t ≠ 62 → al'.1 t = al.1 t) (ho : ∀ t i k, i < al.1 t → ¬ MD ([58], [(57, 1)]) t k → iv' t i k = iv t i k ∧ rv' t i k = rv t i k)
    (h1 : (∀ i : Nat, i < al'.1 62 → rv' 58 0 i = some i) ∧ (iv' 57 0 1).toInt = al'.1 62) : SP al' iv' rv' := by
  obtain ⟨-, ⟨x3, x4⟩, ⟨x5, x6⟩, ⟨x7, x8, x9⟩, x10, x11, x12, x13, x14⟩ := h
  have s1 : ∀ t, t ∈ sng → 0 < al.1 t := fun t ht => by rw [hC.1 t ht]; decide
  have c65 := hc 65 (by decide)
  have c88 := hc 88 (by decide)
  have c66 : al.1 66 = al.1 65 := hC.2.2.2.1
  have c56 : al.1 56 = 10 := hC.2.1
  refine ⟨h1, ⟨fun i hi => ?_, ?_⟩, ⟨fun i hi => ?_, ?_⟩, ⟨fun i hi => ?_, fun i hi => ?_, fun i hi => ?_⟩, fun i hi => ⟨?_, ?_, fun k hk => ?_⟩, fun i hi => ?_, fun t ht => ?_, fun c hc => ?_, fun k hk => ?_⟩
  · rw [(ho 64 0 i (s1 64 (by decide)) (MD.no (by decide))).2]; exact x3 i (by omega)
  · rw [(ho 63 0 1 (s1 63 (by decide)) (by decide)).1, c65]; exact x4
  · rw [(ho 85 0 i (s1 85 (by decide)) (MD.no (by decide))).2]; exact x5 i (by omega)
  · rw [(ho 84 0 1 (s1 84 (by decide)) (by decide)).1, c88]; exact x6
  · rw [(ho 53 0 i (s1 53 (by decide)) (MD.no (by decide))).2]; exact x7 i hi
  · rw [(ho 54 0 i (s1 54 (by decide)) (MD.no (by decide))).2]; exact x8 i hi
  · rw [(ho 56 i 0 (by omega) (by decide)).1]; exact x9 i hi
  · rw [(ho 65 i 3 (by omega) (by decide)).2]; exact (x10 i (by omega)).1
  · rw [(ho 65 i 5 (by omega) (by decide)).2]; exact (x10 i (by omega)).2.1
  · rw [(ho 65 i 4 (by omega) (by decide)).1] at hk
    rw [(ho 66 i k (by omega) (MD.no (by decide))).2]; exact (x10 i (by omega)).2.2 k hk
  · rw [(ho 88 i 2 (by omega) (by decide)).2]; exact x11 i (by omega)
  · rw [(ho 0 0 20 (s1 0 (by decide)) (by decide)).1] at ht
    rw [(ho 19 0 t (s1 19 (by decide)) (MD.no (by decide))).1]; exact x12 t ht
  · rw [(ho 0 0 41 (s1 0 (by decide)) (by decide)).1] at hc
    rw [(ho 35 0 c (s1 35 (by decide)) (MD.no (by decide))).1, (ho 0 0 20 (s1 0 (by decide)) (by decide)).1]; exact x13 c hc
  · rw [(ho 0 0 6 (s1 0 (by decide)) (by decide)).1] at hk
    rw [(ho 9 0 k (s1 9 (by decide)) (MD.no (by decide))).1, (ho 10 0 k (s1 10 (by decide)) (MD.no (by decide))).1]; exact x14 k hk
theorem SP.keep2 {al al' : Al} {iv iv' : Iv} {rv rv' : Rv} (h : SP al iv rv) (hC : CN al) (hc : ∀ t, t ≠ 65 → t ≠ 66 → t ≠ 67 → al'.1 t = al.1 t) (hc1 : al'.1 65 = al.1 65 + 1) (ho : ∀ t i k, i < al.1 t → ¬ MD ([64], [(63, 1)]) t k → iv' t i k = iv t i k ∧ rv' t i k = rv t i k)
    (h1 : (∀ i : Nat, i < al'.1 65 → rv' 64 0 i = some i) ∧ (iv' 63 0 1).toInt = al'.1 65) (h2 : rv' 65 (al.1 65) 3 = some (al.1 65) ∧ rv' 65 (al.1 65) 5 = some (al.1 65) ∧ ∀ k : Nat, (k : Int) < (iv' 65 (al.1 65) 4).toInt → ∃ j, rv' 66 (al.1 65) k = some j) : SP al' iv' rv' := by
  obtain ⟨⟨x1, x2⟩, -, ⟨x5, x6⟩, ⟨x7, x8, x9⟩, x10, x11, x12, x13, x14⟩ := h
  have s1 : ∀ t, t ∈ sng → 0 < al.1 t := fun t ht => by rw [hC.1 t ht]; decide
  have c62 := hc 62 (by decide) (by decide) (by decide)
  have c88 := hc 88 (by decide) (by decide) (by decide)
  have c66 : al.1 66 = al.1 65 := hC.2.2.2.1
  have c56 : al.1 56 = 10 := hC.2.1
  refine ⟨⟨fun i hi => ?_, ?_⟩, h1, ⟨fun i hi => ?_, ?_⟩, ⟨fun i hi => ?_, fun i hi => ?_, fun i hi => ?_⟩, fun i hi => ?_, fun i hi => ?_, fun t ht => ?_, fun c hc => ?_, fun k hk => ?_⟩
  · rw [(ho 58 0 i (s1 58 (by decide)) (MD.no (by decide))).2]; exact x1 i (by omega)
  · rw [(ho 57 0 1 (s1 57 (by decide)) (by decide)).1, c62]; exact x2
  · rw [(ho 85 0 i (s1 85 (by decide)) (MD.no (by decide))).2]; exact x5 i (by omega)
  · rw [(ho 84 0 1 (s1 84 (by decide)) (by decide)).1, c88]; exact x6
  · rw [(ho 53 0 i (s1 53 (by decide)) (MD.no (by decide))).2]; exact x7 i hi
  · rw [(ho 54 0 i (s1 54 (by decide)) (MD.no (by decide))).2]; exact x8 i hi
  · rw [(ho 56 i 0 (by omega) (by decide)).1]; exact x9 i hi
  · rcases Nat.lt_or_ge i (al.1 65) with q | q
    · refine ⟨?_, ?_, fun k hk => ?_⟩
      · rw [(ho 65 i 3 (by omega) (by decide)).2]; exact (x10 i (by omega)).1
      · rw [(ho 65 i 5 (by omega) (by decide)).2]; exact (x10 i (by omega)).2.1
      · rw [(ho 65 i 4 (by omega) (by decide)).1] at hk
        rw [(ho 66 i k (by omega) (MD.no (by decide))).2]; exact (x10 i (by omega)).2.2 k hk
    · have e : i = al.1 65 := by omega
      rw [e]; exact h2
  · rw [(ho 88 i 2 (by omega) (by decide)).2]; exact x11 i (by omega)
  · rw [(ho 0 0 20 (s1 0 (by decide)) (by decide)).1] at ht
    rw [(ho 19 0 t (s1 19 (by decide)) (MD.no (by decide))).1]; exact x12 t ht
  · rw [(ho 0 0 41 (s1 0 (by decide)) (by decide)).1] at hc
    rw [(ho 35 0 c (s1 35 (by decide)) (MD.no (by decide))).1, (ho 0 0 20 (s1 0 (by decide)) (by decide)).1]; exact x13 c hc
  · rw [(ho 0 0 6 (s1 0 (by decide)) (by decide)).1] at hk
    rw [(ho 9 0 k (s1 9 (by decide)) (MD.no (by decide))).1, (ho 10 0 k (s1 10 (by decide)) (MD.no (by decide))).1]; exact x14 k hk
theorem SP.keep3 {al al' : Al} {iv iv' : Iv} {rv rv' : Rv} (h : SP al iv rv) (hC : CN al) (hc : ∀ t, t ≠ 88 → t ≠ 89 → al'.1 t = al.1 t) (hc1 : al'.1 88 = al.1 88 + 1) (ho : ∀ t i k, i < al.1 t → ¬ MD ([85], [(84, 1), (65, 6)]) t k → iv' t i k = iv t i k ∧ rv' t i k = rv t i k)
    (h1 : (∀ i : Nat, i < al'.1 88 → rv' 85 0 i = some i) ∧ (iv' 84 0 1).toInt = al'.1 88) (h2 : rv' 88 (al.1 88) 2 = some (al.1 88)) : SP al' iv' rv' := by
  obtain ⟨⟨x1, x2⟩, ⟨x3, x4⟩, -, ⟨x7, x8, x9⟩, x10, x11, x12, x13, x14⟩ := h
  have s1 : ∀ t, t ∈ sng → 0 < al.1 t := fun t ht => by rw [hC.1 t ht]; decide
  have c62 := hc 62 (by decide) (by decide)
  have c65 := hc 65 (by decide) (by decide)
  have c66 : al.1 66 = al.1 65 := hC.2.2.2.1
  have c56 : al.1 56 = 10 := hC.2.1
  refine ⟨⟨fun i hi => ?_, ?_⟩, ⟨fun i hi => ?_, ?_⟩, h1, ⟨fun i hi => ?_, fun i hi => ?_, fun i hi => ?_⟩, fun i hi => ⟨?_, ?_, fun k hk => ?_⟩, fun i hi => ?_, fun t ht => ?_, fun c hc => ?_, fun k hk => ?_⟩
  · rw [(ho 58 0 i (s1 58 (by decide)) (MD.no (by decide))).2]; exact x1 i (by omega)
  · rw [(ho 57 0 1 (s1 57 (by decide)) (by decide)).1, c62]; exact x2
  · rw [(ho 64 0 i (s1 64 (by decide)) (MD.no (by decide))).2]; exact x3 i (by omega)
  · rw [(ho 63 0 1 (s1 63 (by decide)) (by decide)).1, c65]; exact x4
  · rw [(ho 53 0 i (s1 53 (by decide)) (MD.no (by decide))).2]; exact x7 i hi
  · rw [(ho 54 0 i (s1 54 (by decide)) (MD.no (by decide))).2]; exact x8 i hi
  · rw [(ho 56 i 0 (by omega) (by decide)).1]; exact x9 i hi
  · rw [(ho 65 i 3 (by omega) (by decide)).2]; exact (x10 i (by omega)).1
  · rw [(ho 65 i 5 (by omega) (by decide)).2]; exact (x10 i (by omega)).2.1
  · rw [(ho 65 i 4 (by omega) (by decide)).1] at hk
    rw [(ho 66 i k (by omega) (MD.no (by decide))).2]; exact (x10 i (by omega)).2.2 k hk
  · rcases Nat.lt_or_ge i (al.1 88) with q | q
    · rw [(ho 88 i 2 (by omega) (by decide)).2]; exact x11 i q
    · have e : i = al.1 88 := by omega
      rw [e]; exact h2
  · rw [(ho 0 0 20 (s1 0 (by decide)) (by decide)).1] at ht
    rw [(ho 19 0 t (s1 19 (by decide)) (MD.no (by decide))).1]; exact x12 t ht
  · rw [(ho 0 0 41 (s1 0 (by decide)) (by decide)).1] at hc
    rw [(ho 35 0 c (s1 35 (by decide)) (MD.no (by decide))).1, (ho 0 0 20 (s1 0 (by decide)) (by decide)).1]; exact x13 c hc
  · rw [(ho 0 0 6 (s1 0 (by decide)) (by decide)).1] at hk
    rw [(ho 9 0 k (s1 9 (by decide)) (MD.no (by decide))).1, (ho 10 0 k (s1 10 (by decide)) (MD.no (by decide))).1]; exact x14 k hk
-- a new LEG
def legIv (iv : Iv) (n : Nat) (num pl cr lv_ ar siz : Int32) : Iv := up3 (up3 (up3 (up3 (up3 (up3 (clr iv 62 n 0) 62 n 0 num) 62 n 3 pl) 62 n 4 cr) 62 n 5 lv_) 62 n 6 ar) 57 0 1 siz
def legRv (rv : Rv) (n pf pt_ : Nat) : Rv := up3 (up3 (up3 (clr rv 62 n none) 62 n 1 (some pf)) 62 n 2 (some pt_)) 58 0 n (some n)
theorem legIv_o {iv : Iv} {n : Nat} {num pl cr lv_ ar siz : Int32} {t i k : Nat} (q : ¬ (t = 62 ∧ i = n)) (q2 : ¬ (t = 57 ∧ i = 0 ∧ k = 1)) : legIv iv n num pl cr lv_ ar siz t i k = iv t i k := by
  have z : ∀ {a : Nat}, ¬ (t = 62 ∧ i = n ∧ k = a) := fun w => q ⟨w.1, w.2.1⟩
  unfold legIv
  rw [up3_ne q2, up3_ne z, up3_ne z, up3_ne z, up3_ne z, up3_ne z, clr_ne q]
theorem legRv_o {rv : Rv} {n pf pt_ t i k : Nat} (q : ¬ (t = 62 ∧ i = n)) (q2 : ¬ (t = 58 ∧ i = 0 ∧ k = n)) : legRv rv n pf pt_ t i k = rv t i k := by
  have z : ∀ {a : Nat}, ¬ (t = 62 ∧ i = n ∧ k = a) := fun w => q ⟨w.1, w.2.1⟩
  unfold legRv
  rw [up3_ne q2, up3_ne z, up3_ne z, clr_ne q]
theorem leg_GI {al : Al} {iv : Iv} {rv : Rv} (hG : GI al iv rv) (a : Nat) {num pl cr lv_ ar siz : Int32} {pf pt_ : Nat} (hpf : pf < al.1 56) (hpt : pt_ < al.1 56) (hnum : num.toInt = al.1 62) (hsiz : siz.toInt = al.1 62 + 1) (hlt : al.1 62 < 40) (h3 : 0 ≤ pl.toInt ∧ pl.toInt ≤ 5) (h4 : 0 ≤ cr.toInt ∧ cr.toInt ≤ 5) (h5 : 0 ≤ lv_.toInt ∧ lv_.toInt ≤ 20000) (h6 : 0 ≤ ar.toInt ∧ ar.toInt ≤ 20000) :
    GI (grow al 62 a) (legIv iv (al.1 62) num pl cr lv_ ar siz) (legRv rv (al.1 62) pf pt_) ∧ EX ([58], [(57, 1)]) al iv rv (grow al 62 a) (legIv iv (al.1 62) num pl cr lv_ ar siz) (legRv rv (al.1 62) pf pt_) := by
  obtain ⟨hR, hF, hC, hP⟩ := hG
  have ct := grow_ct al 62 a
  have old : ∀ t i k, i < al.1 t → ¬ MD ([58], [(57, 1)]) t k → legIv iv (al.1 62) num pl cr lv_ ar siz t i k = iv t i k ∧ legRv rv (al.1 62) pf pt_ t i k = rv t i k := fun t i k q m => by
    have e : ¬ (t = 62 ∧ i = al.1 62) := fun z => by obtain ⟨rfl, rfl⟩ := z; exact Nat.lt_irrefl _ q
    exact ⟨legIv_o e (fun z => m (by obtain ⟨rfl, -, rfl⟩ := z; decide)), legRv_o e (fun z => m (by obtain ⟨rfl, -, -⟩ := z; exact Or.inl (by decide)))⟩
  have hB : RB (grow al 62 a) (legRv rv (al.1 62) pf pt_) := by
    refine RB.put (t1 := 62) (RB.put (t1 := 56) (RB.put (t1 := 56) (hF.rb.new 62 a) rfl ?_) rfl ?_) rfl ?_
    · rw [ct]; simp; exact hpf
    · rw [ct]; simp; exact hpt
    · rw [ct]; simp
  have c58 : al.1 58 = 1 := hC.1 58 (by decide)
  refine ⟨⟨?_, ?_, ?_, ?_⟩, fun t => by rw [ct]; omega, fun t i q => grow_ad q, old⟩
  · refine RG.put (RG.put (RG.put (RG.put (RG.put (RG.put (hR.new 62 a) ?_) ?_) ?_) ?_) ?_) ?_
    · exact ⟨show (0 : Int) ≤ _ by omega, show _ ≤ (39 : Int) by omega⟩
    · exact h3
    · exact h4
    · exact h5
    · exact h6
    · exact ⟨show (0 : Int) ≤ _ by omega, show _ ≤ (40 : Int) by omega⟩
  · refine hF.ext hB (fun t i k q m => ?_) (fun t i k t' q1 q2 q3 q4 q5 => ?_)
    · have e : ¬ (t = 62 ∧ i = al.1 62) := fun z => by obtain ⟨rfl, rfl⟩ := z; exact Nat.lt_irrefl _ q
      exact legRv_o e (fun z => by obtain ⟨rfl, -, -⟩ := z; cases m)
    · have e : t = 62 ∧ i = al.1 62 := by
        rw [ct] at q2
        by_cases z : t = 62
        · subst z; simp at q2; exact ⟨rfl, by omega⟩
        · simp [z] at q2; omega
      obtain ⟨rfl, rfl⟩ := e
      unfold legRv
      rw [up3_ne (fun z => absurd z.1 (by decide))]
      have hk : k = 1 ∨ k = 2 := by
        have q3' : k < 15 := q3
        match k, q3', q4 with
        | 1, _, _ => exact Or.inl rfl
        | 2, _, _ => exact Or.inr rfl
        | 0, _, h => cases h
        | 3, _, h => cases h
        | 4, _, h => cases h
        | 5, _, h => cases h
        | 6, _, h => cases h
        | 7, _, h => cases h
        | 8, _, h => cases h
        | 9, _, h => cases h
        | 10, _, h => cases h
        | 11, _, h => cases h
        | 12, _, h => cases h
        | 13, _, h => cases h
        | 14, _, h => cases h
      rcases hk with rfl | rfl
      · rw [up3_ne (fun z => absurd z.2.2 (by decide)), up3_self]; exact ⟨_, rfl⟩
      · rw [up3_self]; exact ⟨_, rfl⟩
  · refine ⟨fun t ht => ?_, ?_, ?_, ?_, ?_, ?_⟩
    · rw [ct, if_neg (fun e => by subst e; exact absurd ht (by decide))]; exact hC.1 t ht
    · rw [ct]; exact hC.2.1
    · rw [ct]; exact hC.2.2.1
    · rw [ct, ct]; exact hC.2.2.2.1
    · rw [ct, ct]; exact hC.2.2.2.2.1
    · rw [ct, ct]; exact hC.2.2.2.2.2
  · refine hP.keep1 hC (fun t e => by rw [ct, if_neg e]; rfl) old ⟨fun i hi => ?_, ?_⟩
    · rw [ct] at hi
      simp at hi
      by_cases z : i = al.1 62
      · subst z; exact up3_self _ _ _ _ _
      · rw [legRv_o (fun w => absurd w.1 (by decide)) (fun w => z w.2.2)]; exact hP.1.1 i (by omega)
    · rw [ct]
      show (up3 _ 57 0 1 siz 57 0 1).toInt = _
      rw [up3_self, hsiz]; simp
