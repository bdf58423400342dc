abbrev n11 : Nat → Nat := (nx (nx (fun t => (nx (fun t => (nx (fun t => (nx (fun t => (nx (fun t => (nx (fun t => (nx (fun t => (nx (fun _ => 0) 52) t + (fun t => ((if t = 53 then 1 else 0) + (if t = 56 then 10 else 0)) + ((if t = 54 then 1 else 0) + (if t = 55 then 10 else 0))) t) 57) t + (nx (nx (nx (nx (fun _ => 0) 58) 59) 60) 61) t) 63) t + (nx (fun _ => 0) 64) t) 68) t + (nx (nx (nx (nx (nx (nx (nx (nx (nx (nx (fun _ => 0) 69) 70) 71) 72) 73) 74) 75) 76) 77) 78) t) 79) t + (nx (nx (nx (nx (fun _ => 0) 80) 81) 82) 83) t) 84) t + (nx (nx (nx (fun _ => 0) 85) 86) 87) t) 90) t + (nx (nx (nx (nx (nx (nx (nx (fun _ => 0) 91) 92) 93) 94) 95) 96) 97) t) 50) 51)
abbrev m11 : Mo := ([50, 53, 54, 80], [(49, 0), (49, 1), (49, 2), (49, 3), (49, 4), (49, 5), (49, 6), (49, 7), (49, 8), (49, 9), (52, 0), (52, 1), (56, 0), (56, 2), (57, 0), (57, 2), (57, 3), (57, 4), (63, 0), (68, 0), (68, 1), (68, 2), (68, 3), (68, 4), (68, 6), (68, 7), (68, 8), (68, 9), (68, 10), (79, 0), (79, 1), (79, 2), (79, 3), (84, 0), (84, 2), (84, 3), (90, 0), (90, 1), (90, 2), (90, 3), (90, 4), (90, 5), (90, 7)])
abbrev n12 : Nat → Nat := (nx (nx (nx (nx (nx (nx (nx (nx (nx (nx (nx (nx (nx (nx (nx (nx (nx (nx (nx (nx (nx (nx (nx (nx (nx (nx (nx (nx (nx (nx (nx (nx (nx (nx (nx (nx (nx (nx (nx (nx (nx (nx (nx (nx (nx (nx (nx (nx (fun _ => 0) 1) 2) 3) 4) 5) 6) 7) 8) 9) 10) 11) 12) 13) 14) 15) 16) 17) 18) 19) 20) 21) 22) 23) 24) 25) 26) 27) 28) 29) 30) 31) 32) 33) 34) 35) 36) 37) 38) 39) 40) 41) 42) 43) 44) 45) 46) 47) 48)
abbrev m12 : Mo := ([3, 15, 31], [(0, 1), (0, 2), (0, 3), (0, 4), (0, 7), (0, 8), (0, 9), (0, 10), (0, 11), (0, 12), (0, 13), (0, 14), (0, 15), (0, 16), (0, 17), (0, 18), (0, 19), (0, 21), (0, 22), (0, 23), (0, 25), (0, 26), (0, 27), (0, 28), (0, 29), (0, 31), (0, 32), (0, 33), (0, 34), (0, 35), (0, 36), (0, 38), (0, 39), (0, 40), (0, 42), (0, 43), (0, 44), (0, 45), (0, 46), (0, 47), (0, 49), (0, 50), (0, 51), (0, 52), (0, 53), (0, 54), (0, 58), (0, 59)])
def CT (t : Nat) : Nat := 0 + (if t = 49 then 1 else 0) + n11 t + (if t = 0 then 1 else 0) + n12 t
theorem ct_sng : ∀ t, t ∈ sng → CT t = 1 := by decide +kernel
def refAt (t k : Nat) : Bool := ([59, 58, 54, 53, 52, 51, 50, 49, 47, 46, 45, 44, 43, 42, 40, 39, 38, 36, 35, 34, 33, 32, 31, 29, 28, 27, 26, 25, 23, 22, 21, 19, 18, 17, 16, 15, 14, 13, 12, 11, 10, 9, 8, 7, 4, 3, 2, 1].map (fun k => (0, k)) ++ ([8, 7, 6, 5, 4, 3, 2, 1, 0].map (fun k => (49, k)) ++ [(90, 7), (90, 5), (90, 4), (90, 3), (90, 2), (90, 1), (90, 0), (84, 3), (84, 2), (84, 0), (79, 3), (79, 2), (79, 1), (79, 0), (68, 10), (68, 9), (68, 8), (68, 7), (68, 6), (68, 4), (68, 3), (68, 2), (68, 1), (68, 0), (63, 0), (57, 4), (57, 3), (57, 2), (57, 0), (52, 0), (52, 1)])).contains (t, k) || t == 53 || t == 54 || t == 62 || t == 65 || t == 88
theorem ref_list : (List.range 98).all (fun t => (List.range (pt t).2.1).all (fun k => !((pt t).2.2.2 k).isSome || !nnl t k || refAt t k)) = true := by decide +kernel
theorem ref_at {t k t' : Nat} (h2 : k < (pt t).2.1) (h3 : (pt t).2.2.2 k = some t') (h4 : nnl t k = true) : refAt t k = true := by
  by_cases ht : t < 98
  · have a := List.all_eq_true.mp (List.all_eq_true.mp ref_list t (List.mem_range.mpr ht)) k (List.mem_range.mpr h2)
    rw [h3, h4] at a
    simpa using a
  · obtain ⟨n, rfl⟩ : ∃ n, t = n + 98 := ⟨t - 98, by omega⟩
    cases h3
theorem gi_start {al1 al2 al3 al4 : Al} {iv1 iv2 iv3 iv4 : Iv} {rv1 rv2 rv3 rv4 : Rv} (c1 : ∀ t, al1.1 t = 0 + (if t = 49 then 1 else 0)) (E1 : EXT n11 m11 al1 iv1 rv1 al2 iv2 rv2) (c3 : ∀ t, al3.1 t = al2.1 t + (if t = 0 then 1 else 0)) (b1 : ∀ t i k, iv1 t i k = 0)
    (k3 : ∀ t i k, i < al2.1 t → iv3 t i k = iv2 t i k ∧ rv3 t i k = rv2 t i k) (b3 : ∀ k, iv3 0 0 k = 0) (E2 : EXT n12 m12 al3 iv3 rv3 al4 iv4 rv4) (hR : RG al4 iv4) (hB : RB al4 rv4) (hN1 : NN 49 0 [8, 7, 6, 5, 4, 3, 2, 1, 0] rv2) (hZ : NZ [(90, 7), (90, 5), (90, 4), (90, 3), (90, 2), (90, 1), (90, 0), (84, 3), (84, 2), (84, 0), (79, 3), (79, 2), (79, 1), (79, 0), (68, 10), (68, 9), (68, 8), (68, 7), (68, 6), (68, 4), (68, 3), (68, 2), (68, 1), (68, 0), (63, 0), (57, 4), (57, 3), (57, 2), (57, 0), (52, 0), (52, 1)] al2 rv2) (hP : PF al2 iv2 rv2) (hN2 : NN 0 0 [59, 58, 54, 53, 52, 51, 50, 49, 47, 46, 45, 44, 43, 42, 40, 39, 38, 36, 35, 34, 33, 32, 31, 29, 28, 27, 26, 25, 23, 22, 21, 19, 18, 17, 16, 15, 14, 13, 12, 11, 10, 9, 8, 7, 4, 3, 2, 1] rv4) :
    GI al4 iv4 rv4 ∧ (∀ t i k, i < al4.1 t → ¬ MD m11 t k → ¬ MD m12 t k → iv4 t i k = 0) := by
  have ct : ∀ t, al4.1 t = CT t := fun t => by rw [E2.1, c3, E1.1, c1]; rfl
  have c2 : ∀ t, al2.1 t = 0 + (if t = 49 then 1 else 0) + n11 t := fun t => by rw [E1.1, c1]
  -- what the first leaves stays
  have keep : ∀ t i k, i < al2.1 t → ¬ MD m12 t k → iv4 t i k = iv2 t i k ∧ rv4 t i k = rv2 t i k := fun t i k q w => by
    have a := E2.2.2.1 t i k (by rw [c3]; omega) w
    have b := k3 t i k q
    exact ⟨a.1.trans b.1, a.2.trans b.2⟩
  have zero : ∀ t i k, i < al4.1 t → ¬ MD m11 t k → ¬ MD m12 t k → iv4 t i k = 0 := fun t i k q w1 w2 => by
    rcases Nat.lt_or_ge i (al2.1 t) with z | z
    · rw [(keep t i k z w2).1]
      rcases Nat.lt_or_ge i (al1.1 t) with y | y
      · rw [(E1.2.2.1 t i k y w1).1]; exact b1 t i k
      · exact (E1.2.2.2 t i k y z w1).1
    · rcases Nat.lt_or_ge i (al3.1 t) with y | y
      · have e : t = 0 ∧ i = 0 := by
          rw [c3] at y
          by_cases e0 : t = 0
          · subst e0
            have a0 : al2.1 0 = 0 := by rw [c2]; rfl
            simp at y; exact ⟨rfl, by omega⟩
          · simp [e0] at y; omega
        obtain ⟨rfl, rfl⟩ := e
        rw [(E2.2.2.1 0 0 k y w2).1]; exact b3 k
      · exact (E2.2.2.2 t i k y q w2).1
  have pos2 : ∀ t, 0 < 0 + (if t = 49 then 1 else 0) + n11 t → 0 < al2.1 t := fun t h => by rw [c2]; exact h
  have a62 : al4.1 62 = 0 := by rw [ct]; decide +kernel
  have a65 : al4.1 65 = 0 := by rw [ct]; decide +kernel
  have a88 : al4.1 88 = 0 := by rw [ct]; decide +kernel
  refine ⟨⟨hR, ?_, ?_, ?_⟩, zero⟩
  · intro t i k t' h1 h2 h3
    refine ⟨fun j hj => hB t i k t' h1 h2 h3 j hj, fun h4 => ?_⟩
    have r := ref_at h2 h3 h4
    simp only [refAt, Bool.or_eq_true, beq_iff_eq, List.contains_iff_mem] at r
    rcases r with ((((r | r) | r) | r) | r) | r
    · rcases List.mem_append.mp r with r | r
      · obtain ⟨k', hk, e⟩ := List.mem_map.mp r
        cases e
        have i0 : i = 0 := by rw [ct, show CT 0 = 1 from by decide +kernel] at h1; omega
        subst i0
        exact hN2 k hk
      · rcases List.mem_append.mp r with r | r
        · obtain ⟨k', hk, e⟩ := List.mem_map.mp r
          cases e
          have i0 : i = 0 := by rw [ct, show CT 49 = 1 from by decide +kernel] at h1; omega
          subst i0
          obtain ⟨j, hj⟩ := hN1 k hk
          exact ⟨j, by rw [(keep 49 0 k (pos2 49 (by decide +kernel)) (MD.no (by decide))).2]; exact hj⟩
        · obtain ⟨z1, j, hj⟩ := hZ (t, k) r
          have hm : (t, k) ∈ [(90, 7), (90, 5), (90, 4), (90, 3), (90, 2), (90, 1), (90, 0), (84, 3), (84, 2), (84, 0), (79, 3), (79, 2), (79, 1), (79, 0), (68, 10), (68, 9), (68, 8), (68, 7), (68, 6), (68, 4), (68, 3), (68, 2), (68, 1), (68, 0), (63, 0), (57, 4), (57, 3), (57, 2), (57, 0), (52, 0), (52, 1)] → ¬ MD m12 t k ∧ CT t = 1 := by
            intro q
            have a : ∀ q ∈ ([(90, 7), (90, 5), (90, 4), (90, 3), (90, 2), (90, 1), (90, 0), (84, 3), (84, 2), (84, 0), (79, 3), (79, 2), (79, 1), (79, 0), (68, 10), (68, 9), (68, 8), (68, 7), (68, 6), (68, 4), (68, 3), (68, 2), (68, 1), (68, 0), (63, 0), (57, 4), (57, 3), (57, 2), (57, 0), (52, 0), (52, 1)] : List (Nat × Nat)), ¬ MD m12 q.1 q.2 ∧ CT q.1 = 1 := by decide +kernel
            exact a (t, k) q
          have i0 : i = 0 := by rw [ct, (hm r).2] at h1; omega
          subst i0
          exact ⟨j, by rw [(keep t 0 k z1 (hm r).1).2]; exact hj⟩
    · subst r
      have i0 : i = 0 := by rw [ct, show CT 53 = 1 from by decide +kernel] at h1; omega
      subst i0
      exact ⟨k, by rw [(keep 53 0 k (pos2 53 (by decide +kernel)) (MD.no (by decide))).2]; exact (hP.2 k h2).1⟩
    · subst r
      have i0 : i = 0 := by rw [ct, show CT 54 = 1 from by decide +kernel] at h1; omega
      subst i0
      exact ⟨k, by rw [(keep 54 0 k (pos2 54 (by decide +kernel)) (MD.no (by decide))).2]; exact (hP.2 k h2).2.1⟩
    · subst r; omega
    · subst r; omega
    · subst r; omega
  · refine ⟨fun t ht => by rw [ct]; exact ct_sng t ht, ?_, ?_, ?_, ?_, ?_⟩
    · rw [ct]; decide +kernel
    · rw [ct]; decide +kernel
    · rw [ct, ct]; decide +kernel
    · rw [ct, ct]; decide +kernel
    · rw [ct, ct]; decide +kernel
  · have s1 : ∀ t, t ∈ sng → 0 < al4.1 t := fun t ht => by rw [ct, ct_sng t ht]; exact Nat.zero_lt_one
    have z20 : iv4 0 0 20 = 0 := zero 0 0 20 (s1 0 (by decide)) (by decide) (by decide)
    have z41 : iv4 0 0 41 = 0 := zero 0 0 41 (s1 0 (by decide)) (by decide) (by decide)
    have z6 : iv4 0 0 6 = 0 := zero 0 0 6 (s1 0 (by decide)) (by decide) (by decide)
    have tz : (0 : Int32).toInt = 0 := by decide
    refine ⟨⟨fun i hi => by omega, ?_⟩, ⟨fun i hi => by omega, ?_⟩, ⟨fun i hi => by omega, ?_⟩, ⟨fun i hi => ?_, fun i hi => ?_, fun i hi => ?_⟩, fun i hi => by omega, fun i hi => by omega, fun t ht => ?_, fun c hc => ?_, fun k hk => ?_⟩
    · rw [zero 57 0 1 (s1 57 (by decide)) (by decide) (by decide), a62]; exact tz
    · rw [zero 63 0 1 (s1 63 (by decide)) (by decide) (by decide), a65]; exact tz
    · rw [zero 84 0 1 (s1 84 (by decide)) (by decide) (by decide), a88]; exact tz
    · rw [(keep 53 0 i (pos2 53 (by decide +kernel)) (MD.no (by decide))).2]; exact (hP.2 i hi).1
    · rw [(keep 54 0 i (pos2 54 (by decide +kernel)) (MD.no (by decide))).2]; exact (hP.2 i hi).2.1
    · have : i < al2.1 56 := Nat.lt_of_lt_of_le hi hP.1.2.2
      rw [(keep 56 i 0 this (by decide)).1]; exact (hP.2 i hi).2.2.1
    · rw [z20, tz] at ht; omega
    · rw [z41, tz] at hc; omega
    · rw [z6, tz] at hk; omega
theorem n11_z : ∀ t, t < 49 → n11 t = 0 := by decide +kernel
