section XS
variable {al : Al} {iv : Iv} {rv : Rv} {x : Int32}
theorem pall (hG : GI al iv rv) (h0 : 0 ≤ x.toInt) (h1 : x.toInt < 10) : rv 53 0 x.toNatClampNeg = some x.toNatClampNeg := hG.2.2.2.2.2.2.1.1 _ (by rw [clamp_n]; omega)
theorem dall (hG : GI al iv rv) (h0 : 0 ≤ x.toInt) (h1 : x.toInt < 10) : rv 54 0 x.toNatClampNeg = some x.toNatClampNeg := hG.2.2.2.2.2.2.1.2.1 _ (by rw [clamp_n]; omega)
theorem tall (hG : GI al iv rv) (h0 : 0 ≤ x.toInt) (h1 : x.toInt < (iv 57 0 1).toInt) : rv 58 0 x.toNatClampNeg = some x.toNatClampNeg := by
  have s := hG.2.2.2.1
  exact s.1 _ (by have := ix_nat h0; have := s.2; omega)
theorem kall (hG : GI al iv rv) (h0 : 0 ≤ x.toInt) (h1 : x.toInt < (iv 63 0 1).toInt) : rv 64 0 x.toNatClampNeg = some x.toNatClampNeg := by
  have s := hG.2.2.2.2.1
  exact s.1 _ (by have := ix_nat h0; have := s.2; omega)
theorem call_ (hG : GI al iv rv) (h0 : 0 ≤ x.toInt) (h1 : x.toInt < (iv 84 0 1).toInt) : rv 85 0 x.toNatClampNeg = some x.toNatClampNeg := by
  have s := hG.2.2.2.2.2.1
  exact s.1 _ (by have := ix_nat h0; have := s.2; omega)
theorem tleg (hG : GI al iv rv) {i : Nat} (hi : i < al.1 65) (h0 : 0 ≤ x.toInt) (h1 : x.toInt < (iv 65 i 4).toInt) : ∃ j, rv 66 i x.toNatClampNeg = some j := (hG.2.2.2.2.2.2.2.1 i hi).2.2 _ (by rw [ix_nat h0]; exact h1)
theorem GI.put66 (h : GI al iv rv) {i k j : Nat} (hj : j < al.1 62) : GI al iv (up3 rv 66 i k (some j)) := by
  refine ⟨h.1, h.2.1.put rfl hj, h.2.2.1, ?_⟩
  obtain ⟨y1, y2, y3, y4, y5, y6, y7⟩ := h.2.2.2
  refine ⟨y1, y2, y3, y4, fun i' hi' => ⟨(y5 i' hi').1, (y5 i' hi').2.1, fun k' hk' => ?_⟩, y6, y7⟩
  rcases up3_cases (f := rv) (t := 66) (i := i) (k := k) (t' := 66) (i' := i') (k' := k') (x := some j) with ⟨-, -, -, e⟩ | e
  · exact ⟨j, e⟩
  · rw [e]; exact (y5 i' hi').2.2 k' hk'
theorem GI.put65 (h : GI al iv rv) {i j : Nat} {v : Int32} (hr : 0 ≤ v.toInt ∧ v.toInt ≤ 4) (hx : x.toInt = (iv 65 i 4).toInt) (hv : v.toInt = x.toInt + 1) (h0 : 0 ≤ x.toInt) (hn : rv 66 i x.toNatClampNeg = some j) : GI al (up3 iv 65 i 4 v) rv := by
  refine ⟨h.1.put hr, h.2.1, h.2.2.1, ?_⟩
  obtain ⟨y1, y2, y3, y4, y5, y6, y7⟩ := h.2.2.2
  refine ⟨y1, y2, y3, ⟨y4.1, y4.2.1, fun q hq => ?_⟩, fun i' hi' => ⟨(y5 i' hi').1, (y5 i' hi').2.1, fun k' hk' => ?_⟩, y6, y7⟩
  · rw [up3_ne (fun z => absurd z.1 (by decide))]; exact y4.2.2 q hq
  · rcases up3_cases (f := iv) (t := 65) (i := i) (k := 4) (t' := 65) (i' := i') (k' := 4) (x := v) with ⟨-, ei, -, e⟩ | e
    · subst ei
      rw [e] at hk'
      rcases Int.lt_or_le (k' : Int) (iv 65 i' 4).toInt with q | q
      · exact (y5 i' hi').2.2 k' q
      · have e2 : k' = x.toNatClampNeg := by rw [clamp_n]; omega
        rw [e2]; exact ⟨j, hn⟩
    · rw [e] at hk'; exact (y5 i' hi').2.2 k' hk'
theorem nn_put {e y : Int32} {rv1 : Rv} {j : Nat} (h : ∀ k : Nat, (k : Int) < e.toInt → ∃ j, rv 61 0 k = some j) (e1 : rv1 = up3 rv 61 0 e.toNatClampNeg (some j)) (h0 : 0 ≤ e.toInt) (hy : y.toInt = e.toInt + 1) : ∀ k : Nat, (k : Int) < y.toInt → ∃ j, rv1 61 0 k = some j := by
  intro k hk
  rw [e1]
  by_cases ek : k = e.toNatClampNeg
  · rw [ek]; exact ⟨j, up3_self _ _ _ _ _⟩
  · rw [up3_ne (fun z => ek z.2.2)]
    exact h k (by have := ix_nat h0; omega)
end XS
