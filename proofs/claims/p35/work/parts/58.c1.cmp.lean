def Cclm (iv : Iv) (rv : Rv) : Prop := iv 0 0 41 = iv 84 0 1 ∧ (∀ c : Nat, (c : Int) < (iv 84 0 1).toInt → rv 88 c 0 = some (iv 35 0 c).toNatClampNeg ∧ iv 36 0 c = iv 88 c 1) ∧ (∀ t : Nat, (t : Int) < (iv 63 0 1).toInt → (¬ (iv 65 t 6).toInt = 0 ↔ ∃ c : Nat, (c : Int) < (iv 84 0 1).toInt ∧ (iv 35 0 c).toNatClampNeg = t))
abbrev T_Cclm : List Nat := [35, 36]
abbrev F_Cclm : List (Nat × Nat) := [(0, 41), (84, 1), (88, 0), (88, 1), (65, 6), (63, 1)]
theorem Cclm.keep {al : Al} {iv iv' : Iv} {rv rv' : Rv} (h : Cclm iv rv) (hG : GI al iv rv) (e : KP T_Cclm F_Cclm al iv rv iv' rv') : Cclm iv' rv' := by
  have e84 := (e 84 0 1 (h1_84 hG) (Or.inr (by decide))).1
  have e35 : ∀ c, iv' 35 0 c = iv 35 0 c := fun c => (e 35 0 c (h1_35 hG) (Or.inl (by decide))).1
  have n := hG.2.2.2.2.2.1.2
  have n5 := hG.2.2.2.2.1.2
  refine ⟨by rw [e84, (e 0 0 41 (h1_0 hG) (Or.inr (by decide))).1]; exact h.1, fun c hc => ?_, fun t ht => ?_⟩
  · rw [e84] at hc
    rw [e35, (e 36 0 c (h1_36 hG) (Or.inl (by decide))).1, (e 88 c 0 (by omega) (Or.inr (by decide))).2, (e 88 c 1 (by omega) (Or.inr (by decide))).1]; exact h.2.1 c hc
  · rw [(e 63 0 1 (h1_63 hG) (Or.inr (by decide))).1] at ht
    rw [(e 65 t 6 (by omega) (Or.inr (by decide))).1, e84]
    simp only [e35]
    exact h.2.2 t ht
def Cpay (iv : Iv) (rv : Rv) : Prop := (∀ c p : Nat, (c : Int) < (iv 84 0 1).toInt → p < 5 → iv 38 0 (5 * c + p) = iv 89 c p) ∧ (∀ c : Nat, (c : Int) < (iv 84 0 1).toInt → iv 88 c 3 = sdN iv c 5) ∧ (∀ c p : Nat, (iv 84 0 1).toInt ≤ c → p < 5 → iv 38 0 (5 * c + p) = 0)
abbrev T_Cpay : List Nat := [38, 89]
abbrev F_Cpay : List (Nat × Nat) := [(84, 1), (88, 3)]
theorem Cpay.keep {al : Al} {iv iv' : Iv} {rv rv' : Rv} (h : Cpay iv rv) (hG : GI al iv rv) (e : KP T_Cpay F_Cpay al iv rv iv' rv') : Cpay iv' rv' := by
  have e84 := (e 84 0 1 (h1_84 hG) (Or.inr (by decide))).1
  have e38 : ∀ k, iv' 38 0 k = iv 38 0 k := fun k => (e 38 0 k (h1_38 hG) (Or.inl (by decide))).1
  have n := hG.2.2.2.2.2.1.2
  have n9 : al.1 89 = al.1 88 := hG.2.2.1.2.2.2.2.2
  refine ⟨fun c p hc hp => ?_, fun c hc => ?_, fun c p hc hp => ?_⟩
  · rw [e84] at hc
    rw [e38, (e 89 c p (by omega) (Or.inl (by decide))).1]; exact h.1 c p hc hp
  · rw [e84] at hc
    rw [(e 88 c 3 (by omega) (Or.inr (by decide))).1, sd_keep (fun p _ => e38 _)]; exact h.2.1 c hc
  · rw [e84] at hc
    rw [e38]; exact h.2.2 c p hc hp
theorem spPay_ok {iv : Iv} {c p v : Int32} (h : spPay iv c p v = 0) : (0 ≤ c.toInt ∧ c.toInt < (iv 0 0 41).toInt) ∧ (0 ≤ p.toInt ∧ p.toInt ≤ 4) := by
  unfold spPay at h
  by_cases q : ¬ ((0 ≤ c.toInt ∧ c.toInt < (iv 0 0 41).toInt) ∧ (0 ≤ p.toInt ∧ p.toInt ≤ 4))
  · rw [if_pos q] at h; exact absurd h (by decide)
  · exact ⟨by omega, by omega⟩
def BK (iv : Iv) (rv : Rv) : Prop := Ctkn iv rv ∧ Cclm iv rv
theorem cl_own {al : Al} {iv : Iv} {rv : Rv} (hG : GI al iv rv) (h : BK iv rv) {j : Nat} {t x : Int32} (hj : j < al.1 65) (ej : j = t.toNatClampNeg) (e : x = iv 65 j 6) (h0 : 0 ≤ t.toInt := by omega) : (¬ x.toInt = 0 ∧ ¬ (ownN iv t.toInt (iv 0 0 41).toNatClampNeg).toInt = 0) ∨ (x.toInt = 0 ∧ (ownN iv t.toInt (iv 0 0 41).toNatClampNeg).toInt = 0) := by
  have n := hG.2.2.2.2.1.2
  have n41 := congrArg Int32.toInt h.2.1
  have c := ix_nat h0
  have q := h.2.2.2 j (by omega)
  have o := own_iff (iv := iv) (t := t.toInt) (iv 0 0 41).toNatClampNeg
  have cn : (iv 0 0 41).toNatClampNeg = (iv 0 0 41).toInt.toNat := clamp_n
  have bridge : (∃ c : Nat, (c : Int) < (iv 84 0 1).toInt ∧ (iv 35 0 c).toNatClampNeg = j) ↔ (∃ c : Nat, c < (iv 0 0 41).toNatClampNeg ∧ (iv 35 0 c).toInt = t.toInt) := by
    have r : ∀ c : Nat, c < 30 → 0 ≤ (iv 35 0 c).toInt := fun c hc => (hG.1 35 0 c (h1_35 hG) hc).1
    have l41 := le41 hG
    constructor
    · rintro ⟨c, h1, h2⟩
      have := r c (by omega)
      have k : (iv 35 0 c).toNatClampNeg = (iv 35 0 c).toInt.toNat := clamp_n
      exact ⟨c, by omega, by omega⟩
    · rintro ⟨c, h1, h2⟩
      exact ⟨c, by omega, by rw [clamp_n, h2]; omega⟩
  rw [← e] at q
  by_cases w : x.toInt = 0
  · refine Or.inr ⟨w, ?_⟩
    by_cases z : (ownN iv t.toInt (iv 0 0 41).toNatClampNeg).toInt = 0
    · exact z
    · exact absurd w (q.mpr (bridge.mpr (o.mp z)))
  · exact Or.inl ⟨w, o.mpr (bridge.mp (q.mp w))⟩
def BP (iv : Iv) (rv : Rv) : Prop := Cclm iv rv ∧ Cpay iv rv
