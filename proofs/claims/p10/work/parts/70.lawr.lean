theorem Cset.s_set {al al1 : Al} {iv iv1 iv2 : Iv} {rv rv1 rv2 : Rv} {what v r1 r2 : Int32} (hG : GI al iv rv) (hCset : Cset iv rv) (p1 : (spSet what v = 0 ∧ r1 = iv 50 0 what.toNatClampNeg ∧ ∀ k, iv1 50 0 k = if k = what.toNatClampNeg then v else iv 50 0 k) ∨ (spSet what v ≠ 0 ∧ r1 = spSet what v ∧ ∀ k, iv1 50 0 k = iv 50 0 k)) (p2 : (spSet what v = 0 ∧ r2 = iv1 15 0 what.toNatClampNeg ∧ ∀ k, iv2 15 0 k = if k = what.toNatClampNeg then v else iv1 15 0 k) ∨ (spSet what v ≠ 0 ∧ r2 = spSet what v ∧ ∀ k, iv2 15 0 k = iv1 15 0 k)) (x1 : EX ([51, 50], []) al iv rv al1 iv1 rv1) (f2 : FR ([16, 15], []) iv1 iv2) (g2 : FR ([16, 15], []) rv1 rv2) : Cset iv2 rv2 := by
  intro k hk
  have m1 : ∀ k, iv1 15 0 k = iv 15 0 k := fun k => (x1.2.2 15 0 k (h1_15 hG) (MD.no (by decide))).1
  have m2 : ∀ k, iv2 50 0 k = iv1 50 0 k := fun k => f2.arr 50 0 k (by decide)
  rcases p1 with ⟨o1, q1, w1⟩ | ⟨o1, q1, w1⟩ <;> rcases p2 with ⟨o2, q2, w2⟩ | ⟨o2, q2, w2⟩
  · rw [w2, m2, w1, m1, hCset k hk]
  · exact absurd o1 o2
  · exact absurd o2 o1
  · rw [w2, m2, w1, m1, hCset k hk]
theorem Cbar.s_bar {al al1 : Al} {iv iv1 iv2 : Iv} {rv rv1 rv2 : Rv} {lw n r1 r2 : Int32} (hG : GI al iv rv) (hCbar : Cbar iv rv) (p1 : (spBar lw n = 0 ∧ r1 = iv 80 0 lw.toNatClampNeg ∧ ∀ k, iv1 80 0 k = if k = lw.toNatClampNeg then n else iv 80 0 k) ∨ (spBar lw n ≠ 0 ∧ r1 = spBar lw n ∧ ∀ k, iv1 80 0 k = iv 80 0 k)) (p2 : (spBar lw n = 0 ∧ r2 = iv1 31 0 lw.toNatClampNeg ∧ ∀ k, iv2 31 0 k = if k = lw.toNatClampNeg then n else iv1 31 0 k) ∨ (spBar lw n ≠ 0 ∧ r2 = spBar lw n ∧ ∀ k, iv2 31 0 k = iv1 31 0 k)) (x1 : EX ([51, 80], []) al iv rv al1 iv1 rv1) (f2 : FR ([16, 31], []) iv1 iv2) (g2 : FR ([16, 31], []) rv1 rv2) : Cbar iv2 rv2 := by
  intro k hk
  have m1 : ∀ k, iv1 31 0 k = iv 31 0 k := fun k => (x1.2.2 31 0 k (h1_31 hG) (MD.no (by decide))).1
  have m2 : ∀ k, iv2 80 0 k = iv1 80 0 k := fun k => f2.arr 80 0 k (by decide)
  rcases p1 with ⟨o1, q1, w1⟩ | ⟨o1, q1, w1⟩ <;> rcases p2 with ⟨o2, q2, w2⟩ | ⟨o2, q2, w2⟩
  · rw [w2, m2, w1, m1, hCbar k hk]
  · exact absurd o1 o2
  · exact absurd o2 o1
  · rw [w2, m2, w1, m1, hCbar k hk]
theorem Cport.s_seen {al al1 : Al} {iv iv1 iv2 : Iv} {rv rv1 rv2 : Rv} {a b by_ r1 r2 : Int32} (hG : GI al iv rv) (hCport : Cport iv rv) (p1 : (spSeen a b by_ = 0 ∧ tkP iv iv1 a.toNatClampNeg b.toNatClampNeg by_ r1 ∧ (CRT iv rv → CRT iv1 rv1)) ∨ (spSeen a b by_ ≠ 0 ∧ r1 = spSeen a b by_ ∧ (∀ k : Nat, iv1 56 k 2 = iv 56 k 2 ∧ iv1 56 k 3 = iv 56 k 3) ∧ (CRT iv rv → CRT iv1 rv1))) (p2 : (spSeen a b by_ = 0 ∧ tkM iv1 iv2 a.toNatClampNeg b.toNatClampNeg by_ r2) ∨ (spSeen a b by_ ≠ 0 ∧ r2 = spSeen a b by_ ∧ ∀ k : Nat, iv2 3 0 k = iv1 3 0 k ∧ iv2 4 0 k = iv1 4 0 k)) (x1 : EX ([51], [(56, 2), (56, 3), (52, 2), (62, 10), (62, 11), (62, 12), (62, 13)]) al iv rv al1 iv1 rv1) (f2 : FR ([16, 4, 3], [(0, 5)]) iv1 iv2) (g2 : FR ([16, 4, 3], [(0, 5)]) rv1 rv2) : Cport iv2 rv2 := by
  have m3 : ∀ k, iv1 3 0 k = iv 3 0 k := fun k => (x1.2.2 3 0 k (h1_3 hG) (MD.no (by decide))).1
  have m4 : ∀ k, iv1 4 0 k = iv 4 0 k := fun k => (x1.2.2 4 0 k (h1_4 hG) (MD.no (by decide))).1
  have m6 : ∀ k, iv2 56 k 2 = iv1 56 k 2 ∧ iv2 56 k 3 = iv1 56 k 3 := fun k => ⟨f2 56 k 2 (by decide), f2 56 k 3 (by decide)⟩
  exact port_s hCport p1 p2 m3 m4 m6
theorem Crt.s_seen {al al1 : Al} {iv iv1 iv2 : Iv} {rv rv1 rv2 : Rv} {a b by_ r1 r2 : Int32} (hG : GI al iv rv) (hCrt : Crt iv rv) (p1 : (spSeen a b by_ = 0 ∧ tkP iv iv1 a.toNatClampNeg b.toNatClampNeg by_ r1 ∧ (CRT iv rv → CRT iv1 rv1)) ∨ (spSeen a b by_ ≠ 0 ∧ r1 = spSeen a b by_ ∧ (∀ k : Nat, iv1 56 k 2 = iv 56 k 2 ∧ iv1 56 k 3 = iv 56 k 3) ∧ (CRT iv rv → CRT iv1 rv1))) (p2 : (spSeen a b by_ = 0 ∧ tkM iv1 iv2 a.toNatClampNeg b.toNatClampNeg by_ r2) ∨ (spSeen a b by_ ≠ 0 ∧ r2 = spSeen a b by_ ∧ ∀ k : Nat, iv2 3 0 k = iv1 3 0 k ∧ iv2 4 0 k = iv1 4 0 k)) (x1 : EX ([51], [(56, 2), (56, 3), (52, 2), (62, 10), (62, 11), (62, 12), (62, 13)]) al iv rv al1 iv1 rv1) (f2 : FR ([16, 4, 3], [(0, 5)]) iv1 iv2) (g2 : FR ([16, 4, 3], [(0, 5)]) rv1 rv2) : Crt iv2 rv2 := by
  rcases p1 with ⟨-, -, h⟩ | ⟨-, -, -, h⟩
  · exact crt_fr f2 g2 (by decide) (h hCrt)
  · exact crt_fr f2 g2 (by decide) (h hCrt)
theorem Clegn.s_leg {al al1 : Al} {iv iv1 iv2 : Iv} {rv rv1 rv2 : Rv} {a b pp cc_ lv_ rr r1 r2 : Int32} (hG : GI al iv rv) (hClegn : Clegn iv rv) (p1 : (spLeg a b pp cc_ lv_ rr (iv 57 0 1).toInt = 0 ∧ r1.toInt = (iv 57 0 1).toInt ∧ (iv1 57 0 1).toInt = (iv 57 0 1).toInt + 1 ∧ ∃ (aa : Nat) (siz : Int32), siz.toInt = al.1 62 + 1 ∧ al1 = grow al 62 aa ∧ iv1 = legIv iv (al.1 62) r1 pp cc_ lv_ rr siz ∧ rv1 = legRv rv (al.1 62) a.toNatClampNeg b.toNatClampNeg) ∨ (spLeg a b pp cc_ lv_ rr (iv 57 0 1).toInt ≠ 0 ∧ r1 = spLeg a b pp cc_ lv_ rr (iv 57 0 1).toInt ∧ iv1 57 0 1 = iv 57 0 1)) (p2 : (spLeg a b pp cc_ lv_ rr (iv1 0 0 6).toInt = 0 ∧ r2.toInt = (iv1 0 0 6).toInt ∧ (iv2 0 0 6).toInt = (iv1 0 0 6).toInt + 1 ∧ lgM iv1 iv2 a b pp cc_ lv_ rr) ∨ (spLeg a b pp cc_ lv_ rr (iv1 0 0 6).toInt ≠ 0 ∧ r2 = spLeg a b pp cc_ lv_ rr (iv1 0 0 6).toInt ∧ iv2 0 0 6 = iv1 0 0 6 ∧ lgK iv1 iv2)) (x1 : EX ([51, 58], [(57, 1)]) al iv rv al1 iv1 rv1) (f2 : FR ([16, 5, 6, 7, 8, 9, 10], [(0, 6)]) iv1 iv2) (g2 : FR ([16, 5, 6, 7, 8, 9, 10], [(0, 6)]) rv1 rv2) : Clegn iv2 rv2 := by
  have e6 : (iv1 0 0 6).toInt = (iv 57 0 1).toInt := by rw [(x1.2.2 0 0 6 (h1_0 hG) (by decide)).1]; exact congrArg Int32.toInt hClegn
  have n := hG.2.2.2.1.2
  have c57 := f2 57 0 1 (by decide)
  rw [e6] at p2
  unfold Clegn
  rcases two_cases p1 p2 with ⟨o, ⟨q1, q2, aa, siz, hs, ha, hi, hr⟩, ⟨s1, s2, M⟩⟩ | ⟨o, ⟨q1, q2⟩, ⟨s1, s2, M⟩⟩
  · exact (fa_eq _ _).mpr (by rw [c57]; omega)
  · exact (fa_eq _ _).mpr (by rw [c57, q2, s2]; omega)
theorem Clegf.s_leg {al al1 : Al} {iv iv1 iv2 : Iv} {rv rv1 rv2 : Rv} {a b pp cc_ lv_ rr r1 r2 : Int32} (hG : GI al iv rv) (hClegn : Clegn iv rv) (hClegf : Clegf iv rv) (p1 : (spLeg a b pp cc_ lv_ rr (iv 57 0 1).toInt = 0 ∧ r1.toInt = (iv 57 0 1).toInt ∧ (iv1 57 0 1).toInt = (iv 57 0 1).toInt + 1 ∧ ∃ (aa : Nat) (siz : Int32), siz.toInt = al.1 62 + 1 ∧ al1 = grow al 62 aa ∧ iv1 = legIv iv (al.1 62) r1 pp cc_ lv_ rr siz ∧ rv1 = legRv rv (al.1 62) a.toNatClampNeg b.toNatClampNeg) ∨ (spLeg a b pp cc_ lv_ rr (iv 57 0 1).toInt ≠ 0 ∧ r1 = spLeg a b pp cc_ lv_ rr (iv 57 0 1).toInt ∧ iv1 57 0 1 = iv 57 0 1)) (p2 : (spLeg a b pp cc_ lv_ rr (iv1 0 0 6).toInt = 0 ∧ r2.toInt = (iv1 0 0 6).toInt ∧ (iv2 0 0 6).toInt = (iv1 0 0 6).toInt + 1 ∧ lgM iv1 iv2 a b pp cc_ lv_ rr) ∨ (spLeg a b pp cc_ lv_ rr (iv1 0 0 6).toInt ≠ 0 ∧ r2 = spLeg a b pp cc_ lv_ rr (iv1 0 0 6).toInt ∧ iv2 0 0 6 = iv1 0 0 6 ∧ lgK iv1 iv2)) (x1 : EX ([51, 58], [(57, 1)]) al iv rv al1 iv1 rv1) (f2 : FR ([16, 5, 6, 7, 8, 9, 10], [(0, 6)]) iv1 iv2) (g2 : FR ([16, 5, 6, 7, 8, 9, 10], [(0, 6)]) rv1 rv2) : Clegf iv2 rv2 := by
  have e6 : (iv1 0 0 6).toInt = (iv 57 0 1).toInt := by rw [(x1.2.2 0 0 6 (h1_0 hG) (by decide)).1]; exact congrArg Int32.toInt hClegn
  have n := hG.2.2.2.1.2
  have c57 := f2 57 0 1 (by decide)
  rw [e6] at p2
  have mo : ∀ t k, 5 ≤ t → t ≤ 10 → iv1 t 0 k = iv t 0 k := fun t k h1 h2 => (x1.2.2 t 0 k (by rw [hG.2.2.1.1 t ((by decide : ∀ t, t ≤ 10 → t ∈ sng) t h2)]; decide) (MD.no ((by decide : ∀ t, t ≤ 10 → 5 ≤ t → t ∉ ([51, 58] : List Nat) ∧ t ∉ [57]) t h2 h1))).1
  have xo : ∀ k f, k < al.1 62 → f ≤ 6 → iv2 62 k f = iv 62 k f ∧ rv2 62 k f = rv 62 k f := fun k f hk hf => by
    have q := x1.2.2 62 k f hk (MD.no (by decide))
    rw [f2.arr 62 k f (by decide), g2.arr 62 k f (by decide)]; exact q
  rcases two_cases p1 p2 with ⟨o, ⟨q1, q2, aa, siz, hs, ha, hi, hr⟩, ⟨s1, s2, M⟩⟩ | ⟨o, ⟨q1, q2⟩, ⟨s1, s2, M⟩⟩
  · have N : (iv1 0 0 6).toNatClampNeg = al.1 62 := by rw [clamp_n]; omega
    intro k hk
    rw [c57, q2] at hk
    by_cases z : k = al.1 62
    · subst z
      obtain ⟨m5, m6, m7, m8, m9, m10⟩ := M (al.1 62)
      rw [if_pos N.symm] at m5 m6 m7 m8 m9 m10
      obtain ⟨v0, v3, v4, v5, v6⟩ := legIv_v (iv := iv) (n := al.1 62) (num := r1) (pl := pp) (cr := cc_) (lv_ := lv_) (ar := rr) (siz := siz)
      obtain ⟨w1, w2⟩ := legRv_v (rv := rv) (n := al.1 62) (pf := a.toNatClampNeg) (pt_ := b.toNatClampNeg)
      rw [← hi] at v0 v3 v4 v5 v6
      rw [← hr] at w1 w2
      unfold lfk
      rw [g2.arr 62 _ 1 (by decide), g2.arr 62 _ 2 (by decide), f2.arr 62 _ 0 (by decide), f2.arr 62 _ 3 (by decide), f2.arr 62 _ 4 (by decide), f2.arr 62 _ 5 (by decide), f2.arr 62 _ 6 (by decide), m5, m6, m7, m8, m9, m10, v0, v3, v4, v5, v6, w1, w2]
      exact ⟨rfl, rfl, rfl, rfl, rfl, rfl, by omega⟩
    · have hk2 : k < al.1 62 := by omega
      refine lfk_cong (hClegf k (by omega)) (fun t h1 h2 => ?_) (fun f hf => (xo k f hk2 hf).1) (fun f _ h2 => (xo k f hk2 (by omega)).2)
      obtain ⟨m5, m6, m7, m8, m9, m10⟩ := M k
      rw [N, if_neg z] at m5 m6 m7 m8 m9 m10
      rw [← mo t k h1 h2]
      match t, h1, h2 with
      | 5, _, _ => exact m5
      | 6, _, _ => exact m6
      | 7, _, _ => exact m7
      | 8, _, _ => exact m8
      | 9, _, _ => exact m9
      | 10, _, _ => exact m10
  · intro k hk
    rw [c57, q2] at hk
    have hk2 : k < al.1 62 := by omega
    refine lfk_cong (hClegf k hk) (fun t h1 h2 => ?_) (fun f hf => (xo k f hk2 hf).1) (fun f _ h2 => (xo k f hk2 (by omega)).2)
    obtain ⟨m5, m6, m7, m8, m9, m10⟩ := M k
    rw [← mo t k h1 h2]
    match t, h1, h2 with
    | 5, _, _ => exact m5
    | 6, _, _ => exact m6
    | 7, _, _ => exact m7
    | 8, _, _ => exact m8
    | 9, _, _ => exact m9
    | 10, _, _ => exact m10
theorem Clog.s_leg {al al1 : Al} {iv iv1 iv2 : Iv} {rv rv1 rv2 : Rv} {a b pp cc_ lv_ rr r1 r2 : Int32} (hG : GI al iv rv) (hClegn : Clegn iv rv) (hClog : Clog iv rv) (p1 : (spLeg a b pp cc_ lv_ rr (iv 57 0 1).toInt = 0 ∧ r1.toInt = (iv 57 0 1).toInt ∧ (iv1 57 0 1).toInt = (iv 57 0 1).toInt + 1 ∧ ∃ (aa : Nat) (siz : Int32), siz.toInt = al.1 62 + 1 ∧ al1 = grow al 62 aa ∧ iv1 = legIv iv (al.1 62) r1 pp cc_ lv_ rr siz ∧ rv1 = legRv rv (al.1 62) a.toNatClampNeg b.toNatClampNeg) ∨ (spLeg a b pp cc_ lv_ rr (iv 57 0 1).toInt ≠ 0 ∧ r1 = spLeg a b pp cc_ lv_ rr (iv 57 0 1).toInt ∧ iv1 57 0 1 = iv 57 0 1)) (p2 : (spLeg a b pp cc_ lv_ rr (iv1 0 0 6).toInt = 0 ∧ r2.toInt = (iv1 0 0 6).toInt ∧ (iv2 0 0 6).toInt = (iv1 0 0 6).toInt + 1 ∧ lgM iv1 iv2 a b pp cc_ lv_ rr) ∨ (spLeg a b pp cc_ lv_ rr (iv1 0 0 6).toInt ≠ 0 ∧ r2 = spLeg a b pp cc_ lv_ rr (iv1 0 0 6).toInt ∧ iv2 0 0 6 = iv1 0 0 6 ∧ lgK iv1 iv2)) (x1 : EX ([51, 58], [(57, 1)]) al iv rv al1 iv1 rv1) (f2 : FR ([16, 5, 6, 7, 8, 9, 10], [(0, 6)]) iv1 iv2) (g2 : FR ([16, 5, 6, 7, 8, 9, 10], [(0, 6)]) rv1 rv2) : Clog iv2 rv2 := by
  have e6 : (iv1 0 0 6).toInt = (iv 57 0 1).toInt := by rw [(x1.2.2 0 0 6 (h1_0 hG) (by decide)).1]; exact congrArg Int32.toInt hClegn
  have n := hG.2.2.2.1.2
  have c57 := f2 57 0 1 (by decide)
  rw [e6] at p2
  have mo : ∀ k, iv2 11 0 k = iv 11 0 k ∧ iv2 12 0 k = iv 12 0 k ∧ iv2 13 0 k = iv 13 0 k := fun k => by
    rw [f2.arr 11 0 k (by decide), f2.arr 12 0 k (by decide), f2.arr 13 0 k (by decide)]
    exact ⟨(x1.2.2 11 0 k (h1_11 hG) (MD.no (by decide))).1, (x1.2.2 12 0 k (h1_12 hG) (MD.no (by decide))).1, (x1.2.2 13 0 k (h1_13 hG) (MD.no (by decide))).1⟩
  have xo : ∀ k f, k < al.1 62 → iv2 62 k f = iv 62 k f := fun k f hk => by
    rw [f2.arr 62 k f (by decide)]; exact (x1.2.2 62 k f hk (MD.no (by decide))).1
  rcases two_cases p1 p2 with ⟨o, ⟨q1, q2, aa, siz, hs, ha, hi, hr⟩, ⟨s1, s2, M⟩⟩ | ⟨o, ⟨q1, q2⟩, ⟨s1, s2, M⟩⟩
  · refine ⟨fun k hk => ?_, fun k hk => ?_⟩
    · rw [c57, q2] at hk
      rw [(mo k).1, (mo k).2.1, (mo k).2.2]
      by_cases z : k = al.1 62
      · rw [z, f2.arr 62 _ 7 (by decide), f2.arr 62 _ 8 (by decide), f2.arr 62 _ 9 (by decide), hi, legIv_blank (by decide), legIv_blank (by decide), legIv_blank (by decide)]
        exact hClog.2 _ (by omega)
      · rw [xo k 7 (by omega), xo k 8 (by omega), xo k 9 (by omega)]; exact hClog.1 k (by omega)
    · rw [c57, q2] at hk
      rw [(mo k).1, (mo k).2.1, (mo k).2.2]; exact hClog.2 k (by omega)
  · refine ⟨fun k hk => ?_, fun k hk => ?_⟩
    · rw [c57, q2] at hk
      rw [(mo k).1, (mo k).2.1, (mo k).2.2, xo k 7 (by omega), xo k 8 (by omega), xo k 9 (by omega)]; exact hClog.1 k hk
    · rw [c57, q2] at hk
      rw [(mo k).1, (mo k).2.1, (mo k).2.2]; exact hClog.2 k hk
theorem Crt.s_leg {al al1 : Al} {iv iv1 iv2 : Iv} {rv rv1 rv2 : Rv} {a b pp cc_ lv_ rr r1 r2 : Int32} (hG : GI al iv rv) (hClegn : Clegn iv rv) (hClegf : Clegf iv rv) (hCrt : Crt iv rv) (p1 : (spLeg a b pp cc_ lv_ rr (iv 57 0 1).toInt = 0 ∧ r1.toInt = (iv 57 0 1).toInt ∧ (iv1 57 0 1).toInt = (iv 57 0 1).toInt + 1 ∧ ∃ (aa : Nat) (siz : Int32), siz.toInt = al.1 62 + 1 ∧ al1 = grow al 62 aa ∧ iv1 = legIv iv (al.1 62) r1 pp cc_ lv_ rr siz ∧ rv1 = legRv rv (al.1 62) a.toNatClampNeg b.toNatClampNeg) ∨ (spLeg a b pp cc_ lv_ rr (iv 57 0 1).toInt ≠ 0 ∧ r1 = spLeg a b pp cc_ lv_ rr (iv 57 0 1).toInt ∧ iv1 57 0 1 = iv 57 0 1)) (p2 : (spLeg a b pp cc_ lv_ rr (iv1 0 0 6).toInt = 0 ∧ r2.toInt = (iv1 0 0 6).toInt ∧ (iv2 0 0 6).toInt = (iv1 0 0 6).toInt + 1 ∧ lgM iv1 iv2 a b pp cc_ lv_ rr) ∨ (spLeg a b pp cc_ lv_ rr (iv1 0 0 6).toInt ≠ 0 ∧ r2 = spLeg a b pp cc_ lv_ rr (iv1 0 0 6).toInt ∧ iv2 0 0 6 = iv1 0 0 6 ∧ lgK iv1 iv2)) (x1 : EX ([51, 58], [(57, 1)]) al iv rv al1 iv1 rv1) (f2 : FR ([16, 5, 6, 7, 8, 9, 10], [(0, 6)]) iv1 iv2) (g2 : FR ([16, 5, 6, 7, 8, 9, 10], [(0, 6)]) rv1 rv2) : Crt iv2 rv2 := by
  have e6 : (iv1 0 0 6).toInt = (iv 57 0 1).toInt := by rw [(x1.2.2 0 0 6 (h1_0 hG) (by decide)).1]; exact congrArg Int32.toInt hClegn
  have n := hG.2.2.2.1.2
  have c57 := f2 57 0 1 (by decide)
  rw [e6] at p2
  rcases two_cases p1 p2 with ⟨o, ⟨q1, q2, aa, siz, hs, ha, hi, hr⟩, ⟨s1, s2, M⟩⟩ | ⟨o, ⟨q1, q2⟩, ⟨s1, s2, M⟩⟩
  · intro k hk hz
    rw [c57, q2] at hk
    by_cases z : k = al.1 62
    · exfalso; apply hz
      rw [z, f2.arr 62 _ 7 (by decide), hi, legIv_blank (by decide)]; decide
    · have hk2 : k < al.1 62 := by omega
      have xo : ∀ f, iv2 62 k f = iv 62 k f ∧ rv2 62 k f = rv 62 k f := fun f => by
        have q := x1.2.2 62 k f hk2 (MD.no (by decide))
        rw [f2.arr 62 k f (by decide), g2.arr 62 k f (by decide)]; exact q
      rw [(xo 7).1] at hz
      exact crk_c3 hG hClegf hk2 (fun i hi => by rw [f2.arr 56 i 3 (by decide), (x1.2.2 56 i 3 hi (MD.no (by decide))).1]) xo (hCrt k (by omega) hz)
  · intro k hk hz
    rw [c57, q2] at hk
    have hk2 : k < al.1 62 := by omega
    have xo : ∀ f, iv2 62 k f = iv 62 k f ∧ rv2 62 k f = rv 62 k f := fun f => by
      have q := x1.2.2 62 k f hk2 (MD.no (by decide))
      rw [f2.arr 62 k f (by decide), g2.arr 62 k f (by decide)]; exact q
    rw [(xo 7).1] at hz
    exact crk_c3 hG hClegf hk2 (fun i hi => by rw [f2.arr 56 i 3 (by decide), (x1.2.2 56 i 3 hi (MD.no (by decide))).1]) xo (hCrt k hk hz)
theorem Ccau.s_leg {al al1 : Al} {iv iv1 iv2 : Iv} {rv rv1 rv2 : Rv} {a b pp cc_ lv_ rr r1 r2 : Int32} (hG : GI al iv rv) (hClegn : Clegn iv rv) (hCcau : Ccau iv rv) (p1 : (spLeg a b pp cc_ lv_ rr (iv 57 0 1).toInt = 0 ∧ r1.toInt = (iv 57 0 1).toInt ∧ (iv1 57 0 1).toInt = (iv 57 0 1).toInt + 1 ∧ ∃ (aa : Nat) (siz : Int32), siz.toInt = al.1 62 + 1 ∧ al1 = grow al 62 aa ∧ iv1 = legIv iv (al.1 62) r1 pp cc_ lv_ rr siz ∧ rv1 = legRv rv (al.1 62) a.toNatClampNeg b.toNatClampNeg) ∨ (spLeg a b pp cc_ lv_ rr (iv 57 0 1).toInt ≠ 0 ∧ r1 = spLeg a b pp cc_ lv_ rr (iv 57 0 1).toInt ∧ iv1 57 0 1 = iv 57 0 1)) (p2 : (spLeg a b pp cc_ lv_ rr (iv1 0 0 6).toInt = 0 ∧ r2.toInt = (iv1 0 0 6).toInt ∧ (iv2 0 0 6).toInt = (iv1 0 0 6).toInt + 1 ∧ lgM iv1 iv2 a b pp cc_ lv_ rr) ∨ (spLeg a b pp cc_ lv_ rr (iv1 0 0 6).toInt ≠ 0 ∧ r2 = spLeg a b pp cc_ lv_ rr (iv1 0 0 6).toInt ∧ iv2 0 0 6 = iv1 0 0 6 ∧ lgK iv1 iv2)) (x1 : EX ([51, 58], [(57, 1)]) al iv rv al1 iv1 rv1) (f2 : FR ([16, 5, 6, 7, 8, 9, 10], [(0, 6)]) iv1 iv2) (g2 : FR ([16, 5, 6, 7, 8, 9, 10], [(0, 6)]) rv1 rv2) : Ccau iv2 rv2 := by
  have e6 : (iv1 0 0 6).toInt = (iv 57 0 1).toInt := by rw [(x1.2.2 0 0 6 (h1_0 hG) (by decide)).1]; exact congrArg Int32.toInt hClegn
  have n := hG.2.2.2.1.2
  have c57 := f2 57 0 1 (by decide)
  rw [e6] at p2
  have mo : ∀ k, iv2 14 0 k = iv 14 0 k := fun k => by
    rw [f2.arr 14 0 k (by decide)]; exact (x1.2.2 14 0 k (h1_14 hG) (MD.no (by decide))).1
  have xo : ∀ k f, k < al.1 62 → iv2 62 k f = iv 62 k f := fun k f hk => by
    rw [f2.arr 62 k f (by decide)]; exact (x1.2.2 62 k f hk (MD.no (by decide))).1
  rcases two_cases p1 p2 with ⟨o, ⟨q1, q2, aa, siz, hs, ha, hi, hr⟩, ⟨s1, s2, M⟩⟩ | ⟨o, ⟨q1, q2⟩, ⟨s1, s2, M⟩⟩
  · refine ⟨fun k hk => ?_, fun k hk => ?_⟩
    · rw [c57, q2] at hk
      rw [mo k]
      by_cases z : k = al.1 62
      · rw [z, f2.arr 62 _ 14 (by decide), hi, legIv_blank (by decide)]
        exact hCcau.2 _ (by omega)
      · rw [xo k 14 (by omega)]; exact hCcau.1 k (by omega)
    · rw [c57, q2] at hk
      rw [mo k]; exact hCcau.2 k (by omega)
  · refine ⟨fun k hk => ?_, fun k hk => ?_⟩
    · rw [c57, q2] at hk
      rw [mo k, xo k 14 (by omega)]; exact hCcau.1 k hk
    · rw [c57, q2] at hk
      rw [mo k]; exact hCcau.2 k hk
theorem Clog.s_log {al al1 : Al} {iv iv1 iv2 : Iv} {rv rv1 rv2 : Rv} {lg a b r1 r2 : Int32} (hG : GI al iv rv) (hClegn : Clegn iv rv) (hClog : Clog iv rv) (p1 : (spLog lg a b (iv 57 0 1).toInt = 0 ∧ r1.toInt = 1 - (iv 62 lg.toNatClampNeg 7).toInt ∧ enP iv iv1 lg.toNatClampNeg a b ∧ (CRT iv rv → CRT iv1 rv1)) ∨ (spLog lg a b (iv 57 0 1).toInt ≠ 0 ∧ r1 = spLog lg a b (iv 57 0 1).toInt ∧ enK iv iv1 ∧ (CRT iv rv → CRT iv1 rv1))) (p2 : (spLog lg a b (iv1 0 0 6).toInt = 0 ∧ r2.toInt = 1 - (iv1 11 0 lg.toNatClampNeg).toInt ∧ ∀ k, iv2 11 0 k = (if k = lg.toNatClampNeg then 1 else iv1 11 0 k) ∧ iv2 12 0 k = (if k = lg.toNatClampNeg then a else iv1 12 0 k) ∧ iv2 13 0 k = (if k = lg.toNatClampNeg then b else iv1 13 0 k)) ∨ (spLog lg a b (iv1 0 0 6).toInt ≠ 0 ∧ r2 = spLog lg a b (iv1 0 0 6).toInt ∧ ∀ k, iv2 11 0 k = iv1 11 0 k ∧ iv2 12 0 k = iv1 12 0 k ∧ iv2 13 0 k = iv1 13 0 k)) (x1 : EX ([51], [(62, 10), (62, 11), (62, 12), (62, 13), (62, 7), (62, 8), (62, 9)]) al iv rv al1 iv1 rv1) (f2 : FR ([16, 11, 12, 13], []) iv1 iv2) (g2 : FR ([16, 11, 12, 13], []) rv1 rv2) : Clog iv2 rv2 := by
  have e6 : (iv1 0 0 6).toInt = (iv 57 0 1).toInt := by rw [(x1.2.2 0 0 6 (h1_0 hG) (by decide)).1]; exact congrArg Int32.toInt hClegn
  have n := hG.2.2.2.1.2
  have c57 : iv2 57 0 1 = iv 57 0 1 := by rw [f2 57 0 1 (by decide), (x1.2.2 57 0 1 (h1_57 hG) (by decide)).1]
  rw [e6] at p2
  have mo : ∀ k, iv1 11 0 k = iv 11 0 k ∧ iv1 12 0 k = iv 12 0 k ∧ iv1 13 0 k = iv 13 0 k := fun k => ⟨(x1.2.2 11 0 k (h1_11 hG) (MD.no (by decide))).1, (x1.2.2 12 0 k (h1_12 hG) (MD.no (by decide))).1, (x1.2.2 13 0 k (h1_13 hG) (MD.no (by decide))).1⟩
  have xo : ∀ k f, iv2 62 k f = iv1 62 k f := fun k f => f2.arr 62 k f (by decide)
  rcases two_cases p1 p2 with ⟨o, ⟨q1, E, -⟩, ⟨s1, M⟩⟩ | ⟨o, ⟨q1, E, -⟩, ⟨s1, M⟩⟩
  · have hl : ((lg.toNatClampNeg : Nat) : Int) < (iv 57 0 1).toInt := by
      have w := spLog_ok o
      rw [ix_nat w.1]; exact w.2
    refine ⟨fun k hk => ?_, fun k hk => ?_⟩
    · rw [c57] at hk
      obtain ⟨m1, m2, m3⟩ := M k
      obtain ⟨x7, x8, x9⟩ := E k
      rw [m1, m2, m3, xo, xo, xo, x7, x8, x9]
      by_cases z : k = lg.toNatClampNeg
      · simp only [if_pos z]; exact ⟨trivial, trivial, trivial⟩
      · simp only [if_neg z]; rw [(mo k).1, (mo k).2.1, (mo k).2.2]; exact hClog.1 k hk
    · rw [c57] at hk
      obtain ⟨m1, m2, m3⟩ := M k
      have z : ¬ k = lg.toNatClampNeg := fun z => by rw [z] at hk; omega
      rw [m1, m2, m3, if_neg z, if_neg z, if_neg z, (mo k).1, (mo k).2.1, (mo k).2.2]; exact hClog.2 k hk
  · refine ⟨fun k hk => ?_, fun k hk => ?_⟩
    · rw [c57] at hk
      obtain ⟨m1, m2, m3⟩ := M k
      obtain ⟨x7, x8, x9⟩ := E k
      rw [m1, m2, m3, xo, xo, xo, x7, x8, x9, (mo k).1, (mo k).2.1, (mo k).2.2]; exact hClog.1 k hk
    · rw [c57] at hk
      obtain ⟨m1, m2, m3⟩ := M k
      rw [m1, m2, m3, (mo k).1, (mo k).2.1, (mo k).2.2]; exact hClog.2 k hk
theorem Crt.s_log {al al1 : Al} {iv iv1 iv2 : Iv} {rv rv1 rv2 : Rv} {lg a b r1 r2 : Int32} (hG : GI al iv rv) (hCrt : Crt iv rv) (p1 : (spLog lg a b (iv 57 0 1).toInt = 0 ∧ r1.toInt = 1 - (iv 62 lg.toNatClampNeg 7).toInt ∧ enP iv iv1 lg.toNatClampNeg a b ∧ (CRT iv rv → CRT iv1 rv1)) ∨ (spLog lg a b (iv 57 0 1).toInt ≠ 0 ∧ r1 = spLog lg a b (iv 57 0 1).toInt ∧ enK iv iv1 ∧ (CRT iv rv → CRT iv1 rv1))) (p2 : (spLog lg a b (iv1 0 0 6).toInt = 0 ∧ r2.toInt = 1 - (iv1 11 0 lg.toNatClampNeg).toInt ∧ ∀ k, iv2 11 0 k = (if k = lg.toNatClampNeg then 1 else iv1 11 0 k) ∧ iv2 12 0 k = (if k = lg.toNatClampNeg then a else iv1 12 0 k) ∧ iv2 13 0 k = (if k = lg.toNatClampNeg then b else iv1 13 0 k)) ∨ (spLog lg a b (iv1 0 0 6).toInt ≠ 0 ∧ r2 = spLog lg a b (iv1 0 0 6).toInt ∧ ∀ k, iv2 11 0 k = iv1 11 0 k ∧ iv2 12 0 k = iv1 12 0 k ∧ iv2 13 0 k = iv1 13 0 k)) (x1 : EX ([51], [(62, 10), (62, 11), (62, 12), (62, 13), (62, 7), (62, 8), (62, 9)]) al iv rv al1 iv1 rv1) (f2 : FR ([16, 11, 12, 13], []) iv1 iv2) (g2 : FR ([16, 11, 12, 13], []) rv1 rv2) : Crt iv2 rv2 := by
  rcases p1 with ⟨-, -, -, h⟩ | ⟨-, -, -, h⟩
  · exact crt_fr f2 g2 (by decide) (h hCrt)
  · exact crt_fr f2 g2 (by decide) (h hCrt)
theorem Ccau.s_cause {al al1 : Al} {iv iv1 iv2 : Iv} {rv rv1 rv2 : Rv} {lg cs r1 r2 : Int32} (hG : GI al iv rv) (hClegn : Clegn iv rv) (hCcau : Ccau iv rv) (p1 : (spCause lg cs (iv 57 0 1).toInt = 0 ∧ r1 = iv 62 lg.toNatClampNeg 14 ∧ ∀ k, iv1 62 k 14 = if k = lg.toNatClampNeg then cs else iv 62 k 14) ∨ (spCause lg cs (iv 57 0 1).toInt ≠ 0 ∧ r1 = spCause lg cs (iv 57 0 1).toInt ∧ ∀ k, iv1 62 k 14 = iv 62 k 14)) (p2 : (spCause lg cs (iv1 0 0 6).toInt = 0 ∧ r2 = iv1 14 0 lg.toNatClampNeg ∧ ∀ k, iv2 14 0 k = if k = lg.toNatClampNeg then cs else iv1 14 0 k) ∨ (spCause lg cs (iv1 0 0 6).toInt ≠ 0 ∧ r2 = spCause lg cs (iv1 0 0 6).toInt ∧ ∀ k, iv2 14 0 k = iv1 14 0 k)) (x1 : EX ([51], [(62, 14)]) al iv rv al1 iv1 rv1) (f2 : FR ([16, 14], []) iv1 iv2) (g2 : FR ([16, 14], []) rv1 rv2) : Ccau iv2 rv2 := by
  have e6 : (iv1 0 0 6).toInt = (iv 57 0 1).toInt := by rw [(x1.2.2 0 0 6 (h1_0 hG) (by decide)).1]; exact congrArg Int32.toInt hClegn
  have c57 : iv2 57 0 1 = iv 57 0 1 := by rw [f2 57 0 1 (by decide), (x1.2.2 57 0 1 (h1_57 hG) (by decide)).1]
  rw [e6] at p2
  have mo : ∀ k, iv1 14 0 k = iv 14 0 k := fun k => (x1.2.2 14 0 k (h1_14 hG) (MD.no (by decide))).1
  have xo : ∀ k, iv2 62 k 14 = iv1 62 k 14 := fun k => f2.arr 62 k 14 (by decide)
  rcases two_cases p1 p2 with ⟨o, ⟨q1, E⟩, ⟨s1, M⟩⟩ | ⟨o, ⟨q1, E⟩, ⟨s1, M⟩⟩
  · have hl : ((lg.toNatClampNeg : Nat) : Int) < (iv 57 0 1).toInt := by
      have w := spCause_ok o
      rw [ix_nat w.1]; exact w.2
    refine ⟨fun k hk => ?_, fun k hk => ?_⟩
    · rw [c57] at hk
      rw [M k, xo, E k]
      by_cases z : k = lg.toNatClampNeg
      · rw [if_pos z, if_pos z]
      · rw [if_neg z, if_neg z, mo k]; exact hCcau.1 k hk
    · rw [c57] at hk
      have z : ¬ k = lg.toNatClampNeg := fun z => by rw [z] at hk; omega
      rw [M k, if_neg z, mo k]; exact hCcau.2 k hk
  · refine ⟨fun k hk => ?_, fun k hk => ?_⟩
    · rw [c57] at hk
      rw [M k, xo, E k, mo k]; exact hCcau.1 k hk
    · rw [c57] at hk
      rw [M k, mo k]; exact hCcau.2 k hk
theorem Ctkn.s_traveller {al al1 : Al} {iv iv1 iv2 : Iv} {rv rv1 rv2 : Rv} {lg r1 r2 : Int32} (hG : GI al iv rv) (hClegn : Clegn iv rv) (hCtkn : Ctkn iv rv) (p1 : (spTrav lg (iv 57 0 1).toInt (iv 63 0 1).toInt = 0 ∧ r1.toInt = (iv 63 0 1).toInt ∧ (iv1 63 0 1).toInt = (iv 63 0 1).toInt + 1 ∧ ∃ (aa a6 a7 : Nat) (siz : Int32), siz.toInt = al.1 65 + 1 ∧ al1 = grow (grow (grow al 65 aa) 66 a6) 67 a7 ∧ iv1 = tickIv iv (al.1 65) r1 siz ∧ rv1 = tickRv rv (al.1 65) lg.toNatClampNeg) ∨ (spTrav lg (iv 57 0 1).toInt (iv 63 0 1).toInt ≠ 0 ∧ r1 = spTrav lg (iv 57 0 1).toInt (iv 63 0 1).toInt ∧ iv1 63 0 1 = iv 63 0 1)) (p2 : (spTrav lg (iv1 0 0 6).toInt (iv1 0 0 20).toInt = 0 ∧ r2.toInt = (iv1 0 0 20).toInt ∧ (iv2 0 0 20).toInt = (iv1 0 0 20).toInt + 1 ∧ (∀ k : Nat, iv2 18 0 k = (if k = 4 * (iv1 0 0 20).toNatClampNeg then lg else iv1 18 0 k) ∧ iv2 19 0 k = (if k = (iv1 0 0 20).toNatClampNeg then 1 else iv1 19 0 k))) ∨ (spTrav lg (iv1 0 0 6).toInt (iv1 0 0 20).toInt ≠ 0 ∧ r2 = spTrav lg (iv1 0 0 6).toInt (iv1 0 0 20).toInt ∧ iv2 0 0 20 = iv1 0 0 20 ∧ (∀ k : Nat, iv2 18 0 k = iv1 18 0 k ∧ iv2 19 0 k = iv1 19 0 k))) (x1 : EX ([51, 64], [(63, 1)]) al iv rv al1 iv1 rv1) (f2 : FR ([16, 18, 19], [(0, 20)]) iv1 iv2) (g2 : FR ([16, 18, 19], [(0, 20)]) rv1 rv2) : Ctkn iv2 rv2 := by
  have e6 : (iv1 0 0 6).toInt = (iv 57 0 1).toInt := by rw [(x1.2.2 0 0 6 (h1_0 hG) (by decide)).1]; exact congrArg Int32.toInt hClegn
  have e20 : (iv1 0 0 20).toInt = (iv 63 0 1).toInt := by rw [(x1.2.2 0 0 20 (h1_0 hG) (by decide)).1]; exact congrArg Int32.toInt hCtkn
  have n := hG.2.2.2.2.1.2
  have c63 := f2 63 0 1 (by decide)
  have N : (iv1 0 0 20).toNatClampNeg = al.1 65 := by rw [clamp_n]; omega
  rw [e6, e20, N] at p2
  unfold Ctkn
  rcases two_cases p1 p2 with ⟨o, ⟨q1, q2, aa, a6, a7, siz, hs, ha, hi, hr⟩, ⟨s1, s2, M⟩⟩ | ⟨o, ⟨q1, q2⟩, ⟨s1, s2, M⟩⟩
  · exact (fa_eq _ _).mpr (by rw [c63]; omega)
  · exact (fa_eq _ _).mpr (by rw [c63, q2, s2]; omega)
theorem Ctick.s_traveller {al al1 : Al} {iv iv1 iv2 : Iv} {rv rv1 rv2 : Rv} {lg r1 r2 : Int32} (hG : GI al iv rv) (hClegn : Clegn iv rv) (hCtkn : Ctkn iv rv) (hCtick : Ctick iv rv) (p1 : (spTrav lg (iv 57 0 1).toInt (iv 63 0 1).toInt = 0 ∧ r1.toInt = (iv 63 0 1).toInt ∧ (iv1 63 0 1).toInt = (iv 63 0 1).toInt + 1 ∧ ∃ (aa a6 a7 : Nat) (siz : Int32), siz.toInt = al.1 65 + 1 ∧ al1 = grow (grow (grow al 65 aa) 66 a6) 67 a7 ∧ iv1 = tickIv iv (al.1 65) r1 siz ∧ rv1 = tickRv rv (al.1 65) lg.toNatClampNeg) ∨ (spTrav lg (iv 57 0 1).toInt (iv 63 0 1).toInt ≠ 0 ∧ r1 = spTrav lg (iv 57 0 1).toInt (iv 63 0 1).toInt ∧ iv1 63 0 1 = iv 63 0 1)) (p2 : (spTrav lg (iv1 0 0 6).toInt (iv1 0 0 20).toInt = 0 ∧ r2.toInt = (iv1 0 0 20).toInt ∧ (iv2 0 0 20).toInt = (iv1 0 0 20).toInt + 1 ∧ (∀ k : Nat, iv2 18 0 k = (if k = 4 * (iv1 0 0 20).toNatClampNeg then lg else iv1 18 0 k) ∧ iv2 19 0 k = (if k = (iv1 0 0 20).toNatClampNeg then 1 else iv1 19 0 k))) ∨ (spTrav lg (iv1 0 0 6).toInt (iv1 0 0 20).toInt ≠ 0 ∧ r2 = spTrav lg (iv1 0 0 6).toInt (iv1 0 0 20).toInt ∧ iv2 0 0 20 = iv1 0 0 20 ∧ (∀ k : Nat, iv2 18 0 k = iv1 18 0 k ∧ iv2 19 0 k = iv1 19 0 k))) (x1 : EX ([51, 64], [(63, 1)]) al iv rv al1 iv1 rv1) (f2 : FR ([16, 18, 19], [(0, 20)]) iv1 iv2) (g2 : FR ([16, 18, 19], [(0, 20)]) rv1 rv2) : Ctick iv2 rv2 := by
  have e6 : (iv1 0 0 6).toInt = (iv 57 0 1).toInt := by rw [(x1.2.2 0 0 6 (h1_0 hG) (by decide)).1]; exact congrArg Int32.toInt hClegn
  have e20 : (iv1 0 0 20).toInt = (iv 63 0 1).toInt := by rw [(x1.2.2 0 0 20 (h1_0 hG) (by decide)).1]; exact congrArg Int32.toInt hCtkn
  have n := hG.2.2.2.2.1.2
  have c63 := f2 63 0 1 (by decide)
  have N : (iv1 0 0 20).toNatClampNeg = al.1 65 := by rw [clamp_n]; omega
  rw [e6, e20, N] at p2
  have n6 : al.1 66 = al.1 65 := hG.2.2.1.2.2.2.1
  have m8 : ∀ k, iv1 18 0 k = iv 18 0 k := fun k => (x1.2.2 18 0 k (h1_18 hG) (MD.no (by decide))).1
  have m9 : ∀ k, iv1 19 0 k = iv 19 0 k := fun k => (x1.2.2 19 0 k (h1_19 hG) (MD.no (by decide))).1
  have xo : ∀ t f, t < al.1 65 → iv2 65 t f = iv 65 t f ∧ rv2 65 t f = rv 65 t f := fun t f ht => by
    have q := x1.2.2 65 t f ht (MD.no (by decide))
    rw [f2.arr 65 t f (by decide), g2.arr 65 t f (by decide)]; exact q
  have xl : ∀ t f, t < al.1 65 → rv2 66 t f = rv 66 t f := fun t f ht => by
    rw [g2.arr 66 t f (by decide)]; exact (x1.2.2 66 t f (by omega) (MD.no (by decide))).2
  rcases two_cases p1 p2 with ⟨o, ⟨q1, q2, aa, a6, a7, siz, hs, ha, hi, hr⟩, ⟨s1, s2, M⟩⟩ | ⟨o, ⟨q1, q2⟩, ⟨s1, s2, M⟩⟩
  · intro t ht
    rw [c63, q2] at ht
    by_cases z : t = al.1 65
    · have w0 : tickIv iv (al.1 65) r1 siz 65 (al.1 65) 0 = r1 ∧ tickIv iv (al.1 65) r1 siz 65 (al.1 65) 4 = 1 := by
        refine ⟨?_, ?_⟩ <;> simp [tickIv, up3, clr]
      have w1 : tickRv rv (al.1 65) lg.toNatClampNeg 65 (al.1 65) 1 = some lg.toNatClampNeg ∧ tickRv rv (al.1 65) lg.toNatClampNeg 65 (al.1 65) 2 = some lg.toNatClampNeg ∧ tickRv rv (al.1 65) lg.toNatClampNeg 66 (al.1 65) 0 = some lg.toNatClampNeg := by
        refine ⟨?_, ?_, ?_⟩ <;> simp [tickRv, up3, clr]
      rw [← hi] at w0
      rw [← hr] at w1
      have k1 : (1 : Int32).toInt = 1 := by decide
      have c1 : (1 : Int32).toNatClampNeg = 1 := by decide
      have m0 := (M (4 * al.1 65)).1
      rw [if_pos rfl] at m0
      subst z
      refine ⟨?_, ?_, fun j hj => ?_, ?_, ?_, ?_⟩
      · rw [(M (al.1 65)).2, if_pos rfl, f2.arr 65 _ 4 (by decide), w0.2]
      · rw [f2.arr 65 _ 4 (by decide), w0.2]; decide
      · rw [f2.arr 65 _ 4 (by decide), w0.2, k1] at hj
        have j0 : j = 0 := by omega
        rw [j0, g2.arr 66 _ 0 (by decide), w1.2.2, Nat.add_zero, m0]
      · rw [g2.arr 65 _ 1 (by decide), w1.1, m0]
      · rw [g2.arr 65 _ 2 (by decide), w1.2.1, f2.arr 65 _ 4 (by decide), w0.2, c1, show 4 * al.1 65 + 1 - 1 = 4 * al.1 65 by omega, m0]
      · rw [f2.arr 65 _ 0 (by decide), w0.1]; omega
    · have ht2 : t < al.1 65 := by omega
      refine tkk_cong (hCtick t (by omega)) (sz4 hG ht2) (fun j hj => ?_) ?_ (xo t 0 ht2).1 (xo t 4 ht2).1 (fun j => xl t j ht2) (xo t 1 ht2).2 (xo t 2 ht2).2
      · rw [(M _).1, if_neg (by omega), m8]
      · rw [(M _).2, if_neg z, m9]
  · intro t ht
    rw [c63, q2] at ht
    have ht2 : t < al.1 65 := by omega
    refine tkk_cong (hCtick t ht) (sz4 hG ht2) (fun j hj => ?_) ?_ (xo t 0 ht2).1 (xo t 4 ht2).1 (fun j => xl t j ht2) (xo t 1 ht2).2 (xo t 2 ht2).2
    · rw [(M _).1, m8]
    · rw [(M _).2, m9]
theorem Ctick.s_then {al al1 : Al} {iv iv1 iv2 : Iv} {rv rv1 rv2 : Rv} {tt lg r1 r2 : Int32} (hG : GI al iv rv) (hClegn : Clegn iv rv) (hClegf : Clegf iv rv) (hCset : Cset iv rv) (hCtkn : Ctkn iv rv) (hCtick : Ctick iv rv) (p1 : (spThen iv tt lg = 0 ∧ r1.toInt = (iv 19 0 tt.toNatClampNeg).toInt + 1 ∧ thX iv rv iv1 rv1 tt.toNatClampNeg lg.toNatClampNeg) ∨ (spThen iv tt lg ≠ 0 ∧ r1 = spThen iv tt lg ∧ (∀ k : Nat, iv1 65 k 4 = iv 65 k 4) ∧ (∀ i k : Nat, rv1 66 i k = rv 66 i k) ∧ (∀ k : Nat, rv1 65 k 2 = rv 65 k 2))) (p2 : (spThen iv1 tt lg = 0 ∧ r2.toInt = (iv1 19 0 tt.toNatClampNeg).toInt + 1 ∧ (∀ k : Nat, iv2 18 0 k = (if k = 4 * tt.toNatClampNeg + (iv1 19 0 tt.toNatClampNeg).toNatClampNeg then lg else iv1 18 0 k) ∧ (iv2 19 0 k).toInt = (if k = tt.toNatClampNeg then (iv1 19 0 tt.toNatClampNeg).toInt + 1 else (iv1 19 0 k).toInt))) ∨ (spThen iv1 tt lg ≠ 0 ∧ r2 = spThen iv1 tt lg ∧ ∀ k : Nat, iv2 18 0 k = iv1 18 0 k ∧ iv2 19 0 k = iv1 19 0 k)) (x1 : EX ([51, 66], [(65, 2), (65, 4)]) al iv rv al1 iv1 rv1) (f2 : FR ([16, 18, 19], []) iv1 iv2) (g2 : FR ([16, 18, 19], []) rv1 rv2) : Ctick iv2 rv2 := by
  have n := hG.2.2.2.2.1.2
  have n6 : al.1 66 = al.1 65 := hG.2.2.1.2.2.2.1
  have ma := ma_ex hG x1 (by decide)
  have e : spThen iv1 tt lg = spThen iv tt lg := spThen_m ma tt lg
  rw [e] at p2
  have c63 : iv2 63 0 1 = iv 63 0 1 := by rw [f2 63 0 1 (by decide), (x1.2.2 63 0 1 (h1_63 hG) (by decide)).1]
  intro t ht
  rw [c63] at ht
  have ht2 : t < al.1 65 := by omega
  have x0 : iv2 65 t 0 = iv 65 t 0 := by rw [f2 65 t 0 (by decide), (x1.2.2 65 t 0 ht2 (by decide)).1]
  have x4 : iv2 65 t 4 = iv1 65 t 4 := f2 65 t 4 (by decide)
  have y1 : rv2 65 t 1 = rv 65 t 1 := by rw [g2 65 t 1 (by decide), (x1.2.2 65 t 1 ht2 (by decide)).2]
  have y2 : rv2 65 t 2 = rv1 65 t 2 := g2 65 t 2 (by decide)
  have y6 : ∀ j, rv2 66 t j = rv1 66 t j := fun j => g2.arr 66 t j (by decide)
  have old := hCtick t ht
  rcases two_cases p1 p2 with ⟨o, ⟨q1, T1, T2, T3⟩, ⟨s1, M⟩⟩ | ⟨o, ⟨q1, T1, T2, T3⟩, ⟨s1, M⟩⟩
  · have ok := spThen_ok o
    have nt : ((tt.toNatClampNeg : Nat) : Int) = tt.toInt := ix_nat ok.1
    obtain ⟨a, b, c, d, e', f⟩ := old
    by_cases z : t = tt.toNatClampNeg
    · subst z
      have m18 : ∀ k, iv2 18 0 k = (if k = 4 * tt.toNatClampNeg + (iv 65 tt.toNatClampNeg 4).toNatClampNeg then lg else iv 18 0 k) := fun k => by rw [(M k).1, ma 19 _ (by decide), ma 18 _ (by decide), a]
      have cl : (iv 65 tt.toNatClampNeg 4).toNatClampNeg = (iv 65 tt.toNatClampNeg 4).toInt.toNat := clamp_n
      have v4 : (iv2 65 tt.toNatClampNeg 4).toInt = (iv 65 tt.toNatClampNeg 4).toInt + 1 := by rw [x4, T1, if_pos rfl]
      have cl2 : (iv2 65 tt.toNatClampNeg 4).toNatClampNeg = (iv 65 tt.toNatClampNeg 4).toNatClampNeg + 1 := by rw [clamp_n, v4, cl]; omega
      have v19 : (iv2 19 0 tt.toNatClampNeg).toInt = (iv 65 tt.toNatClampNeg 4).toInt + 1 := by rw [(M _).2, if_pos rfl, ma 19 _ (by decide), a]
      refine ⟨(fa_eq _ _).mpr (by rw [v19, v4]), by omega, fun j hj => ?_, ?_, ?_, by rw [x0]; exact f⟩
      · rw [v4] at hj
        rw [y6, T2, m18]
        by_cases w : j = (iv 65 tt.toNatClampNeg 4).toNatClampNeg
        · rw [if_pos ⟨rfl, w⟩, if_pos (by omega)]
        · rw [if_neg (fun q => w q.2), if_neg (by omega)]; exact c j (by omega)
      · rw [y1, m18, if_neg (by omega)]; exact d
      · rw [y2, T3, if_pos rfl, cl2, m18, if_pos (by omega)]
    · refine tkk_cong ⟨a, b, c, d, e', f⟩ (sz4 hG ht2) (fun j hj => ?_) ?_ x0 ?_ (fun j => ?_) y1 ?_
      · rw [(M _).1, ma 19 _ (by decide), ma 18 _ (by decide), if_neg]
        have h4 := ok.2.2
        intro w
        have : (iv 19 0 tt.toNatClampNeg).toNatClampNeg < 4 := by rw [clamp_n]; omega
        omega
      · exact (fa_eq _ _).mpr (by rw [(M _).2, if_neg z, ma 19 _ (by decide)])
      · rw [x4]; exact (fa_eq _ _).mpr (by rw [T1, if_neg z])
      · rw [y6, T2, if_neg (fun w => z w.1)]
      · rw [y2, T3, if_neg z]
  · refine tkk_cong old (sz4 hG ht2) (fun j hj => ?_) ?_ x0 (by rw [x4, T1]) (fun j => ?_) y1 ?_
    · rw [(M _).1, ma 18 _ (by decide)]
    · rw [(M _).2, ma 19 _ (by decide)]
    · rw [y6, T2]
    · rw [y2, T3]
theorem ans_set {al al1 : Al} {iv iv1 iv2 : Iv} {rv rv1 rv2 : Rv} {what v r1 r2 : Int32} (hG : GI al iv rv) (hCset : Cset iv rv) (p1 : (spSet what v = 0 ∧ r1 = iv 50 0 what.toNatClampNeg ∧ ∀ k, iv1 50 0 k = if k = what.toNatClampNeg then v else iv 50 0 k) ∨ (spSet what v ≠ 0 ∧ r1 = spSet what v ∧ ∀ k, iv1 50 0 k = iv 50 0 k)) (p2 : (spSet what v = 0 ∧ r2 = iv1 15 0 what.toNatClampNeg ∧ ∀ k, iv2 15 0 k = if k = what.toNatClampNeg then v else iv1 15 0 k) ∨ (spSet what v ≠ 0 ∧ r2 = spSet what v ∧ ∀ k, iv2 15 0 k = iv1 15 0 k)) (x1 : EX ([51, 50], []) al iv rv al1 iv1 rv1) (f2 : FR ([16, 15], []) iv1 iv2) (g2 : FR ([16, 15], []) rv1 rv2) : r1 = r2 := by
  have m1 : ∀ k, iv1 15 0 k = iv 15 0 k := fun k => (x1.2.2 15 0 k (h1_15 hG) (MD.no (by decide))).1
  rcases p1 with ⟨o1, q1, w1⟩ | ⟨o1, q1, w1⟩ <;> rcases p2 with ⟨o2, q2, w2⟩ | ⟨o2, q2, w2⟩
  · have b : what.toNatClampNeg < 4 := by
      unfold spSet at o1
      by_cases q : ¬ (0 ≤ what.toInt ∧ what.toInt ≤ 3)
      · rw [if_pos q] at o1; exact absurd o1 (by decide)
      · rw [clamp_n]; omega
    rw [q1, q2, m1, hCset _ b]
  · exact absurd o1 o2
  · exact absurd o2 o1
  · rw [q1, q2]
def REL (iv : Iv) (rv : Rv) : Prop := Cset iv rv ∧ Cbar iv rv ∧ Cport iv rv ∧ Clegn iv rv ∧ Clegf iv rv ∧ Clog iv rv ∧ Crt iv rv ∧ Ctkn iv rv ∧ Ctick iv rv ∧ Ccau iv rv
abbrev rT : List Nat := [15, 50, 31, 80, 3, 4, 5, 6, 7, 8, 9, 10, 11, 12, 13, 18, 19, 66, 14]
abbrev rF : List (Nat × Nat) := [(56, 2), (56, 3), (0, 6), (57, 1), (62, 0), (62, 1), (62, 2), (62, 3), (62, 4), (62, 5), (62, 6), (62, 7), (62, 8), (62, 9), (62, 10), (62, 11), (62, 12), (62, 13), (0, 20), (63, 1), (65, 0), (65, 1), (65, 2), (65, 4), (62, 14)]
theorem sT_Cset {md : Mo} (h : RC rT rF md) : RC T_Cset F_Cset md := ⟨fun t ht => h.1 t ((by decide : ∀ t, t ∈ T_Cset → t ∈ rT) t ht), fun q hq => h.2 q ((by decide : ∀ q, q ∈ F_Cset → q ∈ rF) q hq)⟩
theorem sT_Cbar {md : Mo} (h : RC rT rF md) : RC T_Cbar F_Cbar md := ⟨fun t ht => h.1 t ((by decide : ∀ t, t ∈ T_Cbar → t ∈ rT) t ht), fun q hq => h.2 q ((by decide : ∀ q, q ∈ F_Cbar → q ∈ rF) q hq)⟩
theorem sT_Cport {md : Mo} (h : RC rT rF md) : RC T_Cport F_Cport md := ⟨fun t ht => h.1 t ((by decide : ∀ t, t ∈ T_Cport → t ∈ rT) t ht), fun q hq => h.2 q ((by decide : ∀ q, q ∈ F_Cport → q ∈ rF) q hq)⟩
theorem sT_Clegn {md : Mo} (h : RC rT rF md) : RC T_Clegn F_Clegn md := ⟨fun t ht => h.1 t ((by decide : ∀ t, t ∈ T_Clegn → t ∈ rT) t ht), fun q hq => h.2 q ((by decide : ∀ q, q ∈ F_Clegn → q ∈ rF) q hq)⟩
theorem sT_Clegf {md : Mo} (h : RC rT rF md) : RC T_Clegf F_Clegf md := ⟨fun t ht => h.1 t ((by decide : ∀ t, t ∈ T_Clegf → t ∈ rT) t ht), fun q hq => h.2 q ((by decide : ∀ q, q ∈ F_Clegf → q ∈ rF) q hq)⟩
theorem sT_Clog {md : Mo} (h : RC rT rF md) : RC T_Clog F_Clog md := ⟨fun t ht => h.1 t ((by decide : ∀ t, t ∈ T_Clog → t ∈ rT) t ht), fun q hq => h.2 q ((by decide : ∀ q, q ∈ F_Clog → q ∈ rF) q hq)⟩
theorem sT_Crt {md : Mo} (h : RC rT rF md) : RC T_Crt F_Crt md := ⟨fun t ht => h.1 t ((by decide : ∀ t, t ∈ T_Crt → t ∈ rT) t ht), fun q hq => h.2 q ((by decide : ∀ q, q ∈ F_Crt → q ∈ rF) q hq)⟩
theorem sT_Ctkn {md : Mo} (h : RC rT rF md) : RC T_Ctkn F_Ctkn md := ⟨fun t ht => h.1 t ((by decide : ∀ t, t ∈ T_Ctkn → t ∈ rT) t ht), fun q hq => h.2 q ((by decide : ∀ q, q ∈ F_Ctkn → q ∈ rF) q hq)⟩
theorem sT_Ctick {md : Mo} (h : RC rT rF md) : RC T_Ctick F_Ctick md := ⟨fun t ht => h.1 t ((by decide : ∀ t, t ∈ T_Ctick → t ∈ rT) t ht), fun q hq => h.2 q ((by decide : ∀ q, q ∈ F_Ctick → q ∈ rF) q hq)⟩
theorem sT_Ccau {md : Mo} (h : RC rT rF md) : RC T_Ccau F_Ccau md := ⟨fun t ht => h.1 t ((by decide : ∀ t, t ∈ T_Ccau → t ∈ rT) t ht), fun q hq => h.2 q ((by decide : ∀ q, q ∈ F_Ccau → q ∈ rF) q hq)⟩
theorem REL.fr {al : Al} {iv iv' : Iv} {rv rv' : Rv} {md : Mo} (h : REL iv rv) (hG : GI al iv rv) (f : FR md iv iv') (g : FR md rv rv') (hd : RC rT rF md) : REL iv' rv' := ⟨Cset.keep h.1 hG (KP.fr f g (sT_Cset hd)), Cbar.keep h.2.1 hG (KP.fr f g (sT_Cbar hd)), Cport.keep h.2.2.1 hG (KP.fr f g (sT_Cport hd)), Clegn.keep h.2.2.2.1 hG (KP.fr f g (sT_Clegn hd)), Clegf.keep h.2.2.2.2.1 hG (KP.fr f g (sT_Clegf hd)), Clog.keep h.2.2.2.2.2.1 hG (KP.fr f g (sT_Clog hd)), Crt.keep h.2.2.2.2.2.2.1 hG (KP.fr f g (sT_Crt hd)), Ctkn.keep h.2.2.2.2.2.2.2.1 hG (KP.fr f g (sT_Ctkn hd)), Ctick.keep h.2.2.2.2.2.2.2.2.1 hG (KP.fr f g (sT_Ctick hd)), Ccau.keep h.2.2.2.2.2.2.2.2.2 hG (KP.fr f g (sT_Ccau hd))⟩
theorem REL.ex {al al' : Al} {iv iv' : Iv} {rv rv' : Rv} {md : Mo} (h : REL iv rv) (hG : GI al iv rv) (g : EX md al iv rv al' iv' rv') (hd : RC rT rF md) : REL iv' rv' := ⟨Cset.keep h.1 hG (KP.ex g (sT_Cset hd)), Cbar.keep h.2.1 hG (KP.ex g (sT_Cbar hd)), Cport.keep h.2.2.1 hG (KP.ex g (sT_Cport hd)), Clegn.keep h.2.2.2.1 hG (KP.ex g (sT_Clegn hd)), Clegf.keep h.2.2.2.2.1 hG (KP.ex g (sT_Clegf hd)), Clog.keep h.2.2.2.2.2.1 hG (KP.ex g (sT_Clog hd)), Crt.keep h.2.2.2.2.2.2.1 hG (KP.ex g (sT_Crt hd)), Ctkn.keep h.2.2.2.2.2.2.2.1 hG (KP.ex g (sT_Ctkn hd)), Ctick.keep h.2.2.2.2.2.2.2.2.1 hG (KP.ex g (sT_Ctick hd)), Ccau.keep h.2.2.2.2.2.2.2.2.2 hG (KP.ex g (sT_Ccau hd))⟩
theorem REL.s_set {al al1 : Al} {iv iv1 iv2 : Iv} {rv rv1 rv2 : Rv} {what v r1 r2 : Int32} (hG : GI al iv rv) (h : REL iv rv) (p1 : (spSet what v = 0 ∧ r1 = iv 50 0 what.toNatClampNeg ∧ ∀ k, iv1 50 0 k = if k = what.toNatClampNeg then v else iv 50 0 k) ∨ (spSet what v ≠ 0 ∧ r1 = spSet what v ∧ ∀ k, iv1 50 0 k = iv 50 0 k)) (p2 : (spSet what v = 0 ∧ r2 = iv1 15 0 what.toNatClampNeg ∧ ∀ k, iv2 15 0 k = if k = what.toNatClampNeg then v else iv1 15 0 k) ∨ (spSet what v ≠ 0 ∧ r2 = spSet what v ∧ ∀ k, iv2 15 0 k = iv1 15 0 k)) (x1 : EX ([51, 50], []) al iv rv al1 iv1 rv1) (f2 : FR ([16, 15], []) iv1 iv2) (g2 : FR ([16, 15], []) rv1 rv2) : REL iv2 rv2 := ⟨Cset.s_set hG h.1 p1 p2 x1 f2 g2, Cbar.keep h.2.1 hG (KP.two x1 f2 g2 (by decide) (by decide)), Cport.keep h.2.2.1 hG (KP.two x1 f2 g2 (by decide) (by decide)), Clegn.keep h.2.2.2.1 hG (KP.two x1 f2 g2 (by decide) (by decide)), Clegf.keep h.2.2.2.2.1 hG (KP.two x1 f2 g2 (by decide) (by decide)), Clog.keep h.2.2.2.2.2.1 hG (KP.two x1 f2 g2 (by decide) (by decide)), Crt.keep h.2.2.2.2.2.2.1 hG (KP.two x1 f2 g2 (by decide) (by decide)), Ctkn.keep h.2.2.2.2.2.2.2.1 hG (KP.two x1 f2 g2 (by decide) (by decide)), Ctick.keep h.2.2.2.2.2.2.2.2.1 hG (KP.two x1 f2 g2 (by decide) (by decide)), Ccau.keep h.2.2.2.2.2.2.2.2.2 hG (KP.two x1 f2 g2 (by decide) (by decide))⟩
theorem REL.a_set {al al1 : Al} {iv iv1 iv2 : Iv} {rv rv1 rv2 : Rv} {what v r1 r2 : Int32} (hG : GI al iv rv) (h : REL iv rv) (p1 : (spSet what v = 0 ∧ r1 = iv 50 0 what.toNatClampNeg ∧ ∀ k, iv1 50 0 k = if k = what.toNatClampNeg then v else iv 50 0 k) ∨ (spSet what v ≠ 0 ∧ r1 = spSet what v ∧ ∀ k, iv1 50 0 k = iv 50 0 k)) (p2 : (spSet what v = 0 ∧ r2 = iv1 15 0 what.toNatClampNeg ∧ ∀ k, iv2 15 0 k = if k = what.toNatClampNeg then v else iv1 15 0 k) ∨ (spSet what v ≠ 0 ∧ r2 = spSet what v ∧ ∀ k, iv2 15 0 k = iv1 15 0 k)) (x1 : EX ([51, 50], []) al iv rv al1 iv1 rv1) (f2 : FR ([16, 15], []) iv1 iv2) (g2 : FR ([16, 15], []) rv1 rv2) : r1 = r2 := ans_set hG h.1 p1 p2 x1 f2 g2
theorem REL.s_bar {al al1 : Al} {iv iv1 iv2 : Iv} {rv rv1 rv2 : Rv} {lw n r1 r2 : Int32} (hG : GI al iv rv) (h : REL iv rv) (p1 : (spBar lw n = 0 ∧ r1 = iv 80 0 lw.toNatClampNeg ∧ ∀ k, iv1 80 0 k = if k = lw.toNatClampNeg then n else iv 80 0 k) ∨ (spBar lw n ≠ 0 ∧ r1 = spBar lw n ∧ ∀ k, iv1 80 0 k = iv 80 0 k)) (p2 : (spBar lw n = 0 ∧ r2 = iv1 31 0 lw.toNatClampNeg ∧ ∀ k, iv2 31 0 k = if k = lw.toNatClampNeg then n else iv1 31 0 k) ∨ (spBar lw n ≠ 0 ∧ r2 = spBar lw n ∧ ∀ k, iv2 31 0 k = iv1 31 0 k)) (x1 : EX ([51, 80], []) al iv rv al1 iv1 rv1) (f2 : FR ([16, 31], []) iv1 iv2) (g2 : FR ([16, 31], []) rv1 rv2) : REL iv2 rv2 := ⟨Cset.keep h.1 hG (KP.two x1 f2 g2 (by decide) (by decide)), Cbar.s_bar hG h.2.1 p1 p2 x1 f2 g2, Cport.keep h.2.2.1 hG (KP.two x1 f2 g2 (by decide) (by decide)), Clegn.keep h.2.2.2.1 hG (KP.two x1 f2 g2 (by decide) (by decide)), Clegf.keep h.2.2.2.2.1 hG (KP.two x1 f2 g2 (by decide) (by decide)), Clog.keep h.2.2.2.2.2.1 hG (KP.two x1 f2 g2 (by decide) (by decide)), Crt.keep h.2.2.2.2.2.2.1 hG (KP.two x1 f2 g2 (by decide) (by decide)), Ctkn.keep h.2.2.2.2.2.2.2.1 hG (KP.two x1 f2 g2 (by decide) (by decide)), Ctick.keep h.2.2.2.2.2.2.2.2.1 hG (KP.two x1 f2 g2 (by decide) (by decide)), Ccau.keep h.2.2.2.2.2.2.2.2.2 hG (KP.two x1 f2 g2 (by decide) (by decide))⟩
theorem REL.s_seen {al al1 : Al} {iv iv1 iv2 : Iv} {rv rv1 rv2 : Rv} {a b by_ r1 r2 : Int32} (hG : GI al iv rv) (h : REL iv rv) (p1 : (spSeen a b by_ = 0 ∧ tkP iv iv1 a.toNatClampNeg b.toNatClampNeg by_ r1 ∧ (CRT iv rv → CRT iv1 rv1)) ∨ (spSeen a b by_ ≠ 0 ∧ r1 = spSeen a b by_ ∧ (∀ k : Nat, iv1 56 k 2 = iv 56 k 2 ∧ iv1 56 k 3 = iv 56 k 3) ∧ (CRT iv rv → CRT iv1 rv1))) (p2 : (spSeen a b by_ = 0 ∧ tkM iv1 iv2 a.toNatClampNeg b.toNatClampNeg by_ r2) ∨ (spSeen a b by_ ≠ 0 ∧ r2 = spSeen a b by_ ∧ ∀ k : Nat, iv2 3 0 k = iv1 3 0 k ∧ iv2 4 0 k = iv1 4 0 k)) (x1 : EX ([51], [(56, 2), (56, 3), (52, 2), (62, 10), (62, 11), (62, 12), (62, 13)]) al iv rv al1 iv1 rv1) (f2 : FR ([16, 4, 3], [(0, 5)]) iv1 iv2) (g2 : FR ([16, 4, 3], [(0, 5)]) rv1 rv2) : REL iv2 rv2 := ⟨Cset.keep h.1 hG (KP.two x1 f2 g2 (by decide) (by decide)), Cbar.keep h.2.1 hG (KP.two x1 f2 g2 (by decide) (by decide)), Cport.s_seen hG h.2.2.1 p1 p2 x1 f2 g2, Clegn.keep h.2.2.2.1 hG (KP.two x1 f2 g2 (by decide) (by decide)), Clegf.keep h.2.2.2.2.1 hG (KP.two x1 f2 g2 (by decide) (by decide)), Clog.keep h.2.2.2.2.2.1 hG (KP.two x1 f2 g2 (by decide) (by decide)), Crt.s_seen hG h.2.2.2.2.2.2.1 p1 p2 x1 f2 g2, Ctkn.keep h.2.2.2.2.2.2.2.1 hG (KP.two x1 f2 g2 (by decide) (by decide)), Ctick.keep h.2.2.2.2.2.2.2.2.1 hG (KP.two x1 f2 g2 (by decide) (by decide)), Ccau.keep h.2.2.2.2.2.2.2.2.2 hG (KP.two x1 f2 g2 (by decide) (by decide))⟩
theorem REL.s_leg {al al1 : Al} {iv iv1 iv2 : Iv} {rv rv1 rv2 : Rv} {a b pp cc_ lv_ rr r1 r2 : Int32} (hG : GI al iv rv) (h : REL iv rv) (p1 : (spLeg a b pp cc_ lv_ rr (iv 57 0 1).toInt = 0 ∧ r1.toInt = (iv 57 0 1).toInt ∧ (iv1 57 0 1).toInt = (iv 57 0 1).toInt + 1 ∧ ∃ (aa : Nat) (siz : Int32), siz.toInt = al.1 62 + 1 ∧ al1 = grow al 62 aa ∧ iv1 = legIv iv (al.1 62) r1 pp cc_ lv_ rr siz ∧ rv1 = legRv rv (al.1 62) a.toNatClampNeg b.toNatClampNeg) ∨ (spLeg a b pp cc_ lv_ rr (iv 57 0 1).toInt ≠ 0 ∧ r1 = spLeg a b pp cc_ lv_ rr (iv 57 0 1).toInt ∧ iv1 57 0 1 = iv 57 0 1)) (p2 : (spLeg a b pp cc_ lv_ rr (iv1 0 0 6).toInt = 0 ∧ r2.toInt = (iv1 0 0 6).toInt ∧ (iv2 0 0 6).toInt = (iv1 0 0 6).toInt + 1 ∧ lgM iv1 iv2 a b pp cc_ lv_ rr) ∨ (spLeg a b pp cc_ lv_ rr (iv1 0 0 6).toInt ≠ 0 ∧ r2 = spLeg a b pp cc_ lv_ rr (iv1 0 0 6).toInt ∧ iv2 0 0 6 = iv1 0 0 6 ∧ lgK iv1 iv2)) (x1 : EX ([51, 58], [(57, 1)]) al iv rv al1 iv1 rv1) (f2 : FR ([16, 5, 6, 7, 8, 9, 10], [(0, 6)]) iv1 iv2) (g2 : FR ([16, 5, 6, 7, 8, 9, 10], [(0, 6)]) rv1 rv2) : REL iv2 rv2 := ⟨Cset.keep h.1 hG (KP.two x1 f2 g2 (by decide) (by decide)), Cbar.keep h.2.1 hG (KP.two x1 f2 g2 (by decide) (by decide)), Cport.keep h.2.2.1 hG (KP.two x1 f2 g2 (by decide) (by decide)), Clegn.s_leg hG h.2.2.2.1 p1 p2 x1 f2 g2, Clegf.s_leg hG h.2.2.2.1 h.2.2.2.2.1 p1 p2 x1 f2 g2, Clog.s_leg hG h.2.2.2.1 h.2.2.2.2.2.1 p1 p2 x1 f2 g2, Crt.s_leg hG h.2.2.2.1 h.2.2.2.2.1 h.2.2.2.2.2.2.1 p1 p2 x1 f2 g2, Ctkn.keep h.2.2.2.2.2.2.2.1 hG (KP.two x1 f2 g2 (by decide) (by decide)), Ctick.keep h.2.2.2.2.2.2.2.2.1 hG (KP.two x1 f2 g2 (by decide) (by decide)), Ccau.s_leg hG h.2.2.2.1 h.2.2.2.2.2.2.2.2.2 p1 p2 x1 f2 g2⟩
theorem REL.s_log {al al1 : Al} {iv iv1 iv2 : Iv} {rv rv1 rv2 : Rv} {lg a b r1 r2 : Int32} (hG : GI al iv rv) (h : REL iv rv) (p1 : (spLog lg a b (iv 57 0 1).toInt = 0 ∧ r1.toInt = 1 - (iv 62 lg.toNatClampNeg 7).toInt ∧ enP iv iv1 lg.toNatClampNeg a b ∧ (CRT iv rv → CRT iv1 rv1)) ∨ (spLog lg a b (iv 57 0 1).toInt ≠ 0 ∧ r1 = spLog lg a b (iv 57 0 1).toInt ∧ enK iv iv1 ∧ (CRT iv rv → CRT iv1 rv1))) (p2 : (spLog lg a b (iv1 0 0 6).toInt = 0 ∧ r2.toInt = 1 - (iv1 11 0 lg.toNatClampNeg).toInt ∧ ∀ k, iv2 11 0 k = (if k = lg.toNatClampNeg then 1 else iv1 11 0 k) ∧ iv2 12 0 k = (if k = lg.toNatClampNeg then a else iv1 12 0 k) ∧ iv2 13 0 k = (if k = lg.toNatClampNeg then b else iv1 13 0 k)) ∨ (spLog lg a b (iv1 0 0 6).toInt ≠ 0 ∧ r2 = spLog lg a b (iv1 0 0 6).toInt ∧ ∀ k, iv2 11 0 k = iv1 11 0 k ∧ iv2 12 0 k = iv1 12 0 k ∧ iv2 13 0 k = iv1 13 0 k)) (x1 : EX ([51], [(62, 10), (62, 11), (62, 12), (62, 13), (62, 7), (62, 8), (62, 9)]) al iv rv al1 iv1 rv1) (f2 : FR ([16, 11, 12, 13], []) iv1 iv2) (g2 : FR ([16, 11, 12, 13], []) rv1 rv2) : REL iv2 rv2 := ⟨Cset.keep h.1 hG (KP.two x1 f2 g2 (by decide) (by decide)), Cbar.keep h.2.1 hG (KP.two x1 f2 g2 (by decide) (by decide)), Cport.keep h.2.2.1 hG (KP.two x1 f2 g2 (by decide) (by decide)), Clegn.keep h.2.2.2.1 hG (KP.two x1 f2 g2 (by decide) (by decide)), Clegf.keep h.2.2.2.2.1 hG (KP.two x1 f2 g2 (by decide) (by decide)), Clog.s_log hG h.2.2.2.1 h.2.2.2.2.2.1 p1 p2 x1 f2 g2, Crt.s_log hG h.2.2.2.2.2.2.1 p1 p2 x1 f2 g2, Ctkn.keep h.2.2.2.2.2.2.2.1 hG (KP.two x1 f2 g2 (by decide) (by decide)), Ctick.keep h.2.2.2.2.2.2.2.2.1 hG (KP.two x1 f2 g2 (by decide) (by decide)), Ccau.keep h.2.2.2.2.2.2.2.2.2 hG (KP.two x1 f2 g2 (by decide) (by decide))⟩
theorem REL.s_cause {al al1 : Al} {iv iv1 iv2 : Iv} {rv rv1 rv2 : Rv} {lg cs r1 r2 : Int32} (hG : GI al iv rv) (h : REL iv rv) (p1 : (spCause lg cs (iv 57 0 1).toInt = 0 ∧ r1 = iv 62 lg.toNatClampNeg 14 ∧ ∀ k, iv1 62 k 14 = if k = lg.toNatClampNeg then cs else iv 62 k 14) ∨ (spCause lg cs (iv 57 0 1).toInt ≠ 0 ∧ r1 = spCause lg cs (iv 57 0 1).toInt ∧ ∀ k, iv1 62 k 14 = iv 62 k 14)) (p2 : (spCause lg cs (iv1 0 0 6).toInt = 0 ∧ r2 = iv1 14 0 lg.toNatClampNeg ∧ ∀ k, iv2 14 0 k = if k = lg.toNatClampNeg then cs else iv1 14 0 k) ∨ (spCause lg cs (iv1 0 0 6).toInt ≠ 0 ∧ r2 = spCause lg cs (iv1 0 0 6).toInt ∧ ∀ k, iv2 14 0 k = iv1 14 0 k)) (x1 : EX ([51], [(62, 14)]) al iv rv al1 iv1 rv1) (f2 : FR ([16, 14], []) iv1 iv2) (g2 : FR ([16, 14], []) rv1 rv2) : REL iv2 rv2 := ⟨Cset.keep h.1 hG (KP.two x1 f2 g2 (by decide) (by decide)), Cbar.keep h.2.1 hG (KP.two x1 f2 g2 (by decide) (by decide)), Cport.keep h.2.2.1 hG (KP.two x1 f2 g2 (by decide) (by decide)), Clegn.keep h.2.2.2.1 hG (KP.two x1 f2 g2 (by decide) (by decide)), Clegf.keep h.2.2.2.2.1 hG (KP.two x1 f2 g2 (by decide) (by decide)), Clog.keep h.2.2.2.2.2.1 hG (KP.two x1 f2 g2 (by decide) (by decide)), Crt.keep h.2.2.2.2.2.2.1 hG (KP.two x1 f2 g2 (by decide) (by decide)), Ctkn.keep h.2.2.2.2.2.2.2.1 hG (KP.two x1 f2 g2 (by decide) (by decide)), Ctick.keep h.2.2.2.2.2.2.2.2.1 hG (KP.two x1 f2 g2 (by decide) (by decide)), Ccau.s_cause hG h.2.2.2.1 h.2.2.2.2.2.2.2.2.2 p1 p2 x1 f2 g2⟩
theorem REL.s_traveller {al al1 : Al} {iv iv1 iv2 : Iv} {rv rv1 rv2 : Rv} {lg r1 r2 : Int32} (hG : GI al iv rv) (h : REL iv rv) (p1 : (spTrav lg (iv 57 0 1).toInt (iv 63 0 1).toInt = 0 ∧ r1.toInt = (iv 63 0 1).toInt ∧ (iv1 63 0 1).toInt = (iv 63 0 1).toInt + 1 ∧ ∃ (aa a6 a7 : Nat) (siz : Int32), siz.toInt = al.1 65 + 1 ∧ al1 = grow (grow (grow al 65 aa) 66 a6) 67 a7 ∧ iv1 = tickIv iv (al.1 65) r1 siz ∧ rv1 = tickRv rv (al.1 65) lg.toNatClampNeg) ∨ (spTrav lg (iv 57 0 1).toInt (iv 63 0 1).toInt ≠ 0 ∧ r1 = spTrav lg (iv 57 0 1).toInt (iv 63 0 1).toInt ∧ iv1 63 0 1 = iv 63 0 1)) (p2 : (spTrav lg (iv1 0 0 6).toInt (iv1 0 0 20).toInt = 0 ∧ r2.toInt = (iv1 0 0 20).toInt ∧ (iv2 0 0 20).toInt = (iv1 0 0 20).toInt + 1 ∧ (∀ k : Nat, iv2 18 0 k = (if k = 4 * (iv1 0 0 20).toNatClampNeg then lg else iv1 18 0 k) ∧ iv2 19 0 k = (if k = (iv1 0 0 20).toNatClampNeg then 1 else iv1 19 0 k))) ∨ (spTrav lg (iv1 0 0 6).toInt (iv1 0 0 20).toInt ≠ 0 ∧ r2 = spTrav lg (iv1 0 0 6).toInt (iv1 0 0 20).toInt ∧ iv2 0 0 20 = iv1 0 0 20 ∧ (∀ k : Nat, iv2 18 0 k = iv1 18 0 k ∧ iv2 19 0 k = iv1 19 0 k))) (x1 : EX ([51, 64], [(63, 1)]) al iv rv al1 iv1 rv1) (f2 : FR ([16, 18, 19], [(0, 20)]) iv1 iv2) (g2 : FR ([16, 18, 19], [(0, 20)]) rv1 rv2) : REL iv2 rv2 := ⟨Cset.keep h.1 hG (KP.two x1 f2 g2 (by decide) (by decide)), Cbar.keep h.2.1 hG (KP.two x1 f2 g2 (by decide) (by decide)), Cport.keep h.2.2.1 hG (KP.two x1 f2 g2 (by decide) (by decide)), Clegn.keep h.2.2.2.1 hG (KP.two x1 f2 g2 (by decide) (by decide)), Clegf.keep h.2.2.2.2.1 hG (KP.two x1 f2 g2 (by decide) (by decide)), Clog.keep h.2.2.2.2.2.1 hG (KP.two x1 f2 g2 (by decide) (by decide)), Crt.keep h.2.2.2.2.2.2.1 hG (KP.two x1 f2 g2 (by decide) (by decide)), Ctkn.s_traveller hG h.2.2.2.1 h.2.2.2.2.2.2.2.1 p1 p2 x1 f2 g2, Ctick.s_traveller hG h.2.2.2.1 h.2.2.2.2.2.2.2.1 h.2.2.2.2.2.2.2.2.1 p1 p2 x1 f2 g2, Ccau.keep h.2.2.2.2.2.2.2.2.2 hG (KP.two x1 f2 g2 (by decide) (by decide))⟩
theorem REL.s_then {al al1 : Al} {iv iv1 iv2 : Iv} {rv rv1 rv2 : Rv} {tt lg r1 r2 : Int32} (hG : GI al iv rv) (h : REL iv rv) (p1 : (spThen iv tt lg = 0 ∧ r1.toInt = (iv 19 0 tt.toNatClampNeg).toInt + 1 ∧ thX iv rv iv1 rv1 tt.toNatClampNeg lg.toNatClampNeg) ∨ (spThen iv tt lg ≠ 0 ∧ r1 = spThen iv tt lg ∧ (∀ k : Nat, iv1 65 k 4 = iv 65 k 4) ∧ (∀ i k : Nat, rv1 66 i k = rv 66 i k) ∧ (∀ k : Nat, rv1 65 k 2 = rv 65 k 2))) (p2 : (spThen iv1 tt lg = 0 ∧ r2.toInt = (iv1 19 0 tt.toNatClampNeg).toInt + 1 ∧ (∀ k : Nat, iv2 18 0 k = (if k = 4 * tt.toNatClampNeg + (iv1 19 0 tt.toNatClampNeg).toNatClampNeg then lg else iv1 18 0 k) ∧ (iv2 19 0 k).toInt = (if k = tt.toNatClampNeg then (iv1 19 0 tt.toNatClampNeg).toInt + 1 else (iv1 19 0 k).toInt))) ∨ (spThen iv1 tt lg ≠ 0 ∧ r2 = spThen iv1 tt lg ∧ ∀ k : Nat, iv2 18 0 k = iv1 18 0 k ∧ iv2 19 0 k = iv1 19 0 k)) (x1 : EX ([51, 66], [(65, 2), (65, 4)]) al iv rv al1 iv1 rv1) (f2 : FR ([16, 18, 19], []) iv1 iv2) (g2 : FR ([16, 18, 19], []) rv1 rv2) : REL iv2 rv2 := ⟨Cset.keep h.1 hG (KP.two x1 f2 g2 (by decide) (by decide)), Cbar.keep h.2.1 hG (KP.two x1 f2 g2 (by decide) (by decide)), Cport.keep h.2.2.1 hG (KP.two x1 f2 g2 (by decide) (by decide)), Clegn.keep h.2.2.2.1 hG (KP.two x1 f2 g2 (by decide) (by decide)), Clegf.keep h.2.2.2.2.1 hG (KP.two x1 f2 g2 (by decide) (by decide)), Clog.keep h.2.2.2.2.2.1 hG (KP.two x1 f2 g2 (by decide) (by decide)), Crt.keep h.2.2.2.2.2.2.1 hG (KP.two x1 f2 g2 (by decide) (by decide)), Ctkn.keep h.2.2.2.2.2.2.2.1 hG (KP.two x1 f2 g2 (by decide) (by decide)), Ctick.s_then hG h.2.2.2.1 h.2.2.2.2.1 h.1 h.2.2.2.2.2.2.2.1 h.2.2.2.2.2.2.2.2.1 p1 p2 x1 f2 g2, Ccau.keep h.2.2.2.2.2.2.2.2.2 hG (KP.two x1 f2 g2 (by decide) (by decide))⟩
def LSt (ox om : Nat) (al : Al) (iv : Iv) (rv : Rv) : Prop := GI al iv rv ∧ al.2 49 0 = ox ∧ al.2 0 0 = om ∧ REL iv rv
def LX (p : Program) (s : State) (m : MethodId) (c : Code) (b L : Nat) (xs : Nat → Int32) (D : va_G) (cA : FieldType → ClassId) : Prop := Cx p s m #[Value.ref b] c cL_law 4 RL D cA ∧ va_X b L xs s s.heap ∧ b < s.heap.size ∧ SX cA s.heap.size s s.heap ∧ L ≤ 3584
def bz (x : Int32) : Int32 := if x = 0 then 0 else 1
theorem bz_0 {x : Int32} (h : x.toInt = (0 : Int32).toInt) : (0 : Int32) = bz x := by
  have : x = 0 := (fa_eq _ _).mpr h
  rw [this]; rfl
theorem bz_1 {x : Int32} (h : ¬ x.toInt = (0 : Int32).toInt) : (1 : Int32) = bz x := by
  unfold bz; rw [if_neg (fun e => h (by rw [e]))]
section LR
variable {p : Program} {l : Launch} {e : Env} {R : Room} {s : State} {m : MethodId} {args : Array Value} {below : List Frame} {meth : Method} {c : Code} {H : Heap} {locs : List Loc} {cells slots : Nat} {Q : State → Prop}
variable {cc : ByteArray} {pc nL : Nat} {ls : Array Slot} {rest : List Value} {own : String} {D : va_G} {cA : FieldType → ClassId} {sz : Nat} {al : Al} {iv : Iv} {rv : Rv} {b L : Nat} {xs : Nat → Int32}
theorem q_ai (X : LX p s m c b L xs D cA) (hS : va_S (Aq s.heap.size) s.heap H locs) {i k v : Int32} (hk : 0 ≤ k.toInt ∧ k.toInt ≤ 6) (hi : 0 ≤ i.toInt ∧ i.toInt + 6 < L) (ev : xs (i + k).toNatClampNeg = v) (d1 : decode cL_law pc = .ok (.iadd, 1)) (d2 : decode cL_law (pc + 1) = .ok (.iaload, 1))
    (kk : W p l e R s m #[Value.ref b] below meth c H locs cells slots Q (F0 m (pc + 2) ls (.int v :: rest))) : W p l e R s m #[Value.ref b] below meth c H locs cells slots Q (F0 m pc ls (.int k :: .int i :: .ref b :: rest)) := by
  obtain ⟨C, hX, hbl, -, hL⟩ := X
  have ti : (i + k).toInt = i.toInt + k.toInt := fb_addI (by omega) (by omega)
  refine lv_iadd C.1.1 C.1.2.1 d1 ?_
  refine va_sld (A := Aq s.heap.size) C.1.1 C.1.2.1 hX hbl (fun z => absurd hbl (Nat.not_lt.mpr z)) hS (ix_in (by omega) (by omega)) d2 ?_
  rw [ev]; exact kk
theorem q_runVX {y : MethodName} {bytes : ByteArray} {maxL mc ms n index t i ci : Nat} {ret : Option FieldType} {rmm : Room} {As : List Value} {q : vw_C} {Qc : Array Value → State → Outcome → State → Prop} {X : State → Prop} {st : List Value} (C : Cx p s m args c cc nL own D cA) (hU : UW D cA sz al iv rv H) (hz : sz ≤ H.size)
    (hX1 : ∀ U : State, U.heap = H → s.WarmedH U.vm → X U) (hX2 : ∀ (U : State) (g : JFrame) (mk : MethodId) (a : Array Value), X U → X (U.calling g mk a))
    (hM : Met l y (wd y bytes maxL ret) rmm (PcA D cA sz al iv rv (.ref (al.2 t i) :: As) X) Qc mc ms (Aq sz)) (vm : VM y bytes maxL ret n) (hl : Cond.methodLink own index y ∈ BW) (kp : (pt t).1 = some ci) (hc : vwCl[ci]? = some q) (hq : q.1 = y.cls) (hi : i < al.1 t) (hls : ls.size = nL) (hn : As.length = n) (hst : st = As.reverse ++ .ref (al.2 t i) :: rest)
    (hrm : (rest.map fun v => v.category).sum ≤ 8) (hdg : decode cc pc = .ok (.invokevirtual index, 3)) (hrc : rmm.cells = mc) (hrs : rmm.slots = ms) (hR : rmm.frames + 1 ≤ R.frames ∧ 8 + (maxL + 11) + rmm.locals ≤ R.locals) (hf : cells + mc ≤ R.cells ∧ slots + ms ≤ R.slots) :
    va_Run p l e R s m args below meth c H locs cells slots mc ms (F0 m pc ls st) rest (Qc (Value.ref (al.2 t i) :: As).toArray) (Aq sz) := by
  obtain ⟨v1, v2, v3, v4, v5⟩ := vm
  have hts := C.1.2.2.2.2
  have hK := C.2
  obtain ⟨cell, g1, g2, g3, -⟩ := (hU.1 t i hi).ob kp
  refine va_runV (C := y.cls) (As := As) (rest := rest) C.1 hM ⟨cb_of hts v1 v4 hl v5 hrc hrs hR, hts _ v2, hts _ v3⟩ ⟨fun a U g mk q => ⟨q.1, q.2.1, q.2.2.1.calling g mk a, q.2.2.2.1, hX2 U g mk a q.2.2.2.2⟩, ⟨cell, g1, by rw [g3]; rfl, ?_⟩, fun U hH hW => ⟨rfl, by rw [hH]; exact hU, hK.warm hW, by rw [hH]; exact hz, hX1 U hH hW⟩⟩ rfl hn hls hst (lv_room hrm) hdg hf
  rw [g2, ← hq]; exact (hK.1.1 ci q hc).2.1
end LR
