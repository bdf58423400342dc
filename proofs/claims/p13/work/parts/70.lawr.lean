theorem Cset.s_set {al al1 : Al} {iv iv1 iv2 : Iv} {rv rv1 rv2 : Rv} {what v r1 r2 : Int32} (hG : GI al iv rv) (hCset : Cset iv rv) (p1 : (spSet what v = 0 ∧ r1 = iv 50 0 what.toNatClampNeg ∧ ∀ k, iv1 50 0 k = if k = what.toNatClampNeg then v else iv 50 0 k) ∨ (spSet what v ≠ 0 ∧ r1 = spSet what v ∧ ∀ k, iv1 50 0 k = iv 50 0 k)) (p2 : (spSet what v = 0 ∧ r2 = iv1 15 0 what.toNatClampNeg ∧ ∀ k, iv2 15 0 k = if k = what.toNatClampNeg then v else iv1 15 0 k) ∨ (spSet what v ≠ 0 ∧ r2 = spSet what v ∧ ∀ k, iv2 15 0 k = iv1 15 0 k)) (x1 : EX ([51, 50], []) al iv rv al1 iv1 rv1) (f2 : FR ([16, 15], []) iv1 iv2) (g2 : FR ([16, 15], []) rv1 rv2) : Cset iv2 rv2 := by
  intro k hk
  have m1 : ∀ k, iv1 15 0 k = iv 15 0 k := fun k => (x1.2.2 15 0 k (h1_15 hG) (MD.no (by decide))).1
  have m2 : ∀ k, iv2 50 0 k = iv1 50 0 k := fun k => f2.arr 50 0 k (by decide)
  rcases p1 with ⟨o1, q1, w1⟩ | ⟨o1, q1, w1⟩ <;> rcases p2 with ⟨o2, q2, w2⟩ | ⟨o2, q2, w2⟩
  · rw [w2, m2, w1, m1, hCset k hk]
  · exact absurd o1 o2
  · exact absurd o2 o1
  · rw [w2, m2, w1, m1, hCset k hk]
theorem Cport.s_seen {al al1 : Al} {iv iv1 iv2 : Iv} {rv rv1 rv2 : Rv} {a b by_ r1 r2 : Int32} (hG : GI al iv rv) (hCport : Cport iv rv) (p1 : (spSeen a b by_ = 0 ∧ tkP iv iv1 a.toNatClampNeg b.toNatClampNeg by_ r1 ∧ (CRT iv rv → CRT iv1 rv1)) ∨ (spSeen a b by_ ≠ 0 ∧ r1 = spSeen a b by_ ∧ (∀ k : Nat, iv1 56 k 2 = iv 56 k 2 ∧ iv1 56 k 3 = iv 56 k 3) ∧ (CRT iv rv → CRT iv1 rv1))) (p2 : (spSeen a b by_ = 0 ∧ tkM iv1 iv2 a.toNatClampNeg b.toNatClampNeg by_ r2) ∨ (spSeen a b by_ ≠ 0 ∧ r2 = spSeen a b by_ ∧ ∀ k : Nat, iv2 3 0 k = iv1 3 0 k ∧ iv2 4 0 k = iv1 4 0 k)) (x1 : EX ([51], [(56, 2), (56, 3), (52, 2), (62, 10), (62, 11), (62, 12), (62, 13)]) al iv rv al1 iv1 rv1) (f2 : FR ([16, 4, 3], [(0, 5)]) iv1 iv2) (g2 : FR ([16, 4, 3], [(0, 5)]) rv1 rv2) : Cport iv2 rv2 := by
  have m3 : ∀ k, iv1 3 0 k = iv 3 0 k := fun k => (x1.2.2 3 0 k (h1_3 hG) (MD.no (by decide))).1
  have m4 : ∀ k, iv1 4 0 k = iv 4 0 k := fun k => (x1.2.2 4 0 k (h1_4 hG) (MD.no (by decide))).1
  have m6 : ∀ k, iv2 56 k 2 = iv1 56 k 2 ∧ iv2 56 k 3 = iv1 56 k 3 := fun k => ⟨f2 56 k 2 (by decide), f2 56 k 3 (by decide)⟩
  exact port_s hCport p1 p2 m3 m4 m6
theorem Crt.s_seen {al al1 : Al} {iv iv1 iv2 : Iv} {rv rv1 rv2 : Rv} {a b by_ r1 r2 : Int32} (hG : GI al iv rv) (hCrt : Crt iv rv) (p1 : (spSeen a b by_ = 0 ∧ tkP iv iv1 a.toNatClampNeg b.toNatClampNeg by_ r1 ∧ (CRT iv rv → CRT iv1 rv1)) ∨ (spSeen a b by_ ≠ 0 ∧ r1 = spSeen a b by_ ∧ (∀ k : Nat, iv1 56 k 2 = iv 56 k 2 ∧ iv1 56 k 3 = iv 56 k 3) ∧ (CRT iv rv → CRT iv1 rv1))) (p2 : (spSeen a b by_ = 0 ∧ tkM iv1 iv2 a.toNatClampNeg b.toNatClampNeg by_ r2) ∨ (spSeen a b by_ ≠ 0 ∧ r2 = spSeen a b by_ ∧ ∀ k : Nat, iv2 3 0 k = iv1 3 0 k ∧ iv2 4 0 k = iv1 4 0 k)) (x1 : EX ([51], [(56, 2), (56, 3), (52, 2), (62, 10), (62, 11), (62, 12), (62, 13)]) al iv rv al1 iv1 rv1) (f2 : FR ([16, 4, 3], [(0, 5)]) iv1 iv2) (g2 : FR ([16, 4, 3], [(0, 5)]) rv1 rv2) : Crt iv2 rv2 := by
  rcases p1 with ⟨-, -, h⟩ | ⟨-, -, -, h⟩
  · exact crt_fr f2 g2 (by decide) (h hCrt)
  · exact crt_fr f2 g2 (by decide) (h hCrt)
theorem Clegn.s_leg {al al1 : Al} {iv iv1 iv2 : Iv} {rv rv1 rv2 : Rv} {a b pp cc_ lv_ rr r1 r2 : Int32} (hG : GI al iv rv) (hClegn : Clegn iv rv) (p1 : (spLeg a b pp cc_ lv_ rr (iv 57 0 1).toInt = 0 ∧ r1.toInt = (iv 57 0 1).toInt ∧ (iv1 57 0 1).toInt = (iv 57 0 1).toInt + 1 ∧ ∃ (aa : Nat) (siz : Int32), siz.toInt = al.1 62 + 1 ∧ al1 = grow al 62 aa ∧ iv1 = legIv iv (al.1 62) r1 pp cc_ lv_ rr siz ∧ rv1 = legRv rv (al.1 62) a.toNatClampNeg b.toNatClampNeg) ∨ (spLeg a b pp cc_ lv_ rr (iv 57 0 1).toInt ≠ 0 ∧ r1 = spLeg a b pp cc_ lv_ rr (iv 57 0 1).toInt ∧ iv1 57 0 1 = iv 57 0 1)) (p2 : (spLeg a b pp cc_ lv_ rr (iv1 0 0 6).toInt = 0 ∧ r2.toInt = (iv1 0 0 6).toInt ∧ (iv2 0 0 6).toInt = (iv1 0 0 6).toInt + 1 ∧ lgM iv1 iv2 a b pp cc_ lv_ rr) ∨ (spLeg a b pp cc_ lv_ rr (iv1 0 0 6).toInt ≠ 0 ∧ r2 = spLeg a b pp cc_ lv_ rr (iv1 0 0 6).toInt ∧ iv2 0 0 6 = iv1 0 0 6 ∧ lgK iv1 iv2)) (x1 : EX ([51, 58], [(57, 1)]) al iv rv al1 iv1 rv1) (f2 : FR ([16, 5, 6, 7, 8, 9, 10], [(0, 6)]) iv1 iv2) (g2 : FR ([16, 5, 6, 7, 8, 9, 10], [(0, 6)]) rv1 rv2) : Clegn iv2 rv2 := by
  have e6 : (iv1 0 0 6).toInt = (iv 57 0 1).toInt := by rw [(x1.2.2 0 0 6 (h1_0 hG) (by decide)).1]; exact congrArg Int32.toInt hClegn
  have n := hG.2.2.2.1.2
  have c57 := f2 57 0 1 (by decide)
  rw [e6] at p2
  unfold Clegn
  rcases two_cases p1 p2 with ⟨o, ⟨q1, q2, aa, siz, hs, ha, hi, hr⟩, ⟨s1, s2, M⟩⟩ | ⟨o, ⟨q1, q2⟩, ⟨s1, s2, M⟩⟩
  · exact (fa_eq _ _).mpr (by rw [c57]; omega)
  · exact (fa_eq _ _).mpr (by rw [c57, q2, s2]; omega)
theorem Clegf.s_leg {al al1 : Al} {iv iv1 iv2 : Iv} {rv rv1 rv2 : Rv} {a b pp cc_ lv_ rr r1 r2 : Int32} (hG : GI al iv rv) (hClegn : Clegn iv rv) (hClegf : Clegf iv rv) (p1 : (spLeg a b pp cc_ lv_ rr (iv 57 0 1).toInt = 0 ∧ r1.toInt = (iv 57 0 1).toInt ∧ (iv1 57 0 1).toInt = (iv 57 0 1).toInt + 1 ∧ ∃ (aa : Nat) (siz : Int32), siz.toInt = al.1 62 + 1 ∧ al1 = grow al 62 aa ∧ iv1 = legIv iv (al.1 62) r1 pp cc_ lv_ rr siz ∧ rv1 = legRv rv (al.1 62) a.toNatClampNeg b.toNatClampNeg) ∨ (spLeg a b pp cc_ lv_ rr (iv 57 0 1).toInt ≠ 0 ∧ r1 = spLeg a b pp cc_ lv_ rr (iv 57 0 1).toInt ∧ iv1 57 0 1 = iv 57 0 1)) (p2 : (spLeg a b pp cc_ lv_ rr (iv1 0 0 6).toInt = 0 ∧ r2.toInt = (iv1 0 0 6).toInt ∧ (iv2 0 0 6).toInt = (iv1 0 0 6).toInt + 1 ∧ lgM iv1 iv2 a b pp cc_ lv_ rr) ∨ (spLeg a b pp cc_ lv_ rr (iv1 0 0 6).toInt ≠ 0 ∧ r2 = spLeg a b pp cc_ lv_ rr (iv1 0 0 6).toInt ∧ iv2 0 0 6 = iv1 0 0 6 ∧ lgK iv1 iv2)) (x1 : EX ([51, 58], [(57, 1)]) al iv rv al1 iv1 rv1) (f2 : FR ([16, 5, 6, 7, 8, 9, 10], [(0, 6)]) iv1 iv2) (g2 : FR ([16, 5, 6, 7, 8, 9, 10], [(0, 6)]) rv1 rv2) : Clegf iv2 rv2 := by
  have e6 : (iv1 0 0 6).toInt = (iv 57 0 1).toInt := by rw [(x1.2.2 0 0 6 (h1_0 hG) (by decide)).1]; exact congrArg Int32.toInt hClegn
  have n := hG.2.2.2.1.2
  have c57 := f2 57 0 1 (by decide)
  rw [e6] at p2
  have mo : ∀ t k, 5 ≤ t → t ≤ 10 → iv1 t 0 k = iv t 0 k := fun t k h1 h2 => (x1.2.2 t 0 k (by rw [hG.2.2.1.1 t ((by decide : ∀ t, t ≤ 10 → t ∈ sng) t h2)]; decide) (MD.no ((by decide : ∀ t, t ≤ 10 → 5 ≤ t → t ∉ ([51, 58] : List Nat) ∧ t ∉ [57]) t h2 h1))).1
  have xo : ∀ k f, k < al.1 62 → f ≤ 6 → iv2 62 k f = iv 62 k f ∧ rv2 62 k f = rv 62 k f := fun k f hk hf => by
    have q := x1.2.2 62 k f hk (MD.no (by decide))
    rw [f2.arr 62 k f (by decide), g2.arr 62 k f (by decide)]; exact q
  rcases two_cases p1 p2 with ⟨o, ⟨q1, q2, aa, siz, hs, ha, hi, hr⟩, ⟨s1, s2, M⟩⟩ | ⟨o, ⟨q1, q2⟩, ⟨s1, s2, M⟩⟩
  · have N : (iv1 0 0 6).toNatClampNeg = al.1 62 := by rw [clamp_n]; omega
    intro k hk
    rw [c57, q2] at hk
    by_cases z : k = al.1 62
    · subst z
      obtain ⟨m5, m6, m7, m8, m9, m10⟩ := M (al.1 62)
      rw [if_pos N.symm] at m5 m6 m7 m8 m9 m10
      obtain ⟨v0, v3, v4, v5, v6⟩ := legIv_v (iv := iv) (n := al.1 62) (num := r1) (pl := pp) (cr := cc_) (lv_ := lv_) (ar := rr) (siz := siz)
      obtain ⟨w1, w2⟩ := legRv_v (rv := rv) (n := al.1 62) (pf := a.toNatClampNeg) (pt_ := b.toNatClampNeg)
      rw [← hi] at v0 v3 v4 v5 v6
      rw [← hr] at w1 w2
      unfold lfk
      rw [g2.arr 62 _ 1 (by decide), g2.arr 62 _ 2 (by decide), f2.arr 62 _ 0 (by decide), f2.arr 62 _ 3 (by decide), f2.arr 62 _ 4 (by decide), f2.arr 62 _ 5 (by decide), f2.arr 62 _ 6 (by decide), m5, m6, m7, m8, m9, m10, v0, v3, v4, v5, v6, w1, w2]
      exact ⟨rfl, rfl, rfl, rfl, rfl, rfl, by omega⟩
    · have hk2 : k < al.1 62 := by omega
      refine lfk_cong (hClegf k (by omega)) (fun t h1 h2 => ?_) (fun f hf => (xo k f hk2 hf).1) (fun f _ h2 => (xo k f hk2 (by omega)).2)
      obtain ⟨m5, m6, m7, m8, m9, m10⟩ := M k
      rw [N, if_neg z] at m5 m6 m7 m8 m9 m10
      rw [← mo t k h1 h2]
      match t, h1, h2 with
      | 5, _, _ => exact m5
      | 6, _, _ => exact m6
      | 7, _, _ => exact m7
      | 8, _, _ => exact m8
      | 9, _, _ => exact m9
      | 10, _, _ => exact m10
  · intro k hk
    rw [c57, q2] at hk
    have hk2 : k < al.1 62 := by omega
    refine lfk_cong (hClegf k hk) (fun t h1 h2 => ?_) (fun f hf => (xo k f hk2 hf).1) (fun f _ h2 => (xo k f hk2 (by omega)).2)
    obtain ⟨m5, m6, m7, m8, m9, m10⟩ := M k
    rw [← mo t k h1 h2]
    match t, h1, h2 with
    | 5, _, _ => exact m5
    | 6, _, _ => exact m6
    | 7, _, _ => exact m7
    | 8, _, _ => exact m8
    | 9, _, _ => exact m9
    | 10, _, _ => exact m10
theorem Clog.s_leg {al al1 : Al} {iv iv1 iv2 : Iv} {rv rv1 rv2 : Rv} {a b pp cc_ lv_ rr r1 r2 : Int32} (hG : GI al iv rv) (hClegn : Clegn iv rv) (hClog : Clog iv rv) (p1 : (spLeg a b pp cc_ lv_ rr (iv 57 0 1).toInt = 0 ∧ r1.toInt = (iv 57 0 1).toInt ∧ (iv1 57 0 1).toInt = (iv 57 0 1).toInt + 1 ∧ ∃ (aa : Nat) (siz : Int32), siz.toInt = al.1 62 + 1 ∧ al1 = grow al 62 aa ∧ iv1 = legIv iv (al.1 62) r1 pp cc_ lv_ rr siz ∧ rv1 = legRv rv (al.1 62) a.toNatClampNeg b.toNatClampNeg) ∨ (spLeg a b pp cc_ lv_ rr (iv 57 0 1).toInt ≠ 0 ∧ r1 = spLeg a b pp cc_ lv_ rr (iv 57 0 1).toInt ∧ iv1 57 0 1 = iv 57 0 1)) (p2 : (spLeg a b pp cc_ lv_ rr (iv1 0 0 6).toInt = 0 ∧ r2.toInt = (iv1 0 0 6).toInt ∧ (iv2 0 0 6).toInt = (iv1 0 0 6).toInt + 1 ∧ lgM iv1 iv2 a b pp cc_ lv_ rr) ∨ (spLeg a b pp cc_ lv_ rr (iv1 0 0 6).toInt ≠ 0 ∧ r2 = spLeg a b pp cc_ lv_ rr (iv1 0 0 6).toInt ∧ iv2 0 0 6 = iv1 0 0 6 ∧ lgK iv1 iv2)) (x1 : EX ([51, 58], [(57, 1)]) al iv rv al1 iv1 rv1) (f2 : FR ([16, 5, 6, 7, 8, 9, 10], [(0, 6)]) iv1 iv2) (g2 : FR ([16, 5, 6, 7, 8, 9, 10], [(0, 6)]) rv1 rv2) : Clog iv2 rv2 := by
  have e6 : (iv1 0 0 6).toInt = (iv 57 0 1).toInt := by rw [(x1.2.2 0 0 6 (h1_0 hG) (by decide)).1]; exact congrArg Int32.toInt hClegn
  have n := hG.2.2.2.1.2
  have c57 := f2 57 0 1 (by decide)
  rw [e6] at p2
  have mo : ∀ k, iv2 11 0 k = iv 11 0 k ∧ iv2 12 0 k = iv 12 0 k ∧ iv2 13 0 k = iv 13 0 k := fun k => by
    rw [f2.arr 11 0 k (by decide), f2.arr 12 0 k (by decide), f2.arr 13 0 k (by decide)]
    exact ⟨(x1.2.2 11 0 k (h1_11 hG) (MD.no (by decide))).1, (x1.2.2 12 0 k (h1_12 hG) (MD.no (by decide))).1, (x1.2.2 13 0 k (h1_13 hG) (MD.no (by decide))).1⟩
  have xo : ∀ k f, k < al.1 62 → iv2 62 k f = iv 62 k f := fun k f hk => by
    rw [f2.arr 62 k f (by decide)]; exact (x1.2.2 62 k f hk (MD.no (by decide))).1
  rcases two_cases p1 p2 with ⟨o, ⟨q1, q2, aa, siz, hs, ha, hi, hr⟩, ⟨s1, s2, M⟩⟩ | ⟨o, ⟨q1, q2⟩, ⟨s1, s2, M⟩⟩
  · refine ⟨fun k hk => ?_, fun k hk => ?_⟩
    · rw [c57, q2] at hk
      rw [(mo k).1, (mo k).2.1, (mo k).2.2]
      by_cases z : k = al.1 62
      · rw [z, f2.arr 62 _ 7 (by decide), f2.arr 62 _ 8 (by decide), f2.arr 62 _ 9 (by decide), hi, legIv_blank (by decide), legIv_blank (by decide), legIv_blank (by decide)]
        exact hClog.2 _ (by omega)
      · rw [xo k 7 (by omega), xo k 8 (by omega), xo k 9 (by omega)]; exact hClog.1 k (by omega)
    · rw [c57, q2] at hk
      rw [(mo k).1, (mo k).2.1, (mo k).2.2]; exact hClog.2 k (by omega)
  · refine ⟨fun k hk => ?_, fun k hk => ?_⟩
    · rw [c57, q2] at hk
      rw [(mo k).1, (mo k).2.1, (mo k).2.2, xo k 7 (by omega), xo k 8 (by omega), xo k 9 (by omega)]; exact hClog.1 k hk
    · rw [c57, q2] at hk
      rw [(mo k).1, (mo k).2.1, (mo k).2.2]; exact hClog.2 k hk
theorem Crt.s_leg {al al1 : Al} {iv iv1 iv2 : Iv} {rv rv1 rv2 : Rv} {a b pp cc_ lv_ rr r1 r2 : Int32} (hG : GI al iv rv) (hClegn : Clegn iv rv) (hClegf : Clegf iv rv) (hCrt : Crt iv rv) (p1 : (spLeg a b pp cc_ lv_ rr (iv 57 0 1).toInt = 0 ∧ r1.toInt = (iv 57 0 1).toInt ∧ (iv1 57 0 1).toInt = (iv 57 0 1).toInt + 1 ∧ ∃ (aa : Nat) (siz : Int32), siz.toInt = al.1 62 + 1 ∧ al1 = grow al 62 aa ∧ iv1 = legIv iv (al.1 62) r1 pp cc_ lv_ rr siz ∧ rv1 = legRv rv (al.1 62) a.toNatClampNeg b.toNatClampNeg) ∨ (spLeg a b pp cc_ lv_ rr (iv 57 0 1).toInt ≠ 0 ∧ r1 = spLeg a b pp cc_ lv_ rr (iv 57 0 1).toInt ∧ iv1 57 0 1 = iv 57 0 1)) (p2 : (spLeg a b pp cc_ lv_ rr (iv1 0 0 6).toInt = 0 ∧ r2.toInt = (iv1 0 0 6).toInt ∧ (iv2 0 0 6).toInt = (iv1 0 0 6).toInt + 1 ∧ lgM iv1 iv2 a b pp cc_ lv_ rr) ∨ (spLeg a b pp cc_ lv_ rr (iv1 0 0 6).toInt ≠ 0 ∧ r2 = spLeg a b pp cc_ lv_ rr (iv1 0 0 6).toInt ∧ iv2 0 0 6 = iv1 0 0 6 ∧ lgK iv1 iv2)) (x1 : EX ([51, 58], [(57, 1)]) al iv rv al1 iv1 rv1) (f2 : FR ([16, 5, 6, 7, 8, 9, 10], [(0, 6)]) iv1 iv2) (g2 : FR ([16, 5, 6, 7, 8, 9, 10], [(0, 6)]) rv1 rv2) : Crt iv2 rv2 := by
  have e6 : (iv1 0 0 6).toInt = (iv 57 0 1).toInt := by rw [(x1.2.2 0 0 6 (h1_0 hG) (by decide)).1]; exact congrArg Int32.toInt hClegn
  have n := hG.2.2.2.1.2
  have c57 := f2 57 0 1 (by decide)
  rw [e6] at p2
  rcases two_cases p1 p2 with ⟨o, ⟨q1, q2, aa, siz, hs, ha, hi, hr⟩, ⟨s1, s2, M⟩⟩ | ⟨o, ⟨q1, q2⟩, ⟨s1, s2, M⟩⟩
  · intro k hk hz
    rw [c57, q2] at hk
    by_cases z : k = al.1 62
    · exfalso; apply hz
      rw [z, f2.arr 62 _ 7 (by decide), hi, legIv_blank (by decide)]; decide
    · have hk2 : k < al.1 62 := by omega
      have xo : ∀ f, iv2 62 k f = iv 62 k f ∧ rv2 62 k f = rv 62 k f := fun f => by
        have q := x1.2.2 62 k f hk2 (MD.no (by decide))
        rw [f2.arr 62 k f (by decide), g2.arr 62 k f (by decide)]; exact q
      rw [(xo 7).1] at hz
      exact crk_c3 hG hClegf hk2 (fun i hi => by rw [f2.arr 56 i 3 (by decide), (x1.2.2 56 i 3 hi (MD.no (by decide))).1]) xo (hCrt k (by omega) hz)
  · intro k hk hz
    rw [c57, q2] at hk
    have hk2 : k < al.1 62 := by omega
    have xo : ∀ f, iv2 62 k f = iv 62 k f ∧ rv2 62 k f = rv 62 k f := fun f => by
      have q := x1.2.2 62 k f hk2 (MD.no (by decide))
      rw [f2.arr 62 k f (by decide), g2.arr 62 k f (by decide)]; exact q
    rw [(xo 7).1] at hz
    exact crk_c3 hG hClegf hk2 (fun i hi => by rw [f2.arr 56 i 3 (by decide), (x1.2.2 56 i 3 hi (MD.no (by decide))).1]) xo (hCrt k hk hz)
theorem Ccau.s_leg {al al1 : Al} {iv iv1 iv2 : Iv} {rv rv1 rv2 : Rv} {a b pp cc_ lv_ rr r1 r2 : Int32} (hG : GI al iv rv) (hClegn : Clegn iv rv) (hCcau : Ccau iv rv) (p1 : (spLeg a b pp cc_ lv_ rr (iv 57 0 1).toInt = 0 ∧ r1.toInt = (iv 57 0 1).toInt ∧ (iv1 57 0 1).toInt = (iv 57 0 1).toInt + 1 ∧ ∃ (aa : Nat) (siz : Int32), siz.toInt = al.1 62 + 1 ∧ al1 = grow al 62 aa ∧ iv1 = legIv iv (al.1 62) r1 pp cc_ lv_ rr siz ∧ rv1 = legRv rv (al.1 62) a.toNatClampNeg b.toNatClampNeg) ∨ (spLeg a b pp cc_ lv_ rr (iv 57 0 1).toInt ≠ 0 ∧ r1 = spLeg a b pp cc_ lv_ rr (iv 57 0 1).toInt ∧ iv1 57 0 1 = iv 57 0 1)) (p2 : (spLeg a b pp cc_ lv_ rr (iv1 0 0 6).toInt = 0 ∧ r2.toInt = (iv1 0 0 6).toInt ∧ (iv2 0 0 6).toInt = (iv1 0 0 6).toInt + 1 ∧ lgM iv1 iv2 a b pp cc_ lv_ rr) ∨ (spLeg a b pp cc_ lv_ rr (iv1 0 0 6).toInt ≠ 0 ∧ r2 = spLeg a b pp cc_ lv_ rr (iv1 0 0 6).toInt ∧ iv2 0 0 6 = iv1 0 0 6 ∧ lgK iv1 iv2)) (x1 : EX ([51, 58], [(57, 1)]) al iv rv al1 iv1 rv1) (f2 : FR ([16, 5, 6, 7, 8, 9, 10], [(0, 6)]) iv1 iv2) (g2 : FR ([16, 5, 6, 7, 8, 9, 10], [(0, 6)]) rv1 rv2) : Ccau iv2 rv2 := by
  have e6 : (iv1 0 0 6).toInt = (iv 57 0 1).toInt := by rw [(x1.2.2 0 0 6 (h1_0 hG) (by decide)).1]; exact congrArg Int32.toInt hClegn
  have n := hG.2.2.2.1.2
  have c57 := f2 57 0 1 (by decide)
  rw [e6] at p2
  have mo : ∀ k, iv2 14 0 k = iv 14 0 k := fun k => by
    rw [f2.arr 14 0 k (by decide)]; exact (x1.2.2 14 0 k (h1_14 hG) (MD.no (by decide))).1
  have xo : ∀ k f, k < al.1 62 → iv2 62 k f = iv 62 k f := fun k f hk => by
    rw [f2.arr 62 k f (by decide)]; exact (x1.2.2 62 k f hk (MD.no (by decide))).1
  rcases two_cases p1 p2 with ⟨o, ⟨q1, q2, aa, siz, hs, ha, hi, hr⟩, ⟨s1, s2, M⟩⟩ | ⟨o, ⟨q1, q2⟩, ⟨s1, s2, M⟩⟩
  · refine ⟨fun k hk => ?_, fun k hk => ?_⟩
    · rw [c57, q2] at hk
      rw [mo k]
      by_cases z : k = al.1 62
      · rw [z, f2.arr 62 _ 14 (by decide), hi, legIv_blank (by decide)]
        exact hCcau.2 _ (by omega)
      · rw [xo k 14 (by omega)]; exact hCcau.1 k (by omega)
    · rw [c57, q2] at hk
      rw [mo k]; exact hCcau.2 k (by omega)
  · refine ⟨fun k hk => ?_, fun k hk => ?_⟩
    · rw [c57, q2] at hk
      rw [mo k, xo k 14 (by omega)]; exact hCcau.1 k hk
    · rw [c57, q2] at hk
      rw [mo k]; exact hCcau.2 k hk
theorem Clog.s_log {al al1 : Al} {iv iv1 iv2 : Iv} {rv rv1 rv2 : Rv} {lg a b r1 r2 : Int32} (hG : GI al iv rv) (hClegn : Clegn iv rv) (hClog : Clog iv rv) (p1 : (spLog lg a b (iv 57 0 1).toInt = 0 ∧ r1.toInt = 1 - (iv 62 lg.toNatClampNeg 7).toInt ∧ enP iv iv1 lg.toNatClampNeg a b ∧ (CRT iv rv → CRT iv1 rv1)) ∨ (spLog lg a b (iv 57 0 1).toInt ≠ 0 ∧ r1 = spLog lg a b (iv 57 0 1).toInt ∧ enK iv iv1 ∧ (CRT iv rv → CRT iv1 rv1))) (p2 : (spLog lg a b (iv1 0 0 6).toInt = 0 ∧ r2.toInt = 1 - (iv1 11 0 lg.toNatClampNeg).toInt ∧ ∀ k, iv2 11 0 k = (if k = lg.toNatClampNeg then 1 else iv1 11 0 k) ∧ iv2 12 0 k = (if k = lg.toNatClampNeg then a else iv1 12 0 k) ∧ iv2 13 0 k = (if k = lg.toNatClampNeg then b else iv1 13 0 k)) ∨ (spLog lg a b (iv1 0 0 6).toInt ≠ 0 ∧ r2 = spLog lg a b (iv1 0 0 6).toInt ∧ ∀ k, iv2 11 0 k = iv1 11 0 k ∧ iv2 12 0 k = iv1 12 0 k ∧ iv2 13 0 k = iv1 13 0 k)) (x1 : EX ([51], [(62, 10), (62, 11), (62, 12), (62, 13), (62, 7), (62, 8), (62, 9)]) al iv rv al1 iv1 rv1) (f2 : FR ([16, 11, 12, 13], []) iv1 iv2) (g2 : FR ([16, 11, 12, 13], []) rv1 rv2) : Clog iv2 rv2 := by
  have e6 : (iv1 0 0 6).toInt = (iv 57 0 1).toInt := by rw [(x1.2.2 0 0 6 (h1_0 hG) (by decide)).1]; exact congrArg Int32.toInt hClegn
  have n := hG.2.2.2.1.2
  have c57 : iv2 57 0 1 = iv 57 0 1 := by rw [f2 57 0 1 (by decide), (x1.2.2 57 0 1 (h1_57 hG) (by decide)).1]
  rw [e6] at p2
  have mo : ∀ k, iv1 11 0 k = iv 11 0 k ∧ iv1 12 0 k = iv 12 0 k ∧ iv1 13 0 k = iv 13 0 k := fun k => ⟨(x1.2.2 11 0 k (h1_11 hG) (MD.no (by decide))).1, (x1.2.2 12 0 k (h1_12 hG) (MD.no (by decide))).1, (x1.2.2 13 0 k (h1_13 hG) (MD.no (by decide))).1⟩
  have xo : ∀ k f, iv2 62 k f = iv1 62 k f := fun k f => f2.arr 62 k f (by decide)
  rcases two_cases p1 p2 with ⟨o, ⟨q1, E, -⟩, ⟨s1, M⟩⟩ | ⟨o, ⟨q1, E, -⟩, ⟨s1, M⟩⟩
  · have hl : ((lg.toNatClampNeg : Nat) : Int) < (iv 57 0 1).toInt := by
      have w := spLog_ok o
      rw [ix_nat w.1]; exact w.2
    refine ⟨fun k hk => ?_, fun k hk => ?_⟩
    · rw [c57] at hk
      obtain ⟨m1, m2, m3⟩ := M k
      obtain ⟨x7, x8, x9⟩ := E k
      rw [m1, m2, m3, xo, xo, xo, x7, x8, x9]
      by_cases z : k = lg.toNatClampNeg
      · simp only [if_pos z]; exact ⟨trivial, trivial, trivial⟩
      · simp only [if_neg z]; rw [(mo k).1, (mo k).2.1, (mo k).2.2]; exact hClog.1 k hk
    · rw [c57] at hk
      obtain ⟨m1, m2, m3⟩ := M k
      have z : ¬ k = lg.toNatClampNeg := fun z => by rw [z] at hk; omega
      rw [m1, m2, m3, if_neg z, if_neg z, if_neg z, (mo k).1, (mo k).2.1, (mo k).2.2]; exact hClog.2 k hk
  · refine ⟨fun k hk => ?_, fun k hk => ?_⟩
    · rw [c57] at hk
      obtain ⟨m1, m2, m3⟩ := M k
      obtain ⟨x7, x8, x9⟩ := E k
      rw [m1, m2, m3, xo, xo, xo, x7, x8, x9, (mo k).1, (mo k).2.1, (mo k).2.2]; exact hClog.1 k hk
    · rw [c57] at hk
      obtain ⟨m1, m2, m3⟩ := M k
      rw [m1, m2, m3, (mo k).1, (mo k).2.1, (mo k).2.2]; exact hClog.2 k hk
theorem Crt.s_log {al al1 : Al} {iv iv1 iv2 : Iv} {rv rv1 rv2 : Rv} {lg a b r1 r2 : Int32} (hG : GI al iv rv) (hCrt : Crt iv rv) (p1 : (spLog lg a b (iv 57 0 1).toInt = 0 ∧ r1.toInt = 1 - (iv 62 lg.toNatClampNeg 7).toInt ∧ enP iv iv1 lg.toNatClampNeg a b ∧ (CRT iv rv → CRT iv1 rv1)) ∨ (spLog lg a b (iv 57 0 1).toInt ≠ 0 ∧ r1 = spLog lg a b (iv 57 0 1).toInt ∧ enK iv iv1 ∧ (CRT iv rv → CRT iv1 rv1))) (p2 : (spLog lg a b (iv1 0 0 6).toInt = 0 ∧ r2.toInt = 1 - (iv1 11 0 lg.toNatClampNeg).toInt ∧ ∀ k, iv2 11 0 k = (if k = lg.toNatClampNeg then 1 else iv1 11 0 k) ∧ iv2 12 0 k = (if k = lg.toNatClampNeg then a else iv1 12 0 k) ∧ iv2 13 0 k = (if k = lg.toNatClampNeg then b else iv1 13 0 k)) ∨ (spLog lg a b (iv1 0 0 6).toInt ≠ 0 ∧ r2 = spLog lg a b (iv1 0 0 6).toInt ∧ ∀ k, iv2 11 0 k = iv1 11 0 k ∧ iv2 12 0 k = iv1 12 0 k ∧ iv2 13 0 k = iv1 13 0 k)) (x1 : EX ([51], [(62, 10), (62, 11), (62, 12), (62, 13), (62, 7), (62, 8), (62, 9)]) al iv rv al1 iv1 rv1) (f2 : FR ([16, 11, 12, 13], []) iv1 iv2) (g2 : FR ([16, 11, 12, 13], []) rv1 rv2) : Crt iv2 rv2 := by
  rcases p1 with ⟨-, -, -, h⟩ | ⟨-, -, -, h⟩
  · exact crt_fr f2 g2 (by decide) (h hCrt)
  · exact crt_fr f2 g2 (by decide) (h hCrt)
theorem Ccau.s_cause {al al1 : Al} {iv iv1 iv2 : Iv} {rv rv1 rv2 : Rv} {lg cs r1 r2 : Int32} (hG : GI al iv rv) (hClegn : Clegn iv rv) (hCcau : Ccau iv rv) (p1 : (spCause lg cs (iv 57 0 1).toInt = 0 ∧ r1 = iv 62 lg.toNatClampNeg 14 ∧ ∀ k, iv1 62 k 14 = if k = lg.toNatClampNeg then cs else iv 62 k 14) ∨ (spCause lg cs (iv 57 0 1).toInt ≠ 0 ∧ r1 = spCause lg cs (iv 57 0 1).toInt ∧ ∀ k, iv1 62 k 14 = iv 62 k 14)) (p2 : (spCause lg cs (iv1 0 0 6).toInt = 0 ∧ r2 = iv1 14 0 lg.toNatClampNeg ∧ ∀ k, iv2 14 0 k = if k = lg.toNatClampNeg then cs else iv1 14 0 k) ∨ (spCause lg cs (iv1 0 0 6).toInt ≠ 0 ∧ r2 = spCause lg cs (iv1 0 0 6).toInt ∧ ∀ k, iv2 14 0 k = iv1 14 0 k)) (x1 : EX ([51], [(62, 14)]) al iv rv al1 iv1 rv1) (f2 : FR ([16, 14], []) iv1 iv2) (g2 : FR ([16, 14], []) rv1 rv2) : Ccau iv2 rv2 := by
  have e6 : (iv1 0 0 6).toInt = (iv 57 0 1).toInt := by rw [(x1.2.2 0 0 6 (h1_0 hG) (by decide)).1]; exact congrArg Int32.toInt hClegn
  have c57 : iv2 57 0 1 = iv 57 0 1 := by rw [f2 57 0 1 (by decide), (x1.2.2 57 0 1 (h1_57 hG) (by decide)).1]
  rw [e6] at p2
  have mo : ∀ k, iv1 14 0 k = iv 14 0 k := fun k => (x1.2.2 14 0 k (h1_14 hG) (MD.no (by decide))).1
  have xo : ∀ k, iv2 62 k 14 = iv1 62 k 14 := fun k => f2.arr 62 k 14 (by decide)
  rcases two_cases p1 p2 with ⟨o, ⟨q1, E⟩, ⟨s1, M⟩⟩ | ⟨o, ⟨q1, E⟩, ⟨s1, M⟩⟩
  · have hl : ((lg.toNatClampNeg : Nat) : Int) < (iv 57 0 1).toInt := by
      have w := spCause_ok o
      rw [ix_nat w.1]; exact w.2
    refine ⟨fun k hk => ?_, fun k hk => ?_⟩
    · rw [c57] at hk
      rw [M k, xo, E k]
      by_cases z : k = lg.toNatClampNeg
      · rw [if_pos z, if_pos z]
      · rw [if_neg z, if_neg z, mo k]; exact hCcau.1 k hk
    · rw [c57] at hk
      have z : ¬ k = lg.toNatClampNeg := fun z => by rw [z] at hk; omega
      rw [M k, if_neg z, mo k]; exact hCcau.2 k hk
  · refine ⟨fun k hk => ?_, fun k hk => ?_⟩
    · rw [c57] at hk
      rw [M k, xo, E k, mo k]; exact hCcau.1 k hk
    · rw [c57] at hk
      rw [M k, mo k]; exact hCcau.2 k hk
theorem ans_minutes {al al1 : Al} {iv iv1 iv2 : Iv} {rv rv1 rv2 : Rv} {lg cs r1 r2 : Int32} (hG : GI al iv rv)  (p1 : r1 = mnS iv lg cs) (p2 : r2 = mnS iv1 lg cs) (x1 : EX ([51, 59], []) al iv rv al1 iv1 rv1) (f2 : FR ([16, 17], []) iv1 iv2) (g2 : FR ([16, 17], []) rv1 rv2) : r1 = r2 := by
  rw [p1, p2, mnS_m (ma_ex hG x1 (by decide))]
def REL (iv : Iv) (rv : Rv) : Prop := Cset iv rv ∧ Cport iv rv ∧ Clegn iv rv ∧ Clegf iv rv ∧ Clog iv rv ∧ Crt iv rv ∧ Ccau iv rv
abbrev rT : List Nat := [15, 50, 3, 4, 5, 6, 7, 8, 9, 10, 11, 12, 13, 14]
abbrev rF : List (Nat × Nat) := [(56, 2), (56, 3), (0, 6), (57, 1), (62, 0), (62, 1), (62, 2), (62, 3), (62, 4), (62, 5), (62, 6), (62, 7), (62, 8), (62, 9), (62, 10), (62, 11), (62, 12), (62, 13), (62, 14)]
theorem sT_Cset {md : Mo} (h : RC rT rF md) : RC T_Cset F_Cset md := ⟨fun t ht => h.1 t ((by decide : ∀ t, t ∈ T_Cset → t ∈ rT) t ht), fun q hq => h.2 q ((by decide : ∀ q, q ∈ F_Cset → q ∈ rF) q hq)⟩
theorem sT_Cport {md : Mo} (h : RC rT rF md) : RC T_Cport F_Cport md := ⟨fun t ht => h.1 t ((by decide : ∀ t, t ∈ T_Cport → t ∈ rT) t ht), fun q hq => h.2 q ((by decide : ∀ q, q ∈ F_Cport → q ∈ rF) q hq)⟩
theorem sT_Clegn {md : Mo} (h : RC rT rF md) : RC T_Clegn F_Clegn md := ⟨fun t ht => h.1 t ((by decide : ∀ t, t ∈ T_Clegn → t ∈ rT) t ht), fun q hq => h.2 q ((by decide : ∀ q, q ∈ F_Clegn → q ∈ rF) q hq)⟩
theorem sT_Clegf {md : Mo} (h : RC rT rF md) : RC T_Clegf F_Clegf md := ⟨fun t ht => h.1 t ((by decide : ∀ t, t ∈ T_Clegf → t ∈ rT) t ht), fun q hq => h.2 q ((by decide : ∀ q, q ∈ F_Clegf → q ∈ rF) q hq)⟩
theorem sT_Clog {md : Mo} (h : RC rT rF md) : RC T_Clog F_Clog md := ⟨fun t ht => h.1 t ((by decide : ∀ t, t ∈ T_Clog → t ∈ rT) t ht), fun q hq => h.2 q ((by decide : ∀ q, q ∈ F_Clog → q ∈ rF) q hq)⟩
theorem sT_Crt {md : Mo} (h : RC rT rF md) : RC T_Crt F_Crt md := ⟨fun t ht => h.1 t ((by decide : ∀ t, t ∈ T_Crt → t ∈ rT) t ht), fun q hq => h.2 q ((by decide : ∀ q, q ∈ F_Crt → q ∈ rF) q hq)⟩
theorem sT_Ccau {md : Mo} (h : RC rT rF md) : RC T_Ccau F_Ccau md := ⟨fun t ht => h.1 t ((by decide : ∀ t, t ∈ T_Ccau → t ∈ rT) t ht), fun q hq => h.2 q ((by decide : ∀ q, q ∈ F_Ccau → q ∈ rF) q hq)⟩
theorem REL.fr {al : Al} {iv iv' : Iv} {rv rv' : Rv} {md : Mo} (h : REL iv rv) (hG : GI al iv rv) (f : FR md iv iv') (g : FR md rv rv') (hd : RC rT rF md) : REL iv' rv' := ⟨Cset.keep h.1 hG (KP.fr f g (sT_Cset hd)), Cport.keep h.2.1 hG (KP.fr f g (sT_Cport hd)), Clegn.keep h.2.2.1 hG (KP.fr f g (sT_Clegn hd)), Clegf.keep h.2.2.2.1 hG (KP.fr f g (sT_Clegf hd)), Clog.keep h.2.2.2.2.1 hG (KP.fr f g (sT_Clog hd)), Crt.keep h.2.2.2.2.2.1 hG (KP.fr f g (sT_Crt hd)), Ccau.keep h.2.2.2.2.2.2 hG (KP.fr f g (sT_Ccau hd))⟩
theorem REL.ex {al al' : Al} {iv iv' : Iv} {rv rv' : Rv} {md : Mo} (h : REL iv rv) (hG : GI al iv rv) (g : EX md al iv rv al' iv' rv') (hd : RC rT rF md) : REL iv' rv' := ⟨Cset.keep h.1 hG (KP.ex g (sT_Cset hd)), Cport.keep h.2.1 hG (KP.ex g (sT_Cport hd)), Clegn.keep h.2.2.1 hG (KP.ex g (sT_Clegn hd)), Clegf.keep h.2.2.2.1 hG (KP.ex g (sT_Clegf hd)), Clog.keep h.2.2.2.2.1 hG (KP.ex g (sT_Clog hd)), Crt.keep h.2.2.2.2.2.1 hG (KP.ex g (sT_Crt hd)), Ccau.keep h.2.2.2.2.2.2 hG (KP.ex g (sT_Ccau hd))⟩
theorem REL.s_set {al al1 : Al} {iv iv1 iv2 : Iv} {rv rv1 rv2 : Rv} {what v r1 r2 : Int32} (hG : GI al iv rv) (h : REL iv rv) (p1 : (spSet what v = 0 ∧ r1 = iv 50 0 what.toNatClampNeg ∧ ∀ k, iv1 50 0 k = if k = what.toNatClampNeg then v else iv 50 0 k) ∨ (spSet what v ≠ 0 ∧ r1 = spSet what v ∧ ∀ k, iv1 50 0 k = iv 50 0 k)) (p2 : (spSet what v = 0 ∧ r2 = iv1 15 0 what.toNatClampNeg ∧ ∀ k, iv2 15 0 k = if k = what.toNatClampNeg then v else iv1 15 0 k) ∨ (spSet what v ≠ 0 ∧ r2 = spSet what v ∧ ∀ k, iv2 15 0 k = iv1 15 0 k)) (x1 : EX ([51, 50], []) al iv rv al1 iv1 rv1) (f2 : FR ([16, 15], []) iv1 iv2) (g2 : FR ([16, 15], []) rv1 rv2) : REL iv2 rv2 := ⟨Cset.s_set hG h.1 p1 p2 x1 f2 g2, Cport.keep h.2.1 hG (KP.two x1 f2 g2 (by decide) (by decide)), Clegn.keep h.2.2.1 hG (KP.two x1 f2 g2 (by decide) (by decide)), Clegf.keep h.2.2.2.1 hG (KP.two x1 f2 g2 (by decide) (by decide)), Clog.keep h.2.2.2.2.1 hG (KP.two x1 f2 g2 (by decide) (by decide)), Crt.keep h.2.2.2.2.2.1 hG (KP.two x1 f2 g2 (by decide) (by decide)), Ccau.keep h.2.2.2.2.2.2 hG (KP.two x1 f2 g2 (by decide) (by decide))⟩
theorem REL.s_seen {al al1 : Al} {iv iv1 iv2 : Iv} {rv rv1 rv2 : Rv} {a b by_ r1 r2 : Int32} (hG : GI al iv rv) (h : REL iv rv) (p1 : (spSeen a b by_ = 0 ∧ tkP iv iv1 a.toNatClampNeg b.toNatClampNeg by_ r1 ∧ (CRT iv rv → CRT iv1 rv1)) ∨ (spSeen a b by_ ≠ 0 ∧ r1 = spSeen a b by_ ∧ (∀ k : Nat, iv1 56 k 2 = iv 56 k 2 ∧ iv1 56 k 3 = iv 56 k 3) ∧ (CRT iv rv → CRT iv1 rv1))) (p2 : (spSeen a b by_ = 0 ∧ tkM iv1 iv2 a.toNatClampNeg b.toNatClampNeg by_ r2) ∨ (spSeen a b by_ ≠ 0 ∧ r2 = spSeen a b by_ ∧ ∀ k : Nat, iv2 3 0 k = iv1 3 0 k ∧ iv2 4 0 k = iv1 4 0 k)) (x1 : EX ([51], [(56, 2), (56, 3), (52, 2), (62, 10), (62, 11), (62, 12), (62, 13)]) al iv rv al1 iv1 rv1) (f2 : FR ([16, 4, 3], [(0, 5)]) iv1 iv2) (g2 : FR ([16, 4, 3], [(0, 5)]) rv1 rv2) : REL iv2 rv2 := ⟨Cset.keep h.1 hG (KP.two x1 f2 g2 (by decide) (by decide)), Cport.s_seen hG h.2.1 p1 p2 x1 f2 g2, Clegn.keep h.2.2.1 hG (KP.two x1 f2 g2 (by decide) (by decide)), Clegf.keep h.2.2.2.1 hG (KP.two x1 f2 g2 (by decide) (by decide)), Clog.keep h.2.2.2.2.1 hG (KP.two x1 f2 g2 (by decide) (by decide)), Crt.s_seen hG h.2.2.2.2.2.1 p1 p2 x1 f2 g2, Ccau.keep h.2.2.2.2.2.2 hG (KP.two x1 f2 g2 (by decide) (by decide))⟩
theorem REL.s_leg {al al1 : Al} {iv iv1 iv2 : Iv} {rv rv1 rv2 : Rv} {a b pp cc_ lv_ rr r1 r2 : Int32} (hG : GI al iv rv) (h : REL iv rv) (p1 : (spLeg a b pp cc_ lv_ rr (iv 57 0 1).toInt = 0 ∧ r1.toInt = (iv 57 0 1).toInt ∧ (iv1 57 0 1).toInt = (iv 57 0 1).toInt + 1 ∧ ∃ (aa : Nat) (siz : Int32), siz.toInt = al.1 62 + 1 ∧ al1 = grow al 62 aa ∧ iv1 = legIv iv (al.1 62) r1 pp cc_ lv_ rr siz ∧ rv1 = legRv rv (al.1 62) a.toNatClampNeg b.toNatClampNeg) ∨ (spLeg a b pp cc_ lv_ rr (iv 57 0 1).toInt ≠ 0 ∧ r1 = spLeg a b pp cc_ lv_ rr (iv 57 0 1).toInt ∧ iv1 57 0 1 = iv 57 0 1)) (p2 : (spLeg a b pp cc_ lv_ rr (iv1 0 0 6).toInt = 0 ∧ r2.toInt = (iv1 0 0 6).toInt ∧ (iv2 0 0 6).toInt = (iv1 0 0 6).toInt + 1 ∧ lgM iv1 iv2 a b pp cc_ lv_ rr) ∨ (spLeg a b pp cc_ lv_ rr (iv1 0 0 6).toInt ≠ 0 ∧ r2 = spLeg a b pp cc_ lv_ rr (iv1 0 0 6).toInt ∧ iv2 0 0 6 = iv1 0 0 6 ∧ lgK iv1 iv2)) (x1 : EX ([51, 58], [(57, 1)]) al iv rv al1 iv1 rv1) (f2 : FR ([16, 5, 6, 7, 8, 9, 10], [(0, 6)]) iv1 iv2) (g2 : FR ([16, 5, 6, 7, 8, 9, 10], [(0, 6)]) rv1 rv2) : REL iv2 rv2 := ⟨Cset.keep h.1 hG (KP.two x1 f2 g2 (by decide) (by decide)), Cport.keep h.2.1 hG (KP.two x1 f2 g2 (by decide) (by decide)), Clegn.s_leg hG h.2.2.1 p1 p2 x1 f2 g2, Clegf.s_leg hG h.2.2.1 h.2.2.2.1 p1 p2 x1 f2 g2, Clog.s_leg hG h.2.2.1 h.2.2.2.2.1 p1 p2 x1 f2 g2, Crt.s_leg hG h.2.2.1 h.2.2.2.1 h.2.2.2.2.2.1 p1 p2 x1 f2 g2, Ccau.s_leg hG h.2.2.1 h.2.2.2.2.2.2 p1 p2 x1 f2 g2⟩
theorem REL.s_log {al al1 : Al} {iv iv1 iv2 : Iv} {rv rv1 rv2 : Rv} {lg a b r1 r2 : Int32} (hG : GI al iv rv) (h : REL iv rv) (p1 : (spLog lg a b (iv 57 0 1).toInt = 0 ∧ r1.toInt = 1 - (iv 62 lg.toNatClampNeg 7).toInt ∧ enP iv iv1 lg.toNatClampNeg a b ∧ (CRT iv rv → CRT iv1 rv1)) ∨ (spLog lg a b (iv 57 0 1).toInt ≠ 0 ∧ r1 = spLog lg a b (iv 57 0 1).toInt ∧ enK iv iv1 ∧ (CRT iv rv → CRT iv1 rv1))) (p2 : (spLog lg a b (iv1 0 0 6).toInt = 0 ∧ r2.toInt = 1 - (iv1 11 0 lg.toNatClampNeg).toInt ∧ ∀ k, iv2 11 0 k = (if k = lg.toNatClampNeg then 1 else iv1 11 0 k) ∧ iv2 12 0 k = (if k = lg.toNatClampNeg then a else iv1 12 0 k) ∧ iv2 13 0 k = (if k = lg.toNatClampNeg then b else iv1 13 0 k)) ∨ (spLog lg a b (iv1 0 0 6).toInt ≠ 0 ∧ r2 = spLog lg a b (iv1 0 0 6).toInt ∧ ∀ k, iv2 11 0 k = iv1 11 0 k ∧ iv2 12 0 k = iv1 12 0 k ∧ iv2 13 0 k = iv1 13 0 k)) (x1 : EX ([51], [(62, 10), (62, 11), (62, 12), (62, 13), (62, 7), (62, 8), (62, 9)]) al iv rv al1 iv1 rv1) (f2 : FR ([16, 11, 12, 13], []) iv1 iv2) (g2 : FR ([16, 11, 12, 13], []) rv1 rv2) : REL iv2 rv2 := ⟨Cset.keep h.1 hG (KP.two x1 f2 g2 (by decide) (by decide)), Cport.keep h.2.1 hG (KP.two x1 f2 g2 (by decide) (by decide)), Clegn.keep h.2.2.1 hG (KP.two x1 f2 g2 (by decide) (by decide)), Clegf.keep h.2.2.2.1 hG (KP.two x1 f2 g2 (by decide) (by decide)), Clog.s_log hG h.2.2.1 h.2.2.2.2.1 p1 p2 x1 f2 g2, Crt.s_log hG h.2.2.2.2.2.1 p1 p2 x1 f2 g2, Ccau.keep h.2.2.2.2.2.2 hG (KP.two x1 f2 g2 (by decide) (by decide))⟩
theorem REL.s_cause {al al1 : Al} {iv iv1 iv2 : Iv} {rv rv1 rv2 : Rv} {lg cs r1 r2 : Int32} (hG : GI al iv rv) (h : REL iv rv) (p1 : (spCause lg cs (iv 57 0 1).toInt = 0 ∧ r1 = iv 62 lg.toNatClampNeg 14 ∧ ∀ k, iv1 62 k 14 = if k = lg.toNatClampNeg then cs else iv 62 k 14) ∨ (spCause lg cs (iv 57 0 1).toInt ≠ 0 ∧ r1 = spCause lg cs (iv 57 0 1).toInt ∧ ∀ k, iv1 62 k 14 = iv 62 k 14)) (p2 : (spCause lg cs (iv1 0 0 6).toInt = 0 ∧ r2 = iv1 14 0 lg.toNatClampNeg ∧ ∀ k, iv2 14 0 k = if k = lg.toNatClampNeg then cs else iv1 14 0 k) ∨ (spCause lg cs (iv1 0 0 6).toInt ≠ 0 ∧ r2 = spCause lg cs (iv1 0 0 6).toInt ∧ ∀ k, iv2 14 0 k = iv1 14 0 k)) (x1 : EX ([51], [(62, 14)]) al iv rv al1 iv1 rv1) (f2 : FR ([16, 14], []) iv1 iv2) (g2 : FR ([16, 14], []) rv1 rv2) : REL iv2 rv2 := ⟨Cset.keep h.1 hG (KP.two x1 f2 g2 (by decide) (by decide)), Cport.keep h.2.1 hG (KP.two x1 f2 g2 (by decide) (by decide)), Clegn.keep h.2.2.1 hG (KP.two x1 f2 g2 (by decide) (by decide)), Clegf.keep h.2.2.2.1 hG (KP.two x1 f2 g2 (by decide) (by decide)), Clog.keep h.2.2.2.2.1 hG (KP.two x1 f2 g2 (by decide) (by decide)), Crt.keep h.2.2.2.2.2.1 hG (KP.two x1 f2 g2 (by decide) (by decide)), Ccau.s_cause hG h.2.2.1 h.2.2.2.2.2.2 p1 p2 x1 f2 g2⟩
theorem REL.s_minutes {al al1 : Al} {iv iv1 iv2 : Iv} {rv rv1 rv2 : Rv} {lg cs r1 r2 : Int32} (hG : GI al iv rv) (h : REL iv rv) (p1 : r1 = mnS iv lg cs) (p2 : r2 = mnS iv1 lg cs) (x1 : EX ([51, 59], []) al iv rv al1 iv1 rv1) (f2 : FR ([16, 17], []) iv1 iv2) (g2 : FR ([16, 17], []) rv1 rv2) : REL iv2 rv2 := ⟨Cset.keep h.1 hG (KP.two x1 f2 g2 (by decide) (by decide)), Cport.keep h.2.1 hG (KP.two x1 f2 g2 (by decide) (by decide)), Clegn.keep h.2.2.1 hG (KP.two x1 f2 g2 (by decide) (by decide)), Clegf.keep h.2.2.2.1 hG (KP.two x1 f2 g2 (by decide) (by decide)), Clog.keep h.2.2.2.2.1 hG (KP.two x1 f2 g2 (by decide) (by decide)), Crt.keep h.2.2.2.2.2.1 hG (KP.two x1 f2 g2 (by decide) (by decide)), Ccau.keep h.2.2.2.2.2.2 hG (KP.two x1 f2 g2 (by decide) (by decide))⟩
theorem REL.a_minutes {al al1 : Al} {iv iv1 iv2 : Iv} {rv rv1 rv2 : Rv} {lg cs r1 r2 : Int32} (hG : GI al iv rv) (h : REL iv rv) (p1 : r1 = mnS iv lg cs) (p2 : r2 = mnS iv1 lg cs) (x1 : EX ([51, 59], []) al iv rv al1 iv1 rv1) (f2 : FR ([16, 17], []) iv1 iv2) (g2 : FR ([16, 17], []) rv1 rv2) : r1 = r2 := ans_minutes hG  p1 p2 x1 f2 g2
def LSt (ox om : Nat) (al : Al) (iv : Iv) (rv : Rv) : Prop := GI al iv rv ∧ al.2 49 0 = ox ∧ al.2 0 0 = om ∧ REL iv rv
def LX (p : Program) (s : State) (m : MethodId) (c : Code) (b L : Nat) (xs : Nat → Int32) (D : va_G) (cA : FieldType → ClassId) : Prop := Cx p s m #[Value.ref b] c cL_law 4 RL D cA ∧ va_X b L xs s s.heap ∧ b < s.heap.size ∧ SX cA s.heap.size s s.heap ∧ L ≤ 3584
def bz (x : Int32) : Int32 := if x = 0 then 0 else 1
theorem bz_0 {x : Int32} (h : x.toInt = (0 : Int32).toInt) : (0 : Int32) = bz x := by
  have : x = 0 := (fa_eq _ _).mpr h
  rw [this]; rfl
theorem bz_1 {x : Int32} (h : ¬ x.toInt = (0 : Int32).toInt) : (1 : Int32) = bz x := by
  unfold bz; rw [if_neg (fun e => h (by rw [e]))]
section LR
variable {p : Program} {l : Launch} {e : Env} {R : Room} {s : State} {m : MethodId} {args : Array Value} {below : List Frame} {meth : Method} {c : Code} {H : Heap} {locs : List Loc} {cells slots : Nat} {Q : State → Prop}
variable {cc : ByteArray} {pc nL : Nat} {ls : Array Slot} {rest : List Value} {own : String} {D : va_G} {cA : FieldType → ClassId} {sz : Nat} {al : Al} {iv : Iv} {rv : Rv} {b L : Nat} {xs : Nat → Int32}
theorem q_ai (X : LX p s m c b L xs D cA) (hS : va_S (Aq s.heap.size) s.heap H locs) {i k v : Int32} (hk : 0 ≤ k.toInt ∧ k.toInt ≤ 6) (hi : 0 ≤ i.toInt ∧ i.toInt + 6 < L) (ev : xs (i + k).toNatClampNeg = v) (d1 : decode cL_law pc = .ok (.iadd, 1)) (d2 : decode cL_law (pc + 1) = .ok (.iaload, 1))
    (kk : W p l e R s m #[Value.ref b] below meth c H locs cells slots Q (F0 m (pc + 2) ls (.int v :: rest))) : W p l e R s m #[Value.ref b] below meth c H locs cells slots Q (F0 m pc ls (.int k :: .int i :: .ref b :: rest)) := by
  obtain ⟨C, hX, hbl, -, hL⟩ := X
  have ti : (i + k).toInt = i.toInt + k.toInt := fb_addI (by omega) (by omega)
  refine lv_iadd C.1.1 C.1.2.1 d1 ?_
  refine va_sld (A := Aq s.heap.size) C.1.1 C.1.2.1 hX hbl (fun z => absurd hbl (Nat.not_lt.mpr z)) hS (ix_in (by omega) (by omega)) d2 ?_
  rw [ev]; exact kk
theorem q_runVX {y : MethodName} {bytes : ByteArray} {maxL mc ms n index t i ci : Nat} {ret : Option FieldType} {rmm : Room} {As : List Value} {q : vw_C} {Qc : Array Value → State → Outcome → State → Prop} {X : State → Prop} {st : List Value} (C : Cx p s m args c cc nL own D cA) (hU : UW D cA sz al iv rv H) (hz : sz ≤ H.size)
    (hX1 : ∀ U : State, U.heap = H → s.WarmedH U.vm → X U) (hX2 : ∀ (U : State) (g : JFrame) (mk : MethodId) (a : Array Value), X U → X (U.calling g mk a))
    (hM : Met l y (wd y bytes maxL ret) rmm (PcA D cA sz al iv rv (.ref (al.2 t i) :: As) X) Qc mc ms (Aq sz)) (vm : VM y bytes maxL ret n) (hl : Cond.methodLink own index y ∈ BW) (kp : (pt t).1 = some ci) (hc : vwCl[ci]? = some q) (hq : q.1 = y.cls) (hi : i < al.1 t) (hls : ls.size = nL) (hn : As.length = n) (hst : st = As.reverse ++ .ref (al.2 t i) :: rest)
    (hrm : (rest.map fun v => v.category).sum ≤ 8) (hdg : decode cc pc = .ok (.invokevirtual index, 3)) (hrc : rmm.cells = mc) (hrs : rmm.slots = ms) (hR : rmm.frames + 1 ≤ R.frames ∧ 8 + (maxL + 11) + rmm.locals ≤ R.locals) (hf : cells + mc ≤ R.cells ∧ slots + ms ≤ R.slots) :
    va_Run p l e R s m args below meth c H locs cells slots mc ms (F0 m pc ls st) rest (Qc (Value.ref (al.2 t i) :: As).toArray) (Aq sz) := by
  obtain ⟨v1, v2, v3, v4, v5⟩ := vm
  have hts := C.1.2.2.2.2
  have hK := C.2
  obtain ⟨cell, g1, g2, g3, -⟩ := (hU.1 t i hi).ob kp
  refine va_runV (C := y.cls) (As := As) (rest := rest) C.1 hM ⟨cb_of hts v1 v4 hl v5 hrc hrs hR, hts _ v2, hts _ v3⟩ ⟨fun a U g mk q => ⟨q.1, q.2.1, q.2.2.1.calling g mk a, q.2.2.2.1, hX2 U g mk a q.2.2.2.2⟩, ⟨cell, g1, by rw [g3]; rfl, ?_⟩, fun U hH hW => ⟨rfl, by rw [hH]; exact hU, hK.warm hW, by rw [hH]; exact hz, hX1 U hH hW⟩⟩ rfl hn hls hst (lv_room hrm) hdg hf
  rw [g2, ← hq]; exact (hK.1.1 ci q hc).2.1
end LR
