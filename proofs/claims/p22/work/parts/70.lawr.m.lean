section
theorem Cday.s_days {al al1 : Al} {iv iv1 iv2 : Iv} {rv rv1 rv2 : Rv} {n : Int32} (hG : GI al iv rv) (hCday : Cday iv rv) (p1 : (iv1 49 0 9).toInt = dayF n.toInt (iv 49 0 9).toInt) (p2 : (iv2 0 0 0).toInt = dayF n.toInt (iv1 0 0 0).toInt) (x1 : EX ([51], [(49, 9)]) al iv rv al1 iv1 rv1) (f2 : FR ([16], [(0, 0)]) iv1 iv2) (g2 : FR ([16], [(0, 0)]) rv1 rv2) : Cday iv2 rv2 := by
  have a0 := (x1.2.2 0 0 0 (h1_0 hG) (by decide)).1
  have a9 := f2 49 0 9 (by decide)
  unfold Cday
  have z : iv 0 0 0 = iv 49 0 9 := hCday
  exact (fa_eq _ _).mpr (by rw [p2, a9, p1, a0, z])
theorem Cexc.s_excuse {al al1 : Al} {iv iv1 iv2 : Iv} {rv rv1 rv2 : Rv} {lw cs d on r1 r2 : Int32} (hG : GI al iv rv) (hCday : Cday iv rv) (hCexc : Cexc iv rv) (p1 : (spExc lw cs d (iv 68 0 11).toInt = 0 ∧ r1.toInt = (iv 68 0 11).toInt + 1 ∧ (iv1 68 0 11).toInt = (iv 68 0 11).toInt + 1 ∧ (∀ k : Nat, iv1 74 0 k = (if k = (iv 68 0 11).toNatClampNeg then lw else iv 74 0 k) ∧ iv1 75 0 k = (if k = (iv 68 0 11).toNatClampNeg then cs else iv 75 0 k) ∧ iv1 76 0 k = (if k = (iv 68 0 11).toNatClampNeg then d else iv 76 0 k) ∧ iv1 77 0 k = (if k = (iv 68 0 11).toNatClampNeg then iv 49 0 9 else iv 77 0 k) ∧ iv1 78 0 k = (if k = (iv 68 0 11).toNatClampNeg then on else iv 78 0 k))) ∨ (spExc lw cs d (iv 68 0 11).toInt ≠ 0 ∧ r1 = spExc lw cs d (iv 68 0 11).toInt ∧ iv1 68 0 11 = iv 68 0 11 ∧ (∀ k : Nat, iv1 74 0 k = iv 74 0 k ∧ iv1 75 0 k = iv 75 0 k ∧ iv1 76 0 k = iv 76 0 k ∧ iv1 77 0 k = iv 77 0 k ∧ iv1 78 0 k = iv 78 0 k))) (p2 : (spExc lw cs d (iv1 0 0 30).toInt = 0 ∧ r2.toInt = (iv1 0 0 30).toInt + 1 ∧ (iv2 0 0 30).toInt = (iv1 0 0 30).toInt + 1 ∧ (∀ k : Nat, iv2 26 0 k = (if k = (iv1 0 0 30).toNatClampNeg then lw else iv1 26 0 k) ∧ iv2 27 0 k = (if k = (iv1 0 0 30).toNatClampNeg then cs else iv1 27 0 k) ∧ iv2 28 0 k = (if k = (iv1 0 0 30).toNatClampNeg then d else iv1 28 0 k) ∧ iv2 29 0 k = (if k = (iv1 0 0 30).toNatClampNeg then iv1 0 0 0 else iv1 29 0 k) ∧ iv2 30 0 k = (if k = (iv1 0 0 30).toNatClampNeg then on else iv1 30 0 k))) ∨ (spExc lw cs d (iv1 0 0 30).toInt ≠ 0 ∧ r2 = spExc lw cs d (iv1 0 0 30).toInt ∧ iv2 0 0 30 = iv1 0 0 30 ∧ (∀ k : Nat, iv2 26 0 k = iv1 26 0 k ∧ iv2 27 0 k = iv1 27 0 k ∧ iv2 28 0 k = iv1 28 0 k ∧ iv2 29 0 k = iv1 29 0 k ∧ iv2 30 0 k = iv1 30 0 k))) (x1 : EX ([51, 74, 75, 76, 77, 78], [(68, 11)]) al iv rv al1 iv1 rv1) (f2 : FR ([16, 26, 27, 28, 29, 30], [(0, 30)]) iv1 iv2) (g2 : FR ([16, 26, 27, 28, 29, 30], [(0, 30)]) rv1 rv2) : Cexc iv2 rv2 := by
  have eN : iv1 0 0 30 = iv 68 0 11 := by rw [(x1.2.2 0 0 30 (h1_0 hG) (by decide)).1]; exact hCexc.1
  have eD : iv1 0 0 0 = iv 49 0 9 := by rw [(x1.2.2 0 0 0 (h1_0 hG) (by decide)).1]; exact hCday
  rw [eN, eD] at p2
  have c5 := f2 68 0 11 (by decide)
  have mo : ∀ k : Nat, iv1 26 0 k = iv 26 0 k ∧ iv1 27 0 k = iv 27 0 k ∧ iv1 28 0 k = iv 28 0 k ∧ iv1 29 0 k = iv 29 0 k ∧ iv1 30 0 k = iv 30 0 k := fun k => ⟨(x1.2.2 26 0 k (h1_26 hG) (MD.no (by decide))).1, (x1.2.2 27 0 k (h1_27 hG) (MD.no (by decide))).1, (x1.2.2 28 0 k (h1_28 hG) (MD.no (by decide))).1, (x1.2.2 29 0 k (h1_29 hG) (MD.no (by decide))).1, (x1.2.2 30 0 k (h1_30 hG) (MD.no (by decide))).1⟩
  rcases two_cases p1 p2 with ⟨o, ⟨q1, q2, E⟩, ⟨s1, s2, M⟩⟩ | ⟨o, ⟨q1, q2, E⟩, ⟨s1, s2, M⟩⟩
  · refine ⟨(fa_eq _ _).mpr (by rw [c5]; omega), fun k => ?_⟩
    obtain ⟨m0, m1, m2, m3, m4⟩ := M k
    obtain ⟨e0, e1, e2, e3, e4⟩ := E k
    obtain ⟨h0, h1, h2, h3, h4⟩ := hCexc.2 k
    obtain ⟨o0, o1, o2, o3, o4⟩ := mo k
    rw [m0, m1, m2, m3, m4, f2.arr 74 0 k (by decide), f2.arr 75 0 k (by decide), f2.arr 76 0 k (by decide), f2.arr 77 0 k (by decide), f2.arr 78 0 k (by decide), e0, e1, e2, e3, e4, o0, o1, o2, o3, o4, h0, h1, h2, h3, h4]
    exact ⟨rfl, rfl, rfl, rfl, rfl⟩
  · refine ⟨by rw [c5, q2, s2], fun k => ?_⟩
    obtain ⟨m0, m1, m2, m3, m4⟩ := M k
    obtain ⟨e0, e1, e2, e3, e4⟩ := E k
    obtain ⟨h0, h1, h2, h3, h4⟩ := hCexc.2 k
    obtain ⟨o0, o1, o2, o3, o4⟩ := mo k
    rw [m0, m1, m2, m3, m4, f2.arr 74 0 k (by decide), f2.arr 75 0 k (by decide), f2.arr 76 0 k (by decide), f2.arr 77 0 k (by decide), f2.arr 78 0 k (by decide), e0, e1, e2, e3, e4, o0, o1, o2, o3, o4, h0, h1, h2, h3, h4]
    exact ⟨rfl, rfl, rfl, rfl, rfl⟩
theorem ans_excuse {al al1 : Al} {iv iv1 iv2 : Iv} {rv rv1 rv2 : Rv} {lw cs d on r1 r2 : Int32} (hG : GI al iv rv) (hCday : Cday iv rv) (hCexc : Cexc iv rv) (p1 : (spExc lw cs d (iv 68 0 11).toInt = 0 ∧ r1.toInt = (iv 68 0 11).toInt + 1 ∧ (iv1 68 0 11).toInt = (iv 68 0 11).toInt + 1 ∧ (∀ k : Nat, iv1 74 0 k = (if k = (iv 68 0 11).toNatClampNeg then lw else iv 74 0 k) ∧ iv1 75 0 k = (if k = (iv 68 0 11).toNatClampNeg then cs else iv 75 0 k) ∧ iv1 76 0 k = (if k = (iv 68 0 11).toNatClampNeg then d else iv 76 0 k) ∧ iv1 77 0 k = (if k = (iv 68 0 11).toNatClampNeg then iv 49 0 9 else iv 77 0 k) ∧ iv1 78 0 k = (if k = (iv 68 0 11).toNatClampNeg then on else iv 78 0 k))) ∨ (spExc lw cs d (iv 68 0 11).toInt ≠ 0 ∧ r1 = spExc lw cs d (iv 68 0 11).toInt ∧ iv1 68 0 11 = iv 68 0 11 ∧ (∀ k : Nat, iv1 74 0 k = iv 74 0 k ∧ iv1 75 0 k = iv 75 0 k ∧ iv1 76 0 k = iv 76 0 k ∧ iv1 77 0 k = iv 77 0 k ∧ iv1 78 0 k = iv 78 0 k))) (p2 : (spExc lw cs d (iv1 0 0 30).toInt = 0 ∧ r2.toInt = (iv1 0 0 30).toInt + 1 ∧ (iv2 0 0 30).toInt = (iv1 0 0 30).toInt + 1 ∧ (∀ k : Nat, iv2 26 0 k = (if k = (iv1 0 0 30).toNatClampNeg then lw else iv1 26 0 k) ∧ iv2 27 0 k = (if k = (iv1 0 0 30).toNatClampNeg then cs else iv1 27 0 k) ∧ iv2 28 0 k = (if k = (iv1 0 0 30).toNatClampNeg then d else iv1 28 0 k) ∧ iv2 29 0 k = (if k = (iv1 0 0 30).toNatClampNeg then iv1 0 0 0 else iv1 29 0 k) ∧ iv2 30 0 k = (if k = (iv1 0 0 30).toNatClampNeg then on else iv1 30 0 k))) ∨ (spExc lw cs d (iv1 0 0 30).toInt ≠ 0 ∧ r2 = spExc lw cs d (iv1 0 0 30).toInt ∧ iv2 0 0 30 = iv1 0 0 30 ∧ (∀ k : Nat, iv2 26 0 k = iv1 26 0 k ∧ iv2 27 0 k = iv1 27 0 k ∧ iv2 28 0 k = iv1 28 0 k ∧ iv2 29 0 k = iv1 29 0 k ∧ iv2 30 0 k = iv1 30 0 k))) (x1 : EX ([51, 74, 75, 76, 77, 78], [(68, 11)]) al iv rv al1 iv1 rv1) (f2 : FR ([16, 26, 27, 28, 29, 30], [(0, 30)]) iv1 iv2) (g2 : FR ([16, 26, 27, 28, 29, 30], [(0, 30)]) rv1 rv2) : r1 = r2 := by
  have eN : iv1 0 0 30 = iv 68 0 11 := by rw [(x1.2.2 0 0 30 (h1_0 hG) (by decide)).1]; exact hCexc.1
  have eD : iv1 0 0 0 = iv 49 0 9 := by rw [(x1.2.2 0 0 0 (h1_0 hG) (by decide)).1]; exact hCday
  rw [eN, eD] at p2
  rcases two_cases p1 p2 with ⟨o, ⟨q1, q2, E⟩, ⟨s1, s2, M⟩⟩ | ⟨o, ⟨q1, q2, E⟩, ⟨s1, s2, M⟩⟩
  · exact (fa_eq _ _).mpr (by omega)
  · rw [q1, s1]
def REL (iv : Iv) (rv : Rv) : Prop := Cday iv rv ∧ Cexc iv rv
abbrev rT : List Nat := [26, 27, 28, 29, 30, 74, 75, 76, 77, 78]
abbrev rF : List (Nat × Nat) := [(0, 0), (49, 9), (0, 30), (68, 11)]
theorem sT_Cday {md : Mo} (h : RC rT rF md) : RC T_Cday F_Cday md := ⟨fun t ht => h.1 t ((by decide : ∀ t, t ∈ T_Cday → t ∈ rT) t ht), fun q hq => h.2 q ((by decide : ∀ q, q ∈ F_Cday → q ∈ rF) q hq)⟩
theorem sT_Cexc {md : Mo} (h : RC rT rF md) : RC T_Cexc F_Cexc md := ⟨fun t ht => h.1 t ((by decide : ∀ t, t ∈ T_Cexc → t ∈ rT) t ht), fun q hq => h.2 q ((by decide : ∀ q, q ∈ F_Cexc → q ∈ rF) q hq)⟩
theorem REL.fr {al : Al} {iv iv' : Iv} {rv rv' : Rv} {md : Mo} (h : REL iv rv) (hG : GI al iv rv) (f : FR md iv iv') (g : FR md rv rv') (hd : RC rT rF md) : REL iv' rv' := ⟨Cday.keep h.1 hG (KP.fr f g (sT_Cday hd)), Cexc.keep h.2 hG (KP.fr f g (sT_Cexc hd))⟩
theorem REL.ex {al al' : Al} {iv iv' : Iv} {rv rv' : Rv} {md : Mo} (h : REL iv rv) (hG : GI al iv rv) (g : EX md al iv rv al' iv' rv') (hd : RC rT rF md) : REL iv' rv' := ⟨Cday.keep h.1 hG (KP.ex g (sT_Cday hd)), Cexc.keep h.2 hG (KP.ex g (sT_Cexc hd))⟩
theorem REL.s_days {al al1 : Al} {iv iv1 iv2 : Iv} {rv rv1 rv2 : Rv} {n : Int32} (hG : GI al iv rv) (h : REL iv rv) (p1 : (iv1 49 0 9).toInt = dayF n.toInt (iv 49 0 9).toInt) (p2 : (iv2 0 0 0).toInt = dayF n.toInt (iv1 0 0 0).toInt) (x1 : EX ([51], [(49, 9)]) al iv rv al1 iv1 rv1) (f2 : FR ([16], [(0, 0)]) iv1 iv2) (g2 : FR ([16], [(0, 0)]) rv1 rv2) : REL iv2 rv2 := ⟨Cday.s_days hG h.1 p1 p2 x1 f2 g2, Cexc.keep h.2 hG (KP.two x1 f2 g2 (by decide) (by decide))⟩
theorem REL.s_excuse {al al1 : Al} {iv iv1 iv2 : Iv} {rv rv1 rv2 : Rv} {lw cs d on r1 r2 : Int32} (hG : GI al iv rv) (h : REL iv rv) (p1 : (spExc lw cs d (iv 68 0 11).toInt = 0 ∧ r1.toInt = (iv 68 0 11).toInt + 1 ∧ (iv1 68 0 11).toInt = (iv 68 0 11).toInt + 1 ∧ (∀ k : Nat, iv1 74 0 k = (if k = (iv 68 0 11).toNatClampNeg then lw else iv 74 0 k) ∧ iv1 75 0 k = (if k = (iv 68 0 11).toNatClampNeg then cs else iv 75 0 k) ∧ iv1 76 0 k = (if k = (iv 68 0 11).toNatClampNeg then d else iv 76 0 k) ∧ iv1 77 0 k = (if k = (iv 68 0 11).toNatClampNeg then iv 49 0 9 else iv 77 0 k) ∧ iv1 78 0 k = (if k = (iv 68 0 11).toNatClampNeg then on else iv 78 0 k))) ∨ (spExc lw cs d (iv 68 0 11).toInt ≠ 0 ∧ r1 = spExc lw cs d (iv 68 0 11).toInt ∧ iv1 68 0 11 = iv 68 0 11 ∧ (∀ k : Nat, iv1 74 0 k = iv 74 0 k ∧ iv1 75 0 k = iv 75 0 k ∧ iv1 76 0 k = iv 76 0 k ∧ iv1 77 0 k = iv 77 0 k ∧ iv1 78 0 k = iv 78 0 k))) (p2 : (spExc lw cs d (iv1 0 0 30).toInt = 0 ∧ r2.toInt = (iv1 0 0 30).toInt + 1 ∧ (iv2 0 0 30).toInt = (iv1 0 0 30).toInt + 1 ∧ (∀ k : Nat, iv2 26 0 k = (if k = (iv1 0 0 30).toNatClampNeg then lw else iv1 26 0 k) ∧ iv2 27 0 k = (if k = (iv1 0 0 30).toNatClampNeg then cs else iv1 27 0 k) ∧ iv2 28 0 k = (if k = (iv1 0 0 30).toNatClampNeg then d else iv1 28 0 k) ∧ iv2 29 0 k = (if k = (iv1 0 0 30).toNatClampNeg then iv1 0 0 0 else iv1 29 0 k) ∧ iv2 30 0 k = (if k = (iv1 0 0 30).toNatClampNeg then on else iv1 30 0 k))) ∨ (spExc lw cs d (iv1 0 0 30).toInt ≠ 0 ∧ r2 = spExc lw cs d (iv1 0 0 30).toInt ∧ iv2 0 0 30 = iv1 0 0 30 ∧ (∀ k : Nat, iv2 26 0 k = iv1 26 0 k ∧ iv2 27 0 k = iv1 27 0 k ∧ iv2 28 0 k = iv1 28 0 k ∧ iv2 29 0 k = iv1 29 0 k ∧ iv2 30 0 k = iv1 30 0 k))) (x1 : EX ([51, 74, 75, 76, 77, 78], [(68, 11)]) al iv rv al1 iv1 rv1) (f2 : FR ([16, 26, 27, 28, 29, 30], [(0, 30)]) iv1 iv2) (g2 : FR ([16, 26, 27, 28, 29, 30], [(0, 30)]) rv1 rv2) : REL iv2 rv2 := ⟨Cday.keep h.1 hG (KP.two x1 f2 g2 (by decide) (by decide)), Cexc.s_excuse hG h.1 h.2 p1 p2 x1 f2 g2⟩
theorem REL.a_excuse {al al1 : Al} {iv iv1 iv2 : Iv} {rv rv1 rv2 : Rv} {lw cs d on r1 r2 : Int32} (hG : GI al iv rv) (h : REL iv rv) (p1 : (spExc lw cs d (iv 68 0 11).toInt = 0 ∧ r1.toInt = (iv 68 0 11).toInt + 1 ∧ (iv1 68 0 11).toInt = (iv 68 0 11).toInt + 1 ∧ (∀ k : Nat, iv1 74 0 k = (if k = (iv 68 0 11).toNatClampNeg then lw else iv 74 0 k) ∧ iv1 75 0 k = (if k = (iv 68 0 11).toNatClampNeg then cs else iv 75 0 k) ∧ iv1 76 0 k = (if k = (iv 68 0 11).toNatClampNeg then d else iv 76 0 k) ∧ iv1 77 0 k = (if k = (iv 68 0 11).toNatClampNeg then iv 49 0 9 else iv 77 0 k) ∧ iv1 78 0 k = (if k = (iv 68 0 11).toNatClampNeg then on else iv 78 0 k))) ∨ (spExc lw cs d (iv 68 0 11).toInt ≠ 0 ∧ r1 = spExc lw cs d (iv 68 0 11).toInt ∧ iv1 68 0 11 = iv 68 0 11 ∧ (∀ k : Nat, iv1 74 0 k = iv 74 0 k ∧ iv1 75 0 k = iv 75 0 k ∧ iv1 76 0 k = iv 76 0 k ∧ iv1 77 0 k = iv 77 0 k ∧ iv1 78 0 k = iv 78 0 k))) (p2 : (spExc lw cs d (iv1 0 0 30).toInt = 0 ∧ r2.toInt = (iv1 0 0 30).toInt + 1 ∧ (iv2 0 0 30).toInt = (iv1 0 0 30).toInt + 1 ∧ (∀ k : Nat, iv2 26 0 k = (if k = (iv1 0 0 30).toNatClampNeg then lw else iv1 26 0 k) ∧ iv2 27 0 k = (if k = (iv1 0 0 30).toNatClampNeg then cs else iv1 27 0 k) ∧ iv2 28 0 k = (if k = (iv1 0 0 30).toNatClampNeg then d else iv1 28 0 k) ∧ iv2 29 0 k = (if k = (iv1 0 0 30).toNatClampNeg then iv1 0 0 0 else iv1 29 0 k) ∧ iv2 30 0 k = (if k = (iv1 0 0 30).toNatClampNeg then on else iv1 30 0 k))) ∨ (spExc lw cs d (iv1 0 0 30).toInt ≠ 0 ∧ r2 = spExc lw cs d (iv1 0 0 30).toInt ∧ iv2 0 0 30 = iv1 0 0 30 ∧ (∀ k : Nat, iv2 26 0 k = iv1 26 0 k ∧ iv2 27 0 k = iv1 27 0 k ∧ iv2 28 0 k = iv1 28 0 k ∧ iv2 29 0 k = iv1 29 0 k ∧ iv2 30 0 k = iv1 30 0 k))) (x1 : EX ([51, 74, 75, 76, 77, 78], [(68, 11)]) al iv rv al1 iv1 rv1) (f2 : FR ([16, 26, 27, 28, 29, 30], [(0, 30)]) iv1 iv2) (g2 : FR ([16, 26, 27, 28, 29, 30], [(0, 30)]) rv1 rv2) : r1 = r2 := ans_excuse hG h.1 h.2 p1 p2 x1 f2 g2
def LSt (ox om : Nat) (al : Al) (iv : Iv) (rv : Rv) : Prop := GI al iv rv ∧ al.2 49 0 = ox ∧ al.2 0 0 = om ∧ REL iv rv
def LX (p : Program) (s : State) (m : MethodId) (c : Code) (b L : Nat) (xs : Nat → Int32) (D : va_G) (cA : FieldType → ClassId) : Prop := Cx p s m #[Value.ref b] c cL_law 4 RL D cA ∧ va_X b L xs s s.heap ∧ b < s.heap.size ∧ SX cA s.heap.size s s.heap ∧ L ≤ 3584
def bz (x : Int32) : Int32 := if x = 0 then 0 else 1
theorem bz_0 {x : Int32} (h : x.toInt = (0 : Int32).toInt) : (0 : Int32) = bz x := by
  have : x = 0 := (fa_eq _ _).mpr h
  rw [this]; rfl
theorem bz_1 {x : Int32} (h : ¬ x.toInt = (0 : Int32).toInt) : (1 : Int32) = bz x := by
  unfold bz; rw [if_neg (fun e => h (by rw [e]))]
section LR
variable {p : Program} {l : Launch} {e : Env} {R : Room} {s : State} {m : MethodId} {args : Array Value} {below : List Frame} {meth : Method} {c : Code} {H : Heap} {locs : List Loc} {cells slots : Nat} {Q : State → Prop}
variable {cc : ByteArray} {pc nL : Nat} {ls : Array Slot} {rest : List Value} {own : String} {D : va_G} {cA : FieldType → ClassId} {sz : Nat} {al : Al} {iv : Iv} {rv : Rv} {b L : Nat} {xs : Nat → Int32}
theorem q_ai (X : LX p s m c b L xs D cA) (hS : va_S (Aq s.heap.size) s.heap H locs) {i k v : Int32} (hk : 0 ≤ k.toInt ∧ k.toInt ≤ 6) (hi : 0 ≤ i.toInt ∧ i.toInt + 6 < L) (ev : xs (i + k).toNatClampNeg = v) (d1 : decode cL_law pc = .ok (.iadd, 1)) (d2 : decode cL_law (pc + 1) = .ok (.iaload, 1))
    (kk : W p l e R s m #[Value.ref b] below meth c H locs cells slots Q (F0 m (pc + 2) ls (.int v :: rest))) : W p l e R s m #[Value.ref b] below meth c H locs cells slots Q (F0 m pc ls (.int k :: .int i :: .ref b :: rest)) := by
  obtain ⟨C, hX, hbl, -, hL⟩ := X
  have ti : (i + k).toInt = i.toInt + k.toInt := fb_addI (by omega) (by omega)
  refine lv_iadd C.1.1 C.1.2.1 d1 ?_
  refine va_sld (A := Aq s.heap.size) C.1.1 C.1.2.1 hX hbl (fun z => absurd hbl (Nat.not_lt.mpr z)) hS (ix_in (by omega) (by omega)) d2 ?_
  rw [ev]; exact kk
theorem q_runVX {y : MethodName} {bytes : ByteArray} {maxL mc ms n index t i ci : Nat} {ret : Option FieldType} {rmm : Room} {As : List Value} {q : vw_C} {Qc : Array Value → State → Outcome → State → Prop} {X : State → Prop} {st : List Value} (C : Cx p s m args c cc nL own D cA) (hU : UW D cA sz al iv rv H) (hz : sz ≤ H.size)
    (hX1 : ∀ U : State, U.heap = H → s.WarmedH U.vm → X U) (hX2 : ∀ (U : State) (g : JFrame) (mk : MethodId) (a : Array Value), X U → X (U.calling g mk a))
    (hM : Met l y (wd y bytes maxL ret) rmm (PcA D cA sz al iv rv (.ref (al.2 t i) :: As) X) Qc mc ms (Aq sz)) (vm : VM y bytes maxL ret n) (hl : Cond.methodLink own index y ∈ BW) (kp : (pt t).1 = some ci) (hc : vwCl[ci]? = some q) (hq : q.1 = y.cls) (hi : i < al.1 t) (hls : ls.size = nL) (hn : As.length = n) (hst : st = As.reverse ++ .ref (al.2 t i) :: rest)
    (hrm : (rest.map fun v => v.category).sum ≤ 8) (hdg : decode cc pc = .ok (.invokevirtual index, 3)) (hrc : rmm.cells = mc) (hrs : rmm.slots = ms) (hR : rmm.frames + 1 ≤ R.frames ∧ 8 + (maxL + 11) + rmm.locals ≤ R.locals) (hf : cells + mc ≤ R.cells ∧ slots + ms ≤ R.slots) :
    va_Run p l e R s m args below meth c H locs cells slots mc ms (F0 m pc ls st) rest (Qc (Value.ref (al.2 t i) :: As).toArray) (Aq sz) := by
  obtain ⟨v1, v2, v3, v4, v5⟩ := vm
  have hts := C.1.2.2.2.2
  have hK := C.2
  obtain ⟨cell, g1, g2, g3, -⟩ := (hU.1 t i hi).ob kp
  refine va_runV (C := y.cls) (As := As) (rest := rest) C.1 hM ⟨cb_of hts v1 v4 hl v5 hrc hrs hR, hts _ v2, hts _ v3⟩ ⟨fun a U g mk q => ⟨q.1, q.2.1, q.2.2.1.calling g mk a, q.2.2.2.1, hX2 U g mk a q.2.2.2.2⟩, ⟨cell, g1, by rw [g3]; rfl, ?_⟩, fun U hH hW => ⟨rfl, by rw [hH]; exact hU, hK.warm hW, by rw [hH]; exact hz, hX1 U hH hW⟩⟩ rfl hn hls hst (lv_room hrm) hdg hf
  rw [g2, ← hq]; exact (hK.1.1 ci q hc).2.1
end LR
end
section
set_option maxHeartbeats 4000000 in
set_option maxRecDepth 100000 in
theorem law_0 {p : Program} {l : Launch} {e : Env} {s : State} {m : MethodId} {below : List Frame} {meth : Method} {c : Code} {b L : Nat} {xs : Nat → Int32} {D : va_G} {cA : FieldType → ClassId} {ls : Array Slot} {Q : State → Prop} {H : Heap} {locs : List Loc} {cells slots : Nat} {i : Int32} {ox om : Nat} {al : Al} {iv : Iv} {rv : Rv} (X : LX p s m c b L xs D cA) (hl : lv_has ls 4 [(3, .int i), (2, .ref om), (1, .ref ox), (0, .ref b)]) (hi : 0 ≤ i.toInt ∧ i.toInt + 6 < L) (hQ : LSt ox om al iv rv) (hU : UW D cA s.heap.size al iv rv H) (hS : va_S (Aq s.heap.size) s.heap H locs) (hc : cells + 3 ≤ 600000 ∧ slots + 16 ≤ 7302250)
    (kk : ∀ (al' : Al) (iv' : Iv) (rv' : Rv) (H' : Heap) (locs' : List Loc), LSt ox om al' iv' rv' → UW D cA s.heap.size al' iv' rv' H' → va_S (Aq s.heap.size) s.heap H' locs' → W p l e room_1 s m #[Value.ref b] below meth c H' locs' (cells + 3) (slots + 16) Q (F0 m 1475 ls [])) : W p l e room_1 s m #[Value.ref b] below meth c H locs cells slots Q (F0 m 188 ls []) := by
  obtain ⟨hG, hox, hom, hRel⟩ := hQ
  have C := X.1
  have hx := C.1.1
  have hb := C.1.2.1
  obtain ⟨v1, e1⟩ : ∃ z, xs (i + 1).toNatClampNeg = z := ⟨_, rfl⟩
  refine lv_aload_n hx hb dL_law_188 rfl (lv_at hl 2 rfl) ?_
  refine lv_aload_n hx hb dL_law_189 rfl (lv_at hl 3 rfl) ?_
  refine lv_iload_n hx hb dL_law_190 rfl (lv_at hl 0 rfl) ?_
  refine lv_iconst (v := 1) hx hb dL_law_191 (by decide) ?_
  refine q_ai X hS (k := 1) (by decide) hi e1 dL_law_192 dL_law_193 ?_
  have hG0 := hG
  have hGp := hG
  refine W.eq (g2 := F0 m 194 ls [.int v1, .ref (al.2 49 0)]) (by rw [hox]) ?_
  refine q_fi (q_runV (t := 49) (i := 0) (As := [.int v1]) (rest := []) C hU (c_X11_days_x hG v1) vm_X11_days ml_L_13 k_49.1 (hc := rfl) rfl (h1_49 hG) hl.1 rfl rfl (Nat.le_of_ble_eq_true rfl) dL_law_194 rfl rfl ⟨Nat.le_of_ble_eq_true rfl, Nat.le_of_ble_eq_true rfl⟩ ⟨by show cells + 0 ≤ 600000; omega, by show slots + 0 ≤ 7302250; omega⟩) hS (fun r1 iv1 rv1 H locs hG f1 g1 hp1 hU hS => ?_)
  refine lv_pop hx hb dL_law_197 rfl ?_
  refine lv_aload_n hx hb dL_law_198 rfl (lv_at hl 1 rfl) ?_
  refine lv_aload_n hx hb dL_law_199 rfl (lv_at hl 3 rfl) ?_
  refine lv_iload_n hx hb dL_law_200 rfl (lv_at hl 0 rfl) ?_
  refine lv_iconst (v := 1) hx hb dL_law_201 (by decide) ?_
  refine q_ai X hS (k := 1) (by decide) hi e1 dL_law_202 dL_law_203 ?_
  have hGp := hG
  refine W.eq (g2 := F0 m 204 ls [.int v1, .ref (al.2 0 0)]) (by rw [hom]) ?_
  refine q_fi (q_runV (t := 0) (i := 0) (As := [.int v1]) (rest := []) C hU (c_X12_days_x hG v1) vm_X12_days ml_L_17 k_0.1 (hc := rfl) rfl (h1_0 hG) hl.1 rfl rfl (Nat.le_of_ble_eq_true rfl) dL_law_204 rfl rfl ⟨Nat.le_of_ble_eq_true rfl, Nat.le_of_ble_eq_true rfl⟩ ⟨by show cells + 0 ≤ 600000; omega, by show slots + 0 ≤ 7302250; omega⟩) hS (fun r2 iv2 rv2 H locs hG f2 g2 hp2 hU hS => ?_)
  have hRel := REL.s_days hG0 hRel hp1 hp2 (EX.of f1 g1) f2 g2
  refine lv_pop hx hb dL_law_207 rfl ?_
  refine lv_goto (tgt := 1475) hx hb dL_law_208 (by decide) ?_
  refine W.widen (k := cells + 3) (n := slots + 16) (by omega) (by omega) ?_
  exact kk _ _ _ _ _ ⟨hG, hox, hom, hRel⟩ hU hS
set_option maxHeartbeats 4000000 in
set_option maxRecDepth 100000 in
theorem law_1 {p : Program} {l : Launch} {e : Env} {s : State} {m : MethodId} {below : List Frame} {meth : Method} {c : Code} {b L : Nat} {xs : Nat → Int32} {D : va_G} {cA : FieldType → ClassId} {ls : Array Slot} {Q : State → Prop} {H : Heap} {locs : List Loc} {cells slots : Nat} {i : Int32} {ox om : Nat} {al : Al} {iv : Iv} {rv : Rv} (X : LX p s m c b L xs D cA) (hl : lv_has ls 4 [(3, .int i), (2, .ref om), (1, .ref ox), (0, .ref b)]) (hi : 0 ≤ i.toInt ∧ i.toInt + 6 < L) (hQ : LSt ox om al iv rv) (hU : UW D cA s.heap.size al iv rv H) (hS : va_S (Aq s.heap.size) s.heap H locs) (hc : cells + 3 ≤ 600000 ∧ slots + 16 ≤ 7302250)
    (kk : ∀ (al' : Al) (iv' : Iv) (rv' : Rv) (H' : Heap) (locs' : List Loc), LSt ox om al' iv' rv' → UW D cA s.heap.size al' iv' rv' H' → va_S (Aq s.heap.size) s.heap H' locs' → W p l e room_1 s m #[Value.ref b] below meth c H' locs' (cells + 3) (slots + 16) Q (F0 m 1475 ls [])) : W p l e room_1 s m #[Value.ref b] below meth c H locs cells slots Q (F0 m 211 ls []) := by
  obtain ⟨hG, hox, hom, hRel⟩ := hQ
  have C := X.1
  have hx := C.1.1
  have hb := C.1.2.1
  obtain ⟨v1, e1⟩ : ∃ z, xs (i + 1).toNatClampNeg = z := ⟨_, rfl⟩
  obtain ⟨v2, e2⟩ : ∃ z, xs (i + 2).toNatClampNeg = z := ⟨_, rfl⟩
  refine lv_aload_n hx hb dL_law_211 rfl (lv_at hl 2 rfl) ?_
  refine lv_aload_n hx hb dL_law_212 rfl (lv_at hl 3 rfl) ?_
  refine lv_iload_n hx hb dL_law_213 rfl (lv_at hl 0 rfl) ?_
  refine lv_iconst (v := 1) hx hb dL_law_214 (by decide) ?_
  refine q_ai X hS (k := 1) (by decide) hi e1 dL_law_215 dL_law_216 ?_
  refine lv_aload_n hx hb dL_law_217 rfl (lv_at hl 3 rfl) ?_
  refine lv_iload_n hx hb dL_law_218 rfl (lv_at hl 0 rfl) ?_
  refine lv_iconst (v := 2) hx hb dL_law_219 (by decide) ?_
  refine q_ai X hS (k := 2) (by decide) hi e2 dL_law_220 dL_law_221 ?_
  have hG0 := hG
  have hGp := hG
  refine W.eq (g2 := F0 m 222 ls [.int v2, .int v1, .ref (al.2 49 0)]) (by rw [hox]) ?_
  refine q_fi (q_runV (t := 49) (i := 0) (As := [.int v1, .int v2]) (rest := []) C hU (c_X11_land hG v1 v2) vm_X11_land ml_L_18 k_49.1 (hc := rfl) rfl (h1_49 hG) hl.1 rfl rfl (Nat.le_of_ble_eq_true rfl) dL_law_222 rfl rfl ⟨Nat.le_of_ble_eq_true rfl, Nat.le_of_ble_eq_true rfl⟩ ⟨by show cells + 0 ≤ 600000; omega, by show slots + 0 ≤ 7302250; omega⟩) hS (fun r1 iv1 rv1 H locs hG f1 g1 hp1 hU hS => ?_)
  have hRel := hRel.fr hGp f1 g1 (by decide)
  refine lv_pop hx hb dL_law_225 rfl ?_
  refine lv_aload_n hx hb dL_law_226 rfl (lv_at hl 1 rfl) ?_
  refine lv_aload_n hx hb dL_law_227 rfl (lv_at hl 3 rfl) ?_
  refine lv_iload_n hx hb dL_law_228 rfl (lv_at hl 0 rfl) ?_
  refine lv_iconst (v := 1) hx hb dL_law_229 (by decide) ?_
  refine q_ai X hS (k := 1) (by decide) hi e1 dL_law_230 dL_law_231 ?_
  refine lv_aload_n hx hb dL_law_232 rfl (lv_at hl 3 rfl) ?_
  refine lv_iload_n hx hb dL_law_233 rfl (lv_at hl 0 rfl) ?_
  refine lv_iconst (v := 2) hx hb dL_law_234 (by decide) ?_
  refine q_ai X hS (k := 2) (by decide) hi e2 dL_law_235 dL_law_236 ?_
  have hGp := hG
  refine W.eq (g2 := F0 m 237 ls [.int v2, .int v1, .ref (al.2 0 0)]) (by rw [hom]) ?_
  refine q_fi (q_runV (t := 0) (i := 0) (As := [.int v1, .int v2]) (rest := []) C hU (c_X12_land hG v1 v2) vm_X12_land ml_L_22 k_0.1 (hc := rfl) rfl (h1_0 hG) hl.1 rfl rfl (Nat.le_of_ble_eq_true rfl) dL_law_237 rfl rfl ⟨Nat.le_of_ble_eq_true rfl, Nat.le_of_ble_eq_true rfl⟩ ⟨by show cells + 0 ≤ 600000; omega, by show slots + 0 ≤ 7302250; omega⟩) hS (fun r2 iv2 rv2 H locs hG f2 g2 hp2 hU hS => ?_)
  have hRel := hRel.fr hGp f2 g2 (by decide)
  refine lv_pop hx hb dL_law_240 rfl ?_
  refine lv_goto (tgt := 1475) hx hb dL_law_241 (by decide) ?_
  refine W.widen (k := cells + 3) (n := slots + 16) (by omega) (by omega) ?_
  exact kk _ _ _ _ _ ⟨hG, hox, hom, hRel⟩ hU hS
set_option maxHeartbeats 4000000 in
set_option maxRecDepth 100000 in
theorem law_2 {p : Program} {l : Launch} {e : Env} {s : State} {m : MethodId} {below : List Frame} {meth : Method} {c : Code} {b L : Nat} {xs : Nat → Int32} {D : va_G} {cA : FieldType → ClassId} {ls : Array Slot} {Q : State → Prop} {H : Heap} {locs : List Loc} {cells slots : Nat} {i : Int32} {ox om : Nat} {al : Al} {iv : Iv} {rv : Rv} (X : LX p s m c b L xs D cA) (hl : lv_has ls 4 [(3, .int i), (2, .ref om), (1, .ref ox), (0, .ref b)]) (hi : 0 ≤ i.toInt ∧ i.toInt + 6 < L) (hQ : LSt ox om al iv rv) (hU : UW D cA s.heap.size al iv rv H) (hS : va_S (Aq s.heap.size) s.heap H locs) (hc : cells + 3 ≤ 600000 ∧ slots + 16 ≤ 7302250)
    (kk : ∀ (al' : Al) (iv' : Iv) (rv' : Rv) (H' : Heap) (locs' : List Loc), LSt ox om al' iv' rv' → UW D cA s.heap.size al' iv' rv' H' → va_S (Aq s.heap.size) s.heap H' locs' → W p l e room_1 s m #[Value.ref b] below meth c H' locs' (cells + 3) (slots + 16) Q (F0 m 1475 ls [])) : W p l e room_1 s m #[Value.ref b] below meth c H locs cells slots Q (F0 m 244 ls []) := by
  obtain ⟨hG, hox, hom, hRel⟩ := hQ
  have C := X.1
  have hx := C.1.1
  have hb := C.1.2.1
  obtain ⟨v1, e1⟩ : ∃ z, xs (i + 1).toNatClampNeg = z := ⟨_, rfl⟩
  obtain ⟨v2, e2⟩ : ∃ z, xs (i + 2).toNatClampNeg = z := ⟨_, rfl⟩
  obtain ⟨v3, e3⟩ : ∃ z, xs (i + 3).toNatClampNeg = z := ⟨_, rfl⟩
  refine lv_aload_n hx hb dL_law_244 rfl (lv_at hl 2 rfl) ?_
  refine lv_aload_n hx hb dL_law_245 rfl (lv_at hl 3 rfl) ?_
  refine lv_iload_n hx hb dL_law_246 rfl (lv_at hl 0 rfl) ?_
  refine lv_iconst (v := 1) hx hb dL_law_247 (by decide) ?_
  refine q_ai X hS (k := 1) (by decide) hi e1 dL_law_248 dL_law_249 ?_
  refine lv_aload_n hx hb dL_law_250 rfl (lv_at hl 3 rfl) ?_
  refine lv_iload_n hx hb dL_law_251 rfl (lv_at hl 0 rfl) ?_
  refine lv_iconst (v := 2) hx hb dL_law_252 (by decide) ?_
  refine q_ai X hS (k := 2) (by decide) hi e2 dL_law_253 dL_law_254 ?_
  refine lv_aload_n hx hb dL_law_255 rfl (lv_at hl 3 rfl) ?_
  refine lv_iload_n hx hb dL_law_256 rfl (lv_at hl 0 rfl) ?_
  refine lv_iconst (v := 3) hx hb dL_law_257 (by decide) ?_
  refine q_ai X hS (k := 3) (by decide) hi e3 dL_law_258 dL_law_259 ?_
  have hG0 := hG
  have hGp := hG
  refine W.eq (g2 := F0 m 260 ls [.int v3, .int v2, .int v1, .ref (al.2 49 0)]) (by rw [hox]) ?_
  refine q_fi (q_runV (t := 49) (i := 0) (As := [.int v1, .int v2, .int v3]) (rest := []) C hU (c_X11_miles hG v1 v2 v3) vm_X11_miles ml_L_23 k_49.1 (hc := rfl) rfl (h1_49 hG) hl.1 rfl rfl (Nat.le_of_ble_eq_true rfl) dL_law_260 rfl rfl ⟨Nat.le_of_ble_eq_true rfl, Nat.le_of_ble_eq_true rfl⟩ ⟨by show cells + 0 ≤ 600000; omega, by show slots + 0 ≤ 7302250; omega⟩) hS (fun r1 iv1 rv1 H locs hG f1 g1 hp1 hU hS => ?_)
  have hRel := hRel.fr hGp f1 g1 (by decide)
  refine lv_pop hx hb dL_law_263 rfl ?_
  refine lv_aload_n hx hb dL_law_264 rfl (lv_at hl 1 rfl) ?_
  refine lv_aload_n hx hb dL_law_265 rfl (lv_at hl 3 rfl) ?_
  refine lv_iload_n hx hb dL_law_266 rfl (lv_at hl 0 rfl) ?_
  refine lv_iconst (v := 1) hx hb dL_law_267 (by decide) ?_
  refine q_ai X hS (k := 1) (by decide) hi e1 dL_law_268 dL_law_269 ?_
  refine lv_aload_n hx hb dL_law_270 rfl (lv_at hl 3 rfl) ?_
  refine lv_iload_n hx hb dL_law_271 rfl (lv_at hl 0 rfl) ?_
  refine lv_iconst (v := 2) hx hb dL_law_272 (by decide) ?_
  refine q_ai X hS (k := 2) (by decide) hi e2 dL_law_273 dL_law_274 ?_
  refine lv_aload_n hx hb dL_law_275 rfl (lv_at hl 3 rfl) ?_
  refine lv_iload_n hx hb dL_law_276 rfl (lv_at hl 0 rfl) ?_
  refine lv_iconst (v := 3) hx hb dL_law_277 (by decide) ?_
  refine q_ai X hS (k := 3) (by decide) hi e3 dL_law_278 dL_law_279 ?_
  have hGp := hG
  refine W.eq (g2 := F0 m 280 ls [.int v3, .int v2, .int v1, .ref (al.2 0 0)]) (by rw [hom]) ?_
  refine q_fi (q_runV (t := 0) (i := 0) (As := [.int v1, .int v2, .int v3]) (rest := []) C hU (c_X12_miles hG v1 v2 v3) vm_X12_miles ml_L_27 k_0.1 (hc := rfl) rfl (h1_0 hG) hl.1 rfl rfl (Nat.le_of_ble_eq_true rfl) dL_law_280 rfl rfl ⟨Nat.le_of_ble_eq_true rfl, Nat.le_of_ble_eq_true rfl⟩ ⟨by show cells + 0 ≤ 600000; omega, by show slots + 0 ≤ 7302250; omega⟩) hS (fun r2 iv2 rv2 H locs hG f2 g2 hp2 hU hS => ?_)
  have hRel := hRel.fr hGp f2 g2 (by decide)
  refine lv_pop hx hb dL_law_283 rfl ?_
  refine lv_goto (tgt := 1475) hx hb dL_law_284 (by decide) ?_
  refine W.widen (k := cells + 3) (n := slots + 16) (by omega) (by omega) ?_
  exact kk _ _ _ _ _ ⟨hG, hox, hom, hRel⟩ hU hS
set_option maxHeartbeats 4000000 in
set_option maxRecDepth 100000 in
theorem law_3 {p : Program} {l : Launch} {e : Env} {s : State} {m : MethodId} {below : List Frame} {meth : Method} {c : Code} {b L : Nat} {xs : Nat → Int32} {D : va_G} {cA : FieldType → ClassId} {ls : Array Slot} {Q : State → Prop} {H : Heap} {locs : List Loc} {cells slots : Nat} {i : Int32} {ox om : Nat} {al : Al} {iv : Iv} {rv : Rv} (X : LX p s m c b L xs D cA) (hl : lv_has ls 4 [(3, .int i), (2, .ref om), (1, .ref ox), (0, .ref b)]) (hi : 0 ≤ i.toInt ∧ i.toInt + 6 < L) (hQ : LSt ox om al iv rv) (hU : UW D cA s.heap.size al iv rv H) (hS : va_S (Aq s.heap.size) s.heap H locs) (hc : cells + 3 ≤ 600000 ∧ slots + 16 ≤ 7302250)
    (kk : ∀ (al' : Al) (iv' : Iv) (rv' : Rv) (H' : Heap) (locs' : List Loc), LSt ox om al' iv' rv' → UW D cA s.heap.size al' iv' rv' H' → va_S (Aq s.heap.size) s.heap H' locs' → W p l e room_1 s m #[Value.ref b] below meth c H' locs' (cells + 3) (slots + 16) Q (F0 m 1475 ls [])) : W p l e room_1 s m #[Value.ref b] below meth c H locs cells slots Q (F0 m 287 ls []) := by
  obtain ⟨hG, hox, hom, hRel⟩ := hQ
  have C := X.1
  have hx := C.1.1
  have hb := C.1.2.1
  obtain ⟨v1, e1⟩ : ∃ z, xs (i + 1).toNatClampNeg = z := ⟨_, rfl⟩
  obtain ⟨v2, e2⟩ : ∃ z, xs (i + 2).toNatClampNeg = z := ⟨_, rfl⟩
  obtain ⟨v3, e3⟩ : ∃ z, xs (i + 3).toNatClampNeg = z := ⟨_, rfl⟩
  refine lv_aload_n hx hb dL_law_287 rfl (lv_at hl 2 rfl) ?_
  refine lv_aload_n hx hb dL_law_288 rfl (lv_at hl 3 rfl) ?_
  refine lv_iload_n hx hb dL_law_289 rfl (lv_at hl 0 rfl) ?_
  refine lv_iconst (v := 1) hx hb dL_law_290 (by decide) ?_
  refine q_ai X hS (k := 1) (by decide) hi e1 dL_law_291 dL_law_292 ?_
  refine lv_aload_n hx hb dL_law_293 rfl (lv_at hl 3 rfl) ?_
  refine lv_iload_n hx hb dL_law_294 rfl (lv_at hl 0 rfl) ?_
  refine lv_iconst (v := 2) hx hb dL_law_295 (by decide) ?_
  refine q_ai X hS (k := 2) (by decide) hi e2 dL_law_296 dL_law_297 ?_
  refine lv_aload_n hx hb dL_law_298 rfl (lv_at hl 3 rfl) ?_
  refine lv_iload_n hx hb dL_law_299 rfl (lv_at hl 0 rfl) ?_
  refine lv_iconst (v := 3) hx hb dL_law_300 (by decide) ?_
  refine q_ai X hS (k := 3) (by decide) hi e3 dL_law_301 dL_law_302 ?_
  have hG0 := hG
  have hGp := hG
  refine W.eq (g2 := F0 m 303 ls [.int v3, .int v2, .int v1, .ref (al.2 49 0)]) (by rw [hox]) ?_
  refine q_fi (q_runV (t := 49) (i := 0) (As := [.int v1, .int v2, .int v3]) (rest := []) C hU (c_X11_seen hG v1 v2 v3) vm_X11_seen ml_L_28 k_49.1 (hc := rfl) rfl (h1_49 hG) hl.1 rfl rfl (Nat.le_of_ble_eq_true rfl) dL_law_303 rfl rfl ⟨Nat.le_of_ble_eq_true rfl, Nat.le_of_ble_eq_true rfl⟩ ⟨by show cells + 0 ≤ 600000; omega, by show slots + 0 ≤ 7302250; omega⟩) hS (fun r1 iv1 rv1 H locs hG f1 g1 hp1 hU hS => ?_)
  have hRel := hRel.fr hGp f1 g1 (by decide)
  refine lv_pop hx hb dL_law_306 rfl ?_
  refine lv_aload_n hx hb dL_law_307 rfl (lv_at hl 1 rfl) ?_
  refine lv_aload_n hx hb dL_law_308 rfl (lv_at hl 3 rfl) ?_
  refine lv_iload_n hx hb dL_law_309 rfl (lv_at hl 0 rfl) ?_
  refine lv_iconst (v := 1) hx hb dL_law_310 (by decide) ?_
  refine q_ai X hS (k := 1) (by decide) hi e1 dL_law_311 dL_law_312 ?_
  refine lv_aload_n hx hb dL_law_313 rfl (lv_at hl 3 rfl) ?_
  refine lv_iload_n hx hb dL_law_314 rfl (lv_at hl 0 rfl) ?_
  refine lv_iconst (v := 2) hx hb dL_law_315 (by decide) ?_
  refine q_ai X hS (k := 2) (by decide) hi e2 dL_law_316 dL_law_317 ?_
  refine lv_aload_n hx hb dL_law_318 rfl (lv_at hl 3 rfl) ?_
  refine lv_iload_n hx hb dL_law_319 rfl (lv_at hl 0 rfl) ?_
  refine lv_iconst (v := 3) hx hb dL_law_320 (by decide) ?_
  refine q_ai X hS (k := 3) (by decide) hi e3 dL_law_321 dL_law_322 ?_
  have hGp := hG
  refine W.eq (g2 := F0 m 323 ls [.int v3, .int v2, .int v1, .ref (al.2 0 0)]) (by rw [hom]) ?_
  refine q_fi (q_runV (t := 0) (i := 0) (As := [.int v1, .int v2, .int v3]) (rest := []) C hU (c_X12_seen hG v1 v2 v3) vm_X12_seen ml_L_31 k_0.1 (hc := rfl) rfl (h1_0 hG) hl.1 rfl rfl (Nat.le_of_ble_eq_true rfl) dL_law_323 rfl rfl ⟨Nat.le_of_ble_eq_true rfl, Nat.le_of_ble_eq_true rfl⟩ ⟨by show cells + 0 ≤ 600000; omega, by show slots + 0 ≤ 7302250; omega⟩) hS (fun r2 iv2 rv2 H locs hG f2 g2 hp2 hU hS => ?_)
  have hRel := hRel.fr hGp f2 g2 (by decide)
  refine lv_pop hx hb dL_law_326 rfl ?_
  refine lv_goto (tgt := 1475) hx hb dL_law_327 (by decide) ?_
  refine W.widen (k := cells + 3) (n := slots + 16) (by omega) (by omega) ?_
  exact kk _ _ _ _ _ ⟨hG, hox, hom, hRel⟩ hU hS
set_option maxHeartbeats 4000000 in
set_option maxRecDepth 100000 in
theorem law_4 {p : Program} {l : Launch} {e : Env} {s : State} {m : MethodId} {below : List Frame} {meth : Method} {c : Code} {b L : Nat} {xs : Nat → Int32} {D : va_G} {cA : FieldType → ClassId} {ls : Array Slot} {Q : State → Prop} {H : Heap} {locs : List Loc} {cells slots : Nat} {i : Int32} {ox om : Nat} {al : Al} {iv : Iv} {rv : Rv} (X : LX p s m c b L xs D cA) (hl : lv_has ls 4 [(3, .int i), (2, .ref om), (1, .ref ox), (0, .ref b)]) (hi : 0 ≤ i.toInt ∧ i.toInt + 6 < L) (hQ : LSt ox om al iv rv) (hU : UW D cA s.heap.size al iv rv H) (hS : va_S (Aq s.heap.size) s.heap H locs) (hc : cells + 3 ≤ 600000 ∧ slots + 16 ≤ 7302250)
    (kk : ∀ (al' : Al) (iv' : Iv) (rv' : Rv) (H' : Heap) (locs' : List Loc), LSt ox om al' iv' rv' → UW D cA s.heap.size al' iv' rv' H' → va_S (Aq s.heap.size) s.heap H' locs' → W p l e room_1 s m #[Value.ref b] below meth c H' locs' (cells + 3) (slots + 16) Q (F0 m 1475 ls [])) : W p l e room_1 s m #[Value.ref b] below meth c H locs cells slots Q (F0 m 330 ls []) := by
  obtain ⟨hG, hox, hom, hRel⟩ := hQ
  have C := X.1
  have hx := C.1.1
  have hb := C.1.2.1
  obtain ⟨v1, e1⟩ : ∃ z, xs (i + 1).toNatClampNeg = z := ⟨_, rfl⟩
  refine lv_aload_n hx hb dL_law_330 rfl (lv_at hl 2 rfl) ?_
  refine lv_aload_n hx hb dL_law_331 rfl (lv_at hl 3 rfl) ?_
  refine lv_iload_n hx hb dL_law_332 rfl (lv_at hl 0 rfl) ?_
  refine lv_iconst (v := 1) hx hb dL_law_333 (by decide) ?_
  refine q_ai X hS (k := 1) (by decide) hi e1 dL_law_334 dL_law_335 ?_
  have hG0 := hG
  have hGp := hG
  refine W.eq (g2 := F0 m 336 ls [.int v1, .ref (al.2 49 0)]) (by rw [hox]) ?_
  refine q_fi (q_runV (t := 49) (i := 0) (As := [.int v1]) (rest := []) C hU (c_X11_off hG v1) vm_X11_off ml_L_32 k_49.1 (hc := rfl) rfl (h1_49 hG) hl.1 rfl rfl (Nat.le_of_ble_eq_true rfl) dL_law_336 rfl rfl ⟨Nat.le_of_ble_eq_true rfl, Nat.le_of_ble_eq_true rfl⟩ ⟨by show cells + 0 ≤ 600000; omega, by show slots + 0 ≤ 7302250; omega⟩) hS (fun r1 iv1 rv1 H locs hG f1 g1 hp1 hU hS => ?_)
  have hRel := hRel.fr hGp f1 g1 (by decide)
  refine lv_pop hx hb dL_law_339 rfl ?_
  refine lv_aload_n hx hb dL_law_340 rfl (lv_at hl 1 rfl) ?_
  refine lv_aload_n hx hb dL_law_341 rfl (lv_at hl 3 rfl) ?_
  refine lv_iload_n hx hb dL_law_342 rfl (lv_at hl 0 rfl) ?_
  refine lv_iconst (v := 1) hx hb dL_law_343 (by decide) ?_
  refine q_ai X hS (k := 1) (by decide) hi e1 dL_law_344 dL_law_345 ?_
  have hGp := hG
  refine W.eq (g2 := F0 m 346 ls [.int v1, .ref (al.2 0 0)]) (by rw [hom]) ?_
  refine q_fi (q_runV (t := 0) (i := 0) (As := [.int v1]) (rest := []) C hU (c_X12_off hG v1) vm_X12_off ml_L_35 k_0.1 (hc := rfl) rfl (h1_0 hG) hl.1 rfl rfl (Nat.le_of_ble_eq_true rfl) dL_law_346 rfl rfl ⟨Nat.le_of_ble_eq_true rfl, Nat.le_of_ble_eq_true rfl⟩ ⟨by show cells + 0 ≤ 600000; omega, by show slots + 0 ≤ 7302250; omega⟩) hS (fun r2 iv2 rv2 H locs hG f2 g2 hp2 hU hS => ?_)
  have hRel := hRel.fr hGp f2 g2 (by decide)
  refine lv_pop hx hb dL_law_349 rfl ?_
  refine lv_goto (tgt := 1475) hx hb dL_law_350 (by decide) ?_
  refine W.widen (k := cells + 3) (n := slots + 16) (by omega) (by omega) ?_
  exact kk _ _ _ _ _ ⟨hG, hox, hom, hRel⟩ hU hS
set_option maxHeartbeats 4000000 in
set_option maxRecDepth 100000 in
theorem law_5 {p : Program} {l : Launch} {e : Env} {s : State} {m : MethodId} {below : List Frame} {meth : Method} {c : Code} {b L : Nat} {xs : Nat → Int32} {D : va_G} {cA : FieldType → ClassId} {ls : Array Slot} {Q : State → Prop} {H : Heap} {locs : List Loc} {cells slots : Nat} {i : Int32} {ox om : Nat} {al : Al} {iv : Iv} {rv : Rv} (X : LX p s m c b L xs D cA) (hl : lv_has ls 4 [(3, .int i), (2, .ref om), (1, .ref ox), (0, .ref b)]) (hi : 0 ≤ i.toInt ∧ i.toInt + 6 < L) (hQ : LSt ox om al iv rv) (hU : UW D cA s.heap.size al iv rv H) (hS : va_S (Aq s.heap.size) s.heap H locs) (hc : cells + 3 ≤ 600000 ∧ slots + 16 ≤ 7302250)
    (kk : ∀ (al' : Al) (iv' : Iv) (rv' : Rv) (H' : Heap) (locs' : List Loc), LSt ox om al' iv' rv' → UW D cA s.heap.size al' iv' rv' H' → va_S (Aq s.heap.size) s.heap H' locs' → W p l e room_1 s m #[Value.ref b] below meth c H' locs' (cells + 3) (slots + 16) Q (F0 m 1475 ls [])) : W p l e room_1 s m #[Value.ref b] below meth c H locs cells slots Q (F0 m 353 ls []) := by
  obtain ⟨hG, hox, hom, hRel⟩ := hQ
  have C := X.1
  have hx := C.1.1
  have hb := C.1.2.1
  obtain ⟨v1, e1⟩ : ∃ z, xs (i + 1).toNatClampNeg = z := ⟨_, rfl⟩
  obtain ⟨v2, e2⟩ : ∃ z, xs (i + 2).toNatClampNeg = z := ⟨_, rfl⟩
  obtain ⟨v3, e3⟩ : ∃ z, xs (i + 3).toNatClampNeg = z := ⟨_, rfl⟩
  obtain ⟨v4, e4⟩ : ∃ z, xs (i + 4).toNatClampNeg = z := ⟨_, rfl⟩
  obtain ⟨v5, e5⟩ : ∃ z, xs (i + 5).toNatClampNeg = z := ⟨_, rfl⟩
  obtain ⟨v6, e6⟩ : ∃ z, xs (i + 6).toNatClampNeg = z := ⟨_, rfl⟩
  refine lv_aload_n hx hb dL_law_353 rfl (lv_at hl 2 rfl) ?_
  refine lv_aload_n hx hb dL_law_354 rfl (lv_at hl 3 rfl) ?_
  refine lv_iload_n hx hb dL_law_355 rfl (lv_at hl 0 rfl) ?_
  refine lv_iconst (v := 1) hx hb dL_law_356 (by decide) ?_
  refine q_ai X hS (k := 1) (by decide) hi e1 dL_law_357 dL_law_358 ?_
  refine lv_aload_n hx hb dL_law_359 rfl (lv_at hl 3 rfl) ?_
  refine lv_iload_n hx hb dL_law_360 rfl (lv_at hl 0 rfl) ?_
  refine lv_iconst (v := 2) hx hb dL_law_361 (by decide) ?_
  refine q_ai X hS (k := 2) (by decide) hi e2 dL_law_362 dL_law_363 ?_
  refine lv_aload_n hx hb dL_law_364 rfl (lv_at hl 3 rfl) ?_
  refine lv_iload_n hx hb dL_law_365 rfl (lv_at hl 0 rfl) ?_
  refine lv_iconst (v := 3) hx hb dL_law_366 (by decide) ?_
  refine q_ai X hS (k := 3) (by decide) hi e3 dL_law_367 dL_law_368 ?_
  refine lv_aload_n hx hb dL_law_369 rfl (lv_at hl 3 rfl) ?_
  refine lv_iload_n hx hb dL_law_370 rfl (lv_at hl 0 rfl) ?_
  refine lv_iconst (v := 4) hx hb dL_law_371 (by decide) ?_
  refine q_ai X hS (k := 4) (by decide) hi e4 dL_law_372 dL_law_373 ?_
  refine lv_aload_n hx hb dL_law_374 rfl (lv_at hl 3 rfl) ?_
  refine lv_iload_n hx hb dL_law_375 rfl (lv_at hl 0 rfl) ?_
  refine lv_iconst (v := 5) hx hb dL_law_376 (by decide) ?_
  refine q_ai X hS (k := 5) (by decide) hi e5 dL_law_377 dL_law_378 ?_
  refine lv_aload_n hx hb dL_law_379 rfl (lv_at hl 3 rfl) ?_
  refine lv_iload_n hx hb dL_law_380 rfl (lv_at hl 0 rfl) ?_
  refine lv_bipush (v := 6) hx hb dL_law_381 (by decide) ?_
  refine q_ai X hS (k := 6) (by decide) hi e6 dL_law_383 dL_law_384 ?_
  have hG0 := hG
  have hGp := hG
  refine W.eq (g2 := F0 m 385 ls [.int v6, .int v5, .int v4, .int v3, .int v2, .int v1, .ref (al.2 49 0)]) (by rw [hox]) ?_
  refine q_ciA (q_runVA (t := 49) (i := 0) (As := [.int v1, .int v2, .int v3, .int v4, .int v5, .int v6]) (rest := []) C hU hS.1 (c_X11_leg hG v1 v2 v3 v4 v5 v6) vm_X11_leg ml_L_36 k_49.1 (hc := rfl) rfl (h1_49 hG) hl.1 rfl rfl (Nat.le_of_ble_eq_true rfl) dL_law_385 rfl rfl ⟨Nat.le_of_ble_eq_true rfl, Nat.le_of_ble_eq_true rfl⟩ ⟨by show cells + 1 ≤ 600000; omega, by show slots + 15 ≤ 7302250; omega⟩) hS hS.1 (fun r1 al1 iv1 rv1 H locs hp1 hU hS _ => ?_)
  obtain ⟨hG1, hE1, hp1⟩ := hp1
  have hRel := hRel.ex hGp hE1 (by decide)
  have hox := (hE1.2.1 49 0 (h1_49 hG)).trans hox
  have hom := (hE1.2.1 0 0 (h1_0 hG)).trans hom
  have hG := hG1
  refine W.widen (k := cells + 3) (n := slots + 16) (by omega) (by omega) ?_
  refine lv_pop hx hb dL_law_388 rfl ?_
  refine lv_aload_n hx hb dL_law_389 rfl (lv_at hl 1 rfl) ?_
  refine lv_aload_n hx hb dL_law_390 rfl (lv_at hl 3 rfl) ?_
  refine lv_iload_n hx hb dL_law_391 rfl (lv_at hl 0 rfl) ?_
  refine lv_iconst (v := 1) hx hb dL_law_392 (by decide) ?_
  refine q_ai X hS (k := 1) (by decide) hi e1 dL_law_393 dL_law_394 ?_
  refine lv_aload_n hx hb dL_law_395 rfl (lv_at hl 3 rfl) ?_
  refine lv_iload_n hx hb dL_law_396 rfl (lv_at hl 0 rfl) ?_
  refine lv_iconst (v := 2) hx hb dL_law_397 (by decide) ?_
  refine q_ai X hS (k := 2) (by decide) hi e2 dL_law_398 dL_law_399 ?_
  refine lv_aload_n hx hb dL_law_400 rfl (lv_at hl 3 rfl) ?_
  refine lv_iload_n hx hb dL_law_401 rfl (lv_at hl 0 rfl) ?_
  refine lv_iconst (v := 3) hx hb dL_law_402 (by decide) ?_
  refine q_ai X hS (k := 3) (by decide) hi e3 dL_law_403 dL_law_404 ?_
  refine lv_aload_n hx hb dL_law_405 rfl (lv_at hl 3 rfl) ?_
  refine lv_iload_n hx hb dL_law_406 rfl (lv_at hl 0 rfl) ?_
  refine lv_iconst (v := 4) hx hb dL_law_407 (by decide) ?_
  refine q_ai X hS (k := 4) (by decide) hi e4 dL_law_408 dL_law_409 ?_
  refine lv_aload_n hx hb dL_law_410 rfl (lv_at hl 3 rfl) ?_
  refine lv_iload_n hx hb dL_law_411 rfl (lv_at hl 0 rfl) ?_
  refine lv_iconst (v := 5) hx hb dL_law_412 (by decide) ?_
  refine q_ai X hS (k := 5) (by decide) hi e5 dL_law_413 dL_law_414 ?_
  refine lv_aload_n hx hb dL_law_415 rfl (lv_at hl 3 rfl) ?_
  refine lv_iload_n hx hb dL_law_416 rfl (lv_at hl 0 rfl) ?_
  refine lv_bipush (v := 6) hx hb dL_law_417 (by decide) ?_
  refine q_ai X hS (k := 6) (by decide) hi e6 dL_law_419 dL_law_420 ?_
  have hGp := hG
  refine W.eq (g2 := F0 m 421 ls [.int v6, .int v5, .int v4, .int v3, .int v2, .int v1, .ref (al1.2 0 0)]) (by rw [hom]) ?_
  refine q_fi (q_runV (t := 0) (i := 0) (As := [.int v1, .int v2, .int v3, .int v4, .int v5, .int v6]) (rest := []) C hU (c_X12_leg hG v1 v2 v3 v4 v5 v6) vm_X12_leg ml_L_40 k_0.1 (hc := rfl) rfl (h1_0 hG) hl.1 rfl rfl (Nat.le_of_ble_eq_true rfl) dL_law_421 rfl rfl ⟨Nat.le_of_ble_eq_true rfl, Nat.le_of_ble_eq_true rfl⟩ ⟨by show (cells + 3) + 0 ≤ 600000; omega, by show (slots + 16) + 0 ≤ 7302250; omega⟩) hS (fun r2 iv2 rv2 H locs hG f2 g2 hp2 hU hS => ?_)
  have hRel := hRel.fr hGp f2 g2 (by decide)
  refine lv_pop hx hb dL_law_424 rfl ?_
  refine lv_goto (tgt := 1475) hx hb dL_law_425 (by decide) ?_
  exact kk _ _ _ _ _ ⟨hG, hox, hom, hRel⟩ hU hS
set_option maxHeartbeats 4000000 in
set_option maxRecDepth 100000 in
theorem law_6 {p : Program} {l : Launch} {e : Env} {s : State} {m : MethodId} {below : List Frame} {meth : Method} {c : Code} {b L : Nat} {xs : Nat → Int32} {D : va_G} {cA : FieldType → ClassId} {ls : Array Slot} {Q : State → Prop} {H : Heap} {locs : List Loc} {cells slots : Nat} {i : Int32} {ox om : Nat} {al : Al} {iv : Iv} {rv : Rv} (X : LX p s m c b L xs D cA) (hl : lv_has ls 4 [(3, .int i), (2, .ref om), (1, .ref ox), (0, .ref b)]) (hi : 0 ≤ i.toInt ∧ i.toInt + 6 < L) (hQ : LSt ox om al iv rv) (hU : UW D cA s.heap.size al iv rv H) (hS : va_S (Aq s.heap.size) s.heap H locs) (hc : cells + 3 ≤ 600000 ∧ slots + 16 ≤ 7302250)
    (kk : ∀ (al' : Al) (iv' : Iv) (rv' : Rv) (H' : Heap) (locs' : List Loc), LSt ox om al' iv' rv' → UW D cA s.heap.size al' iv' rv' H' → va_S (Aq s.heap.size) s.heap H' locs' → W p l e room_1 s m #[Value.ref b] below meth c H' locs' (cells + 3) (slots + 16) Q (F0 m 1475 ls [])) : W p l e room_1 s m #[Value.ref b] below meth c H locs cells slots Q (F0 m 428 ls []) := by
  obtain ⟨hG, hox, hom, hRel⟩ := hQ
  have C := X.1
  have hx := C.1.1
  have hb := C.1.2.1
  obtain ⟨v1, e1⟩ : ∃ z, xs (i + 1).toNatClampNeg = z := ⟨_, rfl⟩
  obtain ⟨v2, e2⟩ : ∃ z, xs (i + 2).toNatClampNeg = z := ⟨_, rfl⟩
  obtain ⟨v3, e3⟩ : ∃ z, xs (i + 3).toNatClampNeg = z := ⟨_, rfl⟩
  refine lv_aload_n hx hb dL_law_428 rfl (lv_at hl 2 rfl) ?_
  refine lv_aload_n hx hb dL_law_429 rfl (lv_at hl 3 rfl) ?_
  refine lv_iload_n hx hb dL_law_430 rfl (lv_at hl 0 rfl) ?_
  refine lv_iconst (v := 1) hx hb dL_law_431 (by decide) ?_
  refine q_ai X hS (k := 1) (by decide) hi e1 dL_law_432 dL_law_433 ?_
  refine lv_aload_n hx hb dL_law_434 rfl (lv_at hl 3 rfl) ?_
  refine lv_iload_n hx hb dL_law_435 rfl (lv_at hl 0 rfl) ?_
  refine lv_iconst (v := 2) hx hb dL_law_436 (by decide) ?_
  refine q_ai X hS (k := 2) (by decide) hi e2 dL_law_437 dL_law_438 ?_
  refine lv_aload_n hx hb dL_law_439 rfl (lv_at hl 3 rfl) ?_
  refine lv_iload_n hx hb dL_law_440 rfl (lv_at hl 0 rfl) ?_
  refine lv_iconst (v := 3) hx hb dL_law_441 (by decide) ?_
  refine q_ai X hS (k := 3) (by decide) hi e3 dL_law_442 dL_law_443 ?_
  have hG0 := hG
  have hGp := hG
  refine W.eq (g2 := F0 m 444 ls [.int v3, .int v2, .int v1, .ref (al.2 49 0)]) (by rw [hox]) ?_
  refine q_fi (q_runV (t := 49) (i := 0) (As := [.int v1, .int v2, .int v3]) (rest := []) C hU (c_X11_log hG v1 v2 v3) vm_X11_log ml_L_41 k_49.1 (hc := rfl) rfl (h1_49 hG) hl.1 rfl rfl (Nat.le_of_ble_eq_true rfl) dL_law_444 rfl rfl ⟨Nat.le_of_ble_eq_true rfl, Nat.le_of_ble_eq_true rfl⟩ ⟨by show cells + 0 ≤ 600000; omega, by show slots + 0 ≤ 7302250; omega⟩) hS (fun r1 iv1 rv1 H locs hG f1 g1 hp1 hU hS => ?_)
  have hRel := hRel.fr hGp f1 g1 (by decide)
  refine lv_pop hx hb dL_law_447 rfl ?_
  refine lv_aload_n hx hb dL_law_448 rfl (lv_at hl 1 rfl) ?_
  refine lv_aload_n hx hb dL_law_449 rfl (lv_at hl 3 rfl) ?_
  refine lv_iload_n hx hb dL_law_450 rfl (lv_at hl 0 rfl) ?_
  refine lv_iconst (v := 1) hx hb dL_law_451 (by decide) ?_
  refine q_ai X hS (k := 1) (by decide) hi e1 dL_law_452 dL_law_453 ?_
  refine lv_aload_n hx hb dL_law_454 rfl (lv_at hl 3 rfl) ?_
  refine lv_iload_n hx hb dL_law_455 rfl (lv_at hl 0 rfl) ?_
  refine lv_iconst (v := 2) hx hb dL_law_456 (by decide) ?_
  refine q_ai X hS (k := 2) (by decide) hi e2 dL_law_457 dL_law_458 ?_
  refine lv_aload_n hx hb dL_law_459 rfl (lv_at hl 3 rfl) ?_
  refine lv_iload_n hx hb dL_law_460 rfl (lv_at hl 0 rfl) ?_
  refine lv_iconst (v := 3) hx hb dL_law_461 (by decide) ?_
  refine q_ai X hS (k := 3) (by decide) hi e3 dL_law_462 dL_law_463 ?_
  have hGp := hG
  refine W.eq (g2 := F0 m 464 ls [.int v3, .int v2, .int v1, .ref (al.2 0 0)]) (by rw [hom]) ?_
  refine q_fi (q_runV (t := 0) (i := 0) (As := [.int v1, .int v2, .int v3]) (rest := []) C hU (c_X12_log hG v1 v2 v3) vm_X12_log ml_L_44 k_0.1 (hc := rfl) rfl (h1_0 hG) hl.1 rfl rfl (Nat.le_of_ble_eq_true rfl) dL_law_464 rfl rfl ⟨Nat.le_of_ble_eq_true rfl, Nat.le_of_ble_eq_true rfl⟩ ⟨by show cells + 0 ≤ 600000; omega, by show slots + 0 ≤ 7302250; omega⟩) hS (fun r2 iv2 rv2 H locs hG f2 g2 hp2 hU hS => ?_)
  have hRel := hRel.fr hGp f2 g2 (by decide)
  refine lv_pop hx hb dL_law_467 rfl ?_
  refine lv_goto (tgt := 1475) hx hb dL_law_468 (by decide) ?_
  refine W.widen (k := cells + 3) (n := slots + 16) (by omega) (by omega) ?_
  exact kk _ _ _ _ _ ⟨hG, hox, hom, hRel⟩ hU hS
set_option maxHeartbeats 4000000 in
set_option maxRecDepth 100000 in
theorem law_7 {p : Program} {l : Launch} {e : Env} {s : State} {m : MethodId} {below : List Frame} {meth : Method} {c : Code} {b L : Nat} {xs : Nat → Int32} {D : va_G} {cA : FieldType → ClassId} {ls : Array Slot} {Q : State → Prop} {H : Heap} {locs : List Loc} {cells slots : Nat} {i : Int32} {ox om : Nat} {al : Al} {iv : Iv} {rv : Rv} (X : LX p s m c b L xs D cA) (hl : lv_has ls 4 [(3, .int i), (2, .ref om), (1, .ref ox), (0, .ref b)]) (hi : 0 ≤ i.toInt ∧ i.toInt + 6 < L) (hQ : LSt ox om al iv rv) (hU : UW D cA s.heap.size al iv rv H) (hS : va_S (Aq s.heap.size) s.heap H locs) (hc : cells + 3 ≤ 600000 ∧ slots + 16 ≤ 7302250)
    (kk : ∀ (al' : Al) (iv' : Iv) (rv' : Rv) (H' : Heap) (locs' : List Loc), LSt ox om al' iv' rv' → UW D cA s.heap.size al' iv' rv' H' → va_S (Aq s.heap.size) s.heap H' locs' → W p l e room_1 s m #[Value.ref b] below meth c H' locs' (cells + 3) (slots + 16) Q (F0 m 1475 ls [])) : W p l e room_1 s m #[Value.ref b] below meth c H locs cells slots Q (F0 m 471 ls []) := by
  obtain ⟨hG, hox, hom, hRel⟩ := hQ
  have C := X.1
  have hx := C.1.1
  have hb := C.1.2.1
  obtain ⟨v1, e1⟩ : ∃ z, xs (i + 1).toNatClampNeg = z := ⟨_, rfl⟩
  obtain ⟨v2, e2⟩ : ∃ z, xs (i + 2).toNatClampNeg = z := ⟨_, rfl⟩
  refine lv_aload_n hx hb dL_law_471 rfl (lv_at hl 2 rfl) ?_
  refine lv_aload_n hx hb dL_law_472 rfl (lv_at hl 3 rfl) ?_
  refine lv_iload_n hx hb dL_law_473 rfl (lv_at hl 0 rfl) ?_
  refine lv_iconst (v := 1) hx hb dL_law_474 (by decide) ?_
  refine q_ai X hS (k := 1) (by decide) hi e1 dL_law_475 dL_law_476 ?_
  refine lv_aload_n hx hb dL_law_477 rfl (lv_at hl 3 rfl) ?_
  refine lv_iload_n hx hb dL_law_478 rfl (lv_at hl 0 rfl) ?_
  refine lv_iconst (v := 2) hx hb dL_law_479 (by decide) ?_
  refine q_ai X hS (k := 2) (by decide) hi e2 dL_law_480 dL_law_481 ?_
  have hG0 := hG
  have hGp := hG
  refine W.eq (g2 := F0 m 482 ls [.int v2, .int v1, .ref (al.2 49 0)]) (by rw [hox]) ?_
  refine q_fi (q_runV (t := 49) (i := 0) (As := [.int v1, .int v2]) (rest := []) C hU (c_X11_cause hG v1 v2) vm_X11_cause ml_L_45 k_49.1 (hc := rfl) rfl (h1_49 hG) hl.1 rfl rfl (Nat.le_of_ble_eq_true rfl) dL_law_482 rfl rfl ⟨Nat.le_of_ble_eq_true rfl, Nat.le_of_ble_eq_true rfl⟩ ⟨by show cells + 0 ≤ 600000; omega, by show slots + 0 ≤ 7302250; omega⟩) hS (fun r1 iv1 rv1 H locs hG f1 g1 hp1 hU hS => ?_)
  have hRel := hRel.fr hGp f1 g1 (by decide)
  refine lv_pop hx hb dL_law_485 rfl ?_
  refine lv_aload_n hx hb dL_law_486 rfl (lv_at hl 1 rfl) ?_
  refine lv_aload_n hx hb dL_law_487 rfl (lv_at hl 3 rfl) ?_
  refine lv_iload_n hx hb dL_law_488 rfl (lv_at hl 0 rfl) ?_
  refine lv_iconst (v := 1) hx hb dL_law_489 (by decide) ?_
  refine q_ai X hS (k := 1) (by decide) hi e1 dL_law_490 dL_law_491 ?_
  refine lv_aload_n hx hb dL_law_492 rfl (lv_at hl 3 rfl) ?_
  refine lv_iload_n hx hb dL_law_493 rfl (lv_at hl 0 rfl) ?_
  refine lv_iconst (v := 2) hx hb dL_law_494 (by decide) ?_
  refine q_ai X hS (k := 2) (by decide) hi e2 dL_law_495 dL_law_496 ?_
  have hGp := hG
  refine W.eq (g2 := F0 m 497 ls [.int v2, .int v1, .ref (al.2 0 0)]) (by rw [hom]) ?_
  refine q_fi (q_runV (t := 0) (i := 0) (As := [.int v1, .int v2]) (rest := []) C hU (c_X12_cause hG v1 v2) vm_X12_cause ml_L_48 k_0.1 (hc := rfl) rfl (h1_0 hG) hl.1 rfl rfl (Nat.le_of_ble_eq_true rfl) dL_law_497 rfl rfl ⟨Nat.le_of_ble_eq_true rfl, Nat.le_of_ble_eq_true rfl⟩ ⟨by show cells + 0 ≤ 600000; omega, by show slots + 0 ≤ 7302250; omega⟩) hS (fun r2 iv2 rv2 H locs hG f2 g2 hp2 hU hS => ?_)
  have hRel := hRel.fr hGp f2 g2 (by decide)
  refine lv_pop hx hb dL_law_500 rfl ?_
  refine lv_goto (tgt := 1475) hx hb dL_law_501 (by decide) ?_
  refine W.widen (k := cells + 3) (n := slots + 16) (by omega) (by omega) ?_
  exact kk _ _ _ _ _ ⟨hG, hox, hom, hRel⟩ hU hS
set_option maxHeartbeats 4000000 in
set_option maxRecDepth 100000 in
theorem law_8 {p : Program} {l : Launch} {e : Env} {s : State} {m : MethodId} {below : List Frame} {meth : Method} {c : Code} {b L : Nat} {xs : Nat → Int32} {D : va_G} {cA : FieldType → ClassId} {ls : Array Slot} {Q : State → Prop} {H : Heap} {locs : List Loc} {cells slots : Nat} {i : Int32} {ox om : Nat} {al : Al} {iv : Iv} {rv : Rv} (X : LX p s m c b L xs D cA) (hl : lv_has ls 4 [(3, .int i), (2, .ref om), (1, .ref ox), (0, .ref b)]) (hi : 0 ≤ i.toInt ∧ i.toInt + 6 < L) (hQ : LSt ox om al iv rv) (hU : UW D cA s.heap.size al iv rv H) (hS : va_S (Aq s.heap.size) s.heap H locs) (hc : cells + 3 ≤ 600000 ∧ slots + 16 ≤ 7302250)
    (kk : ∀ (al' : Al) (iv' : Iv) (rv' : Rv) (H' : Heap) (locs' : List Loc), LSt ox om al' iv' rv' → UW D cA s.heap.size al' iv' rv' H' → va_S (Aq s.heap.size) s.heap H' locs' → W p l e room_1 s m #[Value.ref b] below meth c H' locs' (cells + 3) (slots + 16) Q (F0 m 1475 ls [])) : W p l e room_1 s m #[Value.ref b] below meth c H locs cells slots Q (F0 m 504 ls []) := by
  obtain ⟨hG, hox, hom, hRel⟩ := hQ
  have C := X.1
  have hx := C.1.1
  have hb := C.1.2.1
  obtain ⟨v1, e1⟩ : ∃ z, xs (i + 1).toNatClampNeg = z := ⟨_, rfl⟩
  obtain ⟨v2, e2⟩ : ∃ z, xs (i + 2).toNatClampNeg = z := ⟨_, rfl⟩
  refine lv_aload_n hx hb dL_law_504 rfl (lv_at hl 2 rfl) ?_
  refine lv_aload_n hx hb dL_law_505 rfl (lv_at hl 3 rfl) ?_
  refine lv_iload_n hx hb dL_law_506 rfl (lv_at hl 0 rfl) ?_
  refine lv_iconst (v := 1) hx hb dL_law_507 (by decide) ?_
  refine q_ai X hS (k := 1) (by decide) hi e1 dL_law_508 dL_law_509 ?_
  refine lv_aload_n hx hb dL_law_510 rfl (lv_at hl 3 rfl) ?_
  refine lv_iload_n hx hb dL_law_511 rfl (lv_at hl 0 rfl) ?_
  refine lv_iconst (v := 2) hx hb dL_law_512 (by decide) ?_
  refine q_ai X hS (k := 2) (by decide) hi e2 dL_law_513 dL_law_514 ?_
  have hG0 := hG
  have hGp := hG
  refine W.eq (g2 := F0 m 515 ls [.int v2, .int v1, .ref (al.2 49 0)]) (by rw [hox]) ?_
  refine q_fi (q_runVX (t := 49) (i := 0) (As := [.int v1, .int v2]) (rest := []) C hU hS.1 (fun U hH hW => X.2.2.2.1.to hS hH hW) SX.calling (c_X11_set hG v1 v2) vm_X11_set ml_L_49 k_49.1 (hc := rfl) rfl (h1_49 hG) hl.1 rfl rfl (Nat.le_of_ble_eq_true rfl) dL_law_515 rfl rfl ⟨Nat.le_of_ble_eq_true rfl, Nat.le_of_ble_eq_true rfl⟩ ⟨by show cells + 0 ≤ 600000; omega, by show slots + 0 ≤ 7302250; omega⟩) hS (fun r1 iv1 rv1 H locs hG f1 g1 hp1 hU hS => ?_)
  have hRel := hRel.fr hGp f1 g1 (by decide)
  refine lv_pop hx hb dL_law_518 rfl ?_
  refine lv_aload_n hx hb dL_law_519 rfl (lv_at hl 1 rfl) ?_
  refine lv_aload_n hx hb dL_law_520 rfl (lv_at hl 3 rfl) ?_
  refine lv_iload_n hx hb dL_law_521 rfl (lv_at hl 0 rfl) ?_
  refine lv_iconst (v := 1) hx hb dL_law_522 (by decide) ?_
  refine q_ai X hS (k := 1) (by decide) hi e1 dL_law_523 dL_law_524 ?_
  refine lv_aload_n hx hb dL_law_525 rfl (lv_at hl 3 rfl) ?_
  refine lv_iload_n hx hb dL_law_526 rfl (lv_at hl 0 rfl) ?_
  refine lv_iconst (v := 2) hx hb dL_law_527 (by decide) ?_
  refine q_ai X hS (k := 2) (by decide) hi e2 dL_law_528 dL_law_529 ?_
  have hGp := hG
  refine W.eq (g2 := F0 m 530 ls [.int v2, .int v1, .ref (al.2 0 0)]) (by rw [hom]) ?_
  refine q_fi (q_runV (t := 0) (i := 0) (As := [.int v1, .int v2]) (rest := []) C hU (c_X12_set hG v1 v2) vm_X12_set ml_L_52 k_0.1 (hc := rfl) rfl (h1_0 hG) hl.1 rfl rfl (Nat.le_of_ble_eq_true rfl) dL_law_530 rfl rfl ⟨Nat.le_of_ble_eq_true rfl, Nat.le_of_ble_eq_true rfl⟩ ⟨by show cells + 0 ≤ 600000; omega, by show slots + 0 ≤ 7302250; omega⟩) hS (fun r2 iv2 rv2 H locs hG f2 g2 hp2 hU hS => ?_)
  have hRel := hRel.fr hGp f2 g2 (by decide)
  refine lv_pop hx hb dL_law_533 rfl ?_
  refine lv_goto (tgt := 1475) hx hb dL_law_534 (by decide) ?_
  refine W.widen (k := cells + 3) (n := slots + 16) (by omega) (by omega) ?_
  exact kk _ _ _ _ _ ⟨hG, hox, hom, hRel⟩ hU hS
end
section
set_option maxHeartbeats 4000000 in
set_option maxRecDepth 100000 in
theorem law_9 {p : Program} {l : Launch} {e : Env} {s : State} {m : MethodId} {below : List Frame} {meth : Method} {c : Code} {b L : Nat} {xs : Nat → Int32} {D : va_G} {cA : FieldType → ClassId} {ls : Array Slot} {Q : State → Prop} {H : Heap} {locs : List Loc} {cells slots : Nat} {i : Int32} {ox om : Nat} {al : Al} {iv : Iv} {rv : Rv} (X : LX p s m c b L xs D cA) (hl : lv_has ls 4 [(3, .int i), (2, .ref om), (1, .ref ox), (0, .ref b)]) (hi : 0 ≤ i.toInt ∧ i.toInt + 6 < L) (hQ : LSt ox om al iv rv) (hU : UW D cA s.heap.size al iv rv H) (hS : va_S (Aq s.heap.size) s.heap H locs) (hc : cells + 3 ≤ 600000 ∧ slots + 16 ≤ 7302250)
    (kk : ∀ (al' : Al) (iv' : Iv) (rv' : Rv) (H' : Heap) (locs' : List Loc), LSt ox om al' iv' rv' → UW D cA s.heap.size al' iv' rv' H' → va_S (Aq s.heap.size) s.heap H' locs' → W p l e room_1 s m #[Value.ref b] below meth c H' locs' (cells + 3) (slots + 16) Q (F0 m 1475 ls [])) : W p l e room_1 s m #[Value.ref b] below meth c H locs cells slots Q (F0 m 537 ls []) := by
  obtain ⟨hG, hox, hom, hRel⟩ := hQ
  have C := X.1
  have hx := C.1.1
  have hb := C.1.2.1
  obtain ⟨v1, e1⟩ : ∃ z, xs (i + 1).toNatClampNeg = z := ⟨_, rfl⟩
  obtain ⟨v2, e2⟩ : ∃ z, xs (i + 2).toNatClampNeg = z := ⟨_, rfl⟩
  refine lv_aload_n hx hb dL_law_537 rfl (lv_at hl 2 rfl) ?_
  refine lv_aload_n hx hb dL_law_538 rfl (lv_at hl 3 rfl) ?_
  refine lv_iload_n hx hb dL_law_539 rfl (lv_at hl 0 rfl) ?_
  refine lv_iconst (v := 1) hx hb dL_law_540 (by decide) ?_
  refine q_ai X hS (k := 1) (by decide) hi e1 dL_law_541 dL_law_542 ?_
  refine lv_aload_n hx hb dL_law_543 rfl (lv_at hl 3 rfl) ?_
  refine lv_iload_n hx hb dL_law_544 rfl (lv_at hl 0 rfl) ?_
  refine lv_iconst (v := 2) hx hb dL_law_545 (by decide) ?_
  refine q_ai X hS (k := 2) (by decide) hi e2 dL_law_546 dL_law_547 ?_
  have hG0 := hG
  have hGp := hG
  refine W.eq (g2 := F0 m 548 ls [.int v2, .int v1, .ref (al.2 49 0)]) (by rw [hox]) ?_
  refine q_fi (q_runV (t := 49) (i := 0) (As := [.int v1, .int v2]) (rest := []) C hU (c_X11_legOf hG v1 v2) vm_X11_legOf ml_L_53 k_49.1 (hc := rfl) rfl (h1_49 hG) hl.1 rfl rfl (Nat.le_of_ble_eq_true rfl) dL_law_548 rfl rfl ⟨Nat.le_of_ble_eq_true rfl, Nat.le_of_ble_eq_true rfl⟩ ⟨by show cells + 0 ≤ 600000; omega, by show slots + 0 ≤ 7302250; omega⟩) hS (fun r1 iv1 rv1 H locs hG f1 g1 hp1 hU hS => ?_)
  have hRel := hRel.fr hGp f1 g1 (by decide)
  refine lv_pop hx hb dL_law_551 rfl ?_
  refine lv_aload_n hx hb dL_law_552 rfl (lv_at hl 1 rfl) ?_
  refine lv_aload_n hx hb dL_law_553 rfl (lv_at hl 3 rfl) ?_
  refine lv_iload_n hx hb dL_law_554 rfl (lv_at hl 0 rfl) ?_
  refine lv_iconst (v := 1) hx hb dL_law_555 (by decide) ?_
  refine q_ai X hS (k := 1) (by decide) hi e1 dL_law_556 dL_law_557 ?_
  refine lv_aload_n hx hb dL_law_558 rfl (lv_at hl 3 rfl) ?_
  refine lv_iload_n hx hb dL_law_559 rfl (lv_at hl 0 rfl) ?_
  refine lv_iconst (v := 2) hx hb dL_law_560 (by decide) ?_
  refine q_ai X hS (k := 2) (by decide) hi e2 dL_law_561 dL_law_562 ?_
  have hGp := hG
  refine W.eq (g2 := F0 m 563 ls [.int v2, .int v1, .ref (al.2 0 0)]) (by rw [hom]) ?_
  refine q_fi (q_runV (t := 0) (i := 0) (As := [.int v1, .int v2]) (rest := []) C hU (c_X12_legOf hG v1 v2) vm_X12_legOf ml_L_56 k_0.1 (hc := rfl) rfl (h1_0 hG) hl.1 rfl rfl (Nat.le_of_ble_eq_true rfl) dL_law_563 rfl rfl ⟨Nat.le_of_ble_eq_true rfl, Nat.le_of_ble_eq_true rfl⟩ ⟨by show cells + 0 ≤ 600000; omega, by show slots + 0 ≤ 7302250; omega⟩) hS (fun r2 iv2 rv2 H locs hG f2 g2 hp2 hU hS => ?_)
  have hRel := hRel.fr hGp f2 g2 (by decide)
  refine lv_pop hx hb dL_law_566 rfl ?_
  refine lv_goto (tgt := 1475) hx hb dL_law_567 (by decide) ?_
  refine W.widen (k := cells + 3) (n := slots + 16) (by omega) (by omega) ?_
  exact kk _ _ _ _ _ ⟨hG, hox, hom, hRel⟩ hU hS
set_option maxHeartbeats 4000000 in
set_option maxRecDepth 100000 in
theorem law_10 {p : Program} {l : Launch} {e : Env} {s : State} {m : MethodId} {below : List Frame} {meth : Method} {c : Code} {b L : Nat} {xs : Nat → Int32} {D : va_G} {cA : FieldType → ClassId} {ls : Array Slot} {Q : State → Prop} {H : Heap} {locs : List Loc} {cells slots : Nat} {i : Int32} {ox om : Nat} {al : Al} {iv : Iv} {rv : Rv} (X : LX p s m c b L xs D cA) (hl : lv_has ls 4 [(3, .int i), (2, .ref om), (1, .ref ox), (0, .ref b)]) (hi : 0 ≤ i.toInt ∧ i.toInt + 6 < L) (hQ : LSt ox om al iv rv) (hU : UW D cA s.heap.size al iv rv H) (hS : va_S (Aq s.heap.size) s.heap H locs) (hc : cells + 3 ≤ 600000 ∧ slots + 16 ≤ 7302250)
    (kk : ∀ (al' : Al) (iv' : Iv) (rv' : Rv) (H' : Heap) (locs' : List Loc), LSt ox om al' iv' rv' → UW D cA s.heap.size al' iv' rv' H' → va_S (Aq s.heap.size) s.heap H' locs' → W p l e room_1 s m #[Value.ref b] below meth c H' locs' (cells + 3) (slots + 16) Q (F0 m 1475 ls [])) : W p l e room_1 s m #[Value.ref b] below meth c H locs cells slots Q (F0 m 570 ls []) := by
  obtain ⟨hG, hox, hom, hRel⟩ := hQ
  have C := X.1
  have hx := C.1.1
  have hb := C.1.2.1
  obtain ⟨v1, e1⟩ : ∃ z, xs (i + 1).toNatClampNeg = z := ⟨_, rfl⟩
  obtain ⟨v2, e2⟩ : ∃ z, xs (i + 2).toNatClampNeg = z := ⟨_, rfl⟩
  refine lv_aload_n hx hb dL_law_570 rfl (lv_at hl 2 rfl) ?_
  refine lv_aload_n hx hb dL_law_571 rfl (lv_at hl 3 rfl) ?_
  refine lv_iload_n hx hb dL_law_572 rfl (lv_at hl 0 rfl) ?_
  refine lv_iconst (v := 1) hx hb dL_law_573 (by decide) ?_
  refine q_ai X hS (k := 1) (by decide) hi e1 dL_law_574 dL_law_575 ?_
  refine lv_aload_n hx hb dL_law_576 rfl (lv_at hl 3 rfl) ?_
  refine lv_iload_n hx hb dL_law_577 rfl (lv_at hl 0 rfl) ?_
  refine lv_iconst (v := 2) hx hb dL_law_578 (by decide) ?_
  refine q_ai X hS (k := 2) (by decide) hi e2 dL_law_579 dL_law_580 ?_
  have J_589 : ∀ zv2 : Int32, (0 ≤ zv2.toInt ∧ zv2.toInt ≤ 1) → zv2 = bz v2 → W p l e room_1 s m #[Value.ref b] below meth c H locs cells slots Q (F0 m 589 ls [.int zv2, .int v1, .ref ox]) := by
    intro zv2 rzv2 qzv2
    have hG0 := hG
    have hGp := hG
    refine W.eq (g2 := F0 m 589 ls [.int zv2, .int v1, .ref (al.2 49 0)]) (by rw [hox]) ?_
    refine q_fi (q_runV (t := 49) (i := 0) (As := [.int v1, .int zv2]) (rest := []) C hU (c_X11_ahead hG v1 zv2) vm_X11_ahead ml_L_57 k_49.1 (hc := rfl) rfl (h1_49 hG) hl.1 rfl rfl (Nat.le_of_ble_eq_true rfl) dL_law_589 rfl rfl ⟨Nat.le_of_ble_eq_true rfl, Nat.le_of_ble_eq_true rfl⟩ ⟨by show cells + 0 ≤ 600000; omega, by show slots + 0 ≤ 7302250; omega⟩) hS (fun r1 iv1 rv1 H locs hG f1 g1 hp1 hU hS => ?_)
    have hRel := hRel.fr hGp f1 g1 (by decide)
    refine lv_pop hx hb dL_law_592 rfl ?_
    refine lv_aload_n hx hb dL_law_593 rfl (lv_at hl 1 rfl) ?_
    refine lv_aload_n hx hb dL_law_594 rfl (lv_at hl 3 rfl) ?_
    refine lv_iload_n hx hb dL_law_595 rfl (lv_at hl 0 rfl) ?_
    refine lv_iconst (v := 1) hx hb dL_law_596 (by decide) ?_
    refine q_ai X hS (k := 1) (by decide) hi e1 dL_law_597 dL_law_598 ?_
    refine lv_aload_n hx hb dL_law_599 rfl (lv_at hl 3 rfl) ?_
    refine lv_iload_n hx hb dL_law_600 rfl (lv_at hl 0 rfl) ?_
    refine lv_iconst (v := 2) hx hb dL_law_601 (by decide) ?_
    refine q_ai X hS (k := 2) (by decide) hi e2 dL_law_602 dL_law_603 ?_
    have J_612 : ∀ zv2m : Int32, (0 ≤ zv2m.toInt ∧ zv2m.toInt ≤ 1) → zv2m = bz v2 → W p l e room_1 s m #[Value.ref b] below meth c H locs cells slots Q (F0 m 612 ls [.int zv2m, .int v1, .ref om]) := by
      intro zv2m rzv2m qzv2m
      have hGp := hG
      refine W.eq (g2 := F0 m 612 ls [.int zv2m, .int v1, .ref (al.2 0 0)]) (by rw [hom]) ?_
      refine q_fi (q_runV (t := 0) (i := 0) (As := [.int v1, .int zv2m]) (rest := []) C hU (c_X12_ahead hG v1 zv2m rzv2m) vm_X12_ahead ml_L_61 k_0.1 (hc := rfl) rfl (h1_0 hG) hl.1 rfl rfl (Nat.le_of_ble_eq_true rfl) dL_law_612 rfl rfl ⟨Nat.le_of_ble_eq_true rfl, Nat.le_of_ble_eq_true rfl⟩ ⟨by show cells + 0 ≤ 600000; omega, by show slots + 0 ≤ 7302250; omega⟩) hS (fun r2 iv2 rv2 H locs hG f2 g2 hp2 hU hS => ?_)
      have hRel := hRel.fr hGp f2 g2 (by decide)
      refine lv_pop hx hb dL_law_615 rfl ?_
      refine lv_goto (tgt := 1475) hx hb dL_law_616 (by decide) ?_
      refine W.widen (k := cells + 3) (n := slots + 16) (by omega) (by omega) ?_
      exact kk _ _ _ _ _ ⟨hG, hox, hom, hRel⟩ hU hS
    refine b_if_eq (tgt := 611) hx hb dL_law_604 (by decide) (fun c0 => ?_) (fun c0 => ?_)
    · refine lv_iconst (v := 0) hx hb dL_law_611 (by decide) ?_
      exact J_612 0 ⟨by decide, by decide⟩ (bz_0 c0)
    · refine lv_iconst (v := 1) hx hb dL_law_607 (by decide) ?_
      refine lv_goto (tgt := 612) hx hb dL_law_608 (by decide) ?_
      exact J_612 1 ⟨by decide, by decide⟩ (bz_1 c0)
  refine b_if_eq (tgt := 588) hx hb dL_law_581 (by decide) (fun c0 => ?_) (fun c0 => ?_)
  · refine lv_iconst (v := 0) hx hb dL_law_588 (by decide) ?_
    exact J_589 0 ⟨by decide, by decide⟩ (bz_0 c0)
  · refine lv_iconst (v := 1) hx hb dL_law_584 (by decide) ?_
    refine lv_goto (tgt := 589) hx hb dL_law_585 (by decide) ?_
    exact J_589 1 ⟨by decide, by decide⟩ (bz_1 c0)
set_option maxHeartbeats 4000000 in
set_option maxRecDepth 100000 in
theorem law_11 {p : Program} {l : Launch} {e : Env} {s : State} {m : MethodId} {below : List Frame} {meth : Method} {c : Code} {b L : Nat} {xs : Nat → Int32} {D : va_G} {cA : FieldType → ClassId} {ls : Array Slot} {Q : State → Prop} {H : Heap} {locs : List Loc} {cells slots : Nat} {i : Int32} {ox om : Nat} {al : Al} {iv : Iv} {rv : Rv} (X : LX p s m c b L xs D cA) (hl : lv_has ls 4 [(3, .int i), (2, .ref om), (1, .ref ox), (0, .ref b)]) (hi : 0 ≤ i.toInt ∧ i.toInt + 6 < L) (hQ : LSt ox om al iv rv) (hU : UW D cA s.heap.size al iv rv H) (hS : va_S (Aq s.heap.size) s.heap H locs) (hc : cells + 3 ≤ 600000 ∧ slots + 16 ≤ 7302250)
    (kk : ∀ (al' : Al) (iv' : Iv) (rv' : Rv) (H' : Heap) (locs' : List Loc), LSt ox om al' iv' rv' → UW D cA s.heap.size al' iv' rv' H' → va_S (Aq s.heap.size) s.heap H' locs' → W p l e room_1 s m #[Value.ref b] below meth c H' locs' (cells + 3) (slots + 16) Q (F0 m 1475 ls [])) : W p l e room_1 s m #[Value.ref b] below meth c H locs cells slots Q (F0 m 619 ls []) := by
  obtain ⟨hG, hox, hom, hRel⟩ := hQ
  have C := X.1
  have hx := C.1.1
  have hb := C.1.2.1
  obtain ⟨v1, e1⟩ : ∃ z, xs (i + 1).toNatClampNeg = z := ⟨_, rfl⟩
  obtain ⟨v2, e2⟩ : ∃ z, xs (i + 2).toNatClampNeg = z := ⟨_, rfl⟩
  refine lv_aload_n hx hb dL_law_619 rfl (lv_at hl 2 rfl) ?_
  refine lv_aload_n hx hb dL_law_620 rfl (lv_at hl 3 rfl) ?_
  refine lv_iload_n hx hb dL_law_621 rfl (lv_at hl 0 rfl) ?_
  refine lv_iconst (v := 1) hx hb dL_law_622 (by decide) ?_
  refine q_ai X hS (k := 1) (by decide) hi e1 dL_law_623 dL_law_624 ?_
  refine lv_aload_n hx hb dL_law_625 rfl (lv_at hl 3 rfl) ?_
  refine lv_iload_n hx hb dL_law_626 rfl (lv_at hl 0 rfl) ?_
  refine lv_iconst (v := 2) hx hb dL_law_627 (by decide) ?_
  refine q_ai X hS (k := 2) (by decide) hi e2 dL_law_628 dL_law_629 ?_
  have hG0 := hG
  have hGp := hG
  refine W.eq (g2 := F0 m 630 ls [.int v2, .int v1, .ref (al.2 49 0)]) (by rw [hox]) ?_
  refine q_fi (q_runV (t := 49) (i := 0) (As := [.int v1, .int v2]) (rest := []) C hU (c_X11_minutes hG v1 v2) vm_X11_minutes ml_L_62 k_49.1 (hc := rfl) rfl (h1_49 hG) hl.1 rfl rfl (Nat.le_of_ble_eq_true rfl) dL_law_630 rfl rfl ⟨Nat.le_of_ble_eq_true rfl, Nat.le_of_ble_eq_true rfl⟩ ⟨by show cells + 0 ≤ 600000; omega, by show slots + 0 ≤ 7302250; omega⟩) hS (fun r1 iv1 rv1 H locs hG f1 g1 hp1 hU hS => ?_)
  have hRel := hRel.fr hGp f1 g1 (by decide)
  refine lv_pop hx hb dL_law_633 rfl ?_
  refine lv_aload_n hx hb dL_law_634 rfl (lv_at hl 1 rfl) ?_
  refine lv_aload_n hx hb dL_law_635 rfl (lv_at hl 3 rfl) ?_
  refine lv_iload_n hx hb dL_law_636 rfl (lv_at hl 0 rfl) ?_
  refine lv_iconst (v := 1) hx hb dL_law_637 (by decide) ?_
  refine q_ai X hS (k := 1) (by decide) hi e1 dL_law_638 dL_law_639 ?_
  refine lv_aload_n hx hb dL_law_640 rfl (lv_at hl 3 rfl) ?_
  refine lv_iload_n hx hb dL_law_641 rfl (lv_at hl 0 rfl) ?_
  refine lv_iconst (v := 2) hx hb dL_law_642 (by decide) ?_
  refine q_ai X hS (k := 2) (by decide) hi e2 dL_law_643 dL_law_644 ?_
  have hGp := hG
  refine W.eq (g2 := F0 m 645 ls [.int v2, .int v1, .ref (al.2 0 0)]) (by rw [hom]) ?_
  refine q_fi (q_runV (t := 0) (i := 0) (As := [.int v1, .int v2]) (rest := []) C hU (c_X12_minutes hG v1 v2) vm_X12_minutes ml_L_65 k_0.1 (hc := rfl) rfl (h1_0 hG) hl.1 rfl rfl (Nat.le_of_ble_eq_true rfl) dL_law_645 rfl rfl ⟨Nat.le_of_ble_eq_true rfl, Nat.le_of_ble_eq_true rfl⟩ ⟨by show cells + 0 ≤ 600000; omega, by show slots + 0 ≤ 7302250; omega⟩) hS (fun r2 iv2 rv2 H locs hG f2 g2 hp2 hU hS => ?_)
  have hRel := hRel.fr hGp f2 g2 (by decide)
  refine lv_pop hx hb dL_law_648 rfl ?_
  refine lv_goto (tgt := 1475) hx hb dL_law_649 (by decide) ?_
  refine W.widen (k := cells + 3) (n := slots + 16) (by omega) (by omega) ?_
  exact kk _ _ _ _ _ ⟨hG, hox, hom, hRel⟩ hU hS
set_option maxHeartbeats 4000000 in
set_option maxRecDepth 100000 in
theorem law_12 {p : Program} {l : Launch} {e : Env} {s : State} {m : MethodId} {below : List Frame} {meth : Method} {c : Code} {b L : Nat} {xs : Nat → Int32} {D : va_G} {cA : FieldType → ClassId} {ls : Array Slot} {Q : State → Prop} {H : Heap} {locs : List Loc} {cells slots : Nat} {i : Int32} {ox om : Nat} {al : Al} {iv : Iv} {rv : Rv} (X : LX p s m c b L xs D cA) (hl : lv_has ls 4 [(3, .int i), (2, .ref om), (1, .ref ox), (0, .ref b)]) (hi : 0 ≤ i.toInt ∧ i.toInt + 6 < L) (hQ : LSt ox om al iv rv) (hU : UW D cA s.heap.size al iv rv H) (hS : va_S (Aq s.heap.size) s.heap H locs) (hc : cells + 3 ≤ 600000 ∧ slots + 16 ≤ 7302250)
    (kk : ∀ (al' : Al) (iv' : Iv) (rv' : Rv) (H' : Heap) (locs' : List Loc), LSt ox om al' iv' rv' → UW D cA s.heap.size al' iv' rv' H' → va_S (Aq s.heap.size) s.heap H' locs' → W p l e room_1 s m #[Value.ref b] below meth c H' locs' (cells + 3) (slots + 16) Q (F0 m 1475 ls [])) : W p l e room_1 s m #[Value.ref b] below meth c H locs cells slots Q (F0 m 652 ls []) := by
  obtain ⟨hG, hox, hom, hRel⟩ := hQ
  have C := X.1
  have hx := C.1.1
  have hb := C.1.2.1
  obtain ⟨v1, e1⟩ : ∃ z, xs (i + 1).toNatClampNeg = z := ⟨_, rfl⟩
  obtain ⟨v2, e2⟩ : ∃ z, xs (i + 2).toNatClampNeg = z := ⟨_, rfl⟩
  refine lv_aload_n hx hb dL_law_652 rfl (lv_at hl 2 rfl) ?_
  refine lv_aload_n hx hb dL_law_653 rfl (lv_at hl 3 rfl) ?_
  refine lv_iload_n hx hb dL_law_654 rfl (lv_at hl 0 rfl) ?_
  refine lv_iconst (v := 1) hx hb dL_law_655 (by decide) ?_
  refine q_ai X hS (k := 1) (by decide) hi e1 dL_law_656 dL_law_657 ?_
  refine lv_aload_n hx hb dL_law_658 rfl (lv_at hl 3 rfl) ?_
  refine lv_iload_n hx hb dL_law_659 rfl (lv_at hl 0 rfl) ?_
  refine lv_iconst (v := 2) hx hb dL_law_660 (by decide) ?_
  refine q_ai X hS (k := 2) (by decide) hi e2 dL_law_661 dL_law_662 ?_
  have hG0 := hG
  have hGp := hG
  refine W.eq (g2 := F0 m 663 ls [.int v2, .int v1, .ref (al.2 49 0)]) (by rw [hox]) ?_
  refine q_fi (q_runV (t := 49) (i := 0) (As := [.int v1, .int v2]) (rest := []) C hU (c_X11_saved hG v1 v2) vm_X11_saved ml_L_66 k_49.1 (hc := rfl) rfl (h1_49 hG) hl.1 rfl rfl (Nat.le_of_ble_eq_true rfl) dL_law_663 rfl rfl ⟨Nat.le_of_ble_eq_true rfl, Nat.le_of_ble_eq_true rfl⟩ ⟨by show cells + 0 ≤ 600000; omega, by show slots + 0 ≤ 7302250; omega⟩) hS (fun r1 iv1 rv1 H locs hG f1 g1 hp1 hU hS => ?_)
  have hRel := hRel.fr hGp f1 g1 (by decide)
  refine lv_pop hx hb dL_law_666 rfl ?_
  refine lv_aload_n hx hb dL_law_667 rfl (lv_at hl 1 rfl) ?_
  refine lv_aload_n hx hb dL_law_668 rfl (lv_at hl 3 rfl) ?_
  refine lv_iload_n hx hb dL_law_669 rfl (lv_at hl 0 rfl) ?_
  refine lv_iconst (v := 1) hx hb dL_law_670 (by decide) ?_
  refine q_ai X hS (k := 1) (by decide) hi e1 dL_law_671 dL_law_672 ?_
  refine lv_aload_n hx hb dL_law_673 rfl (lv_at hl 3 rfl) ?_
  refine lv_iload_n hx hb dL_law_674 rfl (lv_at hl 0 rfl) ?_
  refine lv_iconst (v := 2) hx hb dL_law_675 (by decide) ?_
  refine q_ai X hS (k := 2) (by decide) hi e2 dL_law_676 dL_law_677 ?_
  have hGp := hG
  refine W.eq (g2 := F0 m 678 ls [.int v2, .int v1, .ref (al.2 0 0)]) (by rw [hom]) ?_
  refine q_fi (q_runV (t := 0) (i := 0) (As := [.int v1, .int v2]) (rest := []) C hU (c_X12_saved hG v1 v2) vm_X12_saved ml_L_69 k_0.1 (hc := rfl) rfl (h1_0 hG) hl.1 rfl rfl (Nat.le_of_ble_eq_true rfl) dL_law_678 rfl rfl ⟨Nat.le_of_ble_eq_true rfl, Nat.le_of_ble_eq_true rfl⟩ ⟨by show cells + 0 ≤ 600000; omega, by show slots + 0 ≤ 7302250; omega⟩) hS (fun r2 iv2 rv2 H locs hG f2 g2 hp2 hU hS => ?_)
  have hRel := hRel.fr hGp f2 g2 (by decide)
  refine lv_pop hx hb dL_law_681 rfl ?_
  refine lv_goto (tgt := 1475) hx hb dL_law_682 (by decide) ?_
  refine W.widen (k := cells + 3) (n := slots + 16) (by omega) (by omega) ?_
  exact kk _ _ _ _ _ ⟨hG, hox, hom, hRel⟩ hU hS
set_option maxHeartbeats 4000000 in
set_option maxRecDepth 100000 in
theorem law_13 {p : Program} {l : Launch} {e : Env} {s : State} {m : MethodId} {below : List Frame} {meth : Method} {c : Code} {b L : Nat} {xs : Nat → Int32} {D : va_G} {cA : FieldType → ClassId} {ls : Array Slot} {Q : State → Prop} {H : Heap} {locs : List Loc} {cells slots : Nat} {i : Int32} {ox om : Nat} {al : Al} {iv : Iv} {rv : Rv} (X : LX p s m c b L xs D cA) (hl : lv_has ls 4 [(3, .int i), (2, .ref om), (1, .ref ox), (0, .ref b)]) (hi : 0 ≤ i.toInt ∧ i.toInt + 6 < L) (hQ : LSt ox om al iv rv) (hU : UW D cA s.heap.size al iv rv H) (hS : va_S (Aq s.heap.size) s.heap H locs) (hc : cells + 3 ≤ 600000 ∧ slots + 16 ≤ 7302250)
    (kk : ∀ (al' : Al) (iv' : Iv) (rv' : Rv) (H' : Heap) (locs' : List Loc), LSt ox om al' iv' rv' → UW D cA s.heap.size al' iv' rv' H' → va_S (Aq s.heap.size) s.heap H' locs' → W p l e room_1 s m #[Value.ref b] below meth c H' locs' (cells + 3) (slots + 16) Q (F0 m 1475 ls [])) : W p l e room_1 s m #[Value.ref b] below meth c H locs cells slots Q (F0 m 685 ls []) := by
  obtain ⟨hG, hox, hom, hRel⟩ := hQ
  have C := X.1
  have hx := C.1.1
  have hb := C.1.2.1
  obtain ⟨v1, e1⟩ : ∃ z, xs (i + 1).toNatClampNeg = z := ⟨_, rfl⟩
  refine lv_aload_n hx hb dL_law_685 rfl (lv_at hl 2 rfl) ?_
  refine lv_aload_n hx hb dL_law_686 rfl (lv_at hl 3 rfl) ?_
  refine lv_iload_n hx hb dL_law_687 rfl (lv_at hl 0 rfl) ?_
  refine lv_iconst (v := 1) hx hb dL_law_688 (by decide) ?_
  refine q_ai X hS (k := 1) (by decide) hi e1 dL_law_689 dL_law_690 ?_
  have hG0 := hG
  have hGp := hG
  refine W.eq (g2 := F0 m 691 ls [.int v1, .ref (al.2 49 0)]) (by rw [hox]) ?_
  refine q_ciA (q_runVA (t := 49) (i := 0) (As := [.int v1]) (rest := []) C hU hS.1 (c_X11_traveller hG v1) vm_X11_traveller ml_L_70 k_49.1 (hc := rfl) rfl (h1_49 hG) hl.1 rfl rfl (Nat.le_of_ble_eq_true rfl) dL_law_691 rfl rfl ⟨Nat.le_of_ble_eq_true rfl, Nat.le_of_ble_eq_true rfl⟩ ⟨by show cells + 3 ≤ 600000; omega, by show slots + 16 ≤ 7302250; omega⟩) hS hS.1 (fun r1 al1 iv1 rv1 H locs hp1 hU hS _ => ?_)
  obtain ⟨hG1, hE1, hp1⟩ := hp1
  have hRel := hRel.ex hGp hE1 (by decide)
  have hox := (hE1.2.1 49 0 (h1_49 hG)).trans hox
  have hom := (hE1.2.1 0 0 (h1_0 hG)).trans hom
  have hG := hG1
  refine W.widen (k := cells + 3) (n := slots + 16) (by omega) (by omega) ?_
  refine lv_pop hx hb dL_law_694 rfl ?_
  refine lv_aload_n hx hb dL_law_695 rfl (lv_at hl 1 rfl) ?_
  refine lv_aload_n hx hb dL_law_696 rfl (lv_at hl 3 rfl) ?_
  refine lv_iload_n hx hb dL_law_697 rfl (lv_at hl 0 rfl) ?_
  refine lv_iconst (v := 1) hx hb dL_law_698 (by decide) ?_
  refine q_ai X hS (k := 1) (by decide) hi e1 dL_law_699 dL_law_700 ?_
  have hGp := hG
  refine W.eq (g2 := F0 m 701 ls [.int v1, .ref (al1.2 0 0)]) (by rw [hom]) ?_
  refine q_fi (q_runV (t := 0) (i := 0) (As := [.int v1]) (rest := []) C hU (c_X12_traveller hG v1) vm_X12_traveller ml_L_73 k_0.1 (hc := rfl) rfl (h1_0 hG) hl.1 rfl rfl (Nat.le_of_ble_eq_true rfl) dL_law_701 rfl rfl ⟨Nat.le_of_ble_eq_true rfl, Nat.le_of_ble_eq_true rfl⟩ ⟨by show (cells + 3) + 0 ≤ 600000; omega, by show (slots + 16) + 0 ≤ 7302250; omega⟩) hS (fun r2 iv2 rv2 H locs hG f2 g2 hp2 hU hS => ?_)
  have hRel := hRel.fr hGp f2 g2 (by decide)
  refine lv_pop hx hb dL_law_704 rfl ?_
  refine lv_goto (tgt := 1475) hx hb dL_law_705 (by decide) ?_
  exact kk _ _ _ _ _ ⟨hG, hox, hom, hRel⟩ hU hS
set_option maxHeartbeats 4000000 in
set_option maxRecDepth 100000 in
theorem law_14 {p : Program} {l : Launch} {e : Env} {s : State} {m : MethodId} {below : List Frame} {meth : Method} {c : Code} {b L : Nat} {xs : Nat → Int32} {D : va_G} {cA : FieldType → ClassId} {ls : Array Slot} {Q : State → Prop} {H : Heap} {locs : List Loc} {cells slots : Nat} {i : Int32} {ox om : Nat} {al : Al} {iv : Iv} {rv : Rv} (X : LX p s m c b L xs D cA) (hl : lv_has ls 4 [(3, .int i), (2, .ref om), (1, .ref ox), (0, .ref b)]) (hi : 0 ≤ i.toInt ∧ i.toInt + 6 < L) (hQ : LSt ox om al iv rv) (hU : UW D cA s.heap.size al iv rv H) (hS : va_S (Aq s.heap.size) s.heap H locs) (hc : cells + 3 ≤ 600000 ∧ slots + 16 ≤ 7302250)
    (kk : ∀ (al' : Al) (iv' : Iv) (rv' : Rv) (H' : Heap) (locs' : List Loc), LSt ox om al' iv' rv' → UW D cA s.heap.size al' iv' rv' H' → va_S (Aq s.heap.size) s.heap H' locs' → W p l e room_1 s m #[Value.ref b] below meth c H' locs' (cells + 3) (slots + 16) Q (F0 m 1475 ls [])) : W p l e room_1 s m #[Value.ref b] below meth c H locs cells slots Q (F0 m 708 ls []) := by
  obtain ⟨hG, hox, hom, hRel⟩ := hQ
  have C := X.1
  have hx := C.1.1
  have hb := C.1.2.1
  obtain ⟨v1, e1⟩ : ∃ z, xs (i + 1).toNatClampNeg = z := ⟨_, rfl⟩
  obtain ⟨v2, e2⟩ : ∃ z, xs (i + 2).toNatClampNeg = z := ⟨_, rfl⟩
  refine lv_aload_n hx hb dL_law_708 rfl (lv_at hl 2 rfl) ?_
  refine lv_aload_n hx hb dL_law_709 rfl (lv_at hl 3 rfl) ?_
  refine lv_iload_n hx hb dL_law_710 rfl (lv_at hl 0 rfl) ?_
  refine lv_iconst (v := 1) hx hb dL_law_711 (by decide) ?_
  refine q_ai X hS (k := 1) (by decide) hi e1 dL_law_712 dL_law_713 ?_
  refine lv_aload_n hx hb dL_law_714 rfl (lv_at hl 3 rfl) ?_
  refine lv_iload_n hx hb dL_law_715 rfl (lv_at hl 0 rfl) ?_
  refine lv_iconst (v := 2) hx hb dL_law_716 (by decide) ?_
  refine q_ai X hS (k := 2) (by decide) hi e2 dL_law_717 dL_law_718 ?_
  have hG0 := hG
  have hGp := hG
  refine W.eq (g2 := F0 m 719 ls [.int v2, .int v1, .ref (al.2 49 0)]) (by rw [hox]) ?_
  refine q_fi (q_runV (t := 49) (i := 0) (As := [.int v1, .int v2]) (rest := []) C hU (c_X11_then hG v1 v2) vm_X11_then ml_L_74 k_49.1 (hc := rfl) rfl (h1_49 hG) hl.1 rfl rfl (Nat.le_of_ble_eq_true rfl) dL_law_719 rfl rfl ⟨Nat.le_of_ble_eq_true rfl, Nat.le_of_ble_eq_true rfl⟩ ⟨by show cells + 0 ≤ 600000; omega, by show slots + 0 ≤ 7302250; omega⟩) hS (fun r1 iv1 rv1 H locs hG f1 g1 hp1 hU hS => ?_)
  have hRel := hRel.fr hGp f1 g1 (by decide)
  refine lv_pop hx hb dL_law_722 rfl ?_
  refine lv_aload_n hx hb dL_law_723 rfl (lv_at hl 1 rfl) ?_
  refine lv_aload_n hx hb dL_law_724 rfl (lv_at hl 3 rfl) ?_
  refine lv_iload_n hx hb dL_law_725 rfl (lv_at hl 0 rfl) ?_
  refine lv_iconst (v := 1) hx hb dL_law_726 (by decide) ?_
  refine q_ai X hS (k := 1) (by decide) hi e1 dL_law_727 dL_law_728 ?_
  refine lv_aload_n hx hb dL_law_729 rfl (lv_at hl 3 rfl) ?_
  refine lv_iload_n hx hb dL_law_730 rfl (lv_at hl 0 rfl) ?_
  refine lv_iconst (v := 2) hx hb dL_law_731 (by decide) ?_
  refine q_ai X hS (k := 2) (by decide) hi e2 dL_law_732 dL_law_733 ?_
  have hGp := hG
  refine W.eq (g2 := F0 m 734 ls [.int v2, .int v1, .ref (al.2 0 0)]) (by rw [hom]) ?_
  refine q_fi (q_runV (t := 0) (i := 0) (As := [.int v1, .int v2]) (rest := []) C hU (c_X12_then hG v1 v2) vm_X12_then ml_L_77 k_0.1 (hc := rfl) rfl (h1_0 hG) hl.1 rfl rfl (Nat.le_of_ble_eq_true rfl) dL_law_734 rfl rfl ⟨Nat.le_of_ble_eq_true rfl, Nat.le_of_ble_eq_true rfl⟩ ⟨by show cells + 0 ≤ 600000; omega, by show slots + 0 ≤ 7302250; omega⟩) hS (fun r2 iv2 rv2 H locs hG f2 g2 hp2 hU hS => ?_)
  have hRel := hRel.fr hGp f2 g2 (by decide)
  refine lv_pop hx hb dL_law_737 rfl ?_
  refine lv_goto (tgt := 1475) hx hb dL_law_738 (by decide) ?_
  refine W.widen (k := cells + 3) (n := slots + 16) (by omega) (by omega) ?_
  exact kk _ _ _ _ _ ⟨hG, hox, hom, hRel⟩ hU hS
set_option maxHeartbeats 4000000 in
set_option maxRecDepth 100000 in
theorem law_15 {p : Program} {l : Launch} {e : Env} {s : State} {m : MethodId} {below : List Frame} {meth : Method} {c : Code} {b L : Nat} {xs : Nat → Int32} {D : va_G} {cA : FieldType → ClassId} {ls : Array Slot} {Q : State → Prop} {H : Heap} {locs : List Loc} {cells slots : Nat} {i : Int32} {ox om : Nat} {al : Al} {iv : Iv} {rv : Rv} (X : LX p s m c b L xs D cA) (hl : lv_has ls 4 [(3, .int i), (2, .ref om), (1, .ref ox), (0, .ref b)]) (hi : 0 ≤ i.toInt ∧ i.toInt + 6 < L) (hQ : LSt ox om al iv rv) (hU : UW D cA s.heap.size al iv rv H) (hS : va_S (Aq s.heap.size) s.heap H locs) (hc : cells + 3 ≤ 600000 ∧ slots + 16 ≤ 7302250)
    (kk : ∀ (al' : Al) (iv' : Iv) (rv' : Rv) (H' : Heap) (locs' : List Loc), LSt ox om al' iv' rv' → UW D cA s.heap.size al' iv' rv' H' → va_S (Aq s.heap.size) s.heap H' locs' → W p l e room_1 s m #[Value.ref b] below meth c H' locs' (cells + 3) (slots + 16) Q (F0 m 1475 ls [])) : W p l e room_1 s m #[Value.ref b] below meth c H locs cells slots Q (F0 m 741 ls []) := by
  obtain ⟨hG, hox, hom, hRel⟩ := hQ
  have C := X.1
  have hx := C.1.1
  have hb := C.1.2.1
  obtain ⟨v1, e1⟩ : ∃ z, xs (i + 1).toNatClampNeg = z := ⟨_, rfl⟩
  refine lv_aload_n hx hb dL_law_741 rfl (lv_at hl 2 rfl) ?_
  refine lv_aload_n hx hb dL_law_742 rfl (lv_at hl 3 rfl) ?_
  refine lv_iload_n hx hb dL_law_743 rfl (lv_at hl 0 rfl) ?_
  refine lv_iconst (v := 1) hx hb dL_law_744 (by decide) ?_
  refine q_ai X hS (k := 1) (by decide) hi e1 dL_law_745 dL_law_746 ?_
  have hG0 := hG
  have hGp := hG
  refine W.eq (g2 := F0 m 747 ls [.int v1, .ref (al.2 49 0)]) (by rw [hox]) ?_
  refine q_fi (q_runV (t := 49) (i := 0) (As := [.int v1]) (rest := []) C hU (c_X11_missed hG v1) vm_X11_missed ml_L_78 k_49.1 (hc := rfl) rfl (h1_49 hG) hl.1 rfl rfl (Nat.le_of_ble_eq_true rfl) dL_law_747 rfl rfl ⟨Nat.le_of_ble_eq_true rfl, Nat.le_of_ble_eq_true rfl⟩ ⟨by show cells + 0 ≤ 600000; omega, by show slots + 0 ≤ 7302250; omega⟩) hS (fun r1 iv1 rv1 H locs hG f1 g1 hp1 hU hS => ?_)
  have hRel := hRel.fr hGp f1 g1 (by decide)
  refine lv_pop hx hb dL_law_750 rfl ?_
  refine lv_aload_n hx hb dL_law_751 rfl (lv_at hl 1 rfl) ?_
  refine lv_aload_n hx hb dL_law_752 rfl (lv_at hl 3 rfl) ?_
  refine lv_iload_n hx hb dL_law_753 rfl (lv_at hl 0 rfl) ?_
  refine lv_iconst (v := 1) hx hb dL_law_754 (by decide) ?_
  refine q_ai X hS (k := 1) (by decide) hi e1 dL_law_755 dL_law_756 ?_
  have hGp := hG
  refine W.eq (g2 := F0 m 757 ls [.int v1, .ref (al.2 0 0)]) (by rw [hom]) ?_
  refine q_fi (q_runV (t := 0) (i := 0) (As := [.int v1]) (rest := []) C hU (c_X12_missed hG v1) vm_X12_missed ml_L_81 k_0.1 (hc := rfl) rfl (h1_0 hG) hl.1 rfl rfl (Nat.le_of_ble_eq_true rfl) dL_law_757 rfl rfl ⟨Nat.le_of_ble_eq_true rfl, Nat.le_of_ble_eq_true rfl⟩ ⟨by show cells + 0 ≤ 600000; omega, by show slots + 0 ≤ 7302250; omega⟩) hS (fun r2 iv2 rv2 H locs hG f2 g2 hp2 hU hS => ?_)
  have hRel := hRel.fr hGp f2 g2 (by decide)
  refine lv_pop hx hb dL_law_760 rfl ?_
  refine lv_goto (tgt := 1475) hx hb dL_law_761 (by decide) ?_
  refine W.widen (k := cells + 3) (n := slots + 16) (by omega) (by omega) ?_
  exact kk _ _ _ _ _ ⟨hG, hox, hom, hRel⟩ hU hS
set_option maxHeartbeats 4000000 in
set_option maxRecDepth 100000 in
theorem law_16 {p : Program} {l : Launch} {e : Env} {s : State} {m : MethodId} {below : List Frame} {meth : Method} {c : Code} {b L : Nat} {xs : Nat → Int32} {D : va_G} {cA : FieldType → ClassId} {ls : Array Slot} {Q : State → Prop} {H : Heap} {locs : List Loc} {cells slots : Nat} {i : Int32} {ox om : Nat} {al : Al} {iv : Iv} {rv : Rv} (X : LX p s m c b L xs D cA) (hl : lv_has ls 4 [(3, .int i), (2, .ref om), (1, .ref ox), (0, .ref b)]) (hi : 0 ≤ i.toInt ∧ i.toInt + 6 < L) (hQ : LSt ox om al iv rv) (hU : UW D cA s.heap.size al iv rv H) (hS : va_S (Aq s.heap.size) s.heap H locs) (hc : cells + 3 ≤ 600000 ∧ slots + 16 ≤ 7302250)
    (kk : ∀ (al' : Al) (iv' : Iv) (rv' : Rv) (H' : Heap) (locs' : List Loc), LSt ox om al' iv' rv' → UW D cA s.heap.size al' iv' rv' H' → va_S (Aq s.heap.size) s.heap H' locs' → W p l e room_1 s m #[Value.ref b] below meth c H' locs' (cells + 3) (slots + 16) Q (F0 m 1475 ls [])) : W p l e room_1 s m #[Value.ref b] below meth c H locs cells slots Q (F0 m 764 ls []) := by
  obtain ⟨hG, hox, hom, hRel⟩ := hQ
  have C := X.1
  have hx := C.1.1
  have hb := C.1.2.1
  obtain ⟨v1, e1⟩ : ∃ z, xs (i + 1).toNatClampNeg = z := ⟨_, rfl⟩
  refine lv_aload_n hx hb dL_law_764 rfl (lv_at hl 2 rfl) ?_
  refine lv_aload_n hx hb dL_law_765 rfl (lv_at hl 3 rfl) ?_
  refine lv_iload_n hx hb dL_law_766 rfl (lv_at hl 0 rfl) ?_
  refine lv_iconst (v := 1) hx hb dL_law_767 (by decide) ?_
  refine q_ai X hS (k := 1) (by decide) hi e1 dL_law_768 dL_law_769 ?_
  have hG0 := hG
  have hGp := hG
  refine W.eq (g2 := F0 m 770 ls [.int v1, .ref (al.2 49 0)]) (by rw [hox]) ?_
  refine q_fi (q_runV (t := 49) (i := 0) (As := [.int v1]) (rest := []) C hU (c_X11_soonest hG v1) vm_X11_soonest ml_L_82 k_49.1 (hc := rfl) rfl (h1_49 hG) hl.1 rfl rfl (Nat.le_of_ble_eq_true rfl) dL_law_770 rfl rfl ⟨Nat.le_of_ble_eq_true rfl, Nat.le_of_ble_eq_true rfl⟩ ⟨by show cells + 0 ≤ 600000; omega, by show slots + 0 ≤ 7302250; omega⟩) hS (fun r1 iv1 rv1 H locs hG f1 g1 hp1 hU hS => ?_)
  have hRel := hRel.fr hGp f1 g1 (by decide)
  refine lv_pop hx hb dL_law_773 rfl ?_
  refine lv_aload_n hx hb dL_law_774 rfl (lv_at hl 1 rfl) ?_
  refine lv_aload_n hx hb dL_law_775 rfl (lv_at hl 3 rfl) ?_
  refine lv_iload_n hx hb dL_law_776 rfl (lv_at hl 0 rfl) ?_
  refine lv_iconst (v := 1) hx hb dL_law_777 (by decide) ?_
  refine q_ai X hS (k := 1) (by decide) hi e1 dL_law_778 dL_law_779 ?_
  have hGp := hG
  refine W.eq (g2 := F0 m 780 ls [.int v1, .ref (al.2 0 0)]) (by rw [hom]) ?_
  refine q_fi (q_runV (t := 0) (i := 0) (As := [.int v1]) (rest := []) C hU (c_X12_soonest hG v1) vm_X12_soonest ml_L_85 k_0.1 (hc := rfl) rfl (h1_0 hG) hl.1 rfl rfl (Nat.le_of_ble_eq_true rfl) dL_law_780 rfl rfl ⟨Nat.le_of_ble_eq_true rfl, Nat.le_of_ble_eq_true rfl⟩ ⟨by show cells + 0 ≤ 600000; omega, by show slots + 0 ≤ 7302250; omega⟩) hS (fun r2 iv2 rv2 H locs hG f2 g2 hp2 hU hS => ?_)
  have hRel := hRel.fr hGp f2 g2 (by decide)
  refine lv_pop hx hb dL_law_783 rfl ?_
  refine lv_goto (tgt := 1475) hx hb dL_law_784 (by decide) ?_
  refine W.widen (k := cells + 3) (n := slots + 16) (by omega) (by omega) ?_
  exact kk _ _ _ _ _ ⟨hG, hox, hom, hRel⟩ hU hS
set_option maxHeartbeats 4000000 in
set_option maxRecDepth 100000 in
theorem law_17 {p : Program} {l : Launch} {e : Env} {s : State} {m : MethodId} {below : List Frame} {meth : Method} {c : Code} {b L : Nat} {xs : Nat → Int32} {D : va_G} {cA : FieldType → ClassId} {ls : Array Slot} {Q : State → Prop} {H : Heap} {locs : List Loc} {cells slots : Nat} {i : Int32} {ox om : Nat} {al : Al} {iv : Iv} {rv : Rv} (X : LX p s m c b L xs D cA) (hl : lv_has ls 4 [(3, .int i), (2, .ref om), (1, .ref ox), (0, .ref b)]) (hi : 0 ≤ i.toInt ∧ i.toInt + 6 < L) (hQ : LSt ox om al iv rv) (hU : UW D cA s.heap.size al iv rv H) (hS : va_S (Aq s.heap.size) s.heap H locs) (hc : cells + 3 ≤ 600000 ∧ slots + 16 ≤ 7302250)
    (kk : ∀ (al' : Al) (iv' : Iv) (rv' : Rv) (H' : Heap) (locs' : List Loc), LSt ox om al' iv' rv' → UW D cA s.heap.size al' iv' rv' H' → va_S (Aq s.heap.size) s.heap H' locs' → W p l e room_1 s m #[Value.ref b] below meth c H' locs' (cells + 3) (slots + 16) Q (F0 m 1475 ls [])) : W p l e room_1 s m #[Value.ref b] below meth c H locs cells slots Q (F0 m 787 ls []) := by
  obtain ⟨hG, hox, hom, hRel⟩ := hQ
  have C := X.1
  have hx := C.1.1
  have hb := C.1.2.1
  obtain ⟨v1, e1⟩ : ∃ z, xs (i + 1).toNatClampNeg = z := ⟨_, rfl⟩
  refine lv_aload_n hx hb dL_law_787 rfl (lv_at hl 2 rfl) ?_
  refine lv_aload_n hx hb dL_law_788 rfl (lv_at hl 3 rfl) ?_
  refine lv_iload_n hx hb dL_law_789 rfl (lv_at hl 0 rfl) ?_
  refine lv_iconst (v := 1) hx hb dL_law_790 (by decide) ?_
  refine q_ai X hS (k := 1) (by decide) hi e1 dL_law_791 dL_law_792 ?_
  have hG0 := hG
  have hGp := hG
  refine W.eq (g2 := F0 m 793 ls [.int v1, .ref (al.2 49 0)]) (by rw [hox]) ?_
  refine q_fi (q_runV (t := 49) (i := 0) (As := [.int v1]) (rest := []) C hU (c_X11_hours hG v1) vm_X11_hours ml_L_86 k_49.1 (hc := rfl) rfl (h1_49 hG) hl.1 rfl rfl (Nat.le_of_ble_eq_true rfl) dL_law_793 rfl rfl ⟨Nat.le_of_ble_eq_true rfl, Nat.le_of_ble_eq_true rfl⟩ ⟨by show cells + 0 ≤ 600000; omega, by show slots + 0 ≤ 7302250; omega⟩) hS (fun r1 iv1 rv1 H locs hG f1 g1 hp1 hU hS => ?_)
  have hRel := hRel.fr hGp f1 g1 (by decide)
  refine lv_pop hx hb dL_law_796 rfl ?_
  refine lv_aload_n hx hb dL_law_797 rfl (lv_at hl 1 rfl) ?_
  refine lv_aload_n hx hb dL_law_798 rfl (lv_at hl 3 rfl) ?_
  refine lv_iload_n hx hb dL_law_799 rfl (lv_at hl 0 rfl) ?_
  refine lv_iconst (v := 1) hx hb dL_law_800 (by decide) ?_
  refine q_ai X hS (k := 1) (by decide) hi e1 dL_law_801 dL_law_802 ?_
  have hGp := hG
  refine W.eq (g2 := F0 m 803 ls [.int v1, .ref (al.2 0 0)]) (by rw [hom]) ?_
  refine q_fi (q_runV (t := 0) (i := 0) (As := [.int v1]) (rest := []) C hU (c_X12_hours hG v1) vm_X12_hours ml_L_89 k_0.1 (hc := rfl) rfl (h1_0 hG) hl.1 rfl rfl (Nat.le_of_ble_eq_true rfl) dL_law_803 rfl rfl ⟨Nat.le_of_ble_eq_true rfl, Nat.le_of_ble_eq_true rfl⟩ ⟨by show cells + 0 ≤ 600000; omega, by show slots + 0 ≤ 7302250; omega⟩) hS (fun r2 iv2 rv2 H locs hG f2 g2 hp2 hU hS => ?_)
  have hRel := hRel.fr hGp f2 g2 (by decide)
  refine lv_pop hx hb dL_law_806 rfl ?_
  refine lv_goto (tgt := 1475) hx hb dL_law_807 (by decide) ?_
  refine W.widen (k := cells + 3) (n := slots + 16) (by omega) (by omega) ?_
  exact kk _ _ _ _ _ ⟨hG, hox, hom, hRel⟩ hU hS
end
section
set_option maxHeartbeats 4000000 in
set_option maxRecDepth 100000 in
theorem law_18 {p : Program} {l : Launch} {e : Env} {s : State} {m : MethodId} {below : List Frame} {meth : Method} {c : Code} {b L : Nat} {xs : Nat → Int32} {D : va_G} {cA : FieldType → ClassId} {ls : Array Slot} {Q : State → Prop} {H : Heap} {locs : List Loc} {cells slots : Nat} {i : Int32} {ox om : Nat} {al : Al} {iv : Iv} {rv : Rv} (X : LX p s m c b L xs D cA) (hl : lv_has ls 4 [(3, .int i), (2, .ref om), (1, .ref ox), (0, .ref b)]) (hi : 0 ≤ i.toInt ∧ i.toInt + 6 < L) (hQ : LSt ox om al iv rv) (hU : UW D cA s.heap.size al iv rv H) (hS : va_S (Aq s.heap.size) s.heap H locs) (hc : cells + 3 ≤ 600000 ∧ slots + 16 ≤ 7302250)
    (kk : ∀ (al' : Al) (iv' : Iv) (rv' : Rv) (H' : Heap) (locs' : List Loc), LSt ox om al' iv' rv' → UW D cA s.heap.size al' iv' rv' H' → va_S (Aq s.heap.size) s.heap H' locs' → W p l e room_1 s m #[Value.ref b] below meth c H' locs' (cells + 3) (slots + 16) Q (F0 m 1475 ls [])) : W p l e room_1 s m #[Value.ref b] below meth c H locs cells slots Q (F0 m 810 ls []) := by
  obtain ⟨hG, hox, hom, hRel⟩ := hQ
  have C := X.1
  have hx := C.1.1
  have hb := C.1.2.1
  obtain ⟨v1, e1⟩ : ∃ z, xs (i + 1).toNatClampNeg = z := ⟨_, rfl⟩
  refine lv_aload_n hx hb dL_law_810 rfl (lv_at hl 2 rfl) ?_
  refine lv_aload_n hx hb dL_law_811 rfl (lv_at hl 3 rfl) ?_
  refine lv_iload_n hx hb dL_law_812 rfl (lv_at hl 0 rfl) ?_
  refine lv_iconst (v := 1) hx hb dL_law_813 (by decide) ?_
  refine q_ai X hS (k := 1) (by decide) hi e1 dL_law_814 dL_law_815 ?_
  have hG0 := hG
  have hGp := hG
  refine W.eq (g2 := F0 m 816 ls [.int v1, .ref (al.2 49 0)]) (by rw [hox]) ?_
  refine q_fi (q_runV (t := 49) (i := 0) (As := [.int v1]) (rest := []) C hU (c_X11_blame hG v1) vm_X11_blame ml_L_90 k_49.1 (hc := rfl) rfl (h1_49 hG) hl.1 rfl rfl (Nat.le_of_ble_eq_true rfl) dL_law_816 rfl rfl ⟨Nat.le_of_ble_eq_true rfl, Nat.le_of_ble_eq_true rfl⟩ ⟨by show cells + 0 ≤ 600000; omega, by show slots + 0 ≤ 7302250; omega⟩) hS (fun r1 iv1 rv1 H locs hG f1 g1 hp1 hU hS => ?_)
  have hRel := hRel.fr hGp f1 g1 (by decide)
  refine lv_pop hx hb dL_law_819 rfl ?_
  refine lv_aload_n hx hb dL_law_820 rfl (lv_at hl 1 rfl) ?_
  refine lv_aload_n hx hb dL_law_821 rfl (lv_at hl 3 rfl) ?_
  refine lv_iload_n hx hb dL_law_822 rfl (lv_at hl 0 rfl) ?_
  refine lv_iconst (v := 1) hx hb dL_law_823 (by decide) ?_
  refine q_ai X hS (k := 1) (by decide) hi e1 dL_law_824 dL_law_825 ?_
  have hGp := hG
  refine W.eq (g2 := F0 m 826 ls [.int v1, .ref (al.2 0 0)]) (by rw [hom]) ?_
  refine q_fi (q_runV (t := 0) (i := 0) (As := [.int v1]) (rest := []) C hU (c_X12_blame hG v1) vm_X12_blame ml_L_93 k_0.1 (hc := rfl) rfl (h1_0 hG) hl.1 rfl rfl (Nat.le_of_ble_eq_true rfl) dL_law_826 rfl rfl ⟨Nat.le_of_ble_eq_true rfl, Nat.le_of_ble_eq_true rfl⟩ ⟨by show cells + 0 ≤ 600000; omega, by show slots + 0 ≤ 7302250; omega⟩) hS (fun r2 iv2 rv2 H locs hG f2 g2 hp2 hU hS => ?_)
  have hRel := hRel.fr hGp f2 g2 (by decide)
  refine lv_pop hx hb dL_law_829 rfl ?_
  refine lv_goto (tgt := 1475) hx hb dL_law_830 (by decide) ?_
  refine W.widen (k := cells + 3) (n := slots + 16) (by omega) (by omega) ?_
  exact kk _ _ _ _ _ ⟨hG, hox, hom, hRel⟩ hU hS
set_option maxHeartbeats 4000000 in
set_option maxRecDepth 100000 in
theorem law_19 {p : Program} {l : Launch} {e : Env} {s : State} {m : MethodId} {below : List Frame} {meth : Method} {c : Code} {b L : Nat} {xs : Nat → Int32} {D : va_G} {cA : FieldType → ClassId} {ls : Array Slot} {Q : State → Prop} {H : Heap} {locs : List Loc} {cells slots : Nat} {i : Int32} {ox om : Nat} {al : Al} {iv : Iv} {rv : Rv} (X : LX p s m c b L xs D cA) (hl : lv_has ls 4 [(3, .int i), (2, .ref om), (1, .ref ox), (0, .ref b)]) (hi : 0 ≤ i.toInt ∧ i.toInt + 6 < L) (hQ : LSt ox om al iv rv) (hU : UW D cA s.heap.size al iv rv H) (hS : va_S (Aq s.heap.size) s.heap H locs) (hc : cells + 3 ≤ 600000 ∧ slots + 16 ≤ 7302250)
    (kk : ∀ (al' : Al) (iv' : Iv) (rv' : Rv) (H' : Heap) (locs' : List Loc), LSt ox om al' iv' rv' → UW D cA s.heap.size al' iv' rv' H' → va_S (Aq s.heap.size) s.heap H' locs' → W p l e room_1 s m #[Value.ref b] below meth c H' locs' (cells + 3) (slots + 16) Q (F0 m 1475 ls [])) : W p l e room_1 s m #[Value.ref b] below meth c H locs cells slots Q (F0 m 833 ls []) := by
  obtain ⟨hG, hox, hom, hRel⟩ := hQ
  have C := X.1
  have hx := C.1.1
  have hb := C.1.2.1
  obtain ⟨v1, e1⟩ : ∃ z, xs (i + 1).toNatClampNeg = z := ⟨_, rfl⟩
  obtain ⟨v2, e2⟩ : ∃ z, xs (i + 2).toNatClampNeg = z := ⟨_, rfl⟩
  obtain ⟨v3, e3⟩ : ∃ z, xs (i + 3).toNatClampNeg = z := ⟨_, rfl⟩
  obtain ⟨v4, e4⟩ : ∃ z, xs (i + 4).toNatClampNeg = z := ⟨_, rfl⟩
  obtain ⟨v5, e5⟩ : ∃ z, xs (i + 5).toNatClampNeg = z := ⟨_, rfl⟩
  refine lv_aload_n hx hb dL_law_833 rfl (lv_at hl 2 rfl) ?_
  refine lv_aload_n hx hb dL_law_834 rfl (lv_at hl 3 rfl) ?_
  refine lv_iload_n hx hb dL_law_835 rfl (lv_at hl 0 rfl) ?_
  refine lv_iconst (v := 1) hx hb dL_law_836 (by decide) ?_
  refine q_ai X hS (k := 1) (by decide) hi e1 dL_law_837 dL_law_838 ?_
  refine lv_aload_n hx hb dL_law_839 rfl (lv_at hl 3 rfl) ?_
  refine lv_iload_n hx hb dL_law_840 rfl (lv_at hl 0 rfl) ?_
  refine lv_iconst (v := 2) hx hb dL_law_841 (by decide) ?_
  refine q_ai X hS (k := 2) (by decide) hi e2 dL_law_842 dL_law_843 ?_
  refine lv_aload_n hx hb dL_law_844 rfl (lv_at hl 3 rfl) ?_
  refine lv_iload_n hx hb dL_law_845 rfl (lv_at hl 0 rfl) ?_
  refine lv_iconst (v := 3) hx hb dL_law_846 (by decide) ?_
  refine q_ai X hS (k := 3) (by decide) hi e3 dL_law_847 dL_law_848 ?_
  refine lv_aload_n hx hb dL_law_849 rfl (lv_at hl 3 rfl) ?_
  refine lv_iload_n hx hb dL_law_850 rfl (lv_at hl 0 rfl) ?_
  refine lv_iconst (v := 4) hx hb dL_law_851 (by decide) ?_
  refine q_ai X hS (k := 4) (by decide) hi e4 dL_law_852 dL_law_853 ?_
  refine lv_aload_n hx hb dL_law_854 rfl (lv_at hl 3 rfl) ?_
  refine lv_iload_n hx hb dL_law_855 rfl (lv_at hl 0 rfl) ?_
  refine lv_iconst (v := 5) hx hb dL_law_856 (by decide) ?_
  refine q_ai X hS (k := 5) (by decide) hi e5 dL_law_857 dL_law_858 ?_
  have hG0 := hG
  have hGp := hG
  refine W.eq (g2 := F0 m 859 ls [.int v5, .int v4, .int v3, .int v2, .int v1, .ref (al.2 49 0)]) (by rw [hox]) ?_
  refine q_fi (q_runV (t := 49) (i := 0) (As := [.int v1, .int v2, .int v3, .int v4, .int v5]) (rest := []) C hU (c_X11_law hG v1 v2 v3 v4 v5) vm_X11_law ml_L_94 k_49.1 (hc := rfl) rfl (h1_49 hG) hl.1 rfl rfl (Nat.le_of_ble_eq_true rfl) dL_law_859 rfl rfl ⟨Nat.le_of_ble_eq_true rfl, Nat.le_of_ble_eq_true rfl⟩ ⟨by show cells + 0 ≤ 600000; omega, by show slots + 0 ≤ 7302250; omega⟩) hS (fun r1 iv1 rv1 H locs hG f1 g1 hp1 hU hS => ?_)
  have hRel := hRel.fr hGp f1 g1 (by decide)
  refine lv_pop hx hb dL_law_862 rfl ?_
  refine lv_aload_n hx hb dL_law_863 rfl (lv_at hl 1 rfl) ?_
  refine lv_aload_n hx hb dL_law_864 rfl (lv_at hl 3 rfl) ?_
  refine lv_iload_n hx hb dL_law_865 rfl (lv_at hl 0 rfl) ?_
  refine lv_iconst (v := 1) hx hb dL_law_866 (by decide) ?_
  refine q_ai X hS (k := 1) (by decide) hi e1 dL_law_867 dL_law_868 ?_
  refine lv_aload_n hx hb dL_law_869 rfl (lv_at hl 3 rfl) ?_
  refine lv_iload_n hx hb dL_law_870 rfl (lv_at hl 0 rfl) ?_
  refine lv_iconst (v := 2) hx hb dL_law_871 (by decide) ?_
  refine q_ai X hS (k := 2) (by decide) hi e2 dL_law_872 dL_law_873 ?_
  refine lv_aload_n hx hb dL_law_874 rfl (lv_at hl 3 rfl) ?_
  refine lv_iload_n hx hb dL_law_875 rfl (lv_at hl 0 rfl) ?_
  refine lv_iconst (v := 3) hx hb dL_law_876 (by decide) ?_
  refine q_ai X hS (k := 3) (by decide) hi e3 dL_law_877 dL_law_878 ?_
  refine lv_aload_n hx hb dL_law_879 rfl (lv_at hl 3 rfl) ?_
  refine lv_iload_n hx hb dL_law_880 rfl (lv_at hl 0 rfl) ?_
  refine lv_iconst (v := 4) hx hb dL_law_881 (by decide) ?_
  refine q_ai X hS (k := 4) (by decide) hi e4 dL_law_882 dL_law_883 ?_
  refine lv_aload_n hx hb dL_law_884 rfl (lv_at hl 3 rfl) ?_
  refine lv_iload_n hx hb dL_law_885 rfl (lv_at hl 0 rfl) ?_
  refine lv_iconst (v := 5) hx hb dL_law_886 (by decide) ?_
  refine q_ai X hS (k := 5) (by decide) hi e5 dL_law_887 dL_law_888 ?_
  have hGp := hG
  refine W.eq (g2 := F0 m 889 ls [.int v5, .int v4, .int v3, .int v2, .int v1, .ref (al.2 0 0)]) (by rw [hom]) ?_
  refine q_fi (q_runV (t := 0) (i := 0) (As := [.int v1, .int v2, .int v3, .int v4, .int v5]) (rest := []) C hU (c_X12_law hG v1 v2 v3 v4 v5) vm_X12_law ml_L_98 k_0.1 (hc := rfl) rfl (h1_0 hG) hl.1 rfl rfl (Nat.le_of_ble_eq_true rfl) dL_law_889 rfl rfl ⟨Nat.le_of_ble_eq_true rfl, Nat.le_of_ble_eq_true rfl⟩ ⟨by show cells + 0 ≤ 600000; omega, by show slots + 0 ≤ 7302250; omega⟩) hS (fun r2 iv2 rv2 H locs hG f2 g2 hp2 hU hS => ?_)
  have hRel := hRel.fr hGp f2 g2 (by decide)
  refine lv_pop hx hb dL_law_892 rfl ?_
  refine lv_goto (tgt := 1475) hx hb dL_law_893 (by decide) ?_
  refine W.widen (k := cells + 3) (n := slots + 16) (by omega) (by omega) ?_
  exact kk _ _ _ _ _ ⟨hG, hox, hom, hRel⟩ hU hS
set_option maxHeartbeats 4000000 in
set_option maxRecDepth 100000 in
theorem law_20 {p : Program} {l : Launch} {e : Env} {s : State} {m : MethodId} {below : List Frame} {meth : Method} {c : Code} {b L : Nat} {xs : Nat → Int32} {D : va_G} {cA : FieldType → ClassId} {ls : Array Slot} {Q : State → Prop} {H : Heap} {locs : List Loc} {cells slots : Nat} {i : Int32} {ox om : Nat} {al : Al} {iv : Iv} {rv : Rv} (X : LX p s m c b L xs D cA) (hl : lv_has ls 4 [(3, .int i), (2, .ref om), (1, .ref ox), (0, .ref b)]) (hi : 0 ≤ i.toInt ∧ i.toInt + 6 < L) (hQ : LSt ox om al iv rv) (hU : UW D cA s.heap.size al iv rv H) (hS : va_S (Aq s.heap.size) s.heap H locs) (hc : cells + 3 ≤ 600000 ∧ slots + 16 ≤ 7302250)
    (kk : ∀ (al' : Al) (iv' : Iv) (rv' : Rv) (H' : Heap) (locs' : List Loc), LSt ox om al' iv' rv' → UW D cA s.heap.size al' iv' rv' H' → va_S (Aq s.heap.size) s.heap H' locs' → W p l e room_1 s m #[Value.ref b] below meth c H' locs' (cells + 3) (slots + 16) Q (F0 m 1475 ls [])) : W p l e room_1 s m #[Value.ref b] below meth c H locs cells slots Q (F0 m 896 ls []) := by
  obtain ⟨hG, hox, hom, hRel⟩ := hQ
  have C := X.1
  have hx := C.1.1
  have hb := C.1.2.1
  obtain ⟨v1, e1⟩ : ∃ z, xs (i + 1).toNatClampNeg = z := ⟨_, rfl⟩
  obtain ⟨v2, e2⟩ : ∃ z, xs (i + 2).toNatClampNeg = z := ⟨_, rfl⟩
  obtain ⟨v3, e3⟩ : ∃ z, xs (i + 3).toNatClampNeg = z := ⟨_, rfl⟩
  obtain ⟨v4, e4⟩ : ∃ z, xs (i + 4).toNatClampNeg = z := ⟨_, rfl⟩
  refine lv_aload_n hx hb dL_law_896 rfl (lv_at hl 2 rfl) ?_
  refine lv_aload_n hx hb dL_law_897 rfl (lv_at hl 3 rfl) ?_
  refine lv_iload_n hx hb dL_law_898 rfl (lv_at hl 0 rfl) ?_
  refine lv_iconst (v := 1) hx hb dL_law_899 (by decide) ?_
  refine q_ai X hS (k := 1) (by decide) hi e1 dL_law_900 dL_law_901 ?_
  refine lv_aload_n hx hb dL_law_902 rfl (lv_at hl 3 rfl) ?_
  refine lv_iload_n hx hb dL_law_903 rfl (lv_at hl 0 rfl) ?_
  refine lv_iconst (v := 2) hx hb dL_law_904 (by decide) ?_
  refine q_ai X hS (k := 2) (by decide) hi e2 dL_law_905 dL_law_906 ?_
  refine lv_aload_n hx hb dL_law_907 rfl (lv_at hl 3 rfl) ?_
  refine lv_iload_n hx hb dL_law_908 rfl (lv_at hl 0 rfl) ?_
  refine lv_iconst (v := 3) hx hb dL_law_909 (by decide) ?_
  refine q_ai X hS (k := 3) (by decide) hi e3 dL_law_910 dL_law_911 ?_
  refine lv_aload_n hx hb dL_law_912 rfl (lv_at hl 3 rfl) ?_
  refine lv_iload_n hx hb dL_law_913 rfl (lv_at hl 0 rfl) ?_
  refine lv_iconst (v := 4) hx hb dL_law_914 (by decide) ?_
  refine q_ai X hS (k := 4) (by decide) hi e4 dL_law_915 dL_law_916 ?_
  have J_925 : ∀ zv4 : Int32, (0 ≤ zv4.toInt ∧ zv4.toInt ≤ 1) → zv4 = bz v4 → W p l e room_1 s m #[Value.ref b] below meth c H locs cells slots Q (F0 m 925 ls [.int zv4, .int v3, .int v2, .int v1, .ref ox]) := by
    intro zv4 rzv4 qzv4
    have hG0 := hG
    have hGp := hG
    refine W.eq (g2 := F0 m 925 ls [.int zv4, .int v3, .int v2, .int v1, .ref (al.2 49 0)]) (by rw [hox]) ?_
    refine q_fi (q_runV (t := 49) (i := 0) (As := [.int v1, .int v2, .int v3, .int zv4]) (rest := []) C hU (c_X11_excuse_y hG v1 v2 v3 zv4 rzv4) vm_X11_excuse ml_L_99 k_49.1 (hc := rfl) rfl (h1_49 hG) hl.1 rfl rfl (Nat.le_of_ble_eq_true rfl) dL_law_925 rfl rfl ⟨Nat.le_of_ble_eq_true rfl, Nat.le_of_ble_eq_true rfl⟩ ⟨by show cells + 0 ≤ 600000; omega, by show slots + 0 ≤ 7302250; omega⟩) hS (fun r1 iv1 rv1 H locs hG f1 g1 hp1 hU hS => ?_)
    refine lv_aload_n hx hb dL_law_928 rfl (lv_at hl 1 rfl) ?_
    refine lv_aload_n hx hb dL_law_929 rfl (lv_at hl 3 rfl) ?_
    refine lv_iload_n hx hb dL_law_930 rfl (lv_at hl 0 rfl) ?_
    refine lv_iconst (v := 1) hx hb dL_law_931 (by decide) ?_
    refine q_ai X hS (k := 1) (by decide) hi e1 dL_law_932 dL_law_933 ?_
    refine lv_aload_n hx hb dL_law_934 rfl (lv_at hl 3 rfl) ?_
    refine lv_iload_n hx hb dL_law_935 rfl (lv_at hl 0 rfl) ?_
    refine lv_iconst (v := 2) hx hb dL_law_936 (by decide) ?_
    refine q_ai X hS (k := 2) (by decide) hi e2 dL_law_937 dL_law_938 ?_
    refine lv_aload_n hx hb dL_law_939 rfl (lv_at hl 3 rfl) ?_
    refine lv_iload_n hx hb dL_law_940 rfl (lv_at hl 0 rfl) ?_
    refine lv_iconst (v := 3) hx hb dL_law_941 (by decide) ?_
    refine q_ai X hS (k := 3) (by decide) hi e3 dL_law_942 dL_law_943 ?_
    refine lv_aload_n hx hb dL_law_944 rfl (lv_at hl 3 rfl) ?_
    refine lv_iload_n hx hb dL_law_945 rfl (lv_at hl 0 rfl) ?_
    refine lv_iconst (v := 4) hx hb dL_law_946 (by decide) ?_
    refine q_ai X hS (k := 4) (by decide) hi e4 dL_law_947 dL_law_948 ?_
    have J_957 : ∀ zv4m : Int32, (0 ≤ zv4m.toInt ∧ zv4m.toInt ≤ 1) → zv4m = bz v4 → W p l e room_1 s m #[Value.ref b] below meth c H locs cells slots Q (F0 m 957 ls [.int zv4m, .int v3, .int v2, .int v1, .ref om, .int r1]) := by
      intro zv4m rzv4m qzv4m
      have hGp := hG
      refine W.eq (g2 := F0 m 957 ls [.int zv4m, .int v3, .int v2, .int v1, .ref (al.2 0 0), .int r1]) (by rw [hom]) ?_
      refine q_fi (q_runV (t := 0) (i := 0) (As := [.int v1, .int v2, .int v3, .int zv4m]) (rest := [.int r1]) C hU (c_X12_excuse_y hG v1 v2 v3 zv4m rzv4m) vm_X12_excuse ml_L_103 k_0.1 (hc := rfl) rfl (h1_0 hG) hl.1 rfl rfl (Nat.le_of_ble_eq_true rfl) dL_law_957 rfl rfl ⟨Nat.le_of_ble_eq_true rfl, Nat.le_of_ble_eq_true rfl⟩ ⟨by show cells + 0 ≤ 600000; omega, by show slots + 0 ≤ 7302250; omega⟩) hS (fun r2 iv2 rv2 H locs hG f2 g2 hp2 hU hS => ?_)
      have zv4m_e : zv4m = zv4 := qzv4m.trans qzv4.symm
      try rw [zv4m_e] at hp2
      have hE := REL.a_excuse hG0 hRel hp1 hp2 (EX.of f1 g1) f2 g2
      have hRel := REL.s_excuse hG0 hRel hp1 hp2 (EX.of f1 g1) f2 g2
      refine b_icmp_eq (tgt := 1475) hx hb dL_law_960 (by decide) (fun c0 => ?_) (fun c0 => absurd (congrArg Int32.toInt hE) c0)
      refine W.widen (k := cells + 3) (n := slots + 16) (by omega) (by omega) ?_
      exact kk _ _ _ _ _ ⟨hG, hox, hom, hRel⟩ hU hS
    refine b_if_eq (tgt := 956) hx hb dL_law_949 (by decide) (fun c0 => ?_) (fun c0 => ?_)
    · refine lv_iconst (v := 0) hx hb dL_law_956 (by decide) ?_
      exact J_957 0 ⟨by decide, by decide⟩ (bz_0 c0)
    · refine lv_iconst (v := 1) hx hb dL_law_952 (by decide) ?_
      refine lv_goto (tgt := 957) hx hb dL_law_953 (by decide) ?_
      exact J_957 1 ⟨by decide, by decide⟩ (bz_1 c0)
  refine b_if_eq (tgt := 924) hx hb dL_law_917 (by decide) (fun c0 => ?_) (fun c0 => ?_)
  · refine lv_iconst (v := 0) hx hb dL_law_924 (by decide) ?_
    exact J_925 0 ⟨by decide, by decide⟩ (bz_0 c0)
  · refine lv_iconst (v := 1) hx hb dL_law_920 (by decide) ?_
    refine lv_goto (tgt := 925) hx hb dL_law_921 (by decide) ?_
    exact J_925 1 ⟨by decide, by decide⟩ (bz_1 c0)
set_option maxHeartbeats 4000000 in
set_option maxRecDepth 100000 in
theorem law_21 {p : Program} {l : Launch} {e : Env} {s : State} {m : MethodId} {below : List Frame} {meth : Method} {c : Code} {b L : Nat} {xs : Nat → Int32} {D : va_G} {cA : FieldType → ClassId} {ls : Array Slot} {Q : State → Prop} {H : Heap} {locs : List Loc} {cells slots : Nat} {i : Int32} {ox om : Nat} {al : Al} {iv : Iv} {rv : Rv} (X : LX p s m c b L xs D cA) (hl : lv_has ls 4 [(3, .int i), (2, .ref om), (1, .ref ox), (0, .ref b)]) (hi : 0 ≤ i.toInt ∧ i.toInt + 6 < L) (hQ : LSt ox om al iv rv) (hU : UW D cA s.heap.size al iv rv H) (hS : va_S (Aq s.heap.size) s.heap H locs) (hc : cells + 3 ≤ 600000 ∧ slots + 16 ≤ 7302250)
    (kk : ∀ (al' : Al) (iv' : Iv) (rv' : Rv) (H' : Heap) (locs' : List Loc), LSt ox om al' iv' rv' → UW D cA s.heap.size al' iv' rv' H' → va_S (Aq s.heap.size) s.heap H' locs' → W p l e room_1 s m #[Value.ref b] below meth c H' locs' (cells + 3) (slots + 16) Q (F0 m 1475 ls [])) : W p l e room_1 s m #[Value.ref b] below meth c H locs cells slots Q (F0 m 965 ls []) := by
  obtain ⟨hG, hox, hom, hRel⟩ := hQ
  have C := X.1
  have hx := C.1.1
  have hb := C.1.2.1
  obtain ⟨v1, e1⟩ : ∃ z, xs (i + 1).toNatClampNeg = z := ⟨_, rfl⟩
  obtain ⟨v2, e2⟩ : ∃ z, xs (i + 2).toNatClampNeg = z := ⟨_, rfl⟩
  obtain ⟨v3, e3⟩ : ∃ z, xs (i + 3).toNatClampNeg = z := ⟨_, rfl⟩
  refine lv_aload_n hx hb dL_law_965 rfl (lv_at hl 2 rfl) ?_
  refine lv_aload_n hx hb dL_law_966 rfl (lv_at hl 3 rfl) ?_
  refine lv_iload_n hx hb dL_law_967 rfl (lv_at hl 0 rfl) ?_
  refine lv_iconst (v := 1) hx hb dL_law_968 (by decide) ?_
  refine q_ai X hS (k := 1) (by decide) hi e1 dL_law_969 dL_law_970 ?_
  refine lv_aload_n hx hb dL_law_971 rfl (lv_at hl 3 rfl) ?_
  refine lv_iload_n hx hb dL_law_972 rfl (lv_at hl 0 rfl) ?_
  refine lv_iconst (v := 2) hx hb dL_law_973 (by decide) ?_
  refine q_ai X hS (k := 2) (by decide) hi e2 dL_law_974 dL_law_975 ?_
  refine lv_aload_n hx hb dL_law_976 rfl (lv_at hl 3 rfl) ?_
  refine lv_iload_n hx hb dL_law_977 rfl (lv_at hl 0 rfl) ?_
  refine lv_iconst (v := 3) hx hb dL_law_978 (by decide) ?_
  refine q_ai X hS (k := 3) (by decide) hi e3 dL_law_979 dL_law_980 ?_
  have hG0 := hG
  have hGp := hG
  refine W.eq (g2 := F0 m 981 ls [.int v3, .int v2, .int v1, .ref (al.2 49 0)]) (by rw [hox]) ?_
  refine q_fi (q_runV (t := 49) (i := 0) (As := [.int v1, .int v2, .int v3]) (rest := []) C hU (c_X11_sum hG v1 v2 v3) vm_X11_sum ml_L_104 k_49.1 (hc := rfl) rfl (h1_49 hG) hl.1 rfl rfl (Nat.le_of_ble_eq_true rfl) dL_law_981 rfl rfl ⟨Nat.le_of_ble_eq_true rfl, Nat.le_of_ble_eq_true rfl⟩ ⟨by show cells + 0 ≤ 600000; omega, by show slots + 0 ≤ 7302250; omega⟩) hS (fun r1 iv1 rv1 H locs hG f1 g1 hp1 hU hS => ?_)
  have hRel := hRel.fr hGp f1 g1 (by decide)
  refine lv_pop hx hb dL_law_984 rfl ?_
  refine lv_aload_n hx hb dL_law_985 rfl (lv_at hl 1 rfl) ?_
  refine lv_aload_n hx hb dL_law_986 rfl (lv_at hl 3 rfl) ?_
  refine lv_iload_n hx hb dL_law_987 rfl (lv_at hl 0 rfl) ?_
  refine lv_iconst (v := 1) hx hb dL_law_988 (by decide) ?_
  refine q_ai X hS (k := 1) (by decide) hi e1 dL_law_989 dL_law_990 ?_
  refine lv_aload_n hx hb dL_law_991 rfl (lv_at hl 3 rfl) ?_
  refine lv_iload_n hx hb dL_law_992 rfl (lv_at hl 0 rfl) ?_
  refine lv_iconst (v := 2) hx hb dL_law_993 (by decide) ?_
  refine q_ai X hS (k := 2) (by decide) hi e2 dL_law_994 dL_law_995 ?_
  refine lv_aload_n hx hb dL_law_996 rfl (lv_at hl 3 rfl) ?_
  refine lv_iload_n hx hb dL_law_997 rfl (lv_at hl 0 rfl) ?_
  refine lv_iconst (v := 3) hx hb dL_law_998 (by decide) ?_
  refine q_ai X hS (k := 3) (by decide) hi e3 dL_law_999 dL_law_1000 ?_
  have hGp := hG
  refine W.eq (g2 := F0 m 1001 ls [.int v3, .int v2, .int v1, .ref (al.2 0 0)]) (by rw [hom]) ?_
  refine q_fi (q_runV (t := 0) (i := 0) (As := [.int v1, .int v2, .int v3]) (rest := []) C hU (c_X12_sum hG v1 v2 v3) vm_X12_sum ml_L_107 k_0.1 (hc := rfl) rfl (h1_0 hG) hl.1 rfl rfl (Nat.le_of_ble_eq_true rfl) dL_law_1001 rfl rfl ⟨Nat.le_of_ble_eq_true rfl, Nat.le_of_ble_eq_true rfl⟩ ⟨by show cells + 0 ≤ 600000; omega, by show slots + 0 ≤ 7302250; omega⟩) hS (fun r2 iv2 rv2 H locs hG f2 g2 hp2 hU hS => ?_)
  have hRel := hRel.fr hGp f2 g2 (by decide)
  refine lv_pop hx hb dL_law_1004 rfl ?_
  refine lv_goto (tgt := 1475) hx hb dL_law_1005 (by decide) ?_
  refine W.widen (k := cells + 3) (n := slots + 16) (by omega) (by omega) ?_
  exact kk _ _ _ _ _ ⟨hG, hox, hom, hRel⟩ hU hS
set_option maxHeartbeats 4000000 in
set_option maxRecDepth 100000 in
theorem law_22 {p : Program} {l : Launch} {e : Env} {s : State} {m : MethodId} {below : List Frame} {meth : Method} {c : Code} {b L : Nat} {xs : Nat → Int32} {D : va_G} {cA : FieldType → ClassId} {ls : Array Slot} {Q : State → Prop} {H : Heap} {locs : List Loc} {cells slots : Nat} {i : Int32} {ox om : Nat} {al : Al} {iv : Iv} {rv : Rv} (X : LX p s m c b L xs D cA) (hl : lv_has ls 4 [(3, .int i), (2, .ref om), (1, .ref ox), (0, .ref b)]) (hi : 0 ≤ i.toInt ∧ i.toInt + 6 < L) (hQ : LSt ox om al iv rv) (hU : UW D cA s.heap.size al iv rv H) (hS : va_S (Aq s.heap.size) s.heap H locs) (hc : cells + 3 ≤ 600000 ∧ slots + 16 ≤ 7302250)
    (kk : ∀ (al' : Al) (iv' : Iv) (rv' : Rv) (H' : Heap) (locs' : List Loc), LSt ox om al' iv' rv' → UW D cA s.heap.size al' iv' rv' H' → va_S (Aq s.heap.size) s.heap H' locs' → W p l e room_1 s m #[Value.ref b] below meth c H' locs' (cells + 3) (slots + 16) Q (F0 m 1475 ls [])) : W p l e room_1 s m #[Value.ref b] below meth c H locs cells slots Q (F0 m 1008 ls []) := by
  obtain ⟨hG, hox, hom, hRel⟩ := hQ
  have C := X.1
  have hx := C.1.1
  have hb := C.1.2.1
  obtain ⟨v1, e1⟩ : ∃ z, xs (i + 1).toNatClampNeg = z := ⟨_, rfl⟩
  obtain ⟨v2, e2⟩ : ∃ z, xs (i + 2).toNatClampNeg = z := ⟨_, rfl⟩
  refine lv_aload_n hx hb dL_law_1008 rfl (lv_at hl 2 rfl) ?_
  refine lv_aload_n hx hb dL_law_1009 rfl (lv_at hl 3 rfl) ?_
  refine lv_iload_n hx hb dL_law_1010 rfl (lv_at hl 0 rfl) ?_
  refine lv_iconst (v := 1) hx hb dL_law_1011 (by decide) ?_
  refine q_ai X hS (k := 1) (by decide) hi e1 dL_law_1012 dL_law_1013 ?_
  refine lv_aload_n hx hb dL_law_1014 rfl (lv_at hl 3 rfl) ?_
  refine lv_iload_n hx hb dL_law_1015 rfl (lv_at hl 0 rfl) ?_
  refine lv_iconst (v := 2) hx hb dL_law_1016 (by decide) ?_
  refine q_ai X hS (k := 2) (by decide) hi e2 dL_law_1017 dL_law_1018 ?_
  have hG0 := hG
  have hGp := hG
  refine W.eq (g2 := F0 m 1019 ls [.int v2, .int v1, .ref (al.2 49 0)]) (by rw [hox]) ?_
  refine q_fi (q_runV (t := 49) (i := 0) (As := [.int v1, .int v2]) (rest := []) C hU (c_X11_bar hG v1 v2) vm_X11_bar ml_L_108 k_49.1 (hc := rfl) rfl (h1_49 hG) hl.1 rfl rfl (Nat.le_of_ble_eq_true rfl) dL_law_1019 rfl rfl ⟨Nat.le_of_ble_eq_true rfl, Nat.le_of_ble_eq_true rfl⟩ ⟨by show cells + 0 ≤ 600000; omega, by show slots + 0 ≤ 7302250; omega⟩) hS (fun r1 iv1 rv1 H locs hG f1 g1 hp1 hU hS => ?_)
  have hRel := hRel.fr hGp f1 g1 (by decide)
  refine lv_pop hx hb dL_law_1022 rfl ?_
  refine lv_aload_n hx hb dL_law_1023 rfl (lv_at hl 1 rfl) ?_
  refine lv_aload_n hx hb dL_law_1024 rfl (lv_at hl 3 rfl) ?_
  refine lv_iload_n hx hb dL_law_1025 rfl (lv_at hl 0 rfl) ?_
  refine lv_iconst (v := 1) hx hb dL_law_1026 (by decide) ?_
  refine q_ai X hS (k := 1) (by decide) hi e1 dL_law_1027 dL_law_1028 ?_
  refine lv_aload_n hx hb dL_law_1029 rfl (lv_at hl 3 rfl) ?_
  refine lv_iload_n hx hb dL_law_1030 rfl (lv_at hl 0 rfl) ?_
  refine lv_iconst (v := 2) hx hb dL_law_1031 (by decide) ?_
  refine q_ai X hS (k := 2) (by decide) hi e2 dL_law_1032 dL_law_1033 ?_
  have hGp := hG
  refine W.eq (g2 := F0 m 1034 ls [.int v2, .int v1, .ref (al.2 0 0)]) (by rw [hom]) ?_
  refine q_fi (q_runV (t := 0) (i := 0) (As := [.int v1, .int v2]) (rest := []) C hU (c_X12_bar hG v1 v2) vm_X12_bar ml_L_111 k_0.1 (hc := rfl) rfl (h1_0 hG) hl.1 rfl rfl (Nat.le_of_ble_eq_true rfl) dL_law_1034 rfl rfl ⟨Nat.le_of_ble_eq_true rfl, Nat.le_of_ble_eq_true rfl⟩ ⟨by show cells + 0 ≤ 600000; omega, by show slots + 0 ≤ 7302250; omega⟩) hS (fun r2 iv2 rv2 H locs hG f2 g2 hp2 hU hS => ?_)
  have hRel := hRel.fr hGp f2 g2 (by decide)
  refine lv_pop hx hb dL_law_1037 rfl ?_
  refine lv_goto (tgt := 1475) hx hb dL_law_1038 (by decide) ?_
  refine W.widen (k := cells + 3) (n := slots + 16) (by omega) (by omega) ?_
  exact kk _ _ _ _ _ ⟨hG, hox, hom, hRel⟩ hU hS
set_option maxHeartbeats 4000000 in
set_option maxRecDepth 100000 in
theorem law_23 {p : Program} {l : Launch} {e : Env} {s : State} {m : MethodId} {below : List Frame} {meth : Method} {c : Code} {b L : Nat} {xs : Nat → Int32} {D : va_G} {cA : FieldType → ClassId} {ls : Array Slot} {Q : State → Prop} {H : Heap} {locs : List Loc} {cells slots : Nat} {i : Int32} {ox om : Nat} {al : Al} {iv : Iv} {rv : Rv} (X : LX p s m c b L xs D cA) (hl : lv_has ls 4 [(3, .int i), (2, .ref om), (1, .ref ox), (0, .ref b)]) (hi : 0 ≤ i.toInt ∧ i.toInt + 6 < L) (hQ : LSt ox om al iv rv) (hU : UW D cA s.heap.size al iv rv H) (hS : va_S (Aq s.heap.size) s.heap H locs) (hc : cells + 3 ≤ 600000 ∧ slots + 16 ≤ 7302250)
    (kk : ∀ (al' : Al) (iv' : Iv) (rv' : Rv) (H' : Heap) (locs' : List Loc), LSt ox om al' iv' rv' → UW D cA s.heap.size al' iv' rv' H' → va_S (Aq s.heap.size) s.heap H' locs' → W p l e room_1 s m #[Value.ref b] below meth c H' locs' (cells + 3) (slots + 16) Q (F0 m 1475 ls [])) : W p l e room_1 s m #[Value.ref b] below meth c H locs cells slots Q (F0 m 1041 ls []) := by
  obtain ⟨hG, hox, hom, hRel⟩ := hQ
  have C := X.1
  have hx := C.1.1
  have hb := C.1.2.1
  obtain ⟨v1, e1⟩ : ∃ z, xs (i + 1).toNatClampNeg = z := ⟨_, rfl⟩
  obtain ⟨v2, e2⟩ : ∃ z, xs (i + 2).toNatClampNeg = z := ⟨_, rfl⟩
  obtain ⟨v3, e3⟩ : ∃ z, xs (i + 3).toNatClampNeg = z := ⟨_, rfl⟩
  refine lv_aload_n hx hb dL_law_1041 rfl (lv_at hl 2 rfl) ?_
  refine lv_aload_n hx hb dL_law_1042 rfl (lv_at hl 3 rfl) ?_
  refine lv_iload_n hx hb dL_law_1043 rfl (lv_at hl 0 rfl) ?_
  refine lv_iconst (v := 1) hx hb dL_law_1044 (by decide) ?_
  refine q_ai X hS (k := 1) (by decide) hi e1 dL_law_1045 dL_law_1046 ?_
  refine lv_aload_n hx hb dL_law_1047 rfl (lv_at hl 3 rfl) ?_
  refine lv_iload_n hx hb dL_law_1048 rfl (lv_at hl 0 rfl) ?_
  refine lv_iconst (v := 2) hx hb dL_law_1049 (by decide) ?_
  refine q_ai X hS (k := 2) (by decide) hi e2 dL_law_1050 dL_law_1051 ?_
  refine lv_aload_n hx hb dL_law_1052 rfl (lv_at hl 3 rfl) ?_
  refine lv_iload_n hx hb dL_law_1053 rfl (lv_at hl 0 rfl) ?_
  refine lv_iconst (v := 3) hx hb dL_law_1054 (by decide) ?_
  refine q_ai X hS (k := 3) (by decide) hi e3 dL_law_1055 dL_law_1056 ?_
  have hG0 := hG
  have hGp := hG
  refine W.eq (g2 := F0 m 1057 ls [.int v3, .int v2, .int v1, .ref (al.2 49 0)]) (by rw [hox]) ?_
  refine q_fi (q_runV (t := 49) (i := 0) (As := [.int v1, .int v2, .int v3]) (rest := []) C hU (c_X11_stop hG v1 v2 v3) vm_X11_stop ml_L_112 k_49.1 (hc := rfl) rfl (h1_49 hG) hl.1 rfl rfl (Nat.le_of_ble_eq_true rfl) dL_law_1057 rfl rfl ⟨Nat.le_of_ble_eq_true rfl, Nat.le_of_ble_eq_true rfl⟩ ⟨by show cells + 0 ≤ 600000; omega, by show slots + 0 ≤ 7302250; omega⟩) hS (fun r1 iv1 rv1 H locs hG f1 g1 hp1 hU hS => ?_)
  have hRel := hRel.fr hGp f1 g1 (by decide)
  refine lv_pop hx hb dL_law_1060 rfl ?_
  refine lv_aload_n hx hb dL_law_1061 rfl (lv_at hl 1 rfl) ?_
  refine lv_aload_n hx hb dL_law_1062 rfl (lv_at hl 3 rfl) ?_
  refine lv_iload_n hx hb dL_law_1063 rfl (lv_at hl 0 rfl) ?_
  refine lv_iconst (v := 1) hx hb dL_law_1064 (by decide) ?_
  refine q_ai X hS (k := 1) (by decide) hi e1 dL_law_1065 dL_law_1066 ?_
  refine lv_aload_n hx hb dL_law_1067 rfl (lv_at hl 3 rfl) ?_
  refine lv_iload_n hx hb dL_law_1068 rfl (lv_at hl 0 rfl) ?_
  refine lv_iconst (v := 2) hx hb dL_law_1069 (by decide) ?_
  refine q_ai X hS (k := 2) (by decide) hi e2 dL_law_1070 dL_law_1071 ?_
  refine lv_aload_n hx hb dL_law_1072 rfl (lv_at hl 3 rfl) ?_
  refine lv_iload_n hx hb dL_law_1073 rfl (lv_at hl 0 rfl) ?_
  refine lv_iconst (v := 3) hx hb dL_law_1074 (by decide) ?_
  refine q_ai X hS (k := 3) (by decide) hi e3 dL_law_1075 dL_law_1076 ?_
  have hGp := hG
  refine W.eq (g2 := F0 m 1077 ls [.int v3, .int v2, .int v1, .ref (al.2 0 0)]) (by rw [hom]) ?_
  refine q_fi (q_runV (t := 0) (i := 0) (As := [.int v1, .int v2, .int v3]) (rest := []) C hU (c_X12_stop hG v1 v2 v3) vm_X12_stop ml_L_115 k_0.1 (hc := rfl) rfl (h1_0 hG) hl.1 rfl rfl (Nat.le_of_ble_eq_true rfl) dL_law_1077 rfl rfl ⟨Nat.le_of_ble_eq_true rfl, Nat.le_of_ble_eq_true rfl⟩ ⟨by show cells + 0 ≤ 600000; omega, by show slots + 0 ≤ 7302250; omega⟩) hS (fun r2 iv2 rv2 H locs hG f2 g2 hp2 hU hS => ?_)
  have hRel := hRel.fr hGp f2 g2 (by decide)
  refine lv_pop hx hb dL_law_1080 rfl ?_
  refine lv_goto (tgt := 1475) hx hb dL_law_1081 (by decide) ?_
  refine W.widen (k := cells + 3) (n := slots + 16) (by omega) (by omega) ?_
  exact kk _ _ _ _ _ ⟨hG, hox, hom, hRel⟩ hU hS
set_option maxHeartbeats 4000000 in
set_option maxRecDepth 100000 in
theorem law_24 {p : Program} {l : Launch} {e : Env} {s : State} {m : MethodId} {below : List Frame} {meth : Method} {c : Code} {b L : Nat} {xs : Nat → Int32} {D : va_G} {cA : FieldType → ClassId} {ls : Array Slot} {Q : State → Prop} {H : Heap} {locs : List Loc} {cells slots : Nat} {i : Int32} {ox om : Nat} {al : Al} {iv : Iv} {rv : Rv} (X : LX p s m c b L xs D cA) (hl : lv_has ls 4 [(3, .int i), (2, .ref om), (1, .ref ox), (0, .ref b)]) (hi : 0 ≤ i.toInt ∧ i.toInt + 6 < L) (hQ : LSt ox om al iv rv) (hU : UW D cA s.heap.size al iv rv H) (hS : va_S (Aq s.heap.size) s.heap H locs) (hc : cells + 3 ≤ 600000 ∧ slots + 16 ≤ 7302250)
    (kk : ∀ (al' : Al) (iv' : Iv) (rv' : Rv) (H' : Heap) (locs' : List Loc), LSt ox om al' iv' rv' → UW D cA s.heap.size al' iv' rv' H' → va_S (Aq s.heap.size) s.heap H' locs' → W p l e room_1 s m #[Value.ref b] below meth c H' locs' (cells + 3) (slots + 16) Q (F0 m 1475 ls [])) : W p l e room_1 s m #[Value.ref b] below meth c H locs cells slots Q (F0 m 1084 ls []) := by
  obtain ⟨hG, hox, hom, hRel⟩ := hQ
  have C := X.1
  have hx := C.1.1
  have hb := C.1.2.1
  obtain ⟨v1, e1⟩ : ∃ z, xs (i + 1).toNatClampNeg = z := ⟨_, rfl⟩
  refine lv_aload_n hx hb dL_law_1084 rfl (lv_at hl 2 rfl) ?_
  refine lv_aload_n hx hb dL_law_1085 rfl (lv_at hl 3 rfl) ?_
  refine lv_iload_n hx hb dL_law_1086 rfl (lv_at hl 0 rfl) ?_
  refine lv_iconst (v := 1) hx hb dL_law_1087 (by decide) ?_
  refine q_ai X hS (k := 1) (by decide) hi e1 dL_law_1088 dL_law_1089 ?_
  have hG0 := hG
  have hGp := hG
  refine W.eq (g2 := F0 m 1090 ls [.int v1, .ref (al.2 49 0)]) (by rw [hox]) ?_
  refine q_ciA (q_runVA (t := 49) (i := 0) (As := [.int v1]) (rest := []) C hU hS.1 (c_X11_claim hG v1) vm_X11_claim ml_L_116 k_49.1 (hc := rfl) rfl (h1_49 hG) hl.1 rfl rfl (Nat.le_of_ble_eq_true rfl) dL_law_1090 rfl rfl ⟨Nat.le_of_ble_eq_true rfl, Nat.le_of_ble_eq_true rfl⟩ ⟨by show cells + 2 ≤ 600000; omega, by show slots + 9 ≤ 7302250; omega⟩) hS hS.1 (fun r1 al1 iv1 rv1 H locs hp1 hU hS _ => ?_)
  obtain ⟨hG1, hE1, hp1⟩ := hp1
  have hRel := hRel.ex hGp hE1 (by decide)
  have hox := (hE1.2.1 49 0 (h1_49 hG)).trans hox
  have hom := (hE1.2.1 0 0 (h1_0 hG)).trans hom
  have hG := hG1
  refine W.widen (k := cells + 3) (n := slots + 16) (by omega) (by omega) ?_
  refine lv_pop hx hb dL_law_1093 rfl ?_
  refine lv_aload_n hx hb dL_law_1094 rfl (lv_at hl 1 rfl) ?_
  refine lv_aload_n hx hb dL_law_1095 rfl (lv_at hl 3 rfl) ?_
  refine lv_iload_n hx hb dL_law_1096 rfl (lv_at hl 0 rfl) ?_
  refine lv_iconst (v := 1) hx hb dL_law_1097 (by decide) ?_
  refine q_ai X hS (k := 1) (by decide) hi e1 dL_law_1098 dL_law_1099 ?_
  have hGp := hG
  refine W.eq (g2 := F0 m 1100 ls [.int v1, .ref (al1.2 0 0)]) (by rw [hom]) ?_
  refine q_fi (q_runV (t := 0) (i := 0) (As := [.int v1]) (rest := []) C hU (c_X12_claim hG v1) vm_X12_claim ml_L_119 k_0.1 (hc := rfl) rfl (h1_0 hG) hl.1 rfl rfl (Nat.le_of_ble_eq_true rfl) dL_law_1100 rfl rfl ⟨Nat.le_of_ble_eq_true rfl, Nat.le_of_ble_eq_true rfl⟩ ⟨by show (cells + 3) + 0 ≤ 600000; omega, by show (slots + 16) + 0 ≤ 7302250; omega⟩) hS (fun r2 iv2 rv2 H locs hG f2 g2 hp2 hU hS => ?_)
  have hRel := hRel.fr hGp f2 g2 (by decide)
  refine lv_pop hx hb dL_law_1103 rfl ?_
  refine lv_goto (tgt := 1475) hx hb dL_law_1104 (by decide) ?_
  exact kk _ _ _ _ _ ⟨hG, hox, hom, hRel⟩ hU hS
set_option maxHeartbeats 4000000 in
set_option maxRecDepth 100000 in
theorem law_25 {p : Program} {l : Launch} {e : Env} {s : State} {m : MethodId} {below : List Frame} {meth : Method} {c : Code} {b L : Nat} {xs : Nat → Int32} {D : va_G} {cA : FieldType → ClassId} {ls : Array Slot} {Q : State → Prop} {H : Heap} {locs : List Loc} {cells slots : Nat} {i : Int32} {ox om : Nat} {al : Al} {iv : Iv} {rv : Rv} (X : LX p s m c b L xs D cA) (hl : lv_has ls 4 [(3, .int i), (2, .ref om), (1, .ref ox), (0, .ref b)]) (hi : 0 ≤ i.toInt ∧ i.toInt + 6 < L) (hQ : LSt ox om al iv rv) (hU : UW D cA s.heap.size al iv rv H) (hS : va_S (Aq s.heap.size) s.heap H locs) (hc : cells + 3 ≤ 600000 ∧ slots + 16 ≤ 7302250)
    (kk : ∀ (al' : Al) (iv' : Iv) (rv' : Rv) (H' : Heap) (locs' : List Loc), LSt ox om al' iv' rv' → UW D cA s.heap.size al' iv' rv' H' → va_S (Aq s.heap.size) s.heap H' locs' → W p l e room_1 s m #[Value.ref b] below meth c H' locs' (cells + 3) (slots + 16) Q (F0 m 1475 ls [])) : W p l e room_1 s m #[Value.ref b] below meth c H locs cells slots Q (F0 m 1107 ls []) := by
  obtain ⟨hG, hox, hom, hRel⟩ := hQ
  have C := X.1
  have hx := C.1.1
  have hb := C.1.2.1
  obtain ⟨v1, e1⟩ : ∃ z, xs (i + 1).toNatClampNeg = z := ⟨_, rfl⟩
  obtain ⟨v2, e2⟩ : ∃ z, xs (i + 2).toNatClampNeg = z := ⟨_, rfl⟩
  refine lv_aload_n hx hb dL_law_1107 rfl (lv_at hl 2 rfl) ?_
  refine lv_aload_n hx hb dL_law_1108 rfl (lv_at hl 3 rfl) ?_
  refine lv_iload_n hx hb dL_law_1109 rfl (lv_at hl 0 rfl) ?_
  refine lv_iconst (v := 1) hx hb dL_law_1110 (by decide) ?_
  refine q_ai X hS (k := 1) (by decide) hi e1 dL_law_1111 dL_law_1112 ?_
  refine lv_aload_n hx hb dL_law_1113 rfl (lv_at hl 3 rfl) ?_
  refine lv_iload_n hx hb dL_law_1114 rfl (lv_at hl 0 rfl) ?_
  refine lv_iconst (v := 2) hx hb dL_law_1115 (by decide) ?_
  refine q_ai X hS (k := 2) (by decide) hi e2 dL_law_1116 dL_law_1117 ?_
  have hG0 := hG
  have hGp := hG
  refine W.eq (g2 := F0 m 1118 ls [.int v2, .int v1, .ref (al.2 49 0)]) (by rw [hox]) ?_
  refine q_fi (q_runV (t := 49) (i := 0) (As := [.int v1, .int v2]) (rest := []) C hU (c_X11_claimOf hG v1 v2) vm_X11_claimOf ml_L_120 k_49.1 (hc := rfl) rfl (h1_49 hG) hl.1 rfl rfl (Nat.le_of_ble_eq_true rfl) dL_law_1118 rfl rfl ⟨Nat.le_of_ble_eq_true rfl, Nat.le_of_ble_eq_true rfl⟩ ⟨by show cells + 0 ≤ 600000; omega, by show slots + 0 ≤ 7302250; omega⟩) hS (fun r1 iv1 rv1 H locs hG f1 g1 hp1 hU hS => ?_)
  have hRel := hRel.fr hGp f1 g1 (by decide)
  refine lv_pop hx hb dL_law_1121 rfl ?_
  refine lv_aload_n hx hb dL_law_1122 rfl (lv_at hl 1 rfl) ?_
  refine lv_aload_n hx hb dL_law_1123 rfl (lv_at hl 3 rfl) ?_
  refine lv_iload_n hx hb dL_law_1124 rfl (lv_at hl 0 rfl) ?_
  refine lv_iconst (v := 1) hx hb dL_law_1125 (by decide) ?_
  refine q_ai X hS (k := 1) (by decide) hi e1 dL_law_1126 dL_law_1127 ?_
  refine lv_aload_n hx hb dL_law_1128 rfl (lv_at hl 3 rfl) ?_
  refine lv_iload_n hx hb dL_law_1129 rfl (lv_at hl 0 rfl) ?_
  refine lv_iconst (v := 2) hx hb dL_law_1130 (by decide) ?_
  refine q_ai X hS (k := 2) (by decide) hi e2 dL_law_1131 dL_law_1132 ?_
  have hGp := hG
  refine W.eq (g2 := F0 m 1133 ls [.int v2, .int v1, .ref (al.2 0 0)]) (by rw [hom]) ?_
  refine q_fi (q_runV (t := 0) (i := 0) (As := [.int v1, .int v2]) (rest := []) C hU (c_X12_claimOf hG v1 v2) vm_X12_claimOf ml_L_123 k_0.1 (hc := rfl) rfl (h1_0 hG) hl.1 rfl rfl (Nat.le_of_ble_eq_true rfl) dL_law_1133 rfl rfl ⟨Nat.le_of_ble_eq_true rfl, Nat.le_of_ble_eq_true rfl⟩ ⟨by show cells + 0 ≤ 600000; omega, by show slots + 0 ≤ 7302250; omega⟩) hS (fun r2 iv2 rv2 H locs hG f2 g2 hp2 hU hS => ?_)
  have hRel := hRel.fr hGp f2 g2 (by decide)
  refine lv_pop hx hb dL_law_1136 rfl ?_
  refine lv_goto (tgt := 1475) hx hb dL_law_1137 (by decide) ?_
  refine W.widen (k := cells + 3) (n := slots + 16) (by omega) (by omega) ?_
  exact kk _ _ _ _ _ ⟨hG, hox, hom, hRel⟩ hU hS
set_option maxHeartbeats 4000000 in
set_option maxRecDepth 100000 in
theorem law_26 {p : Program} {l : Launch} {e : Env} {s : State} {m : MethodId} {below : List Frame} {meth : Method} {c : Code} {b L : Nat} {xs : Nat → Int32} {D : va_G} {cA : FieldType → ClassId} {ls : Array Slot} {Q : State → Prop} {H : Heap} {locs : List Loc} {cells slots : Nat} {i : Int32} {ox om : Nat} {al : Al} {iv : Iv} {rv : Rv} (X : LX p s m c b L xs D cA) (hl : lv_has ls 4 [(3, .int i), (2, .ref om), (1, .ref ox), (0, .ref b)]) (hi : 0 ≤ i.toInt ∧ i.toInt + 6 < L) (hQ : LSt ox om al iv rv) (hU : UW D cA s.heap.size al iv rv H) (hS : va_S (Aq s.heap.size) s.heap H locs) (hc : cells + 3 ≤ 600000 ∧ slots + 16 ≤ 7302250)
    (kk : ∀ (al' : Al) (iv' : Iv) (rv' : Rv) (H' : Heap) (locs' : List Loc), LSt ox om al' iv' rv' → UW D cA s.heap.size al' iv' rv' H' → va_S (Aq s.heap.size) s.heap H' locs' → W p l e room_1 s m #[Value.ref b] below meth c H' locs' (cells + 3) (slots + 16) Q (F0 m 1475 ls [])) : W p l e room_1 s m #[Value.ref b] below meth c H locs cells slots Q (F0 m 1140 ls []) := by
  obtain ⟨hG, hox, hom, hRel⟩ := hQ
  have C := X.1
  have hx := C.1.1
  have hb := C.1.2.1
  obtain ⟨v1, e1⟩ : ∃ z, xs (i + 1).toNatClampNeg = z := ⟨_, rfl⟩
  obtain ⟨v2, e2⟩ : ∃ z, xs (i + 2).toNatClampNeg = z := ⟨_, rfl⟩
  obtain ⟨v3, e3⟩ : ∃ z, xs (i + 3).toNatClampNeg = z := ⟨_, rfl⟩
  refine lv_aload_n hx hb dL_law_1140 rfl (lv_at hl 2 rfl) ?_
  refine lv_aload_n hx hb dL_law_1141 rfl (lv_at hl 3 rfl) ?_
  refine lv_iload_n hx hb dL_law_1142 rfl (lv_at hl 0 rfl) ?_
  refine lv_iconst (v := 1) hx hb dL_law_1143 (by decide) ?_
  refine q_ai X hS (k := 1) (by decide) hi e1 dL_law_1144 dL_law_1145 ?_
  refine lv_aload_n hx hb dL_law_1146 rfl (lv_at hl 3 rfl) ?_
  refine lv_iload_n hx hb dL_law_1147 rfl (lv_at hl 0 rfl) ?_
  refine lv_iconst (v := 2) hx hb dL_law_1148 (by decide) ?_
  refine q_ai X hS (k := 2) (by decide) hi e2 dL_law_1149 dL_law_1150 ?_
  refine lv_aload_n hx hb dL_law_1151 rfl (lv_at hl 3 rfl) ?_
  refine lv_iload_n hx hb dL_law_1152 rfl (lv_at hl 0 rfl) ?_
  refine lv_iconst (v := 3) hx hb dL_law_1153 (by decide) ?_
  refine q_ai X hS (k := 3) (by decide) hi e3 dL_law_1154 dL_law_1155 ?_
  have hG0 := hG
  have hGp := hG
  refine W.eq (g2 := F0 m 1156 ls [.int v3, .int v2, .int v1, .ref (al.2 49 0)]) (by rw [hox]) ?_
  refine q_fi (q_runV (t := 49) (i := 0) (As := [.int v1, .int v2, .int v3]) (rest := []) C hU (c_X11_owes hG v1 v2 v3) vm_X11_owes ml_L_124 k_49.1 (hc := rfl) rfl (h1_49 hG) hl.1 rfl rfl (Nat.le_of_ble_eq_true rfl) dL_law_1156 rfl rfl ⟨Nat.le_of_ble_eq_true rfl, Nat.le_of_ble_eq_true rfl⟩ ⟨by show cells + 0 ≤ 600000; omega, by show slots + 0 ≤ 7302250; omega⟩) hS (fun r1 iv1 rv1 H locs hG f1 g1 hp1 hU hS => ?_)
  have hRel := hRel.fr hGp f1 g1 (by decide)
  refine lv_pop hx hb dL_law_1159 rfl ?_
  refine lv_aload_n hx hb dL_law_1160 rfl (lv_at hl 1 rfl) ?_
  refine lv_aload_n hx hb dL_law_1161 rfl (lv_at hl 3 rfl) ?_
  refine lv_iload_n hx hb dL_law_1162 rfl (lv_at hl 0 rfl) ?_
  refine lv_iconst (v := 1) hx hb dL_law_1163 (by decide) ?_
  refine q_ai X hS (k := 1) (by decide) hi e1 dL_law_1164 dL_law_1165 ?_
  refine lv_aload_n hx hb dL_law_1166 rfl (lv_at hl 3 rfl) ?_
  refine lv_iload_n hx hb dL_law_1167 rfl (lv_at hl 0 rfl) ?_
  refine lv_iconst (v := 2) hx hb dL_law_1168 (by decide) ?_
  refine q_ai X hS (k := 2) (by decide) hi e2 dL_law_1169 dL_law_1170 ?_
  refine lv_aload_n hx hb dL_law_1171 rfl (lv_at hl 3 rfl) ?_
  refine lv_iload_n hx hb dL_law_1172 rfl (lv_at hl 0 rfl) ?_
  refine lv_iconst (v := 3) hx hb dL_law_1173 (by decide) ?_
  refine q_ai X hS (k := 3) (by decide) hi e3 dL_law_1174 dL_law_1175 ?_
  have hGp := hG
  refine W.eq (g2 := F0 m 1176 ls [.int v3, .int v2, .int v1, .ref (al.2 0 0)]) (by rw [hom]) ?_
  refine q_fi (q_runV (t := 0) (i := 0) (As := [.int v1, .int v2, .int v3]) (rest := []) C hU (c_X12_owes hG v1 v2 v3) vm_X12_owes ml_L_127 k_0.1 (hc := rfl) rfl (h1_0 hG) hl.1 rfl rfl (Nat.le_of_ble_eq_true rfl) dL_law_1176 rfl rfl ⟨Nat.le_of_ble_eq_true rfl, Nat.le_of_ble_eq_true rfl⟩ ⟨by show cells + 0 ≤ 600000; omega, by show slots + 0 ≤ 7302250; omega⟩) hS (fun r2 iv2 rv2 H locs hG f2 g2 hp2 hU hS => ?_)
  have hRel := hRel.fr hGp f2 g2 (by decide)
  refine lv_pop hx hb dL_law_1179 rfl ?_
  refine lv_goto (tgt := 1475) hx hb dL_law_1180 (by decide) ?_
  refine W.widen (k := cells + 3) (n := slots + 16) (by omega) (by omega) ?_
  exact kk _ _ _ _ _ ⟨hG, hox, hom, hRel⟩ hU hS
end
