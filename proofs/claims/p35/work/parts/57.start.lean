theorem len_small {args : Array Value} {s : State} {t : Term} {v : Value} (h : (Term.length t).eval args s none [] s = some v) : ∃ b cell, t.eval args s none [] s = some (.ref b) ∧ s.arrayAt? b = some cell ∧ cell.slots.size < 2 ^ 31 ∧ v = .int cell.slots.size.toInt32 := by
  simp only [Term.eval, Option.bind_eq_bind] at h
  cases ht : t.eval args s none [] s with
  | none => simp [ht] at h
  | some x =>
    cases x <;> simp [ht] at h
    case ref a =>
      obtain ⟨cell, hcell, h⟩ := Option.bind_eq_some_iff.mp h
      by_cases hn : cell.slots.size < 2147483648
      · rw [if_pos hn] at h; cases h; exact ⟨a, cell, rfl, hcell, hn, rfl⟩
      · rw [if_neg hn] at h; cases h
theorem hBW {s : State} {args : Array Value} (hts : ∀ w ∈ lw_tbl, w.before args s = true) : ∀ w ∈ BW, w.before args s = true := fun w h => hts w (bw_tbl h)
theorem kn_all {s : State} {args : Array Value} (hB : ∀ w ∈ BW, w.before args s = true) : ∀ c : Nat, ∃ r : ClassId × (Nat → Nat), ∀ q : vw_C, vwCl[c]? = some q → u_Kn s q.1 q.2.1 q.2.2 r.1 r.2 := by
  intro c
  match c with
  | 0 =>
    obtain ⟨cC, iS, h⟩ := u_known hB uwX0 (hB _ ib_X0)
    exact ⟨(cC, iS), fun q hq => by cases hq; exact h⟩
  | 1 =>
    obtain ⟨cC, iS, h⟩ := u_known hB uwX1 (hB _ ib_X1)
    exact ⟨(cC, iS), fun q hq => by cases hq; exact h⟩
  | 2 =>
    obtain ⟨cC, iS, h⟩ := u_known hB uwX2 (hB _ ib_X2)
    exact ⟨(cC, iS), fun q hq => by cases hq; exact h⟩
  | 3 =>
    obtain ⟨cC, iS, h⟩ := u_known hB uwX3 (hB _ ib_X3)
    exact ⟨(cC, iS), fun q hq => by cases hq; exact h⟩
  | 4 =>
    obtain ⟨cC, iS, h⟩ := u_known hB uwX4 (hB _ ib_X4)
    exact ⟨(cC, iS), fun q hq => by cases hq; exact h⟩
  | 5 =>
    obtain ⟨cC, iS, h⟩ := u_known hB uwX5 (hB _ ib_X5)
    exact ⟨(cC, iS), fun q hq => by cases hq; exact h⟩
  | 6 =>
    obtain ⟨cC, iS, h⟩ := u_known hB uwX6 (hB _ ib_X6)
    exact ⟨(cC, iS), fun q hq => by cases hq; exact h⟩
  | 7 =>
    obtain ⟨cC, iS, h⟩ := u_known hB uwX7 (hB _ ib_X7)
    exact ⟨(cC, iS), fun q hq => by cases hq; exact h⟩
  | 8 =>
    obtain ⟨cC, iS, h⟩ := u_known hB uwX8 (hB _ ib_X8)
    exact ⟨(cC, iS), fun q hq => by cases hq; exact h⟩
  | 9 =>
    obtain ⟨cC, iS, h⟩ := u_known hB uwX9 (hB _ ib_X9)
    exact ⟨(cC, iS), fun q hq => by cases hq; exact h⟩
  | 10 =>
    obtain ⟨cC, iS, h⟩ := u_known hB uwX10 (hB _ ib_X10)
    exact ⟨(cC, iS), fun q hq => by cases hq; exact h⟩
  | 11 =>
    obtain ⟨cC, iS, h⟩ := u_known hB uwX11 (hB _ ib_X11)
    exact ⟨(cC, iS), fun q hq => by cases hq; exact h⟩
  | 12 =>
    obtain ⟨cC, iS, h⟩ := u_known hB uwX12 (hB _ ib_X12)
    exact ⟨(cC, iS), fun q hq => by cases hq; exact h⟩
  | n + 13 => exact ⟨(0, fun _ => 0), fun q hq => by simp at hq⟩
theorem ar_all {s : State} {args : Array Value} (hts : ∀ w ∈ lw_tbl, w.before args s = true) : ∀ ty : FieldType, ty ∈ aty → ∃ c : ClassId, ArrOfT s c ty ∧ va_RA s c ty := by
  have prim : ∀ ty, (Cond.arrayClass ty).before args s = true → ∃ c : ClassId, ArrOfT s c ty ∧ s.vm.findClass ("[" ++ ty.toString) = some c := fun ty h => by
    obtain ⟨c, k, comp, h1, h2, h3⟩ := Cond.arrayClass_spec h
    exact ⟨c, fun n z => ⟨(fun _ w => by cases w), k, h2, comp, h3⟩, h1⟩
  have obj : ∀ C, (Cond.arrayOver (.object C)).before args s = true → ∃ c : ClassId, ArrOfT s c (.object C) ∧ va_RA s c (.object C) := fun C h => by
    obtain ⟨comp, c, k, h1, h2, h3, h4, h5⟩ := Cond.arrayOver_spec h
    exact ⟨c, fun n z => ⟨(fun _ w => by cases w), k, h3, comp, h4⟩, k, comp, h3, h4, h1, h5⟩
  intro ty hty
  simp only [aty, List.mem_cons, List.not_mem_nil, or_false] at hty
  rcases hty with rfl | rfl | rfl | rfl | rfl | rfl | rfl
  · exact prim .int (hBW hts _ ac_int)
  · exact prim .boolean (hBW hts _ ac_boolean)
  · exact obj _ (hts _ (List.mem_of_getElem? (i := 84) (by decide +kernel)))
  · exact obj _ (hts _ (List.mem_of_getElem? (i := 129) (by decide +kernel)))
  · exact obj _ (hts _ (List.mem_of_getElem? (i := 156) (by decide +kernel)))
  · exact obj _ (hts _ (List.mem_of_getElem? (i := 242) (by decide +kernel)))
  · obtain ⟨comp, c, k, h1, h3, h4, h5⟩ := Cond.arrayOver_specA (hts _ (List.mem_of_getElem? (i := 109) (a := Cond.arrayOver (.array .int)) (by decide +kernel)))
    exact ⟨c, fun n z => ⟨(fun _ w => by cases w), k, h3, comp, h4⟩, h5⟩
theorem ku_start {s : State} {args : Array Value} (hts : ∀ w ∈ lw_tbl, w.before args s = true) : ∃ (D : va_G) (cA : FieldType → ClassId), KU D cA s := by
  have h1 := kn_all (hBW hts)
  have h2 : ∀ ty : FieldType, ∃ c : ClassId, ty ∈ aty → ArrOfT s c ty ∧ va_RA s c ty := fun ty => by
    by_cases q : ty ∈ aty
    · obtain ⟨c, h⟩ := ar_all hts ty q
      exact ⟨c, fun _ => h⟩
    · exact ⟨0, fun h => absurd h q⟩
  refine ⟨(fun c => (Classical.choose (h1 c)).1, fun c => (Classical.choose (h1 c)).2), fun ty => Classical.choose (h2 ty), ⟨fun c q hq => Classical.choose_spec (h1 c) q hq, fun k q hq => by simp at hq⟩, fun ty hty => Classical.choose_spec (h2 ty) hty, ⟨?_, ?_, ?_, ?_⟩, ?_, ?_, ?_, ?_⟩
  · exact va_AO.of (hts _ (List.mem_of_getElem? (i := 84) (by decide +kernel)))
  · exact va_AO.of (hts _ (List.mem_of_getElem? (i := 129) (by decide +kernel)))
  · exact va_AO.of (hts _ (List.mem_of_getElem? (i := 156) (by decide +kernel)))
  · exact va_AO.of (hts _ (List.mem_of_getElem? (i := 242) (by decide +kernel)))
  · exact va_Nw.of rfl (hts _ (List.mem_of_getElem? (i := 361) (by decide +kernel)))
  · exact va_Nw.of rfl (hts _ (List.mem_of_getElem? (i := 507) (by decide +kernel)))
  · exact va_Nw.of rfl (hts _ (List.mem_of_getElem? (i := 633) (by decide +kernel)))
  · exact va_Nw.of rfl (hts _ (List.mem_of_getElem? (i := 813) (by decide +kernel)))
theorem aoa_start {s : State} {args : Array Value} (hts : ∀ w ∈ lw_tbl, w.before args s = true) : va_AOA .int s := hts _ (List.mem_of_getElem? (i := 109) (a := Cond.arrayOver (.array .int)) (by decide +kernel))
theorem st_fst4 {s : State} {args : Array Value} (hs : ∀ w ∈ flatC (Jvm.Cond.and given_1 narrow_1), w.before args s = true) : (Cond.arrayOf (Term.static "LateClaims" "FIRST_SETTING" "[I") .int).before args s = true ∧ (Term.length (Term.static "LateClaims" "FIRST_SETTING" "[I")).eval args s none [] s = some (.int (Int32.ofNat 4)) ∧ ∀ j : Nat, j < 4 → (Term.elem (Term.static "LateClaims" "FIRST_SETTING" "[I") (.int (Int32.ofNat j))).eval args s none [] s = some (.int (fst4 j)) := by
  refine ⟨hs _ (by decide +kernel), va_eqt (z := 4) (hs _ (by decide +kernel)), fun j hj => ?_⟩
  match j, hj with
  | 0, _ => exact va_eqt (z := 30) (hs (Cond.eq (.elem (Term.static "LateClaims" "FIRST_SETTING" "[I") (.int 0)) (.int 30)) (by decide +kernel))
  | 1, _ => exact va_eqt (z := 60) (hs (Cond.eq (.elem (Term.static "LateClaims" "FIRST_SETTING" "[I") (.int 1)) (.int 60)) (by decide +kernel))
  | 2, _ => exact va_eqt (z := 45) (hs (Cond.eq (.elem (Term.static "LateClaims" "FIRST_SETTING" "[I") (.int 2)) (.int 45)) (by decide +kernel))
  | 3, _ => exact va_eqt (z := 5) (hs (Cond.eq (.elem (Term.static "LateClaims" "FIRST_SETTING" "[I") (.int 3)) (.int 5)) (by decide +kernel))
  | n + 4, h => omega
theorem st_lst4 {s : State} {args : Array Value} (hs : ∀ w ∈ flatC (Jvm.Cond.and given_1 narrow_1), w.before args s = true) : (Cond.arrayOf (Term.static "LateClaims" "LEAST_SETTING" "[I") .int).before args s = true ∧ (Term.length (Term.static "LateClaims" "LEAST_SETTING" "[I")).eval args s none [] s = some (.int (Int32.ofNat 4)) ∧ ∀ j : Nat, j < 4 → (Term.elem (Term.static "LateClaims" "LEAST_SETTING" "[I") (.int (Int32.ofNat j))).eval args s none [] s = some (.int (lst4 j)) := by
  refine ⟨hs _ (by decide +kernel), va_eqt (z := 4) (hs _ (by decide +kernel)), fun j hj => ?_⟩
  match j, hj with
  | 0, _ => exact va_eqt (z := 0) (hs (Cond.eq (.elem (Term.static "LateClaims" "LEAST_SETTING" "[I") (.int 0)) (.int 0)) (by decide +kernel))
  | 1, _ => exact va_eqt (z := 0) (hs (Cond.eq (.elem (Term.static "LateClaims" "LEAST_SETTING" "[I") (.int 1)) (.int 0)) (by decide +kernel))
  | 2, _ => exact va_eqt (z := 0) (hs (Cond.eq (.elem (Term.static "LateClaims" "LEAST_SETTING" "[I") (.int 2)) (.int 0)) (by decide +kernel))
  | 3, _ => exact va_eqt (z := 1) (hs (Cond.eq (.elem (Term.static "LateClaims" "LEAST_SETTING" "[I") (.int 3)) (.int 1)) (by decide +kernel))
  | n + 4, h => omega
theorem st_grt4 {s : State} {args : Array Value} (hs : ∀ w ∈ flatC (Jvm.Cond.and given_1 narrow_1), w.before args s = true) : (Cond.arrayOf (Term.static "LateClaims" "GREATEST_SETTING" "[I") .int).before args s = true ∧ (Term.length (Term.static "LateClaims" "GREATEST_SETTING" "[I")).eval args s none [] s = some (.int (Int32.ofNat 4)) ∧ ∀ j : Nat, j < 4 → (Term.elem (Term.static "LateClaims" "GREATEST_SETTING" "[I") (.int (Int32.ofNat j))).eval args s none [] s = some (.int (grt4 j)) := by
  refine ⟨hs _ (by decide +kernel), va_eqt (z := 4) (hs _ (by decide +kernel)), fun j hj => ?_⟩
  match j, hj with
  | 0, _ => exact va_eqt (z := 200) (hs (Cond.eq (.elem (Term.static "LateClaims" "GREATEST_SETTING" "[I") (.int 0)) (.int 200)) (by decide +kernel))
  | 1, _ => exact va_eqt (z := 900) (hs (Cond.eq (.elem (Term.static "LateClaims" "GREATEST_SETTING" "[I") (.int 1)) (.int 900)) (by decide +kernel))
  | 2, _ => exact va_eqt (z := 300) (hs (Cond.eq (.elem (Term.static "LateClaims" "GREATEST_SETTING" "[I") (.int 2)) (.int 300)) (by decide +kernel))
  | 3, _ => exact va_eqt (z := 9) (hs (Cond.eq (.elem (Term.static "LateClaims" "GREATEST_SETTING" "[I") (.int 3)) (.int 9)) (by decide +kernel))
  | n + 4, h => omega
theorem sx_start {s : State} {args : Array Value} {D : va_G} {cA : FieldType → ClassId} (hK : KU D cA s) (hts : ∀ w ∈ lw_tbl, w.before args s = true) (hs : ∀ w ∈ flatC (Jvm.Cond.and given_1 narrow_1), w.before args s = true) : SX cA s.heap.size s s.heap := by
  have hA : ∀ a : Nat, a < s.heap.size → ¬ Aq s.heap.size a := fun a h z => absurd h (Nat.not_lt.mpr z)
  have hini : (Cond.initialized "LateClaims").before args s = true := hBW hts _ iz_X11
  refine ⟨?_, ?_, ?_, va_Nw.of rfl (hts _ (List.mem_of_getElem? (i := 309) (a := Cond.castable "[I" "java/lang/Cloneable") (by decide +kernel)))⟩
  · obtain ⟨h1, h2, h3⟩ := st_fst4 hs
    obtain ⟨b, cell, e1, e2, e3, e4⟩ := len_small h2
    obtain ⟨t, ht, hT⟩ := va_Tof (A := Aq s.heap.size) (f := fun j => .int (fst4 j)) (by decide) h1 h2 h3 hA
    cases e1.symm.trans ht
    refine ⟨b, va_Zof (hts _ (List.mem_of_getElem? (i := 303) (a := Cond.laysStatic "LateClaims" "FIRST_SETTING" "[I") (by decide +kernel))) hini e1 hA, ?_⟩
    obtain ⟨cell2, f1, f2, f3, f4, f5, f6, f7⟩ := hT
    obtain ⟨a3, c3, cell3, k3, x1, x2, x3, x4, x5, x6, -⟩ := Cond.exactly_spec (hs (Cond.exactly (Term.static "LateClaims" "FIRST_SETTING" "[I") "[I") (by decide +kernel))
    cases e1.symm.trans x1
    have q1 : cell3 = cell2 := (Option.some.inj (f1.symm.trans x3)).symm
    obtain ⟨hc2, -, -, -⟩ := State.arrayAt?_spec e2
    have q2 : cell = cell2 := (Option.some.inj (f1.symm.trans hc2)).symm
    rw [q1] at x6
    rw [q2] at e3 e4
    have hsz : cell2.slots.size = 4 := by
      have h := congrArg Int32.toInt (Value.int.inj e4 : Int32.ofNat 4 = Int32.ofNat cell2.slots.size)
      rw [Int32.toInt_ofNat_small e3, Int32.toInt_ofNat_small (by decide)] at h
      omega
    have hcl : cA .int = c3 := Option.some.inj ((hK.2.1 .int (by decide)).2.symm.trans x2)
    exact ⟨cell2, f1, by rw [x6, hcl], f3, f2.1, hsz, f6, f7⟩
  · obtain ⟨h1, h2, h3⟩ := st_lst4 hs
    obtain ⟨t, ht, hT⟩ := va_Tof (A := Aq s.heap.size) (f := fun j => .int (lst4 j)) (by decide) h1 h2 h3 hA
    exact ⟨t, va_Zof (hts _ (List.mem_of_getElem? (i := 522) (a := Cond.laysStatic "LateClaims" "LEAST_SETTING" "[I") (by decide +kernel))) hini ht hA, hT⟩
  · obtain ⟨h1, h2, h3⟩ := st_grt4 hs
    obtain ⟨t, ht, hT⟩ := va_Tof (A := Aq s.heap.size) (f := fun j => .int (grt4 j)) (by decide) h1 h2 h3 hA
    exact ⟨t, va_Zof (hts _ (List.mem_of_getElem? (i := 524) (a := Cond.laysStatic "LateClaims" "GREATEST_SETTING" "[I") (by decide +kernel))) hini ht hA, hT⟩
