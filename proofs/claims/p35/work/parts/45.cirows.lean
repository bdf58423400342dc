/-- a constructor under way: its own cell is (t0, i0), at o -/
def CI (t0 i0 o : Nat) (N : Nat → Nat) (M : Mo) (L : List Nat) (al : Al) (iv : Iv) (rv : Rv) (al1 : Al) (iv1 : Iv) (rv1 : Rv) : Prop :=
  RG al1 iv1 ∧ RB al1 rv1 ∧ EXT N M al iv rv al1 iv1 rv1 ∧ NN t0 i0 L rv1 ∧ al1.2 t0 i0 = o ∧ i0 < al1.1 t0
theorem CI.new {t0 i0 o : Nat} {N : Nat → Nat} {M : Mo} {L : List Nat} {al al1 : Al} {iv iv1 : Iv} {rv rv1 : Rv} (h : CI t0 i0 o N M L al iv rv al1 iv1 rv1) (t a : Nat) (ht : t0 ≠ t) : CI t0 i0 o (nx N t) M L al iv rv (grow al1 t a) (clr iv1 t (al1.1 t) 0) (clr rv1 t (al1.1 t) none) := by
  obtain ⟨h1, h2, h3, h4, h5, h6⟩ := h
  refine ⟨h1.new t a, h2.new t a, h3.new t a, h4.keep (fun k => clr_ne (fun z => ht z.1)), ?_, ?_⟩
  · rw [grow_ad h6]; exact h5
  · rw [grow_ct]; omega
theorem CI.putr {t0 i0 o : Nat} {N : Nat → Nat} {M : Mo} {L : List Nat} {al al1 : Al} {iv iv1 : Iv} {rv rv1 : Rv} (h : CI t0 i0 o N M L al iv rv al1 iv1 rv1) {k t1 j : Nat} (hm : MD M t0 k) (ht : (pt t0).2.2.2 k = some t1) (hj : j < al1.1 t1) : CI t0 i0 o N M (k :: L) al iv rv al1 iv1 (up3 rv1 t0 i0 k (some j)) := by
  obtain ⟨h1, h2, h3, h4, h5, h6⟩ := h
  exact ⟨h1, h2.put ht hj, h3.putr hm, h4.put k j, h5, h6⟩
theorem CI.puti {t0 i0 o : Nat} {N : Nat → Nat} {M : Mo} {L : List Nat} {al al1 : Al} {iv iv1 : Iv} {rv rv1 : Rv} (h : CI t0 i0 o N M L al iv rv al1 iv1 rv1) {t i k : Nat} {x : Int32} (hm : MD M t k) (hr : (rg t k).1 ≤ x.toInt ∧ x.toInt ≤ (rg t k).2) : CI t0 i0 o N M L al iv rv al1 (up3 iv1 t i k x) rv1 := by
  obtain ⟨h1, h2, h3, h4, h5, h6⟩ := h
  exact ⟨h1.put hr, h2, h3.puti hm, h4, h5, h6⟩
section CIR
variable {p : Program} {l : Launch} {e : Env} {R : Room} {s : State} {m : MethodId} {args : Array Value} {below : List Frame} {meth : Method} {c : Code} {H : Heap} {locs : List Loc} {cells slots : Nat} {Q : State → Prop}
variable {cc : ByteArray} {pc nL : Nat} {ls : Array Slot} {rest : List Value} {own : String} {D : va_G} {cA : FieldType → ClassId} {sz : Nat} {al al1 : Al} {iv iv1 : Iv} {rv rv1 : Rv} {t0 i0 o : Nat} {N : Nat → Nat} {M : Mo} {L : List Nat}
/-- a new row of numbers, on the stack -/
theorem q_ra (C : Cx p s m args c cc nL own D cA) (hz0 : sz ≤ s.heap.size) (hU : UW D cA sz al1 iv1 rv1 H) (hS : va_S (Aq sz) s.heap H locs) (hI : CI t0 i0 o N M L al iv rv al1 iv1 rv1) {t n : Nat} {atype : ArrayType} {ty : FieldType} (hat : newarray.typeOf atype = ty) (h2 : ty = .int ∨ ty = .boolean) (kp : (pt t).1 = none ∧ (pt t).2.1 = n ∧ (pt t).2.2.1 = ty) (htg : ∀ k, (pt t).2.2.2 k = none) (ht : t0 ≠ t) (hac : Cond.arrayClass ty ∈ BW)
    {x : Int32} (hn : ¬ x < 0) (hN : x.toNatClampNeg = n) (hby : n * 8 ≤ 536870912) (hcells : cells + 1 ≤ R.cells) (hslots : slots + n ≤ R.slots) (hdg : decode cc pc = .ok (.newarray atype, 2))
    (kk : ∀ (al2 : Al) (iv2 : Iv) (rv2 : Rv) (H2 : Heap) (a : Nat), UW D cA sz al2 iv2 rv2 H2 → va_S (Aq sz) s.heap H2 locs → CI t0 i0 o (nx N t) M L al iv rv al2 iv2 rv2 → al2.2 t (al1.1 t) = a → al1.1 t < al2.1 t → W p l e R s m args below meth c H2 locs (cells + 1) (slots + n) Q (F0 m (pc + 2) ls (.ref a :: rest))) : W p l e R s m args below meth c H locs cells slots Q (F0 m pc ls (.int x :: rest)) := by
  refine q_newp (t := t) C hU hS hI.2.1 (Nat.le_trans hz0 hS.1) hat h2 kp htg hac hn hN hby hcells hslots hdg (fun a H1 hU1 hS1 _ => ?_)
  exact kk _ _ _ H1 a hU1 hS1 (hI.new t a ht) grow_new (by rw [grow_ct]; simp)
/-- the row on the stack into its field -/
theorem q_rp (C : Cx p s m args c cc nL own D cA) (hnm : meth.name = "<init>") (hU : UW D cA sz al1 iv1 rv1 H) (hS : va_S (Aq sz) s.heap H locs) (hI : CI t0 i0 o N M L al iv rv al1 iv1 rv1) {t k ci NN' index i a : Nat} {T : u_T} (kp : (pt t0).1 = some ci ∧ (pt t0).2.1 = NN') (hc : vwCl[ci]? = some (own, T, NN')) (hin : ∀ w ∈ u_ws own T NN', w ∈ BW)
    (ty0 : Nat → FieldType) (hty : ∀ k, k < NN' → parseFieldDescriptor (T k).2.2.1 = some (ty0 k)) (hnn : ∀ a, a < NN' → ∀ b, b < NN' → a ≠ b → (T a).2.1 ≠ (T b).2.1) (hk : k < NN') (hT : (T k).1 = own) (hfin : (T k).2.2.2 = true) (htg : (pt t0).2.2.2 k = some t) (hm : MD M t0 k)
    (hlink : Cond.fieldLink own index own (T k).2.1 (T k).2.2.1 ∈ BW) (hn : ∀ a, narrow (ty0 k) (.ref a) = .ref a) (hfit : ∀ a, fits (ty0 k) (.ref a) = true) (ha : al1.2 t i = a) (hi : i < al1.1 t) (hdg : decode cc pc = .ok (.putfield index, 3))
    (kk : ∀ (rv2 : Rv) (H2 : Heap) (locs2 : List Loc), UW D cA sz al1 iv1 rv2 H2 → va_S (Aq sz) s.heap H2 locs2 → CI t0 i0 o N M (k :: L) al iv rv al1 iv1 rv2 → W p l e R s m args below meth c H2 locs2 cells slots Q (F0 m (pc + 3) ls rest)) : W p l e R s m args below meth c H locs cells slots Q (F0 m pc ls (.ref a :: .ref o :: rest)) := by
  have ho := hI.2.2.2.2.1
  subst ha
  subst ho
  exact q_putr (t := t0) (i := i0) (k := k) (t' := t) (j := i) C hU hS kp hc hin ty0 hty hnn hI.2.2.2.2.2 hk hT (Or.inr ⟨hfin, hnm, rfl⟩) htg hlink hdg hn hfit (fun H1 locs1 hU1 hS1 => kk _ H1 locs1 hU1 hS1 (hI.putr hm htg hi))
theorem q_is (C : Cx p s m args c cc nL own D cA) (hU : UW D cA sz al1 iv1 rv1 H) (hS : va_S (Aq sz) s.heap H locs) (hI : CI t0 i0 o N M L al iv rv al1 iv1 rv1) {t i a n : Nat} (kp : (pt t).1 = none ∧ (pt t).2.1 = n ∧ (pt t).2.2.1 = .int) (htg : ∀ k, (pt t).2.2.2 k = none) (ha : al1.2 t i = a) (hi : i < al1.1 t) {x v : Int32} (hin : vp_in x n) (hm : ∀ k, MD M t k) (hr : ∀ k, (rg t k).1 ≤ v.toInt ∧ v.toInt ≤ (rg t k).2) (hdg : decode cc pc = .ok (.iastore, 1))
    (kk : ∀ (iv2 : Iv) (H2 : Heap) (locs2 : List Loc), UW D cA sz al1 iv2 rv1 H2 → va_S (Aq sz) s.heap H2 locs2 → CI t0 i0 o N M L al iv rv al1 iv2 rv1 → W p l e R s m args below meth c H2 locs2 cells slots Q (F0 m (pc + 1) ls rest)) : W p l e R s m args below meth c H locs cells slots Q (F0 m pc ls (.int v :: .int x :: .ref a :: rest)) := by
  subst ha
  exact q_iast (t := t) C hU hS kp htg hi hin hdg (fun H1 locs1 hU1 hS1 => kk _ H1 locs1 hU1 hS1 (hI.puti (hm _) (hr _)))
end CIR
