theorem wk_1 : Cond.methodLink RX11 62 ⟨"[I", "clone", "()Ljava/lang/Object;"⟩ ∈ BW := bw 304 (by decide +kernel) rfl
theorem wk_2 : Cond.sameMethod "[I" "java/lang/Object" "clone" "()Ljava/lang/Object;" ∈ BW := bw 305 (by decide +kernel) rfl
theorem wk_3 : Cond.native ⟨"java/lang/Object", "clone", "()Ljava/lang/Object;"⟩ ∈ BW := bw 306 (by decide +kernel) rfl
theorem wk_4 : Cond.instanceMethod ⟨"java/lang/Object", "clone", "()Ljava/lang/Object;"⟩ ∈ BW := bw 307 (by decide +kernel) rfl
theorem wk_5 : Cond.selects "[I" ⟨"[I", "clone", "()Ljava/lang/Object;"⟩ ⟨"java/lang/Object", "clone", "()Ljava/lang/Object;"⟩ ∈ BW := bw 308 (by decide +kernel) rfl
def EA (t N : Nat) (f : Nat → Int32) (cI : ClassId) (A : Nat → Prop) (H : Heap) : Prop := ∃ cell : Cell, H[t]? = some cell ∧ cell.cls = cI ∧ cell.vm ≠ .unknown ∧ (∀ k, cell.vm ≠ .statics k) ∧ cell.slots.size = N ∧ (∀ j : Nat, j < N → cell.slots[j]? = some (.int (f j))) ∧ ¬ A t
theorem EA.kept {t N : Nat} {f : Nat → Int32} {cI : ClassId} {A : Nat → Prop} {H H1 : Heap} (h : EA t N f cI A H) (hq : ∀ a : Nat, a < H.size → ¬ A a → H1[a]? = H[a]?) : EA t N f cI A H1 := by
  obtain ⟨cell, h1, h2, h3, h4, h5, h6, h7⟩ := h
  exact ⟨cell, by rw [hq t (Array.getElem?_eq_some_iff.mp h1).1 h7]; exact h1, h2, h3, h4, h5, h6, h7⟩
def fst4 : Nat → Int32 := fun j => if j = 0 then 30 else if j = 1 then 60 else if j = 2 then 45 else 5
def lst4 : Nat → Int32 := fun j => if j = 3 then 1 else 0
def grt4 : Nat → Int32 := fun j => if j = 0 then 200 else if j = 1 then 900 else if j = 2 then 300 else 9
def SX (cA : FieldType → ClassId) (sz : Nat) (U : State) (H : Heap) : Prop :=
  (∃ t : Nat, va_Z RX11 "FIRST_SETTING" "[I" (.ref t) (Aq sz) U H ∧ EA t 4 fst4 (cA .int) (Aq sz) H) ∧
  (∃ t : Nat, va_Z RX11 "LEAST_SETTING" "[I" (.ref t) (Aq sz) U H ∧ va_T .int t 4 (fun j => .int (lst4 j)) (Aq sz) U H) ∧
  (∃ t : Nat, va_Z RX11 "GREATEST_SETTING" "[I" (.ref t) (Aq sz) U H ∧ va_T .int t 4 (fun j => .int (grt4 j)) (Aq sz) U H) ∧ va_Nw (.castable "[I" "java/lang/Cloneable") U
theorem SX.moved {cA : FieldType → ClassId} {sz : Nat} {u U : State} {H : Heap} (hvm : u.vm.Alike U.vm) (hc : va_Nw (.castable "[I" "java/lang/Cloneable") u → va_Nw (.castable "[I" "java/lang/Cloneable") U) (h : SX cA sz u H) : SX cA sz U H := by
  obtain ⟨⟨t1, a1, b1⟩, ⟨t2, a2, b2⟩, ⟨t3, a3, b3⟩, n⟩ := h
  exact ⟨⟨t1, a1.moved hvm, b1⟩, ⟨t2, a2.moved hvm, b2.moved hvm⟩, ⟨t3, a3.moved hvm, b3.moved hvm⟩, hc n⟩
theorem SX.kept {cA : FieldType → ClassId} {sz : Nat} {U : State} {H H1 : Heap} (h : SX cA sz U H) (hq : ∀ a : Nat, a < H.size → ¬ Aq sz a → H1[a]? = H[a]?) : SX cA sz U H1 := by
  obtain ⟨⟨t1, a1, b1⟩, ⟨t2, a2, b2⟩, ⟨t3, a3, b3⟩, n⟩ := h
  exact ⟨⟨t1, a1.kept hq, b1.kept hq⟩, ⟨t2, a2.kept hq, b2.kept hq⟩, ⟨t3, a3.kept hq, b3.kept hq⟩, n⟩
theorem SX.to {cA : FieldType → ClassId} {sz : Nat} {s U : State} {H : Heap} {locs : List Loc} (h : SX cA sz s s.heap) (hS : va_S (Aq sz) s.heap H locs) (hH : U.heap = H) (hW : s.WarmedH U.vm) : SX cA sz U U.heap := by
  rw [hH]; exact (h.kept hS.2.1).moved hW.alike (va_Nw.warmC hW)
theorem SX.calling {cA : FieldType → ClassId} {sz : Nat} (U : State) (g : JFrame) (mk : MethodId) (a : Array Value) (h : SX cA sz U U.heap) : SX cA sz (U.calling g mk a) (U.calling g mk a).heap := SX.moved (u := U) (Vm.Alike.refl U.vm) (fun q => va_Nw.same rfl rfl q) h
-- a cell born with numbers in it
def clf (iv : Iv) (t i : Nat) (f : Nat → Int32) : Iv := fun t' i' k' => if t' = t ∧ i' = i then f k' else iv t' i' k'
theorem clf_ne {iv : Iv} {t i t' i' k' : Nat} {f : Nat → Int32} (h : ¬ (t' = t ∧ i' = i)) : clf iv t i f t' i' k' = iv t' i' k' := by simp only [clf, if_neg h]
theorem clf_self {iv : Iv} {t i k' : Nat} {f : Nat → Int32} : clf iv t i f t i k' = f k' := by simp [clf]
theorem grow_lt {al : Al} {t a t1 i1 : Nat} (h : i1 < (grow al t a).1 t1) (e : ¬ (t1 = t ∧ i1 = al.1 t)) : i1 < al.1 t1 := by
  rw [grow_ct] at h
  by_cases q : t1 = t
  · subst q; simp at h; rcases Nat.lt_or_ge i1 (al.1 t1) with z | z
    · exact z
    · exact absurd ⟨rfl, by omega⟩ e
  · simp [q] at h; exact h
theorem UW.newf {D : va_G} {cA : FieldType → ClassId} {sz : Nat} {al : Al} {iv : Iv} {rv : Rv} {H H1 : Heap} (hU : UW D cA sz al iv rv H) (hB : RB al rv) {t : Nat} {f : Nat → Int32} (hz : sz ≤ H.size) (o : ∀ q : Nat, q < H.size → H1[q]? = H[q]?)
    (hc : cellAt D cA t H.size (fun k => match (pt t).2.2.2 k with | none => .int (f k) | some _ => .null) H1) : UW D cA sz (grow al t H.size) (clf iv t (al.1 t) f) (clr rv t (al.1 t) none) H1 := by
  have split : ∀ t1 i1, i1 < (grow al t H.size).1 t1 → (t1 = t ∧ i1 = al.1 t) ∨ (i1 < al.1 t1 ∧ ¬ (t1 = t ∧ i1 = al.1 t)) := by
    intro t1 i1 h
    by_cases e : t1 = t ∧ i1 = al.1 t
    · exact Or.inl e
    · exact Or.inr ⟨grow_lt h e, e⟩
  refine ⟨fun t1 i1 h => ?_, fun t1 i1 t2 i2 h1 h2 e => ?_, fun t1 i1 h => ?_⟩
  · rcases split t1 i1 h with ⟨rfl, rfl⟩ | ⟨h1, e⟩
    · rw [grow_new]
      refine hc.congr (fun k hk => ?_)
      cases hp : (pt t1).2.2.2 k with
      | none => simp only [vl, hp, clf_self]
      | some t' => simp only [vl, hp, clr_self]; rfl
    · rw [grow_ad h1]
      refine ((hU.1 t1 i1 h1).kept (o _ (hU.1 t1 i1 h1).lt)).congr (fun k hk => ?_)
      cases hp : (pt t1).2.2.2 k with
      | none => simp only [vl, hp, clf_ne e]
      | some t' =>
        simp only [vl, hp, clr_ne e]
        cases hr : rv t1 i1 k with
        | none => rfl
        | some j =>
          have hj := hB t1 i1 k t' h1 hk hp j hr
          show va_rf (some (al.2 t' j)) = va_rf (some ((grow al t H.size).2 t' j))
          rw [grow_ad hj]
  · rcases split t1 i1 h1 with ⟨rfl, rfl⟩ | ⟨g1, e1⟩ <;> rcases split t2 i2 h2 with ⟨rfl, rfl⟩ | ⟨g2, e2⟩
    · exact ⟨rfl, rfl⟩
    · rw [grow_new, grow_ad g2] at e; have := (hU.1 t2 i2 g2).lt; omega
    · rw [grow_new, grow_ad g1] at e; have := (hU.1 t1 i1 g1).lt; omega
    · rw [grow_ad g1, grow_ad g2] at e; exact hU.2.1 t1 i1 t2 i2 g1 g2 e
  · rcases split t1 i1 h with ⟨rfl, rfl⟩ | ⟨g1, e1⟩
    · rw [grow_new]; exact hz
    · rw [grow_ad g1]; exact hU.2.2 t1 i1 g1
theorem RG.newf {al : Al} {iv : Iv} (h : RG al iv) (t a : Nat) {f : Nat → Int32} (hf : ∀ k, k < (pt t).2.1 → (rg t k).1 ≤ (f k).toInt ∧ (f k).toInt ≤ (rg t k).2) : RG (grow al t a) (clf iv t (al.1 t) f) := by
  intro t1 i1 k1 h1 h2
  by_cases e : t1 = t ∧ i1 = al.1 t
  · obtain ⟨rfl, rfl⟩ := e; rw [clf_self]; exact hf k1 h2
  · rw [clf_ne e]; exact h t1 i1 k1 (grow_lt h1 e) h2
theorem EXT.newf {N : Nat → Nat} {M : Mo} {al al1 : Al} {iv iv1 : Iv} {rv rv1 : Rv} (h : EXT N M al iv rv al1 iv1 rv1) (t a : Nat) {f : Nat → Int32} (hm : t ∈ M.1) : EXT (nx N t) M al iv rv (grow al1 t a) (clf iv1 t (al1.1 t) f) (clr rv1 t (al1.1 t) none) := by
  obtain ⟨h1, h2, h3, h4⟩ := h
  refine ⟨fun t' => by rw [grow_ct, h1]; unfold nx; omega, fun t' i' q => ?_, fun t' i' k' q m => ?_, fun t' i' k' q1 q2 m => ?_⟩
  · rw [grow_ad (by rw [h1]; omega)]; exact h2 t' i' q
  · have e : ¬ (t' = t ∧ i' = al1.1 t) := fun z => m (Or.inl (by rw [z.1]; exact hm))
    rw [clf_ne e, clr_ne e]; exact h3 t' i' k' q m
  · have e : ¬ (t' = t ∧ i' = al1.1 t) := fun z => m (Or.inl (by rw [z.1]; exact hm))
    rw [clf_ne e, clr_ne e]; exact h4 t' i' k' q1 (grow_lt q2 e) m
theorem CI.newf {t0 i0 o : Nat} {N : Nat → Nat} {M : Mo} {L : List Nat} {al al1 : Al} {iv iv1 : Iv} {rv rv1 : Rv} (h : CI t0 i0 o N M L al iv rv al1 iv1 rv1) (t a : Nat) (ht : t0 ≠ t) {f : Nat → Int32} (hm : t ∈ M.1) (hf : ∀ k, k < (pt t).2.1 → (rg t k).1 ≤ (f k).toInt ∧ (f k).toInt ≤ (rg t k).2) : CI t0 i0 o (nx N t) M L al iv rv (grow al1 t a) (clf iv1 t (al1.1 t) f) (clr rv1 t (al1.1 t) none) := by
  obtain ⟨h1, h2, h3, h4, h5, h6⟩ := h
  refine ⟨h1.newf t a hf, h2.new t a, h3.newf t a hm, h4.keep (fun k => clr_ne (fun z => ht z.1)), ?_, ?_⟩
  · rw [grow_ad h6]; exact h5
  · rw [grow_ct]; omega
section STT
variable {p : Program} {l : Launch} {e : Env} {R : Room} {s : State} {m : MethodId} {args : Array Value} {below : List Frame} {meth : Method} {c : Code} {H : Heap} {locs : List Loc} {cells slots : Nat} {Q : State → Prop}
variable {cc : ByteArray} {pc nL : Nat} {ls : Array Slot} {rest : List Value} {own : String} {D : va_G} {cA : FieldType → ClassId} {sz : Nat} {al : Al} {iv : Iv} {rv : Rv}
theorem q_gets (C : Cx p s m args c cc nL own D cA) {n d : String} {v : Value} {index : Nat} (hZ : va_Z RX11 n d v (Aq sz) s s.heap) (hS : va_S (Aq sz) s.heap H locs) (hl : Cond.fieldLink own index RX11 n d ∈ BW) (hdg : decode cc pc = .ok (.getstatic index, 3))
    (kk : W p l e R s m args below meth c H locs cells slots Q (F0 m (pc + 3) ls (v :: rest))) : W p l e R s m args below meth c H locs cells slots Q (F0 m pc ls rest) :=
  va_gets C.1.1 C.1.2.1 hZ hS C.1.2.2.2.1 (C.1.2.2.2.2 _ hl) (fun _ h => h) hdg kk
theorem q_clone (C : Cx p s m args c cc nL RX11 D cA) (hU : UW D cA sz al iv rv H) (hS : va_S (Aq sz) s.heap H locs) (hB : RB al rv) (hz : sz ≤ H.size) {t t0 : Nat} {f : Nat → Int32} (hE : EA t0 4 f (cA .int) (Aq sz) s.heap) (hcb : va_Nw (.castable "[I" "java/lang/Cloneable") s) (kp : (pt t).1 = none ∧ (pt t).2.1 = 4 ∧ (pt t).2.2.1 = .int) (htg : ∀ k, (pt t).2.2.2 k = none) (hls : ls.size = nL)
    (hframes : 1 ≤ R.frames) (hlocals : (rest.map fun v => v.category).sum + 14 ≤ R.locals) (hcells : cells + 1 ≤ R.cells) (hslots : slots + 4 ≤ R.slots) (hdg : decode cc pc = .ok (.invokevirtual 62, 3))
    (kk : ∀ (a : Nat) (H1 : Heap), UW D cA sz (grow al t a) (clf iv t (al.1 t) f) (clr rv t (al.1 t) none) H1 → va_S (Aq sz) s.heap H1 locs → (∃ cell : Cell, H1[a]? = some cell ∧ cell.vm.isStatics = false ∧ s.vm.findClass "[I" = some cell.cls) → W p l e R s m args below meth c H1 locs (cells + 1) (slots + 4) Q (F0 m (pc + 3) ls (.ref a :: rest))) : W p l e R s m args below meth c H locs cells slots Q (F0 m pc ls (.ref t0 :: rest)) := by
  obtain ⟨⟨hx, hb, hml, hown, hts⟩, hK⟩ := C
  obtain ⟨hA1, hA2⟩ := hK.2.1 .int (by decide)
  have hnm : s.vm.findClass "[I" = some (cA .int) := hA2
  obtain ⟨cell, e1, e2, e3, e4, e5, e6, e7⟩ := hE
  have eH : H[t0]? = some cell := by rw [hS.2.1 t0 (Array.getElem?_eq_some_iff.mp e1).1 e7]; exact e1
  obtain ⟨c0, t0', f1, f2, f3⟩ := Cond.castable_spec (va_Nw.use (A := args) rfl hcb)
  cases hnm.symm.trans f1
  obtain ⟨-, kS, hkS, compS, hkindS⟩ := hA1 0 (fun _ => .null)
  intro T hT X
  obtain ⟨-, kA, hkA, comp, hkind⟩ := State.isArrayOf_alike X.warmed.alike (hA1 0 (fun _ => .null))
  have hsl : cell.slots = (arrV (cA .int) 4 (fun k => .int (f k))).slots := by
    apply Array.ext
    · rw [e5, arrV_size]
    · intro i h1 h2
      have hi : i < 4 := by omega
      have a1 := e6 i hi
      have a2 := arrV_read (cA .int) (fun k => Value.int (f k)) hi
      rw [Array.getElem?_eq_getElem h1] at a1
      rw [Array.getElem?_eq_getElem h2] at a2
      exact (Option.some.inj a1).trans (Option.some.inj a2).symm
  obtain ⟨vm', X', st⟩ := X.cloneArray hx hown (hts _ wk_1) (hts _ wk_2) (hts _ wk_3) (hts _ wk_4) (hts _ wk_5) (a := t0) (cell := cell) (by rw [hT]; exact eH) e4 e3 (by rw [e2]; exact hnm) f2 (by rw [e2]; exact f3)
    (fun i v hv => by
      rw [e2]
      have hk' : T.vm.classes[cA .int]? = some kA := hkA
      have hi : i < 4 := by have := (Array.getElem?_eq_some_iff.mp hv).1; omega
      rw [e6 i hi] at hv
      cases hv
      simp [State.fitsSlot, State.slotType?, hk', hkind, fits])
    (g := F0 m pc ls (.ref t0 :: rest)) rfl (by rw [hml]; exact hls) rfl (by rw [hb]; exact hdg) hframes (by show 2 * 0 + _ + 14 ≤ _; omega) hcells (by rw [e5]; exact hslots) (hloader := by rw [e2]; exact Vm.clonesLoader_of_array hkS hkindS)
  have hcl : ({ cls := cell.cls, slots := cell.slots } : Cell) = arrV (cA .int) 4 (fun k => .int (f k)) := by
    rw [e2, hsl]; rfl
  rw [hcl, e5] at X'
  rw [hcl] at st
  generalize hH1 : H.push (arrV (cA .int) 4 (fun k => .int (f k))) = H1
  have z1 : H1.size = H.size + 1 := by rw [← hH1, Array.size_push]
  have d1 : H1[H.size]? = some (arrV (cA .int) 4 (fun k => .int (f k))) := by rw [← hH1, Array.getElem?_push_size]
  have o1 : ∀ q : Nat, q < H.size → H1[q]? = H[q]? := fun q hq => by rw [← hH1, Array.getElem?_push, if_neg (Nat.ne_of_lt hq)]
  obtain ⟨t2, b1, b2⟩ := kk H.size H1 (hU.newf hB hz o1 (cellAt.ofAr kp.1 (by rw [d1, kp.2.1, kp.2.2]; congr 2; funext k; rw [htg k]))) (hS_new hS z1 o1) ⟨_, d1, rfl, hnm⟩ _ (by show T.heap.push _ = _; rw [hT]; exact hH1) X'
  exact ⟨t2, st t2 (by rw [hT]; exact b1), b2⟩
end STT
