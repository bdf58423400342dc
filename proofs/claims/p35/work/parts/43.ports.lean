theorem va_AOA.moved {t : FieldType} {u U : State} (hvm : u.vm.Alike U.vm) (h : va_AOA t u) : va_AOA t U := by
  obtain ⟨comp, ci, k, h1, h2, h3, h4, h5⟩ := arrayOverA_spec h
  obtain ⟨k', hk', he⟩ := hvm.2.2 _ _ h3
  have hi : (U.vm.classes.findIdx? fun (x : Class) => match x.kind with | .array component _ => component == comp | _ => false) = some ci := by
    rw [hvm.findIdx?_eq _ (fun _ => rfl)]
    exact h2
  have hkind : k'.kind = .array comp (.array t) := by rw [he]; exact h4
  have f1 : U.vm.findClass (FieldType.array t).toString = some comp := by rw [hvm.findClass]; exact h1
  have f2 : U.vm.findClass ("[" ++ (FieldType.array t).toString) = some ci := by rw [hvm.findClass]; exact h5
  unfold va_AOA Cond.before Cond.holds
  simp only [Cond.value]
  rw [f1, Option.bind_some]
  refine (congrArg (fun o : Option Nat => (o.bind (fun c => (U.vm.classes[c]?).map fun (k : Class) => match k.kind with | .array _ ty => decide (ty = FieldType.array t) && decide (U.vm.findClass ("[" ++ (FieldType.array t).toString) = some c) | _ => false) == some true)) hi).trans ?_
  simp [hk', hkind, f2]
def al2 (al : Al) (a : Nat) : Al := (fun t => if t = 54 then 1 else if t = 55 then 10 else al.1 t, fun t i => if t = 54 then a else if t = 55 then a + 1 + i else al.2 t i)
def iv2 (iv : Iv) : Iv := fun t i k => if t = 54 ∨ t = 55 then 0 else iv t i k
def rv2 (rv : Rv) : Rv := fun t i k => if t = 54 then (if k < 10 then some k else none) else if t = 55 then none else rv t i k
section MNA
variable {p : Program} {l : Launch} {e : Env} {R : Room} {s : State} {m : MethodId} {args : Array Value} {below : List Frame} {meth : Method} {c : Code} {H : Heap} {locs : List Loc} {cells slots : Nat} {Q : State → Prop}
variable {cc : ByteArray} {pc nL : Nat} {ls : Array Slot} {rest : List Value} {own : String} {D : va_G} {cA : FieldType → ClassId} {sz : Nat} {al : Al} {iv : Iv} {rv : Rv}
theorem UW.two {H1 : Heap} (hU : UW D cA sz al iv rv H) (hB : RB al rv) (hz : sz ≤ H.size) (c54 : al.1 54 = 0) (c55 : al.1 55 = 0) (o : ∀ q : Nat, q < H.size → H1[q]? = H[q]?)
    (ho : H1[H.size]? = some (arrV (cA (.array .int)) 10 (fun i => va_rf (if i < 10 then some (H.size + 1 + i) else none)))) (hr : ∀ j : Nat, j < 10 → H1[H.size + 1 + j]? = some (arrV (cA .int) 10 (fun _ => .int 0))) : UW D cA sz (al2 al H.size) (iv2 iv) (rv2 rv) H1 := by
  have spl : ∀ t i, i < (al2 al H.size).1 t → (t = 54 ∧ i = 0) ∨ (t = 55 ∧ i < 10) ∨ (t ≠ 54 ∧ t ≠ 55 ∧ i < al.1 t) := by
    intro t i h
    by_cases e1 : t = 54
    · subst e1; left; simp [al2] at h; exact ⟨rfl, h⟩
    · by_cases e2 : t = 55
      · subst e2; right; left; simp [al2] at h; exact ⟨rfl, h⟩
      · right; right; simp [al2, e1, e2] at h; exact ⟨e1, e2, h⟩
  have ad : ∀ t i, t ≠ 54 → t ≠ 55 → (al2 al H.size).2 t i = al.2 t i := fun t i h1 h2 => by simp [al2, h1, h2]
  refine ⟨fun t i h => ?_, fun t i t' i' h h' q => ?_, fun t i h => ?_⟩
  · rcases spl t i h with ⟨rfl, rfl⟩ | ⟨rfl, hi⟩ | ⟨e1, e2, hi⟩
    · refine cellAt.ofAr rfl ?_
      show H1[H.size]? = some (arrV (cA (.array .int)) 10 (vl (al2 al H.size) (iv2 iv) (rv2 rv) 54 0))
      rw [ho]
      congr 2
      funext k
      show va_rf _ = va_rf (Option.map _ _)
      by_cases hk : k < 10
      · simp [rv2, hk, al2]
      · simp [rv2, hk]
    · refine cellAt.ofAr rfl ?_
      have := hr i hi
      show H1[H.size + 1 + i]? = some (arrV (cA .int) 10 (vl (al2 al H.size) (iv2 iv) (rv2 rv) 55 i))
      rw [this]
      congr 2
    · rw [ad t i e1 e2]
      refine ((hU.1 t i hi).kept (o _ (hU.1 t i hi).lt)).congr (fun k hk => ?_)
      cases hp : (pt t).2.2.2 k with
      | none => simp only [vl, hp, iv2, e1, e2, or_self, if_false]
      | some t' =>
        simp only [vl, hp, rv2, e1, e2, if_false]
        cases hrv : rv t i k with
        | none => rfl
        | some j =>
          have hj := hB t i k t' hi hk hp j hrv
          have n1 : t' ≠ 54 := fun z => by subst z; omega
          have n2 : t' ≠ 55 := fun z => by subst z; omega
          show va_rf (some (al.2 t' j)) = va_rf (some ((al2 al H.size).2 t' j))
          rw [ad t' j n1 n2]
  · rcases spl t i h with ⟨rfl, rfl⟩ | ⟨rfl, hi⟩ | ⟨e1, e2, hi⟩ <;> rcases spl t' i' h' with ⟨rfl, rfl⟩ | ⟨rfl, hi'⟩ | ⟨e1', e2', hi'⟩
    · exact ⟨rfl, rfl⟩
    · simp [al2] at q; omega
    · rw [ad t' i' e1' e2'] at q; have := (hU.1 t' i' hi').lt; simp [al2] at q; omega
    · simp [al2] at q; omega
    · simp [al2] at q; exact ⟨rfl, q⟩
    · rw [ad t' i' e1' e2'] at q; have := (hU.1 t' i' hi').lt; simp [al2] at q; omega
    · rw [ad t i e1 e2] at q; have := (hU.1 t i hi).lt; simp [al2] at q; omega
    · rw [ad t i e1 e2] at q; have := (hU.1 t i hi).lt; simp [al2] at q; omega
    · rw [ad t i e1 e2, ad t' i' e1' e2'] at q; exact hU.2.1 t i t' i' hi hi' q
  · rcases spl t i h with ⟨rfl, rfl⟩ | ⟨rfl, hi⟩ | ⟨e1, e2, hi⟩
    · simp [al2]; exact hz
    · simp [al2]; omega
    · rw [ad t i e1 e2]; exact hU.2.2 t i hi
theorem q_mna (C : Cx p s m args c cc nL own D cA) (hU : UW D cA sz al iv rv H) (hS : va_S (Aq sz) s.heap H locs) (hB : RB al rv) (hz : sz ≤ H.size) (c54 : al.1 54 = 0) (c55 : al.1 55 = 0) {index : Nat} (hcl : Cond.classLink own index "[[I" ∈ BW) (hov : va_AOA .int s) (hcells : cells + (1 + 10) ≤ R.cells) (hslots : slots + (10 + 10 * 10) ≤ R.slots) (hdg : decode cc pc = .ok (.multianewarray index 2, 4))
    (kk : ∀ (a : Nat) (H1 : Heap), UW D cA sz (al2 al a) (iv2 iv) (rv2 rv) H1 → va_S (Aq sz) s.heap H1 locs → sz ≤ H1.size → W p l e R s m args below meth c H1 locs (cells + 1 + 10) (slots + 10 + 10 * 10) Q (F0 m (pc + 4) ls (.ref a :: rest))) : W p l e R s m args below meth c H locs cells slots Q (F0 m pc ls (.int 10 :: .int 10 :: rest)) := by
  obtain ⟨⟨hx, hb, hml, hown, hts⟩, hK⟩ := C
  intro T hT Xs
  have e10 : (10 : Int32).toNatClampNeg = 10 := by decide
  obtain ⟨vm₁, cO, comp, -, fA, fC, hO, -, X', step⟩ := Xs.multianewarray2F hx (own := own) (index := index) (ty := .int) hown (hts _ hcl) (va_AOA.use hov) (hts _ ac_int) (g := F0 m pc ls (.int 10 :: .int 10 :: rest)) rfl (by rw [hb]; exact hdg) rfl (by decide) (by decide) (by decide) (by decide) (by decide) (by decide) (by decide) (by rw [e10]; exact hcells) (by rw [e10]; exact hslots)
  rw [e10] at X' step
  generalize hF : Jvm.Free.Multi.fill (T.setVm vm₁) cO comp 10 10 (defaultValue .int) 10 = F at X' step
  have hTh : (T.setVm vm₁).heap = H := hT
  obtain ⟨f1, f2, -, -⟩ := Jvm.Free.Multi.fill_facts (T.setVm vm₁) cO comp 10 10 (defaultValue .int) 10
  rw [hF, hTh] at f1 f2
  have hold : ∀ x : Nat, x < H.size → F.heap[x]? = H[x]? := fun x hxx => by
    have := Jvm.Free.Multi.fill_old (T.setVm vm₁) cO comp 10 10 (defaultValue .int) (a := x) (by rw [hTh]; exact hxx) 10
    rw [hF, hTh] at this
    exact this
  have hrow : ∀ j : Nat, j < 10 → F.heap[H.size + 1 + j]? = some (arrV (cA .int) 10 (fun _ => .int 0)) := fun j hj => by
    have h0 := Jvm.Free.Multi.fill_inner (T.setVm vm₁) cO comp 10 10 (defaultValue .int) 10 j hj
    rw [hF, hTh] at h0
    have hc : comp = cA .int := Option.some.inj (fC.symm.trans (hK.2.1 .int (by decide)).2)
    rw [h0, hc]
    show some ({ cls := cA .int, slots := Array.replicate 10 (.int 0), vm := .none } : Cell) = _
    rw [arrV_new]
  have hcO : cO = cA (.array .int) := Option.some.inj (fA.symm.trans (hK.2.1 (.array .int) (by decide)).2)
  rw [vr_outer, hcO] at f2
  have hsz : H.size ≤ F.heap.size := by rw [f1]; omega
  obtain ⟨t, a1, b1⟩ := kk H.size F.heap (hU.two hB hz c54 c55 hold f2 hrow) ⟨Nat.le_trans hS.1 hsz, fun x h1 h2 => (hold x (Nat.lt_of_lt_of_le h1 hS.1)).trans (hS.2.1 x h1 h2), hS.2.2⟩ (Nat.le_trans hz hsz) F rfl X'
  refine ⟨t, step t ?_, b1⟩
  have ee : T.heap.size = H.size := by rw [hT]
  rw [ee]
  exact a1
end MNA
