theorem lst4_rng (j : Nat) : 0 ≤ (lst4 j).toInt ∧ (lst4 j).toInt ≤ 900 := by
  unfold lst4
  split <;> exact ⟨by decide, by decide⟩
theorem grt4_rng (j : Nat) : 0 ≤ (grt4 j).toInt ∧ (grt4 j).toInt ≤ 900 := by
  unfold grt4
  split
  · exact ⟨by decide, by decide⟩
  · split
    · exact ⟨by decide, by decide⟩
    · split <;> exact ⟨by decide, by decide⟩
section MK2
variable {l : Launch} {cc : ByteArray} {nL : Nat} {own : String} {D : va_G} {cA : FieldType → ClassId} {sz : Nat} {al : Al} {iv : Iv} {rv : Rv}
theorem mk_is {y : MethodName} {rmm : Room} {vs : List Value} {X : State → Prop} {post : Int32 → Iv → Rv → Prop} (hy : plainName y.cls = true) (hn : (lg_sl vs).length ≤ nL) (ho : y.cls = own)
    (body : ∀ (p : Program) (e : Env) (s : State) (m : MethodId) (args : Array Value) (below : List Frame) (meth : Method) (c : Code) (ls : Array Slot) (Q : State → Prop) (H : Heap) (locs : List Loc), Cx p s m args c cc nL own D cA → UW D cA sz al iv rv H → va_S (Aq sz) s.heap H locs → X s → sz ≤ s.heap.size → lv_has ls nL (lv_args 0 vs) →
      (∀ {r : Int32} {iv' : Iv} {rv' : Rv} {H : Heap} {locs : List Loc} {pc : Nat} {ls : Array Slot}, post r iv' rv' → UW D cA sz al iv' rv' H → va_S (Aq sz) s.heap H locs → decode cc pc = .ok (.ireturn, 1) → W p l e rmm s m args below meth c H locs 0 0 Q (F0 m pc ls [.int r])) →
      W p l e rmm s m args below meth c H locs 0 0 Q (F0 m 0 ls [])) :
    Met l y (wd y cc nL (some .int)) rmm (PcA D cA sz al iv rv vs X) (QI D cA sz al post) 0 0 (Aq sz) :=
  mk_a hy hn ho (fun p e s m below meth c ls C hr hlk _ hU hS hz hX hl => body p e s m _ below meth c ls _ _ _ C hU hS hX hz hl (fun hp hU hS hdg => q_iret C hr hlk hU hS hp hdg))
theorem mk_ia {y : MethodName} {rmm : Room} {vs : List Value} {X : State → Prop} {post : Int32 → Al → Iv → Rv → Prop} {mc ms : Nat} (hy : plainName y.cls = true) (hn : (lg_sl vs).length ≤ nL) (ho : y.cls = own)
    (body : ∀ (p : Program) (e : Env) (s : State) (m : MethodId) (args : Array Value) (below : List Frame) (meth : Method) (c : Code) (ls : Array Slot) (Q : State → Prop) (H : Heap) (locs : List Loc), Cx p s m args c cc nL own D cA → UW D cA sz al iv rv H → va_S (Aq sz) s.heap H locs → X s → sz ≤ s.heap.size → lv_has ls nL (lv_args 0 vs) →
      (∀ {r : Int32} {al' : Al} {iv' : Iv} {rv' : Rv} {H : Heap} {locs : List Loc} {pc : Nat} {ls : Array Slot}, post r al' iv' rv' → UW D cA sz al' iv' rv' H → va_S (Aq sz) s.heap H locs → decode cc pc = .ok (.ireturn, 1) → W p l e rmm s m args below meth c H locs mc ms Q (F0 m pc ls [.int r])) →
      W p l e rmm s m args below meth c H locs 0 0 Q (F0 m 0 ls [])) :
    Met l y (wd y cc nL (some .int)) rmm (PcA D cA sz al iv rv vs X) (QIA D cA sz post) mc ms (Aq sz) :=
  mk_a hy hn ho (fun p e s m below meth c ls C hr hlk _ hU hS hz hX hl => body p e s m _ below meth c ls _ _ _ C hU hS hX hz hl (fun hp hU hS hdg => q_iretA C hr hlk hU hS hp hdg))
end MK2
