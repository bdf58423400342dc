section MK0
variable {l : Launch} {cc : ByteArray} {nL : Nat} {own : String} {D : va_G} {cA : FieldType → ClassId} {sz : Nat} {al : Al} {iv : Iv} {rv : Rv}
theorem mk_i {y : MethodName} {rmm : Room} {vs : List Value} {post : Int32 → Iv → Rv → Prop} (hy : plainName y.cls = true) (hn : (lg_sl vs).length ≤ nL) (ho : y.cls = own)
    (body : ∀ (p : Program) (e : Env) (s : State) (m : MethodId) (args : Array Value) (below : List Frame) (meth : Method) (c : Code) (ls : Array Slot) (Q : State → Prop) (H : Heap) (locs : List Loc), Cx p s m args c cc nL own D cA → UW D cA sz al iv rv H → va_S (Aq sz) s.heap H locs → lv_has ls nL (lv_args 0 vs) →
      (∀ {r : Int32} {iv' : Iv} {rv' : Rv} {H : Heap} {locs : List Loc} {pc : Nat} {ls : Array Slot}, post r iv' rv' → UW D cA sz al iv' rv' H → va_S (Aq sz) s.heap H locs → decode cc pc = .ok (.ireturn, 1) → W p l e rmm s m args below meth c H locs 0 0 Q (F0 m pc ls [.int r])) →
      W p l e rmm s m args below meth c H locs 0 0 Q (F0 m 0 ls [])) :
    Met l y (wd y cc nL (some .int)) rmm (PcW D cA sz al iv rv vs) (QI D cA sz al post) 0 0 (Aq sz) :=
  mk_met hy hn ho (fun p e s m below meth c ls C hr hlk _ hU hS hl => body p e s m _ below meth c ls _ _ _ C hU hS hl (fun hp hU hS hdg => q_iret C hr hlk hU hS hp hdg))
theorem mk_z {y : MethodName} {rmm : Room} {vs : List Value} {post : Int32 → Iv → Rv → Prop} (hy : plainName y.cls = true) (hn : (lg_sl vs).length ≤ nL) (ho : y.cls = own)
    (body : ∀ (p : Program) (e : Env) (s : State) (m : MethodId) (args : Array Value) (below : List Frame) (meth : Method) (c : Code) (ls : Array Slot) (Q : State → Prop) (H : Heap) (locs : List Loc), Cx p s m args c cc nL own D cA → UW D cA sz al iv rv H → va_S (Aq sz) s.heap H locs → lv_has ls nL (lv_args 0 vs) →
      (∀ {r : Int32} {iv' : Iv} {rv' : Rv} {H : Heap} {locs : List Loc} {pc : Nat} {ls : Array Slot}, 0 ≤ r.toInt → r.toInt ≤ 1 → post r iv' rv' → UW D cA sz al iv' rv' H → va_S (Aq sz) s.heap H locs → decode cc pc = .ok (.ireturn, 1) → W p l e rmm s m args below meth c H locs 0 0 Q (F0 m pc ls [.int r])) →
      W p l e rmm s m args below meth c H locs 0 0 Q (F0 m 0 ls [])) :
    Met l y (wd y cc nL (some .boolean)) rmm (PcW D cA sz al iv rv vs) (QI D cA sz al post) 0 0 (Aq sz) :=
  mk_met hy hn ho (fun p e s m below meth c ls C hr hlk _ hU hS hl => body p e s m _ below meth c ls _ _ _ C hU hS hl (fun h0 h1 hp hU hS hdg => q_zret C hr hlk hU hS h0 h1 hp hdg))
theorem mk_v {y : MethodName} {rmm : Room} {vs : List Value} {post : Iv → Rv → Prop} (hy : plainName y.cls = true) (hn : (lg_sl vs).length ≤ nL) (ho : y.cls = own)
    (body : ∀ (p : Program) (e : Env) (s : State) (m : MethodId) (args : Array Value) (below : List Frame) (meth : Method) (c : Code) (ls : Array Slot) (Q : State → Prop) (H : Heap) (locs : List Loc), Cx p s m args c cc nL own D cA → UW D cA sz al iv rv H → va_S (Aq sz) s.heap H locs → lv_has ls nL (lv_args 0 vs) →
      (∀ {iv' : Iv} {rv' : Rv} {H : Heap} {locs : List Loc} {pc : Nat} {ls : Array Slot}, post iv' rv' → UW D cA sz al iv' rv' H → va_S (Aq sz) s.heap H locs → decode cc pc = .ok (.return_, 1) → W p l e rmm s m args below meth c H locs 0 0 Q (F0 m pc ls [])) →
      W p l e rmm s m args below meth c H locs 0 0 Q (F0 m 0 ls [])) :
    Met l y (wd y cc nL none) rmm (PcW D cA sz al iv rv vs) (QV D cA sz al post) 0 0 (Aq sz) :=
  mk_met hy hn ho (fun p e s m below meth c ls C hr hlk _ hU hS hl => body p e s m _ below meth c ls _ _ _ C hU hS hl (fun hp hU hS hdg => q_vret C hr hlk hU hS hp hdg))
theorem mk_r {y : MethodName} {rmm : Room} {vs : List Value} {t' : Nat} {cn : String} {post : Option Nat → Iv → Rv → Prop} (hy : plainName y.cls = true) (hn : (lg_sl vs).length ≤ nL) (ho : y.cls = own)
    (body : ∀ (p : Program) (e : Env) (s : State) (m : MethodId) (args : Array Value) (below : List Frame) (meth : Method) (c : Code) (ls : Array Slot) (Q : State → Prop) (H : Heap) (locs : List Loc), Cx p s m args c cc nL own D cA → UW D cA sz al iv rv H → va_S (Aq sz) s.heap H locs → lv_has ls nL (lv_args 0 vs) →
      (∀ {iv' : Iv} {rv' : Rv} {H : Heap} {locs : List Loc} {pc : Nat} {ls : Array Slot} (r : Option Nat), post r iv' rv' → UW D cA sz al iv' rv' H → va_S (Aq sz) s.heap H locs → decode cc pc = .ok (.areturn, 1) → W p l e rmm s m args below meth c H locs 0 0 Q (F0 m pc ls [rfv al t' r])) →
      W p l e rmm s m args below meth c H locs 0 0 Q (F0 m 0 ls [])) :
    Met l y (wd y cc nL (some (.object cn))) rmm (PcW D cA sz al iv rv vs) (QR D cA sz al t' post) 0 0 (Aq sz) :=
  mk_met hy hn ho (fun p e s m below meth c ls C hr hlk _ hU hS hl => body p e s m _ below meth c ls _ _ _ C hU hS hl (fun r hp hU hS hdg => q_aret C hr (Or.inl ⟨_, rfl⟩) hlk hU hS hp hdg))
end MK0
