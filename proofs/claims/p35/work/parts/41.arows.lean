def PcA (D : va_G) (cA : FieldType → ClassId) (sz : Nat) (al : Al) (iv : Iv) (rv : Rv) (vs : List Value) (X : State → Prop) : Array Value → State → Prop := va_Pc vs (fun U => UW D cA sz al iv rv U.heap ∧ KU D cA U ∧ sz ≤ U.heap.size ∧ X U)
def QVA (D : va_G) (cA : FieldType → ClassId) (sz : Nat) (post : Al → Iv → Rv → Prop) : Array Value → State → Outcome → State → Prop := fun _ st oc t =>
  (∃ (al : Al) (iv : Iv) (rv : Rv), oc = .returned none ∧ post al iv rv ∧ UW D cA sz al iv rv t.heap) ∧ va_F (Aq sz) st t
def QIA (D : va_G) (cA : FieldType → ClassId) (sz : Nat) (post : Int32 → Al → Iv → Rv → Prop) : Array Value → State → Outcome → State → Prop := fun _ st oc t =>
  (∃ (r : Int32) (al : Al) (iv : Iv) (rv : Rv), oc = .returned (some (.int r)) ∧ post r al iv rv ∧ UW D cA sz al iv rv t.heap) ∧ va_F (Aq sz) st t
section AR
variable {p : Program} {l : Launch} {e : Env} {R : Room} {s : State} {m : MethodId} {args : Array Value} {below : List Frame} {meth : Method} {c : Code} {H : Heap} {locs : List Loc} {cells slots : Nat} {Q : State → Prop}
variable {cc : ByteArray} {pc nL : Nat} {ls : Array Slot} {rest : List Value} {own : String} {D : va_G} {cA : FieldType → ClassId} {sz : Nat} {al : Al} {iv : Iv} {rv : Rv}
theorem hS_new {H1 : Heap} (hS : va_S (Aq sz) s.heap H locs) (z1 : H1.size = H.size + 1) (o1 : ∀ q : Nat, q < H.size → H1[q]? = H[q]?) : va_S (Aq sz) s.heap H1 locs :=
  ⟨Nat.le_trans hS.1 (by omega), fun x h1 h2 => (o1 x (Nat.lt_of_lt_of_le h1 hS.1)).trans (hS.2.1 x h1 h2), hS.2.2⟩
theorem q_newo (C : Cx p s m args c cc nL own D cA) (hU : UW D cA sz al iv rv H) (hS : va_S (Aq sz) s.heap H locs) (hB : RB al rv) (hz : sz ≤ H.size) {t ci N index : Nat} {Cn : String} {T : u_T} (kp : (pt t).1 = some ci ∧ (pt t).2.1 = N) (hc : vwCl[ci]? = some (Cn, T, N)) (hin : ∀ w ∈ u_ws Cn T N, w ∈ BW)
    (ty : Nat → FieldType) (hty : ∀ k, k < N → parseFieldDescriptor (T k).2.2.1 = some (ty k)) (hdef : ∀ k, k < N → defaultValue (ty k) = (match (pt t).2.2.2 k with | none => .int 0 | some _ => .null)) (hcl : Cond.classLink own index Cn ∈ BW) (hib : Cond.instantiable Cn N ∈ BW) (hiz : Cond.initialized Cn ∈ BW)
    (hcells : cells + 1 ≤ R.cells) (hslots : slots + N ≤ R.slots) (hdg : decode cc pc = .ok (.new index, 3))
    (kk : ∀ (a : Nat) (H1 : Heap), UW D cA sz (grow al t a) (clr iv t (al.1 t) 0) (clr rv t (al.1 t) none) H1 → va_S (Aq sz) s.heap H1 locs → sz ≤ H1.size → W p l e R s m args below meth c H1 locs (cells + 1) (slots + N) Q (F0 m (pc + 3) ls (.ref a :: rest))) : W p l e R s m args below meth c H locs cells slots Q (F0 m pc ls rest) := by
  obtain ⟨⟨hx, hb, hml, hown, hts⟩, hK⟩ := C
  have hKn := hK.1.1 ci _ hc
  refine W.newcK hx hb hown (hts _ hcl) (hts _ hib) (hts _ hiz) rfl hdg hcells hslots hKn.2.1 rfl fun H1 kC hkC e1 z1 o1 => ?_
  refine kk H.size H1 (hU.new hB hz o1 (cellAt.ofOb kp.1 ?_)) (hS_new hS z1 o1) (by omega)
  rw [kp.2]
  exact (u_born ty hts hin hKn hkC e1 hty).to hdef
theorem q_newp (C : Cx p s m args c cc nL own D cA) (hU : UW D cA sz al iv rv H) (hS : va_S (Aq sz) s.heap H locs) (hB : RB al rv) (hz : sz ≤ H.size) {t N : Nat} {atype : ArrayType} {ty : FieldType} (hat : newarray.typeOf atype = ty) (h2 : ty = .int ∨ ty = .boolean) (kp : (pt t).1 = none ∧ (pt t).2.1 = N ∧ (pt t).2.2.1 = ty) (htg : ∀ k, (pt t).2.2.2 k = none) (hac : Cond.arrayClass ty ∈ BW)
    {n : Int32} (hn : ¬ n < 0) (hN : n.toNatClampNeg = N) (hby : N * 8 ≤ 536870912) (hcells : cells + 1 ≤ R.cells) (hslots : slots + N ≤ R.slots) (hdg : decode cc pc = .ok (.newarray atype, 2))
    (kk : ∀ (a : Nat) (H1 : Heap), UW D cA sz (grow al t a) (clr iv t (al.1 t) 0) (clr rv t (al.1 t) none) H1 → va_S (Aq sz) s.heap H1 locs → sz ≤ H1.size → W p l e R s m args below meth c H1 locs (cells + 1) (slots + N) Q (F0 m (pc + 2) ls (.ref a :: rest))) : W p l e R s m args below meth c H locs cells slots Q (F0 m pc ls (.int n :: rest)) := by
  obtain ⟨⟨hx, hb, hml, hown, hts⟩, hK⟩ := C
  have hr := (hK.2.1 ty (by rcases h2 with rfl | rfl <;> decide)).2
  refine va_newaK hx hb (by rw [hat]; exact hts _ hac) rfl hdg rfl hn hN (by rw [hat]; rcases h2 with rfl | rfl <;> simp [componentBytes] <;> omega) hcells hslots rfl fun H1 cA' e1 z1 o1 hAr hNm => ?_
  refine kk H.size H1 (hU.new hB hz o1 (cellAt.ofAr kp.1 ?_)) (hS_new hS z1 o1) (by omega)
  have hcA : cA' = cA ty := by
    rw [hat] at hNm
    rcases h2 with rfl | rfl <;> exact Option.some.inj (hNm.symm.trans hr)
  rw [e1, kp.2.1, kp.2.2, hcA, hat]
  congr 2
  funext k
  rw [htg k]
  rcases h2 with rfl | rfl <;> rfl
theorem q_newr (C : Cx p s m args c cc nL own D cA) (hU : UW D cA sz al iv rv H) (hS : va_S (Aq sz) s.heap H locs) (hB : RB al rv) (hz : sz ≤ H.size) {t t' N index : Nat} {Cn : String} (kp : (pt t).1 = none ∧ (pt t).2.1 = N ∧ (pt t).2.2.1 = .object Cn) (hty : FieldType.object Cn ∈ aty) (htg : ∀ k, (pt t).2.2.2 k = some t') (hcl : Cond.classLink own index Cn ∈ BW) (hao : va_AO Cn s)
    {n : Int32} (hn : ¬ n < 0) (hN : n.toNatClampNeg = N) (hby : N * 4 ≤ 536870912) (hcells : cells + 1 ≤ R.cells) (hslots : slots + N ≤ R.slots) (hdg : decode cc pc = .ok (.anewarray index, 3))
    (kk : ∀ (a : Nat) (H1 : Heap), UW D cA sz (grow al t a) (clr iv t (al.1 t) 0) (clr rv t (al.1 t) none) H1 → va_S (Aq sz) s.heap H1 locs → sz ≤ H1.size → W p l e R s m args below meth c H1 locs (cells + 1) (slots + N) Q (F0 m (pc + 3) ls (.ref a :: rest))) : W p l e R s m args below meth c H locs cells slots Q (F0 m pc ls (.int n :: rest)) := by
  obtain ⟨⟨hx, hb, hml, hown, hts⟩, hK⟩ := C
  obtain ⟨kA', comp', -, -, -, hr⟩ := (hK.2.1 _ hty).2
  subst hN
  refine W.anew hx hb hown (hts _ hcl) (va_AO.use hao) rfl hdg rfl hn hby hcells hslots fun cA' kA comp f1 f2 f3 f4 => ?_
  generalize hH1 : H.push ({ cls := cA', slots := Array.replicate n.toNatClampNeg .null, vm := .none } : Cell) = H1
  have z1 : H1.size = H.size + 1 := by rw [← hH1, Array.size_push]
  have e1 : H1[H.size]? = some (arrV cA' n.toNatClampNeg (fun _ => .null)) := by rw [← hH1, Array.getElem?_push_size, ← arrV_new]
  have o1 : ∀ q : Nat, q < H.size → H1[q]? = H[q]? := fun q hq => by rw [← hH1, Array.getElem?_push, if_neg (Nat.ne_of_lt hq)]
  refine kk H.size H1 (hU.new hB hz o1 (cellAt.ofAr kp.1 ?_)) (hS_new hS z1 o1) (by omega)
  have hcA : cA' = cA (.object Cn) := Option.some.inj (f1.symm.trans hr)
  rw [e1, kp.2.1, kp.2.2, hcA]
  congr 2
  funext k
  rw [htg k]
/-- a constructor or an adder: it may make cells -/
theorem mk_a {y : MethodName} {ret : Option FieldType} {rmm : Room} {vs : List Value} {X : State → Prop} {Qc : Array Value → State → Outcome → State → Prop} {mc ms : Nat} (hy : plainName y.cls = true) (hn : (lg_sl vs).length ≤ nL) (ho : y.cls = own)
    (body : ∀ (p : Program) (e : Env) (s : State) (m : MethodId) (below : List Frame) (meth : Method) (c : Code) (ls : Array Slot), Cx p s m vs.toArray c cc nL own D cA → meth.sig.returnType = ret → meth.locks = false → meth.name = y.name → UW D cA sz al iv rv s.heap → va_S (Aq sz) s.heap s.heap [] → sz ≤ s.heap.size → X s → lv_has ls nL (lv_args 0 vs) → W p l e rmm s m vs.toArray below meth c s.heap [] 0 0 (MQ below Qc vs.toArray s mc ms (Aq sz)) (F0 m 0 ls [])) :
    Met l y (wd y cc nL ret) rmm (PcA D cA sz al iv rv vs X) Qc mc ms (Aq sz) := by
  refine Met.ofW (cc := cc) (maxL := nL) (ret := ret) hy rfl ?_
  intro p e s m args below meth c s₁ B hml hv
  obtain ⟨rfl, hU, hK, hz, hX⟩ := hv
  have hts := atoms_spec (ws := wd y cc nL ret) B.pre
  have hl := lv_entry vs (n := nL) hn
  rw [lg_entry_eq]
  exact body p e s m below meth c _ ⟨⟨B.exec, B.bytes, hml, by rw [← ho]; exact findClass_of_methodNamed B.named, fun w h => hts w (List.mem_cons_of_mem _ h)⟩, hK⟩ B.returns B.notSynchronized (name_of_methodNamed B.named B.method).1 hU va_S.rf hz hX hl
theorem q_vretA {post : Al → Iv → Rv → Prop} (C : Cx p s m args c cc nL own D cA) (hr : meth.sig.returnType = none) (hlk : meth.locks = false) (hU : UW D cA sz al iv rv H) (hS : va_S (Aq sz) s.heap H locs) (hp : post al iv rv) (hdg : decode cc pc = .ok (.return_, 1)) :
    W p l e R s m args below meth c H locs cells slots (MQ below (QVA D cA sz post) args s cells slots (Aq sz)) (F0 m pc ls []) :=
  W.vret C.1.1 C.1.2.1 hr (fun t ht hW => ⟨⟨al, iv, rv, rfl, hp, by rw [ht]; exact hU⟩, hS.F ht⟩) hS.2.2 hdg hlk
theorem q_iretA {post : Int32 → Al → Iv → Rv → Prop} (C : Cx p s m args c cc nL own D cA) (hr : meth.sig.returnType = some .int) (hlk : meth.locks = false) (hU : UW D cA sz al iv rv H) (hS : va_S (Aq sz) s.heap H locs) {r : Int32} (hp : post r al iv rv) (hdg : decode cc pc = .ok (.ireturn, 1)) :
    W p l e R s m args below meth c H locs cells slots (MQ below (QIA D cA sz post) args s cells slots (Aq sz)) (F0 m pc ls [.int r]) :=
  W.iret C.1.1 C.1.2.1 hr (fun t ht hW => ⟨⟨r, al, iv, rv, rfl, hp, by rw [ht]; exact hU⟩, hS.F ht⟩) hS.2.2 hdg hlk
theorem q_runIA {y : MethodName} {bytes : ByteArray} {maxL mc ms n index b : Nat} {rmm : Room} {As : List Value} {X : State → Prop} {Qc : Array Value → State → Outcome → State → Prop} {st : List Value} (C : Cx p s m args c cc nL own D cA) (hU : UW D cA sz al iv rv H) (hz : sz ≤ H.size)
    (hX1 : ∀ U : State, U.heap = H → s.WarmedH U.vm → X U) (hX2 : ∀ (U : State) (g : JFrame) (mk : MethodId) (a : Array Value), X U → X (U.calling g mk a))
    (hM : Met l y (wd y bytes maxL none) rmm (PcA D cA sz al iv rv (.ref b :: As) X) Qc mc ms (Aq sz)) (hcode : Cond.code y bytes maxL none ∈ BW) (him : Cond.instanceMethod y ∈ BW) (hini : Cond.initialized y.cls ∈ BW) (hl : Cond.methodLink own index y ∈ BW) (hy1 : y.name = "<init>") (hd : y.cls ≠ "java/lang/invoke/MethodHandle" ∧ y.cls ≠ "java/lang/invoke/VarHandle" ∧ (parseMethodDescriptor y.desc).map (fun d => d.parameters.length) = some n) (hls : ls.size = nL) (hn : As.length = n) (hst : st = As.reverse ++ .ref b :: rest)
    (hrm : (rest.map fun v => v.category).sum ≤ 8) (hdg : decode cc pc = .ok (.invokespecial index, 3)) (hrc : rmm.cells = mc) (hrs : rmm.slots = ms) (hR : rmm.frames + 1 ≤ R.frames ∧ 8 + (maxL + 11) + rmm.locals ≤ R.locals) (hf : cells + mc ≤ R.cells ∧ slots + ms ≤ R.slots) :
    va_Run p l e R s m args below meth c H locs cells slots mc ms (F0 m pc ls st) rest (Qc (Value.ref b :: As).toArray) (Aq sz) := by
  have hts := C.1.2.2.2.2
  have hK := C.2
  exact va_runI (As := As) (rest := rest) C.1 hM ⟨cb_of hts hcode hini hl hd hrc hrs hR, hy1, hts _ him⟩ ⟨fun a U g mk q => ⟨q.1, q.2.1, q.2.2.1.calling g mk a, q.2.2.2.1, hX2 U g mk a q.2.2.2.2⟩, fun U hH hW => ⟨rfl, by rw [hH]; exact hU, hK.warm hW, by rw [hH]; exact hz, hX1 U hH hW⟩⟩ rfl hn hls hst (lv_room hrm) hdg hf
theorem q_runVA {y : MethodName} {bytes : ByteArray} {maxL mc ms n index t i ci : Nat} {ret : Option FieldType} {rmm : Room} {As : List Value} {q : vw_C} {Qc : Array Value → State → Outcome → State → Prop} {st : List Value} (C : Cx p s m args c cc nL own D cA) (hU : UW D cA sz al iv rv H) (hz : sz ≤ H.size)
    (hM : Met l y (wd y bytes maxL ret) rmm (PcA D cA sz al iv rv (.ref (al.2 t i) :: As) (fun _ => True)) Qc mc ms (Aq sz)) (vm : VM y bytes maxL ret n) (hl : Cond.methodLink own index y ∈ BW) (kp : (pt t).1 = some ci) (hc : vwCl[ci]? = some q) (hq : q.1 = y.cls) (hi : i < al.1 t) (hls : ls.size = nL) (hn : As.length = n) (hst : st = As.reverse ++ .ref (al.2 t i) :: rest)
    (hrm : (rest.map fun v => v.category).sum ≤ 8) (hdg : decode cc pc = .ok (.invokevirtual index, 3)) (hrc : rmm.cells = mc) (hrs : rmm.slots = ms) (hR : rmm.frames + 1 ≤ R.frames ∧ 8 + (maxL + 11) + rmm.locals ≤ R.locals) (hf : cells + mc ≤ R.cells ∧ slots + ms ≤ R.slots) :
    va_Run p l e R s m args below meth c H locs cells slots mc ms (F0 m pc ls st) rest (Qc (Value.ref (al.2 t i) :: As).toArray) (Aq sz) := by
  obtain ⟨v1, v2, v3, v4, v5⟩ := vm
  have hts := C.1.2.2.2.2
  have hK := C.2
  obtain ⟨cell, g1, g2, g3, -⟩ := (hU.1 t i hi).ob kp
  refine va_runV (C := y.cls) (As := As) (rest := rest) C.1 hM ⟨cb_of hts v1 v4 hl v5 hrc hrs hR, hts _ v2, hts _ v3⟩ ⟨fun a U g mk q => ⟨q.1, q.2.1, q.2.2.1.calling g mk a, q.2.2.2.1, trivial⟩, ⟨cell, g1, by rw [g3]; rfl, ?_⟩, fun U hH hW => ⟨rfl, by rw [hH]; exact hU, hK.warm hW, by rw [hH]; exact hz, trivial⟩⟩ rfl hn hls hst (lv_room hrm) hdg hf
  rw [g2, ← hq]; exact (hK.1.1 ci q hc).2.1
theorem q_cvA {mc ms : Nat} {st : List Value} {a : Array Value} {post : Al → Iv → Rv → Prop} (hr : va_Run p l e R s m args below meth c H locs cells slots mc ms (F0 m pc ls st) rest (QVA D cA sz post a) (Aq sz)) (hS : va_S (Aq sz) s.heap H locs) (hz : sz ≤ H.size)
    (kk : ∀ (al' : Al) (iv' : Iv) (rv' : Rv) (H1 : Heap) (locs1 : List Loc), post al' iv' rv' → UW D cA sz al' iv' rv' H1 → va_S (Aq sz) s.heap H1 locs1 → sz ≤ H1.size → W p l e R s m args below meth c H1 locs1 (cells + mc) (slots + ms) Q (F0 m (pc + 3) ls rest)) : W p l e R s m args below meth c H locs cells slots Q (F0 m pc ls st) := by
  intro T hT X
  obtain ⟨v, st₀, t, T', L, h0, X', hL, e1, e2, ⟨⟨al', iv', rv', hv, hp, hb⟩, hz1, hk⟩, go⟩ := hr T hT X
  cases hv
  rw [h0] at hz1 hk
  obtain ⟨t2, a1, b1⟩ := kk al' iv' rv' t.heap (locs ++ L) hp hb ⟨Nat.le_trans hS.1 hz1, fun q h1 h2 => (hk q (Nat.lt_of_lt_of_le h1 hS.1) h2).trans (hS.2.1 q h1 h2), t_lL hS.2.2 hL⟩ (Nat.le_trans hz hz1) T' e1 X'
  exact ⟨t2, go t2 a1, b1⟩
theorem q_ciA {mc ms : Nat} {st : List Value} {a : Array Value} {post : Int32 → Al → Iv → Rv → Prop} (hr : va_Run p l e R s m args below meth c H locs cells slots mc ms (F0 m pc ls st) rest (QIA D cA sz post a) (Aq sz)) (hS : va_S (Aq sz) s.heap H locs) (hz : sz ≤ H.size)
    (kk : ∀ (r : Int32) (al' : Al) (iv' : Iv) (rv' : Rv) (H1 : Heap) (locs1 : List Loc), post r al' iv' rv' → UW D cA sz al' iv' rv' H1 → va_S (Aq sz) s.heap H1 locs1 → sz ≤ H1.size → W p l e R s m args below meth c H1 locs1 (cells + mc) (slots + ms) Q (F0 m (pc + 3) ls (.int r :: rest))) : W p l e R s m args below meth c H locs cells slots Q (F0 m pc ls st) := by
  intro T hT X
  obtain ⟨v, st₀, t, T', L, h0, X', hL, e1, e2, ⟨⟨r, al', iv', rv', hv, hp, hb⟩, hz1, hk⟩, go⟩ := hr T hT X
  cases hv
  rw [h0] at hz1 hk
  obtain ⟨t2, a1, b1⟩ := kk r al' iv' rv' t.heap (locs ++ L) hp hb ⟨Nat.le_trans hS.1 hz1, fun q h1 h2 => (hk q (Nat.lt_of_lt_of_le h1 hS.1) h2).trans (hS.2.1 q h1 h2), t_lL hS.2.2 hL⟩ (Nat.le_trans hz hz1) T' e1 X'
  exact ⟨t2, go t2 a1, b1⟩
end AR
