theorem Cport.s_seen {al al1 : Al} {iv iv1 iv2 : Iv} {rv rv1 rv2 : Rv} {a b by_ r1 r2 : Int32} (hG : GI al iv rv) (hCport : Cport iv rv) (p1 : (spSeen a b by_ = 0 ∧ tkP iv iv1 a.toNatClampNeg b.toNatClampNeg by_ r1 ∧ (CRT iv rv → CRT iv1 rv1)) ∨ (spSeen a b by_ ≠ 0 ∧ r1 = spSeen a b by_ ∧ (∀ k : Nat, iv1 56 k 2 = iv 56 k 2 ∧ iv1 56 k 3 = iv 56 k 3) ∧ (CRT iv rv → CRT iv1 rv1))) (p2 : (spSeen a b by_ = 0 ∧ tkM iv1 iv2 a.toNatClampNeg b.toNatClampNeg by_ r2) ∨ (spSeen a b by_ ≠ 0 ∧ r2 = spSeen a b by_ ∧ ∀ k : Nat, iv2 3 0 k = iv1 3 0 k ∧ iv2 4 0 k = iv1 4 0 k)) (x1 : EX ([51], [(56, 2), (56, 3), (52, 2), (62, 10), (62, 11), (62, 12), (62, 13)]) al iv rv al1 iv1 rv1) (f2 : FR ([16, 4, 3], [(0, 5)]) iv1 iv2) (g2 : FR ([16, 4, 3], [(0, 5)]) rv1 rv2) : Cport iv2 rv2 := by
  have m3 : ∀ k, iv1 3 0 k = iv 3 0 k := fun k => (x1.2.2 3 0 k (h1_3 hG) (MD.no (by decide))).1
  have m4 : ∀ k, iv1 4 0 k = iv 4 0 k := fun k => (x1.2.2 4 0 k (h1_4 hG) (MD.no (by decide))).1
  have m6 : ∀ k, iv2 56 k 2 = iv1 56 k 2 ∧ iv2 56 k 3 = iv1 56 k 3 := fun k => ⟨f2 56 k 2 (by decide), f2 56 k 3 (by decide)⟩
  exact port_s hCport p1 p2 m3 m4 m6
theorem ans_off {al al1 : Al} {iv iv1 iv2 : Iv} {rv rv1 rv2 : Rv} {a r1 r2 : Int32} (hG : GI al iv rv) (hCport : Cport iv rv) (p1 : ((0 ≤ a.toInt ∧ a.toInt ≤ 9) ∧ r1 = iv 56 a.toNatClampNeg 3) ∨ ((¬ (0 ≤ a.toInt ∧ a.toInt ≤ 9)) ∧ r1 = 1000000000 - (-1))) (p2 : ((0 ≤ a.toInt ∧ a.toInt ≤ 9) ∧ r2 = iv1 4 0 a.toNatClampNeg) ∨ ((¬ (0 ≤ a.toInt ∧ a.toInt ≤ 9)) ∧ r2 = 1000000000 - (-1))) (x1 : EX ([51], []) al iv rv al1 iv1 rv1) (f2 : FR ([16], []) iv1 iv2) (g2 : FR ([16], []) rv1 rv2) : r1 = r2 := by
  rcases p1 with ⟨o1, q1⟩ | ⟨o1, q1⟩ <;> rcases p2 with ⟨o2, q2⟩ | ⟨o2, q2⟩
  · rw [q1, q2, (x1.2.2 4 0 _ (h1_4 hG) (MD.no (by decide))).1]; exact (hCport _ (by rw [clamp_n]; omega)).2.symm
  · exact absurd o1 o2
  · exact absurd o2 o1
  · rw [q1, q2]
def REL (iv : Iv) (rv : Rv) : Prop := Cport iv rv
abbrev rT : List Nat := [3, 4]
abbrev rF : List (Nat × Nat) := [(56, 2), (56, 3)]
theorem sT_Cport {md : Mo} (h : RC rT rF md) : RC T_Cport F_Cport md := ⟨fun t ht => h.1 t ((by decide : ∀ t, t ∈ T_Cport → t ∈ rT) t ht), fun q hq => h.2 q ((by decide : ∀ q, q ∈ F_Cport → q ∈ rF) q hq)⟩
theorem REL.fr {al : Al} {iv iv' : Iv} {rv rv' : Rv} {md : Mo} (h : REL iv rv) (hG : GI al iv rv) (f : FR md iv iv') (g : FR md rv rv') (hd : RC rT rF md) : REL iv' rv' := Cport.keep h hG (KP.fr f g (sT_Cport hd))
theorem REL.ex {al al' : Al} {iv iv' : Iv} {rv rv' : Rv} {md : Mo} (h : REL iv rv) (hG : GI al iv rv) (g : EX md al iv rv al' iv' rv') (hd : RC rT rF md) : REL iv' rv' := Cport.keep h hG (KP.ex g (sT_Cport hd))
theorem REL.s_seen {al al1 : Al} {iv iv1 iv2 : Iv} {rv rv1 rv2 : Rv} {a b by_ r1 r2 : Int32} (hG : GI al iv rv) (h : REL iv rv) (p1 : (spSeen a b by_ = 0 ∧ tkP iv iv1 a.toNatClampNeg b.toNatClampNeg by_ r1 ∧ (CRT iv rv → CRT iv1 rv1)) ∨ (spSeen a b by_ ≠ 0 ∧ r1 = spSeen a b by_ ∧ (∀ k : Nat, iv1 56 k 2 = iv 56 k 2 ∧ iv1 56 k 3 = iv 56 k 3) ∧ (CRT iv rv → CRT iv1 rv1))) (p2 : (spSeen a b by_ = 0 ∧ tkM iv1 iv2 a.toNatClampNeg b.toNatClampNeg by_ r2) ∨ (spSeen a b by_ ≠ 0 ∧ r2 = spSeen a b by_ ∧ ∀ k : Nat, iv2 3 0 k = iv1 3 0 k ∧ iv2 4 0 k = iv1 4 0 k)) (x1 : EX ([51], [(56, 2), (56, 3), (52, 2), (62, 10), (62, 11), (62, 12), (62, 13)]) al iv rv al1 iv1 rv1) (f2 : FR ([16, 4, 3], [(0, 5)]) iv1 iv2) (g2 : FR ([16, 4, 3], [(0, 5)]) rv1 rv2) : REL iv2 rv2 := Cport.s_seen hG h p1 p2 x1 f2 g2
theorem REL.s_off {al al1 : Al} {iv iv1 iv2 : Iv} {rv rv1 rv2 : Rv} {a r1 r2 : Int32} (hG : GI al iv rv) (h : REL iv rv) (p1 : ((0 ≤ a.toInt ∧ a.toInt ≤ 9) ∧ r1 = iv 56 a.toNatClampNeg 3) ∨ ((¬ (0 ≤ a.toInt ∧ a.toInt ≤ 9)) ∧ r1 = 1000000000 - (-1))) (p2 : ((0 ≤ a.toInt ∧ a.toInt ≤ 9) ∧ r2 = iv1 4 0 a.toNatClampNeg) ∨ ((¬ (0 ≤ a.toInt ∧ a.toInt ≤ 9)) ∧ r2 = 1000000000 - (-1))) (x1 : EX ([51], []) al iv rv al1 iv1 rv1) (f2 : FR ([16], []) iv1 iv2) (g2 : FR ([16], []) rv1 rv2) : REL iv2 rv2 := Cport.keep h hG (KP.two x1 f2 g2 (by decide) (by decide))
theorem REL.a_off {al al1 : Al} {iv iv1 iv2 : Iv} {rv rv1 rv2 : Rv} {a r1 r2 : Int32} (hG : GI al iv rv) (h : REL iv rv) (p1 : ((0 ≤ a.toInt ∧ a.toInt ≤ 9) ∧ r1 = iv 56 a.toNatClampNeg 3) ∨ ((¬ (0 ≤ a.toInt ∧ a.toInt ≤ 9)) ∧ r1 = 1000000000 - (-1))) (p2 : ((0 ≤ a.toInt ∧ a.toInt ≤ 9) ∧ r2 = iv1 4 0 a.toNatClampNeg) ∨ ((¬ (0 ≤ a.toInt ∧ a.toInt ≤ 9)) ∧ r2 = 1000000000 - (-1))) (x1 : EX ([51], []) al iv rv al1 iv1 rv1) (f2 : FR ([16], []) iv1 iv2) (g2 : FR ([16], []) rv1 rv2) : r1 = r2 := ans_off hG h p1 p2 x1 f2 g2
def LSt (ox om : Nat) (al : Al) (iv : Iv) (rv : Rv) : Prop := GI al iv rv ∧ al.2 49 0 = ox ∧ al.2 0 0 = om ∧ REL iv rv
def LX (p : Program) (s : State) (m : MethodId) (c : Code) (b L : Nat) (xs : Nat → Int32) (D : va_G) (cA : FieldType → ClassId) : Prop := Cx p s m #[Value.ref b] c cL_law 4 RL D cA ∧ va_X b L xs s s.heap ∧ b < s.heap.size ∧ SX cA s.heap.size s s.heap ∧ L ≤ 3584
def bz (x : Int32) : Int32 := if x = 0 then 0 else 1
theorem bz_0 {x : Int32} (h : x.toInt = (0 : Int32).toInt) : (0 : Int32) = bz x := by
  have : x = 0 := (fa_eq _ _).mpr h
  rw [this]; rfl
theorem bz_1 {x : Int32} (h : ¬ x.toInt = (0 : Int32).toInt) : (1 : Int32) = bz x := by
  unfold bz; rw [if_neg (fun e => h (by rw [e]))]
section LR
variable {p : Program} {l : Launch} {e : Env} {R : Room} {s : State} {m : MethodId} {args : Array Value} {below : List Frame} {meth : Method} {c : Code} {H : Heap} {locs : List Loc} {cells slots : Nat} {Q : State → Prop}
variable {cc : ByteArray} {pc nL : Nat} {ls : Array Slot} {rest : List Value} {own : String} {D : va_G} {cA : FieldType → ClassId} {sz : Nat} {al : Al} {iv : Iv} {rv : Rv} {b L : Nat} {xs : Nat → Int32}
theorem q_ai (X : LX p s m c b L xs D cA) (hS : va_S (Aq s.heap.size) s.heap H locs) {i k v : Int32} (hk : 0 ≤ k.toInt ∧ k.toInt ≤ 6) (hi : 0 ≤ i.toInt ∧ i.toInt + 6 < L) (ev : xs (i + k).toNatClampNeg = v) (d1 : decode cL_law pc = .ok (.iadd, 1)) (d2 : decode cL_law (pc + 1) = .ok (.iaload, 1))
    (kk : W p l e R s m #[Value.ref b] below meth c H locs cells slots Q (F0 m (pc + 2) ls (.int v :: rest))) : W p l e R s m #[Value.ref b] below meth c H locs cells slots Q (F0 m pc ls (.int k :: .int i :: .ref b :: rest)) := by
  obtain ⟨C, hX, hbl, -, hL⟩ := X
  have ti : (i + k).toInt = i.toInt + k.toInt := fb_addI (by omega) (by omega)
  refine lv_iadd C.1.1 C.1.2.1 d1 ?_
  refine va_sld (A := Aq s.heap.size) C.1.1 C.1.2.1 hX hbl (fun z => absurd hbl (Nat.not_lt.mpr z)) hS (ix_in (by omega) (by omega)) d2 ?_
  rw [ev]; exact kk
theorem q_runVX {y : MethodName} {bytes : ByteArray} {maxL mc ms n index t i ci : Nat} {ret : Option FieldType} {rmm : Room} {As : List Value} {q : vw_C} {Qc : Array Value → State → Outcome → State → Prop} {X : State → Prop} {st : List Value} (C : Cx p s m args c cc nL own D cA) (hU : UW D cA sz al iv rv H) (hz : sz ≤ H.size)
    (hX1 : ∀ U : State, U.heap = H → s.WarmedH U.vm → X U) (hX2 : ∀ (U : State) (g : JFrame) (mk : MethodId) (a : Array Value), X U → X (U.calling g mk a))
    (hM : Met l y (wd y bytes maxL ret) rmm (PcA D cA sz al iv rv (.ref (al.2 t i) :: As) X) Qc mc ms (Aq sz)) (vm : VM y bytes maxL ret n) (hl : Cond.methodLink own index y ∈ BW) (kp : (pt t).1 = some ci) (hc : vwCl[ci]? = some q) (hq : q.1 = y.cls) (hi : i < al.1 t) (hls : ls.size = nL) (hn : As.length = n) (hst : st = As.reverse ++ .ref (al.2 t i) :: rest)
    (hrm : (rest.map fun v => v.category).sum ≤ 8) (hdg : decode cc pc = .ok (.invokevirtual index, 3)) (hrc : rmm.cells = mc) (hrs : rmm.slots = ms) (hR : rmm.frames + 1 ≤ R.frames ∧ 8 + (maxL + 11) + rmm.locals ≤ R.locals) (hf : cells + mc ≤ R.cells ∧ slots + ms ≤ R.slots) :
    va_Run p l e R s m args below meth c H locs cells slots mc ms (F0 m pc ls st) rest (Qc (Value.ref (al.2 t i) :: As).toArray) (Aq sz) := by
  obtain ⟨v1, v2, v3, v4, v5⟩ := vm
  have hts := C.1.2.2.2.2
  have hK := C.2
  obtain ⟨cell, g1, g2, g3, -⟩ := (hU.1 t i hi).ob kp
  refine va_runV (C := y.cls) (As := As) (rest := rest) C.1 hM ⟨cb_of hts v1 v4 hl v5 hrc hrs hR, hts _ v2, hts _ v3⟩ ⟨fun a U g mk q => ⟨q.1, q.2.1, q.2.2.1.calling g mk a, q.2.2.2.1, hX2 U g mk a q.2.2.2.2⟩, ⟨cell, g1, by rw [g3]; rfl, ?_⟩, fun U hH hW => ⟨rfl, by rw [hH]; exact hU, hK.warm hW, by rw [hH]; exact hz, hX1 U hH hW⟩⟩ rfl hn hls hst (lv_room hrm) hdg hf
  rw [g2, ← hq]; exact (hK.1.1 ci q hc).2.1
end LR
