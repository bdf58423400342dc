abbrev rT : List Nat := []
abbrev rF : List (Nat × Nat) := [(0, 37), (79, 4)]
def inR (t k : Nat) : Prop := t ∈ rT ∨ (t, k) ∈ rF
abbrev RC (md : Mo) : Prop := (∀ t, t ∈ rT → t ∉ md.1 ∧ t ∉ md.2.map (fun p => p.1)) ∧ (∀ q, q ∈ rF → ¬ MD md q.1 q.2)
def REL (iv : Iv) (_ : Rv) : Prop := (iv 0 0 37).toInt = (iv 79 0 4).toInt
theorem REL.keep {al : Al} {iv iv' : Iv} {rv rv' : Rv} (h : REL iv rv) (hG : GI al iv rv) (e : ∀ t i k, i < al.1 t → inR t k → iv' t i k = iv t i k ∧ rv' t i k = rv t i k) : REL iv' rv' := by
  unfold REL
  rw [(e 0 0 37 (h1_0 hG) (Or.inr (by decide))).1, (e 79 0 4 (h1_79 hG) (Or.inr (by decide))).1]; exact h
theorem REL.fr {al : Al} {iv iv' : Iv} {rv rv' : Rv} {md : Mo} (h : REL iv rv) (hG : GI al iv rv) (f : FR md iv iv') (g : FR md rv rv') (hd : RC md) : REL iv' rv' := h.keep hG (fun t i k _ q => q.elim (fun z => ⟨f.arr t i k (hd.1 t z), g.arr t i k (hd.1 t z)⟩) (fun z => ⟨f t i k (hd.2 _ z), g t i k (hd.2 _ z)⟩))
theorem REL.ex {al al' : Al} {iv iv' : Iv} {rv rv' : Rv} {md : Mo} (h : REL iv rv) (hG : GI al iv rv) (g : EX md al iv rv al' iv' rv') (hd : RC md) : REL iv' rv' := h.keep hG (fun t i k hi q => g.2.2 t i k hi (q.elim (fun z => MD.no (hd.1 t z)) (fun z => hd.2 _ z)))
theorem cnt_cmp0 {S1 S2 r1 r2 : Int32} {cx cx' cy cy' : Int} {K1 K2 : Prop} (hs : S1 = S2) (hc : cx = cy) (k1 : K1 → cx' = cx) (k2 : K2 → cy' = cy) (p1 : (S1 = 0 ∧ r1.toInt = cx ∧ cx' = cx + 1) ∨ (S1 ≠ 0 ∧ r1 = S1 ∧ K1)) (p2 : (S2 = 0 ∧ r2.toInt = cy ∧ cy' = cy + 1) ∨ (S2 ≠ 0 ∧ r2 = S2 ∧ K2)) : r1 = r2 ∧ cy' = cx' := by
  subst hs
  rcases p1 with ⟨a1, b1, d1⟩ | ⟨a1, b1, d1⟩ <;> rcases p2 with ⟨a2, b2, d2⟩ | ⟨a2, b2, d2⟩
  · exact ⟨(fa_eq _ _).mpr (by omega), by omega⟩
  · exact absurd a1 a2
  · exact absurd a2 a1
  · have := k1 d1; have := k2 d2
    exact ⟨b1.trans b2.symm, by omega⟩
theorem cnt_cmp1 {S1 S2 r1 r2 : Int32} {cx cx' cy cy' : Int} {K1 K2 : Prop} (hs : S1 = S2) (hc : cx = cy) (k1 : K1 → cx' = cx) (k2 : K2 → cy' = cy) (p1 : (S1 = 0 ∧ r1.toInt = cx + 1 ∧ cx' = cx + 1) ∨ (S1 ≠ 0 ∧ r1 = S1 ∧ K1)) (p2 : (S2 = 0 ∧ r2.toInt = cy + 1 ∧ cy' = cy + 1) ∨ (S2 ≠ 0 ∧ r2 = S2 ∧ K2)) : r1 = r2 ∧ cy' = cx' := by
  subst hs
  rcases p1 with ⟨a1, b1, d1⟩ | ⟨a1, b1, d1⟩ <;> rcases p2 with ⟨a2, b2, d2⟩ | ⟨a2, b2, d2⟩
  · exact ⟨(fa_eq _ _).mpr (by omega), by omega⟩
  · exact absurd a1 a2
  · exact absurd a2 a1
  · have := k1 d1; have := k2 d2
    exact ⟨b1.trans b2.symm, by omega⟩
theorem REL.s_stop {al : Al} {iv iv1 iv2 : Iv} {rv rv1 rv2 : Rv} {lw a b r1 r2 : Int32} {md1 md2 : Mo} (_ : GI al iv rv) (h : REL iv rv) (p1 : (spStop lw a b (iv 79 0 4).toInt = 0 ∧ r1.toInt = (iv 79 0 4).toInt + 1 ∧ (iv1 79 0 4).toInt = (iv 79 0 4).toInt + 1) ∨ (spStop lw a b (iv 79 0 4).toInt ≠ 0 ∧ r1 = spStop lw a b (iv 79 0 4).toInt ∧ iv1 79 0 4 = iv 79 0 4)) (p2 : (spStop lw a b (iv1 0 0 37).toInt = 0 ∧ r2.toInt = (iv1 0 0 37).toInt + 1 ∧ (iv2 0 0 37).toInt = (iv1 0 0 37).toInt + 1) ∨ (spStop lw a b (iv1 0 0 37).toInt ≠ 0 ∧ r2 = spStop lw a b (iv1 0 0 37).toInt ∧ iv2 0 0 37 = iv1 0 0 37)) (f1 : FR md1 iv iv1) (_ : FR md1 rv rv1) (f2 : FR md2 iv1 iv2) (_ : FR md2 rv1 rv2) (h1 : ¬ MD md1 0 37 := by decide) (h2 : ¬ MD md2 79 4 := by decide) : r1 = r2 ∧ REL iv2 rv2 := by
  have a := f1 0 0 37 h1
  have b := f2 79 0 4 h2
  have hc : (iv 79 0 4).toInt = (iv1 0 0 37).toInt := by rw [a]; exact h.symm
  have q := cnt_cmp1 (by rw [hc]) hc (fun z => congrArg Int32.toInt z) (fun z => congrArg Int32.toInt z) p1 p2
  refine ⟨q.1, ?_⟩
  unfold REL
  rw [b]; exact q.2
def LSt (ox om : Nat) (al : Al) (iv : Iv) (rv : Rv) : Prop := GI al iv rv ∧ al.2 49 0 = ox ∧ al.2 0 0 = om ∧ REL iv rv
def LX (p : Program) (s : State) (m : MethodId) (c : Code) (b L : Nat) (xs : Nat → Int32) (D : va_G) (cA : FieldType → ClassId) : Prop := Cx p s m #[Value.ref b] c cL_law 4 RL D cA ∧ va_X b L xs s s.heap ∧ b < s.heap.size ∧ SX cA s.heap.size s s.heap ∧ L ≤ 3584
def bz (x : Int32) : Int32 := if x = 0 then 0 else 1
theorem bz_0 {x : Int32} (h : x.toInt = (0 : Int32).toInt) : (0 : Int32) = bz x := by
  have : x = 0 := (fa_eq _ _).mpr h
  rw [this]; rfl
theorem bz_1 {x : Int32} (h : ¬ x.toInt = (0 : Int32).toInt) : (1 : Int32) = bz x := by
  unfold bz; rw [if_neg (fun e => h (by rw [e]))]
section LR
variable {p : Program} {l : Launch} {e : Env} {R : Room} {s : State} {m : MethodId} {args : Array Value} {below : List Frame} {meth : Method} {c : Code} {H : Heap} {locs : List Loc} {cells slots : Nat} {Q : State → Prop}
variable {cc : ByteArray} {pc nL : Nat} {ls : Array Slot} {rest : List Value} {own : String} {D : va_G} {cA : FieldType → ClassId} {sz : Nat} {al : Al} {iv : Iv} {rv : Rv} {b L : Nat} {xs : Nat → Int32}
theorem q_ai (X : LX p s m c b L xs D cA) (hS : va_S (Aq s.heap.size) s.heap H locs) {i k v : Int32} (hk : 0 ≤ k.toInt ∧ k.toInt ≤ 6) (hi : 0 ≤ i.toInt ∧ i.toInt + 6 < L) (ev : xs (i + k).toNatClampNeg = v) (d1 : decode cL_law pc = .ok (.iadd, 1)) (d2 : decode cL_law (pc + 1) = .ok (.iaload, 1))
    (kk : W p l e R s m #[Value.ref b] below meth c H locs cells slots Q (F0 m (pc + 2) ls (.int v :: rest))) : W p l e R s m #[Value.ref b] below meth c H locs cells slots Q (F0 m pc ls (.int k :: .int i :: .ref b :: rest)) := by
  obtain ⟨C, hX, hbl, -, hL⟩ := X
  have ti : (i + k).toInt = i.toInt + k.toInt := fb_addI (by omega) (by omega)
  refine lv_iadd C.1.1 C.1.2.1 d1 ?_
  refine va_sld (A := Aq s.heap.size) C.1.1 C.1.2.1 hX hbl (fun z => absurd hbl (Nat.not_lt.mpr z)) hS (ix_in (by omega) (by omega)) d2 ?_
  rw [ev]; exact kk
theorem q_runVX {y : MethodName} {bytes : ByteArray} {maxL mc ms n index t i ci : Nat} {ret : Option FieldType} {rmm : Room} {As : List Value} {q : vw_C} {Qc : Array Value → State → Outcome → State → Prop} {X : State → Prop} {st : List Value} (C : Cx p s m args c cc nL own D cA) (hU : UW D cA sz al iv rv H) (hz : sz ≤ H.size)
    (hX1 : ∀ U : State, U.heap = H → s.WarmedH U.vm → X U) (hX2 : ∀ (U : State) (g : JFrame) (mk : MethodId) (a : Array Value), X U → X (U.calling g mk a))
    (hM : Met l y (wd y bytes maxL ret) rmm (PcA D cA sz al iv rv (.ref (al.2 t i) :: As) X) Qc mc ms (Aq sz)) (vm : VM y bytes maxL ret n) (hl : Cond.methodLink own index y ∈ BW) (kp : (pt t).1 = some ci) (hc : vwCl[ci]? = some q) (hq : q.1 = y.cls) (hi : i < al.1 t) (hls : ls.size = nL) (hn : As.length = n) (hst : st = As.reverse ++ .ref (al.2 t i) :: rest)
    (hrm : (rest.map fun v => v.category).sum ≤ 8) (hdg : decode cc pc = .ok (.invokevirtual index, 3)) (hrc : rmm.cells = mc) (hrs : rmm.slots = ms) (hR : rmm.frames + 1 ≤ R.frames ∧ 8 + (maxL + 11) + rmm.locals ≤ R.locals) (hf : cells + mc ≤ R.cells ∧ slots + ms ≤ R.slots) :
    va_Run p l e R s m args below meth c H locs cells slots mc ms (F0 m pc ls st) rest (Qc (Value.ref (al.2 t i) :: As).toArray) (Aq sz) := by
  obtain ⟨v1, v2, v3, v4, v5⟩ := vm
  have hts := C.1.2.2.2.2
  have hK := C.2
  obtain ⟨cell, g1, g2, g3, -⟩ := (hU.1 t i hi).ob kp
  refine va_runV (C := y.cls) (As := As) (rest := rest) C.1 hM ⟨cb_of hts v1 v4 hl v5 hrc hrs hR, hts _ v2, hts _ v3⟩ ⟨fun a U g mk q => ⟨q.1, q.2.1, q.2.2.1.calling g mk a, q.2.2.2.1, hX2 U g mk a q.2.2.2.2⟩, ⟨cell, g1, by rw [g3]; rfl, ?_⟩, fun U hH hW => ⟨rfl, by rw [hH]; exact hU, hK.warm hW, by rw [hH]; exact hz, hX1 U hH hW⟩⟩ rfl hn hls hst (lv_room hrm) hdg hf
  rw [g2, ← hq]; exact (hK.1.1 ci q hc).2.1
end LR
