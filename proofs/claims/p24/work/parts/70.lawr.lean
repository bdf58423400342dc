theorem Cbar.s_bar {al al1 : Al} {iv iv1 iv2 : Iv} {rv rv1 rv2 : Rv} {lw n r1 r2 : Int32} (hG : GI al iv rv) (hCbar : Cbar iv rv) (p1 : (spBar lw n = 0 ∧ r1 = iv 80 0 lw.toNatClampNeg ∧ ∀ k, iv1 80 0 k = if k = lw.toNatClampNeg then n else iv 80 0 k) ∨ (spBar lw n ≠ 0 ∧ r1 = spBar lw n ∧ ∀ k, iv1 80 0 k = iv 80 0 k)) (p2 : (spBar lw n = 0 ∧ r2 = iv1 31 0 lw.toNatClampNeg ∧ ∀ k, iv2 31 0 k = if k = lw.toNatClampNeg then n else iv1 31 0 k) ∨ (spBar lw n ≠ 0 ∧ r2 = spBar lw n ∧ ∀ k, iv2 31 0 k = iv1 31 0 k)) (x1 : EX ([51, 80], []) al iv rv al1 iv1 rv1) (f2 : FR ([16, 31], []) iv1 iv2) (g2 : FR ([16, 31], []) rv1 rv2) : Cbar iv2 rv2 := by
  intro k hk
  have m1 : ∀ k, iv1 31 0 k = iv 31 0 k := fun k => (x1.2.2 31 0 k (h1_31 hG) (MD.no (by decide))).1
  have m2 : ∀ k, iv2 80 0 k = iv1 80 0 k := fun k => f2.arr 80 0 k (by decide)
  rcases p1 with ⟨o1, q1, w1⟩ | ⟨o1, q1, w1⟩ <;> rcases p2 with ⟨o2, q2, w2⟩ | ⟨o2, q2, w2⟩
  · rw [w2, m2, w1, m1, hCbar k hk]
  · exact absurd o1 o2
  · exact absurd o2 o1
  · rw [w2, m2, w1, m1, hCbar k hk]
theorem ans_bar {al al1 : Al} {iv iv1 iv2 : Iv} {rv rv1 rv2 : Rv} {lw n r1 r2 : Int32} (hG : GI al iv rv) (hCbar : Cbar iv rv) (p1 : (spBar lw n = 0 ∧ r1 = iv 80 0 lw.toNatClampNeg ∧ ∀ k, iv1 80 0 k = if k = lw.toNatClampNeg then n else iv 80 0 k) ∨ (spBar lw n ≠ 0 ∧ r1 = spBar lw n ∧ ∀ k, iv1 80 0 k = iv 80 0 k)) (p2 : (spBar lw n = 0 ∧ r2 = iv1 31 0 lw.toNatClampNeg ∧ ∀ k, iv2 31 0 k = if k = lw.toNatClampNeg then n else iv1 31 0 k) ∨ (spBar lw n ≠ 0 ∧ r2 = spBar lw n ∧ ∀ k, iv2 31 0 k = iv1 31 0 k)) (x1 : EX ([51, 80], []) al iv rv al1 iv1 rv1) (f2 : FR ([16, 31], []) iv1 iv2) (g2 : FR ([16, 31], []) rv1 rv2) : r1 = r2 := by
  have m1 : ∀ k, iv1 31 0 k = iv 31 0 k := fun k => (x1.2.2 31 0 k (h1_31 hG) (MD.no (by decide))).1
  rcases p1 with ⟨o1, q1, w1⟩ | ⟨o1, q1, w1⟩ <;> rcases p2 with ⟨o2, q2, w2⟩ | ⟨o2, q2, w2⟩
  · have b : lw.toNatClampNeg < 4 := by
      unfold spBar at o1
      by_cases q : ¬ (0 ≤ lw.toInt ∧ lw.toInt ≤ 3)
      · rw [if_pos q] at o1; exact absurd o1 (by decide)
      · rw [clamp_n]; omega
    rw [q1, q2, m1, hCbar _ b]
  · exact absurd o1 o2
  · exact absurd o2 o1
  · rw [q1, q2]
def REL (iv : Iv) (rv : Rv) : Prop := Cbar iv rv
abbrev rT : List Nat := [31, 80]
abbrev rF : List (Nat × Nat) := []
theorem sT_Cbar {md : Mo} (h : RC rT rF md) : RC T_Cbar F_Cbar md := ⟨fun t ht => h.1 t ((by decide : ∀ t, t ∈ T_Cbar → t ∈ rT) t ht), fun q hq => h.2 q ((by decide : ∀ q, q ∈ F_Cbar → q ∈ rF) q hq)⟩
theorem REL.fr {al : Al} {iv iv' : Iv} {rv rv' : Rv} {md : Mo} (h : REL iv rv) (hG : GI al iv rv) (f : FR md iv iv') (g : FR md rv rv') (hd : RC rT rF md) : REL iv' rv' := Cbar.keep h hG (KP.fr f g (sT_Cbar hd))
theorem REL.ex {al al' : Al} {iv iv' : Iv} {rv rv' : Rv} {md : Mo} (h : REL iv rv) (hG : GI al iv rv) (g : EX md al iv rv al' iv' rv') (hd : RC rT rF md) : REL iv' rv' := Cbar.keep h hG (KP.ex g (sT_Cbar hd))
theorem REL.s_bar {al al1 : Al} {iv iv1 iv2 : Iv} {rv rv1 rv2 : Rv} {lw n r1 r2 : Int32} (hG : GI al iv rv) (h : REL iv rv) (p1 : (spBar lw n = 0 ∧ r1 = iv 80 0 lw.toNatClampNeg ∧ ∀ k, iv1 80 0 k = if k = lw.toNatClampNeg then n else iv 80 0 k) ∨ (spBar lw n ≠ 0 ∧ r1 = spBar lw n ∧ ∀ k, iv1 80 0 k = iv 80 0 k)) (p2 : (spBar lw n = 0 ∧ r2 = iv1 31 0 lw.toNatClampNeg ∧ ∀ k, iv2 31 0 k = if k = lw.toNatClampNeg then n else iv1 31 0 k) ∨ (spBar lw n ≠ 0 ∧ r2 = spBar lw n ∧ ∀ k, iv2 31 0 k = iv1 31 0 k)) (x1 : EX ([51, 80], []) al iv rv al1 iv1 rv1) (f2 : FR ([16, 31], []) iv1 iv2) (g2 : FR ([16, 31], []) rv1 rv2) : REL iv2 rv2 := Cbar.s_bar hG h p1 p2 x1 f2 g2
theorem REL.a_bar {al al1 : Al} {iv iv1 iv2 : Iv} {rv rv1 rv2 : Rv} {lw n r1 r2 : Int32} (hG : GI al iv rv) (h : REL iv rv) (p1 : (spBar lw n = 0 ∧ r1 = iv 80 0 lw.toNatClampNeg ∧ ∀ k, iv1 80 0 k = if k = lw.toNatClampNeg then n else iv 80 0 k) ∨ (spBar lw n ≠ 0 ∧ r1 = spBar lw n ∧ ∀ k, iv1 80 0 k = iv 80 0 k)) (p2 : (spBar lw n = 0 ∧ r2 = iv1 31 0 lw.toNatClampNeg ∧ ∀ k, iv2 31 0 k = if k = lw.toNatClampNeg then n else iv1 31 0 k) ∨ (spBar lw n ≠ 0 ∧ r2 = spBar lw n ∧ ∀ k, iv2 31 0 k = iv1 31 0 k)) (x1 : EX ([51, 80], []) al iv rv al1 iv1 rv1) (f2 : FR ([16, 31], []) iv1 iv2) (g2 : FR ([16, 31], []) rv1 rv2) : r1 = r2 := ans_bar hG h p1 p2 x1 f2 g2
def LSt (ox om : Nat) (al : Al) (iv : Iv) (rv : Rv) : Prop := GI al iv rv ∧ al.2 49 0 = ox ∧ al.2 0 0 = om ∧ REL iv rv
def LX (p : Program) (s : State) (m : MethodId) (c : Code) (b L : Nat) (xs : Nat → Int32) (D : va_G) (cA : FieldType → ClassId) : Prop := Cx p s m #[Value.ref b] c cL_law 4 RL D cA ∧ va_X b L xs s s.heap ∧ b < s.heap.size ∧ SX cA s.heap.size s s.heap ∧ L ≤ 3584
def bz (x : Int32) : Int32 := if x = 0 then 0 else 1
theorem bz_0 {x : Int32} (h : x.toInt = (0 : Int32).toInt) : (0 : Int32) = bz x := by
  have : x = 0 := (fa_eq _ _).mpr h
  rw [this]; rfl
theorem bz_1 {x : Int32} (h : ¬ x.toInt = (0 : Int32).toInt) : (1 : Int32) = bz x := by
  unfold bz; rw [if_neg (fun e => h (by rw [e]))]
section LR
variable {p : Program} {l : Launch} {e : Env} {R : Room} {s : State} {m : MethodId} {args : Array Value} {below : List Frame} {meth : Method} {c : Code} {H : Heap} {locs : List Loc} {cells slots : Nat} {Q : State → Prop}
variable {cc : ByteArray} {pc nL : Nat} {ls : Array Slot} {rest : List Value} {own : String} {D : va_G} {cA : FieldType → ClassId} {sz : Nat} {al : Al} {iv : Iv} {rv : Rv} {b L : Nat} {xs : Nat → Int32}
theorem q_ai (X : LX p s m c b L xs D cA) (hS : va_S (Aq s.heap.size) s.heap H locs) {i k v : Int32} (hk : 0 ≤ k.toInt ∧ k.toInt ≤ 6) (hi : 0 ≤ i.toInt ∧ i.toInt + 6 < L) (ev : xs (i + k).toNatClampNeg = v) (d1 : decode cL_law pc = .ok (.iadd, 1)) (d2 : decode cL_law (pc + 1) = .ok (.iaload, 1))
    (kk : W p l e R s m #[Value.ref b] below meth c H locs cells slots Q (F0 m (pc + 2) ls (.int v :: rest))) : W p l e R s m #[Value.ref b] below meth c H locs cells slots Q (F0 m pc ls (.int k :: .int i :: .ref b :: rest)) := by
  obtain ⟨C, hX, hbl, -, hL⟩ := X
  have ti : (i + k).toInt = i.toInt + k.toInt := fb_addI (by omega) (by omega)
  refine lv_iadd C.1.1 C.1.2.1 d1 ?_
  refine va_sld (A := Aq s.heap.size) C.1.1 C.1.2.1 hX hbl (fun z => absurd hbl (Nat.not_lt.mpr z)) hS (ix_in (by omega) (by omega)) d2 ?_
  rw [ev]; exact kk
theorem q_runVX {y : MethodName} {bytes : ByteArray} {maxL mc ms n index t i ci : Nat} {ret : Option FieldType} {rmm : Room} {As : List Value} {q : vw_C} {Qc : Array Value → State → Outcome → State → Prop} {X : State → Prop} {st : List Value} (C : Cx p s m args c cc nL own D cA) (hU : UW D cA sz al iv rv H) (hz : sz ≤ H.size)
    (hX1 : ∀ U : State, U.heap = H → s.WarmedH U.vm → X U) (hX2 : ∀ (U : State) (g : JFrame) (mk : MethodId) (a : Array Value), X U → X (U.calling g mk a))
    (hM : Met l y (wd y bytes maxL ret) rmm (PcA D cA sz al iv rv (.ref (al.2 t i) :: As) X) Qc mc ms (Aq sz)) (vm : VM y bytes maxL ret n) (hl : Cond.methodLink own index y ∈ BW) (kp : (pt t).1 = some ci) (hc : vwCl[ci]? = some q) (hq : q.1 = y.cls) (hi : i < al.1 t) (hls : ls.size = nL) (hn : As.length = n) (hst : st = As.reverse ++ .ref (al.2 t i) :: rest)
    (hrm : (rest.map fun v => v.category).sum ≤ 8) (hdg : decode cc pc = .ok (.invokevirtual index, 3)) (hrc : rmm.cells = mc) (hrs : rmm.slots = ms) (hR : rmm.frames + 1 ≤ R.frames ∧ 8 + (maxL + 11) + rmm.locals ≤ R.locals) (hf : cells + mc ≤ R.cells ∧ slots + ms ≤ R.slots) :
    va_Run p l e R s m args below meth c H locs cells slots mc ms (F0 m pc ls st) rest (Qc (Value.ref (al.2 t i) :: As).toArray) (Aq sz) := by
  obtain ⟨v1, v2, v3, v4, v5⟩ := vm
  have hts := C.1.2.2.2.2
  have hK := C.2
  obtain ⟨cell, g1, g2, g3, -⟩ := (hU.1 t i hi).ob kp
  refine va_runV (C := y.cls) (As := As) (rest := rest) C.1 hM ⟨cb_of hts v1 v4 hl v5 hrc hrs hR, hts _ v2, hts _ v3⟩ ⟨fun a U g mk q => ⟨q.1, q.2.1, q.2.2.1.calling g mk a, q.2.2.2.1, hX2 U g mk a q.2.2.2.2⟩, ⟨cell, g1, by rw [g3]; rfl, ?_⟩, fun U hH hW => ⟨rfl, by rw [hH]; exact hU, hK.warm hW, by rw [hH]; exact hz, hX1 U hH hW⟩⟩ rfl hn hls hst (lv_room hrm) hdg hf
  rw [g2, ← hq]; exact (hK.1.1 ci q hc).2.1
end LR
