section CL0
variable {p : Program} {l : Launch} {e : Env} {R : Room} {s : State} {m : MethodId} {args : Array Value} {below : List Frame} {meth : Method} {c : Code} {H : Heap} {locs : List Loc} {cells slots : Nat} {Q : State → Prop}
variable {cc : ByteArray} {pc nL : Nat} {ls : Array Slot} {rest : List Value} {own : String} {D : va_G} {cA : FieldType → ClassId} {sz : Nat} {al : Al} {iv : Iv} {rv : Rv}
/-- an asking method: nothing changes -/
def pI (iv : Iv) (rv : Rv) (P : Int32 → Prop) : Int32 → Iv → Rv → Prop := fun r iv' rv' => iv' = iv ∧ rv' = rv ∧ P r
def pR (iv : Iv) (rv : Rv) (P : Option Nat → Prop) : Option Nat → Iv → Rv → Prop := fun r iv' rv' => iv' = iv ∧ rv' = rv ∧ P r
/-- a method that changes what md names -/
def fI (al : Al) (md : Mo) (iv : Iv) (rv : Rv) (P : Int32 → Iv → Rv → Prop) : Int32 → Iv → Rv → Prop := fun r iv' rv' => GI al iv' rv' ∧ FR md iv iv' ∧ FR md rv rv' ∧ P r iv' rv'
def fV (al : Al) (md : Mo) (iv : Iv) (rv : Rv) (P : Iv → Rv → Prop) : Iv → Rv → Prop := fun iv' rv' => GI al iv' rv' ∧ FR md iv iv' ∧ FR md rv rv' ∧ P iv' rv'
def fR (al : Al) (md : Mo) (iv : Iv) (rv : Rv) (P : Option Nat → Iv → Rv → Prop) : Option Nat → Iv → Rv → Prop := fun r iv' rv' => GI al iv' rv' ∧ FR md iv iv' ∧ FR md rv rv' ∧ P r iv' rv'
theorem q_pi {st : List Value} {a : Array Value} {P : Int32 → Prop} (hr : va_Run p l e R s m args below meth c H locs cells slots 0 0 (F0 m pc ls st) rest (QI D cA sz al (pI iv rv P) a) (Aq sz)) (hS : va_S (Aq sz) s.heap H locs)
    (kk : ∀ (r : Int32) (H1 : Heap) (locs1 : List Loc), P r → UW D cA sz al iv rv H1 → va_S (Aq sz) s.heap H1 locs1 → W p l e R s m args below meth c H1 locs1 cells slots Q (F0 m (pc + 3) ls (.int r :: rest))) : W p l e R s m args below meth c H locs cells slots Q (F0 m pc ls st) :=
  q_ci hr hS (fun r iv' rv' H1 locs1 hp hU hS => by obtain ⟨e1, e2, h⟩ := hp; rw [e1, e2] at hU; exact kk r H1 locs1 h hU hS)
theorem q_pr {st : List Value} {a : Array Value} {t' : Nat} {P : Option Nat → Prop} (hr : va_Run p l e R s m args below meth c H locs cells slots 0 0 (F0 m pc ls st) rest (QR D cA sz al t' (pR iv rv P) a) (Aq sz)) (hS : va_S (Aq sz) s.heap H locs)
    (kk : ∀ (r : Option Nat) (H1 : Heap) (locs1 : List Loc), P r → UW D cA sz al iv rv H1 → va_S (Aq sz) s.heap H1 locs1 → W p l e R s m args below meth c H1 locs1 cells slots Q (F0 m (pc + 3) ls (rfv al t' r :: rest))) : W p l e R s m args below meth c H locs cells slots Q (F0 m pc ls st) :=
  q_cr hr hS (fun r iv' rv' H1 locs1 hp hU hS => by obtain ⟨e1, e2, h⟩ := hp; rw [e1, e2] at hU; exact kk r H1 locs1 h hU hS)
theorem q_fi {st : List Value} {a : Array Value} {md : Mo} {P : Int32 → Iv → Rv → Prop} (hr : va_Run p l e R s m args below meth c H locs cells slots 0 0 (F0 m pc ls st) rest (QI D cA sz al (fI al md iv rv P) a) (Aq sz)) (hS : va_S (Aq sz) s.heap H locs)
    (kk : ∀ (r : Int32) (iv' : Iv) (rv' : Rv) (H1 : Heap) (locs1 : List Loc), GI al iv' rv' → FR md iv iv' → FR md rv rv' → P r iv' rv' → UW D cA sz al iv' rv' H1 → va_S (Aq sz) s.heap H1 locs1 → W p l e R s m args below meth c H1 locs1 cells slots Q (F0 m (pc + 3) ls (.int r :: rest))) : W p l e R s m args below meth c H locs cells slots Q (F0 m pc ls st) :=
  q_ci hr hS (fun r iv' rv' H1 locs1 hp hU hS => kk r iv' rv' H1 locs1 hp.1 hp.2.1 hp.2.2.1 hp.2.2.2 hU hS)
theorem q_fv {st : List Value} {a : Array Value} {md : Mo} {P : Iv → Rv → Prop} (hr : va_Run p l e R s m args below meth c H locs cells slots 0 0 (F0 m pc ls st) rest (QV D cA sz al (fV al md iv rv P) a) (Aq sz)) (hS : va_S (Aq sz) s.heap H locs)
    (kk : ∀ (iv' : Iv) (rv' : Rv) (H1 : Heap) (locs1 : List Loc), GI al iv' rv' → FR md iv iv' → FR md rv rv' → P iv' rv' → UW D cA sz al iv' rv' H1 → va_S (Aq sz) s.heap H1 locs1 → W p l e R s m args below meth c H1 locs1 cells slots Q (F0 m (pc + 3) ls rest)) : W p l e R s m args below meth c H locs cells slots Q (F0 m pc ls st) :=
  q_cv hr hS (fun iv' rv' H1 locs1 hp hU hS => kk iv' rv' H1 locs1 hp.1 hp.2.1 hp.2.2.1 hp.2.2.2 hU hS)
theorem q_fr {st : List Value} {a : Array Value} {t' : Nat} {md : Mo} {P : Option Nat → Iv → Rv → Prop} (hr : va_Run p l e R s m args below meth c H locs cells slots 0 0 (F0 m pc ls st) rest (QR D cA sz al t' (fR al md iv rv P) a) (Aq sz)) (hS : va_S (Aq sz) s.heap H locs)
    (kk : ∀ (r : Option Nat) (iv' : Iv) (rv' : Rv) (H1 : Heap) (locs1 : List Loc), GI al iv' rv' → FR md iv iv' → FR md rv rv' → P r iv' rv' → UW D cA sz al iv' rv' H1 → va_S (Aq sz) s.heap H1 locs1 → W p l e R s m args below meth c H1 locs1 cells slots Q (F0 m (pc + 3) ls (rfv al t' r :: rest))) : W p l e R s m args below meth c H locs cells slots Q (F0 m pc ls st) :=
  q_cr hr hS (fun r iv' rv' H1 locs1 hp hU hS => kk r iv' rv' H1 locs1 hp.1 hp.2.1 hp.2.2.1 hp.2.2.2 hU hS)
-- null or a cell, in locals
theorem b_aload_n (hx : p.tables.exec = Jvm.exec) (hb : c.code = cc) {k : Fin 4} {i t' : Nat} {r : Option Nat} (hdg : decode cc pc = .ok (.aload_n k, 1)) (hi : (k : Nat) = i) (hl : ls[i]? = some (.val (rfv al t' r)))
    (kk : W p l e R s m args below meth c H locs cells slots Q (F0 m (pc + 1) ls (rfv al t' r :: rest))) : W p l e R s m args below meth c H locs cells slots Q (F0 m pc ls rest) := by
  cases r with
  | none => exact lv_aload_nN hx hb hdg hi hl kk
  | some j => exact lv_aload_n hx hb hdg hi hl kk
theorem b_aload (hx : p.tables.exec = Jvm.exec) (hb : c.code = cc) {i t' : Nat} {r : Option Nat} (hdg : decode cc pc = .ok (.aload i, 2)) (hl : ls[i]? = some (.val (rfv al t' r)))
    (kk : W p l e R s m args below meth c H locs cells slots Q (F0 m (pc + 2) ls (rfv al t' r :: rest))) : W p l e R s m args below meth c H locs cells slots Q (F0 m pc ls rest) := by
  cases r with
  | none => exact lv_aloadN hx hb hdg hl kk
  | some j => exact lv_aload hx hb hdg hl kk
theorem b_astore_n (hx : p.tables.exec = Jvm.exec) (hb : c.code = cc) {k : Fin 4} {i t' : Nat} {r : Option Nat} {lv lv' : List (Nat × Value)} (hdg : decode cc pc = .ok (.astore_n k, 1)) (hi : (k : Nat) = i) (h : lv_has ls nL lv) (hn : i < nL) (hl : (i, rfv al t' r) :: lv.filter (fun q => !(q.1 == i) && !(q.1 + 1 == i && q.2.category == 2)) = lv')
    (kk : ∀ ls' : Array Slot, lv_has ls' nL lv' → W p l e R s m args below meth c H locs cells slots Q (F0 m (pc + 1) ls' rest)) : W p l e R s m args below meth c H locs cells slots Q (F0 m pc ls (rfv al t' r :: rest)) := by
  cases r with
  | none => exact lv_astore_nN hx hb hdg hi h hn hl kk
  | some j => exact lv_astore_n hx hb hdg hi h hn hl kk
theorem b_astore (hx : p.tables.exec = Jvm.exec) (hb : c.code = cc) {i t' : Nat} {r : Option Nat} {lv lv' : List (Nat × Value)} (hdg : decode cc pc = .ok (.astore i, 2)) (h : lv_has ls nL lv) (hn : i < nL) (hl : (i, rfv al t' r) :: lv.filter (fun q => !(q.1 == i) && !(q.1 + 1 == i && q.2.category == 2)) = lv')
    (kk : ∀ ls' : Array Slot, lv_has ls' nL lv' → W p l e R s m args below meth c H locs cells slots Q (F0 m (pc + 2) ls' rest)) : W p l e R s m args below meth c H locs cells slots Q (F0 m pc ls (rfv al t' r :: rest)) := by
  cases r with
  | none => exact lv_astoreN hx hb hdg h hn hl kk
  | some j => exact lv_astore hx hb hdg h hn hl kk
end CL0
theorem toInt01 {x : Int32} (h0 : 0 ≤ x.toInt) (h1 : x.toInt ≤ 1) : x = 0 ∨ x = 1 := by
  rcases (show x.toInt = 0 ∨ x.toInt = 1 by omega) with h | h
  · left; exact (fa_eq _ _).mpr (by rw [h]; rfl)
  · right; exact (fa_eq _ _).mpr (by rw [h]; rfl)
theorem and_rng {x y : Int32} (h : 0 ≤ x.toInt) : 0 ≤ (x &&& y).toInt ∧ (x &&& y).toInt ≤ x.toInt := by
  have e1 : (x &&& y).toBitVec.toNat ≤ x.toBitVec.toNat := by
    rw [Int32.toBitVec_and, BitVec.toNat_and]; exact Nat.and_le_left
  have hx : x.toInt = x.toBitVec.toInt := rfl
  have hy : (x &&& y).toInt = (x &&& y).toBitVec.toInt := rfl
  rw [hx] at h ⊢
  rw [hy]
  have lx : x.toBitVec.toNat < 2 ^ 31 := by
    rw [BitVec.toInt_eq_toNat_cond] at h
    have := x.toBitVec.isLt
    split at h <;> omega
  rw [BitVec.toInt_eq_toNat_cond, BitVec.toInt_eq_toNat_cond, if_pos (by omega), if_pos (by omega)]
  omega
theorem and_rng' {x y : Int32} (h : 0 ≤ y.toInt) : 0 ≤ (x &&& y).toInt ∧ (x &&& y).toInt ≤ y.toInt := by
  have e : x &&& y = y &&& x := by
    apply Int32.toBitVec_inj.mp
    rw [Int32.toBitVec_and, Int32.toBitVec_and, BitVec.and_comm]
  rw [e]; exact and_rng h
