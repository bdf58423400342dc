section
section CL0
variable {p : Program} {l : Launch} {e : Env} {R : Room} {s : State} {m : MethodId} {args : Array Value} {below : List Frame} {meth : Method} {c : Code} {H : Heap} {locs : List Loc} {cells slots : Nat} {Q : State → Prop}
variable {cc : ByteArray} {pc nL : Nat} {ls : Array Slot} {rest : List Value} {own : String} {D : va_G} {cA : FieldType → ClassId} {sz : Nat} {al : Al} {iv : Iv} {rv : Rv}
/-- an asking method: nothing changes -/
def pI (iv : Iv) (rv : Rv) (P : Int32 → Prop) : Int32 → Iv → Rv → Prop := fun r iv' rv' => iv' = iv ∧ rv' = rv ∧ P r
def pR (iv : Iv) (rv : Rv) (P : Option Nat → Prop) : Option Nat → Iv → Rv → Prop := fun r iv' rv' => iv' = iv ∧ rv' = rv ∧ P r
/-- a method that changes what md names -/
def fI (al : Al) (md : Mo) (iv : Iv) (rv : Rv) (P : Int32 → Iv → Rv → Prop) : Int32 → Iv → Rv → Prop := fun r iv' rv' => GI al iv' rv' ∧ FR md iv iv' ∧ FR md rv rv' ∧ P r iv' rv'
def fV (al : Al) (md : Mo) (iv : Iv) (rv : Rv) (P : Iv → Rv → Prop) : Iv → Rv → Prop := fun iv' rv' => GI al iv' rv' ∧ FR md iv iv' ∧ FR md rv rv' ∧ P iv' rv'
def fR (al : Al) (md : Mo) (iv : Iv) (rv : Rv) (P : Option Nat → Iv → Rv → Prop) : Option Nat → Iv → Rv → Prop := fun r iv' rv' => GI al iv' rv' ∧ FR md iv iv' ∧ FR md rv rv' ∧ P r iv' rv'
theorem q_pi {st : List Value} {a : Array Value} {P : Int32 → Prop} (hr : va_Run p l e R s m args below meth c H locs cells slots 0 0 (F0 m pc ls st) rest (QI D cA sz al (pI iv rv P) a) (Aq sz)) (hS : va_S (Aq sz) s.heap H locs)
    (kk : ∀ (r : Int32) (H1 : Heap) (locs1 : List Loc), P r → UW D cA sz al iv rv H1 → va_S (Aq sz) s.heap H1 locs1 → W p l e R s m args below meth c H1 locs1 cells slots Q (F0 m (pc + 3) ls (.int r :: rest))) : W p l e R s m args below meth c H locs cells slots Q (F0 m pc ls st) :=
  q_ci hr hS (fun r iv' rv' H1 locs1 hp hU hS => by obtain ⟨e1, e2, h⟩ := hp; rw [e1, e2] at hU; exact kk r H1 locs1 h hU hS)
theorem q_pr {st : List Value} {a : Array Value} {t' : Nat} {P : Option Nat → Prop} (hr : va_Run p l e R s m args below meth c H locs cells slots 0 0 (F0 m pc ls st) rest (QR D cA sz al t' (pR iv rv P) a) (Aq sz)) (hS : va_S (Aq sz) s.heap H locs)
    (kk : ∀ (r : Option Nat) (H1 : Heap) (locs1 : List Loc), P r → UW D cA sz al iv rv H1 → va_S (Aq sz) s.heap H1 locs1 → W p l e R s m args below meth c H1 locs1 cells slots Q (F0 m (pc + 3) ls (rfv al t' r :: rest))) : W p l e R s m args below meth c H locs cells slots Q (F0 m pc ls st) :=
  q_cr hr hS (fun r iv' rv' H1 locs1 hp hU hS => by obtain ⟨e1, e2, h⟩ := hp; rw [e1, e2] at hU; exact kk r H1 locs1 h hU hS)
theorem q_fi {st : List Value} {a : Array Value} {md : Mo} {P : Int32 → Iv → Rv → Prop} (hr : va_Run p l e R s m args below meth c H locs cells slots 0 0 (F0 m pc ls st) rest (QI D cA sz al (fI al md iv rv P) a) (Aq sz)) (hS : va_S (Aq sz) s.heap H locs)
    (kk : ∀ (r : Int32) (iv' : Iv) (rv' : Rv) (H1 : Heap) (locs1 : List Loc), GI al iv' rv' → FR md iv iv' → FR md rv rv' → P r iv' rv' → UW D cA sz al iv' rv' H1 → va_S (Aq sz) s.heap H1 locs1 → W p l e R s m args below meth c H1 locs1 cells slots Q (F0 m (pc + 3) ls (.int r :: rest))) : W p l e R s m args below meth c H locs cells slots Q (F0 m pc ls st) :=
  q_ci hr hS (fun r iv' rv' H1 locs1 hp hU hS => kk r iv' rv' H1 locs1 hp.1 hp.2.1 hp.2.2.1 hp.2.2.2 hU hS)
theorem q_fv {st : List Value} {a : Array Value} {md : Mo} {P : Iv → Rv → Prop} (hr : va_Run p l e R s m args below meth c H locs cells slots 0 0 (F0 m pc ls st) rest (QV D cA sz al (fV al md iv rv P) a) (Aq sz)) (hS : va_S (Aq sz) s.heap H locs)
    (kk : ∀ (iv' : Iv) (rv' : Rv) (H1 : Heap) (locs1 : List Loc), GI al iv' rv' → FR md iv iv' → FR md rv rv' → P iv' rv' → UW D cA sz al iv' rv' H1 → va_S (Aq sz) s.heap H1 locs1 → W p l e R s m args below meth c H1 locs1 cells slots Q (F0 m (pc + 3) ls rest)) : W p l e R s m args below meth c H locs cells slots Q (F0 m pc ls st) :=
  q_cv hr hS (fun iv' rv' H1 locs1 hp hU hS => kk iv' rv' H1 locs1 hp.1 hp.2.1 hp.2.2.1 hp.2.2.2 hU hS)
theorem q_fr {st : List Value} {a : Array Value} {t' : Nat} {md : Mo} {P : Option Nat → Iv → Rv → Prop} (hr : va_Run p l e R s m args below meth c H locs cells slots 0 0 (F0 m pc ls st) rest (QR D cA sz al t' (fR al md iv rv P) a) (Aq sz)) (hS : va_S (Aq sz) s.heap H locs)
    (kk : ∀ (r : Option Nat) (iv' : Iv) (rv' : Rv) (H1 : Heap) (locs1 : List Loc), GI al iv' rv' → FR md iv iv' → FR md rv rv' → P r iv' rv' → UW D cA sz al iv' rv' H1 → va_S (Aq sz) s.heap H1 locs1 → W p l e R s m args below meth c H1 locs1 cells slots Q (F0 m (pc + 3) ls (rfv al t' r :: rest))) : W p l e R s m args below meth c H locs cells slots Q (F0 m pc ls st) :=
  q_cr hr hS (fun r iv' rv' H1 locs1 hp hU hS => kk r iv' rv' H1 locs1 hp.1 hp.2.1 hp.2.2.1 hp.2.2.2 hU hS)
-- null or a cell, in locals
theorem b_aload_n (hx : p.tables.exec = Jvm.exec) (hb : c.code = cc) {k : Fin 4} {i t' : Nat} {r : Option Nat} (hdg : decode cc pc = .ok (.aload_n k, 1)) (hi : (k : Nat) = i) (hl : ls[i]? = some (.val (rfv al t' r)))
    (kk : W p l e R s m args below meth c H locs cells slots Q (F0 m (pc + 1) ls (rfv al t' r :: rest))) : W p l e R s m args below meth c H locs cells slots Q (F0 m pc ls rest) := by
  cases r with
  | none => exact lv_aload_nN hx hb hdg hi hl kk
  | some j => exact lv_aload_n hx hb hdg hi hl kk
theorem b_aload (hx : p.tables.exec = Jvm.exec) (hb : c.code = cc) {i t' : Nat} {r : Option Nat} (hdg : decode cc pc = .ok (.aload i, 2)) (hl : ls[i]? = some (.val (rfv al t' r)))
    (kk : W p l e R s m args below meth c H locs cells slots Q (F0 m (pc + 2) ls (rfv al t' r :: rest))) : W p l e R s m args below meth c H locs cells slots Q (F0 m pc ls rest) := by
  cases r with
  | none => exact lv_aloadN hx hb hdg hl kk
  | some j => exact lv_aload hx hb hdg hl kk
theorem b_astore_n (hx : p.tables.exec = Jvm.exec) (hb : c.code = cc) {k : Fin 4} {i t' : Nat} {r : Option Nat} {lv lv' : List (Nat × Value)} (hdg : decode cc pc = .ok (.astore_n k, 1)) (hi : (k : Nat) = i) (h : lv_has ls nL lv) (hn : i < nL) (hl : (i, rfv al t' r) :: lv.filter (fun q => !(q.1 == i) && !(q.1 + 1 == i && q.2.category == 2)) = lv')
    (kk : ∀ ls' : Array Slot, lv_has ls' nL lv' → W p l e R s m args below meth c H locs cells slots Q (F0 m (pc + 1) ls' rest)) : W p l e R s m args below meth c H locs cells slots Q (F0 m pc ls (rfv al t' r :: rest)) := by
  cases r with
  | none => exact lv_astore_nN hx hb hdg hi h hn hl kk
  | some j => exact lv_astore_n hx hb hdg hi h hn hl kk
theorem b_astore (hx : p.tables.exec = Jvm.exec) (hb : c.code = cc) {i t' : Nat} {r : Option Nat} {lv lv' : List (Nat × Value)} (hdg : decode cc pc = .ok (.astore i, 2)) (h : lv_has ls nL lv) (hn : i < nL) (hl : (i, rfv al t' r) :: lv.filter (fun q => !(q.1 == i) && !(q.1 + 1 == i && q.2.category == 2)) = lv')
    (kk : ∀ ls' : Array Slot, lv_has ls' nL lv' → W p l e R s m args below meth c H locs cells slots Q (F0 m (pc + 2) ls' rest)) : W p l e R s m args below meth c H locs cells slots Q (F0 m pc ls (rfv al t' r :: rest)) := by
  cases r with
  | none => exact lv_astoreN hx hb hdg h hn hl kk
  | some j => exact lv_astore hx hb hdg h hn hl kk
end CL0
theorem toInt01 {x : Int32} (h0 : 0 ≤ x.toInt) (h1 : x.toInt ≤ 1) : x = 0 ∨ x = 1 := by
  rcases (show x.toInt = 0 ∨ x.toInt = 1 by omega) with h | h
  · left; exact (fa_eq _ _).mpr (by rw [h]; rfl)
  · right; exact (fa_eq _ _).mpr (by rw [h]; rfl)
theorem and_rng {x y : Int32} (h : 0 ≤ x.toInt) : 0 ≤ (x &&& y).toInt ∧ (x &&& y).toInt ≤ x.toInt := by
  have e1 : (x &&& y).toBitVec.toNat ≤ x.toBitVec.toNat := by
    rw [Int32.toBitVec_and, BitVec.toNat_and]; exact Nat.and_le_left
  have hx : x.toInt = x.toBitVec.toInt := rfl
  have hy : (x &&& y).toInt = (x &&& y).toBitVec.toInt := rfl
  rw [hx] at h ⊢
  rw [hy]
  have lx : x.toBitVec.toNat < 2 ^ 31 := by
    rw [BitVec.toInt_eq_toNat_cond] at h
    have := x.toBitVec.isLt
    split at h <;> omega
  rw [BitVec.toInt_eq_toNat_cond, BitVec.toInt_eq_toNat_cond, if_pos (by omega), if_pos (by omega)]
  omega
theorem and_rng' {x y : Int32} (h : 0 ≤ y.toInt) : 0 ≤ (x &&& y).toInt ∧ (x &&& y).toInt ≤ y.toInt := by
  have e : x &&& y = y &&& x := by
    apply Int32.toBitVec_inj.mp
    rw [Int32.toBitVec_and, Int32.toBitVec_and, BitVec.and_comm]
  rw [e]; exact and_rng h
end
section
section MK0
variable {l : Launch} {cc : ByteArray} {nL : Nat} {own : String} {D : va_G} {cA : FieldType → ClassId} {sz : Nat} {al : Al} {iv : Iv} {rv : Rv}
theorem mk_i {y : MethodName} {rmm : Room} {vs : List Value} {post : Int32 → Iv → Rv → Prop} (hy : plainName y.cls = true) (hn : (lg_sl vs).length ≤ nL) (ho : y.cls = own)
    (body : ∀ (p : Program) (e : Env) (s : State) (m : MethodId) (args : Array Value) (below : List Frame) (meth : Method) (c : Code) (ls : Array Slot) (Q : State → Prop) (H : Heap) (locs : List Loc), Cx p s m args c cc nL own D cA → UW D cA sz al iv rv H → va_S (Aq sz) s.heap H locs → lv_has ls nL (lv_args 0 vs) →
      (∀ {r : Int32} {iv' : Iv} {rv' : Rv} {H : Heap} {locs : List Loc} {pc : Nat} {ls : Array Slot}, post r iv' rv' → UW D cA sz al iv' rv' H → va_S (Aq sz) s.heap H locs → decode cc pc = .ok (.ireturn, 1) → W p l e rmm s m args below meth c H locs 0 0 Q (F0 m pc ls [.int r])) →
      W p l e rmm s m args below meth c H locs 0 0 Q (F0 m 0 ls [])) :
    Met l y (wd y cc nL (some .int)) rmm (PcW D cA sz al iv rv vs) (QI D cA sz al post) 0 0 (Aq sz) :=
  mk_met hy hn ho (fun p e s m below meth c ls C hr hlk _ hU hS hl => body p e s m _ below meth c ls _ _ _ C hU hS hl (fun hp hU hS hdg => q_iret C hr hlk hU hS hp hdg))
theorem mk_z {y : MethodName} {rmm : Room} {vs : List Value} {post : Int32 → Iv → Rv → Prop} (hy : plainName y.cls = true) (hn : (lg_sl vs).length ≤ nL) (ho : y.cls = own)
    (body : ∀ (p : Program) (e : Env) (s : State) (m : MethodId) (args : Array Value) (below : List Frame) (meth : Method) (c : Code) (ls : Array Slot) (Q : State → Prop) (H : Heap) (locs : List Loc), Cx p s m args c cc nL own D cA → UW D cA sz al iv rv H → va_S (Aq sz) s.heap H locs → lv_has ls nL (lv_args 0 vs) →
      (∀ {r : Int32} {iv' : Iv} {rv' : Rv} {H : Heap} {locs : List Loc} {pc : Nat} {ls : Array Slot}, 0 ≤ r.toInt → r.toInt ≤ 1 → post r iv' rv' → UW D cA sz al iv' rv' H → va_S (Aq sz) s.heap H locs → decode cc pc = .ok (.ireturn, 1) → W p l e rmm s m args below meth c H locs 0 0 Q (F0 m pc ls [.int r])) →
      W p l e rmm s m args below meth c H locs 0 0 Q (F0 m 0 ls [])) :
    Met l y (wd y cc nL (some .boolean)) rmm (PcW D cA sz al iv rv vs) (QI D cA sz al post) 0 0 (Aq sz) :=
  mk_met hy hn ho (fun p e s m below meth c ls C hr hlk _ hU hS hl => body p e s m _ below meth c ls _ _ _ C hU hS hl (fun h0 h1 hp hU hS hdg => q_zret C hr hlk hU hS h0 h1 hp hdg))
theorem mk_v {y : MethodName} {rmm : Room} {vs : List Value} {post : Iv → Rv → Prop} (hy : plainName y.cls = true) (hn : (lg_sl vs).length ≤ nL) (ho : y.cls = own)
    (body : ∀ (p : Program) (e : Env) (s : State) (m : MethodId) (args : Array Value) (below : List Frame) (meth : Method) (c : Code) (ls : Array Slot) (Q : State → Prop) (H : Heap) (locs : List Loc), Cx p s m args c cc nL own D cA → UW D cA sz al iv rv H → va_S (Aq sz) s.heap H locs → lv_has ls nL (lv_args 0 vs) →
      (∀ {iv' : Iv} {rv' : Rv} {H : Heap} {locs : List Loc} {pc : Nat} {ls : Array Slot}, post iv' rv' → UW D cA sz al iv' rv' H → va_S (Aq sz) s.heap H locs → decode cc pc = .ok (.return_, 1) → W p l e rmm s m args below meth c H locs 0 0 Q (F0 m pc ls [])) →
      W p l e rmm s m args below meth c H locs 0 0 Q (F0 m 0 ls [])) :
    Met l y (wd y cc nL none) rmm (PcW D cA sz al iv rv vs) (QV D cA sz al post) 0 0 (Aq sz) :=
  mk_met hy hn ho (fun p e s m below meth c ls C hr hlk _ hU hS hl => body p e s m _ below meth c ls _ _ _ C hU hS hl (fun hp hU hS hdg => q_vret C hr hlk hU hS hp hdg))
theorem mk_r {y : MethodName} {rmm : Room} {vs : List Value} {t' : Nat} {cn : String} {post : Option Nat → Iv → Rv → Prop} (hy : plainName y.cls = true) (hn : (lg_sl vs).length ≤ nL) (ho : y.cls = own)
    (body : ∀ (p : Program) (e : Env) (s : State) (m : MethodId) (args : Array Value) (below : List Frame) (meth : Method) (c : Code) (ls : Array Slot) (Q : State → Prop) (H : Heap) (locs : List Loc), Cx p s m args c cc nL own D cA → UW D cA sz al iv rv H → va_S (Aq sz) s.heap H locs → lv_has ls nL (lv_args 0 vs) →
      (∀ {iv' : Iv} {rv' : Rv} {H : Heap} {locs : List Loc} {pc : Nat} {ls : Array Slot} (r : Option Nat), post r iv' rv' → UW D cA sz al iv' rv' H → va_S (Aq sz) s.heap H locs → decode cc pc = .ok (.areturn, 1) → W p l e rmm s m args below meth c H locs 0 0 Q (F0 m pc ls [rfv al t' r])) →
      W p l e rmm s m args below meth c H locs 0 0 Q (F0 m 0 ls [])) :
    Met l y (wd y cc nL (some (.object cn))) rmm (PcW D cA sz al iv rv vs) (QR D cA sz al t' post) 0 0 (Aq sz) :=
  mk_met hy hn ho (fun p e s m below meth c ls C hr hlk _ hU hS hl => body p e s m _ below meth c ls _ _ _ C hU hS hl (fun r hp hU hS hdg => q_aret C hr (Or.inl ⟨_, rfl⟩) hlk hU hS hp hdg))
end MK0
end
section
theorem clamp_eq {x y : Int32} (h : x.toInt = y.toInt) : x.toNatClampNeg = y.toNatClampNeg := by
  have a : x.toNatClampNeg = x.toInt.toNat := rfl
  have b : y.toNatClampNeg = y.toInt.toNat := rfl
  rw [a, b, h]
theorem clamp_n {x : Int32} : x.toNatClampNeg = x.toInt.toNat := rfl
theorem nat_of {x : Int32} (h : 0 ≤ x.toInt) : nI x.toNatClampNeg = x := by
  have e := ix_nat h
  have r := fb_rng x
  exact (fa_eq _ _).mpr (by rw [nI_toInt (by omega)]; exact e)
theorem clamp_s {x y : Int32} (h : y.toInt = x.toInt + 1) (h0 : 0 ≤ x.toInt) : y.toNatClampNeg = x.toNatClampNeg + 1 := by
  rw [clamp_n, clamp_n]; omega
-- the reference's own words
def oF (v : Int32) : Int32 := if v.toInt < 0 then 0 else v
def lsF (a b : Int32) : Int32 := if a.toInt < b.toInt then a else b
def rsF (iv : Iv) (b : Int32) : Int32 := if b.toInt = 0 then iv 15 0 0 else iv 15 0 1
def rlF (iv : Iv) (l : Nat) : Int32 := oF (iv 12 0 l - iv 4 0 (iv 5 0 l).toNatClampNeg)
def raF (iv : Iv) (l : Nat) : Int32 := oF (iv 13 0 l - iv 4 0 (iv 6 0 l).toNatClampNeg)
def laF (iv : Iv) (l : Nat) : Int32 := oF (raF iv l - iv 10 0 l)
def olF (iv : Iv) (l : Nat) : Int32 := oF (rlF iv l - iv 9 0 l)
def ahStep (iv : Iv) (l : Nat) (b : Int32) (best : Int32) (k : Nat) : Int32 :=
  if ((((¬ b.toInt = 0) ∧ (iv 8 0 k).toInt = (iv 8 0 l).toInt) ∨ (b.toInt = 0 ∧ (iv 7 0 k).toInt = (iv 7 0 l).toInt)) ∧ (iv 6 0 k).toInt = (iv 5 0 l).toInt ∧ (iv 10 0 k).toInt + (rsF iv b).toInt ≤ (iv 9 0 l).toInt) ∧ (best.toInt < 0 ∨ (iv 10 0 best.toNatClampNeg).toInt ≤ (iv 10 0 k).toInt) then nI k else best
def ahN (iv : Iv) (l : Nat) (b : Int32) : Nat → Int32
  | 0 => -1
  | n + 1 => ahStep iv l b (ahN iv l b n) n
def ahF (iv : Iv) (l : Nat) (b : Int32) : Int32 := ahN iv l b (iv 0 0 6).toNatClampNeg
theorem ah_back {iv : Iv} {l : Nat} {b best x y z : Int32} (h : y.toInt = x.toInt + 1) (h0 : 0 ≤ x.toInt) (h1 : best = ahN iv l b x.toNatClampNeg) (h2 : z = ahStep iv l b best x.toNatClampNeg) : z = ahN iv l b y.toNatClampNeg := by
  rw [clamp_s h h0, h2, h1]; rfl
def wtF (iv : Iv) (l : Nat) (b : Int32) : Int32 :=
  if (ahF iv l b).toInt < 0 then 0 else if (iv 11 0 (ahF iv l b).toNatClampNeg).toInt = 0 then 0 else
    lsF (oF (raF iv (ahF iv l b).toNatClampNeg + rsF iv b - iv 9 0 l)) (olF iv l)
def bcF (iv : Iv) (l : Nat) : Int32 := if (wtF iv l 0).toInt < (wtF iv l 1).toInt then 1 else 0
def hdF (iv : Iv) (l : Nat) : Int32 := lsF (laF iv l) (wtF iv l (bcF iv l))
theorem wt_pos {iv : Iv} {l : Nat} {b : Int32} (h : 0 < (wtF iv l b).toInt) : 0 ≤ (ahF iv l b).toInt := by
  unfold wtF at h
  split at h
  · exact absurd h (by decide)
  · omega
theorem ls_pos {a b : Int32} (h : 0 < (lsF a b).toInt) : 0 < a.toInt ∧ 0 < b.toInt := by
  unfold lsF at h
  split at h <;> omega
theorem hd_pos {iv : Iv} {l : Nat} (h : 0 < (hdF iv l).toInt) : 0 ≤ (ahF iv l (bcF iv l)).toInt := wt_pos (ls_pos h).2
theorem ahN_ok {iv : Iv} {l : Nat} {b : Int32} : ∀ n : Nat, n ≤ 40 → (ahN iv l b n).toInt < 0 ∨ ∃ k : Nat, k < n ∧ ahN iv l b n = nI k ∧ (iv 10 0 k).toInt + (rsF iv b).toInt ≤ (iv 9 0 l).toInt
  | 0, _ => Or.inl (show (-1 : Int32).toInt < 0 by decide)
  | n + 1, hn => by
    have ih := ahN_ok (iv := iv) (l := l) (b := b) n (by omega)
    show (ahStep iv l b (ahN iv l b n) n).toInt < 0 ∨ ∃ k : Nat, k < n + 1 ∧ ahStep iv l b (ahN iv l b n) n = nI k ∧ _
    unfold ahStep
    split
    · rename_i h
      exact Or.inr ⟨n, by omega, rfl, h.1.2.2⟩
    · rcases ih with h | ⟨k, h1, h2, h3⟩
      · exact Or.inl h
      · exact Or.inr ⟨k, by omega, h2, h3⟩
theorem ah_lt {al : Al} {iv : Iv} {rv : Rv} (hG : GI al iv rv) {l : Nat} {b : Int32} (h : 0 ≤ (ahF iv l b).toInt) : (ahF iv l b).toInt < (iv 0 0 6).toInt ∧ (iv 9 0 (ahF iv l b).toNatClampNeg).toInt < (iv 9 0 l).toInt := by
  have r6 := hG.1 0 0 6 (h1_0 hG) (by decide)
  have r6a : (0 : Int) ≤ (iv 0 0 6).toInt := r6.1
  have r6b : (iv 0 0 6).toInt ≤ (40 : Int) := r6.2
  have hc : (((iv 0 0 6).toNatClampNeg : Nat) : Int) = (iv 0 0 6).toInt := ix_nat r6a
  rcases ahN_ok (iv := iv) (l := l) (b := b) (iv 0 0 6).toNatClampNeg (by omega) with h1 | ⟨k, h1, h2, h3⟩
  · exact absurd h (by show ¬ 0 ≤ (ahN iv l b (iv 0 0 6).toNatClampNeg).toInt; omega)
  · have e : ahF iv l b = nI k := h2
    have hk : (nI k).toInt = (k : Int) := nI_toInt (by omega)
    have hcl : (nI k).toNatClampNeg = k := nI_clamp (by omega)
    rw [e, hk, hcl]
    have s1 := hG.2.2.2.2.2.2.2.2.2.2.2 k (by omega)
    have s2 : (0 : Int) ≤ (rsF iv b).toInt := by
      unfold rsF
      split
      · exact (hG.1 15 0 0 (h1_15 hG) (by decide)).1
      · exact (hG.1 15 0 1 (h1_15 hG) (by decide)).1
    exact ⟨by omega, by omega⟩
-- they don't look at byCause
theorem rs_cong {iv iv' : Iv} (h : ∀ t i k, t ≠ 17 → iv' t i k = iv t i k) (b : Int32) : rsF iv' b = rsF iv b := by simp only [rsF, h 15 _ _ (by decide)]
theorem ra_cong {iv iv' : Iv} (h : ∀ t i k, t ≠ 17 → iv' t i k = iv t i k) (l : Nat) : raF iv' l = raF iv l := by simp only [raF, h 13 _ _ (by decide), h 4 _ _ (by decide), h 6 _ _ (by decide)]
theorem rl_cong {iv iv' : Iv} (h : ∀ t i k, t ≠ 17 → iv' t i k = iv t i k) (l : Nat) : rlF iv' l = rlF iv l := by simp only [rlF, h 12 _ _ (by decide), h 4 _ _ (by decide), h 5 _ _ (by decide)]
theorem la_cong {iv iv' : Iv} (h : ∀ t i k, t ≠ 17 → iv' t i k = iv t i k) (l : Nat) : laF iv' l = laF iv l := by simp only [laF, ra_cong h, h 10 _ _ (by decide)]
theorem ol_cong {iv iv' : Iv} (h : ∀ t i k, t ≠ 17 → iv' t i k = iv t i k) (l : Nat) : olF iv' l = olF iv l := by simp only [olF, rl_cong h, h 9 _ _ (by decide)]
theorem ahN_cong {iv iv' : Iv} (h : ∀ t i k, t ≠ 17 → iv' t i k = iv t i k) (l : Nat) (b : Int32) : ∀ n : Nat, ahN iv' l b n = ahN iv l b n
  | 0 => rfl
  | n + 1 => by
    show ahStep iv' l b (ahN iv' l b n) n = ahStep iv l b (ahN iv l b n) n
    rw [ahN_cong h l b n]
    simp only [ahStep, rs_cong h, h 5 _ _ (by decide), h 6 _ _ (by decide), h 7 _ _ (by decide), h 8 _ _ (by decide), h 9 _ _ (by decide), h 10 _ _ (by decide)]
theorem ah_cong {iv iv' : Iv} (h : ∀ t i k, t ≠ 17 → iv' t i k = iv t i k) (l : Nat) (b : Int32) : ahF iv' l b = ahF iv l b := by
  unfold ahF; rw [h 0 0 6 (by decide), ahN_cong h]
theorem wt_cong {iv iv' : Iv} (h : ∀ t i k, t ≠ 17 → iv' t i k = iv t i k) (l : Nat) (b : Int32) : wtF iv' l b = wtF iv l b := by
  simp only [wtF, ah_cong h, ra_cong h, rs_cong h, ol_cong h, h 11 _ _ (by decide), h 9 _ _ (by decide)]
theorem bc_cong {iv iv' : Iv} (h : ∀ t i k, t ≠ 17 → iv' t i k = iv t i k) (l : Nat) : bcF iv' l = bcF iv l := by simp only [bcF, wt_cong h]
theorem hd_cong {iv iv' : Iv} (h : ∀ t i k, t ≠ 17 → iv' t i k = iv t i k) (l : Nat) : hdF iv' l = hdF iv l := by simp only [hdF, la_cong h, wt_cong h, bc_cong h]
theorem fr17 {iv iv' : Iv} (h : FR ([17], []) iv iv') : ∀ t i k, t ≠ 17 → iv' t i k = iv t i k := fun t i k ht => h t i k (by
  intro q
  rcases q with q | q
  · exact ht (List.mem_singleton.mp q)
  · cases q)
theorem rm1 {al : Al} {iv : Iv} {rv : Rv} (hG : GI al iv rv) {x : Int32} (h0 : 0 ≤ x.toInt) (h1 : x.toInt < (iv 0 0 20).toInt) : 1 ≤ (iv 19 0 x.toNatClampNeg).toInt :=
  hG.2.2.2.2.2.2.2.2.2.1 x.toNatClampNeg (by rw [ix_nat h0]; exact h1)
theorem co1 {al : Al} {iv : Iv} {rv : Rv} (hG : GI al iv rv) {x : Int32} (h0 : 0 ≤ x.toInt) (h1 : x.toInt < (iv 0 0 41).toInt) : (iv 35 0 x.toNatClampNeg).toInt < (iv 0 0 20).toInt :=
  hG.2.2.2.2.2.2.2.2.2.2.1 x.toNatClampNeg (by rw [ix_nat h0]; exact h1)
theorem le20 {al : Al} {iv : Iv} {rv : Rv} (hG : GI al iv rv) : 0 ≤ (iv 0 0 20).toInt ∧ (iv 0 0 20).toInt ≤ 20 := hG.1 0 0 20 (h1_0 hG) (by decide)
theorem le41 {al : Al} {iv : Iv} {rv : Rv} (hG : GI al iv rv) : 0 ≤ (iv 0 0 41).toInt ∧ (iv 0 0 41).toInt ≤ 30 := hG.1 0 0 41 (h1_0 hG) (by decide)
theorem le6 {al : Al} {iv : Iv} {rv : Rv} (hG : GI al iv rv) : 0 ≤ (iv 0 0 6).toInt ∧ (iv 0 0 6).toInt ≤ 40 := hG.1 0 0 6 (h1_0 hG) (by decide)
-- how many are not reached yet
def ctU (iv : Iv) : Nat → Nat
  | 0 => 0
  | n + 1 => ctU iv n + (if (iv 20 0 n).toInt = 0 then 1 else 0)
theorem ct_out {iv : Iv} {j : Nat} {v : Int32} : ∀ n : Nat, n ≤ j → ctU (up3 iv 20 0 j v) n = ctU iv n
  | 0, _ => rfl
  | n + 1, h => by
    show ctU (up3 iv 20 0 j v) n + _ = ctU iv n + _
    rw [ct_out n (by omega), up3_ne (fun q => by omega)]
theorem ct_put {iv : Iv} {j : Nat} {v : Int32} : ∀ n : Nat, j < n → ctU (up3 iv 20 0 j v) n + (if (iv 20 0 j).toInt = 0 then 1 else 0) = ctU iv n + (if v.toInt = 0 then 1 else 0)
  | 0, h => absurd h (Nat.not_lt_zero _)
  | n + 1, h => by
    show ctU (up3 iv 20 0 j v) n + (if (up3 iv 20 0 j v 20 0 n).toInt = 0 then 1 else 0) + (if (iv 20 0 j).toInt = 0 then 1 else 0) = ctU iv n + (if (iv 20 0 n).toInt = 0 then 1 else 0) + (if v.toInt = 0 then 1 else 0)
    rcases Nat.lt_or_ge j n with q | q
    · have ih := ct_put (iv := iv) (j := j) (v := v) n q
      rw [up3_ne (fun z => by omega)]
      omega
    · have e : j = n := by omega
      subst e
      rw [ct_out j (Nat.le_refl _), up3_self]
      omega
theorem ct_le {iv iv' : Iv} {x v : Int32} (e : iv' = up3 iv 20 0 x.toNatClampNeg v) (h0 : 0 ≤ x.toInt) (h1 : x.toInt < 40) (h : (iv 20 0 x.toNatClampNeg).toInt ≠ 0 → v.toInt ≠ 0) : ctU iv' 40 ≤ ctU iv 40 ∧ ((iv 20 0 x.toNatClampNeg).toInt = 0 → v.toInt ≠ 0 → ctU iv' 40 < ctU iv 40) := by
  have q := ct_put (iv := iv) (j := x.toNatClampNeg) (v := v) 40 (by rw [clamp_n]; omega)
  rw [← e] at q
  refine ⟨?_, fun a b => ?_⟩
  · by_cases a : (iv 20 0 x.toNatClampNeg).toInt = 0
    · rw [if_pos a] at q; split at q <;> omega
    · rw [if_neg a, if_neg (h a)] at q; omega
  · rw [if_pos a, if_neg b] at q; omega
theorem FR.arr {α : Type} {m : Mo} {f0 f : Nat → Nat → Nat → α} (h : FR m f0 f) (t i k : Nat) (ht : t ∉ m.1 ∧ t ∉ m.2.map (fun p => p.1)) : f t i k = f0 t i k := h t i k (by
  intro q
  rcases q with q | q
  · exact ht.1 q
  · exact ht.2 (List.mem_map.mpr ⟨_, q, rfl⟩))
theorem div_rng {x d : Int32} (h : 0 ≤ x.toInt) (hd : 0 < d.toInt) : 0 ≤ (x / d).toInt ∧ (x / d).toInt ≤ x.toInt := by
  have rx := fb_rng x
  have rd := fb_rng d
  have ex := nat_of h
  have ed := nat_of (Int.le_of_lt hd)
  have cx := ix_nat h
  have cd := ix_nat (Int.le_of_lt hd)
  have hq : x.toNatClampNeg / d.toNatClampNeg ≤ x.toNatClampNeg := Nat.div_le_self _ _
  have e : x / d = nI (x.toNatClampNeg / d.toNatClampNeg) := by
    have := pk_div (a := x.toNatClampNeg) (d := d.toNatClampNeg) (by omega) (by omega) (by omega)
    rw [ex, ed] at this
    exact this
  generalize x.toNatClampNeg / d.toNatClampNeg = q at e hq
  rw [e, nI_toInt (by omega)]
  omega
-- cells that the invariants speak of
theorem GI.put9 {al : Al} {iv : Iv} {rv : Rv} (h : GI al iv rv) {x v : Int32} (hr : 0 ≤ v.toInt ∧ v.toInt ≤ 20000) (hx : (iv 0 0 6).toInt ≤ x.toInt) (h0 : 0 ≤ x.toInt) : GI al (up3 iv 9 0 x.toNatClampNeg v) rv := by
  refine ⟨h.1.put hr, h.2.1, h.2.2.1, ?_⟩
  obtain ⟨y1, y2, y3, y4, y5, y6, y7, y8, y9⟩ := h.2.2.2
  have e : ∀ t i k, t ≠ 9 → up3 iv 9 0 x.toNatClampNeg v t i k = iv t i k := fun t i k q => up3_ne (fun z => q z.1)
  have cx := ix_nat h0
  refine ⟨y1, y2, y3, y4, y5, y6, y7, y8, fun k hk => ?_⟩
  have hk2 : (k : Int) < (iv 0 0 6).toInt := by rw [e 0 0 6 (by decide)] at hk; exact hk
  rw [e 10 0 k (by decide), up3_ne (fun z => by omega)]
  exact y9 k hk2
theorem GI.put10 {al : Al} {iv : Iv} {rv : Rv} (h : GI al iv rv) {x v : Int32} (hr : 0 ≤ v.toInt ∧ v.toInt ≤ 20000) (hx : (iv 0 0 6).toInt ≤ x.toInt) (h0 : 0 ≤ x.toInt) : GI al (up3 iv 10 0 x.toNatClampNeg v) rv := by
  refine ⟨h.1.put hr, h.2.1, h.2.2.1, ?_⟩
  obtain ⟨y1, y2, y3, y4, y5, y6, y7, y8, y9⟩ := h.2.2.2
  have e : ∀ t i k, t ≠ 10 → up3 iv 10 0 x.toNatClampNeg v t i k = iv t i k := fun t i k q => up3_ne (fun z => q z.1)
  have cx := ix_nat h0
  refine ⟨y1, y2, y3, y4, y5, y6, y7, y8, fun k hk => ?_⟩
  have hk2 : (k : Int) < (iv 0 0 6).toInt := by rw [e 0 0 6 (by decide)] at hk; exact hk
  rw [e 9 0 k (by decide), up3_ne (fun z => by omega)]
  exact y9 k hk2
theorem GI.put6 {al : Al} {iv : Iv} {rv : Rv} (h : GI al iv rv) {v x : Int32} (hr : 0 ≤ v.toInt ∧ v.toInt ≤ 40) (hx : x.toInt = (iv 0 0 6).toInt) (hv : v.toInt = x.toInt + 1) (hn : (iv 9 0 x.toNatClampNeg).toInt < (iv 10 0 x.toNatClampNeg).toInt) : GI al (up3 iv 0 0 6 v) rv := by
  have r6 := le6 h
  refine ⟨h.1.put hr, h.2.1, h.2.2.1, ?_⟩
  obtain ⟨y1, y2, y3, y4, y5, y6, y7, y8, y9⟩ := h.2.2.2
  refine ⟨y1, y2, y3, y4, y5, y6, y7, y8, fun k hk => ?_⟩
  rw [up3_self] at hk
  show (iv 9 0 k).toInt < (iv 10 0 k).toInt
  rcases Int.lt_or_le (k : Int) (iv 0 0 6).toInt with q | q
  · exact y9 k q
  · have e : k = x.toNatClampNeg := by rw [clamp_n]; omega
    rw [e]; exact hn
theorem GI.put19 {al : Al} {iv : Iv} {rv : Rv} (h : GI al iv rv) {k : Nat} {v : Int32} (hr : 1 ≤ v.toInt ∧ v.toInt ≤ 4) : GI al (up3 iv 19 0 k v) rv := by
  refine ⟨h.1.put (show (0 : Int) ≤ _ ∧ _ ≤ (4 : Int) by omega), h.2.1, h.2.2.1, ?_⟩
  obtain ⟨y1, y2, y3, y4, y5, y6, y7, y8, y9⟩ := h.2.2.2
  refine ⟨y1, y2, y3, y4, y5, y6, fun t ht => ?_, y8, y9⟩
  rcases up3_cases (f := iv) (t := 19) (i := 0) (k := k) (t' := 19) (i' := 0) (k' := t) (x := v) with ⟨-, -, -, e⟩ | e
  · rw [e]; exact hr.1
  · rw [e]; exact y7 t ht
theorem GI.put20 {al : Al} {iv : Iv} {rv : Rv} (h : GI al iv rv) {v x : Int32} (hr : 0 ≤ v.toInt ∧ v.toInt ≤ 20) (hx : x.toInt = (iv 0 0 20).toInt) (hv : v.toInt = x.toInt + 1) (hn : 1 ≤ (iv 19 0 x.toNatClampNeg).toInt) : GI al (up3 iv 0 0 20 v) rv := by
  have r6 := le20 h
  refine ⟨h.1.put hr, h.2.1, h.2.2.1, ?_⟩
  obtain ⟨y1, y2, y3, y4, y5, y6, y7, y8, y9⟩ := h.2.2.2
  refine ⟨y1, y2, y3, y4, y5, y6, fun t ht => ?_, fun c hc => ?_, y9⟩
  · rw [up3_self] at ht
    show 1 ≤ (iv 19 0 t).toInt
    rcases Int.lt_or_le (t : Int) (iv 0 0 20).toInt with q | q
    · exact y7 t q
    · have e : t = x.toNatClampNeg := by rw [clamp_n]; omega
      rw [e]; exact hn
  · have q := y8 c hc
    rw [up3_self]
    show (iv 35 0 c).toInt < v.toInt
    omega
theorem GI.put35 {al : Al} {iv : Iv} {rv : Rv} (h : GI al iv rv) {k : Nat} {v : Int32} (hr : 0 ≤ v.toInt ∧ v.toInt ≤ 19) (hv : v.toInt < (iv 0 0 20).toInt) : GI al (up3 iv 35 0 k v) rv := by
  refine ⟨h.1.put hr, h.2.1, h.2.2.1, ?_⟩
  obtain ⟨y1, y2, y3, y4, y5, y6, y7, y8, y9⟩ := h.2.2.2
  refine ⟨y1, y2, y3, y4, y5, y6, y7, fun c hc => ?_, y9⟩
  rcases up3_cases (f := iv) (t := 35) (i := 0) (k := k) (t' := 35) (i' := 0) (k' := c) (x := v) with ⟨-, -, -, e⟩ | e
  · rw [e]; exact hv
  · rw [e]; exact y8 c hc
theorem GI.put41 {al : Al} {iv : Iv} {rv : Rv} (h : GI al iv rv) {v x : Int32} (hr : 0 ≤ v.toInt ∧ v.toInt ≤ 30) (hx : x.toInt = (iv 0 0 41).toInt) (hv : v.toInt = x.toInt + 1) (hn : (iv 35 0 x.toNatClampNeg).toInt < (iv 0 0 20).toInt) : GI al (up3 iv 0 0 41 v) rv := by
  have r6 := le41 h
  refine ⟨h.1.put hr, h.2.1, h.2.2.1, ?_⟩
  obtain ⟨y1, y2, y3, y4, y5, y6, y7, y8, y9⟩ := h.2.2.2
  refine ⟨y1, y2, y3, y4, y5, y6, y7, fun c hc => ?_, y9⟩
  rw [up3_self] at hc
  show (iv 35 0 c).toInt < (iv 0 0 20).toInt
  rcases Int.lt_or_le (c : Int) (iv 0 0 41).toInt with q | q
  · exact y8 c q
  · have e : c = x.toNatClampNeg := by rw [clamp_n]; omega
    rw [e]; exact hn
end
section
set_option maxHeartbeats 4000000 in
set_option maxRecDepth 100000 in
theorem c_X12_in {l : Launch} {D : va_G} {cA : FieldType → ClassId} {sz : Nat} {al : Al} {iv : Iv} {rv : Rv} (v : Int32) (lo : Int32) (hi : Int32) : Met l yX12_in (wd yX12_in cX12_in 3 (some .boolean)) (rm 0) (PcW D cA sz al iv rv [.int v, .int lo, .int hi]) (QI D cA sz al (pI iv rv (fun r => (0 ≤ r.toInt ∧ r.toInt ≤ 1) ∧ (((lo.toInt ≤ v.toInt ∧ v.toInt ≤ hi.toInt) ∧ r.toInt = 1) ∨ ((¬ (lo.toInt ≤ v.toInt ∧ v.toInt ≤ hi.toInt)) ∧ r.toInt = 0))))) 0 0 (Aq sz) := by
  refine mk_z (by decide) (Nat.le_of_ble_eq_true rfl) rfl ?_
  intro p e s m args below meth c ls Q H locs C hU hS hl hret
  have hx := C.1.1
  have hb := C.1.2.1
  have hl : lv_has ls 3 [(0, .int v), (1, .int lo), (2, .int hi)] := hl
  have k0 : (0 : Int32).toInt = 0 := by decide
  have k1 : (1 : Int32).toInt = 1 := by decide
  refine lv_iload_n hx hb dX12_in_0 rfl (lv_at hl 0 rfl) ?_
  refine lv_iload_n hx hb dX12_in_1 rfl (lv_at hl 1 rfl) ?_
  refine b_icmp_lt (tgt := 14) hx hb dX12_in_2 (by decide) (fun c_1 => ?_) (fun c_1 => ?_)
  ·
    refine lv_iconst (v := 0) hx hb dX12_in_14 (by decide) ?_
    exact hret (by omega) (by omega) (⟨rfl, rfl, ⟨⟨by omega, by omega⟩, by omega⟩⟩) hU hS dX12_in_15
  ·
    refine lv_iload_n hx hb dX12_in_5 rfl (lv_at hl 0 rfl) ?_
    refine lv_iload_n hx hb dX12_in_6 rfl (lv_at hl 2 rfl) ?_
    refine b_icmp_gt (tgt := 14) hx hb dX12_in_7 (by decide) (fun c_2 => ?_) (fun c_2 => ?_)
    ·
      refine lv_iconst (v := 0) hx hb dX12_in_14 (by decide) ?_
      exact hret (by omega) (by omega) (⟨rfl, rfl, ⟨⟨by omega, by omega⟩, by omega⟩⟩) hU hS dX12_in_15
    ·
      refine lv_iconst (v := 1) hx hb dX12_in_10 (by decide) ?_
      refine lv_goto (tgt := 15) hx hb dX12_in_11 (by decide) ?_
      exact hret (by omega) (by omega) (⟨rfl, rfl, ⟨⟨by omega, by omega⟩, by omega⟩⟩) hU hS dX12_in_15
set_option maxHeartbeats 4000000 in
set_option maxRecDepth 100000 in
theorem c_X12_isPort {l : Launch} {D : va_G} {cA : FieldType → ClassId} {sz : Nat} {al : Al} {iv : Iv} {rv : Rv} (v : Int32) : Met l yX12_isPort (wd yX12_isPort cX12_isPort 1 (some .boolean)) (rm 1) (PcW D cA sz al iv rv [.int v]) (QI D cA sz al (pI iv rv (fun r => (0 ≤ r.toInt ∧ r.toInt ≤ 1) ∧ (((0 ≤ (v : Int32).toInt ∧ (v : Int32).toInt ≤ 9) ∧ r.toInt = 1) ∨ ((¬ (0 ≤ (v : Int32).toInt ∧ (v : Int32).toInt ≤ 9)) ∧ r.toInt = 0))))) 0 0 (Aq sz) := by
  refine mk_z (by decide) (Nat.le_of_ble_eq_true rfl) rfl ?_
  intro p e s m args below meth c ls Q H locs C hU hS hl hret
  have hx := C.1.1
  have hb := C.1.2.1
  have hl : lv_has ls 1 [(0, .int v)] := hl
  have k0 : (0 : Int32).toInt = 0 := by decide
  have k9 : (9 : Int32).toInt = 9 := by decide
  refine lv_iload_n hx hb dX12_isPort_0 rfl (lv_at hl 0 rfl) ?_
  refine lv_iconst (v := 0) hx hb dX12_isPort_1 (by decide) ?_
  refine lv_bipush (v := 9) hx hb dX12_isPort_2 (by decide) ?_
  refine q_pi (q_runS (As := [.int v, .int 0, .int 9]) (rest := []) C hU (c_X12_in  v 0 9 ) sm_X12_in ml_X12_156 hl.1 rfl rfl (Nat.le_of_ble_eq_true rfl) dX12_isPort_4 rfl rfl ⟨Nat.le_of_ble_eq_true rfl, Nat.le_of_ble_eq_true rfl⟩ ⟨Nat.le_refl _, Nat.le_refl _⟩) hS (fun x_2 H locs hp_1 hU hS => ?_)
  exact hret (by omega) (by omega) (⟨rfl, rfl, ⟨⟨by omega, by omega⟩, by omega⟩⟩) hU hS dX12_isPort_7
set_option maxHeartbeats 4000000 in
set_option maxRecDepth 100000 in
theorem c_X12_isCause {l : Launch} {D : va_G} {cA : FieldType → ClassId} {sz : Nat} {al : Al} {iv : Iv} {rv : Rv} (v : Int32) : Met l yX12_isCause (wd yX12_isCause cX12_isCause 1 (some .boolean)) (rm 1) (PcW D cA sz al iv rv [.int v]) (QI D cA sz al (pI iv rv (fun r => (0 ≤ r.toInt ∧ r.toInt ≤ 1) ∧ (((0 ≤ (v : Int32).toInt ∧ (v : Int32).toInt ≤ 5) ∧ r.toInt = 1) ∨ ((¬ (0 ≤ (v : Int32).toInt ∧ (v : Int32).toInt ≤ 5)) ∧ r.toInt = 0))))) 0 0 (Aq sz) := by
  refine mk_z (by decide) (Nat.le_of_ble_eq_true rfl) rfl ?_
  intro p e s m args below meth c ls Q H locs C hU hS hl hret
  have hx := C.1.1
  have hb := C.1.2.1
  have hl : lv_has ls 1 [(0, .int v)] := hl
  have k0 : (0 : Int32).toInt = 0 := by decide
  have k5 : (5 : Int32).toInt = 5 := by decide
  refine lv_iload_n hx hb dX12_isCause_0 rfl (lv_at hl 0 rfl) ?_
  refine lv_iconst (v := 0) hx hb dX12_isCause_1 (by decide) ?_
  refine lv_iconst (v := 5) hx hb dX12_isCause_2 (by decide) ?_
  refine q_pi (q_runS (As := [.int v, .int 0, .int 5]) (rest := []) C hU (c_X12_in  v 0 5 ) sm_X12_in ml_X12_156 hl.1 rfl rfl (Nat.le_of_ble_eq_true rfl) dX12_isCause_3 rfl rfl ⟨Nat.le_of_ble_eq_true rfl, Nat.le_of_ble_eq_true rfl⟩ ⟨Nat.le_refl _, Nat.le_refl _⟩) hS (fun x_2 H locs hp_1 hU hS => ?_)
  exact hret (by omega) (by omega) (⟨rfl, rfl, ⟨⟨by omega, by omega⟩, by omega⟩⟩) hU hS dX12_isCause_6
set_option maxHeartbeats 4000000 in
set_option maxRecDepth 100000 in
theorem c_X12_isLand {l : Launch} {D : va_G} {cA : FieldType → ClassId} {sz : Nat} {al : Al} {iv : Iv} {rv : Rv} (v : Int32) : Met l yX12_isLand (wd yX12_isLand cX12_isLand 1 (some .boolean)) (rm 1) (PcW D cA sz al iv rv [.int v]) (QI D cA sz al (pI iv rv (fun r => (0 ≤ r.toInt ∧ r.toInt ≤ 1) ∧ (((0 ≤ (v : Int32).toInt ∧ (v : Int32).toInt ≤ 3) ∧ r.toInt = 1) ∨ ((¬ (0 ≤ (v : Int32).toInt ∧ (v : Int32).toInt ≤ 3)) ∧ r.toInt = 0))))) 0 0 (Aq sz) := by
  refine mk_z (by decide) (Nat.le_of_ble_eq_true rfl) rfl ?_
  intro p e s m args below meth c ls Q H locs C hU hS hl hret
  have hx := C.1.1
  have hb := C.1.2.1
  have hl : lv_has ls 1 [(0, .int v)] := hl
  have k0 : (0 : Int32).toInt = 0 := by decide
  have k3 : (3 : Int32).toInt = 3 := by decide
  refine lv_iload_n hx hb dX12_isLand_0 rfl (lv_at hl 0 rfl) ?_
  refine lv_iconst (v := 0) hx hb dX12_isLand_1 (by decide) ?_
  refine lv_iconst (v := 3) hx hb dX12_isLand_2 (by decide) ?_
  refine q_pi (q_runS (As := [.int v, .int 0, .int 3]) (rest := []) C hU (c_X12_in  v 0 3 ) sm_X12_in ml_X12_156 hl.1 rfl rfl (Nat.le_of_ble_eq_true rfl) dX12_isLand_3 rfl rfl ⟨Nat.le_of_ble_eq_true rfl, Nat.le_of_ble_eq_true rfl⟩ ⟨Nat.le_refl _, Nat.le_refl _⟩) hS (fun x_2 H locs hp_1 hU hS => ?_)
  exact hret (by omega) (by omega) (⟨rfl, rfl, ⟨⟨by omega, by omega⟩, by omega⟩⟩) hU hS dX12_isLand_6
set_option maxHeartbeats 4000000 in
set_option maxRecDepth 100000 in
theorem c_X12_isPayer {l : Launch} {D : va_G} {cA : FieldType → ClassId} {sz : Nat} {al : Al} {iv : Iv} {rv : Rv} (v : Int32) : Met l yX12_isPayer (wd yX12_isPayer cX12_isPayer 1 (some .boolean)) (rm 1) (PcW D cA sz al iv rv [.int v]) (QI D cA sz al (pI iv rv (fun r => (0 ≤ r.toInt ∧ r.toInt ≤ 1) ∧ (((0 ≤ (v : Int32).toInt ∧ (v : Int32).toInt ≤ 4) ∧ r.toInt = 1) ∨ ((¬ (0 ≤ (v : Int32).toInt ∧ (v : Int32).toInt ≤ 4)) ∧ r.toInt = 0))))) 0 0 (Aq sz) := by
  refine mk_z (by decide) (Nat.le_of_ble_eq_true rfl) rfl ?_
  intro p e s m args below meth c ls Q H locs C hU hS hl hret
  have hx := C.1.1
  have hb := C.1.2.1
  have hl : lv_has ls 1 [(0, .int v)] := hl
  have k0 : (0 : Int32).toInt = 0 := by decide
  have k4 : (4 : Int32).toInt = 4 := by decide
  refine lv_iload_n hx hb dX12_isPayer_0 rfl (lv_at hl 0 rfl) ?_
  refine lv_iconst (v := 0) hx hb dX12_isPayer_1 (by decide) ?_
  refine lv_iconst (v := 4) hx hb dX12_isPayer_2 (by decide) ?_
  refine q_pi (q_runS (As := [.int v, .int 0, .int 4]) (rest := []) C hU (c_X12_in  v 0 4 ) sm_X12_in ml_X12_156 hl.1 rfl rfl (Nat.le_of_ble_eq_true rfl) dX12_isPayer_3 rfl rfl ⟨Nat.le_of_ble_eq_true rfl, Nat.le_of_ble_eq_true rfl⟩ ⟨Nat.le_refl _, Nat.le_refl _⟩) hS (fun x_2 H locs hp_1 hU hS => ?_)
  exact hret (by omega) (by omega) (⟨rfl, rfl, ⟨⟨by omega, by omega⟩, by omega⟩⟩) hU hS dX12_isPayer_6
set_option maxHeartbeats 4000000 in
set_option maxRecDepth 100000 in
theorem c_X12_isLeg {l : Launch} {D : va_G} {cA : FieldType → ClassId} {sz : Nat} {al : Al} {iv : Iv} {rv : Rv} (hG : GI al iv rv) (v : Int32) : Met l yX12_isLeg (wd yX12_isLeg cX12_isLeg 2 (some .boolean)) (rm 1) (PcW D cA sz al iv rv [.ref (al.2 0 0), .int v]) (QI D cA sz al (pI iv rv (fun r => (0 ≤ r.toInt ∧ r.toInt ≤ 1) ∧ (((0 ≤ v.toInt ∧ v.toInt < (iv 0 0 6).toInt) ∧ r.toInt = 1) ∨ ((¬ (0 ≤ v.toInt ∧ v.toInt < (iv 0 0 6).toInt)) ∧ r.toInt = 0))))) 0 0 (Aq sz) := by
  refine mk_z (by decide) (Nat.le_of_ble_eq_true rfl) rfl ?_
  intro p e s m args below meth c ls Q H locs C hU hS hl hret
  have hx := C.1.1
  have hb := C.1.2.1
  have hl : lv_has ls 2 [(0, .ref (al.2 0 0)), (1, .int v)] := hl
  have hG0 := hG
  have h6 := le6 hG
  have h20 := le20 hG
  have h41 := le41 hG
  have k0 : (0 : Int32).toInt = 0 := by decide
  have k1 : (1 : Int32).toInt = 1 := by decide
  refine lv_iload_n hx hb dX12_isLeg_0 rfl (lv_at hl 1 rfl) ?_
  refine lv_iconst (v := 0) hx hb dX12_isLeg_1 (by decide) ?_
  refine lv_aload_n hx hb dX12_isLeg_2 rfl (lv_at hl 0 rfl) ?_
  refine g_0_6 C hU hG (h1_0 hG) fl_X12_160 dX12_isLeg_3 (fun x_1 e_2 le_2 ue_2 => ?_)
  have te_2 := congrArg Int32.toInt e_2
  refine lv_iconst (v := 1) hx hb dX12_isLeg_6 (by decide) ?_
  refine lv_isub hx hb dX12_isLeg_7 ?_
  refine lv_topi (fun x_3 e_4 => ?_)
  have te_4 : x_3.toInt = (x_1 : Int32).toInt - (1 : Int32).toInt := by rw [e_4]; exact fb_subI (by omega) (by omega)
  refine q_pi (q_runS (As := [.int v, .int 0, .int x_3]) (rest := []) C hU (c_X12_in  v 0 x_3 ) sm_X12_in ml_X12_156 hl.1 rfl rfl (Nat.le_of_ble_eq_true rfl) dX12_isLeg_8 rfl rfl ⟨Nat.le_of_ble_eq_true rfl, Nat.le_of_ble_eq_true rfl⟩ ⟨Nat.le_refl _, Nat.le_refl _⟩) hS (fun x_6 H locs hp_5 hU hS => ?_)
  exact hret (by omega) (by omega) (⟨rfl, rfl, ⟨⟨by omega, by omega⟩, by omega⟩⟩) hU hS dX12_isLeg_11
set_option maxHeartbeats 4000000 in
set_option maxRecDepth 100000 in
theorem c_X12_isTraveller {l : Launch} {D : va_G} {cA : FieldType → ClassId} {sz : Nat} {al : Al} {iv : Iv} {rv : Rv} (hG : GI al iv rv) (v : Int32) : Met l yX12_isTraveller (wd yX12_isTraveller cX12_isTraveller 2 (some .boolean)) (rm 1) (PcW D cA sz al iv rv [.ref (al.2 0 0), .int v]) (QI D cA sz al (pI iv rv (fun r => (0 ≤ r.toInt ∧ r.toInt ≤ 1) ∧ (((0 ≤ v.toInt ∧ v.toInt < (iv 0 0 20).toInt) ∧ r.toInt = 1) ∨ ((¬ (0 ≤ v.toInt ∧ v.toInt < (iv 0 0 20).toInt)) ∧ r.toInt = 0))))) 0 0 (Aq sz) := by
  refine mk_z (by decide) (Nat.le_of_ble_eq_true rfl) rfl ?_
  intro p e s m args below meth c ls Q H locs C hU hS hl hret
  have hx := C.1.1
  have hb := C.1.2.1
  have hl : lv_has ls 2 [(0, .ref (al.2 0 0)), (1, .int v)] := hl
  have hG0 := hG
  have h6 := le6 hG
  have h20 := le20 hG
  have h41 := le41 hG
  have k0 : (0 : Int32).toInt = 0 := by decide
  have k1 : (1 : Int32).toInt = 1 := by decide
  refine lv_iload_n hx hb dX12_isTraveller_0 rfl (lv_at hl 1 rfl) ?_
  refine lv_iconst (v := 0) hx hb dX12_isTraveller_1 (by decide) ?_
  refine lv_aload_n hx hb dX12_isTraveller_2 rfl (lv_at hl 0 rfl) ?_
  refine g_0_20 C hU hG (h1_0 hG) fl_X12_223 dX12_isTraveller_3 (fun x_1 e_2 le_2 ue_2 => ?_)
  have te_2 := congrArg Int32.toInt e_2
  refine lv_iconst (v := 1) hx hb dX12_isTraveller_6 (by decide) ?_
  refine lv_isub hx hb dX12_isTraveller_7 ?_
  refine lv_topi (fun x_3 e_4 => ?_)
  have te_4 : x_3.toInt = (x_1 : Int32).toInt - (1 : Int32).toInt := by rw [e_4]; exact fb_subI (by omega) (by omega)
  refine q_pi (q_runS (As := [.int v, .int 0, .int x_3]) (rest := []) C hU (c_X12_in  v 0 x_3 ) sm_X12_in ml_X12_156 hl.1 rfl rfl (Nat.le_of_ble_eq_true rfl) dX12_isTraveller_8 rfl rfl ⟨Nat.le_of_ble_eq_true rfl, Nat.le_of_ble_eq_true rfl⟩ ⟨Nat.le_refl _, Nat.le_refl _⟩) hS (fun x_6 H locs hp_5 hU hS => ?_)
  exact hret (by omega) (by omega) (⟨rfl, rfl, ⟨⟨by omega, by omega⟩, by omega⟩⟩) hU hS dX12_isTraveller_11
set_option maxHeartbeats 4000000 in
set_option maxRecDepth 100000 in
theorem c_X12_isClaim {l : Launch} {D : va_G} {cA : FieldType → ClassId} {sz : Nat} {al : Al} {iv : Iv} {rv : Rv} (hG : GI al iv rv) (v : Int32) : Met l yX12_isClaim (wd yX12_isClaim cX12_isClaim 2 (some .boolean)) (rm 1) (PcW D cA sz al iv rv [.ref (al.2 0 0), .int v]) (QI D cA sz al (pI iv rv (fun r => (0 ≤ r.toInt ∧ r.toInt ≤ 1) ∧ (((0 ≤ v.toInt ∧ v.toInt < (iv 0 0 41).toInt) ∧ r.toInt = 1) ∨ ((¬ (0 ≤ v.toInt ∧ v.toInt < (iv 0 0 41).toInt)) ∧ r.toInt = 0))))) 0 0 (Aq sz) := by
  refine mk_z (by decide) (Nat.le_of_ble_eq_true rfl) rfl ?_
  intro p e s m args below meth c ls Q H locs C hU hS hl hret
  have hx := C.1.1
  have hb := C.1.2.1
  have hl : lv_has ls 2 [(0, .ref (al.2 0 0)), (1, .int v)] := hl
  have hG0 := hG
  have h6 := le6 hG
  have h20 := le20 hG
  have h41 := le41 hG
  have k0 : (0 : Int32).toInt = 0 := by decide
  have k1 : (1 : Int32).toInt = 1 := by decide
  refine lv_iload_n hx hb dX12_isClaim_0 rfl (lv_at hl 1 rfl) ?_
  refine lv_iconst (v := 0) hx hb dX12_isClaim_1 (by decide) ?_
  refine lv_aload_n hx hb dX12_isClaim_2 rfl (lv_at hl 0 rfl) ?_
  refine g_0_41 C hU hG (h1_0 hG) fl_X12_275 dX12_isClaim_3 (fun x_1 e_2 le_2 ue_2 => ?_)
  have te_2 := congrArg Int32.toInt e_2
  refine lv_iconst (v := 1) hx hb dX12_isClaim_6 (by decide) ?_
  refine lv_isub hx hb dX12_isClaim_7 ?_
  refine lv_topi (fun x_3 e_4 => ?_)
  have te_4 : x_3.toInt = (x_1 : Int32).toInt - (1 : Int32).toInt := by rw [e_4]; exact fb_subI (by omega) (by omega)
  refine q_pi (q_runS (As := [.int v, .int 0, .int x_3]) (rest := []) C hU (c_X12_in  v 0 x_3 ) sm_X12_in ml_X12_156 hl.1 rfl rfl (Nat.le_of_ble_eq_true rfl) dX12_isClaim_8 rfl rfl ⟨Nat.le_of_ble_eq_true rfl, Nat.le_of_ble_eq_true rfl⟩ ⟨Nat.le_refl _, Nat.le_refl _⟩) hS (fun x_6 H locs hp_5 hU hS => ?_)
  exact hret (by omega) (by omega) (⟨rfl, rfl, ⟨⟨by omega, by omega⟩, by omega⟩⟩) hU hS dX12_isClaim_11
set_option maxHeartbeats 4000000 in
set_option maxRecDepth 100000 in
theorem c_X12_over {l : Launch} {D : va_G} {cA : FieldType → ClassId} {sz : Nat} {al : Al} {iv : Iv} {rv : Rv} (v : Int32) : Met l yX12_over (wd yX12_over cX12_over 1 (some .int)) (rm 0) (PcW D cA sz al iv rv [.int v]) (QI D cA sz al (pI iv rv (fun r => (0 ≤ r.toInt ∧ r.toInt ≤ 2147483647) ∧ (r = oF v)))) 0 0 (Aq sz) := by
  refine mk_i (by decide) (Nat.le_of_ble_eq_true rfl) rfl ?_
  intro p e s m args below meth c ls Q H locs C hU hS hl hret
  have hx := C.1.1
  have hb := C.1.2.1
  have hl : lv_has ls 1 [(0, .int v)] := hl
  have k0 : (0 : Int32).toInt = 0 := by decide
  refine lv_iload_n hx hb dX12_over_0 rfl (lv_at hl 0 rfl) ?_
  refine b_if_ge (tgt := 8) hx hb dX12_over_1 (by decide) (fun c_1 => ?_) (fun c_1 => ?_)
  ·
    refine lv_iload_n hx hb dX12_over_8 rfl (lv_at hl 0 rfl) ?_
    exact hret (⟨rfl, rfl, ⟨⟨by omega, Int.le_of_lt_add_one (fb_rng _).2⟩, by unfold oF; split <;> first | rfl | omega⟩⟩) hU hS dX12_over_9
  ·
    refine lv_iconst (v := 0) hx hb dX12_over_4 (by decide) ?_
    refine lv_goto (tgt := 9) hx hb dX12_over_5 (by decide) ?_
    exact hret (⟨rfl, rfl, ⟨⟨by omega, Int.le_of_lt_add_one (fb_rng _).2⟩, by unfold oF; split <;> first | rfl | omega⟩⟩) hU hS dX12_over_9
set_option maxHeartbeats 4000000 in
set_option maxRecDepth 100000 in
theorem c_X12_lesser {l : Launch} {D : va_G} {cA : FieldType → ClassId} {sz : Nat} {al : Al} {iv : Iv} {rv : Rv} (a : Int32) (b : Int32) : Met l yX12_lesser (wd yX12_lesser cX12_lesser 2 (some .int)) (rm 0) (PcW D cA sz al iv rv [.int a, .int b]) (QI D cA sz al (pI iv rv (fun r => r = lsF a b ∧ r.toInt ≤ a.toInt ∧ r.toInt ≤ b.toInt ∧ (r.toInt = a.toInt ∨ r.toInt = b.toInt)))) 0 0 (Aq sz) := by
  refine mk_i (by decide) (Nat.le_of_ble_eq_true rfl) rfl ?_
  intro p e s m args below meth c ls Q H locs C hU hS hl hret
  have hx := C.1.1
  have hb := C.1.2.1
  have hl : lv_has ls 2 [(0, .int a), (1, .int b)] := hl
  refine lv_iload_n hx hb dX12_lesser_0 rfl (lv_at hl 0 rfl) ?_
  refine lv_iload_n hx hb dX12_lesser_1 rfl (lv_at hl 1 rfl) ?_
  refine b_icmp_ge (tgt := 9) hx hb dX12_lesser_2 (by decide) (fun c_1 => ?_) (fun c_1 => ?_)
  ·
    refine lv_iload_n hx hb dX12_lesser_9 rfl (lv_at hl 1 rfl) ?_
    exact hret (⟨rfl, rfl, ⟨by unfold lsF; split <;> first | rfl | omega, by omega, by omega, by omega⟩⟩) hU hS dX12_lesser_10
  ·
    refine lv_iload_n hx hb dX12_lesser_5 rfl (lv_at hl 0 rfl) ?_
    refine lv_goto (tgt := 10) hx hb dX12_lesser_6 (by decide) ?_
    exact hret (⟨rfl, rfl, ⟨by unfold lsF; split <;> first | rfl | omega, by omega, by omega, by omega⟩⟩) hU hS dX12_lesser_10
set_option maxHeartbeats 4000000 in
set_option maxRecDepth 100000 in
theorem c_X12_amount {l : Launch} {D : va_G} {cA : FieldType → ClassId} {sz : Nat} {al : Al} {iv : Iv} {rv : Rv} (v : Int32) : Met l yX12_amount (wd yX12_amount cX12_amount 1 (some .int)) (rm 0) (PcW D cA sz al iv rv [.int v]) (QI D cA sz al (pI iv rv (fun r => True))) 0 0 (Aq sz) := by
  refine mk_i (by decide) (Nat.le_of_ble_eq_true rfl) rfl ?_
  intro p e s m args below meth c ls Q H locs C hU hS hl hret
  have hx := C.1.1
  have hb := C.1.2.1
  have hl : lv_has ls 1 [(0, .int v)] := hl
  refine lv_iload_n hx hb dX12_amount_0 rfl (lv_at hl 0 rfl) ?_
  refine b_if_ge (tgt := 9) hx hb dX12_amount_1 (by decide) (fun c_1 => ?_) (fun c_1 => ?_)
  ·
    refine lv_iload_n hx hb dX12_amount_9 rfl (lv_at hl 0 rfl) ?_
    exact hret (⟨rfl, rfl, trivial⟩) hU hS dX12_amount_10
  ·
    refine lv_iload_n hx hb dX12_amount_4 rfl (lv_at hl 0 rfl) ?_
    refine lv_ineg hx hb dX12_amount_5 ?_
    refine lv_topi (fun x_2 e_3 => ?_)
    refine lv_goto (tgt := 10) hx hb dX12_amount_6 (by decide) ?_
    exact hret (⟨rfl, rfl, trivial⟩) hU hS dX12_amount_10
set_option maxHeartbeats 4000000 in
set_option maxRecDepth 100000 in
theorem c_X12_refuse {l : Launch} {D : va_G} {cA : FieldType → ClassId} {sz : Nat} {al : Al} {iv : Iv} {rv : Rv} (hG : GI al iv rv) (what : Int32) (pre0 : -6 ≤ what.toInt ∧ what.toInt ≤ -1) : Met l yX12_refuse (wd yX12_refuse cX12_refuse 2 (some .int)) (rm 0) (PcW D cA sz al iv rv [.ref (al.2 0 0), .int what]) (QI D cA sz al (fI al ([16], []) iv rv (fun r iv' rv' => r = what))) 0 0 (Aq sz) := by
  refine mk_i (by decide) (Nat.le_of_ble_eq_true rfl) rfl ?_
  intro p e s m args below meth c ls Q H locs C hU hS hl hret
  have hx := C.1.1
  have hb := C.1.2.1
  have hl : lv_has ls 2 [(0, .ref (al.2 0 0)), (1, .int what)] := hl
  have hG0 := hG
  have h6 := le6 hG
  have h20 := le20 hG
  have h41 := le41 hG
  have hF1 : FR ([16], []) iv iv := FR.rf
  have hF2 : FR ([16], []) rv rv := FR.rf
  have k1 : (1 : Int32).toInt = 1 := by decide
  refine lv_aload_n hx hb dX12_refuse_0 rfl (lv_at hl 0 rfl) ?_
  refine g_0_18 C hU hG (h1_0 hG) fl_X12_56 dX12_refuse_1 ?_
  refine lv_iload_n hx hb dX12_refuse_4 rfl (lv_at hl 1 rfl) ?_
  refine lv_ineg hx hb dX12_refuse_5 ?_
  refine lv_topi (fun x_1 e_2 => ?_)
  have te_2 : x_1.toInt = -(what : Int32).toInt := by rw [e_2]; exact fb_negI (by omega)
  refine lv_dup2_11 hx hb dX12_refuse_6 rfl rfl ?_
  refine a_16 C hU hG (h1_16 hG) (x := x_1) (by omega) (by omega) dX12_refuse_7 (fun x_3 e_4 => ?_)
  have te_4 := congrArg Int32.toInt e_4
  refine lv_iconst (v := 1) hx hb dX12_refuse_8 (by decide) ?_
  refine lv_iadd hx hb dX12_refuse_9 ?_
  refine lv_topi (fun x_5 e_6 => ?_)
  refine s_16 C hU hS (h1_16 hG) (x := x_1) (by omega) (by omega) dX12_refuse_10 (fun iv_7 H locs ei_8 hU hS => ?_)
  have hG : GI al iv_7 rv := by rw [ei_8]; exact hG.puti (show _ ∧ _ from ⟨(fb_rng _).1, Int.le_of_lt_add_one (fb_rng _).2⟩) (nsA (by decide) _)
  have hF1 : FR ([16], []) iv iv_7 := by rw [ei_8]; exact hF1.put (Or.inl (by decide))
  refine lv_iload_n hx hb dX12_refuse_11 rfl (lv_at hl 1 rfl) ?_
  exact hret (⟨hG, hF1, hF2, rfl⟩) hU hS dX12_refuse_12
set_option maxHeartbeats 4000000 in
set_option maxRecDepth 100000 in
theorem c_X12_refuseFar {l : Launch} {D : va_G} {cA : FieldType → ClassId} {sz : Nat} {al : Al} {iv : Iv} {rv : Rv} (hG : GI al iv rv) (what : Int32) (pre0 : -6 ≤ what.toInt ∧ what.toInt ≤ -1) : Met l yX12_refuseFar (wd yX12_refuseFar cX12_refuseFar 2 (some .int)) (rm 0) (PcW D cA sz al iv rv [.ref (al.2 0 0), .int what]) (QI D cA sz al (fI al ([16], []) iv rv (fun r iv' rv' => True))) 0 0 (Aq sz) := by
  refine mk_i (by decide) (Nat.le_of_ble_eq_true rfl) rfl ?_
  intro p e s m args below meth c ls Q H locs C hU hS hl hret
  have hx := C.1.1
  have hb := C.1.2.1
  have hl : lv_has ls 2 [(0, .ref (al.2 0 0)), (1, .int what)] := hl
  have hG0 := hG
  have h6 := le6 hG
  have h20 := le20 hG
  have h41 := le41 hG
  have hF1 : FR ([16], []) iv iv := FR.rf
  have hF2 : FR ([16], []) rv rv := FR.rf
  have k1 : (1 : Int32).toInt = 1 := by decide
  have k1000000000 : (1000000000 : Int32).toInt = 1000000000 := by decide
  refine lv_aload_n hx hb dX12_refuseFar_0 rfl (lv_at hl 0 rfl) ?_
  refine g_0_18 C hU hG (h1_0 hG) fl_X12_56 dX12_refuseFar_1 ?_
  refine lv_iload_n hx hb dX12_refuseFar_4 rfl (lv_at hl 1 rfl) ?_
  refine lv_ineg hx hb dX12_refuseFar_5 ?_
  refine lv_topi (fun x_1 e_2 => ?_)
  have te_2 : x_1.toInt = -(what : Int32).toInt := by rw [e_2]; exact fb_negI (by omega)
  refine lv_dup2_11 hx hb dX12_refuseFar_6 rfl rfl ?_
  refine a_16 C hU hG (h1_16 hG) (x := x_1) (by omega) (by omega) dX12_refuseFar_7 (fun x_3 e_4 => ?_)
  have te_4 := congrArg Int32.toInt e_4
  refine lv_iconst (v := 1) hx hb dX12_refuseFar_8 (by decide) ?_
  refine lv_iadd hx hb dX12_refuseFar_9 ?_
  refine lv_topi (fun x_5 e_6 => ?_)
  refine s_16 C hU hS (h1_16 hG) (x := x_1) (by omega) (by omega) dX12_refuseFar_10 (fun iv_7 H locs ei_8 hU hS => ?_)
  have hG : GI al iv_7 rv := by rw [ei_8]; exact hG.puti (show _ ∧ _ from ⟨(fb_rng _).1, Int.le_of_lt_add_one (fb_rng _).2⟩) (nsA (by decide) _)
  have hF1 : FR ([16], []) iv iv_7 := by rw [ei_8]; exact hF1.put (Or.inl (by decide))
  refine lv_ldc (v := 1000000000) hx hb C.1.2.2.2.1 (C.1.2.2.2.2 _ ct_X12_155) dX12_refuseFar_11 ?_
  refine lv_iload_n hx hb dX12_refuseFar_13 rfl (lv_at hl 1 rfl) ?_
  refine lv_isub hx hb dX12_refuseFar_14 ?_
  refine lv_topi (fun x_9 e_10 => ?_)
  have te_10 : x_9.toInt = (1000000000 : Int32).toInt - (what : Int32).toInt := by rw [e_10]; exact fb_subI (by omega) (by omega)
  exact hret (⟨hG, hF1, hF2, trivial⟩) hU hS dX12_refuseFar_15
end
section
set_option maxHeartbeats 4000000 in
set_option maxRecDepth 100000 in
theorem c_X12_rightLeave {l : Launch} {D : va_G} {cA : FieldType → ClassId} {sz : Nat} {al : Al} {iv : Iv} {rv : Rv} (hG : GI al iv rv) (lg : Int32) (pre0 : 0 ≤ lg.toInt ∧ lg.toInt < 40) : Met l yX12_rightLeave (wd yX12_rightLeave cX12_rightLeave 2 (some .int)) (rm 1) (PcW D cA sz al iv rv [.ref (al.2 0 0), .int lg]) (QI D cA sz al (pI iv rv (fun r => (0 ≤ r.toInt ∧ r.toInt ≤ 2147483647) ∧ (r = rlF iv lg.toNatClampNeg)))) 0 0 (Aq sz) := by
  refine mk_i (by decide) (Nat.le_of_ble_eq_true rfl) rfl ?_
  intro p e s m args below meth c ls Q H locs C hU hS hl hret
  have hx := C.1.1
  have hb := C.1.2.1
  have hl : lv_has ls 2 [(0, .ref (al.2 0 0)), (1, .int lg)] := hl
  have hG0 := hG
  have h6 := le6 hG
  have h20 := le20 hG
  have h41 := le41 hG
  refine lv_aload_n hx hb dX12_rightLeave_0 rfl (lv_at hl 0 rfl) ?_
  refine g_0_14 C hU hG (h1_0 hG) fl_X12_44 dX12_rightLeave_1 ?_
  refine lv_iload_n hx hb dX12_rightLeave_4 rfl (lv_at hl 1 rfl) ?_
  refine a_12 C hU hG (h1_12 hG) (x := lg) (by omega) (by omega) dX12_rightLeave_5 (fun x_1 e_2 le_2 ue_2 => ?_)
  have te_2 := congrArg Int32.toInt e_2
  refine lv_aload_n hx hb dX12_rightLeave_6 rfl (lv_at hl 0 rfl) ?_
  refine g_0_4 C hU hG (h1_0 hG) fl_X12_19 dX12_rightLeave_7 ?_
  refine lv_aload_n hx hb dX12_rightLeave_10 rfl (lv_at hl 0 rfl) ?_
  refine g_0_7 C hU hG (h1_0 hG) fl_X12_22 dX12_rightLeave_11 ?_
  refine lv_iload_n hx hb dX12_rightLeave_14 rfl (lv_at hl 1 rfl) ?_
  refine a_5 C hU hG (h1_5 hG) (x := lg) (by omega) (by omega) dX12_rightLeave_15 (fun x_3 e_4 le_4 ue_4 => ?_)
  have te_4 := congrArg Int32.toInt e_4
  refine a_4 C hU hG (h1_4 hG) (x := x_3) (by omega) (by omega) dX12_rightLeave_16 (fun x_5 e_6 => ?_)
  have te_6 := congrArg Int32.toInt e_6
  refine lv_isub hx hb dX12_rightLeave_17 ?_
  refine lv_topi (fun x_7 e_8 => ?_)
  refine q_pi (q_runS (As := [.int x_7]) (rest := []) C hU (c_X12_over  x_7 ) sm_X12_over ml_X12_187 hl.1 rfl rfl (Nat.le_of_ble_eq_true rfl) dX12_rightLeave_18 rfl rfl ⟨Nat.le_of_ble_eq_true rfl, Nat.le_of_ble_eq_true rfl⟩ ⟨Nat.le_refl _, Nat.le_refl _⟩) hS (fun x_10 H locs hp_9 hU hS => ?_)
  have q_11 := hp_9.2
  have tq_11 := congrArg Int32.toInt q_11
  exact hret (⟨rfl, rfl, ⟨⟨by omega, Int.le_of_lt_add_one (fb_rng _).2⟩, by simp only [rlF, e_2, e_4, e_6, e_8, q_11]⟩⟩) hU hS dX12_rightLeave_21
set_option maxHeartbeats 4000000 in
set_option maxRecDepth 100000 in
theorem c_X12_rightArrive {l : Launch} {D : va_G} {cA : FieldType → ClassId} {sz : Nat} {al : Al} {iv : Iv} {rv : Rv} (hG : GI al iv rv) (lg : Int32) (pre0 : 0 ≤ lg.toInt ∧ lg.toInt < 40) : Met l yX12_rightArrive (wd yX12_rightArrive cX12_rightArrive 2 (some .int)) (rm 1) (PcW D cA sz al iv rv [.ref (al.2 0 0), .int lg]) (QI D cA sz al (pI iv rv (fun r => (0 ≤ r.toInt ∧ r.toInt ≤ 2147483647) ∧ (r = raF iv lg.toNatClampNeg)))) 0 0 (Aq sz) := by
  refine mk_i (by decide) (Nat.le_of_ble_eq_true rfl) rfl ?_
  intro p e s m args below meth c ls Q H locs C hU hS hl hret
  have hx := C.1.1
  have hb := C.1.2.1
  have hl : lv_has ls 2 [(0, .ref (al.2 0 0)), (1, .int lg)] := hl
  have hG0 := hG
  have h6 := le6 hG
  have h20 := le20 hG
  have h41 := le41 hG
  refine lv_aload_n hx hb dX12_rightArrive_0 rfl (lv_at hl 0 rfl) ?_
  refine g_0_15 C hU hG (h1_0 hG) fl_X12_47 dX12_rightArrive_1 ?_
  refine lv_iload_n hx hb dX12_rightArrive_4 rfl (lv_at hl 1 rfl) ?_
  refine a_13 C hU hG (h1_13 hG) (x := lg) (by omega) (by omega) dX12_rightArrive_5 (fun x_1 e_2 le_2 ue_2 => ?_)
  have te_2 := congrArg Int32.toInt e_2
  refine lv_aload_n hx hb dX12_rightArrive_6 rfl (lv_at hl 0 rfl) ?_
  refine g_0_4 C hU hG (h1_0 hG) fl_X12_19 dX12_rightArrive_7 ?_
  refine lv_aload_n hx hb dX12_rightArrive_10 rfl (lv_at hl 0 rfl) ?_
  refine g_0_8 C hU hG (h1_0 hG) fl_X12_25 dX12_rightArrive_11 ?_
  refine lv_iload_n hx hb dX12_rightArrive_14 rfl (lv_at hl 1 rfl) ?_
  refine a_6 C hU hG (h1_6 hG) (x := lg) (by omega) (by omega) dX12_rightArrive_15 (fun x_3 e_4 le_4 ue_4 => ?_)
  have te_4 := congrArg Int32.toInt e_4
  refine a_4 C hU hG (h1_4 hG) (x := x_3) (by omega) (by omega) dX12_rightArrive_16 (fun x_5 e_6 => ?_)
  have te_6 := congrArg Int32.toInt e_6
  refine lv_isub hx hb dX12_rightArrive_17 ?_
  refine lv_topi (fun x_7 e_8 => ?_)
  refine q_pi (q_runS (As := [.int x_7]) (rest := []) C hU (c_X12_over  x_7 ) sm_X12_over ml_X12_187 hl.1 rfl rfl (Nat.le_of_ble_eq_true rfl) dX12_rightArrive_18 rfl rfl ⟨Nat.le_of_ble_eq_true rfl, Nat.le_of_ble_eq_true rfl⟩ ⟨Nat.le_refl _, Nat.le_refl _⟩) hS (fun x_10 H locs hp_9 hU hS => ?_)
  have q_11 := hp_9.2
  have tq_11 := congrArg Int32.toInt q_11
  exact hret (⟨rfl, rfl, ⟨⟨by omega, Int.le_of_lt_add_one (fb_rng _).2⟩, by simp only [raF, e_2, e_4, e_6, e_8, q_11]⟩⟩) hU hS dX12_rightArrive_21
set_option maxHeartbeats 4000000 in
set_option maxRecDepth 100000 in
theorem c_X12_lateOf {l : Launch} {D : va_G} {cA : FieldType → ClassId} {sz : Nat} {al : Al} {iv : Iv} {rv : Rv} (hG : GI al iv rv) (lg : Int32) (pre0 : 0 ≤ lg.toInt ∧ lg.toInt < 40) : Met l yX12_lateOf (wd yX12_lateOf cX12_lateOf 2 (some .int)) (rm 2) (PcW D cA sz al iv rv [.ref (al.2 0 0), .int lg]) (QI D cA sz al (pI iv rv (fun r => (0 ≤ r.toInt ∧ r.toInt ≤ 2147483647) ∧ (r = laF iv lg.toNatClampNeg)))) 0 0 (Aq sz) := by
  refine mk_i (by decide) (Nat.le_of_ble_eq_true rfl) rfl ?_
  intro p e s m args below meth c ls Q H locs C hU hS hl hret
  have hx := C.1.1
  have hb := C.1.2.1
  have hl : lv_has ls 2 [(0, .ref (al.2 0 0)), (1, .int lg)] := hl
  have hG0 := hG
  have h6 := le6 hG
  have h20 := le20 hG
  have h41 := le41 hG
  refine lv_aload_n hx hb dX12_lateOf_0 rfl (lv_at hl 0 rfl) ?_
  refine lv_iload_n hx hb dX12_lateOf_1 rfl (lv_at hl 1 rfl) ?_
  refine q_pi (q_runV (t := 0) (i := 0) (As := [.int lg]) (rest := []) C hU (c_X12_rightArrive hG lg (by omega)) vm_X12_rightArrive ml_X12_190 k_0.1 (hc := rfl) rfl (h1_0 hG) hl.1 rfl rfl (Nat.le_of_ble_eq_true rfl) dX12_lateOf_2 rfl rfl ⟨Nat.le_of_ble_eq_true rfl, Nat.le_of_ble_eq_true rfl⟩ ⟨Nat.le_refl _, Nat.le_refl _⟩) hS (fun x_2 H locs hp_1 hU hS => ?_)
  have q_3 := hp_1.2
  have tq_3 := congrArg Int32.toInt q_3
  refine lv_aload_n hx hb dX12_lateOf_5 rfl (lv_at hl 0 rfl) ?_
  refine g_0_12 C hU hG (h1_0 hG) fl_X12_37 dX12_lateOf_6 ?_
  refine lv_iload_n hx hb dX12_lateOf_9 rfl (lv_at hl 1 rfl) ?_
  refine a_10 C hU hG (h1_10 hG) (x := lg) (by omega) (by omega) dX12_lateOf_10 (fun x_4 e_5 le_5 ue_5 => ?_)
  have te_5 := congrArg Int32.toInt e_5
  refine lv_isub hx hb dX12_lateOf_11 ?_
  refine lv_topi (fun x_6 e_7 => ?_)
  have w_8 := fb_rng x_2
  have te_7 : x_6.toInt = (x_2 : Int32).toInt - (x_4 : Int32).toInt := by rw [e_7]; exact fb_subI (by omega) (by omega)
  refine q_pi (q_runS (As := [.int x_6]) (rest := []) C hU (c_X12_over  x_6 ) sm_X12_over ml_X12_187 hl.1 rfl rfl (Nat.le_of_ble_eq_true rfl) dX12_lateOf_12 rfl rfl ⟨Nat.le_of_ble_eq_true rfl, Nat.le_of_ble_eq_true rfl⟩ ⟨Nat.le_refl _, Nat.le_refl _⟩) hS (fun x_10 H locs hp_9 hU hS => ?_)
  have q_11 := hp_9.2
  have tq_11 := congrArg Int32.toInt q_11
  exact hret (⟨rfl, rfl, ⟨⟨by omega, Int.le_of_lt_add_one (fb_rng _).2⟩, by simp only [laF, q_3, e_5, e_7, q_11]⟩⟩) hU hS dX12_lateOf_15
set_option maxHeartbeats 4000000 in
set_option maxRecDepth 100000 in
theorem c_X12_outlateOf {l : Launch} {D : va_G} {cA : FieldType → ClassId} {sz : Nat} {al : Al} {iv : Iv} {rv : Rv} (hG : GI al iv rv) (lg : Int32) (pre0 : 0 ≤ lg.toInt ∧ lg.toInt < 40) : Met l yX12_outlateOf (wd yX12_outlateOf cX12_outlateOf 2 (some .int)) (rm 2) (PcW D cA sz al iv rv [.ref (al.2 0 0), .int lg]) (QI D cA sz al (pI iv rv (fun r => (0 ≤ r.toInt ∧ r.toInt ≤ 2147483647) ∧ (r = olF iv lg.toNatClampNeg)))) 0 0 (Aq sz) := by
  refine mk_i (by decide) (Nat.le_of_ble_eq_true rfl) rfl ?_
  intro p e s m args below meth c ls Q H locs C hU hS hl hret
  have hx := C.1.1
  have hb := C.1.2.1
  have hl : lv_has ls 2 [(0, .ref (al.2 0 0)), (1, .int lg)] := hl
  have hG0 := hG
  have h6 := le6 hG
  have h20 := le20 hG
  have h41 := le41 hG
  refine lv_aload_n hx hb dX12_outlateOf_0 rfl (lv_at hl 0 rfl) ?_
  refine lv_iload_n hx hb dX12_outlateOf_1 rfl (lv_at hl 1 rfl) ?_
  refine q_pi (q_runV (t := 0) (i := 0) (As := [.int lg]) (rest := []) C hU (c_X12_rightLeave hG lg (by omega)) vm_X12_rightLeave ml_X12_193 k_0.1 (hc := rfl) rfl (h1_0 hG) hl.1 rfl rfl (Nat.le_of_ble_eq_true rfl) dX12_outlateOf_2 rfl rfl ⟨Nat.le_of_ble_eq_true rfl, Nat.le_of_ble_eq_true rfl⟩ ⟨Nat.le_refl _, Nat.le_refl _⟩) hS (fun x_2 H locs hp_1 hU hS => ?_)
  have q_3 := hp_1.2
  have tq_3 := congrArg Int32.toInt q_3
  refine lv_aload_n hx hb dX12_outlateOf_5 rfl (lv_at hl 0 rfl) ?_
  refine g_0_11 C hU hG (h1_0 hG) fl_X12_34 dX12_outlateOf_6 ?_
  refine lv_iload_n hx hb dX12_outlateOf_9 rfl (lv_at hl 1 rfl) ?_
  refine a_9 C hU hG (h1_9 hG) (x := lg) (by omega) (by omega) dX12_outlateOf_10 (fun x_4 e_5 le_5 ue_5 => ?_)
  have te_5 := congrArg Int32.toInt e_5
  refine lv_isub hx hb dX12_outlateOf_11 ?_
  refine lv_topi (fun x_6 e_7 => ?_)
  have w_8 := fb_rng x_2
  have te_7 : x_6.toInt = (x_2 : Int32).toInt - (x_4 : Int32).toInt := by rw [e_7]; exact fb_subI (by omega) (by omega)
  refine q_pi (q_runS (As := [.int x_6]) (rest := []) C hU (c_X12_over  x_6 ) sm_X12_over ml_X12_187 hl.1 rfl rfl (Nat.le_of_ble_eq_true rfl) dX12_outlateOf_12 rfl rfl ⟨Nat.le_of_ble_eq_true rfl, Nat.le_of_ble_eq_true rfl⟩ ⟨Nat.le_refl _, Nat.le_refl _⟩) hS (fun x_10 H locs hp_9 hU hS => ?_)
  have q_11 := hp_9.2
  have tq_11 := congrArg Int32.toInt q_11
  exact hret (⟨rfl, rfl, ⟨⟨by omega, Int.le_of_lt_add_one (fb_rng _).2⟩, by simp only [olF, q_3, e_5, e_7, q_11]⟩⟩) hU hS dX12_outlateOf_15
set_option maxHeartbeats 4000000 in
set_option maxRecDepth 100000 in
theorem c_X12_aheadOf {l : Launch} {D : va_G} {cA : FieldType → ClassId} {sz : Nat} {al : Al} {iv : Iv} {rv : Rv} (hG : GI al iv rv) (lg : Int32) (bb : Int32) (pre0 : 0 ≤ lg.toInt ∧ lg.toInt < 40) : Met l yX12_aheadOf (wd yX12_aheadOf cX12_aheadOf 8 (some .int)) (rm 0) (PcW D cA sz al iv rv [.ref (al.2 0 0), .int lg, .int bb]) (QI D cA sz al (pI iv rv (fun r => (-1 ≤ r.toInt ∧ r.toInt ≤ 39) ∧ (r = ahF iv lg.toNatClampNeg bb ∧ r.toInt < (iv 0 0 6).toInt)))) 0 0 (Aq sz) := by
  refine mk_i (by decide) (Nat.le_of_ble_eq_true rfl) rfl ?_
  intro p e s m args below meth c ls Q H locs C hU hS hl hret
  have hx := C.1.1
  have hb := C.1.2.1
  have hl : lv_has ls 8 [(0, .ref (al.2 0 0)), (1, .int lg), (2, .int bb)] := hl
  have hG0 := hG
  have h6 := le6 hG
  have h20 := le20 hG
  have h41 := le41 hG
  have km1 : ((-1) : Int32).toInt = -1 := by decide
  have k0 : (0 : Int32).toInt = 0 := by decide
  have k1 : (1 : Int32).toInt = 1 := by decide
  refine lv_iconst (v := (-1)) hx hb dX12_aheadOf_0 (by decide) ?_
  refine lv_istore_n (lv' := [(3, .int (-1)), (0, .ref (al.2 0 0)), (1, .int lg), (2, .int bb)]) hx hb dX12_aheadOf_1 rfl hl (by decide) rfl (fun ls hl => ?_)
  refine lv_iload_n hx hb dX12_aheadOf_2 rfl (lv_at hl 3 rfl) ?_
  have J_21 : ∀ (v_1 : Int32) (ls : Array Slot), lv_has ls 8 [(0, .ref (al.2 0 0)), (1, .int lg), (2, .int bb), (3, .int (-1))] → (0 ≤ v_1.toInt ∧ v_1.toInt ≤ 900) → v_1.toInt = (rsF iv bb).toInt → W p l e (rm 0) s m args below meth c H locs 0 0 Q (F0 m 21 ls [.int v_1]) := by
    intro v_1 ls hl i21_0 i21_1
    refine lv_istore (lv' := [(4, .int v_1), (0, .ref (al.2 0 0)), (1, .int lg), (2, .int bb), (3, .int (-1))]) hx hb dX12_aheadOf_21 hl (by decide) rfl (fun ls hl => ?_)
    have hlg : (0:Int) ≤ (iv 0 0 6).toInt := (hG.1 0 0 6 (h1_0 hG) (by decide)).1
    refine lv_iconst (v := 0) hx hb dX12_aheadOf_23 (by decide) ?_
    refine lv_istore (lv' := [(5, .int 0), (4, .int v_1), (0, .ref (al.2 0 0)), (1, .int lg), (2, .int bb), (3, .int (-1))]) hx hb dX12_aheadOf_24 hl (by decide) rfl (fun ls hl => ?_)
    have J_26 : ∀ (n_26 : Nat) (l3_2 : Int32) (l5_3 : Int32) (ls : Array Slot), lv_has ls 8 [(0, .ref (al.2 0 0)), (1, .int lg), (2, .int bb), (4, .int v_1), (3, .int l3_2), (5, .int l5_3)] → (-1 ≤ l3_2.toInt ∧ l3_2.toInt ≤ 39) → (0 ≤ l5_3.toInt ∧ l5_3.toInt ≤ 40) → l3_2 = ahN iv lg.toNatClampNeg bb l5_3.toNatClampNeg → l3_2.toInt < l5_3.toInt → l5_3.toInt ≤ (iv 0 0 6).toInt → (40 - l5_3.toInt).toNat < n_26 → W p l e (rm 0) s m args below meth c H locs 0 0 Q (F0 m 26 ls []) := by
      intro n_26
      induction n_26 with
      | zero =>
        intro l3_2 l5_3 ls hl i26_0 i26_1 i26_2 i26_3 i26_4 hm_26
        exact absurd hm_26 (Nat.not_lt_zero _)
      | succ n_26 ih_26 =>
        intro l3_2 l5_3 ls hl i26_0 i26_1 i26_2 i26_3 i26_4 hm_26
        refine lv_iload hx hb dX12_aheadOf_26 (lv_at hl 5 rfl) ?_
        refine lv_aload_n hx hb dX12_aheadOf_28 rfl (lv_at hl 0 rfl) ?_
        refine g_0_6 C hU hG (h1_0 hG) fl_X12_160 dX12_aheadOf_29 (fun x_4 e_5 le_5 ue_5 => ?_)
        have te_5 := congrArg Int32.toInt e_5
        refine b_icmp_ge (tgt := 171) hx hb dX12_aheadOf_32 (by decide) (fun c_6 => ?_) (fun c_6 => ?_)
        ·
          refine lv_iload_n hx hb dX12_aheadOf_171 rfl (lv_at hl 4 rfl) ?_
          exact hret (⟨rfl, rfl, ⟨⟨by omega, by omega⟩, ⟨by rw [i26_2, ahF, clamp_eq (show (l5_3 : Int32).toInt = (iv 0 0 6).toInt by omega)], by omega⟩⟩⟩) hU hS dX12_aheadOf_172
        ·
          refine lv_iload_n hx hb dX12_aheadOf_35 rfl (lv_at hl 2 rfl) ?_
          have J_84 : ∀ (v_7 : Int32) (ls : Array Slot), lv_has ls 8 [(0, .ref (al.2 0 0)), (1, .int lg), (2, .int bb), (3, .int l3_2), (4, .int v_1), (5, .int l5_3)] → (0 ≤ v_7.toInt ∧ v_7.toInt ≤ 1) → ((v_7.toInt = 1 ∧ (((¬ bb.toInt = 0) ∧ (iv 8 0 l5_3.toNatClampNeg).toInt = (iv 8 0 lg.toNatClampNeg).toInt) ∨ (bb.toInt = 0 ∧ (iv 7 0 l5_3.toNatClampNeg).toInt = (iv 7 0 lg.toNatClampNeg).toInt))) ∨ (v_7.toInt = 0 ∧ ¬ (((¬ bb.toInt = 0) ∧ (iv 8 0 l5_3.toNatClampNeg).toInt = (iv 8 0 lg.toNatClampNeg).toInt) ∨ (bb.toInt = 0 ∧ (iv 7 0 l5_3.toNatClampNeg).toInt = (iv 7 0 lg.toNatClampNeg).toInt)))) → W p l e (rm 0) s m args below meth c H locs 0 0 Q (F0 m 84 ls [.int v_7]) := by
            intro v_7 ls hl i84_0 i84_1
            refine lv_istore (lv' := [(6, .int v_7), (0, .ref (al.2 0 0)), (1, .int lg), (2, .int bb), (3, .int l3_2), (4, .int v_1), (5, .int l5_3)]) hx hb dX12_aheadOf_84 hl (by decide) rfl (fun ls hl => ?_)
            refine lv_iload hx hb dX12_aheadOf_86 (lv_at hl 0 rfl) ?_
            have J_131 : ∀ (v_8 : Int32) (ls : Array Slot), lv_has ls 8 [(0, .ref (al.2 0 0)), (1, .int lg), (2, .int bb), (3, .int l3_2), (4, .int v_1), (5, .int l5_3)] → (0 ≤ v_8.toInt ∧ v_8.toInt ≤ 1) → ((v_8.toInt = 1 ∧ ((((¬ bb.toInt = 0) ∧ (iv 8 0 l5_3.toNatClampNeg).toInt = (iv 8 0 lg.toNatClampNeg).toInt) ∨ (bb.toInt = 0 ∧ (iv 7 0 l5_3.toNatClampNeg).toInt = (iv 7 0 lg.toNatClampNeg).toInt)) ∧ (iv 6 0 l5_3.toNatClampNeg).toInt = (iv 5 0 lg.toNatClampNeg).toInt ∧ (iv 10 0 l5_3.toNatClampNeg).toInt + (rsF iv bb).toInt ≤ (iv 9 0 lg.toNatClampNeg).toInt)) ∨ (v_8.toInt = 0 ∧ ¬ ((((¬ bb.toInt = 0) ∧ (iv 8 0 l5_3.toNatClampNeg).toInt = (iv 8 0 lg.toNatClampNeg).toInt) ∨ (bb.toInt = 0 ∧ (iv 7 0 l5_3.toNatClampNeg).toInt = (iv 7 0 lg.toNatClampNeg).toInt)) ∧ (iv 6 0 l5_3.toNatClampNeg).toInt = (iv 5 0 lg.toNatClampNeg).toInt ∧ (iv 10 0 l5_3.toNatClampNeg).toInt + (rsF iv bb).toInt ≤ (iv 9 0 lg.toNatClampNeg).toInt))) → W p l e (rm 0) s m args below meth c H locs 0 0 Q (F0 m 131 ls [.int v_8]) := by
              intro v_8 ls hl i131_0 i131_1
              refine lv_istore (lv' := [(7, .int v_8), (0, .ref (al.2 0 0)), (1, .int lg), (2, .int bb), (3, .int l3_2), (4, .int v_1), (5, .int l5_3)]) hx hb dX12_aheadOf_131 hl (by decide) rfl (fun ls hl => ?_)
              refine lv_iload hx hb dX12_aheadOf_133 (lv_at hl 0 rfl) ?_
              have J_164 : ∀ (v_9 : Int32) (ls : Array Slot), lv_has ls 8 [(0, .ref (al.2 0 0)), (1, .int lg), (2, .int bb), (4, .int v_1), (5, .int l5_3)] → (-1 ≤ v_9.toInt ∧ v_9.toInt ≤ 40) → v_9 = ahStep iv lg.toNatClampNeg bb l3_2 l5_3.toNatClampNeg → (-1 ≤ v_9.toInt ∧ v_9.toInt ≤ l5_3.toInt) → W p l e (rm 0) s m args below meth c H locs 0 0 Q (F0 m 164 ls [.int v_9]) := by
                intro v_9 ls hl i164_0 i164_1 i164_2
                refine lv_istore_n (lv' := [(3, .int v_9), (0, .ref (al.2 0 0)), (1, .int lg), (2, .int bb), (4, .int v_1), (5, .int l5_3)]) hx hb dX12_aheadOf_164 rfl hl (by decide) rfl (fun ls hl => ?_)
                obtain ⟨x_10, e_11⟩ : ∃ y : Int32, y = l5_3 + 1 := ⟨_, rfl⟩
                have te_11 : x_10.toInt = (l5_3 : Int32).toInt + (1 : Int32).toInt := by rw [e_11]; exact fb_addI (by omega) (by omega)
                refine lv_iinc (v := x_10) (lv' := [(5, .int x_10), (3, .int v_9), (0, .ref (al.2 0 0)), (1, .int lg), (2, .int bb), (4, .int v_1)]) hx hb dX12_aheadOf_165 hl (k := 5) rfl (by rw [e_11]; rfl) (by decide) rfl (fun ls hl => ?_)
                refine lv_goto (tgt := 26) hx hb dX12_aheadOf_168 (by decide) ?_
                exact ih_26 v_9 x_10 _ (lv_sub hl [2, 3, 4, 5, 1, 0] rfl) (by omega) (by omega) (by first | rfl | exact ah_back (by assumption) (by omega) i26_2 i164_1) (by omega) (by omega) (by omega)
              have J_163 : ∀ (ls : Array Slot), lv_has ls 8 [(0, .ref (al.2 0 0)), (1, .int lg), (2, .int bb), (3, .int l3_2), (4, .int v_1), (5, .int l5_3)] → (¬ (((((¬ bb.toInt = 0) ∧ (iv 8 0 l5_3.toNatClampNeg).toInt = (iv 8 0 lg.toNatClampNeg).toInt) ∨ (bb.toInt = 0 ∧ (iv 7 0 l5_3.toNatClampNeg).toInt = (iv 7 0 lg.toNatClampNeg).toInt)) ∧ (iv 6 0 l5_3.toNatClampNeg).toInt = (iv 5 0 lg.toNatClampNeg).toInt ∧ (iv 10 0 l5_3.toNatClampNeg).toInt + (rsF iv bb).toInt ≤ (iv 9 0 lg.toNatClampNeg).toInt) ∧ (l3_2.toInt < 0 ∨ (iv 10 0 l3_2.toNatClampNeg).toInt ≤ (iv 10 0 l5_3.toNatClampNeg).toInt))) → W p l e (rm 0) s m args below meth c H locs 0 0 Q (F0 m 163 ls []) := by
                intro ls hl i163_0
                refine lv_iload_n hx hb dX12_aheadOf_163 rfl (lv_at hl 3 rfl) ?_
                exact J_164 l3_2 _ (lv_sub hl [0, 1, 2, 4, 5] rfl) (by omega) (by unfold ahStep; split <;> first | (exfalso; omega) | rfl | exact (nat_of (by omega)).symm) (by omega)
              refine b_if_eq (tgt := 163) hx hb dX12_aheadOf_135 (by decide) (fun c_12 => ?_) (fun c_12 => ?_)
              ·
                exact J_163 _ (lv_sub hl [1, 2, 3, 4, 5, 6] rfl) (by omega)
              ·
                refine lv_iload_n hx hb dX12_aheadOf_138 rfl (lv_at hl 4 rfl) ?_
                have J_158 : ∀ (ls : Array Slot), lv_has ls 8 [(0, .ref (al.2 0 0)), (1, .int lg), (2, .int bb), (4, .int v_1), (5, .int l5_3)] → (l3_2.toInt < 0 ∨ (iv 10 0 l3_2.toNatClampNeg).toInt ≤ (iv 10 0 l5_3.toNatClampNeg).toInt) → W p l e (rm 0) s m args below meth c H locs 0 0 Q (F0 m 158 ls []) := by
                  intro ls hl i158_0
                  refine lv_iload hx hb dX12_aheadOf_158 (lv_at hl 4 rfl) ?_
                  refine lv_goto (tgt := 164) hx hb dX12_aheadOf_160 (by decide) ?_
                  exact J_164 l5_3 _ (lv_sub hl [0, 1, 2, 3, 4] rfl) (by omega) (by unfold ahStep; split <;> first | (exfalso; omega) | rfl | exact (nat_of (by omega)).symm) (by omega)
                refine b_if_lt (tgt := 158) hx hb dX12_aheadOf_139 (by decide) (fun c_13 => ?_) (fun c_13 => ?_)
                ·
                  exact J_158 _ (lv_sub hl [1, 2, 3, 5, 6] rfl) (by omega)
                ·
                  refine lv_aload_n hx hb dX12_aheadOf_142 rfl (lv_at hl 1 rfl) ?_
                  refine g_0_12 C hU hG (h1_0 hG) fl_X12_37 dX12_aheadOf_143 ?_
                  refine lv_iload hx hb dX12_aheadOf_146 (lv_at hl 6 rfl) ?_
                  refine a_10 C hU hG (h1_10 hG) (x := l5_3) (by omega) (by omega) dX12_aheadOf_148 (fun x_14 e_15 le_15 ue_15 => ?_)
                  have te_15 := congrArg Int32.toInt e_15
                  refine lv_aload_n hx hb dX12_aheadOf_149 rfl (lv_at hl 1 rfl) ?_
                  refine g_0_12 C hU hG (h1_0 hG) fl_X12_37 dX12_aheadOf_150 ?_
                  refine lv_iload_n hx hb dX12_aheadOf_153 rfl (lv_at hl 4 rfl) ?_
                  refine a_10 C hU hG (h1_10 hG) (x := l3_2) (by omega) (by omega) dX12_aheadOf_154 (fun x_16 e_17 le_17 ue_17 => ?_)
                  have te_17 := congrArg Int32.toInt e_17
                  refine b_icmp_lt (tgt := 163) hx hb dX12_aheadOf_155 (by decide) (fun c_18 => ?_) (fun c_18 => ?_)
                  ·
                    exact J_163 _ (lv_sub hl [1, 2, 3, 4, 5, 6] rfl) (by omega)
                  ·
                    exact J_158 _ (lv_sub hl [1, 2, 3, 5, 6] rfl) (by omega)
            have J_130 : ∀ (ls : Array Slot), lv_has ls 8 [(0, .ref (al.2 0 0)), (1, .int lg), (2, .int bb), (3, .int l3_2), (4, .int v_1), (5, .int l5_3)] → (¬ ((((¬ bb.toInt = 0) ∧ (iv 8 0 l5_3.toNatClampNeg).toInt = (iv 8 0 lg.toNatClampNeg).toInt) ∨ (bb.toInt = 0 ∧ (iv 7 0 l5_3.toNatClampNeg).toInt = (iv 7 0 lg.toNatClampNeg).toInt)) ∧ (iv 6 0 l5_3.toNatClampNeg).toInt = (iv 5 0 lg.toNatClampNeg).toInt ∧ (iv 10 0 l5_3.toNatClampNeg).toInt + (rsF iv bb).toInt ≤ (iv 9 0 lg.toNatClampNeg).toInt)) → W p l e (rm 0) s m args below meth c H locs 0 0 Q (F0 m 130 ls []) := by
              intro ls hl i130_0
              refine lv_iconst (v := 0) hx hb dX12_aheadOf_130 (by decide) ?_
              exact J_131 0 _ (lv_sub hl [0, 1, 2, 3, 4, 5] rfl) (by omega) (by omega)
            refine b_if_eq (tgt := 130) hx hb dX12_aheadOf_88 (by decide) (fun c_19 => ?_) (fun c_19 => ?_)
            ·
              exact J_130 _ (lv_sub hl [1, 2, 3, 4, 5, 6] rfl) (by omega)
            ·
              refine lv_aload_n hx hb dX12_aheadOf_91 rfl (lv_at hl 1 rfl) ?_
              refine g_0_8 C hU hG (h1_0 hG) fl_X12_25 dX12_aheadOf_92 ?_
              refine lv_iload hx hb dX12_aheadOf_95 (lv_at hl 6 rfl) ?_
              refine a_6 C hU hG (h1_6 hG) (x := l5_3) (by omega) (by omega) dX12_aheadOf_97 (fun x_20 e_21 le_21 ue_21 => ?_)
              have te_21 := congrArg Int32.toInt e_21
              refine lv_aload_n hx hb dX12_aheadOf_98 rfl (lv_at hl 1 rfl) ?_
              refine g_0_7 C hU hG (h1_0 hG) fl_X12_22 dX12_aheadOf_99 ?_
              refine lv_iload_n hx hb dX12_aheadOf_102 rfl (lv_at hl 2 rfl) ?_
              refine a_5 C hU hG (h1_5 hG) (x := lg) (by omega) (by omega) dX12_aheadOf_103 (fun x_22 e_23 le_23 ue_23 => ?_)
              have te_23 := congrArg Int32.toInt e_23
              refine b_icmp_ne (tgt := 130) hx hb dX12_aheadOf_104 (by decide) (fun c_24 => ?_) (fun c_24 => ?_)
              ·
                exact J_130 _ (lv_sub hl [1, 2, 3, 4, 5, 6] rfl) (by omega)
              ·
                refine lv_aload_n hx hb dX12_aheadOf_107 rfl (lv_at hl 1 rfl) ?_
                refine g_0_12 C hU hG (h1_0 hG) fl_X12_37 dX12_aheadOf_108 ?_
                refine lv_iload hx hb dX12_aheadOf_111 (lv_at hl 6 rfl) ?_
                refine a_10 C hU hG (h1_10 hG) (x := l5_3) (by omega) (by omega) dX12_aheadOf_113 (fun x_25 e_26 le_26 ue_26 => ?_)
                have te_26 := congrArg Int32.toInt e_26
                refine lv_iload hx hb dX12_aheadOf_114 (lv_at hl 5 rfl) ?_
                refine lv_iadd hx hb dX12_aheadOf_116 ?_
                refine lv_topi (fun x_27 e_28 => ?_)
                have te_28 : x_27.toInt = (x_25 : Int32).toInt + (v_1 : Int32).toInt := by rw [e_28]; exact fb_addI (by omega) (by omega)
                refine lv_aload_n hx hb dX12_aheadOf_117 rfl (lv_at hl 1 rfl) ?_
                refine g_0_11 C hU hG (h1_0 hG) fl_X12_34 dX12_aheadOf_118 ?_
                refine lv_iload_n hx hb dX12_aheadOf_121 rfl (lv_at hl 2 rfl) ?_
                refine a_9 C hU hG (h1_9 hG) (x := lg) (by omega) (by omega) dX12_aheadOf_122 (fun x_29 e_30 le_30 ue_30 => ?_)
                have te_30 := congrArg Int32.toInt e_30
                refine b_icmp_gt (tgt := 130) hx hb dX12_aheadOf_123 (by decide) (fun c_31 => ?_) (fun c_31 => ?_)
                ·
                  exact J_130 _ (lv_sub hl [1, 2, 3, 4, 5, 6] rfl) (by omega)
                ·
                  refine lv_iconst (v := 1) hx hb dX12_aheadOf_126 (by decide) ?_
                  refine lv_goto (tgt := 131) hx hb dX12_aheadOf_127 (by decide) ?_
                  exact J_131 1 _ (lv_sub hl [1, 2, 3, 4, 5, 6] rfl) (by omega) (by omega)
          refine b_if_eq (tgt := 63) hx hb dX12_aheadOf_36 (by decide) (fun c_32 => ?_) (fun c_32 => ?_)
          ·
            refine lv_aload_n hx hb dX12_aheadOf_63 rfl (lv_at hl 0 rfl) ?_
            refine g_0_9 C hU hG (h1_0 hG) fl_X12_28 dX12_aheadOf_64 ?_
            refine lv_iload hx hb dX12_aheadOf_67 (lv_at hl 5 rfl) ?_
            refine a_7 C hU hG (h1_7 hG) (x := l5_3) (by omega) (by omega) dX12_aheadOf_69 (fun x_33 e_34 => ?_)
            have te_34 := congrArg Int32.toInt e_34
            refine lv_aload_n hx hb dX12_aheadOf_70 rfl (lv_at hl 0 rfl) ?_
            refine g_0_9 C hU hG (h1_0 hG) fl_X12_28 dX12_aheadOf_71 ?_
            refine lv_iload_n hx hb dX12_aheadOf_74 rfl (lv_at hl 1 rfl) ?_
            refine a_7 C hU hG (h1_7 hG) (x := lg) (by omega) (by omega) dX12_aheadOf_75 (fun x_35 e_36 => ?_)
            have te_36 := congrArg Int32.toInt e_36
            refine b_icmp_ne (tgt := 83) hx hb dX12_aheadOf_76 (by decide) (fun c_37 => ?_) (fun c_37 => ?_)
            ·
              refine lv_iconst (v := 0) hx hb dX12_aheadOf_83 (by decide) ?_
              exact J_84 0 _ (lv_sub hl [0, 1, 2, 4, 3, 5] rfl) (by omega) (by omega)
            ·
              refine lv_iconst (v := 1) hx hb dX12_aheadOf_79 (by decide) ?_
              refine lv_goto (tgt := 84) hx hb dX12_aheadOf_80 (by decide) ?_
              exact J_84 1 _ (lv_sub hl [0, 1, 2, 4, 3, 5] rfl) (by omega) (by omega)
          ·
            refine lv_aload_n hx hb dX12_aheadOf_39 rfl (lv_at hl 0 rfl) ?_
            refine g_0_10 C hU hG (h1_0 hG) fl_X12_31 dX12_aheadOf_40 ?_
            refine lv_iload hx hb dX12_aheadOf_43 (lv_at hl 5 rfl) ?_
            refine a_8 C hU hG (h1_8 hG) (x := l5_3) (by omega) (by omega) dX12_aheadOf_45 (fun x_38 e_39 => ?_)
            have te_39 := congrArg Int32.toInt e_39
            refine lv_aload_n hx hb dX12_aheadOf_46 rfl (lv_at hl 0 rfl) ?_
            refine g_0_10 C hU hG (h1_0 hG) fl_X12_31 dX12_aheadOf_47 ?_
            refine lv_iload_n hx hb dX12_aheadOf_50 rfl (lv_at hl 1 rfl) ?_
            refine a_8 C hU hG (h1_8 hG) (x := lg) (by omega) (by omega) dX12_aheadOf_51 (fun x_40 e_41 => ?_)
            have te_41 := congrArg Int32.toInt e_41
            refine b_icmp_ne (tgt := 59) hx hb dX12_aheadOf_52 (by decide) (fun c_42 => ?_) (fun c_42 => ?_)
            ·
              refine lv_iconst (v := 0) hx hb dX12_aheadOf_59 (by decide) ?_
              refine lv_goto (tgt := 84) hx hb dX12_aheadOf_60 (by decide) ?_
              exact J_84 0 _ (lv_sub hl [0, 1, 2, 4, 3, 5] rfl) (by omega) (by omega)
            ·
              refine lv_iconst (v := 1) hx hb dX12_aheadOf_55 (by decide) ?_
              refine lv_goto (tgt := 84) hx hb dX12_aheadOf_56 (by decide) ?_
              exact J_84 1 _ (lv_sub hl [0, 1, 2, 4, 3, 5] rfl) (by omega) (by omega)
    exact J_26 _ (-1) 0 _ (lv_sub hl [2, 3, 4, 1, 5, 0] rfl) (by omega) (by omega) (by first | rfl | exact ah_back (by assumption) (by omega) i26_2 i164_1) (by omega) (by omega) (Nat.lt_succ_self _)
  refine b_if_eq (tgt := 15) hx hb dX12_aheadOf_3 (by decide) (fun c_43 => ?_) (fun c_43 => ?_)
  ·
    refine lv_aload_n hx hb dX12_aheadOf_15 rfl (lv_at hl 1 rfl) ?_
    refine g_0_17 C hU hG (h1_0 hG) fl_X12_53 dX12_aheadOf_16 ?_
    refine lv_iconst (v := 0) hx hb dX12_aheadOf_19 (by decide) ?_
    refine a_15 C hU hG (h1_15 hG) (x := 0) (by omega) (by omega) dX12_aheadOf_20 (fun x_44 e_45 le_45 ue_45 => ?_)
    have te_45 := congrArg Int32.toInt e_45
    exact J_21 x_44 _ (lv_sub hl [1, 2, 3, 0] rfl) (by omega) (by unfold rsF; split <;> first | (exfalso; omega) | (simp only [e_45]; rfl))
  ·
    refine lv_aload_n hx hb dX12_aheadOf_6 rfl (lv_at hl 1 rfl) ?_
    refine g_0_17 C hU hG (h1_0 hG) fl_X12_53 dX12_aheadOf_7 ?_
    refine lv_iconst (v := 1) hx hb dX12_aheadOf_10 (by decide) ?_
    refine a_15 C hU hG (h1_15 hG) (x := 1) (by omega) (by omega) dX12_aheadOf_11 (fun x_46 e_47 le_47 ue_47 => ?_)
    have te_47 := congrArg Int32.toInt e_47
    refine lv_goto (tgt := 21) hx hb dX12_aheadOf_12 (by decide) ?_
    exact J_21 x_46 _ (lv_sub hl [1, 2, 3, 0] rfl) (by omega) (by unfold rsF; split <;> first | (exfalso; omega) | (simp only [e_47]; rfl))
end
section
set_option maxHeartbeats 4000000 in
set_option maxRecDepth 100000 in
theorem c_X12_waitOf {l : Launch} {D : va_G} {cA : FieldType → ClassId} {sz : Nat} {al : Al} {iv : Iv} {rv : Rv} (hG : GI al iv rv) (lg : Int32) (bb : Int32) (pre0 : 0 ≤ lg.toInt ∧ lg.toInt < 40) : Met l yX12_waitOf (wd yX12_waitOf cX12_waitOf 5 (some .int)) (rm 3) (PcW D cA sz al iv rv [.ref (al.2 0 0), .int lg, .int bb]) (QI D cA sz al (pI iv rv (fun r => (0 ≤ r.toInt ∧ r.toInt ≤ 2147483647) ∧ (r = wtF iv lg.toNatClampNeg bb)))) 0 0 (Aq sz) := by
  refine mk_i (by decide) (Nat.le_of_ble_eq_true rfl) rfl ?_
  intro p e s m args below meth c ls Q H locs C hU hS hl hret
  have hx := C.1.1
  have hb := C.1.2.1
  have hl : lv_has ls 5 [(0, .ref (al.2 0 0)), (1, .int lg), (2, .int bb)] := hl
  have hG0 := hG
  have h6 := le6 hG
  have h20 := le20 hG
  have h41 := le41 hG
  have k0 : (0 : Int32).toInt = 0 := by decide
  have k1 : (1 : Int32).toInt = 1 := by decide
  refine lv_aload_n hx hb dX12_waitOf_0 rfl (lv_at hl 0 rfl) ?_
  refine lv_iload_n hx hb dX12_waitOf_1 rfl (lv_at hl 1 rfl) ?_
  refine lv_iload_n hx hb dX12_waitOf_2 rfl (lv_at hl 2 rfl) ?_
  refine q_pi (q_runV (t := 0) (i := 0) (As := [.int lg, .int bb]) (rest := []) C hU (c_X12_aheadOf hG lg bb (by omega)) vm_X12_aheadOf ml_X12_196 k_0.1 (hc := rfl) rfl (h1_0 hG) hl.1 rfl rfl (Nat.le_of_ble_eq_true rfl) dX12_waitOf_3 rfl rfl ⟨Nat.le_of_ble_eq_true rfl, Nat.le_of_ble_eq_true rfl⟩ ⟨Nat.le_refl _, Nat.le_refl _⟩) hS (fun x_2 H locs hp_1 hU hS => ?_)
  have q_3 := hp_1.2.1
  have tq_3 := congrArg Int32.toInt q_3
  refine lv_istore_n (lv' := [(3, .int x_2), (0, .ref (al.2 0 0)), (1, .int lg), (2, .int bb)]) hx hb dX12_waitOf_6 rfl hl (by decide) rfl (fun ls hl => ?_)
  refine lv_iload_n hx hb dX12_waitOf_7 rfl (lv_at hl 0 rfl) ?_
  refine b_if_lt (tgt := 20) hx hb dX12_waitOf_8 (by decide) (fun c_4 => ?_) (fun c_4 => ?_)
  ·
    refine lv_iconst (v := 0) hx hb dX12_waitOf_20 (by decide) ?_
    exact hret (⟨rfl, rfl, ⟨⟨by omega, Int.le_of_lt_add_one (fb_rng _).2⟩, by rw [wtF, ← q_3]; split <;> first | rfl | (split <;> first | rfl | (exfalso; omega))⟩⟩) hU hS dX12_waitOf_21
  ·
    refine lv_aload_n hx hb dX12_waitOf_11 rfl (lv_at hl 1 rfl) ?_
    refine g_0_13 C hU hG (h1_0 hG) fl_X12_40 dX12_waitOf_12 ?_
    refine lv_iload_n hx hb dX12_waitOf_15 rfl (lv_at hl 0 rfl) ?_
    refine a_11 C hU hG (h1_11 hG) (x := x_2) (by omega) (by omega) dX12_waitOf_16 (fun x_5 e_6 le_6 ue_6 => ?_)
    have te_6 := congrArg Int32.toInt e_6
    refine b_if_ne (tgt := 22) hx hb dX12_waitOf_17 (by decide) (fun c_7 => ?_) (fun c_7 => ?_)
    ·
      refine lv_aload_n hx hb dX12_waitOf_22 rfl (lv_at hl 1 rfl) ?_
      refine lv_iload_n hx hb dX12_waitOf_23 rfl (lv_at hl 0 rfl) ?_
      refine q_pi (q_runV (t := 0) (i := 0) (As := [.int x_2]) (rest := []) C hU (c_X12_rightArrive hG x_2 (by omega)) vm_X12_rightArrive ml_X12_190 k_0.1 (hc := rfl) rfl (h1_0 hG) hl.1 rfl rfl (Nat.le_of_ble_eq_true rfl) dX12_waitOf_24 rfl rfl ⟨Nat.le_of_ble_eq_true rfl, Nat.le_of_ble_eq_true rfl⟩ ⟨Nat.le_refl _, Nat.le_refl _⟩) hS (fun x_9 H locs hp_8 hU hS => ?_)
      have q_10 := hp_8.2
      have tq_10 := congrArg Int32.toInt q_10
      refine lv_iload_n hx hb dX12_waitOf_27 rfl (lv_at hl 3 rfl) ?_
      have J_46 : ∀ (v_11 : Int32) (ls : Array Slot), lv_has ls 5 [(0, .ref (al.2 0 0)), (1, .int lg)] → (0 ≤ v_11.toInt ∧ v_11.toInt ≤ 900) → v_11 = rsF iv bb → W p l e (rm 3) s m args below meth c H locs 0 0 Q (F0 m 46 ls [.int v_11, .int x_9]) := by
        intro v_11 ls hl i46_0 i46_1
        refine lv_iadd hx hb dX12_waitOf_46 ?_
        refine lv_topi (fun x_12 e_13 => ?_)
        refine lv_aload_n hx hb dX12_waitOf_47 rfl (lv_at hl 0 rfl) ?_
        refine g_0_11 C hU hG (h1_0 hG) fl_X12_34 dX12_waitOf_48 ?_
        refine lv_iload_n hx hb dX12_waitOf_51 rfl (lv_at hl 1 rfl) ?_
        refine a_9 C hU hG (h1_9 hG) (x := lg) (by omega) (by omega) dX12_waitOf_52 (fun x_14 e_15 le_15 ue_15 => ?_)
        have te_15 := congrArg Int32.toInt e_15
        refine lv_isub hx hb dX12_waitOf_53 ?_
        refine lv_topi (fun x_16 e_17 => ?_)
        refine q_pi (q_runS (As := [.int x_16]) (rest := []) C hU (c_X12_over  x_16 ) sm_X12_over ml_X12_187 hl.1 rfl rfl (Nat.le_of_ble_eq_true rfl) dX12_waitOf_54 rfl rfl ⟨Nat.le_of_ble_eq_true rfl, Nat.le_of_ble_eq_true rfl⟩ ⟨Nat.le_refl _, Nat.le_refl _⟩) hS (fun x_19 H locs hp_18 hU hS => ?_)
        have q_20 := hp_18.2
        have tq_20 := congrArg Int32.toInt q_20
        refine lv_istore (lv' := [(4, .int x_19), (0, .ref (al.2 0 0)), (1, .int lg)]) hx hb dX12_waitOf_57 hl (by decide) rfl (fun ls hl => ?_)
        refine lv_iload hx hb dX12_waitOf_59 (lv_at hl 0 rfl) ?_
        refine lv_aload_n hx hb dX12_waitOf_61 rfl (lv_at hl 1 rfl) ?_
        refine lv_iload_n hx hb dX12_waitOf_62 rfl (lv_at hl 2 rfl) ?_
        refine q_pi (q_runV (t := 0) (i := 0) (As := [.int lg]) (rest := [.int x_19]) C hU (c_X12_outlateOf hG lg (by omega)) vm_X12_outlateOf ml_X12_200 k_0.1 (hc := rfl) rfl (h1_0 hG) hl.1 rfl rfl (Nat.le_of_ble_eq_true rfl) dX12_waitOf_63 rfl rfl ⟨Nat.le_of_ble_eq_true rfl, Nat.le_of_ble_eq_true rfl⟩ ⟨Nat.le_refl _, Nat.le_refl _⟩) hS (fun x_22 H locs hp_21 hU hS => ?_)
        have q_23 := hp_21.2
        have tq_23 := congrArg Int32.toInt q_23
        refine q_pi (q_runS (As := [.int x_19, .int x_22]) (rest := []) C hU (c_X12_lesser  x_19 x_22 ) sm_X12_lesser ml_X12_203 hl.1 rfl rfl (Nat.le_of_ble_eq_true rfl) dX12_waitOf_66 rfl rfl ⟨Nat.le_of_ble_eq_true rfl, Nat.le_of_ble_eq_true rfl⟩ ⟨Nat.le_refl _, Nat.le_refl _⟩) hS (fun x_25 H locs hp_24 hU hS => ?_)
        have q_26 := hp_24.1
        have tq_26 := congrArg Int32.toInt q_26
        exact hret (⟨rfl, rfl, ⟨⟨by omega, Int.le_of_lt_add_one (fb_rng _).2⟩, by rw [wtF, ← q_3]; split <;> first | (exfalso; omega) | (split <;> first | (exfalso; omega) | simp only [q_3, e_6, q_10, i46_1, e_13, e_15, e_17, q_20, q_23, q_26])⟩⟩) hU hS dX12_waitOf_69
      refine b_if_eq (tgt := 40) hx hb dX12_waitOf_28 (by decide) (fun c_27 => ?_) (fun c_27 => ?_)
      ·
        refine lv_aload_n hx hb dX12_waitOf_40 rfl (lv_at hl 1 rfl) ?_
        refine g_0_17 C hU hG (h1_0 hG) fl_X12_53 dX12_waitOf_41 ?_
        refine lv_iconst (v := 0) hx hb dX12_waitOf_44 (by decide) ?_
        refine a_15 C hU hG (h1_15 hG) (x := 0) (by omega) (by omega) dX12_waitOf_45 (fun x_28 e_29 le_29 ue_29 => ?_)
        have te_29 := congrArg Int32.toInt e_29
        exact J_46 x_28 _ (lv_sub hl [1, 2] rfl) (by omega) (by unfold rsF; split <;> first | (exfalso; omega) | (simp only [q_3, e_6, q_10, e_29]; rfl))
      ·
        refine lv_aload_n hx hb dX12_waitOf_31 rfl (lv_at hl 1 rfl) ?_
        refine g_0_17 C hU hG (h1_0 hG) fl_X12_53 dX12_waitOf_32 ?_
        refine lv_iconst (v := 1) hx hb dX12_waitOf_35 (by decide) ?_
        refine a_15 C hU hG (h1_15 hG) (x := 1) (by omega) (by omega) dX12_waitOf_36 (fun x_30 e_31 le_31 ue_31 => ?_)
        have te_31 := congrArg Int32.toInt e_31
        refine lv_goto (tgt := 46) hx hb dX12_waitOf_37 (by decide) ?_
        exact J_46 x_30 _ (lv_sub hl [1, 2] rfl) (by omega) (by unfold rsF; split <;> first | (exfalso; omega) | (simp only [q_3, e_6, q_10, e_31]; rfl))
    ·
      refine lv_iconst (v := 0) hx hb dX12_waitOf_20 (by decide) ?_
      exact hret (⟨rfl, rfl, ⟨⟨by omega, Int.le_of_lt_add_one (fb_rng _).2⟩, by rw [wtF, ← q_3]; split <;> first | rfl | (split <;> first | rfl | (exfalso; omega))⟩⟩) hU hS dX12_waitOf_21
set_option maxHeartbeats 4000000 in
set_option maxRecDepth 100000 in
theorem c_X12_isByCrew {l : Launch} {D : va_G} {cA : FieldType → ClassId} {sz : Nat} {al : Al} {iv : Iv} {rv : Rv} (hG : GI al iv rv) (lg : Int32) (pre0 : 0 ≤ lg.toInt ∧ lg.toInt < 40) : Met l yX12_isByCrew (wd yX12_isByCrew cX12_isByCrew 2 (some .boolean)) (rm 4) (PcW D cA sz al iv rv [.ref (al.2 0 0), .int lg]) (QI D cA sz al (pI iv rv (fun r => (0 ≤ r.toInt ∧ r.toInt ≤ 1) ∧ (r = bcF iv lg.toNatClampNeg)))) 0 0 (Aq sz) := by
  refine mk_z (by decide) (Nat.le_of_ble_eq_true rfl) rfl ?_
  intro p e s m args below meth c ls Q H locs C hU hS hl hret
  have hx := C.1.1
  have hb := C.1.2.1
  have hl : lv_has ls 2 [(0, .ref (al.2 0 0)), (1, .int lg)] := hl
  have hG0 := hG
  have h6 := le6 hG
  have h20 := le20 hG
  have h41 := le41 hG
  have k0 : (0 : Int32).toInt = 0 := by decide
  have k1 : (1 : Int32).toInt = 1 := by decide
  refine lv_aload_n hx hb dX12_isByCrew_0 rfl (lv_at hl 0 rfl) ?_
  refine lv_iload_n hx hb dX12_isByCrew_1 rfl (lv_at hl 1 rfl) ?_
  refine lv_iconst (v := 1) hx hb dX12_isByCrew_2 (by decide) ?_
  refine q_pi (q_runV (t := 0) (i := 0) (As := [.int lg, .int 1]) (rest := []) C hU (c_X12_waitOf hG lg 1 (by omega)) vm_X12_waitOf ml_X12_207 k_0.1 (hc := rfl) rfl (h1_0 hG) hl.1 rfl rfl (Nat.le_of_ble_eq_true rfl) dX12_isByCrew_3 rfl rfl ⟨Nat.le_of_ble_eq_true rfl, Nat.le_of_ble_eq_true rfl⟩ ⟨Nat.le_refl _, Nat.le_refl _⟩) hS (fun x_2 H locs hp_1 hU hS => ?_)
  have q_3 := hp_1.2
  have tq_3 := congrArg Int32.toInt q_3
  refine lv_aload_n hx hb dX12_isByCrew_6 rfl (lv_at hl 0 rfl) ?_
  refine lv_iload_n hx hb dX12_isByCrew_7 rfl (lv_at hl 1 rfl) ?_
  refine lv_iconst (v := 0) hx hb dX12_isByCrew_8 (by decide) ?_
  refine q_pi (q_runV (t := 0) (i := 0) (As := [.int lg, .int 0]) (rest := [.int x_2]) C hU (c_X12_waitOf hG lg 0 (by omega)) vm_X12_waitOf ml_X12_207 k_0.1 (hc := rfl) rfl (h1_0 hG) hl.1 rfl rfl (Nat.le_of_ble_eq_true rfl) dX12_isByCrew_9 rfl rfl ⟨Nat.le_of_ble_eq_true rfl, Nat.le_of_ble_eq_true rfl⟩ ⟨Nat.le_refl _, Nat.le_refl _⟩) hS (fun x_5 H locs hp_4 hU hS => ?_)
  have q_6 := hp_4.2
  have tq_6 := congrArg Int32.toInt q_6
  refine b_icmp_le (tgt := 19) hx hb dX12_isByCrew_12 (by decide) (fun c_7 => ?_) (fun c_7 => ?_)
  ·
    refine lv_iconst (v := 0) hx hb dX12_isByCrew_19 (by decide) ?_
    exact hret (by omega) (by omega) (⟨rfl, rfl, ⟨⟨by omega, by omega⟩, by rw [bcF, ← q_3, ← q_6]; split <;> first | rfl | (exfalso; omega)⟩⟩) hU hS dX12_isByCrew_20
  ·
    refine lv_iconst (v := 1) hx hb dX12_isByCrew_15 (by decide) ?_
    refine lv_goto (tgt := 20) hx hb dX12_isByCrew_16 (by decide) ?_
    exact hret (by omega) (by omega) (⟨rfl, rfl, ⟨⟨by omega, by omega⟩, by rw [bcF, ← q_3, ← q_6]; split <;> first | rfl | (exfalso; omega)⟩⟩) hU hS dX12_isByCrew_20
set_option maxHeartbeats 4000000 in
set_option maxRecDepth 100000 in
theorem c_X12_handedOf {l : Launch} {D : va_G} {cA : FieldType → ClassId} {sz : Nat} {al : Al} {iv : Iv} {rv : Rv} (hG : GI al iv rv) (lg : Int32) (pre0 : 0 ≤ lg.toInt ∧ lg.toInt < 40) : Met l yX12_handedOf (wd yX12_handedOf cX12_handedOf 2 (some .int)) (rm 5) (PcW D cA sz al iv rv [.ref (al.2 0 0), .int lg]) (QI D cA sz al (pI iv rv (fun r => (0 ≤ r.toInt ∧ r.toInt ≤ 2147483647) ∧ (r = hdF iv lg.toNatClampNeg)))) 0 0 (Aq sz) := by
  refine mk_i (by decide) (Nat.le_of_ble_eq_true rfl) rfl ?_
  intro p e s m args below meth c ls Q H locs C hU hS hl hret
  have hx := C.1.1
  have hb := C.1.2.1
  have hl : lv_has ls 2 [(0, .ref (al.2 0 0)), (1, .int lg)] := hl
  have hG0 := hG
  have h6 := le6 hG
  have h20 := le20 hG
  have h41 := le41 hG
  refine lv_aload_n hx hb dX12_handedOf_0 rfl (lv_at hl 0 rfl) ?_
  refine lv_iload_n hx hb dX12_handedOf_1 rfl (lv_at hl 1 rfl) ?_
  refine q_pi (q_runV (t := 0) (i := 0) (As := [.int lg]) (rest := []) C hU (c_X12_lateOf hG lg (by omega)) vm_X12_lateOf ml_X12_210 k_0.1 (hc := rfl) rfl (h1_0 hG) hl.1 rfl rfl (Nat.le_of_ble_eq_true rfl) dX12_handedOf_2 rfl rfl ⟨Nat.le_of_ble_eq_true rfl, Nat.le_of_ble_eq_true rfl⟩ ⟨Nat.le_refl _, Nat.le_refl _⟩) hS (fun x_2 H locs hp_1 hU hS => ?_)
  have q_3 := hp_1.2
  have tq_3 := congrArg Int32.toInt q_3
  refine lv_aload_n hx hb dX12_handedOf_5 rfl (lv_at hl 0 rfl) ?_
  refine lv_iload_n hx hb dX12_handedOf_6 rfl (lv_at hl 1 rfl) ?_
  refine lv_aload_n hx hb dX12_handedOf_7 rfl (lv_at hl 0 rfl) ?_
  refine lv_iload_n hx hb dX12_handedOf_8 rfl (lv_at hl 1 rfl) ?_
  refine q_pi (q_runV (t := 0) (i := 0) (As := [.int lg]) (rest := [.int lg, .ref (al.2 0 0), .int x_2]) C hU (c_X12_isByCrew hG lg (by omega)) vm_X12_isByCrew ml_X12_213 k_0.1 (hc := rfl) rfl (h1_0 hG) hl.1 rfl rfl (Nat.le_of_ble_eq_true rfl) dX12_handedOf_9 rfl rfl ⟨Nat.le_of_ble_eq_true rfl, Nat.le_of_ble_eq_true rfl⟩ ⟨Nat.le_refl _, Nat.le_refl _⟩) hS (fun x_5 H locs hp_4 hU hS => ?_)
  have q_6 := hp_4.2
  have tq_6 := congrArg Int32.toInt q_6
  refine q_pi (q_runV (t := 0) (i := 0) (As := [.int lg, .int x_5]) (rest := [.int x_2]) C hU (c_X12_waitOf hG lg x_5 (by omega)) vm_X12_waitOf ml_X12_207 k_0.1 (hc := rfl) rfl (h1_0 hG) hl.1 rfl rfl (Nat.le_of_ble_eq_true rfl) dX12_handedOf_12 rfl rfl ⟨Nat.le_of_ble_eq_true rfl, Nat.le_of_ble_eq_true rfl⟩ ⟨Nat.le_refl _, Nat.le_refl _⟩) hS (fun x_8 H locs hp_7 hU hS => ?_)
  have q_9 := hp_7.2
  have tq_9 := congrArg Int32.toInt q_9
  refine q_pi (q_runS (As := [.int x_2, .int x_8]) (rest := []) C hU (c_X12_lesser  x_2 x_8 ) sm_X12_lesser ml_X12_203 hl.1 rfl rfl (Nat.le_of_ble_eq_true rfl) dX12_handedOf_15 rfl rfl ⟨Nat.le_of_ble_eq_true rfl, Nat.le_of_ble_eq_true rfl⟩ ⟨Nat.le_refl _, Nat.le_refl _⟩) hS (fun x_11 H locs hp_10 hU hS => ?_)
  have q_12 := hp_10.1
  have tq_12 := congrArg Int32.toInt q_12
  exact hret (⟨rfl, rfl, ⟨⟨by omega, Int.le_of_lt_add_one (fb_rng _).2⟩, by simp only [hdF, q_3, q_6, q_9, q_12]⟩⟩) hU hS dX12_handedOf_18
set_option maxHeartbeats 4000000 in
set_option maxRecDepth 100000 in
theorem c_X12_findMinutes {l : Launch} {D : va_G} {cA : FieldType → ClassId} {sz : Nat} {al : Al} {iv : Iv} {rv : Rv} (hG : GI al iv rv) (lg : Int32) (pre0 : 0 ≤ lg.toInt ∧ lg.toInt < 40) : Met l yX12_findMinutes (wd yX12_findMinutes cX12_findMinutes 5 none) (rm 6) (PcW D cA sz al iv rv [.ref (al.2 0 0), .int lg]) (QV D cA sz al (fV al ([17], []) iv rv (fun iv' rv' => True))) 0 0 (Aq sz) := by
  refine mk_v (by decide) (Nat.le_of_ble_eq_true rfl) rfl ?_
  intro p e s m args below meth c ls Q H locs C hU hS hl hret
  have hx := C.1.1
  have hb := C.1.2.1
  have hl : lv_has ls 5 [(0, .ref (al.2 0 0)), (1, .int lg)] := hl
  have hG0 := hG
  have h6 := le6 hG
  have h20 := le20 hG
  have h41 := le41 hG
  have hF1 : FR ([17], []) iv iv := FR.rf
  have hF2 : FR ([17], []) rv rv := FR.rf
  have k0 : (0 : Int32).toInt = 0 := by decide
  have k1 : (1 : Int32).toInt = 1 := by decide
  have k6 : (6 : Int32).toInt = 6 := by decide
  refine lv_iconst (v := 0) hx hb dX12_findMinutes_0 (by decide) ?_
  refine lv_istore_n (lv' := [(2, .int 0), (0, .ref (al.2 0 0)), (1, .int lg)]) hx hb dX12_findMinutes_1 rfl hl (by decide) rfl (fun ls hl => ?_)
  have J_2 : ∀ (n_2 : Nat) (l2_1 : Int32) (iv_2 : Iv) (rv_3 : Rv) (H : Heap) (locs : List Loc) (ls : Array Slot), lv_has ls 5 [(0, .ref (al.2 0 0)), (1, .int lg), (2, .int l2_1)] → GI al iv_2 rv_3 → FR ([17], []) iv iv_2 → FR ([17], []) rv rv_3 → UW D cA sz al iv_2 rv_3 H → va_S (Aq sz) s.heap H locs → (0 ≤ l2_1.toInt ∧ l2_1.toInt ≤ 6) → (6 - l2_1.toInt).toNat < n_2 → W p l e (rm 6) s m args below meth c H locs 0 0 Q (F0 m 2 ls []) := by
    intro n_2
    induction n_2 with
    | zero =>
      intro l2_1 iv_2 rv_3 H locs ls hl hG hF1 hF2 hU hS i2_0 hm_2
      exact absurd hm_2 (Nat.not_lt_zero _)
    | succ n_2 ih_2 =>
      intro l2_1 iv_2 rv_3 H locs ls hl hG hF1 hF2 hU hS i2_0 hm_2
      refine lv_iload_n hx hb dX12_findMinutes_2 rfl (lv_at hl 2 rfl) ?_
      refine lv_bipush (v := 6) hx hb dX12_findMinutes_3 (by decide) ?_
      refine b_icmp_ge (tgt := 21) hx hb dX12_findMinutes_5 (by decide) (fun c_4 => ?_) (fun c_4 => ?_)
      ·
        refine lv_iload_n hx hb dX12_findMinutes_21 rfl (lv_at hl 1 rfl) ?_
        refine lv_istore_n (lv' := [(2, .int lg), (0, .ref (al.2 0 0)), (1, .int lg)]) hx hb dX12_findMinutes_22 rfl hl (by decide) rfl (fun ls hl => ?_)
        refine lv_aload_n hx hb dX12_findMinutes_23 rfl (lv_at hl 1 rfl) ?_
        refine lv_iload_n hx hb dX12_findMinutes_24 rfl (lv_at hl 2 rfl) ?_
        refine q_pi (q_runV (t := 0) (i := 0) (As := [.int lg]) (rest := []) C hU (c_X12_lateOf hG lg (by omega)) vm_X12_lateOf ml_X12_210 k_0.1 (hc := rfl) rfl (h1_0 hG) hl.1 rfl rfl (Nat.le_of_ble_eq_true rfl) dX12_findMinutes_25 rfl rfl ⟨Nat.le_of_ble_eq_true rfl, Nat.le_of_ble_eq_true rfl⟩ ⟨Nat.le_refl _, Nat.le_refl _⟩) hS (fun x_6 H locs hp_5 hU hS => ?_)
        have q_7 := hp_5.2
        have tq_7 := congrArg Int32.toInt q_7
        refine lv_istore_n (lv' := [(3, .int x_6), (2, .int lg), (0, .ref (al.2 0 0)), (1, .int lg)]) hx hb dX12_findMinutes_28 rfl hl (by decide) rfl (fun ls hl => ?_)
        have J_29 : ∀ (n_29 : Nat) (l2_8 : Int32) (l3_9 : Int32) (iv_10 : Iv) (rv_11 : Rv) (H : Heap) (locs : List Loc) (ls : Array Slot), lv_has ls 5 [(0, .ref (al.2 0 0)), (2, .int l2_8), (3, .int l3_9)] → GI al iv_10 rv_11 → FR ([17], []) iv iv_10 → FR ([17], []) rv rv_11 → UW D cA sz al iv_10 rv_11 H → va_S (Aq sz) s.heap H locs → (0 ≤ l2_8.toInt ∧ l2_8.toInt ≤ 39) → (0 ≤ l3_9.toInt ∧ l3_9.toInt ≤ 2147483647) → ((iv 9 0 l2_8.toNatClampNeg).toInt + min l3_9.toInt 1).toNat < n_29 → W p l e (rm 6) s m args below meth c H locs 0 0 Q (F0 m 29 ls []) := by
          intro n_29
          induction n_29 with
          | zero =>
            intro l2_8 l3_9 iv_10 rv_11 H locs ls hl hG hF1 hF2 hU hS i29_0 i29_1 hm_29
            exact absurd hm_29 (Nat.not_lt_zero _)
          | succ n_29 ih_29 =>
            intro l2_8 l3_9 iv_10 rv_11 H locs ls hl hG hF1 hF2 hU hS i29_0 i29_1 hm_29
            have hlv : (0:Int) ≤ (iv 9 0 l2_8.toNatClampNeg).toInt := (hG0.1 9 0 l2_8.toNatClampNeg (h1_9 hG0) (by rw [clamp_n]; show _ < 40; omega)).1
            refine lv_iload_n hx hb dX12_findMinutes_29 rfl (lv_at hl 2 rfl) ?_
            refine b_if_le (tgt := 87) hx hb dX12_findMinutes_30 (by decide) (fun c_12 => ?_) (fun c_12 => ?_)
            ·
              exact hret (⟨hG, hF1, hF2, trivial⟩) hU hS dX12_findMinutes_87
            ·
              refine lv_iload_n hx hb dX12_findMinutes_33 rfl (lv_at hl 2 rfl) ?_
              refine lv_aload_n hx hb dX12_findMinutes_34 rfl (lv_at hl 0 rfl) ?_
              refine lv_iload_n hx hb dX12_findMinutes_35 rfl (lv_at hl 1 rfl) ?_
              refine q_pi (q_runV (t := 0) (i := 0) (As := [.int l2_8]) (rest := [.int l3_9]) C hU (c_X12_handedOf hG l2_8 (by omega)) vm_X12_handedOf ml_X12_216 k_0.1 (hc := rfl) rfl (h1_0 hG) hl.1 rfl rfl (Nat.le_of_ble_eq_true rfl) dX12_findMinutes_36 rfl rfl ⟨Nat.le_of_ble_eq_true rfl, Nat.le_of_ble_eq_true rfl⟩ ⟨Nat.le_refl _, Nat.le_refl _⟩) hS (fun x_14 H locs hp_13 hU hS => ?_)
              have q_15 := hp_13.2
              have tq_15 := congrArg Int32.toInt q_15
              have hh := q_15.trans (hd_cong (fr17 hF1) _)
              have thh := congrArg Int32.toInt hh
              refine q_pi (q_runS (As := [.int l3_9, .int x_14]) (rest := []) C hU (c_X12_lesser  l3_9 x_14 ) sm_X12_lesser ml_X12_203 hl.1 rfl rfl (Nat.le_of_ble_eq_true rfl) dX12_findMinutes_39 rfl rfl ⟨Nat.le_of_ble_eq_true rfl, Nat.le_of_ble_eq_true rfl⟩ ⟨Nat.le_refl _, Nat.le_refl _⟩) hS (fun x_17 H locs hp_16 hU hS => ?_)
              have q_18 := hp_16.1
              have tq_18 := congrArg Int32.toInt q_18
              refine lv_istore (lv' := [(4, .int x_17), (0, .ref (al.2 0 0)), (2, .int l2_8), (3, .int l3_9)]) hx hb dX12_findMinutes_42 hl (by decide) rfl (fun ls hl => ?_)
              refine lv_aload_n hx hb dX12_findMinutes_44 rfl (lv_at hl 1 rfl) ?_
              refine g_0_19 C hU hG (h1_0 hG) fl_X12_59 dX12_findMinutes_45 ?_
              refine lv_aload_n hx hb dX12_findMinutes_48 rfl (lv_at hl 1 rfl) ?_
              refine g_0_16 C hU hG (h1_0 hG) fl_X12_50 dX12_findMinutes_49 ?_
              refine lv_iload_n hx hb dX12_findMinutes_52 rfl (lv_at hl 2 rfl) ?_
              refine a_14 C hU hG (h1_14 hG) (x := l2_8) (by omega) (by omega) dX12_findMinutes_53 (fun x_19 e_20 le_20 ue_20 => ?_)
              have te_20 := congrArg Int32.toInt e_20
              have ne_20 : x_19.toInt = (iv 14 0 (l2_8 : Int32).toNatClampNeg).toInt := by rw [e_20, hF1.arr 14 0 (l2_8 : Int32).toNatClampNeg (by decide)]
              refine lv_dup2_11 hx hb dX12_findMinutes_54 rfl rfl ?_
              refine a_17 C hU hG (h1_17 hG) (x := x_19) (by omega) (by omega) dX12_findMinutes_55 (fun x_21 e_22 => ?_)
              have te_22 := congrArg Int32.toInt e_22
              refine lv_iload_n hx hb dX12_findMinutes_56 rfl (lv_at hl 3 rfl) ?_
              refine lv_iload hx hb dX12_findMinutes_57 (lv_at hl 0 rfl) ?_
              refine lv_isub hx hb dX12_findMinutes_59 ?_
              refine lv_topi (fun x_23 e_24 => ?_)
              refine lv_iadd hx hb dX12_findMinutes_60 ?_
              refine lv_topi (fun x_25 e_26 => ?_)
              refine s_17 C hU hS (h1_17 hG) (x := x_19) (by omega) (by omega) dX12_findMinutes_61 (fun iv_27 H locs ei_28 hU hS => ?_)
              have hG : GI al iv_27 rv_11 := by rw [ei_28]; exact hG.puti (show _ ∧ _ from ⟨(fb_rng _).1, Int.le_of_lt_add_one (fb_rng _).2⟩) (nsA (by decide) _)
              have hF1 : FR ([17], []) iv iv_27 := by rw [ei_28]; exact hF1.put (Or.inl (by decide))
              refine lv_iload hx hb dX12_findMinutes_62 (lv_at hl 0 rfl) ?_
              refine lv_istore_n (lv' := [(3, .int x_17), (4, .int x_17), (0, .ref (al.2 0 0)), (2, .int l2_8)]) hx hb dX12_findMinutes_64 rfl hl (by decide) rfl (fun ls hl => ?_)
              refine lv_iload_n hx hb dX12_findMinutes_65 rfl (lv_at hl 0 rfl) ?_
              have J_83 : ∀ (v_29 : Int32) (H : Heap) (locs : List Loc) (ls : Array Slot), lv_has ls 5 [(0, .ref (al.2 0 0)), (3, .int x_17)] → UW D cA sz al iv_27 rv_11 H → va_S (Aq sz) s.heap H locs → (-1 ≤ v_29.toInt ∧ v_29.toInt ≤ 39) → (0 ≤ v_29.toInt ∧ v_29.toInt ≤ 39) → ((x_17.toInt ≤ 0 ∧ (iv 9 0 v_29.toNatClampNeg).toInt = (iv 9 0 l2_8.toNatClampNeg).toInt) ∨ (0 < x_17.toInt ∧ (iv 9 0 v_29.toNatClampNeg).toInt < (iv 9 0 l2_8.toNatClampNeg).toInt)) → W p l e (rm 6) s m args below meth c H locs 0 0 Q (F0 m 83 ls [.int v_29]) := by
                intro v_29 H locs ls hl hU hS i83_0 i83_1 i83_2
                refine lv_istore_n (lv' := [(2, .int v_29), (0, .ref (al.2 0 0)), (3, .int x_17)]) hx hb dX12_findMinutes_83 rfl hl (by decide) rfl (fun ls hl => ?_)
                refine lv_goto (tgt := 29) hx hb dX12_findMinutes_84 (by decide) ?_
                exact ih_29 v_29 x_17 _ _ _ _ _ (lv_sub hl [1, 0, 2] rfl) hG hF1 hF2 hU hS (by omega) (by omega) (by omega)
              refine b_if_le (tgt := 82) hx hb dX12_findMinutes_66 (by decide) (fun c_30 => ?_) (fun c_30 => ?_)
              ·
                refine lv_iload_n hx hb dX12_findMinutes_82 rfl (lv_at hl 3 rfl) ?_
                exact J_83 l2_8 _ _ _ (lv_sub hl [2, 0] rfl) hU hS (by omega) (by omega) (by first | (left; exact ⟨by omega, rfl⟩) | (right; exact ⟨by omega, hlt.2⟩))
              ·
                refine lv_aload_n hx hb dX12_findMinutes_69 rfl (lv_at hl 2 rfl) ?_
                refine lv_iload_n hx hb dX12_findMinutes_70 rfl (lv_at hl 3 rfl) ?_
                refine lv_aload_n hx hb dX12_findMinutes_71 rfl (lv_at hl 2 rfl) ?_
                refine lv_iload_n hx hb dX12_findMinutes_72 rfl (lv_at hl 3 rfl) ?_
                refine q_pi (q_runV (t := 0) (i := 0) (As := [.int l2_8]) (rest := [.int l2_8, .ref (al.2 0 0)]) C hU (c_X12_isByCrew hG l2_8 (by omega)) vm_X12_isByCrew ml_X12_213 k_0.1 (hc := rfl) rfl (h1_0 hG) hl.1 rfl rfl (Nat.le_of_ble_eq_true rfl) dX12_findMinutes_73 rfl rfl ⟨Nat.le_of_ble_eq_true rfl, Nat.le_of_ble_eq_true rfl⟩ ⟨Nat.le_refl _, Nat.le_refl _⟩) hS (fun x_32 H locs hp_31 hU hS => ?_)
                have q_33 := hp_31.2
                have tq_33 := congrArg Int32.toInt q_33
                have hbc := q_33.trans (bc_cong (fr17 hF1) _)
                refine q_pi (q_runV (t := 0) (i := 0) (As := [.int l2_8, .int x_32]) (rest := []) C hU (c_X12_aheadOf hG l2_8 x_32 (by omega)) vm_X12_aheadOf ml_X12_196 k_0.1 (hc := rfl) rfl (h1_0 hG) hl.1 rfl rfl (Nat.le_of_ble_eq_true rfl) dX12_findMinutes_76 rfl rfl ⟨Nat.le_of_ble_eq_true rfl, Nat.le_of_ble_eq_true rfl⟩ ⟨Nat.le_refl _, Nat.le_refl _⟩) hS (fun x_35 H locs hp_34 hU hS => ?_)
                have q_36 := hp_34.2.1
                have tq_36 := congrArg Int32.toInt q_36
                have hah := q_36.trans (ah_cong (fr17 hF1) _ _)
                rw [hbc] at hah
                have hpos : 0 < (hdF iv l2_8.toNatClampNeg).toInt := by omega
                have hge := hd_pos hpos
                have hlt := ah_lt hG0 hge
                rw [← hah] at hge hlt
                have hl6 := le6 hG0
                refine lv_goto (tgt := 83) hx hb dX12_findMinutes_79 (by decide) ?_
                exact J_83 x_35 _ _ _ (lv_sub hl [2, 0] rfl) hU hS (by omega) (by omega) (by first | (left; exact ⟨by omega, rfl⟩) | (right; exact ⟨by omega, hlt.2⟩))
        exact J_29 _ lg x_6 _ _ _ _ _ (lv_sub hl [2, 1, 0] rfl) hG hF1 hF2 hU hS (by omega) (by omega) (Nat.lt_succ_self _)
      ·
        refine lv_aload_n hx hb dX12_findMinutes_8 rfl (lv_at hl 0 rfl) ?_
        refine g_0_19 C hU hG (h1_0 hG) fl_X12_59 dX12_findMinutes_9 ?_
        refine lv_iload_n hx hb dX12_findMinutes_12 rfl (lv_at hl 2 rfl) ?_
        refine lv_iconst (v := 0) hx hb dX12_findMinutes_13 (by decide) ?_
        refine s_17 C hU hS (h1_17 hG) (x := l2_1) (by omega) (by omega) dX12_findMinutes_14 (fun iv_37 H locs ei_38 hU hS => ?_)
        have hG : GI al iv_37 rv_3 := by rw [ei_38]; exact hG.puti (show _ ∧ _ from ⟨(fb_rng _).1, Int.le_of_lt_add_one (fb_rng _).2⟩) (nsA (by decide) _)
        have hF1 : FR ([17], []) iv iv_37 := by rw [ei_38]; exact hF1.put (Or.inl (by decide))
        obtain ⟨x_39, e_40⟩ : ∃ y : Int32, y = l2_1 + 1 := ⟨_, rfl⟩
        have te_40 : x_39.toInt = (l2_1 : Int32).toInt + (1 : Int32).toInt := by rw [e_40]; exact fb_addI (by omega) (by omega)
        refine lv_iinc (v := x_39) (lv' := [(2, .int x_39), (0, .ref (al.2 0 0)), (1, .int lg)]) hx hb dX12_findMinutes_15 hl (k := 2) rfl (by rw [e_40]; rfl) (by decide) rfl (fun ls hl => ?_)
        refine lv_goto (tgt := 2) hx hb dX12_findMinutes_18 (by decide) ?_
        exact ih_2 x_39 _ _ _ _ _ (lv_sub hl [1, 2, 0] rfl) hG hF1 hF2 hU hS (by omega) (by omega)
  exact J_2 _ 0 _ _ _ _ _ (lv_sub hl [1, 2, 0] rfl) hG hF1 hF2 hU hS (by omega) (Nat.lt_succ_self _)
end
