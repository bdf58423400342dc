def mxF (x y : Int32) : Int32 := if x < y then y else x
def mnF (x y : Int32) : Int32 := if y < x then y else x
def abF (x : Int32) : Int32 := if 0 ≤ x then x else 0 - x
theorem mx_i (x y : Int32) : (mxF x y).toInt = max x.toInt y.toInt := by
  unfold mxF
  split
  · rename_i h; rw [fa_lt] at h; omega
  · rename_i h; rw [fa_lt] at h; omega
theorem mn_i (x y : Int32) : (mnF x y).toInt = min x.toInt y.toInt := by
  unfold mnF
  split
  · rename_i h; rw [fa_lt] at h; omega
  · rename_i h; rw [fa_lt] at h; omega
section QM
variable {p : Program} {l : Launch} {e : Env} {R : Room} {s : State} {m : MethodId} {args : Array Value} {below : List Frame} {meth : Method} {c : Code} {H : Heap} {locs : List Loc} {cells slots : Nat} {Q : State → Prop}
variable {cc : ByteArray} {pc nL : Nat} {ls : Array Slot} {rest : List Value} {own : String} {D : va_G} {cA : FieldType → ClassId}
theorem q_max (C : Cx p s m args c cc nL own D cA) (hl : ls.size = nL) {index : Nat} (hlink : Cond.methodLink own index yJ9_max_7cf53 ∈ BW) (hf : 1 ≤ R.frames) (hlo : (rest.map fun v => v.category).sum + 13 ≤ R.locals) (hc : cells ≤ R.cells) (hs : slots ≤ R.slots) {x y : Int32} (hdg : decode cc pc = .ok (.invokestatic index, 3))
    (kk : ∀ r : Int32, r = mxF x y → r.toInt = max x.toInt y.toInt → W p l e R s m args below meth c H locs cells slots Q (F0 m (pc + 3) ls (.int r :: rest))) : W p l e R s m args below meth c H locs cells slots Q (F0 m pc ls (.int y :: .int x :: rest)) :=
  va_mmax C.1.1 C.1.2.1 (C.1.2.2.1.trans hl.symm) C.1.2.2.2.1 (C.1.2.2.2.2 _ hlink) (C.1.2.2.2.2 _ sm_J9_max_7cf53.2.1) (C.1.2.2.2.2 _ sm_J9_max_7cf53.2.2.1) (C.1.2.2.2.2 _ sm_J9_max_7cf53.1) hf hlo hc hs hdg (kk _ rfl (mx_i x y))
theorem q_min (C : Cx p s m args c cc nL own D cA) (hl : ls.size = nL) {index : Nat} (hlink : Cond.methodLink own index yJ9_min_7cf53 ∈ BW) (hf : 1 ≤ R.frames) (hlo : (rest.map fun v => v.category).sum + 13 ≤ R.locals) (hc : cells ≤ R.cells) (hs : slots ≤ R.slots) {x y : Int32} (hdg : decode cc pc = .ok (.invokestatic index, 3))
    (kk : ∀ r : Int32, r = mnF x y → r.toInt = min x.toInt y.toInt → W p l e R s m args below meth c H locs cells slots Q (F0 m (pc + 3) ls (.int r :: rest))) : W p l e R s m args below meth c H locs cells slots Q (F0 m pc ls (.int y :: .int x :: rest)) :=
  va_mmin C.1.1 C.1.2.1 (C.1.2.2.1.trans hl.symm) C.1.2.2.2.1 (C.1.2.2.2.2 _ hlink) (C.1.2.2.2.2 _ sm_J9_min_7cf53.2.1) (C.1.2.2.2.2 _ sm_J9_min_7cf53.2.2.1) (C.1.2.2.2.2 _ sm_J9_min_7cf53.1) hf hlo hc hs hdg (kk _ rfl (mn_i x y))
theorem q_abs (C : Cx p s m args c cc nL own D cA) (hl : ls.size = nL) {index : Nat} (hlink : Cond.methodLink own index yJ9_abs_0f7a4 ∈ BW) (hf : 1 ≤ R.frames) (hlo : (rest.map fun v => v.category).sum + 13 ≤ R.locals) (hc : cells ≤ R.cells) (hs : slots ≤ R.slots) {x : Int32} (hdg : decode cc pc = .ok (.invokestatic index, 3))
    (kk : ∀ r : Int32, r = abF x → W p l e R s m args below meth c H locs cells slots Q (F0 m (pc + 3) ls (.int r :: rest))) : W p l e R s m args below meth c H locs cells slots Q (F0 m pc ls (.int x :: rest)) :=
  va_mabs C.1.1 C.1.2.1 (C.1.2.2.1.trans hl.symm) C.1.2.2.2.1 (C.1.2.2.2.2 _ hlink) (C.1.2.2.2.2 _ sm_J9_abs_0f7a4.2.1) (C.1.2.2.2.2 _ sm_J9_abs_0f7a4.2.2.1) (C.1.2.2.2.2 _ sm_J9_abs_0f7a4.1) hf hlo hc hs hdg (kk _ rfl)
end QM
theorem rfv_cat (al : Al) (t : Nat) (r : Option Nat) : (rfv al t r).category = 1 := by cases r <;> rfl
