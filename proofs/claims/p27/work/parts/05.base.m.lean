section
abbrev Iv : Type := Nat → Nat → Nat → Int32
abbrev Rv : Type := Nat → Nat → Nat → Option Nat
abbrev Al : Type := (Nat → Nat) × (Nat → Nat → Nat)
theorem fa_lt (a b : Int32) : a < b ↔ a.toInt < b.toInt := Int32.lt_iff_toInt_lt
theorem fa_le (a b : Int32) : a ≤ b ↔ a.toInt ≤ b.toInt := Int32.le_iff_toInt_le
theorem fa_eq (a b : Int32) : a = b ↔ a.toInt = b.toInt := Int32.toInt_inj.symm
theorem fb_rng (x : Int32) : -2147483648 ≤ x.toInt ∧ x.toInt < 2147483648 := by
  have h1 := Int32.le_toInt x
  have h2 := Int32.toInt_lt x
  omega
theorem fb_bmod {z : Int} (h1 : -2147483648 ≤ z) (h2 : z < 2147483648) : z.bmod (2 ^ 32) = z := by
  rw [Int.bmod_eq_of_le (by omega) (by omega)]
theorem fb_addI {x y : Int32} (h1 : -2147483648 ≤ x.toInt + y.toInt) (h2 : x.toInt + y.toInt < 2147483648) : (x + y).toInt = x.toInt + y.toInt := by
  rw [Int32.toInt_add, fb_bmod h1 h2]
theorem fb_subI {x y : Int32} (h1 : -2147483648 ≤ x.toInt - y.toInt) (h2 : x.toInt - y.toInt < 2147483648) : (x - y).toInt = x.toInt - y.toInt := by
  rw [Int32.toInt_sub, fb_bmod h1 h2]
theorem fb_mulI {x y : Int32} (h1 : -2147483648 ≤ x.toInt * y.toInt) (h2 : x.toInt * y.toInt < 2147483648) : (x * y).toInt = x.toInt * y.toInt := by
  rw [Int32.toInt_mul, fb_bmod h1 h2]
theorem fb_negI {x : Int32} (h : x.toInt ≠ -2147483648) : (-x).toInt = -x.toInt := by
  have := fb_rng x
  rw [Int32.toInt_neg, fb_bmod (by omega) (by omega)]
-- the store
def up3 {α : Type} (f : Nat → Nat → Nat → α) (t i k : Nat) (x : α) : Nat → Nat → Nat → α := fun t' i' k' => if t' = t ∧ i' = i ∧ k' = k then x else f t' i' k'
theorem up3_self {α : Type} (f : Nat → Nat → Nat → α) (t i k : Nat) (x : α) : up3 f t i k x t i k = x := by simp [up3]
theorem up3_ne {α : Type} {f : Nat → Nat → Nat → α} {t i k t' i' k' : Nat} {x : α} (h : ¬ (t' = t ∧ i' = i ∧ k' = k)) : up3 f t i k x t' i' k' = f t' i' k' := by simp only [up3, if_neg h]
def rfv (al : Al) (t' : Nat) (r : Option Nat) : Value := va_rf (r.map (al.2 t'))
def vl (al : Al) (iv : Iv) (rv : Rv) (t i k : Nat) : Value := match (pt t).2.2.2 k with
  | none => .int (iv t i k)
  | some t' => rfv al t' (rv t i k)
theorem vl_int {al : Al} {iv : Iv} {rv : Rv} {t i k : Nat} (h : (pt t).2.2.2 k = none) : vl al iv rv t i k = .int (iv t i k) := by simp only [vl, h]
theorem vl_ref {al : Al} {iv : Iv} {rv : Rv} {t i k t' : Nat} (h : (pt t).2.2.2 k = some t') : vl al iv rv t i k = rfv al t' (rv t i k) := by simp only [vl, h]
def cellAt (D : va_G) (cA : FieldType → ClassId) (t a : Nat) (V : Nat → Value) (H : Heap) : Prop := match (pt t).1 with
  | some ci => t_OB a (D.1 ci) (pt t).2.1 (D.2 ci) H V
  | none => H[a]? = some (arrV (cA (pt t).2.2.1) (pt t).2.1 V)
theorem cellAt.ob {D : va_G} {cA : FieldType → ClassId} {t a ci : Nat} {V : Nat → Value} {H : Heap} (h : (pt t).1 = some ci) (g : cellAt D cA t a V H) : t_OB a (D.1 ci) (pt t).2.1 (D.2 ci) H V := by
  simp only [cellAt, h] at g; exact g
theorem cellAt.ofOb {D : va_G} {cA : FieldType → ClassId} {t a ci : Nat} {V : Nat → Value} {H : Heap} (h : (pt t).1 = some ci) (g : t_OB a (D.1 ci) (pt t).2.1 (D.2 ci) H V) : cellAt D cA t a V H := by
  simp only [cellAt, h]; exact g
theorem cellAt.ar {D : va_G} {cA : FieldType → ClassId} {t a : Nat} {V : Nat → Value} {H : Heap} (h : (pt t).1 = none) (g : cellAt D cA t a V H) : H[a]? = some (arrV (cA (pt t).2.2.1) (pt t).2.1 V) := by
  simp only [cellAt, h] at g; exact g
theorem cellAt.ofAr {D : va_G} {cA : FieldType → ClassId} {t a : Nat} {V : Nat → Value} {H : Heap} (h : (pt t).1 = none) (g : H[a]? = some (arrV (cA (pt t).2.2.1) (pt t).2.1 V)) : cellAt D cA t a V H := by
  simp only [cellAt, h]; exact g
theorem cellAt.kept {D : va_G} {cA : FieldType → ClassId} {t a : Nat} {V : Nat → Value} {H H1 : Heap} (g : cellAt D cA t a V H) (h : H1[a]? = H[a]?) : cellAt D cA t a V H1 := by
  cases hp : (pt t).1 with
  | none => exact cellAt.ofAr hp (h.trans (g.ar hp))
  | some ci => exact cellAt.ofOb hp ((g.ob hp).kept h)
theorem cellAt.lt {D : va_G} {cA : FieldType → ClassId} {t a : Nat} {V : Nat → Value} {H : Heap} (g : cellAt D cA t a V H) : a < H.size := by
  cases hp : (pt t).1 with
  | none => exact (Array.getElem?_eq_some_iff.mp (g.ar hp)).1
  | some ci =>
    obtain ⟨cell, h, -⟩ := g.ob hp
    exact (Array.getElem?_eq_some_iff.mp h).1
def Aq (sz : Nat) : Nat → Prop := fun q => sz ≤ q
def UW (D : va_G) (cA : FieldType → ClassId) (sz : Nat) (al : Al) (iv : Iv) (rv : Rv) (H : Heap) : Prop :=
  (∀ t i, i < al.1 t → cellAt D cA t (al.2 t i) (vl al iv rv t i) H) ∧
  (∀ t i t' i', i < al.1 t → i' < al.1 t' → al.2 t i = al.2 t' i' → t = t' ∧ i = i') ∧
  (∀ t i, i < al.1 t → sz ≤ al.2 t i)
theorem UW.wr {D : va_G} {cA : FieldType → ClassId} {sz : Nat} {al : Al} {iv iv' : Iv} {rv rv' : Rv} {H H1 : Heap} (hU : UW D cA sz al iv rv H) {t i : Nat} (hi : i < al.1 t)
    (hc : cellAt D cA t (al.2 t i) (vl al iv' rv' t i) H1) (oq : ∀ q, q ≠ al.2 t i → H1[q]? = H[q]?)
    (hv : ∀ t' i', ¬ (t' = t ∧ i' = i) → ∀ k, vl al iv' rv' t' i' k = vl al iv rv t' i' k) : UW D cA sz al iv' rv' H1 := by
  refine ⟨fun t' i' h => ?_, hU.2.1, hU.2.2⟩
  by_cases e : t' = t ∧ i' = i
  · obtain ⟨rfl, rfl⟩ := e; exact hc
  · have h1 : vl al iv' rv' t' i' = vl al iv rv t' i' := funext (hv t' i' e)
    rw [h1]
    exact (hU.1 t' i' h).kept (oq _ (fun z => e (hU.2.1 t' i' t i h hi z)))
theorem vl_up_int {al : Al} {iv : Iv} {rv : Rv} {t i k : Nat} {x : Int32} (h : (pt t).2.2.2 k = none) : vl al (up3 iv t i k x) rv t i = updV (vl al iv rv t i) k (.int x) := by
  funext j
  by_cases hj : j = k
  · subst hj; rw [vl_int h]; simp [updV, up3]
  · simp only [updV, hj, if_false, vl, up3, and_false]
theorem vl_up_int_ne {al : Al} {iv : Iv} {rv : Rv} {t i k : Nat} {x : Int32} : ∀ t' i', ¬ (t' = t ∧ i' = i) → ∀ j, vl al (up3 iv t i k x) rv t' i' j = vl al iv rv t' i' j := by
  intro t' i' h j
  have e : up3 iv t i k x t' i' j = iv t' i' j := up3_ne (fun q => h ⟨q.1, q.2.1⟩)
  simp only [vl, e]
theorem vl_up_ref {al : Al} {iv : Iv} {rv : Rv} {t i k t' : Nat} {r : Option Nat} (h : (pt t).2.2.2 k = some t') : vl al iv (up3 rv t i k r) t i = updV (vl al iv rv t i) k (rfv al t' r) := by
  funext j
  by_cases hj : j = k
  · subst hj; rw [vl_ref h]; simp [updV, up3]
  · simp only [updV, hj, if_false, vl, up3, and_false]
theorem vl_up_ref_ne {al : Al} {iv : Iv} {rv : Rv} {t i k : Nat} {r : Option Nat} : ∀ t' i', ¬ (t' = t ∧ i' = i) → ∀ j, vl al iv (up3 rv t i k r) t' i' j = vl al iv rv t' i' j := by
  intro t' i' h j
  have e : up3 rv t i k r t' i' j = rv t' i' j := up3_ne (fun q => h ⟨q.1, q.2.1⟩)
  simp only [vl, e]
-- words
def BW : List Cond := lw_tbl.filter goodWord
theorem bw {w : Cond} (i : Nat) (h : lw_tbl[i]? = some w) (g : goodWord w = true) : w ∈ BW := List.mem_filter.mpr ⟨List.mem_of_getElem? h, g⟩
theorem bw_good {w : Cond} (h : w ∈ BW) : goodWord w = true := (List.mem_filter.mp h).2
theorem bw_tbl {w : Cond} (h : w ∈ BW) : w ∈ lw_tbl := (List.mem_filter.mp h).1
def wd (y : MethodName) (cc : ByteArray) (n : Nat) (ret : Option FieldType) : List Cond := Cond.code y cc n ret :: BW
theorem gdw {y : MethodName} {cc : ByteArray} {n : Nat} {ret : Option FieldType} (h : Cond.code y cc n ret ∈ BW) : GoodIn BW (wd y cc n ret) := fun w hw => by
  rcases List.mem_cons.mp hw with rfl | h'
  · exact ⟨h, good_of_word (bw_good h)⟩
  · exact ⟨h', good_of_word (bw_good h')⟩
def aty : List FieldType := [.int, .boolean, .object "LateClaims$Port", .object "LateClaims$Leg", .object "LateClaims$Ticket", .object "LateClaims$Claim", .array .int]
def KU (D : va_G) (cA : FieldType → ClassId) (U : State) : Prop := va_K D vwCl [] U ∧ (∀ ty ∈ aty, ArrOfT U (cA ty) ty ∧ va_RA U (cA ty) ty) ∧
  (va_AO "LateClaims$Port" U ∧ va_AO "LateClaims$Leg" U ∧ va_AO "LateClaims$Ticket" U ∧ va_AO "LateClaims$Claim" U) ∧
  (va_Nw (.methodLinkNest RX7 23 yX11_isOneOf RX11) U ∧ va_Nw (.methodLinkNest RX10 32 yX11_isOneOf RX11) U ∧ va_Nw (.methodLinkNest RX9 19 yX11_isOneOf RX11) U ∧ va_Nw (.methodLinkNest RX3 28 yX11_isOneOf RX11) U)
theorem KU.warm {D : va_G} {cA : FieldType → ClassId} {s U : State} (hW : s.WarmedH U.vm) (h : KU D cA s) : KU D cA U := by
  obtain ⟨h1, h2, ⟨a1, a2, a3, a4⟩, b1, b2, b3, b4⟩ := h
  exact ⟨h1.moved hW.alike, fun ty ht => ⟨arrOfT_moved hW.alike (h2 ty ht).1, (h2 ty ht).2.moved hW.alike⟩, ⟨a1.moved hW.alike, a2.moved hW.alike, a3.moved hW.alike, a4.moved hW.alike⟩, b1.warmM hW, b2.warmM hW, b3.warmM hW, b4.warmM hW⟩
theorem KU.calling {D : va_G} {cA : FieldType → ClassId} {U : State} (h : KU D cA U) (g : JFrame) (mk : MethodId) (a : Array Value) : KU D cA (U.calling g mk a) := by
  obtain ⟨h1, h2, ⟨a1, a2, a3, a4⟩, b1, b2, b3, b4⟩ := h
  have r : U.vm.Alike (U.calling g mk a).vm := Vm.Alike.refl U.vm
  exact ⟨h1.moved r, fun ty ht => ⟨arrOfT_moved r (h2 ty ht).1, (h2 ty ht).2.moved r⟩, ⟨a1.moved r, a2.moved r, a3.moved r, a4.moved r⟩, b1.same rfl rfl, b2.same rfl rfl, b3.same rfl rfl, b4.same rfl rfl⟩
def PcW (D : va_G) (cA : FieldType → ClassId) (sz : Nat) (al : Al) (iv : Iv) (rv : Rv) (vs : List Value) : Array Value → State → Prop := va_Pc vs (fun U => UW D cA sz al iv rv U.heap ∧ KU D cA U)
theorem PcW.blind {D : va_G} {cA : FieldType → ClassId} {sz : Nat} {al : Al} {iv : Iv} {rv : Rv} {vs : List Value} : FrameBlind (PcW D cA sz al iv rv vs) := fun a U g mk q => ⟨q.1, q.2.1, q.2.2.calling g mk a⟩
def QI (D : va_G) (cA : FieldType → ClassId) (sz : Nat) (al : Al) (post : Int32 → Iv → Rv → Prop) : Array Value → State → Outcome → State → Prop := fun _ st oc t =>
  (∃ (r : Int32) (iv : Iv) (rv : Rv), oc = .returned (some (.int r)) ∧ post r iv rv ∧ UW D cA sz al iv rv t.heap) ∧ va_F (Aq sz) st t
def QV (D : va_G) (cA : FieldType → ClassId) (sz : Nat) (al : Al) (post : Iv → Rv → Prop) : Array Value → State → Outcome → State → Prop := fun _ st oc t =>
  (∃ (iv : Iv) (rv : Rv), oc = .returned none ∧ post iv rv ∧ UW D cA sz al iv rv t.heap) ∧ va_F (Aq sz) st t
def QR (D : va_G) (cA : FieldType → ClassId) (sz : Nat) (al : Al) (t' : Nat) (post : Option Nat → Iv → Rv → Prop) : Array Value → State → Outcome → State → Prop := fun _ st oc t =>
  (∃ (r : Option Nat) (iv : Iv) (rv : Rv), oc = .returned (some (rfv al t' r)) ∧ post r iv rv ∧ UW D cA sz al iv rv t.heap) ∧ va_F (Aq sz) st t
/-- the fixed facts of a walk -/
def Cx (p : Program) (s : State) (m : MethodId) (args : Array Value) (c : Code) (cc : ByteArray) (nL : Nat) (own : String) (D : va_G) (cA : FieldType → ClassId) : Prop := CallFix p m c cc nL s args BW own ∧ KU D cA s
def rm (d : Nat) : Room := { frames := d, cells := 0, slots := 0, locals := 40 * d }
def rmA (d mc ms : Nat) : Room := { frames := d, cells := mc, slots := ms, locals := 40 * d }
def VM (y : MethodName) (bytes : ByteArray) (maxL : Nat) (ret : Option FieldType) (n : Nat) : Prop := Cond.code y bytes maxL ret ∈ BW ∧ Cond.instanceMethod y ∈ BW ∧ Cond.selects y.cls y y ∈ BW ∧ Cond.initialized y.cls ∈ BW ∧ (y.cls ≠ "java/lang/invoke/MethodHandle" ∧ y.cls ≠ "java/lang/invoke/VarHandle" ∧ (parseMethodDescriptor y.desc).map (fun d => d.parameters.length) = some n)
def SM (y : MethodName) (bytes : ByteArray) (maxL : Nat) (ret : Option FieldType) (n : Nat) : Prop := Cond.code y bytes maxL ret ∈ BW ∧ Cond.static y ∈ BW ∧ Cond.initialized y.cls ∈ BW ∧ (y.cls ≠ "java/lang/invoke/MethodHandle" ∧ y.cls ≠ "java/lang/invoke/VarHandle" ∧ (parseMethodDescriptor y.desc).map (fun d => d.parameters.length) = some n)
section QR0
variable {p : Program} {l : Launch} {e : Env} {R : Room} {s : State} {m : MethodId} {args : Array Value} {below : List Frame} {meth : Method} {c : Code} {H : Heap} {locs : List Loc} {cells slots : Nat} {Q : State → Prop}
variable {cc : ByteArray} {pc nL : Nat} {ls : Array Slot} {rest : List Value} {own : String} {D : va_G} {cA : FieldType → ClassId} {sz : Nat} {al : Al} {iv : Iv} {rv : Rv}
theorem q_getv (C : Cx p s m args c cc nL own D cA) (hU : UW D cA sz al iv rv H) {t i k ci N index : Nat} {Cn : String} {T : u_T} (kp : (pt t).1 = some ci ∧ (pt t).2.1 = N) (hc : vwCl[ci]? = some (Cn, T, N)) (hin : ∀ w ∈ u_ws Cn T N, w ∈ BW) (hi : i < al.1 t) (hk : k < N) (hT : (T k).1 = Cn)
    (hlink : Cond.fieldLink own index Cn (T k).2.1 (T k).2.2.1 ∈ BW) (hdg : decode cc pc = .ok (.getfield index, 3))
    (kk : W p l e R s m args below meth c H locs cells slots Q (F0 m (pc + 3) ls (vl al iv rv t i k :: rest))) : W p l e R s m args below meth c H locs cells slots Q (F0 m pc ls (.ref (al.2 t i) :: rest)) := by
  obtain ⟨⟨hx, hb, hml, hown, hts⟩, hK⟩ := C
  have hO := (hU.1 t i hi).ob kp.1
  rw [kp.2] at hO
  have hP : va_P D vwCl [(al.2 t i, .inr (ci, (List.range N).map (vl al iv rv t i)))] H := by
    intro j q hq
    have hz : j < 1 := (List.getElem?_eq_some_iff.mp hq).1
    rw [show j = 0 by omega] at hq
    cases hq
    exact ⟨_, hc, hO.to (fun j hj => by simp [vp_V, hj])⟩
  exact va_get (D := D) (ci := ci) (v := vl al iv rv t i k) hx hb hts hin hown hK.1 hP 0 rfl hc k hk (hts _ hlink) (fun _ h => by rw [hT] at h; exact h) (by simp [hk]) hdg kk
theorem q_geti (C : Cx p s m args c cc nL own D cA) (hU : UW D cA sz al iv rv H) {t i k ci N index : Nat} {Cn : String} {T : u_T} (kp : (pt t).1 = some ci ∧ (pt t).2.1 = N) (hc : vwCl[ci]? = some (Cn, T, N)) (hin : ∀ w ∈ u_ws Cn T N, w ∈ BW) (hi : i < al.1 t) (hk : k < N) (hT : (T k).1 = Cn) (htg : (pt t).2.2.2 k = none)
    (hlink : Cond.fieldLink own index Cn (T k).2.1 (T k).2.2.1 ∈ BW) (hdg : decode cc pc = .ok (.getfield index, 3))
    (kk : ∀ x : Int32, x = iv t i k → W p l e R s m args below meth c H locs cells slots Q (F0 m (pc + 3) ls (.int x :: rest))) : W p l e R s m args below meth c H locs cells slots Q (F0 m pc ls (.ref (al.2 t i) :: rest)) :=
  q_getv C hU kp hc hin hi hk hT hlink hdg (by rw [vl_int htg]; exact kk _ rfl)
theorem q_getr (C : Cx p s m args c cc nL own D cA) (hU : UW D cA sz al iv rv H) {t i k t' ci N index : Nat} {Cn : String} {T : u_T} (kp : (pt t).1 = some ci ∧ (pt t).2.1 = N) (hc : vwCl[ci]? = some (Cn, T, N)) (hin : ∀ w ∈ u_ws Cn T N, w ∈ BW) (hi : i < al.1 t) (hk : k < N) (hT : (T k).1 = Cn) (htg : (pt t).2.2.2 k = some t')
    (hlink : Cond.fieldLink own index Cn (T k).2.1 (T k).2.2.1 ∈ BW) (hdg : decode cc pc = .ok (.getfield index, 3)) {j : Nat} (hr : rv t i k = some j)
    (kk : W p l e R s m args below meth c H locs cells slots Q (F0 m (pc + 3) ls (.ref (al.2 t' j) :: rest))) : W p l e R s m args below meth c H locs cells slots Q (F0 m pc ls (.ref (al.2 t i) :: rest)) :=
  q_getv C hU kp hc hin hi hk hT hlink hdg (by rw [vl_ref htg, hr]; exact kk)
theorem q_putv (C : Cx p s m args c cc nL own D cA) (hU : UW D cA sz al iv rv H) (hS : va_S (Aq sz) s.heap H locs) {iv' : Iv} {rv' : Rv} {t i k ci N index : Nat} {Cn : String} {T : u_T} (kp : (pt t).1 = some ci ∧ (pt t).2.1 = N) (hc : vwCl[ci]? = some (Cn, T, N)) (hin : ∀ w ∈ u_ws Cn T N, w ∈ BW)
    (ty0 : Nat → FieldType) (hty : ∀ k, k < N → parseFieldDescriptor (T k).2.2.1 = some (ty0 k)) (hnm : ∀ a, a < N → ∀ b, b < N → a ≠ b → (T a).2.1 ≠ (T b).2.1) (hi : i < al.1 t) (hk : k < N) (hT : (T k).1 = Cn) (hfin : (T k).2.2.2 = false ∨ ((T k).2.2.2 = true ∧ meth.name = "<init>" ∧ Cn = own))
    (hlink : Cond.fieldLink own index Cn (T k).2.1 (T k).2.2.1 ∈ BW) (hdg : decode cc pc = .ok (.putfield index, 3)) {v : Value} (hn : narrow (ty0 k) v = v) (hfit : fits (ty0 k) v = true)
    (hv1 : vl al iv' rv' t i = updV (vl al iv rv t i) k v) (hv2 : ∀ t' i', ¬ (t' = t ∧ i' = i) → ∀ j, vl al iv' rv' t' i' j = vl al iv rv t' i' j)
    (kk : ∀ (H1 : Heap) (locs1 : List Loc), UW D cA sz al iv' rv' H1 → va_S (Aq sz) s.heap H1 locs1 → W p l e R s m args below meth c H1 locs1 cells slots Q (F0 m (pc + 3) ls rest)) : W p l e R s m args below meth c H locs cells slots Q (F0 m pc ls (v :: .ref (al.2 t i) :: rest)) := by
  obtain ⟨⟨hx, hb, hml, hown, hts⟩, hK⟩ := C
  have hO := (hU.1 t i hi).ob kp.1
  rw [kp.2] at hO
  have hap := va_apart (own := own) hts hin ty0 hty hnm hK.1 hc
  obtain ⟨cell, q1, q2, q3, q4⟩ := hO
  obtain ⟨hSl, hfc, kC, hkC, hkind⟩ := hK.1.1 ci _ hc
  obtain ⟨cf, kf, fi, f, hif, hsl⟩ := hSl k hk
  have hst := (u_facts hfc hkC (u_lays hts hin hk) hif).1
  have fin : ∀ H' : Heap, H'[al.2 t i]? = some (cell.setSlot f.slot v) → H'.size = H.size → (∀ q, q ≠ al.2 t i → H'[q]? = H[q]?) → W p l e R s m args below meth c H' (locs ++ [⟨al.2 t i, f.slot⟩]) cells slots Q (F0 m (pc + 3) ls rest) := by
    intro H' e1 e2 e3
    refine kk H' _ (hU.wr hi ?_ e3 hv2) (hS.put e2 e3 (hU.2.2 t i hi))
    refine cellAt.ofOb kp.1 ?_
    rw [kp.2, hv1]
    rw [hsl] at e1
    exact ⟨_, e1, q2, q3, t_set q4 hap hk v⟩
  have hlay := hts _ (hin _ (u_in_lay hk))
  unfold u_lay at hlay
  have hsame : s.fieldFound? Cn (T k).2.1 (T k).2.2.1 = some (cf, kf, fi, f) := by rw [hT] at hif; exact hif
  rcases hfin with hf | ⟨hf, hin2, hdecl⟩
  · rw [if_neg (by rw [hf]; decide)] at hlay
    have h6 := u_store hfc hkC hkind hlay hif (hty k hk) hn hfit
    exact W.putK hx hb (f := f) ⟨hown, hts _ hlink, ⟨_, _, _, hsame⟩, hst⟩ (by rw [q2]; exact h6) q1 q3 (by rw [hsl]; exact k2_hasslot (q4 k hk)) rfl rfl hdg fin
  · rw [if_pos hf] at hlay
    have hcf : m.cls = cf := by
      obtain ⟨_, _, c', _, _, _, -, -, hf', -, -, -, hown2, -⟩ := Cond.laysFinal_spec hlay
      have e1 : c' = cf := by have := hif.symm.trans hf'; simp at this; exact this.1.symm
      rw [hT, hdecl] at hown2
      rw [← e1]; exact Option.some.inj (hown.symm.trans hown2)
    have h6 := u_fits hfc hkC hkind (Or.inr hlay) hif (hty k hk) hn hfit
    exact W.putFinK hx hb hown (hts _ hlink) hsame hst hcf hin2 (by rw [q2]; exact h6) q1 q3 (by rw [hsl]; exact k2_hasslot (q4 k hk)) rfl rfl hdg fin
theorem q_puti (C : Cx p s m args c cc nL own D cA) (hU : UW D cA sz al iv rv H) (hS : va_S (Aq sz) s.heap H locs) {t i k ci N index : Nat} {Cn : String} {T : u_T} (kp : (pt t).1 = some ci ∧ (pt t).2.1 = N) (hc : vwCl[ci]? = some (Cn, T, N)) (hin : ∀ w ∈ u_ws Cn T N, w ∈ BW)
    (ty0 : Nat → FieldType) (hty : ∀ k, k < N → parseFieldDescriptor (T k).2.2.1 = some (ty0 k)) (hnm : ∀ a, a < N → ∀ b, b < N → a ≠ b → (T a).2.1 ≠ (T b).2.1) (hi : i < al.1 t) (hk : k < N) (hT : (T k).1 = Cn) (hfin : (T k).2.2.2 = false ∨ ((T k).2.2.2 = true ∧ meth.name = "<init>" ∧ Cn = own)) (htg : (pt t).2.2.2 k = none)
    (hlink : Cond.fieldLink own index Cn (T k).2.1 (T k).2.2.1 ∈ BW) (hdg : decode cc pc = .ok (.putfield index, 3)) {x : Int32} (hn : narrow (ty0 k) (.int x) = .int x) (hfit : fits (ty0 k) (.int x) = true)
    (kk : ∀ (H1 : Heap) (locs1 : List Loc), UW D cA sz al (up3 iv t i k x) rv H1 → va_S (Aq sz) s.heap H1 locs1 → W p l e R s m args below meth c H1 locs1 cells slots Q (F0 m (pc + 3) ls rest)) : W p l e R s m args below meth c H locs cells slots Q (F0 m pc ls (.int x :: .ref (al.2 t i) :: rest)) :=
  q_putv C hU hS kp hc hin ty0 hty hnm hi hk hT hfin hlink hdg hn hfit (vl_up_int htg) vl_up_int_ne kk
theorem q_putr (C : Cx p s m args c cc nL own D cA) (hU : UW D cA sz al iv rv H) (hS : va_S (Aq sz) s.heap H locs) {t i k t' ci N index : Nat} {Cn : String} {T : u_T} (kp : (pt t).1 = some ci ∧ (pt t).2.1 = N) (hc : vwCl[ci]? = some (Cn, T, N)) (hin : ∀ w ∈ u_ws Cn T N, w ∈ BW)
    (ty0 : Nat → FieldType) (hty : ∀ k, k < N → parseFieldDescriptor (T k).2.2.1 = some (ty0 k)) (hnm : ∀ a, a < N → ∀ b, b < N → a ≠ b → (T a).2.1 ≠ (T b).2.1) (hi : i < al.1 t) (hk : k < N) (hT : (T k).1 = Cn) (hfin : (T k).2.2.2 = false ∨ ((T k).2.2.2 = true ∧ meth.name = "<init>" ∧ Cn = own)) (htg : (pt t).2.2.2 k = some t')
    (hlink : Cond.fieldLink own index Cn (T k).2.1 (T k).2.2.1 ∈ BW) (hdg : decode cc pc = .ok (.putfield index, 3)) {j : Nat} (hn : ∀ a, narrow (ty0 k) (.ref a) = .ref a) (hfit : ∀ a, fits (ty0 k) (.ref a) = true)
    (kk : ∀ (H1 : Heap) (locs1 : List Loc), UW D cA sz al iv (up3 rv t i k (some j)) H1 → va_S (Aq sz) s.heap H1 locs1 → W p l e R s m args below meth c H1 locs1 cells slots Q (F0 m (pc + 3) ls rest)) : W p l e R s m args below meth c H locs cells slots Q (F0 m pc ls (.ref (al.2 t' j) :: .ref (al.2 t i) :: rest)) :=
  q_putv C hU hS kp hc hin ty0 hty hnm hi hk hT hfin hlink hdg (hn _) (hfit _) (vl_up_ref htg) vl_up_ref_ne kk
end QR0
end
section
section QR1
variable {p : Program} {l : Launch} {e : Env} {R : Room} {s : State} {m : MethodId} {args : Array Value} {below : List Frame} {meth : Method} {c : Code} {H : Heap} {locs : List Loc} {cells slots : Nat} {Q : State → Prop}
variable {cc : ByteArray} {pc nL : Nat} {ls : Array Slot} {rest : List Value} {own : String} {D : va_G} {cA : FieldType → ClassId} {sz : Nat} {al : Al} {iv : Iv} {rv : Rv}
/-- an index in its row, by its number -/
theorem ix_in {x : Int32} {n : Nat} (h0 : 0 ≤ x.toInt) (h1 : x.toInt < n) : vp_in x n := vp_in_iff.mpr ⟨h0, h1⟩
theorem ix_nat {x : Int32} (h0 : 0 ≤ x.toInt) : ((x.toNatClampNeg : Nat) : Int) = x.toInt := by
  have : x.toNatClampNeg = x.toInt.toNat := rfl
  rw [this]; omega
theorem ix_lt {x : Int32} {n : Nat} (h : vp_in x n) : x.toNatClampNeg < n := Nat.not_le.mp fun q => h (Or.inr q)
theorem q_iald (C : Cx p s m args c cc nL own D cA) (hU : UW D cA sz al iv rv H) {t i N : Nat} (kp : (pt t).1 = none ∧ (pt t).2.1 = N ∧ (pt t).2.2.1 = .int) (htg : ∀ k, (pt t).2.2.2 k = none) (hi : i < al.1 t) {x : Int32} (hin : vp_in x N) (hdg : decode cc pc = .ok (.iaload, 1))
    (kk : ∀ y : Int32, y = iv t i x.toNatClampNeg → W p l e R s m args below meth c H locs cells slots Q (F0 m (pc + 1) ls (.int y :: rest))) : W p l e R s m args below meth c H locs cells slots Q (F0 m pc ls (.int x :: .ref (al.2 t i) :: rest)) := by
  obtain ⟨⟨hx, hb, hml, hown, hts⟩, hK⟩ := C
  have hO := (hU.1 t i hi).ar kp.1
  rw [kp.2.1, kp.2.2] at hO
  exact W.iald (v := .int (iv t i x.toNatClampNeg)) hx hb hO ((hK.2.1 .int (by decide)).1 N _) (fun q => by cases q) (by show ¬ (x < 0 ∨ (arrV _ _ _).slots.size ≤ _); rw [arrV_size]; exact hin) (by rw [arrV_read _ _ (ix_lt hin), vl_int (htg _)]) rfl rfl hdg (kk _ rfl)
theorem q_zald (C : Cx p s m args c cc nL own D cA) (hU : UW D cA sz al iv rv H) {t i N : Nat} (kp : (pt t).1 = none ∧ (pt t).2.1 = N ∧ (pt t).2.2.1 = .boolean) (htg : ∀ k, (pt t).2.2.2 k = none) (hi : i < al.1 t) {x : Int32} (hin : vp_in x N) (hdg : decode cc pc = .ok (.baload, 1))
    (kk : ∀ y : Int32, y = iv t i x.toNatClampNeg → W p l e R s m args below meth c H locs cells slots Q (F0 m (pc + 1) ls (.int y :: rest))) : W p l e R s m args below meth c H locs cells slots Q (F0 m pc ls (.int x :: .ref (al.2 t i) :: rest)) := by
  obtain ⟨⟨hx, hb, hml, hown, hts⟩, hK⟩ := C
  have hO := (hU.1 t i hi).ar kp.1
  rw [kp.2.1, kp.2.2] at hO
  exact W.zald (v := .int (iv t i x.toNatClampNeg)) hx hb hO ((hK.2.1 .boolean (by decide)).1 N _) (fun q => by cases q) (by show ¬ (x < 0 ∨ (arrV _ _ _).slots.size ≤ _); rw [arrV_size]; exact hin) (by rw [arrV_read _ _ (ix_lt hin), vl_int (htg _)]) rfl rfl hdg (kk _ rfl)
theorem q_aald (C : Cx p s m args c cc nL own D cA) (hU : UW D cA sz al iv rv H) {t i N t' : Nat} {ty : FieldType} (kp : (pt t).1 = none ∧ (pt t).2.1 = N ∧ (pt t).2.2.1 = ty) (hty : ty ∈ aty) (hrf : ty.isReference = true) (htg : ∀ k, (pt t).2.2.2 k = some t') (hi : i < al.1 t) {x : Int32} (hin : vp_in x N) (hdg : decode cc pc = .ok (.aaload, 1))
    (kk : ∀ r : Option Nat, r = rv t i x.toNatClampNeg → W p l e R s m args below meth c H locs cells slots Q (F0 m (pc + 1) ls (rfv al t' r :: rest))) : W p l e R s m args below meth c H locs cells slots Q (F0 m pc ls (.int x :: .ref (al.2 t i) :: rest)) := by
  obtain ⟨⟨hx, hb, hml, hown, hts⟩, hK⟩ := C
  have hO := (hU.1 t i hi).ar kp.1
  rw [kp.2.1, kp.2.2] at hO
  exact W.aald (v := rfv al t' (rv t i x.toNatClampNeg)) hx hb hO ((hK.2.1 ty hty).1 N _) hrf (fun q => by cases q) (by show ¬ (x < 0 ∨ (arrV _ _ _).slots.size ≤ _); rw [arrV_size]; exact hin) (by rw [arrV_read _ _ (ix_lt hin), vl_ref (htg _)]) rfl rfl hdg (kk _ rfl)
theorem q_alen (C : Cx p s m args c cc nL own D cA) (hU : UW D cA sz al iv rv H) {t i N : Nat} {ty : FieldType} {v : Int32} (kp : (pt t).1 = none ∧ (pt t).2.1 = N ∧ (pt t).2.2.1 = ty) (hty : ty ∈ aty) (hi : i < al.1 t) (hv : N.toInt32 = v) (hdg : decode cc pc = .ok (.arraylength, 1))
    (kk : W p l e R s m args below meth c H locs cells slots Q (F0 m (pc + 1) ls (.int v :: rest))) : W p l e R s m args below meth c H locs cells slots Q (F0 m pc ls (.ref (al.2 t i) :: rest)) := by
  obtain ⟨⟨hx, hb, hml, hown, hts⟩, hK⟩ := C
  have hO := (hU.1 t i hi).ar kp.1
  rw [kp.2.1, kp.2.2] at hO
  exact W.alen hx hb hO ((hK.2.1 ty hty).1 N _) (by rw [arrV_size]; exact hv) rfl rfl hdg kk
theorem q_iast (C : Cx p s m args c cc nL own D cA) (hU : UW D cA sz al iv rv H) (hS : va_S (Aq sz) s.heap H locs) {t i N : Nat} (kp : (pt t).1 = none ∧ (pt t).2.1 = N ∧ (pt t).2.2.1 = .int) (htg : ∀ k, (pt t).2.2.2 k = none) (hi : i < al.1 t) {x v : Int32} (hin : vp_in x N) (hdg : decode cc pc = .ok (.iastore, 1))
    (kk : ∀ (H1 : Heap) (locs1 : List Loc), UW D cA sz al (up3 iv t i x.toNatClampNeg v) rv H1 → va_S (Aq sz) s.heap H1 locs1 → W p l e R s m args below meth c H1 locs1 cells slots Q (F0 m (pc + 1) ls rest)) : W p l e R s m args below meth c H locs cells slots Q (F0 m pc ls (.int v :: .int x :: .ref (al.2 t i) :: rest)) := by
  obtain ⟨⟨hx, hb, hml, hown, hts⟩, hK⟩ := C
  have hO := (hU.1 t i hi).ar kp.1
  rw [kp.2.1, kp.2.2] at hO
  refine W.iast hx hb hO ((hK.2.1 .int (by decide)).1 N _) (fun q => by cases q) (by show ¬ (x < 0 ∨ (arrV _ _ _).slots.size ≤ _); rw [arrV_size]; exact hin) rfl rfl hdg fun H1 e1 z oq => ?_
  refine kk H1 _ (hU.wr hi (cellAt.ofAr kp.1 ?_) oq vl_up_int_ne) (hS.put z oq (hU.2.2 t i hi))
  rw [e1, kp.2.1, kp.2.2, vl_up_int (htg _), arrV_store]
theorem nz01 {v : Int32} (h0 : 0 ≤ v.toInt) (h1 : v.toInt ≤ 1) : narrow .boolean (.int v) = .int v ∧ fits .boolean (.int v) = true := by
  have h : v = 0 ∨ v = 1 := by
    rcases (show v.toInt = 0 ∨ v.toInt = 1 by omega) with h | h
    · left; exact (fa_eq _ _).mpr (by rw [h]; rfl)
    · right; exact (fa_eq _ _).mpr (by rw [h]; rfl)
  rcases h with rfl | rfl <;> exact ⟨by decide, by decide⟩
theorem q_zast (C : Cx p s m args c cc nL own D cA) (hU : UW D cA sz al iv rv H) (hS : va_S (Aq sz) s.heap H locs) {t i N : Nat} (kp : (pt t).1 = none ∧ (pt t).2.1 = N ∧ (pt t).2.2.1 = .boolean) (htg : ∀ k, (pt t).2.2.2 k = none) (hi : i < al.1 t) {x v : Int32} (hin : vp_in x N) (h0 : 0 ≤ v.toInt) (h1 : v.toInt ≤ 1) (hdg : decode cc pc = .ok (.bastore, 1))
    (kk : ∀ (H1 : Heap) (locs1 : List Loc), UW D cA sz al (up3 iv t i x.toNatClampNeg v) rv H1 → va_S (Aq sz) s.heap H1 locs1 → W p l e R s m args below meth c H1 locs1 cells slots Q (F0 m (pc + 1) ls rest)) : W p l e R s m args below meth c H locs cells slots Q (F0 m pc ls (.int v :: .int x :: .ref (al.2 t i) :: rest)) := by
  obtain ⟨⟨hx, hb, hml, hown, hts⟩, hK⟩ := C
  have hO := (hU.1 t i hi).ar kp.1
  rw [kp.2.1, kp.2.2] at hO
  refine W.zast hx hb hO ((hK.2.1 .boolean (by decide)).1 N _) (fun q => by cases q) (by show ¬ (x < 0 ∨ (arrV _ _ _).slots.size ≤ _); rw [arrV_size]; exact hin) rfl rfl hdg fun H1 e1 z oq => ?_
  refine kk H1 _ (hU.wr hi (cellAt.ofAr kp.1 ?_) oq vl_up_int_ne) (hS.put z oq (hU.2.2 t i hi))
  rw [e1, kp.2.1, kp.2.2, vl_up_int (htg _), arrV_store, (nz01 h0 h1).1]
theorem q_aast (C : Cx p s m args c cc nL own D cA) (hU : UW D cA sz al iv rv H) (hS : va_S (Aq sz) s.heap H locs) {t i N t' ci j : Nat} {q : vw_C} (kp : (pt t).1 = none ∧ (pt t).2.1 = N ∧ (pt t).2.2.1 = .object q.1) (hty : FieldType.object q.1 ∈ aty) (htg : ∀ k, (pt t).2.2.2 k = some t') (hi : i < al.1 t) (kp' : (pt t').1 = some ci) (hc : vwCl[ci]? = some q) (hj : j < al.1 t') {x : Int32} (hin : vp_in x N) (hdg : decode cc pc = .ok (.aastore, 1))
    (kk : ∀ (H1 : Heap) (locs1 : List Loc), UW D cA sz al iv (up3 rv t i x.toNatClampNeg (some j)) H1 → va_S (Aq sz) s.heap H1 locs1 → W p l e R s m args below meth c H1 locs1 cells slots Q (F0 m (pc + 1) ls rest)) : W p l e R s m args below meth c H locs cells slots Q (F0 m pc ls (.ref (al.2 t' j) :: .int x :: .ref (al.2 t i) :: rest)) := by
  obtain ⟨⟨hx, hb, hml, hown, hts⟩, hK⟩ := C
  have hO := (hU.1 t i hi).ar kp.1
  rw [kp.2.1, kp.2.2] at hO
  obtain ⟨cellV, g1, g2, g3, -⟩ := (hU.1 t' j hj).ob kp'
  have hcls := (hK.1.1 ci q hc).2
  obtain ⟨kA, comp, k1, k2, k3, -⟩ := (hK.2.1 _ hty).2
  have hcomp : comp = D.1 ci := Option.some.inj (k3.symm.trans hcls.1)
  subst hcomp
  obtain ⟨kC, hkC, -⟩ := hcls.2
  have hlt := ix_lt hin
  have h0 : ¬ x < 0 := fun q => hin (Or.inl q)
  refine W.aast hx hb hO (fun q h => by cases h) (fun h => by cases h) k1 k2 rfl hkC ⟨h0, by show _ < (arrV _ _ _).slots.size; rw [arrV_size]; exact hlt⟩ g1 (fun q h => by rw [g3] at h; cases h) (by rw [g2]; exact hkC) (by rw [g2]; exact va_assign hcls) rfl rfl hdg fun H1 e1 z oq => ?_
  refine kk H1 _ (hU.wr hi (cellAt.ofAr kp.1 ?_) oq vl_up_ref_ne) (hS.put z oq (hU.2.2 t i hi))
  rw [e1, kp.2.1, kp.2.2, vl_up_ref (htg _), arrV_store]
  rfl
-- branches, by numbers
theorem b_icmp_eq (hx : p.tables.exec = Jvm.exec) (hb : c.code = cc) {x y : Int32} {off : Int} {tgt : Nat} (hdg : decode cc pc = .ok (.if_icmp .eq off, 3)) (ht : (pc : Int) + off = (tgt : Int)) (kt : x.toInt = y.toInt → W p l e R s m args below meth c H locs cells slots Q (F0 m tgt ls rest)) (kf : ¬ x.toInt = y.toInt → W p l e R s m args below meth c H locs cells slots Q (F0 m (pc + 3) ls rest)) : W p l e R s m args below meth c H locs cells slots Q (F0 m pc ls (.int y :: .int x :: rest)) := lv_icmp_eq hx hb hdg ht (fun h => kt (by rw [h])) (fun h => kf (fun q => h ((fa_eq _ _).mpr q)))
theorem b_icmp_ne (hx : p.tables.exec = Jvm.exec) (hb : c.code = cc) {x y : Int32} {off : Int} {tgt : Nat} (hdg : decode cc pc = .ok (.if_icmp .ne off, 3)) (ht : (pc : Int) + off = (tgt : Int)) (kt : ¬ x.toInt = y.toInt → W p l e R s m args below meth c H locs cells slots Q (F0 m tgt ls rest)) (kf : x.toInt = y.toInt → W p l e R s m args below meth c H locs cells slots Q (F0 m (pc + 3) ls rest)) : W p l e R s m args below meth c H locs cells slots Q (F0 m pc ls (.int y :: .int x :: rest)) := lv_icmp_ne hx hb hdg ht (fun h => kt (fun q => h ((fa_eq _ _).mpr q))) (fun h => kf (by rw [h]))
theorem b_icmp_lt (hx : p.tables.exec = Jvm.exec) (hb : c.code = cc) {x y : Int32} {off : Int} {tgt : Nat} (hdg : decode cc pc = .ok (.if_icmp .lt off, 3)) (ht : (pc : Int) + off = (tgt : Int)) (kt : x.toInt < y.toInt → W p l e R s m args below meth c H locs cells slots Q (F0 m tgt ls rest)) (kf : y.toInt ≤ x.toInt → W p l e R s m args below meth c H locs cells slots Q (F0 m (pc + 3) ls rest)) : W p l e R s m args below meth c H locs cells slots Q (F0 m pc ls (.int y :: .int x :: rest)) := lv_icmp_lt hx hb hdg ht (fun h => kt ((fa_lt _ _).mp h)) (fun h => kf (Int.not_lt.mp (fun q => h ((fa_lt _ _).mpr q))))
theorem b_icmp_ge (hx : p.tables.exec = Jvm.exec) (hb : c.code = cc) {x y : Int32} {off : Int} {tgt : Nat} (hdg : decode cc pc = .ok (.if_icmp .ge off, 3)) (ht : (pc : Int) + off = (tgt : Int)) (kt : y.toInt ≤ x.toInt → W p l e R s m args below meth c H locs cells slots Q (F0 m tgt ls rest)) (kf : x.toInt < y.toInt → W p l e R s m args below meth c H locs cells slots Q (F0 m (pc + 3) ls rest)) : W p l e R s m args below meth c H locs cells slots Q (F0 m pc ls (.int y :: .int x :: rest)) := lv_icmp_ge hx hb hdg ht (fun h => kt ((fa_le _ _).mp h)) (fun h => kf (Int.not_le.mp (fun q => h ((fa_le _ _).mpr q))))
theorem b_icmp_gt (hx : p.tables.exec = Jvm.exec) (hb : c.code = cc) {x y : Int32} {off : Int} {tgt : Nat} (hdg : decode cc pc = .ok (.if_icmp .gt off, 3)) (ht : (pc : Int) + off = (tgt : Int)) (kt : y.toInt < x.toInt → W p l e R s m args below meth c H locs cells slots Q (F0 m tgt ls rest)) (kf : x.toInt ≤ y.toInt → W p l e R s m args below meth c H locs cells slots Q (F0 m (pc + 3) ls rest)) : W p l e R s m args below meth c H locs cells slots Q (F0 m pc ls (.int y :: .int x :: rest)) := lv_icmp_gt hx hb hdg ht (fun h => kt ((fa_lt _ _).mp h)) (fun h => kf (Int.not_lt.mp (fun q => h ((fa_lt _ _).mpr q))))
theorem b_icmp_le (hx : p.tables.exec = Jvm.exec) (hb : c.code = cc) {x y : Int32} {off : Int} {tgt : Nat} (hdg : decode cc pc = .ok (.if_icmp .le off, 3)) (ht : (pc : Int) + off = (tgt : Int)) (kt : x.toInt ≤ y.toInt → W p l e R s m args below meth c H locs cells slots Q (F0 m tgt ls rest)) (kf : y.toInt < x.toInt → W p l e R s m args below meth c H locs cells slots Q (F0 m (pc + 3) ls rest)) : W p l e R s m args below meth c H locs cells slots Q (F0 m pc ls (.int y :: .int x :: rest)) := lv_icmp_le hx hb hdg ht (fun h => kt ((fa_le _ _).mp h)) (fun h => kf (Int.not_le.mp (fun q => h ((fa_le _ _).mpr q))))
theorem b_if_eq (hx : p.tables.exec = Jvm.exec) (hb : c.code = cc) {x : Int32} {off : Int} {tgt : Nat} (hdg : decode cc pc = .ok (.ifCond .eq off, 3)) (ht : (pc : Int) + off = (tgt : Int)) (kt : x.toInt = 0 → W p l e R s m args below meth c H locs cells slots Q (F0 m tgt ls rest)) (kf : ¬ x.toInt = 0 → W p l e R s m args below meth c H locs cells slots Q (F0 m (pc + 3) ls rest)) : W p l e R s m args below meth c H locs cells slots Q (F0 m pc ls (.int x :: rest)) := lv_if_eq hx hb hdg ht (fun h => kt (by rw [h]; rfl)) (fun h => kf (fun q => h ((fa_eq _ _).mpr (by rw [q]; rfl))))
theorem b_if_ne (hx : p.tables.exec = Jvm.exec) (hb : c.code = cc) {x : Int32} {off : Int} {tgt : Nat} (hdg : decode cc pc = .ok (.ifCond .ne off, 3)) (ht : (pc : Int) + off = (tgt : Int)) (kt : ¬ x.toInt = 0 → W p l e R s m args below meth c H locs cells slots Q (F0 m tgt ls rest)) (kf : x.toInt = 0 → W p l e R s m args below meth c H locs cells slots Q (F0 m (pc + 3) ls rest)) : W p l e R s m args below meth c H locs cells slots Q (F0 m pc ls (.int x :: rest)) := lv_if_ne hx hb hdg ht (fun h => kt (fun q => h ((fa_eq _ _).mpr (by rw [q]; rfl)))) (fun h => kf (by rw [h]; rfl))
theorem b_if_lt (hx : p.tables.exec = Jvm.exec) (hb : c.code = cc) {x : Int32} {off : Int} {tgt : Nat} (hdg : decode cc pc = .ok (.ifCond .lt off, 3)) (ht : (pc : Int) + off = (tgt : Int)) (kt : x.toInt < 0 → W p l e R s m args below meth c H locs cells slots Q (F0 m tgt ls rest)) (kf : 0 ≤ x.toInt → W p l e R s m args below meth c H locs cells slots Q (F0 m (pc + 3) ls rest)) : W p l e R s m args below meth c H locs cells slots Q (F0 m pc ls (.int x :: rest)) := lv_if_lt hx hb hdg ht (fun h => kt ((fa_lt x 0).mp h)) (fun h => kf (Int.not_lt.mp (fun q => h ((fa_lt x 0).mpr q))))
theorem b_if_ge (hx : p.tables.exec = Jvm.exec) (hb : c.code = cc) {x : Int32} {off : Int} {tgt : Nat} (hdg : decode cc pc = .ok (.ifCond .ge off, 3)) (ht : (pc : Int) + off = (tgt : Int)) (kt : 0 ≤ x.toInt → W p l e R s m args below meth c H locs cells slots Q (F0 m tgt ls rest)) (kf : x.toInt < 0 → W p l e R s m args below meth c H locs cells slots Q (F0 m (pc + 3) ls rest)) : W p l e R s m args below meth c H locs cells slots Q (F0 m pc ls (.int x :: rest)) := lv_if_ge hx hb hdg ht (fun h => kt ((fa_le 0 x).mp h)) (fun h => kf (Int.not_le.mp (fun q => h ((fa_le 0 x).mpr q))))
theorem b_if_gt (hx : p.tables.exec = Jvm.exec) (hb : c.code = cc) {x : Int32} {off : Int} {tgt : Nat} (hdg : decode cc pc = .ok (.ifCond .gt off, 3)) (ht : (pc : Int) + off = (tgt : Int)) (kt : 0 < x.toInt → W p l e R s m args below meth c H locs cells slots Q (F0 m tgt ls rest)) (kf : x.toInt ≤ 0 → W p l e R s m args below meth c H locs cells slots Q (F0 m (pc + 3) ls rest)) : W p l e R s m args below meth c H locs cells slots Q (F0 m pc ls (.int x :: rest)) := lv_if_gt hx hb hdg ht (fun h => kt ((fa_lt 0 x).mp h)) (fun h => kf (Int.not_lt.mp (fun q => h ((fa_lt 0 x).mpr q))))
theorem b_if_le (hx : p.tables.exec = Jvm.exec) (hb : c.code = cc) {x : Int32} {off : Int} {tgt : Nat} (hdg : decode cc pc = .ok (.ifCond .le off, 3)) (ht : (pc : Int) + off = (tgt : Int)) (kt : x.toInt ≤ 0 → W p l e R s m args below meth c H locs cells slots Q (F0 m tgt ls rest)) (kf : 0 < x.toInt → W p l e R s m args below meth c H locs cells slots Q (F0 m (pc + 3) ls rest)) : W p l e R s m args below meth c H locs cells slots Q (F0 m pc ls (.int x :: rest)) := lv_if_le hx hb hdg ht (fun h => kt ((fa_le x 0).mp h)) (fun h => kf (Int.not_le.mp (fun q => h ((fa_le x 0).mpr q))))
theorem b_table (hx : p.tables.exec = Jvm.exec) (hb : c.code = cc) {dflt lo hi : Int} {offs : Array Int} {len : Nat} {x : Int32} (hdg : decode cc pc = .ok (.tableswitch dflt lo hi offs, len)) (dt : Nat) (hd : (pc : Int) + dflt = (dt : Int)) (tg : List Nat) (hlen : hi + 1 - lo = tg.length) (ho : ∀ j : Nat, j < tg.length → ∃ off t, offs[j]? = some off ∧ tg[j]? = some t ∧ (pc : Int) + off = (t : Int))
    (kd : (x.toInt < lo ∨ hi < x.toInt) → W p l e R s m args below meth c H locs cells slots Q (F0 m dt ls rest)) (kt : ∀ (j t : Nat), tg[j]? = some t → x.toInt = lo + j → W p l e R s m args below meth c H locs cells slots Q (F0 m t ls rest)) : W p l e R s m args below meth c H locs cells slots Q (F0 m pc ls (.int x :: rest)) := by
  by_cases h : x.toInt < lo ∨ hi < x.toInt
  · exact lv_tableOut hx hb hdg h hd (kd h)
  · have h1 : ¬ x.toInt < lo := fun q => h (Or.inl q)
    have h2 : ¬ hi < x.toInt := fun q => h (Or.inr q)
    obtain ⟨off, t, e1, e2, e3⟩ := ho (x.toInt - lo).toNat (by omega)
    exact lv_tableIn hx hb hdg h1 h2 e1 e3 (kt _ t e2 (by omega))
-- null or not
theorem b_ifnull (hx : p.tables.exec = Jvm.exec) (hb : c.code = cc) {t' : Nat} {r : Option Nat} {off : Int} {tgt : Nat} (hdg : decode cc pc = .ok (.ifnull off, 3)) (ht : (pc : Int) + off = (tgt : Int)) (kt : r = none → W p l e R s m args below meth c H locs cells slots Q (F0 m tgt ls rest)) (kf : ∀ j, r = some j → W p l e R s m args below meth c H locs cells slots Q (F0 m (pc + 3) ls rest)) : W p l e R s m args below meth c H locs cells slots Q (F0 m pc ls (rfv al t' r :: rest)) := by
  cases r with
  | none => exact lv_ifnullN hx hb hdg ht (kt rfl)
  | some j => exact lv_ifnull hx hb hdg (kf j rfl)
theorem b_ifnonnull (hx : p.tables.exec = Jvm.exec) (hb : c.code = cc) {t' : Nat} {r : Option Nat} {off : Int} {tgt : Nat} (hdg : decode cc pc = .ok (.ifnonnull off, 3)) (ht : (pc : Int) + off = (tgt : Int)) (kt : ∀ j, r = some j → W p l e R s m args below meth c H locs cells slots Q (F0 m tgt ls rest)) (kf : r = none → W p l e R s m args below meth c H locs cells slots Q (F0 m (pc + 3) ls rest)) : W p l e R s m args below meth c H locs cells slots Q (F0 m pc ls (rfv al t' r :: rest)) := by
  cases r with
  | none => exact lv_ifnonnullN hx hb hdg (kf rfl)
  | some j => exact lv_ifnonnull hx hb hdg ht (kt j rfl)
theorem b_acmp_ne (hx : p.tables.exec = Jvm.exec) (hb : c.code = cc) (hU : UW D cA sz al iv rv H) {t i j : Nat} (hi : i < al.1 t) (hj : j < al.1 t) {off : Int} {tgt : Nat} (hdg : decode cc pc = .ok (.if_acmp .ne off, 3)) (ht : (pc : Int) + off = (tgt : Int)) (kt : ¬ i = j → W p l e R s m args below meth c H locs cells slots Q (F0 m tgt ls rest)) (kf : i = j → W p l e R s m args below meth c H locs cells slots Q (F0 m (pc + 3) ls rest)) : W p l e R s m args below meth c H locs cells slots Q (F0 m pc ls (.ref (al.2 t j) :: .ref (al.2 t i) :: rest)) :=
  lv_acmp_ne (rx := some (al.2 t i)) (ry := some (al.2 t j)) hx hb hdg ht (fun h => kt (fun q => h (by rw [q]))) (fun h => kf (hU.2.1 t i t j hi hj (Option.some.inj h)).2)
-- returns
theorem q_iret {post : Int32 → Iv → Rv → Prop} (C : Cx p s m args c cc nL own D cA) (hr : meth.sig.returnType = some .int) (hlk : meth.locks = false) (hU : UW D cA sz al iv rv H) (hS : va_S (Aq sz) s.heap H locs) {r : Int32} (hp : post r iv rv) (hdg : decode cc pc = .ok (.ireturn, 1)) :
    W p l e R s m args below meth c H locs cells slots (MQ below (QI D cA sz al post) args s cells slots (Aq sz)) (F0 m pc ls [.int r]) :=
  W.iret C.1.1 C.1.2.1 hr (fun t ht hW => ⟨⟨r, iv, rv, rfl, hp, by rw [ht]; exact hU⟩, hS.F ht⟩) hS.2.2 hdg hlk
theorem q_zret {post : Int32 → Iv → Rv → Prop} (C : Cx p s m args c cc nL own D cA) (hr : meth.sig.returnType = some .boolean) (hlk : meth.locks = false) (hU : UW D cA sz al iv rv H) (hS : va_S (Aq sz) s.heap H locs) {r : Int32} (h0 : 0 ≤ r.toInt) (h1 : r.toInt ≤ 1) (hp : post r iv rv) (hdg : decode cc pc = .ok (.ireturn, 1)) :
    W p l e R s m args below meth c H locs cells slots (MQ below (QI D cA sz al post) args s cells slots (Aq sz)) (F0 m pc ls [.int r]) :=
  W.zret C.1.1 C.1.2.1 hr (nz01 h0 h1).1 (fun t ht hW => ⟨⟨r, iv, rv, rfl, hp, by rw [ht]; exact hU⟩, hS.F ht⟩) hS.2.2 hdg hlk
theorem q_vret {post : Iv → Rv → Prop} (C : Cx p s m args c cc nL own D cA) (hr : meth.sig.returnType = none) (hlk : meth.locks = false) (hU : UW D cA sz al iv rv H) (hS : va_S (Aq sz) s.heap H locs) (hp : post iv rv) (hdg : decode cc pc = .ok (.return_, 1)) :
    W p l e R s m args below meth c H locs cells slots (MQ below (QV D cA sz al post) args s cells slots (Aq sz)) (F0 m pc ls []) :=
  W.vret C.1.1 C.1.2.1 hr (fun t ht hW => ⟨⟨iv, rv, rfl, hp, by rw [ht]; exact hU⟩, hS.F ht⟩) hS.2.2 hdg hlk
theorem q_aret {post : Option Nat → Iv → Rv → Prop} {rt : FieldType} {t' : Nat} (C : Cx p s m args c cc nL own D cA) (hr : meth.sig.returnType = some rt) (hrt : (∃ n, rt = .object n) ∨ ∃ t, rt = .array t) (hlk : meth.locks = false) (hU : UW D cA sz al iv rv H) (hS : va_S (Aq sz) s.heap H locs) {r : Option Nat} (hp : post r iv rv) (hdg : decode cc pc = .ok (.areturn, 1)) :
    W p l e R s m args below meth c H locs cells slots (MQ below (QR D cA sz al t' post) args s cells slots (Aq sz)) (F0 m pc ls [rfv al t' r]) :=
  W.aret C.1.1 C.1.2.1 hr hrt (va_rf_or _) (fun t ht hW => ⟨⟨r, iv, rv, rfl, hp, by rw [ht]; exact hU⟩, hS.F ht⟩) hS.2.2 hdg hlk
-- a method
theorem mk_met {y : MethodName} {ret : Option FieldType} {rmm : Room} {vs : List Value} {Qc : Array Value → State → Outcome → State → Prop} {mc ms : Nat} (hy : plainName y.cls = true) (hn : (lg_sl vs).length ≤ nL) (ho : y.cls = own)
    (body : ∀ (p : Program) (e : Env) (s : State) (m : MethodId) (below : List Frame) (meth : Method) (c : Code) (ls : Array Slot), Cx p s m vs.toArray c cc nL own D cA → meth.sig.returnType = ret → meth.locks = false → meth.name = y.name → UW D cA sz al iv rv s.heap → va_S (Aq sz) s.heap s.heap [] → lv_has ls nL (lv_args 0 vs) → W p l e rmm s m vs.toArray below meth c s.heap [] 0 0 (MQ below Qc vs.toArray s mc ms (Aq sz)) (F0 m 0 ls [])) :
    Met l y (wd y cc nL ret) rmm (PcW D cA sz al iv rv vs) Qc mc ms (Aq sz) := by
  refine Met.ofW (cc := cc) (maxL := nL) (ret := ret) hy rfl ?_
  intro p e s m args below meth c s₁ B hml hv
  obtain ⟨rfl, hU, hK⟩ := hv
  have hts := atoms_spec (ws := wd y cc nL ret) B.pre
  have hl := lv_entry vs (n := nL) hn
  rw [lg_entry_eq]
  exact body p e s m below meth c _ ⟨⟨B.exec, B.bytes, hml, by rw [← ho]; exact findClass_of_methodNamed B.named, fun w h => hts w (List.mem_cons_of_mem _ h)⟩, hK⟩ B.returns B.notSynchronized (name_of_methodNamed B.named B.method).1 hU va_S.rf hl
-- calls
theorem cb_of {y : MethodName} {bytes : ByteArray} {maxL mc ms n index : Nat} {ret : Option FieldType} {rmm : Room} (hts : ∀ w ∈ BW, w.before args s = true) (hcode : Cond.code y bytes maxL ret ∈ BW) (hini : Cond.initialized y.cls ∈ BW) (hl : Cond.methodLink own index y ∈ BW) (hd : y.cls ≠ "java/lang/invoke/MethodHandle" ∧ y.cls ≠ "java/lang/invoke/VarHandle" ∧ (parseMethodDescriptor y.desc).map (fun d => d.parameters.length) = some n) (hrc : rmm.cells = mc) (hrs : rmm.slots = ms) (hR : rmm.frames + 1 ≤ R.frames ∧ 8 + (maxL + 11) + rmm.locals ≤ R.locals) :
    CallB R s args own index y bytes maxL ret (wd y bytes maxL ret) rmm mc ms n :=
  callB_of n hts (gdw hcode) rfl hrc hrs (hts _ hini) (hts _ hl) hd hR
theorem q_runV {y : MethodName} {bytes : ByteArray} {maxL mc ms n index t i ci : Nat} {ret : Option FieldType} {rmm : Room} {As : List Value} {q : vw_C} {Qc : Array Value → State → Outcome → State → Prop} {st : List Value} (C : Cx p s m args c cc nL own D cA) (hU : UW D cA sz al iv rv H)
    (hM : Met l y (wd y bytes maxL ret) rmm (PcW D cA sz al iv rv (.ref (al.2 t i) :: As)) Qc mc ms (Aq sz)) (vm : VM y bytes maxL ret n) (hl : Cond.methodLink own index y ∈ BW) (kp : (pt t).1 = some ci) (hc : vwCl[ci]? = some q) (hq : q.1 = y.cls) (hi : i < al.1 t) (hls : ls.size = nL) (hn : As.length = n) (hst : st = As.reverse ++ .ref (al.2 t i) :: rest)
    (hrm : (rest.map fun v => v.category).sum ≤ 8) (hdg : decode cc pc = .ok (.invokevirtual index, 3)) (hrc : rmm.cells = mc) (hrs : rmm.slots = ms) (hR : rmm.frames + 1 ≤ R.frames ∧ 8 + (maxL + 11) + rmm.locals ≤ R.locals) (hf : cells + mc ≤ R.cells ∧ slots + ms ≤ R.slots) :
    va_Run p l e R s m args below meth c H locs cells slots mc ms (F0 m pc ls st) rest (Qc (Value.ref (al.2 t i) :: As).toArray) (Aq sz) := by
  obtain ⟨v1, v2, v3, v4, v5⟩ := vm
  have hts := C.1.2.2.2.2
  have hK := C.2
  obtain ⟨cell, g1, g2, g3, -⟩ := (hU.1 t i hi).ob kp
  refine va_runV (C := y.cls) (As := As) (rest := rest) C.1 hM ⟨cb_of hts v1 v4 hl v5 hrc hrs hR, hts _ v2, hts _ v3⟩ ⟨PcW.blind, ⟨cell, g1, by rw [g3]; rfl, ?_⟩, fun U hH hW => ⟨rfl, by rw [hH]; exact hU, hK.warm hW⟩⟩ rfl hn hls hst (lv_room hrm) hdg hf
  rw [g2, ← hq]; exact (hK.1.1 ci q hc).2.1
theorem q_runI {y : MethodName} {bytes : ByteArray} {maxL mc ms n index b : Nat} {rmm : Room} {As : List Value} {Qc : Array Value → State → Outcome → State → Prop} {st : List Value} (C : Cx p s m args c cc nL own D cA) (hU : UW D cA sz al iv rv H)
    (hM : Met l y (wd y bytes maxL none) rmm (PcW D cA sz al iv rv (.ref b :: As)) Qc mc ms (Aq sz)) (hcode : Cond.code y bytes maxL none ∈ BW) (him : Cond.instanceMethod y ∈ BW) (hini : Cond.initialized y.cls ∈ BW) (hl : Cond.methodLink own index y ∈ BW) (hy1 : y.name = "<init>") (hd : y.cls ≠ "java/lang/invoke/MethodHandle" ∧ y.cls ≠ "java/lang/invoke/VarHandle" ∧ (parseMethodDescriptor y.desc).map (fun d => d.parameters.length) = some n) (hls : ls.size = nL) (hn : As.length = n) (hst : st = As.reverse ++ .ref b :: rest)
    (hrm : (rest.map fun v => v.category).sum ≤ 8) (hdg : decode cc pc = .ok (.invokespecial index, 3)) (hrc : rmm.cells = mc) (hrs : rmm.slots = ms) (hR : rmm.frames + 1 ≤ R.frames ∧ 8 + (maxL + 11) + rmm.locals ≤ R.locals) (hf : cells + mc ≤ R.cells ∧ slots + ms ≤ R.slots) :
    va_Run p l e R s m args below meth c H locs cells slots mc ms (F0 m pc ls st) rest (Qc (Value.ref b :: As).toArray) (Aq sz) := by
  have hts := C.1.2.2.2.2
  have hK := C.2
  exact va_runI (As := As) (rest := rest) C.1 hM ⟨cb_of hts hcode hini hl hd hrc hrs hR, hy1, hts _ him⟩ ⟨PcW.blind, fun U hH hW => ⟨rfl, by rw [hH]; exact hU, hK.warm hW⟩⟩ rfl hn hls hst (lv_room hrm) hdg hf
theorem q_runS {y : MethodName} {bytes : ByteArray} {maxL mc ms n index : Nat} {ret : Option FieldType} {rmm : Room} {As : List Value} {Qc : Array Value → State → Outcome → State → Prop} {st : List Value} (C : Cx p s m args c cc nL own D cA) (hU : UW D cA sz al iv rv H)
    (hM : Met l y (wd y bytes maxL ret) rmm (PcW D cA sz al iv rv As) Qc mc ms (Aq sz)) (sm : SM y bytes maxL ret n) (hl : Cond.methodLink own index y ∈ BW) (hls : ls.size = nL) (hn : As.length = n) (hst : st = As.reverse ++ rest)
    (hrm : (rest.map fun v => v.category).sum ≤ 8) (hdg : decode cc pc = .ok (.invokestatic index, 3)) (hrc : rmm.cells = mc) (hrs : rmm.slots = ms) (hR : rmm.frames + 1 ≤ R.frames ∧ 8 + (maxL + 11) + rmm.locals ≤ R.locals) (hf : cells + mc ≤ R.cells ∧ slots + ms ≤ R.slots) :
    va_Run p l e R s m args below meth c H locs cells slots mc ms (F0 m pc ls st) rest (Qc As.toArray) (Aq sz) := by
  obtain ⟨v1, v2, v4, v5⟩ := sm
  have hts := C.1.2.2.2.2
  have hK := C.2
  exact va_runS (As := As) (rest := rest) C.1 hM ⟨cb_of hts v1 v4 hl v5 hrc hrs hR, hts _ v2⟩ ⟨PcW.blind, fun U hH hW => ⟨rfl, by rw [hH]; exact hU, hK.warm hW⟩⟩ rfl hn hls hst (lv_room hrm) hdg hf
theorem q_runSN {y : MethodName} {bytes : ByteArray} {maxL mc ms n index : Nat} {ret : Option FieldType} {rmm : Room} {As : List Value} {Qc : Array Value → State → Outcome → State → Prop} {st : List Value} {host : String} (C : Cx p s m args c cc nL own D cA) (hU : UW D cA sz al iv rv H)
    (hM : Met l y (wd y bytes maxL ret) rmm (PcW D cA sz al iv rv As) Qc mc ms (Aq sz)) (sm : SM y bytes maxL ret n) (hl : va_Nw (.methodLinkNest own index y host) s) (hls : ls.size = nL) (hn : As.length = n) (hst : st = As.reverse ++ rest)
    (hrm : (rest.map fun v => v.category).sum ≤ 8) (hdg : decode cc pc = .ok (.invokestatic index, 3)) (hrc : rmm.cells = mc) (hrs : rmm.slots = ms) (hR : rmm.frames + 1 ≤ R.frames ∧ 8 + (maxL + 11) + rmm.locals ≤ R.locals) (hf : cells + mc ≤ R.cells ∧ slots + ms ≤ R.slots) :
    va_Run p l e R s m args below meth c H locs cells slots mc ms (F0 m pc ls st) rest (Qc As.toArray) (Aq sz) := by
  obtain ⟨v1, v2, v4, v5⟩ := sm
  have hts := C.1.2.2.2.2
  have hK := C.2
  exact va_runSN (As := As) (rest := rest) C.1 hM ⟨va_cnB n hts (gdw v1) rfl hrc hrs hl (hts _ v4) v5 hR, hts _ v2, trivial⟩ ⟨PcW.blind, fun U hH hW => ⟨rfl, by rw [hH]; exact hU, hK.warm hW⟩⟩ rfl hn hls hst (lv_room hrm) hdg hf
theorem q_ci {mc ms : Nat} {st : List Value} {a : Array Value} {post : Int32 → Iv → Rv → Prop} (hr : va_Run p l e R s m args below meth c H locs cells slots mc ms (F0 m pc ls st) rest (QI D cA sz al post a) (Aq sz)) (hS : va_S (Aq sz) s.heap H locs)
    (kk : ∀ (r : Int32) (iv' : Iv) (rv' : Rv) (H1 : Heap) (locs1 : List Loc), post r iv' rv' → UW D cA sz al iv' rv' H1 → va_S (Aq sz) s.heap H1 locs1 → W p l e R s m args below meth c H1 locs1 (cells + mc) (slots + ms) Q (F0 m (pc + 3) ls (.int r :: rest))) : W p l e R s m args below meth c H locs cells slots Q (F0 m pc ls st) := by
  intro T hT X
  obtain ⟨v, st₀, t, T', L, h0, X', hL, e1, e2, ⟨⟨r, iv', rv', hv, hp, hb⟩, hz, hk⟩, go⟩ := hr T hT X
  cases hv
  rw [h0] at hz hk
  obtain ⟨t2, a1, b1⟩ := kk r iv' rv' t.heap (locs ++ L) hp hb ⟨Nat.le_trans hS.1 hz, fun q h1 h2 => (hk q (Nat.lt_of_lt_of_le h1 hS.1) h2).trans (hS.2.1 q h1 h2), t_lL hS.2.2 hL⟩ T' e1 X'
  exact ⟨t2, go t2 a1, b1⟩
theorem q_cv {mc ms : Nat} {st : List Value} {a : Array Value} {post : Iv → Rv → Prop} (hr : va_Run p l e R s m args below meth c H locs cells slots mc ms (F0 m pc ls st) rest (QV D cA sz al post a) (Aq sz)) (hS : va_S (Aq sz) s.heap H locs)
    (kk : ∀ (iv' : Iv) (rv' : Rv) (H1 : Heap) (locs1 : List Loc), post iv' rv' → UW D cA sz al iv' rv' H1 → va_S (Aq sz) s.heap H1 locs1 → W p l e R s m args below meth c H1 locs1 (cells + mc) (slots + ms) Q (F0 m (pc + 3) ls rest)) : W p l e R s m args below meth c H locs cells slots Q (F0 m pc ls st) := by
  intro T hT X
  obtain ⟨v, st₀, t, T', L, h0, X', hL, e1, e2, ⟨⟨iv', rv', hv, hp, hb⟩, hz, hk⟩, go⟩ := hr T hT X
  cases hv
  rw [h0] at hz hk
  obtain ⟨t2, a1, b1⟩ := kk iv' rv' t.heap (locs ++ L) hp hb ⟨Nat.le_trans hS.1 hz, fun q h1 h2 => (hk q (Nat.lt_of_lt_of_le h1 hS.1) h2).trans (hS.2.1 q h1 h2), t_lL hS.2.2 hL⟩ T' e1 X'
  exact ⟨t2, go t2 a1, b1⟩
theorem q_cr {mc ms t' : Nat} {st : List Value} {a : Array Value} {post : Option Nat → Iv → Rv → Prop} (hr : va_Run p l e R s m args below meth c H locs cells slots mc ms (F0 m pc ls st) rest (QR D cA sz al t' post a) (Aq sz)) (hS : va_S (Aq sz) s.heap H locs)
    (kk : ∀ (r : Option Nat) (iv' : Iv) (rv' : Rv) (H1 : Heap) (locs1 : List Loc), post r iv' rv' → UW D cA sz al iv' rv' H1 → va_S (Aq sz) s.heap H1 locs1 → W p l e R s m args below meth c H1 locs1 (cells + mc) (slots + ms) Q (F0 m (pc + 3) ls (rfv al t' r :: rest))) : W p l e R s m args below meth c H locs cells slots Q (F0 m pc ls st) := by
  intro T hT X
  obtain ⟨v, st₀, t, T', L, h0, X', hL, e1, e2, ⟨⟨r, iv', rv', hv, hp, hb⟩, hz, hk⟩, go⟩ := hr T hT X
  cases hv
  rw [h0] at hz hk
  obtain ⟨t2, a1, b1⟩ := kk r iv' rv' t.heap (locs ++ L) hp hb ⟨Nat.le_trans hS.1 hz, fun q h1 h2 => (hk q (Nat.lt_of_lt_of_le h1 hS.1) h2).trans (hS.2.1 q h1 h2), t_lL hS.2.2 hL⟩ T' e1 X'
  exact ⟨t2, go t2 a1, b1⟩
end QR1
end
