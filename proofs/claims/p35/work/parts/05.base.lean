abbrev Iv : Type := Nat → Nat → Nat → Int32
abbrev Rv : Type := Nat → Nat → Nat → Option Nat
abbrev Al : Type := (Nat → Nat) × (Nat → Nat → Nat)
theorem fa_lt (a b : Int32) : a < b ↔ a.toInt < b.toInt := Int32.lt_iff_toInt_lt
theorem fa_le (a b : Int32) : a ≤ b ↔ a.toInt ≤ b.toInt := Int32.le_iff_toInt_le
theorem fa_eq (a b : Int32) : a = b ↔ a.toInt = b.toInt := Int32.toInt_inj.symm
theorem fb_rng (x : Int32) : -2147483648 ≤ x.toInt ∧ x.toInt < 2147483648 := by
  have h1 := Int32.le_toInt x
  have h2 := Int32.toInt_lt x
  omega
theorem fb_bmod {z : Int} (h1 : -2147483648 ≤ z) (h2 : z < 2147483648) : z.bmod (2 ^ 32) = z := by
  rw [Int.bmod_eq_of_le (by omega) (by omega)]
theorem fb_addI {x y : Int32} (h1 : -2147483648 ≤ x.toInt + y.toInt) (h2 : x.toInt + y.toInt < 2147483648) : (x + y).toInt = x.toInt + y.toInt := by
  rw [Int32.toInt_add, fb_bmod h1 h2]
theorem fb_subI {x y : Int32} (h1 : -2147483648 ≤ x.toInt - y.toInt) (h2 : x.toInt - y.toInt < 2147483648) : (x - y).toInt = x.toInt - y.toInt := by
  rw [Int32.toInt_sub, fb_bmod h1 h2]
theorem fb_mulI {x y : Int32} (h1 : -2147483648 ≤ x.toInt * y.toInt) (h2 : x.toInt * y.toInt < 2147483648) : (x * y).toInt = x.toInt * y.toInt := by
  rw [Int32.toInt_mul, fb_bmod h1 h2]
theorem fb_negI {x : Int32} (h : x.toInt ≠ -2147483648) : (-x).toInt = -x.toInt := by
  have := fb_rng x
  rw [Int32.toInt_neg, fb_bmod (by omega) (by omega)]
-- the store
def up3 {α : Type} (f : Nat → Nat → Nat → α) (t i k : Nat) (x : α) : Nat → Nat → Nat → α := fun t' i' k' => if t' = t ∧ i' = i ∧ k' = k then x else f t' i' k'
theorem up3_self {α : Type} (f : Nat → Nat → Nat → α) (t i k : Nat) (x : α) : up3 f t i k x t i k = x := by simp [up3]
theorem up3_ne {α : Type} {f : Nat → Nat → Nat → α} {t i k t' i' k' : Nat} {x : α} (h : ¬ (t' = t ∧ i' = i ∧ k' = k)) : up3 f t i k x t' i' k' = f t' i' k' := by simp only [up3, if_neg h]
def rfv (al : Al) (t' : Nat) (r : Option Nat) : Value := va_rf (r.map (al.2 t'))
def vl (al : Al) (iv : Iv) (rv : Rv) (t i k : Nat) : Value := match (pt t).2.2.2 k with
  | none => .int (iv t i k)
  | some t' => rfv al t' (rv t i k)
theorem vl_int {al : Al} {iv : Iv} {rv : Rv} {t i k : Nat} (h : (pt t).2.2.2 k = none) : vl al iv rv t i k = .int (iv t i k) := by simp only [vl, h]
theorem vl_ref {al : Al} {iv : Iv} {rv : Rv} {t i k t' : Nat} (h : (pt t).2.2.2 k = some t') : vl al iv rv t i k = rfv al t' (rv t i k) := by simp only [vl, h]
def cellAt (D : va_G) (cA : FieldType → ClassId) (t a : Nat) (V : Nat → Value) (H : Heap) : Prop := match (pt t).1 with
  | some ci => t_OB a (D.1 ci) (pt t).2.1 (D.2 ci) H V
  | none => H[a]? = some (arrV (cA (pt t).2.2.1) (pt t).2.1 V)
theorem cellAt.ob {D : va_G} {cA : FieldType → ClassId} {t a ci : Nat} {V : Nat → Value} {H : Heap} (h : (pt t).1 = some ci) (g : cellAt D cA t a V H) : t_OB a (D.1 ci) (pt t).2.1 (D.2 ci) H V := by
  simp only [cellAt, h] at g; exact g
theorem cellAt.ofOb {D : va_G} {cA : FieldType → ClassId} {t a ci : Nat} {V : Nat → Value} {H : Heap} (h : (pt t).1 = some ci) (g : t_OB a (D.1 ci) (pt t).2.1 (D.2 ci) H V) : cellAt D cA t a V H := by
  simp only [cellAt, h]; exact g
theorem cellAt.ar {D : va_G} {cA : FieldType → ClassId} {t a : Nat} {V : Nat → Value} {H : Heap} (h : (pt t).1 = none) (g : cellAt D cA t a V H) : H[a]? = some (arrV (cA (pt t).2.2.1) (pt t).2.1 V) := by
  simp only [cellAt, h] at g; exact g
theorem cellAt.ofAr {D : va_G} {cA : FieldType → ClassId} {t a : Nat} {V : Nat → Value} {H : Heap} (h : (pt t).1 = none) (g : H[a]? = some (arrV (cA (pt t).2.2.1) (pt t).2.1 V)) : cellAt D cA t a V H := by
  simp only [cellAt, h]; exact g
theorem cellAt.kept {D : va_G} {cA : FieldType → ClassId} {t a : Nat} {V : Nat → Value} {H H1 : Heap} (g : cellAt D cA t a V H) (h : H1[a]? = H[a]?) : cellAt D cA t a V H1 := by
  cases hp : (pt t).1 with
  | none => exact cellAt.ofAr hp (h.trans (g.ar hp))
  | some ci => exact cellAt.ofOb hp ((g.ob hp).kept h)
theorem cellAt.lt {D : va_G} {cA : FieldType → ClassId} {t a : Nat} {V : Nat → Value} {H : Heap} (g : cellAt D cA t a V H) : a < H.size := by
  cases hp : (pt t).1 with
  | none => exact (Array.getElem?_eq_some_iff.mp (g.ar hp)).1
  | some ci =>
    obtain ⟨cell, h, -⟩ := g.ob hp
    exact (Array.getElem?_eq_some_iff.mp h).1
def Aq (sz : Nat) : Nat → Prop := fun q => sz ≤ q
def UW (D : va_G) (cA : FieldType → ClassId) (sz : Nat) (al : Al) (iv : Iv) (rv : Rv) (H : Heap) : Prop :=
  (∀ t i, i < al.1 t → cellAt D cA t (al.2 t i) (vl al iv rv t i) H) ∧
  (∀ t i t' i', i < al.1 t → i' < al.1 t' → al.2 t i = al.2 t' i' → t = t' ∧ i = i') ∧
  (∀ t i, i < al.1 t → sz ≤ al.2 t i)
theorem UW.wr {D : va_G} {cA : FieldType → ClassId} {sz : Nat} {al : Al} {iv iv' : Iv} {rv rv' : Rv} {H H1 : Heap} (hU : UW D cA sz al iv rv H) {t i : Nat} (hi : i < al.1 t)
    (hc : cellAt D cA t (al.2 t i) (vl al iv' rv' t i) H1) (oq : ∀ q, q ≠ al.2 t i → H1[q]? = H[q]?)
    (hv : ∀ t' i', ¬ (t' = t ∧ i' = i) → ∀ k, vl al iv' rv' t' i' k = vl al iv rv t' i' k) : UW D cA sz al iv' rv' H1 := by
  refine ⟨fun t' i' h => ?_, hU.2.1, hU.2.2⟩
  by_cases e : t' = t ∧ i' = i
  · obtain ⟨rfl, rfl⟩ := e; exact hc
  · have h1 : vl al iv' rv' t' i' = vl al iv rv t' i' := funext (hv t' i' e)
    rw [h1]
    exact (hU.1 t' i' h).kept (oq _ (fun z => e (hU.2.1 t' i' t i h hi z)))
theorem vl_up_int {al : Al} {iv : Iv} {rv : Rv} {t i k : Nat} {x : Int32} (h : (pt t).2.2.2 k = none) : vl al (up3 iv t i k x) rv t i = updV (vl al iv rv t i) k (.int x) := by
  funext j
  by_cases hj : j = k
  · subst hj; rw [vl_int h]; simp [updV, up3]
  · simp only [updV, hj, if_false, vl, up3, and_false]
theorem vl_up_int_ne {al : Al} {iv : Iv} {rv : Rv} {t i k : Nat} {x : Int32} : ∀ t' i', ¬ (t' = t ∧ i' = i) → ∀ j, vl al (up3 iv t i k x) rv t' i' j = vl al iv rv t' i' j := by
  intro t' i' h j
  have e : up3 iv t i k x t' i' j = iv t' i' j := up3_ne (fun q => h ⟨q.1, q.2.1⟩)
  simp only [vl, e]
theorem vl_up_ref {al : Al} {iv : Iv} {rv : Rv} {t i k t' : Nat} {r : Option Nat} (h : (pt t).2.2.2 k = some t') : vl al iv (up3 rv t i k r) t i = updV (vl al iv rv t i) k (rfv al t' r) := by
  funext j
  by_cases hj : j = k
  · subst hj; rw [vl_ref h]; simp [updV, up3]
  · simp only [updV, hj, if_false, vl, up3, and_false]
theorem vl_up_ref_ne {al : Al} {iv : Iv} {rv : Rv} {t i k : Nat} {r : Option Nat} : ∀ t' i', ¬ (t' = t ∧ i' = i) → ∀ j, vl al iv (up3 rv t i k r) t' i' j = vl al iv rv t' i' j := by
  intro t' i' h j
  have e : up3 rv t i k r t' i' j = rv t' i' j := up3_ne (fun q => h ⟨q.1, q.2.1⟩)
  simp only [vl, e]
-- words
def BW : List Cond := lw_tbl.filter goodWord
theorem bw {w : Cond} (i : Nat) (h : lw_tbl[i]? = some w) (g : goodWord w = true) : w ∈ BW := List.mem_filter.mpr ⟨List.mem_of_getElem? h, g⟩
theorem bw_good {w : Cond} (h : w ∈ BW) : goodWord w = true := (List.mem_filter.mp h).2
theorem bw_tbl {w : Cond} (h : w ∈ BW) : w ∈ lw_tbl := (List.mem_filter.mp h).1
def wd (y : MethodName) (cc : ByteArray) (n : Nat) (ret : Option FieldType) : List Cond := Cond.code y cc n ret :: BW
theorem gdw {y : MethodName} {cc : ByteArray} {n : Nat} {ret : Option FieldType} (h : Cond.code y cc n ret ∈ BW) : GoodIn BW (wd y cc n ret) := fun w hw => by
  rcases List.mem_cons.mp hw with rfl | h'
  · exact ⟨h, good_of_word (bw_good h)⟩
  · exact ⟨h', good_of_word (bw_good h')⟩
def aty : List FieldType := [.int, .boolean, .object "LateClaims$Port", .object "LateClaims$Leg", .object "LateClaims$Ticket", .object "LateClaims$Claim", .array .int]
def KU (D : va_G) (cA : FieldType → ClassId) (U : State) : Prop := va_K D vwCl [] U ∧ (∀ ty ∈ aty, ArrOfT U (cA ty) ty ∧ va_RA U (cA ty) ty) ∧
  (va_AO "LateClaims$Port" U ∧ va_AO "LateClaims$Leg" U ∧ va_AO "LateClaims$Ticket" U ∧ va_AO "LateClaims$Claim" U) ∧
  (va_Nw (.methodLinkNest RX7 23 yX11_isOneOf RX11) U ∧ va_Nw (.methodLinkNest RX10 32 yX11_isOneOf RX11) U ∧ va_Nw (.methodLinkNest RX9 19 yX11_isOneOf RX11) U ∧ va_Nw (.methodLinkNest RX3 28 yX11_isOneOf RX11) U)
theorem KU.warm {D : va_G} {cA : FieldType → ClassId} {s U : State} (hW : s.WarmedH U.vm) (h : KU D cA s) : KU D cA U := by
  obtain ⟨h1, h2, ⟨a1, a2, a3, a4⟩, b1, b2, b3, b4⟩ := h
  exact ⟨h1.moved hW.alike, fun ty ht => ⟨arrOfT_moved hW.alike (h2 ty ht).1, (h2 ty ht).2.moved hW.alike⟩, ⟨a1.moved hW.alike, a2.moved hW.alike, a3.moved hW.alike, a4.moved hW.alike⟩, b1.warmM hW, b2.warmM hW, b3.warmM hW, b4.warmM hW⟩
theorem KU.calling {D : va_G} {cA : FieldType → ClassId} {U : State} (h : KU D cA U) (g : JFrame) (mk : MethodId) (a : Array Value) : KU D cA (U.calling g mk a) := by
  obtain ⟨h1, h2, ⟨a1, a2, a3, a4⟩, b1, b2, b3, b4⟩ := h
  have r : U.vm.Alike (U.calling g mk a).vm := Vm.Alike.refl U.vm
  exact ⟨h1.moved r, fun ty ht => ⟨arrOfT_moved r (h2 ty ht).1, (h2 ty ht).2.moved r⟩, ⟨a1.moved r, a2.moved r, a3.moved r, a4.moved r⟩, b1.same rfl rfl, b2.same rfl rfl, b3.same rfl rfl, b4.same rfl rfl⟩
def PcW (D : va_G) (cA : FieldType → ClassId) (sz : Nat) (al : Al) (iv : Iv) (rv : Rv) (vs : List Value) : Array Value → State → Prop := va_Pc vs (fun U => UW D cA sz al iv rv U.heap ∧ KU D cA U)
theorem PcW.blind {D : va_G} {cA : FieldType → ClassId} {sz : Nat} {al : Al} {iv : Iv} {rv : Rv} {vs : List Value} : FrameBlind (PcW D cA sz al iv rv vs) := fun a U g mk q => ⟨q.1, q.2.1, q.2.2.calling g mk a⟩
def QI (D : va_G) (cA : FieldType → ClassId) (sz : Nat) (al : Al) (post : Int32 → Iv → Rv → Prop) : Array Value → State → Outcome → State → Prop := fun _ st oc t =>
  (∃ (r : Int32) (iv : Iv) (rv : Rv), oc = .returned (some (.int r)) ∧ post r iv rv ∧ UW D cA sz al iv rv t.heap) ∧ va_F (Aq sz) st t
def QV (D : va_G) (cA : FieldType → ClassId) (sz : Nat) (al : Al) (post : Iv → Rv → Prop) : Array Value → State → Outcome → State → Prop := fun _ st oc t =>
  (∃ (iv : Iv) (rv : Rv), oc = .returned none ∧ post iv rv ∧ UW D cA sz al iv rv t.heap) ∧ va_F (Aq sz) st t
def QR (D : va_G) (cA : FieldType → ClassId) (sz : Nat) (al : Al) (t' : Nat) (post : Option Nat → Iv → Rv → Prop) : Array Value → State → Outcome → State → Prop := fun _ st oc t =>
  (∃ (r : Option Nat) (iv : Iv) (rv : Rv), oc = .returned (some (rfv al t' r)) ∧ post r iv rv ∧ UW D cA sz al iv rv t.heap) ∧ va_F (Aq sz) st t
/-- the fixed facts of a walk -/
def Cx (p : Program) (s : State) (m : MethodId) (args : Array Value) (c : Code) (cc : ByteArray) (nL : Nat) (own : String) (D : va_G) (cA : FieldType → ClassId) : Prop := CallFix p m c cc nL s args BW own ∧ KU D cA s
def rm (d : Nat) : Room := { frames := d, cells := 0, slots := 0, locals := 40 * d }
def rmA (d mc ms : Nat) : Room := { frames := d, cells := mc, slots := ms, locals := 40 * d }
def VM (y : MethodName) (bytes : ByteArray) (maxL : Nat) (ret : Option FieldType) (n : Nat) : Prop := Cond.code y bytes maxL ret ∈ BW ∧ Cond.instanceMethod y ∈ BW ∧ Cond.selects y.cls y y ∈ BW ∧ Cond.initialized y.cls ∈ BW ∧ (y.cls ≠ "java/lang/invoke/MethodHandle" ∧ y.cls ≠ "java/lang/invoke/VarHandle" ∧ (parseMethodDescriptor y.desc).map (fun d => d.parameters.length) = some n)
def SM (y : MethodName) (bytes : ByteArray) (maxL : Nat) (ret : Option FieldType) (n : Nat) : Prop := Cond.code y bytes maxL ret ∈ BW ∧ Cond.static y ∈ BW ∧ Cond.initialized y.cls ∈ BW ∧ (y.cls ≠ "java/lang/invoke/MethodHandle" ∧ y.cls ≠ "java/lang/invoke/VarHandle" ∧ (parseMethodDescriptor y.desc).map (fun d => d.parameters.length) = some n)
section QR0
variable {p : Program} {l : Launch} {e : Env} {R : Room} {s : State} {m : MethodId} {args : Array Value} {below : List Frame} {meth : Method} {c : Code} {H : Heap} {locs : List Loc} {cells slots : Nat} {Q : State → Prop}
variable {cc : ByteArray} {pc nL : Nat} {ls : Array Slot} {rest : List Value} {own : String} {D : va_G} {cA : FieldType → ClassId} {sz : Nat} {al : Al} {iv : Iv} {rv : Rv}
theorem q_getv (C : Cx p s m args c cc nL own D cA) (hU : UW D cA sz al iv rv H) {t i k ci N index : Nat} {Cn : String} {T : u_T} (kp : (pt t).1 = some ci ∧ (pt t).2.1 = N) (hc : vwCl[ci]? = some (Cn, T, N)) (hin : ∀ w ∈ u_ws Cn T N, w ∈ BW) (hi : i < al.1 t) (hk : k < N) (hT : (T k).1 = Cn)
    (hlink : Cond.fieldLink own index Cn (T k).2.1 (T k).2.2.1 ∈ BW) (hdg : decode cc pc = .ok (.getfield index, 3))
    (kk : W p l e R s m args below meth c H locs cells slots Q (F0 m (pc + 3) ls (vl al iv rv t i k :: rest))) : W p l e R s m args below meth c H locs cells slots Q (F0 m pc ls (.ref (al.2 t i) :: rest)) := by
  obtain ⟨⟨hx, hb, hml, hown, hts⟩, hK⟩ := C
  have hO := (hU.1 t i hi).ob kp.1
  rw [kp.2] at hO
  have hP : va_P D vwCl [(al.2 t i, .inr (ci, (List.range N).map (vl al iv rv t i)))] H := by
    intro j q hq
    have hz : j < 1 := (List.getElem?_eq_some_iff.mp hq).1
    rw [show j = 0 by omega] at hq
    cases hq
    exact ⟨_, hc, hO.to (fun j hj => by simp [vp_V, hj])⟩
  exact va_get (D := D) (ci := ci) (v := vl al iv rv t i k) hx hb hts hin hown hK.1 hP 0 rfl hc k hk (hts _ hlink) (fun _ h => by rw [hT] at h; exact h) (by simp [hk]) hdg kk
theorem q_geti (C : Cx p s m args c cc nL own D cA) (hU : UW D cA sz al iv rv H) {t i k ci N index : Nat} {Cn : String} {T : u_T} (kp : (pt t).1 = some ci ∧ (pt t).2.1 = N) (hc : vwCl[ci]? = some (Cn, T, N)) (hin : ∀ w ∈ u_ws Cn T N, w ∈ BW) (hi : i < al.1 t) (hk : k < N) (hT : (T k).1 = Cn) (htg : (pt t).2.2.2 k = none)
    (hlink : Cond.fieldLink own index Cn (T k).2.1 (T k).2.2.1 ∈ BW) (hdg : decode cc pc = .ok (.getfield index, 3))
    (kk : ∀ x : Int32, x = iv t i k → W p l e R s m args below meth c H locs cells slots Q (F0 m (pc + 3) ls (.int x :: rest))) : W p l e R s m args below meth c H locs cells slots Q (F0 m pc ls (.ref (al.2 t i) :: rest)) :=
  q_getv C hU kp hc hin hi hk hT hlink hdg (by rw [vl_int htg]; exact kk _ rfl)
theorem q_getr (C : Cx p s m args c cc nL own D cA) (hU : UW D cA sz al iv rv H) {t i k t' ci N index : Nat} {Cn : String} {T : u_T} (kp : (pt t).1 = some ci ∧ (pt t).2.1 = N) (hc : vwCl[ci]? = some (Cn, T, N)) (hin : ∀ w ∈ u_ws Cn T N, w ∈ BW) (hi : i < al.1 t) (hk : k < N) (hT : (T k).1 = Cn) (htg : (pt t).2.2.2 k = some t')
    (hlink : Cond.fieldLink own index Cn (T k).2.1 (T k).2.2.1 ∈ BW) (hdg : decode cc pc = .ok (.getfield index, 3)) {j : Nat} (hr : rv t i k = some j)
    (kk : W p l e R s m args below meth c H locs cells slots Q (F0 m (pc + 3) ls (.ref (al.2 t' j) :: rest))) : W p l e R s m args below meth c H locs cells slots Q (F0 m pc ls (.ref (al.2 t i) :: rest)) :=
  q_getv C hU kp hc hin hi hk hT hlink hdg (by rw [vl_ref htg, hr]; exact kk)
theorem q_putv (C : Cx p s m args c cc nL own D cA) (hU : UW D cA sz al iv rv H) (hS : va_S (Aq sz) s.heap H locs) {iv' : Iv} {rv' : Rv} {t i k ci N index : Nat} {Cn : String} {T : u_T} (kp : (pt t).1 = some ci ∧ (pt t).2.1 = N) (hc : vwCl[ci]? = some (Cn, T, N)) (hin : ∀ w ∈ u_ws Cn T N, w ∈ BW)
    (ty0 : Nat → FieldType) (hty : ∀ k, k < N → parseFieldDescriptor (T k).2.2.1 = some (ty0 k)) (hnm : ∀ a, a < N → ∀ b, b < N → a ≠ b → (T a).2.1 ≠ (T b).2.1) (hi : i < al.1 t) (hk : k < N) (hT : (T k).1 = Cn) (hfin : (T k).2.2.2 = false ∨ ((T k).2.2.2 = true ∧ meth.name = "<init>" ∧ Cn = own))
    (hlink : Cond.fieldLink own index Cn (T k).2.1 (T k).2.2.1 ∈ BW) (hdg : decode cc pc = .ok (.putfield index, 3)) {v : Value} (hn : narrow (ty0 k) v = v) (hfit : fits (ty0 k) v = true)
    (hv1 : vl al iv' rv' t i = updV (vl al iv rv t i) k v) (hv2 : ∀ t' i', ¬ (t' = t ∧ i' = i) → ∀ j, vl al iv' rv' t' i' j = vl al iv rv t' i' j)
    (kk : ∀ (H1 : Heap) (locs1 : List Loc), UW D cA sz al iv' rv' H1 → va_S (Aq sz) s.heap H1 locs1 → W p l e R s m args below meth c H1 locs1 cells slots Q (F0 m (pc + 3) ls rest)) : W p l e R s m args below meth c H locs cells slots Q (F0 m pc ls (v :: .ref (al.2 t i) :: rest)) := by
  obtain ⟨⟨hx, hb, hml, hown, hts⟩, hK⟩ := C
  have hO := (hU.1 t i hi).ob kp.1
  rw [kp.2] at hO
  have hap := va_apart (own := own) hts hin ty0 hty hnm hK.1 hc
  obtain ⟨cell, q1, q2, q3, q4⟩ := hO
  obtain ⟨hSl, hfc, kC, hkC, hkind⟩ := hK.1.1 ci _ hc
  obtain ⟨cf, kf, fi, f, hif, hsl⟩ := hSl k hk
  have hst := (u_facts hfc hkC (u_lays hts hin hk) hif).1
  have fin : ∀ H' : Heap, H'[al.2 t i]? = some (cell.setSlot f.slot v) → H'.size = H.size → (∀ q, q ≠ al.2 t i → H'[q]? = H[q]?) → W p l e R s m args below meth c H' (locs ++ [⟨al.2 t i, f.slot⟩]) cells slots Q (F0 m (pc + 3) ls rest) := by
    intro H' e1 e2 e3
    refine kk H' _ (hU.wr hi ?_ e3 hv2) (hS.put e2 e3 (hU.2.2 t i hi))
    refine cellAt.ofOb kp.1 ?_
    rw [kp.2, hv1]
    rw [hsl] at e1
    exact ⟨_, e1, q2, q3, t_set q4 hap hk v⟩
  have hlay := hts _ (hin _ (u_in_lay hk))
  unfold u_lay at hlay
  have hsame : s.fieldFound? Cn (T k).2.1 (T k).2.2.1 = some (cf, kf, fi, f) := by rw [hT] at hif; exact hif
  rcases hfin with hf | ⟨hf, hin2, hdecl⟩
  · rw [if_neg (by rw [hf]; decide)] at hlay
    have h6 := u_store hfc hkC hkind hlay hif (hty k hk) hn hfit
    exact W.putK hx hb (f := f) ⟨hown, hts _ hlink, ⟨_, _, _, hsame⟩, hst⟩ (by rw [q2]; exact h6) q1 q3 (by rw [hsl]; exact k2_hasslot (q4 k hk)) rfl rfl hdg fin
  · rw [if_pos hf] at hlay
    have hcf : m.cls = cf := by
      obtain ⟨_, _, c', _, _, _, -, -, hf', -, -, -, hown2, -⟩ := Cond.laysFinal_spec hlay
      have e1 : c' = cf := by have := hif.symm.trans hf'; simp at this; exact this.1.symm
      rw [hT, hdecl] at hown2
      rw [← e1]; exact Option.some.inj (hown.symm.trans hown2)
    have h6 := u_fits hfc hkC hkind (Or.inr hlay) hif (hty k hk) hn hfit
    exact W.putFinK hx hb hown (hts _ hlink) hsame hst hcf hin2 (by rw [q2]; exact h6) q1 q3 (by rw [hsl]; exact k2_hasslot (q4 k hk)) rfl rfl hdg fin
theorem q_puti (C : Cx p s m args c cc nL own D cA) (hU : UW D cA sz al iv rv H) (hS : va_S (Aq sz) s.heap H locs) {t i k ci N index : Nat} {Cn : String} {T : u_T} (kp : (pt t).1 = some ci ∧ (pt t).2.1 = N) (hc : vwCl[ci]? = some (Cn, T, N)) (hin : ∀ w ∈ u_ws Cn T N, w ∈ BW)
    (ty0 : Nat → FieldType) (hty : ∀ k, k < N → parseFieldDescriptor (T k).2.2.1 = some (ty0 k)) (hnm : ∀ a, a < N → ∀ b, b < N → a ≠ b → (T a).2.1 ≠ (T b).2.1) (hi : i < al.1 t) (hk : k < N) (hT : (T k).1 = Cn) (hfin : (T k).2.2.2 = false ∨ ((T k).2.2.2 = true ∧ meth.name = "<init>" ∧ Cn = own)) (htg : (pt t).2.2.2 k = none)
    (hlink : Cond.fieldLink own index Cn (T k).2.1 (T k).2.2.1 ∈ BW) (hdg : decode cc pc = .ok (.putfield index, 3)) {x : Int32} (hn : narrow (ty0 k) (.int x) = .int x) (hfit : fits (ty0 k) (.int x) = true)
    (kk : ∀ (H1 : Heap) (locs1 : List Loc), UW D cA sz al (up3 iv t i k x) rv H1 → va_S (Aq sz) s.heap H1 locs1 → W p l e R s m args below meth c H1 locs1 cells slots Q (F0 m (pc + 3) ls rest)) : W p l e R s m args below meth c H locs cells slots Q (F0 m pc ls (.int x :: .ref (al.2 t i) :: rest)) :=
  q_putv C hU hS kp hc hin ty0 hty hnm hi hk hT hfin hlink hdg hn hfit (vl_up_int htg) vl_up_int_ne kk
theorem q_putr (C : Cx p s m args c cc nL own D cA) (hU : UW D cA sz al iv rv H) (hS : va_S (Aq sz) s.heap H locs) {t i k t' ci N index : Nat} {Cn : String} {T : u_T} (kp : (pt t).1 = some ci ∧ (pt t).2.1 = N) (hc : vwCl[ci]? = some (Cn, T, N)) (hin : ∀ w ∈ u_ws Cn T N, w ∈ BW)
    (ty0 : Nat → FieldType) (hty : ∀ k, k < N → parseFieldDescriptor (T k).2.2.1 = some (ty0 k)) (hnm : ∀ a, a < N → ∀ b, b < N → a ≠ b → (T a).2.1 ≠ (T b).2.1) (hi : i < al.1 t) (hk : k < N) (hT : (T k).1 = Cn) (hfin : (T k).2.2.2 = false ∨ ((T k).2.2.2 = true ∧ meth.name = "<init>" ∧ Cn = own)) (htg : (pt t).2.2.2 k = some t')
    (hlink : Cond.fieldLink own index Cn (T k).2.1 (T k).2.2.1 ∈ BW) (hdg : decode cc pc = .ok (.putfield index, 3)) {j : Nat} (hn : ∀ a, narrow (ty0 k) (.ref a) = .ref a) (hfit : ∀ a, fits (ty0 k) (.ref a) = true)
    (kk : ∀ (H1 : Heap) (locs1 : List Loc), UW D cA sz al iv (up3 rv t i k (some j)) H1 → va_S (Aq sz) s.heap H1 locs1 → W p l e R s m args below meth c H1 locs1 cells slots Q (F0 m (pc + 3) ls rest)) : W p l e R s m args below meth c H locs cells slots Q (F0 m pc ls (.ref (al.2 t' j) :: .ref (al.2 t i) :: rest)) :=
  q_putv C hU hS kp hc hin ty0 hty hnm hi hk hT hfin hlink hdg (hn _) (hfit _) (vl_up_ref htg) vl_up_ref_ne kk
end QR0
