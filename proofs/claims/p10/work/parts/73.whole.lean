def R_law : String := "LateClaimsLaw"
def lw_P (b : Addr) (xs : List Int32) (args : Array Value) (s : State) : Prop := args = #[.ref b] ∧ s.IntsAt b xs ∧ xs.length ≤ 3584 ∧ (Jvm.Cond.and given_1 narrow_1).before args s = true
def lw_Q (_ : Array Value) (s : State) (o : Outcome) (t : State) : Prop := o = .returned (some (.int 1)) ∧ Framed s o t [] 600000 7302250
def lw_Z (below : List Frame) (a : Array Value) (s : State) : State → Prop := fun t => ∃ o, t.status = .running ∧ Ended t below o ∧ lw_Q a s o t
/-- the law's own end, with 1 on the stack, nothing written that was there before, its room as the claim has it -/
theorem lw_ret {p : Program} {l : Launch} {e : Env} {s : State} {m : MethodId} {below : List Frame} {meth : Method} {c : Code} {b : Nat} (hx : p.tables.exec = Jvm.exec) (hb : c.code = code) (hr : meth.sig.returnType = ret) (hlocks : meth.locks = false) {pc : Nat} {H : Heap} {ls : Array Slot} (hdg : decode code pc = .ok (.ireturn, 1)) : W p l e room_1 s m #[Value.ref b] below meth c H [] 600000 7302250 (lw_Z below #[Value.ref b] s) (F0 m pc ls [.int 1]) := by
  intro T hT X
  obtain ⟨fs, hret, hrun, hended, hW, hframe⟩ := X.leave (v := some (.int 1)) (hlocks := hlocks) (fun h => by rw [hr] at h; cases h)
  have hmeth' : T.vm.method? m = some meth := X.method'
  refine ⟨T.setFrames fs, ?_, .returned (some (.int 1)), hrun, hended, rfl, ⟨_, rfl⟩, hW, hframe⟩
  jvm_step X.here [X.here.top, hx, hb, hdg, hmeth', hr, ret, narrow_b1]
  (try refine ⟨rfl, ?_⟩); (try refine ⟨rfl, ?_⟩)
  first | (intro acts; rw [hret _ acts rfl rfl rfl]) | rw [hret _ _ rfl rfl rfl]
  exact Steps.refl _
/-- what holds at the law's entry: the machine, the code, the tables' words (any of lw_tbl by 'hts w (by decide +kernel)'), the script of L ints xs at the cell b, what the Statement gives of the start (any of its parts by flat_of_before) -/
def lw_At (p : Program) (s : State) (m : MethodId) (meth : Method) (c : Code) (b L : Nat) (xs : Nat → Int32) : Prop :=
  p.tables.exec = Jvm.exec ∧ c.code = code ∧ meth.sig.returnType = ret ∧ c.maxLocals = 4 ∧ s.vm.findClass R_law = some m.cls ∧ (∀ w ∈ lw_tbl, w.before #[Value.ref b] s = true) ∧ va_X b L xs s s.heap ∧ b < s.heap.size ∧ meth.locks = false ∧ (Jvm.Cond.and given_1 narrow_1).before #[Value.ref b] s = true
set_option maxHeartbeats 4000000 in
set_option maxRecDepth 100000 in
theorem law_loop {p : Program} {l : Launch} {e : Env} {s : State} {m : MethodId} {below : List Frame} {meth : Method} {c : Code} {b L : Nat} {xs : Nat → Int32} {D : va_G} {cA : FieldType → ClassId} {ox om : Nat} (X : LX p s m c b L xs D cA) (hr : meth.sig.returnType = ret) (hlk : meth.locks = false) :
    ∀ (n : Nat) (i : Int32) (al : Al) (iv : Iv) (rv : Rv) (H : Heap) (locs : List Loc) (cells slots : Nat) (ls : Array Slot), lv_has ls 4 [(3, .int i), (2, .ref om), (1, .ref ox), (0, .ref b)] → 0 ≤ i.toInt → i.toInt ≤ 3584 → ((L : Int) - i.toInt).toNat < n → LSt ox om al iv rv → UW D cA s.heap.size al iv rv H → va_S (Aq s.heap.size) s.heap H locs → (cells + 3 * n ≤ 600000 ∧ slots + 16 * n ≤ 7302250) →
      W p l e room_1 s m #[Value.ref b] below meth c H locs cells slots (lw_Z below #[Value.ref b] s) (F0 m 18 ls []) := by
  have hx := X.1.1.1
  have hb := X.1.1.2.1
  have hbl := X.2.2.1
  have hL := X.2.2.2.2
  have hbA : ¬ Aq s.heap.size b := fun z => absurd hbl (Nat.not_lt.mpr z)
  have k7 : (7 : Int32).toInt = 7 := by decide
  have k63 : (63 : Int32).toInt = 63 := by decide
  have tL : (Int32.ofNat L).toInt = L := Int32.toInt_ofNat_small (by omega)
  intro n
  induction n with
  | zero =>
    intro i al iv rv H locs cells slots ls hl h0 h1 hm
    exact absurd hm (Nat.not_lt_zero _)
  | succ n ih =>
    intro i al iv rv H locs cells slots ls hl h0 h1 hm hQ hU hS hc
    refine lv_iload_n hx hb dL_law_18 rfl (lv_at hl 0 rfl) ?_
    refine lv_aload_n hx hb dL_law_19 rfl (lv_at hl 3 rfl) ?_
    refine va_slen (A := Aq s.heap.size) hx hb X.2.1 hbl hbA hS dL_law_20 ?_
    refine lv_bipush (v := 7) hx hb dL_law_21 (by decide) ?_
    refine lv_isub hx hb dL_law_23 ?_
    refine lv_topi (fun y ey => ?_)
    have ty : y.toInt = (Int32.ofNat L).toInt - (7 : Int32).toInt := by rw [ey]; exact fb_subI (by omega) (by omega)
    refine b_icmp_gt (tgt := 1481) hx hb dL_law_24 (by decide) (fun c0 => ?_) (fun c0 => ?_)
    · refine lv_iconst (v := 1) hx hb dL_law_1481 (by decide) ?_
      refine W.widen (k := 600000) (n := 7302250) (by omega) (by omega) ?_
      refine va_forget (fun q hq => hS.2.2 q hq) ?_
      exact lw_ret hx hb hr hlk dL_law_1482
    · have hh : 0 ≤ i.toInt ∧ i.toInt + 6 < L := ⟨h0, by omega⟩
      refine lv_aload_n hx hb dL_law_27 rfl (lv_at hl 3 rfl) ?_
      refine lv_iload_n hx hb dL_law_28 rfl (lv_at hl 0 rfl) ?_
      refine va_sld (A := Aq s.heap.size) hx hb X.2.1 hbl hbA hS (ix_in (by omega) (by omega)) dL_law_29 ?_
      refine lv_bipush (v := 63) hx hb dL_law_30 (by decide) ?_
      refine lv_iand hx hb dL_law_32 ?_
      refine lv_topi (fun x ex => ?_)
      have TL : ∀ (al' : Al) (iv' : Iv) (rv' : Rv) (H' : Heap) (locs' : List Loc), LSt ox om al' iv' rv' → UW D cA s.heap.size al' iv' rv' H' → va_S (Aq s.heap.size) s.heap H' locs' → W p l e room_1 s m #[Value.ref b] below meth c H' locs' (cells + 3) (slots + 16) (lw_Z below #[Value.ref b] s) (F0 m 1475 ls []) := by
        intro al' iv' rv' H' locs' hQ' hU' hS'
        obtain ⟨i2, e2⟩ : ∃ z : Int32, z = i + 7 := ⟨_, rfl⟩
        have t2 : i2.toInt = i.toInt + (7 : Int32).toInt := by rw [e2]; exact fb_addI (by omega) (by omega)
        refine lv_iinc (v := i2) (lv' := [(3, .int i2), (2, .ref om), (1, .ref ox), (0, .ref b)]) hx hb dL_law_1475 hl (k := 0) rfl (by rw [e2]; rfl) (by decide) rfl (fun ls hl => ?_)
        refine lv_goto (tgt := 18) hx hb dL_law_1478 (by decide) ?_
        exact ih i2 _ _ _ _ _ _ _ _ hl (by omega) (by omega) (by omega) hQ' hU' hS' ⟨by omega, by omega⟩
      refine b_table hx hb dL_law_33 1475 (by decide) [188, 211, 244, 287, 330, 353, 428, 471, 504, 537, 570, 619, 652, 685, 708, 741, 764, 787, 810, 833, 896, 965, 1008, 1041, 1084, 1107, 1140, 1183, 1226, 1259, 1282, 1295, 1386, 1419, 1452] (by decide) (fun j hj => ?_) (fun c1 => ?_) (fun j tt htt c1 => ?_)
      · match j, hj with
        | 0, _ => exact ⟨155, 188, by decide, by decide, by decide⟩
        | 1, _ => exact ⟨178, 211, by decide, by decide, by decide⟩
        | 2, _ => exact ⟨211, 244, by decide, by decide, by decide⟩
        | 3, _ => exact ⟨254, 287, by decide, by decide, by decide⟩
        | 4, _ => exact ⟨297, 330, by decide, by decide, by decide⟩
        | 5, _ => exact ⟨320, 353, by decide, by decide, by decide⟩
        | 6, _ => exact ⟨395, 428, by decide, by decide, by decide⟩
        | 7, _ => exact ⟨438, 471, by decide, by decide, by decide⟩
        | 8, _ => exact ⟨471, 504, by decide, by decide, by decide⟩
        | 9, _ => exact ⟨504, 537, by decide, by decide, by decide⟩
        | 10, _ => exact ⟨537, 570, by decide, by decide, by decide⟩
        | 11, _ => exact ⟨586, 619, by decide, by decide, by decide⟩
        | 12, _ => exact ⟨619, 652, by decide, by decide, by decide⟩
        | 13, _ => exact ⟨652, 685, by decide, by decide, by decide⟩
        | 14, _ => exact ⟨675, 708, by decide, by decide, by decide⟩
        | 15, _ => exact ⟨708, 741, by decide, by decide, by decide⟩
        | 16, _ => exact ⟨731, 764, by decide, by decide, by decide⟩
        | 17, _ => exact ⟨754, 787, by decide, by decide, by decide⟩
        | 18, _ => exact ⟨777, 810, by decide, by decide, by decide⟩
        | 19, _ => exact ⟨800, 833, by decide, by decide, by decide⟩
        | 20, _ => exact ⟨863, 896, by decide, by decide, by decide⟩
        | 21, _ => exact ⟨932, 965, by decide, by decide, by decide⟩
        | 22, _ => exact ⟨975, 1008, by decide, by decide, by decide⟩
        | 23, _ => exact ⟨1008, 1041, by decide, by decide, by decide⟩
        | 24, _ => exact ⟨1051, 1084, by decide, by decide, by decide⟩
        | 25, _ => exact ⟨1074, 1107, by decide, by decide, by decide⟩
        | 26, _ => exact ⟨1107, 1140, by decide, by decide, by decide⟩
        | 27, _ => exact ⟨1150, 1183, by decide, by decide, by decide⟩
        | 28, _ => exact ⟨1193, 1226, by decide, by decide, by decide⟩
        | 29, _ => exact ⟨1226, 1259, by decide, by decide, by decide⟩
        | 30, _ => exact ⟨1249, 1282, by decide, by decide, by decide⟩
        | 31, _ => exact ⟨1262, 1295, by decide, by decide, by decide⟩
        | 32, _ => exact ⟨1353, 1386, by decide, by decide, by decide⟩
        | 33, _ => exact ⟨1386, 1419, by decide, by decide, by decide⟩
        | 34, _ => exact ⟨1419, 1452, by decide, by decide, by decide⟩
        | q + 35, hq => exact absurd hq (by simp)
      · refine W.widen (k := cells + 3) (n := slots + 16) (by omega) (by omega) ?_
        exact TL al iv rv H locs hQ hU hS
      · match j, htt with
        | 0, htt =>
          cases htt
          exact law_0 X hl hh hQ hU hS ⟨by omega, by omega⟩ TL
        | 1, htt =>
          cases htt
          exact law_1 X hl hh hQ hU hS ⟨by omega, by omega⟩ TL
        | 2, htt =>
          cases htt
          exact law_2 X hl hh hQ hU hS ⟨by omega, by omega⟩ TL
        | 3, htt =>
          cases htt
          exact law_3 X hl hh hQ hU hS ⟨by omega, by omega⟩ TL
        | 4, htt =>
          cases htt
          exact law_4 X hl hh hQ hU hS ⟨by omega, by omega⟩ TL
        | 5, htt =>
          cases htt
          exact law_5 X hl hh hQ hU hS ⟨by omega, by omega⟩ TL
        | 6, htt =>
          cases htt
          exact law_6 X hl hh hQ hU hS ⟨by omega, by omega⟩ TL
        | 7, htt =>
          cases htt
          exact law_7 X hl hh hQ hU hS ⟨by omega, by omega⟩ TL
        | 8, htt =>
          cases htt
          exact law_8 X hl hh hQ hU hS ⟨by omega, by omega⟩ TL
        | 9, htt =>
          cases htt
          exact law_9 X hl hh hQ hU hS ⟨by omega, by omega⟩ TL
        | 10, htt =>
          cases htt
          exact law_10 X hl hh hQ hU hS ⟨by omega, by omega⟩ TL
        | 11, htt =>
          cases htt
          exact law_11 X hl hh hQ hU hS ⟨by omega, by omega⟩ TL
        | 12, htt =>
          cases htt
          exact law_12 X hl hh hQ hU hS ⟨by omega, by omega⟩ TL
        | 13, htt =>
          cases htt
          exact law_13 X hl hh hQ hU hS ⟨by omega, by omega⟩ TL
        | 14, htt =>
          cases htt
          exact law_14 X hl hh hQ hU hS ⟨by omega, by omega⟩ TL
        | 15, htt =>
          cases htt
          exact law_15 X hl hh hQ hU hS ⟨by omega, by omega⟩ TL
        | 16, htt =>
          cases htt
          exact law_16 X hl hh hQ hU hS ⟨by omega, by omega⟩ TL
        | 17, htt =>
          cases htt
          exact law_17 X hl hh hQ hU hS ⟨by omega, by omega⟩ TL
        | 18, htt =>
          cases htt
          exact law_18 X hl hh hQ hU hS ⟨by omega, by omega⟩ TL
        | 19, htt =>
          cases htt
          exact law_19 X hl hh hQ hU hS ⟨by omega, by omega⟩ TL
        | 20, htt =>
          cases htt
          exact law_20 X hl hh hQ hU hS ⟨by omega, by omega⟩ TL
        | 21, htt =>
          cases htt
          exact law_21 X hl hh hQ hU hS ⟨by omega, by omega⟩ TL
        | 22, htt =>
          cases htt
          exact law_22 X hl hh hQ hU hS ⟨by omega, by omega⟩ TL
        | 23, htt =>
          cases htt
          exact law_23 X hl hh hQ hU hS ⟨by omega, by omega⟩ TL
        | 24, htt =>
          cases htt
          exact law_24 X hl hh hQ hU hS ⟨by omega, by omega⟩ TL
        | 25, htt =>
          cases htt
          exact law_25 X hl hh hQ hU hS ⟨by omega, by omega⟩ TL
        | 26, htt =>
          cases htt
          exact law_26 X hl hh hQ hU hS ⟨by omega, by omega⟩ TL
        | 27, htt =>
          cases htt
          exact law_27 X hl hh hQ hU hS ⟨by omega, by omega⟩ TL
        | 28, htt =>
          cases htt
          exact law_28 X hl hh hQ hU hS ⟨by omega, by omega⟩ TL
        | 29, htt =>
          cases htt
          exact law_29 X hl hh hQ hU hS ⟨by omega, by omega⟩ TL
        | 30, htt =>
          cases htt
          exact law_30 X hl hh hQ hU hS ⟨by omega, by omega⟩ TL
        | 31, htt =>
          cases htt
          exact law_31 X hl hh hQ hU hS ⟨by omega, by omega⟩ TL
        | 32, htt =>
          cases htt
          exact law_32 X hl hh hQ hU hS ⟨by omega, by omega⟩ TL
        | 33, htt =>
          cases htt
          exact law_33 X hl hh hQ hU hS ⟨by omega, by omega⟩ TL
        | 34, htt =>
          cases htt
          exact law_34 X hl hh hQ hU hS ⟨by omega, by omega⟩ TL
        | q + 35, htt => simp at htt
set_option maxHeartbeats 4000000 in
set_option maxRecDepth 100000 in
theorem whole_start {p : Program} {e : Env} {s : State} {m : MethodId} {below : List Frame} {meth : Method} {c : Code} (l : Launch) {b L : Nat} {xs : Nat → Int32} (hL : L ≤ 3584) (C0 : lw_At p s m meth c b L xs) : W p l e room_1 s m #[Value.ref b] below meth c s.heap [] 0 0 (lw_Z below #[Value.ref b] s) (entryFrame m ([Value.ref b] : List Value).toArray 4) := by
  obtain ⟨hx, hb, hr, hml, hown, hts, hXs, hbl, hlk, hgv⟩ := C0
  obtain ⟨D, cA, hK⟩ := ku_start hts
  have hSX := sx_start hK hts (flat_of_before _ hgv)
  have hao := aoa_start hts
  have C : Cx p s m #[Value.ref b] c cL_law 4 RL D cA := ⟨⟨hx, hb, hml, hown, hBW hts⟩, hK⟩
  have X : LX p s m c b L xs D cA := ⟨C, hXs, hbl, hSX, hL⟩
  rw [lg_entry_eq]
  have hl := lv_entry [Value.ref b] (n := 4) (Nat.le_of_ble_eq_true rfl)
  generalize ((lg_sl [Value.ref b] ++ List.replicate (4 - (lg_sl [Value.ref b]).length) Slot.unset).toArray) = ls at hl ⊢
  have hl : lv_has ls 4 [(0, .ref b)] := hl
  have hS : va_S (Aq s.heap.size) s.heap s.heap [] := va_S.rf
  obtain ⟨al0, ea0⟩ : ∃ z : Al, z = (fun _ => 0, fun _ _ => 0) := ⟨_, rfl⟩
  obtain ⟨iv0, ei0⟩ : ∃ z : Iv, z = fun _ _ _ => 0 := ⟨_, rfl⟩
  obtain ⟨rv0, er0⟩ : ∃ z : Rv, z = fun _ _ _ => none := ⟨_, rfl⟩
  have z0 : ∀ t, al0.1 t = 0 := fun t => by rw [ea0]
  have n0 : ∀ t i, ¬ i < al0.1 t := fun t i h => by rw [z0] at h; exact Nat.not_lt_zero _ h
  have hU : UW D cA s.heap.size al0 iv0 rv0 s.heap := ⟨fun t i h => absurd h (n0 t i), fun t i _ _ h => absurd h (n0 t i), fun t i h => absurd h (n0 t i)⟩
  have hR0 : RG al0 iv0 := fun t i _ h => absurd h (n0 t i)
  have hB0 : RB al0 rv0 := fun t i _ _ h => absurd h (n0 t i)
  refine q_newo (t := 49) C hU hS hB0 (Nat.le_refl _) k_49 (hc := rfl) uwX11 tyX11 tyX11_ok (by decide +kernel) kl_L_7 ib_X11 iz_X11 (Nat.le_of_ble_eq_true rfl) (Nat.le_of_ble_eq_true rfl) dL_law_0 (fun a H hU hS hz => ?_)
  have hR1 := hR0.new 49 a
  have hB1 := hB0.new 49 a
  have hn1 := grow_new (al := al0) (t := 49) (a := a)
  rw [z0] at hU hR1 hB1 hn1
  obtain ⟨al1, ea1⟩ : ∃ z, z = grow al0 49 a := ⟨_, rfl⟩
  obtain ⟨iv1, ei1⟩ : ∃ z, z = clr iv0 49 0 0 := ⟨_, rfl⟩
  obtain ⟨rv1, er1⟩ : ∃ z, z = clr rv0 49 0 none := ⟨_, rfl⟩
  have c1 : ∀ t, al1.1 t = 0 + (if t = 49 then 1 else 0) := fun t => by rw [ea1, grow_ct, z0]
  have b1 : ∀ t i k, iv1 t i k = 0 := fun t i k => by
    rw [ei1, ei0]
    simp [clr]
  rw [← ea1, ← ei1, ← er1] at hU
  rw [← ea1, ← ei1] at hR1
  rw [← ea1, ← er1] at hB1
  rw [← ea1] at hn1
  have i49 : 0 < al1.1 49 := by rw [c1]; decide
  refine lv_dup hx hb dL_law_3 rfl ?_
  refine W.eq (g2 := F0 m 4 ls [.ref (al1.2 49 0), .ref a]) (by rw [hn1]) ?_
  refine q_cvA (q_runIA (n := 0) (b := al1.2 49 0) (As := []) (rest := [.ref a]) C hU hz (fun U hH hW => ⟨hao.moved hW.alike, hSX.to hS hH hW⟩) (fun U g mk a h => ⟨va_AOA.moved (Vm.Alike.refl U.vm) h.1, SX.calling U g mk a h.2⟩) (c_X11_init hR1 hB1 0 i49 (fun t h1 h2 => by rw [c1, if_neg (by omega)])) cw_X11_init im_X11_init iz_X11 ml_L_9 rfl (by decide +kernel) hl.1 rfl rfl (Nat.le_of_ble_eq_true rfl) dL_law_4 rfl rfl ⟨Nat.le_of_ble_eq_true rfl, Nat.le_of_ble_eq_true rfl⟩ ⟨Nat.le_of_ble_eq_true rfl, Nat.le_of_ble_eq_true rfl⟩) hS hz (fun al2 iv2 rv2 H locs hp hU hS hz => ?_)
  obtain ⟨hR2, hB2, E1, hN1, hZ, hP, hset, htod, hBF⟩ := hp
  have hn2 : al2.2 49 0 = a := by rw [E1.2.1 49 0 i49]; exact hn1
  have i49b : 0 < al2.1 49 := by rw [E1.1]; exact Nat.lt_add_right _ i49
  have z2 : al2.1 0 = 0 := by rw [E1.1, c1]; rfl
  refine lv_astore_n (lv' := [(1, .ref a), (0, .ref b)]) hx hb dL_law_7 rfl hl (by decide) rfl (fun ls hl => ?_)
  refine q_newo (t := 0) C hU hS hB2 hz k_0 (hc := rfl) uwX12 tyX12 tyX12_ok (by decide +kernel) kl_L_10 ib_X12 iz_X12 (Nat.le_of_ble_eq_true rfl) (Nat.le_of_ble_eq_true rfl) dL_law_8 (fun a2 H hU hS hz => ?_)
  have hR3 := hR2.new 0 a2
  have hB3 := hB2.new 0 a2
  have hn3 := grow_new (al := al2) (t := 0) (a := a2)
  rw [z2] at hU hR3 hB3 hn3
  obtain ⟨al3, ea3⟩ : ∃ z, z = grow al2 0 a2 := ⟨_, rfl⟩
  obtain ⟨iv3, ei3⟩ : ∃ z, z = clr iv2 0 0 0 := ⟨_, rfl⟩
  obtain ⟨rv3, er3⟩ : ∃ z, z = clr rv2 0 0 none := ⟨_, rfl⟩
  have c3 : ∀ t, al3.1 t = al2.1 t + (if t = 0 then 1 else 0) := fun t => by rw [ea3, grow_ct]
  have k3 : ∀ t i k, i < al2.1 t → iv3 t i k = iv2 t i k ∧ rv3 t i k = rv2 t i k := fun t i k q => by
    have w : ¬ (t = 0 ∧ i = 0) := fun z => by obtain ⟨rfl, rfl⟩ := z; rw [z2] at q; exact Nat.lt_irrefl _ q
    rw [ei3, er3, clr_ne w, clr_ne w]; exact ⟨rfl, rfl⟩
  have b3 : ∀ k, iv3 0 0 k = 0 := fun k => by rw [ei3]; exact clr_self
  rw [← ea3, ← ei3, ← er3] at hU
  rw [← ea3, ← ei3] at hR3
  rw [← ea3, ← er3] at hB3
  rw [← ea3] at hn3
  have i0 : 0 < al3.1 0 := by rw [c3]; simp
  have E11 : ∀ t, al2.1 t = al1.1 t + n11 t := fun t => E1.1 t
  have cz12 : ∀ t, 1 ≤ t → t ≤ 48 → al3.1 t = 0 := fun t h1 h2 => by
    rw [c3, if_neg (by omega), E11, c1, if_neg (by omega), n11_z t (by omega)]
  refine lv_dup hx hb dL_law_11 rfl ?_
  refine W.eq (g2 := F0 m 12 ls [.ref (al3.2 0 0), .ref a2]) (by rw [hn3]) ?_
  refine q_cvA (q_runIA (n := 0) (b := al3.2 0 0) (As := []) (rest := [.ref a2]) C hU hz (fun _ _ _ => trivial) (fun _ _ _ _ _ => trivial) (c_X12_init hR3 hB3 0 i0 cz12) cw_X12_init im_X12_init iz_X12 ml_L_12 rfl (by decide +kernel) hl.1 rfl rfl (Nat.le_of_ble_eq_true rfl) dL_law_12 rfl rfl ⟨Nat.le_of_ble_eq_true rfl, Nat.le_of_ble_eq_true rfl⟩ ⟨Nat.le_of_ble_eq_true rfl, Nat.le_of_ble_eq_true rfl⟩) hS hz (fun al4 iv4 rv4 H locs hp hU hS hz => ?_)
  obtain ⟨hR4, hB4, E2, hN2, hKV⟩ := hp
  obtain ⟨hG, zero⟩ := gi_start c1 E1 c3 b1 k3 b3 E2 hR4 hB4 hN1 hZ hP hN2
  have hom : al4.2 0 0 = a2 := by rw [E2.2.1 0 0 i0]; exact hn3
  have hox : al4.2 49 0 = a := by
    rw [E2.2.1 49 0 (by rw [c3]; exact Nat.lt_add_right _ i49b), ea3, grow_ad i49b]; exact hn2
  have cl4 : ∀ t i k, i < al2.1 t → ¬ MD m12 t k → iv4 t i k = iv2 t i k ∧ rv4 t i k = rv2 t i k := fun t i k h1 h2 => by
    have q := E2.2.2.1 t i k (by rw [c3]; exact Nat.lt_add_right _ h1) h2
    rw [q.1, q.2, (k3 t i k h1).1, (k3 t i k h1).2]; exact ⟨rfl, rfl⟩
  have p11 : ∀ t, 0 < n11 t → 0 < al2.1 t := fun t h => by have q := E11 t; omega
  have hset4 : ∀ k, iv4 50 0 k = fst4 k := fun k => by rw [(cl4 50 0 k (p11 50 (by decide +kernel)) (MD.no (by decide))).1]; exact hset k
  have hbar4 : ∀ k : Nat, k < 4 → iv4 80 0 k = 365 := fun k hk => by rw [(cl4 80 0 k hBF.1 (MD.no (by decide))).1]; exact hBF.2 k hk
  have htod4 : iv4 49 0 9 = 0 := by rw [(cl4 49 0 9 i49b (by decide)).1]; exact htod
  have hnum4 : ∀ k : Nat, k < 10 → (iv4 56 k 2).toInt = k := fun k hk => by rw [(cl4 56 k 2 (Nat.lt_of_lt_of_le hk hP.1.2.2) (by decide)).1]; exact (hP.2 k hk).2.2.2
  have hCset : Cset iv4 rv4 := by
    intro k hk
    have a := hset4 k
    have q : iv4 15 0 k = fst4 k := by
      have w := hKV.1
      match k, hk with
      | 0, _ => exact w (15, 0, 30) (by decide)
      | 1, _ => exact w (15, 1, 60) (by decide)
      | 2, _ => exact w (15, 2, 45) (by decide)
      | 3, _ => exact w (15, 3, 5) (by decide)
    rw [q, a]
  have hCbar : Cbar iv4 rv4 := by
    intro k hk
    rw [hKV.2 k hk, hbar4 k hk]
  have hCport : Cport iv4 rv4 := by
    intro k hk
    have q : (iv4 3 0 k).toInt = k := by
      have w := hKV.1
      match k, hk with
      | 0, _ => rw [w (3, 0, 0) (by decide)]; decide
      | 1, _ => rw [w (3, 1, 1) (by decide)]; decide
      | 2, _ => rw [w (3, 2, 2) (by decide)]; decide
      | 3, _ => rw [w (3, 3, 3) (by decide)]; decide
      | 4, _ => rw [w (3, 4, 4) (by decide)]; decide
      | 5, _ => rw [w (3, 5, 5) (by decide)]; decide
      | 6, _ => rw [w (3, 6, 6) (by decide)]; decide
      | 7, _ => rw [w (3, 7, 7) (by decide)]; decide
      | 8, _ => rw [w (3, 8, 8) (by decide)]; decide
      | 9, _ => rw [w (3, 9, 9) (by decide)]; decide
    have i6 : k < al4.1 56 := by rw [hG.2.2.1.2.1]; exact hk
    exact ⟨(fa_eq _ _).mpr (by rw [q]; exact (hnum4 k hk).symm), by rw [zero 4 0 k (h1_4 hG) (MD.no (by decide)) (MD.no (by decide)), zero 56 k 3 i6 (by decide) (by decide)]⟩
  have hClegn : Clegn iv4 rv4 := by
    unfold Clegn
    rw [zero 0 0 6 (h1_0 hG) (by decide) (by decide), zero 57 0 1 (h1_57 hG) (by decide) (by decide)]
  have hClegf : Clegf iv4 rv4 := by
    intro k hk
    rw [zero 57 0 1 (h1_57 hG) (by decide) (by decide)] at hk
    exact absurd hk (by rw [show (0 : Int32).toInt = 0 from by decide]; omega)
  have hClog : Clog iv4 rv4 := by
    have e2 := zero 57 0 1 (h1_57 hG) (by decide) (by decide)
    have tz : (0 : Int32).toInt = 0 := by decide
    refine ⟨fun k hk => ?_, fun k _ => ⟨zero 11 0 k (h1_11 hG) (MD.no (by decide)) (MD.no (by decide)), zero 12 0 k (h1_12 hG) (MD.no (by decide)) (MD.no (by decide)), zero 13 0 k (h1_13 hG) (MD.no (by decide)) (MD.no (by decide))⟩⟩
    rw [e2, tz] at hk; omega
  have hCrt : Crt iv4 rv4 := by
    intro k hk
    rw [zero 57 0 1 (h1_57 hG) (by decide) (by decide)] at hk
    exact absurd hk (by rw [show (0 : Int32).toInt = 0 from by decide]; omega)
  have hCtkn : Ctkn iv4 rv4 := by
    unfold Ctkn
    rw [zero 0 0 20 (h1_0 hG) (by decide) (by decide), zero 63 0 1 (h1_63 hG) (by decide) (by decide)]
  have hCtick : Ctick iv4 rv4 := by
    intro t ht
    rw [zero 63 0 1 (h1_63 hG) (by decide) (by decide)] at ht
    exact absurd ht (by rw [show (0 : Int32).toInt = 0 from by decide]; omega)
  have hCcau : Ccau iv4 rv4 := by
    have e2 := zero 57 0 1 (h1_57 hG) (by decide) (by decide)
    have tz : (0 : Int32).toInt = 0 := by decide
    refine ⟨fun k hk => ?_, fun k _ => zero 14 0 k (h1_14 hG) (MD.no (by decide)) (MD.no (by decide))⟩
    rw [e2, tz] at hk; omega
  have hRel : REL iv4 rv4 := ⟨hCset, hCbar, hCport, hClegn, hClegf, hClog, hCrt, hCtkn, hCtick, hCcau⟩
  refine lv_astore_n (lv' := [(2, .ref a2), (1, .ref a), (0, .ref b)]) hx hb dL_law_15 rfl hl (by decide) rfl (fun ls hl => ?_)
  refine lv_iconst (v := 0) hx hb dL_law_16 (by decide) ?_
  refine lv_istore_n (lv' := [(3, .int 0), (2, .ref a2), (1, .ref a), (0, .ref b)]) hx hb dL_law_17 rfl hl (by decide) rfl (fun ls hl => ?_)
  refine W.widen (k := 110) (n := 2985) (Nat.le_of_ble_eq_true rfl) (Nat.le_of_ble_eq_true rfl) ?_
  exact law_loop X hr hlk (L + 1) 0 al4 iv4 rv4 H locs 110 2985 ls hl (by decide) (by decide) (by rw [show (0 : Int32).toInt = 0 from by decide]; omega) ⟨hG, hox, hom, hRel⟩ hU hS ⟨by omega, by omega⟩
