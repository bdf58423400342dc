def va_AOA (t : FieldType) (U : State) : Prop := (Cond.arrayOver (.array t)).before #[] U = true
theorem va_AOA.use {t : FieldType} {A : Array Value} {U : State} (h : va_AOA t U) : (Cond.arrayOver (.array t)).before A U = true := h
/-- f, but v at every address of l -/
def vr_up {α : Type} (f : Nat → α) (l : List Nat) (v : α) : Nat → α := fun a => if a ∈ l then v else f a
theorem vr_up_in {α : Type} {f : Nat → α} {l : List Nat} {v : α} {a : Nat} (h : a ∈ l) : vr_up f l v a = v := if_pos h
theorem vr_up_ne {α : Type} {f : Nat → α} {l : List Nat} {v : α} {a : Nat} (h : a ∉ l) : vr_up f l v a = f a := if_neg h
theorem vr_rows {L l : List Nat} {f : Nat → va_E} {e : va_E} (h : ∀ a, a ∈ l → a ∉ L) : va_pl L f ++ l.map (fun a => (a, e)) = va_pl (L ++ l) (vr_up f l e) := by
  unfold va_pl
  rw [List.map_append]
  congr 1
  · apply List.map_congr_left
    intro a ha
    rw [vr_up_ne (fun q => h a q ha)]
  · apply List.map_congr_left
    intro a ha
    rw [vr_up_in ha]
theorem vr_lay {X rows : va_W} {x : Nat × va_E} {pl : va_W} {D : va_G} {cl : List vw_C} {H : Heap} (hP : va_P D cl (((X ++ pl) ++ [x]) ++ rows) H) : va_P D cl ((X ++ [x]) ++ (pl ++ rows)) H := by
  rw [List.append_assoc (X ++ pl)] at hP
  have h := va_P.swap hP
  rw [← List.append_assoc X] at h
  have h2 := va_P.swap h
  rw [List.append_assoc (X ++ [x])] at h2
  exact h2
theorem vr_layD {X rows : va_W} {x : Nat × va_E} {pl : va_W} {A : Nat → Prop} (hD : va_D A (((X ++ pl) ++ [x]) ++ rows)) : va_D A ((X ++ [x]) ++ (pl ++ rows)) := by
  rw [List.append_assoc (X ++ pl)] at hD
  have h := va_D.swap hD
  rw [← List.append_assoc X] at h
  have h2 := va_D.swap h
  rw [List.append_assoc (X ++ [x])] at h2
  exact h2
theorem vr_outer (c : ClassId) (N h0 : Nat) : ∀ i : Nat, Jvm.Free.Multi.outerC c N h0 i = arrV c N (fun j => va_rf (if j < i then some (h0 + 1 + j) else none))
  | 0 => by
    show ({ cls := c, slots := Array.replicate N .null, vm := .none } : Cell) = _
    rw [arrV_new]
    refine congrArg (arrV c N) (funext fun j => ?_)
    simp [va_rf]
  | i + 1 => by
    show (Jvm.Free.Multi.outerC c N h0 i).setSlot i (.ref (h0 + 1 + i)) = _
    rw [vr_outer c N h0 i, arrV_store]
    refine congrArg (arrV c N) (funext fun j => ?_)
    by_cases e : j = i
    · subst e
      simp [updV, va_rf]
    · by_cases h : j < i
      · simp [updV, e, h, Nat.lt_succ_of_lt h]
      · simp [updV, e, h, show ¬ j < i + 1 by omega]
section VGM
variable {p : Program} {l : Launch} {e : Env} {R : Room} {s : State} {m : MethodId} {args : Array Value} {below : List Frame} {meth : Method} {c : Code} {H : Heap} {locs : List Loc} {cells slots : Nat} {Q : State → Prop}
variable {cc : ByteArray} {pc : Nat} {ls : Array Slot} {rest : List Value} {D : va_G} {cl : List vw_C} {A : Nat → Prop} {a : Nat} {tys : List (ClassId × FieldType)} {ws : va_W} {H0 : Heap}
theorem va_mna {X : va_W} {L : List Nat} {f : Nat → va_E} {cc : ByteArray} (hexec : p.tables.exec = Jvm.exec) (hb : c.code = cc) {own : String} {index : Nat} {ty : FieldType} {cy : ClassId} (hown : s.vm.findClass own = some m.cls) (hclink : (Cond.classLink own index ("[" ++ (FieldType.array ty).toString)).before args s = true) (hover : va_AOA ty s) (harr : (Cond.arrayClass ty).before args s = true) (hcy : s.vm.findClass (FieldType.array ty).toString = some cy)
    (hK : va_K D cl tys s) (hP : va_P D cl (X ++ va_pl L f) H) (hD : va_D A (X ++ va_pl L f)) (hS : va_S A H0 H locs) (hA : ∀ q, H0.size ≤ q → A q) {n k : Int32} {N' K' : Nat} {z : vp_A} (hn : ¬ n < 0) (hk : ¬ k < 0) (hN : n.toNatClampNeg = N') (hM : k.toNatClampNeg = K')
    (hb1 : N' * 4 ≤ 536870912) (hb2 : K' * componentBytes ty ≤ 536870912) (hb3 : K' ≤ 536870912) (hdf : fits ty (defaultValue ty) = true) (hdd : (defaultValue ty).isDefault = true) (hcells : cells + (1 + N') ≤ R.cells) (hslots : slots + (N' + N' * K') ≤ R.slots) (hz : ∀ c : ClassId, Jvm.Free.Multi.innerC c K' (defaultValue ty) = vp_cell c z) (hdg : decode cc pc = .ok (.multianewarray index 2, 4))
    (kk : ∀ (q : Nat) (r : Nat → Nat) (cA : ClassId) (H1 : Heap), (∀ i j : Nat, i < N' → j < N' → r i = r j → i = j) → (∀ i : Nat, i < N' → r i ∉ L) → va_K D cl (tys ++ [(cA, .array ty)]) s →
      va_P D cl ((X ++ [(q, .inl (cA, N', .inr (.inr (.inr (.inr (fun i => if i < N' then some (r i) else none))))))]) ++ va_pl (L ++ (List.range N').map r) (vr_up f ((List.range N').map r) (.inl (cy, z)))) H1 → va_D A ((X ++ [(q, .inl (cA, N', .inr (.inr (.inr (.inr (fun i => if i < N' then some (r i) else none))))))]) ++ va_pl (L ++ (List.range N').map r) (vr_up f ((List.range N').map r) (.inl (cy, z)))) → va_S A H0 H1 locs →
      W p l e R s m args below meth c H1 locs (cells + 1 + N') (slots + N' + N' * K') Q (F0 m (pc + 4) ls (.ref q :: rest))) : W p l e R s m args below meth c H locs cells slots Q (F0 m pc ls (.int k :: .int n :: rest)) := by
  subst hN
  subst hM
  intro T hT Xs
  obtain ⟨vm₁, cA, comp, -, fA, fC, hO, -, X', step⟩ := Xs.multianewarray2F hexec hown hclink (va_AOA.use hover) harr (g := F0 m pc ls (.int k :: .int n :: rest)) rfl (by rw [hb]; exact hdg) rfl hn hk hb1 hb2 hb3 hdf hdd hcells hslots
  have ec : some cy = some comp := hcy.symm.trans fC
  cases ec
  generalize hF : Jvm.Free.Multi.fill (T.setVm vm₁) cA cy n.toNatClampNeg k.toNatClampNeg (defaultValue ty) n.toNatClampNeg = F at X' step
  have hTh : (T.setVm vm₁).heap = H := hT
  obtain ⟨f1, f2, -, -⟩ := Jvm.Free.Multi.fill_facts (T.setVm vm₁) cA cy n.toNatClampNeg k.toNatClampNeg (defaultValue ty) n.toNatClampNeg
  rw [hF, hTh] at f1 f2
  have hold : ∀ x : Nat, x < H.size → F.heap[x]? = H[x]? := fun x hx => by
    have := Jvm.Free.Multi.fill_old (T.setVm vm₁) cA cy n.toNatClampNeg k.toNatClampNeg (defaultValue ty) (a := x) (by rw [hTh]; exact hx) n.toNatClampNeg
    rw [hF, hTh] at this
    exact this
  have hrow : ∀ j : Nat, j < n.toNatClampNeg → F.heap[H.size + 1 + j]? = some (vp_cell cy z) := fun j hj => by
    have := Jvm.Free.Multi.fill_inner (T.setVm vm₁) cA cy n.toNatClampNeg k.toNatClampNeg (defaultValue ty) n.toNatClampNeg j hj
    rw [hF, hTh, hz] at this
    exact this
  have hout : Jvm.Free.Multi.outerC cA n.toNatClampNeg H.size n.toNatClampNeg = vp_cell cA (n.toNatClampNeg, .inr (.inr (.inr (.inr (fun i => if i < n.toNatClampNeg then some (H.size + 1 + i) else none))))) := by
    rw [vp_cell_q]
    exact vr_outer cA n.toNatClampNeg H.size n.toNatClampNeg
  rw [hout] at f2
  have hlt : ∀ a, a ∈ L → a < H.size := fun a ha => by
    obtain ⟨k9, hk9⟩ := va_pl_get (X := X) (f := f) ha
    exact (hP k9 _ hk9).lt
  have hnl : ∀ i : Nat, i < n.toNatClampNeg → H.size + 1 + i ∉ L := fun i _ h => by
    have := hlt _ h
    omega
  have hnm : ∀ a, a ∈ (List.range n.toNatClampNeg).map (fun i => H.size + 1 + i) → a ∉ L := fun a ha h => by
    obtain ⟨i, -, rfl⟩ := List.mem_map.mp ha
    have := hlt _ h
    omega
  have hP0 : va_P D cl (X ++ va_pl L f) F.heap := hP.kept (fun k9 x hx => hold x.1 ((hP k9 x hx).lt))
  have hP1 : va_P D cl ((X ++ va_pl L f) ++ [(H.size, .inl (cA, n.toNatClampNeg, .inr (.inr (.inr (.inr (fun i => if i < n.toNatClampNeg then some (H.size + 1 + i) else none))))))]) F.heap := hP0.app (fun k9 x hx => by
    have h0 : k9 < 1 := (List.getElem?_eq_some_iff.mp hx).1
    rw [show k9 = 0 by omega] at hx
    cases hx
    exact f2)
  have hP2 : va_P D cl (((X ++ va_pl L f) ++ [(H.size, .inl (cA, n.toNatClampNeg, .inr (.inr (.inr (.inr (fun i => if i < n.toNatClampNeg then some (H.size + 1 + i) else none))))))]) ++ ((List.range n.toNatClampNeg).map (fun i => H.size + 1 + i)).map (fun a => (a, .inl (cy, z)))) F.heap := hP1.app (fun k9 x hx => by
    obtain ⟨a, ha, rfl⟩ := List.mem_map.mp (List.mem_of_getElem? hx)
    obtain ⟨i, hi, rfl⟩ := List.mem_map.mp ha
    exact hrow i (List.mem_range.mp hi))
  have hD2 : va_D A (((X ++ va_pl L f) ++ [(H.size, .inl (cA, n.toNatClampNeg, .inr (.inr (.inr (.inr (fun i => if i < n.toNatClampNeg then some (H.size + 1 + i) else none))))))]) ++ ((List.range n.toNatClampNeg).map (fun i => H.size + 1 + i)).map (fun a => (a, .inl (cy, z)))) := by
    have hD1 := hD.push (e := .inl (cA, n.toNatClampNeg, .inr (.inr (.inr (.inr (fun i => if i < n.toNatClampNeg then some (H.size + 1 + i) else none)))))) hP rfl (hA _ hS.1)
    generalize hW1 : (X ++ va_pl L f) ++ [(H.size, .inl (cA, n.toNatClampNeg, .inr (.inr (.inr (.inr (fun i => if i < n.toNatClampNeg then some (H.size + 1 + i) else none))))))] = W1 at hD1 hP1 ⊢
    have hle : ∀ (k9 : Nat) (x : Nat × va_E), W1[k9]? = some x → x.1 ≤ H.size := fun k9 x hx => by
      rw [← hW1] at hx
      by_cases hl : k9 < (X ++ va_pl L f).length
      · rw [List.getElem?_append_left hl] at hx
        exact Nat.le_of_lt ((hP k9 x hx).lt)
      · rw [List.getElem?_append_right (by omega)] at hx
        have h0 : k9 - (X ++ va_pl L f).length < 1 := (List.getElem?_eq_some_iff.mp hx).1
        rw [show k9 - (X ++ va_pl L f).length = 0 by omega] at hx
        cases hx
        exact Nat.le_refl _
    have hr : ∀ (k9 : Nat) (x : Nat × va_E), (((List.range n.toNatClampNeg).map (fun i => H.size + 1 + i)).map (fun a => ((a, .inl (cy, z)) : Nat × va_E)))[k9]? = some x → x.1 = H.size + 1 + k9 := fun k9 x hx => by
      rw [List.getElem?_map, List.getElem?_map] at hx
      by_cases h9 : k9 < n.toNatClampNeg
      · rw [List.getElem?_range h9] at hx
        cases hx
        rfl
      · have hn0 : (List.range n.toNatClampNeg)[k9]? = none := List.getElem?_eq_none (by rw [List.length_range]; omega)
        rw [hn0] at hx
        cases hx
    refine ⟨fun i j x y hi hj hxy => ?_, fun k9 x hx => ?_⟩
    · by_cases h1 : i < W1.length <;> by_cases h2 : j < W1.length
      · rw [List.getElem?_append_left h1] at hi
        rw [List.getElem?_append_left h2] at hj
        exact hD1.1 i j x y hi hj hxy
      · rw [List.getElem?_append_left h1] at hi
        rw [List.getElem?_append_right (by omega)] at hj
        have := hle _ _ hi
        have := hr _ _ hj
        omega
      · rw [List.getElem?_append_right (by omega)] at hi
        rw [List.getElem?_append_left h2] at hj
        have := hle _ _ hj
        have := hr _ _ hi
        omega
      · rw [List.getElem?_append_right (by omega)] at hi hj
        have := hr _ _ hi
        have := hr _ _ hj
        omega
    · by_cases h1 : k9 < W1.length
      · rw [List.getElem?_append_left h1] at hx
        exact hD1.2 k9 x hx
      · rw [List.getElem?_append_right (by omega)] at hx
        have := hr _ _ hx
        exact hA _ (by have := hS.1; omega)
  have hAr : ArrOfT s cA (.array ty) := fun N9 z9 => by
    obtain ⟨-, k9, hk9, cm9, hkk9⟩ := (hO 0 0 0).1
    exact ⟨(fun q hq => by cases hq), k9, hk9, cm9, hkk9⟩
  have hK2 : va_K D cl (tys ++ [(cA, .array ty)]) s := ⟨hK.1, fun k9 x hx => by
    by_cases hl : k9 < tys.length
    · rw [List.getElem?_append_left hl] at hx
      exact hK.2 k9 x hx
    · rw [List.getElem?_append_right (by omega)] at hx
      have h0 : k9 - tys.length < 1 := (List.getElem?_eq_some_iff.mp hx).1
      rw [show k9 - tys.length = 0 by omega] at hx
      cases hx
      exact ⟨hAr, fA⟩⟩
  obtain ⟨t, a1, b1⟩ := kk H.size (fun i => H.size + 1 + i) cA F.heap (fun i j _ _ h => by have h9 : H.size + 1 + i = H.size + 1 + j := h; omega) hnl hK2 (by rw [← vr_rows hnm]; exact vr_lay hP2) (by rw [← vr_rows hnm]; exact vr_layD hD2) ⟨by rw [f1]; have := hS.1; omega, fun x h1 h2 => (hold x (Nat.lt_of_lt_of_le h1 hS.1)).trans (hS.2.1 x h1 h2), hS.2.2⟩ F rfl X'
  refine ⟨t, step t ?_, b1⟩
  have e : T.heap.size = H.size := by rw [hT]
  rw [e]
  exact a1
end VGM
def RX0 : String := "LateClaims$Bars"
def TX0 : u_T := fun k => match k with
  | 0 => ("LateClaims$Bars", "daysIn", "[I", true)
  | 1 => ("LateClaims$Bars", "stopLands", "[I", true)
  | 2 => ("LateClaims$Bars", "stopFroms", "[I", true)
  | 3 => ("LateClaims$Bars", "stopTos", "[I", true)
  | _ => ("LateClaims$Bars", "stops", "I", false)
def tyX0 : Nat → FieldType := fun k => match k with
  | 0 => .array .int
  | 1 => .array .int
  | 2 => .array .int
  | 3 => .array .int
  | _ => .int
abbrev wsX00 : List Cond := u_ws RX0 TX0 5
theorem nmX0 : ∀ a, a < 5 → ∀ b, b < 5 → a ≠ b → (TX0 a).2.1 ≠ (TX0 b).2.1 := by decide +kernel
theorem tyX0_ok : ∀ k, k < 5 → parseFieldDescriptor (TX0 k).2.2.1 = some (tyX0 k) := by decide +kernel
abbrev cX0_init : ByteArray := prog_2_method_1_code
def yX0_init : MethodName := ⟨RX0, "<init>", "()V"⟩
abbrev cX0_isFull : ByteArray := prog_2_method_2_code
def yX0_isFull : MethodName := ⟨RX0, "isFull", "()Z"⟩
abbrev cX0_addStop : ByteArray := prog_2_method_3_code
def yX0_addStop : MethodName := ⟨RX0, "addStop", "(III)I"⟩
abbrev cX0_daysThatRan : ByteArray := prog_2_method_4_code
def yX0_daysThatRan : MethodName := ⟨RX0, "daysThatRan", "(III)I"⟩
abbrev cX0_nextStop : ByteArray := prog_2_method_5_code
def yX0_nextStop : MethodName := ⟨RX0, "nextStop", "(II)I"⟩
def RX1 : String := "LateClaims$Cases"
def TX1 : u_T := fun k => match k with
  | 0 => ("LateClaims$Cases", "lands", "[I", true)
  | 1 => ("LateClaims$Cases", "causes", "[I", true)
  | 2 => ("LateClaims$Cases", "minutesLate", "[I", true)
  | 3 => ("LateClaims$Cases", "milesFlown", "[I", true)
  | 4 => ("LateClaims$Cases", "wins", "[Z", true)
  | 5 => ("LateClaims$Cases", "costs", "[I", true)
  | 6 => ("LateClaims$Cases", "size", "I", false)
  | 7 => ("LateClaims$Cases", "far", "[I", true)
  | 8 => ("LateClaims$Cases", "chosen", "I", false)
  | 9 => ("LateClaims$Cases", "chosenWon", "I", false)
  | _ => ("LateClaims$Cases", "chosenCost", "I", false)
def tyX1 : Nat → FieldType := fun k => match k with
  | 0 => .array .int
  | 1 => .array .int
  | 2 => .array .int
  | 3 => .array .int
  | 4 => .array .boolean
  | 5 => .array .int
  | 6 => .int
  | 7 => .array .int
  | 8 => .int
  | 9 => .int
  | _ => .int
abbrev wsX10 : List Cond := u_ws RX1 TX1 11
theorem nmX1 : ∀ a, a < 11 → ∀ b, b < 11 → a ≠ b → (TX1 a).2.1 ≠ (TX1 b).2.1 := by decide +kernel
theorem tyX1_ok : ∀ k, k < 11 → parseFieldDescriptor (TX1 k).2.2.1 = some (tyX1 k) := by decide +kernel
abbrev cX1_init : ByteArray := prog_3_method_1_code
def yX1_init : MethodName := ⟨RX1, "<init>", "()V"⟩
abbrev cX1_isFull : ByteArray := prog_3_method_2_code
def yX1_isFull : MethodName := ⟨RX1, "isFull", "()Z"⟩
abbrev cX1_add : ByteArray := prog_3_method_3_code
def yX1_add : MethodName := ⟨RX1, "add", "(IIIIZI)I"⟩
abbrev cX1_measure : ByteArray := prog_3_method_4_code
def yX1_measure : MethodName := ⟨RX1, "measure", "(IIII)V"⟩
abbrev cX1_choose : ByteArray := prog_3_method_5_code
def yX1_choose : MethodName := ⟨RX1, "choose", "(I)V"⟩
abbrev cX1_leastFar : ByteArray := prog_3_method_6_code
def yX1_leastFar : MethodName := ⟨RX1, "leastFar", "()I"⟩
abbrev cX1_goingOnTimesChosen : ByteArray := prog_3_method_7_code
def yX1_goingOnTimesChosen : MethodName := ⟨RX1, "goingOnTimesChosen", "(I)I"⟩
def RX2 : String := "LateClaims$Claim"
def TX2 : u_T := fun k => match k with
  | 0 => ("LateClaims$Claim", "ticket", "LLateClaims$Ticket;", true)
  | 1 => ("LateClaims$Claim", "day", "I", true)
  | 2 => ("LateClaims$Claim", "paid", "[I", true)
  | _ => ("LateClaims$Claim", "settled", "I", false)
def tyX2 : Nat → FieldType := fun k => match k with
  | 0 => .object "LateClaims$Ticket"
  | 1 => .int
  | 2 => .array .int
  | _ => .int
abbrev wsX20 : List Cond := u_ws RX2 TX2 4
theorem nmX2 : ∀ a, a < 4 → ∀ b, b < 4 → a ≠ b → (TX2 a).2.1 ≠ (TX2 b).2.1 := by decide +kernel
theorem tyX2_ok : ∀ k, k < 4 → parseFieldDescriptor (TX2 k).2.2.1 = some (tyX2 k) := by decide +kernel
abbrev cX2_init : ByteArray := prog_4_method_1_code
def yX2_init : MethodName := ⟨RX2, "<init>", "(LLateClaims$Ticket;I)V"⟩
abbrev cX2_partOf : ByteArray := prog_4_method_2_code
def yX2_partOf : MethodName := ⟨RX2, "partOf", "(II)I"⟩
def RX3 : String := "LateClaims$Claims"
def TX3 : u_T := fun k => match k with
  | 0 => ("LateClaims$Claims", "all", "[LLateClaims$Claim;", true)
  | 1 => ("LateClaims$Claims", "size", "I", false)
  | 2 => ("LateClaims$Claims", "balances", "[I", true)
  | _ => ("LateClaims$Claims", "parted", "[I", true)
def tyX3 : Nat → FieldType := fun k => match k with
  | 0 => .array (.object "LateClaims$Claim")
  | 1 => .int
  | 2 => .array .int
  | _ => .array .int
abbrev wsX30 : List Cond := u_ws RX3 TX3 4
theorem nmX3 : ∀ a, a < 4 → ∀ b, b < 4 → a ≠ b → (TX3 a).2.1 ≠ (TX3 b).2.1 := by decide +kernel
theorem tyX3_ok : ∀ k, k < 4 → parseFieldDescriptor (TX3 k).2.2.1 = some (tyX3 k) := by decide +kernel
abbrev cX3_init : ByteArray := prog_5_method_1_code
def yX3_init : MethodName := ⟨RX3, "<init>", "()V"⟩
abbrev cX3_isFull : ByteArray := prog_5_method_2_code
def yX3_isFull : MethodName := ⟨RX3, "isFull", "()Z"⟩
abbrev cX3_find : ByteArray := prog_5_method_3_code
def yX3_find : MethodName := ⟨RX3, "find", "(I)LLateClaims$Claim;"⟩
abbrev cX3_add : ByteArray := prog_5_method_4_code
def yX3_add : MethodName := ⟨RX3, "add", "(LLateClaims$Ticket;I)I"⟩
abbrev cX3_addToBalances : ByteArray := prog_5_method_5_code
def yX3_addToBalances : MethodName := ⟨RX3, "addToBalances", "(LLateClaims$Claim;I)V"⟩
abbrev cX3_fewestPayments : ByteArray := prog_5_method_6_code
def yX3_fewestPayments : MethodName := ⟨RX3, "fewestPayments", "()I"⟩
abbrev cX3_togetherIn : ByteArray := prog_5_method_7_code
def yX3_togetherIn : MethodName := ⟨RX3, "togetherIn", "(I)I"⟩
def RX4 : String := "LateClaims$Laws"
def TX4 : u_T := fun k => match k with
  | 0 => ("LateClaims$Laws", "lands", "[I", true)
  | 1 => ("LateClaims$Laws", "fromDays", "[I", true)
  | 2 => ("LateClaims$Laws", "fromMinutes", "[I", true)
  | 3 => ("LateClaims$Laws", "fromMiles", "[I", true)
  | 4 => ("LateClaims$Laws", "sums", "[I", true)
  | 5 => ("LateClaims$Laws", "size", "I", false)
  | 6 => ("LateClaims$Laws", "excuseLands", "[I", true)
  | 7 => ("LateClaims$Laws", "excuseCauses", "[I", true)
  | 8 => ("LateClaims$Laws", "excuseDays", "[I", true)
  | 9 => ("LateClaims$Laws", "toldDays", "[I", true)
  | 10 => ("LateClaims$Laws", "excused", "[Z", true)
  | _ => ("LateClaims$Laws", "excuses", "I", false)
def tyX4 : Nat → FieldType := fun k => match k with
  | 0 => .array .int
  | 1 => .array .int
  | 2 => .array .int
  | 3 => .array .int
  | 4 => .array .int
  | 5 => .int
  | 6 => .array .int
  | 7 => .array .int
  | 8 => .array .int
  | 9 => .array .int
  | 10 => .array .boolean
  | _ => .int
abbrev wsX40 : List Cond := u_ws RX4 TX4 12
theorem nmX4 : ∀ a, a < 12 → ∀ b, b < 12 → a ≠ b → (TX4 a).2.1 ≠ (TX4 b).2.1 := by decide +kernel
theorem tyX4_ok : ∀ k, k < 12 → parseFieldDescriptor (TX4 k).2.2.1 = some (tyX4 k) := by decide +kernel
abbrev cX4_init : ByteArray := prog_6_method_1_code
def yX4_init : MethodName := ⟨RX4, "<init>", "()V"⟩
abbrev cX4_isFull : ByteArray := prog_6_method_2_code
def yX4_isFull : MethodName := ⟨RX4, "isFull", "()Z"⟩
abbrev cX4_isFullOfExcuses : ByteArray := prog_6_method_3_code
def yX4_isFullOfExcuses : MethodName := ⟨RX4, "isFullOfExcuses", "()Z"⟩
abbrev cX4_add : ByteArray := prog_6_method_4_code
def yX4_add : MethodName := ⟨RX4, "add", "(IIIII)I"⟩
abbrev cX4_addExcuse : ByteArray := prog_6_method_5_code
def yX4_addExcuse : MethodName := ⟨RX4, "addExcuse", "(IIIIZ)I"⟩
abbrev cX4_landFor : ByteArray := prog_6_method_6_code
def yX4_landFor : MethodName := ⟨RX4, "landFor", "(LLateClaims$Ticket;I)I"⟩
abbrev cX4_hasRows : ByteArray := prog_6_method_7_code
def yX4_hasRows : MethodName := ⟨RX4, "hasRows", "(II)Z"⟩
abbrev cX4_isInForce : ByteArray := prog_6_method_8_code
def yX4_isInForce : MethodName := ⟨RX4, "isInForce", "(III)Z"⟩
abbrev cX4_greatestSum : ByteArray := prog_6_method_9_code
def yX4_greatestSum : MethodName := ⟨RX4, "greatestSum", "(IIII)I"⟩
abbrev cX4_isExcused : ByteArray := prog_6_method_10_code
def yX4_isExcused : MethodName := ⟨RX4, "isExcused", "(III)Z"⟩
def RX5 : String := "LateClaims$Leg"
def TX5 : u_T := fun k => match k with
  | 0 => ("LateClaims$Leg", "number", "I", true)
  | 1 => ("LateClaims$Leg", "from", "LLateClaims$Port;", true)
  | 2 => ("LateClaims$Leg", "to", "LLateClaims$Port;", true)
  | 3 => ("LateClaims$Leg", "plane", "I", true)
  | 4 => ("LateClaims$Leg", "crew", "I", true)
  | 5 => ("LateClaims$Leg", "leave", "I", true)
  | 6 => ("LateClaims$Leg", "arrive", "I", true)
  | 7 => ("LateClaims$Leg", "logged", "Z", false)
  | 8 => ("LateClaims$Leg", "left", "I", false)
  | 9 => ("LateClaims$Leg", "arrived", "I", false)
  | 10 => ("LateClaims$Leg", "rightLeft", "I", false)
  | 11 => ("LateClaims$Leg", "rightArrived", "I", false)
  | 12 => ("LateClaims$Leg", "outlate", "I", false)
  | 13 => ("LateClaims$Leg", "late", "I", false)
  | _ => ("LateClaims$Leg", "cause", "I", false)
def tyX5 : Nat → FieldType := fun k => match k with
  | 0 => .int
  | 1 => .object "LateClaims$Port"
  | 2 => .object "LateClaims$Port"
  | 3 => .int
  | 4 => .int
  | 5 => .int
  | 6 => .int
  | 7 => .boolean
  | 8 => .int
  | 9 => .int
  | 10 => .int
  | 11 => .int
  | 12 => .int
  | 13 => .int
  | _ => .int
abbrev wsX50 : List Cond := u_ws RX5 TX5 15
theorem nmX5 : ∀ a, a < 15 → ∀ b, b < 15 → a ≠ b → (TX5 a).2.1 ≠ (TX5 b).2.1 := by decide +kernel
theorem tyX5_ok : ∀ k, k < 15 → parseFieldDescriptor (TX5 k).2.2.1 = some (tyX5 k) := by decide +kernel
abbrev cX5_init : ByteArray := prog_7_method_1_code
def yX5_init : MethodName := ⟨RX5, "<init>", "(ILLateClaims$Port;LLateClaims$Port;IIII)V"⟩
abbrev cX5_enter : ByteArray := prog_7_method_2_code
def yX5_enter : MethodName := ⟨RX5, "enter", "(II)V"⟩
abbrev cX5_putRight : ByteArray := prog_7_method_3_code
def yX5_putRight : MethodName := ⟨RX5, "putRight", "()V"⟩
abbrev cX5_waitFor : ByteArray := prog_7_method_4_code
def yX5_waitFor : MethodName := ⟨RX5, "waitFor", "(LLateClaims$Leg;I)I"⟩
def RX6 : String := "LateClaims$Port"
def TX6 : u_T := fun k => match k with
  | 0 => ("LateClaims$Port", "number", "I", true)
  | 1 => ("LateClaims$Port", "land", "I", false)
  | 2 => ("LateClaims$Port", "least", "I", false)
  | _ => ("LateClaims$Port", "ahead", "I", false)
def tyX6 : Nat → FieldType := fun k => match k with
  | 0 => .int
  | 1 => .int
  | 2 => .int
  | _ => .int
abbrev wsX60 : List Cond := u_ws RX6 TX6 4
theorem nmX6 : ∀ a, a < 4 → ∀ b, b < 4 → a ≠ b → (TX6 a).2.1 ≠ (TX6 b).2.1 := by decide +kernel
theorem tyX6_ok : ∀ k, k < 4 → parseFieldDescriptor (TX6 k).2.2.1 = some (tyX6 k) := by decide +kernel
abbrev cX6_init : ByteArray := prog_8_method_1_code
def yX6_init : MethodName := ⟨RX6, "<init>", "(I)V"⟩
def RX7 : String := "LateClaims$Ports"
def TX7 : u_T := fun k => match k with
  | 0 => ("LateClaims$Ports", "all", "[LLateClaims$Port;", true)
  | 1 => ("LateClaims$Ports", "distances", "[[I", true)
  | _ => ("LateClaims$Ports", "quarrels", "I", false)
def tyX7 : Nat → FieldType := fun k => match k with
  | 0 => .array (.object "LateClaims$Port")
  | 1 => .array (.array .int)
  | _ => .int
abbrev wsX70 : List Cond := u_ws RX7 TX7 3
theorem nmX7 : ∀ a, a < 3 → ∀ b, b < 3 → a ≠ b → (TX7 a).2.1 ≠ (TX7 b).2.1 := by decide +kernel
theorem tyX7_ok : ∀ k, k < 3 → parseFieldDescriptor (TX7 k).2.2.1 = some (tyX7 k) := by decide +kernel
abbrev cX7_init : ByteArray := prog_9_method_1_code
def yX7_init : MethodName := ⟨RX7, "<init>", "()V"⟩
abbrev cX7_find : ByteArray := prog_9_method_2_code
def yX7_find : MethodName := ⟨RX7, "find", "(I)LLateClaims$Port;"⟩
abbrev cX7_milesBetween : ByteArray := prog_9_method_3_code
def yX7_milesBetween : MethodName := ⟨RX7, "milesBetween", "(LLateClaims$Port;LLateClaims$Port;)I"⟩
abbrev cX7_setMiles : ByteArray := prog_9_method_4_code
def yX7_setMiles : MethodName := ⟨RX7, "setMiles", "(LLateClaims$Port;LLateClaims$Port;I)V"⟩
abbrev cX7_take : ByteArray := prog_9_method_5_code
def yX7_take : MethodName := ⟨RX7, "take", "(LLateClaims$Port;LLateClaims$Port;I)Z"⟩
abbrev cX7_move : ByteArray := prog_9_method_6_code
def yX7_move : MethodName := ⟨RX7, "move", "(III)V"⟩
def RX8 : String := "LateClaims$Ticket"
def TX8 : u_T := fun k => match k with
  | 0 => ("LateClaims$Ticket", "number", "I", true)
  | 1 => ("LateClaims$Ticket", "first", "LLateClaims$Leg;", true)
  | 2 => ("LateClaims$Ticket", "last", "LLateClaims$Leg;", false)
  | 3 => ("LateClaims$Ticket", "legs", "[LLateClaims$Leg;", true)
  | 4 => ("LateClaims$Ticket", "size", "I", false)
  | 5 => ("LateClaims$Ticket", "owed", "[I", true)
  | _ => ("LateClaims$Ticket", "claimed", "Z", false)
def tyX8 : Nat → FieldType := fun k => match k with
  | 0 => .int
  | 1 => .object "LateClaims$Leg"
  | 2 => .object "LateClaims$Leg"
  | 3 => .array (.object "LateClaims$Leg")
  | 4 => .int
  | 5 => .array .int
  | _ => .boolean
abbrev wsX80 : List Cond := u_ws RX8 TX8 7
theorem nmX8 : ∀ a, a < 7 → ∀ b, b < 7 → a ≠ b → (TX8 a).2.1 ≠ (TX8 b).2.1 := by decide +kernel
theorem tyX8_ok : ∀ k, k < 7 → parseFieldDescriptor (TX8 k).2.2.1 = some (tyX8 k) := by decide +kernel
abbrev cX8_init : ByteArray := prog_10_method_1_code
def yX8_init : MethodName := ⟨RX8, "<init>", "(ILLateClaims$Leg;)V"⟩
abbrev cX8_isFull : ByteArray := prog_10_method_2_code
def yX8_isFull : MethodName := ⟨RX8, "isFull", "()Z"⟩
abbrev cX8_isFollowedBy : ByteArray := prog_10_method_3_code
def yX8_isFollowedBy : MethodName := ⟨RX8, "isFollowedBy", "(LLateClaims$Leg;I)Z"⟩
abbrev cX8_add : ByteArray := prog_10_method_4_code
def yX8_add : MethodName := ⟨RX8, "add", "(LLateClaims$Leg;)V"⟩
abbrev cX8_missedPlace : ByteArray := prog_10_method_5_code
def yX8_missedPlace : MethodName := ⟨RX8, "missedPlace", "(I)I"⟩
abbrev cX8_legAtFault : ByteArray := prog_10_method_6_code
def yX8_legAtFault : MethodName := ⟨RX8, "legAtFault", "(I)LLateClaims$Leg;"⟩
abbrev cX8_leaveDay : ByteArray := prog_10_method_7_code
def yX8_leaveDay : MethodName := ⟨RX8, "leaveDay", "()I"⟩
abbrev cX8_arriveDay : ByteArray := prog_10_method_8_code
def yX8_arriveDay : MethodName := ⟨RX8, "arriveDay", "()I"⟩
def RX9 : String := "LateClaims$Tickets"
def TX9 : u_T := fun k => match k with
  | 0 => ("LateClaims$Tickets", "all", "[LLateClaims$Ticket;", true)
  | _ => ("LateClaims$Tickets", "size", "I", false)
def tyX9 : Nat → FieldType := fun k => match k with
  | 0 => .array (.object "LateClaims$Ticket")
  | _ => .int
abbrev wsX90 : List Cond := u_ws RX9 TX9 2
theorem nmX9 : ∀ a, a < 2 → ∀ b, b < 2 → a ≠ b → (TX9 a).2.1 ≠ (TX9 b).2.1 := by decide +kernel
theorem tyX9_ok : ∀ k, k < 2 → parseFieldDescriptor (TX9 k).2.2.1 = some (tyX9 k) := by decide +kernel
abbrev cX9_init : ByteArray := prog_11_method_1_code
def yX9_init : MethodName := ⟨RX9, "<init>", "()V"⟩
abbrev cX9_isFull : ByteArray := prog_11_method_2_code
def yX9_isFull : MethodName := ⟨RX9, "isFull", "()Z"⟩
abbrev cX9_find : ByteArray := prog_11_method_3_code
def yX9_find : MethodName := ⟨RX9, "find", "(I)LLateClaims$Ticket;"⟩
abbrev cX9_add : ByteArray := prog_11_method_4_code
def yX9_add : MethodName := ⟨RX9, "add", "(LLateClaims$Leg;)I"⟩
def RX10 : String := "LateClaims$Timetable"
def TX10 : u_T := fun k => match k with
  | 0 => ("LateClaims$Timetable", "all", "[LLateClaims$Leg;", true)
  | 1 => ("LateClaims$Timetable", "size", "I", false)
  | 2 => ("LateClaims$Timetable", "minutesBy", "[I", true)
  | 3 => ("LateClaims$Timetable", "reached", "[Z", true)
  | _ => ("LateClaims$Timetable", "onTheWay", "[LLateClaims$Leg;", true)
def tyX10 : Nat → FieldType := fun k => match k with
  | 0 => .array (.object "LateClaims$Leg")
  | 1 => .int
  | 2 => .array .int
  | 3 => .array .boolean
  | _ => .array (.object "LateClaims$Leg")
abbrev wsX100 : List Cond := u_ws RX10 TX10 5
theorem nmX10 : ∀ a, a < 5 → ∀ b, b < 5 → a ≠ b → (TX10 a).2.1 ≠ (TX10 b).2.1 := by decide +kernel
theorem tyX10_ok : ∀ k, k < 5 → parseFieldDescriptor (TX10 k).2.2.1 = some (tyX10 k) := by decide +kernel
abbrev cX10_init : ByteArray := prog_12_method_1_code
def yX10_init : MethodName := ⟨RX10, "<init>", "()V"⟩
abbrev cX10_isFull : ByteArray := prog_12_method_2_code
def yX10_isFull : MethodName := ⟨RX10, "isFull", "()Z"⟩
abbrev cX10_find : ByteArray := prog_12_method_3_code
def yX10_find : MethodName := ⟨RX10, "find", "(I)LLateClaims$Leg;"⟩
abbrev cX10_add : ByteArray := prog_12_method_4_code
def yX10_add : MethodName := ⟨RX10, "add", "(LLateClaims$Port;LLateClaims$Port;IIII)I"⟩
abbrev cX10_putRight : ByteArray := prog_12_method_5_code
def yX10_putRight : MethodName := ⟨RX10, "putRight", "()V"⟩
abbrev cX10_countLogged : ByteArray := prog_12_method_6_code
def yX10_countLogged : MethodName := ⟨RX10, "countLogged", "()I"⟩
abbrev cX10_aheadOf : ByteArray := prog_12_method_7_code
def yX10_aheadOf : MethodName := ⟨RX10, "aheadOf", "(LLateClaims$Leg;ZI)LLateClaims$Leg;"⟩
abbrev cX10_trace : ByteArray := prog_12_method_8_code
def yX10_trace : MethodName := ⟨RX10, "trace", "(LLateClaims$Leg;II)V"⟩
abbrev cX10_greatestCause : ByteArray := prog_12_method_9_code
def yX10_greatestCause : MethodName := ⟨RX10, "greatestCause", "()I"⟩
abbrev cX10_soonestBy : ByteArray := prog_12_method_10_code
def yX10_soonestBy : MethodName := ⟨RX10, "soonestBy", "(LLateClaims$Port;ILLateClaims$Port;I)I"⟩
abbrev cX10_reach : ByteArray := prog_12_method_11_code
def yX10_reach : MethodName := ⟨RX10, "reach", "(ILLateClaims$Port;I)I"⟩
def RX11 : String := "LateClaims"
def TX11 : u_T := fun k => match k with
  | 0 => ("LateClaims", "ports", "LLateClaims$Ports;", true)
  | 1 => ("LateClaims", "timetable", "LLateClaims$Timetable;", true)
  | 2 => ("LateClaims", "tickets", "LLateClaims$Tickets;", true)
  | 3 => ("LateClaims", "laws", "LLateClaims$Laws;", true)
  | 4 => ("LateClaims", "bars", "LLateClaims$Bars;", true)
  | 5 => ("LateClaims", "claims", "LLateClaims$Claims;", true)
  | 6 => ("LateClaims", "cases", "LLateClaims$Cases;", true)
  | 7 => ("LateClaims", "settings", "[I", true)
  | 8 => ("LateClaims", "refusals", "[I", true)
  | _ => ("LateClaims", "today", "I", false)
def tyX11 : Nat → FieldType := fun k => match k with
  | 0 => .object "LateClaims$Ports"
  | 1 => .object "LateClaims$Timetable"
  | 2 => .object "LateClaims$Tickets"
  | 3 => .object "LateClaims$Laws"
  | 4 => .object "LateClaims$Bars"
  | 5 => .object "LateClaims$Claims"
  | 6 => .object "LateClaims$Cases"
  | 7 => .array .int
  | 8 => .array .int
  | _ => .int
abbrev wsX110 : List Cond := u_ws RX11 TX11 10
theorem nmX11 : ∀ a, a < 10 → ∀ b, b < 10 → a ≠ b → (TX11 a).2.1 ≠ (TX11 b).2.1 := by decide +kernel
theorem tyX11_ok : ∀ k, k < 10 → parseFieldDescriptor (TX11 k).2.2.1 = some (tyX11 k) := by decide +kernel
abbrev cX11_init : ByteArray := prog_1_method_1_code
def yX11_init : MethodName := ⟨RX11, "<init>", "()V"⟩
abbrev cX11_days : ByteArray := prog_1_method_2_code
def yX11_days : MethodName := ⟨RX11, "days", "(I)I"⟩
abbrev cX11_land : ByteArray := prog_1_method_3_code
def yX11_land : MethodName := ⟨RX11, "land", "(II)I"⟩
abbrev cX11_miles : ByteArray := prog_1_method_4_code
def yX11_miles : MethodName := ⟨RX11, "miles", "(III)I"⟩
abbrev cX11_seen : ByteArray := prog_1_method_5_code
def yX11_seen : MethodName := ⟨RX11, "seen", "(III)I"⟩
abbrev cX11_off : ByteArray := prog_1_method_6_code
def yX11_off : MethodName := ⟨RX11, "off", "(I)I"⟩
abbrev cX11_leg : ByteArray := prog_1_method_7_code
def yX11_leg : MethodName := ⟨RX11, "leg", "(IIIIII)I"⟩
abbrev cX11_log : ByteArray := prog_1_method_8_code
def yX11_log : MethodName := ⟨RX11, "log", "(III)I"⟩
abbrev cX11_cause : ByteArray := prog_1_method_9_code
def yX11_cause : MethodName := ⟨RX11, "cause", "(II)I"⟩
abbrev cX11_set : ByteArray := prog_1_method_10_code
def yX11_set : MethodName := ⟨RX11, "set", "(II)I"⟩
abbrev cX11_legOf : ByteArray := prog_1_method_11_code
def yX11_legOf : MethodName := ⟨RX11, "legOf", "(II)I"⟩
abbrev cX11_ahead : ByteArray := prog_1_method_12_code
def yX11_ahead : MethodName := ⟨RX11, "ahead", "(IZ)I"⟩
abbrev cX11_minutes : ByteArray := prog_1_method_13_code
def yX11_minutes : MethodName := ⟨RX11, "minutes", "(II)I"⟩
abbrev cX11_saved : ByteArray := prog_1_method_14_code
def yX11_saved : MethodName := ⟨RX11, "saved", "(II)I"⟩
abbrev cX11_traveller : ByteArray := prog_1_method_15_code
def yX11_traveller : MethodName := ⟨RX11, "traveller", "(I)I"⟩
abbrev cX11_then : ByteArray := prog_1_method_16_code
def yX11_then : MethodName := ⟨RX11, "then", "(II)I"⟩
abbrev cX11_missed : ByteArray := prog_1_method_17_code
def yX11_missed : MethodName := ⟨RX11, "missed", "(I)I"⟩
abbrev cX11_soonest : ByteArray := prog_1_method_18_code
def yX11_soonest : MethodName := ⟨RX11, "soonest", "(I)I"⟩
abbrev cX11_hours : ByteArray := prog_1_method_19_code
def yX11_hours : MethodName := ⟨RX11, "hours", "(I)I"⟩
abbrev cX11_blame : ByteArray := prog_1_method_20_code
def yX11_blame : MethodName := ⟨RX11, "blame", "(I)I"⟩
abbrev cX11_law : ByteArray := prog_1_method_21_code
def yX11_law : MethodName := ⟨RX11, "law", "(IIIII)I"⟩
abbrev cX11_excuse : ByteArray := prog_1_method_22_code
def yX11_excuse : MethodName := ⟨RX11, "excuse", "(IIIZ)I"⟩
abbrev cX11_sum : ByteArray := prog_1_method_23_code
def yX11_sum : MethodName := ⟨RX11, "sum", "(III)I"⟩
abbrev cX11_bar : ByteArray := prog_1_method_24_code
def yX11_bar : MethodName := ⟨RX11, "bar", "(II)I"⟩
abbrev cX11_stop : ByteArray := prog_1_method_25_code
def yX11_stop : MethodName := ⟨RX11, "stop", "(III)I"⟩
abbrev cX11_claim : ByteArray := prog_1_method_26_code
def yX11_claim : MethodName := ⟨RX11, "claim", "(I)I"⟩
abbrev cX11_claimOf : ByteArray := prog_1_method_27_code
def yX11_claimOf : MethodName := ⟨RX11, "claimOf", "(II)I"⟩
abbrev cX11_owes : ByteArray := prog_1_method_28_code
def yX11_owes : MethodName := ⟨RX11, "owes", "(III)I"⟩
abbrev cX11_pay : ByteArray := prog_1_method_29_code
def yX11_pay : MethodName := ⟨RX11, "pay", "(III)I"⟩
abbrev cX11_due : ByteArray := prog_1_method_30_code
def yX11_due : MethodName := ⟨RX11, "due", "(II)I"⟩
abbrev cX11_balance : ByteArray := prog_1_method_31_code
def yX11_balance : MethodName := ⟨RX11, "balance", "(I)I"⟩
abbrev cX11_back : ByteArray := prog_1_method_32_code
def yX11_back : MethodName := ⟨RX11, "back", "()I"⟩
abbrev cX11_judged : ByteArray := prog_1_method_33_code
def yX11_judged : MethodName := ⟨RX11, "judged", "(IIIIZI)I"⟩
abbrev cX11_odds : ByteArray := prog_1_method_34_code
def yX11_odds : MethodName := ⟨RX11, "odds", "(II)I"⟩
abbrev cX11_good : ByteArray := prog_1_method_35_code
def yX11_good : MethodName := ⟨RX11, "good", "(II)I"⟩
abbrev cX11_count : ByteArray := prog_1_method_36_code
def yX11_count : MethodName := ⟨RX11, "count", "(I)I"⟩
abbrev cX11_isOneOf : ByteArray := prog_1_method_37_code
def yX11_isOneOf : MethodName := ⟨RX11, "isOneOf", "(II)Z"⟩
abbrev cX11_refuse : ByteArray := prog_1_method_38_code
def yX11_refuse : MethodName := ⟨RX11, "refuse", "(I)I"⟩
abbrev cX11_refuseBeyond : ByteArray := prog_1_method_39_code
def yX11_refuseBeyond : MethodName := ⟨RX11, "refuseBeyond", "(I)I"⟩
abbrev cX11_gapFor : ByteArray := prog_1_method_40_code
def yX11_gapFor : MethodName := ⟨RX11, "gapFor", "(Z)I"⟩
abbrev cX11_waitOf : ByteArray := prog_1_method_41_code
def yX11_waitOf : MethodName := ⟨RX11, "waitOf", "(LLateClaims$Leg;Z)I"⟩
abbrev cX11_handedTo : ByteArray := prog_1_method_42_code
def yX11_handedTo : MethodName := ⟨RX11, "handedTo", "(LLateClaims$Leg;)I"⟩
abbrev cX11_soonestOf : ByteArray := prog_1_method_43_code
def yX11_soonestOf : MethodName := ⟨RX11, "soonestOf", "(LLateClaims$Ticket;)I"⟩
abbrev cX11_hoursOf : ByteArray := prog_1_method_44_code
def yX11_hoursOf : MethodName := ⟨RX11, "hoursOf", "(LLateClaims$Ticket;)I"⟩
abbrev cX11_blameOf : ByteArray := prog_1_method_45_code
def yX11_blameOf : MethodName := ⟨RX11, "blameOf", "(LLateClaims$Ticket;)I"⟩
abbrev cX11_sumFor : ByteArray := prog_1_method_46_code
def yX11_sumFor : MethodName := ⟨RX11, "sumFor", "(LLateClaims$Ticket;I)I"⟩
abbrev cX11_milesOf : ByteArray := prog_1_method_47_code
def yX11_milesOf : MethodName := ⟨RX11, "milesOf", "(LLateClaims$Ticket;)I"⟩
abbrev cX11_isBarred : ByteArray := prog_1_method_48_code
def yX11_isBarred : MethodName := ⟨RX11, "isBarred", "(LLateClaims$Claim;)Z"⟩
abbrev cX11_worthOf : ByteArray := prog_1_method_49_code
def yX11_worthOf : MethodName := ⟨RX11, "worthOf", "(LLateClaims$Claim;)I"⟩
abbrev cX11_countBarred : ByteArray := prog_1_method_50_code
def yX11_countBarred : MethodName := ⟨RX11, "countBarred", "()I"⟩
abbrev cX11_settleUp : ByteArray := prog_1_method_51_code
def yX11_settleUp : MethodName := ⟨RX11, "settleUp", "()V"⟩
abbrev cX11_chooseLike : ByteArray := prog_1_method_52_code
def yX11_chooseLike : MethodName := ⟨RX11, "chooseLike", "(LLateClaims$Claim;)V"⟩
def RX12 : String := "LateClaimsModel"
def TX12 : u_T := fun k => match k with
  | 0 => ("LateClaimsModel", "day", "I", false)
  | 1 => ("LateClaimsModel", "land", "[I", true)
  | 2 => ("LateClaimsModel", "miles", "[I", true)
  | 3 => ("LateClaimsModel", "least", "[I", true)
  | 4 => ("LateClaimsModel", "off", "[I", true)
  | 5 => ("LateClaimsModel", "quarrels", "I", false)
  | 6 => ("LateClaimsModel", "legs", "I", false)
  | 7 => ("LateClaimsModel", "from", "[I", true)
  | 8 => ("LateClaimsModel", "to", "[I", true)
  | 9 => ("LateClaimsModel", "plane", "[I", true)
  | 10 => ("LateClaimsModel", "crew", "[I", true)
  | 11 => ("LateClaimsModel", "leave", "[I", true)
  | 12 => ("LateClaimsModel", "arrive", "[I", true)
  | 13 => ("LateClaimsModel", "isDone", "[Z", true)
  | 14 => ("LateClaimsModel", "left", "[I", true)
  | 15 => ("LateClaimsModel", "arrived", "[I", true)
  | 16 => ("LateClaimsModel", "causeOf", "[I", true)
  | 17 => ("LateClaimsModel", "settings", "[I", true)
  | 18 => ("LateClaimsModel", "refused", "[I", true)
  | 19 => ("LateClaimsModel", "byCause", "[I", true)
  | 20 => ("LateClaimsModel", "travellers", "I", false)
  | 21 => ("LateClaimsModel", "rows", "[I", true)
  | 22 => ("LateClaimsModel", "rowMany", "[I", true)
  | 23 => ("LateClaimsModel", "isReached", "[Z", true)
  | 24 => ("LateClaimsModel", "laws", "I", false)
  | 25 => ("LateClaimsModel", "lawLand", "[I", true)
  | 26 => ("LateClaimsModel", "lawDay", "[I", true)
  | 27 => ("LateClaimsModel", "lawMinutes", "[I", true)
  | 28 => ("LateClaimsModel", "lawMiles", "[I", true)
  | 29 => ("LateClaimsModel", "lawSum", "[I", true)
  | 30 => ("LateClaimsModel", "excuses", "I", false)
  | 31 => ("LateClaimsModel", "excuseLand", "[I", true)
  | 32 => ("LateClaimsModel", "excuseCause", "[I", true)
  | 33 => ("LateClaimsModel", "excuseDay", "[I", true)
  | 34 => ("LateClaimsModel", "excuseTold", "[I", true)
  | 35 => ("LateClaimsModel", "isExcuse", "[Z", true)
  | 36 => ("LateClaimsModel", "bars", "[I", true)
  | 37 => ("LateClaimsModel", "stops", "I", false)
  | 38 => ("LateClaimsModel", "stopLand", "[I", true)
  | 39 => ("LateClaimsModel", "stopFrom", "[I", true)
  | 40 => ("LateClaimsModel", "stopTo", "[I", true)
  | 41 => ("LateClaimsModel", "claims", "I", false)
  | 42 => ("LateClaimsModel", "claimOwner", "[I", true)
  | 43 => ("LateClaimsModel", "claimDay", "[I", true)
  | 44 => ("LateClaimsModel", "owed", "[I", true)
  | 45 => ("LateClaimsModel", "paid", "[I", true)
  | 46 => ("LateClaimsModel", "sumOfSet", "[I", true)
  | 47 => ("LateClaimsModel", "partsOf", "[I", true)
  | 48 => ("LateClaimsModel", "cases", "I", false)
  | 49 => ("LateClaimsModel", "caseLand", "[I", true)
  | 50 => ("LateClaimsModel", "caseCause", "[I", true)
  | 51 => ("LateClaimsModel", "caseMinutes", "[I", true)
  | 52 => ("LateClaimsModel", "caseMiles", "[I", true)
  | 53 => ("LateClaimsModel", "isWon", "[Z", true)
  | 54 => ("LateClaimsModel", "caseCost", "[I", true)
  | 55 => ("LateClaimsModel", "likeMany", "I", false)
  | 56 => ("LateClaimsModel", "likeWon", "I", false)
  | 57 => ("LateClaimsModel", "likeCost", "I", false)
  | 58 => ("LateClaimsModel", "like", "[I", true)
  | _ => ("LateClaimsModel", "likeFar", "[I", true)
def tyX12 : Nat → FieldType := fun k => match k with
  | 0 => .int
  | 1 => .array .int
  | 2 => .array .int
  | 3 => .array .int
  | 4 => .array .int
  | 5 => .int
  | 6 => .int
  | 7 => .array .int
  | 8 => .array .int
  | 9 => .array .int
  | 10 => .array .int
  | 11 => .array .int
  | 12 => .array .int
  | 13 => .array .boolean
  | 14 => .array .int
  | 15 => .array .int
  | 16 => .array .int
  | 17 => .array .int
  | 18 => .array .int
  | 19 => .array .int
  | 20 => .int
  | 21 => .array .int
  | 22 => .array .int
  | 23 => .array .boolean
  | 24 => .int
  | 25 => .array .int
  | 26 => .array .int
  | 27 => .array .int
  | 28 => .array .int
  | 29 => .array .int
  | 30 => .int
  | 31 => .array .int
  | 32 => .array .int
  | 33 => .array .int
  | 34 => .array .int
  | 35 => .array .boolean
  | 36 => .array .int
  | 37 => .int
  | 38 => .array .int
  | 39 => .array .int
  | 40 => .array .int
  | 41 => .int
  | 42 => .array .int
  | 43 => .array .int
  | 44 => .array .int
  | 45 => .array .int
  | 46 => .array .int
  | 47 => .array .int
  | 48 => .int
  | 49 => .array .int
  | 50 => .array .int
  | 51 => .array .int
  | 52 => .array .int
  | 53 => .array .boolean
  | 54 => .array .int
  | 55 => .int
  | 56 => .int
  | 57 => .int
  | 58 => .array .int
  | _ => .array .int
abbrev wsX120 : List Cond := u_ws RX12 TX12 60
theorem nmX12 : ∀ a, a < 60 → ∀ b, b < 60 → a ≠ b → (TX12 a).2.1 ≠ (TX12 b).2.1 := by decide +kernel
theorem tyX12_ok : ∀ k, k < 60 → parseFieldDescriptor (TX12 k).2.2.1 = some (tyX12 k) := by decide +kernel
abbrev cX12_init : ByteArray := prog_14_method_1_code
def yX12_init : MethodName := ⟨RX12, "<init>", "()V"⟩
abbrev cX12_in : ByteArray := prog_14_method_3_code
def yX12_in : MethodName := ⟨RX12, "in", "(III)Z"⟩
abbrev cX12_refuse : ByteArray := prog_14_method_4_code
def yX12_refuse : MethodName := ⟨RX12, "refuse", "(I)I"⟩
abbrev cX12_refuseFar : ByteArray := prog_14_method_5_code
def yX12_refuseFar : MethodName := ⟨RX12, "refuseFar", "(I)I"⟩
abbrev cX12_isPort : ByteArray := prog_14_method_6_code
def yX12_isPort : MethodName := ⟨RX12, "isPort", "(I)Z"⟩
abbrev cX12_isLeg : ByteArray := prog_14_method_7_code
def yX12_isLeg : MethodName := ⟨RX12, "isLeg", "(I)Z"⟩
abbrev cX12_over : ByteArray := prog_14_method_8_code
def yX12_over : MethodName := ⟨RX12, "over", "(I)I"⟩
abbrev cX12_lesser : ByteArray := prog_14_method_9_code
def yX12_lesser : MethodName := ⟨RX12, "lesser", "(II)I"⟩
abbrev cX12_amount : ByteArray := prog_14_method_10_code
def yX12_amount : MethodName := ⟨RX12, "amount", "(I)I"⟩
abbrev cX12_days : ByteArray := prog_14_method_11_code
def yX12_days : MethodName := ⟨RX12, "days", "(I)I"⟩
abbrev cX12_land : ByteArray := prog_14_method_12_code
def yX12_land : MethodName := ⟨RX12, "land", "(II)I"⟩
abbrev cX12_miles : ByteArray := prog_14_method_13_code
def yX12_miles : MethodName := ⟨RX12, "miles", "(III)I"⟩
abbrev cX12_seen : ByteArray := prog_14_method_14_code
def yX12_seen : MethodName := ⟨RX12, "seen", "(III)I"⟩
abbrev cX12_off : ByteArray := prog_14_method_15_code
def yX12_off : MethodName := ⟨RX12, "off", "(I)I"⟩
abbrev cX12_leg : ByteArray := prog_14_method_16_code
def yX12_leg : MethodName := ⟨RX12, "leg", "(IIIIII)I"⟩
abbrev cX12_log : ByteArray := prog_14_method_17_code
def yX12_log : MethodName := ⟨RX12, "log", "(III)I"⟩
abbrev cX12_isCause : ByteArray := prog_14_method_18_code
def yX12_isCause : MethodName := ⟨RX12, "isCause", "(I)Z"⟩
abbrev cX12_cause : ByteArray := prog_14_method_19_code
def yX12_cause : MethodName := ⟨RX12, "cause", "(II)I"⟩
abbrev cX12_set : ByteArray := prog_14_method_20_code
def yX12_set : MethodName := ⟨RX12, "set", "(II)I"⟩
abbrev cX12_rightLeave : ByteArray := prog_14_method_21_code
def yX12_rightLeave : MethodName := ⟨RX12, "rightLeave", "(I)I"⟩
abbrev cX12_rightArrive : ByteArray := prog_14_method_22_code
def yX12_rightArrive : MethodName := ⟨RX12, "rightArrive", "(I)I"⟩
abbrev cX12_lateOf : ByteArray := prog_14_method_23_code
def yX12_lateOf : MethodName := ⟨RX12, "lateOf", "(I)I"⟩
abbrev cX12_outlateOf : ByteArray := prog_14_method_24_code
def yX12_outlateOf : MethodName := ⟨RX12, "outlateOf", "(I)I"⟩
abbrev cX12_aheadOf : ByteArray := prog_14_method_25_code
def yX12_aheadOf : MethodName := ⟨RX12, "aheadOf", "(IZ)I"⟩
abbrev cX12_waitOf : ByteArray := prog_14_method_26_code
def yX12_waitOf : MethodName := ⟨RX12, "waitOf", "(IZ)I"⟩
abbrev cX12_isByCrew : ByteArray := prog_14_method_27_code
def yX12_isByCrew : MethodName := ⟨RX12, "isByCrew", "(I)Z"⟩
abbrev cX12_handedOf : ByteArray := prog_14_method_28_code
def yX12_handedOf : MethodName := ⟨RX12, "handedOf", "(I)I"⟩
abbrev cX12_legOf : ByteArray := prog_14_method_29_code
def yX12_legOf : MethodName := ⟨RX12, "legOf", "(II)I"⟩
abbrev cX12_ahead : ByteArray := prog_14_method_30_code
def yX12_ahead : MethodName := ⟨RX12, "ahead", "(IZ)I"⟩
abbrev cX12_findMinutes : ByteArray := prog_14_method_31_code
def yX12_findMinutes : MethodName := ⟨RX12, "findMinutes", "(I)V"⟩
abbrev cX12_minutes : ByteArray := prog_14_method_32_code
def yX12_minutes : MethodName := ⟨RX12, "minutes", "(II)I"⟩
abbrev cX12_saved : ByteArray := prog_14_method_33_code
def yX12_saved : MethodName := ⟨RX12, "saved", "(II)I"⟩
abbrev cX12_isTraveller : ByteArray := prog_14_method_34_code
def yX12_isTraveller : MethodName := ⟨RX12, "isTraveller", "(I)Z"⟩
abbrev cX12_traveller : ByteArray := prog_14_method_35_code
def yX12_traveller : MethodName := ⟨RX12, "traveller", "(I)I"⟩
abbrev cX12_then : ByteArray := prog_14_method_36_code
def yX12_then : MethodName := ⟨RX12, "then", "(II)I"⟩
abbrev cX12_firstLeg : ByteArray := prog_14_method_37_code
def yX12_firstLeg : MethodName := ⟨RX12, "firstLeg", "(I)I"⟩
abbrev cX12_lastLeg : ByteArray := prog_14_method_38_code
def yX12_lastLeg : MethodName := ⟨RX12, "lastLeg", "(I)I"⟩
abbrev cX12_missedOf : ByteArray := prog_14_method_39_code
def yX12_missedOf : MethodName := ⟨RX12, "missedOf", "(I)I"⟩
abbrev cX12_missed : ByteArray := prog_14_method_40_code
def yX12_missed : MethodName := ⟨RX12, "missed", "(I)I"⟩
abbrev cX12_soonestOf : ByteArray := prog_14_method_41_code
def yX12_soonestOf : MethodName := ⟨RX12, "soonestOf", "(I)I"⟩
abbrev cX12_soonest : ByteArray := prog_14_method_42_code
def yX12_soonest : MethodName := ⟨RX12, "soonest", "(I)I"⟩
abbrev cX12_hoursOf : ByteArray := prog_14_method_43_code
def yX12_hoursOf : MethodName := ⟨RX12, "hoursOf", "(I)I"⟩
abbrev cX12_hours : ByteArray := prog_14_method_44_code
def yX12_hours : MethodName := ⟨RX12, "hours", "(I)I"⟩
abbrev cX12_blameOf : ByteArray := prog_14_method_45_code
def yX12_blameOf : MethodName := ⟨RX12, "blameOf", "(I)I"⟩
abbrev cX12_blame : ByteArray := prog_14_method_46_code
def yX12_blame : MethodName := ⟨RX12, "blame", "(I)I"⟩
abbrev cX12_isLand : ByteArray := prog_14_method_47_code
def yX12_isLand : MethodName := ⟨RX12, "isLand", "(I)Z"⟩
abbrev cX12_law : ByteArray := prog_14_method_48_code
def yX12_law : MethodName := ⟨RX12, "law", "(IIIII)I"⟩
abbrev cX12_excuse : ByteArray := prog_14_method_49_code
def yX12_excuse : MethodName := ⟨RX12, "excuse", "(IIIZ)I"⟩
abbrev cX12_hasLaw : ByteArray := prog_14_method_50_code
def yX12_hasLaw : MethodName := ⟨RX12, "hasLaw", "(II)Z"⟩
abbrev cX12_lawOf : ByteArray := prog_14_method_51_code
def yX12_lawOf : MethodName := ⟨RX12, "lawOf", "(II)I"⟩
abbrev cX12_milesOf : ByteArray := prog_14_method_52_code
def yX12_milesOf : MethodName := ⟨RX12, "milesOf", "(I)I"⟩
abbrev cX12_isExcused : ByteArray := prog_14_method_53_code
def yX12_isExcused : MethodName := ⟨RX12, "isExcused", "(II)Z"⟩
abbrev cX12_sumOf : ByteArray := prog_14_method_54_code
def yX12_sumOf : MethodName := ⟨RX12, "sumOf", "(II)I"⟩
abbrev cX12_sum : ByteArray := prog_14_method_55_code
def yX12_sum : MethodName := ⟨RX12, "sum", "(III)I"⟩
abbrev cX12_bar : ByteArray := prog_14_method_56_code
def yX12_bar : MethodName := ⟨RX12, "bar", "(II)I"⟩
abbrev cX12_stop : ByteArray := prog_14_method_57_code
def yX12_stop : MethodName := ⟨RX12, "stop", "(III)I"⟩
abbrev cX12_isClaim : ByteArray := prog_14_method_58_code
def yX12_isClaim : MethodName := ⟨RX12, "isClaim", "(I)Z"⟩
abbrev cX12_claim : ByteArray := prog_14_method_59_code
def yX12_claim : MethodName := ⟨RX12, "claim", "(I)I"⟩
abbrev cX12_isBarred : ByteArray := prog_14_method_60_code
def yX12_isBarred : MethodName := ⟨RX12, "isBarred", "(I)Z"⟩
abbrev cX12_worthOf : ByteArray := prog_14_method_61_code
def yX12_worthOf : MethodName := ⟨RX12, "worthOf", "(I)I"⟩
abbrev cX12_settledOf : ByteArray := prog_14_method_62_code
def yX12_settledOf : MethodName := ⟨RX12, "settledOf", "(I)I"⟩
abbrev cX12_claimOf : ByteArray := prog_14_method_63_code
def yX12_claimOf : MethodName := ⟨RX12, "claimOf", "(II)I"⟩
abbrev cX12_isPayer : ByteArray := prog_14_method_64_code
def yX12_isPayer : MethodName := ⟨RX12, "isPayer", "(I)Z"⟩
abbrev cX12_owes : ByteArray := prog_14_method_65_code
def yX12_owes : MethodName := ⟨RX12, "owes", "(III)I"⟩
abbrev cX12_pay : ByteArray := prog_14_method_66_code
def yX12_pay : MethodName := ⟨RX12, "pay", "(III)I"⟩
abbrev cX12_dueOf : ByteArray := prog_14_method_67_code
def yX12_dueOf : MethodName := ⟨RX12, "dueOf", "(II)I"⟩
abbrev cX12_due : ByteArray := prog_14_method_68_code
def yX12_due : MethodName := ⟨RX12, "due", "(II)I"⟩
abbrev cX12_balanceOf : ByteArray := prog_14_method_69_code
def yX12_balanceOf : MethodName := ⟨RX12, "balanceOf", "(I)I"⟩
abbrev cX12_balance : ByteArray := prog_14_method_70_code
def yX12_balance : MethodName := ⟨RX12, "balance", "(I)I"⟩
abbrev cX12_back : ByteArray := prog_14_method_71_code
def yX12_back : MethodName := ⟨RX12, "back", "()I"⟩
abbrev cX12_judged : ByteArray := prog_14_method_72_code
def yX12_judged : MethodName := ⟨RX12, "judged", "(IIIIZI)I"⟩
abbrev cX12_findLike : ByteArray := prog_14_method_73_code
def yX12_findLike : MethodName := ⟨RX12, "findLike", "(I)V"⟩
abbrev cX12_odds : ByteArray := prog_14_method_74_code
def yX12_odds : MethodName := ⟨RX12, "odds", "(II)I"⟩
abbrev cX12_good : ByteArray := prog_14_method_75_code
def yX12_good : MethodName := ⟨RX12, "good", "(II)I"⟩
abbrev cX12_count : ByteArray := prog_14_method_76_code
def yX12_count : MethodName := ⟨RX12, "count", "(I)I"⟩
def RJx8e188 : String := "java/lang/Cloneable"
def TJx8e188 : u_T := fun k => match k with
  | _ => ("", "", "", false)
def tyJx8e188 : Nat → FieldType := fun k => match k with
  | _ => .int
abbrev wsJx8e1880 : List Cond := u_ws RJx8e188 TJx8e188 0
theorem nmJx8e188 : ∀ a, a < 0 → ∀ b, b < 0 → a ≠ b → (TJx8e188 a).2.1 ≠ (TJx8e188 b).2.1 := by decide +kernel
theorem tyJx8e188_ok : ∀ k, k < 0 → parseFieldDescriptor (TJx8e188 k).2.2.1 = some (tyJx8e188 k) := by decide +kernel
def RJ9 : String := "java/lang/Math"
def TJ9 : u_T := fun k => match k with
  | _ => ("", "", "", false)
def tyJ9 : Nat → FieldType := fun k => match k with
  | _ => .int
abbrev wsJ90 : List Cond := u_ws RJ9 TJ9 0
theorem nmJ9 : ∀ a, a < 0 → ∀ b, b < 0 → a ≠ b → (TJ9 a).2.1 ≠ (TJ9 b).2.1 := by decide +kernel
theorem tyJ9_ok : ∀ k, k < 0 → parseFieldDescriptor (TJ9 k).2.2.1 = some (tyJ9 k) := by decide +kernel
abbrev cJ9_abs_0f7a4 : ByteArray := prog_16_method_59_code
def yJ9_abs_0f7a4 : MethodName := ⟨RJ9, "abs", "(I)I"⟩
abbrev cJ9_max_7cf53 : ByteArray := prog_16_method_65_code
def yJ9_max_7cf53 : MethodName := ⟨RJ9, "max", "(II)I"⟩
abbrev cJ9_min_7cf53 : ByteArray := prog_16_method_69_code
def yJ9_min_7cf53 : MethodName := ⟨RJ9, "min", "(II)I"⟩
def RJ7 : String := "java/util/Arrays"
def TJ7 : u_T := fun k => match k with
  | _ => ("", "", "", false)
def tyJ7 : Nat → FieldType := fun k => match k with
  | _ => .int
abbrev wsJ70 : List Cond := u_ws RJ7 TJ7 0
theorem nmJ7 : ∀ a, a < 0 → ∀ b, b < 0 → a ≠ b → (TJ7 a).2.1 ≠ (TJ7 b).2.1 := by decide +kernel
theorem tyJ7_ok : ∀ k, k < 0 → parseFieldDescriptor (TJ7 k).2.2.1 = some (tyJ7 k) := by decide +kernel
abbrev cJ7_fill_53178 : ByteArray := prog_17_method_103_code
def yJ7_fill_53178 : MethodName := ⟨RJ7, "fill", "([II)V"⟩
def RL : String := "LateClaimsLaw"
abbrev cL_law : ByteArray := code
def yL_law : MethodName := ⟨RL, "law", "([I)Z"⟩
abbrev vwCl : List vw_C := [(RX0, TX0, 5), (RX1, TX1, 11), (RX2, TX2, 4), (RX3, TX3, 4), (RX4, TX4, 12), (RX5, TX5, 15), (RX6, TX6, 4), (RX7, TX7, 3), (RX8, TX8, 7), (RX9, TX9, 2), (RX10, TX10, 5), (RX11, TX11, 10), (RX12, TX12, 60)]
