theorem EXT.two {N : Nat → Nat} {M : Mo} {al al1 : Al} {iv iv1 : Iv} {rv rv1 : Rv} (h : EXT N M al iv rv al1 iv1 rv1) (c54 : al1.1 54 = 0) (c55 : al1.1 55 = 0) (hm : 54 ∈ M.1) (a : Nat) : EXT (fun t => N t + ((if t = 54 then 1 else 0) + (if t = 55 then 10 else 0))) M al iv rv (al2 al1 a) (iv2 iv1) (rv2 rv1) := by
  obtain ⟨h1, h2, h3, h4⟩ := h
  have z54 : al.1 54 = 0 := by have := h1 54; omega
  have z55 : al.1 55 = 0 := by have := h1 55; omega
  have n54 : N 54 = 0 := by have := h1 54; omega
  have n55 : N 55 = 0 := by have := h1 55; omega
  refine ⟨fun t => ?_, fun t i q => ?_, fun t i k q m => ?_, fun t i k q1 q2 m => ?_⟩
  · by_cases e1 : t = 54
    · subst e1; simp [al2, z54, n54]
    · by_cases e2 : t = 55
      · subst e2; simp [al2, z55, n55]
      · simp [al2, e1, e2]; exact h1 t
  · have e1 : t ≠ 54 := fun z => by subst z; omega
    have e2 : t ≠ 55 := fun z => by subst z; omega
    simp [al2, e1, e2]; exact h2 t i q
  · have e1 : t ≠ 54 := fun z => by subst z; omega
    have e2 : t ≠ 55 := fun z => by subst z; omega
    simp [iv2, rv2, e1, e2]; exact h3 t i k q m
  · by_cases e1 : t = 54
    · subst e1; exact absurd (Or.inl hm) m
    · by_cases e2 : t = 55
      · subst e2; simp [iv2, rv2]
      · simp [al2, e1, e2] at q2
        simp [iv2, rv2, e1, e2]; exact h4 t i k q1 q2 m
theorem RG.two {al : Al} {iv : Iv} (h : RG al iv) (a : Nat) : RG (al2 al a) (iv2 iv) := by
  intro t i k h1 h2
  by_cases e1 : t = 54 ∨ t = 55
  · simp only [iv2, if_pos e1]; exact rg0 t k
  · simp only [iv2, if_neg e1]
    refine h t i k ?_ h2
    have a1 : t ≠ 54 := fun z => e1 (Or.inl z)
    have a2 : t ≠ 55 := fun z => e1 (Or.inr z)
    simp [al2, a1, a2] at h1; exact h1
theorem RB.two {al : Al} {rv : Rv} (h : RB al rv) (c54 : al.1 54 = 0) (c55 : al.1 55 = 0) (a : Nat) : RB (al2 al a) (rv2 rv) := by
  intro t i k t' h1 h2 h3 j h4
  by_cases e1 : t = 54
  · subst e1
    have : t' = 55 := (Option.some.inj h3).symm
    subst this
    simp [rv2] at h4
    simp [al2]; omega
  · by_cases e2 : t = 55
    · subst e2; simp [rv2] at h4
    · simp [rv2, e1, e2] at h4
      simp [al2, e1, e2] at h1
      have q := h t i k t' h1 h2 h3 j h4
      have n1 : t' ≠ 54 := fun z => by subst z; omega
      have n2 : t' ≠ 55 := fun z => by subst z; omega
      simp [al2, n1, n2]; exact q
set_option maxHeartbeats 4000000 in
set_option maxRecDepth 100000 in
theorem c_X7_init {l : Launch} {D : va_G} {cA : FieldType → ClassId} {sz : Nat} {al : Al} {iv : Iv} {rv : Rv} (hR : RG al iv) (hB : RB al rv) (i0 : Nat) (hi0 : i0 < al.1 52) (c53 : al.1 53 = 0) (c54 : al.1 54 = 0) (c55 : al.1 55 = 0) (c56 : al.1 56 = 0) : Met l yX7_init (wd yX7_init cX7_init 2 none) (rmA 2 22 160) (PcA D cA sz al iv rv [.ref (al.2 52 i0)] (fun U => va_AOA .int U)) (QVA D cA sz (fun al' iv' rv' => RG al' iv' ∧ RB al' rv' ∧ EXT (fun t => ((if t = 53 then 1 else 0) + (if t = 56 then 10 else 0)) + ((if t = 54 then 1 else 0) + (if t = 55 then 10 else 0))) ([53, 54], [(52, 0), (52, 1), (56, 0), (56, 2)]) al iv rv al' iv' rv' ∧ NN 52 i0 [0, 1] rv' ∧ (∀ j : Nat, j < 10 → rv' 53 0 j = some j ∧ rv' 54 0 j = some j ∧ (iv' 56 j 0).toInt = j ∧ (iv' 56 j 2).toInt = j))) 22 160 (Aq sz) := by
  refine mk_a (by decide) (Nat.le_of_ble_eq_true rfl) rfl ?_
  intro p e s m below meth c ls C hr hlk hnm hU hS hz hov hl
  have hz0 := hz
  have hx := C.1.1
  have hb := C.1.2.1
  have k0 : (0 : Int32).toInt = 0 := by decide
  have k1 : (1 : Int32).toInt = 1 := by decide
  have k10 : (10 : Int32).toInt = 10 := by decide
  obtain ⟨o, ho_o⟩ : ∃ z, al.2 52 i0 = z := ⟨_, rfl⟩
  have hi_o := hi0
  have hl : lv_has ls 2 [(0, .ref o)] := by rw [← ho_o]; exact hl
  have hE : EXT (fun _ => 0) ([53, 54], [(52, 0), (52, 1), (56, 0), (56, 2)]) al iv rv al iv rv := EXT.rf
  refine lv_aload_n hx hb dX7_init_0 rfl (lv_at hl 0 rfl) ?_
  refine W.objInit hx hb C.1.2.2.2.1 (C.1.2.2.2.2 _ oi_X7) (C.1.2.2.2.2 _ oi_m) (C.1.2.2.2.2 _ oi_c) rfl (by rw [C.1.2.2.1]; exact hl.1) rfl dX7_init_1 (Nat.le_of_ble_eq_true rfl) (Nat.le_of_ble_eq_true rfl) ?_
  refine W.eq (g2 := F0 m 4 ls []) rfl ?_
  refine lv_aload_n hx hb dX7_init_4 rfl (lv_at hl 0 rfl) ?_
  refine lv_bipush (v := 10) hx hb dX7_init_5 (by decide) ?_
  refine q_newr (t := 53) (Cn := "LateClaims$Port") C hU hS hB hz k_53 (by decide) (fun _ => rfl) kl_X7_9 C.2.2.2.1.1 (by decide) (by decide) (by decide) (Nat.le_of_ble_eq_true rfl) (Nat.le_of_ble_eq_true rfl) dX7_init_7 (fun a H hU hS hz => ?_)
  have hE9 := hE.new 53 a
  have hR9 := hR.new 53 a
  have hB9 := hB.new 53 a
  have hn9 := grow_new (al := al) (t := 53) (a := a)
  rw [c53] at hU hE9 hR9 hB9 hn9
  obtain ⟨al1, ea⟩ : ∃ z, z = grow al 53 a := ⟨_, rfl⟩
  obtain ⟨iv1, ei⟩ : ∃ z, z = clr iv 53 0 0 := ⟨_, rfl⟩
  obtain ⟨rv1, er⟩ : ∃ z, z = clr rv 53 0 none := ⟨_, rfl⟩
  rw [← ea] at hU hE9 hR9 hB9 hn9
  rw [← ei] at hU hE9 hR9
  rw [← er] at hU hE9 hB9
  have ho_o : al1.2 52 i0 = o := by rw [ea, grow_ad hi_o]; exact ho_o
  have hi_o : i0 < al1.1 52 := by rw [ea, grow_ct]; omega
  have hi_a : 0 < al1.1 53 := by rw [ea, grow_ct, c53]; simp
  refine W.eq (g2 := F0 m 10 ls [.ref (al1.2 53 0), .ref (al1.2 52 i0)]) (by rw [hn9, ho_o]) ?_
  refine q_putr (t := 52) (i := i0) (k := 0) (t' := 53) (j := 0) C hU hS k_52 (hc := rfl) uwX7 tyX7 tyX7_ok nmX7 hi_o (by decide) rfl (Or.inr ⟨rfl, hnm, rfl⟩) rfl fl_X7_11 dX7_init_10 (fun _ => rfl) (fun _ => rfl) (fun H locs hU hS => ?_)
  obtain ⟨rv2', er2⟩ : ∃ z, z = up3 rv1 52 i0 0 (some 0) := ⟨_, rfl⟩
  rw [← er2] at hU
  have hB2 : RB al1 rv2' := by rw [er2]; exact hB9.put rfl hi_a
  have hE2 := hE9.putr (t := 52) (i := i0) (k := 0) (x := some 0) (by decide)
  rw [← er2] at hE2
  have hf0 : rv2' 52 i0 0 = some 0 := by rw [er2]; exact up3_self _ _ _ _ _
  refine lv_iconst (v := 0) hx hb dX7_init_13 (by decide) ?_
  refine lv_istore_n (lv' := [(1, .int 0), (0, .ref o)]) hx hb dX7_init_14 rfl hl (by decide) rfl (fun ls hl => ?_)
  have LP : ∀ (n : Nat) (x : Int32) (al1 : Al) (iv1 : Iv) (rv1 : Rv) (H : Heap) (locs : List Loc) (ls : Array Slot), lv_has ls 2 [(1, .int x), (0, .ref o)] → (0 ≤ x.toInt ∧ x.toInt ≤ 10) → (10 - x.toInt).toNat < n → RG al1 iv1 → RB al1 rv1 → EXT (fun t => (if t = 53 then 1 else 0) + (if t = 56 then x.toInt.toNat else 0)) ([53, 54], [(52, 0), (52, 1), (56, 0), (56, 2)]) al iv rv al1 iv1 rv1 → al1.2 52 i0 = o → al1.2 53 0 = a → rv1 52 i0 0 = some 0 → (∀ j : Nat, (j : Int) < x.toInt → rv1 53 0 j = some j ∧ (iv1 56 j 0).toInt = j ∧ (iv1 56 j 2).toInt = j) → UW D cA sz al1 iv1 rv1 H → va_S (Aq sz) s.heap H locs → sz ≤ H.size → W p l e (rmA 2 22 160) s m [Value.ref (al.2 52 i0)].toArray below meth c H locs (1 + x.toInt.toNat) (10 + 4 * x.toInt.toNat) (MQ below (QVA D cA sz (fun al' iv' rv' => RG al' iv' ∧ RB al' rv' ∧ EXT (fun t => ((if t = 53 then 1 else 0) + (if t = 56 then 10 else 0)) + ((if t = 54 then 1 else 0) + (if t = 55 then 10 else 0))) ([53, 54], [(52, 0), (52, 1), (56, 0), (56, 2)]) al iv rv al' iv' rv' ∧ NN 52 i0 [0, 1] rv' ∧ (∀ j : Nat, j < 10 → rv' 53 0 j = some j ∧ rv' 54 0 j = some j ∧ (iv' 56 j 0).toInt = j ∧ (iv' 56 j 2).toInt = j))) [Value.ref (al.2 52 i0)].toArray s 22 160 (Aq sz)) (F0 m 15 ls []) := by
    intro n
    induction n with
    | zero =>
      intro x al1 iv1 rv1 H locs ls hl hxr hm
      exact absurd hm (Nat.not_lt_zero _)
    | succ n ih =>
      intro x al1 iv1 rv1 H locs ls hl hxr hm hR hB hE ho_o ho_a hf0 hj hU hS hz
      have hi_o : i0 < al1.1 52 := by rw [hE.1]; omega
      have hi_a : 0 < al1.1 53 := by rw [hE.1]; simp
      have q56 : al1.1 56 = x.toInt.toNat := by rw [hE.1, c56]; simp
      have q54 : al1.1 54 = 0 := by rw [hE.1, c54]; simp
      have q55 : al1.1 55 = 0 := by rw [hE.1, c55]; simp
      refine lv_iload_n hx hb dX7_init_15 rfl (lv_at hl 0 rfl) ?_
      refine lv_bipush (v := 10) hx hb dX7_init_16 (by decide) ?_
      refine b_icmp_ge (tgt := 41) hx hb dX7_init_18 (by decide) (fun cx => ?_) (fun cx => ?_)
      · have x10 : x.toInt = 10 := by omega
        refine W.widen (k := 11) (n := 50) (by omega) (by omega) ?_
        refine lv_aload_n hx hb dX7_init_41 rfl (lv_at hl 1 rfl) ?_
        refine lv_bipush (v := 10) hx hb dX7_init_42 (by decide) ?_
        refine lv_bipush (v := 10) hx hb dX7_init_44 (by decide) ?_
        refine q_mna C hU hS hB hz q54 q55 kl_X7_18 hov (Nat.le_of_ble_eq_true rfl) (Nat.le_of_ble_eq_true rfl) dX7_init_46 (fun a2 H hU hS hz => ?_)
        have hE3 := hE.two q54 q55 (by decide) a2
        have hR3 := hR.two a2
        have hB3 := hB.two q54 q55 a2
        have g1 : (al2 al1 a2).2 52 i0 = o := ho_o
        have g2 : (al2 al1 a2).2 54 0 = a2 := rfl
        have i1 : i0 < (al2 al1 a2).1 52 := hi_o
        have i2 : 0 < (al2 al1 a2).1 54 := Nat.zero_lt_one
        refine W.eq (g2 := F0 m 50 ls [.ref ((al2 al1 a2).2 54 0), .ref ((al2 al1 a2).2 52 i0)]) (by rw [g1, g2]) ?_
        refine q_putr (t := 52) (i := i0) (k := 1) (t' := 54) (j := 0) C hU hS k_52 (hc := rfl) uwX7 tyX7 tyX7_ok nmX7 i1 (by decide) rfl (Or.inr ⟨rfl, hnm, rfl⟩) rfl fl_X7_20 dX7_init_50 (fun _ => rfl) (fun _ => rfl) (fun H locs hU hS => ?_)
        refine W.widen (k := 22) (n := 160) (Nat.le_of_ble_eq_true rfl) (Nat.le_of_ble_eq_true rfl) ?_
        refine q_vretA C hr hlk hU hS ⟨hR3, hB3.put rfl i2, ?_, ?_, ?_⟩ dX7_init_53
        · have := hE3.putr (t := 52) (i := i0) (k := 1) (x := some 0) (by decide)
          rw [x10] at this
          exact this
        · intro k hk
          rcases List.mem_cons.mp hk with rfl | hk
          · exact ⟨0, by rw [up3_ne (fun z => absurd z.2.2 (by decide))]; simp [rv2]; exact hf0⟩
          · rcases List.mem_cons.mp hk with rfl | hk
            · exact ⟨0, up3_self _ _ _ _ _⟩
            · cases hk
        · intro j hj10
          have q := hj j (by omega)
          refine ⟨?_, ?_, ?_⟩
          · rw [up3_ne (fun z => absurd z.1 (by decide))]; exact q.1
          · rw [up3_ne (fun z => absurd z.1 (by decide))]; simp [rv2, hj10]
          · exact q.2
      · have xn := ix_nat hxr.1
        have xc : x.toNatClampNeg = x.toInt.toNat := clamp_n
        refine lv_aload_n hx hb dX7_init_21 rfl (lv_at hl 1 rfl) ?_
        refine W.eq (g2 := F0 m 22 ls [.ref (al1.2 52 i0)]) (by rw [ho_o]) ?_
        refine q_getr (t := 52) (i := i0) (k := 0) (t' := 53) (j := 0) C hU k_52 (hc := rfl) uwX7 hi_o (by decide) rfl rfl fl_X7_11 dX7_init_22 hf0 ?_
        refine W.eq (g2 := F0 m 25 ls [.ref a]) (by rw [ho_a]) ?_
        refine lv_iload_n hx hb dX7_init_25 rfl (lv_at hl 0 rfl) ?_
        refine q_newo (t := 56) C hU hS hB hz k_56 (hc := rfl) uwX6 tyX6 tyX6_ok (by decide +kernel) kl_X7_9 ib_X6 iz_X6 (by show _ ≤ 22; omega) (by show _ ≤ 160; omega) dX7_init_26 (fun b H hU hS hz => ?_)
        have hE9 := hE.new 56 b
        have hR9 := hR.new 56 b
        have hB9 := hB.new 56 b
        have hn9 := grow_new (al := al1) (t := 56) (a := b)
        rw [q56] at hU hE9 hR9 hB9 hn9
        obtain ⟨al3, ea⟩ : ∃ z, z = grow al1 56 b := ⟨_, rfl⟩
        obtain ⟨iv3, ei⟩ : ∃ z, z = clr iv1 56 x.toInt.toNat 0 := ⟨_, rfl⟩
        obtain ⟨rv3, er⟩ : ∃ z, z = clr rv1 56 x.toInt.toNat none := ⟨_, rfl⟩
        rw [← ea] at hU hE9 hR9 hB9 hn9
        rw [← ei] at hU hE9 hR9
        rw [← er] at hU hE9 hB9
        have ho_o3 : al3.2 52 i0 = o := by rw [ea, grow_ad hi_o]; exact ho_o
        have hi_a3 : 0 < al3.1 53 := by rw [ea, grow_ct]; omega
        have ho_a3 : al3.2 53 0 = a := by rw [ea, grow_ad hi_a]; exact ho_a
        have hi_b : x.toInt.toNat < al3.1 56 := by rw [ea, grow_ct, q56]; simp
        refine lv_dup hx hb dX7_init_29 rfl ?_
        refine lv_iload_n hx hb dX7_init_30 rfl (lv_at hl 0 rfl) ?_
        refine W.eq (g2 := F0 m 31 ls [.int x, .ref (al3.2 56 x.toInt.toNat), .ref b, .int x, .ref a]) (by rw [hn9]) ?_
        refine q_cvA (q_runIA (n := 1) (b := al3.2 56 x.toInt.toNat) (As := [.int x]) (rest := [.ref b, .int x, .ref a]) C hU hz (fun _ _ _ => trivial) (fun _ _ _ _ _ => trivial) (c_X6_init hR9 hB9 x.toInt.toNat hi_b x) cw_X6_init im_X6_init iz_X6 ml_X7_15 rfl (by decide +kernel) hl.1 rfl rfl (Nat.le_of_ble_eq_true rfl) dX7_init_31 rfl rfl ⟨Nat.le_of_ble_eq_true rfl, Nat.le_of_ble_eq_true rfl⟩ ⟨by show _ ≤ 22; omega, by show _ ≤ 160; omega⟩) hS hz (fun al4 iv4 rv4 H locs hp hU hS hz => ?_)
        obtain ⟨p1, p2, p3⟩ := hp
        rw [p1, p3] at hU
        refine W.eq (g2 := F0 m 34 ls [.ref (al3.2 56 x.toInt.toNat), .int x, .ref (al3.2 53 0)]) (by rw [hn9, ho_a3]) ?_
        refine s_53 (i := 0) (j := x.toInt.toNat) C hU hS hi_a3 hi_b (x := x) (by omega) (by omega) dX7_init_34 (fun rv5 H locs er5 hU hS => ?_)
        obtain ⟨y, ey⟩ : ∃ y : Int32, y = x + 1 := ⟨_, rfl⟩
        have ty : y.toInt = x.toInt + (1 : Int32).toInt := by rw [ey]; exact fb_addI (by omega) (by omega)
        refine lv_iinc (v := y) (lv' := [(1, .int y), (0, .ref o)]) hx hb dX7_init_35 hl (k := 0) rfl (by rw [ey]; rfl) (by decide) rfl (fun ls hl => ?_)
        refine lv_goto (tgt := 15) hx hb dX7_init_38 (by decide) ?_
        refine W.cs (cells' := 1 + y.toInt.toNat) (slots' := 10 + 4 * y.toInt.toNat) (by omega) (by omega) ?_
        have yn : y.toInt.toNat = x.toInt.toNat + 1 := by omega
        have hE5 := ((hE9.puti (t := 56) (i := x.toInt.toNat) (k := 0) (x := x) (by decide)).puti (t := 56) (i := x.toInt.toNat) (k := 2) (x := x) (by decide)).putr (t := 53) (i := 0) (k := x.toNatClampNeg) (x := some x.toInt.toNat) (Or.inl (by decide))
        rw [← p2, ← er5] at hE5
        refine ih y al3 iv4 rv5 H locs ls hl (by omega) (by omega) ?_ ?_ ?_ ho_o3 ho_a3 ?_ ?_ hU hS (Nat.le_trans hz0 hS.1)
        · rw [p2]; exact (hR9.put (show _ ∧ _ from ⟨show (0 : Int) ≤ _ by omega, show _ ≤ (9 : Int) by omega⟩)).put (show _ ∧ _ from ⟨show (0 : Int) ≤ _ by omega, show _ ≤ (9 : Int) by omega⟩)
        · rw [er5]; exact hB9.put rfl hi_b
        · have eN : (fun t => (if t = 53 then 1 else 0) + (if t = 56 then y.toInt.toNat else 0)) = nx (fun t => (if t = 53 then 1 else 0) + (if t = 56 then x.toInt.toNat else 0)) 56 := by
            funext t
            unfold nx
            by_cases e1 : t = 56
            · subst e1; simp [yn]
            · simp [e1]
          rw [eN]; exact hE5
        · rw [er5, up3_ne (fun z => absurd z.1 (by decide)), er, clr_ne (fun z => absurd z.1 (by decide))]; exact hf0
        · intro j hjy
          rcases Int.lt_or_le (j : Int) x.toInt with q | q
          · have q2 := hj j q
            refine ⟨?_, ?_⟩
            · rw [er5, up3_ne (fun z => by omega), er, clr_ne (fun z => absurd z.1 (by decide))]; exact q2.1
            · exact ⟨by rw [p2, up3_ne (fun z => by omega), up3_ne (fun z => by omega), ei, clr_ne (fun z => by omega)]; exact q2.2.1, by rw [p2, up3_ne (fun z => by omega), up3_ne (fun z => by omega), ei, clr_ne (fun z => by omega)]; exact q2.2.2⟩
          · have ej : j = x.toInt.toNat := by omega
            refine ⟨?_, ?_⟩
            · rw [er5, ej, ← xc]; exact up3_self _ _ _ _ _
            · exact ⟨by rw [p2, ej, up3_ne (fun z => absurd z.2.2 (by decide)), up3_self]; omega, by rw [p2, ej, up3_self]; omega⟩
  refine W.cs (cells' := 1 + (0 : Int32).toInt.toNat) (slots' := 10 + 4 * (0 : Int32).toInt.toNat) (by rw [k0]; rfl) (by rw [k0]; rfl) ?_
  refine LP 11 0 al1 iv1 rv2' _ _ ls hl (by omega) (by omega) hR9 hB2 ?_ ho_o hn9 hf0 (fun j q => by omega) hU hS (Nat.le_trans hz0 hS.1)
  have eN : (fun t => (if t = 53 then 1 else 0) + (if t = 56 then (0 : Int32).toInt.toNat else 0)) = nx (fun _ => 0) 53 := by
    funext t; unfold nx; rw [k0]; simp
  rw [eN]; exact hE2
