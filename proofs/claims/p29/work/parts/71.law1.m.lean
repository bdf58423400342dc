section
set_option maxHeartbeats 4000000 in
set_option maxRecDepth 100000 in
theorem law_9 {p : Program} {l : Launch} {e : Env} {s : State} {m : MethodId} {below : List Frame} {meth : Method} {c : Code} {b L : Nat} {xs : Nat → Int32} {D : va_G} {cA : FieldType → ClassId} {ls : Array Slot} {Q : State → Prop} {H : Heap} {locs : List Loc} {cells slots : Nat} {i : Int32} {ox om : Nat} {al : Al} {iv : Iv} {rv : Rv} (X : LX p s m c b L xs D cA) (hl : lv_has ls 4 [(3, .int i), (2, .ref om), (1, .ref ox), (0, .ref b)]) (hi : 0 ≤ i.toInt ∧ i.toInt + 6 < L) (hQ : LSt ox om al iv rv) (hU : UW D cA s.heap.size al iv rv H) (hS : va_S (Aq s.heap.size) s.heap H locs) (hc : cells + 3 ≤ 600000 ∧ slots + 16 ≤ 7302250)
    (kk : ∀ (al' : Al) (iv' : Iv) (rv' : Rv) (H' : Heap) (locs' : List Loc), LSt ox om al' iv' rv' → UW D cA s.heap.size al' iv' rv' H' → va_S (Aq s.heap.size) s.heap H' locs' → W p l e room_1 s m #[Value.ref b] below meth c H' locs' (cells + 3) (slots + 16) Q (F0 m 1475 ls [])) : W p l e room_1 s m #[Value.ref b] below meth c H locs cells slots Q (F0 m 537 ls []) := by
  obtain ⟨hG, hox, hom, hRel⟩ := hQ
  have C := X.1
  have hx := C.1.1
  have hb := C.1.2.1
  obtain ⟨v1, e1⟩ : ∃ z, xs (i + 1).toNatClampNeg = z := ⟨_, rfl⟩
  obtain ⟨v2, e2⟩ : ∃ z, xs (i + 2).toNatClampNeg = z := ⟨_, rfl⟩
  refine lv_aload_n hx hb dL_law_537 rfl (lv_at hl 2 rfl) ?_
  refine lv_aload_n hx hb dL_law_538 rfl (lv_at hl 3 rfl) ?_
  refine lv_iload_n hx hb dL_law_539 rfl (lv_at hl 0 rfl) ?_
  refine lv_iconst (v := 1) hx hb dL_law_540 (by decide) ?_
  refine q_ai X hS (k := 1) (by decide) hi e1 dL_law_541 dL_law_542 ?_
  refine lv_aload_n hx hb dL_law_543 rfl (lv_at hl 3 rfl) ?_
  refine lv_iload_n hx hb dL_law_544 rfl (lv_at hl 0 rfl) ?_
  refine lv_iconst (v := 2) hx hb dL_law_545 (by decide) ?_
  refine q_ai X hS (k := 2) (by decide) hi e2 dL_law_546 dL_law_547 ?_
  have hG0 := hG
  have hGp := hG
  refine W.eq (g2 := F0 m 548 ls [.int v2, .int v1, .ref (al.2 49 0)]) (by rw [hox]) ?_
  refine q_fi (q_runV (t := 49) (i := 0) (As := [.int v1, .int v2]) (rest := []) C hU (c_X11_legOf hG v1 v2) vm_X11_legOf ml_L_53 k_49.1 (hc := rfl) rfl (h1_49 hG) hl.1 rfl rfl (Nat.le_of_ble_eq_true rfl) dL_law_548 rfl rfl ⟨Nat.le_of_ble_eq_true rfl, Nat.le_of_ble_eq_true rfl⟩ ⟨by show cells + 0 ≤ 600000; omega, by show slots + 0 ≤ 7302250; omega⟩) hS (fun r1 iv1 rv1 H locs hG f1 g1 hp1 hU hS => ?_)
  have hRel := hRel.fr hGp f1 g1 (by decide)
  refine lv_pop hx hb dL_law_551 rfl ?_
  refine lv_aload_n hx hb dL_law_552 rfl (lv_at hl 1 rfl) ?_
  refine lv_aload_n hx hb dL_law_553 rfl (lv_at hl 3 rfl) ?_
  refine lv_iload_n hx hb dL_law_554 rfl (lv_at hl 0 rfl) ?_
  refine lv_iconst (v := 1) hx hb dL_law_555 (by decide) ?_
  refine q_ai X hS (k := 1) (by decide) hi e1 dL_law_556 dL_law_557 ?_
  refine lv_aload_n hx hb dL_law_558 rfl (lv_at hl 3 rfl) ?_
  refine lv_iload_n hx hb dL_law_559 rfl (lv_at hl 0 rfl) ?_
  refine lv_iconst (v := 2) hx hb dL_law_560 (by decide) ?_
  refine q_ai X hS (k := 2) (by decide) hi e2 dL_law_561 dL_law_562 ?_
  have hGp := hG
  refine W.eq (g2 := F0 m 563 ls [.int v2, .int v1, .ref (al.2 0 0)]) (by rw [hom]) ?_
  refine q_fi (q_runV (t := 0) (i := 0) (As := [.int v1, .int v2]) (rest := []) C hU (c_X12_legOf hG v1 v2) vm_X12_legOf ml_L_56 k_0.1 (hc := rfl) rfl (h1_0 hG) hl.1 rfl rfl (Nat.le_of_ble_eq_true rfl) dL_law_563 rfl rfl ⟨Nat.le_of_ble_eq_true rfl, Nat.le_of_ble_eq_true rfl⟩ ⟨by show cells + 0 ≤ 600000; omega, by show slots + 0 ≤ 7302250; omega⟩) hS (fun r2 iv2 rv2 H locs hG f2 g2 hp2 hU hS => ?_)
  have hRel := hRel.fr hGp f2 g2 (by decide)
  refine lv_pop hx hb dL_law_566 rfl ?_
  refine lv_goto (tgt := 1475) hx hb dL_law_567 (by decide) ?_
  refine W.widen (k := cells + 3) (n := slots + 16) (by omega) (by omega) ?_
  exact kk _ _ _ _ _ ⟨hG, hox, hom, hRel⟩ hU hS
set_option maxHeartbeats 4000000 in
set_option maxRecDepth 100000 in
theorem law_10 {p : Program} {l : Launch} {e : Env} {s : State} {m : MethodId} {below : List Frame} {meth : Method} {c : Code} {b L : Nat} {xs : Nat → Int32} {D : va_G} {cA : FieldType → ClassId} {ls : Array Slot} {Q : State → Prop} {H : Heap} {locs : List Loc} {cells slots : Nat} {i : Int32} {ox om : Nat} {al : Al} {iv : Iv} {rv : Rv} (X : LX p s m c b L xs D cA) (hl : lv_has ls 4 [(3, .int i), (2, .ref om), (1, .ref ox), (0, .ref b)]) (hi : 0 ≤ i.toInt ∧ i.toInt + 6 < L) (hQ : LSt ox om al iv rv) (hU : UW D cA s.heap.size al iv rv H) (hS : va_S (Aq s.heap.size) s.heap H locs) (hc : cells + 3 ≤ 600000 ∧ slots + 16 ≤ 7302250)
    (kk : ∀ (al' : Al) (iv' : Iv) (rv' : Rv) (H' : Heap) (locs' : List Loc), LSt ox om al' iv' rv' → UW D cA s.heap.size al' iv' rv' H' → va_S (Aq s.heap.size) s.heap H' locs' → W p l e room_1 s m #[Value.ref b] below meth c H' locs' (cells + 3) (slots + 16) Q (F0 m 1475 ls [])) : W p l e room_1 s m #[Value.ref b] below meth c H locs cells slots Q (F0 m 570 ls []) := by
  obtain ⟨hG, hox, hom, hRel⟩ := hQ
  have C := X.1
  have hx := C.1.1
  have hb := C.1.2.1
  obtain ⟨v1, e1⟩ : ∃ z, xs (i + 1).toNatClampNeg = z := ⟨_, rfl⟩
  obtain ⟨v2, e2⟩ : ∃ z, xs (i + 2).toNatClampNeg = z := ⟨_, rfl⟩
  refine lv_aload_n hx hb dL_law_570 rfl (lv_at hl 2 rfl) ?_
  refine lv_aload_n hx hb dL_law_571 rfl (lv_at hl 3 rfl) ?_
  refine lv_iload_n hx hb dL_law_572 rfl (lv_at hl 0 rfl) ?_
  refine lv_iconst (v := 1) hx hb dL_law_573 (by decide) ?_
  refine q_ai X hS (k := 1) (by decide) hi e1 dL_law_574 dL_law_575 ?_
  refine lv_aload_n hx hb dL_law_576 rfl (lv_at hl 3 rfl) ?_
  refine lv_iload_n hx hb dL_law_577 rfl (lv_at hl 0 rfl) ?_
  refine lv_iconst (v := 2) hx hb dL_law_578 (by decide) ?_
  refine q_ai X hS (k := 2) (by decide) hi e2 dL_law_579 dL_law_580 ?_
  have J_589 : ∀ zv2 : Int32, (0 ≤ zv2.toInt ∧ zv2.toInt ≤ 1) → zv2 = bz v2 → W p l e room_1 s m #[Value.ref b] below meth c H locs cells slots Q (F0 m 589 ls [.int zv2, .int v1, .ref ox]) := by
    intro zv2 rzv2 qzv2
    have hG0 := hG
    have hGp := hG
    refine W.eq (g2 := F0 m 589 ls [.int zv2, .int v1, .ref (al.2 49 0)]) (by rw [hox]) ?_
    refine q_fi (q_runV (t := 49) (i := 0) (As := [.int v1, .int zv2]) (rest := []) C hU (c_X11_ahead hG v1 zv2) vm_X11_ahead ml_L_57 k_49.1 (hc := rfl) rfl (h1_49 hG) hl.1 rfl rfl (Nat.le_of_ble_eq_true rfl) dL_law_589 rfl rfl ⟨Nat.le_of_ble_eq_true rfl, Nat.le_of_ble_eq_true rfl⟩ ⟨by show cells + 0 ≤ 600000; omega, by show slots + 0 ≤ 7302250; omega⟩) hS (fun r1 iv1 rv1 H locs hG f1 g1 hp1 hU hS => ?_)
    have hRel := hRel.fr hGp f1 g1 (by decide)
    refine lv_pop hx hb dL_law_592 rfl ?_
    refine lv_aload_n hx hb dL_law_593 rfl (lv_at hl 1 rfl) ?_
    refine lv_aload_n hx hb dL_law_594 rfl (lv_at hl 3 rfl) ?_
    refine lv_iload_n hx hb dL_law_595 rfl (lv_at hl 0 rfl) ?_
    refine lv_iconst (v := 1) hx hb dL_law_596 (by decide) ?_
    refine q_ai X hS (k := 1) (by decide) hi e1 dL_law_597 dL_law_598 ?_
    refine lv_aload_n hx hb dL_law_599 rfl (lv_at hl 3 rfl) ?_
    refine lv_iload_n hx hb dL_law_600 rfl (lv_at hl 0 rfl) ?_
    refine lv_iconst (v := 2) hx hb dL_law_601 (by decide) ?_
    refine q_ai X hS (k := 2) (by decide) hi e2 dL_law_602 dL_law_603 ?_
    have J_612 : ∀ zv2m : Int32, (0 ≤ zv2m.toInt ∧ zv2m.toInt ≤ 1) → zv2m = bz v2 → W p l e room_1 s m #[Value.ref b] below meth c H locs cells slots Q (F0 m 612 ls [.int zv2m, .int v1, .ref om]) := by
      intro zv2m rzv2m qzv2m
      have hGp := hG
      refine W.eq (g2 := F0 m 612 ls [.int zv2m, .int v1, .ref (al.2 0 0)]) (by rw [hom]) ?_
      refine q_fi (q_runV (t := 0) (i := 0) (As := [.int v1, .int zv2m]) (rest := []) C hU (c_X12_ahead hG v1 zv2m rzv2m) vm_X12_ahead ml_L_61 k_0.1 (hc := rfl) rfl (h1_0 hG) hl.1 rfl rfl (Nat.le_of_ble_eq_true rfl) dL_law_612 rfl rfl ⟨Nat.le_of_ble_eq_true rfl, Nat.le_of_ble_eq_true rfl⟩ ⟨by show cells + 0 ≤ 600000; omega, by show slots + 0 ≤ 7302250; omega⟩) hS (fun r2 iv2 rv2 H locs hG f2 g2 hp2 hU hS => ?_)
      have hRel := hRel.fr hGp f2 g2 (by decide)
      refine lv_pop hx hb dL_law_615 rfl ?_
      refine lv_goto (tgt := 1475) hx hb dL_law_616 (by decide) ?_
      refine W.widen (k := cells + 3) (n := slots + 16) (by omega) (by omega) ?_
      exact kk _ _ _ _ _ ⟨hG, hox, hom, hRel⟩ hU hS
    refine b_if_eq (tgt := 611) hx hb dL_law_604 (by decide) (fun c0 => ?_) (fun c0 => ?_)
    · refine lv_iconst (v := 0) hx hb dL_law_611 (by decide) ?_
      exact J_612 0 ⟨by decide, by decide⟩ (bz_0 c0)
    · refine lv_iconst (v := 1) hx hb dL_law_607 (by decide) ?_
      refine lv_goto (tgt := 612) hx hb dL_law_608 (by decide) ?_
      exact J_612 1 ⟨by decide, by decide⟩ (bz_1 c0)
  refine b_if_eq (tgt := 588) hx hb dL_law_581 (by decide) (fun c0 => ?_) (fun c0 => ?_)
  · refine lv_iconst (v := 0) hx hb dL_law_588 (by decide) ?_
    exact J_589 0 ⟨by decide, by decide⟩ (bz_0 c0)
  · refine lv_iconst (v := 1) hx hb dL_law_584 (by decide) ?_
    refine lv_goto (tgt := 589) hx hb dL_law_585 (by decide) ?_
    exact J_589 1 ⟨by decide, by decide⟩ (bz_1 c0)
set_option maxHeartbeats 4000000 in
set_option maxRecDepth 100000 in
theorem law_11 {p : Program} {l : Launch} {e : Env} {s : State} {m : MethodId} {below : List Frame} {meth : Method} {c : Code} {b L : Nat} {xs : Nat → Int32} {D : va_G} {cA : FieldType → ClassId} {ls : Array Slot} {Q : State → Prop} {H : Heap} {locs : List Loc} {cells slots : Nat} {i : Int32} {ox om : Nat} {al : Al} {iv : Iv} {rv : Rv} (X : LX p s m c b L xs D cA) (hl : lv_has ls 4 [(3, .int i), (2, .ref om), (1, .ref ox), (0, .ref b)]) (hi : 0 ≤ i.toInt ∧ i.toInt + 6 < L) (hQ : LSt ox om al iv rv) (hU : UW D cA s.heap.size al iv rv H) (hS : va_S (Aq s.heap.size) s.heap H locs) (hc : cells + 3 ≤ 600000 ∧ slots + 16 ≤ 7302250)
    (kk : ∀ (al' : Al) (iv' : Iv) (rv' : Rv) (H' : Heap) (locs' : List Loc), LSt ox om al' iv' rv' → UW D cA s.heap.size al' iv' rv' H' → va_S (Aq s.heap.size) s.heap H' locs' → W p l e room_1 s m #[Value.ref b] below meth c H' locs' (cells + 3) (slots + 16) Q (F0 m 1475 ls [])) : W p l e room_1 s m #[Value.ref b] below meth c H locs cells slots Q (F0 m 619 ls []) := by
  obtain ⟨hG, hox, hom, hRel⟩ := hQ
  have C := X.1
  have hx := C.1.1
  have hb := C.1.2.1
  obtain ⟨v1, e1⟩ : ∃ z, xs (i + 1).toNatClampNeg = z := ⟨_, rfl⟩
  obtain ⟨v2, e2⟩ : ∃ z, xs (i + 2).toNatClampNeg = z := ⟨_, rfl⟩
  refine lv_aload_n hx hb dL_law_619 rfl (lv_at hl 2 rfl) ?_
  refine lv_aload_n hx hb dL_law_620 rfl (lv_at hl 3 rfl) ?_
  refine lv_iload_n hx hb dL_law_621 rfl (lv_at hl 0 rfl) ?_
  refine lv_iconst (v := 1) hx hb dL_law_622 (by decide) ?_
  refine q_ai X hS (k := 1) (by decide) hi e1 dL_law_623 dL_law_624 ?_
  refine lv_aload_n hx hb dL_law_625 rfl (lv_at hl 3 rfl) ?_
  refine lv_iload_n hx hb dL_law_626 rfl (lv_at hl 0 rfl) ?_
  refine lv_iconst (v := 2) hx hb dL_law_627 (by decide) ?_
  refine q_ai X hS (k := 2) (by decide) hi e2 dL_law_628 dL_law_629 ?_
  have hG0 := hG
  have hGp := hG
  refine W.eq (g2 := F0 m 630 ls [.int v2, .int v1, .ref (al.2 49 0)]) (by rw [hox]) ?_
  refine q_fi (q_runV (t := 49) (i := 0) (As := [.int v1, .int v2]) (rest := []) C hU (c_X11_minutes hG v1 v2) vm_X11_minutes ml_L_62 k_49.1 (hc := rfl) rfl (h1_49 hG) hl.1 rfl rfl (Nat.le_of_ble_eq_true rfl) dL_law_630 rfl rfl ⟨Nat.le_of_ble_eq_true rfl, Nat.le_of_ble_eq_true rfl⟩ ⟨by show cells + 0 ≤ 600000; omega, by show slots + 0 ≤ 7302250; omega⟩) hS (fun r1 iv1 rv1 H locs hG f1 g1 hp1 hU hS => ?_)
  have hRel := hRel.fr hGp f1 g1 (by decide)
  refine lv_pop hx hb dL_law_633 rfl ?_
  refine lv_aload_n hx hb dL_law_634 rfl (lv_at hl 1 rfl) ?_
  refine lv_aload_n hx hb dL_law_635 rfl (lv_at hl 3 rfl) ?_
  refine lv_iload_n hx hb dL_law_636 rfl (lv_at hl 0 rfl) ?_
  refine lv_iconst (v := 1) hx hb dL_law_637 (by decide) ?_
  refine q_ai X hS (k := 1) (by decide) hi e1 dL_law_638 dL_law_639 ?_
  refine lv_aload_n hx hb dL_law_640 rfl (lv_at hl 3 rfl) ?_
  refine lv_iload_n hx hb dL_law_641 rfl (lv_at hl 0 rfl) ?_
  refine lv_iconst (v := 2) hx hb dL_law_642 (by decide) ?_
  refine q_ai X hS (k := 2) (by decide) hi e2 dL_law_643 dL_law_644 ?_
  have hGp := hG
  refine W.eq (g2 := F0 m 645 ls [.int v2, .int v1, .ref (al.2 0 0)]) (by rw [hom]) ?_
  refine q_fi (q_runV (t := 0) (i := 0) (As := [.int v1, .int v2]) (rest := []) C hU (c_X12_minutes hG v1 v2) vm_X12_minutes ml_L_65 k_0.1 (hc := rfl) rfl (h1_0 hG) hl.1 rfl rfl (Nat.le_of_ble_eq_true rfl) dL_law_645 rfl rfl ⟨Nat.le_of_ble_eq_true rfl, Nat.le_of_ble_eq_true rfl⟩ ⟨by show cells + 0 ≤ 600000; omega, by show slots + 0 ≤ 7302250; omega⟩) hS (fun r2 iv2 rv2 H locs hG f2 g2 hp2 hU hS => ?_)
  have hRel := hRel.fr hGp f2 g2 (by decide)
  refine lv_pop hx hb dL_law_648 rfl ?_
  refine lv_goto (tgt := 1475) hx hb dL_law_649 (by decide) ?_
  refine W.widen (k := cells + 3) (n := slots + 16) (by omega) (by omega) ?_
  exact kk _ _ _ _ _ ⟨hG, hox, hom, hRel⟩ hU hS
set_option maxHeartbeats 4000000 in
set_option maxRecDepth 100000 in
theorem law_12 {p : Program} {l : Launch} {e : Env} {s : State} {m : MethodId} {below : List Frame} {meth : Method} {c : Code} {b L : Nat} {xs : Nat → Int32} {D : va_G} {cA : FieldType → ClassId} {ls : Array Slot} {Q : State → Prop} {H : Heap} {locs : List Loc} {cells slots : Nat} {i : Int32} {ox om : Nat} {al : Al} {iv : Iv} {rv : Rv} (X : LX p s m c b L xs D cA) (hl : lv_has ls 4 [(3, .int i), (2, .ref om), (1, .ref ox), (0, .ref b)]) (hi : 0 ≤ i.toInt ∧ i.toInt + 6 < L) (hQ : LSt ox om al iv rv) (hU : UW D cA s.heap.size al iv rv H) (hS : va_S (Aq s.heap.size) s.heap H locs) (hc : cells + 3 ≤ 600000 ∧ slots + 16 ≤ 7302250)
    (kk : ∀ (al' : Al) (iv' : Iv) (rv' : Rv) (H' : Heap) (locs' : List Loc), LSt ox om al' iv' rv' → UW D cA s.heap.size al' iv' rv' H' → va_S (Aq s.heap.size) s.heap H' locs' → W p l e room_1 s m #[Value.ref b] below meth c H' locs' (cells + 3) (slots + 16) Q (F0 m 1475 ls [])) : W p l e room_1 s m #[Value.ref b] below meth c H locs cells slots Q (F0 m 652 ls []) := by
  obtain ⟨hG, hox, hom, hRel⟩ := hQ
  have C := X.1
  have hx := C.1.1
  have hb := C.1.2.1
  obtain ⟨v1, e1⟩ : ∃ z, xs (i + 1).toNatClampNeg = z := ⟨_, rfl⟩
  obtain ⟨v2, e2⟩ : ∃ z, xs (i + 2).toNatClampNeg = z := ⟨_, rfl⟩
  refine lv_aload_n hx hb dL_law_652 rfl (lv_at hl 2 rfl) ?_
  refine lv_aload_n hx hb dL_law_653 rfl (lv_at hl 3 rfl) ?_
  refine lv_iload_n hx hb dL_law_654 rfl (lv_at hl 0 rfl) ?_
  refine lv_iconst (v := 1) hx hb dL_law_655 (by decide) ?_
  refine q_ai X hS (k := 1) (by decide) hi e1 dL_law_656 dL_law_657 ?_
  refine lv_aload_n hx hb dL_law_658 rfl (lv_at hl 3 rfl) ?_
  refine lv_iload_n hx hb dL_law_659 rfl (lv_at hl 0 rfl) ?_
  refine lv_iconst (v := 2) hx hb dL_law_660 (by decide) ?_
  refine q_ai X hS (k := 2) (by decide) hi e2 dL_law_661 dL_law_662 ?_
  have hG0 := hG
  have hGp := hG
  refine W.eq (g2 := F0 m 663 ls [.int v2, .int v1, .ref (al.2 49 0)]) (by rw [hox]) ?_
  refine q_fi (q_runV (t := 49) (i := 0) (As := [.int v1, .int v2]) (rest := []) C hU (c_X11_saved hG v1 v2) vm_X11_saved ml_L_66 k_49.1 (hc := rfl) rfl (h1_49 hG) hl.1 rfl rfl (Nat.le_of_ble_eq_true rfl) dL_law_663 rfl rfl ⟨Nat.le_of_ble_eq_true rfl, Nat.le_of_ble_eq_true rfl⟩ ⟨by show cells + 0 ≤ 600000; omega, by show slots + 0 ≤ 7302250; omega⟩) hS (fun r1 iv1 rv1 H locs hG f1 g1 hp1 hU hS => ?_)
  have hRel := hRel.fr hGp f1 g1 (by decide)
  refine lv_pop hx hb dL_law_666 rfl ?_
  refine lv_aload_n hx hb dL_law_667 rfl (lv_at hl 1 rfl) ?_
  refine lv_aload_n hx hb dL_law_668 rfl (lv_at hl 3 rfl) ?_
  refine lv_iload_n hx hb dL_law_669 rfl (lv_at hl 0 rfl) ?_
  refine lv_iconst (v := 1) hx hb dL_law_670 (by decide) ?_
  refine q_ai X hS (k := 1) (by decide) hi e1 dL_law_671 dL_law_672 ?_
  refine lv_aload_n hx hb dL_law_673 rfl (lv_at hl 3 rfl) ?_
  refine lv_iload_n hx hb dL_law_674 rfl (lv_at hl 0 rfl) ?_
  refine lv_iconst (v := 2) hx hb dL_law_675 (by decide) ?_
  refine q_ai X hS (k := 2) (by decide) hi e2 dL_law_676 dL_law_677 ?_
  have hGp := hG
  refine W.eq (g2 := F0 m 678 ls [.int v2, .int v1, .ref (al.2 0 0)]) (by rw [hom]) ?_
  refine q_fi (q_runV (t := 0) (i := 0) (As := [.int v1, .int v2]) (rest := []) C hU (c_X12_saved hG v1 v2) vm_X12_saved ml_L_69 k_0.1 (hc := rfl) rfl (h1_0 hG) hl.1 rfl rfl (Nat.le_of_ble_eq_true rfl) dL_law_678 rfl rfl ⟨Nat.le_of_ble_eq_true rfl, Nat.le_of_ble_eq_true rfl⟩ ⟨by show cells + 0 ≤ 600000; omega, by show slots + 0 ≤ 7302250; omega⟩) hS (fun r2 iv2 rv2 H locs hG f2 g2 hp2 hU hS => ?_)
  have hRel := hRel.fr hGp f2 g2 (by decide)
  refine lv_pop hx hb dL_law_681 rfl ?_
  refine lv_goto (tgt := 1475) hx hb dL_law_682 (by decide) ?_
  refine W.widen (k := cells + 3) (n := slots + 16) (by omega) (by omega) ?_
  exact kk _ _ _ _ _ ⟨hG, hox, hom, hRel⟩ hU hS
set_option maxHeartbeats 4000000 in
set_option maxRecDepth 100000 in
theorem law_13 {p : Program} {l : Launch} {e : Env} {s : State} {m : MethodId} {below : List Frame} {meth : Method} {c : Code} {b L : Nat} {xs : Nat → Int32} {D : va_G} {cA : FieldType → ClassId} {ls : Array Slot} {Q : State → Prop} {H : Heap} {locs : List Loc} {cells slots : Nat} {i : Int32} {ox om : Nat} {al : Al} {iv : Iv} {rv : Rv} (X : LX p s m c b L xs D cA) (hl : lv_has ls 4 [(3, .int i), (2, .ref om), (1, .ref ox), (0, .ref b)]) (hi : 0 ≤ i.toInt ∧ i.toInt + 6 < L) (hQ : LSt ox om al iv rv) (hU : UW D cA s.heap.size al iv rv H) (hS : va_S (Aq s.heap.size) s.heap H locs) (hc : cells + 3 ≤ 600000 ∧ slots + 16 ≤ 7302250)
    (kk : ∀ (al' : Al) (iv' : Iv) (rv' : Rv) (H' : Heap) (locs' : List Loc), LSt ox om al' iv' rv' → UW D cA s.heap.size al' iv' rv' H' → va_S (Aq s.heap.size) s.heap H' locs' → W p l e room_1 s m #[Value.ref b] below meth c H' locs' (cells + 3) (slots + 16) Q (F0 m 1475 ls [])) : W p l e room_1 s m #[Value.ref b] below meth c H locs cells slots Q (F0 m 685 ls []) := by
  obtain ⟨hG, hox, hom, hRel⟩ := hQ
  have C := X.1
  have hx := C.1.1
  have hb := C.1.2.1
  obtain ⟨v1, e1⟩ : ∃ z, xs (i + 1).toNatClampNeg = z := ⟨_, rfl⟩
  refine lv_aload_n hx hb dL_law_685 rfl (lv_at hl 2 rfl) ?_
  refine lv_aload_n hx hb dL_law_686 rfl (lv_at hl 3 rfl) ?_
  refine lv_iload_n hx hb dL_law_687 rfl (lv_at hl 0 rfl) ?_
  refine lv_iconst (v := 1) hx hb dL_law_688 (by decide) ?_
  refine q_ai X hS (k := 1) (by decide) hi e1 dL_law_689 dL_law_690 ?_
  have hG0 := hG
  have hGp := hG
  refine W.eq (g2 := F0 m 691 ls [.int v1, .ref (al.2 49 0)]) (by rw [hox]) ?_
  refine q_ciA (q_runVA (t := 49) (i := 0) (As := [.int v1]) (rest := []) C hU hS.1 (c_X11_traveller_y hG v1) vm_X11_traveller ml_L_70 k_49.1 (hc := rfl) rfl (h1_49 hG) hl.1 rfl rfl (Nat.le_of_ble_eq_true rfl) dL_law_691 rfl rfl ⟨Nat.le_of_ble_eq_true rfl, Nat.le_of_ble_eq_true rfl⟩ ⟨by show cells + 3 ≤ 600000; omega, by show slots + 16 ≤ 7302250; omega⟩) hS hS.1 (fun r1 al1 iv1 rv1 H locs hp1 hU hS _ => ?_)
  obtain ⟨hG1, hE1, hp1⟩ := hp1
  have hox := (hE1.2.1 49 0 (h1_49 hG)).trans hox
  have hom := (hE1.2.1 0 0 (h1_0 hG)).trans hom
  have hG := hG1
  refine W.widen (k := cells + 3) (n := slots + 16) (by omega) (by omega) ?_
  refine lv_pop hx hb dL_law_694 rfl ?_
  refine lv_aload_n hx hb dL_law_695 rfl (lv_at hl 1 rfl) ?_
  refine lv_aload_n hx hb dL_law_696 rfl (lv_at hl 3 rfl) ?_
  refine lv_iload_n hx hb dL_law_697 rfl (lv_at hl 0 rfl) ?_
  refine lv_iconst (v := 1) hx hb dL_law_698 (by decide) ?_
  refine q_ai X hS (k := 1) (by decide) hi e1 dL_law_699 dL_law_700 ?_
  have hGp := hG
  refine W.eq (g2 := F0 m 701 ls [.int v1, .ref (al1.2 0 0)]) (by rw [hom]) ?_
  refine q_fi (q_runV (t := 0) (i := 0) (As := [.int v1]) (rest := []) C hU (c_X12_traveller_y hG v1) vm_X12_traveller ml_L_73 k_0.1 (hc := rfl) rfl (h1_0 hG) hl.1 rfl rfl (Nat.le_of_ble_eq_true rfl) dL_law_701 rfl rfl ⟨Nat.le_of_ble_eq_true rfl, Nat.le_of_ble_eq_true rfl⟩ ⟨by show (cells + 3) + 0 ≤ 600000; omega, by show (slots + 16) + 0 ≤ 7302250; omega⟩) hS (fun r2 iv2 rv2 H locs hG f2 g2 hp2 hU hS => ?_)
  have hRel := REL.s_traveller hG0 hRel hp1 hp2 hE1 f2 g2
  refine lv_pop hx hb dL_law_704 rfl ?_
  refine lv_goto (tgt := 1475) hx hb dL_law_705 (by decide) ?_
  exact kk _ _ _ _ _ ⟨hG, hox, hom, hRel⟩ hU hS
set_option maxHeartbeats 4000000 in
set_option maxRecDepth 100000 in
theorem law_14 {p : Program} {l : Launch} {e : Env} {s : State} {m : MethodId} {below : List Frame} {meth : Method} {c : Code} {b L : Nat} {xs : Nat → Int32} {D : va_G} {cA : FieldType → ClassId} {ls : Array Slot} {Q : State → Prop} {H : Heap} {locs : List Loc} {cells slots : Nat} {i : Int32} {ox om : Nat} {al : Al} {iv : Iv} {rv : Rv} (X : LX p s m c b L xs D cA) (hl : lv_has ls 4 [(3, .int i), (2, .ref om), (1, .ref ox), (0, .ref b)]) (hi : 0 ≤ i.toInt ∧ i.toInt + 6 < L) (hQ : LSt ox om al iv rv) (hU : UW D cA s.heap.size al iv rv H) (hS : va_S (Aq s.heap.size) s.heap H locs) (hc : cells + 3 ≤ 600000 ∧ slots + 16 ≤ 7302250)
    (kk : ∀ (al' : Al) (iv' : Iv) (rv' : Rv) (H' : Heap) (locs' : List Loc), LSt ox om al' iv' rv' → UW D cA s.heap.size al' iv' rv' H' → va_S (Aq s.heap.size) s.heap H' locs' → W p l e room_1 s m #[Value.ref b] below meth c H' locs' (cells + 3) (slots + 16) Q (F0 m 1475 ls [])) : W p l e room_1 s m #[Value.ref b] below meth c H locs cells slots Q (F0 m 708 ls []) := by
  obtain ⟨hG, hox, hom, hRel⟩ := hQ
  have C := X.1
  have hx := C.1.1
  have hb := C.1.2.1
  obtain ⟨v1, e1⟩ : ∃ z, xs (i + 1).toNatClampNeg = z := ⟨_, rfl⟩
  obtain ⟨v2, e2⟩ : ∃ z, xs (i + 2).toNatClampNeg = z := ⟨_, rfl⟩
  refine lv_aload_n hx hb dL_law_708 rfl (lv_at hl 2 rfl) ?_
  refine lv_aload_n hx hb dL_law_709 rfl (lv_at hl 3 rfl) ?_
  refine lv_iload_n hx hb dL_law_710 rfl (lv_at hl 0 rfl) ?_
  refine lv_iconst (v := 1) hx hb dL_law_711 (by decide) ?_
  refine q_ai X hS (k := 1) (by decide) hi e1 dL_law_712 dL_law_713 ?_
  refine lv_aload_n hx hb dL_law_714 rfl (lv_at hl 3 rfl) ?_
  refine lv_iload_n hx hb dL_law_715 rfl (lv_at hl 0 rfl) ?_
  refine lv_iconst (v := 2) hx hb dL_law_716 (by decide) ?_
  refine q_ai X hS (k := 2) (by decide) hi e2 dL_law_717 dL_law_718 ?_
  have hG0 := hG
  have hGp := hG
  refine W.eq (g2 := F0 m 719 ls [.int v2, .int v1, .ref (al.2 49 0)]) (by rw [hox]) ?_
  refine q_fi (q_runV (t := 49) (i := 0) (As := [.int v1, .int v2]) (rest := []) C hU (c_X11_then hG v1 v2) vm_X11_then ml_L_74 k_49.1 (hc := rfl) rfl (h1_49 hG) hl.1 rfl rfl (Nat.le_of_ble_eq_true rfl) dL_law_719 rfl rfl ⟨Nat.le_of_ble_eq_true rfl, Nat.le_of_ble_eq_true rfl⟩ ⟨by show cells + 0 ≤ 600000; omega, by show slots + 0 ≤ 7302250; omega⟩) hS (fun r1 iv1 rv1 H locs hG f1 g1 hp1 hU hS => ?_)
  have hRel := hRel.fr hGp f1 g1 (by decide)
  refine lv_pop hx hb dL_law_722 rfl ?_
  refine lv_aload_n hx hb dL_law_723 rfl (lv_at hl 1 rfl) ?_
  refine lv_aload_n hx hb dL_law_724 rfl (lv_at hl 3 rfl) ?_
  refine lv_iload_n hx hb dL_law_725 rfl (lv_at hl 0 rfl) ?_
  refine lv_iconst (v := 1) hx hb dL_law_726 (by decide) ?_
  refine q_ai X hS (k := 1) (by decide) hi e1 dL_law_727 dL_law_728 ?_
  refine lv_aload_n hx hb dL_law_729 rfl (lv_at hl 3 rfl) ?_
  refine lv_iload_n hx hb dL_law_730 rfl (lv_at hl 0 rfl) ?_
  refine lv_iconst (v := 2) hx hb dL_law_731 (by decide) ?_
  refine q_ai X hS (k := 2) (by decide) hi e2 dL_law_732 dL_law_733 ?_
  have hGp := hG
  refine W.eq (g2 := F0 m 734 ls [.int v2, .int v1, .ref (al.2 0 0)]) (by rw [hom]) ?_
  refine q_fi (q_runV (t := 0) (i := 0) (As := [.int v1, .int v2]) (rest := []) C hU (c_X12_then hG v1 v2) vm_X12_then ml_L_77 k_0.1 (hc := rfl) rfl (h1_0 hG) hl.1 rfl rfl (Nat.le_of_ble_eq_true rfl) dL_law_734 rfl rfl ⟨Nat.le_of_ble_eq_true rfl, Nat.le_of_ble_eq_true rfl⟩ ⟨by show cells + 0 ≤ 600000; omega, by show slots + 0 ≤ 7302250; omega⟩) hS (fun r2 iv2 rv2 H locs hG f2 g2 hp2 hU hS => ?_)
  have hRel := hRel.fr hGp f2 g2 (by decide)
  refine lv_pop hx hb dL_law_737 rfl ?_
  refine lv_goto (tgt := 1475) hx hb dL_law_738 (by decide) ?_
  refine W.widen (k := cells + 3) (n := slots + 16) (by omega) (by omega) ?_
  exact kk _ _ _ _ _ ⟨hG, hox, hom, hRel⟩ hU hS
set_option maxHeartbeats 4000000 in
set_option maxRecDepth 100000 in
theorem law_15 {p : Program} {l : Launch} {e : Env} {s : State} {m : MethodId} {below : List Frame} {meth : Method} {c : Code} {b L : Nat} {xs : Nat → Int32} {D : va_G} {cA : FieldType → ClassId} {ls : Array Slot} {Q : State → Prop} {H : Heap} {locs : List Loc} {cells slots : Nat} {i : Int32} {ox om : Nat} {al : Al} {iv : Iv} {rv : Rv} (X : LX p s m c b L xs D cA) (hl : lv_has ls 4 [(3, .int i), (2, .ref om), (1, .ref ox), (0, .ref b)]) (hi : 0 ≤ i.toInt ∧ i.toInt + 6 < L) (hQ : LSt ox om al iv rv) (hU : UW D cA s.heap.size al iv rv H) (hS : va_S (Aq s.heap.size) s.heap H locs) (hc : cells + 3 ≤ 600000 ∧ slots + 16 ≤ 7302250)
    (kk : ∀ (al' : Al) (iv' : Iv) (rv' : Rv) (H' : Heap) (locs' : List Loc), LSt ox om al' iv' rv' → UW D cA s.heap.size al' iv' rv' H' → va_S (Aq s.heap.size) s.heap H' locs' → W p l e room_1 s m #[Value.ref b] below meth c H' locs' (cells + 3) (slots + 16) Q (F0 m 1475 ls [])) : W p l e room_1 s m #[Value.ref b] below meth c H locs cells slots Q (F0 m 741 ls []) := by
  obtain ⟨hG, hox, hom, hRel⟩ := hQ
  have C := X.1
  have hx := C.1.1
  have hb := C.1.2.1
  obtain ⟨v1, e1⟩ : ∃ z, xs (i + 1).toNatClampNeg = z := ⟨_, rfl⟩
  refine lv_aload_n hx hb dL_law_741 rfl (lv_at hl 2 rfl) ?_
  refine lv_aload_n hx hb dL_law_742 rfl (lv_at hl 3 rfl) ?_
  refine lv_iload_n hx hb dL_law_743 rfl (lv_at hl 0 rfl) ?_
  refine lv_iconst (v := 1) hx hb dL_law_744 (by decide) ?_
  refine q_ai X hS (k := 1) (by decide) hi e1 dL_law_745 dL_law_746 ?_
  have hG0 := hG
  have hGp := hG
  refine W.eq (g2 := F0 m 747 ls [.int v1, .ref (al.2 49 0)]) (by rw [hox]) ?_
  refine q_fi (q_runV (t := 49) (i := 0) (As := [.int v1]) (rest := []) C hU (c_X11_missed hG v1) vm_X11_missed ml_L_78 k_49.1 (hc := rfl) rfl (h1_49 hG) hl.1 rfl rfl (Nat.le_of_ble_eq_true rfl) dL_law_747 rfl rfl ⟨Nat.le_of_ble_eq_true rfl, Nat.le_of_ble_eq_true rfl⟩ ⟨by show cells + 0 ≤ 600000; omega, by show slots + 0 ≤ 7302250; omega⟩) hS (fun r1 iv1 rv1 H locs hG f1 g1 hp1 hU hS => ?_)
  have hRel := hRel.fr hGp f1 g1 (by decide)
  refine lv_pop hx hb dL_law_750 rfl ?_
  refine lv_aload_n hx hb dL_law_751 rfl (lv_at hl 1 rfl) ?_
  refine lv_aload_n hx hb dL_law_752 rfl (lv_at hl 3 rfl) ?_
  refine lv_iload_n hx hb dL_law_753 rfl (lv_at hl 0 rfl) ?_
  refine lv_iconst (v := 1) hx hb dL_law_754 (by decide) ?_
  refine q_ai X hS (k := 1) (by decide) hi e1 dL_law_755 dL_law_756 ?_
  have hGp := hG
  refine W.eq (g2 := F0 m 757 ls [.int v1, .ref (al.2 0 0)]) (by rw [hom]) ?_
  refine q_fi (q_runV (t := 0) (i := 0) (As := [.int v1]) (rest := []) C hU (c_X12_missed hG v1) vm_X12_missed ml_L_81 k_0.1 (hc := rfl) rfl (h1_0 hG) hl.1 rfl rfl (Nat.le_of_ble_eq_true rfl) dL_law_757 rfl rfl ⟨Nat.le_of_ble_eq_true rfl, Nat.le_of_ble_eq_true rfl⟩ ⟨by show cells + 0 ≤ 600000; omega, by show slots + 0 ≤ 7302250; omega⟩) hS (fun r2 iv2 rv2 H locs hG f2 g2 hp2 hU hS => ?_)
  have hRel := hRel.fr hGp f2 g2 (by decide)
  refine lv_pop hx hb dL_law_760 rfl ?_
  refine lv_goto (tgt := 1475) hx hb dL_law_761 (by decide) ?_
  refine W.widen (k := cells + 3) (n := slots + 16) (by omega) (by omega) ?_
  exact kk _ _ _ _ _ ⟨hG, hox, hom, hRel⟩ hU hS
set_option maxHeartbeats 4000000 in
set_option maxRecDepth 100000 in
theorem law_16 {p : Program} {l : Launch} {e : Env} {s : State} {m : MethodId} {below : List Frame} {meth : Method} {c : Code} {b L : Nat} {xs : Nat → Int32} {D : va_G} {cA : FieldType → ClassId} {ls : Array Slot} {Q : State → Prop} {H : Heap} {locs : List Loc} {cells slots : Nat} {i : Int32} {ox om : Nat} {al : Al} {iv : Iv} {rv : Rv} (X : LX p s m c b L xs D cA) (hl : lv_has ls 4 [(3, .int i), (2, .ref om), (1, .ref ox), (0, .ref b)]) (hi : 0 ≤ i.toInt ∧ i.toInt + 6 < L) (hQ : LSt ox om al iv rv) (hU : UW D cA s.heap.size al iv rv H) (hS : va_S (Aq s.heap.size) s.heap H locs) (hc : cells + 3 ≤ 600000 ∧ slots + 16 ≤ 7302250)
    (kk : ∀ (al' : Al) (iv' : Iv) (rv' : Rv) (H' : Heap) (locs' : List Loc), LSt ox om al' iv' rv' → UW D cA s.heap.size al' iv' rv' H' → va_S (Aq s.heap.size) s.heap H' locs' → W p l e room_1 s m #[Value.ref b] below meth c H' locs' (cells + 3) (slots + 16) Q (F0 m 1475 ls [])) : W p l e room_1 s m #[Value.ref b] below meth c H locs cells slots Q (F0 m 764 ls []) := by
  obtain ⟨hG, hox, hom, hRel⟩ := hQ
  have C := X.1
  have hx := C.1.1
  have hb := C.1.2.1
  obtain ⟨v1, e1⟩ : ∃ z, xs (i + 1).toNatClampNeg = z := ⟨_, rfl⟩
  refine lv_aload_n hx hb dL_law_764 rfl (lv_at hl 2 rfl) ?_
  refine lv_aload_n hx hb dL_law_765 rfl (lv_at hl 3 rfl) ?_
  refine lv_iload_n hx hb dL_law_766 rfl (lv_at hl 0 rfl) ?_
  refine lv_iconst (v := 1) hx hb dL_law_767 (by decide) ?_
  refine q_ai X hS (k := 1) (by decide) hi e1 dL_law_768 dL_law_769 ?_
  have hG0 := hG
  have hGp := hG
  refine W.eq (g2 := F0 m 770 ls [.int v1, .ref (al.2 49 0)]) (by rw [hox]) ?_
  refine q_fi (q_runV (t := 49) (i := 0) (As := [.int v1]) (rest := []) C hU (c_X11_soonest hG v1) vm_X11_soonest ml_L_82 k_49.1 (hc := rfl) rfl (h1_49 hG) hl.1 rfl rfl (Nat.le_of_ble_eq_true rfl) dL_law_770 rfl rfl ⟨Nat.le_of_ble_eq_true rfl, Nat.le_of_ble_eq_true rfl⟩ ⟨by show cells + 0 ≤ 600000; omega, by show slots + 0 ≤ 7302250; omega⟩) hS (fun r1 iv1 rv1 H locs hG f1 g1 hp1 hU hS => ?_)
  have hRel := hRel.fr hGp f1 g1 (by decide)
  refine lv_pop hx hb dL_law_773 rfl ?_
  refine lv_aload_n hx hb dL_law_774 rfl (lv_at hl 1 rfl) ?_
  refine lv_aload_n hx hb dL_law_775 rfl (lv_at hl 3 rfl) ?_
  refine lv_iload_n hx hb dL_law_776 rfl (lv_at hl 0 rfl) ?_
  refine lv_iconst (v := 1) hx hb dL_law_777 (by decide) ?_
  refine q_ai X hS (k := 1) (by decide) hi e1 dL_law_778 dL_law_779 ?_
  have hGp := hG
  refine W.eq (g2 := F0 m 780 ls [.int v1, .ref (al.2 0 0)]) (by rw [hom]) ?_
  refine q_fi (q_runV (t := 0) (i := 0) (As := [.int v1]) (rest := []) C hU (c_X12_soonest hG v1) vm_X12_soonest ml_L_85 k_0.1 (hc := rfl) rfl (h1_0 hG) hl.1 rfl rfl (Nat.le_of_ble_eq_true rfl) dL_law_780 rfl rfl ⟨Nat.le_of_ble_eq_true rfl, Nat.le_of_ble_eq_true rfl⟩ ⟨by show cells + 0 ≤ 600000; omega, by show slots + 0 ≤ 7302250; omega⟩) hS (fun r2 iv2 rv2 H locs hG f2 g2 hp2 hU hS => ?_)
  have hRel := hRel.fr hGp f2 g2 (by decide)
  refine lv_pop hx hb dL_law_783 rfl ?_
  refine lv_goto (tgt := 1475) hx hb dL_law_784 (by decide) ?_
  refine W.widen (k := cells + 3) (n := slots + 16) (by omega) (by omega) ?_
  exact kk _ _ _ _ _ ⟨hG, hox, hom, hRel⟩ hU hS
set_option maxHeartbeats 4000000 in
set_option maxRecDepth 100000 in
theorem law_17 {p : Program} {l : Launch} {e : Env} {s : State} {m : MethodId} {below : List Frame} {meth : Method} {c : Code} {b L : Nat} {xs : Nat → Int32} {D : va_G} {cA : FieldType → ClassId} {ls : Array Slot} {Q : State → Prop} {H : Heap} {locs : List Loc} {cells slots : Nat} {i : Int32} {ox om : Nat} {al : Al} {iv : Iv} {rv : Rv} (X : LX p s m c b L xs D cA) (hl : lv_has ls 4 [(3, .int i), (2, .ref om), (1, .ref ox), (0, .ref b)]) (hi : 0 ≤ i.toInt ∧ i.toInt + 6 < L) (hQ : LSt ox om al iv rv) (hU : UW D cA s.heap.size al iv rv H) (hS : va_S (Aq s.heap.size) s.heap H locs) (hc : cells + 3 ≤ 600000 ∧ slots + 16 ≤ 7302250)
    (kk : ∀ (al' : Al) (iv' : Iv) (rv' : Rv) (H' : Heap) (locs' : List Loc), LSt ox om al' iv' rv' → UW D cA s.heap.size al' iv' rv' H' → va_S (Aq s.heap.size) s.heap H' locs' → W p l e room_1 s m #[Value.ref b] below meth c H' locs' (cells + 3) (slots + 16) Q (F0 m 1475 ls [])) : W p l e room_1 s m #[Value.ref b] below meth c H locs cells slots Q (F0 m 787 ls []) := by
  obtain ⟨hG, hox, hom, hRel⟩ := hQ
  have C := X.1
  have hx := C.1.1
  have hb := C.1.2.1
  obtain ⟨v1, e1⟩ : ∃ z, xs (i + 1).toNatClampNeg = z := ⟨_, rfl⟩
  refine lv_aload_n hx hb dL_law_787 rfl (lv_at hl 2 rfl) ?_
  refine lv_aload_n hx hb dL_law_788 rfl (lv_at hl 3 rfl) ?_
  refine lv_iload_n hx hb dL_law_789 rfl (lv_at hl 0 rfl) ?_
  refine lv_iconst (v := 1) hx hb dL_law_790 (by decide) ?_
  refine q_ai X hS (k := 1) (by decide) hi e1 dL_law_791 dL_law_792 ?_
  have hG0 := hG
  have hGp := hG
  refine W.eq (g2 := F0 m 793 ls [.int v1, .ref (al.2 49 0)]) (by rw [hox]) ?_
  refine q_fi (q_runV (t := 49) (i := 0) (As := [.int v1]) (rest := []) C hU (c_X11_hours hG v1) vm_X11_hours ml_L_86 k_49.1 (hc := rfl) rfl (h1_49 hG) hl.1 rfl rfl (Nat.le_of_ble_eq_true rfl) dL_law_793 rfl rfl ⟨Nat.le_of_ble_eq_true rfl, Nat.le_of_ble_eq_true rfl⟩ ⟨by show cells + 0 ≤ 600000; omega, by show slots + 0 ≤ 7302250; omega⟩) hS (fun r1 iv1 rv1 H locs hG f1 g1 hp1 hU hS => ?_)
  have hRel := hRel.fr hGp f1 g1 (by decide)
  refine lv_pop hx hb dL_law_796 rfl ?_
  refine lv_aload_n hx hb dL_law_797 rfl (lv_at hl 1 rfl) ?_
  refine lv_aload_n hx hb dL_law_798 rfl (lv_at hl 3 rfl) ?_
  refine lv_iload_n hx hb dL_law_799 rfl (lv_at hl 0 rfl) ?_
  refine lv_iconst (v := 1) hx hb dL_law_800 (by decide) ?_
  refine q_ai X hS (k := 1) (by decide) hi e1 dL_law_801 dL_law_802 ?_
  have hGp := hG
  refine W.eq (g2 := F0 m 803 ls [.int v1, .ref (al.2 0 0)]) (by rw [hom]) ?_
  refine q_fi (q_runV (t := 0) (i := 0) (As := [.int v1]) (rest := []) C hU (c_X12_hours hG v1) vm_X12_hours ml_L_89 k_0.1 (hc := rfl) rfl (h1_0 hG) hl.1 rfl rfl (Nat.le_of_ble_eq_true rfl) dL_law_803 rfl rfl ⟨Nat.le_of_ble_eq_true rfl, Nat.le_of_ble_eq_true rfl⟩ ⟨by show cells + 0 ≤ 600000; omega, by show slots + 0 ≤ 7302250; omega⟩) hS (fun r2 iv2 rv2 H locs hG f2 g2 hp2 hU hS => ?_)
  have hRel := hRel.fr hGp f2 g2 (by decide)
  refine lv_pop hx hb dL_law_806 rfl ?_
  refine lv_goto (tgt := 1475) hx hb dL_law_807 (by decide) ?_
  refine W.widen (k := cells + 3) (n := slots + 16) (by omega) (by omega) ?_
  exact kk _ _ _ _ _ ⟨hG, hox, hom, hRel⟩ hU hS
end
section
set_option maxHeartbeats 4000000 in
set_option maxRecDepth 100000 in
theorem law_18 {p : Program} {l : Launch} {e : Env} {s : State} {m : MethodId} {below : List Frame} {meth : Method} {c : Code} {b L : Nat} {xs : Nat → Int32} {D : va_G} {cA : FieldType → ClassId} {ls : Array Slot} {Q : State → Prop} {H : Heap} {locs : List Loc} {cells slots : Nat} {i : Int32} {ox om : Nat} {al : Al} {iv : Iv} {rv : Rv} (X : LX p s m c b L xs D cA) (hl : lv_has ls 4 [(3, .int i), (2, .ref om), (1, .ref ox), (0, .ref b)]) (hi : 0 ≤ i.toInt ∧ i.toInt + 6 < L) (hQ : LSt ox om al iv rv) (hU : UW D cA s.heap.size al iv rv H) (hS : va_S (Aq s.heap.size) s.heap H locs) (hc : cells + 3 ≤ 600000 ∧ slots + 16 ≤ 7302250)
    (kk : ∀ (al' : Al) (iv' : Iv) (rv' : Rv) (H' : Heap) (locs' : List Loc), LSt ox om al' iv' rv' → UW D cA s.heap.size al' iv' rv' H' → va_S (Aq s.heap.size) s.heap H' locs' → W p l e room_1 s m #[Value.ref b] below meth c H' locs' (cells + 3) (slots + 16) Q (F0 m 1475 ls [])) : W p l e room_1 s m #[Value.ref b] below meth c H locs cells slots Q (F0 m 810 ls []) := by
  obtain ⟨hG, hox, hom, hRel⟩ := hQ
  have C := X.1
  have hx := C.1.1
  have hb := C.1.2.1
  obtain ⟨v1, e1⟩ : ∃ z, xs (i + 1).toNatClampNeg = z := ⟨_, rfl⟩
  refine lv_aload_n hx hb dL_law_810 rfl (lv_at hl 2 rfl) ?_
  refine lv_aload_n hx hb dL_law_811 rfl (lv_at hl 3 rfl) ?_
  refine lv_iload_n hx hb dL_law_812 rfl (lv_at hl 0 rfl) ?_
  refine lv_iconst (v := 1) hx hb dL_law_813 (by decide) ?_
  refine q_ai X hS (k := 1) (by decide) hi e1 dL_law_814 dL_law_815 ?_
  have hG0 := hG
  have hGp := hG
  refine W.eq (g2 := F0 m 816 ls [.int v1, .ref (al.2 49 0)]) (by rw [hox]) ?_
  refine q_fi (q_runV (t := 49) (i := 0) (As := [.int v1]) (rest := []) C hU (c_X11_blame hG v1) vm_X11_blame ml_L_90 k_49.1 (hc := rfl) rfl (h1_49 hG) hl.1 rfl rfl (Nat.le_of_ble_eq_true rfl) dL_law_816 rfl rfl ⟨Nat.le_of_ble_eq_true rfl, Nat.le_of_ble_eq_true rfl⟩ ⟨by show cells + 0 ≤ 600000; omega, by show slots + 0 ≤ 7302250; omega⟩) hS (fun r1 iv1 rv1 H locs hG f1 g1 hp1 hU hS => ?_)
  have hRel := hRel.fr hGp f1 g1 (by decide)
  refine lv_pop hx hb dL_law_819 rfl ?_
  refine lv_aload_n hx hb dL_law_820 rfl (lv_at hl 1 rfl) ?_
  refine lv_aload_n hx hb dL_law_821 rfl (lv_at hl 3 rfl) ?_
  refine lv_iload_n hx hb dL_law_822 rfl (lv_at hl 0 rfl) ?_
  refine lv_iconst (v := 1) hx hb dL_law_823 (by decide) ?_
  refine q_ai X hS (k := 1) (by decide) hi e1 dL_law_824 dL_law_825 ?_
  have hGp := hG
  refine W.eq (g2 := F0 m 826 ls [.int v1, .ref (al.2 0 0)]) (by rw [hom]) ?_
  refine q_fi (q_runV (t := 0) (i := 0) (As := [.int v1]) (rest := []) C hU (c_X12_blame hG v1) vm_X12_blame ml_L_93 k_0.1 (hc := rfl) rfl (h1_0 hG) hl.1 rfl rfl (Nat.le_of_ble_eq_true rfl) dL_law_826 rfl rfl ⟨Nat.le_of_ble_eq_true rfl, Nat.le_of_ble_eq_true rfl⟩ ⟨by show cells + 0 ≤ 600000; omega, by show slots + 0 ≤ 7302250; omega⟩) hS (fun r2 iv2 rv2 H locs hG f2 g2 hp2 hU hS => ?_)
  have hRel := hRel.fr hGp f2 g2 (by decide)
  refine lv_pop hx hb dL_law_829 rfl ?_
  refine lv_goto (tgt := 1475) hx hb dL_law_830 (by decide) ?_
  refine W.widen (k := cells + 3) (n := slots + 16) (by omega) (by omega) ?_
  exact kk _ _ _ _ _ ⟨hG, hox, hom, hRel⟩ hU hS
set_option maxHeartbeats 4000000 in
set_option maxRecDepth 100000 in
theorem law_19 {p : Program} {l : Launch} {e : Env} {s : State} {m : MethodId} {below : List Frame} {meth : Method} {c : Code} {b L : Nat} {xs : Nat → Int32} {D : va_G} {cA : FieldType → ClassId} {ls : Array Slot} {Q : State → Prop} {H : Heap} {locs : List Loc} {cells slots : Nat} {i : Int32} {ox om : Nat} {al : Al} {iv : Iv} {rv : Rv} (X : LX p s m c b L xs D cA) (hl : lv_has ls 4 [(3, .int i), (2, .ref om), (1, .ref ox), (0, .ref b)]) (hi : 0 ≤ i.toInt ∧ i.toInt + 6 < L) (hQ : LSt ox om al iv rv) (hU : UW D cA s.heap.size al iv rv H) (hS : va_S (Aq s.heap.size) s.heap H locs) (hc : cells + 3 ≤ 600000 ∧ slots + 16 ≤ 7302250)
    (kk : ∀ (al' : Al) (iv' : Iv) (rv' : Rv) (H' : Heap) (locs' : List Loc), LSt ox om al' iv' rv' → UW D cA s.heap.size al' iv' rv' H' → va_S (Aq s.heap.size) s.heap H' locs' → W p l e room_1 s m #[Value.ref b] below meth c H' locs' (cells + 3) (slots + 16) Q (F0 m 1475 ls [])) : W p l e room_1 s m #[Value.ref b] below meth c H locs cells slots Q (F0 m 833 ls []) := by
  obtain ⟨hG, hox, hom, hRel⟩ := hQ
  have C := X.1
  have hx := C.1.1
  have hb := C.1.2.1
  obtain ⟨v1, e1⟩ : ∃ z, xs (i + 1).toNatClampNeg = z := ⟨_, rfl⟩
  obtain ⟨v2, e2⟩ : ∃ z, xs (i + 2).toNatClampNeg = z := ⟨_, rfl⟩
  obtain ⟨v3, e3⟩ : ∃ z, xs (i + 3).toNatClampNeg = z := ⟨_, rfl⟩
  obtain ⟨v4, e4⟩ : ∃ z, xs (i + 4).toNatClampNeg = z := ⟨_, rfl⟩
  obtain ⟨v5, e5⟩ : ∃ z, xs (i + 5).toNatClampNeg = z := ⟨_, rfl⟩
  refine lv_aload_n hx hb dL_law_833 rfl (lv_at hl 2 rfl) ?_
  refine lv_aload_n hx hb dL_law_834 rfl (lv_at hl 3 rfl) ?_
  refine lv_iload_n hx hb dL_law_835 rfl (lv_at hl 0 rfl) ?_
  refine lv_iconst (v := 1) hx hb dL_law_836 (by decide) ?_
  refine q_ai X hS (k := 1) (by decide) hi e1 dL_law_837 dL_law_838 ?_
  refine lv_aload_n hx hb dL_law_839 rfl (lv_at hl 3 rfl) ?_
  refine lv_iload_n hx hb dL_law_840 rfl (lv_at hl 0 rfl) ?_
  refine lv_iconst (v := 2) hx hb dL_law_841 (by decide) ?_
  refine q_ai X hS (k := 2) (by decide) hi e2 dL_law_842 dL_law_843 ?_
  refine lv_aload_n hx hb dL_law_844 rfl (lv_at hl 3 rfl) ?_
  refine lv_iload_n hx hb dL_law_845 rfl (lv_at hl 0 rfl) ?_
  refine lv_iconst (v := 3) hx hb dL_law_846 (by decide) ?_
  refine q_ai X hS (k := 3) (by decide) hi e3 dL_law_847 dL_law_848 ?_
  refine lv_aload_n hx hb dL_law_849 rfl (lv_at hl 3 rfl) ?_
  refine lv_iload_n hx hb dL_law_850 rfl (lv_at hl 0 rfl) ?_
  refine lv_iconst (v := 4) hx hb dL_law_851 (by decide) ?_
  refine q_ai X hS (k := 4) (by decide) hi e4 dL_law_852 dL_law_853 ?_
  refine lv_aload_n hx hb dL_law_854 rfl (lv_at hl 3 rfl) ?_
  refine lv_iload_n hx hb dL_law_855 rfl (lv_at hl 0 rfl) ?_
  refine lv_iconst (v := 5) hx hb dL_law_856 (by decide) ?_
  refine q_ai X hS (k := 5) (by decide) hi e5 dL_law_857 dL_law_858 ?_
  have hG0 := hG
  have hGp := hG
  refine W.eq (g2 := F0 m 859 ls [.int v5, .int v4, .int v3, .int v2, .int v1, .ref (al.2 49 0)]) (by rw [hox]) ?_
  refine q_fi (q_runV (t := 49) (i := 0) (As := [.int v1, .int v2, .int v3, .int v4, .int v5]) (rest := []) C hU (c_X11_law hG v1 v2 v3 v4 v5) vm_X11_law ml_L_94 k_49.1 (hc := rfl) rfl (h1_49 hG) hl.1 rfl rfl (Nat.le_of_ble_eq_true rfl) dL_law_859 rfl rfl ⟨Nat.le_of_ble_eq_true rfl, Nat.le_of_ble_eq_true rfl⟩ ⟨by show cells + 0 ≤ 600000; omega, by show slots + 0 ≤ 7302250; omega⟩) hS (fun r1 iv1 rv1 H locs hG f1 g1 hp1 hU hS => ?_)
  have hRel := hRel.fr hGp f1 g1 (by decide)
  refine lv_pop hx hb dL_law_862 rfl ?_
  refine lv_aload_n hx hb dL_law_863 rfl (lv_at hl 1 rfl) ?_
  refine lv_aload_n hx hb dL_law_864 rfl (lv_at hl 3 rfl) ?_
  refine lv_iload_n hx hb dL_law_865 rfl (lv_at hl 0 rfl) ?_
  refine lv_iconst (v := 1) hx hb dL_law_866 (by decide) ?_
  refine q_ai X hS (k := 1) (by decide) hi e1 dL_law_867 dL_law_868 ?_
  refine lv_aload_n hx hb dL_law_869 rfl (lv_at hl 3 rfl) ?_
  refine lv_iload_n hx hb dL_law_870 rfl (lv_at hl 0 rfl) ?_
  refine lv_iconst (v := 2) hx hb dL_law_871 (by decide) ?_
  refine q_ai X hS (k := 2) (by decide) hi e2 dL_law_872 dL_law_873 ?_
  refine lv_aload_n hx hb dL_law_874 rfl (lv_at hl 3 rfl) ?_
  refine lv_iload_n hx hb dL_law_875 rfl (lv_at hl 0 rfl) ?_
  refine lv_iconst (v := 3) hx hb dL_law_876 (by decide) ?_
  refine q_ai X hS (k := 3) (by decide) hi e3 dL_law_877 dL_law_878 ?_
  refine lv_aload_n hx hb dL_law_879 rfl (lv_at hl 3 rfl) ?_
  refine lv_iload_n hx hb dL_law_880 rfl (lv_at hl 0 rfl) ?_
  refine lv_iconst (v := 4) hx hb dL_law_881 (by decide) ?_
  refine q_ai X hS (k := 4) (by decide) hi e4 dL_law_882 dL_law_883 ?_
  refine lv_aload_n hx hb dL_law_884 rfl (lv_at hl 3 rfl) ?_
  refine lv_iload_n hx hb dL_law_885 rfl (lv_at hl 0 rfl) ?_
  refine lv_iconst (v := 5) hx hb dL_law_886 (by decide) ?_
  refine q_ai X hS (k := 5) (by decide) hi e5 dL_law_887 dL_law_888 ?_
  have hGp := hG
  refine W.eq (g2 := F0 m 889 ls [.int v5, .int v4, .int v3, .int v2, .int v1, .ref (al.2 0 0)]) (by rw [hom]) ?_
  refine q_fi (q_runV (t := 0) (i := 0) (As := [.int v1, .int v2, .int v3, .int v4, .int v5]) (rest := []) C hU (c_X12_law hG v1 v2 v3 v4 v5) vm_X12_law ml_L_98 k_0.1 (hc := rfl) rfl (h1_0 hG) hl.1 rfl rfl (Nat.le_of_ble_eq_true rfl) dL_law_889 rfl rfl ⟨Nat.le_of_ble_eq_true rfl, Nat.le_of_ble_eq_true rfl⟩ ⟨by show cells + 0 ≤ 600000; omega, by show slots + 0 ≤ 7302250; omega⟩) hS (fun r2 iv2 rv2 H locs hG f2 g2 hp2 hU hS => ?_)
  have hRel := hRel.fr hGp f2 g2 (by decide)
  refine lv_pop hx hb dL_law_892 rfl ?_
  refine lv_goto (tgt := 1475) hx hb dL_law_893 (by decide) ?_
  refine W.widen (k := cells + 3) (n := slots + 16) (by omega) (by omega) ?_
  exact kk _ _ _ _ _ ⟨hG, hox, hom, hRel⟩ hU hS
set_option maxHeartbeats 4000000 in
set_option maxRecDepth 100000 in
theorem law_20 {p : Program} {l : Launch} {e : Env} {s : State} {m : MethodId} {below : List Frame} {meth : Method} {c : Code} {b L : Nat} {xs : Nat → Int32} {D : va_G} {cA : FieldType → ClassId} {ls : Array Slot} {Q : State → Prop} {H : Heap} {locs : List Loc} {cells slots : Nat} {i : Int32} {ox om : Nat} {al : Al} {iv : Iv} {rv : Rv} (X : LX p s m c b L xs D cA) (hl : lv_has ls 4 [(3, .int i), (2, .ref om), (1, .ref ox), (0, .ref b)]) (hi : 0 ≤ i.toInt ∧ i.toInt + 6 < L) (hQ : LSt ox om al iv rv) (hU : UW D cA s.heap.size al iv rv H) (hS : va_S (Aq s.heap.size) s.heap H locs) (hc : cells + 3 ≤ 600000 ∧ slots + 16 ≤ 7302250)
    (kk : ∀ (al' : Al) (iv' : Iv) (rv' : Rv) (H' : Heap) (locs' : List Loc), LSt ox om al' iv' rv' → UW D cA s.heap.size al' iv' rv' H' → va_S (Aq s.heap.size) s.heap H' locs' → W p l e room_1 s m #[Value.ref b] below meth c H' locs' (cells + 3) (slots + 16) Q (F0 m 1475 ls [])) : W p l e room_1 s m #[Value.ref b] below meth c H locs cells slots Q (F0 m 896 ls []) := by
  obtain ⟨hG, hox, hom, hRel⟩ := hQ
  have C := X.1
  have hx := C.1.1
  have hb := C.1.2.1
  obtain ⟨v1, e1⟩ : ∃ z, xs (i + 1).toNatClampNeg = z := ⟨_, rfl⟩
  obtain ⟨v2, e2⟩ : ∃ z, xs (i + 2).toNatClampNeg = z := ⟨_, rfl⟩
  obtain ⟨v3, e3⟩ : ∃ z, xs (i + 3).toNatClampNeg = z := ⟨_, rfl⟩
  obtain ⟨v4, e4⟩ : ∃ z, xs (i + 4).toNatClampNeg = z := ⟨_, rfl⟩
  refine lv_aload_n hx hb dL_law_896 rfl (lv_at hl 2 rfl) ?_
  refine lv_aload_n hx hb dL_law_897 rfl (lv_at hl 3 rfl) ?_
  refine lv_iload_n hx hb dL_law_898 rfl (lv_at hl 0 rfl) ?_
  refine lv_iconst (v := 1) hx hb dL_law_899 (by decide) ?_
  refine q_ai X hS (k := 1) (by decide) hi e1 dL_law_900 dL_law_901 ?_
  refine lv_aload_n hx hb dL_law_902 rfl (lv_at hl 3 rfl) ?_
  refine lv_iload_n hx hb dL_law_903 rfl (lv_at hl 0 rfl) ?_
  refine lv_iconst (v := 2) hx hb dL_law_904 (by decide) ?_
  refine q_ai X hS (k := 2) (by decide) hi e2 dL_law_905 dL_law_906 ?_
  refine lv_aload_n hx hb dL_law_907 rfl (lv_at hl 3 rfl) ?_
  refine lv_iload_n hx hb dL_law_908 rfl (lv_at hl 0 rfl) ?_
  refine lv_iconst (v := 3) hx hb dL_law_909 (by decide) ?_
  refine q_ai X hS (k := 3) (by decide) hi e3 dL_law_910 dL_law_911 ?_
  refine lv_aload_n hx hb dL_law_912 rfl (lv_at hl 3 rfl) ?_
  refine lv_iload_n hx hb dL_law_913 rfl (lv_at hl 0 rfl) ?_
  refine lv_iconst (v := 4) hx hb dL_law_914 (by decide) ?_
  refine q_ai X hS (k := 4) (by decide) hi e4 dL_law_915 dL_law_916 ?_
  have J_925 : ∀ zv4 : Int32, (0 ≤ zv4.toInt ∧ zv4.toInt ≤ 1) → zv4 = bz v4 → W p l e room_1 s m #[Value.ref b] below meth c H locs cells slots Q (F0 m 925 ls [.int zv4, .int v3, .int v2, .int v1, .ref ox]) := by
    intro zv4 rzv4 qzv4
    have hG0 := hG
    have hGp := hG
    refine W.eq (g2 := F0 m 925 ls [.int zv4, .int v3, .int v2, .int v1, .ref (al.2 49 0)]) (by rw [hox]) ?_
    refine q_fi (q_runV (t := 49) (i := 0) (As := [.int v1, .int v2, .int v3, .int zv4]) (rest := []) C hU (c_X11_excuse hG v1 v2 v3 zv4 rzv4) vm_X11_excuse ml_L_99 k_49.1 (hc := rfl) rfl (h1_49 hG) hl.1 rfl rfl (Nat.le_of_ble_eq_true rfl) dL_law_925 rfl rfl ⟨Nat.le_of_ble_eq_true rfl, Nat.le_of_ble_eq_true rfl⟩ ⟨by show cells + 0 ≤ 600000; omega, by show slots + 0 ≤ 7302250; omega⟩) hS (fun r1 iv1 rv1 H locs hG f1 g1 hp1 hU hS => ?_)
    have hRel := hRel.fr hGp f1 g1 (by decide)
    refine lv_pop hx hb dL_law_928 rfl ?_
    refine lv_aload_n hx hb dL_law_929 rfl (lv_at hl 1 rfl) ?_
    refine lv_aload_n hx hb dL_law_930 rfl (lv_at hl 3 rfl) ?_
    refine lv_iload_n hx hb dL_law_931 rfl (lv_at hl 0 rfl) ?_
    refine lv_iconst (v := 1) hx hb dL_law_932 (by decide) ?_
    refine q_ai X hS (k := 1) (by decide) hi e1 dL_law_933 dL_law_934 ?_
    refine lv_aload_n hx hb dL_law_935 rfl (lv_at hl 3 rfl) ?_
    refine lv_iload_n hx hb dL_law_936 rfl (lv_at hl 0 rfl) ?_
    refine lv_iconst (v := 2) hx hb dL_law_937 (by decide) ?_
    refine q_ai X hS (k := 2) (by decide) hi e2 dL_law_938 dL_law_939 ?_
    refine lv_aload_n hx hb dL_law_940 rfl (lv_at hl 3 rfl) ?_
    refine lv_iload_n hx hb dL_law_941 rfl (lv_at hl 0 rfl) ?_
    refine lv_iconst (v := 3) hx hb dL_law_942 (by decide) ?_
    refine q_ai X hS (k := 3) (by decide) hi e3 dL_law_943 dL_law_944 ?_
    refine lv_aload_n hx hb dL_law_945 rfl (lv_at hl 3 rfl) ?_
    refine lv_iload_n hx hb dL_law_946 rfl (lv_at hl 0 rfl) ?_
    refine lv_iconst (v := 4) hx hb dL_law_947 (by decide) ?_
    refine q_ai X hS (k := 4) (by decide) hi e4 dL_law_948 dL_law_949 ?_
    have J_958 : ∀ zv4m : Int32, (0 ≤ zv4m.toInt ∧ zv4m.toInt ≤ 1) → zv4m = bz v4 → W p l e room_1 s m #[Value.ref b] below meth c H locs cells slots Q (F0 m 958 ls [.int zv4m, .int v3, .int v2, .int v1, .ref om]) := by
      intro zv4m rzv4m qzv4m
      have hGp := hG
      refine W.eq (g2 := F0 m 958 ls [.int zv4m, .int v3, .int v2, .int v1, .ref (al.2 0 0)]) (by rw [hom]) ?_
      refine q_fi (q_runV (t := 0) (i := 0) (As := [.int v1, .int v2, .int v3, .int zv4m]) (rest := []) C hU (c_X12_excuse hG v1 v2 v3 zv4m rzv4m) vm_X12_excuse ml_L_103 k_0.1 (hc := rfl) rfl (h1_0 hG) hl.1 rfl rfl (Nat.le_of_ble_eq_true rfl) dL_law_958 rfl rfl ⟨Nat.le_of_ble_eq_true rfl, Nat.le_of_ble_eq_true rfl⟩ ⟨by show cells + 0 ≤ 600000; omega, by show slots + 0 ≤ 7302250; omega⟩) hS (fun r2 iv2 rv2 H locs hG f2 g2 hp2 hU hS => ?_)
      have hRel := hRel.fr hGp f2 g2 (by decide)
      refine lv_pop hx hb dL_law_961 rfl ?_
      refine lv_goto (tgt := 1475) hx hb dL_law_962 (by decide) ?_
      refine W.widen (k := cells + 3) (n := slots + 16) (by omega) (by omega) ?_
      exact kk _ _ _ _ _ ⟨hG, hox, hom, hRel⟩ hU hS
    refine b_if_eq (tgt := 957) hx hb dL_law_950 (by decide) (fun c0 => ?_) (fun c0 => ?_)
    · refine lv_iconst (v := 0) hx hb dL_law_957 (by decide) ?_
      exact J_958 0 ⟨by decide, by decide⟩ (bz_0 c0)
    · refine lv_iconst (v := 1) hx hb dL_law_953 (by decide) ?_
      refine lv_goto (tgt := 958) hx hb dL_law_954 (by decide) ?_
      exact J_958 1 ⟨by decide, by decide⟩ (bz_1 c0)
  refine b_if_eq (tgt := 924) hx hb dL_law_917 (by decide) (fun c0 => ?_) (fun c0 => ?_)
  · refine lv_iconst (v := 0) hx hb dL_law_924 (by decide) ?_
    exact J_925 0 ⟨by decide, by decide⟩ (bz_0 c0)
  · refine lv_iconst (v := 1) hx hb dL_law_920 (by decide) ?_
    refine lv_goto (tgt := 925) hx hb dL_law_921 (by decide) ?_
    exact J_925 1 ⟨by decide, by decide⟩ (bz_1 c0)
set_option maxHeartbeats 4000000 in
set_option maxRecDepth 100000 in
theorem law_21 {p : Program} {l : Launch} {e : Env} {s : State} {m : MethodId} {below : List Frame} {meth : Method} {c : Code} {b L : Nat} {xs : Nat → Int32} {D : va_G} {cA : FieldType → ClassId} {ls : Array Slot} {Q : State → Prop} {H : Heap} {locs : List Loc} {cells slots : Nat} {i : Int32} {ox om : Nat} {al : Al} {iv : Iv} {rv : Rv} (X : LX p s m c b L xs D cA) (hl : lv_has ls 4 [(3, .int i), (2, .ref om), (1, .ref ox), (0, .ref b)]) (hi : 0 ≤ i.toInt ∧ i.toInt + 6 < L) (hQ : LSt ox om al iv rv) (hU : UW D cA s.heap.size al iv rv H) (hS : va_S (Aq s.heap.size) s.heap H locs) (hc : cells + 3 ≤ 600000 ∧ slots + 16 ≤ 7302250)
    (kk : ∀ (al' : Al) (iv' : Iv) (rv' : Rv) (H' : Heap) (locs' : List Loc), LSt ox om al' iv' rv' → UW D cA s.heap.size al' iv' rv' H' → va_S (Aq s.heap.size) s.heap H' locs' → W p l e room_1 s m #[Value.ref b] below meth c H' locs' (cells + 3) (slots + 16) Q (F0 m 1475 ls [])) : W p l e room_1 s m #[Value.ref b] below meth c H locs cells slots Q (F0 m 965 ls []) := by
  obtain ⟨hG, hox, hom, hRel⟩ := hQ
  have C := X.1
  have hx := C.1.1
  have hb := C.1.2.1
  obtain ⟨v1, e1⟩ : ∃ z, xs (i + 1).toNatClampNeg = z := ⟨_, rfl⟩
  obtain ⟨v2, e2⟩ : ∃ z, xs (i + 2).toNatClampNeg = z := ⟨_, rfl⟩
  obtain ⟨v3, e3⟩ : ∃ z, xs (i + 3).toNatClampNeg = z := ⟨_, rfl⟩
  refine lv_aload_n hx hb dL_law_965 rfl (lv_at hl 2 rfl) ?_
  refine lv_aload_n hx hb dL_law_966 rfl (lv_at hl 3 rfl) ?_
  refine lv_iload_n hx hb dL_law_967 rfl (lv_at hl 0 rfl) ?_
  refine lv_iconst (v := 1) hx hb dL_law_968 (by decide) ?_
  refine q_ai X hS (k := 1) (by decide) hi e1 dL_law_969 dL_law_970 ?_
  refine lv_aload_n hx hb dL_law_971 rfl (lv_at hl 3 rfl) ?_
  refine lv_iload_n hx hb dL_law_972 rfl (lv_at hl 0 rfl) ?_
  refine lv_iconst (v := 2) hx hb dL_law_973 (by decide) ?_
  refine q_ai X hS (k := 2) (by decide) hi e2 dL_law_974 dL_law_975 ?_
  refine lv_aload_n hx hb dL_law_976 rfl (lv_at hl 3 rfl) ?_
  refine lv_iload_n hx hb dL_law_977 rfl (lv_at hl 0 rfl) ?_
  refine lv_iconst (v := 3) hx hb dL_law_978 (by decide) ?_
  refine q_ai X hS (k := 3) (by decide) hi e3 dL_law_979 dL_law_980 ?_
  have hG0 := hG
  have hGp := hG
  refine W.eq (g2 := F0 m 981 ls [.int v3, .int v2, .int v1, .ref (al.2 49 0)]) (by rw [hox]) ?_
  refine q_fi (q_runV (t := 49) (i := 0) (As := [.int v1, .int v2, .int v3]) (rest := []) C hU (c_X11_sum hG v1 v2 v3) vm_X11_sum ml_L_104 k_49.1 (hc := rfl) rfl (h1_49 hG) hl.1 rfl rfl (Nat.le_of_ble_eq_true rfl) dL_law_981 rfl rfl ⟨Nat.le_of_ble_eq_true rfl, Nat.le_of_ble_eq_true rfl⟩ ⟨by show cells + 0 ≤ 600000; omega, by show slots + 0 ≤ 7302250; omega⟩) hS (fun r1 iv1 rv1 H locs hG f1 g1 hp1 hU hS => ?_)
  have hRel := hRel.fr hGp f1 g1 (by decide)
  refine lv_pop hx hb dL_law_984 rfl ?_
  refine lv_aload_n hx hb dL_law_985 rfl (lv_at hl 1 rfl) ?_
  refine lv_aload_n hx hb dL_law_986 rfl (lv_at hl 3 rfl) ?_
  refine lv_iload_n hx hb dL_law_987 rfl (lv_at hl 0 rfl) ?_
  refine lv_iconst (v := 1) hx hb dL_law_988 (by decide) ?_
  refine q_ai X hS (k := 1) (by decide) hi e1 dL_law_989 dL_law_990 ?_
  refine lv_aload_n hx hb dL_law_991 rfl (lv_at hl 3 rfl) ?_
  refine lv_iload_n hx hb dL_law_992 rfl (lv_at hl 0 rfl) ?_
  refine lv_iconst (v := 2) hx hb dL_law_993 (by decide) ?_
  refine q_ai X hS (k := 2) (by decide) hi e2 dL_law_994 dL_law_995 ?_
  refine lv_aload_n hx hb dL_law_996 rfl (lv_at hl 3 rfl) ?_
  refine lv_iload_n hx hb dL_law_997 rfl (lv_at hl 0 rfl) ?_
  refine lv_iconst (v := 3) hx hb dL_law_998 (by decide) ?_
  refine q_ai X hS (k := 3) (by decide) hi e3 dL_law_999 dL_law_1000 ?_
  have hGp := hG
  refine W.eq (g2 := F0 m 1001 ls [.int v3, .int v2, .int v1, .ref (al.2 0 0)]) (by rw [hom]) ?_
  refine q_fi (q_runV (t := 0) (i := 0) (As := [.int v1, .int v2, .int v3]) (rest := []) C hU (c_X12_sum hG v1 v2 v3) vm_X12_sum ml_L_107 k_0.1 (hc := rfl) rfl (h1_0 hG) hl.1 rfl rfl (Nat.le_of_ble_eq_true rfl) dL_law_1001 rfl rfl ⟨Nat.le_of_ble_eq_true rfl, Nat.le_of_ble_eq_true rfl⟩ ⟨by show cells + 0 ≤ 600000; omega, by show slots + 0 ≤ 7302250; omega⟩) hS (fun r2 iv2 rv2 H locs hG f2 g2 hp2 hU hS => ?_)
  have hRel := hRel.fr hGp f2 g2 (by decide)
  refine lv_pop hx hb dL_law_1004 rfl ?_
  refine lv_goto (tgt := 1475) hx hb dL_law_1005 (by decide) ?_
  refine W.widen (k := cells + 3) (n := slots + 16) (by omega) (by omega) ?_
  exact kk _ _ _ _ _ ⟨hG, hox, hom, hRel⟩ hU hS
set_option maxHeartbeats 4000000 in
set_option maxRecDepth 100000 in
theorem law_22 {p : Program} {l : Launch} {e : Env} {s : State} {m : MethodId} {below : List Frame} {meth : Method} {c : Code} {b L : Nat} {xs : Nat → Int32} {D : va_G} {cA : FieldType → ClassId} {ls : Array Slot} {Q : State → Prop} {H : Heap} {locs : List Loc} {cells slots : Nat} {i : Int32} {ox om : Nat} {al : Al} {iv : Iv} {rv : Rv} (X : LX p s m c b L xs D cA) (hl : lv_has ls 4 [(3, .int i), (2, .ref om), (1, .ref ox), (0, .ref b)]) (hi : 0 ≤ i.toInt ∧ i.toInt + 6 < L) (hQ : LSt ox om al iv rv) (hU : UW D cA s.heap.size al iv rv H) (hS : va_S (Aq s.heap.size) s.heap H locs) (hc : cells + 3 ≤ 600000 ∧ slots + 16 ≤ 7302250)
    (kk : ∀ (al' : Al) (iv' : Iv) (rv' : Rv) (H' : Heap) (locs' : List Loc), LSt ox om al' iv' rv' → UW D cA s.heap.size al' iv' rv' H' → va_S (Aq s.heap.size) s.heap H' locs' → W p l e room_1 s m #[Value.ref b] below meth c H' locs' (cells + 3) (slots + 16) Q (F0 m 1475 ls [])) : W p l e room_1 s m #[Value.ref b] below meth c H locs cells slots Q (F0 m 1008 ls []) := by
  obtain ⟨hG, hox, hom, hRel⟩ := hQ
  have C := X.1
  have hx := C.1.1
  have hb := C.1.2.1
  obtain ⟨v1, e1⟩ : ∃ z, xs (i + 1).toNatClampNeg = z := ⟨_, rfl⟩
  obtain ⟨v2, e2⟩ : ∃ z, xs (i + 2).toNatClampNeg = z := ⟨_, rfl⟩
  refine lv_aload_n hx hb dL_law_1008 rfl (lv_at hl 2 rfl) ?_
  refine lv_aload_n hx hb dL_law_1009 rfl (lv_at hl 3 rfl) ?_
  refine lv_iload_n hx hb dL_law_1010 rfl (lv_at hl 0 rfl) ?_
  refine lv_iconst (v := 1) hx hb dL_law_1011 (by decide) ?_
  refine q_ai X hS (k := 1) (by decide) hi e1 dL_law_1012 dL_law_1013 ?_
  refine lv_aload_n hx hb dL_law_1014 rfl (lv_at hl 3 rfl) ?_
  refine lv_iload_n hx hb dL_law_1015 rfl (lv_at hl 0 rfl) ?_
  refine lv_iconst (v := 2) hx hb dL_law_1016 (by decide) ?_
  refine q_ai X hS (k := 2) (by decide) hi e2 dL_law_1017 dL_law_1018 ?_
  have hG0 := hG
  have hGp := hG
  refine W.eq (g2 := F0 m 1019 ls [.int v2, .int v1, .ref (al.2 49 0)]) (by rw [hox]) ?_
  refine q_fi (q_runV (t := 49) (i := 0) (As := [.int v1, .int v2]) (rest := []) C hU (c_X11_bar hG v1 v2) vm_X11_bar ml_L_108 k_49.1 (hc := rfl) rfl (h1_49 hG) hl.1 rfl rfl (Nat.le_of_ble_eq_true rfl) dL_law_1019 rfl rfl ⟨Nat.le_of_ble_eq_true rfl, Nat.le_of_ble_eq_true rfl⟩ ⟨by show cells + 0 ≤ 600000; omega, by show slots + 0 ≤ 7302250; omega⟩) hS (fun r1 iv1 rv1 H locs hG f1 g1 hp1 hU hS => ?_)
  have hRel := hRel.fr hGp f1 g1 (by decide)
  refine lv_pop hx hb dL_law_1022 rfl ?_
  refine lv_aload_n hx hb dL_law_1023 rfl (lv_at hl 1 rfl) ?_
  refine lv_aload_n hx hb dL_law_1024 rfl (lv_at hl 3 rfl) ?_
  refine lv_iload_n hx hb dL_law_1025 rfl (lv_at hl 0 rfl) ?_
  refine lv_iconst (v := 1) hx hb dL_law_1026 (by decide) ?_
  refine q_ai X hS (k := 1) (by decide) hi e1 dL_law_1027 dL_law_1028 ?_
  refine lv_aload_n hx hb dL_law_1029 rfl (lv_at hl 3 rfl) ?_
  refine lv_iload_n hx hb dL_law_1030 rfl (lv_at hl 0 rfl) ?_
  refine lv_iconst (v := 2) hx hb dL_law_1031 (by decide) ?_
  refine q_ai X hS (k := 2) (by decide) hi e2 dL_law_1032 dL_law_1033 ?_
  have hGp := hG
  refine W.eq (g2 := F0 m 1034 ls [.int v2, .int v1, .ref (al.2 0 0)]) (by rw [hom]) ?_
  refine q_fi (q_runV (t := 0) (i := 0) (As := [.int v1, .int v2]) (rest := []) C hU (c_X12_bar hG v1 v2) vm_X12_bar ml_L_111 k_0.1 (hc := rfl) rfl (h1_0 hG) hl.1 rfl rfl (Nat.le_of_ble_eq_true rfl) dL_law_1034 rfl rfl ⟨Nat.le_of_ble_eq_true rfl, Nat.le_of_ble_eq_true rfl⟩ ⟨by show cells + 0 ≤ 600000; omega, by show slots + 0 ≤ 7302250; omega⟩) hS (fun r2 iv2 rv2 H locs hG f2 g2 hp2 hU hS => ?_)
  have hRel := hRel.fr hGp f2 g2 (by decide)
  refine lv_pop hx hb dL_law_1037 rfl ?_
  refine lv_goto (tgt := 1475) hx hb dL_law_1038 (by decide) ?_
  refine W.widen (k := cells + 3) (n := slots + 16) (by omega) (by omega) ?_
  exact kk _ _ _ _ _ ⟨hG, hox, hom, hRel⟩ hU hS
set_option maxHeartbeats 4000000 in
set_option maxRecDepth 100000 in
theorem law_23 {p : Program} {l : Launch} {e : Env} {s : State} {m : MethodId} {below : List Frame} {meth : Method} {c : Code} {b L : Nat} {xs : Nat → Int32} {D : va_G} {cA : FieldType → ClassId} {ls : Array Slot} {Q : State → Prop} {H : Heap} {locs : List Loc} {cells slots : Nat} {i : Int32} {ox om : Nat} {al : Al} {iv : Iv} {rv : Rv} (X : LX p s m c b L xs D cA) (hl : lv_has ls 4 [(3, .int i), (2, .ref om), (1, .ref ox), (0, .ref b)]) (hi : 0 ≤ i.toInt ∧ i.toInt + 6 < L) (hQ : LSt ox om al iv rv) (hU : UW D cA s.heap.size al iv rv H) (hS : va_S (Aq s.heap.size) s.heap H locs) (hc : cells + 3 ≤ 600000 ∧ slots + 16 ≤ 7302250)
    (kk : ∀ (al' : Al) (iv' : Iv) (rv' : Rv) (H' : Heap) (locs' : List Loc), LSt ox om al' iv' rv' → UW D cA s.heap.size al' iv' rv' H' → va_S (Aq s.heap.size) s.heap H' locs' → W p l e room_1 s m #[Value.ref b] below meth c H' locs' (cells + 3) (slots + 16) Q (F0 m 1475 ls [])) : W p l e room_1 s m #[Value.ref b] below meth c H locs cells slots Q (F0 m 1041 ls []) := by
  obtain ⟨hG, hox, hom, hRel⟩ := hQ
  have C := X.1
  have hx := C.1.1
  have hb := C.1.2.1
  obtain ⟨v1, e1⟩ : ∃ z, xs (i + 1).toNatClampNeg = z := ⟨_, rfl⟩
  obtain ⟨v2, e2⟩ : ∃ z, xs (i + 2).toNatClampNeg = z := ⟨_, rfl⟩
  obtain ⟨v3, e3⟩ : ∃ z, xs (i + 3).toNatClampNeg = z := ⟨_, rfl⟩
  refine lv_aload_n hx hb dL_law_1041 rfl (lv_at hl 2 rfl) ?_
  refine lv_aload_n hx hb dL_law_1042 rfl (lv_at hl 3 rfl) ?_
  refine lv_iload_n hx hb dL_law_1043 rfl (lv_at hl 0 rfl) ?_
  refine lv_iconst (v := 1) hx hb dL_law_1044 (by decide) ?_
  refine q_ai X hS (k := 1) (by decide) hi e1 dL_law_1045 dL_law_1046 ?_
  refine lv_aload_n hx hb dL_law_1047 rfl (lv_at hl 3 rfl) ?_
  refine lv_iload_n hx hb dL_law_1048 rfl (lv_at hl 0 rfl) ?_
  refine lv_iconst (v := 2) hx hb dL_law_1049 (by decide) ?_
  refine q_ai X hS (k := 2) (by decide) hi e2 dL_law_1050 dL_law_1051 ?_
  refine lv_aload_n hx hb dL_law_1052 rfl (lv_at hl 3 rfl) ?_
  refine lv_iload_n hx hb dL_law_1053 rfl (lv_at hl 0 rfl) ?_
  refine lv_iconst (v := 3) hx hb dL_law_1054 (by decide) ?_
  refine q_ai X hS (k := 3) (by decide) hi e3 dL_law_1055 dL_law_1056 ?_
  have hG0 := hG
  have hGp := hG
  refine W.eq (g2 := F0 m 1057 ls [.int v3, .int v2, .int v1, .ref (al.2 49 0)]) (by rw [hox]) ?_
  refine q_fi (q_runV (t := 49) (i := 0) (As := [.int v1, .int v2, .int v3]) (rest := []) C hU (c_X11_stop hG v1 v2 v3) vm_X11_stop ml_L_112 k_49.1 (hc := rfl) rfl (h1_49 hG) hl.1 rfl rfl (Nat.le_of_ble_eq_true rfl) dL_law_1057 rfl rfl ⟨Nat.le_of_ble_eq_true rfl, Nat.le_of_ble_eq_true rfl⟩ ⟨by show cells + 0 ≤ 600000; omega, by show slots + 0 ≤ 7302250; omega⟩) hS (fun r1 iv1 rv1 H locs hG f1 g1 hp1 hU hS => ?_)
  have hRel := hRel.fr hGp f1 g1 (by decide)
  refine lv_pop hx hb dL_law_1060 rfl ?_
  refine lv_aload_n hx hb dL_law_1061 rfl (lv_at hl 1 rfl) ?_
  refine lv_aload_n hx hb dL_law_1062 rfl (lv_at hl 3 rfl) ?_
  refine lv_iload_n hx hb dL_law_1063 rfl (lv_at hl 0 rfl) ?_
  refine lv_iconst (v := 1) hx hb dL_law_1064 (by decide) ?_
  refine q_ai X hS (k := 1) (by decide) hi e1 dL_law_1065 dL_law_1066 ?_
  refine lv_aload_n hx hb dL_law_1067 rfl (lv_at hl 3 rfl) ?_
  refine lv_iload_n hx hb dL_law_1068 rfl (lv_at hl 0 rfl) ?_
  refine lv_iconst (v := 2) hx hb dL_law_1069 (by decide) ?_
  refine q_ai X hS (k := 2) (by decide) hi e2 dL_law_1070 dL_law_1071 ?_
  refine lv_aload_n hx hb dL_law_1072 rfl (lv_at hl 3 rfl) ?_
  refine lv_iload_n hx hb dL_law_1073 rfl (lv_at hl 0 rfl) ?_
  refine lv_iconst (v := 3) hx hb dL_law_1074 (by decide) ?_
  refine q_ai X hS (k := 3) (by decide) hi e3 dL_law_1075 dL_law_1076 ?_
  have hGp := hG
  refine W.eq (g2 := F0 m 1077 ls [.int v3, .int v2, .int v1, .ref (al.2 0 0)]) (by rw [hom]) ?_
  refine q_fi (q_runV (t := 0) (i := 0) (As := [.int v1, .int v2, .int v3]) (rest := []) C hU (c_X12_stop hG v1 v2 v3) vm_X12_stop ml_L_115 k_0.1 (hc := rfl) rfl (h1_0 hG) hl.1 rfl rfl (Nat.le_of_ble_eq_true rfl) dL_law_1077 rfl rfl ⟨Nat.le_of_ble_eq_true rfl, Nat.le_of_ble_eq_true rfl⟩ ⟨by show cells + 0 ≤ 600000; omega, by show slots + 0 ≤ 7302250; omega⟩) hS (fun r2 iv2 rv2 H locs hG f2 g2 hp2 hU hS => ?_)
  have hRel := hRel.fr hGp f2 g2 (by decide)
  refine lv_pop hx hb dL_law_1080 rfl ?_
  refine lv_goto (tgt := 1475) hx hb dL_law_1081 (by decide) ?_
  refine W.widen (k := cells + 3) (n := slots + 16) (by omega) (by omega) ?_
  exact kk _ _ _ _ _ ⟨hG, hox, hom, hRel⟩ hU hS
set_option maxHeartbeats 4000000 in
set_option maxRecDepth 100000 in
theorem law_24 {p : Program} {l : Launch} {e : Env} {s : State} {m : MethodId} {below : List Frame} {meth : Method} {c : Code} {b L : Nat} {xs : Nat → Int32} {D : va_G} {cA : FieldType → ClassId} {ls : Array Slot} {Q : State → Prop} {H : Heap} {locs : List Loc} {cells slots : Nat} {i : Int32} {ox om : Nat} {al : Al} {iv : Iv} {rv : Rv} (X : LX p s m c b L xs D cA) (hl : lv_has ls 4 [(3, .int i), (2, .ref om), (1, .ref ox), (0, .ref b)]) (hi : 0 ≤ i.toInt ∧ i.toInt + 6 < L) (hQ : LSt ox om al iv rv) (hU : UW D cA s.heap.size al iv rv H) (hS : va_S (Aq s.heap.size) s.heap H locs) (hc : cells + 3 ≤ 600000 ∧ slots + 16 ≤ 7302250)
    (kk : ∀ (al' : Al) (iv' : Iv) (rv' : Rv) (H' : Heap) (locs' : List Loc), LSt ox om al' iv' rv' → UW D cA s.heap.size al' iv' rv' H' → va_S (Aq s.heap.size) s.heap H' locs' → W p l e room_1 s m #[Value.ref b] below meth c H' locs' (cells + 3) (slots + 16) Q (F0 m 1475 ls [])) : W p l e room_1 s m #[Value.ref b] below meth c H locs cells slots Q (F0 m 1084 ls []) := by
  obtain ⟨hG, hox, hom, hRel⟩ := hQ
  have C := X.1
  have hx := C.1.1
  have hb := C.1.2.1
  obtain ⟨v1, e1⟩ : ∃ z, xs (i + 1).toNatClampNeg = z := ⟨_, rfl⟩
  refine lv_aload_n hx hb dL_law_1084 rfl (lv_at hl 2 rfl) ?_
  refine lv_aload_n hx hb dL_law_1085 rfl (lv_at hl 3 rfl) ?_
  refine lv_iload_n hx hb dL_law_1086 rfl (lv_at hl 0 rfl) ?_
  refine lv_iconst (v := 1) hx hb dL_law_1087 (by decide) ?_
  refine q_ai X hS (k := 1) (by decide) hi e1 dL_law_1088 dL_law_1089 ?_
  have hG0 := hG
  have hGp := hG
  refine W.eq (g2 := F0 m 1090 ls [.int v1, .ref (al.2 49 0)]) (by rw [hox]) ?_
  refine q_ciA (q_runVA (t := 49) (i := 0) (As := [.int v1]) (rest := []) C hU hS.1 (c_X11_claim_y hG v1 ⟨hRel.2.1, hRel.2.2.2.1⟩) vm_X11_claim ml_L_116 k_49.1 (hc := rfl) rfl (h1_49 hG) hl.1 rfl rfl (Nat.le_of_ble_eq_true rfl) dL_law_1090 rfl rfl ⟨Nat.le_of_ble_eq_true rfl, Nat.le_of_ble_eq_true rfl⟩ ⟨by show cells + 2 ≤ 600000; omega, by show slots + 9 ≤ 7302250; omega⟩) hS hS.1 (fun r1 al1 iv1 rv1 H locs hp1 hU hS _ => ?_)
  obtain ⟨hG1, hE1, hp1⟩ := hp1
  have hox := (hE1.2.1 49 0 (h1_49 hG)).trans hox
  have hom := (hE1.2.1 0 0 (h1_0 hG)).trans hom
  have hG := hG1
  refine W.widen (k := cells + 3) (n := slots + 16) (by omega) (by omega) ?_
  refine lv_pop hx hb dL_law_1093 rfl ?_
  refine lv_aload_n hx hb dL_law_1094 rfl (lv_at hl 1 rfl) ?_
  refine lv_aload_n hx hb dL_law_1095 rfl (lv_at hl 3 rfl) ?_
  refine lv_iload_n hx hb dL_law_1096 rfl (lv_at hl 0 rfl) ?_
  refine lv_iconst (v := 1) hx hb dL_law_1097 (by decide) ?_
  refine q_ai X hS (k := 1) (by decide) hi e1 dL_law_1098 dL_law_1099 ?_
  have hGp := hG
  refine W.eq (g2 := F0 m 1100 ls [.int v1, .ref (al1.2 0 0)]) (by rw [hom]) ?_
  refine q_fi (q_runV (t := 0) (i := 0) (As := [.int v1]) (rest := []) C hU (c_X12_claim_x hG v1) vm_X12_claim ml_L_119 k_0.1 (hc := rfl) rfl (h1_0 hG) hl.1 rfl rfl (Nat.le_of_ble_eq_true rfl) dL_law_1100 rfl rfl ⟨Nat.le_of_ble_eq_true rfl, Nat.le_of_ble_eq_true rfl⟩ ⟨by show (cells + 3) + 0 ≤ 600000; omega, by show (slots + 16) + 0 ≤ 7302250; omega⟩) hS (fun r2 iv2 rv2 H locs hG f2 g2 hp2 hU hS => ?_)
  have hRel := REL.s_claim hG0 hRel hp1 hp2 hE1 f2 g2
  refine lv_pop hx hb dL_law_1103 rfl ?_
  refine lv_goto (tgt := 1475) hx hb dL_law_1104 (by decide) ?_
  exact kk _ _ _ _ _ ⟨hG, hox, hom, hRel⟩ hU hS
set_option maxHeartbeats 4000000 in
set_option maxRecDepth 100000 in
theorem law_25 {p : Program} {l : Launch} {e : Env} {s : State} {m : MethodId} {below : List Frame} {meth : Method} {c : Code} {b L : Nat} {xs : Nat → Int32} {D : va_G} {cA : FieldType → ClassId} {ls : Array Slot} {Q : State → Prop} {H : Heap} {locs : List Loc} {cells slots : Nat} {i : Int32} {ox om : Nat} {al : Al} {iv : Iv} {rv : Rv} (X : LX p s m c b L xs D cA) (hl : lv_has ls 4 [(3, .int i), (2, .ref om), (1, .ref ox), (0, .ref b)]) (hi : 0 ≤ i.toInt ∧ i.toInt + 6 < L) (hQ : LSt ox om al iv rv) (hU : UW D cA s.heap.size al iv rv H) (hS : va_S (Aq s.heap.size) s.heap H locs) (hc : cells + 3 ≤ 600000 ∧ slots + 16 ≤ 7302250)
    (kk : ∀ (al' : Al) (iv' : Iv) (rv' : Rv) (H' : Heap) (locs' : List Loc), LSt ox om al' iv' rv' → UW D cA s.heap.size al' iv' rv' H' → va_S (Aq s.heap.size) s.heap H' locs' → W p l e room_1 s m #[Value.ref b] below meth c H' locs' (cells + 3) (slots + 16) Q (F0 m 1475 ls [])) : W p l e room_1 s m #[Value.ref b] below meth c H locs cells slots Q (F0 m 1107 ls []) := by
  obtain ⟨hG, hox, hom, hRel⟩ := hQ
  have C := X.1
  have hx := C.1.1
  have hb := C.1.2.1
  obtain ⟨v1, e1⟩ : ∃ z, xs (i + 1).toNatClampNeg = z := ⟨_, rfl⟩
  obtain ⟨v2, e2⟩ : ∃ z, xs (i + 2).toNatClampNeg = z := ⟨_, rfl⟩
  refine lv_aload_n hx hb dL_law_1107 rfl (lv_at hl 2 rfl) ?_
  refine lv_aload_n hx hb dL_law_1108 rfl (lv_at hl 3 rfl) ?_
  refine lv_iload_n hx hb dL_law_1109 rfl (lv_at hl 0 rfl) ?_
  refine lv_iconst (v := 1) hx hb dL_law_1110 (by decide) ?_
  refine q_ai X hS (k := 1) (by decide) hi e1 dL_law_1111 dL_law_1112 ?_
  refine lv_aload_n hx hb dL_law_1113 rfl (lv_at hl 3 rfl) ?_
  refine lv_iload_n hx hb dL_law_1114 rfl (lv_at hl 0 rfl) ?_
  refine lv_iconst (v := 2) hx hb dL_law_1115 (by decide) ?_
  refine q_ai X hS (k := 2) (by decide) hi e2 dL_law_1116 dL_law_1117 ?_
  have hG0 := hG
  have hGp := hG
  refine W.eq (g2 := F0 m 1118 ls [.int v2, .int v1, .ref (al.2 49 0)]) (by rw [hox]) ?_
  refine q_fi (q_runV (t := 49) (i := 0) (As := [.int v1, .int v2]) (rest := []) C hU (c_X11_claimOf hG v1 v2) vm_X11_claimOf ml_L_120 k_49.1 (hc := rfl) rfl (h1_49 hG) hl.1 rfl rfl (Nat.le_of_ble_eq_true rfl) dL_law_1118 rfl rfl ⟨Nat.le_of_ble_eq_true rfl, Nat.le_of_ble_eq_true rfl⟩ ⟨by show cells + 0 ≤ 600000; omega, by show slots + 0 ≤ 7302250; omega⟩) hS (fun r1 iv1 rv1 H locs hG f1 g1 hp1 hU hS => ?_)
  have hRel := hRel.fr hGp f1 g1 (by decide)
  refine lv_pop hx hb dL_law_1121 rfl ?_
  refine lv_aload_n hx hb dL_law_1122 rfl (lv_at hl 1 rfl) ?_
  refine lv_aload_n hx hb dL_law_1123 rfl (lv_at hl 3 rfl) ?_
  refine lv_iload_n hx hb dL_law_1124 rfl (lv_at hl 0 rfl) ?_
  refine lv_iconst (v := 1) hx hb dL_law_1125 (by decide) ?_
  refine q_ai X hS (k := 1) (by decide) hi e1 dL_law_1126 dL_law_1127 ?_
  refine lv_aload_n hx hb dL_law_1128 rfl (lv_at hl 3 rfl) ?_
  refine lv_iload_n hx hb dL_law_1129 rfl (lv_at hl 0 rfl) ?_
  refine lv_iconst (v := 2) hx hb dL_law_1130 (by decide) ?_
  refine q_ai X hS (k := 2) (by decide) hi e2 dL_law_1131 dL_law_1132 ?_
  have hGp := hG
  refine W.eq (g2 := F0 m 1133 ls [.int v2, .int v1, .ref (al.2 0 0)]) (by rw [hom]) ?_
  refine q_fi (q_runV (t := 0) (i := 0) (As := [.int v1, .int v2]) (rest := []) C hU (c_X12_claimOf hG v1 v2) vm_X12_claimOf ml_L_123 k_0.1 (hc := rfl) rfl (h1_0 hG) hl.1 rfl rfl (Nat.le_of_ble_eq_true rfl) dL_law_1133 rfl rfl ⟨Nat.le_of_ble_eq_true rfl, Nat.le_of_ble_eq_true rfl⟩ ⟨by show cells + 0 ≤ 600000; omega, by show slots + 0 ≤ 7302250; omega⟩) hS (fun r2 iv2 rv2 H locs hG f2 g2 hp2 hU hS => ?_)
  have hRel := hRel.fr hGp f2 g2 (by decide)
  refine lv_pop hx hb dL_law_1136 rfl ?_
  refine lv_goto (tgt := 1475) hx hb dL_law_1137 (by decide) ?_
  refine W.widen (k := cells + 3) (n := slots + 16) (by omega) (by omega) ?_
  exact kk _ _ _ _ _ ⟨hG, hox, hom, hRel⟩ hU hS
set_option maxHeartbeats 4000000 in
set_option maxRecDepth 100000 in
theorem law_26 {p : Program} {l : Launch} {e : Env} {s : State} {m : MethodId} {below : List Frame} {meth : Method} {c : Code} {b L : Nat} {xs : Nat → Int32} {D : va_G} {cA : FieldType → ClassId} {ls : Array Slot} {Q : State → Prop} {H : Heap} {locs : List Loc} {cells slots : Nat} {i : Int32} {ox om : Nat} {al : Al} {iv : Iv} {rv : Rv} (X : LX p s m c b L xs D cA) (hl : lv_has ls 4 [(3, .int i), (2, .ref om), (1, .ref ox), (0, .ref b)]) (hi : 0 ≤ i.toInt ∧ i.toInt + 6 < L) (hQ : LSt ox om al iv rv) (hU : UW D cA s.heap.size al iv rv H) (hS : va_S (Aq s.heap.size) s.heap H locs) (hc : cells + 3 ≤ 600000 ∧ slots + 16 ≤ 7302250)
    (kk : ∀ (al' : Al) (iv' : Iv) (rv' : Rv) (H' : Heap) (locs' : List Loc), LSt ox om al' iv' rv' → UW D cA s.heap.size al' iv' rv' H' → va_S (Aq s.heap.size) s.heap H' locs' → W p l e room_1 s m #[Value.ref b] below meth c H' locs' (cells + 3) (slots + 16) Q (F0 m 1475 ls [])) : W p l e room_1 s m #[Value.ref b] below meth c H locs cells slots Q (F0 m 1140 ls []) := by
  obtain ⟨hG, hox, hom, hRel⟩ := hQ
  have C := X.1
  have hx := C.1.1
  have hb := C.1.2.1
  obtain ⟨v1, e1⟩ : ∃ z, xs (i + 1).toNatClampNeg = z := ⟨_, rfl⟩
  obtain ⟨v2, e2⟩ : ∃ z, xs (i + 2).toNatClampNeg = z := ⟨_, rfl⟩
  obtain ⟨v3, e3⟩ : ∃ z, xs (i + 3).toNatClampNeg = z := ⟨_, rfl⟩
  refine lv_aload_n hx hb dL_law_1140 rfl (lv_at hl 2 rfl) ?_
  refine lv_aload_n hx hb dL_law_1141 rfl (lv_at hl 3 rfl) ?_
  refine lv_iload_n hx hb dL_law_1142 rfl (lv_at hl 0 rfl) ?_
  refine lv_iconst (v := 1) hx hb dL_law_1143 (by decide) ?_
  refine q_ai X hS (k := 1) (by decide) hi e1 dL_law_1144 dL_law_1145 ?_
  refine lv_aload_n hx hb dL_law_1146 rfl (lv_at hl 3 rfl) ?_
  refine lv_iload_n hx hb dL_law_1147 rfl (lv_at hl 0 rfl) ?_
  refine lv_iconst (v := 2) hx hb dL_law_1148 (by decide) ?_
  refine q_ai X hS (k := 2) (by decide) hi e2 dL_law_1149 dL_law_1150 ?_
  refine lv_aload_n hx hb dL_law_1151 rfl (lv_at hl 3 rfl) ?_
  refine lv_iload_n hx hb dL_law_1152 rfl (lv_at hl 0 rfl) ?_
  refine lv_iconst (v := 3) hx hb dL_law_1153 (by decide) ?_
  refine q_ai X hS (k := 3) (by decide) hi e3 dL_law_1154 dL_law_1155 ?_
  have hG0 := hG
  have hGp := hG
  refine W.eq (g2 := F0 m 1156 ls [.int v3, .int v2, .int v1, .ref (al.2 49 0)]) (by rw [hox]) ?_
  refine q_fi (q_runV (t := 49) (i := 0) (As := [.int v1, .int v2, .int v3]) (rest := []) C hU (c_X11_owes hG v1 v2 v3) vm_X11_owes ml_L_124 k_49.1 (hc := rfl) rfl (h1_49 hG) hl.1 rfl rfl (Nat.le_of_ble_eq_true rfl) dL_law_1156 rfl rfl ⟨Nat.le_of_ble_eq_true rfl, Nat.le_of_ble_eq_true rfl⟩ ⟨by show cells + 0 ≤ 600000; omega, by show slots + 0 ≤ 7302250; omega⟩) hS (fun r1 iv1 rv1 H locs hG f1 g1 hp1 hU hS => ?_)
  have hRel := hRel.fr hGp f1 g1 (by decide)
  refine lv_pop hx hb dL_law_1159 rfl ?_
  refine lv_aload_n hx hb dL_law_1160 rfl (lv_at hl 1 rfl) ?_
  refine lv_aload_n hx hb dL_law_1161 rfl (lv_at hl 3 rfl) ?_
  refine lv_iload_n hx hb dL_law_1162 rfl (lv_at hl 0 rfl) ?_
  refine lv_iconst (v := 1) hx hb dL_law_1163 (by decide) ?_
  refine q_ai X hS (k := 1) (by decide) hi e1 dL_law_1164 dL_law_1165 ?_
  refine lv_aload_n hx hb dL_law_1166 rfl (lv_at hl 3 rfl) ?_
  refine lv_iload_n hx hb dL_law_1167 rfl (lv_at hl 0 rfl) ?_
  refine lv_iconst (v := 2) hx hb dL_law_1168 (by decide) ?_
  refine q_ai X hS (k := 2) (by decide) hi e2 dL_law_1169 dL_law_1170 ?_
  refine lv_aload_n hx hb dL_law_1171 rfl (lv_at hl 3 rfl) ?_
  refine lv_iload_n hx hb dL_law_1172 rfl (lv_at hl 0 rfl) ?_
  refine lv_iconst (v := 3) hx hb dL_law_1173 (by decide) ?_
  refine q_ai X hS (k := 3) (by decide) hi e3 dL_law_1174 dL_law_1175 ?_
  have hGp := hG
  refine W.eq (g2 := F0 m 1176 ls [.int v3, .int v2, .int v1, .ref (al.2 0 0)]) (by rw [hom]) ?_
  refine q_fi (q_runV (t := 0) (i := 0) (As := [.int v1, .int v2, .int v3]) (rest := []) C hU (c_X12_owes hG v1 v2 v3) vm_X12_owes ml_L_127 k_0.1 (hc := rfl) rfl (h1_0 hG) hl.1 rfl rfl (Nat.le_of_ble_eq_true rfl) dL_law_1176 rfl rfl ⟨Nat.le_of_ble_eq_true rfl, Nat.le_of_ble_eq_true rfl⟩ ⟨by show cells + 0 ≤ 600000; omega, by show slots + 0 ≤ 7302250; omega⟩) hS (fun r2 iv2 rv2 H locs hG f2 g2 hp2 hU hS => ?_)
  have hRel := hRel.fr hGp f2 g2 (by decide)
  refine lv_pop hx hb dL_law_1179 rfl ?_
  refine lv_goto (tgt := 1475) hx hb dL_law_1180 (by decide) ?_
  refine W.widen (k := cells + 3) (n := slots + 16) (by omega) (by omega) ?_
  exact kk _ _ _ _ _ ⟨hG, hox, hom, hRel⟩ hU hS
end
section
set_option maxHeartbeats 4000000 in
set_option maxRecDepth 100000 in
theorem law_27 {p : Program} {l : Launch} {e : Env} {s : State} {m : MethodId} {below : List Frame} {meth : Method} {c : Code} {b L : Nat} {xs : Nat → Int32} {D : va_G} {cA : FieldType → ClassId} {ls : Array Slot} {Q : State → Prop} {H : Heap} {locs : List Loc} {cells slots : Nat} {i : Int32} {ox om : Nat} {al : Al} {iv : Iv} {rv : Rv} (X : LX p s m c b L xs D cA) (hl : lv_has ls 4 [(3, .int i), (2, .ref om), (1, .ref ox), (0, .ref b)]) (hi : 0 ≤ i.toInt ∧ i.toInt + 6 < L) (hQ : LSt ox om al iv rv) (hU : UW D cA s.heap.size al iv rv H) (hS : va_S (Aq s.heap.size) s.heap H locs) (hc : cells + 3 ≤ 600000 ∧ slots + 16 ≤ 7302250)
    (kk : ∀ (al' : Al) (iv' : Iv) (rv' : Rv) (H' : Heap) (locs' : List Loc), LSt ox om al' iv' rv' → UW D cA s.heap.size al' iv' rv' H' → va_S (Aq s.heap.size) s.heap H' locs' → W p l e room_1 s m #[Value.ref b] below meth c H' locs' (cells + 3) (slots + 16) Q (F0 m 1475 ls [])) : W p l e room_1 s m #[Value.ref b] below meth c H locs cells slots Q (F0 m 1183 ls []) := by
  obtain ⟨hG, hox, hom, hRel⟩ := hQ
  have C := X.1
  have hx := C.1.1
  have hb := C.1.2.1
  obtain ⟨v1, e1⟩ : ∃ z, xs (i + 1).toNatClampNeg = z := ⟨_, rfl⟩
  obtain ⟨v2, e2⟩ : ∃ z, xs (i + 2).toNatClampNeg = z := ⟨_, rfl⟩
  obtain ⟨v3, e3⟩ : ∃ z, xs (i + 3).toNatClampNeg = z := ⟨_, rfl⟩
  refine lv_aload_n hx hb dL_law_1183 rfl (lv_at hl 2 rfl) ?_
  refine lv_aload_n hx hb dL_law_1184 rfl (lv_at hl 3 rfl) ?_
  refine lv_iload_n hx hb dL_law_1185 rfl (lv_at hl 0 rfl) ?_
  refine lv_iconst (v := 1) hx hb dL_law_1186 (by decide) ?_
  refine q_ai X hS (k := 1) (by decide) hi e1 dL_law_1187 dL_law_1188 ?_
  refine lv_aload_n hx hb dL_law_1189 rfl (lv_at hl 3 rfl) ?_
  refine lv_iload_n hx hb dL_law_1190 rfl (lv_at hl 0 rfl) ?_
  refine lv_iconst (v := 2) hx hb dL_law_1191 (by decide) ?_
  refine q_ai X hS (k := 2) (by decide) hi e2 dL_law_1192 dL_law_1193 ?_
  refine lv_aload_n hx hb dL_law_1194 rfl (lv_at hl 3 rfl) ?_
  refine lv_iload_n hx hb dL_law_1195 rfl (lv_at hl 0 rfl) ?_
  refine lv_iconst (v := 3) hx hb dL_law_1196 (by decide) ?_
  refine q_ai X hS (k := 3) (by decide) hi e3 dL_law_1197 dL_law_1198 ?_
  have hG0 := hG
  have hGp := hG
  refine W.eq (g2 := F0 m 1199 ls [.int v3, .int v2, .int v1, .ref (al.2 49 0)]) (by rw [hox]) ?_
  refine q_fi (q_runV (t := 49) (i := 0) (As := [.int v1, .int v2, .int v3]) (rest := []) C hU (c_X11_pay_x hG v1 v2 v3 ⟨hRel.2.2.2.1, hRel.2.2.2.2⟩) vm_X11_pay ml_L_128 k_49.1 (hc := rfl) rfl (h1_49 hG) hl.1 rfl rfl (Nat.le_of_ble_eq_true rfl) dL_law_1199 rfl rfl ⟨Nat.le_of_ble_eq_true rfl, Nat.le_of_ble_eq_true rfl⟩ ⟨by show cells + 0 ≤ 600000; omega, by show slots + 0 ≤ 7302250; omega⟩) hS (fun r1 iv1 rv1 H locs hG f1 g1 hp1 hU hS => ?_)
  refine lv_aload_n hx hb dL_law_1202 rfl (lv_at hl 1 rfl) ?_
  refine lv_aload_n hx hb dL_law_1203 rfl (lv_at hl 3 rfl) ?_
  refine lv_iload_n hx hb dL_law_1204 rfl (lv_at hl 0 rfl) ?_
  refine lv_iconst (v := 1) hx hb dL_law_1205 (by decide) ?_
  refine q_ai X hS (k := 1) (by decide) hi e1 dL_law_1206 dL_law_1207 ?_
  refine lv_aload_n hx hb dL_law_1208 rfl (lv_at hl 3 rfl) ?_
  refine lv_iload_n hx hb dL_law_1209 rfl (lv_at hl 0 rfl) ?_
  refine lv_iconst (v := 2) hx hb dL_law_1210 (by decide) ?_
  refine q_ai X hS (k := 2) (by decide) hi e2 dL_law_1211 dL_law_1212 ?_
  refine lv_aload_n hx hb dL_law_1213 rfl (lv_at hl 3 rfl) ?_
  refine lv_iload_n hx hb dL_law_1214 rfl (lv_at hl 0 rfl) ?_
  refine lv_iconst (v := 3) hx hb dL_law_1215 (by decide) ?_
  refine q_ai X hS (k := 3) (by decide) hi e3 dL_law_1216 dL_law_1217 ?_
  have hGp := hG
  refine W.eq (g2 := F0 m 1218 ls [.int v3, .int v2, .int v1, .ref (al.2 0 0), .int r1]) (by rw [hom]) ?_
  refine q_fi (q_runV (t := 0) (i := 0) (As := [.int v1, .int v2, .int v3]) (rest := [.int r1]) C hU (c_X12_pay_x hG v1 v2 v3) vm_X12_pay ml_L_131 k_0.1 (hc := rfl) rfl (h1_0 hG) hl.1 rfl rfl (Nat.le_of_ble_eq_true rfl) dL_law_1218 rfl rfl ⟨Nat.le_of_ble_eq_true rfl, Nat.le_of_ble_eq_true rfl⟩ ⟨by show cells + 0 ≤ 600000; omega, by show slots + 0 ≤ 7302250; omega⟩) hS (fun r2 iv2 rv2 H locs hG f2 g2 hp2 hU hS => ?_)
  have hE := REL.a_pay hG0 hRel hp1 hp2 (EX.of f1 g1) f2 g2
  have hRel := REL.s_pay hG0 hRel hp1 hp2 (EX.of f1 g1) f2 g2
  refine b_icmp_eq (tgt := 1475) hx hb dL_law_1221 (by decide) (fun c0 => ?_) (fun c0 => absurd (congrArg Int32.toInt hE) c0)
  refine W.widen (k := cells + 3) (n := slots + 16) (by omega) (by omega) ?_
  exact kk _ _ _ _ _ ⟨hG, hox, hom, hRel⟩ hU hS
set_option maxHeartbeats 4000000 in
set_option maxRecDepth 100000 in
theorem law_28 {p : Program} {l : Launch} {e : Env} {s : State} {m : MethodId} {below : List Frame} {meth : Method} {c : Code} {b L : Nat} {xs : Nat → Int32} {D : va_G} {cA : FieldType → ClassId} {ls : Array Slot} {Q : State → Prop} {H : Heap} {locs : List Loc} {cells slots : Nat} {i : Int32} {ox om : Nat} {al : Al} {iv : Iv} {rv : Rv} (X : LX p s m c b L xs D cA) (hl : lv_has ls 4 [(3, .int i), (2, .ref om), (1, .ref ox), (0, .ref b)]) (hi : 0 ≤ i.toInt ∧ i.toInt + 6 < L) (hQ : LSt ox om al iv rv) (hU : UW D cA s.heap.size al iv rv H) (hS : va_S (Aq s.heap.size) s.heap H locs) (hc : cells + 3 ≤ 600000 ∧ slots + 16 ≤ 7302250)
    (kk : ∀ (al' : Al) (iv' : Iv) (rv' : Rv) (H' : Heap) (locs' : List Loc), LSt ox om al' iv' rv' → UW D cA s.heap.size al' iv' rv' H' → va_S (Aq s.heap.size) s.heap H' locs' → W p l e room_1 s m #[Value.ref b] below meth c H' locs' (cells + 3) (slots + 16) Q (F0 m 1475 ls [])) : W p l e room_1 s m #[Value.ref b] below meth c H locs cells slots Q (F0 m 1226 ls []) := by
  obtain ⟨hG, hox, hom, hRel⟩ := hQ
  have C := X.1
  have hx := C.1.1
  have hb := C.1.2.1
  obtain ⟨v1, e1⟩ : ∃ z, xs (i + 1).toNatClampNeg = z := ⟨_, rfl⟩
  obtain ⟨v2, e2⟩ : ∃ z, xs (i + 2).toNatClampNeg = z := ⟨_, rfl⟩
  refine lv_aload_n hx hb dL_law_1226 rfl (lv_at hl 2 rfl) ?_
  refine lv_aload_n hx hb dL_law_1227 rfl (lv_at hl 3 rfl) ?_
  refine lv_iload_n hx hb dL_law_1228 rfl (lv_at hl 0 rfl) ?_
  refine lv_iconst (v := 1) hx hb dL_law_1229 (by decide) ?_
  refine q_ai X hS (k := 1) (by decide) hi e1 dL_law_1230 dL_law_1231 ?_
  refine lv_aload_n hx hb dL_law_1232 rfl (lv_at hl 3 rfl) ?_
  refine lv_iload_n hx hb dL_law_1233 rfl (lv_at hl 0 rfl) ?_
  refine lv_iconst (v := 2) hx hb dL_law_1234 (by decide) ?_
  refine q_ai X hS (k := 2) (by decide) hi e2 dL_law_1235 dL_law_1236 ?_
  have hG0 := hG
  have hGp := hG
  refine W.eq (g2 := F0 m 1237 ls [.int v2, .int v1, .ref (al.2 49 0)]) (by rw [hox]) ?_
  refine q_fi (q_runV (t := 49) (i := 0) (As := [.int v1, .int v2]) (rest := []) C hU (c_X11_due hG v1 v2) vm_X11_due ml_L_132 k_49.1 (hc := rfl) rfl (h1_49 hG) hl.1 rfl rfl (Nat.le_of_ble_eq_true rfl) dL_law_1237 rfl rfl ⟨Nat.le_of_ble_eq_true rfl, Nat.le_of_ble_eq_true rfl⟩ ⟨by show cells + 0 ≤ 600000; omega, by show slots + 0 ≤ 7302250; omega⟩) hS (fun r1 iv1 rv1 H locs hG f1 g1 hp1 hU hS => ?_)
  have hRel := hRel.fr hGp f1 g1 (by decide)
  refine lv_pop hx hb dL_law_1240 rfl ?_
  refine lv_aload_n hx hb dL_law_1241 rfl (lv_at hl 1 rfl) ?_
  refine lv_aload_n hx hb dL_law_1242 rfl (lv_at hl 3 rfl) ?_
  refine lv_iload_n hx hb dL_law_1243 rfl (lv_at hl 0 rfl) ?_
  refine lv_iconst (v := 1) hx hb dL_law_1244 (by decide) ?_
  refine q_ai X hS (k := 1) (by decide) hi e1 dL_law_1245 dL_law_1246 ?_
  refine lv_aload_n hx hb dL_law_1247 rfl (lv_at hl 3 rfl) ?_
  refine lv_iload_n hx hb dL_law_1248 rfl (lv_at hl 0 rfl) ?_
  refine lv_iconst (v := 2) hx hb dL_law_1249 (by decide) ?_
  refine q_ai X hS (k := 2) (by decide) hi e2 dL_law_1250 dL_law_1251 ?_
  have hGp := hG
  refine W.eq (g2 := F0 m 1252 ls [.int v2, .int v1, .ref (al.2 0 0)]) (by rw [hom]) ?_
  refine q_fi (q_runV (t := 0) (i := 0) (As := [.int v1, .int v2]) (rest := []) C hU (c_X12_due hG v1 v2) vm_X12_due ml_L_135 k_0.1 (hc := rfl) rfl (h1_0 hG) hl.1 rfl rfl (Nat.le_of_ble_eq_true rfl) dL_law_1252 rfl rfl ⟨Nat.le_of_ble_eq_true rfl, Nat.le_of_ble_eq_true rfl⟩ ⟨by show cells + 0 ≤ 600000; omega, by show slots + 0 ≤ 7302250; omega⟩) hS (fun r2 iv2 rv2 H locs hG f2 g2 hp2 hU hS => ?_)
  have hRel := hRel.fr hGp f2 g2 (by decide)
  refine lv_pop hx hb dL_law_1255 rfl ?_
  refine lv_goto (tgt := 1475) hx hb dL_law_1256 (by decide) ?_
  refine W.widen (k := cells + 3) (n := slots + 16) (by omega) (by omega) ?_
  exact kk _ _ _ _ _ ⟨hG, hox, hom, hRel⟩ hU hS
set_option maxHeartbeats 4000000 in
set_option maxRecDepth 100000 in
theorem law_29 {p : Program} {l : Launch} {e : Env} {s : State} {m : MethodId} {below : List Frame} {meth : Method} {c : Code} {b L : Nat} {xs : Nat → Int32} {D : va_G} {cA : FieldType → ClassId} {ls : Array Slot} {Q : State → Prop} {H : Heap} {locs : List Loc} {cells slots : Nat} {i : Int32} {ox om : Nat} {al : Al} {iv : Iv} {rv : Rv} (X : LX p s m c b L xs D cA) (hl : lv_has ls 4 [(3, .int i), (2, .ref om), (1, .ref ox), (0, .ref b)]) (hi : 0 ≤ i.toInt ∧ i.toInt + 6 < L) (hQ : LSt ox om al iv rv) (hU : UW D cA s.heap.size al iv rv H) (hS : va_S (Aq s.heap.size) s.heap H locs) (hc : cells + 3 ≤ 600000 ∧ slots + 16 ≤ 7302250)
    (kk : ∀ (al' : Al) (iv' : Iv) (rv' : Rv) (H' : Heap) (locs' : List Loc), LSt ox om al' iv' rv' → UW D cA s.heap.size al' iv' rv' H' → va_S (Aq s.heap.size) s.heap H' locs' → W p l e room_1 s m #[Value.ref b] below meth c H' locs' (cells + 3) (slots + 16) Q (F0 m 1475 ls [])) : W p l e room_1 s m #[Value.ref b] below meth c H locs cells slots Q (F0 m 1259 ls []) := by
  obtain ⟨hG, hox, hom, hRel⟩ := hQ
  have C := X.1
  have hx := C.1.1
  have hb := C.1.2.1
  obtain ⟨v1, e1⟩ : ∃ z, xs (i + 1).toNatClampNeg = z := ⟨_, rfl⟩
  refine lv_aload_n hx hb dL_law_1259 rfl (lv_at hl 2 rfl) ?_
  refine lv_aload_n hx hb dL_law_1260 rfl (lv_at hl 3 rfl) ?_
  refine lv_iload_n hx hb dL_law_1261 rfl (lv_at hl 0 rfl) ?_
  refine lv_iconst (v := 1) hx hb dL_law_1262 (by decide) ?_
  refine q_ai X hS (k := 1) (by decide) hi e1 dL_law_1263 dL_law_1264 ?_
  have hG0 := hG
  have hGp := hG
  refine W.eq (g2 := F0 m 1265 ls [.int v1, .ref (al.2 49 0)]) (by rw [hox]) ?_
  refine q_fi (q_runV (t := 49) (i := 0) (As := [.int v1]) (rest := []) C hU (c_X11_balance hG v1) vm_X11_balance ml_L_136 k_49.1 (hc := rfl) rfl (h1_49 hG) hl.1 rfl rfl (Nat.le_of_ble_eq_true rfl) dL_law_1265 rfl rfl ⟨Nat.le_of_ble_eq_true rfl, Nat.le_of_ble_eq_true rfl⟩ ⟨by show cells + 0 ≤ 600000; omega, by show slots + 0 ≤ 7302250; omega⟩) hS (fun r1 iv1 rv1 H locs hG f1 g1 hp1 hU hS => ?_)
  have hRel := hRel.fr hGp f1 g1 (by decide)
  refine lv_pop hx hb dL_law_1268 rfl ?_
  refine lv_aload_n hx hb dL_law_1269 rfl (lv_at hl 1 rfl) ?_
  refine lv_aload_n hx hb dL_law_1270 rfl (lv_at hl 3 rfl) ?_
  refine lv_iload_n hx hb dL_law_1271 rfl (lv_at hl 0 rfl) ?_
  refine lv_iconst (v := 1) hx hb dL_law_1272 (by decide) ?_
  refine q_ai X hS (k := 1) (by decide) hi e1 dL_law_1273 dL_law_1274 ?_
  have hGp := hG
  refine W.eq (g2 := F0 m 1275 ls [.int v1, .ref (al.2 0 0)]) (by rw [hom]) ?_
  refine q_fi (q_runV (t := 0) (i := 0) (As := [.int v1]) (rest := []) C hU (c_X12_balance hG v1) vm_X12_balance ml_L_139 k_0.1 (hc := rfl) rfl (h1_0 hG) hl.1 rfl rfl (Nat.le_of_ble_eq_true rfl) dL_law_1275 rfl rfl ⟨Nat.le_of_ble_eq_true rfl, Nat.le_of_ble_eq_true rfl⟩ ⟨by show cells + 0 ≤ 600000; omega, by show slots + 0 ≤ 7302250; omega⟩) hS (fun r2 iv2 rv2 H locs hG f2 g2 hp2 hU hS => ?_)
  have hRel := hRel.fr hGp f2 g2 (by decide)
  refine lv_pop hx hb dL_law_1278 rfl ?_
  refine lv_goto (tgt := 1475) hx hb dL_law_1279 (by decide) ?_
  refine W.widen (k := cells + 3) (n := slots + 16) (by omega) (by omega) ?_
  exact kk _ _ _ _ _ ⟨hG, hox, hom, hRel⟩ hU hS
set_option maxHeartbeats 4000000 in
set_option maxRecDepth 100000 in
theorem law_30 {p : Program} {l : Launch} {e : Env} {s : State} {m : MethodId} {below : List Frame} {meth : Method} {c : Code} {b L : Nat} {xs : Nat → Int32} {D : va_G} {cA : FieldType → ClassId} {ls : Array Slot} {Q : State → Prop} {H : Heap} {locs : List Loc} {cells slots : Nat} {i : Int32} {ox om : Nat} {al : Al} {iv : Iv} {rv : Rv} (X : LX p s m c b L xs D cA) (hl : lv_has ls 4 [(3, .int i), (2, .ref om), (1, .ref ox), (0, .ref b)]) (hi : 0 ≤ i.toInt ∧ i.toInt + 6 < L) (hQ : LSt ox om al iv rv) (hU : UW D cA s.heap.size al iv rv H) (hS : va_S (Aq s.heap.size) s.heap H locs) (hc : cells + 3 ≤ 600000 ∧ slots + 16 ≤ 7302250)
    (kk : ∀ (al' : Al) (iv' : Iv) (rv' : Rv) (H' : Heap) (locs' : List Loc), LSt ox om al' iv' rv' → UW D cA s.heap.size al' iv' rv' H' → va_S (Aq s.heap.size) s.heap H' locs' → W p l e room_1 s m #[Value.ref b] below meth c H' locs' (cells + 3) (slots + 16) Q (F0 m 1475 ls [])) : W p l e room_1 s m #[Value.ref b] below meth c H locs cells slots Q (F0 m 1282 ls []) := by
  obtain ⟨hG, hox, hom, hRel⟩ := hQ
  have C := X.1
  have hx := C.1.1
  have hb := C.1.2.1
  refine lv_aload_n hx hb dL_law_1282 rfl (lv_at hl 2 rfl) ?_
  have hG0 := hG
  have hGp := hG
  refine W.eq (g2 := F0 m 1283 ls [.ref (al.2 49 0)]) (by rw [hox]) ?_
  refine q_fi (q_runV (t := 49) (i := 0) (As := []) (rest := []) C hU (c_X11_back hG ) vm_X11_back ml_L_140 k_49.1 (hc := rfl) rfl (h1_49 hG) hl.1 rfl rfl (Nat.le_of_ble_eq_true rfl) dL_law_1283 rfl rfl ⟨Nat.le_of_ble_eq_true rfl, Nat.le_of_ble_eq_true rfl⟩ ⟨by show cells + 0 ≤ 600000; omega, by show slots + 0 ≤ 7302250; omega⟩) hS (fun r1 iv1 rv1 H locs hG f1 g1 hp1 hU hS => ?_)
  have hRel := hRel.fr hGp f1 g1 (by decide)
  refine lv_pop hx hb dL_law_1286 rfl ?_
  refine lv_aload_n hx hb dL_law_1287 rfl (lv_at hl 1 rfl) ?_
  have hGp := hG
  refine W.eq (g2 := F0 m 1288 ls [.ref (al.2 0 0)]) (by rw [hom]) ?_
  refine q_fi (q_runV (t := 0) (i := 0) (As := []) (rest := []) C hU (c_X12_back hG ) vm_X12_back ml_L_144 k_0.1 (hc := rfl) rfl (h1_0 hG) hl.1 rfl rfl (Nat.le_of_ble_eq_true rfl) dL_law_1288 rfl rfl ⟨Nat.le_of_ble_eq_true rfl, Nat.le_of_ble_eq_true rfl⟩ ⟨by show cells + 0 ≤ 600000; omega, by show slots + 0 ≤ 7302250; omega⟩) hS (fun r2 iv2 rv2 H locs hG f2 g2 hp2 hU hS => ?_)
  have hRel := hRel.fr hGp f2 g2 (by decide)
  refine lv_pop hx hb dL_law_1291 rfl ?_
  refine lv_goto (tgt := 1475) hx hb dL_law_1292 (by decide) ?_
  refine W.widen (k := cells + 3) (n := slots + 16) (by omega) (by omega) ?_
  exact kk _ _ _ _ _ ⟨hG, hox, hom, hRel⟩ hU hS
set_option maxHeartbeats 4000000 in
set_option maxRecDepth 100000 in
theorem law_31 {p : Program} {l : Launch} {e : Env} {s : State} {m : MethodId} {below : List Frame} {meth : Method} {c : Code} {b L : Nat} {xs : Nat → Int32} {D : va_G} {cA : FieldType → ClassId} {ls : Array Slot} {Q : State → Prop} {H : Heap} {locs : List Loc} {cells slots : Nat} {i : Int32} {ox om : Nat} {al : Al} {iv : Iv} {rv : Rv} (X : LX p s m c b L xs D cA) (hl : lv_has ls 4 [(3, .int i), (2, .ref om), (1, .ref ox), (0, .ref b)]) (hi : 0 ≤ i.toInt ∧ i.toInt + 6 < L) (hQ : LSt ox om al iv rv) (hU : UW D cA s.heap.size al iv rv H) (hS : va_S (Aq s.heap.size) s.heap H locs) (hc : cells + 3 ≤ 600000 ∧ slots + 16 ≤ 7302250)
    (kk : ∀ (al' : Al) (iv' : Iv) (rv' : Rv) (H' : Heap) (locs' : List Loc), LSt ox om al' iv' rv' → UW D cA s.heap.size al' iv' rv' H' → va_S (Aq s.heap.size) s.heap H' locs' → W p l e room_1 s m #[Value.ref b] below meth c H' locs' (cells + 3) (slots + 16) Q (F0 m 1475 ls [])) : W p l e room_1 s m #[Value.ref b] below meth c H locs cells slots Q (F0 m 1295 ls []) := by
  obtain ⟨hG, hox, hom, hRel⟩ := hQ
  have C := X.1
  have hx := C.1.1
  have hb := C.1.2.1
  obtain ⟨v1, e1⟩ : ∃ z, xs (i + 1).toNatClampNeg = z := ⟨_, rfl⟩
  obtain ⟨v2, e2⟩ : ∃ z, xs (i + 2).toNatClampNeg = z := ⟨_, rfl⟩
  obtain ⟨v3, e3⟩ : ∃ z, xs (i + 3).toNatClampNeg = z := ⟨_, rfl⟩
  obtain ⟨v4, e4⟩ : ∃ z, xs (i + 4).toNatClampNeg = z := ⟨_, rfl⟩
  obtain ⟨v5, e5⟩ : ∃ z, xs (i + 5).toNatClampNeg = z := ⟨_, rfl⟩
  obtain ⟨v6, e6⟩ : ∃ z, xs (i + 6).toNatClampNeg = z := ⟨_, rfl⟩
  refine lv_aload_n hx hb dL_law_1295 rfl (lv_at hl 2 rfl) ?_
  refine lv_aload_n hx hb dL_law_1296 rfl (lv_at hl 3 rfl) ?_
  refine lv_iload_n hx hb dL_law_1297 rfl (lv_at hl 0 rfl) ?_
  refine lv_iconst (v := 1) hx hb dL_law_1298 (by decide) ?_
  refine q_ai X hS (k := 1) (by decide) hi e1 dL_law_1299 dL_law_1300 ?_
  refine lv_aload_n hx hb dL_law_1301 rfl (lv_at hl 3 rfl) ?_
  refine lv_iload_n hx hb dL_law_1302 rfl (lv_at hl 0 rfl) ?_
  refine lv_iconst (v := 2) hx hb dL_law_1303 (by decide) ?_
  refine q_ai X hS (k := 2) (by decide) hi e2 dL_law_1304 dL_law_1305 ?_
  refine lv_aload_n hx hb dL_law_1306 rfl (lv_at hl 3 rfl) ?_
  refine lv_iload_n hx hb dL_law_1307 rfl (lv_at hl 0 rfl) ?_
  refine lv_iconst (v := 3) hx hb dL_law_1308 (by decide) ?_
  refine q_ai X hS (k := 3) (by decide) hi e3 dL_law_1309 dL_law_1310 ?_
  refine lv_aload_n hx hb dL_law_1311 rfl (lv_at hl 3 rfl) ?_
  refine lv_iload_n hx hb dL_law_1312 rfl (lv_at hl 0 rfl) ?_
  refine lv_iconst (v := 4) hx hb dL_law_1313 (by decide) ?_
  refine q_ai X hS (k := 4) (by decide) hi e4 dL_law_1314 dL_law_1315 ?_
  refine lv_aload_n hx hb dL_law_1316 rfl (lv_at hl 3 rfl) ?_
  refine lv_iload_n hx hb dL_law_1317 rfl (lv_at hl 0 rfl) ?_
  refine lv_iconst (v := 5) hx hb dL_law_1318 (by decide) ?_
  refine q_ai X hS (k := 5) (by decide) hi e5 dL_law_1319 dL_law_1320 ?_
  have J_1329 : ∀ zv5 : Int32, (0 ≤ zv5.toInt ∧ zv5.toInt ≤ 1) → zv5 = bz v5 → W p l e room_1 s m #[Value.ref b] below meth c H locs cells slots Q (F0 m 1329 ls [.int zv5, .int v4, .int v3, .int v2, .int v1, .ref ox]) := by
    intro zv5 rzv5 qzv5
    refine lv_aload_n hx hb dL_law_1329 rfl (lv_at hl 3 rfl) ?_
    refine lv_iload_n hx hb dL_law_1330 rfl (lv_at hl 0 rfl) ?_
    refine lv_bipush (v := 6) hx hb dL_law_1331 (by decide) ?_
    refine q_ai X hS (k := 6) (by decide) hi e6 dL_law_1333 dL_law_1334 ?_
    have hG0 := hG
    have hGp := hG
    refine W.eq (g2 := F0 m 1335 ls [.int v6, .int zv5, .int v4, .int v3, .int v2, .int v1, .ref (al.2 49 0)]) (by rw [hox]) ?_
    refine q_fi (q_runV (t := 49) (i := 0) (As := [.int v1, .int v2, .int v3, .int v4, .int zv5, .int v6]) (rest := []) C hU (c_X11_judged hG v1 v2 v3 v4 zv5 v6 rzv5) vm_X11_judged ml_L_145 k_49.1 (hc := rfl) rfl (h1_49 hG) hl.1 rfl rfl (Nat.le_of_ble_eq_true rfl) dL_law_1335 rfl rfl ⟨Nat.le_of_ble_eq_true rfl, Nat.le_of_ble_eq_true rfl⟩ ⟨by show cells + 0 ≤ 600000; omega, by show slots + 0 ≤ 7302250; omega⟩) hS (fun r1 iv1 rv1 H locs hG f1 g1 hp1 hU hS => ?_)
    have hRel := hRel.fr hGp f1 g1 (by decide)
    refine lv_pop hx hb dL_law_1338 rfl ?_
    refine lv_aload_n hx hb dL_law_1339 rfl (lv_at hl 1 rfl) ?_
    refine lv_aload_n hx hb dL_law_1340 rfl (lv_at hl 3 rfl) ?_
    refine lv_iload_n hx hb dL_law_1341 rfl (lv_at hl 0 rfl) ?_
    refine lv_iconst (v := 1) hx hb dL_law_1342 (by decide) ?_
    refine q_ai X hS (k := 1) (by decide) hi e1 dL_law_1343 dL_law_1344 ?_
    refine lv_aload_n hx hb dL_law_1345 rfl (lv_at hl 3 rfl) ?_
    refine lv_iload_n hx hb dL_law_1346 rfl (lv_at hl 0 rfl) ?_
    refine lv_iconst (v := 2) hx hb dL_law_1347 (by decide) ?_
    refine q_ai X hS (k := 2) (by decide) hi e2 dL_law_1348 dL_law_1349 ?_
    refine lv_aload_n hx hb dL_law_1350 rfl (lv_at hl 3 rfl) ?_
    refine lv_iload_n hx hb dL_law_1351 rfl (lv_at hl 0 rfl) ?_
    refine lv_iconst (v := 3) hx hb dL_law_1352 (by decide) ?_
    refine q_ai X hS (k := 3) (by decide) hi e3 dL_law_1353 dL_law_1354 ?_
    refine lv_aload_n hx hb dL_law_1355 rfl (lv_at hl 3 rfl) ?_
    refine lv_iload_n hx hb dL_law_1356 rfl (lv_at hl 0 rfl) ?_
    refine lv_iconst (v := 4) hx hb dL_law_1357 (by decide) ?_
    refine q_ai X hS (k := 4) (by decide) hi e4 dL_law_1358 dL_law_1359 ?_
    refine lv_aload_n hx hb dL_law_1360 rfl (lv_at hl 3 rfl) ?_
    refine lv_iload_n hx hb dL_law_1361 rfl (lv_at hl 0 rfl) ?_
    refine lv_iconst (v := 5) hx hb dL_law_1362 (by decide) ?_
    refine q_ai X hS (k := 5) (by decide) hi e5 dL_law_1363 dL_law_1364 ?_
    have J_1373 : ∀ zv5m : Int32, (0 ≤ zv5m.toInt ∧ zv5m.toInt ≤ 1) → zv5m = bz v5 → W p l e room_1 s m #[Value.ref b] below meth c H locs cells slots Q (F0 m 1373 ls [.int zv5m, .int v4, .int v3, .int v2, .int v1, .ref om]) := by
      intro zv5m rzv5m qzv5m
      refine lv_aload_n hx hb dL_law_1373 rfl (lv_at hl 3 rfl) ?_
      refine lv_iload_n hx hb dL_law_1374 rfl (lv_at hl 0 rfl) ?_
      refine lv_bipush (v := 6) hx hb dL_law_1375 (by decide) ?_
      refine q_ai X hS (k := 6) (by decide) hi e6 dL_law_1377 dL_law_1378 ?_
      have hGp := hG
      refine W.eq (g2 := F0 m 1379 ls [.int v6, .int zv5m, .int v4, .int v3, .int v2, .int v1, .ref (al.2 0 0)]) (by rw [hom]) ?_
      refine q_fi (q_runV (t := 0) (i := 0) (As := [.int v1, .int v2, .int v3, .int v4, .int zv5m, .int v6]) (rest := []) C hU (c_X12_judged hG v1 v2 v3 v4 zv5m v6 rzv5m) vm_X12_judged ml_L_149 k_0.1 (hc := rfl) rfl (h1_0 hG) hl.1 rfl rfl (Nat.le_of_ble_eq_true rfl) dL_law_1379 rfl rfl ⟨Nat.le_of_ble_eq_true rfl, Nat.le_of_ble_eq_true rfl⟩ ⟨by show cells + 0 ≤ 600000; omega, by show slots + 0 ≤ 7302250; omega⟩) hS (fun r2 iv2 rv2 H locs hG f2 g2 hp2 hU hS => ?_)
      have hRel := hRel.fr hGp f2 g2 (by decide)
      refine lv_pop hx hb dL_law_1382 rfl ?_
      refine lv_goto (tgt := 1475) hx hb dL_law_1383 (by decide) ?_
      refine W.widen (k := cells + 3) (n := slots + 16) (by omega) (by omega) ?_
      exact kk _ _ _ _ _ ⟨hG, hox, hom, hRel⟩ hU hS
    refine b_if_eq (tgt := 1372) hx hb dL_law_1365 (by decide) (fun c0 => ?_) (fun c0 => ?_)
    · refine lv_iconst (v := 0) hx hb dL_law_1372 (by decide) ?_
      exact J_1373 0 ⟨by decide, by decide⟩ (bz_0 c0)
    · refine lv_iconst (v := 1) hx hb dL_law_1368 (by decide) ?_
      refine lv_goto (tgt := 1373) hx hb dL_law_1369 (by decide) ?_
      exact J_1373 1 ⟨by decide, by decide⟩ (bz_1 c0)
  refine b_if_eq (tgt := 1328) hx hb dL_law_1321 (by decide) (fun c0 => ?_) (fun c0 => ?_)
  · refine lv_iconst (v := 0) hx hb dL_law_1328 (by decide) ?_
    exact J_1329 0 ⟨by decide, by decide⟩ (bz_0 c0)
  · refine lv_iconst (v := 1) hx hb dL_law_1324 (by decide) ?_
    refine lv_goto (tgt := 1329) hx hb dL_law_1325 (by decide) ?_
    exact J_1329 1 ⟨by decide, by decide⟩ (bz_1 c0)
set_option maxHeartbeats 4000000 in
set_option maxRecDepth 100000 in
theorem law_32 {p : Program} {l : Launch} {e : Env} {s : State} {m : MethodId} {below : List Frame} {meth : Method} {c : Code} {b L : Nat} {xs : Nat → Int32} {D : va_G} {cA : FieldType → ClassId} {ls : Array Slot} {Q : State → Prop} {H : Heap} {locs : List Loc} {cells slots : Nat} {i : Int32} {ox om : Nat} {al : Al} {iv : Iv} {rv : Rv} (X : LX p s m c b L xs D cA) (hl : lv_has ls 4 [(3, .int i), (2, .ref om), (1, .ref ox), (0, .ref b)]) (hi : 0 ≤ i.toInt ∧ i.toInt + 6 < L) (hQ : LSt ox om al iv rv) (hU : UW D cA s.heap.size al iv rv H) (hS : va_S (Aq s.heap.size) s.heap H locs) (hc : cells + 3 ≤ 600000 ∧ slots + 16 ≤ 7302250)
    (kk : ∀ (al' : Al) (iv' : Iv) (rv' : Rv) (H' : Heap) (locs' : List Loc), LSt ox om al' iv' rv' → UW D cA s.heap.size al' iv' rv' H' → va_S (Aq s.heap.size) s.heap H' locs' → W p l e room_1 s m #[Value.ref b] below meth c H' locs' (cells + 3) (slots + 16) Q (F0 m 1475 ls [])) : W p l e room_1 s m #[Value.ref b] below meth c H locs cells slots Q (F0 m 1386 ls []) := by
  obtain ⟨hG, hox, hom, hRel⟩ := hQ
  have C := X.1
  have hx := C.1.1
  have hb := C.1.2.1
  obtain ⟨v1, e1⟩ : ∃ z, xs (i + 1).toNatClampNeg = z := ⟨_, rfl⟩
  obtain ⟨v2, e2⟩ : ∃ z, xs (i + 2).toNatClampNeg = z := ⟨_, rfl⟩
  refine lv_aload_n hx hb dL_law_1386 rfl (lv_at hl 2 rfl) ?_
  refine lv_aload_n hx hb dL_law_1387 rfl (lv_at hl 3 rfl) ?_
  refine lv_iload_n hx hb dL_law_1388 rfl (lv_at hl 0 rfl) ?_
  refine lv_iconst (v := 1) hx hb dL_law_1389 (by decide) ?_
  refine q_ai X hS (k := 1) (by decide) hi e1 dL_law_1390 dL_law_1391 ?_
  refine lv_aload_n hx hb dL_law_1392 rfl (lv_at hl 3 rfl) ?_
  refine lv_iload_n hx hb dL_law_1393 rfl (lv_at hl 0 rfl) ?_
  refine lv_iconst (v := 2) hx hb dL_law_1394 (by decide) ?_
  refine q_ai X hS (k := 2) (by decide) hi e2 dL_law_1395 dL_law_1396 ?_
  have hG0 := hG
  have hGp := hG
  refine W.eq (g2 := F0 m 1397 ls [.int v2, .int v1, .ref (al.2 49 0)]) (by rw [hox]) ?_
  refine q_fi (q_runV (t := 49) (i := 0) (As := [.int v1, .int v2]) (rest := []) C hU (c_X11_odds hG v1 v2) vm_X11_odds ml_L_150 k_49.1 (hc := rfl) rfl (h1_49 hG) hl.1 rfl rfl (Nat.le_of_ble_eq_true rfl) dL_law_1397 rfl rfl ⟨Nat.le_of_ble_eq_true rfl, Nat.le_of_ble_eq_true rfl⟩ ⟨by show cells + 0 ≤ 600000; omega, by show slots + 0 ≤ 7302250; omega⟩) hS (fun r1 iv1 rv1 H locs hG f1 g1 hp1 hU hS => ?_)
  have hRel := hRel.fr hGp f1 g1 (by decide)
  refine lv_pop hx hb dL_law_1400 rfl ?_
  refine lv_aload_n hx hb dL_law_1401 rfl (lv_at hl 1 rfl) ?_
  refine lv_aload_n hx hb dL_law_1402 rfl (lv_at hl 3 rfl) ?_
  refine lv_iload_n hx hb dL_law_1403 rfl (lv_at hl 0 rfl) ?_
  refine lv_iconst (v := 1) hx hb dL_law_1404 (by decide) ?_
  refine q_ai X hS (k := 1) (by decide) hi e1 dL_law_1405 dL_law_1406 ?_
  refine lv_aload_n hx hb dL_law_1407 rfl (lv_at hl 3 rfl) ?_
  refine lv_iload_n hx hb dL_law_1408 rfl (lv_at hl 0 rfl) ?_
  refine lv_iconst (v := 2) hx hb dL_law_1409 (by decide) ?_
  refine q_ai X hS (k := 2) (by decide) hi e2 dL_law_1410 dL_law_1411 ?_
  have hGp := hG
  refine W.eq (g2 := F0 m 1412 ls [.int v2, .int v1, .ref (al.2 0 0)]) (by rw [hom]) ?_
  refine q_fi (q_runV (t := 0) (i := 0) (As := [.int v1, .int v2]) (rest := []) C hU (c_X12_odds hG v1 v2) vm_X12_odds ml_L_153 k_0.1 (hc := rfl) rfl (h1_0 hG) hl.1 rfl rfl (Nat.le_of_ble_eq_true rfl) dL_law_1412 rfl rfl ⟨Nat.le_of_ble_eq_true rfl, Nat.le_of_ble_eq_true rfl⟩ ⟨by show cells + 0 ≤ 600000; omega, by show slots + 0 ≤ 7302250; omega⟩) hS (fun r2 iv2 rv2 H locs hG f2 g2 hp2 hU hS => ?_)
  have hRel := hRel.fr hGp f2 g2 (by decide)
  refine lv_pop hx hb dL_law_1415 rfl ?_
  refine lv_goto (tgt := 1475) hx hb dL_law_1416 (by decide) ?_
  refine W.widen (k := cells + 3) (n := slots + 16) (by omega) (by omega) ?_
  exact kk _ _ _ _ _ ⟨hG, hox, hom, hRel⟩ hU hS
set_option maxHeartbeats 4000000 in
set_option maxRecDepth 100000 in
theorem law_33 {p : Program} {l : Launch} {e : Env} {s : State} {m : MethodId} {below : List Frame} {meth : Method} {c : Code} {b L : Nat} {xs : Nat → Int32} {D : va_G} {cA : FieldType → ClassId} {ls : Array Slot} {Q : State → Prop} {H : Heap} {locs : List Loc} {cells slots : Nat} {i : Int32} {ox om : Nat} {al : Al} {iv : Iv} {rv : Rv} (X : LX p s m c b L xs D cA) (hl : lv_has ls 4 [(3, .int i), (2, .ref om), (1, .ref ox), (0, .ref b)]) (hi : 0 ≤ i.toInt ∧ i.toInt + 6 < L) (hQ : LSt ox om al iv rv) (hU : UW D cA s.heap.size al iv rv H) (hS : va_S (Aq s.heap.size) s.heap H locs) (hc : cells + 3 ≤ 600000 ∧ slots + 16 ≤ 7302250)
    (kk : ∀ (al' : Al) (iv' : Iv) (rv' : Rv) (H' : Heap) (locs' : List Loc), LSt ox om al' iv' rv' → UW D cA s.heap.size al' iv' rv' H' → va_S (Aq s.heap.size) s.heap H' locs' → W p l e room_1 s m #[Value.ref b] below meth c H' locs' (cells + 3) (slots + 16) Q (F0 m 1475 ls [])) : W p l e room_1 s m #[Value.ref b] below meth c H locs cells slots Q (F0 m 1419 ls []) := by
  obtain ⟨hG, hox, hom, hRel⟩ := hQ
  have C := X.1
  have hx := C.1.1
  have hb := C.1.2.1
  obtain ⟨v1, e1⟩ : ∃ z, xs (i + 1).toNatClampNeg = z := ⟨_, rfl⟩
  obtain ⟨v2, e2⟩ : ∃ z, xs (i + 2).toNatClampNeg = z := ⟨_, rfl⟩
  refine lv_aload_n hx hb dL_law_1419 rfl (lv_at hl 2 rfl) ?_
  refine lv_aload_n hx hb dL_law_1420 rfl (lv_at hl 3 rfl) ?_
  refine lv_iload_n hx hb dL_law_1421 rfl (lv_at hl 0 rfl) ?_
  refine lv_iconst (v := 1) hx hb dL_law_1422 (by decide) ?_
  refine q_ai X hS (k := 1) (by decide) hi e1 dL_law_1423 dL_law_1424 ?_
  refine lv_aload_n hx hb dL_law_1425 rfl (lv_at hl 3 rfl) ?_
  refine lv_iload_n hx hb dL_law_1426 rfl (lv_at hl 0 rfl) ?_
  refine lv_iconst (v := 2) hx hb dL_law_1427 (by decide) ?_
  refine q_ai X hS (k := 2) (by decide) hi e2 dL_law_1428 dL_law_1429 ?_
  have hG0 := hG
  have hGp := hG
  refine W.eq (g2 := F0 m 1430 ls [.int v2, .int v1, .ref (al.2 49 0)]) (by rw [hox]) ?_
  refine q_fi (q_runV (t := 49) (i := 0) (As := [.int v1, .int v2]) (rest := []) C hU (c_X11_good hG v1 v2) vm_X11_good ml_L_154 k_49.1 (hc := rfl) rfl (h1_49 hG) hl.1 rfl rfl (Nat.le_of_ble_eq_true rfl) dL_law_1430 rfl rfl ⟨Nat.le_of_ble_eq_true rfl, Nat.le_of_ble_eq_true rfl⟩ ⟨by show cells + 0 ≤ 600000; omega, by show slots + 0 ≤ 7302250; omega⟩) hS (fun r1 iv1 rv1 H locs hG f1 g1 hp1 hU hS => ?_)
  have hRel := hRel.fr hGp f1 g1 (by decide)
  refine lv_pop hx hb dL_law_1433 rfl ?_
  refine lv_aload_n hx hb dL_law_1434 rfl (lv_at hl 1 rfl) ?_
  refine lv_aload_n hx hb dL_law_1435 rfl (lv_at hl 3 rfl) ?_
  refine lv_iload_n hx hb dL_law_1436 rfl (lv_at hl 0 rfl) ?_
  refine lv_iconst (v := 1) hx hb dL_law_1437 (by decide) ?_
  refine q_ai X hS (k := 1) (by decide) hi e1 dL_law_1438 dL_law_1439 ?_
  refine lv_aload_n hx hb dL_law_1440 rfl (lv_at hl 3 rfl) ?_
  refine lv_iload_n hx hb dL_law_1441 rfl (lv_at hl 0 rfl) ?_
  refine lv_iconst (v := 2) hx hb dL_law_1442 (by decide) ?_
  refine q_ai X hS (k := 2) (by decide) hi e2 dL_law_1443 dL_law_1444 ?_
  have hGp := hG
  refine W.eq (g2 := F0 m 1445 ls [.int v2, .int v1, .ref (al.2 0 0)]) (by rw [hom]) ?_
  refine q_fi (q_runV (t := 0) (i := 0) (As := [.int v1, .int v2]) (rest := []) C hU (c_X12_good hG v1 v2) vm_X12_good ml_L_157 k_0.1 (hc := rfl) rfl (h1_0 hG) hl.1 rfl rfl (Nat.le_of_ble_eq_true rfl) dL_law_1445 rfl rfl ⟨Nat.le_of_ble_eq_true rfl, Nat.le_of_ble_eq_true rfl⟩ ⟨by show cells + 0 ≤ 600000; omega, by show slots + 0 ≤ 7302250; omega⟩) hS (fun r2 iv2 rv2 H locs hG f2 g2 hp2 hU hS => ?_)
  have hRel := hRel.fr hGp f2 g2 (by decide)
  refine lv_pop hx hb dL_law_1448 rfl ?_
  refine lv_goto (tgt := 1475) hx hb dL_law_1449 (by decide) ?_
  refine W.widen (k := cells + 3) (n := slots + 16) (by omega) (by omega) ?_
  exact kk _ _ _ _ _ ⟨hG, hox, hom, hRel⟩ hU hS
set_option maxHeartbeats 4000000 in
set_option maxRecDepth 100000 in
theorem law_34 {p : Program} {l : Launch} {e : Env} {s : State} {m : MethodId} {below : List Frame} {meth : Method} {c : Code} {b L : Nat} {xs : Nat → Int32} {D : va_G} {cA : FieldType → ClassId} {ls : Array Slot} {Q : State → Prop} {H : Heap} {locs : List Loc} {cells slots : Nat} {i : Int32} {ox om : Nat} {al : Al} {iv : Iv} {rv : Rv} (X : LX p s m c b L xs D cA) (hl : lv_has ls 4 [(3, .int i), (2, .ref om), (1, .ref ox), (0, .ref b)]) (hi : 0 ≤ i.toInt ∧ i.toInt + 6 < L) (hQ : LSt ox om al iv rv) (hU : UW D cA s.heap.size al iv rv H) (hS : va_S (Aq s.heap.size) s.heap H locs) (hc : cells + 3 ≤ 600000 ∧ slots + 16 ≤ 7302250)
    (kk : ∀ (al' : Al) (iv' : Iv) (rv' : Rv) (H' : Heap) (locs' : List Loc), LSt ox om al' iv' rv' → UW D cA s.heap.size al' iv' rv' H' → va_S (Aq s.heap.size) s.heap H' locs' → W p l e room_1 s m #[Value.ref b] below meth c H' locs' (cells + 3) (slots + 16) Q (F0 m 1475 ls [])) : W p l e room_1 s m #[Value.ref b] below meth c H locs cells slots Q (F0 m 1452 ls []) := by
  obtain ⟨hG, hox, hom, hRel⟩ := hQ
  have C := X.1
  have hx := C.1.1
  have hb := C.1.2.1
  obtain ⟨v1, e1⟩ : ∃ z, xs (i + 1).toNatClampNeg = z := ⟨_, rfl⟩
  refine lv_aload_n hx hb dL_law_1452 rfl (lv_at hl 2 rfl) ?_
  refine lv_aload_n hx hb dL_law_1453 rfl (lv_at hl 3 rfl) ?_
  refine lv_iload_n hx hb dL_law_1454 rfl (lv_at hl 0 rfl) ?_
  refine lv_iconst (v := 1) hx hb dL_law_1455 (by decide) ?_
  refine q_ai X hS (k := 1) (by decide) hi e1 dL_law_1456 dL_law_1457 ?_
  have hG0 := hG
  have hGp := hG
  refine W.eq (g2 := F0 m 1458 ls [.int v1, .ref (al.2 49 0)]) (by rw [hox]) ?_
  refine q_fi (q_runV (t := 49) (i := 0) (As := [.int v1]) (rest := []) C hU (c_X11_count hG v1) vm_X11_count ml_L_158 k_49.1 (hc := rfl) rfl (h1_49 hG) hl.1 rfl rfl (Nat.le_of_ble_eq_true rfl) dL_law_1458 rfl rfl ⟨Nat.le_of_ble_eq_true rfl, Nat.le_of_ble_eq_true rfl⟩ ⟨by show cells + 0 ≤ 600000; omega, by show slots + 0 ≤ 7302250; omega⟩) hS (fun r1 iv1 rv1 H locs hG f1 g1 hp1 hU hS => ?_)
  have hRel := hRel.fr hGp f1 g1 (by decide)
  refine lv_pop hx hb dL_law_1461 rfl ?_
  refine lv_aload_n hx hb dL_law_1462 rfl (lv_at hl 1 rfl) ?_
  refine lv_aload_n hx hb dL_law_1463 rfl (lv_at hl 3 rfl) ?_
  refine lv_iload_n hx hb dL_law_1464 rfl (lv_at hl 0 rfl) ?_
  refine lv_iconst (v := 1) hx hb dL_law_1465 (by decide) ?_
  refine q_ai X hS (k := 1) (by decide) hi e1 dL_law_1466 dL_law_1467 ?_
  have hGp := hG
  refine W.eq (g2 := F0 m 1468 ls [.int v1, .ref (al.2 0 0)]) (by rw [hom]) ?_
  refine q_fi (q_runV (t := 0) (i := 0) (As := [.int v1]) (rest := []) C hU (c_X12_count hG v1) vm_X12_count ml_L_161 k_0.1 (hc := rfl) rfl (h1_0 hG) hl.1 rfl rfl (Nat.le_of_ble_eq_true rfl) dL_law_1468 rfl rfl ⟨Nat.le_of_ble_eq_true rfl, Nat.le_of_ble_eq_true rfl⟩ ⟨by show cells + 0 ≤ 600000; omega, by show slots + 0 ≤ 7302250; omega⟩) hS (fun r2 iv2 rv2 H locs hG f2 g2 hp2 hU hS => ?_)
  have hRel := hRel.fr hGp f2 g2 (by decide)
  refine lv_pop hx hb dL_law_1471 rfl ?_
  refine lv_goto (tgt := 1475) hx hb dL_law_1472 (by decide) ?_
  refine W.widen (k := cells + 3) (n := slots + 16) (by omega) (by omega) ?_
  exact kk _ _ _ _ _ ⟨hG, hox, hom, hRel⟩ hU hS
end
section
abbrev n11 : Nat → Nat := (nx (nx (fun t => (nx (fun t => (nx (fun t => (nx (fun t => (nx (fun t => (nx (fun t => (nx (fun t => (nx (fun _ => 0) 52) t + (fun t => ((if t = 53 then 1 else 0) + (if t = 56 then 10 else 0)) + ((if t = 54 then 1 else 0) + (if t = 55 then 10 else 0))) t) 57) t + (nx (nx (nx (nx (fun _ => 0) 58) 59) 60) 61) t) 63) t + (nx (fun _ => 0) 64) t) 68) t + (nx (nx (nx (nx (nx (nx (nx (nx (nx (nx (fun _ => 0) 69) 70) 71) 72) 73) 74) 75) 76) 77) 78) t) 79) t + (nx (nx (nx (nx (fun _ => 0) 80) 81) 82) 83) t) 84) t + (nx (nx (nx (fun _ => 0) 85) 86) 87) t) 90) t + (nx (nx (nx (nx (nx (nx (nx (fun _ => 0) 91) 92) 93) 94) 95) 96) 97) t) 50) 51)
abbrev m11 : Mo := ([50, 53, 54, 80], [(49, 0), (49, 1), (49, 2), (49, 3), (49, 4), (49, 5), (49, 6), (49, 7), (49, 8), (49, 9), (52, 0), (52, 1), (56, 0), (56, 2), (57, 0), (57, 2), (57, 3), (57, 4), (63, 0), (68, 0), (68, 1), (68, 2), (68, 3), (68, 4), (68, 6), (68, 7), (68, 8), (68, 9), (68, 10), (79, 0), (79, 1), (79, 2), (79, 3), (84, 0), (84, 2), (84, 3), (90, 0), (90, 1), (90, 2), (90, 3), (90, 4), (90, 5), (90, 7)])
abbrev n12 : Nat → Nat := (nx (nx (nx (nx (nx (nx (nx (nx (nx (nx (nx (nx (nx (nx (nx (nx (nx (nx (nx (nx (nx (nx (nx (nx (nx (nx (nx (nx (nx (nx (nx (nx (nx (nx (nx (nx (nx (nx (nx (nx (nx (nx (nx (nx (nx (nx (nx (nx (fun _ => 0) 1) 2) 3) 4) 5) 6) 7) 8) 9) 10) 11) 12) 13) 14) 15) 16) 17) 18) 19) 20) 21) 22) 23) 24) 25) 26) 27) 28) 29) 30) 31) 32) 33) 34) 35) 36) 37) 38) 39) 40) 41) 42) 43) 44) 45) 46) 47) 48)
abbrev m12 : Mo := ([3, 15, 31], [(0, 1), (0, 2), (0, 3), (0, 4), (0, 7), (0, 8), (0, 9), (0, 10), (0, 11), (0, 12), (0, 13), (0, 14), (0, 15), (0, 16), (0, 17), (0, 18), (0, 19), (0, 21), (0, 22), (0, 23), (0, 25), (0, 26), (0, 27), (0, 28), (0, 29), (0, 31), (0, 32), (0, 33), (0, 34), (0, 35), (0, 36), (0, 38), (0, 39), (0, 40), (0, 42), (0, 43), (0, 44), (0, 45), (0, 46), (0, 47), (0, 49), (0, 50), (0, 51), (0, 52), (0, 53), (0, 54), (0, 58), (0, 59)])
def CT (t : Nat) : Nat := 0 + (if t = 49 then 1 else 0) + n11 t + (if t = 0 then 1 else 0) + n12 t
theorem ct_sng : ∀ t, t ∈ sng → CT t = 1 := by decide +kernel
def refAt (t k : Nat) : Bool := ([59, 58, 54, 53, 52, 51, 50, 49, 47, 46, 45, 44, 43, 42, 40, 39, 38, 36, 35, 34, 33, 32, 31, 29, 28, 27, 26, 25, 23, 22, 21, 19, 18, 17, 16, 15, 14, 13, 12, 11, 10, 9, 8, 7, 4, 3, 2, 1].map (fun k => (0, k)) ++ ([8, 7, 6, 5, 4, 3, 2, 1, 0].map (fun k => (49, k)) ++ [(90, 7), (90, 5), (90, 4), (90, 3), (90, 2), (90, 1), (90, 0), (84, 3), (84, 2), (84, 0), (79, 3), (79, 2), (79, 1), (79, 0), (68, 10), (68, 9), (68, 8), (68, 7), (68, 6), (68, 4), (68, 3), (68, 2), (68, 1), (68, 0), (63, 0), (57, 4), (57, 3), (57, 2), (57, 0), (52, 0), (52, 1)])).contains (t, k) || t == 53 || t == 54 || t == 62 || t == 65 || t == 88
theorem ref_list : (List.range 98).all (fun t => (List.range (pt t).2.1).all (fun k => !((pt t).2.2.2 k).isSome || !nnl t k || refAt t k)) = true := by decide +kernel
theorem ref_at {t k t' : Nat} (h2 : k < (pt t).2.1) (h3 : (pt t).2.2.2 k = some t') (h4 : nnl t k = true) : refAt t k = true := by
  by_cases ht : t < 98
  · have a := List.all_eq_true.mp (List.all_eq_true.mp ref_list t (List.mem_range.mpr ht)) k (List.mem_range.mpr h2)
    rw [h3, h4] at a
    simpa using a
  · obtain ⟨n, rfl⟩ : ∃ n, t = n + 98 := ⟨t - 98, by omega⟩
    cases h3
theorem gi_start {al1 al2 al3 al4 : Al} {iv1 iv2 iv3 iv4 : Iv} {rv1 rv2 rv3 rv4 : Rv} (c1 : ∀ t, al1.1 t = 0 + (if t = 49 then 1 else 0)) (E1 : EXT n11 m11 al1 iv1 rv1 al2 iv2 rv2) (c3 : ∀ t, al3.1 t = al2.1 t + (if t = 0 then 1 else 0)) (b1 : ∀ t i k, iv1 t i k = 0)
    (k3 : ∀ t i k, i < al2.1 t → iv3 t i k = iv2 t i k ∧ rv3 t i k = rv2 t i k) (b3 : ∀ k, iv3 0 0 k = 0) (E2 : EXT n12 m12 al3 iv3 rv3 al4 iv4 rv4) (hR : RG al4 iv4) (hB : RB al4 rv4) (hN1 : NN 49 0 [8, 7, 6, 5, 4, 3, 2, 1, 0] rv2) (hZ : NZ [(90, 7), (90, 5), (90, 4), (90, 3), (90, 2), (90, 1), (90, 0), (84, 3), (84, 2), (84, 0), (79, 3), (79, 2), (79, 1), (79, 0), (68, 10), (68, 9), (68, 8), (68, 7), (68, 6), (68, 4), (68, 3), (68, 2), (68, 1), (68, 0), (63, 0), (57, 4), (57, 3), (57, 2), (57, 0), (52, 0), (52, 1)] al2 rv2) (hP : PF al2 iv2 rv2) (hN2 : NN 0 0 [59, 58, 54, 53, 52, 51, 50, 49, 47, 46, 45, 44, 43, 42, 40, 39, 38, 36, 35, 34, 33, 32, 31, 29, 28, 27, 26, 25, 23, 22, 21, 19, 18, 17, 16, 15, 14, 13, 12, 11, 10, 9, 8, 7, 4, 3, 2, 1] rv4) :
    GI al4 iv4 rv4 ∧ (∀ t i k, i < al4.1 t → ¬ MD m11 t k → ¬ MD m12 t k → iv4 t i k = 0) := by
  have ct : ∀ t, al4.1 t = CT t := fun t => by rw [E2.1, c3, E1.1, c1]; rfl
  have c2 : ∀ t, al2.1 t = 0 + (if t = 49 then 1 else 0) + n11 t := fun t => by rw [E1.1, c1]
  -- what the first leaves stays
  have keep : ∀ t i k, i < al2.1 t → ¬ MD m12 t k → iv4 t i k = iv2 t i k ∧ rv4 t i k = rv2 t i k := fun t i k q w => by
    have a := E2.2.2.1 t i k (by rw [c3]; omega) w
    have b := k3 t i k q
    exact ⟨a.1.trans b.1, a.2.trans b.2⟩
  have zero : ∀ t i k, i < al4.1 t → ¬ MD m11 t k → ¬ MD m12 t k → iv4 t i k = 0 := fun t i k q w1 w2 => by
    rcases Nat.lt_or_ge i (al2.1 t) with z | z
    · rw [(keep t i k z w2).1]
      rcases Nat.lt_or_ge i (al1.1 t) with y | y
      · rw [(E1.2.2.1 t i k y w1).1]; exact b1 t i k
      · exact (E1.2.2.2 t i k y z w1).1
    · rcases Nat.lt_or_ge i (al3.1 t) with y | y
      · have e : t = 0 ∧ i = 0 := by
          rw [c3] at y
          by_cases e0 : t = 0
          · subst e0
            have a0 : al2.1 0 = 0 := by rw [c2]; rfl
            simp at y; exact ⟨rfl, by omega⟩
          · simp [e0] at y; omega
        obtain ⟨rfl, rfl⟩ := e
        rw [(E2.2.2.1 0 0 k y w2).1]; exact b3 k
      · exact (E2.2.2.2 t i k y q w2).1
  have pos2 : ∀ t, 0 < 0 + (if t = 49 then 1 else 0) + n11 t → 0 < al2.1 t := fun t h => by rw [c2]; exact h
  have a62 : al4.1 62 = 0 := by rw [ct]; decide +kernel
  have a65 : al4.1 65 = 0 := by rw [ct]; decide +kernel
  have a88 : al4.1 88 = 0 := by rw [ct]; decide +kernel
  refine ⟨⟨hR, ?_, ?_, ?_⟩, zero⟩
  · intro t i k t' h1 h2 h3
    refine ⟨fun j hj => hB t i k t' h1 h2 h3 j hj, fun h4 => ?_⟩
    have r := ref_at h2 h3 h4
    simp only [refAt, Bool.or_eq_true, beq_iff_eq, List.contains_iff_mem] at r
    rcases r with ((((r | r) | r) | r) | r) | r
    · rcases List.mem_append.mp r with r | r
      · obtain ⟨k', hk, e⟩ := List.mem_map.mp r
        cases e
        have i0 : i = 0 := by rw [ct, show CT 0 = 1 from by decide +kernel] at h1; omega
        subst i0
        exact hN2 k hk
      · rcases List.mem_append.mp r with r | r
        · obtain ⟨k', hk, e⟩ := List.mem_map.mp r
          cases e
          have i0 : i = 0 := by rw [ct, show CT 49 = 1 from by decide +kernel] at h1; omega
          subst i0
          obtain ⟨j, hj⟩ := hN1 k hk
          exact ⟨j, by rw [(keep 49 0 k (pos2 49 (by decide +kernel)) (MD.no (by decide))).2]; exact hj⟩
        · obtain ⟨z1, j, hj⟩ := hZ (t, k) r
          have hm : (t, k) ∈ [(90, 7), (90, 5), (90, 4), (90, 3), (90, 2), (90, 1), (90, 0), (84, 3), (84, 2), (84, 0), (79, 3), (79, 2), (79, 1), (79, 0), (68, 10), (68, 9), (68, 8), (68, 7), (68, 6), (68, 4), (68, 3), (68, 2), (68, 1), (68, 0), (63, 0), (57, 4), (57, 3), (57, 2), (57, 0), (52, 0), (52, 1)] → ¬ MD m12 t k ∧ CT t = 1 := by
            intro q
            have a : ∀ q ∈ ([(90, 7), (90, 5), (90, 4), (90, 3), (90, 2), (90, 1), (90, 0), (84, 3), (84, 2), (84, 0), (79, 3), (79, 2), (79, 1), (79, 0), (68, 10), (68, 9), (68, 8), (68, 7), (68, 6), (68, 4), (68, 3), (68, 2), (68, 1), (68, 0), (63, 0), (57, 4), (57, 3), (57, 2), (57, 0), (52, 0), (52, 1)] : List (Nat × Nat)), ¬ MD m12 q.1 q.2 ∧ CT q.1 = 1 := by decide +kernel
            exact a (t, k) q
          have i0 : i = 0 := by rw [ct, (hm r).2] at h1; omega
          subst i0
          exact ⟨j, by rw [(keep t 0 k z1 (hm r).1).2]; exact hj⟩
    · subst r
      have i0 : i = 0 := by rw [ct, show CT 53 = 1 from by decide +kernel] at h1; omega
      subst i0
      exact ⟨k, by rw [(keep 53 0 k (pos2 53 (by decide +kernel)) (MD.no (by decide))).2]; exact (hP.2 k h2).1⟩
    · subst r
      have i0 : i = 0 := by rw [ct, show CT 54 = 1 from by decide +kernel] at h1; omega
      subst i0
      exact ⟨k, by rw [(keep 54 0 k (pos2 54 (by decide +kernel)) (MD.no (by decide))).2]; exact (hP.2 k h2).2.1⟩
    · subst r; omega
    · subst r; omega
    · subst r; omega
  · refine ⟨fun t ht => by rw [ct]; exact ct_sng t ht, ?_, ?_, ?_, ?_, ?_⟩
    · rw [ct]; decide +kernel
    · rw [ct]; decide +kernel
    · rw [ct, ct]; decide +kernel
    · rw [ct, ct]; decide +kernel
    · rw [ct, ct]; decide +kernel
  · have s1 : ∀ t, t ∈ sng → 0 < al4.1 t := fun t ht => by rw [ct, ct_sng t ht]; exact Nat.zero_lt_one
    have z20 : iv4 0 0 20 = 0 := zero 0 0 20 (s1 0 (by decide)) (by decide) (by decide)
    have z41 : iv4 0 0 41 = 0 := zero 0 0 41 (s1 0 (by decide)) (by decide) (by decide)
    have z6 : iv4 0 0 6 = 0 := zero 0 0 6 (s1 0 (by decide)) (by decide) (by decide)
    have tz : (0 : Int32).toInt = 0 := by decide
    refine ⟨⟨fun i hi => by omega, ?_⟩, ⟨fun i hi => by omega, ?_⟩, ⟨fun i hi => by omega, ?_⟩, ⟨fun i hi => ?_, fun i hi => ?_, fun i hi => ?_⟩, fun i hi => by omega, fun i hi => by omega, fun t ht => ?_, fun c hc => ?_, fun k hk => ?_⟩
    · rw [zero 57 0 1 (s1 57 (by decide)) (by decide) (by decide), a62]; exact tz
    · rw [zero 63 0 1 (s1 63 (by decide)) (by decide) (by decide), a65]; exact tz
    · rw [zero 84 0 1 (s1 84 (by decide)) (by decide) (by decide), a88]; exact tz
    · rw [(keep 53 0 i (pos2 53 (by decide +kernel)) (MD.no (by decide))).2]; exact (hP.2 i hi).1
    · rw [(keep 54 0 i (pos2 54 (by decide +kernel)) (MD.no (by decide))).2]; exact (hP.2 i hi).2.1
    · have : i < al2.1 56 := Nat.lt_of_lt_of_le hi hP.1.2.2
      rw [(keep 56 i 0 this (by decide)).1]; exact (hP.2 i hi).2.2.1
    · rw [z20, tz] at ht; omega
    · rw [z41, tz] at hc; omega
    · rw [z6, tz] at hk; omega
theorem n11_z : ∀ t, t < 49 → n11 t = 0 := by decide +kernel
end
section
def R_law : String := "LateClaimsLaw"
def lw_P (b : Addr) (xs : List Int32) (args : Array Value) (s : State) : Prop := args = #[.ref b] ∧ s.IntsAt b xs ∧ xs.length ≤ 3584 ∧ (Jvm.Cond.and given_1 narrow_1).before args s = true
def lw_Q (_ : Array Value) (s : State) (o : Outcome) (t : State) : Prop := o = .returned (some (.int 1)) ∧ Framed s o t [] 600000 7302250
def lw_Z (below : List Frame) (a : Array Value) (s : State) : State → Prop := fun t => ∃ o, t.status = .running ∧ Ended t below o ∧ lw_Q a s o t
/-- the law's own end, with 1 on the stack, nothing written that was there before, its room as the claim has it -/
theorem lw_ret {p : Program} {l : Launch} {e : Env} {s : State} {m : MethodId} {below : List Frame} {meth : Method} {c : Code} {b : Nat} (hx : p.tables.exec = Jvm.exec) (hb : c.code = code) (hr : meth.sig.returnType = ret) (hlocks : meth.locks = false) {pc : Nat} {H : Heap} {ls : Array Slot} (hdg : decode code pc = .ok (.ireturn, 1)) : W p l e room_1 s m #[Value.ref b] below meth c H [] 600000 7302250 (lw_Z below #[Value.ref b] s) (F0 m pc ls [.int 1]) := by
  intro T hT X
  obtain ⟨fs, hret, hrun, hended, hW, hframe⟩ := X.leave (v := some (.int 1)) (hlocks := hlocks) (fun h => by rw [hr] at h; cases h)
  have hmeth' : T.vm.method? m = some meth := X.method'
  refine ⟨T.setFrames fs, ?_, .returned (some (.int 1)), hrun, hended, rfl, ⟨_, rfl⟩, hW, hframe⟩
  jvm_step X.here [X.here.top, hx, hb, hdg, hmeth', hr, ret, narrow_b1]
  (try refine ⟨rfl, ?_⟩); (try refine ⟨rfl, ?_⟩)
  first | (intro acts; rw [hret _ acts rfl rfl rfl]) | rw [hret _ _ rfl rfl rfl]
  exact Steps.refl _
/-- what holds at the law's entry: the machine, the code, the tables' words (any of lw_tbl by 'hts w (by decide +kernel)'), the script of L ints xs at the cell b, what the Statement gives of the start (any of its parts by flat_of_before) -/
def lw_At (p : Program) (s : State) (m : MethodId) (meth : Method) (c : Code) (b L : Nat) (xs : Nat → Int32) : Prop :=
  p.tables.exec = Jvm.exec ∧ c.code = code ∧ meth.sig.returnType = ret ∧ c.maxLocals = 4 ∧ s.vm.findClass R_law = some m.cls ∧ (∀ w ∈ lw_tbl, w.before #[Value.ref b] s = true) ∧ va_X b L xs s s.heap ∧ b < s.heap.size ∧ meth.locks = false ∧ (Jvm.Cond.and given_1 narrow_1).before #[Value.ref b] s = true
set_option maxHeartbeats 4000000 in
set_option maxRecDepth 100000 in
theorem law_loop {p : Program} {l : Launch} {e : Env} {s : State} {m : MethodId} {below : List Frame} {meth : Method} {c : Code} {b L : Nat} {xs : Nat → Int32} {D : va_G} {cA : FieldType → ClassId} {ox om : Nat} (X : LX p s m c b L xs D cA) (hr : meth.sig.returnType = ret) (hlk : meth.locks = false) :
    ∀ (n : Nat) (i : Int32) (al : Al) (iv : Iv) (rv : Rv) (H : Heap) (locs : List Loc) (cells slots : Nat) (ls : Array Slot), lv_has ls 4 [(3, .int i), (2, .ref om), (1, .ref ox), (0, .ref b)] → 0 ≤ i.toInt → i.toInt ≤ 3584 → ((L : Int) - i.toInt).toNat < n → LSt ox om al iv rv → UW D cA s.heap.size al iv rv H → va_S (Aq s.heap.size) s.heap H locs → (cells + 3 * n ≤ 600000 ∧ slots + 16 * n ≤ 7302250) →
      W p l e room_1 s m #[Value.ref b] below meth c H locs cells slots (lw_Z below #[Value.ref b] s) (F0 m 18 ls []) := by
  have hx := X.1.1.1
  have hb := X.1.1.2.1
  have hbl := X.2.2.1
  have hL := X.2.2.2.2
  have hbA : ¬ Aq s.heap.size b := fun z => absurd hbl (Nat.not_lt.mpr z)
  have k7 : (7 : Int32).toInt = 7 := by decide
  have k63 : (63 : Int32).toInt = 63 := by decide
  have tL : (Int32.ofNat L).toInt = L := Int32.toInt_ofNat_small (by omega)
  intro n
  induction n with
  | zero =>
    intro i al iv rv H locs cells slots ls hl h0 h1 hm
    exact absurd hm (Nat.not_lt_zero _)
  | succ n ih =>
    intro i al iv rv H locs cells slots ls hl h0 h1 hm hQ hU hS hc
    refine lv_iload_n hx hb dL_law_18 rfl (lv_at hl 0 rfl) ?_
    refine lv_aload_n hx hb dL_law_19 rfl (lv_at hl 3 rfl) ?_
    refine va_slen (A := Aq s.heap.size) hx hb X.2.1 hbl hbA hS dL_law_20 ?_
    refine lv_bipush (v := 7) hx hb dL_law_21 (by decide) ?_
    refine lv_isub hx hb dL_law_23 ?_
    refine lv_topi (fun y ey => ?_)
    have ty : y.toInt = (Int32.ofNat L).toInt - (7 : Int32).toInt := by rw [ey]; exact fb_subI (by omega) (by omega)
    refine b_icmp_gt (tgt := 1481) hx hb dL_law_24 (by decide) (fun c0 => ?_) (fun c0 => ?_)
    · refine lv_iconst (v := 1) hx hb dL_law_1481 (by decide) ?_
      refine W.widen (k := 600000) (n := 7302250) (by omega) (by omega) ?_
      refine va_forget (fun q hq => hS.2.2 q hq) ?_
      exact lw_ret hx hb hr hlk dL_law_1482
    · have hh : 0 ≤ i.toInt ∧ i.toInt + 6 < L := ⟨h0, by omega⟩
      refine lv_aload_n hx hb dL_law_27 rfl (lv_at hl 3 rfl) ?_
      refine lv_iload_n hx hb dL_law_28 rfl (lv_at hl 0 rfl) ?_
      refine va_sld (A := Aq s.heap.size) hx hb X.2.1 hbl hbA hS (ix_in (by omega) (by omega)) dL_law_29 ?_
      refine lv_bipush (v := 63) hx hb dL_law_30 (by decide) ?_
      refine lv_iand hx hb dL_law_32 ?_
      refine lv_topi (fun x ex => ?_)
      have TL : ∀ (al' : Al) (iv' : Iv) (rv' : Rv) (H' : Heap) (locs' : List Loc), LSt ox om al' iv' rv' → UW D cA s.heap.size al' iv' rv' H' → va_S (Aq s.heap.size) s.heap H' locs' → W p l e room_1 s m #[Value.ref b] below meth c H' locs' (cells + 3) (slots + 16) (lw_Z below #[Value.ref b] s) (F0 m 1475 ls []) := by
        intro al' iv' rv' H' locs' hQ' hU' hS'
        obtain ⟨i2, e2⟩ : ∃ z : Int32, z = i + 7 := ⟨_, rfl⟩
        have t2 : i2.toInt = i.toInt + (7 : Int32).toInt := by rw [e2]; exact fb_addI (by omega) (by omega)
        refine lv_iinc (v := i2) (lv' := [(3, .int i2), (2, .ref om), (1, .ref ox), (0, .ref b)]) hx hb dL_law_1475 hl (k := 0) rfl (by rw [e2]; rfl) (by decide) rfl (fun ls hl => ?_)
        refine lv_goto (tgt := 18) hx hb dL_law_1478 (by decide) ?_
        exact ih i2 _ _ _ _ _ _ _ _ hl (by omega) (by omega) (by omega) hQ' hU' hS' ⟨by omega, by omega⟩
      refine b_table hx hb dL_law_33 1475 (by decide) [188, 211, 244, 287, 330, 353, 428, 471, 504, 537, 570, 619, 652, 685, 708, 741, 764, 787, 810, 833, 896, 965, 1008, 1041, 1084, 1107, 1140, 1183, 1226, 1259, 1282, 1295, 1386, 1419, 1452] (by decide) (fun j hj => ?_) (fun c1 => ?_) (fun j tt htt c1 => ?_)
      · match j, hj with
        | 0, _ => exact ⟨155, 188, by decide, by decide, by decide⟩
        | 1, _ => exact ⟨178, 211, by decide, by decide, by decide⟩
        | 2, _ => exact ⟨211, 244, by decide, by decide, by decide⟩
        | 3, _ => exact ⟨254, 287, by decide, by decide, by decide⟩
        | 4, _ => exact ⟨297, 330, by decide, by decide, by decide⟩
        | 5, _ => exact ⟨320, 353, by decide, by decide, by decide⟩
        | 6, _ => exact ⟨395, 428, by decide, by decide, by decide⟩
        | 7, _ => exact ⟨438, 471, by decide, by decide, by decide⟩
        | 8, _ => exact ⟨471, 504, by decide, by decide, by decide⟩
        | 9, _ => exact ⟨504, 537, by decide, by decide, by decide⟩
        | 10, _ => exact ⟨537, 570, by decide, by decide, by decide⟩
        | 11, _ => exact ⟨586, 619, by decide, by decide, by decide⟩
        | 12, _ => exact ⟨619, 652, by decide, by decide, by decide⟩
        | 13, _ => exact ⟨652, 685, by decide, by decide, by decide⟩
        | 14, _ => exact ⟨675, 708, by decide, by decide, by decide⟩
        | 15, _ => exact ⟨708, 741, by decide, by decide, by decide⟩
        | 16, _ => exact ⟨731, 764, by decide, by decide, by decide⟩
        | 17, _ => exact ⟨754, 787, by decide, by decide, by decide⟩
        | 18, _ => exact ⟨777, 810, by decide, by decide, by decide⟩
        | 19, _ => exact ⟨800, 833, by decide, by decide, by decide⟩
        | 20, _ => exact ⟨863, 896, by decide, by decide, by decide⟩
        | 21, _ => exact ⟨932, 965, by decide, by decide, by decide⟩
        | 22, _ => exact ⟨975, 1008, by decide, by decide, by decide⟩
        | 23, _ => exact ⟨1008, 1041, by decide, by decide, by decide⟩
        | 24, _ => exact ⟨1051, 1084, by decide, by decide, by decide⟩
        | 25, _ => exact ⟨1074, 1107, by decide, by decide, by decide⟩
        | 26, _ => exact ⟨1107, 1140, by decide, by decide, by decide⟩
        | 27, _ => exact ⟨1150, 1183, by decide, by decide, by decide⟩
        | 28, _ => exact ⟨1193, 1226, by decide, by decide, by decide⟩
        | 29, _ => exact ⟨1226, 1259, by decide, by decide, by decide⟩
        | 30, _ => exact ⟨1249, 1282, by decide, by decide, by decide⟩
        | 31, _ => exact ⟨1262, 1295, by decide, by decide, by decide⟩
        | 32, _ => exact ⟨1353, 1386, by decide, by decide, by decide⟩
        | 33, _ => exact ⟨1386, 1419, by decide, by decide, by decide⟩
        | 34, _ => exact ⟨1419, 1452, by decide, by decide, by decide⟩
        | q + 35, hq => exact absurd hq (by simp)
      · refine W.widen (k := cells + 3) (n := slots + 16) (by omega) (by omega) ?_
        exact TL al iv rv H locs hQ hU hS
      · match j, htt with
        | 0, htt =>
          cases htt
          exact law_0 X hl hh hQ hU hS ⟨by omega, by omega⟩ TL
        | 1, htt =>
          cases htt
          exact law_1 X hl hh hQ hU hS ⟨by omega, by omega⟩ TL
        | 2, htt =>
          cases htt
          exact law_2 X hl hh hQ hU hS ⟨by omega, by omega⟩ TL
        | 3, htt =>
          cases htt
          exact law_3 X hl hh hQ hU hS ⟨by omega, by omega⟩ TL
        | 4, htt =>
          cases htt
          exact law_4 X hl hh hQ hU hS ⟨by omega, by omega⟩ TL
        | 5, htt =>
          cases htt
          exact law_5 X hl hh hQ hU hS ⟨by omega, by omega⟩ TL
        | 6, htt =>
          cases htt
          exact law_6 X hl hh hQ hU hS ⟨by omega, by omega⟩ TL
        | 7, htt =>
          cases htt
          exact law_7 X hl hh hQ hU hS ⟨by omega, by omega⟩ TL
        | 8, htt =>
          cases htt
          exact law_8 X hl hh hQ hU hS ⟨by omega, by omega⟩ TL
        | 9, htt =>
          cases htt
          exact law_9 X hl hh hQ hU hS ⟨by omega, by omega⟩ TL
        | 10, htt =>
          cases htt
          exact law_10 X hl hh hQ hU hS ⟨by omega, by omega⟩ TL
        | 11, htt =>
          cases htt
          exact law_11 X hl hh hQ hU hS ⟨by omega, by omega⟩ TL
        | 12, htt =>
          cases htt
          exact law_12 X hl hh hQ hU hS ⟨by omega, by omega⟩ TL
        | 13, htt =>
          cases htt
          exact law_13 X hl hh hQ hU hS ⟨by omega, by omega⟩ TL
        | 14, htt =>
          cases htt
          exact law_14 X hl hh hQ hU hS ⟨by omega, by omega⟩ TL
        | 15, htt =>
          cases htt
          exact law_15 X hl hh hQ hU hS ⟨by omega, by omega⟩ TL
        | 16, htt =>
          cases htt
          exact law_16 X hl hh hQ hU hS ⟨by omega, by omega⟩ TL
        | 17, htt =>
          cases htt
          exact law_17 X hl hh hQ hU hS ⟨by omega, by omega⟩ TL
        | 18, htt =>
          cases htt
          exact law_18 X hl hh hQ hU hS ⟨by omega, by omega⟩ TL
        | 19, htt =>
          cases htt
          exact law_19 X hl hh hQ hU hS ⟨by omega, by omega⟩ TL
        | 20, htt =>
          cases htt
          exact law_20 X hl hh hQ hU hS ⟨by omega, by omega⟩ TL
        | 21, htt =>
          cases htt
          exact law_21 X hl hh hQ hU hS ⟨by omega, by omega⟩ TL
        | 22, htt =>
          cases htt
          exact law_22 X hl hh hQ hU hS ⟨by omega, by omega⟩ TL
        | 23, htt =>
          cases htt
          exact law_23 X hl hh hQ hU hS ⟨by omega, by omega⟩ TL
        | 24, htt =>
          cases htt
          exact law_24 X hl hh hQ hU hS ⟨by omega, by omega⟩ TL
        | 25, htt =>
          cases htt
          exact law_25 X hl hh hQ hU hS ⟨by omega, by omega⟩ TL
        | 26, htt =>
          cases htt
          exact law_26 X hl hh hQ hU hS ⟨by omega, by omega⟩ TL
        | 27, htt =>
          cases htt
          exact law_27 X hl hh hQ hU hS ⟨by omega, by omega⟩ TL
        | 28, htt =>
          cases htt
          exact law_28 X hl hh hQ hU hS ⟨by omega, by omega⟩ TL
        | 29, htt =>
          cases htt
          exact law_29 X hl hh hQ hU hS ⟨by omega, by omega⟩ TL
        | 30, htt =>
          cases htt
          exact law_30 X hl hh hQ hU hS ⟨by omega, by omega⟩ TL
        | 31, htt =>
          cases htt
          exact law_31 X hl hh hQ hU hS ⟨by omega, by omega⟩ TL
        | 32, htt =>
          cases htt
          exact law_32 X hl hh hQ hU hS ⟨by omega, by omega⟩ TL
        | 33, htt =>
          cases htt
          exact law_33 X hl hh hQ hU hS ⟨by omega, by omega⟩ TL
        | 34, htt =>
          cases htt
          exact law_34 X hl hh hQ hU hS ⟨by omega, by omega⟩ TL
        | q + 35, htt => simp at htt
set_option maxHeartbeats 4000000 in
set_option maxRecDepth 100000 in
theorem whole_start {p : Program} {e : Env} {s : State} {m : MethodId} {below : List Frame} {meth : Method} {c : Code} (l : Launch) {b L : Nat} {xs : Nat → Int32} (hL : L ≤ 3584) (C0 : lw_At p s m meth c b L xs) : W p l e room_1 s m #[Value.ref b] below meth c s.heap [] 0 0 (lw_Z below #[Value.ref b] s) (entryFrame m ([Value.ref b] : List Value).toArray 4) := by
  obtain ⟨hx, hb, hr, hml, hown, hts, hXs, hbl, hlk, hgv⟩ := C0
  obtain ⟨D, cA, hK⟩ := ku_start hts
  have hSX := sx_start hK hts (flat_of_before _ hgv)
  have hao := aoa_start hts
  have C : Cx p s m #[Value.ref b] c cL_law 4 RL D cA := ⟨⟨hx, hb, hml, hown, hBW hts⟩, hK⟩
  have X : LX p s m c b L xs D cA := ⟨C, hXs, hbl, hSX, hL⟩
  rw [lg_entry_eq]
  have hl := lv_entry [Value.ref b] (n := 4) (Nat.le_of_ble_eq_true rfl)
  generalize ((lg_sl [Value.ref b] ++ List.replicate (4 - (lg_sl [Value.ref b]).length) Slot.unset).toArray) = ls at hl ⊢
  have hl : lv_has ls 4 [(0, .ref b)] := hl
  have hS : va_S (Aq s.heap.size) s.heap s.heap [] := va_S.rf
  obtain ⟨al0, ea0⟩ : ∃ z : Al, z = (fun _ => 0, fun _ _ => 0) := ⟨_, rfl⟩
  obtain ⟨iv0, ei0⟩ : ∃ z : Iv, z = fun _ _ _ => 0 := ⟨_, rfl⟩
  obtain ⟨rv0, er0⟩ : ∃ z : Rv, z = fun _ _ _ => none := ⟨_, rfl⟩
  have z0 : ∀ t, al0.1 t = 0 := fun t => by rw [ea0]
  have n0 : ∀ t i, ¬ i < al0.1 t := fun t i h => by rw [z0] at h; exact Nat.not_lt_zero _ h
  have hU : UW D cA s.heap.size al0 iv0 rv0 s.heap := ⟨fun t i h => absurd h (n0 t i), fun t i _ _ h => absurd h (n0 t i), fun t i h => absurd h (n0 t i)⟩
  have hR0 : RG al0 iv0 := fun t i _ h => absurd h (n0 t i)
  have hB0 : RB al0 rv0 := fun t i _ _ h => absurd h (n0 t i)
  refine q_newo (t := 49) C hU hS hB0 (Nat.le_refl _) k_49 (hc := rfl) uwX11 tyX11 tyX11_ok (by decide +kernel) kl_L_7 ib_X11 iz_X11 (Nat.le_of_ble_eq_true rfl) (Nat.le_of_ble_eq_true rfl) dL_law_0 (fun a H hU hS hz => ?_)
  have hR1 := hR0.new 49 a
  have hB1 := hB0.new 49 a
  have hn1 := grow_new (al := al0) (t := 49) (a := a)
  rw [z0] at hU hR1 hB1 hn1
  obtain ⟨al1, ea1⟩ : ∃ z, z = grow al0 49 a := ⟨_, rfl⟩
  obtain ⟨iv1, ei1⟩ : ∃ z, z = clr iv0 49 0 0 := ⟨_, rfl⟩
  obtain ⟨rv1, er1⟩ : ∃ z, z = clr rv0 49 0 none := ⟨_, rfl⟩
  have c1 : ∀ t, al1.1 t = 0 + (if t = 49 then 1 else 0) := fun t => by rw [ea1, grow_ct, z0]
  have b1 : ∀ t i k, iv1 t i k = 0 := fun t i k => by
    rw [ei1, ei0]
    simp [clr]
  rw [← ea1, ← ei1, ← er1] at hU
  rw [← ea1, ← ei1] at hR1
  rw [← ea1, ← er1] at hB1
  rw [← ea1] at hn1
  have i49 : 0 < al1.1 49 := by rw [c1]; decide
  refine lv_dup hx hb dL_law_3 rfl ?_
  refine W.eq (g2 := F0 m 4 ls [.ref (al1.2 49 0), .ref a]) (by rw [hn1]) ?_
  refine q_cvA (q_runIA (n := 0) (b := al1.2 49 0) (As := []) (rest := [.ref a]) C hU hz (fun U hH hW => ⟨hao.moved hW.alike, hSX.to hS hH hW⟩) (fun U g mk a h => ⟨va_AOA.moved (Vm.Alike.refl U.vm) h.1, SX.calling U g mk a h.2⟩) (c_X11_init hR1 hB1 0 i49 (fun t h1 h2 => by rw [c1, if_neg (by omega)])) cw_X11_init im_X11_init iz_X11 ml_L_9 rfl (by decide +kernel) hl.1 rfl rfl (Nat.le_of_ble_eq_true rfl) dL_law_4 rfl rfl ⟨Nat.le_of_ble_eq_true rfl, Nat.le_of_ble_eq_true rfl⟩ ⟨Nat.le_of_ble_eq_true rfl, Nat.le_of_ble_eq_true rfl⟩) hS hz (fun al2 iv2 rv2 H locs hp hU hS hz => ?_)
  obtain ⟨hR2, hB2, E1, hN1, hZ, hP, hset, htod, hBF⟩ := hp
  have hn2 : al2.2 49 0 = a := by rw [E1.2.1 49 0 i49]; exact hn1
  have i49b : 0 < al2.1 49 := by rw [E1.1]; exact Nat.lt_add_right _ i49
  have z2 : al2.1 0 = 0 := by rw [E1.1, c1]; rfl
  refine lv_astore_n (lv' := [(1, .ref a), (0, .ref b)]) hx hb dL_law_7 rfl hl (by decide) rfl (fun ls hl => ?_)
  refine q_newo (t := 0) C hU hS hB2 hz k_0 (hc := rfl) uwX12 tyX12 tyX12_ok (by decide +kernel) kl_L_10 ib_X12 iz_X12 (Nat.le_of_ble_eq_true rfl) (Nat.le_of_ble_eq_true rfl) dL_law_8 (fun a2 H hU hS hz => ?_)
  have hR3 := hR2.new 0 a2
  have hB3 := hB2.new 0 a2
  have hn3 := grow_new (al := al2) (t := 0) (a := a2)
  rw [z2] at hU hR3 hB3 hn3
  obtain ⟨al3, ea3⟩ : ∃ z, z = grow al2 0 a2 := ⟨_, rfl⟩
  obtain ⟨iv3, ei3⟩ : ∃ z, z = clr iv2 0 0 0 := ⟨_, rfl⟩
  obtain ⟨rv3, er3⟩ : ∃ z, z = clr rv2 0 0 none := ⟨_, rfl⟩
  have c3 : ∀ t, al3.1 t = al2.1 t + (if t = 0 then 1 else 0) := fun t => by rw [ea3, grow_ct]
  have k3 : ∀ t i k, i < al2.1 t → iv3 t i k = iv2 t i k ∧ rv3 t i k = rv2 t i k := fun t i k q => by
    have w : ¬ (t = 0 ∧ i = 0) := fun z => by obtain ⟨rfl, rfl⟩ := z; rw [z2] at q; exact Nat.lt_irrefl _ q
    rw [ei3, er3, clr_ne w, clr_ne w]; exact ⟨rfl, rfl⟩
  have b3 : ∀ k, iv3 0 0 k = 0 := fun k => by rw [ei3]; exact clr_self
  rw [← ea3, ← ei3, ← er3] at hU
  rw [← ea3, ← ei3] at hR3
  rw [← ea3, ← er3] at hB3
  rw [← ea3] at hn3
  have i0 : 0 < al3.1 0 := by rw [c3]; simp
  have E11 : ∀ t, al2.1 t = al1.1 t + n11 t := fun t => E1.1 t
  have cz12 : ∀ t, 1 ≤ t → t ≤ 48 → al3.1 t = 0 := fun t h1 h2 => by
    rw [c3, if_neg (by omega), E11, c1, if_neg (by omega), n11_z t (by omega)]
  refine lv_dup hx hb dL_law_11 rfl ?_
  refine W.eq (g2 := F0 m 12 ls [.ref (al3.2 0 0), .ref a2]) (by rw [hn3]) ?_
  refine q_cvA (q_runIA (n := 0) (b := al3.2 0 0) (As := []) (rest := [.ref a2]) C hU hz (fun _ _ _ => trivial) (fun _ _ _ _ _ => trivial) (c_X12_init hR3 hB3 0 i0 cz12) cw_X12_init im_X12_init iz_X12 ml_L_12 rfl (by decide +kernel) hl.1 rfl rfl (Nat.le_of_ble_eq_true rfl) dL_law_12 rfl rfl ⟨Nat.le_of_ble_eq_true rfl, Nat.le_of_ble_eq_true rfl⟩ ⟨Nat.le_of_ble_eq_true rfl, Nat.le_of_ble_eq_true rfl⟩) hS hz (fun al4 iv4 rv4 H locs hp hU hS hz => ?_)
  obtain ⟨hR4, hB4, E2, hN2, hKV⟩ := hp
  obtain ⟨hG, zero⟩ := gi_start c1 E1 c3 b1 k3 b3 E2 hR4 hB4 hN1 hZ hP hN2
  have hom : al4.2 0 0 = a2 := by rw [E2.2.1 0 0 i0]; exact hn3
  have hox : al4.2 49 0 = a := by
    rw [E2.2.1 49 0 (by rw [c3]; exact Nat.lt_add_right _ i49b), ea3, grow_ad i49b]; exact hn2
  have cl4 : ∀ t i k, i < al2.1 t → ¬ MD m12 t k → iv4 t i k = iv2 t i k ∧ rv4 t i k = rv2 t i k := fun t i k h1 h2 => by
    have q := E2.2.2.1 t i k (by rw [c3]; exact Nat.lt_add_right _ h1) h2
    rw [q.1, q.2, (k3 t i k h1).1, (k3 t i k h1).2]; exact ⟨rfl, rfl⟩
  have p11 : ∀ t, 0 < n11 t → 0 < al2.1 t := fun t h => by have q := E11 t; omega
  have hset4 : ∀ k, iv4 50 0 k = fst4 k := fun k => by rw [(cl4 50 0 k (p11 50 (by decide +kernel)) (MD.no (by decide))).1]; exact hset k
  have hbar4 : ∀ k : Nat, k < 4 → iv4 80 0 k = 365 := fun k hk => by rw [(cl4 80 0 k hBF.1 (MD.no (by decide))).1]; exact hBF.2 k hk
  have htod4 : iv4 49 0 9 = 0 := by rw [(cl4 49 0 9 i49b (by decide)).1]; exact htod
  have hnum4 : ∀ k : Nat, k < 10 → (iv4 56 k 2).toInt = k := fun k hk => by rw [(cl4 56 k 2 (Nat.lt_of_lt_of_le hk hP.1.2.2) (by decide)).1]; exact (hP.2 k hk).2.2.2
  have hClegn : Clegn iv4 rv4 := by
    unfold Clegn
    rw [zero 0 0 6 (h1_0 hG) (by decide) (by decide), zero 57 0 1 (h1_57 hG) (by decide) (by decide)]
  have hCtkn : Ctkn iv4 rv4 := by
    unfold Ctkn
    rw [zero 0 0 20 (h1_0 hG) (by decide) (by decide), zero 63 0 1 (h1_63 hG) (by decide) (by decide)]
  have hCday : Cday iv4 rv4 := by
    unfold Cday
    rw [zero 0 0 0 (h1_0 hG) (by decide) (by decide), htod4]
  have hCclm : Cclm iv4 rv4 := by
    have z84 := zero 84 0 1 (h1_84 hG) (by decide) (by decide)
    have z63 := zero 63 0 1 (h1_63 hG) (by decide) (by decide)
    have tz : (0 : Int32).toInt = 0 := by decide
    refine ⟨by rw [z84, zero 0 0 41 (h1_0 hG) (by decide) (by decide)], fun c hc => ?_, fun t ht => ?_⟩
    · rw [z84, tz] at hc; omega
    · rw [z63, tz] at ht; omega
  have hCpay : Cpay iv4 rv4 := by
    have z84 := zero 84 0 1 (h1_84 hG) (by decide) (by decide)
    have tz : (0 : Int32).toInt = 0 := by decide
    refine ⟨fun c p hc hp => ?_, fun c hc => ?_, fun c p hc hp => zero 38 0 _ (h1_38 hG) (MD.no (by decide)) (MD.no (by decide))⟩
    · rw [z84, tz] at hc; omega
    · rw [z84, tz] at hc; omega
  have hRel : REL iv4 rv4 := ⟨hClegn, hCtkn, hCday, hCclm, hCpay⟩
  refine lv_astore_n (lv' := [(2, .ref a2), (1, .ref a), (0, .ref b)]) hx hb dL_law_15 rfl hl (by decide) rfl (fun ls hl => ?_)
  refine lv_iconst (v := 0) hx hb dL_law_16 (by decide) ?_
  refine lv_istore_n (lv' := [(3, .int 0), (2, .ref a2), (1, .ref a), (0, .ref b)]) hx hb dL_law_17 rfl hl (by decide) rfl (fun ls hl => ?_)
  refine W.widen (k := 110) (n := 2985) (Nat.le_of_ble_eq_true rfl) (Nat.le_of_ble_eq_true rfl) ?_
  exact law_loop X hr hlk (L + 1) 0 al4 iv4 rv4 H locs 110 2985 ls hl (by decide) (by decide) (by rw [show (0 : Int32).toInt = 0 from by decide]; omega) ⟨hG, hox, hom, hRel⟩ hU hS ⟨by omega, by omega⟩
end
