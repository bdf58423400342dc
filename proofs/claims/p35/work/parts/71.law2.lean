set_option maxHeartbeats 4000000 in
set_option maxRecDepth 100000 in
theorem law_18 {p : Program} {l : Launch} {e : Env} {s : State} {m : MethodId} {below : List Frame} {meth : Method} {c : Code} {b L : Nat} {xs : Nat → Int32} {D : va_G} {cA : FieldType → ClassId} {ls : Array Slot} {Q : State → Prop} {H : Heap} {locs : List Loc} {cells slots : Nat} {i : Int32} {ox om : Nat} {al : Al} {iv : Iv} {rv : Rv} (X : LX p s m c b L xs D cA) (hl : lv_has ls 4 [(3, .int i), (2, .ref om), (1, .ref ox), (0, .ref b)]) (hi : 0 ≤ i.toInt ∧ i.toInt + 6 < L) (hQ : LSt ox om al iv rv) (hU : UW D cA s.heap.size al iv rv H) (hS : va_S (Aq s.heap.size) s.heap H locs) (hc : cells + 3 ≤ 600000 ∧ slots + 16 ≤ 7302250)
    (kk : ∀ (al' : Al) (iv' : Iv) (rv' : Rv) (H' : Heap) (locs' : List Loc), LSt ox om al' iv' rv' → UW D cA s.heap.size al' iv' rv' H' → va_S (Aq s.heap.size) s.heap H' locs' → W p l e room_1 s m #[Value.ref b] below meth c H' locs' (cells + 3) (slots + 16) Q (F0 m 1475 ls [])) : W p l e room_1 s m #[Value.ref b] below meth c H locs cells slots Q (F0 m 810 ls []) := by
  obtain ⟨hG, hox, hom, hRel⟩ := hQ
  have C := X.1
  have hx := C.1.1
  have hb := C.1.2.1
  obtain ⟨v1, e1⟩ : ∃ z, xs (i + 1).toNatClampNeg = z := ⟨_, rfl⟩
  refine lv_aload_n hx hb dL_law_810 rfl (lv_at hl 2 rfl) ?_
  refine lv_aload_n hx hb dL_law_811 rfl (lv_at hl 3 rfl) ?_
  refine lv_iload_n hx hb dL_law_812 rfl (lv_at hl 0 rfl) ?_
  refine lv_iconst (v := 1) hx hb dL_law_813 (by decide) ?_
  refine q_ai X hS (k := 1) (by decide) hi e1 dL_law_814 dL_law_815 ?_
  have hG0 := hG
  have hGp := hG
  refine W.eq (g2 := F0 m 816 ls [.int v1, .ref (al.2 49 0)]) (by rw [hox]) ?_
  refine q_fi (q_runV (t := 49) (i := 0) (As := [.int v1]) (rest := []) C hU (c_X11_blame hG v1) vm_X11_blame ml_L_90 k_49.1 (hc := rfl) rfl (h1_49 hG) hl.1 rfl rfl (Nat.le_of_ble_eq_true rfl) dL_law_816 rfl rfl ⟨Nat.le_of_ble_eq_true rfl, Nat.le_of_ble_eq_true rfl⟩ ⟨by show cells + 0 ≤ 600000; omega, by show slots + 0 ≤ 7302250; omega⟩) hS (fun r1 iv1 rv1 H locs hG f1 g1 hp1 hU hS => ?_)
  have hRel := hRel.fr hGp f1 g1 (by decide)
  refine lv_pop hx hb dL_law_819 rfl ?_
  refine lv_aload_n hx hb dL_law_820 rfl (lv_at hl 1 rfl) ?_
  refine lv_aload_n hx hb dL_law_821 rfl (lv_at hl 3 rfl) ?_
  refine lv_iload_n hx hb dL_law_822 rfl (lv_at hl 0 rfl) ?_
  refine lv_iconst (v := 1) hx hb dL_law_823 (by decide) ?_
  refine q_ai X hS (k := 1) (by decide) hi e1 dL_law_824 dL_law_825 ?_
  have hGp := hG
  refine W.eq (g2 := F0 m 826 ls [.int v1, .ref (al.2 0 0)]) (by rw [hom]) ?_
  refine q_fi (q_runV (t := 0) (i := 0) (As := [.int v1]) (rest := []) C hU (c_X12_blame hG v1) vm_X12_blame ml_L_93 k_0.1 (hc := rfl) rfl (h1_0 hG) hl.1 rfl rfl (Nat.le_of_ble_eq_true rfl) dL_law_826 rfl rfl ⟨Nat.le_of_ble_eq_true rfl, Nat.le_of_ble_eq_true rfl⟩ ⟨by show cells + 0 ≤ 600000; omega, by show slots + 0 ≤ 7302250; omega⟩) hS (fun r2 iv2 rv2 H locs hG f2 g2 hp2 hU hS => ?_)
  have hRel := hRel.fr hGp f2 g2 (by decide)
  refine lv_pop hx hb dL_law_829 rfl ?_
  refine lv_goto (tgt := 1475) hx hb dL_law_830 (by decide) ?_
  refine W.widen (k := cells + 3) (n := slots + 16) (by omega) (by omega) ?_
  exact kk _ _ _ _ _ ⟨hG, hox, hom, hRel⟩ hU hS
set_option maxHeartbeats 4000000 in
set_option maxRecDepth 100000 in
theorem law_19 {p : Program} {l : Launch} {e : Env} {s : State} {m : MethodId} {below : List Frame} {meth : Method} {c : Code} {b L : Nat} {xs : Nat → Int32} {D : va_G} {cA : FieldType → ClassId} {ls : Array Slot} {Q : State → Prop} {H : Heap} {locs : List Loc} {cells slots : Nat} {i : Int32} {ox om : Nat} {al : Al} {iv : Iv} {rv : Rv} (X : LX p s m c b L xs D cA) (hl : lv_has ls 4 [(3, .int i), (2, .ref om), (1, .ref ox), (0, .ref b)]) (hi : 0 ≤ i.toInt ∧ i.toInt + 6 < L) (hQ : LSt ox om al iv rv) (hU : UW D cA s.heap.size al iv rv H) (hS : va_S (Aq s.heap.size) s.heap H locs) (hc : cells + 3 ≤ 600000 ∧ slots + 16 ≤ 7302250)
    (kk : ∀ (al' : Al) (iv' : Iv) (rv' : Rv) (H' : Heap) (locs' : List Loc), LSt ox om al' iv' rv' → UW D cA s.heap.size al' iv' rv' H' → va_S (Aq s.heap.size) s.heap H' locs' → W p l e room_1 s m #[Value.ref b] below meth c H' locs' (cells + 3) (slots + 16) Q (F0 m 1475 ls [])) : W p l e room_1 s m #[Value.ref b] below meth c H locs cells slots Q (F0 m 833 ls []) := by
  obtain ⟨hG, hox, hom, hRel⟩ := hQ
  have C := X.1
  have hx := C.1.1
  have hb := C.1.2.1
  obtain ⟨v1, e1⟩ : ∃ z, xs (i + 1).toNatClampNeg = z := ⟨_, rfl⟩
  obtain ⟨v2, e2⟩ : ∃ z, xs (i + 2).toNatClampNeg = z := ⟨_, rfl⟩
  obtain ⟨v3, e3⟩ : ∃ z, xs (i + 3).toNatClampNeg = z := ⟨_, rfl⟩
  obtain ⟨v4, e4⟩ : ∃ z, xs (i + 4).toNatClampNeg = z := ⟨_, rfl⟩
  obtain ⟨v5, e5⟩ : ∃ z, xs (i + 5).toNatClampNeg = z := ⟨_, rfl⟩
  refine lv_aload_n hx hb dL_law_833 rfl (lv_at hl 2 rfl) ?_
  refine lv_aload_n hx hb dL_law_834 rfl (lv_at hl 3 rfl) ?_
  refine lv_iload_n hx hb dL_law_835 rfl (lv_at hl 0 rfl) ?_
  refine lv_iconst (v := 1) hx hb dL_law_836 (by decide) ?_
  refine q_ai X hS (k := 1) (by decide) hi e1 dL_law_837 dL_law_838 ?_
  refine lv_aload_n hx hb dL_law_839 rfl (lv_at hl 3 rfl) ?_
  refine lv_iload_n hx hb dL_law_840 rfl (lv_at hl 0 rfl) ?_
  refine lv_iconst (v := 2) hx hb dL_law_841 (by decide) ?_
  refine q_ai X hS (k := 2) (by decide) hi e2 dL_law_842 dL_law_843 ?_
  refine lv_aload_n hx hb dL_law_844 rfl (lv_at hl 3 rfl) ?_
  refine lv_iload_n hx hb dL_law_845 rfl (lv_at hl 0 rfl) ?_
  refine lv_iconst (v := 3) hx hb dL_law_846 (by decide) ?_
  refine q_ai X hS (k := 3) (by decide) hi e3 dL_law_847 dL_law_848 ?_
  refine lv_aload_n hx hb dL_law_849 rfl (lv_at hl 3 rfl) ?_
  refine lv_iload_n hx hb dL_law_850 rfl (lv_at hl 0 rfl) ?_
  refine lv_iconst (v := 4) hx hb dL_law_851 (by decide) ?_
  refine q_ai X hS (k := 4) (by decide) hi e4 dL_law_852 dL_law_853 ?_
  refine lv_aload_n hx hb dL_law_854 rfl (lv_at hl 3 rfl) ?_
  refine lv_iload_n hx hb dL_law_855 rfl (lv_at hl 0 rfl) ?_
  refine lv_iconst (v := 5) hx hb dL_law_856 (by decide) ?_
  refine q_ai X hS (k := 5) (by decide) hi e5 dL_law_857 dL_law_858 ?_
  have hG0 := hG
  have hGp := hG
  refine W.eq (g2 := F0 m 859 ls [.int v5, .int v4, .int v3, .int v2, .int v1, .ref (al.2 49 0)]) (by rw [hox]) ?_
  refine q_fi (q_runV (t := 49) (i := 0) (As := [.int v1, .int v2, .int v3, .int v4, .int v5]) (rest := []) C hU (c_X11_law_y hG v1 v2 v3 v4 v5) vm_X11_law ml_L_94 k_49.1 (hc := rfl) rfl (h1_49 hG) hl.1 rfl rfl (Nat.le_of_ble_eq_true rfl) dL_law_859 rfl rfl ⟨Nat.le_of_ble_eq_true rfl, Nat.le_of_ble_eq_true rfl⟩ ⟨by show cells + 0 ≤ 600000; omega, by show slots + 0 ≤ 7302250; omega⟩) hS (fun r1 iv1 rv1 H locs hG f1 g1 hp1 hU hS => ?_)
  refine lv_pop hx hb dL_law_862 rfl ?_
  refine lv_aload_n hx hb dL_law_863 rfl (lv_at hl 1 rfl) ?_
  refine lv_aload_n hx hb dL_law_864 rfl (lv_at hl 3 rfl) ?_
  refine lv_iload_n hx hb dL_law_865 rfl (lv_at hl 0 rfl) ?_
  refine lv_iconst (v := 1) hx hb dL_law_866 (by decide) ?_
  refine q_ai X hS (k := 1) (by decide) hi e1 dL_law_867 dL_law_868 ?_
  refine lv_aload_n hx hb dL_law_869 rfl (lv_at hl 3 rfl) ?_
  refine lv_iload_n hx hb dL_law_870 rfl (lv_at hl 0 rfl) ?_
  refine lv_iconst (v := 2) hx hb dL_law_871 (by decide) ?_
  refine q_ai X hS (k := 2) (by decide) hi e2 dL_law_872 dL_law_873 ?_
  refine lv_aload_n hx hb dL_law_874 rfl (lv_at hl 3 rfl) ?_
  refine lv_iload_n hx hb dL_law_875 rfl (lv_at hl 0 rfl) ?_
  refine lv_iconst (v := 3) hx hb dL_law_876 (by decide) ?_
  refine q_ai X hS (k := 3) (by decide) hi e3 dL_law_877 dL_law_878 ?_
  refine lv_aload_n hx hb dL_law_879 rfl (lv_at hl 3 rfl) ?_
  refine lv_iload_n hx hb dL_law_880 rfl (lv_at hl 0 rfl) ?_
  refine lv_iconst (v := 4) hx hb dL_law_881 (by decide) ?_
  refine q_ai X hS (k := 4) (by decide) hi e4 dL_law_882 dL_law_883 ?_
  refine lv_aload_n hx hb dL_law_884 rfl (lv_at hl 3 rfl) ?_
  refine lv_iload_n hx hb dL_law_885 rfl (lv_at hl 0 rfl) ?_
  refine lv_iconst (v := 5) hx hb dL_law_886 (by decide) ?_
  refine q_ai X hS (k := 5) (by decide) hi e5 dL_law_887 dL_law_888 ?_
  have hGp := hG
  refine W.eq (g2 := F0 m 889 ls [.int v5, .int v4, .int v3, .int v2, .int v1, .ref (al.2 0 0)]) (by rw [hom]) ?_
  refine q_fi (q_runV (t := 0) (i := 0) (As := [.int v1, .int v2, .int v3, .int v4, .int v5]) (rest := []) C hU (c_X12_law_y hG v1 v2 v3 v4 v5) vm_X12_law ml_L_98 k_0.1 (hc := rfl) rfl (h1_0 hG) hl.1 rfl rfl (Nat.le_of_ble_eq_true rfl) dL_law_889 rfl rfl ⟨Nat.le_of_ble_eq_true rfl, Nat.le_of_ble_eq_true rfl⟩ ⟨by show cells + 0 ≤ 600000; omega, by show slots + 0 ≤ 7302250; omega⟩) hS (fun r2 iv2 rv2 H locs hG f2 g2 hp2 hU hS => ?_)
  have hRel := REL.s_law hG0 hRel hp1 hp2 (EX.of f1 g1) f2 g2
  refine lv_pop hx hb dL_law_892 rfl ?_
  refine lv_goto (tgt := 1475) hx hb dL_law_893 (by decide) ?_
  refine W.widen (k := cells + 3) (n := slots + 16) (by omega) (by omega) ?_
  exact kk _ _ _ _ _ ⟨hG, hox, hom, hRel⟩ hU hS
set_option maxHeartbeats 4000000 in
set_option maxRecDepth 100000 in
theorem law_20 {p : Program} {l : Launch} {e : Env} {s : State} {m : MethodId} {below : List Frame} {meth : Method} {c : Code} {b L : Nat} {xs : Nat → Int32} {D : va_G} {cA : FieldType → ClassId} {ls : Array Slot} {Q : State → Prop} {H : Heap} {locs : List Loc} {cells slots : Nat} {i : Int32} {ox om : Nat} {al : Al} {iv : Iv} {rv : Rv} (X : LX p s m c b L xs D cA) (hl : lv_has ls 4 [(3, .int i), (2, .ref om), (1, .ref ox), (0, .ref b)]) (hi : 0 ≤ i.toInt ∧ i.toInt + 6 < L) (hQ : LSt ox om al iv rv) (hU : UW D cA s.heap.size al iv rv H) (hS : va_S (Aq s.heap.size) s.heap H locs) (hc : cells + 3 ≤ 600000 ∧ slots + 16 ≤ 7302250)
    (kk : ∀ (al' : Al) (iv' : Iv) (rv' : Rv) (H' : Heap) (locs' : List Loc), LSt ox om al' iv' rv' → UW D cA s.heap.size al' iv' rv' H' → va_S (Aq s.heap.size) s.heap H' locs' → W p l e room_1 s m #[Value.ref b] below meth c H' locs' (cells + 3) (slots + 16) Q (F0 m 1475 ls [])) : W p l e room_1 s m #[Value.ref b] below meth c H locs cells slots Q (F0 m 896 ls []) := by
  obtain ⟨hG, hox, hom, hRel⟩ := hQ
  have C := X.1
  have hx := C.1.1
  have hb := C.1.2.1
  obtain ⟨v1, e1⟩ : ∃ z, xs (i + 1).toNatClampNeg = z := ⟨_, rfl⟩
  obtain ⟨v2, e2⟩ : ∃ z, xs (i + 2).toNatClampNeg = z := ⟨_, rfl⟩
  obtain ⟨v3, e3⟩ : ∃ z, xs (i + 3).toNatClampNeg = z := ⟨_, rfl⟩
  obtain ⟨v4, e4⟩ : ∃ z, xs (i + 4).toNatClampNeg = z := ⟨_, rfl⟩
  refine lv_aload_n hx hb dL_law_896 rfl (lv_at hl 2 rfl) ?_
  refine lv_aload_n hx hb dL_law_897 rfl (lv_at hl 3 rfl) ?_
  refine lv_iload_n hx hb dL_law_898 rfl (lv_at hl 0 rfl) ?_
  refine lv_iconst (v := 1) hx hb dL_law_899 (by decide) ?_
  refine q_ai X hS (k := 1) (by decide) hi e1 dL_law_900 dL_law_901 ?_
  refine lv_aload_n hx hb dL_law_902 rfl (lv_at hl 3 rfl) ?_
  refine lv_iload_n hx hb dL_law_903 rfl (lv_at hl 0 rfl) ?_
  refine lv_iconst (v := 2) hx hb dL_law_904 (by decide) ?_
  refine q_ai X hS (k := 2) (by decide) hi e2 dL_law_905 dL_law_906 ?_
  refine lv_aload_n hx hb dL_law_907 rfl (lv_at hl 3 rfl) ?_
  refine lv_iload_n hx hb dL_law_908 rfl (lv_at hl 0 rfl) ?_
  refine lv_iconst (v := 3) hx hb dL_law_909 (by decide) ?_
  refine q_ai X hS (k := 3) (by decide) hi e3 dL_law_910 dL_law_911 ?_
  refine lv_aload_n hx hb dL_law_912 rfl (lv_at hl 3 rfl) ?_
  refine lv_iload_n hx hb dL_law_913 rfl (lv_at hl 0 rfl) ?_
  refine lv_iconst (v := 4) hx hb dL_law_914 (by decide) ?_
  refine q_ai X hS (k := 4) (by decide) hi e4 dL_law_915 dL_law_916 ?_
  have J_925 : ∀ zv4 : Int32, (0 ≤ zv4.toInt ∧ zv4.toInt ≤ 1) → zv4 = bz v4 → W p l e room_1 s m #[Value.ref b] below meth c H locs cells slots Q (F0 m 925 ls [.int zv4, .int v3, .int v2, .int v1, .ref ox]) := by
    intro zv4 rzv4 qzv4
    have hG0 := hG
    have hGp := hG
    refine W.eq (g2 := F0 m 925 ls [.int zv4, .int v3, .int v2, .int v1, .ref (al.2 49 0)]) (by rw [hox]) ?_
    refine q_fi (q_runV (t := 49) (i := 0) (As := [.int v1, .int v2, .int v3, .int zv4]) (rest := []) C hU (c_X11_excuse_y hG v1 v2 v3 zv4 rzv4) vm_X11_excuse ml_L_99 k_49.1 (hc := rfl) rfl (h1_49 hG) hl.1 rfl rfl (Nat.le_of_ble_eq_true rfl) dL_law_925 rfl rfl ⟨Nat.le_of_ble_eq_true rfl, Nat.le_of_ble_eq_true rfl⟩ ⟨by show cells + 0 ≤ 600000; omega, by show slots + 0 ≤ 7302250; omega⟩) hS (fun r1 iv1 rv1 H locs hG f1 g1 hp1 hU hS => ?_)
    refine lv_pop hx hb dL_law_928 rfl ?_
    refine lv_aload_n hx hb dL_law_929 rfl (lv_at hl 1 rfl) ?_
    refine lv_aload_n hx hb dL_law_930 rfl (lv_at hl 3 rfl) ?_
    refine lv_iload_n hx hb dL_law_931 rfl (lv_at hl 0 rfl) ?_
    refine lv_iconst (v := 1) hx hb dL_law_932 (by decide) ?_
    refine q_ai X hS (k := 1) (by decide) hi e1 dL_law_933 dL_law_934 ?_
    refine lv_aload_n hx hb dL_law_935 rfl (lv_at hl 3 rfl) ?_
    refine lv_iload_n hx hb dL_law_936 rfl (lv_at hl 0 rfl) ?_
    refine lv_iconst (v := 2) hx hb dL_law_937 (by decide) ?_
    refine q_ai X hS (k := 2) (by decide) hi e2 dL_law_938 dL_law_939 ?_
    refine lv_aload_n hx hb dL_law_940 rfl (lv_at hl 3 rfl) ?_
    refine lv_iload_n hx hb dL_law_941 rfl (lv_at hl 0 rfl) ?_
    refine lv_iconst (v := 3) hx hb dL_law_942 (by decide) ?_
    refine q_ai X hS (k := 3) (by decide) hi e3 dL_law_943 dL_law_944 ?_
    refine lv_aload_n hx hb dL_law_945 rfl (lv_at hl 3 rfl) ?_
    refine lv_iload_n hx hb dL_law_946 rfl (lv_at hl 0 rfl) ?_
    refine lv_iconst (v := 4) hx hb dL_law_947 (by decide) ?_
    refine q_ai X hS (k := 4) (by decide) hi e4 dL_law_948 dL_law_949 ?_
    have J_958 : ∀ zv4m : Int32, (0 ≤ zv4m.toInt ∧ zv4m.toInt ≤ 1) → zv4m = bz v4 → W p l e room_1 s m #[Value.ref b] below meth c H locs cells slots Q (F0 m 958 ls [.int zv4m, .int v3, .int v2, .int v1, .ref om]) := by
      intro zv4m rzv4m qzv4m
      have hGp := hG
      refine W.eq (g2 := F0 m 958 ls [.int zv4m, .int v3, .int v2, .int v1, .ref (al.2 0 0)]) (by rw [hom]) ?_
      refine q_fi (q_runV (t := 0) (i := 0) (As := [.int v1, .int v2, .int v3, .int zv4m]) (rest := []) C hU (c_X12_excuse_y hG v1 v2 v3 zv4m rzv4m) vm_X12_excuse ml_L_103 k_0.1 (hc := rfl) rfl (h1_0 hG) hl.1 rfl rfl (Nat.le_of_ble_eq_true rfl) dL_law_958 rfl rfl ⟨Nat.le_of_ble_eq_true rfl, Nat.le_of_ble_eq_true rfl⟩ ⟨by show cells + 0 ≤ 600000; omega, by show slots + 0 ≤ 7302250; omega⟩) hS (fun r2 iv2 rv2 H locs hG f2 g2 hp2 hU hS => ?_)
      have zv4m_e : zv4m = zv4 := qzv4m.trans qzv4.symm
      try rw [zv4m_e] at hp2
      have hRel := REL.s_excuse hG0 hRel hp1 hp2 (EX.of f1 g1) f2 g2
      refine lv_pop hx hb dL_law_961 rfl ?_
      refine lv_goto (tgt := 1475) hx hb dL_law_962 (by decide) ?_
      refine W.widen (k := cells + 3) (n := slots + 16) (by omega) (by omega) ?_
      exact kk _ _ _ _ _ ⟨hG, hox, hom, hRel⟩ hU hS
    refine b_if_eq (tgt := 957) hx hb dL_law_950 (by decide) (fun c0 => ?_) (fun c0 => ?_)
    · refine lv_iconst (v := 0) hx hb dL_law_957 (by decide) ?_
      exact J_958 0 ⟨by decide, by decide⟩ (bz_0 c0)
    · refine lv_iconst (v := 1) hx hb dL_law_953 (by decide) ?_
      refine lv_goto (tgt := 958) hx hb dL_law_954 (by decide) ?_
      exact J_958 1 ⟨by decide, by decide⟩ (bz_1 c0)
  refine b_if_eq (tgt := 924) hx hb dL_law_917 (by decide) (fun c0 => ?_) (fun c0 => ?_)
  · refine lv_iconst (v := 0) hx hb dL_law_924 (by decide) ?_
    exact J_925 0 ⟨by decide, by decide⟩ (bz_0 c0)
  · refine lv_iconst (v := 1) hx hb dL_law_920 (by decide) ?_
    refine lv_goto (tgt := 925) hx hb dL_law_921 (by decide) ?_
    exact J_925 1 ⟨by decide, by decide⟩ (bz_1 c0)
set_option maxHeartbeats 4000000 in
set_option maxRecDepth 100000 in
theorem law_21 {p : Program} {l : Launch} {e : Env} {s : State} {m : MethodId} {below : List Frame} {meth : Method} {c : Code} {b L : Nat} {xs : Nat → Int32} {D : va_G} {cA : FieldType → ClassId} {ls : Array Slot} {Q : State → Prop} {H : Heap} {locs : List Loc} {cells slots : Nat} {i : Int32} {ox om : Nat} {al : Al} {iv : Iv} {rv : Rv} (X : LX p s m c b L xs D cA) (hl : lv_has ls 4 [(3, .int i), (2, .ref om), (1, .ref ox), (0, .ref b)]) (hi : 0 ≤ i.toInt ∧ i.toInt + 6 < L) (hQ : LSt ox om al iv rv) (hU : UW D cA s.heap.size al iv rv H) (hS : va_S (Aq s.heap.size) s.heap H locs) (hc : cells + 3 ≤ 600000 ∧ slots + 16 ≤ 7302250)
    (kk : ∀ (al' : Al) (iv' : Iv) (rv' : Rv) (H' : Heap) (locs' : List Loc), LSt ox om al' iv' rv' → UW D cA s.heap.size al' iv' rv' H' → va_S (Aq s.heap.size) s.heap H' locs' → W p l e room_1 s m #[Value.ref b] below meth c H' locs' (cells + 3) (slots + 16) Q (F0 m 1475 ls [])) : W p l e room_1 s m #[Value.ref b] below meth c H locs cells slots Q (F0 m 965 ls []) := by
  obtain ⟨hG, hox, hom, hRel⟩ := hQ
  have C := X.1
  have hx := C.1.1
  have hb := C.1.2.1
  obtain ⟨v1, e1⟩ : ∃ z, xs (i + 1).toNatClampNeg = z := ⟨_, rfl⟩
  obtain ⟨v2, e2⟩ : ∃ z, xs (i + 2).toNatClampNeg = z := ⟨_, rfl⟩
  obtain ⟨v3, e3⟩ : ∃ z, xs (i + 3).toNatClampNeg = z := ⟨_, rfl⟩
  refine lv_aload_n hx hb dL_law_965 rfl (lv_at hl 2 rfl) ?_
  refine lv_aload_n hx hb dL_law_966 rfl (lv_at hl 3 rfl) ?_
  refine lv_iload_n hx hb dL_law_967 rfl (lv_at hl 0 rfl) ?_
  refine lv_iconst (v := 1) hx hb dL_law_968 (by decide) ?_
  refine q_ai X hS (k := 1) (by decide) hi e1 dL_law_969 dL_law_970 ?_
  refine lv_aload_n hx hb dL_law_971 rfl (lv_at hl 3 rfl) ?_
  refine lv_iload_n hx hb dL_law_972 rfl (lv_at hl 0 rfl) ?_
  refine lv_iconst (v := 2) hx hb dL_law_973 (by decide) ?_
  refine q_ai X hS (k := 2) (by decide) hi e2 dL_law_974 dL_law_975 ?_
  refine lv_aload_n hx hb dL_law_976 rfl (lv_at hl 3 rfl) ?_
  refine lv_iload_n hx hb dL_law_977 rfl (lv_at hl 0 rfl) ?_
  refine lv_iconst (v := 3) hx hb dL_law_978 (by decide) ?_
  refine q_ai X hS (k := 3) (by decide) hi e3 dL_law_979 dL_law_980 ?_
  have hG0 := hG
  have hGp := hG
  refine W.eq (g2 := F0 m 981 ls [.int v3, .int v2, .int v1, .ref (al.2 49 0)]) (by rw [hox]) ?_
  refine q_fi (q_runV (t := 49) (i := 0) (As := [.int v1, .int v2, .int v3]) (rest := []) C hU (c_X11_sum hG v1 v2 v3) vm_X11_sum ml_L_104 k_49.1 (hc := rfl) rfl (h1_49 hG) hl.1 rfl rfl (Nat.le_of_ble_eq_true rfl) dL_law_981 rfl rfl ⟨Nat.le_of_ble_eq_true rfl, Nat.le_of_ble_eq_true rfl⟩ ⟨by show cells + 0 ≤ 600000; omega, by show slots + 0 ≤ 7302250; omega⟩) hS (fun r1 iv1 rv1 H locs hG f1 g1 hp1 hU hS => ?_)
  have hRel := hRel.fr hGp f1 g1 (by decide)
  refine lv_pop hx hb dL_law_984 rfl ?_
  refine lv_aload_n hx hb dL_law_985 rfl (lv_at hl 1 rfl) ?_
  refine lv_aload_n hx hb dL_law_986 rfl (lv_at hl 3 rfl) ?_
  refine lv_iload_n hx hb dL_law_987 rfl (lv_at hl 0 rfl) ?_
  refine lv_iconst (v := 1) hx hb dL_law_988 (by decide) ?_
  refine q_ai X hS (k := 1) (by decide) hi e1 dL_law_989 dL_law_990 ?_
  refine lv_aload_n hx hb dL_law_991 rfl (lv_at hl 3 rfl) ?_
  refine lv_iload_n hx hb dL_law_992 rfl (lv_at hl 0 rfl) ?_
  refine lv_iconst (v := 2) hx hb dL_law_993 (by decide) ?_
  refine q_ai X hS (k := 2) (by decide) hi e2 dL_law_994 dL_law_995 ?_
  refine lv_aload_n hx hb dL_law_996 rfl (lv_at hl 3 rfl) ?_
  refine lv_iload_n hx hb dL_law_997 rfl (lv_at hl 0 rfl) ?_
  refine lv_iconst (v := 3) hx hb dL_law_998 (by decide) ?_
  refine q_ai X hS (k := 3) (by decide) hi e3 dL_law_999 dL_law_1000 ?_
  have hGp := hG
  refine W.eq (g2 := F0 m 1001 ls [.int v3, .int v2, .int v1, .ref (al.2 0 0)]) (by rw [hom]) ?_
  refine q_fi (q_runV (t := 0) (i := 0) (As := [.int v1, .int v2, .int v3]) (rest := []) C hU (c_X12_sum hG v1 v2 v3) vm_X12_sum ml_L_107 k_0.1 (hc := rfl) rfl (h1_0 hG) hl.1 rfl rfl (Nat.le_of_ble_eq_true rfl) dL_law_1001 rfl rfl ⟨Nat.le_of_ble_eq_true rfl, Nat.le_of_ble_eq_true rfl⟩ ⟨by show cells + 0 ≤ 600000; omega, by show slots + 0 ≤ 7302250; omega⟩) hS (fun r2 iv2 rv2 H locs hG f2 g2 hp2 hU hS => ?_)
  have hRel := hRel.fr hGp f2 g2 (by decide)
  refine lv_pop hx hb dL_law_1004 rfl ?_
  refine lv_goto (tgt := 1475) hx hb dL_law_1005 (by decide) ?_
  refine W.widen (k := cells + 3) (n := slots + 16) (by omega) (by omega) ?_
  exact kk _ _ _ _ _ ⟨hG, hox, hom, hRel⟩ hU hS
set_option maxHeartbeats 4000000 in
set_option maxRecDepth 100000 in
theorem law_22 {p : Program} {l : Launch} {e : Env} {s : State} {m : MethodId} {below : List Frame} {meth : Method} {c : Code} {b L : Nat} {xs : Nat → Int32} {D : va_G} {cA : FieldType → ClassId} {ls : Array Slot} {Q : State → Prop} {H : Heap} {locs : List Loc} {cells slots : Nat} {i : Int32} {ox om : Nat} {al : Al} {iv : Iv} {rv : Rv} (X : LX p s m c b L xs D cA) (hl : lv_has ls 4 [(3, .int i), (2, .ref om), (1, .ref ox), (0, .ref b)]) (hi : 0 ≤ i.toInt ∧ i.toInt + 6 < L) (hQ : LSt ox om al iv rv) (hU : UW D cA s.heap.size al iv rv H) (hS : va_S (Aq s.heap.size) s.heap H locs) (hc : cells + 3 ≤ 600000 ∧ slots + 16 ≤ 7302250)
    (kk : ∀ (al' : Al) (iv' : Iv) (rv' : Rv) (H' : Heap) (locs' : List Loc), LSt ox om al' iv' rv' → UW D cA s.heap.size al' iv' rv' H' → va_S (Aq s.heap.size) s.heap H' locs' → W p l e room_1 s m #[Value.ref b] below meth c H' locs' (cells + 3) (slots + 16) Q (F0 m 1475 ls [])) : W p l e room_1 s m #[Value.ref b] below meth c H locs cells slots Q (F0 m 1008 ls []) := by
  obtain ⟨hG, hox, hom, hRel⟩ := hQ
  have C := X.1
  have hx := C.1.1
  have hb := C.1.2.1
  obtain ⟨v1, e1⟩ : ∃ z, xs (i + 1).toNatClampNeg = z := ⟨_, rfl⟩
  obtain ⟨v2, e2⟩ : ∃ z, xs (i + 2).toNatClampNeg = z := ⟨_, rfl⟩
  refine lv_aload_n hx hb dL_law_1008 rfl (lv_at hl 2 rfl) ?_
  refine lv_aload_n hx hb dL_law_1009 rfl (lv_at hl 3 rfl) ?_
  refine lv_iload_n hx hb dL_law_1010 rfl (lv_at hl 0 rfl) ?_
  refine lv_iconst (v := 1) hx hb dL_law_1011 (by decide) ?_
  refine q_ai X hS (k := 1) (by decide) hi e1 dL_law_1012 dL_law_1013 ?_
  refine lv_aload_n hx hb dL_law_1014 rfl (lv_at hl 3 rfl) ?_
  refine lv_iload_n hx hb dL_law_1015 rfl (lv_at hl 0 rfl) ?_
  refine lv_iconst (v := 2) hx hb dL_law_1016 (by decide) ?_
  refine q_ai X hS (k := 2) (by decide) hi e2 dL_law_1017 dL_law_1018 ?_
  have hG0 := hG
  have hGp := hG
  refine W.eq (g2 := F0 m 1019 ls [.int v2, .int v1, .ref (al.2 49 0)]) (by rw [hox]) ?_
  refine q_fi (q_runV (t := 49) (i := 0) (As := [.int v1, .int v2]) (rest := []) C hU (c_X11_bar_x hG v1 v2) vm_X11_bar ml_L_108 k_49.1 (hc := rfl) rfl (h1_49 hG) hl.1 rfl rfl (Nat.le_of_ble_eq_true rfl) dL_law_1019 rfl rfl ⟨Nat.le_of_ble_eq_true rfl, Nat.le_of_ble_eq_true rfl⟩ ⟨by show cells + 0 ≤ 600000; omega, by show slots + 0 ≤ 7302250; omega⟩) hS (fun r1 iv1 rv1 H locs hG f1 g1 hp1 hU hS => ?_)
  refine lv_pop hx hb dL_law_1022 rfl ?_
  refine lv_aload_n hx hb dL_law_1023 rfl (lv_at hl 1 rfl) ?_
  refine lv_aload_n hx hb dL_law_1024 rfl (lv_at hl 3 rfl) ?_
  refine lv_iload_n hx hb dL_law_1025 rfl (lv_at hl 0 rfl) ?_
  refine lv_iconst (v := 1) hx hb dL_law_1026 (by decide) ?_
  refine q_ai X hS (k := 1) (by decide) hi e1 dL_law_1027 dL_law_1028 ?_
  refine lv_aload_n hx hb dL_law_1029 rfl (lv_at hl 3 rfl) ?_
  refine lv_iload_n hx hb dL_law_1030 rfl (lv_at hl 0 rfl) ?_
  refine lv_iconst (v := 2) hx hb dL_law_1031 (by decide) ?_
  refine q_ai X hS (k := 2) (by decide) hi e2 dL_law_1032 dL_law_1033 ?_
  have hGp := hG
  refine W.eq (g2 := F0 m 1034 ls [.int v2, .int v1, .ref (al.2 0 0)]) (by rw [hom]) ?_
  refine q_fi (q_runV (t := 0) (i := 0) (As := [.int v1, .int v2]) (rest := []) C hU (c_X12_bar_x hG v1 v2) vm_X12_bar ml_L_111 k_0.1 (hc := rfl) rfl (h1_0 hG) hl.1 rfl rfl (Nat.le_of_ble_eq_true rfl) dL_law_1034 rfl rfl ⟨Nat.le_of_ble_eq_true rfl, Nat.le_of_ble_eq_true rfl⟩ ⟨by show cells + 0 ≤ 600000; omega, by show slots + 0 ≤ 7302250; omega⟩) hS (fun r2 iv2 rv2 H locs hG f2 g2 hp2 hU hS => ?_)
  have hRel := REL.s_bar hG0 hRel hp1 hp2 (EX.of f1 g1) f2 g2
  refine lv_pop hx hb dL_law_1037 rfl ?_
  refine lv_goto (tgt := 1475) hx hb dL_law_1038 (by decide) ?_
  refine W.widen (k := cells + 3) (n := slots + 16) (by omega) (by omega) ?_
  exact kk _ _ _ _ _ ⟨hG, hox, hom, hRel⟩ hU hS
set_option maxHeartbeats 4000000 in
set_option maxRecDepth 100000 in
theorem law_23 {p : Program} {l : Launch} {e : Env} {s : State} {m : MethodId} {below : List Frame} {meth : Method} {c : Code} {b L : Nat} {xs : Nat → Int32} {D : va_G} {cA : FieldType → ClassId} {ls : Array Slot} {Q : State → Prop} {H : Heap} {locs : List Loc} {cells slots : Nat} {i : Int32} {ox om : Nat} {al : Al} {iv : Iv} {rv : Rv} (X : LX p s m c b L xs D cA) (hl : lv_has ls 4 [(3, .int i), (2, .ref om), (1, .ref ox), (0, .ref b)]) (hi : 0 ≤ i.toInt ∧ i.toInt + 6 < L) (hQ : LSt ox om al iv rv) (hU : UW D cA s.heap.size al iv rv H) (hS : va_S (Aq s.heap.size) s.heap H locs) (hc : cells + 3 ≤ 600000 ∧ slots + 16 ≤ 7302250)
    (kk : ∀ (al' : Al) (iv' : Iv) (rv' : Rv) (H' : Heap) (locs' : List Loc), LSt ox om al' iv' rv' → UW D cA s.heap.size al' iv' rv' H' → va_S (Aq s.heap.size) s.heap H' locs' → W p l e room_1 s m #[Value.ref b] below meth c H' locs' (cells + 3) (slots + 16) Q (F0 m 1475 ls [])) : W p l e room_1 s m #[Value.ref b] below meth c H locs cells slots Q (F0 m 1041 ls []) := by
  obtain ⟨hG, hox, hom, hRel⟩ := hQ
  have C := X.1
  have hx := C.1.1
  have hb := C.1.2.1
  obtain ⟨v1, e1⟩ : ∃ z, xs (i + 1).toNatClampNeg = z := ⟨_, rfl⟩
  obtain ⟨v2, e2⟩ : ∃ z, xs (i + 2).toNatClampNeg = z := ⟨_, rfl⟩
  obtain ⟨v3, e3⟩ : ∃ z, xs (i + 3).toNatClampNeg = z := ⟨_, rfl⟩
  refine lv_aload_n hx hb dL_law_1041 rfl (lv_at hl 2 rfl) ?_
  refine lv_aload_n hx hb dL_law_1042 rfl (lv_at hl 3 rfl) ?_
  refine lv_iload_n hx hb dL_law_1043 rfl (lv_at hl 0 rfl) ?_
  refine lv_iconst (v := 1) hx hb dL_law_1044 (by decide) ?_
  refine q_ai X hS (k := 1) (by decide) hi e1 dL_law_1045 dL_law_1046 ?_
  refine lv_aload_n hx hb dL_law_1047 rfl (lv_at hl 3 rfl) ?_
  refine lv_iload_n hx hb dL_law_1048 rfl (lv_at hl 0 rfl) ?_
  refine lv_iconst (v := 2) hx hb dL_law_1049 (by decide) ?_
  refine q_ai X hS (k := 2) (by decide) hi e2 dL_law_1050 dL_law_1051 ?_
  refine lv_aload_n hx hb dL_law_1052 rfl (lv_at hl 3 rfl) ?_
  refine lv_iload_n hx hb dL_law_1053 rfl (lv_at hl 0 rfl) ?_
  refine lv_iconst (v := 3) hx hb dL_law_1054 (by decide) ?_
  refine q_ai X hS (k := 3) (by decide) hi e3 dL_law_1055 dL_law_1056 ?_
  have hG0 := hG
  have hGp := hG
  refine W.eq (g2 := F0 m 1057 ls [.int v3, .int v2, .int v1, .ref (al.2 49 0)]) (by rw [hox]) ?_
  refine q_fi (q_runV (t := 49) (i := 0) (As := [.int v1, .int v2, .int v3]) (rest := []) C hU (c_X11_stop_y hG v1 v2 v3) vm_X11_stop ml_L_112 k_49.1 (hc := rfl) rfl (h1_49 hG) hl.1 rfl rfl (Nat.le_of_ble_eq_true rfl) dL_law_1057 rfl rfl ⟨Nat.le_of_ble_eq_true rfl, Nat.le_of_ble_eq_true rfl⟩ ⟨by show cells + 0 ≤ 600000; omega, by show slots + 0 ≤ 7302250; omega⟩) hS (fun r1 iv1 rv1 H locs hG f1 g1 hp1 hU hS => ?_)
  refine lv_pop hx hb dL_law_1060 rfl ?_
  refine lv_aload_n hx hb dL_law_1061 rfl (lv_at hl 1 rfl) ?_
  refine lv_aload_n hx hb dL_law_1062 rfl (lv_at hl 3 rfl) ?_
  refine lv_iload_n hx hb dL_law_1063 rfl (lv_at hl 0 rfl) ?_
  refine lv_iconst (v := 1) hx hb dL_law_1064 (by decide) ?_
  refine q_ai X hS (k := 1) (by decide) hi e1 dL_law_1065 dL_law_1066 ?_
  refine lv_aload_n hx hb dL_law_1067 rfl (lv_at hl 3 rfl) ?_
  refine lv_iload_n hx hb dL_law_1068 rfl (lv_at hl 0 rfl) ?_
  refine lv_iconst (v := 2) hx hb dL_law_1069 (by decide) ?_
  refine q_ai X hS (k := 2) (by decide) hi e2 dL_law_1070 dL_law_1071 ?_
  refine lv_aload_n hx hb dL_law_1072 rfl (lv_at hl 3 rfl) ?_
  refine lv_iload_n hx hb dL_law_1073 rfl (lv_at hl 0 rfl) ?_
  refine lv_iconst (v := 3) hx hb dL_law_1074 (by decide) ?_
  refine q_ai X hS (k := 3) (by decide) hi e3 dL_law_1075 dL_law_1076 ?_
  have hGp := hG
  refine W.eq (g2 := F0 m 1077 ls [.int v3, .int v2, .int v1, .ref (al.2 0 0)]) (by rw [hom]) ?_
  refine q_fi (q_runV (t := 0) (i := 0) (As := [.int v1, .int v2, .int v3]) (rest := []) C hU (c_X12_stop_y hG v1 v2 v3) vm_X12_stop ml_L_115 k_0.1 (hc := rfl) rfl (h1_0 hG) hl.1 rfl rfl (Nat.le_of_ble_eq_true rfl) dL_law_1077 rfl rfl ⟨Nat.le_of_ble_eq_true rfl, Nat.le_of_ble_eq_true rfl⟩ ⟨by show cells + 0 ≤ 600000; omega, by show slots + 0 ≤ 7302250; omega⟩) hS (fun r2 iv2 rv2 H locs hG f2 g2 hp2 hU hS => ?_)
  have hRel := REL.s_stop hG0 hRel hp1 hp2 (EX.of f1 g1) f2 g2
  refine lv_pop hx hb dL_law_1080 rfl ?_
  refine lv_goto (tgt := 1475) hx hb dL_law_1081 (by decide) ?_
  refine W.widen (k := cells + 3) (n := slots + 16) (by omega) (by omega) ?_
  exact kk _ _ _ _ _ ⟨hG, hox, hom, hRel⟩ hU hS
set_option maxHeartbeats 4000000 in
set_option maxRecDepth 100000 in
theorem law_24 {p : Program} {l : Launch} {e : Env} {s : State} {m : MethodId} {below : List Frame} {meth : Method} {c : Code} {b L : Nat} {xs : Nat → Int32} {D : va_G} {cA : FieldType → ClassId} {ls : Array Slot} {Q : State → Prop} {H : Heap} {locs : List Loc} {cells slots : Nat} {i : Int32} {ox om : Nat} {al : Al} {iv : Iv} {rv : Rv} (X : LX p s m c b L xs D cA) (hl : lv_has ls 4 [(3, .int i), (2, .ref om), (1, .ref ox), (0, .ref b)]) (hi : 0 ≤ i.toInt ∧ i.toInt + 6 < L) (hQ : LSt ox om al iv rv) (hU : UW D cA s.heap.size al iv rv H) (hS : va_S (Aq s.heap.size) s.heap H locs) (hc : cells + 3 ≤ 600000 ∧ slots + 16 ≤ 7302250)
    (kk : ∀ (al' : Al) (iv' : Iv) (rv' : Rv) (H' : Heap) (locs' : List Loc), LSt ox om al' iv' rv' → UW D cA s.heap.size al' iv' rv' H' → va_S (Aq s.heap.size) s.heap H' locs' → W p l e room_1 s m #[Value.ref b] below meth c H' locs' (cells + 3) (slots + 16) Q (F0 m 1475 ls [])) : W p l e room_1 s m #[Value.ref b] below meth c H locs cells slots Q (F0 m 1084 ls []) := by
  obtain ⟨hG, hox, hom, hRel⟩ := hQ
  have C := X.1
  have hx := C.1.1
  have hb := C.1.2.1
  obtain ⟨v1, e1⟩ : ∃ z, xs (i + 1).toNatClampNeg = z := ⟨_, rfl⟩
  refine lv_aload_n hx hb dL_law_1084 rfl (lv_at hl 2 rfl) ?_
  refine lv_aload_n hx hb dL_law_1085 rfl (lv_at hl 3 rfl) ?_
  refine lv_iload_n hx hb dL_law_1086 rfl (lv_at hl 0 rfl) ?_
  refine lv_iconst (v := 1) hx hb dL_law_1087 (by decide) ?_
  refine q_ai X hS (k := 1) (by decide) hi e1 dL_law_1088 dL_law_1089 ?_
  have hG0 := hG
  have hGp := hG
  refine W.eq (g2 := F0 m 1090 ls [.int v1, .ref (al.2 49 0)]) (by rw [hox]) ?_
  refine q_ciA (q_runVA (t := 49) (i := 0) (As := [.int v1]) (rest := []) C hU hS.1 (c_X11_claim_y hG v1 ⟨hRel.2.2.2.2.2.2.2.1, hRel.2.2.2.2.2.2.2.2.2.2.2.2.2.2.2.2.2.2.1⟩) vm_X11_claim ml_L_116 k_49.1 (hc := rfl) rfl (h1_49 hG) hl.1 rfl rfl (Nat.le_of_ble_eq_true rfl) dL_law_1090 rfl rfl ⟨Nat.le_of_ble_eq_true rfl, Nat.le_of_ble_eq_true rfl⟩ ⟨by show cells + 2 ≤ 600000; omega, by show slots + 9 ≤ 7302250; omega⟩) hS hS.1 (fun r1 al1 iv1 rv1 H locs hp1 hU hS _ => ?_)
  obtain ⟨hG1, hE1, hp1⟩ := hp1
  have hox := (hE1.2.1 49 0 (h1_49 hG)).trans hox
  have hom := (hE1.2.1 0 0 (h1_0 hG)).trans hom
  have hG := hG1
  refine W.widen (k := cells + 3) (n := slots + 16) (by omega) (by omega) ?_
  refine lv_pop hx hb dL_law_1093 rfl ?_
  refine lv_aload_n hx hb dL_law_1094 rfl (lv_at hl 1 rfl) ?_
  refine lv_aload_n hx hb dL_law_1095 rfl (lv_at hl 3 rfl) ?_
  refine lv_iload_n hx hb dL_law_1096 rfl (lv_at hl 0 rfl) ?_
  refine lv_iconst (v := 1) hx hb dL_law_1097 (by decide) ?_
  refine q_ai X hS (k := 1) (by decide) hi e1 dL_law_1098 dL_law_1099 ?_
  have hGp := hG
  refine W.eq (g2 := F0 m 1100 ls [.int v1, .ref (al1.2 0 0)]) (by rw [hom]) ?_
  refine q_fi (q_runV (t := 0) (i := 0) (As := [.int v1]) (rest := []) C hU (c_X12_claim_x hG v1) vm_X12_claim ml_L_119 k_0.1 (hc := rfl) rfl (h1_0 hG) hl.1 rfl rfl (Nat.le_of_ble_eq_true rfl) dL_law_1100 rfl rfl ⟨Nat.le_of_ble_eq_true rfl, Nat.le_of_ble_eq_true rfl⟩ ⟨by show (cells + 3) + 0 ≤ 600000; omega, by show (slots + 16) + 0 ≤ 7302250; omega⟩) hS (fun r2 iv2 rv2 H locs hG f2 g2 hp2 hU hS => ?_)
  have hRel := REL.s_claim hG0 hRel hp1 hp2 hE1 f2 g2
  refine lv_pop hx hb dL_law_1103 rfl ?_
  refine lv_goto (tgt := 1475) hx hb dL_law_1104 (by decide) ?_
  exact kk _ _ _ _ _ ⟨hG, hox, hom, hRel⟩ hU hS
set_option maxHeartbeats 4000000 in
set_option maxRecDepth 100000 in
theorem law_25 {p : Program} {l : Launch} {e : Env} {s : State} {m : MethodId} {below : List Frame} {meth : Method} {c : Code} {b L : Nat} {xs : Nat → Int32} {D : va_G} {cA : FieldType → ClassId} {ls : Array Slot} {Q : State → Prop} {H : Heap} {locs : List Loc} {cells slots : Nat} {i : Int32} {ox om : Nat} {al : Al} {iv : Iv} {rv : Rv} (X : LX p s m c b L xs D cA) (hl : lv_has ls 4 [(3, .int i), (2, .ref om), (1, .ref ox), (0, .ref b)]) (hi : 0 ≤ i.toInt ∧ i.toInt + 6 < L) (hQ : LSt ox om al iv rv) (hU : UW D cA s.heap.size al iv rv H) (hS : va_S (Aq s.heap.size) s.heap H locs) (hc : cells + 3 ≤ 600000 ∧ slots + 16 ≤ 7302250)
    (kk : ∀ (al' : Al) (iv' : Iv) (rv' : Rv) (H' : Heap) (locs' : List Loc), LSt ox om al' iv' rv' → UW D cA s.heap.size al' iv' rv' H' → va_S (Aq s.heap.size) s.heap H' locs' → W p l e room_1 s m #[Value.ref b] below meth c H' locs' (cells + 3) (slots + 16) Q (F0 m 1475 ls [])) : W p l e room_1 s m #[Value.ref b] below meth c H locs cells slots Q (F0 m 1107 ls []) := by
  obtain ⟨hG, hox, hom, hRel⟩ := hQ
  have C := X.1
  have hx := C.1.1
  have hb := C.1.2.1
  obtain ⟨v1, e1⟩ : ∃ z, xs (i + 1).toNatClampNeg = z := ⟨_, rfl⟩
  obtain ⟨v2, e2⟩ : ∃ z, xs (i + 2).toNatClampNeg = z := ⟨_, rfl⟩
  refine lv_aload_n hx hb dL_law_1107 rfl (lv_at hl 2 rfl) ?_
  refine lv_aload_n hx hb dL_law_1108 rfl (lv_at hl 3 rfl) ?_
  refine lv_iload_n hx hb dL_law_1109 rfl (lv_at hl 0 rfl) ?_
  refine lv_iconst (v := 1) hx hb dL_law_1110 (by decide) ?_
  refine q_ai X hS (k := 1) (by decide) hi e1 dL_law_1111 dL_law_1112 ?_
  refine lv_aload_n hx hb dL_law_1113 rfl (lv_at hl 3 rfl) ?_
  refine lv_iload_n hx hb dL_law_1114 rfl (lv_at hl 0 rfl) ?_
  refine lv_iconst (v := 2) hx hb dL_law_1115 (by decide) ?_
  refine q_ai X hS (k := 2) (by decide) hi e2 dL_law_1116 dL_law_1117 ?_
  have hG0 := hG
  have hGp := hG
  refine W.eq (g2 := F0 m 1118 ls [.int v2, .int v1, .ref (al.2 49 0)]) (by rw [hox]) ?_
  refine q_fi (q_runV (t := 49) (i := 0) (As := [.int v1, .int v2]) (rest := []) C hU (c_X11_claimOf hG v1 v2) vm_X11_claimOf ml_L_120 k_49.1 (hc := rfl) rfl (h1_49 hG) hl.1 rfl rfl (Nat.le_of_ble_eq_true rfl) dL_law_1118 rfl rfl ⟨Nat.le_of_ble_eq_true rfl, Nat.le_of_ble_eq_true rfl⟩ ⟨by show cells + 0 ≤ 600000; omega, by show slots + 0 ≤ 7302250; omega⟩) hS (fun r1 iv1 rv1 H locs hG f1 g1 hp1 hU hS => ?_)
  have hRel := hRel.fr hGp f1 g1 (by decide)
  refine lv_pop hx hb dL_law_1121 rfl ?_
  refine lv_aload_n hx hb dL_law_1122 rfl (lv_at hl 1 rfl) ?_
  refine lv_aload_n hx hb dL_law_1123 rfl (lv_at hl 3 rfl) ?_
  refine lv_iload_n hx hb dL_law_1124 rfl (lv_at hl 0 rfl) ?_
  refine lv_iconst (v := 1) hx hb dL_law_1125 (by decide) ?_
  refine q_ai X hS (k := 1) (by decide) hi e1 dL_law_1126 dL_law_1127 ?_
  refine lv_aload_n hx hb dL_law_1128 rfl (lv_at hl 3 rfl) ?_
  refine lv_iload_n hx hb dL_law_1129 rfl (lv_at hl 0 rfl) ?_
  refine lv_iconst (v := 2) hx hb dL_law_1130 (by decide) ?_
  refine q_ai X hS (k := 2) (by decide) hi e2 dL_law_1131 dL_law_1132 ?_
  have hGp := hG
  refine W.eq (g2 := F0 m 1133 ls [.int v2, .int v1, .ref (al.2 0 0)]) (by rw [hom]) ?_
  refine q_fi (q_runV (t := 0) (i := 0) (As := [.int v1, .int v2]) (rest := []) C hU (c_X12_claimOf hG v1 v2) vm_X12_claimOf ml_L_123 k_0.1 (hc := rfl) rfl (h1_0 hG) hl.1 rfl rfl (Nat.le_of_ble_eq_true rfl) dL_law_1133 rfl rfl ⟨Nat.le_of_ble_eq_true rfl, Nat.le_of_ble_eq_true rfl⟩ ⟨by show cells + 0 ≤ 600000; omega, by show slots + 0 ≤ 7302250; omega⟩) hS (fun r2 iv2 rv2 H locs hG f2 g2 hp2 hU hS => ?_)
  have hRel := hRel.fr hGp f2 g2 (by decide)
  refine lv_pop hx hb dL_law_1136 rfl ?_
  refine lv_goto (tgt := 1475) hx hb dL_law_1137 (by decide) ?_
  refine W.widen (k := cells + 3) (n := slots + 16) (by omega) (by omega) ?_
  exact kk _ _ _ _ _ ⟨hG, hox, hom, hRel⟩ hU hS
set_option maxHeartbeats 4000000 in
set_option maxRecDepth 100000 in
theorem law_26 {p : Program} {l : Launch} {e : Env} {s : State} {m : MethodId} {below : List Frame} {meth : Method} {c : Code} {b L : Nat} {xs : Nat → Int32} {D : va_G} {cA : FieldType → ClassId} {ls : Array Slot} {Q : State → Prop} {H : Heap} {locs : List Loc} {cells slots : Nat} {i : Int32} {ox om : Nat} {al : Al} {iv : Iv} {rv : Rv} (X : LX p s m c b L xs D cA) (hl : lv_has ls 4 [(3, .int i), (2, .ref om), (1, .ref ox), (0, .ref b)]) (hi : 0 ≤ i.toInt ∧ i.toInt + 6 < L) (hQ : LSt ox om al iv rv) (hU : UW D cA s.heap.size al iv rv H) (hS : va_S (Aq s.heap.size) s.heap H locs) (hc : cells + 3 ≤ 600000 ∧ slots + 16 ≤ 7302250)
    (kk : ∀ (al' : Al) (iv' : Iv) (rv' : Rv) (H' : Heap) (locs' : List Loc), LSt ox om al' iv' rv' → UW D cA s.heap.size al' iv' rv' H' → va_S (Aq s.heap.size) s.heap H' locs' → W p l e room_1 s m #[Value.ref b] below meth c H' locs' (cells + 3) (slots + 16) Q (F0 m 1475 ls [])) : W p l e room_1 s m #[Value.ref b] below meth c H locs cells slots Q (F0 m 1140 ls []) := by
  obtain ⟨hG, hox, hom, hRel⟩ := hQ
  have C := X.1
  have hx := C.1.1
  have hb := C.1.2.1
  obtain ⟨v1, e1⟩ : ∃ z, xs (i + 1).toNatClampNeg = z := ⟨_, rfl⟩
  obtain ⟨v2, e2⟩ : ∃ z, xs (i + 2).toNatClampNeg = z := ⟨_, rfl⟩
  obtain ⟨v3, e3⟩ : ∃ z, xs (i + 3).toNatClampNeg = z := ⟨_, rfl⟩
  refine lv_aload_n hx hb dL_law_1140 rfl (lv_at hl 2 rfl) ?_
  refine lv_aload_n hx hb dL_law_1141 rfl (lv_at hl 3 rfl) ?_
  refine lv_iload_n hx hb dL_law_1142 rfl (lv_at hl 0 rfl) ?_
  refine lv_iconst (v := 1) hx hb dL_law_1143 (by decide) ?_
  refine q_ai X hS (k := 1) (by decide) hi e1 dL_law_1144 dL_law_1145 ?_
  refine lv_aload_n hx hb dL_law_1146 rfl (lv_at hl 3 rfl) ?_
  refine lv_iload_n hx hb dL_law_1147 rfl (lv_at hl 0 rfl) ?_
  refine lv_iconst (v := 2) hx hb dL_law_1148 (by decide) ?_
  refine q_ai X hS (k := 2) (by decide) hi e2 dL_law_1149 dL_law_1150 ?_
  refine lv_aload_n hx hb dL_law_1151 rfl (lv_at hl 3 rfl) ?_
  refine lv_iload_n hx hb dL_law_1152 rfl (lv_at hl 0 rfl) ?_
  refine lv_iconst (v := 3) hx hb dL_law_1153 (by decide) ?_
  refine q_ai X hS (k := 3) (by decide) hi e3 dL_law_1154 dL_law_1155 ?_
  have hG0 := hG
  have hGp := hG
  refine W.eq (g2 := F0 m 1156 ls [.int v3, .int v2, .int v1, .ref (al.2 49 0)]) (by rw [hox]) ?_
  refine q_fi (q_runV (t := 49) (i := 0) (As := [.int v1, .int v2, .int v3]) (rest := []) C hU (c_X11_owes hG v1 v2 v3) vm_X11_owes ml_L_124 k_49.1 (hc := rfl) rfl (h1_49 hG) hl.1 rfl rfl (Nat.le_of_ble_eq_true rfl) dL_law_1156 rfl rfl ⟨Nat.le_of_ble_eq_true rfl, Nat.le_of_ble_eq_true rfl⟩ ⟨by show cells + 0 ≤ 600000; omega, by show slots + 0 ≤ 7302250; omega⟩) hS (fun r1 iv1 rv1 H locs hG f1 g1 hp1 hU hS => ?_)
  have hRel := hRel.fr hGp f1 g1 (by decide)
  refine lv_pop hx hb dL_law_1159 rfl ?_
  refine lv_aload_n hx hb dL_law_1160 rfl (lv_at hl 1 rfl) ?_
  refine lv_aload_n hx hb dL_law_1161 rfl (lv_at hl 3 rfl) ?_
  refine lv_iload_n hx hb dL_law_1162 rfl (lv_at hl 0 rfl) ?_
  refine lv_iconst (v := 1) hx hb dL_law_1163 (by decide) ?_
  refine q_ai X hS (k := 1) (by decide) hi e1 dL_law_1164 dL_law_1165 ?_
  refine lv_aload_n hx hb dL_law_1166 rfl (lv_at hl 3 rfl) ?_
  refine lv_iload_n hx hb dL_law_1167 rfl (lv_at hl 0 rfl) ?_
  refine lv_iconst (v := 2) hx hb dL_law_1168 (by decide) ?_
  refine q_ai X hS (k := 2) (by decide) hi e2 dL_law_1169 dL_law_1170 ?_
  refine lv_aload_n hx hb dL_law_1171 rfl (lv_at hl 3 rfl) ?_
  refine lv_iload_n hx hb dL_law_1172 rfl (lv_at hl 0 rfl) ?_
  refine lv_iconst (v := 3) hx hb dL_law_1173 (by decide) ?_
  refine q_ai X hS (k := 3) (by decide) hi e3 dL_law_1174 dL_law_1175 ?_
  have hGp := hG
  refine W.eq (g2 := F0 m 1176 ls [.int v3, .int v2, .int v1, .ref (al.2 0 0)]) (by rw [hom]) ?_
  refine q_fi (q_runV (t := 0) (i := 0) (As := [.int v1, .int v2, .int v3]) (rest := []) C hU (c_X12_owes hG v1 v2 v3) vm_X12_owes ml_L_127 k_0.1 (hc := rfl) rfl (h1_0 hG) hl.1 rfl rfl (Nat.le_of_ble_eq_true rfl) dL_law_1176 rfl rfl ⟨Nat.le_of_ble_eq_true rfl, Nat.le_of_ble_eq_true rfl⟩ ⟨by show cells + 0 ≤ 600000; omega, by show slots + 0 ≤ 7302250; omega⟩) hS (fun r2 iv2 rv2 H locs hG f2 g2 hp2 hU hS => ?_)
  have hRel := hRel.fr hGp f2 g2 (by decide)
  refine lv_pop hx hb dL_law_1179 rfl ?_
  refine lv_goto (tgt := 1475) hx hb dL_law_1180 (by decide) ?_
  refine W.widen (k := cells + 3) (n := slots + 16) (by omega) (by omega) ?_
  exact kk _ _ _ _ _ ⟨hG, hox, hom, hRel⟩ hU hS
