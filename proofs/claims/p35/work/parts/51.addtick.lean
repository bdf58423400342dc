-- a new TICKET
def tickIv (iv : Iv) (n : Nat) (num siz : Int32) : Iv := up3 (clr (up3 (clr (up3 (clr iv 65 n 0) 65 n 0 num) 66 n 0) 65 n 4 1) 67 n 0) 63 0 1 siz
def tickRv (rv : Rv) (n li : Nat) : Rv := up3 (up3 (clr (up3 (up3 (clr (up3 (up3 (clr rv 65 n none) 65 n 1 (some li)) 65 n 2 (some li)) 66 n none) 65 n 3 (some n)) 66 n 0 (some li)) 67 n none) 65 n 5 (some n)) 64 0 n (some n)
theorem tickIv_o {iv : Iv} {n : Nat} {num siz : Int32} {t i k : Nat} (q : ¬ ((t = 65 ∨ t = 66 ∨ t = 67) ∧ i = n)) (q2 : ¬ (t = 63 ∧ i = 0 ∧ k = 1)) : tickIv iv n num siz t i k = iv t i k := by
  have z : ∀ {a : Nat}, ¬ (t = 65 ∧ i = n ∧ k = a) := fun w => q ⟨Or.inl w.1, w.2.1⟩
  unfold tickIv
  rw [up3_ne q2, clr_ne (fun w => q ⟨Or.inr (Or.inr w.1), w.2⟩), up3_ne z, clr_ne (fun w => q ⟨Or.inr (Or.inl w.1), w.2⟩), up3_ne z, clr_ne (fun w => q ⟨Or.inl w.1, w.2⟩)]
theorem tickRv_o {rv : Rv} {n li : Nat} {t i k : Nat} (q : ¬ ((t = 65 ∨ t = 66 ∨ t = 67) ∧ i = n)) (q2 : ¬ (t = 64 ∧ i = 0 ∧ k = n)) : tickRv rv n li t i k = rv t i k := by
  have z : ∀ {a : Nat}, ¬ (t = 65 ∧ i = n ∧ k = a) := fun w => q ⟨Or.inl w.1, w.2.1⟩
  unfold tickRv
  rw [up3_ne q2, up3_ne z, clr_ne (fun w => q ⟨Or.inr (Or.inr w.1), w.2⟩), up3_ne (fun w => q ⟨Or.inr (Or.inl w.1), w.2.1⟩), up3_ne z, clr_ne (fun w => q ⟨Or.inr (Or.inl w.1), w.2⟩), up3_ne z, up3_ne z, clr_ne (fun w => q ⟨Or.inl w.1, w.2⟩)]
theorem tick_GI {al al' : Al} {iv : Iv} {rv : Rv} (hG : GI al iv rv) {num siz : Int32} {li : Nat} (ct : ∀ t, al'.1 t = al.1 t + (if t = 65 ∨ t = 66 ∨ t = 67 then 1 else 0)) (hA : ∀ t i, i < al.1 t → al'.2 t i = al.2 t i) (hRn : RG al' (tickIv iv (al.1 65) num siz)) (hB : RB al' (tickRv rv (al.1 65) li)) (hsiz : siz.toInt = al.1 65 + 1) :
    GI al' (tickIv iv (al.1 65) num siz) (tickRv rv (al.1 65) li) ∧ EX ([64], [(63, 1)]) al iv rv al' (tickIv iv (al.1 65) num siz) (tickRv rv (al.1 65) li) := by
  obtain ⟨hR, hF, hC, hP⟩ := hG
  have c66 : al.1 66 = al.1 65 := hC.2.2.2.1
  have c67 : al.1 67 = al.1 65 := hC.2.2.2.2.1
  have ne : ∀ t i, i < al.1 t → ¬ ((t = 65 ∨ t = 66 ∨ t = 67) ∧ i = al.1 65) := fun t i q z => by
    obtain ⟨z1, z2⟩ := z
    rcases z1 with rfl | rfl | rfl <;> omega
  have old : ∀ t i k, i < al.1 t → ¬ MD ([64], [(63, 1)]) t k → tickIv iv (al.1 65) num siz t i k = iv t i k ∧ tickRv rv (al.1 65) li t i k = rv t i k := fun t i k q m =>
    ⟨tickIv_o (ne t i q) (fun z => m (by obtain ⟨rfl, -, rfl⟩ := z; decide)), tickRv_o (ne t i q) (fun z => m (by obtain ⟨rfl, -, -⟩ := z; exact Or.inl (by decide)))⟩
  refine ⟨⟨hRn, ?_, ?_, ?_⟩, fun t => by rw [ct]; omega, hA, old⟩
  · refine hF.ext hB (fun t i k q m => tickRv_o (ne t i q) (fun z => by obtain ⟨rfl, -, -⟩ := z; cases m)) (fun t i k t' q1 q2 q3 q4 q5 => ?_)
    rw [ct] at q2
    have e : (t = 65 ∨ t = 66 ∨ t = 67) := by
      by_cases z : t = 65 ∨ t = 66 ∨ t = 67
      · exact z
      · simp [z] at q2; omega
    simp [e] at q2
    rcases e with rfl | rfl | rfl
    · have ei : i = al.1 65 := by omega
      subst ei
      unfold tickRv
      rw [up3_ne (fun z => absurd z.1 (by decide))]
      have hk : k = 1 ∨ k = 2 ∨ k = 3 ∨ k = 5 := by
        have q3' : k < 7 := q3
        match k, q3', q4 with
        | 0, _, h => cases h
        | 1, _, _ => exact Or.inl rfl
        | 2, _, _ => exact Or.inr (Or.inl rfl)
        | 3, _, _ => exact Or.inr (Or.inr (Or.inl rfl))
        | 4, _, h => cases h
        | 5, _, _ => exact Or.inr (Or.inr (Or.inr rfl))
        | 6, _, h => cases h
      rcases hk with rfl | rfl | rfl | rfl
      · rw [up3_ne (fun z => absurd z.2.2 (by decide)), clr_ne (fun z => absurd z.1 (by decide)), up3_ne (fun z => absurd z.1 (by decide)), up3_ne (fun z => absurd z.2.2 (by decide)), clr_ne (fun z => absurd z.1 (by decide)), up3_ne (fun z => absurd z.2.2 (by decide)), up3_self]; exact ⟨_, rfl⟩
      · rw [up3_ne (fun z => absurd z.2.2 (by decide)), clr_ne (fun z => absurd z.1 (by decide)), up3_ne (fun z => absurd z.1 (by decide)), up3_ne (fun z => absurd z.2.2 (by decide)), clr_ne (fun z => absurd z.1 (by decide)), up3_self]; exact ⟨_, rfl⟩
      · rw [up3_ne (fun z => absurd z.2.2 (by decide)), clr_ne (fun z => absurd z.1 (by decide)), up3_ne (fun z => absurd z.1 (by decide)), up3_self]; exact ⟨_, rfl⟩
      · rw [up3_self]; exact ⟨_, rfl⟩
    · cases q5
    · cases q4
  · refine ⟨fun t ht => ?_, ?_, ?_, ?_, ?_, ?_⟩
    · rw [ct, if_neg (fun e => by rcases e with rfl | rfl | rfl <;> exact absurd ht (by decide))]; exact hC.1 t ht
    · rw [ct]; exact hC.2.1
    · rw [ct]; exact hC.2.2.1
    · rw [ct, ct]; simp; exact c66
    · rw [ct, ct]; simp; exact c67
    · rw [ct, ct]; exact hC.2.2.2.2.2
  · refine hP.keep2 hC (fun t e1 e2 e3 => by rw [ct]; simp [e1, e2, e3]) (by rw [ct]; simp) old ⟨fun i hi => ?_, ?_⟩ ⟨?_, ?_, fun k hk => ?_⟩
    · rw [ct] at hi
      simp at hi
      by_cases z : i = al.1 65
      · subst z; exact up3_self _ _ _ _ _
      · rw [tickRv_o (fun w => by rcases w.1 with q | q | q <;> exact absurd q (by decide)) (fun w => z w.2.2)]; exact hP.2.1.1 i (by omega)
    · rw [ct]
      show (up3 _ 63 0 1 siz 63 0 1).toInt = _
      rw [up3_self, hsiz]; simp
    · unfold tickRv
      rw [up3_ne (fun z => absurd z.1 (by decide)), up3_ne (fun z => absurd z.2.2 (by decide)), clr_ne (fun z => absurd z.1 (by decide)), up3_ne (fun z => absurd z.1 (by decide)), up3_self]
    · unfold tickRv
      rw [up3_ne (fun z => absurd z.1 (by decide)), up3_self]
    · have e4 : tickIv iv (al.1 65) num siz 65 (al.1 65) 4 = 1 := by
        unfold tickIv
        rw [up3_ne (fun z => absurd z.1 (by decide)), clr_ne (fun z => absurd z.1 (by decide)), up3_self]
      rw [e4, show (1 : Int32).toInt = 1 from by decide] at hk
      have k0 : k = 0 := by omega
      subst k0
      unfold tickRv
      rw [up3_ne (fun z => absurd z.1 (by decide)), up3_ne (fun z => absurd z.1 (by decide)), clr_ne (fun z => absurd z.1 (by decide)), up3_self]
      exact ⟨_, rfl⟩
set_option maxHeartbeats 4000000 in
set_option maxRecDepth 100000 in
theorem c_X9_add {l : Launch} {D : va_G} {cA : FieldType → ClassId} {sz : Nat} {al : Al} {iv : Iv} {rv : Rv} (hG : GI al iv rv) (li : Nat) (hli : li < al.1 62) (pre0 : (iv 63 0 1).toInt < 20) :
    Met l yX9_add (wd yX9_add cX9_add 2 (some .int)) (rmA 2 3 16) (PcA D cA sz al iv rv [.ref (al.2 63 0), .ref (al.2 62 li)] (fun _ => True))
      (QIA D cA sz (fun r al' iv' rv' => GI al' iv' rv' ∧ EX ([64], [(63, 1)]) al iv rv al' iv' rv' ∧ r = iv 63 0 1 ∧ ∃ (a a6 a7 : Nat) (siz : Int32), siz.toInt = al.1 65 + 1 ∧ al' = grow (grow (grow al 65 a) 66 a6) 67 a7 ∧ iv' = tickIv iv (al.1 65) r siz ∧ rv' = tickRv rv (al.1 65) li)) 3 16 (Aq sz) := by
  refine mk_a (by decide) (Nat.le_of_ble_eq_true rfl) rfl ?_
  intro p e s m below meth c ls C hr hlk hnm hU hS hz _ hl
  have hx := C.1.1
  have hb := C.1.2.1
  have hz0 := hz
  have k1 : (1 : Int32).toInt = 1 := by decide
  have hB := hG.2.1.rb
  have hR := hG.1
  have n65 : (iv 63 0 1).toInt = al.1 65 := hG.2.2.2.2.1.2
  have c66 : al.1 66 = al.1 65 := hG.2.2.1.2.2.2.1
  have c67 : al.1 67 = al.1 65 := hG.2.2.1.2.2.2.2.1
  have hl : lv_has ls 2 [(0, .ref (al.2 63 0)), (1, .ref (al.2 62 li))] := hl
  refine lv_aload_n hx hb dX9_add_0 rfl (lv_at hl 0 rfl) ?_
  refine g_63_0 C hU hG (h1_63 hG) fl_X9_11 dX9_add_1 ?_
  refine lv_aload_n hx hb dX9_add_4 rfl (lv_at hl 0 rfl) ?_
  refine g_63_1 C hU hG (h1_63 hG) fl_X9_15 dX9_add_5 (fun x ex lx ux => ?_)
  have tx := congrArg Int32.toInt ex
  refine q_newo (t := 65) C hU hS hB hz k_65 (hc := rfl) uwX8 tyX8 tyX8_ok (by decide +kernel) kl_X9_9 ib_X8 iz_X8 (Nat.le_of_ble_eq_true rfl) (Nat.le_of_ble_eq_true rfl) dX9_add_8 (fun a H hU hS hz => ?_)
  have hR1 := hR.new 65 a
  have hB1 := hB.new 65 a
  obtain ⟨al1, ea⟩ : ∃ z, z = grow al 65 a := ⟨_, rfl⟩
  rw [← ea] at hU hR1 hB1
  have ct1 := fun t => show al1.1 t = al.1 t + (if t = 65 then 1 else 0) by rw [ea]; exact grow_ct al 65 a t
  have A63 : al1.2 63 0 = al.2 63 0 := by rw [ea, grow_ad (h1_63 hG)]
  have Ali : al1.2 62 li = al.2 62 li := by rw [ea, grow_ad hli]
  have An : al1.2 65 (al.1 65) = a := by rw [ea]; exact grow_new
  have i63 : 0 < al1.1 63 := by rw [ct1]; exact Nat.lt_add_right _ (h1_63 hG)
  have ili : li < al1.1 62 := by rw [ct1]; exact Nat.lt_add_right _ hli
  have inn : al.1 65 < al1.1 65 := by rw [ct1]; simp
  refine lv_dup hx hb dX9_add_11 rfl ?_
  refine lv_aload_n hx hb dX9_add_12 rfl (lv_at hl 0 rfl) ?_
  refine W.eq (g2 := F0 m 13 ls [.ref (al1.2 63 0), .ref a, .ref a, .int x, .ref (al.2 64 0)]) (by rw [A63]) ?_
  refine q_geti (t := 63) (i := 0) (k := 1) C hU k_63 (hc := rfl) uwX9 i63 (by decide) rfl rfl fl_X9_15 dX9_add_13 (fun x2 ex2 => ?_)
  rw [clr_ne (fun z => absurd z.1 (by decide))] at ex2
  have e2 : x2 = x := ex2.trans ex.symm
  have t2 := congrArg Int32.toInt e2
  refine lv_aload_n hx hb dX9_add_16 rfl (lv_at hl 1 rfl) ?_
  refine W.eq (g2 := F0 m 17 ls [.ref (al1.2 62 li), .int x2, .ref (al1.2 65 (al.1 65)), .ref a, .int x, .ref (al.2 64 0)]) (by rw [Ali, An]) ?_
  refine q_cvA (q_runIA (n := 2) (b := al1.2 65 (al.1 65)) (As := [.int x2, .ref (al1.2 62 li)]) (rest := [.ref a, .int x, .ref (al.2 64 0)]) C hU hz (fun _ _ _ => trivial) (fun _ _ _ _ _ => trivial) (c_X8_initx hR1 hB1 (al.1 65) inn x2 li ili ⟨by omega, by omega⟩) cw_X8_init im_X8_init iz_X8 ml_X9_25 rfl (by decide +kernel) hl.1 rfl rfl (Nat.le_of_ble_eq_true rfl) dX9_add_17 rfl rfl ⟨Nat.le_of_ble_eq_true rfl, Nat.le_of_ble_eq_true rfl⟩ ⟨Nat.le_of_ble_eq_true rfl, Nat.le_of_ble_eq_true rfl⟩) hS hz (fun al4 iv4 rv4 H locs hp hU hS hz => ?_)
  obtain ⟨hR4, hB4, hE4, -, a6, a7, p1, p2, p3⟩ := hp
  have d66 : al1.1 66 = al.1 65 := by rw [ct1]; exact c66
  have d67 : al1.1 67 = al.1 65 := by rw [ct1]; exact c67
  rw [d66, d67] at p2 p3
  have ct4 : ∀ t, al4.1 t = al.1 t + (if t = 65 ∨ t = 66 ∨ t = 67 then 1 else 0) := fun t => by
    rw [p1, grow_ct, grow_ct, ct1]
    by_cases z5 : t = 65
    · subst z5; simp
    · by_cases z6 : t = 66
      · subst z6; simp
      · by_cases z7 : t = 67
        · subst z7; simp
        · simp [z5, z6, z7]
  have hA4 : ∀ t i, i < al.1 t → al4.2 t i = al.2 t i := fun t i q => by
    have q1 : i < al1.1 t := by rw [ct1]; omega
    rw [hE4.2.1 t i q1, ea, grow_ad q]
  have B63 : al4.2 63 0 = al.2 63 0 := hA4 63 0 (h1_63 hG)
  have B64 : al4.2 64 0 = al.2 64 0 := hA4 64 0 (h1_64 hG)
  have Bn : al4.2 65 (al.1 65) = a := by rw [hE4.2.1 65 _ inn]; exact An
  have j63 : 0 < al4.1 63 := by rw [ct4]; exact Nat.lt_add_right _ (h1_63 hG)
  have j64 : 0 < al4.1 64 := by rw [ct4]; exact Nat.lt_add_right _ (h1_64 hG)
  have jnn : al.1 65 < al4.1 65 := by rw [ct4]; simp
  refine W.eq (g2 := F0 m 20 ls [.ref (al4.2 65 (al.1 65)), .int x, .ref (al4.2 64 0)]) (by rw [Bn, B64]) ?_
  refine s_64 (i := 0) (j := al.1 65) C hU hS j64 jnn (x := x) (by omega) (by omega) dX9_add_20 (fun rv5 H locs er5 hU hS => ?_)
  refine lv_aload_n hx hb dX9_add_21 rfl (lv_at hl 0 rfl) ?_
  refine lv_dup hx hb dX9_add_22 rfl ?_
  refine W.eq (g2 := F0 m 23 ls [.ref (al4.2 63 0), .ref (al4.2 63 0)]) (by rw [B63]) ?_
  refine q_geti (t := 63) (i := 0) (k := 1) C hU k_63 (hc := rfl) uwX9 j63 (by decide) rfl rfl fl_X9_15 dX9_add_23 (fun x3 ex3 => ?_)
  have f3 : x3 = x := by
    rw [ex3, p2, clr_ne (fun z => absurd z.1 (by decide)), up3_ne (fun z => absurd z.1 (by decide)), clr_ne (fun z => absurd z.1 (by decide)), up3_ne (fun z => absurd z.1 (by decide)), clr_ne (fun z => absurd z.1 (by decide)), ex]
  have t3 := congrArg Int32.toInt f3
  refine lv_iconst (v := 1) hx hb dX9_add_26 (by decide) ?_
  refine lv_iadd hx hb dX9_add_27 ?_
  refine lv_topi (fun y ey => ?_)
  have ty : y.toInt = x3.toInt + (1 : Int32).toInt := by rw [ey]; exact fb_addI (by omega) (by omega)
  refine p_63_1 C hU hS j63 fl_X9_15 dX9_add_28 (fun iv6 H locs ei6 hU hS => ?_)
  refine lv_aload_n hx hb dX9_add_31 rfl (lv_at hl 0 rfl) ?_
  refine W.eq (g2 := F0 m 32 ls [.ref (al4.2 63 0)]) (by rw [B63]) ?_
  refine q_geti (t := 63) (i := 0) (k := 1) C hU k_63 (hc := rfl) uwX9 j63 (by decide) rfl rfl fl_X9_15 dX9_add_32 (fun x4 ex4 => ?_)
  rw [ei6, up3_self] at ex4
  refine lv_iconst (v := 1) hx hb dX9_add_35 (by decide) ?_
  refine lv_isub hx hb dX9_add_36 ?_
  refine lv_topi (fun r er => ?_)
  have tr : r.toInt = x4.toInt - (1 : Int32).toInt := by rw [er]; exact fb_subI (by rw [ex4]; omega) (by rw [ex4]; omega)
  rw [ex4] at tr
  have rr : r = iv 63 0 1 := (fa_eq _ _).mpr (by omega)
  have xn : x.toNatClampNeg = al.1 65 := by rw [clamp_n]; omega
  have ei : iv6 = tickIv iv (al.1 65) r y := by
    rw [ei6, p2, show x2 = r from (e2.trans ex).trans rr.symm]; rfl
  have ev : rv5 = tickRv rv (al.1 65) li := by rw [er5, p3, xn]; rfl
  have hR6 : RG al4 iv6 := by rw [ei6]; exact hR4.put (show _ ∧ _ from ⟨show (0 : Int) ≤ _ by omega, show _ ≤ (20 : Int) by omega⟩)
  have hB6 : RB al4 rv5 := by rw [er5]; exact hB4.put rfl jnn
  rw [ei] at hR6
  rw [ev] at hB6
  have q := tick_GI hG ct4 hA4 hR6 hB6 (by omega)
  rw [← ei, ← ev] at q
  exact q_iretA C hr hlk hU hS ⟨q.1, q.2, rr, a, a6, a7, y, by omega, by rw [p1, ea], ei, ev⟩ dX9_add_37
