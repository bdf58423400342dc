-- a new CLAIM
def claimIv (iv : Iv) (n ti : Nat) (d siz : Int32) : Iv := up3 (up3 (clr (up3 (clr iv 88 n 0) 88 n 1 d) 89 n 0) 65 ti 6 1) 84 0 1 siz
def claimRv (rv : Rv) (n ti : Nat) : Rv := up3 (up3 (clr (up3 (clr rv 88 n none) 88 n 0 (some ti)) 89 n none) 88 n 2 (some n)) 85 0 n (some n)
theorem claimIv_o {iv : Iv} {n ti : Nat} {d siz : Int32} {t i k : Nat} (q : ¬ ((t = 88 ∨ t = 89) ∧ i = n)) (q1 : ¬ (t = 65 ∧ i = ti ∧ k = 6)) (q2 : ¬ (t = 84 ∧ i = 0 ∧ k = 1)) : claimIv iv n ti d siz t i k = iv t i k := by
  unfold claimIv
  rw [up3_ne q2, up3_ne q1, clr_ne (fun w => q ⟨Or.inr w.1, w.2⟩), up3_ne (fun w => q ⟨Or.inl w.1, w.2.1⟩), clr_ne (fun w => q ⟨Or.inl w.1, w.2⟩)]
theorem claimRv_o {rv : Rv} {n ti : Nat} {t i k : Nat} (q : ¬ ((t = 88 ∨ t = 89) ∧ i = n)) (q2 : ¬ (t = 85 ∧ i = 0 ∧ k = n)) : claimRv rv n ti t i k = rv t i k := by
  unfold claimRv
  rw [up3_ne q2, up3_ne (fun w => q ⟨Or.inl w.1, w.2.1⟩), clr_ne (fun w => q ⟨Or.inr w.1, w.2⟩), up3_ne (fun w => q ⟨Or.inl w.1, w.2.1⟩), clr_ne (fun w => q ⟨Or.inl w.1, w.2⟩)]
theorem claim_GI {al al' : Al} {iv : Iv} {rv : Rv} (hG : GI al iv rv) {d siz : Int32} {ti : Nat} (ct : ∀ t, al'.1 t = al.1 t + (if t = 88 ∨ t = 89 then 1 else 0)) (hA : ∀ t i, i < al.1 t → al'.2 t i = al.2 t i) (hRn : RG al' (claimIv iv (al.1 88) ti d siz)) (hB : RB al' (claimRv rv (al.1 88) ti)) (hsiz : siz.toInt = al.1 88 + 1) :
    GI al' (claimIv iv (al.1 88) ti d siz) (claimRv rv (al.1 88) ti) ∧ EX ([85], [(84, 1), (65, 6)]) al iv rv al' (claimIv iv (al.1 88) ti d siz) (claimRv rv (al.1 88) ti) := by
  obtain ⟨hR, hF, hC, hP⟩ := hG
  have c89 : al.1 89 = al.1 88 := hC.2.2.2.2.2
  have ne : ∀ t i, i < al.1 t → ¬ ((t = 88 ∨ t = 89) ∧ i = al.1 88) := fun t i q z => by
    obtain ⟨z1, z2⟩ := z
    rcases z1 with rfl | rfl <;> omega
  have old : ∀ t i k, i < al.1 t → ¬ MD ([85], [(84, 1), (65, 6)]) t k → claimIv iv (al.1 88) ti d siz t i k = iv t i k ∧ claimRv rv (al.1 88) ti t i k = rv t i k := fun t i k q m =>
    ⟨claimIv_o (ne t i q) (fun z => m (by obtain ⟨rfl, -, rfl⟩ := z; decide)) (fun z => m (by obtain ⟨rfl, -, rfl⟩ := z; decide)), claimRv_o (ne t i q) (fun z => m (by obtain ⟨rfl, -, -⟩ := z; exact Or.inl (by decide)))⟩
  refine ⟨⟨hRn, ?_, ?_, ?_⟩, fun t => by rw [ct]; omega, hA, old⟩
  · refine hF.ext hB (fun t i k q m => claimRv_o (ne t i q) (fun z => by obtain ⟨rfl, -, -⟩ := z; cases m)) (fun t i k t' q1 q2 q3 q4 q5 => ?_)
    rw [ct] at q2
    have e : (t = 88 ∨ t = 89) := by
      by_cases z : t = 88 ∨ t = 89
      · exact z
      · simp [z] at q2; omega
    simp [e] at q2
    rcases e with rfl | rfl
    · have ei : i = al.1 88 := by omega
      subst ei
      unfold claimRv
      rw [up3_ne (fun z => absurd z.1 (by decide))]
      have hk : k = 0 ∨ k = 2 := by
        have q3' : k < 4 := q3
        match k, q3', q4 with
        | 0, _, _ => exact Or.inl rfl
        | 1, _, h => cases h
        | 2, _, _ => exact Or.inr rfl
        | 3, _, h => cases h
      rcases hk with rfl | rfl
      · rw [up3_ne (fun z => absurd z.2.2 (by decide)), clr_ne (fun z => absurd z.1 (by decide)), up3_self]; exact ⟨_, rfl⟩
      · rw [up3_self]; exact ⟨_, rfl⟩
    · cases q4
  · refine ⟨fun t ht => ?_, ?_, ?_, ?_, ?_, ?_⟩
    · rw [ct, if_neg (fun e => by rcases e with rfl | rfl <;> exact absurd ht (by decide))]; exact hC.1 t ht
    · rw [ct]; exact hC.2.1
    · rw [ct]; exact hC.2.2.1
    · rw [ct, ct]; exact hC.2.2.2.1
    · rw [ct, ct]; exact hC.2.2.2.2.1
    · rw [ct, ct]; simp; exact c89
  · refine hP.keep3 hC (fun t e1 e2 => by rw [ct]; simp [e1, e2]) (by rw [ct]; simp) old ⟨fun i hi => ?_, ?_⟩ ?_
    · rw [ct] at hi
      simp at hi
      by_cases z : i = al.1 88
      · subst z; exact up3_self _ _ _ _ _
      · rw [claimRv_o (fun w => by rcases w.1 with q | q <;> exact absurd q (by decide)) (fun w => z w.2.2)]; exact hP.2.2.1.1 i (by omega)
    · rw [ct]
      show (up3 _ 84 0 1 siz 84 0 1).toInt = _
      rw [up3_self, hsiz]; simp
    · unfold claimRv
      rw [up3_ne (fun z => absurd z.1 (by decide)), up3_self]
set_option maxHeartbeats 4000000 in
set_option maxRecDepth 100000 in
theorem c_X3_add {l : Launch} {D : va_G} {cA : FieldType → ClassId} {sz : Nat} {al : Al} {iv : Iv} {rv : Rv} (hG : GI al iv rv) (ti : Nat) (hti : ti < al.1 65) (d : Int32) (pre0 : (iv 84 0 1).toInt < 30) (pre1 : 0 ≤ d.toInt ∧ d.toInt ≤ 4000) :
    Met l yX3_add (wd yX3_add cX3_add 3 (some .int)) (rmA 2 2 9) (PcA D cA sz al iv rv [.ref (al.2 84 0), .ref (al.2 65 ti), .int d] (fun _ => True))
      (QIA D cA sz (fun r al' iv' rv' => GI al' iv' rv' ∧ EX ([85], [(84, 1), (65, 6)]) al iv rv al' iv' rv' ∧ r = iv 84 0 1 ∧ ∃ (a a9 : Nat) (siz : Int32), siz.toInt = al.1 88 + 1 ∧ al' = grow (grow al 88 a) 89 a9 ∧ iv' = claimIv iv (al.1 88) ti d siz ∧ rv' = claimRv rv (al.1 88) ti)) 2 9 (Aq sz) := by
  refine mk_a (by decide) (Nat.le_of_ble_eq_true rfl) rfl ?_
  intro p e s m below meth c ls C hr hlk hnm hU hS hz _ hl
  have hx := C.1.1
  have hb := C.1.2.1
  have hz0 := hz
  have k1 : (1 : Int32).toInt = 1 := by decide
  have hB := hG.2.1.rb
  have hR := hG.1
  have n88 : (iv 84 0 1).toInt = al.1 88 := hG.2.2.2.2.2.1.2
  have c89 : al.1 89 = al.1 88 := hG.2.2.1.2.2.2.2.2
  have hl : lv_has ls 3 [(0, .ref (al.2 84 0)), (1, .ref (al.2 65 ti)), (2, .int d)] := hl
  refine lv_aload_n hx hb dX3_add_0 rfl (lv_at hl 0 rfl) ?_
  refine g_84_0 C hU hG (h1_84 hG) fl_X3_13 dX3_add_1 ?_
  refine lv_aload_n hx hb dX3_add_4 rfl (lv_at hl 0 rfl) ?_
  refine g_84_1 C hU hG (h1_84 hG) fl_X3_24 dX3_add_5 (fun x ex lx ux => ?_)
  have tx := congrArg Int32.toInt ex
  refine q_newo (t := 88) C hU hS hB hz k_88 (hc := rfl) uwX2 tyX2 tyX2_ok (by decide +kernel) kl_X3_11 ib_X2 iz_X2 (Nat.le_of_ble_eq_true rfl) (Nat.le_of_ble_eq_true rfl) dX3_add_8 (fun a H hU hS hz => ?_)
  have hR1 := hR.new 88 a
  have hB1 := hB.new 88 a
  obtain ⟨al1, ea⟩ : ∃ z, z = grow al 88 a := ⟨_, rfl⟩
  rw [← ea] at hU hR1 hB1
  have ct1 := fun t => show al1.1 t = al.1 t + (if t = 88 then 1 else 0) by rw [ea]; exact grow_ct al 88 a t
  have Ati : al1.2 65 ti = al.2 65 ti := by rw [ea, grow_ad hti]
  have An : al1.2 88 (al.1 88) = a := by rw [ea]; exact grow_new
  have iti : ti < al1.1 65 := by rw [ct1]; exact Nat.lt_add_right _ hti
  have inn : al.1 88 < al1.1 88 := by rw [ct1]; simp
  refine lv_dup hx hb dX3_add_11 rfl ?_
  refine lv_aload_n hx hb dX3_add_12 rfl (lv_at hl 1 rfl) ?_
  refine lv_iload_n hx hb dX3_add_13 rfl (lv_at hl 2 rfl) ?_
  refine W.eq (g2 := F0 m 14 ls [.int d, .ref (al1.2 65 ti), .ref (al1.2 88 (al.1 88)), .ref a, .int x, .ref (al.2 85 0)]) (by rw [Ati, An]) ?_
  refine q_cvA (q_runIA (n := 2) (b := al1.2 88 (al.1 88)) (As := [.ref (al1.2 65 ti), .int d]) (rest := [.ref a, .int x, .ref (al.2 85 0)]) C hU hz (fun _ _ _ => trivial) (fun _ _ _ _ _ => trivial) (c_X2_initx hR1 hB1 (al.1 88) inn ti iti d pre1) cw_X2_init im_X2_init iz_X2 ml_X3_32 rfl (by decide +kernel) hl.1 rfl rfl (Nat.le_of_ble_eq_true rfl) dX3_add_14 rfl rfl ⟨Nat.le_of_ble_eq_true rfl, Nat.le_of_ble_eq_true rfl⟩ ⟨Nat.le_of_ble_eq_true rfl, Nat.le_of_ble_eq_true rfl⟩) hS hz (fun al4 iv4 rv4 H locs hp hU hS hz => ?_)
  obtain ⟨hR4, hB4, hE4, -, a9, p1, p2, p3⟩ := hp
  have d89 : al1.1 89 = al.1 88 := by rw [ct1]; exact c89
  rw [d89] at p2 p3
  have ct4 : ∀ t, al4.1 t = al.1 t + (if t = 88 ∨ t = 89 then 1 else 0) := fun t => by
    rw [p1, grow_ct, ct1]
    by_cases z5 : t = 88
    · subst z5; simp
    · by_cases z6 : t = 89
      · subst z6; simp
      · simp [z5, z6]
  have hA4 : ∀ t i, i < al.1 t → al4.2 t i = al.2 t i := fun t i q => by
    have q1 : i < al1.1 t := by rw [ct1]; omega
    rw [hE4.2.1 t i q1, ea, grow_ad q]
  have B84 : al4.2 84 0 = al.2 84 0 := hA4 84 0 (h1_84 hG)
  have B85 : al4.2 85 0 = al.2 85 0 := hA4 85 0 (h1_85 hG)
  have Bti : al4.2 65 ti = al.2 65 ti := hA4 65 ti hti
  have Bn : al4.2 88 (al.1 88) = a := by rw [hE4.2.1 88 _ inn]; exact An
  have j84 : 0 < al4.1 84 := by rw [ct4]; exact Nat.lt_add_right _ (h1_84 hG)
  have j85 : 0 < al4.1 85 := by rw [ct4]; exact Nat.lt_add_right _ (h1_85 hG)
  have jti : ti < al4.1 65 := by rw [ct4]; exact Nat.lt_add_right _ hti
  have jnn : al.1 88 < al4.1 88 := by rw [ct4]; simp
  refine W.eq (g2 := F0 m 17 ls [.ref (al4.2 88 (al.1 88)), .int x, .ref (al4.2 85 0)]) (by rw [Bn, B85]) ?_
  refine s_85 (i := 0) (j := al.1 88) C hU hS j85 jnn (x := x) (by omega) (by omega) dX3_add_17 (fun rv5 H locs er5 hU hS => ?_)
  refine lv_aload_n hx hb dX3_add_18 rfl (lv_at hl 1 rfl) ?_
  refine lv_iconst (v := 1) hx hb dX3_add_19 (by decide) ?_
  refine W.eq (g2 := F0 m 20 ls [.int 1, .ref (al4.2 65 ti)]) (by rw [Bti]) ?_
  refine p_65_6 C hU hS jti fl_X3_35 dX3_add_20 (by decide) (by decide) (fun iv5 H locs ei5 hU hS => ?_)
  refine lv_aload_n hx hb dX3_add_23 rfl (lv_at hl 0 rfl) ?_
  refine lv_dup hx hb dX3_add_24 rfl ?_
  refine W.eq (g2 := F0 m 25 ls [.ref (al4.2 84 0), .ref (al4.2 84 0)]) (by rw [B84]) ?_
  refine q_geti (t := 84) (i := 0) (k := 1) C hU k_84 (hc := rfl) uwX3 j84 (by decide) rfl rfl fl_X3_24 dX3_add_25 (fun x3 ex3 => ?_)
  have f3 : x3 = x := by
    rw [ex3, ei5, up3_ne (fun z => absurd z.1 (by decide)), p2, clr_ne (fun z => absurd z.1 (by decide)), up3_ne (fun z => absurd z.1 (by decide)), clr_ne (fun z => absurd z.1 (by decide)), ex]
  have t3 := congrArg Int32.toInt f3
  refine lv_iconst (v := 1) hx hb dX3_add_28 (by decide) ?_
  refine lv_iadd hx hb dX3_add_29 ?_
  refine lv_topi (fun y ey => ?_)
  have ty : y.toInt = x3.toInt + (1 : Int32).toInt := by rw [ey]; exact fb_addI (by omega) (by omega)
  refine p_84_1 C hU hS j84 fl_X3_24 dX3_add_30 (fun iv6 H locs ei6 hU hS => ?_)
  refine lv_aload_n hx hb dX3_add_33 rfl (lv_at hl 0 rfl) ?_
  refine W.eq (g2 := F0 m 34 ls [.ref (al4.2 84 0)]) (by rw [B84]) ?_
  refine q_geti (t := 84) (i := 0) (k := 1) C hU k_84 (hc := rfl) uwX3 j84 (by decide) rfl rfl fl_X3_24 dX3_add_34 (fun x4 ex4 => ?_)
  rw [ei6, up3_self] at ex4
  refine lv_iconst (v := 1) hx hb dX3_add_37 (by decide) ?_
  refine lv_isub hx hb dX3_add_38 ?_
  refine lv_topi (fun r er => ?_)
  have tr : r.toInt = x4.toInt - (1 : Int32).toInt := by rw [er]; exact fb_subI (by rw [ex4]; omega) (by rw [ex4]; omega)
  rw [ex4] at tr
  have rr : r = iv 84 0 1 := (fa_eq _ _).mpr (by omega)
  have xn : x.toNatClampNeg = al.1 88 := by rw [clamp_n]; omega
  have ei : iv6 = claimIv iv (al.1 88) ti d y := by rw [ei6, ei5, p2]; rfl
  have ev : rv5 = claimRv rv (al.1 88) ti := by rw [er5, p3, xn]; rfl
  have hR6 : RG al4 iv6 := by
    rw [ei6, ei5]
    exact (hR4.put (show _ ∧ _ from ⟨show (0 : Int) ≤ _ by decide, show _ ≤ (1 : Int) by decide⟩)).put (show _ ∧ _ from ⟨show (0 : Int) ≤ _ by omega, show _ ≤ (30 : Int) by omega⟩)
  have hB6 : RB al4 rv5 := by rw [er5]; exact hB4.put rfl jnn
  rw [ei] at hR6
  rw [ev] at hB6
  have q := claim_GI hG ct4 hA4 hR6 hB6 (by omega)
  rw [← ei, ← ev] at q
  exact q_iretA C hr hlk hU hS ⟨q.1, q.2, rr, a, a9, y, by omega, by rw [p1, ea], ei, ev⟩ dX3_add_39
