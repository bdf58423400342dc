set_option maxHeartbeats 4000000 in
set_option maxRecDepth 100000 in
theorem c_X10_add {l : Launch} {D : va_G} {cA : FieldType → ClassId} {sz : Nat} {al : Al} {iv : Iv} {rv : Rv} (hG : GI al iv rv) (pf : Nat) (hpf : pf < al.1 56) (pt_ : Nat) (hpt : pt_ < al.1 56) (pl cr lv_ ar : Int32) (pre0 : (iv 57 0 1).toInt < 40) (h3 : 0 ≤ pl.toInt ∧ pl.toInt ≤ 5) (h4 : 0 ≤ cr.toInt ∧ cr.toInt ≤ 5) (h5 : 0 ≤ lv_.toInt ∧ lv_.toInt ≤ 20000) (h6 : 0 ≤ ar.toInt ∧ ar.toInt ≤ 20000) :
    Met l yX10_add (wd yX10_add cX10_add 7 (some .int)) (rmA 2 1 15) (PcA D cA sz al iv rv [.ref (al.2 57 0), .ref (al.2 56 pf), .ref (al.2 56 pt_), .int pl, .int cr, .int lv_, .int ar] (fun _ => True))
      (QIA D cA sz (fun r al' iv' rv' => GI al' iv' rv' ∧ EX ([58], [(57, 1)]) al iv rv al' iv' rv' ∧ r = iv 57 0 1 ∧ ∃ (a : Nat) (siz : Int32), siz.toInt = al.1 62 + 1 ∧ al' = grow al 62 a ∧ iv' = legIv iv (al.1 62) r pl cr lv_ ar siz ∧ rv' = legRv rv (al.1 62) pf pt_)) 1 15 (Aq sz) := by
  refine mk_a (by decide) (Nat.le_of_ble_eq_true rfl) rfl ?_
  intro p e s m below meth c ls C hr hlk hnm hU hS hz _ hl
  have hx := C.1.1
  have hb := C.1.2.1
  have hz0 := hz
  have k1 : (1 : Int32).toInt = 1 := by decide
  have hB := hG.2.1.rb
  have hR := hG.1
  have n62 : (iv 57 0 1).toInt = al.1 62 := hG.2.2.2.1.2
  have hl : lv_has ls 7 [(0, .ref (al.2 57 0)), (1, .ref (al.2 56 pf)), (2, .ref (al.2 56 pt_)), (3, .int pl), (4, .int cr), (5, .int lv_), (6, .int ar)] := hl
  refine lv_aload_n hx hb dX10_add_0 rfl (lv_at hl 0 rfl) ?_
  refine g_57_0 C hU hG (h1_57 hG) fl_X10_13 dX10_add_1 ?_
  refine lv_aload_n hx hb dX10_add_4 rfl (lv_at hl 0 rfl) ?_
  refine g_57_1 C hU hG (h1_57 hG) fl_X10_28 dX10_add_5 (fun x ex lx ux => ?_)
  have tx := congrArg Int32.toInt ex
  refine q_newo (t := 62) C hU hS hB hz k_62 (hc := rfl) uwX5 tyX5 tyX5_ok (by decide +kernel) kl_X10_11 ib_X5 iz_X5 (Nat.le_of_ble_eq_true rfl) (Nat.le_of_ble_eq_true rfl) dX10_add_8 (fun a H hU hS hz => ?_)
  have hR1 := hR.new 62 a
  have hB1 := hB.new 62 a
  obtain ⟨al1, ea⟩ : ∃ z, z = grow al 62 a := ⟨_, rfl⟩
  rw [← ea] at hU hR1 hB1
  have A57 : al1.2 57 0 = al.2 57 0 := by rw [ea, grow_ad (h1_57 hG)]
  have A58 : al1.2 58 0 = al.2 58 0 := by rw [ea, grow_ad (h1_58 hG)]
  have Apf : al1.2 56 pf = al.2 56 pf := by rw [ea, grow_ad hpf]
  have Apt : al1.2 56 pt_ = al.2 56 pt_ := by rw [ea, grow_ad hpt]
  have An : al1.2 62 (al.1 62) = a := by rw [ea]; exact grow_new
  have i57 : 0 < al1.1 57 := by rw [ea, grow_ct]; exact Nat.lt_add_right _ (h1_57 hG)
  have i58 : 0 < al1.1 58 := by rw [ea, grow_ct]; exact Nat.lt_add_right _ (h1_58 hG)
  have ipf : pf < al1.1 56 := by rw [ea, grow_ct]; exact Nat.lt_add_right _ hpf
  have ipt : pt_ < al1.1 56 := by rw [ea, grow_ct]; exact Nat.lt_add_right _ hpt
  have inn : al.1 62 < al1.1 62 := by rw [ea, grow_ct]; simp
  refine lv_dup hx hb dX10_add_11 rfl ?_
  refine lv_aload_n hx hb dX10_add_12 rfl (lv_at hl 0 rfl) ?_
  refine W.eq (g2 := F0 m 13 ls [.ref (al1.2 57 0), .ref a, .ref a, .int x, .ref (al.2 58 0)]) (by rw [A57]) ?_
  refine q_geti (t := 57) (i := 0) (k := 1) C hU k_57 (hc := rfl) uwX10 i57 (by decide) rfl rfl fl_X10_28 dX10_add_13 (fun x2 ex2 => ?_)
  rw [clr_ne (fun z => absurd z.1 (by decide))] at ex2
  have e2 : x2 = x := ex2.trans ex.symm
  refine lv_aload_n hx hb dX10_add_16 rfl (lv_at hl 1 rfl) ?_
  refine lv_aload_n hx hb dX10_add_17 rfl (lv_at hl 2 rfl) ?_
  refine lv_iload_n hx hb dX10_add_18 rfl (lv_at hl 3 rfl) ?_
  refine lv_iload hx hb dX10_add_19 (lv_at hl 4 rfl) ?_
  refine lv_iload hx hb dX10_add_21 (lv_at hl 5 rfl) ?_
  refine lv_iload hx hb dX10_add_23 (lv_at hl 6 rfl) ?_
  refine W.eq (g2 := F0 m 25 ls [.int ar, .int lv_, .int cr, .int pl, .ref (al1.2 56 pt_), .ref (al1.2 56 pf), .int x2, .ref (al1.2 62 (al.1 62)), .ref a, .int x, .ref (al.2 58 0)]) (by rw [Apf, Apt, An]) ?_
  refine q_cvA (q_runIA (n := 7) (b := al1.2 62 (al.1 62)) (As := [.int x2, .ref (al1.2 56 pf), .ref (al1.2 56 pt_), .int pl, .int cr, .int lv_, .int ar]) (rest := [.ref a, .int x, .ref (al.2 58 0)]) C hU hz (fun _ _ _ => trivial) (fun _ _ _ _ _ => trivial) (c_X5_init hR1 hB1 (al.1 62) inn x2 pf ipf pt_ ipt pl cr lv_ ar) cw_X5_init im_X5_init iz_X5 ml_X10_36 rfl (by decide +kernel) hl.1 rfl rfl (Nat.le_of_ble_eq_true rfl) dX10_add_25 rfl rfl ⟨Nat.le_of_ble_eq_true rfl, Nat.le_of_ble_eq_true rfl⟩ ⟨Nat.le_of_ble_eq_true rfl, Nat.le_of_ble_eq_true rfl⟩) hS hz (fun al4 iv4 rv4 H locs hp hU hS hz => ?_)
  obtain ⟨p1, p2, p3⟩ := hp
  rw [p1] at hU
  refine W.eq (g2 := F0 m 28 ls [.ref (al1.2 62 (al.1 62)), .int x, .ref (al1.2 58 0)]) (by rw [An, A58]) ?_
  refine s_58 (i := 0) (j := al.1 62) C hU hS i58 inn (x := x) (by omega) (by omega) dX10_add_28 (fun rv5 H locs er5 hU hS => ?_)
  refine lv_aload_n hx hb dX10_add_29 rfl (lv_at hl 0 rfl) ?_
  refine lv_dup hx hb dX10_add_30 rfl ?_
  refine W.eq (g2 := F0 m 31 ls [.ref (al1.2 57 0), .ref (al1.2 57 0)]) (by rw [A57]) ?_
  refine q_geti (t := 57) (i := 0) (k := 1) C hU k_57 (hc := rfl) uwX10 i57 (by decide) rfl rfl fl_X10_28 dX10_add_31 (fun x3 ex3 => ?_)
  have f3 : x3 = x := by
    rw [ex3, p2, up3_ne (fun z => absurd z.1 (by decide)), up3_ne (fun z => absurd z.1 (by decide)), up3_ne (fun z => absurd z.1 (by decide)), up3_ne (fun z => absurd z.1 (by decide)), up3_ne (fun z => absurd z.1 (by decide)), clr_ne (fun z => absurd z.1 (by decide)), ex]
  have t3 := congrArg Int32.toInt f3
  refine lv_iconst (v := 1) hx hb dX10_add_34 (by decide) ?_
  refine lv_iadd hx hb dX10_add_35 ?_
  refine lv_topi (fun y ey => ?_)
  have ty : y.toInt = x3.toInt + (1 : Int32).toInt := by rw [ey]; exact fb_addI (by omega) (by omega)
  refine p_57_1 C hU hS i57 fl_X10_28 dX10_add_36 (fun iv6 H locs ei6 hU hS => ?_)
  refine lv_aload_n hx hb dX10_add_39 rfl (lv_at hl 0 rfl) ?_
  refine W.eq (g2 := F0 m 40 ls [.ref (al1.2 57 0)]) (by rw [A57]) ?_
  refine q_geti (t := 57) (i := 0) (k := 1) C hU k_57 (hc := rfl) uwX10 i57 (by decide) rfl rfl fl_X10_28 dX10_add_40 (fun x4 ex4 => ?_)
  rw [ei6, up3_self] at ex4
  refine lv_iconst (v := 1) hx hb dX10_add_43 (by decide) ?_
  refine lv_isub hx hb dX10_add_44 ?_
  refine lv_topi (fun r er => ?_)
  have tr : r.toInt = x4.toInt - (1 : Int32).toInt := by rw [er]; exact fb_subI (by rw [ex4]; omega) (by rw [ex4]; omega)
  rw [ex4] at tr
  have rr : r = iv 57 0 1 := (fa_eq _ _).mpr (by omega)
  have xn : x.toNatClampNeg = al.1 62 := by rw [clamp_n]; omega
  have q := leg_GI hG a (num := r) (siz := y) (pl := pl) (cr := cr) (lv_ := lv_) (ar := ar) hpf hpt (by rw [rr]; exact n62) (by omega) (by omega) h3 h4 h5 h6
  have ei : iv6 = legIv iv (al.1 62) r pl cr lv_ ar y := by
    rw [ei6, p2, show x2 = r from (e2.trans ex).trans rr.symm]; rfl
  have ev : rv5 = legRv rv (al.1 62) pf pt_ := by rw [er5, p3, xn]; rfl
  rw [← ei, ← ev, ← ea] at q
  exact q_iretA C hr hlk hU hS ⟨q.1, q.2, rr, a, y, by omega, ea, ei, ev⟩ dX10_add_45
