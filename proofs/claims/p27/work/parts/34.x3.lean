set_option maxHeartbeats 4000000 in
set_option maxRecDepth 100000 in
theorem c_X4_add {l : Launch} {D : va_G} {cA : FieldType → ClassId} {sz : Nat} {al : Al} {iv : Iv} {rv : Rv} (hG : GI al iv rv) (a : Int32) (d : Int32) (mm : Int32) (far : Int32) (sm : Int32) (pre0 : (iv 68 0 5).toInt < 30) (pre1 : 0 ≤ a.toInt ∧ a.toInt ≤ 9999) (pre2 : 0 ≤ d.toInt ∧ d.toInt ≤ 9999) (pre3 : 0 ≤ mm.toInt ∧ mm.toInt ≤ 9999) (pre4 : 0 ≤ far.toInt ∧ far.toInt ≤ 9999) (pre5 : 0 ≤ sm.toInt ∧ sm.toInt ≤ 9999) : Met l yX4_add (wd yX4_add cX4_add 6 (some .int)) (rm 0) (PcW D cA sz al iv rv [.ref (al.2 68 0), .int a, .int d, .int mm, .int far, .int sm]) (QI D cA sz al (fI al ([69, 70, 71, 72, 73], [(68, 5)]) iv rv (fun r iv' rv' => True))) 0 0 (Aq sz) := by
  refine mk_i (by decide) (Nat.le_of_ble_eq_true rfl) rfl ?_
  intro p e s m args below meth c ls Q H locs C hU hS hl hret
  have hx := C.1.1
  have hb := C.1.2.1
  have hl : lv_has ls 6 [(0, .ref (al.2 68 0)), (1, .int a), (2, .int d), (3, .int mm), (4, .int far), (5, .int sm)] := hl
  have hG0 := hG
  have hF1 : FR ([69, 70, 71, 72, 73], [(68, 5)]) iv iv := FR.rf
  have hF2 : FR ([69, 70, 71, 72, 73], [(68, 5)]) rv rv := FR.rf
  have k1 : (1 : Int32).toInt = 1 := by decide
  refine lv_aload_n hx hb dX4_add_0 rfl (lv_at hl 0 rfl) ?_
  refine g_68_0 C hU hG (h1_68 hG) fl_X4_11 dX4_add_1 ?_
  refine lv_aload_n hx hb dX4_add_4 rfl (lv_at hl 0 rfl) ?_
  refine g_68_5 C hU hG (h1_68 hG) fl_X4_43 dX4_add_5 (fun x_1 e_2 le_2 ue_2 => ?_)
  have te_2 := congrArg Int32.toInt e_2
  refine lv_iload_n hx hb dX4_add_8 rfl (lv_at hl 1 rfl) ?_
  refine s_69 C hU hS (h1_69 hG) (x := x_1) (by omega) (by omega) dX4_add_9 (fun iv_3 H locs ei_4 hU hS => ?_)
  have hG : GI al iv_3 rv := by rw [ei_4]; exact hG.puti (show _ ∧ _ from ⟨show (0 : Int) ≤ _ by omega, show _ ≤ (9999 : Int) by omega⟩) (nsA (by decide) _)
  have hF1 : FR ([69, 70, 71, 72, 73], [(68, 5)]) iv iv_3 := by rw [ei_4]; exact hF1.put (Or.inl (by decide))
  have kf_5 := congrArg Int32.toInt (show iv_3 68 0 5 = iv 68 0 5 by rw [ei_4]; exact up3_ne (fun z => absurd z.1 (by decide)))
  refine lv_aload_n hx hb dX4_add_10 rfl (lv_at hl 0 rfl) ?_
  refine g_68_1 C hU hG (h1_68 hG) fl_X4_15 dX4_add_11 ?_
  refine lv_aload_n hx hb dX4_add_14 rfl (lv_at hl 0 rfl) ?_
  refine g_68_5 C hU hG (h1_68 hG) fl_X4_43 dX4_add_15 (fun x_6 e_7 le_7 ue_7 => ?_)
  have te_7 := congrArg Int32.toInt e_7
  refine lv_iload_n hx hb dX4_add_18 rfl (lv_at hl 2 rfl) ?_
  refine s_70 C hU hS (h1_70 hG) (x := x_6) (by omega) (by omega) dX4_add_19 (fun iv_8 H locs ei_9 hU hS => ?_)
  have hG : GI al iv_8 rv := by rw [ei_9]; exact hG.puti (show _ ∧ _ from ⟨show (0 : Int) ≤ _ by omega, show _ ≤ (9999 : Int) by omega⟩) (nsA (by decide) _)
  have hF1 : FR ([69, 70, 71, 72, 73], [(68, 5)]) iv iv_8 := by rw [ei_9]; exact hF1.put (Or.inl (by decide))
  have kf_10 := congrArg Int32.toInt (show iv_8 68 0 5 = iv_3 68 0 5 by rw [ei_9]; exact up3_ne (fun z => absurd z.1 (by decide)))
  refine lv_aload_n hx hb dX4_add_20 rfl (lv_at hl 0 rfl) ?_
  refine g_68_2 C hU hG (h1_68 hG) fl_X4_18 dX4_add_21 ?_
  refine lv_aload_n hx hb dX4_add_24 rfl (lv_at hl 0 rfl) ?_
  refine g_68_5 C hU hG (h1_68 hG) fl_X4_43 dX4_add_25 (fun x_11 e_12 le_12 ue_12 => ?_)
  have te_12 := congrArg Int32.toInt e_12
  refine lv_iload_n hx hb dX4_add_28 rfl (lv_at hl 3 rfl) ?_
  refine s_71 C hU hS (h1_71 hG) (x := x_11) (by omega) (by omega) dX4_add_29 (fun iv_13 H locs ei_14 hU hS => ?_)
  have hG : GI al iv_13 rv := by rw [ei_14]; exact hG.puti (show _ ∧ _ from ⟨show (0 : Int) ≤ _ by omega, show _ ≤ (9999 : Int) by omega⟩) (nsA (by decide) _)
  have hF1 : FR ([69, 70, 71, 72, 73], [(68, 5)]) iv iv_13 := by rw [ei_14]; exact hF1.put (Or.inl (by decide))
  have kf_15 := congrArg Int32.toInt (show iv_13 68 0 5 = iv_8 68 0 5 by rw [ei_14]; exact up3_ne (fun z => absurd z.1 (by decide)))
  refine lv_aload_n hx hb dX4_add_30 rfl (lv_at hl 0 rfl) ?_
  refine g_68_3 C hU hG (h1_68 hG) fl_X4_21 dX4_add_31 ?_
  refine lv_aload_n hx hb dX4_add_34 rfl (lv_at hl 0 rfl) ?_
  refine g_68_5 C hU hG (h1_68 hG) fl_X4_43 dX4_add_35 (fun x_16 e_17 le_17 ue_17 => ?_)
  have te_17 := congrArg Int32.toInt e_17
  refine lv_iload hx hb dX4_add_38 (lv_at hl 4 rfl) ?_
  refine s_72 C hU hS (h1_72 hG) (x := x_16) (by omega) (by omega) dX4_add_40 (fun iv_18 H locs ei_19 hU hS => ?_)
  have hG : GI al iv_18 rv := by rw [ei_19]; exact hG.puti (show _ ∧ _ from ⟨show (0 : Int) ≤ _ by omega, show _ ≤ (9999 : Int) by omega⟩) (nsA (by decide) _)
  have hF1 : FR ([69, 70, 71, 72, 73], [(68, 5)]) iv iv_18 := by rw [ei_19]; exact hF1.put (Or.inl (by decide))
  have kf_20 := congrArg Int32.toInt (show iv_18 68 0 5 = iv_13 68 0 5 by rw [ei_19]; exact up3_ne (fun z => absurd z.1 (by decide)))
  refine lv_aload_n hx hb dX4_add_41 rfl (lv_at hl 0 rfl) ?_
  refine g_68_4 C hU hG (h1_68 hG) fl_X4_24 dX4_add_42 ?_
  refine lv_aload_n hx hb dX4_add_45 rfl (lv_at hl 0 rfl) ?_
  refine g_68_5 C hU hG (h1_68 hG) fl_X4_43 dX4_add_46 (fun x_21 e_22 le_22 ue_22 => ?_)
  have te_22 := congrArg Int32.toInt e_22
  refine lv_iload hx hb dX4_add_49 (lv_at hl 5 rfl) ?_
  refine s_73 C hU hS (h1_73 hG) (x := x_21) (by omega) (by omega) dX4_add_51 (fun iv_23 H locs ei_24 hU hS => ?_)
  have hG : GI al iv_23 rv := by rw [ei_24]; exact hG.puti (show _ ∧ _ from ⟨show (0 : Int) ≤ _ by omega, show _ ≤ (9999 : Int) by omega⟩) (nsA (by decide) _)
  have hF1 : FR ([69, 70, 71, 72, 73], [(68, 5)]) iv iv_23 := by rw [ei_24]; exact hF1.put (Or.inl (by decide))
  have kf_25 := congrArg Int32.toInt (show iv_23 68 0 5 = iv_18 68 0 5 by rw [ei_24]; exact up3_ne (fun z => absurd z.1 (by decide)))
  refine lv_aload_n hx hb dX4_add_52 rfl (lv_at hl 0 rfl) ?_
  refine lv_dup hx hb dX4_add_53 rfl ?_
  refine g_68_5 C hU hG (h1_68 hG) fl_X4_43 dX4_add_54 (fun x_26 e_27 le_27 ue_27 => ?_)
  have te_27 := congrArg Int32.toInt e_27
  refine lv_iconst (v := 1) hx hb dX4_add_57 (by decide) ?_
  refine lv_iadd hx hb dX4_add_58 ?_
  refine lv_topi (fun x_28 e_29 => ?_)
  have te_29 : x_28.toInt = (x_26 : Int32).toInt + (1 : Int32).toInt := by rw [e_29]; exact fb_addI (by omega) (by omega)
  refine p_68_5 C hU hS (h1_68 hG) fl_X4_43 dX4_add_59 (fun iv_30 H locs ei_31 hU hS => ?_)
  have hG : GI al iv_30 rv := by rw [ei_31]; exact hG.puti (show _ ∧ _ from ⟨show (0 : Int) ≤ _ by omega, show _ ≤ (30 : Int) by omega⟩) (nsF (by decide))
  have hF1 : FR ([69, 70, 71, 72, 73], [(68, 5)]) iv iv_30 := by rw [ei_31]; exact hF1.put (by decide)
  refine lv_aload_n hx hb dX4_add_62 rfl (lv_at hl 0 rfl) ?_
  refine g_68_5 C hU hG (h1_68 hG) fl_X4_43 dX4_add_63 (fun x_32 e_33 le_33 ue_33 => ?_)
  have te_33 := congrArg Int32.toInt e_33
  refine lv_iconst (v := 1) hx hb dX4_add_66 (by decide) ?_
  refine lv_isub hx hb dX4_add_67 ?_
  refine lv_topi (fun x_34 e_35 => ?_)
  have te_35 : x_34.toInt = (x_32 : Int32).toInt - (1 : Int32).toInt := by rw [e_35]; exact fb_subI (by omega) (by omega)
  exact hret (⟨hG, hF1, hF2, trivial⟩) hU hS dX4_add_68
set_option maxHeartbeats 4000000 in
set_option maxRecDepth 100000 in
theorem c_X4_addExcuse {l : Launch} {D : va_G} {cA : FieldType → ClassId} {sz : Nat} {al : Al} {iv : Iv} {rv : Rv} (hG : GI al iv rv) (a : Int32) (cs : Int32) (d : Int32) (told : Int32) (on : Int32) (pre0 : (iv 68 0 11).toInt < 40) (pre1 : 0 ≤ on.toInt ∧ on.toInt ≤ 1) : Met l yX4_addExcuse (wd yX4_addExcuse cX4_addExcuse 6 (some .int)) (rm 0) (PcW D cA sz al iv rv [.ref (al.2 68 0), .int a, .int cs, .int d, .int told, .int on]) (QI D cA sz al (fI al ([74, 75, 76, 77, 78], [(68, 11)]) iv rv (fun r iv' rv' => True))) 0 0 (Aq sz) := by
  refine mk_i (by decide) (Nat.le_of_ble_eq_true rfl) rfl ?_
  intro p e s m args below meth c ls Q H locs C hU hS hl hret
  have hx := C.1.1
  have hb := C.1.2.1
  have hl : lv_has ls 6 [(0, .ref (al.2 68 0)), (1, .int a), (2, .int cs), (3, .int d), (4, .int told), (5, .int on)] := hl
  have hG0 := hG
  have hF1 : FR ([74, 75, 76, 77, 78], [(68, 11)]) iv iv := FR.rf
  have hF2 : FR ([74, 75, 76, 77, 78], [(68, 11)]) rv rv := FR.rf
  have k1 : (1 : Int32).toInt = 1 := by decide
  refine lv_aload_n hx hb dX4_addExcuse_0 rfl (lv_at hl 0 rfl) ?_
  refine g_68_6 C hU hG (h1_68 hG) fl_X4_27 dX4_addExcuse_1 ?_
  refine lv_aload_n hx hb dX4_addExcuse_4 rfl (lv_at hl 0 rfl) ?_
  refine g_68_11 C hU hG (h1_68 hG) fl_X4_47 dX4_addExcuse_5 (fun x_1 e_2 le_2 ue_2 => ?_)
  have te_2 := congrArg Int32.toInt e_2
  refine lv_iload_n hx hb dX4_addExcuse_8 rfl (lv_at hl 1 rfl) ?_
  refine s_74 C hU hS (h1_74 hG) (x := x_1) (by omega) (by omega) dX4_addExcuse_9 (fun iv_3 H locs ei_4 hU hS => ?_)
  have hG : GI al iv_3 rv := by rw [ei_4]; exact hG.puti (show _ ∧ _ from ⟨(fb_rng _).1, Int.le_of_lt_add_one (fb_rng _).2⟩) (nsA (by decide) _)
  have hF1 : FR ([74, 75, 76, 77, 78], [(68, 11)]) iv iv_3 := by rw [ei_4]; exact hF1.put (Or.inl (by decide))
  have kf_5 := congrArg Int32.toInt (show iv_3 68 0 11 = iv 68 0 11 by rw [ei_4]; exact up3_ne (fun z => absurd z.1 (by decide)))
  refine lv_aload_n hx hb dX4_addExcuse_10 rfl (lv_at hl 0 rfl) ?_
  refine g_68_7 C hU hG (h1_68 hG) fl_X4_30 dX4_addExcuse_11 ?_
  refine lv_aload_n hx hb dX4_addExcuse_14 rfl (lv_at hl 0 rfl) ?_
  refine g_68_11 C hU hG (h1_68 hG) fl_X4_47 dX4_addExcuse_15 (fun x_6 e_7 le_7 ue_7 => ?_)
  have te_7 := congrArg Int32.toInt e_7
  refine lv_iload_n hx hb dX4_addExcuse_18 rfl (lv_at hl 2 rfl) ?_
  refine s_75 C hU hS (h1_75 hG) (x := x_6) (by omega) (by omega) dX4_addExcuse_19 (fun iv_8 H locs ei_9 hU hS => ?_)
  have hG : GI al iv_8 rv := by rw [ei_9]; exact hG.puti (show _ ∧ _ from ⟨(fb_rng _).1, Int.le_of_lt_add_one (fb_rng _).2⟩) (nsA (by decide) _)
  have hF1 : FR ([74, 75, 76, 77, 78], [(68, 11)]) iv iv_8 := by rw [ei_9]; exact hF1.put (Or.inl (by decide))
  have kf_10 := congrArg Int32.toInt (show iv_8 68 0 11 = iv_3 68 0 11 by rw [ei_9]; exact up3_ne (fun z => absurd z.1 (by decide)))
  refine lv_aload_n hx hb dX4_addExcuse_20 rfl (lv_at hl 0 rfl) ?_
  refine g_68_8 C hU hG (h1_68 hG) fl_X4_33 dX4_addExcuse_21 ?_
  refine lv_aload_n hx hb dX4_addExcuse_24 rfl (lv_at hl 0 rfl) ?_
  refine g_68_11 C hU hG (h1_68 hG) fl_X4_47 dX4_addExcuse_25 (fun x_11 e_12 le_12 ue_12 => ?_)
  have te_12 := congrArg Int32.toInt e_12
  refine lv_iload_n hx hb dX4_addExcuse_28 rfl (lv_at hl 3 rfl) ?_
  refine s_76 C hU hS (h1_76 hG) (x := x_11) (by omega) (by omega) dX4_addExcuse_29 (fun iv_13 H locs ei_14 hU hS => ?_)
  have hG : GI al iv_13 rv := by rw [ei_14]; exact hG.puti (show _ ∧ _ from ⟨(fb_rng _).1, Int.le_of_lt_add_one (fb_rng _).2⟩) (nsA (by decide) _)
  have hF1 : FR ([74, 75, 76, 77, 78], [(68, 11)]) iv iv_13 := by rw [ei_14]; exact hF1.put (Or.inl (by decide))
  have kf_15 := congrArg Int32.toInt (show iv_13 68 0 11 = iv_8 68 0 11 by rw [ei_14]; exact up3_ne (fun z => absurd z.1 (by decide)))
  refine lv_aload_n hx hb dX4_addExcuse_30 rfl (lv_at hl 0 rfl) ?_
  refine g_68_9 C hU hG (h1_68 hG) fl_X4_36 dX4_addExcuse_31 ?_
  refine lv_aload_n hx hb dX4_addExcuse_34 rfl (lv_at hl 0 rfl) ?_
  refine g_68_11 C hU hG (h1_68 hG) fl_X4_47 dX4_addExcuse_35 (fun x_16 e_17 le_17 ue_17 => ?_)
  have te_17 := congrArg Int32.toInt e_17
  refine lv_iload hx hb dX4_addExcuse_38 (lv_at hl 4 rfl) ?_
  refine s_77 C hU hS (h1_77 hG) (x := x_16) (by omega) (by omega) dX4_addExcuse_40 (fun iv_18 H locs ei_19 hU hS => ?_)
  have hG : GI al iv_18 rv := by rw [ei_19]; exact hG.puti (show _ ∧ _ from ⟨(fb_rng _).1, Int.le_of_lt_add_one (fb_rng _).2⟩) (nsA (by decide) _)
  have hF1 : FR ([74, 75, 76, 77, 78], [(68, 11)]) iv iv_18 := by rw [ei_19]; exact hF1.put (Or.inl (by decide))
  have kf_20 := congrArg Int32.toInt (show iv_18 68 0 11 = iv_13 68 0 11 by rw [ei_19]; exact up3_ne (fun z => absurd z.1 (by decide)))
  refine lv_aload_n hx hb dX4_addExcuse_41 rfl (lv_at hl 0 rfl) ?_
  refine g_68_10 C hU hG (h1_68 hG) fl_X4_39 dX4_addExcuse_42 ?_
  refine lv_aload_n hx hb dX4_addExcuse_45 rfl (lv_at hl 0 rfl) ?_
  refine g_68_11 C hU hG (h1_68 hG) fl_X4_47 dX4_addExcuse_46 (fun x_21 e_22 le_22 ue_22 => ?_)
  have te_22 := congrArg Int32.toInt e_22
  refine lv_iload hx hb dX4_addExcuse_49 (lv_at hl 5 rfl) ?_
  refine s_78 C hU hS (h1_78 hG) (x := x_21) (by omega) (by omega) (by omega) (by omega) dX4_addExcuse_51 (fun iv_23 H locs ei_24 hU hS => ?_)
  have hG : GI al iv_23 rv := by rw [ei_24]; exact hG.puti (show _ ∧ _ from ⟨show (0 : Int) ≤ _ by omega, show _ ≤ (1 : Int) by omega⟩) (nsA (by decide) _)
  have hF1 : FR ([74, 75, 76, 77, 78], [(68, 11)]) iv iv_23 := by rw [ei_24]; exact hF1.put (Or.inl (by decide))
  have kf_25 := congrArg Int32.toInt (show iv_23 68 0 11 = iv_18 68 0 11 by rw [ei_24]; exact up3_ne (fun z => absurd z.1 (by decide)))
  refine lv_aload_n hx hb dX4_addExcuse_52 rfl (lv_at hl 0 rfl) ?_
  refine lv_dup hx hb dX4_addExcuse_53 rfl ?_
  refine g_68_11 C hU hG (h1_68 hG) fl_X4_47 dX4_addExcuse_54 (fun x_26 e_27 le_27 ue_27 => ?_)
  have te_27 := congrArg Int32.toInt e_27
  refine lv_iconst (v := 1) hx hb dX4_addExcuse_57 (by decide) ?_
  refine lv_iadd hx hb dX4_addExcuse_58 ?_
  refine lv_topi (fun x_28 e_29 => ?_)
  have te_29 : x_28.toInt = (x_26 : Int32).toInt + (1 : Int32).toInt := by rw [e_29]; exact fb_addI (by omega) (by omega)
  refine p_68_11 C hU hS (h1_68 hG) fl_X4_47 dX4_addExcuse_59 (fun iv_30 H locs ei_31 hU hS => ?_)
  have hG : GI al iv_30 rv := by rw [ei_31]; exact hG.puti (show _ ∧ _ from ⟨show (0 : Int) ≤ _ by omega, show _ ≤ (40 : Int) by omega⟩) (nsF (by decide))
  have hF1 : FR ([74, 75, 76, 77, 78], [(68, 11)]) iv iv_30 := by rw [ei_31]; exact hF1.put (by decide)
  refine lv_aload_n hx hb dX4_addExcuse_62 rfl (lv_at hl 0 rfl) ?_
  refine g_68_11 C hU hG (h1_68 hG) fl_X4_47 dX4_addExcuse_63 (fun x_32 e_33 le_33 ue_33 => ?_)
  have te_33 := congrArg Int32.toInt e_33
  exact hret (⟨hG, hF1, hF2, trivial⟩) hU hS dX4_addExcuse_66
set_option maxHeartbeats 4000000 in
set_option maxRecDepth 100000 in
theorem c_X4_isInForce {l : Launch} {D : va_G} {cA : FieldType → ClassId} {sz : Nat} {al : Al} {iv : Iv} {rv : Rv} (hG : GI al iv rv) (row : Int32) (ld : Int32) (d : Int32) (pre0 : 0 ≤ row.toInt ∧ row.toInt < 30) : Met l yX4_isInForce (wd yX4_isInForce cX4_isInForce 4 (some .boolean)) (rm 0) (PcW D cA sz al iv rv [.ref (al.2 68 0), .int row, .int ld, .int d]) (QI D cA sz al (pI iv rv (fun r => (0 ≤ r.toInt ∧ r.toInt ≤ 1) ∧ (True)))) 0 0 (Aq sz) := by
  refine mk_z (by decide) (Nat.le_of_ble_eq_true rfl) rfl ?_
  intro p e s m args below meth c ls Q H locs C hU hS hl hret
  have hx := C.1.1
  have hb := C.1.2.1
  have hl : lv_has ls 4 [(0, .ref (al.2 68 0)), (1, .int row), (2, .int ld), (3, .int d)] := hl
  have hG0 := hG
  have k0 : (0 : Int32).toInt = 0 := by decide
  have k1 : (1 : Int32).toInt = 1 := by decide
  refine lv_aload_n hx hb dX4_isInForce_0 rfl (lv_at hl 0 rfl) ?_
  refine g_68_0 C hU hG (h1_68 hG) fl_X4_11 dX4_isInForce_1 ?_
  refine lv_iload_n hx hb dX4_isInForce_4 rfl (lv_at hl 1 rfl) ?_
  refine a_69 C hU hG (h1_69 hG) (x := row) (by omega) (by omega) dX4_isInForce_5 (fun x_1 e_2 le_2 ue_2 => ?_)
  have te_2 := congrArg Int32.toInt e_2
  refine lv_iload_n hx hb dX4_isInForce_6 rfl (lv_at hl 2 rfl) ?_
  refine b_icmp_ne (tgt := 24) hx hb dX4_isInForce_7 (by decide) (fun c_3 => ?_) (fun c_3 => ?_)
  ·
    refine lv_iconst (v := 0) hx hb dX4_isInForce_24 (by decide) ?_
    exact hret (by omega) (by omega) (⟨rfl, rfl, ⟨⟨by omega, by omega⟩, trivial⟩⟩) hU hS dX4_isInForce_25
  ·
    refine lv_aload_n hx hb dX4_isInForce_10 rfl (lv_at hl 0 rfl) ?_
    refine g_68_1 C hU hG (h1_68 hG) fl_X4_15 dX4_isInForce_11 ?_
    refine lv_iload_n hx hb dX4_isInForce_14 rfl (lv_at hl 1 rfl) ?_
    refine a_70 C hU hG (h1_70 hG) (x := row) (by omega) (by omega) dX4_isInForce_15 (fun x_4 e_5 le_5 ue_5 => ?_)
    have te_5 := congrArg Int32.toInt e_5
    refine lv_iload_n hx hb dX4_isInForce_16 rfl (lv_at hl 3 rfl) ?_
    refine b_icmp_gt (tgt := 24) hx hb dX4_isInForce_17 (by decide) (fun c_6 => ?_) (fun c_6 => ?_)
    ·
      refine lv_iconst (v := 0) hx hb dX4_isInForce_24 (by decide) ?_
      exact hret (by omega) (by omega) (⟨rfl, rfl, ⟨⟨by omega, by omega⟩, trivial⟩⟩) hU hS dX4_isInForce_25
    ·
      refine lv_iconst (v := 1) hx hb dX4_isInForce_20 (by decide) ?_
      refine lv_goto (tgt := 25) hx hb dX4_isInForce_21 (by decide) ?_
      exact hret (by omega) (by omega) (⟨rfl, rfl, ⟨⟨by omega, by omega⟩, trivial⟩⟩) hU hS dX4_isInForce_25
set_option maxHeartbeats 4000000 in
set_option maxRecDepth 100000 in
theorem c_X4_hasRows {l : Launch} {D : va_G} {cA : FieldType → ClassId} {sz : Nat} {al : Al} {iv : Iv} {rv : Rv} (hG : GI al iv rv) (ld : Int32) (d : Int32) : Met l yX4_hasRows (wd yX4_hasRows cX4_hasRows 4 (some .boolean)) (rm 1) (PcW D cA sz al iv rv [.ref (al.2 68 0), .int ld, .int d]) (QI D cA sz al (pI iv rv (fun r => (0 ≤ r.toInt ∧ r.toInt ≤ 1) ∧ (True)))) 0 0 (Aq sz) := by
  refine mk_z (by decide) (Nat.le_of_ble_eq_true rfl) rfl ?_
  intro p e s m args below meth c ls Q H locs C hU hS hl hret
  have hx := C.1.1
  have hb := C.1.2.1
  have hl : lv_has ls 4 [(0, .ref (al.2 68 0)), (1, .int ld), (2, .int d)] := hl
  have hG0 := hG
  have k0 : (0 : Int32).toInt = 0 := by decide
  have k1 : (1 : Int32).toInt = 1 := by decide
  refine lv_iconst (v := 0) hx hb dX4_hasRows_0 (by decide) ?_
  refine lv_istore_n (lv' := [(3, .int 0), (0, .ref (al.2 68 0)), (1, .int ld), (2, .int d)]) hx hb dX4_hasRows_1 rfl hl (by decide) rfl (fun ls hl => ?_)
  have J_2 : ∀ (n_2 : Nat) (l3_1 : Int32) (H : Heap) (locs : List Loc) (ls : Array Slot), lv_has ls 4 [(0, .ref (al.2 68 0)), (1, .int ld), (2, .int d), (3, .int l3_1)] → UW D cA sz al iv rv H → va_S (Aq sz) s.heap H locs → (0 ≤ l3_1.toInt ∧ l3_1.toInt ≤ 30) → (30 - l3_1.toInt).toNat < n_2 → W p l e (rm 1) s m args below meth c H locs 0 0 Q (F0 m 2 ls []) := by
    intro n_2
    induction n_2 with
    | zero =>
      intro l3_1 H locs ls hl hU hS i2_0 hm_2
      exact absurd hm_2 (Nat.not_lt_zero _)
    | succ n_2 ih_2 =>
      intro l3_1 H locs ls hl hU hS i2_0 hm_2
      refine lv_iload_n hx hb dX4_hasRows_2 rfl (lv_at hl 3 rfl) ?_
      refine lv_aload_n hx hb dX4_hasRows_3 rfl (lv_at hl 0 rfl) ?_
      refine g_68_5 C hU hG (h1_68 hG) fl_X4_43 dX4_hasRows_4 (fun x_2 e_3 le_3 ue_3 => ?_)
      have te_3 := congrArg Int32.toInt e_3
      refine b_icmp_ge (tgt := 28) hx hb dX4_hasRows_7 (by decide) (fun c_4 => ?_) (fun c_4 => ?_)
      ·
        refine lv_iconst (v := 0) hx hb dX4_hasRows_28 (by decide) ?_
        exact hret (by omega) (by omega) (⟨rfl, rfl, ⟨⟨by omega, by omega⟩, trivial⟩⟩) hU hS dX4_hasRows_29
      ·
        refine lv_aload_n hx hb dX4_hasRows_10 rfl (lv_at hl 0 rfl) ?_
        refine lv_iload_n hx hb dX4_hasRows_11 rfl (lv_at hl 3 rfl) ?_
        refine lv_iload_n hx hb dX4_hasRows_12 rfl (lv_at hl 1 rfl) ?_
        refine lv_iload_n hx hb dX4_hasRows_13 rfl (lv_at hl 2 rfl) ?_
        refine q_pi (q_runV (t := 68) (i := 0) (As := [.int l3_1, .int ld, .int d]) (rest := []) C hU (c_X4_isInForce hG l3_1 ld d (by omega)) vm_X4_isInForce ml_X4_77 k_68.1 (hc := rfl) rfl (h1_68 hG) hl.1 rfl rfl (Nat.le_of_ble_eq_true rfl) dX4_hasRows_14 rfl rfl ⟨Nat.le_of_ble_eq_true rfl, Nat.le_of_ble_eq_true rfl⟩ ⟨Nat.le_refl _, Nat.le_refl _⟩) hS (fun x_6 H locs hp_5 hU hS => ?_)
        refine b_if_eq (tgt := 22) hx hb dX4_hasRows_17 (by decide) (fun c_7 => ?_) (fun c_7 => ?_)
        ·
          obtain ⟨x_8, e_9⟩ : ∃ y : Int32, y = l3_1 + 1 := ⟨_, rfl⟩
          have te_9 : x_8.toInt = (l3_1 : Int32).toInt + (1 : Int32).toInt := by rw [e_9]; exact fb_addI (by omega) (by omega)
          refine lv_iinc (v := x_8) (lv' := [(3, .int x_8), (0, .ref (al.2 68 0)), (1, .int ld), (2, .int d)]) hx hb dX4_hasRows_22 hl (k := 3) rfl (by rw [e_9]; rfl) (by decide) rfl (fun ls hl => ?_)
          refine lv_goto (tgt := 2) hx hb dX4_hasRows_25 (by decide) ?_
          exact ih_2 x_8 _ _ _ (lv_sub hl [1, 2, 3, 0] rfl) hU hS (by omega) (by omega)
        ·
          refine lv_iconst (v := 1) hx hb dX4_hasRows_20 (by decide) ?_
          exact hret (by omega) (by omega) (⟨rfl, rfl, ⟨⟨by omega, by omega⟩, trivial⟩⟩) hU hS dX4_hasRows_21
  exact J_2 _ 0 _ _ _ (lv_sub hl [1, 2, 3, 0] rfl) hU hS (by omega) (Nat.lt_succ_self _)
set_option maxHeartbeats 4000000 in
set_option maxRecDepth 100000 in
theorem c_X4_landFor {l : Launch} {D : va_G} {cA : FieldType → ClassId} {sz : Nat} {al : Al} {iv : Iv} {rv : Rv} (hG : GI al iv rv) (ti : Nat) (hti : ti < al.1 65) (d : Int32) : Met l yX4_landFor (wd yX4_landFor cX4_landFor 5 (some .int)) (rm 2) (PcW D cA sz al iv rv [.ref (al.2 68 0), .ref (al.2 65 ti), .int d]) (QI D cA sz al (pI iv rv (fun r => (-9 ≤ r.toInt ∧ r.toInt ≤ 3) ∧ (r.toInt = -9 ∨ 0 ≤ r.toInt)))) 0 0 (Aq sz) := by
  refine mk_i (by decide) (Nat.le_of_ble_eq_true rfl) rfl ?_
  intro p e s m args below meth c ls Q H locs C hU hS hl hret
  have hx := C.1.1
  have hb := C.1.2.1
  have hl : lv_has ls 5 [(0, .ref (al.2 68 0)), (1, .ref (al.2 65 ti)), (2, .int d)] := hl
  have hG0 := hG
  have km9 : ((-9) : Int32).toInt = -9 := by decide
  refine lv_aload_n hx hb dX4_landFor_0 rfl (lv_at hl 1 rfl) ?_
  refine g_65_1 C hU hG hti fl_X4_50 dX4_landFor_1 (fun j_1 ej_2 hb_3 => ?_)
  refine g_62_1 C hU hG hb_3 fl_X4_56 dX4_landFor_4 (fun j_4 ej_5 hb_6 => ?_)
  refine g_56_1 C hU hG hb_6 fl_X4_62 dX4_landFor_7 (fun x_7 e_8 le_8 ue_8 => ?_)
  have te_8 := congrArg Int32.toInt e_8
  refine lv_istore_n (lv' := [(3, .int x_7), (0, .ref (al.2 68 0)), (1, .ref (al.2 65 ti)), (2, .int d)]) hx hb dX4_landFor_10 rfl hl (by decide) rfl (fun ls hl => ?_)
  refine lv_aload_n hx hb dX4_landFor_11 rfl (lv_at hl 1 rfl) ?_
  refine lv_iload_n hx hb dX4_landFor_12 rfl (lv_at hl 0 rfl) ?_
  refine lv_iload_n hx hb dX4_landFor_13 rfl (lv_at hl 3 rfl) ?_
  refine q_pi (q_runV (t := 68) (i := 0) (As := [.int x_7, .int d]) (rest := []) C hU (c_X4_hasRows hG x_7 d ) vm_X4_hasRows ml_X4_67 k_68.1 (hc := rfl) rfl (h1_68 hG) hl.1 rfl rfl (Nat.le_of_ble_eq_true rfl) dX4_landFor_14 rfl rfl ⟨Nat.le_of_ble_eq_true rfl, Nat.le_of_ble_eq_true rfl⟩ ⟨Nat.le_refl _, Nat.le_refl _⟩) hS (fun x_10 H locs hp_9 hU hS => ?_)
  refine b_if_eq (tgt := 22) hx hb dX4_landFor_17 (by decide) (fun c_11 => ?_) (fun c_11 => ?_)
  ·
    refine lv_aload_n hx hb dX4_landFor_22 rfl (lv_at hl 2 rfl) ?_
    refine g_65_2 C hU hG hti fl_X4_71 dX4_landFor_23 (fun j_12 ej_13 hb_14 => ?_)
    refine g_62_2 C hU hG hb_14 fl_X4_74 dX4_landFor_26 (fun j_15 ej_16 hb_17 => ?_)
    refine g_56_1 C hU hG hb_17 fl_X4_62 dX4_landFor_29 (fun x_18 e_19 le_19 ue_19 => ?_)
    have te_19 := congrArg Int32.toInt e_19
    refine lv_istore (lv' := [(4, .int x_18), (3, .int x_7), (0, .ref (al.2 68 0)), (1, .ref (al.2 65 ti)), (2, .int d)]) hx hb dX4_landFor_32 hl (by decide) rfl (fun ls hl => ?_)
    refine lv_aload_n hx hb dX4_landFor_34 rfl (lv_at hl 2 rfl) ?_
    refine lv_iload hx hb dX4_landFor_35 (lv_at hl 0 rfl) ?_
    refine lv_iload_n hx hb dX4_landFor_37 rfl (lv_at hl 4 rfl) ?_
    refine q_pi (q_runV (t := 68) (i := 0) (As := [.int x_18, .int d]) (rest := []) C hU (c_X4_hasRows hG x_18 d ) vm_X4_hasRows ml_X4_67 k_68.1 (hc := rfl) rfl (h1_68 hG) hl.1 rfl rfl (Nat.le_of_ble_eq_true rfl) dX4_landFor_38 rfl rfl ⟨Nat.le_of_ble_eq_true rfl, Nat.le_of_ble_eq_true rfl⟩ ⟨Nat.le_refl _, Nat.le_refl _⟩) hS (fun x_21 H locs hp_20 hU hS => ?_)
    refine b_if_eq (tgt := 49) hx hb dX4_landFor_41 (by decide) (fun c_22 => ?_) (fun c_22 => ?_)
    ·
      refine lv_bipush (v := (-9)) hx hb dX4_landFor_49 (by decide) ?_
      exact hret (⟨rfl, rfl, ⟨⟨by omega, by omega⟩, by omega⟩⟩) hU hS dX4_landFor_51
    ·
      refine lv_iload hx hb dX4_landFor_44 (lv_at hl 0 rfl) ?_
      refine lv_goto (tgt := 51) hx hb dX4_landFor_46 (by decide) ?_
      exact hret (⟨rfl, rfl, ⟨⟨by omega, by omega⟩, by omega⟩⟩) hU hS dX4_landFor_51
  ·
    refine lv_iload_n hx hb dX4_landFor_20 rfl (lv_at hl 0 rfl) ?_
    exact hret (⟨rfl, rfl, ⟨⟨by omega, by omega⟩, by omega⟩⟩) hU hS dX4_landFor_21
set_option maxHeartbeats 4000000 in
set_option maxRecDepth 100000 in
theorem c_X4_greatestSum {l : Launch} {D : va_G} {cA : FieldType → ClassId} {sz : Nat} {al : Al} {iv : Iv} {rv : Rv} (hG : GI al iv rv) (ld : Int32) (d : Int32) (mm : Int32) (far : Int32) : Met l yX4_greatestSum (wd yX4_greatestSum cX4_greatestSum 8 (some .int)) (rm 1) (PcW D cA sz al iv rv [.ref (al.2 68 0), .int ld, .int d, .int mm, .int far]) (QI D cA sz al (pI iv rv (fun r => True))) 0 0 (Aq sz) := by
  refine mk_i (by decide) (Nat.le_of_ble_eq_true rfl) rfl ?_
  intro p e s m args below meth c ls Q H locs C hU hS hl hret
  have hx := C.1.1
  have hb := C.1.2.1
  have hl : lv_has ls 8 [(0, .ref (al.2 68 0)), (1, .int ld), (2, .int d), (3, .int mm), (4, .int far)] := hl
  have hG0 := hG
  have k0 : (0 : Int32).toInt = 0 := by decide
  have k1 : (1 : Int32).toInt = 1 := by decide
  refine lv_iconst (v := 0) hx hb dX4_greatestSum_0 (by decide) ?_
  refine lv_istore (lv' := [(5, .int 0), (0, .ref (al.2 68 0)), (1, .int ld), (2, .int d), (3, .int mm), (4, .int far)]) hx hb dX4_greatestSum_1 hl (by decide) rfl (fun ls hl => ?_)
  refine lv_iconst (v := 0) hx hb dX4_greatestSum_3 (by decide) ?_
  refine lv_istore (lv' := [(6, .int 0), (5, .int 0), (0, .ref (al.2 68 0)), (1, .int ld), (2, .int d), (3, .int mm), (4, .int far)]) hx hb dX4_greatestSum_4 hl (by decide) rfl (fun ls hl => ?_)
  have J_6 : ∀ (n_6 : Nat) (l5_1 : Int32) (l6_2 : Int32) (H : Heap) (locs : List Loc) (ls : Array Slot), lv_has ls 8 [(0, .ref (al.2 68 0)), (1, .int ld), (2, .int d), (3, .int mm), (4, .int far), (5, .int l5_1), (6, .int l6_2)] → UW D cA sz al iv rv H → va_S (Aq sz) s.heap H locs → (0 ≤ l6_2.toInt ∧ l6_2.toInt ≤ 30) → (30 - l6_2.toInt).toNat < n_6 → W p l e (rm 1) s m args below meth c H locs 0 0 Q (F0 m 6 ls []) := by
    intro n_6
    induction n_6 with
    | zero =>
      intro l5_1 l6_2 H locs ls hl hU hS i6_0 hm_6
      exact absurd hm_6 (Nat.not_lt_zero _)
    | succ n_6 ih_6 =>
      intro l5_1 l6_2 H locs ls hl hU hS i6_0 hm_6
      refine lv_iload hx hb dX4_greatestSum_6 (lv_at hl 6 rfl) ?_
      refine lv_aload_n hx hb dX4_greatestSum_8 rfl (lv_at hl 0 rfl) ?_
      refine g_68_5 C hU hG (h1_68 hG) fl_X4_43 dX4_greatestSum_9 (fun x_3 e_4 le_4 ue_4 => ?_)
      have te_4 := congrArg Int32.toInt e_4
      refine b_icmp_ge (tgt := 88) hx hb dX4_greatestSum_12 (by decide) (fun c_5 => ?_) (fun c_5 => ?_)
      ·
        refine lv_iload hx hb dX4_greatestSum_88 (lv_at hl 5 rfl) ?_
        exact hret (⟨rfl, rfl, trivial⟩) hU hS dX4_greatestSum_90
      ·
        refine lv_aload_n hx hb dX4_greatestSum_15 rfl (lv_at hl 0 rfl) ?_
        refine lv_iload hx hb dX4_greatestSum_16 (lv_at hl 6 rfl) ?_
        refine lv_iload_n hx hb dX4_greatestSum_18 rfl (lv_at hl 1 rfl) ?_
        refine lv_iload_n hx hb dX4_greatestSum_19 rfl (lv_at hl 2 rfl) ?_
        refine q_pi (q_runV (t := 68) (i := 0) (As := [.int l6_2, .int ld, .int d]) (rest := []) C hU (c_X4_isInForce hG l6_2 ld d (by omega)) vm_X4_isInForce ml_X4_77 k_68.1 (hc := rfl) rfl (h1_68 hG) hl.1 rfl rfl (Nat.le_of_ble_eq_true rfl) dX4_greatestSum_20 rfl rfl ⟨Nat.le_of_ble_eq_true rfl, Nat.le_of_ble_eq_true rfl⟩ ⟨Nat.le_refl _, Nat.le_refl _⟩) hS (fun x_7 H locs hp_6 hU hS => ?_)
        have J_54 : ∀ (v_8 : Int32) (ls : Array Slot), lv_has ls 8 [(0, .ref (al.2 68 0)), (1, .int ld), (2, .int d), (3, .int mm), (4, .int far), (5, .int l5_1), (6, .int l6_2)] → (0 ≤ v_8.toInt ∧ v_8.toInt ≤ 1) → W p l e (rm 1) s m args below meth c H locs 0 0 Q (F0 m 54 ls [.int v_8]) := by
          intro v_8 ls hl i54_0
          refine lv_istore (lv' := [(7, .int v_8), (0, .ref (al.2 68 0)), (1, .int ld), (2, .int d), (3, .int mm), (4, .int far), (5, .int l5_1), (6, .int l6_2)]) hx hb dX4_greatestSum_54 hl (by decide) rfl (fun ls hl => ?_)
          refine lv_iload hx hb dX4_greatestSum_56 (lv_at hl 0 rfl) ?_
          have J_82 : ∀ (l5_9 : Int32) (ls : Array Slot), lv_has ls 8 [(0, .ref (al.2 68 0)), (1, .int ld), (2, .int d), (3, .int mm), (4, .int far), (6, .int l6_2), (5, .int l5_9)] → W p l e (rm 1) s m args below meth c H locs 0 0 Q (F0 m 82 ls []) := by
            intro l5_9 ls hl
            obtain ⟨x_10, e_11⟩ : ∃ y : Int32, y = l6_2 + 1 := ⟨_, rfl⟩
            have te_11 : x_10.toInt = (l6_2 : Int32).toInt + (1 : Int32).toInt := by rw [e_11]; exact fb_addI (by omega) (by omega)
            refine lv_iinc (v := x_10) (lv' := [(6, .int x_10), (0, .ref (al.2 68 0)), (1, .int ld), (2, .int d), (3, .int mm), (4, .int far), (5, .int l5_9)]) hx hb dX4_greatestSum_82 hl (k := 5) rfl (by rw [e_11]; rfl) (by decide) rfl (fun ls hl => ?_)
            refine lv_goto (tgt := 6) hx hb dX4_greatestSum_85 (by decide) ?_
            exact ih_6 l5_9 x_10 _ _ _ (lv_sub hl [1, 2, 3, 4, 5, 6, 0] rfl) hU hS (by omega) (by omega)
          refine b_if_eq (tgt := 82) hx hb dX4_greatestSum_58 (by decide) (fun c_12 => ?_) (fun c_12 => ?_)
          ·
            exact J_82 l5_1 _ (lv_sub hl [1, 2, 3, 4, 5, 7, 6] rfl)
          ·
            refine lv_aload_n hx hb dX4_greatestSum_61 rfl (lv_at hl 1 rfl) ?_
            refine g_68_4 C hU hG (h1_68 hG) fl_X4_24 dX4_greatestSum_62 ?_
            refine lv_iload hx hb dX4_greatestSum_65 (lv_at hl 7 rfl) ?_
            refine a_73 C hU hG (h1_73 hG) (x := l6_2) (by omega) (by omega) dX4_greatestSum_67 (fun x_13 e_14 le_14 ue_14 => ?_)
            have te_14 := congrArg Int32.toInt e_14
            refine lv_iload hx hb dX4_greatestSum_68 (lv_at hl 6 rfl) ?_
            refine b_icmp_le (tgt := 82) hx hb dX4_greatestSum_70 (by decide) (fun c_15 => ?_) (fun c_15 => ?_)
            ·
              exact J_82 l5_1 _ (lv_sub hl [1, 2, 3, 4, 5, 7, 6] rfl)
            ·
              refine lv_aload_n hx hb dX4_greatestSum_73 rfl (lv_at hl 1 rfl) ?_
              refine g_68_4 C hU hG (h1_68 hG) fl_X4_24 dX4_greatestSum_74 ?_
              refine lv_iload hx hb dX4_greatestSum_77 (lv_at hl 7 rfl) ?_
              refine a_73 C hU hG (h1_73 hG) (x := l6_2) (by omega) (by omega) dX4_greatestSum_79 (fun x_16 e_17 le_17 ue_17 => ?_)
              have te_17 := congrArg Int32.toInt e_17
              refine lv_istore (lv' := [(5, .int x_16), (7, .int v_8), (0, .ref (al.2 68 0)), (1, .int ld), (2, .int d), (3, .int mm), (4, .int far), (6, .int l6_2)]) hx hb dX4_greatestSum_80 hl (by decide) rfl (fun ls hl => ?_)
              exact J_82 x_16 _ (lv_sub hl [2, 3, 4, 5, 6, 7, 0] rfl)
        have J_53 : ∀ (ls : Array Slot), lv_has ls 8 [(0, .ref (al.2 68 0)), (1, .int ld), (2, .int d), (3, .int mm), (4, .int far), (5, .int l5_1), (6, .int l6_2)] → W p l e (rm 1) s m args below meth c H locs 0 0 Q (F0 m 53 ls []) := by
          intro ls hl
          refine lv_iconst (v := 0) hx hb dX4_greatestSum_53 (by decide) ?_
          exact J_54 0 _ (lv_sub hl [0, 1, 2, 3, 4, 5, 6] rfl) (by omega)
        refine b_if_eq (tgt := 53) hx hb dX4_greatestSum_23 (by decide) (fun c_18 => ?_) (fun c_18 => ?_)
        ·
          exact J_53 _ (lv_sub hl [0, 1, 2, 3, 4, 5, 6] rfl)
        ·
          refine lv_aload_n hx hb dX4_greatestSum_26 rfl (lv_at hl 0 rfl) ?_
          refine g_68_2 C hU hG (h1_68 hG) fl_X4_18 dX4_greatestSum_27 ?_
          refine lv_iload hx hb dX4_greatestSum_30 (lv_at hl 6 rfl) ?_
          refine a_71 C hU hG (h1_71 hG) (x := l6_2) (by omega) (by omega) dX4_greatestSum_32 (fun x_19 e_20 le_20 ue_20 => ?_)
          have te_20 := congrArg Int32.toInt e_20
          refine lv_iload_n hx hb dX4_greatestSum_33 rfl (lv_at hl 3 rfl) ?_
          refine b_icmp_gt (tgt := 53) hx hb dX4_greatestSum_34 (by decide) (fun c_21 => ?_) (fun c_21 => ?_)
          ·
            exact J_53 _ (lv_sub hl [0, 1, 2, 3, 4, 5, 6] rfl)
          ·
            refine lv_aload_n hx hb dX4_greatestSum_37 rfl (lv_at hl 0 rfl) ?_
            refine g_68_3 C hU hG (h1_68 hG) fl_X4_21 dX4_greatestSum_38 ?_
            refine lv_iload hx hb dX4_greatestSum_41 (lv_at hl 6 rfl) ?_
            refine a_72 C hU hG (h1_72 hG) (x := l6_2) (by omega) (by omega) dX4_greatestSum_43 (fun x_22 e_23 le_23 ue_23 => ?_)
            have te_23 := congrArg Int32.toInt e_23
            refine lv_iload hx hb dX4_greatestSum_44 (lv_at hl 4 rfl) ?_
            refine b_icmp_gt (tgt := 53) hx hb dX4_greatestSum_46 (by decide) (fun c_24 => ?_) (fun c_24 => ?_)
            ·
              exact J_53 _ (lv_sub hl [0, 1, 2, 3, 4, 5, 6] rfl)
            ·
              refine lv_iconst (v := 1) hx hb dX4_greatestSum_49 (by decide) ?_
              refine lv_goto (tgt := 54) hx hb dX4_greatestSum_50 (by decide) ?_
              exact J_54 1 _ (lv_sub hl [0, 1, 2, 3, 4, 5, 6] rfl) (by omega)
  exact J_6 _ 0 0 _ _ _ (lv_sub hl [2, 3, 4, 5, 6, 1, 0] rfl) hU hS (by omega) (Nat.lt_succ_self _)
set_option maxHeartbeats 4000000 in
set_option maxRecDepth 100000 in
theorem c_X4_isExcused {l : Launch} {D : va_G} {cA : FieldType → ClassId} {sz : Nat} {al : Al} {iv : Iv} {rv : Rv} (hG : GI al iv rv) (ld : Int32) (cs : Int32) (ld2 : Int32) : Met l yX4_isExcused (wd yX4_isExcused cX4_isExcused 7 (some .boolean)) (rm 0) (PcW D cA sz al iv rv [.ref (al.2 68 0), .int ld, .int cs, .int ld2]) (QI D cA sz al (pI iv rv (fun r => (0 ≤ r.toInt ∧ r.toInt ≤ 1) ∧ (True)))) 0 0 (Aq sz) := by
  refine mk_z (by decide) (Nat.le_of_ble_eq_true rfl) rfl ?_
  intro p e s m args below meth c ls Q H locs C hU hS hl hret
  have hx := C.1.1
  have hb := C.1.2.1
  have hl : lv_has ls 7 [(0, .ref (al.2 68 0)), (1, .int ld), (2, .int cs), (3, .int ld2)] := hl
  have hG0 := hG
  have k0 : (0 : Int32).toInt = 0 := by decide
  have k1 : (1 : Int32).toInt = 1 := by decide
  refine lv_iconst (v := 0) hx hb dX4_isExcused_0 (by decide) ?_
  refine lv_istore (lv' := [(4, .int 0), (0, .ref (al.2 68 0)), (1, .int ld), (2, .int cs), (3, .int ld2)]) hx hb dX4_isExcused_1 hl (by decide) rfl (fun ls hl => ?_)
  refine lv_iconst (v := 0) hx hb dX4_isExcused_3 (by decide) ?_
  refine lv_istore (lv' := [(5, .int 0), (4, .int 0), (0, .ref (al.2 68 0)), (1, .int ld), (2, .int cs), (3, .int ld2)]) hx hb dX4_isExcused_4 hl (by decide) rfl (fun ls hl => ?_)
  have J_6 : ∀ (n_6 : Nat) (l4_1 : Int32) (l5_2 : Int32) (ls : Array Slot), lv_has ls 7 [(0, .ref (al.2 68 0)), (1, .int ld), (2, .int cs), (3, .int ld2), (4, .int l4_1), (5, .int l5_2)] → (0 ≤ l4_1.toInt ∧ l4_1.toInt ≤ 1) → (0 ≤ l5_2.toInt ∧ l5_2.toInt ≤ 40) → (40 - l5_2.toInt).toNat < n_6 → W p l e (rm 0) s m args below meth c H locs 0 0 Q (F0 m 6 ls []) := by
    intro n_6
    induction n_6 with
    | zero =>
      intro l4_1 l5_2 ls hl i6_0 i6_1 hm_6
      exact absurd hm_6 (Nat.not_lt_zero _)
    | succ n_6 ih_6 =>
      intro l4_1 l5_2 ls hl i6_0 i6_1 hm_6
      refine lv_iload hx hb dX4_isExcused_6 (lv_at hl 5 rfl) ?_
      refine lv_aload_n hx hb dX4_isExcused_8 rfl (lv_at hl 0 rfl) ?_
      refine g_68_11 C hU hG (h1_68 hG) fl_X4_47 dX4_isExcused_9 (fun x_3 e_4 le_4 ue_4 => ?_)
      have te_4 := congrArg Int32.toInt e_4
      refine b_icmp_ge (tgt := 86) hx hb dX4_isExcused_12 (by decide) (fun c_5 => ?_) (fun c_5 => ?_)
      ·
        refine lv_iload hx hb dX4_isExcused_86 (lv_at hl 4 rfl) ?_
        exact hret (by omega) (by omega) (⟨rfl, rfl, ⟨⟨by omega, by omega⟩, trivial⟩⟩) hU hS dX4_isExcused_88
      ·
        refine lv_aload_n hx hb dX4_isExcused_15 rfl (lv_at hl 0 rfl) ?_
        refine g_68_6 C hU hG (h1_68 hG) fl_X4_27 dX4_isExcused_16 ?_
        refine lv_iload hx hb dX4_isExcused_19 (lv_at hl 5 rfl) ?_
        refine a_74 C hU hG (h1_74 hG) (x := l5_2) (by omega) (by omega) dX4_isExcused_21 (fun x_6 e_7 => ?_)
        have te_7 := congrArg Int32.toInt e_7
        refine lv_iload_n hx hb dX4_isExcused_22 rfl (lv_at hl 1 rfl) ?_
        have J_42 : ∀ (v_8 : Int32) (ls : Array Slot), lv_has ls 7 [(0, .ref (al.2 68 0)), (1, .int ld), (2, .int cs), (3, .int ld2), (4, .int l4_1), (5, .int l5_2)] → (0 ≤ v_8.toInt ∧ v_8.toInt ≤ 1) → W p l e (rm 0) s m args below meth c H locs 0 0 Q (F0 m 42 ls [.int v_8]) := by
          intro v_8 ls hl i42_0
          refine lv_istore (lv' := [(6, .int v_8), (0, .ref (al.2 68 0)), (1, .int ld), (2, .int cs), (3, .int ld2), (4, .int l4_1), (5, .int l5_2)]) hx hb dX4_isExcused_42 hl (by decide) rfl (fun ls hl => ?_)
          refine lv_iload hx hb dX4_isExcused_44 (lv_at hl 0 rfl) ?_
          have J_80 : ∀ (l4_9 : Int32) (ls : Array Slot), lv_has ls 7 [(0, .ref (al.2 68 0)), (1, .int ld), (2, .int cs), (3, .int ld2), (5, .int l5_2), (4, .int l4_9)] → (0 ≤ l4_9.toInt ∧ l4_9.toInt ≤ 1) → W p l e (rm 0) s m args below meth c H locs 0 0 Q (F0 m 80 ls []) := by
            intro l4_9 ls hl i80_0
            obtain ⟨x_10, e_11⟩ : ∃ y : Int32, y = l5_2 + 1 := ⟨_, rfl⟩
            have te_11 : x_10.toInt = (l5_2 : Int32).toInt + (1 : Int32).toInt := by rw [e_11]; exact fb_addI (by omega) (by omega)
            refine lv_iinc (v := x_10) (lv' := [(5, .int x_10), (0, .ref (al.2 68 0)), (1, .int ld), (2, .int cs), (3, .int ld2), (4, .int l4_9)]) hx hb dX4_isExcused_80 hl (k := 4) rfl (by rw [e_11]; rfl) (by decide) rfl (fun ls hl => ?_)
            refine lv_goto (tgt := 6) hx hb dX4_isExcused_83 (by decide) ?_
            exact ih_6 l4_9 x_10 _ (lv_sub hl [1, 2, 3, 4, 5, 0] rfl) (by omega) (by omega) (by omega)
          refine b_if_eq (tgt := 80) hx hb dX4_isExcused_46 (by decide) (fun c_12 => ?_) (fun c_12 => ?_)
          ·
            exact J_80 l4_1 _ (lv_sub hl [1, 2, 3, 4, 6, 5] rfl) (by omega)
          ·
            refine lv_aload_n hx hb dX4_isExcused_49 rfl (lv_at hl 1 rfl) ?_
            refine g_68_9 C hU hG (h1_68 hG) fl_X4_36 dX4_isExcused_50 ?_
            refine lv_iload hx hb dX4_isExcused_53 (lv_at hl 6 rfl) ?_
            refine a_77 C hU hG (h1_77 hG) (x := l5_2) (by omega) (by omega) dX4_isExcused_55 (fun x_13 e_14 => ?_)
            have te_14 := congrArg Int32.toInt e_14
            refine lv_iload_n hx hb dX4_isExcused_56 rfl (lv_at hl 4 rfl) ?_
            refine b_icmp_gt (tgt := 80) hx hb dX4_isExcused_57 (by decide) (fun c_15 => ?_) (fun c_15 => ?_)
            ·
              exact J_80 l4_1 _ (lv_sub hl [1, 2, 3, 4, 6, 5] rfl) (by omega)
            ·
              refine lv_aload_n hx hb dX4_isExcused_60 rfl (lv_at hl 1 rfl) ?_
              refine g_68_8 C hU hG (h1_68 hG) fl_X4_33 dX4_isExcused_61 ?_
              refine lv_iload hx hb dX4_isExcused_64 (lv_at hl 6 rfl) ?_
              refine a_76 C hU hG (h1_76 hG) (x := l5_2) (by omega) (by omega) dX4_isExcused_66 (fun x_16 e_17 => ?_)
              have te_17 := congrArg Int32.toInt e_17
              refine lv_iload_n hx hb dX4_isExcused_67 rfl (lv_at hl 4 rfl) ?_
              refine b_icmp_gt (tgt := 80) hx hb dX4_isExcused_68 (by decide) (fun c_18 => ?_) (fun c_18 => ?_)
              ·
                exact J_80 l4_1 _ (lv_sub hl [1, 2, 3, 4, 6, 5] rfl) (by omega)
              ·
                refine lv_aload_n hx hb dX4_isExcused_71 rfl (lv_at hl 1 rfl) ?_
                refine g_68_10 C hU hG (h1_68 hG) fl_X4_39 dX4_isExcused_72 ?_
                refine lv_iload hx hb dX4_isExcused_75 (lv_at hl 6 rfl) ?_
                refine a_78 C hU hG (h1_78 hG) (x := l5_2) (by omega) (by omega) dX4_isExcused_77 (fun x_19 e_20 le_20 ue_20 => ?_)
                have te_20 := congrArg Int32.toInt e_20
                refine lv_istore (lv' := [(4, .int x_19), (6, .int v_8), (0, .ref (al.2 68 0)), (1, .int ld), (2, .int cs), (3, .int ld2), (5, .int l5_2)]) hx hb dX4_isExcused_78 hl (by decide) rfl (fun ls hl => ?_)
                exact J_80 x_19 _ (lv_sub hl [2, 3, 4, 5, 6, 0] rfl) (by omega)
        have J_41 : ∀ (ls : Array Slot), lv_has ls 7 [(0, .ref (al.2 68 0)), (1, .int ld), (2, .int cs), (3, .int ld2), (4, .int l4_1), (5, .int l5_2)] → W p l e (rm 0) s m args below meth c H locs 0 0 Q (F0 m 41 ls []) := by
          intro ls hl
          refine lv_iconst (v := 0) hx hb dX4_isExcused_41 (by decide) ?_
          exact J_42 0 _ (lv_sub hl [0, 1, 2, 3, 4, 5] rfl) (by omega)
        refine b_icmp_ne (tgt := 41) hx hb dX4_isExcused_23 (by decide) (fun c_21 => ?_) (fun c_21 => ?_)
        ·
          exact J_41 _ (lv_sub hl [0, 1, 2, 3, 4, 5] rfl)
        ·
          refine lv_aload_n hx hb dX4_isExcused_26 rfl (lv_at hl 0 rfl) ?_
          refine g_68_7 C hU hG (h1_68 hG) fl_X4_30 dX4_isExcused_27 ?_
          refine lv_iload hx hb dX4_isExcused_30 (lv_at hl 5 rfl) ?_
          refine a_75 C hU hG (h1_75 hG) (x := l5_2) (by omega) (by omega) dX4_isExcused_32 (fun x_22 e_23 => ?_)
          have te_23 := congrArg Int32.toInt e_23
          refine lv_iload_n hx hb dX4_isExcused_33 rfl (lv_at hl 2 rfl) ?_
          refine b_icmp_ne (tgt := 41) hx hb dX4_isExcused_34 (by decide) (fun c_24 => ?_) (fun c_24 => ?_)
          ·
            exact J_41 _ (lv_sub hl [0, 1, 2, 3, 4, 5] rfl)
          ·
            refine lv_iconst (v := 1) hx hb dX4_isExcused_37 (by decide) ?_
            refine lv_goto (tgt := 42) hx hb dX4_isExcused_38 (by decide) ?_
            exact J_42 1 _ (lv_sub hl [0, 1, 2, 3, 4, 5] rfl) (by omega)
  exact J_6 _ 0 0 _ (lv_sub hl [2, 3, 4, 5, 1, 0] rfl) (by omega) (by omega) (Nat.lt_succ_self _)
set_option maxHeartbeats 4000000 in
set_option maxRecDepth 100000 in
theorem c_X0_addStop {l : Launch} {D : va_G} {cA : FieldType → ClassId} {sz : Nat} {al : Al} {iv : Iv} {rv : Rv} (hG : GI al iv rv) (ld : Int32) (a : Int32) (b : Int32) (pre0 : (iv 79 0 4).toInt < 20) (pre1 : 0 ≤ ld.toInt ∧ ld.toInt ≤ 4000) (pre2 : 0 ≤ a.toInt ∧ a.toInt ≤ 4000) (pre3 : 0 ≤ b.toInt ∧ b.toInt ≤ 4000) : Met l yX0_addStop (wd yX0_addStop cX0_addStop 4 (some .int)) (rm 0) (PcW D cA sz al iv rv [.ref (al.2 79 0), .int ld, .int a, .int b]) (QI D cA sz al (fI al ([81, 82, 83], [(79, 4)]) iv rv (fun r iv' rv' => True))) 0 0 (Aq sz) := by
  refine mk_i (by decide) (Nat.le_of_ble_eq_true rfl) rfl ?_
  intro p e s m args below meth c ls Q H locs C hU hS hl hret
  have hx := C.1.1
  have hb := C.1.2.1
  have hl : lv_has ls 4 [(0, .ref (al.2 79 0)), (1, .int ld), (2, .int a), (3, .int b)] := hl
  have hG0 := hG
  have hF1 : FR ([81, 82, 83], [(79, 4)]) iv iv := FR.rf
  have hF2 : FR ([81, 82, 83], [(79, 4)]) rv rv := FR.rf
  have k1 : (1 : Int32).toInt = 1 := by decide
  refine lv_aload_n hx hb dX0_addStop_0 rfl (lv_at hl 0 rfl) ?_
  refine g_79_1 C hU hG (h1_79 hG) fl_X0_21 dX0_addStop_1 ?_
  refine lv_aload_n hx hb dX0_addStop_4 rfl (lv_at hl 0 rfl) ?_
  refine g_79_4 C hU hG (h1_79 hG) fl_X0_30 dX0_addStop_5 (fun x_1 e_2 le_2 ue_2 => ?_)
  have te_2 := congrArg Int32.toInt e_2
  refine lv_iload_n hx hb dX0_addStop_8 rfl (lv_at hl 1 rfl) ?_
  refine s_81 C hU hS (h1_81 hG) (x := x_1) (by omega) (by omega) dX0_addStop_9 (fun iv_3 H locs ei_4 hU hS => ?_)
  have hG : GI al iv_3 rv := by rw [ei_4]; exact hG.puti (show _ ∧ _ from ⟨show (0 : Int) ≤ _ by omega, show _ ≤ (4000 : Int) by omega⟩) (nsA (by decide) _)
  have hF1 : FR ([81, 82, 83], [(79, 4)]) iv iv_3 := by rw [ei_4]; exact hF1.put (Or.inl (by decide))
  have kf_5 := congrArg Int32.toInt (show iv_3 79 0 4 = iv 79 0 4 by rw [ei_4]; exact up3_ne (fun z => absurd z.1 (by decide)))
  refine lv_aload_n hx hb dX0_addStop_10 rfl (lv_at hl 0 rfl) ?_
  refine g_79_2 C hU hG (h1_79 hG) fl_X0_24 dX0_addStop_11 ?_
  refine lv_aload_n hx hb dX0_addStop_14 rfl (lv_at hl 0 rfl) ?_
  refine g_79_4 C hU hG (h1_79 hG) fl_X0_30 dX0_addStop_15 (fun x_6 e_7 le_7 ue_7 => ?_)
  have te_7 := congrArg Int32.toInt e_7
  refine lv_iload_n hx hb dX0_addStop_18 rfl (lv_at hl 2 rfl) ?_
  refine s_82 C hU hS (h1_82 hG) (x := x_6) (by omega) (by omega) dX0_addStop_19 (fun iv_8 H locs ei_9 hU hS => ?_)
  have hG : GI al iv_8 rv := by rw [ei_9]; exact hG.puti (show _ ∧ _ from ⟨show (0 : Int) ≤ _ by omega, show _ ≤ (4000 : Int) by omega⟩) (nsA (by decide) _)
  have hF1 : FR ([81, 82, 83], [(79, 4)]) iv iv_8 := by rw [ei_9]; exact hF1.put (Or.inl (by decide))
  have kf_10 := congrArg Int32.toInt (show iv_8 79 0 4 = iv_3 79 0 4 by rw [ei_9]; exact up3_ne (fun z => absurd z.1 (by decide)))
  refine lv_aload_n hx hb dX0_addStop_20 rfl (lv_at hl 0 rfl) ?_
  refine g_79_3 C hU hG (h1_79 hG) fl_X0_27 dX0_addStop_21 ?_
  refine lv_aload_n hx hb dX0_addStop_24 rfl (lv_at hl 0 rfl) ?_
  refine g_79_4 C hU hG (h1_79 hG) fl_X0_30 dX0_addStop_25 (fun x_11 e_12 le_12 ue_12 => ?_)
  have te_12 := congrArg Int32.toInt e_12
  refine lv_iload_n hx hb dX0_addStop_28 rfl (lv_at hl 3 rfl) ?_
  refine s_83 C hU hS (h1_83 hG) (x := x_11) (by omega) (by omega) dX0_addStop_29 (fun iv_13 H locs ei_14 hU hS => ?_)
  have hG : GI al iv_13 rv := by rw [ei_14]; exact hG.puti (show _ ∧ _ from ⟨show (0 : Int) ≤ _ by omega, show _ ≤ (4000 : Int) by omega⟩) (nsA (by decide) _)
  have hF1 : FR ([81, 82, 83], [(79, 4)]) iv iv_13 := by rw [ei_14]; exact hF1.put (Or.inl (by decide))
  have kf_15 := congrArg Int32.toInt (show iv_13 79 0 4 = iv_8 79 0 4 by rw [ei_14]; exact up3_ne (fun z => absurd z.1 (by decide)))
  refine lv_aload_n hx hb dX0_addStop_30 rfl (lv_at hl 0 rfl) ?_
  refine lv_dup hx hb dX0_addStop_31 rfl ?_
  refine g_79_4 C hU hG (h1_79 hG) fl_X0_30 dX0_addStop_32 (fun x_16 e_17 le_17 ue_17 => ?_)
  have te_17 := congrArg Int32.toInt e_17
  refine lv_iconst (v := 1) hx hb dX0_addStop_35 (by decide) ?_
  refine lv_iadd hx hb dX0_addStop_36 ?_
  refine lv_topi (fun x_18 e_19 => ?_)
  have te_19 : x_18.toInt = (x_16 : Int32).toInt + (1 : Int32).toInt := by rw [e_19]; exact fb_addI (by omega) (by omega)
  refine p_79_4 C hU hS (h1_79 hG) fl_X0_30 dX0_addStop_37 (fun iv_20 H locs ei_21 hU hS => ?_)
  have hG : GI al iv_20 rv := by rw [ei_21]; exact hG.puti (show _ ∧ _ from ⟨show (0 : Int) ≤ _ by omega, show _ ≤ (20 : Int) by omega⟩) (nsF (by decide))
  have hF1 : FR ([81, 82, 83], [(79, 4)]) iv iv_20 := by rw [ei_21]; exact hF1.put (by decide)
  refine lv_aload_n hx hb dX0_addStop_40 rfl (lv_at hl 0 rfl) ?_
  refine g_79_4 C hU hG (h1_79 hG) fl_X0_30 dX0_addStop_41 (fun x_22 e_23 le_23 ue_23 => ?_)
  have te_23 := congrArg Int32.toInt e_23
  exact hret (⟨hG, hF1, hF2, trivial⟩) hU hS dX0_addStop_44
set_option maxHeartbeats 4000000 in
set_option maxRecDepth 100000 in
theorem c_X0_nextStop {l : Launch} {D : va_G} {cA : FieldType → ClassId} {sz : Nat} {al : Al} {iv : Iv} {rv : Rv} (hG : GI al iv rv) (ld : Int32) (d : Int32) : Met l yX0_nextStop (wd yX0_nextStop cX0_nextStop 5 (some .int)) (rm 0) (PcW D cA sz al iv rv [.ref (al.2 79 0), .int ld, .int d]) (QI D cA sz al (pI iv rv (fun r => (-9 ≤ r.toInt ∧ r.toInt ≤ 19) ∧ (r.toInt = -9 ∨ 0 ≤ r.toInt)))) 0 0 (Aq sz) := by
  refine mk_i (by decide) (Nat.le_of_ble_eq_true rfl) rfl ?_
  intro p e s m args below meth c ls Q H locs C hU hS hl hret
  have hx := C.1.1
  have hb := C.1.2.1
  have hl : lv_has ls 5 [(0, .ref (al.2 79 0)), (1, .int ld), (2, .int d)] := hl
  have hG0 := hG
  have km9 : ((-9) : Int32).toInt = -9 := by decide
  have k0 : (0 : Int32).toInt = 0 := by decide
  have k1 : (1 : Int32).toInt = 1 := by decide
  refine lv_bipush (v := (-9)) hx hb dX0_nextStop_0 (by decide) ?_
  refine lv_istore_n (lv' := [(3, .int (-9)), (0, .ref (al.2 79 0)), (1, .int ld), (2, .int d)]) hx hb dX0_nextStop_2 rfl hl (by decide) rfl (fun ls hl => ?_)
  refine lv_iconst (v := 0) hx hb dX0_nextStop_3 (by decide) ?_
  refine lv_istore (lv' := [(4, .int 0), (3, .int (-9)), (0, .ref (al.2 79 0)), (1, .int ld), (2, .int d)]) hx hb dX0_nextStop_4 hl (by decide) rfl (fun ls hl => ?_)
  have J_6 : ∀ (n_6 : Nat) (l3_1 : Int32) (l4_2 : Int32) (ls : Array Slot), lv_has ls 5 [(0, .ref (al.2 79 0)), (1, .int ld), (2, .int d), (3, .int l3_1), (4, .int l4_2)] → (-9 ≤ l3_1.toInt ∧ l3_1.toInt ≤ 19) → (0 ≤ l4_2.toInt ∧ l4_2.toInt ≤ 20) → l3_1.toInt = -9 ∨ 0 ≤ l3_1.toInt → (20 - l4_2.toInt).toNat < n_6 → W p l e (rm 0) s m args below meth c H locs 0 0 Q (F0 m 6 ls []) := by
    intro n_6
    induction n_6 with
    | zero =>
      intro l3_1 l4_2 ls hl i6_0 i6_1 i6_2 hm_6
      exact absurd hm_6 (Nat.not_lt_zero _)
    | succ n_6 ih_6 =>
      intro l3_1 l4_2 ls hl i6_0 i6_1 i6_2 hm_6
      refine lv_iload hx hb dX0_nextStop_6 (lv_at hl 4 rfl) ?_
      refine lv_aload_n hx hb dX0_nextStop_8 rfl (lv_at hl 0 rfl) ?_
      refine g_79_4 C hU hG (h1_79 hG) fl_X0_30 dX0_nextStop_9 (fun x_3 e_4 le_4 ue_4 => ?_)
      have te_4 := congrArg Int32.toInt e_4
      refine b_icmp_ge (tgt := 71) hx hb dX0_nextStop_12 (by decide) (fun c_5 => ?_) (fun c_5 => ?_)
      ·
        refine lv_iload_n hx hb dX0_nextStop_71 rfl (lv_at hl 3 rfl) ?_
        exact hret (⟨rfl, rfl, ⟨⟨by omega, by omega⟩, by omega⟩⟩) hU hS dX0_nextStop_72
      ·
        refine lv_aload_n hx hb dX0_nextStop_15 rfl (lv_at hl 0 rfl) ?_
        refine g_79_1 C hU hG (h1_79 hG) fl_X0_21 dX0_nextStop_16 ?_
        refine lv_iload hx hb dX0_nextStop_19 (lv_at hl 4 rfl) ?_
        refine a_81 C hU hG (h1_81 hG) (x := l4_2) (by omega) (by omega) dX0_nextStop_21 (fun x_6 e_7 le_7 ue_7 => ?_)
        have te_7 := congrArg Int32.toInt e_7
        refine lv_iload_n hx hb dX0_nextStop_22 rfl (lv_at hl 1 rfl) ?_
        have J_65 : ∀ (l3_8 : Int32) (ls : Array Slot), lv_has ls 5 [(0, .ref (al.2 79 0)), (1, .int ld), (2, .int d), (4, .int l4_2), (3, .int l3_8)] → (-9 ≤ l3_8.toInt ∧ l3_8.toInt ≤ 19) → l3_8.toInt = -9 ∨ 0 ≤ l3_8.toInt → W p l e (rm 0) s m args below meth c H locs 0 0 Q (F0 m 65 ls []) := by
          intro l3_8 ls hl i65_0 i65_1
          obtain ⟨x_9, e_10⟩ : ∃ y : Int32, y = l4_2 + 1 := ⟨_, rfl⟩
          have te_10 : x_9.toInt = (l4_2 : Int32).toInt + (1 : Int32).toInt := by rw [e_10]; exact fb_addI (by omega) (by omega)
          refine lv_iinc (v := x_9) (lv' := [(4, .int x_9), (0, .ref (al.2 79 0)), (1, .int ld), (2, .int d), (3, .int l3_8)]) hx hb dX0_nextStop_65 hl (k := 3) rfl (by rw [e_10]; rfl) (by decide) rfl (fun ls hl => ?_)
          refine lv_goto (tgt := 6) hx hb dX0_nextStop_68 (by decide) ?_
          exact ih_6 l3_8 x_9 _ (lv_sub hl [1, 2, 3, 4, 0] rfl) (by omega) (by omega) (by omega) (by omega)
        refine b_icmp_ne (tgt := 65) hx hb dX0_nextStop_23 (by decide) (fun c_11 => ?_) (fun c_11 => ?_)
        ·
          exact J_65 l3_1 _ (lv_sub hl [0, 1, 2, 4, 3] rfl) (by omega) (by omega)
        ·
          refine lv_aload_n hx hb dX0_nextStop_26 rfl (lv_at hl 0 rfl) ?_
          refine g_79_3 C hU hG (h1_79 hG) fl_X0_27 dX0_nextStop_27 ?_
          refine lv_iload hx hb dX0_nextStop_30 (lv_at hl 4 rfl) ?_
          refine a_83 C hU hG (h1_83 hG) (x := l4_2) (by omega) (by omega) dX0_nextStop_32 (fun x_12 e_13 le_13 ue_13 => ?_)
          have te_13 := congrArg Int32.toInt e_13
          refine lv_iload_n hx hb dX0_nextStop_33 rfl (lv_at hl 2 rfl) ?_
          refine b_icmp_ge (tgt := 40) hx hb dX0_nextStop_34 (by decide) (fun c_14 => ?_) (fun c_14 => ?_)
          ·
            refine lv_iload_n hx hb dX0_nextStop_40 rfl (lv_at hl 3 rfl) ?_
            refine lv_bipush (v := (-9)) hx hb dX0_nextStop_41 (by decide) ?_
            have J_62 : ∀ (ls : Array Slot), lv_has ls 5 [(0, .ref (al.2 79 0)), (1, .int ld), (2, .int d), (4, .int l4_2)] → W p l e (rm 0) s m args below meth c H locs 0 0 Q (F0 m 62 ls []) := by
              intro ls hl
              refine lv_iload hx hb dX0_nextStop_62 (lv_at hl 3 rfl) ?_
              refine lv_istore_n (lv' := [(3, .int l4_2), (0, .ref (al.2 79 0)), (1, .int ld), (2, .int d), (4, .int l4_2)]) hx hb dX0_nextStop_64 rfl hl (by decide) rfl (fun ls hl => ?_)
              exact J_65 l4_2 _ (lv_sub hl [1, 2, 3, 4, 0] rfl) (by omega) (by omega)
            refine b_icmp_eq (tgt := 62) hx hb dX0_nextStop_43 (by decide) (fun c_15 => ?_) (fun c_15 => ?_)
            ·
              exact J_62 _ (lv_sub hl [0, 1, 2, 4] rfl)
            ·
              refine lv_aload_n hx hb dX0_nextStop_46 rfl (lv_at hl 0 rfl) ?_
              refine g_79_2 C hU hG (h1_79 hG) fl_X0_24 dX0_nextStop_47 ?_
              refine lv_iload hx hb dX0_nextStop_50 (lv_at hl 4 rfl) ?_
              refine a_82 C hU hG (h1_82 hG) (x := l4_2) (by omega) (by omega) dX0_nextStop_52 (fun x_16 e_17 le_17 ue_17 => ?_)
              have te_17 := congrArg Int32.toInt e_17
              refine lv_aload_n hx hb dX0_nextStop_53 rfl (lv_at hl 0 rfl) ?_
              refine g_79_2 C hU hG (h1_79 hG) fl_X0_24 dX0_nextStop_54 ?_
              refine lv_iload_n hx hb dX0_nextStop_57 rfl (lv_at hl 3 rfl) ?_
              refine a_82 C hU hG (h1_82 hG) (x := l3_1) (by omega) (by omega) dX0_nextStop_58 (fun x_18 e_19 le_19 ue_19 => ?_)
              have te_19 := congrArg Int32.toInt e_19
              refine b_icmp_ge (tgt := 65) hx hb dX0_nextStop_59 (by decide) (fun c_20 => ?_) (fun c_20 => ?_)
              ·
                exact J_65 l3_1 _ (lv_sub hl [0, 1, 2, 4, 3] rfl) (by omega) (by omega)
              ·
                exact J_62 _ (lv_sub hl [0, 1, 2, 4] rfl)
          ·
            refine lv_goto (tgt := 65) hx hb dX0_nextStop_37 (by decide) ?_
            exact J_65 l3_1 _ (lv_sub hl [0, 1, 2, 4, 3] rfl) (by omega) (by omega)
  exact J_6 _ (-9) 0 _ (lv_sub hl [2, 3, 4, 1, 0] rfl) (by omega) (by omega) (by omega) (Nat.lt_succ_self _)
set_option maxHeartbeats 4000000 in
set_option maxRecDepth 100000 in
theorem c_X0_daysThatRan {l : Launch} {D : va_G} {cA : FieldType → ClassId} {sz : Nat} {al : Al} {iv : Iv} {rv : Rv} (hG : GI al iv rv) (ld : Int32) (a : Int32) (b : Int32) : Met l yX0_daysThatRan (wd yX0_daysThatRan cX0_daysThatRan 9 (some .int)) (rm 1) (PcW D cA sz al iv rv [.ref (al.2 79 0), .int ld, .int a, .int b]) (QI D cA sz al (pI iv rv (fun r => True))) 0 0 (Aq sz) := by
  refine mk_i (by decide) (Nat.le_of_ble_eq_true rfl) rfl ?_
  intro p e s m args below meth c ls Q H locs C hU hS hl hret
  have hx := C.1.1
  have hb := C.1.2.1
  have hl : lv_has ls 9 [(0, .ref (al.2 79 0)), (1, .int ld), (2, .int a), (3, .int b)] := hl
  have hG0 := hG
  have km9 : ((-9) : Int32).toInt = -9 := by decide
  have k0 : (0 : Int32).toInt = 0 := by decide
  have k1 : (1 : Int32).toInt = 1 := by decide
  refine lv_iconst (v := 0) hx hb dX0_daysThatRan_0 (by decide) ?_
  refine lv_istore (lv' := [(4, .int 0), (0, .ref (al.2 79 0)), (1, .int ld), (2, .int a), (3, .int b)]) hx hb dX0_daysThatRan_1 hl (by decide) rfl (fun ls hl => ?_)
  refine lv_iload_n hx hb dX0_daysThatRan_3 rfl (lv_at hl 3 rfl) ?_
  refine lv_istore (lv' := [(5, .int a), (4, .int 0), (0, .ref (al.2 79 0)), (1, .int ld), (2, .int a), (3, .int b)]) hx hb dX0_daysThatRan_4 hl (by decide) rfl (fun ls hl => ?_)
  refine lv_iconst (v := 0) hx hb dX0_daysThatRan_6 (by decide) ?_
  refine lv_istore (lv' := [(6, .int 0), (5, .int a), (4, .int 0), (0, .ref (al.2 79 0)), (1, .int ld), (2, .int a), (3, .int b)]) hx hb dX0_daysThatRan_7 hl (by decide) rfl (fun ls hl => ?_)
  have J_9 : ∀ (n_9 : Nat) (l4_1 : Int32) (l5_2 : Int32) (l6_3 : Int32) (H : Heap) (locs : List Loc) (ls : Array Slot), lv_has ls 9 [(0, .ref (al.2 79 0)), (1, .int ld), (3, .int b), (4, .int l4_1), (5, .int l5_2), (6, .int l6_3)] → UW D cA sz al iv rv H → va_S (Aq sz) s.heap H locs → (0 ≤ l6_3.toInt ∧ l6_3.toInt ≤ 21) → (21 - l6_3.toInt).toNat < n_9 → W p l e (rm 1) s m args below meth c H locs 0 0 Q (F0 m 9 ls []) := by
    intro n_9
    induction n_9 with
    | zero =>
      intro l4_1 l5_2 l6_3 H locs ls hl hU hS i9_0 hm_9
      exact absurd hm_9 (Nat.not_lt_zero _)
    | succ n_9 ih_9 =>
      intro l4_1 l5_2 l6_3 H locs ls hl hU hS i9_0 hm_9
      refine lv_iload hx hb dX0_daysThatRan_9 (lv_at hl 5 rfl) ?_
      refine lv_aload_n hx hb dX0_daysThatRan_11 rfl (lv_at hl 0 rfl) ?_
      refine g_79_4 C hU hG (h1_79 hG) fl_X0_30 dX0_daysThatRan_12 (fun x_4 e_5 le_5 ue_5 => ?_)
      have te_5 := congrArg Int32.toInt e_5
      refine b_icmp_gt (tgt := 105) hx hb dX0_daysThatRan_15 (by decide) (fun c_6 => ?_) (fun c_6 => ?_)
      ·
        refine lv_iload hx hb dX0_daysThatRan_105 (lv_at hl 3 rfl) ?_
        exact hret (⟨rfl, rfl, trivial⟩) hU hS dX0_daysThatRan_107
      ·
        refine lv_iload hx hb dX0_daysThatRan_18 (lv_at hl 4 rfl) ?_
        refine lv_iload_n hx hb dX0_daysThatRan_20 rfl (lv_at hl 2 rfl) ?_
        refine b_icmp_gt (tgt := 105) hx hb dX0_daysThatRan_21 (by decide) (fun c_7 => ?_) (fun c_7 => ?_)
        ·
          refine lv_iload hx hb dX0_daysThatRan_105 (lv_at hl 3 rfl) ?_
          exact hret (⟨rfl, rfl, trivial⟩) hU hS dX0_daysThatRan_107
        ·
          refine lv_aload_n hx hb dX0_daysThatRan_24 rfl (lv_at hl 0 rfl) ?_
          refine lv_iload_n hx hb dX0_daysThatRan_25 rfl (lv_at hl 1 rfl) ?_
          refine lv_iload hx hb dX0_daysThatRan_26 (lv_at hl 4 rfl) ?_
          refine q_pi (q_runV (t := 79) (i := 0) (As := [.int ld, .int l5_2]) (rest := []) C hU (c_X0_nextStop hG ld l5_2 ) vm_X0_nextStop ml_X0_34 k_79.1 (hc := rfl) rfl (h1_79 hG) hl.1 rfl rfl (Nat.le_of_ble_eq_true rfl) dX0_daysThatRan_28 rfl rfl ⟨Nat.le_of_ble_eq_true rfl, Nat.le_of_ble_eq_true rfl⟩ ⟨Nat.le_refl _, Nat.le_refl _⟩) hS (fun x_9 H locs hp_8 hU hS => ?_)
          refine lv_istore (lv' := [(7, .int x_9), (0, .ref (al.2 79 0)), (1, .int ld), (3, .int b), (4, .int l4_1), (5, .int l5_2), (6, .int l6_3)]) hx hb dX0_daysThatRan_31 hl (by decide) rfl (fun ls hl => ?_)
          refine lv_iload hx hb dX0_daysThatRan_33 (lv_at hl 0 rfl) ?_
          refine lv_bipush (v := (-9)) hx hb dX0_daysThatRan_35 (by decide) ?_
          have J_59 : ∀ (v_10 : Int32) (H : Heap) (locs : List Loc) (ls : Array Slot), lv_has ls 9 [(0, .ref (al.2 79 0)), (1, .int ld), (3, .int b), (4, .int l4_1), (5, .int l5_2), (6, .int l6_3), (7, .int x_9)] → UW D cA sz al iv rv H → va_S (Aq sz) s.heap H locs → W p l e (rm 1) s m args below meth c H locs 0 0 Q (F0 m 59 ls [.int v_10]) := by
            intro v_10 H locs ls hl hU hS
            refine lv_istore (lv' := [(8, .int v_10), (0, .ref (al.2 79 0)), (1, .int ld), (3, .int b), (4, .int l4_1), (5, .int l5_2), (6, .int l6_3), (7, .int x_9)]) hx hb dX0_daysThatRan_59 hl (by decide) rfl (fun ls hl => ?_)
            refine lv_iload hx hb dX0_daysThatRan_61 (lv_at hl 4 rfl) ?_
            refine lv_iconst (v := 0) hx hb dX0_daysThatRan_63 (by decide) ?_
            refine lv_iload hx hb dX0_daysThatRan_64 (lv_at hl 0 rfl) ?_
            refine lv_iload hx hb dX0_daysThatRan_66 (lv_at hl 5 rfl) ?_
            refine lv_isub hx hb dX0_daysThatRan_68 ?_
            refine lv_topi (fun x_11 e_12 => ?_)
            refine q_max C hl.1 ml_X0_43 (Nat.le_of_ble_eq_true rfl) (Nat.le_of_ble_eq_true rfl) (Nat.le_refl _) (Nat.le_refl _) dX0_daysThatRan_69 (fun x_13 q_14 tq_14 => ?_)
            refine lv_iadd hx hb dX0_daysThatRan_72 ?_
            refine lv_topi (fun x_15 e_16 => ?_)
            refine lv_istore (lv' := [(4, .int x_15), (8, .int v_10), (0, .ref (al.2 79 0)), (1, .int ld), (3, .int b), (5, .int l5_2), (6, .int l6_3), (7, .int x_9)]) hx hb dX0_daysThatRan_73 hl (by decide) rfl (fun ls hl => ?_)
            refine lv_iload hx hb dX0_daysThatRan_75 (lv_at hl 7 rfl) ?_
            refine lv_bipush (v := (-9)) hx hb dX0_daysThatRan_77 (by decide) ?_
            have J_97 : ∀ (v_17 : Int32) (ls : Array Slot), lv_has ls 9 [(0, .ref (al.2 79 0)), (1, .int ld), (3, .int b), (4, .int x_15), (6, .int l6_3)] → W p l e (rm 1) s m args below meth c H locs 0 0 Q (F0 m 97 ls [.int v_17]) := by
              intro v_17 ls hl
              refine lv_istore (lv' := [(5, .int v_17), (0, .ref (al.2 79 0)), (1, .int ld), (3, .int b), (4, .int x_15), (6, .int l6_3)]) hx hb dX0_daysThatRan_97 hl (by decide) rfl (fun ls hl => ?_)
              obtain ⟨x_18, e_19⟩ : ∃ y : Int32, y = l6_3 + 1 := ⟨_, rfl⟩
              have te_19 : x_18.toInt = (l6_3 : Int32).toInt + (1 : Int32).toInt := by rw [e_19]; exact fb_addI (by omega) (by omega)
              refine lv_iinc (v := x_18) (lv' := [(6, .int x_18), (5, .int v_17), (0, .ref (al.2 79 0)), (1, .int ld), (3, .int b), (4, .int x_15)]) hx hb dX0_daysThatRan_99 hl (k := 5) rfl (by rw [e_19]; rfl) (by decide) rfl (fun ls hl => ?_)
              refine lv_goto (tgt := 9) hx hb dX0_daysThatRan_102 (by decide) ?_
              exact ih_9 x_15 v_17 x_18 _ _ _ (lv_sub hl [2, 3, 4, 5, 1, 0] rfl) hU hS (by omega) (by omega)
            refine b_icmp_ne (tgt := 88) hx hb dX0_daysThatRan_79 (by decide) (fun c_20 => ?_) (fun c_20 => ?_)
            ·
              refine lv_aload_n hx hb dX0_daysThatRan_88 rfl (lv_at hl 2 rfl) ?_
              refine g_79_3 C hU hG (h1_79 hG) fl_X0_27 dX0_daysThatRan_89 ?_
              refine lv_iload hx hb dX0_daysThatRan_92 (lv_at hl 7 rfl) ?_
              refine a_83 C hU hG (h1_83 hG) (x := x_9) (by omega) (by omega) dX0_daysThatRan_94 (fun x_21 e_22 le_22 ue_22 => ?_)
              have te_22 := congrArg Int32.toInt e_22
              refine lv_iconst (v := 1) hx hb dX0_daysThatRan_95 (by decide) ?_
              refine lv_iadd hx hb dX0_daysThatRan_96 ?_
              refine lv_topi (fun x_23 e_24 => ?_)
              have te_24 : x_23.toInt = (x_21 : Int32).toInt + (1 : Int32).toInt := by rw [e_24]; exact fb_addI (by omega) (by omega)
              exact J_97 x_23 _ (lv_sub hl [2, 3, 4, 0, 6] rfl)
            ·
              refine lv_iload_n hx hb dX0_daysThatRan_82 rfl (lv_at hl 4 rfl) ?_
              refine lv_iconst (v := 1) hx hb dX0_daysThatRan_83 (by decide) ?_
              refine lv_iadd hx hb dX0_daysThatRan_84 ?_
              refine lv_topi (fun x_25 e_26 => ?_)
              refine lv_goto (tgt := 97) hx hb dX0_daysThatRan_85 (by decide) ?_
              exact J_97 x_25 _ (lv_sub hl [2, 3, 4, 0, 6] rfl)
          refine b_icmp_ne (tgt := 46) hx hb dX0_daysThatRan_37 (by decide) (fun c_27 => ?_) (fun c_27 => ?_)
          ·
            refine lv_aload_n hx hb dX0_daysThatRan_46 rfl (lv_at hl 1 rfl) ?_
            refine g_79_2 C hU hG (h1_79 hG) fl_X0_24 dX0_daysThatRan_47 ?_
            refine lv_iload hx hb dX0_daysThatRan_50 (lv_at hl 0 rfl) ?_
            refine a_82 C hU hG (h1_82 hG) (x := x_9) (by omega) (by omega) dX0_daysThatRan_52 (fun x_28 e_29 le_29 ue_29 => ?_)
            have te_29 := congrArg Int32.toInt e_29
            refine lv_iload_n hx hb dX0_daysThatRan_53 rfl (lv_at hl 3 rfl) ?_
            refine lv_iconst (v := 1) hx hb dX0_daysThatRan_54 (by decide) ?_
            refine lv_iadd hx hb dX0_daysThatRan_55 ?_
            refine lv_topi (fun x_30 e_31 => ?_)
            refine q_min C hl.1 ml_X0_38 (Nat.le_of_ble_eq_true rfl) (Nat.le_of_ble_eq_true rfl) (Nat.le_refl _) (Nat.le_refl _) dX0_daysThatRan_56 (fun x_32 q_33 tq_33 => ?_)
            exact J_59 x_32 _ _ _ (lv_sub hl [1, 2, 3, 4, 5, 6, 0] rfl) hU hS
          ·
            refine lv_iload_n hx hb dX0_daysThatRan_40 rfl (lv_at hl 3 rfl) ?_
            refine lv_iconst (v := 1) hx hb dX0_daysThatRan_41 (by decide) ?_
            refine lv_iadd hx hb dX0_daysThatRan_42 ?_
            refine lv_topi (fun x_34 e_35 => ?_)
            refine lv_goto (tgt := 59) hx hb dX0_daysThatRan_43 (by decide) ?_
            exact J_59 x_34 _ _ _ (lv_sub hl [1, 2, 3, 4, 5, 6, 0] rfl) hU hS
  exact J_9 _ 0 a 0 _ _ _ (lv_sub hl [3, 4, 6, 2, 1, 0] rfl) hU hS (by omega) (Nat.lt_succ_self _)
set_option maxHeartbeats 4000000 in
set_option maxRecDepth 100000 in
theorem c_X2_partOf {l : Launch} {D : va_G} {cA : FieldType → ClassId} {sz : Nat} {al : Al} {iv : Iv} {rv : Rv} (hG : GI al iv rv) (ci : Nat) (hci : ci < al.1 88) (pp : Int32) (wo : Int32) : Met l yX2_partOf (wd yX2_partOf cX2_partOf 6 (some .int)) (rm 1) (PcW D cA sz al iv rv [.ref (al.2 88 ci), .int pp, .int wo]) (QI D cA sz al (pI iv rv (fun r => True))) 0 0 (Aq sz) := by
  refine mk_i (by decide) (Nat.le_of_ble_eq_true rfl) rfl ?_
  intro p e s m args below meth c ls Q H locs C hU hS hl hret
  have hx := C.1.1
  have hb := C.1.2.1
  have hl : lv_has ls 6 [(0, .ref (al.2 88 ci)), (1, .int pp), (2, .int wo)] := hl
  have hG0 := hG
  have k0 : (0 : Int32).toInt = 0 := by decide
  have k1 : (1 : Int32).toInt = 1 := by decide
  have k5 : (5 : Int32).toInt = 5 := by decide
  refine lv_iload_n hx hb dX2_partOf_0 rfl (lv_at hl 2 rfl) ?_
  refine lv_istore_n (lv' := [(3, .int wo), (0, .ref (al.2 88 ci)), (1, .int pp), (2, .int wo)]) hx hb dX2_partOf_1 rfl hl (by decide) rfl (fun ls hl => ?_)
  refine lv_iconst (v := 0) hx hb dX2_partOf_2 (by decide) ?_
  refine lv_istore (lv' := [(4, .int 0), (3, .int wo), (0, .ref (al.2 88 ci)), (1, .int pp), (2, .int wo)]) hx hb dX2_partOf_3 hl (by decide) rfl (fun ls hl => ?_)
  refine lv_iconst (v := 0) hx hb dX2_partOf_5 (by decide) ?_
  refine lv_istore (lv' := [(5, .int 0), (4, .int 0), (3, .int wo), (0, .ref (al.2 88 ci)), (1, .int pp), (2, .int wo)]) hx hb dX2_partOf_6 hl (by decide) rfl (fun ls hl => ?_)
  have J_8 : ∀ (n_8 : Nat) (l3_1 : Int32) (l4_2 : Int32) (l5_3 : Int32) (H : Heap) (locs : List Loc) (ls : Array Slot), lv_has ls 6 [(0, .ref (al.2 88 ci)), (1, .int pp), (3, .int l3_1), (4, .int l4_2), (5, .int l5_3)] → UW D cA sz al iv rv H → va_S (Aq sz) s.heap H locs → (0 ≤ l5_3.toInt ∧ l5_3.toInt ≤ 5) → (5 - l5_3.toInt).toNat < n_8 → W p l e (rm 1) s m args below meth c H locs 0 0 Q (F0 m 8 ls []) := by
    intro n_8
    induction n_8 with
    | zero =>
      intro l3_1 l4_2 l5_3 H locs ls hl hU hS i8_0 hm_8
      exact absurd hm_8 (Nat.not_lt_zero _)
    | succ n_8 ih_8 =>
      intro l3_1 l4_2 l5_3 H locs ls hl hU hS i8_0 hm_8
      refine lv_iload hx hb dX2_partOf_8 (lv_at hl 4 rfl) ?_
      refine lv_iconst (v := 5) hx hb dX2_partOf_10 (by decide) ?_
      refine b_icmp_ge (tgt := 47) hx hb dX2_partOf_11 (by decide) (fun c_4 => ?_) (fun c_4 => ?_)
      ·
        refine lv_iload hx hb dX2_partOf_47 (lv_at hl 3 rfl) ?_
        exact hret (⟨rfl, rfl, trivial⟩) hU hS dX2_partOf_49
      ·
        refine lv_iload hx hb dX2_partOf_14 (lv_at hl 4 rfl) ?_
        refine lv_iload_n hx hb dX2_partOf_16 rfl (lv_at hl 1 rfl) ?_
        refine b_icmp_gt (tgt := 47) hx hb dX2_partOf_17 (by decide) (fun c_5 => ?_) (fun c_5 => ?_)
        ·
          refine lv_iload hx hb dX2_partOf_47 (lv_at hl 3 rfl) ?_
          exact hret (⟨rfl, rfl, trivial⟩) hU hS dX2_partOf_49
        ·
          refine lv_aload_n hx hb dX2_partOf_20 rfl (lv_at hl 0 rfl) ?_
          refine g_88_0 C hU hG hci fl_X2_9 dX2_partOf_21 (fun j_6 ej_7 hb_8 => ?_)
          refine g_65_5 C hU hG hb_8 fl_X2_23 dX2_partOf_24 (fun hb_9 => ?_)
          refine lv_iload hx hb dX2_partOf_27 (lv_at hl 4 rfl) ?_
          refine a_67 C hU hG hb_9 (x := l5_3) (by omega) (by omega) dX2_partOf_29 (fun x_10 e_11 => ?_)
          have te_11 := congrArg Int32.toInt e_11
          refine lv_iload_n hx hb dX2_partOf_30 rfl (lv_at hl 2 rfl) ?_
          refine q_min C hl.1 ml_X2_28 (Nat.le_of_ble_eq_true rfl) (Nat.le_of_ble_eq_true rfl) (Nat.le_refl _) (Nat.le_refl _) dX2_partOf_31 (fun x_12 q_13 tq_13 => ?_)
          refine lv_istore (lv' := [(4, .int x_12), (0, .ref (al.2 88 ci)), (1, .int pp), (3, .int l3_1), (5, .int l5_3)]) hx hb dX2_partOf_34 hl (by decide) rfl (fun ls hl => ?_)
          refine lv_iload_n hx hb dX2_partOf_36 rfl (lv_at hl 3 rfl) ?_
          refine lv_iload hx hb dX2_partOf_37 (lv_at hl 0 rfl) ?_
          refine lv_isub hx hb dX2_partOf_39 ?_
          refine lv_topi (fun x_14 e_15 => ?_)
          refine lv_istore_n (lv' := [(3, .int x_14), (4, .int x_12), (0, .ref (al.2 88 ci)), (1, .int pp), (5, .int l5_3)]) hx hb dX2_partOf_40 rfl hl (by decide) rfl (fun ls hl => ?_)
          obtain ⟨x_16, e_17⟩ : ∃ y : Int32, y = l5_3 + 1 := ⟨_, rfl⟩
          have te_17 : x_16.toInt = (l5_3 : Int32).toInt + (1 : Int32).toInt := by rw [e_17]; exact fb_addI (by omega) (by omega)
          refine lv_iinc (v := x_16) (lv' := [(5, .int x_16), (3, .int x_14), (4, .int x_12), (0, .ref (al.2 88 ci)), (1, .int pp)]) hx hb dX2_partOf_41 hl (k := 4) rfl (by rw [e_17]; rfl) (by decide) rfl (fun ls hl => ?_)
          refine lv_goto (tgt := 8) hx hb dX2_partOf_44 (by decide) ?_
          exact ih_8 x_14 x_12 x_16 _ _ _ (lv_sub hl [3, 4, 1, 2, 0] rfl) hU hS (by omega) (by omega)
  exact J_8 _ wo 0 0 _ _ _ (lv_sub hl [3, 4, 2, 1, 0] rfl) hU hS (by omega) (Nat.lt_succ_self _)
set_option maxHeartbeats 4000000 in
set_option maxRecDepth 100000 in
theorem c_X3_addToBalances {l : Launch} {D : va_G} {cA : FieldType → ClassId} {sz : Nat} {al : Al} {iv : Iv} {rv : Rv} (hG : GI al iv rv) (ci : Nat) (hci : ci < al.1 88) (wo : Int32) : Met l yX3_addToBalances (wd yX3_addToBalances cX3_addToBalances 4 none) (rm 2) (PcW D cA sz al iv rv [.ref (al.2 84 0), .ref (al.2 88 ci), .int wo]) (QV D cA sz al (fV al ([86], []) iv rv (fun iv' rv' => True))) 0 0 (Aq sz) := by
  refine mk_v (by decide) (Nat.le_of_ble_eq_true rfl) rfl ?_
  intro p e s m args below meth c ls Q H locs C hU hS hl hret
  have hx := C.1.1
  have hb := C.1.2.1
  have hl : lv_has ls 4 [(0, .ref (al.2 84 0)), (1, .ref (al.2 88 ci)), (2, .int wo)] := hl
  have hG0 := hG
  have hF1 : FR ([86], []) iv iv := FR.rf
  have hF2 : FR ([86], []) rv rv := FR.rf
  have k0 : (0 : Int32).toInt = 0 := by decide
  have k1 : (1 : Int32).toInt = 1 := by decide
  have k5 : (5 : Int32).toInt = 5 := by decide
  refine lv_iconst (v := 0) hx hb dX3_addToBalances_0 (by decide) ?_
  refine lv_istore_n (lv' := [(3, .int 0), (0, .ref (al.2 84 0)), (1, .ref (al.2 88 ci)), (2, .int wo)]) hx hb dX3_addToBalances_1 rfl hl (by decide) rfl (fun ls hl => ?_)
  have J_2 : ∀ (n_2 : Nat) (l3_1 : Int32) (iv_2 : Iv) (rv_3 : Rv) (H : Heap) (locs : List Loc) (ls : Array Slot), lv_has ls 4 [(0, .ref (al.2 84 0)), (1, .ref (al.2 88 ci)), (2, .int wo), (3, .int l3_1)] → GI al iv_2 rv_3 → FR ([86], []) iv iv_2 → FR ([86], []) rv rv_3 → UW D cA sz al iv_2 rv_3 H → va_S (Aq sz) s.heap H locs → (0 ≤ l3_1.toInt ∧ l3_1.toInt ≤ 5) → (5 - l3_1.toInt).toNat < n_2 → W p l e (rm 2) s m args below meth c H locs 0 0 Q (F0 m 2 ls []) := by
    intro n_2
    induction n_2 with
    | zero =>
      intro l3_1 iv_2 rv_3 H locs ls hl hG hF1 hF2 hU hS i2_0 hm_2
      exact absurd hm_2 (Nat.not_lt_zero _)
    | succ n_2 ih_2 =>
      intro l3_1 iv_2 rv_3 H locs ls hl hG hF1 hF2 hU hS i2_0 hm_2
      refine lv_iload_n hx hb dX3_addToBalances_2 rfl (lv_at hl 3 rfl) ?_
      refine lv_iconst (v := 5) hx hb dX3_addToBalances_3 (by decide) ?_
      refine b_icmp_ge (tgt := 35) hx hb dX3_addToBalances_4 (by decide) (fun c_4 => ?_) (fun c_4 => ?_)
      ·
        exact hret (⟨hG, hF1, hF2, trivial⟩) hU hS dX3_addToBalances_35
      ·
        refine lv_aload_n hx hb dX3_addToBalances_7 rfl (lv_at hl 0 rfl) ?_
        refine g_84_2 C hU hG (h1_84 hG) fl_X3_17 dX3_addToBalances_8 ?_
        refine lv_iload_n hx hb dX3_addToBalances_11 rfl (lv_at hl 3 rfl) ?_
        refine lv_dup2_11 hx hb dX3_addToBalances_12 rfl rfl ?_
        refine a_86 C hU hG (h1_86 hG) (x := l3_1) (by omega) (by omega) dX3_addToBalances_13 (fun x_5 e_6 => ?_)
        have te_6 := congrArg Int32.toInt e_6
        refine lv_aload_n hx hb dX3_addToBalances_14 rfl (lv_at hl 1 rfl) ?_
        refine g_88_2 C hU hG hci fl_X3_41 dX3_addToBalances_15 (fun hb_7 => ?_)
        refine lv_iload_n hx hb dX3_addToBalances_18 rfl (lv_at hl 3 rfl) ?_
        refine a_89 C hU hG hb_7 (x := l3_1) (by omega) (by omega) dX3_addToBalances_19 (fun x_8 e_9 => ?_)
        have te_9 := congrArg Int32.toInt e_9
        have ne_9 : x_8.toInt = (iv 89 ci (l3_1 : Int32).toNatClampNeg).toInt := by rw [e_9, hF1.arr 89 ci (l3_1 : Int32).toNatClampNeg (by decide)]
        refine lv_aload_n hx hb dX3_addToBalances_20 rfl (lv_at hl 1 rfl) ?_
        refine lv_iload_n hx hb dX3_addToBalances_21 rfl (lv_at hl 3 rfl) ?_
        refine lv_iload_n hx hb dX3_addToBalances_22 rfl (lv_at hl 2 rfl) ?_
        refine q_pi (q_runV (t := 88) (i := ci) (As := [.int l3_1, .int wo]) (rest := [.int x_8, .int x_5, .int l3_1, .ref (al.2 86 0)]) C hU (c_X2_partOf hG (ci) hci l3_1 wo ) vm_X2_partOf ml_X3_44 k_88.1 (hc := rfl) rfl hci hl.1 rfl rfl (Nat.le_of_ble_eq_true rfl) dX3_addToBalances_23 rfl rfl ⟨Nat.le_of_ble_eq_true rfl, Nat.le_of_ble_eq_true rfl⟩ ⟨Nat.le_refl _, Nat.le_refl _⟩) hS (fun x_11 H locs hp_10 hU hS => ?_)
        refine lv_isub hx hb dX3_addToBalances_26 ?_
        refine lv_topi (fun x_12 e_13 => ?_)
        refine lv_iadd hx hb dX3_addToBalances_27 ?_
        refine lv_topi (fun x_14 e_15 => ?_)
        refine s_86 C hU hS (h1_86 hG) (x := l3_1) (by omega) (by omega) dX3_addToBalances_28 (fun iv_16 H locs ei_17 hU hS => ?_)
        have hG : GI al iv_16 rv_3 := by rw [ei_17]; exact hG.puti (show _ ∧ _ from ⟨(fb_rng _).1, Int.le_of_lt_add_one (fb_rng _).2⟩) (nsA (by decide) _)
        have hF1 : FR ([86], []) iv iv_16 := by rw [ei_17]; exact hF1.put (Or.inl (by decide))
        obtain ⟨x_18, e_19⟩ : ∃ y : Int32, y = l3_1 + 1 := ⟨_, rfl⟩
        have te_19 : x_18.toInt = (l3_1 : Int32).toInt + (1 : Int32).toInt := by rw [e_19]; exact fb_addI (by omega) (by omega)
        refine lv_iinc (v := x_18) (lv' := [(3, .int x_18), (0, .ref (al.2 84 0)), (1, .ref (al.2 88 ci)), (2, .int wo)]) hx hb dX3_addToBalances_29 hl (k := 3) rfl (by rw [e_19]; rfl) (by decide) rfl (fun ls hl => ?_)
        refine lv_goto (tgt := 2) hx hb dX3_addToBalances_32 (by decide) ?_
        exact ih_2 x_18 _ _ _ _ _ (lv_sub hl [1, 2, 3, 0] rfl) hG hF1 hF2 hU hS (by omega) (by omega)
  exact J_2 _ 0 _ _ _ _ _ (lv_sub hl [1, 2, 3, 0] rfl) hG hF1 hF2 hU hS (by omega) (Nat.lt_succ_self _)
set_option maxHeartbeats 4000000 in
set_option maxRecDepth 100000 in
theorem c_X3_togetherIn {l : Launch} {D : va_G} {cA : FieldType → ClassId} {sz : Nat} {al : Al} {iv : Iv} {rv : Rv} (hG : GI al iv rv) (set_ : Int32) : Met l yX3_togetherIn (wd yX3_togetherIn cX3_togetherIn 4 (some .int)) (rm 0) (PcW D cA sz al iv rv [.ref (al.2 84 0), .int set_]) (QI D cA sz al (pI iv rv (fun r => True))) 0 0 (Aq sz) := by
  refine mk_i (by decide) (Nat.le_of_ble_eq_true rfl) rfl ?_
  intro p e s m args below meth c ls Q H locs C hU hS hl hret
  have hx := C.1.1
  have hb := C.1.2.1
  have hl : lv_has ls 4 [(0, .ref (al.2 84 0)), (1, .int set_)] := hl
  have hG0 := hG
  have k0 : (0 : Int32).toInt = 0 := by decide
  have k1 : (1 : Int32).toInt = 1 := by decide
  have k5 : (5 : Int32).toInt = 5 := by decide
  refine lv_iconst (v := 0) hx hb dX3_togetherIn_0 (by decide) ?_
  refine lv_istore_n (lv' := [(2, .int 0), (0, .ref (al.2 84 0)), (1, .int set_)]) hx hb dX3_togetherIn_1 rfl hl (by decide) rfl (fun ls hl => ?_)
  refine lv_iconst (v := 0) hx hb dX3_togetherIn_2 (by decide) ?_
  refine lv_istore_n (lv' := [(3, .int 0), (2, .int 0), (0, .ref (al.2 84 0)), (1, .int set_)]) hx hb dX3_togetherIn_3 rfl hl (by decide) rfl (fun ls hl => ?_)
  have J_4 : ∀ (n_4 : Nat) (l2_1 : Int32) (l3_2 : Int32) (ls : Array Slot), lv_has ls 4 [(0, .ref (al.2 84 0)), (1, .int set_), (2, .int l2_1), (3, .int l3_2)] → (0 ≤ l3_2.toInt ∧ l3_2.toInt ≤ 5) → (5 - l3_2.toInt).toNat < n_4 → W p l e (rm 0) s m args below meth c H locs 0 0 Q (F0 m 4 ls []) := by
    intro n_4
    induction n_4 with
    | zero =>
      intro l2_1 l3_2 ls hl i4_0 hm_4
      exact absurd hm_4 (Nat.not_lt_zero _)
    | succ n_4 ih_4 =>
      intro l2_1 l3_2 ls hl i4_0 hm_4
      refine lv_iload_n hx hb dX3_togetherIn_4 rfl (lv_at hl 3 rfl) ?_
      refine lv_iconst (v := 5) hx hb dX3_togetherIn_5 (by decide) ?_
      refine b_icmp_ge (tgt := 32) hx hb dX3_togetherIn_6 (by decide) (fun c_3 => ?_) (fun c_3 => ?_)
      ·
        refine lv_iload_n hx hb dX3_togetherIn_32 rfl (lv_at hl 2 rfl) ?_
        exact hret (⟨rfl, rfl, trivial⟩) hU hS dX3_togetherIn_33
      ·
        refine lv_iload_n hx hb dX3_togetherIn_9 rfl (lv_at hl 1 rfl) ?_
        refine lv_iconst (v := 1) hx hb dX3_togetherIn_10 (by decide) ?_
        refine lv_iload_n hx hb dX3_togetherIn_11 rfl (lv_at hl 3 rfl) ?_
        refine lv_ishl hx hb dX3_togetherIn_12 ?_
        refine lv_topi (fun x_4 e_5 => ?_)
        refine lv_iand hx hb dX3_togetherIn_13 ?_
        refine lv_topi (fun x_6 e_7 => ?_)
        have J_26 : ∀ (l2_8 : Int32) (ls : Array Slot), lv_has ls 4 [(0, .ref (al.2 84 0)), (1, .int set_), (3, .int l3_2), (2, .int l2_8)] → W p l e (rm 0) s m args below meth c H locs 0 0 Q (F0 m 26 ls []) := by
          intro l2_8 ls hl
          obtain ⟨x_9, e_10⟩ : ∃ y : Int32, y = l3_2 + 1 := ⟨_, rfl⟩
          have te_10 : x_9.toInt = (l3_2 : Int32).toInt + (1 : Int32).toInt := by rw [e_10]; exact fb_addI (by omega) (by omega)
          refine lv_iinc (v := x_9) (lv' := [(3, .int x_9), (0, .ref (al.2 84 0)), (1, .int set_), (2, .int l2_8)]) hx hb dX3_togetherIn_26 hl (k := 2) rfl (by rw [e_10]; rfl) (by decide) rfl (fun ls hl => ?_)
          refine lv_goto (tgt := 4) hx hb dX3_togetherIn_29 (by decide) ?_
          exact ih_4 l2_8 x_9 _ (lv_sub hl [1, 2, 3, 0] rfl) (by omega) (by omega)
        refine b_if_eq (tgt := 26) hx hb dX3_togetherIn_14 (by decide) (fun c_11 => ?_) (fun c_11 => ?_)
        ·
          exact J_26 l2_1 _ (lv_sub hl [0, 1, 3, 2] rfl)
        ·
          refine lv_iload_n hx hb dX3_togetherIn_17 rfl (lv_at hl 2 rfl) ?_
          refine lv_aload_n hx hb dX3_togetherIn_18 rfl (lv_at hl 0 rfl) ?_
          refine g_84_2 C hU hG (h1_84 hG) fl_X3_17 dX3_togetherIn_19 ?_
          refine lv_iload_n hx hb dX3_togetherIn_22 rfl (lv_at hl 3 rfl) ?_
          refine a_86 C hU hG (h1_86 hG) (x := l3_2) (by omega) (by omega) dX3_togetherIn_23 (fun x_12 e_13 => ?_)
          have te_13 := congrArg Int32.toInt e_13
          refine lv_iadd hx hb dX3_togetherIn_24 ?_
          refine lv_topi (fun x_14 e_15 => ?_)
          refine lv_istore_n (lv' := [(2, .int x_14), (0, .ref (al.2 84 0)), (1, .int set_), (3, .int l3_2)]) hx hb dX3_togetherIn_25 rfl hl (by decide) rfl (fun ls hl => ?_)
          exact J_26 x_14 _ (lv_sub hl [1, 2, 3, 0] rfl)
  exact J_4 _ 0 0 _ (lv_sub hl [2, 3, 1, 0] rfl) (by omega) (Nat.lt_succ_self _)
set_option maxHeartbeats 4000000 in
set_option maxRecDepth 100000 in
theorem c_X3_fewestPayments {l : Launch} {D : va_G} {cA : FieldType → ClassId} {sz : Nat} {al : Al} {iv : Iv} {rv : Rv} (hG : GI al iv rv) : Met l yX3_fewestPayments (wd yX3_fewestPayments cX3_fewestPayments 6 (some .int)) (rm 1) (PcW D cA sz al iv rv [.ref (al.2 84 0)]) (QI D cA sz al (fI al ([87], []) iv rv (fun r iv' rv' => True))) 0 0 (Aq sz) := by
  refine mk_i (by decide) (Nat.le_of_ble_eq_true rfl) rfl ?_
  intro p e s m args below meth c ls Q H locs C hU hS hl hret
  have hx := C.1.1
  have hb := C.1.2.1
  have hl : lv_has ls 6 [(0, .ref (al.2 84 0))] := hl
  have hG0 := hG
  have hF1 : FR ([87], []) iv iv := FR.rf
  have hF2 : FR ([87], []) rv rv := FR.rf
  have km9 : ((-9) : Int32).toInt = -9 := by decide
  have km1 : ((-1) : Int32).toInt = -1 := by decide
  have k0 : (0 : Int32).toInt = 0 := by decide
  have k1 : (1 : Int32).toInt = 1 := by decide
  have k5 : (5 : Int32).toInt = 5 := by decide
  have k31 : (31 : Int32).toInt = 31 := by decide
  have k32 : (32 : Int32).toInt = 32 := by decide
  refine lv_bipush (v := 31) hx hb dX3_fewestPayments_0 (by decide) ?_
  refine lv_istore_n (lv' := [(1, .int 31), (0, .ref (al.2 84 0))]) hx hb dX3_fewestPayments_2 rfl hl (by decide) rfl (fun ls hl => ?_)
  refine lv_aload_n hx hb dX3_fewestPayments_3 rfl (lv_at hl 1 rfl) ?_
  refine lv_iload_n hx hb dX3_fewestPayments_4 rfl (lv_at hl 0 rfl) ?_
  refine q_pi (q_runV (t := 84) (i := 0) (As := [.int 31]) (rest := []) C hU (c_X3_togetherIn hG 31 ) vm_X3_togetherIn ml_X3_48 k_84.1 (hc := rfl) rfl (h1_84 hG) hl.1 rfl rfl (Nat.le_of_ble_eq_true rfl) dX3_fewestPayments_5 rfl rfl ⟨Nat.le_of_ble_eq_true rfl, Nat.le_of_ble_eq_true rfl⟩ ⟨Nat.le_refl _, Nat.le_refl _⟩) hS (fun x_2 H locs hp_1 hU hS => ?_)
  refine b_if_eq (tgt := 14) hx hb dX3_fewestPayments_8 (by decide) (fun c_3 => ?_) (fun c_3 => ?_)
  ·
    refine lv_iconst (v := 1) hx hb dX3_fewestPayments_14 (by decide) ?_
    refine lv_istore_n (lv' := [(2, .int 1), (1, .int 31), (0, .ref (al.2 84 0))]) hx hb dX3_fewestPayments_15 rfl hl (by decide) rfl (fun ls hl => ?_)
    have J_16 : ∀ (n_16 : Nat) (l2_4 : Int32) (iv_5 : Iv) (rv_6 : Rv) (H : Heap) (locs : List Loc) (ls : Array Slot), lv_has ls 6 [(0, .ref (al.2 84 0)), (1, .int 31), (2, .int l2_4)] → GI al iv_5 rv_6 → FR ([87], []) iv iv_5 → FR ([87], []) rv rv_6 → UW D cA sz al iv_5 rv_6 H → va_S (Aq sz) s.heap H locs → (1 ≤ l2_4.toInt ∧ l2_4.toInt ≤ 32) → (32 - l2_4.toInt).toNat < n_16 → W p l e (rm 1) s m args below meth c H locs 0 0 Q (F0 m 16 ls []) := by
      intro n_16
      induction n_16 with
      | zero =>
        intro l2_4 iv_5 rv_6 H locs ls hl hG hF1 hF2 hU hS i16_0 hm_16
        exact absurd hm_16 (Nat.not_lt_zero _)
      | succ n_16 ih_16 =>
        intro l2_4 iv_5 rv_6 H locs ls hl hG hF1 hF2 hU hS i16_0 hm_16
        refine lv_iload_n hx hb dX3_fewestPayments_16 rfl (lv_at hl 2 rfl) ?_
        refine lv_bipush (v := 32) hx hb dX3_fewestPayments_17 (by decide) ?_
        refine b_icmp_ge (tgt := 94) hx hb dX3_fewestPayments_19 (by decide) (fun c_7 => ?_) (fun c_7 => ?_)
        ·
          refine lv_iconst (v := 5) hx hb dX3_fewestPayments_94 (by decide) ?_
          refine lv_aload_n hx hb dX3_fewestPayments_95 rfl (lv_at hl 0 rfl) ?_
          refine g_84_3 C hU hG (h1_84 hG) fl_X3_21 dX3_fewestPayments_96 ?_
          refine lv_iload_n hx hb dX3_fewestPayments_99 rfl (lv_at hl 1 rfl) ?_
          refine a_87 C hU hG (h1_87 hG) (x := 31) (by omega) (by omega) dX3_fewestPayments_100 (fun x_8 e_9 => ?_)
          have te_9 := congrArg Int32.toInt e_9
          refine lv_isub hx hb dX3_fewestPayments_101 ?_
          refine lv_topi (fun x_10 e_11 => ?_)
          exact hret (⟨hG, hF1, hF2, trivial⟩) hU hS dX3_fewestPayments_102
        ·
          refine lv_iconst (v := 0) hx hb dX3_fewestPayments_22 (by decide) ?_
          refine lv_istore_n (lv' := [(3, .int 0), (0, .ref (al.2 84 0)), (1, .int 31), (2, .int l2_4)]) hx hb dX3_fewestPayments_23 rfl hl (by decide) rfl (fun ls hl => ?_)
          refine lv_iconst (v := 0) hx hb dX3_fewestPayments_24 (by decide) ?_
          refine lv_istore (lv' := [(4, .int 0), (3, .int 0), (0, .ref (al.2 84 0)), (1, .int 31), (2, .int l2_4)]) hx hb dX3_fewestPayments_25 hl (by decide) rfl (fun ls hl => ?_)
          have J_27 : ∀ (n_27 : Nat) (l3_12 : Int32) (l4_13 : Int32) (H : Heap) (locs : List Loc) (ls : Array Slot), lv_has ls 6 [(0, .ref (al.2 84 0)), (1, .int 31), (2, .int l2_4), (3, .int l3_12), (4, .int l4_13)] → UW D cA sz al iv_5 rv_6 H → va_S (Aq sz) s.heap H locs → (0 ≤ l4_13.toInt ∧ l4_13.toInt ≤ 5) → (5 - l4_13.toInt).toNat < n_27 → W p l e (rm 1) s m args below meth c H locs 0 0 Q (F0 m 27 ls []) := by
            intro n_27
            induction n_27 with
            | zero =>
              intro l3_12 l4_13 H locs ls hl hU hS i27_0 hm_27
              exact absurd hm_27 (Nat.not_lt_zero _)
            | succ n_27 ih_27 =>
              intro l3_12 l4_13 H locs ls hl hU hS i27_0 hm_27
              refine lv_iload hx hb dX3_fewestPayments_27 (lv_at hl 4 rfl) ?_
              refine lv_iconst (v := 5) hx hb dX3_fewestPayments_29 (by decide) ?_
              refine b_icmp_ge (tgt := 67) hx hb dX3_fewestPayments_30 (by decide) (fun c_14 => ?_) (fun c_14 => ?_)
              ·
                refine lv_aload_n hx hb dX3_fewestPayments_67 rfl (lv_at hl 0 rfl) ?_
                refine g_84_3 C hU hG (h1_84 hG) fl_X3_21 dX3_fewestPayments_68 ?_
                refine lv_iload_n hx hb dX3_fewestPayments_71 rfl (lv_at hl 2 rfl) ?_
                refine lv_aload_n hx hb dX3_fewestPayments_72 rfl (lv_at hl 0 rfl) ?_
                refine lv_iload_n hx hb dX3_fewestPayments_73 rfl (lv_at hl 2 rfl) ?_
                refine q_pi (q_runV (t := 84) (i := 0) (As := [.int l2_4]) (rest := [.int l2_4, .ref (al.2 87 0)]) C hU (c_X3_togetherIn hG l2_4 ) vm_X3_togetherIn ml_X3_48 k_84.1 (hc := rfl) rfl (h1_84 hG) hl.1 rfl rfl (Nat.le_of_ble_eq_true rfl) dX3_fewestPayments_74 rfl rfl ⟨Nat.le_of_ble_eq_true rfl, Nat.le_of_ble_eq_true rfl⟩ ⟨Nat.le_refl _, Nat.le_refl _⟩) hS (fun x_16 H locs hp_15 hU hS => ?_)
                have J_87 : ∀ (v_17 : Int32) (ls : Array Slot), lv_has ls 6 [(0, .ref (al.2 84 0)), (1, .int 31), (2, .int l2_4)] → W p l e (rm 1) s m args below meth c H locs 0 0 Q (F0 m 87 ls [.int v_17, .int l2_4, .ref (al.2 87 0)]) := by
                  intro v_17 ls hl
                  refine s_87 C hU hS (h1_87 hG) (x := l2_4) (by omega) (by omega) dX3_fewestPayments_87 (fun iv_18 H locs ei_19 hU hS => ?_)
                  have hG : GI al iv_18 rv_6 := by rw [ei_19]; exact hG.puti (show _ ∧ _ from ⟨(fb_rng _).1, Int.le_of_lt_add_one (fb_rng _).2⟩) (nsA (by decide) _)
                  have hF1 : FR ([87], []) iv iv_18 := by rw [ei_19]; exact hF1.put (Or.inl (by decide))
                  obtain ⟨x_20, e_21⟩ : ∃ y : Int32, y = l2_4 + 1 := ⟨_, rfl⟩
                  have te_21 : x_20.toInt = (l2_4 : Int32).toInt + (1 : Int32).toInt := by rw [e_21]; exact fb_addI (by omega) (by omega)
                  refine lv_iinc (v := x_20) (lv' := [(2, .int x_20), (0, .ref (al.2 84 0)), (1, .int 31)]) hx hb dX3_fewestPayments_88 hl (k := 2) rfl (by rw [e_21]; rfl) (by decide) rfl (fun ls hl => ?_)
                  refine lv_goto (tgt := 16) hx hb dX3_fewestPayments_91 (by decide) ?_
                  exact ih_16 x_20 _ _ _ _ _ (lv_sub hl [1, 2, 0] rfl) hG hF1 hF2 hU hS (by omega) (by omega)
                refine b_if_ne (tgt := 86) hx hb dX3_fewestPayments_77 (by decide) (fun c_22 => ?_) (fun c_22 => ?_)
                ·
                  refine lv_iload_n hx hb dX3_fewestPayments_86 rfl (lv_at hl 3 rfl) ?_
                  exact J_87 l3_12 _ (lv_sub hl [0, 1, 2] rfl)
                ·
                  refine lv_iload_n hx hb dX3_fewestPayments_80 rfl (lv_at hl 3 rfl) ?_
                  refine lv_iconst (v := 1) hx hb dX3_fewestPayments_81 (by decide) ?_
                  refine lv_iadd hx hb dX3_fewestPayments_82 ?_
                  refine lv_topi (fun x_23 e_24 => ?_)
                  refine lv_goto (tgt := 87) hx hb dX3_fewestPayments_83 (by decide) ?_
                  exact J_87 x_23 _ (lv_sub hl [0, 1, 2] rfl)
              ·
                refine lv_iload_n hx hb dX3_fewestPayments_33 rfl (lv_at hl 2 rfl) ?_
                refine lv_iconst (v := 1) hx hb dX3_fewestPayments_34 (by decide) ?_
                refine lv_iload hx hb dX3_fewestPayments_35 (lv_at hl 4 rfl) ?_
                refine lv_ishl hx hb dX3_fewestPayments_37 ?_
                refine lv_topi (fun x_25 e_26 => ?_)
                refine lv_iconst (v := (-1)) hx hb dX3_fewestPayments_38 (by decide) ?_
                refine lv_ixor hx hb dX3_fewestPayments_39 ?_
                refine lv_topi (fun x_27 e_28 => ?_)
                refine lv_iand hx hb dX3_fewestPayments_40 ?_
                refine lv_topi (fun x_29 e_30 => ?_)
                have te_30 : 0 ≤ x_29.toInt ∧ x_29.toInt ≤ (l2_4 : Int32).toInt := by rw [e_30]; exact and_rng (by omega)
                refine lv_istore (lv' := [(5, .int x_29), (0, .ref (al.2 84 0)), (1, .int 31), (2, .int l2_4), (3, .int l3_12), (4, .int l4_13)]) hx hb dX3_fewestPayments_41 hl (by decide) rfl (fun ls hl => ?_)
                refine lv_iload hx hb dX3_fewestPayments_43 (lv_at hl 0 rfl) ?_
                refine lv_iload_n hx hb dX3_fewestPayments_45 rfl (lv_at hl 3 rfl) ?_
                have J_61 : ∀ (l3_31 : Int32) (H : Heap) (locs : List Loc) (ls : Array Slot), lv_has ls 6 [(0, .ref (al.2 84 0)), (1, .int 31), (2, .int l2_4), (4, .int l4_13), (3, .int l3_31)] → UW D cA sz al iv_5 rv_6 H → va_S (Aq sz) s.heap H locs → W p l e (rm 1) s m args below meth c H locs 0 0 Q (F0 m 61 ls []) := by
                  intro l3_31 H locs ls hl hU hS
                  obtain ⟨x_32, e_33⟩ : ∃ y : Int32, y = l4_13 + 1 := ⟨_, rfl⟩
                  have te_33 : x_32.toInt = (l4_13 : Int32).toInt + (1 : Int32).toInt := by rw [e_33]; exact fb_addI (by omega) (by omega)
                  refine lv_iinc (v := x_32) (lv' := [(4, .int x_32), (0, .ref (al.2 84 0)), (1, .int 31), (2, .int l2_4), (3, .int l3_31)]) hx hb dX3_fewestPayments_61 hl (k := 3) rfl (by rw [e_33]; rfl) (by decide) rfl (fun ls hl => ?_)
                  refine lv_goto (tgt := 27) hx hb dX3_fewestPayments_64 (by decide) ?_
                  exact ih_27 l3_31 x_32 _ _ _ (lv_sub hl [1, 2, 3, 4, 0] rfl) hU hS (by omega) (by omega)
                refine b_icmp_eq (tgt := 61) hx hb dX3_fewestPayments_46 (by decide) (fun c_34 => ?_) (fun c_34 => ?_)
                ·
                  exact J_61 l3_12 _ _ _ (lv_sub hl [1, 2, 3, 5, 4] rfl) hU hS
                ·
                  refine lv_iload_n hx hb dX3_fewestPayments_49 rfl (lv_at hl 4 rfl) ?_
                  refine lv_aload_n hx hb dX3_fewestPayments_50 rfl (lv_at hl 1 rfl) ?_
                  refine g_84_3 C hU hG (h1_84 hG) fl_X3_21 dX3_fewestPayments_51 ?_
                  refine lv_iload hx hb dX3_fewestPayments_54 (lv_at hl 0 rfl) ?_
                  refine a_87 C hU hG (h1_87 hG) (x := x_29) (by omega) (by omega) dX3_fewestPayments_56 (fun x_35 e_36 => ?_)
                  have te_36 := congrArg Int32.toInt e_36
                  refine q_max C hl.1 ml_X3_52 (Nat.le_of_ble_eq_true rfl) (Nat.le_of_ble_eq_true rfl) (Nat.le_refl _) (Nat.le_refl _) dX3_fewestPayments_57 (fun x_37 q_38 tq_38 => ?_)
                  refine lv_istore_n (lv' := [(3, .int x_37), (5, .int x_29), (0, .ref (al.2 84 0)), (1, .int 31), (2, .int l2_4), (4, .int l4_13)]) hx hb dX3_fewestPayments_60 rfl hl (by decide) rfl (fun ls hl => ?_)
                  exact J_61 x_37 _ _ _ (lv_sub hl [2, 3, 4, 5, 0] rfl) hU hS
          exact J_27 _ 0 0 _ _ _ (lv_sub hl [2, 3, 4, 1, 0] rfl) hU hS (by omega) (Nat.lt_succ_self _)
    exact J_16 _ 1 _ _ _ _ _ (lv_sub hl [2, 1, 0] rfl) hG hF1 hF2 hU hS (by omega) (Nat.lt_succ_self _)
  ·
    refine lv_bipush (v := (-9)) hx hb dX3_fewestPayments_11 (by decide) ?_
    exact hret (⟨hG, hF1, hF2, trivial⟩) hU hS dX3_fewestPayments_13
set_option maxHeartbeats 4000000 in
set_option maxRecDepth 100000 in
theorem c_X1_add {l : Launch} {D : va_G} {cA : FieldType → ClassId} {sz : Nat} {al : Al} {iv : Iv} {rv : Rv} (hG : GI al iv rv) (a : Int32) (cs : Int32) (mm : Int32) (far : Int32) (won : Int32) (cost : Int32) (pre0 : (iv 90 0 6).toInt < 40) (pre1 : 0 ≤ a.toInt ∧ a.toInt ≤ 9999) (pre2 : 0 ≤ cs.toInt ∧ cs.toInt ≤ 9999) (pre3 : 0 ≤ mm.toInt ∧ mm.toInt ≤ 9999) (pre4 : 0 ≤ far.toInt ∧ far.toInt ≤ 9999) (pre5 : 0 ≤ cost.toInt ∧ cost.toInt ≤ 9999) (pre6 : 0 ≤ won.toInt ∧ won.toInt ≤ 1) : Met l yX1_add (wd yX1_add cX1_add 7 (some .int)) (rm 0) (PcW D cA sz al iv rv [.ref (al.2 90 0), .int a, .int cs, .int mm, .int far, .int won, .int cost]) (QI D cA sz al (fI al ([91, 92, 93, 94, 95, 96], [(90, 6)]) iv rv (fun r iv' rv' => True))) 0 0 (Aq sz) := by
  refine mk_i (by decide) (Nat.le_of_ble_eq_true rfl) rfl ?_
  intro p e s m args below meth c ls Q H locs C hU hS hl hret
  have hx := C.1.1
  have hb := C.1.2.1
  have hl : lv_has ls 7 [(0, .ref (al.2 90 0)), (1, .int a), (2, .int cs), (3, .int mm), (4, .int far), (5, .int won), (6, .int cost)] := hl
  have hG0 := hG
  have hF1 : FR ([91, 92, 93, 94, 95, 96], [(90, 6)]) iv iv := FR.rf
  have hF2 : FR ([91, 92, 93, 94, 95, 96], [(90, 6)]) rv rv := FR.rf
  have k1 : (1 : Int32).toInt = 1 := by decide
  refine lv_aload_n hx hb dX1_add_0 rfl (lv_at hl 0 rfl) ?_
  refine g_90_0 C hU hG (h1_90 hG) fl_X1_11 dX1_add_1 ?_
  refine lv_aload_n hx hb dX1_add_4 rfl (lv_at hl 0 rfl) ?_
  refine g_90_6 C hU hG (h1_90 hG) fl_X1_34 dX1_add_5 (fun x_1 e_2 le_2 ue_2 => ?_)
  have te_2 := congrArg Int32.toInt e_2
  refine lv_iload_n hx hb dX1_add_8 rfl (lv_at hl 1 rfl) ?_
  refine s_91 C hU hS (h1_91 hG) (x := x_1) (by omega) (by omega) dX1_add_9 (fun iv_3 H locs ei_4 hU hS => ?_)
  have hG : GI al iv_3 rv := by rw [ei_4]; exact hG.puti (show _ ∧ _ from ⟨show (0 : Int) ≤ _ by omega, show _ ≤ (9999 : Int) by omega⟩) (nsA (by decide) _)
  have hF1 : FR ([91, 92, 93, 94, 95, 96], [(90, 6)]) iv iv_3 := by rw [ei_4]; exact hF1.put (Or.inl (by decide))
  have kf_5 := congrArg Int32.toInt (show iv_3 90 0 6 = iv 90 0 6 by rw [ei_4]; exact up3_ne (fun z => absurd z.1 (by decide)))
  refine lv_aload_n hx hb dX1_add_10 rfl (lv_at hl 0 rfl) ?_
  refine g_90_1 C hU hG (h1_90 hG) fl_X1_15 dX1_add_11 ?_
  refine lv_aload_n hx hb dX1_add_14 rfl (lv_at hl 0 rfl) ?_
  refine g_90_6 C hU hG (h1_90 hG) fl_X1_34 dX1_add_15 (fun x_6 e_7 le_7 ue_7 => ?_)
  have te_7 := congrArg Int32.toInt e_7
  refine lv_iload_n hx hb dX1_add_18 rfl (lv_at hl 2 rfl) ?_
  refine s_92 C hU hS (h1_92 hG) (x := x_6) (by omega) (by omega) dX1_add_19 (fun iv_8 H locs ei_9 hU hS => ?_)
  have hG : GI al iv_8 rv := by rw [ei_9]; exact hG.puti (show _ ∧ _ from ⟨show (0 : Int) ≤ _ by omega, show _ ≤ (9999 : Int) by omega⟩) (nsA (by decide) _)
  have hF1 : FR ([91, 92, 93, 94, 95, 96], [(90, 6)]) iv iv_8 := by rw [ei_9]; exact hF1.put (Or.inl (by decide))
  have kf_10 := congrArg Int32.toInt (show iv_8 90 0 6 = iv_3 90 0 6 by rw [ei_9]; exact up3_ne (fun z => absurd z.1 (by decide)))
  refine lv_aload_n hx hb dX1_add_20 rfl (lv_at hl 0 rfl) ?_
  refine g_90_2 C hU hG (h1_90 hG) fl_X1_18 dX1_add_21 ?_
  refine lv_aload_n hx hb dX1_add_24 rfl (lv_at hl 0 rfl) ?_
  refine g_90_6 C hU hG (h1_90 hG) fl_X1_34 dX1_add_25 (fun x_11 e_12 le_12 ue_12 => ?_)
  have te_12 := congrArg Int32.toInt e_12
  refine lv_iload_n hx hb dX1_add_28 rfl (lv_at hl 3 rfl) ?_
  refine s_93 C hU hS (h1_93 hG) (x := x_11) (by omega) (by omega) dX1_add_29 (fun iv_13 H locs ei_14 hU hS => ?_)
  have hG : GI al iv_13 rv := by rw [ei_14]; exact hG.puti (show _ ∧ _ from ⟨show (0 : Int) ≤ _ by omega, show _ ≤ (9999 : Int) by omega⟩) (nsA (by decide) _)
  have hF1 : FR ([91, 92, 93, 94, 95, 96], [(90, 6)]) iv iv_13 := by rw [ei_14]; exact hF1.put (Or.inl (by decide))
  have kf_15 := congrArg Int32.toInt (show iv_13 90 0 6 = iv_8 90 0 6 by rw [ei_14]; exact up3_ne (fun z => absurd z.1 (by decide)))
  refine lv_aload_n hx hb dX1_add_30 rfl (lv_at hl 0 rfl) ?_
  refine g_90_3 C hU hG (h1_90 hG) fl_X1_21 dX1_add_31 ?_
  refine lv_aload_n hx hb dX1_add_34 rfl (lv_at hl 0 rfl) ?_
  refine g_90_6 C hU hG (h1_90 hG) fl_X1_34 dX1_add_35 (fun x_16 e_17 le_17 ue_17 => ?_)
  have te_17 := congrArg Int32.toInt e_17
  refine lv_iload hx hb dX1_add_38 (lv_at hl 4 rfl) ?_
  refine s_94 C hU hS (h1_94 hG) (x := x_16) (by omega) (by omega) dX1_add_40 (fun iv_18 H locs ei_19 hU hS => ?_)
  have hG : GI al iv_18 rv := by rw [ei_19]; exact hG.puti (show _ ∧ _ from ⟨show (0 : Int) ≤ _ by omega, show _ ≤ (9999 : Int) by omega⟩) (nsA (by decide) _)
  have hF1 : FR ([91, 92, 93, 94, 95, 96], [(90, 6)]) iv iv_18 := by rw [ei_19]; exact hF1.put (Or.inl (by decide))
  have kf_20 := congrArg Int32.toInt (show iv_18 90 0 6 = iv_13 90 0 6 by rw [ei_19]; exact up3_ne (fun z => absurd z.1 (by decide)))
  refine lv_aload_n hx hb dX1_add_41 rfl (lv_at hl 0 rfl) ?_
  refine g_90_4 C hU hG (h1_90 hG) fl_X1_24 dX1_add_42 ?_
  refine lv_aload_n hx hb dX1_add_45 rfl (lv_at hl 0 rfl) ?_
  refine g_90_6 C hU hG (h1_90 hG) fl_X1_34 dX1_add_46 (fun x_21 e_22 le_22 ue_22 => ?_)
  have te_22 := congrArg Int32.toInt e_22
  refine lv_iload hx hb dX1_add_49 (lv_at hl 5 rfl) ?_
  refine s_95 C hU hS (h1_95 hG) (x := x_21) (by omega) (by omega) (by omega) (by omega) dX1_add_51 (fun iv_23 H locs ei_24 hU hS => ?_)
  have hG : GI al iv_23 rv := by rw [ei_24]; exact hG.puti (show _ ∧ _ from ⟨show (0 : Int) ≤ _ by omega, show _ ≤ (1 : Int) by omega⟩) (nsA (by decide) _)
  have hF1 : FR ([91, 92, 93, 94, 95, 96], [(90, 6)]) iv iv_23 := by rw [ei_24]; exact hF1.put (Or.inl (by decide))
  have kf_25 := congrArg Int32.toInt (show iv_23 90 0 6 = iv_18 90 0 6 by rw [ei_24]; exact up3_ne (fun z => absurd z.1 (by decide)))
  refine lv_aload_n hx hb dX1_add_52 rfl (lv_at hl 0 rfl) ?_
  refine g_90_5 C hU hG (h1_90 hG) fl_X1_28 dX1_add_53 ?_
  refine lv_aload_n hx hb dX1_add_56 rfl (lv_at hl 0 rfl) ?_
  refine g_90_6 C hU hG (h1_90 hG) fl_X1_34 dX1_add_57 (fun x_26 e_27 le_27 ue_27 => ?_)
  have te_27 := congrArg Int32.toInt e_27
  refine lv_iload hx hb dX1_add_60 (lv_at hl 6 rfl) ?_
  refine s_96 C hU hS (h1_96 hG) (x := x_26) (by omega) (by omega) dX1_add_62 (fun iv_28 H locs ei_29 hU hS => ?_)
  have hG : GI al iv_28 rv := by rw [ei_29]; exact hG.puti (show _ ∧ _ from ⟨show (0 : Int) ≤ _ by omega, show _ ≤ (9999 : Int) by omega⟩) (nsA (by decide) _)
  have hF1 : FR ([91, 92, 93, 94, 95, 96], [(90, 6)]) iv iv_28 := by rw [ei_29]; exact hF1.put (Or.inl (by decide))
  have kf_30 := congrArg Int32.toInt (show iv_28 90 0 6 = iv_23 90 0 6 by rw [ei_29]; exact up3_ne (fun z => absurd z.1 (by decide)))
  refine lv_aload_n hx hb dX1_add_63 rfl (lv_at hl 0 rfl) ?_
  refine lv_dup hx hb dX1_add_64 rfl ?_
  refine g_90_6 C hU hG (h1_90 hG) fl_X1_34 dX1_add_65 (fun x_31 e_32 le_32 ue_32 => ?_)
  have te_32 := congrArg Int32.toInt e_32
  refine lv_iconst (v := 1) hx hb dX1_add_68 (by decide) ?_
  refine lv_iadd hx hb dX1_add_69 ?_
  refine lv_topi (fun x_33 e_34 => ?_)
  have te_34 : x_33.toInt = (x_31 : Int32).toInt + (1 : Int32).toInt := by rw [e_34]; exact fb_addI (by omega) (by omega)
  refine p_90_6 C hU hS (h1_90 hG) fl_X1_34 dX1_add_70 (fun iv_35 H locs ei_36 hU hS => ?_)
  have hG : GI al iv_35 rv := by rw [ei_36]; exact hG.puti (show _ ∧ _ from ⟨show (0 : Int) ≤ _ by omega, show _ ≤ (40 : Int) by omega⟩) (nsF (by decide))
  have hF1 : FR ([91, 92, 93, 94, 95, 96], [(90, 6)]) iv iv_35 := by rw [ei_36]; exact hF1.put (by decide)
  refine lv_aload_n hx hb dX1_add_73 rfl (lv_at hl 0 rfl) ?_
  refine g_90_6 C hU hG (h1_90 hG) fl_X1_34 dX1_add_74 (fun x_37 e_38 le_38 ue_38 => ?_)
  have te_38 := congrArg Int32.toInt e_38
  refine lv_iconst (v := 1) hx hb dX1_add_77 (by decide) ?_
  refine lv_isub hx hb dX1_add_78 ?_
  refine lv_topi (fun x_39 e_40 => ?_)
  have te_40 : x_39.toInt = (x_37 : Int32).toInt - (1 : Int32).toInt := by rw [e_40]; exact fb_subI (by omega) (by omega)
  exact hret (⟨hG, hF1, hF2, trivial⟩) hU hS dX1_add_79
set_option maxHeartbeats 4000000 in
set_option maxRecDepth 100000 in
theorem c_X1_measure {l : Launch} {D : va_G} {cA : FieldType → ClassId} {sz : Nat} {al : Al} {iv : Iv} {rv : Rv} (hG : GI al iv rv) (a : Int32) (cs : Int32) (mm : Int32) (far : Int32) : Met l yX1_measure (wd yX1_measure cX1_measure 8 none) (rm 1) (PcW D cA sz al iv rv [.ref (al.2 90 0), .int a, .int cs, .int mm, .int far]) (QV D cA sz al (fV al ([97], []) iv rv (fun iv' rv' => True))) 0 0 (Aq sz) := by
  refine mk_v (by decide) (Nat.le_of_ble_eq_true rfl) rfl ?_
  intro p e s m args below meth c ls Q H locs C hU hS hl hret
  have hx := C.1.1
  have hb := C.1.2.1
  have hl : lv_has ls 8 [(0, .ref (al.2 90 0)), (1, .int a), (2, .int cs), (3, .int mm), (4, .int far)] := hl
  have hG0 := hG
  have hF1 : FR ([97], []) iv iv := FR.rf
  have hF2 : FR ([97], []) rv rv := FR.rf
  have km1 : ((-1) : Int32).toInt = -1 := by decide
  have k0 : (0 : Int32).toInt = 0 := by decide
  have k1 : (1 : Int32).toInt = 1 := by decide
  have k10 : (10 : Int32).toInt = 10 := by decide
  have k50 : (50 : Int32).toInt = 50 := by decide
  refine lv_iconst (v := 0) hx hb dX1_measure_0 (by decide) ?_
  refine lv_istore (lv' := [(5, .int 0), (0, .ref (al.2 90 0)), (1, .int a), (2, .int cs), (3, .int mm), (4, .int far)]) hx hb dX1_measure_1 hl (by decide) rfl (fun ls hl => ?_)
  have J_3 : ∀ (n_3 : Nat) (l5_1 : Int32) (iv_2 : Iv) (rv_3 : Rv) (H : Heap) (locs : List Loc) (ls : Array Slot), lv_has ls 8 [(0, .ref (al.2 90 0)), (1, .int a), (2, .int cs), (3, .int mm), (4, .int far), (5, .int l5_1)] → GI al iv_2 rv_3 → FR ([97], []) iv iv_2 → FR ([97], []) rv rv_3 → UW D cA sz al iv_2 rv_3 H → va_S (Aq sz) s.heap H locs → (0 ≤ l5_1.toInt ∧ l5_1.toInt ≤ 40) → (40 - l5_1.toInt).toNat < n_3 → W p l e (rm 1) s m args below meth c H locs 0 0 Q (F0 m 3 ls []) := by
    intro n_3
    induction n_3 with
    | zero =>
      intro l5_1 iv_2 rv_3 H locs ls hl hG hF1 hF2 hU hS i3_0 hm_3
      exact absurd hm_3 (Nat.not_lt_zero _)
    | succ n_3 ih_3 =>
      intro l5_1 iv_2 rv_3 H locs ls hl hG hF1 hF2 hU hS i3_0 hm_3
      refine lv_iload hx hb dX1_measure_3 (lv_at hl 5 rfl) ?_
      refine lv_aload_n hx hb dX1_measure_5 rfl (lv_at hl 0 rfl) ?_
      refine g_90_6 C hU hG (h1_90 hG) fl_X1_34 dX1_measure_6 (fun x_4 e_5 le_5 ue_5 => ?_)
      have te_5 := congrArg Int32.toInt e_5
      have ne_5 : x_4.toInt = (iv 90 0 6).toInt := by rw [e_5, hF1 90 0 6 (by decide)]
      refine b_icmp_ge (tgt := 99) hx hb dX1_measure_9 (by decide) (fun c_6 => ?_) (fun c_6 => ?_)
      ·
        exact hret (⟨hG, hF1, hF2, trivial⟩) hU hS dX1_measure_99
      ·
        refine lv_aload_n hx hb dX1_measure_12 rfl (lv_at hl 0 rfl) ?_
        refine g_90_0 C hU hG (h1_90 hG) fl_X1_11 dX1_measure_13 ?_
        refine lv_iload hx hb dX1_measure_16 (lv_at hl 5 rfl) ?_
        refine a_91 C hU hG (h1_91 hG) (x := l5_1) (by omega) (by omega) dX1_measure_18 (fun x_7 e_8 le_8 ue_8 => ?_)
        have te_8 := congrArg Int32.toInt e_8
        have ne_8 : x_7.toInt = (iv 91 0 (l5_1 : Int32).toNatClampNeg).toInt := by rw [e_8, hF1.arr 91 0 (l5_1 : Int32).toNatClampNeg (by decide)]
        refine lv_iload_n hx hb dX1_measure_19 rfl (lv_at hl 1 rfl) ?_
        have J_39 : ∀ (v_9 : Int32) (ls : Array Slot), lv_has ls 8 [(0, .ref (al.2 90 0)), (1, .int a), (2, .int cs), (3, .int mm), (4, .int far), (5, .int l5_1)] → (0 ≤ v_9.toInt ∧ v_9.toInt ≤ 1) → W p l e (rm 1) s m args below meth c H locs 0 0 Q (F0 m 39 ls [.int v_9]) := by
          intro v_9 ls hl i39_0
          refine lv_istore (lv' := [(6, .int v_9), (0, .ref (al.2 90 0)), (1, .int a), (2, .int cs), (3, .int mm), (4, .int far), (5, .int l5_1)]) hx hb dX1_measure_39 hl (by decide) rfl (fun ls hl => ?_)
          refine lv_aload_n hx hb dX1_measure_41 rfl (lv_at hl 1 rfl) ?_
          refine g_90_2 C hU hG (h1_90 hG) fl_X1_18 dX1_measure_42 ?_
          refine lv_iload hx hb dX1_measure_45 (lv_at hl 6 rfl) ?_
          refine a_93 C hU hG (h1_93 hG) (x := l5_1) (by omega) (by omega) dX1_measure_47 (fun x_10 e_11 le_11 ue_11 => ?_)
          have te_11 := congrArg Int32.toInt e_11
          have ne_11 : x_10.toInt = (iv 93 0 (l5_1 : Int32).toNatClampNeg).toInt := by rw [e_11, hF1.arr 93 0 (l5_1 : Int32).toNatClampNeg (by decide)]
          refine lv_iload_n hx hb dX1_measure_48 rfl (lv_at hl 4 rfl) ?_
          refine lv_isub hx hb dX1_measure_49 ?_
          refine lv_topi (fun x_12 e_13 => ?_)
          refine q_abs C hl.1 ml_X1_38 (Nat.le_of_ble_eq_true rfl) (Nat.le_of_ble_eq_true rfl) (Nat.le_refl _) (Nat.le_refl _) dX1_measure_50 (fun x_14 q_15 => ?_)
          refine lv_bipush (v := 10) hx hb dX1_measure_53 (by decide) ?_
          refine lv_idiv hx hb dX1_measure_55 (by decide) ?_
          refine lv_topi (fun x_16 e_17 => ?_)
          refine lv_aload_n hx hb dX1_measure_56 rfl (lv_at hl 1 rfl) ?_
          refine g_90_3 C hU hG (h1_90 hG) fl_X1_21 dX1_measure_57 ?_
          refine lv_iload hx hb dX1_measure_60 (lv_at hl 6 rfl) ?_
          refine a_94 C hU hG (h1_94 hG) (x := l5_1) (by omega) (by omega) dX1_measure_62 (fun x_18 e_19 le_19 ue_19 => ?_)
          have te_19 := congrArg Int32.toInt e_19
          have ne_19 : x_18.toInt = (iv 94 0 (l5_1 : Int32).toNatClampNeg).toInt := by rw [e_19, hF1.arr 94 0 (l5_1 : Int32).toNatClampNeg (by decide)]
          refine lv_iload hx hb dX1_measure_63 (lv_at hl 5 rfl) ?_
          refine lv_isub hx hb dX1_measure_65 ?_
          refine lv_topi (fun x_20 e_21 => ?_)
          refine q_abs C hl.1 ml_X1_38 (Nat.le_of_ble_eq_true rfl) (Nat.le_of_ble_eq_true rfl) (Nat.le_refl _) (Nat.le_refl _) dX1_measure_66 (fun x_22 q_23 => ?_)
          refine lv_bipush (v := 50) hx hb dX1_measure_69 (by decide) ?_
          refine lv_idiv hx hb dX1_measure_71 (by decide) ?_
          refine lv_topi (fun x_24 e_25 => ?_)
          refine lv_iadd hx hb dX1_measure_72 ?_
          refine lv_topi (fun x_26 e_27 => ?_)
          refine lv_istore (lv' := [(7, .int x_26), (6, .int v_9), (0, .ref (al.2 90 0)), (1, .int a), (2, .int cs), (3, .int mm), (4, .int far), (5, .int l5_1)]) hx hb dX1_measure_73 hl (by decide) rfl (fun ls hl => ?_)
          refine lv_aload_n hx hb dX1_measure_75 rfl (lv_at hl 2 rfl) ?_
          refine g_90_7 C hU hG (h1_90 hG) fl_X1_31 dX1_measure_76 ?_
          refine lv_iload hx hb dX1_measure_79 (lv_at hl 7 rfl) ?_
          refine lv_iload hx hb dX1_measure_81 (lv_at hl 1 rfl) ?_
          have J_92 : ∀ (v_28 : Int32) (ls : Array Slot), lv_has ls 8 [(0, .ref (al.2 90 0)), (1, .int a), (2, .int cs), (3, .int mm), (4, .int far), (5, .int l5_1)] → W p l e (rm 1) s m args below meth c H locs 0 0 Q (F0 m 92 ls [.int v_28, .int l5_1, .ref (al.2 97 0)]) := by
            intro v_28 ls hl
            refine s_97 C hU hS (h1_97 hG) (x := l5_1) (by omega) (by omega) dX1_measure_92 (fun iv_29 H locs ei_30 hU hS => ?_)
            have hG : GI al iv_29 rv_3 := by rw [ei_30]; exact hG.puti (show _ ∧ _ from ⟨(fb_rng _).1, Int.le_of_lt_add_one (fb_rng _).2⟩) (nsA (by decide) _)
            have hF1 : FR ([97], []) iv iv_29 := by rw [ei_30]; exact hF1.put (Or.inl (by decide))
            obtain ⟨x_31, e_32⟩ : ∃ y : Int32, y = l5_1 + 1 := ⟨_, rfl⟩
            have te_32 : x_31.toInt = (l5_1 : Int32).toInt + (1 : Int32).toInt := by rw [e_32]; exact fb_addI (by omega) (by omega)
            refine lv_iinc (v := x_31) (lv' := [(5, .int x_31), (0, .ref (al.2 90 0)), (1, .int a), (2, .int cs), (3, .int mm), (4, .int far)]) hx hb dX1_measure_93 hl (k := 5) rfl (by rw [e_32]; rfl) (by decide) rfl (fun ls hl => ?_)
            refine lv_goto (tgt := 3) hx hb dX1_measure_96 (by decide) ?_
            exact ih_3 x_31 _ _ _ _ _ (lv_sub hl [1, 2, 3, 4, 5, 0] rfl) hG hF1 hF2 hU hS (by omega) (by omega)
          refine b_if_eq (tgt := 91) hx hb dX1_measure_83 (by decide) (fun c_33 => ?_) (fun c_33 => ?_)
          ·
            refine lv_iconst (v := (-1)) hx hb dX1_measure_91 (by decide) ?_
            exact J_92 (-1) _ (lv_sub hl [2, 3, 4, 5, 6, 7] rfl)
          ·
            refine lv_iload hx hb dX1_measure_86 (lv_at hl 0 rfl) ?_
            refine lv_goto (tgt := 92) hx hb dX1_measure_88 (by decide) ?_
            exact J_92 x_26 _ (lv_sub hl [2, 3, 4, 5, 6, 7] rfl)
        have J_38 : ∀ (ls : Array Slot), lv_has ls 8 [(0, .ref (al.2 90 0)), (1, .int a), (2, .int cs), (3, .int mm), (4, .int far), (5, .int l5_1)] → W p l e (rm 1) s m args below meth c H locs 0 0 Q (F0 m 38 ls []) := by
          intro ls hl
          refine lv_iconst (v := 0) hx hb dX1_measure_38 (by decide) ?_
          exact J_39 0 _ (lv_sub hl [0, 1, 2, 3, 4, 5] rfl) (by omega)
        refine b_icmp_ne (tgt := 38) hx hb dX1_measure_20 (by decide) (fun c_34 => ?_) (fun c_34 => ?_)
        ·
          exact J_38 _ (lv_sub hl [0, 1, 2, 3, 4, 5] rfl)
        ·
          refine lv_aload_n hx hb dX1_measure_23 rfl (lv_at hl 0 rfl) ?_
          refine g_90_1 C hU hG (h1_90 hG) fl_X1_15 dX1_measure_24 ?_
          refine lv_iload hx hb dX1_measure_27 (lv_at hl 5 rfl) ?_
          refine a_92 C hU hG (h1_92 hG) (x := l5_1) (by omega) (by omega) dX1_measure_29 (fun x_35 e_36 le_36 ue_36 => ?_)
          have te_36 := congrArg Int32.toInt e_36
          have ne_36 : x_35.toInt = (iv 92 0 (l5_1 : Int32).toNatClampNeg).toInt := by rw [e_36, hF1.arr 92 0 (l5_1 : Int32).toNatClampNeg (by decide)]
          refine lv_iload_n hx hb dX1_measure_30 rfl (lv_at hl 2 rfl) ?_
          refine b_icmp_ne (tgt := 38) hx hb dX1_measure_31 (by decide) (fun c_37 => ?_) (fun c_37 => ?_)
          ·
            exact J_38 _ (lv_sub hl [0, 1, 2, 3, 4, 5] rfl)
          ·
            refine lv_iconst (v := 1) hx hb dX1_measure_34 (by decide) ?_
            refine lv_goto (tgt := 39) hx hb dX1_measure_35 (by decide) ?_
            exact J_39 1 _ (lv_sub hl [0, 1, 2, 3, 4, 5] rfl) (by omega)
  exact J_3 _ 0 _ _ _ _ _ (lv_sub hl [1, 2, 3, 4, 5, 0] rfl) hG hF1 hF2 hU hS (by omega) (Nat.lt_succ_self _)
set_option maxHeartbeats 4000000 in
set_option maxRecDepth 100000 in
theorem c_X1_leastFar {l : Launch} {D : va_G} {cA : FieldType → ClassId} {sz : Nat} {al : Al} {iv : Iv} {rv : Rv} (hG : GI al iv rv) : Met l yX1_leastFar (wd yX1_leastFar cX1_leastFar 3 (some .int)) (rm 0) (PcW D cA sz al iv rv [.ref (al.2 90 0)]) (QI D cA sz al (pI iv rv (fun r => (-9 ≤ r.toInt ∧ r.toInt ≤ 39) ∧ (r.toInt = -9 ∨ 0 ≤ r.toInt)))) 0 0 (Aq sz) := by
  refine mk_i (by decide) (Nat.le_of_ble_eq_true rfl) rfl ?_
  intro p e s m args below meth c ls Q H locs C hU hS hl hret
  have hx := C.1.1
  have hb := C.1.2.1
  have hl : lv_has ls 3 [(0, .ref (al.2 90 0))] := hl
  have hG0 := hG
  have km9 : ((-9) : Int32).toInt = -9 := by decide
  have km1 : ((-1) : Int32).toInt = -1 := by decide
  have k0 : (0 : Int32).toInt = 0 := by decide
  have k1 : (1 : Int32).toInt = 1 := by decide
  refine lv_bipush (v := (-9)) hx hb dX1_leastFar_0 (by decide) ?_
  refine lv_istore_n (lv' := [(1, .int (-9)), (0, .ref (al.2 90 0))]) hx hb dX1_leastFar_2 rfl hl (by decide) rfl (fun ls hl => ?_)
  refine lv_iconst (v := 0) hx hb dX1_leastFar_3 (by decide) ?_
  refine lv_istore_n (lv' := [(2, .int 0), (1, .int (-9)), (0, .ref (al.2 90 0))]) hx hb dX1_leastFar_4 rfl hl (by decide) rfl (fun ls hl => ?_)
  have J_5 : ∀ (n_5 : Nat) (l1_1 : Int32) (l2_2 : Int32) (ls : Array Slot), lv_has ls 3 [(0, .ref (al.2 90 0)), (1, .int l1_1), (2, .int l2_2)] → (-9 ≤ l1_1.toInt ∧ l1_1.toInt ≤ 39) → (0 ≤ l2_2.toInt ∧ l2_2.toInt ≤ 40) → l1_1.toInt = -9 ∨ 0 ≤ l1_1.toInt → (40 - l2_2.toInt).toNat < n_5 → W p l e (rm 0) s m args below meth c H locs 0 0 Q (F0 m 5 ls []) := by
    intro n_5
    induction n_5 with
    | zero =>
      intro l1_1 l2_2 ls hl i5_0 i5_1 i5_2 hm_5
      exact absurd hm_5 (Nat.not_lt_zero _)
    | succ n_5 ih_5 =>
      intro l1_1 l2_2 ls hl i5_0 i5_1 i5_2 hm_5
      refine lv_iload_n hx hb dX1_leastFar_5 rfl (lv_at hl 2 rfl) ?_
      refine lv_aload_n hx hb dX1_leastFar_6 rfl (lv_at hl 0 rfl) ?_
      refine g_90_6 C hU hG (h1_90 hG) fl_X1_34 dX1_leastFar_7 (fun x_3 e_4 le_4 ue_4 => ?_)
      have te_4 := congrArg Int32.toInt e_4
      refine b_icmp_ge (tgt := 55) hx hb dX1_leastFar_10 (by decide) (fun c_5 => ?_) (fun c_5 => ?_)
      ·
        refine lv_iload_n hx hb dX1_leastFar_55 rfl (lv_at hl 1 rfl) ?_
        exact hret (⟨rfl, rfl, ⟨⟨by omega, by omega⟩, by omega⟩⟩) hU hS dX1_leastFar_56
      ·
        refine lv_aload_n hx hb dX1_leastFar_13 rfl (lv_at hl 0 rfl) ?_
        refine g_90_7 C hU hG (h1_90 hG) fl_X1_31 dX1_leastFar_14 ?_
        refine lv_iload_n hx hb dX1_leastFar_17 rfl (lv_at hl 2 rfl) ?_
        refine a_97 C hU hG (h1_97 hG) (x := l2_2) (by omega) (by omega) dX1_leastFar_18 (fun x_6 e_7 => ?_)
        have te_7 := congrArg Int32.toInt e_7
        refine lv_iconst (v := (-1)) hx hb dX1_leastFar_19 (by decide) ?_
        have J_49 : ∀ (l1_8 : Int32) (ls : Array Slot), lv_has ls 3 [(0, .ref (al.2 90 0)), (2, .int l2_2), (1, .int l1_8)] → (-9 ≤ l1_8.toInt ∧ l1_8.toInt ≤ 39) → l1_8.toInt = -9 ∨ 0 ≤ l1_8.toInt → W p l e (rm 0) s m args below meth c H locs 0 0 Q (F0 m 49 ls []) := by
          intro l1_8 ls hl i49_0 i49_1
          obtain ⟨x_9, e_10⟩ : ∃ y : Int32, y = l2_2 + 1 := ⟨_, rfl⟩
          have te_10 : x_9.toInt = (l2_2 : Int32).toInt + (1 : Int32).toInt := by rw [e_10]; exact fb_addI (by omega) (by omega)
          refine lv_iinc (v := x_9) (lv' := [(2, .int x_9), (0, .ref (al.2 90 0)), (1, .int l1_8)]) hx hb dX1_leastFar_49 hl (k := 1) rfl (by rw [e_10]; rfl) (by decide) rfl (fun ls hl => ?_)
          refine lv_goto (tgt := 5) hx hb dX1_leastFar_52 (by decide) ?_
          exact ih_5 l1_8 x_9 _ (lv_sub hl [1, 2, 0] rfl) (by omega) (by omega) (by omega) (by omega)
        refine b_icmp_ne (tgt := 26) hx hb dX1_leastFar_20 (by decide) (fun c_11 => ?_) (fun c_11 => ?_)
        ·
          refine lv_iload_n hx hb dX1_leastFar_26 rfl (lv_at hl 1 rfl) ?_
          refine lv_bipush (v := (-9)) hx hb dX1_leastFar_27 (by decide) ?_
          have J_47 : ∀ (ls : Array Slot), lv_has ls 3 [(0, .ref (al.2 90 0)), (2, .int l2_2)] → W p l e (rm 0) s m args below meth c H locs 0 0 Q (F0 m 47 ls []) := by
            intro ls hl
            refine lv_iload_n hx hb dX1_leastFar_47 rfl (lv_at hl 1 rfl) ?_
            refine lv_istore_n (lv' := [(1, .int l2_2), (0, .ref (al.2 90 0)), (2, .int l2_2)]) hx hb dX1_leastFar_48 rfl hl (by decide) rfl (fun ls hl => ?_)
            exact J_49 l2_2 _ (lv_sub hl [1, 2, 0] rfl) (by omega) (by omega)
          refine b_icmp_eq (tgt := 47) hx hb dX1_leastFar_29 (by decide) (fun c_12 => ?_) (fun c_12 => ?_)
          ·
            exact J_47 _ (lv_sub hl [0, 2] rfl)
          ·
            refine lv_aload_n hx hb dX1_leastFar_32 rfl (lv_at hl 0 rfl) ?_
            refine g_90_7 C hU hG (h1_90 hG) fl_X1_31 dX1_leastFar_33 ?_
            refine lv_iload_n hx hb dX1_leastFar_36 rfl (lv_at hl 2 rfl) ?_
            refine a_97 C hU hG (h1_97 hG) (x := l2_2) (by omega) (by omega) dX1_leastFar_37 (fun x_13 e_14 => ?_)
            have te_14 := congrArg Int32.toInt e_14
            refine lv_aload_n hx hb dX1_leastFar_38 rfl (lv_at hl 0 rfl) ?_
            refine g_90_7 C hU hG (h1_90 hG) fl_X1_31 dX1_leastFar_39 ?_
            refine lv_iload_n hx hb dX1_leastFar_42 rfl (lv_at hl 1 rfl) ?_
            refine a_97 C hU hG (h1_97 hG) (x := l1_1) (by omega) (by omega) dX1_leastFar_43 (fun x_15 e_16 => ?_)
            have te_16 := congrArg Int32.toInt e_16
            refine b_icmp_ge (tgt := 49) hx hb dX1_leastFar_44 (by decide) (fun c_17 => ?_) (fun c_17 => ?_)
            ·
              exact J_49 l1_1 _ (lv_sub hl [0, 2, 1] rfl) (by omega) (by omega)
            ·
              exact J_47 _ (lv_sub hl [0, 2] rfl)
        ·
          refine lv_goto (tgt := 49) hx hb dX1_leastFar_23 (by decide) ?_
          exact J_49 l1_1 _ (lv_sub hl [0, 2, 1] rfl) (by omega) (by omega)
  exact J_5 _ (-9) 0 _ (lv_sub hl [2, 1, 0] rfl) (by omega) (by omega) (by omega) (Nat.lt_succ_self _)
set_option maxHeartbeats 4000000 in
set_option maxRecDepth 100000 in
theorem c_X1_choose {l : Launch} {D : va_G} {cA : FieldType → ClassId} {sz : Nat} {al : Al} {iv : Iv} {rv : Rv} (hG : GI al iv rv) (most : Int32) (pre0 : 0 ≤ most.toInt ∧ most.toInt ≤ 900) : Met l yX1_choose (wd yX1_choose cX1_choose 4 none) (rm 1) (PcW D cA sz al iv rv [.ref (al.2 90 0), .int most]) (QV D cA sz al (fV al ([97], [(90, 8), (90, 9), (90, 10)]) iv rv (fun iv' rv' => True))) 0 0 (Aq sz) := by
  refine mk_v (by decide) (Nat.le_of_ble_eq_true rfl) rfl ?_
  intro p e s m args below meth c ls Q H locs C hU hS hl hret
  have hx := C.1.1
  have hb := C.1.2.1
  have hl : lv_has ls 4 [(0, .ref (al.2 90 0)), (1, .int most)] := hl
  have hG0 := hG
  have hF1 : FR ([97], [(90, 8), (90, 9), (90, 10)]) iv iv := FR.rf
  have hF2 : FR ([97], [(90, 8), (90, 9), (90, 10)]) rv rv := FR.rf
  have km9 : ((-9) : Int32).toInt = -9 := by decide
  have km1 : ((-1) : Int32).toInt = -1 := by decide
  have k0 : (0 : Int32).toInt = 0 := by decide
  have k1 : (1 : Int32).toInt = 1 := by decide
  refine lv_aload_n hx hb dX1_choose_0 rfl (lv_at hl 0 rfl) ?_
  refine lv_iconst (v := 0) hx hb dX1_choose_1 (by decide) ?_
  refine p_90_8 C hU hS (h1_90 hG) fl_X1_44 dX1_choose_2 (fun iv_1 H locs ei_2 hU hS => ?_)
  have hG : GI al iv_1 rv := by rw [ei_2]; exact hG.puti (show _ ∧ _ from ⟨(fb_rng _).1, Int.le_of_lt_add_one (fb_rng _).2⟩) (nsF (by decide))
  have hF1 : FR ([97], [(90, 8), (90, 9), (90, 10)]) iv iv_1 := by rw [ei_2]; exact hF1.put (by decide)
  have kf_3 := congrArg Int32.toInt (show iv_1 90 0 9 = iv 90 0 9 by rw [ei_2]; exact up3_ne (fun z => absurd z.2.2 (by decide)))
  have kf_4 := congrArg Int32.toInt (show iv_1 90 0 10 = iv 90 0 10 by rw [ei_2]; exact up3_ne (fun z => absurd z.2.2 (by decide)))
  refine lv_aload_n hx hb dX1_choose_5 rfl (lv_at hl 0 rfl) ?_
  refine lv_iconst (v := 0) hx hb dX1_choose_6 (by decide) ?_
  refine p_90_9 C hU hS (h1_90 hG) fl_X1_47 dX1_choose_7 (fun iv_5 H locs ei_6 hU hS => ?_)
  have hG : GI al iv_5 rv := by rw [ei_6]; exact hG.puti (show _ ∧ _ from ⟨(fb_rng _).1, Int.le_of_lt_add_one (fb_rng _).2⟩) (nsF (by decide))
  have hF1 : FR ([97], [(90, 8), (90, 9), (90, 10)]) iv iv_5 := by rw [ei_6]; exact hF1.put (by decide)
  have kf_7 := congrArg Int32.toInt (show iv_5 90 0 8 = iv_1 90 0 8 by rw [ei_6]; exact up3_ne (fun z => absurd z.2.2 (by decide)))
  have kf_8 := congrArg Int32.toInt (show iv_5 90 0 10 = iv_1 90 0 10 by rw [ei_6]; exact up3_ne (fun z => absurd z.2.2 (by decide)))
  refine lv_aload_n hx hb dX1_choose_10 rfl (lv_at hl 0 rfl) ?_
  refine lv_iconst (v := 0) hx hb dX1_choose_11 (by decide) ?_
  refine p_90_10 C hU hS (h1_90 hG) fl_X1_50 dX1_choose_12 (fun iv_9 H locs ei_10 hU hS => ?_)
  have hG : GI al iv_9 rv := by rw [ei_10]; exact hG.puti (show _ ∧ _ from ⟨(fb_rng _).1, Int.le_of_lt_add_one (fb_rng _).2⟩) (nsF (by decide))
  have hF1 : FR ([97], [(90, 8), (90, 9), (90, 10)]) iv iv_9 := by rw [ei_10]; exact hF1.put (by decide)
  have kf_11 := congrArg Int32.toInt (show iv_9 90 0 8 = iv_5 90 0 8 by rw [ei_10]; exact up3_ne (fun z => absurd z.2.2 (by decide)))
  have kf_12 := congrArg Int32.toInt (show iv_9 90 0 9 = iv_5 90 0 9 by rw [ei_10]; exact up3_ne (fun z => absurd z.2.2 (by decide)))
  refine lv_iconst (v := 0) hx hb dX1_choose_15 (by decide) ?_
  refine lv_istore_n (lv' := [(2, .int 0), (0, .ref (al.2 90 0)), (1, .int most)]) hx hb dX1_choose_16 rfl hl (by decide) rfl (fun ls hl => ?_)
  have J_17 : ∀ (n_17 : Nat) (l2_13 : Int32) (iv_14 : Iv) (rv_15 : Rv) (H : Heap) (locs : List Loc) (ls : Array Slot), lv_has ls 4 [(0, .ref (al.2 90 0)), (1, .int most), (2, .int l2_13)] → GI al iv_14 rv_15 → FR ([97], [(90, 8), (90, 9), (90, 10)]) iv iv_14 → FR ([97], [(90, 8), (90, 9), (90, 10)]) rv rv_15 → UW D cA sz al iv_14 rv_15 H → va_S (Aq sz) s.heap H locs → (0 ≤ l2_13.toInt ∧ l2_13.toInt ≤ 900) → (900 - l2_13.toInt).toNat < n_17 → W p l e (rm 1) s m args below meth c H locs 0 0 Q (F0 m 17 ls []) := by
    intro n_17
    induction n_17 with
    | zero =>
      intro l2_13 iv_14 rv_15 H locs ls hl hG hF1 hF2 hU hS i17_0 hm_17
      exact absurd hm_17 (Nat.not_lt_zero _)
    | succ n_17 ih_17 =>
      intro l2_13 iv_14 rv_15 H locs ls hl hG hF1 hF2 hU hS i17_0 hm_17
      refine lv_iload_n hx hb dX1_choose_17 rfl (lv_at hl 2 rfl) ?_
      refine lv_iload_n hx hb dX1_choose_18 rfl (lv_at hl 1 rfl) ?_
      refine b_icmp_ge (tgt := 91) hx hb dX1_choose_19 (by decide) (fun c_16 => ?_) (fun c_16 => ?_)
      ·
        exact hret (⟨hG, hF1, hF2, trivial⟩) hU hS dX1_choose_91
      ·
        refine lv_aload_n hx hb dX1_choose_22 rfl (lv_at hl 0 rfl) ?_
        refine q_pi (q_runV (t := 90) (i := 0) (As := []) (rest := []) C hU (c_X1_leastFar hG  ) vm_X1_leastFar ml_X1_53 k_90.1 (hc := rfl) rfl (h1_90 hG) hl.1 rfl rfl (Nat.le_of_ble_eq_true rfl) dX1_choose_23 rfl rfl ⟨Nat.le_of_ble_eq_true rfl, Nat.le_of_ble_eq_true rfl⟩ ⟨Nat.le_refl _, Nat.le_refl _⟩) hS (fun x_18 H locs hp_17 hU hS => ?_)
        refine lv_istore_n (lv' := [(3, .int x_18), (0, .ref (al.2 90 0)), (1, .int most), (2, .int l2_13)]) hx hb dX1_choose_26 rfl hl (by decide) rfl (fun ls hl => ?_)
        refine lv_iload_n hx hb dX1_choose_27 rfl (lv_at hl 0 rfl) ?_
        refine lv_bipush (v := (-9)) hx hb dX1_choose_28 (by decide) ?_
        refine b_icmp_ne (tgt := 34) hx hb dX1_choose_30 (by decide) (fun c_19 => ?_) (fun c_19 => ?_)
        ·
          refine lv_aload_n hx hb dX1_choose_34 rfl (lv_at hl 1 rfl) ?_
          refine lv_dup hx hb dX1_choose_35 rfl ?_
          refine g_90_8 C hU hG (h1_90 hG) fl_X1_44 dX1_choose_36 (fun x_20 e_21 => ?_)
          have te_21 := congrArg Int32.toInt e_21
          refine lv_iconst (v := 1) hx hb dX1_choose_39 (by decide) ?_
          refine lv_iadd hx hb dX1_choose_40 ?_
          refine lv_topi (fun x_22 e_23 => ?_)
          refine p_90_8 C hU hS (h1_90 hG) fl_X1_44 dX1_choose_41 (fun iv_24 H locs ei_25 hU hS => ?_)
          have hG : GI al iv_24 rv_15 := by rw [ei_25]; exact hG.puti (show _ ∧ _ from ⟨(fb_rng _).1, Int.le_of_lt_add_one (fb_rng _).2⟩) (nsF (by decide))
          have hF1 : FR ([97], [(90, 8), (90, 9), (90, 10)]) iv iv_24 := by rw [ei_25]; exact hF1.put (by decide)
          have kf_26 := congrArg Int32.toInt (show iv_24 90 0 9 = iv_14 90 0 9 by rw [ei_25]; exact up3_ne (fun z => absurd z.2.2 (by decide)))
          have kf_27 := congrArg Int32.toInt (show iv_24 90 0 10 = iv_14 90 0 10 by rw [ei_25]; exact up3_ne (fun z => absurd z.2.2 (by decide)))
          refine lv_aload_n hx hb dX1_choose_44 rfl (lv_at hl 1 rfl) ?_
          refine g_90_4 C hU hG (h1_90 hG) fl_X1_24 dX1_choose_45 ?_
          refine lv_iload_n hx hb dX1_choose_48 rfl (lv_at hl 0 rfl) ?_
          refine a_95 C hU hG (h1_95 hG) (x := x_18) (by omega) (by omega) dX1_choose_49 (fun x_28 e_29 le_29 ue_29 => ?_)
          have te_29 := congrArg Int32.toInt e_29
          have ne_29 : x_28.toInt = (iv 95 0 (x_18 : Int32).toNatClampNeg).toInt := by rw [e_29, hF1.arr 95 0 (x_18 : Int32).toNatClampNeg (by decide)]
          have J_63 : ∀ (iv_30 : Iv) (rv_31 : Rv) (H : Heap) (locs : List Loc) (ls : Array Slot), lv_has ls 4 [(0, .ref (al.2 90 0)), (1, .int most), (2, .int l2_13), (3, .int x_18)] → GI al iv_30 rv_31 → FR ([97], [(90, 8), (90, 9), (90, 10)]) iv iv_30 → FR ([97], [(90, 8), (90, 9), (90, 10)]) rv rv_31 → UW D cA sz al iv_30 rv_31 H → va_S (Aq sz) s.heap H locs → W p l e (rm 1) s m args below meth c H locs 0 0 Q (F0 m 63 ls []) := by
            intro iv_30 rv_31 H locs ls hl hG hF1 hF2 hU hS
            refine lv_aload_n hx hb dX1_choose_63 rfl (lv_at hl 0 rfl) ?_
            refine lv_dup hx hb dX1_choose_64 rfl ?_
            refine g_90_10 C hU hG (h1_90 hG) fl_X1_50 dX1_choose_65 (fun x_32 e_33 => ?_)
            have te_33 := congrArg Int32.toInt e_33
            refine lv_aload_n hx hb dX1_choose_68 rfl (lv_at hl 0 rfl) ?_
            refine g_90_5 C hU hG (h1_90 hG) fl_X1_28 dX1_choose_69 ?_
            refine lv_iload_n hx hb dX1_choose_72 rfl (lv_at hl 3 rfl) ?_
            refine a_96 C hU hG (h1_96 hG) (x := x_18) (by omega) (by omega) dX1_choose_73 (fun x_34 e_35 le_35 ue_35 => ?_)
            have te_35 := congrArg Int32.toInt e_35
            have ne_35 : x_34.toInt = (iv 96 0 (x_18 : Int32).toNatClampNeg).toInt := by rw [e_35, hF1.arr 96 0 (x_18 : Int32).toNatClampNeg (by decide)]
            refine lv_iadd hx hb dX1_choose_74 ?_
            refine lv_topi (fun x_36 e_37 => ?_)
            refine p_90_10 C hU hS (h1_90 hG) fl_X1_50 dX1_choose_75 (fun iv_38 H locs ei_39 hU hS => ?_)
            have hG : GI al iv_38 rv_31 := by rw [ei_39]; exact hG.puti (show _ ∧ _ from ⟨(fb_rng _).1, Int.le_of_lt_add_one (fb_rng _).2⟩) (nsF (by decide))
            have hF1 : FR ([97], [(90, 8), (90, 9), (90, 10)]) iv iv_38 := by rw [ei_39]; exact hF1.put (by decide)
            have kf_40 := congrArg Int32.toInt (show iv_38 90 0 8 = iv_30 90 0 8 by rw [ei_39]; exact up3_ne (fun z => absurd z.2.2 (by decide)))
            have kf_41 := congrArg Int32.toInt (show iv_38 90 0 9 = iv_30 90 0 9 by rw [ei_39]; exact up3_ne (fun z => absurd z.2.2 (by decide)))
            refine lv_aload_n hx hb dX1_choose_78 rfl (lv_at hl 0 rfl) ?_
            refine g_90_7 C hU hG (h1_90 hG) fl_X1_31 dX1_choose_79 ?_
            refine lv_iload_n hx hb dX1_choose_82 rfl (lv_at hl 3 rfl) ?_
            refine lv_iconst (v := (-1)) hx hb dX1_choose_83 (by decide) ?_
            refine s_97 C hU hS (h1_97 hG) (x := x_18) (by omega) (by omega) dX1_choose_84 (fun iv_42 H locs ei_43 hU hS => ?_)
            have hG : GI al iv_42 rv_31 := by rw [ei_43]; exact hG.puti (show _ ∧ _ from ⟨(fb_rng _).1, Int.le_of_lt_add_one (fb_rng _).2⟩) (nsA (by decide) _)
            have hF1 : FR ([97], [(90, 8), (90, 9), (90, 10)]) iv iv_42 := by rw [ei_43]; exact hF1.put (Or.inl (by decide))
            have kf_44 := congrArg Int32.toInt (show iv_42 90 0 8 = iv_38 90 0 8 by rw [ei_43]; exact up3_ne (fun z => absurd z.1 (by decide)))
            have kf_45 := congrArg Int32.toInt (show iv_42 90 0 9 = iv_38 90 0 9 by rw [ei_43]; exact up3_ne (fun z => absurd z.1 (by decide)))
            have kf_46 := congrArg Int32.toInt (show iv_42 90 0 10 = iv_38 90 0 10 by rw [ei_43]; exact up3_ne (fun z => absurd z.1 (by decide)))
            obtain ⟨x_47, e_48⟩ : ∃ y : Int32, y = l2_13 + 1 := ⟨_, rfl⟩
            have te_48 : x_47.toInt = (l2_13 : Int32).toInt + (1 : Int32).toInt := by rw [e_48]; exact fb_addI (by omega) (by omega)
            refine lv_iinc (v := x_47) (lv' := [(2, .int x_47), (0, .ref (al.2 90 0)), (1, .int most), (3, .int x_18)]) hx hb dX1_choose_85 hl (k := 2) rfl (by rw [e_48]; rfl) (by decide) rfl (fun ls hl => ?_)
            refine lv_goto (tgt := 17) hx hb dX1_choose_88 (by decide) ?_
            exact ih_17 x_47 _ _ _ _ _ (lv_sub hl [1, 2, 0] rfl) hG hF1 hF2 hU hS (by omega) (by omega)
          refine b_if_eq (tgt := 63) hx hb dX1_choose_50 (by decide) (fun c_49 => ?_) (fun c_49 => ?_)
          ·
            exact J_63 _ _ _ _ _ (lv_sub hl [1, 2, 3, 0] rfl) hG hF1 hF2 hU hS
          ·
            refine lv_aload_n hx hb dX1_choose_53 rfl (lv_at hl 1 rfl) ?_
            refine lv_dup hx hb dX1_choose_54 rfl ?_
            refine g_90_9 C hU hG (h1_90 hG) fl_X1_47 dX1_choose_55 (fun x_50 e_51 => ?_)
            have te_51 := congrArg Int32.toInt e_51
            refine lv_iconst (v := 1) hx hb dX1_choose_58 (by decide) ?_
            refine lv_iadd hx hb dX1_choose_59 ?_
            refine lv_topi (fun x_52 e_53 => ?_)
            refine p_90_9 C hU hS (h1_90 hG) fl_X1_47 dX1_choose_60 (fun iv_54 H locs ei_55 hU hS => ?_)
            have hG : GI al iv_54 rv_15 := by rw [ei_55]; exact hG.puti (show _ ∧ _ from ⟨(fb_rng _).1, Int.le_of_lt_add_one (fb_rng _).2⟩) (nsF (by decide))
            have hF1 : FR ([97], [(90, 8), (90, 9), (90, 10)]) iv iv_54 := by rw [ei_55]; exact hF1.put (by decide)
            have kf_56 := congrArg Int32.toInt (show iv_54 90 0 8 = iv_24 90 0 8 by rw [ei_55]; exact up3_ne (fun z => absurd z.2.2 (by decide)))
            have kf_57 := congrArg Int32.toInt (show iv_54 90 0 10 = iv_24 90 0 10 by rw [ei_55]; exact up3_ne (fun z => absurd z.2.2 (by decide)))
            exact J_63 _ _ _ _ _ (lv_sub hl [1, 2, 3, 0] rfl) hG hF1 hF2 hU hS
        ·
          exact hret (⟨hG, hF1, hF2, trivial⟩) hU hS dX1_choose_33
  exact J_17 _ 0 _ _ _ _ _ (lv_sub hl [1, 2, 0] rfl) hG hF1 hF2 hU hS (by omega) (Nat.lt_succ_self _)
set_option maxHeartbeats 4000000 in
set_option maxRecDepth 100000 in
theorem c_X1_goingOnTimesChosen {l : Launch} {D : va_G} {cA : FieldType → ClassId} {sz : Nat} {al : Al} {iv : Iv} {rv : Rv} (hG : GI al iv rv) (wo : Int32) : Met l yX1_goingOnTimesChosen (wd yX1_goingOnTimesChosen cX1_goingOnTimesChosen 2 (some .int)) (rm 0) (PcW D cA sz al iv rv [.ref (al.2 90 0), .int wo]) (QI D cA sz al (pI iv rv (fun r => True))) 0 0 (Aq sz) := by
  refine mk_i (by decide) (Nat.le_of_ble_eq_true rfl) rfl ?_
  intro p e s m args below meth c ls Q H locs C hU hS hl hret
  have hx := C.1.1
  have hb := C.1.2.1
  have hl : lv_has ls 2 [(0, .ref (al.2 90 0)), (1, .int wo)] := hl
  have hG0 := hG
  refine lv_iload_n hx hb dX1_goingOnTimesChosen_0 rfl (lv_at hl 1 rfl) ?_
  refine lv_aload_n hx hb dX1_goingOnTimesChosen_1 rfl (lv_at hl 0 rfl) ?_
  refine g_90_9 C hU hG (h1_90 hG) fl_X1_47 dX1_goingOnTimesChosen_2 (fun x_1 e_2 => ?_)
  have te_2 := congrArg Int32.toInt e_2
  refine lv_imul hx hb dX1_goingOnTimesChosen_5 ?_
  refine lv_topi (fun x_3 e_4 => ?_)
  refine lv_aload_n hx hb dX1_goingOnTimesChosen_6 rfl (lv_at hl 0 rfl) ?_
  refine g_90_10 C hU hG (h1_90 hG) fl_X1_50 dX1_goingOnTimesChosen_7 (fun x_5 e_6 => ?_)
  have te_6 := congrArg Int32.toInt e_6
  refine lv_isub hx hb dX1_goingOnTimesChosen_10 ?_
  refine lv_topi (fun x_7 e_8 => ?_)
  exact hret (⟨rfl, rfl, trivial⟩) hU hS dX1_goingOnTimesChosen_11
