section
set_option maxHeartbeats 4000000 in
set_option maxRecDepth 100000 in
theorem c_X11_leg_y {l : Launch} {D : va_G} {cA : FieldType → ClassId} {sz : Nat} {al : Al} {iv : Iv} {rv : Rv} (hG : GI al iv rv) (a : Int32) (b : Int32) (pl : Int32) (cr : Int32) (lv_ : Int32) (ar : Int32) : Met l yX11_leg (wd yX11_leg cX11_leg 9 (some .int)) (rmA 3 1 15) (PcA D cA sz al iv rv [.ref (al.2 49 0), .int a, .int b, .int pl, .int cr, .int lv_, .int ar] (fun _ => True)) (QIA D cA sz (fun r al' iv' rv' => GI al' iv' rv' ∧ EX ([51, 58], [(57, 1)]) al iv rv al' iv' rv' ∧ ((spLeg a b pl cr lv_ ar (iv 57 0 1).toInt = 0 ∧ r.toInt = (iv 57 0 1).toInt ∧ (iv' 57 0 1).toInt = (iv 57 0 1).toInt + 1 ∧ ∃ (aa : Nat) (siz : Int32), siz.toInt = al.1 62 + 1 ∧ al' = grow al 62 aa ∧ iv' = legIv iv (al.1 62) r pl cr lv_ ar siz ∧ rv' = legRv rv (al.1 62) a.toNatClampNeg b.toNatClampNeg) ∨ (spLeg a b pl cr lv_ ar (iv 57 0 1).toInt ≠ 0 ∧ r = spLeg a b pl cr lv_ ar (iv 57 0 1).toInt ∧ iv' 57 0 1 = iv 57 0 1)))) 1 15 (Aq sz) := by
  refine mk_ia (by decide) (Nat.le_of_ble_eq_true rfl) rfl ?_
  intro p e s m args below meth c ls Q H locs C hU hS hX hz0 hl hret
  have hx := C.1.1
  have hb := C.1.2.1
  have hl : lv_has ls 9 [(0, .ref (al.2 49 0)), (1, .int a), (2, .int b), (3, .int pl), (4, .int cr), (5, .int lv_), (6, .int ar)] := hl
  have hG0 := hG
  have hF1 : FR ([51, 58], [(57, 1)]) iv iv := FR.rf
  have hF2 : FR ([51, 58], [(57, 1)]) rv rv := FR.rf
  have km6 : ((-6) : Int32).toInt = -6 := by decide
  have km4 : ((-4) : Int32).toInt = -4 := by decide
  have km1 : ((-1) : Int32).toInt = -1 := by decide
  have k6 : (6 : Int32).toInt = 6 := by decide
  have k20000 : (20000 : Int32).toInt = 20000 := by decide
  refine lv_aload_n hx hb dX11_leg_0 rfl (lv_at hl 0 rfl) ?_
  refine g_49_0 C hU hG (h1_49 hG) fl_X11_10 dX11_leg_1 ?_
  refine lv_iload_n hx hb dX11_leg_4 rfl (lv_at hl 1 rfl) ?_
  refine q_pr (q_runV (t := 52) (i := 0) (As := [.int a]) (rest := []) C hU (c_X7_find hG a ) vm_X7_find ml_X11_81 k_52.1 (hc := rfl) rfl (h1_52 hG) hl.1 rfl rfl (Nat.le_of_ble_eq_true rfl) dX11_leg_5 rfl rfl ⟨Nat.le_of_ble_eq_true rfl, Nat.le_of_ble_eq_true rfl⟩ ⟨Nat.le_of_ble_eq_true rfl, Nat.le_of_ble_eq_true rfl⟩) hS (fun r_2 H locs hp_1 hU hS => ?_)
  have hb_3 := hp_1.1
  refine b_astore (lv' := [(7, rfv al 56 r_2), (0, .ref (al.2 49 0)), (1, .int a), (2, .int b), (3, .int pl), (4, .int cr), (5, .int lv_), (6, .int ar)]) hx hb dX11_leg_8 hl (by decide) rfl (fun ls hl => ?_)
  refine lv_aload_n hx hb dX11_leg_10 rfl (lv_at hl 1 rfl) ?_
  refine g_49_0 C hU hG (h1_49 hG) fl_X11_10 dX11_leg_11 ?_
  refine lv_iload_n hx hb dX11_leg_14 rfl (lv_at hl 3 rfl) ?_
  refine q_pr (q_runV (t := 52) (i := 0) (As := [.int b]) (rest := []) C hU (c_X7_find hG b ) vm_X7_find ml_X11_81 k_52.1 (hc := rfl) rfl (h1_52 hG) hl.1 rfl rfl (Nat.le_of_ble_eq_true rfl) dX11_leg_15 rfl rfl ⟨Nat.le_of_ble_eq_true rfl, Nat.le_of_ble_eq_true rfl⟩ ⟨Nat.le_of_ble_eq_true rfl, Nat.le_of_ble_eq_true rfl⟩) hS (fun r_5 H locs hp_4 hU hS => ?_)
  have hb_6 := hp_4.1
  refine b_astore (lv' := [(8, rfv al 56 r_5), (7, rfv al 56 r_2), (0, .ref (al.2 49 0)), (1, .int a), (2, .int b), (3, .int pl), (4, .int cr), (5, .int lv_), (6, .int ar)]) hx hb dX11_leg_18 hl (by decide) (by simp [List.filter_cons, rfv_cat]) (fun ls hl => ?_)
  refine b_aload (al := al) (t' := 56) (r := r_2) hx hb dX11_leg_20 (lv_at hl 1 rfl) ?_
  refine b_ifnull (tgt := 37) hx hb dX11_leg_22 (by decide) (fun ej_9 => ?_) (fun j_8 ej_9 => ?_)
  ·
    subst ej_9
    have hl : lv_has ls 9 [(8, rfv al 56 r_5), (7, rfv al 56 none), (0, .ref (al.2 49 0)), (1, .int a), (2, .int b), (3, .int pl), (4, .int cr), (5, .int lv_), (6, .int ar)] := hl
    have hq4 := hp_1.2.2 rfl
    refine lv_aload_n hx hb dX11_leg_37 rfl (lv_at hl 2 rfl) ?_
    refine lv_iconst (v := (-1)) hx hb dX11_leg_38 (by decide) ?_
    refine q_fi (q_runV (t := 49) (i := 0) (As := [.int (-1)]) (rest := []) C hU (c_X11_refuse hG (-1) (by omega)) vm_X11_refuse ml_X11_77 k_49.1 (hc := rfl) rfl (h1_49 hG) hl.1 rfl rfl (Nat.le_of_ble_eq_true rfl) dX11_leg_39 rfl rfl ⟨Nat.le_of_ble_eq_true rfl, Nat.le_of_ble_eq_true rfl⟩ ⟨Nat.le_of_ble_eq_true rfl, Nat.le_of_ble_eq_true rfl⟩) hS (fun x_15 iv_11 rv_12 H locs hG fa_13 fb_14 hp_10 hU hS => ?_)
    have hF1 := hF1.tr (m := ([51, 58], [(57, 1)])) fa_13 (by decide)
    have hF2 := hF2.tr (m := ([51, 58], [(57, 1)])) fb_14 (by decide)
    refine W.widen (k := 1) (n := 15) (Nat.zero_le _) (Nat.zero_le _) ?_
    exact hret (⟨hG, EX.of hF1 hF2, sp_no (z := (-1)) (by unfold spLeg; (repeat' split) <;> first | rfl | omega) (by decide) hp_10 (fa_13 57 0 1 (by decide))⟩) hU hS dX11_leg_42
  ·
    subst ej_9
    have hl : lv_has ls 9 [(8, rfv al 56 r_5), (7, .ref (al.2 56 j_8)), (0, .ref (al.2 49 0)), (1, .int a), (2, .int b), (3, .int pl), (4, .int cr), (5, .int lv_), (6, .int ar)] := hl
    have hb_16 : j_8 < al.1 56 := hb_3 j_8 rfl
    have hq4 := hp_1.2.1 _ rfl
    have hn4 := hq4.1
    rw [clamp_n] at hn4
    refine b_aload (al := al) (t' := 56) (r := r_5) hx hb dX11_leg_25 (lv_at hl 0 rfl) ?_
    refine b_ifnull (tgt := 37) hx hb dX11_leg_27 (by decide) (fun ej_19 => ?_) (fun j_18 ej_19 => ?_)
    ·
      subst ej_19
      have hl : lv_has ls 9 [(8, rfv al 56 none), (7, .ref (al.2 56 j_8)), (0, .ref (al.2 49 0)), (1, .int a), (2, .int b), (3, .int pl), (4, .int cr), (5, .int lv_), (6, .int ar)] := hl
      have hq5 := hp_4.2.2 rfl
      refine lv_aload_n hx hb dX11_leg_37 rfl (lv_at hl 2 rfl) ?_
      refine lv_iconst (v := (-1)) hx hb dX11_leg_38 (by decide) ?_
      refine q_fi (q_runV (t := 49) (i := 0) (As := [.int (-1)]) (rest := []) C hU (c_X11_refuse hG (-1) (by omega)) vm_X11_refuse ml_X11_77 k_49.1 (hc := rfl) rfl (h1_49 hG) hl.1 rfl rfl (Nat.le_of_ble_eq_true rfl) dX11_leg_39 rfl rfl ⟨Nat.le_of_ble_eq_true rfl, Nat.le_of_ble_eq_true rfl⟩ ⟨Nat.le_of_ble_eq_true rfl, Nat.le_of_ble_eq_true rfl⟩) hS (fun x_25 iv_21 rv_22 H locs hG fa_23 fb_24 hp_20 hU hS => ?_)
      have hF1 := hF1.tr (m := ([51, 58], [(57, 1)])) fa_23 (by decide)
      have hF2 := hF2.tr (m := ([51, 58], [(57, 1)])) fb_24 (by decide)
      refine W.widen (k := 1) (n := 15) (Nat.zero_le _) (Nat.zero_le _) ?_
      exact hret (⟨hG, EX.of hF1 hF2, sp_no (z := (-1)) (by unfold spLeg; (repeat' split) <;> first | rfl | omega) (by decide) hp_20 (fa_23 57 0 1 (by decide))⟩) hU hS dX11_leg_42
    ·
      subst ej_19
      have hl : lv_has ls 9 [(8, .ref (al.2 56 j_18)), (7, .ref (al.2 56 j_8)), (0, .ref (al.2 49 0)), (1, .int a), (2, .int b), (3, .int pl), (4, .int cr), (5, .int lv_), (6, .int ar)] := hl
      have hb_26 : j_18 < al.1 56 := hb_6 j_18 rfl
      have hq5 := hp_4.2.1 _ rfl
      have hn5 := hq5.1
      rw [clamp_n] at hn5
      refine lv_aload hx hb dX11_leg_30 (lv_at hl 1 rfl) ?_
      refine lv_aload hx hb dX11_leg_32 (lv_at hl 0 rfl) ?_
      refine b_acmp_ne (tgt := 43) hx hb hU hb_16 hb_26 dX11_leg_34 (by decide) (fun c_27 => ?_) (fun c_27 => ?_)
      ·
        refine lv_bipush (v := 6) hx hb dX11_leg_43 (by decide) ?_
        refine lv_iload_n hx hb dX11_leg_45 rfl (lv_at hl 5 rfl) ?_
        refine q_pi (q_runS (As := [.int 6, .int pl]) (rest := []) C hU (c_X11_isOneOf  6 pl ) sm_X11_isOneOf ml_X11_85 hl.1 rfl rfl (Nat.le_of_ble_eq_true rfl) dX11_leg_46 rfl rfl ⟨Nat.le_of_ble_eq_true rfl, Nat.le_of_ble_eq_true rfl⟩ ⟨Nat.le_of_ble_eq_true rfl, Nat.le_of_ble_eq_true rfl⟩) hS (fun x_29 H locs hp_28 hU hS => ?_)
        refine b_if_eq (tgt := 62) hx hb dX11_leg_49 (by decide) (fun c_30 => ?_) (fun c_30 => ?_)
        ·
          refine lv_aload_n hx hb dX11_leg_62 rfl (lv_at hl 2 rfl) ?_
          refine lv_iconst (v := (-1)) hx hb dX11_leg_63 (by decide) ?_
          refine q_fi (q_runV (t := 49) (i := 0) (As := [.int (-1)]) (rest := []) C hU (c_X11_refuse hG (-1) (by omega)) vm_X11_refuse ml_X11_77 k_49.1 (hc := rfl) rfl (h1_49 hG) hl.1 rfl rfl (Nat.le_of_ble_eq_true rfl) dX11_leg_64 rfl rfl ⟨Nat.le_of_ble_eq_true rfl, Nat.le_of_ble_eq_true rfl⟩ ⟨Nat.le_of_ble_eq_true rfl, Nat.le_of_ble_eq_true rfl⟩) hS (fun x_36 iv_32 rv_33 H locs hG fa_34 fb_35 hp_31 hU hS => ?_)
          have hF1 := hF1.tr (m := ([51, 58], [(57, 1)])) fa_34 (by decide)
          have hF2 := hF2.tr (m := ([51, 58], [(57, 1)])) fb_35 (by decide)
          refine W.widen (k := 1) (n := 15) (Nat.zero_le _) (Nat.zero_le _) ?_
          exact hret (⟨hG, EX.of hF1 hF2, sp_no (z := (-1)) (by unfold spLeg; (repeat' split) <;> first | rfl | omega) (by decide) hp_31 (fa_34 57 0 1 (by decide))⟩) hU hS dX11_leg_67
        ·
          refine lv_bipush (v := 6) hx hb dX11_leg_52 (by decide) ?_
          refine lv_iload hx hb dX11_leg_54 (lv_at hl 6 rfl) ?_
          refine q_pi (q_runS (As := [.int 6, .int cr]) (rest := []) C hU (c_X11_isOneOf  6 cr ) sm_X11_isOneOf ml_X11_85 hl.1 rfl rfl (Nat.le_of_ble_eq_true rfl) dX11_leg_56 rfl rfl ⟨Nat.le_of_ble_eq_true rfl, Nat.le_of_ble_eq_true rfl⟩ ⟨Nat.le_of_ble_eq_true rfl, Nat.le_of_ble_eq_true rfl⟩) hS (fun x_38 H locs hp_37 hU hS => ?_)
          refine b_if_ne (tgt := 68) hx hb dX11_leg_59 (by decide) (fun c_39 => ?_) (fun c_39 => ?_)
          ·
            refine lv_iload hx hb dX11_leg_68 (lv_at hl 7 rfl) ?_
            refine b_if_lt (tgt := 80) hx hb dX11_leg_70 (by decide) (fun c_40 => ?_) (fun c_40 => ?_)
            ·
              refine lv_aload_n hx hb dX11_leg_80 rfl (lv_at hl 2 rfl) ?_
              refine lv_bipush (v := (-4)) hx hb dX11_leg_81 (by decide) ?_
              refine q_fi (q_runV (t := 49) (i := 0) (As := [.int (-4)]) (rest := []) C hU (c_X11_refuse hG (-4) (by omega)) vm_X11_refuse ml_X11_77 k_49.1 (hc := rfl) rfl (h1_49 hG) hl.1 rfl rfl (Nat.le_of_ble_eq_true rfl) dX11_leg_83 rfl rfl ⟨Nat.le_of_ble_eq_true rfl, Nat.le_of_ble_eq_true rfl⟩ ⟨Nat.le_of_ble_eq_true rfl, Nat.le_of_ble_eq_true rfl⟩) hS (fun x_46 iv_42 rv_43 H locs hG fa_44 fb_45 hp_41 hU hS => ?_)
              have hF1 := hF1.tr (m := ([51, 58], [(57, 1)])) fa_44 (by decide)
              have hF2 := hF2.tr (m := ([51, 58], [(57, 1)])) fb_45 (by decide)
              refine W.widen (k := 1) (n := 15) (Nat.zero_le _) (Nat.zero_le _) ?_
              exact hret (⟨hG, EX.of hF1 hF2, sp_no (z := (-4)) (by unfold spLeg; (repeat' split) <;> first | rfl | omega) (by decide) hp_41 (fa_44 57 0 1 (by decide))⟩) hU hS dX11_leg_86
            ·
              refine lv_iload hx hb dX11_leg_73 (lv_at hl 8 rfl) ?_
              refine lv_iload hx hb dX11_leg_75 (lv_at hl 7 rfl) ?_
              refine b_icmp_gt (tgt := 87) hx hb dX11_leg_77 (by decide) (fun c_47 => ?_) (fun c_47 => ?_)
              ·
                refine lv_iload hx hb dX11_leg_87 (lv_at hl 7 rfl) ?_
                refine lv_sipush (v := 20000) hx hb dX11_leg_89 (by decide) ?_
                refine b_icmp_gt (tgt := 113) hx hb dX11_leg_92 (by decide) (fun c_48 => ?_) (fun c_48 => ?_)
                ·
                  refine lv_aload_n hx hb dX11_leg_113 rfl (lv_at hl 2 rfl) ?_
                  refine lv_bipush (v := (-6)) hx hb dX11_leg_114 (by decide) ?_
                  refine q_fi (q_runV (t := 49) (i := 0) (As := [.int (-6)]) (rest := []) C hU (c_X11_refuse hG (-6) (by omega)) vm_X11_refuse ml_X11_77 k_49.1 (hc := rfl) rfl (h1_49 hG) hl.1 rfl rfl (Nat.le_of_ble_eq_true rfl) dX11_leg_116 rfl rfl ⟨Nat.le_of_ble_eq_true rfl, Nat.le_of_ble_eq_true rfl⟩ ⟨Nat.le_of_ble_eq_true rfl, Nat.le_of_ble_eq_true rfl⟩) hS (fun x_54 iv_50 rv_51 H locs hG fa_52 fb_53 hp_49 hU hS => ?_)
                  have hF1 := hF1.tr (m := ([51, 58], [(57, 1)])) fa_52 (by decide)
                  have hF2 := hF2.tr (m := ([51, 58], [(57, 1)])) fb_53 (by decide)
                  refine W.widen (k := 1) (n := 15) (Nat.zero_le _) (Nat.zero_le _) ?_
                  exact hret (⟨hG, EX.of hF1 hF2, sp_no (z := (-6)) (by unfold spLeg; (repeat' split) <;> first | rfl | omega) (by decide) hp_49 (fa_52 57 0 1 (by decide))⟩) hU hS dX11_leg_119
                ·
                  refine lv_iload hx hb dX11_leg_95 (lv_at hl 8 rfl) ?_
                  refine lv_sipush (v := 20000) hx hb dX11_leg_97 (by decide) ?_
                  refine b_icmp_gt (tgt := 113) hx hb dX11_leg_100 (by decide) (fun c_55 => ?_) (fun c_55 => ?_)
                  ·
                    refine lv_aload_n hx hb dX11_leg_113 rfl (lv_at hl 2 rfl) ?_
                    refine lv_bipush (v := (-6)) hx hb dX11_leg_114 (by decide) ?_
                    refine q_fi (q_runV (t := 49) (i := 0) (As := [.int (-6)]) (rest := []) C hU (c_X11_refuse hG (-6) (by omega)) vm_X11_refuse ml_X11_77 k_49.1 (hc := rfl) rfl (h1_49 hG) hl.1 rfl rfl (Nat.le_of_ble_eq_true rfl) dX11_leg_116 rfl rfl ⟨Nat.le_of_ble_eq_true rfl, Nat.le_of_ble_eq_true rfl⟩ ⟨Nat.le_of_ble_eq_true rfl, Nat.le_of_ble_eq_true rfl⟩) hS (fun x_61 iv_57 rv_58 H locs hG fa_59 fb_60 hp_56 hU hS => ?_)
                    have hF1 := hF1.tr (m := ([51, 58], [(57, 1)])) fa_59 (by decide)
                    have hF2 := hF2.tr (m := ([51, 58], [(57, 1)])) fb_60 (by decide)
                    refine W.widen (k := 1) (n := 15) (Nat.zero_le _) (Nat.zero_le _) ?_
                    exact hret (⟨hG, EX.of hF1 hF2, sp_no (z := (-6)) (by unfold spLeg; (repeat' split) <;> first | rfl | omega) (by decide) hp_56 (fa_59 57 0 1 (by decide))⟩) hU hS dX11_leg_119
                  ·
                    refine lv_aload_n hx hb dX11_leg_103 rfl (lv_at hl 2 rfl) ?_
                    refine g_49_1 C hU hG (h1_49 hG) fl_X11_19 dX11_leg_104 ?_
                    refine q_pi (q_runV (t := 57) (i := 0) (As := []) (rest := []) C hU (c_X10_isFull hG  ) vm_X10_isFull ml_X11_115 k_57.1 (hc := rfl) rfl (h1_57 hG) hl.1 rfl rfl (Nat.le_of_ble_eq_true rfl) dX11_leg_107 rfl rfl ⟨Nat.le_of_ble_eq_true rfl, Nat.le_of_ble_eq_true rfl⟩ ⟨Nat.le_of_ble_eq_true rfl, Nat.le_of_ble_eq_true rfl⟩) hS (fun x_63 H locs hp_62 hU hS => ?_)
                    refine b_if_eq (tgt := 120) hx hb dX11_leg_110 (by decide) (fun c_64 => ?_) (fun c_64 => ?_)
                    ·
                      refine lv_aload_n hx hb dX11_leg_120 rfl (lv_at hl 2 rfl) ?_
                      refine g_49_1 C hU hG (h1_49 hG) fl_X11_19 dX11_leg_121 ?_
                      refine lv_aload hx hb dX11_leg_124 (lv_at hl 1 rfl) ?_
                      refine lv_aload hx hb dX11_leg_126 (lv_at hl 0 rfl) ?_
                      refine lv_iload_n hx hb dX11_leg_128 rfl (lv_at hl 5 rfl) ?_
                      refine lv_iload hx hb dX11_leg_129 (lv_at hl 6 rfl) ?_
                      refine lv_iload hx hb dX11_leg_131 (lv_at hl 7 rfl) ?_
                      refine lv_iload hx hb dX11_leg_133 (lv_at hl 8 rfl) ?_
                      refine q_ciA (q_runVA (t := 57) (i := 0) (As := [.ref (al.2 56 j_8), .ref (al.2 56 j_18), .int pl, .int cr, .int lv_, .int ar]) (rest := []) C hU (Nat.le_trans hz0 hS.1) (c_X10_add hG (j_8) hb_16 (j_18) hb_26 pl cr lv_ ar (by omega) (by omega) (by omega) (by omega) (by omega)) vm_X10_add ml_X11_119 k_57.1 (hc := rfl) rfl (h1_57 hG) hl.1 rfl rfl (Nat.le_of_ble_eq_true rfl) dX11_leg_135 rfl rfl ⟨Nat.le_of_ble_eq_true rfl, Nat.le_of_ble_eq_true rfl⟩ ⟨Nat.le_of_ble_eq_true rfl, Nat.le_of_ble_eq_true rfl⟩) hS (Nat.le_trans hz0 hS.1) (fun x_66 al' iv' rv' H locs hp_65 hU hS _ => ?_)
                      exact hret (⟨hp_65.1, (EX.of hF1 hF2).tr hp_65.2.1 (by decide) (by decide), Or.inl ⟨(by unfold spLeg; (repeat' split) <;> first | rfl | omega), by rw [hp_65.2.2.1], leg_cnt hG0 hp_65.2.2.2, (by have z := hp_65.2.2.2; rw [hq4.1, hq5.1] at z; exact z)⟩⟩) hU hS dX11_leg_138
                    ·
                      refine lv_aload_n hx hb dX11_leg_113 rfl (lv_at hl 2 rfl) ?_
                      refine lv_bipush (v := (-6)) hx hb dX11_leg_114 (by decide) ?_
                      refine q_fi (q_runV (t := 49) (i := 0) (As := [.int (-6)]) (rest := []) C hU (c_X11_refuse hG (-6) (by omega)) vm_X11_refuse ml_X11_77 k_49.1 (hc := rfl) rfl (h1_49 hG) hl.1 rfl rfl (Nat.le_of_ble_eq_true rfl) dX11_leg_116 rfl rfl ⟨Nat.le_of_ble_eq_true rfl, Nat.le_of_ble_eq_true rfl⟩ ⟨Nat.le_of_ble_eq_true rfl, Nat.le_of_ble_eq_true rfl⟩) hS (fun x_72 iv_68 rv_69 H locs hG fa_70 fb_71 hp_67 hU hS => ?_)
                      have hF1 := hF1.tr (m := ([51, 58], [(57, 1)])) fa_70 (by decide)
                      have hF2 := hF2.tr (m := ([51, 58], [(57, 1)])) fb_71 (by decide)
                      refine W.widen (k := 1) (n := 15) (Nat.zero_le _) (Nat.zero_le _) ?_
                      exact hret (⟨hG, EX.of hF1 hF2, sp_no (z := (-6)) (by unfold spLeg; (repeat' split) <;> first | rfl | omega) (by decide) hp_67 (fa_70 57 0 1 (by decide))⟩) hU hS dX11_leg_119
              ·
                refine lv_aload_n hx hb dX11_leg_80 rfl (lv_at hl 2 rfl) ?_
                refine lv_bipush (v := (-4)) hx hb dX11_leg_81 (by decide) ?_
                refine q_fi (q_runV (t := 49) (i := 0) (As := [.int (-4)]) (rest := []) C hU (c_X11_refuse hG (-4) (by omega)) vm_X11_refuse ml_X11_77 k_49.1 (hc := rfl) rfl (h1_49 hG) hl.1 rfl rfl (Nat.le_of_ble_eq_true rfl) dX11_leg_83 rfl rfl ⟨Nat.le_of_ble_eq_true rfl, Nat.le_of_ble_eq_true rfl⟩ ⟨Nat.le_of_ble_eq_true rfl, Nat.le_of_ble_eq_true rfl⟩) hS (fun x_78 iv_74 rv_75 H locs hG fa_76 fb_77 hp_73 hU hS => ?_)
                have hF1 := hF1.tr (m := ([51, 58], [(57, 1)])) fa_76 (by decide)
                have hF2 := hF2.tr (m := ([51, 58], [(57, 1)])) fb_77 (by decide)
                refine W.widen (k := 1) (n := 15) (Nat.zero_le _) (Nat.zero_le _) ?_
                exact hret (⟨hG, EX.of hF1 hF2, sp_no (z := (-4)) (by unfold spLeg; (repeat' split) <;> first | rfl | omega) (by decide) hp_73 (fa_76 57 0 1 (by decide))⟩) hU hS dX11_leg_86
          ·
            refine lv_aload_n hx hb dX11_leg_62 rfl (lv_at hl 2 rfl) ?_
            refine lv_iconst (v := (-1)) hx hb dX11_leg_63 (by decide) ?_
            refine q_fi (q_runV (t := 49) (i := 0) (As := [.int (-1)]) (rest := []) C hU (c_X11_refuse hG (-1) (by omega)) vm_X11_refuse ml_X11_77 k_49.1 (hc := rfl) rfl (h1_49 hG) hl.1 rfl rfl (Nat.le_of_ble_eq_true rfl) dX11_leg_64 rfl rfl ⟨Nat.le_of_ble_eq_true rfl, Nat.le_of_ble_eq_true rfl⟩ ⟨Nat.le_of_ble_eq_true rfl, Nat.le_of_ble_eq_true rfl⟩) hS (fun x_84 iv_80 rv_81 H locs hG fa_82 fb_83 hp_79 hU hS => ?_)
            have hF1 := hF1.tr (m := ([51, 58], [(57, 1)])) fa_82 (by decide)
            have hF2 := hF2.tr (m := ([51, 58], [(57, 1)])) fb_83 (by decide)
            refine W.widen (k := 1) (n := 15) (Nat.zero_le _) (Nat.zero_le _) ?_
            exact hret (⟨hG, EX.of hF1 hF2, sp_no (z := (-1)) (by unfold spLeg; (repeat' split) <;> first | rfl | omega) (by decide) hp_79 (fa_82 57 0 1 (by decide))⟩) hU hS dX11_leg_67
      ·
        refine lv_aload_n hx hb dX11_leg_37 rfl (lv_at hl 2 rfl) ?_
        refine lv_iconst (v := (-1)) hx hb dX11_leg_38 (by decide) ?_
        refine q_fi (q_runV (t := 49) (i := 0) (As := [.int (-1)]) (rest := []) C hU (c_X11_refuse hG (-1) (by omega)) vm_X11_refuse ml_X11_77 k_49.1 (hc := rfl) rfl (h1_49 hG) hl.1 rfl rfl (Nat.le_of_ble_eq_true rfl) dX11_leg_39 rfl rfl ⟨Nat.le_of_ble_eq_true rfl, Nat.le_of_ble_eq_true rfl⟩ ⟨Nat.le_of_ble_eq_true rfl, Nat.le_of_ble_eq_true rfl⟩) hS (fun x_90 iv_86 rv_87 H locs hG fa_88 fb_89 hp_85 hU hS => ?_)
        have hF1 := hF1.tr (m := ([51, 58], [(57, 1)])) fa_88 (by decide)
        have hF2 := hF2.tr (m := ([51, 58], [(57, 1)])) fb_89 (by decide)
        refine W.widen (k := 1) (n := 15) (Nat.zero_le _) (Nat.zero_le _) ?_
        exact hret (⟨hG, EX.of hF1 hF2, sp_no (z := (-1)) (by unfold spLeg; (repeat' split) <;> first | rfl | omega) (by decide) hp_85 (fa_88 57 0 1 (by decide))⟩) hU hS dX11_leg_42
set_option maxHeartbeats 4000000 in
set_option maxRecDepth 100000 in
theorem c_X12_log_y {l : Launch} {D : va_G} {cA : FieldType → ClassId} {sz : Nat} {al : Al} {iv : Iv} {rv : Rv} (hG : GI al iv rv) (lg : Int32) (a : Int32) (b : Int32) : Met l yX12_log (wd yX12_log cX12_log 5 (some .int)) (rm 2) (PcW D cA sz al iv rv [.ref (al.2 0 0), .int lg, .int a, .int b]) (QI D cA sz al (fI al ([16, 11, 12, 13], []) iv rv (fun r iv' rv' => (spLog lg a b (iv 0 0 6).toInt = 0 ∧ r.toInt = 1 - (iv 11 0 lg.toNatClampNeg).toInt ∧ ∀ k, iv' 11 0 k = (if k = lg.toNatClampNeg then 1 else iv 11 0 k) ∧ iv' 12 0 k = (if k = lg.toNatClampNeg then a else iv 12 0 k) ∧ iv' 13 0 k = (if k = lg.toNatClampNeg then b else iv 13 0 k)) ∨ (spLog lg a b (iv 0 0 6).toInt ≠ 0 ∧ r = spLog lg a b (iv 0 0 6).toInt ∧ ∀ k, iv' 11 0 k = iv 11 0 k ∧ iv' 12 0 k = iv 12 0 k ∧ iv' 13 0 k = iv 13 0 k)))) 0 0 (Aq sz) := by
  refine mk_i (by decide) (Nat.le_of_ble_eq_true rfl) rfl ?_
  intro p e s m args below meth c ls Q H locs C hU hS hl hret
  have hx := C.1.1
  have hb := C.1.2.1
  have hl : lv_has ls 5 [(0, .ref (al.2 0 0)), (1, .int lg), (2, .int a), (3, .int b)] := hl
  have hG0 := hG
  have h6 := le6 hG
  have h20 := le20 hG
  have h41 := le41 hG
  have hF1 : FR ([16, 11, 12, 13], []) iv iv := FR.rf
  have hF2 : FR ([16, 11, 12, 13], []) rv rv := FR.rf
  have km6 : ((-6) : Int32).toInt = -6 := by decide
  have km4 : ((-4) : Int32).toInt = -4 := by decide
  have km1 : ((-1) : Int32).toInt = -1 := by decide
  have k0 : (0 : Int32).toInt = 0 := by decide
  have k1 : (1 : Int32).toInt = 1 := by decide
  have k30000 : (30000 : Int32).toInt = 30000 := by decide
  refine lv_aload_n hx hb dX12_log_0 rfl (lv_at hl 0 rfl) ?_
  refine lv_iload_n hx hb dX12_log_1 rfl (lv_at hl 1 rfl) ?_
  refine q_pi (q_runV (t := 0) (i := 0) (As := [.int lg]) (rest := []) C hU (c_X12_isLeg hG lg ) vm_X12_isLeg ml_X12_181 k_0.1 (hc := rfl) rfl (h1_0 hG) hl.1 rfl rfl (Nat.le_of_ble_eq_true rfl) dX12_log_2 rfl rfl ⟨Nat.le_of_ble_eq_true rfl, Nat.le_of_ble_eq_true rfl⟩ ⟨Nat.le_refl _, Nat.le_refl _⟩) hS (fun x_2 H locs hp_1 hU hS => ?_)
  refine b_if_ne (tgt := 14) hx hb dX12_log_5 (by decide) (fun c_3 => ?_) (fun c_3 => ?_)
  ·
    refine lv_iload_n hx hb dX12_log_14 rfl (lv_at hl 2 rfl) ?_
    refine b_if_lt (tgt := 22) hx hb dX12_log_15 (by decide) (fun c_4 => ?_) (fun c_4 => ?_)
    ·
      refine lv_aload_n hx hb dX12_log_22 rfl (lv_at hl 0 rfl) ?_
      refine lv_bipush (v := (-4)) hx hb dX12_log_23 (by decide) ?_
      refine q_fi (q_runV (t := 0) (i := 0) (As := [.int (-4)]) (rest := []) C hU (c_X12_refuse hG (-4) (by omega)) vm_X12_refuse ml_X12_164 k_0.1 (hc := rfl) rfl (h1_0 hG) hl.1 rfl rfl (Nat.le_of_ble_eq_true rfl) dX12_log_25 rfl rfl ⟨Nat.le_of_ble_eq_true rfl, Nat.le_of_ble_eq_true rfl⟩ ⟨Nat.le_refl _, Nat.le_refl _⟩) hS (fun x_10 iv_6 rv_7 H locs hG fa_8 fb_9 hp_5 hU hS => ?_)
      have hF1 := hF1.tr (m := ([16, 11, 12, 13], [])) fa_8 (by decide)
      have hF2 := hF2.tr (m := ([16, 11, 12, 13], [])) fb_9 (by decide)
      exact hret (⟨hG, hF1, hF2, sp_no (z := (-4)) (by unfold spLog; (repeat' split) <;> first | rfl | omega) (by decide) hp_5 (fun k => ⟨fa_8.arr 11 0 k (by decide), fa_8.arr 12 0 k (by decide), fa_8.arr 13 0 k (by decide)⟩)⟩) hU hS dX12_log_28
    ·
      refine lv_iload_n hx hb dX12_log_18 rfl (lv_at hl 3 rfl) ?_
      refine b_if_ge (tgt := 29) hx hb dX12_log_19 (by decide) (fun c_11 => ?_) (fun c_11 => ?_)
      ·
        refine lv_iload_n hx hb dX12_log_29 rfl (lv_at hl 2 rfl) ?_
        refine lv_sipush (v := 30000) hx hb dX12_log_30 (by decide) ?_
        refine b_icmp_gt (tgt := 43) hx hb dX12_log_33 (by decide) (fun c_12 => ?_) (fun c_12 => ?_)
        ·
          refine lv_aload_n hx hb dX12_log_43 rfl (lv_at hl 0 rfl) ?_
          refine lv_bipush (v := (-6)) hx hb dX12_log_44 (by decide) ?_
          refine q_fi (q_runV (t := 0) (i := 0) (As := [.int (-6)]) (rest := []) C hU (c_X12_refuse hG (-6) (by omega)) vm_X12_refuse ml_X12_164 k_0.1 (hc := rfl) rfl (h1_0 hG) hl.1 rfl rfl (Nat.le_of_ble_eq_true rfl) dX12_log_46 rfl rfl ⟨Nat.le_of_ble_eq_true rfl, Nat.le_of_ble_eq_true rfl⟩ ⟨Nat.le_refl _, Nat.le_refl _⟩) hS (fun x_18 iv_14 rv_15 H locs hG fa_16 fb_17 hp_13 hU hS => ?_)
          have hF1 := hF1.tr (m := ([16, 11, 12, 13], [])) fa_16 (by decide)
          have hF2 := hF2.tr (m := ([16, 11, 12, 13], [])) fb_17 (by decide)
          exact hret (⟨hG, hF1, hF2, sp_no (z := (-6)) (by unfold spLog; (repeat' split) <;> first | rfl | omega) (by decide) hp_13 (fun k => ⟨fa_16.arr 11 0 k (by decide), fa_16.arr 12 0 k (by decide), fa_16.arr 13 0 k (by decide)⟩)⟩) hU hS dX12_log_49
        ·
          refine lv_iload_n hx hb dX12_log_36 rfl (lv_at hl 3 rfl) ?_
          refine lv_sipush (v := 30000) hx hb dX12_log_37 (by decide) ?_
          refine b_icmp_le (tgt := 50) hx hb dX12_log_40 (by decide) (fun c_19 => ?_) (fun c_19 => ?_)
          ·
            refine lv_aload_n hx hb dX12_log_50 rfl (lv_at hl 0 rfl) ?_
            refine g_0_13 C hU hG (h1_0 hG) fl_X12_40 dX12_log_51 ?_
            refine lv_iload_n hx hb dX12_log_54 rfl (lv_at hl 1 rfl) ?_
            refine a_11 C hU hG (h1_11 hG) (x := lg) (by omega) (by omega) dX12_log_55 (fun x_20 e_21 le_21 ue_21 => ?_)
            have te_21 := congrArg Int32.toInt e_21
            refine lv_istore (lv' := [(4, .int x_20), (0, .ref (al.2 0 0)), (1, .int lg), (2, .int a), (3, .int b)]) hx hb dX12_log_56 hl (by decide) rfl (fun ls hl => ?_)
            refine lv_aload_n hx hb dX12_log_58 rfl (lv_at hl 1 rfl) ?_
            refine g_0_13 C hU hG (h1_0 hG) fl_X12_40 dX12_log_59 ?_
            refine lv_iload_n hx hb dX12_log_62 rfl (lv_at hl 2 rfl) ?_
            refine lv_iconst (v := 1) hx hb dX12_log_63 (by decide) ?_
            refine s_11 C hU hS (h1_11 hG) (x := lg) (by omega) (by omega) (by omega) (by omega) dX12_log_64 (fun iv_22 H locs ei_23 hU hS => ?_)
            have hG : GI al iv_22 rv := by rw [ei_23]; exact hG.puti (show _ ∧ _ from ⟨show (0 : Int) ≤ _ by omega, show _ ≤ (1 : Int) by omega⟩) (nsA (by decide) _)
            have hF1 : FR ([16, 11, 12, 13], []) iv iv_22 := by rw [ei_23]; exact hF1.put (Or.inl (by decide))
            refine lv_aload_n hx hb dX12_log_65 rfl (lv_at hl 1 rfl) ?_
            refine g_0_14 C hU hG (h1_0 hG) fl_X12_44 dX12_log_66 ?_
            refine lv_iload_n hx hb dX12_log_69 rfl (lv_at hl 2 rfl) ?_
            refine lv_iload_n hx hb dX12_log_70 rfl (lv_at hl 3 rfl) ?_
            refine s_12 C hU hS (h1_12 hG) (x := lg) (by omega) (by omega) dX12_log_71 (fun iv_24 H locs ei_25 hU hS => ?_)
            have hG : GI al iv_24 rv := by rw [ei_25]; exact hG.puti (show _ ∧ _ from ⟨show (0 : Int) ≤ _ by omega, show _ ≤ (30000 : Int) by omega⟩) (nsA (by decide) _)
            have hF1 : FR ([16, 11, 12, 13], []) iv iv_24 := by rw [ei_25]; exact hF1.put (Or.inl (by decide))
            refine lv_aload_n hx hb dX12_log_72 rfl (lv_at hl 1 rfl) ?_
            refine g_0_15 C hU hG (h1_0 hG) fl_X12_47 dX12_log_73 ?_
            refine lv_iload_n hx hb dX12_log_76 rfl (lv_at hl 2 rfl) ?_
            refine lv_iload_n hx hb dX12_log_77 rfl (lv_at hl 4 rfl) ?_
            refine s_13 C hU hS (h1_13 hG) (x := lg) (by omega) (by omega) dX12_log_78 (fun iv_26 H locs ei_27 hU hS => ?_)
            have hG : GI al iv_26 rv := by rw [ei_27]; exact hG.puti (show _ ∧ _ from ⟨show (0 : Int) ≤ _ by omega, show _ ≤ (30000 : Int) by omega⟩) (nsA (by decide) _)
            have hF1 : FR ([16, 11, 12, 13], []) iv iv_26 := by rw [ei_27]; exact hF1.put (Or.inl (by decide))
            refine lv_iload hx hb dX12_log_79 (lv_at hl 0 rfl) ?_
            refine b_if_eq (tgt := 88) hx hb dX12_log_81 (by decide) (fun c_28 => ?_) (fun c_28 => ?_)
            ·
              refine lv_iconst (v := 1) hx hb dX12_log_88 (by decide) ?_
              exact hret (⟨hG, hF1, hF2, Or.inl ⟨(by unfold spLog; (repeat' split) <;> first | rfl | omega), by omega, fun k => by rw [ei_27, ei_25, ei_23]; simp [up3]⟩⟩) hU hS dX12_log_89
            ·
              refine lv_iconst (v := 0) hx hb dX12_log_84 (by decide) ?_
              refine lv_goto (tgt := 89) hx hb dX12_log_85 (by decide) ?_
              exact hret (⟨hG, hF1, hF2, Or.inl ⟨(by unfold spLog; (repeat' split) <;> first | rfl | omega), by omega, fun k => by rw [ei_27, ei_25, ei_23]; simp [up3]⟩⟩) hU hS dX12_log_89
          ·
            refine lv_aload_n hx hb dX12_log_43 rfl (lv_at hl 0 rfl) ?_
            refine lv_bipush (v := (-6)) hx hb dX12_log_44 (by decide) ?_
            refine q_fi (q_runV (t := 0) (i := 0) (As := [.int (-6)]) (rest := []) C hU (c_X12_refuse hG (-6) (by omega)) vm_X12_refuse ml_X12_164 k_0.1 (hc := rfl) rfl (h1_0 hG) hl.1 rfl rfl (Nat.le_of_ble_eq_true rfl) dX12_log_46 rfl rfl ⟨Nat.le_of_ble_eq_true rfl, Nat.le_of_ble_eq_true rfl⟩ ⟨Nat.le_refl _, Nat.le_refl _⟩) hS (fun x_34 iv_30 rv_31 H locs hG fa_32 fb_33 hp_29 hU hS => ?_)
            have hF1 := hF1.tr (m := ([16, 11, 12, 13], [])) fa_32 (by decide)
            have hF2 := hF2.tr (m := ([16, 11, 12, 13], [])) fb_33 (by decide)
            exact hret (⟨hG, hF1, hF2, sp_no (z := (-6)) (by unfold spLog; (repeat' split) <;> first | rfl | omega) (by decide) hp_29 (fun k => ⟨fa_32.arr 11 0 k (by decide), fa_32.arr 12 0 k (by decide), fa_32.arr 13 0 k (by decide)⟩)⟩) hU hS dX12_log_49
      ·
        refine lv_aload_n hx hb dX12_log_22 rfl (lv_at hl 0 rfl) ?_
        refine lv_bipush (v := (-4)) hx hb dX12_log_23 (by decide) ?_
        refine q_fi (q_runV (t := 0) (i := 0) (As := [.int (-4)]) (rest := []) C hU (c_X12_refuse hG (-4) (by omega)) vm_X12_refuse ml_X12_164 k_0.1 (hc := rfl) rfl (h1_0 hG) hl.1 rfl rfl (Nat.le_of_ble_eq_true rfl) dX12_log_25 rfl rfl ⟨Nat.le_of_ble_eq_true rfl, Nat.le_of_ble_eq_true rfl⟩ ⟨Nat.le_refl _, Nat.le_refl _⟩) hS (fun x_40 iv_36 rv_37 H locs hG fa_38 fb_39 hp_35 hU hS => ?_)
        have hF1 := hF1.tr (m := ([16, 11, 12, 13], [])) fa_38 (by decide)
        have hF2 := hF2.tr (m := ([16, 11, 12, 13], [])) fb_39 (by decide)
        exact hret (⟨hG, hF1, hF2, sp_no (z := (-4)) (by unfold spLog; (repeat' split) <;> first | rfl | omega) (by decide) hp_35 (fun k => ⟨fa_38.arr 11 0 k (by decide), fa_38.arr 12 0 k (by decide), fa_38.arr 13 0 k (by decide)⟩)⟩) hU hS dX12_log_28
  ·
    refine lv_aload_n hx hb dX12_log_8 rfl (lv_at hl 0 rfl) ?_
    refine lv_iconst (v := (-1)) hx hb dX12_log_9 (by decide) ?_
    refine q_fi (q_runV (t := 0) (i := 0) (As := [.int (-1)]) (rest := []) C hU (c_X12_refuse hG (-1) (by omega)) vm_X12_refuse ml_X12_164 k_0.1 (hc := rfl) rfl (h1_0 hG) hl.1 rfl rfl (Nat.le_of_ble_eq_true rfl) dX12_log_10 rfl rfl ⟨Nat.le_of_ble_eq_true rfl, Nat.le_of_ble_eq_true rfl⟩ ⟨Nat.le_refl _, Nat.le_refl _⟩) hS (fun x_46 iv_42 rv_43 H locs hG fa_44 fb_45 hp_41 hU hS => ?_)
    have hF1 := hF1.tr (m := ([16, 11, 12, 13], [])) fa_44 (by decide)
    have hF2 := hF2.tr (m := ([16, 11, 12, 13], [])) fb_45 (by decide)
    exact hret (⟨hG, hF1, hF2, sp_no (z := (-1)) (by unfold spLog; (repeat' split) <;> first | rfl | omega) (by decide) hp_41 (fun k => ⟨fa_44.arr 11 0 k (by decide), fa_44.arr 12 0 k (by decide), fa_44.arr 13 0 k (by decide)⟩)⟩) hU hS dX12_log_13
set_option maxHeartbeats 4000000 in
set_option maxRecDepth 100000 in
theorem c_X5_enter_y {l : Launch} {D : va_G} {cA : FieldType → ClassId} {sz : Nat} {al : Al} {iv : Iv} {rv : Rv} (hG : GI al iv rv) (li : Nat) (hli : li < al.1 62) (a : Int32) (b : Int32) (pre0 : 0 ≤ a.toInt ∧ a.toInt ≤ 30000) (pre1 : 0 ≤ b.toInt ∧ b.toInt ≤ 30000) : Met l yX5_enter (wd yX5_enter cX5_enter 3 none) (rm 2) (PcW D cA sz al iv rv [.ref (al.2 62 li), .int a, .int b]) (QV D cA sz al (fV al ([], [(62, 10), (62, 11), (62, 12), (62, 13), (62, 7), (62, 8), (62, 9)]) iv rv (fun iv' rv' => enP iv iv' li a b ∧ (CRT iv rv → CRT iv' rv')))) 0 0 (Aq sz) := by
  refine mk_v (by decide) (Nat.le_of_ble_eq_true rfl) rfl ?_
  intro p e s m args below meth c ls Q H locs C hU hS hl hret
  have hx := C.1.1
  have hb := C.1.2.1
  have hl : lv_has ls 3 [(0, .ref (al.2 62 li)), (1, .int a), (2, .int b)] := hl
  have hG0 := hG
  have hF1 : FR ([], [(62, 10), (62, 11), (62, 12), (62, 13), (62, 7), (62, 8), (62, 9)]) iv iv := FR.rf
  have hF2 : FR ([], [(62, 10), (62, 11), (62, 12), (62, 13), (62, 7), (62, 8), (62, 9)]) rv rv := FR.rf
  have k1 : (1 : Int32).toInt = 1 := by decide
  refine lv_aload_n hx hb dX5_enter_0 rfl (lv_at hl 0 rfl) ?_
  refine lv_iload_n hx hb dX5_enter_1 rfl (lv_at hl 1 rfl) ?_
  refine p_62_8 C hU hS hli fl_X5_32 dX5_enter_2 (fun iv_1 H locs ei_2 hU hS => ?_)
  have hG : GI al iv_1 rv := by rw [ei_2]; exact hG.puti (show _ ∧ _ from ⟨show (0 : Int) ≤ _ by omega, show _ ≤ (30000 : Int) by omega⟩) (nsF (by decide))
  have hF1 : FR ([], [(62, 10), (62, 11), (62, 12), (62, 13), (62, 7), (62, 8), (62, 9)]) iv iv_1 := by rw [ei_2]; exact hF1.put (by decide)
  refine lv_aload_n hx hb dX5_enter_5 rfl (lv_at hl 0 rfl) ?_
  refine lv_iload_n hx hb dX5_enter_6 rfl (lv_at hl 2 rfl) ?_
  refine p_62_9 C hU hS hli fl_X5_35 dX5_enter_7 (fun iv_3 H locs ei_4 hU hS => ?_)
  have hG : GI al iv_3 rv := by rw [ei_4]; exact hG.puti (show _ ∧ _ from ⟨show (0 : Int) ≤ _ by omega, show _ ≤ (30000 : Int) by omega⟩) (nsF (by decide))
  have hF1 : FR ([], [(62, 10), (62, 11), (62, 12), (62, 13), (62, 7), (62, 8), (62, 9)]) iv iv_3 := by rw [ei_4]; exact hF1.put (by decide)
  refine lv_aload_n hx hb dX5_enter_10 rfl (lv_at hl 0 rfl) ?_
  refine lv_iconst (v := 1) hx hb dX5_enter_11 (by decide) ?_
  refine p_62_7 C hU hS hli fl_X5_38 dX5_enter_12 (by omega) (by omega) (fun iv_5 H locs ei_6 hU hS => ?_)
  have hG : GI al iv_5 rv := by rw [ei_6]; exact hG.puti (show _ ∧ _ from ⟨show (0 : Int) ≤ _ by omega, show _ ≤ (1 : Int) by omega⟩) (nsF (by decide))
  have hF1 : FR ([], [(62, 10), (62, 11), (62, 12), (62, 13), (62, 7), (62, 8), (62, 9)]) iv iv_5 := by rw [ei_6]; exact hF1.put (by decide)
  refine lv_aload_n hx hb dX5_enter_15 rfl (lv_at hl 0 rfl) ?_
  refine q_fv (q_runV (t := 62) (i := li) (As := []) (rest := []) C hU (c_X5_putRight_x hG (li) hli ) vm_X5_putRight ml_X5_42 k_62.1 (hc := rfl) rfl hli hl.1 rfl rfl (Nat.le_of_ble_eq_true rfl) dX5_enter_16 rfl rfl ⟨Nat.le_of_ble_eq_true rfl, Nat.le_of_ble_eq_true rfl⟩ ⟨Nat.le_refl _, Nat.le_refl _⟩) hS (fun iv_8 rv_9 H locs hG fa_10 fb_11 hp_7 hU hS => ?_)
  have hF1 := hF1.tr (m := ([], [(62, 10), (62, 11), (62, 12), (62, 13), (62, 7), (62, 8), (62, 9)])) fa_10 (by decide)
  have hF2 := hF2.tr (m := ([], [(62, 10), (62, 11), (62, 12), (62, 13), (62, 7), (62, 8), (62, 9)])) fb_11 (by decide)
  exact hret (⟨hG, hF1, hF2, ⟨en_ok ei_2 ei_4 ei_6 fa_10, fun h => en_crt h ei_2 ei_4 ei_6 fa_10 fb_11 hp_7⟩⟩) hU hS dX5_enter_19
set_option maxHeartbeats 4000000 in
set_option maxRecDepth 100000 in
theorem c_X11_log_y {l : Launch} {D : va_G} {cA : FieldType → ClassId} {sz : Nat} {al : Al} {iv : Iv} {rv : Rv} (hG : GI al iv rv) (lg : Int32) (a : Int32) (b : Int32) : Met l yX11_log (wd yX11_log cX11_log 6 (some .int)) (rm 3) (PcW D cA sz al iv rv [.ref (al.2 49 0), .int lg, .int a, .int b]) (QI D cA sz al (fI al ([51], [(62, 10), (62, 11), (62, 12), (62, 13), (62, 7), (62, 8), (62, 9)]) iv rv (fun r iv' rv' => (spLog lg a b (iv 57 0 1).toInt = 0 ∧ r.toInt = 1 - (iv 62 lg.toNatClampNeg 7).toInt ∧ enP iv iv' lg.toNatClampNeg a b ∧ (CRT iv rv → CRT iv' rv')) ∨ (spLog lg a b (iv 57 0 1).toInt ≠ 0 ∧ r = spLog lg a b (iv 57 0 1).toInt ∧ enK iv iv' ∧ (CRT iv rv → CRT iv' rv'))))) 0 0 (Aq sz) := by
  refine mk_i (by decide) (Nat.le_of_ble_eq_true rfl) rfl ?_
  intro p e s m args below meth c ls Q H locs C hU hS hl hret
  have hx := C.1.1
  have hb := C.1.2.1
  have hl : lv_has ls 6 [(0, .ref (al.2 49 0)), (1, .int lg), (2, .int a), (3, .int b)] := hl
  have hG0 := hG
  have hF1 : FR ([51], [(62, 10), (62, 11), (62, 12), (62, 13), (62, 7), (62, 8), (62, 9)]) iv iv := FR.rf
  have hF2 : FR ([51], [(62, 10), (62, 11), (62, 12), (62, 13), (62, 7), (62, 8), (62, 9)]) rv rv := FR.rf
  have km6 : ((-6) : Int32).toInt = -6 := by decide
  have km4 : ((-4) : Int32).toInt = -4 := by decide
  have km1 : ((-1) : Int32).toInt = -1 := by decide
  have k0 : (0 : Int32).toInt = 0 := by decide
  have k1 : (1 : Int32).toInt = 1 := by decide
  have k30000 : (30000 : Int32).toInt = 30000 := by decide
  refine lv_aload_n hx hb dX11_log_0 rfl (lv_at hl 0 rfl) ?_
  refine g_49_1 C hU hG (h1_49 hG) fl_X11_19 dX11_log_1 ?_
  refine lv_iload_n hx hb dX11_log_4 rfl (lv_at hl 1 rfl) ?_
  refine q_pr (q_runV (t := 57) (i := 0) (As := [.int lg]) (rest := []) C hU (c_X10_find hG lg ) vm_X10_find ml_X11_123 k_57.1 (hc := rfl) rfl (h1_57 hG) hl.1 rfl rfl (Nat.le_of_ble_eq_true rfl) dX11_log_5 rfl rfl ⟨Nat.le_of_ble_eq_true rfl, Nat.le_of_ble_eq_true rfl⟩ ⟨Nat.le_refl _, Nat.le_refl _⟩) hS (fun r_2 H locs hp_1 hU hS => ?_)
  have hb_3 := hp_1.1
  refine b_astore (lv' := [(4, rfv al 62 r_2), (0, .ref (al.2 49 0)), (1, .int lg), (2, .int a), (3, .int b)]) hx hb dX11_log_8 hl (by decide) rfl (fun ls hl => ?_)
  refine b_aload (al := al) (t' := 62) (r := r_2) hx hb dX11_log_10 (lv_at hl 0 rfl) ?_
  refine b_ifnonnull (tgt := 21) hx hb dX11_log_12 (by decide) (fun j_5 ej_6 => ?_) (fun ej_6 => ?_)
  ·
    subst ej_6
    have hl : lv_has ls 6 [(4, .ref (al.2 62 j_5)), (0, .ref (al.2 49 0)), (1, .int lg), (2, .int a), (3, .int b)] := hl
    have hb_7 : j_5 < al.1 62 := hb_3 j_5 rfl
    have hq4 := hp_1.2.1 _ rfl
    have hn4 := hq4.1
    rw [clamp_n] at hn4
    refine lv_iload_n hx hb dX11_log_21 rfl (lv_at hl 3 rfl) ?_
    refine b_if_lt (tgt := 29) hx hb dX11_log_22 (by decide) (fun c_8 => ?_) (fun c_8 => ?_)
    ·
      refine lv_aload_n hx hb dX11_log_29 rfl (lv_at hl 1 rfl) ?_
      refine lv_bipush (v := (-4)) hx hb dX11_log_30 (by decide) ?_
      refine q_fi (q_runV (t := 49) (i := 0) (As := [.int (-4)]) (rest := []) C hU (c_X11_refuse hG (-4) (by omega)) vm_X11_refuse ml_X11_77 k_49.1 (hc := rfl) rfl (h1_49 hG) hl.1 rfl rfl (Nat.le_of_ble_eq_true rfl) dX11_log_32 rfl rfl ⟨Nat.le_of_ble_eq_true rfl, Nat.le_of_ble_eq_true rfl⟩ ⟨Nat.le_refl _, Nat.le_refl _⟩) hS (fun x_14 iv_10 rv_11 H locs hG fa_12 fb_13 hp_9 hU hS => ?_)
      have hF1 := hF1.tr (m := ([51], [(62, 10), (62, 11), (62, 12), (62, 13), (62, 7), (62, 8), (62, 9)])) fa_12 (by decide)
      have hF2 := hF2.tr (m := ([51], [(62, 10), (62, 11), (62, 12), (62, 13), (62, 7), (62, 8), (62, 9)])) fb_13 (by decide)
      exact hret (⟨hG, hF1, hF2, sp_no (z := (-4)) (by unfold spLog; (repeat' split) <;> first | rfl | omega) (by decide) hp_9 (⟨en_fr fa_12 (by decide), crt_fr fa_12 fb_13 (by decide)⟩)⟩) hU hS dX11_log_35
    ·
      refine lv_iload_n hx hb dX11_log_25 rfl (lv_at hl 4 rfl) ?_
      refine b_if_ge (tgt := 36) hx hb dX11_log_26 (by decide) (fun c_15 => ?_) (fun c_15 => ?_)
      ·
        refine lv_iload_n hx hb dX11_log_36 rfl (lv_at hl 3 rfl) ?_
        refine lv_sipush (v := 30000) hx hb dX11_log_37 (by decide) ?_
        refine b_icmp_gt (tgt := 50) hx hb dX11_log_40 (by decide) (fun c_16 => ?_) (fun c_16 => ?_)
        ·
          refine lv_aload_n hx hb dX11_log_50 rfl (lv_at hl 1 rfl) ?_
          refine lv_bipush (v := (-6)) hx hb dX11_log_51 (by decide) ?_
          refine q_fi (q_runV (t := 49) (i := 0) (As := [.int (-6)]) (rest := []) C hU (c_X11_refuse hG (-6) (by omega)) vm_X11_refuse ml_X11_77 k_49.1 (hc := rfl) rfl (h1_49 hG) hl.1 rfl rfl (Nat.le_of_ble_eq_true rfl) dX11_log_53 rfl rfl ⟨Nat.le_of_ble_eq_true rfl, Nat.le_of_ble_eq_true rfl⟩ ⟨Nat.le_refl _, Nat.le_refl _⟩) hS (fun x_22 iv_18 rv_19 H locs hG fa_20 fb_21 hp_17 hU hS => ?_)
          have hF1 := hF1.tr (m := ([51], [(62, 10), (62, 11), (62, 12), (62, 13), (62, 7), (62, 8), (62, 9)])) fa_20 (by decide)
          have hF2 := hF2.tr (m := ([51], [(62, 10), (62, 11), (62, 12), (62, 13), (62, 7), (62, 8), (62, 9)])) fb_21 (by decide)
          exact hret (⟨hG, hF1, hF2, sp_no (z := (-6)) (by unfold spLog; (repeat' split) <;> first | rfl | omega) (by decide) hp_17 (⟨en_fr fa_20 (by decide), crt_fr fa_20 fb_21 (by decide)⟩)⟩) hU hS dX11_log_56
        ·
          refine lv_iload_n hx hb dX11_log_43 rfl (lv_at hl 4 rfl) ?_
          refine lv_sipush (v := 30000) hx hb dX11_log_44 (by decide) ?_
          refine b_icmp_le (tgt := 57) hx hb dX11_log_47 (by decide) (fun c_23 => ?_) (fun c_23 => ?_)
          ·
            refine lv_aload hx hb dX11_log_57 (lv_at hl 0 rfl) ?_
            refine g_62_7 C hU hG hb_7 fl_X11_126 dX11_log_59 (fun x_24 e_25 le_25 ue_25 => ?_)
            have te_25 := congrArg Int32.toInt e_25
            refine lv_istore (lv' := [(5, .int x_24), (4, .ref (al.2 62 j_5)), (0, .ref (al.2 49 0)), (1, .int lg), (2, .int a), (3, .int b)]) hx hb dX11_log_62 hl (by decide) rfl (fun ls hl => ?_)
            refine lv_aload hx hb dX11_log_64 (lv_at hl 1 rfl) ?_
            refine lv_iload_n hx hb dX11_log_66 rfl (lv_at hl 4 rfl) ?_
            refine lv_iload_n hx hb dX11_log_67 rfl (lv_at hl 5 rfl) ?_
            refine q_fv (q_runV (t := 62) (i := j_5) (As := [.int a, .int b]) (rest := []) C hU (c_X5_enter_y hG (j_5) hb_7 a b (by omega) (by omega)) vm_X5_enter ml_X11_132 k_62.1 (hc := rfl) rfl hb_7 hl.1 rfl rfl (Nat.le_of_ble_eq_true rfl) dX11_log_68 rfl rfl ⟨Nat.le_of_ble_eq_true rfl, Nat.le_of_ble_eq_true rfl⟩ ⟨Nat.le_refl _, Nat.le_refl _⟩) hS (fun iv_27 rv_28 H locs hG fa_29 fb_30 hp_26 hU hS => ?_)
            have hF1 := hF1.tr (m := ([51], [(62, 10), (62, 11), (62, 12), (62, 13), (62, 7), (62, 8), (62, 9)])) fa_29 (by decide)
            have hF2 := hF2.tr (m := ([51], [(62, 10), (62, 11), (62, 12), (62, 13), (62, 7), (62, 8), (62, 9)])) fb_30 (by decide)
            refine lv_iload hx hb dX11_log_71 (lv_at hl 0 rfl) ?_
            refine b_if_eq (tgt := 80) hx hb dX11_log_73 (by decide) (fun c_31 => ?_) (fun c_31 => ?_)
            ·
              refine lv_iconst (v := 1) hx hb dX11_log_80 (by decide) ?_
              exact hret (⟨hG, hF1, hF2, Or.inl ⟨(by unfold spLog; (repeat' split) <;> first | rfl | omega), by have z1 := e_25; rw [hq4.1] at z1; have z2 := congrArg Int32.toInt z1; omega, by have z3 := hp_26.1; rw [hq4.1] at z3; exact z3, hp_26.2⟩⟩) hU hS dX11_log_81
            ·
              refine lv_iconst (v := 0) hx hb dX11_log_76 (by decide) ?_
              refine lv_goto (tgt := 81) hx hb dX11_log_77 (by decide) ?_
              exact hret (⟨hG, hF1, hF2, Or.inl ⟨(by unfold spLog; (repeat' split) <;> first | rfl | omega), by have z1 := e_25; rw [hq4.1] at z1; have z2 := congrArg Int32.toInt z1; omega, by have z3 := hp_26.1; rw [hq4.1] at z3; exact z3, hp_26.2⟩⟩) hU hS dX11_log_81
          ·
            refine lv_aload_n hx hb dX11_log_50 rfl (lv_at hl 1 rfl) ?_
            refine lv_bipush (v := (-6)) hx hb dX11_log_51 (by decide) ?_
            refine q_fi (q_runV (t := 49) (i := 0) (As := [.int (-6)]) (rest := []) C hU (c_X11_refuse hG (-6) (by omega)) vm_X11_refuse ml_X11_77 k_49.1 (hc := rfl) rfl (h1_49 hG) hl.1 rfl rfl (Nat.le_of_ble_eq_true rfl) dX11_log_53 rfl rfl ⟨Nat.le_of_ble_eq_true rfl, Nat.le_of_ble_eq_true rfl⟩ ⟨Nat.le_refl _, Nat.le_refl _⟩) hS (fun x_37 iv_33 rv_34 H locs hG fa_35 fb_36 hp_32 hU hS => ?_)
            have hF1 := hF1.tr (m := ([51], [(62, 10), (62, 11), (62, 12), (62, 13), (62, 7), (62, 8), (62, 9)])) fa_35 (by decide)
            have hF2 := hF2.tr (m := ([51], [(62, 10), (62, 11), (62, 12), (62, 13), (62, 7), (62, 8), (62, 9)])) fb_36 (by decide)
            exact hret (⟨hG, hF1, hF2, sp_no (z := (-6)) (by unfold spLog; (repeat' split) <;> first | rfl | omega) (by decide) hp_32 (⟨en_fr fa_35 (by decide), crt_fr fa_35 fb_36 (by decide)⟩)⟩) hU hS dX11_log_56
      ·
        refine lv_aload_n hx hb dX11_log_29 rfl (lv_at hl 1 rfl) ?_
        refine lv_bipush (v := (-4)) hx hb dX11_log_30 (by decide) ?_
        refine q_fi (q_runV (t := 49) (i := 0) (As := [.int (-4)]) (rest := []) C hU (c_X11_refuse hG (-4) (by omega)) vm_X11_refuse ml_X11_77 k_49.1 (hc := rfl) rfl (h1_49 hG) hl.1 rfl rfl (Nat.le_of_ble_eq_true rfl) dX11_log_32 rfl rfl ⟨Nat.le_of_ble_eq_true rfl, Nat.le_of_ble_eq_true rfl⟩ ⟨Nat.le_refl _, Nat.le_refl _⟩) hS (fun x_43 iv_39 rv_40 H locs hG fa_41 fb_42 hp_38 hU hS => ?_)
        have hF1 := hF1.tr (m := ([51], [(62, 10), (62, 11), (62, 12), (62, 13), (62, 7), (62, 8), (62, 9)])) fa_41 (by decide)
        have hF2 := hF2.tr (m := ([51], [(62, 10), (62, 11), (62, 12), (62, 13), (62, 7), (62, 8), (62, 9)])) fb_42 (by decide)
        exact hret (⟨hG, hF1, hF2, sp_no (z := (-4)) (by unfold spLog; (repeat' split) <;> first | rfl | omega) (by decide) hp_38 (⟨en_fr fa_41 (by decide), crt_fr fa_41 fb_42 (by decide)⟩)⟩) hU hS dX11_log_35
  ·
    subst ej_6
    have hl : lv_has ls 6 [(4, rfv al 62 none), (0, .ref (al.2 49 0)), (1, .int lg), (2, .int a), (3, .int b)] := hl
    have hq4 := hp_1.2.2 rfl
    refine lv_aload_n hx hb dX11_log_15 rfl (lv_at hl 1 rfl) ?_
    refine lv_iconst (v := (-1)) hx hb dX11_log_16 (by decide) ?_
    refine q_fi (q_runV (t := 49) (i := 0) (As := [.int (-1)]) (rest := []) C hU (c_X11_refuse hG (-1) (by omega)) vm_X11_refuse ml_X11_77 k_49.1 (hc := rfl) rfl (h1_49 hG) hl.1 rfl rfl (Nat.le_of_ble_eq_true rfl) dX11_log_17 rfl rfl ⟨Nat.le_of_ble_eq_true rfl, Nat.le_of_ble_eq_true rfl⟩ ⟨Nat.le_refl _, Nat.le_refl _⟩) hS (fun x_49 iv_45 rv_46 H locs hG fa_47 fb_48 hp_44 hU hS => ?_)
    have hF1 := hF1.tr (m := ([51], [(62, 10), (62, 11), (62, 12), (62, 13), (62, 7), (62, 8), (62, 9)])) fa_47 (by decide)
    have hF2 := hF2.tr (m := ([51], [(62, 10), (62, 11), (62, 12), (62, 13), (62, 7), (62, 8), (62, 9)])) fb_48 (by decide)
    exact hret (⟨hG, hF1, hF2, sp_no (z := (-1)) (by unfold spLog; (repeat' split) <;> first | rfl | omega) (by decide) hp_44 (⟨en_fr fa_47 (by decide), crt_fr fa_47 fb_48 (by decide)⟩)⟩) hU hS dX11_log_20
set_option maxHeartbeats 4000000 in
set_option maxRecDepth 100000 in
theorem c_X12_cause_x {l : Launch} {D : va_G} {cA : FieldType → ClassId} {sz : Nat} {al : Al} {iv : Iv} {rv : Rv} (hG : GI al iv rv) (lg : Int32) (cs : Int32) : Met l yX12_cause (wd yX12_cause cX12_cause 4 (some .int)) (rm 2) (PcW D cA sz al iv rv [.ref (al.2 0 0), .int lg, .int cs]) (QI D cA sz al (fI al ([16, 14], []) iv rv (fun r iv' rv' => (spCause lg cs (iv 0 0 6).toInt = 0 ∧ r = iv 14 0 lg.toNatClampNeg ∧ ∀ k, iv' 14 0 k = if k = lg.toNatClampNeg then cs else iv 14 0 k) ∨ (spCause lg cs (iv 0 0 6).toInt ≠ 0 ∧ r = spCause lg cs (iv 0 0 6).toInt ∧ ∀ k, iv' 14 0 k = iv 14 0 k)))) 0 0 (Aq sz) := by
  refine mk_i (by decide) (Nat.le_of_ble_eq_true rfl) rfl ?_
  intro p e s m args below meth c ls Q H locs C hU hS hl hret
  have hx := C.1.1
  have hb := C.1.2.1
  have hl : lv_has ls 4 [(0, .ref (al.2 0 0)), (1, .int lg), (2, .int cs)] := hl
  have hG0 := hG
  have h6 := le6 hG
  have h20 := le20 hG
  have h41 := le41 hG
  have hF1 : FR ([16, 14], []) iv iv := FR.rf
  have hF2 : FR ([16, 14], []) rv rv := FR.rf
  have km1 : ((-1) : Int32).toInt = -1 := by decide
  refine lv_aload_n hx hb dX12_cause_0 rfl (lv_at hl 0 rfl) ?_
  refine lv_iload_n hx hb dX12_cause_1 rfl (lv_at hl 1 rfl) ?_
  refine q_pi (q_runV (t := 0) (i := 0) (As := [.int lg]) (rest := []) C hU (c_X12_isLeg hG lg ) vm_X12_isLeg ml_X12_181 k_0.1 (hc := rfl) rfl (h1_0 hG) hl.1 rfl rfl (Nat.le_of_ble_eq_true rfl) dX12_cause_2 rfl rfl ⟨Nat.le_of_ble_eq_true rfl, Nat.le_of_ble_eq_true rfl⟩ ⟨Nat.le_refl _, Nat.le_refl _⟩) hS (fun x_2 H locs hp_1 hU hS => ?_)
  refine b_if_eq (tgt := 15) hx hb dX12_cause_5 (by decide) (fun c_3 => ?_) (fun c_3 => ?_)
  ·
    refine lv_aload_n hx hb dX12_cause_15 rfl (lv_at hl 0 rfl) ?_
    refine lv_iconst (v := (-1)) hx hb dX12_cause_16 (by decide) ?_
    refine q_fi (q_runV (t := 0) (i := 0) (As := [.int (-1)]) (rest := []) C hU (c_X12_refuse hG (-1) (by omega)) vm_X12_refuse ml_X12_164 k_0.1 (hc := rfl) rfl (h1_0 hG) hl.1 rfl rfl (Nat.le_of_ble_eq_true rfl) dX12_cause_17 rfl rfl ⟨Nat.le_of_ble_eq_true rfl, Nat.le_of_ble_eq_true rfl⟩ ⟨Nat.le_refl _, Nat.le_refl _⟩) hS (fun x_9 iv_5 rv_6 H locs hG fa_7 fb_8 hp_4 hU hS => ?_)
    have hF1 := hF1.tr (m := ([16, 14], [])) fa_7 (by decide)
    have hF2 := hF2.tr (m := ([16, 14], [])) fb_8 (by decide)
    exact hret (⟨hG, hF1, hF2, sp_no (z := (-1)) (by unfold spCause; (repeat' split) <;> first | rfl | omega) (by decide) hp_4 (fun k => fa_7.arr 14 0 k (by decide))⟩) hU hS dX12_cause_20
  ·
    refine lv_iload_n hx hb dX12_cause_8 rfl (lv_at hl 2 rfl) ?_
    refine q_pi (q_runS (As := [.int cs]) (rest := []) C hU (c_X12_isCause  cs ) sm_X12_isCause ml_X12_184 hl.1 rfl rfl (Nat.le_of_ble_eq_true rfl) dX12_cause_9 rfl rfl ⟨Nat.le_of_ble_eq_true rfl, Nat.le_of_ble_eq_true rfl⟩ ⟨Nat.le_refl _, Nat.le_refl _⟩) hS (fun x_11 H locs hp_10 hU hS => ?_)
    refine b_if_ne (tgt := 21) hx hb dX12_cause_12 (by decide) (fun c_12 => ?_) (fun c_12 => ?_)
    ·
      refine lv_aload_n hx hb dX12_cause_21 rfl (lv_at hl 0 rfl) ?_
      refine g_0_16 C hU hG (h1_0 hG) fl_X12_50 dX12_cause_22 ?_
      refine lv_iload_n hx hb dX12_cause_25 rfl (lv_at hl 1 rfl) ?_
      refine a_14 C hU hG (h1_14 hG) (x := lg) (by omega) (by omega) dX12_cause_26 (fun x_13 e_14 le_14 ue_14 => ?_)
      have te_14 := congrArg Int32.toInt e_14
      refine lv_istore_n (lv' := [(3, .int x_13), (0, .ref (al.2 0 0)), (1, .int lg), (2, .int cs)]) hx hb dX12_cause_27 rfl hl (by decide) rfl (fun ls hl => ?_)
      refine lv_aload_n hx hb dX12_cause_28 rfl (lv_at hl 1 rfl) ?_
      refine g_0_16 C hU hG (h1_0 hG) fl_X12_50 dX12_cause_29 ?_
      refine lv_iload_n hx hb dX12_cause_32 rfl (lv_at hl 2 rfl) ?_
      refine lv_iload_n hx hb dX12_cause_33 rfl (lv_at hl 3 rfl) ?_
      refine s_14 C hU hS (h1_14 hG) (x := lg) (by omega) (by omega) dX12_cause_34 (fun iv_15 H locs ei_16 hU hS => ?_)
      have hG : GI al iv_15 rv := by rw [ei_16]; exact hG.puti (show _ ∧ _ from ⟨show (0 : Int) ≤ _ by omega, show _ ≤ (5 : Int) by omega⟩) (nsA (by decide) _)
      have hF1 : FR ([16, 14], []) iv iv_15 := by rw [ei_16]; exact hF1.put (Or.inl (by decide))
      refine lv_iload_n hx hb dX12_cause_35 rfl (lv_at hl 0 rfl) ?_
      exact hret (⟨hG, hF1, hF2, Or.inl ⟨(by unfold spCause; (repeat' split) <;> first | rfl | omega), e_14, fun k => by rw [ei_16]; simp [up3]⟩⟩) hU hS dX12_cause_36
    ·
      refine lv_aload_n hx hb dX12_cause_15 rfl (lv_at hl 0 rfl) ?_
      refine lv_iconst (v := (-1)) hx hb dX12_cause_16 (by decide) ?_
      refine q_fi (q_runV (t := 0) (i := 0) (As := [.int (-1)]) (rest := []) C hU (c_X12_refuse hG (-1) (by omega)) vm_X12_refuse ml_X12_164 k_0.1 (hc := rfl) rfl (h1_0 hG) hl.1 rfl rfl (Nat.le_of_ble_eq_true rfl) dX12_cause_17 rfl rfl ⟨Nat.le_of_ble_eq_true rfl, Nat.le_of_ble_eq_true rfl⟩ ⟨Nat.le_refl _, Nat.le_refl _⟩) hS (fun x_22 iv_18 rv_19 H locs hG fa_20 fb_21 hp_17 hU hS => ?_)
      have hF1 := hF1.tr (m := ([16, 14], [])) fa_20 (by decide)
      have hF2 := hF2.tr (m := ([16, 14], [])) fb_21 (by decide)
      exact hret (⟨hG, hF1, hF2, sp_no (z := (-1)) (by unfold spCause; (repeat' split) <;> first | rfl | omega) (by decide) hp_17 (fun k => fa_20.arr 14 0 k (by decide))⟩) hU hS dX12_cause_20
set_option maxHeartbeats 4000000 in
set_option maxRecDepth 100000 in
theorem c_X11_cause_x {l : Launch} {D : va_G} {cA : FieldType → ClassId} {sz : Nat} {al : Al} {iv : Iv} {rv : Rv} (hG : GI al iv rv) (lg : Int32) (cs : Int32) : Met l yX11_cause (wd yX11_cause cX11_cause 5 (some .int)) (rm 2) (PcW D cA sz al iv rv [.ref (al.2 49 0), .int lg, .int cs]) (QI D cA sz al (fI al ([51], [(62, 14)]) iv rv (fun r iv' rv' => (spCause lg cs (iv 57 0 1).toInt = 0 ∧ r = iv 62 lg.toNatClampNeg 14 ∧ ∀ k, iv' 62 k 14 = if k = lg.toNatClampNeg then cs else iv 62 k 14) ∨ (spCause lg cs (iv 57 0 1).toInt ≠ 0 ∧ r = spCause lg cs (iv 57 0 1).toInt ∧ ∀ k, iv' 62 k 14 = iv 62 k 14)))) 0 0 (Aq sz) := by
  refine mk_i (by decide) (Nat.le_of_ble_eq_true rfl) rfl ?_
  intro p e s m args below meth c ls Q H locs C hU hS hl hret
  have hx := C.1.1
  have hb := C.1.2.1
  have hl : lv_has ls 5 [(0, .ref (al.2 49 0)), (1, .int lg), (2, .int cs)] := hl
  have hG0 := hG
  have hF1 : FR ([51], [(62, 14)]) iv iv := FR.rf
  have hF2 : FR ([51], [(62, 14)]) rv rv := FR.rf
  have km1 : ((-1) : Int32).toInt = -1 := by decide
  have k6 : (6 : Int32).toInt = 6 := by decide
  refine lv_aload_n hx hb dX11_cause_0 rfl (lv_at hl 0 rfl) ?_
  refine g_49_1 C hU hG (h1_49 hG) fl_X11_19 dX11_cause_1 ?_
  refine lv_iload_n hx hb dX11_cause_4 rfl (lv_at hl 1 rfl) ?_
  refine q_pr (q_runV (t := 57) (i := 0) (As := [.int lg]) (rest := []) C hU (c_X10_find hG lg ) vm_X10_find ml_X11_123 k_57.1 (hc := rfl) rfl (h1_57 hG) hl.1 rfl rfl (Nat.le_of_ble_eq_true rfl) dX11_cause_5 rfl rfl ⟨Nat.le_of_ble_eq_true rfl, Nat.le_of_ble_eq_true rfl⟩ ⟨Nat.le_refl _, Nat.le_refl _⟩) hS (fun r_2 H locs hp_1 hU hS => ?_)
  have hb_3 := hp_1.1
  refine b_astore_n (lv' := [(3, rfv al 62 r_2), (0, .ref (al.2 49 0)), (1, .int lg), (2, .int cs)]) hx hb dX11_cause_8 rfl hl (by decide) rfl (fun ls hl => ?_)
  refine b_aload_n (al := al) (t' := 62) (r := r_2) hx hb dX11_cause_9 rfl (lv_at hl 0 rfl) ?_
  refine b_ifnull (tgt := 22) hx hb dX11_cause_10 (by decide) (fun ej_6 => ?_) (fun j_5 ej_6 => ?_)
  ·
    subst ej_6
    have hl : lv_has ls 5 [(3, rfv al 62 none), (0, .ref (al.2 49 0)), (1, .int lg), (2, .int cs)] := hl
    have hq4 := hp_1.2.2 rfl
    refine lv_aload_n hx hb dX11_cause_22 rfl (lv_at hl 1 rfl) ?_
    refine lv_iconst (v := (-1)) hx hb dX11_cause_23 (by decide) ?_
    refine q_fi (q_runV (t := 49) (i := 0) (As := [.int (-1)]) (rest := []) C hU (c_X11_refuse hG (-1) (by omega)) vm_X11_refuse ml_X11_77 k_49.1 (hc := rfl) rfl (h1_49 hG) hl.1 rfl rfl (Nat.le_of_ble_eq_true rfl) dX11_cause_24 rfl rfl ⟨Nat.le_of_ble_eq_true rfl, Nat.le_of_ble_eq_true rfl⟩ ⟨Nat.le_refl _, Nat.le_refl _⟩) hS (fun x_12 iv_8 rv_9 H locs hG fa_10 fb_11 hp_7 hU hS => ?_)
    have hF1 := hF1.tr (m := ([51], [(62, 14)])) fa_10 (by decide)
    have hF2 := hF2.tr (m := ([51], [(62, 14)])) fb_11 (by decide)
    exact hret (⟨hG, hF1, hF2, sp_no (z := (-1)) (by unfold spCause; (repeat' split) <;> first | rfl | omega) (by decide) hp_7 (fun k => fa_10 62 k 14 (by decide))⟩) hU hS dX11_cause_27
  ·
    subst ej_6
    have hl : lv_has ls 5 [(3, .ref (al.2 62 j_5)), (0, .ref (al.2 49 0)), (1, .int lg), (2, .int cs)] := hl
    have hb_13 : j_5 < al.1 62 := hb_3 j_5 rfl
    have hq4 := hp_1.2.1 _ rfl
    have hn4 := hq4.1
    rw [clamp_n] at hn4
    refine lv_bipush (v := 6) hx hb dX11_cause_13 (by decide) ?_
    refine lv_iload_n hx hb dX11_cause_15 rfl (lv_at hl 3 rfl) ?_
    refine q_pi (q_runS (As := [.int 6, .int cs]) (rest := []) C hU (c_X11_isOneOf  6 cs ) sm_X11_isOneOf ml_X11_85 hl.1 rfl rfl (Nat.le_of_ble_eq_true rfl) dX11_cause_16 rfl rfl ⟨Nat.le_of_ble_eq_true rfl, Nat.le_of_ble_eq_true rfl⟩ ⟨Nat.le_refl _, Nat.le_refl _⟩) hS (fun x_15 H locs hp_14 hU hS => ?_)
    refine b_if_ne (tgt := 28) hx hb dX11_cause_19 (by decide) (fun c_16 => ?_) (fun c_16 => ?_)
    ·
      refine lv_aload_n hx hb dX11_cause_28 rfl (lv_at hl 0 rfl) ?_
      refine g_62_14 C hU hG hb_13 fl_X11_136 dX11_cause_29 (fun x_17 e_18 le_18 ue_18 => ?_)
      have te_18 := congrArg Int32.toInt e_18
      refine lv_istore (lv' := [(4, .int x_17), (3, .ref (al.2 62 j_5)), (0, .ref (al.2 49 0)), (1, .int lg), (2, .int cs)]) hx hb dX11_cause_32 hl (by decide) rfl (fun ls hl => ?_)
      refine lv_aload_n hx hb dX11_cause_34 rfl (lv_at hl 1 rfl) ?_
      refine lv_iload_n hx hb dX11_cause_35 rfl (lv_at hl 4 rfl) ?_
      refine p_62_14 C hU hS hb_13 fl_X11_136 dX11_cause_36 (fun iv_19 H locs ei_20 hU hS => ?_)
      have hG : GI al iv_19 rv := by rw [ei_20]; exact hG.puti (show _ ∧ _ from ⟨show (0 : Int) ≤ _ by omega, show _ ≤ (5 : Int) by omega⟩) (nsF (by decide))
      have hF1 : FR ([51], [(62, 14)]) iv iv_19 := by rw [ei_20]; exact hF1.put (by decide)
      refine lv_iload hx hb dX11_cause_39 (lv_at hl 0 rfl) ?_
      exact hret (⟨hG, hF1, hF2, Or.inl ⟨(by unfold spCause; (repeat' split) <;> first | rfl | omega), by rw [e_18, hq4.1], fun k => by rw [ei_20, hq4.1]; simp [up3]⟩⟩) hU hS dX11_cause_41
    ·
      refine lv_aload_n hx hb dX11_cause_22 rfl (lv_at hl 1 rfl) ?_
      refine lv_iconst (v := (-1)) hx hb dX11_cause_23 (by decide) ?_
      refine q_fi (q_runV (t := 49) (i := 0) (As := [.int (-1)]) (rest := []) C hU (c_X11_refuse hG (-1) (by omega)) vm_X11_refuse ml_X11_77 k_49.1 (hc := rfl) rfl (h1_49 hG) hl.1 rfl rfl (Nat.le_of_ble_eq_true rfl) dX11_cause_24 rfl rfl ⟨Nat.le_of_ble_eq_true rfl, Nat.le_of_ble_eq_true rfl⟩ ⟨Nat.le_refl _, Nat.le_refl _⟩) hS (fun x_26 iv_22 rv_23 H locs hG fa_24 fb_25 hp_21 hU hS => ?_)
      have hF1 := hF1.tr (m := ([51], [(62, 14)])) fa_24 (by decide)
      have hF2 := hF2.tr (m := ([51], [(62, 14)])) fb_25 (by decide)
      exact hret (⟨hG, hF1, hF2, sp_no (z := (-1)) (by unfold spCause; (repeat' split) <;> first | rfl | omega) (by decide) hp_21 (fun k => fa_24 62 k 14 (by decide))⟩) hU hS dX11_cause_27
end
section
set_option maxHeartbeats 4000000 in
set_option maxRecDepth 100000 in
theorem c_X12_traveller_y {l : Launch} {D : va_G} {cA : FieldType → ClassId} {sz : Nat} {al : Al} {iv : Iv} {rv : Rv} (hG : GI al iv rv) (lg : Int32) : Met l yX12_traveller (wd yX12_traveller cX12_traveller 2 (some .int)) (rm 2) (PcW D cA sz al iv rv [.ref (al.2 0 0), .int lg]) (QI D cA sz al (fI al ([16, 18, 19], [(0, 20)]) iv rv (fun r iv' rv' => (spTrav lg (iv 0 0 6).toInt (iv 0 0 20).toInt = 0 ∧ r.toInt = (iv 0 0 20).toInt ∧ (iv' 0 0 20).toInt = (iv 0 0 20).toInt + 1 ∧ (∀ k : Nat, iv' 18 0 k = (if k = 4 * (iv 0 0 20).toNatClampNeg then lg else iv 18 0 k) ∧ iv' 19 0 k = (if k = (iv 0 0 20).toNatClampNeg then 1 else iv 19 0 k))) ∨ (spTrav lg (iv 0 0 6).toInt (iv 0 0 20).toInt ≠ 0 ∧ r = spTrav lg (iv 0 0 6).toInt (iv 0 0 20).toInt ∧ iv' 0 0 20 = iv 0 0 20 ∧ (∀ k : Nat, iv' 18 0 k = iv 18 0 k ∧ iv' 19 0 k = iv 19 0 k))))) 0 0 (Aq sz) := by
  refine mk_i (by decide) (Nat.le_of_ble_eq_true rfl) rfl ?_
  intro p e s m args below meth c ls Q H locs C hU hS hl hret
  have hx := C.1.1
  have hb := C.1.2.1
  have hl : lv_has ls 2 [(0, .ref (al.2 0 0)), (1, .int lg)] := hl
  have hG0 := hG
  have h6 := le6 hG
  have h20 := le20 hG
  have h41 := le41 hG
  have hF1 : FR ([16, 18, 19], [(0, 20)]) iv iv := FR.rf
  have hF2 : FR ([16, 18, 19], [(0, 20)]) rv rv := FR.rf
  have km6 : ((-6) : Int32).toInt = -6 := by decide
  have km1 : ((-1) : Int32).toInt = -1 := by decide
  have k1 : (1 : Int32).toInt = 1 := by decide
  have k4 : (4 : Int32).toInt = 4 := by decide
  have k20 : (20 : Int32).toInt = 20 := by decide
  refine lv_aload_n hx hb dX12_traveller_0 rfl (lv_at hl 0 rfl) ?_
  refine lv_iload_n hx hb dX12_traveller_1 rfl (lv_at hl 1 rfl) ?_
  refine q_pi (q_runV (t := 0) (i := 0) (As := [.int lg]) (rest := []) C hU (c_X12_isLeg hG lg ) vm_X12_isLeg ml_X12_181 k_0.1 (hc := rfl) rfl (h1_0 hG) hl.1 rfl rfl (Nat.le_of_ble_eq_true rfl) dX12_traveller_2 rfl rfl ⟨Nat.le_of_ble_eq_true rfl, Nat.le_of_ble_eq_true rfl⟩ ⟨Nat.le_refl _, Nat.le_refl _⟩) hS (fun x_2 H locs hp_1 hU hS => ?_)
  refine b_if_ne (tgt := 14) hx hb dX12_traveller_5 (by decide) (fun c_3 => ?_) (fun c_3 => ?_)
  ·
    refine lv_aload_n hx hb dX12_traveller_14 rfl (lv_at hl 0 rfl) ?_
    refine g_0_20 C hU hG (h1_0 hG) fl_X12_223 dX12_traveller_15 (fun x_4 e_5 le_5 ue_5 => ?_)
    have te_5 := congrArg Int32.toInt e_5
    refine lv_bipush (v := 20) hx hb dX12_traveller_18 (by decide) ?_
    refine b_icmp_ne (tgt := 30) hx hb dX12_traveller_20 (by decide) (fun c_6 => ?_) (fun c_6 => ?_)
    ·
      refine lv_aload_n hx hb dX12_traveller_30 rfl (lv_at hl 0 rfl) ?_
      refine g_0_21 C hU hG (h1_0 hG) fl_X12_62 dX12_traveller_31 ?_
      refine lv_iconst (v := 4) hx hb dX12_traveller_34 (by decide) ?_
      refine lv_aload_n hx hb dX12_traveller_35 rfl (lv_at hl 0 rfl) ?_
      refine g_0_20 C hU hG (h1_0 hG) fl_X12_223 dX12_traveller_36 (fun x_7 e_8 le_8 ue_8 => ?_)
      have te_8 := congrArg Int32.toInt e_8
      refine lv_imul hx hb dX12_traveller_39 ?_
      refine lv_topi (fun x_9 e_10 => ?_)
      have te_10 : x_9.toInt = 4 * (x_7 : Int32).toInt := by rw [e_10, fb_mulI (by rw [show (4 : Int32).toInt = 4 from by decide]; omega) (by rw [show (4 : Int32).toInt = 4 from by decide]; omega), show (4 : Int32).toInt = 4 from by decide]
      refine lv_iload_n hx hb dX12_traveller_40 rfl (lv_at hl 1 rfl) ?_
      refine s_18 C hU hS (h1_18 hG) (x := x_9) (by omega) (by omega) dX12_traveller_41 (fun iv_11 H locs ei_12 hU hS => ?_)
      have hG : GI al iv_11 rv := by rw [ei_12]; exact hG.puti (show _ ∧ _ from ⟨show (0 : Int) ≤ _ by omega, show _ ≤ (39 : Int) by omega⟩) (nsA (by decide) _)
      have hF1 : FR ([16, 18, 19], [(0, 20)]) iv iv_11 := by rw [ei_12]; exact hF1.put (Or.inl (by decide))
      have kf_13 := congrArg Int32.toInt (show iv_11 0 0 20 = iv 0 0 20 by rw [ei_12]; exact up3_ne (fun z => absurd z.1 (by decide)))
      refine lv_aload_n hx hb dX12_traveller_42 rfl (lv_at hl 0 rfl) ?_
      refine g_0_22 C hU hG (h1_0 hG) fl_X12_65 dX12_traveller_43 ?_
      refine lv_aload_n hx hb dX12_traveller_46 rfl (lv_at hl 0 rfl) ?_
      refine g_0_20 C hU hG (h1_0 hG) fl_X12_223 dX12_traveller_47 (fun x_14 e_15 le_15 ue_15 => ?_)
      have te_15 := congrArg Int32.toInt e_15
      refine lv_iconst (v := 1) hx hb dX12_traveller_50 (by decide) ?_
      refine s_19 C hU hS (h1_19 hG) (x := x_14) (by omega) (by omega) dX12_traveller_51 (fun iv_16 H locs ei_17 hU hS => ?_)
      have hG : GI al iv_16 rv := by rw [ei_17]; exact hG.put19 ⟨by omega, by omega⟩
      have hF1 : FR ([16, 18, 19], [(0, 20)]) iv iv_16 := by rw [ei_17]; exact hF1.put (Or.inl (by decide))
      have kf_18 := congrArg Int32.toInt (show iv_16 0 0 20 = iv_11 0 0 20 by rw [ei_17]; exact up3_ne (fun z => absurd z.1 (by decide)))
      refine lv_aload_n hx hb dX12_traveller_52 rfl (lv_at hl 0 rfl) ?_
      refine lv_dup hx hb dX12_traveller_53 rfl ?_
      refine g_0_20 C hU hG (h1_0 hG) fl_X12_223 dX12_traveller_54 (fun x_19 e_20 le_20 ue_20 => ?_)
      have te_20 := congrArg Int32.toInt e_20
      have a1 : iv_16 19 0 x_19.toNatClampNeg = 1 := by rw [ei_17, clamp_eq (show x_19.toInt = x_14.toInt by omega)]; exact up3_self _ _ _ _ _
      refine lv_iconst (v := 1) hx hb dX12_traveller_57 (by decide) ?_
      refine lv_iadd hx hb dX12_traveller_58 ?_
      refine lv_topi (fun x_21 e_22 => ?_)
      have te_22 : x_21.toInt = (x_19 : Int32).toInt + (1 : Int32).toInt := by rw [e_22]; exact fb_addI (by omega) (by omega)
      refine p_0_20 C hU hS (h1_0 hG) fl_X12_223 dX12_traveller_59 (fun iv_23 H locs ei_24 hU hS => ?_)
      have hG : GI al iv_23 rv := by rw [ei_24]; exact hG.put20 (x := x_19) ⟨by omega, by omega⟩ (by omega) (by omega) (by rw [a1]; omega)
      have hF1 : FR ([16, 18, 19], [(0, 20)]) iv iv_23 := by rw [ei_24]; exact hF1.put (by decide)
      refine lv_aload_n hx hb dX12_traveller_62 rfl (lv_at hl 0 rfl) ?_
      refine g_0_20 C hU hG (h1_0 hG) fl_X12_223 dX12_traveller_63 (fun x_25 e_26 le_26 ue_26 => ?_)
      have te_26 := congrArg Int32.toInt e_26
      have hz_ := e_26
      rw [ei_24, up3_self] at hz_
      have tz_ := congrArg Int32.toInt hz_
      refine lv_iconst (v := 1) hx hb dX12_traveller_66 (by decide) ?_
      refine lv_isub hx hb dX12_traveller_67 ?_
      refine lv_topi (fun x_27 e_28 => ?_)
      have te_28 : x_27.toInt = (x_25 : Int32).toInt - (1 : Int32).toInt := by rw [e_28]; exact fb_subI (by omega) (by omega)
      exact hret (⟨hG, hF1, hF2, Or.inl ⟨(by unfold spTrav; (repeat' split) <;> first | rfl | omega), by omega, by rw [ei_24, up3_self]; omega, fun k => tr_ok ei_12 ei_17 ei_24 (by omega) (by omega)⟩⟩) hU hS dX12_traveller_68
    ·
      refine lv_aload_n hx hb dX12_traveller_23 rfl (lv_at hl 0 rfl) ?_
      refine lv_bipush (v := (-6)) hx hb dX12_traveller_24 (by decide) ?_
      refine q_fi (q_runV (t := 0) (i := 0) (As := [.int (-6)]) (rest := []) C hU (c_X12_refuse hG (-6) (by omega)) vm_X12_refuse ml_X12_164 k_0.1 (hc := rfl) rfl (h1_0 hG) hl.1 rfl rfl (Nat.le_of_ble_eq_true rfl) dX12_traveller_26 rfl rfl ⟨Nat.le_of_ble_eq_true rfl, Nat.le_of_ble_eq_true rfl⟩ ⟨Nat.le_refl _, Nat.le_refl _⟩) hS (fun x_34 iv_30 rv_31 H locs hG fa_32 fb_33 hp_29 hU hS => ?_)
      have hF1 := hF1.tr (m := ([16, 18, 19], [(0, 20)])) fa_32 (by decide)
      have hF2 := hF2.tr (m := ([16, 18, 19], [(0, 20)])) fb_33 (by decide)
      exact hret (⟨hG, hF1, hF2, sp_no (z := (-6)) (by unfold spTrav; (repeat' split) <;> first | rfl | omega) (by decide) hp_29 (⟨fa_32 0 0 20 (by decide), fun k => ⟨fa_32.arr 18 0 k (by decide), fa_32.arr 19 0 k (by decide)⟩⟩)⟩) hU hS dX12_traveller_29
  ·
    refine lv_aload_n hx hb dX12_traveller_8 rfl (lv_at hl 0 rfl) ?_
    refine lv_iconst (v := (-1)) hx hb dX12_traveller_9 (by decide) ?_
    refine q_fi (q_runV (t := 0) (i := 0) (As := [.int (-1)]) (rest := []) C hU (c_X12_refuse hG (-1) (by omega)) vm_X12_refuse ml_X12_164 k_0.1 (hc := rfl) rfl (h1_0 hG) hl.1 rfl rfl (Nat.le_of_ble_eq_true rfl) dX12_traveller_10 rfl rfl ⟨Nat.le_of_ble_eq_true rfl, Nat.le_of_ble_eq_true rfl⟩ ⟨Nat.le_refl _, Nat.le_refl _⟩) hS (fun x_40 iv_36 rv_37 H locs hG fa_38 fb_39 hp_35 hU hS => ?_)
    have hF1 := hF1.tr (m := ([16, 18, 19], [(0, 20)])) fa_38 (by decide)
    have hF2 := hF2.tr (m := ([16, 18, 19], [(0, 20)])) fb_39 (by decide)
    exact hret (⟨hG, hF1, hF2, sp_no (z := (-1)) (by unfold spTrav; (repeat' split) <;> first | rfl | omega) (by decide) hp_35 (⟨fa_38 0 0 20 (by decide), fun k => ⟨fa_38.arr 18 0 k (by decide), fa_38.arr 19 0 k (by decide)⟩⟩)⟩) hU hS dX12_traveller_13
set_option maxHeartbeats 4000000 in
set_option maxRecDepth 100000 in
theorem c_X11_traveller_y {l : Launch} {D : va_G} {cA : FieldType → ClassId} {sz : Nat} {al : Al} {iv : Iv} {rv : Rv} (hG : GI al iv rv) (lg : Int32) : Met l yX11_traveller (wd yX11_traveller cX11_traveller 3 (some .int)) (rmA 3 3 16) (PcA D cA sz al iv rv [.ref (al.2 49 0), .int lg] (fun _ => True)) (QIA D cA sz (fun r al' iv' rv' => GI al' iv' rv' ∧ EX ([51, 64], [(63, 1)]) al iv rv al' iv' rv' ∧ ((spTrav lg (iv 57 0 1).toInt (iv 63 0 1).toInt = 0 ∧ r.toInt = (iv 63 0 1).toInt ∧ (iv' 63 0 1).toInt = (iv 63 0 1).toInt + 1 ∧ ∃ (aa a6 a7 : Nat) (siz : Int32), siz.toInt = al.1 65 + 1 ∧ al' = grow (grow (grow al 65 aa) 66 a6) 67 a7 ∧ iv' = tickIv iv (al.1 65) r siz ∧ rv' = tickRv rv (al.1 65) lg.toNatClampNeg) ∨ (spTrav lg (iv 57 0 1).toInt (iv 63 0 1).toInt ≠ 0 ∧ r = spTrav lg (iv 57 0 1).toInt (iv 63 0 1).toInt ∧ iv' 63 0 1 = iv 63 0 1)))) 3 16 (Aq sz) := by
  refine mk_ia (by decide) (Nat.le_of_ble_eq_true rfl) rfl ?_
  intro p e s m args below meth c ls Q H locs C hU hS hX hz0 hl hret
  have hx := C.1.1
  have hb := C.1.2.1
  have hl : lv_has ls 3 [(0, .ref (al.2 49 0)), (1, .int lg)] := hl
  have hG0 := hG
  have hF1 : FR ([51, 64], [(63, 1)]) iv iv := FR.rf
  have hF2 : FR ([51, 64], [(63, 1)]) rv rv := FR.rf
  have km6 : ((-6) : Int32).toInt = -6 := by decide
  have km1 : ((-1) : Int32).toInt = -1 := by decide
  refine lv_aload_n hx hb dX11_traveller_0 rfl (lv_at hl 0 rfl) ?_
  refine g_49_1 C hU hG (h1_49 hG) fl_X11_19 dX11_traveller_1 ?_
  refine lv_iload_n hx hb dX11_traveller_4 rfl (lv_at hl 1 rfl) ?_
  refine q_pr (q_runV (t := 57) (i := 0) (As := [.int lg]) (rest := []) C hU (c_X10_find hG lg ) vm_X10_find ml_X11_123 k_57.1 (hc := rfl) rfl (h1_57 hG) hl.1 rfl rfl (Nat.le_of_ble_eq_true rfl) dX11_traveller_5 rfl rfl ⟨Nat.le_of_ble_eq_true rfl, Nat.le_of_ble_eq_true rfl⟩ ⟨Nat.le_of_ble_eq_true rfl, Nat.le_of_ble_eq_true rfl⟩) hS (fun r_2 H locs hp_1 hU hS => ?_)
  have hb_3 := hp_1.1
  refine b_astore_n (lv' := [(2, rfv al 62 r_2), (0, .ref (al.2 49 0)), (1, .int lg)]) hx hb dX11_traveller_8 rfl hl (by decide) rfl (fun ls hl => ?_)
  refine b_aload_n (al := al) (t' := 62) (r := r_2) hx hb dX11_traveller_9 rfl (lv_at hl 0 rfl) ?_
  refine b_ifnonnull (tgt := 19) hx hb dX11_traveller_10 (by decide) (fun j_5 ej_6 => ?_) (fun ej_6 => ?_)
  ·
    subst ej_6
    have hl : lv_has ls 3 [(2, .ref (al.2 62 j_5)), (0, .ref (al.2 49 0)), (1, .int lg)] := hl
    have hb_7 : j_5 < al.1 62 := hb_3 j_5 rfl
    have hq4 := hp_1.2.1 _ rfl
    have hn4 := hq4.1
    rw [clamp_n] at hn4
    refine lv_aload_n hx hb dX11_traveller_19 rfl (lv_at hl 1 rfl) ?_
    refine g_49_2 C hU hG (h1_49 hG) fl_X11_26 dX11_traveller_20 ?_
    refine q_pi (q_runV (t := 63) (i := 0) (As := []) (rest := []) C hU (c_X9_isFull hG  ) vm_X9_isFull ml_X11_189 k_63.1 (hc := rfl) rfl (h1_63 hG) hl.1 rfl rfl (Nat.le_of_ble_eq_true rfl) dX11_traveller_23 rfl rfl ⟨Nat.le_of_ble_eq_true rfl, Nat.le_of_ble_eq_true rfl⟩ ⟨Nat.le_of_ble_eq_true rfl, Nat.le_of_ble_eq_true rfl⟩) hS (fun x_9 H locs hp_8 hU hS => ?_)
    refine b_if_eq (tgt := 36) hx hb dX11_traveller_26 (by decide) (fun c_10 => ?_) (fun c_10 => ?_)
    ·
      refine lv_aload_n hx hb dX11_traveller_36 rfl (lv_at hl 1 rfl) ?_
      refine g_49_2 C hU hG (h1_49 hG) fl_X11_26 dX11_traveller_37 ?_
      refine lv_aload_n hx hb dX11_traveller_40 rfl (lv_at hl 0 rfl) ?_
      refine q_ciA (q_runVA (t := 63) (i := 0) (As := [.ref (al.2 62 j_5)]) (rest := []) C hU (Nat.le_trans hz0 hS.1) (c_X9_add hG (j_5) hb_7 (by omega)) vm_X9_add ml_X11_190 k_63.1 (hc := rfl) rfl (h1_63 hG) hl.1 rfl rfl (Nat.le_of_ble_eq_true rfl) dX11_traveller_41 rfl rfl ⟨Nat.le_of_ble_eq_true rfl, Nat.le_of_ble_eq_true rfl⟩ ⟨Nat.le_of_ble_eq_true rfl, Nat.le_of_ble_eq_true rfl⟩) hS (Nat.le_trans hz0 hS.1) (fun x_12 al' iv' rv' H locs hp_11 hU hS _ => ?_)
      exact hret (⟨hp_11.1, (EX.of hF1 hF2).tr hp_11.2.1 (by decide) (by decide), Or.inl ⟨(by unfold spTrav; (repeat' split) <;> first | rfl | omega), by rw [hp_11.2.2.1], tick_cnt hG0 hp_11.2.2.2, (by have z := hp_11.2.2.2; rw [hq4.1] at z; exact z)⟩⟩) hU hS dX11_traveller_44
    ·
      refine lv_aload_n hx hb dX11_traveller_29 rfl (lv_at hl 1 rfl) ?_
      refine lv_bipush (v := (-6)) hx hb dX11_traveller_30 (by decide) ?_
      refine q_fi (q_runV (t := 49) (i := 0) (As := [.int (-6)]) (rest := []) C hU (c_X11_refuse hG (-6) (by omega)) vm_X11_refuse ml_X11_77 k_49.1 (hc := rfl) rfl (h1_49 hG) hl.1 rfl rfl (Nat.le_of_ble_eq_true rfl) dX11_traveller_32 rfl rfl ⟨Nat.le_of_ble_eq_true rfl, Nat.le_of_ble_eq_true rfl⟩ ⟨Nat.le_of_ble_eq_true rfl, Nat.le_of_ble_eq_true rfl⟩) hS (fun x_18 iv_14 rv_15 H locs hG fa_16 fb_17 hp_13 hU hS => ?_)
      have hF1 := hF1.tr (m := ([51, 64], [(63, 1)])) fa_16 (by decide)
      have hF2 := hF2.tr (m := ([51, 64], [(63, 1)])) fb_17 (by decide)
      refine W.widen (k := 3) (n := 16) (Nat.zero_le _) (Nat.zero_le _) ?_
      exact hret (⟨hG, EX.of hF1 hF2, sp_no (z := (-6)) (by unfold spTrav; (repeat' split) <;> first | rfl | omega) (by decide) hp_13 (fa_16 63 0 1 (by decide))⟩) hU hS dX11_traveller_35
  ·
    subst ej_6
    have hl : lv_has ls 3 [(2, rfv al 62 none), (0, .ref (al.2 49 0)), (1, .int lg)] := hl
    have hq4 := hp_1.2.2 rfl
    refine lv_aload_n hx hb dX11_traveller_13 rfl (lv_at hl 1 rfl) ?_
    refine lv_iconst (v := (-1)) hx hb dX11_traveller_14 (by decide) ?_
    refine q_fi (q_runV (t := 49) (i := 0) (As := [.int (-1)]) (rest := []) C hU (c_X11_refuse hG (-1) (by omega)) vm_X11_refuse ml_X11_77 k_49.1 (hc := rfl) rfl (h1_49 hG) hl.1 rfl rfl (Nat.le_of_ble_eq_true rfl) dX11_traveller_15 rfl rfl ⟨Nat.le_of_ble_eq_true rfl, Nat.le_of_ble_eq_true rfl⟩ ⟨Nat.le_of_ble_eq_true rfl, Nat.le_of_ble_eq_true rfl⟩) hS (fun x_24 iv_20 rv_21 H locs hG fa_22 fb_23 hp_19 hU hS => ?_)
    have hF1 := hF1.tr (m := ([51, 64], [(63, 1)])) fa_22 (by decide)
    have hF2 := hF2.tr (m := ([51, 64], [(63, 1)])) fb_23 (by decide)
    refine W.widen (k := 3) (n := 16) (Nat.zero_le _) (Nat.zero_le _) ?_
    exact hret (⟨hG, EX.of hF1 hF2, sp_no (z := (-1)) (by unfold spTrav; (repeat' split) <;> first | rfl | omega) (by decide) hp_19 (fa_22 63 0 1 (by decide))⟩) hU hS dX11_traveller_18
set_option maxHeartbeats 4000000 in
set_option maxRecDepth 100000 in
theorem c_X12_then_x {l : Launch} {D : va_G} {cA : FieldType → ClassId} {sz : Nat} {al : Al} {iv : Iv} {rv : Rv} (hG : GI al iv rv) (tt : Int32) (lg : Int32) : Met l yX12_then (wd yX12_then cX12_then 4 (some .int)) (rm 2) (PcW D cA sz al iv rv [.ref (al.2 0 0), .int tt, .int lg]) (QI D cA sz al (fI al ([16, 18, 19], []) iv rv (fun r iv' rv' => (spThen iv tt lg = 0 ∧ r.toInt = (iv 19 0 tt.toNatClampNeg).toInt + 1 ∧ (∀ k : Nat, iv' 18 0 k = (if k = 4 * tt.toNatClampNeg + (iv 19 0 tt.toNatClampNeg).toNatClampNeg then lg else iv 18 0 k) ∧ (iv' 19 0 k).toInt = (if k = tt.toNatClampNeg then (iv 19 0 tt.toNatClampNeg).toInt + 1 else (iv 19 0 k).toInt))) ∨ (spThen iv tt lg ≠ 0 ∧ r = spThen iv tt lg ∧ ∀ k : Nat, iv' 18 0 k = iv 18 0 k ∧ iv' 19 0 k = iv 19 0 k)))) 0 0 (Aq sz) := by
  refine mk_i (by decide) (Nat.le_of_ble_eq_true rfl) rfl ?_
  intro p e s m args below meth c ls Q H locs C hU hS hl hret
  have hx := C.1.1
  have hb := C.1.2.1
  have hl : lv_has ls 4 [(0, .ref (al.2 0 0)), (1, .int tt), (2, .int lg)] := hl
  have hG0 := hG
  have h6 := le6 hG
  have h20 := le20 hG
  have h41 := le41 hG
  have hF1 : FR ([16, 18, 19], []) iv iv := FR.rf
  have hF2 : FR ([16, 18, 19], []) rv rv := FR.rf
  have km6 : ((-6) : Int32).toInt = -6 := by decide
  have km3 : ((-3) : Int32).toInt = -3 := by decide
  have km1 : ((-1) : Int32).toInt = -1 := by decide
  have k1 : (1 : Int32).toInt = 1 := by decide
  have k2 : (2 : Int32).toInt = 2 := by decide
  have k4 : (4 : Int32).toInt = 4 := by decide
  refine lv_aload_n hx hb dX12_then_0 rfl (lv_at hl 0 rfl) ?_
  refine lv_iload_n hx hb dX12_then_1 rfl (lv_at hl 1 rfl) ?_
  refine q_pi (q_runV (t := 0) (i := 0) (As := [.int tt]) (rest := []) C hU (c_X12_isTraveller hG tt ) vm_X12_isTraveller ml_X12_226 k_0.1 (hc := rfl) rfl (h1_0 hG) hl.1 rfl rfl (Nat.le_of_ble_eq_true rfl) dX12_then_2 rfl rfl ⟨Nat.le_of_ble_eq_true rfl, Nat.le_of_ble_eq_true rfl⟩ ⟨Nat.le_refl _, Nat.le_refl _⟩) hS (fun x_2 H locs hp_1 hU hS => ?_)
  refine b_if_eq (tgt := 16) hx hb dX12_then_5 (by decide) (fun c_3 => ?_) (fun c_3 => ?_)
  ·
    refine lv_aload_n hx hb dX12_then_16 rfl (lv_at hl 0 rfl) ?_
    refine lv_iconst (v := (-1)) hx hb dX12_then_17 (by decide) ?_
    refine q_fi (q_runV (t := 0) (i := 0) (As := [.int (-1)]) (rest := []) C hU (c_X12_refuse hG (-1) (by omega)) vm_X12_refuse ml_X12_164 k_0.1 (hc := rfl) rfl (h1_0 hG) hl.1 rfl rfl (Nat.le_of_ble_eq_true rfl) dX12_then_18 rfl rfl ⟨Nat.le_of_ble_eq_true rfl, Nat.le_of_ble_eq_true rfl⟩ ⟨Nat.le_refl _, Nat.le_refl _⟩) hS (fun x_9 iv_5 rv_6 H locs hG fa_7 fb_8 hp_4 hU hS => ?_)
    have hF1 := hF1.tr (m := ([16, 18, 19], [])) fa_7 (by decide)
    have hF2 := hF2.tr (m := ([16, 18, 19], [])) fb_8 (by decide)
    exact hret (⟨hG, hF1, hF2, sp_no (z := (-1)) (by unfold spThen; (repeat' split) <;> first | rfl | omega) (by decide) hp_4 (fun k => ⟨fa_7.arr 18 0 k (by decide), fa_7.arr 19 0 k (by decide)⟩)⟩) hU hS dX12_then_21
  ·
    refine lv_aload_n hx hb dX12_then_8 rfl (lv_at hl 0 rfl) ?_
    refine lv_iload_n hx hb dX12_then_9 rfl (lv_at hl 2 rfl) ?_
    refine q_pi (q_runV (t := 0) (i := 0) (As := [.int lg]) (rest := []) C hU (c_X12_isLeg hG lg ) vm_X12_isLeg ml_X12_181 k_0.1 (hc := rfl) rfl (h1_0 hG) hl.1 rfl rfl (Nat.le_of_ble_eq_true rfl) dX12_then_10 rfl rfl ⟨Nat.le_of_ble_eq_true rfl, Nat.le_of_ble_eq_true rfl⟩ ⟨Nat.le_refl _, Nat.le_refl _⟩) hS (fun x_11 H locs hp_10 hU hS => ?_)
    refine b_if_ne (tgt := 22) hx hb dX12_then_13 (by decide) (fun c_12 => ?_) (fun c_12 => ?_)
    ·
      refine lv_aload_n hx hb dX12_then_22 rfl (lv_at hl 0 rfl) ?_
      have hq := rm1 hG (x := tt) (by omega) (by omega)
      refine g_0_21 C hU hG (h1_0 hG) fl_X12_62 dX12_then_23 ?_
      refine lv_iconst (v := 4) hx hb dX12_then_26 (by decide) ?_
      refine lv_iload_n hx hb dX12_then_27 rfl (lv_at hl 1 rfl) ?_
      refine lv_imul hx hb dX12_then_28 ?_
      refine lv_topi (fun x_13 e_14 => ?_)
      have te_14 : x_13.toInt = 4 * (tt : Int32).toInt := by rw [e_14, fb_mulI (by rw [show (4 : Int32).toInt = 4 from by decide]; omega) (by rw [show (4 : Int32).toInt = 4 from by decide]; omega), show (4 : Int32).toInt = 4 from by decide]
      refine lv_aload_n hx hb dX12_then_29 rfl (lv_at hl 0 rfl) ?_
      refine g_0_22 C hU hG (h1_0 hG) fl_X12_65 dX12_then_30 ?_
      refine lv_iload_n hx hb dX12_then_33 rfl (lv_at hl 1 rfl) ?_
      refine a_19 C hU hG (h1_19 hG) (x := tt) (by omega) (by omega) dX12_then_34 (fun x_15 e_16 le_16 ue_16 => ?_)
      have te_16 := congrArg Int32.toInt e_16
      refine lv_iadd hx hb dX12_then_35 ?_
      refine lv_topi (fun x_17 e_18 => ?_)
      have te_18 : x_17.toInt = (x_13 : Int32).toInt + (x_15 : Int32).toInt := by rw [e_18]; exact fb_addI (by omega) (by omega)
      refine lv_iconst (v := 1) hx hb dX12_then_36 (by decide) ?_
      refine lv_isub hx hb dX12_then_37 ?_
      refine lv_topi (fun x_19 e_20 => ?_)
      have te_20 : x_19.toInt = (x_17 : Int32).toInt - (1 : Int32).toInt := by rw [e_20]; exact fb_subI (by omega) (by omega)
      refine a_18 C hU hG (h1_18 hG) (x := x_19) (by omega) (by omega) dX12_then_38 (fun x_21 e_22 le_22 ue_22 => ?_)
      have te_22 := congrArg Int32.toInt e_22
      have hL := th_ix (t := tt) e_22 e_16 (by omega) (by omega) (by omega)
      refine lv_istore_n (lv' := [(3, .int x_21), (0, .ref (al.2 0 0)), (1, .int tt), (2, .int lg)]) hx hb dX12_then_39 rfl hl (by decide) rfl (fun ls hl => ?_)
      refine lv_aload_n hx hb dX12_then_40 rfl (lv_at hl 1 rfl) ?_
      refine g_0_7 C hU hG (h1_0 hG) fl_X12_22 dX12_then_41 ?_
      refine lv_iload_n hx hb dX12_then_44 rfl (lv_at hl 3 rfl) ?_
      refine a_5 C hU hG (h1_5 hG) (x := lg) (by omega) (by omega) dX12_then_45 (fun x_23 e_24 le_24 ue_24 => ?_)
      have te_24 := congrArg Int32.toInt e_24
      refine lv_aload_n hx hb dX12_then_46 rfl (lv_at hl 1 rfl) ?_
      refine g_0_8 C hU hG (h1_0 hG) fl_X12_25 dX12_then_47 ?_
      refine lv_iload_n hx hb dX12_then_50 rfl (lv_at hl 0 rfl) ?_
      refine a_6 C hU hG (h1_6 hG) (x := x_21) (by omega) (by omega) dX12_then_51 (fun x_25 e_26 le_26 ue_26 => ?_)
      have te_26 := congrArg Int32.toInt e_26
      have h51 := e_26
      rw [hL] at h51
      have t51 := congrArg Int32.toInt h51
      refine b_icmp_ne (tgt := 77) hx hb dX12_then_52 (by decide) (fun c_27 => ?_) (fun c_27 => ?_)
      ·
        refine lv_aload_n hx hb dX12_then_77 rfl (lv_at hl 1 rfl) ?_
        refine lv_bipush (v := (-3)) hx hb dX12_then_78 (by decide) ?_
        refine q_fi (q_runV (t := 0) (i := 0) (As := [.int (-3)]) (rest := []) C hU (c_X12_refuse hG (-3) (by omega)) vm_X12_refuse ml_X12_164 k_0.1 (hc := rfl) rfl (h1_0 hG) hl.1 rfl rfl (Nat.le_of_ble_eq_true rfl) dX12_then_80 rfl rfl ⟨Nat.le_of_ble_eq_true rfl, Nat.le_of_ble_eq_true rfl⟩ ⟨Nat.le_refl _, Nat.le_refl _⟩) hS (fun x_33 iv_29 rv_30 H locs hG fa_31 fb_32 hp_28 hU hS => ?_)
        have hF1 := hF1.tr (m := ([16, 18, 19], [])) fa_31 (by decide)
        have hF2 := hF2.tr (m := ([16, 18, 19], [])) fb_32 (by decide)
        exact hret (⟨hG, hF1, hF2, sp_no (z := (-3)) (by unfold spThen; (repeat' split) <;> first | rfl | omega) (by decide) hp_28 (fun k => ⟨fa_31.arr 18 0 k (by decide), fa_31.arr 19 0 k (by decide)⟩)⟩) hU hS dX12_then_83
      ·
        refine lv_aload_n hx hb dX12_then_55 rfl (lv_at hl 1 rfl) ?_
        refine g_0_11 C hU hG (h1_0 hG) fl_X12_34 dX12_then_56 ?_
        refine lv_iload_n hx hb dX12_then_59 rfl (lv_at hl 3 rfl) ?_
        refine a_9 C hU hG (h1_9 hG) (x := lg) (by omega) (by omega) dX12_then_60 (fun x_34 e_35 le_35 ue_35 => ?_)
        have te_35 := congrArg Int32.toInt e_35
        refine lv_aload_n hx hb dX12_then_61 rfl (lv_at hl 1 rfl) ?_
        refine g_0_12 C hU hG (h1_0 hG) fl_X12_37 dX12_then_62 ?_
        refine lv_iload_n hx hb dX12_then_65 rfl (lv_at hl 0 rfl) ?_
        refine a_10 C hU hG (h1_10 hG) (x := x_21) (by omega) (by omega) dX12_then_66 (fun x_36 e_37 le_37 ue_37 => ?_)
        have te_37 := congrArg Int32.toInt e_37
        have h66 := e_37
        rw [hL] at h66
        have t66 := congrArg Int32.toInt h66
        refine lv_aload_n hx hb dX12_then_67 rfl (lv_at hl 1 rfl) ?_
        refine g_0_17 C hU hG (h1_0 hG) fl_X12_53 dX12_then_68 ?_
        refine lv_iconst (v := 2) hx hb dX12_then_71 (by decide) ?_
        refine a_15 C hU hG (h1_15 hG) (x := 2) (by omega) (by omega) dX12_then_72 (fun x_38 e_39 le_39 ue_39 => ?_)
        have te_39 := congrArg Int32.toInt e_39
        have t72 : x_38.toInt = (iv 15 0 2).toInt := by rw [e_39]; rfl
        refine lv_iadd hx hb dX12_then_73 ?_
        refine lv_topi (fun x_40 e_41 => ?_)
        have te_41 : x_40.toInt = (x_36 : Int32).toInt + (x_38 : Int32).toInt := by rw [e_41]; exact fb_addI (by omega) (by omega)
        refine b_icmp_ge (tgt := 84) hx hb dX12_then_74 (by decide) (fun c_42 => ?_) (fun c_42 => ?_)
        ·
          refine lv_aload_n hx hb dX12_then_84 rfl (lv_at hl 1 rfl) ?_
          refine g_0_22 C hU hG (h1_0 hG) fl_X12_65 dX12_then_85 ?_
          refine lv_iload_n hx hb dX12_then_88 rfl (lv_at hl 2 rfl) ?_
          refine a_19 C hU hG (h1_19 hG) (x := tt) (by omega) (by omega) dX12_then_89 (fun x_43 e_44 le_44 ue_44 => ?_)
          have te_44 := congrArg Int32.toInt e_44
          refine lv_iconst (v := 4) hx hb dX12_then_90 (by decide) ?_
          refine b_icmp_ne (tgt := 101) hx hb dX12_then_91 (by decide) (fun c_45 => ?_) (fun c_45 => ?_)
          ·
            refine lv_aload_n hx hb dX12_then_101 rfl (lv_at hl 1 rfl) ?_
            refine g_0_21 C hU hG (h1_0 hG) fl_X12_62 dX12_then_102 ?_
            refine lv_iconst (v := 4) hx hb dX12_then_105 (by decide) ?_
            refine lv_iload_n hx hb dX12_then_106 rfl (lv_at hl 2 rfl) ?_
            refine lv_imul hx hb dX12_then_107 ?_
            refine lv_topi (fun x_46 e_47 => ?_)
            have te_47 : x_46.toInt = 4 * (tt : Int32).toInt := by rw [e_47, fb_mulI (by rw [show (4 : Int32).toInt = 4 from by decide]; omega) (by rw [show (4 : Int32).toInt = 4 from by decide]; omega), show (4 : Int32).toInt = 4 from by decide]
            refine lv_aload_n hx hb dX12_then_108 rfl (lv_at hl 1 rfl) ?_
            refine g_0_22 C hU hG (h1_0 hG) fl_X12_65 dX12_then_109 ?_
            refine lv_iload_n hx hb dX12_then_112 rfl (lv_at hl 2 rfl) ?_
            refine a_19 C hU hG (h1_19 hG) (x := tt) (by omega) (by omega) dX12_then_113 (fun x_48 e_49 le_49 ue_49 => ?_)
            have te_49 := congrArg Int32.toInt e_49
            refine lv_iadd hx hb dX12_then_114 ?_
            refine lv_topi (fun x_50 e_51 => ?_)
            have te_51 : x_50.toInt = (x_46 : Int32).toInt + (x_48 : Int32).toInt := by rw [e_51]; exact fb_addI (by omega) (by omega)
            refine lv_iload_n hx hb dX12_then_115 rfl (lv_at hl 3 rfl) ?_
            refine s_18 C hU hS (h1_18 hG) (x := x_50) (by omega) (by omega) dX12_then_116 (fun iv_52 H locs ei_53 hU hS => ?_)
            have hG : GI al iv_52 rv := by rw [ei_53]; exact hG.puti (show _ ∧ _ from ⟨show (0 : Int) ≤ _ by omega, show _ ≤ (39 : Int) by omega⟩) (nsA (by decide) _)
            have hF1 : FR ([16, 18, 19], []) iv iv_52 := by rw [ei_53]; exact hF1.put (Or.inl (by decide))
            have kf_54 := congrArg Int32.toInt (show iv_52 19 0 tt.toNatClampNeg = iv 19 0 tt.toNatClampNeg by rw [ei_53]; exact up3_ne (fun z => absurd z.1 (by decide)))
            refine lv_aload_n hx hb dX12_then_117 rfl (lv_at hl 1 rfl) ?_
            refine g_0_22 C hU hG (h1_0 hG) fl_X12_65 dX12_then_118 ?_
            refine lv_iload_n hx hb dX12_then_121 rfl (lv_at hl 2 rfl) ?_
            refine lv_dup2_11 hx hb dX12_then_122 rfl rfl ?_
            refine a_19 C hU hG (h1_19 hG) (x := tt) (by omega) (by omega) dX12_then_123 (fun x_55 e_56 le_56 ue_56 => ?_)
            have te_56 := congrArg Int32.toInt e_56
            refine lv_iconst (v := 1) hx hb dX12_then_124 (by decide) ?_
            refine lv_iadd hx hb dX12_then_125 ?_
            refine lv_topi (fun x_57 e_58 => ?_)
            have te_58 : x_57.toInt = (x_55 : Int32).toInt + (1 : Int32).toInt := by rw [e_58]; exact fb_addI (by omega) (by omega)
            refine s_19 C hU hS (h1_19 hG) (x := tt) (by omega) (by omega) dX12_then_126 (fun iv_59 H locs ei_60 hU hS => ?_)
            have hG : GI al iv_59 rv := by rw [ei_60]; exact hG.put19 ⟨by omega, by omega⟩
            have hF1 : FR ([16, 18, 19], []) iv iv_59 := by rw [ei_60]; exact hF1.put (Or.inl (by decide))
            refine lv_aload_n hx hb dX12_then_127 rfl (lv_at hl 1 rfl) ?_
            refine g_0_22 C hU hG (h1_0 hG) fl_X12_65 dX12_then_128 ?_
            refine lv_iload_n hx hb dX12_then_131 rfl (lv_at hl 2 rfl) ?_
            refine a_19 C hU hG (h1_19 hG) (x := tt) (by omega) (by omega) dX12_then_132 (fun x_61 e_62 le_62 ue_62 => ?_)
            have te_62 := congrArg Int32.toInt e_62
            exact hret (⟨hG, hF1, hF2, Or.inl ⟨(by unfold spThen; (repeat' split) <;> first | rfl | omega), th_r e_62 ei_60 e_58 e_56 ei_53 (by omega), fun k => th_ok e_49 ei_53 e_56 e_58 ei_60 (by omega) (by omega)⟩⟩) hU hS dX12_then_133
          ·
            refine lv_aload_n hx hb dX12_then_94 rfl (lv_at hl 1 rfl) ?_
            refine lv_bipush (v := (-6)) hx hb dX12_then_95 (by decide) ?_
            refine q_fi (q_runV (t := 0) (i := 0) (As := [.int (-6)]) (rest := []) C hU (c_X12_refuse hG (-6) (by omega)) vm_X12_refuse ml_X12_164 k_0.1 (hc := rfl) rfl (h1_0 hG) hl.1 rfl rfl (Nat.le_of_ble_eq_true rfl) dX12_then_97 rfl rfl ⟨Nat.le_of_ble_eq_true rfl, Nat.le_of_ble_eq_true rfl⟩ ⟨Nat.le_refl _, Nat.le_refl _⟩) hS (fun x_68 iv_64 rv_65 H locs hG fa_66 fb_67 hp_63 hU hS => ?_)
            have hF1 := hF1.tr (m := ([16, 18, 19], [])) fa_66 (by decide)
            have hF2 := hF2.tr (m := ([16, 18, 19], [])) fb_67 (by decide)
            exact hret (⟨hG, hF1, hF2, sp_no (z := (-6)) (by unfold spThen; (repeat' split) <;> first | rfl | omega) (by decide) hp_63 (fun k => ⟨fa_66.arr 18 0 k (by decide), fa_66.arr 19 0 k (by decide)⟩)⟩) hU hS dX12_then_100
        ·
          refine lv_aload_n hx hb dX12_then_77 rfl (lv_at hl 1 rfl) ?_
          refine lv_bipush (v := (-3)) hx hb dX12_then_78 (by decide) ?_
          refine q_fi (q_runV (t := 0) (i := 0) (As := [.int (-3)]) (rest := []) C hU (c_X12_refuse hG (-3) (by omega)) vm_X12_refuse ml_X12_164 k_0.1 (hc := rfl) rfl (h1_0 hG) hl.1 rfl rfl (Nat.le_of_ble_eq_true rfl) dX12_then_80 rfl rfl ⟨Nat.le_of_ble_eq_true rfl, Nat.le_of_ble_eq_true rfl⟩ ⟨Nat.le_refl _, Nat.le_refl _⟩) hS (fun x_74 iv_70 rv_71 H locs hG fa_72 fb_73 hp_69 hU hS => ?_)
          have hF1 := hF1.tr (m := ([16, 18, 19], [])) fa_72 (by decide)
          have hF2 := hF2.tr (m := ([16, 18, 19], [])) fb_73 (by decide)
          exact hret (⟨hG, hF1, hF2, sp_no (z := (-3)) (by unfold spThen; (repeat' split) <;> first | rfl | omega) (by decide) hp_69 (fun k => ⟨fa_72.arr 18 0 k (by decide), fa_72.arr 19 0 k (by decide)⟩)⟩) hU hS dX12_then_83
    ·
      refine lv_aload_n hx hb dX12_then_16 rfl (lv_at hl 0 rfl) ?_
      refine lv_iconst (v := (-1)) hx hb dX12_then_17 (by decide) ?_
      refine q_fi (q_runV (t := 0) (i := 0) (As := [.int (-1)]) (rest := []) C hU (c_X12_refuse hG (-1) (by omega)) vm_X12_refuse ml_X12_164 k_0.1 (hc := rfl) rfl (h1_0 hG) hl.1 rfl rfl (Nat.le_of_ble_eq_true rfl) dX12_then_18 rfl rfl ⟨Nat.le_of_ble_eq_true rfl, Nat.le_of_ble_eq_true rfl⟩ ⟨Nat.le_refl _, Nat.le_refl _⟩) hS (fun x_80 iv_76 rv_77 H locs hG fa_78 fb_79 hp_75 hU hS => ?_)
      have hF1 := hF1.tr (m := ([16, 18, 19], [])) fa_78 (by decide)
      have hF2 := hF2.tr (m := ([16, 18, 19], [])) fb_79 (by decide)
      exact hret (⟨hG, hF1, hF2, sp_no (z := (-1)) (by unfold spThen; (repeat' split) <;> first | rfl | omega) (by decide) hp_75 (fun k => ⟨fa_78.arr 18 0 k (by decide), fa_78.arr 19 0 k (by decide)⟩)⟩) hU hS dX12_then_21
set_option maxHeartbeats 4000000 in
set_option maxRecDepth 100000 in
theorem c_X8_isFollowedBy_x {l : Launch} {D : va_G} {cA : FieldType → ClassId} {sz : Nat} {al : Al} {iv : Iv} {rv : Rv} (hG : GI al iv rv) (ti : Nat) (hti : ti < al.1 65) (li : Nat) (hli : li < al.1 62) (conn : Int32) : Met l yX8_isFollowedBy (wd yX8_isFollowedBy cX8_isFollowedBy 3 (some .boolean)) (rm 0) (PcW D cA sz al iv rv [.ref (al.2 65 ti), .ref (al.2 62 li), .int conn]) (QI D cA sz al (pI iv rv (fun r => (0 ≤ r.toInt ∧ r.toInt ≤ 1) ∧ (∀ p q o : Nat, rv 62 li 1 = some p → rv 65 ti 2 = some q → rv 62 q 2 = some o → ((p = o ∧ conn.toInt ≤ (iv 62 li 5).toInt - (iv 62 q 6).toInt) ∧ r.toInt = 1) ∨ ((¬ (p = o ∧ conn.toInt ≤ (iv 62 li 5).toInt - (iv 62 q 6).toInt)) ∧ r.toInt = 0))))) 0 0 (Aq sz) := by
  refine mk_z (by decide) (Nat.le_of_ble_eq_true rfl) rfl ?_
  intro p e s m args below meth c ls Q H locs C hU hS hl hret
  have hx := C.1.1
  have hb := C.1.2.1
  have hl : lv_has ls 3 [(0, .ref (al.2 65 ti)), (1, .ref (al.2 62 li)), (2, .int conn)] := hl
  have hG0 := hG
  have k0 : (0 : Int32).toInt = 0 := by decide
  have k1 : (1 : Int32).toInt = 1 := by decide
  refine lv_aload_n hx hb dX8_isFollowedBy_0 rfl (lv_at hl 1 rfl) ?_
  refine g_62_1 C hU hG hli fl_X8_35 dX8_isFollowedBy_1 (fun j_1 ej_2 hb_3 => ?_)
  refine lv_aload_n hx hb dX8_isFollowedBy_4 rfl (lv_at hl 0 rfl) ?_
  refine g_65_2 C hU hG hti fl_X8_19 dX8_isFollowedBy_5 (fun j_4 ej_5 hb_6 => ?_)
  refine g_62_2 C hU hG hb_6 fl_X8_39 dX8_isFollowedBy_8 (fun j_7 ej_8 hb_9 => ?_)
  refine b_acmp_ne (tgt := 34) hx hb hU hb_3 hb_9 dX8_isFollowedBy_11 (by decide) (fun c_10 => ?_) (fun c_10 => ?_)
  ·
    refine lv_iconst (v := 0) hx hb dX8_isFollowedBy_34 (by decide) ?_
    exact hret (by omega) (by omega) (⟨rfl, rfl, ⟨⟨by omega, by omega⟩, fun p q o h1 h2 h3 => by first | exact fb_1 ej_2 ej_5 ej_8 h1 h2 h3 c_10 True.intro (by omega) (by decide) | exact fb_2 ej_2 ej_5 ej_8 h1 h2 h3 c_10 (by decide) | exact fb_3 ej_5 h2 True.intro (by omega) (by decide)⟩⟩) hU hS dX8_isFollowedBy_35
  ·
    refine lv_aload_n hx hb dX8_isFollowedBy_14 rfl (lv_at hl 1 rfl) ?_
    refine g_62_5 C hU hG hli fl_X8_42 dX8_isFollowedBy_15 (fun x_11 e_12 le_12 ue_12 => ?_)
    have te_12 := congrArg Int32.toInt e_12
    refine lv_aload_n hx hb dX8_isFollowedBy_18 rfl (lv_at hl 0 rfl) ?_
    refine g_65_2 C hU hG hti fl_X8_19 dX8_isFollowedBy_19 (fun j_13 ej_14 hb_15 => ?_)
    refine g_62_6 C hU hG hb_15 fl_X8_45 dX8_isFollowedBy_22 (fun x_16 e_17 le_17 ue_17 => ?_)
    have te_17 := congrArg Int32.toInt e_17
    refine lv_isub hx hb dX8_isFollowedBy_25 ?_
    refine lv_topi (fun x_18 e_19 => ?_)
    have te_19 : x_18.toInt = (x_11 : Int32).toInt - (x_16 : Int32).toInt := by rw [e_19]; exact fb_subI (by omega) (by omega)
    refine lv_iload_n hx hb dX8_isFollowedBy_26 rfl (lv_at hl 2 rfl) ?_
    refine b_icmp_lt (tgt := 34) hx hb dX8_isFollowedBy_27 (by decide) (fun c_20 => ?_) (fun c_20 => ?_)
    ·
      refine lv_iconst (v := 0) hx hb dX8_isFollowedBy_34 (by decide) ?_
      exact hret (by omega) (by omega) (⟨rfl, rfl, ⟨⟨by omega, by omega⟩, fun p q o h1 h2 h3 => by first | exact fb_1 ej_2 ej_5 ej_8 h1 h2 h3 c_10 ej_14 (by omega) (by decide) | exact fb_2 ej_2 ej_5 ej_8 h1 h2 h3 c_10 (by decide) | exact fb_3 ej_5 h2 ej_14 (by omega) (by decide)⟩⟩) hU hS dX8_isFollowedBy_35
    ·
      refine lv_iconst (v := 1) hx hb dX8_isFollowedBy_30 (by decide) ?_
      refine lv_goto (tgt := 35) hx hb dX8_isFollowedBy_31 (by decide) ?_
      exact hret (by omega) (by omega) (⟨rfl, rfl, ⟨⟨by omega, by omega⟩, fun p q o h1 h2 h3 => by first | exact fb_1 ej_2 ej_5 ej_8 h1 h2 h3 c_10 ej_14 (by omega) (by decide) | exact fb_2 ej_2 ej_5 ej_8 h1 h2 h3 c_10 (by decide) | exact fb_3 ej_5 h2 ej_14 (by omega) (by decide)⟩⟩) hU hS dX8_isFollowedBy_35
set_option maxHeartbeats 4000000 in
set_option maxRecDepth 100000 in
theorem c_X8_add_x {l : Launch} {D : va_G} {cA : FieldType → ClassId} {sz : Nat} {al : Al} {iv : Iv} {rv : Rv} (hG : GI al iv rv) (ti : Nat) (hti : ti < al.1 65) (li : Nat) (hli : li < al.1 62) (pre0 : (iv 65 ti 4).toInt < 4) : Met l yX8_add (wd yX8_add cX8_add 2 none) (rm 0) (PcW D cA sz al iv rv [.ref (al.2 65 ti), .ref (al.2 62 li)]) (QV D cA sz al (fV al ([66], [(65, 2), (65, 4)]) iv rv (fun iv' rv' => thX iv rv iv' rv' ti li))) 0 0 (Aq sz) := by
  refine mk_v (by decide) (Nat.le_of_ble_eq_true rfl) rfl ?_
  intro p e s m args below meth c ls Q H locs C hU hS hl hret
  have hx := C.1.1
  have hb := C.1.2.1
  have hl : lv_has ls 2 [(0, .ref (al.2 65 ti)), (1, .ref (al.2 62 li))] := hl
  have hG0 := hG
  have hF1 : FR ([66], [(65, 2), (65, 4)]) iv iv := FR.rf
  have hF2 : FR ([66], [(65, 2), (65, 4)]) rv rv := FR.rf
  have k1 : (1 : Int32).toInt = 1 := by decide
  refine lv_aload_n hx hb dX8_add_0 rfl (lv_at hl 0 rfl) ?_
  refine g_65_3 C hU hG hti fl_X8_24 dX8_add_1 (fun hb_1 => ?_)
  refine lv_aload_n hx hb dX8_add_4 rfl (lv_at hl 0 rfl) ?_
  refine g_65_4 C hU hG hti fl_X8_28 dX8_add_5 (fun x_2 e_3 le_3 ue_3 => ?_)
  have te_3 := congrArg Int32.toInt e_3
  refine lv_aload_n hx hb dX8_add_8 rfl (lv_at hl 1 rfl) ?_
  refine s_66 C hU hS hb_1 hli (x := x_2) (by omega) (by omega) dX8_add_9 (fun rv_4 H locs er_5 hU hS => ?_)
  have hG : GI al iv rv_4 := by rw [er_5]; exact hG.put66 hli
  have hF2 : FR ([66], [(65, 2), (65, 4)]) rv rv_4 := by rw [er_5]; exact hF2.put (Or.inl (by decide))
  refine lv_aload_n hx hb dX8_add_10 rfl (lv_at hl 0 rfl) ?_
  refine lv_aload_n hx hb dX8_add_11 rfl (lv_at hl 1 rfl) ?_
  refine p_65_2 C hU hS hti fl_X8_19 dX8_add_12 (fun rv_6 H locs er_7 hU hS => ?_)
  have hG : GI al iv rv_6 := by rw [er_7]; exact hG.putr rfl hli (nsF (by decide))
  have hF2 : FR ([66], [(65, 2), (65, 4)]) rv rv_6 := by rw [er_7]; exact hF2.put (by decide)
  refine lv_aload_n hx hb dX8_add_15 rfl (lv_at hl 0 rfl) ?_
  refine lv_dup hx hb dX8_add_16 rfl ?_
  refine g_65_4 C hU hG hti fl_X8_28 dX8_add_17 (fun x_8 e_9 le_9 ue_9 => ?_)
  have te_9 := congrArg Int32.toInt e_9
  refine lv_iconst (v := 1) hx hb dX8_add_20 (by decide) ?_
  refine lv_iadd hx hb dX8_add_21 ?_
  refine lv_topi (fun x_10 e_11 => ?_)
  have te_11 : x_10.toInt = (x_8 : Int32).toInt + (1 : Int32).toInt := by rw [e_11]; exact fb_addI (by omega) (by omega)
  refine p_65_4 C hU hS hti fl_X8_28 dX8_add_22 (fun iv_12 H locs ei_13 hU hS => ?_)
  have hG : GI al iv_12 rv_6 := by rw [ei_13]; exact hG.put65 (x := x_8) (j := li) ⟨by omega, by omega⟩ (by omega) (by omega) (by omega) (by rw [er_7, up3_ne (fun z => absurd z.1 (by decide)), er_5, clamp_eq (show x_8.toInt = x_2.toInt by omega)]; exact up3_self _ _ _ _ _)
  have hF1 : FR ([66], [(65, 2), (65, 4)]) iv iv_12 := by rw [ei_13]; exact hF1.put (by decide)
  exact hret (⟨hG, hF1, hF2, thx_ok er_5 er_7 e_9 e_11 ei_13 (by omega)⟩) hU hS dX8_add_25
set_option maxHeartbeats 4000000 in
set_option maxRecDepth 100000 in
theorem c_X11_then_x {l : Launch} {D : va_G} {cA : FieldType → ClassId} {sz : Nat} {al : Al} {iv : Iv} {rv : Rv} (hG : GI al iv rv) (tt : Int32) (lg : Int32) (pre0 : BT iv rv) : Met l yX11_then (wd yX11_then cX11_then 5 (some .int)) (rm 2) (PcW D cA sz al iv rv [.ref (al.2 49 0), .int tt, .int lg]) (QI D cA sz al (fI al ([51, 66], [(65, 2), (65, 4)]) iv rv (fun r iv' rv' => (spThen iv tt lg = 0 ∧ r.toInt = (iv 19 0 tt.toNatClampNeg).toInt + 1 ∧ thX iv rv iv' rv' tt.toNatClampNeg lg.toNatClampNeg) ∨ (spThen iv tt lg ≠ 0 ∧ r = spThen iv tt lg ∧ (∀ k : Nat, iv' 65 k 4 = iv 65 k 4) ∧ (∀ i k : Nat, rv' 66 i k = rv 66 i k) ∧ (∀ k : Nat, rv' 65 k 2 = rv 65 k 2))))) 0 0 (Aq sz) := by
  refine mk_i (by decide) (Nat.le_of_ble_eq_true rfl) rfl ?_
  intro p e s m args below meth c ls Q H locs C hU hS hl hret
  have hx := C.1.1
  have hb := C.1.2.1
  have hl : lv_has ls 5 [(0, .ref (al.2 49 0)), (1, .int tt), (2, .int lg)] := hl
  have hG0 := hG
  have hn6 := congrArg Int32.toInt pre0.1
  have hn20 := congrArg Int32.toInt pre0.2.2.2.1
  have hF1 : FR ([51, 66], [(65, 2), (65, 4)]) iv iv := FR.rf
  have hF2 : FR ([51, 66], [(65, 2), (65, 4)]) rv rv := FR.rf
  have km6 : ((-6) : Int32).toInt = -6 := by decide
  have km3 : ((-3) : Int32).toInt = -3 := by decide
  have km1 : ((-1) : Int32).toInt = -1 := by decide
  have k2 : (2 : Int32).toInt = 2 := by decide
  refine lv_aload_n hx hb dX11_then_0 rfl (lv_at hl 0 rfl) ?_
  refine g_49_2 C hU hG (h1_49 hG) fl_X11_26 dX11_then_1 ?_
  refine lv_iload_n hx hb dX11_then_4 rfl (lv_at hl 1 rfl) ?_
  refine q_pr (q_runV (t := 63) (i := 0) (As := [.int tt]) (rest := []) C hU (c_X9_find hG tt ) vm_X9_find ml_X11_192 k_63.1 (hc := rfl) rfl (h1_63 hG) hl.1 rfl rfl (Nat.le_of_ble_eq_true rfl) dX11_then_5 rfl rfl ⟨Nat.le_of_ble_eq_true rfl, Nat.le_of_ble_eq_true rfl⟩ ⟨Nat.le_refl _, Nat.le_refl _⟩) hS (fun r_2 H locs hp_1 hU hS => ?_)
  have hb_3 := hp_1.1
  refine b_astore_n (lv' := [(3, rfv al 65 r_2), (0, .ref (al.2 49 0)), (1, .int tt), (2, .int lg)]) hx hb dX11_then_8 rfl hl (by decide) rfl (fun ls hl => ?_)
  refine lv_aload_n hx hb dX11_then_9 rfl (lv_at hl 1 rfl) ?_
  refine g_49_1 C hU hG (h1_49 hG) fl_X11_19 dX11_then_10 ?_
  refine lv_iload_n hx hb dX11_then_13 rfl (lv_at hl 3 rfl) ?_
  refine q_pr (q_runV (t := 57) (i := 0) (As := [.int lg]) (rest := []) C hU (c_X10_find hG lg ) vm_X10_find ml_X11_123 k_57.1 (hc := rfl) rfl (h1_57 hG) hl.1 rfl rfl (Nat.le_of_ble_eq_true rfl) dX11_then_14 rfl rfl ⟨Nat.le_of_ble_eq_true rfl, Nat.le_of_ble_eq_true rfl⟩ ⟨Nat.le_refl _, Nat.le_refl _⟩) hS (fun r_5 H locs hp_4 hU hS => ?_)
  have hb_6 := hp_4.1
  refine b_astore (lv' := [(4, rfv al 62 r_5), (3, rfv al 65 r_2), (0, .ref (al.2 49 0)), (1, .int tt), (2, .int lg)]) hx hb dX11_then_17 hl (by decide) (by simp [List.filter_cons, rfv_cat]) (fun ls hl => ?_)
  refine b_aload_n (al := al) (t' := 65) (r := r_2) hx hb dX11_then_19 rfl (lv_at hl 1 rfl) ?_
  refine b_ifnull (tgt := 28) hx hb dX11_then_20 (by decide) (fun ej_9 => ?_) (fun j_8 ej_9 => ?_)
  ·
    subst ej_9
    have hl : lv_has ls 5 [(4, rfv al 62 r_5), (3, rfv al 65 none), (0, .ref (al.2 49 0)), (1, .int tt), (2, .int lg)] := hl
    have hq3 := hp_1.2.2 rfl
    refine lv_aload_n hx hb dX11_then_28 rfl (lv_at hl 2 rfl) ?_
    refine lv_iconst (v := (-1)) hx hb dX11_then_29 (by decide) ?_
    refine q_fi (q_runV (t := 49) (i := 0) (As := [.int (-1)]) (rest := []) C hU (c_X11_refuse hG (-1) (by omega)) vm_X11_refuse ml_X11_77 k_49.1 (hc := rfl) rfl (h1_49 hG) hl.1 rfl rfl (Nat.le_of_ble_eq_true rfl) dX11_then_30 rfl rfl ⟨Nat.le_of_ble_eq_true rfl, Nat.le_of_ble_eq_true rfl⟩ ⟨Nat.le_refl _, Nat.le_refl _⟩) hS (fun x_15 iv_11 rv_12 H locs hG fa_13 fb_14 hp_10 hU hS => ?_)
    have hF1 := hF1.tr (m := ([51, 66], [(65, 2), (65, 4)])) fa_13 (by decide)
    have hF2 := hF2.tr (m := ([51, 66], [(65, 2), (65, 4)])) fb_14 (by decide)
    exact hret (⟨hG, hF1, hF2, sp_no (z := (-1)) (by unfold spThen; (repeat' split) <;> first | rfl | omega) (by decide) hp_10 (⟨fun k => fa_13 65 k 4 (by decide), fun i k => fb_14.arr 66 i k (by decide), fun k => fb_14 65 k 2 (by decide)⟩)⟩) hU hS dX11_then_33
  ·
    subst ej_9
    have hl : lv_has ls 5 [(4, rfv al 62 r_5), (3, .ref (al.2 65 j_8)), (0, .ref (al.2 49 0)), (1, .int tt), (2, .int lg)] := hl
    have hb_16 : j_8 < al.1 65 := hb_3 j_8 rfl
    have hq3 := hp_1.2.1 _ rfl
    have hn3 := hq3.1
    rw [clamp_n] at hn3
    refine b_aload (al := al) (t' := 62) (r := r_5) hx hb dX11_then_23 (lv_at hl 0 rfl) ?_
    refine b_ifnonnull (tgt := 34) hx hb dX11_then_25 (by decide) (fun j_18 ej_19 => ?_) (fun ej_19 => ?_)
    ·
      subst ej_19
      have hl : lv_has ls 5 [(4, .ref (al.2 62 j_18)), (3, .ref (al.2 65 j_8)), (0, .ref (al.2 49 0)), (1, .int tt), (2, .int lg)] := hl
      have hb_20 : j_18 < al.1 62 := hb_6 j_18 rfl
      have hq4 := hp_4.2.1 _ rfl
      have hn4 := hq4.1
      rw [clamp_n] at hn4
      refine lv_aload_n hx hb dX11_then_34 rfl (lv_at hl 1 rfl) ?_
      refine lv_aload hx hb dX11_then_35 (lv_at hl 0 rfl) ?_
      refine lv_aload_n hx hb dX11_then_37 rfl (lv_at hl 2 rfl) ?_
      refine g_49_7 C hU hG (h1_49 hG) fl_X11_67 dX11_then_38 ?_
      refine lv_iconst (v := 2) hx hb dX11_then_41 (by decide) ?_
      refine a_50 C hU hG (h1_50 hG) (x := 2) (by omega) (by omega) dX11_then_42 (fun x_21 e_22 le_22 ue_22 => ?_)
      have te_22 := congrArg Int32.toInt e_22
      refine q_pi (q_runV (t := 65) (i := j_8) (As := [.ref (al.2 62 j_18), .int x_21]) (rest := []) C hU (c_X8_isFollowedBy_x hG (j_8) hb_16 (j_18) hb_20 x_21 ) vm_X8_isFollowedBy ml_X11_195 k_65.1 (hc := rfl) rfl hb_16 hl.1 rfl rfl (Nat.le_of_ble_eq_true rfl) dX11_then_43 rfl rfl ⟨Nat.le_of_ble_eq_true rfl, Nat.le_of_ble_eq_true rfl⟩ ⟨Nat.le_refl _, Nat.le_refl _⟩) hS (fun x_24 H locs hp_23 hU hS => ?_)
      have hth := then_x hG0 pre0 hb_16 hb_20 hq3.1 hq4.1 e_22 hp_23.2
      refine b_if_ne (tgt := 56) hx hb dX11_then_46 (by decide) (fun c_25 => ?_) (fun c_25 => ?_)
      ·
        refine lv_aload_n hx hb dX11_then_56 rfl (lv_at hl 1 rfl) ?_
        refine q_pi (q_runV (t := 65) (i := j_8) (As := []) (rest := []) C hU (c_X8_isFull hG (j_8) hb_16 ) vm_X8_isFull ml_X11_201 k_65.1 (hc := rfl) rfl hb_16 hl.1 rfl rfl (Nat.le_of_ble_eq_true rfl) dX11_then_57 rfl rfl ⟨Nat.le_of_ble_eq_true rfl, Nat.le_of_ble_eq_true rfl⟩ ⟨Nat.le_refl _, Nat.le_refl _⟩) hS (fun x_27 H locs hp_26 hU hS => ?_)
        refine b_if_eq (tgt := 70) hx hb dX11_then_60 (by decide) (fun c_28 => ?_) (fun c_28 => ?_)
        ·
          refine lv_aload_n hx hb dX11_then_70 rfl (lv_at hl 1 rfl) ?_
          refine lv_aload hx hb dX11_then_71 (lv_at hl 0 rfl) ?_
          refine q_fv (q_runV (t := 65) (i := j_8) (As := [.ref (al.2 62 j_18)]) (rest := []) C hU (c_X8_add_x hG (j_8) hb_16 (j_18) hb_20 (by omega)) vm_X8_add ml_X11_202 k_65.1 (hc := rfl) rfl hb_16 hl.1 rfl rfl (Nat.le_of_ble_eq_true rfl) dX11_then_73 rfl rfl ⟨Nat.le_of_ble_eq_true rfl, Nat.le_of_ble_eq_true rfl⟩ ⟨Nat.le_refl _, Nat.le_refl _⟩) hS (fun iv_30 rv_31 H locs hG fa_32 fb_33 hp_29 hU hS => ?_)
          have hF1 := hF1.tr (m := ([51, 66], [(65, 2), (65, 4)])) fa_32 (by decide)
          have hF2 := hF2.tr (m := ([51, 66], [(65, 2), (65, 4)])) fb_33 (by decide)
          refine lv_aload_n hx hb dX11_then_76 rfl (lv_at hl 1 rfl) ?_
          refine g_65_4 C hU hG hb_16 fl_X11_205 dX11_then_77 (fun x_34 e_35 le_35 ue_35 => ?_)
          have te_35 := congrArg Int32.toInt e_35
          exact hret (⟨hG, hF1, hF2, Or.inl ⟨(by unfold spThen; (repeat' split) <;> first | rfl | omega), by have z := congrArg Int32.toInt e_35; rw [(hp_29).1, if_pos rfl] at z; omega, by have z := hp_29; rw [hq3.1, hq4.1] at z; exact z⟩⟩) hU hS dX11_then_80
        ·
          refine lv_aload_n hx hb dX11_then_63 rfl (lv_at hl 2 rfl) ?_
          refine lv_bipush (v := (-6)) hx hb dX11_then_64 (by decide) ?_
          refine q_fi (q_runV (t := 49) (i := 0) (As := [.int (-6)]) (rest := []) C hU (c_X11_refuse hG (-6) (by omega)) vm_X11_refuse ml_X11_77 k_49.1 (hc := rfl) rfl (h1_49 hG) hl.1 rfl rfl (Nat.le_of_ble_eq_true rfl) dX11_then_66 rfl rfl ⟨Nat.le_of_ble_eq_true rfl, Nat.le_of_ble_eq_true rfl⟩ ⟨Nat.le_refl _, Nat.le_refl _⟩) hS (fun x_41 iv_37 rv_38 H locs hG fa_39 fb_40 hp_36 hU hS => ?_)
          have hF1 := hF1.tr (m := ([51, 66], [(65, 2), (65, 4)])) fa_39 (by decide)
          have hF2 := hF2.tr (m := ([51, 66], [(65, 2), (65, 4)])) fb_40 (by decide)
          exact hret (⟨hG, hF1, hF2, sp_no (z := (-6)) (by unfold spThen; (repeat' split) <;> first | rfl | omega) (by decide) hp_36 (⟨fun k => fa_39 65 k 4 (by decide), fun i k => fb_40.arr 66 i k (by decide), fun k => fb_40 65 k 2 (by decide)⟩)⟩) hU hS dX11_then_69
      ·
        refine lv_aload_n hx hb dX11_then_49 rfl (lv_at hl 2 rfl) ?_
        refine lv_bipush (v := (-3)) hx hb dX11_then_50 (by decide) ?_
        refine q_fi (q_runV (t := 49) (i := 0) (As := [.int (-3)]) (rest := []) C hU (c_X11_refuse hG (-3) (by omega)) vm_X11_refuse ml_X11_77 k_49.1 (hc := rfl) rfl (h1_49 hG) hl.1 rfl rfl (Nat.le_of_ble_eq_true rfl) dX11_then_52 rfl rfl ⟨Nat.le_of_ble_eq_true rfl, Nat.le_of_ble_eq_true rfl⟩ ⟨Nat.le_refl _, Nat.le_refl _⟩) hS (fun x_47 iv_43 rv_44 H locs hG fa_45 fb_46 hp_42 hU hS => ?_)
        have hF1 := hF1.tr (m := ([51, 66], [(65, 2), (65, 4)])) fa_45 (by decide)
        have hF2 := hF2.tr (m := ([51, 66], [(65, 2), (65, 4)])) fb_46 (by decide)
        exact hret (⟨hG, hF1, hF2, sp_no (z := (-3)) (by unfold spThen; (repeat' split) <;> first | rfl | omega) (by decide) hp_42 (⟨fun k => fa_45 65 k 4 (by decide), fun i k => fb_46.arr 66 i k (by decide), fun k => fb_46 65 k 2 (by decide)⟩)⟩) hU hS dX11_then_55
    ·
      subst ej_19
      have hl : lv_has ls 5 [(4, rfv al 62 none), (3, .ref (al.2 65 j_8)), (0, .ref (al.2 49 0)), (1, .int tt), (2, .int lg)] := hl
      have hq4 := hp_4.2.2 rfl
      refine lv_aload_n hx hb dX11_then_28 rfl (lv_at hl 2 rfl) ?_
      refine lv_iconst (v := (-1)) hx hb dX11_then_29 (by decide) ?_
      refine q_fi (q_runV (t := 49) (i := 0) (As := [.int (-1)]) (rest := []) C hU (c_X11_refuse hG (-1) (by omega)) vm_X11_refuse ml_X11_77 k_49.1 (hc := rfl) rfl (h1_49 hG) hl.1 rfl rfl (Nat.le_of_ble_eq_true rfl) dX11_then_30 rfl rfl ⟨Nat.le_of_ble_eq_true rfl, Nat.le_of_ble_eq_true rfl⟩ ⟨Nat.le_refl _, Nat.le_refl _⟩) hS (fun x_53 iv_49 rv_50 H locs hG fa_51 fb_52 hp_48 hU hS => ?_)
      have hF1 := hF1.tr (m := ([51, 66], [(65, 2), (65, 4)])) fa_51 (by decide)
      have hF2 := hF2.tr (m := ([51, 66], [(65, 2), (65, 4)])) fb_52 (by decide)
      exact hret (⟨hG, hF1, hF2, sp_no (z := (-1)) (by unfold spThen; (repeat' split) <;> first | rfl | omega) (by decide) hp_48 (⟨fun k => fa_51 65 k 4 (by decide), fun i k => fb_52.arr 66 i k (by decide), fun k => fb_52 65 k 2 (by decide)⟩)⟩) hU hS dX11_then_33
end
