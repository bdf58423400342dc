set_option maxHeartbeats 4000000 in
set_option maxRecDepth 100000 in
theorem c_X11_leg_y {l : Launch} {D : va_G} {cA : FieldType → ClassId} {sz : Nat} {al : Al} {iv : Iv} {rv : Rv} (hG : GI al iv rv) (a : Int32) (b : Int32) (pl : Int32) (cr : Int32) (lv_ : Int32) (ar : Int32) : Met l yX11_leg (wd yX11_leg cX11_leg 9 (some .int)) (rmA 3 1 15) (PcA D cA sz al iv rv [.ref (al.2 49 0), .int a, .int b, .int pl, .int cr, .int lv_, .int ar] (fun _ => True)) (QIA D cA sz (fun r al' iv' rv' => GI al' iv' rv' ∧ EX ([51, 58], [(57, 1)]) al iv rv al' iv' rv' ∧ ((spLeg a b pl cr lv_ ar (iv 57 0 1).toInt = 0 ∧ r.toInt = (iv 57 0 1).toInt ∧ (iv' 57 0 1).toInt = (iv 57 0 1).toInt + 1 ∧ ∃ (aa : Nat) (siz : Int32), siz.toInt = al.1 62 + 1 ∧ al' = grow al 62 aa ∧ iv' = legIv iv (al.1 62) r pl cr lv_ ar siz ∧ rv' = legRv rv (al.1 62) a.toNatClampNeg b.toNatClampNeg) ∨ (spLeg a b pl cr lv_ ar (iv 57 0 1).toInt ≠ 0 ∧ r = spLeg a b pl cr lv_ ar (iv 57 0 1).toInt ∧ iv' 57 0 1 = iv 57 0 1)))) 1 15 (Aq sz) := by
  refine mk_ia (by decide) (Nat.le_of_ble_eq_true rfl) rfl ?_
  intro p e s m args below meth c ls Q H locs C hU hS hX hz0 hl hret
  have hx := C.1.1
  have hb := C.1.2.1
  have hl : lv_has ls 9 [(0, .ref (al.2 49 0)), (1, .int a), (2, .int b), (3, .int pl), (4, .int cr), (5, .int lv_), (6, .int ar)] := hl
  have hG0 := hG
  have hF1 : FR ([51, 58], [(57, 1)]) iv iv := FR.rf
  have hF2 : FR ([51, 58], [(57, 1)]) rv rv := FR.rf
  have km6 : ((-6) : Int32).toInt = -6 := by decide
  have km4 : ((-4) : Int32).toInt = -4 := by decide
  have km1 : ((-1) : Int32).toInt = -1 := by decide
  have k6 : (6 : Int32).toInt = 6 := by decide
  have k20000 : (20000 : Int32).toInt = 20000 := by decide
  refine lv_aload_n hx hb dX11_leg_0 rfl (lv_at hl 0 rfl) ?_
  refine g_49_0 C hU hG (h1_49 hG) fl_X11_10 dX11_leg_1 ?_
  refine lv_iload_n hx hb dX11_leg_4 rfl (lv_at hl 1 rfl) ?_
  refine q_pr (q_runV (t := 52) (i := 0) (As := [.int a]) (rest := []) C hU (c_X7_find hG a ) vm_X7_find ml_X11_81 k_52.1 (hc := rfl) rfl (h1_52 hG) hl.1 rfl rfl (Nat.le_of_ble_eq_true rfl) dX11_leg_5 rfl rfl ⟨Nat.le_of_ble_eq_true rfl, Nat.le_of_ble_eq_true rfl⟩ ⟨Nat.le_of_ble_eq_true rfl, Nat.le_of_ble_eq_true rfl⟩) hS (fun r_2 H locs hp_1 hU hS => ?_)
  have hb_3 := hp_1.1
  refine b_astore (lv' := [(7, rfv al 56 r_2), (0, .ref (al.2 49 0)), (1, .int a), (2, .int b), (3, .int pl), (4, .int cr), (5, .int lv_), (6, .int ar)]) hx hb dX11_leg_8 hl (by decide) rfl (fun ls hl => ?_)
  refine lv_aload_n hx hb dX11_leg_10 rfl (lv_at hl 1 rfl) ?_
  refine g_49_0 C hU hG (h1_49 hG) fl_X11_10 dX11_leg_11 ?_
  refine lv_iload_n hx hb dX11_leg_14 rfl (lv_at hl 3 rfl) ?_
  refine q_pr (q_runV (t := 52) (i := 0) (As := [.int b]) (rest := []) C hU (c_X7_find hG b ) vm_X7_find ml_X11_81 k_52.1 (hc := rfl) rfl (h1_52 hG) hl.1 rfl rfl (Nat.le_of_ble_eq_true rfl) dX11_leg_15 rfl rfl ⟨Nat.le_of_ble_eq_true rfl, Nat.le_of_ble_eq_true rfl⟩ ⟨Nat.le_of_ble_eq_true rfl, Nat.le_of_ble_eq_true rfl⟩) hS (fun r_5 H locs hp_4 hU hS => ?_)
  have hb_6 := hp_4.1
  refine b_astore (lv' := [(8, rfv al 56 r_5), (7, rfv al 56 r_2), (0, .ref (al.2 49 0)), (1, .int a), (2, .int b), (3, .int pl), (4, .int cr), (5, .int lv_), (6, .int ar)]) hx hb dX11_leg_18 hl (by decide) (by simp [List.filter_cons, rfv_cat]) (fun ls hl => ?_)
  refine b_aload (al := al) (t' := 56) (r := r_2) hx hb dX11_leg_20 (lv_at hl 1 rfl) ?_
  refine b_ifnull (tgt := 37) hx hb dX11_leg_22 (by decide) (fun ej_9 => ?_) (fun j_8 ej_9 => ?_)
  ·
    subst ej_9
    have hl : lv_has ls 9 [(8, rfv al 56 r_5), (7, rfv al 56 none), (0, .ref (al.2 49 0)), (1, .int a), (2, .int b), (3, .int pl), (4, .int cr), (5, .int lv_), (6, .int ar)] := hl
    have hq4 := hp_1.2.2 rfl
    refine lv_aload_n hx hb dX11_leg_37 rfl (lv_at hl 2 rfl) ?_
    refine lv_iconst (v := (-1)) hx hb dX11_leg_38 (by decide) ?_
    refine q_fi (q_runV (t := 49) (i := 0) (As := [.int (-1)]) (rest := []) C hU (c_X11_refuse hG (-1) (by omega)) vm_X11_refuse ml_X11_77 k_49.1 (hc := rfl) rfl (h1_49 hG) hl.1 rfl rfl (Nat.le_of_ble_eq_true rfl) dX11_leg_39 rfl rfl ⟨Nat.le_of_ble_eq_true rfl, Nat.le_of_ble_eq_true rfl⟩ ⟨Nat.le_of_ble_eq_true rfl, Nat.le_of_ble_eq_true rfl⟩) hS (fun x_15 iv_11 rv_12 H locs hG fa_13 fb_14 hp_10 hU hS => ?_)
    have hF1 := hF1.tr (m := ([51, 58], [(57, 1)])) fa_13 (by decide)
    have hF2 := hF2.tr (m := ([51, 58], [(57, 1)])) fb_14 (by decide)
    refine W.widen (k := 1) (n := 15) (Nat.zero_le _) (Nat.zero_le _) ?_
    exact hret (⟨hG, EX.of hF1 hF2, sp_no (z := (-1)) (by unfold spLeg; (repeat' split) <;> first | rfl | omega) (by decide) hp_10 (fa_13 57 0 1 (by decide))⟩) hU hS dX11_leg_42
  ·
    subst ej_9
    have hl : lv_has ls 9 [(8, rfv al 56 r_5), (7, .ref (al.2 56 j_8)), (0, .ref (al.2 49 0)), (1, .int a), (2, .int b), (3, .int pl), (4, .int cr), (5, .int lv_), (6, .int ar)] := hl
    have hb_16 : j_8 < al.1 56 := hb_3 j_8 rfl
    have hq4 := hp_1.2.1 _ rfl
    have hn4 := hq4.1
    rw [clamp_n] at hn4
    refine b_aload (al := al) (t' := 56) (r := r_5) hx hb dX11_leg_25 (lv_at hl 0 rfl) ?_
    refine b_ifnull (tgt := 37) hx hb dX11_leg_27 (by decide) (fun ej_19 => ?_) (fun j_18 ej_19 => ?_)
    ·
      subst ej_19
      have hl : lv_has ls 9 [(8, rfv al 56 none), (7, .ref (al.2 56 j_8)), (0, .ref (al.2 49 0)), (1, .int a), (2, .int b), (3, .int pl), (4, .int cr), (5, .int lv_), (6, .int ar)] := hl
      have hq5 := hp_4.2.2 rfl
      refine lv_aload_n hx hb dX11_leg_37 rfl (lv_at hl 2 rfl) ?_
      refine lv_iconst (v := (-1)) hx hb dX11_leg_38 (by decide) ?_
      refine q_fi (q_runV (t := 49) (i := 0) (As := [.int (-1)]) (rest := []) C hU (c_X11_refuse hG (-1) (by omega)) vm_X11_refuse ml_X11_77 k_49.1 (hc := rfl) rfl (h1_49 hG) hl.1 rfl rfl (Nat.le_of_ble_eq_true rfl) dX11_leg_39 rfl rfl ⟨Nat.le_of_ble_eq_true rfl, Nat.le_of_ble_eq_true rfl⟩ ⟨Nat.le_of_ble_eq_true rfl, Nat.le_of_ble_eq_true rfl⟩) hS (fun x_25 iv_21 rv_22 H locs hG fa_23 fb_24 hp_20 hU hS => ?_)
      have hF1 := hF1.tr (m := ([51, 58], [(57, 1)])) fa_23 (by decide)
      have hF2 := hF2.tr (m := ([51, 58], [(57, 1)])) fb_24 (by decide)
      refine W.widen (k := 1) (n := 15) (Nat.zero_le _) (Nat.zero_le _) ?_
      exact hret (⟨hG, EX.of hF1 hF2, sp_no (z := (-1)) (by unfold spLeg; (repeat' split) <;> first | rfl | omega) (by decide) hp_20 (fa_23 57 0 1 (by decide))⟩) hU hS dX11_leg_42
    ·
      subst ej_19
      have hl : lv_has ls 9 [(8, .ref (al.2 56 j_18)), (7, .ref (al.2 56 j_8)), (0, .ref (al.2 49 0)), (1, .int a), (2, .int b), (3, .int pl), (4, .int cr), (5, .int lv_), (6, .int ar)] := hl
      have hb_26 : j_18 < al.1 56 := hb_6 j_18 rfl
      have hq5 := hp_4.2.1 _ rfl
      have hn5 := hq5.1
      rw [clamp_n] at hn5
      refine lv_aload hx hb dX11_leg_30 (lv_at hl 1 rfl) ?_
      refine lv_aload hx hb dX11_leg_32 (lv_at hl 0 rfl) ?_
      refine b_acmp_ne (tgt := 43) hx hb hU hb_16 hb_26 dX11_leg_34 (by decide) (fun c_27 => ?_) (fun c_27 => ?_)
      ·
        refine lv_bipush (v := 6) hx hb dX11_leg_43 (by decide) ?_
        refine lv_iload_n hx hb dX11_leg_45 rfl (lv_at hl 5 rfl) ?_
        refine q_pi (q_runS (As := [.int 6, .int pl]) (rest := []) C hU (c_X11_isOneOf  6 pl ) sm_X11_isOneOf ml_X11_85 hl.1 rfl rfl (Nat.le_of_ble_eq_true rfl) dX11_leg_46 rfl rfl ⟨Nat.le_of_ble_eq_true rfl, Nat.le_of_ble_eq_true rfl⟩ ⟨Nat.le_of_ble_eq_true rfl, Nat.le_of_ble_eq_true rfl⟩) hS (fun x_29 H locs hp_28 hU hS => ?_)
        refine b_if_eq (tgt := 62) hx hb dX11_leg_49 (by decide) (fun c_30 => ?_) (fun c_30 => ?_)
        ·
          refine lv_aload_n hx hb dX11_leg_62 rfl (lv_at hl 2 rfl) ?_
          refine lv_iconst (v := (-1)) hx hb dX11_leg_63 (by decide) ?_
          refine q_fi (q_runV (t := 49) (i := 0) (As := [.int (-1)]) (rest := []) C hU (c_X11_refuse hG (-1) (by omega)) vm_X11_refuse ml_X11_77 k_49.1 (hc := rfl) rfl (h1_49 hG) hl.1 rfl rfl (Nat.le_of_ble_eq_true rfl) dX11_leg_64 rfl rfl ⟨Nat.le_of_ble_eq_true rfl, Nat.le_of_ble_eq_true rfl⟩ ⟨Nat.le_of_ble_eq_true rfl, Nat.le_of_ble_eq_true rfl⟩) hS (fun x_36 iv_32 rv_33 H locs hG fa_34 fb_35 hp_31 hU hS => ?_)
          have hF1 := hF1.tr (m := ([51, 58], [(57, 1)])) fa_34 (by decide)
          have hF2 := hF2.tr (m := ([51, 58], [(57, 1)])) fb_35 (by decide)
          refine W.widen (k := 1) (n := 15) (Nat.zero_le _) (Nat.zero_le _) ?_
          exact hret (⟨hG, EX.of hF1 hF2, sp_no (z := (-1)) (by unfold spLeg; (repeat' split) <;> first | rfl | omega) (by decide) hp_31 (fa_34 57 0 1 (by decide))⟩) hU hS dX11_leg_67
        ·
          refine lv_bipush (v := 6) hx hb dX11_leg_52 (by decide) ?_
          refine lv_iload hx hb dX11_leg_54 (lv_at hl 6 rfl) ?_
          refine q_pi (q_runS (As := [.int 6, .int cr]) (rest := []) C hU (c_X11_isOneOf  6 cr ) sm_X11_isOneOf ml_X11_85 hl.1 rfl rfl (Nat.le_of_ble_eq_true rfl) dX11_leg_56 rfl rfl ⟨Nat.le_of_ble_eq_true rfl, Nat.le_of_ble_eq_true rfl⟩ ⟨Nat.le_of_ble_eq_true rfl, Nat.le_of_ble_eq_true rfl⟩) hS (fun x_38 H locs hp_37 hU hS => ?_)
          refine b_if_ne (tgt := 68) hx hb dX11_leg_59 (by decide) (fun c_39 => ?_) (fun c_39 => ?_)
          ·
            refine lv_iload hx hb dX11_leg_68 (lv_at hl 7 rfl) ?_
            refine b_if_lt (tgt := 80) hx hb dX11_leg_70 (by decide) (fun c_40 => ?_) (fun c_40 => ?_)
            ·
              refine lv_aload_n hx hb dX11_leg_80 rfl (lv_at hl 2 rfl) ?_
              refine lv_bipush (v := (-4)) hx hb dX11_leg_81 (by decide) ?_
              refine q_fi (q_runV (t := 49) (i := 0) (As := [.int (-4)]) (rest := []) C hU (c_X11_refuse hG (-4) (by omega)) vm_X11_refuse ml_X11_77 k_49.1 (hc := rfl) rfl (h1_49 hG) hl.1 rfl rfl (Nat.le_of_ble_eq_true rfl) dX11_leg_83 rfl rfl ⟨Nat.le_of_ble_eq_true rfl, Nat.le_of_ble_eq_true rfl⟩ ⟨Nat.le_of_ble_eq_true rfl, Nat.le_of_ble_eq_true rfl⟩) hS (fun x_46 iv_42 rv_43 H locs hG fa_44 fb_45 hp_41 hU hS => ?_)
              have hF1 := hF1.tr (m := ([51, 58], [(57, 1)])) fa_44 (by decide)
              have hF2 := hF2.tr (m := ([51, 58], [(57, 1)])) fb_45 (by decide)
              refine W.widen (k := 1) (n := 15) (Nat.zero_le _) (Nat.zero_le _) ?_
              exact hret (⟨hG, EX.of hF1 hF2, sp_no (z := (-4)) (by unfold spLeg; (repeat' split) <;> first | rfl | omega) (by decide) hp_41 (fa_44 57 0 1 (by decide))⟩) hU hS dX11_leg_86
            ·
              refine lv_iload hx hb dX11_leg_73 (lv_at hl 8 rfl) ?_
              refine lv_iload hx hb dX11_leg_75 (lv_at hl 7 rfl) ?_
              refine b_icmp_gt (tgt := 87) hx hb dX11_leg_77 (by decide) (fun c_47 => ?_) (fun c_47 => ?_)
              ·
                refine lv_iload hx hb dX11_leg_87 (lv_at hl 7 rfl) ?_
                refine lv_sipush (v := 20000) hx hb dX11_leg_89 (by decide) ?_
                refine b_icmp_gt (tgt := 113) hx hb dX11_leg_92 (by decide) (fun c_48 => ?_) (fun c_48 => ?_)
                ·
                  refine lv_aload_n hx hb dX11_leg_113 rfl (lv_at hl 2 rfl) ?_
                  refine lv_bipush (v := (-6)) hx hb dX11_leg_114 (by decide) ?_
                  refine q_fi (q_runV (t := 49) (i := 0) (As := [.int (-6)]) (rest := []) C hU (c_X11_refuse hG (-6) (by omega)) vm_X11_refuse ml_X11_77 k_49.1 (hc := rfl) rfl (h1_49 hG) hl.1 rfl rfl (Nat.le_of_ble_eq_true rfl) dX11_leg_116 rfl rfl ⟨Nat.le_of_ble_eq_true rfl, Nat.le_of_ble_eq_true rfl⟩ ⟨Nat.le_of_ble_eq_true rfl, Nat.le_of_ble_eq_true rfl⟩) hS (fun x_54 iv_50 rv_51 H locs hG fa_52 fb_53 hp_49 hU hS => ?_)
                  have hF1 := hF1.tr (m := ([51, 58], [(57, 1)])) fa_52 (by decide)
                  have hF2 := hF2.tr (m := ([51, 58], [(57, 1)])) fb_53 (by decide)
                  refine W.widen (k := 1) (n := 15) (Nat.zero_le _) (Nat.zero_le _) ?_
                  exact hret (⟨hG, EX.of hF1 hF2, sp_no (z := (-6)) (by unfold spLeg; (repeat' split) <;> first | rfl | omega) (by decide) hp_49 (fa_52 57 0 1 (by decide))⟩) hU hS dX11_leg_119
                ·
                  refine lv_iload hx hb dX11_leg_95 (lv_at hl 8 rfl) ?_
                  refine lv_sipush (v := 20000) hx hb dX11_leg_97 (by decide) ?_
                  refine b_icmp_gt (tgt := 113) hx hb dX11_leg_100 (by decide) (fun c_55 => ?_) (fun c_55 => ?_)
                  ·
                    refine lv_aload_n hx hb dX11_leg_113 rfl (lv_at hl 2 rfl) ?_
                    refine lv_bipush (v := (-6)) hx hb dX11_leg_114 (by decide) ?_
                    refine q_fi (q_runV (t := 49) (i := 0) (As := [.int (-6)]) (rest := []) C hU (c_X11_refuse hG (-6) (by omega)) vm_X11_refuse ml_X11_77 k_49.1 (hc := rfl) rfl (h1_49 hG) hl.1 rfl rfl (Nat.le_of_ble_eq_true rfl) dX11_leg_116 rfl rfl ⟨Nat.le_of_ble_eq_true rfl, Nat.le_of_ble_eq_true rfl⟩ ⟨Nat.le_of_ble_eq_true rfl, Nat.le_of_ble_eq_true rfl⟩) hS (fun x_61 iv_57 rv_58 H locs hG fa_59 fb_60 hp_56 hU hS => ?_)
                    have hF1 := hF1.tr (m := ([51, 58], [(57, 1)])) fa_59 (by decide)
                    have hF2 := hF2.tr (m := ([51, 58], [(57, 1)])) fb_60 (by decide)
                    refine W.widen (k := 1) (n := 15) (Nat.zero_le _) (Nat.zero_le _) ?_
                    exact hret (⟨hG, EX.of hF1 hF2, sp_no (z := (-6)) (by unfold spLeg; (repeat' split) <;> first | rfl | omega) (by decide) hp_56 (fa_59 57 0 1 (by decide))⟩) hU hS dX11_leg_119
                  ·
                    refine lv_aload_n hx hb dX11_leg_103 rfl (lv_at hl 2 rfl) ?_
                    refine g_49_1 C hU hG (h1_49 hG) fl_X11_19 dX11_leg_104 ?_
                    refine q_pi (q_runV (t := 57) (i := 0) (As := []) (rest := []) C hU (c_X10_isFull hG  ) vm_X10_isFull ml_X11_115 k_57.1 (hc := rfl) rfl (h1_57 hG) hl.1 rfl rfl (Nat.le_of_ble_eq_true rfl) dX11_leg_107 rfl rfl ⟨Nat.le_of_ble_eq_true rfl, Nat.le_of_ble_eq_true rfl⟩ ⟨Nat.le_of_ble_eq_true rfl, Nat.le_of_ble_eq_true rfl⟩) hS (fun x_63 H locs hp_62 hU hS => ?_)
                    refine b_if_eq (tgt := 120) hx hb dX11_leg_110 (by decide) (fun c_64 => ?_) (fun c_64 => ?_)
                    ·
                      refine lv_aload_n hx hb dX11_leg_120 rfl (lv_at hl 2 rfl) ?_
                      refine g_49_1 C hU hG (h1_49 hG) fl_X11_19 dX11_leg_121 ?_
                      refine lv_aload hx hb dX11_leg_124 (lv_at hl 1 rfl) ?_
                      refine lv_aload hx hb dX11_leg_126 (lv_at hl 0 rfl) ?_
                      refine lv_iload_n hx hb dX11_leg_128 rfl (lv_at hl 5 rfl) ?_
                      refine lv_iload hx hb dX11_leg_129 (lv_at hl 6 rfl) ?_
                      refine lv_iload hx hb dX11_leg_131 (lv_at hl 7 rfl) ?_
                      refine lv_iload hx hb dX11_leg_133 (lv_at hl 8 rfl) ?_
                      refine q_ciA (q_runVA (t := 57) (i := 0) (As := [.ref (al.2 56 j_8), .ref (al.2 56 j_18), .int pl, .int cr, .int lv_, .int ar]) (rest := []) C hU (Nat.le_trans hz0 hS.1) (c_X10_add hG (j_8) hb_16 (j_18) hb_26 pl cr lv_ ar (by omega) (by omega) (by omega) (by omega) (by omega)) vm_X10_add ml_X11_119 k_57.1 (hc := rfl) rfl (h1_57 hG) hl.1 rfl rfl (Nat.le_of_ble_eq_true rfl) dX11_leg_135 rfl rfl ⟨Nat.le_of_ble_eq_true rfl, Nat.le_of_ble_eq_true rfl⟩ ⟨Nat.le_of_ble_eq_true rfl, Nat.le_of_ble_eq_true rfl⟩) hS (Nat.le_trans hz0 hS.1) (fun x_66 al' iv' rv' H locs hp_65 hU hS _ => ?_)
                      exact hret (⟨hp_65.1, (EX.of hF1 hF2).tr hp_65.2.1 (by decide) (by decide), Or.inl ⟨(by unfold spLeg; (repeat' split) <;> first | rfl | omega), by rw [hp_65.2.2.1], leg_cnt hG0 hp_65.2.2.2, (by have z := hp_65.2.2.2; rw [hq4.1, hq5.1] at z; exact z)⟩⟩) hU hS dX11_leg_138
                    ·
                      refine lv_aload_n hx hb dX11_leg_113 rfl (lv_at hl 2 rfl) ?_
                      refine lv_bipush (v := (-6)) hx hb dX11_leg_114 (by decide) ?_
                      refine q_fi (q_runV (t := 49) (i := 0) (As := [.int (-6)]) (rest := []) C hU (c_X11_refuse hG (-6) (by omega)) vm_X11_refuse ml_X11_77 k_49.1 (hc := rfl) rfl (h1_49 hG) hl.1 rfl rfl (Nat.le_of_ble_eq_true rfl) dX11_leg_116 rfl rfl ⟨Nat.le_of_ble_eq_true rfl, Nat.le_of_ble_eq_true rfl⟩ ⟨Nat.le_of_ble_eq_true rfl, Nat.le_of_ble_eq_true rfl⟩) hS (fun x_72 iv_68 rv_69 H locs hG fa_70 fb_71 hp_67 hU hS => ?_)
                      have hF1 := hF1.tr (m := ([51, 58], [(57, 1)])) fa_70 (by decide)
                      have hF2 := hF2.tr (m := ([51, 58], [(57, 1)])) fb_71 (by decide)
                      refine W.widen (k := 1) (n := 15) (Nat.zero_le _) (Nat.zero_le _) ?_
                      exact hret (⟨hG, EX.of hF1 hF2, sp_no (z := (-6)) (by unfold spLeg; (repeat' split) <;> first | rfl | omega) (by decide) hp_67 (fa_70 57 0 1 (by decide))⟩) hU hS dX11_leg_119
              ·
                refine lv_aload_n hx hb dX11_leg_80 rfl (lv_at hl 2 rfl) ?_
                refine lv_bipush (v := (-4)) hx hb dX11_leg_81 (by decide) ?_
                refine q_fi (q_runV (t := 49) (i := 0) (As := [.int (-4)]) (rest := []) C hU (c_X11_refuse hG (-4) (by omega)) vm_X11_refuse ml_X11_77 k_49.1 (hc := rfl) rfl (h1_49 hG) hl.1 rfl rfl (Nat.le_of_ble_eq_true rfl) dX11_leg_83 rfl rfl ⟨Nat.le_of_ble_eq_true rfl, Nat.le_of_ble_eq_true rfl⟩ ⟨Nat.le_of_ble_eq_true rfl, Nat.le_of_ble_eq_true rfl⟩) hS (fun x_78 iv_74 rv_75 H locs hG fa_76 fb_77 hp_73 hU hS => ?_)
                have hF1 := hF1.tr (m := ([51, 58], [(57, 1)])) fa_76 (by decide)
                have hF2 := hF2.tr (m := ([51, 58], [(57, 1)])) fb_77 (by decide)
                refine W.widen (k := 1) (n := 15) (Nat.zero_le _) (Nat.zero_le _) ?_
                exact hret (⟨hG, EX.of hF1 hF2, sp_no (z := (-4)) (by unfold spLeg; (repeat' split) <;> first | rfl | omega) (by decide) hp_73 (fa_76 57 0 1 (by decide))⟩) hU hS dX11_leg_86
          ·
            refine lv_aload_n hx hb dX11_leg_62 rfl (lv_at hl 2 rfl) ?_
            refine lv_iconst (v := (-1)) hx hb dX11_leg_63 (by decide) ?_
            refine q_fi (q_runV (t := 49) (i := 0) (As := [.int (-1)]) (rest := []) C hU (c_X11_refuse hG (-1) (by omega)) vm_X11_refuse ml_X11_77 k_49.1 (hc := rfl) rfl (h1_49 hG) hl.1 rfl rfl (Nat.le_of_ble_eq_true rfl) dX11_leg_64 rfl rfl ⟨Nat.le_of_ble_eq_true rfl, Nat.le_of_ble_eq_true rfl⟩ ⟨Nat.le_of_ble_eq_true rfl, Nat.le_of_ble_eq_true rfl⟩) hS (fun x_84 iv_80 rv_81 H locs hG fa_82 fb_83 hp_79 hU hS => ?_)
            have hF1 := hF1.tr (m := ([51, 58], [(57, 1)])) fa_82 (by decide)
            have hF2 := hF2.tr (m := ([51, 58], [(57, 1)])) fb_83 (by decide)
            refine W.widen (k := 1) (n := 15) (Nat.zero_le _) (Nat.zero_le _) ?_
            exact hret (⟨hG, EX.of hF1 hF2, sp_no (z := (-1)) (by unfold spLeg; (repeat' split) <;> first | rfl | omega) (by decide) hp_79 (fa_82 57 0 1 (by decide))⟩) hU hS dX11_leg_67
      ·
        refine lv_aload_n hx hb dX11_leg_37 rfl (lv_at hl 2 rfl) ?_
        refine lv_iconst (v := (-1)) hx hb dX11_leg_38 (by decide) ?_
        refine q_fi (q_runV (t := 49) (i := 0) (As := [.int (-1)]) (rest := []) C hU (c_X11_refuse hG (-1) (by omega)) vm_X11_refuse ml_X11_77 k_49.1 (hc := rfl) rfl (h1_49 hG) hl.1 rfl rfl (Nat.le_of_ble_eq_true rfl) dX11_leg_39 rfl rfl ⟨Nat.le_of_ble_eq_true rfl, Nat.le_of_ble_eq_true rfl⟩ ⟨Nat.le_of_ble_eq_true rfl, Nat.le_of_ble_eq_true rfl⟩) hS (fun x_90 iv_86 rv_87 H locs hG fa_88 fb_89 hp_85 hU hS => ?_)
        have hF1 := hF1.tr (m := ([51, 58], [(57, 1)])) fa_88 (by decide)
        have hF2 := hF2.tr (m := ([51, 58], [(57, 1)])) fb_89 (by decide)
        refine W.widen (k := 1) (n := 15) (Nat.zero_le _) (Nat.zero_le _) ?_
        exact hret (⟨hG, EX.of hF1 hF2, sp_no (z := (-1)) (by unfold spLeg; (repeat' split) <;> first | rfl | omega) (by decide) hp_85 (fa_88 57 0 1 (by decide))⟩) hU hS dX11_leg_42
set_option maxHeartbeats 4000000 in
set_option maxRecDepth 100000 in
theorem c_X12_log_y {l : Launch} {D : va_G} {cA : FieldType → ClassId} {sz : Nat} {al : Al} {iv : Iv} {rv : Rv} (hG : GI al iv rv) (lg : Int32) (a : Int32) (b : Int32) : Met l yX12_log (wd yX12_log cX12_log 5 (some .int)) (rm 2) (PcW D cA sz al iv rv [.ref (al.2 0 0), .int lg, .int a, .int b]) (QI D cA sz al (fI al ([16, 11, 12, 13], []) iv rv (fun r iv' rv' => (spLog lg a b (iv 0 0 6).toInt = 0 ∧ r.toInt = 1 - (iv 11 0 lg.toNatClampNeg).toInt ∧ ∀ k, iv' 11 0 k = (if k = lg.toNatClampNeg then 1 else iv 11 0 k) ∧ iv' 12 0 k = (if k = lg.toNatClampNeg then a else iv 12 0 k) ∧ iv' 13 0 k = (if k = lg.toNatClampNeg then b else iv 13 0 k)) ∨ (spLog lg a b (iv 0 0 6).toInt ≠ 0 ∧ r = spLog lg a b (iv 0 0 6).toInt ∧ ∀ k, iv' 11 0 k = iv 11 0 k ∧ iv' 12 0 k = iv 12 0 k ∧ iv' 13 0 k = iv 13 0 k)))) 0 0 (Aq sz) := by
  refine mk_i (by decide) (Nat.le_of_ble_eq_true rfl) rfl ?_
  intro p e s m args below meth c ls Q H locs C hU hS hl hret
  have hx := C.1.1
  have hb := C.1.2.1
  have hl : lv_has ls 5 [(0, .ref (al.2 0 0)), (1, .int lg), (2, .int a), (3, .int b)] := hl
  have hG0 := hG
  have h6 := le6 hG
  have h20 := le20 hG
  have h41 := le41 hG
  have hF1 : FR ([16, 11, 12, 13], []) iv iv := FR.rf
  have hF2 : FR ([16, 11, 12, 13], []) rv rv := FR.rf
  have km6 : ((-6) : Int32).toInt = -6 := by decide
  have km4 : ((-4) : Int32).toInt = -4 := by decide
  have km1 : ((-1) : Int32).toInt = -1 := by decide
  have k0 : (0 : Int32).toInt = 0 := by decide
  have k1 : (1 : Int32).toInt = 1 := by decide
  have k30000 : (30000 : Int32).toInt = 30000 := by decide
  refine lv_aload_n hx hb dX12_log_0 rfl (lv_at hl 0 rfl) ?_
  refine lv_iload_n hx hb dX12_log_1 rfl (lv_at hl 1 rfl) ?_
  refine q_pi (q_runV (t := 0) (i := 0) (As := [.int lg]) (rest := []) C hU (c_X12_isLeg hG lg ) vm_X12_isLeg ml_X12_181 k_0.1 (hc := rfl) rfl (h1_0 hG) hl.1 rfl rfl (Nat.le_of_ble_eq_true rfl) dX12_log_2 rfl rfl ⟨Nat.le_of_ble_eq_true rfl, Nat.le_of_ble_eq_true rfl⟩ ⟨Nat.le_refl _, Nat.le_refl _⟩) hS (fun x_2 H locs hp_1 hU hS => ?_)
  refine b_if_ne (tgt := 14) hx hb dX12_log_5 (by decide) (fun c_3 => ?_) (fun c_3 => ?_)
  ·
    refine lv_iload_n hx hb dX12_log_14 rfl (lv_at hl 2 rfl) ?_
    refine b_if_lt (tgt := 22) hx hb dX12_log_15 (by decide) (fun c_4 => ?_) (fun c_4 => ?_)
    ·
      refine lv_aload_n hx hb dX12_log_22 rfl (lv_at hl 0 rfl) ?_
      refine lv_bipush (v := (-4)) hx hb dX12_log_23 (by decide) ?_
      refine q_fi (q_runV (t := 0) (i := 0) (As := [.int (-4)]) (rest := []) C hU (c_X12_refuse hG (-4) (by omega)) vm_X12_refuse ml_X12_164 k_0.1 (hc := rfl) rfl (h1_0 hG) hl.1 rfl rfl (Nat.le_of_ble_eq_true rfl) dX12_log_25 rfl rfl ⟨Nat.le_of_ble_eq_true rfl, Nat.le_of_ble_eq_true rfl⟩ ⟨Nat.le_refl _, Nat.le_refl _⟩) hS (fun x_10 iv_6 rv_7 H locs hG fa_8 fb_9 hp_5 hU hS => ?_)
      have hF1 := hF1.tr (m := ([16, 11, 12, 13], [])) fa_8 (by decide)
      have hF2 := hF2.tr (m := ([16, 11, 12, 13], [])) fb_9 (by decide)
      exact hret (⟨hG, hF1, hF2, sp_no (z := (-4)) (by unfold spLog; (repeat' split) <;> first | rfl | omega) (by decide) hp_5 (fun k => ⟨fa_8.arr 11 0 k (by decide), fa_8.arr 12 0 k (by decide), fa_8.arr 13 0 k (by decide)⟩)⟩) hU hS dX12_log_28
    ·
      refine lv_iload_n hx hb dX12_log_18 rfl (lv_at hl 3 rfl) ?_
      refine b_if_ge (tgt := 29) hx hb dX12_log_19 (by decide) (fun c_11 => ?_) (fun c_11 => ?_)
      ·
        refine lv_iload_n hx hb dX12_log_29 rfl (lv_at hl 2 rfl) ?_
        refine lv_sipush (v := 30000) hx hb dX12_log_30 (by decide) ?_
        refine b_icmp_gt (tgt := 43) hx hb dX12_log_33 (by decide) (fun c_12 => ?_) (fun c_12 => ?_)
        ·
          refine lv_aload_n hx hb dX12_log_43 rfl (lv_at hl 0 rfl) ?_
          refine lv_bipush (v := (-6)) hx hb dX12_log_44 (by decide) ?_
          refine q_fi (q_runV (t := 0) (i := 0) (As := [.int (-6)]) (rest := []) C hU (c_X12_refuse hG (-6) (by omega)) vm_X12_refuse ml_X12_164 k_0.1 (hc := rfl) rfl (h1_0 hG) hl.1 rfl rfl (Nat.le_of_ble_eq_true rfl) dX12_log_46 rfl rfl ⟨Nat.le_of_ble_eq_true rfl, Nat.le_of_ble_eq_true rfl⟩ ⟨Nat.le_refl _, Nat.le_refl _⟩) hS (fun x_18 iv_14 rv_15 H locs hG fa_16 fb_17 hp_13 hU hS => ?_)
          have hF1 := hF1.tr (m := ([16, 11, 12, 13], [])) fa_16 (by decide)
          have hF2 := hF2.tr (m := ([16, 11, 12, 13], [])) fb_17 (by decide)
          exact hret (⟨hG, hF1, hF2, sp_no (z := (-6)) (by unfold spLog; (repeat' split) <;> first | rfl | omega) (by decide) hp_13 (fun k => ⟨fa_16.arr 11 0 k (by decide), fa_16.arr 12 0 k (by decide), fa_16.arr 13 0 k (by decide)⟩)⟩) hU hS dX12_log_49
        ·
          refine lv_iload_n hx hb dX12_log_36 rfl (lv_at hl 3 rfl) ?_
          refine lv_sipush (v := 30000) hx hb dX12_log_37 (by decide) ?_
          refine b_icmp_le (tgt := 50) hx hb dX12_log_40 (by decide) (fun c_19 => ?_) (fun c_19 => ?_)
          ·
            refine lv_aload_n hx hb dX12_log_50 rfl (lv_at hl 0 rfl) ?_
            refine g_0_13 C hU hG (h1_0 hG) fl_X12_40 dX12_log_51 ?_
            refine lv_iload_n hx hb dX12_log_54 rfl (lv_at hl 1 rfl) ?_
            refine a_11 C hU hG (h1_11 hG) (x := lg) (by omega) (by omega) dX12_log_55 (fun x_20 e_21 le_21 ue_21 => ?_)
            have te_21 := congrArg Int32.toInt e_21
            refine lv_istore (lv' := [(4, .int x_20), (0, .ref (al.2 0 0)), (1, .int lg), (2, .int a), (3, .int b)]) hx hb dX12_log_56 hl (by decide) rfl (fun ls hl => ?_)
            refine lv_aload_n hx hb dX12_log_58 rfl (lv_at hl 1 rfl) ?_
            refine g_0_13 C hU hG (h1_0 hG) fl_X12_40 dX12_log_59 ?_
            refine lv_iload_n hx hb dX12_log_62 rfl (lv_at hl 2 rfl) ?_
            refine lv_iconst (v := 1) hx hb dX12_log_63 (by decide) ?_
            refine s_11 C hU hS (h1_11 hG) (x := lg) (by omega) (by omega) (by omega) (by omega) dX12_log_64 (fun iv_22 H locs ei_23 hU hS => ?_)
            have hG : GI al iv_22 rv := by rw [ei_23]; exact hG.puti (show _ ∧ _ from ⟨show (0 : Int) ≤ _ by omega, show _ ≤ (1 : Int) by omega⟩) (nsA (by decide) _)
            have hF1 : FR ([16, 11, 12, 13], []) iv iv_22 := by rw [ei_23]; exact hF1.put (Or.inl (by decide))
            refine lv_aload_n hx hb dX12_log_65 rfl (lv_at hl 1 rfl) ?_
            refine g_0_14 C hU hG (h1_0 hG) fl_X12_44 dX12_log_66 ?_
            refine lv_iload_n hx hb dX12_log_69 rfl (lv_at hl 2 rfl) ?_
            refine lv_iload_n hx hb dX12_log_70 rfl (lv_at hl 3 rfl) ?_
            refine s_12 C hU hS (h1_12 hG) (x := lg) (by omega) (by omega) dX12_log_71 (fun iv_24 H locs ei_25 hU hS => ?_)
            have hG : GI al iv_24 rv := by rw [ei_25]; exact hG.puti (show _ ∧ _ from ⟨show (0 : Int) ≤ _ by omega, show _ ≤ (30000 : Int) by omega⟩) (nsA (by decide) _)
            have hF1 : FR ([16, 11, 12, 13], []) iv iv_24 := by rw [ei_25]; exact hF1.put (Or.inl (by decide))
            refine lv_aload_n hx hb dX12_log_72 rfl (lv_at hl 1 rfl) ?_
            refine g_0_15 C hU hG (h1_0 hG) fl_X12_47 dX12_log_73 ?_
            refine lv_iload_n hx hb dX12_log_76 rfl (lv_at hl 2 rfl) ?_
            refine lv_iload_n hx hb dX12_log_77 rfl (lv_at hl 4 rfl) ?_
            refine s_13 C hU hS (h1_13 hG) (x := lg) (by omega) (by omega) dX12_log_78 (fun iv_26 H locs ei_27 hU hS => ?_)
            have hG : GI al iv_26 rv := by rw [ei_27]; exact hG.puti (show _ ∧ _ from ⟨show (0 : Int) ≤ _ by omega, show _ ≤ (30000 : Int) by omega⟩) (nsA (by decide) _)
            have hF1 : FR ([16, 11, 12, 13], []) iv iv_26 := by rw [ei_27]; exact hF1.put (Or.inl (by decide))
            refine lv_iload hx hb dX12_log_79 (lv_at hl 0 rfl) ?_
            refine b_if_eq (tgt := 88) hx hb dX12_log_81 (by decide) (fun c_28 => ?_) (fun c_28 => ?_)
            ·
              refine lv_iconst (v := 1) hx hb dX12_log_88 (by decide) ?_
              exact hret (⟨hG, hF1, hF2, Or.inl ⟨(by unfold spLog; (repeat' split) <;> first | rfl | omega), by omega, fun k => by rw [ei_27, ei_25, ei_23]; simp [up3]⟩⟩) hU hS dX12_log_89
            ·
              refine lv_iconst (v := 0) hx hb dX12_log_84 (by decide) ?_
              refine lv_goto (tgt := 89) hx hb dX12_log_85 (by decide) ?_
              exact hret (⟨hG, hF1, hF2, Or.inl ⟨(by unfold spLog; (repeat' split) <;> first | rfl | omega), by omega, fun k => by rw [ei_27, ei_25, ei_23]; simp [up3]⟩⟩) hU hS dX12_log_89
          ·
            refine lv_aload_n hx hb dX12_log_43 rfl (lv_at hl 0 rfl) ?_
            refine lv_bipush (v := (-6)) hx hb dX12_log_44 (by decide) ?_
            refine q_fi (q_runV (t := 0) (i := 0) (As := [.int (-6)]) (rest := []) C hU (c_X12_refuse hG (-6) (by omega)) vm_X12_refuse ml_X12_164 k_0.1 (hc := rfl) rfl (h1_0 hG) hl.1 rfl rfl (Nat.le_of_ble_eq_true rfl) dX12_log_46 rfl rfl ⟨Nat.le_of_ble_eq_true rfl, Nat.le_of_ble_eq_true rfl⟩ ⟨Nat.le_refl _, Nat.le_refl _⟩) hS (fun x_34 iv_30 rv_31 H locs hG fa_32 fb_33 hp_29 hU hS => ?_)
            have hF1 := hF1.tr (m := ([16, 11, 12, 13], [])) fa_32 (by decide)
            have hF2 := hF2.tr (m := ([16, 11, 12, 13], [])) fb_33 (by decide)
            exact hret (⟨hG, hF1, hF2, sp_no (z := (-6)) (by unfold spLog; (repeat' split) <;> first | rfl | omega) (by decide) hp_29 (fun k => ⟨fa_32.arr 11 0 k (by decide), fa_32.arr 12 0 k (by decide), fa_32.arr 13 0 k (by decide)⟩)⟩) hU hS dX12_log_49
      ·
        refine lv_aload_n hx hb dX12_log_22 rfl (lv_at hl 0 rfl) ?_
        refine lv_bipush (v := (-4)) hx hb dX12_log_23 (by decide) ?_
        refine q_fi (q_runV (t := 0) (i := 0) (As := [.int (-4)]) (rest := []) C hU (c_X12_refuse hG (-4) (by omega)) vm_X12_refuse ml_X12_164 k_0.1 (hc := rfl) rfl (h1_0 hG) hl.1 rfl rfl (Nat.le_of_ble_eq_true rfl) dX12_log_25 rfl rfl ⟨Nat.le_of_ble_eq_true rfl, Nat.le_of_ble_eq_true rfl⟩ ⟨Nat.le_refl _, Nat.le_refl _⟩) hS (fun x_40 iv_36 rv_37 H locs hG fa_38 fb_39 hp_35 hU hS => ?_)
        have hF1 := hF1.tr (m := ([16, 11, 12, 13], [])) fa_38 (by decide)
        have hF2 := hF2.tr (m := ([16, 11, 12, 13], [])) fb_39 (by decide)
        exact hret (⟨hG, hF1, hF2, sp_no (z := (-4)) (by unfold spLog; (repeat' split) <;> first | rfl | omega) (by decide) hp_35 (fun k => ⟨fa_38.arr 11 0 k (by decide), fa_38.arr 12 0 k (by decide), fa_38.arr 13 0 k (by decide)⟩)⟩) hU hS dX12_log_28
  ·
    refine lv_aload_n hx hb dX12_log_8 rfl (lv_at hl 0 rfl) ?_
    refine lv_iconst (v := (-1)) hx hb dX12_log_9 (by decide) ?_
    refine q_fi (q_runV (t := 0) (i := 0) (As := [.int (-1)]) (rest := []) C hU (c_X12_refuse hG (-1) (by omega)) vm_X12_refuse ml_X12_164 k_0.1 (hc := rfl) rfl (h1_0 hG) hl.1 rfl rfl (Nat.le_of_ble_eq_true rfl) dX12_log_10 rfl rfl ⟨Nat.le_of_ble_eq_true rfl, Nat.le_of_ble_eq_true rfl⟩ ⟨Nat.le_refl _, Nat.le_refl _⟩) hS (fun x_46 iv_42 rv_43 H locs hG fa_44 fb_45 hp_41 hU hS => ?_)
    have hF1 := hF1.tr (m := ([16, 11, 12, 13], [])) fa_44 (by decide)
    have hF2 := hF2.tr (m := ([16, 11, 12, 13], [])) fb_45 (by decide)
    exact hret (⟨hG, hF1, hF2, sp_no (z := (-1)) (by unfold spLog; (repeat' split) <;> first | rfl | omega) (by decide) hp_41 (fun k => ⟨fa_44.arr 11 0 k (by decide), fa_44.arr 12 0 k (by decide), fa_44.arr 13 0 k (by decide)⟩)⟩) hU hS dX12_log_13
set_option maxHeartbeats 4000000 in
set_option maxRecDepth 100000 in
theorem c_X5_enter_y {l : Launch} {D : va_G} {cA : FieldType → ClassId} {sz : Nat} {al : Al} {iv : Iv} {rv : Rv} (hG : GI al iv rv) (li : Nat) (hli : li < al.1 62) (a : Int32) (b : Int32) (pre0 : 0 ≤ a.toInt ∧ a.toInt ≤ 30000) (pre1 : 0 ≤ b.toInt ∧ b.toInt ≤ 30000) : Met l yX5_enter (wd yX5_enter cX5_enter 3 none) (rm 2) (PcW D cA sz al iv rv [.ref (al.2 62 li), .int a, .int b]) (QV D cA sz al (fV al ([], [(62, 10), (62, 11), (62, 12), (62, 13), (62, 7), (62, 8), (62, 9)]) iv rv (fun iv' rv' => enP iv iv' li a b ∧ (CRT iv rv → CRT iv' rv')))) 0 0 (Aq sz) := by
  refine mk_v (by decide) (Nat.le_of_ble_eq_true rfl) rfl ?_
  intro p e s m args below meth c ls Q H locs C hU hS hl hret
  have hx := C.1.1
  have hb := C.1.2.1
  have hl : lv_has ls 3 [(0, .ref (al.2 62 li)), (1, .int a), (2, .int b)] := hl
  have hG0 := hG
  have hF1 : FR ([], [(62, 10), (62, 11), (62, 12), (62, 13), (62, 7), (62, 8), (62, 9)]) iv iv := FR.rf
  have hF2 : FR ([], [(62, 10), (62, 11), (62, 12), (62, 13), (62, 7), (62, 8), (62, 9)]) rv rv := FR.rf
  have k1 : (1 : Int32).toInt = 1 := by decide
  refine lv_aload_n hx hb dX5_enter_0 rfl (lv_at hl 0 rfl) ?_
  refine lv_iload_n hx hb dX5_enter_1 rfl (lv_at hl 1 rfl) ?_
  refine p_62_8 C hU hS hli fl_X5_32 dX5_enter_2 (fun iv_1 H locs ei_2 hU hS => ?_)
  have hG : GI al iv_1 rv := by rw [ei_2]; exact hG.puti (show _ ∧ _ from ⟨show (0 : Int) ≤ _ by omega, show _ ≤ (30000 : Int) by omega⟩) (nsF (by decide))
  have hF1 : FR ([], [(62, 10), (62, 11), (62, 12), (62, 13), (62, 7), (62, 8), (62, 9)]) iv iv_1 := by rw [ei_2]; exact hF1.put (by decide)
  refine lv_aload_n hx hb dX5_enter_5 rfl (lv_at hl 0 rfl) ?_
  refine lv_iload_n hx hb dX5_enter_6 rfl (lv_at hl 2 rfl) ?_
  refine p_62_9 C hU hS hli fl_X5_35 dX5_enter_7 (fun iv_3 H locs ei_4 hU hS => ?_)
  have hG : GI al iv_3 rv := by rw [ei_4]; exact hG.puti (show _ ∧ _ from ⟨show (0 : Int) ≤ _ by omega, show _ ≤ (30000 : Int) by omega⟩) (nsF (by decide))
  have hF1 : FR ([], [(62, 10), (62, 11), (62, 12), (62, 13), (62, 7), (62, 8), (62, 9)]) iv iv_3 := by rw [ei_4]; exact hF1.put (by decide)
  refine lv_aload_n hx hb dX5_enter_10 rfl (lv_at hl 0 rfl) ?_
  refine lv_iconst (v := 1) hx hb dX5_enter_11 (by decide) ?_
  refine p_62_7 C hU hS hli fl_X5_38 dX5_enter_12 (by omega) (by omega) (fun iv_5 H locs ei_6 hU hS => ?_)
  have hG : GI al iv_5 rv := by rw [ei_6]; exact hG.puti (show _ ∧ _ from ⟨show (0 : Int) ≤ _ by omega, show _ ≤ (1 : Int) by omega⟩) (nsF (by decide))
  have hF1 : FR ([], [(62, 10), (62, 11), (62, 12), (62, 13), (62, 7), (62, 8), (62, 9)]) iv iv_5 := by rw [ei_6]; exact hF1.put (by decide)
  refine lv_aload_n hx hb dX5_enter_15 rfl (lv_at hl 0 rfl) ?_
  refine q_fv (q_runV (t := 62) (i := li) (As := []) (rest := []) C hU (c_X5_putRight_x hG (li) hli ) vm_X5_putRight ml_X5_42 k_62.1 (hc := rfl) rfl hli hl.1 rfl rfl (Nat.le_of_ble_eq_true rfl) dX5_enter_16 rfl rfl ⟨Nat.le_of_ble_eq_true rfl, Nat.le_of_ble_eq_true rfl⟩ ⟨Nat.le_refl _, Nat.le_refl _⟩) hS (fun iv_8 rv_9 H locs hG fa_10 fb_11 hp_7 hU hS => ?_)
  have hF1 := hF1.tr (m := ([], [(62, 10), (62, 11), (62, 12), (62, 13), (62, 7), (62, 8), (62, 9)])) fa_10 (by decide)
  have hF2 := hF2.tr (m := ([], [(62, 10), (62, 11), (62, 12), (62, 13), (62, 7), (62, 8), (62, 9)])) fb_11 (by decide)
  exact hret (⟨hG, hF1, hF2, ⟨en_ok ei_2 ei_4 ei_6 fa_10, fun h => en_crt h ei_2 ei_4 ei_6 fa_10 fb_11 hp_7⟩⟩) hU hS dX5_enter_19
set_option maxHeartbeats 4000000 in
set_option maxRecDepth 100000 in
theorem c_X11_log_y {l : Launch} {D : va_G} {cA : FieldType → ClassId} {sz : Nat} {al : Al} {iv : Iv} {rv : Rv} (hG : GI al iv rv) (lg : Int32) (a : Int32) (b : Int32) : Met l yX11_log (wd yX11_log cX11_log 6 (some .int)) (rm 3) (PcW D cA sz al iv rv [.ref (al.2 49 0), .int lg, .int a, .int b]) (QI D cA sz al (fI al ([51], [(62, 10), (62, 11), (62, 12), (62, 13), (62, 7), (62, 8), (62, 9)]) iv rv (fun r iv' rv' => (spLog lg a b (iv 57 0 1).toInt = 0 ∧ r.toInt = 1 - (iv 62 lg.toNatClampNeg 7).toInt ∧ enP iv iv' lg.toNatClampNeg a b ∧ (CRT iv rv → CRT iv' rv')) ∨ (spLog lg a b (iv 57 0 1).toInt ≠ 0 ∧ r = spLog lg a b (iv 57 0 1).toInt ∧ enK iv iv' ∧ (CRT iv rv → CRT iv' rv'))))) 0 0 (Aq sz) := by
  refine mk_i (by decide) (Nat.le_of_ble_eq_true rfl) rfl ?_
  intro p e s m args below meth c ls Q H locs C hU hS hl hret
  have hx := C.1.1
  have hb := C.1.2.1
  have hl : lv_has ls 6 [(0, .ref (al.2 49 0)), (1, .int lg), (2, .int a), (3, .int b)] := hl
  have hG0 := hG
  have hF1 : FR ([51], [(62, 10), (62, 11), (62, 12), (62, 13), (62, 7), (62, 8), (62, 9)]) iv iv := FR.rf
  have hF2 : FR ([51], [(62, 10), (62, 11), (62, 12), (62, 13), (62, 7), (62, 8), (62, 9)]) rv rv := FR.rf
  have km6 : ((-6) : Int32).toInt = -6 := by decide
  have km4 : ((-4) : Int32).toInt = -4 := by decide
  have km1 : ((-1) : Int32).toInt = -1 := by decide
  have k0 : (0 : Int32).toInt = 0 := by decide
  have k1 : (1 : Int32).toInt = 1 := by decide
  have k30000 : (30000 : Int32).toInt = 30000 := by decide
  refine lv_aload_n hx hb dX11_log_0 rfl (lv_at hl 0 rfl) ?_
  refine g_49_1 C hU hG (h1_49 hG) fl_X11_19 dX11_log_1 ?_
  refine lv_iload_n hx hb dX11_log_4 rfl (lv_at hl 1 rfl) ?_
  refine q_pr (q_runV (t := 57) (i := 0) (As := [.int lg]) (rest := []) C hU (c_X10_find hG lg ) vm_X10_find ml_X11_123 k_57.1 (hc := rfl) rfl (h1_57 hG) hl.1 rfl rfl (Nat.le_of_ble_eq_true rfl) dX11_log_5 rfl rfl ⟨Nat.le_of_ble_eq_true rfl, Nat.le_of_ble_eq_true rfl⟩ ⟨Nat.le_refl _, Nat.le_refl _⟩) hS (fun r_2 H locs hp_1 hU hS => ?_)
  have hb_3 := hp_1.1
  refine b_astore (lv' := [(4, rfv al 62 r_2), (0, .ref (al.2 49 0)), (1, .int lg), (2, .int a), (3, .int b)]) hx hb dX11_log_8 hl (by decide) rfl (fun ls hl => ?_)
  refine b_aload (al := al) (t' := 62) (r := r_2) hx hb dX11_log_10 (lv_at hl 0 rfl) ?_
  refine b_ifnonnull (tgt := 21) hx hb dX11_log_12 (by decide) (fun j_5 ej_6 => ?_) (fun ej_6 => ?_)
  ·
    subst ej_6
    have hl : lv_has ls 6 [(4, .ref (al.2 62 j_5)), (0, .ref (al.2 49 0)), (1, .int lg), (2, .int a), (3, .int b)] := hl
    have hb_7 : j_5 < al.1 62 := hb_3 j_5 rfl
    have hq4 := hp_1.2.1 _ rfl
    have hn4 := hq4.1
    rw [clamp_n] at hn4
    refine lv_iload_n hx hb dX11_log_21 rfl (lv_at hl 3 rfl) ?_
    refine b_if_lt (tgt := 29) hx hb dX11_log_22 (by decide) (fun c_8 => ?_) (fun c_8 => ?_)
    ·
      refine lv_aload_n hx hb dX11_log_29 rfl (lv_at hl 1 rfl) ?_
      refine lv_bipush (v := (-4)) hx hb dX11_log_30 (by decide) ?_
      refine q_fi (q_runV (t := 49) (i := 0) (As := [.int (-4)]) (rest := []) C hU (c_X11_refuse hG (-4) (by omega)) vm_X11_refuse ml_X11_77 k_49.1 (hc := rfl) rfl (h1_49 hG) hl.1 rfl rfl (Nat.le_of_ble_eq_true rfl) dX11_log_32 rfl rfl ⟨Nat.le_of_ble_eq_true rfl, Nat.le_of_ble_eq_true rfl⟩ ⟨Nat.le_refl _, Nat.le_refl _⟩) hS (fun x_14 iv_10 rv_11 H locs hG fa_12 fb_13 hp_9 hU hS => ?_)
      have hF1 := hF1.tr (m := ([51], [(62, 10), (62, 11), (62, 12), (62, 13), (62, 7), (62, 8), (62, 9)])) fa_12 (by decide)
      have hF2 := hF2.tr (m := ([51], [(62, 10), (62, 11), (62, 12), (62, 13), (62, 7), (62, 8), (62, 9)])) fb_13 (by decide)
      exact hret (⟨hG, hF1, hF2, sp_no (z := (-4)) (by unfold spLog; (repeat' split) <;> first | rfl | omega) (by decide) hp_9 (⟨en_fr fa_12 (by decide), crt_fr fa_12 fb_13 (by decide)⟩)⟩) hU hS dX11_log_35
    ·
      refine lv_iload_n hx hb dX11_log_25 rfl (lv_at hl 4 rfl) ?_
      refine b_if_ge (tgt := 36) hx hb dX11_log_26 (by decide) (fun c_15 => ?_) (fun c_15 => ?_)
      ·
        refine lv_iload_n hx hb dX11_log_36 rfl (lv_at hl 3 rfl) ?_
        refine lv_sipush (v := 30000) hx hb dX11_log_37 (by decide) ?_
        refine b_icmp_gt (tgt := 50) hx hb dX11_log_40 (by decide) (fun c_16 => ?_) (fun c_16 => ?_)
        ·
          refine lv_aload_n hx hb dX11_log_50 rfl (lv_at hl 1 rfl) ?_
          refine lv_bipush (v := (-6)) hx hb dX11_log_51 (by decide) ?_
          refine q_fi (q_runV (t := 49) (i := 0) (As := [.int (-6)]) (rest := []) C hU (c_X11_refuse hG (-6) (by omega)) vm_X11_refuse ml_X11_77 k_49.1 (hc := rfl) rfl (h1_49 hG) hl.1 rfl rfl (Nat.le_of_ble_eq_true rfl) dX11_log_53 rfl rfl ⟨Nat.le_of_ble_eq_true rfl, Nat.le_of_ble_eq_true rfl⟩ ⟨Nat.le_refl _, Nat.le_refl _⟩) hS (fun x_22 iv_18 rv_19 H locs hG fa_20 fb_21 hp_17 hU hS => ?_)
          have hF1 := hF1.tr (m := ([51], [(62, 10), (62, 11), (62, 12), (62, 13), (62, 7), (62, 8), (62, 9)])) fa_20 (by decide)
          have hF2 := hF2.tr (m := ([51], [(62, 10), (62, 11), (62, 12), (62, 13), (62, 7), (62, 8), (62, 9)])) fb_21 (by decide)
          exact hret (⟨hG, hF1, hF2, sp_no (z := (-6)) (by unfold spLog; (repeat' split) <;> first | rfl | omega) (by decide) hp_17 (⟨en_fr fa_20 (by decide), crt_fr fa_20 fb_21 (by decide)⟩)⟩) hU hS dX11_log_56
        ·
          refine lv_iload_n hx hb dX11_log_43 rfl (lv_at hl 4 rfl) ?_
          refine lv_sipush (v := 30000) hx hb dX11_log_44 (by decide) ?_
          refine b_icmp_le (tgt := 57) hx hb dX11_log_47 (by decide) (fun c_23 => ?_) (fun c_23 => ?_)
          ·
            refine lv_aload hx hb dX11_log_57 (lv_at hl 0 rfl) ?_
            refine g_62_7 C hU hG hb_7 fl_X11_126 dX11_log_59 (fun x_24 e_25 le_25 ue_25 => ?_)
            have te_25 := congrArg Int32.toInt e_25
            refine lv_istore (lv' := [(5, .int x_24), (4, .ref (al.2 62 j_5)), (0, .ref (al.2 49 0)), (1, .int lg), (2, .int a), (3, .int b)]) hx hb dX11_log_62 hl (by decide) rfl (fun ls hl => ?_)
            refine lv_aload hx hb dX11_log_64 (lv_at hl 1 rfl) ?_
            refine lv_iload_n hx hb dX11_log_66 rfl (lv_at hl 4 rfl) ?_
            refine lv_iload_n hx hb dX11_log_67 rfl (lv_at hl 5 rfl) ?_
            refine q_fv (q_runV (t := 62) (i := j_5) (As := [.int a, .int b]) (rest := []) C hU (c_X5_enter_y hG (j_5) hb_7 a b (by omega) (by omega)) vm_X5_enter ml_X11_132 k_62.1 (hc := rfl) rfl hb_7 hl.1 rfl rfl (Nat.le_of_ble_eq_true rfl) dX11_log_68 rfl rfl ⟨Nat.le_of_ble_eq_true rfl, Nat.le_of_ble_eq_true rfl⟩ ⟨Nat.le_refl _, Nat.le_refl _⟩) hS (fun iv_27 rv_28 H locs hG fa_29 fb_30 hp_26 hU hS => ?_)
            have hF1 := hF1.tr (m := ([51], [(62, 10), (62, 11), (62, 12), (62, 13), (62, 7), (62, 8), (62, 9)])) fa_29 (by decide)
            have hF2 := hF2.tr (m := ([51], [(62, 10), (62, 11), (62, 12), (62, 13), (62, 7), (62, 8), (62, 9)])) fb_30 (by decide)
            refine lv_iload hx hb dX11_log_71 (lv_at hl 0 rfl) ?_
            refine b_if_eq (tgt := 80) hx hb dX11_log_73 (by decide) (fun c_31 => ?_) (fun c_31 => ?_)
            ·
              refine lv_iconst (v := 1) hx hb dX11_log_80 (by decide) ?_
              exact hret (⟨hG, hF1, hF2, Or.inl ⟨(by unfold spLog; (repeat' split) <;> first | rfl | omega), by have z1 := e_25; rw [hq4.1] at z1; have z2 := congrArg Int32.toInt z1; omega, by have z3 := hp_26.1; rw [hq4.1] at z3; exact z3, hp_26.2⟩⟩) hU hS dX11_log_81
            ·
              refine lv_iconst (v := 0) hx hb dX11_log_76 (by decide) ?_
              refine lv_goto (tgt := 81) hx hb dX11_log_77 (by decide) ?_
              exact hret (⟨hG, hF1, hF2, Or.inl ⟨(by unfold spLog; (repeat' split) <;> first | rfl | omega), by have z1 := e_25; rw [hq4.1] at z1; have z2 := congrArg Int32.toInt z1; omega, by have z3 := hp_26.1; rw [hq4.1] at z3; exact z3, hp_26.2⟩⟩) hU hS dX11_log_81
          ·
            refine lv_aload_n hx hb dX11_log_50 rfl (lv_at hl 1 rfl) ?_
            refine lv_bipush (v := (-6)) hx hb dX11_log_51 (by decide) ?_
            refine q_fi (q_runV (t := 49) (i := 0) (As := [.int (-6)]) (rest := []) C hU (c_X11_refuse hG (-6) (by omega)) vm_X11_refuse ml_X11_77 k_49.1 (hc := rfl) rfl (h1_49 hG) hl.1 rfl rfl (Nat.le_of_ble_eq_true rfl) dX11_log_53 rfl rfl ⟨Nat.le_of_ble_eq_true rfl, Nat.le_of_ble_eq_true rfl⟩ ⟨Nat.le_refl _, Nat.le_refl _⟩) hS (fun x_37 iv_33 rv_34 H locs hG fa_35 fb_36 hp_32 hU hS => ?_)
            have hF1 := hF1.tr (m := ([51], [(62, 10), (62, 11), (62, 12), (62, 13), (62, 7), (62, 8), (62, 9)])) fa_35 (by decide)
            have hF2 := hF2.tr (m := ([51], [(62, 10), (62, 11), (62, 12), (62, 13), (62, 7), (62, 8), (62, 9)])) fb_36 (by decide)
            exact hret (⟨hG, hF1, hF2, sp_no (z := (-6)) (by unfold spLog; (repeat' split) <;> first | rfl | omega) (by decide) hp_32 (⟨en_fr fa_35 (by decide), crt_fr fa_35 fb_36 (by decide)⟩)⟩) hU hS dX11_log_56
      ·
        refine lv_aload_n hx hb dX11_log_29 rfl (lv_at hl 1 rfl) ?_
        refine lv_bipush (v := (-4)) hx hb dX11_log_30 (by decide) ?_
        refine q_fi (q_runV (t := 49) (i := 0) (As := [.int (-4)]) (rest := []) C hU (c_X11_refuse hG (-4) (by omega)) vm_X11_refuse ml_X11_77 k_49.1 (hc := rfl) rfl (h1_49 hG) hl.1 rfl rfl (Nat.le_of_ble_eq_true rfl) dX11_log_32 rfl rfl ⟨Nat.le_of_ble_eq_true rfl, Nat.le_of_ble_eq_true rfl⟩ ⟨Nat.le_refl _, Nat.le_refl _⟩) hS (fun x_43 iv_39 rv_40 H locs hG fa_41 fb_42 hp_38 hU hS => ?_)
        have hF1 := hF1.tr (m := ([51], [(62, 10), (62, 11), (62, 12), (62, 13), (62, 7), (62, 8), (62, 9)])) fa_41 (by decide)
        have hF2 := hF2.tr (m := ([51], [(62, 10), (62, 11), (62, 12), (62, 13), (62, 7), (62, 8), (62, 9)])) fb_42 (by decide)
        exact hret (⟨hG, hF1, hF2, sp_no (z := (-4)) (by unfold spLog; (repeat' split) <;> first | rfl | omega) (by decide) hp_38 (⟨en_fr fa_41 (by decide), crt_fr fa_41 fb_42 (by decide)⟩)⟩) hU hS dX11_log_35
  ·
    subst ej_6
    have hl : lv_has ls 6 [(4, rfv al 62 none), (0, .ref (al.2 49 0)), (1, .int lg), (2, .int a), (3, .int b)] := hl
    have hq4 := hp_1.2.2 rfl
    refine lv_aload_n hx hb dX11_log_15 rfl (lv_at hl 1 rfl) ?_
    refine lv_iconst (v := (-1)) hx hb dX11_log_16 (by decide) ?_
    refine q_fi (q_runV (t := 49) (i := 0) (As := [.int (-1)]) (rest := []) C hU (c_X11_refuse hG (-1) (by omega)) vm_X11_refuse ml_X11_77 k_49.1 (hc := rfl) rfl (h1_49 hG) hl.1 rfl rfl (Nat.le_of_ble_eq_true rfl) dX11_log_17 rfl rfl ⟨Nat.le_of_ble_eq_true rfl, Nat.le_of_ble_eq_true rfl⟩ ⟨Nat.le_refl _, Nat.le_refl _⟩) hS (fun x_49 iv_45 rv_46 H locs hG fa_47 fb_48 hp_44 hU hS => ?_)
    have hF1 := hF1.tr (m := ([51], [(62, 10), (62, 11), (62, 12), (62, 13), (62, 7), (62, 8), (62, 9)])) fa_47 (by decide)
    have hF2 := hF2.tr (m := ([51], [(62, 10), (62, 11), (62, 12), (62, 13), (62, 7), (62, 8), (62, 9)])) fb_48 (by decide)
    exact hret (⟨hG, hF1, hF2, sp_no (z := (-1)) (by unfold spLog; (repeat' split) <;> first | rfl | omega) (by decide) hp_44 (⟨en_fr fa_47 (by decide), crt_fr fa_47 fb_48 (by decide)⟩)⟩) hU hS dX11_log_20
set_option maxHeartbeats 4000000 in
set_option maxRecDepth 100000 in
theorem c_X12_cause_x {l : Launch} {D : va_G} {cA : FieldType → ClassId} {sz : Nat} {al : Al} {iv : Iv} {rv : Rv} (hG : GI al iv rv) (lg : Int32) (cs : Int32) : Met l yX12_cause (wd yX12_cause cX12_cause 4 (some .int)) (rm 2) (PcW D cA sz al iv rv [.ref (al.2 0 0), .int lg, .int cs]) (QI D cA sz al (fI al ([16, 14], []) iv rv (fun r iv' rv' => (spCause lg cs (iv 0 0 6).toInt = 0 ∧ r = iv 14 0 lg.toNatClampNeg ∧ ∀ k, iv' 14 0 k = if k = lg.toNatClampNeg then cs else iv 14 0 k) ∨ (spCause lg cs (iv 0 0 6).toInt ≠ 0 ∧ r = spCause lg cs (iv 0 0 6).toInt ∧ ∀ k, iv' 14 0 k = iv 14 0 k)))) 0 0 (Aq sz) := by
  refine mk_i (by decide) (Nat.le_of_ble_eq_true rfl) rfl ?_
  intro p e s m args below meth c ls Q H locs C hU hS hl hret
  have hx := C.1.1
  have hb := C.1.2.1
  have hl : lv_has ls 4 [(0, .ref (al.2 0 0)), (1, .int lg), (2, .int cs)] := hl
  have hG0 := hG
  have h6 := le6 hG
  have h20 := le20 hG
  have h41 := le41 hG
  have hF1 : FR ([16, 14], []) iv iv := FR.rf
  have hF2 : FR ([16, 14], []) rv rv := FR.rf
  have km1 : ((-1) : Int32).toInt = -1 := by decide
  refine lv_aload_n hx hb dX12_cause_0 rfl (lv_at hl 0 rfl) ?_
  refine lv_iload_n hx hb dX12_cause_1 rfl (lv_at hl 1 rfl) ?_
  refine q_pi (q_runV (t := 0) (i := 0) (As := [.int lg]) (rest := []) C hU (c_X12_isLeg hG lg ) vm_X12_isLeg ml_X12_181 k_0.1 (hc := rfl) rfl (h1_0 hG) hl.1 rfl rfl (Nat.le_of_ble_eq_true rfl) dX12_cause_2 rfl rfl ⟨Nat.le_of_ble_eq_true rfl, Nat.le_of_ble_eq_true rfl⟩ ⟨Nat.le_refl _, Nat.le_refl _⟩) hS (fun x_2 H locs hp_1 hU hS => ?_)
  refine b_if_eq (tgt := 15) hx hb dX12_cause_5 (by decide) (fun c_3 => ?_) (fun c_3 => ?_)
  ·
    refine lv_aload_n hx hb dX12_cause_15 rfl (lv_at hl 0 rfl) ?_
    refine lv_iconst (v := (-1)) hx hb dX12_cause_16 (by decide) ?_
    refine q_fi (q_runV (t := 0) (i := 0) (As := [.int (-1)]) (rest := []) C hU (c_X12_refuse hG (-1) (by omega)) vm_X12_refuse ml_X12_164 k_0.1 (hc := rfl) rfl (h1_0 hG) hl.1 rfl rfl (Nat.le_of_ble_eq_true rfl) dX12_cause_17 rfl rfl ⟨Nat.le_of_ble_eq_true rfl, Nat.le_of_ble_eq_true rfl⟩ ⟨Nat.le_refl _, Nat.le_refl _⟩) hS (fun x_9 iv_5 rv_6 H locs hG fa_7 fb_8 hp_4 hU hS => ?_)
    have hF1 := hF1.tr (m := ([16, 14], [])) fa_7 (by decide)
    have hF2 := hF2.tr (m := ([16, 14], [])) fb_8 (by decide)
    exact hret (⟨hG, hF1, hF2, sp_no (z := (-1)) (by unfold spCause; (repeat' split) <;> first | rfl | omega) (by decide) hp_4 (fun k => fa_7.arr 14 0 k (by decide))⟩) hU hS dX12_cause_20
  ·
    refine lv_iload_n hx hb dX12_cause_8 rfl (lv_at hl 2 rfl) ?_
    refine q_pi (q_runS (As := [.int cs]) (rest := []) C hU (c_X12_isCause  cs ) sm_X12_isCause ml_X12_184 hl.1 rfl rfl (Nat.le_of_ble_eq_true rfl) dX12_cause_9 rfl rfl ⟨Nat.le_of_ble_eq_true rfl, Nat.le_of_ble_eq_true rfl⟩ ⟨Nat.le_refl _, Nat.le_refl _⟩) hS (fun x_11 H locs hp_10 hU hS => ?_)
    refine b_if_ne (tgt := 21) hx hb dX12_cause_12 (by decide) (fun c_12 => ?_) (fun c_12 => ?_)
    ·
      refine lv_aload_n hx hb dX12_cause_21 rfl (lv_at hl 0 rfl) ?_
      refine g_0_16 C hU hG (h1_0 hG) fl_X12_50 dX12_cause_22 ?_
      refine lv_iload_n hx hb dX12_cause_25 rfl (lv_at hl 1 rfl) ?_
      refine a_14 C hU hG (h1_14 hG) (x := lg) (by omega) (by omega) dX12_cause_26 (fun x_13 e_14 le_14 ue_14 => ?_)
      have te_14 := congrArg Int32.toInt e_14
      refine lv_istore_n (lv' := [(3, .int x_13), (0, .ref (al.2 0 0)), (1, .int lg), (2, .int cs)]) hx hb dX12_cause_27 rfl hl (by decide) rfl (fun ls hl => ?_)
      refine lv_aload_n hx hb dX12_cause_28 rfl (lv_at hl 1 rfl) ?_
      refine g_0_16 C hU hG (h1_0 hG) fl_X12_50 dX12_cause_29 ?_
      refine lv_iload_n hx hb dX12_cause_32 rfl (lv_at hl 2 rfl) ?_
      refine lv_iload_n hx hb dX12_cause_33 rfl (lv_at hl 3 rfl) ?_
      refine s_14 C hU hS (h1_14 hG) (x := lg) (by omega) (by omega) dX12_cause_34 (fun iv_15 H locs ei_16 hU hS => ?_)
      have hG : GI al iv_15 rv := by rw [ei_16]; exact hG.puti (show _ ∧ _ from ⟨show (0 : Int) ≤ _ by omega, show _ ≤ (5 : Int) by omega⟩) (nsA (by decide) _)
      have hF1 : FR ([16, 14], []) iv iv_15 := by rw [ei_16]; exact hF1.put (Or.inl (by decide))
      refine lv_iload_n hx hb dX12_cause_35 rfl (lv_at hl 0 rfl) ?_
      exact hret (⟨hG, hF1, hF2, Or.inl ⟨(by unfold spCause; (repeat' split) <;> first | rfl | omega), e_14, fun k => by rw [ei_16]; simp [up3]⟩⟩) hU hS dX12_cause_36
    ·
      refine lv_aload_n hx hb dX12_cause_15 rfl (lv_at hl 0 rfl) ?_
      refine lv_iconst (v := (-1)) hx hb dX12_cause_16 (by decide) ?_
      refine q_fi (q_runV (t := 0) (i := 0) (As := [.int (-1)]) (rest := []) C hU (c_X12_refuse hG (-1) (by omega)) vm_X12_refuse ml_X12_164 k_0.1 (hc := rfl) rfl (h1_0 hG) hl.1 rfl rfl (Nat.le_of_ble_eq_true rfl) dX12_cause_17 rfl rfl ⟨Nat.le_of_ble_eq_true rfl, Nat.le_of_ble_eq_true rfl⟩ ⟨Nat.le_refl _, Nat.le_refl _⟩) hS (fun x_22 iv_18 rv_19 H locs hG fa_20 fb_21 hp_17 hU hS => ?_)
      have hF1 := hF1.tr (m := ([16, 14], [])) fa_20 (by decide)
      have hF2 := hF2.tr (m := ([16, 14], [])) fb_21 (by decide)
      exact hret (⟨hG, hF1, hF2, sp_no (z := (-1)) (by unfold spCause; (repeat' split) <;> first | rfl | omega) (by decide) hp_17 (fun k => fa_20.arr 14 0 k (by decide))⟩) hU hS dX12_cause_20
set_option maxHeartbeats 4000000 in
set_option maxRecDepth 100000 in
theorem c_X11_cause_x {l : Launch} {D : va_G} {cA : FieldType → ClassId} {sz : Nat} {al : Al} {iv : Iv} {rv : Rv} (hG : GI al iv rv) (lg : Int32) (cs : Int32) : Met l yX11_cause (wd yX11_cause cX11_cause 5 (some .int)) (rm 2) (PcW D cA sz al iv rv [.ref (al.2 49 0), .int lg, .int cs]) (QI D cA sz al (fI al ([51], [(62, 14)]) iv rv (fun r iv' rv' => (spCause lg cs (iv 57 0 1).toInt = 0 ∧ r = iv 62 lg.toNatClampNeg 14 ∧ ∀ k, iv' 62 k 14 = if k = lg.toNatClampNeg then cs else iv 62 k 14) ∨ (spCause lg cs (iv 57 0 1).toInt ≠ 0 ∧ r = spCause lg cs (iv 57 0 1).toInt ∧ ∀ k, iv' 62 k 14 = iv 62 k 14)))) 0 0 (Aq sz) := by
  refine mk_i (by decide) (Nat.le_of_ble_eq_true rfl) rfl ?_
  intro p e s m args below meth c ls Q H locs C hU hS hl hret
  have hx := C.1.1
  have hb := C.1.2.1
  have hl : lv_has ls 5 [(0, .ref (al.2 49 0)), (1, .int lg), (2, .int cs)] := hl
  have hG0 := hG
  have hF1 : FR ([51], [(62, 14)]) iv iv := FR.rf
  have hF2 : FR ([51], [(62, 14)]) rv rv := FR.rf
  have km1 : ((-1) : Int32).toInt = -1 := by decide
  have k6 : (6 : Int32).toInt = 6 := by decide
  refine lv_aload_n hx hb dX11_cause_0 rfl (lv_at hl 0 rfl) ?_
  refine g_49_1 C hU hG (h1_49 hG) fl_X11_19 dX11_cause_1 ?_
  refine lv_iload_n hx hb dX11_cause_4 rfl (lv_at hl 1 rfl) ?_
  refine q_pr (q_runV (t := 57) (i := 0) (As := [.int lg]) (rest := []) C hU (c_X10_find hG lg ) vm_X10_find ml_X11_123 k_57.1 (hc := rfl) rfl (h1_57 hG) hl.1 rfl rfl (Nat.le_of_ble_eq_true rfl) dX11_cause_5 rfl rfl ⟨Nat.le_of_ble_eq_true rfl, Nat.le_of_ble_eq_true rfl⟩ ⟨Nat.le_refl _, Nat.le_refl _⟩) hS (fun r_2 H locs hp_1 hU hS => ?_)
  have hb_3 := hp_1.1
  refine b_astore_n (lv' := [(3, rfv al 62 r_2), (0, .ref (al.2 49 0)), (1, .int lg), (2, .int cs)]) hx hb dX11_cause_8 rfl hl (by decide) rfl (fun ls hl => ?_)
  refine b_aload_n (al := al) (t' := 62) (r := r_2) hx hb dX11_cause_9 rfl (lv_at hl 0 rfl) ?_
  refine b_ifnull (tgt := 22) hx hb dX11_cause_10 (by decide) (fun ej_6 => ?_) (fun j_5 ej_6 => ?_)
  ·
    subst ej_6
    have hl : lv_has ls 5 [(3, rfv al 62 none), (0, .ref (al.2 49 0)), (1, .int lg), (2, .int cs)] := hl
    have hq4 := hp_1.2.2 rfl
    refine lv_aload_n hx hb dX11_cause_22 rfl (lv_at hl 1 rfl) ?_
    refine lv_iconst (v := (-1)) hx hb dX11_cause_23 (by decide) ?_
    refine q_fi (q_runV (t := 49) (i := 0) (As := [.int (-1)]) (rest := []) C hU (c_X11_refuse hG (-1) (by omega)) vm_X11_refuse ml_X11_77 k_49.1 (hc := rfl) rfl (h1_49 hG) hl.1 rfl rfl (Nat.le_of_ble_eq_true rfl) dX11_cause_24 rfl rfl ⟨Nat.le_of_ble_eq_true rfl, Nat.le_of_ble_eq_true rfl⟩ ⟨Nat.le_refl _, Nat.le_refl _⟩) hS (fun x_12 iv_8 rv_9 H locs hG fa_10 fb_11 hp_7 hU hS => ?_)
    have hF1 := hF1.tr (m := ([51], [(62, 14)])) fa_10 (by decide)
    have hF2 := hF2.tr (m := ([51], [(62, 14)])) fb_11 (by decide)
    exact hret (⟨hG, hF1, hF2, sp_no (z := (-1)) (by unfold spCause; (repeat' split) <;> first | rfl | omega) (by decide) hp_7 (fun k => fa_10 62 k 14 (by decide))⟩) hU hS dX11_cause_27
  ·
    subst ej_6
    have hl : lv_has ls 5 [(3, .ref (al.2 62 j_5)), (0, .ref (al.2 49 0)), (1, .int lg), (2, .int cs)] := hl
    have hb_13 : j_5 < al.1 62 := hb_3 j_5 rfl
    have hq4 := hp_1.2.1 _ rfl
    have hn4 := hq4.1
    rw [clamp_n] at hn4
    refine lv_bipush (v := 6) hx hb dX11_cause_13 (by decide) ?_
    refine lv_iload_n hx hb dX11_cause_15 rfl (lv_at hl 3 rfl) ?_
    refine q_pi (q_runS (As := [.int 6, .int cs]) (rest := []) C hU (c_X11_isOneOf  6 cs ) sm_X11_isOneOf ml_X11_85 hl.1 rfl rfl (Nat.le_of_ble_eq_true rfl) dX11_cause_16 rfl rfl ⟨Nat.le_of_ble_eq_true rfl, Nat.le_of_ble_eq_true rfl⟩ ⟨Nat.le_refl _, Nat.le_refl _⟩) hS (fun x_15 H locs hp_14 hU hS => ?_)
    refine b_if_ne (tgt := 28) hx hb dX11_cause_19 (by decide) (fun c_16 => ?_) (fun c_16 => ?_)
    ·
      refine lv_aload_n hx hb dX11_cause_28 rfl (lv_at hl 0 rfl) ?_
      refine g_62_14 C hU hG hb_13 fl_X11_136 dX11_cause_29 (fun x_17 e_18 le_18 ue_18 => ?_)
      have te_18 := congrArg Int32.toInt e_18
      refine lv_istore (lv' := [(4, .int x_17), (3, .ref (al.2 62 j_5)), (0, .ref (al.2 49 0)), (1, .int lg), (2, .int cs)]) hx hb dX11_cause_32 hl (by decide) rfl (fun ls hl => ?_)
      refine lv_aload_n hx hb dX11_cause_34 rfl (lv_at hl 1 rfl) ?_
      refine lv_iload_n hx hb dX11_cause_35 rfl (lv_at hl 4 rfl) ?_
      refine p_62_14 C hU hS hb_13 fl_X11_136 dX11_cause_36 (fun iv_19 H locs ei_20 hU hS => ?_)
      have hG : GI al iv_19 rv := by rw [ei_20]; exact hG.puti (show _ ∧ _ from ⟨show (0 : Int) ≤ _ by omega, show _ ≤ (5 : Int) by omega⟩) (nsF (by decide))
      have hF1 : FR ([51], [(62, 14)]) iv iv_19 := by rw [ei_20]; exact hF1.put (by decide)
      refine lv_iload hx hb dX11_cause_39 (lv_at hl 0 rfl) ?_
      exact hret (⟨hG, hF1, hF2, Or.inl ⟨(by unfold spCause; (repeat' split) <;> first | rfl | omega), by rw [e_18, hq4.1], fun k => by rw [ei_20, hq4.1]; simp [up3]⟩⟩) hU hS dX11_cause_41
    ·
      refine lv_aload_n hx hb dX11_cause_22 rfl (lv_at hl 1 rfl) ?_
      refine lv_iconst (v := (-1)) hx hb dX11_cause_23 (by decide) ?_
      refine q_fi (q_runV (t := 49) (i := 0) (As := [.int (-1)]) (rest := []) C hU (c_X11_refuse hG (-1) (by omega)) vm_X11_refuse ml_X11_77 k_49.1 (hc := rfl) rfl (h1_49 hG) hl.1 rfl rfl (Nat.le_of_ble_eq_true rfl) dX11_cause_24 rfl rfl ⟨Nat.le_of_ble_eq_true rfl, Nat.le_of_ble_eq_true rfl⟩ ⟨Nat.le_refl _, Nat.le_refl _⟩) hS (fun x_26 iv_22 rv_23 H locs hG fa_24 fb_25 hp_21 hU hS => ?_)
      have hF1 := hF1.tr (m := ([51], [(62, 14)])) fa_24 (by decide)
      have hF2 := hF2.tr (m := ([51], [(62, 14)])) fb_25 (by decide)
      exact hret (⟨hG, hF1, hF2, sp_no (z := (-1)) (by unfold spCause; (repeat' split) <;> first | rfl | omega) (by decide) hp_21 (fun k => fa_24 62 k 14 (by decide))⟩) hU hS dX11_cause_27
