set_option maxHeartbeats 4000000 in
set_option maxRecDepth 100000 in
theorem c_X12_in {l : Launch} {D : va_G} {cA : FieldType → ClassId} {sz : Nat} {al : Al} {iv : Iv} {rv : Rv} (v : Int32) (lo : Int32) (hi : Int32) : Met l yX12_in (wd yX12_in cX12_in 3 (some .boolean)) (rm 0) (PcW D cA sz al iv rv [.int v, .int lo, .int hi]) (QI D cA sz al (pI iv rv (fun r => (0 ≤ r.toInt ∧ r.toInt ≤ 1) ∧ (((lo.toInt ≤ v.toInt ∧ v.toInt ≤ hi.toInt) ∧ r.toInt = 1) ∨ ((¬ (lo.toInt ≤ v.toInt ∧ v.toInt ≤ hi.toInt)) ∧ r.toInt = 0))))) 0 0 (Aq sz) := by
  refine mk_z (by decide) (Nat.le_of_ble_eq_true rfl) rfl ?_
  intro p e s m args below meth c ls Q H locs C hU hS hl hret
  have hx := C.1.1
  have hb := C.1.2.1
  have hl : lv_has ls 3 [(0, .int v), (1, .int lo), (2, .int hi)] := hl
  have k0 : (0 : Int32).toInt = 0 := by decide
  have k1 : (1 : Int32).toInt = 1 := by decide
  refine lv_iload_n hx hb dX12_in_0 rfl (lv_at hl 0 rfl) ?_
  refine lv_iload_n hx hb dX12_in_1 rfl (lv_at hl 1 rfl) ?_
  refine b_icmp_lt (tgt := 14) hx hb dX12_in_2 (by decide) (fun c_1 => ?_) (fun c_1 => ?_)
  ·
    refine lv_iconst (v := 0) hx hb dX12_in_14 (by decide) ?_
    exact hret (by omega) (by omega) (⟨rfl, rfl, ⟨⟨by omega, by omega⟩, by omega⟩⟩) hU hS dX12_in_15
  ·
    refine lv_iload_n hx hb dX12_in_5 rfl (lv_at hl 0 rfl) ?_
    refine lv_iload_n hx hb dX12_in_6 rfl (lv_at hl 2 rfl) ?_
    refine b_icmp_gt (tgt := 14) hx hb dX12_in_7 (by decide) (fun c_2 => ?_) (fun c_2 => ?_)
    ·
      refine lv_iconst (v := 0) hx hb dX12_in_14 (by decide) ?_
      exact hret (by omega) (by omega) (⟨rfl, rfl, ⟨⟨by omega, by omega⟩, by omega⟩⟩) hU hS dX12_in_15
    ·
      refine lv_iconst (v := 1) hx hb dX12_in_10 (by decide) ?_
      refine lv_goto (tgt := 15) hx hb dX12_in_11 (by decide) ?_
      exact hret (by omega) (by omega) (⟨rfl, rfl, ⟨⟨by omega, by omega⟩, by omega⟩⟩) hU hS dX12_in_15
set_option maxHeartbeats 4000000 in
set_option maxRecDepth 100000 in
theorem c_X12_isPort {l : Launch} {D : va_G} {cA : FieldType → ClassId} {sz : Nat} {al : Al} {iv : Iv} {rv : Rv} (v : Int32) : Met l yX12_isPort (wd yX12_isPort cX12_isPort 1 (some .boolean)) (rm 1) (PcW D cA sz al iv rv [.int v]) (QI D cA sz al (pI iv rv (fun r => (0 ≤ r.toInt ∧ r.toInt ≤ 1) ∧ (((0 ≤ (v : Int32).toInt ∧ (v : Int32).toInt ≤ 9) ∧ r.toInt = 1) ∨ ((¬ (0 ≤ (v : Int32).toInt ∧ (v : Int32).toInt ≤ 9)) ∧ r.toInt = 0))))) 0 0 (Aq sz) := by
  refine mk_z (by decide) (Nat.le_of_ble_eq_true rfl) rfl ?_
  intro p e s m args below meth c ls Q H locs C hU hS hl hret
  have hx := C.1.1
  have hb := C.1.2.1
  have hl : lv_has ls 1 [(0, .int v)] := hl
  have k0 : (0 : Int32).toInt = 0 := by decide
  have k9 : (9 : Int32).toInt = 9 := by decide
  refine lv_iload_n hx hb dX12_isPort_0 rfl (lv_at hl 0 rfl) ?_
  refine lv_iconst (v := 0) hx hb dX12_isPort_1 (by decide) ?_
  refine lv_bipush (v := 9) hx hb dX12_isPort_2 (by decide) ?_
  refine q_pi (q_runS (As := [.int v, .int 0, .int 9]) (rest := []) C hU (c_X12_in  v 0 9 ) sm_X12_in ml_X12_156 hl.1 rfl rfl (Nat.le_of_ble_eq_true rfl) dX12_isPort_4 rfl rfl ⟨Nat.le_of_ble_eq_true rfl, Nat.le_of_ble_eq_true rfl⟩ ⟨Nat.le_refl _, Nat.le_refl _⟩) hS (fun x_2 H locs hp_1 hU hS => ?_)
  exact hret (by omega) (by omega) (⟨rfl, rfl, ⟨⟨by omega, by omega⟩, by omega⟩⟩) hU hS dX12_isPort_7
set_option maxHeartbeats 4000000 in
set_option maxRecDepth 100000 in
theorem c_X12_isCause {l : Launch} {D : va_G} {cA : FieldType → ClassId} {sz : Nat} {al : Al} {iv : Iv} {rv : Rv} (v : Int32) : Met l yX12_isCause (wd yX12_isCause cX12_isCause 1 (some .boolean)) (rm 1) (PcW D cA sz al iv rv [.int v]) (QI D cA sz al (pI iv rv (fun r => (0 ≤ r.toInt ∧ r.toInt ≤ 1) ∧ (((0 ≤ (v : Int32).toInt ∧ (v : Int32).toInt ≤ 5) ∧ r.toInt = 1) ∨ ((¬ (0 ≤ (v : Int32).toInt ∧ (v : Int32).toInt ≤ 5)) ∧ r.toInt = 0))))) 0 0 (Aq sz) := by
  refine mk_z (by decide) (Nat.le_of_ble_eq_true rfl) rfl ?_
  intro p e s m args below meth c ls Q H locs C hU hS hl hret
  have hx := C.1.1
  have hb := C.1.2.1
  have hl : lv_has ls 1 [(0, .int v)] := hl
  have k0 : (0 : Int32).toInt = 0 := by decide
  have k5 : (5 : Int32).toInt = 5 := by decide
  refine lv_iload_n hx hb dX12_isCause_0 rfl (lv_at hl 0 rfl) ?_
  refine lv_iconst (v := 0) hx hb dX12_isCause_1 (by decide) ?_
  refine lv_iconst (v := 5) hx hb dX12_isCause_2 (by decide) ?_
  refine q_pi (q_runS (As := [.int v, .int 0, .int 5]) (rest := []) C hU (c_X12_in  v 0 5 ) sm_X12_in ml_X12_156 hl.1 rfl rfl (Nat.le_of_ble_eq_true rfl) dX12_isCause_3 rfl rfl ⟨Nat.le_of_ble_eq_true rfl, Nat.le_of_ble_eq_true rfl⟩ ⟨Nat.le_refl _, Nat.le_refl _⟩) hS (fun x_2 H locs hp_1 hU hS => ?_)
  exact hret (by omega) (by omega) (⟨rfl, rfl, ⟨⟨by omega, by omega⟩, by omega⟩⟩) hU hS dX12_isCause_6
set_option maxHeartbeats 4000000 in
set_option maxRecDepth 100000 in
theorem c_X12_isLand {l : Launch} {D : va_G} {cA : FieldType → ClassId} {sz : Nat} {al : Al} {iv : Iv} {rv : Rv} (v : Int32) : Met l yX12_isLand (wd yX12_isLand cX12_isLand 1 (some .boolean)) (rm 1) (PcW D cA sz al iv rv [.int v]) (QI D cA sz al (pI iv rv (fun r => (0 ≤ r.toInt ∧ r.toInt ≤ 1) ∧ (((0 ≤ (v : Int32).toInt ∧ (v : Int32).toInt ≤ 3) ∧ r.toInt = 1) ∨ ((¬ (0 ≤ (v : Int32).toInt ∧ (v : Int32).toInt ≤ 3)) ∧ r.toInt = 0))))) 0 0 (Aq sz) := by
  refine mk_z (by decide) (Nat.le_of_ble_eq_true rfl) rfl ?_
  intro p e s m args below meth c ls Q H locs C hU hS hl hret
  have hx := C.1.1
  have hb := C.1.2.1
  have hl : lv_has ls 1 [(0, .int v)] := hl
  have k0 : (0 : Int32).toInt = 0 := by decide
  have k3 : (3 : Int32).toInt = 3 := by decide
  refine lv_iload_n hx hb dX12_isLand_0 rfl (lv_at hl 0 rfl) ?_
  refine lv_iconst (v := 0) hx hb dX12_isLand_1 (by decide) ?_
  refine lv_iconst (v := 3) hx hb dX12_isLand_2 (by decide) ?_
  refine q_pi (q_runS (As := [.int v, .int 0, .int 3]) (rest := []) C hU (c_X12_in  v 0 3 ) sm_X12_in ml_X12_156 hl.1 rfl rfl (Nat.le_of_ble_eq_true rfl) dX12_isLand_3 rfl rfl ⟨Nat.le_of_ble_eq_true rfl, Nat.le_of_ble_eq_true rfl⟩ ⟨Nat.le_refl _, Nat.le_refl _⟩) hS (fun x_2 H locs hp_1 hU hS => ?_)
  exact hret (by omega) (by omega) (⟨rfl, rfl, ⟨⟨by omega, by omega⟩, by omega⟩⟩) hU hS dX12_isLand_6
set_option maxHeartbeats 4000000 in
set_option maxRecDepth 100000 in
theorem c_X12_isPayer {l : Launch} {D : va_G} {cA : FieldType → ClassId} {sz : Nat} {al : Al} {iv : Iv} {rv : Rv} (v : Int32) : Met l yX12_isPayer (wd yX12_isPayer cX12_isPayer 1 (some .boolean)) (rm 1) (PcW D cA sz al iv rv [.int v]) (QI D cA sz al (pI iv rv (fun r => (0 ≤ r.toInt ∧ r.toInt ≤ 1) ∧ (((0 ≤ (v : Int32).toInt ∧ (v : Int32).toInt ≤ 4) ∧ r.toInt = 1) ∨ ((¬ (0 ≤ (v : Int32).toInt ∧ (v : Int32).toInt ≤ 4)) ∧ r.toInt = 0))))) 0 0 (Aq sz) := by
  refine mk_z (by decide) (Nat.le_of_ble_eq_true rfl) rfl ?_
  intro p e s m args below meth c ls Q H locs C hU hS hl hret
  have hx := C.1.1
  have hb := C.1.2.1
  have hl : lv_has ls 1 [(0, .int v)] := hl
  have k0 : (0 : Int32).toInt = 0 := by decide
  have k4 : (4 : Int32).toInt = 4 := by decide
  refine lv_iload_n hx hb dX12_isPayer_0 rfl (lv_at hl 0 rfl) ?_
  refine lv_iconst (v := 0) hx hb dX12_isPayer_1 (by decide) ?_
  refine lv_iconst (v := 4) hx hb dX12_isPayer_2 (by decide) ?_
  refine q_pi (q_runS (As := [.int v, .int 0, .int 4]) (rest := []) C hU (c_X12_in  v 0 4 ) sm_X12_in ml_X12_156 hl.1 rfl rfl (Nat.le_of_ble_eq_true rfl) dX12_isPayer_3 rfl rfl ⟨Nat.le_of_ble_eq_true rfl, Nat.le_of_ble_eq_true rfl⟩ ⟨Nat.le_refl _, Nat.le_refl _⟩) hS (fun x_2 H locs hp_1 hU hS => ?_)
  exact hret (by omega) (by omega) (⟨rfl, rfl, ⟨⟨by omega, by omega⟩, by omega⟩⟩) hU hS dX12_isPayer_6
set_option maxHeartbeats 4000000 in
set_option maxRecDepth 100000 in
theorem c_X12_isLeg {l : Launch} {D : va_G} {cA : FieldType → ClassId} {sz : Nat} {al : Al} {iv : Iv} {rv : Rv} (hG : GI al iv rv) (v : Int32) : Met l yX12_isLeg (wd yX12_isLeg cX12_isLeg 2 (some .boolean)) (rm 1) (PcW D cA sz al iv rv [.ref (al.2 0 0), .int v]) (QI D cA sz al (pI iv rv (fun r => (0 ≤ r.toInt ∧ r.toInt ≤ 1) ∧ (((0 ≤ v.toInt ∧ v.toInt < (iv 0 0 6).toInt) ∧ r.toInt = 1) ∨ ((¬ (0 ≤ v.toInt ∧ v.toInt < (iv 0 0 6).toInt)) ∧ r.toInt = 0))))) 0 0 (Aq sz) := by
  refine mk_z (by decide) (Nat.le_of_ble_eq_true rfl) rfl ?_
  intro p e s m args below meth c ls Q H locs C hU hS hl hret
  have hx := C.1.1
  have hb := C.1.2.1
  have hl : lv_has ls 2 [(0, .ref (al.2 0 0)), (1, .int v)] := hl
  have hG0 := hG
  have h6 := le6 hG
  have h20 := le20 hG
  have h41 := le41 hG
  have k0 : (0 : Int32).toInt = 0 := by decide
  have k1 : (1 : Int32).toInt = 1 := by decide
  refine lv_iload_n hx hb dX12_isLeg_0 rfl (lv_at hl 1 rfl) ?_
  refine lv_iconst (v := 0) hx hb dX12_isLeg_1 (by decide) ?_
  refine lv_aload_n hx hb dX12_isLeg_2 rfl (lv_at hl 0 rfl) ?_
  refine g_0_6 C hU hG (h1_0 hG) fl_X12_160 dX12_isLeg_3 (fun x_1 e_2 le_2 ue_2 => ?_)
  have te_2 := congrArg Int32.toInt e_2
  refine lv_iconst (v := 1) hx hb dX12_isLeg_6 (by decide) ?_
  refine lv_isub hx hb dX12_isLeg_7 ?_
  refine lv_topi (fun x_3 e_4 => ?_)
  have te_4 : x_3.toInt = (x_1 : Int32).toInt - (1 : Int32).toInt := by rw [e_4]; exact fb_subI (by omega) (by omega)
  refine q_pi (q_runS (As := [.int v, .int 0, .int x_3]) (rest := []) C hU (c_X12_in  v 0 x_3 ) sm_X12_in ml_X12_156 hl.1 rfl rfl (Nat.le_of_ble_eq_true rfl) dX12_isLeg_8 rfl rfl ⟨Nat.le_of_ble_eq_true rfl, Nat.le_of_ble_eq_true rfl⟩ ⟨Nat.le_refl _, Nat.le_refl _⟩) hS (fun x_6 H locs hp_5 hU hS => ?_)
  exact hret (by omega) (by omega) (⟨rfl, rfl, ⟨⟨by omega, by omega⟩, by omega⟩⟩) hU hS dX12_isLeg_11
set_option maxHeartbeats 4000000 in
set_option maxRecDepth 100000 in
theorem c_X12_isTraveller {l : Launch} {D : va_G} {cA : FieldType → ClassId} {sz : Nat} {al : Al} {iv : Iv} {rv : Rv} (hG : GI al iv rv) (v : Int32) : Met l yX12_isTraveller (wd yX12_isTraveller cX12_isTraveller 2 (some .boolean)) (rm 1) (PcW D cA sz al iv rv [.ref (al.2 0 0), .int v]) (QI D cA sz al (pI iv rv (fun r => (0 ≤ r.toInt ∧ r.toInt ≤ 1) ∧ (((0 ≤ v.toInt ∧ v.toInt < (iv 0 0 20).toInt) ∧ r.toInt = 1) ∨ ((¬ (0 ≤ v.toInt ∧ v.toInt < (iv 0 0 20).toInt)) ∧ r.toInt = 0))))) 0 0 (Aq sz) := by
  refine mk_z (by decide) (Nat.le_of_ble_eq_true rfl) rfl ?_
  intro p e s m args below meth c ls Q H locs C hU hS hl hret
  have hx := C.1.1
  have hb := C.1.2.1
  have hl : lv_has ls 2 [(0, .ref (al.2 0 0)), (1, .int v)] := hl
  have hG0 := hG
  have h6 := le6 hG
  have h20 := le20 hG
  have h41 := le41 hG
  have k0 : (0 : Int32).toInt = 0 := by decide
  have k1 : (1 : Int32).toInt = 1 := by decide
  refine lv_iload_n hx hb dX12_isTraveller_0 rfl (lv_at hl 1 rfl) ?_
  refine lv_iconst (v := 0) hx hb dX12_isTraveller_1 (by decide) ?_
  refine lv_aload_n hx hb dX12_isTraveller_2 rfl (lv_at hl 0 rfl) ?_
  refine g_0_20 C hU hG (h1_0 hG) fl_X12_223 dX12_isTraveller_3 (fun x_1 e_2 le_2 ue_2 => ?_)
  have te_2 := congrArg Int32.toInt e_2
  refine lv_iconst (v := 1) hx hb dX12_isTraveller_6 (by decide) ?_
  refine lv_isub hx hb dX12_isTraveller_7 ?_
  refine lv_topi (fun x_3 e_4 => ?_)
  have te_4 : x_3.toInt = (x_1 : Int32).toInt - (1 : Int32).toInt := by rw [e_4]; exact fb_subI (by omega) (by omega)
  refine q_pi (q_runS (As := [.int v, .int 0, .int x_3]) (rest := []) C hU (c_X12_in  v 0 x_3 ) sm_X12_in ml_X12_156 hl.1 rfl rfl (Nat.le_of_ble_eq_true rfl) dX12_isTraveller_8 rfl rfl ⟨Nat.le_of_ble_eq_true rfl, Nat.le_of_ble_eq_true rfl⟩ ⟨Nat.le_refl _, Nat.le_refl _⟩) hS (fun x_6 H locs hp_5 hU hS => ?_)
  exact hret (by omega) (by omega) (⟨rfl, rfl, ⟨⟨by omega, by omega⟩, by omega⟩⟩) hU hS dX12_isTraveller_11
set_option maxHeartbeats 4000000 in
set_option maxRecDepth 100000 in
theorem c_X12_isClaim {l : Launch} {D : va_G} {cA : FieldType → ClassId} {sz : Nat} {al : Al} {iv : Iv} {rv : Rv} (hG : GI al iv rv) (v : Int32) : Met l yX12_isClaim (wd yX12_isClaim cX12_isClaim 2 (some .boolean)) (rm 1) (PcW D cA sz al iv rv [.ref (al.2 0 0), .int v]) (QI D cA sz al (pI iv rv (fun r => (0 ≤ r.toInt ∧ r.toInt ≤ 1) ∧ (((0 ≤ v.toInt ∧ v.toInt < (iv 0 0 41).toInt) ∧ r.toInt = 1) ∨ ((¬ (0 ≤ v.toInt ∧ v.toInt < (iv 0 0 41).toInt)) ∧ r.toInt = 0))))) 0 0 (Aq sz) := by
  refine mk_z (by decide) (Nat.le_of_ble_eq_true rfl) rfl ?_
  intro p e s m args below meth c ls Q H locs C hU hS hl hret
  have hx := C.1.1
  have hb := C.1.2.1
  have hl : lv_has ls 2 [(0, .ref (al.2 0 0)), (1, .int v)] := hl
  have hG0 := hG
  have h6 := le6 hG
  have h20 := le20 hG
  have h41 := le41 hG
  have k0 : (0 : Int32).toInt = 0 := by decide
  have k1 : (1 : Int32).toInt = 1 := by decide
  refine lv_iload_n hx hb dX12_isClaim_0 rfl (lv_at hl 1 rfl) ?_
  refine lv_iconst (v := 0) hx hb dX12_isClaim_1 (by decide) ?_
  refine lv_aload_n hx hb dX12_isClaim_2 rfl (lv_at hl 0 rfl) ?_
  refine g_0_41 C hU hG (h1_0 hG) fl_X12_275 dX12_isClaim_3 (fun x_1 e_2 le_2 ue_2 => ?_)
  have te_2 := congrArg Int32.toInt e_2
  refine lv_iconst (v := 1) hx hb dX12_isClaim_6 (by decide) ?_
  refine lv_isub hx hb dX12_isClaim_7 ?_
  refine lv_topi (fun x_3 e_4 => ?_)
  have te_4 : x_3.toInt = (x_1 : Int32).toInt - (1 : Int32).toInt := by rw [e_4]; exact fb_subI (by omega) (by omega)
  refine q_pi (q_runS (As := [.int v, .int 0, .int x_3]) (rest := []) C hU (c_X12_in  v 0 x_3 ) sm_X12_in ml_X12_156 hl.1 rfl rfl (Nat.le_of_ble_eq_true rfl) dX12_isClaim_8 rfl rfl ⟨Nat.le_of_ble_eq_true rfl, Nat.le_of_ble_eq_true rfl⟩ ⟨Nat.le_refl _, Nat.le_refl _⟩) hS (fun x_6 H locs hp_5 hU hS => ?_)
  exact hret (by omega) (by omega) (⟨rfl, rfl, ⟨⟨by omega, by omega⟩, by omega⟩⟩) hU hS dX12_isClaim_11
set_option maxHeartbeats 4000000 in
set_option maxRecDepth 100000 in
theorem c_X12_over {l : Launch} {D : va_G} {cA : FieldType → ClassId} {sz : Nat} {al : Al} {iv : Iv} {rv : Rv} (v : Int32) : Met l yX12_over (wd yX12_over cX12_over 1 (some .int)) (rm 0) (PcW D cA sz al iv rv [.int v]) (QI D cA sz al (pI iv rv (fun r => (0 ≤ r.toInt ∧ r.toInt ≤ 2147483647) ∧ (r = oF v)))) 0 0 (Aq sz) := by
  refine mk_i (by decide) (Nat.le_of_ble_eq_true rfl) rfl ?_
  intro p e s m args below meth c ls Q H locs C hU hS hl hret
  have hx := C.1.1
  have hb := C.1.2.1
  have hl : lv_has ls 1 [(0, .int v)] := hl
  have k0 : (0 : Int32).toInt = 0 := by decide
  refine lv_iload_n hx hb dX12_over_0 rfl (lv_at hl 0 rfl) ?_
  refine b_if_ge (tgt := 8) hx hb dX12_over_1 (by decide) (fun c_1 => ?_) (fun c_1 => ?_)
  ·
    refine lv_iload_n hx hb dX12_over_8 rfl (lv_at hl 0 rfl) ?_
    exact hret (⟨rfl, rfl, ⟨⟨by omega, Int.le_of_lt_add_one (fb_rng _).2⟩, by unfold oF; split <;> first | rfl | omega⟩⟩) hU hS dX12_over_9
  ·
    refine lv_iconst (v := 0) hx hb dX12_over_4 (by decide) ?_
    refine lv_goto (tgt := 9) hx hb dX12_over_5 (by decide) ?_
    exact hret (⟨rfl, rfl, ⟨⟨by omega, Int.le_of_lt_add_one (fb_rng _).2⟩, by unfold oF; split <;> first | rfl | omega⟩⟩) hU hS dX12_over_9
set_option maxHeartbeats 4000000 in
set_option maxRecDepth 100000 in
theorem c_X12_lesser {l : Launch} {D : va_G} {cA : FieldType → ClassId} {sz : Nat} {al : Al} {iv : Iv} {rv : Rv} (a : Int32) (b : Int32) : Met l yX12_lesser (wd yX12_lesser cX12_lesser 2 (some .int)) (rm 0) (PcW D cA sz al iv rv [.int a, .int b]) (QI D cA sz al (pI iv rv (fun r => r = lsF a b ∧ r.toInt ≤ a.toInt ∧ r.toInt ≤ b.toInt ∧ (r.toInt = a.toInt ∨ r.toInt = b.toInt)))) 0 0 (Aq sz) := by
  refine mk_i (by decide) (Nat.le_of_ble_eq_true rfl) rfl ?_
  intro p e s m args below meth c ls Q H locs C hU hS hl hret
  have hx := C.1.1
  have hb := C.1.2.1
  have hl : lv_has ls 2 [(0, .int a), (1, .int b)] := hl
  refine lv_iload_n hx hb dX12_lesser_0 rfl (lv_at hl 0 rfl) ?_
  refine lv_iload_n hx hb dX12_lesser_1 rfl (lv_at hl 1 rfl) ?_
  refine b_icmp_ge (tgt := 9) hx hb dX12_lesser_2 (by decide) (fun c_1 => ?_) (fun c_1 => ?_)
  ·
    refine lv_iload_n hx hb dX12_lesser_9 rfl (lv_at hl 1 rfl) ?_
    exact hret (⟨rfl, rfl, ⟨by unfold lsF; split <;> first | rfl | omega, by omega, by omega, by omega⟩⟩) hU hS dX12_lesser_10
  ·
    refine lv_iload_n hx hb dX12_lesser_5 rfl (lv_at hl 0 rfl) ?_
    refine lv_goto (tgt := 10) hx hb dX12_lesser_6 (by decide) ?_
    exact hret (⟨rfl, rfl, ⟨by unfold lsF; split <;> first | rfl | omega, by omega, by omega, by omega⟩⟩) hU hS dX12_lesser_10
set_option maxHeartbeats 4000000 in
set_option maxRecDepth 100000 in
theorem c_X12_amount {l : Launch} {D : va_G} {cA : FieldType → ClassId} {sz : Nat} {al : Al} {iv : Iv} {rv : Rv} (v : Int32) : Met l yX12_amount (wd yX12_amount cX12_amount 1 (some .int)) (rm 0) (PcW D cA sz al iv rv [.int v]) (QI D cA sz al (pI iv rv (fun r => True))) 0 0 (Aq sz) := by
  refine mk_i (by decide) (Nat.le_of_ble_eq_true rfl) rfl ?_
  intro p e s m args below meth c ls Q H locs C hU hS hl hret
  have hx := C.1.1
  have hb := C.1.2.1
  have hl : lv_has ls 1 [(0, .int v)] := hl
  refine lv_iload_n hx hb dX12_amount_0 rfl (lv_at hl 0 rfl) ?_
  refine b_if_ge (tgt := 9) hx hb dX12_amount_1 (by decide) (fun c_1 => ?_) (fun c_1 => ?_)
  ·
    refine lv_iload_n hx hb dX12_amount_9 rfl (lv_at hl 0 rfl) ?_
    exact hret (⟨rfl, rfl, trivial⟩) hU hS dX12_amount_10
  ·
    refine lv_iload_n hx hb dX12_amount_4 rfl (lv_at hl 0 rfl) ?_
    refine lv_ineg hx hb dX12_amount_5 ?_
    refine lv_topi (fun x_2 e_3 => ?_)
    refine lv_goto (tgt := 10) hx hb dX12_amount_6 (by decide) ?_
    exact hret (⟨rfl, rfl, trivial⟩) hU hS dX12_amount_10
set_option maxHeartbeats 4000000 in
set_option maxRecDepth 100000 in
theorem c_X12_refuse {l : Launch} {D : va_G} {cA : FieldType → ClassId} {sz : Nat} {al : Al} {iv : Iv} {rv : Rv} (hG : GI al iv rv) (what : Int32) (pre0 : -6 ≤ what.toInt ∧ what.toInt ≤ -1) : Met l yX12_refuse (wd yX12_refuse cX12_refuse 2 (some .int)) (rm 0) (PcW D cA sz al iv rv [.ref (al.2 0 0), .int what]) (QI D cA sz al (fI al ([16], []) iv rv (fun r iv' rv' => r = what))) 0 0 (Aq sz) := by
  refine mk_i (by decide) (Nat.le_of_ble_eq_true rfl) rfl ?_
  intro p e s m args below meth c ls Q H locs C hU hS hl hret
  have hx := C.1.1
  have hb := C.1.2.1
  have hl : lv_has ls 2 [(0, .ref (al.2 0 0)), (1, .int what)] := hl
  have hG0 := hG
  have h6 := le6 hG
  have h20 := le20 hG
  have h41 := le41 hG
  have hF1 : FR ([16], []) iv iv := FR.rf
  have hF2 : FR ([16], []) rv rv := FR.rf
  have k1 : (1 : Int32).toInt = 1 := by decide
  refine lv_aload_n hx hb dX12_refuse_0 rfl (lv_at hl 0 rfl) ?_
  refine g_0_18 C hU hG (h1_0 hG) fl_X12_56 dX12_refuse_1 ?_
  refine lv_iload_n hx hb dX12_refuse_4 rfl (lv_at hl 1 rfl) ?_
  refine lv_ineg hx hb dX12_refuse_5 ?_
  refine lv_topi (fun x_1 e_2 => ?_)
  have te_2 : x_1.toInt = -(what : Int32).toInt := by rw [e_2]; exact fb_negI (by omega)
  refine lv_dup2_11 hx hb dX12_refuse_6 rfl rfl ?_
  refine a_16 C hU hG (h1_16 hG) (x := x_1) (by omega) (by omega) dX12_refuse_7 (fun x_3 e_4 => ?_)
  have te_4 := congrArg Int32.toInt e_4
  refine lv_iconst (v := 1) hx hb dX12_refuse_8 (by decide) ?_
  refine lv_iadd hx hb dX12_refuse_9 ?_
  refine lv_topi (fun x_5 e_6 => ?_)
  refine s_16 C hU hS (h1_16 hG) (x := x_1) (by omega) (by omega) dX12_refuse_10 (fun iv_7 H locs ei_8 hU hS => ?_)
  have hG : GI al iv_7 rv := by rw [ei_8]; exact hG.puti (show _ ∧ _ from ⟨(fb_rng _).1, Int.le_of_lt_add_one (fb_rng _).2⟩) (nsA (by decide) _)
  have hF1 : FR ([16], []) iv iv_7 := by rw [ei_8]; exact hF1.put (Or.inl (by decide))
  refine lv_iload_n hx hb dX12_refuse_11 rfl (lv_at hl 1 rfl) ?_
  exact hret (⟨hG, hF1, hF2, rfl⟩) hU hS dX12_refuse_12
set_option maxHeartbeats 4000000 in
set_option maxRecDepth 100000 in
theorem c_X12_refuseFar {l : Launch} {D : va_G} {cA : FieldType → ClassId} {sz : Nat} {al : Al} {iv : Iv} {rv : Rv} (hG : GI al iv rv) (what : Int32) (pre0 : -6 ≤ what.toInt ∧ what.toInt ≤ -1) : Met l yX12_refuseFar (wd yX12_refuseFar cX12_refuseFar 2 (some .int)) (rm 0) (PcW D cA sz al iv rv [.ref (al.2 0 0), .int what]) (QI D cA sz al (fI al ([16], []) iv rv (fun r iv' rv' => True))) 0 0 (Aq sz) := by
  refine mk_i (by decide) (Nat.le_of_ble_eq_true rfl) rfl ?_
  intro p e s m args below meth c ls Q H locs C hU hS hl hret
  have hx := C.1.1
  have hb := C.1.2.1
  have hl : lv_has ls 2 [(0, .ref (al.2 0 0)), (1, .int what)] := hl
  have hG0 := hG
  have h6 := le6 hG
  have h20 := le20 hG
  have h41 := le41 hG
  have hF1 : FR ([16], []) iv iv := FR.rf
  have hF2 : FR ([16], []) rv rv := FR.rf
  have k1 : (1 : Int32).toInt = 1 := by decide
  have k1000000000 : (1000000000 : Int32).toInt = 1000000000 := by decide
  refine lv_aload_n hx hb dX12_refuseFar_0 rfl (lv_at hl 0 rfl) ?_
  refine g_0_18 C hU hG (h1_0 hG) fl_X12_56 dX12_refuseFar_1 ?_
  refine lv_iload_n hx hb dX12_refuseFar_4 rfl (lv_at hl 1 rfl) ?_
  refine lv_ineg hx hb dX12_refuseFar_5 ?_
  refine lv_topi (fun x_1 e_2 => ?_)
  have te_2 : x_1.toInt = -(what : Int32).toInt := by rw [e_2]; exact fb_negI (by omega)
  refine lv_dup2_11 hx hb dX12_refuseFar_6 rfl rfl ?_
  refine a_16 C hU hG (h1_16 hG) (x := x_1) (by omega) (by omega) dX12_refuseFar_7 (fun x_3 e_4 => ?_)
  have te_4 := congrArg Int32.toInt e_4
  refine lv_iconst (v := 1) hx hb dX12_refuseFar_8 (by decide) ?_
  refine lv_iadd hx hb dX12_refuseFar_9 ?_
  refine lv_topi (fun x_5 e_6 => ?_)
  refine s_16 C hU hS (h1_16 hG) (x := x_1) (by omega) (by omega) dX12_refuseFar_10 (fun iv_7 H locs ei_8 hU hS => ?_)
  have hG : GI al iv_7 rv := by rw [ei_8]; exact hG.puti (show _ ∧ _ from ⟨(fb_rng _).1, Int.le_of_lt_add_one (fb_rng _).2⟩) (nsA (by decide) _)
  have hF1 : FR ([16], []) iv iv_7 := by rw [ei_8]; exact hF1.put (Or.inl (by decide))
  refine lv_ldc (v := 1000000000) hx hb C.1.2.2.2.1 (C.1.2.2.2.2 _ ct_X12_155) dX12_refuseFar_11 ?_
  refine lv_iload_n hx hb dX12_refuseFar_13 rfl (lv_at hl 1 rfl) ?_
  refine lv_isub hx hb dX12_refuseFar_14 ?_
  refine lv_topi (fun x_9 e_10 => ?_)
  have te_10 : x_9.toInt = (1000000000 : Int32).toInt - (what : Int32).toInt := by rw [e_10]; exact fb_subI (by omega) (by omega)
  exact hret (⟨hG, hF1, hF2, trivial⟩) hU hS dX12_refuseFar_15
