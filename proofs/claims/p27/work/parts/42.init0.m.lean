section
theorem oi_X11 : Cond.methodLink RX11 1 Lib.objectInit ∈ BW := bw 74 (by decide +kernel) rfl
theorem oi_m : Cond.instanceMethod Lib.objectInit ∈ BW := bw 75 (by decide +kernel) rfl
theorem oi_c : Cond.code Lib.objectInit ⟨#[0xb1]⟩ 1 none ∈ BW := bw 76 rfl rfl
theorem oi_X7 : Cond.methodLink RX7 1 Lib.objectInit ∈ BW := bw 82 (by decide +kernel) rfl
theorem oi_X6 : Cond.methodLink RX6 1 Lib.objectInit ∈ BW := bw 89 (by decide +kernel) rfl
theorem oi_X10 : Cond.methodLink RX10 3 Lib.objectInit ∈ BW := bw 127 (by decide +kernel) rfl
theorem oi_X9 : Cond.methodLink RX9 1 Lib.objectInit ∈ BW := bw 154 (by decide +kernel) rfl
theorem oi_X4 : Cond.methodLink RX4 3 Lib.objectInit ∈ BW := bw 170 (by decide +kernel) rfl
theorem oi_X0 : Cond.methodLink RX0 3 Lib.objectInit ∈ BW := bw 214 (by decide +kernel) rfl
theorem oi_X3 : Cond.methodLink RX3 3 Lib.objectInit ∈ BW := bw 240 (by decide +kernel) rfl
theorem oi_X1 : Cond.methodLink RX1 3 Lib.objectInit ∈ BW := bw 264 (by decide +kernel) rfl
theorem oi_X5 : Cond.methodLink RX5 1 Lib.objectInit ∈ BW := bw 422 (by decide +kernel) rfl
theorem oi_X8 : Cond.methodLink RX8 3 Lib.objectInit ∈ BW := bw 591 (by decide +kernel) rfl
theorem oi_X2 : Cond.methodLink RX2 3 Lib.objectInit ∈ BW := bw 787 (by decide +kernel) rfl
theorem oi_X12 : Cond.methodLink RX12 1 Lib.objectInit ∈ BW := bw 941 (by decide +kernel) rfl
theorem EXT.fr {N : Nat → Nat} {M a : Mo} {al al1 : Al} {iv iv1 iv2 : Iv} {rv rv1 : Rv} (h : EXT N M al iv rv al1 iv1 rv1) (g : FR a iv1 iv2) (hs : subM a M) : EXT N M al iv rv al1 iv2 rv1 := by
  obtain ⟨h1, h2, h3, h4⟩ := h
  refine ⟨h1, h2, fun t i k q m => ?_, fun t i k q1 q2 m => ?_⟩
  · rw [g t i k (fun w => m (w.sub hs))]; exact h3 t i k q m
  · rw [g t i k (fun w => m (w.sub hs))]; exact h4 t i k q1 q2 m
section MKB
variable {l : Launch} {cc : ByteArray} {nL : Nat} {own : String} {D : va_G} {cA : FieldType → ClassId} {sz : Nat} {al : Al} {iv : Iv} {rv : Rv}
theorem mk_b {y : MethodName} {rmm : Room} {vs : List Value} {X : State → Prop} {post : Al → Iv → Rv → Prop} {mc ms : Nat} (hy : plainName y.cls = true) (hn : (lg_sl vs).length ≤ nL) (ho : y.cls = own)
    (body : ∀ (p : Program) (e : Env) (s : State) (m : MethodId) (args : Array Value) (below : List Frame) (meth : Method) (c : Code) (ls : Array Slot) (Q : State → Prop), Cx p s m args c cc nL own D cA → meth.name = y.name → UW D cA sz al iv rv s.heap → va_S (Aq sz) s.heap s.heap [] → sz ≤ s.heap.size → X s → lv_has ls nL (lv_args 0 vs) →
      (∀ {al' : Al} {iv' : Iv} {rv' : Rv} {H : Heap} {locs : List Loc} {pc : Nat} {ls : Array Slot}, post al' iv' rv' → UW D cA sz al' iv' rv' H → va_S (Aq sz) s.heap H locs → decode cc pc = .ok (.return_, 1) → W p l e rmm s m args below meth c H locs mc ms Q (F0 m pc ls [])) →
      W p l e rmm s m args below meth c s.heap [] 0 0 Q (F0 m 0 ls [])) :
    Met l y (wd y cc nL none) rmm (PcA D cA sz al iv rv vs X) (QVA D cA sz post) mc ms (Aq sz) :=
  mk_a hy hn ho (fun p e s m below meth c ls C hr hlk hnm hU hS hz hX hl => body p e s m _ below meth c ls _ C hnm hU hS hz hX hl (fun hp hU hS hdg => q_vretA C hr hlk hU hS hp hdg))
end MKB
set_option maxHeartbeats 4000000 in
set_option maxRecDepth 100000 in
theorem c_X6_init {l : Launch} {D : va_G} {cA : FieldType → ClassId} {sz : Nat} {al : Al} {iv : Iv} {rv : Rv} (hR : RG al iv) (hB : RB al rv) (i0 : Nat) (hi0 : i0 < al.1 56) (num : Int32) : Met l yX6_init (wd yX6_init cX6_init 2 none) (rmA 1 0 0) (PcA D cA sz al iv rv [.ref (al.2 56 i0), .int num] (fun _ => True)) (QVA D cA sz (fun al' iv' rv' => al' = al ∧ iv' = (up3 (up3 iv 56 i0 0 num) 56 i0 2 num) ∧ rv' = rv)) 0 0 (Aq sz) := by
  refine mk_a (by decide) (Nat.le_of_ble_eq_true rfl) rfl ?_
  intro p e s m below meth c ls C hr hlk hnm hU hS hz _ hl
  have hx := C.1.1
  have hb := C.1.2.1
  obtain ⟨o, ho_o⟩ : ∃ z, al.2 56 i0 = z := ⟨_, rfl⟩
  have hi_o := hi0
  have hl : lv_has ls 2 [(0, .ref o), (1, .int num)] := by rw [← ho_o]; exact hl
  have hE : EXT (fun _ => 0) ([], [(56, 0), (56, 2)]) al iv rv al iv rv := EXT.rf
  have hN : NN 56 i0 [] rv := NN.nil
  have hz0 := hz
  refine lv_aload_n hx hb dX6_init_0 rfl (lv_at hl 0 rfl) ?_
  refine W.objInit hx hb C.1.2.2.2.1 (C.1.2.2.2.2 _ oi_X6) (C.1.2.2.2.2 _ oi_m) (C.1.2.2.2.2 _ oi_c) rfl (by rw [C.1.2.2.1]; exact hl.1) rfl dX6_init_1 (Nat.le_of_ble_eq_true rfl) (Nat.le_of_ble_eq_true rfl) ?_
  refine W.eq (g2 := F0 m 4 ls []) rfl ?_
  refine lv_aload_n hx hb dX6_init_4 rfl (lv_at hl 0 rfl) ?_
  refine lv_iload_n hx hb dX6_init_5 rfl (lv_at hl 1 rfl) ?_
  refine W.eq (g2 := F0 m 6 ls [.int num, .ref (al.2 56 i0)]) (by rw [ho_o]) ?_
  refine q_puti (t := 56) (i := i0) (k := 0) C hU hS k_56 (hc := rfl) uwX6 tyX6 tyX6_ok nmX6 hi_o (by decide) rfl (Or.inr ⟨rfl, hnm, rfl⟩) rfl fl_X6_7 dX6_init_6 rfl rfl (fun H locs hU hS => ?_)
  have hz : sz ≤ H.size := Nat.le_trans hz0 hS.1
  obtain ⟨iv_1, ei_2⟩ : ∃ z, z = up3 iv 56 i0 0 num := ⟨_, rfl⟩
  rw [← ei_2] at hU
  refine lv_aload_n hx hb dX6_init_9 rfl (lv_at hl 0 rfl) ?_
  refine lv_iload_n hx hb dX6_init_10 rfl (lv_at hl 1 rfl) ?_
  refine W.eq (g2 := F0 m 11 ls [.int num, .ref (al.2 56 i0)]) (by rw [ho_o]) ?_
  refine q_puti (t := 56) (i := i0) (k := 2) C hU hS k_56 (hc := rfl) uwX6 tyX6 tyX6_ok nmX6 hi_o (by decide) rfl (Or.inl rfl) rfl fl_X6_13 dX6_init_11 rfl rfl (fun H locs hU hS => ?_)
  have hz : sz ≤ H.size := Nat.le_trans hz0 hS.1
  obtain ⟨iv_3, ei_4⟩ : ∃ z, z = up3 iv_1 56 i0 2 num := ⟨_, rfl⟩
  rw [← ei_4] at hU
  exact q_vretA C hr hlk hU hS (⟨rfl, by rw [ei_4, ei_2], rfl⟩) dX6_init_14
set_option maxHeartbeats 4000000 in
set_option maxRecDepth 100000 in
theorem c_X5_init {l : Launch} {D : va_G} {cA : FieldType → ClassId} {sz : Nat} {al : Al} {iv : Iv} {rv : Rv} (hR : RG al iv) (hB : RB al rv) (i0 : Nat) (hi0 : i0 < al.1 62) (num : Int32) (pf : Nat) (hpf : pf < al.1 56) (pt_ : Nat) (hpt_ : pt_ < al.1 56) (pl : Int32) (cr : Int32) (lv_ : Int32) (ar : Int32) : Met l yX5_init (wd yX5_init cX5_init 8 none) (rmA 1 0 0) (PcA D cA sz al iv rv [.ref (al.2 62 i0), .int num, .ref (al.2 56 pf), .ref (al.2 56 pt_), .int pl, .int cr, .int lv_, .int ar] (fun _ => True)) (QVA D cA sz (fun al' iv' rv' => al' = al ∧ iv' = (up3 (up3 (up3 (up3 (up3 iv 62 i0 0 num) 62 i0 3 pl) 62 i0 4 cr) 62 i0 5 lv_) 62 i0 6 ar) ∧ rv' = (up3 (up3 rv 62 i0 1 (some pf)) 62 i0 2 (some pt_)))) 0 0 (Aq sz) := by
  refine mk_a (by decide) (Nat.le_of_ble_eq_true rfl) rfl ?_
  intro p e s m below meth c ls C hr hlk hnm hU hS hz _ hl
  have hx := C.1.1
  have hb := C.1.2.1
  obtain ⟨o, ho_o⟩ : ∃ z, al.2 62 i0 = z := ⟨_, rfl⟩
  have hi_o := hi0
  obtain ⟨opf, ho_opf⟩ : ∃ z, al.2 56 pf = z := ⟨_, rfl⟩
  have hi_opf := hpf
  obtain ⟨opt_, ho_opt_⟩ : ∃ z, al.2 56 pt_ = z := ⟨_, rfl⟩
  have hi_opt_ := hpt_
  have hl : lv_has ls 8 [(0, .ref o), (1, .int num), (2, .ref opf), (3, .ref opt_), (4, .int pl), (5, .int cr), (6, .int lv_), (7, .int ar)] := by rw [← ho_o, ← ho_opf, ← ho_opt_]; exact hl
  have hE : EXT (fun _ => 0) ([], [(62, 0), (62, 1), (62, 2), (62, 3), (62, 4), (62, 5), (62, 6)]) al iv rv al iv rv := EXT.rf
  have hN : NN 62 i0 [] rv := NN.nil
  have hz0 := hz
  refine lv_aload_n hx hb dX5_init_0 rfl (lv_at hl 0 rfl) ?_
  refine W.objInit hx hb C.1.2.2.2.1 (C.1.2.2.2.2 _ oi_X5) (C.1.2.2.2.2 _ oi_m) (C.1.2.2.2.2 _ oi_c) rfl (by rw [C.1.2.2.1]; exact hl.1) rfl dX5_init_1 (Nat.le_of_ble_eq_true rfl) (Nat.le_of_ble_eq_true rfl) ?_
  refine W.eq (g2 := F0 m 4 ls []) rfl ?_
  refine lv_aload_n hx hb dX5_init_4 rfl (lv_at hl 0 rfl) ?_
  refine lv_iload_n hx hb dX5_init_5 rfl (lv_at hl 1 rfl) ?_
  refine W.eq (g2 := F0 m 6 ls [.int num, .ref (al.2 62 i0)]) (by rw [ho_o]) ?_
  refine q_puti (t := 62) (i := i0) (k := 0) C hU hS k_62 (hc := rfl) uwX5 tyX5 tyX5_ok nmX5 hi_o (by decide) rfl (Or.inr ⟨rfl, hnm, rfl⟩) rfl fl_X5_7 dX5_init_6 rfl rfl (fun H locs hU hS => ?_)
  have hz : sz ≤ H.size := Nat.le_trans hz0 hS.1
  obtain ⟨iv_1, ei_2⟩ : ∃ z, z = up3 iv 62 i0 0 num := ⟨_, rfl⟩
  rw [← ei_2] at hU
  refine lv_aload_n hx hb dX5_init_9 rfl (lv_at hl 0 rfl) ?_
  refine lv_aload_n hx hb dX5_init_10 rfl (lv_at hl 2 rfl) ?_
  refine W.eq (g2 := F0 m 11 ls [.ref (al.2 56 pf), .ref (al.2 62 i0)]) (by rw [ho_opf, ho_o]) ?_
  refine q_putr (t := 62) (i := i0) (k := 1) (t' := 56) (j := pf) C hU hS k_62 (hc := rfl) uwX5 tyX5 tyX5_ok nmX5 hi_o (by decide) rfl (Or.inr ⟨rfl, hnm, rfl⟩) rfl fl_X5_13 dX5_init_11 (fun _ => rfl) (fun _ => rfl) (fun H locs hU hS => ?_)
  have hz : sz ≤ H.size := Nat.le_trans hz0 hS.1
  obtain ⟨rv_3, er_4⟩ : ∃ z, z = up3 rv 62 i0 1 (some pf) := ⟨_, rfl⟩
  rw [← er_4] at hU
  refine lv_aload_n hx hb dX5_init_14 rfl (lv_at hl 0 rfl) ?_
  refine lv_aload_n hx hb dX5_init_15 rfl (lv_at hl 3 rfl) ?_
  refine W.eq (g2 := F0 m 16 ls [.ref (al.2 56 pt_), .ref (al.2 62 i0)]) (by rw [ho_opt_, ho_o]) ?_
  refine q_putr (t := 62) (i := i0) (k := 2) (t' := 56) (j := pt_) C hU hS k_62 (hc := rfl) uwX5 tyX5 tyX5_ok nmX5 hi_o (by decide) rfl (Or.inr ⟨rfl, hnm, rfl⟩) rfl fl_X5_17 dX5_init_16 (fun _ => rfl) (fun _ => rfl) (fun H locs hU hS => ?_)
  have hz : sz ≤ H.size := Nat.le_trans hz0 hS.1
  obtain ⟨rv_5, er_6⟩ : ∃ z, z = up3 rv_3 62 i0 2 (some pt_) := ⟨_, rfl⟩
  rw [← er_6] at hU
  refine lv_aload_n hx hb dX5_init_19 rfl (lv_at hl 0 rfl) ?_
  refine lv_iload hx hb dX5_init_20 (lv_at hl 4 rfl) ?_
  refine W.eq (g2 := F0 m 22 ls [.int pl, .ref (al.2 62 i0)]) (by rw [ho_o]) ?_
  refine q_puti (t := 62) (i := i0) (k := 3) C hU hS k_62 (hc := rfl) uwX5 tyX5 tyX5_ok nmX5 hi_o (by decide) rfl (Or.inr ⟨rfl, hnm, rfl⟩) rfl fl_X5_20 dX5_init_22 rfl rfl (fun H locs hU hS => ?_)
  have hz : sz ≤ H.size := Nat.le_trans hz0 hS.1
  obtain ⟨iv_7, ei_8⟩ : ∃ z, z = up3 iv_1 62 i0 3 pl := ⟨_, rfl⟩
  rw [← ei_8] at hU
  refine lv_aload_n hx hb dX5_init_25 rfl (lv_at hl 0 rfl) ?_
  refine lv_iload hx hb dX5_init_26 (lv_at hl 5 rfl) ?_
  refine W.eq (g2 := F0 m 28 ls [.int cr, .ref (al.2 62 i0)]) (by rw [ho_o]) ?_
  refine q_puti (t := 62) (i := i0) (k := 4) C hU hS k_62 (hc := rfl) uwX5 tyX5 tyX5_ok nmX5 hi_o (by decide) rfl (Or.inr ⟨rfl, hnm, rfl⟩) rfl fl_X5_23 dX5_init_28 rfl rfl (fun H locs hU hS => ?_)
  have hz : sz ≤ H.size := Nat.le_trans hz0 hS.1
  obtain ⟨iv_9, ei_10⟩ : ∃ z, z = up3 iv_7 62 i0 4 cr := ⟨_, rfl⟩
  rw [← ei_10] at hU
  refine lv_aload_n hx hb dX5_init_31 rfl (lv_at hl 0 rfl) ?_
  refine lv_iload hx hb dX5_init_32 (lv_at hl 6 rfl) ?_
  refine W.eq (g2 := F0 m 34 ls [.int lv_, .ref (al.2 62 i0)]) (by rw [ho_o]) ?_
  refine q_puti (t := 62) (i := i0) (k := 5) C hU hS k_62 (hc := rfl) uwX5 tyX5 tyX5_ok nmX5 hi_o (by decide) rfl (Or.inr ⟨rfl, hnm, rfl⟩) rfl fl_X5_26 dX5_init_34 rfl rfl (fun H locs hU hS => ?_)
  have hz : sz ≤ H.size := Nat.le_trans hz0 hS.1
  obtain ⟨iv_11, ei_12⟩ : ∃ z, z = up3 iv_9 62 i0 5 lv_ := ⟨_, rfl⟩
  rw [← ei_12] at hU
  refine lv_aload_n hx hb dX5_init_37 rfl (lv_at hl 0 rfl) ?_
  refine lv_iload hx hb dX5_init_38 (lv_at hl 7 rfl) ?_
  refine W.eq (g2 := F0 m 40 ls [.int ar, .ref (al.2 62 i0)]) (by rw [ho_o]) ?_
  refine q_puti (t := 62) (i := i0) (k := 6) C hU hS k_62 (hc := rfl) uwX5 tyX5 tyX5_ok nmX5 hi_o (by decide) rfl (Or.inr ⟨rfl, hnm, rfl⟩) rfl fl_X5_29 dX5_init_40 rfl rfl (fun H locs hU hS => ?_)
  have hz : sz ≤ H.size := Nat.le_trans hz0 hS.1
  obtain ⟨iv_13, ei_14⟩ : ∃ z, z = up3 iv_11 62 i0 6 ar := ⟨_, rfl⟩
  rw [← ei_14] at hU
  exact q_vretA C hr hlk hU hS (⟨rfl, by rw [ei_14, ei_12, ei_10, ei_8, ei_2], by rw [er_6, er_4]⟩) dX5_init_43
set_option maxHeartbeats 4000000 in
set_option maxRecDepth 100000 in
theorem c_X10_init {l : Launch} {D : va_G} {cA : FieldType → ClassId} {sz : Nat} {al : Al} {iv : Iv} {rv : Rv} (hR : RG al iv) (hB : RB al rv) (i0 : Nat) (hi0 : i0 < al.1 57) : Met l yX10_init (wd yX10_init cX10_init 1 none) (rmA 1 4 126) (PcA D cA sz al iv rv [.ref (al.2 57 i0)] (fun _ => True)) (QVA D cA sz (fun al' iv' rv' => RG al' iv' ∧ RB al' rv' ∧ EXT (nx (nx (nx (nx (fun _ => 0) 58) 59) 60) 61) ([], [(57, 0), (57, 2), (57, 3), (57, 4)]) al iv rv al' iv' rv' ∧ NN 57 i0 [4, 3, 2, 0] rv')) 4 126 (Aq sz) := by
  refine mk_a (by decide) (Nat.le_of_ble_eq_true rfl) rfl ?_
  intro p e s m below meth c ls C hr hlk hnm hU hS hz _ hl
  have hx := C.1.1
  have hb := C.1.2.1
  have k6 : (6 : Int32).toInt = 6 := by decide
  have k40 : (40 : Int32).toInt = 40 := by decide
  obtain ⟨o, ho_o⟩ : ∃ z, al.2 57 i0 = z := ⟨_, rfl⟩
  have hi_o := hi0
  have hl : lv_has ls 1 [(0, .ref o)] := by rw [← ho_o]; exact hl
  have hE : EXT (fun _ => 0) ([], [(57, 0), (57, 2), (57, 3), (57, 4)]) al iv rv al iv rv := EXT.rf
  have hN : NN 57 i0 [] rv := NN.nil
  have hz0 := hz
  refine lv_aload_n hx hb dX10_init_0 rfl (lv_at hl 0 rfl) ?_
  refine W.objInit hx hb C.1.2.2.2.1 (C.1.2.2.2.2 _ oi_X10) (C.1.2.2.2.2 _ oi_m) (C.1.2.2.2.2 _ oi_c) rfl (by rw [C.1.2.2.1]; exact hl.1) rfl dX10_init_1 (Nat.le_of_ble_eq_true rfl) (Nat.le_of_ble_eq_true rfl) ?_
  refine W.eq (g2 := F0 m 4 ls []) rfl ?_
  refine lv_aload_n hx hb dX10_init_4 rfl (lv_at hl 0 rfl) ?_
  refine lv_bipush (v := 40) hx hb dX10_init_5 (by decide) ?_
  refine q_newr (t := 58) (Cn := "LateClaims$Leg") C hU hS hB hz k_58 (by decide) (fun _ => rfl) kl_X10_11 C.2.2.2.1.2.1 (by decide) (by decide) (by decide) (Nat.le_of_ble_eq_true rfl) (Nat.le_of_ble_eq_true rfl) dX10_init_7 (fun a_1 H hU hS hz => ?_)
  have hc_8 : al.1 58 = al.1 58 := hE.1 58
  have hE9 := hE.new 58 a_1
  have hR9 := hR.new 58 a_1
  have hB9 := hB.new 58 a_1
  have hn9 := grow_new (al := al) (t := 58) (a := a_1)
  rw [hc_8] at hU hE9 hR9 hB9 hn9
  obtain ⟨al_2, ea_5⟩ : ∃ z, z = grow al 58 a_1 := ⟨_, rfl⟩
  obtain ⟨iv_3, ei_6⟩ : ∃ z, z = clr iv 58 (al.1 58) 0 := ⟨_, rfl⟩
  obtain ⟨rv_4, er_7⟩ : ∃ z, z = clr rv 58 (al.1 58) none := ⟨_, rfl⟩
  rw [← ea_5] at hU hE9 hR9 hB9 hn9
  rw [← ei_6] at hU hE9 hR9
  rw [← er_7] at hU hE9 hB9
  have ho_o : al_2.2 57 i0 = o := by rw [ea_5, grow_ad hi_o]; exact ho_o
  have hi_o : i0 < al_2.1 57 := by rw [ea_5, grow_ct]; omega
  have ho_a_1 : al_2.2 58 (al.1 58) = a_1 := hn9
  have hi_a_1 : (al.1 58) < al_2.1 58 := by rw [ea_5, grow_ct, hc_8]; simp
  have hN : NN 57 i0 [] rv_4 := hN.keep (fun k => by rw [er_7]; exact clr_ne (fun z => absurd z.1 (by decide)))
  have hE := hE9
  have hR := hR9
  have hB := hB9
  refine W.widen (k := 1) (n := 40) (Nat.le_of_ble_eq_true rfl) (Nat.le_of_ble_eq_true rfl) ?_
  refine W.eq (g2 := F0 m 10 ls [.ref (al_2.2 58 (al.1 58)), .ref (al_2.2 57 i0)]) (by rw [ho_a_1, ho_o]) ?_
  refine q_putr (t := 57) (i := i0) (k := 0) (t' := 58) (j := (al.1 58)) C hU hS k_57 (hc := rfl) uwX10 tyX10 tyX10_ok nmX10 hi_o (by decide) rfl (Or.inr ⟨rfl, hnm, rfl⟩) rfl fl_X10_13 dX10_init_10 (fun _ => rfl) (fun _ => rfl) (fun H locs hU hS => ?_)
  have hz : sz ≤ H.size := Nat.le_trans hz0 hS.1
  obtain ⟨rv_9, er_10⟩ : ∃ z, z = up3 rv_4 57 i0 0 (some (al.1 58)) := ⟨_, rfl⟩
  rw [← er_10] at hU
  have hB : RB al_2 rv_9 := by rw [er_10]; exact hB.put rfl hi_a_1
  have hE := hE.putr (t := 57) (i := i0) (k := 0) (x := some (al.1 58)) (by decide)
  rw [← er_10] at hE
  have hN : NN 57 i0 [0] rv_9 := by rw [er_10]; exact hN.put 0 (al.1 58)
  refine lv_aload_n hx hb dX10_init_13 rfl (lv_at hl 0 rfl) ?_
  refine lv_bipush (v := 6) hx hb dX10_init_14 (by decide) ?_
  refine q_newp (t := 59) (ty := .int) C hU hS hB hz rfl (Or.inl rfl) k_59 (fun _ => rfl) ac_int (by decide) (by decide) (by decide) (Nat.le_of_ble_eq_true rfl) (Nat.le_of_ble_eq_true rfl) dX10_init_16 (fun a_11 H hU hS hz => ?_)
  have hc_18 : al_2.1 59 = al.1 59 := hE.1 59
  have hE9 := hE.new 59 a_11
  have hR9 := hR.new 59 a_11
  have hB9 := hB.new 59 a_11
  have hn9 := grow_new (al := al_2) (t := 59) (a := a_11)
  rw [hc_18] at hU hE9 hR9 hB9 hn9
  obtain ⟨al_12, ea_15⟩ : ∃ z, z = grow al_2 59 a_11 := ⟨_, rfl⟩
  obtain ⟨iv_13, ei_16⟩ : ∃ z, z = clr iv_3 59 (al.1 59) 0 := ⟨_, rfl⟩
  obtain ⟨rv_14, er_17⟩ : ∃ z, z = clr rv_9 59 (al.1 59) none := ⟨_, rfl⟩
  rw [← ea_15] at hU hE9 hR9 hB9 hn9
  rw [← ei_16] at hU hE9 hR9
  rw [← er_17] at hU hE9 hB9
  have ho_a_1 : al_12.2 58 (al.1 58) = a_1 := by rw [ea_15, grow_ad hi_a_1]; exact ho_a_1
  have hi_a_1 : (al.1 58) < al_12.1 58 := by rw [ea_15, grow_ct]; omega
  have ho_o : al_12.2 57 i0 = o := by rw [ea_15, grow_ad hi_o]; exact ho_o
  have hi_o : i0 < al_12.1 57 := by rw [ea_15, grow_ct]; omega
  have ho_a_11 : al_12.2 59 (al.1 59) = a_11 := hn9
  have hi_a_11 : (al.1 59) < al_12.1 59 := by rw [ea_15, grow_ct, hc_18]; simp
  have hN : NN 57 i0 [0] rv_14 := hN.keep (fun k => by rw [er_17]; exact clr_ne (fun z => absurd z.1 (by decide)))
  have hE := hE9
  have hR := hR9
  have hB := hB9
  refine W.widen (k := 2) (n := 46) (Nat.le_of_ble_eq_true rfl) (Nat.le_of_ble_eq_true rfl) ?_
  refine W.eq (g2 := F0 m 18 ls [.ref (al_12.2 59 (al.1 59)), .ref (al_12.2 57 i0)]) (by rw [ho_a_11, ho_o]) ?_
  refine q_putr (t := 57) (i := i0) (k := 2) (t' := 59) (j := (al.1 59)) C hU hS k_57 (hc := rfl) uwX10 tyX10 tyX10_ok nmX10 hi_o (by decide) rfl (Or.inr ⟨rfl, hnm, rfl⟩) rfl fl_X10_17 dX10_init_18 (fun _ => rfl) (fun _ => rfl) (fun H locs hU hS => ?_)
  have hz : sz ≤ H.size := Nat.le_trans hz0 hS.1
  obtain ⟨rv_19, er_20⟩ : ∃ z, z = up3 rv_14 57 i0 2 (some (al.1 59)) := ⟨_, rfl⟩
  rw [← er_20] at hU
  have hB : RB al_12 rv_19 := by rw [er_20]; exact hB.put rfl hi_a_11
  have hE := hE.putr (t := 57) (i := i0) (k := 2) (x := some (al.1 59)) (by decide)
  rw [← er_20] at hE
  have hN : NN 57 i0 [2, 0] rv_19 := by rw [er_20]; exact hN.put 2 (al.1 59)
  refine lv_aload_n hx hb dX10_init_21 rfl (lv_at hl 0 rfl) ?_
  refine lv_bipush (v := 40) hx hb dX10_init_22 (by decide) ?_
  refine q_newp (t := 60) (ty := .boolean) C hU hS hB hz rfl (Or.inr rfl) k_60 (fun _ => rfl) ac_boolean (by decide) (by decide) (by decide) (Nat.le_of_ble_eq_true rfl) (Nat.le_of_ble_eq_true rfl) dX10_init_24 (fun a_21 H hU hS hz => ?_)
  have hc_28 : al_12.1 60 = al.1 60 := hE.1 60
  have hE9 := hE.new 60 a_21
  have hR9 := hR.new 60 a_21
  have hB9 := hB.new 60 a_21
  have hn9 := grow_new (al := al_12) (t := 60) (a := a_21)
  rw [hc_28] at hU hE9 hR9 hB9 hn9
  obtain ⟨al_22, ea_25⟩ : ∃ z, z = grow al_12 60 a_21 := ⟨_, rfl⟩
  obtain ⟨iv_23, ei_26⟩ : ∃ z, z = clr iv_13 60 (al.1 60) 0 := ⟨_, rfl⟩
  obtain ⟨rv_24, er_27⟩ : ∃ z, z = clr rv_19 60 (al.1 60) none := ⟨_, rfl⟩
  rw [← ea_25] at hU hE9 hR9 hB9 hn9
  rw [← ei_26] at hU hE9 hR9
  rw [← er_27] at hU hE9 hB9
  have ho_a_1 : al_22.2 58 (al.1 58) = a_1 := by rw [ea_25, grow_ad hi_a_1]; exact ho_a_1
  have hi_a_1 : (al.1 58) < al_22.1 58 := by rw [ea_25, grow_ct]; omega
  have ho_a_11 : al_22.2 59 (al.1 59) = a_11 := by rw [ea_25, grow_ad hi_a_11]; exact ho_a_11
  have hi_a_11 : (al.1 59) < al_22.1 59 := by rw [ea_25, grow_ct]; omega
  have ho_o : al_22.2 57 i0 = o := by rw [ea_25, grow_ad hi_o]; exact ho_o
  have hi_o : i0 < al_22.1 57 := by rw [ea_25, grow_ct]; omega
  have ho_a_21 : al_22.2 60 (al.1 60) = a_21 := hn9
  have hi_a_21 : (al.1 60) < al_22.1 60 := by rw [ea_25, grow_ct, hc_28]; simp
  have hN : NN 57 i0 [2, 0] rv_24 := hN.keep (fun k => by rw [er_27]; exact clr_ne (fun z => absurd z.1 (by decide)))
  have hE := hE9
  have hR := hR9
  have hB := hB9
  refine W.widen (k := 3) (n := 86) (Nat.le_of_ble_eq_true rfl) (Nat.le_of_ble_eq_true rfl) ?_
  refine W.eq (g2 := F0 m 26 ls [.ref (al_22.2 60 (al.1 60)), .ref (al_22.2 57 i0)]) (by rw [ho_a_21, ho_o]) ?_
  refine q_putr (t := 57) (i := i0) (k := 3) (t' := 60) (j := (al.1 60)) C hU hS k_57 (hc := rfl) uwX10 tyX10 tyX10_ok nmX10 hi_o (by decide) rfl (Or.inr ⟨rfl, hnm, rfl⟩) rfl fl_X10_21 dX10_init_26 (fun _ => rfl) (fun _ => rfl) (fun H locs hU hS => ?_)
  have hz : sz ≤ H.size := Nat.le_trans hz0 hS.1
  obtain ⟨rv_29, er_30⟩ : ∃ z, z = up3 rv_24 57 i0 3 (some (al.1 60)) := ⟨_, rfl⟩
  rw [← er_30] at hU
  have hB : RB al_22 rv_29 := by rw [er_30]; exact hB.put rfl hi_a_21
  have hE := hE.putr (t := 57) (i := i0) (k := 3) (x := some (al.1 60)) (by decide)
  rw [← er_30] at hE
  have hN : NN 57 i0 [3, 2, 0] rv_29 := by rw [er_30]; exact hN.put 3 (al.1 60)
  refine lv_aload_n hx hb dX10_init_29 rfl (lv_at hl 0 rfl) ?_
  refine lv_bipush (v := 40) hx hb dX10_init_30 (by decide) ?_
  refine q_newr (t := 61) (Cn := "LateClaims$Leg") C hU hS hB hz k_61 (by decide) (fun _ => rfl) kl_X10_11 C.2.2.2.1.2.1 (by decide) (by decide) (by decide) (Nat.le_of_ble_eq_true rfl) (Nat.le_of_ble_eq_true rfl) dX10_init_32 (fun a_31 H hU hS hz => ?_)
  have hc_38 : al_22.1 61 = al.1 61 := hE.1 61
  have hE9 := hE.new 61 a_31
  have hR9 := hR.new 61 a_31
  have hB9 := hB.new 61 a_31
  have hn9 := grow_new (al := al_22) (t := 61) (a := a_31)
  rw [hc_38] at hU hE9 hR9 hB9 hn9
  obtain ⟨al_32, ea_35⟩ : ∃ z, z = grow al_22 61 a_31 := ⟨_, rfl⟩
  obtain ⟨iv_33, ei_36⟩ : ∃ z, z = clr iv_23 61 (al.1 61) 0 := ⟨_, rfl⟩
  obtain ⟨rv_34, er_37⟩ : ∃ z, z = clr rv_29 61 (al.1 61) none := ⟨_, rfl⟩
  rw [← ea_35] at hU hE9 hR9 hB9 hn9
  rw [← ei_36] at hU hE9 hR9
  rw [← er_37] at hU hE9 hB9
  have ho_a_1 : al_32.2 58 (al.1 58) = a_1 := by rw [ea_35, grow_ad hi_a_1]; exact ho_a_1
  have hi_a_1 : (al.1 58) < al_32.1 58 := by rw [ea_35, grow_ct]; omega
  have ho_a_11 : al_32.2 59 (al.1 59) = a_11 := by rw [ea_35, grow_ad hi_a_11]; exact ho_a_11
  have hi_a_11 : (al.1 59) < al_32.1 59 := by rw [ea_35, grow_ct]; omega
  have ho_a_21 : al_32.2 60 (al.1 60) = a_21 := by rw [ea_35, grow_ad hi_a_21]; exact ho_a_21
  have hi_a_21 : (al.1 60) < al_32.1 60 := by rw [ea_35, grow_ct]; omega
  have ho_o : al_32.2 57 i0 = o := by rw [ea_35, grow_ad hi_o]; exact ho_o
  have hi_o : i0 < al_32.1 57 := by rw [ea_35, grow_ct]; omega
  have ho_a_31 : al_32.2 61 (al.1 61) = a_31 := hn9
  have hi_a_31 : (al.1 61) < al_32.1 61 := by rw [ea_35, grow_ct, hc_38]; simp
  have hN : NN 57 i0 [3, 2, 0] rv_34 := hN.keep (fun k => by rw [er_37]; exact clr_ne (fun z => absurd z.1 (by decide)))
  have hE := hE9
  have hR := hR9
  have hB := hB9
  refine W.widen (k := 4) (n := 126) (Nat.le_of_ble_eq_true rfl) (Nat.le_of_ble_eq_true rfl) ?_
  refine W.eq (g2 := F0 m 35 ls [.ref (al_32.2 61 (al.1 61)), .ref (al_32.2 57 i0)]) (by rw [ho_a_31, ho_o]) ?_
  refine q_putr (t := 57) (i := i0) (k := 4) (t' := 61) (j := (al.1 61)) C hU hS k_57 (hc := rfl) uwX10 tyX10 tyX10_ok nmX10 hi_o (by decide) rfl (Or.inr ⟨rfl, hnm, rfl⟩) rfl fl_X10_25 dX10_init_35 (fun _ => rfl) (fun _ => rfl) (fun H locs hU hS => ?_)
  have hz : sz ≤ H.size := Nat.le_trans hz0 hS.1
  obtain ⟨rv_39, er_40⟩ : ∃ z, z = up3 rv_34 57 i0 4 (some (al.1 61)) := ⟨_, rfl⟩
  rw [← er_40] at hU
  have hB : RB al_32 rv_39 := by rw [er_40]; exact hB.put rfl hi_a_31
  have hE := hE.putr (t := 57) (i := i0) (k := 4) (x := some (al.1 61)) (by decide)
  rw [← er_40] at hE
  have hN : NN 57 i0 [4, 3, 2, 0] rv_39 := by rw [er_40]; exact hN.put 4 (al.1 61)
  exact q_vretA C hr hlk hU hS (⟨hR, hB, hE, hN⟩) dX10_init_38
set_option maxHeartbeats 4000000 in
set_option maxRecDepth 100000 in
theorem c_X9_init {l : Launch} {D : va_G} {cA : FieldType → ClassId} {sz : Nat} {al : Al} {iv : Iv} {rv : Rv} (hR : RG al iv) (hB : RB al rv) (i0 : Nat) (hi0 : i0 < al.1 63) : Met l yX9_init (wd yX9_init cX9_init 1 none) (rmA 1 1 20) (PcA D cA sz al iv rv [.ref (al.2 63 i0)] (fun _ => True)) (QVA D cA sz (fun al' iv' rv' => RG al' iv' ∧ RB al' rv' ∧ EXT (nx (fun _ => 0) 64) ([], [(63, 0)]) al iv rv al' iv' rv' ∧ NN 63 i0 [0] rv')) 1 20 (Aq sz) := by
  refine mk_a (by decide) (Nat.le_of_ble_eq_true rfl) rfl ?_
  intro p e s m below meth c ls C hr hlk hnm hU hS hz _ hl
  have hx := C.1.1
  have hb := C.1.2.1
  have k20 : (20 : Int32).toInt = 20 := by decide
  obtain ⟨o, ho_o⟩ : ∃ z, al.2 63 i0 = z := ⟨_, rfl⟩
  have hi_o := hi0
  have hl : lv_has ls 1 [(0, .ref o)] := by rw [← ho_o]; exact hl
  have hE : EXT (fun _ => 0) ([], [(63, 0)]) al iv rv al iv rv := EXT.rf
  have hN : NN 63 i0 [] rv := NN.nil
  have hz0 := hz
  refine lv_aload_n hx hb dX9_init_0 rfl (lv_at hl 0 rfl) ?_
  refine W.objInit hx hb C.1.2.2.2.1 (C.1.2.2.2.2 _ oi_X9) (C.1.2.2.2.2 _ oi_m) (C.1.2.2.2.2 _ oi_c) rfl (by rw [C.1.2.2.1]; exact hl.1) rfl dX9_init_1 (Nat.le_of_ble_eq_true rfl) (Nat.le_of_ble_eq_true rfl) ?_
  refine W.eq (g2 := F0 m 4 ls []) rfl ?_
  refine lv_aload_n hx hb dX9_init_4 rfl (lv_at hl 0 rfl) ?_
  refine lv_bipush (v := 20) hx hb dX9_init_5 (by decide) ?_
  refine q_newr (t := 64) (Cn := "LateClaims$Ticket") C hU hS hB hz k_64 (by decide) (fun _ => rfl) kl_X9_9 C.2.2.2.1.2.2.1 (by decide) (by decide) (by decide) (Nat.le_of_ble_eq_true rfl) (Nat.le_of_ble_eq_true rfl) dX9_init_7 (fun a_1 H hU hS hz => ?_)
  have hc_8 : al.1 64 = al.1 64 := hE.1 64
  have hE9 := hE.new 64 a_1
  have hR9 := hR.new 64 a_1
  have hB9 := hB.new 64 a_1
  have hn9 := grow_new (al := al) (t := 64) (a := a_1)
  rw [hc_8] at hU hE9 hR9 hB9 hn9
  obtain ⟨al_2, ea_5⟩ : ∃ z, z = grow al 64 a_1 := ⟨_, rfl⟩
  obtain ⟨iv_3, ei_6⟩ : ∃ z, z = clr iv 64 (al.1 64) 0 := ⟨_, rfl⟩
  obtain ⟨rv_4, er_7⟩ : ∃ z, z = clr rv 64 (al.1 64) none := ⟨_, rfl⟩
  rw [← ea_5] at hU hE9 hR9 hB9 hn9
  rw [← ei_6] at hU hE9 hR9
  rw [← er_7] at hU hE9 hB9
  have ho_o : al_2.2 63 i0 = o := by rw [ea_5, grow_ad hi_o]; exact ho_o
  have hi_o : i0 < al_2.1 63 := by rw [ea_5, grow_ct]; omega
  have ho_a_1 : al_2.2 64 (al.1 64) = a_1 := hn9
  have hi_a_1 : (al.1 64) < al_2.1 64 := by rw [ea_5, grow_ct, hc_8]; simp
  have hN : NN 63 i0 [] rv_4 := hN.keep (fun k => by rw [er_7]; exact clr_ne (fun z => absurd z.1 (by decide)))
  have hE := hE9
  have hR := hR9
  have hB := hB9
  refine W.widen (k := 1) (n := 20) (Nat.le_of_ble_eq_true rfl) (Nat.le_of_ble_eq_true rfl) ?_
  refine W.eq (g2 := F0 m 10 ls [.ref (al_2.2 64 (al.1 64)), .ref (al_2.2 63 i0)]) (by rw [ho_a_1, ho_o]) ?_
  refine q_putr (t := 63) (i := i0) (k := 0) (t' := 64) (j := (al.1 64)) C hU hS k_63 (hc := rfl) uwX9 tyX9 tyX9_ok nmX9 hi_o (by decide) rfl (Or.inr ⟨rfl, hnm, rfl⟩) rfl fl_X9_11 dX9_init_10 (fun _ => rfl) (fun _ => rfl) (fun H locs hU hS => ?_)
  have hz : sz ≤ H.size := Nat.le_trans hz0 hS.1
  obtain ⟨rv_9, er_10⟩ : ∃ z, z = up3 rv_4 63 i0 0 (some (al.1 64)) := ⟨_, rfl⟩
  rw [← er_10] at hU
  have hB : RB al_2 rv_9 := by rw [er_10]; exact hB.put rfl hi_a_1
  have hE := hE.putr (t := 63) (i := i0) (k := 0) (x := some (al.1 64)) (by decide)
  rw [← er_10] at hE
  have hN : NN 63 i0 [0] rv_9 := by rw [er_10]; exact hN.put 0 (al.1 64)
  exact q_vretA C hr hlk hU hS (⟨hR, hB, hE, hN⟩) dX9_init_13
set_option maxHeartbeats 4000000 in
set_option maxRecDepth 100000 in
theorem c_X4_init {l : Launch} {D : va_G} {cA : FieldType → ClassId} {sz : Nat} {al : Al} {iv : Iv} {rv : Rv} (hR : RG al iv) (hB : RB al rv) (i0 : Nat) (hi0 : i0 < al.1 68) : Met l yX4_init (wd yX4_init cX4_init 1 none) (rmA 1 10 350) (PcA D cA sz al iv rv [.ref (al.2 68 i0)] (fun _ => True)) (QVA D cA sz (fun al' iv' rv' => RG al' iv' ∧ RB al' rv' ∧ EXT (nx (nx (nx (nx (nx (nx (nx (nx (nx (nx (fun _ => 0) 69) 70) 71) 72) 73) 74) 75) 76) 77) 78) ([], [(68, 0), (68, 1), (68, 2), (68, 3), (68, 4), (68, 6), (68, 7), (68, 8), (68, 9), (68, 10)]) al iv rv al' iv' rv' ∧ NN 68 i0 [10, 9, 8, 7, 6, 4, 3, 2, 1, 0] rv')) 10 350 (Aq sz) := by
  refine mk_a (by decide) (Nat.le_of_ble_eq_true rfl) rfl ?_
  intro p e s m below meth c ls C hr hlk hnm hU hS hz _ hl
  have hx := C.1.1
  have hb := C.1.2.1
  have k30 : (30 : Int32).toInt = 30 := by decide
  have k40 : (40 : Int32).toInt = 40 := by decide
  obtain ⟨o, ho_o⟩ : ∃ z, al.2 68 i0 = z := ⟨_, rfl⟩
  have hi_o := hi0
  have hl : lv_has ls 1 [(0, .ref o)] := by rw [← ho_o]; exact hl
  have hE : EXT (fun _ => 0) ([], [(68, 0), (68, 1), (68, 2), (68, 3), (68, 4), (68, 6), (68, 7), (68, 8), (68, 9), (68, 10)]) al iv rv al iv rv := EXT.rf
  have hN : NN 68 i0 [] rv := NN.nil
  have hz0 := hz
  refine lv_aload_n hx hb dX4_init_0 rfl (lv_at hl 0 rfl) ?_
  refine W.objInit hx hb C.1.2.2.2.1 (C.1.2.2.2.2 _ oi_X4) (C.1.2.2.2.2 _ oi_m) (C.1.2.2.2.2 _ oi_c) rfl (by rw [C.1.2.2.1]; exact hl.1) rfl dX4_init_1 (Nat.le_of_ble_eq_true rfl) (Nat.le_of_ble_eq_true rfl) ?_
  refine W.eq (g2 := F0 m 4 ls []) rfl ?_
  refine lv_aload_n hx hb dX4_init_4 rfl (lv_at hl 0 rfl) ?_
  refine lv_bipush (v := 30) hx hb dX4_init_5 (by decide) ?_
  refine q_newp (t := 69) (ty := .int) C hU hS hB hz rfl (Or.inl rfl) k_69 (fun _ => rfl) ac_int (by decide) (by decide) (by decide) (Nat.le_of_ble_eq_true rfl) (Nat.le_of_ble_eq_true rfl) dX4_init_7 (fun a_1 H hU hS hz => ?_)
  have hc_8 : al.1 69 = al.1 69 := hE.1 69
  have hE9 := hE.new 69 a_1
  have hR9 := hR.new 69 a_1
  have hB9 := hB.new 69 a_1
  have hn9 := grow_new (al := al) (t := 69) (a := a_1)
  rw [hc_8] at hU hE9 hR9 hB9 hn9
  obtain ⟨al_2, ea_5⟩ : ∃ z, z = grow al 69 a_1 := ⟨_, rfl⟩
  obtain ⟨iv_3, ei_6⟩ : ∃ z, z = clr iv 69 (al.1 69) 0 := ⟨_, rfl⟩
  obtain ⟨rv_4, er_7⟩ : ∃ z, z = clr rv 69 (al.1 69) none := ⟨_, rfl⟩
  rw [← ea_5] at hU hE9 hR9 hB9 hn9
  rw [← ei_6] at hU hE9 hR9
  rw [← er_7] at hU hE9 hB9
  have ho_o : al_2.2 68 i0 = o := by rw [ea_5, grow_ad hi_o]; exact ho_o
  have hi_o : i0 < al_2.1 68 := by rw [ea_5, grow_ct]; omega
  have ho_a_1 : al_2.2 69 (al.1 69) = a_1 := hn9
  have hi_a_1 : (al.1 69) < al_2.1 69 := by rw [ea_5, grow_ct, hc_8]; simp
  have hN : NN 68 i0 [] rv_4 := hN.keep (fun k => by rw [er_7]; exact clr_ne (fun z => absurd z.1 (by decide)))
  have hE := hE9
  have hR := hR9
  have hB := hB9
  refine W.widen (k := 1) (n := 30) (Nat.le_of_ble_eq_true rfl) (Nat.le_of_ble_eq_true rfl) ?_
  refine W.eq (g2 := F0 m 9 ls [.ref (al_2.2 69 (al.1 69)), .ref (al_2.2 68 i0)]) (by rw [ho_a_1, ho_o]) ?_
  refine q_putr (t := 68) (i := i0) (k := 0) (t' := 69) (j := (al.1 69)) C hU hS k_68 (hc := rfl) uwX4 tyX4 tyX4_ok nmX4 hi_o (by decide) rfl (Or.inr ⟨rfl, hnm, rfl⟩) rfl fl_X4_11 dX4_init_9 (fun _ => rfl) (fun _ => rfl) (fun H locs hU hS => ?_)
  have hz : sz ≤ H.size := Nat.le_trans hz0 hS.1
  obtain ⟨rv_9, er_10⟩ : ∃ z, z = up3 rv_4 68 i0 0 (some (al.1 69)) := ⟨_, rfl⟩
  rw [← er_10] at hU
  have hB : RB al_2 rv_9 := by rw [er_10]; exact hB.put rfl hi_a_1
  have hE := hE.putr (t := 68) (i := i0) (k := 0) (x := some (al.1 69)) (by decide)
  rw [← er_10] at hE
  have hN : NN 68 i0 [0] rv_9 := by rw [er_10]; exact hN.put 0 (al.1 69)
  refine lv_aload_n hx hb dX4_init_12 rfl (lv_at hl 0 rfl) ?_
  refine lv_bipush (v := 30) hx hb dX4_init_13 (by decide) ?_
  refine q_newp (t := 70) (ty := .int) C hU hS hB hz rfl (Or.inl rfl) k_70 (fun _ => rfl) ac_int (by decide) (by decide) (by decide) (Nat.le_of_ble_eq_true rfl) (Nat.le_of_ble_eq_true rfl) dX4_init_15 (fun a_11 H hU hS hz => ?_)
  have hc_18 : al_2.1 70 = al.1 70 := hE.1 70
  have hE9 := hE.new 70 a_11
  have hR9 := hR.new 70 a_11
  have hB9 := hB.new 70 a_11
  have hn9 := grow_new (al := al_2) (t := 70) (a := a_11)
  rw [hc_18] at hU hE9 hR9 hB9 hn9
  obtain ⟨al_12, ea_15⟩ : ∃ z, z = grow al_2 70 a_11 := ⟨_, rfl⟩
  obtain ⟨iv_13, ei_16⟩ : ∃ z, z = clr iv_3 70 (al.1 70) 0 := ⟨_, rfl⟩
  obtain ⟨rv_14, er_17⟩ : ∃ z, z = clr rv_9 70 (al.1 70) none := ⟨_, rfl⟩
  rw [← ea_15] at hU hE9 hR9 hB9 hn9
  rw [← ei_16] at hU hE9 hR9
  rw [← er_17] at hU hE9 hB9
  have ho_a_1 : al_12.2 69 (al.1 69) = a_1 := by rw [ea_15, grow_ad hi_a_1]; exact ho_a_1
  have hi_a_1 : (al.1 69) < al_12.1 69 := by rw [ea_15, grow_ct]; omega
  have ho_o : al_12.2 68 i0 = o := by rw [ea_15, grow_ad hi_o]; exact ho_o
  have hi_o : i0 < al_12.1 68 := by rw [ea_15, grow_ct]; omega
  have ho_a_11 : al_12.2 70 (al.1 70) = a_11 := hn9
  have hi_a_11 : (al.1 70) < al_12.1 70 := by rw [ea_15, grow_ct, hc_18]; simp
  have hN : NN 68 i0 [0] rv_14 := hN.keep (fun k => by rw [er_17]; exact clr_ne (fun z => absurd z.1 (by decide)))
  have hE := hE9
  have hR := hR9
  have hB := hB9
  refine W.widen (k := 2) (n := 60) (Nat.le_of_ble_eq_true rfl) (Nat.le_of_ble_eq_true rfl) ?_
  refine W.eq (g2 := F0 m 17 ls [.ref (al_12.2 70 (al.1 70)), .ref (al_12.2 68 i0)]) (by rw [ho_a_11, ho_o]) ?_
  refine q_putr (t := 68) (i := i0) (k := 1) (t' := 70) (j := (al.1 70)) C hU hS k_68 (hc := rfl) uwX4 tyX4 tyX4_ok nmX4 hi_o (by decide) rfl (Or.inr ⟨rfl, hnm, rfl⟩) rfl fl_X4_15 dX4_init_17 (fun _ => rfl) (fun _ => rfl) (fun H locs hU hS => ?_)
  have hz : sz ≤ H.size := Nat.le_trans hz0 hS.1
  obtain ⟨rv_19, er_20⟩ : ∃ z, z = up3 rv_14 68 i0 1 (some (al.1 70)) := ⟨_, rfl⟩
  rw [← er_20] at hU
  have hB : RB al_12 rv_19 := by rw [er_20]; exact hB.put rfl hi_a_11
  have hE := hE.putr (t := 68) (i := i0) (k := 1) (x := some (al.1 70)) (by decide)
  rw [← er_20] at hE
  have hN : NN 68 i0 [1, 0] rv_19 := by rw [er_20]; exact hN.put 1 (al.1 70)
  refine lv_aload_n hx hb dX4_init_20 rfl (lv_at hl 0 rfl) ?_
  refine lv_bipush (v := 30) hx hb dX4_init_21 (by decide) ?_
  refine q_newp (t := 71) (ty := .int) C hU hS hB hz rfl (Or.inl rfl) k_71 (fun _ => rfl) ac_int (by decide) (by decide) (by decide) (Nat.le_of_ble_eq_true rfl) (Nat.le_of_ble_eq_true rfl) dX4_init_23 (fun a_21 H hU hS hz => ?_)
  have hc_28 : al_12.1 71 = al.1 71 := hE.1 71
  have hE9 := hE.new 71 a_21
  have hR9 := hR.new 71 a_21
  have hB9 := hB.new 71 a_21
  have hn9 := grow_new (al := al_12) (t := 71) (a := a_21)
  rw [hc_28] at hU hE9 hR9 hB9 hn9
  obtain ⟨al_22, ea_25⟩ : ∃ z, z = grow al_12 71 a_21 := ⟨_, rfl⟩
  obtain ⟨iv_23, ei_26⟩ : ∃ z, z = clr iv_13 71 (al.1 71) 0 := ⟨_, rfl⟩
  obtain ⟨rv_24, er_27⟩ : ∃ z, z = clr rv_19 71 (al.1 71) none := ⟨_, rfl⟩
  rw [← ea_25] at hU hE9 hR9 hB9 hn9
  rw [← ei_26] at hU hE9 hR9
  rw [← er_27] at hU hE9 hB9
  have ho_a_1 : al_22.2 69 (al.1 69) = a_1 := by rw [ea_25, grow_ad hi_a_1]; exact ho_a_1
  have hi_a_1 : (al.1 69) < al_22.1 69 := by rw [ea_25, grow_ct]; omega
  have ho_a_11 : al_22.2 70 (al.1 70) = a_11 := by rw [ea_25, grow_ad hi_a_11]; exact ho_a_11
  have hi_a_11 : (al.1 70) < al_22.1 70 := by rw [ea_25, grow_ct]; omega
  have ho_o : al_22.2 68 i0 = o := by rw [ea_25, grow_ad hi_o]; exact ho_o
  have hi_o : i0 < al_22.1 68 := by rw [ea_25, grow_ct]; omega
  have ho_a_21 : al_22.2 71 (al.1 71) = a_21 := hn9
  have hi_a_21 : (al.1 71) < al_22.1 71 := by rw [ea_25, grow_ct, hc_28]; simp
  have hN : NN 68 i0 [1, 0] rv_24 := hN.keep (fun k => by rw [er_27]; exact clr_ne (fun z => absurd z.1 (by decide)))
  have hE := hE9
  have hR := hR9
  have hB := hB9
  refine W.widen (k := 3) (n := 90) (Nat.le_of_ble_eq_true rfl) (Nat.le_of_ble_eq_true rfl) ?_
  refine W.eq (g2 := F0 m 25 ls [.ref (al_22.2 71 (al.1 71)), .ref (al_22.2 68 i0)]) (by rw [ho_a_21, ho_o]) ?_
  refine q_putr (t := 68) (i := i0) (k := 2) (t' := 71) (j := (al.1 71)) C hU hS k_68 (hc := rfl) uwX4 tyX4 tyX4_ok nmX4 hi_o (by decide) rfl (Or.inr ⟨rfl, hnm, rfl⟩) rfl fl_X4_18 dX4_init_25 (fun _ => rfl) (fun _ => rfl) (fun H locs hU hS => ?_)
  have hz : sz ≤ H.size := Nat.le_trans hz0 hS.1
  obtain ⟨rv_29, er_30⟩ : ∃ z, z = up3 rv_24 68 i0 2 (some (al.1 71)) := ⟨_, rfl⟩
  rw [← er_30] at hU
  have hB : RB al_22 rv_29 := by rw [er_30]; exact hB.put rfl hi_a_21
  have hE := hE.putr (t := 68) (i := i0) (k := 2) (x := some (al.1 71)) (by decide)
  rw [← er_30] at hE
  have hN : NN 68 i0 [2, 1, 0] rv_29 := by rw [er_30]; exact hN.put 2 (al.1 71)
  refine lv_aload_n hx hb dX4_init_28 rfl (lv_at hl 0 rfl) ?_
  refine lv_bipush (v := 30) hx hb dX4_init_29 (by decide) ?_
  refine q_newp (t := 72) (ty := .int) C hU hS hB hz rfl (Or.inl rfl) k_72 (fun _ => rfl) ac_int (by decide) (by decide) (by decide) (Nat.le_of_ble_eq_true rfl) (Nat.le_of_ble_eq_true rfl) dX4_init_31 (fun a_31 H hU hS hz => ?_)
  have hc_38 : al_22.1 72 = al.1 72 := hE.1 72
  have hE9 := hE.new 72 a_31
  have hR9 := hR.new 72 a_31
  have hB9 := hB.new 72 a_31
  have hn9 := grow_new (al := al_22) (t := 72) (a := a_31)
  rw [hc_38] at hU hE9 hR9 hB9 hn9
  obtain ⟨al_32, ea_35⟩ : ∃ z, z = grow al_22 72 a_31 := ⟨_, rfl⟩
  obtain ⟨iv_33, ei_36⟩ : ∃ z, z = clr iv_23 72 (al.1 72) 0 := ⟨_, rfl⟩
  obtain ⟨rv_34, er_37⟩ : ∃ z, z = clr rv_29 72 (al.1 72) none := ⟨_, rfl⟩
  rw [← ea_35] at hU hE9 hR9 hB9 hn9
  rw [← ei_36] at hU hE9 hR9
  rw [← er_37] at hU hE9 hB9
  have ho_a_1 : al_32.2 69 (al.1 69) = a_1 := by rw [ea_35, grow_ad hi_a_1]; exact ho_a_1
  have hi_a_1 : (al.1 69) < al_32.1 69 := by rw [ea_35, grow_ct]; omega
  have ho_a_11 : al_32.2 70 (al.1 70) = a_11 := by rw [ea_35, grow_ad hi_a_11]; exact ho_a_11
  have hi_a_11 : (al.1 70) < al_32.1 70 := by rw [ea_35, grow_ct]; omega
  have ho_a_21 : al_32.2 71 (al.1 71) = a_21 := by rw [ea_35, grow_ad hi_a_21]; exact ho_a_21
  have hi_a_21 : (al.1 71) < al_32.1 71 := by rw [ea_35, grow_ct]; omega
  have ho_o : al_32.2 68 i0 = o := by rw [ea_35, grow_ad hi_o]; exact ho_o
  have hi_o : i0 < al_32.1 68 := by rw [ea_35, grow_ct]; omega
  have ho_a_31 : al_32.2 72 (al.1 72) = a_31 := hn9
  have hi_a_31 : (al.1 72) < al_32.1 72 := by rw [ea_35, grow_ct, hc_38]; simp
  have hN : NN 68 i0 [2, 1, 0] rv_34 := hN.keep (fun k => by rw [er_37]; exact clr_ne (fun z => absurd z.1 (by decide)))
  have hE := hE9
  have hR := hR9
  have hB := hB9
  refine W.widen (k := 4) (n := 120) (Nat.le_of_ble_eq_true rfl) (Nat.le_of_ble_eq_true rfl) ?_
  refine W.eq (g2 := F0 m 33 ls [.ref (al_32.2 72 (al.1 72)), .ref (al_32.2 68 i0)]) (by rw [ho_a_31, ho_o]) ?_
  refine q_putr (t := 68) (i := i0) (k := 3) (t' := 72) (j := (al.1 72)) C hU hS k_68 (hc := rfl) uwX4 tyX4 tyX4_ok nmX4 hi_o (by decide) rfl (Or.inr ⟨rfl, hnm, rfl⟩) rfl fl_X4_21 dX4_init_33 (fun _ => rfl) (fun _ => rfl) (fun H locs hU hS => ?_)
  have hz : sz ≤ H.size := Nat.le_trans hz0 hS.1
  obtain ⟨rv_39, er_40⟩ : ∃ z, z = up3 rv_34 68 i0 3 (some (al.1 72)) := ⟨_, rfl⟩
  rw [← er_40] at hU
  have hB : RB al_32 rv_39 := by rw [er_40]; exact hB.put rfl hi_a_31
  have hE := hE.putr (t := 68) (i := i0) (k := 3) (x := some (al.1 72)) (by decide)
  rw [← er_40] at hE
  have hN : NN 68 i0 [3, 2, 1, 0] rv_39 := by rw [er_40]; exact hN.put 3 (al.1 72)
  refine lv_aload_n hx hb dX4_init_36 rfl (lv_at hl 0 rfl) ?_
  refine lv_bipush (v := 30) hx hb dX4_init_37 (by decide) ?_
  refine q_newp (t := 73) (ty := .int) C hU hS hB hz rfl (Or.inl rfl) k_73 (fun _ => rfl) ac_int (by decide) (by decide) (by decide) (Nat.le_of_ble_eq_true rfl) (Nat.le_of_ble_eq_true rfl) dX4_init_39 (fun a_41 H hU hS hz => ?_)
  have hc_48 : al_32.1 73 = al.1 73 := hE.1 73
  have hE9 := hE.new 73 a_41
  have hR9 := hR.new 73 a_41
  have hB9 := hB.new 73 a_41
  have hn9 := grow_new (al := al_32) (t := 73) (a := a_41)
  rw [hc_48] at hU hE9 hR9 hB9 hn9
  obtain ⟨al_42, ea_45⟩ : ∃ z, z = grow al_32 73 a_41 := ⟨_, rfl⟩
  obtain ⟨iv_43, ei_46⟩ : ∃ z, z = clr iv_33 73 (al.1 73) 0 := ⟨_, rfl⟩
  obtain ⟨rv_44, er_47⟩ : ∃ z, z = clr rv_39 73 (al.1 73) none := ⟨_, rfl⟩
  rw [← ea_45] at hU hE9 hR9 hB9 hn9
  rw [← ei_46] at hU hE9 hR9
  rw [← er_47] at hU hE9 hB9
  have ho_a_1 : al_42.2 69 (al.1 69) = a_1 := by rw [ea_45, grow_ad hi_a_1]; exact ho_a_1
  have hi_a_1 : (al.1 69) < al_42.1 69 := by rw [ea_45, grow_ct]; omega
  have ho_a_11 : al_42.2 70 (al.1 70) = a_11 := by rw [ea_45, grow_ad hi_a_11]; exact ho_a_11
  have hi_a_11 : (al.1 70) < al_42.1 70 := by rw [ea_45, grow_ct]; omega
  have ho_a_21 : al_42.2 71 (al.1 71) = a_21 := by rw [ea_45, grow_ad hi_a_21]; exact ho_a_21
  have hi_a_21 : (al.1 71) < al_42.1 71 := by rw [ea_45, grow_ct]; omega
  have ho_a_31 : al_42.2 72 (al.1 72) = a_31 := by rw [ea_45, grow_ad hi_a_31]; exact ho_a_31
  have hi_a_31 : (al.1 72) < al_42.1 72 := by rw [ea_45, grow_ct]; omega
  have ho_o : al_42.2 68 i0 = o := by rw [ea_45, grow_ad hi_o]; exact ho_o
  have hi_o : i0 < al_42.1 68 := by rw [ea_45, grow_ct]; omega
  have ho_a_41 : al_42.2 73 (al.1 73) = a_41 := hn9
  have hi_a_41 : (al.1 73) < al_42.1 73 := by rw [ea_45, grow_ct, hc_48]; simp
  have hN : NN 68 i0 [3, 2, 1, 0] rv_44 := hN.keep (fun k => by rw [er_47]; exact clr_ne (fun z => absurd z.1 (by decide)))
  have hE := hE9
  have hR := hR9
  have hB := hB9
  refine W.widen (k := 5) (n := 150) (Nat.le_of_ble_eq_true rfl) (Nat.le_of_ble_eq_true rfl) ?_
  refine W.eq (g2 := F0 m 41 ls [.ref (al_42.2 73 (al.1 73)), .ref (al_42.2 68 i0)]) (by rw [ho_a_41, ho_o]) ?_
  refine q_putr (t := 68) (i := i0) (k := 4) (t' := 73) (j := (al.1 73)) C hU hS k_68 (hc := rfl) uwX4 tyX4 tyX4_ok nmX4 hi_o (by decide) rfl (Or.inr ⟨rfl, hnm, rfl⟩) rfl fl_X4_24 dX4_init_41 (fun _ => rfl) (fun _ => rfl) (fun H locs hU hS => ?_)
  have hz : sz ≤ H.size := Nat.le_trans hz0 hS.1
  obtain ⟨rv_49, er_50⟩ : ∃ z, z = up3 rv_44 68 i0 4 (some (al.1 73)) := ⟨_, rfl⟩
  rw [← er_50] at hU
  have hB : RB al_42 rv_49 := by rw [er_50]; exact hB.put rfl hi_a_41
  have hE := hE.putr (t := 68) (i := i0) (k := 4) (x := some (al.1 73)) (by decide)
  rw [← er_50] at hE
  have hN : NN 68 i0 [4, 3, 2, 1, 0] rv_49 := by rw [er_50]; exact hN.put 4 (al.1 73)
  refine lv_aload_n hx hb dX4_init_44 rfl (lv_at hl 0 rfl) ?_
  refine lv_bipush (v := 40) hx hb dX4_init_45 (by decide) ?_
  refine q_newp (t := 74) (ty := .int) C hU hS hB hz rfl (Or.inl rfl) k_74 (fun _ => rfl) ac_int (by decide) (by decide) (by decide) (Nat.le_of_ble_eq_true rfl) (Nat.le_of_ble_eq_true rfl) dX4_init_47 (fun a_51 H hU hS hz => ?_)
  have hc_58 : al_42.1 74 = al.1 74 := hE.1 74
  have hE9 := hE.new 74 a_51
  have hR9 := hR.new 74 a_51
  have hB9 := hB.new 74 a_51
  have hn9 := grow_new (al := al_42) (t := 74) (a := a_51)
  rw [hc_58] at hU hE9 hR9 hB9 hn9
  obtain ⟨al_52, ea_55⟩ : ∃ z, z = grow al_42 74 a_51 := ⟨_, rfl⟩
  obtain ⟨iv_53, ei_56⟩ : ∃ z, z = clr iv_43 74 (al.1 74) 0 := ⟨_, rfl⟩
  obtain ⟨rv_54, er_57⟩ : ∃ z, z = clr rv_49 74 (al.1 74) none := ⟨_, rfl⟩
  rw [← ea_55] at hU hE9 hR9 hB9 hn9
  rw [← ei_56] at hU hE9 hR9
  rw [← er_57] at hU hE9 hB9
  have ho_a_1 : al_52.2 69 (al.1 69) = a_1 := by rw [ea_55, grow_ad hi_a_1]; exact ho_a_1
  have hi_a_1 : (al.1 69) < al_52.1 69 := by rw [ea_55, grow_ct]; omega
  have ho_a_11 : al_52.2 70 (al.1 70) = a_11 := by rw [ea_55, grow_ad hi_a_11]; exact ho_a_11
  have hi_a_11 : (al.1 70) < al_52.1 70 := by rw [ea_55, grow_ct]; omega
  have ho_a_21 : al_52.2 71 (al.1 71) = a_21 := by rw [ea_55, grow_ad hi_a_21]; exact ho_a_21
  have hi_a_21 : (al.1 71) < al_52.1 71 := by rw [ea_55, grow_ct]; omega
  have ho_a_31 : al_52.2 72 (al.1 72) = a_31 := by rw [ea_55, grow_ad hi_a_31]; exact ho_a_31
  have hi_a_31 : (al.1 72) < al_52.1 72 := by rw [ea_55, grow_ct]; omega
  have ho_a_41 : al_52.2 73 (al.1 73) = a_41 := by rw [ea_55, grow_ad hi_a_41]; exact ho_a_41
  have hi_a_41 : (al.1 73) < al_52.1 73 := by rw [ea_55, grow_ct]; omega
  have ho_o : al_52.2 68 i0 = o := by rw [ea_55, grow_ad hi_o]; exact ho_o
  have hi_o : i0 < al_52.1 68 := by rw [ea_55, grow_ct]; omega
  have ho_a_51 : al_52.2 74 (al.1 74) = a_51 := hn9
  have hi_a_51 : (al.1 74) < al_52.1 74 := by rw [ea_55, grow_ct, hc_58]; simp
  have hN : NN 68 i0 [4, 3, 2, 1, 0] rv_54 := hN.keep (fun k => by rw [er_57]; exact clr_ne (fun z => absurd z.1 (by decide)))
  have hE := hE9
  have hR := hR9
  have hB := hB9
  refine W.widen (k := 6) (n := 190) (Nat.le_of_ble_eq_true rfl) (Nat.le_of_ble_eq_true rfl) ?_
  refine W.eq (g2 := F0 m 49 ls [.ref (al_52.2 74 (al.1 74)), .ref (al_52.2 68 i0)]) (by rw [ho_a_51, ho_o]) ?_
  refine q_putr (t := 68) (i := i0) (k := 6) (t' := 74) (j := (al.1 74)) C hU hS k_68 (hc := rfl) uwX4 tyX4 tyX4_ok nmX4 hi_o (by decide) rfl (Or.inr ⟨rfl, hnm, rfl⟩) rfl fl_X4_27 dX4_init_49 (fun _ => rfl) (fun _ => rfl) (fun H locs hU hS => ?_)
  have hz : sz ≤ H.size := Nat.le_trans hz0 hS.1
  obtain ⟨rv_59, er_60⟩ : ∃ z, z = up3 rv_54 68 i0 6 (some (al.1 74)) := ⟨_, rfl⟩
  rw [← er_60] at hU
  have hB : RB al_52 rv_59 := by rw [er_60]; exact hB.put rfl hi_a_51
  have hE := hE.putr (t := 68) (i := i0) (k := 6) (x := some (al.1 74)) (by decide)
  rw [← er_60] at hE
  have hN : NN 68 i0 [6, 4, 3, 2, 1, 0] rv_59 := by rw [er_60]; exact hN.put 6 (al.1 74)
  refine lv_aload_n hx hb dX4_init_52 rfl (lv_at hl 0 rfl) ?_
  refine lv_bipush (v := 40) hx hb dX4_init_53 (by decide) ?_
  refine q_newp (t := 75) (ty := .int) C hU hS hB hz rfl (Or.inl rfl) k_75 (fun _ => rfl) ac_int (by decide) (by decide) (by decide) (Nat.le_of_ble_eq_true rfl) (Nat.le_of_ble_eq_true rfl) dX4_init_55 (fun a_61 H hU hS hz => ?_)
  have hc_68 : al_52.1 75 = al.1 75 := hE.1 75
  have hE9 := hE.new 75 a_61
  have hR9 := hR.new 75 a_61
  have hB9 := hB.new 75 a_61
  have hn9 := grow_new (al := al_52) (t := 75) (a := a_61)
  rw [hc_68] at hU hE9 hR9 hB9 hn9
  obtain ⟨al_62, ea_65⟩ : ∃ z, z = grow al_52 75 a_61 := ⟨_, rfl⟩
  obtain ⟨iv_63, ei_66⟩ : ∃ z, z = clr iv_53 75 (al.1 75) 0 := ⟨_, rfl⟩
  obtain ⟨rv_64, er_67⟩ : ∃ z, z = clr rv_59 75 (al.1 75) none := ⟨_, rfl⟩
  rw [← ea_65] at hU hE9 hR9 hB9 hn9
  rw [← ei_66] at hU hE9 hR9
  rw [← er_67] at hU hE9 hB9
  have ho_a_1 : al_62.2 69 (al.1 69) = a_1 := by rw [ea_65, grow_ad hi_a_1]; exact ho_a_1
  have hi_a_1 : (al.1 69) < al_62.1 69 := by rw [ea_65, grow_ct]; omega
  have ho_a_11 : al_62.2 70 (al.1 70) = a_11 := by rw [ea_65, grow_ad hi_a_11]; exact ho_a_11
  have hi_a_11 : (al.1 70) < al_62.1 70 := by rw [ea_65, grow_ct]; omega
  have ho_a_21 : al_62.2 71 (al.1 71) = a_21 := by rw [ea_65, grow_ad hi_a_21]; exact ho_a_21
  have hi_a_21 : (al.1 71) < al_62.1 71 := by rw [ea_65, grow_ct]; omega
  have ho_a_31 : al_62.2 72 (al.1 72) = a_31 := by rw [ea_65, grow_ad hi_a_31]; exact ho_a_31
  have hi_a_31 : (al.1 72) < al_62.1 72 := by rw [ea_65, grow_ct]; omega
  have ho_a_41 : al_62.2 73 (al.1 73) = a_41 := by rw [ea_65, grow_ad hi_a_41]; exact ho_a_41
  have hi_a_41 : (al.1 73) < al_62.1 73 := by rw [ea_65, grow_ct]; omega
  have ho_a_51 : al_62.2 74 (al.1 74) = a_51 := by rw [ea_65, grow_ad hi_a_51]; exact ho_a_51
  have hi_a_51 : (al.1 74) < al_62.1 74 := by rw [ea_65, grow_ct]; omega
  have ho_o : al_62.2 68 i0 = o := by rw [ea_65, grow_ad hi_o]; exact ho_o
  have hi_o : i0 < al_62.1 68 := by rw [ea_65, grow_ct]; omega
  have ho_a_61 : al_62.2 75 (al.1 75) = a_61 := hn9
  have hi_a_61 : (al.1 75) < al_62.1 75 := by rw [ea_65, grow_ct, hc_68]; simp
  have hN : NN 68 i0 [6, 4, 3, 2, 1, 0] rv_64 := hN.keep (fun k => by rw [er_67]; exact clr_ne (fun z => absurd z.1 (by decide)))
  have hE := hE9
  have hR := hR9
  have hB := hB9
  refine W.widen (k := 7) (n := 230) (Nat.le_of_ble_eq_true rfl) (Nat.le_of_ble_eq_true rfl) ?_
  refine W.eq (g2 := F0 m 57 ls [.ref (al_62.2 75 (al.1 75)), .ref (al_62.2 68 i0)]) (by rw [ho_a_61, ho_o]) ?_
  refine q_putr (t := 68) (i := i0) (k := 7) (t' := 75) (j := (al.1 75)) C hU hS k_68 (hc := rfl) uwX4 tyX4 tyX4_ok nmX4 hi_o (by decide) rfl (Or.inr ⟨rfl, hnm, rfl⟩) rfl fl_X4_30 dX4_init_57 (fun _ => rfl) (fun _ => rfl) (fun H locs hU hS => ?_)
  have hz : sz ≤ H.size := Nat.le_trans hz0 hS.1
  obtain ⟨rv_69, er_70⟩ : ∃ z, z = up3 rv_64 68 i0 7 (some (al.1 75)) := ⟨_, rfl⟩
  rw [← er_70] at hU
  have hB : RB al_62 rv_69 := by rw [er_70]; exact hB.put rfl hi_a_61
  have hE := hE.putr (t := 68) (i := i0) (k := 7) (x := some (al.1 75)) (by decide)
  rw [← er_70] at hE
  have hN : NN 68 i0 [7, 6, 4, 3, 2, 1, 0] rv_69 := by rw [er_70]; exact hN.put 7 (al.1 75)
  refine lv_aload_n hx hb dX4_init_60 rfl (lv_at hl 0 rfl) ?_
  refine lv_bipush (v := 40) hx hb dX4_init_61 (by decide) ?_
  refine q_newp (t := 76) (ty := .int) C hU hS hB hz rfl (Or.inl rfl) k_76 (fun _ => rfl) ac_int (by decide) (by decide) (by decide) (Nat.le_of_ble_eq_true rfl) (Nat.le_of_ble_eq_true rfl) dX4_init_63 (fun a_71 H hU hS hz => ?_)
  have hc_78 : al_62.1 76 = al.1 76 := hE.1 76
  have hE9 := hE.new 76 a_71
  have hR9 := hR.new 76 a_71
  have hB9 := hB.new 76 a_71
  have hn9 := grow_new (al := al_62) (t := 76) (a := a_71)
  rw [hc_78] at hU hE9 hR9 hB9 hn9
  obtain ⟨al_72, ea_75⟩ : ∃ z, z = grow al_62 76 a_71 := ⟨_, rfl⟩
  obtain ⟨iv_73, ei_76⟩ : ∃ z, z = clr iv_63 76 (al.1 76) 0 := ⟨_, rfl⟩
  obtain ⟨rv_74, er_77⟩ : ∃ z, z = clr rv_69 76 (al.1 76) none := ⟨_, rfl⟩
  rw [← ea_75] at hU hE9 hR9 hB9 hn9
  rw [← ei_76] at hU hE9 hR9
  rw [← er_77] at hU hE9 hB9
  have ho_a_1 : al_72.2 69 (al.1 69) = a_1 := by rw [ea_75, grow_ad hi_a_1]; exact ho_a_1
  have hi_a_1 : (al.1 69) < al_72.1 69 := by rw [ea_75, grow_ct]; omega
  have ho_a_11 : al_72.2 70 (al.1 70) = a_11 := by rw [ea_75, grow_ad hi_a_11]; exact ho_a_11
  have hi_a_11 : (al.1 70) < al_72.1 70 := by rw [ea_75, grow_ct]; omega
  have ho_a_21 : al_72.2 71 (al.1 71) = a_21 := by rw [ea_75, grow_ad hi_a_21]; exact ho_a_21
  have hi_a_21 : (al.1 71) < al_72.1 71 := by rw [ea_75, grow_ct]; omega
  have ho_a_31 : al_72.2 72 (al.1 72) = a_31 := by rw [ea_75, grow_ad hi_a_31]; exact ho_a_31
  have hi_a_31 : (al.1 72) < al_72.1 72 := by rw [ea_75, grow_ct]; omega
  have ho_a_41 : al_72.2 73 (al.1 73) = a_41 := by rw [ea_75, grow_ad hi_a_41]; exact ho_a_41
  have hi_a_41 : (al.1 73) < al_72.1 73 := by rw [ea_75, grow_ct]; omega
  have ho_a_51 : al_72.2 74 (al.1 74) = a_51 := by rw [ea_75, grow_ad hi_a_51]; exact ho_a_51
  have hi_a_51 : (al.1 74) < al_72.1 74 := by rw [ea_75, grow_ct]; omega
  have ho_a_61 : al_72.2 75 (al.1 75) = a_61 := by rw [ea_75, grow_ad hi_a_61]; exact ho_a_61
  have hi_a_61 : (al.1 75) < al_72.1 75 := by rw [ea_75, grow_ct]; omega
  have ho_o : al_72.2 68 i0 = o := by rw [ea_75, grow_ad hi_o]; exact ho_o
  have hi_o : i0 < al_72.1 68 := by rw [ea_75, grow_ct]; omega
  have ho_a_71 : al_72.2 76 (al.1 76) = a_71 := hn9
  have hi_a_71 : (al.1 76) < al_72.1 76 := by rw [ea_75, grow_ct, hc_78]; simp
  have hN : NN 68 i0 [7, 6, 4, 3, 2, 1, 0] rv_74 := hN.keep (fun k => by rw [er_77]; exact clr_ne (fun z => absurd z.1 (by decide)))
  have hE := hE9
  have hR := hR9
  have hB := hB9
  refine W.widen (k := 8) (n := 270) (Nat.le_of_ble_eq_true rfl) (Nat.le_of_ble_eq_true rfl) ?_
  refine W.eq (g2 := F0 m 65 ls [.ref (al_72.2 76 (al.1 76)), .ref (al_72.2 68 i0)]) (by rw [ho_a_71, ho_o]) ?_
  refine q_putr (t := 68) (i := i0) (k := 8) (t' := 76) (j := (al.1 76)) C hU hS k_68 (hc := rfl) uwX4 tyX4 tyX4_ok nmX4 hi_o (by decide) rfl (Or.inr ⟨rfl, hnm, rfl⟩) rfl fl_X4_33 dX4_init_65 (fun _ => rfl) (fun _ => rfl) (fun H locs hU hS => ?_)
  have hz : sz ≤ H.size := Nat.le_trans hz0 hS.1
  obtain ⟨rv_79, er_80⟩ : ∃ z, z = up3 rv_74 68 i0 8 (some (al.1 76)) := ⟨_, rfl⟩
  rw [← er_80] at hU
  have hB : RB al_72 rv_79 := by rw [er_80]; exact hB.put rfl hi_a_71
  have hE := hE.putr (t := 68) (i := i0) (k := 8) (x := some (al.1 76)) (by decide)
  rw [← er_80] at hE
  have hN : NN 68 i0 [8, 7, 6, 4, 3, 2, 1, 0] rv_79 := by rw [er_80]; exact hN.put 8 (al.1 76)
  refine lv_aload_n hx hb dX4_init_68 rfl (lv_at hl 0 rfl) ?_
  refine lv_bipush (v := 40) hx hb dX4_init_69 (by decide) ?_
  refine q_newp (t := 77) (ty := .int) C hU hS hB hz rfl (Or.inl rfl) k_77 (fun _ => rfl) ac_int (by decide) (by decide) (by decide) (Nat.le_of_ble_eq_true rfl) (Nat.le_of_ble_eq_true rfl) dX4_init_71 (fun a_81 H hU hS hz => ?_)
  have hc_88 : al_72.1 77 = al.1 77 := hE.1 77
  have hE9 := hE.new 77 a_81
  have hR9 := hR.new 77 a_81
  have hB9 := hB.new 77 a_81
  have hn9 := grow_new (al := al_72) (t := 77) (a := a_81)
  rw [hc_88] at hU hE9 hR9 hB9 hn9
  obtain ⟨al_82, ea_85⟩ : ∃ z, z = grow al_72 77 a_81 := ⟨_, rfl⟩
  obtain ⟨iv_83, ei_86⟩ : ∃ z, z = clr iv_73 77 (al.1 77) 0 := ⟨_, rfl⟩
  obtain ⟨rv_84, er_87⟩ : ∃ z, z = clr rv_79 77 (al.1 77) none := ⟨_, rfl⟩
  rw [← ea_85] at hU hE9 hR9 hB9 hn9
  rw [← ei_86] at hU hE9 hR9
  rw [← er_87] at hU hE9 hB9
  have ho_a_1 : al_82.2 69 (al.1 69) = a_1 := by rw [ea_85, grow_ad hi_a_1]; exact ho_a_1
  have hi_a_1 : (al.1 69) < al_82.1 69 := by rw [ea_85, grow_ct]; omega
  have ho_a_11 : al_82.2 70 (al.1 70) = a_11 := by rw [ea_85, grow_ad hi_a_11]; exact ho_a_11
  have hi_a_11 : (al.1 70) < al_82.1 70 := by rw [ea_85, grow_ct]; omega
  have ho_a_21 : al_82.2 71 (al.1 71) = a_21 := by rw [ea_85, grow_ad hi_a_21]; exact ho_a_21
  have hi_a_21 : (al.1 71) < al_82.1 71 := by rw [ea_85, grow_ct]; omega
  have ho_a_31 : al_82.2 72 (al.1 72) = a_31 := by rw [ea_85, grow_ad hi_a_31]; exact ho_a_31
  have hi_a_31 : (al.1 72) < al_82.1 72 := by rw [ea_85, grow_ct]; omega
  have ho_a_41 : al_82.2 73 (al.1 73) = a_41 := by rw [ea_85, grow_ad hi_a_41]; exact ho_a_41
  have hi_a_41 : (al.1 73) < al_82.1 73 := by rw [ea_85, grow_ct]; omega
  have ho_a_51 : al_82.2 74 (al.1 74) = a_51 := by rw [ea_85, grow_ad hi_a_51]; exact ho_a_51
  have hi_a_51 : (al.1 74) < al_82.1 74 := by rw [ea_85, grow_ct]; omega
  have ho_a_61 : al_82.2 75 (al.1 75) = a_61 := by rw [ea_85, grow_ad hi_a_61]; exact ho_a_61
  have hi_a_61 : (al.1 75) < al_82.1 75 := by rw [ea_85, grow_ct]; omega
  have ho_a_71 : al_82.2 76 (al.1 76) = a_71 := by rw [ea_85, grow_ad hi_a_71]; exact ho_a_71
  have hi_a_71 : (al.1 76) < al_82.1 76 := by rw [ea_85, grow_ct]; omega
  have ho_o : al_82.2 68 i0 = o := by rw [ea_85, grow_ad hi_o]; exact ho_o
  have hi_o : i0 < al_82.1 68 := by rw [ea_85, grow_ct]; omega
  have ho_a_81 : al_82.2 77 (al.1 77) = a_81 := hn9
  have hi_a_81 : (al.1 77) < al_82.1 77 := by rw [ea_85, grow_ct, hc_88]; simp
  have hN : NN 68 i0 [8, 7, 6, 4, 3, 2, 1, 0] rv_84 := hN.keep (fun k => by rw [er_87]; exact clr_ne (fun z => absurd z.1 (by decide)))
  have hE := hE9
  have hR := hR9
  have hB := hB9
  refine W.widen (k := 9) (n := 310) (Nat.le_of_ble_eq_true rfl) (Nat.le_of_ble_eq_true rfl) ?_
  refine W.eq (g2 := F0 m 73 ls [.ref (al_82.2 77 (al.1 77)), .ref (al_82.2 68 i0)]) (by rw [ho_a_81, ho_o]) ?_
  refine q_putr (t := 68) (i := i0) (k := 9) (t' := 77) (j := (al.1 77)) C hU hS k_68 (hc := rfl) uwX4 tyX4 tyX4_ok nmX4 hi_o (by decide) rfl (Or.inr ⟨rfl, hnm, rfl⟩) rfl fl_X4_36 dX4_init_73 (fun _ => rfl) (fun _ => rfl) (fun H locs hU hS => ?_)
  have hz : sz ≤ H.size := Nat.le_trans hz0 hS.1
  obtain ⟨rv_89, er_90⟩ : ∃ z, z = up3 rv_84 68 i0 9 (some (al.1 77)) := ⟨_, rfl⟩
  rw [← er_90] at hU
  have hB : RB al_82 rv_89 := by rw [er_90]; exact hB.put rfl hi_a_81
  have hE := hE.putr (t := 68) (i := i0) (k := 9) (x := some (al.1 77)) (by decide)
  rw [← er_90] at hE
  have hN : NN 68 i0 [9, 8, 7, 6, 4, 3, 2, 1, 0] rv_89 := by rw [er_90]; exact hN.put 9 (al.1 77)
  refine lv_aload_n hx hb dX4_init_76 rfl (lv_at hl 0 rfl) ?_
  refine lv_bipush (v := 40) hx hb dX4_init_77 (by decide) ?_
  refine q_newp (t := 78) (ty := .boolean) C hU hS hB hz rfl (Or.inr rfl) k_78 (fun _ => rfl) ac_boolean (by decide) (by decide) (by decide) (Nat.le_of_ble_eq_true rfl) (Nat.le_of_ble_eq_true rfl) dX4_init_79 (fun a_91 H hU hS hz => ?_)
  have hc_98 : al_82.1 78 = al.1 78 := hE.1 78
  have hE9 := hE.new 78 a_91
  have hR9 := hR.new 78 a_91
  have hB9 := hB.new 78 a_91
  have hn9 := grow_new (al := al_82) (t := 78) (a := a_91)
  rw [hc_98] at hU hE9 hR9 hB9 hn9
  obtain ⟨al_92, ea_95⟩ : ∃ z, z = grow al_82 78 a_91 := ⟨_, rfl⟩
  obtain ⟨iv_93, ei_96⟩ : ∃ z, z = clr iv_83 78 (al.1 78) 0 := ⟨_, rfl⟩
  obtain ⟨rv_94, er_97⟩ : ∃ z, z = clr rv_89 78 (al.1 78) none := ⟨_, rfl⟩
  rw [← ea_95] at hU hE9 hR9 hB9 hn9
  rw [← ei_96] at hU hE9 hR9
  rw [← er_97] at hU hE9 hB9
  have ho_a_1 : al_92.2 69 (al.1 69) = a_1 := by rw [ea_95, grow_ad hi_a_1]; exact ho_a_1
  have hi_a_1 : (al.1 69) < al_92.1 69 := by rw [ea_95, grow_ct]; omega
  have ho_a_11 : al_92.2 70 (al.1 70) = a_11 := by rw [ea_95, grow_ad hi_a_11]; exact ho_a_11
  have hi_a_11 : (al.1 70) < al_92.1 70 := by rw [ea_95, grow_ct]; omega
  have ho_a_21 : al_92.2 71 (al.1 71) = a_21 := by rw [ea_95, grow_ad hi_a_21]; exact ho_a_21
  have hi_a_21 : (al.1 71) < al_92.1 71 := by rw [ea_95, grow_ct]; omega
  have ho_a_31 : al_92.2 72 (al.1 72) = a_31 := by rw [ea_95, grow_ad hi_a_31]; exact ho_a_31
  have hi_a_31 : (al.1 72) < al_92.1 72 := by rw [ea_95, grow_ct]; omega
  have ho_a_41 : al_92.2 73 (al.1 73) = a_41 := by rw [ea_95, grow_ad hi_a_41]; exact ho_a_41
  have hi_a_41 : (al.1 73) < al_92.1 73 := by rw [ea_95, grow_ct]; omega
  have ho_a_51 : al_92.2 74 (al.1 74) = a_51 := by rw [ea_95, grow_ad hi_a_51]; exact ho_a_51
  have hi_a_51 : (al.1 74) < al_92.1 74 := by rw [ea_95, grow_ct]; omega
  have ho_a_61 : al_92.2 75 (al.1 75) = a_61 := by rw [ea_95, grow_ad hi_a_61]; exact ho_a_61
  have hi_a_61 : (al.1 75) < al_92.1 75 := by rw [ea_95, grow_ct]; omega
  have ho_a_71 : al_92.2 76 (al.1 76) = a_71 := by rw [ea_95, grow_ad hi_a_71]; exact ho_a_71
  have hi_a_71 : (al.1 76) < al_92.1 76 := by rw [ea_95, grow_ct]; omega
  have ho_a_81 : al_92.2 77 (al.1 77) = a_81 := by rw [ea_95, grow_ad hi_a_81]; exact ho_a_81
  have hi_a_81 : (al.1 77) < al_92.1 77 := by rw [ea_95, grow_ct]; omega
  have ho_o : al_92.2 68 i0 = o := by rw [ea_95, grow_ad hi_o]; exact ho_o
  have hi_o : i0 < al_92.1 68 := by rw [ea_95, grow_ct]; omega
  have ho_a_91 : al_92.2 78 (al.1 78) = a_91 := hn9
  have hi_a_91 : (al.1 78) < al_92.1 78 := by rw [ea_95, grow_ct, hc_98]; simp
  have hN : NN 68 i0 [9, 8, 7, 6, 4, 3, 2, 1, 0] rv_94 := hN.keep (fun k => by rw [er_97]; exact clr_ne (fun z => absurd z.1 (by decide)))
  have hE := hE9
  have hR := hR9
  have hB := hB9
  refine W.widen (k := 10) (n := 350) (Nat.le_of_ble_eq_true rfl) (Nat.le_of_ble_eq_true rfl) ?_
  refine W.eq (g2 := F0 m 81 ls [.ref (al_92.2 78 (al.1 78)), .ref (al_92.2 68 i0)]) (by rw [ho_a_91, ho_o]) ?_
  refine q_putr (t := 68) (i := i0) (k := 10) (t' := 78) (j := (al.1 78)) C hU hS k_68 (hc := rfl) uwX4 tyX4 tyX4_ok nmX4 hi_o (by decide) rfl (Or.inr ⟨rfl, hnm, rfl⟩) rfl fl_X4_39 dX4_init_81 (fun _ => rfl) (fun _ => rfl) (fun H locs hU hS => ?_)
  have hz : sz ≤ H.size := Nat.le_trans hz0 hS.1
  obtain ⟨rv_99, er_100⟩ : ∃ z, z = up3 rv_94 68 i0 10 (some (al.1 78)) := ⟨_, rfl⟩
  rw [← er_100] at hU
  have hB : RB al_92 rv_99 := by rw [er_100]; exact hB.put rfl hi_a_91
  have hE := hE.putr (t := 68) (i := i0) (k := 10) (x := some (al.1 78)) (by decide)
  rw [← er_100] at hE
  have hN : NN 68 i0 [10, 9, 8, 7, 6, 4, 3, 2, 1, 0] rv_99 := by rw [er_100]; exact hN.put 10 (al.1 78)
  exact q_vretA C hr hlk hU hS (⟨hR, hB, hE, hN⟩) dX4_init_84
set_option maxHeartbeats 4000000 in
set_option maxRecDepth 100000 in
theorem c_X3_init {l : Launch} {D : va_G} {cA : FieldType → ClassId} {sz : Nat} {al : Al} {iv : Iv} {rv : Rv} (hR : RG al iv) (hB : RB al rv) (i0 : Nat) (hi0 : i0 < al.1 84) : Met l yX3_init (wd yX3_init cX3_init 1 none) (rmA 1 3 67) (PcA D cA sz al iv rv [.ref (al.2 84 i0)] (fun _ => True)) (QVA D cA sz (fun al' iv' rv' => RG al' iv' ∧ RB al' rv' ∧ EXT (nx (nx (nx (fun _ => 0) 85) 86) 87) ([], [(84, 0), (84, 2), (84, 3)]) al iv rv al' iv' rv' ∧ NN 84 i0 [3, 2, 0] rv')) 3 67 (Aq sz) := by
  refine mk_a (by decide) (Nat.le_of_ble_eq_true rfl) rfl ?_
  intro p e s m below meth c ls C hr hlk hnm hU hS hz _ hl
  have hx := C.1.1
  have hb := C.1.2.1
  have k5 : (5 : Int32).toInt = 5 := by decide
  have k30 : (30 : Int32).toInt = 30 := by decide
  have k32 : (32 : Int32).toInt = 32 := by decide
  obtain ⟨o, ho_o⟩ : ∃ z, al.2 84 i0 = z := ⟨_, rfl⟩
  have hi_o := hi0
  have hl : lv_has ls 1 [(0, .ref o)] := by rw [← ho_o]; exact hl
  have hE : EXT (fun _ => 0) ([], [(84, 0), (84, 2), (84, 3)]) al iv rv al iv rv := EXT.rf
  have hN : NN 84 i0 [] rv := NN.nil
  have hz0 := hz
  refine lv_aload_n hx hb dX3_init_0 rfl (lv_at hl 0 rfl) ?_
  refine W.objInit hx hb C.1.2.2.2.1 (C.1.2.2.2.2 _ oi_X3) (C.1.2.2.2.2 _ oi_m) (C.1.2.2.2.2 _ oi_c) rfl (by rw [C.1.2.2.1]; exact hl.1) rfl dX3_init_1 (Nat.le_of_ble_eq_true rfl) (Nat.le_of_ble_eq_true rfl) ?_
  refine W.eq (g2 := F0 m 4 ls []) rfl ?_
  refine lv_aload_n hx hb dX3_init_4 rfl (lv_at hl 0 rfl) ?_
  refine lv_bipush (v := 30) hx hb dX3_init_5 (by decide) ?_
  refine q_newr (t := 85) (Cn := "LateClaims$Claim") C hU hS hB hz k_85 (by decide) (fun _ => rfl) kl_X3_11 C.2.2.2.1.2.2.2 (by decide) (by decide) (by decide) (Nat.le_of_ble_eq_true rfl) (Nat.le_of_ble_eq_true rfl) dX3_init_7 (fun a_1 H hU hS hz => ?_)
  have hc_8 : al.1 85 = al.1 85 := hE.1 85
  have hE9 := hE.new 85 a_1
  have hR9 := hR.new 85 a_1
  have hB9 := hB.new 85 a_1
  have hn9 := grow_new (al := al) (t := 85) (a := a_1)
  rw [hc_8] at hU hE9 hR9 hB9 hn9
  obtain ⟨al_2, ea_5⟩ : ∃ z, z = grow al 85 a_1 := ⟨_, rfl⟩
  obtain ⟨iv_3, ei_6⟩ : ∃ z, z = clr iv 85 (al.1 85) 0 := ⟨_, rfl⟩
  obtain ⟨rv_4, er_7⟩ : ∃ z, z = clr rv 85 (al.1 85) none := ⟨_, rfl⟩
  rw [← ea_5] at hU hE9 hR9 hB9 hn9
  rw [← ei_6] at hU hE9 hR9
  rw [← er_7] at hU hE9 hB9
  have ho_o : al_2.2 84 i0 = o := by rw [ea_5, grow_ad hi_o]; exact ho_o
  have hi_o : i0 < al_2.1 84 := by rw [ea_5, grow_ct]; omega
  have ho_a_1 : al_2.2 85 (al.1 85) = a_1 := hn9
  have hi_a_1 : (al.1 85) < al_2.1 85 := by rw [ea_5, grow_ct, hc_8]; simp
  have hN : NN 84 i0 [] rv_4 := hN.keep (fun k => by rw [er_7]; exact clr_ne (fun z => absurd z.1 (by decide)))
  have hE := hE9
  have hR := hR9
  have hB := hB9
  refine W.widen (k := 1) (n := 30) (Nat.le_of_ble_eq_true rfl) (Nat.le_of_ble_eq_true rfl) ?_
  refine W.eq (g2 := F0 m 10 ls [.ref (al_2.2 85 (al.1 85)), .ref (al_2.2 84 i0)]) (by rw [ho_a_1, ho_o]) ?_
  refine q_putr (t := 84) (i := i0) (k := 0) (t' := 85) (j := (al.1 85)) C hU hS k_84 (hc := rfl) uwX3 tyX3 tyX3_ok nmX3 hi_o (by decide) rfl (Or.inr ⟨rfl, hnm, rfl⟩) rfl fl_X3_13 dX3_init_10 (fun _ => rfl) (fun _ => rfl) (fun H locs hU hS => ?_)
  have hz : sz ≤ H.size := Nat.le_trans hz0 hS.1
  obtain ⟨rv_9, er_10⟩ : ∃ z, z = up3 rv_4 84 i0 0 (some (al.1 85)) := ⟨_, rfl⟩
  rw [← er_10] at hU
  have hB : RB al_2 rv_9 := by rw [er_10]; exact hB.put rfl hi_a_1
  have hE := hE.putr (t := 84) (i := i0) (k := 0) (x := some (al.1 85)) (by decide)
  rw [← er_10] at hE
  have hN : NN 84 i0 [0] rv_9 := by rw [er_10]; exact hN.put 0 (al.1 85)
  refine lv_aload_n hx hb dX3_init_13 rfl (lv_at hl 0 rfl) ?_
  refine lv_iconst (v := 5) hx hb dX3_init_14 (by decide) ?_
  refine q_newp (t := 86) (ty := .int) C hU hS hB hz rfl (Or.inl rfl) k_86 (fun _ => rfl) ac_int (by decide) (by decide) (by decide) (Nat.le_of_ble_eq_true rfl) (Nat.le_of_ble_eq_true rfl) dX3_init_15 (fun a_11 H hU hS hz => ?_)
  have hc_18 : al_2.1 86 = al.1 86 := hE.1 86
  have hE9 := hE.new 86 a_11
  have hR9 := hR.new 86 a_11
  have hB9 := hB.new 86 a_11
  have hn9 := grow_new (al := al_2) (t := 86) (a := a_11)
  rw [hc_18] at hU hE9 hR9 hB9 hn9
  obtain ⟨al_12, ea_15⟩ : ∃ z, z = grow al_2 86 a_11 := ⟨_, rfl⟩
  obtain ⟨iv_13, ei_16⟩ : ∃ z, z = clr iv_3 86 (al.1 86) 0 := ⟨_, rfl⟩
  obtain ⟨rv_14, er_17⟩ : ∃ z, z = clr rv_9 86 (al.1 86) none := ⟨_, rfl⟩
  rw [← ea_15] at hU hE9 hR9 hB9 hn9
  rw [← ei_16] at hU hE9 hR9
  rw [← er_17] at hU hE9 hB9
  have ho_a_1 : al_12.2 85 (al.1 85) = a_1 := by rw [ea_15, grow_ad hi_a_1]; exact ho_a_1
  have hi_a_1 : (al.1 85) < al_12.1 85 := by rw [ea_15, grow_ct]; omega
  have ho_o : al_12.2 84 i0 = o := by rw [ea_15, grow_ad hi_o]; exact ho_o
  have hi_o : i0 < al_12.1 84 := by rw [ea_15, grow_ct]; omega
  have ho_a_11 : al_12.2 86 (al.1 86) = a_11 := hn9
  have hi_a_11 : (al.1 86) < al_12.1 86 := by rw [ea_15, grow_ct, hc_18]; simp
  have hN : NN 84 i0 [0] rv_14 := hN.keep (fun k => by rw [er_17]; exact clr_ne (fun z => absurd z.1 (by decide)))
  have hE := hE9
  have hR := hR9
  have hB := hB9
  refine W.widen (k := 2) (n := 35) (Nat.le_of_ble_eq_true rfl) (Nat.le_of_ble_eq_true rfl) ?_
  refine W.eq (g2 := F0 m 17 ls [.ref (al_12.2 86 (al.1 86)), .ref (al_12.2 84 i0)]) (by rw [ho_a_11, ho_o]) ?_
  refine q_putr (t := 84) (i := i0) (k := 2) (t' := 86) (j := (al.1 86)) C hU hS k_84 (hc := rfl) uwX3 tyX3 tyX3_ok nmX3 hi_o (by decide) rfl (Or.inr ⟨rfl, hnm, rfl⟩) rfl fl_X3_17 dX3_init_17 (fun _ => rfl) (fun _ => rfl) (fun H locs hU hS => ?_)
  have hz : sz ≤ H.size := Nat.le_trans hz0 hS.1
  obtain ⟨rv_19, er_20⟩ : ∃ z, z = up3 rv_14 84 i0 2 (some (al.1 86)) := ⟨_, rfl⟩
  rw [← er_20] at hU
  have hB : RB al_12 rv_19 := by rw [er_20]; exact hB.put rfl hi_a_11
  have hE := hE.putr (t := 84) (i := i0) (k := 2) (x := some (al.1 86)) (by decide)
  rw [← er_20] at hE
  have hN : NN 84 i0 [2, 0] rv_19 := by rw [er_20]; exact hN.put 2 (al.1 86)
  refine lv_aload_n hx hb dX3_init_20 rfl (lv_at hl 0 rfl) ?_
  refine lv_bipush (v := 32) hx hb dX3_init_21 (by decide) ?_
  refine q_newp (t := 87) (ty := .int) C hU hS hB hz rfl (Or.inl rfl) k_87 (fun _ => rfl) ac_int (by decide) (by decide) (by decide) (Nat.le_of_ble_eq_true rfl) (Nat.le_of_ble_eq_true rfl) dX3_init_23 (fun a_21 H hU hS hz => ?_)
  have hc_28 : al_12.1 87 = al.1 87 := hE.1 87
  have hE9 := hE.new 87 a_21
  have hR9 := hR.new 87 a_21
  have hB9 := hB.new 87 a_21
  have hn9 := grow_new (al := al_12) (t := 87) (a := a_21)
  rw [hc_28] at hU hE9 hR9 hB9 hn9
  obtain ⟨al_22, ea_25⟩ : ∃ z, z = grow al_12 87 a_21 := ⟨_, rfl⟩
  obtain ⟨iv_23, ei_26⟩ : ∃ z, z = clr iv_13 87 (al.1 87) 0 := ⟨_, rfl⟩
  obtain ⟨rv_24, er_27⟩ : ∃ z, z = clr rv_19 87 (al.1 87) none := ⟨_, rfl⟩
  rw [← ea_25] at hU hE9 hR9 hB9 hn9
  rw [← ei_26] at hU hE9 hR9
  rw [← er_27] at hU hE9 hB9
  have ho_a_1 : al_22.2 85 (al.1 85) = a_1 := by rw [ea_25, grow_ad hi_a_1]; exact ho_a_1
  have hi_a_1 : (al.1 85) < al_22.1 85 := by rw [ea_25, grow_ct]; omega
  have ho_a_11 : al_22.2 86 (al.1 86) = a_11 := by rw [ea_25, grow_ad hi_a_11]; exact ho_a_11
  have hi_a_11 : (al.1 86) < al_22.1 86 := by rw [ea_25, grow_ct]; omega
  have ho_o : al_22.2 84 i0 = o := by rw [ea_25, grow_ad hi_o]; exact ho_o
  have hi_o : i0 < al_22.1 84 := by rw [ea_25, grow_ct]; omega
  have ho_a_21 : al_22.2 87 (al.1 87) = a_21 := hn9
  have hi_a_21 : (al.1 87) < al_22.1 87 := by rw [ea_25, grow_ct, hc_28]; simp
  have hN : NN 84 i0 [2, 0] rv_24 := hN.keep (fun k => by rw [er_27]; exact clr_ne (fun z => absurd z.1 (by decide)))
  have hE := hE9
  have hR := hR9
  have hB := hB9
  refine W.widen (k := 3) (n := 67) (Nat.le_of_ble_eq_true rfl) (Nat.le_of_ble_eq_true rfl) ?_
  refine W.eq (g2 := F0 m 25 ls [.ref (al_22.2 87 (al.1 87)), .ref (al_22.2 84 i0)]) (by rw [ho_a_21, ho_o]) ?_
  refine q_putr (t := 84) (i := i0) (k := 3) (t' := 87) (j := (al.1 87)) C hU hS k_84 (hc := rfl) uwX3 tyX3 tyX3_ok nmX3 hi_o (by decide) rfl (Or.inr ⟨rfl, hnm, rfl⟩) rfl fl_X3_21 dX3_init_25 (fun _ => rfl) (fun _ => rfl) (fun H locs hU hS => ?_)
  have hz : sz ≤ H.size := Nat.le_trans hz0 hS.1
  obtain ⟨rv_29, er_30⟩ : ∃ z, z = up3 rv_24 84 i0 3 (some (al.1 87)) := ⟨_, rfl⟩
  rw [← er_30] at hU
  have hB : RB al_22 rv_29 := by rw [er_30]; exact hB.put rfl hi_a_21
  have hE := hE.putr (t := 84) (i := i0) (k := 3) (x := some (al.1 87)) (by decide)
  rw [← er_30] at hE
  have hN : NN 84 i0 [3, 2, 0] rv_29 := by rw [er_30]; exact hN.put 3 (al.1 87)
  exact q_vretA C hr hlk hU hS (⟨hR, hB, hE, hN⟩) dX3_init_28
set_option maxHeartbeats 4000000 in
set_option maxRecDepth 100000 in
theorem c_X1_init {l : Launch} {D : va_G} {cA : FieldType → ClassId} {sz : Nat} {al : Al} {iv : Iv} {rv : Rv} (hR : RG al iv) (hB : RB al rv) (i0 : Nat) (hi0 : i0 < al.1 90) : Met l yX1_init (wd yX1_init cX1_init 1 none) (rmA 1 7 280) (PcA D cA sz al iv rv [.ref (al.2 90 i0)] (fun _ => True)) (QVA D cA sz (fun al' iv' rv' => RG al' iv' ∧ RB al' rv' ∧ EXT (nx (nx (nx (nx (nx (nx (nx (fun _ => 0) 91) 92) 93) 94) 95) 96) 97) ([], [(90, 0), (90, 1), (90, 2), (90, 3), (90, 4), (90, 5), (90, 7)]) al iv rv al' iv' rv' ∧ NN 90 i0 [7, 5, 4, 3, 2, 1, 0] rv')) 7 280 (Aq sz) := by
  refine mk_a (by decide) (Nat.le_of_ble_eq_true rfl) rfl ?_
  intro p e s m below meth c ls C hr hlk hnm hU hS hz _ hl
  have hx := C.1.1
  have hb := C.1.2.1
  have k40 : (40 : Int32).toInt = 40 := by decide
  obtain ⟨o, ho_o⟩ : ∃ z, al.2 90 i0 = z := ⟨_, rfl⟩
  have hi_o := hi0
  have hl : lv_has ls 1 [(0, .ref o)] := by rw [← ho_o]; exact hl
  have hE : EXT (fun _ => 0) ([], [(90, 0), (90, 1), (90, 2), (90, 3), (90, 4), (90, 5), (90, 7)]) al iv rv al iv rv := EXT.rf
  have hN : NN 90 i0 [] rv := NN.nil
  have hz0 := hz
  refine lv_aload_n hx hb dX1_init_0 rfl (lv_at hl 0 rfl) ?_
  refine W.objInit hx hb C.1.2.2.2.1 (C.1.2.2.2.2 _ oi_X1) (C.1.2.2.2.2 _ oi_m) (C.1.2.2.2.2 _ oi_c) rfl (by rw [C.1.2.2.1]; exact hl.1) rfl dX1_init_1 (Nat.le_of_ble_eq_true rfl) (Nat.le_of_ble_eq_true rfl) ?_
  refine W.eq (g2 := F0 m 4 ls []) rfl ?_
  refine lv_aload_n hx hb dX1_init_4 rfl (lv_at hl 0 rfl) ?_
  refine lv_bipush (v := 40) hx hb dX1_init_5 (by decide) ?_
  refine q_newp (t := 91) (ty := .int) C hU hS hB hz rfl (Or.inl rfl) k_91 (fun _ => rfl) ac_int (by decide) (by decide) (by decide) (Nat.le_of_ble_eq_true rfl) (Nat.le_of_ble_eq_true rfl) dX1_init_7 (fun a_1 H hU hS hz => ?_)
  have hc_8 : al.1 91 = al.1 91 := hE.1 91
  have hE9 := hE.new 91 a_1
  have hR9 := hR.new 91 a_1
  have hB9 := hB.new 91 a_1
  have hn9 := grow_new (al := al) (t := 91) (a := a_1)
  rw [hc_8] at hU hE9 hR9 hB9 hn9
  obtain ⟨al_2, ea_5⟩ : ∃ z, z = grow al 91 a_1 := ⟨_, rfl⟩
  obtain ⟨iv_3, ei_6⟩ : ∃ z, z = clr iv 91 (al.1 91) 0 := ⟨_, rfl⟩
  obtain ⟨rv_4, er_7⟩ : ∃ z, z = clr rv 91 (al.1 91) none := ⟨_, rfl⟩
  rw [← ea_5] at hU hE9 hR9 hB9 hn9
  rw [← ei_6] at hU hE9 hR9
  rw [← er_7] at hU hE9 hB9
  have ho_o : al_2.2 90 i0 = o := by rw [ea_5, grow_ad hi_o]; exact ho_o
  have hi_o : i0 < al_2.1 90 := by rw [ea_5, grow_ct]; omega
  have ho_a_1 : al_2.2 91 (al.1 91) = a_1 := hn9
  have hi_a_1 : (al.1 91) < al_2.1 91 := by rw [ea_5, grow_ct, hc_8]; simp
  have hN : NN 90 i0 [] rv_4 := hN.keep (fun k => by rw [er_7]; exact clr_ne (fun z => absurd z.1 (by decide)))
  have hE := hE9
  have hR := hR9
  have hB := hB9
  refine W.widen (k := 1) (n := 40) (Nat.le_of_ble_eq_true rfl) (Nat.le_of_ble_eq_true rfl) ?_
  refine W.eq (g2 := F0 m 9 ls [.ref (al_2.2 91 (al.1 91)), .ref (al_2.2 90 i0)]) (by rw [ho_a_1, ho_o]) ?_
  refine q_putr (t := 90) (i := i0) (k := 0) (t' := 91) (j := (al.1 91)) C hU hS k_90 (hc := rfl) uwX1 tyX1 tyX1_ok nmX1 hi_o (by decide) rfl (Or.inr ⟨rfl, hnm, rfl⟩) rfl fl_X1_11 dX1_init_9 (fun _ => rfl) (fun _ => rfl) (fun H locs hU hS => ?_)
  have hz : sz ≤ H.size := Nat.le_trans hz0 hS.1
  obtain ⟨rv_9, er_10⟩ : ∃ z, z = up3 rv_4 90 i0 0 (some (al.1 91)) := ⟨_, rfl⟩
  rw [← er_10] at hU
  have hB : RB al_2 rv_9 := by rw [er_10]; exact hB.put rfl hi_a_1
  have hE := hE.putr (t := 90) (i := i0) (k := 0) (x := some (al.1 91)) (by decide)
  rw [← er_10] at hE
  have hN : NN 90 i0 [0] rv_9 := by rw [er_10]; exact hN.put 0 (al.1 91)
  refine lv_aload_n hx hb dX1_init_12 rfl (lv_at hl 0 rfl) ?_
  refine lv_bipush (v := 40) hx hb dX1_init_13 (by decide) ?_
  refine q_newp (t := 92) (ty := .int) C hU hS hB hz rfl (Or.inl rfl) k_92 (fun _ => rfl) ac_int (by decide) (by decide) (by decide) (Nat.le_of_ble_eq_true rfl) (Nat.le_of_ble_eq_true rfl) dX1_init_15 (fun a_11 H hU hS hz => ?_)
  have hc_18 : al_2.1 92 = al.1 92 := hE.1 92
  have hE9 := hE.new 92 a_11
  have hR9 := hR.new 92 a_11
  have hB9 := hB.new 92 a_11
  have hn9 := grow_new (al := al_2) (t := 92) (a := a_11)
  rw [hc_18] at hU hE9 hR9 hB9 hn9
  obtain ⟨al_12, ea_15⟩ : ∃ z, z = grow al_2 92 a_11 := ⟨_, rfl⟩
  obtain ⟨iv_13, ei_16⟩ : ∃ z, z = clr iv_3 92 (al.1 92) 0 := ⟨_, rfl⟩
  obtain ⟨rv_14, er_17⟩ : ∃ z, z = clr rv_9 92 (al.1 92) none := ⟨_, rfl⟩
  rw [← ea_15] at hU hE9 hR9 hB9 hn9
  rw [← ei_16] at hU hE9 hR9
  rw [← er_17] at hU hE9 hB9
  have ho_a_1 : al_12.2 91 (al.1 91) = a_1 := by rw [ea_15, grow_ad hi_a_1]; exact ho_a_1
  have hi_a_1 : (al.1 91) < al_12.1 91 := by rw [ea_15, grow_ct]; omega
  have ho_o : al_12.2 90 i0 = o := by rw [ea_15, grow_ad hi_o]; exact ho_o
  have hi_o : i0 < al_12.1 90 := by rw [ea_15, grow_ct]; omega
  have ho_a_11 : al_12.2 92 (al.1 92) = a_11 := hn9
  have hi_a_11 : (al.1 92) < al_12.1 92 := by rw [ea_15, grow_ct, hc_18]; simp
  have hN : NN 90 i0 [0] rv_14 := hN.keep (fun k => by rw [er_17]; exact clr_ne (fun z => absurd z.1 (by decide)))
  have hE := hE9
  have hR := hR9
  have hB := hB9
  refine W.widen (k := 2) (n := 80) (Nat.le_of_ble_eq_true rfl) (Nat.le_of_ble_eq_true rfl) ?_
  refine W.eq (g2 := F0 m 17 ls [.ref (al_12.2 92 (al.1 92)), .ref (al_12.2 90 i0)]) (by rw [ho_a_11, ho_o]) ?_
  refine q_putr (t := 90) (i := i0) (k := 1) (t' := 92) (j := (al.1 92)) C hU hS k_90 (hc := rfl) uwX1 tyX1 tyX1_ok nmX1 hi_o (by decide) rfl (Or.inr ⟨rfl, hnm, rfl⟩) rfl fl_X1_15 dX1_init_17 (fun _ => rfl) (fun _ => rfl) (fun H locs hU hS => ?_)
  have hz : sz ≤ H.size := Nat.le_trans hz0 hS.1
  obtain ⟨rv_19, er_20⟩ : ∃ z, z = up3 rv_14 90 i0 1 (some (al.1 92)) := ⟨_, rfl⟩
  rw [← er_20] at hU
  have hB : RB al_12 rv_19 := by rw [er_20]; exact hB.put rfl hi_a_11
  have hE := hE.putr (t := 90) (i := i0) (k := 1) (x := some (al.1 92)) (by decide)
  rw [← er_20] at hE
  have hN : NN 90 i0 [1, 0] rv_19 := by rw [er_20]; exact hN.put 1 (al.1 92)
  refine lv_aload_n hx hb dX1_init_20 rfl (lv_at hl 0 rfl) ?_
  refine lv_bipush (v := 40) hx hb dX1_init_21 (by decide) ?_
  refine q_newp (t := 93) (ty := .int) C hU hS hB hz rfl (Or.inl rfl) k_93 (fun _ => rfl) ac_int (by decide) (by decide) (by decide) (Nat.le_of_ble_eq_true rfl) (Nat.le_of_ble_eq_true rfl) dX1_init_23 (fun a_21 H hU hS hz => ?_)
  have hc_28 : al_12.1 93 = al.1 93 := hE.1 93
  have hE9 := hE.new 93 a_21
  have hR9 := hR.new 93 a_21
  have hB9 := hB.new 93 a_21
  have hn9 := grow_new (al := al_12) (t := 93) (a := a_21)
  rw [hc_28] at hU hE9 hR9 hB9 hn9
  obtain ⟨al_22, ea_25⟩ : ∃ z, z = grow al_12 93 a_21 := ⟨_, rfl⟩
  obtain ⟨iv_23, ei_26⟩ : ∃ z, z = clr iv_13 93 (al.1 93) 0 := ⟨_, rfl⟩
  obtain ⟨rv_24, er_27⟩ : ∃ z, z = clr rv_19 93 (al.1 93) none := ⟨_, rfl⟩
  rw [← ea_25] at hU hE9 hR9 hB9 hn9
  rw [← ei_26] at hU hE9 hR9
  rw [← er_27] at hU hE9 hB9
  have ho_a_1 : al_22.2 91 (al.1 91) = a_1 := by rw [ea_25, grow_ad hi_a_1]; exact ho_a_1
  have hi_a_1 : (al.1 91) < al_22.1 91 := by rw [ea_25, grow_ct]; omega
  have ho_a_11 : al_22.2 92 (al.1 92) = a_11 := by rw [ea_25, grow_ad hi_a_11]; exact ho_a_11
  have hi_a_11 : (al.1 92) < al_22.1 92 := by rw [ea_25, grow_ct]; omega
  have ho_o : al_22.2 90 i0 = o := by rw [ea_25, grow_ad hi_o]; exact ho_o
  have hi_o : i0 < al_22.1 90 := by rw [ea_25, grow_ct]; omega
  have ho_a_21 : al_22.2 93 (al.1 93) = a_21 := hn9
  have hi_a_21 : (al.1 93) < al_22.1 93 := by rw [ea_25, grow_ct, hc_28]; simp
  have hN : NN 90 i0 [1, 0] rv_24 := hN.keep (fun k => by rw [er_27]; exact clr_ne (fun z => absurd z.1 (by decide)))
  have hE := hE9
  have hR := hR9
  have hB := hB9
  refine W.widen (k := 3) (n := 120) (Nat.le_of_ble_eq_true rfl) (Nat.le_of_ble_eq_true rfl) ?_
  refine W.eq (g2 := F0 m 25 ls [.ref (al_22.2 93 (al.1 93)), .ref (al_22.2 90 i0)]) (by rw [ho_a_21, ho_o]) ?_
  refine q_putr (t := 90) (i := i0) (k := 2) (t' := 93) (j := (al.1 93)) C hU hS k_90 (hc := rfl) uwX1 tyX1 tyX1_ok nmX1 hi_o (by decide) rfl (Or.inr ⟨rfl, hnm, rfl⟩) rfl fl_X1_18 dX1_init_25 (fun _ => rfl) (fun _ => rfl) (fun H locs hU hS => ?_)
  have hz : sz ≤ H.size := Nat.le_trans hz0 hS.1
  obtain ⟨rv_29, er_30⟩ : ∃ z, z = up3 rv_24 90 i0 2 (some (al.1 93)) := ⟨_, rfl⟩
  rw [← er_30] at hU
  have hB : RB al_22 rv_29 := by rw [er_30]; exact hB.put rfl hi_a_21
  have hE := hE.putr (t := 90) (i := i0) (k := 2) (x := some (al.1 93)) (by decide)
  rw [← er_30] at hE
  have hN : NN 90 i0 [2, 1, 0] rv_29 := by rw [er_30]; exact hN.put 2 (al.1 93)
  refine lv_aload_n hx hb dX1_init_28 rfl (lv_at hl 0 rfl) ?_
  refine lv_bipush (v := 40) hx hb dX1_init_29 (by decide) ?_
  refine q_newp (t := 94) (ty := .int) C hU hS hB hz rfl (Or.inl rfl) k_94 (fun _ => rfl) ac_int (by decide) (by decide) (by decide) (Nat.le_of_ble_eq_true rfl) (Nat.le_of_ble_eq_true rfl) dX1_init_31 (fun a_31 H hU hS hz => ?_)
  have hc_38 : al_22.1 94 = al.1 94 := hE.1 94
  have hE9 := hE.new 94 a_31
  have hR9 := hR.new 94 a_31
  have hB9 := hB.new 94 a_31
  have hn9 := grow_new (al := al_22) (t := 94) (a := a_31)
  rw [hc_38] at hU hE9 hR9 hB9 hn9
  obtain ⟨al_32, ea_35⟩ : ∃ z, z = grow al_22 94 a_31 := ⟨_, rfl⟩
  obtain ⟨iv_33, ei_36⟩ : ∃ z, z = clr iv_23 94 (al.1 94) 0 := ⟨_, rfl⟩
  obtain ⟨rv_34, er_37⟩ : ∃ z, z = clr rv_29 94 (al.1 94) none := ⟨_, rfl⟩
  rw [← ea_35] at hU hE9 hR9 hB9 hn9
  rw [← ei_36] at hU hE9 hR9
  rw [← er_37] at hU hE9 hB9
  have ho_a_1 : al_32.2 91 (al.1 91) = a_1 := by rw [ea_35, grow_ad hi_a_1]; exact ho_a_1
  have hi_a_1 : (al.1 91) < al_32.1 91 := by rw [ea_35, grow_ct]; omega
  have ho_a_11 : al_32.2 92 (al.1 92) = a_11 := by rw [ea_35, grow_ad hi_a_11]; exact ho_a_11
  have hi_a_11 : (al.1 92) < al_32.1 92 := by rw [ea_35, grow_ct]; omega
  have ho_a_21 : al_32.2 93 (al.1 93) = a_21 := by rw [ea_35, grow_ad hi_a_21]; exact ho_a_21
  have hi_a_21 : (al.1 93) < al_32.1 93 := by rw [ea_35, grow_ct]; omega
  have ho_o : al_32.2 90 i0 = o := by rw [ea_35, grow_ad hi_o]; exact ho_o
  have hi_o : i0 < al_32.1 90 := by rw [ea_35, grow_ct]; omega
  have ho_a_31 : al_32.2 94 (al.1 94) = a_31 := hn9
  have hi_a_31 : (al.1 94) < al_32.1 94 := by rw [ea_35, grow_ct, hc_38]; simp
  have hN : NN 90 i0 [2, 1, 0] rv_34 := hN.keep (fun k => by rw [er_37]; exact clr_ne (fun z => absurd z.1 (by decide)))
  have hE := hE9
  have hR := hR9
  have hB := hB9
  refine W.widen (k := 4) (n := 160) (Nat.le_of_ble_eq_true rfl) (Nat.le_of_ble_eq_true rfl) ?_
  refine W.eq (g2 := F0 m 33 ls [.ref (al_32.2 94 (al.1 94)), .ref (al_32.2 90 i0)]) (by rw [ho_a_31, ho_o]) ?_
  refine q_putr (t := 90) (i := i0) (k := 3) (t' := 94) (j := (al.1 94)) C hU hS k_90 (hc := rfl) uwX1 tyX1 tyX1_ok nmX1 hi_o (by decide) rfl (Or.inr ⟨rfl, hnm, rfl⟩) rfl fl_X1_21 dX1_init_33 (fun _ => rfl) (fun _ => rfl) (fun H locs hU hS => ?_)
  have hz : sz ≤ H.size := Nat.le_trans hz0 hS.1
  obtain ⟨rv_39, er_40⟩ : ∃ z, z = up3 rv_34 90 i0 3 (some (al.1 94)) := ⟨_, rfl⟩
  rw [← er_40] at hU
  have hB : RB al_32 rv_39 := by rw [er_40]; exact hB.put rfl hi_a_31
  have hE := hE.putr (t := 90) (i := i0) (k := 3) (x := some (al.1 94)) (by decide)
  rw [← er_40] at hE
  have hN : NN 90 i0 [3, 2, 1, 0] rv_39 := by rw [er_40]; exact hN.put 3 (al.1 94)
  refine lv_aload_n hx hb dX1_init_36 rfl (lv_at hl 0 rfl) ?_
  refine lv_bipush (v := 40) hx hb dX1_init_37 (by decide) ?_
  refine q_newp (t := 95) (ty := .boolean) C hU hS hB hz rfl (Or.inr rfl) k_95 (fun _ => rfl) ac_boolean (by decide) (by decide) (by decide) (Nat.le_of_ble_eq_true rfl) (Nat.le_of_ble_eq_true rfl) dX1_init_39 (fun a_41 H hU hS hz => ?_)
  have hc_48 : al_32.1 95 = al.1 95 := hE.1 95
  have hE9 := hE.new 95 a_41
  have hR9 := hR.new 95 a_41
  have hB9 := hB.new 95 a_41
  have hn9 := grow_new (al := al_32) (t := 95) (a := a_41)
  rw [hc_48] at hU hE9 hR9 hB9 hn9
  obtain ⟨al_42, ea_45⟩ : ∃ z, z = grow al_32 95 a_41 := ⟨_, rfl⟩
  obtain ⟨iv_43, ei_46⟩ : ∃ z, z = clr iv_33 95 (al.1 95) 0 := ⟨_, rfl⟩
  obtain ⟨rv_44, er_47⟩ : ∃ z, z = clr rv_39 95 (al.1 95) none := ⟨_, rfl⟩
  rw [← ea_45] at hU hE9 hR9 hB9 hn9
  rw [← ei_46] at hU hE9 hR9
  rw [← er_47] at hU hE9 hB9
  have ho_a_1 : al_42.2 91 (al.1 91) = a_1 := by rw [ea_45, grow_ad hi_a_1]; exact ho_a_1
  have hi_a_1 : (al.1 91) < al_42.1 91 := by rw [ea_45, grow_ct]; omega
  have ho_a_11 : al_42.2 92 (al.1 92) = a_11 := by rw [ea_45, grow_ad hi_a_11]; exact ho_a_11
  have hi_a_11 : (al.1 92) < al_42.1 92 := by rw [ea_45, grow_ct]; omega
  have ho_a_21 : al_42.2 93 (al.1 93) = a_21 := by rw [ea_45, grow_ad hi_a_21]; exact ho_a_21
  have hi_a_21 : (al.1 93) < al_42.1 93 := by rw [ea_45, grow_ct]; omega
  have ho_a_31 : al_42.2 94 (al.1 94) = a_31 := by rw [ea_45, grow_ad hi_a_31]; exact ho_a_31
  have hi_a_31 : (al.1 94) < al_42.1 94 := by rw [ea_45, grow_ct]; omega
  have ho_o : al_42.2 90 i0 = o := by rw [ea_45, grow_ad hi_o]; exact ho_o
  have hi_o : i0 < al_42.1 90 := by rw [ea_45, grow_ct]; omega
  have ho_a_41 : al_42.2 95 (al.1 95) = a_41 := hn9
  have hi_a_41 : (al.1 95) < al_42.1 95 := by rw [ea_45, grow_ct, hc_48]; simp
  have hN : NN 90 i0 [3, 2, 1, 0] rv_44 := hN.keep (fun k => by rw [er_47]; exact clr_ne (fun z => absurd z.1 (by decide)))
  have hE := hE9
  have hR := hR9
  have hB := hB9
  refine W.widen (k := 5) (n := 200) (Nat.le_of_ble_eq_true rfl) (Nat.le_of_ble_eq_true rfl) ?_
  refine W.eq (g2 := F0 m 41 ls [.ref (al_42.2 95 (al.1 95)), .ref (al_42.2 90 i0)]) (by rw [ho_a_41, ho_o]) ?_
  refine q_putr (t := 90) (i := i0) (k := 4) (t' := 95) (j := (al.1 95)) C hU hS k_90 (hc := rfl) uwX1 tyX1 tyX1_ok nmX1 hi_o (by decide) rfl (Or.inr ⟨rfl, hnm, rfl⟩) rfl fl_X1_24 dX1_init_41 (fun _ => rfl) (fun _ => rfl) (fun H locs hU hS => ?_)
  have hz : sz ≤ H.size := Nat.le_trans hz0 hS.1
  obtain ⟨rv_49, er_50⟩ : ∃ z, z = up3 rv_44 90 i0 4 (some (al.1 95)) := ⟨_, rfl⟩
  rw [← er_50] at hU
  have hB : RB al_42 rv_49 := by rw [er_50]; exact hB.put rfl hi_a_41
  have hE := hE.putr (t := 90) (i := i0) (k := 4) (x := some (al.1 95)) (by decide)
  rw [← er_50] at hE
  have hN : NN 90 i0 [4, 3, 2, 1, 0] rv_49 := by rw [er_50]; exact hN.put 4 (al.1 95)
  refine lv_aload_n hx hb dX1_init_44 rfl (lv_at hl 0 rfl) ?_
  refine lv_bipush (v := 40) hx hb dX1_init_45 (by decide) ?_
  refine q_newp (t := 96) (ty := .int) C hU hS hB hz rfl (Or.inl rfl) k_96 (fun _ => rfl) ac_int (by decide) (by decide) (by decide) (Nat.le_of_ble_eq_true rfl) (Nat.le_of_ble_eq_true rfl) dX1_init_47 (fun a_51 H hU hS hz => ?_)
  have hc_58 : al_42.1 96 = al.1 96 := hE.1 96
  have hE9 := hE.new 96 a_51
  have hR9 := hR.new 96 a_51
  have hB9 := hB.new 96 a_51
  have hn9 := grow_new (al := al_42) (t := 96) (a := a_51)
  rw [hc_58] at hU hE9 hR9 hB9 hn9
  obtain ⟨al_52, ea_55⟩ : ∃ z, z = grow al_42 96 a_51 := ⟨_, rfl⟩
  obtain ⟨iv_53, ei_56⟩ : ∃ z, z = clr iv_43 96 (al.1 96) 0 := ⟨_, rfl⟩
  obtain ⟨rv_54, er_57⟩ : ∃ z, z = clr rv_49 96 (al.1 96) none := ⟨_, rfl⟩
  rw [← ea_55] at hU hE9 hR9 hB9 hn9
  rw [← ei_56] at hU hE9 hR9
  rw [← er_57] at hU hE9 hB9
  have ho_a_1 : al_52.2 91 (al.1 91) = a_1 := by rw [ea_55, grow_ad hi_a_1]; exact ho_a_1
  have hi_a_1 : (al.1 91) < al_52.1 91 := by rw [ea_55, grow_ct]; omega
  have ho_a_11 : al_52.2 92 (al.1 92) = a_11 := by rw [ea_55, grow_ad hi_a_11]; exact ho_a_11
  have hi_a_11 : (al.1 92) < al_52.1 92 := by rw [ea_55, grow_ct]; omega
  have ho_a_21 : al_52.2 93 (al.1 93) = a_21 := by rw [ea_55, grow_ad hi_a_21]; exact ho_a_21
  have hi_a_21 : (al.1 93) < al_52.1 93 := by rw [ea_55, grow_ct]; omega
  have ho_a_31 : al_52.2 94 (al.1 94) = a_31 := by rw [ea_55, grow_ad hi_a_31]; exact ho_a_31
  have hi_a_31 : (al.1 94) < al_52.1 94 := by rw [ea_55, grow_ct]; omega
  have ho_a_41 : al_52.2 95 (al.1 95) = a_41 := by rw [ea_55, grow_ad hi_a_41]; exact ho_a_41
  have hi_a_41 : (al.1 95) < al_52.1 95 := by rw [ea_55, grow_ct]; omega
  have ho_o : al_52.2 90 i0 = o := by rw [ea_55, grow_ad hi_o]; exact ho_o
  have hi_o : i0 < al_52.1 90 := by rw [ea_55, grow_ct]; omega
  have ho_a_51 : al_52.2 96 (al.1 96) = a_51 := hn9
  have hi_a_51 : (al.1 96) < al_52.1 96 := by rw [ea_55, grow_ct, hc_58]; simp
  have hN : NN 90 i0 [4, 3, 2, 1, 0] rv_54 := hN.keep (fun k => by rw [er_57]; exact clr_ne (fun z => absurd z.1 (by decide)))
  have hE := hE9
  have hR := hR9
  have hB := hB9
  refine W.widen (k := 6) (n := 240) (Nat.le_of_ble_eq_true rfl) (Nat.le_of_ble_eq_true rfl) ?_
  refine W.eq (g2 := F0 m 49 ls [.ref (al_52.2 96 (al.1 96)), .ref (al_52.2 90 i0)]) (by rw [ho_a_51, ho_o]) ?_
  refine q_putr (t := 90) (i := i0) (k := 5) (t' := 96) (j := (al.1 96)) C hU hS k_90 (hc := rfl) uwX1 tyX1 tyX1_ok nmX1 hi_o (by decide) rfl (Or.inr ⟨rfl, hnm, rfl⟩) rfl fl_X1_28 dX1_init_49 (fun _ => rfl) (fun _ => rfl) (fun H locs hU hS => ?_)
  have hz : sz ≤ H.size := Nat.le_trans hz0 hS.1
  obtain ⟨rv_59, er_60⟩ : ∃ z, z = up3 rv_54 90 i0 5 (some (al.1 96)) := ⟨_, rfl⟩
  rw [← er_60] at hU
  have hB : RB al_52 rv_59 := by rw [er_60]; exact hB.put rfl hi_a_51
  have hE := hE.putr (t := 90) (i := i0) (k := 5) (x := some (al.1 96)) (by decide)
  rw [← er_60] at hE
  have hN : NN 90 i0 [5, 4, 3, 2, 1, 0] rv_59 := by rw [er_60]; exact hN.put 5 (al.1 96)
  refine lv_aload_n hx hb dX1_init_52 rfl (lv_at hl 0 rfl) ?_
  refine lv_bipush (v := 40) hx hb dX1_init_53 (by decide) ?_
  refine q_newp (t := 97) (ty := .int) C hU hS hB hz rfl (Or.inl rfl) k_97 (fun _ => rfl) ac_int (by decide) (by decide) (by decide) (Nat.le_of_ble_eq_true rfl) (Nat.le_of_ble_eq_true rfl) dX1_init_55 (fun a_61 H hU hS hz => ?_)
  have hc_68 : al_52.1 97 = al.1 97 := hE.1 97
  have hE9 := hE.new 97 a_61
  have hR9 := hR.new 97 a_61
  have hB9 := hB.new 97 a_61
  have hn9 := grow_new (al := al_52) (t := 97) (a := a_61)
  rw [hc_68] at hU hE9 hR9 hB9 hn9
  obtain ⟨al_62, ea_65⟩ : ∃ z, z = grow al_52 97 a_61 := ⟨_, rfl⟩
  obtain ⟨iv_63, ei_66⟩ : ∃ z, z = clr iv_53 97 (al.1 97) 0 := ⟨_, rfl⟩
  obtain ⟨rv_64, er_67⟩ : ∃ z, z = clr rv_59 97 (al.1 97) none := ⟨_, rfl⟩
  rw [← ea_65] at hU hE9 hR9 hB9 hn9
  rw [← ei_66] at hU hE9 hR9
  rw [← er_67] at hU hE9 hB9
  have ho_a_1 : al_62.2 91 (al.1 91) = a_1 := by rw [ea_65, grow_ad hi_a_1]; exact ho_a_1
  have hi_a_1 : (al.1 91) < al_62.1 91 := by rw [ea_65, grow_ct]; omega
  have ho_a_11 : al_62.2 92 (al.1 92) = a_11 := by rw [ea_65, grow_ad hi_a_11]; exact ho_a_11
  have hi_a_11 : (al.1 92) < al_62.1 92 := by rw [ea_65, grow_ct]; omega
  have ho_a_21 : al_62.2 93 (al.1 93) = a_21 := by rw [ea_65, grow_ad hi_a_21]; exact ho_a_21
  have hi_a_21 : (al.1 93) < al_62.1 93 := by rw [ea_65, grow_ct]; omega
  have ho_a_31 : al_62.2 94 (al.1 94) = a_31 := by rw [ea_65, grow_ad hi_a_31]; exact ho_a_31
  have hi_a_31 : (al.1 94) < al_62.1 94 := by rw [ea_65, grow_ct]; omega
  have ho_a_41 : al_62.2 95 (al.1 95) = a_41 := by rw [ea_65, grow_ad hi_a_41]; exact ho_a_41
  have hi_a_41 : (al.1 95) < al_62.1 95 := by rw [ea_65, grow_ct]; omega
  have ho_a_51 : al_62.2 96 (al.1 96) = a_51 := by rw [ea_65, grow_ad hi_a_51]; exact ho_a_51
  have hi_a_51 : (al.1 96) < al_62.1 96 := by rw [ea_65, grow_ct]; omega
  have ho_o : al_62.2 90 i0 = o := by rw [ea_65, grow_ad hi_o]; exact ho_o
  have hi_o : i0 < al_62.1 90 := by rw [ea_65, grow_ct]; omega
  have ho_a_61 : al_62.2 97 (al.1 97) = a_61 := hn9
  have hi_a_61 : (al.1 97) < al_62.1 97 := by rw [ea_65, grow_ct, hc_68]; simp
  have hN : NN 90 i0 [5, 4, 3, 2, 1, 0] rv_64 := hN.keep (fun k => by rw [er_67]; exact clr_ne (fun z => absurd z.1 (by decide)))
  have hE := hE9
  have hR := hR9
  have hB := hB9
  refine W.widen (k := 7) (n := 280) (Nat.le_of_ble_eq_true rfl) (Nat.le_of_ble_eq_true rfl) ?_
  refine W.eq (g2 := F0 m 57 ls [.ref (al_62.2 97 (al.1 97)), .ref (al_62.2 90 i0)]) (by rw [ho_a_61, ho_o]) ?_
  refine q_putr (t := 90) (i := i0) (k := 7) (t' := 97) (j := (al.1 97)) C hU hS k_90 (hc := rfl) uwX1 tyX1 tyX1_ok nmX1 hi_o (by decide) rfl (Or.inr ⟨rfl, hnm, rfl⟩) rfl fl_X1_31 dX1_init_57 (fun _ => rfl) (fun _ => rfl) (fun H locs hU hS => ?_)
  have hz : sz ≤ H.size := Nat.le_trans hz0 hS.1
  obtain ⟨rv_69, er_70⟩ : ∃ z, z = up3 rv_64 90 i0 7 (some (al.1 97)) := ⟨_, rfl⟩
  rw [← er_70] at hU
  have hB : RB al_62 rv_69 := by rw [er_70]; exact hB.put rfl hi_a_61
  have hE := hE.putr (t := 90) (i := i0) (k := 7) (x := some (al.1 97)) (by decide)
  rw [← er_70] at hE
  have hN : NN 90 i0 [7, 5, 4, 3, 2, 1, 0] rv_69 := by rw [er_70]; exact hN.put 7 (al.1 97)
  exact q_vretA C hr hlk hU hS (⟨hR, hB, hE, hN⟩) dX1_init_60
set_option maxHeartbeats 4000000 in
set_option maxRecDepth 100000 in
theorem c_X2_init {l : Launch} {D : va_G} {cA : FieldType → ClassId} {sz : Nat} {al : Al} {iv : Iv} {rv : Rv} (hR : RG al iv) (hB : RB al rv) (i0 : Nat) (hi0 : i0 < al.1 88) (ti : Nat) (hti : ti < al.1 65) (d : Int32) (pre0 : 0 ≤ d.toInt ∧ d.toInt ≤ 4000) : Met l yX2_init (wd yX2_init cX2_init 3 none) (rmA 1 1 5) (PcA D cA sz al iv rv [.ref (al.2 88 i0), .ref (al.2 65 ti), .int d] (fun _ => True)) (QVA D cA sz (fun al' iv' rv' => RG al' iv' ∧ RB al' rv' ∧ EXT (nx (fun _ => 0) 89) ([], [(88, 0), (88, 1), (88, 2)]) al iv rv al' iv' rv' ∧ NN 88 i0 [2, 0] rv')) 1 5 (Aq sz) := by
  refine mk_a (by decide) (Nat.le_of_ble_eq_true rfl) rfl ?_
  intro p e s m below meth c ls C hr hlk hnm hU hS hz _ hl
  have hx := C.1.1
  have hb := C.1.2.1
  have k5 : (5 : Int32).toInt = 5 := by decide
  obtain ⟨o, ho_o⟩ : ∃ z, al.2 88 i0 = z := ⟨_, rfl⟩
  have hi_o := hi0
  obtain ⟨oti, ho_oti⟩ : ∃ z, al.2 65 ti = z := ⟨_, rfl⟩
  have hi_oti := hti
  have hl : lv_has ls 3 [(0, .ref o), (1, .ref oti), (2, .int d)] := by rw [← ho_o, ← ho_oti]; exact hl
  have hE : EXT (fun _ => 0) ([], [(88, 0), (88, 1), (88, 2)]) al iv rv al iv rv := EXT.rf
  have hN : NN 88 i0 [] rv := NN.nil
  have hz0 := hz
  refine lv_aload_n hx hb dX2_init_0 rfl (lv_at hl 0 rfl) ?_
  refine W.objInit hx hb C.1.2.2.2.1 (C.1.2.2.2.2 _ oi_X2) (C.1.2.2.2.2 _ oi_m) (C.1.2.2.2.2 _ oi_c) rfl (by rw [C.1.2.2.1]; exact hl.1) rfl dX2_init_1 (Nat.le_of_ble_eq_true rfl) (Nat.le_of_ble_eq_true rfl) ?_
  refine W.eq (g2 := F0 m 4 ls []) rfl ?_
  refine lv_aload_n hx hb dX2_init_4 rfl (lv_at hl 0 rfl) ?_
  refine lv_aload_n hx hb dX2_init_5 rfl (lv_at hl 1 rfl) ?_
  refine W.eq (g2 := F0 m 6 ls [.ref (al.2 65 ti), .ref (al.2 88 i0)]) (by rw [ho_oti, ho_o]) ?_
  refine q_putr (t := 88) (i := i0) (k := 0) (t' := 65) (j := ti) C hU hS k_88 (hc := rfl) uwX2 tyX2 tyX2_ok nmX2 hi_o (by decide) rfl (Or.inr ⟨rfl, hnm, rfl⟩) rfl fl_X2_9 dX2_init_6 (fun _ => rfl) (fun _ => rfl) (fun H locs hU hS => ?_)
  have hz : sz ≤ H.size := Nat.le_trans hz0 hS.1
  obtain ⟨rv_1, er_2⟩ : ∃ z, z = up3 rv 88 i0 0 (some ti) := ⟨_, rfl⟩
  rw [← er_2] at hU
  have hB : RB al rv_1 := by rw [er_2]; exact hB.put rfl hi_oti
  have hE := hE.putr (t := 88) (i := i0) (k := 0) (x := some ti) (by decide)
  rw [← er_2] at hE
  have hN : NN 88 i0 [0] rv_1 := by rw [er_2]; exact hN.put 0 ti
  refine lv_aload_n hx hb dX2_init_9 rfl (lv_at hl 0 rfl) ?_
  refine lv_iload_n hx hb dX2_init_10 rfl (lv_at hl 2 rfl) ?_
  refine W.eq (g2 := F0 m 11 ls [.int d, .ref (al.2 88 i0)]) (by rw [ho_o]) ?_
  refine q_puti (t := 88) (i := i0) (k := 1) C hU hS k_88 (hc := rfl) uwX2 tyX2 tyX2_ok nmX2 hi_o (by decide) rfl (Or.inr ⟨rfl, hnm, rfl⟩) rfl fl_X2_15 dX2_init_11 rfl rfl (fun H locs hU hS => ?_)
  have hz : sz ≤ H.size := Nat.le_trans hz0 hS.1
  obtain ⟨iv_3, ei_4⟩ : ∃ z, z = up3 iv 88 i0 1 d := ⟨_, rfl⟩
  rw [← ei_4] at hU
  have hR : RG al iv_3 := by rw [ei_4]; exact hR.put (show _ ∧ _ from ⟨show (0 : Int) ≤ _ by omega, show _ ≤ (4000 : Int) by omega⟩)
  have hE := hE.puti (t := 88) (i := i0) (k := 1) (x := d) (by decide)
  rw [← ei_4] at hE
  refine lv_aload_n hx hb dX2_init_14 rfl (lv_at hl 0 rfl) ?_
  refine lv_iconst (v := 5) hx hb dX2_init_15 (by decide) ?_
  refine q_newp (t := 89) (ty := .int) C hU hS hB hz rfl (Or.inl rfl) k_89 (fun _ => rfl) ac_int (by decide) (by decide) (by decide) (Nat.le_of_ble_eq_true rfl) (Nat.le_of_ble_eq_true rfl) dX2_init_16 (fun a_5 H hU hS hz => ?_)
  have hc_12 : al.1 89 = al.1 89 := hE.1 89
  have hE9 := hE.new 89 a_5
  have hR9 := hR.new 89 a_5
  have hB9 := hB.new 89 a_5
  have hn9 := grow_new (al := al) (t := 89) (a := a_5)
  rw [hc_12] at hU hE9 hR9 hB9 hn9
  obtain ⟨al_6, ea_9⟩ : ∃ z, z = grow al 89 a_5 := ⟨_, rfl⟩
  obtain ⟨iv_7, ei_10⟩ : ∃ z, z = clr iv_3 89 (al.1 89) 0 := ⟨_, rfl⟩
  obtain ⟨rv_8, er_11⟩ : ∃ z, z = clr rv_1 89 (al.1 89) none := ⟨_, rfl⟩
  rw [← ea_9] at hU hE9 hR9 hB9 hn9
  rw [← ei_10] at hU hE9 hR9
  rw [← er_11] at hU hE9 hB9
  have ho_o : al_6.2 88 i0 = o := by rw [ea_9, grow_ad hi_o]; exact ho_o
  have hi_o : i0 < al_6.1 88 := by rw [ea_9, grow_ct]; omega
  have ho_oti : al_6.2 65 ti = oti := by rw [ea_9, grow_ad hi_oti]; exact ho_oti
  have hi_oti : ti < al_6.1 65 := by rw [ea_9, grow_ct]; omega
  have ho_a_5 : al_6.2 89 (al.1 89) = a_5 := hn9
  have hi_a_5 : (al.1 89) < al_6.1 89 := by rw [ea_9, grow_ct, hc_12]; simp
  have hN : NN 88 i0 [0] rv_8 := hN.keep (fun k => by rw [er_11]; exact clr_ne (fun z => absurd z.1 (by decide)))
  have hE := hE9
  have hR := hR9
  have hB := hB9
  refine W.widen (k := 1) (n := 5) (Nat.le_of_ble_eq_true rfl) (Nat.le_of_ble_eq_true rfl) ?_
  refine W.eq (g2 := F0 m 18 ls [.ref (al_6.2 89 (al.1 89)), .ref (al_6.2 88 i0)]) (by rw [ho_a_5, ho_o]) ?_
  refine q_putr (t := 88) (i := i0) (k := 2) (t' := 89) (j := (al.1 89)) C hU hS k_88 (hc := rfl) uwX2 tyX2 tyX2_ok nmX2 hi_o (by decide) rfl (Or.inr ⟨rfl, hnm, rfl⟩) rfl fl_X2_19 dX2_init_18 (fun _ => rfl) (fun _ => rfl) (fun H locs hU hS => ?_)
  have hz : sz ≤ H.size := Nat.le_trans hz0 hS.1
  obtain ⟨rv_13, er_14⟩ : ∃ z, z = up3 rv_8 88 i0 2 (some (al.1 89)) := ⟨_, rfl⟩
  rw [← er_14] at hU
  have hB : RB al_6 rv_13 := by rw [er_14]; exact hB.put rfl hi_a_5
  have hE := hE.putr (t := 88) (i := i0) (k := 2) (x := some (al.1 89)) (by decide)
  rw [← er_14] at hE
  have hN : NN 88 i0 [2, 0] rv_13 := by rw [er_14]; exact hN.put 2 (al.1 89)
  exact q_vretA C hr hlk hU hS (⟨hR, hB, hE, hN⟩) dX2_init_21
set_option maxHeartbeats 4000000 in
set_option maxRecDepth 100000 in
theorem c_X8_init {l : Launch} {D : va_G} {cA : FieldType → ClassId} {sz : Nat} {al : Al} {iv : Iv} {rv : Rv} (hR : RG al iv) (hB : RB al rv) (i0 : Nat) (hi0 : i0 < al.1 65) (num : Int32) (li : Nat) (hli : li < al.1 62) (pre0 : 0 ≤ num.toInt ∧ num.toInt ≤ 19) : Met l yX8_init (wd yX8_init cX8_init 3 none) (rmA 1 2 9) (PcA D cA sz al iv rv [.ref (al.2 65 i0), .int num, .ref (al.2 62 li)] (fun _ => True)) (QVA D cA sz (fun al' iv' rv' => RG al' iv' ∧ RB al' rv' ∧ EXT (nx (nx (fun _ => 0) 66) 67) ([66], [(65, 0), (65, 1), (65, 2), (65, 3), (65, 4), (65, 5)]) al iv rv al' iv' rv' ∧ NN 65 i0 [5, 3, 2, 1] rv')) 2 9 (Aq sz) := by
  refine mk_a (by decide) (Nat.le_of_ble_eq_true rfl) rfl ?_
  intro p e s m below meth c ls C hr hlk hnm hU hS hz _ hl
  have hx := C.1.1
  have hb := C.1.2.1
  have k0 : (0 : Int32).toInt = 0 := by decide
  have k1 : (1 : Int32).toInt = 1 := by decide
  have k4 : (4 : Int32).toInt = 4 := by decide
  have k5 : (5 : Int32).toInt = 5 := by decide
  obtain ⟨o, ho_o⟩ : ∃ z, al.2 65 i0 = z := ⟨_, rfl⟩
  have hi_o := hi0
  obtain ⟨oli, ho_oli⟩ : ∃ z, al.2 62 li = z := ⟨_, rfl⟩
  have hi_oli := hli
  have hl : lv_has ls 3 [(0, .ref o), (1, .int num), (2, .ref oli)] := by rw [← ho_o, ← ho_oli]; exact hl
  have hE : EXT (fun _ => 0) ([66], [(65, 0), (65, 1), (65, 2), (65, 3), (65, 4), (65, 5)]) al iv rv al iv rv := EXT.rf
  have hN : NN 65 i0 [] rv := NN.nil
  have hz0 := hz
  refine lv_aload_n hx hb dX8_init_0 rfl (lv_at hl 0 rfl) ?_
  refine W.objInit hx hb C.1.2.2.2.1 (C.1.2.2.2.2 _ oi_X8) (C.1.2.2.2.2 _ oi_m) (C.1.2.2.2.2 _ oi_c) rfl (by rw [C.1.2.2.1]; exact hl.1) rfl dX8_init_1 (Nat.le_of_ble_eq_true rfl) (Nat.le_of_ble_eq_true rfl) ?_
  refine W.eq (g2 := F0 m 4 ls []) rfl ?_
  refine lv_aload_n hx hb dX8_init_4 rfl (lv_at hl 0 rfl) ?_
  refine lv_iload_n hx hb dX8_init_5 rfl (lv_at hl 1 rfl) ?_
  refine W.eq (g2 := F0 m 6 ls [.int num, .ref (al.2 65 i0)]) (by rw [ho_o]) ?_
  refine q_puti (t := 65) (i := i0) (k := 0) C hU hS k_65 (hc := rfl) uwX8 tyX8 tyX8_ok nmX8 hi_o (by decide) rfl (Or.inr ⟨rfl, hnm, rfl⟩) rfl fl_X8_9 dX8_init_6 rfl rfl (fun H locs hU hS => ?_)
  have hz : sz ≤ H.size := Nat.le_trans hz0 hS.1
  obtain ⟨iv_1, ei_2⟩ : ∃ z, z = up3 iv 65 i0 0 num := ⟨_, rfl⟩
  rw [← ei_2] at hU
  have hR : RG al iv_1 := by rw [ei_2]; exact hR.put (show _ ∧ _ from ⟨show (0 : Int) ≤ _ by omega, show _ ≤ (19 : Int) by omega⟩)
  have hE := hE.puti (t := 65) (i := i0) (k := 0) (x := num) (by decide)
  rw [← ei_2] at hE
  refine lv_aload_n hx hb dX8_init_9 rfl (lv_at hl 0 rfl) ?_
  refine lv_aload_n hx hb dX8_init_10 rfl (lv_at hl 2 rfl) ?_
  refine W.eq (g2 := F0 m 11 ls [.ref (al.2 62 li), .ref (al.2 65 i0)]) (by rw [ho_oli, ho_o]) ?_
  refine q_putr (t := 65) (i := i0) (k := 1) (t' := 62) (j := li) C hU hS k_65 (hc := rfl) uwX8 tyX8 tyX8_ok nmX8 hi_o (by decide) rfl (Or.inr ⟨rfl, hnm, rfl⟩) rfl fl_X8_15 dX8_init_11 (fun _ => rfl) (fun _ => rfl) (fun H locs hU hS => ?_)
  have hz : sz ≤ H.size := Nat.le_trans hz0 hS.1
  obtain ⟨rv_3, er_4⟩ : ∃ z, z = up3 rv 65 i0 1 (some li) := ⟨_, rfl⟩
  rw [← er_4] at hU
  have hB : RB al rv_3 := by rw [er_4]; exact hB.put rfl hi_oli
  have hE := hE.putr (t := 65) (i := i0) (k := 1) (x := some li) (by decide)
  rw [← er_4] at hE
  have hN : NN 65 i0 [1] rv_3 := by rw [er_4]; exact hN.put 1 li
  refine lv_aload_n hx hb dX8_init_14 rfl (lv_at hl 0 rfl) ?_
  refine lv_aload_n hx hb dX8_init_15 rfl (lv_at hl 2 rfl) ?_
  refine W.eq (g2 := F0 m 16 ls [.ref (al.2 62 li), .ref (al.2 65 i0)]) (by rw [ho_oli, ho_o]) ?_
  refine q_putr (t := 65) (i := i0) (k := 2) (t' := 62) (j := li) C hU hS k_65 (hc := rfl) uwX8 tyX8 tyX8_ok nmX8 hi_o (by decide) rfl (Or.inl rfl) rfl fl_X8_19 dX8_init_16 (fun _ => rfl) (fun _ => rfl) (fun H locs hU hS => ?_)
  have hz : sz ≤ H.size := Nat.le_trans hz0 hS.1
  obtain ⟨rv_5, er_6⟩ : ∃ z, z = up3 rv_3 65 i0 2 (some li) := ⟨_, rfl⟩
  rw [← er_6] at hU
  have hB : RB al rv_5 := by rw [er_6]; exact hB.put rfl hi_oli
  have hE := hE.putr (t := 65) (i := i0) (k := 2) (x := some li) (by decide)
  rw [← er_6] at hE
  have hN : NN 65 i0 [2, 1] rv_5 := by rw [er_6]; exact hN.put 2 li
  refine lv_aload_n hx hb dX8_init_19 rfl (lv_at hl 0 rfl) ?_
  refine lv_iconst (v := 4) hx hb dX8_init_20 (by decide) ?_
  refine q_newr (t := 66) (Cn := "LateClaims$Leg") C hU hS hB hz k_66 (by decide) (fun _ => rfl) kl_X8_22 C.2.2.2.1.2.1 (by decide) (by decide) (by decide) (Nat.le_of_ble_eq_true rfl) (Nat.le_of_ble_eq_true rfl) dX8_init_21 (fun a_7 H hU hS hz => ?_)
  have hc_14 : al.1 66 = al.1 66 := hE.1 66
  have hE9 := hE.new 66 a_7
  have hR9 := hR.new 66 a_7
  have hB9 := hB.new 66 a_7
  have hn9 := grow_new (al := al) (t := 66) (a := a_7)
  rw [hc_14] at hU hE9 hR9 hB9 hn9
  obtain ⟨al_8, ea_11⟩ : ∃ z, z = grow al 66 a_7 := ⟨_, rfl⟩
  obtain ⟨iv_9, ei_12⟩ : ∃ z, z = clr iv_1 66 (al.1 66) 0 := ⟨_, rfl⟩
  obtain ⟨rv_10, er_13⟩ : ∃ z, z = clr rv_5 66 (al.1 66) none := ⟨_, rfl⟩
  rw [← ea_11] at hU hE9 hR9 hB9 hn9
  rw [← ei_12] at hU hE9 hR9
  rw [← er_13] at hU hE9 hB9
  have ho_o : al_8.2 65 i0 = o := by rw [ea_11, grow_ad hi_o]; exact ho_o
  have hi_o : i0 < al_8.1 65 := by rw [ea_11, grow_ct]; omega
  have ho_oli : al_8.2 62 li = oli := by rw [ea_11, grow_ad hi_oli]; exact ho_oli
  have hi_oli : li < al_8.1 62 := by rw [ea_11, grow_ct]; omega
  have ho_a_7 : al_8.2 66 (al.1 66) = a_7 := hn9
  have hi_a_7 : (al.1 66) < al_8.1 66 := by rw [ea_11, grow_ct, hc_14]; simp
  have hN : NN 65 i0 [2, 1] rv_10 := hN.keep (fun k => by rw [er_13]; exact clr_ne (fun z => absurd z.1 (by decide)))
  have hE := hE9
  have hR := hR9
  have hB := hB9
  refine W.widen (k := 1) (n := 4) (Nat.le_of_ble_eq_true rfl) (Nat.le_of_ble_eq_true rfl) ?_
  refine W.eq (g2 := F0 m 24 ls [.ref (al_8.2 66 (al.1 66)), .ref (al_8.2 65 i0)]) (by rw [ho_a_7, ho_o]) ?_
  refine q_putr (t := 65) (i := i0) (k := 3) (t' := 66) (j := (al.1 66)) C hU hS k_65 (hc := rfl) uwX8 tyX8 tyX8_ok nmX8 hi_o (by decide) rfl (Or.inr ⟨rfl, hnm, rfl⟩) rfl fl_X8_24 dX8_init_24 (fun _ => rfl) (fun _ => rfl) (fun H locs hU hS => ?_)
  have hz : sz ≤ H.size := Nat.le_trans hz0 hS.1
  obtain ⟨rv_15, er_16⟩ : ∃ z, z = up3 rv_10 65 i0 3 (some (al.1 66)) := ⟨_, rfl⟩
  rw [← er_16] at hU
  have hB : RB al_8 rv_15 := by rw [er_16]; exact hB.put rfl hi_a_7
  have hE := hE.putr (t := 65) (i := i0) (k := 3) (x := some (al.1 66)) (by decide)
  rw [← er_16] at hE
  have hN : NN 65 i0 [3, 2, 1] rv_15 := by rw [er_16]; exact hN.put 3 (al.1 66)
  refine lv_aload_n hx hb dX8_init_27 rfl (lv_at hl 0 rfl) ?_
  refine W.eq (g2 := F0 m 28 ls [.ref (al_8.2 65 i0)]) (by rw [ho_o]) ?_
  refine q_getr (t := 65) (i := i0) (k := 3) (t' := 66) (j := (al.1 66)) C hU k_65 (hc := rfl) uwX8 hi_o (by decide) rfl rfl fl_X8_24 dX8_init_28 (by rw [er_16]; exact up3_self _ _ _ _ _) ?_
  refine W.eq (g2 := F0 m 31 ls [.ref a_7]) (by rw [ho_a_7]) ?_
  refine lv_iconst (v := 0) hx hb dX8_init_31 (by decide) ?_
  refine lv_aload_n hx hb dX8_init_32 rfl (lv_at hl 2 rfl) ?_
  refine W.eq (g2 := F0 m 33 ls [.ref (al_8.2 62 li), .int 0, .ref (al_8.2 66 (al.1 66))]) (by rw [ho_oli, ho_a_7]) ?_
  refine s_66 (i := (al.1 66)) (j := li) C hU hS hi_a_7 hi_oli (x := 0) (by omega) (by omega) dX8_init_33 (fun rv_17 H locs er_18 hU hS => ?_)
  have hz : sz ≤ H.size := Nat.le_trans hz0 hS.1
  have hB : RB al_8 rv_17 := by rw [er_18]; exact hB.put rfl hi_oli
  have hE := hE.putr (t := 66) (i := (al.1 66)) (k := (0 : Int32).toNatClampNeg) (x := some li) (Or.inl (by decide))
  rw [← er_18] at hE
  have hN : NN 65 i0 [3, 2, 1] rv_17 := hN.keep (fun k => by rw [er_18]; exact up3_ne (fun z => absurd z.1 (by decide)))
  refine lv_aload_n hx hb dX8_init_34 rfl (lv_at hl 0 rfl) ?_
  refine lv_iconst (v := 1) hx hb dX8_init_35 (by decide) ?_
  refine W.eq (g2 := F0 m 36 ls [.int 1, .ref (al_8.2 65 i0)]) (by rw [ho_o]) ?_
  refine q_puti (t := 65) (i := i0) (k := 4) C hU hS k_65 (hc := rfl) uwX8 tyX8 tyX8_ok nmX8 hi_o (by decide) rfl (Or.inl rfl) rfl fl_X8_28 dX8_init_36 rfl rfl (fun H locs hU hS => ?_)
  have hz : sz ≤ H.size := Nat.le_trans hz0 hS.1
  obtain ⟨iv_19, ei_20⟩ : ∃ z, z = up3 iv_9 65 i0 4 1 := ⟨_, rfl⟩
  rw [← ei_20] at hU
  have hR : RG al_8 iv_19 := by rw [ei_20]; exact hR.put (show _ ∧ _ from ⟨show (0 : Int) ≤ _ by omega, show _ ≤ (4 : Int) by omega⟩)
  have hE := hE.puti (t := 65) (i := i0) (k := 4) (x := 1) (by decide)
  rw [← ei_20] at hE
  refine lv_aload_n hx hb dX8_init_39 rfl (lv_at hl 0 rfl) ?_
  refine lv_iconst (v := 5) hx hb dX8_init_40 (by decide) ?_
  refine q_newp (t := 67) (ty := .int) C hU hS hB hz rfl (Or.inl rfl) k_67 (fun _ => rfl) ac_int (by decide) (by decide) (by decide) (Nat.le_of_ble_eq_true rfl) (Nat.le_of_ble_eq_true rfl) dX8_init_41 (fun a_21 H hU hS hz => ?_)
  have hc_28 : al_8.1 67 = al.1 67 := hE.1 67
  have hE9 := hE.new 67 a_21
  have hR9 := hR.new 67 a_21
  have hB9 := hB.new 67 a_21
  have hn9 := grow_new (al := al_8) (t := 67) (a := a_21)
  rw [hc_28] at hU hE9 hR9 hB9 hn9
  obtain ⟨al_22, ea_25⟩ : ∃ z, z = grow al_8 67 a_21 := ⟨_, rfl⟩
  obtain ⟨iv_23, ei_26⟩ : ∃ z, z = clr iv_19 67 (al.1 67) 0 := ⟨_, rfl⟩
  obtain ⟨rv_24, er_27⟩ : ∃ z, z = clr rv_17 67 (al.1 67) none := ⟨_, rfl⟩
  rw [← ea_25] at hU hE9 hR9 hB9 hn9
  rw [← ei_26] at hU hE9 hR9
  rw [← er_27] at hU hE9 hB9
  have ho_a_7 : al_22.2 66 (al.1 66) = a_7 := by rw [ea_25, grow_ad hi_a_7]; exact ho_a_7
  have hi_a_7 : (al.1 66) < al_22.1 66 := by rw [ea_25, grow_ct]; omega
  have ho_o : al_22.2 65 i0 = o := by rw [ea_25, grow_ad hi_o]; exact ho_o
  have hi_o : i0 < al_22.1 65 := by rw [ea_25, grow_ct]; omega
  have ho_oli : al_22.2 62 li = oli := by rw [ea_25, grow_ad hi_oli]; exact ho_oli
  have hi_oli : li < al_22.1 62 := by rw [ea_25, grow_ct]; omega
  have ho_a_21 : al_22.2 67 (al.1 67) = a_21 := hn9
  have hi_a_21 : (al.1 67) < al_22.1 67 := by rw [ea_25, grow_ct, hc_28]; simp
  have hN : NN 65 i0 [3, 2, 1] rv_24 := hN.keep (fun k => by rw [er_27]; exact clr_ne (fun z => absurd z.1 (by decide)))
  have hE := hE9
  have hR := hR9
  have hB := hB9
  refine W.widen (k := 2) (n := 9) (Nat.le_of_ble_eq_true rfl) (Nat.le_of_ble_eq_true rfl) ?_
  refine W.eq (g2 := F0 m 43 ls [.ref (al_22.2 67 (al.1 67)), .ref (al_22.2 65 i0)]) (by rw [ho_a_21, ho_o]) ?_
  refine q_putr (t := 65) (i := i0) (k := 5) (t' := 67) (j := (al.1 67)) C hU hS k_65 (hc := rfl) uwX8 tyX8 tyX8_ok nmX8 hi_o (by decide) rfl (Or.inr ⟨rfl, hnm, rfl⟩) rfl fl_X8_31 dX8_init_43 (fun _ => rfl) (fun _ => rfl) (fun H locs hU hS => ?_)
  have hz : sz ≤ H.size := Nat.le_trans hz0 hS.1
  obtain ⟨rv_29, er_30⟩ : ∃ z, z = up3 rv_24 65 i0 5 (some (al.1 67)) := ⟨_, rfl⟩
  rw [← er_30] at hU
  have hB : RB al_22 rv_29 := by rw [er_30]; exact hB.put rfl hi_a_21
  have hE := hE.putr (t := 65) (i := i0) (k := 5) (x := some (al.1 67)) (by decide)
  rw [← er_30] at hE
  have hN : NN 65 i0 [5, 3, 2, 1] rv_29 := by rw [er_30]; exact hN.put 5 (al.1 67)
  exact q_vretA C hr hlk hU hS (⟨hR, hB, hE, hN⟩) dX8_init_46
end
section
theorem va_AOA.moved {t : FieldType} {u U : State} (hvm : u.vm.Alike U.vm) (h : va_AOA t u) : va_AOA t U := by
  obtain ⟨comp, ci, k, h1, h2, h3, h4, h5⟩ := arrayOverA_spec h
  obtain ⟨k', hk', he⟩ := hvm.2.2 _ _ h3
  have hi : (U.vm.classes.findIdx? fun (x : Class) => match x.kind with | .array component _ => component == comp | _ => false) = some ci := by
    rw [hvm.findIdx?_eq _ (fun _ => rfl)]
    exact h2
  have hkind : k'.kind = .array comp (.array t) := by rw [he]; exact h4
  have f1 : U.vm.findClass (FieldType.array t).toString = some comp := by rw [hvm.findClass]; exact h1
  have f2 : U.vm.findClass ("[" ++ (FieldType.array t).toString) = some ci := by rw [hvm.findClass]; exact h5
  unfold va_AOA Cond.before Cond.holds
  simp only [Cond.value]
  rw [f1, Option.bind_some]
  refine (congrArg (fun o : Option Nat => (o.bind (fun c => (U.vm.classes[c]?).map fun (k : Class) => match k.kind with | .array _ ty => decide (ty = FieldType.array t) && decide (U.vm.findClass ("[" ++ (FieldType.array t).toString) = some c) | _ => false) == some true)) hi).trans ?_
  simp [hk', hkind, f2]
def al2 (al : Al) (a : Nat) : Al := (fun t => if t = 54 then 1 else if t = 55 then 10 else al.1 t, fun t i => if t = 54 then a else if t = 55 then a + 1 + i else al.2 t i)
def iv2 (iv : Iv) : Iv := fun t i k => if t = 54 ∨ t = 55 then 0 else iv t i k
def rv2 (rv : Rv) : Rv := fun t i k => if t = 54 then (if k < 10 then some k else none) else if t = 55 then none else rv t i k
section MNA
variable {p : Program} {l : Launch} {e : Env} {R : Room} {s : State} {m : MethodId} {args : Array Value} {below : List Frame} {meth : Method} {c : Code} {H : Heap} {locs : List Loc} {cells slots : Nat} {Q : State → Prop}
variable {cc : ByteArray} {pc nL : Nat} {ls : Array Slot} {rest : List Value} {own : String} {D : va_G} {cA : FieldType → ClassId} {sz : Nat} {al : Al} {iv : Iv} {rv : Rv}
theorem UW.two {H1 : Heap} (hU : UW D cA sz al iv rv H) (hB : RB al rv) (hz : sz ≤ H.size) (c54 : al.1 54 = 0) (c55 : al.1 55 = 0) (o : ∀ q : Nat, q < H.size → H1[q]? = H[q]?)
    (ho : H1[H.size]? = some (arrV (cA (.array .int)) 10 (fun i => va_rf (if i < 10 then some (H.size + 1 + i) else none)))) (hr : ∀ j : Nat, j < 10 → H1[H.size + 1 + j]? = some (arrV (cA .int) 10 (fun _ => .int 0))) : UW D cA sz (al2 al H.size) (iv2 iv) (rv2 rv) H1 := by
  have spl : ∀ t i, i < (al2 al H.size).1 t → (t = 54 ∧ i = 0) ∨ (t = 55 ∧ i < 10) ∨ (t ≠ 54 ∧ t ≠ 55 ∧ i < al.1 t) := by
    intro t i h
    by_cases e1 : t = 54
    · subst e1; left; simp [al2] at h; exact ⟨rfl, h⟩
    · by_cases e2 : t = 55
      · subst e2; right; left; simp [al2] at h; exact ⟨rfl, h⟩
      · right; right; simp [al2, e1, e2] at h; exact ⟨e1, e2, h⟩
  have ad : ∀ t i, t ≠ 54 → t ≠ 55 → (al2 al H.size).2 t i = al.2 t i := fun t i h1 h2 => by simp [al2, h1, h2]
  refine ⟨fun t i h => ?_, fun t i t' i' h h' q => ?_, fun t i h => ?_⟩
  · rcases spl t i h with ⟨rfl, rfl⟩ | ⟨rfl, hi⟩ | ⟨e1, e2, hi⟩
    · refine cellAt.ofAr rfl ?_
      show H1[H.size]? = some (arrV (cA (.array .int)) 10 (vl (al2 al H.size) (iv2 iv) (rv2 rv) 54 0))
      rw [ho]
      congr 2
      funext k
      show va_rf _ = va_rf (Option.map _ _)
      by_cases hk : k < 10
      · simp [rv2, hk, al2]
      · simp [rv2, hk]
    · refine cellAt.ofAr rfl ?_
      have := hr i hi
      show H1[H.size + 1 + i]? = some (arrV (cA .int) 10 (vl (al2 al H.size) (iv2 iv) (rv2 rv) 55 i))
      rw [this]
      congr 2
    · rw [ad t i e1 e2]
      refine ((hU.1 t i hi).kept (o _ (hU.1 t i hi).lt)).congr (fun k hk => ?_)
      cases hp : (pt t).2.2.2 k with
      | none => simp only [vl, hp, iv2, e1, e2, or_self, if_false]
      | some t' =>
        simp only [vl, hp, rv2, e1, e2, if_false]
        cases hrv : rv t i k with
        | none => rfl
        | some j =>
          have hj := hB t i k t' hi hk hp j hrv
          have n1 : t' ≠ 54 := fun z => by subst z; omega
          have n2 : t' ≠ 55 := fun z => by subst z; omega
          show va_rf (some (al.2 t' j)) = va_rf (some ((al2 al H.size).2 t' j))
          rw [ad t' j n1 n2]
  · rcases spl t i h with ⟨rfl, rfl⟩ | ⟨rfl, hi⟩ | ⟨e1, e2, hi⟩ <;> rcases spl t' i' h' with ⟨rfl, rfl⟩ | ⟨rfl, hi'⟩ | ⟨e1', e2', hi'⟩
    · exact ⟨rfl, rfl⟩
    · simp [al2] at q; omega
    · rw [ad t' i' e1' e2'] at q; have := (hU.1 t' i' hi').lt; simp [al2] at q; omega
    · simp [al2] at q; omega
    · simp [al2] at q; exact ⟨rfl, q⟩
    · rw [ad t' i' e1' e2'] at q; have := (hU.1 t' i' hi').lt; simp [al2] at q; omega
    · rw [ad t i e1 e2] at q; have := (hU.1 t i hi).lt; simp [al2] at q; omega
    · rw [ad t i e1 e2] at q; have := (hU.1 t i hi).lt; simp [al2] at q; omega
    · rw [ad t i e1 e2, ad t' i' e1' e2'] at q; exact hU.2.1 t i t' i' hi hi' q
  · rcases spl t i h with ⟨rfl, rfl⟩ | ⟨rfl, hi⟩ | ⟨e1, e2, hi⟩
    · simp [al2]; exact hz
    · simp [al2]; omega
    · rw [ad t i e1 e2]; exact hU.2.2 t i hi
theorem q_mna (C : Cx p s m args c cc nL own D cA) (hU : UW D cA sz al iv rv H) (hS : va_S (Aq sz) s.heap H locs) (hB : RB al rv) (hz : sz ≤ H.size) (c54 : al.1 54 = 0) (c55 : al.1 55 = 0) {index : Nat} (hcl : Cond.classLink own index "[[I" ∈ BW) (hov : va_AOA .int s) (hcells : cells + (1 + 10) ≤ R.cells) (hslots : slots + (10 + 10 * 10) ≤ R.slots) (hdg : decode cc pc = .ok (.multianewarray index 2, 4))
    (kk : ∀ (a : Nat) (H1 : Heap), UW D cA sz (al2 al a) (iv2 iv) (rv2 rv) H1 → va_S (Aq sz) s.heap H1 locs → sz ≤ H1.size → W p l e R s m args below meth c H1 locs (cells + 1 + 10) (slots + 10 + 10 * 10) Q (F0 m (pc + 4) ls (.ref a :: rest))) : W p l e R s m args below meth c H locs cells slots Q (F0 m pc ls (.int 10 :: .int 10 :: rest)) := by
  obtain ⟨⟨hx, hb, hml, hown, hts⟩, hK⟩ := C
  intro T hT Xs
  have e10 : (10 : Int32).toNatClampNeg = 10 := by decide
  obtain ⟨vm₁, cO, comp, -, fA, fC, hO, -, X', step⟩ := Xs.multianewarray2F hx (own := own) (index := index) (ty := .int) hown (hts _ hcl) (va_AOA.use hov) (hts _ ac_int) (g := F0 m pc ls (.int 10 :: .int 10 :: rest)) rfl (by rw [hb]; exact hdg) rfl (by decide) (by decide) (by decide) (by decide) (by decide) (by decide) (by decide) (by rw [e10]; exact hcells) (by rw [e10]; exact hslots)
  rw [e10] at X' step
  generalize hF : Jvm.Free.Multi.fill (T.setVm vm₁) cO comp 10 10 (defaultValue .int) 10 = F at X' step
  have hTh : (T.setVm vm₁).heap = H := hT
  obtain ⟨f1, f2, -, -⟩ := Jvm.Free.Multi.fill_facts (T.setVm vm₁) cO comp 10 10 (defaultValue .int) 10
  rw [hF, hTh] at f1 f2
  have hold : ∀ x : Nat, x < H.size → F.heap[x]? = H[x]? := fun x hxx => by
    have := Jvm.Free.Multi.fill_old (T.setVm vm₁) cO comp 10 10 (defaultValue .int) (a := x) (by rw [hTh]; exact hxx) 10
    rw [hF, hTh] at this
    exact this
  have hrow : ∀ j : Nat, j < 10 → F.heap[H.size + 1 + j]? = some (arrV (cA .int) 10 (fun _ => .int 0)) := fun j hj => by
    have h0 := Jvm.Free.Multi.fill_inner (T.setVm vm₁) cO comp 10 10 (defaultValue .int) 10 j hj
    rw [hF, hTh] at h0
    have hc : comp = cA .int := Option.some.inj (fC.symm.trans (hK.2.1 .int (by decide)).2)
    rw [h0, hc]
    show some ({ cls := cA .int, slots := Array.replicate 10 (.int 0), vm := .none } : Cell) = _
    rw [arrV_new]
  have hcO : cO = cA (.array .int) := Option.some.inj (fA.symm.trans (hK.2.1 (.array .int) (by decide)).2)
  rw [vr_outer, hcO] at f2
  have hsz : H.size ≤ F.heap.size := by rw [f1]; omega
  obtain ⟨t, a1, b1⟩ := kk H.size F.heap (hU.two hB hz c54 c55 hold f2 hrow) ⟨Nat.le_trans hS.1 hsz, fun x h1 h2 => (hold x (Nat.lt_of_lt_of_le h1 hS.1)).trans (hS.2.1 x h1 h2), hS.2.2⟩ (Nat.le_trans hz hsz) F rfl X'
  refine ⟨t, step t ?_, b1⟩
  have ee : T.heap.size = H.size := by rw [hT]
  rw [ee]
  exact a1
end MNA
end
section
theorem EXT.two {N : Nat → Nat} {M : Mo} {al al1 : Al} {iv iv1 : Iv} {rv rv1 : Rv} (h : EXT N M al iv rv al1 iv1 rv1) (c54 : al1.1 54 = 0) (c55 : al1.1 55 = 0) (hm : 54 ∈ M.1) (a : Nat) : EXT (fun t => N t + ((if t = 54 then 1 else 0) + (if t = 55 then 10 else 0))) M al iv rv (al2 al1 a) (iv2 iv1) (rv2 rv1) := by
  obtain ⟨h1, h2, h3, h4⟩ := h
  have z54 : al.1 54 = 0 := by have := h1 54; omega
  have z55 : al.1 55 = 0 := by have := h1 55; omega
  have n54 : N 54 = 0 := by have := h1 54; omega
  have n55 : N 55 = 0 := by have := h1 55; omega
  refine ⟨fun t => ?_, fun t i q => ?_, fun t i k q m => ?_, fun t i k q1 q2 m => ?_⟩
  · by_cases e1 : t = 54
    · subst e1; simp [al2, z54, n54]
    · by_cases e2 : t = 55
      · subst e2; simp [al2, z55, n55]
      · simp [al2, e1, e2]; exact h1 t
  · have e1 : t ≠ 54 := fun z => by subst z; omega
    have e2 : t ≠ 55 := fun z => by subst z; omega
    simp [al2, e1, e2]; exact h2 t i q
  · have e1 : t ≠ 54 := fun z => by subst z; omega
    have e2 : t ≠ 55 := fun z => by subst z; omega
    simp [iv2, rv2, e1, e2]; exact h3 t i k q m
  · by_cases e1 : t = 54
    · subst e1; exact absurd (Or.inl hm) m
    · by_cases e2 : t = 55
      · subst e2; simp [iv2, rv2]
      · simp [al2, e1, e2] at q2
        simp [iv2, rv2, e1, e2]; exact h4 t i k q1 q2 m
theorem RG.two {al : Al} {iv : Iv} (h : RG al iv) (a : Nat) : RG (al2 al a) (iv2 iv) := by
  intro t i k h1 h2
  by_cases e1 : t = 54 ∨ t = 55
  · simp only [iv2, if_pos e1]; exact rg0 t k
  · simp only [iv2, if_neg e1]
    refine h t i k ?_ h2
    have a1 : t ≠ 54 := fun z => e1 (Or.inl z)
    have a2 : t ≠ 55 := fun z => e1 (Or.inr z)
    simp [al2, a1, a2] at h1; exact h1
theorem RB.two {al : Al} {rv : Rv} (h : RB al rv) (c54 : al.1 54 = 0) (c55 : al.1 55 = 0) (a : Nat) : RB (al2 al a) (rv2 rv) := by
  intro t i k t' h1 h2 h3 j h4
  by_cases e1 : t = 54
  · subst e1
    have : t' = 55 := (Option.some.inj h3).symm
    subst this
    simp [rv2] at h4
    simp [al2]; omega
  · by_cases e2 : t = 55
    · subst e2; simp [rv2] at h4
    · simp [rv2, e1, e2] at h4
      simp [al2, e1, e2] at h1
      have q := h t i k t' h1 h2 h3 j h4
      have n1 : t' ≠ 54 := fun z => by subst z; omega
      have n2 : t' ≠ 55 := fun z => by subst z; omega
      simp [al2, n1, n2]; exact q
set_option maxHeartbeats 4000000 in
set_option maxRecDepth 100000 in
theorem c_X7_init {l : Launch} {D : va_G} {cA : FieldType → ClassId} {sz : Nat} {al : Al} {iv : Iv} {rv : Rv} (hR : RG al iv) (hB : RB al rv) (i0 : Nat) (hi0 : i0 < al.1 52) (c53 : al.1 53 = 0) (c54 : al.1 54 = 0) (c55 : al.1 55 = 0) (c56 : al.1 56 = 0) : Met l yX7_init (wd yX7_init cX7_init 2 none) (rmA 2 22 160) (PcA D cA sz al iv rv [.ref (al.2 52 i0)] (fun U => va_AOA .int U)) (QVA D cA sz (fun al' iv' rv' => RG al' iv' ∧ RB al' rv' ∧ EXT (fun t => ((if t = 53 then 1 else 0) + (if t = 56 then 10 else 0)) + ((if t = 54 then 1 else 0) + (if t = 55 then 10 else 0))) ([53, 54], [(52, 0), (52, 1), (56, 0), (56, 2)]) al iv rv al' iv' rv' ∧ NN 52 i0 [0, 1] rv' ∧ (∀ j : Nat, j < 10 → rv' 53 0 j = some j ∧ rv' 54 0 j = some j ∧ (iv' 56 j 0).toInt = j ∧ (iv' 56 j 2).toInt = j))) 22 160 (Aq sz) := by
  refine mk_a (by decide) (Nat.le_of_ble_eq_true rfl) rfl ?_
  intro p e s m below meth c ls C hr hlk hnm hU hS hz hov hl
  have hz0 := hz
  have hx := C.1.1
  have hb := C.1.2.1
  have k0 : (0 : Int32).toInt = 0 := by decide
  have k1 : (1 : Int32).toInt = 1 := by decide
  have k10 : (10 : Int32).toInt = 10 := by decide
  obtain ⟨o, ho_o⟩ : ∃ z, al.2 52 i0 = z := ⟨_, rfl⟩
  have hi_o := hi0
  have hl : lv_has ls 2 [(0, .ref o)] := by rw [← ho_o]; exact hl
  have hE : EXT (fun _ => 0) ([53, 54], [(52, 0), (52, 1), (56, 0), (56, 2)]) al iv rv al iv rv := EXT.rf
  refine lv_aload_n hx hb dX7_init_0 rfl (lv_at hl 0 rfl) ?_
  refine W.objInit hx hb C.1.2.2.2.1 (C.1.2.2.2.2 _ oi_X7) (C.1.2.2.2.2 _ oi_m) (C.1.2.2.2.2 _ oi_c) rfl (by rw [C.1.2.2.1]; exact hl.1) rfl dX7_init_1 (Nat.le_of_ble_eq_true rfl) (Nat.le_of_ble_eq_true rfl) ?_
  refine W.eq (g2 := F0 m 4 ls []) rfl ?_
  refine lv_aload_n hx hb dX7_init_4 rfl (lv_at hl 0 rfl) ?_
  refine lv_bipush (v := 10) hx hb dX7_init_5 (by decide) ?_
  refine q_newr (t := 53) (Cn := "LateClaims$Port") C hU hS hB hz k_53 (by decide) (fun _ => rfl) kl_X7_9 C.2.2.2.1.1 (by decide) (by decide) (by decide) (Nat.le_of_ble_eq_true rfl) (Nat.le_of_ble_eq_true rfl) dX7_init_7 (fun a H hU hS hz => ?_)
  have hE9 := hE.new 53 a
  have hR9 := hR.new 53 a
  have hB9 := hB.new 53 a
  have hn9 := grow_new (al := al) (t := 53) (a := a)
  rw [c53] at hU hE9 hR9 hB9 hn9
  obtain ⟨al1, ea⟩ : ∃ z, z = grow al 53 a := ⟨_, rfl⟩
  obtain ⟨iv1, ei⟩ : ∃ z, z = clr iv 53 0 0 := ⟨_, rfl⟩
  obtain ⟨rv1, er⟩ : ∃ z, z = clr rv 53 0 none := ⟨_, rfl⟩
  rw [← ea] at hU hE9 hR9 hB9 hn9
  rw [← ei] at hU hE9 hR9
  rw [← er] at hU hE9 hB9
  have ho_o : al1.2 52 i0 = o := by rw [ea, grow_ad hi_o]; exact ho_o
  have hi_o : i0 < al1.1 52 := by rw [ea, grow_ct]; omega
  have hi_a : 0 < al1.1 53 := by rw [ea, grow_ct, c53]; simp
  refine W.eq (g2 := F0 m 10 ls [.ref (al1.2 53 0), .ref (al1.2 52 i0)]) (by rw [hn9, ho_o]) ?_
  refine q_putr (t := 52) (i := i0) (k := 0) (t' := 53) (j := 0) C hU hS k_52 (hc := rfl) uwX7 tyX7 tyX7_ok nmX7 hi_o (by decide) rfl (Or.inr ⟨rfl, hnm, rfl⟩) rfl fl_X7_11 dX7_init_10 (fun _ => rfl) (fun _ => rfl) (fun H locs hU hS => ?_)
  obtain ⟨rv2', er2⟩ : ∃ z, z = up3 rv1 52 i0 0 (some 0) := ⟨_, rfl⟩
  rw [← er2] at hU
  have hB2 : RB al1 rv2' := by rw [er2]; exact hB9.put rfl hi_a
  have hE2 := hE9.putr (t := 52) (i := i0) (k := 0) (x := some 0) (by decide)
  rw [← er2] at hE2
  have hf0 : rv2' 52 i0 0 = some 0 := by rw [er2]; exact up3_self _ _ _ _ _
  refine lv_iconst (v := 0) hx hb dX7_init_13 (by decide) ?_
  refine lv_istore_n (lv' := [(1, .int 0), (0, .ref o)]) hx hb dX7_init_14 rfl hl (by decide) rfl (fun ls hl => ?_)
  have LP : ∀ (n : Nat) (x : Int32) (al1 : Al) (iv1 : Iv) (rv1 : Rv) (H : Heap) (locs : List Loc) (ls : Array Slot), lv_has ls 2 [(1, .int x), (0, .ref o)] → (0 ≤ x.toInt ∧ x.toInt ≤ 10) → (10 - x.toInt).toNat < n → RG al1 iv1 → RB al1 rv1 → EXT (fun t => (if t = 53 then 1 else 0) + (if t = 56 then x.toInt.toNat else 0)) ([53, 54], [(52, 0), (52, 1), (56, 0), (56, 2)]) al iv rv al1 iv1 rv1 → al1.2 52 i0 = o → al1.2 53 0 = a → rv1 52 i0 0 = some 0 → (∀ j : Nat, (j : Int) < x.toInt → rv1 53 0 j = some j ∧ (iv1 56 j 0).toInt = j ∧ (iv1 56 j 2).toInt = j) → UW D cA sz al1 iv1 rv1 H → va_S (Aq sz) s.heap H locs → sz ≤ H.size → W p l e (rmA 2 22 160) s m [Value.ref (al.2 52 i0)].toArray below meth c H locs (1 + x.toInt.toNat) (10 + 4 * x.toInt.toNat) (MQ below (QVA D cA sz (fun al' iv' rv' => RG al' iv' ∧ RB al' rv' ∧ EXT (fun t => ((if t = 53 then 1 else 0) + (if t = 56 then 10 else 0)) + ((if t = 54 then 1 else 0) + (if t = 55 then 10 else 0))) ([53, 54], [(52, 0), (52, 1), (56, 0), (56, 2)]) al iv rv al' iv' rv' ∧ NN 52 i0 [0, 1] rv' ∧ (∀ j : Nat, j < 10 → rv' 53 0 j = some j ∧ rv' 54 0 j = some j ∧ (iv' 56 j 0).toInt = j ∧ (iv' 56 j 2).toInt = j))) [Value.ref (al.2 52 i0)].toArray s 22 160 (Aq sz)) (F0 m 15 ls []) := by
    intro n
    induction n with
    | zero =>
      intro x al1 iv1 rv1 H locs ls hl hxr hm
      exact absurd hm (Nat.not_lt_zero _)
    | succ n ih =>
      intro x al1 iv1 rv1 H locs ls hl hxr hm hR hB hE ho_o ho_a hf0 hj hU hS hz
      have hi_o : i0 < al1.1 52 := by rw [hE.1]; omega
      have hi_a : 0 < al1.1 53 := by rw [hE.1]; simp
      have q56 : al1.1 56 = x.toInt.toNat := by rw [hE.1, c56]; simp
      have q54 : al1.1 54 = 0 := by rw [hE.1, c54]; simp
      have q55 : al1.1 55 = 0 := by rw [hE.1, c55]; simp
      refine lv_iload_n hx hb dX7_init_15 rfl (lv_at hl 0 rfl) ?_
      refine lv_bipush (v := 10) hx hb dX7_init_16 (by decide) ?_
      refine b_icmp_ge (tgt := 41) hx hb dX7_init_18 (by decide) (fun cx => ?_) (fun cx => ?_)
      · have x10 : x.toInt = 10 := by omega
        refine W.widen (k := 11) (n := 50) (by omega) (by omega) ?_
        refine lv_aload_n hx hb dX7_init_41 rfl (lv_at hl 1 rfl) ?_
        refine lv_bipush (v := 10) hx hb dX7_init_42 (by decide) ?_
        refine lv_bipush (v := 10) hx hb dX7_init_44 (by decide) ?_
        refine q_mna C hU hS hB hz q54 q55 kl_X7_18 hov (Nat.le_of_ble_eq_true rfl) (Nat.le_of_ble_eq_true rfl) dX7_init_46 (fun a2 H hU hS hz => ?_)
        have hE3 := hE.two q54 q55 (by decide) a2
        have hR3 := hR.two a2
        have hB3 := hB.two q54 q55 a2
        have g1 : (al2 al1 a2).2 52 i0 = o := ho_o
        have g2 : (al2 al1 a2).2 54 0 = a2 := rfl
        have i1 : i0 < (al2 al1 a2).1 52 := hi_o
        have i2 : 0 < (al2 al1 a2).1 54 := Nat.zero_lt_one
        refine W.eq (g2 := F0 m 50 ls [.ref ((al2 al1 a2).2 54 0), .ref ((al2 al1 a2).2 52 i0)]) (by rw [g1, g2]) ?_
        refine q_putr (t := 52) (i := i0) (k := 1) (t' := 54) (j := 0) C hU hS k_52 (hc := rfl) uwX7 tyX7 tyX7_ok nmX7 i1 (by decide) rfl (Or.inr ⟨rfl, hnm, rfl⟩) rfl fl_X7_20 dX7_init_50 (fun _ => rfl) (fun _ => rfl) (fun H locs hU hS => ?_)
        refine W.widen (k := 22) (n := 160) (Nat.le_of_ble_eq_true rfl) (Nat.le_of_ble_eq_true rfl) ?_
        refine q_vretA C hr hlk hU hS ⟨hR3, hB3.put rfl i2, ?_, ?_, ?_⟩ dX7_init_53
        · have := hE3.putr (t := 52) (i := i0) (k := 1) (x := some 0) (by decide)
          rw [x10] at this
          exact this
        · intro k hk
          rcases List.mem_cons.mp hk with rfl | hk
          · exact ⟨0, by rw [up3_ne (fun z => absurd z.2.2 (by decide))]; simp [rv2]; exact hf0⟩
          · rcases List.mem_cons.mp hk with rfl | hk
            · exact ⟨0, up3_self _ _ _ _ _⟩
            · cases hk
        · intro j hj10
          have q := hj j (by omega)
          refine ⟨?_, ?_, ?_⟩
          · rw [up3_ne (fun z => absurd z.1 (by decide))]; exact q.1
          · rw [up3_ne (fun z => absurd z.1 (by decide))]; simp [rv2, hj10]
          · exact q.2
      · have xn := ix_nat hxr.1
        have xc : x.toNatClampNeg = x.toInt.toNat := clamp_n
        refine lv_aload_n hx hb dX7_init_21 rfl (lv_at hl 1 rfl) ?_
        refine W.eq (g2 := F0 m 22 ls [.ref (al1.2 52 i0)]) (by rw [ho_o]) ?_
        refine q_getr (t := 52) (i := i0) (k := 0) (t' := 53) (j := 0) C hU k_52 (hc := rfl) uwX7 hi_o (by decide) rfl rfl fl_X7_11 dX7_init_22 hf0 ?_
        refine W.eq (g2 := F0 m 25 ls [.ref a]) (by rw [ho_a]) ?_
        refine lv_iload_n hx hb dX7_init_25 rfl (lv_at hl 0 rfl) ?_
        refine q_newo (t := 56) C hU hS hB hz k_56 (hc := rfl) uwX6 tyX6 tyX6_ok (by decide +kernel) kl_X7_9 ib_X6 iz_X6 (by show _ ≤ 22; omega) (by show _ ≤ 160; omega) dX7_init_26 (fun b H hU hS hz => ?_)
        have hE9 := hE.new 56 b
        have hR9 := hR.new 56 b
        have hB9 := hB.new 56 b
        have hn9 := grow_new (al := al1) (t := 56) (a := b)
        rw [q56] at hU hE9 hR9 hB9 hn9
        obtain ⟨al3, ea⟩ : ∃ z, z = grow al1 56 b := ⟨_, rfl⟩
        obtain ⟨iv3, ei⟩ : ∃ z, z = clr iv1 56 x.toInt.toNat 0 := ⟨_, rfl⟩
        obtain ⟨rv3, er⟩ : ∃ z, z = clr rv1 56 x.toInt.toNat none := ⟨_, rfl⟩
        rw [← ea] at hU hE9 hR9 hB9 hn9
        rw [← ei] at hU hE9 hR9
        rw [← er] at hU hE9 hB9
        have ho_o3 : al3.2 52 i0 = o := by rw [ea, grow_ad hi_o]; exact ho_o
        have hi_a3 : 0 < al3.1 53 := by rw [ea, grow_ct]; omega
        have ho_a3 : al3.2 53 0 = a := by rw [ea, grow_ad hi_a]; exact ho_a
        have hi_b : x.toInt.toNat < al3.1 56 := by rw [ea, grow_ct, q56]; simp
        refine lv_dup hx hb dX7_init_29 rfl ?_
        refine lv_iload_n hx hb dX7_init_30 rfl (lv_at hl 0 rfl) ?_
        refine W.eq (g2 := F0 m 31 ls [.int x, .ref (al3.2 56 x.toInt.toNat), .ref b, .int x, .ref a]) (by rw [hn9]) ?_
        refine q_cvA (q_runIA (n := 1) (b := al3.2 56 x.toInt.toNat) (As := [.int x]) (rest := [.ref b, .int x, .ref a]) C hU hz (fun _ _ _ => trivial) (fun _ _ _ _ _ => trivial) (c_X6_init hR9 hB9 x.toInt.toNat hi_b x) cw_X6_init im_X6_init iz_X6 ml_X7_15 rfl (by decide +kernel) hl.1 rfl rfl (Nat.le_of_ble_eq_true rfl) dX7_init_31 rfl rfl ⟨Nat.le_of_ble_eq_true rfl, Nat.le_of_ble_eq_true rfl⟩ ⟨by show _ ≤ 22; omega, by show _ ≤ 160; omega⟩) hS hz (fun al4 iv4 rv4 H locs hp hU hS hz => ?_)
        obtain ⟨p1, p2, p3⟩ := hp
        rw [p1, p3] at hU
        refine W.eq (g2 := F0 m 34 ls [.ref (al3.2 56 x.toInt.toNat), .int x, .ref (al3.2 53 0)]) (by rw [hn9, ho_a3]) ?_
        refine s_53 (i := 0) (j := x.toInt.toNat) C hU hS hi_a3 hi_b (x := x) (by omega) (by omega) dX7_init_34 (fun rv5 H locs er5 hU hS => ?_)
        obtain ⟨y, ey⟩ : ∃ y : Int32, y = x + 1 := ⟨_, rfl⟩
        have ty : y.toInt = x.toInt + (1 : Int32).toInt := by rw [ey]; exact fb_addI (by omega) (by omega)
        refine lv_iinc (v := y) (lv' := [(1, .int y), (0, .ref o)]) hx hb dX7_init_35 hl (k := 0) rfl (by rw [ey]; rfl) (by decide) rfl (fun ls hl => ?_)
        refine lv_goto (tgt := 15) hx hb dX7_init_38 (by decide) ?_
        refine W.cs (cells' := 1 + y.toInt.toNat) (slots' := 10 + 4 * y.toInt.toNat) (by omega) (by omega) ?_
        have yn : y.toInt.toNat = x.toInt.toNat + 1 := by omega
        have hE5 := ((hE9.puti (t := 56) (i := x.toInt.toNat) (k := 0) (x := x) (by decide)).puti (t := 56) (i := x.toInt.toNat) (k := 2) (x := x) (by decide)).putr (t := 53) (i := 0) (k := x.toNatClampNeg) (x := some x.toInt.toNat) (Or.inl (by decide))
        rw [← p2, ← er5] at hE5
        refine ih y al3 iv4 rv5 H locs ls hl (by omega) (by omega) ?_ ?_ ?_ ho_o3 ho_a3 ?_ ?_ hU hS (Nat.le_trans hz0 hS.1)
        · rw [p2]; exact (hR9.put (show _ ∧ _ from ⟨show (0 : Int) ≤ _ by omega, show _ ≤ (9 : Int) by omega⟩)).put (show _ ∧ _ from ⟨show (0 : Int) ≤ _ by omega, show _ ≤ (9 : Int) by omega⟩)
        · rw [er5]; exact hB9.put rfl hi_b
        · have eN : (fun t => (if t = 53 then 1 else 0) + (if t = 56 then y.toInt.toNat else 0)) = nx (fun t => (if t = 53 then 1 else 0) + (if t = 56 then x.toInt.toNat else 0)) 56 := by
            funext t
            unfold nx
            by_cases e1 : t = 56
            · subst e1; simp [yn]
            · simp [e1]
          rw [eN]; exact hE5
        · rw [er5, up3_ne (fun z => absurd z.1 (by decide)), er, clr_ne (fun z => absurd z.1 (by decide))]; exact hf0
        · intro j hjy
          rcases Int.lt_or_le (j : Int) x.toInt with q | q
          · have q2 := hj j q
            refine ⟨?_, ?_⟩
            · rw [er5, up3_ne (fun z => by omega), er, clr_ne (fun z => absurd z.1 (by decide))]; exact q2.1
            · exact ⟨by rw [p2, up3_ne (fun z => by omega), up3_ne (fun z => by omega), ei, clr_ne (fun z => by omega)]; exact q2.2.1, by rw [p2, up3_ne (fun z => by omega), up3_ne (fun z => by omega), ei, clr_ne (fun z => by omega)]; exact q2.2.2⟩
          · have ej : j = x.toInt.toNat := by omega
            refine ⟨?_, ?_⟩
            · rw [er5, ej, ← xc]; exact up3_self _ _ _ _ _
            · exact ⟨by rw [p2, ej, up3_ne (fun z => absurd z.2.2 (by decide)), up3_self]; omega, by rw [p2, ej, up3_self]; omega⟩
  refine W.cs (cells' := 1 + (0 : Int32).toInt.toNat) (slots' := 10 + 4 * (0 : Int32).toInt.toNat) (by rw [k0]; rfl) (by rw [k0]; rfl) ?_
  refine LP 11 0 al1 iv1 rv2' _ _ ls hl (by omega) (by omega) hR9 hB2 ?_ ho_o hn9 hf0 (fun j q => by omega) hU hS (Nat.le_trans hz0 hS.1)
  have eN : (fun t => (if t = 53 then 1 else 0) + (if t = 56 then (0 : Int32).toInt.toNat else 0)) = nx (fun _ => 0) 53 := by
    funext t; unfold nx; rw [k0]; simp
  rw [eN]; exact hE2
end
section
set_option maxHeartbeats 4000000 in
set_option maxRecDepth 100000 in
theorem c_J7_fill_53178_80 {l : Launch} {D : va_G} {cA : FieldType → ClassId} {sz : Nat} {al : Al} {iv : Iv} {rv : Rv} (hR : RG al iv) (i0 : Nat) (hi0 : i0 < al.1 80) (v : Int32) (pre0 : 0 ≤ v.toInt ∧ v.toInt ≤ 3000) : Met l yJ7_fill_53178 (wd yJ7_fill_53178 cJ7_fill_53178 4 none) (rm 0) (PcW D cA sz al iv rv [.ref (al.2 80 i0), .int v]) (QV D cA sz al (fun iv' rv' => rv' = rv ∧ RG al iv' ∧ FR ([80], []) iv iv' ∧ ∀ k : Nat, k < 4 → iv' 80 i0 k = v)) 0 0 (Aq sz) := by
  refine mk_v (by decide) (Nat.le_of_ble_eq_true rfl) rfl ?_
  intro p e s m args below meth c ls Q H locs C hU hS hl hret
  have hx := C.1.1
  have hb := C.1.2.1
  have hl : lv_has ls 4 [(0, .ref (al.2 80 i0)), (1, .int v)] := hl
  have hF1 : FR ([80], []) iv iv := FR.rf
  have hF2 : FR ([80], []) rv rv := FR.rf
  have k0 : (0 : Int32).toInt = 0 := by decide
  have k1 : (1 : Int32).toInt = 1 := by decide
  have k4 : (4 : Int32).toInt = 4 := by decide
  refine lv_iconst (v := 0) hx hb dJ7_fill_53178_0 (by decide) ?_
  refine lv_istore_n (lv' := [(2, .int 0), (0, .ref (al.2 80 i0)), (1, .int v)]) hx hb dJ7_fill_53178_1 rfl hl (by decide) rfl (fun ls hl => ?_)
  refine lv_aload_n hx hb dJ7_fill_53178_2 rfl (lv_at hl 1 rfl) ?_
  refine q_alen (t := 80) (v := 4) C hU k_80 (by decide) hi0 (by decide) dJ7_fill_53178_3 ?_
  refine lv_istore_n (lv' := [(3, .int 4), (2, .int 0), (0, .ref (al.2 80 i0)), (1, .int v)]) hx hb dJ7_fill_53178_4 rfl hl (by decide) rfl (fun ls hl => ?_)
  have J_5 : ∀ (n_5 : Nat) (l2_1 : Int32) (iv_2 : Iv) (H : Heap) (locs : List Loc) (ls : Array Slot), lv_has ls 4 [(0, .ref (al.2 80 i0)), (1, .int v), (3, .int 4), (2, .int l2_1)] → RG al iv_2 → FR ([80], []) iv iv_2 → UW D cA sz al iv_2 rv H → va_S (Aq sz) s.heap H locs → (∀ k : Nat, (k : Int) < l2_1.toInt → iv_2 80 i0 k = v) → (0 ≤ l2_1.toInt ∧ l2_1.toInt ≤ 4) → (4 - l2_1.toInt).toNat < n_5 → W p l e (rm 0) s m args below meth c H locs 0 0 Q (F0 m 5 ls []) := by
    intro n_5
    induction n_5 with
    | zero =>
      intro l2_1 iv_2 H locs ls hl hR hF1 hU hS hV i5_0 hm_5
      exact absurd hm_5 (Nat.not_lt_zero _)
    | succ n_5 ih_5 =>
      intro l2_1 iv_2 H locs ls hl hR hF1 hU hS hV i5_0 hm_5
      refine lv_iload_n hx hb dJ7_fill_53178_5 rfl (lv_at hl 3 rfl) ?_
      refine lv_iload_n hx hb dJ7_fill_53178_6 rfl (lv_at hl 2 rfl) ?_
      refine b_icmp_ge (tgt := 20) hx hb dJ7_fill_53178_7 (by decide) (fun c_3 => ?_) (fun c_3 => ?_)
      ·
        exact hret (⟨rfl, hR, hF1, fun k hk => hV k (by omega)⟩) hU hS dJ7_fill_53178_20
      ·
        refine lv_aload_n hx hb dJ7_fill_53178_10 rfl (lv_at hl 0 rfl) ?_
        refine lv_iload_n hx hb dJ7_fill_53178_11 rfl (lv_at hl 3 rfl) ?_
        refine lv_iload_n hx hb dJ7_fill_53178_12 rfl (lv_at hl 1 rfl) ?_
        refine s_80 C hU hS hi0 (x := l2_1) (by omega) (by omega) dJ7_fill_53178_13 (fun iv_4 H locs ei_5 hU hS => ?_)
        have hR : RG al iv_4 := by rw [ei_5]; exact hR.put (show _ ∧ _ from ⟨show (0 : Int) ≤ _ by omega, show _ ≤ (3000 : Int) by omega⟩)
        have hF1 : FR ([80], []) iv iv_4 := by rw [ei_5]; exact hF1.put (Or.inl (by decide))
        obtain ⟨x_6, e_7⟩ : ∃ y : Int32, y = l2_1 + 1 := ⟨_, rfl⟩
        have te_7 : x_6.toInt = (l2_1 : Int32).toInt + (1 : Int32).toInt := by rw [e_7]; exact fb_addI (by omega) (by omega)
        have hV2 : ∀ k : Nat, (k : Int) < x_6.toInt → iv_4 80 i0 k = v := fun k hk => by
          rw [ei_5]
          by_cases z : k = l2_1.toNatClampNeg
          · rw [z]; exact up3_self _ _ _ _ _
          · rw [up3_ne (fun w => z w.2.2)]; exact hV k (by have := ix_nat i5_0.1; omega)
        refine lv_iinc (v := x_6) (lv' := [(2, .int x_6), (0, .ref (al.2 80 i0)), (1, .int v), (3, .int 4)]) hx hb dJ7_fill_53178_14 hl (k := 3) rfl (by rw [e_7]; rfl) (by decide) rfl (fun ls hl => ?_)
        refine lv_goto (tgt := 5) hx hb dJ7_fill_53178_17 (by decide) ?_
        exact ih_5 x_6 _ _ _ _ (lv_sub hl [1, 2, 3, 0] rfl) hR hF1 hU hS hV2 (by omega) (by omega)
  exact J_5 _ 0 _ _ _ _ (lv_sub hl [2, 3, 0, 1] rfl) hR hF1 hU hS (fun k hk => by exfalso; omega) (by omega) (Nat.lt_succ_self _)
set_option maxHeartbeats 4000000 in
set_option maxRecDepth 100000 in
theorem c_X0_init {l : Launch} {D : va_G} {cA : FieldType → ClassId} {sz : Nat} {al : Al} {iv : Iv} {rv : Rv} (hR : RG al iv) (hB : RB al rv) (i0 : Nat) (hi0 : i0 < al.1 79) : Met l yX0_init (wd yX0_init cX0_init 1 none) (rmA 2 4 64) (PcA D cA sz al iv rv [.ref (al.2 79 i0)] (fun _ => True)) (QVA D cA sz (fun al' iv' rv' => RG al' iv' ∧ RB al' rv' ∧ EXT (nx (nx (nx (nx (fun _ => 0) 80) 81) 82) 83) ([80], [(79, 0), (79, 1), (79, 2), (79, 3)]) al iv rv al' iv' rv' ∧ NN 79 i0 [3, 2, 1, 0] rv' ∧ ∀ k : Nat, k < 4 → iv' 80 (al.1 80) k = 365)) 4 64 (Aq sz) := by
  refine mk_a (by decide) (Nat.le_of_ble_eq_true rfl) rfl ?_
  intro p e s m below meth c ls C hr hlk hnm hU hS hz _ hl
  have hx := C.1.1
  have hb := C.1.2.1
  have k4 : (4 : Int32).toInt = 4 := by decide
  have k20 : (20 : Int32).toInt = 20 := by decide
  have k365 : (365 : Int32).toInt = 365 := by decide
  obtain ⟨o, ho_o⟩ : ∃ z, al.2 79 i0 = z := ⟨_, rfl⟩
  have hi_o := hi0
  have hl : lv_has ls 1 [(0, .ref o)] := by rw [← ho_o]; exact hl
  have hE : EXT (fun _ => 0) ([80], [(79, 0), (79, 1), (79, 2), (79, 3)]) al iv rv al iv rv := EXT.rf
  have hN : NN 79 i0 [] rv := NN.nil
  have hz0 := hz
  refine lv_aload_n hx hb dX0_init_0 rfl (lv_at hl 0 rfl) ?_
  refine W.objInit hx hb C.1.2.2.2.1 (C.1.2.2.2.2 _ oi_X0) (C.1.2.2.2.2 _ oi_m) (C.1.2.2.2.2 _ oi_c) rfl (by rw [C.1.2.2.1]; exact hl.1) rfl dX0_init_1 (Nat.le_of_ble_eq_true rfl) (Nat.le_of_ble_eq_true rfl) ?_
  refine W.eq (g2 := F0 m 4 ls []) rfl ?_
  refine lv_aload_n hx hb dX0_init_4 rfl (lv_at hl 0 rfl) ?_
  refine lv_iconst (v := 4) hx hb dX0_init_5 (by decide) ?_
  refine q_newp (t := 80) (ty := .int) C hU hS hB hz rfl (Or.inl rfl) k_80 (fun _ => rfl) ac_int (by decide) (by decide) (by decide) (Nat.le_of_ble_eq_true rfl) (Nat.le_of_ble_eq_true rfl) dX0_init_6 (fun a_1 H hU hS hz => ?_)
  have hc_8 : al.1 80 = al.1 80 := hE.1 80
  have hE9 := hE.new 80 a_1
  have hR9 := hR.new 80 a_1
  have hB9 := hB.new 80 a_1
  have hn9 := grow_new (al := al) (t := 80) (a := a_1)
  rw [hc_8] at hU hE9 hR9 hB9 hn9
  obtain ⟨al_2, ea_5⟩ : ∃ z, z = grow al 80 a_1 := ⟨_, rfl⟩
  obtain ⟨iv_3, ei_6⟩ : ∃ z, z = clr iv 80 (al.1 80) 0 := ⟨_, rfl⟩
  obtain ⟨rv_4, er_7⟩ : ∃ z, z = clr rv 80 (al.1 80) none := ⟨_, rfl⟩
  rw [← ea_5] at hU hE9 hR9 hB9 hn9
  rw [← ei_6] at hU hE9 hR9
  rw [← er_7] at hU hE9 hB9
  have ho_o : al_2.2 79 i0 = o := by rw [ea_5, grow_ad hi_o]; exact ho_o
  have hi_o : i0 < al_2.1 79 := by rw [ea_5, grow_ct]; omega
  have ho_a_1 : al_2.2 80 (al.1 80) = a_1 := hn9
  have hi_a_1 : (al.1 80) < al_2.1 80 := by rw [ea_5, grow_ct, hc_8]; simp
  have hN : NN 79 i0 [] rv_4 := hN.keep (fun k => by rw [er_7]; exact clr_ne (fun z => absurd z.1 (by decide)))
  have hE := hE9
  have hR := hR9
  have hB := hB9
  refine W.widen (k := 1) (n := 4) (Nat.le_of_ble_eq_true rfl) (Nat.le_of_ble_eq_true rfl) ?_
  refine W.eq (g2 := F0 m 8 ls [.ref (al_2.2 80 (al.1 80)), .ref (al_2.2 79 i0)]) (by rw [ho_a_1, ho_o]) ?_
  refine q_putr (t := 79) (i := i0) (k := 0) (t' := 80) (j := (al.1 80)) C hU hS k_79 (hc := rfl) uwX0 tyX0 tyX0_ok nmX0 hi_o (by decide) rfl (Or.inr ⟨rfl, hnm, rfl⟩) rfl fl_X0_9 dX0_init_8 (fun _ => rfl) (fun _ => rfl) (fun H locs hU hS => ?_)
  have hz : sz ≤ H.size := Nat.le_trans hz0 hS.1
  obtain ⟨rv_9, er_10⟩ : ∃ z, z = up3 rv_4 79 i0 0 (some (al.1 80)) := ⟨_, rfl⟩
  rw [← er_10] at hU
  have hB : RB al_2 rv_9 := by rw [er_10]; exact hB.put rfl hi_a_1
  have hE := hE.putr (t := 79) (i := i0) (k := 0) (x := some (al.1 80)) (by decide)
  rw [← er_10] at hE
  have hN : NN 79 i0 [0] rv_9 := by rw [er_10]; exact hN.put 0 (al.1 80)
  refine lv_aload_n hx hb dX0_init_11 rfl (lv_at hl 0 rfl) ?_
  refine W.eq (g2 := F0 m 12 ls [.ref (al_2.2 79 i0)]) (by rw [ho_o]) ?_
  refine q_getr (t := 79) (i := i0) (k := 0) (t' := 80) (j := (al.1 80)) C hU k_79 (hc := rfl) uwX0 hi_o (by decide) rfl rfl fl_X0_9 dX0_init_12 (by rw [er_10]; exact up3_self _ _ _ _ _) ?_
  refine W.eq (g2 := F0 m 15 ls [.ref a_1]) (by rw [ho_a_1]) ?_
  refine lv_sipush (v := 365) hx hb dX0_init_15 (by decide) ?_
  refine W.eq (g2 := F0 m 18 ls [.int 365, .ref (al_2.2 80 (al.1 80))]) (by rw [ho_a_1]) ?_
  refine q_cv (q_runS (As := [.ref (al_2.2 80 (al.1 80)), .int 365]) (rest := []) C hU (c_J7_fill_53178_80 hR (al.1 80) hi_a_1 365 ⟨by omega, by omega⟩) sm_J7_fill_53178 ml_X0_15 hl.1 rfl rfl (Nat.le_of_ble_eq_true rfl) dX0_init_18 rfl rfl ⟨Nat.le_of_ble_eq_true rfl, Nat.le_of_ble_eq_true rfl⟩ ⟨Nat.le_of_ble_eq_true rfl, Nat.le_of_ble_eq_true rfl⟩) hS (fun iv_11 rv_12 H locs hp_13 hU hS => ?_)
  have hz : sz ≤ H.size := Nat.le_trans hz0 hS.1
  obtain ⟨hp_13_1, hR, hp_13_3, hv80⟩ := hp_13
  rw [hp_13_1] at hU
  have hE := hE.fr hp_13_3 (by decide)
  refine lv_aload_n hx hb dX0_init_21 rfl (lv_at hl 0 rfl) ?_
  refine lv_bipush (v := 20) hx hb dX0_init_22 (by decide) ?_
  refine q_newp (t := 81) (ty := .int) C hU hS hB hz rfl (Or.inl rfl) k_81 (fun _ => rfl) ac_int (by decide) (by decide) (by decide) (Nat.le_of_ble_eq_true rfl) (Nat.le_of_ble_eq_true rfl) dX0_init_24 (fun a_14 H hU hS hz => ?_)
  have hc_21 : al_2.1 81 = al.1 81 := hE.1 81
  have hE9 := hE.new 81 a_14
  have hR9 := hR.new 81 a_14
  have hB9 := hB.new 81 a_14
  have hn9 := grow_new (al := al_2) (t := 81) (a := a_14)
  rw [hc_21] at hU hE9 hR9 hB9 hn9
  obtain ⟨al_15, ea_18⟩ : ∃ z, z = grow al_2 81 a_14 := ⟨_, rfl⟩
  obtain ⟨iv_16, ei_19⟩ : ∃ z, z = clr iv_11 81 (al.1 81) 0 := ⟨_, rfl⟩
  obtain ⟨rv_17, er_20⟩ : ∃ z, z = clr rv_9 81 (al.1 81) none := ⟨_, rfl⟩
  rw [← ea_18] at hU hE9 hR9 hB9 hn9
  rw [← ei_19] at hU hE9 hR9
  rw [← er_20] at hU hE9 hB9
  have ho_a_1 : al_15.2 80 (al.1 80) = a_1 := by rw [ea_18, grow_ad hi_a_1]; exact ho_a_1
  have hi_a_1 : (al.1 80) < al_15.1 80 := by rw [ea_18, grow_ct]; omega
  have ho_o : al_15.2 79 i0 = o := by rw [ea_18, grow_ad hi_o]; exact ho_o
  have hi_o : i0 < al_15.1 79 := by rw [ea_18, grow_ct]; omega
  have ho_a_14 : al_15.2 81 (al.1 81) = a_14 := hn9
  have hi_a_14 : (al.1 81) < al_15.1 81 := by rw [ea_18, grow_ct, hc_21]; simp
  have hN : NN 79 i0 [0] rv_17 := hN.keep (fun k => by rw [er_20]; exact clr_ne (fun z => absurd z.1 (by decide)))
  have hE := hE9
  have hR := hR9
  have hB := hB9
  refine W.widen (k := 2) (n := 24) (Nat.le_of_ble_eq_true rfl) (Nat.le_of_ble_eq_true rfl) ?_
  refine W.eq (g2 := F0 m 26 ls [.ref (al_15.2 81 (al.1 81)), .ref (al_15.2 79 i0)]) (by rw [ho_a_14, ho_o]) ?_
  refine q_putr (t := 79) (i := i0) (k := 1) (t' := 81) (j := (al.1 81)) C hU hS k_79 (hc := rfl) uwX0 tyX0 tyX0_ok nmX0 hi_o (by decide) rfl (Or.inr ⟨rfl, hnm, rfl⟩) rfl fl_X0_21 dX0_init_26 (fun _ => rfl) (fun _ => rfl) (fun H locs hU hS => ?_)
  have hz : sz ≤ H.size := Nat.le_trans hz0 hS.1
  obtain ⟨rv_22, er_23⟩ : ∃ z, z = up3 rv_17 79 i0 1 (some (al.1 81)) := ⟨_, rfl⟩
  rw [← er_23] at hU
  have hB : RB al_15 rv_22 := by rw [er_23]; exact hB.put rfl hi_a_14
  have hE := hE.putr (t := 79) (i := i0) (k := 1) (x := some (al.1 81)) (by decide)
  rw [← er_23] at hE
  have hN : NN 79 i0 [1, 0] rv_22 := by rw [er_23]; exact hN.put 1 (al.1 81)
  refine lv_aload_n hx hb dX0_init_29 rfl (lv_at hl 0 rfl) ?_
  refine lv_bipush (v := 20) hx hb dX0_init_30 (by decide) ?_
  refine q_newp (t := 82) (ty := .int) C hU hS hB hz rfl (Or.inl rfl) k_82 (fun _ => rfl) ac_int (by decide) (by decide) (by decide) (Nat.le_of_ble_eq_true rfl) (Nat.le_of_ble_eq_true rfl) dX0_init_32 (fun a_24 H hU hS hz => ?_)
  have hc_31 : al_15.1 82 = al.1 82 := hE.1 82
  have hE9 := hE.new 82 a_24
  have hR9 := hR.new 82 a_24
  have hB9 := hB.new 82 a_24
  have hn9 := grow_new (al := al_15) (t := 82) (a := a_24)
  rw [hc_31] at hU hE9 hR9 hB9 hn9
  obtain ⟨al_25, ea_28⟩ : ∃ z, z = grow al_15 82 a_24 := ⟨_, rfl⟩
  obtain ⟨iv_26, ei_29⟩ : ∃ z, z = clr iv_16 82 (al.1 82) 0 := ⟨_, rfl⟩
  obtain ⟨rv_27, er_30⟩ : ∃ z, z = clr rv_22 82 (al.1 82) none := ⟨_, rfl⟩
  rw [← ea_28] at hU hE9 hR9 hB9 hn9
  rw [← ei_29] at hU hE9 hR9
  rw [← er_30] at hU hE9 hB9
  have ho_a_1 : al_25.2 80 (al.1 80) = a_1 := by rw [ea_28, grow_ad hi_a_1]; exact ho_a_1
  have hi_a_1 : (al.1 80) < al_25.1 80 := by rw [ea_28, grow_ct]; omega
  have ho_a_14 : al_25.2 81 (al.1 81) = a_14 := by rw [ea_28, grow_ad hi_a_14]; exact ho_a_14
  have hi_a_14 : (al.1 81) < al_25.1 81 := by rw [ea_28, grow_ct]; omega
  have ho_o : al_25.2 79 i0 = o := by rw [ea_28, grow_ad hi_o]; exact ho_o
  have hi_o : i0 < al_25.1 79 := by rw [ea_28, grow_ct]; omega
  have ho_a_24 : al_25.2 82 (al.1 82) = a_24 := hn9
  have hi_a_24 : (al.1 82) < al_25.1 82 := by rw [ea_28, grow_ct, hc_31]; simp
  have hN : NN 79 i0 [1, 0] rv_27 := hN.keep (fun k => by rw [er_30]; exact clr_ne (fun z => absurd z.1 (by decide)))
  have hE := hE9
  have hR := hR9
  have hB := hB9
  refine W.widen (k := 3) (n := 44) (Nat.le_of_ble_eq_true rfl) (Nat.le_of_ble_eq_true rfl) ?_
  refine W.eq (g2 := F0 m 34 ls [.ref (al_25.2 82 (al.1 82)), .ref (al_25.2 79 i0)]) (by rw [ho_a_24, ho_o]) ?_
  refine q_putr (t := 79) (i := i0) (k := 2) (t' := 82) (j := (al.1 82)) C hU hS k_79 (hc := rfl) uwX0 tyX0 tyX0_ok nmX0 hi_o (by decide) rfl (Or.inr ⟨rfl, hnm, rfl⟩) rfl fl_X0_24 dX0_init_34 (fun _ => rfl) (fun _ => rfl) (fun H locs hU hS => ?_)
  have hz : sz ≤ H.size := Nat.le_trans hz0 hS.1
  obtain ⟨rv_32, er_33⟩ : ∃ z, z = up3 rv_27 79 i0 2 (some (al.1 82)) := ⟨_, rfl⟩
  rw [← er_33] at hU
  have hB : RB al_25 rv_32 := by rw [er_33]; exact hB.put rfl hi_a_24
  have hE := hE.putr (t := 79) (i := i0) (k := 2) (x := some (al.1 82)) (by decide)
  rw [← er_33] at hE
  have hN : NN 79 i0 [2, 1, 0] rv_32 := by rw [er_33]; exact hN.put 2 (al.1 82)
  refine lv_aload_n hx hb dX0_init_37 rfl (lv_at hl 0 rfl) ?_
  refine lv_bipush (v := 20) hx hb dX0_init_38 (by decide) ?_
  refine q_newp (t := 83) (ty := .int) C hU hS hB hz rfl (Or.inl rfl) k_83 (fun _ => rfl) ac_int (by decide) (by decide) (by decide) (Nat.le_of_ble_eq_true rfl) (Nat.le_of_ble_eq_true rfl) dX0_init_40 (fun a_34 H hU hS hz => ?_)
  have hc_41 : al_25.1 83 = al.1 83 := hE.1 83
  have hE9 := hE.new 83 a_34
  have hR9 := hR.new 83 a_34
  have hB9 := hB.new 83 a_34
  have hn9 := grow_new (al := al_25) (t := 83) (a := a_34)
  rw [hc_41] at hU hE9 hR9 hB9 hn9
  obtain ⟨al_35, ea_38⟩ : ∃ z, z = grow al_25 83 a_34 := ⟨_, rfl⟩
  obtain ⟨iv_36, ei_39⟩ : ∃ z, z = clr iv_26 83 (al.1 83) 0 := ⟨_, rfl⟩
  obtain ⟨rv_37, er_40⟩ : ∃ z, z = clr rv_32 83 (al.1 83) none := ⟨_, rfl⟩
  rw [← ea_38] at hU hE9 hR9 hB9 hn9
  rw [← ei_39] at hU hE9 hR9
  rw [← er_40] at hU hE9 hB9
  have ho_a_1 : al_35.2 80 (al.1 80) = a_1 := by rw [ea_38, grow_ad hi_a_1]; exact ho_a_1
  have hi_a_1 : (al.1 80) < al_35.1 80 := by rw [ea_38, grow_ct]; omega
  have ho_a_14 : al_35.2 81 (al.1 81) = a_14 := by rw [ea_38, grow_ad hi_a_14]; exact ho_a_14
  have hi_a_14 : (al.1 81) < al_35.1 81 := by rw [ea_38, grow_ct]; omega
  have ho_a_24 : al_35.2 82 (al.1 82) = a_24 := by rw [ea_38, grow_ad hi_a_24]; exact ho_a_24
  have hi_a_24 : (al.1 82) < al_35.1 82 := by rw [ea_38, grow_ct]; omega
  have ho_o : al_35.2 79 i0 = o := by rw [ea_38, grow_ad hi_o]; exact ho_o
  have hi_o : i0 < al_35.1 79 := by rw [ea_38, grow_ct]; omega
  have ho_a_34 : al_35.2 83 (al.1 83) = a_34 := hn9
  have hi_a_34 : (al.1 83) < al_35.1 83 := by rw [ea_38, grow_ct, hc_41]; simp
  have hN : NN 79 i0 [2, 1, 0] rv_37 := hN.keep (fun k => by rw [er_40]; exact clr_ne (fun z => absurd z.1 (by decide)))
  have hE := hE9
  have hR := hR9
  have hB := hB9
  refine W.widen (k := 4) (n := 64) (Nat.le_of_ble_eq_true rfl) (Nat.le_of_ble_eq_true rfl) ?_
  refine W.eq (g2 := F0 m 42 ls [.ref (al_35.2 83 (al.1 83)), .ref (al_35.2 79 i0)]) (by rw [ho_a_34, ho_o]) ?_
  refine q_putr (t := 79) (i := i0) (k := 3) (t' := 83) (j := (al.1 83)) C hU hS k_79 (hc := rfl) uwX0 tyX0 tyX0_ok nmX0 hi_o (by decide) rfl (Or.inr ⟨rfl, hnm, rfl⟩) rfl fl_X0_27 dX0_init_42 (fun _ => rfl) (fun _ => rfl) (fun H locs hU hS => ?_)
  have hz : sz ≤ H.size := Nat.le_trans hz0 hS.1
  obtain ⟨rv_42, er_43⟩ : ∃ z, z = up3 rv_37 79 i0 3 (some (al.1 83)) := ⟨_, rfl⟩
  rw [← er_43] at hU
  have hB : RB al_35 rv_42 := by rw [er_43]; exact hB.put rfl hi_a_34
  have hE := hE.putr (t := 79) (i := i0) (k := 3) (x := some (al.1 83)) (by decide)
  rw [← er_43] at hE
  have hN : NN 79 i0 [3, 2, 1, 0] rv_42 := by rw [er_43]; exact hN.put 3 (al.1 83)
  exact q_vretA C hr hlk hU hS (⟨hR, hB, hE, hN, fun k hk => by rw [ei_39, clr_ne (fun z => absurd z.1 (by decide)), ei_29, clr_ne (fun z => absurd z.1 (by decide)), ei_19, clr_ne (fun z => absurd z.1 (by decide))]; exact hv80 k hk⟩) dX0_init_45
end
section
/-- a constructor under way: its own cell is (t0, i0), at o -/
def CI (t0 i0 o : Nat) (N : Nat → Nat) (M : Mo) (L : List Nat) (al : Al) (iv : Iv) (rv : Rv) (al1 : Al) (iv1 : Iv) (rv1 : Rv) : Prop :=
  RG al1 iv1 ∧ RB al1 rv1 ∧ EXT N M al iv rv al1 iv1 rv1 ∧ NN t0 i0 L rv1 ∧ al1.2 t0 i0 = o ∧ i0 < al1.1 t0
theorem CI.new {t0 i0 o : Nat} {N : Nat → Nat} {M : Mo} {L : List Nat} {al al1 : Al} {iv iv1 : Iv} {rv rv1 : Rv} (h : CI t0 i0 o N M L al iv rv al1 iv1 rv1) (t a : Nat) (ht : t0 ≠ t) : CI t0 i0 o (nx N t) M L al iv rv (grow al1 t a) (clr iv1 t (al1.1 t) 0) (clr rv1 t (al1.1 t) none) := by
  obtain ⟨h1, h2, h3, h4, h5, h6⟩ := h
  refine ⟨h1.new t a, h2.new t a, h3.new t a, h4.keep (fun k => clr_ne (fun z => ht z.1)), ?_, ?_⟩
  · rw [grow_ad h6]; exact h5
  · rw [grow_ct]; omega
theorem CI.putr {t0 i0 o : Nat} {N : Nat → Nat} {M : Mo} {L : List Nat} {al al1 : Al} {iv iv1 : Iv} {rv rv1 : Rv} (h : CI t0 i0 o N M L al iv rv al1 iv1 rv1) {k t1 j : Nat} (hm : MD M t0 k) (ht : (pt t0).2.2.2 k = some t1) (hj : j < al1.1 t1) : CI t0 i0 o N M (k :: L) al iv rv al1 iv1 (up3 rv1 t0 i0 k (some j)) := by
  obtain ⟨h1, h2, h3, h4, h5, h6⟩ := h
  exact ⟨h1, h2.put ht hj, h3.putr hm, h4.put k j, h5, h6⟩
theorem CI.puti {t0 i0 o : Nat} {N : Nat → Nat} {M : Mo} {L : List Nat} {al al1 : Al} {iv iv1 : Iv} {rv rv1 : Rv} (h : CI t0 i0 o N M L al iv rv al1 iv1 rv1) {t i k : Nat} {x : Int32} (hm : MD M t k) (hr : (rg t k).1 ≤ x.toInt ∧ x.toInt ≤ (rg t k).2) : CI t0 i0 o N M L al iv rv al1 (up3 iv1 t i k x) rv1 := by
  obtain ⟨h1, h2, h3, h4, h5, h6⟩ := h
  exact ⟨h1.put hr, h2, h3.puti hm, h4, h5, h6⟩
section CIR
variable {p : Program} {l : Launch} {e : Env} {R : Room} {s : State} {m : MethodId} {args : Array Value} {below : List Frame} {meth : Method} {c : Code} {H : Heap} {locs : List Loc} {cells slots : Nat} {Q : State → Prop}
variable {cc : ByteArray} {pc nL : Nat} {ls : Array Slot} {rest : List Value} {own : String} {D : va_G} {cA : FieldType → ClassId} {sz : Nat} {al al1 : Al} {iv iv1 : Iv} {rv rv1 : Rv} {t0 i0 o : Nat} {N : Nat → Nat} {M : Mo} {L : List Nat}
/-- a new row of numbers, on the stack -/
theorem q_ra (C : Cx p s m args c cc nL own D cA) (hz0 : sz ≤ s.heap.size) (hU : UW D cA sz al1 iv1 rv1 H) (hS : va_S (Aq sz) s.heap H locs) (hI : CI t0 i0 o N M L al iv rv al1 iv1 rv1) {t n : Nat} {atype : ArrayType} {ty : FieldType} (hat : newarray.typeOf atype = ty) (h2 : ty = .int ∨ ty = .boolean) (kp : (pt t).1 = none ∧ (pt t).2.1 = n ∧ (pt t).2.2.1 = ty) (htg : ∀ k, (pt t).2.2.2 k = none) (ht : t0 ≠ t) (hac : Cond.arrayClass ty ∈ BW)
    {x : Int32} (hn : ¬ x < 0) (hN : x.toNatClampNeg = n) (hby : n * 8 ≤ 536870912) (hcells : cells + 1 ≤ R.cells) (hslots : slots + n ≤ R.slots) (hdg : decode cc pc = .ok (.newarray atype, 2))
    (kk : ∀ (al2 : Al) (iv2 : Iv) (rv2 : Rv) (H2 : Heap) (a : Nat), UW D cA sz al2 iv2 rv2 H2 → va_S (Aq sz) s.heap H2 locs → CI t0 i0 o (nx N t) M L al iv rv al2 iv2 rv2 → al2.2 t (al1.1 t) = a → al1.1 t < al2.1 t → W p l e R s m args below meth c H2 locs (cells + 1) (slots + n) Q (F0 m (pc + 2) ls (.ref a :: rest))) : W p l e R s m args below meth c H locs cells slots Q (F0 m pc ls (.int x :: rest)) := by
  refine q_newp (t := t) C hU hS hI.2.1 (Nat.le_trans hz0 hS.1) hat h2 kp htg hac hn hN hby hcells hslots hdg (fun a H1 hU1 hS1 _ => ?_)
  exact kk _ _ _ H1 a hU1 hS1 (hI.new t a ht) grow_new (by rw [grow_ct]; simp)
/-- the row on the stack into its field -/
theorem q_rp (C : Cx p s m args c cc nL own D cA) (hnm : meth.name = "<init>") (hU : UW D cA sz al1 iv1 rv1 H) (hS : va_S (Aq sz) s.heap H locs) (hI : CI t0 i0 o N M L al iv rv al1 iv1 rv1) {t k ci NN' index i a : Nat} {T : u_T} (kp : (pt t0).1 = some ci ∧ (pt t0).2.1 = NN') (hc : vwCl[ci]? = some (own, T, NN')) (hin : ∀ w ∈ u_ws own T NN', w ∈ BW)
    (ty0 : Nat → FieldType) (hty : ∀ k, k < NN' → parseFieldDescriptor (T k).2.2.1 = some (ty0 k)) (hnn : ∀ a, a < NN' → ∀ b, b < NN' → a ≠ b → (T a).2.1 ≠ (T b).2.1) (hk : k < NN') (hT : (T k).1 = own) (hfin : (T k).2.2.2 = true) (htg : (pt t0).2.2.2 k = some t) (hm : MD M t0 k)
    (hlink : Cond.fieldLink own index own (T k).2.1 (T k).2.2.1 ∈ BW) (hn : ∀ a, narrow (ty0 k) (.ref a) = .ref a) (hfit : ∀ a, fits (ty0 k) (.ref a) = true) (ha : al1.2 t i = a) (hi : i < al1.1 t) (hdg : decode cc pc = .ok (.putfield index, 3))
    (kk : ∀ (rv2 : Rv) (H2 : Heap) (locs2 : List Loc), UW D cA sz al1 iv1 rv2 H2 → va_S (Aq sz) s.heap H2 locs2 → CI t0 i0 o N M (k :: L) al iv rv al1 iv1 rv2 → W p l e R s m args below meth c H2 locs2 cells slots Q (F0 m (pc + 3) ls rest)) : W p l e R s m args below meth c H locs cells slots Q (F0 m pc ls (.ref a :: .ref o :: rest)) := by
  have ho := hI.2.2.2.2.1
  subst ha
  subst ho
  exact q_putr (t := t0) (i := i0) (k := k) (t' := t) (j := i) C hU hS kp hc hin ty0 hty hnn hI.2.2.2.2.2 hk hT (Or.inr ⟨hfin, hnm, rfl⟩) htg hlink hdg hn hfit (fun H1 locs1 hU1 hS1 => kk _ H1 locs1 hU1 hS1 (hI.putr hm htg hi))
theorem q_is (C : Cx p s m args c cc nL own D cA) (hU : UW D cA sz al1 iv1 rv1 H) (hS : va_S (Aq sz) s.heap H locs) (hI : CI t0 i0 o N M L al iv rv al1 iv1 rv1) {t i a n : Nat} (kp : (pt t).1 = none ∧ (pt t).2.1 = n ∧ (pt t).2.2.1 = .int) (htg : ∀ k, (pt t).2.2.2 k = none) (ha : al1.2 t i = a) (hi : i < al1.1 t) {x v : Int32} (hin : vp_in x n) (hm : ∀ k, MD M t k) (hr : ∀ k, (rg t k).1 ≤ v.toInt ∧ v.toInt ≤ (rg t k).2) (hdg : decode cc pc = .ok (.iastore, 1))
    (kk : ∀ (iv2 : Iv) (H2 : Heap) (locs2 : List Loc), UW D cA sz al1 iv2 rv1 H2 → va_S (Aq sz) s.heap H2 locs2 → CI t0 i0 o N M L al iv rv al1 iv2 rv1 → W p l e R s m args below meth c H2 locs2 cells slots Q (F0 m (pc + 1) ls rest)) : W p l e R s m args below meth c H locs cells slots Q (F0 m pc ls (.int v :: .int x :: .ref a :: rest)) := by
  subst ha
  exact q_iast (t := t) C hU hS kp htg hi hin hdg (fun H1 locs1 hU1 hS1 => kk _ H1 locs1 hU1 hS1 (hI.puti (hm _) (hr _)))
end CIR
end
