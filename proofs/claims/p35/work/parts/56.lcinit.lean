theorem CI.call {t0 i0 o : Nat} {N N1 : Nat → Nat} {M M1 : Mo} {L : List Nat} {al al1 al2 : Al} {iv iv1 iv2 : Iv} {rv rv1 rv2 : Rv} (h : CI t0 i0 o N M L al iv rv al1 iv1 rv1) (g1 : RG al2 iv2) (g2 : RB al2 rv2) (g3 : EXT N1 M1 al1 iv1 rv1 al2 iv2 rv2) (hs : subM M1 M) (hm : t0 ∉ M1.1 ∧ t0 ∉ M1.2.map (fun p => p.1)) : CI t0 i0 o (fun t => N t + N1 t) M L al iv rv al2 iv2 rv2 := by
  obtain ⟨h1, h2, h3, h4, h5, h6⟩ := h
  refine ⟨g1, g2, h3.tr g3 hs, h4.keep (fun k => (g3.2.2.1 t0 i0 k h6 (MD.no hm)).2), ?_, ?_⟩
  · rw [g3.2.1 t0 i0 h6]; exact h5
  · rw [g3.1]; omega
/-- references of single cells that are set -/
def NZ (L : List (Nat × Nat)) (al : Al) (rv : Rv) : Prop := ∀ q, q ∈ L → 0 < al.1 q.1 ∧ ∃ j, rv q.1 0 q.2 = some j
theorem NZ.nil {al : Al} {rv : Rv} : NZ [] al rv := fun _ h => by cases h
theorem NZ.ext {L : List (Nat × Nat)} {N1 : Nat → Nat} {M1 : Mo} {al1 al2 : Al} {iv1 iv2 : Iv} {rv1 rv2 : Rv} (h : NZ L al1 rv1) (g : EXT N1 M1 al1 iv1 rv1 al2 iv2 rv2) (hm : ∀ q, q ∈ L → ¬ MD M1 q.1 q.2) : NZ L al2 rv2 := fun q hq => by
  obtain ⟨a, j, e⟩ := h q hq
  exact ⟨by rw [g.1]; omega, j, by rw [(g.2.2.1 q.1 0 q.2 a (hm q hq)).2]; exact e⟩
theorem NZ.add {L : List (Nat × Nat)} {al : Al} {rv : Rv} (h : NZ L al rv) {t : Nat} {L1 : List Nat} (ht : 0 < al.1 t) (g : NN t 0 L1 rv) : NZ (L1.map (fun k => (t, k)) ++ L) al rv := fun q hq => by
  rcases List.mem_append.mp hq with z | z
  · obtain ⟨k, hk, rfl⟩ := List.mem_map.mp z
    exact ⟨ht, g k hk⟩
  · exact h q z
theorem NZ.put {L : List (Nat × Nat)} {al : Al} {rv : Rv} (h : NZ L al rv) {t i k : Nat} {x : Option Nat} (ht : ∀ q, q ∈ L → q.1 ≠ t) : NZ L al (up3 rv t i k x) := fun q hq => by
  obtain ⟨a, j, e⟩ := h q hq
  exact ⟨a, j, by rw [up3_ne (fun z => ht q hq z.1)]; exact e⟩
def PF (al : Al) (iv : Iv) (rv : Rv) : Prop := (0 < al.1 53 ∧ 0 < al.1 54 ∧ 10 ≤ al.1 56) ∧ ∀ j : Nat, j < 10 → rv 53 0 j = some j ∧ rv 54 0 j = some j ∧ (iv 56 j 0).toInt = j ∧ (iv 56 j 2).toInt = j
theorem PF.ext {N1 : Nat → Nat} {M1 : Mo} {al1 al2 : Al} {iv1 iv2 : Iv} {rv1 rv2 : Rv} (h : PF al1 iv1 rv1) (g : EXT N1 M1 al1 iv1 rv1 al2 iv2 rv2) (h3 : 53 ∉ M1.1 ∧ 53 ∉ M1.2.map (fun p => p.1)) (h4 : 54 ∉ M1.1 ∧ 54 ∉ M1.2.map (fun p => p.1)) (h6 : 56 ∉ M1.1 ∧ 56 ∉ M1.2.map (fun p => p.1)) : PF al2 iv2 rv2 := by
  obtain ⟨⟨a, b, c⟩, f⟩ := h
  refine ⟨⟨by rw [g.1]; omega, by rw [g.1]; omega, by rw [g.1]; omega⟩, fun j hj => ?_⟩
  obtain ⟨f1, f2, f3⟩ := f j hj
  refine ⟨?_, ?_, ?_⟩
  · rw [(g.2.2.1 53 0 j a (MD.no h3)).2]; exact f1
  · rw [(g.2.2.1 54 0 j b (MD.no h4)).2]; exact f2
  · exact ⟨by rw [(g.2.2.1 56 j 0 (by omega) (MD.no h6)).1]; exact f3.1, by rw [(g.2.2.1 56 j 2 (by omega) (MD.no h6)).1]; exact f3.2⟩
def BF (al : Al) (iv : Iv) : Prop := 0 < al.1 80 ∧ ∀ k : Nat, k < 4 → iv 80 0 k = 365
theorem BF.ext {N1 : Nat → Nat} {M1 : Mo} {al1 al2 : Al} {iv1 iv2 : Iv} {rv1 rv2 : Rv} (h : BF al1 iv1) (g : EXT N1 M1 al1 iv1 rv1 al2 iv2 rv2) (h3 : 80 ∉ M1.1 ∧ 80 ∉ M1.2.map (fun p => p.1)) : BF al2 iv2 := by
  obtain ⟨a, f⟩ := h
  exact ⟨by rw [g.1]; omega, fun k hk => by rw [(g.2.2.1 80 0 k a (MD.no h3)).1]; exact f k hk⟩
theorem PF.put {al : Al} {iv : Iv} {rv : Rv} (h : PF al iv rv) {t i k : Nat} {x : Option Nat} (h3 : t ≠ 53) (h4 : t ≠ 54) : PF al iv (up3 rv t i k x) := by
  obtain ⟨a, f⟩ := h
  refine ⟨a, fun j hj => ?_⟩
  obtain ⟨f1, f2, f3⟩ := f j hj
  exact ⟨by rw [up3_ne (fun z => h3 z.1.symm)]; exact f1, by rw [up3_ne (fun z => h4 z.1.symm)]; exact f2, f3⟩
theorem fst4_rng (j : Nat) : 0 ≤ (fst4 j).toInt ∧ (fst4 j).toInt ≤ 900 := by
  unfold fst4
  split
  · exact ⟨by decide, by decide⟩
  · split
    · exact ⟨by decide, by decide⟩
    · split <;> exact ⟨by decide, by decide⟩
section CIR2
variable {p : Program} {l : Launch} {e : Env} {R : Room} {s : State} {m : MethodId} {args : Array Value} {below : List Frame} {meth : Method} {c : Code} {H : Heap} {locs : List Loc} {cells slots : Nat} {Q : State → Prop}
variable {cc : ByteArray} {pc nL : Nat} {ls : Array Slot} {rest : List Value} {own : String} {D : va_G} {cA : FieldType → ClassId} {sz : Nat} {al al1 : Al} {iv iv1 : Iv} {rv rv1 : Rv} {t0 i0 o : Nat} {N : Nat → Nat} {M : Mo} {L : List Nat}
theorem q_rp2 (C : Cx p s m args c cc nL own D cA) (hnm : meth.name = "<init>") (hU : UW D cA sz al1 iv1 rv1 H) (hS : va_S (Aq sz) s.heap H locs) (hI : CI t0 i0 o N M L al iv rv al1 iv1 rv1) {t k ci NN' index i a : Nat} {T : u_T} (kp : (pt t0).1 = some ci ∧ (pt t0).2.1 = NN') (hc : vwCl[ci]? = some (own, T, NN')) (hin : ∀ w ∈ u_ws own T NN', w ∈ BW)
    (ty0 : Nat → FieldType) (hty : ∀ k, k < NN' → parseFieldDescriptor (T k).2.2.1 = some (ty0 k)) (hnn : ∀ a, a < NN' → ∀ b, b < NN' → a ≠ b → (T a).2.1 ≠ (T b).2.1) (hk : k < NN') (hT : (T k).1 = own) (hfin : (T k).2.2.2 = true) (htg : (pt t0).2.2.2 k = some t) (hm : MD M t0 k)
    (hlink : Cond.fieldLink own index own (T k).2.1 (T k).2.2.1 ∈ BW) (hn : ∀ a, narrow (ty0 k) (.ref a) = .ref a) (hfit : ∀ a, fits (ty0 k) (.ref a) = true) (ha : al1.2 t i = a) (hi : i < al1.1 t) (hdg : decode cc pc = .ok (.putfield index, 3))
    (kk : ∀ (rv2 : Rv) (H2 : Heap) (locs2 : List Loc), rv2 = up3 rv1 t0 i0 k (some i) → UW D cA sz al1 iv1 rv2 H2 → va_S (Aq sz) s.heap H2 locs2 → CI t0 i0 o N M (k :: L) al iv rv al1 iv1 rv2 → W p l e R s m args below meth c H2 locs2 cells slots Q (F0 m (pc + 3) ls rest)) : W p l e R s m args below meth c H locs cells slots Q (F0 m pc ls (.ref a :: .ref o :: rest)) := by
  have ho := hI.2.2.2.2.1
  subst ha
  subst ho
  exact q_putr (t := t0) (i := i0) (k := k) (t' := t) (j := i) C hU hS kp hc hin ty0 hty hnn hI.2.2.2.2.2 hk hT (Or.inr ⟨hfin, hnm, rfl⟩) htg hlink hdg hn hfit (fun H1 locs1 hU1 hS1 => kk _ H1 locs1 rfl hU1 hS1 (hI.putr hm htg hi))
end CIR2
set_option maxHeartbeats 40000000 in
set_option maxRecDepth 100000 in
theorem c_X11_init {l : Launch} {D : va_G} {cA : FieldType → ClassId} {sz : Nat} {al : Al} {iv : Iv} {rv : Rv} (hR : RG al iv) (hB : RB al rv) (i0 : Nat) (hi0 : i0 < al.1 49) (cz : ∀ t, 50 ≤ t → t ≤ 97 → al.1 t = 0) : Met l yX11_init (wd yX11_init cX11_init 1 none) (rmA 3 60 1120) (PcA D cA sz al iv rv [.ref (al.2 49 i0)] (fun U => va_AOA .int U ∧ SX cA sz U U.heap)) (QVA D cA sz (fun al' iv' rv' => RG al' iv' ∧ RB al' rv' ∧ EXT (nx (nx (fun t => (nx (fun t => (nx (fun t => (nx (fun t => (nx (fun t => (nx (fun t => (nx (fun t => (nx (fun _ => 0) 52) t + (fun t => ((if t = 53 then 1 else 0) + (if t = 56 then 10 else 0)) + ((if t = 54 then 1 else 0) + (if t = 55 then 10 else 0))) t) 57) t + (nx (nx (nx (nx (fun _ => 0) 58) 59) 60) 61) t) 63) t + (nx (fun _ => 0) 64) t) 68) t + (nx (nx (nx (nx (nx (nx (nx (nx (nx (nx (fun _ => 0) 69) 70) 71) 72) 73) 74) 75) 76) 77) 78) t) 79) t + (nx (nx (nx (nx (fun _ => 0) 80) 81) 82) 83) t) 84) t + (nx (nx (nx (fun _ => 0) 85) 86) 87) t) 90) t + (nx (nx (nx (nx (nx (nx (nx (fun _ => 0) 91) 92) 93) 94) 95) 96) 97) t) 50) 51) ([50, 53, 54, 80], [(49, 0), (49, 1), (49, 2), (49, 3), (49, 4), (49, 5), (49, 6), (49, 7), (49, 8), (49, 9), (52, 0), (52, 1), (56, 0), (56, 2), (57, 0), (57, 2), (57, 3), (57, 4), (63, 0), (68, 0), (68, 1), (68, 2), (68, 3), (68, 4), (68, 6), (68, 7), (68, 8), (68, 9), (68, 10), (79, 0), (79, 1), (79, 2), (79, 3), (84, 0), (84, 2), (84, 3), (90, 0), (90, 1), (90, 2), (90, 3), (90, 4), (90, 5), (90, 7)]) al iv rv al' iv' rv' ∧ NN 49 i0 [8, 7, 6, 5, 4, 3, 2, 1, 0] rv' ∧ NZ [(90, 7), (90, 5), (90, 4), (90, 3), (90, 2), (90, 1), (90, 0), (84, 3), (84, 2), (84, 0), (79, 3), (79, 2), (79, 1), (79, 0), (68, 10), (68, 9), (68, 8), (68, 7), (68, 6), (68, 4), (68, 3), (68, 2), (68, 1), (68, 0), (63, 0), (57, 4), (57, 3), (57, 2), (57, 0), (52, 0), (52, 1)] al' rv' ∧ PF al' iv' rv' ∧ (∀ k, iv' 50 0 k = fst4 k) ∧ iv' 49 i0 9 = 0 ∧ BF al' iv')) 60 1120 (Aq sz) := by
  refine mk_a (by decide) (Nat.le_of_ble_eq_true rfl) rfl ?_
  intro p e s m below meth c ls C hr hlk hnm hU hS hz hX hl
  have hx := C.1.1
  have hb := C.1.2.1
  have hz0 := hz
  obtain ⟨o, ho⟩ : ∃ z, al.2 49 i0 = z := ⟨_, rfl⟩
  have hl : lv_has ls 1 [(0, .ref o)] := by rw [← ho]; exact hl
  have hI : CI 49 i0 o (fun _ => 0) ([50, 53, 54, 80], [(49, 0), (49, 1), (49, 2), (49, 3), (49, 4), (49, 5), (49, 6), (49, 7), (49, 8), (49, 9), (52, 0), (52, 1), (56, 0), (56, 2), (57, 0), (57, 2), (57, 3), (57, 4), (63, 0), (68, 0), (68, 1), (68, 2), (68, 3), (68, 4), (68, 6), (68, 7), (68, 8), (68, 9), (68, 10), (79, 0), (79, 1), (79, 2), (79, 3), (84, 0), (84, 2), (84, 3), (90, 0), (90, 1), (90, 2), (90, 3), (90, 4), (90, 5), (90, 7)]) [] al iv rv al iv rv := ⟨hR, hB, EXT.rf, NN.nil, ho, hi0⟩
  have hZ : NZ [] al rv := NZ.nil
  refine lv_aload_n hx hb dX11_init_0 rfl (lv_at hl 0 rfl) ?_
  refine W.objInit hx hb C.1.2.2.2.1 (C.1.2.2.2.2 _ oi_X11) (C.1.2.2.2.2 _ oi_m) (C.1.2.2.2.2 _ oi_c) rfl (by rw [C.1.2.2.1]; exact hl.1) rfl dX11_init_1 (Nat.le_of_ble_eq_true rfl) (Nat.le_of_ble_eq_true rfl) ?_
  refine W.eq (g2 := F0 m 4 ls []) rfl ?_
  refine lv_aload_n hx hb dX11_init_4 rfl (lv_at hl 0 rfl) ?_
  have c1 : al.1 52 = 0 := by rw [hI.2.2.1.1 52, cz 52 (by decide) (by decide)]; rfl
  refine q_newo (t := 52) C hU hS hI.2.1 (Nat.le_trans hz0 hS.1) k_52 (hc := rfl) uwX7 tyX7 tyX7_ok (by decide +kernel) kl_X11_7 ib_X7 iz_X7 (Nat.le_of_ble_eq_true rfl) (Nat.le_of_ble_eq_true rfl) dX11_init_5 (fun a1 H hU hS hz => ?_)
  have hX1 : EXT (nx (fun _ => 0) 52) ([], []) al iv rv (grow al 52 a1) (clr iv 52 (al.1 52) 0) (clr rv 52 (al.1 52) none) := EXT.rf.new 52 a1
  have hI := hI.new 52 a1 (by decide)
  have hZ := hZ.ext hX1 (by simp)
  have hn := grow_new (al := al) (t := 52) (a := a1)
  have hi : 0 < (grow al 52 a1).1 52 := by rw [grow_ct]; simp
  rw [c1] at hU hI hZ hn
  clear hX1
  obtain ⟨al_1a, ea1⟩ : ∃ z, z = grow al 52 a1 := ⟨_, rfl⟩
  obtain ⟨iv_1a, ei1⟩ : ∃ z, z = clr iv 52 0 0 := ⟨_, rfl⟩
  obtain ⟨rv_1a, er1⟩ : ∃ z, z = clr rv 52 0 none := ⟨_, rfl⟩
  rw [← ea1] at hU hI hZ hn hi
  rw [← ei1] at hU hI
  rw [← er1] at hU hI hZ
  refine W.widen (k := 1) (n := 3) (Nat.le_of_ble_eq_true rfl) (Nat.le_of_ble_eq_true rfl) ?_
  refine lv_dup hx hb dX11_init_8 rfl ?_
  refine W.eq (g2 := F0 m 9 ls [.ref (al_1a.2 52 0), .ref a1, .ref o]) (by rw [hn]) ?_
  have z53 : al_1a.1 53 = 0 := by rw [hI.2.2.1.1 53, cz 53 (by decide) (by decide)]; rfl
  have z54 : al_1a.1 54 = 0 := by rw [hI.2.2.1.1 54, cz 54 (by decide) (by decide)]; rfl
  have z55 : al_1a.1 55 = 0 := by rw [hI.2.2.1.1 55, cz 55 (by decide) (by decide)]; rfl
  have z56 : al_1a.1 56 = 0 := by rw [hI.2.2.1.1 56, cz 56 (by decide) (by decide)]; rfl
  refine q_cvA (q_runIA (n := 0) (b := al_1a.2 52 0) (As := []) (rest := [.ref a1, .ref o]) C hU hz (fun U _ hW => hX.1.moved hW.alike) (fun U _ _ _ h => va_AOA.moved (Vm.Alike.refl U.vm) h) (c_X7_init hI.1 hI.2.1 0 hi z53 z54 z55 z56) cw_X7_init im_X7_init iz_X7 ml_X11_9 rfl (by decide +kernel) hl.1 rfl rfl (Nat.le_of_ble_eq_true rfl) dX11_init_9 rfl rfl ⟨Nat.le_of_ble_eq_true rfl, Nat.le_of_ble_eq_true rfl⟩ ⟨Nat.le_of_ble_eq_true rfl, Nat.le_of_ble_eq_true rfl⟩) hS hz (fun al_1 iv_1 rv_1 H locs hp hU hS hz => ?_)
  obtain ⟨g1, g2, g3, g4, g5⟩ := hp
  have hI := hI.call g1 g2 g3 (by decide) (by decide)
  have hi2 : 0 < al_1.1 52 := by rw [g3.1]; omega
  have hZ := (hZ.ext g3 (by decide)).add hi2 g4
  have hZ : NZ [(52, 0), (52, 1)] al_1 rv_1 := hZ
  have hP : PF al_1 iv_1 rv_1 := ⟨⟨by rw [g3.1, z53]; decide, by rw [g3.1, z54]; decide, by rw [g3.1, z56]; decide⟩, g5⟩
  have hn : al_1.2 52 0 = a1 := by rw [g3.2.1 52 0 hi]; exact hn
  clear g1 g2 g3 g4 hi ea1 ei1 er1 z53 z54 z55 z56 g5
  refine W.widen (k := 23) (n := 163) (Nat.le_of_ble_eq_true rfl) (Nat.le_of_ble_eq_true rfl) ?_
  refine q_rp2 C hnm hU hS hI (t := 52) (i := 0) (k := 0) (a := a1) k_49 (hc := rfl) uwX11 tyX11 tyX11_ok nmX11 (by decide) rfl rfl rfl (by decide) fl_X11_10 (fun _ => rfl) (fun _ => rfl) hn hi2 dX11_init_12 (fun rv_1p H locs er hU hS hI => ?_)
  have hZ : NZ [(52, 0), (52, 1)] al_1 rv_1p := by rw [er]; exact hZ.put (by decide)
  have hP : PF al_1 iv_1 rv_1p := by rw [er]; exact hP.put (by decide) (by decide)
  clear er hn hi2 c1
  refine lv_aload_n hx hb dX11_init_15 rfl (lv_at hl 0 rfl) ?_
  have c2 : al_1.1 57 = 0 := by rw [hI.2.2.1.1 57, cz 57 (by decide) (by decide)]; rfl
  refine q_newo (t := 57) C hU hS hI.2.1 (Nat.le_trans hz0 hS.1) k_57 (hc := rfl) uwX10 tyX10 tyX10_ok (by decide +kernel) kl_X11_16 ib_X10 iz_X10 (Nat.le_of_ble_eq_true rfl) (Nat.le_of_ble_eq_true rfl) dX11_init_16 (fun a2 H hU hS hz => ?_)
  have hX2 : EXT (nx (fun _ => 0) 57) ([], []) al_1 iv_1 rv_1p (grow al_1 57 a2) (clr iv_1 57 (al_1.1 57) 0) (clr rv_1p 57 (al_1.1 57) none) := EXT.rf.new 57 a2
  have hI := hI.new 57 a2 (by decide)
  have hZ := hZ.ext hX2 (by simp)
  have hP := hP.ext hX2 (by decide) (by decide) (by decide)
  have hn := grow_new (al := al_1) (t := 57) (a := a2)
  have hi : 0 < (grow al_1 57 a2).1 57 := by rw [grow_ct]; simp
  rw [c2] at hU hI hZ hn hP
  clear hX2
  obtain ⟨al_2a, ea2⟩ : ∃ z, z = grow al_1 57 a2 := ⟨_, rfl⟩
  obtain ⟨iv_2a, ei2⟩ : ∃ z, z = clr iv_1 57 0 0 := ⟨_, rfl⟩
  obtain ⟨rv_2a, er2⟩ : ∃ z, z = clr rv_1p 57 0 none := ⟨_, rfl⟩
  rw [← ea2] at hU hI hZ hn hi hP
  rw [← ei2] at hU hI hP
  rw [← er2] at hU hI hZ hP
  refine W.widen (k := 24) (n := 168) (Nat.le_of_ble_eq_true rfl) (Nat.le_of_ble_eq_true rfl) ?_
  refine lv_dup hx hb dX11_init_19 rfl ?_
  refine W.eq (g2 := F0 m 20 ls [.ref (al_2a.2 57 0), .ref a2, .ref o]) (by rw [hn]) ?_
  refine q_cvA (q_runIA (n := 0) (b := al_2a.2 57 0) (As := []) (rest := [.ref a2, .ref o]) C hU hz (fun _ _ _ => trivial) (fun _ _ _ _ _ => trivial) (c_X10_init hI.1 hI.2.1 0 hi) cw_X10_init im_X10_init iz_X10 ml_X11_18 rfl (by decide +kernel) hl.1 rfl rfl (Nat.le_of_ble_eq_true rfl) dX11_init_20 rfl rfl ⟨Nat.le_of_ble_eq_true rfl, Nat.le_of_ble_eq_true rfl⟩ ⟨Nat.le_of_ble_eq_true rfl, Nat.le_of_ble_eq_true rfl⟩) hS hz (fun al_2 iv_2 rv_2 H locs hp hU hS hz => ?_)
  obtain ⟨g1, g2, g3, g4⟩ := hp
  have hI := hI.call g1 g2 g3 (by decide) (by decide)
  have hi2 : 0 < al_2.1 57 := by rw [g3.1]; omega
  have hZ := (hZ.ext g3 (by decide)).add hi2 g4
  have hZ : NZ [(57, 4), (57, 3), (57, 2), (57, 0), (52, 0), (52, 1)] al_2 rv_2 := hZ
  have hP := hP.ext g3 (by decide) (by decide) (by decide)
  have hn : al_2.2 57 0 = a2 := by rw [g3.2.1 57 0 hi]; exact hn
  clear g1 g2 g3 g4 hi ea2 ei2 er2
  refine W.widen (k := 28) (n := 294) (Nat.le_of_ble_eq_true rfl) (Nat.le_of_ble_eq_true rfl) ?_
  refine q_rp2 C hnm hU hS hI (t := 57) (i := 0) (k := 1) (a := a2) k_49 (hc := rfl) uwX11 tyX11 tyX11_ok nmX11 (by decide) rfl rfl rfl (by decide) fl_X11_19 (fun _ => rfl) (fun _ => rfl) hn hi2 dX11_init_23 (fun rv_2p H locs er hU hS hI => ?_)
  have hZ : NZ [(57, 4), (57, 3), (57, 2), (57, 0), (52, 0), (52, 1)] al_2 rv_2p := by rw [er]; exact hZ.put (by decide)
  have hP : PF al_2 iv_2 rv_2p := by rw [er]; exact hP.put (by decide) (by decide)
  clear er hn hi2 c2
  refine lv_aload_n hx hb dX11_init_26 rfl (lv_at hl 0 rfl) ?_
  have c3 : al_2.1 63 = 0 := by rw [hI.2.2.1.1 63, cz 63 (by decide) (by decide)]; rfl
  refine q_newo (t := 63) C hU hS hI.2.1 (Nat.le_trans hz0 hS.1) k_63 (hc := rfl) uwX9 tyX9 tyX9_ok (by decide +kernel) kl_X11_23 ib_X9 iz_X9 (Nat.le_of_ble_eq_true rfl) (Nat.le_of_ble_eq_true rfl) dX11_init_27 (fun a3 H hU hS hz => ?_)
  have hX3 : EXT (nx (fun _ => 0) 63) ([], []) al_2 iv_2 rv_2p (grow al_2 63 a3) (clr iv_2 63 (al_2.1 63) 0) (clr rv_2p 63 (al_2.1 63) none) := EXT.rf.new 63 a3
  have hI := hI.new 63 a3 (by decide)
  have hZ := hZ.ext hX3 (by simp)
  have hP := hP.ext hX3 (by decide) (by decide) (by decide)
  have hn := grow_new (al := al_2) (t := 63) (a := a3)
  have hi : 0 < (grow al_2 63 a3).1 63 := by rw [grow_ct]; simp
  rw [c3] at hU hI hZ hn hP
  clear hX3
  obtain ⟨al_3a, ea3⟩ : ∃ z, z = grow al_2 63 a3 := ⟨_, rfl⟩
  obtain ⟨iv_3a, ei3⟩ : ∃ z, z = clr iv_2 63 0 0 := ⟨_, rfl⟩
  obtain ⟨rv_3a, er3⟩ : ∃ z, z = clr rv_2p 63 0 none := ⟨_, rfl⟩
  rw [← ea3] at hU hI hZ hn hi hP
  rw [← ei3] at hU hI hP
  rw [← er3] at hU hI hZ hP
  refine W.widen (k := 29) (n := 296) (Nat.le_of_ble_eq_true rfl) (Nat.le_of_ble_eq_true rfl) ?_
  refine lv_dup hx hb dX11_init_30 rfl ?_
  refine W.eq (g2 := F0 m 31 ls [.ref (al_3a.2 63 0), .ref a3, .ref o]) (by rw [hn]) ?_
  refine q_cvA (q_runIA (n := 0) (b := al_3a.2 63 0) (As := []) (rest := [.ref a3, .ref o]) C hU hz (fun _ _ _ => trivial) (fun _ _ _ _ _ => trivial) (c_X9_init hI.1 hI.2.1 0 hi) cw_X9_init im_X9_init iz_X9 ml_X11_25 rfl (by decide +kernel) hl.1 rfl rfl (Nat.le_of_ble_eq_true rfl) dX11_init_31 rfl rfl ⟨Nat.le_of_ble_eq_true rfl, Nat.le_of_ble_eq_true rfl⟩ ⟨Nat.le_of_ble_eq_true rfl, Nat.le_of_ble_eq_true rfl⟩) hS hz (fun al_3 iv_3 rv_3 H locs hp hU hS hz => ?_)
  obtain ⟨g1, g2, g3, g4⟩ := hp
  have hI := hI.call g1 g2 g3 (by decide) (by decide)
  have hi2 : 0 < al_3.1 63 := by rw [g3.1]; omega
  have hZ := (hZ.ext g3 (by decide)).add hi2 g4
  have hZ : NZ [(63, 0), (57, 4), (57, 3), (57, 2), (57, 0), (52, 0), (52, 1)] al_3 rv_3 := hZ
  have hP := hP.ext g3 (by decide) (by decide) (by decide)
  have hn : al_3.2 63 0 = a3 := by rw [g3.2.1 63 0 hi]; exact hn
  clear g1 g2 g3 g4 hi ea3 ei3 er3
  refine W.widen (k := 30) (n := 316) (Nat.le_of_ble_eq_true rfl) (Nat.le_of_ble_eq_true rfl) ?_
  refine q_rp2 C hnm hU hS hI (t := 63) (i := 0) (k := 2) (a := a3) k_49 (hc := rfl) uwX11 tyX11 tyX11_ok nmX11 (by decide) rfl rfl rfl (by decide) fl_X11_26 (fun _ => rfl) (fun _ => rfl) hn hi2 dX11_init_34 (fun rv_3p H locs er hU hS hI => ?_)
  have hZ : NZ [(63, 0), (57, 4), (57, 3), (57, 2), (57, 0), (52, 0), (52, 1)] al_3 rv_3p := by rw [er]; exact hZ.put (by decide)
  have hP : PF al_3 iv_3 rv_3p := by rw [er]; exact hP.put (by decide) (by decide)
  clear er hn hi2 c3
  refine lv_aload_n hx hb dX11_init_37 rfl (lv_at hl 0 rfl) ?_
  have c4 : al_3.1 68 = 0 := by rw [hI.2.2.1.1 68, cz 68 (by decide) (by decide)]; rfl
  refine q_newo (t := 68) C hU hS hI.2.1 (Nat.le_trans hz0 hS.1) k_68 (hc := rfl) uwX4 tyX4 tyX4_ok (by decide +kernel) kl_X11_30 ib_X4 iz_X4 (Nat.le_of_ble_eq_true rfl) (Nat.le_of_ble_eq_true rfl) dX11_init_38 (fun a4 H hU hS hz => ?_)
  have hX4 : EXT (nx (fun _ => 0) 68) ([], []) al_3 iv_3 rv_3p (grow al_3 68 a4) (clr iv_3 68 (al_3.1 68) 0) (clr rv_3p 68 (al_3.1 68) none) := EXT.rf.new 68 a4
  have hI := hI.new 68 a4 (by decide)
  have hZ := hZ.ext hX4 (by simp)
  have hP := hP.ext hX4 (by decide) (by decide) (by decide)
  have hn := grow_new (al := al_3) (t := 68) (a := a4)
  have hi : 0 < (grow al_3 68 a4).1 68 := by rw [grow_ct]; simp
  rw [c4] at hU hI hZ hn hP
  clear hX4
  obtain ⟨al_4a, ea4⟩ : ∃ z, z = grow al_3 68 a4 := ⟨_, rfl⟩
  obtain ⟨iv_4a, ei4⟩ : ∃ z, z = clr iv_3 68 0 0 := ⟨_, rfl⟩
  obtain ⟨rv_4a, er4⟩ : ∃ z, z = clr rv_3p 68 0 none := ⟨_, rfl⟩
  rw [← ea4] at hU hI hZ hn hi hP
  rw [← ei4] at hU hI hP
  rw [← er4] at hU hI hZ hP
  refine W.widen (k := 31) (n := 328) (Nat.le_of_ble_eq_true rfl) (Nat.le_of_ble_eq_true rfl) ?_
  refine lv_dup hx hb dX11_init_41 rfl ?_
  refine W.eq (g2 := F0 m 42 ls [.ref (al_4a.2 68 0), .ref a4, .ref o]) (by rw [hn]) ?_
  refine q_cvA (q_runIA (n := 0) (b := al_4a.2 68 0) (As := []) (rest := [.ref a4, .ref o]) C hU hz (fun _ _ _ => trivial) (fun _ _ _ _ _ => trivial) (c_X4_init hI.1 hI.2.1 0 hi) cw_X4_init im_X4_init iz_X4 ml_X11_32 rfl (by decide +kernel) hl.1 rfl rfl (Nat.le_of_ble_eq_true rfl) dX11_init_42 rfl rfl ⟨Nat.le_of_ble_eq_true rfl, Nat.le_of_ble_eq_true rfl⟩ ⟨Nat.le_of_ble_eq_true rfl, Nat.le_of_ble_eq_true rfl⟩) hS hz (fun al_4 iv_4 rv_4 H locs hp hU hS hz => ?_)
  obtain ⟨g1, g2, g3, g4⟩ := hp
  have hI := hI.call g1 g2 g3 (by decide) (by decide)
  have hi2 : 0 < al_4.1 68 := by rw [g3.1]; omega
  have hZ := (hZ.ext g3 (by decide)).add hi2 g4
  have hZ : NZ [(68, 10), (68, 9), (68, 8), (68, 7), (68, 6), (68, 4), (68, 3), (68, 2), (68, 1), (68, 0), (63, 0), (57, 4), (57, 3), (57, 2), (57, 0), (52, 0), (52, 1)] al_4 rv_4 := hZ
  have hP := hP.ext g3 (by decide) (by decide) (by decide)
  have hn : al_4.2 68 0 = a4 := by rw [g3.2.1 68 0 hi]; exact hn
  clear g1 g2 g3 g4 hi ea4 ei4 er4
  refine W.widen (k := 41) (n := 678) (Nat.le_of_ble_eq_true rfl) (Nat.le_of_ble_eq_true rfl) ?_
  refine q_rp2 C hnm hU hS hI (t := 68) (i := 0) (k := 3) (a := a4) k_49 (hc := rfl) uwX11 tyX11 tyX11_ok nmX11 (by decide) rfl rfl rfl (by decide) fl_X11_33 (fun _ => rfl) (fun _ => rfl) hn hi2 dX11_init_45 (fun rv_4p H locs er hU hS hI => ?_)
  have hZ : NZ [(68, 10), (68, 9), (68, 8), (68, 7), (68, 6), (68, 4), (68, 3), (68, 2), (68, 1), (68, 0), (63, 0), (57, 4), (57, 3), (57, 2), (57, 0), (52, 0), (52, 1)] al_4 rv_4p := by rw [er]; exact hZ.put (by decide)
  have hP : PF al_4 iv_4 rv_4p := by rw [er]; exact hP.put (by decide) (by decide)
  clear er hn hi2 c4
  refine lv_aload_n hx hb dX11_init_48 rfl (lv_at hl 0 rfl) ?_
  have c5 : al_4.1 79 = 0 := by rw [hI.2.2.1.1 79, cz 79 (by decide) (by decide)]; rfl
  refine q_newo (t := 79) C hU hS hI.2.1 (Nat.le_trans hz0 hS.1) k_79 (hc := rfl) uwX0 tyX0 tyX0_ok (by decide +kernel) kl_X11_37 ib_X0 iz_X0 (Nat.le_of_ble_eq_true rfl) (Nat.le_of_ble_eq_true rfl) dX11_init_49 (fun a5 H hU hS hz => ?_)
  have hX5 : EXT (nx (fun _ => 0) 79) ([], []) al_4 iv_4 rv_4p (grow al_4 79 a5) (clr iv_4 79 (al_4.1 79) 0) (clr rv_4p 79 (al_4.1 79) none) := EXT.rf.new 79 a5
  have hI := hI.new 79 a5 (by decide)
  have hZ := hZ.ext hX5 (by simp)
  have hP := hP.ext hX5 (by decide) (by decide) (by decide)
  have hn := grow_new (al := al_4) (t := 79) (a := a5)
  have hi : 0 < (grow al_4 79 a5).1 79 := by rw [grow_ct]; simp
  rw [c5] at hU hI hZ hn hP
  clear hX5
  obtain ⟨al_5a, ea5⟩ : ∃ z, z = grow al_4 79 a5 := ⟨_, rfl⟩
  obtain ⟨iv_5a, ei5⟩ : ∃ z, z = clr iv_4 79 0 0 := ⟨_, rfl⟩
  obtain ⟨rv_5a, er5⟩ : ∃ z, z = clr rv_4p 79 0 none := ⟨_, rfl⟩
  rw [← ea5] at hU hI hZ hn hi hP
  rw [← ei5] at hU hI hP
  rw [← er5] at hU hI hZ hP
  refine W.widen (k := 42) (n := 683) (Nat.le_of_ble_eq_true rfl) (Nat.le_of_ble_eq_true rfl) ?_
  refine lv_dup hx hb dX11_init_52 rfl ?_
  refine W.eq (g2 := F0 m 53 ls [.ref (al_5a.2 79 0), .ref a5, .ref o]) (by rw [hn]) ?_
  have z80 : al_5a.1 80 = 0 := by rw [hI.2.2.1.1 80, cz 80 (by decide) (by decide)]; rfl
  refine q_cvA (q_runIA (n := 0) (b := al_5a.2 79 0) (As := []) (rest := [.ref a5, .ref o]) C hU hz (fun _ _ _ => trivial) (fun _ _ _ _ _ => trivial) (c_X0_init hI.1 hI.2.1 0 hi) cw_X0_init im_X0_init iz_X0 ml_X11_39 rfl (by decide +kernel) hl.1 rfl rfl (Nat.le_of_ble_eq_true rfl) dX11_init_53 rfl rfl ⟨Nat.le_of_ble_eq_true rfl, Nat.le_of_ble_eq_true rfl⟩ ⟨Nat.le_of_ble_eq_true rfl, Nat.le_of_ble_eq_true rfl⟩) hS hz (fun al_5 iv_5 rv_5 H locs hp hU hS hz => ?_)
  obtain ⟨g1, g2, g3, g4, g5⟩ := hp
  have hBF : BF al_5 iv_5 := ⟨by rw [g3.1, z80]; decide, fun k hk => by have q := g5 k hk; rw [z80] at q; exact q⟩
  clear g5
  have hI := hI.call g1 g2 g3 (by decide) (by decide)
  have hi2 : 0 < al_5.1 79 := by rw [g3.1]; omega
  have hZ := (hZ.ext g3 (by decide)).add hi2 g4
  have hZ : NZ [(79, 3), (79, 2), (79, 1), (79, 0), (68, 10), (68, 9), (68, 8), (68, 7), (68, 6), (68, 4), (68, 3), (68, 2), (68, 1), (68, 0), (63, 0), (57, 4), (57, 3), (57, 2), (57, 0), (52, 0), (52, 1)] al_5 rv_5 := hZ
  have hP := hP.ext g3 (by decide) (by decide) (by decide)
  have hn : al_5.2 79 0 = a5 := by rw [g3.2.1 79 0 hi]; exact hn
  clear g1 g2 g3 g4 hi ea5 ei5 er5
  refine W.widen (k := 46) (n := 747) (Nat.le_of_ble_eq_true rfl) (Nat.le_of_ble_eq_true rfl) ?_
  refine q_rp2 C hnm hU hS hI (t := 79) (i := 0) (k := 4) (a := a5) k_49 (hc := rfl) uwX11 tyX11 tyX11_ok nmX11 (by decide) rfl rfl rfl (by decide) fl_X11_40 (fun _ => rfl) (fun _ => rfl) hn hi2 dX11_init_56 (fun rv_5p H locs er hU hS hI => ?_)
  have hZ : NZ [(79, 3), (79, 2), (79, 1), (79, 0), (68, 10), (68, 9), (68, 8), (68, 7), (68, 6), (68, 4), (68, 3), (68, 2), (68, 1), (68, 0), (63, 0), (57, 4), (57, 3), (57, 2), (57, 0), (52, 0), (52, 1)] al_5 rv_5p := by rw [er]; exact hZ.put (by decide)
  have hP : PF al_5 iv_5 rv_5p := by rw [er]; exact hP.put (by decide) (by decide)
  clear er hn hi2 c5
  refine lv_aload_n hx hb dX11_init_59 rfl (lv_at hl 0 rfl) ?_
  have c6 : al_5.1 84 = 0 := by rw [hI.2.2.1.1 84, cz 84 (by decide) (by decide)]; rfl
  refine q_newo (t := 84) C hU hS hI.2.1 (Nat.le_trans hz0 hS.1) k_84 (hc := rfl) uwX3 tyX3 tyX3_ok (by decide +kernel) kl_X11_44 ib_X3 iz_X3 (Nat.le_of_ble_eq_true rfl) (Nat.le_of_ble_eq_true rfl) dX11_init_60 (fun a6 H hU hS hz => ?_)
  have hX6 : EXT (nx (fun _ => 0) 84) ([], []) al_5 iv_5 rv_5p (grow al_5 84 a6) (clr iv_5 84 (al_5.1 84) 0) (clr rv_5p 84 (al_5.1 84) none) := EXT.rf.new 84 a6
  have hI := hI.new 84 a6 (by decide)
  have hZ := hZ.ext hX6 (by simp)
  have hP := hP.ext hX6 (by decide) (by decide) (by decide)
  have hBF := hBF.ext hX6 (by decide)
  have hn := grow_new (al := al_5) (t := 84) (a := a6)
  have hi : 0 < (grow al_5 84 a6).1 84 := by rw [grow_ct]; simp
  rw [c6] at hU hI hZ hn hP hBF
  clear hX6
  obtain ⟨al_6a, ea6⟩ : ∃ z, z = grow al_5 84 a6 := ⟨_, rfl⟩
  obtain ⟨iv_6a, ei6⟩ : ∃ z, z = clr iv_5 84 0 0 := ⟨_, rfl⟩
  obtain ⟨rv_6a, er6⟩ : ∃ z, z = clr rv_5p 84 0 none := ⟨_, rfl⟩
  rw [← ea6] at hU hI hZ hn hi hP hBF
  rw [← ei6] at hU hI hP hBF
  rw [← er6] at hU hI hZ hP
  refine W.widen (k := 47) (n := 751) (Nat.le_of_ble_eq_true rfl) (Nat.le_of_ble_eq_true rfl) ?_
  refine lv_dup hx hb dX11_init_63 rfl ?_
  refine W.eq (g2 := F0 m 64 ls [.ref (al_6a.2 84 0), .ref a6, .ref o]) (by rw [hn]) ?_
  refine q_cvA (q_runIA (n := 0) (b := al_6a.2 84 0) (As := []) (rest := [.ref a6, .ref o]) C hU hz (fun _ _ _ => trivial) (fun _ _ _ _ _ => trivial) (c_X3_init hI.1 hI.2.1 0 hi) cw_X3_init im_X3_init iz_X3 ml_X11_46 rfl (by decide +kernel) hl.1 rfl rfl (Nat.le_of_ble_eq_true rfl) dX11_init_64 rfl rfl ⟨Nat.le_of_ble_eq_true rfl, Nat.le_of_ble_eq_true rfl⟩ ⟨Nat.le_of_ble_eq_true rfl, Nat.le_of_ble_eq_true rfl⟩) hS hz (fun al_6 iv_6 rv_6 H locs hp hU hS hz => ?_)
  obtain ⟨g1, g2, g3, g4⟩ := hp
  have hI := hI.call g1 g2 g3 (by decide) (by decide)
  have hi2 : 0 < al_6.1 84 := by rw [g3.1]; omega
  have hZ := (hZ.ext g3 (by decide)).add hi2 g4
  have hZ : NZ [(84, 3), (84, 2), (84, 0), (79, 3), (79, 2), (79, 1), (79, 0), (68, 10), (68, 9), (68, 8), (68, 7), (68, 6), (68, 4), (68, 3), (68, 2), (68, 1), (68, 0), (63, 0), (57, 4), (57, 3), (57, 2), (57, 0), (52, 0), (52, 1)] al_6 rv_6 := hZ
  have hP := hP.ext g3 (by decide) (by decide) (by decide)
  have hBF := hBF.ext g3 (by decide)
  have hn : al_6.2 84 0 = a6 := by rw [g3.2.1 84 0 hi]; exact hn
  clear g1 g2 g3 g4 hi ea6 ei6 er6
  refine W.widen (k := 50) (n := 818) (Nat.le_of_ble_eq_true rfl) (Nat.le_of_ble_eq_true rfl) ?_
  refine q_rp2 C hnm hU hS hI (t := 84) (i := 0) (k := 5) (a := a6) k_49 (hc := rfl) uwX11 tyX11 tyX11_ok nmX11 (by decide) rfl rfl rfl (by decide) fl_X11_47 (fun _ => rfl) (fun _ => rfl) hn hi2 dX11_init_67 (fun rv_6p H locs er hU hS hI => ?_)
  have hZ : NZ [(84, 3), (84, 2), (84, 0), (79, 3), (79, 2), (79, 1), (79, 0), (68, 10), (68, 9), (68, 8), (68, 7), (68, 6), (68, 4), (68, 3), (68, 2), (68, 1), (68, 0), (63, 0), (57, 4), (57, 3), (57, 2), (57, 0), (52, 0), (52, 1)] al_6 rv_6p := by rw [er]; exact hZ.put (by decide)
  have hP : PF al_6 iv_6 rv_6p := by rw [er]; exact hP.put (by decide) (by decide)
  clear er hn hi2 c6
  refine lv_aload_n hx hb dX11_init_70 rfl (lv_at hl 0 rfl) ?_
  have c7 : al_6.1 90 = 0 := by rw [hI.2.2.1.1 90, cz 90 (by decide) (by decide)]; rfl
  refine q_newo (t := 90) C hU hS hI.2.1 (Nat.le_trans hz0 hS.1) k_90 (hc := rfl) uwX1 tyX1 tyX1_ok (by decide +kernel) kl_X11_51 ib_X1 iz_X1 (Nat.le_of_ble_eq_true rfl) (Nat.le_of_ble_eq_true rfl) dX11_init_71 (fun a7 H hU hS hz => ?_)
  have hX7 : EXT (nx (fun _ => 0) 90) ([], []) al_6 iv_6 rv_6p (grow al_6 90 a7) (clr iv_6 90 (al_6.1 90) 0) (clr rv_6p 90 (al_6.1 90) none) := EXT.rf.new 90 a7
  have hI := hI.new 90 a7 (by decide)
  have hZ := hZ.ext hX7 (by simp)
  have hP := hP.ext hX7 (by decide) (by decide) (by decide)
  have hBF := hBF.ext hX7 (by decide)
  have hn := grow_new (al := al_6) (t := 90) (a := a7)
  have hi : 0 < (grow al_6 90 a7).1 90 := by rw [grow_ct]; simp
  rw [c7] at hU hI hZ hn hP hBF
  clear hX7
  obtain ⟨al_7a, ea7⟩ : ∃ z, z = grow al_6 90 a7 := ⟨_, rfl⟩
  obtain ⟨iv_7a, ei7⟩ : ∃ z, z = clr iv_6 90 0 0 := ⟨_, rfl⟩
  obtain ⟨rv_7a, er7⟩ : ∃ z, z = clr rv_6p 90 0 none := ⟨_, rfl⟩
  rw [← ea7] at hU hI hZ hn hi hP hBF
  rw [← ei7] at hU hI hP hBF
  rw [← er7] at hU hI hZ hP
  refine W.widen (k := 51) (n := 829) (Nat.le_of_ble_eq_true rfl) (Nat.le_of_ble_eq_true rfl) ?_
  refine lv_dup hx hb dX11_init_74 rfl ?_
  refine W.eq (g2 := F0 m 75 ls [.ref (al_7a.2 90 0), .ref a7, .ref o]) (by rw [hn]) ?_
  refine q_cvA (q_runIA (n := 0) (b := al_7a.2 90 0) (As := []) (rest := [.ref a7, .ref o]) C hU hz (fun _ _ _ => trivial) (fun _ _ _ _ _ => trivial) (c_X1_init hI.1 hI.2.1 0 hi) cw_X1_init im_X1_init iz_X1 ml_X11_53 rfl (by decide +kernel) hl.1 rfl rfl (Nat.le_of_ble_eq_true rfl) dX11_init_75 rfl rfl ⟨Nat.le_of_ble_eq_true rfl, Nat.le_of_ble_eq_true rfl⟩ ⟨Nat.le_of_ble_eq_true rfl, Nat.le_of_ble_eq_true rfl⟩) hS hz (fun al_7 iv_7 rv_7 H locs hp hU hS hz => ?_)
  obtain ⟨g1, g2, g3, g4⟩ := hp
  have hI := hI.call g1 g2 g3 (by decide) (by decide)
  have hi2 : 0 < al_7.1 90 := by rw [g3.1]; omega
  have hZ := (hZ.ext g3 (by decide)).add hi2 g4
  have hZ : NZ [(90, 7), (90, 5), (90, 4), (90, 3), (90, 2), (90, 1), (90, 0), (84, 3), (84, 2), (84, 0), (79, 3), (79, 2), (79, 1), (79, 0), (68, 10), (68, 9), (68, 8), (68, 7), (68, 6), (68, 4), (68, 3), (68, 2), (68, 1), (68, 0), (63, 0), (57, 4), (57, 3), (57, 2), (57, 0), (52, 0), (52, 1)] al_7 rv_7 := hZ
  have hP := hP.ext g3 (by decide) (by decide) (by decide)
  have hBF := hBF.ext g3 (by decide)
  have hn : al_7.2 90 0 = a7 := by rw [g3.2.1 90 0 hi]; exact hn
  clear g1 g2 g3 g4 hi ea7 ei7 er7
  refine W.widen (k := 58) (n := 1109) (Nat.le_of_ble_eq_true rfl) (Nat.le_of_ble_eq_true rfl) ?_
  refine q_rp2 C hnm hU hS hI (t := 90) (i := 0) (k := 6) (a := a7) k_49 (hc := rfl) uwX11 tyX11 tyX11_ok nmX11 (by decide) rfl rfl rfl (by decide) fl_X11_54 (fun _ => rfl) (fun _ => rfl) hn hi2 dX11_init_78 (fun rv_7p H locs er hU hS hI => ?_)
  have hZ : NZ [(90, 7), (90, 5), (90, 4), (90, 3), (90, 2), (90, 1), (90, 0), (84, 3), (84, 2), (84, 0), (79, 3), (79, 2), (79, 1), (79, 0), (68, 10), (68, 9), (68, 8), (68, 7), (68, 6), (68, 4), (68, 3), (68, 2), (68, 1), (68, 0), (63, 0), (57, 4), (57, 3), (57, 2), (57, 0), (52, 0), (52, 1)] al_7 rv_7p := by rw [er]; exact hZ.put (by decide)
  have hP : PF al_7 iv_7 rv_7p := by rw [er]; exact hP.put (by decide) (by decide)
  clear er hn hi2 c7
  refine lv_aload_n hx hb dX11_init_81 rfl (lv_at hl 0 rfl) ?_
  obtain ⟨ts, zs, ys⟩ := hX.2.1
  refine q_gets C zs hS fl_X11_58 dX11_init_82 ?_
  have c50 : al_7.1 50 = 0 := by rw [hI.2.2.1.1 50, cz 50 (by decide) (by decide)]; rfl
  refine q_clone (t := 50) C hU hS hI.2.1 (Nat.le_trans hz0 hS.1) ys hX.2.2.2.2 k_50 (fun _ => rfl) hl.1 (Nat.le_of_ble_eq_true rfl) (Nat.le_of_ble_eq_true rfl) (Nat.le_of_ble_eq_true rfl) (Nat.le_of_ble_eq_true rfl) dX11_init_85 (fun a8 H hU hS hcell => ?_)
  have hX8 : EXT (nx (fun _ => 0) 50) ([50], []) al_7 iv_7 rv_7p (grow al_7 50 a8) (clf iv_7 50 (al_7.1 50) fst4) (clr rv_7p 50 (al_7.1 50) none) := EXT.rf.newf 50 a8 (by decide)
  have hI := hI.newf (f := fst4) 50 a8 (by decide) (by decide) (fun k _ => fst4_rng k)
  have hZ := hZ.ext hX8 (by decide)
  have hP := hP.ext hX8 (by decide) (by decide) (by decide)
  have hBF := hBF.ext hX8 (by decide)
  have hn := grow_new (al := al_7) (t := 50) (a := a8)
  have hi : 0 < (grow al_7 50 a8).1 50 := by rw [grow_ct]; simp
  rw [c50] at hU hI hZ hn hP hBF
  clear hX8
  obtain ⟨al_8, ea⟩ : ∃ z, z = grow al_7 50 a8 := ⟨_, rfl⟩
  obtain ⟨iv_8, ei⟩ : ∃ z, z = clf iv_7 50 0 fst4 := ⟨_, rfl⟩
  obtain ⟨rv_8, er⟩ : ∃ z, z = clr rv_7p 50 0 none := ⟨_, rfl⟩
  have s8 : ∀ k, iv_8 50 0 k = fst4 k := fun k => by rw [ei]; exact clf_self
  rw [← ea] at hU hI hZ hn hi hP hBF
  rw [← ei] at hU hI hP hBF
  rw [← er] at hU hI hZ hP
  clear ea ei er
  refine W.widen (k := 59) (n := 1113) (Nat.le_of_ble_eq_true rfl) (Nat.le_of_ble_eq_true rfl) ?_
  refine va_castE hx hb C.1.2.2.2.1 (C.1.2.2.2.2 _ kl_X11_63) hcell dX11_init_88 ?_
  refine q_rp2 C hnm hU hS hI (t := 50) (i := 0) (k := 7) (a := a8) k_49 (hc := rfl) uwX11 tyX11 tyX11_ok nmX11 (by decide) rfl rfl rfl (by decide) fl_X11_67 (fun _ => rfl) (fun _ => rfl) hn hi dX11_init_91 (fun rv_8p H locs er hU hS hI => ?_)
  have hZ : NZ [(90, 7), (90, 5), (90, 4), (90, 3), (90, 2), (90, 1), (90, 0), (84, 3), (84, 2), (84, 0), (79, 3), (79, 2), (79, 1), (79, 0), (68, 10), (68, 9), (68, 8), (68, 7), (68, 6), (68, 4), (68, 3), (68, 2), (68, 1), (68, 0), (63, 0), (57, 4), (57, 3), (57, 2), (57, 0), (52, 0), (52, 1)] al_8 rv_8p := by rw [er]; exact hZ.put (by decide)
  have hP : PF al_8 iv_8 rv_8p := by rw [er]; exact hP.put (by decide) (by decide)
  clear er hn hi c50
  refine lv_aload_n hx hb dX11_init_94 rfl (lv_at hl 0 rfl) ?_
  refine lv_bipush (v := 7) hx hb dX11_init_95 (by decide) ?_
  have c51 : al_8.1 51 = 0 := by rw [hI.2.2.1.1 51, cz 51 (by decide) (by decide)]; rfl
  refine q_newp (t := 51) (ty := .int) C hU hS hI.2.1 (Nat.le_trans hz0 hS.1) rfl (Or.inl rfl) k_51 (fun _ => rfl) ac_int (by decide) (by decide) (by decide) (Nat.le_of_ble_eq_true rfl) (Nat.le_of_ble_eq_true rfl) dX11_init_97 (fun a9 H hU hS hz => ?_)
  have hX9 : EXT (nx (fun _ => 0) 51) ([], []) al_8 iv_8 rv_8p (grow al_8 51 a9) (clr iv_8 51 (al_8.1 51) 0) (clr rv_8p 51 (al_8.1 51) none) := EXT.rf.new 51 a9
  have hI := hI.new 51 a9 (by decide)
  have hZ := hZ.ext hX9 (by simp)
  have hP := hP.ext hX9 (by decide) (by decide) (by decide)
  have hBF := hBF.ext hX9 (by decide)
  have hn := grow_new (al := al_8) (t := 51) (a := a9)
  have hi : 0 < (grow al_8 51 a9).1 51 := by rw [grow_ct]; simp
  rw [c51] at hU hI hZ hn hP hBF
  clear hX9
  obtain ⟨al_9, ea⟩ : ∃ z, z = grow al_8 51 a9 := ⟨_, rfl⟩
  obtain ⟨iv_9, ei⟩ : ∃ z, z = clr iv_8 51 0 0 := ⟨_, rfl⟩
  obtain ⟨rv_9, er⟩ : ∃ z, z = clr rv_8p 51 0 none := ⟨_, rfl⟩
  have s9 : ∀ k, iv_9 50 0 k = fst4 k := fun k => by rw [ei, clr_ne (fun z => absurd z.1 (by decide))]; exact s8 k
  rw [← ea] at hU hI hZ hn hi hP hBF
  rw [← ei] at hU hI hP hBF
  rw [← er] at hU hI hZ hP
  clear ea ei er
  refine W.widen (k := 60) (n := 1120) (Nat.le_of_ble_eq_true rfl) (Nat.le_of_ble_eq_true rfl) ?_
  refine q_rp2 C hnm hU hS hI (t := 51) (i := 0) (k := 8) (a := a9) k_49 (hc := rfl) uwX11 tyX11 tyX11_ok nmX11 (by decide) rfl rfl rfl (by decide) fl_X11_70 (fun _ => rfl) (fun _ => rfl) hn hi dX11_init_99 (fun rv_9p H locs er hU hS hI => ?_)
  have hZ : NZ [(90, 7), (90, 5), (90, 4), (90, 3), (90, 2), (90, 1), (90, 0), (84, 3), (84, 2), (84, 0), (79, 3), (79, 2), (79, 1), (79, 0), (68, 10), (68, 9), (68, 8), (68, 7), (68, 6), (68, 4), (68, 3), (68, 2), (68, 1), (68, 0), (63, 0), (57, 4), (57, 3), (57, 2), (57, 0), (52, 0), (52, 1)] al_9 rv_9p := by rw [er]; exact hZ.put (by decide)
  have hP : PF al_9 iv_9 rv_9p := by rw [er]; exact hP.put (by decide) (by decide)
  clear er hn hi c51
  refine lv_aload_n hx hb dX11_init_102 rfl (lv_at hl 0 rfl) ?_
  refine lv_iconst (v := 0) hx hb dX11_init_103 (by decide) ?_
  refine W.eq (g2 := F0 m 104 ls [.int 0, .ref (al_9.2 49 i0)]) (by rw [hI.2.2.2.2.1]) ?_
  refine q_puti (t := 49) (i := i0) (k := 9) C hU hS k_49 (hc := rfl) uwX11 tyX11 tyX11_ok nmX11 hI.2.2.2.2.2 (by decide) rfl (Or.inl rfl) rfl fl_X11_73 dX11_init_104 rfl rfl (fun H locs hU hS => ?_)
  have hI := hI.puti (t := 49) (i := i0) (k := 9) (x := 0) (by decide) ⟨show (0 : Int) ≤ _ by decide, show _ ≤ (4000 : Int) by decide⟩
  have hP : PF al_9 (up3 iv_9 49 i0 9 0) rv_9p := ⟨hP.1, fun j hj => ⟨(hP.2 j hj).1, (hP.2 j hj).2.1, by rw [up3_ne (fun z => absurd z.1 (by decide))]; exact (hP.2 j hj).2.2.1, by rw [up3_ne (fun z => absurd z.1 (by decide))]; exact (hP.2 j hj).2.2.2⟩⟩
  have hBF : BF al_9 (up3 iv_9 49 i0 9 0) := ⟨hBF.1, fun k hk => by rw [up3_ne (fun z => absurd z.1 (by decide))]; exact hBF.2 k hk⟩
  exact q_vretA C hr hlk hU hS ⟨hI.1, hI.2.1, hI.2.2.1, hI.2.2.2.1, hZ, hP, fun k => by rw [up3_ne (fun z => absurd z.1 (by decide))]; exact s9 k, up3_self _ _ _ _ _, hBF⟩ dX11_init_107
