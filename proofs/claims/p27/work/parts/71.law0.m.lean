section
set_option maxHeartbeats 4000000 in
set_option maxRecDepth 100000 in
theorem law_0 {p : Program} {l : Launch} {e : Env} {s : State} {m : MethodId} {below : List Frame} {meth : Method} {c : Code} {b L : Nat} {xs : Nat → Int32} {D : va_G} {cA : FieldType → ClassId} {ls : Array Slot} {Q : State → Prop} {H : Heap} {locs : List Loc} {cells slots : Nat} {i : Int32} {ox om : Nat} {al : Al} {iv : Iv} {rv : Rv} (X : LX p s m c b L xs D cA) (hl : lv_has ls 4 [(3, .int i), (2, .ref om), (1, .ref ox), (0, .ref b)]) (hi : 0 ≤ i.toInt ∧ i.toInt + 6 < L) (hQ : LSt ox om al iv rv) (hU : UW D cA s.heap.size al iv rv H) (hS : va_S (Aq s.heap.size) s.heap H locs) (hc : cells + 3 ≤ 600000 ∧ slots + 16 ≤ 7302250)
    (kk : ∀ (al' : Al) (iv' : Iv) (rv' : Rv) (H' : Heap) (locs' : List Loc), LSt ox om al' iv' rv' → UW D cA s.heap.size al' iv' rv' H' → va_S (Aq s.heap.size) s.heap H' locs' → W p l e room_1 s m #[Value.ref b] below meth c H' locs' (cells + 3) (slots + 16) Q (F0 m 1475 ls [])) : W p l e room_1 s m #[Value.ref b] below meth c H locs cells slots Q (F0 m 188 ls []) := by
  obtain ⟨hG, hox, hom, hRel⟩ := hQ
  have C := X.1
  have hx := C.1.1
  have hb := C.1.2.1
  obtain ⟨v1, e1⟩ : ∃ z, xs (i + 1).toNatClampNeg = z := ⟨_, rfl⟩
  refine lv_aload_n hx hb dL_law_188 rfl (lv_at hl 2 rfl) ?_
  refine lv_aload_n hx hb dL_law_189 rfl (lv_at hl 3 rfl) ?_
  refine lv_iload_n hx hb dL_law_190 rfl (lv_at hl 0 rfl) ?_
  refine lv_iconst (v := 1) hx hb dL_law_191 (by decide) ?_
  refine q_ai X hS (k := 1) (by decide) hi e1 dL_law_192 dL_law_193 ?_
  have hG0 := hG
  have hGp := hG
  refine W.eq (g2 := F0 m 194 ls [.int v1, .ref (al.2 49 0)]) (by rw [hox]) ?_
  refine q_fi (q_runV (t := 49) (i := 0) (As := [.int v1]) (rest := []) C hU (c_X11_days_x hG v1) vm_X11_days ml_L_13 k_49.1 (hc := rfl) rfl (h1_49 hG) hl.1 rfl rfl (Nat.le_of_ble_eq_true rfl) dL_law_194 rfl rfl ⟨Nat.le_of_ble_eq_true rfl, Nat.le_of_ble_eq_true rfl⟩ ⟨by show cells + 0 ≤ 600000; omega, by show slots + 0 ≤ 7302250; omega⟩) hS (fun r1 iv1 rv1 H locs hG f1 g1 hp1 hU hS => ?_)
  refine lv_pop hx hb dL_law_197 rfl ?_
  refine lv_aload_n hx hb dL_law_198 rfl (lv_at hl 1 rfl) ?_
  refine lv_aload_n hx hb dL_law_199 rfl (lv_at hl 3 rfl) ?_
  refine lv_iload_n hx hb dL_law_200 rfl (lv_at hl 0 rfl) ?_
  refine lv_iconst (v := 1) hx hb dL_law_201 (by decide) ?_
  refine q_ai X hS (k := 1) (by decide) hi e1 dL_law_202 dL_law_203 ?_
  have hGp := hG
  refine W.eq (g2 := F0 m 204 ls [.int v1, .ref (al.2 0 0)]) (by rw [hom]) ?_
  refine q_fi (q_runV (t := 0) (i := 0) (As := [.int v1]) (rest := []) C hU (c_X12_days_x hG v1) vm_X12_days ml_L_17 k_0.1 (hc := rfl) rfl (h1_0 hG) hl.1 rfl rfl (Nat.le_of_ble_eq_true rfl) dL_law_204 rfl rfl ⟨Nat.le_of_ble_eq_true rfl, Nat.le_of_ble_eq_true rfl⟩ ⟨by show cells + 0 ≤ 600000; omega, by show slots + 0 ≤ 7302250; omega⟩) hS (fun r2 iv2 rv2 H locs hG f2 g2 hp2 hU hS => ?_)
  have hRel := REL.s_days hG0 hRel hp1 hp2 (EX.of f1 g1) f2 g2
  refine lv_pop hx hb dL_law_207 rfl ?_
  refine lv_goto (tgt := 1475) hx hb dL_law_208 (by decide) ?_
  refine W.widen (k := cells + 3) (n := slots + 16) (by omega) (by omega) ?_
  exact kk _ _ _ _ _ ⟨hG, hox, hom, hRel⟩ hU hS
set_option maxHeartbeats 4000000 in
set_option maxRecDepth 100000 in
theorem law_1 {p : Program} {l : Launch} {e : Env} {s : State} {m : MethodId} {below : List Frame} {meth : Method} {c : Code} {b L : Nat} {xs : Nat → Int32} {D : va_G} {cA : FieldType → ClassId} {ls : Array Slot} {Q : State → Prop} {H : Heap} {locs : List Loc} {cells slots : Nat} {i : Int32} {ox om : Nat} {al : Al} {iv : Iv} {rv : Rv} (X : LX p s m c b L xs D cA) (hl : lv_has ls 4 [(3, .int i), (2, .ref om), (1, .ref ox), (0, .ref b)]) (hi : 0 ≤ i.toInt ∧ i.toInt + 6 < L) (hQ : LSt ox om al iv rv) (hU : UW D cA s.heap.size al iv rv H) (hS : va_S (Aq s.heap.size) s.heap H locs) (hc : cells + 3 ≤ 600000 ∧ slots + 16 ≤ 7302250)
    (kk : ∀ (al' : Al) (iv' : Iv) (rv' : Rv) (H' : Heap) (locs' : List Loc), LSt ox om al' iv' rv' → UW D cA s.heap.size al' iv' rv' H' → va_S (Aq s.heap.size) s.heap H' locs' → W p l e room_1 s m #[Value.ref b] below meth c H' locs' (cells + 3) (slots + 16) Q (F0 m 1475 ls [])) : W p l e room_1 s m #[Value.ref b] below meth c H locs cells slots Q (F0 m 211 ls []) := by
  obtain ⟨hG, hox, hom, hRel⟩ := hQ
  have C := X.1
  have hx := C.1.1
  have hb := C.1.2.1
  obtain ⟨v1, e1⟩ : ∃ z, xs (i + 1).toNatClampNeg = z := ⟨_, rfl⟩
  obtain ⟨v2, e2⟩ : ∃ z, xs (i + 2).toNatClampNeg = z := ⟨_, rfl⟩
  refine lv_aload_n hx hb dL_law_211 rfl (lv_at hl 2 rfl) ?_
  refine lv_aload_n hx hb dL_law_212 rfl (lv_at hl 3 rfl) ?_
  refine lv_iload_n hx hb dL_law_213 rfl (lv_at hl 0 rfl) ?_
  refine lv_iconst (v := 1) hx hb dL_law_214 (by decide) ?_
  refine q_ai X hS (k := 1) (by decide) hi e1 dL_law_215 dL_law_216 ?_
  refine lv_aload_n hx hb dL_law_217 rfl (lv_at hl 3 rfl) ?_
  refine lv_iload_n hx hb dL_law_218 rfl (lv_at hl 0 rfl) ?_
  refine lv_iconst (v := 2) hx hb dL_law_219 (by decide) ?_
  refine q_ai X hS (k := 2) (by decide) hi e2 dL_law_220 dL_law_221 ?_
  have hG0 := hG
  have hGp := hG
  refine W.eq (g2 := F0 m 222 ls [.int v2, .int v1, .ref (al.2 49 0)]) (by rw [hox]) ?_
  refine q_fi (q_runV (t := 49) (i := 0) (As := [.int v1, .int v2]) (rest := []) C hU (c_X11_land_x hG v1 v2) vm_X11_land ml_L_18 k_49.1 (hc := rfl) rfl (h1_49 hG) hl.1 rfl rfl (Nat.le_of_ble_eq_true rfl) dL_law_222 rfl rfl ⟨Nat.le_of_ble_eq_true rfl, Nat.le_of_ble_eq_true rfl⟩ ⟨by show cells + 0 ≤ 600000; omega, by show slots + 0 ≤ 7302250; omega⟩) hS (fun r1 iv1 rv1 H locs hG f1 g1 hp1 hU hS => ?_)
  refine lv_pop hx hb dL_law_225 rfl ?_
  refine lv_aload_n hx hb dL_law_226 rfl (lv_at hl 1 rfl) ?_
  refine lv_aload_n hx hb dL_law_227 rfl (lv_at hl 3 rfl) ?_
  refine lv_iload_n hx hb dL_law_228 rfl (lv_at hl 0 rfl) ?_
  refine lv_iconst (v := 1) hx hb dL_law_229 (by decide) ?_
  refine q_ai X hS (k := 1) (by decide) hi e1 dL_law_230 dL_law_231 ?_
  refine lv_aload_n hx hb dL_law_232 rfl (lv_at hl 3 rfl) ?_
  refine lv_iload_n hx hb dL_law_233 rfl (lv_at hl 0 rfl) ?_
  refine lv_iconst (v := 2) hx hb dL_law_234 (by decide) ?_
  refine q_ai X hS (k := 2) (by decide) hi e2 dL_law_235 dL_law_236 ?_
  have hGp := hG
  refine W.eq (g2 := F0 m 237 ls [.int v2, .int v1, .ref (al.2 0 0)]) (by rw [hom]) ?_
  refine q_fi (q_runV (t := 0) (i := 0) (As := [.int v1, .int v2]) (rest := []) C hU (c_X12_land_x hG v1 v2) vm_X12_land ml_L_22 k_0.1 (hc := rfl) rfl (h1_0 hG) hl.1 rfl rfl (Nat.le_of_ble_eq_true rfl) dL_law_237 rfl rfl ⟨Nat.le_of_ble_eq_true rfl, Nat.le_of_ble_eq_true rfl⟩ ⟨by show cells + 0 ≤ 600000; omega, by show slots + 0 ≤ 7302250; omega⟩) hS (fun r2 iv2 rv2 H locs hG f2 g2 hp2 hU hS => ?_)
  have hRel := REL.s_land hG0 hRel hp1 hp2 (EX.of f1 g1) f2 g2
  refine lv_pop hx hb dL_law_240 rfl ?_
  refine lv_goto (tgt := 1475) hx hb dL_law_241 (by decide) ?_
  refine W.widen (k := cells + 3) (n := slots + 16) (by omega) (by omega) ?_
  exact kk _ _ _ _ _ ⟨hG, hox, hom, hRel⟩ hU hS
set_option maxHeartbeats 4000000 in
set_option maxRecDepth 100000 in
theorem law_2 {p : Program} {l : Launch} {e : Env} {s : State} {m : MethodId} {below : List Frame} {meth : Method} {c : Code} {b L : Nat} {xs : Nat → Int32} {D : va_G} {cA : FieldType → ClassId} {ls : Array Slot} {Q : State → Prop} {H : Heap} {locs : List Loc} {cells slots : Nat} {i : Int32} {ox om : Nat} {al : Al} {iv : Iv} {rv : Rv} (X : LX p s m c b L xs D cA) (hl : lv_has ls 4 [(3, .int i), (2, .ref om), (1, .ref ox), (0, .ref b)]) (hi : 0 ≤ i.toInt ∧ i.toInt + 6 < L) (hQ : LSt ox om al iv rv) (hU : UW D cA s.heap.size al iv rv H) (hS : va_S (Aq s.heap.size) s.heap H locs) (hc : cells + 3 ≤ 600000 ∧ slots + 16 ≤ 7302250)
    (kk : ∀ (al' : Al) (iv' : Iv) (rv' : Rv) (H' : Heap) (locs' : List Loc), LSt ox om al' iv' rv' → UW D cA s.heap.size al' iv' rv' H' → va_S (Aq s.heap.size) s.heap H' locs' → W p l e room_1 s m #[Value.ref b] below meth c H' locs' (cells + 3) (slots + 16) Q (F0 m 1475 ls [])) : W p l e room_1 s m #[Value.ref b] below meth c H locs cells slots Q (F0 m 244 ls []) := by
  obtain ⟨hG, hox, hom, hRel⟩ := hQ
  have C := X.1
  have hx := C.1.1
  have hb := C.1.2.1
  obtain ⟨v1, e1⟩ : ∃ z, xs (i + 1).toNatClampNeg = z := ⟨_, rfl⟩
  obtain ⟨v2, e2⟩ : ∃ z, xs (i + 2).toNatClampNeg = z := ⟨_, rfl⟩
  obtain ⟨v3, e3⟩ : ∃ z, xs (i + 3).toNatClampNeg = z := ⟨_, rfl⟩
  refine lv_aload_n hx hb dL_law_244 rfl (lv_at hl 2 rfl) ?_
  refine lv_aload_n hx hb dL_law_245 rfl (lv_at hl 3 rfl) ?_
  refine lv_iload_n hx hb dL_law_246 rfl (lv_at hl 0 rfl) ?_
  refine lv_iconst (v := 1) hx hb dL_law_247 (by decide) ?_
  refine q_ai X hS (k := 1) (by decide) hi e1 dL_law_248 dL_law_249 ?_
  refine lv_aload_n hx hb dL_law_250 rfl (lv_at hl 3 rfl) ?_
  refine lv_iload_n hx hb dL_law_251 rfl (lv_at hl 0 rfl) ?_
  refine lv_iconst (v := 2) hx hb dL_law_252 (by decide) ?_
  refine q_ai X hS (k := 2) (by decide) hi e2 dL_law_253 dL_law_254 ?_
  refine lv_aload_n hx hb dL_law_255 rfl (lv_at hl 3 rfl) ?_
  refine lv_iload_n hx hb dL_law_256 rfl (lv_at hl 0 rfl) ?_
  refine lv_iconst (v := 3) hx hb dL_law_257 (by decide) ?_
  refine q_ai X hS (k := 3) (by decide) hi e3 dL_law_258 dL_law_259 ?_
  have hG0 := hG
  have hGp := hG
  refine W.eq (g2 := F0 m 260 ls [.int v3, .int v2, .int v1, .ref (al.2 49 0)]) (by rw [hox]) ?_
  refine q_fi (q_runV (t := 49) (i := 0) (As := [.int v1, .int v2, .int v3]) (rest := []) C hU (c_X11_miles_x hG v1 v2 v3) vm_X11_miles ml_L_23 k_49.1 (hc := rfl) rfl (h1_49 hG) hl.1 rfl rfl (Nat.le_of_ble_eq_true rfl) dL_law_260 rfl rfl ⟨Nat.le_of_ble_eq_true rfl, Nat.le_of_ble_eq_true rfl⟩ ⟨by show cells + 0 ≤ 600000; omega, by show slots + 0 ≤ 7302250; omega⟩) hS (fun r1 iv1 rv1 H locs hG f1 g1 hp1 hU hS => ?_)
  refine lv_pop hx hb dL_law_263 rfl ?_
  refine lv_aload_n hx hb dL_law_264 rfl (lv_at hl 1 rfl) ?_
  refine lv_aload_n hx hb dL_law_265 rfl (lv_at hl 3 rfl) ?_
  refine lv_iload_n hx hb dL_law_266 rfl (lv_at hl 0 rfl) ?_
  refine lv_iconst (v := 1) hx hb dL_law_267 (by decide) ?_
  refine q_ai X hS (k := 1) (by decide) hi e1 dL_law_268 dL_law_269 ?_
  refine lv_aload_n hx hb dL_law_270 rfl (lv_at hl 3 rfl) ?_
  refine lv_iload_n hx hb dL_law_271 rfl (lv_at hl 0 rfl) ?_
  refine lv_iconst (v := 2) hx hb dL_law_272 (by decide) ?_
  refine q_ai X hS (k := 2) (by decide) hi e2 dL_law_273 dL_law_274 ?_
  refine lv_aload_n hx hb dL_law_275 rfl (lv_at hl 3 rfl) ?_
  refine lv_iload_n hx hb dL_law_276 rfl (lv_at hl 0 rfl) ?_
  refine lv_iconst (v := 3) hx hb dL_law_277 (by decide) ?_
  refine q_ai X hS (k := 3) (by decide) hi e3 dL_law_278 dL_law_279 ?_
  have hGp := hG
  refine W.eq (g2 := F0 m 280 ls [.int v3, .int v2, .int v1, .ref (al.2 0 0)]) (by rw [hom]) ?_
  refine q_fi (q_runV (t := 0) (i := 0) (As := [.int v1, .int v2, .int v3]) (rest := []) C hU (c_X12_miles_x hG v1 v2 v3) vm_X12_miles ml_L_27 k_0.1 (hc := rfl) rfl (h1_0 hG) hl.1 rfl rfl (Nat.le_of_ble_eq_true rfl) dL_law_280 rfl rfl ⟨Nat.le_of_ble_eq_true rfl, Nat.le_of_ble_eq_true rfl⟩ ⟨by show cells + 0 ≤ 600000; omega, by show slots + 0 ≤ 7302250; omega⟩) hS (fun r2 iv2 rv2 H locs hG f2 g2 hp2 hU hS => ?_)
  have hRel := REL.s_miles hG0 hRel hp1 hp2 (EX.of f1 g1) f2 g2
  refine lv_pop hx hb dL_law_283 rfl ?_
  refine lv_goto (tgt := 1475) hx hb dL_law_284 (by decide) ?_
  refine W.widen (k := cells + 3) (n := slots + 16) (by omega) (by omega) ?_
  exact kk _ _ _ _ _ ⟨hG, hox, hom, hRel⟩ hU hS
set_option maxHeartbeats 4000000 in
set_option maxRecDepth 100000 in
theorem law_3 {p : Program} {l : Launch} {e : Env} {s : State} {m : MethodId} {below : List Frame} {meth : Method} {c : Code} {b L : Nat} {xs : Nat → Int32} {D : va_G} {cA : FieldType → ClassId} {ls : Array Slot} {Q : State → Prop} {H : Heap} {locs : List Loc} {cells slots : Nat} {i : Int32} {ox om : Nat} {al : Al} {iv : Iv} {rv : Rv} (X : LX p s m c b L xs D cA) (hl : lv_has ls 4 [(3, .int i), (2, .ref om), (1, .ref ox), (0, .ref b)]) (hi : 0 ≤ i.toInt ∧ i.toInt + 6 < L) (hQ : LSt ox om al iv rv) (hU : UW D cA s.heap.size al iv rv H) (hS : va_S (Aq s.heap.size) s.heap H locs) (hc : cells + 3 ≤ 600000 ∧ slots + 16 ≤ 7302250)
    (kk : ∀ (al' : Al) (iv' : Iv) (rv' : Rv) (H' : Heap) (locs' : List Loc), LSt ox om al' iv' rv' → UW D cA s.heap.size al' iv' rv' H' → va_S (Aq s.heap.size) s.heap H' locs' → W p l e room_1 s m #[Value.ref b] below meth c H' locs' (cells + 3) (slots + 16) Q (F0 m 1475 ls [])) : W p l e room_1 s m #[Value.ref b] below meth c H locs cells slots Q (F0 m 287 ls []) := by
  obtain ⟨hG, hox, hom, hRel⟩ := hQ
  have C := X.1
  have hx := C.1.1
  have hb := C.1.2.1
  obtain ⟨v1, e1⟩ : ∃ z, xs (i + 1).toNatClampNeg = z := ⟨_, rfl⟩
  obtain ⟨v2, e2⟩ : ∃ z, xs (i + 2).toNatClampNeg = z := ⟨_, rfl⟩
  obtain ⟨v3, e3⟩ : ∃ z, xs (i + 3).toNatClampNeg = z := ⟨_, rfl⟩
  refine lv_aload_n hx hb dL_law_287 rfl (lv_at hl 2 rfl) ?_
  refine lv_aload_n hx hb dL_law_288 rfl (lv_at hl 3 rfl) ?_
  refine lv_iload_n hx hb dL_law_289 rfl (lv_at hl 0 rfl) ?_
  refine lv_iconst (v := 1) hx hb dL_law_290 (by decide) ?_
  refine q_ai X hS (k := 1) (by decide) hi e1 dL_law_291 dL_law_292 ?_
  refine lv_aload_n hx hb dL_law_293 rfl (lv_at hl 3 rfl) ?_
  refine lv_iload_n hx hb dL_law_294 rfl (lv_at hl 0 rfl) ?_
  refine lv_iconst (v := 2) hx hb dL_law_295 (by decide) ?_
  refine q_ai X hS (k := 2) (by decide) hi e2 dL_law_296 dL_law_297 ?_
  refine lv_aload_n hx hb dL_law_298 rfl (lv_at hl 3 rfl) ?_
  refine lv_iload_n hx hb dL_law_299 rfl (lv_at hl 0 rfl) ?_
  refine lv_iconst (v := 3) hx hb dL_law_300 (by decide) ?_
  refine q_ai X hS (k := 3) (by decide) hi e3 dL_law_301 dL_law_302 ?_
  have hG0 := hG
  have hGp := hG
  refine W.eq (g2 := F0 m 303 ls [.int v3, .int v2, .int v1, .ref (al.2 49 0)]) (by rw [hox]) ?_
  refine q_fi (q_runV (t := 49) (i := 0) (As := [.int v1, .int v2, .int v3]) (rest := []) C hU (c_X11_seen_x hG v1 v2 v3) vm_X11_seen ml_L_28 k_49.1 (hc := rfl) rfl (h1_49 hG) hl.1 rfl rfl (Nat.le_of_ble_eq_true rfl) dL_law_303 rfl rfl ⟨Nat.le_of_ble_eq_true rfl, Nat.le_of_ble_eq_true rfl⟩ ⟨by show cells + 0 ≤ 600000; omega, by show slots + 0 ≤ 7302250; omega⟩) hS (fun r1 iv1 rv1 H locs hG f1 g1 hp1 hU hS => ?_)
  refine lv_pop hx hb dL_law_306 rfl ?_
  refine lv_aload_n hx hb dL_law_307 rfl (lv_at hl 1 rfl) ?_
  refine lv_aload_n hx hb dL_law_308 rfl (lv_at hl 3 rfl) ?_
  refine lv_iload_n hx hb dL_law_309 rfl (lv_at hl 0 rfl) ?_
  refine lv_iconst (v := 1) hx hb dL_law_310 (by decide) ?_
  refine q_ai X hS (k := 1) (by decide) hi e1 dL_law_311 dL_law_312 ?_
  refine lv_aload_n hx hb dL_law_313 rfl (lv_at hl 3 rfl) ?_
  refine lv_iload_n hx hb dL_law_314 rfl (lv_at hl 0 rfl) ?_
  refine lv_iconst (v := 2) hx hb dL_law_315 (by decide) ?_
  refine q_ai X hS (k := 2) (by decide) hi e2 dL_law_316 dL_law_317 ?_
  refine lv_aload_n hx hb dL_law_318 rfl (lv_at hl 3 rfl) ?_
  refine lv_iload_n hx hb dL_law_319 rfl (lv_at hl 0 rfl) ?_
  refine lv_iconst (v := 3) hx hb dL_law_320 (by decide) ?_
  refine q_ai X hS (k := 3) (by decide) hi e3 dL_law_321 dL_law_322 ?_
  have hGp := hG
  refine W.eq (g2 := F0 m 323 ls [.int v3, .int v2, .int v1, .ref (al.2 0 0)]) (by rw [hom]) ?_
  refine q_fi (q_runV (t := 0) (i := 0) (As := [.int v1, .int v2, .int v3]) (rest := []) C hU (c_X12_seen_x hG v1 v2 v3) vm_X12_seen ml_L_31 k_0.1 (hc := rfl) rfl (h1_0 hG) hl.1 rfl rfl (Nat.le_of_ble_eq_true rfl) dL_law_323 rfl rfl ⟨Nat.le_of_ble_eq_true rfl, Nat.le_of_ble_eq_true rfl⟩ ⟨by show cells + 0 ≤ 600000; omega, by show slots + 0 ≤ 7302250; omega⟩) hS (fun r2 iv2 rv2 H locs hG f2 g2 hp2 hU hS => ?_)
  have hRel := REL.s_seen hG0 hRel hp1 hp2 (EX.of f1 g1) f2 g2
  refine lv_pop hx hb dL_law_326 rfl ?_
  refine lv_goto (tgt := 1475) hx hb dL_law_327 (by decide) ?_
  refine W.widen (k := cells + 3) (n := slots + 16) (by omega) (by omega) ?_
  exact kk _ _ _ _ _ ⟨hG, hox, hom, hRel⟩ hU hS
set_option maxHeartbeats 4000000 in
set_option maxRecDepth 100000 in
theorem law_4 {p : Program} {l : Launch} {e : Env} {s : State} {m : MethodId} {below : List Frame} {meth : Method} {c : Code} {b L : Nat} {xs : Nat → Int32} {D : va_G} {cA : FieldType → ClassId} {ls : Array Slot} {Q : State → Prop} {H : Heap} {locs : List Loc} {cells slots : Nat} {i : Int32} {ox om : Nat} {al : Al} {iv : Iv} {rv : Rv} (X : LX p s m c b L xs D cA) (hl : lv_has ls 4 [(3, .int i), (2, .ref om), (1, .ref ox), (0, .ref b)]) (hi : 0 ≤ i.toInt ∧ i.toInt + 6 < L) (hQ : LSt ox om al iv rv) (hU : UW D cA s.heap.size al iv rv H) (hS : va_S (Aq s.heap.size) s.heap H locs) (hc : cells + 3 ≤ 600000 ∧ slots + 16 ≤ 7302250)
    (kk : ∀ (al' : Al) (iv' : Iv) (rv' : Rv) (H' : Heap) (locs' : List Loc), LSt ox om al' iv' rv' → UW D cA s.heap.size al' iv' rv' H' → va_S (Aq s.heap.size) s.heap H' locs' → W p l e room_1 s m #[Value.ref b] below meth c H' locs' (cells + 3) (slots + 16) Q (F0 m 1475 ls [])) : W p l e room_1 s m #[Value.ref b] below meth c H locs cells slots Q (F0 m 330 ls []) := by
  obtain ⟨hG, hox, hom, hRel⟩ := hQ
  have C := X.1
  have hx := C.1.1
  have hb := C.1.2.1
  obtain ⟨v1, e1⟩ : ∃ z, xs (i + 1).toNatClampNeg = z := ⟨_, rfl⟩
  refine lv_aload_n hx hb dL_law_330 rfl (lv_at hl 2 rfl) ?_
  refine lv_aload_n hx hb dL_law_331 rfl (lv_at hl 3 rfl) ?_
  refine lv_iload_n hx hb dL_law_332 rfl (lv_at hl 0 rfl) ?_
  refine lv_iconst (v := 1) hx hb dL_law_333 (by decide) ?_
  refine q_ai X hS (k := 1) (by decide) hi e1 dL_law_334 dL_law_335 ?_
  have hG0 := hG
  have hGp := hG
  refine W.eq (g2 := F0 m 336 ls [.int v1, .ref (al.2 49 0)]) (by rw [hox]) ?_
  refine q_fi (q_runV (t := 49) (i := 0) (As := [.int v1]) (rest := []) C hU (c_X11_off hG v1) vm_X11_off ml_L_32 k_49.1 (hc := rfl) rfl (h1_49 hG) hl.1 rfl rfl (Nat.le_of_ble_eq_true rfl) dL_law_336 rfl rfl ⟨Nat.le_of_ble_eq_true rfl, Nat.le_of_ble_eq_true rfl⟩ ⟨by show cells + 0 ≤ 600000; omega, by show slots + 0 ≤ 7302250; omega⟩) hS (fun r1 iv1 rv1 H locs hG f1 g1 hp1 hU hS => ?_)
  have hRel := hRel.fr hGp f1 g1 (by decide)
  refine lv_pop hx hb dL_law_339 rfl ?_
  refine lv_aload_n hx hb dL_law_340 rfl (lv_at hl 1 rfl) ?_
  refine lv_aload_n hx hb dL_law_341 rfl (lv_at hl 3 rfl) ?_
  refine lv_iload_n hx hb dL_law_342 rfl (lv_at hl 0 rfl) ?_
  refine lv_iconst (v := 1) hx hb dL_law_343 (by decide) ?_
  refine q_ai X hS (k := 1) (by decide) hi e1 dL_law_344 dL_law_345 ?_
  have hGp := hG
  refine W.eq (g2 := F0 m 346 ls [.int v1, .ref (al.2 0 0)]) (by rw [hom]) ?_
  refine q_fi (q_runV (t := 0) (i := 0) (As := [.int v1]) (rest := []) C hU (c_X12_off hG v1) vm_X12_off ml_L_35 k_0.1 (hc := rfl) rfl (h1_0 hG) hl.1 rfl rfl (Nat.le_of_ble_eq_true rfl) dL_law_346 rfl rfl ⟨Nat.le_of_ble_eq_true rfl, Nat.le_of_ble_eq_true rfl⟩ ⟨by show cells + 0 ≤ 600000; omega, by show slots + 0 ≤ 7302250; omega⟩) hS (fun r2 iv2 rv2 H locs hG f2 g2 hp2 hU hS => ?_)
  have hRel := hRel.fr hGp f2 g2 (by decide)
  refine lv_pop hx hb dL_law_349 rfl ?_
  refine lv_goto (tgt := 1475) hx hb dL_law_350 (by decide) ?_
  refine W.widen (k := cells + 3) (n := slots + 16) (by omega) (by omega) ?_
  exact kk _ _ _ _ _ ⟨hG, hox, hom, hRel⟩ hU hS
set_option maxHeartbeats 4000000 in
set_option maxRecDepth 100000 in
theorem law_5 {p : Program} {l : Launch} {e : Env} {s : State} {m : MethodId} {below : List Frame} {meth : Method} {c : Code} {b L : Nat} {xs : Nat → Int32} {D : va_G} {cA : FieldType → ClassId} {ls : Array Slot} {Q : State → Prop} {H : Heap} {locs : List Loc} {cells slots : Nat} {i : Int32} {ox om : Nat} {al : Al} {iv : Iv} {rv : Rv} (X : LX p s m c b L xs D cA) (hl : lv_has ls 4 [(3, .int i), (2, .ref om), (1, .ref ox), (0, .ref b)]) (hi : 0 ≤ i.toInt ∧ i.toInt + 6 < L) (hQ : LSt ox om al iv rv) (hU : UW D cA s.heap.size al iv rv H) (hS : va_S (Aq s.heap.size) s.heap H locs) (hc : cells + 3 ≤ 600000 ∧ slots + 16 ≤ 7302250)
    (kk : ∀ (al' : Al) (iv' : Iv) (rv' : Rv) (H' : Heap) (locs' : List Loc), LSt ox om al' iv' rv' → UW D cA s.heap.size al' iv' rv' H' → va_S (Aq s.heap.size) s.heap H' locs' → W p l e room_1 s m #[Value.ref b] below meth c H' locs' (cells + 3) (slots + 16) Q (F0 m 1475 ls [])) : W p l e room_1 s m #[Value.ref b] below meth c H locs cells slots Q (F0 m 353 ls []) := by
  obtain ⟨hG, hox, hom, hRel⟩ := hQ
  have C := X.1
  have hx := C.1.1
  have hb := C.1.2.1
  obtain ⟨v1, e1⟩ : ∃ z, xs (i + 1).toNatClampNeg = z := ⟨_, rfl⟩
  obtain ⟨v2, e2⟩ : ∃ z, xs (i + 2).toNatClampNeg = z := ⟨_, rfl⟩
  obtain ⟨v3, e3⟩ : ∃ z, xs (i + 3).toNatClampNeg = z := ⟨_, rfl⟩
  obtain ⟨v4, e4⟩ : ∃ z, xs (i + 4).toNatClampNeg = z := ⟨_, rfl⟩
  obtain ⟨v5, e5⟩ : ∃ z, xs (i + 5).toNatClampNeg = z := ⟨_, rfl⟩
  obtain ⟨v6, e6⟩ : ∃ z, xs (i + 6).toNatClampNeg = z := ⟨_, rfl⟩
  refine lv_aload_n hx hb dL_law_353 rfl (lv_at hl 2 rfl) ?_
  refine lv_aload_n hx hb dL_law_354 rfl (lv_at hl 3 rfl) ?_
  refine lv_iload_n hx hb dL_law_355 rfl (lv_at hl 0 rfl) ?_
  refine lv_iconst (v := 1) hx hb dL_law_356 (by decide) ?_
  refine q_ai X hS (k := 1) (by decide) hi e1 dL_law_357 dL_law_358 ?_
  refine lv_aload_n hx hb dL_law_359 rfl (lv_at hl 3 rfl) ?_
  refine lv_iload_n hx hb dL_law_360 rfl (lv_at hl 0 rfl) ?_
  refine lv_iconst (v := 2) hx hb dL_law_361 (by decide) ?_
  refine q_ai X hS (k := 2) (by decide) hi e2 dL_law_362 dL_law_363 ?_
  refine lv_aload_n hx hb dL_law_364 rfl (lv_at hl 3 rfl) ?_
  refine lv_iload_n hx hb dL_law_365 rfl (lv_at hl 0 rfl) ?_
  refine lv_iconst (v := 3) hx hb dL_law_366 (by decide) ?_
  refine q_ai X hS (k := 3) (by decide) hi e3 dL_law_367 dL_law_368 ?_
  refine lv_aload_n hx hb dL_law_369 rfl (lv_at hl 3 rfl) ?_
  refine lv_iload_n hx hb dL_law_370 rfl (lv_at hl 0 rfl) ?_
  refine lv_iconst (v := 4) hx hb dL_law_371 (by decide) ?_
  refine q_ai X hS (k := 4) (by decide) hi e4 dL_law_372 dL_law_373 ?_
  refine lv_aload_n hx hb dL_law_374 rfl (lv_at hl 3 rfl) ?_
  refine lv_iload_n hx hb dL_law_375 rfl (lv_at hl 0 rfl) ?_
  refine lv_iconst (v := 5) hx hb dL_law_376 (by decide) ?_
  refine q_ai X hS (k := 5) (by decide) hi e5 dL_law_377 dL_law_378 ?_
  refine lv_aload_n hx hb dL_law_379 rfl (lv_at hl 3 rfl) ?_
  refine lv_iload_n hx hb dL_law_380 rfl (lv_at hl 0 rfl) ?_
  refine lv_bipush (v := 6) hx hb dL_law_381 (by decide) ?_
  refine q_ai X hS (k := 6) (by decide) hi e6 dL_law_383 dL_law_384 ?_
  have hG0 := hG
  have hGp := hG
  refine W.eq (g2 := F0 m 385 ls [.int v6, .int v5, .int v4, .int v3, .int v2, .int v1, .ref (al.2 49 0)]) (by rw [hox]) ?_
  refine q_ciA (q_runVA (t := 49) (i := 0) (As := [.int v1, .int v2, .int v3, .int v4, .int v5, .int v6]) (rest := []) C hU hS.1 (c_X11_leg_y hG v1 v2 v3 v4 v5 v6) vm_X11_leg ml_L_36 k_49.1 (hc := rfl) rfl (h1_49 hG) hl.1 rfl rfl (Nat.le_of_ble_eq_true rfl) dL_law_385 rfl rfl ⟨Nat.le_of_ble_eq_true rfl, Nat.le_of_ble_eq_true rfl⟩ ⟨by show cells + 1 ≤ 600000; omega, by show slots + 15 ≤ 7302250; omega⟩) hS hS.1 (fun r1 al1 iv1 rv1 H locs hp1 hU hS _ => ?_)
  obtain ⟨hG1, hE1, hp1⟩ := hp1
  have hox := (hE1.2.1 49 0 (h1_49 hG)).trans hox
  have hom := (hE1.2.1 0 0 (h1_0 hG)).trans hom
  have hG := hG1
  refine W.widen (k := cells + 3) (n := slots + 16) (by omega) (by omega) ?_
  refine lv_pop hx hb dL_law_388 rfl ?_
  refine lv_aload_n hx hb dL_law_389 rfl (lv_at hl 1 rfl) ?_
  refine lv_aload_n hx hb dL_law_390 rfl (lv_at hl 3 rfl) ?_
  refine lv_iload_n hx hb dL_law_391 rfl (lv_at hl 0 rfl) ?_
  refine lv_iconst (v := 1) hx hb dL_law_392 (by decide) ?_
  refine q_ai X hS (k := 1) (by decide) hi e1 dL_law_393 dL_law_394 ?_
  refine lv_aload_n hx hb dL_law_395 rfl (lv_at hl 3 rfl) ?_
  refine lv_iload_n hx hb dL_law_396 rfl (lv_at hl 0 rfl) ?_
  refine lv_iconst (v := 2) hx hb dL_law_397 (by decide) ?_
  refine q_ai X hS (k := 2) (by decide) hi e2 dL_law_398 dL_law_399 ?_
  refine lv_aload_n hx hb dL_law_400 rfl (lv_at hl 3 rfl) ?_
  refine lv_iload_n hx hb dL_law_401 rfl (lv_at hl 0 rfl) ?_
  refine lv_iconst (v := 3) hx hb dL_law_402 (by decide) ?_
  refine q_ai X hS (k := 3) (by decide) hi e3 dL_law_403 dL_law_404 ?_
  refine lv_aload_n hx hb dL_law_405 rfl (lv_at hl 3 rfl) ?_
  refine lv_iload_n hx hb dL_law_406 rfl (lv_at hl 0 rfl) ?_
  refine lv_iconst (v := 4) hx hb dL_law_407 (by decide) ?_
  refine q_ai X hS (k := 4) (by decide) hi e4 dL_law_408 dL_law_409 ?_
  refine lv_aload_n hx hb dL_law_410 rfl (lv_at hl 3 rfl) ?_
  refine lv_iload_n hx hb dL_law_411 rfl (lv_at hl 0 rfl) ?_
  refine lv_iconst (v := 5) hx hb dL_law_412 (by decide) ?_
  refine q_ai X hS (k := 5) (by decide) hi e5 dL_law_413 dL_law_414 ?_
  refine lv_aload_n hx hb dL_law_415 rfl (lv_at hl 3 rfl) ?_
  refine lv_iload_n hx hb dL_law_416 rfl (lv_at hl 0 rfl) ?_
  refine lv_bipush (v := 6) hx hb dL_law_417 (by decide) ?_
  refine q_ai X hS (k := 6) (by decide) hi e6 dL_law_419 dL_law_420 ?_
  have hGp := hG
  refine W.eq (g2 := F0 m 421 ls [.int v6, .int v5, .int v4, .int v3, .int v2, .int v1, .ref (al1.2 0 0)]) (by rw [hom]) ?_
  refine q_fi (q_runV (t := 0) (i := 0) (As := [.int v1, .int v2, .int v3, .int v4, .int v5, .int v6]) (rest := []) C hU (c_X12_leg_y hG v1 v2 v3 v4 v5 v6) vm_X12_leg ml_L_40 k_0.1 (hc := rfl) rfl (h1_0 hG) hl.1 rfl rfl (Nat.le_of_ble_eq_true rfl) dL_law_421 rfl rfl ⟨Nat.le_of_ble_eq_true rfl, Nat.le_of_ble_eq_true rfl⟩ ⟨by show (cells + 3) + 0 ≤ 600000; omega, by show (slots + 16) + 0 ≤ 7302250; omega⟩) hS (fun r2 iv2 rv2 H locs hG f2 g2 hp2 hU hS => ?_)
  have hRel := REL.s_leg hG0 hRel hp1 hp2 hE1 f2 g2
  refine lv_pop hx hb dL_law_424 rfl ?_
  refine lv_goto (tgt := 1475) hx hb dL_law_425 (by decide) ?_
  exact kk _ _ _ _ _ ⟨hG, hox, hom, hRel⟩ hU hS
set_option maxHeartbeats 4000000 in
set_option maxRecDepth 100000 in
theorem law_6 {p : Program} {l : Launch} {e : Env} {s : State} {m : MethodId} {below : List Frame} {meth : Method} {c : Code} {b L : Nat} {xs : Nat → Int32} {D : va_G} {cA : FieldType → ClassId} {ls : Array Slot} {Q : State → Prop} {H : Heap} {locs : List Loc} {cells slots : Nat} {i : Int32} {ox om : Nat} {al : Al} {iv : Iv} {rv : Rv} (X : LX p s m c b L xs D cA) (hl : lv_has ls 4 [(3, .int i), (2, .ref om), (1, .ref ox), (0, .ref b)]) (hi : 0 ≤ i.toInt ∧ i.toInt + 6 < L) (hQ : LSt ox om al iv rv) (hU : UW D cA s.heap.size al iv rv H) (hS : va_S (Aq s.heap.size) s.heap H locs) (hc : cells + 3 ≤ 600000 ∧ slots + 16 ≤ 7302250)
    (kk : ∀ (al' : Al) (iv' : Iv) (rv' : Rv) (H' : Heap) (locs' : List Loc), LSt ox om al' iv' rv' → UW D cA s.heap.size al' iv' rv' H' → va_S (Aq s.heap.size) s.heap H' locs' → W p l e room_1 s m #[Value.ref b] below meth c H' locs' (cells + 3) (slots + 16) Q (F0 m 1475 ls [])) : W p l e room_1 s m #[Value.ref b] below meth c H locs cells slots Q (F0 m 428 ls []) := by
  obtain ⟨hG, hox, hom, hRel⟩ := hQ
  have C := X.1
  have hx := C.1.1
  have hb := C.1.2.1
  obtain ⟨v1, e1⟩ : ∃ z, xs (i + 1).toNatClampNeg = z := ⟨_, rfl⟩
  obtain ⟨v2, e2⟩ : ∃ z, xs (i + 2).toNatClampNeg = z := ⟨_, rfl⟩
  obtain ⟨v3, e3⟩ : ∃ z, xs (i + 3).toNatClampNeg = z := ⟨_, rfl⟩
  refine lv_aload_n hx hb dL_law_428 rfl (lv_at hl 2 rfl) ?_
  refine lv_aload_n hx hb dL_law_429 rfl (lv_at hl 3 rfl) ?_
  refine lv_iload_n hx hb dL_law_430 rfl (lv_at hl 0 rfl) ?_
  refine lv_iconst (v := 1) hx hb dL_law_431 (by decide) ?_
  refine q_ai X hS (k := 1) (by decide) hi e1 dL_law_432 dL_law_433 ?_
  refine lv_aload_n hx hb dL_law_434 rfl (lv_at hl 3 rfl) ?_
  refine lv_iload_n hx hb dL_law_435 rfl (lv_at hl 0 rfl) ?_
  refine lv_iconst (v := 2) hx hb dL_law_436 (by decide) ?_
  refine q_ai X hS (k := 2) (by decide) hi e2 dL_law_437 dL_law_438 ?_
  refine lv_aload_n hx hb dL_law_439 rfl (lv_at hl 3 rfl) ?_
  refine lv_iload_n hx hb dL_law_440 rfl (lv_at hl 0 rfl) ?_
  refine lv_iconst (v := 3) hx hb dL_law_441 (by decide) ?_
  refine q_ai X hS (k := 3) (by decide) hi e3 dL_law_442 dL_law_443 ?_
  have hG0 := hG
  have hGp := hG
  refine W.eq (g2 := F0 m 444 ls [.int v3, .int v2, .int v1, .ref (al.2 49 0)]) (by rw [hox]) ?_
  refine q_fi (q_runV (t := 49) (i := 0) (As := [.int v1, .int v2, .int v3]) (rest := []) C hU (c_X11_log_y hG v1 v2 v3) vm_X11_log ml_L_41 k_49.1 (hc := rfl) rfl (h1_49 hG) hl.1 rfl rfl (Nat.le_of_ble_eq_true rfl) dL_law_444 rfl rfl ⟨Nat.le_of_ble_eq_true rfl, Nat.le_of_ble_eq_true rfl⟩ ⟨by show cells + 0 ≤ 600000; omega, by show slots + 0 ≤ 7302250; omega⟩) hS (fun r1 iv1 rv1 H locs hG f1 g1 hp1 hU hS => ?_)
  refine lv_pop hx hb dL_law_447 rfl ?_
  refine lv_aload_n hx hb dL_law_448 rfl (lv_at hl 1 rfl) ?_
  refine lv_aload_n hx hb dL_law_449 rfl (lv_at hl 3 rfl) ?_
  refine lv_iload_n hx hb dL_law_450 rfl (lv_at hl 0 rfl) ?_
  refine lv_iconst (v := 1) hx hb dL_law_451 (by decide) ?_
  refine q_ai X hS (k := 1) (by decide) hi e1 dL_law_452 dL_law_453 ?_
  refine lv_aload_n hx hb dL_law_454 rfl (lv_at hl 3 rfl) ?_
  refine lv_iload_n hx hb dL_law_455 rfl (lv_at hl 0 rfl) ?_
  refine lv_iconst (v := 2) hx hb dL_law_456 (by decide) ?_
  refine q_ai X hS (k := 2) (by decide) hi e2 dL_law_457 dL_law_458 ?_
  refine lv_aload_n hx hb dL_law_459 rfl (lv_at hl 3 rfl) ?_
  refine lv_iload_n hx hb dL_law_460 rfl (lv_at hl 0 rfl) ?_
  refine lv_iconst (v := 3) hx hb dL_law_461 (by decide) ?_
  refine q_ai X hS (k := 3) (by decide) hi e3 dL_law_462 dL_law_463 ?_
  have hGp := hG
  refine W.eq (g2 := F0 m 464 ls [.int v3, .int v2, .int v1, .ref (al.2 0 0)]) (by rw [hom]) ?_
  refine q_fi (q_runV (t := 0) (i := 0) (As := [.int v1, .int v2, .int v3]) (rest := []) C hU (c_X12_log_y hG v1 v2 v3) vm_X12_log ml_L_44 k_0.1 (hc := rfl) rfl (h1_0 hG) hl.1 rfl rfl (Nat.le_of_ble_eq_true rfl) dL_law_464 rfl rfl ⟨Nat.le_of_ble_eq_true rfl, Nat.le_of_ble_eq_true rfl⟩ ⟨by show cells + 0 ≤ 600000; omega, by show slots + 0 ≤ 7302250; omega⟩) hS (fun r2 iv2 rv2 H locs hG f2 g2 hp2 hU hS => ?_)
  have hRel := REL.s_log hG0 hRel hp1 hp2 (EX.of f1 g1) f2 g2
  refine lv_pop hx hb dL_law_467 rfl ?_
  refine lv_goto (tgt := 1475) hx hb dL_law_468 (by decide) ?_
  refine W.widen (k := cells + 3) (n := slots + 16) (by omega) (by omega) ?_
  exact kk _ _ _ _ _ ⟨hG, hox, hom, hRel⟩ hU hS
set_option maxHeartbeats 4000000 in
set_option maxRecDepth 100000 in
theorem law_7 {p : Program} {l : Launch} {e : Env} {s : State} {m : MethodId} {below : List Frame} {meth : Method} {c : Code} {b L : Nat} {xs : Nat → Int32} {D : va_G} {cA : FieldType → ClassId} {ls : Array Slot} {Q : State → Prop} {H : Heap} {locs : List Loc} {cells slots : Nat} {i : Int32} {ox om : Nat} {al : Al} {iv : Iv} {rv : Rv} (X : LX p s m c b L xs D cA) (hl : lv_has ls 4 [(3, .int i), (2, .ref om), (1, .ref ox), (0, .ref b)]) (hi : 0 ≤ i.toInt ∧ i.toInt + 6 < L) (hQ : LSt ox om al iv rv) (hU : UW D cA s.heap.size al iv rv H) (hS : va_S (Aq s.heap.size) s.heap H locs) (hc : cells + 3 ≤ 600000 ∧ slots + 16 ≤ 7302250)
    (kk : ∀ (al' : Al) (iv' : Iv) (rv' : Rv) (H' : Heap) (locs' : List Loc), LSt ox om al' iv' rv' → UW D cA s.heap.size al' iv' rv' H' → va_S (Aq s.heap.size) s.heap H' locs' → W p l e room_1 s m #[Value.ref b] below meth c H' locs' (cells + 3) (slots + 16) Q (F0 m 1475 ls [])) : W p l e room_1 s m #[Value.ref b] below meth c H locs cells slots Q (F0 m 471 ls []) := by
  obtain ⟨hG, hox, hom, hRel⟩ := hQ
  have C := X.1
  have hx := C.1.1
  have hb := C.1.2.1
  obtain ⟨v1, e1⟩ : ∃ z, xs (i + 1).toNatClampNeg = z := ⟨_, rfl⟩
  obtain ⟨v2, e2⟩ : ∃ z, xs (i + 2).toNatClampNeg = z := ⟨_, rfl⟩
  refine lv_aload_n hx hb dL_law_471 rfl (lv_at hl 2 rfl) ?_
  refine lv_aload_n hx hb dL_law_472 rfl (lv_at hl 3 rfl) ?_
  refine lv_iload_n hx hb dL_law_473 rfl (lv_at hl 0 rfl) ?_
  refine lv_iconst (v := 1) hx hb dL_law_474 (by decide) ?_
  refine q_ai X hS (k := 1) (by decide) hi e1 dL_law_475 dL_law_476 ?_
  refine lv_aload_n hx hb dL_law_477 rfl (lv_at hl 3 rfl) ?_
  refine lv_iload_n hx hb dL_law_478 rfl (lv_at hl 0 rfl) ?_
  refine lv_iconst (v := 2) hx hb dL_law_479 (by decide) ?_
  refine q_ai X hS (k := 2) (by decide) hi e2 dL_law_480 dL_law_481 ?_
  have hG0 := hG
  have hGp := hG
  refine W.eq (g2 := F0 m 482 ls [.int v2, .int v1, .ref (al.2 49 0)]) (by rw [hox]) ?_
  refine q_fi (q_runV (t := 49) (i := 0) (As := [.int v1, .int v2]) (rest := []) C hU (c_X11_cause_x hG v1 v2) vm_X11_cause ml_L_45 k_49.1 (hc := rfl) rfl (h1_49 hG) hl.1 rfl rfl (Nat.le_of_ble_eq_true rfl) dL_law_482 rfl rfl ⟨Nat.le_of_ble_eq_true rfl, Nat.le_of_ble_eq_true rfl⟩ ⟨by show cells + 0 ≤ 600000; omega, by show slots + 0 ≤ 7302250; omega⟩) hS (fun r1 iv1 rv1 H locs hG f1 g1 hp1 hU hS => ?_)
  refine lv_pop hx hb dL_law_485 rfl ?_
  refine lv_aload_n hx hb dL_law_486 rfl (lv_at hl 1 rfl) ?_
  refine lv_aload_n hx hb dL_law_487 rfl (lv_at hl 3 rfl) ?_
  refine lv_iload_n hx hb dL_law_488 rfl (lv_at hl 0 rfl) ?_
  refine lv_iconst (v := 1) hx hb dL_law_489 (by decide) ?_
  refine q_ai X hS (k := 1) (by decide) hi e1 dL_law_490 dL_law_491 ?_
  refine lv_aload_n hx hb dL_law_492 rfl (lv_at hl 3 rfl) ?_
  refine lv_iload_n hx hb dL_law_493 rfl (lv_at hl 0 rfl) ?_
  refine lv_iconst (v := 2) hx hb dL_law_494 (by decide) ?_
  refine q_ai X hS (k := 2) (by decide) hi e2 dL_law_495 dL_law_496 ?_
  have hGp := hG
  refine W.eq (g2 := F0 m 497 ls [.int v2, .int v1, .ref (al.2 0 0)]) (by rw [hom]) ?_
  refine q_fi (q_runV (t := 0) (i := 0) (As := [.int v1, .int v2]) (rest := []) C hU (c_X12_cause_x hG v1 v2) vm_X12_cause ml_L_48 k_0.1 (hc := rfl) rfl (h1_0 hG) hl.1 rfl rfl (Nat.le_of_ble_eq_true rfl) dL_law_497 rfl rfl ⟨Nat.le_of_ble_eq_true rfl, Nat.le_of_ble_eq_true rfl⟩ ⟨by show cells + 0 ≤ 600000; omega, by show slots + 0 ≤ 7302250; omega⟩) hS (fun r2 iv2 rv2 H locs hG f2 g2 hp2 hU hS => ?_)
  have hRel := REL.s_cause hG0 hRel hp1 hp2 (EX.of f1 g1) f2 g2
  refine lv_pop hx hb dL_law_500 rfl ?_
  refine lv_goto (tgt := 1475) hx hb dL_law_501 (by decide) ?_
  refine W.widen (k := cells + 3) (n := slots + 16) (by omega) (by omega) ?_
  exact kk _ _ _ _ _ ⟨hG, hox, hom, hRel⟩ hU hS
set_option maxHeartbeats 4000000 in
set_option maxRecDepth 100000 in
theorem law_8 {p : Program} {l : Launch} {e : Env} {s : State} {m : MethodId} {below : List Frame} {meth : Method} {c : Code} {b L : Nat} {xs : Nat → Int32} {D : va_G} {cA : FieldType → ClassId} {ls : Array Slot} {Q : State → Prop} {H : Heap} {locs : List Loc} {cells slots : Nat} {i : Int32} {ox om : Nat} {al : Al} {iv : Iv} {rv : Rv} (X : LX p s m c b L xs D cA) (hl : lv_has ls 4 [(3, .int i), (2, .ref om), (1, .ref ox), (0, .ref b)]) (hi : 0 ≤ i.toInt ∧ i.toInt + 6 < L) (hQ : LSt ox om al iv rv) (hU : UW D cA s.heap.size al iv rv H) (hS : va_S (Aq s.heap.size) s.heap H locs) (hc : cells + 3 ≤ 600000 ∧ slots + 16 ≤ 7302250)
    (kk : ∀ (al' : Al) (iv' : Iv) (rv' : Rv) (H' : Heap) (locs' : List Loc), LSt ox om al' iv' rv' → UW D cA s.heap.size al' iv' rv' H' → va_S (Aq s.heap.size) s.heap H' locs' → W p l e room_1 s m #[Value.ref b] below meth c H' locs' (cells + 3) (slots + 16) Q (F0 m 1475 ls [])) : W p l e room_1 s m #[Value.ref b] below meth c H locs cells slots Q (F0 m 504 ls []) := by
  obtain ⟨hG, hox, hom, hRel⟩ := hQ
  have C := X.1
  have hx := C.1.1
  have hb := C.1.2.1
  obtain ⟨v1, e1⟩ : ∃ z, xs (i + 1).toNatClampNeg = z := ⟨_, rfl⟩
  obtain ⟨v2, e2⟩ : ∃ z, xs (i + 2).toNatClampNeg = z := ⟨_, rfl⟩
  refine lv_aload_n hx hb dL_law_504 rfl (lv_at hl 2 rfl) ?_
  refine lv_aload_n hx hb dL_law_505 rfl (lv_at hl 3 rfl) ?_
  refine lv_iload_n hx hb dL_law_506 rfl (lv_at hl 0 rfl) ?_
  refine lv_iconst (v := 1) hx hb dL_law_507 (by decide) ?_
  refine q_ai X hS (k := 1) (by decide) hi e1 dL_law_508 dL_law_509 ?_
  refine lv_aload_n hx hb dL_law_510 rfl (lv_at hl 3 rfl) ?_
  refine lv_iload_n hx hb dL_law_511 rfl (lv_at hl 0 rfl) ?_
  refine lv_iconst (v := 2) hx hb dL_law_512 (by decide) ?_
  refine q_ai X hS (k := 2) (by decide) hi e2 dL_law_513 dL_law_514 ?_
  have hG0 := hG
  have hGp := hG
  refine W.eq (g2 := F0 m 515 ls [.int v2, .int v1, .ref (al.2 49 0)]) (by rw [hox]) ?_
  refine q_fi (q_runVX (t := 49) (i := 0) (As := [.int v1, .int v2]) (rest := []) C hU hS.1 (fun U hH hW => X.2.2.2.1.to hS hH hW) SX.calling (c_X11_set_x hG v1 v2) vm_X11_set ml_L_49 k_49.1 (hc := rfl) rfl (h1_49 hG) hl.1 rfl rfl (Nat.le_of_ble_eq_true rfl) dL_law_515 rfl rfl ⟨Nat.le_of_ble_eq_true rfl, Nat.le_of_ble_eq_true rfl⟩ ⟨by show cells + 0 ≤ 600000; omega, by show slots + 0 ≤ 7302250; omega⟩) hS (fun r1 iv1 rv1 H locs hG f1 g1 hp1 hU hS => ?_)
  refine lv_pop hx hb dL_law_518 rfl ?_
  refine lv_aload_n hx hb dL_law_519 rfl (lv_at hl 1 rfl) ?_
  refine lv_aload_n hx hb dL_law_520 rfl (lv_at hl 3 rfl) ?_
  refine lv_iload_n hx hb dL_law_521 rfl (lv_at hl 0 rfl) ?_
  refine lv_iconst (v := 1) hx hb dL_law_522 (by decide) ?_
  refine q_ai X hS (k := 1) (by decide) hi e1 dL_law_523 dL_law_524 ?_
  refine lv_aload_n hx hb dL_law_525 rfl (lv_at hl 3 rfl) ?_
  refine lv_iload_n hx hb dL_law_526 rfl (lv_at hl 0 rfl) ?_
  refine lv_iconst (v := 2) hx hb dL_law_527 (by decide) ?_
  refine q_ai X hS (k := 2) (by decide) hi e2 dL_law_528 dL_law_529 ?_
  have hGp := hG
  refine W.eq (g2 := F0 m 530 ls [.int v2, .int v1, .ref (al.2 0 0)]) (by rw [hom]) ?_
  refine q_fi (q_runV (t := 0) (i := 0) (As := [.int v1, .int v2]) (rest := []) C hU (c_X12_set_x hG v1 v2) vm_X12_set ml_L_52 k_0.1 (hc := rfl) rfl (h1_0 hG) hl.1 rfl rfl (Nat.le_of_ble_eq_true rfl) dL_law_530 rfl rfl ⟨Nat.le_of_ble_eq_true rfl, Nat.le_of_ble_eq_true rfl⟩ ⟨by show cells + 0 ≤ 600000; omega, by show slots + 0 ≤ 7302250; omega⟩) hS (fun r2 iv2 rv2 H locs hG f2 g2 hp2 hU hS => ?_)
  have hRel := REL.s_set hG0 hRel hp1 hp2 (EX.of f1 g1) f2 g2
  refine lv_pop hx hb dL_law_533 rfl ?_
  refine lv_goto (tgt := 1475) hx hb dL_law_534 (by decide) ?_
  refine W.widen (k := cells + 3) (n := slots + 16) (by omega) (by omega) ?_
  exact kk _ _ _ _ _ ⟨hG, hox, hom, hRel⟩ hU hS
end
section
set_option maxHeartbeats 4000000 in
set_option maxRecDepth 100000 in
theorem law_9 {p : Program} {l : Launch} {e : Env} {s : State} {m : MethodId} {below : List Frame} {meth : Method} {c : Code} {b L : Nat} {xs : Nat → Int32} {D : va_G} {cA : FieldType → ClassId} {ls : Array Slot} {Q : State → Prop} {H : Heap} {locs : List Loc} {cells slots : Nat} {i : Int32} {ox om : Nat} {al : Al} {iv : Iv} {rv : Rv} (X : LX p s m c b L xs D cA) (hl : lv_has ls 4 [(3, .int i), (2, .ref om), (1, .ref ox), (0, .ref b)]) (hi : 0 ≤ i.toInt ∧ i.toInt + 6 < L) (hQ : LSt ox om al iv rv) (hU : UW D cA s.heap.size al iv rv H) (hS : va_S (Aq s.heap.size) s.heap H locs) (hc : cells + 3 ≤ 600000 ∧ slots + 16 ≤ 7302250)
    (kk : ∀ (al' : Al) (iv' : Iv) (rv' : Rv) (H' : Heap) (locs' : List Loc), LSt ox om al' iv' rv' → UW D cA s.heap.size al' iv' rv' H' → va_S (Aq s.heap.size) s.heap H' locs' → W p l e room_1 s m #[Value.ref b] below meth c H' locs' (cells + 3) (slots + 16) Q (F0 m 1475 ls [])) : W p l e room_1 s m #[Value.ref b] below meth c H locs cells slots Q (F0 m 537 ls []) := by
  obtain ⟨hG, hox, hom, hRel⟩ := hQ
  have C := X.1
  have hx := C.1.1
  have hb := C.1.2.1
  obtain ⟨v1, e1⟩ : ∃ z, xs (i + 1).toNatClampNeg = z := ⟨_, rfl⟩
  obtain ⟨v2, e2⟩ : ∃ z, xs (i + 2).toNatClampNeg = z := ⟨_, rfl⟩
  refine lv_aload_n hx hb dL_law_537 rfl (lv_at hl 2 rfl) ?_
  refine lv_aload_n hx hb dL_law_538 rfl (lv_at hl 3 rfl) ?_
  refine lv_iload_n hx hb dL_law_539 rfl (lv_at hl 0 rfl) ?_
  refine lv_iconst (v := 1) hx hb dL_law_540 (by decide) ?_
  refine q_ai X hS (k := 1) (by decide) hi e1 dL_law_541 dL_law_542 ?_
  refine lv_aload_n hx hb dL_law_543 rfl (lv_at hl 3 rfl) ?_
  refine lv_iload_n hx hb dL_law_544 rfl (lv_at hl 0 rfl) ?_
  refine lv_iconst (v := 2) hx hb dL_law_545 (by decide) ?_
  refine q_ai X hS (k := 2) (by decide) hi e2 dL_law_546 dL_law_547 ?_
  have hG0 := hG
  have hGp := hG
  refine W.eq (g2 := F0 m 548 ls [.int v2, .int v1, .ref (al.2 49 0)]) (by rw [hox]) ?_
  refine q_fi (q_runV (t := 49) (i := 0) (As := [.int v1, .int v2]) (rest := []) C hU (c_X11_legOf hG v1 v2) vm_X11_legOf ml_L_53 k_49.1 (hc := rfl) rfl (h1_49 hG) hl.1 rfl rfl (Nat.le_of_ble_eq_true rfl) dL_law_548 rfl rfl ⟨Nat.le_of_ble_eq_true rfl, Nat.le_of_ble_eq_true rfl⟩ ⟨by show cells + 0 ≤ 600000; omega, by show slots + 0 ≤ 7302250; omega⟩) hS (fun r1 iv1 rv1 H locs hG f1 g1 hp1 hU hS => ?_)
  have hRel := hRel.fr hGp f1 g1 (by decide)
  refine lv_pop hx hb dL_law_551 rfl ?_
  refine lv_aload_n hx hb dL_law_552 rfl (lv_at hl 1 rfl) ?_
  refine lv_aload_n hx hb dL_law_553 rfl (lv_at hl 3 rfl) ?_
  refine lv_iload_n hx hb dL_law_554 rfl (lv_at hl 0 rfl) ?_
  refine lv_iconst (v := 1) hx hb dL_law_555 (by decide) ?_
  refine q_ai X hS (k := 1) (by decide) hi e1 dL_law_556 dL_law_557 ?_
  refine lv_aload_n hx hb dL_law_558 rfl (lv_at hl 3 rfl) ?_
  refine lv_iload_n hx hb dL_law_559 rfl (lv_at hl 0 rfl) ?_
  refine lv_iconst (v := 2) hx hb dL_law_560 (by decide) ?_
  refine q_ai X hS (k := 2) (by decide) hi e2 dL_law_561 dL_law_562 ?_
  have hGp := hG
  refine W.eq (g2 := F0 m 563 ls [.int v2, .int v1, .ref (al.2 0 0)]) (by rw [hom]) ?_
  refine q_fi (q_runV (t := 0) (i := 0) (As := [.int v1, .int v2]) (rest := []) C hU (c_X12_legOf hG v1 v2) vm_X12_legOf ml_L_56 k_0.1 (hc := rfl) rfl (h1_0 hG) hl.1 rfl rfl (Nat.le_of_ble_eq_true rfl) dL_law_563 rfl rfl ⟨Nat.le_of_ble_eq_true rfl, Nat.le_of_ble_eq_true rfl⟩ ⟨by show cells + 0 ≤ 600000; omega, by show slots + 0 ≤ 7302250; omega⟩) hS (fun r2 iv2 rv2 H locs hG f2 g2 hp2 hU hS => ?_)
  have hRel := hRel.fr hGp f2 g2 (by decide)
  refine lv_pop hx hb dL_law_566 rfl ?_
  refine lv_goto (tgt := 1475) hx hb dL_law_567 (by decide) ?_
  refine W.widen (k := cells + 3) (n := slots + 16) (by omega) (by omega) ?_
  exact kk _ _ _ _ _ ⟨hG, hox, hom, hRel⟩ hU hS
set_option maxHeartbeats 4000000 in
set_option maxRecDepth 100000 in
theorem law_10 {p : Program} {l : Launch} {e : Env} {s : State} {m : MethodId} {below : List Frame} {meth : Method} {c : Code} {b L : Nat} {xs : Nat → Int32} {D : va_G} {cA : FieldType → ClassId} {ls : Array Slot} {Q : State → Prop} {H : Heap} {locs : List Loc} {cells slots : Nat} {i : Int32} {ox om : Nat} {al : Al} {iv : Iv} {rv : Rv} (X : LX p s m c b L xs D cA) (hl : lv_has ls 4 [(3, .int i), (2, .ref om), (1, .ref ox), (0, .ref b)]) (hi : 0 ≤ i.toInt ∧ i.toInt + 6 < L) (hQ : LSt ox om al iv rv) (hU : UW D cA s.heap.size al iv rv H) (hS : va_S (Aq s.heap.size) s.heap H locs) (hc : cells + 3 ≤ 600000 ∧ slots + 16 ≤ 7302250)
    (kk : ∀ (al' : Al) (iv' : Iv) (rv' : Rv) (H' : Heap) (locs' : List Loc), LSt ox om al' iv' rv' → UW D cA s.heap.size al' iv' rv' H' → va_S (Aq s.heap.size) s.heap H' locs' → W p l e room_1 s m #[Value.ref b] below meth c H' locs' (cells + 3) (slots + 16) Q (F0 m 1475 ls [])) : W p l e room_1 s m #[Value.ref b] below meth c H locs cells slots Q (F0 m 570 ls []) := by
  obtain ⟨hG, hox, hom, hRel⟩ := hQ
  have C := X.1
  have hx := C.1.1
  have hb := C.1.2.1
  obtain ⟨v1, e1⟩ : ∃ z, xs (i + 1).toNatClampNeg = z := ⟨_, rfl⟩
  obtain ⟨v2, e2⟩ : ∃ z, xs (i + 2).toNatClampNeg = z := ⟨_, rfl⟩
  refine lv_aload_n hx hb dL_law_570 rfl (lv_at hl 2 rfl) ?_
  refine lv_aload_n hx hb dL_law_571 rfl (lv_at hl 3 rfl) ?_
  refine lv_iload_n hx hb dL_law_572 rfl (lv_at hl 0 rfl) ?_
  refine lv_iconst (v := 1) hx hb dL_law_573 (by decide) ?_
  refine q_ai X hS (k := 1) (by decide) hi e1 dL_law_574 dL_law_575 ?_
  refine lv_aload_n hx hb dL_law_576 rfl (lv_at hl 3 rfl) ?_
  refine lv_iload_n hx hb dL_law_577 rfl (lv_at hl 0 rfl) ?_
  refine lv_iconst (v := 2) hx hb dL_law_578 (by decide) ?_
  refine q_ai X hS (k := 2) (by decide) hi e2 dL_law_579 dL_law_580 ?_
  have J_589 : ∀ zv2 : Int32, (0 ≤ zv2.toInt ∧ zv2.toInt ≤ 1) → zv2 = bz v2 → W p l e room_1 s m #[Value.ref b] below meth c H locs cells slots Q (F0 m 589 ls [.int zv2, .int v1, .ref ox]) := by
    intro zv2 rzv2 qzv2
    have hG0 := hG
    have hGp := hG
    refine W.eq (g2 := F0 m 589 ls [.int zv2, .int v1, .ref (al.2 49 0)]) (by rw [hox]) ?_
    refine q_fi (q_runV (t := 49) (i := 0) (As := [.int v1, .int zv2]) (rest := []) C hU (c_X11_ahead hG v1 zv2) vm_X11_ahead ml_L_57 k_49.1 (hc := rfl) rfl (h1_49 hG) hl.1 rfl rfl (Nat.le_of_ble_eq_true rfl) dL_law_589 rfl rfl ⟨Nat.le_of_ble_eq_true rfl, Nat.le_of_ble_eq_true rfl⟩ ⟨by show cells + 0 ≤ 600000; omega, by show slots + 0 ≤ 7302250; omega⟩) hS (fun r1 iv1 rv1 H locs hG f1 g1 hp1 hU hS => ?_)
    have hRel := hRel.fr hGp f1 g1 (by decide)
    refine lv_pop hx hb dL_law_592 rfl ?_
    refine lv_aload_n hx hb dL_law_593 rfl (lv_at hl 1 rfl) ?_
    refine lv_aload_n hx hb dL_law_594 rfl (lv_at hl 3 rfl) ?_
    refine lv_iload_n hx hb dL_law_595 rfl (lv_at hl 0 rfl) ?_
    refine lv_iconst (v := 1) hx hb dL_law_596 (by decide) ?_
    refine q_ai X hS (k := 1) (by decide) hi e1 dL_law_597 dL_law_598 ?_
    refine lv_aload_n hx hb dL_law_599 rfl (lv_at hl 3 rfl) ?_
    refine lv_iload_n hx hb dL_law_600 rfl (lv_at hl 0 rfl) ?_
    refine lv_iconst (v := 2) hx hb dL_law_601 (by decide) ?_
    refine q_ai X hS (k := 2) (by decide) hi e2 dL_law_602 dL_law_603 ?_
    have J_612 : ∀ zv2m : Int32, (0 ≤ zv2m.toInt ∧ zv2m.toInt ≤ 1) → zv2m = bz v2 → W p l e room_1 s m #[Value.ref b] below meth c H locs cells slots Q (F0 m 612 ls [.int zv2m, .int v1, .ref om]) := by
      intro zv2m rzv2m qzv2m
      have hGp := hG
      refine W.eq (g2 := F0 m 612 ls [.int zv2m, .int v1, .ref (al.2 0 0)]) (by rw [hom]) ?_
      refine q_fi (q_runV (t := 0) (i := 0) (As := [.int v1, .int zv2m]) (rest := []) C hU (c_X12_ahead hG v1 zv2m rzv2m) vm_X12_ahead ml_L_61 k_0.1 (hc := rfl) rfl (h1_0 hG) hl.1 rfl rfl (Nat.le_of_ble_eq_true rfl) dL_law_612 rfl rfl ⟨Nat.le_of_ble_eq_true rfl, Nat.le_of_ble_eq_true rfl⟩ ⟨by show cells + 0 ≤ 600000; omega, by show slots + 0 ≤ 7302250; omega⟩) hS (fun r2 iv2 rv2 H locs hG f2 g2 hp2 hU hS => ?_)
      have hRel := hRel.fr hGp f2 g2 (by decide)
      refine lv_pop hx hb dL_law_615 rfl ?_
      refine lv_goto (tgt := 1475) hx hb dL_law_616 (by decide) ?_
      refine W.widen (k := cells + 3) (n := slots + 16) (by omega) (by omega) ?_
      exact kk _ _ _ _ _ ⟨hG, hox, hom, hRel⟩ hU hS
    refine b_if_eq (tgt := 611) hx hb dL_law_604 (by decide) (fun c0 => ?_) (fun c0 => ?_)
    · refine lv_iconst (v := 0) hx hb dL_law_611 (by decide) ?_
      exact J_612 0 ⟨by decide, by decide⟩ (bz_0 c0)
    · refine lv_iconst (v := 1) hx hb dL_law_607 (by decide) ?_
      refine lv_goto (tgt := 612) hx hb dL_law_608 (by decide) ?_
      exact J_612 1 ⟨by decide, by decide⟩ (bz_1 c0)
  refine b_if_eq (tgt := 588) hx hb dL_law_581 (by decide) (fun c0 => ?_) (fun c0 => ?_)
  · refine lv_iconst (v := 0) hx hb dL_law_588 (by decide) ?_
    exact J_589 0 ⟨by decide, by decide⟩ (bz_0 c0)
  · refine lv_iconst (v := 1) hx hb dL_law_584 (by decide) ?_
    refine lv_goto (tgt := 589) hx hb dL_law_585 (by decide) ?_
    exact J_589 1 ⟨by decide, by decide⟩ (bz_1 c0)
set_option maxHeartbeats 4000000 in
set_option maxRecDepth 100000 in
theorem law_11 {p : Program} {l : Launch} {e : Env} {s : State} {m : MethodId} {below : List Frame} {meth : Method} {c : Code} {b L : Nat} {xs : Nat → Int32} {D : va_G} {cA : FieldType → ClassId} {ls : Array Slot} {Q : State → Prop} {H : Heap} {locs : List Loc} {cells slots : Nat} {i : Int32} {ox om : Nat} {al : Al} {iv : Iv} {rv : Rv} (X : LX p s m c b L xs D cA) (hl : lv_has ls 4 [(3, .int i), (2, .ref om), (1, .ref ox), (0, .ref b)]) (hi : 0 ≤ i.toInt ∧ i.toInt + 6 < L) (hQ : LSt ox om al iv rv) (hU : UW D cA s.heap.size al iv rv H) (hS : va_S (Aq s.heap.size) s.heap H locs) (hc : cells + 3 ≤ 600000 ∧ slots + 16 ≤ 7302250)
    (kk : ∀ (al' : Al) (iv' : Iv) (rv' : Rv) (H' : Heap) (locs' : List Loc), LSt ox om al' iv' rv' → UW D cA s.heap.size al' iv' rv' H' → va_S (Aq s.heap.size) s.heap H' locs' → W p l e room_1 s m #[Value.ref b] below meth c H' locs' (cells + 3) (slots + 16) Q (F0 m 1475 ls [])) : W p l e room_1 s m #[Value.ref b] below meth c H locs cells slots Q (F0 m 619 ls []) := by
  obtain ⟨hG, hox, hom, hRel⟩ := hQ
  have C := X.1
  have hx := C.1.1
  have hb := C.1.2.1
  obtain ⟨v1, e1⟩ : ∃ z, xs (i + 1).toNatClampNeg = z := ⟨_, rfl⟩
  obtain ⟨v2, e2⟩ : ∃ z, xs (i + 2).toNatClampNeg = z := ⟨_, rfl⟩
  refine lv_aload_n hx hb dL_law_619 rfl (lv_at hl 2 rfl) ?_
  refine lv_aload_n hx hb dL_law_620 rfl (lv_at hl 3 rfl) ?_
  refine lv_iload_n hx hb dL_law_621 rfl (lv_at hl 0 rfl) ?_
  refine lv_iconst (v := 1) hx hb dL_law_622 (by decide) ?_
  refine q_ai X hS (k := 1) (by decide) hi e1 dL_law_623 dL_law_624 ?_
  refine lv_aload_n hx hb dL_law_625 rfl (lv_at hl 3 rfl) ?_
  refine lv_iload_n hx hb dL_law_626 rfl (lv_at hl 0 rfl) ?_
  refine lv_iconst (v := 2) hx hb dL_law_627 (by decide) ?_
  refine q_ai X hS (k := 2) (by decide) hi e2 dL_law_628 dL_law_629 ?_
  have hG0 := hG
  have hGp := hG
  refine W.eq (g2 := F0 m 630 ls [.int v2, .int v1, .ref (al.2 49 0)]) (by rw [hox]) ?_
  refine q_fi (q_runV (t := 49) (i := 0) (As := [.int v1, .int v2]) (rest := []) C hU (c_X11_minutes hG v1 v2) vm_X11_minutes ml_L_62 k_49.1 (hc := rfl) rfl (h1_49 hG) hl.1 rfl rfl (Nat.le_of_ble_eq_true rfl) dL_law_630 rfl rfl ⟨Nat.le_of_ble_eq_true rfl, Nat.le_of_ble_eq_true rfl⟩ ⟨by show cells + 0 ≤ 600000; omega, by show slots + 0 ≤ 7302250; omega⟩) hS (fun r1 iv1 rv1 H locs hG f1 g1 hp1 hU hS => ?_)
  have hRel := hRel.fr hGp f1 g1 (by decide)
  refine lv_pop hx hb dL_law_633 rfl ?_
  refine lv_aload_n hx hb dL_law_634 rfl (lv_at hl 1 rfl) ?_
  refine lv_aload_n hx hb dL_law_635 rfl (lv_at hl 3 rfl) ?_
  refine lv_iload_n hx hb dL_law_636 rfl (lv_at hl 0 rfl) ?_
  refine lv_iconst (v := 1) hx hb dL_law_637 (by decide) ?_
  refine q_ai X hS (k := 1) (by decide) hi e1 dL_law_638 dL_law_639 ?_
  refine lv_aload_n hx hb dL_law_640 rfl (lv_at hl 3 rfl) ?_
  refine lv_iload_n hx hb dL_law_641 rfl (lv_at hl 0 rfl) ?_
  refine lv_iconst (v := 2) hx hb dL_law_642 (by decide) ?_
  refine q_ai X hS (k := 2) (by decide) hi e2 dL_law_643 dL_law_644 ?_
  have hGp := hG
  refine W.eq (g2 := F0 m 645 ls [.int v2, .int v1, .ref (al.2 0 0)]) (by rw [hom]) ?_
  refine q_fi (q_runV (t := 0) (i := 0) (As := [.int v1, .int v2]) (rest := []) C hU (c_X12_minutes hG v1 v2) vm_X12_minutes ml_L_65 k_0.1 (hc := rfl) rfl (h1_0 hG) hl.1 rfl rfl (Nat.le_of_ble_eq_true rfl) dL_law_645 rfl rfl ⟨Nat.le_of_ble_eq_true rfl, Nat.le_of_ble_eq_true rfl⟩ ⟨by show cells + 0 ≤ 600000; omega, by show slots + 0 ≤ 7302250; omega⟩) hS (fun r2 iv2 rv2 H locs hG f2 g2 hp2 hU hS => ?_)
  have hRel := hRel.fr hGp f2 g2 (by decide)
  refine lv_pop hx hb dL_law_648 rfl ?_
  refine lv_goto (tgt := 1475) hx hb dL_law_649 (by decide) ?_
  refine W.widen (k := cells + 3) (n := slots + 16) (by omega) (by omega) ?_
  exact kk _ _ _ _ _ ⟨hG, hox, hom, hRel⟩ hU hS
set_option maxHeartbeats 4000000 in
set_option maxRecDepth 100000 in
theorem law_12 {p : Program} {l : Launch} {e : Env} {s : State} {m : MethodId} {below : List Frame} {meth : Method} {c : Code} {b L : Nat} {xs : Nat → Int32} {D : va_G} {cA : FieldType → ClassId} {ls : Array Slot} {Q : State → Prop} {H : Heap} {locs : List Loc} {cells slots : Nat} {i : Int32} {ox om : Nat} {al : Al} {iv : Iv} {rv : Rv} (X : LX p s m c b L xs D cA) (hl : lv_has ls 4 [(3, .int i), (2, .ref om), (1, .ref ox), (0, .ref b)]) (hi : 0 ≤ i.toInt ∧ i.toInt + 6 < L) (hQ : LSt ox om al iv rv) (hU : UW D cA s.heap.size al iv rv H) (hS : va_S (Aq s.heap.size) s.heap H locs) (hc : cells + 3 ≤ 600000 ∧ slots + 16 ≤ 7302250)
    (kk : ∀ (al' : Al) (iv' : Iv) (rv' : Rv) (H' : Heap) (locs' : List Loc), LSt ox om al' iv' rv' → UW D cA s.heap.size al' iv' rv' H' → va_S (Aq s.heap.size) s.heap H' locs' → W p l e room_1 s m #[Value.ref b] below meth c H' locs' (cells + 3) (slots + 16) Q (F0 m 1475 ls [])) : W p l e room_1 s m #[Value.ref b] below meth c H locs cells slots Q (F0 m 652 ls []) := by
  obtain ⟨hG, hox, hom, hRel⟩ := hQ
  have C := X.1
  have hx := C.1.1
  have hb := C.1.2.1
  obtain ⟨v1, e1⟩ : ∃ z, xs (i + 1).toNatClampNeg = z := ⟨_, rfl⟩
  obtain ⟨v2, e2⟩ : ∃ z, xs (i + 2).toNatClampNeg = z := ⟨_, rfl⟩
  refine lv_aload_n hx hb dL_law_652 rfl (lv_at hl 2 rfl) ?_
  refine lv_aload_n hx hb dL_law_653 rfl (lv_at hl 3 rfl) ?_
  refine lv_iload_n hx hb dL_law_654 rfl (lv_at hl 0 rfl) ?_
  refine lv_iconst (v := 1) hx hb dL_law_655 (by decide) ?_
  refine q_ai X hS (k := 1) (by decide) hi e1 dL_law_656 dL_law_657 ?_
  refine lv_aload_n hx hb dL_law_658 rfl (lv_at hl 3 rfl) ?_
  refine lv_iload_n hx hb dL_law_659 rfl (lv_at hl 0 rfl) ?_
  refine lv_iconst (v := 2) hx hb dL_law_660 (by decide) ?_
  refine q_ai X hS (k := 2) (by decide) hi e2 dL_law_661 dL_law_662 ?_
  have hG0 := hG
  have hGp := hG
  refine W.eq (g2 := F0 m 663 ls [.int v2, .int v1, .ref (al.2 49 0)]) (by rw [hox]) ?_
  refine q_fi (q_runV (t := 49) (i := 0) (As := [.int v1, .int v2]) (rest := []) C hU (c_X11_saved hG v1 v2) vm_X11_saved ml_L_66 k_49.1 (hc := rfl) rfl (h1_49 hG) hl.1 rfl rfl (Nat.le_of_ble_eq_true rfl) dL_law_663 rfl rfl ⟨Nat.le_of_ble_eq_true rfl, Nat.le_of_ble_eq_true rfl⟩ ⟨by show cells + 0 ≤ 600000; omega, by show slots + 0 ≤ 7302250; omega⟩) hS (fun r1 iv1 rv1 H locs hG f1 g1 hp1 hU hS => ?_)
  have hRel := hRel.fr hGp f1 g1 (by decide)
  refine lv_pop hx hb dL_law_666 rfl ?_
  refine lv_aload_n hx hb dL_law_667 rfl (lv_at hl 1 rfl) ?_
  refine lv_aload_n hx hb dL_law_668 rfl (lv_at hl 3 rfl) ?_
  refine lv_iload_n hx hb dL_law_669 rfl (lv_at hl 0 rfl) ?_
  refine lv_iconst (v := 1) hx hb dL_law_670 (by decide) ?_
  refine q_ai X hS (k := 1) (by decide) hi e1 dL_law_671 dL_law_672 ?_
  refine lv_aload_n hx hb dL_law_673 rfl (lv_at hl 3 rfl) ?_
  refine lv_iload_n hx hb dL_law_674 rfl (lv_at hl 0 rfl) ?_
  refine lv_iconst (v := 2) hx hb dL_law_675 (by decide) ?_
  refine q_ai X hS (k := 2) (by decide) hi e2 dL_law_676 dL_law_677 ?_
  have hGp := hG
  refine W.eq (g2 := F0 m 678 ls [.int v2, .int v1, .ref (al.2 0 0)]) (by rw [hom]) ?_
  refine q_fi (q_runV (t := 0) (i := 0) (As := [.int v1, .int v2]) (rest := []) C hU (c_X12_saved hG v1 v2) vm_X12_saved ml_L_69 k_0.1 (hc := rfl) rfl (h1_0 hG) hl.1 rfl rfl (Nat.le_of_ble_eq_true rfl) dL_law_678 rfl rfl ⟨Nat.le_of_ble_eq_true rfl, Nat.le_of_ble_eq_true rfl⟩ ⟨by show cells + 0 ≤ 600000; omega, by show slots + 0 ≤ 7302250; omega⟩) hS (fun r2 iv2 rv2 H locs hG f2 g2 hp2 hU hS => ?_)
  have hRel := hRel.fr hGp f2 g2 (by decide)
  refine lv_pop hx hb dL_law_681 rfl ?_
  refine lv_goto (tgt := 1475) hx hb dL_law_682 (by decide) ?_
  refine W.widen (k := cells + 3) (n := slots + 16) (by omega) (by omega) ?_
  exact kk _ _ _ _ _ ⟨hG, hox, hom, hRel⟩ hU hS
set_option maxHeartbeats 4000000 in
set_option maxRecDepth 100000 in
theorem law_13 {p : Program} {l : Launch} {e : Env} {s : State} {m : MethodId} {below : List Frame} {meth : Method} {c : Code} {b L : Nat} {xs : Nat → Int32} {D : va_G} {cA : FieldType → ClassId} {ls : Array Slot} {Q : State → Prop} {H : Heap} {locs : List Loc} {cells slots : Nat} {i : Int32} {ox om : Nat} {al : Al} {iv : Iv} {rv : Rv} (X : LX p s m c b L xs D cA) (hl : lv_has ls 4 [(3, .int i), (2, .ref om), (1, .ref ox), (0, .ref b)]) (hi : 0 ≤ i.toInt ∧ i.toInt + 6 < L) (hQ : LSt ox om al iv rv) (hU : UW D cA s.heap.size al iv rv H) (hS : va_S (Aq s.heap.size) s.heap H locs) (hc : cells + 3 ≤ 600000 ∧ slots + 16 ≤ 7302250)
    (kk : ∀ (al' : Al) (iv' : Iv) (rv' : Rv) (H' : Heap) (locs' : List Loc), LSt ox om al' iv' rv' → UW D cA s.heap.size al' iv' rv' H' → va_S (Aq s.heap.size) s.heap H' locs' → W p l e room_1 s m #[Value.ref b] below meth c H' locs' (cells + 3) (slots + 16) Q (F0 m 1475 ls [])) : W p l e room_1 s m #[Value.ref b] below meth c H locs cells slots Q (F0 m 685 ls []) := by
  obtain ⟨hG, hox, hom, hRel⟩ := hQ
  have C := X.1
  have hx := C.1.1
  have hb := C.1.2.1
  obtain ⟨v1, e1⟩ : ∃ z, xs (i + 1).toNatClampNeg = z := ⟨_, rfl⟩
  refine lv_aload_n hx hb dL_law_685 rfl (lv_at hl 2 rfl) ?_
  refine lv_aload_n hx hb dL_law_686 rfl (lv_at hl 3 rfl) ?_
  refine lv_iload_n hx hb dL_law_687 rfl (lv_at hl 0 rfl) ?_
  refine lv_iconst (v := 1) hx hb dL_law_688 (by decide) ?_
  refine q_ai X hS (k := 1) (by decide) hi e1 dL_law_689 dL_law_690 ?_
  have hG0 := hG
  have hGp := hG
  refine W.eq (g2 := F0 m 691 ls [.int v1, .ref (al.2 49 0)]) (by rw [hox]) ?_
  refine q_ciA (q_runVA (t := 49) (i := 0) (As := [.int v1]) (rest := []) C hU hS.1 (c_X11_traveller_y hG v1) vm_X11_traveller ml_L_70 k_49.1 (hc := rfl) rfl (h1_49 hG) hl.1 rfl rfl (Nat.le_of_ble_eq_true rfl) dL_law_691 rfl rfl ⟨Nat.le_of_ble_eq_true rfl, Nat.le_of_ble_eq_true rfl⟩ ⟨by show cells + 3 ≤ 600000; omega, by show slots + 16 ≤ 7302250; omega⟩) hS hS.1 (fun r1 al1 iv1 rv1 H locs hp1 hU hS _ => ?_)
  obtain ⟨hG1, hE1, hp1⟩ := hp1
  have hox := (hE1.2.1 49 0 (h1_49 hG)).trans hox
  have hom := (hE1.2.1 0 0 (h1_0 hG)).trans hom
  have hG := hG1
  refine W.widen (k := cells + 3) (n := slots + 16) (by omega) (by omega) ?_
  refine lv_pop hx hb dL_law_694 rfl ?_
  refine lv_aload_n hx hb dL_law_695 rfl (lv_at hl 1 rfl) ?_
  refine lv_aload_n hx hb dL_law_696 rfl (lv_at hl 3 rfl) ?_
  refine lv_iload_n hx hb dL_law_697 rfl (lv_at hl 0 rfl) ?_
  refine lv_iconst (v := 1) hx hb dL_law_698 (by decide) ?_
  refine q_ai X hS (k := 1) (by decide) hi e1 dL_law_699 dL_law_700 ?_
  have hGp := hG
  refine W.eq (g2 := F0 m 701 ls [.int v1, .ref (al1.2 0 0)]) (by rw [hom]) ?_
  refine q_fi (q_runV (t := 0) (i := 0) (As := [.int v1]) (rest := []) C hU (c_X12_traveller_y hG v1) vm_X12_traveller ml_L_73 k_0.1 (hc := rfl) rfl (h1_0 hG) hl.1 rfl rfl (Nat.le_of_ble_eq_true rfl) dL_law_701 rfl rfl ⟨Nat.le_of_ble_eq_true rfl, Nat.le_of_ble_eq_true rfl⟩ ⟨by show (cells + 3) + 0 ≤ 600000; omega, by show (slots + 16) + 0 ≤ 7302250; omega⟩) hS (fun r2 iv2 rv2 H locs hG f2 g2 hp2 hU hS => ?_)
  have hRel := REL.s_traveller hG0 hRel hp1 hp2 hE1 f2 g2
  refine lv_pop hx hb dL_law_704 rfl ?_
  refine lv_goto (tgt := 1475) hx hb dL_law_705 (by decide) ?_
  exact kk _ _ _ _ _ ⟨hG, hox, hom, hRel⟩ hU hS
set_option maxHeartbeats 4000000 in
set_option maxRecDepth 100000 in
theorem law_14 {p : Program} {l : Launch} {e : Env} {s : State} {m : MethodId} {below : List Frame} {meth : Method} {c : Code} {b L : Nat} {xs : Nat → Int32} {D : va_G} {cA : FieldType → ClassId} {ls : Array Slot} {Q : State → Prop} {H : Heap} {locs : List Loc} {cells slots : Nat} {i : Int32} {ox om : Nat} {al : Al} {iv : Iv} {rv : Rv} (X : LX p s m c b L xs D cA) (hl : lv_has ls 4 [(3, .int i), (2, .ref om), (1, .ref ox), (0, .ref b)]) (hi : 0 ≤ i.toInt ∧ i.toInt + 6 < L) (hQ : LSt ox om al iv rv) (hU : UW D cA s.heap.size al iv rv H) (hS : va_S (Aq s.heap.size) s.heap H locs) (hc : cells + 3 ≤ 600000 ∧ slots + 16 ≤ 7302250)
    (kk : ∀ (al' : Al) (iv' : Iv) (rv' : Rv) (H' : Heap) (locs' : List Loc), LSt ox om al' iv' rv' → UW D cA s.heap.size al' iv' rv' H' → va_S (Aq s.heap.size) s.heap H' locs' → W p l e room_1 s m #[Value.ref b] below meth c H' locs' (cells + 3) (slots + 16) Q (F0 m 1475 ls [])) : W p l e room_1 s m #[Value.ref b] below meth c H locs cells slots Q (F0 m 708 ls []) := by
  obtain ⟨hG, hox, hom, hRel⟩ := hQ
  have C := X.1
  have hx := C.1.1
  have hb := C.1.2.1
  obtain ⟨v1, e1⟩ : ∃ z, xs (i + 1).toNatClampNeg = z := ⟨_, rfl⟩
  obtain ⟨v2, e2⟩ : ∃ z, xs (i + 2).toNatClampNeg = z := ⟨_, rfl⟩
  refine lv_aload_n hx hb dL_law_708 rfl (lv_at hl 2 rfl) ?_
  refine lv_aload_n hx hb dL_law_709 rfl (lv_at hl 3 rfl) ?_
  refine lv_iload_n hx hb dL_law_710 rfl (lv_at hl 0 rfl) ?_
  refine lv_iconst (v := 1) hx hb dL_law_711 (by decide) ?_
  refine q_ai X hS (k := 1) (by decide) hi e1 dL_law_712 dL_law_713 ?_
  refine lv_aload_n hx hb dL_law_714 rfl (lv_at hl 3 rfl) ?_
  refine lv_iload_n hx hb dL_law_715 rfl (lv_at hl 0 rfl) ?_
  refine lv_iconst (v := 2) hx hb dL_law_716 (by decide) ?_
  refine q_ai X hS (k := 2) (by decide) hi e2 dL_law_717 dL_law_718 ?_
  have hG0 := hG
  have hGp := hG
  refine W.eq (g2 := F0 m 719 ls [.int v2, .int v1, .ref (al.2 49 0)]) (by rw [hox]) ?_
  refine q_fi (q_runV (t := 49) (i := 0) (As := [.int v1, .int v2]) (rest := []) C hU (c_X11_then_x hG v1 v2 ⟨hRel.2.2.2.1, hRel.2.2.2.2.1, hRel.1, hRel.2.2.2.2.2.2.2.1, hRel.2.2.2.2.2.2.2.2.1⟩) vm_X11_then ml_L_74 k_49.1 (hc := rfl) rfl (h1_49 hG) hl.1 rfl rfl (Nat.le_of_ble_eq_true rfl) dL_law_719 rfl rfl ⟨Nat.le_of_ble_eq_true rfl, Nat.le_of_ble_eq_true rfl⟩ ⟨by show cells + 0 ≤ 600000; omega, by show slots + 0 ≤ 7302250; omega⟩) hS (fun r1 iv1 rv1 H locs hG f1 g1 hp1 hU hS => ?_)
  refine lv_pop hx hb dL_law_722 rfl ?_
  refine lv_aload_n hx hb dL_law_723 rfl (lv_at hl 1 rfl) ?_
  refine lv_aload_n hx hb dL_law_724 rfl (lv_at hl 3 rfl) ?_
  refine lv_iload_n hx hb dL_law_725 rfl (lv_at hl 0 rfl) ?_
  refine lv_iconst (v := 1) hx hb dL_law_726 (by decide) ?_
  refine q_ai X hS (k := 1) (by decide) hi e1 dL_law_727 dL_law_728 ?_
  refine lv_aload_n hx hb dL_law_729 rfl (lv_at hl 3 rfl) ?_
  refine lv_iload_n hx hb dL_law_730 rfl (lv_at hl 0 rfl) ?_
  refine lv_iconst (v := 2) hx hb dL_law_731 (by decide) ?_
  refine q_ai X hS (k := 2) (by decide) hi e2 dL_law_732 dL_law_733 ?_
  have hGp := hG
  refine W.eq (g2 := F0 m 734 ls [.int v2, .int v1, .ref (al.2 0 0)]) (by rw [hom]) ?_
  refine q_fi (q_runV (t := 0) (i := 0) (As := [.int v1, .int v2]) (rest := []) C hU (c_X12_then_x hG v1 v2) vm_X12_then ml_L_77 k_0.1 (hc := rfl) rfl (h1_0 hG) hl.1 rfl rfl (Nat.le_of_ble_eq_true rfl) dL_law_734 rfl rfl ⟨Nat.le_of_ble_eq_true rfl, Nat.le_of_ble_eq_true rfl⟩ ⟨by show cells + 0 ≤ 600000; omega, by show slots + 0 ≤ 7302250; omega⟩) hS (fun r2 iv2 rv2 H locs hG f2 g2 hp2 hU hS => ?_)
  have hRel := REL.s_then hG0 hRel hp1 hp2 (EX.of f1 g1) f2 g2
  refine lv_pop hx hb dL_law_737 rfl ?_
  refine lv_goto (tgt := 1475) hx hb dL_law_738 (by decide) ?_
  refine W.widen (k := cells + 3) (n := slots + 16) (by omega) (by omega) ?_
  exact kk _ _ _ _ _ ⟨hG, hox, hom, hRel⟩ hU hS
set_option maxHeartbeats 4000000 in
set_option maxRecDepth 100000 in
theorem law_15 {p : Program} {l : Launch} {e : Env} {s : State} {m : MethodId} {below : List Frame} {meth : Method} {c : Code} {b L : Nat} {xs : Nat → Int32} {D : va_G} {cA : FieldType → ClassId} {ls : Array Slot} {Q : State → Prop} {H : Heap} {locs : List Loc} {cells slots : Nat} {i : Int32} {ox om : Nat} {al : Al} {iv : Iv} {rv : Rv} (X : LX p s m c b L xs D cA) (hl : lv_has ls 4 [(3, .int i), (2, .ref om), (1, .ref ox), (0, .ref b)]) (hi : 0 ≤ i.toInt ∧ i.toInt + 6 < L) (hQ : LSt ox om al iv rv) (hU : UW D cA s.heap.size al iv rv H) (hS : va_S (Aq s.heap.size) s.heap H locs) (hc : cells + 3 ≤ 600000 ∧ slots + 16 ≤ 7302250)
    (kk : ∀ (al' : Al) (iv' : Iv) (rv' : Rv) (H' : Heap) (locs' : List Loc), LSt ox om al' iv' rv' → UW D cA s.heap.size al' iv' rv' H' → va_S (Aq s.heap.size) s.heap H' locs' → W p l e room_1 s m #[Value.ref b] below meth c H' locs' (cells + 3) (slots + 16) Q (F0 m 1475 ls [])) : W p l e room_1 s m #[Value.ref b] below meth c H locs cells slots Q (F0 m 741 ls []) := by
  obtain ⟨hG, hox, hom, hRel⟩ := hQ
  have C := X.1
  have hx := C.1.1
  have hb := C.1.2.1
  obtain ⟨v1, e1⟩ : ∃ z, xs (i + 1).toNatClampNeg = z := ⟨_, rfl⟩
  refine lv_aload_n hx hb dL_law_741 rfl (lv_at hl 2 rfl) ?_
  refine lv_aload_n hx hb dL_law_742 rfl (lv_at hl 3 rfl) ?_
  refine lv_iload_n hx hb dL_law_743 rfl (lv_at hl 0 rfl) ?_
  refine lv_iconst (v := 1) hx hb dL_law_744 (by decide) ?_
  refine q_ai X hS (k := 1) (by decide) hi e1 dL_law_745 dL_law_746 ?_
  have hG0 := hG
  have hGp := hG
  refine W.eq (g2 := F0 m 747 ls [.int v1, .ref (al.2 49 0)]) (by rw [hox]) ?_
  refine q_fi (q_runV (t := 49) (i := 0) (As := [.int v1]) (rest := []) C hU (c_X11_missed hG v1) vm_X11_missed ml_L_78 k_49.1 (hc := rfl) rfl (h1_49 hG) hl.1 rfl rfl (Nat.le_of_ble_eq_true rfl) dL_law_747 rfl rfl ⟨Nat.le_of_ble_eq_true rfl, Nat.le_of_ble_eq_true rfl⟩ ⟨by show cells + 0 ≤ 600000; omega, by show slots + 0 ≤ 7302250; omega⟩) hS (fun r1 iv1 rv1 H locs hG f1 g1 hp1 hU hS => ?_)
  have hRel := hRel.fr hGp f1 g1 (by decide)
  refine lv_pop hx hb dL_law_750 rfl ?_
  refine lv_aload_n hx hb dL_law_751 rfl (lv_at hl 1 rfl) ?_
  refine lv_aload_n hx hb dL_law_752 rfl (lv_at hl 3 rfl) ?_
  refine lv_iload_n hx hb dL_law_753 rfl (lv_at hl 0 rfl) ?_
  refine lv_iconst (v := 1) hx hb dL_law_754 (by decide) ?_
  refine q_ai X hS (k := 1) (by decide) hi e1 dL_law_755 dL_law_756 ?_
  have hGp := hG
  refine W.eq (g2 := F0 m 757 ls [.int v1, .ref (al.2 0 0)]) (by rw [hom]) ?_
  refine q_fi (q_runV (t := 0) (i := 0) (As := [.int v1]) (rest := []) C hU (c_X12_missed hG v1) vm_X12_missed ml_L_81 k_0.1 (hc := rfl) rfl (h1_0 hG) hl.1 rfl rfl (Nat.le_of_ble_eq_true rfl) dL_law_757 rfl rfl ⟨Nat.le_of_ble_eq_true rfl, Nat.le_of_ble_eq_true rfl⟩ ⟨by show cells + 0 ≤ 600000; omega, by show slots + 0 ≤ 7302250; omega⟩) hS (fun r2 iv2 rv2 H locs hG f2 g2 hp2 hU hS => ?_)
  have hRel := hRel.fr hGp f2 g2 (by decide)
  refine lv_pop hx hb dL_law_760 rfl ?_
  refine lv_goto (tgt := 1475) hx hb dL_law_761 (by decide) ?_
  refine W.widen (k := cells + 3) (n := slots + 16) (by omega) (by omega) ?_
  exact kk _ _ _ _ _ ⟨hG, hox, hom, hRel⟩ hU hS
set_option maxHeartbeats 4000000 in
set_option maxRecDepth 100000 in
theorem law_16 {p : Program} {l : Launch} {e : Env} {s : State} {m : MethodId} {below : List Frame} {meth : Method} {c : Code} {b L : Nat} {xs : Nat → Int32} {D : va_G} {cA : FieldType → ClassId} {ls : Array Slot} {Q : State → Prop} {H : Heap} {locs : List Loc} {cells slots : Nat} {i : Int32} {ox om : Nat} {al : Al} {iv : Iv} {rv : Rv} (X : LX p s m c b L xs D cA) (hl : lv_has ls 4 [(3, .int i), (2, .ref om), (1, .ref ox), (0, .ref b)]) (hi : 0 ≤ i.toInt ∧ i.toInt + 6 < L) (hQ : LSt ox om al iv rv) (hU : UW D cA s.heap.size al iv rv H) (hS : va_S (Aq s.heap.size) s.heap H locs) (hc : cells + 3 ≤ 600000 ∧ slots + 16 ≤ 7302250)
    (kk : ∀ (al' : Al) (iv' : Iv) (rv' : Rv) (H' : Heap) (locs' : List Loc), LSt ox om al' iv' rv' → UW D cA s.heap.size al' iv' rv' H' → va_S (Aq s.heap.size) s.heap H' locs' → W p l e room_1 s m #[Value.ref b] below meth c H' locs' (cells + 3) (slots + 16) Q (F0 m 1475 ls [])) : W p l e room_1 s m #[Value.ref b] below meth c H locs cells slots Q (F0 m 764 ls []) := by
  obtain ⟨hG, hox, hom, hRel⟩ := hQ
  have C := X.1
  have hx := C.1.1
  have hb := C.1.2.1
  obtain ⟨v1, e1⟩ : ∃ z, xs (i + 1).toNatClampNeg = z := ⟨_, rfl⟩
  refine lv_aload_n hx hb dL_law_764 rfl (lv_at hl 2 rfl) ?_
  refine lv_aload_n hx hb dL_law_765 rfl (lv_at hl 3 rfl) ?_
  refine lv_iload_n hx hb dL_law_766 rfl (lv_at hl 0 rfl) ?_
  refine lv_iconst (v := 1) hx hb dL_law_767 (by decide) ?_
  refine q_ai X hS (k := 1) (by decide) hi e1 dL_law_768 dL_law_769 ?_
  have hG0 := hG
  have hGp := hG
  refine W.eq (g2 := F0 m 770 ls [.int v1, .ref (al.2 49 0)]) (by rw [hox]) ?_
  refine q_fi (q_runV (t := 49) (i := 0) (As := [.int v1]) (rest := []) C hU (c_X11_soonest hG v1) vm_X11_soonest ml_L_82 k_49.1 (hc := rfl) rfl (h1_49 hG) hl.1 rfl rfl (Nat.le_of_ble_eq_true rfl) dL_law_770 rfl rfl ⟨Nat.le_of_ble_eq_true rfl, Nat.le_of_ble_eq_true rfl⟩ ⟨by show cells + 0 ≤ 600000; omega, by show slots + 0 ≤ 7302250; omega⟩) hS (fun r1 iv1 rv1 H locs hG f1 g1 hp1 hU hS => ?_)
  have hRel := hRel.fr hGp f1 g1 (by decide)
  refine lv_pop hx hb dL_law_773 rfl ?_
  refine lv_aload_n hx hb dL_law_774 rfl (lv_at hl 1 rfl) ?_
  refine lv_aload_n hx hb dL_law_775 rfl (lv_at hl 3 rfl) ?_
  refine lv_iload_n hx hb dL_law_776 rfl (lv_at hl 0 rfl) ?_
  refine lv_iconst (v := 1) hx hb dL_law_777 (by decide) ?_
  refine q_ai X hS (k := 1) (by decide) hi e1 dL_law_778 dL_law_779 ?_
  have hGp := hG
  refine W.eq (g2 := F0 m 780 ls [.int v1, .ref (al.2 0 0)]) (by rw [hom]) ?_
  refine q_fi (q_runV (t := 0) (i := 0) (As := [.int v1]) (rest := []) C hU (c_X12_soonest hG v1) vm_X12_soonest ml_L_85 k_0.1 (hc := rfl) rfl (h1_0 hG) hl.1 rfl rfl (Nat.le_of_ble_eq_true rfl) dL_law_780 rfl rfl ⟨Nat.le_of_ble_eq_true rfl, Nat.le_of_ble_eq_true rfl⟩ ⟨by show cells + 0 ≤ 600000; omega, by show slots + 0 ≤ 7302250; omega⟩) hS (fun r2 iv2 rv2 H locs hG f2 g2 hp2 hU hS => ?_)
  have hRel := hRel.fr hGp f2 g2 (by decide)
  refine lv_pop hx hb dL_law_783 rfl ?_
  refine lv_goto (tgt := 1475) hx hb dL_law_784 (by decide) ?_
  refine W.widen (k := cells + 3) (n := slots + 16) (by omega) (by omega) ?_
  exact kk _ _ _ _ _ ⟨hG, hox, hom, hRel⟩ hU hS
set_option maxHeartbeats 4000000 in
set_option maxRecDepth 100000 in
theorem law_17 {p : Program} {l : Launch} {e : Env} {s : State} {m : MethodId} {below : List Frame} {meth : Method} {c : Code} {b L : Nat} {xs : Nat → Int32} {D : va_G} {cA : FieldType → ClassId} {ls : Array Slot} {Q : State → Prop} {H : Heap} {locs : List Loc} {cells slots : Nat} {i : Int32} {ox om : Nat} {al : Al} {iv : Iv} {rv : Rv} (X : LX p s m c b L xs D cA) (hl : lv_has ls 4 [(3, .int i), (2, .ref om), (1, .ref ox), (0, .ref b)]) (hi : 0 ≤ i.toInt ∧ i.toInt + 6 < L) (hQ : LSt ox om al iv rv) (hU : UW D cA s.heap.size al iv rv H) (hS : va_S (Aq s.heap.size) s.heap H locs) (hc : cells + 3 ≤ 600000 ∧ slots + 16 ≤ 7302250)
    (kk : ∀ (al' : Al) (iv' : Iv) (rv' : Rv) (H' : Heap) (locs' : List Loc), LSt ox om al' iv' rv' → UW D cA s.heap.size al' iv' rv' H' → va_S (Aq s.heap.size) s.heap H' locs' → W p l e room_1 s m #[Value.ref b] below meth c H' locs' (cells + 3) (slots + 16) Q (F0 m 1475 ls [])) : W p l e room_1 s m #[Value.ref b] below meth c H locs cells slots Q (F0 m 787 ls []) := by
  obtain ⟨hG, hox, hom, hRel⟩ := hQ
  have C := X.1
  have hx := C.1.1
  have hb := C.1.2.1
  obtain ⟨v1, e1⟩ : ∃ z, xs (i + 1).toNatClampNeg = z := ⟨_, rfl⟩
  refine lv_aload_n hx hb dL_law_787 rfl (lv_at hl 2 rfl) ?_
  refine lv_aload_n hx hb dL_law_788 rfl (lv_at hl 3 rfl) ?_
  refine lv_iload_n hx hb dL_law_789 rfl (lv_at hl 0 rfl) ?_
  refine lv_iconst (v := 1) hx hb dL_law_790 (by decide) ?_
  refine q_ai X hS (k := 1) (by decide) hi e1 dL_law_791 dL_law_792 ?_
  have hG0 := hG
  have hGp := hG
  refine W.eq (g2 := F0 m 793 ls [.int v1, .ref (al.2 49 0)]) (by rw [hox]) ?_
  refine q_fi (q_runV (t := 49) (i := 0) (As := [.int v1]) (rest := []) C hU (c_X11_hours hG v1) vm_X11_hours ml_L_86 k_49.1 (hc := rfl) rfl (h1_49 hG) hl.1 rfl rfl (Nat.le_of_ble_eq_true rfl) dL_law_793 rfl rfl ⟨Nat.le_of_ble_eq_true rfl, Nat.le_of_ble_eq_true rfl⟩ ⟨by show cells + 0 ≤ 600000; omega, by show slots + 0 ≤ 7302250; omega⟩) hS (fun r1 iv1 rv1 H locs hG f1 g1 hp1 hU hS => ?_)
  have hRel := hRel.fr hGp f1 g1 (by decide)
  refine lv_pop hx hb dL_law_796 rfl ?_
  refine lv_aload_n hx hb dL_law_797 rfl (lv_at hl 1 rfl) ?_
  refine lv_aload_n hx hb dL_law_798 rfl (lv_at hl 3 rfl) ?_
  refine lv_iload_n hx hb dL_law_799 rfl (lv_at hl 0 rfl) ?_
  refine lv_iconst (v := 1) hx hb dL_law_800 (by decide) ?_
  refine q_ai X hS (k := 1) (by decide) hi e1 dL_law_801 dL_law_802 ?_
  have hGp := hG
  refine W.eq (g2 := F0 m 803 ls [.int v1, .ref (al.2 0 0)]) (by rw [hom]) ?_
  refine q_fi (q_runV (t := 0) (i := 0) (As := [.int v1]) (rest := []) C hU (c_X12_hours hG v1) vm_X12_hours ml_L_89 k_0.1 (hc := rfl) rfl (h1_0 hG) hl.1 rfl rfl (Nat.le_of_ble_eq_true rfl) dL_law_803 rfl rfl ⟨Nat.le_of_ble_eq_true rfl, Nat.le_of_ble_eq_true rfl⟩ ⟨by show cells + 0 ≤ 600000; omega, by show slots + 0 ≤ 7302250; omega⟩) hS (fun r2 iv2 rv2 H locs hG f2 g2 hp2 hU hS => ?_)
  have hRel := hRel.fr hGp f2 g2 (by decide)
  refine lv_pop hx hb dL_law_806 rfl ?_
  refine lv_goto (tgt := 1475) hx hb dL_law_807 (by decide) ?_
  refine W.widen (k := cells + 3) (n := slots + 16) (by omega) (by omega) ?_
  exact kk _ _ _ _ _ ⟨hG, hox, hom, hRel⟩ hU hS
end
section
set_option maxHeartbeats 4000000 in
set_option maxRecDepth 100000 in
theorem law_18 {p : Program} {l : Launch} {e : Env} {s : State} {m : MethodId} {below : List Frame} {meth : Method} {c : Code} {b L : Nat} {xs : Nat → Int32} {D : va_G} {cA : FieldType → ClassId} {ls : Array Slot} {Q : State → Prop} {H : Heap} {locs : List Loc} {cells slots : Nat} {i : Int32} {ox om : Nat} {al : Al} {iv : Iv} {rv : Rv} (X : LX p s m c b L xs D cA) (hl : lv_has ls 4 [(3, .int i), (2, .ref om), (1, .ref ox), (0, .ref b)]) (hi : 0 ≤ i.toInt ∧ i.toInt + 6 < L) (hQ : LSt ox om al iv rv) (hU : UW D cA s.heap.size al iv rv H) (hS : va_S (Aq s.heap.size) s.heap H locs) (hc : cells + 3 ≤ 600000 ∧ slots + 16 ≤ 7302250)
    (kk : ∀ (al' : Al) (iv' : Iv) (rv' : Rv) (H' : Heap) (locs' : List Loc), LSt ox om al' iv' rv' → UW D cA s.heap.size al' iv' rv' H' → va_S (Aq s.heap.size) s.heap H' locs' → W p l e room_1 s m #[Value.ref b] below meth c H' locs' (cells + 3) (slots + 16) Q (F0 m 1475 ls [])) : W p l e room_1 s m #[Value.ref b] below meth c H locs cells slots Q (F0 m 810 ls []) := by
  obtain ⟨hG, hox, hom, hRel⟩ := hQ
  have C := X.1
  have hx := C.1.1
  have hb := C.1.2.1
  obtain ⟨v1, e1⟩ : ∃ z, xs (i + 1).toNatClampNeg = z := ⟨_, rfl⟩
  refine lv_aload_n hx hb dL_law_810 rfl (lv_at hl 2 rfl) ?_
  refine lv_aload_n hx hb dL_law_811 rfl (lv_at hl 3 rfl) ?_
  refine lv_iload_n hx hb dL_law_812 rfl (lv_at hl 0 rfl) ?_
  refine lv_iconst (v := 1) hx hb dL_law_813 (by decide) ?_
  refine q_ai X hS (k := 1) (by decide) hi e1 dL_law_814 dL_law_815 ?_
  have hG0 := hG
  have hGp := hG
  refine W.eq (g2 := F0 m 816 ls [.int v1, .ref (al.2 49 0)]) (by rw [hox]) ?_
  refine q_fi (q_runV (t := 49) (i := 0) (As := [.int v1]) (rest := []) C hU (c_X11_blame hG v1) vm_X11_blame ml_L_90 k_49.1 (hc := rfl) rfl (h1_49 hG) hl.1 rfl rfl (Nat.le_of_ble_eq_true rfl) dL_law_816 rfl rfl ⟨Nat.le_of_ble_eq_true rfl, Nat.le_of_ble_eq_true rfl⟩ ⟨by show cells + 0 ≤ 600000; omega, by show slots + 0 ≤ 7302250; omega⟩) hS (fun r1 iv1 rv1 H locs hG f1 g1 hp1 hU hS => ?_)
  have hRel := hRel.fr hGp f1 g1 (by decide)
  refine lv_pop hx hb dL_law_819 rfl ?_
  refine lv_aload_n hx hb dL_law_820 rfl (lv_at hl 1 rfl) ?_
  refine lv_aload_n hx hb dL_law_821 rfl (lv_at hl 3 rfl) ?_
  refine lv_iload_n hx hb dL_law_822 rfl (lv_at hl 0 rfl) ?_
  refine lv_iconst (v := 1) hx hb dL_law_823 (by decide) ?_
  refine q_ai X hS (k := 1) (by decide) hi e1 dL_law_824 dL_law_825 ?_
  have hGp := hG
  refine W.eq (g2 := F0 m 826 ls [.int v1, .ref (al.2 0 0)]) (by rw [hom]) ?_
  refine q_fi (q_runV (t := 0) (i := 0) (As := [.int v1]) (rest := []) C hU (c_X12_blame hG v1) vm_X12_blame ml_L_93 k_0.1 (hc := rfl) rfl (h1_0 hG) hl.1 rfl rfl (Nat.le_of_ble_eq_true rfl) dL_law_826 rfl rfl ⟨Nat.le_of_ble_eq_true rfl, Nat.le_of_ble_eq_true rfl⟩ ⟨by show cells + 0 ≤ 600000; omega, by show slots + 0 ≤ 7302250; omega⟩) hS (fun r2 iv2 rv2 H locs hG f2 g2 hp2 hU hS => ?_)
  have hRel := hRel.fr hGp f2 g2 (by decide)
  refine lv_pop hx hb dL_law_829 rfl ?_
  refine lv_goto (tgt := 1475) hx hb dL_law_830 (by decide) ?_
  refine W.widen (k := cells + 3) (n := slots + 16) (by omega) (by omega) ?_
  exact kk _ _ _ _ _ ⟨hG, hox, hom, hRel⟩ hU hS
set_option maxHeartbeats 4000000 in
set_option maxRecDepth 100000 in
theorem law_19 {p : Program} {l : Launch} {e : Env} {s : State} {m : MethodId} {below : List Frame} {meth : Method} {c : Code} {b L : Nat} {xs : Nat → Int32} {D : va_G} {cA : FieldType → ClassId} {ls : Array Slot} {Q : State → Prop} {H : Heap} {locs : List Loc} {cells slots : Nat} {i : Int32} {ox om : Nat} {al : Al} {iv : Iv} {rv : Rv} (X : LX p s m c b L xs D cA) (hl : lv_has ls 4 [(3, .int i), (2, .ref om), (1, .ref ox), (0, .ref b)]) (hi : 0 ≤ i.toInt ∧ i.toInt + 6 < L) (hQ : LSt ox om al iv rv) (hU : UW D cA s.heap.size al iv rv H) (hS : va_S (Aq s.heap.size) s.heap H locs) (hc : cells + 3 ≤ 600000 ∧ slots + 16 ≤ 7302250)
    (kk : ∀ (al' : Al) (iv' : Iv) (rv' : Rv) (H' : Heap) (locs' : List Loc), LSt ox om al' iv' rv' → UW D cA s.heap.size al' iv' rv' H' → va_S (Aq s.heap.size) s.heap H' locs' → W p l e room_1 s m #[Value.ref b] below meth c H' locs' (cells + 3) (slots + 16) Q (F0 m 1475 ls [])) : W p l e room_1 s m #[Value.ref b] below meth c H locs cells slots Q (F0 m 833 ls []) := by
  obtain ⟨hG, hox, hom, hRel⟩ := hQ
  have C := X.1
  have hx := C.1.1
  have hb := C.1.2.1
  obtain ⟨v1, e1⟩ : ∃ z, xs (i + 1).toNatClampNeg = z := ⟨_, rfl⟩
  obtain ⟨v2, e2⟩ : ∃ z, xs (i + 2).toNatClampNeg = z := ⟨_, rfl⟩
  obtain ⟨v3, e3⟩ : ∃ z, xs (i + 3).toNatClampNeg = z := ⟨_, rfl⟩
  obtain ⟨v4, e4⟩ : ∃ z, xs (i + 4).toNatClampNeg = z := ⟨_, rfl⟩
  obtain ⟨v5, e5⟩ : ∃ z, xs (i + 5).toNatClampNeg = z := ⟨_, rfl⟩
  refine lv_aload_n hx hb dL_law_833 rfl (lv_at hl 2 rfl) ?_
  refine lv_aload_n hx hb dL_law_834 rfl (lv_at hl 3 rfl) ?_
  refine lv_iload_n hx hb dL_law_835 rfl (lv_at hl 0 rfl) ?_
  refine lv_iconst (v := 1) hx hb dL_law_836 (by decide) ?_
  refine q_ai X hS (k := 1) (by decide) hi e1 dL_law_837 dL_law_838 ?_
  refine lv_aload_n hx hb dL_law_839 rfl (lv_at hl 3 rfl) ?_
  refine lv_iload_n hx hb dL_law_840 rfl (lv_at hl 0 rfl) ?_
  refine lv_iconst (v := 2) hx hb dL_law_841 (by decide) ?_
  refine q_ai X hS (k := 2) (by decide) hi e2 dL_law_842 dL_law_843 ?_
  refine lv_aload_n hx hb dL_law_844 rfl (lv_at hl 3 rfl) ?_
  refine lv_iload_n hx hb dL_law_845 rfl (lv_at hl 0 rfl) ?_
  refine lv_iconst (v := 3) hx hb dL_law_846 (by decide) ?_
  refine q_ai X hS (k := 3) (by decide) hi e3 dL_law_847 dL_law_848 ?_
  refine lv_aload_n hx hb dL_law_849 rfl (lv_at hl 3 rfl) ?_
  refine lv_iload_n hx hb dL_law_850 rfl (lv_at hl 0 rfl) ?_
  refine lv_iconst (v := 4) hx hb dL_law_851 (by decide) ?_
  refine q_ai X hS (k := 4) (by decide) hi e4 dL_law_852 dL_law_853 ?_
  refine lv_aload_n hx hb dL_law_854 rfl (lv_at hl 3 rfl) ?_
  refine lv_iload_n hx hb dL_law_855 rfl (lv_at hl 0 rfl) ?_
  refine lv_iconst (v := 5) hx hb dL_law_856 (by decide) ?_
  refine q_ai X hS (k := 5) (by decide) hi e5 dL_law_857 dL_law_858 ?_
  have hG0 := hG
  have hGp := hG
  refine W.eq (g2 := F0 m 859 ls [.int v5, .int v4, .int v3, .int v2, .int v1, .ref (al.2 49 0)]) (by rw [hox]) ?_
  refine q_fi (q_runV (t := 49) (i := 0) (As := [.int v1, .int v2, .int v3, .int v4, .int v5]) (rest := []) C hU (c_X11_law_y hG v1 v2 v3 v4 v5) vm_X11_law ml_L_94 k_49.1 (hc := rfl) rfl (h1_49 hG) hl.1 rfl rfl (Nat.le_of_ble_eq_true rfl) dL_law_859 rfl rfl ⟨Nat.le_of_ble_eq_true rfl, Nat.le_of_ble_eq_true rfl⟩ ⟨by show cells + 0 ≤ 600000; omega, by show slots + 0 ≤ 7302250; omega⟩) hS (fun r1 iv1 rv1 H locs hG f1 g1 hp1 hU hS => ?_)
  refine lv_pop hx hb dL_law_862 rfl ?_
  refine lv_aload_n hx hb dL_law_863 rfl (lv_at hl 1 rfl) ?_
  refine lv_aload_n hx hb dL_law_864 rfl (lv_at hl 3 rfl) ?_
  refine lv_iload_n hx hb dL_law_865 rfl (lv_at hl 0 rfl) ?_
  refine lv_iconst (v := 1) hx hb dL_law_866 (by decide) ?_
  refine q_ai X hS (k := 1) (by decide) hi e1 dL_law_867 dL_law_868 ?_
  refine lv_aload_n hx hb dL_law_869 rfl (lv_at hl 3 rfl) ?_
  refine lv_iload_n hx hb dL_law_870 rfl (lv_at hl 0 rfl) ?_
  refine lv_iconst (v := 2) hx hb dL_law_871 (by decide) ?_
  refine q_ai X hS (k := 2) (by decide) hi e2 dL_law_872 dL_law_873 ?_
  refine lv_aload_n hx hb dL_law_874 rfl (lv_at hl 3 rfl) ?_
  refine lv_iload_n hx hb dL_law_875 rfl (lv_at hl 0 rfl) ?_
  refine lv_iconst (v := 3) hx hb dL_law_876 (by decide) ?_
  refine q_ai X hS (k := 3) (by decide) hi e3 dL_law_877 dL_law_878 ?_
  refine lv_aload_n hx hb dL_law_879 rfl (lv_at hl 3 rfl) ?_
  refine lv_iload_n hx hb dL_law_880 rfl (lv_at hl 0 rfl) ?_
  refine lv_iconst (v := 4) hx hb dL_law_881 (by decide) ?_
  refine q_ai X hS (k := 4) (by decide) hi e4 dL_law_882 dL_law_883 ?_
  refine lv_aload_n hx hb dL_law_884 rfl (lv_at hl 3 rfl) ?_
  refine lv_iload_n hx hb dL_law_885 rfl (lv_at hl 0 rfl) ?_
  refine lv_iconst (v := 5) hx hb dL_law_886 (by decide) ?_
  refine q_ai X hS (k := 5) (by decide) hi e5 dL_law_887 dL_law_888 ?_
  have hGp := hG
  refine W.eq (g2 := F0 m 889 ls [.int v5, .int v4, .int v3, .int v2, .int v1, .ref (al.2 0 0)]) (by rw [hom]) ?_
  refine q_fi (q_runV (t := 0) (i := 0) (As := [.int v1, .int v2, .int v3, .int v4, .int v5]) (rest := []) C hU (c_X12_law_y hG v1 v2 v3 v4 v5) vm_X12_law ml_L_98 k_0.1 (hc := rfl) rfl (h1_0 hG) hl.1 rfl rfl (Nat.le_of_ble_eq_true rfl) dL_law_889 rfl rfl ⟨Nat.le_of_ble_eq_true rfl, Nat.le_of_ble_eq_true rfl⟩ ⟨by show cells + 0 ≤ 600000; omega, by show slots + 0 ≤ 7302250; omega⟩) hS (fun r2 iv2 rv2 H locs hG f2 g2 hp2 hU hS => ?_)
  have hRel := REL.s_law hG0 hRel hp1 hp2 (EX.of f1 g1) f2 g2
  refine lv_pop hx hb dL_law_892 rfl ?_
  refine lv_goto (tgt := 1475) hx hb dL_law_893 (by decide) ?_
  refine W.widen (k := cells + 3) (n := slots + 16) (by omega) (by omega) ?_
  exact kk _ _ _ _ _ ⟨hG, hox, hom, hRel⟩ hU hS
set_option maxHeartbeats 4000000 in
set_option maxRecDepth 100000 in
theorem law_20 {p : Program} {l : Launch} {e : Env} {s : State} {m : MethodId} {below : List Frame} {meth : Method} {c : Code} {b L : Nat} {xs : Nat → Int32} {D : va_G} {cA : FieldType → ClassId} {ls : Array Slot} {Q : State → Prop} {H : Heap} {locs : List Loc} {cells slots : Nat} {i : Int32} {ox om : Nat} {al : Al} {iv : Iv} {rv : Rv} (X : LX p s m c b L xs D cA) (hl : lv_has ls 4 [(3, .int i), (2, .ref om), (1, .ref ox), (0, .ref b)]) (hi : 0 ≤ i.toInt ∧ i.toInt + 6 < L) (hQ : LSt ox om al iv rv) (hU : UW D cA s.heap.size al iv rv H) (hS : va_S (Aq s.heap.size) s.heap H locs) (hc : cells + 3 ≤ 600000 ∧ slots + 16 ≤ 7302250)
    (kk : ∀ (al' : Al) (iv' : Iv) (rv' : Rv) (H' : Heap) (locs' : List Loc), LSt ox om al' iv' rv' → UW D cA s.heap.size al' iv' rv' H' → va_S (Aq s.heap.size) s.heap H' locs' → W p l e room_1 s m #[Value.ref b] below meth c H' locs' (cells + 3) (slots + 16) Q (F0 m 1475 ls [])) : W p l e room_1 s m #[Value.ref b] below meth c H locs cells slots Q (F0 m 896 ls []) := by
  obtain ⟨hG, hox, hom, hRel⟩ := hQ
  have C := X.1
  have hx := C.1.1
  have hb := C.1.2.1
  obtain ⟨v1, e1⟩ : ∃ z, xs (i + 1).toNatClampNeg = z := ⟨_, rfl⟩
  obtain ⟨v2, e2⟩ : ∃ z, xs (i + 2).toNatClampNeg = z := ⟨_, rfl⟩
  obtain ⟨v3, e3⟩ : ∃ z, xs (i + 3).toNatClampNeg = z := ⟨_, rfl⟩
  obtain ⟨v4, e4⟩ : ∃ z, xs (i + 4).toNatClampNeg = z := ⟨_, rfl⟩
  refine lv_aload_n hx hb dL_law_896 rfl (lv_at hl 2 rfl) ?_
  refine lv_aload_n hx hb dL_law_897 rfl (lv_at hl 3 rfl) ?_
  refine lv_iload_n hx hb dL_law_898 rfl (lv_at hl 0 rfl) ?_
  refine lv_iconst (v := 1) hx hb dL_law_899 (by decide) ?_
  refine q_ai X hS (k := 1) (by decide) hi e1 dL_law_900 dL_law_901 ?_
  refine lv_aload_n hx hb dL_law_902 rfl (lv_at hl 3 rfl) ?_
  refine lv_iload_n hx hb dL_law_903 rfl (lv_at hl 0 rfl) ?_
  refine lv_iconst (v := 2) hx hb dL_law_904 (by decide) ?_
  refine q_ai X hS (k := 2) (by decide) hi e2 dL_law_905 dL_law_906 ?_
  refine lv_aload_n hx hb dL_law_907 rfl (lv_at hl 3 rfl) ?_
  refine lv_iload_n hx hb dL_law_908 rfl (lv_at hl 0 rfl) ?_
  refine lv_iconst (v := 3) hx hb dL_law_909 (by decide) ?_
  refine q_ai X hS (k := 3) (by decide) hi e3 dL_law_910 dL_law_911 ?_
  refine lv_aload_n hx hb dL_law_912 rfl (lv_at hl 3 rfl) ?_
  refine lv_iload_n hx hb dL_law_913 rfl (lv_at hl 0 rfl) ?_
  refine lv_iconst (v := 4) hx hb dL_law_914 (by decide) ?_
  refine q_ai X hS (k := 4) (by decide) hi e4 dL_law_915 dL_law_916 ?_
  have J_925 : ∀ zv4 : Int32, (0 ≤ zv4.toInt ∧ zv4.toInt ≤ 1) → zv4 = bz v4 → W p l e room_1 s m #[Value.ref b] below meth c H locs cells slots Q (F0 m 925 ls [.int zv4, .int v3, .int v2, .int v1, .ref ox]) := by
    intro zv4 rzv4 qzv4
    have hG0 := hG
    have hGp := hG
    refine W.eq (g2 := F0 m 925 ls [.int zv4, .int v3, .int v2, .int v1, .ref (al.2 49 0)]) (by rw [hox]) ?_
    refine q_fi (q_runV (t := 49) (i := 0) (As := [.int v1, .int v2, .int v3, .int zv4]) (rest := []) C hU (c_X11_excuse_y hG v1 v2 v3 zv4 rzv4) vm_X11_excuse ml_L_99 k_49.1 (hc := rfl) rfl (h1_49 hG) hl.1 rfl rfl (Nat.le_of_ble_eq_true rfl) dL_law_925 rfl rfl ⟨Nat.le_of_ble_eq_true rfl, Nat.le_of_ble_eq_true rfl⟩ ⟨by show cells + 0 ≤ 600000; omega, by show slots + 0 ≤ 7302250; omega⟩) hS (fun r1 iv1 rv1 H locs hG f1 g1 hp1 hU hS => ?_)
    refine lv_pop hx hb dL_law_928 rfl ?_
    refine lv_aload_n hx hb dL_law_929 rfl (lv_at hl 1 rfl) ?_
    refine lv_aload_n hx hb dL_law_930 rfl (lv_at hl 3 rfl) ?_
    refine lv_iload_n hx hb dL_law_931 rfl (lv_at hl 0 rfl) ?_
    refine lv_iconst (v := 1) hx hb dL_law_932 (by decide) ?_
    refine q_ai X hS (k := 1) (by decide) hi e1 dL_law_933 dL_law_934 ?_
    refine lv_aload_n hx hb dL_law_935 rfl (lv_at hl 3 rfl) ?_
    refine lv_iload_n hx hb dL_law_936 rfl (lv_at hl 0 rfl) ?_
    refine lv_iconst (v := 2) hx hb dL_law_937 (by decide) ?_
    refine q_ai X hS (k := 2) (by decide) hi e2 dL_law_938 dL_law_939 ?_
    refine lv_aload_n hx hb dL_law_940 rfl (lv_at hl 3 rfl) ?_
    refine lv_iload_n hx hb dL_law_941 rfl (lv_at hl 0 rfl) ?_
    refine lv_iconst (v := 3) hx hb dL_law_942 (by decide) ?_
    refine q_ai X hS (k := 3) (by decide) hi e3 dL_law_943 dL_law_944 ?_
    refine lv_aload_n hx hb dL_law_945 rfl (lv_at hl 3 rfl) ?_
    refine lv_iload_n hx hb dL_law_946 rfl (lv_at hl 0 rfl) ?_
    refine lv_iconst (v := 4) hx hb dL_law_947 (by decide) ?_
    refine q_ai X hS (k := 4) (by decide) hi e4 dL_law_948 dL_law_949 ?_
    have J_958 : ∀ zv4m : Int32, (0 ≤ zv4m.toInt ∧ zv4m.toInt ≤ 1) → zv4m = bz v4 → W p l e room_1 s m #[Value.ref b] below meth c H locs cells slots Q (F0 m 958 ls [.int zv4m, .int v3, .int v2, .int v1, .ref om]) := by
      intro zv4m rzv4m qzv4m
      have hGp := hG
      refine W.eq (g2 := F0 m 958 ls [.int zv4m, .int v3, .int v2, .int v1, .ref (al.2 0 0)]) (by rw [hom]) ?_
      refine q_fi (q_runV (t := 0) (i := 0) (As := [.int v1, .int v2, .int v3, .int zv4m]) (rest := []) C hU (c_X12_excuse_y hG v1 v2 v3 zv4m rzv4m) vm_X12_excuse ml_L_103 k_0.1 (hc := rfl) rfl (h1_0 hG) hl.1 rfl rfl (Nat.le_of_ble_eq_true rfl) dL_law_958 rfl rfl ⟨Nat.le_of_ble_eq_true rfl, Nat.le_of_ble_eq_true rfl⟩ ⟨by show cells + 0 ≤ 600000; omega, by show slots + 0 ≤ 7302250; omega⟩) hS (fun r2 iv2 rv2 H locs hG f2 g2 hp2 hU hS => ?_)
      have zv4m_e : zv4m = zv4 := qzv4m.trans qzv4.symm
      try rw [zv4m_e] at hp2
      have hRel := REL.s_excuse hG0 hRel hp1 hp2 (EX.of f1 g1) f2 g2
      refine lv_pop hx hb dL_law_961 rfl ?_
      refine lv_goto (tgt := 1475) hx hb dL_law_962 (by decide) ?_
      refine W.widen (k := cells + 3) (n := slots + 16) (by omega) (by omega) ?_
      exact kk _ _ _ _ _ ⟨hG, hox, hom, hRel⟩ hU hS
    refine b_if_eq (tgt := 957) hx hb dL_law_950 (by decide) (fun c0 => ?_) (fun c0 => ?_)
    · refine lv_iconst (v := 0) hx hb dL_law_957 (by decide) ?_
      exact J_958 0 ⟨by decide, by decide⟩ (bz_0 c0)
    · refine lv_iconst (v := 1) hx hb dL_law_953 (by decide) ?_
      refine lv_goto (tgt := 958) hx hb dL_law_954 (by decide) ?_
      exact J_958 1 ⟨by decide, by decide⟩ (bz_1 c0)
  refine b_if_eq (tgt := 924) hx hb dL_law_917 (by decide) (fun c0 => ?_) (fun c0 => ?_)
  · refine lv_iconst (v := 0) hx hb dL_law_924 (by decide) ?_
    exact J_925 0 ⟨by decide, by decide⟩ (bz_0 c0)
  · refine lv_iconst (v := 1) hx hb dL_law_920 (by decide) ?_
    refine lv_goto (tgt := 925) hx hb dL_law_921 (by decide) ?_
    exact J_925 1 ⟨by decide, by decide⟩ (bz_1 c0)
set_option maxHeartbeats 4000000 in
set_option maxRecDepth 100000 in
theorem law_21 {p : Program} {l : Launch} {e : Env} {s : State} {m : MethodId} {below : List Frame} {meth : Method} {c : Code} {b L : Nat} {xs : Nat → Int32} {D : va_G} {cA : FieldType → ClassId} {ls : Array Slot} {Q : State → Prop} {H : Heap} {locs : List Loc} {cells slots : Nat} {i : Int32} {ox om : Nat} {al : Al} {iv : Iv} {rv : Rv} (X : LX p s m c b L xs D cA) (hl : lv_has ls 4 [(3, .int i), (2, .ref om), (1, .ref ox), (0, .ref b)]) (hi : 0 ≤ i.toInt ∧ i.toInt + 6 < L) (hQ : LSt ox om al iv rv) (hU : UW D cA s.heap.size al iv rv H) (hS : va_S (Aq s.heap.size) s.heap H locs) (hc : cells + 3 ≤ 600000 ∧ slots + 16 ≤ 7302250)
    (kk : ∀ (al' : Al) (iv' : Iv) (rv' : Rv) (H' : Heap) (locs' : List Loc), LSt ox om al' iv' rv' → UW D cA s.heap.size al' iv' rv' H' → va_S (Aq s.heap.size) s.heap H' locs' → W p l e room_1 s m #[Value.ref b] below meth c H' locs' (cells + 3) (slots + 16) Q (F0 m 1475 ls [])) : W p l e room_1 s m #[Value.ref b] below meth c H locs cells slots Q (F0 m 965 ls []) := by
  obtain ⟨hG, hox, hom, hRel⟩ := hQ
  have C := X.1
  have hx := C.1.1
  have hb := C.1.2.1
  obtain ⟨v1, e1⟩ : ∃ z, xs (i + 1).toNatClampNeg = z := ⟨_, rfl⟩
  obtain ⟨v2, e2⟩ : ∃ z, xs (i + 2).toNatClampNeg = z := ⟨_, rfl⟩
  obtain ⟨v3, e3⟩ : ∃ z, xs (i + 3).toNatClampNeg = z := ⟨_, rfl⟩
  refine lv_aload_n hx hb dL_law_965 rfl (lv_at hl 2 rfl) ?_
  refine lv_aload_n hx hb dL_law_966 rfl (lv_at hl 3 rfl) ?_
  refine lv_iload_n hx hb dL_law_967 rfl (lv_at hl 0 rfl) ?_
  refine lv_iconst (v := 1) hx hb dL_law_968 (by decide) ?_
  refine q_ai X hS (k := 1) (by decide) hi e1 dL_law_969 dL_law_970 ?_
  refine lv_aload_n hx hb dL_law_971 rfl (lv_at hl 3 rfl) ?_
  refine lv_iload_n hx hb dL_law_972 rfl (lv_at hl 0 rfl) ?_
  refine lv_iconst (v := 2) hx hb dL_law_973 (by decide) ?_
  refine q_ai X hS (k := 2) (by decide) hi e2 dL_law_974 dL_law_975 ?_
  refine lv_aload_n hx hb dL_law_976 rfl (lv_at hl 3 rfl) ?_
  refine lv_iload_n hx hb dL_law_977 rfl (lv_at hl 0 rfl) ?_
  refine lv_iconst (v := 3) hx hb dL_law_978 (by decide) ?_
  refine q_ai X hS (k := 3) (by decide) hi e3 dL_law_979 dL_law_980 ?_
  have hG0 := hG
  have hGp := hG
  refine W.eq (g2 := F0 m 981 ls [.int v3, .int v2, .int v1, .ref (al.2 49 0)]) (by rw [hox]) ?_
  refine q_fi (q_runV (t := 49) (i := 0) (As := [.int v1, .int v2, .int v3]) (rest := []) C hU (c_X11_sum hG v1 v2 v3) vm_X11_sum ml_L_104 k_49.1 (hc := rfl) rfl (h1_49 hG) hl.1 rfl rfl (Nat.le_of_ble_eq_true rfl) dL_law_981 rfl rfl ⟨Nat.le_of_ble_eq_true rfl, Nat.le_of_ble_eq_true rfl⟩ ⟨by show cells + 0 ≤ 600000; omega, by show slots + 0 ≤ 7302250; omega⟩) hS (fun r1 iv1 rv1 H locs hG f1 g1 hp1 hU hS => ?_)
  have hRel := hRel.fr hGp f1 g1 (by decide)
  refine lv_pop hx hb dL_law_984 rfl ?_
  refine lv_aload_n hx hb dL_law_985 rfl (lv_at hl 1 rfl) ?_
  refine lv_aload_n hx hb dL_law_986 rfl (lv_at hl 3 rfl) ?_
  refine lv_iload_n hx hb dL_law_987 rfl (lv_at hl 0 rfl) ?_
  refine lv_iconst (v := 1) hx hb dL_law_988 (by decide) ?_
  refine q_ai X hS (k := 1) (by decide) hi e1 dL_law_989 dL_law_990 ?_
  refine lv_aload_n hx hb dL_law_991 rfl (lv_at hl 3 rfl) ?_
  refine lv_iload_n hx hb dL_law_992 rfl (lv_at hl 0 rfl) ?_
  refine lv_iconst (v := 2) hx hb dL_law_993 (by decide) ?_
  refine q_ai X hS (k := 2) (by decide) hi e2 dL_law_994 dL_law_995 ?_
  refine lv_aload_n hx hb dL_law_996 rfl (lv_at hl 3 rfl) ?_
  refine lv_iload_n hx hb dL_law_997 rfl (lv_at hl 0 rfl) ?_
  refine lv_iconst (v := 3) hx hb dL_law_998 (by decide) ?_
  refine q_ai X hS (k := 3) (by decide) hi e3 dL_law_999 dL_law_1000 ?_
  have hGp := hG
  refine W.eq (g2 := F0 m 1001 ls [.int v3, .int v2, .int v1, .ref (al.2 0 0)]) (by rw [hom]) ?_
  refine q_fi (q_runV (t := 0) (i := 0) (As := [.int v1, .int v2, .int v3]) (rest := []) C hU (c_X12_sum hG v1 v2 v3) vm_X12_sum ml_L_107 k_0.1 (hc := rfl) rfl (h1_0 hG) hl.1 rfl rfl (Nat.le_of_ble_eq_true rfl) dL_law_1001 rfl rfl ⟨Nat.le_of_ble_eq_true rfl, Nat.le_of_ble_eq_true rfl⟩ ⟨by show cells + 0 ≤ 600000; omega, by show slots + 0 ≤ 7302250; omega⟩) hS (fun r2 iv2 rv2 H locs hG f2 g2 hp2 hU hS => ?_)
  have hRel := hRel.fr hGp f2 g2 (by decide)
  refine lv_pop hx hb dL_law_1004 rfl ?_
  refine lv_goto (tgt := 1475) hx hb dL_law_1005 (by decide) ?_
  refine W.widen (k := cells + 3) (n := slots + 16) (by omega) (by omega) ?_
  exact kk _ _ _ _ _ ⟨hG, hox, hom, hRel⟩ hU hS
set_option maxHeartbeats 4000000 in
set_option maxRecDepth 100000 in
theorem law_22 {p : Program} {l : Launch} {e : Env} {s : State} {m : MethodId} {below : List Frame} {meth : Method} {c : Code} {b L : Nat} {xs : Nat → Int32} {D : va_G} {cA : FieldType → ClassId} {ls : Array Slot} {Q : State → Prop} {H : Heap} {locs : List Loc} {cells slots : Nat} {i : Int32} {ox om : Nat} {al : Al} {iv : Iv} {rv : Rv} (X : LX p s m c b L xs D cA) (hl : lv_has ls 4 [(3, .int i), (2, .ref om), (1, .ref ox), (0, .ref b)]) (hi : 0 ≤ i.toInt ∧ i.toInt + 6 < L) (hQ : LSt ox om al iv rv) (hU : UW D cA s.heap.size al iv rv H) (hS : va_S (Aq s.heap.size) s.heap H locs) (hc : cells + 3 ≤ 600000 ∧ slots + 16 ≤ 7302250)
    (kk : ∀ (al' : Al) (iv' : Iv) (rv' : Rv) (H' : Heap) (locs' : List Loc), LSt ox om al' iv' rv' → UW D cA s.heap.size al' iv' rv' H' → va_S (Aq s.heap.size) s.heap H' locs' → W p l e room_1 s m #[Value.ref b] below meth c H' locs' (cells + 3) (slots + 16) Q (F0 m 1475 ls [])) : W p l e room_1 s m #[Value.ref b] below meth c H locs cells slots Q (F0 m 1008 ls []) := by
  obtain ⟨hG, hox, hom, hRel⟩ := hQ
  have C := X.1
  have hx := C.1.1
  have hb := C.1.2.1
  obtain ⟨v1, e1⟩ : ∃ z, xs (i + 1).toNatClampNeg = z := ⟨_, rfl⟩
  obtain ⟨v2, e2⟩ : ∃ z, xs (i + 2).toNatClampNeg = z := ⟨_, rfl⟩
  refine lv_aload_n hx hb dL_law_1008 rfl (lv_at hl 2 rfl) ?_
  refine lv_aload_n hx hb dL_law_1009 rfl (lv_at hl 3 rfl) ?_
  refine lv_iload_n hx hb dL_law_1010 rfl (lv_at hl 0 rfl) ?_
  refine lv_iconst (v := 1) hx hb dL_law_1011 (by decide) ?_
  refine q_ai X hS (k := 1) (by decide) hi e1 dL_law_1012 dL_law_1013 ?_
  refine lv_aload_n hx hb dL_law_1014 rfl (lv_at hl 3 rfl) ?_
  refine lv_iload_n hx hb dL_law_1015 rfl (lv_at hl 0 rfl) ?_
  refine lv_iconst (v := 2) hx hb dL_law_1016 (by decide) ?_
  refine q_ai X hS (k := 2) (by decide) hi e2 dL_law_1017 dL_law_1018 ?_
  have hG0 := hG
  have hGp := hG
  refine W.eq (g2 := F0 m 1019 ls [.int v2, .int v1, .ref (al.2 49 0)]) (by rw [hox]) ?_
  refine q_fi (q_runV (t := 49) (i := 0) (As := [.int v1, .int v2]) (rest := []) C hU (c_X11_bar_x hG v1 v2) vm_X11_bar ml_L_108 k_49.1 (hc := rfl) rfl (h1_49 hG) hl.1 rfl rfl (Nat.le_of_ble_eq_true rfl) dL_law_1019 rfl rfl ⟨Nat.le_of_ble_eq_true rfl, Nat.le_of_ble_eq_true rfl⟩ ⟨by show cells + 0 ≤ 600000; omega, by show slots + 0 ≤ 7302250; omega⟩) hS (fun r1 iv1 rv1 H locs hG f1 g1 hp1 hU hS => ?_)
  refine lv_pop hx hb dL_law_1022 rfl ?_
  refine lv_aload_n hx hb dL_law_1023 rfl (lv_at hl 1 rfl) ?_
  refine lv_aload_n hx hb dL_law_1024 rfl (lv_at hl 3 rfl) ?_
  refine lv_iload_n hx hb dL_law_1025 rfl (lv_at hl 0 rfl) ?_
  refine lv_iconst (v := 1) hx hb dL_law_1026 (by decide) ?_
  refine q_ai X hS (k := 1) (by decide) hi e1 dL_law_1027 dL_law_1028 ?_
  refine lv_aload_n hx hb dL_law_1029 rfl (lv_at hl 3 rfl) ?_
  refine lv_iload_n hx hb dL_law_1030 rfl (lv_at hl 0 rfl) ?_
  refine lv_iconst (v := 2) hx hb dL_law_1031 (by decide) ?_
  refine q_ai X hS (k := 2) (by decide) hi e2 dL_law_1032 dL_law_1033 ?_
  have hGp := hG
  refine W.eq (g2 := F0 m 1034 ls [.int v2, .int v1, .ref (al.2 0 0)]) (by rw [hom]) ?_
  refine q_fi (q_runV (t := 0) (i := 0) (As := [.int v1, .int v2]) (rest := []) C hU (c_X12_bar_x hG v1 v2) vm_X12_bar ml_L_111 k_0.1 (hc := rfl) rfl (h1_0 hG) hl.1 rfl rfl (Nat.le_of_ble_eq_true rfl) dL_law_1034 rfl rfl ⟨Nat.le_of_ble_eq_true rfl, Nat.le_of_ble_eq_true rfl⟩ ⟨by show cells + 0 ≤ 600000; omega, by show slots + 0 ≤ 7302250; omega⟩) hS (fun r2 iv2 rv2 H locs hG f2 g2 hp2 hU hS => ?_)
  have hRel := REL.s_bar hG0 hRel hp1 hp2 (EX.of f1 g1) f2 g2
  refine lv_pop hx hb dL_law_1037 rfl ?_
  refine lv_goto (tgt := 1475) hx hb dL_law_1038 (by decide) ?_
  refine W.widen (k := cells + 3) (n := slots + 16) (by omega) (by omega) ?_
  exact kk _ _ _ _ _ ⟨hG, hox, hom, hRel⟩ hU hS
set_option maxHeartbeats 4000000 in
set_option maxRecDepth 100000 in
theorem law_23 {p : Program} {l : Launch} {e : Env} {s : State} {m : MethodId} {below : List Frame} {meth : Method} {c : Code} {b L : Nat} {xs : Nat → Int32} {D : va_G} {cA : FieldType → ClassId} {ls : Array Slot} {Q : State → Prop} {H : Heap} {locs : List Loc} {cells slots : Nat} {i : Int32} {ox om : Nat} {al : Al} {iv : Iv} {rv : Rv} (X : LX p s m c b L xs D cA) (hl : lv_has ls 4 [(3, .int i), (2, .ref om), (1, .ref ox), (0, .ref b)]) (hi : 0 ≤ i.toInt ∧ i.toInt + 6 < L) (hQ : LSt ox om al iv rv) (hU : UW D cA s.heap.size al iv rv H) (hS : va_S (Aq s.heap.size) s.heap H locs) (hc : cells + 3 ≤ 600000 ∧ slots + 16 ≤ 7302250)
    (kk : ∀ (al' : Al) (iv' : Iv) (rv' : Rv) (H' : Heap) (locs' : List Loc), LSt ox om al' iv' rv' → UW D cA s.heap.size al' iv' rv' H' → va_S (Aq s.heap.size) s.heap H' locs' → W p l e room_1 s m #[Value.ref b] below meth c H' locs' (cells + 3) (slots + 16) Q (F0 m 1475 ls [])) : W p l e room_1 s m #[Value.ref b] below meth c H locs cells slots Q (F0 m 1041 ls []) := by
  obtain ⟨hG, hox, hom, hRel⟩ := hQ
  have C := X.1
  have hx := C.1.1
  have hb := C.1.2.1
  obtain ⟨v1, e1⟩ : ∃ z, xs (i + 1).toNatClampNeg = z := ⟨_, rfl⟩
  obtain ⟨v2, e2⟩ : ∃ z, xs (i + 2).toNatClampNeg = z := ⟨_, rfl⟩
  obtain ⟨v3, e3⟩ : ∃ z, xs (i + 3).toNatClampNeg = z := ⟨_, rfl⟩
  refine lv_aload_n hx hb dL_law_1041 rfl (lv_at hl 2 rfl) ?_
  refine lv_aload_n hx hb dL_law_1042 rfl (lv_at hl 3 rfl) ?_
  refine lv_iload_n hx hb dL_law_1043 rfl (lv_at hl 0 rfl) ?_
  refine lv_iconst (v := 1) hx hb dL_law_1044 (by decide) ?_
  refine q_ai X hS (k := 1) (by decide) hi e1 dL_law_1045 dL_law_1046 ?_
  refine lv_aload_n hx hb dL_law_1047 rfl (lv_at hl 3 rfl) ?_
  refine lv_iload_n hx hb dL_law_1048 rfl (lv_at hl 0 rfl) ?_
  refine lv_iconst (v := 2) hx hb dL_law_1049 (by decide) ?_
  refine q_ai X hS (k := 2) (by decide) hi e2 dL_law_1050 dL_law_1051 ?_
  refine lv_aload_n hx hb dL_law_1052 rfl (lv_at hl 3 rfl) ?_
  refine lv_iload_n hx hb dL_law_1053 rfl (lv_at hl 0 rfl) ?_
  refine lv_iconst (v := 3) hx hb dL_law_1054 (by decide) ?_
  refine q_ai X hS (k := 3) (by decide) hi e3 dL_law_1055 dL_law_1056 ?_
  have hG0 := hG
  have hGp := hG
  refine W.eq (g2 := F0 m 1057 ls [.int v3, .int v2, .int v1, .ref (al.2 49 0)]) (by rw [hox]) ?_
  refine q_fi (q_runV (t := 49) (i := 0) (As := [.int v1, .int v2, .int v3]) (rest := []) C hU (c_X11_stop_y hG v1 v2 v3) vm_X11_stop ml_L_112 k_49.1 (hc := rfl) rfl (h1_49 hG) hl.1 rfl rfl (Nat.le_of_ble_eq_true rfl) dL_law_1057 rfl rfl ⟨Nat.le_of_ble_eq_true rfl, Nat.le_of_ble_eq_true rfl⟩ ⟨by show cells + 0 ≤ 600000; omega, by show slots + 0 ≤ 7302250; omega⟩) hS (fun r1 iv1 rv1 H locs hG f1 g1 hp1 hU hS => ?_)
  refine lv_pop hx hb dL_law_1060 rfl ?_
  refine lv_aload_n hx hb dL_law_1061 rfl (lv_at hl 1 rfl) ?_
  refine lv_aload_n hx hb dL_law_1062 rfl (lv_at hl 3 rfl) ?_
  refine lv_iload_n hx hb dL_law_1063 rfl (lv_at hl 0 rfl) ?_
  refine lv_iconst (v := 1) hx hb dL_law_1064 (by decide) ?_
  refine q_ai X hS (k := 1) (by decide) hi e1 dL_law_1065 dL_law_1066 ?_
  refine lv_aload_n hx hb dL_law_1067 rfl (lv_at hl 3 rfl) ?_
  refine lv_iload_n hx hb dL_law_1068 rfl (lv_at hl 0 rfl) ?_
  refine lv_iconst (v := 2) hx hb dL_law_1069 (by decide) ?_
  refine q_ai X hS (k := 2) (by decide) hi e2 dL_law_1070 dL_law_1071 ?_
  refine lv_aload_n hx hb dL_law_1072 rfl (lv_at hl 3 rfl) ?_
  refine lv_iload_n hx hb dL_law_1073 rfl (lv_at hl 0 rfl) ?_
  refine lv_iconst (v := 3) hx hb dL_law_1074 (by decide) ?_
  refine q_ai X hS (k := 3) (by decide) hi e3 dL_law_1075 dL_law_1076 ?_
  have hGp := hG
  refine W.eq (g2 := F0 m 1077 ls [.int v3, .int v2, .int v1, .ref (al.2 0 0)]) (by rw [hom]) ?_
  refine q_fi (q_runV (t := 0) (i := 0) (As := [.int v1, .int v2, .int v3]) (rest := []) C hU (c_X12_stop_y hG v1 v2 v3) vm_X12_stop ml_L_115 k_0.1 (hc := rfl) rfl (h1_0 hG) hl.1 rfl rfl (Nat.le_of_ble_eq_true rfl) dL_law_1077 rfl rfl ⟨Nat.le_of_ble_eq_true rfl, Nat.le_of_ble_eq_true rfl⟩ ⟨by show cells + 0 ≤ 600000; omega, by show slots + 0 ≤ 7302250; omega⟩) hS (fun r2 iv2 rv2 H locs hG f2 g2 hp2 hU hS => ?_)
  have hRel := REL.s_stop hG0 hRel hp1 hp2 (EX.of f1 g1) f2 g2
  refine lv_pop hx hb dL_law_1080 rfl ?_
  refine lv_goto (tgt := 1475) hx hb dL_law_1081 (by decide) ?_
  refine W.widen (k := cells + 3) (n := slots + 16) (by omega) (by omega) ?_
  exact kk _ _ _ _ _ ⟨hG, hox, hom, hRel⟩ hU hS
set_option maxHeartbeats 4000000 in
set_option maxRecDepth 100000 in
theorem law_24 {p : Program} {l : Launch} {e : Env} {s : State} {m : MethodId} {below : List Frame} {meth : Method} {c : Code} {b L : Nat} {xs : Nat → Int32} {D : va_G} {cA : FieldType → ClassId} {ls : Array Slot} {Q : State → Prop} {H : Heap} {locs : List Loc} {cells slots : Nat} {i : Int32} {ox om : Nat} {al : Al} {iv : Iv} {rv : Rv} (X : LX p s m c b L xs D cA) (hl : lv_has ls 4 [(3, .int i), (2, .ref om), (1, .ref ox), (0, .ref b)]) (hi : 0 ≤ i.toInt ∧ i.toInt + 6 < L) (hQ : LSt ox om al iv rv) (hU : UW D cA s.heap.size al iv rv H) (hS : va_S (Aq s.heap.size) s.heap H locs) (hc : cells + 3 ≤ 600000 ∧ slots + 16 ≤ 7302250)
    (kk : ∀ (al' : Al) (iv' : Iv) (rv' : Rv) (H' : Heap) (locs' : List Loc), LSt ox om al' iv' rv' → UW D cA s.heap.size al' iv' rv' H' → va_S (Aq s.heap.size) s.heap H' locs' → W p l e room_1 s m #[Value.ref b] below meth c H' locs' (cells + 3) (slots + 16) Q (F0 m 1475 ls [])) : W p l e room_1 s m #[Value.ref b] below meth c H locs cells slots Q (F0 m 1084 ls []) := by
  obtain ⟨hG, hox, hom, hRel⟩ := hQ
  have C := X.1
  have hx := C.1.1
  have hb := C.1.2.1
  obtain ⟨v1, e1⟩ : ∃ z, xs (i + 1).toNatClampNeg = z := ⟨_, rfl⟩
  refine lv_aload_n hx hb dL_law_1084 rfl (lv_at hl 2 rfl) ?_
  refine lv_aload_n hx hb dL_law_1085 rfl (lv_at hl 3 rfl) ?_
  refine lv_iload_n hx hb dL_law_1086 rfl (lv_at hl 0 rfl) ?_
  refine lv_iconst (v := 1) hx hb dL_law_1087 (by decide) ?_
  refine q_ai X hS (k := 1) (by decide) hi e1 dL_law_1088 dL_law_1089 ?_
  have hG0 := hG
  have hGp := hG
  refine W.eq (g2 := F0 m 1090 ls [.int v1, .ref (al.2 49 0)]) (by rw [hox]) ?_
  refine q_ciA (q_runVA (t := 49) (i := 0) (As := [.int v1]) (rest := []) C hU hS.1 (c_X11_claim_y hG v1 ⟨hRel.2.2.2.2.2.2.2.1, hRel.2.2.2.2.2.2.2.2.2.2.2.2.2.2.2.2.2.1⟩) vm_X11_claim ml_L_116 k_49.1 (hc := rfl) rfl (h1_49 hG) hl.1 rfl rfl (Nat.le_of_ble_eq_true rfl) dL_law_1090 rfl rfl ⟨Nat.le_of_ble_eq_true rfl, Nat.le_of_ble_eq_true rfl⟩ ⟨by show cells + 2 ≤ 600000; omega, by show slots + 9 ≤ 7302250; omega⟩) hS hS.1 (fun r1 al1 iv1 rv1 H locs hp1 hU hS _ => ?_)
  obtain ⟨hG1, hE1, hp1⟩ := hp1
  have hox := (hE1.2.1 49 0 (h1_49 hG)).trans hox
  have hom := (hE1.2.1 0 0 (h1_0 hG)).trans hom
  have hG := hG1
  refine W.widen (k := cells + 3) (n := slots + 16) (by omega) (by omega) ?_
  refine lv_pop hx hb dL_law_1093 rfl ?_
  refine lv_aload_n hx hb dL_law_1094 rfl (lv_at hl 1 rfl) ?_
  refine lv_aload_n hx hb dL_law_1095 rfl (lv_at hl 3 rfl) ?_
  refine lv_iload_n hx hb dL_law_1096 rfl (lv_at hl 0 rfl) ?_
  refine lv_iconst (v := 1) hx hb dL_law_1097 (by decide) ?_
  refine q_ai X hS (k := 1) (by decide) hi e1 dL_law_1098 dL_law_1099 ?_
  have hGp := hG
  refine W.eq (g2 := F0 m 1100 ls [.int v1, .ref (al1.2 0 0)]) (by rw [hom]) ?_
  refine q_fi (q_runV (t := 0) (i := 0) (As := [.int v1]) (rest := []) C hU (c_X12_claim_x hG v1) vm_X12_claim ml_L_119 k_0.1 (hc := rfl) rfl (h1_0 hG) hl.1 rfl rfl (Nat.le_of_ble_eq_true rfl) dL_law_1100 rfl rfl ⟨Nat.le_of_ble_eq_true rfl, Nat.le_of_ble_eq_true rfl⟩ ⟨by show (cells + 3) + 0 ≤ 600000; omega, by show (slots + 16) + 0 ≤ 7302250; omega⟩) hS (fun r2 iv2 rv2 H locs hG f2 g2 hp2 hU hS => ?_)
  have hRel := REL.s_claim hG0 hRel hp1 hp2 hE1 f2 g2
  refine lv_pop hx hb dL_law_1103 rfl ?_
  refine lv_goto (tgt := 1475) hx hb dL_law_1104 (by decide) ?_
  exact kk _ _ _ _ _ ⟨hG, hox, hom, hRel⟩ hU hS
set_option maxHeartbeats 4000000 in
set_option maxRecDepth 100000 in
theorem law_25 {p : Program} {l : Launch} {e : Env} {s : State} {m : MethodId} {below : List Frame} {meth : Method} {c : Code} {b L : Nat} {xs : Nat → Int32} {D : va_G} {cA : FieldType → ClassId} {ls : Array Slot} {Q : State → Prop} {H : Heap} {locs : List Loc} {cells slots : Nat} {i : Int32} {ox om : Nat} {al : Al} {iv : Iv} {rv : Rv} (X : LX p s m c b L xs D cA) (hl : lv_has ls 4 [(3, .int i), (2, .ref om), (1, .ref ox), (0, .ref b)]) (hi : 0 ≤ i.toInt ∧ i.toInt + 6 < L) (hQ : LSt ox om al iv rv) (hU : UW D cA s.heap.size al iv rv H) (hS : va_S (Aq s.heap.size) s.heap H locs) (hc : cells + 3 ≤ 600000 ∧ slots + 16 ≤ 7302250)
    (kk : ∀ (al' : Al) (iv' : Iv) (rv' : Rv) (H' : Heap) (locs' : List Loc), LSt ox om al' iv' rv' → UW D cA s.heap.size al' iv' rv' H' → va_S (Aq s.heap.size) s.heap H' locs' → W p l e room_1 s m #[Value.ref b] below meth c H' locs' (cells + 3) (slots + 16) Q (F0 m 1475 ls [])) : W p l e room_1 s m #[Value.ref b] below meth c H locs cells slots Q (F0 m 1107 ls []) := by
  obtain ⟨hG, hox, hom, hRel⟩ := hQ
  have C := X.1
  have hx := C.1.1
  have hb := C.1.2.1
  obtain ⟨v1, e1⟩ : ∃ z, xs (i + 1).toNatClampNeg = z := ⟨_, rfl⟩
  obtain ⟨v2, e2⟩ : ∃ z, xs (i + 2).toNatClampNeg = z := ⟨_, rfl⟩
  refine lv_aload_n hx hb dL_law_1107 rfl (lv_at hl 2 rfl) ?_
  refine lv_aload_n hx hb dL_law_1108 rfl (lv_at hl 3 rfl) ?_
  refine lv_iload_n hx hb dL_law_1109 rfl (lv_at hl 0 rfl) ?_
  refine lv_iconst (v := 1) hx hb dL_law_1110 (by decide) ?_
  refine q_ai X hS (k := 1) (by decide) hi e1 dL_law_1111 dL_law_1112 ?_
  refine lv_aload_n hx hb dL_law_1113 rfl (lv_at hl 3 rfl) ?_
  refine lv_iload_n hx hb dL_law_1114 rfl (lv_at hl 0 rfl) ?_
  refine lv_iconst (v := 2) hx hb dL_law_1115 (by decide) ?_
  refine q_ai X hS (k := 2) (by decide) hi e2 dL_law_1116 dL_law_1117 ?_
  have hG0 := hG
  have hGp := hG
  refine W.eq (g2 := F0 m 1118 ls [.int v2, .int v1, .ref (al.2 49 0)]) (by rw [hox]) ?_
  refine q_fi (q_runV (t := 49) (i := 0) (As := [.int v1, .int v2]) (rest := []) C hU (c_X11_claimOf_x hG v1 v2 ⟨⟨⟨⟨⟨⟨⟨hRel.2.2.2.1, hRel.2.2.2.2.1, hRel.1⟩, hRel.2.2.2.2.2.1, hRel.2.2.2.2.2.2.1, hRel.2.2.1⟩, hRel.2.2.2.2.2.2.2.2.2.1⟩, hRel.2.2.2.2.2.2.2.1, hRel.2.2.2.2.2.2.2.2.1⟩, hRel.2.2.2.2.2.2.2.2.2.2.1, hRel.2.2.2.2.2.2.2.2.2.2.2.2.2.2.1, hRel.2.2.2.2.2.2.2.2.2.2.2.2.2.2.2.1, hRel.2.2.2.2.2.2.2.2.2.2.2.2.1, hRel.2.2.2.2.2.2.2.2.2.2.2.2.2.1⟩, hRel.2.1, hRel.2.2.2.2.2.2.2.2.2.2.2.2.2.2.2.2.1, hRel.2.2.2.2.2.2.2.2.2.2.2.2.2.2.2.2.2.1⟩, hRel.2.2.2.2.2.2.2.2.2.2.2.2.2.2.2.2.2.2.1⟩ (hRel.2.2.2.2.2.2.2.2.2.2.2.2.2.2.2.2.2.2.2)) vm_X11_claimOf ml_L_120 k_49.1 (hc := rfl) rfl (h1_49 hG) hl.1 rfl rfl (Nat.le_of_ble_eq_true rfl) dL_law_1118 rfl rfl ⟨Nat.le_of_ble_eq_true rfl, Nat.le_of_ble_eq_true rfl⟩ ⟨by show cells + 0 ≤ 600000; omega, by show slots + 0 ≤ 7302250; omega⟩) hS (fun r1 iv1 rv1 H locs hG f1 g1 hp1 hU hS => ?_)
  refine lv_aload_n hx hb dL_law_1121 rfl (lv_at hl 1 rfl) ?_
  refine lv_aload_n hx hb dL_law_1122 rfl (lv_at hl 3 rfl) ?_
  refine lv_iload_n hx hb dL_law_1123 rfl (lv_at hl 0 rfl) ?_
  refine lv_iconst (v := 1) hx hb dL_law_1124 (by decide) ?_
  refine q_ai X hS (k := 1) (by decide) hi e1 dL_law_1125 dL_law_1126 ?_
  refine lv_aload_n hx hb dL_law_1127 rfl (lv_at hl 3 rfl) ?_
  refine lv_iload_n hx hb dL_law_1128 rfl (lv_at hl 0 rfl) ?_
  refine lv_iconst (v := 2) hx hb dL_law_1129 (by decide) ?_
  refine q_ai X hS (k := 2) (by decide) hi e2 dL_law_1130 dL_law_1131 ?_
  have hGp := hG
  refine W.eq (g2 := F0 m 1132 ls [.int v2, .int v1, .ref (al.2 0 0), .int r1]) (by rw [hom]) ?_
  have hRel1 := hRel.fr hG0 f1 g1 (by decide)
  refine q_fi (q_runV (t := 0) (i := 0) (As := [.int v1, .int v2]) (rest := [.int r1]) C hU (c_X12_claimOf_x hG v1 v2 ⟨hRel1.2.2.2.1, hRel1.2.2.2.2.1, hRel1.1, hRel1.2.2.2.2.2.2.2.1, hRel1.2.2.2.2.2.2.2.2.1⟩) vm_X12_claimOf ml_L_123 k_0.1 (hc := rfl) rfl (h1_0 hG) hl.1 rfl rfl (Nat.le_of_ble_eq_true rfl) dL_law_1132 rfl rfl ⟨Nat.le_of_ble_eq_true rfl, Nat.le_of_ble_eq_true rfl⟩ ⟨by show cells + 0 ≤ 600000; omega, by show slots + 0 ≤ 7302250; omega⟩) hS (fun r2 iv2 rv2 H locs hG f2 g2 hp2 hU hS => ?_)
  have hE := REL.a_claimOf hG0 hRel hp1 hp2 (EX.of f1 g1) f2 g2
  have hRel := REL.s_claimOf hG0 hRel hp1 hp2 (EX.of f1 g1) f2 g2
  refine b_icmp_eq (tgt := 1475) hx hb dL_law_1135 (by decide) (fun c0 => ?_) (fun c0 => absurd (congrArg Int32.toInt hE) c0)
  refine W.widen (k := cells + 3) (n := slots + 16) (by omega) (by omega) ?_
  exact kk _ _ _ _ _ ⟨hG, hox, hom, hRel⟩ hU hS
set_option maxHeartbeats 4000000 in
set_option maxRecDepth 100000 in
theorem law_26 {p : Program} {l : Launch} {e : Env} {s : State} {m : MethodId} {below : List Frame} {meth : Method} {c : Code} {b L : Nat} {xs : Nat → Int32} {D : va_G} {cA : FieldType → ClassId} {ls : Array Slot} {Q : State → Prop} {H : Heap} {locs : List Loc} {cells slots : Nat} {i : Int32} {ox om : Nat} {al : Al} {iv : Iv} {rv : Rv} (X : LX p s m c b L xs D cA) (hl : lv_has ls 4 [(3, .int i), (2, .ref om), (1, .ref ox), (0, .ref b)]) (hi : 0 ≤ i.toInt ∧ i.toInt + 6 < L) (hQ : LSt ox om al iv rv) (hU : UW D cA s.heap.size al iv rv H) (hS : va_S (Aq s.heap.size) s.heap H locs) (hc : cells + 3 ≤ 600000 ∧ slots + 16 ≤ 7302250)
    (kk : ∀ (al' : Al) (iv' : Iv) (rv' : Rv) (H' : Heap) (locs' : List Loc), LSt ox om al' iv' rv' → UW D cA s.heap.size al' iv' rv' H' → va_S (Aq s.heap.size) s.heap H' locs' → W p l e room_1 s m #[Value.ref b] below meth c H' locs' (cells + 3) (slots + 16) Q (F0 m 1475 ls [])) : W p l e room_1 s m #[Value.ref b] below meth c H locs cells slots Q (F0 m 1140 ls []) := by
  obtain ⟨hG, hox, hom, hRel⟩ := hQ
  have C := X.1
  have hx := C.1.1
  have hb := C.1.2.1
  obtain ⟨v1, e1⟩ : ∃ z, xs (i + 1).toNatClampNeg = z := ⟨_, rfl⟩
  obtain ⟨v2, e2⟩ : ∃ z, xs (i + 2).toNatClampNeg = z := ⟨_, rfl⟩
  obtain ⟨v3, e3⟩ : ∃ z, xs (i + 3).toNatClampNeg = z := ⟨_, rfl⟩
  refine lv_aload_n hx hb dL_law_1140 rfl (lv_at hl 2 rfl) ?_
  refine lv_aload_n hx hb dL_law_1141 rfl (lv_at hl 3 rfl) ?_
  refine lv_iload_n hx hb dL_law_1142 rfl (lv_at hl 0 rfl) ?_
  refine lv_iconst (v := 1) hx hb dL_law_1143 (by decide) ?_
  refine q_ai X hS (k := 1) (by decide) hi e1 dL_law_1144 dL_law_1145 ?_
  refine lv_aload_n hx hb dL_law_1146 rfl (lv_at hl 3 rfl) ?_
  refine lv_iload_n hx hb dL_law_1147 rfl (lv_at hl 0 rfl) ?_
  refine lv_iconst (v := 2) hx hb dL_law_1148 (by decide) ?_
  refine q_ai X hS (k := 2) (by decide) hi e2 dL_law_1149 dL_law_1150 ?_
  refine lv_aload_n hx hb dL_law_1151 rfl (lv_at hl 3 rfl) ?_
  refine lv_iload_n hx hb dL_law_1152 rfl (lv_at hl 0 rfl) ?_
  refine lv_iconst (v := 3) hx hb dL_law_1153 (by decide) ?_
  refine q_ai X hS (k := 3) (by decide) hi e3 dL_law_1154 dL_law_1155 ?_
  have hG0 := hG
  have hGp := hG
  refine W.eq (g2 := F0 m 1156 ls [.int v3, .int v2, .int v1, .ref (al.2 49 0)]) (by rw [hox]) ?_
  refine q_fi (q_runV (t := 49) (i := 0) (As := [.int v1, .int v2, .int v3]) (rest := []) C hU (c_X11_owes hG v1 v2 v3) vm_X11_owes ml_L_124 k_49.1 (hc := rfl) rfl (h1_49 hG) hl.1 rfl rfl (Nat.le_of_ble_eq_true rfl) dL_law_1156 rfl rfl ⟨Nat.le_of_ble_eq_true rfl, Nat.le_of_ble_eq_true rfl⟩ ⟨by show cells + 0 ≤ 600000; omega, by show slots + 0 ≤ 7302250; omega⟩) hS (fun r1 iv1 rv1 H locs hG f1 g1 hp1 hU hS => ?_)
  have hRel := hRel.fr hGp f1 g1 (by decide)
  refine lv_pop hx hb dL_law_1159 rfl ?_
  refine lv_aload_n hx hb dL_law_1160 rfl (lv_at hl 1 rfl) ?_
  refine lv_aload_n hx hb dL_law_1161 rfl (lv_at hl 3 rfl) ?_
  refine lv_iload_n hx hb dL_law_1162 rfl (lv_at hl 0 rfl) ?_
  refine lv_iconst (v := 1) hx hb dL_law_1163 (by decide) ?_
  refine q_ai X hS (k := 1) (by decide) hi e1 dL_law_1164 dL_law_1165 ?_
  refine lv_aload_n hx hb dL_law_1166 rfl (lv_at hl 3 rfl) ?_
  refine lv_iload_n hx hb dL_law_1167 rfl (lv_at hl 0 rfl) ?_
  refine lv_iconst (v := 2) hx hb dL_law_1168 (by decide) ?_
  refine q_ai X hS (k := 2) (by decide) hi e2 dL_law_1169 dL_law_1170 ?_
  refine lv_aload_n hx hb dL_law_1171 rfl (lv_at hl 3 rfl) ?_
  refine lv_iload_n hx hb dL_law_1172 rfl (lv_at hl 0 rfl) ?_
  refine lv_iconst (v := 3) hx hb dL_law_1173 (by decide) ?_
  refine q_ai X hS (k := 3) (by decide) hi e3 dL_law_1174 dL_law_1175 ?_
  have hGp := hG
  refine W.eq (g2 := F0 m 1176 ls [.int v3, .int v2, .int v1, .ref (al.2 0 0)]) (by rw [hom]) ?_
  refine q_fi (q_runV (t := 0) (i := 0) (As := [.int v1, .int v2, .int v3]) (rest := []) C hU (c_X12_owes hG v1 v2 v3) vm_X12_owes ml_L_127 k_0.1 (hc := rfl) rfl (h1_0 hG) hl.1 rfl rfl (Nat.le_of_ble_eq_true rfl) dL_law_1176 rfl rfl ⟨Nat.le_of_ble_eq_true rfl, Nat.le_of_ble_eq_true rfl⟩ ⟨by show cells + 0 ≤ 600000; omega, by show slots + 0 ≤ 7302250; omega⟩) hS (fun r2 iv2 rv2 H locs hG f2 g2 hp2 hU hS => ?_)
  have hRel := hRel.fr hGp f2 g2 (by decide)
  refine lv_pop hx hb dL_law_1179 rfl ?_
  refine lv_goto (tgt := 1475) hx hb dL_law_1180 (by decide) ?_
  refine W.widen (k := cells + 3) (n := slots + 16) (by omega) (by omega) ?_
  exact kk _ _ _ _ _ ⟨hG, hox, hom, hRel⟩ hU hS
end
section
set_option maxHeartbeats 4000000 in
set_option maxRecDepth 100000 in
theorem law_27 {p : Program} {l : Launch} {e : Env} {s : State} {m : MethodId} {below : List Frame} {meth : Method} {c : Code} {b L : Nat} {xs : Nat → Int32} {D : va_G} {cA : FieldType → ClassId} {ls : Array Slot} {Q : State → Prop} {H : Heap} {locs : List Loc} {cells slots : Nat} {i : Int32} {ox om : Nat} {al : Al} {iv : Iv} {rv : Rv} (X : LX p s m c b L xs D cA) (hl : lv_has ls 4 [(3, .int i), (2, .ref om), (1, .ref ox), (0, .ref b)]) (hi : 0 ≤ i.toInt ∧ i.toInt + 6 < L) (hQ : LSt ox om al iv rv) (hU : UW D cA s.heap.size al iv rv H) (hS : va_S (Aq s.heap.size) s.heap H locs) (hc : cells + 3 ≤ 600000 ∧ slots + 16 ≤ 7302250)
    (kk : ∀ (al' : Al) (iv' : Iv) (rv' : Rv) (H' : Heap) (locs' : List Loc), LSt ox om al' iv' rv' → UW D cA s.heap.size al' iv' rv' H' → va_S (Aq s.heap.size) s.heap H' locs' → W p l e room_1 s m #[Value.ref b] below meth c H' locs' (cells + 3) (slots + 16) Q (F0 m 1475 ls [])) : W p l e room_1 s m #[Value.ref b] below meth c H locs cells slots Q (F0 m 1183 ls []) := by
  obtain ⟨hG, hox, hom, hRel⟩ := hQ
  have C := X.1
  have hx := C.1.1
  have hb := C.1.2.1
  obtain ⟨v1, e1⟩ : ∃ z, xs (i + 1).toNatClampNeg = z := ⟨_, rfl⟩
  obtain ⟨v2, e2⟩ : ∃ z, xs (i + 2).toNatClampNeg = z := ⟨_, rfl⟩
  obtain ⟨v3, e3⟩ : ∃ z, xs (i + 3).toNatClampNeg = z := ⟨_, rfl⟩
  refine lv_aload_n hx hb dL_law_1183 rfl (lv_at hl 2 rfl) ?_
  refine lv_aload_n hx hb dL_law_1184 rfl (lv_at hl 3 rfl) ?_
  refine lv_iload_n hx hb dL_law_1185 rfl (lv_at hl 0 rfl) ?_
  refine lv_iconst (v := 1) hx hb dL_law_1186 (by decide) ?_
  refine q_ai X hS (k := 1) (by decide) hi e1 dL_law_1187 dL_law_1188 ?_
  refine lv_aload_n hx hb dL_law_1189 rfl (lv_at hl 3 rfl) ?_
  refine lv_iload_n hx hb dL_law_1190 rfl (lv_at hl 0 rfl) ?_
  refine lv_iconst (v := 2) hx hb dL_law_1191 (by decide) ?_
  refine q_ai X hS (k := 2) (by decide) hi e2 dL_law_1192 dL_law_1193 ?_
  refine lv_aload_n hx hb dL_law_1194 rfl (lv_at hl 3 rfl) ?_
  refine lv_iload_n hx hb dL_law_1195 rfl (lv_at hl 0 rfl) ?_
  refine lv_iconst (v := 3) hx hb dL_law_1196 (by decide) ?_
  refine q_ai X hS (k := 3) (by decide) hi e3 dL_law_1197 dL_law_1198 ?_
  have hG0 := hG
  have hGp := hG
  refine W.eq (g2 := F0 m 1199 ls [.int v3, .int v2, .int v1, .ref (al.2 49 0)]) (by rw [hox]) ?_
  refine q_fi (q_runV (t := 49) (i := 0) (As := [.int v1, .int v2, .int v3]) (rest := []) C hU (c_X11_pay_x hG v1 v2 v3 ⟨hRel.2.2.2.2.2.2.2.2.2.2.2.2.2.2.2.2.2.1, hRel.2.2.2.2.2.2.2.2.2.2.2.2.2.2.2.2.2.2.1⟩) vm_X11_pay ml_L_128 k_49.1 (hc := rfl) rfl (h1_49 hG) hl.1 rfl rfl (Nat.le_of_ble_eq_true rfl) dL_law_1199 rfl rfl ⟨Nat.le_of_ble_eq_true rfl, Nat.le_of_ble_eq_true rfl⟩ ⟨by show cells + 0 ≤ 600000; omega, by show slots + 0 ≤ 7302250; omega⟩) hS (fun r1 iv1 rv1 H locs hG f1 g1 hp1 hU hS => ?_)
  refine lv_pop hx hb dL_law_1202 rfl ?_
  refine lv_aload_n hx hb dL_law_1203 rfl (lv_at hl 1 rfl) ?_
  refine lv_aload_n hx hb dL_law_1204 rfl (lv_at hl 3 rfl) ?_
  refine lv_iload_n hx hb dL_law_1205 rfl (lv_at hl 0 rfl) ?_
  refine lv_iconst (v := 1) hx hb dL_law_1206 (by decide) ?_
  refine q_ai X hS (k := 1) (by decide) hi e1 dL_law_1207 dL_law_1208 ?_
  refine lv_aload_n hx hb dL_law_1209 rfl (lv_at hl 3 rfl) ?_
  refine lv_iload_n hx hb dL_law_1210 rfl (lv_at hl 0 rfl) ?_
  refine lv_iconst (v := 2) hx hb dL_law_1211 (by decide) ?_
  refine q_ai X hS (k := 2) (by decide) hi e2 dL_law_1212 dL_law_1213 ?_
  refine lv_aload_n hx hb dL_law_1214 rfl (lv_at hl 3 rfl) ?_
  refine lv_iload_n hx hb dL_law_1215 rfl (lv_at hl 0 rfl) ?_
  refine lv_iconst (v := 3) hx hb dL_law_1216 (by decide) ?_
  refine q_ai X hS (k := 3) (by decide) hi e3 dL_law_1217 dL_law_1218 ?_
  have hGp := hG
  refine W.eq (g2 := F0 m 1219 ls [.int v3, .int v2, .int v1, .ref (al.2 0 0)]) (by rw [hom]) ?_
  refine q_fi (q_runV (t := 0) (i := 0) (As := [.int v1, .int v2, .int v3]) (rest := []) C hU (c_X12_pay_x hG v1 v2 v3) vm_X12_pay ml_L_131 k_0.1 (hc := rfl) rfl (h1_0 hG) hl.1 rfl rfl (Nat.le_of_ble_eq_true rfl) dL_law_1219 rfl rfl ⟨Nat.le_of_ble_eq_true rfl, Nat.le_of_ble_eq_true rfl⟩ ⟨by show cells + 0 ≤ 600000; omega, by show slots + 0 ≤ 7302250; omega⟩) hS (fun r2 iv2 rv2 H locs hG f2 g2 hp2 hU hS => ?_)
  have hRel := REL.s_pay hG0 hRel hp1 hp2 (EX.of f1 g1) f2 g2
  refine lv_pop hx hb dL_law_1222 rfl ?_
  refine lv_goto (tgt := 1475) hx hb dL_law_1223 (by decide) ?_
  refine W.widen (k := cells + 3) (n := slots + 16) (by omega) (by omega) ?_
  exact kk _ _ _ _ _ ⟨hG, hox, hom, hRel⟩ hU hS
set_option maxHeartbeats 4000000 in
set_option maxRecDepth 100000 in
theorem law_28 {p : Program} {l : Launch} {e : Env} {s : State} {m : MethodId} {below : List Frame} {meth : Method} {c : Code} {b L : Nat} {xs : Nat → Int32} {D : va_G} {cA : FieldType → ClassId} {ls : Array Slot} {Q : State → Prop} {H : Heap} {locs : List Loc} {cells slots : Nat} {i : Int32} {ox om : Nat} {al : Al} {iv : Iv} {rv : Rv} (X : LX p s m c b L xs D cA) (hl : lv_has ls 4 [(3, .int i), (2, .ref om), (1, .ref ox), (0, .ref b)]) (hi : 0 ≤ i.toInt ∧ i.toInt + 6 < L) (hQ : LSt ox om al iv rv) (hU : UW D cA s.heap.size al iv rv H) (hS : va_S (Aq s.heap.size) s.heap H locs) (hc : cells + 3 ≤ 600000 ∧ slots + 16 ≤ 7302250)
    (kk : ∀ (al' : Al) (iv' : Iv) (rv' : Rv) (H' : Heap) (locs' : List Loc), LSt ox om al' iv' rv' → UW D cA s.heap.size al' iv' rv' H' → va_S (Aq s.heap.size) s.heap H' locs' → W p l e room_1 s m #[Value.ref b] below meth c H' locs' (cells + 3) (slots + 16) Q (F0 m 1475 ls [])) : W p l e room_1 s m #[Value.ref b] below meth c H locs cells slots Q (F0 m 1226 ls []) := by
  obtain ⟨hG, hox, hom, hRel⟩ := hQ
  have C := X.1
  have hx := C.1.1
  have hb := C.1.2.1
  obtain ⟨v1, e1⟩ : ∃ z, xs (i + 1).toNatClampNeg = z := ⟨_, rfl⟩
  obtain ⟨v2, e2⟩ : ∃ z, xs (i + 2).toNatClampNeg = z := ⟨_, rfl⟩
  refine lv_aload_n hx hb dL_law_1226 rfl (lv_at hl 2 rfl) ?_
  refine lv_aload_n hx hb dL_law_1227 rfl (lv_at hl 3 rfl) ?_
  refine lv_iload_n hx hb dL_law_1228 rfl (lv_at hl 0 rfl) ?_
  refine lv_iconst (v := 1) hx hb dL_law_1229 (by decide) ?_
  refine q_ai X hS (k := 1) (by decide) hi e1 dL_law_1230 dL_law_1231 ?_
  refine lv_aload_n hx hb dL_law_1232 rfl (lv_at hl 3 rfl) ?_
  refine lv_iload_n hx hb dL_law_1233 rfl (lv_at hl 0 rfl) ?_
  refine lv_iconst (v := 2) hx hb dL_law_1234 (by decide) ?_
  refine q_ai X hS (k := 2) (by decide) hi e2 dL_law_1235 dL_law_1236 ?_
  have hG0 := hG
  have hGp := hG
  refine W.eq (g2 := F0 m 1237 ls [.int v2, .int v1, .ref (al.2 49 0)]) (by rw [hox]) ?_
  refine q_fi (q_runV (t := 49) (i := 0) (As := [.int v1, .int v2]) (rest := []) C hU (c_X11_due hG v1 v2) vm_X11_due ml_L_132 k_49.1 (hc := rfl) rfl (h1_49 hG) hl.1 rfl rfl (Nat.le_of_ble_eq_true rfl) dL_law_1237 rfl rfl ⟨Nat.le_of_ble_eq_true rfl, Nat.le_of_ble_eq_true rfl⟩ ⟨by show cells + 0 ≤ 600000; omega, by show slots + 0 ≤ 7302250; omega⟩) hS (fun r1 iv1 rv1 H locs hG f1 g1 hp1 hU hS => ?_)
  have hRel := hRel.fr hGp f1 g1 (by decide)
  refine lv_pop hx hb dL_law_1240 rfl ?_
  refine lv_aload_n hx hb dL_law_1241 rfl (lv_at hl 1 rfl) ?_
  refine lv_aload_n hx hb dL_law_1242 rfl (lv_at hl 3 rfl) ?_
  refine lv_iload_n hx hb dL_law_1243 rfl (lv_at hl 0 rfl) ?_
  refine lv_iconst (v := 1) hx hb dL_law_1244 (by decide) ?_
  refine q_ai X hS (k := 1) (by decide) hi e1 dL_law_1245 dL_law_1246 ?_
  refine lv_aload_n hx hb dL_law_1247 rfl (lv_at hl 3 rfl) ?_
  refine lv_iload_n hx hb dL_law_1248 rfl (lv_at hl 0 rfl) ?_
  refine lv_iconst (v := 2) hx hb dL_law_1249 (by decide) ?_
  refine q_ai X hS (k := 2) (by decide) hi e2 dL_law_1250 dL_law_1251 ?_
  have hGp := hG
  refine W.eq (g2 := F0 m 1252 ls [.int v2, .int v1, .ref (al.2 0 0)]) (by rw [hom]) ?_
  refine q_fi (q_runV (t := 0) (i := 0) (As := [.int v1, .int v2]) (rest := []) C hU (c_X12_due hG v1 v2) vm_X12_due ml_L_135 k_0.1 (hc := rfl) rfl (h1_0 hG) hl.1 rfl rfl (Nat.le_of_ble_eq_true rfl) dL_law_1252 rfl rfl ⟨Nat.le_of_ble_eq_true rfl, Nat.le_of_ble_eq_true rfl⟩ ⟨by show cells + 0 ≤ 600000; omega, by show slots + 0 ≤ 7302250; omega⟩) hS (fun r2 iv2 rv2 H locs hG f2 g2 hp2 hU hS => ?_)
  have hRel := hRel.fr hGp f2 g2 (by decide)
  refine lv_pop hx hb dL_law_1255 rfl ?_
  refine lv_goto (tgt := 1475) hx hb dL_law_1256 (by decide) ?_
  refine W.widen (k := cells + 3) (n := slots + 16) (by omega) (by omega) ?_
  exact kk _ _ _ _ _ ⟨hG, hox, hom, hRel⟩ hU hS
set_option maxHeartbeats 4000000 in
set_option maxRecDepth 100000 in
theorem law_29 {p : Program} {l : Launch} {e : Env} {s : State} {m : MethodId} {below : List Frame} {meth : Method} {c : Code} {b L : Nat} {xs : Nat → Int32} {D : va_G} {cA : FieldType → ClassId} {ls : Array Slot} {Q : State → Prop} {H : Heap} {locs : List Loc} {cells slots : Nat} {i : Int32} {ox om : Nat} {al : Al} {iv : Iv} {rv : Rv} (X : LX p s m c b L xs D cA) (hl : lv_has ls 4 [(3, .int i), (2, .ref om), (1, .ref ox), (0, .ref b)]) (hi : 0 ≤ i.toInt ∧ i.toInt + 6 < L) (hQ : LSt ox om al iv rv) (hU : UW D cA s.heap.size al iv rv H) (hS : va_S (Aq s.heap.size) s.heap H locs) (hc : cells + 3 ≤ 600000 ∧ slots + 16 ≤ 7302250)
    (kk : ∀ (al' : Al) (iv' : Iv) (rv' : Rv) (H' : Heap) (locs' : List Loc), LSt ox om al' iv' rv' → UW D cA s.heap.size al' iv' rv' H' → va_S (Aq s.heap.size) s.heap H' locs' → W p l e room_1 s m #[Value.ref b] below meth c H' locs' (cells + 3) (slots + 16) Q (F0 m 1475 ls [])) : W p l e room_1 s m #[Value.ref b] below meth c H locs cells slots Q (F0 m 1259 ls []) := by
  obtain ⟨hG, hox, hom, hRel⟩ := hQ
  have C := X.1
  have hx := C.1.1
  have hb := C.1.2.1
  obtain ⟨v1, e1⟩ : ∃ z, xs (i + 1).toNatClampNeg = z := ⟨_, rfl⟩
  refine lv_aload_n hx hb dL_law_1259 rfl (lv_at hl 2 rfl) ?_
  refine lv_aload_n hx hb dL_law_1260 rfl (lv_at hl 3 rfl) ?_
  refine lv_iload_n hx hb dL_law_1261 rfl (lv_at hl 0 rfl) ?_
  refine lv_iconst (v := 1) hx hb dL_law_1262 (by decide) ?_
  refine q_ai X hS (k := 1) (by decide) hi e1 dL_law_1263 dL_law_1264 ?_
  have hG0 := hG
  have hGp := hG
  refine W.eq (g2 := F0 m 1265 ls [.int v1, .ref (al.2 49 0)]) (by rw [hox]) ?_
  refine q_fi (q_runV (t := 49) (i := 0) (As := [.int v1]) (rest := []) C hU (c_X11_balance hG v1) vm_X11_balance ml_L_136 k_49.1 (hc := rfl) rfl (h1_49 hG) hl.1 rfl rfl (Nat.le_of_ble_eq_true rfl) dL_law_1265 rfl rfl ⟨Nat.le_of_ble_eq_true rfl, Nat.le_of_ble_eq_true rfl⟩ ⟨by show cells + 0 ≤ 600000; omega, by show slots + 0 ≤ 7302250; omega⟩) hS (fun r1 iv1 rv1 H locs hG f1 g1 hp1 hU hS => ?_)
  have hRel := hRel.fr hGp f1 g1 (by decide)
  refine lv_pop hx hb dL_law_1268 rfl ?_
  refine lv_aload_n hx hb dL_law_1269 rfl (lv_at hl 1 rfl) ?_
  refine lv_aload_n hx hb dL_law_1270 rfl (lv_at hl 3 rfl) ?_
  refine lv_iload_n hx hb dL_law_1271 rfl (lv_at hl 0 rfl) ?_
  refine lv_iconst (v := 1) hx hb dL_law_1272 (by decide) ?_
  refine q_ai X hS (k := 1) (by decide) hi e1 dL_law_1273 dL_law_1274 ?_
  have hGp := hG
  refine W.eq (g2 := F0 m 1275 ls [.int v1, .ref (al.2 0 0)]) (by rw [hom]) ?_
  refine q_fi (q_runV (t := 0) (i := 0) (As := [.int v1]) (rest := []) C hU (c_X12_balance hG v1) vm_X12_balance ml_L_139 k_0.1 (hc := rfl) rfl (h1_0 hG) hl.1 rfl rfl (Nat.le_of_ble_eq_true rfl) dL_law_1275 rfl rfl ⟨Nat.le_of_ble_eq_true rfl, Nat.le_of_ble_eq_true rfl⟩ ⟨by show cells + 0 ≤ 600000; omega, by show slots + 0 ≤ 7302250; omega⟩) hS (fun r2 iv2 rv2 H locs hG f2 g2 hp2 hU hS => ?_)
  have hRel := hRel.fr hGp f2 g2 (by decide)
  refine lv_pop hx hb dL_law_1278 rfl ?_
  refine lv_goto (tgt := 1475) hx hb dL_law_1279 (by decide) ?_
  refine W.widen (k := cells + 3) (n := slots + 16) (by omega) (by omega) ?_
  exact kk _ _ _ _ _ ⟨hG, hox, hom, hRel⟩ hU hS
set_option maxHeartbeats 4000000 in
set_option maxRecDepth 100000 in
theorem law_30 {p : Program} {l : Launch} {e : Env} {s : State} {m : MethodId} {below : List Frame} {meth : Method} {c : Code} {b L : Nat} {xs : Nat → Int32} {D : va_G} {cA : FieldType → ClassId} {ls : Array Slot} {Q : State → Prop} {H : Heap} {locs : List Loc} {cells slots : Nat} {i : Int32} {ox om : Nat} {al : Al} {iv : Iv} {rv : Rv} (X : LX p s m c b L xs D cA) (hl : lv_has ls 4 [(3, .int i), (2, .ref om), (1, .ref ox), (0, .ref b)]) (hi : 0 ≤ i.toInt ∧ i.toInt + 6 < L) (hQ : LSt ox om al iv rv) (hU : UW D cA s.heap.size al iv rv H) (hS : va_S (Aq s.heap.size) s.heap H locs) (hc : cells + 3 ≤ 600000 ∧ slots + 16 ≤ 7302250)
    (kk : ∀ (al' : Al) (iv' : Iv) (rv' : Rv) (H' : Heap) (locs' : List Loc), LSt ox om al' iv' rv' → UW D cA s.heap.size al' iv' rv' H' → va_S (Aq s.heap.size) s.heap H' locs' → W p l e room_1 s m #[Value.ref b] below meth c H' locs' (cells + 3) (slots + 16) Q (F0 m 1475 ls [])) : W p l e room_1 s m #[Value.ref b] below meth c H locs cells slots Q (F0 m 1282 ls []) := by
  obtain ⟨hG, hox, hom, hRel⟩ := hQ
  have C := X.1
  have hx := C.1.1
  have hb := C.1.2.1
  refine lv_aload_n hx hb dL_law_1282 rfl (lv_at hl 2 rfl) ?_
  have hG0 := hG
  have hGp := hG
  refine W.eq (g2 := F0 m 1283 ls [.ref (al.2 49 0)]) (by rw [hox]) ?_
  refine q_fi (q_runV (t := 49) (i := 0) (As := []) (rest := []) C hU (c_X11_back hG ) vm_X11_back ml_L_140 k_49.1 (hc := rfl) rfl (h1_49 hG) hl.1 rfl rfl (Nat.le_of_ble_eq_true rfl) dL_law_1283 rfl rfl ⟨Nat.le_of_ble_eq_true rfl, Nat.le_of_ble_eq_true rfl⟩ ⟨by show cells + 0 ≤ 600000; omega, by show slots + 0 ≤ 7302250; omega⟩) hS (fun r1 iv1 rv1 H locs hG f1 g1 hp1 hU hS => ?_)
  have hRel := hRel.fr hGp f1 g1 (by decide)
  refine lv_pop hx hb dL_law_1286 rfl ?_
  refine lv_aload_n hx hb dL_law_1287 rfl (lv_at hl 1 rfl) ?_
  have hGp := hG
  refine W.eq (g2 := F0 m 1288 ls [.ref (al.2 0 0)]) (by rw [hom]) ?_
  refine q_fi (q_runV (t := 0) (i := 0) (As := []) (rest := []) C hU (c_X12_back hG ) vm_X12_back ml_L_144 k_0.1 (hc := rfl) rfl (h1_0 hG) hl.1 rfl rfl (Nat.le_of_ble_eq_true rfl) dL_law_1288 rfl rfl ⟨Nat.le_of_ble_eq_true rfl, Nat.le_of_ble_eq_true rfl⟩ ⟨by show cells + 0 ≤ 600000; omega, by show slots + 0 ≤ 7302250; omega⟩) hS (fun r2 iv2 rv2 H locs hG f2 g2 hp2 hU hS => ?_)
  have hRel := hRel.fr hGp f2 g2 (by decide)
  refine lv_pop hx hb dL_law_1291 rfl ?_
  refine lv_goto (tgt := 1475) hx hb dL_law_1292 (by decide) ?_
  refine W.widen (k := cells + 3) (n := slots + 16) (by omega) (by omega) ?_
  exact kk _ _ _ _ _ ⟨hG, hox, hom, hRel⟩ hU hS
set_option maxHeartbeats 4000000 in
set_option maxRecDepth 100000 in
theorem law_31 {p : Program} {l : Launch} {e : Env} {s : State} {m : MethodId} {below : List Frame} {meth : Method} {c : Code} {b L : Nat} {xs : Nat → Int32} {D : va_G} {cA : FieldType → ClassId} {ls : Array Slot} {Q : State → Prop} {H : Heap} {locs : List Loc} {cells slots : Nat} {i : Int32} {ox om : Nat} {al : Al} {iv : Iv} {rv : Rv} (X : LX p s m c b L xs D cA) (hl : lv_has ls 4 [(3, .int i), (2, .ref om), (1, .ref ox), (0, .ref b)]) (hi : 0 ≤ i.toInt ∧ i.toInt + 6 < L) (hQ : LSt ox om al iv rv) (hU : UW D cA s.heap.size al iv rv H) (hS : va_S (Aq s.heap.size) s.heap H locs) (hc : cells + 3 ≤ 600000 ∧ slots + 16 ≤ 7302250)
    (kk : ∀ (al' : Al) (iv' : Iv) (rv' : Rv) (H' : Heap) (locs' : List Loc), LSt ox om al' iv' rv' → UW D cA s.heap.size al' iv' rv' H' → va_S (Aq s.heap.size) s.heap H' locs' → W p l e room_1 s m #[Value.ref b] below meth c H' locs' (cells + 3) (slots + 16) Q (F0 m 1475 ls [])) : W p l e room_1 s m #[Value.ref b] below meth c H locs cells slots Q (F0 m 1295 ls []) := by
  obtain ⟨hG, hox, hom, hRel⟩ := hQ
  have C := X.1
  have hx := C.1.1
  have hb := C.1.2.1
  obtain ⟨v1, e1⟩ : ∃ z, xs (i + 1).toNatClampNeg = z := ⟨_, rfl⟩
  obtain ⟨v2, e2⟩ : ∃ z, xs (i + 2).toNatClampNeg = z := ⟨_, rfl⟩
  obtain ⟨v3, e3⟩ : ∃ z, xs (i + 3).toNatClampNeg = z := ⟨_, rfl⟩
  obtain ⟨v4, e4⟩ : ∃ z, xs (i + 4).toNatClampNeg = z := ⟨_, rfl⟩
  obtain ⟨v5, e5⟩ : ∃ z, xs (i + 5).toNatClampNeg = z := ⟨_, rfl⟩
  obtain ⟨v6, e6⟩ : ∃ z, xs (i + 6).toNatClampNeg = z := ⟨_, rfl⟩
  refine lv_aload_n hx hb dL_law_1295 rfl (lv_at hl 2 rfl) ?_
  refine lv_aload_n hx hb dL_law_1296 rfl (lv_at hl 3 rfl) ?_
  refine lv_iload_n hx hb dL_law_1297 rfl (lv_at hl 0 rfl) ?_
  refine lv_iconst (v := 1) hx hb dL_law_1298 (by decide) ?_
  refine q_ai X hS (k := 1) (by decide) hi e1 dL_law_1299 dL_law_1300 ?_
  refine lv_aload_n hx hb dL_law_1301 rfl (lv_at hl 3 rfl) ?_
  refine lv_iload_n hx hb dL_law_1302 rfl (lv_at hl 0 rfl) ?_
  refine lv_iconst (v := 2) hx hb dL_law_1303 (by decide) ?_
  refine q_ai X hS (k := 2) (by decide) hi e2 dL_law_1304 dL_law_1305 ?_
  refine lv_aload_n hx hb dL_law_1306 rfl (lv_at hl 3 rfl) ?_
  refine lv_iload_n hx hb dL_law_1307 rfl (lv_at hl 0 rfl) ?_
  refine lv_iconst (v := 3) hx hb dL_law_1308 (by decide) ?_
  refine q_ai X hS (k := 3) (by decide) hi e3 dL_law_1309 dL_law_1310 ?_
  refine lv_aload_n hx hb dL_law_1311 rfl (lv_at hl 3 rfl) ?_
  refine lv_iload_n hx hb dL_law_1312 rfl (lv_at hl 0 rfl) ?_
  refine lv_iconst (v := 4) hx hb dL_law_1313 (by decide) ?_
  refine q_ai X hS (k := 4) (by decide) hi e4 dL_law_1314 dL_law_1315 ?_
  refine lv_aload_n hx hb dL_law_1316 rfl (lv_at hl 3 rfl) ?_
  refine lv_iload_n hx hb dL_law_1317 rfl (lv_at hl 0 rfl) ?_
  refine lv_iconst (v := 5) hx hb dL_law_1318 (by decide) ?_
  refine q_ai X hS (k := 5) (by decide) hi e5 dL_law_1319 dL_law_1320 ?_
  have J_1329 : ∀ zv5 : Int32, (0 ≤ zv5.toInt ∧ zv5.toInt ≤ 1) → zv5 = bz v5 → W p l e room_1 s m #[Value.ref b] below meth c H locs cells slots Q (F0 m 1329 ls [.int zv5, .int v4, .int v3, .int v2, .int v1, .ref ox]) := by
    intro zv5 rzv5 qzv5
    refine lv_aload_n hx hb dL_law_1329 rfl (lv_at hl 3 rfl) ?_
    refine lv_iload_n hx hb dL_law_1330 rfl (lv_at hl 0 rfl) ?_
    refine lv_bipush (v := 6) hx hb dL_law_1331 (by decide) ?_
    refine q_ai X hS (k := 6) (by decide) hi e6 dL_law_1333 dL_law_1334 ?_
    have hG0 := hG
    have hGp := hG
    refine W.eq (g2 := F0 m 1335 ls [.int v6, .int zv5, .int v4, .int v3, .int v2, .int v1, .ref (al.2 49 0)]) (by rw [hox]) ?_
    refine q_fi (q_runV (t := 49) (i := 0) (As := [.int v1, .int v2, .int v3, .int v4, .int zv5, .int v6]) (rest := []) C hU (c_X11_judged hG v1 v2 v3 v4 zv5 v6 rzv5) vm_X11_judged ml_L_145 k_49.1 (hc := rfl) rfl (h1_49 hG) hl.1 rfl rfl (Nat.le_of_ble_eq_true rfl) dL_law_1335 rfl rfl ⟨Nat.le_of_ble_eq_true rfl, Nat.le_of_ble_eq_true rfl⟩ ⟨by show cells + 0 ≤ 600000; omega, by show slots + 0 ≤ 7302250; omega⟩) hS (fun r1 iv1 rv1 H locs hG f1 g1 hp1 hU hS => ?_)
    have hRel := hRel.fr hGp f1 g1 (by decide)
    refine lv_pop hx hb dL_law_1338 rfl ?_
    refine lv_aload_n hx hb dL_law_1339 rfl (lv_at hl 1 rfl) ?_
    refine lv_aload_n hx hb dL_law_1340 rfl (lv_at hl 3 rfl) ?_
    refine lv_iload_n hx hb dL_law_1341 rfl (lv_at hl 0 rfl) ?_
    refine lv_iconst (v := 1) hx hb dL_law_1342 (by decide) ?_
    refine q_ai X hS (k := 1) (by decide) hi e1 dL_law_1343 dL_law_1344 ?_
    refine lv_aload_n hx hb dL_law_1345 rfl (lv_at hl 3 rfl) ?_
    refine lv_iload_n hx hb dL_law_1346 rfl (lv_at hl 0 rfl) ?_
    refine lv_iconst (v := 2) hx hb dL_law_1347 (by decide) ?_
    refine q_ai X hS (k := 2) (by decide) hi e2 dL_law_1348 dL_law_1349 ?_
    refine lv_aload_n hx hb dL_law_1350 rfl (lv_at hl 3 rfl) ?_
    refine lv_iload_n hx hb dL_law_1351 rfl (lv_at hl 0 rfl) ?_
    refine lv_iconst (v := 3) hx hb dL_law_1352 (by decide) ?_
    refine q_ai X hS (k := 3) (by decide) hi e3 dL_law_1353 dL_law_1354 ?_
    refine lv_aload_n hx hb dL_law_1355 rfl (lv_at hl 3 rfl) ?_
    refine lv_iload_n hx hb dL_law_1356 rfl (lv_at hl 0 rfl) ?_
    refine lv_iconst (v := 4) hx hb dL_law_1357 (by decide) ?_
    refine q_ai X hS (k := 4) (by decide) hi e4 dL_law_1358 dL_law_1359 ?_
    refine lv_aload_n hx hb dL_law_1360 rfl (lv_at hl 3 rfl) ?_
    refine lv_iload_n hx hb dL_law_1361 rfl (lv_at hl 0 rfl) ?_
    refine lv_iconst (v := 5) hx hb dL_law_1362 (by decide) ?_
    refine q_ai X hS (k := 5) (by decide) hi e5 dL_law_1363 dL_law_1364 ?_
    have J_1373 : ∀ zv5m : Int32, (0 ≤ zv5m.toInt ∧ zv5m.toInt ≤ 1) → zv5m = bz v5 → W p l e room_1 s m #[Value.ref b] below meth c H locs cells slots Q (F0 m 1373 ls [.int zv5m, .int v4, .int v3, .int v2, .int v1, .ref om]) := by
      intro zv5m rzv5m qzv5m
      refine lv_aload_n hx hb dL_law_1373 rfl (lv_at hl 3 rfl) ?_
      refine lv_iload_n hx hb dL_law_1374 rfl (lv_at hl 0 rfl) ?_
      refine lv_bipush (v := 6) hx hb dL_law_1375 (by decide) ?_
      refine q_ai X hS (k := 6) (by decide) hi e6 dL_law_1377 dL_law_1378 ?_
      have hGp := hG
      refine W.eq (g2 := F0 m 1379 ls [.int v6, .int zv5m, .int v4, .int v3, .int v2, .int v1, .ref (al.2 0 0)]) (by rw [hom]) ?_
      refine q_fi (q_runV (t := 0) (i := 0) (As := [.int v1, .int v2, .int v3, .int v4, .int zv5m, .int v6]) (rest := []) C hU (c_X12_judged hG v1 v2 v3 v4 zv5m v6 rzv5m) vm_X12_judged ml_L_149 k_0.1 (hc := rfl) rfl (h1_0 hG) hl.1 rfl rfl (Nat.le_of_ble_eq_true rfl) dL_law_1379 rfl rfl ⟨Nat.le_of_ble_eq_true rfl, Nat.le_of_ble_eq_true rfl⟩ ⟨by show cells + 0 ≤ 600000; omega, by show slots + 0 ≤ 7302250; omega⟩) hS (fun r2 iv2 rv2 H locs hG f2 g2 hp2 hU hS => ?_)
      have hRel := hRel.fr hGp f2 g2 (by decide)
      refine lv_pop hx hb dL_law_1382 rfl ?_
      refine lv_goto (tgt := 1475) hx hb dL_law_1383 (by decide) ?_
      refine W.widen (k := cells + 3) (n := slots + 16) (by omega) (by omega) ?_
      exact kk _ _ _ _ _ ⟨hG, hox, hom, hRel⟩ hU hS
    refine b_if_eq (tgt := 1372) hx hb dL_law_1365 (by decide) (fun c0 => ?_) (fun c0 => ?_)
    · refine lv_iconst (v := 0) hx hb dL_law_1372 (by decide) ?_
      exact J_1373 0 ⟨by decide, by decide⟩ (bz_0 c0)
    · refine lv_iconst (v := 1) hx hb dL_law_1368 (by decide) ?_
      refine lv_goto (tgt := 1373) hx hb dL_law_1369 (by decide) ?_
      exact J_1373 1 ⟨by decide, by decide⟩ (bz_1 c0)
  refine b_if_eq (tgt := 1328) hx hb dL_law_1321 (by decide) (fun c0 => ?_) (fun c0 => ?_)
  · refine lv_iconst (v := 0) hx hb dL_law_1328 (by decide) ?_
    exact J_1329 0 ⟨by decide, by decide⟩ (bz_0 c0)
  · refine lv_iconst (v := 1) hx hb dL_law_1324 (by decide) ?_
    refine lv_goto (tgt := 1329) hx hb dL_law_1325 (by decide) ?_
    exact J_1329 1 ⟨by decide, by decide⟩ (bz_1 c0)
set_option maxHeartbeats 4000000 in
set_option maxRecDepth 100000 in
theorem law_32 {p : Program} {l : Launch} {e : Env} {s : State} {m : MethodId} {below : List Frame} {meth : Method} {c : Code} {b L : Nat} {xs : Nat → Int32} {D : va_G} {cA : FieldType → ClassId} {ls : Array Slot} {Q : State → Prop} {H : Heap} {locs : List Loc} {cells slots : Nat} {i : Int32} {ox om : Nat} {al : Al} {iv : Iv} {rv : Rv} (X : LX p s m c b L xs D cA) (hl : lv_has ls 4 [(3, .int i), (2, .ref om), (1, .ref ox), (0, .ref b)]) (hi : 0 ≤ i.toInt ∧ i.toInt + 6 < L) (hQ : LSt ox om al iv rv) (hU : UW D cA s.heap.size al iv rv H) (hS : va_S (Aq s.heap.size) s.heap H locs) (hc : cells + 3 ≤ 600000 ∧ slots + 16 ≤ 7302250)
    (kk : ∀ (al' : Al) (iv' : Iv) (rv' : Rv) (H' : Heap) (locs' : List Loc), LSt ox om al' iv' rv' → UW D cA s.heap.size al' iv' rv' H' → va_S (Aq s.heap.size) s.heap H' locs' → W p l e room_1 s m #[Value.ref b] below meth c H' locs' (cells + 3) (slots + 16) Q (F0 m 1475 ls [])) : W p l e room_1 s m #[Value.ref b] below meth c H locs cells slots Q (F0 m 1386 ls []) := by
  obtain ⟨hG, hox, hom, hRel⟩ := hQ
  have C := X.1
  have hx := C.1.1
  have hb := C.1.2.1
  obtain ⟨v1, e1⟩ : ∃ z, xs (i + 1).toNatClampNeg = z := ⟨_, rfl⟩
  obtain ⟨v2, e2⟩ : ∃ z, xs (i + 2).toNatClampNeg = z := ⟨_, rfl⟩
  refine lv_aload_n hx hb dL_law_1386 rfl (lv_at hl 2 rfl) ?_
  refine lv_aload_n hx hb dL_law_1387 rfl (lv_at hl 3 rfl) ?_
  refine lv_iload_n hx hb dL_law_1388 rfl (lv_at hl 0 rfl) ?_
  refine lv_iconst (v := 1) hx hb dL_law_1389 (by decide) ?_
  refine q_ai X hS (k := 1) (by decide) hi e1 dL_law_1390 dL_law_1391 ?_
  refine lv_aload_n hx hb dL_law_1392 rfl (lv_at hl 3 rfl) ?_
  refine lv_iload_n hx hb dL_law_1393 rfl (lv_at hl 0 rfl) ?_
  refine lv_iconst (v := 2) hx hb dL_law_1394 (by decide) ?_
  refine q_ai X hS (k := 2) (by decide) hi e2 dL_law_1395 dL_law_1396 ?_
  have hG0 := hG
  have hGp := hG
  refine W.eq (g2 := F0 m 1397 ls [.int v2, .int v1, .ref (al.2 49 0)]) (by rw [hox]) ?_
  refine q_fi (q_runV (t := 49) (i := 0) (As := [.int v1, .int v2]) (rest := []) C hU (c_X11_odds hG v1 v2) vm_X11_odds ml_L_150 k_49.1 (hc := rfl) rfl (h1_49 hG) hl.1 rfl rfl (Nat.le_of_ble_eq_true rfl) dL_law_1397 rfl rfl ⟨Nat.le_of_ble_eq_true rfl, Nat.le_of_ble_eq_true rfl⟩ ⟨by show cells + 0 ≤ 600000; omega, by show slots + 0 ≤ 7302250; omega⟩) hS (fun r1 iv1 rv1 H locs hG f1 g1 hp1 hU hS => ?_)
  have hRel := hRel.fr hGp f1 g1 (by decide)
  refine lv_pop hx hb dL_law_1400 rfl ?_
  refine lv_aload_n hx hb dL_law_1401 rfl (lv_at hl 1 rfl) ?_
  refine lv_aload_n hx hb dL_law_1402 rfl (lv_at hl 3 rfl) ?_
  refine lv_iload_n hx hb dL_law_1403 rfl (lv_at hl 0 rfl) ?_
  refine lv_iconst (v := 1) hx hb dL_law_1404 (by decide) ?_
  refine q_ai X hS (k := 1) (by decide) hi e1 dL_law_1405 dL_law_1406 ?_
  refine lv_aload_n hx hb dL_law_1407 rfl (lv_at hl 3 rfl) ?_
  refine lv_iload_n hx hb dL_law_1408 rfl (lv_at hl 0 rfl) ?_
  refine lv_iconst (v := 2) hx hb dL_law_1409 (by decide) ?_
  refine q_ai X hS (k := 2) (by decide) hi e2 dL_law_1410 dL_law_1411 ?_
  have hGp := hG
  refine W.eq (g2 := F0 m 1412 ls [.int v2, .int v1, .ref (al.2 0 0)]) (by rw [hom]) ?_
  refine q_fi (q_runV (t := 0) (i := 0) (As := [.int v1, .int v2]) (rest := []) C hU (c_X12_odds hG v1 v2) vm_X12_odds ml_L_153 k_0.1 (hc := rfl) rfl (h1_0 hG) hl.1 rfl rfl (Nat.le_of_ble_eq_true rfl) dL_law_1412 rfl rfl ⟨Nat.le_of_ble_eq_true rfl, Nat.le_of_ble_eq_true rfl⟩ ⟨by show cells + 0 ≤ 600000; omega, by show slots + 0 ≤ 7302250; omega⟩) hS (fun r2 iv2 rv2 H locs hG f2 g2 hp2 hU hS => ?_)
  have hRel := hRel.fr hGp f2 g2 (by decide)
  refine lv_pop hx hb dL_law_1415 rfl ?_
  refine lv_goto (tgt := 1475) hx hb dL_law_1416 (by decide) ?_
  refine W.widen (k := cells + 3) (n := slots + 16) (by omega) (by omega) ?_
  exact kk _ _ _ _ _ ⟨hG, hox, hom, hRel⟩ hU hS
set_option maxHeartbeats 4000000 in
set_option maxRecDepth 100000 in
theorem law_33 {p : Program} {l : Launch} {e : Env} {s : State} {m : MethodId} {below : List Frame} {meth : Method} {c : Code} {b L : Nat} {xs : Nat → Int32} {D : va_G} {cA : FieldType → ClassId} {ls : Array Slot} {Q : State → Prop} {H : Heap} {locs : List Loc} {cells slots : Nat} {i : Int32} {ox om : Nat} {al : Al} {iv : Iv} {rv : Rv} (X : LX p s m c b L xs D cA) (hl : lv_has ls 4 [(3, .int i), (2, .ref om), (1, .ref ox), (0, .ref b)]) (hi : 0 ≤ i.toInt ∧ i.toInt + 6 < L) (hQ : LSt ox om al iv rv) (hU : UW D cA s.heap.size al iv rv H) (hS : va_S (Aq s.heap.size) s.heap H locs) (hc : cells + 3 ≤ 600000 ∧ slots + 16 ≤ 7302250)
    (kk : ∀ (al' : Al) (iv' : Iv) (rv' : Rv) (H' : Heap) (locs' : List Loc), LSt ox om al' iv' rv' → UW D cA s.heap.size al' iv' rv' H' → va_S (Aq s.heap.size) s.heap H' locs' → W p l e room_1 s m #[Value.ref b] below meth c H' locs' (cells + 3) (slots + 16) Q (F0 m 1475 ls [])) : W p l e room_1 s m #[Value.ref b] below meth c H locs cells slots Q (F0 m 1419 ls []) := by
  obtain ⟨hG, hox, hom, hRel⟩ := hQ
  have C := X.1
  have hx := C.1.1
  have hb := C.1.2.1
  obtain ⟨v1, e1⟩ : ∃ z, xs (i + 1).toNatClampNeg = z := ⟨_, rfl⟩
  obtain ⟨v2, e2⟩ : ∃ z, xs (i + 2).toNatClampNeg = z := ⟨_, rfl⟩
  refine lv_aload_n hx hb dL_law_1419 rfl (lv_at hl 2 rfl) ?_
  refine lv_aload_n hx hb dL_law_1420 rfl (lv_at hl 3 rfl) ?_
  refine lv_iload_n hx hb dL_law_1421 rfl (lv_at hl 0 rfl) ?_
  refine lv_iconst (v := 1) hx hb dL_law_1422 (by decide) ?_
  refine q_ai X hS (k := 1) (by decide) hi e1 dL_law_1423 dL_law_1424 ?_
  refine lv_aload_n hx hb dL_law_1425 rfl (lv_at hl 3 rfl) ?_
  refine lv_iload_n hx hb dL_law_1426 rfl (lv_at hl 0 rfl) ?_
  refine lv_iconst (v := 2) hx hb dL_law_1427 (by decide) ?_
  refine q_ai X hS (k := 2) (by decide) hi e2 dL_law_1428 dL_law_1429 ?_
  have hG0 := hG
  have hGp := hG
  refine W.eq (g2 := F0 m 1430 ls [.int v2, .int v1, .ref (al.2 49 0)]) (by rw [hox]) ?_
  refine q_fi (q_runV (t := 49) (i := 0) (As := [.int v1, .int v2]) (rest := []) C hU (c_X11_good hG v1 v2) vm_X11_good ml_L_154 k_49.1 (hc := rfl) rfl (h1_49 hG) hl.1 rfl rfl (Nat.le_of_ble_eq_true rfl) dL_law_1430 rfl rfl ⟨Nat.le_of_ble_eq_true rfl, Nat.le_of_ble_eq_true rfl⟩ ⟨by show cells + 0 ≤ 600000; omega, by show slots + 0 ≤ 7302250; omega⟩) hS (fun r1 iv1 rv1 H locs hG f1 g1 hp1 hU hS => ?_)
  have hRel := hRel.fr hGp f1 g1 (by decide)
  refine lv_pop hx hb dL_law_1433 rfl ?_
  refine lv_aload_n hx hb dL_law_1434 rfl (lv_at hl 1 rfl) ?_
  refine lv_aload_n hx hb dL_law_1435 rfl (lv_at hl 3 rfl) ?_
  refine lv_iload_n hx hb dL_law_1436 rfl (lv_at hl 0 rfl) ?_
  refine lv_iconst (v := 1) hx hb dL_law_1437 (by decide) ?_
  refine q_ai X hS (k := 1) (by decide) hi e1 dL_law_1438 dL_law_1439 ?_
  refine lv_aload_n hx hb dL_law_1440 rfl (lv_at hl 3 rfl) ?_
  refine lv_iload_n hx hb dL_law_1441 rfl (lv_at hl 0 rfl) ?_
  refine lv_iconst (v := 2) hx hb dL_law_1442 (by decide) ?_
  refine q_ai X hS (k := 2) (by decide) hi e2 dL_law_1443 dL_law_1444 ?_
  have hGp := hG
  refine W.eq (g2 := F0 m 1445 ls [.int v2, .int v1, .ref (al.2 0 0)]) (by rw [hom]) ?_
  refine q_fi (q_runV (t := 0) (i := 0) (As := [.int v1, .int v2]) (rest := []) C hU (c_X12_good hG v1 v2) vm_X12_good ml_L_157 k_0.1 (hc := rfl) rfl (h1_0 hG) hl.1 rfl rfl (Nat.le_of_ble_eq_true rfl) dL_law_1445 rfl rfl ⟨Nat.le_of_ble_eq_true rfl, Nat.le_of_ble_eq_true rfl⟩ ⟨by show cells + 0 ≤ 600000; omega, by show slots + 0 ≤ 7302250; omega⟩) hS (fun r2 iv2 rv2 H locs hG f2 g2 hp2 hU hS => ?_)
  have hRel := hRel.fr hGp f2 g2 (by decide)
  refine lv_pop hx hb dL_law_1448 rfl ?_
  refine lv_goto (tgt := 1475) hx hb dL_law_1449 (by decide) ?_
  refine W.widen (k := cells + 3) (n := slots + 16) (by omega) (by omega) ?_
  exact kk _ _ _ _ _ ⟨hG, hox, hom, hRel⟩ hU hS
set_option maxHeartbeats 4000000 in
set_option maxRecDepth 100000 in
theorem law_34 {p : Program} {l : Launch} {e : Env} {s : State} {m : MethodId} {below : List Frame} {meth : Method} {c : Code} {b L : Nat} {xs : Nat → Int32} {D : va_G} {cA : FieldType → ClassId} {ls : Array Slot} {Q : State → Prop} {H : Heap} {locs : List Loc} {cells slots : Nat} {i : Int32} {ox om : Nat} {al : Al} {iv : Iv} {rv : Rv} (X : LX p s m c b L xs D cA) (hl : lv_has ls 4 [(3, .int i), (2, .ref om), (1, .ref ox), (0, .ref b)]) (hi : 0 ≤ i.toInt ∧ i.toInt + 6 < L) (hQ : LSt ox om al iv rv) (hU : UW D cA s.heap.size al iv rv H) (hS : va_S (Aq s.heap.size) s.heap H locs) (hc : cells + 3 ≤ 600000 ∧ slots + 16 ≤ 7302250)
    (kk : ∀ (al' : Al) (iv' : Iv) (rv' : Rv) (H' : Heap) (locs' : List Loc), LSt ox om al' iv' rv' → UW D cA s.heap.size al' iv' rv' H' → va_S (Aq s.heap.size) s.heap H' locs' → W p l e room_1 s m #[Value.ref b] below meth c H' locs' (cells + 3) (slots + 16) Q (F0 m 1475 ls [])) : W p l e room_1 s m #[Value.ref b] below meth c H locs cells slots Q (F0 m 1452 ls []) := by
  obtain ⟨hG, hox, hom, hRel⟩ := hQ
  have C := X.1
  have hx := C.1.1
  have hb := C.1.2.1
  obtain ⟨v1, e1⟩ : ∃ z, xs (i + 1).toNatClampNeg = z := ⟨_, rfl⟩
  refine lv_aload_n hx hb dL_law_1452 rfl (lv_at hl 2 rfl) ?_
  refine lv_aload_n hx hb dL_law_1453 rfl (lv_at hl 3 rfl) ?_
  refine lv_iload_n hx hb dL_law_1454 rfl (lv_at hl 0 rfl) ?_
  refine lv_iconst (v := 1) hx hb dL_law_1455 (by decide) ?_
  refine q_ai X hS (k := 1) (by decide) hi e1 dL_law_1456 dL_law_1457 ?_
  have hG0 := hG
  have hGp := hG
  refine W.eq (g2 := F0 m 1458 ls [.int v1, .ref (al.2 49 0)]) (by rw [hox]) ?_
  refine q_fi (q_runV (t := 49) (i := 0) (As := [.int v1]) (rest := []) C hU (c_X11_count hG v1) vm_X11_count ml_L_158 k_49.1 (hc := rfl) rfl (h1_49 hG) hl.1 rfl rfl (Nat.le_of_ble_eq_true rfl) dL_law_1458 rfl rfl ⟨Nat.le_of_ble_eq_true rfl, Nat.le_of_ble_eq_true rfl⟩ ⟨by show cells + 0 ≤ 600000; omega, by show slots + 0 ≤ 7302250; omega⟩) hS (fun r1 iv1 rv1 H locs hG f1 g1 hp1 hU hS => ?_)
  have hRel := hRel.fr hGp f1 g1 (by decide)
  refine lv_pop hx hb dL_law_1461 rfl ?_
  refine lv_aload_n hx hb dL_law_1462 rfl (lv_at hl 1 rfl) ?_
  refine lv_aload_n hx hb dL_law_1463 rfl (lv_at hl 3 rfl) ?_
  refine lv_iload_n hx hb dL_law_1464 rfl (lv_at hl 0 rfl) ?_
  refine lv_iconst (v := 1) hx hb dL_law_1465 (by decide) ?_
  refine q_ai X hS (k := 1) (by decide) hi e1 dL_law_1466 dL_law_1467 ?_
  have hGp := hG
  refine W.eq (g2 := F0 m 1468 ls [.int v1, .ref (al.2 0 0)]) (by rw [hom]) ?_
  refine q_fi (q_runV (t := 0) (i := 0) (As := [.int v1]) (rest := []) C hU (c_X12_count hG v1) vm_X12_count ml_L_161 k_0.1 (hc := rfl) rfl (h1_0 hG) hl.1 rfl rfl (Nat.le_of_ble_eq_true rfl) dL_law_1468 rfl rfl ⟨Nat.le_of_ble_eq_true rfl, Nat.le_of_ble_eq_true rfl⟩ ⟨by show cells + 0 ≤ 600000; omega, by show slots + 0 ≤ 7302250; omega⟩) hS (fun r2 iv2 rv2 H locs hG f2 g2 hp2 hU hS => ?_)
  have hRel := hRel.fr hGp f2 g2 (by decide)
  refine lv_pop hx hb dL_law_1471 rfl ?_
  refine lv_goto (tgt := 1475) hx hb dL_law_1472 (by decide) ?_
  refine W.widen (k := cells + 3) (n := slots + 16) (by omega) (by omega) ?_
  exact kk _ _ _ _ _ ⟨hG, hox, hom, hRel⟩ hU hS
end
section
abbrev n11 : Nat → Nat := (nx (nx (fun t => (nx (fun t => (nx (fun t => (nx (fun t => (nx (fun t => (nx (fun t => (nx (fun t => (nx (fun _ => 0) 52) t + (fun t => ((if t = 53 then 1 else 0) + (if t = 56 then 10 else 0)) + ((if t = 54 then 1 else 0) + (if t = 55 then 10 else 0))) t) 57) t + (nx (nx (nx (nx (fun _ => 0) 58) 59) 60) 61) t) 63) t + (nx (fun _ => 0) 64) t) 68) t + (nx (nx (nx (nx (nx (nx (nx (nx (nx (nx (fun _ => 0) 69) 70) 71) 72) 73) 74) 75) 76) 77) 78) t) 79) t + (nx (nx (nx (nx (fun _ => 0) 80) 81) 82) 83) t) 84) t + (nx (nx (nx (fun _ => 0) 85) 86) 87) t) 90) t + (nx (nx (nx (nx (nx (nx (nx (fun _ => 0) 91) 92) 93) 94) 95) 96) 97) t) 50) 51)
abbrev m11 : Mo := ([50, 53, 54, 80], [(49, 0), (49, 1), (49, 2), (49, 3), (49, 4), (49, 5), (49, 6), (49, 7), (49, 8), (49, 9), (52, 0), (52, 1), (56, 0), (56, 2), (57, 0), (57, 2), (57, 3), (57, 4), (63, 0), (68, 0), (68, 1), (68, 2), (68, 3), (68, 4), (68, 6), (68, 7), (68, 8), (68, 9), (68, 10), (79, 0), (79, 1), (79, 2), (79, 3), (84, 0), (84, 2), (84, 3), (90, 0), (90, 1), (90, 2), (90, 3), (90, 4), (90, 5), (90, 7)])
abbrev n12 : Nat → Nat := (nx (nx (nx (nx (nx (nx (nx (nx (nx (nx (nx (nx (nx (nx (nx (nx (nx (nx (nx (nx (nx (nx (nx (nx (nx (nx (nx (nx (nx (nx (nx (nx (nx (nx (nx (nx (nx (nx (nx (nx (nx (nx (nx (nx (nx (nx (nx (nx (fun _ => 0) 1) 2) 3) 4) 5) 6) 7) 8) 9) 10) 11) 12) 13) 14) 15) 16) 17) 18) 19) 20) 21) 22) 23) 24) 25) 26) 27) 28) 29) 30) 31) 32) 33) 34) 35) 36) 37) 38) 39) 40) 41) 42) 43) 44) 45) 46) 47) 48)
abbrev m12 : Mo := ([3, 15, 31], [(0, 1), (0, 2), (0, 3), (0, 4), (0, 7), (0, 8), (0, 9), (0, 10), (0, 11), (0, 12), (0, 13), (0, 14), (0, 15), (0, 16), (0, 17), (0, 18), (0, 19), (0, 21), (0, 22), (0, 23), (0, 25), (0, 26), (0, 27), (0, 28), (0, 29), (0, 31), (0, 32), (0, 33), (0, 34), (0, 35), (0, 36), (0, 38), (0, 39), (0, 40), (0, 42), (0, 43), (0, 44), (0, 45), (0, 46), (0, 47), (0, 49), (0, 50), (0, 51), (0, 52), (0, 53), (0, 54), (0, 58), (0, 59)])
def CT (t : Nat) : Nat := 0 + (if t = 49 then 1 else 0) + n11 t + (if t = 0 then 1 else 0) + n12 t
theorem ct_sng : ∀ t, t ∈ sng → CT t = 1 := by decide +kernel
def refAt (t k : Nat) : Bool := ([59, 58, 54, 53, 52, 51, 50, 49, 47, 46, 45, 44, 43, 42, 40, 39, 38, 36, 35, 34, 33, 32, 31, 29, 28, 27, 26, 25, 23, 22, 21, 19, 18, 17, 16, 15, 14, 13, 12, 11, 10, 9, 8, 7, 4, 3, 2, 1].map (fun k => (0, k)) ++ ([8, 7, 6, 5, 4, 3, 2, 1, 0].map (fun k => (49, k)) ++ [(90, 7), (90, 5), (90, 4), (90, 3), (90, 2), (90, 1), (90, 0), (84, 3), (84, 2), (84, 0), (79, 3), (79, 2), (79, 1), (79, 0), (68, 10), (68, 9), (68, 8), (68, 7), (68, 6), (68, 4), (68, 3), (68, 2), (68, 1), (68, 0), (63, 0), (57, 4), (57, 3), (57, 2), (57, 0), (52, 0), (52, 1)])).contains (t, k) || t == 53 || t == 54 || t == 62 || t == 65 || t == 88
theorem ref_list : (List.range 98).all (fun t => (List.range (pt t).2.1).all (fun k => !((pt t).2.2.2 k).isSome || !nnl t k || refAt t k)) = true := by decide +kernel
theorem ref_at {t k t' : Nat} (h2 : k < (pt t).2.1) (h3 : (pt t).2.2.2 k = some t') (h4 : nnl t k = true) : refAt t k = true := by
  by_cases ht : t < 98
  · have a := List.all_eq_true.mp (List.all_eq_true.mp ref_list t (List.mem_range.mpr ht)) k (List.mem_range.mpr h2)
    rw [h3, h4] at a
    simpa using a
  · obtain ⟨n, rfl⟩ : ∃ n, t = n + 98 := ⟨t - 98, by omega⟩
    cases h3
theorem gi_start {al1 al2 al3 al4 : Al} {iv1 iv2 iv3 iv4 : Iv} {rv1 rv2 rv3 rv4 : Rv} (c1 : ∀ t, al1.1 t = 0 + (if t = 49 then 1 else 0)) (E1 : EXT n11 m11 al1 iv1 rv1 al2 iv2 rv2) (c3 : ∀ t, al3.1 t = al2.1 t + (if t = 0 then 1 else 0)) (b1 : ∀ t i k, iv1 t i k = 0)
    (k3 : ∀ t i k, i < al2.1 t → iv3 t i k = iv2 t i k ∧ rv3 t i k = rv2 t i k) (b3 : ∀ k, iv3 0 0 k = 0) (E2 : EXT n12 m12 al3 iv3 rv3 al4 iv4 rv4) (hR : RG al4 iv4) (hB : RB al4 rv4) (hN1 : NN 49 0 [8, 7, 6, 5, 4, 3, 2, 1, 0] rv2) (hZ : NZ [(90, 7), (90, 5), (90, 4), (90, 3), (90, 2), (90, 1), (90, 0), (84, 3), (84, 2), (84, 0), (79, 3), (79, 2), (79, 1), (79, 0), (68, 10), (68, 9), (68, 8), (68, 7), (68, 6), (68, 4), (68, 3), (68, 2), (68, 1), (68, 0), (63, 0), (57, 4), (57, 3), (57, 2), (57, 0), (52, 0), (52, 1)] al2 rv2) (hP : PF al2 iv2 rv2) (hN2 : NN 0 0 [59, 58, 54, 53, 52, 51, 50, 49, 47, 46, 45, 44, 43, 42, 40, 39, 38, 36, 35, 34, 33, 32, 31, 29, 28, 27, 26, 25, 23, 22, 21, 19, 18, 17, 16, 15, 14, 13, 12, 11, 10, 9, 8, 7, 4, 3, 2, 1] rv4) :
    GI al4 iv4 rv4 ∧ (∀ t i k, i < al4.1 t → ¬ MD m11 t k → ¬ MD m12 t k → iv4 t i k = 0) := by
  have ct : ∀ t, al4.1 t = CT t := fun t => by rw [E2.1, c3, E1.1, c1]; rfl
  have c2 : ∀ t, al2.1 t = 0 + (if t = 49 then 1 else 0) + n11 t := fun t => by rw [E1.1, c1]
  -- what the first leaves stays
  have keep : ∀ t i k, i < al2.1 t → ¬ MD m12 t k → iv4 t i k = iv2 t i k ∧ rv4 t i k = rv2 t i k := fun t i k q w => by
    have a := E2.2.2.1 t i k (by rw [c3]; omega) w
    have b := k3 t i k q
    exact ⟨a.1.trans b.1, a.2.trans b.2⟩
  have zero : ∀ t i k, i < al4.1 t → ¬ MD m11 t k → ¬ MD m12 t k → iv4 t i k = 0 := fun t i k q w1 w2 => by
    rcases Nat.lt_or_ge i (al2.1 t) with z | z
    · rw [(keep t i k z w2).1]
      rcases Nat.lt_or_ge i (al1.1 t) with y | y
      · rw [(E1.2.2.1 t i k y w1).1]; exact b1 t i k
      · exact (E1.2.2.2 t i k y z w1).1
    · rcases Nat.lt_or_ge i (al3.1 t) with y | y
      · have e : t = 0 ∧ i = 0 := by
          rw [c3] at y
          by_cases e0 : t = 0
          · subst e0
            have a0 : al2.1 0 = 0 := by rw [c2]; rfl
            simp at y; exact ⟨rfl, by omega⟩
          · simp [e0] at y; omega
        obtain ⟨rfl, rfl⟩ := e
        rw [(E2.2.2.1 0 0 k y w2).1]; exact b3 k
      · exact (E2.2.2.2 t i k y q w2).1
  have pos2 : ∀ t, 0 < 0 + (if t = 49 then 1 else 0) + n11 t → 0 < al2.1 t := fun t h => by rw [c2]; exact h
  have a62 : al4.1 62 = 0 := by rw [ct]; decide +kernel
  have a65 : al4.1 65 = 0 := by rw [ct]; decide +kernel
  have a88 : al4.1 88 = 0 := by rw [ct]; decide +kernel
  refine ⟨⟨hR, ?_, ?_, ?_⟩, zero⟩
  · intro t i k t' h1 h2 h3
    refine ⟨fun j hj => hB t i k t' h1 h2 h3 j hj, fun h4 => ?_⟩
    have r := ref_at h2 h3 h4
    simp only [refAt, Bool.or_eq_true, beq_iff_eq, List.contains_iff_mem] at r
    rcases r with ((((r | r) | r) | r) | r) | r
    · rcases List.mem_append.mp r with r | r
      · obtain ⟨k', hk, e⟩ := List.mem_map.mp r
        cases e
        have i0 : i = 0 := by rw [ct, show CT 0 = 1 from by decide +kernel] at h1; omega
        subst i0
        exact hN2 k hk
      · rcases List.mem_append.mp r with r | r
        · obtain ⟨k', hk, e⟩ := List.mem_map.mp r
          cases e
          have i0 : i = 0 := by rw [ct, show CT 49 = 1 from by decide +kernel] at h1; omega
          subst i0
          obtain ⟨j, hj⟩ := hN1 k hk
          exact ⟨j, by rw [(keep 49 0 k (pos2 49 (by decide +kernel)) (MD.no (by decide))).2]; exact hj⟩
        · obtain ⟨z1, j, hj⟩ := hZ (t, k) r
          have hm : (t, k) ∈ [(90, 7), (90, 5), (90, 4), (90, 3), (90, 2), (90, 1), (90, 0), (84, 3), (84, 2), (84, 0), (79, 3), (79, 2), (79, 1), (79, 0), (68, 10), (68, 9), (68, 8), (68, 7), (68, 6), (68, 4), (68, 3), (68, 2), (68, 1), (68, 0), (63, 0), (57, 4), (57, 3), (57, 2), (57, 0), (52, 0), (52, 1)] → ¬ MD m12 t k ∧ CT t = 1 := by
            intro q
            have a : ∀ q ∈ ([(90, 7), (90, 5), (90, 4), (90, 3), (90, 2), (90, 1), (90, 0), (84, 3), (84, 2), (84, 0), (79, 3), (79, 2), (79, 1), (79, 0), (68, 10), (68, 9), (68, 8), (68, 7), (68, 6), (68, 4), (68, 3), (68, 2), (68, 1), (68, 0), (63, 0), (57, 4), (57, 3), (57, 2), (57, 0), (52, 0), (52, 1)] : List (Nat × Nat)), ¬ MD m12 q.1 q.2 ∧ CT q.1 = 1 := by decide +kernel
            exact a (t, k) q
          have i0 : i = 0 := by rw [ct, (hm r).2] at h1; omega
          subst i0
          exact ⟨j, by rw [(keep t 0 k z1 (hm r).1).2]; exact hj⟩
    · subst r
      have i0 : i = 0 := by rw [ct, show CT 53 = 1 from by decide +kernel] at h1; omega
      subst i0
      exact ⟨k, by rw [(keep 53 0 k (pos2 53 (by decide +kernel)) (MD.no (by decide))).2]; exact (hP.2 k h2).1⟩
    · subst r
      have i0 : i = 0 := by rw [ct, show CT 54 = 1 from by decide +kernel] at h1; omega
      subst i0
      exact ⟨k, by rw [(keep 54 0 k (pos2 54 (by decide +kernel)) (MD.no (by decide))).2]; exact (hP.2 k h2).2.1⟩
    · subst r; omega
    · subst r; omega
    · subst r; omega
  · refine ⟨fun t ht => by rw [ct]; exact ct_sng t ht, ?_, ?_, ?_, ?_, ?_⟩
    · rw [ct]; decide +kernel
    · rw [ct]; decide +kernel
    · rw [ct, ct]; decide +kernel
    · rw [ct, ct]; decide +kernel
    · rw [ct, ct]; decide +kernel
  · have s1 : ∀ t, t ∈ sng → 0 < al4.1 t := fun t ht => by rw [ct, ct_sng t ht]; exact Nat.zero_lt_one
    have z20 : iv4 0 0 20 = 0 := zero 0 0 20 (s1 0 (by decide)) (by decide) (by decide)
    have z41 : iv4 0 0 41 = 0 := zero 0 0 41 (s1 0 (by decide)) (by decide) (by decide)
    have z6 : iv4 0 0 6 = 0 := zero 0 0 6 (s1 0 (by decide)) (by decide) (by decide)
    have tz : (0 : Int32).toInt = 0 := by decide
    refine ⟨⟨fun i hi => by omega, ?_⟩, ⟨fun i hi => by omega, ?_⟩, ⟨fun i hi => by omega, ?_⟩, ⟨fun i hi => ?_, fun i hi => ?_, fun i hi => ?_⟩, fun i hi => by omega, fun i hi => by omega, fun t ht => ?_, fun c hc => ?_, fun k hk => ?_⟩
    · rw [zero 57 0 1 (s1 57 (by decide)) (by decide) (by decide), a62]; exact tz
    · rw [zero 63 0 1 (s1 63 (by decide)) (by decide) (by decide), a65]; exact tz
    · rw [zero 84 0 1 (s1 84 (by decide)) (by decide) (by decide), a88]; exact tz
    · rw [(keep 53 0 i (pos2 53 (by decide +kernel)) (MD.no (by decide))).2]; exact (hP.2 i hi).1
    · rw [(keep 54 0 i (pos2 54 (by decide +kernel)) (MD.no (by decide))).2]; exact (hP.2 i hi).2.1
    · have : i < al2.1 56 := Nat.lt_of_lt_of_le hi hP.1.2.2
      rw [(keep 56 i 0 this (by decide)).1]; exact (hP.2 i hi).2.2.1
    · rw [z20, tz] at ht; omega
    · rw [z41, tz] at hc; omega
    · rw [z6, tz] at hk; omega
theorem n11_z : ∀ t, t < 49 → n11 t = 0 := by decide +kernel
end
