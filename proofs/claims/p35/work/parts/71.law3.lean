set_option maxHeartbeats 4000000 in
set_option maxRecDepth 100000 in
theorem law_27 {p : Program} {l : Launch} {e : Env} {s : State} {m : MethodId} {below : List Frame} {meth : Method} {c : Code} {b L : Nat} {xs : Nat → Int32} {D : va_G} {cA : FieldType → ClassId} {ls : Array Slot} {Q : State → Prop} {H : Heap} {locs : List Loc} {cells slots : Nat} {i : Int32} {ox om : Nat} {al : Al} {iv : Iv} {rv : Rv} (X : LX p s m c b L xs D cA) (hl : lv_has ls 4 [(3, .int i), (2, .ref om), (1, .ref ox), (0, .ref b)]) (hi : 0 ≤ i.toInt ∧ i.toInt + 6 < L) (hQ : LSt ox om al iv rv) (hU : UW D cA s.heap.size al iv rv H) (hS : va_S (Aq s.heap.size) s.heap H locs) (hc : cells + 3 ≤ 600000 ∧ slots + 16 ≤ 7302250)
    (kk : ∀ (al' : Al) (iv' : Iv) (rv' : Rv) (H' : Heap) (locs' : List Loc), LSt ox om al' iv' rv' → UW D cA s.heap.size al' iv' rv' H' → va_S (Aq s.heap.size) s.heap H' locs' → W p l e room_1 s m #[Value.ref b] below meth c H' locs' (cells + 3) (slots + 16) Q (F0 m 1475 ls [])) : W p l e room_1 s m #[Value.ref b] below meth c H locs cells slots Q (F0 m 1183 ls []) := by
  obtain ⟨hG, hox, hom, hRel⟩ := hQ
  have C := X.1
  have hx := C.1.1
  have hb := C.1.2.1
  obtain ⟨v1, e1⟩ : ∃ z, xs (i + 1).toNatClampNeg = z := ⟨_, rfl⟩
  obtain ⟨v2, e2⟩ : ∃ z, xs (i + 2).toNatClampNeg = z := ⟨_, rfl⟩
  obtain ⟨v3, e3⟩ : ∃ z, xs (i + 3).toNatClampNeg = z := ⟨_, rfl⟩
  refine lv_aload_n hx hb dL_law_1183 rfl (lv_at hl 2 rfl) ?_
  refine lv_aload_n hx hb dL_law_1184 rfl (lv_at hl 3 rfl) ?_
  refine lv_iload_n hx hb dL_law_1185 rfl (lv_at hl 0 rfl) ?_
  refine lv_iconst (v := 1) hx hb dL_law_1186 (by decide) ?_
  refine q_ai X hS (k := 1) (by decide) hi e1 dL_law_1187 dL_law_1188 ?_
  refine lv_aload_n hx hb dL_law_1189 rfl (lv_at hl 3 rfl) ?_
  refine lv_iload_n hx hb dL_law_1190 rfl (lv_at hl 0 rfl) ?_
  refine lv_iconst (v := 2) hx hb dL_law_1191 (by decide) ?_
  refine q_ai X hS (k := 2) (by decide) hi e2 dL_law_1192 dL_law_1193 ?_
  refine lv_aload_n hx hb dL_law_1194 rfl (lv_at hl 3 rfl) ?_
  refine lv_iload_n hx hb dL_law_1195 rfl (lv_at hl 0 rfl) ?_
  refine lv_iconst (v := 3) hx hb dL_law_1196 (by decide) ?_
  refine q_ai X hS (k := 3) (by decide) hi e3 dL_law_1197 dL_law_1198 ?_
  have hG0 := hG
  have hGp := hG
  refine W.eq (g2 := F0 m 1199 ls [.int v3, .int v2, .int v1, .ref (al.2 49 0)]) (by rw [hox]) ?_
  refine q_fi (q_runV (t := 49) (i := 0) (As := [.int v1, .int v2, .int v3]) (rest := []) C hU (c_X11_pay_x hG v1 v2 v3 ⟨hRel.2.2.2.2.2.2.2.2.2.2.2.2.2.2.2.2.2.2.1, hRel.2.2.2.2.2.2.2.2.2.2.2.2.2.2.2.2.2.2.2.1⟩) vm_X11_pay ml_L_128 k_49.1 (hc := rfl) rfl (h1_49 hG) hl.1 rfl rfl (Nat.le_of_ble_eq_true rfl) dL_law_1199 rfl rfl ⟨Nat.le_of_ble_eq_true rfl, Nat.le_of_ble_eq_true rfl⟩ ⟨by show cells + 0 ≤ 600000; omega, by show slots + 0 ≤ 7302250; omega⟩) hS (fun r1 iv1 rv1 H locs hG f1 g1 hp1 hU hS => ?_)
  refine lv_pop hx hb dL_law_1202 rfl ?_
  refine lv_aload_n hx hb dL_law_1203 rfl (lv_at hl 1 rfl) ?_
  refine lv_aload_n hx hb dL_law_1204 rfl (lv_at hl 3 rfl) ?_
  refine lv_iload_n hx hb dL_law_1205 rfl (lv_at hl 0 rfl) ?_
  refine lv_iconst (v := 1) hx hb dL_law_1206 (by decide) ?_
  refine q_ai X hS (k := 1) (by decide) hi e1 dL_law_1207 dL_law_1208 ?_
  refine lv_aload_n hx hb dL_law_1209 rfl (lv_at hl 3 rfl) ?_
  refine lv_iload_n hx hb dL_law_1210 rfl (lv_at hl 0 rfl) ?_
  refine lv_iconst (v := 2) hx hb dL_law_1211 (by decide) ?_
  refine q_ai X hS (k := 2) (by decide) hi e2 dL_law_1212 dL_law_1213 ?_
  refine lv_aload_n hx hb dL_law_1214 rfl (lv_at hl 3 rfl) ?_
  refine lv_iload_n hx hb dL_law_1215 rfl (lv_at hl 0 rfl) ?_
  refine lv_iconst (v := 3) hx hb dL_law_1216 (by decide) ?_
  refine q_ai X hS (k := 3) (by decide) hi e3 dL_law_1217 dL_law_1218 ?_
  have hGp := hG
  refine W.eq (g2 := F0 m 1219 ls [.int v3, .int v2, .int v1, .ref (al.2 0 0)]) (by rw [hom]) ?_
  refine q_fi (q_runV (t := 0) (i := 0) (As := [.int v1, .int v2, .int v3]) (rest := []) C hU (c_X12_pay_x hG v1 v2 v3) vm_X12_pay ml_L_131 k_0.1 (hc := rfl) rfl (h1_0 hG) hl.1 rfl rfl (Nat.le_of_ble_eq_true rfl) dL_law_1219 rfl rfl ⟨Nat.le_of_ble_eq_true rfl, Nat.le_of_ble_eq_true rfl⟩ ⟨by show cells + 0 ≤ 600000; omega, by show slots + 0 ≤ 7302250; omega⟩) hS (fun r2 iv2 rv2 H locs hG f2 g2 hp2 hU hS => ?_)
  have hRel := REL.s_pay hG0 hRel hp1 hp2 (EX.of f1 g1) f2 g2
  refine lv_pop hx hb dL_law_1222 rfl ?_
  refine lv_goto (tgt := 1475) hx hb dL_law_1223 (by decide) ?_
  refine W.widen (k := cells + 3) (n := slots + 16) (by omega) (by omega) ?_
  exact kk _ _ _ _ _ ⟨hG, hox, hom, hRel⟩ hU hS
set_option maxHeartbeats 4000000 in
set_option maxRecDepth 100000 in
theorem law_28 {p : Program} {l : Launch} {e : Env} {s : State} {m : MethodId} {below : List Frame} {meth : Method} {c : Code} {b L : Nat} {xs : Nat → Int32} {D : va_G} {cA : FieldType → ClassId} {ls : Array Slot} {Q : State → Prop} {H : Heap} {locs : List Loc} {cells slots : Nat} {i : Int32} {ox om : Nat} {al : Al} {iv : Iv} {rv : Rv} (X : LX p s m c b L xs D cA) (hl : lv_has ls 4 [(3, .int i), (2, .ref om), (1, .ref ox), (0, .ref b)]) (hi : 0 ≤ i.toInt ∧ i.toInt + 6 < L) (hQ : LSt ox om al iv rv) (hU : UW D cA s.heap.size al iv rv H) (hS : va_S (Aq s.heap.size) s.heap H locs) (hc : cells + 3 ≤ 600000 ∧ slots + 16 ≤ 7302250)
    (kk : ∀ (al' : Al) (iv' : Iv) (rv' : Rv) (H' : Heap) (locs' : List Loc), LSt ox om al' iv' rv' → UW D cA s.heap.size al' iv' rv' H' → va_S (Aq s.heap.size) s.heap H' locs' → W p l e room_1 s m #[Value.ref b] below meth c H' locs' (cells + 3) (slots + 16) Q (F0 m 1475 ls [])) : W p l e room_1 s m #[Value.ref b] below meth c H locs cells slots Q (F0 m 1226 ls []) := by
  obtain ⟨hG, hox, hom, hRel⟩ := hQ
  have C := X.1
  have hx := C.1.1
  have hb := C.1.2.1
  obtain ⟨v1, e1⟩ : ∃ z, xs (i + 1).toNatClampNeg = z := ⟨_, rfl⟩
  obtain ⟨v2, e2⟩ : ∃ z, xs (i + 2).toNatClampNeg = z := ⟨_, rfl⟩
  refine lv_aload_n hx hb dL_law_1226 rfl (lv_at hl 2 rfl) ?_
  refine lv_aload_n hx hb dL_law_1227 rfl (lv_at hl 3 rfl) ?_
  refine lv_iload_n hx hb dL_law_1228 rfl (lv_at hl 0 rfl) ?_
  refine lv_iconst (v := 1) hx hb dL_law_1229 (by decide) ?_
  refine q_ai X hS (k := 1) (by decide) hi e1 dL_law_1230 dL_law_1231 ?_
  refine lv_aload_n hx hb dL_law_1232 rfl (lv_at hl 3 rfl) ?_
  refine lv_iload_n hx hb dL_law_1233 rfl (lv_at hl 0 rfl) ?_
  refine lv_iconst (v := 2) hx hb dL_law_1234 (by decide) ?_
  refine q_ai X hS (k := 2) (by decide) hi e2 dL_law_1235 dL_law_1236 ?_
  have hG0 := hG
  have hGp := hG
  refine W.eq (g2 := F0 m 1237 ls [.int v2, .int v1, .ref (al.2 49 0)]) (by rw [hox]) ?_
  refine q_fi (q_runV (t := 49) (i := 0) (As := [.int v1, .int v2]) (rest := []) C hU (c_X11_due hG v1 v2) vm_X11_due ml_L_132 k_49.1 (hc := rfl) rfl (h1_49 hG) hl.1 rfl rfl (Nat.le_of_ble_eq_true rfl) dL_law_1237 rfl rfl ⟨Nat.le_of_ble_eq_true rfl, Nat.le_of_ble_eq_true rfl⟩ ⟨by show cells + 0 ≤ 600000; omega, by show slots + 0 ≤ 7302250; omega⟩) hS (fun r1 iv1 rv1 H locs hG f1 g1 hp1 hU hS => ?_)
  have hRel := hRel.fr hGp f1 g1 (by decide)
  refine lv_pop hx hb dL_law_1240 rfl ?_
  refine lv_aload_n hx hb dL_law_1241 rfl (lv_at hl 1 rfl) ?_
  refine lv_aload_n hx hb dL_law_1242 rfl (lv_at hl 3 rfl) ?_
  refine lv_iload_n hx hb dL_law_1243 rfl (lv_at hl 0 rfl) ?_
  refine lv_iconst (v := 1) hx hb dL_law_1244 (by decide) ?_
  refine q_ai X hS (k := 1) (by decide) hi e1 dL_law_1245 dL_law_1246 ?_
  refine lv_aload_n hx hb dL_law_1247 rfl (lv_at hl 3 rfl) ?_
  refine lv_iload_n hx hb dL_law_1248 rfl (lv_at hl 0 rfl) ?_
  refine lv_iconst (v := 2) hx hb dL_law_1249 (by decide) ?_
  refine q_ai X hS (k := 2) (by decide) hi e2 dL_law_1250 dL_law_1251 ?_
  have hGp := hG
  refine W.eq (g2 := F0 m 1252 ls [.int v2, .int v1, .ref (al.2 0 0)]) (by rw [hom]) ?_
  refine q_fi (q_runV (t := 0) (i := 0) (As := [.int v1, .int v2]) (rest := []) C hU (c_X12_due hG v1 v2) vm_X12_due ml_L_135 k_0.1 (hc := rfl) rfl (h1_0 hG) hl.1 rfl rfl (Nat.le_of_ble_eq_true rfl) dL_law_1252 rfl rfl ⟨Nat.le_of_ble_eq_true rfl, Nat.le_of_ble_eq_true rfl⟩ ⟨by show cells + 0 ≤ 600000; omega, by show slots + 0 ≤ 7302250; omega⟩) hS (fun r2 iv2 rv2 H locs hG f2 g2 hp2 hU hS => ?_)
  have hRel := hRel.fr hGp f2 g2 (by decide)
  refine lv_pop hx hb dL_law_1255 rfl ?_
  refine lv_goto (tgt := 1475) hx hb dL_law_1256 (by decide) ?_
  refine W.widen (k := cells + 3) (n := slots + 16) (by omega) (by omega) ?_
  exact kk _ _ _ _ _ ⟨hG, hox, hom, hRel⟩ hU hS
set_option maxHeartbeats 4000000 in
set_option maxRecDepth 100000 in
theorem law_29 {p : Program} {l : Launch} {e : Env} {s : State} {m : MethodId} {below : List Frame} {meth : Method} {c : Code} {b L : Nat} {xs : Nat → Int32} {D : va_G} {cA : FieldType → ClassId} {ls : Array Slot} {Q : State → Prop} {H : Heap} {locs : List Loc} {cells slots : Nat} {i : Int32} {ox om : Nat} {al : Al} {iv : Iv} {rv : Rv} (X : LX p s m c b L xs D cA) (hl : lv_has ls 4 [(3, .int i), (2, .ref om), (1, .ref ox), (0, .ref b)]) (hi : 0 ≤ i.toInt ∧ i.toInt + 6 < L) (hQ : LSt ox om al iv rv) (hU : UW D cA s.heap.size al iv rv H) (hS : va_S (Aq s.heap.size) s.heap H locs) (hc : cells + 3 ≤ 600000 ∧ slots + 16 ≤ 7302250)
    (kk : ∀ (al' : Al) (iv' : Iv) (rv' : Rv) (H' : Heap) (locs' : List Loc), LSt ox om al' iv' rv' → UW D cA s.heap.size al' iv' rv' H' → va_S (Aq s.heap.size) s.heap H' locs' → W p l e room_1 s m #[Value.ref b] below meth c H' locs' (cells + 3) (slots + 16) Q (F0 m 1475 ls [])) : W p l e room_1 s m #[Value.ref b] below meth c H locs cells slots Q (F0 m 1259 ls []) := by
  obtain ⟨hG, hox, hom, hRel⟩ := hQ
  have C := X.1
  have hx := C.1.1
  have hb := C.1.2.1
  obtain ⟨v1, e1⟩ : ∃ z, xs (i + 1).toNatClampNeg = z := ⟨_, rfl⟩
  refine lv_aload_n hx hb dL_law_1259 rfl (lv_at hl 2 rfl) ?_
  refine lv_aload_n hx hb dL_law_1260 rfl (lv_at hl 3 rfl) ?_
  refine lv_iload_n hx hb dL_law_1261 rfl (lv_at hl 0 rfl) ?_
  refine lv_iconst (v := 1) hx hb dL_law_1262 (by decide) ?_
  refine q_ai X hS (k := 1) (by decide) hi e1 dL_law_1263 dL_law_1264 ?_
  have hG0 := hG
  have hGp := hG
  refine W.eq (g2 := F0 m 1265 ls [.int v1, .ref (al.2 49 0)]) (by rw [hox]) ?_
  refine q_fi (q_runV (t := 49) (i := 0) (As := [.int v1]) (rest := []) C hU (c_X11_balance hG v1) vm_X11_balance ml_L_136 k_49.1 (hc := rfl) rfl (h1_49 hG) hl.1 rfl rfl (Nat.le_of_ble_eq_true rfl) dL_law_1265 rfl rfl ⟨Nat.le_of_ble_eq_true rfl, Nat.le_of_ble_eq_true rfl⟩ ⟨by show cells + 0 ≤ 600000; omega, by show slots + 0 ≤ 7302250; omega⟩) hS (fun r1 iv1 rv1 H locs hG f1 g1 hp1 hU hS => ?_)
  have hRel := hRel.fr hGp f1 g1 (by decide)
  refine lv_pop hx hb dL_law_1268 rfl ?_
  refine lv_aload_n hx hb dL_law_1269 rfl (lv_at hl 1 rfl) ?_
  refine lv_aload_n hx hb dL_law_1270 rfl (lv_at hl 3 rfl) ?_
  refine lv_iload_n hx hb dL_law_1271 rfl (lv_at hl 0 rfl) ?_
  refine lv_iconst (v := 1) hx hb dL_law_1272 (by decide) ?_
  refine q_ai X hS (k := 1) (by decide) hi e1 dL_law_1273 dL_law_1274 ?_
  have hGp := hG
  refine W.eq (g2 := F0 m 1275 ls [.int v1, .ref (al.2 0 0)]) (by rw [hom]) ?_
  refine q_fi (q_runV (t := 0) (i := 0) (As := [.int v1]) (rest := []) C hU (c_X12_balance hG v1) vm_X12_balance ml_L_139 k_0.1 (hc := rfl) rfl (h1_0 hG) hl.1 rfl rfl (Nat.le_of_ble_eq_true rfl) dL_law_1275 rfl rfl ⟨Nat.le_of_ble_eq_true rfl, Nat.le_of_ble_eq_true rfl⟩ ⟨by show cells + 0 ≤ 600000; omega, by show slots + 0 ≤ 7302250; omega⟩) hS (fun r2 iv2 rv2 H locs hG f2 g2 hp2 hU hS => ?_)
  have hRel := hRel.fr hGp f2 g2 (by decide)
  refine lv_pop hx hb dL_law_1278 rfl ?_
  refine lv_goto (tgt := 1475) hx hb dL_law_1279 (by decide) ?_
  refine W.widen (k := cells + 3) (n := slots + 16) (by omega) (by omega) ?_
  exact kk _ _ _ _ _ ⟨hG, hox, hom, hRel⟩ hU hS
set_option maxHeartbeats 4000000 in
set_option maxRecDepth 100000 in
theorem law_30 {p : Program} {l : Launch} {e : Env} {s : State} {m : MethodId} {below : List Frame} {meth : Method} {c : Code} {b L : Nat} {xs : Nat → Int32} {D : va_G} {cA : FieldType → ClassId} {ls : Array Slot} {Q : State → Prop} {H : Heap} {locs : List Loc} {cells slots : Nat} {i : Int32} {ox om : Nat} {al : Al} {iv : Iv} {rv : Rv} (X : LX p s m c b L xs D cA) (hl : lv_has ls 4 [(3, .int i), (2, .ref om), (1, .ref ox), (0, .ref b)]) (hi : 0 ≤ i.toInt ∧ i.toInt + 6 < L) (hQ : LSt ox om al iv rv) (hU : UW D cA s.heap.size al iv rv H) (hS : va_S (Aq s.heap.size) s.heap H locs) (hc : cells + 3 ≤ 600000 ∧ slots + 16 ≤ 7302250)
    (kk : ∀ (al' : Al) (iv' : Iv) (rv' : Rv) (H' : Heap) (locs' : List Loc), LSt ox om al' iv' rv' → UW D cA s.heap.size al' iv' rv' H' → va_S (Aq s.heap.size) s.heap H' locs' → W p l e room_1 s m #[Value.ref b] below meth c H' locs' (cells + 3) (slots + 16) Q (F0 m 1475 ls [])) : W p l e room_1 s m #[Value.ref b] below meth c H locs cells slots Q (F0 m 1282 ls []) := by
  obtain ⟨hG, hox, hom, hRel⟩ := hQ
  have C := X.1
  have hx := C.1.1
  have hb := C.1.2.1
  refine lv_aload_n hx hb dL_law_1282 rfl (lv_at hl 2 rfl) ?_
  have hG0 := hG
  have hGp := hG
  refine W.eq (g2 := F0 m 1283 ls [.ref (al.2 49 0)]) (by rw [hox]) ?_
  refine q_fi (q_runV (t := 49) (i := 0) (As := []) (rest := []) C hU (c_X11_back hG ) vm_X11_back ml_L_140 k_49.1 (hc := rfl) rfl (h1_49 hG) hl.1 rfl rfl (Nat.le_of_ble_eq_true rfl) dL_law_1283 rfl rfl ⟨Nat.le_of_ble_eq_true rfl, Nat.le_of_ble_eq_true rfl⟩ ⟨by show cells + 0 ≤ 600000; omega, by show slots + 0 ≤ 7302250; omega⟩) hS (fun r1 iv1 rv1 H locs hG f1 g1 hp1 hU hS => ?_)
  have hRel := hRel.fr hGp f1 g1 (by decide)
  refine lv_pop hx hb dL_law_1286 rfl ?_
  refine lv_aload_n hx hb dL_law_1287 rfl (lv_at hl 1 rfl) ?_
  have hGp := hG
  refine W.eq (g2 := F0 m 1288 ls [.ref (al.2 0 0)]) (by rw [hom]) ?_
  refine q_fi (q_runV (t := 0) (i := 0) (As := []) (rest := []) C hU (c_X12_back hG ) vm_X12_back ml_L_144 k_0.1 (hc := rfl) rfl (h1_0 hG) hl.1 rfl rfl (Nat.le_of_ble_eq_true rfl) dL_law_1288 rfl rfl ⟨Nat.le_of_ble_eq_true rfl, Nat.le_of_ble_eq_true rfl⟩ ⟨by show cells + 0 ≤ 600000; omega, by show slots + 0 ≤ 7302250; omega⟩) hS (fun r2 iv2 rv2 H locs hG f2 g2 hp2 hU hS => ?_)
  have hRel := hRel.fr hGp f2 g2 (by decide)
  refine lv_pop hx hb dL_law_1291 rfl ?_
  refine lv_goto (tgt := 1475) hx hb dL_law_1292 (by decide) ?_
  refine W.widen (k := cells + 3) (n := slots + 16) (by omega) (by omega) ?_
  exact kk _ _ _ _ _ ⟨hG, hox, hom, hRel⟩ hU hS
set_option maxHeartbeats 4000000 in
set_option maxRecDepth 100000 in
theorem law_31 {p : Program} {l : Launch} {e : Env} {s : State} {m : MethodId} {below : List Frame} {meth : Method} {c : Code} {b L : Nat} {xs : Nat → Int32} {D : va_G} {cA : FieldType → ClassId} {ls : Array Slot} {Q : State → Prop} {H : Heap} {locs : List Loc} {cells slots : Nat} {i : Int32} {ox om : Nat} {al : Al} {iv : Iv} {rv : Rv} (X : LX p s m c b L xs D cA) (hl : lv_has ls 4 [(3, .int i), (2, .ref om), (1, .ref ox), (0, .ref b)]) (hi : 0 ≤ i.toInt ∧ i.toInt + 6 < L) (hQ : LSt ox om al iv rv) (hU : UW D cA s.heap.size al iv rv H) (hS : va_S (Aq s.heap.size) s.heap H locs) (hc : cells + 3 ≤ 600000 ∧ slots + 16 ≤ 7302250)
    (kk : ∀ (al' : Al) (iv' : Iv) (rv' : Rv) (H' : Heap) (locs' : List Loc), LSt ox om al' iv' rv' → UW D cA s.heap.size al' iv' rv' H' → va_S (Aq s.heap.size) s.heap H' locs' → W p l e room_1 s m #[Value.ref b] below meth c H' locs' (cells + 3) (slots + 16) Q (F0 m 1475 ls [])) : W p l e room_1 s m #[Value.ref b] below meth c H locs cells slots Q (F0 m 1295 ls []) := by
  obtain ⟨hG, hox, hom, hRel⟩ := hQ
  have C := X.1
  have hx := C.1.1
  have hb := C.1.2.1
  obtain ⟨v1, e1⟩ : ∃ z, xs (i + 1).toNatClampNeg = z := ⟨_, rfl⟩
  obtain ⟨v2, e2⟩ : ∃ z, xs (i + 2).toNatClampNeg = z := ⟨_, rfl⟩
  obtain ⟨v3, e3⟩ : ∃ z, xs (i + 3).toNatClampNeg = z := ⟨_, rfl⟩
  obtain ⟨v4, e4⟩ : ∃ z, xs (i + 4).toNatClampNeg = z := ⟨_, rfl⟩
  obtain ⟨v5, e5⟩ : ∃ z, xs (i + 5).toNatClampNeg = z := ⟨_, rfl⟩
  obtain ⟨v6, e6⟩ : ∃ z, xs (i + 6).toNatClampNeg = z := ⟨_, rfl⟩
  refine lv_aload_n hx hb dL_law_1295 rfl (lv_at hl 2 rfl) ?_
  refine lv_aload_n hx hb dL_law_1296 rfl (lv_at hl 3 rfl) ?_
  refine lv_iload_n hx hb dL_law_1297 rfl (lv_at hl 0 rfl) ?_
  refine lv_iconst (v := 1) hx hb dL_law_1298 (by decide) ?_
  refine q_ai X hS (k := 1) (by decide) hi e1 dL_law_1299 dL_law_1300 ?_
  refine lv_aload_n hx hb dL_law_1301 rfl (lv_at hl 3 rfl) ?_
  refine lv_iload_n hx hb dL_law_1302 rfl (lv_at hl 0 rfl) ?_
  refine lv_iconst (v := 2) hx hb dL_law_1303 (by decide) ?_
  refine q_ai X hS (k := 2) (by decide) hi e2 dL_law_1304 dL_law_1305 ?_
  refine lv_aload_n hx hb dL_law_1306 rfl (lv_at hl 3 rfl) ?_
  refine lv_iload_n hx hb dL_law_1307 rfl (lv_at hl 0 rfl) ?_
  refine lv_iconst (v := 3) hx hb dL_law_1308 (by decide) ?_
  refine q_ai X hS (k := 3) (by decide) hi e3 dL_law_1309 dL_law_1310 ?_
  refine lv_aload_n hx hb dL_law_1311 rfl (lv_at hl 3 rfl) ?_
  refine lv_iload_n hx hb dL_law_1312 rfl (lv_at hl 0 rfl) ?_
  refine lv_iconst (v := 4) hx hb dL_law_1313 (by decide) ?_
  refine q_ai X hS (k := 4) (by decide) hi e4 dL_law_1314 dL_law_1315 ?_
  refine lv_aload_n hx hb dL_law_1316 rfl (lv_at hl 3 rfl) ?_
  refine lv_iload_n hx hb dL_law_1317 rfl (lv_at hl 0 rfl) ?_
  refine lv_iconst (v := 5) hx hb dL_law_1318 (by decide) ?_
  refine q_ai X hS (k := 5) (by decide) hi e5 dL_law_1319 dL_law_1320 ?_
  have J_1329 : ∀ zv5 : Int32, (0 ≤ zv5.toInt ∧ zv5.toInt ≤ 1) → zv5 = bz v5 → W p l e room_1 s m #[Value.ref b] below meth c H locs cells slots Q (F0 m 1329 ls [.int zv5, .int v4, .int v3, .int v2, .int v1, .ref ox]) := by
    intro zv5 rzv5 qzv5
    refine lv_aload_n hx hb dL_law_1329 rfl (lv_at hl 3 rfl) ?_
    refine lv_iload_n hx hb dL_law_1330 rfl (lv_at hl 0 rfl) ?_
    refine lv_bipush (v := 6) hx hb dL_law_1331 (by decide) ?_
    refine q_ai X hS (k := 6) (by decide) hi e6 dL_law_1333 dL_law_1334 ?_
    have hG0 := hG
    have hGp := hG
    refine W.eq (g2 := F0 m 1335 ls [.int v6, .int zv5, .int v4, .int v3, .int v2, .int v1, .ref (al.2 49 0)]) (by rw [hox]) ?_
    refine q_fi (q_runV (t := 49) (i := 0) (As := [.int v1, .int v2, .int v3, .int v4, .int zv5, .int v6]) (rest := []) C hU (c_X11_judged_y hG v1 v2 v3 v4 zv5 v6 rzv5) vm_X11_judged ml_L_145 k_49.1 (hc := rfl) rfl (h1_49 hG) hl.1 rfl rfl (Nat.le_of_ble_eq_true rfl) dL_law_1335 rfl rfl ⟨Nat.le_of_ble_eq_true rfl, Nat.le_of_ble_eq_true rfl⟩ ⟨by show cells + 0 ≤ 600000; omega, by show slots + 0 ≤ 7302250; omega⟩) hS (fun r1 iv1 rv1 H locs hG f1 g1 hp1 hU hS => ?_)
    refine lv_pop hx hb dL_law_1338 rfl ?_
    refine lv_aload_n hx hb dL_law_1339 rfl (lv_at hl 1 rfl) ?_
    refine lv_aload_n hx hb dL_law_1340 rfl (lv_at hl 3 rfl) ?_
    refine lv_iload_n hx hb dL_law_1341 rfl (lv_at hl 0 rfl) ?_
    refine lv_iconst (v := 1) hx hb dL_law_1342 (by decide) ?_
    refine q_ai X hS (k := 1) (by decide) hi e1 dL_law_1343 dL_law_1344 ?_
    refine lv_aload_n hx hb dL_law_1345 rfl (lv_at hl 3 rfl) ?_
    refine lv_iload_n hx hb dL_law_1346 rfl (lv_at hl 0 rfl) ?_
    refine lv_iconst (v := 2) hx hb dL_law_1347 (by decide) ?_
    refine q_ai X hS (k := 2) (by decide) hi e2 dL_law_1348 dL_law_1349 ?_
    refine lv_aload_n hx hb dL_law_1350 rfl (lv_at hl 3 rfl) ?_
    refine lv_iload_n hx hb dL_law_1351 rfl (lv_at hl 0 rfl) ?_
    refine lv_iconst (v := 3) hx hb dL_law_1352 (by decide) ?_
    refine q_ai X hS (k := 3) (by decide) hi e3 dL_law_1353 dL_law_1354 ?_
    refine lv_aload_n hx hb dL_law_1355 rfl (lv_at hl 3 rfl) ?_
    refine lv_iload_n hx hb dL_law_1356 rfl (lv_at hl 0 rfl) ?_
    refine lv_iconst (v := 4) hx hb dL_law_1357 (by decide) ?_
    refine q_ai X hS (k := 4) (by decide) hi e4 dL_law_1358 dL_law_1359 ?_
    refine lv_aload_n hx hb dL_law_1360 rfl (lv_at hl 3 rfl) ?_
    refine lv_iload_n hx hb dL_law_1361 rfl (lv_at hl 0 rfl) ?_
    refine lv_iconst (v := 5) hx hb dL_law_1362 (by decide) ?_
    refine q_ai X hS (k := 5) (by decide) hi e5 dL_law_1363 dL_law_1364 ?_
    have J_1373 : ∀ zv5m : Int32, (0 ≤ zv5m.toInt ∧ zv5m.toInt ≤ 1) → zv5m = bz v5 → W p l e room_1 s m #[Value.ref b] below meth c H locs cells slots Q (F0 m 1373 ls [.int zv5m, .int v4, .int v3, .int v2, .int v1, .ref om]) := by
      intro zv5m rzv5m qzv5m
      refine lv_aload_n hx hb dL_law_1373 rfl (lv_at hl 3 rfl) ?_
      refine lv_iload_n hx hb dL_law_1374 rfl (lv_at hl 0 rfl) ?_
      refine lv_bipush (v := 6) hx hb dL_law_1375 (by decide) ?_
      refine q_ai X hS (k := 6) (by decide) hi e6 dL_law_1377 dL_law_1378 ?_
      have hGp := hG
      refine W.eq (g2 := F0 m 1379 ls [.int v6, .int zv5m, .int v4, .int v3, .int v2, .int v1, .ref (al.2 0 0)]) (by rw [hom]) ?_
      refine q_fi (q_runV (t := 0) (i := 0) (As := [.int v1, .int v2, .int v3, .int v4, .int zv5m, .int v6]) (rest := []) C hU (c_X12_judged_y hG v1 v2 v3 v4 zv5m v6 rzv5m) vm_X12_judged ml_L_149 k_0.1 (hc := rfl) rfl (h1_0 hG) hl.1 rfl rfl (Nat.le_of_ble_eq_true rfl) dL_law_1379 rfl rfl ⟨Nat.le_of_ble_eq_true rfl, Nat.le_of_ble_eq_true rfl⟩ ⟨by show cells + 0 ≤ 600000; omega, by show slots + 0 ≤ 7302250; omega⟩) hS (fun r2 iv2 rv2 H locs hG f2 g2 hp2 hU hS => ?_)
      have zv5m_e : zv5m = zv5 := qzv5m.trans qzv5.symm
      try rw [zv5m_e] at hp2
      have hRel := REL.s_judged hG0 hRel hp1 hp2 (EX.of f1 g1) f2 g2
      refine lv_pop hx hb dL_law_1382 rfl ?_
      refine lv_goto (tgt := 1475) hx hb dL_law_1383 (by decide) ?_
      refine W.widen (k := cells + 3) (n := slots + 16) (by omega) (by omega) ?_
      exact kk _ _ _ _ _ ⟨hG, hox, hom, hRel⟩ hU hS
    refine b_if_eq (tgt := 1372) hx hb dL_law_1365 (by decide) (fun c0 => ?_) (fun c0 => ?_)
    · refine lv_iconst (v := 0) hx hb dL_law_1372 (by decide) ?_
      exact J_1373 0 ⟨by decide, by decide⟩ (bz_0 c0)
    · refine lv_iconst (v := 1) hx hb dL_law_1368 (by decide) ?_
      refine lv_goto (tgt := 1373) hx hb dL_law_1369 (by decide) ?_
      exact J_1373 1 ⟨by decide, by decide⟩ (bz_1 c0)
  refine b_if_eq (tgt := 1328) hx hb dL_law_1321 (by decide) (fun c0 => ?_) (fun c0 => ?_)
  · refine lv_iconst (v := 0) hx hb dL_law_1328 (by decide) ?_
    exact J_1329 0 ⟨by decide, by decide⟩ (bz_0 c0)
  · refine lv_iconst (v := 1) hx hb dL_law_1324 (by decide) ?_
    refine lv_goto (tgt := 1329) hx hb dL_law_1325 (by decide) ?_
    exact J_1329 1 ⟨by decide, by decide⟩ (bz_1 c0)
set_option maxHeartbeats 4000000 in
set_option maxRecDepth 100000 in
theorem law_32 {p : Program} {l : Launch} {e : Env} {s : State} {m : MethodId} {below : List Frame} {meth : Method} {c : Code} {b L : Nat} {xs : Nat → Int32} {D : va_G} {cA : FieldType → ClassId} {ls : Array Slot} {Q : State → Prop} {H : Heap} {locs : List Loc} {cells slots : Nat} {i : Int32} {ox om : Nat} {al : Al} {iv : Iv} {rv : Rv} (X : LX p s m c b L xs D cA) (hl : lv_has ls 4 [(3, .int i), (2, .ref om), (1, .ref ox), (0, .ref b)]) (hi : 0 ≤ i.toInt ∧ i.toInt + 6 < L) (hQ : LSt ox om al iv rv) (hU : UW D cA s.heap.size al iv rv H) (hS : va_S (Aq s.heap.size) s.heap H locs) (hc : cells + 3 ≤ 600000 ∧ slots + 16 ≤ 7302250)
    (kk : ∀ (al' : Al) (iv' : Iv) (rv' : Rv) (H' : Heap) (locs' : List Loc), LSt ox om al' iv' rv' → UW D cA s.heap.size al' iv' rv' H' → va_S (Aq s.heap.size) s.heap H' locs' → W p l e room_1 s m #[Value.ref b] below meth c H' locs' (cells + 3) (slots + 16) Q (F0 m 1475 ls [])) : W p l e room_1 s m #[Value.ref b] below meth c H locs cells slots Q (F0 m 1386 ls []) := by
  obtain ⟨hG, hox, hom, hRel⟩ := hQ
  have C := X.1
  have hx := C.1.1
  have hb := C.1.2.1
  obtain ⟨v1, e1⟩ : ∃ z, xs (i + 1).toNatClampNeg = z := ⟨_, rfl⟩
  obtain ⟨v2, e2⟩ : ∃ z, xs (i + 2).toNatClampNeg = z := ⟨_, rfl⟩
  refine lv_aload_n hx hb dL_law_1386 rfl (lv_at hl 2 rfl) ?_
  refine lv_aload_n hx hb dL_law_1387 rfl (lv_at hl 3 rfl) ?_
  refine lv_iload_n hx hb dL_law_1388 rfl (lv_at hl 0 rfl) ?_
  refine lv_iconst (v := 1) hx hb dL_law_1389 (by decide) ?_
  refine q_ai X hS (k := 1) (by decide) hi e1 dL_law_1390 dL_law_1391 ?_
  refine lv_aload_n hx hb dL_law_1392 rfl (lv_at hl 3 rfl) ?_
  refine lv_iload_n hx hb dL_law_1393 rfl (lv_at hl 0 rfl) ?_
  refine lv_iconst (v := 2) hx hb dL_law_1394 (by decide) ?_
  refine q_ai X hS (k := 2) (by decide) hi e2 dL_law_1395 dL_law_1396 ?_
  have hG0 := hG
  have hGp := hG
  refine W.eq (g2 := F0 m 1397 ls [.int v2, .int v1, .ref (al.2 49 0)]) (by rw [hox]) ?_
  refine q_fi (q_runV (t := 49) (i := 0) (As := [.int v1, .int v2]) (rest := []) C hU (c_X11_odds hG v1 v2) vm_X11_odds ml_L_150 k_49.1 (hc := rfl) rfl (h1_49 hG) hl.1 rfl rfl (Nat.le_of_ble_eq_true rfl) dL_law_1397 rfl rfl ⟨Nat.le_of_ble_eq_true rfl, Nat.le_of_ble_eq_true rfl⟩ ⟨by show cells + 0 ≤ 600000; omega, by show slots + 0 ≤ 7302250; omega⟩) hS (fun r1 iv1 rv1 H locs hG f1 g1 hp1 hU hS => ?_)
  have hRel := hRel.fr hGp f1 g1 (by decide)
  refine lv_pop hx hb dL_law_1400 rfl ?_
  refine lv_aload_n hx hb dL_law_1401 rfl (lv_at hl 1 rfl) ?_
  refine lv_aload_n hx hb dL_law_1402 rfl (lv_at hl 3 rfl) ?_
  refine lv_iload_n hx hb dL_law_1403 rfl (lv_at hl 0 rfl) ?_
  refine lv_iconst (v := 1) hx hb dL_law_1404 (by decide) ?_
  refine q_ai X hS (k := 1) (by decide) hi e1 dL_law_1405 dL_law_1406 ?_
  refine lv_aload_n hx hb dL_law_1407 rfl (lv_at hl 3 rfl) ?_
  refine lv_iload_n hx hb dL_law_1408 rfl (lv_at hl 0 rfl) ?_
  refine lv_iconst (v := 2) hx hb dL_law_1409 (by decide) ?_
  refine q_ai X hS (k := 2) (by decide) hi e2 dL_law_1410 dL_law_1411 ?_
  have hGp := hG
  refine W.eq (g2 := F0 m 1412 ls [.int v2, .int v1, .ref (al.2 0 0)]) (by rw [hom]) ?_
  refine q_fi (q_runV (t := 0) (i := 0) (As := [.int v1, .int v2]) (rest := []) C hU (c_X12_odds hG v1 v2) vm_X12_odds ml_L_153 k_0.1 (hc := rfl) rfl (h1_0 hG) hl.1 rfl rfl (Nat.le_of_ble_eq_true rfl) dL_law_1412 rfl rfl ⟨Nat.le_of_ble_eq_true rfl, Nat.le_of_ble_eq_true rfl⟩ ⟨by show cells + 0 ≤ 600000; omega, by show slots + 0 ≤ 7302250; omega⟩) hS (fun r2 iv2 rv2 H locs hG f2 g2 hp2 hU hS => ?_)
  have hRel := hRel.fr hGp f2 g2 (by decide)
  refine lv_pop hx hb dL_law_1415 rfl ?_
  refine lv_goto (tgt := 1475) hx hb dL_law_1416 (by decide) ?_
  refine W.widen (k := cells + 3) (n := slots + 16) (by omega) (by omega) ?_
  exact kk _ _ _ _ _ ⟨hG, hox, hom, hRel⟩ hU hS
set_option maxHeartbeats 4000000 in
set_option maxRecDepth 100000 in
theorem law_33 {p : Program} {l : Launch} {e : Env} {s : State} {m : MethodId} {below : List Frame} {meth : Method} {c : Code} {b L : Nat} {xs : Nat → Int32} {D : va_G} {cA : FieldType → ClassId} {ls : Array Slot} {Q : State → Prop} {H : Heap} {locs : List Loc} {cells slots : Nat} {i : Int32} {ox om : Nat} {al : Al} {iv : Iv} {rv : Rv} (X : LX p s m c b L xs D cA) (hl : lv_has ls 4 [(3, .int i), (2, .ref om), (1, .ref ox), (0, .ref b)]) (hi : 0 ≤ i.toInt ∧ i.toInt + 6 < L) (hQ : LSt ox om al iv rv) (hU : UW D cA s.heap.size al iv rv H) (hS : va_S (Aq s.heap.size) s.heap H locs) (hc : cells + 3 ≤ 600000 ∧ slots + 16 ≤ 7302250)
    (kk : ∀ (al' : Al) (iv' : Iv) (rv' : Rv) (H' : Heap) (locs' : List Loc), LSt ox om al' iv' rv' → UW D cA s.heap.size al' iv' rv' H' → va_S (Aq s.heap.size) s.heap H' locs' → W p l e room_1 s m #[Value.ref b] below meth c H' locs' (cells + 3) (slots + 16) Q (F0 m 1475 ls [])) : W p l e room_1 s m #[Value.ref b] below meth c H locs cells slots Q (F0 m 1419 ls []) := by
  obtain ⟨hG, hox, hom, hRel⟩ := hQ
  have C := X.1
  have hx := C.1.1
  have hb := C.1.2.1
  obtain ⟨v1, e1⟩ : ∃ z, xs (i + 1).toNatClampNeg = z := ⟨_, rfl⟩
  obtain ⟨v2, e2⟩ : ∃ z, xs (i + 2).toNatClampNeg = z := ⟨_, rfl⟩
  refine lv_aload_n hx hb dL_law_1419 rfl (lv_at hl 2 rfl) ?_
  refine lv_aload_n hx hb dL_law_1420 rfl (lv_at hl 3 rfl) ?_
  refine lv_iload_n hx hb dL_law_1421 rfl (lv_at hl 0 rfl) ?_
  refine lv_iconst (v := 1) hx hb dL_law_1422 (by decide) ?_
  refine q_ai X hS (k := 1) (by decide) hi e1 dL_law_1423 dL_law_1424 ?_
  refine lv_aload_n hx hb dL_law_1425 rfl (lv_at hl 3 rfl) ?_
  refine lv_iload_n hx hb dL_law_1426 rfl (lv_at hl 0 rfl) ?_
  refine lv_iconst (v := 2) hx hb dL_law_1427 (by decide) ?_
  refine q_ai X hS (k := 2) (by decide) hi e2 dL_law_1428 dL_law_1429 ?_
  have hG0 := hG
  have hGp := hG
  refine W.eq (g2 := F0 m 1430 ls [.int v2, .int v1, .ref (al.2 49 0)]) (by rw [hox]) ?_
  refine q_fi (q_runV (t := 49) (i := 0) (As := [.int v1, .int v2]) (rest := []) C hU (c_X11_good_x hG v1 v2 ⟨⟨⟨⟨⟨⟨hRel.2.2.2.1, hRel.2.2.2.2.1, hRel.1⟩, hRel.2.2.2.2.2.1, hRel.2.2.2.2.2.2.1, hRel.2.2.1⟩, hRel.2.2.2.2.2.2.2.2.2.1⟩, hRel.2.2.2.2.2.2.2.1, hRel.2.2.2.2.2.2.2.2.1⟩, hRel.2.2.2.2.2.2.2.2.2.2.1, hRel.2.2.2.2.2.2.2.2.2.2.2.2.2.2.1, hRel.2.2.2.2.2.2.2.2.2.2.2.2.2.2.2.1, hRel.2.2.2.2.2.2.2.2.2.2.2.2.1, hRel.2.2.2.2.2.2.2.2.2.2.2.2.2.1⟩, hRel.2.1, hRel.2.2.2.2.2.2.2.2.2.2.2.2.2.2.2.2.1, hRel.2.2.2.2.2.2.2.2.2.2.2.2.2.2.2.2.2.2.1⟩ (hRel.2.2.2.2.2.2.2.2.2.2.2.2.2.2.2.2.2.2.2.2.1) (hRel.2.2.2.2.2.2.2.2.2.2.2.2.2.2.2.2.2.1) (hRel.2.2.2.2.2.2.2.2.2.2.2.2.2.2.2.2.2.2.2.2.2)) vm_X11_good ml_L_154 k_49.1 (hc := rfl) rfl (h1_49 hG) hl.1 rfl rfl (Nat.le_of_ble_eq_true rfl) dL_law_1430 rfl rfl ⟨Nat.le_of_ble_eq_true rfl, Nat.le_of_ble_eq_true rfl⟩ ⟨by show cells + 0 ≤ 600000; omega, by show slots + 0 ≤ 7302250; omega⟩) hS (fun r1 iv1 rv1 H locs hG f1 g1 hp1 hU hS => ?_)
  refine lv_aload_n hx hb dL_law_1433 rfl (lv_at hl 1 rfl) ?_
  refine lv_aload_n hx hb dL_law_1434 rfl (lv_at hl 3 rfl) ?_
  refine lv_iload_n hx hb dL_law_1435 rfl (lv_at hl 0 rfl) ?_
  refine lv_iconst (v := 1) hx hb dL_law_1436 (by decide) ?_
  refine q_ai X hS (k := 1) (by decide) hi e1 dL_law_1437 dL_law_1438 ?_
  refine lv_aload_n hx hb dL_law_1439 rfl (lv_at hl 3 rfl) ?_
  refine lv_iload_n hx hb dL_law_1440 rfl (lv_at hl 0 rfl) ?_
  refine lv_iconst (v := 2) hx hb dL_law_1441 (by decide) ?_
  refine q_ai X hS (k := 2) (by decide) hi e2 dL_law_1442 dL_law_1443 ?_
  have hGp := hG
  refine W.eq (g2 := F0 m 1444 ls [.int v2, .int v1, .ref (al.2 0 0), .int r1]) (by rw [hom]) ?_
  have hRel1 := hRel.fr hG0 f1 g1 (by decide)
  refine q_fi (q_runV (t := 0) (i := 0) (As := [.int v1, .int v2]) (rest := [.int r1]) C hU (c_X12_good_x hG v1 v2 ⟨hRel1.2.2.2.1, hRel1.2.2.2.2.1, hRel1.1, hRel1.2.2.2.2.2.2.2.1, hRel1.2.2.2.2.2.2.2.2.1⟩) vm_X12_good ml_L_157 k_0.1 (hc := rfl) rfl (h1_0 hG) hl.1 rfl rfl (Nat.le_of_ble_eq_true rfl) dL_law_1444 rfl rfl ⟨Nat.le_of_ble_eq_true rfl, Nat.le_of_ble_eq_true rfl⟩ ⟨by show cells + 0 ≤ 600000; omega, by show slots + 0 ≤ 7302250; omega⟩) hS (fun r2 iv2 rv2 H locs hG f2 g2 hp2 hU hS => ?_)
  have hE := REL.a_good hG0 hRel hp1 hp2 (EX.of f1 g1) f2 g2
  have hRel := REL.s_good hG0 hRel hp1 hp2 (EX.of f1 g1) f2 g2
  refine b_icmp_eq (tgt := 1475) hx hb dL_law_1447 (by decide) (fun c0 => ?_) (fun c0 => absurd (congrArg Int32.toInt hE) c0)
  refine W.widen (k := cells + 3) (n := slots + 16) (by omega) (by omega) ?_
  exact kk _ _ _ _ _ ⟨hG, hox, hom, hRel⟩ hU hS
set_option maxHeartbeats 4000000 in
set_option maxRecDepth 100000 in
theorem law_34 {p : Program} {l : Launch} {e : Env} {s : State} {m : MethodId} {below : List Frame} {meth : Method} {c : Code} {b L : Nat} {xs : Nat → Int32} {D : va_G} {cA : FieldType → ClassId} {ls : Array Slot} {Q : State → Prop} {H : Heap} {locs : List Loc} {cells slots : Nat} {i : Int32} {ox om : Nat} {al : Al} {iv : Iv} {rv : Rv} (X : LX p s m c b L xs D cA) (hl : lv_has ls 4 [(3, .int i), (2, .ref om), (1, .ref ox), (0, .ref b)]) (hi : 0 ≤ i.toInt ∧ i.toInt + 6 < L) (hQ : LSt ox om al iv rv) (hU : UW D cA s.heap.size al iv rv H) (hS : va_S (Aq s.heap.size) s.heap H locs) (hc : cells + 3 ≤ 600000 ∧ slots + 16 ≤ 7302250)
    (kk : ∀ (al' : Al) (iv' : Iv) (rv' : Rv) (H' : Heap) (locs' : List Loc), LSt ox om al' iv' rv' → UW D cA s.heap.size al' iv' rv' H' → va_S (Aq s.heap.size) s.heap H' locs' → W p l e room_1 s m #[Value.ref b] below meth c H' locs' (cells + 3) (slots + 16) Q (F0 m 1475 ls [])) : W p l e room_1 s m #[Value.ref b] below meth c H locs cells slots Q (F0 m 1452 ls []) := by
  obtain ⟨hG, hox, hom, hRel⟩ := hQ
  have C := X.1
  have hx := C.1.1
  have hb := C.1.2.1
  obtain ⟨v1, e1⟩ : ∃ z, xs (i + 1).toNatClampNeg = z := ⟨_, rfl⟩
  refine lv_aload_n hx hb dL_law_1452 rfl (lv_at hl 2 rfl) ?_
  refine lv_aload_n hx hb dL_law_1453 rfl (lv_at hl 3 rfl) ?_
  refine lv_iload_n hx hb dL_law_1454 rfl (lv_at hl 0 rfl) ?_
  refine lv_iconst (v := 1) hx hb dL_law_1455 (by decide) ?_
  refine q_ai X hS (k := 1) (by decide) hi e1 dL_law_1456 dL_law_1457 ?_
  have hG0 := hG
  have hGp := hG
  refine W.eq (g2 := F0 m 1458 ls [.int v1, .ref (al.2 49 0)]) (by rw [hox]) ?_
  refine q_fi (q_runV (t := 49) (i := 0) (As := [.int v1]) (rest := []) C hU (c_X11_count hG v1) vm_X11_count ml_L_158 k_49.1 (hc := rfl) rfl (h1_49 hG) hl.1 rfl rfl (Nat.le_of_ble_eq_true rfl) dL_law_1458 rfl rfl ⟨Nat.le_of_ble_eq_true rfl, Nat.le_of_ble_eq_true rfl⟩ ⟨by show cells + 0 ≤ 600000; omega, by show slots + 0 ≤ 7302250; omega⟩) hS (fun r1 iv1 rv1 H locs hG f1 g1 hp1 hU hS => ?_)
  have hRel := hRel.fr hGp f1 g1 (by decide)
  refine lv_pop hx hb dL_law_1461 rfl ?_
  refine lv_aload_n hx hb dL_law_1462 rfl (lv_at hl 1 rfl) ?_
  refine lv_aload_n hx hb dL_law_1463 rfl (lv_at hl 3 rfl) ?_
  refine lv_iload_n hx hb dL_law_1464 rfl (lv_at hl 0 rfl) ?_
  refine lv_iconst (v := 1) hx hb dL_law_1465 (by decide) ?_
  refine q_ai X hS (k := 1) (by decide) hi e1 dL_law_1466 dL_law_1467 ?_
  have hGp := hG
  refine W.eq (g2 := F0 m 1468 ls [.int v1, .ref (al.2 0 0)]) (by rw [hom]) ?_
  refine q_fi (q_runV (t := 0) (i := 0) (As := [.int v1]) (rest := []) C hU (c_X12_count hG v1) vm_X12_count ml_L_161 k_0.1 (hc := rfl) rfl (h1_0 hG) hl.1 rfl rfl (Nat.le_of_ble_eq_true rfl) dL_law_1468 rfl rfl ⟨Nat.le_of_ble_eq_true rfl, Nat.le_of_ble_eq_true rfl⟩ ⟨by show cells + 0 ≤ 600000; omega, by show slots + 0 ≤ 7302250; omega⟩) hS (fun r2 iv2 rv2 H locs hG f2 g2 hp2 hU hS => ?_)
  have hRel := hRel.fr hGp f2 g2 (by decide)
  refine lv_pop hx hb dL_law_1471 rfl ?_
  refine lv_goto (tgt := 1475) hx hb dL_law_1472 (by decide) ?_
  refine W.widen (k := cells + 3) (n := slots + 16) (by omega) (by omega) ?_
  exact kk _ _ _ _ _ ⟨hG, hox, hom, hRel⟩ hU hS
