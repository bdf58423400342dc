def Dpb (c : ByteArray) (p : Nat) (bs : List Nat) : Prop := ∃ t, bs ++ t = (c.data.toList.map UInt8.toNat).drop p
theorem Dpb.tl {c : ByteArray} {p v : Nat} {bs : List Nat} (h : Dpb c p (v :: bs)) : Dpb c (p + 1) bs := by
  obtain ⟨t, ht⟩ := h
  refine ⟨t, ?_⟩
  have z := congrArg (List.drop 1) ht
  rw [List.drop_drop] at z
  exact z
theorem dy_u1 {c : ByteArray} {p v : Nat} {bs : List Nat} (h : Dpb c p (v :: bs)) : Jvm.ClassFile.Reader.runAt (Jvm.ClassFile.Reader.u1 : Jvm.ClassFile.Decoder Nat) c p = .ok (v, p + 1) := by
  obtain ⟨⟨L⟩⟩ := c
  obtain ⟨t, ht⟩ := h
  have h1 : (L.map UInt8.toNat)[p]? = some v := by
    have z : ((L.map UInt8.toNat).drop p)[0]? = some v := by rw [← ht]; rfl
    rw [List.getElem?_drop] at z
    exact z
  rw [List.getElem?_map] at h1
  cases e : L[p]? with
  | none => rw [e] at h1; cases h1
  | some x =>
    rw [e] at h1
    have hv : x.toNat = v := Option.some.inj h1
    obtain ⟨hp, hx⟩ := List.getElem?_eq_some_iff.mp e
    have e1 : Jvm.ClassFile.Reader.runAt (Jvm.ClassFile.Reader.u1 : Jvm.ClassFile.Decoder Nat) (ByteArray.mk ⟨L⟩) p = Jvm.ClassFile.Reader.runAt (if h : p < (ByteArray.mk ⟨L⟩).size then (do set (p + 1); pure (((ByteArray.mk ⟨L⟩)[p]'h).toNat)) else throw (Jvm.ClassFile.HasTruncated.truncated p) : Jvm.ClassFile.Decoder Nat) (ByteArray.mk ⟨L⟩) p := rfl
    rw [e1, dif_pos (show p < (ByteArray.mk ⟨L⟩).size from hp)]
    show (.ok (UInt8.toNat (L[p]'hp), p + 1) : Except Jvm.ClassFile.DecodeError (Nat × Nat)) = .ok (v, p + 1)
    rw [hx, hv]
theorem dy_bind {α β : Type} {x : Jvm.ClassFile.Decoder α} {f : α → Jvm.ClassFile.Decoder β} {c : ByteArray} {p q : Nat} {a : α} (h : Jvm.ClassFile.Reader.runAt x c p = .ok (a, q)) : Jvm.ClassFile.Reader.runAt (x >>= f) c p = Jvm.ClassFile.Reader.runAt (f a) c q := by
  have e : Jvm.ClassFile.Reader.runAt (x >>= f) c p = (Jvm.ClassFile.Reader.runAt x c p >>= fun r => Jvm.ClassFile.Reader.runAt (f r.1) c r.2) := rfl
  rw [e, h]; rfl
theorem dy_map {α β : Type} {x : Jvm.ClassFile.Decoder α} {f : α → β} {c : ByteArray} {p q : Nat} {a : α} (h : Jvm.ClassFile.Reader.runAt x c p = .ok (a, q)) : Jvm.ClassFile.Reader.runAt (f <$> x) c p = .ok (f a, q) := by
  have e : Jvm.ClassFile.Reader.runAt (f <$> x) c p = (Jvm.ClassFile.Reader.runAt x c p >>= fun r => .ok (f r.1, r.2)) := rfl
  rw [e, h]; rfl
theorem dy_u2 {c : ByteArray} {p a b : Nat} {bs : List Nat} (h : Dpb c p (a :: b :: bs)) : Jvm.ClassFile.Reader.runAt (Jvm.ClassFile.Reader.u2 : Jvm.ClassFile.Decoder Nat) c p = .ok (a * 256 + b, p + 1 + 1) := by
  unfold Jvm.ClassFile.Reader.u2
  rw [dy_bind (dy_u1 h), dy_bind (dy_u1 h.tl)]; rfl
theorem dy_m1 {F : Nat → Instr} {c : ByteArray} {p a : Nat} {bs : List Nat} (h : Dpb c p (a :: bs)) : Jvm.ClassFile.Reader.runAt (Jvm.ClassFile.Reader.u1 >>= fun k => pure (F k) : Jvm.ClassFile.Decoder Instr) c p = .ok (F a, p + 1) := by
  rw [dy_bind (dy_u1 h)]; rfl
theorem dy_m2 {F : Nat → Instr} {c : ByteArray} {p a b : Nat} {bs : List Nat} (h : Dpb c p (a :: b :: bs)) : Jvm.ClassFile.Reader.runAt (Jvm.ClassFile.Reader.u2 >>= fun k => pure (F k) : Jvm.ClassFile.Decoder Instr) c p = .ok (F (a * 256 + b), p + 1 + 1) := by
  rw [dy_bind (dy_u2 h)]; rfl
theorem dy_m3 {F : Int → Instr} {c : ByteArray} {p a : Nat} {bs : List Nat} {o : Int} (h : Dpb c p (a :: bs)) (e : Jvm.ClassFile.Reader.signed 8 a = o) : Jvm.ClassFile.Reader.runAt (Jvm.ClassFile.Reader.s1 >>= fun k => pure (F k) : Jvm.ClassFile.Decoder Instr) c p = .ok (F o, p + 1) := by
  rw [dy_bind (show Jvm.ClassFile.Reader.runAt (Jvm.ClassFile.Reader.s1 : Jvm.ClassFile.Decoder Int) c p = .ok (o, p + 1) from by rw [← e]; exact dy_map (dy_u1 h))]; rfl
theorem dy_m4 {F : Int → Instr} {c : ByteArray} {p a b : Nat} {bs : List Nat} {o : Int} (h : Dpb c p (a :: b :: bs)) (e : Jvm.ClassFile.Reader.signed 16 (a * 256 + b) = o) : Jvm.ClassFile.Reader.runAt (Jvm.ClassFile.Reader.s2 >>= fun k => pure (F k) : Jvm.ClassFile.Decoder Instr) c p = .ok (F o, p + 1 + 1) := by
  rw [dy_bind (show Jvm.ClassFile.Reader.runAt (Jvm.ClassFile.Reader.s2 : Jvm.ClassFile.Decoder Int) c p = .ok (o, p + 1 + 1) from by rw [← e]; exact dy_map (dy_u2 h))]; rfl
theorem dy_mk {N : Jvm.ClassFile.Decoder Instr} {c : ByteArray} {p op : Nat} {bs : List Nat} {f : Nat → Jvm.ClassFile.Decoder Instr} {M : Jvm.ClassFile.Decoder Instr} {i : Instr} {nx : Nat} (h : Dpb c p (op :: bs)) (e : N = (Jvm.ClassFile.Reader.u1 >>= f)) (ef : f op = M) (hM : Jvm.ClassFile.Reader.runAt M c (p + 1) = .ok (i, nx)) : Jvm.ClassFile.Reader.runAt N c p = .ok (i, nx) := by
  rw [e, dy_bind (dy_u1 h), ef]; exact hM
theorem dy_k {c : ByteArray} {pc op : Nat} {bs : List Nat} {f : Nat → Jvm.ClassFile.Decoder Instr} {M : Jvm.ClassFile.Decoder Instr} {i : Instr} {nx : Nat} (h : Dpb c pc (op :: bs)) (e : Jvm.ClassFile.Decoder.instr pc = (Jvm.ClassFile.Reader.u1 >>= f)) (ef : f op = M) (hM : Jvm.ClassFile.Reader.runAt M c (pc + 1) = .ok (i, nx)) : decode c pc = .ok (i, nx - pc) := by
  have h1 : Jvm.ClassFile.Reader.runAt (Jvm.ClassFile.Decoder.instr pc) c pc = .ok (i, nx) := dy_mk h e ef hM
  unfold Jvm.ClassFile.decode; rw [h1]; rfl
theorem dy_z {c : ByteArray} {pc x n : Nat} {i : Instr} (h : decode c pc = .ok (i, x)) (e : x = n) : decode c pc = .ok (i, n) := e ▸ h
def dy_px : List Nat → List Nat → Bool
  | [], _ => true
  | _ :: _, [] => false
  | a :: r, b :: s => Nat.beq a b && dy_px r s
theorem dy_pxok : ∀ b s : List Nat, dy_px b s = true → ∃ t, b ++ t = s
  | [], s, _ => ⟨s, rfl⟩
  | _ :: _, [], h => by cases h
  | a :: r, b :: s, h => by
    have h' : (Nat.beq a b && dy_px r s) = true := h
    rw [Bool.and_eq_true] at h'
    obtain ⟨t, ht⟩ := dy_pxok r s h'.2
    exact ⟨t, by rw [Nat.eq_of_beq_eq_true h'.1, List.cons_append, ht]⟩
def dy_ck : Nat → List Nat → List (Nat × List Nat) → Bool
  | _, _, [] => true
  | p, s, (q, bs) :: r => Nat.beq q p && (dy_px bs s && dy_ck (p + bs.length) (s.drop bs.length) r)
theorem dy_ckok : ∀ (rows : List (Nat × List Nat)) (p : Nat) (s : List Nat), dy_ck p s rows = true → ∀ q bs, (q, bs) ∈ rows → ∃ k, q = p + k ∧ ∃ t, bs ++ t = s.drop k
  | [], _, _, _, _, _, h => by cases h
  | (q0, b0) :: r, p, s, h, q, bs, hm => by
    have h' : (Nat.beq q0 p && (dy_px b0 s && dy_ck (p + b0.length) (s.drop b0.length) r)) = true := h
    rw [Bool.and_eq_true, Bool.and_eq_true] at h'
    obtain ⟨e0, e1, e2⟩ := h'
    rcases List.mem_cons.mp hm with z | z
    · cases z
      exact ⟨0, Nat.eq_of_beq_eq_true e0, by rw [List.drop_zero]; exact dy_pxok _ _ e1⟩
    · obtain ⟨k, hk, hb⟩ := dy_ckok r _ _ e2 q bs z
      exact ⟨b0.length + k, by rw [hk, Nat.add_assoc], by rw [List.drop_drop] at hb; exact hb⟩
theorem dy_get {c : ByteArray} {l : List Nat} {rows : List (Nat × List Nat)} {p i q : Nat} {bs : List Nat} (hL : c.data.toList.map UInt8.toNat = l) (h : dy_ck p (l.drop p) rows = true) (e : rows[i]? = some (q, bs)) : Dpb c q bs := by
  obtain ⟨k, hk, hb⟩ := dy_ckok rows p _ h q bs (List.mem_of_getElem? e)
  rw [List.drop_drop] at hb
  unfold Dpb
  rw [hL, hk]; exact hb
theorem dy_q1 {c : ByteArray} {pc : Nat} (h : Dpb c pc [1]) : decode c pc = .ok (.aconst_null, 1) := dy_z (dy_k (M := pure .aconst_null) h rfl rfl rfl) (by omega)
theorem dy_q100 {c : ByteArray} {pc : Nat} (h : Dpb c pc [100]) : decode c pc = .ok (.isub, 1) := dy_z (dy_k (M := pure .isub) h rfl rfl rfl) (by omega)
theorem dy_q104 {c : ByteArray} {pc : Nat} (h : Dpb c pc [104]) : decode c pc = .ok (.imul, 1) := dy_z (dy_k (M := pure .imul) h rfl rfl rfl) (by omega)
theorem dy_q108 {c : ByteArray} {pc : Nat} (h : Dpb c pc [108]) : decode c pc = .ok (.idiv, 1) := dy_z (dy_k (M := pure .idiv) h rfl rfl rfl) (by omega)
theorem dy_q116 {c : ByteArray} {pc : Nat} (h : Dpb c pc [116]) : decode c pc = .ok (.ineg, 1) := dy_z (dy_k (M := pure .ineg) h rfl rfl rfl) (by omega)
theorem dy_q120 {c : ByteArray} {pc : Nat} (h : Dpb c pc [120]) : decode c pc = .ok (.ishl, 1) := dy_z (dy_k (M := pure .ishl) h rfl rfl rfl) (by omega)
theorem dy_q122 {c : ByteArray} {pc : Nat} (h : Dpb c pc [122]) : decode c pc = .ok (.ishr, 1) := dy_z (dy_k (M := pure .ishr) h rfl rfl rfl) (by omega)
theorem dy_q126 {c : ByteArray} {pc : Nat} (h : Dpb c pc [126]) : decode c pc = .ok (.iand, 1) := dy_z (dy_k (M := pure .iand) h rfl rfl rfl) (by omega)
theorem dy_q130 {c : ByteArray} {pc : Nat} (h : Dpb c pc [130]) : decode c pc = .ok (.ixor, 1) := dy_z (dy_k (M := pure .ixor) h rfl rfl rfl) (by omega)
theorem dy_q132 {c : ByteArray} {pc a b : Nat} {o : Int} (h : Dpb c pc [132, a, b]) (e : Jvm.ClassFile.Reader.signed 8 b = o) : decode c pc = .ok (.iinc a o, 3) := dy_z (dy_k (M := Jvm.ClassFile.Reader.u1 >>= fun k => Jvm.ClassFile.Reader.s1 >>= fun j => pure (.iinc k j)) h rfl rfl ((dy_bind (dy_u1 h.tl)).trans (dy_m3 (F := fun k => .iinc a k) h.tl.tl e))) (by omega)
theorem dy_q153 {c : ByteArray} {pc a b : Nat} {o : Int} (h : Dpb c pc [153, a, b]) (e : Jvm.ClassFile.Reader.signed 16 (a * 256 + b) = o) : decode c pc = .ok (.ifCond .eq o, 3) := dy_z (dy_k (M := Jvm.ClassFile.Reader.s2 >>= fun k => pure (.ifCond .eq k)) h rfl rfl (dy_m4 (F := fun k => .ifCond .eq k) h.tl e)) (by omega)
theorem dy_q154 {c : ByteArray} {pc a b : Nat} {o : Int} (h : Dpb c pc [154, a, b]) (e : Jvm.ClassFile.Reader.signed 16 (a * 256 + b) = o) : decode c pc = .ok (.ifCond .ne o, 3) := dy_z (dy_k (M := Jvm.ClassFile.Reader.s2 >>= fun k => pure (.ifCond .ne k)) h rfl rfl (dy_m4 (F := fun k => .ifCond .ne k) h.tl e)) (by omega)
theorem dy_q155 {c : ByteArray} {pc a b : Nat} {o : Int} (h : Dpb c pc [155, a, b]) (e : Jvm.ClassFile.Reader.signed 16 (a * 256 + b) = o) : decode c pc = .ok (.ifCond .lt o, 3) := dy_z (dy_k (M := Jvm.ClassFile.Reader.s2 >>= fun k => pure (.ifCond .lt k)) h rfl rfl (dy_m4 (F := fun k => .ifCond .lt k) h.tl e)) (by omega)
theorem dy_q156 {c : ByteArray} {pc a b : Nat} {o : Int} (h : Dpb c pc [156, a, b]) (e : Jvm.ClassFile.Reader.signed 16 (a * 256 + b) = o) : decode c pc = .ok (.ifCond .ge o, 3) := dy_z (dy_k (M := Jvm.ClassFile.Reader.s2 >>= fun k => pure (.ifCond .ge k)) h rfl rfl (dy_m4 (F := fun k => .ifCond .ge k) h.tl e)) (by omega)
theorem dy_q158 {c : ByteArray} {pc a b : Nat} {o : Int} (h : Dpb c pc [158, a, b]) (e : Jvm.ClassFile.Reader.signed 16 (a * 256 + b) = o) : decode c pc = .ok (.ifCond .le o, 3) := dy_z (dy_k (M := Jvm.ClassFile.Reader.s2 >>= fun k => pure (.ifCond .le k)) h rfl rfl (dy_m4 (F := fun k => .ifCond .le k) h.tl e)) (by omega)
theorem dy_q159 {c : ByteArray} {pc a b : Nat} {o : Int} (h : Dpb c pc [159, a, b]) (e : Jvm.ClassFile.Reader.signed 16 (a * 256 + b) = o) : decode c pc = .ok (.if_icmp .eq o, 3) := dy_z (dy_k (M := Jvm.ClassFile.Reader.s2 >>= fun k => pure (.if_icmp .eq k)) h rfl rfl (dy_m4 (F := fun k => .if_icmp .eq k) h.tl e)) (by omega)
theorem dy_q16 {c : ByteArray} {pc a : Nat} {o : Int} (h : Dpb c pc [16, a]) (e : Jvm.ClassFile.Reader.signed 8 a = o) : decode c pc = .ok (.bipush o, 2) := dy_z (dy_k (M := Jvm.ClassFile.Reader.s1 >>= fun k => pure (.bipush k)) h rfl rfl (dy_m3 (F := fun k => .bipush k) h.tl e)) (by omega)
theorem dy_q160 {c : ByteArray} {pc a b : Nat} {o : Int} (h : Dpb c pc [160, a, b]) (e : Jvm.ClassFile.Reader.signed 16 (a * 256 + b) = o) : decode c pc = .ok (.if_icmp .ne o, 3) := dy_z (dy_k (M := Jvm.ClassFile.Reader.s2 >>= fun k => pure (.if_icmp .ne k)) h rfl rfl (dy_m4 (F := fun k => .if_icmp .ne k) h.tl e)) (by omega)
theorem dy_q161 {c : ByteArray} {pc a b : Nat} {o : Int} (h : Dpb c pc [161, a, b]) (e : Jvm.ClassFile.Reader.signed 16 (a * 256 + b) = o) : decode c pc = .ok (.if_icmp .lt o, 3) := dy_z (dy_k (M := Jvm.ClassFile.Reader.s2 >>= fun k => pure (.if_icmp .lt k)) h rfl rfl (dy_m4 (F := fun k => .if_icmp .lt k) h.tl e)) (by omega)
theorem dy_q162 {c : ByteArray} {pc a b : Nat} {o : Int} (h : Dpb c pc [162, a, b]) (e : Jvm.ClassFile.Reader.signed 16 (a * 256 + b) = o) : decode c pc = .ok (.if_icmp .ge o, 3) := dy_z (dy_k (M := Jvm.ClassFile.Reader.s2 >>= fun k => pure (.if_icmp .ge k)) h rfl rfl (dy_m4 (F := fun k => .if_icmp .ge k) h.tl e)) (by omega)
theorem dy_q163 {c : ByteArray} {pc a b : Nat} {o : Int} (h : Dpb c pc [163, a, b]) (e : Jvm.ClassFile.Reader.signed 16 (a * 256 + b) = o) : decode c pc = .ok (.if_icmp .gt o, 3) := dy_z (dy_k (M := Jvm.ClassFile.Reader.s2 >>= fun k => pure (.if_icmp .gt k)) h rfl rfl (dy_m4 (F := fun k => .if_icmp .gt k) h.tl e)) (by omega)
theorem dy_q164 {c : ByteArray} {pc a b : Nat} {o : Int} (h : Dpb c pc [164, a, b]) (e : Jvm.ClassFile.Reader.signed 16 (a * 256 + b) = o) : decode c pc = .ok (.if_icmp .le o, 3) := dy_z (dy_k (M := Jvm.ClassFile.Reader.s2 >>= fun k => pure (.if_icmp .le k)) h rfl rfl (dy_m4 (F := fun k => .if_icmp .le k) h.tl e)) (by omega)
theorem dy_q166 {c : ByteArray} {pc a b : Nat} {o : Int} (h : Dpb c pc [166, a, b]) (e : Jvm.ClassFile.Reader.signed 16 (a * 256 + b) = o) : decode c pc = .ok (.if_acmp .ne o, 3) := dy_z (dy_k (M := Jvm.ClassFile.Reader.s2 >>= fun k => pure (.if_acmp .ne k)) h rfl rfl (dy_m4 (F := fun k => .if_acmp .ne k) h.tl e)) (by omega)
theorem dy_q167 {c : ByteArray} {pc a b : Nat} {o : Int} (h : Dpb c pc [167, a, b]) (e : Jvm.ClassFile.Reader.signed 16 (a * 256 + b) = o) : decode c pc = .ok (.goto o, 3) := dy_z (dy_k (M := Jvm.ClassFile.Reader.s2 >>= fun k => pure (.goto k)) h rfl rfl (dy_m4 (F := fun k => .goto k) h.tl e)) (by omega)
theorem dy_q17 {c : ByteArray} {pc a b : Nat} {o : Int} (h : Dpb c pc [17, a, b]) (e : Jvm.ClassFile.Reader.signed 16 (a * 256 + b) = o) : decode c pc = .ok (.sipush o, 3) := dy_z (dy_k (M := Jvm.ClassFile.Reader.s2 >>= fun k => pure (.sipush k)) h rfl rfl (dy_m4 (F := fun k => .sipush k) h.tl e)) (by omega)
theorem dy_q172 {c : ByteArray} {pc : Nat} (h : Dpb c pc [172]) : decode c pc = .ok (.ireturn, 1) := dy_z (dy_k (M := pure .ireturn) h rfl rfl rfl) (by omega)
theorem dy_q176 {c : ByteArray} {pc : Nat} (h : Dpb c pc [176]) : decode c pc = .ok (.areturn, 1) := dy_z (dy_k (M := pure .areturn) h rfl rfl rfl) (by omega)
theorem dy_q177 {c : ByteArray} {pc : Nat} (h : Dpb c pc [177]) : decode c pc = .ok (.return_, 1) := dy_z (dy_k (M := pure .return_) h rfl rfl rfl) (by omega)
theorem dy_q178 {c : ByteArray} {pc a b : Nat} (h : Dpb c pc [178, a, b]) : decode c pc = .ok (.getstatic (a * 256 + b), 3) := dy_z (dy_k (M := Jvm.ClassFile.Reader.u2 >>= fun k => pure (.getstatic k)) h rfl rfl (dy_m2 (F := fun k => .getstatic k) h.tl)) (by omega)
theorem dy_q18 {c : ByteArray} {pc a : Nat} (h : Dpb c pc [18, a]) : decode c pc = .ok (.ldc a, 2) := dy_z (dy_k (M := Jvm.ClassFile.Reader.u1 >>= fun k => pure (.ldc k)) h rfl rfl (dy_m1 (F := fun k => .ldc k) h.tl)) (by omega)
theorem dy_q180 {c : ByteArray} {pc a b : Nat} (h : Dpb c pc [180, a, b]) : decode c pc = .ok (.getfield (a * 256 + b), 3) := dy_z (dy_k (M := Jvm.ClassFile.Reader.u2 >>= fun k => pure (.getfield k)) h rfl rfl (dy_m2 (F := fun k => .getfield k) h.tl)) (by omega)
theorem dy_q181 {c : ByteArray} {pc a b : Nat} (h : Dpb c pc [181, a, b]) : decode c pc = .ok (.putfield (a * 256 + b), 3) := dy_z (dy_k (M := Jvm.ClassFile.Reader.u2 >>= fun k => pure (.putfield k)) h rfl rfl (dy_m2 (F := fun k => .putfield k) h.tl)) (by omega)
theorem dy_q182 {c : ByteArray} {pc a b : Nat} (h : Dpb c pc [182, a, b]) : decode c pc = .ok (.invokevirtual (a * 256 + b), 3) := dy_z (dy_k (M := Jvm.ClassFile.Reader.u2 >>= fun k => pure (.invokevirtual k)) h rfl rfl (dy_m2 (F := fun k => .invokevirtual k) h.tl)) (by omega)
theorem dy_q183 {c : ByteArray} {pc a b : Nat} (h : Dpb c pc [183, a, b]) : decode c pc = .ok (.invokespecial (a * 256 + b), 3) := dy_z (dy_k (M := Jvm.ClassFile.Reader.u2 >>= fun k => pure (.invokespecial k)) h rfl rfl (dy_m2 (F := fun k => .invokespecial k) h.tl)) (by omega)
theorem dy_q184 {c : ByteArray} {pc a b : Nat} (h : Dpb c pc [184, a, b]) : decode c pc = .ok (.invokestatic (a * 256 + b), 3) := dy_z (dy_k (M := Jvm.ClassFile.Reader.u2 >>= fun k => pure (.invokestatic k)) h rfl rfl (dy_m2 (F := fun k => .invokestatic k) h.tl)) (by omega)
theorem dy_q187 {c : ByteArray} {pc a b : Nat} (h : Dpb c pc [187, a, b]) : decode c pc = .ok (.new (a * 256 + b), 3) := dy_z (dy_k (M := Jvm.ClassFile.Reader.u2 >>= fun k => pure (.new k)) h rfl rfl (dy_m2 (F := fun k => .new k) h.tl)) (by omega)
theorem dy_q188_10 {c : ByteArray} {pc : Nat} (h : Dpb c pc [188, 10]) : decode c pc = .ok (.newarray .int, 2) := dy_z (dy_k (M := Jvm.ClassFile.Decoder.newarray pc) h rfl rfl (dy_mk (M := pure (.newarray .int)) h.tl rfl rfl rfl)) (by omega)
theorem dy_q188_4 {c : ByteArray} {pc : Nat} (h : Dpb c pc [188, 4]) : decode c pc = .ok (.newarray .boolean, 2) := dy_z (dy_k (M := Jvm.ClassFile.Decoder.newarray pc) h rfl rfl (dy_mk (M := pure (.newarray .boolean)) h.tl rfl rfl rfl)) (by omega)
theorem dy_q189 {c : ByteArray} {pc a b : Nat} (h : Dpb c pc [189, a, b]) : decode c pc = .ok (.anewarray (a * 256 + b), 3) := dy_z (dy_k (M := Jvm.ClassFile.Reader.u2 >>= fun k => pure (.anewarray k)) h rfl rfl (dy_m2 (F := fun k => .anewarray k) h.tl)) (by omega)
theorem dy_q19 {c : ByteArray} {pc a b : Nat} (h : Dpb c pc [19, a, b]) : decode c pc = .ok (.ldc_w (a * 256 + b), 3) := dy_z (dy_k (M := Jvm.ClassFile.Reader.u2 >>= fun k => pure (.ldc_w k)) h rfl rfl (dy_m2 (F := fun k => .ldc_w k) h.tl)) (by omega)
theorem dy_q190 {c : ByteArray} {pc : Nat} (h : Dpb c pc [190]) : decode c pc = .ok (.arraylength, 1) := dy_z (dy_k (M := pure .arraylength) h rfl rfl rfl) (by omega)
theorem dy_q192 {c : ByteArray} {pc a b : Nat} (h : Dpb c pc [192, a, b]) : decode c pc = .ok (.checkcast (a * 256 + b), 3) := dy_z (dy_k (M := Jvm.ClassFile.Reader.u2 >>= fun k => pure (.checkcast k)) h rfl rfl (dy_m2 (F := fun k => .checkcast k) h.tl)) (by omega)
theorem dy_q198 {c : ByteArray} {pc a b : Nat} {o : Int} (h : Dpb c pc [198, a, b]) (e : Jvm.ClassFile.Reader.signed 16 (a * 256 + b) = o) : decode c pc = .ok (.ifnull o, 3) := dy_z (dy_k (M := Jvm.ClassFile.Reader.s2 >>= fun k => pure (.ifnull k)) h rfl rfl (dy_m4 (F := fun k => .ifnull k) h.tl e)) (by omega)
theorem dy_q199 {c : ByteArray} {pc a b : Nat} {o : Int} (h : Dpb c pc [199, a, b]) (e : Jvm.ClassFile.Reader.signed 16 (a * 256 + b) = o) : decode c pc = .ok (.ifnonnull o, 3) := dy_z (dy_k (M := Jvm.ClassFile.Reader.s2 >>= fun k => pure (.ifnonnull k)) h rfl rfl (dy_m4 (F := fun k => .ifnonnull k) h.tl e)) (by omega)
theorem dy_q2 {c : ByteArray} {pc : Nat} (h : Dpb c pc [2]) : decode c pc = .ok ((.iconst (-1)), 1) := dy_z (dy_k (M := pure (.iconst (-1))) h rfl rfl rfl) (by omega)
theorem dy_q21 {c : ByteArray} {pc a : Nat} (h : Dpb c pc [21, a]) : decode c pc = .ok (.iload a, 2) := dy_z (dy_k (M := Jvm.ClassFile.Reader.u1 >>= fun k => pure (.iload k)) h rfl rfl (dy_m1 (F := fun k => .iload k) h.tl)) (by omega)
theorem dy_q25 {c : ByteArray} {pc a : Nat} (h : Dpb c pc [25, a]) : decode c pc = .ok (.aload a, 2) := dy_z (dy_k (M := Jvm.ClassFile.Reader.u1 >>= fun k => pure (.aload k)) h rfl rfl (dy_m1 (F := fun k => .aload k) h.tl)) (by omega)
theorem dy_q26 {c : ByteArray} {pc : Nat} (h : Dpb c pc [26]) : decode c pc = .ok ((.iload_n 0), 1) := dy_z (dy_k (M := pure (.iload_n 0)) h rfl rfl rfl) (by omega)
theorem dy_q27 {c : ByteArray} {pc : Nat} (h : Dpb c pc [27]) : decode c pc = .ok ((.iload_n 1), 1) := dy_z (dy_k (M := pure (.iload_n 1)) h rfl rfl rfl) (by omega)
theorem dy_q28 {c : ByteArray} {pc : Nat} (h : Dpb c pc [28]) : decode c pc = .ok ((.iload_n 2), 1) := dy_z (dy_k (M := pure (.iload_n 2)) h rfl rfl rfl) (by omega)
theorem dy_q29 {c : ByteArray} {pc : Nat} (h : Dpb c pc [29]) : decode c pc = .ok ((.iload_n 3), 1) := dy_z (dy_k (M := pure (.iload_n 3)) h rfl rfl rfl) (by omega)
theorem dy_q3 {c : ByteArray} {pc : Nat} (h : Dpb c pc [3]) : decode c pc = .ok ((.iconst 0), 1) := dy_z (dy_k (M := pure (.iconst 0)) h rfl rfl rfl) (by omega)
theorem dy_q4 {c : ByteArray} {pc : Nat} (h : Dpb c pc [4]) : decode c pc = .ok ((.iconst 1), 1) := dy_z (dy_k (M := pure (.iconst 1)) h rfl rfl rfl) (by omega)
theorem dy_q42 {c : ByteArray} {pc : Nat} (h : Dpb c pc [42]) : decode c pc = .ok ((.aload_n 0), 1) := dy_z (dy_k (M := pure (.aload_n 0)) h rfl rfl rfl) (by omega)
theorem dy_q43 {c : ByteArray} {pc : Nat} (h : Dpb c pc [43]) : decode c pc = .ok ((.aload_n 1), 1) := dy_z (dy_k (M := pure (.aload_n 1)) h rfl rfl rfl) (by omega)
theorem dy_q44 {c : ByteArray} {pc : Nat} (h : Dpb c pc [44]) : decode c pc = .ok ((.aload_n 2), 1) := dy_z (dy_k (M := pure (.aload_n 2)) h rfl rfl rfl) (by omega)
theorem dy_q45 {c : ByteArray} {pc : Nat} (h : Dpb c pc [45]) : decode c pc = .ok ((.aload_n 3), 1) := dy_z (dy_k (M := pure (.aload_n 3)) h rfl rfl rfl) (by omega)
theorem dy_q46 {c : ByteArray} {pc : Nat} (h : Dpb c pc [46]) : decode c pc = .ok (.iaload, 1) := dy_z (dy_k (M := pure .iaload) h rfl rfl rfl) (by omega)
theorem dy_q5 {c : ByteArray} {pc : Nat} (h : Dpb c pc [5]) : decode c pc = .ok ((.iconst 2), 1) := dy_z (dy_k (M := pure (.iconst 2)) h rfl rfl rfl) (by omega)
theorem dy_q50 {c : ByteArray} {pc : Nat} (h : Dpb c pc [50]) : decode c pc = .ok (.aaload, 1) := dy_z (dy_k (M := pure .aaload) h rfl rfl rfl) (by omega)
theorem dy_q51 {c : ByteArray} {pc : Nat} (h : Dpb c pc [51]) : decode c pc = .ok (.baload, 1) := dy_z (dy_k (M := pure .baload) h rfl rfl rfl) (by omega)
theorem dy_q54 {c : ByteArray} {pc a : Nat} (h : Dpb c pc [54, a]) : decode c pc = .ok (.istore a, 2) := dy_z (dy_k (M := Jvm.ClassFile.Reader.u1 >>= fun k => pure (.istore k)) h rfl rfl (dy_m1 (F := fun k => .istore k) h.tl)) (by omega)
theorem dy_q58 {c : ByteArray} {pc a : Nat} (h : Dpb c pc [58, a]) : decode c pc = .ok (.astore a, 2) := dy_z (dy_k (M := Jvm.ClassFile.Reader.u1 >>= fun k => pure (.astore k)) h rfl rfl (dy_m1 (F := fun k => .astore k) h.tl)) (by omega)
theorem dy_q6 {c : ByteArray} {pc : Nat} (h : Dpb c pc [6]) : decode c pc = .ok ((.iconst 3), 1) := dy_z (dy_k (M := pure (.iconst 3)) h rfl rfl rfl) (by omega)
theorem dy_q60 {c : ByteArray} {pc : Nat} (h : Dpb c pc [60]) : decode c pc = .ok ((.istore_n 1), 1) := dy_z (dy_k (M := pure (.istore_n 1)) h rfl rfl rfl) (by omega)
theorem dy_q61 {c : ByteArray} {pc : Nat} (h : Dpb c pc [61]) : decode c pc = .ok ((.istore_n 2), 1) := dy_z (dy_k (M := pure (.istore_n 2)) h rfl rfl rfl) (by omega)
theorem dy_q62 {c : ByteArray} {pc : Nat} (h : Dpb c pc [62]) : decode c pc = .ok ((.istore_n 3), 1) := dy_z (dy_k (M := pure (.istore_n 3)) h rfl rfl rfl) (by omega)
theorem dy_q7 {c : ByteArray} {pc : Nat} (h : Dpb c pc [7]) : decode c pc = .ok ((.iconst 4), 1) := dy_z (dy_k (M := pure (.iconst 4)) h rfl rfl rfl) (by omega)
theorem dy_q76 {c : ByteArray} {pc : Nat} (h : Dpb c pc [76]) : decode c pc = .ok ((.astore_n 1), 1) := dy_z (dy_k (M := pure (.astore_n 1)) h rfl rfl rfl) (by omega)
theorem dy_q77 {c : ByteArray} {pc : Nat} (h : Dpb c pc [77]) : decode c pc = .ok ((.astore_n 2), 1) := dy_z (dy_k (M := pure (.astore_n 2)) h rfl rfl rfl) (by omega)
theorem dy_q78 {c : ByteArray} {pc : Nat} (h : Dpb c pc [78]) : decode c pc = .ok ((.astore_n 3), 1) := dy_z (dy_k (M := pure (.astore_n 3)) h rfl rfl rfl) (by omega)
theorem dy_q79 {c : ByteArray} {pc : Nat} (h : Dpb c pc [79]) : decode c pc = .ok (.iastore, 1) := dy_z (dy_k (M := pure .iastore) h rfl rfl rfl) (by omega)
theorem dy_q8 {c : ByteArray} {pc : Nat} (h : Dpb c pc [8]) : decode c pc = .ok ((.iconst 5), 1) := dy_z (dy_k (M := pure (.iconst 5)) h rfl rfl rfl) (by omega)
theorem dy_q83 {c : ByteArray} {pc : Nat} (h : Dpb c pc [83]) : decode c pc = .ok (.aastore, 1) := dy_z (dy_k (M := pure .aastore) h rfl rfl rfl) (by omega)
theorem dy_q84 {c : ByteArray} {pc : Nat} (h : Dpb c pc [84]) : decode c pc = .ok (.bastore, 1) := dy_z (dy_k (M := pure .bastore) h rfl rfl rfl) (by omega)
theorem dy_q87 {c : ByteArray} {pc : Nat} (h : Dpb c pc [87]) : decode c pc = .ok (.pop, 1) := dy_z (dy_k (M := pure .pop) h rfl rfl rfl) (by omega)
theorem dy_q89 {c : ByteArray} {pc : Nat} (h : Dpb c pc [89]) : decode c pc = .ok (.dup, 1) := dy_z (dy_k (M := pure .dup) h rfl rfl rfl) (by omega)
theorem dy_q92 {c : ByteArray} {pc : Nat} (h : Dpb c pc [92]) : decode c pc = .ok (.dup2, 1) := dy_z (dy_k (M := pure .dup2) h rfl rfl rfl) (by omega)
theorem dy_q96 {c : ByteArray} {pc : Nat} (h : Dpb c pc [96]) : decode c pc = .ok (.iadd, 1) := dy_z (dy_k (M := pure .iadd) h rfl rfl rfl) (by omega)
