def sgN (V : Nat → Int32) (s : Nat) : Nat → Int32
  | 0 => 0
  | n + 1 => sgN V s n + (if s.testBit n = true then V n else 0)
def sbt (s p : Nat) : Nat := s - (s &&& p)
abbrev bcd (A Z : Nat → Int32) (s p : Nat) : Prop := sbt p s = 0 ∧ (Z p).toInt = 0 ∧ 0 ≤ (A (sbt s p)).toInt
def bst (A Z : Nat → Int32) (s : Nat) : Nat → Int32
  | 0 => -1
  | k + 1 => if bcd A Z s (k + 1) ∧ (bst A Z s k).toInt < (A (sbt s (k + 1)) + 1).toInt then A (sbt s (k + 1)) + 1 else bst A Z s k
def mxQ (a b : Int32) : Int32 := if a.toInt < b.toInt then b else a
def mst (B : Nat → Int32) (s : Nat) : Nat → Int32
  | 0 => 0
  | p + 1 => if sbt s (2 ^ p) = s then mst B s p else mxQ (mst B s p) (B (sbt s (2 ^ p)))
def pst (B Z : Nat → Int32) (s : Nat) : Int32 := if (Z s).toInt = 0 then mst B s 5 + 1 else mst B s 5
def bkC (Z B : Nat → Int32) (r : Int32) : Prop := (¬ (Z 31).toInt = 0 ∧ r = -9) ∨ ((Z 31).toInt = 0 ∧ B 0 = 0 ∧ (∀ t : Nat, 1 ≤ t → t < 32 → B t = pst B Z t) ∧ r = 5 - B 31)
def bkR (Z A : Nat → Int32) (r : Int32) : Prop := (¬ (Z 31).toInt = 0 ∧ r = -9) ∨ ((Z 31).toInt = 0 ∧ A 0 = 0 ∧ (∀ t : Nat, 1 ≤ t → t < 32 → A t = bst A Z t t) ∧ r = 5 - A 31)
noncomputable def bkV (iv : Iv) (p : Nat) : Int32 := baF iv p
noncomputable def bkZ (iv : Iv) (s : Nat) : Int32 := sgN (bkV iv) s 5
def tgZ (iv : Iv) (s : Nat) : Int32 := sgN (fun k => iv 86 0 k) s 5
theorem of_cl {x : Int32} (h0 : 0 ≤ x.toInt) (h : x.toInt < 32) : x = Int32.ofNat x.toNatClampNeg := (fa_eq _ _).mpr (by
  have c := ix_nat h0
  rw [Int32.toInt_ofNat_of_lt (by omega), c])
theorem g_bit : ∀ s : Nat, s < 32 → ∀ p : Nat, p < 5 → ((((Int32.ofNat s >>> (Int32.ofNat p &&& 31)) &&& 1).toInt = 1) ↔ s.testBit p = true) := by decide +kernel
theorem g_bit2 : ∀ s : Nat, s < 32 → ∀ p : Nat, p < 5 → (((Int32.ofNat s &&& ((1 : Int32) <<< (Int32.ofNat p &&& 31))).toInt = 0) ↔ s.testBit p = false) := by decide +kernel
theorem g_sub : ∀ s : Nat, s < 32 → ∀ p : Nat, p < 32 → (Int32.ofNat s &&& (Int32.ofNat p ^^^ (-1))).toInt = ((sbt s p : Nat) : Int) := by decide +kernel
theorem g_sub2 : ∀ s : Nat, s < 32 → ∀ p : Nat, p < 5 → (Int32.ofNat s &&& (((1 : Int32) <<< (Int32.ofNat p &&& 31)) ^^^ (-1))).toInt = ((sbt s (2 ^ p) : Nat) : Int) := by decide +kernel
theorem gk1 : ∀ s : Nat, s < 32 → ∀ p : Nat, p < 32 → sbt p s = 0 → 1 ≤ p → sbt s p < s := by decide +kernel
theorem gk2 : ∀ s : Nat, s < 32 → ∀ p : Nat, p < 32 → sbt p s = 0 → ∀ i : Nat, i < 5 → (s.testBit i = ((sbt s p).testBit i || p.testBit i)) ∧ ((sbt s p).testBit i && p.testBit i) = false := by decide +kernel
def ck3 (s t : Nat) : Bool := !(Nat.beq (sbt t s) 0) || Nat.beq t s || (List.range 5).any (fun i => s.testBit i && Nat.beq (sbt t (sbt s (2 ^ i))) 0)
theorem gk3b : ∀ s : Nat, s < 32 → ∀ t : Nat, t < 32 → ck3 s t = true := by decide +kernel
theorem gk3 (s : Nat) (hs : s < 32) (t : Nat) (ht : t < 32) (c : sbt t s = 0) (q : ¬ t = s) : ∃ i : Nat, i < 5 ∧ s.testBit i = true ∧ sbt t (sbt s (2 ^ i)) = 0 := by
  have z := gk3b s hs t ht
  unfold ck3 at z
  have k : Nat.beq t s = false := by
    cases h : Nat.beq t s with
    | false => rfl
    | true => exact absurd (Nat.eq_of_beq_eq_true h) q
  rw [c, k] at z
  have z2 : (List.range 5).any (fun i => s.testBit i && Nat.beq (sbt t (sbt s (2 ^ i))) 0) = true := z
  obtain ⟨i, hi, hb⟩ := List.any_eq_true.mp z2
  have hb2 : (s.testBit i && Nat.beq (sbt t (sbt s (2 ^ i))) 0) = true := hb
  rw [Bool.and_eq_true] at hb2
  exact ⟨i, List.mem_range.mp hi, hb2.1, Nat.eq_of_beq_eq_true hb2.2⟩
theorem gk4 : ∀ s : Nat, s < 32 → ∀ t : Nat, t < 32 → sbt t s = 0 → sbt (sbt s t) s = 0 ∧ sbt s (sbt s t) = t ∧ (¬ t = s → 1 ≤ sbt s t) ∧ sbt s t < 32 := by decide +kernel
theorem gk5 : ∀ s : Nat, s < 32 → ∀ i : Nat, i < 5 → s.testBit i = true → sbt s (2 ^ i) < s := by decide +kernel
theorem gk6 : ∀ s : Nat, s < 32 → ∀ i : Nat, i < 5 → (sbt s (2 ^ i) = s ↔ s.testBit i = false) := by decide +kernel
def ck7 (s p : Nat) : Bool := !(Nat.beq (sbt p s) 0) || Nat.beq p 0 || (List.range 5).any (fun i => s.testBit i && Nat.beq (sbt (sbt s p) (sbt s (2 ^ i))) 0)
theorem gk7b : ∀ s : Nat, s < 32 → ∀ p : Nat, p < 32 → ck7 s p = true := by decide +kernel
theorem gk7 (s : Nat) (hs : s < 32) (p : Nat) (hp : p < 32) (c : sbt p s = 0) (q : 1 ≤ p) : ∃ i : Nat, i < 5 ∧ s.testBit i = true ∧ sbt (sbt s p) (sbt s (2 ^ i)) = 0 := by
  have z := gk7b s hs p hp
  unfold ck7 at z
  have k : Nat.beq p 0 = false := by
    cases h : Nat.beq p 0 with
    | false => rfl
    | true => exact absurd (Nat.eq_of_beq_eq_true h) (by omega)
  rw [c, k] at z
  have z2 : (List.range 5).any (fun i => s.testBit i && Nat.beq (sbt (sbt s p) (sbt s (2 ^ i))) 0) = true := z
  obtain ⟨i, hi, hb⟩ := List.any_eq_true.mp z2
  have hb2 : (s.testBit i && Nat.beq (sbt (sbt s p) (sbt s (2 ^ i))) 0) = true := hb
  rw [Bool.and_eq_true] at hb2
  exact ⟨i, List.mem_range.mp hi, hb2.1, Nat.eq_of_beq_eq_true hb2.2⟩
def ck8 (s i t : Nat) : Bool := !(s.testBit i) || !(Nat.beq (sbt t (sbt s (2 ^ i))) 0) || (Nat.beq (sbt t s) 0 && !(Nat.beq t s))
theorem gk8b : ∀ s : Nat, s < 32 → ∀ i : Nat, i < 5 → ∀ t : Nat, t < 32 → ck8 s i t = true := by decide +kernel
theorem gk8 (s : Nat) (hs : s < 32) (i : Nat) (hi : i < 5) (b : s.testBit i = true) (t : Nat) (ht : t < 32) (w : sbt t (sbt s (2 ^ i)) = 0) : sbt t s = 0 ∧ ¬ t = s := by
  have z := gk8b s hs i hi t ht
  unfold ck8 at z
  rw [b, w] at z
  have z2 : (Nat.beq (sbt t s) 0 && !(Nat.beq t s)) = true := z
  rw [Bool.and_eq_true] at z2
  have k : Nat.beq t s = false := by
    cases h : Nat.beq t s with
    | false => rfl
    | true => rw [h] at z2; exact absurd z2.2 (by decide)
  exact ⟨Nat.eq_of_beq_eq_true z2.1, Nat.ne_of_beq_eq_false k⟩
theorem gk9 : ∀ s : Nat, s < 32 → sbt 0 s = 0 := by decide +kernel
theorem cl_32 {x : Int32} (h0 : 0 ≤ x.toInt) (h : x.toInt < 32) : x.toNatClampNeg < 32 := by have := ix_nat h0; omega
theorem cl_5 {x : Int32} (h0 : 0 ≤ x.toInt) (h : x.toInt < 5) : x.toNatClampNeg < 5 := by have := ix_nat h0; omega
theorem sbk_i {s p a z : Int32} (e1 : a = p ^^^ (-1)) (e2 : z = s &&& a) (hs : 0 ≤ s.toInt ∧ s.toInt < 32) (hp : 0 ≤ p.toInt ∧ p.toInt < 32) : z.toInt = ((sbt s.toNatClampNeg p.toNatClampNeg : Nat) : Int) := by
  rw [e2, e1]
  have q := g_sub _ (cl_32 hs.1 hs.2) _ (cl_32 hp.1 hp.2)
  rw [← of_cl hs.1 hs.2, ← of_cl hp.1 hp.2] at q
  exact q
theorem sbk_n {s p a z : Int32} (e1 : a = p ^^^ (-1)) (e2 : z = s &&& a) (hs : 0 ≤ s.toInt ∧ s.toInt < 32) (hp : 0 ≤ p.toInt ∧ p.toInt < 32) : z.toNatClampNeg = sbt s.toNatClampNeg p.toNatClampNeg := by
  have q := sbk_i e1 e2 hs hp
  rw [clamp_n]; omega
theorem sbk_p {s p b a z : Int32} (e0 : b = (1 : Int32) <<< (p &&& 31)) (e1 : a = b ^^^ (-1)) (e2 : z = s &&& a) (hs : 0 ≤ s.toInt ∧ s.toInt < 32) (hp : 0 ≤ p.toInt ∧ p.toInt < 5) : z.toNatClampNeg = sbt s.toNatClampNeg (2 ^ p.toNatClampNeg) := by
  have q := g_sub2 _ (cl_32 hs.1 hs.2) _ (cl_5 hp.1 hp.2)
  rw [← of_cl hs.1 hs.2, ← of_cl hp.1 (by omega), ← e0, ← e1, ← e2] at q
  rw [clamp_n]; omega
theorem bst_c {A B Z : Nat → Int32} {s : Nat} (hs : s < 32) (h : ∀ k : Nat, k < s → A k = B k) : ∀ n : Nat, n < 32 → bst A Z s n = bst B Z s n
  | 0, _ => rfl
  | n + 1, hn => by
    show (if (sbt (n + 1) s = 0 ∧ (Z (n + 1)).toInt = 0 ∧ 0 ≤ (A (sbt s (n + 1))).toInt) ∧ (bst A Z s n).toInt < (A (sbt s (n + 1)) + 1).toInt then A (sbt s (n + 1)) + 1 else bst A Z s n) = (if (sbt (n + 1) s = 0 ∧ (Z (n + 1)).toInt = 0 ∧ 0 ≤ (B (sbt s (n + 1))).toInt) ∧ (bst B Z s n).toInt < (B (sbt s (n + 1)) + 1).toInt then B (sbt s (n + 1)) + 1 else bst B Z s n)
    rw [bst_c hs h n (by omega)]
    by_cases q : sbt (n + 1) s = 0
    · rw [h _ (gk1 s hs (n + 1) hn q (by omega))]
    · rw [if_neg (fun z => q z.1.1), if_neg (fun z => q z.1.1)]
theorem mst_c {A B : Nat → Int32} {s : Nat} (hs : s < 32) (h : ∀ k : Nat, k < s → A k = B k) : ∀ n : Nat, n ≤ 5 → mst A s n = mst B s n
  | 0, _ => rfl
  | n + 1, hn => by
    show (if sbt s (2 ^ n) = s then mst A s n else mxQ (mst A s n) (A (sbt s (2 ^ n)))) = (if sbt s (2 ^ n) = s then mst B s n else mxQ (mst B s n) (B (sbt s (2 ^ n))))
    rw [mst_c hs h n (by omega)]
    by_cases q : sbt s (2 ^ n) = s
    · rw [if_pos q, if_pos q]
    · have t : s.testBit n = true := by
        cases e : s.testBit n
        · exact absurd ((gk6 s hs n (by omega)).mpr e) q
        · rfl
      rw [if_neg q, if_neg q, h _ (gk5 s hs n (by omega) t)]
theorem ad5 (x0 x1 x2 x3 x4 y0 y1 y2 y3 y4 : Int32) : 0 + (x0 + y0) + (x1 + y1) + (x2 + y2) + (x3 + y3) + (x4 + y4) = (0 + x0 + x1 + x2 + x3 + x4) + (0 + y0 + y1 + y2 + y3 + y4) := by grind
theorem bit_v (x y : Bool) (h : (x && y) = false) (v : Int32) : (if (x || y) = true then v else 0) = (if x = true then v else 0) + (if y = true then v else 0) := by
  cases x <;> cases y <;> simp_all
theorem sg_add {V : Nat → Int32} {s p : Nat} (hs : s < 32) (hp : p < 32) (h : sbt p s = 0) : sgN V s 5 = sgN V (sbt s p) 5 + sgN V p 5 := by
  have t : ∀ i : Nat, i < 5 → (if s.testBit i = true then V i else 0) = (if (sbt s p).testBit i = true then V i else 0) + (if p.testBit i = true then V i else 0) := fun i hi => by
    obtain ⟨a, b⟩ := gk2 s hs p hp h i hi
    rw [a]; exact bit_v _ _ b _
  show 0 + (if s.testBit 0 = true then V 0 else 0) + (if s.testBit 1 = true then V 1 else 0) + (if s.testBit 2 = true then V 2 else 0) + (if s.testBit 3 = true then V 3 else 0) + (if s.testBit 4 = true then V 4 else 0) = _
  rw [t 0 (by decide), t 1 (by decide), t 2 (by decide), t 3 (by decide), t 4 (by decide)]
  exact ad5 _ _ _ _ _ _ _ _ _ _
theorem sg_zero {V : Nat → Int32} : sgN V 0 5 = 0 := by
  show 0 + (if (0 : Nat).testBit 0 = true then V 0 else 0) + (if (0 : Nat).testBit 1 = true then V 1 else 0) + (if (0 : Nat).testBit 2 = true then V 2 else 0) + (if (0 : Nat).testBit 3 = true then V 3 else 0) + (if (0 : Nat).testBit 4 = true then V 4 else 0) = 0
  simp
theorem i32_0 {x : Int32} (h : x.toInt = 0) : x = 0 := (fa_eq _ _).mpr (by rw [h]; decide)
theorem in1 {x : Int32} (h0 : -1 ≤ x.toInt) (h : x.toInt ≤ 1000) : (x + 1).toInt = x.toInt + 1 := by
  have k1 : (1 : Int32).toInt = 1 := by decide
  rw [fb_addI (by omega) (by omega), k1]
theorem bst_b {A Z : Nat → Int32} {s : Nat} (hs : s < 32) (h : ∀ k : Nat, k < s → -1 ≤ (A k).toInt ∧ (A k).toInt ≤ k) : ∀ n : Nat, n < 32 → (-1 ≤ (bst A Z s n).toInt ∧ (bst A Z s n).toInt ≤ s) ∧ ((bst A Z s n).toInt = -1 ∨ ∃ p : Nat, 1 ≤ p ∧ p ≤ n ∧ bcd A Z s p ∧ (bst A Z s n).toInt = (A (sbt s p)).toInt + 1) ∧ (∀ p : Nat, 1 ≤ p → p ≤ n → bcd A Z s p → (A (sbt s p)).toInt + 1 ≤ (bst A Z s n).toInt)
  | 0, _ => by
    have k : (bst A Z s 0).toInt = -1 := by show (-1 : Int32).toInt = -1; decide
    exact ⟨⟨by omega, by omega⟩, Or.inl k, fun p a b => by omega⟩
  | n + 1, hn => by
    obtain ⟨b1, b2, b3⟩ := bst_b (Z := Z) hs h n (by omega)
    have e : bst A Z s (n + 1) = if bcd A Z s (n + 1) ∧ (bst A Z s n).toInt < (A (sbt s (n + 1)) + 1).toInt then A (sbt s (n + 1)) + 1 else bst A Z s n := rfl
    by_cases q : bcd A Z s (n + 1)
    · have lt := gk1 s hs (n + 1) hn q.1 (by omega)
      have hb := h _ lt
      have k := in1 hb.1 (by omega)
      by_cases w : (bst A Z s n).toInt < (A (sbt s (n + 1)) + 1).toInt
      · rw [if_pos ⟨q, w⟩] at e
        rw [e, k]
        rw [k] at w
        refine ⟨⟨by omega, by omega⟩, Or.inr ⟨n + 1, by omega, by omega, q, rfl⟩, fun p p1 p2 c => ?_⟩
        by_cases z : p = n + 1
        · rw [z]; exact Int.le_refl _
        · have := b3 p p1 (by omega) c
          omega
      · rw [if_neg (fun z => w z.2)] at e
        rw [e]
        rw [k] at w
        refine ⟨b1, ?_, fun p p1 p2 c => ?_⟩
        · rcases b2 with z | ⟨p, p1, p2, c, z⟩
          · exact Or.inl z
          · exact Or.inr ⟨p, p1, by omega, c, z⟩
        · by_cases z : p = n + 1
          · rw [z]; omega
          · exact b3 p p1 (by omega) c
    · rw [if_neg (fun z => q z.1)] at e
      rw [e]
      refine ⟨b1, ?_, fun p p1 p2 c => ?_⟩
      · rcases b2 with z | ⟨p, p1, p2, c, z⟩
        · exact Or.inl z
        · exact Or.inr ⟨p, p1, by omega, c, z⟩
      · by_cases z : p = n + 1
        · rw [z] at c; exact absurd c q
        · exact b3 p p1 (by omega) c
theorem rp_b {A Z : Nat → Int32} (h0 : A 0 = 0) (hA : ∀ t : Nat, 1 ≤ t → t < 32 → A t = bst A Z t t) : ∀ n s : Nat, s < n → s < 32 → -1 ≤ (A s).toInt ∧ (A s).toInt ≤ s
  | 0, _, h, _ => absurd h (Nat.not_lt_zero _)
  | n + 1, s, h, hs => by
    by_cases q : s = 0
    · rw [q, h0]; decide
    · rw [hA s (by omega) hs]
      exact (bst_b hs (fun k hk => rp_b h0 hA n k (by omega) (by omega)) s hs).1
theorem mst_b {B : Nat → Int32} {s : Nat} (hs : s < 32) (h1 : 1 ≤ s) (h : ∀ k : Nat, k < s → 0 ≤ (B k).toInt ∧ (B k).toInt ≤ k) : ∀ n : Nat, n ≤ 5 → (0 ≤ (mst B s n).toInt ∧ (mst B s n).toInt + 1 ≤ s) ∧ ((mst B s n).toInt = 0 ∨ ∃ i : Nat, i < n ∧ s.testBit i = true ∧ (mst B s n).toInt = (B (sbt s (2 ^ i))).toInt) ∧ (∀ i : Nat, i < n → s.testBit i = true → (B (sbt s (2 ^ i))).toInt ≤ (mst B s n).toInt)
  | 0, _ => by
    have k : (mst B s 0).toInt = 0 := by show (0 : Int32).toInt = 0; decide
    exact ⟨⟨by omega, by omega⟩, Or.inl k, fun i hi => absurd hi (Nat.not_lt_zero _)⟩
  | n + 1, hn => by
    obtain ⟨b1, b2, b3⟩ := mst_b hs h1 h n (by omega)
    have e : mst B s (n + 1) = if sbt s (2 ^ n) = s then mst B s n else mxQ (mst B s n) (B (sbt s (2 ^ n))) := rfl
    by_cases q : sbt s (2 ^ n) = s
    · have t := (gk6 s hs n (by omega)).mp q
      rw [if_pos q] at e
      rw [e]
      refine ⟨b1, ?_, fun i hi c => ?_⟩
      · rcases b2 with z | ⟨i, hi, c, z⟩
        · exact Or.inl z
        · exact Or.inr ⟨i, by omega, c, z⟩
      · by_cases z : i = n
        · rw [z, t] at c; cases c
        · exact b3 i (by omega) c
    · have t : s.testBit n = true := by
        cases w : s.testBit n
        · exact absurd ((gk6 s hs n (by omega)).mpr w) q
        · rfl
      have lt := gk5 s hs n (by omega) t
      have hb := h _ lt
      rw [if_neg q] at e
      by_cases w : (mst B s n).toInt < (B (sbt s (2 ^ n))).toInt
      · have e2 : mst B s (n + 1) = B (sbt s (2 ^ n)) := by rw [e]; unfold mxQ; rw [if_pos w]
        rw [e2]
        refine ⟨⟨by omega, by omega⟩, Or.inr ⟨n, by omega, t, rfl⟩, fun i hi c => ?_⟩
        by_cases z : i = n
        · rw [z]; exact Int.le_refl _
        · have := b3 i (by omega) c
          omega
      · have e2 : mst B s (n + 1) = mst B s n := by rw [e]; unfold mxQ; rw [if_neg w]
        rw [e2]
        refine ⟨b1, ?_, fun i hi c => ?_⟩
        · rcases b2 with z | ⟨i, hi, c, z⟩
          · exact Or.inl z
          · exact Or.inr ⟨i, by omega, c, z⟩
        · by_cases z : i = n
          · rw [z]; omega
          · exact b3 i (by omega) c
theorem cp_b {B Z : Nat → Int32} (h0 : B 0 = 0) (hB : ∀ t : Nat, 1 ≤ t → t < 32 → B t = pst B Z t) : ∀ n s : Nat, s < n → s < 32 → 0 ≤ (B s).toInt ∧ (B s).toInt ≤ s
  | 0, _, h, _ => absurd h (Nat.not_lt_zero _)
  | n + 1, s, h, hs => by
    by_cases q : s = 0
    · rw [q, h0]; decide
    · obtain ⟨b1, -, -⟩ := mst_b hs (by omega) (fun k hk => cp_b h0 hB n k (by omega) (by omega)) 5 (Nat.le_refl _)
      rw [hB s (by omega) hs]
      unfold pst
      by_cases z : (Z s).toInt = 0
      · rw [if_pos z, in1 (by omega) (by omega)]; omega
      · rw [if_neg z]; omega
theorem bk_L0 {V Z A : Nat → Int32} (hZ : ∀ s, Z s = sgN V s 5) (hA : ∀ t : Nat, 1 ≤ t → t < 32 → A t = bst A Z t t) (hb : ∀ s : Nat, s < 32 → -1 ≤ (A s).toInt ∧ (A s).toInt ≤ s) : ∀ n s : Nat, s < n → s < 32 → 0 ≤ (A s).toInt → Z s = 0
  | 0, _, h, _, _ => absurd h (Nat.not_lt_zero _)
  | n + 1, s, h, hs, ha => by
    by_cases q : s = 0
    · rw [q, hZ]; exact sg_zero
    · rw [hA s (by omega) hs] at ha
      rcases (bst_b (Z := Z) hs (fun k hk => hb k (by omega)) s hs).2.1 with z | ⟨p, p1, pn, ⟨c1, c2, c3⟩, e⟩
      · omega
      · have lt := gk1 s hs p (by omega) c1 p1
        have z1 := bk_L0 hZ hA hb n (sbt s p) (by omega) (by omega) c3
        have z2 := i32_0 c2
        rw [hZ] at z1 z2 ⊢
        rw [sg_add hs (by omega) c1, z1, z2]; decide
theorem bk_mono {B Z : Nat → Int32} (hB : ∀ t : Nat, 1 ≤ t → t < 32 → B t = pst B Z t) (hb : ∀ s : Nat, s < 32 → 0 ≤ (B s).toInt ∧ (B s).toInt ≤ s) : ∀ n s t : Nat, s < n → s < 32 → t < 32 → sbt t s = 0 → (B t).toInt ≤ (B s).toInt
  | 0, _, _, h, _, _, _ => absurd h (Nat.not_lt_zero _)
  | n + 1, s, t, h, hs, ht, c => by
    by_cases q : t = s
    · rw [q]; exact Int.le_refl _
    · obtain ⟨i, hi, b, w⟩ := gk3 s hs t ht c q
      have lt := gk5 s hs i hi b
      have m := bk_mono hB hb n (sbt s (2 ^ i)) t (by omega) (by omega) ht w
      obtain ⟨b1, -, b3⟩ := mst_b hs (by omega) (fun k hk => hb k (by omega)) 5 (Nat.le_refl _)
      have g := b3 i hi b
      rw [hB s (by omega) hs]
      unfold pst
      by_cases z : (Z s).toInt = 0
      · rw [if_pos z, in1 (by omega) (by omega)]; omega
      · rw [if_neg z]; omega
theorem bk_L1 {V Z A B : Nat → Int32} (hZ : ∀ s, Z s = sgN V s 5) (hA : ∀ t : Nat, 1 ≤ t → t < 32 → A t = bst A Z t t) (ha : ∀ s : Nat, s < 32 → -1 ≤ (A s).toInt ∧ (A s).toInt ≤ s) (hB : ∀ t : Nat, 1 ≤ t → t < 32 → B t = pst B Z t) (hb : ∀ s : Nat, s < 32 → 0 ≤ (B s).toInt ∧ (B s).toInt ≤ s) (a0 : A 0 = 0) : ∀ n s : Nat, s < n → s < 32 → (A s).toInt ≤ (B s).toInt
  | 0, _, h, _ => absurd h (Nat.not_lt_zero _)
  | n + 1, s, h, hs => by
    have hb0 := (hb s hs).1
    by_cases q : s = 0
    · rw [q] at hb0 ⊢
      rw [a0, show (0 : Int32).toInt = 0 from by decide]; exact hb0
    · rcases (bst_b (Z := Z) hs (fun k hk => ha k (by omega)) s hs).2.1 with z | ⟨p, p1, pn, ⟨c1, c2, c3⟩, e⟩
      · rw [hA s (by omega) hs]; omega
      · have lt := gk1 s hs p (by omega) c1 p1
        have ih := bk_L1 hZ hA ha hB hb a0 n (sbt s p) (by omega) (by omega)
        have eA := hA s (by omega) hs
        have zs : Z s = 0 := bk_L0 hZ hA ha (s + 1) s (Nat.lt_succ_self _) hs (by rw [eA]; omega)
        obtain ⟨i, hi, b, w⟩ := gk7 s hs p (by omega) c1 p1
        have lt2 := gk5 s hs i hi b
        have m := bk_mono hB hb 32 (sbt s (2 ^ i)) (sbt s p) (by omega) (by omega) (by omega) w
        obtain ⟨b1, -, b3⟩ := mst_b hs (by omega) (fun k hk => hb k (by omega)) 5 (Nat.le_refl _)
        have g := b3 i hi b
        have eB : (B s).toInt = (mst B s 5).toInt + 1 := by
          rw [hB s (by omega) hs]; unfold pst
          rw [zs, if_pos (by decide), in1 (by omega) (by omega)]
        rw [eA, eB]; omega
theorem bk_L2 {V Z A B : Nat → Int32} (hZ : ∀ s, Z s = sgN V s 5) (hA : ∀ t : Nat, 1 ≤ t → t < 32 → A t = bst A Z t t) (ha : ∀ s : Nat, s < 32 → -1 ≤ (A s).toInt ∧ (A s).toInt ≤ s) (hB : ∀ t : Nat, 1 ≤ t → t < 32 → B t = pst B Z t) (hb : ∀ s : Nat, s < 32 → 0 ≤ (B s).toInt ∧ (B s).toInt ≤ s) (a0 : A 0 = 0) (b0 : B 0 = 0) : ∀ n s : Nat, s < n → s < 32 → ∃ t : Nat, t < 32 ∧ sbt t s = 0 ∧ (B s).toInt ≤ (A t).toInt ∧ ((Z s).toInt = 0 → t = s)
  | 0, _, h, _ => absurd h (Nat.not_lt_zero _)
  | n + 1, s, h, hs => by
    by_cases q : s = 0
    · exact ⟨0, by decide, gk9 s hs, by rw [q, a0, b0]; exact Int.le_refl _, fun _ => q.symm⟩
    · obtain ⟨b1, b2, -⟩ := mst_b hs (by omega) (fun k hk => hb k (by omega)) 5 (Nat.le_refl _)
      have k : ∃ t : Nat, t < 32 ∧ sbt t s = 0 ∧ ¬ t = s ∧ (mst B s 5).toInt ≤ (A t).toInt := by
        rcases b2 with z | ⟨i, hi, b, z⟩
        · exact ⟨0, by decide, gk9 s hs, fun w => q w.symm, by rw [z, a0]; decide⟩
        · have lt := gk5 s hs i hi b
          obtain ⟨t, t1, t2, t3, -⟩ := bk_L2 hZ hA ha hB hb a0 b0 n (sbt s (2 ^ i)) (by omega) (by omega)
          obtain ⟨u1, u2⟩ := gk8 s hs i hi b t t1 t2
          exact ⟨t, t1, u1, u2, by rw [z]; exact t3⟩
      obtain ⟨t, t1, t2, t3, t4⟩ := k
      by_cases z : (Z s).toInt = 0
      · have zt : Z t = 0 := bk_L0 hZ hA ha 32 t t1 t1 (by omega)
        obtain ⟨u1, u2, u3, u4⟩ := gk4 s hs t t1 t2
        have zs := i32_0 z
        have zp : Z (sbt s t) = 0 := by
          have w := sg_add (V := V) hs u4 u1
          rw [u2, ← hZ, ← hZ, ← hZ, zs, zt, Int32.zero_add] at w
          exact w.symm
        have g := (bst_b (Z := Z) hs (fun k hk => ha k (by omega)) s hs).2.2 (sbt s t) (u3 t3) (by unfold sbt; omega) ⟨u1, by rw [zp]; decide, by rw [u2]; omega⟩
        rw [u2, ← hA s (by omega) hs] at g
        have eB : (B s).toInt = (mst B s 5).toInt + 1 := by
          rw [hB s (by omega) hs]; unfold pst
          rw [if_pos z, in1 (by omega) (by omega)]
        have ss : sbt s s = 0 := by unfold sbt; rw [Nat.and_self]; exact Nat.sub_self s
        exact ⟨s, hs, ss, by omega, fun _ => rfl⟩
      · have eB : (B s).toInt = (mst B s 5).toInt := by
          rw [hB s (by omega) hs]; unfold pst
          rw [if_neg z]
        exact ⟨t, t1, t2, by omega, fun w => absurd w z⟩
theorem bk_ans {V Z A B : Nat → Int32} {r1 r2 : Int32} (hZ : ∀ s, Z s = sgN V s 5) (p1 : bkC Z B r1) (p2 : bkR Z A r2) : r1 = r2 := by
  rcases p1 with ⟨o1, q1⟩ | ⟨o1, b0, hB, q1⟩ <;> rcases p2 with ⟨o2, q2⟩ | ⟨o2, a0, hA, q2⟩
  · rw [q1, q2]
  · exact absurd o2 o1
  · exact absurd o1 o2
  · have ha := fun s hs => rp_b a0 hA 32 s hs hs
    have hb := fun s hs => cp_b b0 hB 32 s hs hs
    have l1 := bk_L1 hZ hA ha hB hb a0 32 31 (by decide) (by decide)
    obtain ⟨t, -, -, l2, e⟩ := bk_L2 hZ hA ha hB hb a0 b0 32 31 (by decide) (by decide)
    rw [e o1] at l2
    have k : A 31 = B 31 := (fa_eq _ _).mpr (Int.le_antisymm l1 l2)
    rw [q1, q2, k]
theorem bkZ_m {iv iv' : Iv} (h : MA iv iv') : bkZ iv' = bkZ iv := by
  have e : bkV iv' = bkV iv := funext (fun p => baF_m h p)
  funext s
  unfold bkZ; rw [e]
theorem sg_c {V W : Nat → Int32} (h : ∀ k : Nat, k < 5 → V k = W k) (s : Nat) : ∀ n : Nat, n ≤ 5 → sgN V s n = sgN W s n
  | 0, _ => rfl
  | n + 1, hn => by
    show sgN V s n + (if s.testBit n = true then V n else 0) = sgN W s n + (if s.testBit n = true then W n else 0)
    rw [sg_c h s n (by omega), h n (by omega)]
theorem tg_bk {iv iv1 : Iv} (h : ∀ k : Nat, k < 5 → iv1 86 0 k = baF iv k) : tgZ iv1 = bkZ iv := funext (fun s => sg_c (V := fun k => iv1 86 0 k) (W := bkV iv) h s 5 (Nat.le_refl _))
theorem tg_f {iv iv1 : Iv} (h : ∀ k, iv1 86 0 k = iv 86 0 k) (s : Nat) : tgZ iv1 s = tgZ iv s := sg_c (V := fun k => iv1 86 0 k) (W := fun k => iv 86 0 k) (fun k _ => h k) s 5 (Nat.le_refl _)
-- the reference's walk
def sgO (V : Nat → Int32) (iv : Iv) (p : Int32) : Prop := ∀ k : Nat, k < 32 → 0 < p.toInt → iv 39 0 k = sgN V k p.toNatClampNeg
def sgI (V : Nat → Int32) (iv : Iv) (p s : Int32) : Prop := ∀ k : Nat, k < 32 → ((k : Int) < s.toInt → iv 39 0 k = sgN V k (p.toNatClampNeg + 1)) ∧ (s.toInt ≤ k → 0 < p.toInt → iv 39 0 k = sgN V k p.toNatClampNeg)
theorem sg_o0 {V : Nat → Int32} {iv : Iv} : sgO V iv 0 := fun k _ h => absurd h (by decide)
theorem sg_i0 {V : Nat → Int32} {ivA ivB : Iv} {p : Int32} (i : sgO V ivA p) (f : ∀ k, ivB 39 0 k = ivA 39 0 k) : sgI V ivB p 0 := fun k hk => ⟨fun h => absurd h (by rw [show (0 : Int32).toInt = 0 from by decide]; omega), fun _ hp => by rw [f]; exact i k hk hp⟩
theorem sg_o {V : Nat → Int32} {iv : Iv} {p p' s : Int32} (i : sgI V iv p s) (hs : 32 ≤ s.toInt) (hy : p'.toInt = p.toInt + 1) (h0 : 0 ≤ p.toInt) : sgO V iv p' := fun k hk _ => by
  rw [clamp_s hy h0]; exact (i k hk).1 (by omega)
theorem sg_p0 {V : Nat → Int32} {p : Int32} {k : Nat} (h : p.toInt = 0) : (0 : Int32) = sgN V k p.toNatClampNeg := by
  rw [show p.toNatClampNeg = 0 from by rw [clamp_n]; omega]; rfl
theorem sg_p1 {V : Nat → Int32} {iv : Iv} {p s x : Int32} (i : sgI V iv p s) (e : x = iv 39 0 s.toNatClampNeg) (hp : 0 < p.toInt) (h0 : 0 ≤ s.toInt) (h1 : s.toInt < 32) : x = sgN V s.toNatClampNeg p.toNatClampNeg := by
  have c := ix_nat h0
  rw [e]; exact (i _ (by omega)).2 (by omega) hp
theorem sg_b1 {s p a b v : Int32} (e1 : a = s >>> (p &&& 31)) (e2 : b = a &&& 1) (h : b.toInt = 1) (hs : 0 ≤ s.toInt ∧ s.toInt < 32) (hp : 0 ≤ p.toInt ∧ p.toInt < 5) : v = if (s.toNatClampNeg).testBit (p.toNatClampNeg) = true then v else 0 := by
  have q := g_bit _ (cl_32 hs.1 hs.2) _ (cl_5 hp.1 hp.2)
  rw [← of_cl hs.1 hs.2, ← of_cl hp.1 (by omega), ← e1, ← e2] at q
  rw [if_pos (q.mp h)]
theorem sg_b0 {s p a b v : Int32} (e1 : a = s >>> (p &&& 31)) (e2 : b = a &&& 1) (h : ¬ b.toInt = 1) (hs : 0 ≤ s.toInt ∧ s.toInt < 32) (hp : 0 ≤ p.toInt ∧ p.toInt < 5) : (0 : Int32) = if (s.toNatClampNeg).testBit (p.toNatClampNeg) = true then v else 0 := by
  have q := g_bit _ (cl_32 hs.1 hs.2) _ (cl_5 hp.1 hp.2)
  rw [← of_cl hs.1 hs.2, ← of_cl hp.1 (by omega), ← e1, ← e2] at q
  rw [if_neg (fun z => h (q.mpr z))]
theorem sg_s {V : Nat → Int32} {iv iv1 : Iv} {p s s' v x y z : Int32} (i : sgI V iv p s) (hx : x = sgN V s.toNatClampNeg p.toNatClampNeg) (hy : y = if (s.toNatClampNeg).testBit (p.toNatClampNeg) = true then v else 0) (hv : v = V p.toNatClampNeg) (e : z = x + y) (e1 : iv1 = up3 iv 39 0 s.toNatClampNeg z) (h0 : 0 ≤ s.toInt) (h1 : s.toInt < 32) (hs : s'.toInt = s.toInt + 1) : sgI V iv1 p s' := fun k hk => by
  have c := ix_nat h0
  rw [e1]
  by_cases q : k = s.toNatClampNeg
  · refine ⟨fun _ => ?_, fun w => absurd w (by omega)⟩
    rw [q, up3_self, e, hx, hy, hv]; rfl
  · rw [up3_ne (fun w => q w.2.2)]
    exact ⟨fun w => (i k hk).1 (by omega), fun w => (i k hk).2 (by omega)⟩
theorem sg_fin {V : Nat → Int32} {iv : Iv} {p : Int32} (i : sgO V iv p) (h : p.toInt = 5) : ∀ k : Nat, k < 32 → iv 39 0 k = sgN V k 5 := fun k hk => by
  rw [i k hk (by omega), show p.toNatClampNeg = 5 from by rw [clamp_n]; omega]
def bkI (Z : Nat → Int32) (iv : Iv) (s : Nat) : Prop := (∀ k : Nat, k < 32 → iv 39 0 k = Z k) ∧ iv 40 0 0 = 0 ∧ ∀ t : Nat, 1 ≤ t → t < s → iv 40 0 t = bst (fun k => iv 40 0 k) Z t t
def bkJ (Z : Nat → Int32) (iv : Iv) (s k : Nat) : Prop := bkI Z iv s ∧ iv 40 0 s = bst (fun k => iv 40 0 k) Z s k
theorem bk_up {Z : Nat → Int32} {iv iv1 : Iv} {s : Nat} {v : Int32} (i : bkI Z iv s) (e : iv1 = up3 iv 40 0 s v) (hs : s < 32) (h1 : 1 ≤ s) : bkI Z iv1 s := by
  have o : ∀ k : Nat, k < s → iv1 40 0 k = iv 40 0 k := fun k hk => by rw [e, up3_ne (fun z => by omega)]
  refine ⟨fun k hk => by rw [e, up3_ne (fun z => absurd z.1 (by decide))]; exact i.1 k hk, by rw [o 0 (by omega)]; exact i.2.1, fun t t1 t2 => ?_⟩
  rw [o t t2, i.2.2 t t1 t2]
  exact bst_c (by omega) (fun k hk => (o k (by omega)).symm) t (by omega)
theorem bk_0 {Z : Nat → Int32} {iv iv1 : Iv} (h : ∀ k : Nat, k < 32 → iv 39 0 k = Z k) (e : iv1 = up3 iv 40 0 (0 : Int32).toNatClampNeg 0) : bkI Z iv1 (1 : Int32).toNatClampNeg := by
  rw [show (0 : Int32).toNatClampNeg = 0 from by decide] at e
  rw [show (1 : Int32).toNatClampNeg = 1 from by decide]
  refine ⟨fun k hk => by rw [e, up3_ne (fun z => absurd z.1 (by decide))]; exact h k hk, by rw [e, up3_self], fun t t1 t2 => by omega⟩
theorem bk_j0 {Z : Nat → Int32} {iv iv1 : Iv} {s : Int32} (i : bkI Z iv s.toNatClampNeg) (e : iv1 = up3 iv 40 0 s.toNatClampNeg (-1)) (h1 : 1 ≤ s.toInt) (hs : s.toInt < 32) : bkJ Z iv1 s.toNatClampNeg ((1 : Int32).toNatClampNeg - 1) := by
  have c := ix_nat (show 0 ≤ s.toInt by omega)
  refine ⟨bk_up i e (by omega) (by omega), ?_⟩
  rw [show (1 : Int32).toNatClampNeg - 1 = 0 from by decide, e, up3_self]; rfl
theorem bk_s {Z : Nat → Int32} {iv iv1 : Iv} {s p p' y : Int32} (j : bkJ Z iv s.toNatClampNeg (p.toNatClampNeg - 1)) (u : y = bst (fun k => iv 40 0 k) Z s.toNatClampNeg p.toNatClampNeg) (e : iv1 = up3 iv 40 0 s.toNatClampNeg y) (h1 : 1 ≤ s.toInt) (hs : s.toInt < 32) (hp : p'.toInt = p.toInt + 1) (hq : 1 ≤ p.toInt ∧ p.toInt < 32) : bkJ Z iv1 s.toNatClampNeg (p'.toNatClampNeg - 1) := by
  have c := ix_nat (show 0 ≤ s.toInt by omega)
  have d := ix_nat (show 0 ≤ p.toInt by omega)
  have o : ∀ k : Nat, k < s.toNatClampNeg → iv1 40 0 k = iv 40 0 k := fun k hk => by rw [e, up3_ne (fun z => by omega)]
  refine ⟨bk_up j.1 e (by omega) (by omega), ?_⟩
  rw [clamp_s hp (by omega), Nat.add_sub_cancel]
  have w : iv1 40 0 s.toNatClampNeg = y := by rw [e, up3_self]
  rw [w, u]
  exact bst_c (by omega) (fun k hk => (o k hk).symm) _ (by omega)
theorem bk_next {Z : Nat → Int32} {iv : Iv} {s s' p : Int32} (j : bkJ Z iv s.toNatClampNeg (p.toNatClampNeg - 1)) (hp : p.toInt = s.toInt + 1) (h1 : 1 ≤ s.toInt) (hs : s.toInt < 32) (hy : s'.toInt = s.toInt + 1) : bkI Z iv s'.toNatClampNeg := by
  have c := ix_nat (show 0 ≤ s.toInt by omega)
  have k := j.2
  rw [clamp_s hp (by omega), Nat.add_sub_cancel] at k
  rw [clamp_s hy (by omega)]
  refine ⟨j.1.1, j.1.2.1, fun t t1 t2 => ?_⟩
  by_cases q : t = s.toNatClampNeg
  · rw [q]; exact k
  · exact j.1.2.2 t t1 (by omega)
theorem bq_1 {A Z : Nat → Int32} {s p z : Int32} (hz : z.toInt = ((sbt p.toNatClampNeg s.toNatClampNeg : Nat) : Int)) (h : ¬ z.toInt = 0) : ¬ bcd A Z s.toNatClampNeg p.toNatClampNeg := fun w => by
  have := w.1
  omega
theorem bq_2 {A Z : Nat → Int32} {s p : Nat} {x : Int32} (hx : x = Z p) (h : ¬ x.toInt = 0) : ¬ bcd A Z s p := fun w => h (by rw [hx]; exact w.2.1)
theorem bq_3 {Z : Nat → Int32} {iv : Iv} {s p : Nat} {x : Int32} (hx : x = iv 40 0 (sbt s p)) (h : x.toInt < 0) : ¬ bcd (fun k => iv 40 0 k) Z s p := fun w => by
  have k : 0 ≤ (iv 40 0 (sbt s p)).toInt := w.2.2
  rw [hx] at h; omega
theorem bq_y {Z : Nat → Int32} {iv : Iv} {s p z x y : Int32} (hz : z.toInt = ((sbt p.toNatClampNeg s.toNatClampNeg : Nat) : Int)) (h0 : z.toInt = 0) (hx : x = Z p.toNatClampNeg) (h1 : x.toInt = 0) (hy : y = iv 40 0 (sbt s.toNatClampNeg p.toNatClampNeg)) (h2 : 0 ≤ y.toInt) : bcd (fun k => iv 40 0 k) Z s.toNatClampNeg p.toNatClampNeg := by
  refine ⟨by omega, by rw [← hx]; exact h1, ?_⟩
  show 0 ≤ (iv 40 0 (sbt s.toNatClampNeg p.toNatClampNeg)).toInt
  rw [← hy]; exact h2
theorem bq_a {P Q : Prop} {x : Int32} (h : (x.toInt = 1 ∧ P) ∨ (x.toInt = 0 ∧ ¬ P)) (h0 : x.toInt = 0) : ¬ (P ∧ Q) := fun z => by
  rcases h with ⟨a, -⟩ | ⟨-, b⟩
  · omega
  · exact b z.1
theorem bst_k {A Z : Nat → Int32} {s p : Nat} (h : 1 ≤ p) : bst A Z s p = if bcd A Z s p ∧ (bst A Z s (p - 1)).toInt < (A (sbt s p) + 1).toInt then A (sbt s p) + 1 else bst A Z s (p - 1) := by
  obtain ⟨k, rfl⟩ : ∃ k, p = k + 1 := ⟨p - 1, by omega⟩
  rfl
theorem bq_u {Z : Nat → Int32} {iv : Iv} {s p x y : Int32} (j : bkJ Z iv s.toNatClampNeg (p.toNatClampNeg - 1)) (b : (x.toInt = 1 ∧ bcd (fun k => iv 40 0 k) Z s.toNatClampNeg p.toNatClampNeg) ∨ (x.toInt = 0 ∧ ¬ bcd (fun k => iv 40 0 k) Z s.toNatClampNeg p.toNatClampNeg)) (hx : ¬ x.toInt = 0) (hy : y = iv 40 0 (sbt s.toNatClampNeg p.toNatClampNeg) + 1) (lt : (iv 40 0 s.toNatClampNeg).toInt < (iv 40 0 (sbt s.toNatClampNeg p.toNatClampNeg) + 1).toInt) (hp : 1 ≤ p.toInt) : y = bst (fun k => iv 40 0 k) Z s.toNatClampNeg p.toNatClampNeg := by
  have d := ix_nat (show 0 ≤ p.toInt by omega)
  have q : bcd (fun k => iv 40 0 k) Z s.toNatClampNeg p.toNatClampNeg := by
    rcases b with ⟨-, b⟩ | ⟨b, -⟩
    · exact b
    · exact absurd b hx
  rw [bst_k (by omega), ← j.2, if_pos ⟨q, lt⟩]; exact hy
theorem bq_v {Z : Nat → Int32} {iv : Iv} {s p y : Int32} (j : bkJ Z iv s.toNatClampNeg (p.toNatClampNeg - 1)) (n : ¬ (bcd (fun k => iv 40 0 k) Z s.toNatClampNeg p.toNatClampNeg ∧ (iv 40 0 s.toNatClampNeg).toInt < (iv 40 0 (sbt s.toNatClampNeg p.toNatClampNeg) + 1).toInt)) (hy : y = iv 40 0 s.toNatClampNeg) (hp : 1 ≤ p.toInt) : y = bst (fun k => iv 40 0 k) Z s.toNatClampNeg p.toNatClampNeg := by
  have d := ix_nat (show 0 ≤ p.toInt by omega)
  rw [bst_k (by omega), ← j.2, if_neg n]; exact hy
theorem ring5 (m a : Int32) : m - (a - (5 - m)) = 5 - a := by grind
theorem bk_ret {Z : Nat → Int32} {iv : Iv} {s m a z q r : Int32} (i : bkI Z iv s.toNatClampNeg) (hs : s.toInt = 32) (h0 : (Z 31).toInt = 0) (ea : a = iv 40 0 (31 : Int32).toNatClampNeg) (ez : z = 5 - m) (eq_ : q = a - z) (er : r = m - q) : bkR Z (fun k => iv 40 0 k) r := by
  rw [show s.toNatClampNeg = 32 from by rw [clamp_n]; omega] at i
  rw [show (31 : Int32).toNatClampNeg = 31 from by decide] at ea
  refine Or.inr ⟨h0, i.2.1, i.2.2, ?_⟩
  rw [er, eq_, ez, ea]; exact ring5 _ _
-- the class's walk
theorem tg_0 {V : Nat → Int32} {s : Nat} : (0 : Int32) = sgN V s (0 : Int32).toNatClampNeg := by
  rw [show (0 : Int32).toNatClampNeg = 0 from by decide]; rfl
theorem tg_up {V : Nat → Int32} {s : Nat} {x k k' : Int32} (i : x = sgN V s (k.toNatClampNeg + 1)) (hk : k'.toInt = k.toInt + 1) (h0 : 0 ≤ k.toInt) : x = sgN V s k'.toNatClampNeg := by rw [clamp_s hk h0]; exact i
theorem tg_y {iv : Iv} {s p a b v x y : Int32} (i : x = sgN (fun k => iv 86 0 k) s.toNatClampNeg p.toNatClampNeg) (e1 : a = (1 : Int32) <<< (p &&& 31)) (e2 : b = s &&& a) (ev : v = iv 86 0 p.toNatClampNeg) (ey : y = x + v) (h : ¬ b.toInt = 0) (hs : 0 ≤ s.toInt ∧ s.toInt < 32) (hp : 0 ≤ p.toInt ∧ p.toInt < 5) : y = sgN (fun k => iv 86 0 k) s.toNatClampNeg (p.toNatClampNeg + 1) := by
  have q := g_bit2 _ (cl_32 hs.1 hs.2) _ (cl_5 hp.1 hp.2)
  rw [← of_cl hs.1 hs.2, ← of_cl hp.1 (by omega), ← e1, ← e2] at q
  have t : (s.toNatClampNeg).testBit (p.toNatClampNeg) = true := by
    cases w : (s.toNatClampNeg).testBit (p.toNatClampNeg)
    · exact absurd (q.mpr w) h
    · rfl
  show y = sgN (fun k => iv 86 0 k) s.toNatClampNeg p.toNatClampNeg + (if (s.toNatClampNeg).testBit (p.toNatClampNeg) = true then iv 86 0 p.toNatClampNeg else 0)
  rw [if_pos t, ey, ev, i]
theorem tg_n {iv : Iv} {s p a b x : Int32} (i : x = sgN (fun k => iv 86 0 k) s.toNatClampNeg p.toNatClampNeg) (e1 : a = (1 : Int32) <<< (p &&& 31)) (e2 : b = s &&& a) (h : b.toInt = 0) (hs : 0 ≤ s.toInt ∧ s.toInt < 32) (hp : 0 ≤ p.toInt ∧ p.toInt < 5) : x = sgN (fun k => iv 86 0 k) s.toNatClampNeg (p.toNatClampNeg + 1) := by
  have q := g_bit2 _ (cl_32 hs.1 hs.2) _ (cl_5 hp.1 hp.2)
  rw [← of_cl hs.1 hs.2, ← of_cl hp.1 (by omega), ← e1, ← e2] at q
  have t := q.mp h
  show x = sgN (fun k => iv 86 0 k) s.toNatClampNeg p.toNatClampNeg + (if (s.toNatClampNeg).testBit (p.toNatClampNeg) = true then iv 86 0 p.toNatClampNeg else 0)
  rw [t, if_neg (by decide), Int32.add_zero]; exact i
theorem mo_0 {B : Nat → Int32} {s : Nat} : (0 : Int32) = mst B s (0 : Int32).toNatClampNeg := by
  rw [show (0 : Int32).toNatClampNeg = 0 from by decide]; rfl
theorem mo_up {B : Nat → Int32} {s : Nat} {x k k' : Int32} (i : x = mst B s (k.toNatClampNeg + 1)) (hk : k'.toInt = k.toInt + 1) (h0 : 0 ≤ k.toInt) : x = mst B s k'.toNatClampNeg := by rw [clamp_s hk h0]; exact i
theorem mo_y {iv : Iv} {s p x y z w : Int32} (i : x = mst (fun k => iv 87 0 k) s.toNatClampNeg p.toNatClampNeg) (hu : z.toNatClampNeg = sbt s.toNatClampNeg (2 ^ p.toNatClampNeg)) (hw : w = iv 87 0 (sbt s.toNatClampNeg (2 ^ p.toNatClampNeg))) (hy : y.toInt = max x.toInt w.toInt) (h : ¬ z.toInt = s.toInt) (hz : 0 ≤ z.toInt) (hs : 0 ≤ s.toInt) : y = mst (fun k => iv 87 0 k) s.toNatClampNeg (p.toNatClampNeg + 1) := by
  have c := ix_nat hz
  have d := ix_nat hs
  have n : ¬ sbt s.toNatClampNeg (2 ^ p.toNatClampNeg) = s.toNatClampNeg := fun e => h (by rw [← c, ← d, hu, e])
  show y = if sbt s.toNatClampNeg (2 ^ p.toNatClampNeg) = s.toNatClampNeg then mst (fun k => iv 87 0 k) s.toNatClampNeg p.toNatClampNeg else mxQ (mst (fun k => iv 87 0 k) s.toNatClampNeg p.toNatClampNeg) (iv 87 0 (sbt s.toNatClampNeg (2 ^ p.toNatClampNeg)))
  rw [if_neg n, ← i, ← hw]
  apply (fa_eq _ _).mpr
  rw [hy]; unfold mxQ
  split <;> omega
theorem mo_n {iv : Iv} {s p x z : Int32} (i : x = mst (fun k => iv 87 0 k) s.toNatClampNeg p.toNatClampNeg) (hu : z.toNatClampNeg = sbt s.toNatClampNeg (2 ^ p.toNatClampNeg)) (h : z.toInt = s.toInt) : x = mst (fun k => iv 87 0 k) s.toNatClampNeg (p.toNatClampNeg + 1) := by
  have e := clamp_eq h
  show x = if sbt s.toNatClampNeg (2 ^ p.toNatClampNeg) = s.toNatClampNeg then mst (fun k => iv 87 0 k) s.toNatClampNeg p.toNatClampNeg else mxQ (mst (fun k => iv 87 0 k) s.toNatClampNeg p.toNatClampNeg) (iv 87 0 (sbt s.toNatClampNeg (2 ^ p.toNatClampNeg)))
  rw [if_pos (hu.symm.trans e)]; exact i
theorem ps_y {B Z : Nat → Int32} {s : Nat} {x y : Int32} (hm : x = mst B s 5) (e : y = x + 1) (h : (Z s).toInt = 0) : y = pst B Z s := by
  unfold pst; rw [if_pos h, e, hm]
theorem ps_n {B Z : Nat → Int32} {s : Nat} {x : Int32} (hm : x = mst B s 5) (h : ¬ (Z s).toInt = 0) : x = pst B Z s := by
  unfold pst; rw [if_neg h]; exact hm
def cpI (Z : Nat → Int32) (iv : Iv) (n : Nat) : Prop := ∀ t : Nat, 1 ≤ t → t < n → iv 87 0 t = pst (fun k => iv 87 0 k) Z t
theorem cp_0 {Z : Nat → Int32} {iv : Iv} (h : iv 87 0 0 = 0) : iv 87 0 0 = 0 ∧ cpI Z iv (1 : Int32).toNatClampNeg := ⟨h, fun t t1 t2 => by rw [show (1 : Int32).toNatClampNeg = 1 from by decide] at t2; omega⟩
theorem pst_c {A B Z : Nat → Int32} {s : Nat} (hs : s < 32) (h : ∀ k : Nat, k < s → A k = B k) : pst A Z s = pst B Z s := by
  unfold pst; rw [mst_c hs h 5 (Nat.le_refl _)]
theorem cp_s {Z : Nat → Int32} {iv iv1 : Iv} {s s' y : Int32} (i : iv 87 0 0 = 0 ∧ cpI Z iv s.toNatClampNeg) (u : y = pst (fun k => iv 87 0 k) Z s.toNatClampNeg) (e : iv1 = up3 iv 87 0 s.toNatClampNeg y) (h1 : 1 ≤ s.toInt) (hs : s.toInt < 32) (hy : s'.toInt = s.toInt + 1) : iv1 87 0 0 = 0 ∧ cpI Z iv1 s'.toNatClampNeg := by
  have c := ix_nat (show 0 ≤ s.toInt by omega)
  have o : ∀ k : Nat, k < s.toNatClampNeg → iv1 87 0 k = iv 87 0 k := fun k hk => by rw [e, up3_ne (fun z => by omega)]
  rw [clamp_s hy (by omega)]
  refine ⟨by rw [o 0 (by omega)]; exact i.1, fun t t1 t2 => ?_⟩
  by_cases q : t = s.toNatClampNeg
  · rw [q]
    have w : iv1 87 0 s.toNatClampNeg = y := by rw [e, up3_self]
    rw [w, u]
    exact pst_c (by omega) (fun k hk => (o k hk).symm)
  · rw [o t (by omega), i.2 t t1 (by omega)]
    exact pst_c (by omega) (fun k hk => (o k (by omega)).symm)
theorem cp_ret {Z : Nat → Int32} {iv : Iv} {s a r : Int32} (i : iv 87 0 0 = 0 ∧ cpI Z iv s.toNatClampNeg) (hs : s.toInt = 32) (h0 : (Z 31).toInt = 0) (ea : a = iv 87 0 (31 : Int32).toNatClampNeg) (er : r = 5 - a) : bkC Z (fun k => iv 87 0 k) r := by
  have j := i.2
  rw [show s.toNatClampNeg = 32 from by rw [clamp_n]; omega] at j
  rw [show (31 : Int32).toNatClampNeg = 31 from by decide] at ea
  exact Or.inr ⟨h0, i.1, j, by rw [er, ea]⟩
