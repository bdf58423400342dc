theorem clamp_eq {x y : Int32} (h : x.toInt = y.toInt) : x.toNatClampNeg = y.toNatClampNeg := by
  have a : x.toNatClampNeg = x.toInt.toNat := rfl
  have b : y.toNatClampNeg = y.toInt.toNat := rfl
  rw [a, b, h]
theorem clamp_n {x : Int32} : x.toNatClampNeg = x.toInt.toNat := rfl
theorem nat_of {x : Int32} (h : 0 ≤ x.toInt) : nI x.toNatClampNeg = x := by
  have e := ix_nat h
  have r := fb_rng x
  exact (fa_eq _ _).mpr (by rw [nI_toInt (by omega)]; exact e)
theorem clamp_s {x y : Int32} (h : y.toInt = x.toInt + 1) (h0 : 0 ≤ x.toInt) : y.toNatClampNeg = x.toNatClampNeg + 1 := by
  rw [clamp_n, clamp_n]; omega
-- the reference's own words
def oF (v : Int32) : Int32 := if v.toInt < 0 then 0 else v
def lsF (a b : Int32) : Int32 := if a.toInt < b.toInt then a else b
def rsF (iv : Iv) (b : Int32) : Int32 := if b.toInt = 0 then iv 15 0 0 else iv 15 0 1
def rlF (iv : Iv) (l : Nat) : Int32 := oF (iv 12 0 l - iv 4 0 (iv 5 0 l).toNatClampNeg)
def raF (iv : Iv) (l : Nat) : Int32 := oF (iv 13 0 l - iv 4 0 (iv 6 0 l).toNatClampNeg)
def laF (iv : Iv) (l : Nat) : Int32 := oF (raF iv l - iv 10 0 l)
def olF (iv : Iv) (l : Nat) : Int32 := oF (rlF iv l - iv 9 0 l)
def ahStep (iv : Iv) (l : Nat) (b : Int32) (best : Int32) (k : Nat) : Int32 :=
  if ((((¬ b.toInt = 0) ∧ (iv 8 0 k).toInt = (iv 8 0 l).toInt) ∨ (b.toInt = 0 ∧ (iv 7 0 k).toInt = (iv 7 0 l).toInt)) ∧ (iv 6 0 k).toInt = (iv 5 0 l).toInt ∧ (iv 10 0 k).toInt + (rsF iv b).toInt ≤ (iv 9 0 l).toInt) ∧ (best.toInt < 0 ∨ (iv 10 0 best.toNatClampNeg).toInt ≤ (iv 10 0 k).toInt) then nI k else best
def ahN (iv : Iv) (l : Nat) (b : Int32) : Nat → Int32
  | 0 => -1
  | n + 1 => ahStep iv l b (ahN iv l b n) n
def ahF (iv : Iv) (l : Nat) (b : Int32) : Int32 := ahN iv l b (iv 0 0 6).toNatClampNeg
theorem ah_back {iv : Iv} {l : Nat} {b best x y z : Int32} (h : y.toInt = x.toInt + 1) (h0 : 0 ≤ x.toInt) (h1 : best = ahN iv l b x.toNatClampNeg) (h2 : z = ahStep iv l b best x.toNatClampNeg) : z = ahN iv l b y.toNatClampNeg := by
  rw [clamp_s h h0, h2, h1]; rfl
def wtF (iv : Iv) (l : Nat) (b : Int32) : Int32 :=
  if (ahF iv l b).toInt < 0 then 0 else if (iv 11 0 (ahF iv l b).toNatClampNeg).toInt = 0 then 0 else
    lsF (oF (raF iv (ahF iv l b).toNatClampNeg + rsF iv b - iv 9 0 l)) (olF iv l)
def bcF (iv : Iv) (l : Nat) : Int32 := if (wtF iv l 0).toInt < (wtF iv l 1).toInt then 1 else 0
def hdF (iv : Iv) (l : Nat) : Int32 := lsF (laF iv l) (wtF iv l (bcF iv l))
theorem wt_pos {iv : Iv} {l : Nat} {b : Int32} (h : 0 < (wtF iv l b).toInt) : 0 ≤ (ahF iv l b).toInt := by
  unfold wtF at h
  split at h
  · exact absurd h (by decide)
  · omega
theorem ls_pos {a b : Int32} (h : 0 < (lsF a b).toInt) : 0 < a.toInt ∧ 0 < b.toInt := by
  unfold lsF at h
  split at h <;> omega
theorem hd_pos {iv : Iv} {l : Nat} (h : 0 < (hdF iv l).toInt) : 0 ≤ (ahF iv l (bcF iv l)).toInt := wt_pos (ls_pos h).2
theorem ahN_ok {iv : Iv} {l : Nat} {b : Int32} : ∀ n : Nat, n ≤ 40 → (ahN iv l b n).toInt < 0 ∨ ∃ k : Nat, k < n ∧ ahN iv l b n = nI k ∧ (iv 10 0 k).toInt + (rsF iv b).toInt ≤ (iv 9 0 l).toInt
  | 0, _ => Or.inl (show (-1 : Int32).toInt < 0 by decide)
  | n + 1, hn => by
    have ih := ahN_ok (iv := iv) (l := l) (b := b) n (by omega)
    show (ahStep iv l b (ahN iv l b n) n).toInt < 0 ∨ ∃ k : Nat, k < n + 1 ∧ ahStep iv l b (ahN iv l b n) n = nI k ∧ _
    unfold ahStep
    split
    · rename_i h
      exact Or.inr ⟨n, by omega, rfl, h.1.2.2⟩
    · rcases ih with h | ⟨k, h1, h2, h3⟩
      · exact Or.inl h
      · exact Or.inr ⟨k, by omega, h2, h3⟩
theorem ah_lt {al : Al} {iv : Iv} {rv : Rv} (hG : GI al iv rv) {l : Nat} {b : Int32} (h : 0 ≤ (ahF iv l b).toInt) : (ahF iv l b).toInt < (iv 0 0 6).toInt ∧ (iv 9 0 (ahF iv l b).toNatClampNeg).toInt < (iv 9 0 l).toInt := by
  have r6 := hG.1 0 0 6 (h1_0 hG) (by decide)
  have r6a : (0 : Int) ≤ (iv 0 0 6).toInt := r6.1
  have r6b : (iv 0 0 6).toInt ≤ (40 : Int) := r6.2
  have hc : (((iv 0 0 6).toNatClampNeg : Nat) : Int) = (iv 0 0 6).toInt := ix_nat r6a
  rcases ahN_ok (iv := iv) (l := l) (b := b) (iv 0 0 6).toNatClampNeg (by omega) with h1 | ⟨k, h1, h2, h3⟩
  · exact absurd h (by show ¬ 0 ≤ (ahN iv l b (iv 0 0 6).toNatClampNeg).toInt; omega)
  · have e : ahF iv l b = nI k := h2
    have hk : (nI k).toInt = (k : Int) := nI_toInt (by omega)
    have hcl : (nI k).toNatClampNeg = k := nI_clamp (by omega)
    rw [e, hk, hcl]
    have s1 := hG.2.2.2.2.2.2.2.2.2.2.2 k (by omega)
    have s2 : (0 : Int) ≤ (rsF iv b).toInt := by
      unfold rsF
      split
      · exact (hG.1 15 0 0 (h1_15 hG) (by decide)).1
      · exact (hG.1 15 0 1 (h1_15 hG) (by decide)).1
    exact ⟨by omega, by omega⟩
-- they don't look at byCause
theorem rs_cong {iv iv' : Iv} (h : ∀ t i k, t ≠ 17 → iv' t i k = iv t i k) (b : Int32) : rsF iv' b = rsF iv b := by simp only [rsF, h 15 _ _ (by decide)]
theorem ra_cong {iv iv' : Iv} (h : ∀ t i k, t ≠ 17 → iv' t i k = iv t i k) (l : Nat) : raF iv' l = raF iv l := by simp only [raF, h 13 _ _ (by decide), h 4 _ _ (by decide), h 6 _ _ (by decide)]
theorem rl_cong {iv iv' : Iv} (h : ∀ t i k, t ≠ 17 → iv' t i k = iv t i k) (l : Nat) : rlF iv' l = rlF iv l := by simp only [rlF, h 12 _ _ (by decide), h 4 _ _ (by decide), h 5 _ _ (by decide)]
theorem la_cong {iv iv' : Iv} (h : ∀ t i k, t ≠ 17 → iv' t i k = iv t i k) (l : Nat) : laF iv' l = laF iv l := by simp only [laF, ra_cong h, h 10 _ _ (by decide)]
theorem ol_cong {iv iv' : Iv} (h : ∀ t i k, t ≠ 17 → iv' t i k = iv t i k) (l : Nat) : olF iv' l = olF iv l := by simp only [olF, rl_cong h, h 9 _ _ (by decide)]
theorem ahN_cong {iv iv' : Iv} (h : ∀ t i k, t ≠ 17 → iv' t i k = iv t i k) (l : Nat) (b : Int32) : ∀ n : Nat, ahN iv' l b n = ahN iv l b n
  | 0 => rfl
  | n + 1 => by
    show ahStep iv' l b (ahN iv' l b n) n = ahStep iv l b (ahN iv l b n) n
    rw [ahN_cong h l b n]
    simp only [ahStep, rs_cong h, h 5 _ _ (by decide), h 6 _ _ (by decide), h 7 _ _ (by decide), h 8 _ _ (by decide), h 9 _ _ (by decide), h 10 _ _ (by decide)]
theorem ah_cong {iv iv' : Iv} (h : ∀ t i k, t ≠ 17 → iv' t i k = iv t i k) (l : Nat) (b : Int32) : ahF iv' l b = ahF iv l b := by
  unfold ahF; rw [h 0 0 6 (by decide), ahN_cong h]
theorem wt_cong {iv iv' : Iv} (h : ∀ t i k, t ≠ 17 → iv' t i k = iv t i k) (l : Nat) (b : Int32) : wtF iv' l b = wtF iv l b := by
  simp only [wtF, ah_cong h, ra_cong h, rs_cong h, ol_cong h, h 11 _ _ (by decide), h 9 _ _ (by decide)]
theorem bc_cong {iv iv' : Iv} (h : ∀ t i k, t ≠ 17 → iv' t i k = iv t i k) (l : Nat) : bcF iv' l = bcF iv l := by simp only [bcF, wt_cong h]
theorem hd_cong {iv iv' : Iv} (h : ∀ t i k, t ≠ 17 → iv' t i k = iv t i k) (l : Nat) : hdF iv' l = hdF iv l := by simp only [hdF, la_cong h, wt_cong h, bc_cong h]
theorem fr17 {iv iv' : Iv} (h : FR ([17], []) iv iv') : ∀ t i k, t ≠ 17 → iv' t i k = iv t i k := fun t i k ht => h t i k (by
  intro q
  rcases q with q | q
  · exact ht (List.mem_singleton.mp q)
  · cases q)
theorem rm1 {al : Al} {iv : Iv} {rv : Rv} (hG : GI al iv rv) {x : Int32} (h0 : 0 ≤ x.toInt) (h1 : x.toInt < (iv 0 0 20).toInt) : 1 ≤ (iv 19 0 x.toNatClampNeg).toInt :=
  hG.2.2.2.2.2.2.2.2.2.1 x.toNatClampNeg (by rw [ix_nat h0]; exact h1)
theorem co1 {al : Al} {iv : Iv} {rv : Rv} (hG : GI al iv rv) {x : Int32} (h0 : 0 ≤ x.toInt) (h1 : x.toInt < (iv 0 0 41).toInt) : (iv 35 0 x.toNatClampNeg).toInt < (iv 0 0 20).toInt :=
  hG.2.2.2.2.2.2.2.2.2.2.1 x.toNatClampNeg (by rw [ix_nat h0]; exact h1)
theorem le20 {al : Al} {iv : Iv} {rv : Rv} (hG : GI al iv rv) : 0 ≤ (iv 0 0 20).toInt ∧ (iv 0 0 20).toInt ≤ 20 := hG.1 0 0 20 (h1_0 hG) (by decide)
theorem le41 {al : Al} {iv : Iv} {rv : Rv} (hG : GI al iv rv) : 0 ≤ (iv 0 0 41).toInt ∧ (iv 0 0 41).toInt ≤ 30 := hG.1 0 0 41 (h1_0 hG) (by decide)
theorem le6 {al : Al} {iv : Iv} {rv : Rv} (hG : GI al iv rv) : 0 ≤ (iv 0 0 6).toInt ∧ (iv 0 0 6).toInt ≤ 40 := hG.1 0 0 6 (h1_0 hG) (by decide)
-- how many are not reached yet
def ctU (iv : Iv) : Nat → Nat
  | 0 => 0
  | n + 1 => ctU iv n + (if (iv 20 0 n).toInt = 0 then 1 else 0)
theorem ct_out {iv : Iv} {j : Nat} {v : Int32} : ∀ n : Nat, n ≤ j → ctU (up3 iv 20 0 j v) n = ctU iv n
  | 0, _ => rfl
  | n + 1, h => by
    show ctU (up3 iv 20 0 j v) n + _ = ctU iv n + _
    rw [ct_out n (by omega), up3_ne (fun q => by omega)]
theorem ct_put {iv : Iv} {j : Nat} {v : Int32} : ∀ n : Nat, j < n → ctU (up3 iv 20 0 j v) n + (if (iv 20 0 j).toInt = 0 then 1 else 0) = ctU iv n + (if v.toInt = 0 then 1 else 0)
  | 0, h => absurd h (Nat.not_lt_zero _)
  | n + 1, h => by
    show ctU (up3 iv 20 0 j v) n + (if (up3 iv 20 0 j v 20 0 n).toInt = 0 then 1 else 0) + (if (iv 20 0 j).toInt = 0 then 1 else 0) = ctU iv n + (if (iv 20 0 n).toInt = 0 then 1 else 0) + (if v.toInt = 0 then 1 else 0)
    rcases Nat.lt_or_ge j n with q | q
    · have ih := ct_put (iv := iv) (j := j) (v := v) n q
      rw [up3_ne (fun z => by omega)]
      omega
    · have e : j = n := by omega
      subst e
      rw [ct_out j (Nat.le_refl _), up3_self]
      omega
theorem ct_le {iv iv' : Iv} {x v : Int32} (e : iv' = up3 iv 20 0 x.toNatClampNeg v) (h0 : 0 ≤ x.toInt) (h1 : x.toInt < 40) (h : (iv 20 0 x.toNatClampNeg).toInt ≠ 0 → v.toInt ≠ 0) : ctU iv' 40 ≤ ctU iv 40 ∧ ((iv 20 0 x.toNatClampNeg).toInt = 0 → v.toInt ≠ 0 → ctU iv' 40 < ctU iv 40) := by
  have q := ct_put (iv := iv) (j := x.toNatClampNeg) (v := v) 40 (by rw [clamp_n]; omega)
  rw [← e] at q
  refine ⟨?_, fun a b => ?_⟩
  · by_cases a : (iv 20 0 x.toNatClampNeg).toInt = 0
    · rw [if_pos a] at q; split at q <;> omega
    · rw [if_neg a, if_neg (h a)] at q; omega
  · rw [if_pos a, if_neg b] at q; omega
theorem FR.arr {α : Type} {m : Mo} {f0 f : Nat → Nat → Nat → α} (h : FR m f0 f) (t i k : Nat) (ht : t ∉ m.1 ∧ t ∉ m.2.map (fun p => p.1)) : f t i k = f0 t i k := h t i k (by
  intro q
  rcases q with q | q
  · exact ht.1 q
  · exact ht.2 (List.mem_map.mpr ⟨_, q, rfl⟩))
theorem div_rng {x d : Int32} (h : 0 ≤ x.toInt) (hd : 0 < d.toInt) : 0 ≤ (x / d).toInt ∧ (x / d).toInt ≤ x.toInt := by
  have rx := fb_rng x
  have rd := fb_rng d
  have ex := nat_of h
  have ed := nat_of (Int.le_of_lt hd)
  have cx := ix_nat h
  have cd := ix_nat (Int.le_of_lt hd)
  have hq : x.toNatClampNeg / d.toNatClampNeg ≤ x.toNatClampNeg := Nat.div_le_self _ _
  have e : x / d = nI (x.toNatClampNeg / d.toNatClampNeg) := by
    have := pk_div (a := x.toNatClampNeg) (d := d.toNatClampNeg) (by omega) (by omega) (by omega)
    rw [ex, ed] at this
    exact this
  generalize x.toNatClampNeg / d.toNatClampNeg = q at e hq
  rw [e, nI_toInt (by omega)]
  omega
-- cells that the invariants speak of
theorem GI.put9 {al : Al} {iv : Iv} {rv : Rv} (h : GI al iv rv) {x v : Int32} (hr : 0 ≤ v.toInt ∧ v.toInt ≤ 20000) (hx : (iv 0 0 6).toInt ≤ x.toInt) (h0 : 0 ≤ x.toInt) : GI al (up3 iv 9 0 x.toNatClampNeg v) rv := by
  refine ⟨h.1.put hr, h.2.1, h.2.2.1, ?_⟩
  obtain ⟨y1, y2, y3, y4, y5, y6, y7, y8, y9⟩ := h.2.2.2
  have e : ∀ t i k, t ≠ 9 → up3 iv 9 0 x.toNatClampNeg v t i k = iv t i k := fun t i k q => up3_ne (fun z => q z.1)
  have cx := ix_nat h0
  refine ⟨y1, y2, y3, y4, y5, y6, y7, y8, fun k hk => ?_⟩
  have hk2 : (k : Int) < (iv 0 0 6).toInt := by rw [e 0 0 6 (by decide)] at hk; exact hk
  rw [e 10 0 k (by decide), up3_ne (fun z => by omega)]
  exact y9 k hk2
theorem GI.put10 {al : Al} {iv : Iv} {rv : Rv} (h : GI al iv rv) {x v : Int32} (hr : 0 ≤ v.toInt ∧ v.toInt ≤ 20000) (hx : (iv 0 0 6).toInt ≤ x.toInt) (h0 : 0 ≤ x.toInt) : GI al (up3 iv 10 0 x.toNatClampNeg v) rv := by
  refine ⟨h.1.put hr, h.2.1, h.2.2.1, ?_⟩
  obtain ⟨y1, y2, y3, y4, y5, y6, y7, y8, y9⟩ := h.2.2.2
  have e : ∀ t i k, t ≠ 10 → up3 iv 10 0 x.toNatClampNeg v t i k = iv t i k := fun t i k q => up3_ne (fun z => q z.1)
  have cx := ix_nat h0
  refine ⟨y1, y2, y3, y4, y5, y6, y7, y8, fun k hk => ?_⟩
  have hk2 : (k : Int) < (iv 0 0 6).toInt := by rw [e 0 0 6 (by decide)] at hk; exact hk
  rw [e 9 0 k (by decide), up3_ne (fun z => by omega)]
  exact y9 k hk2
theorem GI.put6 {al : Al} {iv : Iv} {rv : Rv} (h : GI al iv rv) {v x : Int32} (hr : 0 ≤ v.toInt ∧ v.toInt ≤ 40) (hx : x.toInt = (iv 0 0 6).toInt) (hv : v.toInt = x.toInt + 1) (hn : (iv 9 0 x.toNatClampNeg).toInt < (iv 10 0 x.toNatClampNeg).toInt) : GI al (up3 iv 0 0 6 v) rv := by
  have r6 := le6 h
  refine ⟨h.1.put hr, h.2.1, h.2.2.1, ?_⟩
  obtain ⟨y1, y2, y3, y4, y5, y6, y7, y8, y9⟩ := h.2.2.2
  refine ⟨y1, y2, y3, y4, y5, y6, y7, y8, fun k hk => ?_⟩
  rw [up3_self] at hk
  show (iv 9 0 k).toInt < (iv 10 0 k).toInt
  rcases Int.lt_or_le (k : Int) (iv 0 0 6).toInt with q | q
  · exact y9 k q
  · have e : k = x.toNatClampNeg := by rw [clamp_n]; omega
    rw [e]; exact hn
theorem GI.put19 {al : Al} {iv : Iv} {rv : Rv} (h : GI al iv rv) {k : Nat} {v : Int32} (hr : 1 ≤ v.toInt ∧ v.toInt ≤ 4) : GI al (up3 iv 19 0 k v) rv := by
  refine ⟨h.1.put (show (0 : Int) ≤ _ ∧ _ ≤ (4 : Int) by omega), h.2.1, h.2.2.1, ?_⟩
  obtain ⟨y1, y2, y3, y4, y5, y6, y7, y8, y9⟩ := h.2.2.2
  refine ⟨y1, y2, y3, y4, y5, y6, fun t ht => ?_, y8, y9⟩
  rcases up3_cases (f := iv) (t := 19) (i := 0) (k := k) (t' := 19) (i' := 0) (k' := t) (x := v) with ⟨-, -, -, e⟩ | e
  · rw [e]; exact hr.1
  · rw [e]; exact y7 t ht
theorem GI.put20 {al : Al} {iv : Iv} {rv : Rv} (h : GI al iv rv) {v x : Int32} (hr : 0 ≤ v.toInt ∧ v.toInt ≤ 20) (hx : x.toInt = (iv 0 0 20).toInt) (hv : v.toInt = x.toInt + 1) (hn : 1 ≤ (iv 19 0 x.toNatClampNeg).toInt) : GI al (up3 iv 0 0 20 v) rv := by
  have r6 := le20 h
  refine ⟨h.1.put hr, h.2.1, h.2.2.1, ?_⟩
  obtain ⟨y1, y2, y3, y4, y5, y6, y7, y8, y9⟩ := h.2.2.2
  refine ⟨y1, y2, y3, y4, y5, y6, fun t ht => ?_, fun c hc => ?_, y9⟩
  · rw [up3_self] at ht
    show 1 ≤ (iv 19 0 t).toInt
    rcases Int.lt_or_le (t : Int) (iv 0 0 20).toInt with q | q
    · exact y7 t q
    · have e : t = x.toNatClampNeg := by rw [clamp_n]; omega
      rw [e]; exact hn
  · have q := y8 c hc
    rw [up3_self]
    show (iv 35 0 c).toInt < v.toInt
    omega
theorem GI.put35 {al : Al} {iv : Iv} {rv : Rv} (h : GI al iv rv) {k : Nat} {v : Int32} (hr : 0 ≤ v.toInt ∧ v.toInt ≤ 19) (hv : v.toInt < (iv 0 0 20).toInt) : GI al (up3 iv 35 0 k v) rv := by
  refine ⟨h.1.put hr, h.2.1, h.2.2.1, ?_⟩
  obtain ⟨y1, y2, y3, y4, y5, y6, y7, y8, y9⟩ := h.2.2.2
  refine ⟨y1, y2, y3, y4, y5, y6, y7, fun c hc => ?_, y9⟩
  rcases up3_cases (f := iv) (t := 35) (i := 0) (k := k) (t' := 35) (i' := 0) (k' := c) (x := v) with ⟨-, -, -, e⟩ | e
  · rw [e]; exact hv
  · rw [e]; exact y8 c hc
theorem GI.put41 {al : Al} {iv : Iv} {rv : Rv} (h : GI al iv rv) {v x : Int32} (hr : 0 ≤ v.toInt ∧ v.toInt ≤ 30) (hx : x.toInt = (iv 0 0 41).toInt) (hv : v.toInt = x.toInt + 1) (hn : (iv 35 0 x.toNatClampNeg).toInt < (iv 0 0 20).toInt) : GI al (up3 iv 0 0 41 v) rv := by
  have r6 := le41 h
  refine ⟨h.1.put hr, h.2.1, h.2.2.1, ?_⟩
  obtain ⟨y1, y2, y3, y4, y5, y6, y7, y8, y9⟩ := h.2.2.2
  refine ⟨y1, y2, y3, y4, y5, y6, y7, fun c hc => ?_, y9⟩
  rw [up3_self] at hc
  show (iv 35 0 c).toInt < (iv 0 0 20).toInt
  rcases Int.lt_or_le (c : Int) (iv 0 0 41).toInt with q | q
  · exact y8 c q
  · have e : c = x.toNatClampNeg := by rw [clamp_n]; omega
    rw [e]; exact hn
