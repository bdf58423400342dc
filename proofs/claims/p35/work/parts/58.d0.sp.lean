def dsN (iv : Iv) (l d : Int) : Nat → Int32
  | 0 => 0
  | n + 1 => if (¬ (dsN iv l d n).toInt = 0) ∨ ((iv 32 0 n).toInt = l ∧ (iv 33 0 n).toInt ≤ d ∧ d ≤ (iv 34 0 n).toInt) then 1 else 0
def drN (iv : Iv) (l a : Int) : Nat → Int
  | 0 => 0
  | k + 1 => drN iv l a k + (if (dsN iv l (a + k) (iv 0 0 37).toNatClampNeg).toInt = 0 then 1 else 0)
def cown (iv : Iv) (c : Nat) : Nat := (iv 35 0 c).toNatClampNeg
def clw (iv : Iv) (c : Nat) : Int32 := lwF iv (cown iv c) (iv 36 0 c)
def caD (iv : Iv) (c : Nat) : Int := (iv 10 0 (thL iv (cown iv c)) / 1440).toInt + 1
def brF (iv : Iv) (c : Nat) : Int32 := if (clw iv c).toInt < 0 then 0 else if (iv 31 0 (clw iv c).toNatClampNeg).toInt < drN iv (clw iv c).toInt (caD iv c) ((iv 36 0 c).toInt - caD iv c + 1).toNat then 1 else 0
noncomputable def wrF (iv : Iv) (c : Nat) : Int32 := if ¬ (brF iv c).toInt = 0 then 0 else smF iv (cown iv c) (iv 36 0 c)
noncomputable def coS (iv : Iv) (c w : Int32) : Int32 := if ¬ (0 ≤ c.toInt ∧ c.toInt < (iv 0 0 41).toInt) then -1 else if ¬ (0 ≤ w.toInt ∧ w.toInt ≤ 5) then -2 else if w.toInt = 0 then iv 35 0 c.toNatClampNeg else if w.toInt = 1 then iv 36 0 c.toNatClampNeg else if w.toInt = 2 then (if ¬ (brF iv c.toNatClampNeg).toInt = 0 then 1 else 0) else if w.toInt = 3 then wrF iv c.toNatClampNeg else if w.toInt = 4 then sdN iv c.toNatClampNeg 5 else oF (sdN iv c.toNatClampNeg 5 - wrF iv c.toNatClampNeg)
theorem ds_0 {iv : Iv} {l d : Int} : (0 : Int32) = dsN iv l d (0 : Int32).toNatClampNeg := by
  rw [show (0 : Int32).toNatClampNeg = 0 from by decide]; rfl
theorem ds_up {iv : Iv} {l d : Int} {b x y : Int32} (h : y.toInt = x.toInt + 1) (h0 : 0 ≤ x.toInt) (i : b = dsN iv l d (x.toNatClampNeg + 1)) : b = dsN iv l d y.toNatClampNeg := by rw [clamp_s h h0]; exact i
theorem ds_y {iv : Iv} {l d : Int} {b : Int32} {n : Nat} (i : b = dsN iv l d n) (h : (¬ b.toInt = 0) ∨ ((iv 32 0 n).toInt = l ∧ (iv 33 0 n).toInt ≤ d ∧ d ≤ (iv 34 0 n).toInt)) : (1 : Int32) = dsN iv l d (n + 1) := by
  show _ = (if (¬ (dsN iv l d n).toInt = 0) ∨ ((iv 32 0 n).toInt = l ∧ (iv 33 0 n).toInt ≤ d ∧ d ≤ (iv 34 0 n).toInt) then 1 else 0)
  rw [← i, if_pos h]
theorem ds_n {iv : Iv} {l d : Int} {b : Int32} {n : Nat} (i : b = dsN iv l d n) (h : ¬ ((¬ b.toInt = 0) ∨ ((iv 32 0 n).toInt = l ∧ (iv 33 0 n).toInt ≤ d ∧ d ≤ (iv 34 0 n).toInt))) : (0 : Int32) = dsN iv l d (n + 1) := by
  show _ = (if (¬ (dsN iv l d n).toInt = 0) ∨ ((iv 32 0 n).toInt = l ∧ (iv 33 0 n).toInt ≤ d ∧ d ≤ (iv 34 0 n).toInt) then 1 else 0)
  rw [← i, if_neg h]
theorem ds_iff {iv : Iv} {l d : Int} : ∀ n : Nat, (¬ (dsN iv l d n).toInt = 0) ↔ ∃ k : Nat, k < n ∧ ((iv 32 0 k).toInt = l ∧ (iv 33 0 k).toInt ≤ d ∧ d ≤ (iv 34 0 k).toInt)
  | 0 => ⟨fun h => absurd (show (0 : Int32).toInt = 0 by decide) h, fun ⟨_, h, _⟩ => absurd h (Nat.not_lt_zero _)⟩
  | n + 1 => by
    have ih := ds_iff (iv := iv) (l := l) (d := d) n
    show (¬ (if (¬ (dsN iv l d n).toInt = 0) ∨ ((iv 32 0 n).toInt = l ∧ (iv 33 0 n).toInt ≤ d ∧ d ≤ (iv 34 0 n).toInt) then (1 : Int32) else 0).toInt = 0) ↔ _
    by_cases q : (¬ (dsN iv l d n).toInt = 0) ∨ ((iv 32 0 n).toInt = l ∧ (iv 33 0 n).toInt ≤ d ∧ d ≤ (iv 34 0 n).toInt)
    · rw [if_pos q]
      refine ⟨fun _ => ?_, fun _ => by decide⟩
      rcases q with q | q
      · obtain ⟨c, h1, h2⟩ := ih.mp q; exact ⟨c, by omega, h2⟩
      · exact ⟨n, Nat.lt_succ_self _, q⟩
    · rw [if_neg q]
      refine ⟨fun z => absurd (show (0 : Int32).toInt = 0 by decide) z, fun ⟨c, h1, h2⟩ => ?_⟩
      exfalso
      by_cases e : c = n
      · rw [e] at h2; exact q (Or.inr h2)
      · exact q (Or.inl (ih.mpr ⟨c, by omega, h2⟩))
theorem dr_0 {iv : Iv} {l A : Int} {x : Int32} (h : x.toInt = A) : (0 : Int32).toInt = drN iv l A (x.toInt - A).toNat := by
  rw [h, Int.sub_self]; show (0 : Int32).toInt = 0; decide
theorem dr_up {iv : Iv} {l A : Int} {n d d' s f n' : Int32} (i : n.toInt = drN iv l A (d.toInt - A).toNat) (hf : f = dsN iv l d.toInt (iv 0 0 37).toNatClampNeg) (hs : (s.toInt = 1 ∧ f.toInt = 0) ∨ (s.toInt = 0 ∧ ¬ f.toInt = 0)) (hn : n'.toInt = n.toInt + s.toInt) (hd : d'.toInt = d.toInt + 1) (hA : A ≤ d.toInt) : n'.toInt = drN iv l A (d'.toInt - A).toNat := by
  have e : (d'.toInt - A).toNat = (d.toInt - A).toNat + 1 := by omega
  rw [e]
  show _ = drN iv l A (d.toInt - A).toNat + (if (dsN iv l (A + ((d.toInt - A).toNat : Nat)) (iv 0 0 37).toNatClampNeg).toInt = 0 then 1 else 0)
  have k : A + (((d.toInt - A).toNat : Nat) : Int) = d.toInt := by omega
  rw [k, ← hf, ← i, hn]
  rcases hs with ⟨a, b⟩ | ⟨a, b⟩
  · rw [if_pos b, a]
  · rw [if_neg b, a]
theorem dr_end {iv : Iv} {l A D : Int} {n d : Int32} (i : n.toInt = drN iv l A (d.toInt - A).toNat) (h : D < d.toInt ∧ (d.toInt ≤ D + 1 ∨ d.toInt = A)) : n.toInt = drN iv l A (D - A + 1).toNat := by
  rw [i]
  have e : (d.toInt - A).toNat = (D - A + 1).toNat := by omega
  rw [e]
theorem dr_split {iv : Iv} {l a : Int} : ∀ m k : Nat, drN iv l a (m + k) = drN iv l a m + drN iv l (a + m) k
  | m, 0 => by show _ = _ + (0 : Int); rw [Int.add_zero]; rfl
  | m, k + 1 => by
    show drN iv l a (m + k) + (if (dsN iv l (a + ((m + k : Nat) : Int)) (iv 0 0 37).toNatClampNeg).toInt = 0 then 1 else 0) = drN iv l a m + (drN iv l (a + m) k + (if (dsN iv l (a + m + (k : Int)) (iv 0 0 37).toNatClampNeg).toInt = 0 then 1 else 0))
    rw [dr_split m k, show a + ((m + k : Nat) : Int) = a + m + (k : Int) by omega, Int.add_assoc]
theorem dr_free {iv : Iv} {l a : Int} : ∀ k : Nat, (∀ j : Nat, j < k → (dsN iv l (a + j) (iv 0 0 37).toNatClampNeg).toInt = 0) → drN iv l a k = k
  | 0, _ => rfl
  | k + 1, h => by
    show drN iv l a k + (if (dsN iv l (a + (k : Int)) (iv 0 0 37).toNatClampNeg).toInt = 0 then 1 else 0) = _
    rw [dr_free k (fun j hj => h j (by omega)), if_pos (h k (Nat.lt_succ_self _))]; omega
theorem dr_stop {iv : Iv} {l a : Int} : ∀ k : Nat, (∀ j : Nat, j < k → ¬ (dsN iv l (a + j) (iv 0 0 37).toNatClampNeg).toInt = 0) → drN iv l a k = 0
  | 0, _ => rfl
  | k + 1, h => by
    show drN iv l a k + (if (dsN iv l (a + (k : Int)) (iv 0 0 37).toNatClampNeg).toInt = 0 then 1 else 0) = _
    rw [dr_stop k (fun j hj => h j (by omega)), if_neg (h k (Nat.lt_succ_self _))]; rfl
def nxP (iv : Iv) (l d : Int) (r : Int32) (n : Nat) : Prop := (r.toInt = -9 ∧ ∀ k : Nat, k < n → ¬ ((iv 81 0 k).toInt = l ∧ d ≤ (iv 83 0 k).toInt)) ∨ ((0 ≤ r.toInt ∧ r.toNatClampNeg < n) ∧ ((iv 81 0 r.toNatClampNeg).toInt = l ∧ d ≤ (iv 83 0 r.toNatClampNeg).toInt) ∧ ∀ k : Nat, k < n → ((iv 81 0 k).toInt = l ∧ d ≤ (iv 83 0 k).toInt) → (iv 82 0 r.toNatClampNeg).toInt ≤ (iv 82 0 k).toInt)
theorem nx_0 {iv : Iv} {l d : Int} : nxP iv l d (-9) (0 : Int32).toNatClampNeg := Or.inl ⟨by decide, fun k hk => by rw [show (0 : Int32).toNatClampNeg = 0 from by decide] at hk; omega⟩
theorem nx_up {iv : Iv} {l d : Int} {r x y : Int32} (h : y.toInt = x.toInt + 1) (h0 : 0 ≤ x.toInt) (i : nxP iv l d r (x.toNatClampNeg + 1)) : nxP iv l d r y.toNatClampNeg := by rw [clamp_s h h0]; exact i
theorem nx_n {iv : Iv} {l d : Int} {r x : Int32} (i : nxP iv l d r x.toNatClampNeg) (h : ¬ ((iv 81 0 x.toNatClampNeg).toInt = l ∧ d ≤ (iv 83 0 x.toNatClampNeg).toInt) ∨ (¬ r.toInt = -9 ∧ (iv 82 0 r.toNatClampNeg).toInt ≤ (iv 82 0 x.toNatClampNeg).toInt)) : nxP iv l d r (x.toNatClampNeg + 1) := by
  generalize x.toNatClampNeg = n at i h
  rcases i with ⟨a, b⟩ | ⟨⟨a0, a1⟩, b, c⟩
  · refine Or.inl ⟨a, fun k hk z => ?_⟩
    by_cases e : k = n
    · rw [e] at z
      rcases h with h | h
      · exact h z
      · exact h.1 a
    · exact b k (by omega) z
  · refine Or.inr ⟨⟨a0, by omega⟩, b, fun k hk z => ?_⟩
    by_cases e : k = n
    · rw [e] at z ⊢
      rcases h with h | h
      · exact absurd z h
      · exact h.2
    · exact c k (by omega) z
theorem nx_y {iv : Iv} {l d : Int} {r x : Int32} (i : nxP iv l d r x.toNatClampNeg) (h : (iv 81 0 x.toNatClampNeg).toInt = l ∧ d ≤ (iv 83 0 x.toNatClampNeg).toInt) (h0 : 0 ≤ x.toInt) (hr : r.toInt = -9 ∨ (iv 82 0 x.toNatClampNeg).toInt < (iv 82 0 r.toNatClampNeg).toInt) : nxP iv l d x (x.toNatClampNeg + 1) := by
  refine Or.inr ⟨⟨h0, Nat.lt_succ_self _⟩, h, fun k hk z => ?_⟩
  by_cases e : k = x.toNatClampNeg
  · rw [e]; exact Int.le_refl _
  · rcases i with ⟨a, b⟩ | ⟨⟨a0, a1⟩, b, c⟩
    · exact absurd z (b k (by omega))
    · have := c k (by omega) z
      omega
theorem nx_end {iv : Iv} {l d : Int} {r x : Int32} (i : nxP iv l d r x.toNatClampNeg) (h : x.toInt = (iv 79 0 4).toInt) (_ : 0 ≤ x.toInt) : nxP iv l d r (iv 79 0 4).toInt.toNat := by
  have e : x.toNatClampNeg = (iv 79 0 4).toInt.toNat := by rw [clamp_n]; omega
  rw [← e]; exact i
theorem dsN_m {iv iv' : Iv} (h : MA iv iv') (l d : Int) : ∀ n : Nat, dsN iv' l d n = dsN iv l d n
  | 0 => rfl
  | n + 1 => by
    show (if (¬ (dsN iv' l d n).toInt = 0) ∨ ((iv' 32 0 n).toInt = l ∧ (iv' 33 0 n).toInt ≤ d ∧ d ≤ (iv' 34 0 n).toInt) then (1 : Int32) else 0) = (if (¬ (dsN iv l d n).toInt = 0) ∨ ((iv 32 0 n).toInt = l ∧ (iv 33 0 n).toInt ≤ d ∧ d ≤ (iv 34 0 n).toInt) then (1 : Int32) else 0)
    rw [dsN_m h l d n, h.1 32 _ (by decide) (by decide), h.1 33 _ (by decide) (by decide), h.1 34 _ (by decide) (by decide)]
theorem drN_m {iv iv' : Iv} (h : MA iv iv') (l a : Int) : ∀ n : Nat, drN iv' l a n = drN iv l a n
  | 0 => rfl
  | n + 1 => by
    show drN iv' l a n + (if (dsN iv' l (a + n) (iv' 0 0 37).toNatClampNeg).toInt = 0 then 1 else 0) = drN iv l a n + (if (dsN iv l (a + n) (iv 0 0 37).toNatClampNeg).toInt = 0 then 1 else 0)
    rw [drN_m h l a n, dsN_m h, h.2 _ (by decide)]
theorem cown_m {iv iv' : Iv} (h : MA iv iv') (c : Nat) : cown iv' c = cown iv c := by unfold cown; rw [h.1 35 _ (by decide) (by decide)]
theorem clw_m {iv iv' : Iv} (h : MA iv iv') (c : Nat) : clw iv' c = clw iv c := by unfold clw; rw [cown_m h, lw_m h, h.1 36 _ (by decide) (by decide)]
theorem caD_m {iv iv' : Iv} (h : MA iv iv') (c : Nat) : caD iv' c = caD iv c := by unfold caD; rw [cown_m h, thL_m h, h.1 10 _ (by decide) (by decide)]
theorem br_m {iv iv' : Iv} (h : MA iv iv') (c : Nat) : brF iv' c = brF iv c := by
  unfold brF; rw [clw_m h, caD_m h, drN_m h, h.1 31 _ (by decide) (by decide), h.1 36 _ (by decide) (by decide)]
theorem wr_m {iv iv' : Iv} (h : MA iv iv') (c : Nat) : wrF iv' c = wrF iv c := by
  unfold wrF; rw [br_m h, cown_m h, sm_m h, h.1 36 _ (by decide) (by decide)]
theorem coS_m {iv iv' : Iv} (h : MA iv iv') (c w : Int32) : coS iv' c w = coS iv c w := by
  unfold coS; rw [br_m h, wr_m h, sdN_m h, h.1 35 _ (by decide) (by decide), h.1 36 _ (by decide) (by decide), h.2 _ (by decide)]
theorem le37m {al : Al} {iv : Iv} {rv : Rv} (hG : GI al iv rv) : 0 ≤ (iv 0 0 37).toInt ∧ (iv 0 0 37).toInt ≤ 20 := hG.1 0 0 37 (h1_0 hG) (by decide)
theorem le37 {al : Al} {iv : Iv} {rv : Rv} (hG : GI al iv rv) : 0 ≤ (iv 79 0 4).toInt ∧ (iv 79 0 4).toInt ≤ 20 := hG.1 79 0 4 (h1_79 hG) (by decide)
-- how many STOPS are not over
def cSt (iv : Iv) (l d : Int) : Nat → Nat
  | 0 => 0
  | n + 1 => cSt iv l d n + (if (iv 81 0 n).toInt = l ∧ d ≤ (iv 83 0 n).toInt then 1 else 0)
theorem cSt_le {iv : Iv} {l d : Int} : ∀ n : Nat, cSt iv l d n ≤ n
  | 0 => Nat.le_refl _
  | n + 1 => by
    have := cSt_le (iv := iv) (l := l) (d := d) n
    show cSt iv l d n + (if (iv 81 0 n).toInt = l ∧ d ≤ (iv 83 0 n).toInt then 1 else 0) ≤ n + 1
    split <;> omega
theorem cSt_mono {iv : Iv} {l d e : Int} (h : d ≤ e) : ∀ n : Nat, cSt iv l e n ≤ cSt iv l d n
  | 0 => Nat.le_refl _
  | n + 1 => by
    have := cSt_mono (iv := iv) (l := l) h n
    show cSt iv l e n + (if (iv 81 0 n).toInt = l ∧ e ≤ (iv 83 0 n).toInt then 1 else 0) ≤ cSt iv l d n + (if (iv 81 0 n).toInt = l ∧ d ≤ (iv 83 0 n).toInt then 1 else 0)
    by_cases q : (iv 81 0 n).toInt = l ∧ e ≤ (iv 83 0 n).toInt
    · rw [if_pos q, if_pos ⟨q.1, by omega⟩]; omega
    · rw [if_neg q]; split <;> omega
theorem cSt_lt {iv : Iv} {l d e : Int} (h : d ≤ e) {k : Nat} (h1 : (iv 81 0 k).toInt = l ∧ d ≤ (iv 83 0 k).toInt) (h2 : ¬ e ≤ (iv 83 0 k).toInt) : ∀ n : Nat, k < n → cSt iv l e n + 1 ≤ cSt iv l d n
  | 0, hk => absurd hk (Nat.not_lt_zero _)
  | n + 1, hk => by
    have m := cSt_mono (iv := iv) (l := l) h n
    show cSt iv l e n + (if (iv 81 0 n).toInt = l ∧ e ≤ (iv 83 0 n).toInt then 1 else 0) + 1 ≤ cSt iv l d n + (if (iv 81 0 n).toInt = l ∧ d ≤ (iv 83 0 n).toInt then 1 else 0)
    by_cases q : k = n
    · subst q; rw [if_neg (fun z => h2 z.2), if_pos h1]; omega
    · have := cSt_lt h h1 h2 n (by omega)
      by_cases w : (iv 81 0 n).toInt = l ∧ e ≤ (iv 83 0 n).toInt
      · rw [if_pos w, if_pos ⟨w.1, by omega⟩]; omega
      · rw [if_neg w]; split <;> omega
theorem cSt_pos {iv : Iv} {l d : Int} {k : Nat} (h1 : (iv 81 0 k).toInt = l ∧ d ≤ (iv 83 0 k).toInt) : ∀ n : Nat, k < n → 1 ≤ cSt iv l d n
  | 0, hk => absurd hk (Nat.not_lt_zero _)
  | n + 1, hk => by
    show 1 ≤ cSt iv l d n + (if (iv 81 0 n).toInt = l ∧ d ≤ (iv 83 0 n).toInt then 1 else 0)
    by_cases q : k = n
    · subst q; rw [if_pos h1]; omega
    · have := cSt_pos h1 n (by omega); omega
def DR (iv : Iv) (l a b ran day i : Int) : Prop := ran = drN iv l a (min day (b + 1) - a).toNat ∧ a ≤ day ∧ (b < day ∨ i + cSt iv l day (iv 79 0 4).toInt.toNat ≤ (iv 79 0 4).toInt)
