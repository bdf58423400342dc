def Cord (iv : Iv) (rv : Rv) : Prop := ∀ k : Nat, (k : Int) < (iv 79 0 4).toInt → (iv 82 0 k).toInt ≤ (iv 83 0 k).toInt
abbrev T_Cord : List Nat := [82, 83]
abbrev F_Cord : List (Nat × Nat) := [(79, 4)]
theorem Cord.keep {al : Al} {iv iv' : Iv} {rv rv' : Rv} (h : Cord iv rv) (hG : GI al iv rv) (e : KP T_Cord F_Cord al iv rv iv' rv') : Cord iv' rv' := by
  intro k hk
  rw [(e 79 0 4 (h1_79 hG) (Or.inr (by decide))).1] at hk
  rw [(e 82 0 k (h1_82 hG) (Or.inl (by decide))).1, (e 83 0 k (h1_83 hG) (Or.inl (by decide))).1]; exact h k hk
theorem spStop_ok {l a b : Int32} {n : Int} (h : spStop l a b n = 0) : a.toInt ≤ b.toInt := by
  unfold spStop at h
  by_cases q : ¬ (0 ≤ l.toInt ∧ l.toInt ≤ 3)
  · rw [if_pos q] at h; exact absurd h (by decide)
  · rw [if_neg q] at h
    by_cases q2 : a.toInt < 0 ∨ b.toInt < a.toInt
    · rw [if_pos q2] at h; exact absurd h (by decide)
    · omega
def BX (iv : Iv) (rv : Rv) : Prop := BQ iv rv ∧ Cbar iv rv ∧ Cstop iv rv ∧ Cclm iv rv
def BV (iv : Iv) (rv : Rv) : Prop := BX iv rv ∧ Cpay iv rv
theorem st_t {iv : Iv} {rv : Rv} (h : Cstop iv rv) (k : Nat) : (iv 32 0 k).toInt = (iv 81 0 k).toInt ∧ (iv 33 0 k).toInt = (iv 82 0 k).toInt ∧ (iv 34 0 k).toInt = (iv 83 0 k).toInt := by
  obtain ⟨a, b, c⟩ := h.2 k
  rw [a, b, c]; exact ⟨rfl, rfl, rfl⟩
theorem nx_ge {iv : Iv} {rv : Rv} {l d : Int} {r : Int32} (h : nxP iv l d r (iv 79 0 4).toInt.toNat) (hO : Cord iv rv) : r.toInt = -9 ∨ ((0 ≤ r.toInt ∧ r.toInt < (iv 79 0 4).toInt) ∧ d ≤ (iv 83 0 r.toNatClampNeg).toInt ∧ (iv 82 0 r.toNatClampNeg).toInt ≤ (iv 83 0 r.toNatClampNeg).toInt) := by
  rcases h with ⟨a, _⟩ | ⟨⟨a0, a1⟩, b, _⟩
  · exact Or.inl a
  · have c : r.toNatClampNeg = r.toInt.toNat := clamp_n
    exact Or.inr ⟨⟨a0, by omega⟩, b.2, hO _ (by omega)⟩
theorem dR_0 {iv : Iv} {rv : Rv} (_ : Cstop iv rv) {l a b : Int} (h0 : 0 ≤ (iv 79 0 4).toInt := by omega) : DR iv l a b (0 : Int32).toInt a (0 : Int32).toInt := by
  have z : (0 : Int32).toInt = 0 := by decide
  rw [z]
  have c := cSt_le (iv := iv) (l := l) (d := a) (iv 79 0 4).toInt.toNat
  refine ⟨?_, Int.le_refl _, ?_⟩
  · by_cases q : a ≤ b + 1
    · rw [show (min a (b + 1) - a).toNat = 0 by omega]; rfl
    · rw [show (min a (b + 1) - a).toNat = 0 by omega]; rfl
  · exact Or.inr (by omega)
theorem ds_cl {iv : Iv} {rv : Rv} (h : Cstop iv rv) {l d : Int} : (¬ (dsN iv l d (iv 0 0 37).toNatClampNeg).toInt = 0) ↔ ∃ k : Nat, k < (iv 79 0 4).toInt.toNat ∧ ((iv 81 0 k).toInt = l ∧ (iv 82 0 k).toInt ≤ d ∧ d ≤ (iv 83 0 k).toInt) := by
  rw [ds_iff]
  have e : (iv 0 0 37).toNatClampNeg = (iv 79 0 4).toInt.toNat := by rw [h.1]; rfl
  rw [e]
  constructor
  · rintro ⟨k, h1, h2⟩
    have t := st_t h k
    exact ⟨k, h1, by omega⟩
  · rintro ⟨k, h1, h2⟩
    have t := st_t h k
    exact ⟨k, h1, by omega⟩
theorem dR_step {iv : Iv} {rv : Rv} (h : Cstop iv rv) (hO : Cord iv rv) {l a b i' ran' : Int} {ran day i nx sf day' : Int32} (d : DR iv l a b ran.toInt day.toInt i.toInt) (hn : nxP iv l day.toInt nx (iv 79 0 4).toInt.toNat) (hb : day.toInt ≤ b) (hr : ran' = ran.toInt + max 0 (sf.toInt - day.toInt)) (hi : i' = i.toInt + 1)
    (hs : (nx.toInt = -9 ∧ sf.toInt = b + 1) ∨ (0 ≤ nx.toInt ∧ sf.toInt = min (iv 82 0 nx.toNatClampNeg).toInt (b + 1))) (hd : (nx.toInt = -9 ∧ day'.toInt = b + 1) ∨ (0 ≤ nx.toInt ∧ day'.toInt = (iv 83 0 nx.toNatClampNeg).toInt + 1)) (_ : True := trivial) : DR iv l a b ran' day'.toInt i' := by
  obtain ⟨d1, d2, d3⟩ := d
  have free : ∀ x : Int, day.toInt ≤ x → (∀ k : Nat, k < (iv 79 0 4).toInt.toNat → ((iv 81 0 k).toInt = l ∧ day.toInt ≤ (iv 83 0 k).toInt) → x < (iv 82 0 k).toInt) → (dsN iv l x (iv 0 0 37).toNatClampNeg).toInt = 0 := fun x hx hk => by
    by_cases z : (dsN iv l x (iv 0 0 37).toNatClampNeg).toInt = 0
    · exact z
    · obtain ⟨k, k1, k2⟩ := (ds_cl h).mp z
      have := hk k k1 ⟨k2.1, by omega⟩
      omega
  have split : ∀ y : Int, day.toInt ≤ y → drN iv l a (y - a).toNat = drN iv l a (day.toInt - a).toNat + drN iv l day.toInt (y - day.toInt).toNat := fun y hy => by
    have := dr_split (iv := iv) (l := l) (a := a) (day.toInt - a).toNat (y - day.toInt).toNat
    rw [show (day.toInt - a).toNat + (y - day.toInt).toNat = (y - a).toNat by omega, show a + (((day.toInt - a).toNat : Nat) : Int) = day.toInt by omega] at this
    exact this
  rw [show min day.toInt (b + 1) = day.toInt by omega] at d1
  rcases hn with ⟨n1, n2⟩ | ⟨⟨n0, n1⟩, n2, n3⟩
  · have s1 : sf.toInt = b + 1 := by omega
    have s2 : day'.toInt = b + 1 := by omega
    refine ⟨?_, by omega, Or.inl (by omega)⟩
    have u1 := dr_free (iv := iv) (l := l) (a := day.toInt) (b + 1 - day.toInt).toNat (fun j hj => free _ (by omega) (fun k k1 k2 => absurd k2 (n2 k k1)))
    rw [s2, show min (b + 1) (b + 1) = b + 1 by omega, split (b + 1) (by omega), hr, d1, u1]
    omega
  · have s1 : sf.toInt = min (iv 82 0 nx.toNatClampNeg).toInt (b + 1) := by omega
    have s2 : day'.toInt = (iv 83 0 nx.toNatClampNeg).toInt + 1 := by omega
    have m := cSt_lt (iv := iv) (l := l) (d := day.toInt) (e := day'.toInt) (by omega) n2 (by omega) (iv 79 0 4).toInt.toNat n1
    refine ⟨?_, by omega, ?_⟩
    · rw [split (min day'.toInt (b + 1)) (by omega), hr, d1]
      by_cases q : day.toInt ≤ min (iv 82 0 nx.toNatClampNeg).toInt (b + 1)
      · have u := dr_split (iv := iv) (l := l) (a := day.toInt) (sf.toInt - day.toInt).toNat (min day'.toInt (b + 1) - sf.toInt).toNat
        by_cases w : (iv 82 0 nx.toNatClampNeg).toInt ≤ day'.toInt
        · rw [show (sf.toInt - day.toInt).toNat + (min day'.toInt (b + 1) - sf.toInt).toNat = (min day'.toInt (b + 1) - day.toInt).toNat by omega, show day.toInt + (((sf.toInt - day.toInt).toNat : Nat) : Int) = sf.toInt by omega] at u
          have u1 := dr_free (iv := iv) (l := l) (a := day.toInt) (sf.toInt - day.toInt).toNat (fun j hj => free _ (by omega) (fun k k1 k2 => by have := n3 k k1 k2; omega))
          have u2 := dr_stop (iv := iv) (l := l) (a := sf.toInt) (min day'.toInt (b + 1) - sf.toInt).toNat (fun j hj => (ds_cl h).mpr ⟨nx.toNatClampNeg, n1, n2.1, by omega, by omega⟩)
          rw [u, u1, u2]
          omega
        · exfalso
          have e1 := hO nx.toNatClampNeg (by omega)
          omega
      · have u2 := dr_stop (iv := iv) (l := l) (a := day.toInt) (min day'.toInt (b + 1) - day.toInt).toNat (fun j hj => (ds_cl h).mpr ⟨nx.toNatClampNeg, n1, n2.1, by omega, by omega⟩)
        rw [u2]
        omega
    · by_cases w : b < day'.toInt
      · exact Or.inl w
      · exact Or.inr (by omega)
theorem dR_end {iv : Iv} {rv : Rv} (_ : Cstop iv rv) {l a b : Int} {ran day i : Int32} (d : DR iv l a b ran.toInt day.toInt i.toInt) (h : (iv 79 0 4).toInt < i.toInt ∨ b < day.toInt) : ran.toInt = drN iv l a (b - a + 1).toNat := by
  obtain ⟨d1, d2, d3⟩ := d
  have w : b < day.toInt := by omega
  rw [d1, show (min day.toInt (b + 1) - a).toNat = (b - a + 1).toNat by omega]
theorem ad_ar {al : Al} {iv : Iv} {rv : Rv} (hG : GI al iv rv) (h : BM iv rv) {t j : Nat} {x : Int32} (ht : t < al.1 65) (htk : tkk iv rv t) (e1 : rv 65 t 2 = some j) (e : x = iv 62 j 6) : x = iv 10 0 (thL iv t) := by
  have hj := (hG.2.1 65 t 2 62 ht (by decide) rfl).1 _ e1
  exact sx_ar hG h hj (sx_last htk e1) e
theorem cw_t {al : Al} {iv : Iv} {rv : Rv} (hG : GI al iv rv) (h : BX iv rv) {c j : Nat} (hc : c < al.1 88) (e : rv 88 c 0 = some j) : j = cown iv c := Option.some.inj (e.symm.trans (h.2.2.2.2.1 c (by rw [hG.2.2.2.2.2.1.2]; omega)).1)
theorem cw_d {al : Al} {iv : Iv} {rv : Rv} (hG : GI al iv rv) (h : BX iv rv) {c : Nat} {x : Int32} (hc : c < al.1 88) (e : x = iv 88 c 1) : x = iv 36 0 c := e.trans (h.2.2.2.2.1 c (by rw [hG.2.2.2.2.2.1.2]; omega)).2.symm
theorem cw_b {iv : Iv} {rv : Rv} (h : BX iv rv) {x y : Int32} (e : x = iv 80 0 y.toNatClampNeg) (h0 : 0 ≤ y.toInt) (h1 : y.toInt ≤ 3) : x = iv 31 0 y.toNatClampNeg := e.trans (h.2.1 _ (by rw [clamp_n]; omega)).symm
theorem cw_n {al : Al} {iv : Iv} {rv : Rv} (hG : GI al iv rv) (h : BX iv rv) {c j : Nat} {x : Int32} (hc : c < al.1 88) (hj : j < al.1 65) (ej : j = cown iv c) (e : x = iv 65 j 0) : x = iv 35 0 c := by
  have n := hG.2.2.2.2.1.2
  have a := (h.1.1.2.2 j (by omega)).2.2.2.2.2
  have l41 := hG.2.2.2.2.2.1.2
  have le : al.1 88 ≤ 30 := by
    have b : (iv 84 0 1).toInt ≤ 30 := (hG.1 84 0 1 (h1_84 hG) (by decide)).2
    omega
  have r : 0 ≤ (iv 35 0 c).toInt := (hG.1 35 0 c (h1_35 hG) (by show c < 30; omega)).1
  have k : cown iv c = (iv 35 0 c).toInt.toNat := clamp_n
  exact (fa_eq _ _).mpr (by rw [e]; omega)
theorem cw_s {iv : Iv} {rv : Rv} (h : BV iv rv) {c n : Nat} {x : Int32} (e : x = iv 88 c 3) (hc : c = n) (hl : (c : Int) < (iv 84 0 1).toInt) : x = sdN iv n 5 := by
  subst hc; rw [e]; exact h.2.2.1 c hl
theorem cw_1 {iv : Iv} {c : Nat} {lw ad y b dd r : Int32} (hl : lw = lwF iv (cown iv c) (iv 36 0 c)) (_ : lw.toInt = -9 ∨ 0 ≤ lw.toInt) (h0 : 0 ≤ lw.toInt) (hr : r.toInt = drN iv lw.toInt y.toInt (dd.toInt - y.toInt + 1).toNat) (had : ad.toInt = (iv 10 0 (thL iv (cown iv c)) / 1440).toInt) (hdd : dd.toInt = (iv 36 0 c).toInt) (hb : b.toInt = (iv 31 0 (lwF iv (cown iv c) (iv 36 0 c)).toNatClampNeg).toInt) (hc : y.toInt = ad.toInt + 1 ∧ b.toInt < r.toInt) : (1 : Int32) = brF iv c := by
  unfold brF clw caD
  rw [← hl, if_neg (by omega), ← had, ← hdd, ← hc.1, ← hr]
  rw [← hl] at hb
  rw [if_pos (by omega)]
theorem cw_0 {iv : Iv} {c : Nat} {lw ad y b dd r : Int32} (hl : lw = lwF iv (cown iv c) (iv 36 0 c)) (_ : lw.toInt = -9 ∨ 0 ≤ lw.toInt) (h0 : 0 ≤ lw.toInt) (hr : r.toInt = drN iv lw.toInt y.toInt (dd.toInt - y.toInt + 1).toNat) (had : ad.toInt = (iv 10 0 (thL iv (cown iv c)) / 1440).toInt) (hdd : dd.toInt = (iv 36 0 c).toInt) (hb : b.toInt = (iv 31 0 (lwF iv (cown iv c) (iv 36 0 c)).toNatClampNeg).toInt) (hc : y.toInt = ad.toInt + 1 ∧ ¬ b.toInt < r.toInt) : (0 : Int32) = brF iv c := by
  unfold brF clw caD
  rw [← hl, if_neg (by omega), ← had, ← hdd, ← hc.1, ← hr]
  rw [← hl] at hb
  rw [if_neg (by omega)]
