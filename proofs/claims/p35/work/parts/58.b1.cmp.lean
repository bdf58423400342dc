def Cday (iv : Iv) (rv : Rv) : Prop := iv 0 0 0 = iv 49 0 9
abbrev T_Cday : List Nat := []
abbrev F_Cday : List (Nat × Nat) := [(0, 0), (49, 9)]
theorem Cday.keep {al : Al} {iv iv' : Iv} {rv rv' : Rv} (h : Cday iv rv) (hG : GI al iv rv) (e : KP T_Cday F_Cday al iv rv iv' rv') : Cday iv' rv' := by
  unfold Cday
  rw [(e 0 0 0 (h1_0 hG) (Or.inr (by decide))).1, (e 49 0 9 (h1_49 hG) (Or.inr (by decide))).1]; exact h
def Cland (iv : Iv) (rv : Rv) : Prop := ∀ k : Nat, k < 10 → iv 1 0 k = iv 56 k 1
abbrev T_Cland : List Nat := [1]
abbrev F_Cland : List (Nat × Nat) := [(56, 1)]
theorem Cland.keep {al : Al} {iv iv' : Iv} {rv rv' : Rv} (h : Cland iv rv) (hG : GI al iv rv) (e : KP T_Cland F_Cland al iv rv iv' rv') : Cland iv' rv' := by
  intro k hk
  have i6 : k < al.1 56 := by rw [hG.2.2.1.2.1]; exact hk
  rw [(e 1 0 k (h1_1 hG) (Or.inl (by decide))).1, (e 56 k 1 i6 (Or.inr (by decide))).1]; exact h k hk
def Cmile (iv : Iv) (rv : Rv) : Prop := ∀ a b : Nat, a < 10 → b < 10 → iv 2 0 (10 * a + b) = iv 55 a b
abbrev T_Cmile : List Nat := [2, 55]
abbrev F_Cmile : List (Nat × Nat) := []
theorem Cmile.keep {al : Al} {iv iv' : Iv} {rv rv' : Rv} (h : Cmile iv rv) (hG : GI al iv rv) (e : KP T_Cmile F_Cmile al iv rv iv' rv') : Cmile iv' rv' := by
  intro a b ha hb
  rw [(e 2 0 _ (h1_2 hG) (Or.inl (by decide))).1, (e 55 a b (by rw [hG.2.2.1.2.2.1]; exact ha) (Or.inl (by decide))).1]; exact h a b ha hb
theorem spMiles_ok {a b v : Int32} (h : spMiles a b v = 0) : (0 ≤ a.toInt ∧ a.toInt ≤ 9) ∧ (0 ≤ b.toInt ∧ b.toInt ≤ 9) := by
  unfold spMiles at h
  by_cases q : ¬ ((0 ≤ a.toInt ∧ a.toInt ≤ 9) ∧ (0 ≤ b.toInt ∧ b.toInt ≤ 9) ∧ ¬ a.toInt = b.toInt)
  · rw [if_pos q] at h; exact absurd h (by decide)
  · exact ⟨by omega, by omega⟩
def Claw (iv : Iv) (rv : Rv) : Prop := iv 0 0 24 = iv 68 0 5 ∧ (∀ k : Nat, iv 21 0 k = iv 69 0 k ∧ iv 22 0 k = iv 70 0 k ∧ iv 23 0 k = iv 71 0 k ∧ iv 24 0 k = iv 72 0 k ∧ iv 25 0 k = iv 73 0 k)
abbrev T_Claw : List Nat := [21, 22, 23, 24, 25, 69, 70, 71, 72, 73]
abbrev F_Claw : List (Nat × Nat) := [(0, 24), (68, 5)]
theorem Claw.keep {al : Al} {iv iv' : Iv} {rv rv' : Rv} (h : Claw iv rv) (hG : GI al iv rv) (e : KP T_Claw F_Claw al iv rv iv' rv') : Claw iv' rv' := by
  refine ⟨?_, fun k => ?_⟩
  · rw [(e 0 0 24 (h1_0 hG) (Or.inr (by decide))).1, (e 68 0 5 (h1_68 hG) (Or.inr (by decide))).1]; exact h.1
  · rw [(e 21 0 k (h1_21 hG) (Or.inl (by decide))).1, (e 22 0 k (h1_22 hG) (Or.inl (by decide))).1, (e 23 0 k (h1_23 hG) (Or.inl (by decide))).1, (e 24 0 k (h1_24 hG) (Or.inl (by decide))).1, (e 25 0 k (h1_25 hG) (Or.inl (by decide))).1, (e 69 0 k (h1_69 hG) (Or.inl (by decide))).1, (e 70 0 k (h1_70 hG) (Or.inl (by decide))).1, (e 71 0 k (h1_71 hG) (Or.inl (by decide))).1, (e 72 0 k (h1_72 hG) (Or.inl (by decide))).1, (e 73 0 k (h1_73 hG) (Or.inl (by decide))).1]; exact h.2 k
def Cexc (iv : Iv) (rv : Rv) : Prop := iv 0 0 30 = iv 68 0 11 ∧ (∀ k : Nat, iv 26 0 k = iv 74 0 k ∧ iv 27 0 k = iv 75 0 k ∧ iv 28 0 k = iv 76 0 k ∧ iv 29 0 k = iv 77 0 k ∧ iv 30 0 k = iv 78 0 k)
abbrev T_Cexc : List Nat := [26, 27, 28, 29, 30, 74, 75, 76, 77, 78]
abbrev F_Cexc : List (Nat × Nat) := [(0, 30), (68, 11)]
theorem Cexc.keep {al : Al} {iv iv' : Iv} {rv rv' : Rv} (h : Cexc iv rv) (hG : GI al iv rv) (e : KP T_Cexc F_Cexc al iv rv iv' rv') : Cexc iv' rv' := by
  refine ⟨?_, fun k => ?_⟩
  · rw [(e 0 0 30 (h1_0 hG) (Or.inr (by decide))).1, (e 68 0 11 (h1_68 hG) (Or.inr (by decide))).1]; exact h.1
  · rw [(e 26 0 k (h1_26 hG) (Or.inl (by decide))).1, (e 27 0 k (h1_27 hG) (Or.inl (by decide))).1, (e 28 0 k (h1_28 hG) (Or.inl (by decide))).1, (e 29 0 k (h1_29 hG) (Or.inl (by decide))).1, (e 30 0 k (h1_30 hG) (Or.inl (by decide))).1, (e 74 0 k (h1_74 hG) (Or.inl (by decide))).1, (e 75 0 k (h1_75 hG) (Or.inl (by decide))).1, (e 76 0 k (h1_76 hG) (Or.inl (by decide))).1, (e 77 0 k (h1_77 hG) (Or.inl (by decide))).1, (e 78 0 k (h1_78 hG) (Or.inl (by decide))).1]; exact h.2 k
def Cstop (iv : Iv) (rv : Rv) : Prop := iv 0 0 37 = iv 79 0 4 ∧ (∀ k : Nat, iv 32 0 k = iv 81 0 k ∧ iv 33 0 k = iv 82 0 k ∧ iv 34 0 k = iv 83 0 k)
abbrev T_Cstop : List Nat := [32, 33, 34, 81, 82, 83]
abbrev F_Cstop : List (Nat × Nat) := [(0, 37), (79, 4)]
theorem Cstop.keep {al : Al} {iv iv' : Iv} {rv rv' : Rv} (h : Cstop iv rv) (hG : GI al iv rv) (e : KP T_Cstop F_Cstop al iv rv iv' rv') : Cstop iv' rv' := by
  refine ⟨?_, fun k => ?_⟩
  · rw [(e 0 0 37 (h1_0 hG) (Or.inr (by decide))).1, (e 79 0 4 (h1_79 hG) (Or.inr (by decide))).1]; exact h.1
  · rw [(e 32 0 k (h1_32 hG) (Or.inl (by decide))).1, (e 33 0 k (h1_33 hG) (Or.inl (by decide))).1, (e 34 0 k (h1_34 hG) (Or.inl (by decide))).1, (e 81 0 k (h1_81 hG) (Or.inl (by decide))).1, (e 82 0 k (h1_82 hG) (Or.inl (by decide))).1, (e 83 0 k (h1_83 hG) (Or.inl (by decide))).1]; exact h.2 k
def Ccase (iv : Iv) (rv : Rv) : Prop := iv 0 0 48 = iv 90 0 6 ∧ (∀ k : Nat, iv 41 0 k = iv 91 0 k ∧ iv 42 0 k = iv 92 0 k ∧ iv 43 0 k = iv 93 0 k ∧ iv 44 0 k = iv 94 0 k ∧ iv 45 0 k = iv 95 0 k ∧ iv 46 0 k = iv 96 0 k)
abbrev T_Ccase : List Nat := [41, 42, 43, 44, 45, 46, 91, 92, 93, 94, 95, 96]
abbrev F_Ccase : List (Nat × Nat) := [(0, 48), (90, 6)]
theorem Ccase.keep {al : Al} {iv iv' : Iv} {rv rv' : Rv} (h : Ccase iv rv) (hG : GI al iv rv) (e : KP T_Ccase F_Ccase al iv rv iv' rv') : Ccase iv' rv' := by
  refine ⟨?_, fun k => ?_⟩
  · rw [(e 0 0 48 (h1_0 hG) (Or.inr (by decide))).1, (e 90 0 6 (h1_90 hG) (Or.inr (by decide))).1]; exact h.1
  · rw [(e 41 0 k (h1_41 hG) (Or.inl (by decide))).1, (e 42 0 k (h1_42 hG) (Or.inl (by decide))).1, (e 43 0 k (h1_43 hG) (Or.inl (by decide))).1, (e 44 0 k (h1_44 hG) (Or.inl (by decide))).1, (e 45 0 k (h1_45 hG) (Or.inl (by decide))).1, (e 46 0 k (h1_46 hG) (Or.inl (by decide))).1, (e 91 0 k (h1_91 hG) (Or.inl (by decide))).1, (e 92 0 k (h1_92 hG) (Or.inl (by decide))).1, (e 93 0 k (h1_93 hG) (Or.inl (by decide))).1, (e 94 0 k (h1_94 hG) (Or.inl (by decide))).1, (e 95 0 k (h1_95 hG) (Or.inl (by decide))).1, (e 96 0 k (h1_96 hG) (Or.inl (by decide))).1]; exact h.2 k
def Cmlr (iv : Iv) (rv : Rv) : Prop := ∀ k : Nat, 0 ≤ (iv 2 0 k).toInt ∧ (iv 2 0 k).toInt ≤ 9999
abbrev T_Cmlr : List Nat := [2]
abbrev F_Cmlr : List (Nat × Nat) := []
theorem Cmlr.keep {al : Al} {iv iv' : Iv} {rv rv' : Rv} (h : Cmlr iv rv) (hG : GI al iv rv) (e : KP T_Cmlr F_Cmlr al iv rv iv' rv') : Cmlr iv' rv' := by
  intro k
  rw [(e 2 0 k (h1_2 hG) (Or.inl (by decide))).1]; exact h k
theorem spMiles_v {a b v : Int32} (h : spMiles a b v = 0) : 0 ≤ v.toInt ∧ v.toInt ≤ 9999 := by
  unfold spMiles at h
  by_cases q : ¬ ((0 ≤ a.toInt ∧ a.toInt ≤ 9) ∧ (0 ≤ b.toInt ∧ b.toInt ≤ 9) ∧ ¬ a.toInt = b.toInt)
  · rw [if_pos q] at h; exact absurd h (by decide)
  · rw [if_neg q] at h
    by_cases q2 : v.toInt < 0
    · rw [if_pos q2] at h; exact absurd h (by decide)
    · rw [if_neg q2] at h
      by_cases q3 : 9999 < v.toInt
      · rw [if_pos q3] at h; exact absurd h (by decide)
      · omega
def BQ (iv : Iv) (rv : Rv) : Prop := BB iv rv ∧ Coff iv rv ∧ Claw iv rv ∧ Cexc iv rv ∧ Cland iv rv ∧ Cmile iv rv
theorem bq_fr {al : Al} {iv iv' : Iv} {rv rv' : Rv} (hG : GI al iv rv) (h : BQ iv rv) {md : Mo} (f : FR md iv iv') (g : FR md rv rv') (dClegn : RC T_Clegn F_Clegn md := by decide) (dClegf : RC T_Clegf F_Clegf md := by decide) (dCset : RC T_Cset F_Cset md := by decide) (dClog : RC T_Clog F_Clog md := by decide) (dCrt : RC T_Crt F_Crt md := by decide) (dCport : RC T_Cport F_Cport md := by decide) (dCcau : RC T_Ccau F_Ccau md := by decide) (dCtkn : RC T_Ctkn F_Ctkn md := by decide) (dCtick : RC T_Ctick F_Ctick md := by decide) (dCoff : RC T_Coff F_Coff md := by decide) (dClaw : RC T_Claw F_Claw md := by decide) (dCexc : RC T_Cexc F_Cexc md := by decide) (dCland : RC T_Cland F_Cland md := by decide) (dCmile : RC T_Cmile F_Cmile md := by decide) : BQ iv' rv' := ⟨⟨⟨⟨⟨Clegn.keep h.1.1.1.1.1 hG (KP.fr f g dClegn), Clegf.keep h.1.1.1.1.2.1 hG (KP.fr f g dClegf), Cset.keep h.1.1.1.1.2.2 hG (KP.fr f g dCset)⟩, Clog.keep h.1.1.1.2.1 hG (KP.fr f g dClog), Crt.keep h.1.1.1.2.2.1 hG (KP.fr f g dCrt), Cport.keep h.1.1.1.2.2.2 hG (KP.fr f g dCport)⟩, Ccau.keep h.1.1.2 hG (KP.fr f g dCcau)⟩, Ctkn.keep h.1.2.1 hG (KP.fr f g dCtkn), Ctick.keep h.1.2.2 hG (KP.fr f g dCtick)⟩, Coff.keep h.2.1 hG (KP.fr f g dCoff), Claw.keep h.2.2.1 hG (KP.fr f g dClaw), Cexc.keep h.2.2.2.1 hG (KP.fr f g dCexc), Cland.keep h.2.2.2.2.1 hG (KP.fr f g dCland), Cmile.keep h.2.2.2.2.2 hG (KP.fr f g dCmile)⟩
theorem lw_t {iv : Iv} {rv : Rv} (h : Claw iv rv) (k : Nat) : (iv 21 0 k).toInt = (iv 69 0 k).toInt ∧ (iv 22 0 k).toInt = (iv 70 0 k).toInt ∧ (iv 23 0 k).toInt = (iv 71 0 k).toInt ∧ (iv 24 0 k).toInt = (iv 72 0 k).toInt ∧ (iv 25 0 k).toInt = (iv 73 0 k).toInt := by
  obtain ⟨a, b, c, d, e⟩ := h.2 k
  rw [a, b, c, d, e]; exact ⟨rfl, rfl, rfl, rfl, rfl⟩
theorem xc_t {iv : Iv} {rv : Rv} (h : Cexc iv rv) (k : Nat) : (iv 26 0 k).toInt = (iv 74 0 k).toInt ∧ (iv 27 0 k).toInt = (iv 75 0 k).toInt ∧ (iv 28 0 k).toInt = (iv 76 0 k).toInt ∧ (iv 29 0 k).toInt = (iv 77 0 k).toInt ∧ (iv 30 0 k).toInt = (iv 78 0 k).toInt := by
  obtain ⟨a, b, c, d, e⟩ := h.2 k
  rw [a, b, c, d, e]; exact ⟨rfl, rfl, rfl, rfl, rfl⟩
theorem ld_rw {iv : Iv} {rv : Rv} {t j : Nat} (htk : tkk iv rv t) (e : rv 65 t 1 = some j) : j = rwL iv t 0 := Option.some.inj (e.symm.trans htk.2.2.2.1)
theorem ld_p {al : Al} {iv : Iv} {rv : Rv} (hG : GI al iv rv) (h : Cland iv rv) {p : Nat} {a x : Int32} (hp : (p : Int) = a.toInt) (h9 : a.toInt ≤ 9) (e : x = iv 56 p 1) : x = iv 1 0 a.toNatClampNeg := by
  have c : a.toNatClampNeg = p := by rw [clamp_n]; omega
  rw [c, e]; exact (h p (by omega)).symm
theorem ld_first {al : Al} {iv : Iv} {rv : Rv} (hG : GI al iv rv) (h : BQ iv rv) {t j p : Nat} {x : Int32} (htk : tkk iv rv t) (e1 : rv 65 t 1 = some j) (e2 : rv 62 j 1 = some p) (e : x = iv 56 p 1) (hj : j < al.1 62 := by assumption) : x = iv 1 0 (iv 5 0 (rwL iv t 0)).toNatClampNeg := by
  have c := rng5 hG (Nat.lt_of_lt_of_le hj (al62 hG))
  have q := lf_fr hG h.1.1.1.1.2.1 hj e2
  rw [← ld_rw htk e1]
  exact ld_p hG h.2.2.2.2.1 q c.1.2 e
theorem ld_last {al : Al} {iv : Iv} {rv : Rv} (hG : GI al iv rv) (h : BQ iv rv) {t j p : Nat} {x : Int32} (ht : t < al.1 65) (htk : tkk iv rv t) (e1 : rv 65 t 2 = some j) (e2 : rv 62 j 2 = some p) (e : x = iv 56 p 1) : x = iv 1 0 (iv 6 0 (thL iv t)).toNatClampNeg := by
  have hj := (hG.2.1 65 t 2 62 ht (by decide) rfl).1 _ e1
  have c := rng5 hG (Nat.lt_of_lt_of_le hj (al62 hG))
  have q := lf_to hG h.1.1.1.1.2.1 hj rfl e2
  rw [← sx_last htk e1]
  exact ld_p hG h.2.2.2.2.1 q c.2.2 e
theorem ld_lv {al : Al} {iv : Iv} {rv : Rv} (hG : GI al iv rv) (h : BM iv rv) {t j : Nat} {x : Int32} (ht : t < al.1 65) (htk : tkk iv rv t) (e1 : rv 65 t 1 = some j) (e : x = iv 62 j 5) : x = iv 9 0 (rwL iv t 0) := by
  have hj := (hG.2.1 65 t 1 62 ht (by decide) rfl).1 _ e1
  rw [← ld_rw htk e1, e, lf_lv hG h.1.1.2.1 hj]
theorem ml_x {al : Al} {iv : Iv} {rv : Rv} (hG : GI al iv rv) (h : BQ iv rv) {t j p q o : Nat} (ht : t < al.1 65) (htk : tkk iv rv t) (e1 : rv 65 t 1 = some j) (e2 : rv 62 j 1 = some p) (e3 : rv 65 t 2 = some q) (e4 : rv 62 q 2 = some o) : iv 55 p o = miF iv t := by
  have hj := (hG.2.1 65 t 1 62 ht (by decide) rfl).1 _ e1
  have hq := (hG.2.1 65 t 2 62 ht (by decide) rfl).1 _ e3
  have c := rng5 hG (Nat.lt_of_lt_of_le hj (al62 hG))
  have c' := rng5 hG (Nat.lt_of_lt_of_le hq (al62 hG))
  have a := lf_fr hG h.1.1.1.1.2.1 hj e2
  have b := lf_to hG h.1.1.1.1.2.1 hq rfl e4
  unfold miF
  rw [← ld_rw htk e1, ← sx_last htk e3]
  have d1 : (iv 5 0 j).toNatClampNeg = p := by rw [clamp_n]; omega
  have d2 : (iv 6 0 q).toNatClampNeg = o := by rw [clamp_n]; omega
  rw [d1, d2]; exact (h.2.2.2.2.2 p o (by omega) (by omega)).symm
theorem sf_ex {iv iv1 : Iv} {t : Nat} {d lw bl ld r : Int32} (h : r = exN iv1 lw.toInt bl.toInt ld.toInt (iv1 0 0 30).toNatClampNeg) (hd : ld = iv1 9 0 (rwL iv1 t 0) / 1440) (hb : bl = blF iv t) (hl : lw = lwF iv t d) (m : MA iv iv1) : r = exF iv t d := by
  unfold exF
  rw [h, hd, hb, hl, exN_m m, rwL_m m, m.1 9 _ (by decide) (by decide), m.2 _ (by decide)]
theorem sf_gs {iv iv1 : Iv} {t : Nat} {d lw ho mi r : Int32} (h : r = gsN iv1 lw.toInt d.toInt ho.toInt mi.toInt (iv1 0 0 24).toNatClampNeg) (hl : lw = lwF iv t d) (hh : ho = hoF iv t) (hm : mi = miF iv t) (m : MA iv iv1) : r = gsN iv (lwF iv t d).toInt d.toInt (hoF iv t).toInt (miF iv t).toInt (iv 0 0 24).toNatClampNeg := by
  rw [h, hl, hh, hm, gsN_m m, m.2 _ (by decide)]
