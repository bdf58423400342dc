theorem bt_fr {al : Al} {iv iv' : Iv} {rv rv' : Rv} (hG : GI al iv rv) (h : BT iv rv) {md : Mo} (f : FR md iv iv') (g : FR md rv rv') (dClegn : RC T_Clegn F_Clegn md := by decide) (dClegf : RC T_Clegf F_Clegf md := by decide) (dCset : RC T_Cset F_Cset md := by decide) (dCtkn : RC T_Ctkn F_Ctkn md := by decide) (dCtick : RC T_Ctick F_Ctick md := by decide) : BT iv' rv' := ⟨Clegn.keep h.1 hG (KP.fr f g dClegn), Clegf.keep h.2.1 hG (KP.fr f g dClegf), Cset.keep h.2.2.1 hG (KP.fr f g dCset), Ctkn.keep h.2.2.2.1 hG (KP.fr f g dCtkn), Ctick.keep h.2.2.2.2 hG (KP.fr f g dCtick)⟩
theorem bx_fr {al : Al} {iv iv' : Iv} {rv rv' : Rv} (hG : GI al iv rv) (h : BX iv rv) {md : Mo} (f : FR md iv iv') (g : FR md rv rv') (dClegn : RC T_Clegn F_Clegn md := by decide) (dClegf : RC T_Clegf F_Clegf md := by decide) (dCset : RC T_Cset F_Cset md := by decide) (dClog : RC T_Clog F_Clog md := by decide) (dCrt : RC T_Crt F_Crt md := by decide) (dCport : RC T_Cport F_Cport md := by decide) (dCcau : RC T_Ccau F_Ccau md := by decide) (dCtkn : RC T_Ctkn F_Ctkn md := by decide) (dCtick : RC T_Ctick F_Ctick md := by decide) (dCoff : RC T_Coff F_Coff md := by decide) (dClaw : RC T_Claw F_Claw md := by decide) (dCexc : RC T_Cexc F_Cexc md := by decide) (dCland : RC T_Cland F_Cland md := by decide) (dCmile : RC T_Cmile F_Cmile md := by decide) (dCbar : RC T_Cbar F_Cbar md := by decide) (dCstop : RC T_Cstop F_Cstop md := by decide) (dCclm : RC T_Cclm F_Cclm md := by decide) : BX iv' rv' := ⟨⟨⟨⟨⟨⟨Clegn.keep h.1.1.1.1.1.1 hG (KP.fr f g dClegn), Clegf.keep h.1.1.1.1.1.2.1 hG (KP.fr f g dClegf), Cset.keep h.1.1.1.1.1.2.2 hG (KP.fr f g dCset)⟩, Clog.keep h.1.1.1.1.2.1 hG (KP.fr f g dClog), Crt.keep h.1.1.1.1.2.2.1 hG (KP.fr f g dCrt), Cport.keep h.1.1.1.1.2.2.2 hG (KP.fr f g dCport)⟩, Ccau.keep h.1.1.1.2 hG (KP.fr f g dCcau)⟩, Ctkn.keep h.1.1.2.1 hG (KP.fr f g dCtkn), Ctick.keep h.1.1.2.2 hG (KP.fr f g dCtick)⟩, Coff.keep h.1.2.1 hG (KP.fr f g dCoff), Claw.keep h.1.2.2.1 hG (KP.fr f g dClaw), Cexc.keep h.1.2.2.2.1 hG (KP.fr f g dCexc), Cland.keep h.1.2.2.2.2.1 hG (KP.fr f g dCland), Cmile.keep h.1.2.2.2.2.2 hG (KP.fr f g dCmile)⟩, Cbar.keep h.2.1 hG (KP.fr f g dCbar), Cstop.keep h.2.2.1 hG (KP.fr f g dCstop), Cclm.keep h.2.2.2 hG (KP.fr f g dCclm)⟩
theorem ch_fin {al : Al} {iv iv3 iv4 iv5 : Iv} {rv : Rv} {ci : Nat} {lw bl ho mi K : Int32} {m3 m4 : Mo} (hG : GI al iv rv) (hc : Ccase iv rv) (hm : Cmlr iv rv) (hlw : lw = clw iv ci) (hbl : bl = blF iv (cown iv ci)) (hho : ho = hoF iv (cown iv ci)) (hmi : mi = miF iv (cown iv ci)) (f3 : ∀ t i k, ¬ MD m3 t k → iv3 t i k = iv t i k) (f4 : ∀ t i k, ¬ MD m4 t k → iv4 t i k = iv t i k)
    (me : ∀ k : Nat, (k : Int) < (iv3 90 0 6).toInt → iv4 97 0 k = msR iv3 lw bl ho mi k)
    (ch : ∃ a : Nat → Nat, 0 ≤ (iv5 90 0 8).toInt ∧ LK (chP iv4) (fun k => iv4 97 0 k) (iv4 90 0 6).toNatClampNeg K.toNatClampNeg a (iv5 90 0 8).toNatClampNeg ∧ iv5 90 0 9 = wnG (fun k => iv4 95 0 k) a (iv5 90 0 8).toNatClampNeg ∧ iv5 90 0 10 = ctG (fun k => iv4 96 0 k) a (iv5 90 0 8).toNatClampNeg) (hK : K = iv 15 0 3)
    (n3 : ¬ MD m3 90 6 ∧ ∀ k, ¬ MD m3 91 k ∧ ¬ MD m3 92 k ∧ ¬ MD m3 93 k ∧ ¬ MD m3 94 k := by exact ⟨by decide, fun k => ⟨MD.no (by decide), MD.no (by decide), MD.no (by decide), MD.no (by decide)⟩⟩) (n4 : ¬ MD m4 90 6 ∧ ∀ k, ¬ MD m4 95 k ∧ ¬ MD m4 96 k := by exact ⟨by decide, fun k => ⟨MD.no (by decide), MD.no (by decide)⟩⟩) :
    ∃ a : Nat → Nat, 0 ≤ (iv5 90 0 8).toInt ∧ LKc iv ci a (iv5 90 0 8).toNatClampNeg ∧ iv5 90 0 9 = wnG (fun k => iv 45 0 k) a (iv5 90 0 8).toNatClampNeg ∧ iv5 90 0 10 = ctG (fun k => iv 46 0 k) a (iv5 90 0 8).toNatClampNeg := by
  obtain ⟨a, c1, c2, c3, c4⟩ := ch
  have w : (fun k => iv4 95 0 k) = (fun k => iv 45 0 k) := funext (fun k => by rw [f4 95 0 k (n4.2 k).1]; exact (hc.2 k).2.2.2.2.1.symm)
  have z : (fun k => iv4 96 0 k) = (fun k => iv 46 0 k) := funext (fun k => by rw [f4 96 0 k (n4.2 k).2]; exact (hc.2 k).2.2.2.2.2.symm)
  rw [w] at c3
  rw [z] at c4
  refine ⟨a, c1, ?_, c3, c4⟩
  have e6 : iv4 90 0 6 = iv 0 0 48 := (f4 90 0 6 n4.1).trans hc.1.symm
  have e63 : iv3 90 0 6 = iv 0 0 48 := (f3 90 0 6 n3.1).trans hc.1.symm
  rw [e6, hK] at c2
  unfold LKc
  refine LK.cong (fun k hk => ?_) c2
  have l48 := le48 hG
  have k40 : k < 40 := by rw [clamp_n] at hk; omega
  have me' := me k (by rw [e63]; rw [clamp_n] at hk; omega)
  obtain ⟨h1, h2, h3, h4, -, -⟩ := hc.2 k
  have g43 : 0 ≤ (iv 43 0 k).toInt ∧ (iv 43 0 k).toInt ≤ 9999 := hG.1 43 0 k (h1_43 hG) k40
  have g44 : 0 ≤ (iv 44 0 k).toInt ∧ (iv 44 0 k).toInt ≤ 9999 := hG.1 44 0 k (h1_44 hG) k40
  have gm : 0 ≤ (miF iv (cown iv ci)).toInt ∧ (miF iv (cown iv ci)).toInt ≤ 9999 := hm _
  have gh := ho_nn (iv := iv) (t := cown iv ci)
  have rh := fb_rng (hoF iv (cown iv ci))
  have nn := fr_nn (t := cown iv ci) g43 gm g44
  have ms : iv4 97 0 k = if lkP iv ci k then frF iv (cown iv ci) k else -1 := by
    rw [me']
    unfold msR
    have ec : msC iv3 lw bl k = lkP iv ci k := by
      show ((iv3 91 0 k).toInt = lw.toInt ∧ (iv3 92 0 k).toInt = bl.toInt) = ((iv 41 0 k).toInt = (clw iv ci).toInt ∧ (iv 42 0 k).toInt = (blF iv (cown iv ci)).toInt)
      rw [f3 91 0 k (n3.2 k).1, f3 92 0 k (n3.2 k).2.1, ← h1, ← h2, hlw, hbl]
    have ef : abF (iv3 93 0 k - ho) / 10 + abF (iv3 94 0 k - mi) / 50 = frF iv (cown iv ci) k := by
      unfold frF
      rw [f3 93 0 k (n3.2 k).2.2.1, f3 94 0 k (n3.2 k).2.2.2, ← h3, ← h4, hho, hmi, ab_am (by omega) (by omega), ab_am (by omega) (by omega)]
    by_cases q : lkP iv ci k
    · rw [if_pos (ec.mpr q), if_pos q, ef]
    · rw [if_neg (fun y => q (ec.mp y)), if_neg q]
  by_cases q : lkP iv ci k
  · rw [if_pos q] at ms
    have t : (iv4 97 0 k).toInt = (frF iv (cown iv ci) k).toInt := by rw [ms]
    exact ⟨⟨fun _ => q, fun _ => by show ¬ (iv4 97 0 k).toInt = -1; omega⟩, fun _ => ms⟩
  · rw [if_neg q] at ms
    have t : (iv4 97 0 k).toInt = -1 := by rw [ms]; decide
    exact ⟨⟨fun y => absurd t y, fun y => absurd y q⟩, fun y => absurd t y⟩
