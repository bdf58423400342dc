theorem cm_t {al : Al} {iv : Iv} {rv : Rv} (hG : GI al iv rv) (h : Cclm iv rv) {c j : Nat} (hc : c < al.1 88) (e : rv 88 c 0 = some j) : j = cown iv c := Option.some.inj (e.symm.trans (h.2.1 c (by rw [hG.2.2.2.2.2.1.2]; omega)).1)
theorem cm_lt {al : Al} {iv : Iv} {rv : Rv} (hG : GI al iv rv) {c j : Nat} (e : j = cown iv c) (hj : j < al.1 65) : ((cown iv c : Nat) : Int) < (iv 63 0 1).toInt := by
  have n := hG.2.2.2.2.1.2
  rw [← e]; omega
