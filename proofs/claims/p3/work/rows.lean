section
-- ===== PART A: goes FIRST, ahead of the names: the tables' words, and 'selects' of the private methods out of them =====
/-- a private method of a class that the tables say can be made, by its rows of tables_1 -/
def lw_okq (q : MethodName × Nat) : Prop := (q.1.cls ≠ "java/lang/invoke/MethodHandle" ∧ q.1.cls ≠ "java/lang/invoke/VarHandle") ∧ Cond.instantiable q.1.cls q.2 ∈ tables_1 ∧ Cond.privateMethod q.1 ∈ tables_1 ∧ Cond.instanceMethod q.1 ∈ tables_1
theorem lw_p0 : lw_okq (⟨"LateClaims", "refuse", "(I)I"⟩, 10) := ⟨⟨by decide +kernel, by decide +kernel⟩, List.mem_of_getElem? (i := 17) (by decide +kernel), List.mem_of_getElem? (i := 294) (by decide +kernel), List.mem_of_getElem? (i := 295) (by decide +kernel)⟩
theorem lw_p1 : lw_okq (⟨"LateClaims$Ports", "move", "(III)V"⟩, 3) := ⟨⟨by decide +kernel, by decide +kernel⟩, List.mem_of_getElem? (i := 25) (by decide +kernel), List.mem_of_getElem? (i := 330) (by decide +kernel), List.mem_of_getElem? (i := 331) (by decide +kernel)⟩
theorem lw_p2 : lw_okq (⟨"LateClaims", "refuseBeyond", "(I)I"⟩, 10) := ⟨⟨by decide +kernel, by decide +kernel⟩, List.mem_of_getElem? (i := 17) (by decide +kernel), List.mem_of_getElem? (i := 349) (by decide +kernel), List.mem_of_getElem? (i := 350) (by decide +kernel)⟩
theorem lw_p3 : lw_okq (⟨"LateClaims", "waitOf", "(LLateClaims$Leg;Z)I"⟩, 10) := ⟨⟨by decide +kernel, by decide +kernel⟩, List.mem_of_getElem? (i := 17) (by decide +kernel), List.mem_of_getElem? (i := 477) (by decide +kernel), List.mem_of_getElem? (i := 478) (by decide +kernel)⟩
theorem lw_p4 : lw_okq (⟨"LateClaims", "gapFor", "(Z)I"⟩, 10) := ⟨⟨by decide +kernel, by decide +kernel⟩, List.mem_of_getElem? (i := 17) (by decide +kernel), List.mem_of_getElem? (i := 481) (by decide +kernel), List.mem_of_getElem? (i := 482) (by decide +kernel)⟩
theorem lw_p5 : lw_okq (⟨"LateClaims", "handedTo", "(LLateClaims$Leg;)I"⟩, 10) := ⟨⟨by decide +kernel, by decide +kernel⟩, List.mem_of_getElem? (i := 17) (by decide +kernel), List.mem_of_getElem? (i := 496) (by decide +kernel), List.mem_of_getElem? (i := 497) (by decide +kernel)⟩
theorem lw_p6 : lw_okq (⟨"LateClaims", "soonestOf", "(LLateClaims$Ticket;)I"⟩, 10) := ⟨⟨by decide +kernel, by decide +kernel⟩, List.mem_of_getElem? (i := 17) (by decide +kernel), List.mem_of_getElem? (i := 606) (by decide +kernel), List.mem_of_getElem? (i := 607) (by decide +kernel)⟩
theorem lw_p7 : lw_okq (⟨"LateClaims$Timetable", "reach", "(ILLateClaims$Port;I)I"⟩, 5) := ⟨⟨by decide +kernel, by decide +kernel⟩, List.mem_of_getElem? (i := 70) (by decide +kernel), List.mem_of_getElem? (i := 614) (by decide +kernel), List.mem_of_getElem? (i := 615) (by decide +kernel)⟩
theorem lw_p8 : lw_okq (⟨"LateClaims", "hoursOf", "(LLateClaims$Ticket;)I"⟩, 10) := ⟨⟨by decide +kernel, by decide +kernel⟩, List.mem_of_getElem? (i := 17) (by decide +kernel), List.mem_of_getElem? (i := 622) (by decide +kernel), List.mem_of_getElem? (i := 623) (by decide +kernel)⟩
theorem lw_p9 : lw_okq (⟨"LateClaims", "blameOf", "(LLateClaims$Ticket;)I"⟩, 10) := ⟨⟨by decide +kernel, by decide +kernel⟩, List.mem_of_getElem? (i := 17) (by decide +kernel), List.mem_of_getElem? (i := 630) (by decide +kernel), List.mem_of_getElem? (i := 631) (by decide +kernel)⟩
theorem lw_p10 : lw_okq (⟨"LateClaims", "sumFor", "(LLateClaims$Ticket;I)I"⟩, 10) := ⟨⟨by decide +kernel, by decide +kernel⟩, List.mem_of_getElem? (i := 17) (by decide +kernel), List.mem_of_getElem? (i := 671) (by decide +kernel), List.mem_of_getElem? (i := 672) (by decide +kernel)⟩
theorem lw_p11 : lw_okq (⟨"LateClaims$Laws", "hasRows", "(II)Z"⟩, 12) := ⟨⟨by decide +kernel, by decide +kernel⟩, List.mem_of_getElem? (i := 113) (by decide +kernel), List.mem_of_getElem? (i := 679) (by decide +kernel), List.mem_of_getElem? (i := 680) (by decide +kernel)⟩
theorem lw_p12 : lw_okq (⟨"LateClaims$Laws", "isInForce", "(III)Z"⟩, 12) := ⟨⟨by decide +kernel, by decide +kernel⟩, List.mem_of_getElem? (i := 113) (by decide +kernel), List.mem_of_getElem? (i := 683) (by decide +kernel), List.mem_of_getElem? (i := 684) (by decide +kernel)⟩
theorem lw_p13 : lw_okq (⟨"LateClaims", "milesOf", "(LLateClaims$Ticket;)I"⟩, 10) := ⟨⟨by decide +kernel, by decide +kernel⟩, List.mem_of_getElem? (i := 17) (by decide +kernel), List.mem_of_getElem? (i := 695) (by decide +kernel), List.mem_of_getElem? (i := 696) (by decide +kernel)⟩
theorem lw_p14 : lw_okq (⟨"LateClaims", "isBarred", "(LLateClaims$Claim;)Z"⟩, 10) := ⟨⟨by decide +kernel, by decide +kernel⟩, List.mem_of_getElem? (i := 17) (by decide +kernel), List.mem_of_getElem? (i := 762) (by decide +kernel), List.mem_of_getElem? (i := 763) (by decide +kernel)⟩
theorem lw_p15 : lw_okq (⟨"LateClaims$Bars", "nextStop", "(II)I"⟩, 5) := ⟨⟨by decide +kernel, by decide +kernel⟩, List.mem_of_getElem? (i := 157) (by decide +kernel), List.mem_of_getElem? (i := 774) (by decide +kernel), List.mem_of_getElem? (i := 775) (by decide +kernel)⟩
def lw_privs_1 : List (MethodName × Nat) := [(⟨"LateClaims", "refuse", "(I)I"⟩, 10), (⟨"LateClaims$Ports", "move", "(III)V"⟩, 3), (⟨"LateClaims", "refuseBeyond", "(I)I"⟩, 10), (⟨"LateClaims", "waitOf", "(LLateClaims$Leg;Z)I"⟩, 10), (⟨"LateClaims", "gapFor", "(Z)I"⟩, 10), (⟨"LateClaims", "handedTo", "(LLateClaims$Leg;)I"⟩, 10), (⟨"LateClaims", "soonestOf", "(LLateClaims$Ticket;)I"⟩, 10), (⟨"LateClaims$Timetable", "reach", "(ILLateClaims$Port;I)I"⟩, 5), (⟨"LateClaims", "hoursOf", "(LLateClaims$Ticket;)I"⟩, 10), (⟨"LateClaims", "blameOf", "(LLateClaims$Ticket;)I"⟩, 10), (⟨"LateClaims", "sumFor", "(LLateClaims$Ticket;I)I"⟩, 10), (⟨"LateClaims$Laws", "hasRows", "(II)Z"⟩, 12), (⟨"LateClaims$Laws", "isInForce", "(III)Z"⟩, 12), (⟨"LateClaims", "milesOf", "(LLateClaims$Ticket;)I"⟩, 10), (⟨"LateClaims", "isBarred", "(LLateClaims$Claim;)Z"⟩, 10), (⟨"LateClaims$Bars", "nextStop", "(II)I"⟩, 5)]
theorem lw_r1 : ∀ q ∈ lw_privs_1, lw_okq q := List.forall_mem_cons.mpr ⟨lw_p0, List.forall_mem_cons.mpr ⟨lw_p1, List.forall_mem_cons.mpr ⟨lw_p2, List.forall_mem_cons.mpr ⟨lw_p3, List.forall_mem_cons.mpr ⟨lw_p4, List.forall_mem_cons.mpr ⟨lw_p5, List.forall_mem_cons.mpr ⟨lw_p6, List.forall_mem_cons.mpr ⟨lw_p7, List.forall_mem_cons.mpr ⟨lw_p8, List.forall_mem_cons.mpr ⟨lw_p9, List.forall_mem_cons.mpr ⟨lw_p10, List.forall_mem_cons.mpr ⟨lw_p11, List.forall_mem_cons.mpr ⟨lw_p12, List.forall_mem_cons.mpr ⟨lw_p13, List.forall_mem_cons.mpr ⟨lw_p14, List.forall_mem_cons.mpr ⟨lw_p15, fun _ h => absurd h List.not_mem_nil⟩⟩⟩⟩⟩⟩⟩⟩⟩⟩⟩⟩⟩⟩⟩⟩
theorem lw_p16 : lw_okq (⟨"LateClaims", "worthOf", "(LLateClaims$Claim;)I"⟩, 10) := ⟨⟨by decide +kernel, by decide +kernel⟩, List.mem_of_getElem? (i := 17) (by decide +kernel), List.mem_of_getElem? (i := 780) (by decide +kernel), List.mem_of_getElem? (i := 781) (by decide +kernel)⟩
theorem lw_p17 : lw_okq (⟨"LateClaims", "settleUp", "()V"⟩, 10) := ⟨⟨by decide +kernel, by decide +kernel⟩, List.mem_of_getElem? (i := 17) (by decide +kernel), List.mem_of_getElem? (i := 806) (by decide +kernel), List.mem_of_getElem? (i := 807) (by decide +kernel)⟩
theorem lw_p18 : lw_okq (⟨"LateClaims$Claims", "togetherIn", "(I)I"⟩, 4) := ⟨⟨by decide +kernel, by decide +kernel⟩, List.mem_of_getElem? (i := 183) (by decide +kernel), List.mem_of_getElem? (i := 824) (by decide +kernel), List.mem_of_getElem? (i := 825) (by decide +kernel)⟩
theorem lw_p19 : lw_okq (⟨"LateClaims", "chooseLike", "(LLateClaims$Claim;)V"⟩, 10) := ⟨⟨by decide +kernel, by decide +kernel⟩, List.mem_of_getElem? (i := 17) (by decide +kernel), List.mem_of_getElem? (i := 845) (by decide +kernel), List.mem_of_getElem? (i := 846) (by decide +kernel)⟩
theorem lw_p20 : lw_okq (⟨"LateClaims$Cases", "leastFar", "()I"⟩, 11) := ⟨⟨by decide +kernel, by decide +kernel⟩, List.mem_of_getElem? (i := 207) (by decide +kernel), List.mem_of_getElem? (i := 860) (by decide +kernel), List.mem_of_getElem? (i := 861) (by decide +kernel)⟩
theorem lw_p21 : lw_okq (⟨"LateClaims", "countBarred", "()I"⟩, 10) := ⟨⟨by decide +kernel, by decide +kernel⟩, List.mem_of_getElem? (i := 17) (by decide +kernel), List.mem_of_getElem? (i := 880) (by decide +kernel), List.mem_of_getElem? (i := 881) (by decide +kernel)⟩
theorem lw_p22 : lw_okq (⟨"LateClaimsModel", "refuse", "(I)I"⟩, 60) := ⟨⟨by decide +kernel, by decide +kernel⟩, List.mem_of_getElem? (i := 884) (by decide +kernel), List.mem_of_getElem? (i := 1075) (by decide +kernel), List.mem_of_getElem? (i := 1076) (by decide +kernel)⟩
theorem lw_p23 : lw_okq (⟨"LateClaimsModel", "refuseFar", "(I)I"⟩, 60) := ⟨⟨by decide +kernel, by decide +kernel⟩, List.mem_of_getElem? (i := 884) (by decide +kernel), List.mem_of_getElem? (i := 1101) (by decide +kernel), List.mem_of_getElem? (i := 1102) (by decide +kernel)⟩
theorem lw_p24 : lw_okq (⟨"LateClaimsModel", "isLeg", "(I)Z"⟩, 60) := ⟨⟨by decide +kernel, by decide +kernel⟩, List.mem_of_getElem? (i := 884) (by decide +kernel), List.mem_of_getElem? (i := 1114) (by decide +kernel), List.mem_of_getElem? (i := 1115) (by decide +kernel)⟩
theorem lw_p25 : lw_okq (⟨"LateClaimsModel", "lateOf", "(I)I"⟩, 60) := ⟨⟨by decide +kernel, by decide +kernel⟩, List.mem_of_getElem? (i := 884) (by decide +kernel), List.mem_of_getElem? (i := 1133) (by decide +kernel), List.mem_of_getElem? (i := 1134) (by decide +kernel)⟩
theorem lw_p26 : lw_okq (⟨"LateClaimsModel", "rightArrive", "(I)I"⟩, 60) := ⟨⟨by decide +kernel, by decide +kernel⟩, List.mem_of_getElem? (i := 884) (by decide +kernel), List.mem_of_getElem? (i := 1137) (by decide +kernel), List.mem_of_getElem? (i := 1138) (by decide +kernel)⟩
theorem lw_p27 : lw_okq (⟨"LateClaimsModel", "outlateOf", "(I)I"⟩, 60) := ⟨⟨by decide +kernel, by decide +kernel⟩, List.mem_of_getElem? (i := 884) (by decide +kernel), List.mem_of_getElem? (i := 1144) (by decide +kernel), List.mem_of_getElem? (i := 1145) (by decide +kernel)⟩
theorem lw_p28 : lw_okq (⟨"LateClaimsModel", "rightLeave", "(I)I"⟩, 60) := ⟨⟨by decide +kernel, by decide +kernel⟩, List.mem_of_getElem? (i := 884) (by decide +kernel), List.mem_of_getElem? (i := 1148) (by decide +kernel), List.mem_of_getElem? (i := 1149) (by decide +kernel)⟩
theorem lw_p29 : lw_okq (⟨"LateClaimsModel", "waitOf", "(IZ)I"⟩, 60) := ⟨⟨by decide +kernel, by decide +kernel⟩, List.mem_of_getElem? (i := 884) (by decide +kernel), List.mem_of_getElem? (i := 1152) (by decide +kernel), List.mem_of_getElem? (i := 1153) (by decide +kernel)⟩
theorem lw_p30 : lw_okq (⟨"LateClaimsModel", "aheadOf", "(IZ)I"⟩, 60) := ⟨⟨by decide +kernel, by decide +kernel⟩, List.mem_of_getElem? (i := 884) (by decide +kernel), List.mem_of_getElem? (i := 1156) (by decide +kernel), List.mem_of_getElem? (i := 1157) (by decide +kernel)⟩
theorem lw_p31 : lw_okq (⟨"LateClaimsModel", "handedOf", "(I)I"⟩, 60) := ⟨⟨by decide +kernel, by decide +kernel⟩, List.mem_of_getElem? (i := 884) (by decide +kernel), List.mem_of_getElem? (i := 1163) (by decide +kernel), List.mem_of_getElem? (i := 1164) (by decide +kernel)⟩
def lw_privs_2 : List (MethodName × Nat) := [(⟨"LateClaims", "worthOf", "(LLateClaims$Claim;)I"⟩, 10), (⟨"LateClaims", "settleUp", "()V"⟩, 10), (⟨"LateClaims$Claims", "togetherIn", "(I)I"⟩, 4), (⟨"LateClaims", "chooseLike", "(LLateClaims$Claim;)V"⟩, 10), (⟨"LateClaims$Cases", "leastFar", "()I"⟩, 11), (⟨"LateClaims", "countBarred", "()I"⟩, 10), (⟨"LateClaimsModel", "refuse", "(I)I"⟩, 60), (⟨"LateClaimsModel", "refuseFar", "(I)I"⟩, 60), (⟨"LateClaimsModel", "isLeg", "(I)Z"⟩, 60), (⟨"LateClaimsModel", "lateOf", "(I)I"⟩, 60), (⟨"LateClaimsModel", "rightArrive", "(I)I"⟩, 60), (⟨"LateClaimsModel", "outlateOf", "(I)I"⟩, 60), (⟨"LateClaimsModel", "rightLeave", "(I)I"⟩, 60), (⟨"LateClaimsModel", "waitOf", "(IZ)I"⟩, 60), (⟨"LateClaimsModel", "aheadOf", "(IZ)I"⟩, 60), (⟨"LateClaimsModel", "handedOf", "(I)I"⟩, 60)]
theorem lw_r2 : ∀ q ∈ lw_privs_2, lw_okq q := List.forall_mem_cons.mpr ⟨lw_p16, List.forall_mem_cons.mpr ⟨lw_p17, List.forall_mem_cons.mpr ⟨lw_p18, List.forall_mem_cons.mpr ⟨lw_p19, List.forall_mem_cons.mpr ⟨lw_p20, List.forall_mem_cons.mpr ⟨lw_p21, List.forall_mem_cons.mpr ⟨lw_p22, List.forall_mem_cons.mpr ⟨lw_p23, List.forall_mem_cons.mpr ⟨lw_p24, List.forall_mem_cons.mpr ⟨lw_p25, List.forall_mem_cons.mpr ⟨lw_p26, List.forall_mem_cons.mpr ⟨lw_p27, List.forall_mem_cons.mpr ⟨lw_p28, List.forall_mem_cons.mpr ⟨lw_p29, List.forall_mem_cons.mpr ⟨lw_p30, List.forall_mem_cons.mpr ⟨lw_p31, fun _ h => absurd h List.not_mem_nil⟩⟩⟩⟩⟩⟩⟩⟩⟩⟩⟩⟩⟩⟩⟩⟩
theorem lw_p32 : lw_okq (⟨"LateClaimsModel", "isByCrew", "(I)Z"⟩, 60) := ⟨⟨by decide +kernel, by decide +kernel⟩, List.mem_of_getElem? (i := 884) (by decide +kernel), List.mem_of_getElem? (i := 1167) (by decide +kernel), List.mem_of_getElem? (i := 1168) (by decide +kernel)⟩
theorem lw_p33 : lw_okq (⟨"LateClaimsModel", "findMinutes", "(I)V"⟩, 60) := ⟨⟨by decide +kernel, by decide +kernel⟩, List.mem_of_getElem? (i := 884) (by decide +kernel), List.mem_of_getElem? (i := 1179) (by decide +kernel), List.mem_of_getElem? (i := 1180) (by decide +kernel)⟩
theorem lw_p34 : lw_okq (⟨"LateClaimsModel", "isTraveller", "(I)Z"⟩, 60) := ⟨⟨by decide +kernel, by decide +kernel⟩, List.mem_of_getElem? (i := 884) (by decide +kernel), List.mem_of_getElem? (i := 1195) (by decide +kernel), List.mem_of_getElem? (i := 1196) (by decide +kernel)⟩
theorem lw_p35 : lw_okq (⟨"LateClaimsModel", "missedOf", "(I)I"⟩, 60) := ⟨⟨by decide +kernel, by decide +kernel⟩, List.mem_of_getElem? (i := 884) (by decide +kernel), List.mem_of_getElem? (i := 1203) (by decide +kernel), List.mem_of_getElem? (i := 1204) (by decide +kernel)⟩
theorem lw_p36 : lw_okq (⟨"LateClaimsModel", "soonestOf", "(I)I"⟩, 60) := ⟨⟨by decide +kernel, by decide +kernel⟩, List.mem_of_getElem? (i := 884) (by decide +kernel), List.mem_of_getElem? (i := 1211) (by decide +kernel), List.mem_of_getElem? (i := 1212) (by decide +kernel)⟩
theorem lw_p37 : lw_okq (⟨"LateClaimsModel", "lastLeg", "(I)I"⟩, 60) := ⟨⟨by decide +kernel, by decide +kernel⟩, List.mem_of_getElem? (i := 884) (by decide +kernel), List.mem_of_getElem? (i := 1215) (by decide +kernel), List.mem_of_getElem? (i := 1216) (by decide +kernel)⟩
theorem lw_p38 : lw_okq (⟨"LateClaimsModel", "hoursOf", "(I)I"⟩, 60) := ⟨⟨by decide +kernel, by decide +kernel⟩, List.mem_of_getElem? (i := 884) (by decide +kernel), List.mem_of_getElem? (i := 1223) (by decide +kernel), List.mem_of_getElem? (i := 1224) (by decide +kernel)⟩
theorem lw_p39 : lw_okq (⟨"LateClaimsModel", "blameOf", "(I)I"⟩, 60) := ⟨⟨by decide +kernel, by decide +kernel⟩, List.mem_of_getElem? (i := 884) (by decide +kernel), List.mem_of_getElem? (i := 1231) (by decide +kernel), List.mem_of_getElem? (i := 1232) (by decide +kernel)⟩
theorem lw_p40 : lw_okq (⟨"LateClaimsModel", "sumOf", "(II)I"⟩, 60) := ⟨⟨by decide +kernel, by decide +kernel⟩, List.mem_of_getElem? (i := 884) (by decide +kernel), List.mem_of_getElem? (i := 1250) (by decide +kernel), List.mem_of_getElem? (i := 1251) (by decide +kernel)⟩
theorem lw_p41 : lw_okq (⟨"LateClaimsModel", "lawOf", "(II)I"⟩, 60) := ⟨⟨by decide +kernel, by decide +kernel⟩, List.mem_of_getElem? (i := 884) (by decide +kernel), List.mem_of_getElem? (i := 1254) (by decide +kernel), List.mem_of_getElem? (i := 1255) (by decide +kernel)⟩
theorem lw_p42 : lw_okq (⟨"LateClaimsModel", "firstLeg", "(I)I"⟩, 60) := ⟨⟨by decide +kernel, by decide +kernel⟩, List.mem_of_getElem? (i := 884) (by decide +kernel), List.mem_of_getElem? (i := 1258) (by decide +kernel), List.mem_of_getElem? (i := 1259) (by decide +kernel)⟩
theorem lw_p43 : lw_okq (⟨"LateClaimsModel", "hasLaw", "(II)Z"⟩, 60) := ⟨⟨by decide +kernel, by decide +kernel⟩, List.mem_of_getElem? (i := 884) (by decide +kernel), List.mem_of_getElem? (i := 1262) (by decide +kernel), List.mem_of_getElem? (i := 1263) (by decide +kernel)⟩
theorem lw_p44 : lw_okq (⟨"LateClaimsModel", "isExcused", "(II)Z"⟩, 60) := ⟨⟨by decide +kernel, by decide +kernel⟩, List.mem_of_getElem? (i := 884) (by decide +kernel), List.mem_of_getElem? (i := 1266) (by decide +kernel), List.mem_of_getElem? (i := 1267) (by decide +kernel)⟩
theorem lw_p45 : lw_okq (⟨"LateClaimsModel", "milesOf", "(I)I"⟩, 60) := ⟨⟨by decide +kernel, by decide +kernel⟩, List.mem_of_getElem? (i := 884) (by decide +kernel), List.mem_of_getElem? (i := 1270) (by decide +kernel), List.mem_of_getElem? (i := 1271) (by decide +kernel)⟩
theorem lw_p46 : lw_okq (⟨"LateClaimsModel", "isClaim", "(I)Z"⟩, 60) := ⟨⟨by decide +kernel, by decide +kernel⟩, List.mem_of_getElem? (i := 884) (by decide +kernel), List.mem_of_getElem? (i := 1290) (by decide +kernel), List.mem_of_getElem? (i := 1291) (by decide +kernel)⟩
theorem lw_p47 : lw_okq (⟨"LateClaimsModel", "isBarred", "(I)Z"⟩, 60) := ⟨⟨by decide +kernel, by decide +kernel⟩, List.mem_of_getElem? (i := 884) (by decide +kernel), List.mem_of_getElem? (i := 1294) (by decide +kernel), List.mem_of_getElem? (i := 1295) (by decide +kernel)⟩
def lw_privs_3 : List (MethodName × Nat) := [(⟨"LateClaimsModel", "isByCrew", "(I)Z"⟩, 60), (⟨"LateClaimsModel", "findMinutes", "(I)V"⟩, 60), (⟨"LateClaimsModel", "isTraveller", "(I)Z"⟩, 60), (⟨"LateClaimsModel", "missedOf", "(I)I"⟩, 60), (⟨"LateClaimsModel", "soonestOf", "(I)I"⟩, 60), (⟨"LateClaimsModel", "lastLeg", "(I)I"⟩, 60), (⟨"LateClaimsModel", "hoursOf", "(I)I"⟩, 60), (⟨"LateClaimsModel", "blameOf", "(I)I"⟩, 60), (⟨"LateClaimsModel", "sumOf", "(II)I"⟩, 60), (⟨"LateClaimsModel", "lawOf", "(II)I"⟩, 60), (⟨"LateClaimsModel", "firstLeg", "(I)I"⟩, 60), (⟨"LateClaimsModel", "hasLaw", "(II)Z"⟩, 60), (⟨"LateClaimsModel", "isExcused", "(II)Z"⟩, 60), (⟨"LateClaimsModel", "milesOf", "(I)I"⟩, 60), (⟨"LateClaimsModel", "isClaim", "(I)Z"⟩, 60), (⟨"LateClaimsModel", "isBarred", "(I)Z"⟩, 60)]
theorem lw_r3 : ∀ q ∈ lw_privs_3, lw_okq q := List.forall_mem_cons.mpr ⟨lw_p32, List.forall_mem_cons.mpr ⟨lw_p33, List.forall_mem_cons.mpr ⟨lw_p34, List.forall_mem_cons.mpr ⟨lw_p35, List.forall_mem_cons.mpr ⟨lw_p36, List.forall_mem_cons.mpr ⟨lw_p37, List.forall_mem_cons.mpr ⟨lw_p38, List.forall_mem_cons.mpr ⟨lw_p39, List.forall_mem_cons.mpr ⟨lw_p40, List.forall_mem_cons.mpr ⟨lw_p41, List.forall_mem_cons.mpr ⟨lw_p42, List.forall_mem_cons.mpr ⟨lw_p43, List.forall_mem_cons.mpr ⟨lw_p44, List.forall_mem_cons.mpr ⟨lw_p45, List.forall_mem_cons.mpr ⟨lw_p46, List.forall_mem_cons.mpr ⟨lw_p47, fun _ h => absurd h List.not_mem_nil⟩⟩⟩⟩⟩⟩⟩⟩⟩⟩⟩⟩⟩⟩⟩⟩
theorem lw_p48 : lw_okq (⟨"LateClaimsModel", "worthOf", "(I)I"⟩, 60) := ⟨⟨by decide +kernel, by decide +kernel⟩, List.mem_of_getElem? (i := 884) (by decide +kernel), List.mem_of_getElem? (i := 1298) (by decide +kernel), List.mem_of_getElem? (i := 1299) (by decide +kernel)⟩
theorem lw_p49 : lw_okq (⟨"LateClaimsModel", "settledOf", "(I)I"⟩, 60) := ⟨⟨by decide +kernel, by decide +kernel⟩, List.mem_of_getElem? (i := 884) (by decide +kernel), List.mem_of_getElem? (i := 1302) (by decide +kernel), List.mem_of_getElem? (i := 1303) (by decide +kernel)⟩
theorem lw_p50 : lw_okq (⟨"LateClaimsModel", "dueOf", "(II)I"⟩, 60) := ⟨⟨by decide +kernel, by decide +kernel⟩, List.mem_of_getElem? (i := 884) (by decide +kernel), List.mem_of_getElem? (i := 1322) (by decide +kernel), List.mem_of_getElem? (i := 1323) (by decide +kernel)⟩
theorem lw_p51 : lw_okq (⟨"LateClaimsModel", "balanceOf", "(I)I"⟩, 60) := ⟨⟨by decide +kernel, by decide +kernel⟩, List.mem_of_getElem? (i := 884) (by decide +kernel), List.mem_of_getElem? (i := 1330) (by decide +kernel), List.mem_of_getElem? (i := 1331) (by decide +kernel)⟩
theorem lw_p52 : lw_okq (⟨"LateClaimsModel", "findLike", "(I)V"⟩, 60) := ⟨⟨by decide +kernel, by decide +kernel⟩, List.mem_of_getElem? (i := 884) (by decide +kernel), List.mem_of_getElem? (i := 1346) (by decide +kernel), List.mem_of_getElem? (i := 1347) (by decide +kernel)⟩
def lw_privs_4 : List (MethodName × Nat) := [(⟨"LateClaimsModel", "worthOf", "(I)I"⟩, 60), (⟨"LateClaimsModel", "settledOf", "(I)I"⟩, 60), (⟨"LateClaimsModel", "dueOf", "(II)I"⟩, 60), (⟨"LateClaimsModel", "balanceOf", "(I)I"⟩, 60), (⟨"LateClaimsModel", "findLike", "(I)V"⟩, 60)]
theorem lw_r4 : ∀ q ∈ lw_privs_4, lw_okq q := List.forall_mem_cons.mpr ⟨lw_p48, List.forall_mem_cons.mpr ⟨lw_p49, List.forall_mem_cons.mpr ⟨lw_p50, List.forall_mem_cons.mpr ⟨lw_p51, List.forall_mem_cons.mpr ⟨lw_p52, fun _ h => absurd h List.not_mem_nil⟩⟩⟩⟩⟩
def lw_privs : List (MethodName × Nat) := lw_privs_1 ++ (lw_privs_2 ++ (lw_privs_3 ++ (lw_privs_4)))
def lw_tbl : List Cond := k2_sels lw_privs ++ tables_1
theorem lw_privs_ok : ∀ q ∈ lw_privs, lw_okq q := by
  show ∀ q ∈ lw_privs_1 ++ (lw_privs_2 ++ (lw_privs_3 ++ (lw_privs_4))), lw_okq q
  exact List.forall_mem_append.mpr ⟨lw_r1, List.forall_mem_append.mpr ⟨lw_r2, List.forall_mem_append.mpr ⟨lw_r3, lw_r4⟩⟩⟩
end
section
def va_AOA (t : FieldType) (U : State) : Prop := (Cond.arrayOver (.array t)).before #[] U = true
theorem va_AOA.use {t : FieldType} {A : Array Value} {U : State} (h : va_AOA t U) : (Cond.arrayOver (.array t)).before A U = true := h
/-- f, but v at every address of l -/
def vr_up {α : Type} (f : Nat → α) (l : List Nat) (v : α) : Nat → α := fun a => if a ∈ l then v else f a
theorem vr_up_in {α : Type} {f : Nat → α} {l : List Nat} {v : α} {a : Nat} (h : a ∈ l) : vr_up f l v a = v := if_pos h
theorem vr_up_ne {α : Type} {f : Nat → α} {l : List Nat} {v : α} {a : Nat} (h : a ∉ l) : vr_up f l v a = f a := if_neg h
theorem vr_rows {L l : List Nat} {f : Nat → va_E} {e : va_E} (h : ∀ a, a ∈ l → a ∉ L) : va_pl L f ++ l.map (fun a => (a, e)) = va_pl (L ++ l) (vr_up f l e) := by
  unfold va_pl
  rw [List.map_append]
  congr 1
  · apply List.map_congr_left
    intro a ha
    rw [vr_up_ne (fun q => h a q ha)]
  · apply List.map_congr_left
    intro a ha
    rw [vr_up_in ha]
theorem vr_lay {X rows : va_W} {x : Nat × va_E} {pl : va_W} {D : va_G} {cl : List vw_C} {H : Heap} (hP : va_P D cl (((X ++ pl) ++ [x]) ++ rows) H) : va_P D cl ((X ++ [x]) ++ (pl ++ rows)) H := by
  rw [List.append_assoc (X ++ pl)] at hP
  have h := va_P.swap hP
  rw [← List.append_assoc X] at h
  have h2 := va_P.swap h
  rw [List.append_assoc (X ++ [x])] at h2
  exact h2
theorem vr_layD {X rows : va_W} {x : Nat × va_E} {pl : va_W} {A : Nat → Prop} (hD : va_D A (((X ++ pl) ++ [x]) ++ rows)) : va_D A ((X ++ [x]) ++ (pl ++ rows)) := by
  rw [List.append_assoc (X ++ pl)] at hD
  have h := va_D.swap hD
  rw [← List.append_assoc X] at h
  have h2 := va_D.swap h
  rw [List.append_assoc (X ++ [x])] at h2
  exact h2
theorem vr_outer (c : ClassId) (N h0 : Nat) : ∀ i : Nat, Jvm.Free.Multi.outerC c N h0 i = arrV c N (fun j => va_rf (if j < i then some (h0 + 1 + j) else none))
  | 0 => by
    show ({ cls := c, slots := Array.replicate N .null, vm := .none } : Cell) = _
    rw [arrV_new]
    refine congrArg (arrV c N) (funext fun j => ?_)
    simp [va_rf]
  | i + 1 => by
    show (Jvm.Free.Multi.outerC c N h0 i).setSlot i (.ref (h0 + 1 + i)) = _
    rw [vr_outer c N h0 i, arrV_store]
    refine congrArg (arrV c N) (funext fun j => ?_)
    by_cases e : j = i
    · subst e
      simp [updV, va_rf]
    · by_cases h : j < i
      · simp [updV, e, h, Nat.lt_succ_of_lt h]
      · simp [updV, e, h, show ¬ j < i + 1 by omega]
section VGM
variable {p : Program} {l : Launch} {e : Env} {R : Room} {s : State} {m : MethodId} {args : Array Value} {below : List Frame} {meth : Method} {c : Code} {H : Heap} {locs : List Loc} {cells slots : Nat} {Q : State → Prop}
variable {cc : ByteArray} {pc : Nat} {ls : Array Slot} {rest : List Value} {D : va_G} {cl : List vw_C} {A : Nat → Prop} {a : Nat} {tys : List (ClassId × FieldType)} {ws : va_W} {H0 : Heap}
theorem va_mna {X : va_W} {L : List Nat} {f : Nat → va_E} {cc : ByteArray} (hexec : p.tables.exec = Jvm.exec) (hb : c.code = cc) {own : String} {index : Nat} {ty : FieldType} {cy : ClassId} (hown : s.vm.findClass own = some m.cls) (hclink : (Cond.classLink own index ("[" ++ (FieldType.array ty).toString)).before args s = true) (hover : va_AOA ty s) (harr : (Cond.arrayClass ty).before args s = true) (hcy : s.vm.findClass (FieldType.array ty).toString = some cy)
    (hK : va_K D cl tys s) (hP : va_P D cl (X ++ va_pl L f) H) (hD : va_D A (X ++ va_pl L f)) (hS : va_S A H0 H locs) (hA : ∀ q, H0.size ≤ q → A q) {n k : Int32} {N' K' : Nat} {z : vp_A} (hn : ¬ n < 0) (hk : ¬ k < 0) (hN : n.toNatClampNeg = N') (hM : k.toNatClampNeg = K')
    (hb1 : N' * 4 ≤ 536870912) (hb2 : K' * componentBytes ty ≤ 536870912) (hb3 : K' ≤ 536870912) (hdf : fits ty (defaultValue ty) = true) (hdd : (defaultValue ty).isDefault = true) (hcells : cells + (1 + N') ≤ R.cells) (hslots : slots + (N' + N' * K') ≤ R.slots) (hz : ∀ c : ClassId, Jvm.Free.Multi.innerC c K' (defaultValue ty) = vp_cell c z) (hdg : decode cc pc = .ok (.multianewarray index 2, 4))
    (kk : ∀ (q : Nat) (r : Nat → Nat) (cA : ClassId) (H1 : Heap), (∀ i j : Nat, i < N' → j < N' → r i = r j → i = j) → (∀ i : Nat, i < N' → r i ∉ L) → va_K D cl (tys ++ [(cA, .array ty)]) s →
      va_P D cl ((X ++ [(q, .inl (cA, N', .inr (.inr (.inr (.inr (fun i => if i < N' then some (r i) else none))))))]) ++ va_pl (L ++ (List.range N').map r) (vr_up f ((List.range N').map r) (.inl (cy, z)))) H1 → va_D A ((X ++ [(q, .inl (cA, N', .inr (.inr (.inr (.inr (fun i => if i < N' then some (r i) else none))))))]) ++ va_pl (L ++ (List.range N').map r) (vr_up f ((List.range N').map r) (.inl (cy, z)))) → va_S A H0 H1 locs →
      W p l e R s m args below meth c H1 locs (cells + 1 + N') (slots + N' + N' * K') Q (F0 m (pc + 4) ls (.ref q :: rest))) : W p l e R s m args below meth c H locs cells slots Q (F0 m pc ls (.int k :: .int n :: rest)) := by
  subst hN
  subst hM
  intro T hT Xs
  obtain ⟨vm₁, cA, comp, -, fA, fC, hO, -, X', step⟩ := Xs.multianewarray2F hexec hown hclink (va_AOA.use hover) harr (g := F0 m pc ls (.int k :: .int n :: rest)) rfl (by rw [hb]; exact hdg) rfl hn hk hb1 hb2 hb3 hdf hdd hcells hslots
  have ec : some cy = some comp := hcy.symm.trans fC
  cases ec
  generalize hF : Jvm.Free.Multi.fill (T.setVm vm₁) cA cy n.toNatClampNeg k.toNatClampNeg (defaultValue ty) n.toNatClampNeg = F at X' step
  have hTh : (T.setVm vm₁).heap = H := hT
  obtain ⟨f1, f2, -, -⟩ := Jvm.Free.Multi.fill_facts (T.setVm vm₁) cA cy n.toNatClampNeg k.toNatClampNeg (defaultValue ty) n.toNatClampNeg
  rw [hF, hTh] at f1 f2
  have hold : ∀ x : Nat, x < H.size → F.heap[x]? = H[x]? := fun x hx => by
    have := Jvm.Free.Multi.fill_old (T.setVm vm₁) cA cy n.toNatClampNeg k.toNatClampNeg (defaultValue ty) (a := x) (by rw [hTh]; exact hx) n.toNatClampNeg
    rw [hF, hTh] at this
    exact this
  have hrow : ∀ j : Nat, j < n.toNatClampNeg → F.heap[H.size + 1 + j]? = some (vp_cell cy z) := fun j hj => by
    have := Jvm.Free.Multi.fill_inner (T.setVm vm₁) cA cy n.toNatClampNeg k.toNatClampNeg (defaultValue ty) n.toNatClampNeg j hj
    rw [hF, hTh, hz] at this
    exact this
  have hout : Jvm.Free.Multi.outerC cA n.toNatClampNeg H.size n.toNatClampNeg = vp_cell cA (n.toNatClampNeg, .inr (.inr (.inr (.inr (fun i => if i < n.toNatClampNeg then some (H.size + 1 + i) else none))))) := by
    rw [vp_cell_q]
    exact vr_outer cA n.toNatClampNeg H.size n.toNatClampNeg
  rw [hout] at f2
  have hlt : ∀ a, a ∈ L → a < H.size := fun a ha => by
    obtain ⟨k9, hk9⟩ := va_pl_get (X := X) (f := f) ha
    exact (hP k9 _ hk9).lt
  have hnl : ∀ i : Nat, i < n.toNatClampNeg → H.size + 1 + i ∉ L := fun i _ h => by
    have := hlt _ h
    omega
  have hnm : ∀ a, a ∈ (List.range n.toNatClampNeg).map (fun i => H.size + 1 + i) → a ∉ L := fun a ha h => by
    obtain ⟨i, -, rfl⟩ := List.mem_map.mp ha
    have := hlt _ h
    omega
  have hP0 : va_P D cl (X ++ va_pl L f) F.heap := hP.kept (fun k9 x hx => hold x.1 ((hP k9 x hx).lt))
  have hP1 : va_P D cl ((X ++ va_pl L f) ++ [(H.size, .inl (cA, n.toNatClampNeg, .inr (.inr (.inr (.inr (fun i => if i < n.toNatClampNeg then some (H.size + 1 + i) else none))))))]) F.heap := hP0.app (fun k9 x hx => by
    have h0 : k9 < 1 := (List.getElem?_eq_some_iff.mp hx).1
    rw [show k9 = 0 by omega] at hx
    cases hx
    exact f2)
  have hP2 : va_P D cl (((X ++ va_pl L f) ++ [(H.size, .inl (cA, n.toNatClampNeg, .inr (.inr (.inr (.inr (fun i => if i < n.toNatClampNeg then some (H.size + 1 + i) else none))))))]) ++ ((List.range n.toNatClampNeg).map (fun i => H.size + 1 + i)).map (fun a => (a, .inl (cy, z)))) F.heap := hP1.app (fun k9 x hx => by
    obtain ⟨a, ha, rfl⟩ := List.mem_map.mp (List.mem_of_getElem? hx)
    obtain ⟨i, hi, rfl⟩ := List.mem_map.mp ha
    exact hrow i (List.mem_range.mp hi))
  have hD2 : va_D A (((X ++ va_pl L f) ++ [(H.size, .inl (cA, n.toNatClampNeg, .inr (.inr (.inr (.inr (fun i => if i < n.toNatClampNeg then some (H.size + 1 + i) else none))))))]) ++ ((List.range n.toNatClampNeg).map (fun i => H.size + 1 + i)).map (fun a => (a, .inl (cy, z)))) := by
    have hD1 := hD.push (e := .inl (cA, n.toNatClampNeg, .inr (.inr (.inr (.inr (fun i => if i < n.toNatClampNeg then some (H.size + 1 + i) else none)))))) hP rfl (hA _ hS.1)
    generalize hW1 : (X ++ va_pl L f) ++ [(H.size, .inl (cA, n.toNatClampNeg, .inr (.inr (.inr (.inr (fun i => if i < n.toNatClampNeg then some (H.size + 1 + i) else none))))))] = W1 at hD1 hP1 ⊢
    have hle : ∀ (k9 : Nat) (x : Nat × va_E), W1[k9]? = some x → x.1 ≤ H.size := fun k9 x hx => by
      rw [← hW1] at hx
      by_cases hl : k9 < (X ++ va_pl L f).length
      · rw [List.getElem?_append_left hl] at hx
        exact Nat.le_of_lt ((hP k9 x hx).lt)
      · rw [List.getElem?_append_right (by omega)] at hx
        have h0 : k9 - (X ++ va_pl L f).length < 1 := (List.getElem?_eq_some_iff.mp hx).1
        rw [show k9 - (X ++ va_pl L f).length = 0 by omega] at hx
        cases hx
        exact Nat.le_refl _
    have hr : ∀ (k9 : Nat) (x : Nat × va_E), (((List.range n.toNatClampNeg).map (fun i => H.size + 1 + i)).map (fun a => ((a, .inl (cy, z)) : Nat × va_E)))[k9]? = some x → x.1 = H.size + 1 + k9 := fun k9 x hx => by
      rw [List.getElem?_map, List.getElem?_map] at hx
      by_cases h9 : k9 < n.toNatClampNeg
      · rw [List.getElem?_range h9] at hx
        cases hx
        rfl
      · have hn0 : (List.range n.toNatClampNeg)[k9]? = none := List.getElem?_eq_none (by rw [List.length_range]; omega)
        rw [hn0] at hx
        cases hx
    refine ⟨fun i j x y hi hj hxy => ?_, fun k9 x hx => ?_⟩
    · by_cases h1 : i < W1.length <;> by_cases h2 : j < W1.length
      · rw [List.getElem?_append_left h1] at hi
        rw [List.getElem?_append_left h2] at hj
        exact hD1.1 i j x y hi hj hxy
      · rw [List.getElem?_append_left h1] at hi
        rw [List.getElem?_append_right (by omega)] at hj
        have := hle _ _ hi
        have := hr _ _ hj
        omega
      · rw [List.getElem?_append_right (by omega)] at hi
        rw [List.getElem?_append_left h2] at hj
        have := hle _ _ hj
        have := hr _ _ hi
        omega
      · rw [List.getElem?_append_right (by omega)] at hi hj
        have := hr _ _ hi
        have := hr _ _ hj
        omega
    · by_cases h1 : k9 < W1.length
      · rw [List.getElem?_append_left h1] at hx
        exact hD1.2 k9 x hx
      · rw [List.getElem?_append_right (by omega)] at hx
        have := hr _ _ hx
        exact hA _ (by have := hS.1; omega)
  have hAr : ArrOfT s cA (.array ty) := fun N9 z9 => by
    obtain ⟨-, k9, hk9, cm9, hkk9⟩ := (hO 0 0 0).1
    exact ⟨(fun q hq => by cases hq), k9, hk9, cm9, hkk9⟩
  have hK2 : va_K D cl (tys ++ [(cA, .array ty)]) s := ⟨hK.1, fun k9 x hx => by
    by_cases hl : k9 < tys.length
    · rw [List.getElem?_append_left hl] at hx
      exact hK.2 k9 x hx
    · rw [List.getElem?_append_right (by omega)] at hx
      have h0 : k9 - tys.length < 1 := (List.getElem?_eq_some_iff.mp hx).1
      rw [show k9 - tys.length = 0 by omega] at hx
      cases hx
      exact ⟨hAr, fA⟩⟩
  obtain ⟨t, a1, b1⟩ := kk H.size (fun i => H.size + 1 + i) cA F.heap (fun i j _ _ h => by have h9 : H.size + 1 + i = H.size + 1 + j := h; omega) hnl hK2 (by rw [← vr_rows hnm]; exact vr_lay hP2) (by rw [← vr_rows hnm]; exact vr_layD hD2) ⟨by rw [f1]; have := hS.1; omega, fun x h1 h2 => (hold x (Nat.lt_of_lt_of_le h1 hS.1)).trans (hS.2.1 x h1 h2), hS.2.2⟩ F rfl X'
  refine ⟨t, step t ?_, b1⟩
  have e : T.heap.size = H.size := by rw [hT]
  rw [e]
  exact a1
end VGM
def RX0 : String := "LateClaims$Bars"
def TX0 : u_T := fun k => match k with
  | 0 => ("LateClaims$Bars", "daysIn", "[I", true)
  | 1 => ("LateClaims$Bars", "stopLands", "[I", true)
  | 2 => ("LateClaims$Bars", "stopFroms", "[I", true)
  | 3 => ("LateClaims$Bars", "stopTos", "[I", true)
  | _ => ("LateClaims$Bars", "stops", "I", false)
def tyX0 : Nat → FieldType := fun k => match k with
  | 0 => .array .int
  | 1 => .array .int
  | 2 => .array .int
  | 3 => .array .int
  | _ => .int
abbrev wsX00 : List Cond := u_ws RX0 TX0 5
theorem nmX0 : ∀ a, a < 5 → ∀ b, b < 5 → a ≠ b → (TX0 a).2.1 ≠ (TX0 b).2.1 := by decide +kernel
theorem tyX0_ok : ∀ k, k < 5 → parseFieldDescriptor (TX0 k).2.2.1 = some (tyX0 k) := by decide +kernel
abbrev cX0_init : ByteArray := prog_2_method_1_code
def yX0_init : MethodName := ⟨RX0, "<init>", "()V"⟩
abbrev cX0_isFull : ByteArray := prog_2_method_2_code
def yX0_isFull : MethodName := ⟨RX0, "isFull", "()Z"⟩
abbrev cX0_addStop : ByteArray := prog_2_method_3_code
def yX0_addStop : MethodName := ⟨RX0, "addStop", "(III)I"⟩
abbrev cX0_daysThatRan : ByteArray := prog_2_method_4_code
def yX0_daysThatRan : MethodName := ⟨RX0, "daysThatRan", "(III)I"⟩
abbrev cX0_nextStop : ByteArray := prog_2_method_5_code
def yX0_nextStop : MethodName := ⟨RX0, "nextStop", "(II)I"⟩
def RX1 : String := "LateClaims$Cases"
def TX1 : u_T := fun k => match k with
  | 0 => ("LateClaims$Cases", "lands", "[I", true)
  | 1 => ("LateClaims$Cases", "causes", "[I", true)
  | 2 => ("LateClaims$Cases", "minutesLate", "[I", true)
  | 3 => ("LateClaims$Cases", "milesFlown", "[I", true)
  | 4 => ("LateClaims$Cases", "wins", "[Z", true)
  | 5 => ("LateClaims$Cases", "costs", "[I", true)
  | 6 => ("LateClaims$Cases", "size", "I", false)
  | 7 => ("LateClaims$Cases", "far", "[I", true)
  | 8 => ("LateClaims$Cases", "chosen", "I", false)
  | 9 => ("LateClaims$Cases", "chosenWon", "I", false)
  | _ => ("LateClaims$Cases", "chosenCost", "I", false)
def tyX1 : Nat → FieldType := fun k => match k with
  | 0 => .array .int
  | 1 => .array .int
  | 2 => .array .int
  | 3 => .array .int
  | 4 => .array .boolean
  | 5 => .array .int
  | 6 => .int
  | 7 => .array .int
  | 8 => .int
  | 9 => .int
  | _ => .int
abbrev wsX10 : List Cond := u_ws RX1 TX1 11
theorem nmX1 : ∀ a, a < 11 → ∀ b, b < 11 → a ≠ b → (TX1 a).2.1 ≠ (TX1 b).2.1 := by decide +kernel
theorem tyX1_ok : ∀ k, k < 11 → parseFieldDescriptor (TX1 k).2.2.1 = some (tyX1 k) := by decide +kernel
abbrev cX1_init : ByteArray := prog_3_method_1_code
def yX1_init : MethodName := ⟨RX1, "<init>", "()V"⟩
abbrev cX1_isFull : ByteArray := prog_3_method_2_code
def yX1_isFull : MethodName := ⟨RX1, "isFull", "()Z"⟩
abbrev cX1_add : ByteArray := prog_3_method_3_code
def yX1_add : MethodName := ⟨RX1, "add", "(IIIIZI)I"⟩
abbrev cX1_measure : ByteArray := prog_3_method_4_code
def yX1_measure : MethodName := ⟨RX1, "measure", "(IIII)V"⟩
abbrev cX1_choose : ByteArray := prog_3_method_5_code
def yX1_choose : MethodName := ⟨RX1, "choose", "(I)V"⟩
abbrev cX1_leastFar : ByteArray := prog_3_method_6_code
def yX1_leastFar : MethodName := ⟨RX1, "leastFar", "()I"⟩
abbrev cX1_goingOnTimesChosen : ByteArray := prog_3_method_7_code
def yX1_goingOnTimesChosen : MethodName := ⟨RX1, "goingOnTimesChosen", "(I)I"⟩
def RX2 : String := "LateClaims$Claim"
def TX2 : u_T := fun k => match k with
  | 0 => ("LateClaims$Claim", "ticket", "LLateClaims$Ticket;", true)
  | 1 => ("LateClaims$Claim", "day", "I", true)
  | 2 => ("LateClaims$Claim", "paid", "[I", true)
  | _ => ("LateClaims$Claim", "settled", "I", false)
def tyX2 : Nat → FieldType := fun k => match k with
  | 0 => .object "LateClaims$Ticket"
  | 1 => .int
  | 2 => .array .int
  | _ => .int
abbrev wsX20 : List Cond := u_ws RX2 TX2 4
theorem nmX2 : ∀ a, a < 4 → ∀ b, b < 4 → a ≠ b → (TX2 a).2.1 ≠ (TX2 b).2.1 := by decide +kernel
theorem tyX2_ok : ∀ k, k < 4 → parseFieldDescriptor (TX2 k).2.2.1 = some (tyX2 k) := by decide +kernel
abbrev cX2_init : ByteArray := prog_4_method_1_code
def yX2_init : MethodName := ⟨RX2, "<init>", "(LLateClaims$Ticket;I)V"⟩
abbrev cX2_partOf : ByteArray := prog_4_method_2_code
def yX2_partOf : MethodName := ⟨RX2, "partOf", "(II)I"⟩
def RX3 : String := "LateClaims$Claims"
def TX3 : u_T := fun k => match k with
  | 0 => ("LateClaims$Claims", "all", "[LLateClaims$Claim;", true)
  | 1 => ("LateClaims$Claims", "size", "I", false)
  | 2 => ("LateClaims$Claims", "balances", "[I", true)
  | _ => ("LateClaims$Claims", "parted", "[I", true)
def tyX3 : Nat → FieldType := fun k => match k with
  | 0 => .array (.object "LateClaims$Claim")
  | 1 => .int
  | 2 => .array .int
  | _ => .array .int
abbrev wsX30 : List Cond := u_ws RX3 TX3 4
theorem nmX3 : ∀ a, a < 4 → ∀ b, b < 4 → a ≠ b → (TX3 a).2.1 ≠ (TX3 b).2.1 := by decide +kernel
theorem tyX3_ok : ∀ k, k < 4 → parseFieldDescriptor (TX3 k).2.2.1 = some (tyX3 k) := by decide +kernel
abbrev cX3_init : ByteArray := prog_5_method_1_code
def yX3_init : MethodName := ⟨RX3, "<init>", "()V"⟩
abbrev cX3_isFull : ByteArray := prog_5_method_2_code
def yX3_isFull : MethodName := ⟨RX3, "isFull", "()Z"⟩
abbrev cX3_find : ByteArray := prog_5_method_3_code
def yX3_find : MethodName := ⟨RX3, "find", "(I)LLateClaims$Claim;"⟩
abbrev cX3_add : ByteArray := prog_5_method_4_code
def yX3_add : MethodName := ⟨RX3, "add", "(LLateClaims$Ticket;I)I"⟩
abbrev cX3_addToBalances : ByteArray := prog_5_method_5_code
def yX3_addToBalances : MethodName := ⟨RX3, "addToBalances", "(LLateClaims$Claim;I)V"⟩
abbrev cX3_fewestPayments : ByteArray := prog_5_method_6_code
def yX3_fewestPayments : MethodName := ⟨RX3, "fewestPayments", "()I"⟩
abbrev cX3_togetherIn : ByteArray := prog_5_method_7_code
def yX3_togetherIn : MethodName := ⟨RX3, "togetherIn", "(I)I"⟩
def RX4 : String := "LateClaims$Laws"
def TX4 : u_T := fun k => match k with
  | 0 => ("LateClaims$Laws", "lands", "[I", true)
  | 1 => ("LateClaims$Laws", "fromDays", "[I", true)
  | 2 => ("LateClaims$Laws", "fromMinutes", "[I", true)
  | 3 => ("LateClaims$Laws", "fromMiles", "[I", true)
  | 4 => ("LateClaims$Laws", "sums", "[I", true)
  | 5 => ("LateClaims$Laws", "size", "I", false)
  | 6 => ("LateClaims$Laws", "excuseLands", "[I", true)
  | 7 => ("LateClaims$Laws", "excuseCauses", "[I", true)
  | 8 => ("LateClaims$Laws", "excuseDays", "[I", true)
  | 9 => ("LateClaims$Laws", "toldDays", "[I", true)
  | 10 => ("LateClaims$Laws", "excused", "[Z", true)
  | _ => ("LateClaims$Laws", "excuses", "I", false)
def tyX4 : Nat → FieldType := fun k => match k with
  | 0 => .array .int
  | 1 => .array .int
  | 2 => .array .int
  | 3 => .array .int
  | 4 => .array .int
  | 5 => .int
  | 6 => .array .int
  | 7 => .array .int
  | 8 => .array .int
  | 9 => .array .int
  | 10 => .array .boolean
  | _ => .int
abbrev wsX40 : List Cond := u_ws RX4 TX4 12
theorem nmX4 : ∀ a, a < 12 → ∀ b, b < 12 → a ≠ b → (TX4 a).2.1 ≠ (TX4 b).2.1 := by decide +kernel
theorem tyX4_ok : ∀ k, k < 12 → parseFieldDescriptor (TX4 k).2.2.1 = some (tyX4 k) := by decide +kernel
abbrev cX4_init : ByteArray := prog_6_method_1_code
def yX4_init : MethodName := ⟨RX4, "<init>", "()V"⟩
abbrev cX4_isFull : ByteArray := prog_6_method_2_code
def yX4_isFull : MethodName := ⟨RX4, "isFull", "()Z"⟩
abbrev cX4_isFullOfExcuses : ByteArray := prog_6_method_3_code
def yX4_isFullOfExcuses : MethodName := ⟨RX4, "isFullOfExcuses", "()Z"⟩
abbrev cX4_add : ByteArray := prog_6_method_4_code
def yX4_add : MethodName := ⟨RX4, "add", "(IIIII)I"⟩
abbrev cX4_addExcuse : ByteArray := prog_6_method_5_code
def yX4_addExcuse : MethodName := ⟨RX4, "addExcuse", "(IIIIZ)I"⟩
abbrev cX4_landFor : ByteArray := prog_6_method_6_code
def yX4_landFor : MethodName := ⟨RX4, "landFor", "(LLateClaims$Ticket;I)I"⟩
abbrev cX4_hasRows : ByteArray := prog_6_method_7_code
def yX4_hasRows : MethodName := ⟨RX4, "hasRows", "(II)Z"⟩
abbrev cX4_isInForce : ByteArray := prog_6_method_8_code
def yX4_isInForce : MethodName := ⟨RX4, "isInForce", "(III)Z"⟩
abbrev cX4_greatestSum : ByteArray := prog_6_method_9_code
def yX4_greatestSum : MethodName := ⟨RX4, "greatestSum", "(IIII)I"⟩
abbrev cX4_isExcused : ByteArray := prog_6_method_10_code
def yX4_isExcused : MethodName := ⟨RX4, "isExcused", "(III)Z"⟩
def RX5 : String := "LateClaims$Leg"
def TX5 : u_T := fun k => match k with
  | 0 => ("LateClaims$Leg", "number", "I", true)
  | 1 => ("LateClaims$Leg", "from", "LLateClaims$Port;", true)
  | 2 => ("LateClaims$Leg", "to", "LLateClaims$Port;", true)
  | 3 => ("LateClaims$Leg", "plane", "I", true)
  | 4 => ("LateClaims$Leg", "crew", "I", true)
  | 5 => ("LateClaims$Leg", "leave", "I", true)
  | 6 => ("LateClaims$Leg", "arrive", "I", true)
  | 7 => ("LateClaims$Leg", "logged", "Z", false)
  | 8 => ("LateClaims$Leg", "left", "I", false)
  | 9 => ("LateClaims$Leg", "arrived", "I", false)
  | 10 => ("LateClaims$Leg", "rightLeft", "I", false)
  | 11 => ("LateClaims$Leg", "rightArrived", "I", false)
  | 12 => ("LateClaims$Leg", "outlate", "I", false)
  | 13 => ("LateClaims$Leg", "late", "I", false)
  | _ => ("LateClaims$Leg", "cause", "I", false)
def tyX5 : Nat → FieldType := fun k => match k with
  | 0 => .int
  | 1 => .object "LateClaims$Port"
  | 2 => .object "LateClaims$Port"
  | 3 => .int
  | 4 => .int
  | 5 => .int
  | 6 => .int
  | 7 => .boolean
  | 8 => .int
  | 9 => .int
  | 10 => .int
  | 11 => .int
  | 12 => .int
  | 13 => .int
  | _ => .int
abbrev wsX50 : List Cond := u_ws RX5 TX5 15
theorem nmX5 : ∀ a, a < 15 → ∀ b, b < 15 → a ≠ b → (TX5 a).2.1 ≠ (TX5 b).2.1 := by decide +kernel
theorem tyX5_ok : ∀ k, k < 15 → parseFieldDescriptor (TX5 k).2.2.1 = some (tyX5 k) := by decide +kernel
abbrev cX5_init : ByteArray := prog_7_method_1_code
def yX5_init : MethodName := ⟨RX5, "<init>", "(ILLateClaims$Port;LLateClaims$Port;IIII)V"⟩
abbrev cX5_enter : ByteArray := prog_7_method_2_code
def yX5_enter : MethodName := ⟨RX5, "enter", "(II)V"⟩
abbrev cX5_putRight : ByteArray := prog_7_method_3_code
def yX5_putRight : MethodName := ⟨RX5, "putRight", "()V"⟩
abbrev cX5_waitFor : ByteArray := prog_7_method_4_code
def yX5_waitFor : MethodName := ⟨RX5, "waitFor", "(LLateClaims$Leg;I)I"⟩
def RX6 : String := "LateClaims$Port"
def TX6 : u_T := fun k => match k with
  | 0 => ("LateClaims$Port", "number", "I", true)
  | 1 => ("LateClaims$Port", "land", "I", false)
  | 2 => ("LateClaims$Port", "least", "I", false)
  | _ => ("LateClaims$Port", "ahead", "I", false)
def tyX6 : Nat → FieldType := fun k => match k with
  | 0 => .int
  | 1 => .int
  | 2 => .int
  | _ => .int
abbrev wsX60 : List Cond := u_ws RX6 TX6 4
theorem nmX6 : ∀ a, a < 4 → ∀ b, b < 4 → a ≠ b → (TX6 a).2.1 ≠ (TX6 b).2.1 := by decide +kernel
theorem tyX6_ok : ∀ k, k < 4 → parseFieldDescriptor (TX6 k).2.2.1 = some (tyX6 k) := by decide +kernel
abbrev cX6_init : ByteArray := prog_8_method_1_code
def yX6_init : MethodName := ⟨RX6, "<init>", "(I)V"⟩
def RX7 : String := "LateClaims$Ports"
def TX7 : u_T := fun k => match k with
  | 0 => ("LateClaims$Ports", "all", "[LLateClaims$Port;", true)
  | 1 => ("LateClaims$Ports", "distances", "[[I", true)
  | _ => ("LateClaims$Ports", "quarrels", "I", false)
def tyX7 : Nat → FieldType := fun k => match k with
  | 0 => .array (.object "LateClaims$Port")
  | 1 => .array (.array .int)
  | _ => .int
abbrev wsX70 : List Cond := u_ws RX7 TX7 3
theorem nmX7 : ∀ a, a < 3 → ∀ b, b < 3 → a ≠ b → (TX7 a).2.1 ≠ (TX7 b).2.1 := by decide +kernel
theorem tyX7_ok : ∀ k, k < 3 → parseFieldDescriptor (TX7 k).2.2.1 = some (tyX7 k) := by decide +kernel
abbrev cX7_init : ByteArray := prog_9_method_1_code
def yX7_init : MethodName := ⟨RX7, "<init>", "()V"⟩
abbrev cX7_find : ByteArray := prog_9_method_2_code
def yX7_find : MethodName := ⟨RX7, "find", "(I)LLateClaims$Port;"⟩
abbrev cX7_milesBetween : ByteArray := prog_9_method_3_code
def yX7_milesBetween : MethodName := ⟨RX7, "milesBetween", "(LLateClaims$Port;LLateClaims$Port;)I"⟩
abbrev cX7_setMiles : ByteArray := prog_9_method_4_code
def yX7_setMiles : MethodName := ⟨RX7, "setMiles", "(LLateClaims$Port;LLateClaims$Port;I)V"⟩
abbrev cX7_take : ByteArray := prog_9_method_5_code
def yX7_take : MethodName := ⟨RX7, "take", "(LLateClaims$Port;LLateClaims$Port;I)Z"⟩
abbrev cX7_move : ByteArray := prog_9_method_6_code
def yX7_move : MethodName := ⟨RX7, "move", "(III)V"⟩
def RX8 : String := "LateClaims$Ticket"
def TX8 : u_T := fun k => match k with
  | 0 => ("LateClaims$Ticket", "number", "I", true)
  | 1 => ("LateClaims$Ticket", "first", "LLateClaims$Leg;", true)
  | 2 => ("LateClaims$Ticket", "last", "LLateClaims$Leg;", false)
  | 3 => ("LateClaims$Ticket", "legs", "[LLateClaims$Leg;", true)
  | 4 => ("LateClaims$Ticket", "size", "I", false)
  | 5 => ("LateClaims$Ticket", "owed", "[I", true)
  | _ => ("LateClaims$Ticket", "claimed", "Z", false)
def tyX8 : Nat → FieldType := fun k => match k with
  | 0 => .int
  | 1 => .object "LateClaims$Leg"
  | 2 => .object "LateClaims$Leg"
  | 3 => .array (.object "LateClaims$Leg")
  | 4 => .int
  | 5 => .array .int
  | _ => .boolean
abbrev wsX80 : List Cond := u_ws RX8 TX8 7
theorem nmX8 : ∀ a, a < 7 → ∀ b, b < 7 → a ≠ b → (TX8 a).2.1 ≠ (TX8 b).2.1 := by decide +kernel
theorem tyX8_ok : ∀ k, k < 7 → parseFieldDescriptor (TX8 k).2.2.1 = some (tyX8 k) := by decide +kernel
abbrev cX8_init : ByteArray := prog_10_method_1_code
def yX8_init : MethodName := ⟨RX8, "<init>", "(ILLateClaims$Leg;)V"⟩
abbrev cX8_isFull : ByteArray := prog_10_method_2_code
def yX8_isFull : MethodName := ⟨RX8, "isFull", "()Z"⟩
abbrev cX8_isFollowedBy : ByteArray := prog_10_method_3_code
def yX8_isFollowedBy : MethodName := ⟨RX8, "isFollowedBy", "(LLateClaims$Leg;I)Z"⟩
abbrev cX8_add : ByteArray := prog_10_method_4_code
def yX8_add : MethodName := ⟨RX8, "add", "(LLateClaims$Leg;)V"⟩
abbrev cX8_missedPlace : ByteArray := prog_10_method_5_code
def yX8_missedPlace : MethodName := ⟨RX8, "missedPlace", "(I)I"⟩
abbrev cX8_legAtFault : ByteArray := prog_10_method_6_code
def yX8_legAtFault : MethodName := ⟨RX8, "legAtFault", "(I)LLateClaims$Leg;"⟩
abbrev cX8_leaveDay : ByteArray := prog_10_method_7_code
def yX8_leaveDay : MethodName := ⟨RX8, "leaveDay", "()I"⟩
abbrev cX8_arriveDay : ByteArray := prog_10_method_8_code
def yX8_arriveDay : MethodName := ⟨RX8, "arriveDay", "()I"⟩
def RX9 : String := "LateClaims$Tickets"
def TX9 : u_T := fun k => match k with
  | 0 => ("LateClaims$Tickets", "all", "[LLateClaims$Ticket;", true)
  | _ => ("LateClaims$Tickets", "size", "I", false)
def tyX9 : Nat → FieldType := fun k => match k with
  | 0 => .array (.object "LateClaims$Ticket")
  | _ => .int
abbrev wsX90 : List Cond := u_ws RX9 TX9 2
theorem nmX9 : ∀ a, a < 2 → ∀ b, b < 2 → a ≠ b → (TX9 a).2.1 ≠ (TX9 b).2.1 := by decide +kernel
theorem tyX9_ok : ∀ k, k < 2 → parseFieldDescriptor (TX9 k).2.2.1 = some (tyX9 k) := by decide +kernel
abbrev cX9_init : ByteArray := prog_11_method_1_code
def yX9_init : MethodName := ⟨RX9, "<init>", "()V"⟩
abbrev cX9_isFull : ByteArray := prog_11_method_2_code
def yX9_isFull : MethodName := ⟨RX9, "isFull", "()Z"⟩
abbrev cX9_find : ByteArray := prog_11_method_3_code
def yX9_find : MethodName := ⟨RX9, "find", "(I)LLateClaims$Ticket;"⟩
abbrev cX9_add : ByteArray := prog_11_method_4_code
def yX9_add : MethodName := ⟨RX9, "add", "(LLateClaims$Leg;)I"⟩
def RX10 : String := "LateClaims$Timetable"
def TX10 : u_T := fun k => match k with
  | 0 => ("LateClaims$Timetable", "all", "[LLateClaims$Leg;", true)
  | 1 => ("LateClaims$Timetable", "size", "I", false)
  | 2 => ("LateClaims$Timetable", "minutesBy", "[I", true)
  | 3 => ("LateClaims$Timetable", "reached", "[Z", true)
  | _ => ("LateClaims$Timetable", "onTheWay", "[LLateClaims$Leg;", true)
def tyX10 : Nat → FieldType := fun k => match k with
  | 0 => .array (.object "LateClaims$Leg")
  | 1 => .int
  | 2 => .array .int
  | 3 => .array .boolean
  | _ => .array (.object "LateClaims$Leg")
abbrev wsX100 : List Cond := u_ws RX10 TX10 5
theorem nmX10 : ∀ a, a < 5 → ∀ b, b < 5 → a ≠ b → (TX10 a).2.1 ≠ (TX10 b).2.1 := by decide +kernel
theorem tyX10_ok : ∀ k, k < 5 → parseFieldDescriptor (TX10 k).2.2.1 = some (tyX10 k) := by decide +kernel
abbrev cX10_init : ByteArray := prog_12_method_1_code
def yX10_init : MethodName := ⟨RX10, "<init>", "()V"⟩
abbrev cX10_isFull : ByteArray := prog_12_method_2_code
def yX10_isFull : MethodName := ⟨RX10, "isFull", "()Z"⟩
abbrev cX10_find : ByteArray := prog_12_method_3_code
def yX10_find : MethodName := ⟨RX10, "find", "(I)LLateClaims$Leg;"⟩
abbrev cX10_add : ByteArray := prog_12_method_4_code
def yX10_add : MethodName := ⟨RX10, "add", "(LLateClaims$Port;LLateClaims$Port;IIII)I"⟩
abbrev cX10_putRight : ByteArray := prog_12_method_5_code
def yX10_putRight : MethodName := ⟨RX10, "putRight", "()V"⟩
abbrev cX10_countLogged : ByteArray := prog_12_method_6_code
def yX10_countLogged : MethodName := ⟨RX10, "countLogged", "()I"⟩
abbrev cX10_aheadOf : ByteArray := prog_12_method_7_code
def yX10_aheadOf : MethodName := ⟨RX10, "aheadOf", "(LLateClaims$Leg;ZI)LLateClaims$Leg;"⟩
abbrev cX10_trace : ByteArray := prog_12_method_8_code
def yX10_trace : MethodName := ⟨RX10, "trace", "(LLateClaims$Leg;II)V"⟩
abbrev cX10_greatestCause : ByteArray := prog_12_method_9_code
def yX10_greatestCause : MethodName := ⟨RX10, "greatestCause", "()I"⟩
abbrev cX10_soonestBy : ByteArray := prog_12_method_10_code
def yX10_soonestBy : MethodName := ⟨RX10, "soonestBy", "(LLateClaims$Port;ILLateClaims$Port;I)I"⟩
abbrev cX10_reach : ByteArray := prog_12_method_11_code
def yX10_reach : MethodName := ⟨RX10, "reach", "(ILLateClaims$Port;I)I"⟩
def RX11 : String := "LateClaims"
def TX11 : u_T := fun k => match k with
  | 0 => ("LateClaims", "ports", "LLateClaims$Ports;", true)
  | 1 => ("LateClaims", "timetable", "LLateClaims$Timetable;", true)
  | 2 => ("LateClaims", "tickets", "LLateClaims$Tickets;", true)
  | 3 => ("LateClaims", "laws", "LLateClaims$Laws;", true)
  | 4 => ("LateClaims", "bars", "LLateClaims$Bars;", true)
  | 5 => ("LateClaims", "claims", "LLateClaims$Claims;", true)
  | 6 => ("LateClaims", "cases", "LLateClaims$Cases;", true)
  | 7 => ("LateClaims", "settings", "[I", true)
  | 8 => ("LateClaims", "refusals", "[I", true)
  | _ => ("LateClaims", "today", "I", false)
def tyX11 : Nat → FieldType := fun k => match k with
  | 0 => .object "LateClaims$Ports"
  | 1 => .object "LateClaims$Timetable"
  | 2 => .object "LateClaims$Tickets"
  | 3 => .object "LateClaims$Laws"
  | 4 => .object "LateClaims$Bars"
  | 5 => .object "LateClaims$Claims"
  | 6 => .object "LateClaims$Cases"
  | 7 => .array .int
  | 8 => .array .int
  | _ => .int
abbrev wsX110 : List Cond := u_ws RX11 TX11 10
theorem nmX11 : ∀ a, a < 10 → ∀ b, b < 10 → a ≠ b → (TX11 a).2.1 ≠ (TX11 b).2.1 := by decide +kernel
theorem tyX11_ok : ∀ k, k < 10 → parseFieldDescriptor (TX11 k).2.2.1 = some (tyX11 k) := by decide +kernel
abbrev cX11_init : ByteArray := prog_1_method_1_code
def yX11_init : MethodName := ⟨RX11, "<init>", "()V"⟩
abbrev cX11_days : ByteArray := prog_1_method_2_code
def yX11_days : MethodName := ⟨RX11, "days", "(I)I"⟩
abbrev cX11_land : ByteArray := prog_1_method_3_code
def yX11_land : MethodName := ⟨RX11, "land", "(II)I"⟩
abbrev cX11_miles : ByteArray := prog_1_method_4_code
def yX11_miles : MethodName := ⟨RX11, "miles", "(III)I"⟩
abbrev cX11_seen : ByteArray := prog_1_method_5_code
def yX11_seen : MethodName := ⟨RX11, "seen", "(III)I"⟩
abbrev cX11_off : ByteArray := prog_1_method_6_code
def yX11_off : MethodName := ⟨RX11, "off", "(I)I"⟩
abbrev cX11_leg : ByteArray := prog_1_method_7_code
def yX11_leg : MethodName := ⟨RX11, "leg", "(IIIIII)I"⟩
abbrev cX11_log : ByteArray := prog_1_method_8_code
def yX11_log : MethodName := ⟨RX11, "log", "(III)I"⟩
abbrev cX11_cause : ByteArray := prog_1_method_9_code
def yX11_cause : MethodName := ⟨RX11, "cause", "(II)I"⟩
abbrev cX11_set : ByteArray := prog_1_method_10_code
def yX11_set : MethodName := ⟨RX11, "set", "(II)I"⟩
abbrev cX11_legOf : ByteArray := prog_1_method_11_code
def yX11_legOf : MethodName := ⟨RX11, "legOf", "(II)I"⟩
abbrev cX11_ahead : ByteArray := prog_1_method_12_code
def yX11_ahead : MethodName := ⟨RX11, "ahead", "(IZ)I"⟩
abbrev cX11_minutes : ByteArray := prog_1_method_13_code
def yX11_minutes : MethodName := ⟨RX11, "minutes", "(II)I"⟩
abbrev cX11_saved : ByteArray := prog_1_method_14_code
def yX11_saved : MethodName := ⟨RX11, "saved", "(II)I"⟩
abbrev cX11_traveller : ByteArray := prog_1_method_15_code
def yX11_traveller : MethodName := ⟨RX11, "traveller", "(I)I"⟩
abbrev cX11_then : ByteArray := prog_1_method_16_code
def yX11_then : MethodName := ⟨RX11, "then", "(II)I"⟩
abbrev cX11_missed : ByteArray := prog_1_method_17_code
def yX11_missed : MethodName := ⟨RX11, "missed", "(I)I"⟩
abbrev cX11_soonest : ByteArray := prog_1_method_18_code
def yX11_soonest : MethodName := ⟨RX11, "soonest", "(I)I"⟩
abbrev cX11_hours : ByteArray := prog_1_method_19_code
def yX11_hours : MethodName := ⟨RX11, "hours", "(I)I"⟩
abbrev cX11_blame : ByteArray := prog_1_method_20_code
def yX11_blame : MethodName := ⟨RX11, "blame", "(I)I"⟩
abbrev cX11_law : ByteArray := prog_1_method_21_code
def yX11_law : MethodName := ⟨RX11, "law", "(IIIII)I"⟩
abbrev cX11_excuse : ByteArray := prog_1_method_22_code
def yX11_excuse : MethodName := ⟨RX11, "excuse", "(IIIZ)I"⟩
abbrev cX11_sum : ByteArray := prog_1_method_23_code
def yX11_sum : MethodName := ⟨RX11, "sum", "(III)I"⟩
abbrev cX11_bar : ByteArray := prog_1_method_24_code
def yX11_bar : MethodName := ⟨RX11, "bar", "(II)I"⟩
abbrev cX11_stop : ByteArray := prog_1_method_25_code
def yX11_stop : MethodName := ⟨RX11, "stop", "(III)I"⟩
abbrev cX11_claim : ByteArray := prog_1_method_26_code
def yX11_claim : MethodName := ⟨RX11, "claim", "(I)I"⟩
abbrev cX11_claimOf : ByteArray := prog_1_method_27_code
def yX11_claimOf : MethodName := ⟨RX11, "claimOf", "(II)I"⟩
abbrev cX11_owes : ByteArray := prog_1_method_28_code
def yX11_owes : MethodName := ⟨RX11, "owes", "(III)I"⟩
abbrev cX11_pay : ByteArray := prog_1_method_29_code
def yX11_pay : MethodName := ⟨RX11, "pay", "(III)I"⟩
abbrev cX11_due : ByteArray := prog_1_method_30_code
def yX11_due : MethodName := ⟨RX11, "due", "(II)I"⟩
abbrev cX11_balance : ByteArray := prog_1_method_31_code
def yX11_balance : MethodName := ⟨RX11, "balance", "(I)I"⟩
abbrev cX11_back : ByteArray := prog_1_method_32_code
def yX11_back : MethodName := ⟨RX11, "back", "()I"⟩
abbrev cX11_judged : ByteArray := prog_1_method_33_code
def yX11_judged : MethodName := ⟨RX11, "judged", "(IIIIZI)I"⟩
abbrev cX11_odds : ByteArray := prog_1_method_34_code
def yX11_odds : MethodName := ⟨RX11, "odds", "(II)I"⟩
abbrev cX11_good : ByteArray := prog_1_method_35_code
def yX11_good : MethodName := ⟨RX11, "good", "(II)I"⟩
abbrev cX11_count : ByteArray := prog_1_method_36_code
def yX11_count : MethodName := ⟨RX11, "count", "(I)I"⟩
abbrev cX11_isOneOf : ByteArray := prog_1_method_37_code
def yX11_isOneOf : MethodName := ⟨RX11, "isOneOf", "(II)Z"⟩
abbrev cX11_refuse : ByteArray := prog_1_method_38_code
def yX11_refuse : MethodName := ⟨RX11, "refuse", "(I)I"⟩
abbrev cX11_refuseBeyond : ByteArray := prog_1_method_39_code
def yX11_refuseBeyond : MethodName := ⟨RX11, "refuseBeyond", "(I)I"⟩
abbrev cX11_gapFor : ByteArray := prog_1_method_40_code
def yX11_gapFor : MethodName := ⟨RX11, "gapFor", "(Z)I"⟩
abbrev cX11_waitOf : ByteArray := prog_1_method_41_code
def yX11_waitOf : MethodName := ⟨RX11, "waitOf", "(LLateClaims$Leg;Z)I"⟩
abbrev cX11_handedTo : ByteArray := prog_1_method_42_code
def yX11_handedTo : MethodName := ⟨RX11, "handedTo", "(LLateClaims$Leg;)I"⟩
abbrev cX11_soonestOf : ByteArray := prog_1_method_43_code
def yX11_soonestOf : MethodName := ⟨RX11, "soonestOf", "(LLateClaims$Ticket;)I"⟩
abbrev cX11_hoursOf : ByteArray := prog_1_method_44_code
def yX11_hoursOf : MethodName := ⟨RX11, "hoursOf", "(LLateClaims$Ticket;)I"⟩
abbrev cX11_blameOf : ByteArray := prog_1_method_45_code
def yX11_blameOf : MethodName := ⟨RX11, "blameOf", "(LLateClaims$Ticket;)I"⟩
abbrev cX11_sumFor : ByteArray := prog_1_method_46_code
def yX11_sumFor : MethodName := ⟨RX11, "sumFor", "(LLateClaims$Ticket;I)I"⟩
abbrev cX11_milesOf : ByteArray := prog_1_method_47_code
def yX11_milesOf : MethodName := ⟨RX11, "milesOf", "(LLateClaims$Ticket;)I"⟩
abbrev cX11_isBarred : ByteArray := prog_1_method_48_code
def yX11_isBarred : MethodName := ⟨RX11, "isBarred", "(LLateClaims$Claim;)Z"⟩
abbrev cX11_worthOf : ByteArray := prog_1_method_49_code
def yX11_worthOf : MethodName := ⟨RX11, "worthOf", "(LLateClaims$Claim;)I"⟩
abbrev cX11_countBarred : ByteArray := prog_1_method_50_code
def yX11_countBarred : MethodName := ⟨RX11, "countBarred", "()I"⟩
abbrev cX11_settleUp : ByteArray := prog_1_method_51_code
def yX11_settleUp : MethodName := ⟨RX11, "settleUp", "()V"⟩
abbrev cX11_chooseLike : ByteArray := prog_1_method_52_code
def yX11_chooseLike : MethodName := ⟨RX11, "chooseLike", "(LLateClaims$Claim;)V"⟩
def RX12 : String := "LateClaimsModel"
def TX12 : u_T := fun k => match k with
  | 0 => ("LateClaimsModel", "day", "I", false)
  | 1 => ("LateClaimsModel", "land", "[I", true)
  | 2 => ("LateClaimsModel", "miles", "[I", true)
  | 3 => ("LateClaimsModel", "least", "[I", true)
  | 4 => ("LateClaimsModel", "off", "[I", true)
  | 5 => ("LateClaimsModel", "quarrels", "I", false)
  | 6 => ("LateClaimsModel", "legs", "I", false)
  | 7 => ("LateClaimsModel", "from", "[I", true)
  | 8 => ("LateClaimsModel", "to", "[I", true)
  | 9 => ("LateClaimsModel", "plane", "[I", true)
  | 10 => ("LateClaimsModel", "crew", "[I", true)
  | 11 => ("LateClaimsModel", "leave", "[I", true)
  | 12 => ("LateClaimsModel", "arrive", "[I", true)
  | 13 => ("LateClaimsModel", "isDone", "[Z", true)
  | 14 => ("LateClaimsModel", "left", "[I", true)
  | 15 => ("LateClaimsModel", "arrived", "[I", true)
  | 16 => ("LateClaimsModel", "causeOf", "[I", true)
  | 17 => ("LateClaimsModel", "settings", "[I", true)
  | 18 => ("LateClaimsModel", "refused", "[I", true)
  | 19 => ("LateClaimsModel", "byCause", "[I", true)
  | 20 => ("LateClaimsModel", "travellers", "I", false)
  | 21 => ("LateClaimsModel", "rows", "[I", true)
  | 22 => ("LateClaimsModel", "rowMany", "[I", true)
  | 23 => ("LateClaimsModel", "isReached", "[Z", true)
  | 24 => ("LateClaimsModel", "laws", "I", false)
  | 25 => ("LateClaimsModel", "lawLand", "[I", true)
  | 26 => ("LateClaimsModel", "lawDay", "[I", true)
  | 27 => ("LateClaimsModel", "lawMinutes", "[I", true)
  | 28 => ("LateClaimsModel", "lawMiles", "[I", true)
  | 29 => ("LateClaimsModel", "lawSum", "[I", true)
  | 30 => ("LateClaimsModel", "excuses", "I", false)
  | 31 => ("LateClaimsModel", "excuseLand", "[I", true)
  | 32 => ("LateClaimsModel", "excuseCause", "[I", true)
  | 33 => ("LateClaimsModel", "excuseDay", "[I", true)
  | 34 => ("LateClaimsModel", "excuseTold", "[I", true)
  | 35 => ("LateClaimsModel", "isExcuse", "[Z", true)
  | 36 => ("LateClaimsModel", "bars", "[I", true)
  | 37 => ("LateClaimsModel", "stops", "I", false)
  | 38 => ("LateClaimsModel", "stopLand", "[I", true)
  | 39 => ("LateClaimsModel", "stopFrom", "[I", true)
  | 40 => ("LateClaimsModel", "stopTo", "[I", true)
  | 41 => ("LateClaimsModel", "claims", "I", false)
  | 42 => ("LateClaimsModel", "claimOwner", "[I", true)
  | 43 => ("LateClaimsModel", "claimDay", "[I", true)
  | 44 => ("LateClaimsModel", "owed", "[I", true)
  | 45 => ("LateClaimsModel", "paid", "[I", true)
  | 46 => ("LateClaimsModel", "sumOfSet", "[I", true)
  | 47 => ("LateClaimsModel", "partsOf", "[I", true)
  | 48 => ("LateClaimsModel", "cases", "I", false)
  | 49 => ("LateClaimsModel", "caseLand", "[I", true)
  | 50 => ("LateClaimsModel", "caseCause", "[I", true)
  | 51 => ("LateClaimsModel", "caseMinutes", "[I", true)
  | 52 => ("LateClaimsModel", "caseMiles", "[I", true)
  | 53 => ("LateClaimsModel", "isWon", "[Z", true)
  | 54 => ("LateClaimsModel", "caseCost", "[I", true)
  | 55 => ("LateClaimsModel", "likeMany", "I", false)
  | 56 => ("LateClaimsModel", "likeWon", "I", false)
  | 57 => ("LateClaimsModel", "likeCost", "I", false)
  | 58 => ("LateClaimsModel", "like", "[I", true)
  | _ => ("LateClaimsModel", "likeFar", "[I", true)
def tyX12 : Nat → FieldType := fun k => match k with
  | 0 => .int
  | 1 => .array .int
  | 2 => .array .int
  | 3 => .array .int
  | 4 => .array .int
  | 5 => .int
  | 6 => .int
  | 7 => .array .int
  | 8 => .array .int
  | 9 => .array .int
  | 10 => .array .int
  | 11 => .array .int
  | 12 => .array .int
  | 13 => .array .boolean
  | 14 => .array .int
  | 15 => .array .int
  | 16 => .array .int
  | 17 => .array .int
  | 18 => .array .int
  | 19 => .array .int
  | 20 => .int
  | 21 => .array .int
  | 22 => .array .int
  | 23 => .array .boolean
  | 24 => .int
  | 25 => .array .int
  | 26 => .array .int
  | 27 => .array .int
  | 28 => .array .int
  | 29 => .array .int
  | 30 => .int
  | 31 => .array .int
  | 32 => .array .int
  | 33 => .array .int
  | 34 => .array .int
  | 35 => .array .boolean
  | 36 => .array .int
  | 37 => .int
  | 38 => .array .int
  | 39 => .array .int
  | 40 => .array .int
  | 41 => .int
  | 42 => .array .int
  | 43 => .array .int
  | 44 => .array .int
  | 45 => .array .int
  | 46 => .array .int
  | 47 => .array .int
  | 48 => .int
  | 49 => .array .int
  | 50 => .array .int
  | 51 => .array .int
  | 52 => .array .int
  | 53 => .array .boolean
  | 54 => .array .int
  | 55 => .int
  | 56 => .int
  | 57 => .int
  | 58 => .array .int
  | _ => .array .int
abbrev wsX120 : List Cond := u_ws RX12 TX12 60
theorem nmX12 : ∀ a, a < 60 → ∀ b, b < 60 → a ≠ b → (TX12 a).2.1 ≠ (TX12 b).2.1 := by decide +kernel
theorem tyX12_ok : ∀ k, k < 60 → parseFieldDescriptor (TX12 k).2.2.1 = some (tyX12 k) := by decide +kernel
abbrev cX12_init : ByteArray := prog_14_method_1_code
def yX12_init : MethodName := ⟨RX12, "<init>", "()V"⟩
abbrev cX12_in : ByteArray := prog_14_method_3_code
def yX12_in : MethodName := ⟨RX12, "in", "(III)Z"⟩
abbrev cX12_refuse : ByteArray := prog_14_method_4_code
def yX12_refuse : MethodName := ⟨RX12, "refuse", "(I)I"⟩
abbrev cX12_refuseFar : ByteArray := prog_14_method_5_code
def yX12_refuseFar : MethodName := ⟨RX12, "refuseFar", "(I)I"⟩
abbrev cX12_isPort : ByteArray := prog_14_method_6_code
def yX12_isPort : MethodName := ⟨RX12, "isPort", "(I)Z"⟩
abbrev cX12_isLeg : ByteArray := prog_14_method_7_code
def yX12_isLeg : MethodName := ⟨RX12, "isLeg", "(I)Z"⟩
abbrev cX12_over : ByteArray := prog_14_method_8_code
def yX12_over : MethodName := ⟨RX12, "over", "(I)I"⟩
abbrev cX12_lesser : ByteArray := prog_14_method_9_code
def yX12_lesser : MethodName := ⟨RX12, "lesser", "(II)I"⟩
abbrev cX12_amount : ByteArray := prog_14_method_10_code
def yX12_amount : MethodName := ⟨RX12, "amount", "(I)I"⟩
abbrev cX12_days : ByteArray := prog_14_method_11_code
def yX12_days : MethodName := ⟨RX12, "days", "(I)I"⟩
abbrev cX12_land : ByteArray := prog_14_method_12_code
def yX12_land : MethodName := ⟨RX12, "land", "(II)I"⟩
abbrev cX12_miles : ByteArray := prog_14_method_13_code
def yX12_miles : MethodName := ⟨RX12, "miles", "(III)I"⟩
abbrev cX12_seen : ByteArray := prog_14_method_14_code
def yX12_seen : MethodName := ⟨RX12, "seen", "(III)I"⟩
abbrev cX12_off : ByteArray := prog_14_method_15_code
def yX12_off : MethodName := ⟨RX12, "off", "(I)I"⟩
abbrev cX12_leg : ByteArray := prog_14_method_16_code
def yX12_leg : MethodName := ⟨RX12, "leg", "(IIIIII)I"⟩
abbrev cX12_log : ByteArray := prog_14_method_17_code
def yX12_log : MethodName := ⟨RX12, "log", "(III)I"⟩
abbrev cX12_isCause : ByteArray := prog_14_method_18_code
def yX12_isCause : MethodName := ⟨RX12, "isCause", "(I)Z"⟩
abbrev cX12_cause : ByteArray := prog_14_method_19_code
def yX12_cause : MethodName := ⟨RX12, "cause", "(II)I"⟩
abbrev cX12_set : ByteArray := prog_14_method_20_code
def yX12_set : MethodName := ⟨RX12, "set", "(II)I"⟩
abbrev cX12_rightLeave : ByteArray := prog_14_method_21_code
def yX12_rightLeave : MethodName := ⟨RX12, "rightLeave", "(I)I"⟩
abbrev cX12_rightArrive : ByteArray := prog_14_method_22_code
def yX12_rightArrive : MethodName := ⟨RX12, "rightArrive", "(I)I"⟩
abbrev cX12_lateOf : ByteArray := prog_14_method_23_code
def yX12_lateOf : MethodName := ⟨RX12, "lateOf", "(I)I"⟩
abbrev cX12_outlateOf : ByteArray := prog_14_method_24_code
def yX12_outlateOf : MethodName := ⟨RX12, "outlateOf", "(I)I"⟩
abbrev cX12_aheadOf : ByteArray := prog_14_method_25_code
def yX12_aheadOf : MethodName := ⟨RX12, "aheadOf", "(IZ)I"⟩
abbrev cX12_waitOf : ByteArray := prog_14_method_26_code
def yX12_waitOf : MethodName := ⟨RX12, "waitOf", "(IZ)I"⟩
abbrev cX12_isByCrew : ByteArray := prog_14_method_27_code
def yX12_isByCrew : MethodName := ⟨RX12, "isByCrew", "(I)Z"⟩
abbrev cX12_handedOf : ByteArray := prog_14_method_28_code
def yX12_handedOf : MethodName := ⟨RX12, "handedOf", "(I)I"⟩
abbrev cX12_legOf : ByteArray := prog_14_method_29_code
def yX12_legOf : MethodName := ⟨RX12, "legOf", "(II)I"⟩
abbrev cX12_ahead : ByteArray := prog_14_method_30_code
def yX12_ahead : MethodName := ⟨RX12, "ahead", "(IZ)I"⟩
abbrev cX12_findMinutes : ByteArray := prog_14_method_31_code
def yX12_findMinutes : MethodName := ⟨RX12, "findMinutes", "(I)V"⟩
abbrev cX12_minutes : ByteArray := prog_14_method_32_code
def yX12_minutes : MethodName := ⟨RX12, "minutes", "(II)I"⟩
abbrev cX12_saved : ByteArray := prog_14_method_33_code
def yX12_saved : MethodName := ⟨RX12, "saved", "(II)I"⟩
abbrev cX12_isTraveller : ByteArray := prog_14_method_34_code
def yX12_isTraveller : MethodName := ⟨RX12, "isTraveller", "(I)Z"⟩
abbrev cX12_traveller : ByteArray := prog_14_method_35_code
def yX12_traveller : MethodName := ⟨RX12, "traveller", "(I)I"⟩
abbrev cX12_then : ByteArray := prog_14_method_36_code
def yX12_then : MethodName := ⟨RX12, "then", "(II)I"⟩
abbrev cX12_firstLeg : ByteArray := prog_14_method_37_code
def yX12_firstLeg : MethodName := ⟨RX12, "firstLeg", "(I)I"⟩
abbrev cX12_lastLeg : ByteArray := prog_14_method_38_code
def yX12_lastLeg : MethodName := ⟨RX12, "lastLeg", "(I)I"⟩
abbrev cX12_missedOf : ByteArray := prog_14_method_39_code
def yX12_missedOf : MethodName := ⟨RX12, "missedOf", "(I)I"⟩
abbrev cX12_missed : ByteArray := prog_14_method_40_code
def yX12_missed : MethodName := ⟨RX12, "missed", "(I)I"⟩
abbrev cX12_soonestOf : ByteArray := prog_14_method_41_code
def yX12_soonestOf : MethodName := ⟨RX12, "soonestOf", "(I)I"⟩
abbrev cX12_soonest : ByteArray := prog_14_method_42_code
def yX12_soonest : MethodName := ⟨RX12, "soonest", "(I)I"⟩
abbrev cX12_hoursOf : ByteArray := prog_14_method_43_code
def yX12_hoursOf : MethodName := ⟨RX12, "hoursOf", "(I)I"⟩
abbrev cX12_hours : ByteArray := prog_14_method_44_code
def yX12_hours : MethodName := ⟨RX12, "hours", "(I)I"⟩
abbrev cX12_blameOf : ByteArray := prog_14_method_45_code
def yX12_blameOf : MethodName := ⟨RX12, "blameOf", "(I)I"⟩
abbrev cX12_blame : ByteArray := prog_14_method_46_code
def yX12_blame : MethodName := ⟨RX12, "blame", "(I)I"⟩
abbrev cX12_isLand : ByteArray := prog_14_method_47_code
def yX12_isLand : MethodName := ⟨RX12, "isLand", "(I)Z"⟩
abbrev cX12_law : ByteArray := prog_14_method_48_code
def yX12_law : MethodName := ⟨RX12, "law", "(IIIII)I"⟩
abbrev cX12_excuse : ByteArray := prog_14_method_49_code
def yX12_excuse : MethodName := ⟨RX12, "excuse", "(IIIZ)I"⟩
abbrev cX12_hasLaw : ByteArray := prog_14_method_50_code
def yX12_hasLaw : MethodName := ⟨RX12, "hasLaw", "(II)Z"⟩
abbrev cX12_lawOf : ByteArray := prog_14_method_51_code
def yX12_lawOf : MethodName := ⟨RX12, "lawOf", "(II)I"⟩
abbrev cX12_milesOf : ByteArray := prog_14_method_52_code
def yX12_milesOf : MethodName := ⟨RX12, "milesOf", "(I)I"⟩
abbrev cX12_isExcused : ByteArray := prog_14_method_53_code
def yX12_isExcused : MethodName := ⟨RX12, "isExcused", "(II)Z"⟩
abbrev cX12_sumOf : ByteArray := prog_14_method_54_code
def yX12_sumOf : MethodName := ⟨RX12, "sumOf", "(II)I"⟩
abbrev cX12_sum : ByteArray := prog_14_method_55_code
def yX12_sum : MethodName := ⟨RX12, "sum", "(III)I"⟩
abbrev cX12_bar : ByteArray := prog_14_method_56_code
def yX12_bar : MethodName := ⟨RX12, "bar", "(II)I"⟩
abbrev cX12_stop : ByteArray := prog_14_method_57_code
def yX12_stop : MethodName := ⟨RX12, "stop", "(III)I"⟩
abbrev cX12_isClaim : ByteArray := prog_14_method_58_code
def yX12_isClaim : MethodName := ⟨RX12, "isClaim", "(I)Z"⟩
abbrev cX12_claim : ByteArray := prog_14_method_59_code
def yX12_claim : MethodName := ⟨RX12, "claim", "(I)I"⟩
abbrev cX12_isBarred : ByteArray := prog_14_method_60_code
def yX12_isBarred : MethodName := ⟨RX12, "isBarred", "(I)Z"⟩
abbrev cX12_worthOf : ByteArray := prog_14_method_61_code
def yX12_worthOf : MethodName := ⟨RX12, "worthOf", "(I)I"⟩
abbrev cX12_settledOf : ByteArray := prog_14_method_62_code
def yX12_settledOf : MethodName := ⟨RX12, "settledOf", "(I)I"⟩
abbrev cX12_claimOf : ByteArray := prog_14_method_63_code
def yX12_claimOf : MethodName := ⟨RX12, "claimOf", "(II)I"⟩
abbrev cX12_isPayer : ByteArray := prog_14_method_64_code
def yX12_isPayer : MethodName := ⟨RX12, "isPayer", "(I)Z"⟩
abbrev cX12_owes : ByteArray := prog_14_method_65_code
def yX12_owes : MethodName := ⟨RX12, "owes", "(III)I"⟩
abbrev cX12_pay : ByteArray := prog_14_method_66_code
def yX12_pay : MethodName := ⟨RX12, "pay", "(III)I"⟩
abbrev cX12_dueOf : ByteArray := prog_14_method_67_code
def yX12_dueOf : MethodName := ⟨RX12, "dueOf", "(II)I"⟩
abbrev cX12_due : ByteArray := prog_14_method_68_code
def yX12_due : MethodName := ⟨RX12, "due", "(II)I"⟩
abbrev cX12_balanceOf : ByteArray := prog_14_method_69_code
def yX12_balanceOf : MethodName := ⟨RX12, "balanceOf", "(I)I"⟩
abbrev cX12_balance : ByteArray := prog_14_method_70_code
def yX12_balance : MethodName := ⟨RX12, "balance", "(I)I"⟩
abbrev cX12_back : ByteArray := prog_14_method_71_code
def yX12_back : MethodName := ⟨RX12, "back", "()I"⟩
abbrev cX12_judged : ByteArray := prog_14_method_72_code
def yX12_judged : MethodName := ⟨RX12, "judged", "(IIIIZI)I"⟩
abbrev cX12_findLike : ByteArray := prog_14_method_73_code
def yX12_findLike : MethodName := ⟨RX12, "findLike", "(I)V"⟩
abbrev cX12_odds : ByteArray := prog_14_method_74_code
def yX12_odds : MethodName := ⟨RX12, "odds", "(II)I"⟩
abbrev cX12_good : ByteArray := prog_14_method_75_code
def yX12_good : MethodName := ⟨RX12, "good", "(II)I"⟩
abbrev cX12_count : ByteArray := prog_14_method_76_code
def yX12_count : MethodName := ⟨RX12, "count", "(I)I"⟩
def RJx8e188 : String := "java/lang/Cloneable"
def TJx8e188 : u_T := fun k => match k with
  | _ => ("", "", "", false)
def tyJx8e188 : Nat → FieldType := fun k => match k with
  | _ => .int
abbrev wsJx8e1880 : List Cond := u_ws RJx8e188 TJx8e188 0
theorem nmJx8e188 : ∀ a, a < 0 → ∀ b, b < 0 → a ≠ b → (TJx8e188 a).2.1 ≠ (TJx8e188 b).2.1 := by decide +kernel
theorem tyJx8e188_ok : ∀ k, k < 0 → parseFieldDescriptor (TJx8e188 k).2.2.1 = some (tyJx8e188 k) := by decide +kernel
def RJ9 : String := "java/lang/Math"
def TJ9 : u_T := fun k => match k with
  | _ => ("", "", "", false)
def tyJ9 : Nat → FieldType := fun k => match k with
  | _ => .int
abbrev wsJ90 : List Cond := u_ws RJ9 TJ9 0
theorem nmJ9 : ∀ a, a < 0 → ∀ b, b < 0 → a ≠ b → (TJ9 a).2.1 ≠ (TJ9 b).2.1 := by decide +kernel
theorem tyJ9_ok : ∀ k, k < 0 → parseFieldDescriptor (TJ9 k).2.2.1 = some (tyJ9 k) := by decide +kernel
abbrev cJ9_abs_0f7a4 : ByteArray := prog_16_method_59_code
def yJ9_abs_0f7a4 : MethodName := ⟨RJ9, "abs", "(I)I"⟩
abbrev cJ9_max_7cf53 : ByteArray := prog_16_method_65_code
def yJ9_max_7cf53 : MethodName := ⟨RJ9, "max", "(II)I"⟩
abbrev cJ9_min_7cf53 : ByteArray := prog_16_method_69_code
def yJ9_min_7cf53 : MethodName := ⟨RJ9, "min", "(II)I"⟩
def RJ7 : String := "java/util/Arrays"
def TJ7 : u_T := fun k => match k with
  | _ => ("", "", "", false)
def tyJ7 : Nat → FieldType := fun k => match k with
  | _ => .int
abbrev wsJ70 : List Cond := u_ws RJ7 TJ7 0
theorem nmJ7 : ∀ a, a < 0 → ∀ b, b < 0 → a ≠ b → (TJ7 a).2.1 ≠ (TJ7 b).2.1 := by decide +kernel
theorem tyJ7_ok : ∀ k, k < 0 → parseFieldDescriptor (TJ7 k).2.2.1 = some (tyJ7 k) := by decide +kernel
abbrev cJ7_fill_53178 : ByteArray := prog_17_method_103_code
def yJ7_fill_53178 : MethodName := ⟨RJ7, "fill", "([II)V"⟩
def RL : String := "LateClaimsLaw"
abbrev cL_law : ByteArray := code
def yL_law : MethodName := ⟨RL, "law", "([I)Z"⟩
abbrev vwCl : List vw_C := [(RX0, TX0, 5), (RX1, TX1, 11), (RX2, TX2, 4), (RX3, TX3, 4), (RX4, TX4, 12), (RX5, TX5, 15), (RX6, TX6, 4), (RX7, TX7, 3), (RX8, TX8, 7), (RX9, TX9, 2), (RX10, TX10, 5), (RX11, TX11, 10), (RX12, TX12, 60)]
end
section
theorem dX12_init_0 : decode cX12_init 0 = .ok (.aload_n 0, 1) := by decide +kernel
theorem dX12_init_1 : decode cX12_init 1 = .ok (.invokespecial 1, 3) := by decide +kernel
theorem dX12_init_4 : decode cX12_init 4 = .ok (.aload_n 0, 1) := by decide +kernel
theorem dX12_init_5 : decode cX12_init 5 = .ok (.bipush 10, 2) := by decide +kernel
theorem dX12_init_7 : decode cX12_init 7 = .ok (.newarray .int, 2) := by decide +kernel
theorem dX12_init_9 : decode cX12_init 9 = .ok (.putfield 7, 3) := by decide +kernel
theorem dX12_init_12 : decode cX12_init 12 = .ok (.aload_n 0, 1) := by decide +kernel
theorem dX12_init_13 : decode cX12_init 13 = .ok (.bipush 100, 2) := by decide +kernel
theorem dX12_init_15 : decode cX12_init 15 = .ok (.newarray .int, 2) := by decide +kernel
theorem dX12_init_17 : decode cX12_init 17 = .ok (.putfield 13, 3) := by decide +kernel
theorem dX12_init_20 : decode cX12_init 20 = .ok (.aload_n 0, 1) := by decide +kernel
theorem dX12_init_21 : decode cX12_init 21 = .ok (.bipush 10, 2) := by decide +kernel
theorem dX12_init_23 : decode cX12_init 23 = .ok (.newarray .int, 2) := by decide +kernel
theorem dX12_init_25 : decode cX12_init 25 = .ok (.dup, 1) := by decide +kernel
theorem dX12_init_26 : decode cX12_init 26 = .ok (.iconst 0, 1) := by decide +kernel
theorem dX12_init_27 : decode cX12_init 27 = .ok (.iconst 0, 1) := by decide +kernel
theorem dX12_init_28 : decode cX12_init 28 = .ok (.iastore, 1) := by decide +kernel
theorem dX12_init_29 : decode cX12_init 29 = .ok (.dup, 1) := by decide +kernel
theorem dX12_init_30 : decode cX12_init 30 = .ok (.iconst 1, 1) := by decide +kernel
theorem dX12_init_31 : decode cX12_init 31 = .ok (.iconst 1, 1) := by decide +kernel
theorem dX12_init_32 : decode cX12_init 32 = .ok (.iastore, 1) := by decide +kernel
theorem dX12_init_33 : decode cX12_init 33 = .ok (.dup, 1) := by decide +kernel
theorem dX12_init_34 : decode cX12_init 34 = .ok (.iconst 2, 1) := by decide +kernel
theorem dX12_init_35 : decode cX12_init 35 = .ok (.iconst 2, 1) := by decide +kernel
theorem dX12_init_36 : decode cX12_init 36 = .ok (.iastore, 1) := by decide +kernel
theorem dX12_init_37 : decode cX12_init 37 = .ok (.dup, 1) := by decide +kernel
theorem dX12_init_38 : decode cX12_init 38 = .ok (.iconst 3, 1) := by decide +kernel
theorem dX12_init_39 : decode cX12_init 39 = .ok (.iconst 3, 1) := by decide +kernel
theorem dX12_init_40 : decode cX12_init 40 = .ok (.iastore, 1) := by decide +kernel
theorem dX12_init_41 : decode cX12_init 41 = .ok (.dup, 1) := by decide +kernel
theorem dX12_init_42 : decode cX12_init 42 = .ok (.iconst 4, 1) := by decide +kernel
theorem dX12_init_43 : decode cX12_init 43 = .ok (.iconst 4, 1) := by decide +kernel
theorem dX12_init_44 : decode cX12_init 44 = .ok (.iastore, 1) := by decide +kernel
theorem dX12_init_45 : decode cX12_init 45 = .ok (.dup, 1) := by decide +kernel
theorem dX12_init_46 : decode cX12_init 46 = .ok (.iconst 5, 1) := by decide +kernel
theorem dX12_init_47 : decode cX12_init 47 = .ok (.iconst 5, 1) := by decide +kernel
theorem dX12_init_48 : decode cX12_init 48 = .ok (.iastore, 1) := by decide +kernel
theorem dX12_init_49 : decode cX12_init 49 = .ok (.dup, 1) := by decide +kernel
theorem dX12_init_50 : decode cX12_init 50 = .ok (.bipush 6, 2) := by decide +kernel
theorem dX12_init_52 : decode cX12_init 52 = .ok (.bipush 6, 2) := by decide +kernel
theorem dX12_init_54 : decode cX12_init 54 = .ok (.iastore, 1) := by decide +kernel
theorem dX12_init_55 : decode cX12_init 55 = .ok (.dup, 1) := by decide +kernel
theorem dX12_init_56 : decode cX12_init 56 = .ok (.bipush 7, 2) := by decide +kernel
theorem dX12_init_58 : decode cX12_init 58 = .ok (.bipush 7, 2) := by decide +kernel
theorem dX12_init_60 : decode cX12_init 60 = .ok (.iastore, 1) := by decide +kernel
theorem dX12_init_61 : decode cX12_init 61 = .ok (.dup, 1) := by decide +kernel
theorem dX12_init_62 : decode cX12_init 62 = .ok (.bipush 8, 2) := by decide +kernel
theorem dX12_init_64 : decode cX12_init 64 = .ok (.bipush 8, 2) := by decide +kernel
theorem dX12_init_66 : decode cX12_init 66 = .ok (.iastore, 1) := by decide +kernel
theorem dX12_init_67 : decode cX12_init 67 = .ok (.dup, 1) := by decide +kernel
theorem dX12_init_68 : decode cX12_init 68 = .ok (.bipush 9, 2) := by decide +kernel
theorem dX12_init_70 : decode cX12_init 70 = .ok (.bipush 9, 2) := by decide +kernel
theorem dX12_init_72 : decode cX12_init 72 = .ok (.iastore, 1) := by decide +kernel
theorem dX12_init_73 : decode cX12_init 73 = .ok (.putfield 16, 3) := by decide +kernel
theorem dX12_init_76 : decode cX12_init 76 = .ok (.aload_n 0, 1) := by decide +kernel
theorem dX12_init_77 : decode cX12_init 77 = .ok (.bipush 10, 2) := by decide +kernel
theorem dX12_init_79 : decode cX12_init 79 = .ok (.newarray .int, 2) := by decide +kernel
theorem dX12_init_81 : decode cX12_init 81 = .ok (.putfield 19, 3) := by decide +kernel
theorem dX12_init_84 : decode cX12_init 84 = .ok (.aload_n 0, 1) := by decide +kernel
theorem dX12_init_85 : decode cX12_init 85 = .ok (.bipush 40, 2) := by decide +kernel
theorem dX12_init_87 : decode cX12_init 87 = .ok (.newarray .int, 2) := by decide +kernel
theorem dX12_init_89 : decode cX12_init 89 = .ok (.putfield 22, 3) := by decide +kernel
theorem dX12_init_92 : decode cX12_init 92 = .ok (.aload_n 0, 1) := by decide +kernel
theorem dX12_init_93 : decode cX12_init 93 = .ok (.bipush 40, 2) := by decide +kernel
theorem dX12_init_95 : decode cX12_init 95 = .ok (.newarray .int, 2) := by decide +kernel
theorem dX12_init_97 : decode cX12_init 97 = .ok (.putfield 25, 3) := by decide +kernel
theorem dX12_init_100 : decode cX12_init 100 = .ok (.aload_n 0, 1) := by decide +kernel
theorem dX12_init_101 : decode cX12_init 101 = .ok (.bipush 40, 2) := by decide +kernel
theorem dX12_init_103 : decode cX12_init 103 = .ok (.newarray .int, 2) := by decide +kernel
theorem dX12_init_105 : decode cX12_init 105 = .ok (.putfield 28, 3) := by decide +kernel
theorem dX12_init_108 : decode cX12_init 108 = .ok (.aload_n 0, 1) := by decide +kernel
theorem dX12_init_109 : decode cX12_init 109 = .ok (.bipush 40, 2) := by decide +kernel
theorem dX12_init_111 : decode cX12_init 111 = .ok (.newarray .int, 2) := by decide +kernel
theorem dX12_init_113 : decode cX12_init 113 = .ok (.putfield 31, 3) := by decide +kernel
theorem dX12_init_116 : decode cX12_init 116 = .ok (.aload_n 0, 1) := by decide +kernel
theorem dX12_init_117 : decode cX12_init 117 = .ok (.bipush 40, 2) := by decide +kernel
theorem dX12_init_119 : decode cX12_init 119 = .ok (.newarray .int, 2) := by decide +kernel
theorem dX12_init_121 : decode cX12_init 121 = .ok (.putfield 34, 3) := by decide +kernel
theorem dX12_init_124 : decode cX12_init 124 = .ok (.aload_n 0, 1) := by decide +kernel
theorem dX12_init_125 : decode cX12_init 125 = .ok (.bipush 40, 2) := by decide +kernel
theorem dX12_init_127 : decode cX12_init 127 = .ok (.newarray .int, 2) := by decide +kernel
theorem dX12_init_129 : decode cX12_init 129 = .ok (.putfield 37, 3) := by decide +kernel
theorem dX12_init_132 : decode cX12_init 132 = .ok (.aload_n 0, 1) := by decide +kernel
theorem dX12_init_133 : decode cX12_init 133 = .ok (.bipush 40, 2) := by decide +kernel
theorem dX12_init_135 : decode cX12_init 135 = .ok (.newarray .boolean, 2) := by decide +kernel
theorem dX12_init_137 : decode cX12_init 137 = .ok (.putfield 40, 3) := by decide +kernel
theorem dX12_init_140 : decode cX12_init 140 = .ok (.aload_n 0, 1) := by decide +kernel
theorem dX12_init_141 : decode cX12_init 141 = .ok (.bipush 40, 2) := by decide +kernel
theorem dX12_init_143 : decode cX12_init 143 = .ok (.newarray .int, 2) := by decide +kernel
theorem dX12_init_145 : decode cX12_init 145 = .ok (.putfield 44, 3) := by decide +kernel
theorem dX12_init_148 : decode cX12_init 148 = .ok (.aload_n 0, 1) := by decide +kernel
theorem dX12_init_149 : decode cX12_init 149 = .ok (.bipush 40, 2) := by decide +kernel
theorem dX12_init_151 : decode cX12_init 151 = .ok (.newarray .int, 2) := by decide +kernel
theorem dX12_init_153 : decode cX12_init 153 = .ok (.putfield 47, 3) := by decide +kernel
theorem dX12_init_156 : decode cX12_init 156 = .ok (.aload_n 0, 1) := by decide +kernel
theorem dX12_init_157 : decode cX12_init 157 = .ok (.bipush 40, 2) := by decide +kernel
theorem dX12_init_159 : decode cX12_init 159 = .ok (.newarray .int, 2) := by decide +kernel
theorem dX12_init_161 : decode cX12_init 161 = .ok (.putfield 50, 3) := by decide +kernel
theorem dX12_init_164 : decode cX12_init 164 = .ok (.aload_n 0, 1) := by decide +kernel
theorem dX12_init_165 : decode cX12_init 165 = .ok (.iconst 4, 1) := by decide +kernel
theorem dX12_init_166 : decode cX12_init 166 = .ok (.newarray .int, 2) := by decide +kernel
theorem dX12_init_168 : decode cX12_init 168 = .ok (.dup, 1) := by decide +kernel
theorem dX12_init_169 : decode cX12_init 169 = .ok (.iconst 0, 1) := by decide +kernel
theorem dX12_init_170 : decode cX12_init 170 = .ok (.bipush 30, 2) := by decide +kernel
theorem dX12_init_172 : decode cX12_init 172 = .ok (.iastore, 1) := by decide +kernel
theorem dX12_init_173 : decode cX12_init 173 = .ok (.dup, 1) := by decide +kernel
theorem dX12_init_174 : decode cX12_init 174 = .ok (.iconst 1, 1) := by decide +kernel
theorem dX12_init_175 : decode cX12_init 175 = .ok (.bipush 60, 2) := by decide +kernel
theorem dX12_init_177 : decode cX12_init 177 = .ok (.iastore, 1) := by decide +kernel
theorem dX12_init_178 : decode cX12_init 178 = .ok (.dup, 1) := by decide +kernel
theorem dX12_init_179 : decode cX12_init 179 = .ok (.iconst 2, 1) := by decide +kernel
theorem dX12_init_180 : decode cX12_init 180 = .ok (.bipush 45, 2) := by decide +kernel
theorem dX12_init_182 : decode cX12_init 182 = .ok (.iastore, 1) := by decide +kernel
theorem dX12_init_183 : decode cX12_init 183 = .ok (.dup, 1) := by decide +kernel
theorem dX12_init_184 : decode cX12_init 184 = .ok (.iconst 3, 1) := by decide +kernel
theorem dX12_init_185 : decode cX12_init 185 = .ok (.iconst 5, 1) := by decide +kernel
theorem dX12_init_186 : decode cX12_init 186 = .ok (.iastore, 1) := by decide +kernel
theorem dX12_init_187 : decode cX12_init 187 = .ok (.putfield 53, 3) := by decide +kernel
theorem dX12_init_190 : decode cX12_init 190 = .ok (.aload_n 0, 1) := by decide +kernel
theorem dX12_init_191 : decode cX12_init 191 = .ok (.bipush 7, 2) := by decide +kernel
theorem dX12_init_193 : decode cX12_init 193 = .ok (.newarray .int, 2) := by decide +kernel
theorem dX12_init_195 : decode cX12_init 195 = .ok (.putfield 56, 3) := by decide +kernel
theorem dX12_init_198 : decode cX12_init 198 = .ok (.aload_n 0, 1) := by decide +kernel
theorem dX12_init_199 : decode cX12_init 199 = .ok (.bipush 6, 2) := by decide +kernel
theorem dX12_init_201 : decode cX12_init 201 = .ok (.newarray .int, 2) := by decide +kernel
theorem dX12_init_203 : decode cX12_init 203 = .ok (.putfield 59, 3) := by decide +kernel
theorem dX12_init_206 : decode cX12_init 206 = .ok (.aload_n 0, 1) := by decide +kernel
theorem dX12_init_207 : decode cX12_init 207 = .ok (.bipush 80, 2) := by decide +kernel
theorem dX12_init_209 : decode cX12_init 209 = .ok (.newarray .int, 2) := by decide +kernel
theorem dX12_init_211 : decode cX12_init 211 = .ok (.putfield 62, 3) := by decide +kernel
theorem dX12_init_214 : decode cX12_init 214 = .ok (.aload_n 0, 1) := by decide +kernel
theorem dX12_init_215 : decode cX12_init 215 = .ok (.bipush 20, 2) := by decide +kernel
theorem dX12_init_217 : decode cX12_init 217 = .ok (.newarray .int, 2) := by decide +kernel
theorem dX12_init_219 : decode cX12_init 219 = .ok (.putfield 65, 3) := by decide +kernel
theorem dX12_init_222 : decode cX12_init 222 = .ok (.aload_n 0, 1) := by decide +kernel
theorem dX12_init_223 : decode cX12_init 223 = .ok (.bipush 40, 2) := by decide +kernel
theorem dX12_init_225 : decode cX12_init 225 = .ok (.newarray .boolean, 2) := by decide +kernel
theorem dX12_init_227 : decode cX12_init 227 = .ok (.putfield 68, 3) := by decide +kernel
theorem dX12_init_230 : decode cX12_init 230 = .ok (.aload_n 0, 1) := by decide +kernel
theorem dX12_init_231 : decode cX12_init 231 = .ok (.bipush 30, 2) := by decide +kernel
theorem dX12_init_233 : decode cX12_init 233 = .ok (.newarray .int, 2) := by decide +kernel
theorem dX12_init_235 : decode cX12_init 235 = .ok (.putfield 71, 3) := by decide +kernel
theorem dX12_init_238 : decode cX12_init 238 = .ok (.aload_n 0, 1) := by decide +kernel
theorem dX12_init_239 : decode cX12_init 239 = .ok (.bipush 30, 2) := by decide +kernel
theorem dX12_init_241 : decode cX12_init 241 = .ok (.newarray .int, 2) := by decide +kernel
theorem dX12_init_243 : decode cX12_init 243 = .ok (.putfield 74, 3) := by decide +kernel
theorem dX12_init_246 : decode cX12_init 246 = .ok (.aload_n 0, 1) := by decide +kernel
theorem dX12_init_247 : decode cX12_init 247 = .ok (.bipush 30, 2) := by decide +kernel
theorem dX12_init_249 : decode cX12_init 249 = .ok (.newarray .int, 2) := by decide +kernel
theorem dX12_init_251 : decode cX12_init 251 = .ok (.putfield 77, 3) := by decide +kernel
theorem dX12_init_254 : decode cX12_init 254 = .ok (.aload_n 0, 1) := by decide +kernel
theorem dX12_init_255 : decode cX12_init 255 = .ok (.bipush 30, 2) := by decide +kernel
theorem dX12_init_257 : decode cX12_init 257 = .ok (.newarray .int, 2) := by decide +kernel
theorem dX12_init_259 : decode cX12_init 259 = .ok (.putfield 80, 3) := by decide +kernel
theorem dX12_init_262 : decode cX12_init 262 = .ok (.aload_n 0, 1) := by decide +kernel
theorem dX12_init_263 : decode cX12_init 263 = .ok (.bipush 30, 2) := by decide +kernel
theorem dX12_init_265 : decode cX12_init 265 = .ok (.newarray .int, 2) := by decide +kernel
theorem dX12_init_267 : decode cX12_init 267 = .ok (.putfield 83, 3) := by decide +kernel
theorem dX12_init_270 : decode cX12_init 270 = .ok (.aload_n 0, 1) := by decide +kernel
theorem dX12_init_271 : decode cX12_init 271 = .ok (.bipush 40, 2) := by decide +kernel
theorem dX12_init_273 : decode cX12_init 273 = .ok (.newarray .int, 2) := by decide +kernel
theorem dX12_init_275 : decode cX12_init 275 = .ok (.putfield 86, 3) := by decide +kernel
theorem dX12_init_278 : decode cX12_init 278 = .ok (.aload_n 0, 1) := by decide +kernel
theorem dX12_init_279 : decode cX12_init 279 = .ok (.bipush 40, 2) := by decide +kernel
theorem dX12_init_281 : decode cX12_init 281 = .ok (.newarray .int, 2) := by decide +kernel
theorem dX12_init_283 : decode cX12_init 283 = .ok (.putfield 89, 3) := by decide +kernel
theorem dX12_init_286 : decode cX12_init 286 = .ok (.aload_n 0, 1) := by decide +kernel
theorem dX12_init_287 : decode cX12_init 287 = .ok (.bipush 40, 2) := by decide +kernel
theorem dX12_init_289 : decode cX12_init 289 = .ok (.newarray .int, 2) := by decide +kernel
theorem dX12_init_291 : decode cX12_init 291 = .ok (.putfield 92, 3) := by decide +kernel
theorem dX12_init_294 : decode cX12_init 294 = .ok (.aload_n 0, 1) := by decide +kernel
theorem dX12_init_295 : decode cX12_init 295 = .ok (.bipush 40, 2) := by decide +kernel
theorem dX12_init_297 : decode cX12_init 297 = .ok (.newarray .int, 2) := by decide +kernel
theorem dX12_init_299 : decode cX12_init 299 = .ok (.putfield 95, 3) := by decide +kernel
theorem dX12_init_302 : decode cX12_init 302 = .ok (.aload_n 0, 1) := by decide +kernel
theorem dX12_init_303 : decode cX12_init 303 = .ok (.bipush 40, 2) := by decide +kernel
theorem dX12_init_305 : decode cX12_init 305 = .ok (.newarray .boolean, 2) := by decide +kernel
theorem dX12_init_307 : decode cX12_init 307 = .ok (.putfield 98, 3) := by decide +kernel
theorem dX12_init_310 : decode cX12_init 310 = .ok (.aload_n 0, 1) := by decide +kernel
theorem dX12_init_311 : decode cX12_init 311 = .ok (.iconst 4, 1) := by decide +kernel
theorem dX12_init_312 : decode cX12_init 312 = .ok (.newarray .int, 2) := by decide +kernel
theorem dX12_init_314 : decode cX12_init 314 = .ok (.putfield 101, 3) := by decide +kernel
theorem dX12_init_317 : decode cX12_init 317 = .ok (.aload_n 0, 1) := by decide +kernel
theorem dX12_init_318 : decode cX12_init 318 = .ok (.bipush 20, 2) := by decide +kernel
theorem dX12_init_320 : decode cX12_init 320 = .ok (.newarray .int, 2) := by decide +kernel
theorem dX12_init_322 : decode cX12_init 322 = .ok (.putfield 104, 3) := by decide +kernel
theorem dX12_init_325 : decode cX12_init 325 = .ok (.aload_n 0, 1) := by decide +kernel
theorem dX12_init_326 : decode cX12_init 326 = .ok (.bipush 20, 2) := by decide +kernel
theorem dX12_init_328 : decode cX12_init 328 = .ok (.newarray .int, 2) := by decide +kernel
theorem dX12_init_330 : decode cX12_init 330 = .ok (.putfield 107, 3) := by decide +kernel
theorem dX12_init_333 : decode cX12_init 333 = .ok (.aload_n 0, 1) := by decide +kernel
theorem dX12_init_334 : decode cX12_init 334 = .ok (.bipush 20, 2) := by decide +kernel
theorem dX12_init_336 : decode cX12_init 336 = .ok (.newarray .int, 2) := by decide +kernel
theorem dX12_init_338 : decode cX12_init 338 = .ok (.putfield 110, 3) := by decide +kernel
theorem dX12_init_341 : decode cX12_init 341 = .ok (.aload_n 0, 1) := by decide +kernel
theorem dX12_init_342 : decode cX12_init 342 = .ok (.bipush 30, 2) := by decide +kernel
theorem dX12_init_344 : decode cX12_init 344 = .ok (.newarray .int, 2) := by decide +kernel
theorem dX12_init_346 : decode cX12_init 346 = .ok (.putfield 113, 3) := by decide +kernel
theorem dX12_init_349 : decode cX12_init 349 = .ok (.aload_n 0, 1) := by decide +kernel
theorem dX12_init_350 : decode cX12_init 350 = .ok (.bipush 30, 2) := by decide +kernel
theorem dX12_init_352 : decode cX12_init 352 = .ok (.newarray .int, 2) := by decide +kernel
theorem dX12_init_354 : decode cX12_init 354 = .ok (.putfield 116, 3) := by decide +kernel
theorem dX12_init_357 : decode cX12_init 357 = .ok (.aload_n 0, 1) := by decide +kernel
theorem dX12_init_358 : decode cX12_init 358 = .ok (.bipush 100, 2) := by decide +kernel
theorem dX12_init_360 : decode cX12_init 360 = .ok (.newarray .int, 2) := by decide +kernel
theorem dX12_init_362 : decode cX12_init 362 = .ok (.putfield 119, 3) := by decide +kernel
theorem dX12_init_365 : decode cX12_init 365 = .ok (.aload_n 0, 1) := by decide +kernel
theorem dX12_init_366 : decode cX12_init 366 = .ok (.sipush 150, 3) := by decide +kernel
theorem dX12_init_369 : decode cX12_init 369 = .ok (.newarray .int, 2) := by decide +kernel
theorem dX12_init_371 : decode cX12_init 371 = .ok (.putfield 122, 3) := by decide +kernel
theorem dX12_init_374 : decode cX12_init 374 = .ok (.aload_n 0, 1) := by decide +kernel
theorem dX12_init_375 : decode cX12_init 375 = .ok (.bipush 32, 2) := by decide +kernel
theorem dX12_init_377 : decode cX12_init 377 = .ok (.newarray .int, 2) := by decide +kernel
theorem dX12_init_379 : decode cX12_init 379 = .ok (.putfield 125, 3) := by decide +kernel
theorem dX12_init_382 : decode cX12_init 382 = .ok (.aload_n 0, 1) := by decide +kernel
theorem dX12_init_383 : decode cX12_init 383 = .ok (.bipush 32, 2) := by decide +kernel
theorem dX12_init_385 : decode cX12_init 385 = .ok (.newarray .int, 2) := by decide +kernel
theorem dX12_init_387 : decode cX12_init 387 = .ok (.putfield 128, 3) := by decide +kernel
theorem dX12_init_390 : decode cX12_init 390 = .ok (.aload_n 0, 1) := by decide +kernel
theorem dX12_init_391 : decode cX12_init 391 = .ok (.bipush 40, 2) := by decide +kernel
theorem dX12_init_393 : decode cX12_init 393 = .ok (.newarray .int, 2) := by decide +kernel
theorem dX12_init_395 : decode cX12_init 395 = .ok (.putfield 131, 3) := by decide +kernel
theorem dX12_init_398 : decode cX12_init 398 = .ok (.aload_n 0, 1) := by decide +kernel
theorem dX12_init_399 : decode cX12_init 399 = .ok (.bipush 40, 2) := by decide +kernel
theorem dX12_init_401 : decode cX12_init 401 = .ok (.newarray .int, 2) := by decide +kernel
theorem dX12_init_403 : decode cX12_init 403 = .ok (.putfield 134, 3) := by decide +kernel
theorem dX12_init_406 : decode cX12_init 406 = .ok (.aload_n 0, 1) := by decide +kernel
theorem dX12_init_407 : decode cX12_init 407 = .ok (.bipush 40, 2) := by decide +kernel
theorem dX12_init_409 : decode cX12_init 409 = .ok (.newarray .int, 2) := by decide +kernel
theorem dX12_init_411 : decode cX12_init 411 = .ok (.putfield 137, 3) := by decide +kernel
theorem dX12_init_414 : decode cX12_init 414 = .ok (.aload_n 0, 1) := by decide +kernel
theorem dX12_init_415 : decode cX12_init 415 = .ok (.bipush 40, 2) := by decide +kernel
theorem dX12_init_417 : decode cX12_init 417 = .ok (.newarray .int, 2) := by decide +kernel
theorem dX12_init_419 : decode cX12_init 419 = .ok (.putfield 140, 3) := by decide +kernel
theorem dX12_init_422 : decode cX12_init 422 = .ok (.aload_n 0, 1) := by decide +kernel
theorem dX12_init_423 : decode cX12_init 423 = .ok (.bipush 40, 2) := by decide +kernel
theorem dX12_init_425 : decode cX12_init 425 = .ok (.newarray .boolean, 2) := by decide +kernel
theorem dX12_init_427 : decode cX12_init 427 = .ok (.putfield 143, 3) := by decide +kernel
theorem dX12_init_430 : decode cX12_init 430 = .ok (.aload_n 0, 1) := by decide +kernel
theorem dX12_init_431 : decode cX12_init 431 = .ok (.bipush 40, 2) := by decide +kernel
theorem dX12_init_433 : decode cX12_init 433 = .ok (.newarray .int, 2) := by decide +kernel
theorem dX12_init_435 : decode cX12_init 435 = .ok (.putfield 146, 3) := by decide +kernel
theorem dX12_init_438 : decode cX12_init 438 = .ok (.aload_n 0, 1) := by decide +kernel
theorem dX12_init_439 : decode cX12_init 439 = .ok (.bipush 40, 2) := by decide +kernel
theorem dX12_init_441 : decode cX12_init 441 = .ok (.newarray .int, 2) := by decide +kernel
theorem dX12_init_443 : decode cX12_init 443 = .ok (.putfield 149, 3) := by decide +kernel
theorem dX12_init_446 : decode cX12_init 446 = .ok (.aload_n 0, 1) := by decide +kernel
theorem dX12_init_447 : decode cX12_init 447 = .ok (.bipush 40, 2) := by decide +kernel
theorem dX12_init_449 : decode cX12_init 449 = .ok (.newarray .int, 2) := by decide +kernel
theorem dX12_init_451 : decode cX12_init 451 = .ok (.putfield 152, 3) := by decide +kernel
theorem dX12_init_454 : decode cX12_init 454 = .ok (.iconst 0, 1) := by decide +kernel
theorem dX12_init_455 : decode cX12_init 455 = .ok (.istore_n 1, 1) := by decide +kernel
theorem dX12_init_456 : decode cX12_init 456 = .ok (.iload_n 1, 1) := by decide +kernel
theorem dX12_init_457 : decode cX12_init 457 = .ok (.iconst 4, 1) := by decide +kernel
theorem dX12_init_458 : decode cX12_init 458 = .ok (.if_icmp .ge 18, 3) := by decide +kernel
theorem dX12_init_461 : decode cX12_init 461 = .ok (.aload_n 0, 1) := by decide +kernel
theorem dX12_init_462 : decode cX12_init 462 = .ok (.getfield 101, 3) := by decide +kernel
theorem dX12_init_465 : decode cX12_init 465 = .ok (.iload_n 1, 1) := by decide +kernel
theorem dX12_init_466 : decode cX12_init 466 = .ok (.sipush 365, 3) := by decide +kernel
theorem dX12_init_469 : decode cX12_init 469 = .ok (.iastore, 1) := by decide +kernel
theorem dX12_init_470 : decode cX12_init 470 = .ok (.iinc 1 1, 3) := by decide +kernel
theorem dX12_init_473 : decode cX12_init 473 = .ok (.goto (-17), 3) := by decide +kernel
theorem dX12_init_476 : decode cX12_init 476 = .ok (.return_, 1) := by decide +kernel
theorem dX12_in_0 : decode cX12_in 0 = .ok (.iload_n 0, 1) := by decide +kernel
theorem dX12_in_1 : decode cX12_in 1 = .ok (.iload_n 1, 1) := by decide +kernel
theorem dX12_in_2 : decode cX12_in 2 = .ok (.if_icmp .lt 12, 3) := by decide +kernel
theorem dX12_in_5 : decode cX12_in 5 = .ok (.iload_n 0, 1) := by decide +kernel
theorem dX12_in_6 : decode cX12_in 6 = .ok (.iload_n 2, 1) := by decide +kernel
theorem dX12_in_7 : decode cX12_in 7 = .ok (.if_icmp .gt 7, 3) := by decide +kernel
theorem dX12_in_10 : decode cX12_in 10 = .ok (.iconst 1, 1) := by decide +kernel
theorem dX12_in_11 : decode cX12_in 11 = .ok (.goto 4, 3) := by decide +kernel
theorem dX12_in_14 : decode cX12_in 14 = .ok (.iconst 0, 1) := by decide +kernel
theorem dX12_in_15 : decode cX12_in 15 = .ok (.ireturn, 1) := by decide +kernel
theorem dX12_refuse_0 : decode cX12_refuse 0 = .ok (.aload_n 0, 1) := by decide +kernel
theorem dX12_refuse_1 : decode cX12_refuse 1 = .ok (.getfield 56, 3) := by decide +kernel
theorem dX12_refuse_4 : decode cX12_refuse 4 = .ok (.iload_n 1, 1) := by decide +kernel
theorem dX12_refuse_5 : decode cX12_refuse 5 = .ok (.ineg, 1) := by decide +kernel
theorem dX12_refuse_6 : decode cX12_refuse 6 = .ok (.dup2, 1) := by decide +kernel
theorem dX12_refuse_7 : decode cX12_refuse 7 = .ok (.iaload, 1) := by decide +kernel
theorem dX12_refuse_8 : decode cX12_refuse 8 = .ok (.iconst 1, 1) := by decide +kernel
theorem dX12_refuse_9 : decode cX12_refuse 9 = .ok (.iadd, 1) := by decide +kernel
theorem dX12_refuse_10 : decode cX12_refuse 10 = .ok (.iastore, 1) := by decide +kernel
theorem dX12_refuse_11 : decode cX12_refuse 11 = .ok (.iload_n 1, 1) := by decide +kernel
theorem dX12_refuse_12 : decode cX12_refuse 12 = .ok (.ireturn, 1) := by decide +kernel
theorem dX12_refuseFar_0 : decode cX12_refuseFar 0 = .ok (.aload_n 0, 1) := by decide +kernel
theorem dX12_refuseFar_1 : decode cX12_refuseFar 1 = .ok (.getfield 56, 3) := by decide +kernel
theorem dX12_refuseFar_4 : decode cX12_refuseFar 4 = .ok (.iload_n 1, 1) := by decide +kernel
theorem dX12_refuseFar_5 : decode cX12_refuseFar 5 = .ok (.ineg, 1) := by decide +kernel
theorem dX12_refuseFar_6 : decode cX12_refuseFar 6 = .ok (.dup2, 1) := by decide +kernel
theorem dX12_refuseFar_7 : decode cX12_refuseFar 7 = .ok (.iaload, 1) := by decide +kernel
theorem dX12_refuseFar_8 : decode cX12_refuseFar 8 = .ok (.iconst 1, 1) := by decide +kernel
theorem dX12_refuseFar_9 : decode cX12_refuseFar 9 = .ok (.iadd, 1) := by decide +kernel
theorem dX12_refuseFar_10 : decode cX12_refuseFar 10 = .ok (.iastore, 1) := by decide +kernel
theorem dX12_refuseFar_11 : decode cX12_refuseFar 11 = .ok (.ldc 155, 2) := by decide +kernel
theorem dX12_refuseFar_13 : decode cX12_refuseFar 13 = .ok (.iload_n 1, 1) := by decide +kernel
theorem dX12_refuseFar_14 : decode cX12_refuseFar 14 = .ok (.isub, 1) := by decide +kernel
theorem dX12_refuseFar_15 : decode cX12_refuseFar 15 = .ok (.ireturn, 1) := by decide +kernel
theorem dX12_isPort_0 : decode cX12_isPort 0 = .ok (.iload_n 0, 1) := by decide +kernel
theorem dX12_isPort_1 : decode cX12_isPort 1 = .ok (.iconst 0, 1) := by decide +kernel
theorem dX12_isPort_2 : decode cX12_isPort 2 = .ok (.bipush 9, 2) := by decide +kernel
theorem dX12_isPort_4 : decode cX12_isPort 4 = .ok (.invokestatic 156, 3) := by decide +kernel
theorem dX12_isPort_7 : decode cX12_isPort 7 = .ok (.ireturn, 1) := by decide +kernel
theorem dX12_isLeg_0 : decode cX12_isLeg 0 = .ok (.iload_n 1, 1) := by decide +kernel
theorem dX12_isLeg_1 : decode cX12_isLeg 1 = .ok (.iconst 0, 1) := by decide +kernel
theorem dX12_isLeg_2 : decode cX12_isLeg 2 = .ok (.aload_n 0, 1) := by decide +kernel
theorem dX12_isLeg_3 : decode cX12_isLeg 3 = .ok (.getfield 160, 3) := by decide +kernel
theorem dX12_isLeg_6 : decode cX12_isLeg 6 = .ok (.iconst 1, 1) := by decide +kernel
theorem dX12_isLeg_7 : decode cX12_isLeg 7 = .ok (.isub, 1) := by decide +kernel
theorem dX12_isLeg_8 : decode cX12_isLeg 8 = .ok (.invokestatic 156, 3) := by decide +kernel
theorem dX12_isLeg_11 : decode cX12_isLeg 11 = .ok (.ireturn, 1) := by decide +kernel
theorem dX12_over_0 : decode cX12_over 0 = .ok (.iload_n 0, 1) := by decide +kernel
theorem dX12_over_1 : decode cX12_over 1 = .ok (.ifCond .ge 7, 3) := by decide +kernel
theorem dX12_over_4 : decode cX12_over 4 = .ok (.iconst 0, 1) := by decide +kernel
theorem dX12_over_5 : decode cX12_over 5 = .ok (.goto 4, 3) := by decide +kernel
theorem dX12_over_8 : decode cX12_over 8 = .ok (.iload_n 0, 1) := by decide +kernel
theorem dX12_over_9 : decode cX12_over 9 = .ok (.ireturn, 1) := by decide +kernel
theorem dX12_lesser_0 : decode cX12_lesser 0 = .ok (.iload_n 0, 1) := by decide +kernel
theorem dX12_lesser_1 : decode cX12_lesser 1 = .ok (.iload_n 1, 1) := by decide +kernel
theorem dX12_lesser_2 : decode cX12_lesser 2 = .ok (.if_icmp .ge 7, 3) := by decide +kernel
theorem dX12_lesser_5 : decode cX12_lesser 5 = .ok (.iload_n 0, 1) := by decide +kernel
theorem dX12_lesser_6 : decode cX12_lesser 6 = .ok (.goto 4, 3) := by decide +kernel
theorem dX12_lesser_9 : decode cX12_lesser 9 = .ok (.iload_n 1, 1) := by decide +kernel
theorem dX12_lesser_10 : decode cX12_lesser 10 = .ok (.ireturn, 1) := by decide +kernel
theorem dX12_amount_0 : decode cX12_amount 0 = .ok (.iload_n 0, 1) := by decide +kernel
theorem dX12_amount_1 : decode cX12_amount 1 = .ok (.ifCond .ge 8, 3) := by decide +kernel
theorem dX12_amount_4 : decode cX12_amount 4 = .ok (.iload_n 0, 1) := by decide +kernel
theorem dX12_amount_5 : decode cX12_amount 5 = .ok (.ineg, 1) := by decide +kernel
theorem dX12_amount_6 : decode cX12_amount 6 = .ok (.goto 4, 3) := by decide +kernel
theorem dX12_amount_9 : decode cX12_amount 9 = .ok (.iload_n 0, 1) := by decide +kernel
theorem dX12_amount_10 : decode cX12_amount 10 = .ok (.ireturn, 1) := by decide +kernel
theorem dX12_days_0 : decode cX12_days 0 = .ok (.iload_n 1, 1) := by decide +kernel
theorem dX12_days_1 : decode cX12_days 1 = .ok (.iconst 1, 1) := by decide +kernel
theorem dX12_days_2 : decode cX12_days 2 = .ok (.if_icmp .ge 10, 3) := by decide +kernel
theorem dX12_days_5 : decode cX12_days 5 = .ok (.aload_n 0, 1) := by decide +kernel
theorem dX12_days_6 : decode cX12_days 6 = .ok (.bipush (-4), 2) := by decide +kernel
theorem dX12_days_8 : decode cX12_days 8 = .ok (.invokevirtual 164, 3) := by decide +kernel
theorem dX12_days_11 : decode cX12_days 11 = .ok (.ireturn, 1) := by decide +kernel
theorem dX12_days_12 : decode cX12_days 12 = .ok (.iload_n 1, 1) := by decide +kernel
theorem dX12_days_13 : decode cX12_days 13 = .ok (.sipush 4000, 3) := by decide +kernel
theorem dX12_days_16 : decode cX12_days 16 = .ok (.aload_n 0, 1) := by decide +kernel
theorem dX12_days_17 : decode cX12_days 17 = .ok (.getfield 168, 3) := by decide +kernel
theorem dX12_days_20 : decode cX12_days 20 = .ok (.isub, 1) := by decide +kernel
theorem dX12_days_21 : decode cX12_days 21 = .ok (.if_icmp .le 10, 3) := by decide +kernel
theorem dX12_days_24 : decode cX12_days 24 = .ok (.aload_n 0, 1) := by decide +kernel
theorem dX12_days_25 : decode cX12_days 25 = .ok (.bipush (-6), 2) := by decide +kernel
theorem dX12_days_27 : decode cX12_days 27 = .ok (.invokevirtual 164, 3) := by decide +kernel
theorem dX12_days_30 : decode cX12_days 30 = .ok (.ireturn, 1) := by decide +kernel
theorem dX12_days_31 : decode cX12_days 31 = .ok (.aload_n 0, 1) := by decide +kernel
theorem dX12_days_32 : decode cX12_days 32 = .ok (.dup, 1) := by decide +kernel
theorem dX12_days_33 : decode cX12_days 33 = .ok (.getfield 168, 3) := by decide +kernel
theorem dX12_days_36 : decode cX12_days 36 = .ok (.iload_n 1, 1) := by decide +kernel
theorem dX12_days_37 : decode cX12_days 37 = .ok (.iadd, 1) := by decide +kernel
theorem dX12_days_38 : decode cX12_days 38 = .ok (.putfield 168, 3) := by decide +kernel
theorem dX12_days_41 : decode cX12_days 41 = .ok (.aload_n 0, 1) := by decide +kernel
theorem dX12_days_42 : decode cX12_days 42 = .ok (.getfield 168, 3) := by decide +kernel
theorem dX12_days_45 : decode cX12_days 45 = .ok (.ireturn, 1) := by decide +kernel
theorem dX12_land_0 : decode cX12_land 0 = .ok (.iload_n 1, 1) := by decide +kernel
theorem dX12_land_1 : decode cX12_land 1 = .ok (.invokestatic 171, 3) := by decide +kernel
theorem dX12_land_4 : decode cX12_land 4 = .ok (.ifCond .eq 12, 3) := by decide +kernel
theorem dX12_land_7 : decode cX12_land 7 = .ok (.iload_n 2, 1) := by decide +kernel
theorem dX12_land_8 : decode cX12_land 8 = .ok (.iconst 0, 1) := by decide +kernel
theorem dX12_land_9 : decode cX12_land 9 = .ok (.iconst 3, 1) := by decide +kernel
theorem dX12_land_10 : decode cX12_land 10 = .ok (.invokestatic 156, 3) := by decide +kernel
theorem dX12_land_13 : decode cX12_land 13 = .ok (.ifCond .ne 9, 3) := by decide +kernel
theorem dX12_land_16 : decode cX12_land 16 = .ok (.aload_n 0, 1) := by decide +kernel
theorem dX12_land_17 : decode cX12_land 17 = .ok (.iconst (-1), 1) := by decide +kernel
theorem dX12_land_18 : decode cX12_land 18 = .ok (.invokevirtual 164, 3) := by decide +kernel
theorem dX12_land_21 : decode cX12_land 21 = .ok (.ireturn, 1) := by decide +kernel
theorem dX12_land_22 : decode cX12_land 22 = .ok (.aload_n 0, 1) := by decide +kernel
theorem dX12_land_23 : decode cX12_land 23 = .ok (.getfield 7, 3) := by decide +kernel
theorem dX12_land_26 : decode cX12_land 26 = .ok (.iload_n 1, 1) := by decide +kernel
theorem dX12_land_27 : decode cX12_land 27 = .ok (.iaload, 1) := by decide +kernel
theorem dX12_land_28 : decode cX12_land 28 = .ok (.istore_n 3, 1) := by decide +kernel
theorem dX12_land_29 : decode cX12_land 29 = .ok (.aload_n 0, 1) := by decide +kernel
theorem dX12_land_30 : decode cX12_land 30 = .ok (.getfield 7, 3) := by decide +kernel
theorem dX12_land_33 : decode cX12_land 33 = .ok (.iload_n 1, 1) := by decide +kernel
theorem dX12_land_34 : decode cX12_land 34 = .ok (.iload_n 2, 1) := by decide +kernel
theorem dX12_land_35 : decode cX12_land 35 = .ok (.iastore, 1) := by decide +kernel
theorem dX12_land_36 : decode cX12_land 36 = .ok (.iload_n 3, 1) := by decide +kernel
theorem dX12_land_37 : decode cX12_land 37 = .ok (.ireturn, 1) := by decide +kernel
theorem dX12_miles_0 : decode cX12_miles 0 = .ok (.iload_n 1, 1) := by decide +kernel
theorem dX12_miles_1 : decode cX12_miles 1 = .ok (.invokestatic 171, 3) := by decide +kernel
theorem dX12_miles_4 : decode cX12_miles 4 = .ok (.ifCond .eq 15, 3) := by decide +kernel
theorem dX12_miles_7 : decode cX12_miles 7 = .ok (.iload_n 2, 1) := by decide +kernel
theorem dX12_miles_8 : decode cX12_miles 8 = .ok (.invokestatic 171, 3) := by decide +kernel
theorem dX12_miles_11 : decode cX12_miles 11 = .ok (.ifCond .eq 8, 3) := by decide +kernel
theorem dX12_miles_14 : decode cX12_miles 14 = .ok (.iload_n 1, 1) := by decide +kernel
theorem dX12_miles_15 : decode cX12_miles 15 = .ok (.iload_n 2, 1) := by decide +kernel
theorem dX12_miles_16 : decode cX12_miles 16 = .ok (.if_icmp .ne 9, 3) := by decide +kernel
theorem dX12_miles_19 : decode cX12_miles 19 = .ok (.aload_n 0, 1) := by decide +kernel
theorem dX12_miles_20 : decode cX12_miles 20 = .ok (.iconst (-1), 1) := by decide +kernel
theorem dX12_miles_21 : decode cX12_miles 21 = .ok (.invokevirtual 164, 3) := by decide +kernel
theorem dX12_miles_24 : decode cX12_miles 24 = .ok (.ireturn, 1) := by decide +kernel
theorem dX12_miles_25 : decode cX12_miles 25 = .ok (.iload_n 3, 1) := by decide +kernel
theorem dX12_miles_26 : decode cX12_miles 26 = .ok (.ifCond .ge 10, 3) := by decide +kernel
theorem dX12_miles_29 : decode cX12_miles 29 = .ok (.aload_n 0, 1) := by decide +kernel
theorem dX12_miles_30 : decode cX12_miles 30 = .ok (.bipush (-4), 2) := by decide +kernel
theorem dX12_miles_32 : decode cX12_miles 32 = .ok (.invokevirtual 164, 3) := by decide +kernel
theorem dX12_miles_35 : decode cX12_miles 35 = .ok (.ireturn, 1) := by decide +kernel
theorem dX12_miles_36 : decode cX12_miles 36 = .ok (.iload_n 3, 1) := by decide +kernel
theorem dX12_miles_37 : decode cX12_miles 37 = .ok (.sipush 9999, 3) := by decide +kernel
theorem dX12_miles_40 : decode cX12_miles 40 = .ok (.if_icmp .le 10, 3) := by decide +kernel
theorem dX12_miles_43 : decode cX12_miles 43 = .ok (.aload_n 0, 1) := by decide +kernel
theorem dX12_miles_44 : decode cX12_miles 44 = .ok (.bipush (-6), 2) := by decide +kernel
theorem dX12_miles_46 : decode cX12_miles 46 = .ok (.invokevirtual 164, 3) := by decide +kernel
theorem dX12_miles_49 : decode cX12_miles 49 = .ok (.ireturn, 1) := by decide +kernel
theorem dX12_miles_50 : decode cX12_miles 50 = .ok (.aload_n 0, 1) := by decide +kernel
theorem dX12_miles_51 : decode cX12_miles 51 = .ok (.getfield 13, 3) := by decide +kernel
theorem dX12_miles_54 : decode cX12_miles 54 = .ok (.bipush 10, 2) := by decide +kernel
theorem dX12_miles_56 : decode cX12_miles 56 = .ok (.iload_n 1, 1) := by decide +kernel
theorem dX12_miles_57 : decode cX12_miles 57 = .ok (.imul, 1) := by decide +kernel
theorem dX12_miles_58 : decode cX12_miles 58 = .ok (.iload_n 2, 1) := by decide +kernel
theorem dX12_miles_59 : decode cX12_miles 59 = .ok (.iadd, 1) := by decide +kernel
theorem dX12_miles_60 : decode cX12_miles 60 = .ok (.iaload, 1) := by decide +kernel
theorem dX12_miles_61 : decode cX12_miles 61 = .ok (.istore 4, 2) := by decide +kernel
theorem dX12_miles_63 : decode cX12_miles 63 = .ok (.aload_n 0, 1) := by decide +kernel
theorem dX12_miles_64 : decode cX12_miles 64 = .ok (.getfield 13, 3) := by decide +kernel
theorem dX12_miles_67 : decode cX12_miles 67 = .ok (.bipush 10, 2) := by decide +kernel
theorem dX12_miles_69 : decode cX12_miles 69 = .ok (.iload_n 1, 1) := by decide +kernel
theorem dX12_miles_70 : decode cX12_miles 70 = .ok (.imul, 1) := by decide +kernel
theorem dX12_miles_71 : decode cX12_miles 71 = .ok (.iload_n 2, 1) := by decide +kernel
theorem dX12_miles_72 : decode cX12_miles 72 = .ok (.iadd, 1) := by decide +kernel
theorem dX12_miles_73 : decode cX12_miles 73 = .ok (.iload_n 3, 1) := by decide +kernel
theorem dX12_miles_74 : decode cX12_miles 74 = .ok (.iastore, 1) := by decide +kernel
theorem dX12_miles_75 : decode cX12_miles 75 = .ok (.aload_n 0, 1) := by decide +kernel
theorem dX12_miles_76 : decode cX12_miles 76 = .ok (.getfield 13, 3) := by decide +kernel
theorem dX12_miles_79 : decode cX12_miles 79 = .ok (.bipush 10, 2) := by decide +kernel
theorem dX12_miles_81 : decode cX12_miles 81 = .ok (.iload_n 2, 1) := by decide +kernel
theorem dX12_miles_82 : decode cX12_miles 82 = .ok (.imul, 1) := by decide +kernel
theorem dX12_miles_83 : decode cX12_miles 83 = .ok (.iload_n 1, 1) := by decide +kernel
theorem dX12_miles_84 : decode cX12_miles 84 = .ok (.iadd, 1) := by decide +kernel
theorem dX12_miles_85 : decode cX12_miles 85 = .ok (.iload_n 3, 1) := by decide +kernel
theorem dX12_miles_86 : decode cX12_miles 86 = .ok (.iastore, 1) := by decide +kernel
theorem dX12_miles_87 : decode cX12_miles 87 = .ok (.iload 4, 2) := by decide +kernel
theorem dX12_miles_89 : decode cX12_miles 89 = .ok (.ireturn, 1) := by decide +kernel
theorem dX12_seen_0 : decode cX12_seen 0 = .ok (.iload_n 1, 1) := by decide +kernel
theorem dX12_seen_1 : decode cX12_seen 1 = .ok (.invokestatic 171, 3) := by decide +kernel
theorem dX12_seen_4 : decode cX12_seen 4 = .ok (.ifCond .eq 15, 3) := by decide +kernel
theorem dX12_seen_7 : decode cX12_seen 7 = .ok (.iload_n 2, 1) := by decide +kernel
theorem dX12_seen_8 : decode cX12_seen 8 = .ok (.invokestatic 171, 3) := by decide +kernel
theorem dX12_seen_11 : decode cX12_seen 11 = .ok (.ifCond .eq 8, 3) := by decide +kernel
theorem dX12_seen_14 : decode cX12_seen 14 = .ok (.iload_n 1, 1) := by decide +kernel
theorem dX12_seen_15 : decode cX12_seen 15 = .ok (.iload_n 2, 1) := by decide +kernel
theorem dX12_seen_16 : decode cX12_seen 16 = .ok (.if_icmp .ne 9, 3) := by decide +kernel
theorem dX12_seen_19 : decode cX12_seen 19 = .ok (.aload_n 0, 1) := by decide +kernel
theorem dX12_seen_20 : decode cX12_seen 20 = .ok (.iconst (-1), 1) := by decide +kernel
theorem dX12_seen_21 : decode cX12_seen 21 = .ok (.invokevirtual 164, 3) := by decide +kernel
theorem dX12_seen_24 : decode cX12_seen 24 = .ok (.ireturn, 1) := by decide +kernel
theorem dX12_seen_25 : decode cX12_seen 25 = .ok (.iload_n 3, 1) := by decide +kernel
theorem dX12_seen_26 : decode cX12_seen 26 = .ok (.sipush (-600), 3) := by decide +kernel
theorem dX12_seen_29 : decode cX12_seen 29 = .ok (.if_icmp .ge 10, 3) := by decide +kernel
theorem dX12_seen_32 : decode cX12_seen 32 = .ok (.aload_n 0, 1) := by decide +kernel
theorem dX12_seen_33 : decode cX12_seen 33 = .ok (.bipush (-4), 2) := by decide +kernel
theorem dX12_seen_35 : decode cX12_seen 35 = .ok (.invokevirtual 164, 3) := by decide +kernel
theorem dX12_seen_38 : decode cX12_seen 38 = .ok (.ireturn, 1) := by decide +kernel
theorem dX12_seen_39 : decode cX12_seen 39 = .ok (.iload_n 3, 1) := by decide +kernel
theorem dX12_seen_40 : decode cX12_seen 40 = .ok (.sipush 600, 3) := by decide +kernel
theorem dX12_seen_43 : decode cX12_seen 43 = .ok (.if_icmp .le 10, 3) := by decide +kernel
theorem dX12_seen_46 : decode cX12_seen 46 = .ok (.aload_n 0, 1) := by decide +kernel
theorem dX12_seen_47 : decode cX12_seen 47 = .ok (.bipush (-6), 2) := by decide +kernel
theorem dX12_seen_49 : decode cX12_seen 49 = .ok (.invokevirtual 164, 3) := by decide +kernel
theorem dX12_seen_52 : decode cX12_seen 52 = .ok (.ireturn, 1) := by decide +kernel
theorem dX12_seen_53 : decode cX12_seen 53 = .ok (.aload_n 0, 1) := by decide +kernel
theorem dX12_seen_54 : decode cX12_seen 54 = .ok (.getfield 16, 3) := by decide +kernel
theorem dX12_seen_57 : decode cX12_seen 57 = .ok (.iload_n 1, 1) := by decide +kernel
theorem dX12_seen_58 : decode cX12_seen 58 = .ok (.iaload, 1) := by decide +kernel
theorem dX12_seen_59 : decode cX12_seen 59 = .ok (.aload_n 0, 1) := by decide +kernel
theorem dX12_seen_60 : decode cX12_seen 60 = .ok (.getfield 16, 3) := by decide +kernel
theorem dX12_seen_63 : decode cX12_seen 63 = .ok (.iload_n 2, 1) := by decide +kernel
theorem dX12_seen_64 : decode cX12_seen 64 = .ok (.iaload, 1) := by decide +kernel
theorem dX12_seen_65 : decode cX12_seen 65 = .ok (.if_icmp .ne 57, 3) := by decide +kernel
theorem dX12_seen_68 : decode cX12_seen 68 = .ok (.aload_n 0, 1) := by decide +kernel
theorem dX12_seen_69 : decode cX12_seen 69 = .ok (.getfield 19, 3) := by decide +kernel
theorem dX12_seen_72 : decode cX12_seen 72 = .ok (.iload_n 1, 1) := by decide +kernel
theorem dX12_seen_73 : decode cX12_seen 73 = .ok (.iaload, 1) := by decide +kernel
theorem dX12_seen_74 : decode cX12_seen 74 = .ok (.aload_n 0, 1) := by decide +kernel
theorem dX12_seen_75 : decode cX12_seen 75 = .ok (.getfield 19, 3) := by decide +kernel
theorem dX12_seen_78 : decode cX12_seen 78 = .ok (.iload_n 2, 1) := by decide +kernel
theorem dX12_seen_79 : decode cX12_seen 79 = .ok (.iaload, 1) := by decide +kernel
theorem dX12_seen_80 : decode cX12_seen 80 = .ok (.isub, 1) := by decide +kernel
theorem dX12_seen_81 : decode cX12_seen 81 = .ok (.iload_n 3, 1) := by decide +kernel
theorem dX12_seen_82 : decode cX12_seen 82 = .ok (.if_icmp .ne 7, 3) := by decide +kernel
theorem dX12_seen_85 : decode cX12_seen 85 = .ok (.iconst 1, 1) := by decide +kernel
theorem dX12_seen_86 : decode cX12_seen 86 = .ok (.goto 4, 3) := by decide +kernel
theorem dX12_seen_89 : decode cX12_seen 89 = .ok (.iconst 0, 1) := by decide +kernel
theorem dX12_seen_90 : decode cX12_seen 90 = .ok (.istore 4, 2) := by decide +kernel
theorem dX12_seen_92 : decode cX12_seen 92 = .ok (.aload_n 0, 1) := by decide +kernel
theorem dX12_seen_93 : decode cX12_seen 93 = .ok (.dup, 1) := by decide +kernel
theorem dX12_seen_94 : decode cX12_seen 94 = .ok (.getfield 175, 3) := by decide +kernel
theorem dX12_seen_97 : decode cX12_seen 97 = .ok (.iload 4, 2) := by decide +kernel
theorem dX12_seen_99 : decode cX12_seen 99 = .ok (.ifCond .eq 7, 3) := by decide +kernel
theorem dX12_seen_102 : decode cX12_seen 102 = .ok (.iconst 0, 1) := by decide +kernel
theorem dX12_seen_103 : decode cX12_seen 103 = .ok (.goto 4, 3) := by decide +kernel
theorem dX12_seen_106 : decode cX12_seen 106 = .ok (.iconst 1, 1) := by decide +kernel
theorem dX12_seen_107 : decode cX12_seen 107 = .ok (.iadd, 1) := by decide +kernel
theorem dX12_seen_108 : decode cX12_seen 108 = .ok (.putfield 175, 3) := by decide +kernel
theorem dX12_seen_111 : decode cX12_seen 111 = .ok (.iload 4, 2) := by decide +kernel
theorem dX12_seen_113 : decode cX12_seen 113 = .ok (.ifCond .eq 7, 3) := by decide +kernel
theorem dX12_seen_116 : decode cX12_seen 116 = .ok (.iconst 1, 1) := by decide +kernel
theorem dX12_seen_117 : decode cX12_seen 117 = .ok (.goto 4, 3) := by decide +kernel
theorem dX12_seen_120 : decode cX12_seen 120 = .ok (.iconst 0, 1) := by decide +kernel
theorem dX12_seen_121 : decode cX12_seen 121 = .ok (.ireturn, 1) := by decide +kernel
theorem dX12_seen_122 : decode cX12_seen 122 = .ok (.iload_n 3, 1) := by decide +kernel
theorem dX12_seen_123 : decode cX12_seen 123 = .ok (.aload_n 0, 1) := by decide +kernel
theorem dX12_seen_124 : decode cX12_seen 124 = .ok (.getfield 19, 3) := by decide +kernel
theorem dX12_seen_127 : decode cX12_seen 127 = .ok (.iload_n 1, 1) := by decide +kernel
theorem dX12_seen_128 : decode cX12_seen 128 = .ok (.iaload, 1) := by decide +kernel
theorem dX12_seen_129 : decode cX12_seen 129 = .ok (.isub, 1) := by decide +kernel
theorem dX12_seen_130 : decode cX12_seen 130 = .ok (.aload_n 0, 1) := by decide +kernel
theorem dX12_seen_131 : decode cX12_seen 131 = .ok (.getfield 19, 3) := by decide +kernel
theorem dX12_seen_134 : decode cX12_seen 134 = .ok (.iload_n 2, 1) := by decide +kernel
theorem dX12_seen_135 : decode cX12_seen 135 = .ok (.iaload, 1) := by decide +kernel
theorem dX12_seen_136 : decode cX12_seen 136 = .ok (.iadd, 1) := by decide +kernel
theorem dX12_seen_137 : decode cX12_seen 137 = .ok (.istore 4, 2) := by decide +kernel
theorem dX12_seen_139 : decode cX12_seen 139 = .ok (.aload_n 0, 1) := by decide +kernel
theorem dX12_seen_140 : decode cX12_seen 140 = .ok (.getfield 16, 3) := by decide +kernel
theorem dX12_seen_143 : decode cX12_seen 143 = .ok (.iload_n 1, 1) := by decide +kernel
theorem dX12_seen_144 : decode cX12_seen 144 = .ok (.iaload, 1) := by decide +kernel
theorem dX12_seen_145 : decode cX12_seen 145 = .ok (.istore 5, 2) := by decide +kernel
theorem dX12_seen_147 : decode cX12_seen 147 = .ok (.aload_n 0, 1) := by decide +kernel
theorem dX12_seen_148 : decode cX12_seen 148 = .ok (.getfield 16, 3) := by decide +kernel
theorem dX12_seen_151 : decode cX12_seen 151 = .ok (.iload_n 2, 1) := by decide +kernel
theorem dX12_seen_152 : decode cX12_seen 152 = .ok (.iaload, 1) := by decide +kernel
theorem dX12_seen_153 : decode cX12_seen 153 = .ok (.istore 6, 2) := by decide +kernel
theorem dX12_seen_155 : decode cX12_seen 155 = .ok (.iload 5, 2) := by decide +kernel
theorem dX12_seen_157 : decode cX12_seen 157 = .ok (.iload 6, 2) := by decide +kernel
theorem dX12_seen_159 : decode cX12_seen 159 = .ok (.if_icmp .ge 8, 3) := by decide +kernel
theorem dX12_seen_162 : decode cX12_seen 162 = .ok (.iload 5, 2) := by decide +kernel
theorem dX12_seen_164 : decode cX12_seen 164 = .ok (.goto 5, 3) := by decide +kernel
theorem dX12_seen_167 : decode cX12_seen 167 = .ok (.iload 6, 2) := by decide +kernel
theorem dX12_seen_169 : decode cX12_seen 169 = .ok (.istore 7, 2) := by decide +kernel
theorem dX12_seen_171 : decode cX12_seen 171 = .ok (.iconst 0, 1) := by decide +kernel
theorem dX12_seen_172 : decode cX12_seen 172 = .ok (.istore 8, 2) := by decide +kernel
theorem dX12_seen_174 : decode cX12_seen 174 = .ok (.iload 8, 2) := by decide +kernel
theorem dX12_seen_176 : decode cX12_seen 176 = .ok (.bipush 10, 2) := by decide +kernel
theorem dX12_seen_178 : decode cX12_seen 178 = .ok (.if_icmp .ge 92, 3) := by decide +kernel
theorem dX12_seen_181 : decode cX12_seen 181 = .ok (.iload 7, 2) := by decide +kernel
theorem dX12_seen_183 : decode cX12_seen 183 = .ok (.iload 5, 2) := by decide +kernel
theorem dX12_seen_185 : decode cX12_seen 185 = .ok (.if_icmp .ne 39, 3) := by decide +kernel
theorem dX12_seen_188 : decode cX12_seen 188 = .ok (.aload_n 0, 1) := by decide +kernel
theorem dX12_seen_189 : decode cX12_seen 189 = .ok (.getfield 16, 3) := by decide +kernel
theorem dX12_seen_192 : decode cX12_seen 192 = .ok (.iload 8, 2) := by decide +kernel
theorem dX12_seen_194 : decode cX12_seen 194 = .ok (.iaload, 1) := by decide +kernel
theorem dX12_seen_195 : decode cX12_seen 195 = .ok (.iload 6, 2) := by decide +kernel
theorem dX12_seen_197 : decode cX12_seen 197 = .ok (.if_icmp .ne 27, 3) := by decide +kernel
theorem dX12_seen_200 : decode cX12_seen 200 = .ok (.aload_n 0, 1) := by decide +kernel
theorem dX12_seen_201 : decode cX12_seen 201 = .ok (.getfield 19, 3) := by decide +kernel
theorem dX12_seen_204 : decode cX12_seen 204 = .ok (.iload 8, 2) := by decide +kernel
theorem dX12_seen_206 : decode cX12_seen 206 = .ok (.dup2, 1) := by decide +kernel
theorem dX12_seen_207 : decode cX12_seen 207 = .ok (.iaload, 1) := by decide +kernel
theorem dX12_seen_208 : decode cX12_seen 208 = .ok (.iload 4, 2) := by decide +kernel
theorem dX12_seen_210 : decode cX12_seen 210 = .ok (.isub, 1) := by decide +kernel
theorem dX12_seen_211 : decode cX12_seen 211 = .ok (.iastore, 1) := by decide +kernel
theorem dX12_seen_212 : decode cX12_seen 212 = .ok (.aload_n 0, 1) := by decide +kernel
theorem dX12_seen_213 : decode cX12_seen 213 = .ok (.getfield 16, 3) := by decide +kernel
theorem dX12_seen_216 : decode cX12_seen 216 = .ok (.iload 8, 2) := by decide +kernel
theorem dX12_seen_218 : decode cX12_seen 218 = .ok (.iload 7, 2) := by decide +kernel
theorem dX12_seen_220 : decode cX12_seen 220 = .ok (.iastore, 1) := by decide +kernel
theorem dX12_seen_221 : decode cX12_seen 221 = .ok (.goto 43, 3) := by decide +kernel
theorem dX12_seen_224 : decode cX12_seen 224 = .ok (.iload 7, 2) := by decide +kernel
theorem dX12_seen_226 : decode cX12_seen 226 = .ok (.iload 6, 2) := by decide +kernel
theorem dX12_seen_228 : decode cX12_seen 228 = .ok (.if_icmp .ne 36, 3) := by decide +kernel
theorem dX12_seen_231 : decode cX12_seen 231 = .ok (.aload_n 0, 1) := by decide +kernel
theorem dX12_seen_232 : decode cX12_seen 232 = .ok (.getfield 16, 3) := by decide +kernel
theorem dX12_seen_235 : decode cX12_seen 235 = .ok (.iload 8, 2) := by decide +kernel
theorem dX12_seen_237 : decode cX12_seen 237 = .ok (.iaload, 1) := by decide +kernel
theorem dX12_seen_238 : decode cX12_seen 238 = .ok (.iload 5, 2) := by decide +kernel
theorem dX12_seen_240 : decode cX12_seen 240 = .ok (.if_icmp .ne 24, 3) := by decide +kernel
theorem dX12_seen_243 : decode cX12_seen 243 = .ok (.aload_n 0, 1) := by decide +kernel
theorem dX12_seen_244 : decode cX12_seen 244 = .ok (.getfield 19, 3) := by decide +kernel
theorem dX12_seen_247 : decode cX12_seen 247 = .ok (.iload 8, 2) := by decide +kernel
theorem dX12_seen_249 : decode cX12_seen 249 = .ok (.dup2, 1) := by decide +kernel
theorem dX12_seen_250 : decode cX12_seen 250 = .ok (.iaload, 1) := by decide +kernel
theorem dX12_seen_251 : decode cX12_seen 251 = .ok (.iload 4, 2) := by decide +kernel
theorem dX12_seen_253 : decode cX12_seen 253 = .ok (.iadd, 1) := by decide +kernel
theorem dX12_seen_254 : decode cX12_seen 254 = .ok (.iastore, 1) := by decide +kernel
theorem dX12_seen_255 : decode cX12_seen 255 = .ok (.aload_n 0, 1) := by decide +kernel
theorem dX12_seen_256 : decode cX12_seen 256 = .ok (.getfield 16, 3) := by decide +kernel
theorem dX12_seen_259 : decode cX12_seen 259 = .ok (.iload 8, 2) := by decide +kernel
theorem dX12_seen_261 : decode cX12_seen 261 = .ok (.iload 7, 2) := by decide +kernel
theorem dX12_seen_263 : decode cX12_seen 263 = .ok (.iastore, 1) := by decide +kernel
theorem dX12_seen_264 : decode cX12_seen 264 = .ok (.iinc 8 1, 3) := by decide +kernel
theorem dX12_seen_267 : decode cX12_seen 267 = .ok (.goto (-93), 3) := by decide +kernel
theorem dX12_seen_270 : decode cX12_seen 270 = .ok (.iconst 1, 1) := by decide +kernel
theorem dX12_seen_271 : decode cX12_seen 271 = .ok (.ireturn, 1) := by decide +kernel
theorem dX12_off_0 : decode cX12_off 0 = .ok (.iload_n 1, 1) := by decide +kernel
theorem dX12_off_1 : decode cX12_off 1 = .ok (.invokestatic 171, 3) := by decide +kernel
theorem dX12_off_4 : decode cX12_off 4 = .ok (.ifCond .eq 12, 3) := by decide +kernel
theorem dX12_off_7 : decode cX12_off 7 = .ok (.aload_n 0, 1) := by decide +kernel
theorem dX12_off_8 : decode cX12_off 8 = .ok (.getfield 19, 3) := by decide +kernel
theorem dX12_off_11 : decode cX12_off 11 = .ok (.iload_n 1, 1) := by decide +kernel
theorem dX12_off_12 : decode cX12_off 12 = .ok (.iaload, 1) := by decide +kernel
theorem dX12_off_13 : decode cX12_off 13 = .ok (.goto 8, 3) := by decide +kernel
theorem dX12_off_16 : decode cX12_off 16 = .ok (.aload_n 0, 1) := by decide +kernel
theorem dX12_off_17 : decode cX12_off 17 = .ok (.iconst (-1), 1) := by decide +kernel
theorem dX12_off_18 : decode cX12_off 18 = .ok (.invokevirtual 178, 3) := by decide +kernel
theorem dX12_off_21 : decode cX12_off 21 = .ok (.ireturn, 1) := by decide +kernel
theorem dX12_leg_0 : decode cX12_leg 0 = .ok (.iload_n 1, 1) := by decide +kernel
theorem dX12_leg_1 : decode cX12_leg 1 = .ok (.invokestatic 171, 3) := by decide +kernel
theorem dX12_leg_4 : decode cX12_leg 4 = .ok (.ifCond .eq 34, 3) := by decide +kernel
theorem dX12_leg_7 : decode cX12_leg 7 = .ok (.iload_n 2, 1) := by decide +kernel
theorem dX12_leg_8 : decode cX12_leg 8 = .ok (.invokestatic 171, 3) := by decide +kernel
theorem dX12_leg_11 : decode cX12_leg 11 = .ok (.ifCond .eq 27, 3) := by decide +kernel
theorem dX12_leg_14 : decode cX12_leg 14 = .ok (.iload_n 1, 1) := by decide +kernel
theorem dX12_leg_15 : decode cX12_leg 15 = .ok (.iload_n 2, 1) := by decide +kernel
theorem dX12_leg_16 : decode cX12_leg 16 = .ok (.if_icmp .eq 22, 3) := by decide +kernel
theorem dX12_leg_19 : decode cX12_leg 19 = .ok (.iload_n 3, 1) := by decide +kernel
theorem dX12_leg_20 : decode cX12_leg 20 = .ok (.iconst 0, 1) := by decide +kernel
theorem dX12_leg_21 : decode cX12_leg 21 = .ok (.iconst 5, 1) := by decide +kernel
theorem dX12_leg_22 : decode cX12_leg 22 = .ok (.invokestatic 156, 3) := by decide +kernel
theorem dX12_leg_25 : decode cX12_leg 25 = .ok (.ifCond .eq 13, 3) := by decide +kernel
theorem dX12_leg_28 : decode cX12_leg 28 = .ok (.iload 4, 2) := by decide +kernel
theorem dX12_leg_30 : decode cX12_leg 30 = .ok (.iconst 0, 1) := by decide +kernel
theorem dX12_leg_31 : decode cX12_leg 31 = .ok (.iconst 5, 1) := by decide +kernel
theorem dX12_leg_32 : decode cX12_leg 32 = .ok (.invokestatic 156, 3) := by decide +kernel
theorem dX12_leg_35 : decode cX12_leg 35 = .ok (.ifCond .ne 9, 3) := by decide +kernel
theorem dX12_leg_38 : decode cX12_leg 38 = .ok (.aload_n 0, 1) := by decide +kernel
theorem dX12_leg_39 : decode cX12_leg 39 = .ok (.iconst (-1), 1) := by decide +kernel
theorem dX12_leg_40 : decode cX12_leg 40 = .ok (.invokevirtual 164, 3) := by decide +kernel
theorem dX12_leg_43 : decode cX12_leg 43 = .ok (.ireturn, 1) := by decide +kernel
theorem dX12_leg_44 : decode cX12_leg 44 = .ok (.iload 5, 2) := by decide +kernel
theorem dX12_leg_46 : decode cX12_leg 46 = .ok (.ifCond .lt 10, 3) := by decide +kernel
theorem dX12_leg_49 : decode cX12_leg 49 = .ok (.iload 6, 2) := by decide +kernel
theorem dX12_leg_51 : decode cX12_leg 51 = .ok (.iload 5, 2) := by decide +kernel
theorem dX12_leg_53 : decode cX12_leg 53 = .ok (.if_icmp .gt 10, 3) := by decide +kernel
theorem dX12_leg_56 : decode cX12_leg 56 = .ok (.aload_n 0, 1) := by decide +kernel
theorem dX12_leg_57 : decode cX12_leg 57 = .ok (.bipush (-4), 2) := by decide +kernel
theorem dX12_leg_59 : decode cX12_leg 59 = .ok (.invokevirtual 164, 3) := by decide +kernel
theorem dX12_leg_62 : decode cX12_leg 62 = .ok (.ireturn, 1) := by decide +kernel
theorem dX12_leg_63 : decode cX12_leg 63 = .ok (.iload 6, 2) := by decide +kernel
theorem dX12_leg_65 : decode cX12_leg 65 = .ok (.sipush 20000, 3) := by decide +kernel
theorem dX12_leg_68 : decode cX12_leg 68 = .ok (.if_icmp .gt 12, 3) := by decide +kernel
theorem dX12_leg_71 : decode cX12_leg 71 = .ok (.aload_n 0, 1) := by decide +kernel
theorem dX12_leg_72 : decode cX12_leg 72 = .ok (.getfield 160, 3) := by decide +kernel
theorem dX12_leg_75 : decode cX12_leg 75 = .ok (.bipush 40, 2) := by decide +kernel
theorem dX12_leg_77 : decode cX12_leg 77 = .ok (.if_icmp .ne 10, 3) := by decide +kernel
theorem dX12_leg_80 : decode cX12_leg 80 = .ok (.aload_n 0, 1) := by decide +kernel
theorem dX12_leg_81 : decode cX12_leg 81 = .ok (.bipush (-6), 2) := by decide +kernel
theorem dX12_leg_83 : decode cX12_leg 83 = .ok (.invokevirtual 164, 3) := by decide +kernel
theorem dX12_leg_86 : decode cX12_leg 86 = .ok (.ireturn, 1) := by decide +kernel
theorem dX12_leg_87 : decode cX12_leg 87 = .ok (.aload_n 0, 1) := by decide +kernel
theorem dX12_leg_88 : decode cX12_leg 88 = .ok (.getfield 22, 3) := by decide +kernel
theorem dX12_leg_91 : decode cX12_leg 91 = .ok (.aload_n 0, 1) := by decide +kernel
theorem dX12_leg_92 : decode cX12_leg 92 = .ok (.getfield 160, 3) := by decide +kernel
theorem dX12_leg_95 : decode cX12_leg 95 = .ok (.iload_n 1, 1) := by decide +kernel
theorem dX12_leg_96 : decode cX12_leg 96 = .ok (.iastore, 1) := by decide +kernel
theorem dX12_leg_97 : decode cX12_leg 97 = .ok (.aload_n 0, 1) := by decide +kernel
theorem dX12_leg_98 : decode cX12_leg 98 = .ok (.getfield 25, 3) := by decide +kernel
theorem dX12_leg_101 : decode cX12_leg 101 = .ok (.aload_n 0, 1) := by decide +kernel
theorem dX12_leg_102 : decode cX12_leg 102 = .ok (.getfield 160, 3) := by decide +kernel
theorem dX12_leg_105 : decode cX12_leg 105 = .ok (.iload_n 2, 1) := by decide +kernel
theorem dX12_leg_106 : decode cX12_leg 106 = .ok (.iastore, 1) := by decide +kernel
theorem dX12_leg_107 : decode cX12_leg 107 = .ok (.aload_n 0, 1) := by decide +kernel
theorem dX12_leg_108 : decode cX12_leg 108 = .ok (.getfield 28, 3) := by decide +kernel
theorem dX12_leg_111 : decode cX12_leg 111 = .ok (.aload_n 0, 1) := by decide +kernel
theorem dX12_leg_112 : decode cX12_leg 112 = .ok (.getfield 160, 3) := by decide +kernel
theorem dX12_leg_115 : decode cX12_leg 115 = .ok (.iload_n 3, 1) := by decide +kernel
theorem dX12_leg_116 : decode cX12_leg 116 = .ok (.iastore, 1) := by decide +kernel
theorem dX12_leg_117 : decode cX12_leg 117 = .ok (.aload_n 0, 1) := by decide +kernel
theorem dX12_leg_118 : decode cX12_leg 118 = .ok (.getfield 31, 3) := by decide +kernel
theorem dX12_leg_121 : decode cX12_leg 121 = .ok (.aload_n 0, 1) := by decide +kernel
theorem dX12_leg_122 : decode cX12_leg 122 = .ok (.getfield 160, 3) := by decide +kernel
theorem dX12_leg_125 : decode cX12_leg 125 = .ok (.iload 4, 2) := by decide +kernel
theorem dX12_leg_127 : decode cX12_leg 127 = .ok (.iastore, 1) := by decide +kernel
theorem dX12_leg_128 : decode cX12_leg 128 = .ok (.aload_n 0, 1) := by decide +kernel
theorem dX12_leg_129 : decode cX12_leg 129 = .ok (.getfield 34, 3) := by decide +kernel
theorem dX12_leg_132 : decode cX12_leg 132 = .ok (.aload_n 0, 1) := by decide +kernel
theorem dX12_leg_133 : decode cX12_leg 133 = .ok (.getfield 160, 3) := by decide +kernel
theorem dX12_leg_136 : decode cX12_leg 136 = .ok (.iload 5, 2) := by decide +kernel
theorem dX12_leg_138 : decode cX12_leg 138 = .ok (.iastore, 1) := by decide +kernel
theorem dX12_leg_139 : decode cX12_leg 139 = .ok (.aload_n 0, 1) := by decide +kernel
theorem dX12_leg_140 : decode cX12_leg 140 = .ok (.getfield 37, 3) := by decide +kernel
theorem dX12_leg_143 : decode cX12_leg 143 = .ok (.aload_n 0, 1) := by decide +kernel
theorem dX12_leg_144 : decode cX12_leg 144 = .ok (.getfield 160, 3) := by decide +kernel
theorem dX12_leg_147 : decode cX12_leg 147 = .ok (.iload 6, 2) := by decide +kernel
theorem dX12_leg_149 : decode cX12_leg 149 = .ok (.iastore, 1) := by decide +kernel
theorem dX12_leg_150 : decode cX12_leg 150 = .ok (.aload_n 0, 1) := by decide +kernel
theorem dX12_leg_151 : decode cX12_leg 151 = .ok (.dup, 1) := by decide +kernel
theorem dX12_leg_152 : decode cX12_leg 152 = .ok (.getfield 160, 3) := by decide +kernel
theorem dX12_leg_155 : decode cX12_leg 155 = .ok (.iconst 1, 1) := by decide +kernel
theorem dX12_leg_156 : decode cX12_leg 156 = .ok (.iadd, 1) := by decide +kernel
theorem dX12_leg_157 : decode cX12_leg 157 = .ok (.putfield 160, 3) := by decide +kernel
theorem dX12_leg_160 : decode cX12_leg 160 = .ok (.aload_n 0, 1) := by decide +kernel
theorem dX12_leg_161 : decode cX12_leg 161 = .ok (.getfield 160, 3) := by decide +kernel
theorem dX12_leg_164 : decode cX12_leg 164 = .ok (.iconst 1, 1) := by decide +kernel
theorem dX12_leg_165 : decode cX12_leg 165 = .ok (.isub, 1) := by decide +kernel
theorem dX12_leg_166 : decode cX12_leg 166 = .ok (.ireturn, 1) := by decide +kernel
theorem dX12_log_0 : decode cX12_log 0 = .ok (.aload_n 0, 1) := by decide +kernel
theorem dX12_log_1 : decode cX12_log 1 = .ok (.iload_n 1, 1) := by decide +kernel
theorem dX12_log_2 : decode cX12_log 2 = .ok (.invokevirtual 181, 3) := by decide +kernel
theorem dX12_log_5 : decode cX12_log 5 = .ok (.ifCond .ne 9, 3) := by decide +kernel
theorem dX12_log_8 : decode cX12_log 8 = .ok (.aload_n 0, 1) := by decide +kernel
theorem dX12_log_9 : decode cX12_log 9 = .ok (.iconst (-1), 1) := by decide +kernel
theorem dX12_log_10 : decode cX12_log 10 = .ok (.invokevirtual 164, 3) := by decide +kernel
theorem dX12_log_13 : decode cX12_log 13 = .ok (.ireturn, 1) := by decide +kernel
theorem dX12_log_14 : decode cX12_log 14 = .ok (.iload_n 2, 1) := by decide +kernel
theorem dX12_log_15 : decode cX12_log 15 = .ok (.ifCond .lt 7, 3) := by decide +kernel
theorem dX12_log_18 : decode cX12_log 18 = .ok (.iload_n 3, 1) := by decide +kernel
theorem dX12_log_19 : decode cX12_log 19 = .ok (.ifCond .ge 10, 3) := by decide +kernel
theorem dX12_log_22 : decode cX12_log 22 = .ok (.aload_n 0, 1) := by decide +kernel
theorem dX12_log_23 : decode cX12_log 23 = .ok (.bipush (-4), 2) := by decide +kernel
theorem dX12_log_25 : decode cX12_log 25 = .ok (.invokevirtual 164, 3) := by decide +kernel
theorem dX12_log_28 : decode cX12_log 28 = .ok (.ireturn, 1) := by decide +kernel
theorem dX12_log_29 : decode cX12_log 29 = .ok (.iload_n 2, 1) := by decide +kernel
theorem dX12_log_30 : decode cX12_log 30 = .ok (.sipush 30000, 3) := by decide +kernel
theorem dX12_log_33 : decode cX12_log 33 = .ok (.if_icmp .gt 10, 3) := by decide +kernel
theorem dX12_log_36 : decode cX12_log 36 = .ok (.iload_n 3, 1) := by decide +kernel
theorem dX12_log_37 : decode cX12_log 37 = .ok (.sipush 30000, 3) := by decide +kernel
theorem dX12_log_40 : decode cX12_log 40 = .ok (.if_icmp .le 10, 3) := by decide +kernel
theorem dX12_log_43 : decode cX12_log 43 = .ok (.aload_n 0, 1) := by decide +kernel
theorem dX12_log_44 : decode cX12_log 44 = .ok (.bipush (-6), 2) := by decide +kernel
theorem dX12_log_46 : decode cX12_log 46 = .ok (.invokevirtual 164, 3) := by decide +kernel
theorem dX12_log_49 : decode cX12_log 49 = .ok (.ireturn, 1) := by decide +kernel
theorem dX12_log_50 : decode cX12_log 50 = .ok (.aload_n 0, 1) := by decide +kernel
theorem dX12_log_51 : decode cX12_log 51 = .ok (.getfield 40, 3) := by decide +kernel
theorem dX12_log_54 : decode cX12_log 54 = .ok (.iload_n 1, 1) := by decide +kernel
theorem dX12_log_55 : decode cX12_log 55 = .ok (.baload, 1) := by decide +kernel
theorem dX12_log_56 : decode cX12_log 56 = .ok (.istore 4, 2) := by decide +kernel
theorem dX12_log_58 : decode cX12_log 58 = .ok (.aload_n 0, 1) := by decide +kernel
theorem dX12_log_59 : decode cX12_log 59 = .ok (.getfield 40, 3) := by decide +kernel
theorem dX12_log_62 : decode cX12_log 62 = .ok (.iload_n 1, 1) := by decide +kernel
theorem dX12_log_63 : decode cX12_log 63 = .ok (.iconst 1, 1) := by decide +kernel
theorem dX12_log_64 : decode cX12_log 64 = .ok (.bastore, 1) := by decide +kernel
theorem dX12_log_65 : decode cX12_log 65 = .ok (.aload_n 0, 1) := by decide +kernel
theorem dX12_log_66 : decode cX12_log 66 = .ok (.getfield 44, 3) := by decide +kernel
theorem dX12_log_69 : decode cX12_log 69 = .ok (.iload_n 1, 1) := by decide +kernel
theorem dX12_log_70 : decode cX12_log 70 = .ok (.iload_n 2, 1) := by decide +kernel
theorem dX12_log_71 : decode cX12_log 71 = .ok (.iastore, 1) := by decide +kernel
theorem dX12_log_72 : decode cX12_log 72 = .ok (.aload_n 0, 1) := by decide +kernel
theorem dX12_log_73 : decode cX12_log 73 = .ok (.getfield 47, 3) := by decide +kernel
theorem dX12_log_76 : decode cX12_log 76 = .ok (.iload_n 1, 1) := by decide +kernel
theorem dX12_log_77 : decode cX12_log 77 = .ok (.iload_n 3, 1) := by decide +kernel
theorem dX12_log_78 : decode cX12_log 78 = .ok (.iastore, 1) := by decide +kernel
theorem dX12_log_79 : decode cX12_log 79 = .ok (.iload 4, 2) := by decide +kernel
theorem dX12_log_81 : decode cX12_log 81 = .ok (.ifCond .eq 7, 3) := by decide +kernel
theorem dX12_log_84 : decode cX12_log 84 = .ok (.iconst 0, 1) := by decide +kernel
theorem dX12_log_85 : decode cX12_log 85 = .ok (.goto 4, 3) := by decide +kernel
theorem dX12_log_88 : decode cX12_log 88 = .ok (.iconst 1, 1) := by decide +kernel
theorem dX12_log_89 : decode cX12_log 89 = .ok (.ireturn, 1) := by decide +kernel
theorem dX12_isCause_0 : decode cX12_isCause 0 = .ok (.iload_n 0, 1) := by decide +kernel
theorem dX12_isCause_1 : decode cX12_isCause 1 = .ok (.iconst 0, 1) := by decide +kernel
theorem dX12_isCause_2 : decode cX12_isCause 2 = .ok (.iconst 5, 1) := by decide +kernel
theorem dX12_isCause_3 : decode cX12_isCause 3 = .ok (.invokestatic 156, 3) := by decide +kernel
theorem dX12_isCause_6 : decode cX12_isCause 6 = .ok (.ireturn, 1) := by decide +kernel
theorem dX12_cause_0 : decode cX12_cause 0 = .ok (.aload_n 0, 1) := by decide +kernel
theorem dX12_cause_1 : decode cX12_cause 1 = .ok (.iload_n 1, 1) := by decide +kernel
theorem dX12_cause_2 : decode cX12_cause 2 = .ok (.invokevirtual 181, 3) := by decide +kernel
theorem dX12_cause_5 : decode cX12_cause 5 = .ok (.ifCond .eq 10, 3) := by decide +kernel
theorem dX12_cause_8 : decode cX12_cause 8 = .ok (.iload_n 2, 1) := by decide +kernel
theorem dX12_cause_9 : decode cX12_cause 9 = .ok (.invokestatic 184, 3) := by decide +kernel
theorem dX12_cause_12 : decode cX12_cause 12 = .ok (.ifCond .ne 9, 3) := by decide +kernel
theorem dX12_cause_15 : decode cX12_cause 15 = .ok (.aload_n 0, 1) := by decide +kernel
theorem dX12_cause_16 : decode cX12_cause 16 = .ok (.iconst (-1), 1) := by decide +kernel
theorem dX12_cause_17 : decode cX12_cause 17 = .ok (.invokevirtual 164, 3) := by decide +kernel
theorem dX12_cause_20 : decode cX12_cause 20 = .ok (.ireturn, 1) := by decide +kernel
theorem dX12_cause_21 : decode cX12_cause 21 = .ok (.aload_n 0, 1) := by decide +kernel
theorem dX12_cause_22 : decode cX12_cause 22 = .ok (.getfield 50, 3) := by decide +kernel
theorem dX12_cause_25 : decode cX12_cause 25 = .ok (.iload_n 1, 1) := by decide +kernel
theorem dX12_cause_26 : decode cX12_cause 26 = .ok (.iaload, 1) := by decide +kernel
theorem dX12_cause_27 : decode cX12_cause 27 = .ok (.istore_n 3, 1) := by decide +kernel
theorem dX12_cause_28 : decode cX12_cause 28 = .ok (.aload_n 0, 1) := by decide +kernel
theorem dX12_cause_29 : decode cX12_cause 29 = .ok (.getfield 50, 3) := by decide +kernel
theorem dX12_cause_32 : decode cX12_cause 32 = .ok (.iload_n 1, 1) := by decide +kernel
theorem dX12_cause_33 : decode cX12_cause 33 = .ok (.iload_n 2, 1) := by decide +kernel
theorem dX12_cause_34 : decode cX12_cause 34 = .ok (.iastore, 1) := by decide +kernel
theorem dX12_cause_35 : decode cX12_cause 35 = .ok (.iload_n 3, 1) := by decide +kernel
theorem dX12_cause_36 : decode cX12_cause 36 = .ok (.ireturn, 1) := by decide +kernel
theorem dX12_set_0 : decode cX12_set 0 = .ok (.iload_n 1, 1) := by decide +kernel
theorem dX12_set_1 : decode cX12_set 1 = .ok (.iconst 0, 1) := by decide +kernel
theorem dX12_set_2 : decode cX12_set 2 = .ok (.iconst 3, 1) := by decide +kernel
theorem dX12_set_3 : decode cX12_set 3 = .ok (.invokestatic 156, 3) := by decide +kernel
theorem dX12_set_6 : decode cX12_set 6 = .ok (.ifCond .ne 10, 3) := by decide +kernel
theorem dX12_set_9 : decode cX12_set 9 = .ok (.aload_n 0, 1) := by decide +kernel
theorem dX12_set_10 : decode cX12_set 10 = .ok (.bipush (-2), 2) := by decide +kernel
theorem dX12_set_12 : decode cX12_set 12 = .ok (.invokevirtual 164, 3) := by decide +kernel
theorem dX12_set_15 : decode cX12_set 15 = .ok (.ireturn, 1) := by decide +kernel
theorem dX12_set_16 : decode cX12_set 16 = .ok (.iload_n 2, 1) := by decide +kernel
theorem dX12_set_17 : decode cX12_set 17 = .ok (.iload_n 1, 1) := by decide +kernel
theorem dX12_set_18 : decode cX12_set 18 = .ok (.iconst 3, 1) := by decide +kernel
theorem dX12_set_19 : decode cX12_set 19 = .ok (.if_icmp .ne 7, 3) := by decide +kernel
theorem dX12_set_22 : decode cX12_set 22 = .ok (.iconst 1, 1) := by decide +kernel
theorem dX12_set_23 : decode cX12_set 23 = .ok (.goto 4, 3) := by decide +kernel
theorem dX12_set_26 : decode cX12_set 26 = .ok (.iconst 0, 1) := by decide +kernel
theorem dX12_set_27 : decode cX12_set 27 = .ok (.if_icmp .ge 10, 3) := by decide +kernel
theorem dX12_set_30 : decode cX12_set 30 = .ok (.aload_n 0, 1) := by decide +kernel
theorem dX12_set_31 : decode cX12_set 31 = .ok (.bipush (-4), 2) := by decide +kernel
theorem dX12_set_33 : decode cX12_set 33 = .ok (.invokevirtual 164, 3) := by decide +kernel
theorem dX12_set_36 : decode cX12_set 36 = .ok (.ireturn, 1) := by decide +kernel
theorem dX12_set_37 : decode cX12_set 37 = .ok (.iload_n 2, 1) := by decide +kernel
theorem dX12_set_38 : decode cX12_set 38 = .ok (.iload_n 1, 1) := by decide +kernel
theorem dX12_set_39 : decode cX12_set 39 = .ok (.ifCond .ne 9, 3) := by decide +kernel
theorem dX12_set_42 : decode cX12_set 42 = .ok (.sipush 200, 3) := by decide +kernel
theorem dX12_set_45 : decode cX12_set 45 = .ok (.goto 27, 3) := by decide +kernel
theorem dX12_set_48 : decode cX12_set 48 = .ok (.iload_n 1, 1) := by decide +kernel
theorem dX12_set_49 : decode cX12_set 49 = .ok (.iconst 1, 1) := by decide +kernel
theorem dX12_set_50 : decode cX12_set 50 = .ok (.if_icmp .ne 9, 3) := by decide +kernel
theorem dX12_set_53 : decode cX12_set 53 = .ok (.sipush 900, 3) := by decide +kernel
theorem dX12_set_56 : decode cX12_set 56 = .ok (.goto 16, 3) := by decide +kernel
theorem dX12_set_59 : decode cX12_set 59 = .ok (.iload_n 1, 1) := by decide +kernel
theorem dX12_set_60 : decode cX12_set 60 = .ok (.iconst 2, 1) := by decide +kernel
theorem dX12_set_61 : decode cX12_set 61 = .ok (.if_icmp .ne 9, 3) := by decide +kernel
theorem dX12_set_64 : decode cX12_set 64 = .ok (.sipush 300, 3) := by decide +kernel
theorem dX12_set_67 : decode cX12_set 67 = .ok (.goto 5, 3) := by decide +kernel
theorem dX12_set_70 : decode cX12_set 70 = .ok (.bipush 9, 2) := by decide +kernel
theorem dX12_set_72 : decode cX12_set 72 = .ok (.if_icmp .le 10, 3) := by decide +kernel
theorem dX12_set_75 : decode cX12_set 75 = .ok (.aload_n 0, 1) := by decide +kernel
theorem dX12_set_76 : decode cX12_set 76 = .ok (.bipush (-6), 2) := by decide +kernel
theorem dX12_set_78 : decode cX12_set 78 = .ok (.invokevirtual 164, 3) := by decide +kernel
theorem dX12_set_81 : decode cX12_set 81 = .ok (.ireturn, 1) := by decide +kernel
theorem dX12_set_82 : decode cX12_set 82 = .ok (.aload_n 0, 1) := by decide +kernel
theorem dX12_set_83 : decode cX12_set 83 = .ok (.getfield 53, 3) := by decide +kernel
theorem dX12_set_86 : decode cX12_set 86 = .ok (.iload_n 1, 1) := by decide +kernel
theorem dX12_set_87 : decode cX12_set 87 = .ok (.iaload, 1) := by decide +kernel
theorem dX12_set_88 : decode cX12_set 88 = .ok (.istore_n 3, 1) := by decide +kernel
theorem dX12_set_89 : decode cX12_set 89 = .ok (.aload_n 0, 1) := by decide +kernel
theorem dX12_set_90 : decode cX12_set 90 = .ok (.getfield 53, 3) := by decide +kernel
theorem dX12_set_93 : decode cX12_set 93 = .ok (.iload_n 1, 1) := by decide +kernel
theorem dX12_set_94 : decode cX12_set 94 = .ok (.iload_n 2, 1) := by decide +kernel
theorem dX12_set_95 : decode cX12_set 95 = .ok (.iastore, 1) := by decide +kernel
theorem dX12_set_96 : decode cX12_set 96 = .ok (.iload_n 3, 1) := by decide +kernel
theorem dX12_set_97 : decode cX12_set 97 = .ok (.ireturn, 1) := by decide +kernel
theorem dX12_rightLeave_0 : decode cX12_rightLeave 0 = .ok (.aload_n 0, 1) := by decide +kernel
theorem dX12_rightLeave_1 : decode cX12_rightLeave 1 = .ok (.getfield 44, 3) := by decide +kernel
theorem dX12_rightLeave_4 : decode cX12_rightLeave 4 = .ok (.iload_n 1, 1) := by decide +kernel
theorem dX12_rightLeave_5 : decode cX12_rightLeave 5 = .ok (.iaload, 1) := by decide +kernel
theorem dX12_rightLeave_6 : decode cX12_rightLeave 6 = .ok (.aload_n 0, 1) := by decide +kernel
theorem dX12_rightLeave_7 : decode cX12_rightLeave 7 = .ok (.getfield 19, 3) := by decide +kernel
theorem dX12_rightLeave_10 : decode cX12_rightLeave 10 = .ok (.aload_n 0, 1) := by decide +kernel
theorem dX12_rightLeave_11 : decode cX12_rightLeave 11 = .ok (.getfield 22, 3) := by decide +kernel
theorem dX12_rightLeave_14 : decode cX12_rightLeave 14 = .ok (.iload_n 1, 1) := by decide +kernel
theorem dX12_rightLeave_15 : decode cX12_rightLeave 15 = .ok (.iaload, 1) := by decide +kernel
theorem dX12_rightLeave_16 : decode cX12_rightLeave 16 = .ok (.iaload, 1) := by decide +kernel
theorem dX12_rightLeave_17 : decode cX12_rightLeave 17 = .ok (.isub, 1) := by decide +kernel
theorem dX12_rightLeave_18 : decode cX12_rightLeave 18 = .ok (.invokestatic 187, 3) := by decide +kernel
theorem dX12_rightLeave_21 : decode cX12_rightLeave 21 = .ok (.ireturn, 1) := by decide +kernel
theorem dX12_rightArrive_0 : decode cX12_rightArrive 0 = .ok (.aload_n 0, 1) := by decide +kernel
theorem dX12_rightArrive_1 : decode cX12_rightArrive 1 = .ok (.getfield 47, 3) := by decide +kernel
theorem dX12_rightArrive_4 : decode cX12_rightArrive 4 = .ok (.iload_n 1, 1) := by decide +kernel
theorem dX12_rightArrive_5 : decode cX12_rightArrive 5 = .ok (.iaload, 1) := by decide +kernel
theorem dX12_rightArrive_6 : decode cX12_rightArrive 6 = .ok (.aload_n 0, 1) := by decide +kernel
theorem dX12_rightArrive_7 : decode cX12_rightArrive 7 = .ok (.getfield 19, 3) := by decide +kernel
theorem dX12_rightArrive_10 : decode cX12_rightArrive 10 = .ok (.aload_n 0, 1) := by decide +kernel
theorem dX12_rightArrive_11 : decode cX12_rightArrive 11 = .ok (.getfield 25, 3) := by decide +kernel
theorem dX12_rightArrive_14 : decode cX12_rightArrive 14 = .ok (.iload_n 1, 1) := by decide +kernel
theorem dX12_rightArrive_15 : decode cX12_rightArrive 15 = .ok (.iaload, 1) := by decide +kernel
theorem dX12_rightArrive_16 : decode cX12_rightArrive 16 = .ok (.iaload, 1) := by decide +kernel
theorem dX12_rightArrive_17 : decode cX12_rightArrive 17 = .ok (.isub, 1) := by decide +kernel
theorem dX12_rightArrive_18 : decode cX12_rightArrive 18 = .ok (.invokestatic 187, 3) := by decide +kernel
theorem dX12_rightArrive_21 : decode cX12_rightArrive 21 = .ok (.ireturn, 1) := by decide +kernel
theorem dX12_lateOf_0 : decode cX12_lateOf 0 = .ok (.aload_n 0, 1) := by decide +kernel
theorem dX12_lateOf_1 : decode cX12_lateOf 1 = .ok (.iload_n 1, 1) := by decide +kernel
theorem dX12_lateOf_2 : decode cX12_lateOf 2 = .ok (.invokevirtual 190, 3) := by decide +kernel
theorem dX12_lateOf_5 : decode cX12_lateOf 5 = .ok (.aload_n 0, 1) := by decide +kernel
theorem dX12_lateOf_6 : decode cX12_lateOf 6 = .ok (.getfield 37, 3) := by decide +kernel
theorem dX12_lateOf_9 : decode cX12_lateOf 9 = .ok (.iload_n 1, 1) := by decide +kernel
theorem dX12_lateOf_10 : decode cX12_lateOf 10 = .ok (.iaload, 1) := by decide +kernel
theorem dX12_lateOf_11 : decode cX12_lateOf 11 = .ok (.isub, 1) := by decide +kernel
theorem dX12_lateOf_12 : decode cX12_lateOf 12 = .ok (.invokestatic 187, 3) := by decide +kernel
theorem dX12_lateOf_15 : decode cX12_lateOf 15 = .ok (.ireturn, 1) := by decide +kernel
theorem dX12_outlateOf_0 : decode cX12_outlateOf 0 = .ok (.aload_n 0, 1) := by decide +kernel
theorem dX12_outlateOf_1 : decode cX12_outlateOf 1 = .ok (.iload_n 1, 1) := by decide +kernel
theorem dX12_outlateOf_2 : decode cX12_outlateOf 2 = .ok (.invokevirtual 193, 3) := by decide +kernel
theorem dX12_outlateOf_5 : decode cX12_outlateOf 5 = .ok (.aload_n 0, 1) := by decide +kernel
theorem dX12_outlateOf_6 : decode cX12_outlateOf 6 = .ok (.getfield 34, 3) := by decide +kernel
theorem dX12_outlateOf_9 : decode cX12_outlateOf 9 = .ok (.iload_n 1, 1) := by decide +kernel
theorem dX12_outlateOf_10 : decode cX12_outlateOf 10 = .ok (.iaload, 1) := by decide +kernel
theorem dX12_outlateOf_11 : decode cX12_outlateOf 11 = .ok (.isub, 1) := by decide +kernel
theorem dX12_outlateOf_12 : decode cX12_outlateOf 12 = .ok (.invokestatic 187, 3) := by decide +kernel
theorem dX12_outlateOf_15 : decode cX12_outlateOf 15 = .ok (.ireturn, 1) := by decide +kernel
theorem dX12_aheadOf_0 : decode cX12_aheadOf 0 = .ok (.iconst (-1), 1) := by decide +kernel
theorem dX12_aheadOf_1 : decode cX12_aheadOf 1 = .ok (.istore_n 3, 1) := by decide +kernel
theorem dX12_aheadOf_2 : decode cX12_aheadOf 2 = .ok (.iload_n 2, 1) := by decide +kernel
theorem dX12_aheadOf_3 : decode cX12_aheadOf 3 = .ok (.ifCond .eq 12, 3) := by decide +kernel
theorem dX12_aheadOf_6 : decode cX12_aheadOf 6 = .ok (.aload_n 0, 1) := by decide +kernel
theorem dX12_aheadOf_7 : decode cX12_aheadOf 7 = .ok (.getfield 53, 3) := by decide +kernel
theorem dX12_aheadOf_10 : decode cX12_aheadOf 10 = .ok (.iconst 1, 1) := by decide +kernel
theorem dX12_aheadOf_11 : decode cX12_aheadOf 11 = .ok (.iaload, 1) := by decide +kernel
theorem dX12_aheadOf_12 : decode cX12_aheadOf 12 = .ok (.goto 9, 3) := by decide +kernel
theorem dX12_aheadOf_15 : decode cX12_aheadOf 15 = .ok (.aload_n 0, 1) := by decide +kernel
theorem dX12_aheadOf_16 : decode cX12_aheadOf 16 = .ok (.getfield 53, 3) := by decide +kernel
theorem dX12_aheadOf_19 : decode cX12_aheadOf 19 = .ok (.iconst 0, 1) := by decide +kernel
theorem dX12_aheadOf_20 : decode cX12_aheadOf 20 = .ok (.iaload, 1) := by decide +kernel
theorem dX12_aheadOf_21 : decode cX12_aheadOf 21 = .ok (.istore 4, 2) := by decide +kernel
theorem dX12_aheadOf_23 : decode cX12_aheadOf 23 = .ok (.iconst 0, 1) := by decide +kernel
theorem dX12_aheadOf_24 : decode cX12_aheadOf 24 = .ok (.istore 5, 2) := by decide +kernel
theorem dX12_aheadOf_26 : decode cX12_aheadOf 26 = .ok (.iload 5, 2) := by decide +kernel
theorem dX12_aheadOf_28 : decode cX12_aheadOf 28 = .ok (.aload_n 0, 1) := by decide +kernel
theorem dX12_aheadOf_29 : decode cX12_aheadOf 29 = .ok (.getfield 160, 3) := by decide +kernel
theorem dX12_aheadOf_32 : decode cX12_aheadOf 32 = .ok (.if_icmp .ge 139, 3) := by decide +kernel
theorem dX12_aheadOf_35 : decode cX12_aheadOf 35 = .ok (.iload_n 2, 1) := by decide +kernel
theorem dX12_aheadOf_36 : decode cX12_aheadOf 36 = .ok (.ifCond .eq 27, 3) := by decide +kernel
theorem dX12_aheadOf_39 : decode cX12_aheadOf 39 = .ok (.aload_n 0, 1) := by decide +kernel
theorem dX12_aheadOf_40 : decode cX12_aheadOf 40 = .ok (.getfield 31, 3) := by decide +kernel
theorem dX12_aheadOf_43 : decode cX12_aheadOf 43 = .ok (.iload 5, 2) := by decide +kernel
theorem dX12_aheadOf_45 : decode cX12_aheadOf 45 = .ok (.iaload, 1) := by decide +kernel
theorem dX12_aheadOf_46 : decode cX12_aheadOf 46 = .ok (.aload_n 0, 1) := by decide +kernel
theorem dX12_aheadOf_47 : decode cX12_aheadOf 47 = .ok (.getfield 31, 3) := by decide +kernel
theorem dX12_aheadOf_50 : decode cX12_aheadOf 50 = .ok (.iload_n 1, 1) := by decide +kernel
theorem dX12_aheadOf_51 : decode cX12_aheadOf 51 = .ok (.iaload, 1) := by decide +kernel
theorem dX12_aheadOf_52 : decode cX12_aheadOf 52 = .ok (.if_icmp .ne 7, 3) := by decide +kernel
theorem dX12_aheadOf_55 : decode cX12_aheadOf 55 = .ok (.iconst 1, 1) := by decide +kernel
theorem dX12_aheadOf_56 : decode cX12_aheadOf 56 = .ok (.goto 28, 3) := by decide +kernel
theorem dX12_aheadOf_59 : decode cX12_aheadOf 59 = .ok (.iconst 0, 1) := by decide +kernel
theorem dX12_aheadOf_60 : decode cX12_aheadOf 60 = .ok (.goto 24, 3) := by decide +kernel
theorem dX12_aheadOf_63 : decode cX12_aheadOf 63 = .ok (.aload_n 0, 1) := by decide +kernel
theorem dX12_aheadOf_64 : decode cX12_aheadOf 64 = .ok (.getfield 28, 3) := by decide +kernel
theorem dX12_aheadOf_67 : decode cX12_aheadOf 67 = .ok (.iload 5, 2) := by decide +kernel
theorem dX12_aheadOf_69 : decode cX12_aheadOf 69 = .ok (.iaload, 1) := by decide +kernel
theorem dX12_aheadOf_70 : decode cX12_aheadOf 70 = .ok (.aload_n 0, 1) := by decide +kernel
theorem dX12_aheadOf_71 : decode cX12_aheadOf 71 = .ok (.getfield 28, 3) := by decide +kernel
theorem dX12_aheadOf_74 : decode cX12_aheadOf 74 = .ok (.iload_n 1, 1) := by decide +kernel
theorem dX12_aheadOf_75 : decode cX12_aheadOf 75 = .ok (.iaload, 1) := by decide +kernel
theorem dX12_aheadOf_76 : decode cX12_aheadOf 76 = .ok (.if_icmp .ne 7, 3) := by decide +kernel
theorem dX12_aheadOf_79 : decode cX12_aheadOf 79 = .ok (.iconst 1, 1) := by decide +kernel
theorem dX12_aheadOf_80 : decode cX12_aheadOf 80 = .ok (.goto 4, 3) := by decide +kernel
theorem dX12_aheadOf_83 : decode cX12_aheadOf 83 = .ok (.iconst 0, 1) := by decide +kernel
theorem dX12_aheadOf_84 : decode cX12_aheadOf 84 = .ok (.istore 6, 2) := by decide +kernel
theorem dX12_aheadOf_86 : decode cX12_aheadOf 86 = .ok (.iload 6, 2) := by decide +kernel
theorem dX12_aheadOf_88 : decode cX12_aheadOf 88 = .ok (.ifCond .eq 42, 3) := by decide +kernel
theorem dX12_aheadOf_91 : decode cX12_aheadOf 91 = .ok (.aload_n 0, 1) := by decide +kernel
theorem dX12_aheadOf_92 : decode cX12_aheadOf 92 = .ok (.getfield 25, 3) := by decide +kernel
theorem dX12_aheadOf_95 : decode cX12_aheadOf 95 = .ok (.iload 5, 2) := by decide +kernel
theorem dX12_aheadOf_97 : decode cX12_aheadOf 97 = .ok (.iaload, 1) := by decide +kernel
theorem dX12_aheadOf_98 : decode cX12_aheadOf 98 = .ok (.aload_n 0, 1) := by decide +kernel
theorem dX12_aheadOf_99 : decode cX12_aheadOf 99 = .ok (.getfield 22, 3) := by decide +kernel
theorem dX12_aheadOf_102 : decode cX12_aheadOf 102 = .ok (.iload_n 1, 1) := by decide +kernel
theorem dX12_aheadOf_103 : decode cX12_aheadOf 103 = .ok (.iaload, 1) := by decide +kernel
theorem dX12_aheadOf_104 : decode cX12_aheadOf 104 = .ok (.if_icmp .ne 26, 3) := by decide +kernel
theorem dX12_aheadOf_107 : decode cX12_aheadOf 107 = .ok (.aload_n 0, 1) := by decide +kernel
theorem dX12_aheadOf_108 : decode cX12_aheadOf 108 = .ok (.getfield 37, 3) := by decide +kernel
theorem dX12_aheadOf_111 : decode cX12_aheadOf 111 = .ok (.iload 5, 2) := by decide +kernel
theorem dX12_aheadOf_113 : decode cX12_aheadOf 113 = .ok (.iaload, 1) := by decide +kernel
theorem dX12_aheadOf_114 : decode cX12_aheadOf 114 = .ok (.iload 4, 2) := by decide +kernel
theorem dX12_aheadOf_116 : decode cX12_aheadOf 116 = .ok (.iadd, 1) := by decide +kernel
theorem dX12_aheadOf_117 : decode cX12_aheadOf 117 = .ok (.aload_n 0, 1) := by decide +kernel
theorem dX12_aheadOf_118 : decode cX12_aheadOf 118 = .ok (.getfield 34, 3) := by decide +kernel
theorem dX12_aheadOf_121 : decode cX12_aheadOf 121 = .ok (.iload_n 1, 1) := by decide +kernel
theorem dX12_aheadOf_122 : decode cX12_aheadOf 122 = .ok (.iaload, 1) := by decide +kernel
theorem dX12_aheadOf_123 : decode cX12_aheadOf 123 = .ok (.if_icmp .gt 7, 3) := by decide +kernel
theorem dX12_aheadOf_126 : decode cX12_aheadOf 126 = .ok (.iconst 1, 1) := by decide +kernel
theorem dX12_aheadOf_127 : decode cX12_aheadOf 127 = .ok (.goto 4, 3) := by decide +kernel
theorem dX12_aheadOf_130 : decode cX12_aheadOf 130 = .ok (.iconst 0, 1) := by decide +kernel
theorem dX12_aheadOf_131 : decode cX12_aheadOf 131 = .ok (.istore 7, 2) := by decide +kernel
theorem dX12_aheadOf_133 : decode cX12_aheadOf 133 = .ok (.iload 7, 2) := by decide +kernel
theorem dX12_aheadOf_135 : decode cX12_aheadOf 135 = .ok (.ifCond .eq 28, 3) := by decide +kernel
theorem dX12_aheadOf_138 : decode cX12_aheadOf 138 = .ok (.iload_n 3, 1) := by decide +kernel
theorem dX12_aheadOf_139 : decode cX12_aheadOf 139 = .ok (.ifCond .lt 19, 3) := by decide +kernel
theorem dX12_aheadOf_142 : decode cX12_aheadOf 142 = .ok (.aload_n 0, 1) := by decide +kernel
theorem dX12_aheadOf_143 : decode cX12_aheadOf 143 = .ok (.getfield 37, 3) := by decide +kernel
theorem dX12_aheadOf_146 : decode cX12_aheadOf 146 = .ok (.iload 5, 2) := by decide +kernel
theorem dX12_aheadOf_148 : decode cX12_aheadOf 148 = .ok (.iaload, 1) := by decide +kernel
theorem dX12_aheadOf_149 : decode cX12_aheadOf 149 = .ok (.aload_n 0, 1) := by decide +kernel
theorem dX12_aheadOf_150 : decode cX12_aheadOf 150 = .ok (.getfield 37, 3) := by decide +kernel
theorem dX12_aheadOf_153 : decode cX12_aheadOf 153 = .ok (.iload_n 3, 1) := by decide +kernel
theorem dX12_aheadOf_154 : decode cX12_aheadOf 154 = .ok (.iaload, 1) := by decide +kernel
theorem dX12_aheadOf_155 : decode cX12_aheadOf 155 = .ok (.if_icmp .lt 8, 3) := by decide +kernel
theorem dX12_aheadOf_158 : decode cX12_aheadOf 158 = .ok (.iload 5, 2) := by decide +kernel
theorem dX12_aheadOf_160 : decode cX12_aheadOf 160 = .ok (.goto 4, 3) := by decide +kernel
theorem dX12_aheadOf_163 : decode cX12_aheadOf 163 = .ok (.iload_n 3, 1) := by decide +kernel
theorem dX12_aheadOf_164 : decode cX12_aheadOf 164 = .ok (.istore_n 3, 1) := by decide +kernel
theorem dX12_aheadOf_165 : decode cX12_aheadOf 165 = .ok (.iinc 5 1, 3) := by decide +kernel
theorem dX12_aheadOf_168 : decode cX12_aheadOf 168 = .ok (.goto (-142), 3) := by decide +kernel
theorem dX12_aheadOf_171 : decode cX12_aheadOf 171 = .ok (.iload_n 3, 1) := by decide +kernel
theorem dX12_aheadOf_172 : decode cX12_aheadOf 172 = .ok (.ireturn, 1) := by decide +kernel
theorem dX12_waitOf_0 : decode cX12_waitOf 0 = .ok (.aload_n 0, 1) := by decide +kernel
theorem dX12_waitOf_1 : decode cX12_waitOf 1 = .ok (.iload_n 1, 1) := by decide +kernel
theorem dX12_waitOf_2 : decode cX12_waitOf 2 = .ok (.iload_n 2, 1) := by decide +kernel
theorem dX12_waitOf_3 : decode cX12_waitOf 3 = .ok (.invokevirtual 196, 3) := by decide +kernel
theorem dX12_waitOf_6 : decode cX12_waitOf 6 = .ok (.istore_n 3, 1) := by decide +kernel
theorem dX12_waitOf_7 : decode cX12_waitOf 7 = .ok (.iload_n 3, 1) := by decide +kernel
theorem dX12_waitOf_8 : decode cX12_waitOf 8 = .ok (.ifCond .lt 12, 3) := by decide +kernel
theorem dX12_waitOf_11 : decode cX12_waitOf 11 = .ok (.aload_n 0, 1) := by decide +kernel
theorem dX12_waitOf_12 : decode cX12_waitOf 12 = .ok (.getfield 40, 3) := by decide +kernel
theorem dX12_waitOf_15 : decode cX12_waitOf 15 = .ok (.iload_n 3, 1) := by decide +kernel
theorem dX12_waitOf_16 : decode cX12_waitOf 16 = .ok (.baload, 1) := by decide +kernel
theorem dX12_waitOf_17 : decode cX12_waitOf 17 = .ok (.ifCond .ne 5, 3) := by decide +kernel
theorem dX12_waitOf_20 : decode cX12_waitOf 20 = .ok (.iconst 0, 1) := by decide +kernel
theorem dX12_waitOf_21 : decode cX12_waitOf 21 = .ok (.ireturn, 1) := by decide +kernel
theorem dX12_waitOf_22 : decode cX12_waitOf 22 = .ok (.aload_n 0, 1) := by decide +kernel
theorem dX12_waitOf_23 : decode cX12_waitOf 23 = .ok (.iload_n 3, 1) := by decide +kernel
theorem dX12_waitOf_24 : decode cX12_waitOf 24 = .ok (.invokevirtual 190, 3) := by decide +kernel
theorem dX12_waitOf_27 : decode cX12_waitOf 27 = .ok (.iload_n 2, 1) := by decide +kernel
theorem dX12_waitOf_28 : decode cX12_waitOf 28 = .ok (.ifCond .eq 12, 3) := by decide +kernel
theorem dX12_waitOf_31 : decode cX12_waitOf 31 = .ok (.aload_n 0, 1) := by decide +kernel
theorem dX12_waitOf_32 : decode cX12_waitOf 32 = .ok (.getfield 53, 3) := by decide +kernel
theorem dX12_waitOf_35 : decode cX12_waitOf 35 = .ok (.iconst 1, 1) := by decide +kernel
theorem dX12_waitOf_36 : decode cX12_waitOf 36 = .ok (.iaload, 1) := by decide +kernel
theorem dX12_waitOf_37 : decode cX12_waitOf 37 = .ok (.goto 9, 3) := by decide +kernel
theorem dX12_waitOf_40 : decode cX12_waitOf 40 = .ok (.aload_n 0, 1) := by decide +kernel
theorem dX12_waitOf_41 : decode cX12_waitOf 41 = .ok (.getfield 53, 3) := by decide +kernel
theorem dX12_waitOf_44 : decode cX12_waitOf 44 = .ok (.iconst 0, 1) := by decide +kernel
theorem dX12_waitOf_45 : decode cX12_waitOf 45 = .ok (.iaload, 1) := by decide +kernel
theorem dX12_waitOf_46 : decode cX12_waitOf 46 = .ok (.iadd, 1) := by decide +kernel
theorem dX12_waitOf_47 : decode cX12_waitOf 47 = .ok (.aload_n 0, 1) := by decide +kernel
theorem dX12_waitOf_48 : decode cX12_waitOf 48 = .ok (.getfield 34, 3) := by decide +kernel
theorem dX12_waitOf_51 : decode cX12_waitOf 51 = .ok (.iload_n 1, 1) := by decide +kernel
theorem dX12_waitOf_52 : decode cX12_waitOf 52 = .ok (.iaload, 1) := by decide +kernel
theorem dX12_waitOf_53 : decode cX12_waitOf 53 = .ok (.isub, 1) := by decide +kernel
theorem dX12_waitOf_54 : decode cX12_waitOf 54 = .ok (.invokestatic 187, 3) := by decide +kernel
theorem dX12_waitOf_57 : decode cX12_waitOf 57 = .ok (.istore 4, 2) := by decide +kernel
theorem dX12_waitOf_59 : decode cX12_waitOf 59 = .ok (.iload 4, 2) := by decide +kernel
theorem dX12_waitOf_61 : decode cX12_waitOf 61 = .ok (.aload_n 0, 1) := by decide +kernel
theorem dX12_waitOf_62 : decode cX12_waitOf 62 = .ok (.iload_n 1, 1) := by decide +kernel
theorem dX12_waitOf_63 : decode cX12_waitOf 63 = .ok (.invokevirtual 200, 3) := by decide +kernel
theorem dX12_waitOf_66 : decode cX12_waitOf 66 = .ok (.invokestatic 203, 3) := by decide +kernel
theorem dX12_waitOf_69 : decode cX12_waitOf 69 = .ok (.ireturn, 1) := by decide +kernel
theorem dX12_isByCrew_0 : decode cX12_isByCrew 0 = .ok (.aload_n 0, 1) := by decide +kernel
theorem dX12_isByCrew_1 : decode cX12_isByCrew 1 = .ok (.iload_n 1, 1) := by decide +kernel
theorem dX12_isByCrew_2 : decode cX12_isByCrew 2 = .ok (.iconst 1, 1) := by decide +kernel
theorem dX12_isByCrew_3 : decode cX12_isByCrew 3 = .ok (.invokevirtual 207, 3) := by decide +kernel
theorem dX12_isByCrew_6 : decode cX12_isByCrew 6 = .ok (.aload_n 0, 1) := by decide +kernel
theorem dX12_isByCrew_7 : decode cX12_isByCrew 7 = .ok (.iload_n 1, 1) := by decide +kernel
theorem dX12_isByCrew_8 : decode cX12_isByCrew 8 = .ok (.iconst 0, 1) := by decide +kernel
theorem dX12_isByCrew_9 : decode cX12_isByCrew 9 = .ok (.invokevirtual 207, 3) := by decide +kernel
theorem dX12_isByCrew_12 : decode cX12_isByCrew 12 = .ok (.if_icmp .le 7, 3) := by decide +kernel
theorem dX12_isByCrew_15 : decode cX12_isByCrew 15 = .ok (.iconst 1, 1) := by decide +kernel
theorem dX12_isByCrew_16 : decode cX12_isByCrew 16 = .ok (.goto 4, 3) := by decide +kernel
theorem dX12_isByCrew_19 : decode cX12_isByCrew 19 = .ok (.iconst 0, 1) := by decide +kernel
theorem dX12_isByCrew_20 : decode cX12_isByCrew 20 = .ok (.ireturn, 1) := by decide +kernel
theorem dX12_handedOf_0 : decode cX12_handedOf 0 = .ok (.aload_n 0, 1) := by decide +kernel
theorem dX12_handedOf_1 : decode cX12_handedOf 1 = .ok (.iload_n 1, 1) := by decide +kernel
theorem dX12_handedOf_2 : decode cX12_handedOf 2 = .ok (.invokevirtual 210, 3) := by decide +kernel
theorem dX12_handedOf_5 : decode cX12_handedOf 5 = .ok (.aload_n 0, 1) := by decide +kernel
theorem dX12_handedOf_6 : decode cX12_handedOf 6 = .ok (.iload_n 1, 1) := by decide +kernel
theorem dX12_handedOf_7 : decode cX12_handedOf 7 = .ok (.aload_n 0, 1) := by decide +kernel
theorem dX12_handedOf_8 : decode cX12_handedOf 8 = .ok (.iload_n 1, 1) := by decide +kernel
theorem dX12_handedOf_9 : decode cX12_handedOf 9 = .ok (.invokevirtual 213, 3) := by decide +kernel
theorem dX12_handedOf_12 : decode cX12_handedOf 12 = .ok (.invokevirtual 207, 3) := by decide +kernel
theorem dX12_handedOf_15 : decode cX12_handedOf 15 = .ok (.invokestatic 203, 3) := by decide +kernel
theorem dX12_handedOf_18 : decode cX12_handedOf 18 = .ok (.ireturn, 1) := by decide +kernel
theorem dX12_legOf_0 : decode cX12_legOf 0 = .ok (.aload_n 0, 1) := by decide +kernel
theorem dX12_legOf_1 : decode cX12_legOf 1 = .ok (.iload_n 1, 1) := by decide +kernel
theorem dX12_legOf_2 : decode cX12_legOf 2 = .ok (.invokevirtual 181, 3) := by decide +kernel
theorem dX12_legOf_5 : decode cX12_legOf 5 = .ok (.ifCond .ne 9, 3) := by decide +kernel
theorem dX12_legOf_8 : decode cX12_legOf 8 = .ok (.aload_n 0, 1) := by decide +kernel
theorem dX12_legOf_9 : decode cX12_legOf 9 = .ok (.iconst (-1), 1) := by decide +kernel
theorem dX12_legOf_10 : decode cX12_legOf 10 = .ok (.invokevirtual 164, 3) := by decide +kernel
theorem dX12_legOf_13 : decode cX12_legOf 13 = .ok (.ireturn, 1) := by decide +kernel
theorem dX12_legOf_14 : decode cX12_legOf 14 = .ok (.iload_n 2, 1) := by decide +kernel
theorem dX12_legOf_15 : decode cX12_legOf 15 = .ok (.iconst 0, 1) := by decide +kernel
theorem dX12_legOf_16 : decode cX12_legOf 16 = .ok (.iconst 5, 1) := by decide +kernel
theorem dX12_legOf_17 : decode cX12_legOf 17 = .ok (.invokestatic 156, 3) := by decide +kernel
theorem dX12_legOf_20 : decode cX12_legOf 20 = .ok (.ifCond .ne 10, 3) := by decide +kernel
theorem dX12_legOf_23 : decode cX12_legOf 23 = .ok (.aload_n 0, 1) := by decide +kernel
theorem dX12_legOf_24 : decode cX12_legOf 24 = .ok (.bipush (-2), 2) := by decide +kernel
theorem dX12_legOf_26 : decode cX12_legOf 26 = .ok (.invokevirtual 164, 3) := by decide +kernel
theorem dX12_legOf_29 : decode cX12_legOf 29 = .ok (.ireturn, 1) := by decide +kernel
theorem dX12_legOf_30 : decode cX12_legOf 30 = .ok (.aload_n 0, 1) := by decide +kernel
theorem dX12_legOf_31 : decode cX12_legOf 31 = .ok (.getfield 40, 3) := by decide +kernel
theorem dX12_legOf_34 : decode cX12_legOf 34 = .ok (.iload_n 1, 1) := by decide +kernel
theorem dX12_legOf_35 : decode cX12_legOf 35 = .ok (.baload, 1) := by decide +kernel
theorem dX12_legOf_36 : decode cX12_legOf 36 = .ok (.ifCond .ne 10, 3) := by decide +kernel
theorem dX12_legOf_39 : decode cX12_legOf 39 = .ok (.aload_n 0, 1) := by decide +kernel
theorem dX12_legOf_40 : decode cX12_legOf 40 = .ok (.bipush (-5), 2) := by decide +kernel
theorem dX12_legOf_42 : decode cX12_legOf 42 = .ok (.invokevirtual 164, 3) := by decide +kernel
theorem dX12_legOf_45 : decode cX12_legOf 45 = .ok (.ireturn, 1) := by decide +kernel
theorem dX12_legOf_46 : decode cX12_legOf 46 = .ok (.iload_n 2, 1) := by decide +kernel
theorem dX12_legOf_47 : decode cX12_legOf 47 = .ok (.tableswitch 65 0 4 #[33, 39, 45, 52, 59], 33) := by decide +kernel
theorem dX12_legOf_80 : decode cX12_legOf 80 = .ok (.aload_n 0, 1) := by decide +kernel
theorem dX12_legOf_81 : decode cX12_legOf 81 = .ok (.iload_n 1, 1) := by decide +kernel
theorem dX12_legOf_82 : decode cX12_legOf 82 = .ok (.invokevirtual 210, 3) := by decide +kernel
theorem dX12_legOf_85 : decode cX12_legOf 85 = .ok (.ireturn, 1) := by decide +kernel
theorem dX12_legOf_86 : decode cX12_legOf 86 = .ok (.aload_n 0, 1) := by decide +kernel
theorem dX12_legOf_87 : decode cX12_legOf 87 = .ok (.iload_n 1, 1) := by decide +kernel
theorem dX12_legOf_88 : decode cX12_legOf 88 = .ok (.invokevirtual 200, 3) := by decide +kernel
theorem dX12_legOf_91 : decode cX12_legOf 91 = .ok (.ireturn, 1) := by decide +kernel
theorem dX12_legOf_92 : decode cX12_legOf 92 = .ok (.aload_n 0, 1) := by decide +kernel
theorem dX12_legOf_93 : decode cX12_legOf 93 = .ok (.iload_n 1, 1) := by decide +kernel
theorem dX12_legOf_94 : decode cX12_legOf 94 = .ok (.iconst 0, 1) := by decide +kernel
theorem dX12_legOf_95 : decode cX12_legOf 95 = .ok (.invokevirtual 207, 3) := by decide +kernel
theorem dX12_legOf_98 : decode cX12_legOf 98 = .ok (.ireturn, 1) := by decide +kernel
theorem dX12_legOf_99 : decode cX12_legOf 99 = .ok (.aload_n 0, 1) := by decide +kernel
theorem dX12_legOf_100 : decode cX12_legOf 100 = .ok (.iload_n 1, 1) := by decide +kernel
theorem dX12_legOf_101 : decode cX12_legOf 101 = .ok (.iconst 1, 1) := by decide +kernel
theorem dX12_legOf_102 : decode cX12_legOf 102 = .ok (.invokevirtual 207, 3) := by decide +kernel
theorem dX12_legOf_105 : decode cX12_legOf 105 = .ok (.ireturn, 1) := by decide +kernel
theorem dX12_legOf_106 : decode cX12_legOf 106 = .ok (.aload_n 0, 1) := by decide +kernel
theorem dX12_legOf_107 : decode cX12_legOf 107 = .ok (.iload_n 1, 1) := by decide +kernel
theorem dX12_legOf_108 : decode cX12_legOf 108 = .ok (.invokevirtual 216, 3) := by decide +kernel
theorem dX12_legOf_111 : decode cX12_legOf 111 = .ok (.ireturn, 1) := by decide +kernel
theorem dX12_legOf_112 : decode cX12_legOf 112 = .ok (.aload_n 0, 1) := by decide +kernel
theorem dX12_legOf_113 : decode cX12_legOf 113 = .ok (.iload_n 1, 1) := by decide +kernel
theorem dX12_legOf_114 : decode cX12_legOf 114 = .ok (.invokevirtual 210, 3) := by decide +kernel
theorem dX12_legOf_117 : decode cX12_legOf 117 = .ok (.aload_n 0, 1) := by decide +kernel
theorem dX12_legOf_118 : decode cX12_legOf 118 = .ok (.iload_n 1, 1) := by decide +kernel
theorem dX12_legOf_119 : decode cX12_legOf 119 = .ok (.invokevirtual 216, 3) := by decide +kernel
theorem dX12_legOf_122 : decode cX12_legOf 122 = .ok (.isub, 1) := by decide +kernel
theorem dX12_legOf_123 : decode cX12_legOf 123 = .ok (.ireturn, 1) := by decide +kernel
theorem dX12_ahead_0 : decode cX12_ahead 0 = .ok (.aload_n 0, 1) := by decide +kernel
theorem dX12_ahead_1 : decode cX12_ahead 1 = .ok (.iload_n 1, 1) := by decide +kernel
theorem dX12_ahead_2 : decode cX12_ahead 2 = .ok (.invokevirtual 181, 3) := by decide +kernel
theorem dX12_ahead_5 : decode cX12_ahead 5 = .ok (.ifCond .ne 9, 3) := by decide +kernel
theorem dX12_ahead_8 : decode cX12_ahead 8 = .ok (.aload_n 0, 1) := by decide +kernel
theorem dX12_ahead_9 : decode cX12_ahead 9 = .ok (.iconst (-1), 1) := by decide +kernel
theorem dX12_ahead_10 : decode cX12_ahead 10 = .ok (.invokevirtual 164, 3) := by decide +kernel
theorem dX12_ahead_13 : decode cX12_ahead 13 = .ok (.ireturn, 1) := by decide +kernel
theorem dX12_ahead_14 : decode cX12_ahead 14 = .ok (.aload_n 0, 1) := by decide +kernel
theorem dX12_ahead_15 : decode cX12_ahead 15 = .ok (.iload_n 1, 1) := by decide +kernel
theorem dX12_ahead_16 : decode cX12_ahead 16 = .ok (.iload_n 2, 1) := by decide +kernel
theorem dX12_ahead_17 : decode cX12_ahead 17 = .ok (.invokevirtual 196, 3) := by decide +kernel
theorem dX12_ahead_20 : decode cX12_ahead 20 = .ok (.istore_n 3, 1) := by decide +kernel
theorem dX12_ahead_21 : decode cX12_ahead 21 = .ok (.iload_n 3, 1) := by decide +kernel
theorem dX12_ahead_22 : decode cX12_ahead 22 = .ok (.ifCond .ge 8, 3) := by decide +kernel
theorem dX12_ahead_25 : decode cX12_ahead 25 = .ok (.bipush (-9), 2) := by decide +kernel
theorem dX12_ahead_27 : decode cX12_ahead 27 = .ok (.goto 4, 3) := by decide +kernel
theorem dX12_ahead_30 : decode cX12_ahead 30 = .ok (.iload_n 3, 1) := by decide +kernel
theorem dX12_ahead_31 : decode cX12_ahead 31 = .ok (.ireturn, 1) := by decide +kernel
theorem dX12_findMinutes_0 : decode cX12_findMinutes 0 = .ok (.iconst 0, 1) := by decide +kernel
theorem dX12_findMinutes_1 : decode cX12_findMinutes 1 = .ok (.istore_n 2, 1) := by decide +kernel
theorem dX12_findMinutes_2 : decode cX12_findMinutes 2 = .ok (.iload_n 2, 1) := by decide +kernel
theorem dX12_findMinutes_3 : decode cX12_findMinutes 3 = .ok (.bipush 6, 2) := by decide +kernel
theorem dX12_findMinutes_5 : decode cX12_findMinutes 5 = .ok (.if_icmp .ge 16, 3) := by decide +kernel
theorem dX12_findMinutes_8 : decode cX12_findMinutes 8 = .ok (.aload_n 0, 1) := by decide +kernel
theorem dX12_findMinutes_9 : decode cX12_findMinutes 9 = .ok (.getfield 59, 3) := by decide +kernel
theorem dX12_findMinutes_12 : decode cX12_findMinutes 12 = .ok (.iload_n 2, 1) := by decide +kernel
theorem dX12_findMinutes_13 : decode cX12_findMinutes 13 = .ok (.iconst 0, 1) := by decide +kernel
theorem dX12_findMinutes_14 : decode cX12_findMinutes 14 = .ok (.iastore, 1) := by decide +kernel
theorem dX12_findMinutes_15 : decode cX12_findMinutes 15 = .ok (.iinc 2 1, 3) := by decide +kernel
theorem dX12_findMinutes_18 : decode cX12_findMinutes 18 = .ok (.goto (-16), 3) := by decide +kernel
theorem dX12_findMinutes_21 : decode cX12_findMinutes 21 = .ok (.iload_n 1, 1) := by decide +kernel
theorem dX12_findMinutes_22 : decode cX12_findMinutes 22 = .ok (.istore_n 2, 1) := by decide +kernel
theorem dX12_findMinutes_23 : decode cX12_findMinutes 23 = .ok (.aload_n 0, 1) := by decide +kernel
theorem dX12_findMinutes_24 : decode cX12_findMinutes 24 = .ok (.iload_n 1, 1) := by decide +kernel
theorem dX12_findMinutes_25 : decode cX12_findMinutes 25 = .ok (.invokevirtual 210, 3) := by decide +kernel
theorem dX12_findMinutes_28 : decode cX12_findMinutes 28 = .ok (.istore_n 3, 1) := by decide +kernel
theorem dX12_findMinutes_29 : decode cX12_findMinutes 29 = .ok (.iload_n 3, 1) := by decide +kernel
theorem dX12_findMinutes_30 : decode cX12_findMinutes 30 = .ok (.ifCond .le 57, 3) := by decide +kernel
theorem dX12_findMinutes_33 : decode cX12_findMinutes 33 = .ok (.iload_n 3, 1) := by decide +kernel
theorem dX12_findMinutes_34 : decode cX12_findMinutes 34 = .ok (.aload_n 0, 1) := by decide +kernel
theorem dX12_findMinutes_35 : decode cX12_findMinutes 35 = .ok (.iload_n 2, 1) := by decide +kernel
theorem dX12_findMinutes_36 : decode cX12_findMinutes 36 = .ok (.invokevirtual 216, 3) := by decide +kernel
theorem dX12_findMinutes_39 : decode cX12_findMinutes 39 = .ok (.invokestatic 203, 3) := by decide +kernel
theorem dX12_findMinutes_42 : decode cX12_findMinutes 42 = .ok (.istore 4, 2) := by decide +kernel
theorem dX12_findMinutes_44 : decode cX12_findMinutes 44 = .ok (.aload_n 0, 1) := by decide +kernel
theorem dX12_findMinutes_45 : decode cX12_findMinutes 45 = .ok (.getfield 59, 3) := by decide +kernel
theorem dX12_findMinutes_48 : decode cX12_findMinutes 48 = .ok (.aload_n 0, 1) := by decide +kernel
theorem dX12_findMinutes_49 : decode cX12_findMinutes 49 = .ok (.getfield 50, 3) := by decide +kernel
theorem dX12_findMinutes_52 : decode cX12_findMinutes 52 = .ok (.iload_n 2, 1) := by decide +kernel
theorem dX12_findMinutes_53 : decode cX12_findMinutes 53 = .ok (.iaload, 1) := by decide +kernel
theorem dX12_findMinutes_54 : decode cX12_findMinutes 54 = .ok (.dup2, 1) := by decide +kernel
theorem dX12_findMinutes_55 : decode cX12_findMinutes 55 = .ok (.iaload, 1) := by decide +kernel
theorem dX12_findMinutes_56 : decode cX12_findMinutes 56 = .ok (.iload_n 3, 1) := by decide +kernel
theorem dX12_findMinutes_57 : decode cX12_findMinutes 57 = .ok (.iload 4, 2) := by decide +kernel
theorem dX12_findMinutes_59 : decode cX12_findMinutes 59 = .ok (.isub, 1) := by decide +kernel
theorem dX12_findMinutes_60 : decode cX12_findMinutes 60 = .ok (.iadd, 1) := by decide +kernel
theorem dX12_findMinutes_61 : decode cX12_findMinutes 61 = .ok (.iastore, 1) := by decide +kernel
theorem dX12_findMinutes_62 : decode cX12_findMinutes 62 = .ok (.iload 4, 2) := by decide +kernel
theorem dX12_findMinutes_64 : decode cX12_findMinutes 64 = .ok (.istore_n 3, 1) := by decide +kernel
theorem dX12_findMinutes_65 : decode cX12_findMinutes 65 = .ok (.iload_n 3, 1) := by decide +kernel
theorem dX12_findMinutes_66 : decode cX12_findMinutes 66 = .ok (.ifCond .le 16, 3) := by decide +kernel
theorem dX12_findMinutes_69 : decode cX12_findMinutes 69 = .ok (.aload_n 0, 1) := by decide +kernel
theorem dX12_findMinutes_70 : decode cX12_findMinutes 70 = .ok (.iload_n 2, 1) := by decide +kernel
theorem dX12_findMinutes_71 : decode cX12_findMinutes 71 = .ok (.aload_n 0, 1) := by decide +kernel
theorem dX12_findMinutes_72 : decode cX12_findMinutes 72 = .ok (.iload_n 2, 1) := by decide +kernel
theorem dX12_findMinutes_73 : decode cX12_findMinutes 73 = .ok (.invokevirtual 213, 3) := by decide +kernel
theorem dX12_findMinutes_76 : decode cX12_findMinutes 76 = .ok (.invokevirtual 196, 3) := by decide +kernel
theorem dX12_findMinutes_79 : decode cX12_findMinutes 79 = .ok (.goto 4, 3) := by decide +kernel
theorem dX12_findMinutes_82 : decode cX12_findMinutes 82 = .ok (.iload_n 2, 1) := by decide +kernel
theorem dX12_findMinutes_83 : decode cX12_findMinutes 83 = .ok (.istore_n 2, 1) := by decide +kernel
theorem dX12_findMinutes_84 : decode cX12_findMinutes 84 = .ok (.goto (-55), 3) := by decide +kernel
theorem dX12_findMinutes_87 : decode cX12_findMinutes 87 = .ok (.return_, 1) := by decide +kernel
theorem dX12_minutes_0 : decode cX12_minutes 0 = .ok (.aload_n 0, 1) := by decide +kernel
theorem dX12_minutes_1 : decode cX12_minutes 1 = .ok (.iload_n 1, 1) := by decide +kernel
theorem dX12_minutes_2 : decode cX12_minutes 2 = .ok (.invokevirtual 181, 3) := by decide +kernel
theorem dX12_minutes_5 : decode cX12_minutes 5 = .ok (.ifCond .eq 10, 3) := by decide +kernel
theorem dX12_minutes_8 : decode cX12_minutes 8 = .ok (.iload_n 2, 1) := by decide +kernel
theorem dX12_minutes_9 : decode cX12_minutes 9 = .ok (.invokestatic 184, 3) := by decide +kernel
theorem dX12_minutes_12 : decode cX12_minutes 12 = .ok (.ifCond .ne 9, 3) := by decide +kernel
theorem dX12_minutes_15 : decode cX12_minutes 15 = .ok (.aload_n 0, 1) := by decide +kernel
theorem dX12_minutes_16 : decode cX12_minutes 16 = .ok (.iconst (-1), 1) := by decide +kernel
theorem dX12_minutes_17 : decode cX12_minutes 17 = .ok (.invokevirtual 164, 3) := by decide +kernel
theorem dX12_minutes_20 : decode cX12_minutes 20 = .ok (.ireturn, 1) := by decide +kernel
theorem dX12_minutes_21 : decode cX12_minutes 21 = .ok (.aload_n 0, 1) := by decide +kernel
theorem dX12_minutes_22 : decode cX12_minutes 22 = .ok (.getfield 40, 3) := by decide +kernel
theorem dX12_minutes_25 : decode cX12_minutes 25 = .ok (.iload_n 1, 1) := by decide +kernel
theorem dX12_minutes_26 : decode cX12_minutes 26 = .ok (.baload, 1) := by decide +kernel
theorem dX12_minutes_27 : decode cX12_minutes 27 = .ok (.ifCond .ne 10, 3) := by decide +kernel
theorem dX12_minutes_30 : decode cX12_minutes 30 = .ok (.aload_n 0, 1) := by decide +kernel
theorem dX12_minutes_31 : decode cX12_minutes 31 = .ok (.bipush (-5), 2) := by decide +kernel
theorem dX12_minutes_33 : decode cX12_minutes 33 = .ok (.invokevirtual 164, 3) := by decide +kernel
theorem dX12_minutes_36 : decode cX12_minutes 36 = .ok (.ireturn, 1) := by decide +kernel
theorem dX12_minutes_37 : decode cX12_minutes 37 = .ok (.aload_n 0, 1) := by decide +kernel
theorem dX12_minutes_38 : decode cX12_minutes 38 = .ok (.iload_n 1, 1) := by decide +kernel
theorem dX12_minutes_39 : decode cX12_minutes 39 = .ok (.invokevirtual 219, 3) := by decide +kernel
theorem dX12_minutes_42 : decode cX12_minutes 42 = .ok (.aload_n 0, 1) := by decide +kernel
theorem dX12_minutes_43 : decode cX12_minutes 43 = .ok (.getfield 59, 3) := by decide +kernel
theorem dX12_minutes_46 : decode cX12_minutes 46 = .ok (.iload_n 2, 1) := by decide +kernel
theorem dX12_minutes_47 : decode cX12_minutes 47 = .ok (.iaload, 1) := by decide +kernel
theorem dX12_minutes_48 : decode cX12_minutes 48 = .ok (.ireturn, 1) := by decide +kernel
theorem dX12_saved_0 : decode cX12_saved 0 = .ok (.aload_n 0, 1) := by decide +kernel
theorem dX12_saved_1 : decode cX12_saved 1 = .ok (.iload_n 1, 1) := by decide +kernel
theorem dX12_saved_2 : decode cX12_saved 2 = .ok (.invokevirtual 181, 3) := by decide +kernel
theorem dX12_saved_5 : decode cX12_saved 5 = .ok (.ifCond .ne 9, 3) := by decide +kernel
theorem dX12_saved_8 : decode cX12_saved 8 = .ok (.aload_n 0, 1) := by decide +kernel
theorem dX12_saved_9 : decode cX12_saved 9 = .ok (.iconst (-1), 1) := by decide +kernel
theorem dX12_saved_10 : decode cX12_saved 10 = .ok (.invokevirtual 164, 3) := by decide +kernel
theorem dX12_saved_13 : decode cX12_saved 13 = .ok (.ireturn, 1) := by decide +kernel
theorem dX12_saved_14 : decode cX12_saved 14 = .ok (.aload_n 0, 1) := by decide +kernel
theorem dX12_saved_15 : decode cX12_saved 15 = .ok (.getfield 40, 3) := by decide +kernel
theorem dX12_saved_18 : decode cX12_saved 18 = .ok (.iload_n 1, 1) := by decide +kernel
theorem dX12_saved_19 : decode cX12_saved 19 = .ok (.baload, 1) := by decide +kernel
theorem dX12_saved_20 : decode cX12_saved 20 = .ok (.ifCond .ne 10, 3) := by decide +kernel
theorem dX12_saved_23 : decode cX12_saved 23 = .ok (.aload_n 0, 1) := by decide +kernel
theorem dX12_saved_24 : decode cX12_saved 24 = .ok (.bipush (-5), 2) := by decide +kernel
theorem dX12_saved_26 : decode cX12_saved 26 = .ok (.invokevirtual 164, 3) := by decide +kernel
theorem dX12_saved_29 : decode cX12_saved 29 = .ok (.ireturn, 1) := by decide +kernel
theorem dX12_saved_30 : decode cX12_saved 30 = .ok (.iload_n 2, 1) := by decide +kernel
theorem dX12_saved_31 : decode cX12_saved 31 = .ok (.ifCond .ge 10, 3) := by decide +kernel
theorem dX12_saved_34 : decode cX12_saved 34 = .ok (.aload_n 0, 1) := by decide +kernel
theorem dX12_saved_35 : decode cX12_saved 35 = .ok (.bipush (-4), 2) := by decide +kernel
theorem dX12_saved_37 : decode cX12_saved 37 = .ok (.invokevirtual 164, 3) := by decide +kernel
theorem dX12_saved_40 : decode cX12_saved 40 = .ok (.ireturn, 1) := by decide +kernel
theorem dX12_saved_41 : decode cX12_saved 41 = .ok (.iload_n 2, 1) := by decide +kernel
theorem dX12_saved_42 : decode cX12_saved 42 = .ok (.sipush 30000, 3) := by decide +kernel
theorem dX12_saved_45 : decode cX12_saved 45 = .ok (.if_icmp .le 10, 3) := by decide +kernel
theorem dX12_saved_48 : decode cX12_saved 48 = .ok (.aload_n 0, 1) := by decide +kernel
theorem dX12_saved_49 : decode cX12_saved 49 = .ok (.bipush (-6), 2) := by decide +kernel
theorem dX12_saved_51 : decode cX12_saved 51 = .ok (.invokevirtual 164, 3) := by decide +kernel
theorem dX12_saved_54 : decode cX12_saved 54 = .ok (.ireturn, 1) := by decide +kernel
theorem dX12_saved_55 : decode cX12_saved 55 = .ok (.aload_n 0, 1) := by decide +kernel
theorem dX12_saved_56 : decode cX12_saved 56 = .ok (.getfield 34, 3) := by decide +kernel
theorem dX12_saved_59 : decode cX12_saved 59 = .ok (.iload_n 1, 1) := by decide +kernel
theorem dX12_saved_60 : decode cX12_saved 60 = .ok (.iaload, 1) := by decide +kernel
theorem dX12_saved_61 : decode cX12_saved 61 = .ok (.aload_n 0, 1) := by decide +kernel
theorem dX12_saved_62 : decode cX12_saved 62 = .ok (.iload_n 1, 1) := by decide +kernel
theorem dX12_saved_63 : decode cX12_saved 63 = .ok (.iconst 1, 1) := by decide +kernel
theorem dX12_saved_64 : decode cX12_saved 64 = .ok (.invokevirtual 207, 3) := by decide +kernel
theorem dX12_saved_67 : decode cX12_saved 67 = .ok (.iadd, 1) := by decide +kernel
theorem dX12_saved_68 : decode cX12_saved 68 = .ok (.istore_n 3, 1) := by decide +kernel
theorem dX12_saved_69 : decode cX12_saved 69 = .ok (.iload_n 2, 1) := by decide +kernel
theorem dX12_saved_70 : decode cX12_saved 70 = .ok (.iload_n 3, 1) := by decide +kernel
theorem dX12_saved_71 : decode cX12_saved 71 = .ok (.if_icmp .le 7, 3) := by decide +kernel
theorem dX12_saved_74 : decode cX12_saved 74 = .ok (.iload_n 2, 1) := by decide +kernel
theorem dX12_saved_75 : decode cX12_saved 75 = .ok (.goto 4, 3) := by decide +kernel
theorem dX12_saved_78 : decode cX12_saved 78 = .ok (.iload_n 3, 1) := by decide +kernel
theorem dX12_saved_79 : decode cX12_saved 79 = .ok (.istore_n 3, 1) := by decide +kernel
theorem dX12_saved_80 : decode cX12_saved 80 = .ok (.aload_n 0, 1) := by decide +kernel
theorem dX12_saved_81 : decode cX12_saved 81 = .ok (.iload_n 1, 1) := by decide +kernel
theorem dX12_saved_82 : decode cX12_saved 82 = .ok (.invokevirtual 193, 3) := by decide +kernel
theorem dX12_saved_85 : decode cX12_saved 85 = .ok (.iload_n 3, 1) := by decide +kernel
theorem dX12_saved_86 : decode cX12_saved 86 = .ok (.isub, 1) := by decide +kernel
theorem dX12_saved_87 : decode cX12_saved 87 = .ok (.invokestatic 187, 3) := by decide +kernel
theorem dX12_saved_90 : decode cX12_saved 90 = .ok (.ireturn, 1) := by decide +kernel
theorem dX12_isTraveller_0 : decode cX12_isTraveller 0 = .ok (.iload_n 1, 1) := by decide +kernel
theorem dX12_isTraveller_1 : decode cX12_isTraveller 1 = .ok (.iconst 0, 1) := by decide +kernel
theorem dX12_isTraveller_2 : decode cX12_isTraveller 2 = .ok (.aload_n 0, 1) := by decide +kernel
theorem dX12_isTraveller_3 : decode cX12_isTraveller 3 = .ok (.getfield 223, 3) := by decide +kernel
theorem dX12_isTraveller_6 : decode cX12_isTraveller 6 = .ok (.iconst 1, 1) := by decide +kernel
theorem dX12_isTraveller_7 : decode cX12_isTraveller 7 = .ok (.isub, 1) := by decide +kernel
theorem dX12_isTraveller_8 : decode cX12_isTraveller 8 = .ok (.invokestatic 156, 3) := by decide +kernel
theorem dX12_isTraveller_11 : decode cX12_isTraveller 11 = .ok (.ireturn, 1) := by decide +kernel
theorem dX12_traveller_0 : decode cX12_traveller 0 = .ok (.aload_n 0, 1) := by decide +kernel
theorem dX12_traveller_1 : decode cX12_traveller 1 = .ok (.iload_n 1, 1) := by decide +kernel
theorem dX12_traveller_2 : decode cX12_traveller 2 = .ok (.invokevirtual 181, 3) := by decide +kernel
theorem dX12_traveller_5 : decode cX12_traveller 5 = .ok (.ifCond .ne 9, 3) := by decide +kernel
theorem dX12_traveller_8 : decode cX12_traveller 8 = .ok (.aload_n 0, 1) := by decide +kernel
theorem dX12_traveller_9 : decode cX12_traveller 9 = .ok (.iconst (-1), 1) := by decide +kernel
theorem dX12_traveller_10 : decode cX12_traveller 10 = .ok (.invokevirtual 164, 3) := by decide +kernel
theorem dX12_traveller_13 : decode cX12_traveller 13 = .ok (.ireturn, 1) := by decide +kernel
theorem dX12_traveller_14 : decode cX12_traveller 14 = .ok (.aload_n 0, 1) := by decide +kernel
theorem dX12_traveller_15 : decode cX12_traveller 15 = .ok (.getfield 223, 3) := by decide +kernel
theorem dX12_traveller_18 : decode cX12_traveller 18 = .ok (.bipush 20, 2) := by decide +kernel
theorem dX12_traveller_20 : decode cX12_traveller 20 = .ok (.if_icmp .ne 10, 3) := by decide +kernel
theorem dX12_traveller_23 : decode cX12_traveller 23 = .ok (.aload_n 0, 1) := by decide +kernel
theorem dX12_traveller_24 : decode cX12_traveller 24 = .ok (.bipush (-6), 2) := by decide +kernel
theorem dX12_traveller_26 : decode cX12_traveller 26 = .ok (.invokevirtual 164, 3) := by decide +kernel
theorem dX12_traveller_29 : decode cX12_traveller 29 = .ok (.ireturn, 1) := by decide +kernel
theorem dX12_traveller_30 : decode cX12_traveller 30 = .ok (.aload_n 0, 1) := by decide +kernel
theorem dX12_traveller_31 : decode cX12_traveller 31 = .ok (.getfield 62, 3) := by decide +kernel
theorem dX12_traveller_34 : decode cX12_traveller 34 = .ok (.iconst 4, 1) := by decide +kernel
theorem dX12_traveller_35 : decode cX12_traveller 35 = .ok (.aload_n 0, 1) := by decide +kernel
theorem dX12_traveller_36 : decode cX12_traveller 36 = .ok (.getfield 223, 3) := by decide +kernel
theorem dX12_traveller_39 : decode cX12_traveller 39 = .ok (.imul, 1) := by decide +kernel
theorem dX12_traveller_40 : decode cX12_traveller 40 = .ok (.iload_n 1, 1) := by decide +kernel
theorem dX12_traveller_41 : decode cX12_traveller 41 = .ok (.iastore, 1) := by decide +kernel
theorem dX12_traveller_42 : decode cX12_traveller 42 = .ok (.aload_n 0, 1) := by decide +kernel
theorem dX12_traveller_43 : decode cX12_traveller 43 = .ok (.getfield 65, 3) := by decide +kernel
theorem dX12_traveller_46 : decode cX12_traveller 46 = .ok (.aload_n 0, 1) := by decide +kernel
theorem dX12_traveller_47 : decode cX12_traveller 47 = .ok (.getfield 223, 3) := by decide +kernel
theorem dX12_traveller_50 : decode cX12_traveller 50 = .ok (.iconst 1, 1) := by decide +kernel
theorem dX12_traveller_51 : decode cX12_traveller 51 = .ok (.iastore, 1) := by decide +kernel
theorem dX12_traveller_52 : decode cX12_traveller 52 = .ok (.aload_n 0, 1) := by decide +kernel
theorem dX12_traveller_53 : decode cX12_traveller 53 = .ok (.dup, 1) := by decide +kernel
theorem dX12_traveller_54 : decode cX12_traveller 54 = .ok (.getfield 223, 3) := by decide +kernel
theorem dX12_traveller_57 : decode cX12_traveller 57 = .ok (.iconst 1, 1) := by decide +kernel
theorem dX12_traveller_58 : decode cX12_traveller 58 = .ok (.iadd, 1) := by decide +kernel
theorem dX12_traveller_59 : decode cX12_traveller 59 = .ok (.putfield 223, 3) := by decide +kernel
theorem dX12_traveller_62 : decode cX12_traveller 62 = .ok (.aload_n 0, 1) := by decide +kernel
theorem dX12_traveller_63 : decode cX12_traveller 63 = .ok (.getfield 223, 3) := by decide +kernel
theorem dX12_traveller_66 : decode cX12_traveller 66 = .ok (.iconst 1, 1) := by decide +kernel
theorem dX12_traveller_67 : decode cX12_traveller 67 = .ok (.isub, 1) := by decide +kernel
theorem dX12_traveller_68 : decode cX12_traveller 68 = .ok (.ireturn, 1) := by decide +kernel
theorem dX12_then_0 : decode cX12_then 0 = .ok (.aload_n 0, 1) := by decide +kernel
theorem dX12_then_1 : decode cX12_then 1 = .ok (.iload_n 1, 1) := by decide +kernel
theorem dX12_then_2 : decode cX12_then 2 = .ok (.invokevirtual 226, 3) := by decide +kernel
theorem dX12_then_5 : decode cX12_then 5 = .ok (.ifCond .eq 11, 3) := by decide +kernel
theorem dX12_then_8 : decode cX12_then 8 = .ok (.aload_n 0, 1) := by decide +kernel
theorem dX12_then_9 : decode cX12_then 9 = .ok (.iload_n 2, 1) := by decide +kernel
theorem dX12_then_10 : decode cX12_then 10 = .ok (.invokevirtual 181, 3) := by decide +kernel
theorem dX12_then_13 : decode cX12_then 13 = .ok (.ifCond .ne 9, 3) := by decide +kernel
theorem dX12_then_16 : decode cX12_then 16 = .ok (.aload_n 0, 1) := by decide +kernel
theorem dX12_then_17 : decode cX12_then 17 = .ok (.iconst (-1), 1) := by decide +kernel
theorem dX12_then_18 : decode cX12_then 18 = .ok (.invokevirtual 164, 3) := by decide +kernel
theorem dX12_then_21 : decode cX12_then 21 = .ok (.ireturn, 1) := by decide +kernel
theorem dX12_then_22 : decode cX12_then 22 = .ok (.aload_n 0, 1) := by decide +kernel
theorem dX12_then_23 : decode cX12_then 23 = .ok (.getfield 62, 3) := by decide +kernel
theorem dX12_then_26 : decode cX12_then 26 = .ok (.iconst 4, 1) := by decide +kernel
theorem dX12_then_27 : decode cX12_then 27 = .ok (.iload_n 1, 1) := by decide +kernel
theorem dX12_then_28 : decode cX12_then 28 = .ok (.imul, 1) := by decide +kernel
theorem dX12_then_29 : decode cX12_then 29 = .ok (.aload_n 0, 1) := by decide +kernel
theorem dX12_then_30 : decode cX12_then 30 = .ok (.getfield 65, 3) := by decide +kernel
theorem dX12_then_33 : decode cX12_then 33 = .ok (.iload_n 1, 1) := by decide +kernel
theorem dX12_then_34 : decode cX12_then 34 = .ok (.iaload, 1) := by decide +kernel
theorem dX12_then_35 : decode cX12_then 35 = .ok (.iadd, 1) := by decide +kernel
theorem dX12_then_36 : decode cX12_then 36 = .ok (.iconst 1, 1) := by decide +kernel
theorem dX12_then_37 : decode cX12_then 37 = .ok (.isub, 1) := by decide +kernel
theorem dX12_then_38 : decode cX12_then 38 = .ok (.iaload, 1) := by decide +kernel
theorem dX12_then_39 : decode cX12_then 39 = .ok (.istore_n 3, 1) := by decide +kernel
theorem dX12_then_40 : decode cX12_then 40 = .ok (.aload_n 0, 1) := by decide +kernel
theorem dX12_then_41 : decode cX12_then 41 = .ok (.getfield 22, 3) := by decide +kernel
theorem dX12_then_44 : decode cX12_then 44 = .ok (.iload_n 2, 1) := by decide +kernel
theorem dX12_then_45 : decode cX12_then 45 = .ok (.iaload, 1) := by decide +kernel
theorem dX12_then_46 : decode cX12_then 46 = .ok (.aload_n 0, 1) := by decide +kernel
theorem dX12_then_47 : decode cX12_then 47 = .ok (.getfield 25, 3) := by decide +kernel
theorem dX12_then_50 : decode cX12_then 50 = .ok (.iload_n 3, 1) := by decide +kernel
theorem dX12_then_51 : decode cX12_then 51 = .ok (.iaload, 1) := by decide +kernel
theorem dX12_then_52 : decode cX12_then 52 = .ok (.if_icmp .ne 25, 3) := by decide +kernel
theorem dX12_then_55 : decode cX12_then 55 = .ok (.aload_n 0, 1) := by decide +kernel
theorem dX12_then_56 : decode cX12_then 56 = .ok (.getfield 34, 3) := by decide +kernel
theorem dX12_then_59 : decode cX12_then 59 = .ok (.iload_n 2, 1) := by decide +kernel
theorem dX12_then_60 : decode cX12_then 60 = .ok (.iaload, 1) := by decide +kernel
theorem dX12_then_61 : decode cX12_then 61 = .ok (.aload_n 0, 1) := by decide +kernel
theorem dX12_then_62 : decode cX12_then 62 = .ok (.getfield 37, 3) := by decide +kernel
theorem dX12_then_65 : decode cX12_then 65 = .ok (.iload_n 3, 1) := by decide +kernel
theorem dX12_then_66 : decode cX12_then 66 = .ok (.iaload, 1) := by decide +kernel
theorem dX12_then_67 : decode cX12_then 67 = .ok (.aload_n 0, 1) := by decide +kernel
theorem dX12_then_68 : decode cX12_then 68 = .ok (.getfield 53, 3) := by decide +kernel
theorem dX12_then_71 : decode cX12_then 71 = .ok (.iconst 2, 1) := by decide +kernel
theorem dX12_then_72 : decode cX12_then 72 = .ok (.iaload, 1) := by decide +kernel
theorem dX12_then_73 : decode cX12_then 73 = .ok (.iadd, 1) := by decide +kernel
theorem dX12_then_74 : decode cX12_then 74 = .ok (.if_icmp .ge 10, 3) := by decide +kernel
theorem dX12_then_77 : decode cX12_then 77 = .ok (.aload_n 0, 1) := by decide +kernel
theorem dX12_then_78 : decode cX12_then 78 = .ok (.bipush (-3), 2) := by decide +kernel
theorem dX12_then_80 : decode cX12_then 80 = .ok (.invokevirtual 164, 3) := by decide +kernel
theorem dX12_then_83 : decode cX12_then 83 = .ok (.ireturn, 1) := by decide +kernel
theorem dX12_then_84 : decode cX12_then 84 = .ok (.aload_n 0, 1) := by decide +kernel
theorem dX12_then_85 : decode cX12_then 85 = .ok (.getfield 65, 3) := by decide +kernel
theorem dX12_then_88 : decode cX12_then 88 = .ok (.iload_n 1, 1) := by decide +kernel
theorem dX12_then_89 : decode cX12_then 89 = .ok (.iaload, 1) := by decide +kernel
theorem dX12_then_90 : decode cX12_then 90 = .ok (.iconst 4, 1) := by decide +kernel
theorem dX12_then_91 : decode cX12_then 91 = .ok (.if_icmp .ne 10, 3) := by decide +kernel
theorem dX12_then_94 : decode cX12_then 94 = .ok (.aload_n 0, 1) := by decide +kernel
theorem dX12_then_95 : decode cX12_then 95 = .ok (.bipush (-6), 2) := by decide +kernel
theorem dX12_then_97 : decode cX12_then 97 = .ok (.invokevirtual 164, 3) := by decide +kernel
theorem dX12_then_100 : decode cX12_then 100 = .ok (.ireturn, 1) := by decide +kernel
theorem dX12_then_101 : decode cX12_then 101 = .ok (.aload_n 0, 1) := by decide +kernel
theorem dX12_then_102 : decode cX12_then 102 = .ok (.getfield 62, 3) := by decide +kernel
theorem dX12_then_105 : decode cX12_then 105 = .ok (.iconst 4, 1) := by decide +kernel
theorem dX12_then_106 : decode cX12_then 106 = .ok (.iload_n 1, 1) := by decide +kernel
theorem dX12_then_107 : decode cX12_then 107 = .ok (.imul, 1) := by decide +kernel
theorem dX12_then_108 : decode cX12_then 108 = .ok (.aload_n 0, 1) := by decide +kernel
theorem dX12_then_109 : decode cX12_then 109 = .ok (.getfield 65, 3) := by decide +kernel
theorem dX12_then_112 : decode cX12_then 112 = .ok (.iload_n 1, 1) := by decide +kernel
theorem dX12_then_113 : decode cX12_then 113 = .ok (.iaload, 1) := by decide +kernel
theorem dX12_then_114 : decode cX12_then 114 = .ok (.iadd, 1) := by decide +kernel
theorem dX12_then_115 : decode cX12_then 115 = .ok (.iload_n 2, 1) := by decide +kernel
theorem dX12_then_116 : decode cX12_then 116 = .ok (.iastore, 1) := by decide +kernel
theorem dX12_then_117 : decode cX12_then 117 = .ok (.aload_n 0, 1) := by decide +kernel
theorem dX12_then_118 : decode cX12_then 118 = .ok (.getfield 65, 3) := by decide +kernel
theorem dX12_then_121 : decode cX12_then 121 = .ok (.iload_n 1, 1) := by decide +kernel
theorem dX12_then_122 : decode cX12_then 122 = .ok (.dup2, 1) := by decide +kernel
theorem dX12_then_123 : decode cX12_then 123 = .ok (.iaload, 1) := by decide +kernel
theorem dX12_then_124 : decode cX12_then 124 = .ok (.iconst 1, 1) := by decide +kernel
theorem dX12_then_125 : decode cX12_then 125 = .ok (.iadd, 1) := by decide +kernel
theorem dX12_then_126 : decode cX12_then 126 = .ok (.iastore, 1) := by decide +kernel
theorem dX12_then_127 : decode cX12_then 127 = .ok (.aload_n 0, 1) := by decide +kernel
theorem dX12_then_128 : decode cX12_then 128 = .ok (.getfield 65, 3) := by decide +kernel
theorem dX12_then_131 : decode cX12_then 131 = .ok (.iload_n 1, 1) := by decide +kernel
theorem dX12_then_132 : decode cX12_then 132 = .ok (.iaload, 1) := by decide +kernel
theorem dX12_then_133 : decode cX12_then 133 = .ok (.ireturn, 1) := by decide +kernel
theorem dX12_firstLeg_0 : decode cX12_firstLeg 0 = .ok (.aload_n 0, 1) := by decide +kernel
theorem dX12_firstLeg_1 : decode cX12_firstLeg 1 = .ok (.getfield 62, 3) := by decide +kernel
theorem dX12_firstLeg_4 : decode cX12_firstLeg 4 = .ok (.iconst 4, 1) := by decide +kernel
theorem dX12_firstLeg_5 : decode cX12_firstLeg 5 = .ok (.iload_n 1, 1) := by decide +kernel
theorem dX12_firstLeg_6 : decode cX12_firstLeg 6 = .ok (.imul, 1) := by decide +kernel
theorem dX12_firstLeg_7 : decode cX12_firstLeg 7 = .ok (.iaload, 1) := by decide +kernel
theorem dX12_firstLeg_8 : decode cX12_firstLeg 8 = .ok (.ireturn, 1) := by decide +kernel
theorem dX12_lastLeg_0 : decode cX12_lastLeg 0 = .ok (.aload_n 0, 1) := by decide +kernel
theorem dX12_lastLeg_1 : decode cX12_lastLeg 1 = .ok (.getfield 62, 3) := by decide +kernel
theorem dX12_lastLeg_4 : decode cX12_lastLeg 4 = .ok (.iconst 4, 1) := by decide +kernel
theorem dX12_lastLeg_5 : decode cX12_lastLeg 5 = .ok (.iload_n 1, 1) := by decide +kernel
theorem dX12_lastLeg_6 : decode cX12_lastLeg 6 = .ok (.imul, 1) := by decide +kernel
theorem dX12_lastLeg_7 : decode cX12_lastLeg 7 = .ok (.aload_n 0, 1) := by decide +kernel
theorem dX12_lastLeg_8 : decode cX12_lastLeg 8 = .ok (.getfield 65, 3) := by decide +kernel
theorem dX12_lastLeg_11 : decode cX12_lastLeg 11 = .ok (.iload_n 1, 1) := by decide +kernel
theorem dX12_lastLeg_12 : decode cX12_lastLeg 12 = .ok (.iaload, 1) := by decide +kernel
theorem dX12_lastLeg_13 : decode cX12_lastLeg 13 = .ok (.iadd, 1) := by decide +kernel
theorem dX12_lastLeg_14 : decode cX12_lastLeg 14 = .ok (.iconst 1, 1) := by decide +kernel
theorem dX12_lastLeg_15 : decode cX12_lastLeg 15 = .ok (.isub, 1) := by decide +kernel
theorem dX12_lastLeg_16 : decode cX12_lastLeg 16 = .ok (.iaload, 1) := by decide +kernel
theorem dX12_lastLeg_17 : decode cX12_lastLeg 17 = .ok (.ireturn, 1) := by decide +kernel
theorem dX12_missedOf_0 : decode cX12_missedOf 0 = .ok (.iconst 0, 1) := by decide +kernel
theorem dX12_missedOf_1 : decode cX12_missedOf 1 = .ok (.istore_n 2, 1) := by decide +kernel
theorem dX12_missedOf_2 : decode cX12_missedOf 2 = .ok (.iload_n 2, 1) := by decide +kernel
theorem dX12_missedOf_3 : decode cX12_missedOf 3 = .ok (.aload_n 0, 1) := by decide +kernel
theorem dX12_missedOf_4 : decode cX12_missedOf 4 = .ok (.getfield 65, 3) := by decide +kernel
theorem dX12_missedOf_7 : decode cX12_missedOf 7 = .ok (.iload_n 1, 1) := by decide +kernel
theorem dX12_missedOf_8 : decode cX12_missedOf 8 = .ok (.iaload, 1) := by decide +kernel
theorem dX12_missedOf_9 : decode cX12_missedOf 9 = .ok (.if_icmp .ge 66, 3) := by decide +kernel
theorem dX12_missedOf_12 : decode cX12_missedOf 12 = .ok (.aload_n 0, 1) := by decide +kernel
theorem dX12_missedOf_13 : decode cX12_missedOf 13 = .ok (.getfield 62, 3) := by decide +kernel
theorem dX12_missedOf_16 : decode cX12_missedOf 16 = .ok (.iconst 4, 1) := by decide +kernel
theorem dX12_missedOf_17 : decode cX12_missedOf 17 = .ok (.iload_n 1, 1) := by decide +kernel
theorem dX12_missedOf_18 : decode cX12_missedOf 18 = .ok (.imul, 1) := by decide +kernel
theorem dX12_missedOf_19 : decode cX12_missedOf 19 = .ok (.iload_n 2, 1) := by decide +kernel
theorem dX12_missedOf_20 : decode cX12_missedOf 20 = .ok (.iadd, 1) := by decide +kernel
theorem dX12_missedOf_21 : decode cX12_missedOf 21 = .ok (.iaload, 1) := by decide +kernel
theorem dX12_missedOf_22 : decode cX12_missedOf 22 = .ok (.istore_n 3, 1) := by decide +kernel
theorem dX12_missedOf_23 : decode cX12_missedOf 23 = .ok (.aload_n 0, 1) := by decide +kernel
theorem dX12_missedOf_24 : decode cX12_missedOf 24 = .ok (.getfield 40, 3) := by decide +kernel
theorem dX12_missedOf_27 : decode cX12_missedOf 27 = .ok (.iload_n 3, 1) := by decide +kernel
theorem dX12_missedOf_28 : decode cX12_missedOf 28 = .ok (.baload, 1) := by decide +kernel
theorem dX12_missedOf_29 : decode cX12_missedOf 29 = .ok (.ifCond .eq 38, 3) := by decide +kernel
theorem dX12_missedOf_32 : decode cX12_missedOf 32 = .ok (.iload_n 2, 1) := by decide +kernel
theorem dX12_missedOf_33 : decode cX12_missedOf 33 = .ok (.ifCond .le 36, 3) := by decide +kernel
theorem dX12_missedOf_36 : decode cX12_missedOf 36 = .ok (.aload_n 0, 1) := by decide +kernel
theorem dX12_missedOf_37 : decode cX12_missedOf 37 = .ok (.iload_n 3, 1) := by decide +kernel
theorem dX12_missedOf_38 : decode cX12_missedOf 38 = .ok (.invokevirtual 193, 3) := by decide +kernel
theorem dX12_missedOf_41 : decode cX12_missedOf 41 = .ok (.aload_n 0, 1) := by decide +kernel
theorem dX12_missedOf_42 : decode cX12_missedOf 42 = .ok (.aload_n 0, 1) := by decide +kernel
theorem dX12_missedOf_43 : decode cX12_missedOf 43 = .ok (.getfield 62, 3) := by decide +kernel
theorem dX12_missedOf_46 : decode cX12_missedOf 46 = .ok (.iconst 4, 1) := by decide +kernel
theorem dX12_missedOf_47 : decode cX12_missedOf 47 = .ok (.iload_n 1, 1) := by decide +kernel
theorem dX12_missedOf_48 : decode cX12_missedOf 48 = .ok (.imul, 1) := by decide +kernel
theorem dX12_missedOf_49 : decode cX12_missedOf 49 = .ok (.iload_n 2, 1) := by decide +kernel
theorem dX12_missedOf_50 : decode cX12_missedOf 50 = .ok (.iadd, 1) := by decide +kernel
theorem dX12_missedOf_51 : decode cX12_missedOf 51 = .ok (.iconst 1, 1) := by decide +kernel
theorem dX12_missedOf_52 : decode cX12_missedOf 52 = .ok (.isub, 1) := by decide +kernel
theorem dX12_missedOf_53 : decode cX12_missedOf 53 = .ok (.iaload, 1) := by decide +kernel
theorem dX12_missedOf_54 : decode cX12_missedOf 54 = .ok (.invokevirtual 190, 3) := by decide +kernel
theorem dX12_missedOf_57 : decode cX12_missedOf 57 = .ok (.isub, 1) := by decide +kernel
theorem dX12_missedOf_58 : decode cX12_missedOf 58 = .ok (.aload_n 0, 1) := by decide +kernel
theorem dX12_missedOf_59 : decode cX12_missedOf 59 = .ok (.getfield 53, 3) := by decide +kernel
theorem dX12_missedOf_62 : decode cX12_missedOf 62 = .ok (.iconst 2, 1) := by decide +kernel
theorem dX12_missedOf_63 : decode cX12_missedOf 63 = .ok (.iaload, 1) := by decide +kernel
theorem dX12_missedOf_64 : decode cX12_missedOf 64 = .ok (.if_icmp .ge 5, 3) := by decide +kernel
theorem dX12_missedOf_67 : decode cX12_missedOf 67 = .ok (.iload_n 2, 1) := by decide +kernel
theorem dX12_missedOf_68 : decode cX12_missedOf 68 = .ok (.ireturn, 1) := by decide +kernel
theorem dX12_missedOf_69 : decode cX12_missedOf 69 = .ok (.iinc 2 1, 3) := by decide +kernel
theorem dX12_missedOf_72 : decode cX12_missedOf 72 = .ok (.goto (-70), 3) := by decide +kernel
theorem dX12_missedOf_75 : decode cX12_missedOf 75 = .ok (.iconst (-1), 1) := by decide +kernel
theorem dX12_missedOf_76 : decode cX12_missedOf 76 = .ok (.ireturn, 1) := by decide +kernel
theorem dX12_missed_0 : decode cX12_missed 0 = .ok (.aload_n 0, 1) := by decide +kernel
theorem dX12_missed_1 : decode cX12_missed 1 = .ok (.iload_n 1, 1) := by decide +kernel
theorem dX12_missed_2 : decode cX12_missed 2 = .ok (.invokevirtual 226, 3) := by decide +kernel
theorem dX12_missed_5 : decode cX12_missed 5 = .ok (.ifCond .ne 9, 3) := by decide +kernel
theorem dX12_missed_8 : decode cX12_missed 8 = .ok (.aload_n 0, 1) := by decide +kernel
theorem dX12_missed_9 : decode cX12_missed 9 = .ok (.iconst (-1), 1) := by decide +kernel
theorem dX12_missed_10 : decode cX12_missed 10 = .ok (.invokevirtual 164, 3) := by decide +kernel
theorem dX12_missed_13 : decode cX12_missed 13 = .ok (.ireturn, 1) := by decide +kernel
theorem dX12_missed_14 : decode cX12_missed 14 = .ok (.aload_n 0, 1) := by decide +kernel
theorem dX12_missed_15 : decode cX12_missed 15 = .ok (.iload_n 1, 1) := by decide +kernel
theorem dX12_missed_16 : decode cX12_missed 16 = .ok (.invokevirtual 229, 3) := by decide +kernel
theorem dX12_missed_19 : decode cX12_missed 19 = .ok (.istore_n 2, 1) := by decide +kernel
theorem dX12_missed_20 : decode cX12_missed 20 = .ok (.iload_n 2, 1) := by decide +kernel
theorem dX12_missed_21 : decode cX12_missed 21 = .ok (.ifCond .ge 8, 3) := by decide +kernel
theorem dX12_missed_24 : decode cX12_missed 24 = .ok (.bipush (-9), 2) := by decide +kernel
theorem dX12_missed_26 : decode cX12_missed 26 = .ok (.goto 4, 3) := by decide +kernel
theorem dX12_missed_29 : decode cX12_missed 29 = .ok (.iload_n 2, 1) := by decide +kernel
theorem dX12_missed_30 : decode cX12_missed 30 = .ok (.ireturn, 1) := by decide +kernel
theorem dX12_soonestOf_0 : decode cX12_soonestOf 0 = .ok (.aload_n 0, 1) := by decide +kernel
theorem dX12_soonestOf_1 : decode cX12_soonestOf 1 = .ok (.iload_n 1, 1) := by decide +kernel
theorem dX12_soonestOf_2 : decode cX12_soonestOf 2 = .ok (.invokevirtual 229, 3) := by decide +kernel
theorem dX12_soonestOf_5 : decode cX12_soonestOf 5 = .ok (.istore_n 2, 1) := by decide +kernel
theorem dX12_soonestOf_6 : decode cX12_soonestOf 6 = .ok (.iload_n 2, 1) := by decide +kernel
theorem dX12_soonestOf_7 : decode cX12_soonestOf 7 = .ok (.ifCond .ge 13, 3) := by decide +kernel
theorem dX12_soonestOf_10 : decode cX12_soonestOf 10 = .ok (.aload_n 0, 1) := by decide +kernel
theorem dX12_soonestOf_11 : decode cX12_soonestOf 11 = .ok (.aload_n 0, 1) := by decide +kernel
theorem dX12_soonestOf_12 : decode cX12_soonestOf 12 = .ok (.iload_n 1, 1) := by decide +kernel
theorem dX12_soonestOf_13 : decode cX12_soonestOf 13 = .ok (.invokevirtual 232, 3) := by decide +kernel
theorem dX12_soonestOf_16 : decode cX12_soonestOf 16 = .ok (.invokevirtual 190, 3) := by decide +kernel
theorem dX12_soonestOf_19 : decode cX12_soonestOf 19 = .ok (.ireturn, 1) := by decide +kernel
theorem dX12_soonestOf_20 : decode cX12_soonestOf 20 = .ok (.aload_n 0, 1) := by decide +kernel
theorem dX12_soonestOf_21 : decode cX12_soonestOf 21 = .ok (.getfield 22, 3) := by decide +kernel
theorem dX12_soonestOf_24 : decode cX12_soonestOf 24 = .ok (.aload_n 0, 1) := by decide +kernel
theorem dX12_soonestOf_25 : decode cX12_soonestOf 25 = .ok (.getfield 62, 3) := by decide +kernel
theorem dX12_soonestOf_28 : decode cX12_soonestOf 28 = .ok (.iconst 4, 1) := by decide +kernel
theorem dX12_soonestOf_29 : decode cX12_soonestOf 29 = .ok (.iload_n 1, 1) := by decide +kernel
theorem dX12_soonestOf_30 : decode cX12_soonestOf 30 = .ok (.imul, 1) := by decide +kernel
theorem dX12_soonestOf_31 : decode cX12_soonestOf 31 = .ok (.iload_n 2, 1) := by decide +kernel
theorem dX12_soonestOf_32 : decode cX12_soonestOf 32 = .ok (.iadd, 1) := by decide +kernel
theorem dX12_soonestOf_33 : decode cX12_soonestOf 33 = .ok (.iaload, 1) := by decide +kernel
theorem dX12_soonestOf_34 : decode cX12_soonestOf 34 = .ok (.iaload, 1) := by decide +kernel
theorem dX12_soonestOf_35 : decode cX12_soonestOf 35 = .ok (.istore_n 3, 1) := by decide +kernel
theorem dX12_soonestOf_36 : decode cX12_soonestOf 36 = .ok (.iload_n 2, 1) := by decide +kernel
theorem dX12_soonestOf_37 : decode cX12_soonestOf 37 = .ok (.ifCond .ne 19, 3) := by decide +kernel
theorem dX12_soonestOf_40 : decode cX12_soonestOf 40 = .ok (.aload_n 0, 1) := by decide +kernel
theorem dX12_soonestOf_41 : decode cX12_soonestOf 41 = .ok (.getfield 34, 3) := by decide +kernel
theorem dX12_soonestOf_44 : decode cX12_soonestOf 44 = .ok (.aload_n 0, 1) := by decide +kernel
theorem dX12_soonestOf_45 : decode cX12_soonestOf 45 = .ok (.getfield 62, 3) := by decide +kernel
theorem dX12_soonestOf_48 : decode cX12_soonestOf 48 = .ok (.iconst 4, 1) := by decide +kernel
theorem dX12_soonestOf_49 : decode cX12_soonestOf 49 = .ok (.iload_n 1, 1) := by decide +kernel
theorem dX12_soonestOf_50 : decode cX12_soonestOf 50 = .ok (.imul, 1) := by decide +kernel
theorem dX12_soonestOf_51 : decode cX12_soonestOf 51 = .ok (.iaload, 1) := by decide +kernel
theorem dX12_soonestOf_52 : decode cX12_soonestOf 52 = .ok (.iaload, 1) := by decide +kernel
theorem dX12_soonestOf_53 : decode cX12_soonestOf 53 = .ok (.goto 19, 3) := by decide +kernel
theorem dX12_soonestOf_56 : decode cX12_soonestOf 56 = .ok (.aload_n 0, 1) := by decide +kernel
theorem dX12_soonestOf_57 : decode cX12_soonestOf 57 = .ok (.aload_n 0, 1) := by decide +kernel
theorem dX12_soonestOf_58 : decode cX12_soonestOf 58 = .ok (.getfield 62, 3) := by decide +kernel
theorem dX12_soonestOf_61 : decode cX12_soonestOf 61 = .ok (.iconst 4, 1) := by decide +kernel
theorem dX12_soonestOf_62 : decode cX12_soonestOf 62 = .ok (.iload_n 1, 1) := by decide +kernel
theorem dX12_soonestOf_63 : decode cX12_soonestOf 63 = .ok (.imul, 1) := by decide +kernel
theorem dX12_soonestOf_64 : decode cX12_soonestOf 64 = .ok (.iload_n 2, 1) := by decide +kernel
theorem dX12_soonestOf_65 : decode cX12_soonestOf 65 = .ok (.iadd, 1) := by decide +kernel
theorem dX12_soonestOf_66 : decode cX12_soonestOf 66 = .ok (.iconst 1, 1) := by decide +kernel
theorem dX12_soonestOf_67 : decode cX12_soonestOf 67 = .ok (.isub, 1) := by decide +kernel
theorem dX12_soonestOf_68 : decode cX12_soonestOf 68 = .ok (.iaload, 1) := by decide +kernel
theorem dX12_soonestOf_69 : decode cX12_soonestOf 69 = .ok (.invokevirtual 190, 3) := by decide +kernel
theorem dX12_soonestOf_72 : decode cX12_soonestOf 72 = .ok (.istore 4, 2) := by decide +kernel
theorem dX12_soonestOf_74 : decode cX12_soonestOf 74 = .ok (.iconst 0, 1) := by decide +kernel
theorem dX12_soonestOf_75 : decode cX12_soonestOf 75 = .ok (.istore 5, 2) := by decide +kernel
theorem dX12_soonestOf_77 : decode cX12_soonestOf 77 = .ok (.iload 5, 2) := by decide +kernel
theorem dX12_soonestOf_79 : decode cX12_soonestOf 79 = .ok (.aload_n 0, 1) := by decide +kernel
theorem dX12_soonestOf_80 : decode cX12_soonestOf 80 = .ok (.getfield 160, 3) := by decide +kernel
theorem dX12_soonestOf_83 : decode cX12_soonestOf 83 = .ok (.if_icmp .ge 53, 3) := by decide +kernel
theorem dX12_soonestOf_86 : decode cX12_soonestOf 86 = .ok (.aload_n 0, 1) := by decide +kernel
theorem dX12_soonestOf_87 : decode cX12_soonestOf 87 = .ok (.getfield 68, 3) := by decide +kernel
theorem dX12_soonestOf_90 : decode cX12_soonestOf 90 = .ok (.iload 5, 2) := by decide +kernel
theorem dX12_soonestOf_92 : decode cX12_soonestOf 92 = .ok (.aload_n 0, 1) := by decide +kernel
theorem dX12_soonestOf_93 : decode cX12_soonestOf 93 = .ok (.getfield 40, 3) := by decide +kernel
theorem dX12_soonestOf_96 : decode cX12_soonestOf 96 = .ok (.iload 5, 2) := by decide +kernel
theorem dX12_soonestOf_98 : decode cX12_soonestOf 98 = .ok (.baload, 1) := by decide +kernel
theorem dX12_soonestOf_99 : decode cX12_soonestOf 99 = .ok (.ifCond .eq 29, 3) := by decide +kernel
theorem dX12_soonestOf_102 : decode cX12_soonestOf 102 = .ok (.aload_n 0, 1) := by decide +kernel
theorem dX12_soonestOf_103 : decode cX12_soonestOf 103 = .ok (.getfield 22, 3) := by decide +kernel
theorem dX12_soonestOf_106 : decode cX12_soonestOf 106 = .ok (.iload 5, 2) := by decide +kernel
theorem dX12_soonestOf_108 : decode cX12_soonestOf 108 = .ok (.iaload, 1) := by decide +kernel
theorem dX12_soonestOf_109 : decode cX12_soonestOf 109 = .ok (.iload_n 3, 1) := by decide +kernel
theorem dX12_soonestOf_110 : decode cX12_soonestOf 110 = .ok (.if_icmp .ne 18, 3) := by decide +kernel
theorem dX12_soonestOf_113 : decode cX12_soonestOf 113 = .ok (.aload_n 0, 1) := by decide +kernel
theorem dX12_soonestOf_114 : decode cX12_soonestOf 114 = .ok (.iload 5, 2) := by decide +kernel
theorem dX12_soonestOf_116 : decode cX12_soonestOf 116 = .ok (.invokevirtual 193, 3) := by decide +kernel
theorem dX12_soonestOf_119 : decode cX12_soonestOf 119 = .ok (.iload 4, 2) := by decide +kernel
theorem dX12_soonestOf_121 : decode cX12_soonestOf 121 = .ok (.if_icmp .lt 7, 3) := by decide +kernel
theorem dX12_soonestOf_124 : decode cX12_soonestOf 124 = .ok (.iconst 1, 1) := by decide +kernel
theorem dX12_soonestOf_125 : decode cX12_soonestOf 125 = .ok (.goto 4, 3) := by decide +kernel
theorem dX12_soonestOf_128 : decode cX12_soonestOf 128 = .ok (.iconst 0, 1) := by decide +kernel
theorem dX12_soonestOf_129 : decode cX12_soonestOf 129 = .ok (.bastore, 1) := by decide +kernel
theorem dX12_soonestOf_130 : decode cX12_soonestOf 130 = .ok (.iinc 5 1, 3) := by decide +kernel
theorem dX12_soonestOf_133 : decode cX12_soonestOf 133 = .ok (.goto (-56), 3) := by decide +kernel
theorem dX12_soonestOf_136 : decode cX12_soonestOf 136 = .ok (.iconst 1, 1) := by decide +kernel
theorem dX12_soonestOf_137 : decode cX12_soonestOf 137 = .ok (.istore 5, 2) := by decide +kernel
theorem dX12_soonestOf_139 : decode cX12_soonestOf 139 = .ok (.iload 5, 2) := by decide +kernel
theorem dX12_soonestOf_141 : decode cX12_soonestOf 141 = .ok (.ifCond .eq 165, 3) := by decide +kernel
theorem dX12_soonestOf_144 : decode cX12_soonestOf 144 = .ok (.iconst 0, 1) := by decide +kernel
theorem dX12_soonestOf_145 : decode cX12_soonestOf 145 = .ok (.istore 5, 2) := by decide +kernel
theorem dX12_soonestOf_147 : decode cX12_soonestOf 147 = .ok (.iconst 0, 1) := by decide +kernel
theorem dX12_soonestOf_148 : decode cX12_soonestOf 148 = .ok (.istore 6, 2) := by decide +kernel
theorem dX12_soonestOf_150 : decode cX12_soonestOf 150 = .ok (.iload 6, 2) := by decide +kernel
theorem dX12_soonestOf_152 : decode cX12_soonestOf 152 = .ok (.aload_n 0, 1) := by decide +kernel
theorem dX12_soonestOf_153 : decode cX12_soonestOf 153 = .ok (.getfield 160, 3) := by decide +kernel
theorem dX12_soonestOf_156 : decode cX12_soonestOf 156 = .ok (.if_icmp .ge 147, 3) := by decide +kernel
theorem dX12_soonestOf_159 : decode cX12_soonestOf 159 = .ok (.iconst 0, 1) := by decide +kernel
theorem dX12_soonestOf_160 : decode cX12_soonestOf 160 = .ok (.istore 7, 2) := by decide +kernel
theorem dX12_soonestOf_162 : decode cX12_soonestOf 162 = .ok (.iload 7, 2) := by decide +kernel
theorem dX12_soonestOf_164 : decode cX12_soonestOf 164 = .ok (.aload_n 0, 1) := by decide +kernel
theorem dX12_soonestOf_165 : decode cX12_soonestOf 165 = .ok (.getfield 160, 3) := by decide +kernel
theorem dX12_soonestOf_168 : decode cX12_soonestOf 168 = .ok (.if_icmp .ge 129, 3) := by decide +kernel
theorem dX12_soonestOf_171 : decode cX12_soonestOf 171 = .ok (.aload_n 0, 1) := by decide +kernel
theorem dX12_soonestOf_172 : decode cX12_soonestOf 172 = .ok (.getfield 68, 3) := by decide +kernel
theorem dX12_soonestOf_175 : decode cX12_soonestOf 175 = .ok (.iload 6, 2) := by decide +kernel
theorem dX12_soonestOf_177 : decode cX12_soonestOf 177 = .ok (.baload, 1) := by decide +kernel
theorem dX12_soonestOf_178 : decode cX12_soonestOf 178 = .ok (.ifCond .eq 66, 3) := by decide +kernel
theorem dX12_soonestOf_181 : decode cX12_soonestOf 181 = .ok (.aload_n 0, 1) := by decide +kernel
theorem dX12_soonestOf_182 : decode cX12_soonestOf 182 = .ok (.getfield 68, 3) := by decide +kernel
theorem dX12_soonestOf_185 : decode cX12_soonestOf 185 = .ok (.iload 7, 2) := by decide +kernel
theorem dX12_soonestOf_187 : decode cX12_soonestOf 187 = .ok (.baload, 1) := by decide +kernel
theorem dX12_soonestOf_188 : decode cX12_soonestOf 188 = .ok (.ifCond .ne 56, 3) := by decide +kernel
theorem dX12_soonestOf_191 : decode cX12_soonestOf 191 = .ok (.aload_n 0, 1) := by decide +kernel
theorem dX12_soonestOf_192 : decode cX12_soonestOf 192 = .ok (.getfield 40, 3) := by decide +kernel
theorem dX12_soonestOf_195 : decode cX12_soonestOf 195 = .ok (.iload 7, 2) := by decide +kernel
theorem dX12_soonestOf_197 : decode cX12_soonestOf 197 = .ok (.baload, 1) := by decide +kernel
theorem dX12_soonestOf_198 : decode cX12_soonestOf 198 = .ok (.ifCond .eq 46, 3) := by decide +kernel
theorem dX12_soonestOf_201 : decode cX12_soonestOf 201 = .ok (.aload_n 0, 1) := by decide +kernel
theorem dX12_soonestOf_202 : decode cX12_soonestOf 202 = .ok (.getfield 22, 3) := by decide +kernel
theorem dX12_soonestOf_205 : decode cX12_soonestOf 205 = .ok (.iload 7, 2) := by decide +kernel
theorem dX12_soonestOf_207 : decode cX12_soonestOf 207 = .ok (.iaload, 1) := by decide +kernel
theorem dX12_soonestOf_208 : decode cX12_soonestOf 208 = .ok (.aload_n 0, 1) := by decide +kernel
theorem dX12_soonestOf_209 : decode cX12_soonestOf 209 = .ok (.getfield 25, 3) := by decide +kernel
theorem dX12_soonestOf_212 : decode cX12_soonestOf 212 = .ok (.iload 6, 2) := by decide +kernel
theorem dX12_soonestOf_214 : decode cX12_soonestOf 214 = .ok (.iaload, 1) := by decide +kernel
theorem dX12_soonestOf_215 : decode cX12_soonestOf 215 = .ok (.if_icmp .ne 29, 3) := by decide +kernel
theorem dX12_soonestOf_218 : decode cX12_soonestOf 218 = .ok (.aload_n 0, 1) := by decide +kernel
theorem dX12_soonestOf_219 : decode cX12_soonestOf 219 = .ok (.iload 7, 2) := by decide +kernel
theorem dX12_soonestOf_221 : decode cX12_soonestOf 221 = .ok (.invokevirtual 193, 3) := by decide +kernel
theorem dX12_soonestOf_224 : decode cX12_soonestOf 224 = .ok (.aload_n 0, 1) := by decide +kernel
theorem dX12_soonestOf_225 : decode cX12_soonestOf 225 = .ok (.iload 6, 2) := by decide +kernel
theorem dX12_soonestOf_227 : decode cX12_soonestOf 227 = .ok (.invokevirtual 190, 3) := by decide +kernel
theorem dX12_soonestOf_230 : decode cX12_soonestOf 230 = .ok (.isub, 1) := by decide +kernel
theorem dX12_soonestOf_231 : decode cX12_soonestOf 231 = .ok (.aload_n 0, 1) := by decide +kernel
theorem dX12_soonestOf_232 : decode cX12_soonestOf 232 = .ok (.getfield 53, 3) := by decide +kernel
theorem dX12_soonestOf_235 : decode cX12_soonestOf 235 = .ok (.iconst 2, 1) := by decide +kernel
theorem dX12_soonestOf_236 : decode cX12_soonestOf 236 = .ok (.iaload, 1) := by decide +kernel
theorem dX12_soonestOf_237 : decode cX12_soonestOf 237 = .ok (.if_icmp .lt 7, 3) := by decide +kernel
theorem dX12_soonestOf_240 : decode cX12_soonestOf 240 = .ok (.iconst 1, 1) := by decide +kernel
theorem dX12_soonestOf_241 : decode cX12_soonestOf 241 = .ok (.goto 4, 3) := by decide +kernel
theorem dX12_soonestOf_244 : decode cX12_soonestOf 244 = .ok (.iconst 0, 1) := by decide +kernel
theorem dX12_soonestOf_245 : decode cX12_soonestOf 245 = .ok (.istore 8, 2) := by decide +kernel
theorem dX12_soonestOf_247 : decode cX12_soonestOf 247 = .ok (.aload_n 0, 1) := by decide +kernel
theorem dX12_soonestOf_248 : decode cX12_soonestOf 248 = .ok (.getfield 68, 3) := by decide +kernel
theorem dX12_soonestOf_251 : decode cX12_soonestOf 251 = .ok (.iload 7, 2) := by decide +kernel
theorem dX12_soonestOf_253 : decode cX12_soonestOf 253 = .ok (.aload_n 0, 1) := by decide +kernel
theorem dX12_soonestOf_254 : decode cX12_soonestOf 254 = .ok (.getfield 68, 3) := by decide +kernel
theorem dX12_soonestOf_257 : decode cX12_soonestOf 257 = .ok (.iload 7, 2) := by decide +kernel
theorem dX12_soonestOf_259 : decode cX12_soonestOf 259 = .ok (.baload, 1) := by decide +kernel
theorem dX12_soonestOf_260 : decode cX12_soonestOf 260 = .ok (.ifCond .ne 8, 3) := by decide +kernel
theorem dX12_soonestOf_263 : decode cX12_soonestOf 263 = .ok (.iload 8, 2) := by decide +kernel
theorem dX12_soonestOf_265 : decode cX12_soonestOf 265 = .ok (.ifCond .eq 7, 3) := by decide +kernel
theorem dX12_soonestOf_268 : decode cX12_soonestOf 268 = .ok (.iconst 1, 1) := by decide +kernel
theorem dX12_soonestOf_269 : decode cX12_soonestOf 269 = .ok (.goto 4, 3) := by decide +kernel
theorem dX12_soonestOf_272 : decode cX12_soonestOf 272 = .ok (.iconst 0, 1) := by decide +kernel
theorem dX12_soonestOf_273 : decode cX12_soonestOf 273 = .ok (.bastore, 1) := by decide +kernel
theorem dX12_soonestOf_274 : decode cX12_soonestOf 274 = .ok (.iload 5, 2) := by decide +kernel
theorem dX12_soonestOf_276 : decode cX12_soonestOf 276 = .ok (.ifCond .ne 8, 3) := by decide +kernel
theorem dX12_soonestOf_279 : decode cX12_soonestOf 279 = .ok (.iload 8, 2) := by decide +kernel
theorem dX12_soonestOf_281 : decode cX12_soonestOf 281 = .ok (.ifCond .eq 7, 3) := by decide +kernel
theorem dX12_soonestOf_284 : decode cX12_soonestOf 284 = .ok (.iconst 1, 1) := by decide +kernel
theorem dX12_soonestOf_285 : decode cX12_soonestOf 285 = .ok (.goto 4, 3) := by decide +kernel
theorem dX12_soonestOf_288 : decode cX12_soonestOf 288 = .ok (.iconst 0, 1) := by decide +kernel
theorem dX12_soonestOf_289 : decode cX12_soonestOf 289 = .ok (.istore 5, 2) := by decide +kernel
theorem dX12_soonestOf_291 : decode cX12_soonestOf 291 = .ok (.iinc 7 1, 3) := by decide +kernel
theorem dX12_soonestOf_294 : decode cX12_soonestOf 294 = .ok (.goto (-132), 3) := by decide +kernel
theorem dX12_soonestOf_297 : decode cX12_soonestOf 297 = .ok (.iinc 6 1, 3) := by decide +kernel
theorem dX12_soonestOf_300 : decode cX12_soonestOf 300 = .ok (.goto (-150), 3) := by decide +kernel
theorem dX12_soonestOf_303 : decode cX12_soonestOf 303 = .ok (.goto (-164), 3) := by decide +kernel
theorem dX12_soonestOf_306 : decode cX12_soonestOf 306 = .ok (.bipush (-9), 2) := by decide +kernel
theorem dX12_soonestOf_308 : decode cX12_soonestOf 308 = .ok (.istore 6, 2) := by decide +kernel
theorem dX12_soonestOf_310 : decode cX12_soonestOf 310 = .ok (.iconst 0, 1) := by decide +kernel
theorem dX12_soonestOf_311 : decode cX12_soonestOf 311 = .ok (.istore 7, 2) := by decide +kernel
theorem dX12_soonestOf_313 : decode cX12_soonestOf 313 = .ok (.iload 7, 2) := by decide +kernel
theorem dX12_soonestOf_315 : decode cX12_soonestOf 315 = .ok (.aload_n 0, 1) := by decide +kernel
theorem dX12_soonestOf_316 : decode cX12_soonestOf 316 = .ok (.getfield 160, 3) := by decide +kernel
theorem dX12_soonestOf_319 : decode cX12_soonestOf 319 = .ok (.if_icmp .ge 80, 3) := by decide +kernel
theorem dX12_soonestOf_322 : decode cX12_soonestOf 322 = .ok (.aload_n 0, 1) := by decide +kernel
theorem dX12_soonestOf_323 : decode cX12_soonestOf 323 = .ok (.getfield 68, 3) := by decide +kernel
theorem dX12_soonestOf_326 : decode cX12_soonestOf 326 = .ok (.iload 7, 2) := by decide +kernel
theorem dX12_soonestOf_328 : decode cX12_soonestOf 328 = .ok (.baload, 1) := by decide +kernel
theorem dX12_soonestOf_329 : decode cX12_soonestOf 329 = .ok (.ifCond .eq 27, 3) := by decide +kernel
theorem dX12_soonestOf_332 : decode cX12_soonestOf 332 = .ok (.aload_n 0, 1) := by decide +kernel
theorem dX12_soonestOf_333 : decode cX12_soonestOf 333 = .ok (.getfield 25, 3) := by decide +kernel
theorem dX12_soonestOf_336 : decode cX12_soonestOf 336 = .ok (.iload 7, 2) := by decide +kernel
theorem dX12_soonestOf_338 : decode cX12_soonestOf 338 = .ok (.iaload, 1) := by decide +kernel
theorem dX12_soonestOf_339 : decode cX12_soonestOf 339 = .ok (.aload_n 0, 1) := by decide +kernel
theorem dX12_soonestOf_340 : decode cX12_soonestOf 340 = .ok (.getfield 25, 3) := by decide +kernel
theorem dX12_soonestOf_343 : decode cX12_soonestOf 343 = .ok (.aload_n 0, 1) := by decide +kernel
theorem dX12_soonestOf_344 : decode cX12_soonestOf 344 = .ok (.iload_n 1, 1) := by decide +kernel
theorem dX12_soonestOf_345 : decode cX12_soonestOf 345 = .ok (.invokevirtual 232, 3) := by decide +kernel
theorem dX12_soonestOf_348 : decode cX12_soonestOf 348 = .ok (.iaload, 1) := by decide +kernel
theorem dX12_soonestOf_349 : decode cX12_soonestOf 349 = .ok (.if_icmp .ne 7, 3) := by decide +kernel
theorem dX12_soonestOf_352 : decode cX12_soonestOf 352 = .ok (.iconst 1, 1) := by decide +kernel
theorem dX12_soonestOf_353 : decode cX12_soonestOf 353 = .ok (.goto 4, 3) := by decide +kernel
theorem dX12_soonestOf_356 : decode cX12_soonestOf 356 = .ok (.iconst 0, 1) := by decide +kernel
theorem dX12_soonestOf_357 : decode cX12_soonestOf 357 = .ok (.istore 8, 2) := by decide +kernel
theorem dX12_soonestOf_359 : decode cX12_soonestOf 359 = .ok (.iload 8, 2) := by decide +kernel
theorem dX12_soonestOf_361 : decode cX12_soonestOf 361 = .ok (.ifCond .eq 28, 3) := by decide +kernel
theorem dX12_soonestOf_364 : decode cX12_soonestOf 364 = .ok (.iload 6, 2) := by decide +kernel
theorem dX12_soonestOf_366 : decode cX12_soonestOf 366 = .ok (.ifCond .lt 14, 3) := by decide +kernel
theorem dX12_soonestOf_369 : decode cX12_soonestOf 369 = .ok (.aload_n 0, 1) := by decide +kernel
theorem dX12_soonestOf_370 : decode cX12_soonestOf 370 = .ok (.iload 7, 2) := by decide +kernel
theorem dX12_soonestOf_372 : decode cX12_soonestOf 372 = .ok (.invokevirtual 190, 3) := by decide +kernel
theorem dX12_soonestOf_375 : decode cX12_soonestOf 375 = .ok (.iload 6, 2) := by decide +kernel
theorem dX12_soonestOf_377 : decode cX12_soonestOf 377 = .ok (.if_icmp .ge 12, 3) := by decide +kernel
theorem dX12_soonestOf_380 : decode cX12_soonestOf 380 = .ok (.aload_n 0, 1) := by decide +kernel
theorem dX12_soonestOf_381 : decode cX12_soonestOf 381 = .ok (.iload 7, 2) := by decide +kernel
theorem dX12_soonestOf_383 : decode cX12_soonestOf 383 = .ok (.invokevirtual 190, 3) := by decide +kernel
theorem dX12_soonestOf_386 : decode cX12_soonestOf 386 = .ok (.goto 5, 3) := by decide +kernel
theorem dX12_soonestOf_389 : decode cX12_soonestOf 389 = .ok (.iload 6, 2) := by decide +kernel
theorem dX12_soonestOf_391 : decode cX12_soonestOf 391 = .ok (.istore 6, 2) := by decide +kernel
theorem dX12_soonestOf_393 : decode cX12_soonestOf 393 = .ok (.iinc 7 1, 3) := by decide +kernel
theorem dX12_soonestOf_396 : decode cX12_soonestOf 396 = .ok (.goto (-83), 3) := by decide +kernel
theorem dX12_soonestOf_399 : decode cX12_soonestOf 399 = .ok (.iload 6, 2) := by decide +kernel
theorem dX12_soonestOf_401 : decode cX12_soonestOf 401 = .ok (.ireturn, 1) := by decide +kernel
theorem dX12_soonest_0 : decode cX12_soonest 0 = .ok (.aload_n 0, 1) := by decide +kernel
theorem dX12_soonest_1 : decode cX12_soonest 1 = .ok (.iload_n 1, 1) := by decide +kernel
theorem dX12_soonest_2 : decode cX12_soonest 2 = .ok (.invokevirtual 226, 3) := by decide +kernel
theorem dX12_soonest_5 : decode cX12_soonest 5 = .ok (.ifCond .eq 11, 3) := by decide +kernel
theorem dX12_soonest_8 : decode cX12_soonest 8 = .ok (.aload_n 0, 1) := by decide +kernel
theorem dX12_soonest_9 : decode cX12_soonest 9 = .ok (.iload_n 1, 1) := by decide +kernel
theorem dX12_soonest_10 : decode cX12_soonest 10 = .ok (.invokevirtual 235, 3) := by decide +kernel
theorem dX12_soonest_13 : decode cX12_soonest 13 = .ok (.goto 8, 3) := by decide +kernel
theorem dX12_soonest_16 : decode cX12_soonest 16 = .ok (.aload_n 0, 1) := by decide +kernel
theorem dX12_soonest_17 : decode cX12_soonest 17 = .ok (.iconst (-1), 1) := by decide +kernel
theorem dX12_soonest_18 : decode cX12_soonest 18 = .ok (.invokevirtual 164, 3) := by decide +kernel
theorem dX12_soonest_21 : decode cX12_soonest 21 = .ok (.ireturn, 1) := by decide +kernel
theorem dX12_hoursOf_0 : decode cX12_hoursOf 0 = .ok (.aload_n 0, 1) := by decide +kernel
theorem dX12_hoursOf_1 : decode cX12_hoursOf 1 = .ok (.iload_n 1, 1) := by decide +kernel
theorem dX12_hoursOf_2 : decode cX12_hoursOf 2 = .ok (.invokevirtual 235, 3) := by decide +kernel
theorem dX12_hoursOf_5 : decode cX12_hoursOf 5 = .ok (.istore_n 2, 1) := by decide +kernel
theorem dX12_hoursOf_6 : decode cX12_hoursOf 6 = .ok (.iload_n 2, 1) := by decide +kernel
theorem dX12_hoursOf_7 : decode cX12_hoursOf 7 = .ok (.ifCond .ge 9, 3) := by decide +kernel
theorem dX12_hoursOf_10 : decode cX12_hoursOf 10 = .ok (.sipush 9999, 3) := by decide +kernel
theorem dX12_hoursOf_13 : decode cX12_hoursOf 13 = .ok (.goto 18, 3) := by decide +kernel
theorem dX12_hoursOf_16 : decode cX12_hoursOf 16 = .ok (.iload_n 2, 1) := by decide +kernel
theorem dX12_hoursOf_17 : decode cX12_hoursOf 17 = .ok (.aload_n 0, 1) := by decide +kernel
theorem dX12_hoursOf_18 : decode cX12_hoursOf 18 = .ok (.getfield 37, 3) := by decide +kernel
theorem dX12_hoursOf_21 : decode cX12_hoursOf 21 = .ok (.aload_n 0, 1) := by decide +kernel
theorem dX12_hoursOf_22 : decode cX12_hoursOf 22 = .ok (.iload_n 1, 1) := by decide +kernel
theorem dX12_hoursOf_23 : decode cX12_hoursOf 23 = .ok (.invokevirtual 232, 3) := by decide +kernel
theorem dX12_hoursOf_26 : decode cX12_hoursOf 26 = .ok (.iaload, 1) := by decide +kernel
theorem dX12_hoursOf_27 : decode cX12_hoursOf 27 = .ok (.isub, 1) := by decide +kernel
theorem dX12_hoursOf_28 : decode cX12_hoursOf 28 = .ok (.invokestatic 187, 3) := by decide +kernel
theorem dX12_hoursOf_31 : decode cX12_hoursOf 31 = .ok (.ireturn, 1) := by decide +kernel
theorem dX12_hours_0 : decode cX12_hours 0 = .ok (.aload_n 0, 1) := by decide +kernel
theorem dX12_hours_1 : decode cX12_hours 1 = .ok (.iload_n 1, 1) := by decide +kernel
theorem dX12_hours_2 : decode cX12_hours 2 = .ok (.invokevirtual 226, 3) := by decide +kernel
theorem dX12_hours_5 : decode cX12_hours 5 = .ok (.ifCond .eq 11, 3) := by decide +kernel
theorem dX12_hours_8 : decode cX12_hours 8 = .ok (.aload_n 0, 1) := by decide +kernel
theorem dX12_hours_9 : decode cX12_hours 9 = .ok (.iload_n 1, 1) := by decide +kernel
theorem dX12_hours_10 : decode cX12_hours 10 = .ok (.invokevirtual 238, 3) := by decide +kernel
theorem dX12_hours_13 : decode cX12_hours 13 = .ok (.goto 8, 3) := by decide +kernel
theorem dX12_hours_16 : decode cX12_hours 16 = .ok (.aload_n 0, 1) := by decide +kernel
theorem dX12_hours_17 : decode cX12_hours 17 = .ok (.iconst (-1), 1) := by decide +kernel
theorem dX12_hours_18 : decode cX12_hours 18 = .ok (.invokevirtual 164, 3) := by decide +kernel
theorem dX12_hours_21 : decode cX12_hours 21 = .ok (.ireturn, 1) := by decide +kernel
theorem dX12_blameOf_0 : decode cX12_blameOf 0 = .ok (.aload_n 0, 1) := by decide +kernel
theorem dX12_blameOf_1 : decode cX12_blameOf 1 = .ok (.iload_n 1, 1) := by decide +kernel
theorem dX12_blameOf_2 : decode cX12_blameOf 2 = .ok (.invokevirtual 229, 3) := by decide +kernel
theorem dX12_blameOf_5 : decode cX12_blameOf 5 = .ok (.istore_n 2, 1) := by decide +kernel
theorem dX12_blameOf_6 : decode cX12_blameOf 6 = .ok (.iload_n 2, 1) := by decide +kernel
theorem dX12_blameOf_7 : decode cX12_blameOf 7 = .ok (.ifCond .ge 11, 3) := by decide +kernel
theorem dX12_blameOf_10 : decode cX12_blameOf 10 = .ok (.aload_n 0, 1) := by decide +kernel
theorem dX12_blameOf_11 : decode cX12_blameOf 11 = .ok (.iload_n 1, 1) := by decide +kernel
theorem dX12_blameOf_12 : decode cX12_blameOf 12 = .ok (.invokevirtual 232, 3) := by decide +kernel
theorem dX12_blameOf_15 : decode cX12_blameOf 15 = .ok (.goto 46, 3) := by decide +kernel
theorem dX12_blameOf_18 : decode cX12_blameOf 18 = .ok (.aload_n 0, 1) := by decide +kernel
theorem dX12_blameOf_19 : decode cX12_blameOf 19 = .ok (.getfield 40, 3) := by decide +kernel
theorem dX12_blameOf_22 : decode cX12_blameOf 22 = .ok (.aload_n 0, 1) := by decide +kernel
theorem dX12_blameOf_23 : decode cX12_blameOf 23 = .ok (.getfield 62, 3) := by decide +kernel
theorem dX12_blameOf_26 : decode cX12_blameOf 26 = .ok (.iconst 4, 1) := by decide +kernel
theorem dX12_blameOf_27 : decode cX12_blameOf 27 = .ok (.iload_n 1, 1) := by decide +kernel
theorem dX12_blameOf_28 : decode cX12_blameOf 28 = .ok (.imul, 1) := by decide +kernel
theorem dX12_blameOf_29 : decode cX12_blameOf 29 = .ok (.iload_n 2, 1) := by decide +kernel
theorem dX12_blameOf_30 : decode cX12_blameOf 30 = .ok (.iadd, 1) := by decide +kernel
theorem dX12_blameOf_31 : decode cX12_blameOf 31 = .ok (.iaload, 1) := by decide +kernel
theorem dX12_blameOf_32 : decode cX12_blameOf 32 = .ok (.baload, 1) := by decide +kernel
theorem dX12_blameOf_33 : decode cX12_blameOf 33 = .ok (.ifCond .ne 16, 3) := by decide +kernel
theorem dX12_blameOf_36 : decode cX12_blameOf 36 = .ok (.aload_n 0, 1) := by decide +kernel
theorem dX12_blameOf_37 : decode cX12_blameOf 37 = .ok (.getfield 62, 3) := by decide +kernel
theorem dX12_blameOf_40 : decode cX12_blameOf 40 = .ok (.iconst 4, 1) := by decide +kernel
theorem dX12_blameOf_41 : decode cX12_blameOf 41 = .ok (.iload_n 1, 1) := by decide +kernel
theorem dX12_blameOf_42 : decode cX12_blameOf 42 = .ok (.imul, 1) := by decide +kernel
theorem dX12_blameOf_43 : decode cX12_blameOf 43 = .ok (.iload_n 2, 1) := by decide +kernel
theorem dX12_blameOf_44 : decode cX12_blameOf 44 = .ok (.iadd, 1) := by decide +kernel
theorem dX12_blameOf_45 : decode cX12_blameOf 45 = .ok (.iaload, 1) := by decide +kernel
theorem dX12_blameOf_46 : decode cX12_blameOf 46 = .ok (.goto 15, 3) := by decide +kernel
theorem dX12_blameOf_49 : decode cX12_blameOf 49 = .ok (.aload_n 0, 1) := by decide +kernel
theorem dX12_blameOf_50 : decode cX12_blameOf 50 = .ok (.getfield 62, 3) := by decide +kernel
theorem dX12_blameOf_53 : decode cX12_blameOf 53 = .ok (.iconst 4, 1) := by decide +kernel
theorem dX12_blameOf_54 : decode cX12_blameOf 54 = .ok (.iload_n 1, 1) := by decide +kernel
theorem dX12_blameOf_55 : decode cX12_blameOf 55 = .ok (.imul, 1) := by decide +kernel
theorem dX12_blameOf_56 : decode cX12_blameOf 56 = .ok (.iload_n 2, 1) := by decide +kernel
theorem dX12_blameOf_57 : decode cX12_blameOf 57 = .ok (.iadd, 1) := by decide +kernel
theorem dX12_blameOf_58 : decode cX12_blameOf 58 = .ok (.iconst 1, 1) := by decide +kernel
theorem dX12_blameOf_59 : decode cX12_blameOf 59 = .ok (.isub, 1) := by decide +kernel
theorem dX12_blameOf_60 : decode cX12_blameOf 60 = .ok (.iaload, 1) := by decide +kernel
theorem dX12_blameOf_61 : decode cX12_blameOf 61 = .ok (.istore_n 3, 1) := by decide +kernel
theorem dX12_blameOf_62 : decode cX12_blameOf 62 = .ok (.aload_n 0, 1) := by decide +kernel
theorem dX12_blameOf_63 : decode cX12_blameOf 63 = .ok (.getfield 40, 3) := by decide +kernel
theorem dX12_blameOf_66 : decode cX12_blameOf 66 = .ok (.iload_n 3, 1) := by decide +kernel
theorem dX12_blameOf_67 : decode cX12_blameOf 67 = .ok (.baload, 1) := by decide +kernel
theorem dX12_blameOf_68 : decode cX12_blameOf 68 = .ok (.ifCond .eq 11, 3) := by decide +kernel
theorem dX12_blameOf_71 : decode cX12_blameOf 71 = .ok (.aload_n 0, 1) := by decide +kernel
theorem dX12_blameOf_72 : decode cX12_blameOf 72 = .ok (.iload_n 3, 1) := by decide +kernel
theorem dX12_blameOf_73 : decode cX12_blameOf 73 = .ok (.invokevirtual 210, 3) := by decide +kernel
theorem dX12_blameOf_76 : decode cX12_blameOf 76 = .ok (.ifCond .ne 6, 3) := by decide +kernel
theorem dX12_blameOf_79 : decode cX12_blameOf 79 = .ok (.bipush (-9), 2) := by decide +kernel
theorem dX12_blameOf_81 : decode cX12_blameOf 81 = .ok (.ireturn, 1) := by decide +kernel
theorem dX12_blameOf_82 : decode cX12_blameOf 82 = .ok (.aload_n 0, 1) := by decide +kernel
theorem dX12_blameOf_83 : decode cX12_blameOf 83 = .ok (.iload_n 3, 1) := by decide +kernel
theorem dX12_blameOf_84 : decode cX12_blameOf 84 = .ok (.invokevirtual 219, 3) := by decide +kernel
theorem dX12_blameOf_87 : decode cX12_blameOf 87 = .ok (.iconst 0, 1) := by decide +kernel
theorem dX12_blameOf_88 : decode cX12_blameOf 88 = .ok (.istore 4, 2) := by decide +kernel
theorem dX12_blameOf_90 : decode cX12_blameOf 90 = .ok (.iconst 1, 1) := by decide +kernel
theorem dX12_blameOf_91 : decode cX12_blameOf 91 = .ok (.istore 5, 2) := by decide +kernel
theorem dX12_blameOf_93 : decode cX12_blameOf 93 = .ok (.iload 5, 2) := by decide +kernel
theorem dX12_blameOf_95 : decode cX12_blameOf 95 = .ok (.bipush 6, 2) := by decide +kernel
theorem dX12_blameOf_97 : decode cX12_blameOf 97 = .ok (.if_icmp .ge 35, 3) := by decide +kernel
theorem dX12_blameOf_100 : decode cX12_blameOf 100 = .ok (.aload_n 0, 1) := by decide +kernel
theorem dX12_blameOf_101 : decode cX12_blameOf 101 = .ok (.getfield 59, 3) := by decide +kernel
theorem dX12_blameOf_104 : decode cX12_blameOf 104 = .ok (.iload 5, 2) := by decide +kernel
theorem dX12_blameOf_106 : decode cX12_blameOf 106 = .ok (.iaload, 1) := by decide +kernel
theorem dX12_blameOf_107 : decode cX12_blameOf 107 = .ok (.aload_n 0, 1) := by decide +kernel
theorem dX12_blameOf_108 : decode cX12_blameOf 108 = .ok (.getfield 59, 3) := by decide +kernel
theorem dX12_blameOf_111 : decode cX12_blameOf 111 = .ok (.iload 4, 2) := by decide +kernel
theorem dX12_blameOf_113 : decode cX12_blameOf 113 = .ok (.iaload, 1) := by decide +kernel
theorem dX12_blameOf_114 : decode cX12_blameOf 114 = .ok (.if_icmp .le 8, 3) := by decide +kernel
theorem dX12_blameOf_117 : decode cX12_blameOf 117 = .ok (.iload 5, 2) := by decide +kernel
theorem dX12_blameOf_119 : decode cX12_blameOf 119 = .ok (.goto 5, 3) := by decide +kernel
theorem dX12_blameOf_122 : decode cX12_blameOf 122 = .ok (.iload 4, 2) := by decide +kernel
theorem dX12_blameOf_124 : decode cX12_blameOf 124 = .ok (.istore 4, 2) := by decide +kernel
end
section
theorem dX12_blameOf_126 : decode cX12_blameOf 126 = .ok (.iinc 5 1, 3) := by decide +kernel
theorem dX12_blameOf_129 : decode cX12_blameOf 129 = .ok (.goto (-36), 3) := by decide +kernel
theorem dX12_blameOf_132 : decode cX12_blameOf 132 = .ok (.iload 4, 2) := by decide +kernel
theorem dX12_blameOf_134 : decode cX12_blameOf 134 = .ok (.ireturn, 1) := by decide +kernel
theorem dX12_blame_0 : decode cX12_blame 0 = .ok (.aload_n 0, 1) := by decide +kernel
theorem dX12_blame_1 : decode cX12_blame 1 = .ok (.iload_n 1, 1) := by decide +kernel
theorem dX12_blame_2 : decode cX12_blame 2 = .ok (.invokevirtual 226, 3) := by decide +kernel
theorem dX12_blame_5 : decode cX12_blame 5 = .ok (.ifCond .eq 11, 3) := by decide +kernel
theorem dX12_blame_8 : decode cX12_blame 8 = .ok (.aload_n 0, 1) := by decide +kernel
theorem dX12_blame_9 : decode cX12_blame 9 = .ok (.iload_n 1, 1) := by decide +kernel
theorem dX12_blame_10 : decode cX12_blame 10 = .ok (.invokevirtual 241, 3) := by decide +kernel
theorem dX12_blame_13 : decode cX12_blame 13 = .ok (.goto 8, 3) := by decide +kernel
theorem dX12_blame_16 : decode cX12_blame 16 = .ok (.aload_n 0, 1) := by decide +kernel
theorem dX12_blame_17 : decode cX12_blame 17 = .ok (.iconst (-1), 1) := by decide +kernel
theorem dX12_blame_18 : decode cX12_blame 18 = .ok (.invokevirtual 164, 3) := by decide +kernel
theorem dX12_blame_21 : decode cX12_blame 21 = .ok (.ireturn, 1) := by decide +kernel
theorem dX12_isLand_0 : decode cX12_isLand 0 = .ok (.iload_n 0, 1) := by decide +kernel
theorem dX12_isLand_1 : decode cX12_isLand 1 = .ok (.iconst 0, 1) := by decide +kernel
theorem dX12_isLand_2 : decode cX12_isLand 2 = .ok (.iconst 3, 1) := by decide +kernel
theorem dX12_isLand_3 : decode cX12_isLand 3 = .ok (.invokestatic 156, 3) := by decide +kernel
theorem dX12_isLand_6 : decode cX12_isLand 6 = .ok (.ireturn, 1) := by decide +kernel
theorem dX12_law_0 : decode cX12_law 0 = .ok (.iload_n 1, 1) := by decide +kernel
theorem dX12_law_1 : decode cX12_law 1 = .ok (.invokestatic 244, 3) := by decide +kernel
theorem dX12_law_4 : decode cX12_law 4 = .ok (.ifCond .ne 9, 3) := by decide +kernel
theorem dX12_law_7 : decode cX12_law 7 = .ok (.aload_n 0, 1) := by decide +kernel
theorem dX12_law_8 : decode cX12_law 8 = .ok (.iconst (-1), 1) := by decide +kernel
theorem dX12_law_9 : decode cX12_law 9 = .ok (.invokevirtual 164, 3) := by decide +kernel
theorem dX12_law_12 : decode cX12_law 12 = .ok (.ireturn, 1) := by decide +kernel
theorem dX12_law_13 : decode cX12_law 13 = .ok (.iload_n 2, 1) := by decide +kernel
theorem dX12_law_14 : decode cX12_law 14 = .ok (.aload_n 0, 1) := by decide +kernel
theorem dX12_law_15 : decode cX12_law 15 = .ok (.getfield 168, 3) := by decide +kernel
theorem dX12_law_18 : decode cX12_law 18 = .ok (.if_icmp .lt 17, 3) := by decide +kernel
theorem dX12_law_21 : decode cX12_law 21 = .ok (.iload_n 3, 1) := by decide +kernel
theorem dX12_law_22 : decode cX12_law 22 = .ok (.ifCond .lt 13, 3) := by decide +kernel
theorem dX12_law_25 : decode cX12_law 25 = .ok (.iload 4, 2) := by decide +kernel
theorem dX12_law_27 : decode cX12_law 27 = .ok (.ifCond .lt 8, 3) := by decide +kernel
theorem dX12_law_30 : decode cX12_law 30 = .ok (.iload 5, 2) := by decide +kernel
theorem dX12_law_32 : decode cX12_law 32 = .ok (.ifCond .ge 10, 3) := by decide +kernel
theorem dX12_law_35 : decode cX12_law 35 = .ok (.aload_n 0, 1) := by decide +kernel
theorem dX12_law_36 : decode cX12_law 36 = .ok (.bipush (-4), 2) := by decide +kernel
theorem dX12_law_38 : decode cX12_law 38 = .ok (.invokevirtual 164, 3) := by decide +kernel
theorem dX12_law_41 : decode cX12_law 41 = .ok (.ireturn, 1) := by decide +kernel
theorem dX12_law_42 : decode cX12_law 42 = .ok (.iload_n 2, 1) := by decide +kernel
theorem dX12_law_43 : decode cX12_law 43 = .ok (.sipush 4000, 3) := by decide +kernel
theorem dX12_law_46 : decode cX12_law 46 = .ok (.if_icmp .gt 35, 3) := by decide +kernel
theorem dX12_law_49 : decode cX12_law 49 = .ok (.iload_n 3, 1) := by decide +kernel
theorem dX12_law_50 : decode cX12_law 50 = .ok (.sipush 9999, 3) := by decide +kernel
theorem dX12_law_53 : decode cX12_law 53 = .ok (.if_icmp .gt 28, 3) := by decide +kernel
theorem dX12_law_56 : decode cX12_law 56 = .ok (.iload 4, 2) := by decide +kernel
theorem dX12_law_58 : decode cX12_law 58 = .ok (.sipush 9999, 3) := by decide +kernel
theorem dX12_law_61 : decode cX12_law 61 = .ok (.if_icmp .gt 20, 3) := by decide +kernel
theorem dX12_law_64 : decode cX12_law 64 = .ok (.iload 5, 2) := by decide +kernel
theorem dX12_law_66 : decode cX12_law 66 = .ok (.sipush 9999, 3) := by decide +kernel
theorem dX12_law_69 : decode cX12_law 69 = .ok (.if_icmp .gt 12, 3) := by decide +kernel
theorem dX12_law_72 : decode cX12_law 72 = .ok (.aload_n 0, 1) := by decide +kernel
theorem dX12_law_73 : decode cX12_law 73 = .ok (.getfield 247, 3) := by decide +kernel
theorem dX12_law_76 : decode cX12_law 76 = .ok (.bipush 30, 2) := by decide +kernel
theorem dX12_law_78 : decode cX12_law 78 = .ok (.if_icmp .ne 10, 3) := by decide +kernel
theorem dX12_law_81 : decode cX12_law 81 = .ok (.aload_n 0, 1) := by decide +kernel
theorem dX12_law_82 : decode cX12_law 82 = .ok (.bipush (-6), 2) := by decide +kernel
theorem dX12_law_84 : decode cX12_law 84 = .ok (.invokevirtual 164, 3) := by decide +kernel
theorem dX12_law_87 : decode cX12_law 87 = .ok (.ireturn, 1) := by decide +kernel
theorem dX12_law_88 : decode cX12_law 88 = .ok (.aload_n 0, 1) := by decide +kernel
theorem dX12_law_89 : decode cX12_law 89 = .ok (.getfield 71, 3) := by decide +kernel
theorem dX12_law_92 : decode cX12_law 92 = .ok (.aload_n 0, 1) := by decide +kernel
theorem dX12_law_93 : decode cX12_law 93 = .ok (.getfield 247, 3) := by decide +kernel
theorem dX12_law_96 : decode cX12_law 96 = .ok (.iload_n 1, 1) := by decide +kernel
theorem dX12_law_97 : decode cX12_law 97 = .ok (.iastore, 1) := by decide +kernel
theorem dX12_law_98 : decode cX12_law 98 = .ok (.aload_n 0, 1) := by decide +kernel
theorem dX12_law_99 : decode cX12_law 99 = .ok (.getfield 74, 3) := by decide +kernel
theorem dX12_law_102 : decode cX12_law 102 = .ok (.aload_n 0, 1) := by decide +kernel
theorem dX12_law_103 : decode cX12_law 103 = .ok (.getfield 247, 3) := by decide +kernel
theorem dX12_law_106 : decode cX12_law 106 = .ok (.iload_n 2, 1) := by decide +kernel
theorem dX12_law_107 : decode cX12_law 107 = .ok (.iastore, 1) := by decide +kernel
theorem dX12_law_108 : decode cX12_law 108 = .ok (.aload_n 0, 1) := by decide +kernel
theorem dX12_law_109 : decode cX12_law 109 = .ok (.getfield 77, 3) := by decide +kernel
theorem dX12_law_112 : decode cX12_law 112 = .ok (.aload_n 0, 1) := by decide +kernel
theorem dX12_law_113 : decode cX12_law 113 = .ok (.getfield 247, 3) := by decide +kernel
theorem dX12_law_116 : decode cX12_law 116 = .ok (.iload_n 3, 1) := by decide +kernel
theorem dX12_law_117 : decode cX12_law 117 = .ok (.iastore, 1) := by decide +kernel
theorem dX12_law_118 : decode cX12_law 118 = .ok (.aload_n 0, 1) := by decide +kernel
theorem dX12_law_119 : decode cX12_law 119 = .ok (.getfield 80, 3) := by decide +kernel
theorem dX12_law_122 : decode cX12_law 122 = .ok (.aload_n 0, 1) := by decide +kernel
theorem dX12_law_123 : decode cX12_law 123 = .ok (.getfield 247, 3) := by decide +kernel
theorem dX12_law_126 : decode cX12_law 126 = .ok (.iload 4, 2) := by decide +kernel
theorem dX12_law_128 : decode cX12_law 128 = .ok (.iastore, 1) := by decide +kernel
theorem dX12_law_129 : decode cX12_law 129 = .ok (.aload_n 0, 1) := by decide +kernel
theorem dX12_law_130 : decode cX12_law 130 = .ok (.getfield 83, 3) := by decide +kernel
theorem dX12_law_133 : decode cX12_law 133 = .ok (.aload_n 0, 1) := by decide +kernel
theorem dX12_law_134 : decode cX12_law 134 = .ok (.getfield 247, 3) := by decide +kernel
theorem dX12_law_137 : decode cX12_law 137 = .ok (.iload 5, 2) := by decide +kernel
theorem dX12_law_139 : decode cX12_law 139 = .ok (.iastore, 1) := by decide +kernel
theorem dX12_law_140 : decode cX12_law 140 = .ok (.aload_n 0, 1) := by decide +kernel
theorem dX12_law_141 : decode cX12_law 141 = .ok (.dup, 1) := by decide +kernel
theorem dX12_law_142 : decode cX12_law 142 = .ok (.getfield 247, 3) := by decide +kernel
theorem dX12_law_145 : decode cX12_law 145 = .ok (.iconst 1, 1) := by decide +kernel
theorem dX12_law_146 : decode cX12_law 146 = .ok (.iadd, 1) := by decide +kernel
theorem dX12_law_147 : decode cX12_law 147 = .ok (.putfield 247, 3) := by decide +kernel
theorem dX12_law_150 : decode cX12_law 150 = .ok (.aload_n 0, 1) := by decide +kernel
theorem dX12_law_151 : decode cX12_law 151 = .ok (.getfield 247, 3) := by decide +kernel
theorem dX12_law_154 : decode cX12_law 154 = .ok (.iconst 1, 1) := by decide +kernel
theorem dX12_law_155 : decode cX12_law 155 = .ok (.isub, 1) := by decide +kernel
theorem dX12_law_156 : decode cX12_law 156 = .ok (.ireturn, 1) := by decide +kernel
theorem dX12_excuse_0 : decode cX12_excuse 0 = .ok (.iload_n 1, 1) := by decide +kernel
theorem dX12_excuse_1 : decode cX12_excuse 1 = .ok (.invokestatic 244, 3) := by decide +kernel
theorem dX12_excuse_4 : decode cX12_excuse 4 = .ok (.ifCond .eq 10, 3) := by decide +kernel
theorem dX12_excuse_7 : decode cX12_excuse 7 = .ok (.iload_n 2, 1) := by decide +kernel
theorem dX12_excuse_8 : decode cX12_excuse 8 = .ok (.invokestatic 184, 3) := by decide +kernel
theorem dX12_excuse_11 : decode cX12_excuse 11 = .ok (.ifCond .ne 9, 3) := by decide +kernel
theorem dX12_excuse_14 : decode cX12_excuse 14 = .ok (.aload_n 0, 1) := by decide +kernel
theorem dX12_excuse_15 : decode cX12_excuse 15 = .ok (.iconst (-1), 1) := by decide +kernel
theorem dX12_excuse_16 : decode cX12_excuse 16 = .ok (.invokevirtual 164, 3) := by decide +kernel
theorem dX12_excuse_19 : decode cX12_excuse 19 = .ok (.ireturn, 1) := by decide +kernel
theorem dX12_excuse_20 : decode cX12_excuse 20 = .ok (.iload_n 3, 1) := by decide +kernel
theorem dX12_excuse_21 : decode cX12_excuse 21 = .ok (.ifCond .ge 10, 3) := by decide +kernel
theorem dX12_excuse_24 : decode cX12_excuse 24 = .ok (.aload_n 0, 1) := by decide +kernel
theorem dX12_excuse_25 : decode cX12_excuse 25 = .ok (.bipush (-4), 2) := by decide +kernel
theorem dX12_excuse_27 : decode cX12_excuse 27 = .ok (.invokevirtual 164, 3) := by decide +kernel
theorem dX12_excuse_30 : decode cX12_excuse 30 = .ok (.ireturn, 1) := by decide +kernel
theorem dX12_excuse_31 : decode cX12_excuse 31 = .ok (.iload_n 3, 1) := by decide +kernel
theorem dX12_excuse_32 : decode cX12_excuse 32 = .ok (.sipush 4000, 3) := by decide +kernel
theorem dX12_excuse_35 : decode cX12_excuse 35 = .ok (.if_icmp .gt 12, 3) := by decide +kernel
theorem dX12_excuse_38 : decode cX12_excuse 38 = .ok (.aload_n 0, 1) := by decide +kernel
theorem dX12_excuse_39 : decode cX12_excuse 39 = .ok (.getfield 250, 3) := by decide +kernel
theorem dX12_excuse_42 : decode cX12_excuse 42 = .ok (.bipush 40, 2) := by decide +kernel
theorem dX12_excuse_44 : decode cX12_excuse 44 = .ok (.if_icmp .ne 10, 3) := by decide +kernel
theorem dX12_excuse_47 : decode cX12_excuse 47 = .ok (.aload_n 0, 1) := by decide +kernel
theorem dX12_excuse_48 : decode cX12_excuse 48 = .ok (.bipush (-6), 2) := by decide +kernel
theorem dX12_excuse_50 : decode cX12_excuse 50 = .ok (.invokevirtual 164, 3) := by decide +kernel
theorem dX12_excuse_53 : decode cX12_excuse 53 = .ok (.ireturn, 1) := by decide +kernel
theorem dX12_excuse_54 : decode cX12_excuse 54 = .ok (.aload_n 0, 1) := by decide +kernel
theorem dX12_excuse_55 : decode cX12_excuse 55 = .ok (.getfield 86, 3) := by decide +kernel
theorem dX12_excuse_58 : decode cX12_excuse 58 = .ok (.aload_n 0, 1) := by decide +kernel
theorem dX12_excuse_59 : decode cX12_excuse 59 = .ok (.getfield 250, 3) := by decide +kernel
theorem dX12_excuse_62 : decode cX12_excuse 62 = .ok (.iload_n 1, 1) := by decide +kernel
theorem dX12_excuse_63 : decode cX12_excuse 63 = .ok (.iastore, 1) := by decide +kernel
theorem dX12_excuse_64 : decode cX12_excuse 64 = .ok (.aload_n 0, 1) := by decide +kernel
theorem dX12_excuse_65 : decode cX12_excuse 65 = .ok (.getfield 89, 3) := by decide +kernel
theorem dX12_excuse_68 : decode cX12_excuse 68 = .ok (.aload_n 0, 1) := by decide +kernel
theorem dX12_excuse_69 : decode cX12_excuse 69 = .ok (.getfield 250, 3) := by decide +kernel
theorem dX12_excuse_72 : decode cX12_excuse 72 = .ok (.iload_n 2, 1) := by decide +kernel
theorem dX12_excuse_73 : decode cX12_excuse 73 = .ok (.iastore, 1) := by decide +kernel
theorem dX12_excuse_74 : decode cX12_excuse 74 = .ok (.aload_n 0, 1) := by decide +kernel
theorem dX12_excuse_75 : decode cX12_excuse 75 = .ok (.getfield 92, 3) := by decide +kernel
theorem dX12_excuse_78 : decode cX12_excuse 78 = .ok (.aload_n 0, 1) := by decide +kernel
theorem dX12_excuse_79 : decode cX12_excuse 79 = .ok (.getfield 250, 3) := by decide +kernel
theorem dX12_excuse_82 : decode cX12_excuse 82 = .ok (.iload_n 3, 1) := by decide +kernel
theorem dX12_excuse_83 : decode cX12_excuse 83 = .ok (.iastore, 1) := by decide +kernel
theorem dX12_excuse_84 : decode cX12_excuse 84 = .ok (.aload_n 0, 1) := by decide +kernel
theorem dX12_excuse_85 : decode cX12_excuse 85 = .ok (.getfield 95, 3) := by decide +kernel
theorem dX12_excuse_88 : decode cX12_excuse 88 = .ok (.aload_n 0, 1) := by decide +kernel
theorem dX12_excuse_89 : decode cX12_excuse 89 = .ok (.getfield 250, 3) := by decide +kernel
theorem dX12_excuse_92 : decode cX12_excuse 92 = .ok (.aload_n 0, 1) := by decide +kernel
theorem dX12_excuse_93 : decode cX12_excuse 93 = .ok (.getfield 168, 3) := by decide +kernel
theorem dX12_excuse_96 : decode cX12_excuse 96 = .ok (.iastore, 1) := by decide +kernel
theorem dX12_excuse_97 : decode cX12_excuse 97 = .ok (.aload_n 0, 1) := by decide +kernel
theorem dX12_excuse_98 : decode cX12_excuse 98 = .ok (.getfield 98, 3) := by decide +kernel
theorem dX12_excuse_101 : decode cX12_excuse 101 = .ok (.aload_n 0, 1) := by decide +kernel
theorem dX12_excuse_102 : decode cX12_excuse 102 = .ok (.getfield 250, 3) := by decide +kernel
theorem dX12_excuse_105 : decode cX12_excuse 105 = .ok (.iload 4, 2) := by decide +kernel
theorem dX12_excuse_107 : decode cX12_excuse 107 = .ok (.bastore, 1) := by decide +kernel
theorem dX12_excuse_108 : decode cX12_excuse 108 = .ok (.aload_n 0, 1) := by decide +kernel
theorem dX12_excuse_109 : decode cX12_excuse 109 = .ok (.dup, 1) := by decide +kernel
theorem dX12_excuse_110 : decode cX12_excuse 110 = .ok (.getfield 250, 3) := by decide +kernel
theorem dX12_excuse_113 : decode cX12_excuse 113 = .ok (.iconst 1, 1) := by decide +kernel
theorem dX12_excuse_114 : decode cX12_excuse 114 = .ok (.iadd, 1) := by decide +kernel
theorem dX12_excuse_115 : decode cX12_excuse 115 = .ok (.putfield 250, 3) := by decide +kernel
theorem dX12_excuse_118 : decode cX12_excuse 118 = .ok (.aload_n 0, 1) := by decide +kernel
theorem dX12_excuse_119 : decode cX12_excuse 119 = .ok (.getfield 250, 3) := by decide +kernel
theorem dX12_excuse_122 : decode cX12_excuse 122 = .ok (.ireturn, 1) := by decide +kernel
theorem dX12_hasLaw_0 : decode cX12_hasLaw 0 = .ok (.iconst 0, 1) := by decide +kernel
theorem dX12_hasLaw_1 : decode cX12_hasLaw 1 = .ok (.istore_n 3, 1) := by decide +kernel
theorem dX12_hasLaw_2 : decode cX12_hasLaw 2 = .ok (.iconst 0, 1) := by decide +kernel
theorem dX12_hasLaw_3 : decode cX12_hasLaw 3 = .ok (.istore 4, 2) := by decide +kernel
theorem dX12_hasLaw_5 : decode cX12_hasLaw 5 = .ok (.iload 4, 2) := by decide +kernel
theorem dX12_hasLaw_7 : decode cX12_hasLaw 7 = .ok (.aload_n 0, 1) := by decide +kernel
theorem dX12_hasLaw_8 : decode cX12_hasLaw 8 = .ok (.getfield 247, 3) := by decide +kernel
theorem dX12_hasLaw_11 : decode cX12_hasLaw 11 = .ok (.if_icmp .ge 41, 3) := by decide +kernel
theorem dX12_hasLaw_14 : decode cX12_hasLaw 14 = .ok (.iload_n 3, 1) := by decide +kernel
theorem dX12_hasLaw_15 : decode cX12_hasLaw 15 = .ok (.ifCond .ne 25, 3) := by decide +kernel
theorem dX12_hasLaw_18 : decode cX12_hasLaw 18 = .ok (.aload_n 0, 1) := by decide +kernel
theorem dX12_hasLaw_19 : decode cX12_hasLaw 19 = .ok (.getfield 71, 3) := by decide +kernel
theorem dX12_hasLaw_22 : decode cX12_hasLaw 22 = .ok (.iload 4, 2) := by decide +kernel
theorem dX12_hasLaw_24 : decode cX12_hasLaw 24 = .ok (.iaload, 1) := by decide +kernel
theorem dX12_hasLaw_25 : decode cX12_hasLaw 25 = .ok (.iload_n 1, 1) := by decide +kernel
theorem dX12_hasLaw_26 : decode cX12_hasLaw 26 = .ok (.if_icmp .ne 18, 3) := by decide +kernel
theorem dX12_hasLaw_29 : decode cX12_hasLaw 29 = .ok (.aload_n 0, 1) := by decide +kernel
theorem dX12_hasLaw_30 : decode cX12_hasLaw 30 = .ok (.getfield 74, 3) := by decide +kernel
theorem dX12_hasLaw_33 : decode cX12_hasLaw 33 = .ok (.iload 4, 2) := by decide +kernel
theorem dX12_hasLaw_35 : decode cX12_hasLaw 35 = .ok (.iaload, 1) := by decide +kernel
theorem dX12_hasLaw_36 : decode cX12_hasLaw 36 = .ok (.iload_n 2, 1) := by decide +kernel
theorem dX12_hasLaw_37 : decode cX12_hasLaw 37 = .ok (.if_icmp .gt 7, 3) := by decide +kernel
theorem dX12_hasLaw_40 : decode cX12_hasLaw 40 = .ok (.iconst 1, 1) := by decide +kernel
theorem dX12_hasLaw_41 : decode cX12_hasLaw 41 = .ok (.goto 4, 3) := by decide +kernel
theorem dX12_hasLaw_44 : decode cX12_hasLaw 44 = .ok (.iconst 0, 1) := by decide +kernel
theorem dX12_hasLaw_45 : decode cX12_hasLaw 45 = .ok (.istore_n 3, 1) := by decide +kernel
theorem dX12_hasLaw_46 : decode cX12_hasLaw 46 = .ok (.iinc 4 1, 3) := by decide +kernel
theorem dX12_hasLaw_49 : decode cX12_hasLaw 49 = .ok (.goto (-44), 3) := by decide +kernel
theorem dX12_hasLaw_52 : decode cX12_hasLaw 52 = .ok (.iload_n 3, 1) := by decide +kernel
theorem dX12_hasLaw_53 : decode cX12_hasLaw 53 = .ok (.ireturn, 1) := by decide +kernel
theorem dX12_lawOf_0 : decode cX12_lawOf 0 = .ok (.aload_n 0, 1) := by decide +kernel
theorem dX12_lawOf_1 : decode cX12_lawOf 1 = .ok (.getfield 7, 3) := by decide +kernel
theorem dX12_lawOf_4 : decode cX12_lawOf 4 = .ok (.aload_n 0, 1) := by decide +kernel
theorem dX12_lawOf_5 : decode cX12_lawOf 5 = .ok (.getfield 22, 3) := by decide +kernel
theorem dX12_lawOf_8 : decode cX12_lawOf 8 = .ok (.aload_n 0, 1) := by decide +kernel
theorem dX12_lawOf_9 : decode cX12_lawOf 9 = .ok (.iload_n 1, 1) := by decide +kernel
theorem dX12_lawOf_10 : decode cX12_lawOf 10 = .ok (.invokevirtual 253, 3) := by decide +kernel
theorem dX12_lawOf_13 : decode cX12_lawOf 13 = .ok (.iaload, 1) := by decide +kernel
theorem dX12_lawOf_14 : decode cX12_lawOf 14 = .ok (.iaload, 1) := by decide +kernel
theorem dX12_lawOf_15 : decode cX12_lawOf 15 = .ok (.istore_n 3, 1) := by decide +kernel
theorem dX12_lawOf_16 : decode cX12_lawOf 16 = .ok (.aload_n 0, 1) := by decide +kernel
theorem dX12_lawOf_17 : decode cX12_lawOf 17 = .ok (.getfield 7, 3) := by decide +kernel
theorem dX12_lawOf_20 : decode cX12_lawOf 20 = .ok (.aload_n 0, 1) := by decide +kernel
theorem dX12_lawOf_21 : decode cX12_lawOf 21 = .ok (.getfield 25, 3) := by decide +kernel
theorem dX12_lawOf_24 : decode cX12_lawOf 24 = .ok (.aload_n 0, 1) := by decide +kernel
theorem dX12_lawOf_25 : decode cX12_lawOf 25 = .ok (.iload_n 1, 1) := by decide +kernel
theorem dX12_lawOf_26 : decode cX12_lawOf 26 = .ok (.invokevirtual 232, 3) := by decide +kernel
theorem dX12_lawOf_29 : decode cX12_lawOf 29 = .ok (.iaload, 1) := by decide +kernel
theorem dX12_lawOf_30 : decode cX12_lawOf 30 = .ok (.iaload, 1) := by decide +kernel
theorem dX12_lawOf_31 : decode cX12_lawOf 31 = .ok (.istore 4, 2) := by decide +kernel
theorem dX12_lawOf_33 : decode cX12_lawOf 33 = .ok (.aload_n 0, 1) := by decide +kernel
theorem dX12_lawOf_34 : decode cX12_lawOf 34 = .ok (.iload_n 3, 1) := by decide +kernel
theorem dX12_lawOf_35 : decode cX12_lawOf 35 = .ok (.iload_n 2, 1) := by decide +kernel
theorem dX12_lawOf_36 : decode cX12_lawOf 36 = .ok (.invokevirtual 256, 3) := by decide +kernel
theorem dX12_lawOf_39 : decode cX12_lawOf 39 = .ok (.ifCond .eq 7, 3) := by decide +kernel
theorem dX12_lawOf_42 : decode cX12_lawOf 42 = .ok (.iload_n 3, 1) := by decide +kernel
theorem dX12_lawOf_43 : decode cX12_lawOf 43 = .ok (.goto 20, 3) := by decide +kernel
theorem dX12_lawOf_46 : decode cX12_lawOf 46 = .ok (.aload_n 0, 1) := by decide +kernel
theorem dX12_lawOf_47 : decode cX12_lawOf 47 = .ok (.iload 4, 2) := by decide +kernel
theorem dX12_lawOf_49 : decode cX12_lawOf 49 = .ok (.iload_n 2, 1) := by decide +kernel
theorem dX12_lawOf_50 : decode cX12_lawOf 50 = .ok (.invokevirtual 256, 3) := by decide +kernel
theorem dX12_lawOf_53 : decode cX12_lawOf 53 = .ok (.ifCond .eq 8, 3) := by decide +kernel
theorem dX12_lawOf_56 : decode cX12_lawOf 56 = .ok (.iload 4, 2) := by decide +kernel
theorem dX12_lawOf_58 : decode cX12_lawOf 58 = .ok (.goto 5, 3) := by decide +kernel
theorem dX12_lawOf_61 : decode cX12_lawOf 61 = .ok (.bipush (-9), 2) := by decide +kernel
theorem dX12_lawOf_63 : decode cX12_lawOf 63 = .ok (.ireturn, 1) := by decide +kernel
theorem dX12_milesOf_0 : decode cX12_milesOf 0 = .ok (.aload_n 0, 1) := by decide +kernel
theorem dX12_milesOf_1 : decode cX12_milesOf 1 = .ok (.getfield 13, 3) := by decide +kernel
theorem dX12_milesOf_4 : decode cX12_milesOf 4 = .ok (.bipush 10, 2) := by decide +kernel
theorem dX12_milesOf_6 : decode cX12_milesOf 6 = .ok (.aload_n 0, 1) := by decide +kernel
theorem dX12_milesOf_7 : decode cX12_milesOf 7 = .ok (.getfield 22, 3) := by decide +kernel
theorem dX12_milesOf_10 : decode cX12_milesOf 10 = .ok (.aload_n 0, 1) := by decide +kernel
theorem dX12_milesOf_11 : decode cX12_milesOf 11 = .ok (.iload_n 1, 1) := by decide +kernel
theorem dX12_milesOf_12 : decode cX12_milesOf 12 = .ok (.invokevirtual 253, 3) := by decide +kernel
theorem dX12_milesOf_15 : decode cX12_milesOf 15 = .ok (.iaload, 1) := by decide +kernel
theorem dX12_milesOf_16 : decode cX12_milesOf 16 = .ok (.imul, 1) := by decide +kernel
theorem dX12_milesOf_17 : decode cX12_milesOf 17 = .ok (.aload_n 0, 1) := by decide +kernel
theorem dX12_milesOf_18 : decode cX12_milesOf 18 = .ok (.getfield 25, 3) := by decide +kernel
theorem dX12_milesOf_21 : decode cX12_milesOf 21 = .ok (.aload_n 0, 1) := by decide +kernel
theorem dX12_milesOf_22 : decode cX12_milesOf 22 = .ok (.iload_n 1, 1) := by decide +kernel
theorem dX12_milesOf_23 : decode cX12_milesOf 23 = .ok (.invokevirtual 232, 3) := by decide +kernel
theorem dX12_milesOf_26 : decode cX12_milesOf 26 = .ok (.iaload, 1) := by decide +kernel
theorem dX12_milesOf_27 : decode cX12_milesOf 27 = .ok (.iadd, 1) := by decide +kernel
theorem dX12_milesOf_28 : decode cX12_milesOf 28 = .ok (.iaload, 1) := by decide +kernel
theorem dX12_milesOf_29 : decode cX12_milesOf 29 = .ok (.ireturn, 1) := by decide +kernel
theorem dX12_isExcused_0 : decode cX12_isExcused 0 = .ok (.aload_n 0, 1) := by decide +kernel
theorem dX12_isExcused_1 : decode cX12_isExcused 1 = .ok (.iload_n 1, 1) := by decide +kernel
theorem dX12_isExcused_2 : decode cX12_isExcused 2 = .ok (.iload_n 2, 1) := by decide +kernel
theorem dX12_isExcused_3 : decode cX12_isExcused 3 = .ok (.invokevirtual 260, 3) := by decide +kernel
theorem dX12_isExcused_6 : decode cX12_isExcused 6 = .ok (.istore_n 3, 1) := by decide +kernel
theorem dX12_isExcused_7 : decode cX12_isExcused 7 = .ok (.aload_n 0, 1) := by decide +kernel
theorem dX12_isExcused_8 : decode cX12_isExcused 8 = .ok (.iload_n 1, 1) := by decide +kernel
theorem dX12_isExcused_9 : decode cX12_isExcused 9 = .ok (.invokevirtual 241, 3) := by decide +kernel
theorem dX12_isExcused_12 : decode cX12_isExcused 12 = .ok (.istore 4, 2) := by decide +kernel
theorem dX12_isExcused_14 : decode cX12_isExcused 14 = .ok (.aload_n 0, 1) := by decide +kernel
theorem dX12_isExcused_15 : decode cX12_isExcused 15 = .ok (.getfield 34, 3) := by decide +kernel
theorem dX12_isExcused_18 : decode cX12_isExcused 18 = .ok (.aload_n 0, 1) := by decide +kernel
theorem dX12_isExcused_19 : decode cX12_isExcused 19 = .ok (.iload_n 1, 1) := by decide +kernel
theorem dX12_isExcused_20 : decode cX12_isExcused 20 = .ok (.invokevirtual 253, 3) := by decide +kernel
theorem dX12_isExcused_23 : decode cX12_isExcused 23 = .ok (.iaload, 1) := by decide +kernel
theorem dX12_isExcused_24 : decode cX12_isExcused 24 = .ok (.sipush 1440, 3) := by decide +kernel
theorem dX12_isExcused_27 : decode cX12_isExcused 27 = .ok (.idiv, 1) := by decide +kernel
theorem dX12_isExcused_28 : decode cX12_isExcused 28 = .ok (.istore 5, 2) := by decide +kernel
theorem dX12_isExcused_30 : decode cX12_isExcused 30 = .ok (.iconst 0, 1) := by decide +kernel
theorem dX12_isExcused_31 : decode cX12_isExcused 31 = .ok (.istore 6, 2) := by decide +kernel
theorem dX12_isExcused_33 : decode cX12_isExcused 33 = .ok (.iconst 0, 1) := by decide +kernel
theorem dX12_isExcused_34 : decode cX12_isExcused 34 = .ok (.istore 7, 2) := by decide +kernel
theorem dX12_isExcused_36 : decode cX12_isExcused 36 = .ok (.iload 7, 2) := by decide +kernel
theorem dX12_isExcused_38 : decode cX12_isExcused 38 = .ok (.aload_n 0, 1) := by decide +kernel
theorem dX12_isExcused_39 : decode cX12_isExcused 39 = .ok (.getfield 250, 3) := by decide +kernel
theorem dX12_isExcused_42 : decode cX12_isExcused 42 = .ok (.if_icmp .ge 82, 3) := by decide +kernel
theorem dX12_isExcused_45 : decode cX12_isExcused 45 = .ok (.aload_n 0, 1) := by decide +kernel
theorem dX12_isExcused_46 : decode cX12_isExcused 46 = .ok (.getfield 86, 3) := by decide +kernel
theorem dX12_isExcused_49 : decode cX12_isExcused 49 = .ok (.iload 7, 2) := by decide +kernel
theorem dX12_isExcused_51 : decode cX12_isExcused 51 = .ok (.iaload, 1) := by decide +kernel
theorem dX12_isExcused_52 : decode cX12_isExcused 52 = .ok (.iload_n 3, 1) := by decide +kernel
theorem dX12_isExcused_53 : decode cX12_isExcused 53 = .ok (.if_icmp .ne 43, 3) := by decide +kernel
theorem dX12_isExcused_56 : decode cX12_isExcused 56 = .ok (.aload_n 0, 1) := by decide +kernel
theorem dX12_isExcused_57 : decode cX12_isExcused 57 = .ok (.getfield 89, 3) := by decide +kernel
theorem dX12_isExcused_60 : decode cX12_isExcused 60 = .ok (.iload 7, 2) := by decide +kernel
theorem dX12_isExcused_62 : decode cX12_isExcused 62 = .ok (.iaload, 1) := by decide +kernel
theorem dX12_isExcused_63 : decode cX12_isExcused 63 = .ok (.iload 4, 2) := by decide +kernel
theorem dX12_isExcused_65 : decode cX12_isExcused 65 = .ok (.if_icmp .ne 31, 3) := by decide +kernel
theorem dX12_isExcused_68 : decode cX12_isExcused 68 = .ok (.aload_n 0, 1) := by decide +kernel
theorem dX12_isExcused_69 : decode cX12_isExcused 69 = .ok (.getfield 95, 3) := by decide +kernel
theorem dX12_isExcused_72 : decode cX12_isExcused 72 = .ok (.iload 7, 2) := by decide +kernel
theorem dX12_isExcused_74 : decode cX12_isExcused 74 = .ok (.iaload, 1) := by decide +kernel
theorem dX12_isExcused_75 : decode cX12_isExcused 75 = .ok (.iload 5, 2) := by decide +kernel
theorem dX12_isExcused_77 : decode cX12_isExcused 77 = .ok (.if_icmp .gt 19, 3) := by decide +kernel
theorem dX12_isExcused_80 : decode cX12_isExcused 80 = .ok (.aload_n 0, 1) := by decide +kernel
theorem dX12_isExcused_81 : decode cX12_isExcused 81 = .ok (.getfield 92, 3) := by decide +kernel
theorem dX12_isExcused_84 : decode cX12_isExcused 84 = .ok (.iload 7, 2) := by decide +kernel
theorem dX12_isExcused_86 : decode cX12_isExcused 86 = .ok (.iaload, 1) := by decide +kernel
theorem dX12_isExcused_87 : decode cX12_isExcused 87 = .ok (.iload 5, 2) := by decide +kernel
theorem dX12_isExcused_89 : decode cX12_isExcused 89 = .ok (.if_icmp .gt 7, 3) := by decide +kernel
theorem dX12_isExcused_92 : decode cX12_isExcused 92 = .ok (.iconst 1, 1) := by decide +kernel
theorem dX12_isExcused_93 : decode cX12_isExcused 93 = .ok (.goto 4, 3) := by decide +kernel
theorem dX12_isExcused_96 : decode cX12_isExcused 96 = .ok (.iconst 0, 1) := by decide +kernel
theorem dX12_isExcused_97 : decode cX12_isExcused 97 = .ok (.istore 8, 2) := by decide +kernel
theorem dX12_isExcused_99 : decode cX12_isExcused 99 = .ok (.iload 8, 2) := by decide +kernel
theorem dX12_isExcused_101 : decode cX12_isExcused 101 = .ok (.ifCond .eq 13, 3) := by decide +kernel
theorem dX12_isExcused_104 : decode cX12_isExcused 104 = .ok (.aload_n 0, 1) := by decide +kernel
theorem dX12_isExcused_105 : decode cX12_isExcused 105 = .ok (.getfield 98, 3) := by decide +kernel
theorem dX12_isExcused_108 : decode cX12_isExcused 108 = .ok (.iload 7, 2) := by decide +kernel
theorem dX12_isExcused_110 : decode cX12_isExcused 110 = .ok (.baload, 1) := by decide +kernel
theorem dX12_isExcused_111 : decode cX12_isExcused 111 = .ok (.goto 5, 3) := by decide +kernel
theorem dX12_isExcused_114 : decode cX12_isExcused 114 = .ok (.iload 6, 2) := by decide +kernel
theorem dX12_isExcused_116 : decode cX12_isExcused 116 = .ok (.istore 6, 2) := by decide +kernel
theorem dX12_isExcused_118 : decode cX12_isExcused 118 = .ok (.iinc 7 1, 3) := by decide +kernel
theorem dX12_isExcused_121 : decode cX12_isExcused 121 = .ok (.goto (-85), 3) := by decide +kernel
theorem dX12_isExcused_124 : decode cX12_isExcused 124 = .ok (.iload 6, 2) := by decide +kernel
theorem dX12_isExcused_126 : decode cX12_isExcused 126 = .ok (.ireturn, 1) := by decide +kernel
theorem dX12_sumOf_0 : decode cX12_sumOf 0 = .ok (.aload_n 0, 1) := by decide +kernel
theorem dX12_sumOf_1 : decode cX12_sumOf 1 = .ok (.iload_n 1, 1) := by decide +kernel
theorem dX12_sumOf_2 : decode cX12_sumOf 2 = .ok (.iload_n 2, 1) := by decide +kernel
theorem dX12_sumOf_3 : decode cX12_sumOf 3 = .ok (.invokevirtual 260, 3) := by decide +kernel
theorem dX12_sumOf_6 : decode cX12_sumOf 6 = .ok (.istore_n 3, 1) := by decide +kernel
theorem dX12_sumOf_7 : decode cX12_sumOf 7 = .ok (.iload_n 3, 1) := by decide +kernel
theorem dX12_sumOf_8 : decode cX12_sumOf 8 = .ok (.ifCond .lt 12, 3) := by decide +kernel
theorem dX12_sumOf_11 : decode cX12_sumOf 11 = .ok (.aload_n 0, 1) := by decide +kernel
theorem dX12_sumOf_12 : decode cX12_sumOf 12 = .ok (.iload_n 1, 1) := by decide +kernel
theorem dX12_sumOf_13 : decode cX12_sumOf 13 = .ok (.iload_n 2, 1) := by decide +kernel
theorem dX12_sumOf_14 : decode cX12_sumOf 14 = .ok (.invokevirtual 263, 3) := by decide +kernel
theorem dX12_sumOf_17 : decode cX12_sumOf 17 = .ok (.ifCond .eq 5, 3) := by decide +kernel
theorem dX12_sumOf_20 : decode cX12_sumOf 20 = .ok (.iconst 0, 1) := by decide +kernel
theorem dX12_sumOf_21 : decode cX12_sumOf 21 = .ok (.ireturn, 1) := by decide +kernel
theorem dX12_sumOf_22 : decode cX12_sumOf 22 = .ok (.aload_n 0, 1) := by decide +kernel
theorem dX12_sumOf_23 : decode cX12_sumOf 23 = .ok (.iload_n 1, 1) := by decide +kernel
theorem dX12_sumOf_24 : decode cX12_sumOf 24 = .ok (.invokevirtual 238, 3) := by decide +kernel
theorem dX12_sumOf_27 : decode cX12_sumOf 27 = .ok (.istore 4, 2) := by decide +kernel
theorem dX12_sumOf_29 : decode cX12_sumOf 29 = .ok (.iconst 0, 1) := by decide +kernel
theorem dX12_sumOf_30 : decode cX12_sumOf 30 = .ok (.istore 5, 2) := by decide +kernel
theorem dX12_sumOf_32 : decode cX12_sumOf 32 = .ok (.iconst 0, 1) := by decide +kernel
theorem dX12_sumOf_33 : decode cX12_sumOf 33 = .ok (.istore 6, 2) := by decide +kernel
theorem dX12_sumOf_35 : decode cX12_sumOf 35 = .ok (.iload 6, 2) := by decide +kernel
theorem dX12_sumOf_37 : decode cX12_sumOf 37 = .ok (.aload_n 0, 1) := by decide +kernel
theorem dX12_sumOf_38 : decode cX12_sumOf 38 = .ok (.getfield 247, 3) := by decide +kernel
theorem dX12_sumOf_41 : decode cX12_sumOf 41 = .ok (.if_icmp .ge 96, 3) := by decide +kernel
theorem dX12_sumOf_44 : decode cX12_sumOf 44 = .ok (.aload_n 0, 1) := by decide +kernel
theorem dX12_sumOf_45 : decode cX12_sumOf 45 = .ok (.getfield 71, 3) := by decide +kernel
theorem dX12_sumOf_48 : decode cX12_sumOf 48 = .ok (.iload 6, 2) := by decide +kernel
theorem dX12_sumOf_50 : decode cX12_sumOf 50 = .ok (.iaload, 1) := by decide +kernel
theorem dX12_sumOf_51 : decode cX12_sumOf 51 = .ok (.iload_n 3, 1) := by decide +kernel
theorem dX12_sumOf_52 : decode cX12_sumOf 52 = .ok (.if_icmp .ne 45, 3) := by decide +kernel
theorem dX12_sumOf_55 : decode cX12_sumOf 55 = .ok (.aload_n 0, 1) := by decide +kernel
theorem dX12_sumOf_56 : decode cX12_sumOf 56 = .ok (.getfield 74, 3) := by decide +kernel
theorem dX12_sumOf_59 : decode cX12_sumOf 59 = .ok (.iload 6, 2) := by decide +kernel
theorem dX12_sumOf_61 : decode cX12_sumOf 61 = .ok (.iaload, 1) := by decide +kernel
theorem dX12_sumOf_62 : decode cX12_sumOf 62 = .ok (.iload_n 2, 1) := by decide +kernel
theorem dX12_sumOf_63 : decode cX12_sumOf 63 = .ok (.if_icmp .gt 34, 3) := by decide +kernel
theorem dX12_sumOf_66 : decode cX12_sumOf 66 = .ok (.iload 4, 2) := by decide +kernel
theorem dX12_sumOf_68 : decode cX12_sumOf 68 = .ok (.aload_n 0, 1) := by decide +kernel
theorem dX12_sumOf_69 : decode cX12_sumOf 69 = .ok (.getfield 77, 3) := by decide +kernel
theorem dX12_sumOf_72 : decode cX12_sumOf 72 = .ok (.iload 6, 2) := by decide +kernel
theorem dX12_sumOf_74 : decode cX12_sumOf 74 = .ok (.iaload, 1) := by decide +kernel
theorem dX12_sumOf_75 : decode cX12_sumOf 75 = .ok (.if_icmp .lt 22, 3) := by decide +kernel
theorem dX12_sumOf_78 : decode cX12_sumOf 78 = .ok (.aload_n 0, 1) := by decide +kernel
theorem dX12_sumOf_79 : decode cX12_sumOf 79 = .ok (.iload_n 1, 1) := by decide +kernel
theorem dX12_sumOf_80 : decode cX12_sumOf 80 = .ok (.invokevirtual 266, 3) := by decide +kernel
theorem dX12_sumOf_83 : decode cX12_sumOf 83 = .ok (.aload_n 0, 1) := by decide +kernel
theorem dX12_sumOf_84 : decode cX12_sumOf 84 = .ok (.getfield 80, 3) := by decide +kernel
theorem dX12_sumOf_87 : decode cX12_sumOf 87 = .ok (.iload 6, 2) := by decide +kernel
theorem dX12_sumOf_89 : decode cX12_sumOf 89 = .ok (.iaload, 1) := by decide +kernel
theorem dX12_sumOf_90 : decode cX12_sumOf 90 = .ok (.if_icmp .lt 7, 3) := by decide +kernel
theorem dX12_sumOf_93 : decode cX12_sumOf 93 = .ok (.iconst 1, 1) := by decide +kernel
theorem dX12_sumOf_94 : decode cX12_sumOf 94 = .ok (.goto 4, 3) := by decide +kernel
theorem dX12_sumOf_97 : decode cX12_sumOf 97 = .ok (.iconst 0, 1) := by decide +kernel
theorem dX12_sumOf_98 : decode cX12_sumOf 98 = .ok (.istore 7, 2) := by decide +kernel
theorem dX12_sumOf_100 : decode cX12_sumOf 100 = .ok (.iload 7, 2) := by decide +kernel
theorem dX12_sumOf_102 : decode cX12_sumOf 102 = .ok (.ifCond .eq 25, 3) := by decide +kernel
theorem dX12_sumOf_105 : decode cX12_sumOf 105 = .ok (.aload_n 0, 1) := by decide +kernel
theorem dX12_sumOf_106 : decode cX12_sumOf 106 = .ok (.getfield 83, 3) := by decide +kernel
theorem dX12_sumOf_109 : decode cX12_sumOf 109 = .ok (.iload 6, 2) := by decide +kernel
theorem dX12_sumOf_111 : decode cX12_sumOf 111 = .ok (.iaload, 1) := by decide +kernel
theorem dX12_sumOf_112 : decode cX12_sumOf 112 = .ok (.iload 5, 2) := by decide +kernel
theorem dX12_sumOf_114 : decode cX12_sumOf 114 = .ok (.if_icmp .le 13, 3) := by decide +kernel
theorem dX12_sumOf_117 : decode cX12_sumOf 117 = .ok (.aload_n 0, 1) := by decide +kernel
theorem dX12_sumOf_118 : decode cX12_sumOf 118 = .ok (.getfield 83, 3) := by decide +kernel
theorem dX12_sumOf_121 : decode cX12_sumOf 121 = .ok (.iload 6, 2) := by decide +kernel
theorem dX12_sumOf_123 : decode cX12_sumOf 123 = .ok (.iaload, 1) := by decide +kernel
theorem dX12_sumOf_124 : decode cX12_sumOf 124 = .ok (.goto 5, 3) := by decide +kernel
theorem dX12_sumOf_127 : decode cX12_sumOf 127 = .ok (.iload 5, 2) := by decide +kernel
theorem dX12_sumOf_129 : decode cX12_sumOf 129 = .ok (.istore 5, 2) := by decide +kernel
theorem dX12_sumOf_131 : decode cX12_sumOf 131 = .ok (.iinc 6 1, 3) := by decide +kernel
theorem dX12_sumOf_134 : decode cX12_sumOf 134 = .ok (.goto (-99), 3) := by decide +kernel
theorem dX12_sumOf_137 : decode cX12_sumOf 137 = .ok (.iload 5, 2) := by decide +kernel
theorem dX12_sumOf_139 : decode cX12_sumOf 139 = .ok (.ireturn, 1) := by decide +kernel
theorem dX12_sum_0 : decode cX12_sum 0 = .ok (.aload_n 0, 1) := by decide +kernel
theorem dX12_sum_1 : decode cX12_sum 1 = .ok (.iload_n 1, 1) := by decide +kernel
theorem dX12_sum_2 : decode cX12_sum 2 = .ok (.invokevirtual 226, 3) := by decide +kernel
theorem dX12_sum_5 : decode cX12_sum 5 = .ok (.ifCond .ne 9, 3) := by decide +kernel
theorem dX12_sum_8 : decode cX12_sum 8 = .ok (.aload_n 0, 1) := by decide +kernel
theorem dX12_sum_9 : decode cX12_sum 9 = .ok (.iconst (-1), 1) := by decide +kernel
theorem dX12_sum_10 : decode cX12_sum 10 = .ok (.invokevirtual 164, 3) := by decide +kernel
theorem dX12_sum_13 : decode cX12_sum 13 = .ok (.ireturn, 1) := by decide +kernel
theorem dX12_sum_14 : decode cX12_sum 14 = .ok (.iload_n 3, 1) := by decide +kernel
theorem dX12_sum_15 : decode cX12_sum 15 = .ok (.iconst 0, 1) := by decide +kernel
theorem dX12_sum_16 : decode cX12_sum 16 = .ok (.iconst 2, 1) := by decide +kernel
theorem dX12_sum_17 : decode cX12_sum 17 = .ok (.invokestatic 156, 3) := by decide +kernel
theorem dX12_sum_20 : decode cX12_sum 20 = .ok (.ifCond .ne 10, 3) := by decide +kernel
theorem dX12_sum_23 : decode cX12_sum 23 = .ok (.aload_n 0, 1) := by decide +kernel
theorem dX12_sum_24 : decode cX12_sum 24 = .ok (.bipush (-2), 2) := by decide +kernel
theorem dX12_sum_26 : decode cX12_sum 26 = .ok (.invokevirtual 164, 3) := by decide +kernel
theorem dX12_sum_29 : decode cX12_sum 29 = .ok (.ireturn, 1) := by decide +kernel
theorem dX12_sum_30 : decode cX12_sum 30 = .ok (.iload_n 2, 1) := by decide +kernel
theorem dX12_sum_31 : decode cX12_sum 31 = .ok (.ifCond .ge 10, 3) := by decide +kernel
theorem dX12_sum_34 : decode cX12_sum 34 = .ok (.aload_n 0, 1) := by decide +kernel
theorem dX12_sum_35 : decode cX12_sum 35 = .ok (.bipush (-4), 2) := by decide +kernel
theorem dX12_sum_37 : decode cX12_sum 37 = .ok (.invokevirtual 164, 3) := by decide +kernel
theorem dX12_sum_40 : decode cX12_sum 40 = .ok (.ireturn, 1) := by decide +kernel
theorem dX12_sum_41 : decode cX12_sum 41 = .ok (.iload_n 2, 1) := by decide +kernel
theorem dX12_sum_42 : decode cX12_sum 42 = .ok (.sipush 4000, 3) := by decide +kernel
theorem dX12_sum_45 : decode cX12_sum 45 = .ok (.if_icmp .le 10, 3) := by decide +kernel
theorem dX12_sum_48 : decode cX12_sum 48 = .ok (.aload_n 0, 1) := by decide +kernel
theorem dX12_sum_49 : decode cX12_sum 49 = .ok (.bipush (-6), 2) := by decide +kernel
theorem dX12_sum_51 : decode cX12_sum 51 = .ok (.invokevirtual 164, 3) := by decide +kernel
theorem dX12_sum_54 : decode cX12_sum 54 = .ok (.ireturn, 1) := by decide +kernel
theorem dX12_sum_55 : decode cX12_sum 55 = .ok (.iload_n 3, 1) := by decide +kernel
theorem dX12_sum_56 : decode cX12_sum 56 = .ok (.ifCond .ne 12, 3) := by decide +kernel
theorem dX12_sum_59 : decode cX12_sum 59 = .ok (.aload_n 0, 1) := by decide +kernel
theorem dX12_sum_60 : decode cX12_sum 60 = .ok (.iload_n 1, 1) := by decide +kernel
theorem dX12_sum_61 : decode cX12_sum 61 = .ok (.iload_n 2, 1) := by decide +kernel
theorem dX12_sum_62 : decode cX12_sum 62 = .ok (.invokevirtual 269, 3) := by decide +kernel
theorem dX12_sum_65 : decode cX12_sum 65 = .ok (.goto 31, 3) := by decide +kernel
theorem dX12_sum_68 : decode cX12_sum 68 = .ok (.iload_n 3, 1) := by decide +kernel
theorem dX12_sum_69 : decode cX12_sum 69 = .ok (.iconst 1, 1) := by decide +kernel
theorem dX12_sum_70 : decode cX12_sum 70 = .ok (.if_icmp .ne 12, 3) := by decide +kernel
theorem dX12_sum_73 : decode cX12_sum 73 = .ok (.aload_n 0, 1) := by decide +kernel
theorem dX12_sum_74 : decode cX12_sum 74 = .ok (.iload_n 1, 1) := by decide +kernel
theorem dX12_sum_75 : decode cX12_sum 75 = .ok (.iload_n 2, 1) := by decide +kernel
theorem dX12_sum_76 : decode cX12_sum 76 = .ok (.invokevirtual 260, 3) := by decide +kernel
theorem dX12_sum_79 : decode cX12_sum 79 = .ok (.goto 17, 3) := by decide +kernel
theorem dX12_sum_82 : decode cX12_sum 82 = .ok (.aload_n 0, 1) := by decide +kernel
theorem dX12_sum_83 : decode cX12_sum 83 = .ok (.iload_n 1, 1) := by decide +kernel
theorem dX12_sum_84 : decode cX12_sum 84 = .ok (.iload_n 2, 1) := by decide +kernel
theorem dX12_sum_85 : decode cX12_sum 85 = .ok (.invokevirtual 263, 3) := by decide +kernel
theorem dX12_sum_88 : decode cX12_sum 88 = .ok (.ifCond .eq 7, 3) := by decide +kernel
theorem dX12_sum_91 : decode cX12_sum 91 = .ok (.iconst 1, 1) := by decide +kernel
theorem dX12_sum_92 : decode cX12_sum 92 = .ok (.goto 4, 3) := by decide +kernel
theorem dX12_sum_95 : decode cX12_sum 95 = .ok (.iconst 0, 1) := by decide +kernel
theorem dX12_sum_96 : decode cX12_sum 96 = .ok (.ireturn, 1) := by decide +kernel
theorem dX12_bar_0 : decode cX12_bar 0 = .ok (.iload_n 1, 1) := by decide +kernel
theorem dX12_bar_1 : decode cX12_bar 1 = .ok (.invokestatic 244, 3) := by decide +kernel
theorem dX12_bar_4 : decode cX12_bar 4 = .ok (.ifCond .ne 9, 3) := by decide +kernel
theorem dX12_bar_7 : decode cX12_bar 7 = .ok (.aload_n 0, 1) := by decide +kernel
theorem dX12_bar_8 : decode cX12_bar 8 = .ok (.iconst (-1), 1) := by decide +kernel
theorem dX12_bar_9 : decode cX12_bar 9 = .ok (.invokevirtual 164, 3) := by decide +kernel
theorem dX12_bar_12 : decode cX12_bar 12 = .ok (.ireturn, 1) := by decide +kernel
theorem dX12_bar_13 : decode cX12_bar 13 = .ok (.iload_n 2, 1) := by decide +kernel
theorem dX12_bar_14 : decode cX12_bar 14 = .ok (.iconst 1, 1) := by decide +kernel
theorem dX12_bar_15 : decode cX12_bar 15 = .ok (.if_icmp .ge 10, 3) := by decide +kernel
theorem dX12_bar_18 : decode cX12_bar 18 = .ok (.aload_n 0, 1) := by decide +kernel
theorem dX12_bar_19 : decode cX12_bar 19 = .ok (.bipush (-4), 2) := by decide +kernel
theorem dX12_bar_21 : decode cX12_bar 21 = .ok (.invokevirtual 164, 3) := by decide +kernel
theorem dX12_bar_24 : decode cX12_bar 24 = .ok (.ireturn, 1) := by decide +kernel
theorem dX12_bar_25 : decode cX12_bar 25 = .ok (.iload_n 2, 1) := by decide +kernel
theorem dX12_bar_26 : decode cX12_bar 26 = .ok (.sipush 3000, 3) := by decide +kernel
theorem dX12_bar_29 : decode cX12_bar 29 = .ok (.if_icmp .le 10, 3) := by decide +kernel
theorem dX12_bar_32 : decode cX12_bar 32 = .ok (.aload_n 0, 1) := by decide +kernel
theorem dX12_bar_33 : decode cX12_bar 33 = .ok (.bipush (-6), 2) := by decide +kernel
theorem dX12_bar_35 : decode cX12_bar 35 = .ok (.invokevirtual 164, 3) := by decide +kernel
theorem dX12_bar_38 : decode cX12_bar 38 = .ok (.ireturn, 1) := by decide +kernel
theorem dX12_bar_39 : decode cX12_bar 39 = .ok (.aload_n 0, 1) := by decide +kernel
theorem dX12_bar_40 : decode cX12_bar 40 = .ok (.getfield 101, 3) := by decide +kernel
theorem dX12_bar_43 : decode cX12_bar 43 = .ok (.iload_n 1, 1) := by decide +kernel
theorem dX12_bar_44 : decode cX12_bar 44 = .ok (.iaload, 1) := by decide +kernel
theorem dX12_bar_45 : decode cX12_bar 45 = .ok (.istore_n 3, 1) := by decide +kernel
theorem dX12_bar_46 : decode cX12_bar 46 = .ok (.aload_n 0, 1) := by decide +kernel
theorem dX12_bar_47 : decode cX12_bar 47 = .ok (.getfield 101, 3) := by decide +kernel
theorem dX12_bar_50 : decode cX12_bar 50 = .ok (.iload_n 1, 1) := by decide +kernel
theorem dX12_bar_51 : decode cX12_bar 51 = .ok (.iload_n 2, 1) := by decide +kernel
theorem dX12_bar_52 : decode cX12_bar 52 = .ok (.iastore, 1) := by decide +kernel
theorem dX12_bar_53 : decode cX12_bar 53 = .ok (.iload_n 3, 1) := by decide +kernel
theorem dX12_bar_54 : decode cX12_bar 54 = .ok (.ireturn, 1) := by decide +kernel
theorem dX12_stop_0 : decode cX12_stop 0 = .ok (.iload_n 1, 1) := by decide +kernel
theorem dX12_stop_1 : decode cX12_stop 1 = .ok (.invokestatic 244, 3) := by decide +kernel
theorem dX12_stop_4 : decode cX12_stop 4 = .ok (.ifCond .ne 9, 3) := by decide +kernel
theorem dX12_stop_7 : decode cX12_stop 7 = .ok (.aload_n 0, 1) := by decide +kernel
theorem dX12_stop_8 : decode cX12_stop 8 = .ok (.iconst (-1), 1) := by decide +kernel
theorem dX12_stop_9 : decode cX12_stop 9 = .ok (.invokevirtual 164, 3) := by decide +kernel
theorem dX12_stop_12 : decode cX12_stop 12 = .ok (.ireturn, 1) := by decide +kernel
theorem dX12_stop_13 : decode cX12_stop 13 = .ok (.iload_n 2, 1) := by decide +kernel
theorem dX12_stop_14 : decode cX12_stop 14 = .ok (.ifCond .lt 8, 3) := by decide +kernel
theorem dX12_stop_17 : decode cX12_stop 17 = .ok (.iload_n 3, 1) := by decide +kernel
theorem dX12_stop_18 : decode cX12_stop 18 = .ok (.iload_n 2, 1) := by decide +kernel
theorem dX12_stop_19 : decode cX12_stop 19 = .ok (.if_icmp .ge 10, 3) := by decide +kernel
theorem dX12_stop_22 : decode cX12_stop 22 = .ok (.aload_n 0, 1) := by decide +kernel
theorem dX12_stop_23 : decode cX12_stop 23 = .ok (.bipush (-4), 2) := by decide +kernel
theorem dX12_stop_25 : decode cX12_stop 25 = .ok (.invokevirtual 164, 3) := by decide +kernel
theorem dX12_stop_28 : decode cX12_stop 28 = .ok (.ireturn, 1) := by decide +kernel
theorem dX12_stop_29 : decode cX12_stop 29 = .ok (.iload_n 3, 1) := by decide +kernel
theorem dX12_stop_30 : decode cX12_stop 30 = .ok (.sipush 4000, 3) := by decide +kernel
theorem dX12_stop_33 : decode cX12_stop 33 = .ok (.if_icmp .gt 12, 3) := by decide +kernel
theorem dX12_stop_36 : decode cX12_stop 36 = .ok (.aload_n 0, 1) := by decide +kernel
theorem dX12_stop_37 : decode cX12_stop 37 = .ok (.getfield 272, 3) := by decide +kernel
theorem dX12_stop_40 : decode cX12_stop 40 = .ok (.bipush 20, 2) := by decide +kernel
theorem dX12_stop_42 : decode cX12_stop 42 = .ok (.if_icmp .ne 10, 3) := by decide +kernel
theorem dX12_stop_45 : decode cX12_stop 45 = .ok (.aload_n 0, 1) := by decide +kernel
theorem dX12_stop_46 : decode cX12_stop 46 = .ok (.bipush (-6), 2) := by decide +kernel
theorem dX12_stop_48 : decode cX12_stop 48 = .ok (.invokevirtual 164, 3) := by decide +kernel
theorem dX12_stop_51 : decode cX12_stop 51 = .ok (.ireturn, 1) := by decide +kernel
theorem dX12_stop_52 : decode cX12_stop 52 = .ok (.aload_n 0, 1) := by decide +kernel
theorem dX12_stop_53 : decode cX12_stop 53 = .ok (.getfield 104, 3) := by decide +kernel
theorem dX12_stop_56 : decode cX12_stop 56 = .ok (.aload_n 0, 1) := by decide +kernel
theorem dX12_stop_57 : decode cX12_stop 57 = .ok (.getfield 272, 3) := by decide +kernel
theorem dX12_stop_60 : decode cX12_stop 60 = .ok (.iload_n 1, 1) := by decide +kernel
theorem dX12_stop_61 : decode cX12_stop 61 = .ok (.iastore, 1) := by decide +kernel
theorem dX12_stop_62 : decode cX12_stop 62 = .ok (.aload_n 0, 1) := by decide +kernel
theorem dX12_stop_63 : decode cX12_stop 63 = .ok (.getfield 107, 3) := by decide +kernel
theorem dX12_stop_66 : decode cX12_stop 66 = .ok (.aload_n 0, 1) := by decide +kernel
theorem dX12_stop_67 : decode cX12_stop 67 = .ok (.getfield 272, 3) := by decide +kernel
theorem dX12_stop_70 : decode cX12_stop 70 = .ok (.iload_n 2, 1) := by decide +kernel
theorem dX12_stop_71 : decode cX12_stop 71 = .ok (.iastore, 1) := by decide +kernel
theorem dX12_stop_72 : decode cX12_stop 72 = .ok (.aload_n 0, 1) := by decide +kernel
theorem dX12_stop_73 : decode cX12_stop 73 = .ok (.getfield 110, 3) := by decide +kernel
theorem dX12_stop_76 : decode cX12_stop 76 = .ok (.aload_n 0, 1) := by decide +kernel
theorem dX12_stop_77 : decode cX12_stop 77 = .ok (.getfield 272, 3) := by decide +kernel
theorem dX12_stop_80 : decode cX12_stop 80 = .ok (.iload_n 3, 1) := by decide +kernel
theorem dX12_stop_81 : decode cX12_stop 81 = .ok (.iastore, 1) := by decide +kernel
theorem dX12_stop_82 : decode cX12_stop 82 = .ok (.aload_n 0, 1) := by decide +kernel
theorem dX12_stop_83 : decode cX12_stop 83 = .ok (.dup, 1) := by decide +kernel
theorem dX12_stop_84 : decode cX12_stop 84 = .ok (.getfield 272, 3) := by decide +kernel
theorem dX12_stop_87 : decode cX12_stop 87 = .ok (.iconst 1, 1) := by decide +kernel
theorem dX12_stop_88 : decode cX12_stop 88 = .ok (.iadd, 1) := by decide +kernel
theorem dX12_stop_89 : decode cX12_stop 89 = .ok (.putfield 272, 3) := by decide +kernel
theorem dX12_stop_92 : decode cX12_stop 92 = .ok (.aload_n 0, 1) := by decide +kernel
theorem dX12_stop_93 : decode cX12_stop 93 = .ok (.getfield 272, 3) := by decide +kernel
theorem dX12_stop_96 : decode cX12_stop 96 = .ok (.ireturn, 1) := by decide +kernel
theorem dX12_isClaim_0 : decode cX12_isClaim 0 = .ok (.iload_n 1, 1) := by decide +kernel
theorem dX12_isClaim_1 : decode cX12_isClaim 1 = .ok (.iconst 0, 1) := by decide +kernel
theorem dX12_isClaim_2 : decode cX12_isClaim 2 = .ok (.aload_n 0, 1) := by decide +kernel
theorem dX12_isClaim_3 : decode cX12_isClaim 3 = .ok (.getfield 275, 3) := by decide +kernel
theorem dX12_isClaim_6 : decode cX12_isClaim 6 = .ok (.iconst 1, 1) := by decide +kernel
theorem dX12_isClaim_7 : decode cX12_isClaim 7 = .ok (.isub, 1) := by decide +kernel
theorem dX12_isClaim_8 : decode cX12_isClaim 8 = .ok (.invokestatic 156, 3) := by decide +kernel
theorem dX12_isClaim_11 : decode cX12_isClaim 11 = .ok (.ireturn, 1) := by decide +kernel
theorem dX12_claim_0 : decode cX12_claim 0 = .ok (.aload_n 0, 1) := by decide +kernel
theorem dX12_claim_1 : decode cX12_claim 1 = .ok (.iload_n 1, 1) := by decide +kernel
theorem dX12_claim_2 : decode cX12_claim 2 = .ok (.invokevirtual 226, 3) := by decide +kernel
theorem dX12_claim_5 : decode cX12_claim 5 = .ok (.ifCond .ne 9, 3) := by decide +kernel
theorem dX12_claim_8 : decode cX12_claim 8 = .ok (.aload_n 0, 1) := by decide +kernel
theorem dX12_claim_9 : decode cX12_claim 9 = .ok (.iconst (-1), 1) := by decide +kernel
theorem dX12_claim_10 : decode cX12_claim 10 = .ok (.invokevirtual 164, 3) := by decide +kernel
theorem dX12_claim_13 : decode cX12_claim 13 = .ok (.ireturn, 1) := by decide +kernel
theorem dX12_claim_14 : decode cX12_claim 14 = .ok (.iconst 0, 1) := by decide +kernel
theorem dX12_claim_15 : decode cX12_claim 15 = .ok (.istore_n 2, 1) := by decide +kernel
theorem dX12_claim_16 : decode cX12_claim 16 = .ok (.iload_n 2, 1) := by decide +kernel
theorem dX12_claim_17 : decode cX12_claim 17 = .ok (.aload_n 0, 1) := by decide +kernel
theorem dX12_claim_18 : decode cX12_claim 18 = .ok (.getfield 275, 3) := by decide +kernel
theorem dX12_claim_21 : decode cX12_claim 21 = .ok (.if_icmp .ge 26, 3) := by decide +kernel
theorem dX12_claim_24 : decode cX12_claim 24 = .ok (.aload_n 0, 1) := by decide +kernel
theorem dX12_claim_25 : decode cX12_claim 25 = .ok (.getfield 113, 3) := by decide +kernel
theorem dX12_claim_28 : decode cX12_claim 28 = .ok (.iload_n 2, 1) := by decide +kernel
theorem dX12_claim_29 : decode cX12_claim 29 = .ok (.iaload, 1) := by decide +kernel
theorem dX12_claim_30 : decode cX12_claim 30 = .ok (.iload_n 1, 1) := by decide +kernel
theorem dX12_claim_31 : decode cX12_claim 31 = .ok (.if_icmp .ne 10, 3) := by decide +kernel
theorem dX12_claim_34 : decode cX12_claim 34 = .ok (.aload_n 0, 1) := by decide +kernel
theorem dX12_claim_35 : decode cX12_claim 35 = .ok (.bipush (-3), 2) := by decide +kernel
theorem dX12_claim_37 : decode cX12_claim 37 = .ok (.invokevirtual 164, 3) := by decide +kernel
theorem dX12_claim_40 : decode cX12_claim 40 = .ok (.ireturn, 1) := by decide +kernel
theorem dX12_claim_41 : decode cX12_claim 41 = .ok (.iinc 2 1, 3) := by decide +kernel
theorem dX12_claim_44 : decode cX12_claim 44 = .ok (.goto (-28), 3) := by decide +kernel
theorem dX12_claim_47 : decode cX12_claim 47 = .ok (.aload_n 0, 1) := by decide +kernel
theorem dX12_claim_48 : decode cX12_claim 48 = .ok (.getfield 275, 3) := by decide +kernel
theorem dX12_claim_51 : decode cX12_claim 51 = .ok (.bipush 30, 2) := by decide +kernel
theorem dX12_claim_53 : decode cX12_claim 53 = .ok (.if_icmp .ne 10, 3) := by decide +kernel
theorem dX12_claim_56 : decode cX12_claim 56 = .ok (.aload_n 0, 1) := by decide +kernel
theorem dX12_claim_57 : decode cX12_claim 57 = .ok (.bipush (-6), 2) := by decide +kernel
theorem dX12_claim_59 : decode cX12_claim 59 = .ok (.invokevirtual 164, 3) := by decide +kernel
theorem dX12_claim_62 : decode cX12_claim 62 = .ok (.ireturn, 1) := by decide +kernel
theorem dX12_claim_63 : decode cX12_claim 63 = .ok (.aload_n 0, 1) := by decide +kernel
theorem dX12_claim_64 : decode cX12_claim 64 = .ok (.getfield 113, 3) := by decide +kernel
theorem dX12_claim_67 : decode cX12_claim 67 = .ok (.aload_n 0, 1) := by decide +kernel
theorem dX12_claim_68 : decode cX12_claim 68 = .ok (.getfield 275, 3) := by decide +kernel
theorem dX12_claim_71 : decode cX12_claim 71 = .ok (.iload_n 1, 1) := by decide +kernel
theorem dX12_claim_72 : decode cX12_claim 72 = .ok (.iastore, 1) := by decide +kernel
theorem dX12_claim_73 : decode cX12_claim 73 = .ok (.aload_n 0, 1) := by decide +kernel
theorem dX12_claim_74 : decode cX12_claim 74 = .ok (.getfield 116, 3) := by decide +kernel
theorem dX12_claim_77 : decode cX12_claim 77 = .ok (.aload_n 0, 1) := by decide +kernel
theorem dX12_claim_78 : decode cX12_claim 78 = .ok (.getfield 275, 3) := by decide +kernel
theorem dX12_claim_81 : decode cX12_claim 81 = .ok (.aload_n 0, 1) := by decide +kernel
theorem dX12_claim_82 : decode cX12_claim 82 = .ok (.getfield 168, 3) := by decide +kernel
theorem dX12_claim_85 : decode cX12_claim 85 = .ok (.iastore, 1) := by decide +kernel
theorem dX12_claim_86 : decode cX12_claim 86 = .ok (.aload_n 0, 1) := by decide +kernel
theorem dX12_claim_87 : decode cX12_claim 87 = .ok (.dup, 1) := by decide +kernel
theorem dX12_claim_88 : decode cX12_claim 88 = .ok (.getfield 275, 3) := by decide +kernel
theorem dX12_claim_91 : decode cX12_claim 91 = .ok (.iconst 1, 1) := by decide +kernel
theorem dX12_claim_92 : decode cX12_claim 92 = .ok (.iadd, 1) := by decide +kernel
theorem dX12_claim_93 : decode cX12_claim 93 = .ok (.putfield 275, 3) := by decide +kernel
theorem dX12_claim_96 : decode cX12_claim 96 = .ok (.aload_n 0, 1) := by decide +kernel
theorem dX12_claim_97 : decode cX12_claim 97 = .ok (.getfield 275, 3) := by decide +kernel
theorem dX12_claim_100 : decode cX12_claim 100 = .ok (.iconst 1, 1) := by decide +kernel
theorem dX12_claim_101 : decode cX12_claim 101 = .ok (.isub, 1) := by decide +kernel
theorem dX12_claim_102 : decode cX12_claim 102 = .ok (.ireturn, 1) := by decide +kernel
theorem dX12_isBarred_0 : decode cX12_isBarred 0 = .ok (.aload_n 0, 1) := by decide +kernel
theorem dX12_isBarred_1 : decode cX12_isBarred 1 = .ok (.getfield 113, 3) := by decide +kernel
theorem dX12_isBarred_4 : decode cX12_isBarred 4 = .ok (.iload_n 1, 1) := by decide +kernel
theorem dX12_isBarred_5 : decode cX12_isBarred 5 = .ok (.iaload, 1) := by decide +kernel
theorem dX12_isBarred_6 : decode cX12_isBarred 6 = .ok (.istore_n 2, 1) := by decide +kernel
theorem dX12_isBarred_7 : decode cX12_isBarred 7 = .ok (.aload_n 0, 1) := by decide +kernel
theorem dX12_isBarred_8 : decode cX12_isBarred 8 = .ok (.iload_n 2, 1) := by decide +kernel
theorem dX12_isBarred_9 : decode cX12_isBarred 9 = .ok (.aload_n 0, 1) := by decide +kernel
theorem dX12_isBarred_10 : decode cX12_isBarred 10 = .ok (.getfield 116, 3) := by decide +kernel
theorem dX12_isBarred_13 : decode cX12_isBarred 13 = .ok (.iload_n 1, 1) := by decide +kernel
theorem dX12_isBarred_14 : decode cX12_isBarred 14 = .ok (.iaload, 1) := by decide +kernel
theorem dX12_isBarred_15 : decode cX12_isBarred 15 = .ok (.invokevirtual 260, 3) := by decide +kernel
theorem dX12_isBarred_18 : decode cX12_isBarred 18 = .ok (.istore_n 3, 1) := by decide +kernel
theorem dX12_isBarred_19 : decode cX12_isBarred 19 = .ok (.iconst 0, 1) := by decide +kernel
theorem dX12_isBarred_20 : decode cX12_isBarred 20 = .ok (.istore 4, 2) := by decide +kernel
theorem dX12_isBarred_22 : decode cX12_isBarred 22 = .ok (.aload_n 0, 1) := by decide +kernel
theorem dX12_isBarred_23 : decode cX12_isBarred 23 = .ok (.getfield 37, 3) := by decide +kernel
theorem dX12_isBarred_26 : decode cX12_isBarred 26 = .ok (.aload_n 0, 1) := by decide +kernel
theorem dX12_isBarred_27 : decode cX12_isBarred 27 = .ok (.iload_n 2, 1) := by decide +kernel
theorem dX12_isBarred_28 : decode cX12_isBarred 28 = .ok (.invokevirtual 232, 3) := by decide +kernel
theorem dX12_isBarred_31 : decode cX12_isBarred 31 = .ok (.iaload, 1) := by decide +kernel
theorem dX12_isBarred_32 : decode cX12_isBarred 32 = .ok (.sipush 1440, 3) := by decide +kernel
theorem dX12_isBarred_35 : decode cX12_isBarred 35 = .ok (.idiv, 1) := by decide +kernel
theorem dX12_isBarred_36 : decode cX12_isBarred 36 = .ok (.iconst 1, 1) := by decide +kernel
theorem dX12_isBarred_37 : decode cX12_isBarred 37 = .ok (.iadd, 1) := by decide +kernel
theorem dX12_isBarred_38 : decode cX12_isBarred 38 = .ok (.istore 5, 2) := by decide +kernel
theorem dX12_isBarred_40 : decode cX12_isBarred 40 = .ok (.iload 5, 2) := by decide +kernel
theorem dX12_isBarred_42 : decode cX12_isBarred 42 = .ok (.aload_n 0, 1) := by decide +kernel
theorem dX12_isBarred_43 : decode cX12_isBarred 43 = .ok (.getfield 116, 3) := by decide +kernel
theorem dX12_isBarred_46 : decode cX12_isBarred 46 = .ok (.iload_n 1, 1) := by decide +kernel
theorem dX12_isBarred_47 : decode cX12_isBarred 47 = .ok (.iaload, 1) := by decide +kernel
theorem dX12_isBarred_48 : decode cX12_isBarred 48 = .ok (.if_icmp .gt 94, 3) := by decide +kernel
theorem dX12_isBarred_51 : decode cX12_isBarred 51 = .ok (.iload_n 3, 1) := by decide +kernel
theorem dX12_isBarred_52 : decode cX12_isBarred 52 = .ok (.ifCond .lt 90, 3) := by decide +kernel
theorem dX12_isBarred_55 : decode cX12_isBarred 55 = .ok (.iconst 0, 1) := by decide +kernel
theorem dX12_isBarred_56 : decode cX12_isBarred 56 = .ok (.istore 6, 2) := by decide +kernel
theorem dX12_isBarred_58 : decode cX12_isBarred 58 = .ok (.iconst 0, 1) := by decide +kernel
theorem dX12_isBarred_59 : decode cX12_isBarred 59 = .ok (.istore 7, 2) := by decide +kernel
theorem dX12_isBarred_61 : decode cX12_isBarred 61 = .ok (.iload 7, 2) := by decide +kernel
theorem dX12_isBarred_63 : decode cX12_isBarred 63 = .ok (.aload_n 0, 1) := by decide +kernel
theorem dX12_isBarred_64 : decode cX12_isBarred 64 = .ok (.getfield 272, 3) := by decide +kernel
theorem dX12_isBarred_67 : decode cX12_isBarred 67 = .ok (.if_icmp .ge 54, 3) := by decide +kernel
theorem dX12_isBarred_70 : decode cX12_isBarred 70 = .ok (.iload 6, 2) := by decide +kernel
theorem dX12_isBarred_72 : decode cX12_isBarred 72 = .ok (.ifCond .ne 36, 3) := by decide +kernel
theorem dX12_isBarred_75 : decode cX12_isBarred 75 = .ok (.aload_n 0, 1) := by decide +kernel
theorem dX12_isBarred_76 : decode cX12_isBarred 76 = .ok (.getfield 104, 3) := by decide +kernel
theorem dX12_isBarred_79 : decode cX12_isBarred 79 = .ok (.iload 7, 2) := by decide +kernel
theorem dX12_isBarred_81 : decode cX12_isBarred 81 = .ok (.iaload, 1) := by decide +kernel
theorem dX12_isBarred_82 : decode cX12_isBarred 82 = .ok (.iload_n 3, 1) := by decide +kernel
theorem dX12_isBarred_83 : decode cX12_isBarred 83 = .ok (.if_icmp .ne 29, 3) := by decide +kernel
theorem dX12_isBarred_86 : decode cX12_isBarred 86 = .ok (.iload 5, 2) := by decide +kernel
theorem dX12_isBarred_88 : decode cX12_isBarred 88 = .ok (.aload_n 0, 1) := by decide +kernel
theorem dX12_isBarred_89 : decode cX12_isBarred 89 = .ok (.getfield 107, 3) := by decide +kernel
theorem dX12_isBarred_92 : decode cX12_isBarred 92 = .ok (.iload 7, 2) := by decide +kernel
theorem dX12_isBarred_94 : decode cX12_isBarred 94 = .ok (.iaload, 1) := by decide +kernel
theorem dX12_isBarred_95 : decode cX12_isBarred 95 = .ok (.aload_n 0, 1) := by decide +kernel
theorem dX12_isBarred_96 : decode cX12_isBarred 96 = .ok (.getfield 110, 3) := by decide +kernel
theorem dX12_isBarred_99 : decode cX12_isBarred 99 = .ok (.iload 7, 2) := by decide +kernel
theorem dX12_isBarred_101 : decode cX12_isBarred 101 = .ok (.iaload, 1) := by decide +kernel
theorem dX12_isBarred_102 : decode cX12_isBarred 102 = .ok (.invokestatic 156, 3) := by decide +kernel
theorem dX12_isBarred_105 : decode cX12_isBarred 105 = .ok (.ifCond .eq 7, 3) := by decide +kernel
theorem dX12_isBarred_108 : decode cX12_isBarred 108 = .ok (.iconst 1, 1) := by decide +kernel
theorem dX12_isBarred_109 : decode cX12_isBarred 109 = .ok (.goto 4, 3) := by decide +kernel
theorem dX12_isBarred_112 : decode cX12_isBarred 112 = .ok (.iconst 0, 1) := by decide +kernel
theorem dX12_isBarred_113 : decode cX12_isBarred 113 = .ok (.istore 6, 2) := by decide +kernel
theorem dX12_isBarred_115 : decode cX12_isBarred 115 = .ok (.iinc 7 1, 3) := by decide +kernel
theorem dX12_isBarred_118 : decode cX12_isBarred 118 = .ok (.goto (-57), 3) := by decide +kernel
theorem dX12_isBarred_121 : decode cX12_isBarred 121 = .ok (.iload 4, 2) := by decide +kernel
theorem dX12_isBarred_123 : decode cX12_isBarred 123 = .ok (.iload 6, 2) := by decide +kernel
theorem dX12_isBarred_125 : decode cX12_isBarred 125 = .ok (.ifCond .eq 7, 3) := by decide +kernel
theorem dX12_isBarred_128 : decode cX12_isBarred 128 = .ok (.iconst 0, 1) := by decide +kernel
theorem dX12_isBarred_129 : decode cX12_isBarred 129 = .ok (.goto 4, 3) := by decide +kernel
theorem dX12_isBarred_132 : decode cX12_isBarred 132 = .ok (.iconst 1, 1) := by decide +kernel
theorem dX12_isBarred_133 : decode cX12_isBarred 133 = .ok (.iadd, 1) := by decide +kernel
theorem dX12_isBarred_134 : decode cX12_isBarred 134 = .ok (.istore 4, 2) := by decide +kernel
theorem dX12_isBarred_136 : decode cX12_isBarred 136 = .ok (.iinc 5 1, 3) := by decide +kernel
theorem dX12_isBarred_139 : decode cX12_isBarred 139 = .ok (.goto (-99), 3) := by decide +kernel
theorem dX12_isBarred_142 : decode cX12_isBarred 142 = .ok (.iload_n 3, 1) := by decide +kernel
theorem dX12_isBarred_143 : decode cX12_isBarred 143 = .ok (.ifCond .lt 18, 3) := by decide +kernel
theorem dX12_isBarred_146 : decode cX12_isBarred 146 = .ok (.iload 4, 2) := by decide +kernel
theorem dX12_isBarred_148 : decode cX12_isBarred 148 = .ok (.aload_n 0, 1) := by decide +kernel
theorem dX12_isBarred_149 : decode cX12_isBarred 149 = .ok (.getfield 101, 3) := by decide +kernel
theorem dX12_isBarred_152 : decode cX12_isBarred 152 = .ok (.iload_n 3, 1) := by decide +kernel
theorem dX12_isBarred_153 : decode cX12_isBarred 153 = .ok (.iaload, 1) := by decide +kernel
theorem dX12_isBarred_154 : decode cX12_isBarred 154 = .ok (.if_icmp .le 7, 3) := by decide +kernel
theorem dX12_isBarred_157 : decode cX12_isBarred 157 = .ok (.iconst 1, 1) := by decide +kernel
theorem dX12_isBarred_158 : decode cX12_isBarred 158 = .ok (.goto 4, 3) := by decide +kernel
theorem dX12_isBarred_161 : decode cX12_isBarred 161 = .ok (.iconst 0, 1) := by decide +kernel
theorem dX12_isBarred_162 : decode cX12_isBarred 162 = .ok (.ireturn, 1) := by decide +kernel
theorem dX12_worthOf_0 : decode cX12_worthOf 0 = .ok (.aload_n 0, 1) := by decide +kernel
theorem dX12_worthOf_1 : decode cX12_worthOf 1 = .ok (.iload_n 1, 1) := by decide +kernel
theorem dX12_worthOf_2 : decode cX12_worthOf 2 = .ok (.invokevirtual 278, 3) := by decide +kernel
theorem dX12_worthOf_5 : decode cX12_worthOf 5 = .ok (.ifCond .eq 7, 3) := by decide +kernel
theorem dX12_worthOf_8 : decode cX12_worthOf 8 = .ok (.iconst 0, 1) := by decide +kernel
theorem dX12_worthOf_9 : decode cX12_worthOf 9 = .ok (.goto 19, 3) := by decide +kernel
theorem dX12_worthOf_12 : decode cX12_worthOf 12 = .ok (.aload_n 0, 1) := by decide +kernel
theorem dX12_worthOf_13 : decode cX12_worthOf 13 = .ok (.aload_n 0, 1) := by decide +kernel
theorem dX12_worthOf_14 : decode cX12_worthOf 14 = .ok (.getfield 113, 3) := by decide +kernel
theorem dX12_worthOf_17 : decode cX12_worthOf 17 = .ok (.iload_n 1, 1) := by decide +kernel
theorem dX12_worthOf_18 : decode cX12_worthOf 18 = .ok (.iaload, 1) := by decide +kernel
theorem dX12_worthOf_19 : decode cX12_worthOf 19 = .ok (.aload_n 0, 1) := by decide +kernel
theorem dX12_worthOf_20 : decode cX12_worthOf 20 = .ok (.getfield 116, 3) := by decide +kernel
theorem dX12_worthOf_23 : decode cX12_worthOf 23 = .ok (.iload_n 1, 1) := by decide +kernel
theorem dX12_worthOf_24 : decode cX12_worthOf 24 = .ok (.iaload, 1) := by decide +kernel
theorem dX12_worthOf_25 : decode cX12_worthOf 25 = .ok (.invokevirtual 269, 3) := by decide +kernel
theorem dX12_worthOf_28 : decode cX12_worthOf 28 = .ok (.ireturn, 1) := by decide +kernel
theorem dX12_settledOf_0 : decode cX12_settledOf 0 = .ok (.iconst 0, 1) := by decide +kernel
theorem dX12_settledOf_1 : decode cX12_settledOf 1 = .ok (.istore_n 2, 1) := by decide +kernel
theorem dX12_settledOf_2 : decode cX12_settledOf 2 = .ok (.iconst 0, 1) := by decide +kernel
theorem dX12_settledOf_3 : decode cX12_settledOf 3 = .ok (.istore_n 3, 1) := by decide +kernel
theorem dX12_settledOf_4 : decode cX12_settledOf 4 = .ok (.iload_n 3, 1) := by decide +kernel
theorem dX12_settledOf_5 : decode cX12_settledOf 5 = .ok (.iconst 5, 1) := by decide +kernel
theorem dX12_settledOf_6 : decode cX12_settledOf 6 = .ok (.if_icmp .ge 22, 3) := by decide +kernel
theorem dX12_settledOf_9 : decode cX12_settledOf 9 = .ok (.iload_n 2, 1) := by decide +kernel
theorem dX12_settledOf_10 : decode cX12_settledOf 10 = .ok (.aload_n 0, 1) := by decide +kernel
theorem dX12_settledOf_11 : decode cX12_settledOf 11 = .ok (.getfield 122, 3) := by decide +kernel
theorem dX12_settledOf_14 : decode cX12_settledOf 14 = .ok (.iconst 5, 1) := by decide +kernel
theorem dX12_settledOf_15 : decode cX12_settledOf 15 = .ok (.iload_n 1, 1) := by decide +kernel
theorem dX12_settledOf_16 : decode cX12_settledOf 16 = .ok (.imul, 1) := by decide +kernel
theorem dX12_settledOf_17 : decode cX12_settledOf 17 = .ok (.iload_n 3, 1) := by decide +kernel
theorem dX12_settledOf_18 : decode cX12_settledOf 18 = .ok (.iadd, 1) := by decide +kernel
theorem dX12_settledOf_19 : decode cX12_settledOf 19 = .ok (.iaload, 1) := by decide +kernel
theorem dX12_settledOf_20 : decode cX12_settledOf 20 = .ok (.iadd, 1) := by decide +kernel
theorem dX12_settledOf_21 : decode cX12_settledOf 21 = .ok (.istore_n 2, 1) := by decide +kernel
theorem dX12_settledOf_22 : decode cX12_settledOf 22 = .ok (.iinc 3 1, 3) := by decide +kernel
theorem dX12_settledOf_25 : decode cX12_settledOf 25 = .ok (.goto (-21), 3) := by decide +kernel
theorem dX12_settledOf_28 : decode cX12_settledOf 28 = .ok (.iload_n 2, 1) := by decide +kernel
theorem dX12_settledOf_29 : decode cX12_settledOf 29 = .ok (.ireturn, 1) := by decide +kernel
theorem dX12_claimOf_0 : decode cX12_claimOf 0 = .ok (.aload_n 0, 1) := by decide +kernel
theorem dX12_claimOf_1 : decode cX12_claimOf 1 = .ok (.iload_n 1, 1) := by decide +kernel
theorem dX12_claimOf_2 : decode cX12_claimOf 2 = .ok (.invokevirtual 281, 3) := by decide +kernel
theorem dX12_claimOf_5 : decode cX12_claimOf 5 = .ok (.ifCond .ne 9, 3) := by decide +kernel
theorem dX12_claimOf_8 : decode cX12_claimOf 8 = .ok (.aload_n 0, 1) := by decide +kernel
theorem dX12_claimOf_9 : decode cX12_claimOf 9 = .ok (.iconst (-1), 1) := by decide +kernel
theorem dX12_claimOf_10 : decode cX12_claimOf 10 = .ok (.invokevirtual 164, 3) := by decide +kernel
theorem dX12_claimOf_13 : decode cX12_claimOf 13 = .ok (.ireturn, 1) := by decide +kernel
theorem dX12_claimOf_14 : decode cX12_claimOf 14 = .ok (.iload_n 2, 1) := by decide +kernel
theorem dX12_claimOf_15 : decode cX12_claimOf 15 = .ok (.iconst 0, 1) := by decide +kernel
theorem dX12_claimOf_16 : decode cX12_claimOf 16 = .ok (.iconst 5, 1) := by decide +kernel
theorem dX12_claimOf_17 : decode cX12_claimOf 17 = .ok (.invokestatic 156, 3) := by decide +kernel
theorem dX12_claimOf_20 : decode cX12_claimOf 20 = .ok (.ifCond .ne 10, 3) := by decide +kernel
theorem dX12_claimOf_23 : decode cX12_claimOf 23 = .ok (.aload_n 0, 1) := by decide +kernel
theorem dX12_claimOf_24 : decode cX12_claimOf 24 = .ok (.bipush (-2), 2) := by decide +kernel
theorem dX12_claimOf_26 : decode cX12_claimOf 26 = .ok (.invokevirtual 164, 3) := by decide +kernel
theorem dX12_claimOf_29 : decode cX12_claimOf 29 = .ok (.ireturn, 1) := by decide +kernel
theorem dX12_claimOf_30 : decode cX12_claimOf 30 = .ok (.iload_n 2, 1) := by decide +kernel
theorem dX12_claimOf_31 : decode cX12_claimOf 31 = .ok (.tableswitch 73 0 4 #[33, 40, 47, 61, 67], 33) := by decide +kernel
theorem dX12_claimOf_64 : decode cX12_claimOf 64 = .ok (.aload_n 0, 1) := by decide +kernel
theorem dX12_claimOf_65 : decode cX12_claimOf 65 = .ok (.getfield 113, 3) := by decide +kernel
theorem dX12_claimOf_68 : decode cX12_claimOf 68 = .ok (.iload_n 1, 1) := by decide +kernel
theorem dX12_claimOf_69 : decode cX12_claimOf 69 = .ok (.iaload, 1) := by decide +kernel
theorem dX12_claimOf_70 : decode cX12_claimOf 70 = .ok (.ireturn, 1) := by decide +kernel
theorem dX12_claimOf_71 : decode cX12_claimOf 71 = .ok (.aload_n 0, 1) := by decide +kernel
theorem dX12_claimOf_72 : decode cX12_claimOf 72 = .ok (.getfield 116, 3) := by decide +kernel
theorem dX12_claimOf_75 : decode cX12_claimOf 75 = .ok (.iload_n 1, 1) := by decide +kernel
theorem dX12_claimOf_76 : decode cX12_claimOf 76 = .ok (.iaload, 1) := by decide +kernel
theorem dX12_claimOf_77 : decode cX12_claimOf 77 = .ok (.ireturn, 1) := by decide +kernel
theorem dX12_claimOf_78 : decode cX12_claimOf 78 = .ok (.aload_n 0, 1) := by decide +kernel
theorem dX12_claimOf_79 : decode cX12_claimOf 79 = .ok (.iload_n 1, 1) := by decide +kernel
theorem dX12_claimOf_80 : decode cX12_claimOf 80 = .ok (.invokevirtual 278, 3) := by decide +kernel
theorem dX12_claimOf_83 : decode cX12_claimOf 83 = .ok (.ifCond .eq 7, 3) := by decide +kernel
theorem dX12_claimOf_86 : decode cX12_claimOf 86 = .ok (.iconst 1, 1) := by decide +kernel
theorem dX12_claimOf_87 : decode cX12_claimOf 87 = .ok (.goto 4, 3) := by decide +kernel
theorem dX12_claimOf_90 : decode cX12_claimOf 90 = .ok (.iconst 0, 1) := by decide +kernel
theorem dX12_claimOf_91 : decode cX12_claimOf 91 = .ok (.ireturn, 1) := by decide +kernel
theorem dX12_claimOf_92 : decode cX12_claimOf 92 = .ok (.aload_n 0, 1) := by decide +kernel
theorem dX12_claimOf_93 : decode cX12_claimOf 93 = .ok (.iload_n 1, 1) := by decide +kernel
theorem dX12_claimOf_94 : decode cX12_claimOf 94 = .ok (.invokevirtual 284, 3) := by decide +kernel
theorem dX12_claimOf_97 : decode cX12_claimOf 97 = .ok (.ireturn, 1) := by decide +kernel
theorem dX12_claimOf_98 : decode cX12_claimOf 98 = .ok (.aload_n 0, 1) := by decide +kernel
theorem dX12_claimOf_99 : decode cX12_claimOf 99 = .ok (.iload_n 1, 1) := by decide +kernel
theorem dX12_claimOf_100 : decode cX12_claimOf 100 = .ok (.invokevirtual 287, 3) := by decide +kernel
theorem dX12_claimOf_103 : decode cX12_claimOf 103 = .ok (.ireturn, 1) := by decide +kernel
theorem dX12_claimOf_104 : decode cX12_claimOf 104 = .ok (.aload_n 0, 1) := by decide +kernel
theorem dX12_claimOf_105 : decode cX12_claimOf 105 = .ok (.iload_n 1, 1) := by decide +kernel
theorem dX12_claimOf_106 : decode cX12_claimOf 106 = .ok (.invokevirtual 287, 3) := by decide +kernel
theorem dX12_claimOf_109 : decode cX12_claimOf 109 = .ok (.aload_n 0, 1) := by decide +kernel
theorem dX12_claimOf_110 : decode cX12_claimOf 110 = .ok (.iload_n 1, 1) := by decide +kernel
theorem dX12_claimOf_111 : decode cX12_claimOf 111 = .ok (.invokevirtual 284, 3) := by decide +kernel
theorem dX12_claimOf_114 : decode cX12_claimOf 114 = .ok (.isub, 1) := by decide +kernel
theorem dX12_claimOf_115 : decode cX12_claimOf 115 = .ok (.invokestatic 187, 3) := by decide +kernel
theorem dX12_claimOf_118 : decode cX12_claimOf 118 = .ok (.ireturn, 1) := by decide +kernel
theorem dX12_isPayer_0 : decode cX12_isPayer 0 = .ok (.iload_n 0, 1) := by decide +kernel
theorem dX12_isPayer_1 : decode cX12_isPayer 1 = .ok (.iconst 0, 1) := by decide +kernel
theorem dX12_isPayer_2 : decode cX12_isPayer 2 = .ok (.iconst 4, 1) := by decide +kernel
theorem dX12_isPayer_3 : decode cX12_isPayer 3 = .ok (.invokestatic 156, 3) := by decide +kernel
theorem dX12_isPayer_6 : decode cX12_isPayer 6 = .ok (.ireturn, 1) := by decide +kernel
theorem dX12_owes_0 : decode cX12_owes 0 = .ok (.iload_n 1, 1) := by decide +kernel
theorem dX12_owes_1 : decode cX12_owes 1 = .ok (.invokestatic 290, 3) := by decide +kernel
theorem dX12_owes_4 : decode cX12_owes 4 = .ok (.ifCond .eq 11, 3) := by decide +kernel
theorem dX12_owes_7 : decode cX12_owes 7 = .ok (.aload_n 0, 1) := by decide +kernel
theorem dX12_owes_8 : decode cX12_owes 8 = .ok (.iload_n 2, 1) := by decide +kernel
theorem dX12_owes_9 : decode cX12_owes 9 = .ok (.invokevirtual 226, 3) := by decide +kernel
theorem dX12_owes_12 : decode cX12_owes 12 = .ok (.ifCond .ne 9, 3) := by decide +kernel
theorem dX12_owes_15 : decode cX12_owes 15 = .ok (.aload_n 0, 1) := by decide +kernel
theorem dX12_owes_16 : decode cX12_owes 16 = .ok (.iconst (-1), 1) := by decide +kernel
theorem dX12_owes_17 : decode cX12_owes 17 = .ok (.invokevirtual 164, 3) := by decide +kernel
theorem dX12_owes_20 : decode cX12_owes 20 = .ok (.ireturn, 1) := by decide +kernel
theorem dX12_owes_21 : decode cX12_owes 21 = .ok (.iload_n 3, 1) := by decide +kernel
theorem dX12_owes_22 : decode cX12_owes 22 = .ok (.ifCond .ge 10, 3) := by decide +kernel
theorem dX12_owes_25 : decode cX12_owes 25 = .ok (.aload_n 0, 1) := by decide +kernel
theorem dX12_owes_26 : decode cX12_owes 26 = .ok (.bipush (-4), 2) := by decide +kernel
theorem dX12_owes_28 : decode cX12_owes 28 = .ok (.invokevirtual 164, 3) := by decide +kernel
theorem dX12_owes_31 : decode cX12_owes 31 = .ok (.ireturn, 1) := by decide +kernel
theorem dX12_owes_32 : decode cX12_owes 32 = .ok (.iload_n 3, 1) := by decide +kernel
theorem dX12_owes_33 : decode cX12_owes 33 = .ok (.sipush 9999, 3) := by decide +kernel
theorem dX12_owes_36 : decode cX12_owes 36 = .ok (.if_icmp .le 10, 3) := by decide +kernel
theorem dX12_owes_39 : decode cX12_owes 39 = .ok (.aload_n 0, 1) := by decide +kernel
theorem dX12_owes_40 : decode cX12_owes 40 = .ok (.bipush (-6), 2) := by decide +kernel
theorem dX12_owes_42 : decode cX12_owes 42 = .ok (.invokevirtual 164, 3) := by decide +kernel
theorem dX12_owes_45 : decode cX12_owes 45 = .ok (.ireturn, 1) := by decide +kernel
theorem dX12_owes_46 : decode cX12_owes 46 = .ok (.aload_n 0, 1) := by decide +kernel
theorem dX12_owes_47 : decode cX12_owes 47 = .ok (.getfield 119, 3) := by decide +kernel
theorem dX12_owes_50 : decode cX12_owes 50 = .ok (.bipush 20, 2) := by decide +kernel
theorem dX12_owes_52 : decode cX12_owes 52 = .ok (.iload_n 1, 1) := by decide +kernel
theorem dX12_owes_53 : decode cX12_owes 53 = .ok (.imul, 1) := by decide +kernel
theorem dX12_owes_54 : decode cX12_owes 54 = .ok (.iload_n 2, 1) := by decide +kernel
theorem dX12_owes_55 : decode cX12_owes 55 = .ok (.iadd, 1) := by decide +kernel
theorem dX12_owes_56 : decode cX12_owes 56 = .ok (.iaload, 1) := by decide +kernel
theorem dX12_owes_57 : decode cX12_owes 57 = .ok (.istore 4, 2) := by decide +kernel
theorem dX12_owes_59 : decode cX12_owes 59 = .ok (.aload_n 0, 1) := by decide +kernel
theorem dX12_owes_60 : decode cX12_owes 60 = .ok (.getfield 119, 3) := by decide +kernel
theorem dX12_owes_63 : decode cX12_owes 63 = .ok (.bipush 20, 2) := by decide +kernel
theorem dX12_owes_65 : decode cX12_owes 65 = .ok (.iload_n 1, 1) := by decide +kernel
theorem dX12_owes_66 : decode cX12_owes 66 = .ok (.imul, 1) := by decide +kernel
theorem dX12_owes_67 : decode cX12_owes 67 = .ok (.iload_n 2, 1) := by decide +kernel
theorem dX12_owes_68 : decode cX12_owes 68 = .ok (.iadd, 1) := by decide +kernel
theorem dX12_owes_69 : decode cX12_owes 69 = .ok (.iload_n 3, 1) := by decide +kernel
theorem dX12_owes_70 : decode cX12_owes 70 = .ok (.iastore, 1) := by decide +kernel
theorem dX12_owes_71 : decode cX12_owes 71 = .ok (.iload 4, 2) := by decide +kernel
theorem dX12_owes_73 : decode cX12_owes 73 = .ok (.ireturn, 1) := by decide +kernel
theorem dX12_pay_0 : decode cX12_pay 0 = .ok (.aload_n 0, 1) := by decide +kernel
theorem dX12_pay_1 : decode cX12_pay 1 = .ok (.iload_n 1, 1) := by decide +kernel
theorem dX12_pay_2 : decode cX12_pay 2 = .ok (.invokevirtual 281, 3) := by decide +kernel
theorem dX12_pay_5 : decode cX12_pay 5 = .ok (.ifCond .eq 10, 3) := by decide +kernel
theorem dX12_pay_8 : decode cX12_pay 8 = .ok (.iload_n 2, 1) := by decide +kernel
theorem dX12_pay_9 : decode cX12_pay 9 = .ok (.invokestatic 290, 3) := by decide +kernel
theorem dX12_pay_12 : decode cX12_pay 12 = .ok (.ifCond .ne 9, 3) := by decide +kernel
theorem dX12_pay_15 : decode cX12_pay 15 = .ok (.aload_n 0, 1) := by decide +kernel
theorem dX12_pay_16 : decode cX12_pay 16 = .ok (.iconst (-1), 1) := by decide +kernel
theorem dX12_pay_17 : decode cX12_pay 17 = .ok (.invokevirtual 164, 3) := by decide +kernel
theorem dX12_pay_20 : decode cX12_pay 20 = .ok (.ireturn, 1) := by decide +kernel
theorem dX12_pay_21 : decode cX12_pay 21 = .ok (.iload_n 3, 1) := by decide +kernel
theorem dX12_pay_22 : decode cX12_pay 22 = .ok (.iconst 1, 1) := by decide +kernel
theorem dX12_pay_23 : decode cX12_pay 23 = .ok (.if_icmp .ge 10, 3) := by decide +kernel
theorem dX12_pay_26 : decode cX12_pay 26 = .ok (.aload_n 0, 1) := by decide +kernel
theorem dX12_pay_27 : decode cX12_pay 27 = .ok (.bipush (-4), 2) := by decide +kernel
theorem dX12_pay_29 : decode cX12_pay 29 = .ok (.invokevirtual 164, 3) := by decide +kernel
theorem dX12_pay_32 : decode cX12_pay 32 = .ok (.ireturn, 1) := by decide +kernel
theorem dX12_pay_33 : decode cX12_pay 33 = .ok (.iload_n 3, 1) := by decide +kernel
theorem dX12_pay_34 : decode cX12_pay 34 = .ok (.sipush 9999, 3) := by decide +kernel
theorem dX12_pay_37 : decode cX12_pay 37 = .ok (.if_icmp .gt 16, 3) := by decide +kernel
theorem dX12_pay_40 : decode cX12_pay 40 = .ok (.aload_n 0, 1) := by decide +kernel
theorem dX12_pay_41 : decode cX12_pay 41 = .ok (.iload_n 1, 1) := by decide +kernel
theorem dX12_pay_42 : decode cX12_pay 42 = .ok (.invokevirtual 287, 3) := by decide +kernel
theorem dX12_pay_45 : decode cX12_pay 45 = .ok (.iload_n 3, 1) := by decide +kernel
theorem dX12_pay_46 : decode cX12_pay 46 = .ok (.iadd, 1) := by decide +kernel
theorem dX12_pay_47 : decode cX12_pay 47 = .ok (.ldc_w 293, 3) := by decide +kernel
theorem dX12_pay_50 : decode cX12_pay 50 = .ok (.if_icmp .le 10, 3) := by decide +kernel
theorem dX12_pay_53 : decode cX12_pay 53 = .ok (.aload_n 0, 1) := by decide +kernel
theorem dX12_pay_54 : decode cX12_pay 54 = .ok (.bipush (-6), 2) := by decide +kernel
theorem dX12_pay_56 : decode cX12_pay 56 = .ok (.invokevirtual 164, 3) := by decide +kernel
theorem dX12_pay_59 : decode cX12_pay 59 = .ok (.ireturn, 1) := by decide +kernel
theorem dX12_pay_60 : decode cX12_pay 60 = .ok (.aload_n 0, 1) := by decide +kernel
theorem dX12_pay_61 : decode cX12_pay 61 = .ok (.getfield 122, 3) := by decide +kernel
theorem dX12_pay_64 : decode cX12_pay 64 = .ok (.iconst 5, 1) := by decide +kernel
theorem dX12_pay_65 : decode cX12_pay 65 = .ok (.iload_n 1, 1) := by decide +kernel
theorem dX12_pay_66 : decode cX12_pay 66 = .ok (.imul, 1) := by decide +kernel
theorem dX12_pay_67 : decode cX12_pay 67 = .ok (.iload_n 2, 1) := by decide +kernel
theorem dX12_pay_68 : decode cX12_pay 68 = .ok (.iadd, 1) := by decide +kernel
theorem dX12_pay_69 : decode cX12_pay 69 = .ok (.dup2, 1) := by decide +kernel
theorem dX12_pay_70 : decode cX12_pay 70 = .ok (.iaload, 1) := by decide +kernel
theorem dX12_pay_71 : decode cX12_pay 71 = .ok (.iload_n 3, 1) := by decide +kernel
theorem dX12_pay_72 : decode cX12_pay 72 = .ok (.iadd, 1) := by decide +kernel
theorem dX12_pay_73 : decode cX12_pay 73 = .ok (.iastore, 1) := by decide +kernel
theorem dX12_pay_74 : decode cX12_pay 74 = .ok (.aload_n 0, 1) := by decide +kernel
theorem dX12_pay_75 : decode cX12_pay 75 = .ok (.iload_n 1, 1) := by decide +kernel
theorem dX12_pay_76 : decode cX12_pay 76 = .ok (.invokevirtual 287, 3) := by decide +kernel
theorem dX12_pay_79 : decode cX12_pay 79 = .ok (.ireturn, 1) := by decide +kernel
theorem dX12_dueOf_0 : decode cX12_dueOf 0 = .ok (.aload_n 0, 1) := by decide +kernel
theorem dX12_dueOf_1 : decode cX12_dueOf 1 = .ok (.iload_n 1, 1) := by decide +kernel
theorem dX12_dueOf_2 : decode cX12_dueOf 2 = .ok (.invokevirtual 284, 3) := by decide +kernel
theorem dX12_dueOf_5 : decode cX12_dueOf 5 = .ok (.istore_n 3, 1) := by decide +kernel
theorem dX12_dueOf_6 : decode cX12_dueOf 6 = .ok (.iconst 0, 1) := by decide +kernel
theorem dX12_dueOf_7 : decode cX12_dueOf 7 = .ok (.istore 4, 2) := by decide +kernel
theorem dX12_dueOf_9 : decode cX12_dueOf 9 = .ok (.iconst 0, 1) := by decide +kernel
theorem dX12_dueOf_10 : decode cX12_dueOf 10 = .ok (.istore 5, 2) := by decide +kernel
theorem dX12_dueOf_12 : decode cX12_dueOf 12 = .ok (.iload 5, 2) := by decide +kernel
theorem dX12_dueOf_14 : decode cX12_dueOf 14 = .ok (.iload_n 2, 1) := by decide +kernel
theorem dX12_dueOf_15 : decode cX12_dueOf 15 = .ok (.if_icmp .gt 37, 3) := by decide +kernel
theorem dX12_dueOf_18 : decode cX12_dueOf 18 = .ok (.iload_n 3, 1) := by decide +kernel
theorem dX12_dueOf_19 : decode cX12_dueOf 19 = .ok (.aload_n 0, 1) := by decide +kernel
theorem dX12_dueOf_20 : decode cX12_dueOf 20 = .ok (.getfield 119, 3) := by decide +kernel
theorem dX12_dueOf_23 : decode cX12_dueOf 23 = .ok (.bipush 20, 2) := by decide +kernel
theorem dX12_dueOf_25 : decode cX12_dueOf 25 = .ok (.iload 5, 2) := by decide +kernel
theorem dX12_dueOf_27 : decode cX12_dueOf 27 = .ok (.imul, 1) := by decide +kernel
theorem dX12_dueOf_28 : decode cX12_dueOf 28 = .ok (.aload_n 0, 1) := by decide +kernel
theorem dX12_dueOf_29 : decode cX12_dueOf 29 = .ok (.getfield 113, 3) := by decide +kernel
theorem dX12_dueOf_32 : decode cX12_dueOf 32 = .ok (.iload_n 1, 1) := by decide +kernel
theorem dX12_dueOf_33 : decode cX12_dueOf 33 = .ok (.iaload, 1) := by decide +kernel
theorem dX12_dueOf_34 : decode cX12_dueOf 34 = .ok (.iadd, 1) := by decide +kernel
theorem dX12_dueOf_35 : decode cX12_dueOf 35 = .ok (.iaload, 1) := by decide +kernel
theorem dX12_dueOf_36 : decode cX12_dueOf 36 = .ok (.invokestatic 203, 3) := by decide +kernel
theorem dX12_dueOf_39 : decode cX12_dueOf 39 = .ok (.istore 4, 2) := by decide +kernel
theorem dX12_dueOf_41 : decode cX12_dueOf 41 = .ok (.iload_n 3, 1) := by decide +kernel
theorem dX12_dueOf_42 : decode cX12_dueOf 42 = .ok (.iload 4, 2) := by decide +kernel
theorem dX12_dueOf_44 : decode cX12_dueOf 44 = .ok (.isub, 1) := by decide +kernel
theorem dX12_dueOf_45 : decode cX12_dueOf 45 = .ok (.istore_n 3, 1) := by decide +kernel
theorem dX12_dueOf_46 : decode cX12_dueOf 46 = .ok (.iinc 5 1, 3) := by decide +kernel
theorem dX12_dueOf_49 : decode cX12_dueOf 49 = .ok (.goto (-37), 3) := by decide +kernel
theorem dX12_dueOf_52 : decode cX12_dueOf 52 = .ok (.iload 4, 2) := by decide +kernel
theorem dX12_dueOf_54 : decode cX12_dueOf 54 = .ok (.ireturn, 1) := by decide +kernel
theorem dX12_due_0 : decode cX12_due 0 = .ok (.aload_n 0, 1) := by decide +kernel
theorem dX12_due_1 : decode cX12_due 1 = .ok (.iload_n 1, 1) := by decide +kernel
theorem dX12_due_2 : decode cX12_due 2 = .ok (.invokevirtual 281, 3) := by decide +kernel
theorem dX12_due_5 : decode cX12_due 5 = .ok (.ifCond .eq 19, 3) := by decide +kernel
theorem dX12_due_8 : decode cX12_due 8 = .ok (.iload_n 2, 1) := by decide +kernel
theorem dX12_due_9 : decode cX12_due 9 = .ok (.invokestatic 290, 3) := by decide +kernel
theorem dX12_due_12 : decode cX12_due 12 = .ok (.ifCond .eq 12, 3) := by decide +kernel
theorem dX12_due_15 : decode cX12_due 15 = .ok (.aload_n 0, 1) := by decide +kernel
theorem dX12_due_16 : decode cX12_due 16 = .ok (.iload_n 1, 1) := by decide +kernel
theorem dX12_due_17 : decode cX12_due 17 = .ok (.iload_n 2, 1) := by decide +kernel
theorem dX12_due_18 : decode cX12_due 18 = .ok (.invokevirtual 294, 3) := by decide +kernel
theorem dX12_due_21 : decode cX12_due 21 = .ok (.goto 8, 3) := by decide +kernel
theorem dX12_due_24 : decode cX12_due 24 = .ok (.aload_n 0, 1) := by decide +kernel
theorem dX12_due_25 : decode cX12_due 25 = .ok (.iconst (-1), 1) := by decide +kernel
theorem dX12_due_26 : decode cX12_due 26 = .ok (.invokevirtual 164, 3) := by decide +kernel
theorem dX12_due_29 : decode cX12_due 29 = .ok (.ireturn, 1) := by decide +kernel
theorem dX12_balanceOf_0 : decode cX12_balanceOf 0 = .ok (.iconst 0, 1) := by decide +kernel
theorem dX12_balanceOf_1 : decode cX12_balanceOf 1 = .ok (.istore_n 2, 1) := by decide +kernel
theorem dX12_balanceOf_2 : decode cX12_balanceOf 2 = .ok (.iconst 0, 1) := by decide +kernel
theorem dX12_balanceOf_3 : decode cX12_balanceOf 3 = .ok (.istore_n 3, 1) := by decide +kernel
theorem dX12_balanceOf_4 : decode cX12_balanceOf 4 = .ok (.iload_n 3, 1) := by decide +kernel
theorem dX12_balanceOf_5 : decode cX12_balanceOf 5 = .ok (.aload_n 0, 1) := by decide +kernel
theorem dX12_balanceOf_6 : decode cX12_balanceOf 6 = .ok (.getfield 275, 3) := by decide +kernel
theorem dX12_balanceOf_9 : decode cX12_balanceOf 9 = .ok (.if_icmp .ge 46, 3) := by decide +kernel
theorem dX12_balanceOf_12 : decode cX12_balanceOf 12 = .ok (.iload_n 2, 1) := by decide +kernel
theorem dX12_balanceOf_13 : decode cX12_balanceOf 13 = .ok (.aload_n 0, 1) := by decide +kernel
theorem dX12_balanceOf_14 : decode cX12_balanceOf 14 = .ok (.iload_n 3, 1) := by decide +kernel
theorem dX12_balanceOf_15 : decode cX12_balanceOf 15 = .ok (.invokevirtual 287, 3) := by decide +kernel
theorem dX12_balanceOf_18 : decode cX12_balanceOf 18 = .ok (.aload_n 0, 1) := by decide +kernel
theorem dX12_balanceOf_19 : decode cX12_balanceOf 19 = .ok (.iload_n 3, 1) := by decide +kernel
theorem dX12_balanceOf_20 : decode cX12_balanceOf 20 = .ok (.invokevirtual 284, 3) := by decide +kernel
theorem dX12_balanceOf_23 : decode cX12_balanceOf 23 = .ok (.if_icmp .lt 23, 3) := by decide +kernel
theorem dX12_balanceOf_26 : decode cX12_balanceOf 26 = .ok (.aload_n 0, 1) := by decide +kernel
theorem dX12_balanceOf_27 : decode cX12_balanceOf 27 = .ok (.getfield 122, 3) := by decide +kernel
theorem dX12_balanceOf_30 : decode cX12_balanceOf 30 = .ok (.iconst 5, 1) := by decide +kernel
theorem dX12_balanceOf_31 : decode cX12_balanceOf 31 = .ok (.iload_n 3, 1) := by decide +kernel
theorem dX12_balanceOf_32 : decode cX12_balanceOf 32 = .ok (.imul, 1) := by decide +kernel
theorem dX12_balanceOf_33 : decode cX12_balanceOf 33 = .ok (.iload_n 1, 1) := by decide +kernel
theorem dX12_balanceOf_34 : decode cX12_balanceOf 34 = .ok (.iadd, 1) := by decide +kernel
theorem dX12_balanceOf_35 : decode cX12_balanceOf 35 = .ok (.iaload, 1) := by decide +kernel
theorem dX12_balanceOf_36 : decode cX12_balanceOf 36 = .ok (.aload_n 0, 1) := by decide +kernel
theorem dX12_balanceOf_37 : decode cX12_balanceOf 37 = .ok (.iload_n 3, 1) := by decide +kernel
theorem dX12_balanceOf_38 : decode cX12_balanceOf 38 = .ok (.iload_n 1, 1) := by decide +kernel
theorem dX12_balanceOf_39 : decode cX12_balanceOf 39 = .ok (.invokevirtual 294, 3) := by decide +kernel
theorem dX12_balanceOf_42 : decode cX12_balanceOf 42 = .ok (.isub, 1) := by decide +kernel
theorem dX12_balanceOf_43 : decode cX12_balanceOf 43 = .ok (.goto 4, 3) := by decide +kernel
theorem dX12_balanceOf_46 : decode cX12_balanceOf 46 = .ok (.iconst 0, 1) := by decide +kernel
theorem dX12_balanceOf_47 : decode cX12_balanceOf 47 = .ok (.iadd, 1) := by decide +kernel
theorem dX12_balanceOf_48 : decode cX12_balanceOf 48 = .ok (.istore_n 2, 1) := by decide +kernel
theorem dX12_balanceOf_49 : decode cX12_balanceOf 49 = .ok (.iinc 3 1, 3) := by decide +kernel
theorem dX12_balanceOf_52 : decode cX12_balanceOf 52 = .ok (.goto (-48), 3) := by decide +kernel
theorem dX12_balanceOf_55 : decode cX12_balanceOf 55 = .ok (.iload_n 2, 1) := by decide +kernel
theorem dX12_balanceOf_56 : decode cX12_balanceOf 56 = .ok (.ireturn, 1) := by decide +kernel
theorem dX12_balance_0 : decode cX12_balance 0 = .ok (.iload_n 1, 1) := by decide +kernel
theorem dX12_balance_1 : decode cX12_balance 1 = .ok (.invokestatic 290, 3) := by decide +kernel
theorem dX12_balance_4 : decode cX12_balance 4 = .ok (.ifCond .eq 11, 3) := by decide +kernel
theorem dX12_balance_7 : decode cX12_balance 7 = .ok (.aload_n 0, 1) := by decide +kernel
theorem dX12_balance_8 : decode cX12_balance 8 = .ok (.iload_n 1, 1) := by decide +kernel
theorem dX12_balance_9 : decode cX12_balance 9 = .ok (.invokevirtual 297, 3) := by decide +kernel
theorem dX12_balance_12 : decode cX12_balance 12 = .ok (.goto 8, 3) := by decide +kernel
theorem dX12_balance_15 : decode cX12_balance 15 = .ok (.aload_n 0, 1) := by decide +kernel
theorem dX12_balance_16 : decode cX12_balance 16 = .ok (.iconst (-1), 1) := by decide +kernel
theorem dX12_balance_17 : decode cX12_balance 17 = .ok (.invokevirtual 178, 3) := by decide +kernel
theorem dX12_balance_20 : decode cX12_balance 20 = .ok (.ireturn, 1) := by decide +kernel
theorem dX12_back_0 : decode cX12_back 0 = .ok (.iconst 0, 1) := by decide +kernel
theorem dX12_back_1 : decode cX12_back 1 = .ok (.istore_n 1, 1) := by decide +kernel
theorem dX12_back_2 : decode cX12_back 2 = .ok (.iconst 0, 1) := by decide +kernel
theorem dX12_back_3 : decode cX12_back 3 = .ok (.istore_n 2, 1) := by decide +kernel
theorem dX12_back_4 : decode cX12_back 4 = .ok (.iload_n 2, 1) := by decide +kernel
theorem dX12_back_5 : decode cX12_back 5 = .ok (.iconst 5, 1) := by decide +kernel
theorem dX12_back_6 : decode cX12_back 6 = .ok (.if_icmp .ge 81, 3) := by decide +kernel
theorem dX12_back_9 : decode cX12_back 9 = .ok (.aload_n 0, 1) := by decide +kernel
theorem dX12_back_10 : decode cX12_back 10 = .ok (.iload_n 2, 1) := by decide +kernel
theorem dX12_back_11 : decode cX12_back 11 = .ok (.invokevirtual 297, 3) := by decide +kernel
theorem dX12_back_14 : decode cX12_back 14 = .ok (.istore_n 3, 1) := by decide +kernel
theorem dX12_back_15 : decode cX12_back 15 = .ok (.iload_n 1, 1) := by decide +kernel
theorem dX12_back_16 : decode cX12_back 16 = .ok (.iload_n 3, 1) := by decide +kernel
theorem dX12_back_17 : decode cX12_back 17 = .ok (.ifCond .eq 7, 3) := by decide +kernel
theorem dX12_back_20 : decode cX12_back 20 = .ok (.iconst 1, 1) := by decide +kernel
theorem dX12_back_21 : decode cX12_back 21 = .ok (.goto 4, 3) := by decide +kernel
theorem dX12_back_24 : decode cX12_back 24 = .ok (.iconst 0, 1) := by decide +kernel
theorem dX12_back_25 : decode cX12_back 25 = .ok (.iadd, 1) := by decide +kernel
theorem dX12_back_26 : decode cX12_back 26 = .ok (.istore_n 1, 1) := by decide +kernel
theorem dX12_back_27 : decode cX12_back 27 = .ok (.iconst 0, 1) := by decide +kernel
theorem dX12_back_28 : decode cX12_back 28 = .ok (.istore 4, 2) := by decide +kernel
theorem dX12_back_30 : decode cX12_back 30 = .ok (.iload 4, 2) := by decide +kernel
theorem dX12_back_32 : decode cX12_back 32 = .ok (.bipush 32, 2) := by decide +kernel
theorem dX12_back_34 : decode cX12_back 34 = .ok (.if_icmp .ge 47, 3) := by decide +kernel
theorem dX12_back_37 : decode cX12_back 37 = .ok (.aload_n 0, 1) := by decide +kernel
theorem dX12_back_38 : decode cX12_back 38 = .ok (.getfield 125, 3) := by decide +kernel
theorem dX12_back_41 : decode cX12_back 41 = .ok (.iload 4, 2) := by decide +kernel
theorem dX12_back_43 : decode cX12_back 43 = .ok (.iload_n 2, 1) := by decide +kernel
theorem dX12_back_44 : decode cX12_back 44 = .ok (.ifCond .ne 7, 3) := by decide +kernel
theorem dX12_back_47 : decode cX12_back 47 = .ok (.iconst 0, 1) := by decide +kernel
theorem dX12_back_48 : decode cX12_back 48 = .ok (.goto 10, 3) := by decide +kernel
theorem dX12_back_51 : decode cX12_back 51 = .ok (.aload_n 0, 1) := by decide +kernel
theorem dX12_back_52 : decode cX12_back 52 = .ok (.getfield 125, 3) := by decide +kernel
theorem dX12_back_55 : decode cX12_back 55 = .ok (.iload 4, 2) := by decide +kernel
theorem dX12_back_57 : decode cX12_back 57 = .ok (.iaload, 1) := by decide +kernel
theorem dX12_back_58 : decode cX12_back 58 = .ok (.iload 4, 2) := by decide +kernel
theorem dX12_back_60 : decode cX12_back 60 = .ok (.iload_n 2, 1) := by decide +kernel
theorem dX12_back_61 : decode cX12_back 61 = .ok (.ishr, 1) := by decide +kernel
theorem dX12_back_62 : decode cX12_back 62 = .ok (.iconst 1, 1) := by decide +kernel
theorem dX12_back_63 : decode cX12_back 63 = .ok (.iand, 1) := by decide +kernel
theorem dX12_back_64 : decode cX12_back 64 = .ok (.iconst 1, 1) := by decide +kernel
theorem dX12_back_65 : decode cX12_back 65 = .ok (.if_icmp .ne 7, 3) := by decide +kernel
theorem dX12_back_68 : decode cX12_back 68 = .ok (.iload_n 3, 1) := by decide +kernel
theorem dX12_back_69 : decode cX12_back 69 = .ok (.goto 4, 3) := by decide +kernel
theorem dX12_back_72 : decode cX12_back 72 = .ok (.iconst 0, 1) := by decide +kernel
theorem dX12_back_73 : decode cX12_back 73 = .ok (.iadd, 1) := by decide +kernel
theorem dX12_back_74 : decode cX12_back 74 = .ok (.iastore, 1) := by decide +kernel
theorem dX12_back_75 : decode cX12_back 75 = .ok (.iinc 4 1, 3) := by decide +kernel
theorem dX12_back_78 : decode cX12_back 78 = .ok (.goto (-48), 3) := by decide +kernel
theorem dX12_back_81 : decode cX12_back 81 = .ok (.iinc 2 1, 3) := by decide +kernel
theorem dX12_back_84 : decode cX12_back 84 = .ok (.goto (-80), 3) := by decide +kernel
theorem dX12_back_87 : decode cX12_back 87 = .ok (.aload_n 0, 1) := by decide +kernel
theorem dX12_back_88 : decode cX12_back 88 = .ok (.getfield 125, 3) := by decide +kernel
theorem dX12_back_91 : decode cX12_back 91 = .ok (.bipush 31, 2) := by decide +kernel
theorem dX12_back_93 : decode cX12_back 93 = .ok (.iaload, 1) := by decide +kernel
theorem dX12_back_94 : decode cX12_back 94 = .ok (.ifCond .eq 6, 3) := by decide +kernel
theorem dX12_back_97 : decode cX12_back 97 = .ok (.bipush (-9), 2) := by decide +kernel
theorem dX12_back_99 : decode cX12_back 99 = .ok (.ireturn, 1) := by decide +kernel
theorem dX12_back_100 : decode cX12_back 100 = .ok (.iconst 5, 1) := by decide +kernel
theorem dX12_back_101 : decode cX12_back 101 = .ok (.iload_n 1, 1) := by decide +kernel
theorem dX12_back_102 : decode cX12_back 102 = .ok (.isub, 1) := by decide +kernel
theorem dX12_back_103 : decode cX12_back 103 = .ok (.istore_n 2, 1) := by decide +kernel
theorem dX12_back_104 : decode cX12_back 104 = .ok (.aload_n 0, 1) := by decide +kernel
theorem dX12_back_105 : decode cX12_back 105 = .ok (.getfield 128, 3) := by decide +kernel
theorem dX12_back_108 : decode cX12_back 108 = .ok (.iconst 0, 1) := by decide +kernel
theorem dX12_back_109 : decode cX12_back 109 = .ok (.iconst 0, 1) := by decide +kernel
theorem dX12_back_110 : decode cX12_back 110 = .ok (.iastore, 1) := by decide +kernel
theorem dX12_back_111 : decode cX12_back 111 = .ok (.iconst 1, 1) := by decide +kernel
theorem dX12_back_112 : decode cX12_back 112 = .ok (.istore_n 3, 1) := by decide +kernel
theorem dX12_back_113 : decode cX12_back 113 = .ok (.iload_n 3, 1) := by decide +kernel
theorem dX12_back_114 : decode cX12_back 114 = .ok (.bipush 32, 2) := by decide +kernel
theorem dX12_back_116 : decode cX12_back 116 = .ok (.if_icmp .ge 126, 3) := by decide +kernel
theorem dX12_back_119 : decode cX12_back 119 = .ok (.aload_n 0, 1) := by decide +kernel
theorem dX12_back_120 : decode cX12_back 120 = .ok (.getfield 128, 3) := by decide +kernel
theorem dX12_back_123 : decode cX12_back 123 = .ok (.iload_n 3, 1) := by decide +kernel
theorem dX12_back_124 : decode cX12_back 124 = .ok (.iconst (-1), 1) := by decide +kernel
theorem dX12_back_125 : decode cX12_back 125 = .ok (.iastore, 1) := by decide +kernel
theorem dX12_back_126 : decode cX12_back 126 = .ok (.iconst 1, 1) := by decide +kernel
theorem dX12_back_127 : decode cX12_back 127 = .ok (.istore 4, 2) := by decide +kernel
theorem dX12_back_129 : decode cX12_back 129 = .ok (.iload 4, 2) := by decide +kernel
theorem dX12_back_131 : decode cX12_back 131 = .ok (.iload_n 3, 1) := by decide +kernel
theorem dX12_back_132 : decode cX12_back 132 = .ok (.if_icmp .gt 104, 3) := by decide +kernel
theorem dX12_back_135 : decode cX12_back 135 = .ok (.iload 4, 2) := by decide +kernel
theorem dX12_back_137 : decode cX12_back 137 = .ok (.iload_n 3, 1) := by decide +kernel
theorem dX12_back_138 : decode cX12_back 138 = .ok (.iconst (-1), 1) := by decide +kernel
theorem dX12_back_139 : decode cX12_back 139 = .ok (.ixor, 1) := by decide +kernel
theorem dX12_back_140 : decode cX12_back 140 = .ok (.iand, 1) := by decide +kernel
theorem dX12_back_141 : decode cX12_back 141 = .ok (.ifCond .ne 31, 3) := by decide +kernel
theorem dX12_back_144 : decode cX12_back 144 = .ok (.aload_n 0, 1) := by decide +kernel
theorem dX12_back_145 : decode cX12_back 145 = .ok (.getfield 125, 3) := by decide +kernel
theorem dX12_back_148 : decode cX12_back 148 = .ok (.iload 4, 2) := by decide +kernel
theorem dX12_back_150 : decode cX12_back 150 = .ok (.iaload, 1) := by decide +kernel
theorem dX12_back_151 : decode cX12_back 151 = .ok (.ifCond .ne 21, 3) := by decide +kernel
theorem dX12_back_154 : decode cX12_back 154 = .ok (.aload_n 0, 1) := by decide +kernel
theorem dX12_back_155 : decode cX12_back 155 = .ok (.getfield 128, 3) := by decide +kernel
theorem dX12_back_158 : decode cX12_back 158 = .ok (.iload_n 3, 1) := by decide +kernel
theorem dX12_back_159 : decode cX12_back 159 = .ok (.iload 4, 2) := by decide +kernel
theorem dX12_back_161 : decode cX12_back 161 = .ok (.iconst (-1), 1) := by decide +kernel
theorem dX12_back_162 : decode cX12_back 162 = .ok (.ixor, 1) := by decide +kernel
theorem dX12_back_163 : decode cX12_back 163 = .ok (.iand, 1) := by decide +kernel
theorem dX12_back_164 : decode cX12_back 164 = .ok (.iaload, 1) := by decide +kernel
theorem dX12_back_165 : decode cX12_back 165 = .ok (.ifCond .lt 7, 3) := by decide +kernel
theorem dX12_back_168 : decode cX12_back 168 = .ok (.iconst 1, 1) := by decide +kernel
theorem dX12_back_169 : decode cX12_back 169 = .ok (.goto 4, 3) := by decide +kernel
theorem dX12_back_172 : decode cX12_back 172 = .ok (.iconst 0, 1) := by decide +kernel
theorem dX12_back_173 : decode cX12_back 173 = .ok (.istore 5, 2) := by decide +kernel
theorem dX12_back_175 : decode cX12_back 175 = .ok (.aload_n 0, 1) := by decide +kernel
theorem dX12_back_176 : decode cX12_back 176 = .ok (.getfield 128, 3) := by decide +kernel
theorem dX12_back_179 : decode cX12_back 179 = .ok (.iload_n 3, 1) := by decide +kernel
theorem dX12_back_180 : decode cX12_back 180 = .ok (.iload 5, 2) := by decide +kernel
theorem dX12_back_182 : decode cX12_back 182 = .ok (.ifCond .eq 41, 3) := by decide +kernel
theorem dX12_back_185 : decode cX12_back 185 = .ok (.aload_n 0, 1) := by decide +kernel
theorem dX12_back_186 : decode cX12_back 186 = .ok (.getfield 128, 3) := by decide +kernel
theorem dX12_back_189 : decode cX12_back 189 = .ok (.iload_n 3, 1) := by decide +kernel
theorem dX12_back_190 : decode cX12_back 190 = .ok (.iload 4, 2) := by decide +kernel
theorem dX12_back_192 : decode cX12_back 192 = .ok (.iconst (-1), 1) := by decide +kernel
theorem dX12_back_193 : decode cX12_back 193 = .ok (.ixor, 1) := by decide +kernel
theorem dX12_back_194 : decode cX12_back 194 = .ok (.iand, 1) := by decide +kernel
theorem dX12_back_195 : decode cX12_back 195 = .ok (.iaload, 1) := by decide +kernel
theorem dX12_back_196 : decode cX12_back 196 = .ok (.iconst 1, 1) := by decide +kernel
theorem dX12_back_197 : decode cX12_back 197 = .ok (.iadd, 1) := by decide +kernel
theorem dX12_back_198 : decode cX12_back 198 = .ok (.aload_n 0, 1) := by decide +kernel
theorem dX12_back_199 : decode cX12_back 199 = .ok (.getfield 128, 3) := by decide +kernel
theorem dX12_back_202 : decode cX12_back 202 = .ok (.iload_n 3, 1) := by decide +kernel
theorem dX12_back_203 : decode cX12_back 203 = .ok (.iaload, 1) := by decide +kernel
theorem dX12_back_204 : decode cX12_back 204 = .ok (.if_icmp .le 19, 3) := by decide +kernel
theorem dX12_back_207 : decode cX12_back 207 = .ok (.aload_n 0, 1) := by decide +kernel
theorem dX12_back_208 : decode cX12_back 208 = .ok (.getfield 128, 3) := by decide +kernel
theorem dX12_back_211 : decode cX12_back 211 = .ok (.iload_n 3, 1) := by decide +kernel
theorem dX12_back_212 : decode cX12_back 212 = .ok (.iload 4, 2) := by decide +kernel
theorem dX12_back_214 : decode cX12_back 214 = .ok (.iconst (-1), 1) := by decide +kernel
theorem dX12_back_215 : decode cX12_back 215 = .ok (.ixor, 1) := by decide +kernel
theorem dX12_back_216 : decode cX12_back 216 = .ok (.iand, 1) := by decide +kernel
theorem dX12_back_217 : decode cX12_back 217 = .ok (.iaload, 1) := by decide +kernel
theorem dX12_back_218 : decode cX12_back 218 = .ok (.iconst 1, 1) := by decide +kernel
theorem dX12_back_219 : decode cX12_back 219 = .ok (.iadd, 1) := by decide +kernel
theorem dX12_back_220 : decode cX12_back 220 = .ok (.goto 9, 3) := by decide +kernel
theorem dX12_back_223 : decode cX12_back 223 = .ok (.aload_n 0, 1) := by decide +kernel
theorem dX12_back_224 : decode cX12_back 224 = .ok (.getfield 128, 3) := by decide +kernel
theorem dX12_back_227 : decode cX12_back 227 = .ok (.iload_n 3, 1) := by decide +kernel
theorem dX12_back_228 : decode cX12_back 228 = .ok (.iaload, 1) := by decide +kernel
theorem dX12_back_229 : decode cX12_back 229 = .ok (.iastore, 1) := by decide +kernel
theorem dX12_back_230 : decode cX12_back 230 = .ok (.iinc 4 1, 3) := by decide +kernel
theorem dX12_back_233 : decode cX12_back 233 = .ok (.goto (-104), 3) := by decide +kernel
theorem dX12_back_236 : decode cX12_back 236 = .ok (.iinc 3 1, 3) := by decide +kernel
theorem dX12_back_239 : decode cX12_back 239 = .ok (.goto (-126), 3) := by decide +kernel
theorem dX12_back_242 : decode cX12_back 242 = .ok (.iload_n 1, 1) := by decide +kernel
theorem dX12_back_243 : decode cX12_back 243 = .ok (.aload_n 0, 1) := by decide +kernel
theorem dX12_back_244 : decode cX12_back 244 = .ok (.getfield 128, 3) := by decide +kernel
theorem dX12_back_247 : decode cX12_back 247 = .ok (.bipush 31, 2) := by decide +kernel
theorem dX12_back_249 : decode cX12_back 249 = .ok (.iaload, 1) := by decide +kernel
theorem dX12_back_250 : decode cX12_back 250 = .ok (.iload_n 2, 1) := by decide +kernel
theorem dX12_back_251 : decode cX12_back 251 = .ok (.isub, 1) := by decide +kernel
theorem dX12_back_252 : decode cX12_back 252 = .ok (.isub, 1) := by decide +kernel
theorem dX12_back_253 : decode cX12_back 253 = .ok (.ireturn, 1) := by decide +kernel
theorem dX12_judged_0 : decode cX12_judged 0 = .ok (.iload_n 1, 1) := by decide +kernel
theorem dX12_judged_1 : decode cX12_judged 1 = .ok (.invokestatic 244, 3) := by decide +kernel
theorem dX12_judged_4 : decode cX12_judged 4 = .ok (.ifCond .eq 10, 3) := by decide +kernel
theorem dX12_judged_7 : decode cX12_judged 7 = .ok (.iload_n 2, 1) := by decide +kernel
theorem dX12_judged_8 : decode cX12_judged 8 = .ok (.invokestatic 184, 3) := by decide +kernel
theorem dX12_judged_11 : decode cX12_judged 11 = .ok (.ifCond .ne 9, 3) := by decide +kernel
theorem dX12_judged_14 : decode cX12_judged 14 = .ok (.aload_n 0, 1) := by decide +kernel
theorem dX12_judged_15 : decode cX12_judged 15 = .ok (.iconst (-1), 1) := by decide +kernel
theorem dX12_judged_16 : decode cX12_judged 16 = .ok (.invokevirtual 164, 3) := by decide +kernel
theorem dX12_judged_19 : decode cX12_judged 19 = .ok (.ireturn, 1) := by decide +kernel
theorem dX12_judged_20 : decode cX12_judged 20 = .ok (.iload_n 3, 1) := by decide +kernel
theorem dX12_judged_21 : decode cX12_judged 21 = .ok (.ifCond .lt 13, 3) := by decide +kernel
theorem dX12_judged_24 : decode cX12_judged 24 = .ok (.iload 4, 2) := by decide +kernel
theorem dX12_judged_26 : decode cX12_judged 26 = .ok (.ifCond .lt 8, 3) := by decide +kernel
theorem dX12_judged_29 : decode cX12_judged 29 = .ok (.iload 6, 2) := by decide +kernel
theorem dX12_judged_31 : decode cX12_judged 31 = .ok (.ifCond .ge 10, 3) := by decide +kernel
theorem dX12_judged_34 : decode cX12_judged 34 = .ok (.aload_n 0, 1) := by decide +kernel
theorem dX12_judged_35 : decode cX12_judged 35 = .ok (.bipush (-4), 2) := by decide +kernel
theorem dX12_judged_37 : decode cX12_judged 37 = .ok (.invokevirtual 164, 3) := by decide +kernel
theorem dX12_judged_40 : decode cX12_judged 40 = .ok (.ireturn, 1) := by decide +kernel
theorem dX12_judged_41 : decode cX12_judged 41 = .ok (.iload_n 3, 1) := by decide +kernel
theorem dX12_judged_42 : decode cX12_judged 42 = .ok (.sipush 9999, 3) := by decide +kernel
theorem dX12_judged_45 : decode cX12_judged 45 = .ok (.if_icmp .gt 28, 3) := by decide +kernel
theorem dX12_judged_48 : decode cX12_judged 48 = .ok (.iload 4, 2) := by decide +kernel
theorem dX12_judged_50 : decode cX12_judged 50 = .ok (.sipush 9999, 3) := by decide +kernel
theorem dX12_judged_53 : decode cX12_judged 53 = .ok (.if_icmp .gt 20, 3) := by decide +kernel
theorem dX12_judged_56 : decode cX12_judged 56 = .ok (.iload 6, 2) := by decide +kernel
theorem dX12_judged_58 : decode cX12_judged 58 = .ok (.sipush 9999, 3) := by decide +kernel
theorem dX12_judged_61 : decode cX12_judged 61 = .ok (.if_icmp .gt 12, 3) := by decide +kernel
theorem dX12_judged_64 : decode cX12_judged 64 = .ok (.aload_n 0, 1) := by decide +kernel
theorem dX12_judged_65 : decode cX12_judged 65 = .ok (.getfield 300, 3) := by decide +kernel
theorem dX12_judged_68 : decode cX12_judged 68 = .ok (.bipush 40, 2) := by decide +kernel
theorem dX12_judged_70 : decode cX12_judged 70 = .ok (.if_icmp .ne 10, 3) := by decide +kernel
theorem dX12_judged_73 : decode cX12_judged 73 = .ok (.aload_n 0, 1) := by decide +kernel
theorem dX12_judged_74 : decode cX12_judged 74 = .ok (.bipush (-6), 2) := by decide +kernel
theorem dX12_judged_76 : decode cX12_judged 76 = .ok (.invokevirtual 164, 3) := by decide +kernel
theorem dX12_judged_79 : decode cX12_judged 79 = .ok (.ireturn, 1) := by decide +kernel
theorem dX12_judged_80 : decode cX12_judged 80 = .ok (.aload_n 0, 1) := by decide +kernel
theorem dX12_judged_81 : decode cX12_judged 81 = .ok (.getfield 131, 3) := by decide +kernel
theorem dX12_judged_84 : decode cX12_judged 84 = .ok (.aload_n 0, 1) := by decide +kernel
theorem dX12_judged_85 : decode cX12_judged 85 = .ok (.getfield 300, 3) := by decide +kernel
theorem dX12_judged_88 : decode cX12_judged 88 = .ok (.iload_n 1, 1) := by decide +kernel
theorem dX12_judged_89 : decode cX12_judged 89 = .ok (.iastore, 1) := by decide +kernel
theorem dX12_judged_90 : decode cX12_judged 90 = .ok (.aload_n 0, 1) := by decide +kernel
theorem dX12_judged_91 : decode cX12_judged 91 = .ok (.getfield 134, 3) := by decide +kernel
theorem dX12_judged_94 : decode cX12_judged 94 = .ok (.aload_n 0, 1) := by decide +kernel
theorem dX12_judged_95 : decode cX12_judged 95 = .ok (.getfield 300, 3) := by decide +kernel
theorem dX12_judged_98 : decode cX12_judged 98 = .ok (.iload_n 2, 1) := by decide +kernel
theorem dX12_judged_99 : decode cX12_judged 99 = .ok (.iastore, 1) := by decide +kernel
theorem dX12_judged_100 : decode cX12_judged 100 = .ok (.aload_n 0, 1) := by decide +kernel
theorem dX12_judged_101 : decode cX12_judged 101 = .ok (.getfield 137, 3) := by decide +kernel
theorem dX12_judged_104 : decode cX12_judged 104 = .ok (.aload_n 0, 1) := by decide +kernel
theorem dX12_judged_105 : decode cX12_judged 105 = .ok (.getfield 300, 3) := by decide +kernel
theorem dX12_judged_108 : decode cX12_judged 108 = .ok (.iload_n 3, 1) := by decide +kernel
theorem dX12_judged_109 : decode cX12_judged 109 = .ok (.iastore, 1) := by decide +kernel
theorem dX12_judged_110 : decode cX12_judged 110 = .ok (.aload_n 0, 1) := by decide +kernel
theorem dX12_judged_111 : decode cX12_judged 111 = .ok (.getfield 140, 3) := by decide +kernel
theorem dX12_judged_114 : decode cX12_judged 114 = .ok (.aload_n 0, 1) := by decide +kernel
theorem dX12_judged_115 : decode cX12_judged 115 = .ok (.getfield 300, 3) := by decide +kernel
theorem dX12_judged_118 : decode cX12_judged 118 = .ok (.iload 4, 2) := by decide +kernel
theorem dX12_judged_120 : decode cX12_judged 120 = .ok (.iastore, 1) := by decide +kernel
theorem dX12_judged_121 : decode cX12_judged 121 = .ok (.aload_n 0, 1) := by decide +kernel
theorem dX12_judged_122 : decode cX12_judged 122 = .ok (.getfield 143, 3) := by decide +kernel
theorem dX12_judged_125 : decode cX12_judged 125 = .ok (.aload_n 0, 1) := by decide +kernel
theorem dX12_judged_126 : decode cX12_judged 126 = .ok (.getfield 300, 3) := by decide +kernel
theorem dX12_judged_129 : decode cX12_judged 129 = .ok (.iload 5, 2) := by decide +kernel
theorem dX12_judged_131 : decode cX12_judged 131 = .ok (.bastore, 1) := by decide +kernel
theorem dX12_judged_132 : decode cX12_judged 132 = .ok (.aload_n 0, 1) := by decide +kernel
theorem dX12_judged_133 : decode cX12_judged 133 = .ok (.getfield 146, 3) := by decide +kernel
theorem dX12_judged_136 : decode cX12_judged 136 = .ok (.aload_n 0, 1) := by decide +kernel
theorem dX12_judged_137 : decode cX12_judged 137 = .ok (.getfield 300, 3) := by decide +kernel
theorem dX12_judged_140 : decode cX12_judged 140 = .ok (.iload 6, 2) := by decide +kernel
theorem dX12_judged_142 : decode cX12_judged 142 = .ok (.iastore, 1) := by decide +kernel
theorem dX12_judged_143 : decode cX12_judged 143 = .ok (.aload_n 0, 1) := by decide +kernel
theorem dX12_judged_144 : decode cX12_judged 144 = .ok (.dup, 1) := by decide +kernel
theorem dX12_judged_145 : decode cX12_judged 145 = .ok (.getfield 300, 3) := by decide +kernel
theorem dX12_judged_148 : decode cX12_judged 148 = .ok (.iconst 1, 1) := by decide +kernel
theorem dX12_judged_149 : decode cX12_judged 149 = .ok (.iadd, 1) := by decide +kernel
theorem dX12_judged_150 : decode cX12_judged 150 = .ok (.putfield 300, 3) := by decide +kernel
theorem dX12_judged_153 : decode cX12_judged 153 = .ok (.aload_n 0, 1) := by decide +kernel
theorem dX12_judged_154 : decode cX12_judged 154 = .ok (.getfield 300, 3) := by decide +kernel
theorem dX12_judged_157 : decode cX12_judged 157 = .ok (.iconst 1, 1) := by decide +kernel
theorem dX12_judged_158 : decode cX12_judged 158 = .ok (.isub, 1) := by decide +kernel
theorem dX12_judged_159 : decode cX12_judged 159 = .ok (.ireturn, 1) := by decide +kernel
theorem dX12_findLike_0 : decode cX12_findLike 0 = .ok (.aload_n 0, 1) := by decide +kernel
theorem dX12_findLike_1 : decode cX12_findLike 1 = .ok (.getfield 113, 3) := by decide +kernel
theorem dX12_findLike_4 : decode cX12_findLike 4 = .ok (.iload_n 1, 1) := by decide +kernel
theorem dX12_findLike_5 : decode cX12_findLike 5 = .ok (.iaload, 1) := by decide +kernel
theorem dX12_findLike_6 : decode cX12_findLike 6 = .ok (.istore_n 2, 1) := by decide +kernel
theorem dX12_findLike_7 : decode cX12_findLike 7 = .ok (.aload_n 0, 1) := by decide +kernel
theorem dX12_findLike_8 : decode cX12_findLike 8 = .ok (.iload_n 2, 1) := by decide +kernel
theorem dX12_findLike_9 : decode cX12_findLike 9 = .ok (.aload_n 0, 1) := by decide +kernel
theorem dX12_findLike_10 : decode cX12_findLike 10 = .ok (.getfield 116, 3) := by decide +kernel
theorem dX12_findLike_13 : decode cX12_findLike 13 = .ok (.iload_n 1, 1) := by decide +kernel
theorem dX12_findLike_14 : decode cX12_findLike 14 = .ok (.iaload, 1) := by decide +kernel
theorem dX12_findLike_15 : decode cX12_findLike 15 = .ok (.invokevirtual 260, 3) := by decide +kernel
theorem dX12_findLike_18 : decode cX12_findLike 18 = .ok (.istore_n 3, 1) := by decide +kernel
theorem dX12_findLike_19 : decode cX12_findLike 19 = .ok (.aload_n 0, 1) := by decide +kernel
theorem dX12_findLike_20 : decode cX12_findLike 20 = .ok (.iload_n 2, 1) := by decide +kernel
theorem dX12_findLike_21 : decode cX12_findLike 21 = .ok (.invokevirtual 241, 3) := by decide +kernel
theorem dX12_findLike_24 : decode cX12_findLike 24 = .ok (.istore 4, 2) := by decide +kernel
theorem dX12_findLike_26 : decode cX12_findLike 26 = .ok (.aload_n 0, 1) := by decide +kernel
theorem dX12_findLike_27 : decode cX12_findLike 27 = .ok (.iload_n 2, 1) := by decide +kernel
theorem dX12_findLike_28 : decode cX12_findLike 28 = .ok (.invokevirtual 238, 3) := by decide +kernel
theorem dX12_findLike_31 : decode cX12_findLike 31 = .ok (.istore 5, 2) := by decide +kernel
theorem dX12_findLike_33 : decode cX12_findLike 33 = .ok (.iconst 0, 1) := by decide +kernel
theorem dX12_findLike_34 : decode cX12_findLike 34 = .ok (.istore 6, 2) := by decide +kernel
theorem dX12_findLike_36 : decode cX12_findLike 36 = .ok (.iconst 0, 1) := by decide +kernel
theorem dX12_findLike_37 : decode cX12_findLike 37 = .ok (.istore 7, 2) := by decide +kernel
theorem dX12_findLike_39 : decode cX12_findLike 39 = .ok (.iload 7, 2) := by decide +kernel
theorem dX12_findLike_41 : decode cX12_findLike 41 = .ok (.aload_n 0, 1) := by decide +kernel
theorem dX12_findLike_42 : decode cX12_findLike 42 = .ok (.getfield 300, 3) := by decide +kernel
theorem dX12_findLike_45 : decode cX12_findLike 45 = .ok (.if_icmp .ge 152, 3) := by decide +kernel
theorem dX12_findLike_48 : decode cX12_findLike 48 = .ok (.aload_n 0, 1) := by decide +kernel
theorem dX12_findLike_49 : decode cX12_findLike 49 = .ok (.getfield 131, 3) := by decide +kernel
theorem dX12_findLike_52 : decode cX12_findLike 52 = .ok (.iload 7, 2) := by decide +kernel
theorem dX12_findLike_54 : decode cX12_findLike 54 = .ok (.iaload, 1) := by decide +kernel
theorem dX12_findLike_55 : decode cX12_findLike 55 = .ok (.iload_n 3, 1) := by decide +kernel
theorem dX12_findLike_56 : decode cX12_findLike 56 = .ok (.if_icmp .ne 135, 3) := by decide +kernel
theorem dX12_findLike_59 : decode cX12_findLike 59 = .ok (.aload_n 0, 1) := by decide +kernel
theorem dX12_findLike_60 : decode cX12_findLike 60 = .ok (.getfield 134, 3) := by decide +kernel
theorem dX12_findLike_63 : decode cX12_findLike 63 = .ok (.iload 7, 2) := by decide +kernel
theorem dX12_findLike_65 : decode cX12_findLike 65 = .ok (.iaload, 1) := by decide +kernel
theorem dX12_findLike_66 : decode cX12_findLike 66 = .ok (.iload 4, 2) := by decide +kernel
theorem dX12_findLike_68 : decode cX12_findLike 68 = .ok (.if_icmp .ne 123, 3) := by decide +kernel
theorem dX12_findLike_71 : decode cX12_findLike 71 = .ok (.iload 5, 2) := by decide +kernel
theorem dX12_findLike_73 : decode cX12_findLike 73 = .ok (.aload_n 0, 1) := by decide +kernel
theorem dX12_findLike_74 : decode cX12_findLike 74 = .ok (.getfield 137, 3) := by decide +kernel
theorem dX12_findLike_77 : decode cX12_findLike 77 = .ok (.iload 7, 2) := by decide +kernel
theorem dX12_findLike_79 : decode cX12_findLike 79 = .ok (.iaload, 1) := by decide +kernel
theorem dX12_findLike_80 : decode cX12_findLike 80 = .ok (.isub, 1) := by decide +kernel
theorem dX12_findLike_81 : decode cX12_findLike 81 = .ok (.invokestatic 303, 3) := by decide +kernel
theorem dX12_findLike_84 : decode cX12_findLike 84 = .ok (.bipush 10, 2) := by decide +kernel
theorem dX12_findLike_86 : decode cX12_findLike 86 = .ok (.idiv, 1) := by decide +kernel
theorem dX12_findLike_87 : decode cX12_findLike 87 = .ok (.aload_n 0, 1) := by decide +kernel
theorem dX12_findLike_88 : decode cX12_findLike 88 = .ok (.iload_n 2, 1) := by decide +kernel
theorem dX12_findLike_89 : decode cX12_findLike 89 = .ok (.invokevirtual 266, 3) := by decide +kernel
theorem dX12_findLike_92 : decode cX12_findLike 92 = .ok (.aload_n 0, 1) := by decide +kernel
theorem dX12_findLike_93 : decode cX12_findLike 93 = .ok (.getfield 140, 3) := by decide +kernel
theorem dX12_findLike_96 : decode cX12_findLike 96 = .ok (.iload 7, 2) := by decide +kernel
theorem dX12_findLike_98 : decode cX12_findLike 98 = .ok (.iaload, 1) := by decide +kernel
theorem dX12_findLike_99 : decode cX12_findLike 99 = .ok (.isub, 1) := by decide +kernel
theorem dX12_findLike_100 : decode cX12_findLike 100 = .ok (.invokestatic 303, 3) := by decide +kernel
theorem dX12_findLike_103 : decode cX12_findLike 103 = .ok (.bipush 50, 2) := by decide +kernel
theorem dX12_findLike_105 : decode cX12_findLike 105 = .ok (.idiv, 1) := by decide +kernel
theorem dX12_findLike_106 : decode cX12_findLike 106 = .ok (.iadd, 1) := by decide +kernel
theorem dX12_findLike_107 : decode cX12_findLike 107 = .ok (.istore 8, 2) := by decide +kernel
theorem dX12_findLike_109 : decode cX12_findLike 109 = .ok (.iload 6, 2) := by decide +kernel
theorem dX12_findLike_111 : decode cX12_findLike 111 = .ok (.istore 9, 2) := by decide +kernel
theorem dX12_findLike_113 : decode cX12_findLike 113 = .ok (.iload 9, 2) := by decide +kernel
theorem dX12_findLike_115 : decode cX12_findLike 115 = .ok (.ifCond .le 55, 3) := by decide +kernel
theorem dX12_findLike_118 : decode cX12_findLike 118 = .ok (.aload_n 0, 1) := by decide +kernel
theorem dX12_findLike_119 : decode cX12_findLike 119 = .ok (.getfield 152, 3) := by decide +kernel
theorem dX12_findLike_122 : decode cX12_findLike 122 = .ok (.iload 9, 2) := by decide +kernel
theorem dX12_findLike_124 : decode cX12_findLike 124 = .ok (.iconst 1, 1) := by decide +kernel
theorem dX12_findLike_125 : decode cX12_findLike 125 = .ok (.isub, 1) := by decide +kernel
theorem dX12_findLike_126 : decode cX12_findLike 126 = .ok (.iaload, 1) := by decide +kernel
theorem dX12_findLike_127 : decode cX12_findLike 127 = .ok (.iload 8, 2) := by decide +kernel
theorem dX12_findLike_129 : decode cX12_findLike 129 = .ok (.if_icmp .le 41, 3) := by decide +kernel
theorem dX12_findLike_132 : decode cX12_findLike 132 = .ok (.aload_n 0, 1) := by decide +kernel
theorem dX12_findLike_133 : decode cX12_findLike 133 = .ok (.getfield 152, 3) := by decide +kernel
theorem dX12_findLike_136 : decode cX12_findLike 136 = .ok (.iload 9, 2) := by decide +kernel
theorem dX12_findLike_138 : decode cX12_findLike 138 = .ok (.aload_n 0, 1) := by decide +kernel
theorem dX12_findLike_139 : decode cX12_findLike 139 = .ok (.getfield 152, 3) := by decide +kernel
theorem dX12_findLike_142 : decode cX12_findLike 142 = .ok (.iload 9, 2) := by decide +kernel
theorem dX12_findLike_144 : decode cX12_findLike 144 = .ok (.iconst 1, 1) := by decide +kernel
theorem dX12_findLike_145 : decode cX12_findLike 145 = .ok (.isub, 1) := by decide +kernel
theorem dX12_findLike_146 : decode cX12_findLike 146 = .ok (.iaload, 1) := by decide +kernel
theorem dX12_findLike_147 : decode cX12_findLike 147 = .ok (.iastore, 1) := by decide +kernel
theorem dX12_findLike_148 : decode cX12_findLike 148 = .ok (.aload_n 0, 1) := by decide +kernel
theorem dX12_findLike_149 : decode cX12_findLike 149 = .ok (.getfield 149, 3) := by decide +kernel
theorem dX12_findLike_152 : decode cX12_findLike 152 = .ok (.iload 9, 2) := by decide +kernel
theorem dX12_findLike_154 : decode cX12_findLike 154 = .ok (.aload_n 0, 1) := by decide +kernel
theorem dX12_findLike_155 : decode cX12_findLike 155 = .ok (.getfield 149, 3) := by decide +kernel
theorem dX12_findLike_158 : decode cX12_findLike 158 = .ok (.iload 9, 2) := by decide +kernel
theorem dX12_findLike_160 : decode cX12_findLike 160 = .ok (.iconst 1, 1) := by decide +kernel
theorem dX12_findLike_161 : decode cX12_findLike 161 = .ok (.isub, 1) := by decide +kernel
theorem dX12_findLike_162 : decode cX12_findLike 162 = .ok (.iaload, 1) := by decide +kernel
theorem dX12_findLike_163 : decode cX12_findLike 163 = .ok (.iastore, 1) := by decide +kernel
theorem dX12_findLike_164 : decode cX12_findLike 164 = .ok (.iinc 9 (-1), 3) := by decide +kernel
theorem dX12_findLike_167 : decode cX12_findLike 167 = .ok (.goto (-54), 3) := by decide +kernel
theorem dX12_findLike_170 : decode cX12_findLike 170 = .ok (.aload_n 0, 1) := by decide +kernel
theorem dX12_findLike_171 : decode cX12_findLike 171 = .ok (.getfield 152, 3) := by decide +kernel
theorem dX12_findLike_174 : decode cX12_findLike 174 = .ok (.iload 9, 2) := by decide +kernel
theorem dX12_findLike_176 : decode cX12_findLike 176 = .ok (.iload 8, 2) := by decide +kernel
theorem dX12_findLike_178 : decode cX12_findLike 178 = .ok (.iastore, 1) := by decide +kernel
theorem dX12_findLike_179 : decode cX12_findLike 179 = .ok (.aload_n 0, 1) := by decide +kernel
theorem dX12_findLike_180 : decode cX12_findLike 180 = .ok (.getfield 149, 3) := by decide +kernel
theorem dX12_findLike_183 : decode cX12_findLike 183 = .ok (.iload 9, 2) := by decide +kernel
theorem dX12_findLike_185 : decode cX12_findLike 185 = .ok (.iload 7, 2) := by decide +kernel
theorem dX12_findLike_187 : decode cX12_findLike 187 = .ok (.iastore, 1) := by decide +kernel
theorem dX12_findLike_188 : decode cX12_findLike 188 = .ok (.iinc 6 1, 3) := by decide +kernel
theorem dX12_findLike_191 : decode cX12_findLike 191 = .ok (.iinc 7 1, 3) := by decide +kernel
theorem dX12_findLike_194 : decode cX12_findLike 194 = .ok (.goto (-155), 3) := by decide +kernel
theorem dX12_findLike_197 : decode cX12_findLike 197 = .ok (.aload_n 0, 1) := by decide +kernel
theorem dX12_findLike_198 : decode cX12_findLike 198 = .ok (.iload 6, 2) := by decide +kernel
theorem dX12_findLike_200 : decode cX12_findLike 200 = .ok (.aload_n 0, 1) := by decide +kernel
theorem dX12_findLike_201 : decode cX12_findLike 201 = .ok (.getfield 53, 3) := by decide +kernel
theorem dX12_findLike_204 : decode cX12_findLike 204 = .ok (.iconst 3, 1) := by decide +kernel
theorem dX12_findLike_205 : decode cX12_findLike 205 = .ok (.iaload, 1) := by decide +kernel
theorem dX12_findLike_206 : decode cX12_findLike 206 = .ok (.invokestatic 203, 3) := by decide +kernel
theorem dX12_findLike_209 : decode cX12_findLike 209 = .ok (.putfield 306, 3) := by decide +kernel
theorem dX12_findLike_212 : decode cX12_findLike 212 = .ok (.aload_n 0, 1) := by decide +kernel
theorem dX12_findLike_213 : decode cX12_findLike 213 = .ok (.iconst 0, 1) := by decide +kernel
theorem dX12_findLike_214 : decode cX12_findLike 214 = .ok (.putfield 309, 3) := by decide +kernel
theorem dX12_findLike_217 : decode cX12_findLike 217 = .ok (.aload_n 0, 1) := by decide +kernel
theorem dX12_findLike_218 : decode cX12_findLike 218 = .ok (.iconst 0, 1) := by decide +kernel
theorem dX12_findLike_219 : decode cX12_findLike 219 = .ok (.putfield 312, 3) := by decide +kernel
theorem dX12_findLike_222 : decode cX12_findLike 222 = .ok (.iconst 0, 1) := by decide +kernel
theorem dX12_findLike_223 : decode cX12_findLike 223 = .ok (.istore 7, 2) := by decide +kernel
theorem dX12_findLike_225 : decode cX12_findLike 225 = .ok (.iload 7, 2) := by decide +kernel
theorem dX12_findLike_227 : decode cX12_findLike 227 = .ok (.aload_n 0, 1) := by decide +kernel
theorem dX12_findLike_228 : decode cX12_findLike 228 = .ok (.getfield 306, 3) := by decide +kernel
theorem dX12_findLike_231 : decode cX12_findLike 231 = .ok (.if_icmp .ge 59, 3) := by decide +kernel
theorem dX12_findLike_234 : decode cX12_findLike 234 = .ok (.aload_n 0, 1) := by decide +kernel
theorem dX12_findLike_235 : decode cX12_findLike 235 = .ok (.dup, 1) := by decide +kernel
theorem dX12_findLike_236 : decode cX12_findLike 236 = .ok (.getfield 309, 3) := by decide +kernel
theorem dX12_findLike_239 : decode cX12_findLike 239 = .ok (.aload_n 0, 1) := by decide +kernel
theorem dX12_findLike_240 : decode cX12_findLike 240 = .ok (.getfield 143, 3) := by decide +kernel
theorem dX12_findLike_243 : decode cX12_findLike 243 = .ok (.aload_n 0, 1) := by decide +kernel
theorem dX12_findLike_244 : decode cX12_findLike 244 = .ok (.getfield 149, 3) := by decide +kernel
theorem dX12_findLike_247 : decode cX12_findLike 247 = .ok (.iload 7, 2) := by decide +kernel
theorem dX12_findLike_249 : decode cX12_findLike 249 = .ok (.iaload, 1) := by decide +kernel
theorem dX12_findLike_250 : decode cX12_findLike 250 = .ok (.baload, 1) := by decide +kernel
theorem dX12_findLike_251 : decode cX12_findLike 251 = .ok (.ifCond .eq 7, 3) := by decide +kernel
theorem dX12_findLike_254 : decode cX12_findLike 254 = .ok (.iconst 1, 1) := by decide +kernel
theorem dX12_findLike_255 : decode cX12_findLike 255 = .ok (.goto 4, 3) := by decide +kernel
theorem dX12_findLike_258 : decode cX12_findLike 258 = .ok (.iconst 0, 1) := by decide +kernel
theorem dX12_findLike_259 : decode cX12_findLike 259 = .ok (.iadd, 1) := by decide +kernel
theorem dX12_findLike_260 : decode cX12_findLike 260 = .ok (.putfield 309, 3) := by decide +kernel
theorem dX12_findLike_263 : decode cX12_findLike 263 = .ok (.aload_n 0, 1) := by decide +kernel
theorem dX12_findLike_264 : decode cX12_findLike 264 = .ok (.dup, 1) := by decide +kernel
theorem dX12_findLike_265 : decode cX12_findLike 265 = .ok (.getfield 312, 3) := by decide +kernel
theorem dX12_findLike_268 : decode cX12_findLike 268 = .ok (.aload_n 0, 1) := by decide +kernel
theorem dX12_findLike_269 : decode cX12_findLike 269 = .ok (.getfield 146, 3) := by decide +kernel
theorem dX12_findLike_272 : decode cX12_findLike 272 = .ok (.aload_n 0, 1) := by decide +kernel
theorem dX12_findLike_273 : decode cX12_findLike 273 = .ok (.getfield 149, 3) := by decide +kernel
theorem dX12_findLike_276 : decode cX12_findLike 276 = .ok (.iload 7, 2) := by decide +kernel
theorem dX12_findLike_278 : decode cX12_findLike 278 = .ok (.iaload, 1) := by decide +kernel
theorem dX12_findLike_279 : decode cX12_findLike 279 = .ok (.iaload, 1) := by decide +kernel
theorem dX12_findLike_280 : decode cX12_findLike 280 = .ok (.iadd, 1) := by decide +kernel
theorem dX12_findLike_281 : decode cX12_findLike 281 = .ok (.putfield 312, 3) := by decide +kernel
theorem dX12_findLike_284 : decode cX12_findLike 284 = .ok (.iinc 7 1, 3) := by decide +kernel
theorem dX12_findLike_287 : decode cX12_findLike 287 = .ok (.goto (-62), 3) := by decide +kernel
theorem dX12_findLike_290 : decode cX12_findLike 290 = .ok (.return_, 1) := by decide +kernel
theorem dX12_odds_0 : decode cX12_odds 0 = .ok (.aload_n 0, 1) := by decide +kernel
theorem dX12_odds_1 : decode cX12_odds 1 = .ok (.iload_n 1, 1) := by decide +kernel
theorem dX12_odds_2 : decode cX12_odds 2 = .ok (.invokevirtual 281, 3) := by decide +kernel
theorem dX12_odds_5 : decode cX12_odds 5 = .ok (.ifCond .ne 9, 3) := by decide +kernel
theorem dX12_odds_8 : decode cX12_odds 8 = .ok (.aload_n 0, 1) := by decide +kernel
theorem dX12_odds_9 : decode cX12_odds 9 = .ok (.iconst (-1), 1) := by decide +kernel
theorem dX12_odds_10 : decode cX12_odds 10 = .ok (.invokevirtual 178, 3) := by decide +kernel
theorem dX12_odds_13 : decode cX12_odds 13 = .ok (.ireturn, 1) := by decide +kernel
theorem dX12_odds_14 : decode cX12_odds 14 = .ok (.iload_n 2, 1) := by decide +kernel
theorem dX12_odds_15 : decode cX12_odds 15 = .ok (.iconst 0, 1) := by decide +kernel
theorem dX12_odds_16 : decode cX12_odds 16 = .ok (.iconst 2, 1) := by decide +kernel
theorem dX12_odds_17 : decode cX12_odds 17 = .ok (.invokestatic 156, 3) := by decide +kernel
theorem dX12_odds_20 : decode cX12_odds 20 = .ok (.ifCond .ne 10, 3) := by decide +kernel
theorem dX12_odds_23 : decode cX12_odds 23 = .ok (.aload_n 0, 1) := by decide +kernel
theorem dX12_odds_24 : decode cX12_odds 24 = .ok (.bipush (-2), 2) := by decide +kernel
theorem dX12_odds_26 : decode cX12_odds 26 = .ok (.invokevirtual 178, 3) := by decide +kernel
theorem dX12_odds_29 : decode cX12_odds 29 = .ok (.ireturn, 1) := by decide +kernel
theorem dX12_odds_30 : decode cX12_odds 30 = .ok (.aload_n 0, 1) := by decide +kernel
theorem dX12_odds_31 : decode cX12_odds 31 = .ok (.iload_n 1, 1) := by decide +kernel
theorem dX12_odds_32 : decode cX12_odds 32 = .ok (.invokevirtual 315, 3) := by decide +kernel
theorem dX12_odds_35 : decode cX12_odds 35 = .ok (.iload_n 2, 1) := by decide +kernel
theorem dX12_odds_36 : decode cX12_odds 36 = .ok (.ifCond .ne 10, 3) := by decide +kernel
theorem dX12_odds_39 : decode cX12_odds 39 = .ok (.aload_n 0, 1) := by decide +kernel
theorem dX12_odds_40 : decode cX12_odds 40 = .ok (.getfield 309, 3) := by decide +kernel
theorem dX12_odds_43 : decode cX12_odds 43 = .ok (.goto 30, 3) := by decide +kernel
theorem dX12_odds_46 : decode cX12_odds 46 = .ok (.iload_n 2, 1) := by decide +kernel
theorem dX12_odds_47 : decode cX12_odds 47 = .ok (.iconst 1, 1) := by decide +kernel
theorem dX12_odds_48 : decode cX12_odds 48 = .ok (.if_icmp .ne 10, 3) := by decide +kernel
theorem dX12_odds_51 : decode cX12_odds 51 = .ok (.aload_n 0, 1) := by decide +kernel
theorem dX12_odds_52 : decode cX12_odds 52 = .ok (.getfield 306, 3) := by decide +kernel
theorem dX12_odds_55 : decode cX12_odds 55 = .ok (.goto 18, 3) := by decide +kernel
theorem dX12_odds_58 : decode cX12_odds 58 = .ok (.aload_n 0, 1) := by decide +kernel
theorem dX12_odds_59 : decode cX12_odds 59 = .ok (.iload_n 1, 1) := by decide +kernel
theorem dX12_odds_60 : decode cX12_odds 60 = .ok (.invokevirtual 284, 3) := by decide +kernel
theorem dX12_odds_63 : decode cX12_odds 63 = .ok (.aload_n 0, 1) := by decide +kernel
theorem dX12_odds_64 : decode cX12_odds 64 = .ok (.getfield 309, 3) := by decide +kernel
theorem dX12_odds_67 : decode cX12_odds 67 = .ok (.imul, 1) := by decide +kernel
theorem dX12_odds_68 : decode cX12_odds 68 = .ok (.aload_n 0, 1) := by decide +kernel
theorem dX12_odds_69 : decode cX12_odds 69 = .ok (.getfield 312, 3) := by decide +kernel
theorem dX12_odds_72 : decode cX12_odds 72 = .ok (.isub, 1) := by decide +kernel
theorem dX12_odds_73 : decode cX12_odds 73 = .ok (.ireturn, 1) := by decide +kernel
theorem dX12_good_0 : decode cX12_good 0 = .ok (.aload_n 0, 1) := by decide +kernel
theorem dX12_good_1 : decode cX12_good 1 = .ok (.iload_n 1, 1) := by decide +kernel
theorem dX12_good_2 : decode cX12_good 2 = .ok (.invokevirtual 281, 3) := by decide +kernel
theorem dX12_good_5 : decode cX12_good 5 = .ok (.ifCond .ne 9, 3) := by decide +kernel
theorem dX12_good_8 : decode cX12_good 8 = .ok (.aload_n 0, 1) := by decide +kernel
theorem dX12_good_9 : decode cX12_good 9 = .ok (.iconst (-1), 1) := by decide +kernel
theorem dX12_good_10 : decode cX12_good 10 = .ok (.invokevirtual 164, 3) := by decide +kernel
theorem dX12_good_13 : decode cX12_good 13 = .ok (.ireturn, 1) := by decide +kernel
theorem dX12_good_14 : decode cX12_good 14 = .ok (.iload_n 2, 1) := by decide +kernel
theorem dX12_good_15 : decode cX12_good 15 = .ok (.ifCond .ge 10, 3) := by decide +kernel
theorem dX12_good_18 : decode cX12_good 18 = .ok (.aload_n 0, 1) := by decide +kernel
theorem dX12_good_19 : decode cX12_good 19 = .ok (.bipush (-4), 2) := by decide +kernel
theorem dX12_good_21 : decode cX12_good 21 = .ok (.invokevirtual 164, 3) := by decide +kernel
theorem dX12_good_24 : decode cX12_good 24 = .ok (.ireturn, 1) := by decide +kernel
theorem dX12_good_25 : decode cX12_good 25 = .ok (.iload_n 2, 1) := by decide +kernel
theorem dX12_good_26 : decode cX12_good 26 = .ok (.sipush 9999, 3) := by decide +kernel
theorem dX12_good_29 : decode cX12_good 29 = .ok (.if_icmp .le 10, 3) := by decide +kernel
theorem dX12_good_32 : decode cX12_good 32 = .ok (.aload_n 0, 1) := by decide +kernel
theorem dX12_good_33 : decode cX12_good 33 = .ok (.bipush (-6), 2) := by decide +kernel
theorem dX12_good_35 : decode cX12_good 35 = .ok (.invokevirtual 164, 3) := by decide +kernel
theorem dX12_good_38 : decode cX12_good 38 = .ok (.ireturn, 1) := by decide +kernel
theorem dX12_good_39 : decode cX12_good 39 = .ok (.aload_n 0, 1) := by decide +kernel
theorem dX12_good_40 : decode cX12_good 40 = .ok (.iload_n 1, 1) := by decide +kernel
theorem dX12_good_41 : decode cX12_good 41 = .ok (.invokevirtual 315, 3) := by decide +kernel
theorem dX12_good_44 : decode cX12_good 44 = .ok (.aload_n 0, 1) := by decide +kernel
theorem dX12_good_45 : decode cX12_good 45 = .ok (.iload_n 1, 1) := by decide +kernel
theorem dX12_good_46 : decode cX12_good 46 = .ok (.invokevirtual 284, 3) := by decide +kernel
theorem dX12_good_49 : decode cX12_good 49 = .ok (.istore_n 3, 1) := by decide +kernel
theorem dX12_good_50 : decode cX12_good 50 = .ok (.aload_n 0, 1) := by decide +kernel
theorem dX12_good_51 : decode cX12_good 51 = .ok (.getfield 306, 3) := by decide +kernel
theorem dX12_good_54 : decode cX12_good 54 = .ok (.ifCond .ne 18, 3) := by decide +kernel
theorem dX12_good_57 : decode cX12_good 57 = .ok (.iconst 2, 1) := by decide +kernel
theorem dX12_good_58 : decode cX12_good 58 = .ok (.iload_n 2, 1) := by decide +kernel
theorem dX12_good_59 : decode cX12_good 59 = .ok (.imul, 1) := by decide +kernel
theorem dX12_good_60 : decode cX12_good 60 = .ok (.iload_n 3, 1) := by decide +kernel
theorem dX12_good_61 : decode cX12_good 61 = .ok (.if_icmp .lt 7, 3) := by decide +kernel
theorem dX12_good_64 : decode cX12_good 64 = .ok (.iconst 1, 1) := by decide +kernel
theorem dX12_good_65 : decode cX12_good 65 = .ok (.goto 32, 3) := by decide +kernel
theorem dX12_good_68 : decode cX12_good 68 = .ok (.iconst 0, 1) := by decide +kernel
theorem dX12_good_69 : decode cX12_good 69 = .ok (.goto 28, 3) := by decide +kernel
theorem dX12_good_72 : decode cX12_good 72 = .ok (.iload_n 2, 1) := by decide +kernel
theorem dX12_good_73 : decode cX12_good 73 = .ok (.aload_n 0, 1) := by decide +kernel
theorem dX12_good_74 : decode cX12_good 74 = .ok (.getfield 306, 3) := by decide +kernel
theorem dX12_good_77 : decode cX12_good 77 = .ok (.imul, 1) := by decide +kernel
theorem dX12_good_78 : decode cX12_good 78 = .ok (.iload_n 3, 1) := by decide +kernel
theorem dX12_good_79 : decode cX12_good 79 = .ok (.aload_n 0, 1) := by decide +kernel
theorem dX12_good_80 : decode cX12_good 80 = .ok (.getfield 309, 3) := by decide +kernel
theorem dX12_good_83 : decode cX12_good 83 = .ok (.imul, 1) := by decide +kernel
theorem dX12_good_84 : decode cX12_good 84 = .ok (.aload_n 0, 1) := by decide +kernel
theorem dX12_good_85 : decode cX12_good 85 = .ok (.getfield 312, 3) := by decide +kernel
theorem dX12_good_88 : decode cX12_good 88 = .ok (.isub, 1) := by decide +kernel
theorem dX12_good_89 : decode cX12_good 89 = .ok (.if_icmp .lt 7, 3) := by decide +kernel
theorem dX12_good_92 : decode cX12_good 92 = .ok (.iconst 1, 1) := by decide +kernel
theorem dX12_good_93 : decode cX12_good 93 = .ok (.goto 4, 3) := by decide +kernel
theorem dX12_good_96 : decode cX12_good 96 = .ok (.iconst 0, 1) := by decide +kernel
theorem dX12_good_97 : decode cX12_good 97 = .ok (.istore 4, 2) := by decide +kernel
theorem dX12_good_99 : decode cX12_good 99 = .ok (.iload 4, 2) := by decide +kernel
theorem dX12_good_101 : decode cX12_good 101 = .ok (.ifCond .eq 7, 3) := by decide +kernel
theorem dX12_good_104 : decode cX12_good 104 = .ok (.iconst 1, 1) := by decide +kernel
theorem dX12_good_105 : decode cX12_good 105 = .ok (.goto 4, 3) := by decide +kernel
theorem dX12_good_108 : decode cX12_good 108 = .ok (.iconst 0, 1) := by decide +kernel
theorem dX12_good_109 : decode cX12_good 109 = .ok (.ireturn, 1) := by decide +kernel
theorem dX12_count_0 : decode cX12_count 0 = .ok (.iconst 0, 1) := by decide +kernel
theorem dX12_count_1 : decode cX12_count 1 = .ok (.istore_n 2, 1) := by decide +kernel
theorem dX12_count_2 : decode cX12_count 2 = .ok (.iload_n 1, 1) := by decide +kernel
theorem dX12_count_3 : decode cX12_count 3 = .ok (.tableswitch 153 0 8 #[49, 54, 59, 94, 99, 104, 109, 143, 148], 49) := by decide +kernel
theorem dX12_count_52 : decode cX12_count 52 = .ok (.aload_n 0, 1) := by decide +kernel
theorem dX12_count_53 : decode cX12_count 53 = .ok (.getfield 168, 3) := by decide +kernel
theorem dX12_count_56 : decode cX12_count 56 = .ok (.ireturn, 1) := by decide +kernel
theorem dX12_count_57 : decode cX12_count 57 = .ok (.aload_n 0, 1) := by decide +kernel
theorem dX12_count_58 : decode cX12_count 58 = .ok (.getfield 160, 3) := by decide +kernel
theorem dX12_count_61 : decode cX12_count 61 = .ok (.ireturn, 1) := by decide +kernel
theorem dX12_count_62 : decode cX12_count 62 = .ok (.iconst 0, 1) := by decide +kernel
theorem dX12_count_63 : decode cX12_count 63 = .ok (.istore_n 3, 1) := by decide +kernel
theorem dX12_count_64 : decode cX12_count 64 = .ok (.iload_n 3, 1) := by decide +kernel
theorem dX12_count_65 : decode cX12_count 65 = .ok (.aload_n 0, 1) := by decide +kernel
theorem dX12_count_66 : decode cX12_count 66 = .ok (.getfield 160, 3) := by decide +kernel
theorem dX12_count_69 : decode cX12_count 69 = .ok (.if_icmp .ge 26, 3) := by decide +kernel
theorem dX12_count_72 : decode cX12_count 72 = .ok (.iload_n 2, 1) := by decide +kernel
theorem dX12_count_73 : decode cX12_count 73 = .ok (.aload_n 0, 1) := by decide +kernel
theorem dX12_count_74 : decode cX12_count 74 = .ok (.getfield 40, 3) := by decide +kernel
theorem dX12_count_77 : decode cX12_count 77 = .ok (.iload_n 3, 1) := by decide +kernel
theorem dX12_count_78 : decode cX12_count 78 = .ok (.baload, 1) := by decide +kernel
theorem dX12_count_79 : decode cX12_count 79 = .ok (.ifCond .eq 7, 3) := by decide +kernel
theorem dX12_count_82 : decode cX12_count 82 = .ok (.iconst 1, 1) := by decide +kernel
theorem dX12_count_83 : decode cX12_count 83 = .ok (.goto 4, 3) := by decide +kernel
theorem dX12_count_86 : decode cX12_count 86 = .ok (.iconst 0, 1) := by decide +kernel
theorem dX12_count_87 : decode cX12_count 87 = .ok (.iadd, 1) := by decide +kernel
theorem dX12_count_88 : decode cX12_count 88 = .ok (.istore_n 2, 1) := by decide +kernel
theorem dX12_count_89 : decode cX12_count 89 = .ok (.iinc 3 1, 3) := by decide +kernel
theorem dX12_count_92 : decode cX12_count 92 = .ok (.goto (-28), 3) := by decide +kernel
theorem dX12_count_95 : decode cX12_count 95 = .ok (.iload_n 2, 1) := by decide +kernel
theorem dX12_count_96 : decode cX12_count 96 = .ok (.ireturn, 1) := by decide +kernel
theorem dX12_count_97 : decode cX12_count 97 = .ok (.aload_n 0, 1) := by decide +kernel
theorem dX12_count_98 : decode cX12_count 98 = .ok (.getfield 223, 3) := by decide +kernel
theorem dX12_count_101 : decode cX12_count 101 = .ok (.ireturn, 1) := by decide +kernel
theorem dX12_count_102 : decode cX12_count 102 = .ok (.aload_n 0, 1) := by decide +kernel
theorem dX12_count_103 : decode cX12_count 103 = .ok (.getfield 247, 3) := by decide +kernel
theorem dX12_count_106 : decode cX12_count 106 = .ok (.ireturn, 1) := by decide +kernel
theorem dX12_count_107 : decode cX12_count 107 = .ok (.aload_n 0, 1) := by decide +kernel
theorem dX12_count_108 : decode cX12_count 108 = .ok (.getfield 275, 3) := by decide +kernel
theorem dX12_count_111 : decode cX12_count 111 = .ok (.ireturn, 1) := by decide +kernel
theorem dX12_count_112 : decode cX12_count 112 = .ok (.iconst 0, 1) := by decide +kernel
theorem dX12_count_113 : decode cX12_count 113 = .ok (.istore_n 3, 1) := by decide +kernel
theorem dX12_count_114 : decode cX12_count 114 = .ok (.iload_n 3, 1) := by decide +kernel
theorem dX12_count_115 : decode cX12_count 115 = .ok (.aload_n 0, 1) := by decide +kernel
theorem dX12_count_116 : decode cX12_count 116 = .ok (.getfield 275, 3) := by decide +kernel
theorem dX12_count_119 : decode cX12_count 119 = .ok (.if_icmp .ge 25, 3) := by decide +kernel
theorem dX12_count_122 : decode cX12_count 122 = .ok (.iload_n 2, 1) := by decide +kernel
theorem dX12_count_123 : decode cX12_count 123 = .ok (.aload_n 0, 1) := by decide +kernel
theorem dX12_count_124 : decode cX12_count 124 = .ok (.iload_n 3, 1) := by decide +kernel
theorem dX12_count_125 : decode cX12_count 125 = .ok (.invokevirtual 278, 3) := by decide +kernel
theorem dX12_count_128 : decode cX12_count 128 = .ok (.ifCond .eq 7, 3) := by decide +kernel
theorem dX12_count_131 : decode cX12_count 131 = .ok (.iconst 1, 1) := by decide +kernel
theorem dX12_count_132 : decode cX12_count 132 = .ok (.goto 4, 3) := by decide +kernel
theorem dX12_count_135 : decode cX12_count 135 = .ok (.iconst 0, 1) := by decide +kernel
theorem dX12_count_136 : decode cX12_count 136 = .ok (.iadd, 1) := by decide +kernel
theorem dX12_count_137 : decode cX12_count 137 = .ok (.istore_n 2, 1) := by decide +kernel
theorem dX12_count_138 : decode cX12_count 138 = .ok (.iinc 3 1, 3) := by decide +kernel
theorem dX12_count_141 : decode cX12_count 141 = .ok (.goto (-27), 3) := by decide +kernel
theorem dX12_count_144 : decode cX12_count 144 = .ok (.iload_n 2, 1) := by decide +kernel
theorem dX12_count_145 : decode cX12_count 145 = .ok (.ireturn, 1) := by decide +kernel
theorem dX12_count_146 : decode cX12_count 146 = .ok (.aload_n 0, 1) := by decide +kernel
theorem dX12_count_147 : decode cX12_count 147 = .ok (.getfield 300, 3) := by decide +kernel
theorem dX12_count_150 : decode cX12_count 150 = .ok (.ireturn, 1) := by decide +kernel
theorem dX12_count_151 : decode cX12_count 151 = .ok (.aload_n 0, 1) := by decide +kernel
theorem dX12_count_152 : decode cX12_count 152 = .ok (.getfield 175, 3) := by decide +kernel
theorem dX12_count_155 : decode cX12_count 155 = .ok (.ireturn, 1) := by decide +kernel
theorem dX12_count_156 : decode cX12_count 156 = .ok (.iload_n 1, 1) := by decide +kernel
theorem dX12_count_157 : decode cX12_count 157 = .ok (.bipush 11, 2) := by decide +kernel
theorem dX12_count_159 : decode cX12_count 159 = .ok (.bipush 16, 2) := by decide +kernel
theorem dX12_count_161 : decode cX12_count 161 = .ok (.invokestatic 156, 3) := by decide +kernel
theorem dX12_count_164 : decode cX12_count 164 = .ok (.ifCond .eq 15, 3) := by decide +kernel
theorem dX12_count_167 : decode cX12_count 167 = .ok (.aload_n 0, 1) := by decide +kernel
theorem dX12_count_168 : decode cX12_count 168 = .ok (.getfield 56, 3) := by decide +kernel
theorem dX12_count_171 : decode cX12_count 171 = .ok (.iload_n 1, 1) := by decide +kernel
theorem dX12_count_172 : decode cX12_count 172 = .ok (.bipush 10, 2) := by decide +kernel
theorem dX12_count_174 : decode cX12_count 174 = .ok (.isub, 1) := by decide +kernel
theorem dX12_count_175 : decode cX12_count 175 = .ok (.iaload, 1) := by decide +kernel
theorem dX12_count_176 : decode cX12_count 176 = .ok (.goto 5, 3) := by decide +kernel
theorem dX12_count_179 : decode cX12_count 179 = .ok (.bipush (-9), 2) := by decide +kernel
theorem dX12_count_181 : decode cX12_count 181 = .ok (.ireturn, 1) := by decide +kernel
end
section
theorem dX0_init_0 : decode cX0_init 0 = .ok (.aload_n 0, 1) := by decide +kernel
theorem dX0_init_1 : decode cX0_init 1 = .ok (.invokespecial 3, 3) := by decide +kernel
theorem dX0_init_4 : decode cX0_init 4 = .ok (.aload_n 0, 1) := by decide +kernel
theorem dX0_init_5 : decode cX0_init 5 = .ok (.iconst 4, 1) := by decide +kernel
theorem dX0_init_6 : decode cX0_init 6 = .ok (.newarray .int, 2) := by decide +kernel
theorem dX0_init_8 : decode cX0_init 8 = .ok (.putfield 9, 3) := by decide +kernel
theorem dX0_init_11 : decode cX0_init 11 = .ok (.aload_n 0, 1) := by decide +kernel
theorem dX0_init_12 : decode cX0_init 12 = .ok (.getfield 9, 3) := by decide +kernel
theorem dX0_init_15 : decode cX0_init 15 = .ok (.sipush 365, 3) := by decide +kernel
theorem dX0_init_18 : decode cX0_init 18 = .ok (.invokestatic 15, 3) := by decide +kernel
theorem dX0_init_21 : decode cX0_init 21 = .ok (.aload_n 0, 1) := by decide +kernel
theorem dX0_init_22 : decode cX0_init 22 = .ok (.bipush 20, 2) := by decide +kernel
theorem dX0_init_24 : decode cX0_init 24 = .ok (.newarray .int, 2) := by decide +kernel
theorem dX0_init_26 : decode cX0_init 26 = .ok (.putfield 21, 3) := by decide +kernel
theorem dX0_init_29 : decode cX0_init 29 = .ok (.aload_n 0, 1) := by decide +kernel
theorem dX0_init_30 : decode cX0_init 30 = .ok (.bipush 20, 2) := by decide +kernel
theorem dX0_init_32 : decode cX0_init 32 = .ok (.newarray .int, 2) := by decide +kernel
theorem dX0_init_34 : decode cX0_init 34 = .ok (.putfield 24, 3) := by decide +kernel
theorem dX0_init_37 : decode cX0_init 37 = .ok (.aload_n 0, 1) := by decide +kernel
theorem dX0_init_38 : decode cX0_init 38 = .ok (.bipush 20, 2) := by decide +kernel
theorem dX0_init_40 : decode cX0_init 40 = .ok (.newarray .int, 2) := by decide +kernel
theorem dX0_init_42 : decode cX0_init 42 = .ok (.putfield 27, 3) := by decide +kernel
theorem dX0_init_45 : decode cX0_init 45 = .ok (.return_, 1) := by decide +kernel
theorem dX0_isFull_0 : decode cX0_isFull 0 = .ok (.aload_n 0, 1) := by decide +kernel
theorem dX0_isFull_1 : decode cX0_isFull 1 = .ok (.getfield 30, 3) := by decide +kernel
theorem dX0_isFull_4 : decode cX0_isFull 4 = .ok (.bipush 20, 2) := by decide +kernel
theorem dX0_isFull_6 : decode cX0_isFull 6 = .ok (.if_icmp .lt 7, 3) := by decide +kernel
theorem dX0_isFull_9 : decode cX0_isFull 9 = .ok (.iconst 1, 1) := by decide +kernel
theorem dX0_isFull_10 : decode cX0_isFull 10 = .ok (.goto 4, 3) := by decide +kernel
theorem dX0_isFull_13 : decode cX0_isFull 13 = .ok (.iconst 0, 1) := by decide +kernel
theorem dX0_isFull_14 : decode cX0_isFull 14 = .ok (.ireturn, 1) := by decide +kernel
theorem dX0_addStop_0 : decode cX0_addStop 0 = .ok (.aload_n 0, 1) := by decide +kernel
theorem dX0_addStop_1 : decode cX0_addStop 1 = .ok (.getfield 21, 3) := by decide +kernel
theorem dX0_addStop_4 : decode cX0_addStop 4 = .ok (.aload_n 0, 1) := by decide +kernel
theorem dX0_addStop_5 : decode cX0_addStop 5 = .ok (.getfield 30, 3) := by decide +kernel
theorem dX0_addStop_8 : decode cX0_addStop 8 = .ok (.iload_n 1, 1) := by decide +kernel
theorem dX0_addStop_9 : decode cX0_addStop 9 = .ok (.iastore, 1) := by decide +kernel
theorem dX0_addStop_10 : decode cX0_addStop 10 = .ok (.aload_n 0, 1) := by decide +kernel
theorem dX0_addStop_11 : decode cX0_addStop 11 = .ok (.getfield 24, 3) := by decide +kernel
theorem dX0_addStop_14 : decode cX0_addStop 14 = .ok (.aload_n 0, 1) := by decide +kernel
theorem dX0_addStop_15 : decode cX0_addStop 15 = .ok (.getfield 30, 3) := by decide +kernel
theorem dX0_addStop_18 : decode cX0_addStop 18 = .ok (.iload_n 2, 1) := by decide +kernel
theorem dX0_addStop_19 : decode cX0_addStop 19 = .ok (.iastore, 1) := by decide +kernel
theorem dX0_addStop_20 : decode cX0_addStop 20 = .ok (.aload_n 0, 1) := by decide +kernel
theorem dX0_addStop_21 : decode cX0_addStop 21 = .ok (.getfield 27, 3) := by decide +kernel
theorem dX0_addStop_24 : decode cX0_addStop 24 = .ok (.aload_n 0, 1) := by decide +kernel
theorem dX0_addStop_25 : decode cX0_addStop 25 = .ok (.getfield 30, 3) := by decide +kernel
theorem dX0_addStop_28 : decode cX0_addStop 28 = .ok (.iload_n 3, 1) := by decide +kernel
theorem dX0_addStop_29 : decode cX0_addStop 29 = .ok (.iastore, 1) := by decide +kernel
theorem dX0_addStop_30 : decode cX0_addStop 30 = .ok (.aload_n 0, 1) := by decide +kernel
theorem dX0_addStop_31 : decode cX0_addStop 31 = .ok (.dup, 1) := by decide +kernel
theorem dX0_addStop_32 : decode cX0_addStop 32 = .ok (.getfield 30, 3) := by decide +kernel
theorem dX0_addStop_35 : decode cX0_addStop 35 = .ok (.iconst 1, 1) := by decide +kernel
theorem dX0_addStop_36 : decode cX0_addStop 36 = .ok (.iadd, 1) := by decide +kernel
theorem dX0_addStop_37 : decode cX0_addStop 37 = .ok (.putfield 30, 3) := by decide +kernel
theorem dX0_addStop_40 : decode cX0_addStop 40 = .ok (.aload_n 0, 1) := by decide +kernel
theorem dX0_addStop_41 : decode cX0_addStop 41 = .ok (.getfield 30, 3) := by decide +kernel
theorem dX0_addStop_44 : decode cX0_addStop 44 = .ok (.ireturn, 1) := by decide +kernel
theorem dX0_daysThatRan_0 : decode cX0_daysThatRan 0 = .ok (.iconst 0, 1) := by decide +kernel
theorem dX0_daysThatRan_1 : decode cX0_daysThatRan 1 = .ok (.istore 4, 2) := by decide +kernel
theorem dX0_daysThatRan_3 : decode cX0_daysThatRan 3 = .ok (.iload_n 2, 1) := by decide +kernel
theorem dX0_daysThatRan_4 : decode cX0_daysThatRan 4 = .ok (.istore 5, 2) := by decide +kernel
theorem dX0_daysThatRan_6 : decode cX0_daysThatRan 6 = .ok (.iconst 0, 1) := by decide +kernel
theorem dX0_daysThatRan_7 : decode cX0_daysThatRan 7 = .ok (.istore 6, 2) := by decide +kernel
theorem dX0_daysThatRan_9 : decode cX0_daysThatRan 9 = .ok (.iload 6, 2) := by decide +kernel
theorem dX0_daysThatRan_11 : decode cX0_daysThatRan 11 = .ok (.aload_n 0, 1) := by decide +kernel
theorem dX0_daysThatRan_12 : decode cX0_daysThatRan 12 = .ok (.getfield 30, 3) := by decide +kernel
theorem dX0_daysThatRan_15 : decode cX0_daysThatRan 15 = .ok (.if_icmp .gt 90, 3) := by decide +kernel
theorem dX0_daysThatRan_18 : decode cX0_daysThatRan 18 = .ok (.iload 5, 2) := by decide +kernel
theorem dX0_daysThatRan_20 : decode cX0_daysThatRan 20 = .ok (.iload_n 3, 1) := by decide +kernel
theorem dX0_daysThatRan_21 : decode cX0_daysThatRan 21 = .ok (.if_icmp .gt 84, 3) := by decide +kernel
theorem dX0_daysThatRan_24 : decode cX0_daysThatRan 24 = .ok (.aload_n 0, 1) := by decide +kernel
theorem dX0_daysThatRan_25 : decode cX0_daysThatRan 25 = .ok (.iload_n 1, 1) := by decide +kernel
theorem dX0_daysThatRan_26 : decode cX0_daysThatRan 26 = .ok (.iload 5, 2) := by decide +kernel
theorem dX0_daysThatRan_28 : decode cX0_daysThatRan 28 = .ok (.invokevirtual 34, 3) := by decide +kernel
theorem dX0_daysThatRan_31 : decode cX0_daysThatRan 31 = .ok (.istore 7, 2) := by decide +kernel
theorem dX0_daysThatRan_33 : decode cX0_daysThatRan 33 = .ok (.iload 7, 2) := by decide +kernel
theorem dX0_daysThatRan_35 : decode cX0_daysThatRan 35 = .ok (.bipush (-9), 2) := by decide +kernel
theorem dX0_daysThatRan_37 : decode cX0_daysThatRan 37 = .ok (.if_icmp .ne 9, 3) := by decide +kernel
theorem dX0_daysThatRan_40 : decode cX0_daysThatRan 40 = .ok (.iload_n 3, 1) := by decide +kernel
theorem dX0_daysThatRan_41 : decode cX0_daysThatRan 41 = .ok (.iconst 1, 1) := by decide +kernel
theorem dX0_daysThatRan_42 : decode cX0_daysThatRan 42 = .ok (.iadd, 1) := by decide +kernel
theorem dX0_daysThatRan_43 : decode cX0_daysThatRan 43 = .ok (.goto 16, 3) := by decide +kernel
theorem dX0_daysThatRan_46 : decode cX0_daysThatRan 46 = .ok (.aload_n 0, 1) := by decide +kernel
theorem dX0_daysThatRan_47 : decode cX0_daysThatRan 47 = .ok (.getfield 24, 3) := by decide +kernel
theorem dX0_daysThatRan_50 : decode cX0_daysThatRan 50 = .ok (.iload 7, 2) := by decide +kernel
theorem dX0_daysThatRan_52 : decode cX0_daysThatRan 52 = .ok (.iaload, 1) := by decide +kernel
theorem dX0_daysThatRan_53 : decode cX0_daysThatRan 53 = .ok (.iload_n 3, 1) := by decide +kernel
theorem dX0_daysThatRan_54 : decode cX0_daysThatRan 54 = .ok (.iconst 1, 1) := by decide +kernel
theorem dX0_daysThatRan_55 : decode cX0_daysThatRan 55 = .ok (.iadd, 1) := by decide +kernel
theorem dX0_daysThatRan_56 : decode cX0_daysThatRan 56 = .ok (.invokestatic 38, 3) := by decide +kernel
theorem dX0_daysThatRan_59 : decode cX0_daysThatRan 59 = .ok (.istore 8, 2) := by decide +kernel
theorem dX0_daysThatRan_61 : decode cX0_daysThatRan 61 = .ok (.iload 4, 2) := by decide +kernel
theorem dX0_daysThatRan_63 : decode cX0_daysThatRan 63 = .ok (.iconst 0, 1) := by decide +kernel
theorem dX0_daysThatRan_64 : decode cX0_daysThatRan 64 = .ok (.iload 8, 2) := by decide +kernel
theorem dX0_daysThatRan_66 : decode cX0_daysThatRan 66 = .ok (.iload 5, 2) := by decide +kernel
theorem dX0_daysThatRan_68 : decode cX0_daysThatRan 68 = .ok (.isub, 1) := by decide +kernel
theorem dX0_daysThatRan_69 : decode cX0_daysThatRan 69 = .ok (.invokestatic 43, 3) := by decide +kernel
theorem dX0_daysThatRan_72 : decode cX0_daysThatRan 72 = .ok (.iadd, 1) := by decide +kernel
theorem dX0_daysThatRan_73 : decode cX0_daysThatRan 73 = .ok (.istore 4, 2) := by decide +kernel
theorem dX0_daysThatRan_75 : decode cX0_daysThatRan 75 = .ok (.iload 7, 2) := by decide +kernel
theorem dX0_daysThatRan_77 : decode cX0_daysThatRan 77 = .ok (.bipush (-9), 2) := by decide +kernel
theorem dX0_daysThatRan_79 : decode cX0_daysThatRan 79 = .ok (.if_icmp .ne 9, 3) := by decide +kernel
theorem dX0_daysThatRan_82 : decode cX0_daysThatRan 82 = .ok (.iload_n 3, 1) := by decide +kernel
theorem dX0_daysThatRan_83 : decode cX0_daysThatRan 83 = .ok (.iconst 1, 1) := by decide +kernel
theorem dX0_daysThatRan_84 : decode cX0_daysThatRan 84 = .ok (.iadd, 1) := by decide +kernel
theorem dX0_daysThatRan_85 : decode cX0_daysThatRan 85 = .ok (.goto 12, 3) := by decide +kernel
theorem dX0_daysThatRan_88 : decode cX0_daysThatRan 88 = .ok (.aload_n 0, 1) := by decide +kernel
theorem dX0_daysThatRan_89 : decode cX0_daysThatRan 89 = .ok (.getfield 27, 3) := by decide +kernel
theorem dX0_daysThatRan_92 : decode cX0_daysThatRan 92 = .ok (.iload 7, 2) := by decide +kernel
theorem dX0_daysThatRan_94 : decode cX0_daysThatRan 94 = .ok (.iaload, 1) := by decide +kernel
theorem dX0_daysThatRan_95 : decode cX0_daysThatRan 95 = .ok (.iconst 1, 1) := by decide +kernel
theorem dX0_daysThatRan_96 : decode cX0_daysThatRan 96 = .ok (.iadd, 1) := by decide +kernel
theorem dX0_daysThatRan_97 : decode cX0_daysThatRan 97 = .ok (.istore 5, 2) := by decide +kernel
theorem dX0_daysThatRan_99 : decode cX0_daysThatRan 99 = .ok (.iinc 6 1, 3) := by decide +kernel
theorem dX0_daysThatRan_102 : decode cX0_daysThatRan 102 = .ok (.goto (-93), 3) := by decide +kernel
theorem dX0_daysThatRan_105 : decode cX0_daysThatRan 105 = .ok (.iload 4, 2) := by decide +kernel
theorem dX0_daysThatRan_107 : decode cX0_daysThatRan 107 = .ok (.ireturn, 1) := by decide +kernel
theorem dX0_nextStop_0 : decode cX0_nextStop 0 = .ok (.bipush (-9), 2) := by decide +kernel
theorem dX0_nextStop_2 : decode cX0_nextStop 2 = .ok (.istore_n 3, 1) := by decide +kernel
theorem dX0_nextStop_3 : decode cX0_nextStop 3 = .ok (.iconst 0, 1) := by decide +kernel
theorem dX0_nextStop_4 : decode cX0_nextStop 4 = .ok (.istore 4, 2) := by decide +kernel
theorem dX0_nextStop_6 : decode cX0_nextStop 6 = .ok (.iload 4, 2) := by decide +kernel
theorem dX0_nextStop_8 : decode cX0_nextStop 8 = .ok (.aload_n 0, 1) := by decide +kernel
theorem dX0_nextStop_9 : decode cX0_nextStop 9 = .ok (.getfield 30, 3) := by decide +kernel
theorem dX0_nextStop_12 : decode cX0_nextStop 12 = .ok (.if_icmp .ge 59, 3) := by decide +kernel
theorem dX0_nextStop_15 : decode cX0_nextStop 15 = .ok (.aload_n 0, 1) := by decide +kernel
theorem dX0_nextStop_16 : decode cX0_nextStop 16 = .ok (.getfield 21, 3) := by decide +kernel
theorem dX0_nextStop_19 : decode cX0_nextStop 19 = .ok (.iload 4, 2) := by decide +kernel
theorem dX0_nextStop_21 : decode cX0_nextStop 21 = .ok (.iaload, 1) := by decide +kernel
theorem dX0_nextStop_22 : decode cX0_nextStop 22 = .ok (.iload_n 1, 1) := by decide +kernel
theorem dX0_nextStop_23 : decode cX0_nextStop 23 = .ok (.if_icmp .ne 42, 3) := by decide +kernel
theorem dX0_nextStop_26 : decode cX0_nextStop 26 = .ok (.aload_n 0, 1) := by decide +kernel
theorem dX0_nextStop_27 : decode cX0_nextStop 27 = .ok (.getfield 27, 3) := by decide +kernel
theorem dX0_nextStop_30 : decode cX0_nextStop 30 = .ok (.iload 4, 2) := by decide +kernel
theorem dX0_nextStop_32 : decode cX0_nextStop 32 = .ok (.iaload, 1) := by decide +kernel
theorem dX0_nextStop_33 : decode cX0_nextStop 33 = .ok (.iload_n 2, 1) := by decide +kernel
theorem dX0_nextStop_34 : decode cX0_nextStop 34 = .ok (.if_icmp .ge 6, 3) := by decide +kernel
theorem dX0_nextStop_37 : decode cX0_nextStop 37 = .ok (.goto 28, 3) := by decide +kernel
theorem dX0_nextStop_40 : decode cX0_nextStop 40 = .ok (.iload_n 3, 1) := by decide +kernel
theorem dX0_nextStop_41 : decode cX0_nextStop 41 = .ok (.bipush (-9), 2) := by decide +kernel
theorem dX0_nextStop_43 : decode cX0_nextStop 43 = .ok (.if_icmp .eq 19, 3) := by decide +kernel
theorem dX0_nextStop_46 : decode cX0_nextStop 46 = .ok (.aload_n 0, 1) := by decide +kernel
theorem dX0_nextStop_47 : decode cX0_nextStop 47 = .ok (.getfield 24, 3) := by decide +kernel
theorem dX0_nextStop_50 : decode cX0_nextStop 50 = .ok (.iload 4, 2) := by decide +kernel
theorem dX0_nextStop_52 : decode cX0_nextStop 52 = .ok (.iaload, 1) := by decide +kernel
theorem dX0_nextStop_53 : decode cX0_nextStop 53 = .ok (.aload_n 0, 1) := by decide +kernel
theorem dX0_nextStop_54 : decode cX0_nextStop 54 = .ok (.getfield 24, 3) := by decide +kernel
theorem dX0_nextStop_57 : decode cX0_nextStop 57 = .ok (.iload_n 3, 1) := by decide +kernel
theorem dX0_nextStop_58 : decode cX0_nextStop 58 = .ok (.iaload, 1) := by decide +kernel
theorem dX0_nextStop_59 : decode cX0_nextStop 59 = .ok (.if_icmp .ge 6, 3) := by decide +kernel
theorem dX0_nextStop_62 : decode cX0_nextStop 62 = .ok (.iload 4, 2) := by decide +kernel
theorem dX0_nextStop_64 : decode cX0_nextStop 64 = .ok (.istore_n 3, 1) := by decide +kernel
theorem dX0_nextStop_65 : decode cX0_nextStop 65 = .ok (.iinc 4 1, 3) := by decide +kernel
theorem dX0_nextStop_68 : decode cX0_nextStop 68 = .ok (.goto (-62), 3) := by decide +kernel
theorem dX0_nextStop_71 : decode cX0_nextStop 71 = .ok (.iload_n 3, 1) := by decide +kernel
theorem dX0_nextStop_72 : decode cX0_nextStop 72 = .ok (.ireturn, 1) := by decide +kernel
theorem dX1_init_0 : decode cX1_init 0 = .ok (.aload_n 0, 1) := by decide +kernel
theorem dX1_init_1 : decode cX1_init 1 = .ok (.invokespecial 3, 3) := by decide +kernel
theorem dX1_init_4 : decode cX1_init 4 = .ok (.aload_n 0, 1) := by decide +kernel
theorem dX1_init_5 : decode cX1_init 5 = .ok (.bipush 40, 2) := by decide +kernel
theorem dX1_init_7 : decode cX1_init 7 = .ok (.newarray .int, 2) := by decide +kernel
theorem dX1_init_9 : decode cX1_init 9 = .ok (.putfield 11, 3) := by decide +kernel
theorem dX1_init_12 : decode cX1_init 12 = .ok (.aload_n 0, 1) := by decide +kernel
theorem dX1_init_13 : decode cX1_init 13 = .ok (.bipush 40, 2) := by decide +kernel
theorem dX1_init_15 : decode cX1_init 15 = .ok (.newarray .int, 2) := by decide +kernel
theorem dX1_init_17 : decode cX1_init 17 = .ok (.putfield 15, 3) := by decide +kernel
theorem dX1_init_20 : decode cX1_init 20 = .ok (.aload_n 0, 1) := by decide +kernel
theorem dX1_init_21 : decode cX1_init 21 = .ok (.bipush 40, 2) := by decide +kernel
theorem dX1_init_23 : decode cX1_init 23 = .ok (.newarray .int, 2) := by decide +kernel
theorem dX1_init_25 : decode cX1_init 25 = .ok (.putfield 18, 3) := by decide +kernel
theorem dX1_init_28 : decode cX1_init 28 = .ok (.aload_n 0, 1) := by decide +kernel
theorem dX1_init_29 : decode cX1_init 29 = .ok (.bipush 40, 2) := by decide +kernel
theorem dX1_init_31 : decode cX1_init 31 = .ok (.newarray .int, 2) := by decide +kernel
theorem dX1_init_33 : decode cX1_init 33 = .ok (.putfield 21, 3) := by decide +kernel
theorem dX1_init_36 : decode cX1_init 36 = .ok (.aload_n 0, 1) := by decide +kernel
theorem dX1_init_37 : decode cX1_init 37 = .ok (.bipush 40, 2) := by decide +kernel
theorem dX1_init_39 : decode cX1_init 39 = .ok (.newarray .boolean, 2) := by decide +kernel
theorem dX1_init_41 : decode cX1_init 41 = .ok (.putfield 24, 3) := by decide +kernel
theorem dX1_init_44 : decode cX1_init 44 = .ok (.aload_n 0, 1) := by decide +kernel
theorem dX1_init_45 : decode cX1_init 45 = .ok (.bipush 40, 2) := by decide +kernel
theorem dX1_init_47 : decode cX1_init 47 = .ok (.newarray .int, 2) := by decide +kernel
theorem dX1_init_49 : decode cX1_init 49 = .ok (.putfield 28, 3) := by decide +kernel
theorem dX1_init_52 : decode cX1_init 52 = .ok (.aload_n 0, 1) := by decide +kernel
theorem dX1_init_53 : decode cX1_init 53 = .ok (.bipush 40, 2) := by decide +kernel
theorem dX1_init_55 : decode cX1_init 55 = .ok (.newarray .int, 2) := by decide +kernel
theorem dX1_init_57 : decode cX1_init 57 = .ok (.putfield 31, 3) := by decide +kernel
theorem dX1_init_60 : decode cX1_init 60 = .ok (.return_, 1) := by decide +kernel
theorem dX1_isFull_0 : decode cX1_isFull 0 = .ok (.aload_n 0, 1) := by decide +kernel
theorem dX1_isFull_1 : decode cX1_isFull 1 = .ok (.getfield 34, 3) := by decide +kernel
theorem dX1_isFull_4 : decode cX1_isFull 4 = .ok (.bipush 40, 2) := by decide +kernel
theorem dX1_isFull_6 : decode cX1_isFull 6 = .ok (.if_icmp .lt 7, 3) := by decide +kernel
theorem dX1_isFull_9 : decode cX1_isFull 9 = .ok (.iconst 1, 1) := by decide +kernel
theorem dX1_isFull_10 : decode cX1_isFull 10 = .ok (.goto 4, 3) := by decide +kernel
theorem dX1_isFull_13 : decode cX1_isFull 13 = .ok (.iconst 0, 1) := by decide +kernel
theorem dX1_isFull_14 : decode cX1_isFull 14 = .ok (.ireturn, 1) := by decide +kernel
theorem dX1_add_0 : decode cX1_add 0 = .ok (.aload_n 0, 1) := by decide +kernel
theorem dX1_add_1 : decode cX1_add 1 = .ok (.getfield 11, 3) := by decide +kernel
theorem dX1_add_4 : decode cX1_add 4 = .ok (.aload_n 0, 1) := by decide +kernel
theorem dX1_add_5 : decode cX1_add 5 = .ok (.getfield 34, 3) := by decide +kernel
theorem dX1_add_8 : decode cX1_add 8 = .ok (.iload_n 1, 1) := by decide +kernel
theorem dX1_add_9 : decode cX1_add 9 = .ok (.iastore, 1) := by decide +kernel
theorem dX1_add_10 : decode cX1_add 10 = .ok (.aload_n 0, 1) := by decide +kernel
theorem dX1_add_11 : decode cX1_add 11 = .ok (.getfield 15, 3) := by decide +kernel
theorem dX1_add_14 : decode cX1_add 14 = .ok (.aload_n 0, 1) := by decide +kernel
theorem dX1_add_15 : decode cX1_add 15 = .ok (.getfield 34, 3) := by decide +kernel
theorem dX1_add_18 : decode cX1_add 18 = .ok (.iload_n 2, 1) := by decide +kernel
theorem dX1_add_19 : decode cX1_add 19 = .ok (.iastore, 1) := by decide +kernel
theorem dX1_add_20 : decode cX1_add 20 = .ok (.aload_n 0, 1) := by decide +kernel
theorem dX1_add_21 : decode cX1_add 21 = .ok (.getfield 18, 3) := by decide +kernel
theorem dX1_add_24 : decode cX1_add 24 = .ok (.aload_n 0, 1) := by decide +kernel
theorem dX1_add_25 : decode cX1_add 25 = .ok (.getfield 34, 3) := by decide +kernel
theorem dX1_add_28 : decode cX1_add 28 = .ok (.iload_n 3, 1) := by decide +kernel
theorem dX1_add_29 : decode cX1_add 29 = .ok (.iastore, 1) := by decide +kernel
theorem dX1_add_30 : decode cX1_add 30 = .ok (.aload_n 0, 1) := by decide +kernel
theorem dX1_add_31 : decode cX1_add 31 = .ok (.getfield 21, 3) := by decide +kernel
theorem dX1_add_34 : decode cX1_add 34 = .ok (.aload_n 0, 1) := by decide +kernel
theorem dX1_add_35 : decode cX1_add 35 = .ok (.getfield 34, 3) := by decide +kernel
theorem dX1_add_38 : decode cX1_add 38 = .ok (.iload 4, 2) := by decide +kernel
theorem dX1_add_40 : decode cX1_add 40 = .ok (.iastore, 1) := by decide +kernel
theorem dX1_add_41 : decode cX1_add 41 = .ok (.aload_n 0, 1) := by decide +kernel
theorem dX1_add_42 : decode cX1_add 42 = .ok (.getfield 24, 3) := by decide +kernel
theorem dX1_add_45 : decode cX1_add 45 = .ok (.aload_n 0, 1) := by decide +kernel
theorem dX1_add_46 : decode cX1_add 46 = .ok (.getfield 34, 3) := by decide +kernel
theorem dX1_add_49 : decode cX1_add 49 = .ok (.iload 5, 2) := by decide +kernel
theorem dX1_add_51 : decode cX1_add 51 = .ok (.bastore, 1) := by decide +kernel
theorem dX1_add_52 : decode cX1_add 52 = .ok (.aload_n 0, 1) := by decide +kernel
theorem dX1_add_53 : decode cX1_add 53 = .ok (.getfield 28, 3) := by decide +kernel
theorem dX1_add_56 : decode cX1_add 56 = .ok (.aload_n 0, 1) := by decide +kernel
theorem dX1_add_57 : decode cX1_add 57 = .ok (.getfield 34, 3) := by decide +kernel
theorem dX1_add_60 : decode cX1_add 60 = .ok (.iload 6, 2) := by decide +kernel
theorem dX1_add_62 : decode cX1_add 62 = .ok (.iastore, 1) := by decide +kernel
theorem dX1_add_63 : decode cX1_add 63 = .ok (.aload_n 0, 1) := by decide +kernel
theorem dX1_add_64 : decode cX1_add 64 = .ok (.dup, 1) := by decide +kernel
theorem dX1_add_65 : decode cX1_add 65 = .ok (.getfield 34, 3) := by decide +kernel
theorem dX1_add_68 : decode cX1_add 68 = .ok (.iconst 1, 1) := by decide +kernel
theorem dX1_add_69 : decode cX1_add 69 = .ok (.iadd, 1) := by decide +kernel
theorem dX1_add_70 : decode cX1_add 70 = .ok (.putfield 34, 3) := by decide +kernel
theorem dX1_add_73 : decode cX1_add 73 = .ok (.aload_n 0, 1) := by decide +kernel
theorem dX1_add_74 : decode cX1_add 74 = .ok (.getfield 34, 3) := by decide +kernel
theorem dX1_add_77 : decode cX1_add 77 = .ok (.iconst 1, 1) := by decide +kernel
theorem dX1_add_78 : decode cX1_add 78 = .ok (.isub, 1) := by decide +kernel
theorem dX1_add_79 : decode cX1_add 79 = .ok (.ireturn, 1) := by decide +kernel
theorem dX1_measure_0 : decode cX1_measure 0 = .ok (.iconst 0, 1) := by decide +kernel
theorem dX1_measure_1 : decode cX1_measure 1 = .ok (.istore 5, 2) := by decide +kernel
theorem dX1_measure_3 : decode cX1_measure 3 = .ok (.iload 5, 2) := by decide +kernel
theorem dX1_measure_5 : decode cX1_measure 5 = .ok (.aload_n 0, 1) := by decide +kernel
theorem dX1_measure_6 : decode cX1_measure 6 = .ok (.getfield 34, 3) := by decide +kernel
theorem dX1_measure_9 : decode cX1_measure 9 = .ok (.if_icmp .ge 90, 3) := by decide +kernel
theorem dX1_measure_12 : decode cX1_measure 12 = .ok (.aload_n 0, 1) := by decide +kernel
theorem dX1_measure_13 : decode cX1_measure 13 = .ok (.getfield 11, 3) := by decide +kernel
theorem dX1_measure_16 : decode cX1_measure 16 = .ok (.iload 5, 2) := by decide +kernel
theorem dX1_measure_18 : decode cX1_measure 18 = .ok (.iaload, 1) := by decide +kernel
theorem dX1_measure_19 : decode cX1_measure 19 = .ok (.iload_n 1, 1) := by decide +kernel
theorem dX1_measure_20 : decode cX1_measure 20 = .ok (.if_icmp .ne 18, 3) := by decide +kernel
theorem dX1_measure_23 : decode cX1_measure 23 = .ok (.aload_n 0, 1) := by decide +kernel
theorem dX1_measure_24 : decode cX1_measure 24 = .ok (.getfield 15, 3) := by decide +kernel
theorem dX1_measure_27 : decode cX1_measure 27 = .ok (.iload 5, 2) := by decide +kernel
theorem dX1_measure_29 : decode cX1_measure 29 = .ok (.iaload, 1) := by decide +kernel
theorem dX1_measure_30 : decode cX1_measure 30 = .ok (.iload_n 2, 1) := by decide +kernel
theorem dX1_measure_31 : decode cX1_measure 31 = .ok (.if_icmp .ne 7, 3) := by decide +kernel
theorem dX1_measure_34 : decode cX1_measure 34 = .ok (.iconst 1, 1) := by decide +kernel
theorem dX1_measure_35 : decode cX1_measure 35 = .ok (.goto 4, 3) := by decide +kernel
theorem dX1_measure_38 : decode cX1_measure 38 = .ok (.iconst 0, 1) := by decide +kernel
theorem dX1_measure_39 : decode cX1_measure 39 = .ok (.istore 6, 2) := by decide +kernel
theorem dX1_measure_41 : decode cX1_measure 41 = .ok (.aload_n 0, 1) := by decide +kernel
theorem dX1_measure_42 : decode cX1_measure 42 = .ok (.getfield 18, 3) := by decide +kernel
theorem dX1_measure_45 : decode cX1_measure 45 = .ok (.iload 5, 2) := by decide +kernel
theorem dX1_measure_47 : decode cX1_measure 47 = .ok (.iaload, 1) := by decide +kernel
theorem dX1_measure_48 : decode cX1_measure 48 = .ok (.iload_n 3, 1) := by decide +kernel
theorem dX1_measure_49 : decode cX1_measure 49 = .ok (.isub, 1) := by decide +kernel
theorem dX1_measure_50 : decode cX1_measure 50 = .ok (.invokestatic 38, 3) := by decide +kernel
theorem dX1_measure_53 : decode cX1_measure 53 = .ok (.bipush 10, 2) := by decide +kernel
theorem dX1_measure_55 : decode cX1_measure 55 = .ok (.idiv, 1) := by decide +kernel
theorem dX1_measure_56 : decode cX1_measure 56 = .ok (.aload_n 0, 1) := by decide +kernel
theorem dX1_measure_57 : decode cX1_measure 57 = .ok (.getfield 21, 3) := by decide +kernel
theorem dX1_measure_60 : decode cX1_measure 60 = .ok (.iload 5, 2) := by decide +kernel
theorem dX1_measure_62 : decode cX1_measure 62 = .ok (.iaload, 1) := by decide +kernel
theorem dX1_measure_63 : decode cX1_measure 63 = .ok (.iload 4, 2) := by decide +kernel
theorem dX1_measure_65 : decode cX1_measure 65 = .ok (.isub, 1) := by decide +kernel
theorem dX1_measure_66 : decode cX1_measure 66 = .ok (.invokestatic 38, 3) := by decide +kernel
theorem dX1_measure_69 : decode cX1_measure 69 = .ok (.bipush 50, 2) := by decide +kernel
theorem dX1_measure_71 : decode cX1_measure 71 = .ok (.idiv, 1) := by decide +kernel
theorem dX1_measure_72 : decode cX1_measure 72 = .ok (.iadd, 1) := by decide +kernel
theorem dX1_measure_73 : decode cX1_measure 73 = .ok (.istore 7, 2) := by decide +kernel
theorem dX1_measure_75 : decode cX1_measure 75 = .ok (.aload_n 0, 1) := by decide +kernel
theorem dX1_measure_76 : decode cX1_measure 76 = .ok (.getfield 31, 3) := by decide +kernel
theorem dX1_measure_79 : decode cX1_measure 79 = .ok (.iload 5, 2) := by decide +kernel
theorem dX1_measure_81 : decode cX1_measure 81 = .ok (.iload 6, 2) := by decide +kernel
theorem dX1_measure_83 : decode cX1_measure 83 = .ok (.ifCond .eq 8, 3) := by decide +kernel
theorem dX1_measure_86 : decode cX1_measure 86 = .ok (.iload 7, 2) := by decide +kernel
theorem dX1_measure_88 : decode cX1_measure 88 = .ok (.goto 4, 3) := by decide +kernel
theorem dX1_measure_91 : decode cX1_measure 91 = .ok (.iconst (-1), 1) := by decide +kernel
theorem dX1_measure_92 : decode cX1_measure 92 = .ok (.iastore, 1) := by decide +kernel
theorem dX1_measure_93 : decode cX1_measure 93 = .ok (.iinc 5 1, 3) := by decide +kernel
theorem dX1_measure_96 : decode cX1_measure 96 = .ok (.goto (-93), 3) := by decide +kernel
theorem dX1_measure_99 : decode cX1_measure 99 = .ok (.return_, 1) := by decide +kernel
theorem dX1_choose_0 : decode cX1_choose 0 = .ok (.aload_n 0, 1) := by decide +kernel
theorem dX1_choose_1 : decode cX1_choose 1 = .ok (.iconst 0, 1) := by decide +kernel
theorem dX1_choose_2 : decode cX1_choose 2 = .ok (.putfield 44, 3) := by decide +kernel
theorem dX1_choose_5 : decode cX1_choose 5 = .ok (.aload_n 0, 1) := by decide +kernel
theorem dX1_choose_6 : decode cX1_choose 6 = .ok (.iconst 0, 1) := by decide +kernel
theorem dX1_choose_7 : decode cX1_choose 7 = .ok (.putfield 47, 3) := by decide +kernel
theorem dX1_choose_10 : decode cX1_choose 10 = .ok (.aload_n 0, 1) := by decide +kernel
theorem dX1_choose_11 : decode cX1_choose 11 = .ok (.iconst 0, 1) := by decide +kernel
theorem dX1_choose_12 : decode cX1_choose 12 = .ok (.putfield 50, 3) := by decide +kernel
theorem dX1_choose_15 : decode cX1_choose 15 = .ok (.iconst 0, 1) := by decide +kernel
theorem dX1_choose_16 : decode cX1_choose 16 = .ok (.istore_n 2, 1) := by decide +kernel
theorem dX1_choose_17 : decode cX1_choose 17 = .ok (.iload_n 2, 1) := by decide +kernel
theorem dX1_choose_18 : decode cX1_choose 18 = .ok (.iload_n 1, 1) := by decide +kernel
theorem dX1_choose_19 : decode cX1_choose 19 = .ok (.if_icmp .ge 72, 3) := by decide +kernel
theorem dX1_choose_22 : decode cX1_choose 22 = .ok (.aload_n 0, 1) := by decide +kernel
theorem dX1_choose_23 : decode cX1_choose 23 = .ok (.invokevirtual 53, 3) := by decide +kernel
theorem dX1_choose_26 : decode cX1_choose 26 = .ok (.istore_n 3, 1) := by decide +kernel
theorem dX1_choose_27 : decode cX1_choose 27 = .ok (.iload_n 3, 1) := by decide +kernel
theorem dX1_choose_28 : decode cX1_choose 28 = .ok (.bipush (-9), 2) := by decide +kernel
theorem dX1_choose_30 : decode cX1_choose 30 = .ok (.if_icmp .ne 4, 3) := by decide +kernel
theorem dX1_choose_33 : decode cX1_choose 33 = .ok (.return_, 1) := by decide +kernel
theorem dX1_choose_34 : decode cX1_choose 34 = .ok (.aload_n 0, 1) := by decide +kernel
theorem dX1_choose_35 : decode cX1_choose 35 = .ok (.dup, 1) := by decide +kernel
theorem dX1_choose_36 : decode cX1_choose 36 = .ok (.getfield 44, 3) := by decide +kernel
theorem dX1_choose_39 : decode cX1_choose 39 = .ok (.iconst 1, 1) := by decide +kernel
theorem dX1_choose_40 : decode cX1_choose 40 = .ok (.iadd, 1) := by decide +kernel
theorem dX1_choose_41 : decode cX1_choose 41 = .ok (.putfield 44, 3) := by decide +kernel
theorem dX1_choose_44 : decode cX1_choose 44 = .ok (.aload_n 0, 1) := by decide +kernel
theorem dX1_choose_45 : decode cX1_choose 45 = .ok (.getfield 24, 3) := by decide +kernel
theorem dX1_choose_48 : decode cX1_choose 48 = .ok (.iload_n 3, 1) := by decide +kernel
theorem dX1_choose_49 : decode cX1_choose 49 = .ok (.baload, 1) := by decide +kernel
theorem dX1_choose_50 : decode cX1_choose 50 = .ok (.ifCond .eq 13, 3) := by decide +kernel
theorem dX1_choose_53 : decode cX1_choose 53 = .ok (.aload_n 0, 1) := by decide +kernel
theorem dX1_choose_54 : decode cX1_choose 54 = .ok (.dup, 1) := by decide +kernel
theorem dX1_choose_55 : decode cX1_choose 55 = .ok (.getfield 47, 3) := by decide +kernel
theorem dX1_choose_58 : decode cX1_choose 58 = .ok (.iconst 1, 1) := by decide +kernel
theorem dX1_choose_59 : decode cX1_choose 59 = .ok (.iadd, 1) := by decide +kernel
theorem dX1_choose_60 : decode cX1_choose 60 = .ok (.putfield 47, 3) := by decide +kernel
theorem dX1_choose_63 : decode cX1_choose 63 = .ok (.aload_n 0, 1) := by decide +kernel
theorem dX1_choose_64 : decode cX1_choose 64 = .ok (.dup, 1) := by decide +kernel
theorem dX1_choose_65 : decode cX1_choose 65 = .ok (.getfield 50, 3) := by decide +kernel
theorem dX1_choose_68 : decode cX1_choose 68 = .ok (.aload_n 0, 1) := by decide +kernel
theorem dX1_choose_69 : decode cX1_choose 69 = .ok (.getfield 28, 3) := by decide +kernel
theorem dX1_choose_72 : decode cX1_choose 72 = .ok (.iload_n 3, 1) := by decide +kernel
theorem dX1_choose_73 : decode cX1_choose 73 = .ok (.iaload, 1) := by decide +kernel
theorem dX1_choose_74 : decode cX1_choose 74 = .ok (.iadd, 1) := by decide +kernel
theorem dX1_choose_75 : decode cX1_choose 75 = .ok (.putfield 50, 3) := by decide +kernel
theorem dX1_choose_78 : decode cX1_choose 78 = .ok (.aload_n 0, 1) := by decide +kernel
theorem dX1_choose_79 : decode cX1_choose 79 = .ok (.getfield 31, 3) := by decide +kernel
theorem dX1_choose_82 : decode cX1_choose 82 = .ok (.iload_n 3, 1) := by decide +kernel
theorem dX1_choose_83 : decode cX1_choose 83 = .ok (.iconst (-1), 1) := by decide +kernel
theorem dX1_choose_84 : decode cX1_choose 84 = .ok (.iastore, 1) := by decide +kernel
theorem dX1_choose_85 : decode cX1_choose 85 = .ok (.iinc 2 1, 3) := by decide +kernel
theorem dX1_choose_88 : decode cX1_choose 88 = .ok (.goto (-71), 3) := by decide +kernel
theorem dX1_choose_91 : decode cX1_choose 91 = .ok (.return_, 1) := by decide +kernel
theorem dX1_leastFar_0 : decode cX1_leastFar 0 = .ok (.bipush (-9), 2) := by decide +kernel
theorem dX1_leastFar_2 : decode cX1_leastFar 2 = .ok (.istore_n 1, 1) := by decide +kernel
theorem dX1_leastFar_3 : decode cX1_leastFar 3 = .ok (.iconst 0, 1) := by decide +kernel
theorem dX1_leastFar_4 : decode cX1_leastFar 4 = .ok (.istore_n 2, 1) := by decide +kernel
theorem dX1_leastFar_5 : decode cX1_leastFar 5 = .ok (.iload_n 2, 1) := by decide +kernel
theorem dX1_leastFar_6 : decode cX1_leastFar 6 = .ok (.aload_n 0, 1) := by decide +kernel
theorem dX1_leastFar_7 : decode cX1_leastFar 7 = .ok (.getfield 34, 3) := by decide +kernel
theorem dX1_leastFar_10 : decode cX1_leastFar 10 = .ok (.if_icmp .ge 45, 3) := by decide +kernel
theorem dX1_leastFar_13 : decode cX1_leastFar 13 = .ok (.aload_n 0, 1) := by decide +kernel
theorem dX1_leastFar_14 : decode cX1_leastFar 14 = .ok (.getfield 31, 3) := by decide +kernel
theorem dX1_leastFar_17 : decode cX1_leastFar 17 = .ok (.iload_n 2, 1) := by decide +kernel
theorem dX1_leastFar_18 : decode cX1_leastFar 18 = .ok (.iaload, 1) := by decide +kernel
theorem dX1_leastFar_19 : decode cX1_leastFar 19 = .ok (.iconst (-1), 1) := by decide +kernel
theorem dX1_leastFar_20 : decode cX1_leastFar 20 = .ok (.if_icmp .ne 6, 3) := by decide +kernel
theorem dX1_leastFar_23 : decode cX1_leastFar 23 = .ok (.goto 26, 3) := by decide +kernel
theorem dX1_leastFar_26 : decode cX1_leastFar 26 = .ok (.iload_n 1, 1) := by decide +kernel
theorem dX1_leastFar_27 : decode cX1_leastFar 27 = .ok (.bipush (-9), 2) := by decide +kernel
theorem dX1_leastFar_29 : decode cX1_leastFar 29 = .ok (.if_icmp .eq 18, 3) := by decide +kernel
theorem dX1_leastFar_32 : decode cX1_leastFar 32 = .ok (.aload_n 0, 1) := by decide +kernel
theorem dX1_leastFar_33 : decode cX1_leastFar 33 = .ok (.getfield 31, 3) := by decide +kernel
theorem dX1_leastFar_36 : decode cX1_leastFar 36 = .ok (.iload_n 2, 1) := by decide +kernel
theorem dX1_leastFar_37 : decode cX1_leastFar 37 = .ok (.iaload, 1) := by decide +kernel
theorem dX1_leastFar_38 : decode cX1_leastFar 38 = .ok (.aload_n 0, 1) := by decide +kernel
theorem dX1_leastFar_39 : decode cX1_leastFar 39 = .ok (.getfield 31, 3) := by decide +kernel
theorem dX1_leastFar_42 : decode cX1_leastFar 42 = .ok (.iload_n 1, 1) := by decide +kernel
theorem dX1_leastFar_43 : decode cX1_leastFar 43 = .ok (.iaload, 1) := by decide +kernel
theorem dX1_leastFar_44 : decode cX1_leastFar 44 = .ok (.if_icmp .ge 5, 3) := by decide +kernel
theorem dX1_leastFar_47 : decode cX1_leastFar 47 = .ok (.iload_n 2, 1) := by decide +kernel
theorem dX1_leastFar_48 : decode cX1_leastFar 48 = .ok (.istore_n 1, 1) := by decide +kernel
theorem dX1_leastFar_49 : decode cX1_leastFar 49 = .ok (.iinc 2 1, 3) := by decide +kernel
theorem dX1_leastFar_52 : decode cX1_leastFar 52 = .ok (.goto (-47), 3) := by decide +kernel
theorem dX1_leastFar_55 : decode cX1_leastFar 55 = .ok (.iload_n 1, 1) := by decide +kernel
theorem dX1_leastFar_56 : decode cX1_leastFar 56 = .ok (.ireturn, 1) := by decide +kernel
theorem dX1_goingOnTimesChosen_0 : decode cX1_goingOnTimesChosen 0 = .ok (.iload_n 1, 1) := by decide +kernel
theorem dX1_goingOnTimesChosen_1 : decode cX1_goingOnTimesChosen 1 = .ok (.aload_n 0, 1) := by decide +kernel
theorem dX1_goingOnTimesChosen_2 : decode cX1_goingOnTimesChosen 2 = .ok (.getfield 47, 3) := by decide +kernel
theorem dX1_goingOnTimesChosen_5 : decode cX1_goingOnTimesChosen 5 = .ok (.imul, 1) := by decide +kernel
theorem dX1_goingOnTimesChosen_6 : decode cX1_goingOnTimesChosen 6 = .ok (.aload_n 0, 1) := by decide +kernel
theorem dX1_goingOnTimesChosen_7 : decode cX1_goingOnTimesChosen 7 = .ok (.getfield 50, 3) := by decide +kernel
theorem dX1_goingOnTimesChosen_10 : decode cX1_goingOnTimesChosen 10 = .ok (.isub, 1) := by decide +kernel
theorem dX1_goingOnTimesChosen_11 : decode cX1_goingOnTimesChosen 11 = .ok (.ireturn, 1) := by decide +kernel
theorem dX2_init_0 : decode cX2_init 0 = .ok (.aload_n 0, 1) := by decide +kernel
theorem dX2_init_1 : decode cX2_init 1 = .ok (.invokespecial 3, 3) := by decide +kernel
theorem dX2_init_4 : decode cX2_init 4 = .ok (.aload_n 0, 1) := by decide +kernel
theorem dX2_init_5 : decode cX2_init 5 = .ok (.aload_n 1, 1) := by decide +kernel
theorem dX2_init_6 : decode cX2_init 6 = .ok (.putfield 9, 3) := by decide +kernel
theorem dX2_init_9 : decode cX2_init 9 = .ok (.aload_n 0, 1) := by decide +kernel
theorem dX2_init_10 : decode cX2_init 10 = .ok (.iload_n 2, 1) := by decide +kernel
theorem dX2_init_11 : decode cX2_init 11 = .ok (.putfield 15, 3) := by decide +kernel
theorem dX2_init_14 : decode cX2_init 14 = .ok (.aload_n 0, 1) := by decide +kernel
theorem dX2_init_15 : decode cX2_init 15 = .ok (.iconst 5, 1) := by decide +kernel
theorem dX2_init_16 : decode cX2_init 16 = .ok (.newarray .int, 2) := by decide +kernel
theorem dX2_init_18 : decode cX2_init 18 = .ok (.putfield 19, 3) := by decide +kernel
theorem dX2_init_21 : decode cX2_init 21 = .ok (.return_, 1) := by decide +kernel
theorem dX2_partOf_0 : decode cX2_partOf 0 = .ok (.iload_n 2, 1) := by decide +kernel
theorem dX2_partOf_1 : decode cX2_partOf 1 = .ok (.istore_n 3, 1) := by decide +kernel
theorem dX2_partOf_2 : decode cX2_partOf 2 = .ok (.iconst 0, 1) := by decide +kernel
theorem dX2_partOf_3 : decode cX2_partOf 3 = .ok (.istore 4, 2) := by decide +kernel
theorem dX2_partOf_5 : decode cX2_partOf 5 = .ok (.iconst 0, 1) := by decide +kernel
theorem dX2_partOf_6 : decode cX2_partOf 6 = .ok (.istore 5, 2) := by decide +kernel
theorem dX2_partOf_8 : decode cX2_partOf 8 = .ok (.iload 5, 2) := by decide +kernel
theorem dX2_partOf_10 : decode cX2_partOf 10 = .ok (.iconst 5, 1) := by decide +kernel
theorem dX2_partOf_11 : decode cX2_partOf 11 = .ok (.if_icmp .ge 36, 3) := by decide +kernel
theorem dX2_partOf_14 : decode cX2_partOf 14 = .ok (.iload 5, 2) := by decide +kernel
theorem dX2_partOf_16 : decode cX2_partOf 16 = .ok (.iload_n 1, 1) := by decide +kernel
theorem dX2_partOf_17 : decode cX2_partOf 17 = .ok (.if_icmp .gt 30, 3) := by decide +kernel
theorem dX2_partOf_20 : decode cX2_partOf 20 = .ok (.aload_n 0, 1) := by decide +kernel
theorem dX2_partOf_21 : decode cX2_partOf 21 = .ok (.getfield 9, 3) := by decide +kernel
theorem dX2_partOf_24 : decode cX2_partOf 24 = .ok (.getfield 23, 3) := by decide +kernel
theorem dX2_partOf_27 : decode cX2_partOf 27 = .ok (.iload 5, 2) := by decide +kernel
theorem dX2_partOf_29 : decode cX2_partOf 29 = .ok (.iaload, 1) := by decide +kernel
theorem dX2_partOf_30 : decode cX2_partOf 30 = .ok (.iload_n 3, 1) := by decide +kernel
theorem dX2_partOf_31 : decode cX2_partOf 31 = .ok (.invokestatic 28, 3) := by decide +kernel
theorem dX2_partOf_34 : decode cX2_partOf 34 = .ok (.istore 4, 2) := by decide +kernel
theorem dX2_partOf_36 : decode cX2_partOf 36 = .ok (.iload_n 3, 1) := by decide +kernel
theorem dX2_partOf_37 : decode cX2_partOf 37 = .ok (.iload 4, 2) := by decide +kernel
theorem dX2_partOf_39 : decode cX2_partOf 39 = .ok (.isub, 1) := by decide +kernel
theorem dX2_partOf_40 : decode cX2_partOf 40 = .ok (.istore_n 3, 1) := by decide +kernel
theorem dX2_partOf_41 : decode cX2_partOf 41 = .ok (.iinc 5 1, 3) := by decide +kernel
theorem dX2_partOf_44 : decode cX2_partOf 44 = .ok (.goto (-36), 3) := by decide +kernel
theorem dX2_partOf_47 : decode cX2_partOf 47 = .ok (.iload 4, 2) := by decide +kernel
theorem dX2_partOf_49 : decode cX2_partOf 49 = .ok (.ireturn, 1) := by decide +kernel
theorem dX3_init_0 : decode cX3_init 0 = .ok (.aload_n 0, 1) := by decide +kernel
theorem dX3_init_1 : decode cX3_init 1 = .ok (.invokespecial 3, 3) := by decide +kernel
theorem dX3_init_4 : decode cX3_init 4 = .ok (.aload_n 0, 1) := by decide +kernel
theorem dX3_init_5 : decode cX3_init 5 = .ok (.bipush 30, 2) := by decide +kernel
theorem dX3_init_7 : decode cX3_init 7 = .ok (.anewarray 11, 3) := by decide +kernel
theorem dX3_init_10 : decode cX3_init 10 = .ok (.putfield 13, 3) := by decide +kernel
theorem dX3_init_13 : decode cX3_init 13 = .ok (.aload_n 0, 1) := by decide +kernel
theorem dX3_init_14 : decode cX3_init 14 = .ok (.iconst 5, 1) := by decide +kernel
theorem dX3_init_15 : decode cX3_init 15 = .ok (.newarray .int, 2) := by decide +kernel
theorem dX3_init_17 : decode cX3_init 17 = .ok (.putfield 17, 3) := by decide +kernel
theorem dX3_init_20 : decode cX3_init 20 = .ok (.aload_n 0, 1) := by decide +kernel
theorem dX3_init_21 : decode cX3_init 21 = .ok (.bipush 32, 2) := by decide +kernel
theorem dX3_init_23 : decode cX3_init 23 = .ok (.newarray .int, 2) := by decide +kernel
theorem dX3_init_25 : decode cX3_init 25 = .ok (.putfield 21, 3) := by decide +kernel
theorem dX3_init_28 : decode cX3_init 28 = .ok (.return_, 1) := by decide +kernel
theorem dX3_isFull_0 : decode cX3_isFull 0 = .ok (.aload_n 0, 1) := by decide +kernel
theorem dX3_isFull_1 : decode cX3_isFull 1 = .ok (.getfield 24, 3) := by decide +kernel
theorem dX3_isFull_4 : decode cX3_isFull 4 = .ok (.bipush 30, 2) := by decide +kernel
theorem dX3_isFull_6 : decode cX3_isFull 6 = .ok (.if_icmp .lt 7, 3) := by decide +kernel
theorem dX3_isFull_9 : decode cX3_isFull 9 = .ok (.iconst 1, 1) := by decide +kernel
theorem dX3_isFull_10 : decode cX3_isFull 10 = .ok (.goto 4, 3) := by decide +kernel
theorem dX3_isFull_13 : decode cX3_isFull 13 = .ok (.iconst 0, 1) := by decide +kernel
theorem dX3_isFull_14 : decode cX3_isFull 14 = .ok (.ireturn, 1) := by decide +kernel
theorem dX3_find_0 : decode cX3_find 0 = .ok (.aload_n 0, 1) := by decide +kernel
theorem dX3_find_1 : decode cX3_find 1 = .ok (.getfield 24, 3) := by decide +kernel
theorem dX3_find_4 : decode cX3_find 4 = .ok (.iload_n 1, 1) := by decide +kernel
theorem dX3_find_5 : decode cX3_find 5 = .ok (.invokestatic 28, 3) := by decide +kernel
theorem dX3_find_8 : decode cX3_find 8 = .ok (.ifCond .eq 12, 3) := by decide +kernel
theorem dX3_find_11 : decode cX3_find 11 = .ok (.aload_n 0, 1) := by decide +kernel
theorem dX3_find_12 : decode cX3_find 12 = .ok (.getfield 13, 3) := by decide +kernel
theorem dX3_find_15 : decode cX3_find 15 = .ok (.iload_n 1, 1) := by decide +kernel
theorem dX3_find_16 : decode cX3_find 16 = .ok (.aaload, 1) := by decide +kernel
theorem dX3_find_17 : decode cX3_find 17 = .ok (.goto 4, 3) := by decide +kernel
theorem dX3_find_20 : decode cX3_find 20 = .ok (.aconst_null, 1) := by decide +kernel
theorem dX3_find_21 : decode cX3_find 21 = .ok (.areturn, 1) := by decide +kernel
theorem dX3_add_0 : decode cX3_add 0 = .ok (.aload_n 0, 1) := by decide +kernel
theorem dX3_add_1 : decode cX3_add 1 = .ok (.getfield 13, 3) := by decide +kernel
theorem dX3_add_4 : decode cX3_add 4 = .ok (.aload_n 0, 1) := by decide +kernel
theorem dX3_add_5 : decode cX3_add 5 = .ok (.getfield 24, 3) := by decide +kernel
theorem dX3_add_8 : decode cX3_add 8 = .ok (.new 11, 3) := by decide +kernel
theorem dX3_add_11 : decode cX3_add 11 = .ok (.dup, 1) := by decide +kernel
theorem dX3_add_12 : decode cX3_add 12 = .ok (.aload_n 1, 1) := by decide +kernel
theorem dX3_add_13 : decode cX3_add 13 = .ok (.iload_n 2, 1) := by decide +kernel
theorem dX3_add_14 : decode cX3_add 14 = .ok (.invokespecial 32, 3) := by decide +kernel
theorem dX3_add_17 : decode cX3_add 17 = .ok (.aastore, 1) := by decide +kernel
theorem dX3_add_18 : decode cX3_add 18 = .ok (.aload_n 1, 1) := by decide +kernel
theorem dX3_add_19 : decode cX3_add 19 = .ok (.iconst 1, 1) := by decide +kernel
theorem dX3_add_20 : decode cX3_add 20 = .ok (.putfield 35, 3) := by decide +kernel
theorem dX3_add_23 : decode cX3_add 23 = .ok (.aload_n 0, 1) := by decide +kernel
theorem dX3_add_24 : decode cX3_add 24 = .ok (.dup, 1) := by decide +kernel
theorem dX3_add_25 : decode cX3_add 25 = .ok (.getfield 24, 3) := by decide +kernel
theorem dX3_add_28 : decode cX3_add 28 = .ok (.iconst 1, 1) := by decide +kernel
theorem dX3_add_29 : decode cX3_add 29 = .ok (.iadd, 1) := by decide +kernel
theorem dX3_add_30 : decode cX3_add 30 = .ok (.putfield 24, 3) := by decide +kernel
theorem dX3_add_33 : decode cX3_add 33 = .ok (.aload_n 0, 1) := by decide +kernel
theorem dX3_add_34 : decode cX3_add 34 = .ok (.getfield 24, 3) := by decide +kernel
theorem dX3_add_37 : decode cX3_add 37 = .ok (.iconst 1, 1) := by decide +kernel
theorem dX3_add_38 : decode cX3_add 38 = .ok (.isub, 1) := by decide +kernel
theorem dX3_add_39 : decode cX3_add 39 = .ok (.ireturn, 1) := by decide +kernel
theorem dX3_addToBalances_0 : decode cX3_addToBalances 0 = .ok (.iconst 0, 1) := by decide +kernel
theorem dX3_addToBalances_1 : decode cX3_addToBalances 1 = .ok (.istore_n 3, 1) := by decide +kernel
theorem dX3_addToBalances_2 : decode cX3_addToBalances 2 = .ok (.iload_n 3, 1) := by decide +kernel
theorem dX3_addToBalances_3 : decode cX3_addToBalances 3 = .ok (.iconst 5, 1) := by decide +kernel
theorem dX3_addToBalances_4 : decode cX3_addToBalances 4 = .ok (.if_icmp .ge 31, 3) := by decide +kernel
theorem dX3_addToBalances_7 : decode cX3_addToBalances 7 = .ok (.aload_n 0, 1) := by decide +kernel
theorem dX3_addToBalances_8 : decode cX3_addToBalances 8 = .ok (.getfield 17, 3) := by decide +kernel
theorem dX3_addToBalances_11 : decode cX3_addToBalances 11 = .ok (.iload_n 3, 1) := by decide +kernel
theorem dX3_addToBalances_12 : decode cX3_addToBalances 12 = .ok (.dup2, 1) := by decide +kernel
theorem dX3_addToBalances_13 : decode cX3_addToBalances 13 = .ok (.iaload, 1) := by decide +kernel
theorem dX3_addToBalances_14 : decode cX3_addToBalances 14 = .ok (.aload_n 1, 1) := by decide +kernel
theorem dX3_addToBalances_15 : decode cX3_addToBalances 15 = .ok (.getfield 41, 3) := by decide +kernel
theorem dX3_addToBalances_18 : decode cX3_addToBalances 18 = .ok (.iload_n 3, 1) := by decide +kernel
theorem dX3_addToBalances_19 : decode cX3_addToBalances 19 = .ok (.iaload, 1) := by decide +kernel
theorem dX3_addToBalances_20 : decode cX3_addToBalances 20 = .ok (.aload_n 1, 1) := by decide +kernel
theorem dX3_addToBalances_21 : decode cX3_addToBalances 21 = .ok (.iload_n 3, 1) := by decide +kernel
theorem dX3_addToBalances_22 : decode cX3_addToBalances 22 = .ok (.iload_n 2, 1) := by decide +kernel
theorem dX3_addToBalances_23 : decode cX3_addToBalances 23 = .ok (.invokevirtual 44, 3) := by decide +kernel
theorem dX3_addToBalances_26 : decode cX3_addToBalances 26 = .ok (.isub, 1) := by decide +kernel
theorem dX3_addToBalances_27 : decode cX3_addToBalances 27 = .ok (.iadd, 1) := by decide +kernel
theorem dX3_addToBalances_28 : decode cX3_addToBalances 28 = .ok (.iastore, 1) := by decide +kernel
theorem dX3_addToBalances_29 : decode cX3_addToBalances 29 = .ok (.iinc 3 1, 3) := by decide +kernel
theorem dX3_addToBalances_32 : decode cX3_addToBalances 32 = .ok (.goto (-30), 3) := by decide +kernel
theorem dX3_addToBalances_35 : decode cX3_addToBalances 35 = .ok (.return_, 1) := by decide +kernel
theorem dX3_fewestPayments_0 : decode cX3_fewestPayments 0 = .ok (.bipush 31, 2) := by decide +kernel
theorem dX3_fewestPayments_2 : decode cX3_fewestPayments 2 = .ok (.istore_n 1, 1) := by decide +kernel
theorem dX3_fewestPayments_3 : decode cX3_fewestPayments 3 = .ok (.aload_n 0, 1) := by decide +kernel
theorem dX3_fewestPayments_4 : decode cX3_fewestPayments 4 = .ok (.iload_n 1, 1) := by decide +kernel
theorem dX3_fewestPayments_5 : decode cX3_fewestPayments 5 = .ok (.invokevirtual 48, 3) := by decide +kernel
theorem dX3_fewestPayments_8 : decode cX3_fewestPayments 8 = .ok (.ifCond .eq 6, 3) := by decide +kernel
theorem dX3_fewestPayments_11 : decode cX3_fewestPayments 11 = .ok (.bipush (-9), 2) := by decide +kernel
theorem dX3_fewestPayments_13 : decode cX3_fewestPayments 13 = .ok (.ireturn, 1) := by decide +kernel
theorem dX3_fewestPayments_14 : decode cX3_fewestPayments 14 = .ok (.iconst 1, 1) := by decide +kernel
theorem dX3_fewestPayments_15 : decode cX3_fewestPayments 15 = .ok (.istore_n 2, 1) := by decide +kernel
theorem dX3_fewestPayments_16 : decode cX3_fewestPayments 16 = .ok (.iload_n 2, 1) := by decide +kernel
theorem dX3_fewestPayments_17 : decode cX3_fewestPayments 17 = .ok (.bipush 32, 2) := by decide +kernel
theorem dX3_fewestPayments_19 : decode cX3_fewestPayments 19 = .ok (.if_icmp .ge 75, 3) := by decide +kernel
theorem dX3_fewestPayments_22 : decode cX3_fewestPayments 22 = .ok (.iconst 0, 1) := by decide +kernel
theorem dX3_fewestPayments_23 : decode cX3_fewestPayments 23 = .ok (.istore_n 3, 1) := by decide +kernel
theorem dX3_fewestPayments_24 : decode cX3_fewestPayments 24 = .ok (.iconst 0, 1) := by decide +kernel
theorem dX3_fewestPayments_25 : decode cX3_fewestPayments 25 = .ok (.istore 4, 2) := by decide +kernel
theorem dX3_fewestPayments_27 : decode cX3_fewestPayments 27 = .ok (.iload 4, 2) := by decide +kernel
theorem dX3_fewestPayments_29 : decode cX3_fewestPayments 29 = .ok (.iconst 5, 1) := by decide +kernel
theorem dX3_fewestPayments_30 : decode cX3_fewestPayments 30 = .ok (.if_icmp .ge 37, 3) := by decide +kernel
theorem dX3_fewestPayments_33 : decode cX3_fewestPayments 33 = .ok (.iload_n 2, 1) := by decide +kernel
theorem dX3_fewestPayments_34 : decode cX3_fewestPayments 34 = .ok (.iconst 1, 1) := by decide +kernel
theorem dX3_fewestPayments_35 : decode cX3_fewestPayments 35 = .ok (.iload 4, 2) := by decide +kernel
theorem dX3_fewestPayments_37 : decode cX3_fewestPayments 37 = .ok (.ishl, 1) := by decide +kernel
theorem dX3_fewestPayments_38 : decode cX3_fewestPayments 38 = .ok (.iconst (-1), 1) := by decide +kernel
theorem dX3_fewestPayments_39 : decode cX3_fewestPayments 39 = .ok (.ixor, 1) := by decide +kernel
theorem dX3_fewestPayments_40 : decode cX3_fewestPayments 40 = .ok (.iand, 1) := by decide +kernel
theorem dX3_fewestPayments_41 : decode cX3_fewestPayments 41 = .ok (.istore 5, 2) := by decide +kernel
theorem dX3_fewestPayments_43 : decode cX3_fewestPayments 43 = .ok (.iload 5, 2) := by decide +kernel
theorem dX3_fewestPayments_45 : decode cX3_fewestPayments 45 = .ok (.iload_n 2, 1) := by decide +kernel
theorem dX3_fewestPayments_46 : decode cX3_fewestPayments 46 = .ok (.if_icmp .eq 15, 3) := by decide +kernel
theorem dX3_fewestPayments_49 : decode cX3_fewestPayments 49 = .ok (.iload_n 3, 1) := by decide +kernel
theorem dX3_fewestPayments_50 : decode cX3_fewestPayments 50 = .ok (.aload_n 0, 1) := by decide +kernel
theorem dX3_fewestPayments_51 : decode cX3_fewestPayments 51 = .ok (.getfield 21, 3) := by decide +kernel
theorem dX3_fewestPayments_54 : decode cX3_fewestPayments 54 = .ok (.iload 5, 2) := by decide +kernel
theorem dX3_fewestPayments_56 : decode cX3_fewestPayments 56 = .ok (.iaload, 1) := by decide +kernel
theorem dX3_fewestPayments_57 : decode cX3_fewestPayments 57 = .ok (.invokestatic 52, 3) := by decide +kernel
theorem dX3_fewestPayments_60 : decode cX3_fewestPayments 60 = .ok (.istore_n 3, 1) := by decide +kernel
theorem dX3_fewestPayments_61 : decode cX3_fewestPayments 61 = .ok (.iinc 4 1, 3) := by decide +kernel
theorem dX3_fewestPayments_64 : decode cX3_fewestPayments 64 = .ok (.goto (-37), 3) := by decide +kernel
theorem dX3_fewestPayments_67 : decode cX3_fewestPayments 67 = .ok (.aload_n 0, 1) := by decide +kernel
theorem dX3_fewestPayments_68 : decode cX3_fewestPayments 68 = .ok (.getfield 21, 3) := by decide +kernel
theorem dX3_fewestPayments_71 : decode cX3_fewestPayments 71 = .ok (.iload_n 2, 1) := by decide +kernel
theorem dX3_fewestPayments_72 : decode cX3_fewestPayments 72 = .ok (.aload_n 0, 1) := by decide +kernel
theorem dX3_fewestPayments_73 : decode cX3_fewestPayments 73 = .ok (.iload_n 2, 1) := by decide +kernel
theorem dX3_fewestPayments_74 : decode cX3_fewestPayments 74 = .ok (.invokevirtual 48, 3) := by decide +kernel
theorem dX3_fewestPayments_77 : decode cX3_fewestPayments 77 = .ok (.ifCond .ne 9, 3) := by decide +kernel
theorem dX3_fewestPayments_80 : decode cX3_fewestPayments 80 = .ok (.iload_n 3, 1) := by decide +kernel
theorem dX3_fewestPayments_81 : decode cX3_fewestPayments 81 = .ok (.iconst 1, 1) := by decide +kernel
theorem dX3_fewestPayments_82 : decode cX3_fewestPayments 82 = .ok (.iadd, 1) := by decide +kernel
theorem dX3_fewestPayments_83 : decode cX3_fewestPayments 83 = .ok (.goto 4, 3) := by decide +kernel
theorem dX3_fewestPayments_86 : decode cX3_fewestPayments 86 = .ok (.iload_n 3, 1) := by decide +kernel
theorem dX3_fewestPayments_87 : decode cX3_fewestPayments 87 = .ok (.iastore, 1) := by decide +kernel
theorem dX3_fewestPayments_88 : decode cX3_fewestPayments 88 = .ok (.iinc 2 1, 3) := by decide +kernel
theorem dX3_fewestPayments_91 : decode cX3_fewestPayments 91 = .ok (.goto (-75), 3) := by decide +kernel
theorem dX3_fewestPayments_94 : decode cX3_fewestPayments 94 = .ok (.iconst 5, 1) := by decide +kernel
theorem dX3_fewestPayments_95 : decode cX3_fewestPayments 95 = .ok (.aload_n 0, 1) := by decide +kernel
theorem dX3_fewestPayments_96 : decode cX3_fewestPayments 96 = .ok (.getfield 21, 3) := by decide +kernel
theorem dX3_fewestPayments_99 : decode cX3_fewestPayments 99 = .ok (.iload_n 1, 1) := by decide +kernel
theorem dX3_fewestPayments_100 : decode cX3_fewestPayments 100 = .ok (.iaload, 1) := by decide +kernel
theorem dX3_fewestPayments_101 : decode cX3_fewestPayments 101 = .ok (.isub, 1) := by decide +kernel
theorem dX3_fewestPayments_102 : decode cX3_fewestPayments 102 = .ok (.ireturn, 1) := by decide +kernel
theorem dX3_togetherIn_0 : decode cX3_togetherIn 0 = .ok (.iconst 0, 1) := by decide +kernel
theorem dX3_togetherIn_1 : decode cX3_togetherIn 1 = .ok (.istore_n 2, 1) := by decide +kernel
theorem dX3_togetherIn_2 : decode cX3_togetherIn 2 = .ok (.iconst 0, 1) := by decide +kernel
theorem dX3_togetherIn_3 : decode cX3_togetherIn 3 = .ok (.istore_n 3, 1) := by decide +kernel
theorem dX3_togetherIn_4 : decode cX3_togetherIn 4 = .ok (.iload_n 3, 1) := by decide +kernel
theorem dX3_togetherIn_5 : decode cX3_togetherIn 5 = .ok (.iconst 5, 1) := by decide +kernel
theorem dX3_togetherIn_6 : decode cX3_togetherIn 6 = .ok (.if_icmp .ge 26, 3) := by decide +kernel
theorem dX3_togetherIn_9 : decode cX3_togetherIn 9 = .ok (.iload_n 1, 1) := by decide +kernel
theorem dX3_togetherIn_10 : decode cX3_togetherIn 10 = .ok (.iconst 1, 1) := by decide +kernel
theorem dX3_togetherIn_11 : decode cX3_togetherIn 11 = .ok (.iload_n 3, 1) := by decide +kernel
theorem dX3_togetherIn_12 : decode cX3_togetherIn 12 = .ok (.ishl, 1) := by decide +kernel
theorem dX3_togetherIn_13 : decode cX3_togetherIn 13 = .ok (.iand, 1) := by decide +kernel
theorem dX3_togetherIn_14 : decode cX3_togetherIn 14 = .ok (.ifCond .eq 12, 3) := by decide +kernel
theorem dX3_togetherIn_17 : decode cX3_togetherIn 17 = .ok (.iload_n 2, 1) := by decide +kernel
theorem dX3_togetherIn_18 : decode cX3_togetherIn 18 = .ok (.aload_n 0, 1) := by decide +kernel
theorem dX3_togetherIn_19 : decode cX3_togetherIn 19 = .ok (.getfield 17, 3) := by decide +kernel
theorem dX3_togetherIn_22 : decode cX3_togetherIn 22 = .ok (.iload_n 3, 1) := by decide +kernel
theorem dX3_togetherIn_23 : decode cX3_togetherIn 23 = .ok (.iaload, 1) := by decide +kernel
theorem dX3_togetherIn_24 : decode cX3_togetherIn 24 = .ok (.iadd, 1) := by decide +kernel
theorem dX3_togetherIn_25 : decode cX3_togetherIn 25 = .ok (.istore_n 2, 1) := by decide +kernel
theorem dX3_togetherIn_26 : decode cX3_togetherIn 26 = .ok (.iinc 3 1, 3) := by decide +kernel
theorem dX3_togetherIn_29 : decode cX3_togetherIn 29 = .ok (.goto (-25), 3) := by decide +kernel
theorem dX3_togetherIn_32 : decode cX3_togetherIn 32 = .ok (.iload_n 2, 1) := by decide +kernel
theorem dX3_togetherIn_33 : decode cX3_togetherIn 33 = .ok (.ireturn, 1) := by decide +kernel
theorem dX4_init_0 : decode cX4_init 0 = .ok (.aload_n 0, 1) := by decide +kernel
theorem dX4_init_1 : decode cX4_init 1 = .ok (.invokespecial 3, 3) := by decide +kernel
theorem dX4_init_4 : decode cX4_init 4 = .ok (.aload_n 0, 1) := by decide +kernel
theorem dX4_init_5 : decode cX4_init 5 = .ok (.bipush 30, 2) := by decide +kernel
theorem dX4_init_7 : decode cX4_init 7 = .ok (.newarray .int, 2) := by decide +kernel
theorem dX4_init_9 : decode cX4_init 9 = .ok (.putfield 11, 3) := by decide +kernel
theorem dX4_init_12 : decode cX4_init 12 = .ok (.aload_n 0, 1) := by decide +kernel
theorem dX4_init_13 : decode cX4_init 13 = .ok (.bipush 30, 2) := by decide +kernel
theorem dX4_init_15 : decode cX4_init 15 = .ok (.newarray .int, 2) := by decide +kernel
theorem dX4_init_17 : decode cX4_init 17 = .ok (.putfield 15, 3) := by decide +kernel
theorem dX4_init_20 : decode cX4_init 20 = .ok (.aload_n 0, 1) := by decide +kernel
theorem dX4_init_21 : decode cX4_init 21 = .ok (.bipush 30, 2) := by decide +kernel
theorem dX4_init_23 : decode cX4_init 23 = .ok (.newarray .int, 2) := by decide +kernel
theorem dX4_init_25 : decode cX4_init 25 = .ok (.putfield 18, 3) := by decide +kernel
theorem dX4_init_28 : decode cX4_init 28 = .ok (.aload_n 0, 1) := by decide +kernel
theorem dX4_init_29 : decode cX4_init 29 = .ok (.bipush 30, 2) := by decide +kernel
theorem dX4_init_31 : decode cX4_init 31 = .ok (.newarray .int, 2) := by decide +kernel
theorem dX4_init_33 : decode cX4_init 33 = .ok (.putfield 21, 3) := by decide +kernel
theorem dX4_init_36 : decode cX4_init 36 = .ok (.aload_n 0, 1) := by decide +kernel
theorem dX4_init_37 : decode cX4_init 37 = .ok (.bipush 30, 2) := by decide +kernel
theorem dX4_init_39 : decode cX4_init 39 = .ok (.newarray .int, 2) := by decide +kernel
theorem dX4_init_41 : decode cX4_init 41 = .ok (.putfield 24, 3) := by decide +kernel
theorem dX4_init_44 : decode cX4_init 44 = .ok (.aload_n 0, 1) := by decide +kernel
theorem dX4_init_45 : decode cX4_init 45 = .ok (.bipush 40, 2) := by decide +kernel
theorem dX4_init_47 : decode cX4_init 47 = .ok (.newarray .int, 2) := by decide +kernel
theorem dX4_init_49 : decode cX4_init 49 = .ok (.putfield 27, 3) := by decide +kernel
theorem dX4_init_52 : decode cX4_init 52 = .ok (.aload_n 0, 1) := by decide +kernel
theorem dX4_init_53 : decode cX4_init 53 = .ok (.bipush 40, 2) := by decide +kernel
theorem dX4_init_55 : decode cX4_init 55 = .ok (.newarray .int, 2) := by decide +kernel
theorem dX4_init_57 : decode cX4_init 57 = .ok (.putfield 30, 3) := by decide +kernel
theorem dX4_init_60 : decode cX4_init 60 = .ok (.aload_n 0, 1) := by decide +kernel
theorem dX4_init_61 : decode cX4_init 61 = .ok (.bipush 40, 2) := by decide +kernel
theorem dX4_init_63 : decode cX4_init 63 = .ok (.newarray .int, 2) := by decide +kernel
theorem dX4_init_65 : decode cX4_init 65 = .ok (.putfield 33, 3) := by decide +kernel
theorem dX4_init_68 : decode cX4_init 68 = .ok (.aload_n 0, 1) := by decide +kernel
theorem dX4_init_69 : decode cX4_init 69 = .ok (.bipush 40, 2) := by decide +kernel
theorem dX4_init_71 : decode cX4_init 71 = .ok (.newarray .int, 2) := by decide +kernel
theorem dX4_init_73 : decode cX4_init 73 = .ok (.putfield 36, 3) := by decide +kernel
theorem dX4_init_76 : decode cX4_init 76 = .ok (.aload_n 0, 1) := by decide +kernel
theorem dX4_init_77 : decode cX4_init 77 = .ok (.bipush 40, 2) := by decide +kernel
theorem dX4_init_79 : decode cX4_init 79 = .ok (.newarray .boolean, 2) := by decide +kernel
theorem dX4_init_81 : decode cX4_init 81 = .ok (.putfield 39, 3) := by decide +kernel
theorem dX4_init_84 : decode cX4_init 84 = .ok (.return_, 1) := by decide +kernel
theorem dX4_isFull_0 : decode cX4_isFull 0 = .ok (.aload_n 0, 1) := by decide +kernel
theorem dX4_isFull_1 : decode cX4_isFull 1 = .ok (.getfield 43, 3) := by decide +kernel
theorem dX4_isFull_4 : decode cX4_isFull 4 = .ok (.bipush 30, 2) := by decide +kernel
theorem dX4_isFull_6 : decode cX4_isFull 6 = .ok (.if_icmp .lt 7, 3) := by decide +kernel
theorem dX4_isFull_9 : decode cX4_isFull 9 = .ok (.iconst 1, 1) := by decide +kernel
theorem dX4_isFull_10 : decode cX4_isFull 10 = .ok (.goto 4, 3) := by decide +kernel
theorem dX4_isFull_13 : decode cX4_isFull 13 = .ok (.iconst 0, 1) := by decide +kernel
theorem dX4_isFull_14 : decode cX4_isFull 14 = .ok (.ireturn, 1) := by decide +kernel
theorem dX4_isFullOfExcuses_0 : decode cX4_isFullOfExcuses 0 = .ok (.aload_n 0, 1) := by decide +kernel
theorem dX4_isFullOfExcuses_1 : decode cX4_isFullOfExcuses 1 = .ok (.getfield 47, 3) := by decide +kernel
theorem dX4_isFullOfExcuses_4 : decode cX4_isFullOfExcuses 4 = .ok (.bipush 40, 2) := by decide +kernel
theorem dX4_isFullOfExcuses_6 : decode cX4_isFullOfExcuses 6 = .ok (.if_icmp .lt 7, 3) := by decide +kernel
theorem dX4_isFullOfExcuses_9 : decode cX4_isFullOfExcuses 9 = .ok (.iconst 1, 1) := by decide +kernel
theorem dX4_isFullOfExcuses_10 : decode cX4_isFullOfExcuses 10 = .ok (.goto 4, 3) := by decide +kernel
theorem dX4_isFullOfExcuses_13 : decode cX4_isFullOfExcuses 13 = .ok (.iconst 0, 1) := by decide +kernel
theorem dX4_isFullOfExcuses_14 : decode cX4_isFullOfExcuses 14 = .ok (.ireturn, 1) := by decide +kernel
theorem dX4_add_0 : decode cX4_add 0 = .ok (.aload_n 0, 1) := by decide +kernel
theorem dX4_add_1 : decode cX4_add 1 = .ok (.getfield 11, 3) := by decide +kernel
theorem dX4_add_4 : decode cX4_add 4 = .ok (.aload_n 0, 1) := by decide +kernel
theorem dX4_add_5 : decode cX4_add 5 = .ok (.getfield 43, 3) := by decide +kernel
theorem dX4_add_8 : decode cX4_add 8 = .ok (.iload_n 1, 1) := by decide +kernel
theorem dX4_add_9 : decode cX4_add 9 = .ok (.iastore, 1) := by decide +kernel
theorem dX4_add_10 : decode cX4_add 10 = .ok (.aload_n 0, 1) := by decide +kernel
theorem dX4_add_11 : decode cX4_add 11 = .ok (.getfield 15, 3) := by decide +kernel
theorem dX4_add_14 : decode cX4_add 14 = .ok (.aload_n 0, 1) := by decide +kernel
theorem dX4_add_15 : decode cX4_add 15 = .ok (.getfield 43, 3) := by decide +kernel
theorem dX4_add_18 : decode cX4_add 18 = .ok (.iload_n 2, 1) := by decide +kernel
theorem dX4_add_19 : decode cX4_add 19 = .ok (.iastore, 1) := by decide +kernel
theorem dX4_add_20 : decode cX4_add 20 = .ok (.aload_n 0, 1) := by decide +kernel
theorem dX4_add_21 : decode cX4_add 21 = .ok (.getfield 18, 3) := by decide +kernel
theorem dX4_add_24 : decode cX4_add 24 = .ok (.aload_n 0, 1) := by decide +kernel
theorem dX4_add_25 : decode cX4_add 25 = .ok (.getfield 43, 3) := by decide +kernel
theorem dX4_add_28 : decode cX4_add 28 = .ok (.iload_n 3, 1) := by decide +kernel
theorem dX4_add_29 : decode cX4_add 29 = .ok (.iastore, 1) := by decide +kernel
theorem dX4_add_30 : decode cX4_add 30 = .ok (.aload_n 0, 1) := by decide +kernel
theorem dX4_add_31 : decode cX4_add 31 = .ok (.getfield 21, 3) := by decide +kernel
theorem dX4_add_34 : decode cX4_add 34 = .ok (.aload_n 0, 1) := by decide +kernel
theorem dX4_add_35 : decode cX4_add 35 = .ok (.getfield 43, 3) := by decide +kernel
theorem dX4_add_38 : decode cX4_add 38 = .ok (.iload 4, 2) := by decide +kernel
theorem dX4_add_40 : decode cX4_add 40 = .ok (.iastore, 1) := by decide +kernel
theorem dX4_add_41 : decode cX4_add 41 = .ok (.aload_n 0, 1) := by decide +kernel
theorem dX4_add_42 : decode cX4_add 42 = .ok (.getfield 24, 3) := by decide +kernel
theorem dX4_add_45 : decode cX4_add 45 = .ok (.aload_n 0, 1) := by decide +kernel
theorem dX4_add_46 : decode cX4_add 46 = .ok (.getfield 43, 3) := by decide +kernel
theorem dX4_add_49 : decode cX4_add 49 = .ok (.iload 5, 2) := by decide +kernel
theorem dX4_add_51 : decode cX4_add 51 = .ok (.iastore, 1) := by decide +kernel
theorem dX4_add_52 : decode cX4_add 52 = .ok (.aload_n 0, 1) := by decide +kernel
theorem dX4_add_53 : decode cX4_add 53 = .ok (.dup, 1) := by decide +kernel
theorem dX4_add_54 : decode cX4_add 54 = .ok (.getfield 43, 3) := by decide +kernel
theorem dX4_add_57 : decode cX4_add 57 = .ok (.iconst 1, 1) := by decide +kernel
theorem dX4_add_58 : decode cX4_add 58 = .ok (.iadd, 1) := by decide +kernel
theorem dX4_add_59 : decode cX4_add 59 = .ok (.putfield 43, 3) := by decide +kernel
theorem dX4_add_62 : decode cX4_add 62 = .ok (.aload_n 0, 1) := by decide +kernel
theorem dX4_add_63 : decode cX4_add 63 = .ok (.getfield 43, 3) := by decide +kernel
theorem dX4_add_66 : decode cX4_add 66 = .ok (.iconst 1, 1) := by decide +kernel
theorem dX4_add_67 : decode cX4_add 67 = .ok (.isub, 1) := by decide +kernel
theorem dX4_add_68 : decode cX4_add 68 = .ok (.ireturn, 1) := by decide +kernel
theorem dX4_addExcuse_0 : decode cX4_addExcuse 0 = .ok (.aload_n 0, 1) := by decide +kernel
theorem dX4_addExcuse_1 : decode cX4_addExcuse 1 = .ok (.getfield 27, 3) := by decide +kernel
theorem dX4_addExcuse_4 : decode cX4_addExcuse 4 = .ok (.aload_n 0, 1) := by decide +kernel
theorem dX4_addExcuse_5 : decode cX4_addExcuse 5 = .ok (.getfield 47, 3) := by decide +kernel
theorem dX4_addExcuse_8 : decode cX4_addExcuse 8 = .ok (.iload_n 1, 1) := by decide +kernel
theorem dX4_addExcuse_9 : decode cX4_addExcuse 9 = .ok (.iastore, 1) := by decide +kernel
theorem dX4_addExcuse_10 : decode cX4_addExcuse 10 = .ok (.aload_n 0, 1) := by decide +kernel
theorem dX4_addExcuse_11 : decode cX4_addExcuse 11 = .ok (.getfield 30, 3) := by decide +kernel
theorem dX4_addExcuse_14 : decode cX4_addExcuse 14 = .ok (.aload_n 0, 1) := by decide +kernel
theorem dX4_addExcuse_15 : decode cX4_addExcuse 15 = .ok (.getfield 47, 3) := by decide +kernel
theorem dX4_addExcuse_18 : decode cX4_addExcuse 18 = .ok (.iload_n 2, 1) := by decide +kernel
theorem dX4_addExcuse_19 : decode cX4_addExcuse 19 = .ok (.iastore, 1) := by decide +kernel
theorem dX4_addExcuse_20 : decode cX4_addExcuse 20 = .ok (.aload_n 0, 1) := by decide +kernel
theorem dX4_addExcuse_21 : decode cX4_addExcuse 21 = .ok (.getfield 33, 3) := by decide +kernel
theorem dX4_addExcuse_24 : decode cX4_addExcuse 24 = .ok (.aload_n 0, 1) := by decide +kernel
theorem dX4_addExcuse_25 : decode cX4_addExcuse 25 = .ok (.getfield 47, 3) := by decide +kernel
theorem dX4_addExcuse_28 : decode cX4_addExcuse 28 = .ok (.iload_n 3, 1) := by decide +kernel
theorem dX4_addExcuse_29 : decode cX4_addExcuse 29 = .ok (.iastore, 1) := by decide +kernel
theorem dX4_addExcuse_30 : decode cX4_addExcuse 30 = .ok (.aload_n 0, 1) := by decide +kernel
theorem dX4_addExcuse_31 : decode cX4_addExcuse 31 = .ok (.getfield 36, 3) := by decide +kernel
theorem dX4_addExcuse_34 : decode cX4_addExcuse 34 = .ok (.aload_n 0, 1) := by decide +kernel
theorem dX4_addExcuse_35 : decode cX4_addExcuse 35 = .ok (.getfield 47, 3) := by decide +kernel
theorem dX4_addExcuse_38 : decode cX4_addExcuse 38 = .ok (.iload 4, 2) := by decide +kernel
theorem dX4_addExcuse_40 : decode cX4_addExcuse 40 = .ok (.iastore, 1) := by decide +kernel
theorem dX4_addExcuse_41 : decode cX4_addExcuse 41 = .ok (.aload_n 0, 1) := by decide +kernel
theorem dX4_addExcuse_42 : decode cX4_addExcuse 42 = .ok (.getfield 39, 3) := by decide +kernel
theorem dX4_addExcuse_45 : decode cX4_addExcuse 45 = .ok (.aload_n 0, 1) := by decide +kernel
theorem dX4_addExcuse_46 : decode cX4_addExcuse 46 = .ok (.getfield 47, 3) := by decide +kernel
theorem dX4_addExcuse_49 : decode cX4_addExcuse 49 = .ok (.iload 5, 2) := by decide +kernel
theorem dX4_addExcuse_51 : decode cX4_addExcuse 51 = .ok (.bastore, 1) := by decide +kernel
theorem dX4_addExcuse_52 : decode cX4_addExcuse 52 = .ok (.aload_n 0, 1) := by decide +kernel
theorem dX4_addExcuse_53 : decode cX4_addExcuse 53 = .ok (.dup, 1) := by decide +kernel
theorem dX4_addExcuse_54 : decode cX4_addExcuse 54 = .ok (.getfield 47, 3) := by decide +kernel
theorem dX4_addExcuse_57 : decode cX4_addExcuse 57 = .ok (.iconst 1, 1) := by decide +kernel
theorem dX4_addExcuse_58 : decode cX4_addExcuse 58 = .ok (.iadd, 1) := by decide +kernel
theorem dX4_addExcuse_59 : decode cX4_addExcuse 59 = .ok (.putfield 47, 3) := by decide +kernel
theorem dX4_addExcuse_62 : decode cX4_addExcuse 62 = .ok (.aload_n 0, 1) := by decide +kernel
theorem dX4_addExcuse_63 : decode cX4_addExcuse 63 = .ok (.getfield 47, 3) := by decide +kernel
theorem dX4_addExcuse_66 : decode cX4_addExcuse 66 = .ok (.ireturn, 1) := by decide +kernel
theorem dX4_landFor_0 : decode cX4_landFor 0 = .ok (.aload_n 1, 1) := by decide +kernel
theorem dX4_landFor_1 : decode cX4_landFor 1 = .ok (.getfield 50, 3) := by decide +kernel
theorem dX4_landFor_4 : decode cX4_landFor 4 = .ok (.getfield 56, 3) := by decide +kernel
theorem dX4_landFor_7 : decode cX4_landFor 7 = .ok (.getfield 62, 3) := by decide +kernel
theorem dX4_landFor_10 : decode cX4_landFor 10 = .ok (.istore_n 3, 1) := by decide +kernel
theorem dX4_landFor_11 : decode cX4_landFor 11 = .ok (.aload_n 0, 1) := by decide +kernel
theorem dX4_landFor_12 : decode cX4_landFor 12 = .ok (.iload_n 3, 1) := by decide +kernel
theorem dX4_landFor_13 : decode cX4_landFor 13 = .ok (.iload_n 2, 1) := by decide +kernel
theorem dX4_landFor_14 : decode cX4_landFor 14 = .ok (.invokevirtual 67, 3) := by decide +kernel
theorem dX4_landFor_17 : decode cX4_landFor 17 = .ok (.ifCond .eq 5, 3) := by decide +kernel
theorem dX4_landFor_20 : decode cX4_landFor 20 = .ok (.iload_n 3, 1) := by decide +kernel
theorem dX4_landFor_21 : decode cX4_landFor 21 = .ok (.ireturn, 1) := by decide +kernel
theorem dX4_landFor_22 : decode cX4_landFor 22 = .ok (.aload_n 1, 1) := by decide +kernel
theorem dX4_landFor_23 : decode cX4_landFor 23 = .ok (.getfield 71, 3) := by decide +kernel
theorem dX4_landFor_26 : decode cX4_landFor 26 = .ok (.getfield 74, 3) := by decide +kernel
theorem dX4_landFor_29 : decode cX4_landFor 29 = .ok (.getfield 62, 3) := by decide +kernel
theorem dX4_landFor_32 : decode cX4_landFor 32 = .ok (.istore 4, 2) := by decide +kernel
theorem dX4_landFor_34 : decode cX4_landFor 34 = .ok (.aload_n 0, 1) := by decide +kernel
theorem dX4_landFor_35 : decode cX4_landFor 35 = .ok (.iload 4, 2) := by decide +kernel
theorem dX4_landFor_37 : decode cX4_landFor 37 = .ok (.iload_n 2, 1) := by decide +kernel
theorem dX4_landFor_38 : decode cX4_landFor 38 = .ok (.invokevirtual 67, 3) := by decide +kernel
theorem dX4_landFor_41 : decode cX4_landFor 41 = .ok (.ifCond .eq 8, 3) := by decide +kernel
theorem dX4_landFor_44 : decode cX4_landFor 44 = .ok (.iload 4, 2) := by decide +kernel
theorem dX4_landFor_46 : decode cX4_landFor 46 = .ok (.goto 5, 3) := by decide +kernel
theorem dX4_landFor_49 : decode cX4_landFor 49 = .ok (.bipush (-9), 2) := by decide +kernel
theorem dX4_landFor_51 : decode cX4_landFor 51 = .ok (.ireturn, 1) := by decide +kernel
theorem dX4_hasRows_0 : decode cX4_hasRows 0 = .ok (.iconst 0, 1) := by decide +kernel
theorem dX4_hasRows_1 : decode cX4_hasRows 1 = .ok (.istore_n 3, 1) := by decide +kernel
theorem dX4_hasRows_2 : decode cX4_hasRows 2 = .ok (.iload_n 3, 1) := by decide +kernel
theorem dX4_hasRows_3 : decode cX4_hasRows 3 = .ok (.aload_n 0, 1) := by decide +kernel
theorem dX4_hasRows_4 : decode cX4_hasRows 4 = .ok (.getfield 43, 3) := by decide +kernel
theorem dX4_hasRows_7 : decode cX4_hasRows 7 = .ok (.if_icmp .ge 21, 3) := by decide +kernel
theorem dX4_hasRows_10 : decode cX4_hasRows 10 = .ok (.aload_n 0, 1) := by decide +kernel
theorem dX4_hasRows_11 : decode cX4_hasRows 11 = .ok (.iload_n 3, 1) := by decide +kernel
theorem dX4_hasRows_12 : decode cX4_hasRows 12 = .ok (.iload_n 1, 1) := by decide +kernel
theorem dX4_hasRows_13 : decode cX4_hasRows 13 = .ok (.iload_n 2, 1) := by decide +kernel
theorem dX4_hasRows_14 : decode cX4_hasRows 14 = .ok (.invokevirtual 77, 3) := by decide +kernel
theorem dX4_hasRows_17 : decode cX4_hasRows 17 = .ok (.ifCond .eq 5, 3) := by decide +kernel
theorem dX4_hasRows_20 : decode cX4_hasRows 20 = .ok (.iconst 1, 1) := by decide +kernel
theorem dX4_hasRows_21 : decode cX4_hasRows 21 = .ok (.ireturn, 1) := by decide +kernel
theorem dX4_hasRows_22 : decode cX4_hasRows 22 = .ok (.iinc 3 1, 3) := by decide +kernel
theorem dX4_hasRows_25 : decode cX4_hasRows 25 = .ok (.goto (-23), 3) := by decide +kernel
theorem dX4_hasRows_28 : decode cX4_hasRows 28 = .ok (.iconst 0, 1) := by decide +kernel
theorem dX4_hasRows_29 : decode cX4_hasRows 29 = .ok (.ireturn, 1) := by decide +kernel
theorem dX4_isInForce_0 : decode cX4_isInForce 0 = .ok (.aload_n 0, 1) := by decide +kernel
theorem dX4_isInForce_1 : decode cX4_isInForce 1 = .ok (.getfield 11, 3) := by decide +kernel
theorem dX4_isInForce_4 : decode cX4_isInForce 4 = .ok (.iload_n 1, 1) := by decide +kernel
theorem dX4_isInForce_5 : decode cX4_isInForce 5 = .ok (.iaload, 1) := by decide +kernel
theorem dX4_isInForce_6 : decode cX4_isInForce 6 = .ok (.iload_n 2, 1) := by decide +kernel
theorem dX4_isInForce_7 : decode cX4_isInForce 7 = .ok (.if_icmp .ne 17, 3) := by decide +kernel
theorem dX4_isInForce_10 : decode cX4_isInForce 10 = .ok (.aload_n 0, 1) := by decide +kernel
theorem dX4_isInForce_11 : decode cX4_isInForce 11 = .ok (.getfield 15, 3) := by decide +kernel
theorem dX4_isInForce_14 : decode cX4_isInForce 14 = .ok (.iload_n 1, 1) := by decide +kernel
theorem dX4_isInForce_15 : decode cX4_isInForce 15 = .ok (.iaload, 1) := by decide +kernel
theorem dX4_isInForce_16 : decode cX4_isInForce 16 = .ok (.iload_n 3, 1) := by decide +kernel
theorem dX4_isInForce_17 : decode cX4_isInForce 17 = .ok (.if_icmp .gt 7, 3) := by decide +kernel
theorem dX4_isInForce_20 : decode cX4_isInForce 20 = .ok (.iconst 1, 1) := by decide +kernel
theorem dX4_isInForce_21 : decode cX4_isInForce 21 = .ok (.goto 4, 3) := by decide +kernel
theorem dX4_isInForce_24 : decode cX4_isInForce 24 = .ok (.iconst 0, 1) := by decide +kernel
theorem dX4_isInForce_25 : decode cX4_isInForce 25 = .ok (.ireturn, 1) := by decide +kernel
theorem dX4_greatestSum_0 : decode cX4_greatestSum 0 = .ok (.iconst 0, 1) := by decide +kernel
theorem dX4_greatestSum_1 : decode cX4_greatestSum 1 = .ok (.istore 5, 2) := by decide +kernel
theorem dX4_greatestSum_3 : decode cX4_greatestSum 3 = .ok (.iconst 0, 1) := by decide +kernel
theorem dX4_greatestSum_4 : decode cX4_greatestSum 4 = .ok (.istore 6, 2) := by decide +kernel
theorem dX4_greatestSum_6 : decode cX4_greatestSum 6 = .ok (.iload 6, 2) := by decide +kernel
theorem dX4_greatestSum_8 : decode cX4_greatestSum 8 = .ok (.aload_n 0, 1) := by decide +kernel
theorem dX4_greatestSum_9 : decode cX4_greatestSum 9 = .ok (.getfield 43, 3) := by decide +kernel
theorem dX4_greatestSum_12 : decode cX4_greatestSum 12 = .ok (.if_icmp .ge 76, 3) := by decide +kernel
theorem dX4_greatestSum_15 : decode cX4_greatestSum 15 = .ok (.aload_n 0, 1) := by decide +kernel
theorem dX4_greatestSum_16 : decode cX4_greatestSum 16 = .ok (.iload 6, 2) := by decide +kernel
theorem dX4_greatestSum_18 : decode cX4_greatestSum 18 = .ok (.iload_n 1, 1) := by decide +kernel
theorem dX4_greatestSum_19 : decode cX4_greatestSum 19 = .ok (.iload_n 2, 1) := by decide +kernel
theorem dX4_greatestSum_20 : decode cX4_greatestSum 20 = .ok (.invokevirtual 77, 3) := by decide +kernel
theorem dX4_greatestSum_23 : decode cX4_greatestSum 23 = .ok (.ifCond .eq 30, 3) := by decide +kernel
theorem dX4_greatestSum_26 : decode cX4_greatestSum 26 = .ok (.aload_n 0, 1) := by decide +kernel
theorem dX4_greatestSum_27 : decode cX4_greatestSum 27 = .ok (.getfield 18, 3) := by decide +kernel
theorem dX4_greatestSum_30 : decode cX4_greatestSum 30 = .ok (.iload 6, 2) := by decide +kernel
theorem dX4_greatestSum_32 : decode cX4_greatestSum 32 = .ok (.iaload, 1) := by decide +kernel
theorem dX4_greatestSum_33 : decode cX4_greatestSum 33 = .ok (.iload_n 3, 1) := by decide +kernel
theorem dX4_greatestSum_34 : decode cX4_greatestSum 34 = .ok (.if_icmp .gt 19, 3) := by decide +kernel
theorem dX4_greatestSum_37 : decode cX4_greatestSum 37 = .ok (.aload_n 0, 1) := by decide +kernel
theorem dX4_greatestSum_38 : decode cX4_greatestSum 38 = .ok (.getfield 21, 3) := by decide +kernel
theorem dX4_greatestSum_41 : decode cX4_greatestSum 41 = .ok (.iload 6, 2) := by decide +kernel
theorem dX4_greatestSum_43 : decode cX4_greatestSum 43 = .ok (.iaload, 1) := by decide +kernel
theorem dX4_greatestSum_44 : decode cX4_greatestSum 44 = .ok (.iload 4, 2) := by decide +kernel
theorem dX4_greatestSum_46 : decode cX4_greatestSum 46 = .ok (.if_icmp .gt 7, 3) := by decide +kernel
theorem dX4_greatestSum_49 : decode cX4_greatestSum 49 = .ok (.iconst 1, 1) := by decide +kernel
theorem dX4_greatestSum_50 : decode cX4_greatestSum 50 = .ok (.goto 4, 3) := by decide +kernel
theorem dX4_greatestSum_53 : decode cX4_greatestSum 53 = .ok (.iconst 0, 1) := by decide +kernel
theorem dX4_greatestSum_54 : decode cX4_greatestSum 54 = .ok (.istore 7, 2) := by decide +kernel
theorem dX4_greatestSum_56 : decode cX4_greatestSum 56 = .ok (.iload 7, 2) := by decide +kernel
theorem dX4_greatestSum_58 : decode cX4_greatestSum 58 = .ok (.ifCond .eq 24, 3) := by decide +kernel
theorem dX4_greatestSum_61 : decode cX4_greatestSum 61 = .ok (.aload_n 0, 1) := by decide +kernel
theorem dX4_greatestSum_62 : decode cX4_greatestSum 62 = .ok (.getfield 24, 3) := by decide +kernel
theorem dX4_greatestSum_65 : decode cX4_greatestSum 65 = .ok (.iload 6, 2) := by decide +kernel
theorem dX4_greatestSum_67 : decode cX4_greatestSum 67 = .ok (.iaload, 1) := by decide +kernel
theorem dX4_greatestSum_68 : decode cX4_greatestSum 68 = .ok (.iload 5, 2) := by decide +kernel
theorem dX4_greatestSum_70 : decode cX4_greatestSum 70 = .ok (.if_icmp .le 12, 3) := by decide +kernel
theorem dX4_greatestSum_73 : decode cX4_greatestSum 73 = .ok (.aload_n 0, 1) := by decide +kernel
theorem dX4_greatestSum_74 : decode cX4_greatestSum 74 = .ok (.getfield 24, 3) := by decide +kernel
theorem dX4_greatestSum_77 : decode cX4_greatestSum 77 = .ok (.iload 6, 2) := by decide +kernel
theorem dX4_greatestSum_79 : decode cX4_greatestSum 79 = .ok (.iaload, 1) := by decide +kernel
theorem dX4_greatestSum_80 : decode cX4_greatestSum 80 = .ok (.istore 5, 2) := by decide +kernel
theorem dX4_greatestSum_82 : decode cX4_greatestSum 82 = .ok (.iinc 6 1, 3) := by decide +kernel
theorem dX4_greatestSum_85 : decode cX4_greatestSum 85 = .ok (.goto (-79), 3) := by decide +kernel
theorem dX4_greatestSum_88 : decode cX4_greatestSum 88 = .ok (.iload 5, 2) := by decide +kernel
theorem dX4_greatestSum_90 : decode cX4_greatestSum 90 = .ok (.ireturn, 1) := by decide +kernel
theorem dX4_isExcused_0 : decode cX4_isExcused 0 = .ok (.iconst 0, 1) := by decide +kernel
theorem dX4_isExcused_1 : decode cX4_isExcused 1 = .ok (.istore 4, 2) := by decide +kernel
theorem dX4_isExcused_3 : decode cX4_isExcused 3 = .ok (.iconst 0, 1) := by decide +kernel
theorem dX4_isExcused_4 : decode cX4_isExcused 4 = .ok (.istore 5, 2) := by decide +kernel
theorem dX4_isExcused_6 : decode cX4_isExcused 6 = .ok (.iload 5, 2) := by decide +kernel
theorem dX4_isExcused_8 : decode cX4_isExcused 8 = .ok (.aload_n 0, 1) := by decide +kernel
theorem dX4_isExcused_9 : decode cX4_isExcused 9 = .ok (.getfield 47, 3) := by decide +kernel
theorem dX4_isExcused_12 : decode cX4_isExcused 12 = .ok (.if_icmp .ge 74, 3) := by decide +kernel
theorem dX4_isExcused_15 : decode cX4_isExcused 15 = .ok (.aload_n 0, 1) := by decide +kernel
theorem dX4_isExcused_16 : decode cX4_isExcused 16 = .ok (.getfield 27, 3) := by decide +kernel
theorem dX4_isExcused_19 : decode cX4_isExcused 19 = .ok (.iload 5, 2) := by decide +kernel
theorem dX4_isExcused_21 : decode cX4_isExcused 21 = .ok (.iaload, 1) := by decide +kernel
theorem dX4_isExcused_22 : decode cX4_isExcused 22 = .ok (.iload_n 1, 1) := by decide +kernel
theorem dX4_isExcused_23 : decode cX4_isExcused 23 = .ok (.if_icmp .ne 18, 3) := by decide +kernel
theorem dX4_isExcused_26 : decode cX4_isExcused 26 = .ok (.aload_n 0, 1) := by decide +kernel
theorem dX4_isExcused_27 : decode cX4_isExcused 27 = .ok (.getfield 30, 3) := by decide +kernel
theorem dX4_isExcused_30 : decode cX4_isExcused 30 = .ok (.iload 5, 2) := by decide +kernel
theorem dX4_isExcused_32 : decode cX4_isExcused 32 = .ok (.iaload, 1) := by decide +kernel
theorem dX4_isExcused_33 : decode cX4_isExcused 33 = .ok (.iload_n 2, 1) := by decide +kernel
theorem dX4_isExcused_34 : decode cX4_isExcused 34 = .ok (.if_icmp .ne 7, 3) := by decide +kernel
theorem dX4_isExcused_37 : decode cX4_isExcused 37 = .ok (.iconst 1, 1) := by decide +kernel
theorem dX4_isExcused_38 : decode cX4_isExcused 38 = .ok (.goto 4, 3) := by decide +kernel
theorem dX4_isExcused_41 : decode cX4_isExcused 41 = .ok (.iconst 0, 1) := by decide +kernel
theorem dX4_isExcused_42 : decode cX4_isExcused 42 = .ok (.istore 6, 2) := by decide +kernel
theorem dX4_isExcused_44 : decode cX4_isExcused 44 = .ok (.iload 6, 2) := by decide +kernel
theorem dX4_isExcused_46 : decode cX4_isExcused 46 = .ok (.ifCond .eq 34, 3) := by decide +kernel
theorem dX4_isExcused_49 : decode cX4_isExcused 49 = .ok (.aload_n 0, 1) := by decide +kernel
theorem dX4_isExcused_50 : decode cX4_isExcused 50 = .ok (.getfield 36, 3) := by decide +kernel
theorem dX4_isExcused_53 : decode cX4_isExcused 53 = .ok (.iload 5, 2) := by decide +kernel
theorem dX4_isExcused_55 : decode cX4_isExcused 55 = .ok (.iaload, 1) := by decide +kernel
theorem dX4_isExcused_56 : decode cX4_isExcused 56 = .ok (.iload_n 3, 1) := by decide +kernel
theorem dX4_isExcused_57 : decode cX4_isExcused 57 = .ok (.if_icmp .gt 23, 3) := by decide +kernel
theorem dX4_isExcused_60 : decode cX4_isExcused 60 = .ok (.aload_n 0, 1) := by decide +kernel
theorem dX4_isExcused_61 : decode cX4_isExcused 61 = .ok (.getfield 33, 3) := by decide +kernel
theorem dX4_isExcused_64 : decode cX4_isExcused 64 = .ok (.iload 5, 2) := by decide +kernel
theorem dX4_isExcused_66 : decode cX4_isExcused 66 = .ok (.iaload, 1) := by decide +kernel
theorem dX4_isExcused_67 : decode cX4_isExcused 67 = .ok (.iload_n 3, 1) := by decide +kernel
theorem dX4_isExcused_68 : decode cX4_isExcused 68 = .ok (.if_icmp .gt 12, 3) := by decide +kernel
theorem dX4_isExcused_71 : decode cX4_isExcused 71 = .ok (.aload_n 0, 1) := by decide +kernel
theorem dX4_isExcused_72 : decode cX4_isExcused 72 = .ok (.getfield 39, 3) := by decide +kernel
theorem dX4_isExcused_75 : decode cX4_isExcused 75 = .ok (.iload 5, 2) := by decide +kernel
theorem dX4_isExcused_77 : decode cX4_isExcused 77 = .ok (.baload, 1) := by decide +kernel
theorem dX4_isExcused_78 : decode cX4_isExcused 78 = .ok (.istore 4, 2) := by decide +kernel
theorem dX4_isExcused_80 : decode cX4_isExcused 80 = .ok (.iinc 5 1, 3) := by decide +kernel
theorem dX4_isExcused_83 : decode cX4_isExcused 83 = .ok (.goto (-77), 3) := by decide +kernel
theorem dX4_isExcused_86 : decode cX4_isExcused 86 = .ok (.iload 4, 2) := by decide +kernel
theorem dX4_isExcused_88 : decode cX4_isExcused 88 = .ok (.ireturn, 1) := by decide +kernel
theorem dX5_init_0 : decode cX5_init 0 = .ok (.aload_n 0, 1) := by decide +kernel
theorem dX5_init_1 : decode cX5_init 1 = .ok (.invokespecial 1, 3) := by decide +kernel
theorem dX5_init_4 : decode cX5_init 4 = .ok (.aload_n 0, 1) := by decide +kernel
theorem dX5_init_5 : decode cX5_init 5 = .ok (.iload_n 1, 1) := by decide +kernel
theorem dX5_init_6 : decode cX5_init 6 = .ok (.putfield 7, 3) := by decide +kernel
theorem dX5_init_9 : decode cX5_init 9 = .ok (.aload_n 0, 1) := by decide +kernel
theorem dX5_init_10 : decode cX5_init 10 = .ok (.aload_n 2, 1) := by decide +kernel
theorem dX5_init_11 : decode cX5_init 11 = .ok (.putfield 13, 3) := by decide +kernel
theorem dX5_init_14 : decode cX5_init 14 = .ok (.aload_n 0, 1) := by decide +kernel
theorem dX5_init_15 : decode cX5_init 15 = .ok (.aload_n 3, 1) := by decide +kernel
theorem dX5_init_16 : decode cX5_init 16 = .ok (.putfield 17, 3) := by decide +kernel
theorem dX5_init_19 : decode cX5_init 19 = .ok (.aload_n 0, 1) := by decide +kernel
theorem dX5_init_20 : decode cX5_init 20 = .ok (.iload 4, 2) := by decide +kernel
theorem dX5_init_22 : decode cX5_init 22 = .ok (.putfield 20, 3) := by decide +kernel
theorem dX5_init_25 : decode cX5_init 25 = .ok (.aload_n 0, 1) := by decide +kernel
theorem dX5_init_26 : decode cX5_init 26 = .ok (.iload 5, 2) := by decide +kernel
theorem dX5_init_28 : decode cX5_init 28 = .ok (.putfield 23, 3) := by decide +kernel
theorem dX5_init_31 : decode cX5_init 31 = .ok (.aload_n 0, 1) := by decide +kernel
theorem dX5_init_32 : decode cX5_init 32 = .ok (.iload 6, 2) := by decide +kernel
theorem dX5_init_34 : decode cX5_init 34 = .ok (.putfield 26, 3) := by decide +kernel
theorem dX5_init_37 : decode cX5_init 37 = .ok (.aload_n 0, 1) := by decide +kernel
theorem dX5_init_38 : decode cX5_init 38 = .ok (.iload 7, 2) := by decide +kernel
theorem dX5_init_40 : decode cX5_init 40 = .ok (.putfield 29, 3) := by decide +kernel
theorem dX5_init_43 : decode cX5_init 43 = .ok (.return_, 1) := by decide +kernel
theorem dX5_enter_0 : decode cX5_enter 0 = .ok (.aload_n 0, 1) := by decide +kernel
theorem dX5_enter_1 : decode cX5_enter 1 = .ok (.iload_n 1, 1) := by decide +kernel
theorem dX5_enter_2 : decode cX5_enter 2 = .ok (.putfield 32, 3) := by decide +kernel
theorem dX5_enter_5 : decode cX5_enter 5 = .ok (.aload_n 0, 1) := by decide +kernel
theorem dX5_enter_6 : decode cX5_enter 6 = .ok (.iload_n 2, 1) := by decide +kernel
theorem dX5_enter_7 : decode cX5_enter 7 = .ok (.putfield 35, 3) := by decide +kernel
theorem dX5_enter_10 : decode cX5_enter 10 = .ok (.aload_n 0, 1) := by decide +kernel
theorem dX5_enter_11 : decode cX5_enter 11 = .ok (.iconst 1, 1) := by decide +kernel
theorem dX5_enter_12 : decode cX5_enter 12 = .ok (.putfield 38, 3) := by decide +kernel
theorem dX5_enter_15 : decode cX5_enter 15 = .ok (.aload_n 0, 1) := by decide +kernel
theorem dX5_enter_16 : decode cX5_enter 16 = .ok (.invokevirtual 42, 3) := by decide +kernel
theorem dX5_enter_19 : decode cX5_enter 19 = .ok (.return_, 1) := by decide +kernel
theorem dX5_putRight_0 : decode cX5_putRight 0 = .ok (.aload_n 0, 1) := by decide +kernel
theorem dX5_putRight_1 : decode cX5_putRight 1 = .ok (.iconst 0, 1) := by decide +kernel
theorem dX5_putRight_2 : decode cX5_putRight 2 = .ok (.aload_n 0, 1) := by decide +kernel
theorem dX5_putRight_3 : decode cX5_putRight 3 = .ok (.getfield 32, 3) := by decide +kernel
theorem dX5_putRight_6 : decode cX5_putRight 6 = .ok (.aload_n 0, 1) := by decide +kernel
theorem dX5_putRight_7 : decode cX5_putRight 7 = .ok (.getfield 13, 3) := by decide +kernel
theorem dX5_putRight_10 : decode cX5_putRight 10 = .ok (.getfield 45, 3) := by decide +kernel
theorem dX5_putRight_13 : decode cX5_putRight 13 = .ok (.isub, 1) := by decide +kernel
theorem dX5_putRight_14 : decode cX5_putRight 14 = .ok (.invokestatic 50, 3) := by decide +kernel
theorem dX5_putRight_17 : decode cX5_putRight 17 = .ok (.putfield 56, 3) := by decide +kernel
theorem dX5_putRight_20 : decode cX5_putRight 20 = .ok (.aload_n 0, 1) := by decide +kernel
theorem dX5_putRight_21 : decode cX5_putRight 21 = .ok (.iconst 0, 1) := by decide +kernel
theorem dX5_putRight_22 : decode cX5_putRight 22 = .ok (.aload_n 0, 1) := by decide +kernel
theorem dX5_putRight_23 : decode cX5_putRight 23 = .ok (.getfield 35, 3) := by decide +kernel
theorem dX5_putRight_26 : decode cX5_putRight 26 = .ok (.aload_n 0, 1) := by decide +kernel
theorem dX5_putRight_27 : decode cX5_putRight 27 = .ok (.getfield 17, 3) := by decide +kernel
theorem dX5_putRight_30 : decode cX5_putRight 30 = .ok (.getfield 45, 3) := by decide +kernel
theorem dX5_putRight_33 : decode cX5_putRight 33 = .ok (.isub, 1) := by decide +kernel
theorem dX5_putRight_34 : decode cX5_putRight 34 = .ok (.invokestatic 50, 3) := by decide +kernel
theorem dX5_putRight_37 : decode cX5_putRight 37 = .ok (.putfield 59, 3) := by decide +kernel
theorem dX5_putRight_40 : decode cX5_putRight 40 = .ok (.aload_n 0, 1) := by decide +kernel
theorem dX5_putRight_41 : decode cX5_putRight 41 = .ok (.iconst 0, 1) := by decide +kernel
theorem dX5_putRight_42 : decode cX5_putRight 42 = .ok (.aload_n 0, 1) := by decide +kernel
theorem dX5_putRight_43 : decode cX5_putRight 43 = .ok (.getfield 56, 3) := by decide +kernel
theorem dX5_putRight_46 : decode cX5_putRight 46 = .ok (.aload_n 0, 1) := by decide +kernel
theorem dX5_putRight_47 : decode cX5_putRight 47 = .ok (.getfield 26, 3) := by decide +kernel
theorem dX5_putRight_50 : decode cX5_putRight 50 = .ok (.isub, 1) := by decide +kernel
theorem dX5_putRight_51 : decode cX5_putRight 51 = .ok (.invokestatic 50, 3) := by decide +kernel
theorem dX5_putRight_54 : decode cX5_putRight 54 = .ok (.putfield 62, 3) := by decide +kernel
theorem dX5_putRight_57 : decode cX5_putRight 57 = .ok (.aload_n 0, 1) := by decide +kernel
theorem dX5_putRight_58 : decode cX5_putRight 58 = .ok (.iconst 0, 1) := by decide +kernel
theorem dX5_putRight_59 : decode cX5_putRight 59 = .ok (.aload_n 0, 1) := by decide +kernel
theorem dX5_putRight_60 : decode cX5_putRight 60 = .ok (.getfield 59, 3) := by decide +kernel
theorem dX5_putRight_63 : decode cX5_putRight 63 = .ok (.aload_n 0, 1) := by decide +kernel
theorem dX5_putRight_64 : decode cX5_putRight 64 = .ok (.getfield 29, 3) := by decide +kernel
theorem dX5_putRight_67 : decode cX5_putRight 67 = .ok (.isub, 1) := by decide +kernel
theorem dX5_putRight_68 : decode cX5_putRight 68 = .ok (.invokestatic 50, 3) := by decide +kernel
theorem dX5_putRight_71 : decode cX5_putRight 71 = .ok (.putfield 65, 3) := by decide +kernel
theorem dX5_putRight_74 : decode cX5_putRight 74 = .ok (.return_, 1) := by decide +kernel
theorem dX5_waitFor_0 : decode cX5_waitFor 0 = .ok (.aload_n 1, 1) := by decide +kernel
theorem dX5_waitFor_1 : decode cX5_waitFor 1 = .ok (.ifnull 10, 3) := by decide +kernel
theorem dX5_waitFor_4 : decode cX5_waitFor 4 = .ok (.aload_n 1, 1) := by decide +kernel
theorem dX5_waitFor_5 : decode cX5_waitFor 5 = .ok (.getfield 38, 3) := by decide +kernel
theorem dX5_waitFor_8 : decode cX5_waitFor 8 = .ok (.ifCond .ne 5, 3) := by decide +kernel
theorem dX5_waitFor_11 : decode cX5_waitFor 11 = .ok (.iconst 0, 1) := by decide +kernel
theorem dX5_waitFor_12 : decode cX5_waitFor 12 = .ok (.ireturn, 1) := by decide +kernel
theorem dX5_waitFor_13 : decode cX5_waitFor 13 = .ok (.iconst 0, 1) := by decide +kernel
theorem dX5_waitFor_14 : decode cX5_waitFor 14 = .ok (.aload_n 1, 1) := by decide +kernel
theorem dX5_waitFor_15 : decode cX5_waitFor 15 = .ok (.getfield 59, 3) := by decide +kernel
theorem dX5_waitFor_18 : decode cX5_waitFor 18 = .ok (.iload_n 2, 1) := by decide +kernel
theorem dX5_waitFor_19 : decode cX5_waitFor 19 = .ok (.iadd, 1) := by decide +kernel
theorem dX5_waitFor_20 : decode cX5_waitFor 20 = .ok (.aload_n 0, 1) := by decide +kernel
theorem dX5_waitFor_21 : decode cX5_waitFor 21 = .ok (.getfield 26, 3) := by decide +kernel
theorem dX5_waitFor_24 : decode cX5_waitFor 24 = .ok (.isub, 1) := by decide +kernel
theorem dX5_waitFor_25 : decode cX5_waitFor 25 = .ok (.invokestatic 50, 3) := by decide +kernel
theorem dX5_waitFor_28 : decode cX5_waitFor 28 = .ok (.istore_n 3, 1) := by decide +kernel
theorem dX5_waitFor_29 : decode cX5_waitFor 29 = .ok (.iload_n 3, 1) := by decide +kernel
theorem dX5_waitFor_30 : decode cX5_waitFor 30 = .ok (.aload_n 0, 1) := by decide +kernel
theorem dX5_waitFor_31 : decode cX5_waitFor 31 = .ok (.getfield 62, 3) := by decide +kernel
theorem dX5_waitFor_34 : decode cX5_waitFor 34 = .ok (.invokestatic 68, 3) := by decide +kernel
theorem dX5_waitFor_37 : decode cX5_waitFor 37 = .ok (.ireturn, 1) := by decide +kernel
theorem dX6_init_0 : decode cX6_init 0 = .ok (.aload_n 0, 1) := by decide +kernel
theorem dX6_init_1 : decode cX6_init 1 = .ok (.invokespecial 1, 3) := by decide +kernel
theorem dX6_init_4 : decode cX6_init 4 = .ok (.aload_n 0, 1) := by decide +kernel
theorem dX6_init_5 : decode cX6_init 5 = .ok (.iload_n 1, 1) := by decide +kernel
theorem dX6_init_6 : decode cX6_init 6 = .ok (.putfield 7, 3) := by decide +kernel
theorem dX6_init_9 : decode cX6_init 9 = .ok (.aload_n 0, 1) := by decide +kernel
theorem dX6_init_10 : decode cX6_init 10 = .ok (.iload_n 1, 1) := by decide +kernel
theorem dX6_init_11 : decode cX6_init 11 = .ok (.putfield 13, 3) := by decide +kernel
theorem dX6_init_14 : decode cX6_init 14 = .ok (.return_, 1) := by decide +kernel
theorem dX7_init_0 : decode cX7_init 0 = .ok (.aload_n 0, 1) := by decide +kernel
theorem dX7_init_1 : decode cX7_init 1 = .ok (.invokespecial 1, 3) := by decide +kernel
theorem dX7_init_4 : decode cX7_init 4 = .ok (.aload_n 0, 1) := by decide +kernel
theorem dX7_init_5 : decode cX7_init 5 = .ok (.bipush 10, 2) := by decide +kernel
theorem dX7_init_7 : decode cX7_init 7 = .ok (.anewarray 9, 3) := by decide +kernel
theorem dX7_init_10 : decode cX7_init 10 = .ok (.putfield 11, 3) := by decide +kernel
theorem dX7_init_13 : decode cX7_init 13 = .ok (.iconst 0, 1) := by decide +kernel
theorem dX7_init_14 : decode cX7_init 14 = .ok (.istore_n 1, 1) := by decide +kernel
theorem dX7_init_15 : decode cX7_init 15 = .ok (.iload_n 1, 1) := by decide +kernel
theorem dX7_init_16 : decode cX7_init 16 = .ok (.bipush 10, 2) := by decide +kernel
theorem dX7_init_18 : decode cX7_init 18 = .ok (.if_icmp .ge 23, 3) := by decide +kernel
theorem dX7_init_21 : decode cX7_init 21 = .ok (.aload_n 0, 1) := by decide +kernel
theorem dX7_init_22 : decode cX7_init 22 = .ok (.getfield 11, 3) := by decide +kernel
theorem dX7_init_25 : decode cX7_init 25 = .ok (.iload_n 1, 1) := by decide +kernel
theorem dX7_init_26 : decode cX7_init 26 = .ok (.new 9, 3) := by decide +kernel
theorem dX7_init_29 : decode cX7_init 29 = .ok (.dup, 1) := by decide +kernel
theorem dX7_init_30 : decode cX7_init 30 = .ok (.iload_n 1, 1) := by decide +kernel
theorem dX7_init_31 : decode cX7_init 31 = .ok (.invokespecial 15, 3) := by decide +kernel
theorem dX7_init_34 : decode cX7_init 34 = .ok (.aastore, 1) := by decide +kernel
theorem dX7_init_35 : decode cX7_init 35 = .ok (.iinc 1 1, 3) := by decide +kernel
theorem dX7_init_38 : decode cX7_init 38 = .ok (.goto (-23), 3) := by decide +kernel
theorem dX7_init_41 : decode cX7_init 41 = .ok (.aload_n 0, 1) := by decide +kernel
theorem dX7_init_42 : decode cX7_init 42 = .ok (.bipush 10, 2) := by decide +kernel
theorem dX7_init_44 : decode cX7_init 44 = .ok (.bipush 10, 2) := by decide +kernel
theorem dX7_init_46 : decode cX7_init 46 = .ok (.multianewarray 18 2, 4) := by decide +kernel
theorem dX7_init_50 : decode cX7_init 50 = .ok (.putfield 20, 3) := by decide +kernel
theorem dX7_init_53 : decode cX7_init 53 = .ok (.return_, 1) := by decide +kernel
theorem dX7_find_0 : decode cX7_find 0 = .ok (.bipush 10, 2) := by decide +kernel
theorem dX7_find_2 : decode cX7_find 2 = .ok (.iload_n 1, 1) := by decide +kernel
theorem dX7_find_3 : decode cX7_find 3 = .ok (.invokestatic 23, 3) := by decide +kernel
theorem dX7_find_6 : decode cX7_find 6 = .ok (.ifCond .eq 12, 3) := by decide +kernel
theorem dX7_find_9 : decode cX7_find 9 = .ok (.aload_n 0, 1) := by decide +kernel
theorem dX7_find_10 : decode cX7_find 10 = .ok (.getfield 11, 3) := by decide +kernel
theorem dX7_find_13 : decode cX7_find 13 = .ok (.iload_n 1, 1) := by decide +kernel
theorem dX7_find_14 : decode cX7_find 14 = .ok (.aaload, 1) := by decide +kernel
theorem dX7_find_15 : decode cX7_find 15 = .ok (.goto 4, 3) := by decide +kernel
theorem dX7_find_18 : decode cX7_find 18 = .ok (.aconst_null, 1) := by decide +kernel
theorem dX7_find_19 : decode cX7_find 19 = .ok (.areturn, 1) := by decide +kernel
theorem dX7_milesBetween_0 : decode cX7_milesBetween 0 = .ok (.aload_n 0, 1) := by decide +kernel
theorem dX7_milesBetween_1 : decode cX7_milesBetween 1 = .ok (.getfield 20, 3) := by decide +kernel
theorem dX7_milesBetween_4 : decode cX7_milesBetween 4 = .ok (.aload_n 1, 1) := by decide +kernel
theorem dX7_milesBetween_5 : decode cX7_milesBetween 5 = .ok (.getfield 29, 3) := by decide +kernel
theorem dX7_milesBetween_8 : decode cX7_milesBetween 8 = .ok (.aaload, 1) := by decide +kernel
theorem dX7_milesBetween_9 : decode cX7_milesBetween 9 = .ok (.aload_n 2, 1) := by decide +kernel
theorem dX7_milesBetween_10 : decode cX7_milesBetween 10 = .ok (.getfield 29, 3) := by decide +kernel
theorem dX7_milesBetween_13 : decode cX7_milesBetween 13 = .ok (.iaload, 1) := by decide +kernel
theorem dX7_milesBetween_14 : decode cX7_milesBetween 14 = .ok (.ireturn, 1) := by decide +kernel
theorem dX7_setMiles_0 : decode cX7_setMiles 0 = .ok (.aload_n 0, 1) := by decide +kernel
theorem dX7_setMiles_1 : decode cX7_setMiles 1 = .ok (.getfield 20, 3) := by decide +kernel
theorem dX7_setMiles_4 : decode cX7_setMiles 4 = .ok (.aload_n 1, 1) := by decide +kernel
theorem dX7_setMiles_5 : decode cX7_setMiles 5 = .ok (.getfield 29, 3) := by decide +kernel
theorem dX7_setMiles_8 : decode cX7_setMiles 8 = .ok (.aaload, 1) := by decide +kernel
theorem dX7_setMiles_9 : decode cX7_setMiles 9 = .ok (.aload_n 2, 1) := by decide +kernel
theorem dX7_setMiles_10 : decode cX7_setMiles 10 = .ok (.getfield 29, 3) := by decide +kernel
theorem dX7_setMiles_13 : decode cX7_setMiles 13 = .ok (.iload_n 3, 1) := by decide +kernel
theorem dX7_setMiles_14 : decode cX7_setMiles 14 = .ok (.iastore, 1) := by decide +kernel
theorem dX7_setMiles_15 : decode cX7_setMiles 15 = .ok (.aload_n 0, 1) := by decide +kernel
theorem dX7_setMiles_16 : decode cX7_setMiles 16 = .ok (.getfield 20, 3) := by decide +kernel
theorem dX7_setMiles_19 : decode cX7_setMiles 19 = .ok (.aload_n 2, 1) := by decide +kernel
theorem dX7_setMiles_20 : decode cX7_setMiles 20 = .ok (.getfield 29, 3) := by decide +kernel
theorem dX7_setMiles_23 : decode cX7_setMiles 23 = .ok (.aaload, 1) := by decide +kernel
theorem dX7_setMiles_24 : decode cX7_setMiles 24 = .ok (.aload_n 1, 1) := by decide +kernel
theorem dX7_setMiles_25 : decode cX7_setMiles 25 = .ok (.getfield 29, 3) := by decide +kernel
theorem dX7_setMiles_28 : decode cX7_setMiles 28 = .ok (.iload_n 3, 1) := by decide +kernel
theorem dX7_setMiles_29 : decode cX7_setMiles 29 = .ok (.iastore, 1) := by decide +kernel
theorem dX7_setMiles_30 : decode cX7_setMiles 30 = .ok (.return_, 1) := by decide +kernel
theorem dX7_take_0 : decode cX7_take 0 = .ok (.aload_n 1, 1) := by decide +kernel
theorem dX7_take_1 : decode cX7_take 1 = .ok (.getfield 33, 3) := by decide +kernel
theorem dX7_take_4 : decode cX7_take 4 = .ok (.aload_n 2, 1) := by decide +kernel
theorem dX7_take_5 : decode cX7_take 5 = .ok (.getfield 33, 3) := by decide +kernel
theorem dX7_take_8 : decode cX7_take 8 = .ok (.if_icmp .ne 41, 3) := by decide +kernel
theorem dX7_take_11 : decode cX7_take 11 = .ok (.aload_n 1, 1) := by decide +kernel
theorem dX7_take_12 : decode cX7_take 12 = .ok (.getfield 36, 3) := by decide +kernel
theorem dX7_take_15 : decode cX7_take 15 = .ok (.aload_n 2, 1) := by decide +kernel
theorem dX7_take_16 : decode cX7_take 16 = .ok (.getfield 36, 3) := by decide +kernel
theorem dX7_take_19 : decode cX7_take 19 = .ok (.isub, 1) := by decide +kernel
theorem dX7_take_20 : decode cX7_take 20 = .ok (.iload_n 3, 1) := by decide +kernel
theorem dX7_take_21 : decode cX7_take 21 = .ok (.if_icmp .ne 7, 3) := by decide +kernel
theorem dX7_take_24 : decode cX7_take 24 = .ok (.iconst 1, 1) := by decide +kernel
theorem dX7_take_25 : decode cX7_take 25 = .ok (.goto 4, 3) := by decide +kernel
theorem dX7_take_28 : decode cX7_take 28 = .ok (.iconst 0, 1) := by decide +kernel
theorem dX7_take_29 : decode cX7_take 29 = .ok (.istore 4, 2) := by decide +kernel
theorem dX7_take_31 : decode cX7_take 31 = .ok (.iload 4, 2) := by decide +kernel
theorem dX7_take_33 : decode cX7_take 33 = .ok (.ifCond .ne 13, 3) := by decide +kernel
theorem dX7_take_36 : decode cX7_take 36 = .ok (.aload_n 0, 1) := by decide +kernel
theorem dX7_take_37 : decode cX7_take 37 = .ok (.dup, 1) := by decide +kernel
theorem dX7_take_38 : decode cX7_take 38 = .ok (.getfield 39, 3) := by decide +kernel
theorem dX7_take_41 : decode cX7_take 41 = .ok (.iconst 1, 1) := by decide +kernel
theorem dX7_take_42 : decode cX7_take 42 = .ok (.iadd, 1) := by decide +kernel
theorem dX7_take_43 : decode cX7_take 43 = .ok (.putfield 39, 3) := by decide +kernel
theorem dX7_take_46 : decode cX7_take 46 = .ok (.iload 4, 2) := by decide +kernel
theorem dX7_take_48 : decode cX7_take 48 = .ok (.ireturn, 1) := by decide +kernel
theorem dX7_take_49 : decode cX7_take 49 = .ok (.aload_n 1, 1) := by decide +kernel
theorem dX7_take_50 : decode cX7_take 50 = .ok (.getfield 33, 3) := by decide +kernel
theorem dX7_take_53 : decode cX7_take 53 = .ok (.aload_n 2, 1) := by decide +kernel
theorem dX7_take_54 : decode cX7_take 54 = .ok (.getfield 33, 3) := by decide +kernel
theorem dX7_take_57 : decode cX7_take 57 = .ok (.if_icmp .ge 29, 3) := by decide +kernel
theorem dX7_take_60 : decode cX7_take 60 = .ok (.aload_n 0, 1) := by decide +kernel
theorem dX7_take_61 : decode cX7_take 61 = .ok (.aload_n 2, 1) := by decide +kernel
theorem dX7_take_62 : decode cX7_take 62 = .ok (.getfield 33, 3) := by decide +kernel
theorem dX7_take_65 : decode cX7_take 65 = .ok (.aload_n 1, 1) := by decide +kernel
theorem dX7_take_66 : decode cX7_take 66 = .ok (.getfield 33, 3) := by decide +kernel
theorem dX7_take_69 : decode cX7_take 69 = .ok (.aload_n 1, 1) := by decide +kernel
theorem dX7_take_70 : decode cX7_take 70 = .ok (.getfield 36, 3) := by decide +kernel
theorem dX7_take_73 : decode cX7_take 73 = .ok (.iload_n 3, 1) := by decide +kernel
theorem dX7_take_74 : decode cX7_take 74 = .ok (.isub, 1) := by decide +kernel
theorem dX7_take_75 : decode cX7_take 75 = .ok (.aload_n 2, 1) := by decide +kernel
theorem dX7_take_76 : decode cX7_take 76 = .ok (.getfield 36, 3) := by decide +kernel
theorem dX7_take_79 : decode cX7_take 79 = .ok (.isub, 1) := by decide +kernel
theorem dX7_take_80 : decode cX7_take 80 = .ok (.invokevirtual 42, 3) := by decide +kernel
theorem dX7_take_83 : decode cX7_take 83 = .ok (.goto 26, 3) := by decide +kernel
theorem dX7_take_86 : decode cX7_take 86 = .ok (.aload_n 0, 1) := by decide +kernel
theorem dX7_take_87 : decode cX7_take 87 = .ok (.aload_n 1, 1) := by decide +kernel
theorem dX7_take_88 : decode cX7_take 88 = .ok (.getfield 33, 3) := by decide +kernel
theorem dX7_take_91 : decode cX7_take 91 = .ok (.aload_n 2, 1) := by decide +kernel
theorem dX7_take_92 : decode cX7_take 92 = .ok (.getfield 33, 3) := by decide +kernel
theorem dX7_take_95 : decode cX7_take 95 = .ok (.aload_n 2, 1) := by decide +kernel
theorem dX7_take_96 : decode cX7_take 96 = .ok (.getfield 36, 3) := by decide +kernel
theorem dX7_take_99 : decode cX7_take 99 = .ok (.iload_n 3, 1) := by decide +kernel
theorem dX7_take_100 : decode cX7_take 100 = .ok (.iadd, 1) := by decide +kernel
theorem dX7_take_101 : decode cX7_take 101 = .ok (.aload_n 1, 1) := by decide +kernel
theorem dX7_take_102 : decode cX7_take 102 = .ok (.getfield 36, 3) := by decide +kernel
theorem dX7_take_105 : decode cX7_take 105 = .ok (.isub, 1) := by decide +kernel
theorem dX7_take_106 : decode cX7_take 106 = .ok (.invokevirtual 42, 3) := by decide +kernel
theorem dX7_take_109 : decode cX7_take 109 = .ok (.iconst 1, 1) := by decide +kernel
theorem dX7_take_110 : decode cX7_take 110 = .ok (.ireturn, 1) := by decide +kernel
theorem dX7_move_0 : decode cX7_move 0 = .ok (.iconst 0, 1) := by decide +kernel
theorem dX7_move_1 : decode cX7_move 1 = .ok (.istore 4, 2) := by decide +kernel
theorem dX7_move_3 : decode cX7_move 3 = .ok (.iload 4, 2) := by decide +kernel
theorem dX7_move_5 : decode cX7_move 5 = .ok (.bipush 10, 2) := by decide +kernel
theorem dX7_move_7 : decode cX7_move 7 = .ok (.if_icmp .ge 44, 3) := by decide +kernel
theorem dX7_move_10 : decode cX7_move 10 = .ok (.aload_n 0, 1) := by decide +kernel
theorem dX7_move_11 : decode cX7_move 11 = .ok (.getfield 11, 3) := by decide +kernel
theorem dX7_move_14 : decode cX7_move 14 = .ok (.iload 4, 2) := by decide +kernel
theorem dX7_move_16 : decode cX7_move 16 = .ok (.aaload, 1) := by decide +kernel
theorem dX7_move_17 : decode cX7_move 17 = .ok (.astore 5, 2) := by decide +kernel
theorem dX7_move_19 : decode cX7_move 19 = .ok (.aload 5, 2) := by decide +kernel
theorem dX7_move_21 : decode cX7_move 21 = .ok (.getfield 33, 3) := by decide +kernel
theorem dX7_move_24 : decode cX7_move 24 = .ok (.iload_n 1, 1) := by decide +kernel
theorem dX7_move_25 : decode cX7_move 25 = .ok (.if_icmp .ne 20, 3) := by decide +kernel
theorem dX7_move_28 : decode cX7_move 28 = .ok (.aload 5, 2) := by decide +kernel
theorem dX7_move_30 : decode cX7_move 30 = .ok (.iload_n 2, 1) := by decide +kernel
theorem dX7_move_31 : decode cX7_move 31 = .ok (.putfield 33, 3) := by decide +kernel
theorem dX7_move_34 : decode cX7_move 34 = .ok (.aload 5, 2) := by decide +kernel
theorem dX7_move_36 : decode cX7_move 36 = .ok (.dup, 1) := by decide +kernel
theorem dX7_move_37 : decode cX7_move 37 = .ok (.getfield 36, 3) := by decide +kernel
theorem dX7_move_40 : decode cX7_move 40 = .ok (.iload_n 3, 1) := by decide +kernel
theorem dX7_move_41 : decode cX7_move 41 = .ok (.iadd, 1) := by decide +kernel
theorem dX7_move_42 : decode cX7_move 42 = .ok (.putfield 36, 3) := by decide +kernel
theorem dX7_move_45 : decode cX7_move 45 = .ok (.iinc 4 1, 3) := by decide +kernel
theorem dX7_move_48 : decode cX7_move 48 = .ok (.goto (-45), 3) := by decide +kernel
theorem dX7_move_51 : decode cX7_move 51 = .ok (.return_, 1) := by decide +kernel
theorem dX8_init_0 : decode cX8_init 0 = .ok (.aload_n 0, 1) := by decide +kernel
theorem dX8_init_1 : decode cX8_init 1 = .ok (.invokespecial 3, 3) := by decide +kernel
theorem dX8_init_4 : decode cX8_init 4 = .ok (.aload_n 0, 1) := by decide +kernel
theorem dX8_init_5 : decode cX8_init 5 = .ok (.iload_n 1, 1) := by decide +kernel
theorem dX8_init_6 : decode cX8_init 6 = .ok (.putfield 9, 3) := by decide +kernel
theorem dX8_init_9 : decode cX8_init 9 = .ok (.aload_n 0, 1) := by decide +kernel
theorem dX8_init_10 : decode cX8_init 10 = .ok (.aload_n 2, 1) := by decide +kernel
theorem dX8_init_11 : decode cX8_init 11 = .ok (.putfield 15, 3) := by decide +kernel
theorem dX8_init_14 : decode cX8_init 14 = .ok (.aload_n 0, 1) := by decide +kernel
theorem dX8_init_15 : decode cX8_init 15 = .ok (.aload_n 2, 1) := by decide +kernel
theorem dX8_init_16 : decode cX8_init 16 = .ok (.putfield 19, 3) := by decide +kernel
theorem dX8_init_19 : decode cX8_init 19 = .ok (.aload_n 0, 1) := by decide +kernel
theorem dX8_init_20 : decode cX8_init 20 = .ok (.iconst 4, 1) := by decide +kernel
theorem dX8_init_21 : decode cX8_init 21 = .ok (.anewarray 22, 3) := by decide +kernel
theorem dX8_init_24 : decode cX8_init 24 = .ok (.putfield 24, 3) := by decide +kernel
theorem dX8_init_27 : decode cX8_init 27 = .ok (.aload_n 0, 1) := by decide +kernel
theorem dX8_init_28 : decode cX8_init 28 = .ok (.getfield 24, 3) := by decide +kernel
theorem dX8_init_31 : decode cX8_init 31 = .ok (.iconst 0, 1) := by decide +kernel
theorem dX8_init_32 : decode cX8_init 32 = .ok (.aload_n 2, 1) := by decide +kernel
theorem dX8_init_33 : decode cX8_init 33 = .ok (.aastore, 1) := by decide +kernel
theorem dX8_init_34 : decode cX8_init 34 = .ok (.aload_n 0, 1) := by decide +kernel
theorem dX8_init_35 : decode cX8_init 35 = .ok (.iconst 1, 1) := by decide +kernel
theorem dX8_init_36 : decode cX8_init 36 = .ok (.putfield 28, 3) := by decide +kernel
theorem dX8_init_39 : decode cX8_init 39 = .ok (.aload_n 0, 1) := by decide +kernel
theorem dX8_init_40 : decode cX8_init 40 = .ok (.iconst 5, 1) := by decide +kernel
theorem dX8_init_41 : decode cX8_init 41 = .ok (.newarray .int, 2) := by decide +kernel
theorem dX8_init_43 : decode cX8_init 43 = .ok (.putfield 31, 3) := by decide +kernel
theorem dX8_init_46 : decode cX8_init 46 = .ok (.return_, 1) := by decide +kernel
theorem dX8_isFull_0 : decode cX8_isFull 0 = .ok (.aload_n 0, 1) := by decide +kernel
theorem dX8_isFull_1 : decode cX8_isFull 1 = .ok (.getfield 28, 3) := by decide +kernel
theorem dX8_isFull_4 : decode cX8_isFull 4 = .ok (.iconst 4, 1) := by decide +kernel
theorem dX8_isFull_5 : decode cX8_isFull 5 = .ok (.if_icmp .lt 7, 3) := by decide +kernel
theorem dX8_isFull_8 : decode cX8_isFull 8 = .ok (.iconst 1, 1) := by decide +kernel
theorem dX8_isFull_9 : decode cX8_isFull 9 = .ok (.goto 4, 3) := by decide +kernel
theorem dX8_isFull_12 : decode cX8_isFull 12 = .ok (.iconst 0, 1) := by decide +kernel
theorem dX8_isFull_13 : decode cX8_isFull 13 = .ok (.ireturn, 1) := by decide +kernel
theorem dX8_isFollowedBy_0 : decode cX8_isFollowedBy 0 = .ok (.aload_n 1, 1) := by decide +kernel
theorem dX8_isFollowedBy_1 : decode cX8_isFollowedBy 1 = .ok (.getfield 35, 3) := by decide +kernel
theorem dX8_isFollowedBy_4 : decode cX8_isFollowedBy 4 = .ok (.aload_n 0, 1) := by decide +kernel
theorem dX8_isFollowedBy_5 : decode cX8_isFollowedBy 5 = .ok (.getfield 19, 3) := by decide +kernel
theorem dX8_isFollowedBy_8 : decode cX8_isFollowedBy 8 = .ok (.getfield 39, 3) := by decide +kernel
theorem dX8_isFollowedBy_11 : decode cX8_isFollowedBy 11 = .ok (.if_acmp .ne 23, 3) := by decide +kernel
theorem dX8_isFollowedBy_14 : decode cX8_isFollowedBy 14 = .ok (.aload_n 1, 1) := by decide +kernel
theorem dX8_isFollowedBy_15 : decode cX8_isFollowedBy 15 = .ok (.getfield 42, 3) := by decide +kernel
theorem dX8_isFollowedBy_18 : decode cX8_isFollowedBy 18 = .ok (.aload_n 0, 1) := by decide +kernel
theorem dX8_isFollowedBy_19 : decode cX8_isFollowedBy 19 = .ok (.getfield 19, 3) := by decide +kernel
theorem dX8_isFollowedBy_22 : decode cX8_isFollowedBy 22 = .ok (.getfield 45, 3) := by decide +kernel
theorem dX8_isFollowedBy_25 : decode cX8_isFollowedBy 25 = .ok (.isub, 1) := by decide +kernel
theorem dX8_isFollowedBy_26 : decode cX8_isFollowedBy 26 = .ok (.iload_n 2, 1) := by decide +kernel
theorem dX8_isFollowedBy_27 : decode cX8_isFollowedBy 27 = .ok (.if_icmp .lt 7, 3) := by decide +kernel
theorem dX8_isFollowedBy_30 : decode cX8_isFollowedBy 30 = .ok (.iconst 1, 1) := by decide +kernel
theorem dX8_isFollowedBy_31 : decode cX8_isFollowedBy 31 = .ok (.goto 4, 3) := by decide +kernel
theorem dX8_isFollowedBy_34 : decode cX8_isFollowedBy 34 = .ok (.iconst 0, 1) := by decide +kernel
theorem dX8_isFollowedBy_35 : decode cX8_isFollowedBy 35 = .ok (.ireturn, 1) := by decide +kernel
theorem dX8_add_0 : decode cX8_add 0 = .ok (.aload_n 0, 1) := by decide +kernel
theorem dX8_add_1 : decode cX8_add 1 = .ok (.getfield 24, 3) := by decide +kernel
theorem dX8_add_4 : decode cX8_add 4 = .ok (.aload_n 0, 1) := by decide +kernel
theorem dX8_add_5 : decode cX8_add 5 = .ok (.getfield 28, 3) := by decide +kernel
theorem dX8_add_8 : decode cX8_add 8 = .ok (.aload_n 1, 1) := by decide +kernel
theorem dX8_add_9 : decode cX8_add 9 = .ok (.aastore, 1) := by decide +kernel
theorem dX8_add_10 : decode cX8_add 10 = .ok (.aload_n 0, 1) := by decide +kernel
theorem dX8_add_11 : decode cX8_add 11 = .ok (.aload_n 1, 1) := by decide +kernel
theorem dX8_add_12 : decode cX8_add 12 = .ok (.putfield 19, 3) := by decide +kernel
theorem dX8_add_15 : decode cX8_add 15 = .ok (.aload_n 0, 1) := by decide +kernel
theorem dX8_add_16 : decode cX8_add 16 = .ok (.dup, 1) := by decide +kernel
theorem dX8_add_17 : decode cX8_add 17 = .ok (.getfield 28, 3) := by decide +kernel
theorem dX8_add_20 : decode cX8_add 20 = .ok (.iconst 1, 1) := by decide +kernel
theorem dX8_add_21 : decode cX8_add 21 = .ok (.iadd, 1) := by decide +kernel
theorem dX8_add_22 : decode cX8_add 22 = .ok (.putfield 28, 3) := by decide +kernel
theorem dX8_add_25 : decode cX8_add 25 = .ok (.return_, 1) := by decide +kernel
theorem dX8_missedPlace_0 : decode cX8_missedPlace 0 = .ok (.iconst 0, 1) := by decide +kernel
theorem dX8_missedPlace_1 : decode cX8_missedPlace 1 = .ok (.istore_n 2, 1) := by decide +kernel
theorem dX8_missedPlace_2 : decode cX8_missedPlace 2 = .ok (.iload_n 2, 1) := by decide +kernel
theorem dX8_missedPlace_3 : decode cX8_missedPlace 3 = .ok (.aload_n 0, 1) := by decide +kernel
theorem dX8_missedPlace_4 : decode cX8_missedPlace 4 = .ok (.getfield 28, 3) := by decide +kernel
theorem dX8_missedPlace_7 : decode cX8_missedPlace 7 = .ok (.if_icmp .ge 54, 3) := by decide +kernel
theorem dX8_missedPlace_10 : decode cX8_missedPlace 10 = .ok (.aload_n 0, 1) := by decide +kernel
theorem dX8_missedPlace_11 : decode cX8_missedPlace 11 = .ok (.getfield 24, 3) := by decide +kernel
theorem dX8_missedPlace_14 : decode cX8_missedPlace 14 = .ok (.iload_n 2, 1) := by decide +kernel
theorem dX8_missedPlace_15 : decode cX8_missedPlace 15 = .ok (.aaload, 1) := by decide +kernel
theorem dX8_missedPlace_16 : decode cX8_missedPlace 16 = .ok (.getfield 48, 3) := by decide +kernel
theorem dX8_missedPlace_19 : decode cX8_missedPlace 19 = .ok (.ifCond .ne 5, 3) := by decide +kernel
theorem dX8_missedPlace_22 : decode cX8_missedPlace 22 = .ok (.iload_n 2, 1) := by decide +kernel
theorem dX8_missedPlace_23 : decode cX8_missedPlace 23 = .ok (.ireturn, 1) := by decide +kernel
theorem dX8_missedPlace_24 : decode cX8_missedPlace 24 = .ok (.iload_n 2, 1) := by decide +kernel
theorem dX8_missedPlace_25 : decode cX8_missedPlace 25 = .ok (.ifCond .le 30, 3) := by decide +kernel
theorem dX8_missedPlace_28 : decode cX8_missedPlace 28 = .ok (.aload_n 0, 1) := by decide +kernel
theorem dX8_missedPlace_29 : decode cX8_missedPlace 29 = .ok (.getfield 24, 3) := by decide +kernel
theorem dX8_missedPlace_32 : decode cX8_missedPlace 32 = .ok (.iload_n 2, 1) := by decide +kernel
theorem dX8_missedPlace_33 : decode cX8_missedPlace 33 = .ok (.aaload, 1) := by decide +kernel
theorem dX8_missedPlace_34 : decode cX8_missedPlace 34 = .ok (.getfield 52, 3) := by decide +kernel
theorem dX8_missedPlace_37 : decode cX8_missedPlace 37 = .ok (.aload_n 0, 1) := by decide +kernel
theorem dX8_missedPlace_38 : decode cX8_missedPlace 38 = .ok (.getfield 24, 3) := by decide +kernel
theorem dX8_missedPlace_41 : decode cX8_missedPlace 41 = .ok (.iload_n 2, 1) := by decide +kernel
theorem dX8_missedPlace_42 : decode cX8_missedPlace 42 = .ok (.iconst 1, 1) := by decide +kernel
theorem dX8_missedPlace_43 : decode cX8_missedPlace 43 = .ok (.isub, 1) := by decide +kernel
theorem dX8_missedPlace_44 : decode cX8_missedPlace 44 = .ok (.aaload, 1) := by decide +kernel
theorem dX8_missedPlace_45 : decode cX8_missedPlace 45 = .ok (.getfield 55, 3) := by decide +kernel
theorem dX8_missedPlace_48 : decode cX8_missedPlace 48 = .ok (.isub, 1) := by decide +kernel
theorem dX8_missedPlace_49 : decode cX8_missedPlace 49 = .ok (.iload_n 1, 1) := by decide +kernel
theorem dX8_missedPlace_50 : decode cX8_missedPlace 50 = .ok (.if_icmp .ge 5, 3) := by decide +kernel
theorem dX8_missedPlace_53 : decode cX8_missedPlace 53 = .ok (.iload_n 2, 1) := by decide +kernel
theorem dX8_missedPlace_54 : decode cX8_missedPlace 54 = .ok (.ireturn, 1) := by decide +kernel
theorem dX8_missedPlace_55 : decode cX8_missedPlace 55 = .ok (.iinc 2 1, 3) := by decide +kernel
theorem dX8_missedPlace_58 : decode cX8_missedPlace 58 = .ok (.goto (-56), 3) := by decide +kernel
theorem dX8_missedPlace_61 : decode cX8_missedPlace 61 = .ok (.bipush (-9), 2) := by decide +kernel
theorem dX8_missedPlace_63 : decode cX8_missedPlace 63 = .ok (.ireturn, 1) := by decide +kernel
theorem dX8_legAtFault_0 : decode cX8_legAtFault 0 = .ok (.aload_n 0, 1) := by decide +kernel
theorem dX8_legAtFault_1 : decode cX8_legAtFault 1 = .ok (.iload_n 1, 1) := by decide +kernel
theorem dX8_legAtFault_2 : decode cX8_legAtFault 2 = .ok (.invokevirtual 58, 3) := by decide +kernel
theorem dX8_legAtFault_5 : decode cX8_legAtFault 5 = .ok (.istore_n 2, 1) := by decide +kernel
theorem dX8_legAtFault_6 : decode cX8_legAtFault 6 = .ok (.iload_n 2, 1) := by decide +kernel
theorem dX8_legAtFault_7 : decode cX8_legAtFault 7 = .ok (.bipush (-9), 2) := by decide +kernel
theorem dX8_legAtFault_9 : decode cX8_legAtFault 9 = .ok (.if_icmp .ne 8, 3) := by decide +kernel
theorem dX8_legAtFault_12 : decode cX8_legAtFault 12 = .ok (.aload_n 0, 1) := by decide +kernel
theorem dX8_legAtFault_13 : decode cX8_legAtFault 13 = .ok (.getfield 19, 3) := by decide +kernel
theorem dX8_legAtFault_16 : decode cX8_legAtFault 16 = .ok (.areturn, 1) := by decide +kernel
theorem dX8_legAtFault_17 : decode cX8_legAtFault 17 = .ok (.iload_n 2, 1) := by decide +kernel
theorem dX8_legAtFault_18 : decode cX8_legAtFault 18 = .ok (.ifCond .eq 15, 3) := by decide +kernel
theorem dX8_legAtFault_21 : decode cX8_legAtFault 21 = .ok (.aload_n 0, 1) := by decide +kernel
theorem dX8_legAtFault_22 : decode cX8_legAtFault 22 = .ok (.getfield 24, 3) := by decide +kernel
theorem dX8_legAtFault_25 : decode cX8_legAtFault 25 = .ok (.iload_n 2, 1) := by decide +kernel
theorem dX8_legAtFault_26 : decode cX8_legAtFault 26 = .ok (.aaload, 1) := by decide +kernel
theorem dX8_legAtFault_27 : decode cX8_legAtFault 27 = .ok (.getfield 48, 3) := by decide +kernel
theorem dX8_legAtFault_30 : decode cX8_legAtFault 30 = .ok (.ifCond .ne 12, 3) := by decide +kernel
theorem dX8_legAtFault_33 : decode cX8_legAtFault 33 = .ok (.aload_n 0, 1) := by decide +kernel
theorem dX8_legAtFault_34 : decode cX8_legAtFault 34 = .ok (.getfield 24, 3) := by decide +kernel
theorem dX8_legAtFault_37 : decode cX8_legAtFault 37 = .ok (.iload_n 2, 1) := by decide +kernel
theorem dX8_legAtFault_38 : decode cX8_legAtFault 38 = .ok (.aaload, 1) := by decide +kernel
theorem dX8_legAtFault_39 : decode cX8_legAtFault 39 = .ok (.goto 11, 3) := by decide +kernel
theorem dX8_legAtFault_42 : decode cX8_legAtFault 42 = .ok (.aload_n 0, 1) := by decide +kernel
theorem dX8_legAtFault_43 : decode cX8_legAtFault 43 = .ok (.getfield 24, 3) := by decide +kernel
theorem dX8_legAtFault_46 : decode cX8_legAtFault 46 = .ok (.iload_n 2, 1) := by decide +kernel
theorem dX8_legAtFault_47 : decode cX8_legAtFault 47 = .ok (.iconst 1, 1) := by decide +kernel
theorem dX8_legAtFault_48 : decode cX8_legAtFault 48 = .ok (.isub, 1) := by decide +kernel
theorem dX8_legAtFault_49 : decode cX8_legAtFault 49 = .ok (.aaload, 1) := by decide +kernel
theorem dX8_legAtFault_50 : decode cX8_legAtFault 50 = .ok (.areturn, 1) := by decide +kernel
theorem dX8_leaveDay_0 : decode cX8_leaveDay 0 = .ok (.aload_n 0, 1) := by decide +kernel
theorem dX8_leaveDay_1 : decode cX8_leaveDay 1 = .ok (.getfield 15, 3) := by decide +kernel
theorem dX8_leaveDay_4 : decode cX8_leaveDay 4 = .ok (.getfield 42, 3) := by decide +kernel
theorem dX8_leaveDay_7 : decode cX8_leaveDay 7 = .ok (.sipush 1440, 3) := by decide +kernel
theorem dX8_leaveDay_10 : decode cX8_leaveDay 10 = .ok (.idiv, 1) := by decide +kernel
theorem dX8_leaveDay_11 : decode cX8_leaveDay 11 = .ok (.ireturn, 1) := by decide +kernel
theorem dX8_arriveDay_0 : decode cX8_arriveDay 0 = .ok (.aload_n 0, 1) := by decide +kernel
theorem dX8_arriveDay_1 : decode cX8_arriveDay 1 = .ok (.getfield 19, 3) := by decide +kernel
theorem dX8_arriveDay_4 : decode cX8_arriveDay 4 = .ok (.getfield 45, 3) := by decide +kernel
theorem dX8_arriveDay_7 : decode cX8_arriveDay 7 = .ok (.sipush 1440, 3) := by decide +kernel
theorem dX8_arriveDay_10 : decode cX8_arriveDay 10 = .ok (.idiv, 1) := by decide +kernel
theorem dX8_arriveDay_11 : decode cX8_arriveDay 11 = .ok (.ireturn, 1) := by decide +kernel
theorem dX9_init_0 : decode cX9_init 0 = .ok (.aload_n 0, 1) := by decide +kernel
theorem dX9_init_1 : decode cX9_init 1 = .ok (.invokespecial 1, 3) := by decide +kernel
theorem dX9_init_4 : decode cX9_init 4 = .ok (.aload_n 0, 1) := by decide +kernel
theorem dX9_init_5 : decode cX9_init 5 = .ok (.bipush 20, 2) := by decide +kernel
theorem dX9_init_7 : decode cX9_init 7 = .ok (.anewarray 9, 3) := by decide +kernel
theorem dX9_init_10 : decode cX9_init 10 = .ok (.putfield 11, 3) := by decide +kernel
theorem dX9_init_13 : decode cX9_init 13 = .ok (.return_, 1) := by decide +kernel
theorem dX9_isFull_0 : decode cX9_isFull 0 = .ok (.aload_n 0, 1) := by decide +kernel
theorem dX9_isFull_1 : decode cX9_isFull 1 = .ok (.getfield 15, 3) := by decide +kernel
theorem dX9_isFull_4 : decode cX9_isFull 4 = .ok (.bipush 20, 2) := by decide +kernel
theorem dX9_isFull_6 : decode cX9_isFull 6 = .ok (.if_icmp .lt 7, 3) := by decide +kernel
theorem dX9_isFull_9 : decode cX9_isFull 9 = .ok (.iconst 1, 1) := by decide +kernel
theorem dX9_isFull_10 : decode cX9_isFull 10 = .ok (.goto 4, 3) := by decide +kernel
theorem dX9_isFull_13 : decode cX9_isFull 13 = .ok (.iconst 0, 1) := by decide +kernel
theorem dX9_isFull_14 : decode cX9_isFull 14 = .ok (.ireturn, 1) := by decide +kernel
theorem dX9_find_0 : decode cX9_find 0 = .ok (.aload_n 0, 1) := by decide +kernel
theorem dX9_find_1 : decode cX9_find 1 = .ok (.getfield 15, 3) := by decide +kernel
theorem dX9_find_4 : decode cX9_find 4 = .ok (.iload_n 1, 1) := by decide +kernel
theorem dX9_find_5 : decode cX9_find 5 = .ok (.invokestatic 19, 3) := by decide +kernel
theorem dX9_find_8 : decode cX9_find 8 = .ok (.ifCond .eq 12, 3) := by decide +kernel
theorem dX9_find_11 : decode cX9_find 11 = .ok (.aload_n 0, 1) := by decide +kernel
theorem dX9_find_12 : decode cX9_find 12 = .ok (.getfield 11, 3) := by decide +kernel
theorem dX9_find_15 : decode cX9_find 15 = .ok (.iload_n 1, 1) := by decide +kernel
theorem dX9_find_16 : decode cX9_find 16 = .ok (.aaload, 1) := by decide +kernel
theorem dX9_find_17 : decode cX9_find 17 = .ok (.goto 4, 3) := by decide +kernel
theorem dX9_find_20 : decode cX9_find 20 = .ok (.aconst_null, 1) := by decide +kernel
theorem dX9_find_21 : decode cX9_find 21 = .ok (.areturn, 1) := by decide +kernel
theorem dX9_add_0 : decode cX9_add 0 = .ok (.aload_n 0, 1) := by decide +kernel
theorem dX9_add_1 : decode cX9_add 1 = .ok (.getfield 11, 3) := by decide +kernel
theorem dX9_add_4 : decode cX9_add 4 = .ok (.aload_n 0, 1) := by decide +kernel
theorem dX9_add_5 : decode cX9_add 5 = .ok (.getfield 15, 3) := by decide +kernel
theorem dX9_add_8 : decode cX9_add 8 = .ok (.new 9, 3) := by decide +kernel
theorem dX9_add_11 : decode cX9_add 11 = .ok (.dup, 1) := by decide +kernel
theorem dX9_add_12 : decode cX9_add 12 = .ok (.aload_n 0, 1) := by decide +kernel
theorem dX9_add_13 : decode cX9_add 13 = .ok (.getfield 15, 3) := by decide +kernel
theorem dX9_add_16 : decode cX9_add 16 = .ok (.aload_n 1, 1) := by decide +kernel
theorem dX9_add_17 : decode cX9_add 17 = .ok (.invokespecial 25, 3) := by decide +kernel
theorem dX9_add_20 : decode cX9_add 20 = .ok (.aastore, 1) := by decide +kernel
theorem dX9_add_21 : decode cX9_add 21 = .ok (.aload_n 0, 1) := by decide +kernel
theorem dX9_add_22 : decode cX9_add 22 = .ok (.dup, 1) := by decide +kernel
theorem dX9_add_23 : decode cX9_add 23 = .ok (.getfield 15, 3) := by decide +kernel
theorem dX9_add_26 : decode cX9_add 26 = .ok (.iconst 1, 1) := by decide +kernel
theorem dX9_add_27 : decode cX9_add 27 = .ok (.iadd, 1) := by decide +kernel
theorem dX9_add_28 : decode cX9_add 28 = .ok (.putfield 15, 3) := by decide +kernel
theorem dX9_add_31 : decode cX9_add 31 = .ok (.aload_n 0, 1) := by decide +kernel
theorem dX9_add_32 : decode cX9_add 32 = .ok (.getfield 15, 3) := by decide +kernel
theorem dX9_add_35 : decode cX9_add 35 = .ok (.iconst 1, 1) := by decide +kernel
theorem dX9_add_36 : decode cX9_add 36 = .ok (.isub, 1) := by decide +kernel
theorem dX9_add_37 : decode cX9_add 37 = .ok (.ireturn, 1) := by decide +kernel
theorem dX10_init_0 : decode cX10_init 0 = .ok (.aload_n 0, 1) := by decide +kernel
theorem dX10_init_1 : decode cX10_init 1 = .ok (.invokespecial 3, 3) := by decide +kernel
theorem dX10_init_4 : decode cX10_init 4 = .ok (.aload_n 0, 1) := by decide +kernel
theorem dX10_init_5 : decode cX10_init 5 = .ok (.bipush 40, 2) := by decide +kernel
theorem dX10_init_7 : decode cX10_init 7 = .ok (.anewarray 11, 3) := by decide +kernel
theorem dX10_init_10 : decode cX10_init 10 = .ok (.putfield 13, 3) := by decide +kernel
theorem dX10_init_13 : decode cX10_init 13 = .ok (.aload_n 0, 1) := by decide +kernel
theorem dX10_init_14 : decode cX10_init 14 = .ok (.bipush 6, 2) := by decide +kernel
theorem dX10_init_16 : decode cX10_init 16 = .ok (.newarray .int, 2) := by decide +kernel
theorem dX10_init_18 : decode cX10_init 18 = .ok (.putfield 17, 3) := by decide +kernel
theorem dX10_init_21 : decode cX10_init 21 = .ok (.aload_n 0, 1) := by decide +kernel
theorem dX10_init_22 : decode cX10_init 22 = .ok (.bipush 40, 2) := by decide +kernel
theorem dX10_init_24 : decode cX10_init 24 = .ok (.newarray .boolean, 2) := by decide +kernel
theorem dX10_init_26 : decode cX10_init 26 = .ok (.putfield 21, 3) := by decide +kernel
theorem dX10_init_29 : decode cX10_init 29 = .ok (.aload_n 0, 1) := by decide +kernel
theorem dX10_init_30 : decode cX10_init 30 = .ok (.bipush 40, 2) := by decide +kernel
theorem dX10_init_32 : decode cX10_init 32 = .ok (.anewarray 11, 3) := by decide +kernel
theorem dX10_init_35 : decode cX10_init 35 = .ok (.putfield 25, 3) := by decide +kernel
theorem dX10_init_38 : decode cX10_init 38 = .ok (.return_, 1) := by decide +kernel
theorem dX10_isFull_0 : decode cX10_isFull 0 = .ok (.aload_n 0, 1) := by decide +kernel
theorem dX10_isFull_1 : decode cX10_isFull 1 = .ok (.getfield 28, 3) := by decide +kernel
theorem dX10_isFull_4 : decode cX10_isFull 4 = .ok (.bipush 40, 2) := by decide +kernel
theorem dX10_isFull_6 : decode cX10_isFull 6 = .ok (.if_icmp .lt 7, 3) := by decide +kernel
theorem dX10_isFull_9 : decode cX10_isFull 9 = .ok (.iconst 1, 1) := by decide +kernel
theorem dX10_isFull_10 : decode cX10_isFull 10 = .ok (.goto 4, 3) := by decide +kernel
theorem dX10_isFull_13 : decode cX10_isFull 13 = .ok (.iconst 0, 1) := by decide +kernel
theorem dX10_isFull_14 : decode cX10_isFull 14 = .ok (.ireturn, 1) := by decide +kernel
theorem dX10_find_0 : decode cX10_find 0 = .ok (.aload_n 0, 1) := by decide +kernel
theorem dX10_find_1 : decode cX10_find 1 = .ok (.getfield 28, 3) := by decide +kernel
theorem dX10_find_4 : decode cX10_find 4 = .ok (.iload_n 1, 1) := by decide +kernel
theorem dX10_find_5 : decode cX10_find 5 = .ok (.invokestatic 32, 3) := by decide +kernel
theorem dX10_find_8 : decode cX10_find 8 = .ok (.ifCond .eq 12, 3) := by decide +kernel
theorem dX10_find_11 : decode cX10_find 11 = .ok (.aload_n 0, 1) := by decide +kernel
theorem dX10_find_12 : decode cX10_find 12 = .ok (.getfield 13, 3) := by decide +kernel
theorem dX10_find_15 : decode cX10_find 15 = .ok (.iload_n 1, 1) := by decide +kernel
theorem dX10_find_16 : decode cX10_find 16 = .ok (.aaload, 1) := by decide +kernel
theorem dX10_find_17 : decode cX10_find 17 = .ok (.goto 4, 3) := by decide +kernel
theorem dX10_find_20 : decode cX10_find 20 = .ok (.aconst_null, 1) := by decide +kernel
theorem dX10_find_21 : decode cX10_find 21 = .ok (.areturn, 1) := by decide +kernel
theorem dX10_add_0 : decode cX10_add 0 = .ok (.aload_n 0, 1) := by decide +kernel
theorem dX10_add_1 : decode cX10_add 1 = .ok (.getfield 13, 3) := by decide +kernel
theorem dX10_add_4 : decode cX10_add 4 = .ok (.aload_n 0, 1) := by decide +kernel
theorem dX10_add_5 : decode cX10_add 5 = .ok (.getfield 28, 3) := by decide +kernel
theorem dX10_add_8 : decode cX10_add 8 = .ok (.new 11, 3) := by decide +kernel
theorem dX10_add_11 : decode cX10_add 11 = .ok (.dup, 1) := by decide +kernel
theorem dX10_add_12 : decode cX10_add 12 = .ok (.aload_n 0, 1) := by decide +kernel
theorem dX10_add_13 : decode cX10_add 13 = .ok (.getfield 28, 3) := by decide +kernel
theorem dX10_add_16 : decode cX10_add 16 = .ok (.aload_n 1, 1) := by decide +kernel
theorem dX10_add_17 : decode cX10_add 17 = .ok (.aload_n 2, 1) := by decide +kernel
theorem dX10_add_18 : decode cX10_add 18 = .ok (.iload_n 3, 1) := by decide +kernel
theorem dX10_add_19 : decode cX10_add 19 = .ok (.iload 4, 2) := by decide +kernel
theorem dX10_add_21 : decode cX10_add 21 = .ok (.iload 5, 2) := by decide +kernel
theorem dX10_add_23 : decode cX10_add 23 = .ok (.iload 6, 2) := by decide +kernel
theorem dX10_add_25 : decode cX10_add 25 = .ok (.invokespecial 36, 3) := by decide +kernel
theorem dX10_add_28 : decode cX10_add 28 = .ok (.aastore, 1) := by decide +kernel
theorem dX10_add_29 : decode cX10_add 29 = .ok (.aload_n 0, 1) := by decide +kernel
theorem dX10_add_30 : decode cX10_add 30 = .ok (.dup, 1) := by decide +kernel
theorem dX10_add_31 : decode cX10_add 31 = .ok (.getfield 28, 3) := by decide +kernel
theorem dX10_add_34 : decode cX10_add 34 = .ok (.iconst 1, 1) := by decide +kernel
theorem dX10_add_35 : decode cX10_add 35 = .ok (.iadd, 1) := by decide +kernel
theorem dX10_add_36 : decode cX10_add 36 = .ok (.putfield 28, 3) := by decide +kernel
theorem dX10_add_39 : decode cX10_add 39 = .ok (.aload_n 0, 1) := by decide +kernel
theorem dX10_add_40 : decode cX10_add 40 = .ok (.getfield 28, 3) := by decide +kernel
theorem dX10_add_43 : decode cX10_add 43 = .ok (.iconst 1, 1) := by decide +kernel
theorem dX10_add_44 : decode cX10_add 44 = .ok (.isub, 1) := by decide +kernel
theorem dX10_add_45 : decode cX10_add 45 = .ok (.ireturn, 1) := by decide +kernel
theorem dX10_putRight_0 : decode cX10_putRight 0 = .ok (.iconst 0, 1) := by decide +kernel
theorem dX10_putRight_1 : decode cX10_putRight 1 = .ok (.istore_n 1, 1) := by decide +kernel
theorem dX10_putRight_2 : decode cX10_putRight 2 = .ok (.iload_n 1, 1) := by decide +kernel
theorem dX10_putRight_3 : decode cX10_putRight 3 = .ok (.aload_n 0, 1) := by decide +kernel
theorem dX10_putRight_4 : decode cX10_putRight 4 = .ok (.getfield 28, 3) := by decide +kernel
theorem dX10_putRight_7 : decode cX10_putRight 7 = .ok (.if_icmp .ge 30, 3) := by decide +kernel
theorem dX10_putRight_10 : decode cX10_putRight 10 = .ok (.aload_n 0, 1) := by decide +kernel
theorem dX10_putRight_11 : decode cX10_putRight 11 = .ok (.getfield 13, 3) := by decide +kernel
theorem dX10_putRight_14 : decode cX10_putRight 14 = .ok (.iload_n 1, 1) := by decide +kernel
theorem dX10_putRight_15 : decode cX10_putRight 15 = .ok (.aaload, 1) := by decide +kernel
theorem dX10_putRight_16 : decode cX10_putRight 16 = .ok (.getfield 39, 3) := by decide +kernel
theorem dX10_putRight_19 : decode cX10_putRight 19 = .ok (.ifCond .eq 12, 3) := by decide +kernel
theorem dX10_putRight_22 : decode cX10_putRight 22 = .ok (.aload_n 0, 1) := by decide +kernel
theorem dX10_putRight_23 : decode cX10_putRight 23 = .ok (.getfield 13, 3) := by decide +kernel
theorem dX10_putRight_26 : decode cX10_putRight 26 = .ok (.iload_n 1, 1) := by decide +kernel
theorem dX10_putRight_27 : decode cX10_putRight 27 = .ok (.aaload, 1) := by decide +kernel
theorem dX10_putRight_28 : decode cX10_putRight 28 = .ok (.invokevirtual 43, 3) := by decide +kernel
theorem dX10_putRight_31 : decode cX10_putRight 31 = .ok (.iinc 1 1, 3) := by decide +kernel
theorem dX10_putRight_34 : decode cX10_putRight 34 = .ok (.goto (-32), 3) := by decide +kernel
theorem dX10_putRight_37 : decode cX10_putRight 37 = .ok (.return_, 1) := by decide +kernel
theorem dX10_countLogged_0 : decode cX10_countLogged 0 = .ok (.iconst 0, 1) := by decide +kernel
theorem dX10_countLogged_1 : decode cX10_countLogged 1 = .ok (.istore_n 1, 1) := by decide +kernel
theorem dX10_countLogged_2 : decode cX10_countLogged 2 = .ok (.iconst 0, 1) := by decide +kernel
theorem dX10_countLogged_3 : decode cX10_countLogged 3 = .ok (.istore_n 2, 1) := by decide +kernel
theorem dX10_countLogged_4 : decode cX10_countLogged 4 = .ok (.iload_n 2, 1) := by decide +kernel
theorem dX10_countLogged_5 : decode cX10_countLogged 5 = .ok (.aload_n 0, 1) := by decide +kernel
theorem dX10_countLogged_6 : decode cX10_countLogged 6 = .ok (.getfield 28, 3) := by decide +kernel
theorem dX10_countLogged_9 : decode cX10_countLogged 9 = .ok (.if_icmp .ge 24, 3) := by decide +kernel
theorem dX10_countLogged_12 : decode cX10_countLogged 12 = .ok (.aload_n 0, 1) := by decide +kernel
theorem dX10_countLogged_13 : decode cX10_countLogged 13 = .ok (.getfield 13, 3) := by decide +kernel
theorem dX10_countLogged_16 : decode cX10_countLogged 16 = .ok (.iload_n 2, 1) := by decide +kernel
theorem dX10_countLogged_17 : decode cX10_countLogged 17 = .ok (.aaload, 1) := by decide +kernel
theorem dX10_countLogged_18 : decode cX10_countLogged 18 = .ok (.getfield 39, 3) := by decide +kernel
theorem dX10_countLogged_21 : decode cX10_countLogged 21 = .ok (.ifCond .eq 6, 3) := by decide +kernel
theorem dX10_countLogged_24 : decode cX10_countLogged 24 = .ok (.iinc 1 1, 3) := by decide +kernel
theorem dX10_countLogged_27 : decode cX10_countLogged 27 = .ok (.iinc 2 1, 3) := by decide +kernel
theorem dX10_countLogged_30 : decode cX10_countLogged 30 = .ok (.goto (-26), 3) := by decide +kernel
theorem dX10_countLogged_33 : decode cX10_countLogged 33 = .ok (.iload_n 1, 1) := by decide +kernel
theorem dX10_countLogged_34 : decode cX10_countLogged 34 = .ok (.ireturn, 1) := by decide +kernel
theorem dX10_aheadOf_0 : decode cX10_aheadOf 0 = .ok (.aconst_null, 1) := by decide +kernel
theorem dX10_aheadOf_1 : decode cX10_aheadOf 1 = .ok (.astore 4, 2) := by decide +kernel
theorem dX10_aheadOf_3 : decode cX10_aheadOf 3 = .ok (.iconst 0, 1) := by decide +kernel
theorem dX10_aheadOf_4 : decode cX10_aheadOf 4 = .ok (.istore 5, 2) := by decide +kernel
theorem dX10_aheadOf_6 : decode cX10_aheadOf 6 = .ok (.iload 5, 2) := by decide +kernel
theorem dX10_aheadOf_8 : decode cX10_aheadOf 8 = .ok (.aload_n 0, 1) := by decide +kernel
theorem dX10_aheadOf_9 : decode cX10_aheadOf 9 = .ok (.getfield 28, 3) := by decide +kernel
theorem dX10_aheadOf_12 : decode cX10_aheadOf 12 = .ok (.if_icmp .ge 117, 3) := by decide +kernel
theorem dX10_aheadOf_15 : decode cX10_aheadOf 15 = .ok (.aload_n 0, 1) := by decide +kernel
theorem dX10_aheadOf_16 : decode cX10_aheadOf 16 = .ok (.getfield 13, 3) := by decide +kernel
theorem dX10_aheadOf_19 : decode cX10_aheadOf 19 = .ok (.iload 5, 2) := by decide +kernel
theorem dX10_aheadOf_21 : decode cX10_aheadOf 21 = .ok (.aaload, 1) := by decide +kernel
theorem dX10_aheadOf_22 : decode cX10_aheadOf 22 = .ok (.astore 6, 2) := by decide +kernel
theorem dX10_aheadOf_24 : decode cX10_aheadOf 24 = .ok (.iload_n 2, 1) := by decide +kernel
theorem dX10_aheadOf_25 : decode cX10_aheadOf 25 = .ok (.ifCond .eq 23, 3) := by decide +kernel
theorem dX10_aheadOf_28 : decode cX10_aheadOf 28 = .ok (.aload 6, 2) := by decide +kernel
theorem dX10_aheadOf_30 : decode cX10_aheadOf 30 = .ok (.getfield 46, 3) := by decide +kernel
theorem dX10_aheadOf_33 : decode cX10_aheadOf 33 = .ok (.aload_n 1, 1) := by decide +kernel
theorem dX10_aheadOf_34 : decode cX10_aheadOf 34 = .ok (.getfield 46, 3) := by decide +kernel
theorem dX10_aheadOf_37 : decode cX10_aheadOf 37 = .ok (.if_icmp .ne 7, 3) := by decide +kernel
theorem dX10_aheadOf_40 : decode cX10_aheadOf 40 = .ok (.iconst 1, 1) := by decide +kernel
theorem dX10_aheadOf_41 : decode cX10_aheadOf 41 = .ok (.goto 24, 3) := by decide +kernel
theorem dX10_aheadOf_44 : decode cX10_aheadOf 44 = .ok (.iconst 0, 1) := by decide +kernel
theorem dX10_aheadOf_45 : decode cX10_aheadOf 45 = .ok (.goto 20, 3) := by decide +kernel
theorem dX10_aheadOf_48 : decode cX10_aheadOf 48 = .ok (.aload 6, 2) := by decide +kernel
theorem dX10_aheadOf_50 : decode cX10_aheadOf 50 = .ok (.getfield 49, 3) := by decide +kernel
theorem dX10_aheadOf_53 : decode cX10_aheadOf 53 = .ok (.aload_n 1, 1) := by decide +kernel
theorem dX10_aheadOf_54 : decode cX10_aheadOf 54 = .ok (.getfield 49, 3) := by decide +kernel
theorem dX10_aheadOf_57 : decode cX10_aheadOf 57 = .ok (.if_icmp .ne 7, 3) := by decide +kernel
theorem dX10_aheadOf_60 : decode cX10_aheadOf 60 = .ok (.iconst 1, 1) := by decide +kernel
theorem dX10_aheadOf_61 : decode cX10_aheadOf 61 = .ok (.goto 4, 3) := by decide +kernel
theorem dX10_aheadOf_64 : decode cX10_aheadOf 64 = .ok (.iconst 0, 1) := by decide +kernel
theorem dX10_aheadOf_65 : decode cX10_aheadOf 65 = .ok (.istore 7, 2) := by decide +kernel
theorem dX10_aheadOf_67 : decode cX10_aheadOf 67 = .ok (.iload 7, 2) := by decide +kernel
theorem dX10_aheadOf_69 : decode cX10_aheadOf 69 = .ok (.ifCond .eq 54, 3) := by decide +kernel
theorem dX10_aheadOf_72 : decode cX10_aheadOf 72 = .ok (.aload 6, 2) := by decide +kernel
theorem dX10_aheadOf_74 : decode cX10_aheadOf 74 = .ok (.getfield 52, 3) := by decide +kernel
theorem dX10_aheadOf_77 : decode cX10_aheadOf 77 = .ok (.aload_n 1, 1) := by decide +kernel
theorem dX10_aheadOf_78 : decode cX10_aheadOf 78 = .ok (.getfield 56, 3) := by decide +kernel
theorem dX10_aheadOf_81 : decode cX10_aheadOf 81 = .ok (.if_acmp .ne 42, 3) := by decide +kernel
theorem dX10_aheadOf_84 : decode cX10_aheadOf 84 = .ok (.aload_n 1, 1) := by decide +kernel
theorem dX10_aheadOf_85 : decode cX10_aheadOf 85 = .ok (.getfield 59, 3) := by decide +kernel
theorem dX10_aheadOf_88 : decode cX10_aheadOf 88 = .ok (.aload 6, 2) := by decide +kernel
theorem dX10_aheadOf_90 : decode cX10_aheadOf 90 = .ok (.getfield 62, 3) := by decide +kernel
theorem dX10_aheadOf_93 : decode cX10_aheadOf 93 = .ok (.isub, 1) := by decide +kernel
theorem dX10_aheadOf_94 : decode cX10_aheadOf 94 = .ok (.iload_n 3, 1) := by decide +kernel
theorem dX10_aheadOf_95 : decode cX10_aheadOf 95 = .ok (.if_icmp .ge 6, 3) := by decide +kernel
theorem dX10_aheadOf_98 : decode cX10_aheadOf 98 = .ok (.goto 25, 3) := by decide +kernel
theorem dX10_aheadOf_101 : decode cX10_aheadOf 101 = .ok (.aload 4, 2) := by decide +kernel
theorem dX10_aheadOf_103 : decode cX10_aheadOf 103 = .ok (.ifnull 16, 3) := by decide +kernel
theorem dX10_aheadOf_106 : decode cX10_aheadOf 106 = .ok (.aload 6, 2) := by decide +kernel
theorem dX10_aheadOf_108 : decode cX10_aheadOf 108 = .ok (.getfield 62, 3) := by decide +kernel
theorem dX10_aheadOf_111 : decode cX10_aheadOf 111 = .ok (.aload 4, 2) := by decide +kernel
theorem dX10_aheadOf_113 : decode cX10_aheadOf 113 = .ok (.getfield 62, 3) := by decide +kernel
theorem dX10_aheadOf_116 : decode cX10_aheadOf 116 = .ok (.if_icmp .lt 7, 3) := by decide +kernel
theorem dX10_aheadOf_119 : decode cX10_aheadOf 119 = .ok (.aload 6, 2) := by decide +kernel
theorem dX10_aheadOf_121 : decode cX10_aheadOf 121 = .ok (.astore 4, 2) := by decide +kernel
theorem dX10_aheadOf_123 : decode cX10_aheadOf 123 = .ok (.iinc 5 1, 3) := by decide +kernel
theorem dX10_aheadOf_126 : decode cX10_aheadOf 126 = .ok (.goto (-120), 3) := by decide +kernel
theorem dX10_aheadOf_129 : decode cX10_aheadOf 129 = .ok (.aload 4, 2) := by decide +kernel
theorem dX10_aheadOf_131 : decode cX10_aheadOf 131 = .ok (.areturn, 1) := by decide +kernel
theorem dX10_trace_0 : decode cX10_trace 0 = .ok (.aload_n 0, 1) := by decide +kernel
theorem dX10_trace_1 : decode cX10_trace 1 = .ok (.getfield 17, 3) := by decide +kernel
theorem dX10_trace_4 : decode cX10_trace 4 = .ok (.iconst 0, 1) := by decide +kernel
theorem dX10_trace_5 : decode cX10_trace 5 = .ok (.invokestatic 65, 3) := by decide +kernel
theorem dX10_trace_8 : decode cX10_trace 8 = .ok (.aload_n 1, 1) := by decide +kernel
theorem dX10_trace_9 : decode cX10_trace 9 = .ok (.astore 4, 2) := by decide +kernel
theorem dX10_trace_11 : decode cX10_trace 11 = .ok (.aload_n 1, 1) := by decide +kernel
theorem dX10_trace_12 : decode cX10_trace 12 = .ok (.getfield 71, 3) := by decide +kernel
theorem dX10_trace_15 : decode cX10_trace 15 = .ok (.istore 5, 2) := by decide +kernel
theorem dX10_trace_17 : decode cX10_trace 17 = .ok (.iconst 0, 1) := by decide +kernel
theorem dX10_trace_18 : decode cX10_trace 18 = .ok (.istore 6, 2) := by decide +kernel
theorem dX10_trace_20 : decode cX10_trace 20 = .ok (.iload 6, 2) := by decide +kernel
theorem dX10_trace_22 : decode cX10_trace 22 = .ok (.bipush 40, 2) := by decide +kernel
theorem dX10_trace_24 : decode cX10_trace 24 = .ok (.if_icmp .ge 123, 3) := by decide +kernel
theorem dX10_trace_27 : decode cX10_trace 27 = .ok (.aload 4, 2) := by decide +kernel
theorem dX10_trace_29 : decode cX10_trace 29 = .ok (.ifnull 118, 3) := by decide +kernel
theorem dX10_trace_32 : decode cX10_trace 32 = .ok (.iload 5, 2) := by decide +kernel
theorem dX10_trace_34 : decode cX10_trace 34 = .ok (.ifCond .le 113, 3) := by decide +kernel
theorem dX10_trace_37 : decode cX10_trace 37 = .ok (.aload_n 0, 1) := by decide +kernel
theorem dX10_trace_38 : decode cX10_trace 38 = .ok (.aload 4, 2) := by decide +kernel
theorem dX10_trace_40 : decode cX10_trace 40 = .ok (.iconst 0, 1) := by decide +kernel
theorem dX10_trace_41 : decode cX10_trace 41 = .ok (.iload_n 2, 1) := by decide +kernel
theorem dX10_trace_42 : decode cX10_trace 42 = .ok (.invokevirtual 74, 3) := by decide +kernel
theorem dX10_trace_45 : decode cX10_trace 45 = .ok (.astore 7, 2) := by decide +kernel
theorem dX10_trace_47 : decode cX10_trace 47 = .ok (.aload_n 0, 1) := by decide +kernel
theorem dX10_trace_48 : decode cX10_trace 48 = .ok (.aload 4, 2) := by decide +kernel
theorem dX10_trace_50 : decode cX10_trace 50 = .ok (.iconst 1, 1) := by decide +kernel
theorem dX10_trace_51 : decode cX10_trace 51 = .ok (.iload_n 3, 1) := by decide +kernel
theorem dX10_trace_52 : decode cX10_trace 52 = .ok (.invokevirtual 74, 3) := by decide +kernel
theorem dX10_trace_55 : decode cX10_trace 55 = .ok (.astore 8, 2) := by decide +kernel
theorem dX10_trace_57 : decode cX10_trace 57 = .ok (.aload 4, 2) := by decide +kernel
theorem dX10_trace_59 : decode cX10_trace 59 = .ok (.aload 7, 2) := by decide +kernel
theorem dX10_trace_61 : decode cX10_trace 61 = .ok (.iload_n 2, 1) := by decide +kernel
theorem dX10_trace_62 : decode cX10_trace 62 = .ok (.invokevirtual 78, 3) := by decide +kernel
theorem dX10_trace_65 : decode cX10_trace 65 = .ok (.istore 9, 2) := by decide +kernel
theorem dX10_trace_67 : decode cX10_trace 67 = .ok (.aload 4, 2) := by decide +kernel
theorem dX10_trace_69 : decode cX10_trace 69 = .ok (.aload 8, 2) := by decide +kernel
theorem dX10_trace_71 : decode cX10_trace 71 = .ok (.iload_n 3, 1) := by decide +kernel
theorem dX10_trace_72 : decode cX10_trace 72 = .ok (.invokevirtual 78, 3) := by decide +kernel
theorem dX10_trace_75 : decode cX10_trace 75 = .ok (.istore 10, 2) := by decide +kernel
theorem dX10_trace_77 : decode cX10_trace 77 = .ok (.aload 4, 2) := by decide +kernel
theorem dX10_trace_79 : decode cX10_trace 79 = .ok (.getfield 71, 3) := by decide +kernel
theorem dX10_trace_82 : decode cX10_trace 82 = .ok (.iload 9, 2) := by decide +kernel
theorem dX10_trace_84 : decode cX10_trace 84 = .ok (.iload 10, 2) := by decide +kernel
theorem dX10_trace_86 : decode cX10_trace 86 = .ok (.invokestatic 82, 3) := by decide +kernel
theorem dX10_trace_89 : decode cX10_trace 89 = .ok (.invokestatic 88, 3) := by decide +kernel
theorem dX10_trace_92 : decode cX10_trace 92 = .ok (.istore 11, 2) := by decide +kernel
theorem dX10_trace_94 : decode cX10_trace 94 = .ok (.iload 5, 2) := by decide +kernel
theorem dX10_trace_96 : decode cX10_trace 96 = .ok (.iload 11, 2) := by decide +kernel
theorem dX10_trace_98 : decode cX10_trace 98 = .ok (.invokestatic 88, 3) := by decide +kernel
theorem dX10_trace_101 : decode cX10_trace 101 = .ok (.istore 12, 2) := by decide +kernel
theorem dX10_trace_103 : decode cX10_trace 103 = .ok (.aload_n 0, 1) := by decide +kernel
theorem dX10_trace_104 : decode cX10_trace 104 = .ok (.getfield 17, 3) := by decide +kernel
theorem dX10_trace_107 : decode cX10_trace 107 = .ok (.aload 4, 2) := by decide +kernel
theorem dX10_trace_109 : decode cX10_trace 109 = .ok (.getfield 91, 3) := by decide +kernel
theorem dX10_trace_112 : decode cX10_trace 112 = .ok (.dup2, 1) := by decide +kernel
theorem dX10_trace_113 : decode cX10_trace 113 = .ok (.iaload, 1) := by decide +kernel
theorem dX10_trace_114 : decode cX10_trace 114 = .ok (.iload 5, 2) := by decide +kernel
theorem dX10_trace_116 : decode cX10_trace 116 = .ok (.iload 12, 2) := by decide +kernel
theorem dX10_trace_118 : decode cX10_trace 118 = .ok (.isub, 1) := by decide +kernel
theorem dX10_trace_119 : decode cX10_trace 119 = .ok (.iadd, 1) := by decide +kernel
theorem dX10_trace_120 : decode cX10_trace 120 = .ok (.iastore, 1) := by decide +kernel
theorem dX10_trace_121 : decode cX10_trace 121 = .ok (.iload 12, 2) := by decide +kernel
theorem dX10_trace_123 : decode cX10_trace 123 = .ok (.istore 5, 2) := by decide +kernel
theorem dX10_trace_125 : decode cX10_trace 125 = .ok (.iload 10, 2) := by decide +kernel
theorem dX10_trace_127 : decode cX10_trace 127 = .ok (.iload 9, 2) := by decide +kernel
theorem dX10_trace_129 : decode cX10_trace 129 = .ok (.if_icmp .le 8, 3) := by decide +kernel
theorem dX10_trace_132 : decode cX10_trace 132 = .ok (.aload 8, 2) := by decide +kernel
theorem dX10_trace_134 : decode cX10_trace 134 = .ok (.goto 5, 3) := by decide +kernel
theorem dX10_trace_137 : decode cX10_trace 137 = .ok (.aload 7, 2) := by decide +kernel
theorem dX10_trace_139 : decode cX10_trace 139 = .ok (.astore 4, 2) := by decide +kernel
theorem dX10_trace_141 : decode cX10_trace 141 = .ok (.iinc 6 1, 3) := by decide +kernel
theorem dX10_trace_144 : decode cX10_trace 144 = .ok (.goto (-124), 3) := by decide +kernel
theorem dX10_trace_147 : decode cX10_trace 147 = .ok (.return_, 1) := by decide +kernel
theorem dX10_greatestCause_0 : decode cX10_greatestCause 0 = .ok (.iconst 0, 1) := by decide +kernel
theorem dX10_greatestCause_1 : decode cX10_greatestCause 1 = .ok (.istore_n 1, 1) := by decide +kernel
theorem dX10_greatestCause_2 : decode cX10_greatestCause 2 = .ok (.iconst 1, 1) := by decide +kernel
theorem dX10_greatestCause_3 : decode cX10_greatestCause 3 = .ok (.istore_n 2, 1) := by decide +kernel
theorem dX10_greatestCause_4 : decode cX10_greatestCause 4 = .ok (.iload_n 2, 1) := by decide +kernel
theorem dX10_greatestCause_5 : decode cX10_greatestCause 5 = .ok (.bipush 6, 2) := by decide +kernel
theorem dX10_greatestCause_7 : decode cX10_greatestCause 7 = .ok (.if_icmp .ge 26, 3) := by decide +kernel
theorem dX10_greatestCause_10 : decode cX10_greatestCause 10 = .ok (.aload_n 0, 1) := by decide +kernel
theorem dX10_greatestCause_11 : decode cX10_greatestCause 11 = .ok (.getfield 17, 3) := by decide +kernel
theorem dX10_greatestCause_14 : decode cX10_greatestCause 14 = .ok (.iload_n 2, 1) := by decide +kernel
theorem dX10_greatestCause_15 : decode cX10_greatestCause 15 = .ok (.iaload, 1) := by decide +kernel
theorem dX10_greatestCause_16 : decode cX10_greatestCause 16 = .ok (.aload_n 0, 1) := by decide +kernel
theorem dX10_greatestCause_17 : decode cX10_greatestCause 17 = .ok (.getfield 17, 3) := by decide +kernel
theorem dX10_greatestCause_20 : decode cX10_greatestCause 20 = .ok (.iload_n 1, 1) := by decide +kernel
theorem dX10_greatestCause_21 : decode cX10_greatestCause 21 = .ok (.iaload, 1) := by decide +kernel
theorem dX10_greatestCause_22 : decode cX10_greatestCause 22 = .ok (.if_icmp .le 5, 3) := by decide +kernel
theorem dX10_greatestCause_25 : decode cX10_greatestCause 25 = .ok (.iload_n 2, 1) := by decide +kernel
theorem dX10_greatestCause_26 : decode cX10_greatestCause 26 = .ok (.istore_n 1, 1) := by decide +kernel
theorem dX10_greatestCause_27 : decode cX10_greatestCause 27 = .ok (.iinc 2 1, 3) := by decide +kernel
theorem dX10_greatestCause_30 : decode cX10_greatestCause 30 = .ok (.goto (-26), 3) := by decide +kernel
theorem dX10_greatestCause_33 : decode cX10_greatestCause 33 = .ok (.iload_n 1, 1) := by decide +kernel
theorem dX10_greatestCause_34 : decode cX10_greatestCause 34 = .ok (.ireturn, 1) := by decide +kernel
theorem dX10_soonestBy_0 : decode cX10_soonestBy 0 = .ok (.iconst 0, 1) := by decide +kernel
theorem dX10_soonestBy_1 : decode cX10_soonestBy 1 = .ok (.istore 5, 2) := by decide +kernel
theorem dX10_soonestBy_3 : decode cX10_soonestBy 3 = .ok (.iload 5, 2) := by decide +kernel
theorem dX10_soonestBy_5 : decode cX10_soonestBy 5 = .ok (.aload_n 0, 1) := by decide +kernel
theorem dX10_soonestBy_6 : decode cX10_soonestBy 6 = .ok (.getfield 28, 3) := by decide +kernel
theorem dX10_soonestBy_9 : decode cX10_soonestBy 9 = .ok (.if_icmp .ge 17, 3) := by decide +kernel
theorem dX10_soonestBy_12 : decode cX10_soonestBy 12 = .ok (.aload_n 0, 1) := by decide +kernel
theorem dX10_soonestBy_13 : decode cX10_soonestBy 13 = .ok (.getfield 21, 3) := by decide +kernel
theorem dX10_soonestBy_16 : decode cX10_soonestBy 16 = .ok (.iload 5, 2) := by decide +kernel
theorem dX10_soonestBy_18 : decode cX10_soonestBy 18 = .ok (.iconst 0, 1) := by decide +kernel
theorem dX10_soonestBy_19 : decode cX10_soonestBy 19 = .ok (.bastore, 1) := by decide +kernel
theorem dX10_soonestBy_20 : decode cX10_soonestBy 20 = .ok (.iinc 5 1, 3) := by decide +kernel
theorem dX10_soonestBy_23 : decode cX10_soonestBy 23 = .ok (.goto (-20), 3) := by decide +kernel
theorem dX10_soonestBy_26 : decode cX10_soonestBy 26 = .ok (.aload_n 0, 1) := by decide +kernel
theorem dX10_soonestBy_27 : decode cX10_soonestBy 27 = .ok (.iconst 0, 1) := by decide +kernel
theorem dX10_soonestBy_28 : decode cX10_soonestBy 28 = .ok (.aload_n 1, 1) := by decide +kernel
theorem dX10_soonestBy_29 : decode cX10_soonestBy 29 = .ok (.iload_n 2, 1) := by decide +kernel
theorem dX10_soonestBy_30 : decode cX10_soonestBy 30 = .ok (.invokevirtual 94, 3) := by decide +kernel
theorem dX10_soonestBy_33 : decode cX10_soonestBy 33 = .ok (.istore 5, 2) := by decide +kernel
theorem dX10_soonestBy_35 : decode cX10_soonestBy 35 = .ok (.bipush (-9), 2) := by decide +kernel
theorem dX10_soonestBy_37 : decode cX10_soonestBy 37 = .ok (.istore 6, 2) := by decide +kernel
theorem dX10_soonestBy_39 : decode cX10_soonestBy 39 = .ok (.iconst 0, 1) := by decide +kernel
theorem dX10_soonestBy_40 : decode cX10_soonestBy 40 = .ok (.istore 7, 2) := by decide +kernel
theorem dX10_soonestBy_42 : decode cX10_soonestBy 42 = .ok (.iload 7, 2) := by decide +kernel
theorem dX10_soonestBy_44 : decode cX10_soonestBy 44 = .ok (.iload 5, 2) := by decide +kernel
theorem dX10_soonestBy_46 : decode cX10_soonestBy 46 = .ok (.if_icmp .ge 79, 3) := by decide +kernel
theorem dX10_soonestBy_49 : decode cX10_soonestBy 49 = .ok (.iload 7, 2) := by decide +kernel
theorem dX10_soonestBy_51 : decode cX10_soonestBy 51 = .ok (.bipush 40, 2) := by decide +kernel
theorem dX10_soonestBy_53 : decode cX10_soonestBy 53 = .ok (.if_icmp .ge 72, 3) := by decide +kernel
theorem dX10_soonestBy_56 : decode cX10_soonestBy 56 = .ok (.aload_n 0, 1) := by decide +kernel
theorem dX10_soonestBy_57 : decode cX10_soonestBy 57 = .ok (.getfield 25, 3) := by decide +kernel
theorem dX10_soonestBy_60 : decode cX10_soonestBy 60 = .ok (.iload 7, 2) := by decide +kernel
theorem dX10_soonestBy_62 : decode cX10_soonestBy 62 = .ok (.aaload, 1) := by decide +kernel
theorem dX10_soonestBy_63 : decode cX10_soonestBy 63 = .ok (.astore 8, 2) := by decide +kernel
theorem dX10_soonestBy_65 : decode cX10_soonestBy 65 = .ok (.aload 8, 2) := by decide +kernel
theorem dX10_soonestBy_67 : decode cX10_soonestBy 67 = .ok (.getfield 52, 3) := by decide +kernel
theorem dX10_soonestBy_70 : decode cX10_soonestBy 70 = .ok (.aload_n 3, 1) := by decide +kernel
theorem dX10_soonestBy_71 : decode cX10_soonestBy 71 = .ok (.if_acmp .ne 27, 3) := by decide +kernel
theorem dX10_soonestBy_74 : decode cX10_soonestBy 74 = .ok (.iload 6, 2) := by decide +kernel
theorem dX10_soonestBy_76 : decode cX10_soonestBy 76 = .ok (.bipush (-9), 2) := by decide +kernel
theorem dX10_soonestBy_78 : decode cX10_soonestBy 78 = .ok (.if_icmp .eq 13, 3) := by decide +kernel
theorem dX10_soonestBy_81 : decode cX10_soonestBy 81 = .ok (.aload 8, 2) := by decide +kernel
theorem dX10_soonestBy_83 : decode cX10_soonestBy 83 = .ok (.getfield 98, 3) := by decide +kernel
theorem dX10_soonestBy_86 : decode cX10_soonestBy 86 = .ok (.iload 6, 2) := by decide +kernel
theorem dX10_soonestBy_88 : decode cX10_soonestBy 88 = .ok (.if_icmp .ge 10, 3) := by decide +kernel
theorem dX10_soonestBy_91 : decode cX10_soonestBy 91 = .ok (.aload 8, 2) := by decide +kernel
theorem dX10_soonestBy_93 : decode cX10_soonestBy 93 = .ok (.getfield 98, 3) := by decide +kernel
theorem dX10_soonestBy_96 : decode cX10_soonestBy 96 = .ok (.istore 6, 2) := by decide +kernel
theorem dX10_soonestBy_98 : decode cX10_soonestBy 98 = .ok (.aload_n 0, 1) := by decide +kernel
theorem dX10_soonestBy_99 : decode cX10_soonestBy 99 = .ok (.iload 5, 2) := by decide +kernel
theorem dX10_soonestBy_101 : decode cX10_soonestBy 101 = .ok (.aload 8, 2) := by decide +kernel
theorem dX10_soonestBy_103 : decode cX10_soonestBy 103 = .ok (.getfield 52, 3) := by decide +kernel
theorem dX10_soonestBy_106 : decode cX10_soonestBy 106 = .ok (.aload 8, 2) := by decide +kernel
theorem dX10_soonestBy_108 : decode cX10_soonestBy 108 = .ok (.getfield 98, 3) := by decide +kernel
theorem dX10_soonestBy_111 : decode cX10_soonestBy 111 = .ok (.iload 4, 2) := by decide +kernel
theorem dX10_soonestBy_113 : decode cX10_soonestBy 113 = .ok (.iadd, 1) := by decide +kernel
theorem dX10_soonestBy_114 : decode cX10_soonestBy 114 = .ok (.invokevirtual 94, 3) := by decide +kernel
theorem dX10_soonestBy_117 : decode cX10_soonestBy 117 = .ok (.istore 5, 2) := by decide +kernel
theorem dX10_soonestBy_119 : decode cX10_soonestBy 119 = .ok (.iinc 7 1, 3) := by decide +kernel
theorem dX10_soonestBy_122 : decode cX10_soonestBy 122 = .ok (.goto (-80), 3) := by decide +kernel
theorem dX10_soonestBy_125 : decode cX10_soonestBy 125 = .ok (.iload 6, 2) := by decide +kernel
theorem dX10_soonestBy_127 : decode cX10_soonestBy 127 = .ok (.ireturn, 1) := by decide +kernel
theorem dX10_reach_0 : decode cX10_reach 0 = .ok (.iload_n 1, 1) := by decide +kernel
theorem dX10_reach_1 : decode cX10_reach 1 = .ok (.istore 4, 2) := by decide +kernel
theorem dX10_reach_3 : decode cX10_reach 3 = .ok (.iconst 0, 1) := by decide +kernel
theorem dX10_reach_4 : decode cX10_reach 4 = .ok (.istore 5, 2) := by decide +kernel
theorem dX10_reach_6 : decode cX10_reach 6 = .ok (.iload 5, 2) := by decide +kernel
theorem dX10_reach_8 : decode cX10_reach 8 = .ok (.aload_n 0, 1) := by decide +kernel
theorem dX10_reach_9 : decode cX10_reach 9 = .ok (.getfield 28, 3) := by decide +kernel
theorem dX10_reach_12 : decode cX10_reach 12 = .ok (.if_icmp .ge 84, 3) := by decide +kernel
theorem dX10_reach_15 : decode cX10_reach 15 = .ok (.iload 4, 2) := by decide +kernel
theorem dX10_reach_17 : decode cX10_reach 17 = .ok (.bipush 40, 2) := by decide +kernel
theorem dX10_reach_19 : decode cX10_reach 19 = .ok (.if_icmp .ge 77, 3) := by decide +kernel
theorem dX10_reach_22 : decode cX10_reach 22 = .ok (.aload_n 0, 1) := by decide +kernel
theorem dX10_reach_23 : decode cX10_reach 23 = .ok (.getfield 13, 3) := by decide +kernel
theorem dX10_reach_26 : decode cX10_reach 26 = .ok (.iload 5, 2) := by decide +kernel
theorem dX10_reach_28 : decode cX10_reach 28 = .ok (.aaload, 1) := by decide +kernel
theorem dX10_reach_29 : decode cX10_reach 29 = .ok (.astore 6, 2) := by decide +kernel
theorem dX10_reach_31 : decode cX10_reach 31 = .ok (.aload_n 0, 1) := by decide +kernel
theorem dX10_reach_32 : decode cX10_reach 32 = .ok (.getfield 21, 3) := by decide +kernel
theorem dX10_reach_35 : decode cX10_reach 35 = .ok (.iload 5, 2) := by decide +kernel
theorem dX10_reach_37 : decode cX10_reach 37 = .ok (.baload, 1) := by decide +kernel
theorem dX10_reach_38 : decode cX10_reach 38 = .ok (.ifCond .ne 52, 3) := by decide +kernel
theorem dX10_reach_41 : decode cX10_reach 41 = .ok (.aload 6, 2) := by decide +kernel
theorem dX10_reach_43 : decode cX10_reach 43 = .ok (.getfield 39, 3) := by decide +kernel
theorem dX10_reach_46 : decode cX10_reach 46 = .ok (.ifCond .eq 44, 3) := by decide +kernel
theorem dX10_reach_49 : decode cX10_reach 49 = .ok (.aload 6, 2) := by decide +kernel
theorem dX10_reach_51 : decode cX10_reach 51 = .ok (.getfield 56, 3) := by decide +kernel
theorem dX10_reach_54 : decode cX10_reach 54 = .ok (.aload_n 2, 1) := by decide +kernel
theorem dX10_reach_55 : decode cX10_reach 55 = .ok (.if_acmp .ne 35, 3) := by decide +kernel
theorem dX10_reach_58 : decode cX10_reach 58 = .ok (.aload 6, 2) := by decide +kernel
theorem dX10_reach_60 : decode cX10_reach 60 = .ok (.getfield 101, 3) := by decide +kernel
theorem dX10_reach_63 : decode cX10_reach 63 = .ok (.iload_n 3, 1) := by decide +kernel
theorem dX10_reach_64 : decode cX10_reach 64 = .ok (.if_icmp .ge 6, 3) := by decide +kernel
theorem dX10_reach_67 : decode cX10_reach 67 = .ok (.goto 23, 3) := by decide +kernel
theorem dX10_reach_70 : decode cX10_reach 70 = .ok (.aload_n 0, 1) := by decide +kernel
theorem dX10_reach_71 : decode cX10_reach 71 = .ok (.getfield 21, 3) := by decide +kernel
theorem dX10_reach_74 : decode cX10_reach 74 = .ok (.iload 5, 2) := by decide +kernel
theorem dX10_reach_76 : decode cX10_reach 76 = .ok (.iconst 1, 1) := by decide +kernel
theorem dX10_reach_77 : decode cX10_reach 77 = .ok (.bastore, 1) := by decide +kernel
theorem dX10_reach_78 : decode cX10_reach 78 = .ok (.aload_n 0, 1) := by decide +kernel
theorem dX10_reach_79 : decode cX10_reach 79 = .ok (.getfield 25, 3) := by decide +kernel
theorem dX10_reach_82 : decode cX10_reach 82 = .ok (.iload 4, 2) := by decide +kernel
theorem dX10_reach_84 : decode cX10_reach 84 = .ok (.aload 6, 2) := by decide +kernel
theorem dX10_reach_86 : decode cX10_reach 86 = .ok (.aastore, 1) := by decide +kernel
theorem dX10_reach_87 : decode cX10_reach 87 = .ok (.iinc 4 1, 3) := by decide +kernel
theorem dX10_reach_90 : decode cX10_reach 90 = .ok (.iinc 5 1, 3) := by decide +kernel
theorem dX10_reach_93 : decode cX10_reach 93 = .ok (.goto (-87), 3) := by decide +kernel
theorem dX10_reach_96 : decode cX10_reach 96 = .ok (.iload 4, 2) := by decide +kernel
theorem dX10_reach_98 : decode cX10_reach 98 = .ok (.ireturn, 1) := by decide +kernel
theorem dX11_init_0 : decode cX11_init 0 = .ok (.aload_n 0, 1) := by decide +kernel
theorem dX11_init_1 : decode cX11_init 1 = .ok (.invokespecial 1, 3) := by decide +kernel
theorem dX11_init_4 : decode cX11_init 4 = .ok (.aload_n 0, 1) := by decide +kernel
theorem dX11_init_5 : decode cX11_init 5 = .ok (.new 7, 3) := by decide +kernel
theorem dX11_init_8 : decode cX11_init 8 = .ok (.dup, 1) := by decide +kernel
theorem dX11_init_9 : decode cX11_init 9 = .ok (.invokespecial 9, 3) := by decide +kernel
theorem dX11_init_12 : decode cX11_init 12 = .ok (.putfield 10, 3) := by decide +kernel
theorem dX11_init_15 : decode cX11_init 15 = .ok (.aload_n 0, 1) := by decide +kernel
theorem dX11_init_16 : decode cX11_init 16 = .ok (.new 16, 3) := by decide +kernel
theorem dX11_init_19 : decode cX11_init 19 = .ok (.dup, 1) := by decide +kernel
theorem dX11_init_20 : decode cX11_init 20 = .ok (.invokespecial 18, 3) := by decide +kernel
theorem dX11_init_23 : decode cX11_init 23 = .ok (.putfield 19, 3) := by decide +kernel
theorem dX11_init_26 : decode cX11_init 26 = .ok (.aload_n 0, 1) := by decide +kernel
theorem dX11_init_27 : decode cX11_init 27 = .ok (.new 23, 3) := by decide +kernel
theorem dX11_init_30 : decode cX11_init 30 = .ok (.dup, 1) := by decide +kernel
theorem dX11_init_31 : decode cX11_init 31 = .ok (.invokespecial 25, 3) := by decide +kernel
theorem dX11_init_34 : decode cX11_init 34 = .ok (.putfield 26, 3) := by decide +kernel
theorem dX11_init_37 : decode cX11_init 37 = .ok (.aload_n 0, 1) := by decide +kernel
theorem dX11_init_38 : decode cX11_init 38 = .ok (.new 30, 3) := by decide +kernel
theorem dX11_init_41 : decode cX11_init 41 = .ok (.dup, 1) := by decide +kernel
theorem dX11_init_42 : decode cX11_init 42 = .ok (.invokespecial 32, 3) := by decide +kernel
theorem dX11_init_45 : decode cX11_init 45 = .ok (.putfield 33, 3) := by decide +kernel
theorem dX11_init_48 : decode cX11_init 48 = .ok (.aload_n 0, 1) := by decide +kernel
theorem dX11_init_49 : decode cX11_init 49 = .ok (.new 37, 3) := by decide +kernel
theorem dX11_init_52 : decode cX11_init 52 = .ok (.dup, 1) := by decide +kernel
theorem dX11_init_53 : decode cX11_init 53 = .ok (.invokespecial 39, 3) := by decide +kernel
theorem dX11_init_56 : decode cX11_init 56 = .ok (.putfield 40, 3) := by decide +kernel
theorem dX11_init_59 : decode cX11_init 59 = .ok (.aload_n 0, 1) := by decide +kernel
theorem dX11_init_60 : decode cX11_init 60 = .ok (.new 44, 3) := by decide +kernel
theorem dX11_init_63 : decode cX11_init 63 = .ok (.dup, 1) := by decide +kernel
theorem dX11_init_64 : decode cX11_init 64 = .ok (.invokespecial 46, 3) := by decide +kernel
theorem dX11_init_67 : decode cX11_init 67 = .ok (.putfield 47, 3) := by decide +kernel
theorem dX11_init_70 : decode cX11_init 70 = .ok (.aload_n 0, 1) := by decide +kernel
theorem dX11_init_71 : decode cX11_init 71 = .ok (.new 51, 3) := by decide +kernel
theorem dX11_init_74 : decode cX11_init 74 = .ok (.dup, 1) := by decide +kernel
theorem dX11_init_75 : decode cX11_init 75 = .ok (.invokespecial 53, 3) := by decide +kernel
theorem dX11_init_78 : decode cX11_init 78 = .ok (.putfield 54, 3) := by decide +kernel
theorem dX11_init_81 : decode cX11_init 81 = .ok (.aload_n 0, 1) := by decide +kernel
theorem dX11_init_82 : decode cX11_init 82 = .ok (.getstatic 58, 3) := by decide +kernel
theorem dX11_init_85 : decode cX11_init 85 = .ok (.invokevirtual 62, 3) := by decide +kernel
theorem dX11_init_88 : decode cX11_init 88 = .ok (.checkcast 63, 3) := by decide +kernel
theorem dX11_init_91 : decode cX11_init 91 = .ok (.putfield 67, 3) := by decide +kernel
theorem dX11_init_94 : decode cX11_init 94 = .ok (.aload_n 0, 1) := by decide +kernel
theorem dX11_init_95 : decode cX11_init 95 = .ok (.bipush 7, 2) := by decide +kernel
theorem dX11_init_97 : decode cX11_init 97 = .ok (.newarray .int, 2) := by decide +kernel
theorem dX11_init_99 : decode cX11_init 99 = .ok (.putfield 70, 3) := by decide +kernel
theorem dX11_init_102 : decode cX11_init 102 = .ok (.aload_n 0, 1) := by decide +kernel
theorem dX11_init_103 : decode cX11_init 103 = .ok (.iconst 0, 1) := by decide +kernel
theorem dX11_init_104 : decode cX11_init 104 = .ok (.putfield 73, 3) := by decide +kernel
theorem dX11_init_107 : decode cX11_init 107 = .ok (.return_, 1) := by decide +kernel
theorem dX11_days_0 : decode cX11_days 0 = .ok (.iload_n 1, 1) := by decide +kernel
theorem dX11_days_1 : decode cX11_days 1 = .ok (.ifCond .ge 10, 3) := by decide +kernel
theorem dX11_days_4 : decode cX11_days 4 = .ok (.aload_n 0, 1) := by decide +kernel
theorem dX11_days_5 : decode cX11_days 5 = .ok (.bipush (-4), 2) := by decide +kernel
theorem dX11_days_7 : decode cX11_days 7 = .ok (.invokevirtual 77, 3) := by decide +kernel
theorem dX11_days_10 : decode cX11_days 10 = .ok (.ireturn, 1) := by decide +kernel
theorem dX11_days_11 : decode cX11_days 11 = .ok (.iload_n 1, 1) := by decide +kernel
theorem dX11_days_12 : decode cX11_days 12 = .ok (.sipush 4000, 3) := by decide +kernel
theorem dX11_days_15 : decode cX11_days 15 = .ok (.aload_n 0, 1) := by decide +kernel
theorem dX11_days_16 : decode cX11_days 16 = .ok (.getfield 73, 3) := by decide +kernel
theorem dX11_days_19 : decode cX11_days 19 = .ok (.isub, 1) := by decide +kernel
theorem dX11_days_20 : decode cX11_days 20 = .ok (.if_icmp .le 10, 3) := by decide +kernel
theorem dX11_days_23 : decode cX11_days 23 = .ok (.aload_n 0, 1) := by decide +kernel
theorem dX11_days_24 : decode cX11_days 24 = .ok (.bipush (-6), 2) := by decide +kernel
theorem dX11_days_26 : decode cX11_days 26 = .ok (.invokevirtual 77, 3) := by decide +kernel
theorem dX11_days_29 : decode cX11_days 29 = .ok (.ireturn, 1) := by decide +kernel
theorem dX11_days_30 : decode cX11_days 30 = .ok (.aload_n 0, 1) := by decide +kernel
theorem dX11_days_31 : decode cX11_days 31 = .ok (.dup, 1) := by decide +kernel
theorem dX11_days_32 : decode cX11_days 32 = .ok (.getfield 73, 3) := by decide +kernel
theorem dX11_days_35 : decode cX11_days 35 = .ok (.iload_n 1, 1) := by decide +kernel
theorem dX11_days_36 : decode cX11_days 36 = .ok (.iadd, 1) := by decide +kernel
theorem dX11_days_37 : decode cX11_days 37 = .ok (.putfield 73, 3) := by decide +kernel
theorem dX11_days_40 : decode cX11_days 40 = .ok (.aload_n 0, 1) := by decide +kernel
theorem dX11_days_41 : decode cX11_days 41 = .ok (.getfield 73, 3) := by decide +kernel
theorem dX11_days_44 : decode cX11_days 44 = .ok (.ireturn, 1) := by decide +kernel
theorem dX11_land_0 : decode cX11_land 0 = .ok (.aload_n 0, 1) := by decide +kernel
end
section
theorem dX11_land_1 : decode cX11_land 1 = .ok (.getfield 10, 3) := by decide +kernel
theorem dX11_land_4 : decode cX11_land 4 = .ok (.iload_n 1, 1) := by decide +kernel
theorem dX11_land_5 : decode cX11_land 5 = .ok (.invokevirtual 81, 3) := by decide +kernel
theorem dX11_land_8 : decode cX11_land 8 = .ok (.astore_n 3, 1) := by decide +kernel
theorem dX11_land_9 : decode cX11_land 9 = .ok (.aload_n 3, 1) := by decide +kernel
theorem dX11_land_10 : decode cX11_land 10 = .ok (.ifnull 11, 3) := by decide +kernel
theorem dX11_land_13 : decode cX11_land 13 = .ok (.iconst 4, 1) := by decide +kernel
theorem dX11_land_14 : decode cX11_land 14 = .ok (.iload_n 2, 1) := by decide +kernel
theorem dX11_land_15 : decode cX11_land 15 = .ok (.invokestatic 85, 3) := by decide +kernel
theorem dX11_land_18 : decode cX11_land 18 = .ok (.ifCond .ne 9, 3) := by decide +kernel
theorem dX11_land_21 : decode cX11_land 21 = .ok (.aload_n 0, 1) := by decide +kernel
theorem dX11_land_22 : decode cX11_land 22 = .ok (.iconst (-1), 1) := by decide +kernel
theorem dX11_land_23 : decode cX11_land 23 = .ok (.invokevirtual 77, 3) := by decide +kernel
theorem dX11_land_26 : decode cX11_land 26 = .ok (.ireturn, 1) := by decide +kernel
theorem dX11_land_27 : decode cX11_land 27 = .ok (.aload_n 3, 1) := by decide +kernel
theorem dX11_land_28 : decode cX11_land 28 = .ok (.getfield 89, 3) := by decide +kernel
theorem dX11_land_31 : decode cX11_land 31 = .ok (.istore 4, 2) := by decide +kernel
theorem dX11_land_33 : decode cX11_land 33 = .ok (.aload_n 3, 1) := by decide +kernel
theorem dX11_land_34 : decode cX11_land 34 = .ok (.iload_n 2, 1) := by decide +kernel
theorem dX11_land_35 : decode cX11_land 35 = .ok (.putfield 89, 3) := by decide +kernel
theorem dX11_land_38 : decode cX11_land 38 = .ok (.iload 4, 2) := by decide +kernel
theorem dX11_land_40 : decode cX11_land 40 = .ok (.ireturn, 1) := by decide +kernel
theorem dX11_miles_0 : decode cX11_miles 0 = .ok (.aload_n 0, 1) := by decide +kernel
theorem dX11_miles_1 : decode cX11_miles 1 = .ok (.getfield 10, 3) := by decide +kernel
theorem dX11_miles_4 : decode cX11_miles 4 = .ok (.iload_n 1, 1) := by decide +kernel
theorem dX11_miles_5 : decode cX11_miles 5 = .ok (.invokevirtual 81, 3) := by decide +kernel
theorem dX11_miles_8 : decode cX11_miles 8 = .ok (.astore 4, 2) := by decide +kernel
theorem dX11_miles_10 : decode cX11_miles 10 = .ok (.aload_n 0, 1) := by decide +kernel
theorem dX11_miles_11 : decode cX11_miles 11 = .ok (.getfield 10, 3) := by decide +kernel
theorem dX11_miles_14 : decode cX11_miles 14 = .ok (.iload_n 2, 1) := by decide +kernel
theorem dX11_miles_15 : decode cX11_miles 15 = .ok (.invokevirtual 81, 3) := by decide +kernel
theorem dX11_miles_18 : decode cX11_miles 18 = .ok (.astore 5, 2) := by decide +kernel
theorem dX11_miles_20 : decode cX11_miles 20 = .ok (.aload 4, 2) := by decide +kernel
theorem dX11_miles_22 : decode cX11_miles 22 = .ok (.ifnull 15, 3) := by decide +kernel
theorem dX11_miles_25 : decode cX11_miles 25 = .ok (.aload 5, 2) := by decide +kernel
theorem dX11_miles_27 : decode cX11_miles 27 = .ok (.ifnull 10, 3) := by decide +kernel
theorem dX11_miles_30 : decode cX11_miles 30 = .ok (.aload 4, 2) := by decide +kernel
theorem dX11_miles_32 : decode cX11_miles 32 = .ok (.aload 5, 2) := by decide +kernel
theorem dX11_miles_34 : decode cX11_miles 34 = .ok (.if_acmp .ne 9, 3) := by decide +kernel
theorem dX11_miles_37 : decode cX11_miles 37 = .ok (.aload_n 0, 1) := by decide +kernel
theorem dX11_miles_38 : decode cX11_miles 38 = .ok (.iconst (-1), 1) := by decide +kernel
theorem dX11_miles_39 : decode cX11_miles 39 = .ok (.invokevirtual 77, 3) := by decide +kernel
theorem dX11_miles_42 : decode cX11_miles 42 = .ok (.ireturn, 1) := by decide +kernel
theorem dX11_miles_43 : decode cX11_miles 43 = .ok (.iload_n 3, 1) := by decide +kernel
theorem dX11_miles_44 : decode cX11_miles 44 = .ok (.ifCond .ge 10, 3) := by decide +kernel
theorem dX11_miles_47 : decode cX11_miles 47 = .ok (.aload_n 0, 1) := by decide +kernel
theorem dX11_miles_48 : decode cX11_miles 48 = .ok (.bipush (-4), 2) := by decide +kernel
theorem dX11_miles_50 : decode cX11_miles 50 = .ok (.invokevirtual 77, 3) := by decide +kernel
theorem dX11_miles_53 : decode cX11_miles 53 = .ok (.ireturn, 1) := by decide +kernel
theorem dX11_miles_54 : decode cX11_miles 54 = .ok (.iload_n 3, 1) := by decide +kernel
theorem dX11_miles_55 : decode cX11_miles 55 = .ok (.sipush 9999, 3) := by decide +kernel
theorem dX11_miles_58 : decode cX11_miles 58 = .ok (.if_icmp .le 10, 3) := by decide +kernel
theorem dX11_miles_61 : decode cX11_miles 61 = .ok (.aload_n 0, 1) := by decide +kernel
theorem dX11_miles_62 : decode cX11_miles 62 = .ok (.bipush (-6), 2) := by decide +kernel
theorem dX11_miles_64 : decode cX11_miles 64 = .ok (.invokevirtual 77, 3) := by decide +kernel
theorem dX11_miles_67 : decode cX11_miles 67 = .ok (.ireturn, 1) := by decide +kernel
theorem dX11_miles_68 : decode cX11_miles 68 = .ok (.aload_n 0, 1) := by decide +kernel
theorem dX11_miles_69 : decode cX11_miles 69 = .ok (.getfield 10, 3) := by decide +kernel
theorem dX11_miles_72 : decode cX11_miles 72 = .ok (.aload 4, 2) := by decide +kernel
theorem dX11_miles_74 : decode cX11_miles 74 = .ok (.aload 5, 2) := by decide +kernel
theorem dX11_miles_76 : decode cX11_miles 76 = .ok (.invokevirtual 94, 3) := by decide +kernel
theorem dX11_miles_79 : decode cX11_miles 79 = .ok (.istore 6, 2) := by decide +kernel
theorem dX11_miles_81 : decode cX11_miles 81 = .ok (.aload_n 0, 1) := by decide +kernel
theorem dX11_miles_82 : decode cX11_miles 82 = .ok (.getfield 10, 3) := by decide +kernel
theorem dX11_miles_85 : decode cX11_miles 85 = .ok (.aload 4, 2) := by decide +kernel
theorem dX11_miles_87 : decode cX11_miles 87 = .ok (.aload 5, 2) := by decide +kernel
theorem dX11_miles_89 : decode cX11_miles 89 = .ok (.iload_n 3, 1) := by decide +kernel
theorem dX11_miles_90 : decode cX11_miles 90 = .ok (.invokevirtual 98, 3) := by decide +kernel
theorem dX11_miles_93 : decode cX11_miles 93 = .ok (.iload 6, 2) := by decide +kernel
theorem dX11_miles_95 : decode cX11_miles 95 = .ok (.ireturn, 1) := by decide +kernel
theorem dX11_seen_0 : decode cX11_seen 0 = .ok (.aload_n 0, 1) := by decide +kernel
theorem dX11_seen_1 : decode cX11_seen 1 = .ok (.getfield 10, 3) := by decide +kernel
theorem dX11_seen_4 : decode cX11_seen 4 = .ok (.iload_n 1, 1) := by decide +kernel
theorem dX11_seen_5 : decode cX11_seen 5 = .ok (.invokevirtual 81, 3) := by decide +kernel
theorem dX11_seen_8 : decode cX11_seen 8 = .ok (.astore 4, 2) := by decide +kernel
theorem dX11_seen_10 : decode cX11_seen 10 = .ok (.aload_n 0, 1) := by decide +kernel
theorem dX11_seen_11 : decode cX11_seen 11 = .ok (.getfield 10, 3) := by decide +kernel
theorem dX11_seen_14 : decode cX11_seen 14 = .ok (.iload_n 2, 1) := by decide +kernel
theorem dX11_seen_15 : decode cX11_seen 15 = .ok (.invokevirtual 81, 3) := by decide +kernel
theorem dX11_seen_18 : decode cX11_seen 18 = .ok (.astore 5, 2) := by decide +kernel
theorem dX11_seen_20 : decode cX11_seen 20 = .ok (.aload 4, 2) := by decide +kernel
theorem dX11_seen_22 : decode cX11_seen 22 = .ok (.ifnull 15, 3) := by decide +kernel
theorem dX11_seen_25 : decode cX11_seen 25 = .ok (.aload 5, 2) := by decide +kernel
theorem dX11_seen_27 : decode cX11_seen 27 = .ok (.ifnull 10, 3) := by decide +kernel
theorem dX11_seen_30 : decode cX11_seen 30 = .ok (.aload 4, 2) := by decide +kernel
theorem dX11_seen_32 : decode cX11_seen 32 = .ok (.aload 5, 2) := by decide +kernel
theorem dX11_seen_34 : decode cX11_seen 34 = .ok (.if_acmp .ne 9, 3) := by decide +kernel
theorem dX11_seen_37 : decode cX11_seen 37 = .ok (.aload_n 0, 1) := by decide +kernel
theorem dX11_seen_38 : decode cX11_seen 38 = .ok (.iconst (-1), 1) := by decide +kernel
theorem dX11_seen_39 : decode cX11_seen 39 = .ok (.invokevirtual 77, 3) := by decide +kernel
theorem dX11_seen_42 : decode cX11_seen 42 = .ok (.ireturn, 1) := by decide +kernel
theorem dX11_seen_43 : decode cX11_seen 43 = .ok (.iload_n 3, 1) := by decide +kernel
theorem dX11_seen_44 : decode cX11_seen 44 = .ok (.sipush (-600), 3) := by decide +kernel
theorem dX11_seen_47 : decode cX11_seen 47 = .ok (.if_icmp .ge 10, 3) := by decide +kernel
theorem dX11_seen_50 : decode cX11_seen 50 = .ok (.aload_n 0, 1) := by decide +kernel
theorem dX11_seen_51 : decode cX11_seen 51 = .ok (.bipush (-4), 2) := by decide +kernel
theorem dX11_seen_53 : decode cX11_seen 53 = .ok (.invokevirtual 77, 3) := by decide +kernel
theorem dX11_seen_56 : decode cX11_seen 56 = .ok (.ireturn, 1) := by decide +kernel
theorem dX11_seen_57 : decode cX11_seen 57 = .ok (.iload_n 3, 1) := by decide +kernel
theorem dX11_seen_58 : decode cX11_seen 58 = .ok (.sipush 600, 3) := by decide +kernel
theorem dX11_seen_61 : decode cX11_seen 61 = .ok (.if_icmp .le 10, 3) := by decide +kernel
theorem dX11_seen_64 : decode cX11_seen 64 = .ok (.aload_n 0, 1) := by decide +kernel
theorem dX11_seen_65 : decode cX11_seen 65 = .ok (.bipush (-6), 2) := by decide +kernel
theorem dX11_seen_67 : decode cX11_seen 67 = .ok (.invokevirtual 77, 3) := by decide +kernel
theorem dX11_seen_70 : decode cX11_seen 70 = .ok (.ireturn, 1) := by decide +kernel
theorem dX11_seen_71 : decode cX11_seen 71 = .ok (.aload_n 0, 1) := by decide +kernel
theorem dX11_seen_72 : decode cX11_seen 72 = .ok (.getfield 10, 3) := by decide +kernel
theorem dX11_seen_75 : decode cX11_seen 75 = .ok (.aload 4, 2) := by decide +kernel
theorem dX11_seen_77 : decode cX11_seen 77 = .ok (.aload 5, 2) := by decide +kernel
theorem dX11_seen_79 : decode cX11_seen 79 = .ok (.iload_n 3, 1) := by decide +kernel
theorem dX11_seen_80 : decode cX11_seen 80 = .ok (.invokevirtual 102, 3) := by decide +kernel
theorem dX11_seen_83 : decode cX11_seen 83 = .ok (.ifCond .ne 5, 3) := by decide +kernel
theorem dX11_seen_86 : decode cX11_seen 86 = .ok (.iconst 0, 1) := by decide +kernel
theorem dX11_seen_87 : decode cX11_seen 87 = .ok (.ireturn, 1) := by decide +kernel
theorem dX11_seen_88 : decode cX11_seen 88 = .ok (.aload_n 0, 1) := by decide +kernel
theorem dX11_seen_89 : decode cX11_seen 89 = .ok (.getfield 19, 3) := by decide +kernel
theorem dX11_seen_92 : decode cX11_seen 92 = .ok (.invokevirtual 106, 3) := by decide +kernel
theorem dX11_seen_95 : decode cX11_seen 95 = .ok (.iconst 1, 1) := by decide +kernel
theorem dX11_seen_96 : decode cX11_seen 96 = .ok (.ireturn, 1) := by decide +kernel
theorem dX11_off_0 : decode cX11_off 0 = .ok (.aload_n 0, 1) := by decide +kernel
theorem dX11_off_1 : decode cX11_off 1 = .ok (.getfield 10, 3) := by decide +kernel
theorem dX11_off_4 : decode cX11_off 4 = .ok (.iload_n 1, 1) := by decide +kernel
theorem dX11_off_5 : decode cX11_off 5 = .ok (.invokevirtual 81, 3) := by decide +kernel
theorem dX11_off_8 : decode cX11_off 8 = .ok (.astore_n 2, 1) := by decide +kernel
theorem dX11_off_9 : decode cX11_off 9 = .ok (.aload_n 2, 1) := by decide +kernel
theorem dX11_off_10 : decode cX11_off 10 = .ok (.ifnonnull 9, 3) := by decide +kernel
theorem dX11_off_13 : decode cX11_off 13 = .ok (.aload_n 0, 1) := by decide +kernel
theorem dX11_off_14 : decode cX11_off 14 = .ok (.iconst (-1), 1) := by decide +kernel
theorem dX11_off_15 : decode cX11_off 15 = .ok (.invokevirtual 109, 3) := by decide +kernel
theorem dX11_off_18 : decode cX11_off 18 = .ok (.ireturn, 1) := by decide +kernel
theorem dX11_off_19 : decode cX11_off 19 = .ok (.aload_n 2, 1) := by decide +kernel
theorem dX11_off_20 : decode cX11_off 20 = .ok (.getfield 112, 3) := by decide +kernel
theorem dX11_off_23 : decode cX11_off 23 = .ok (.ireturn, 1) := by decide +kernel
theorem dX11_leg_0 : decode cX11_leg 0 = .ok (.aload_n 0, 1) := by decide +kernel
theorem dX11_leg_1 : decode cX11_leg 1 = .ok (.getfield 10, 3) := by decide +kernel
theorem dX11_leg_4 : decode cX11_leg 4 = .ok (.iload_n 1, 1) := by decide +kernel
theorem dX11_leg_5 : decode cX11_leg 5 = .ok (.invokevirtual 81, 3) := by decide +kernel
theorem dX11_leg_8 : decode cX11_leg 8 = .ok (.astore 7, 2) := by decide +kernel
theorem dX11_leg_10 : decode cX11_leg 10 = .ok (.aload_n 0, 1) := by decide +kernel
theorem dX11_leg_11 : decode cX11_leg 11 = .ok (.getfield 10, 3) := by decide +kernel
theorem dX11_leg_14 : decode cX11_leg 14 = .ok (.iload_n 2, 1) := by decide +kernel
theorem dX11_leg_15 : decode cX11_leg 15 = .ok (.invokevirtual 81, 3) := by decide +kernel
theorem dX11_leg_18 : decode cX11_leg 18 = .ok (.astore 8, 2) := by decide +kernel
theorem dX11_leg_20 : decode cX11_leg 20 = .ok (.aload 7, 2) := by decide +kernel
theorem dX11_leg_22 : decode cX11_leg 22 = .ok (.ifnull 15, 3) := by decide +kernel
theorem dX11_leg_25 : decode cX11_leg 25 = .ok (.aload 8, 2) := by decide +kernel
theorem dX11_leg_27 : decode cX11_leg 27 = .ok (.ifnull 10, 3) := by decide +kernel
theorem dX11_leg_30 : decode cX11_leg 30 = .ok (.aload 7, 2) := by decide +kernel
theorem dX11_leg_32 : decode cX11_leg 32 = .ok (.aload 8, 2) := by decide +kernel
theorem dX11_leg_34 : decode cX11_leg 34 = .ok (.if_acmp .ne 9, 3) := by decide +kernel
theorem dX11_leg_37 : decode cX11_leg 37 = .ok (.aload_n 0, 1) := by decide +kernel
theorem dX11_leg_38 : decode cX11_leg 38 = .ok (.iconst (-1), 1) := by decide +kernel
theorem dX11_leg_39 : decode cX11_leg 39 = .ok (.invokevirtual 77, 3) := by decide +kernel
theorem dX11_leg_42 : decode cX11_leg 42 = .ok (.ireturn, 1) := by decide +kernel
theorem dX11_leg_43 : decode cX11_leg 43 = .ok (.bipush 6, 2) := by decide +kernel
theorem dX11_leg_45 : decode cX11_leg 45 = .ok (.iload_n 3, 1) := by decide +kernel
theorem dX11_leg_46 : decode cX11_leg 46 = .ok (.invokestatic 85, 3) := by decide +kernel
theorem dX11_leg_49 : decode cX11_leg 49 = .ok (.ifCond .eq 13, 3) := by decide +kernel
theorem dX11_leg_52 : decode cX11_leg 52 = .ok (.bipush 6, 2) := by decide +kernel
theorem dX11_leg_54 : decode cX11_leg 54 = .ok (.iload 4, 2) := by decide +kernel
theorem dX11_leg_56 : decode cX11_leg 56 = .ok (.invokestatic 85, 3) := by decide +kernel
theorem dX11_leg_59 : decode cX11_leg 59 = .ok (.ifCond .ne 9, 3) := by decide +kernel
theorem dX11_leg_62 : decode cX11_leg 62 = .ok (.aload_n 0, 1) := by decide +kernel
theorem dX11_leg_63 : decode cX11_leg 63 = .ok (.iconst (-1), 1) := by decide +kernel
theorem dX11_leg_64 : decode cX11_leg 64 = .ok (.invokevirtual 77, 3) := by decide +kernel
theorem dX11_leg_67 : decode cX11_leg 67 = .ok (.ireturn, 1) := by decide +kernel
theorem dX11_leg_68 : decode cX11_leg 68 = .ok (.iload 5, 2) := by decide +kernel
theorem dX11_leg_70 : decode cX11_leg 70 = .ok (.ifCond .lt 10, 3) := by decide +kernel
theorem dX11_leg_73 : decode cX11_leg 73 = .ok (.iload 6, 2) := by decide +kernel
theorem dX11_leg_75 : decode cX11_leg 75 = .ok (.iload 5, 2) := by decide +kernel
theorem dX11_leg_77 : decode cX11_leg 77 = .ok (.if_icmp .gt 10, 3) := by decide +kernel
theorem dX11_leg_80 : decode cX11_leg 80 = .ok (.aload_n 0, 1) := by decide +kernel
theorem dX11_leg_81 : decode cX11_leg 81 = .ok (.bipush (-4), 2) := by decide +kernel
theorem dX11_leg_83 : decode cX11_leg 83 = .ok (.invokevirtual 77, 3) := by decide +kernel
theorem dX11_leg_86 : decode cX11_leg 86 = .ok (.ireturn, 1) := by decide +kernel
theorem dX11_leg_87 : decode cX11_leg 87 = .ok (.iload 5, 2) := by decide +kernel
theorem dX11_leg_89 : decode cX11_leg 89 = .ok (.sipush 20000, 3) := by decide +kernel
theorem dX11_leg_92 : decode cX11_leg 92 = .ok (.if_icmp .gt 21, 3) := by decide +kernel
theorem dX11_leg_95 : decode cX11_leg 95 = .ok (.iload 6, 2) := by decide +kernel
theorem dX11_leg_97 : decode cX11_leg 97 = .ok (.sipush 20000, 3) := by decide +kernel
theorem dX11_leg_100 : decode cX11_leg 100 = .ok (.if_icmp .gt 13, 3) := by decide +kernel
theorem dX11_leg_103 : decode cX11_leg 103 = .ok (.aload_n 0, 1) := by decide +kernel
theorem dX11_leg_104 : decode cX11_leg 104 = .ok (.getfield 19, 3) := by decide +kernel
theorem dX11_leg_107 : decode cX11_leg 107 = .ok (.invokevirtual 115, 3) := by decide +kernel
theorem dX11_leg_110 : decode cX11_leg 110 = .ok (.ifCond .eq 10, 3) := by decide +kernel
theorem dX11_leg_113 : decode cX11_leg 113 = .ok (.aload_n 0, 1) := by decide +kernel
theorem dX11_leg_114 : decode cX11_leg 114 = .ok (.bipush (-6), 2) := by decide +kernel
theorem dX11_leg_116 : decode cX11_leg 116 = .ok (.invokevirtual 77, 3) := by decide +kernel
theorem dX11_leg_119 : decode cX11_leg 119 = .ok (.ireturn, 1) := by decide +kernel
theorem dX11_leg_120 : decode cX11_leg 120 = .ok (.aload_n 0, 1) := by decide +kernel
theorem dX11_leg_121 : decode cX11_leg 121 = .ok (.getfield 19, 3) := by decide +kernel
theorem dX11_leg_124 : decode cX11_leg 124 = .ok (.aload 7, 2) := by decide +kernel
theorem dX11_leg_126 : decode cX11_leg 126 = .ok (.aload 8, 2) := by decide +kernel
theorem dX11_leg_128 : decode cX11_leg 128 = .ok (.iload_n 3, 1) := by decide +kernel
theorem dX11_leg_129 : decode cX11_leg 129 = .ok (.iload 4, 2) := by decide +kernel
theorem dX11_leg_131 : decode cX11_leg 131 = .ok (.iload 5, 2) := by decide +kernel
theorem dX11_leg_133 : decode cX11_leg 133 = .ok (.iload 6, 2) := by decide +kernel
theorem dX11_leg_135 : decode cX11_leg 135 = .ok (.invokevirtual 119, 3) := by decide +kernel
theorem dX11_leg_138 : decode cX11_leg 138 = .ok (.ireturn, 1) := by decide +kernel
theorem dX11_log_0 : decode cX11_log 0 = .ok (.aload_n 0, 1) := by decide +kernel
theorem dX11_log_1 : decode cX11_log 1 = .ok (.getfield 19, 3) := by decide +kernel
theorem dX11_log_4 : decode cX11_log 4 = .ok (.iload_n 1, 1) := by decide +kernel
theorem dX11_log_5 : decode cX11_log 5 = .ok (.invokevirtual 123, 3) := by decide +kernel
theorem dX11_log_8 : decode cX11_log 8 = .ok (.astore 4, 2) := by decide +kernel
theorem dX11_log_10 : decode cX11_log 10 = .ok (.aload 4, 2) := by decide +kernel
theorem dX11_log_12 : decode cX11_log 12 = .ok (.ifnonnull 9, 3) := by decide +kernel
theorem dX11_log_15 : decode cX11_log 15 = .ok (.aload_n 0, 1) := by decide +kernel
theorem dX11_log_16 : decode cX11_log 16 = .ok (.iconst (-1), 1) := by decide +kernel
theorem dX11_log_17 : decode cX11_log 17 = .ok (.invokevirtual 77, 3) := by decide +kernel
theorem dX11_log_20 : decode cX11_log 20 = .ok (.ireturn, 1) := by decide +kernel
theorem dX11_log_21 : decode cX11_log 21 = .ok (.iload_n 2, 1) := by decide +kernel
theorem dX11_log_22 : decode cX11_log 22 = .ok (.ifCond .lt 7, 3) := by decide +kernel
theorem dX11_log_25 : decode cX11_log 25 = .ok (.iload_n 3, 1) := by decide +kernel
theorem dX11_log_26 : decode cX11_log 26 = .ok (.ifCond .ge 10, 3) := by decide +kernel
theorem dX11_log_29 : decode cX11_log 29 = .ok (.aload_n 0, 1) := by decide +kernel
theorem dX11_log_30 : decode cX11_log 30 = .ok (.bipush (-4), 2) := by decide +kernel
theorem dX11_log_32 : decode cX11_log 32 = .ok (.invokevirtual 77, 3) := by decide +kernel
theorem dX11_log_35 : decode cX11_log 35 = .ok (.ireturn, 1) := by decide +kernel
theorem dX11_log_36 : decode cX11_log 36 = .ok (.iload_n 2, 1) := by decide +kernel
theorem dX11_log_37 : decode cX11_log 37 = .ok (.sipush 30000, 3) := by decide +kernel
theorem dX11_log_40 : decode cX11_log 40 = .ok (.if_icmp .gt 10, 3) := by decide +kernel
theorem dX11_log_43 : decode cX11_log 43 = .ok (.iload_n 3, 1) := by decide +kernel
theorem dX11_log_44 : decode cX11_log 44 = .ok (.sipush 30000, 3) := by decide +kernel
theorem dX11_log_47 : decode cX11_log 47 = .ok (.if_icmp .le 10, 3) := by decide +kernel
theorem dX11_log_50 : decode cX11_log 50 = .ok (.aload_n 0, 1) := by decide +kernel
theorem dX11_log_51 : decode cX11_log 51 = .ok (.bipush (-6), 2) := by decide +kernel
theorem dX11_log_53 : decode cX11_log 53 = .ok (.invokevirtual 77, 3) := by decide +kernel
theorem dX11_log_56 : decode cX11_log 56 = .ok (.ireturn, 1) := by decide +kernel
theorem dX11_log_57 : decode cX11_log 57 = .ok (.aload 4, 2) := by decide +kernel
theorem dX11_log_59 : decode cX11_log 59 = .ok (.getfield 126, 3) := by decide +kernel
theorem dX11_log_62 : decode cX11_log 62 = .ok (.istore 5, 2) := by decide +kernel
theorem dX11_log_64 : decode cX11_log 64 = .ok (.aload 4, 2) := by decide +kernel
theorem dX11_log_66 : decode cX11_log 66 = .ok (.iload_n 2, 1) := by decide +kernel
theorem dX11_log_67 : decode cX11_log 67 = .ok (.iload_n 3, 1) := by decide +kernel
theorem dX11_log_68 : decode cX11_log 68 = .ok (.invokevirtual 132, 3) := by decide +kernel
theorem dX11_log_71 : decode cX11_log 71 = .ok (.iload 5, 2) := by decide +kernel
theorem dX11_log_73 : decode cX11_log 73 = .ok (.ifCond .eq 7, 3) := by decide +kernel
theorem dX11_log_76 : decode cX11_log 76 = .ok (.iconst 0, 1) := by decide +kernel
theorem dX11_log_77 : decode cX11_log 77 = .ok (.goto 4, 3) := by decide +kernel
theorem dX11_log_80 : decode cX11_log 80 = .ok (.iconst 1, 1) := by decide +kernel
theorem dX11_log_81 : decode cX11_log 81 = .ok (.ireturn, 1) := by decide +kernel
theorem dX11_cause_0 : decode cX11_cause 0 = .ok (.aload_n 0, 1) := by decide +kernel
theorem dX11_cause_1 : decode cX11_cause 1 = .ok (.getfield 19, 3) := by decide +kernel
theorem dX11_cause_4 : decode cX11_cause 4 = .ok (.iload_n 1, 1) := by decide +kernel
theorem dX11_cause_5 : decode cX11_cause 5 = .ok (.invokevirtual 123, 3) := by decide +kernel
theorem dX11_cause_8 : decode cX11_cause 8 = .ok (.astore_n 3, 1) := by decide +kernel
theorem dX11_cause_9 : decode cX11_cause 9 = .ok (.aload_n 3, 1) := by decide +kernel
theorem dX11_cause_10 : decode cX11_cause 10 = .ok (.ifnull 12, 3) := by decide +kernel
theorem dX11_cause_13 : decode cX11_cause 13 = .ok (.bipush 6, 2) := by decide +kernel
theorem dX11_cause_15 : decode cX11_cause 15 = .ok (.iload_n 2, 1) := by decide +kernel
theorem dX11_cause_16 : decode cX11_cause 16 = .ok (.invokestatic 85, 3) := by decide +kernel
theorem dX11_cause_19 : decode cX11_cause 19 = .ok (.ifCond .ne 9, 3) := by decide +kernel
theorem dX11_cause_22 : decode cX11_cause 22 = .ok (.aload_n 0, 1) := by decide +kernel
theorem dX11_cause_23 : decode cX11_cause 23 = .ok (.iconst (-1), 1) := by decide +kernel
theorem dX11_cause_24 : decode cX11_cause 24 = .ok (.invokevirtual 77, 3) := by decide +kernel
theorem dX11_cause_27 : decode cX11_cause 27 = .ok (.ireturn, 1) := by decide +kernel
theorem dX11_cause_28 : decode cX11_cause 28 = .ok (.aload_n 3, 1) := by decide +kernel
theorem dX11_cause_29 : decode cX11_cause 29 = .ok (.getfield 136, 3) := by decide +kernel
theorem dX11_cause_32 : decode cX11_cause 32 = .ok (.istore 4, 2) := by decide +kernel
theorem dX11_cause_34 : decode cX11_cause 34 = .ok (.aload_n 3, 1) := by decide +kernel
theorem dX11_cause_35 : decode cX11_cause 35 = .ok (.iload_n 2, 1) := by decide +kernel
theorem dX11_cause_36 : decode cX11_cause 36 = .ok (.putfield 136, 3) := by decide +kernel
theorem dX11_cause_39 : decode cX11_cause 39 = .ok (.iload 4, 2) := by decide +kernel
theorem dX11_cause_41 : decode cX11_cause 41 = .ok (.ireturn, 1) := by decide +kernel
theorem dX11_set_0 : decode cX11_set 0 = .ok (.aload_n 0, 1) := by decide +kernel
theorem dX11_set_1 : decode cX11_set 1 = .ok (.getfield 67, 3) := by decide +kernel
theorem dX11_set_4 : decode cX11_set 4 = .ok (.arraylength, 1) := by decide +kernel
theorem dX11_set_5 : decode cX11_set 5 = .ok (.iload_n 1, 1) := by decide +kernel
theorem dX11_set_6 : decode cX11_set 6 = .ok (.invokestatic 85, 3) := by decide +kernel
theorem dX11_set_9 : decode cX11_set 9 = .ok (.ifCond .ne 10, 3) := by decide +kernel
theorem dX11_set_12 : decode cX11_set 12 = .ok (.aload_n 0, 1) := by decide +kernel
theorem dX11_set_13 : decode cX11_set 13 = .ok (.bipush (-2), 2) := by decide +kernel
theorem dX11_set_15 : decode cX11_set 15 = .ok (.invokevirtual 77, 3) := by decide +kernel
theorem dX11_set_18 : decode cX11_set 18 = .ok (.ireturn, 1) := by decide +kernel
theorem dX11_set_19 : decode cX11_set 19 = .ok (.iload_n 2, 1) := by decide +kernel
theorem dX11_set_20 : decode cX11_set 20 = .ok (.getstatic 139, 3) := by decide +kernel
theorem dX11_set_23 : decode cX11_set 23 = .ok (.iload_n 1, 1) := by decide +kernel
theorem dX11_set_24 : decode cX11_set 24 = .ok (.iaload, 1) := by decide +kernel
theorem dX11_set_25 : decode cX11_set 25 = .ok (.if_icmp .ge 10, 3) := by decide +kernel
theorem dX11_set_28 : decode cX11_set 28 = .ok (.aload_n 0, 1) := by decide +kernel
theorem dX11_set_29 : decode cX11_set 29 = .ok (.bipush (-4), 2) := by decide +kernel
theorem dX11_set_31 : decode cX11_set 31 = .ok (.invokevirtual 77, 3) := by decide +kernel
theorem dX11_set_34 : decode cX11_set 34 = .ok (.ireturn, 1) := by decide +kernel
theorem dX11_set_35 : decode cX11_set 35 = .ok (.iload_n 2, 1) := by decide +kernel
theorem dX11_set_36 : decode cX11_set 36 = .ok (.getstatic 142, 3) := by decide +kernel
theorem dX11_set_39 : decode cX11_set 39 = .ok (.iload_n 1, 1) := by decide +kernel
theorem dX11_set_40 : decode cX11_set 40 = .ok (.iaload, 1) := by decide +kernel
theorem dX11_set_41 : decode cX11_set 41 = .ok (.if_icmp .le 10, 3) := by decide +kernel
theorem dX11_set_44 : decode cX11_set 44 = .ok (.aload_n 0, 1) := by decide +kernel
theorem dX11_set_45 : decode cX11_set 45 = .ok (.bipush (-6), 2) := by decide +kernel
theorem dX11_set_47 : decode cX11_set 47 = .ok (.invokevirtual 77, 3) := by decide +kernel
theorem dX11_set_50 : decode cX11_set 50 = .ok (.ireturn, 1) := by decide +kernel
theorem dX11_set_51 : decode cX11_set 51 = .ok (.aload_n 0, 1) := by decide +kernel
theorem dX11_set_52 : decode cX11_set 52 = .ok (.getfield 67, 3) := by decide +kernel
theorem dX11_set_55 : decode cX11_set 55 = .ok (.iload_n 1, 1) := by decide +kernel
theorem dX11_set_56 : decode cX11_set 56 = .ok (.iaload, 1) := by decide +kernel
theorem dX11_set_57 : decode cX11_set 57 = .ok (.istore_n 3, 1) := by decide +kernel
theorem dX11_set_58 : decode cX11_set 58 = .ok (.aload_n 0, 1) := by decide +kernel
theorem dX11_set_59 : decode cX11_set 59 = .ok (.getfield 67, 3) := by decide +kernel
theorem dX11_set_62 : decode cX11_set 62 = .ok (.iload_n 1, 1) := by decide +kernel
theorem dX11_set_63 : decode cX11_set 63 = .ok (.iload_n 2, 1) := by decide +kernel
theorem dX11_set_64 : decode cX11_set 64 = .ok (.iastore, 1) := by decide +kernel
theorem dX11_set_65 : decode cX11_set 65 = .ok (.iload_n 3, 1) := by decide +kernel
theorem dX11_set_66 : decode cX11_set 66 = .ok (.ireturn, 1) := by decide +kernel
theorem dX11_legOf_0 : decode cX11_legOf 0 = .ok (.aload_n 0, 1) := by decide +kernel
theorem dX11_legOf_1 : decode cX11_legOf 1 = .ok (.getfield 19, 3) := by decide +kernel
theorem dX11_legOf_4 : decode cX11_legOf 4 = .ok (.iload_n 1, 1) := by decide +kernel
theorem dX11_legOf_5 : decode cX11_legOf 5 = .ok (.invokevirtual 123, 3) := by decide +kernel
theorem dX11_legOf_8 : decode cX11_legOf 8 = .ok (.astore_n 3, 1) := by decide +kernel
theorem dX11_legOf_9 : decode cX11_legOf 9 = .ok (.aload_n 3, 1) := by decide +kernel
theorem dX11_legOf_10 : decode cX11_legOf 10 = .ok (.ifnonnull 9, 3) := by decide +kernel
theorem dX11_legOf_13 : decode cX11_legOf 13 = .ok (.aload_n 0, 1) := by decide +kernel
theorem dX11_legOf_14 : decode cX11_legOf 14 = .ok (.iconst (-1), 1) := by decide +kernel
theorem dX11_legOf_15 : decode cX11_legOf 15 = .ok (.invokevirtual 77, 3) := by decide +kernel
theorem dX11_legOf_18 : decode cX11_legOf 18 = .ok (.ireturn, 1) := by decide +kernel
theorem dX11_legOf_19 : decode cX11_legOf 19 = .ok (.bipush 6, 2) := by decide +kernel
theorem dX11_legOf_21 : decode cX11_legOf 21 = .ok (.iload_n 2, 1) := by decide +kernel
theorem dX11_legOf_22 : decode cX11_legOf 22 = .ok (.invokestatic 85, 3) := by decide +kernel
theorem dX11_legOf_25 : decode cX11_legOf 25 = .ok (.ifCond .ne 10, 3) := by decide +kernel
theorem dX11_legOf_28 : decode cX11_legOf 28 = .ok (.aload_n 0, 1) := by decide +kernel
theorem dX11_legOf_29 : decode cX11_legOf 29 = .ok (.bipush (-2), 2) := by decide +kernel
theorem dX11_legOf_31 : decode cX11_legOf 31 = .ok (.invokevirtual 77, 3) := by decide +kernel
theorem dX11_legOf_34 : decode cX11_legOf 34 = .ok (.ireturn, 1) := by decide +kernel
theorem dX11_legOf_35 : decode cX11_legOf 35 = .ok (.aload_n 3, 1) := by decide +kernel
theorem dX11_legOf_36 : decode cX11_legOf 36 = .ok (.getfield 126, 3) := by decide +kernel
theorem dX11_legOf_39 : decode cX11_legOf 39 = .ok (.ifCond .ne 10, 3) := by decide +kernel
theorem dX11_legOf_42 : decode cX11_legOf 42 = .ok (.aload_n 0, 1) := by decide +kernel
theorem dX11_legOf_43 : decode cX11_legOf 43 = .ok (.bipush (-5), 2) := by decide +kernel
theorem dX11_legOf_45 : decode cX11_legOf 45 = .ok (.invokevirtual 77, 3) := by decide +kernel
theorem dX11_legOf_48 : decode cX11_legOf 48 = .ok (.ireturn, 1) := by decide +kernel
theorem dX11_legOf_49 : decode cX11_legOf 49 = .ok (.iload_n 2, 1) := by decide +kernel
theorem dX11_legOf_50 : decode cX11_legOf 50 = .ok (.tableswitch 64 0 4 #[34, 39, 44, 51, 58], 34) := by decide +kernel
theorem dX11_legOf_84 : decode cX11_legOf 84 = .ok (.aload_n 3, 1) := by decide +kernel
theorem dX11_legOf_85 : decode cX11_legOf 85 = .ok (.getfield 145, 3) := by decide +kernel
theorem dX11_legOf_88 : decode cX11_legOf 88 = .ok (.ireturn, 1) := by decide +kernel
theorem dX11_legOf_89 : decode cX11_legOf 89 = .ok (.aload_n 3, 1) := by decide +kernel
theorem dX11_legOf_90 : decode cX11_legOf 90 = .ok (.getfield 148, 3) := by decide +kernel
theorem dX11_legOf_93 : decode cX11_legOf 93 = .ok (.ireturn, 1) := by decide +kernel
theorem dX11_legOf_94 : decode cX11_legOf 94 = .ok (.aload_n 0, 1) := by decide +kernel
theorem dX11_legOf_95 : decode cX11_legOf 95 = .ok (.aload_n 3, 1) := by decide +kernel
theorem dX11_legOf_96 : decode cX11_legOf 96 = .ok (.iconst 0, 1) := by decide +kernel
theorem dX11_legOf_97 : decode cX11_legOf 97 = .ok (.invokevirtual 151, 3) := by decide +kernel
theorem dX11_legOf_100 : decode cX11_legOf 100 = .ok (.ireturn, 1) := by decide +kernel
theorem dX11_legOf_101 : decode cX11_legOf 101 = .ok (.aload_n 0, 1) := by decide +kernel
theorem dX11_legOf_102 : decode cX11_legOf 102 = .ok (.aload_n 3, 1) := by decide +kernel
theorem dX11_legOf_103 : decode cX11_legOf 103 = .ok (.iconst 1, 1) := by decide +kernel
theorem dX11_legOf_104 : decode cX11_legOf 104 = .ok (.invokevirtual 151, 3) := by decide +kernel
theorem dX11_legOf_107 : decode cX11_legOf 107 = .ok (.ireturn, 1) := by decide +kernel
theorem dX11_legOf_108 : decode cX11_legOf 108 = .ok (.aload_n 0, 1) := by decide +kernel
theorem dX11_legOf_109 : decode cX11_legOf 109 = .ok (.aload_n 3, 1) := by decide +kernel
theorem dX11_legOf_110 : decode cX11_legOf 110 = .ok (.invokevirtual 155, 3) := by decide +kernel
theorem dX11_legOf_113 : decode cX11_legOf 113 = .ok (.ireturn, 1) := by decide +kernel
theorem dX11_legOf_114 : decode cX11_legOf 114 = .ok (.aload_n 3, 1) := by decide +kernel
theorem dX11_legOf_115 : decode cX11_legOf 115 = .ok (.getfield 145, 3) := by decide +kernel
theorem dX11_legOf_118 : decode cX11_legOf 118 = .ok (.aload_n 0, 1) := by decide +kernel
theorem dX11_legOf_119 : decode cX11_legOf 119 = .ok (.aload_n 3, 1) := by decide +kernel
theorem dX11_legOf_120 : decode cX11_legOf 120 = .ok (.invokevirtual 155, 3) := by decide +kernel
theorem dX11_legOf_123 : decode cX11_legOf 123 = .ok (.isub, 1) := by decide +kernel
theorem dX11_legOf_124 : decode cX11_legOf 124 = .ok (.ireturn, 1) := by decide +kernel
theorem dX11_ahead_0 : decode cX11_ahead 0 = .ok (.aload_n 0, 1) := by decide +kernel
theorem dX11_ahead_1 : decode cX11_ahead 1 = .ok (.getfield 19, 3) := by decide +kernel
theorem dX11_ahead_4 : decode cX11_ahead 4 = .ok (.iload_n 1, 1) := by decide +kernel
theorem dX11_ahead_5 : decode cX11_ahead 5 = .ok (.invokevirtual 123, 3) := by decide +kernel
theorem dX11_ahead_8 : decode cX11_ahead 8 = .ok (.astore_n 3, 1) := by decide +kernel
theorem dX11_ahead_9 : decode cX11_ahead 9 = .ok (.aload_n 3, 1) := by decide +kernel
theorem dX11_ahead_10 : decode cX11_ahead 10 = .ok (.ifnonnull 9, 3) := by decide +kernel
theorem dX11_ahead_13 : decode cX11_ahead 13 = .ok (.aload_n 0, 1) := by decide +kernel
theorem dX11_ahead_14 : decode cX11_ahead 14 = .ok (.iconst (-1), 1) := by decide +kernel
theorem dX11_ahead_15 : decode cX11_ahead 15 = .ok (.invokevirtual 77, 3) := by decide +kernel
theorem dX11_ahead_18 : decode cX11_ahead 18 = .ok (.ireturn, 1) := by decide +kernel
theorem dX11_ahead_19 : decode cX11_ahead 19 = .ok (.aload_n 0, 1) := by decide +kernel
theorem dX11_ahead_20 : decode cX11_ahead 20 = .ok (.getfield 19, 3) := by decide +kernel
theorem dX11_ahead_23 : decode cX11_ahead 23 = .ok (.aload_n 3, 1) := by decide +kernel
theorem dX11_ahead_24 : decode cX11_ahead 24 = .ok (.iload_n 2, 1) := by decide +kernel
theorem dX11_ahead_25 : decode cX11_ahead 25 = .ok (.aload_n 0, 1) := by decide +kernel
theorem dX11_ahead_26 : decode cX11_ahead 26 = .ok (.iload_n 2, 1) := by decide +kernel
theorem dX11_ahead_27 : decode cX11_ahead 27 = .ok (.invokevirtual 159, 3) := by decide +kernel
theorem dX11_ahead_30 : decode cX11_ahead 30 = .ok (.invokevirtual 163, 3) := by decide +kernel
theorem dX11_ahead_33 : decode cX11_ahead 33 = .ok (.astore 4, 2) := by decide +kernel
theorem dX11_ahead_35 : decode cX11_ahead 35 = .ok (.aload 4, 2) := by decide +kernel
theorem dX11_ahead_37 : decode cX11_ahead 37 = .ok (.ifnonnull 8, 3) := by decide +kernel
theorem dX11_ahead_40 : decode cX11_ahead 40 = .ok (.bipush (-9), 2) := by decide +kernel
theorem dX11_ahead_42 : decode cX11_ahead 42 = .ok (.goto 8, 3) := by decide +kernel
theorem dX11_ahead_45 : decode cX11_ahead 45 = .ok (.aload 4, 2) := by decide +kernel
theorem dX11_ahead_47 : decode cX11_ahead 47 = .ok (.getfield 167, 3) := by decide +kernel
theorem dX11_ahead_50 : decode cX11_ahead 50 = .ok (.ireturn, 1) := by decide +kernel
theorem dX11_minutes_0 : decode cX11_minutes 0 = .ok (.aload_n 0, 1) := by decide +kernel
theorem dX11_minutes_1 : decode cX11_minutes 1 = .ok (.getfield 19, 3) := by decide +kernel
theorem dX11_minutes_4 : decode cX11_minutes 4 = .ok (.iload_n 1, 1) := by decide +kernel
theorem dX11_minutes_5 : decode cX11_minutes 5 = .ok (.invokevirtual 123, 3) := by decide +kernel
theorem dX11_minutes_8 : decode cX11_minutes 8 = .ok (.astore_n 3, 1) := by decide +kernel
theorem dX11_minutes_9 : decode cX11_minutes 9 = .ok (.aload_n 3, 1) := by decide +kernel
theorem dX11_minutes_10 : decode cX11_minutes 10 = .ok (.ifnull 12, 3) := by decide +kernel
theorem dX11_minutes_13 : decode cX11_minutes 13 = .ok (.bipush 6, 2) := by decide +kernel
theorem dX11_minutes_15 : decode cX11_minutes 15 = .ok (.iload_n 2, 1) := by decide +kernel
theorem dX11_minutes_16 : decode cX11_minutes 16 = .ok (.invokestatic 85, 3) := by decide +kernel
theorem dX11_minutes_19 : decode cX11_minutes 19 = .ok (.ifCond .ne 9, 3) := by decide +kernel
theorem dX11_minutes_22 : decode cX11_minutes 22 = .ok (.aload_n 0, 1) := by decide +kernel
theorem dX11_minutes_23 : decode cX11_minutes 23 = .ok (.iconst (-1), 1) := by decide +kernel
theorem dX11_minutes_24 : decode cX11_minutes 24 = .ok (.invokevirtual 77, 3) := by decide +kernel
theorem dX11_minutes_27 : decode cX11_minutes 27 = .ok (.ireturn, 1) := by decide +kernel
theorem dX11_minutes_28 : decode cX11_minutes 28 = .ok (.aload_n 3, 1) := by decide +kernel
theorem dX11_minutes_29 : decode cX11_minutes 29 = .ok (.getfield 126, 3) := by decide +kernel
theorem dX11_minutes_32 : decode cX11_minutes 32 = .ok (.ifCond .ne 10, 3) := by decide +kernel
theorem dX11_minutes_35 : decode cX11_minutes 35 = .ok (.aload_n 0, 1) := by decide +kernel
theorem dX11_minutes_36 : decode cX11_minutes 36 = .ok (.bipush (-5), 2) := by decide +kernel
theorem dX11_minutes_38 : decode cX11_minutes 38 = .ok (.invokevirtual 77, 3) := by decide +kernel
theorem dX11_minutes_41 : decode cX11_minutes 41 = .ok (.ireturn, 1) := by decide +kernel
theorem dX11_minutes_42 : decode cX11_minutes 42 = .ok (.aload_n 0, 1) := by decide +kernel
theorem dX11_minutes_43 : decode cX11_minutes 43 = .ok (.getfield 19, 3) := by decide +kernel
theorem dX11_minutes_46 : decode cX11_minutes 46 = .ok (.aload_n 3, 1) := by decide +kernel
theorem dX11_minutes_47 : decode cX11_minutes 47 = .ok (.aload_n 0, 1) := by decide +kernel
theorem dX11_minutes_48 : decode cX11_minutes 48 = .ok (.getfield 67, 3) := by decide +kernel
theorem dX11_minutes_51 : decode cX11_minutes 51 = .ok (.iconst 0, 1) := by decide +kernel
theorem dX11_minutes_52 : decode cX11_minutes 52 = .ok (.iaload, 1) := by decide +kernel
theorem dX11_minutes_53 : decode cX11_minutes 53 = .ok (.aload_n 0, 1) := by decide +kernel
theorem dX11_minutes_54 : decode cX11_minutes 54 = .ok (.getfield 67, 3) := by decide +kernel
theorem dX11_minutes_57 : decode cX11_minutes 57 = .ok (.iconst 1, 1) := by decide +kernel
theorem dX11_minutes_58 : decode cX11_minutes 58 = .ok (.iaload, 1) := by decide +kernel
theorem dX11_minutes_59 : decode cX11_minutes 59 = .ok (.invokevirtual 170, 3) := by decide +kernel
theorem dX11_minutes_62 : decode cX11_minutes 62 = .ok (.aload_n 0, 1) := by decide +kernel
theorem dX11_minutes_63 : decode cX11_minutes 63 = .ok (.getfield 19, 3) := by decide +kernel
theorem dX11_minutes_66 : decode cX11_minutes 66 = .ok (.getfield 174, 3) := by decide +kernel
theorem dX11_minutes_69 : decode cX11_minutes 69 = .ok (.iload_n 2, 1) := by decide +kernel
theorem dX11_minutes_70 : decode cX11_minutes 70 = .ok (.iaload, 1) := by decide +kernel
theorem dX11_minutes_71 : decode cX11_minutes 71 = .ok (.ireturn, 1) := by decide +kernel
theorem dX11_saved_0 : decode cX11_saved 0 = .ok (.aload_n 0, 1) := by decide +kernel
theorem dX11_saved_1 : decode cX11_saved 1 = .ok (.getfield 19, 3) := by decide +kernel
theorem dX11_saved_4 : decode cX11_saved 4 = .ok (.iload_n 1, 1) := by decide +kernel
theorem dX11_saved_5 : decode cX11_saved 5 = .ok (.invokevirtual 123, 3) := by decide +kernel
theorem dX11_saved_8 : decode cX11_saved 8 = .ok (.astore_n 3, 1) := by decide +kernel
theorem dX11_saved_9 : decode cX11_saved 9 = .ok (.aload_n 3, 1) := by decide +kernel
theorem dX11_saved_10 : decode cX11_saved 10 = .ok (.ifnonnull 9, 3) := by decide +kernel
theorem dX11_saved_13 : decode cX11_saved 13 = .ok (.aload_n 0, 1) := by decide +kernel
theorem dX11_saved_14 : decode cX11_saved 14 = .ok (.iconst (-1), 1) := by decide +kernel
theorem dX11_saved_15 : decode cX11_saved 15 = .ok (.invokevirtual 77, 3) := by decide +kernel
theorem dX11_saved_18 : decode cX11_saved 18 = .ok (.ireturn, 1) := by decide +kernel
theorem dX11_saved_19 : decode cX11_saved 19 = .ok (.aload_n 3, 1) := by decide +kernel
theorem dX11_saved_20 : decode cX11_saved 20 = .ok (.getfield 126, 3) := by decide +kernel
theorem dX11_saved_23 : decode cX11_saved 23 = .ok (.ifCond .ne 10, 3) := by decide +kernel
theorem dX11_saved_26 : decode cX11_saved 26 = .ok (.aload_n 0, 1) := by decide +kernel
theorem dX11_saved_27 : decode cX11_saved 27 = .ok (.bipush (-5), 2) := by decide +kernel
theorem dX11_saved_29 : decode cX11_saved 29 = .ok (.invokevirtual 77, 3) := by decide +kernel
theorem dX11_saved_32 : decode cX11_saved 32 = .ok (.ireturn, 1) := by decide +kernel
theorem dX11_saved_33 : decode cX11_saved 33 = .ok (.iload_n 2, 1) := by decide +kernel
theorem dX11_saved_34 : decode cX11_saved 34 = .ok (.ifCond .ge 10, 3) := by decide +kernel
theorem dX11_saved_37 : decode cX11_saved 37 = .ok (.aload_n 0, 1) := by decide +kernel
theorem dX11_saved_38 : decode cX11_saved 38 = .ok (.bipush (-4), 2) := by decide +kernel
theorem dX11_saved_40 : decode cX11_saved 40 = .ok (.invokevirtual 77, 3) := by decide +kernel
theorem dX11_saved_43 : decode cX11_saved 43 = .ok (.ireturn, 1) := by decide +kernel
theorem dX11_saved_44 : decode cX11_saved 44 = .ok (.iload_n 2, 1) := by decide +kernel
theorem dX11_saved_45 : decode cX11_saved 45 = .ok (.sipush 30000, 3) := by decide +kernel
theorem dX11_saved_48 : decode cX11_saved 48 = .ok (.if_icmp .le 10, 3) := by decide +kernel
theorem dX11_saved_51 : decode cX11_saved 51 = .ok (.aload_n 0, 1) := by decide +kernel
theorem dX11_saved_52 : decode cX11_saved 52 = .ok (.bipush (-6), 2) := by decide +kernel
theorem dX11_saved_54 : decode cX11_saved 54 = .ok (.invokevirtual 77, 3) := by decide +kernel
theorem dX11_saved_57 : decode cX11_saved 57 = .ok (.ireturn, 1) := by decide +kernel
theorem dX11_saved_58 : decode cX11_saved 58 = .ok (.iload_n 2, 1) := by decide +kernel
theorem dX11_saved_59 : decode cX11_saved 59 = .ok (.aload_n 3, 1) := by decide +kernel
theorem dX11_saved_60 : decode cX11_saved 60 = .ok (.getfield 177, 3) := by decide +kernel
theorem dX11_saved_63 : decode cX11_saved 63 = .ok (.aload_n 0, 1) := by decide +kernel
theorem dX11_saved_64 : decode cX11_saved 64 = .ok (.aload_n 3, 1) := by decide +kernel
theorem dX11_saved_65 : decode cX11_saved 65 = .ok (.iconst 1, 1) := by decide +kernel
theorem dX11_saved_66 : decode cX11_saved 66 = .ok (.invokevirtual 151, 3) := by decide +kernel
theorem dX11_saved_69 : decode cX11_saved 69 = .ok (.iadd, 1) := by decide +kernel
theorem dX11_saved_70 : decode cX11_saved 70 = .ok (.invokestatic 180, 3) := by decide +kernel
theorem dX11_saved_73 : decode cX11_saved 73 = .ok (.istore 4, 2) := by decide +kernel
theorem dX11_saved_75 : decode cX11_saved 75 = .ok (.iconst 0, 1) := by decide +kernel
theorem dX11_saved_76 : decode cX11_saved 76 = .ok (.aload_n 3, 1) := by decide +kernel
theorem dX11_saved_77 : decode cX11_saved 77 = .ok (.getfield 186, 3) := by decide +kernel
theorem dX11_saved_80 : decode cX11_saved 80 = .ok (.iload 4, 2) := by decide +kernel
theorem dX11_saved_82 : decode cX11_saved 82 = .ok (.isub, 1) := by decide +kernel
theorem dX11_saved_83 : decode cX11_saved 83 = .ok (.invokestatic 180, 3) := by decide +kernel
theorem dX11_saved_86 : decode cX11_saved 86 = .ok (.ireturn, 1) := by decide +kernel
theorem dX11_traveller_0 : decode cX11_traveller 0 = .ok (.aload_n 0, 1) := by decide +kernel
theorem dX11_traveller_1 : decode cX11_traveller 1 = .ok (.getfield 19, 3) := by decide +kernel
theorem dX11_traveller_4 : decode cX11_traveller 4 = .ok (.iload_n 1, 1) := by decide +kernel
theorem dX11_traveller_5 : decode cX11_traveller 5 = .ok (.invokevirtual 123, 3) := by decide +kernel
theorem dX11_traveller_8 : decode cX11_traveller 8 = .ok (.astore_n 2, 1) := by decide +kernel
theorem dX11_traveller_9 : decode cX11_traveller 9 = .ok (.aload_n 2, 1) := by decide +kernel
theorem dX11_traveller_10 : decode cX11_traveller 10 = .ok (.ifnonnull 9, 3) := by decide +kernel
theorem dX11_traveller_13 : decode cX11_traveller 13 = .ok (.aload_n 0, 1) := by decide +kernel
theorem dX11_traveller_14 : decode cX11_traveller 14 = .ok (.iconst (-1), 1) := by decide +kernel
theorem dX11_traveller_15 : decode cX11_traveller 15 = .ok (.invokevirtual 77, 3) := by decide +kernel
theorem dX11_traveller_18 : decode cX11_traveller 18 = .ok (.ireturn, 1) := by decide +kernel
theorem dX11_traveller_19 : decode cX11_traveller 19 = .ok (.aload_n 0, 1) := by decide +kernel
theorem dX11_traveller_20 : decode cX11_traveller 20 = .ok (.getfield 26, 3) := by decide +kernel
theorem dX11_traveller_23 : decode cX11_traveller 23 = .ok (.invokevirtual 189, 3) := by decide +kernel
theorem dX11_traveller_26 : decode cX11_traveller 26 = .ok (.ifCond .eq 10, 3) := by decide +kernel
theorem dX11_traveller_29 : decode cX11_traveller 29 = .ok (.aload_n 0, 1) := by decide +kernel
theorem dX11_traveller_30 : decode cX11_traveller 30 = .ok (.bipush (-6), 2) := by decide +kernel
theorem dX11_traveller_32 : decode cX11_traveller 32 = .ok (.invokevirtual 77, 3) := by decide +kernel
theorem dX11_traveller_35 : decode cX11_traveller 35 = .ok (.ireturn, 1) := by decide +kernel
theorem dX11_traveller_36 : decode cX11_traveller 36 = .ok (.aload_n 0, 1) := by decide +kernel
theorem dX11_traveller_37 : decode cX11_traveller 37 = .ok (.getfield 26, 3) := by decide +kernel
theorem dX11_traveller_40 : decode cX11_traveller 40 = .ok (.aload_n 2, 1) := by decide +kernel
theorem dX11_traveller_41 : decode cX11_traveller 41 = .ok (.invokevirtual 190, 3) := by decide +kernel
theorem dX11_traveller_44 : decode cX11_traveller 44 = .ok (.ireturn, 1) := by decide +kernel
theorem dX11_then_0 : decode cX11_then 0 = .ok (.aload_n 0, 1) := by decide +kernel
theorem dX11_then_1 : decode cX11_then 1 = .ok (.getfield 26, 3) := by decide +kernel
theorem dX11_then_4 : decode cX11_then 4 = .ok (.iload_n 1, 1) := by decide +kernel
theorem dX11_then_5 : decode cX11_then 5 = .ok (.invokevirtual 192, 3) := by decide +kernel
theorem dX11_then_8 : decode cX11_then 8 = .ok (.astore_n 3, 1) := by decide +kernel
theorem dX11_then_9 : decode cX11_then 9 = .ok (.aload_n 0, 1) := by decide +kernel
theorem dX11_then_10 : decode cX11_then 10 = .ok (.getfield 19, 3) := by decide +kernel
theorem dX11_then_13 : decode cX11_then 13 = .ok (.iload_n 2, 1) := by decide +kernel
theorem dX11_then_14 : decode cX11_then 14 = .ok (.invokevirtual 123, 3) := by decide +kernel
theorem dX11_then_17 : decode cX11_then 17 = .ok (.astore 4, 2) := by decide +kernel
theorem dX11_then_19 : decode cX11_then 19 = .ok (.aload_n 3, 1) := by decide +kernel
theorem dX11_then_20 : decode cX11_then 20 = .ok (.ifnull 8, 3) := by decide +kernel
theorem dX11_then_23 : decode cX11_then 23 = .ok (.aload 4, 2) := by decide +kernel
theorem dX11_then_25 : decode cX11_then 25 = .ok (.ifnonnull 9, 3) := by decide +kernel
theorem dX11_then_28 : decode cX11_then 28 = .ok (.aload_n 0, 1) := by decide +kernel
theorem dX11_then_29 : decode cX11_then 29 = .ok (.iconst (-1), 1) := by decide +kernel
theorem dX11_then_30 : decode cX11_then 30 = .ok (.invokevirtual 77, 3) := by decide +kernel
theorem dX11_then_33 : decode cX11_then 33 = .ok (.ireturn, 1) := by decide +kernel
theorem dX11_then_34 : decode cX11_then 34 = .ok (.aload_n 3, 1) := by decide +kernel
theorem dX11_then_35 : decode cX11_then 35 = .ok (.aload 4, 2) := by decide +kernel
theorem dX11_then_37 : decode cX11_then 37 = .ok (.aload_n 0, 1) := by decide +kernel
theorem dX11_then_38 : decode cX11_then 38 = .ok (.getfield 67, 3) := by decide +kernel
theorem dX11_then_41 : decode cX11_then 41 = .ok (.iconst 2, 1) := by decide +kernel
theorem dX11_then_42 : decode cX11_then 42 = .ok (.iaload, 1) := by decide +kernel
theorem dX11_then_43 : decode cX11_then 43 = .ok (.invokevirtual 195, 3) := by decide +kernel
theorem dX11_then_46 : decode cX11_then 46 = .ok (.ifCond .ne 10, 3) := by decide +kernel
theorem dX11_then_49 : decode cX11_then 49 = .ok (.aload_n 0, 1) := by decide +kernel
theorem dX11_then_50 : decode cX11_then 50 = .ok (.bipush (-3), 2) := by decide +kernel
theorem dX11_then_52 : decode cX11_then 52 = .ok (.invokevirtual 77, 3) := by decide +kernel
theorem dX11_then_55 : decode cX11_then 55 = .ok (.ireturn, 1) := by decide +kernel
theorem dX11_then_56 : decode cX11_then 56 = .ok (.aload_n 3, 1) := by decide +kernel
theorem dX11_then_57 : decode cX11_then 57 = .ok (.invokevirtual 201, 3) := by decide +kernel
theorem dX11_then_60 : decode cX11_then 60 = .ok (.ifCond .eq 10, 3) := by decide +kernel
theorem dX11_then_63 : decode cX11_then 63 = .ok (.aload_n 0, 1) := by decide +kernel
theorem dX11_then_64 : decode cX11_then 64 = .ok (.bipush (-6), 2) := by decide +kernel
theorem dX11_then_66 : decode cX11_then 66 = .ok (.invokevirtual 77, 3) := by decide +kernel
theorem dX11_then_69 : decode cX11_then 69 = .ok (.ireturn, 1) := by decide +kernel
theorem dX11_then_70 : decode cX11_then 70 = .ok (.aload_n 3, 1) := by decide +kernel
theorem dX11_then_71 : decode cX11_then 71 = .ok (.aload 4, 2) := by decide +kernel
theorem dX11_then_73 : decode cX11_then 73 = .ok (.invokevirtual 202, 3) := by decide +kernel
theorem dX11_then_76 : decode cX11_then 76 = .ok (.aload_n 3, 1) := by decide +kernel
theorem dX11_then_77 : decode cX11_then 77 = .ok (.getfield 205, 3) := by decide +kernel
theorem dX11_then_80 : decode cX11_then 80 = .ok (.ireturn, 1) := by decide +kernel
theorem dX11_missed_0 : decode cX11_missed 0 = .ok (.aload_n 0, 1) := by decide +kernel
theorem dX11_missed_1 : decode cX11_missed 1 = .ok (.getfield 26, 3) := by decide +kernel
theorem dX11_missed_4 : decode cX11_missed 4 = .ok (.iload_n 1, 1) := by decide +kernel
theorem dX11_missed_5 : decode cX11_missed 5 = .ok (.invokevirtual 192, 3) := by decide +kernel
theorem dX11_missed_8 : decode cX11_missed 8 = .ok (.astore_n 2, 1) := by decide +kernel
theorem dX11_missed_9 : decode cX11_missed 9 = .ok (.aload_n 2, 1) := by decide +kernel
theorem dX11_missed_10 : decode cX11_missed 10 = .ok (.ifnonnull 9, 3) := by decide +kernel
theorem dX11_missed_13 : decode cX11_missed 13 = .ok (.aload_n 0, 1) := by decide +kernel
theorem dX11_missed_14 : decode cX11_missed 14 = .ok (.iconst (-1), 1) := by decide +kernel
theorem dX11_missed_15 : decode cX11_missed 15 = .ok (.invokevirtual 77, 3) := by decide +kernel
theorem dX11_missed_18 : decode cX11_missed 18 = .ok (.ireturn, 1) := by decide +kernel
theorem dX11_missed_19 : decode cX11_missed 19 = .ok (.aload_n 2, 1) := by decide +kernel
theorem dX11_missed_20 : decode cX11_missed 20 = .ok (.aload_n 0, 1) := by decide +kernel
theorem dX11_missed_21 : decode cX11_missed 21 = .ok (.getfield 67, 3) := by decide +kernel
theorem dX11_missed_24 : decode cX11_missed 24 = .ok (.iconst 2, 1) := by decide +kernel
theorem dX11_missed_25 : decode cX11_missed 25 = .ok (.iaload, 1) := by decide +kernel
theorem dX11_missed_26 : decode cX11_missed 26 = .ok (.invokevirtual 208, 3) := by decide +kernel
theorem dX11_missed_29 : decode cX11_missed 29 = .ok (.ireturn, 1) := by decide +kernel
theorem dX11_soonest_0 : decode cX11_soonest 0 = .ok (.aload_n 0, 1) := by decide +kernel
theorem dX11_soonest_1 : decode cX11_soonest 1 = .ok (.getfield 26, 3) := by decide +kernel
theorem dX11_soonest_4 : decode cX11_soonest 4 = .ok (.iload_n 1, 1) := by decide +kernel
theorem dX11_soonest_5 : decode cX11_soonest 5 = .ok (.invokevirtual 192, 3) := by decide +kernel
theorem dX11_soonest_8 : decode cX11_soonest 8 = .ok (.astore_n 2, 1) := by decide +kernel
theorem dX11_soonest_9 : decode cX11_soonest 9 = .ok (.aload_n 2, 1) := by decide +kernel
theorem dX11_soonest_10 : decode cX11_soonest 10 = .ok (.ifnonnull 9, 3) := by decide +kernel
theorem dX11_soonest_13 : decode cX11_soonest 13 = .ok (.aload_n 0, 1) := by decide +kernel
theorem dX11_soonest_14 : decode cX11_soonest 14 = .ok (.iconst (-1), 1) := by decide +kernel
theorem dX11_soonest_15 : decode cX11_soonest 15 = .ok (.invokevirtual 77, 3) := by decide +kernel
theorem dX11_soonest_18 : decode cX11_soonest 18 = .ok (.ireturn, 1) := by decide +kernel
theorem dX11_soonest_19 : decode cX11_soonest 19 = .ok (.aload_n 0, 1) := by decide +kernel
theorem dX11_soonest_20 : decode cX11_soonest 20 = .ok (.aload_n 2, 1) := by decide +kernel
theorem dX11_soonest_21 : decode cX11_soonest 21 = .ok (.invokevirtual 211, 3) := by decide +kernel
theorem dX11_soonest_24 : decode cX11_soonest 24 = .ok (.ireturn, 1) := by decide +kernel
theorem dX11_hours_0 : decode cX11_hours 0 = .ok (.aload_n 0, 1) := by decide +kernel
theorem dX11_hours_1 : decode cX11_hours 1 = .ok (.getfield 26, 3) := by decide +kernel
theorem dX11_hours_4 : decode cX11_hours 4 = .ok (.iload_n 1, 1) := by decide +kernel
theorem dX11_hours_5 : decode cX11_hours 5 = .ok (.invokevirtual 192, 3) := by decide +kernel
theorem dX11_hours_8 : decode cX11_hours 8 = .ok (.astore_n 2, 1) := by decide +kernel
theorem dX11_hours_9 : decode cX11_hours 9 = .ok (.aload_n 2, 1) := by decide +kernel
theorem dX11_hours_10 : decode cX11_hours 10 = .ok (.ifnonnull 9, 3) := by decide +kernel
theorem dX11_hours_13 : decode cX11_hours 13 = .ok (.aload_n 0, 1) := by decide +kernel
theorem dX11_hours_14 : decode cX11_hours 14 = .ok (.iconst (-1), 1) := by decide +kernel
theorem dX11_hours_15 : decode cX11_hours 15 = .ok (.invokevirtual 77, 3) := by decide +kernel
theorem dX11_hours_18 : decode cX11_hours 18 = .ok (.ireturn, 1) := by decide +kernel
theorem dX11_hours_19 : decode cX11_hours 19 = .ok (.aload_n 0, 1) := by decide +kernel
theorem dX11_hours_20 : decode cX11_hours 20 = .ok (.aload_n 2, 1) := by decide +kernel
theorem dX11_hours_21 : decode cX11_hours 21 = .ok (.invokevirtual 215, 3) := by decide +kernel
theorem dX11_hours_24 : decode cX11_hours 24 = .ok (.ireturn, 1) := by decide +kernel
theorem dX11_blame_0 : decode cX11_blame 0 = .ok (.aload_n 0, 1) := by decide +kernel
theorem dX11_blame_1 : decode cX11_blame 1 = .ok (.getfield 26, 3) := by decide +kernel
theorem dX11_blame_4 : decode cX11_blame 4 = .ok (.iload_n 1, 1) := by decide +kernel
theorem dX11_blame_5 : decode cX11_blame 5 = .ok (.invokevirtual 192, 3) := by decide +kernel
theorem dX11_blame_8 : decode cX11_blame 8 = .ok (.astore_n 2, 1) := by decide +kernel
theorem dX11_blame_9 : decode cX11_blame 9 = .ok (.aload_n 2, 1) := by decide +kernel
theorem dX11_blame_10 : decode cX11_blame 10 = .ok (.ifnonnull 9, 3) := by decide +kernel
theorem dX11_blame_13 : decode cX11_blame 13 = .ok (.aload_n 0, 1) := by decide +kernel
theorem dX11_blame_14 : decode cX11_blame 14 = .ok (.iconst (-1), 1) := by decide +kernel
theorem dX11_blame_15 : decode cX11_blame 15 = .ok (.invokevirtual 77, 3) := by decide +kernel
theorem dX11_blame_18 : decode cX11_blame 18 = .ok (.ireturn, 1) := by decide +kernel
theorem dX11_blame_19 : decode cX11_blame 19 = .ok (.aload_n 0, 1) := by decide +kernel
theorem dX11_blame_20 : decode cX11_blame 20 = .ok (.aload_n 2, 1) := by decide +kernel
theorem dX11_blame_21 : decode cX11_blame 21 = .ok (.invokevirtual 218, 3) := by decide +kernel
theorem dX11_blame_24 : decode cX11_blame 24 = .ok (.ireturn, 1) := by decide +kernel
theorem dX11_law_0 : decode cX11_law 0 = .ok (.iconst 4, 1) := by decide +kernel
theorem dX11_law_1 : decode cX11_law 1 = .ok (.iload_n 1, 1) := by decide +kernel
theorem dX11_law_2 : decode cX11_law 2 = .ok (.invokestatic 85, 3) := by decide +kernel
theorem dX11_law_5 : decode cX11_law 5 = .ok (.ifCond .ne 9, 3) := by decide +kernel
theorem dX11_law_8 : decode cX11_law 8 = .ok (.aload_n 0, 1) := by decide +kernel
theorem dX11_law_9 : decode cX11_law 9 = .ok (.iconst (-1), 1) := by decide +kernel
theorem dX11_law_10 : decode cX11_law 10 = .ok (.invokevirtual 77, 3) := by decide +kernel
theorem dX11_law_13 : decode cX11_law 13 = .ok (.ireturn, 1) := by decide +kernel
theorem dX11_law_14 : decode cX11_law 14 = .ok (.iload_n 2, 1) := by decide +kernel
theorem dX11_law_15 : decode cX11_law 15 = .ok (.aload_n 0, 1) := by decide +kernel
theorem dX11_law_16 : decode cX11_law 16 = .ok (.getfield 73, 3) := by decide +kernel
theorem dX11_law_19 : decode cX11_law 19 = .ok (.if_icmp .lt 17, 3) := by decide +kernel
theorem dX11_law_22 : decode cX11_law 22 = .ok (.iload_n 3, 1) := by decide +kernel
theorem dX11_law_23 : decode cX11_law 23 = .ok (.ifCond .lt 13, 3) := by decide +kernel
theorem dX11_law_26 : decode cX11_law 26 = .ok (.iload 4, 2) := by decide +kernel
theorem dX11_law_28 : decode cX11_law 28 = .ok (.ifCond .lt 8, 3) := by decide +kernel
theorem dX11_law_31 : decode cX11_law 31 = .ok (.iload 5, 2) := by decide +kernel
theorem dX11_law_33 : decode cX11_law 33 = .ok (.ifCond .ge 10, 3) := by decide +kernel
theorem dX11_law_36 : decode cX11_law 36 = .ok (.aload_n 0, 1) := by decide +kernel
theorem dX11_law_37 : decode cX11_law 37 = .ok (.bipush (-4), 2) := by decide +kernel
theorem dX11_law_39 : decode cX11_law 39 = .ok (.invokevirtual 77, 3) := by decide +kernel
theorem dX11_law_42 : decode cX11_law 42 = .ok (.ireturn, 1) := by decide +kernel
theorem dX11_law_43 : decode cX11_law 43 = .ok (.iload_n 2, 1) := by decide +kernel
theorem dX11_law_44 : decode cX11_law 44 = .ok (.sipush 4000, 3) := by decide +kernel
theorem dX11_law_47 : decode cX11_law 47 = .ok (.if_icmp .gt 26, 3) := by decide +kernel
theorem dX11_law_50 : decode cX11_law 50 = .ok (.iload_n 3, 1) := by decide +kernel
theorem dX11_law_51 : decode cX11_law 51 = .ok (.sipush 9999, 3) := by decide +kernel
theorem dX11_law_54 : decode cX11_law 54 = .ok (.if_icmp .gt 19, 3) := by decide +kernel
theorem dX11_law_57 : decode cX11_law 57 = .ok (.iload 4, 2) := by decide +kernel
theorem dX11_law_59 : decode cX11_law 59 = .ok (.sipush 9999, 3) := by decide +kernel
theorem dX11_law_62 : decode cX11_law 62 = .ok (.if_icmp .gt 11, 3) := by decide +kernel
theorem dX11_law_65 : decode cX11_law 65 = .ok (.iload 5, 2) := by decide +kernel
theorem dX11_law_67 : decode cX11_law 67 = .ok (.sipush 9999, 3) := by decide +kernel
theorem dX11_law_70 : decode cX11_law 70 = .ok (.if_icmp .le 10, 3) := by decide +kernel
theorem dX11_law_73 : decode cX11_law 73 = .ok (.aload_n 0, 1) := by decide +kernel
theorem dX11_law_74 : decode cX11_law 74 = .ok (.bipush (-6), 2) := by decide +kernel
theorem dX11_law_76 : decode cX11_law 76 = .ok (.invokevirtual 77, 3) := by decide +kernel
theorem dX11_law_79 : decode cX11_law 79 = .ok (.ireturn, 1) := by decide +kernel
theorem dX11_law_80 : decode cX11_law 80 = .ok (.aload_n 0, 1) := by decide +kernel
theorem dX11_law_81 : decode cX11_law 81 = .ok (.getfield 33, 3) := by decide +kernel
theorem dX11_law_84 : decode cX11_law 84 = .ok (.invokevirtual 221, 3) := by decide +kernel
theorem dX11_law_87 : decode cX11_law 87 = .ok (.ifCond .eq 10, 3) := by decide +kernel
theorem dX11_law_90 : decode cX11_law 90 = .ok (.aload_n 0, 1) := by decide +kernel
theorem dX11_law_91 : decode cX11_law 91 = .ok (.bipush (-6), 2) := by decide +kernel
theorem dX11_law_93 : decode cX11_law 93 = .ok (.invokevirtual 77, 3) := by decide +kernel
theorem dX11_law_96 : decode cX11_law 96 = .ok (.ireturn, 1) := by decide +kernel
theorem dX11_law_97 : decode cX11_law 97 = .ok (.aload_n 0, 1) := by decide +kernel
theorem dX11_law_98 : decode cX11_law 98 = .ok (.getfield 33, 3) := by decide +kernel
theorem dX11_law_101 : decode cX11_law 101 = .ok (.iload_n 1, 1) := by decide +kernel
theorem dX11_law_102 : decode cX11_law 102 = .ok (.iload_n 2, 1) := by decide +kernel
theorem dX11_law_103 : decode cX11_law 103 = .ok (.iload_n 3, 1) := by decide +kernel
theorem dX11_law_104 : decode cX11_law 104 = .ok (.iload 4, 2) := by decide +kernel
theorem dX11_law_106 : decode cX11_law 106 = .ok (.iload 5, 2) := by decide +kernel
theorem dX11_law_108 : decode cX11_law 108 = .ok (.invokevirtual 222, 3) := by decide +kernel
theorem dX11_law_111 : decode cX11_law 111 = .ok (.ireturn, 1) := by decide +kernel
theorem dX11_excuse_0 : decode cX11_excuse 0 = .ok (.iconst 4, 1) := by decide +kernel
theorem dX11_excuse_1 : decode cX11_excuse 1 = .ok (.iload_n 1, 1) := by decide +kernel
theorem dX11_excuse_2 : decode cX11_excuse 2 = .ok (.invokestatic 85, 3) := by decide +kernel
theorem dX11_excuse_5 : decode cX11_excuse 5 = .ok (.ifCond .eq 12, 3) := by decide +kernel
theorem dX11_excuse_8 : decode cX11_excuse 8 = .ok (.bipush 6, 2) := by decide +kernel
theorem dX11_excuse_10 : decode cX11_excuse 10 = .ok (.iload_n 2, 1) := by decide +kernel
theorem dX11_excuse_11 : decode cX11_excuse 11 = .ok (.invokestatic 85, 3) := by decide +kernel
theorem dX11_excuse_14 : decode cX11_excuse 14 = .ok (.ifCond .ne 9, 3) := by decide +kernel
theorem dX11_excuse_17 : decode cX11_excuse 17 = .ok (.aload_n 0, 1) := by decide +kernel
theorem dX11_excuse_18 : decode cX11_excuse 18 = .ok (.iconst (-1), 1) := by decide +kernel
theorem dX11_excuse_19 : decode cX11_excuse 19 = .ok (.invokevirtual 77, 3) := by decide +kernel
theorem dX11_excuse_22 : decode cX11_excuse 22 = .ok (.ireturn, 1) := by decide +kernel
theorem dX11_excuse_23 : decode cX11_excuse 23 = .ok (.iload_n 3, 1) := by decide +kernel
theorem dX11_excuse_24 : decode cX11_excuse 24 = .ok (.ifCond .ge 10, 3) := by decide +kernel
theorem dX11_excuse_27 : decode cX11_excuse 27 = .ok (.aload_n 0, 1) := by decide +kernel
theorem dX11_excuse_28 : decode cX11_excuse 28 = .ok (.bipush (-4), 2) := by decide +kernel
theorem dX11_excuse_30 : decode cX11_excuse 30 = .ok (.invokevirtual 77, 3) := by decide +kernel
theorem dX11_excuse_33 : decode cX11_excuse 33 = .ok (.ireturn, 1) := by decide +kernel
theorem dX11_excuse_34 : decode cX11_excuse 34 = .ok (.iload_n 3, 1) := by decide +kernel
theorem dX11_excuse_35 : decode cX11_excuse 35 = .ok (.sipush 4000, 3) := by decide +kernel
theorem dX11_excuse_38 : decode cX11_excuse 38 = .ok (.if_icmp .gt 13, 3) := by decide +kernel
theorem dX11_excuse_41 : decode cX11_excuse 41 = .ok (.aload_n 0, 1) := by decide +kernel
theorem dX11_excuse_42 : decode cX11_excuse 42 = .ok (.getfield 33, 3) := by decide +kernel
theorem dX11_excuse_45 : decode cX11_excuse 45 = .ok (.invokevirtual 225, 3) := by decide +kernel
theorem dX11_excuse_48 : decode cX11_excuse 48 = .ok (.ifCond .eq 10, 3) := by decide +kernel
theorem dX11_excuse_51 : decode cX11_excuse 51 = .ok (.aload_n 0, 1) := by decide +kernel
theorem dX11_excuse_52 : decode cX11_excuse 52 = .ok (.bipush (-6), 2) := by decide +kernel
theorem dX11_excuse_54 : decode cX11_excuse 54 = .ok (.invokevirtual 77, 3) := by decide +kernel
theorem dX11_excuse_57 : decode cX11_excuse 57 = .ok (.ireturn, 1) := by decide +kernel
theorem dX11_excuse_58 : decode cX11_excuse 58 = .ok (.aload_n 0, 1) := by decide +kernel
theorem dX11_excuse_59 : decode cX11_excuse 59 = .ok (.getfield 33, 3) := by decide +kernel
theorem dX11_excuse_62 : decode cX11_excuse 62 = .ok (.iload_n 1, 1) := by decide +kernel
theorem dX11_excuse_63 : decode cX11_excuse 63 = .ok (.iload_n 2, 1) := by decide +kernel
theorem dX11_excuse_64 : decode cX11_excuse 64 = .ok (.iload_n 3, 1) := by decide +kernel
theorem dX11_excuse_65 : decode cX11_excuse 65 = .ok (.aload_n 0, 1) := by decide +kernel
theorem dX11_excuse_66 : decode cX11_excuse 66 = .ok (.getfield 73, 3) := by decide +kernel
theorem dX11_excuse_69 : decode cX11_excuse 69 = .ok (.iload 4, 2) := by decide +kernel
theorem dX11_excuse_71 : decode cX11_excuse 71 = .ok (.invokevirtual 228, 3) := by decide +kernel
theorem dX11_excuse_74 : decode cX11_excuse 74 = .ok (.ireturn, 1) := by decide +kernel
theorem dX11_sum_0 : decode cX11_sum 0 = .ok (.aload_n 0, 1) := by decide +kernel
theorem dX11_sum_1 : decode cX11_sum 1 = .ok (.getfield 26, 3) := by decide +kernel
theorem dX11_sum_4 : decode cX11_sum 4 = .ok (.iload_n 1, 1) := by decide +kernel
theorem dX11_sum_5 : decode cX11_sum 5 = .ok (.invokevirtual 192, 3) := by decide +kernel
theorem dX11_sum_8 : decode cX11_sum 8 = .ok (.astore 4, 2) := by decide +kernel
theorem dX11_sum_10 : decode cX11_sum 10 = .ok (.aload 4, 2) := by decide +kernel
theorem dX11_sum_12 : decode cX11_sum 12 = .ok (.ifnonnull 9, 3) := by decide +kernel
theorem dX11_sum_15 : decode cX11_sum 15 = .ok (.aload_n 0, 1) := by decide +kernel
theorem dX11_sum_16 : decode cX11_sum 16 = .ok (.iconst (-1), 1) := by decide +kernel
theorem dX11_sum_17 : decode cX11_sum 17 = .ok (.invokevirtual 77, 3) := by decide +kernel
theorem dX11_sum_20 : decode cX11_sum 20 = .ok (.ireturn, 1) := by decide +kernel
theorem dX11_sum_21 : decode cX11_sum 21 = .ok (.iconst 3, 1) := by decide +kernel
theorem dX11_sum_22 : decode cX11_sum 22 = .ok (.iload_n 3, 1) := by decide +kernel
theorem dX11_sum_23 : decode cX11_sum 23 = .ok (.invokestatic 85, 3) := by decide +kernel
theorem dX11_sum_26 : decode cX11_sum 26 = .ok (.ifCond .ne 10, 3) := by decide +kernel
theorem dX11_sum_29 : decode cX11_sum 29 = .ok (.aload_n 0, 1) := by decide +kernel
theorem dX11_sum_30 : decode cX11_sum 30 = .ok (.bipush (-2), 2) := by decide +kernel
theorem dX11_sum_32 : decode cX11_sum 32 = .ok (.invokevirtual 77, 3) := by decide +kernel
theorem dX11_sum_35 : decode cX11_sum 35 = .ok (.ireturn, 1) := by decide +kernel
theorem dX11_sum_36 : decode cX11_sum 36 = .ok (.iload_n 2, 1) := by decide +kernel
theorem dX11_sum_37 : decode cX11_sum 37 = .ok (.ifCond .ge 10, 3) := by decide +kernel
theorem dX11_sum_40 : decode cX11_sum 40 = .ok (.aload_n 0, 1) := by decide +kernel
theorem dX11_sum_41 : decode cX11_sum 41 = .ok (.bipush (-4), 2) := by decide +kernel
theorem dX11_sum_43 : decode cX11_sum 43 = .ok (.invokevirtual 77, 3) := by decide +kernel
theorem dX11_sum_46 : decode cX11_sum 46 = .ok (.ireturn, 1) := by decide +kernel
theorem dX11_sum_47 : decode cX11_sum 47 = .ok (.iload_n 2, 1) := by decide +kernel
theorem dX11_sum_48 : decode cX11_sum 48 = .ok (.sipush 4000, 3) := by decide +kernel
theorem dX11_sum_51 : decode cX11_sum 51 = .ok (.if_icmp .le 10, 3) := by decide +kernel
theorem dX11_sum_54 : decode cX11_sum 54 = .ok (.aload_n 0, 1) := by decide +kernel
theorem dX11_sum_55 : decode cX11_sum 55 = .ok (.bipush (-6), 2) := by decide +kernel
theorem dX11_sum_57 : decode cX11_sum 57 = .ok (.invokevirtual 77, 3) := by decide +kernel
theorem dX11_sum_60 : decode cX11_sum 60 = .ok (.ireturn, 1) := by decide +kernel
theorem dX11_sum_61 : decode cX11_sum 61 = .ok (.iload_n 3, 1) := by decide +kernel
theorem dX11_sum_62 : decode cX11_sum 62 = .ok (.ifCond .ne 11, 3) := by decide +kernel
theorem dX11_sum_65 : decode cX11_sum 65 = .ok (.aload_n 0, 1) := by decide +kernel
theorem dX11_sum_66 : decode cX11_sum 66 = .ok (.aload 4, 2) := by decide +kernel
theorem dX11_sum_68 : decode cX11_sum 68 = .ok (.iload_n 2, 1) := by decide +kernel
theorem dX11_sum_69 : decode cX11_sum 69 = .ok (.invokevirtual 232, 3) := by decide +kernel
theorem dX11_sum_72 : decode cX11_sum 72 = .ok (.ireturn, 1) := by decide +kernel
theorem dX11_sum_73 : decode cX11_sum 73 = .ok (.aload_n 0, 1) := by decide +kernel
theorem dX11_sum_74 : decode cX11_sum 74 = .ok (.getfield 33, 3) := by decide +kernel
theorem dX11_sum_77 : decode cX11_sum 77 = .ok (.aload 4, 2) := by decide +kernel
theorem dX11_sum_79 : decode cX11_sum 79 = .ok (.iload_n 2, 1) := by decide +kernel
theorem dX11_sum_80 : decode cX11_sum 80 = .ok (.invokevirtual 236, 3) := by decide +kernel
theorem dX11_sum_83 : decode cX11_sum 83 = .ok (.istore 5, 2) := by decide +kernel
theorem dX11_sum_85 : decode cX11_sum 85 = .ok (.iload_n 3, 1) := by decide +kernel
theorem dX11_sum_86 : decode cX11_sum 86 = .ok (.iconst 1, 1) := by decide +kernel
theorem dX11_sum_87 : decode cX11_sum 87 = .ok (.if_icmp .ne 6, 3) := by decide +kernel
theorem dX11_sum_90 : decode cX11_sum 90 = .ok (.iload 5, 2) := by decide +kernel
theorem dX11_sum_92 : decode cX11_sum 92 = .ok (.ireturn, 1) := by decide +kernel
theorem dX11_sum_93 : decode cX11_sum 93 = .ok (.aload_n 0, 1) := by decide +kernel
theorem dX11_sum_94 : decode cX11_sum 94 = .ok (.getfield 33, 3) := by decide +kernel
theorem dX11_sum_97 : decode cX11_sum 97 = .ok (.iload 5, 2) := by decide +kernel
theorem dX11_sum_99 : decode cX11_sum 99 = .ok (.aload_n 0, 1) := by decide +kernel
theorem dX11_sum_100 : decode cX11_sum 100 = .ok (.aload 4, 2) := by decide +kernel
theorem dX11_sum_102 : decode cX11_sum 102 = .ok (.invokevirtual 218, 3) := by decide +kernel
theorem dX11_sum_105 : decode cX11_sum 105 = .ok (.aload 4, 2) := by decide +kernel
theorem dX11_sum_107 : decode cX11_sum 107 = .ok (.invokevirtual 239, 3) := by decide +kernel
theorem dX11_sum_110 : decode cX11_sum 110 = .ok (.invokevirtual 243, 3) := by decide +kernel
theorem dX11_sum_113 : decode cX11_sum 113 = .ok (.ifCond .eq 7, 3) := by decide +kernel
theorem dX11_sum_116 : decode cX11_sum 116 = .ok (.iconst 1, 1) := by decide +kernel
theorem dX11_sum_117 : decode cX11_sum 117 = .ok (.goto 4, 3) := by decide +kernel
theorem dX11_sum_120 : decode cX11_sum 120 = .ok (.iconst 0, 1) := by decide +kernel
theorem dX11_sum_121 : decode cX11_sum 121 = .ok (.ireturn, 1) := by decide +kernel
theorem dX11_bar_0 : decode cX11_bar 0 = .ok (.iconst 4, 1) := by decide +kernel
theorem dX11_bar_1 : decode cX11_bar 1 = .ok (.iload_n 1, 1) := by decide +kernel
theorem dX11_bar_2 : decode cX11_bar 2 = .ok (.invokestatic 85, 3) := by decide +kernel
theorem dX11_bar_5 : decode cX11_bar 5 = .ok (.ifCond .ne 9, 3) := by decide +kernel
theorem dX11_bar_8 : decode cX11_bar 8 = .ok (.aload_n 0, 1) := by decide +kernel
theorem dX11_bar_9 : decode cX11_bar 9 = .ok (.iconst (-1), 1) := by decide +kernel
theorem dX11_bar_10 : decode cX11_bar 10 = .ok (.invokevirtual 77, 3) := by decide +kernel
theorem dX11_bar_13 : decode cX11_bar 13 = .ok (.ireturn, 1) := by decide +kernel
theorem dX11_bar_14 : decode cX11_bar 14 = .ok (.iload_n 2, 1) := by decide +kernel
theorem dX11_bar_15 : decode cX11_bar 15 = .ok (.iconst 1, 1) := by decide +kernel
theorem dX11_bar_16 : decode cX11_bar 16 = .ok (.if_icmp .ge 10, 3) := by decide +kernel
theorem dX11_bar_19 : decode cX11_bar 19 = .ok (.aload_n 0, 1) := by decide +kernel
theorem dX11_bar_20 : decode cX11_bar 20 = .ok (.bipush (-4), 2) := by decide +kernel
theorem dX11_bar_22 : decode cX11_bar 22 = .ok (.invokevirtual 77, 3) := by decide +kernel
theorem dX11_bar_25 : decode cX11_bar 25 = .ok (.ireturn, 1) := by decide +kernel
theorem dX11_bar_26 : decode cX11_bar 26 = .ok (.iload_n 2, 1) := by decide +kernel
theorem dX11_bar_27 : decode cX11_bar 27 = .ok (.sipush 3000, 3) := by decide +kernel
theorem dX11_bar_30 : decode cX11_bar 30 = .ok (.if_icmp .le 10, 3) := by decide +kernel
theorem dX11_bar_33 : decode cX11_bar 33 = .ok (.aload_n 0, 1) := by decide +kernel
theorem dX11_bar_34 : decode cX11_bar 34 = .ok (.bipush (-6), 2) := by decide +kernel
theorem dX11_bar_36 : decode cX11_bar 36 = .ok (.invokevirtual 77, 3) := by decide +kernel
theorem dX11_bar_39 : decode cX11_bar 39 = .ok (.ireturn, 1) := by decide +kernel
theorem dX11_bar_40 : decode cX11_bar 40 = .ok (.aload_n 0, 1) := by decide +kernel
theorem dX11_bar_41 : decode cX11_bar 41 = .ok (.getfield 40, 3) := by decide +kernel
theorem dX11_bar_44 : decode cX11_bar 44 = .ok (.getfield 247, 3) := by decide +kernel
theorem dX11_bar_47 : decode cX11_bar 47 = .ok (.iload_n 1, 1) := by decide +kernel
theorem dX11_bar_48 : decode cX11_bar 48 = .ok (.iaload, 1) := by decide +kernel
theorem dX11_bar_49 : decode cX11_bar 49 = .ok (.istore_n 3, 1) := by decide +kernel
theorem dX11_bar_50 : decode cX11_bar 50 = .ok (.aload_n 0, 1) := by decide +kernel
theorem dX11_bar_51 : decode cX11_bar 51 = .ok (.getfield 40, 3) := by decide +kernel
theorem dX11_bar_54 : decode cX11_bar 54 = .ok (.getfield 247, 3) := by decide +kernel
theorem dX11_bar_57 : decode cX11_bar 57 = .ok (.iload_n 1, 1) := by decide +kernel
theorem dX11_bar_58 : decode cX11_bar 58 = .ok (.iload_n 2, 1) := by decide +kernel
theorem dX11_bar_59 : decode cX11_bar 59 = .ok (.iastore, 1) := by decide +kernel
theorem dX11_bar_60 : decode cX11_bar 60 = .ok (.iload_n 3, 1) := by decide +kernel
theorem dX11_bar_61 : decode cX11_bar 61 = .ok (.ireturn, 1) := by decide +kernel
theorem dX11_stop_0 : decode cX11_stop 0 = .ok (.iconst 4, 1) := by decide +kernel
theorem dX11_stop_1 : decode cX11_stop 1 = .ok (.iload_n 1, 1) := by decide +kernel
theorem dX11_stop_2 : decode cX11_stop 2 = .ok (.invokestatic 85, 3) := by decide +kernel
theorem dX11_stop_5 : decode cX11_stop 5 = .ok (.ifCond .ne 9, 3) := by decide +kernel
theorem dX11_stop_8 : decode cX11_stop 8 = .ok (.aload_n 0, 1) := by decide +kernel
theorem dX11_stop_9 : decode cX11_stop 9 = .ok (.iconst (-1), 1) := by decide +kernel
theorem dX11_stop_10 : decode cX11_stop 10 = .ok (.invokevirtual 77, 3) := by decide +kernel
theorem dX11_stop_13 : decode cX11_stop 13 = .ok (.ireturn, 1) := by decide +kernel
theorem dX11_stop_14 : decode cX11_stop 14 = .ok (.iload_n 2, 1) := by decide +kernel
theorem dX11_stop_15 : decode cX11_stop 15 = .ok (.ifCond .lt 8, 3) := by decide +kernel
theorem dX11_stop_18 : decode cX11_stop 18 = .ok (.iload_n 3, 1) := by decide +kernel
theorem dX11_stop_19 : decode cX11_stop 19 = .ok (.iload_n 2, 1) := by decide +kernel
theorem dX11_stop_20 : decode cX11_stop 20 = .ok (.if_icmp .ge 10, 3) := by decide +kernel
theorem dX11_stop_23 : decode cX11_stop 23 = .ok (.aload_n 0, 1) := by decide +kernel
theorem dX11_stop_24 : decode cX11_stop 24 = .ok (.bipush (-4), 2) := by decide +kernel
theorem dX11_stop_26 : decode cX11_stop 26 = .ok (.invokevirtual 77, 3) := by decide +kernel
theorem dX11_stop_29 : decode cX11_stop 29 = .ok (.ireturn, 1) := by decide +kernel
theorem dX11_stop_30 : decode cX11_stop 30 = .ok (.iload_n 2, 1) := by decide +kernel
theorem dX11_stop_31 : decode cX11_stop 31 = .ok (.sipush 4000, 3) := by decide +kernel
theorem dX11_stop_34 : decode cX11_stop 34 = .ok (.if_icmp .gt 20, 3) := by decide +kernel
theorem dX11_stop_37 : decode cX11_stop 37 = .ok (.iload_n 3, 1) := by decide +kernel
theorem dX11_stop_38 : decode cX11_stop 38 = .ok (.sipush 4000, 3) := by decide +kernel
theorem dX11_stop_41 : decode cX11_stop 41 = .ok (.if_icmp .gt 13, 3) := by decide +kernel
theorem dX11_stop_44 : decode cX11_stop 44 = .ok (.aload_n 0, 1) := by decide +kernel
theorem dX11_stop_45 : decode cX11_stop 45 = .ok (.getfield 40, 3) := by decide +kernel
theorem dX11_stop_48 : decode cX11_stop 48 = .ok (.invokevirtual 250, 3) := by decide +kernel
theorem dX11_stop_51 : decode cX11_stop 51 = .ok (.ifCond .eq 10, 3) := by decide +kernel
theorem dX11_stop_54 : decode cX11_stop 54 = .ok (.aload_n 0, 1) := by decide +kernel
theorem dX11_stop_55 : decode cX11_stop 55 = .ok (.bipush (-6), 2) := by decide +kernel
theorem dX11_stop_57 : decode cX11_stop 57 = .ok (.invokevirtual 77, 3) := by decide +kernel
theorem dX11_stop_60 : decode cX11_stop 60 = .ok (.ireturn, 1) := by decide +kernel
theorem dX11_stop_61 : decode cX11_stop 61 = .ok (.aload_n 0, 1) := by decide +kernel
theorem dX11_stop_62 : decode cX11_stop 62 = .ok (.getfield 40, 3) := by decide +kernel
theorem dX11_stop_65 : decode cX11_stop 65 = .ok (.iload_n 1, 1) := by decide +kernel
theorem dX11_stop_66 : decode cX11_stop 66 = .ok (.iload_n 2, 1) := by decide +kernel
theorem dX11_stop_67 : decode cX11_stop 67 = .ok (.iload_n 3, 1) := by decide +kernel
theorem dX11_stop_68 : decode cX11_stop 68 = .ok (.invokevirtual 251, 3) := by decide +kernel
theorem dX11_stop_71 : decode cX11_stop 71 = .ok (.ireturn, 1) := by decide +kernel
theorem dX11_claim_0 : decode cX11_claim 0 = .ok (.aload_n 0, 1) := by decide +kernel
theorem dX11_claim_1 : decode cX11_claim 1 = .ok (.getfield 26, 3) := by decide +kernel
theorem dX11_claim_4 : decode cX11_claim 4 = .ok (.iload_n 1, 1) := by decide +kernel
theorem dX11_claim_5 : decode cX11_claim 5 = .ok (.invokevirtual 192, 3) := by decide +kernel
theorem dX11_claim_8 : decode cX11_claim 8 = .ok (.astore_n 2, 1) := by decide +kernel
theorem dX11_claim_9 : decode cX11_claim 9 = .ok (.aload_n 2, 1) := by decide +kernel
theorem dX11_claim_10 : decode cX11_claim 10 = .ok (.ifnonnull 9, 3) := by decide +kernel
theorem dX11_claim_13 : decode cX11_claim 13 = .ok (.aload_n 0, 1) := by decide +kernel
theorem dX11_claim_14 : decode cX11_claim 14 = .ok (.iconst (-1), 1) := by decide +kernel
theorem dX11_claim_15 : decode cX11_claim 15 = .ok (.invokevirtual 77, 3) := by decide +kernel
theorem dX11_claim_18 : decode cX11_claim 18 = .ok (.ireturn, 1) := by decide +kernel
theorem dX11_claim_19 : decode cX11_claim 19 = .ok (.aload_n 2, 1) := by decide +kernel
theorem dX11_claim_20 : decode cX11_claim 20 = .ok (.getfield 255, 3) := by decide +kernel
theorem dX11_claim_23 : decode cX11_claim 23 = .ok (.ifCond .eq 10, 3) := by decide +kernel
theorem dX11_claim_26 : decode cX11_claim 26 = .ok (.aload_n 0, 1) := by decide +kernel
theorem dX11_claim_27 : decode cX11_claim 27 = .ok (.bipush (-3), 2) := by decide +kernel
theorem dX11_claim_29 : decode cX11_claim 29 = .ok (.invokevirtual 77, 3) := by decide +kernel
theorem dX11_claim_32 : decode cX11_claim 32 = .ok (.ireturn, 1) := by decide +kernel
theorem dX11_claim_33 : decode cX11_claim 33 = .ok (.aload_n 0, 1) := by decide +kernel
theorem dX11_claim_34 : decode cX11_claim 34 = .ok (.getfield 47, 3) := by decide +kernel
theorem dX11_claim_37 : decode cX11_claim 37 = .ok (.invokevirtual 258, 3) := by decide +kernel
theorem dX11_claim_40 : decode cX11_claim 40 = .ok (.ifCond .eq 10, 3) := by decide +kernel
theorem dX11_claim_43 : decode cX11_claim 43 = .ok (.aload_n 0, 1) := by decide +kernel
theorem dX11_claim_44 : decode cX11_claim 44 = .ok (.bipush (-6), 2) := by decide +kernel
theorem dX11_claim_46 : decode cX11_claim 46 = .ok (.invokevirtual 77, 3) := by decide +kernel
theorem dX11_claim_49 : decode cX11_claim 49 = .ok (.ireturn, 1) := by decide +kernel
theorem dX11_claim_50 : decode cX11_claim 50 = .ok (.aload_n 0, 1) := by decide +kernel
theorem dX11_claim_51 : decode cX11_claim 51 = .ok (.getfield 47, 3) := by decide +kernel
theorem dX11_claim_54 : decode cX11_claim 54 = .ok (.aload_n 2, 1) := by decide +kernel
theorem dX11_claim_55 : decode cX11_claim 55 = .ok (.aload_n 0, 1) := by decide +kernel
theorem dX11_claim_56 : decode cX11_claim 56 = .ok (.getfield 73, 3) := by decide +kernel
theorem dX11_claim_59 : decode cX11_claim 59 = .ok (.invokevirtual 259, 3) := by decide +kernel
theorem dX11_claim_62 : decode cX11_claim 62 = .ok (.ireturn, 1) := by decide +kernel
theorem dX11_claimOf_0 : decode cX11_claimOf 0 = .ok (.aload_n 0, 1) := by decide +kernel
theorem dX11_claimOf_1 : decode cX11_claimOf 1 = .ok (.getfield 47, 3) := by decide +kernel
theorem dX11_claimOf_4 : decode cX11_claimOf 4 = .ok (.iload_n 1, 1) := by decide +kernel
theorem dX11_claimOf_5 : decode cX11_claimOf 5 = .ok (.invokevirtual 261, 3) := by decide +kernel
theorem dX11_claimOf_8 : decode cX11_claimOf 8 = .ok (.astore_n 3, 1) := by decide +kernel
theorem dX11_claimOf_9 : decode cX11_claimOf 9 = .ok (.aload_n 3, 1) := by decide +kernel
theorem dX11_claimOf_10 : decode cX11_claimOf 10 = .ok (.ifnonnull 9, 3) := by decide +kernel
theorem dX11_claimOf_13 : decode cX11_claimOf 13 = .ok (.aload_n 0, 1) := by decide +kernel
theorem dX11_claimOf_14 : decode cX11_claimOf 14 = .ok (.iconst (-1), 1) := by decide +kernel
theorem dX11_claimOf_15 : decode cX11_claimOf 15 = .ok (.invokevirtual 77, 3) := by decide +kernel
theorem dX11_claimOf_18 : decode cX11_claimOf 18 = .ok (.ireturn, 1) := by decide +kernel
theorem dX11_claimOf_19 : decode cX11_claimOf 19 = .ok (.iload_n 2, 1) := by decide +kernel
theorem dX11_claimOf_20 : decode cX11_claimOf 20 = .ok (.tableswitch 93 0 5 #[40, 48, 53, 67, 73, 78], 40) := by decide +kernel
theorem dX11_claimOf_60 : decode cX11_claimOf 60 = .ok (.aload_n 3, 1) := by decide +kernel
theorem dX11_claimOf_61 : decode cX11_claimOf 61 = .ok (.getfield 264, 3) := by decide +kernel
theorem dX11_claimOf_64 : decode cX11_claimOf 64 = .ok (.getfield 270, 3) := by decide +kernel
theorem dX11_claimOf_67 : decode cX11_claimOf 67 = .ok (.ireturn, 1) := by decide +kernel
theorem dX11_claimOf_68 : decode cX11_claimOf 68 = .ok (.aload_n 3, 1) := by decide +kernel
theorem dX11_claimOf_69 : decode cX11_claimOf 69 = .ok (.getfield 271, 3) := by decide +kernel
theorem dX11_claimOf_72 : decode cX11_claimOf 72 = .ok (.ireturn, 1) := by decide +kernel
theorem dX11_claimOf_73 : decode cX11_claimOf 73 = .ok (.aload_n 0, 1) := by decide +kernel
theorem dX11_claimOf_74 : decode cX11_claimOf 74 = .ok (.aload_n 3, 1) := by decide +kernel
theorem dX11_claimOf_75 : decode cX11_claimOf 75 = .ok (.invokevirtual 274, 3) := by decide +kernel
theorem dX11_claimOf_78 : decode cX11_claimOf 78 = .ok (.ifCond .eq 7, 3) := by decide +kernel
theorem dX11_claimOf_81 : decode cX11_claimOf 81 = .ok (.iconst 1, 1) := by decide +kernel
theorem dX11_claimOf_82 : decode cX11_claimOf 82 = .ok (.goto 4, 3) := by decide +kernel
theorem dX11_claimOf_85 : decode cX11_claimOf 85 = .ok (.iconst 0, 1) := by decide +kernel
theorem dX11_claimOf_86 : decode cX11_claimOf 86 = .ok (.ireturn, 1) := by decide +kernel
theorem dX11_claimOf_87 : decode cX11_claimOf 87 = .ok (.aload_n 0, 1) := by decide +kernel
theorem dX11_claimOf_88 : decode cX11_claimOf 88 = .ok (.aload_n 3, 1) := by decide +kernel
theorem dX11_claimOf_89 : decode cX11_claimOf 89 = .ok (.invokevirtual 278, 3) := by decide +kernel
theorem dX11_claimOf_92 : decode cX11_claimOf 92 = .ok (.ireturn, 1) := by decide +kernel
theorem dX11_claimOf_93 : decode cX11_claimOf 93 = .ok (.aload_n 3, 1) := by decide +kernel
theorem dX11_claimOf_94 : decode cX11_claimOf 94 = .ok (.getfield 282, 3) := by decide +kernel
theorem dX11_claimOf_97 : decode cX11_claimOf 97 = .ok (.ireturn, 1) := by decide +kernel
theorem dX11_claimOf_98 : decode cX11_claimOf 98 = .ok (.iconst 0, 1) := by decide +kernel
theorem dX11_claimOf_99 : decode cX11_claimOf 99 = .ok (.aload_n 3, 1) := by decide +kernel
theorem dX11_claimOf_100 : decode cX11_claimOf 100 = .ok (.getfield 282, 3) := by decide +kernel
theorem dX11_claimOf_103 : decode cX11_claimOf 103 = .ok (.aload_n 0, 1) := by decide +kernel
theorem dX11_claimOf_104 : decode cX11_claimOf 104 = .ok (.aload_n 3, 1) := by decide +kernel
theorem dX11_claimOf_105 : decode cX11_claimOf 105 = .ok (.invokevirtual 278, 3) := by decide +kernel
theorem dX11_claimOf_108 : decode cX11_claimOf 108 = .ok (.isub, 1) := by decide +kernel
theorem dX11_claimOf_109 : decode cX11_claimOf 109 = .ok (.invokestatic 180, 3) := by decide +kernel
theorem dX11_claimOf_112 : decode cX11_claimOf 112 = .ok (.ireturn, 1) := by decide +kernel
theorem dX11_claimOf_113 : decode cX11_claimOf 113 = .ok (.aload_n 0, 1) := by decide +kernel
theorem dX11_claimOf_114 : decode cX11_claimOf 114 = .ok (.bipush (-2), 2) := by decide +kernel
theorem dX11_claimOf_116 : decode cX11_claimOf 116 = .ok (.invokevirtual 77, 3) := by decide +kernel
theorem dX11_claimOf_119 : decode cX11_claimOf 119 = .ok (.ireturn, 1) := by decide +kernel
theorem dX11_owes_0 : decode cX11_owes 0 = .ok (.aload_n 0, 1) := by decide +kernel
theorem dX11_owes_1 : decode cX11_owes 1 = .ok (.getfield 26, 3) := by decide +kernel
theorem dX11_owes_4 : decode cX11_owes 4 = .ok (.iload_n 2, 1) := by decide +kernel
theorem dX11_owes_5 : decode cX11_owes 5 = .ok (.invokevirtual 192, 3) := by decide +kernel
theorem dX11_owes_8 : decode cX11_owes 8 = .ok (.astore 4, 2) := by decide +kernel
theorem dX11_owes_10 : decode cX11_owes 10 = .ok (.iconst 5, 1) := by decide +kernel
theorem dX11_owes_11 : decode cX11_owes 11 = .ok (.iload_n 1, 1) := by decide +kernel
theorem dX11_owes_12 : decode cX11_owes 12 = .ok (.invokestatic 85, 3) := by decide +kernel
theorem dX11_owes_15 : decode cX11_owes 15 = .ok (.ifCond .eq 8, 3) := by decide +kernel
theorem dX11_owes_18 : decode cX11_owes 18 = .ok (.aload 4, 2) := by decide +kernel
theorem dX11_owes_20 : decode cX11_owes 20 = .ok (.ifnonnull 9, 3) := by decide +kernel
theorem dX11_owes_23 : decode cX11_owes 23 = .ok (.aload_n 0, 1) := by decide +kernel
theorem dX11_owes_24 : decode cX11_owes 24 = .ok (.iconst (-1), 1) := by decide +kernel
theorem dX11_owes_25 : decode cX11_owes 25 = .ok (.invokevirtual 77, 3) := by decide +kernel
theorem dX11_owes_28 : decode cX11_owes 28 = .ok (.ireturn, 1) := by decide +kernel
theorem dX11_owes_29 : decode cX11_owes 29 = .ok (.iload_n 3, 1) := by decide +kernel
theorem dX11_owes_30 : decode cX11_owes 30 = .ok (.ifCond .ge 10, 3) := by decide +kernel
theorem dX11_owes_33 : decode cX11_owes 33 = .ok (.aload_n 0, 1) := by decide +kernel
theorem dX11_owes_34 : decode cX11_owes 34 = .ok (.bipush (-4), 2) := by decide +kernel
theorem dX11_owes_36 : decode cX11_owes 36 = .ok (.invokevirtual 77, 3) := by decide +kernel
theorem dX11_owes_39 : decode cX11_owes 39 = .ok (.ireturn, 1) := by decide +kernel
theorem dX11_owes_40 : decode cX11_owes 40 = .ok (.iload_n 3, 1) := by decide +kernel
theorem dX11_owes_41 : decode cX11_owes 41 = .ok (.sipush 9999, 3) := by decide +kernel
theorem dX11_owes_44 : decode cX11_owes 44 = .ok (.if_icmp .le 10, 3) := by decide +kernel
theorem dX11_owes_47 : decode cX11_owes 47 = .ok (.aload_n 0, 1) := by decide +kernel
theorem dX11_owes_48 : decode cX11_owes 48 = .ok (.bipush (-6), 2) := by decide +kernel
theorem dX11_owes_50 : decode cX11_owes 50 = .ok (.invokevirtual 77, 3) := by decide +kernel
theorem dX11_owes_53 : decode cX11_owes 53 = .ok (.ireturn, 1) := by decide +kernel
theorem dX11_owes_54 : decode cX11_owes 54 = .ok (.aload 4, 2) := by decide +kernel
theorem dX11_owes_56 : decode cX11_owes 56 = .ok (.getfield 285, 3) := by decide +kernel
theorem dX11_owes_59 : decode cX11_owes 59 = .ok (.iload_n 1, 1) := by decide +kernel
theorem dX11_owes_60 : decode cX11_owes 60 = .ok (.iaload, 1) := by decide +kernel
theorem dX11_owes_61 : decode cX11_owes 61 = .ok (.istore 5, 2) := by decide +kernel
theorem dX11_owes_63 : decode cX11_owes 63 = .ok (.aload 4, 2) := by decide +kernel
theorem dX11_owes_65 : decode cX11_owes 65 = .ok (.getfield 285, 3) := by decide +kernel
theorem dX11_owes_68 : decode cX11_owes 68 = .ok (.iload_n 1, 1) := by decide +kernel
theorem dX11_owes_69 : decode cX11_owes 69 = .ok (.iload_n 3, 1) := by decide +kernel
theorem dX11_owes_70 : decode cX11_owes 70 = .ok (.iastore, 1) := by decide +kernel
theorem dX11_owes_71 : decode cX11_owes 71 = .ok (.iload 5, 2) := by decide +kernel
theorem dX11_owes_73 : decode cX11_owes 73 = .ok (.ireturn, 1) := by decide +kernel
theorem dX11_pay_0 : decode cX11_pay 0 = .ok (.aload_n 0, 1) := by decide +kernel
theorem dX11_pay_1 : decode cX11_pay 1 = .ok (.getfield 47, 3) := by decide +kernel
theorem dX11_pay_4 : decode cX11_pay 4 = .ok (.iload_n 1, 1) := by decide +kernel
theorem dX11_pay_5 : decode cX11_pay 5 = .ok (.invokevirtual 261, 3) := by decide +kernel
theorem dX11_pay_8 : decode cX11_pay 8 = .ok (.astore 4, 2) := by decide +kernel
theorem dX11_pay_10 : decode cX11_pay 10 = .ok (.aload 4, 2) := by decide +kernel
theorem dX11_pay_12 : decode cX11_pay 12 = .ok (.ifnull 11, 3) := by decide +kernel
theorem dX11_pay_15 : decode cX11_pay 15 = .ok (.iconst 5, 1) := by decide +kernel
theorem dX11_pay_16 : decode cX11_pay 16 = .ok (.iload_n 2, 1) := by decide +kernel
theorem dX11_pay_17 : decode cX11_pay 17 = .ok (.invokestatic 85, 3) := by decide +kernel
theorem dX11_pay_20 : decode cX11_pay 20 = .ok (.ifCond .ne 9, 3) := by decide +kernel
theorem dX11_pay_23 : decode cX11_pay 23 = .ok (.aload_n 0, 1) := by decide +kernel
theorem dX11_pay_24 : decode cX11_pay 24 = .ok (.iconst (-1), 1) := by decide +kernel
theorem dX11_pay_25 : decode cX11_pay 25 = .ok (.invokevirtual 77, 3) := by decide +kernel
theorem dX11_pay_28 : decode cX11_pay 28 = .ok (.ireturn, 1) := by decide +kernel
theorem dX11_pay_29 : decode cX11_pay 29 = .ok (.iload_n 3, 1) := by decide +kernel
theorem dX11_pay_30 : decode cX11_pay 30 = .ok (.iconst 1, 1) := by decide +kernel
theorem dX11_pay_31 : decode cX11_pay 31 = .ok (.if_icmp .ge 10, 3) := by decide +kernel
theorem dX11_pay_34 : decode cX11_pay 34 = .ok (.aload_n 0, 1) := by decide +kernel
theorem dX11_pay_35 : decode cX11_pay 35 = .ok (.bipush (-4), 2) := by decide +kernel
theorem dX11_pay_37 : decode cX11_pay 37 = .ok (.invokevirtual 77, 3) := by decide +kernel
theorem dX11_pay_40 : decode cX11_pay 40 = .ok (.ireturn, 1) := by decide +kernel
theorem dX11_pay_41 : decode cX11_pay 41 = .ok (.iload_n 3, 1) := by decide +kernel
theorem dX11_pay_42 : decode cX11_pay 42 = .ok (.sipush 9999, 3) := by decide +kernel
theorem dX11_pay_45 : decode cX11_pay 45 = .ok (.if_icmp .gt 16, 3) := by decide +kernel
theorem dX11_pay_48 : decode cX11_pay 48 = .ok (.aload 4, 2) := by decide +kernel
theorem dX11_pay_50 : decode cX11_pay 50 = .ok (.getfield 282, 3) := by decide +kernel
theorem dX11_pay_53 : decode cX11_pay 53 = .ok (.iload_n 3, 1) := by decide +kernel
theorem dX11_pay_54 : decode cX11_pay 54 = .ok (.iadd, 1) := by decide +kernel
theorem dX11_pay_55 : decode cX11_pay 55 = .ok (.ldc_w 288, 3) := by decide +kernel
theorem dX11_pay_58 : decode cX11_pay 58 = .ok (.if_icmp .le 10, 3) := by decide +kernel
theorem dX11_pay_61 : decode cX11_pay 61 = .ok (.aload_n 0, 1) := by decide +kernel
theorem dX11_pay_62 : decode cX11_pay 62 = .ok (.bipush (-6), 2) := by decide +kernel
theorem dX11_pay_64 : decode cX11_pay 64 = .ok (.invokevirtual 77, 3) := by decide +kernel
theorem dX11_pay_67 : decode cX11_pay 67 = .ok (.ireturn, 1) := by decide +kernel
theorem dX11_pay_68 : decode cX11_pay 68 = .ok (.aload 4, 2) := by decide +kernel
theorem dX11_pay_70 : decode cX11_pay 70 = .ok (.getfield 289, 3) := by decide +kernel
theorem dX11_pay_73 : decode cX11_pay 73 = .ok (.iload_n 2, 1) := by decide +kernel
theorem dX11_pay_74 : decode cX11_pay 74 = .ok (.dup2, 1) := by decide +kernel
theorem dX11_pay_75 : decode cX11_pay 75 = .ok (.iaload, 1) := by decide +kernel
theorem dX11_pay_76 : decode cX11_pay 76 = .ok (.iload_n 3, 1) := by decide +kernel
theorem dX11_pay_77 : decode cX11_pay 77 = .ok (.iadd, 1) := by decide +kernel
theorem dX11_pay_78 : decode cX11_pay 78 = .ok (.iastore, 1) := by decide +kernel
theorem dX11_pay_79 : decode cX11_pay 79 = .ok (.aload 4, 2) := by decide +kernel
theorem dX11_pay_81 : decode cX11_pay 81 = .ok (.dup, 1) := by decide +kernel
theorem dX11_pay_82 : decode cX11_pay 82 = .ok (.getfield 282, 3) := by decide +kernel
theorem dX11_pay_85 : decode cX11_pay 85 = .ok (.iload_n 3, 1) := by decide +kernel
theorem dX11_pay_86 : decode cX11_pay 86 = .ok (.iadd, 1) := by decide +kernel
theorem dX11_pay_87 : decode cX11_pay 87 = .ok (.putfield 282, 3) := by decide +kernel
theorem dX11_pay_90 : decode cX11_pay 90 = .ok (.aload 4, 2) := by decide +kernel
theorem dX11_pay_92 : decode cX11_pay 92 = .ok (.getfield 282, 3) := by decide +kernel
theorem dX11_pay_95 : decode cX11_pay 95 = .ok (.ireturn, 1) := by decide +kernel
theorem dX11_due_0 : decode cX11_due 0 = .ok (.aload_n 0, 1) := by decide +kernel
theorem dX11_due_1 : decode cX11_due 1 = .ok (.getfield 47, 3) := by decide +kernel
theorem dX11_due_4 : decode cX11_due 4 = .ok (.iload_n 1, 1) := by decide +kernel
theorem dX11_due_5 : decode cX11_due 5 = .ok (.invokevirtual 261, 3) := by decide +kernel
theorem dX11_due_8 : decode cX11_due 8 = .ok (.astore_n 3, 1) := by decide +kernel
theorem dX11_due_9 : decode cX11_due 9 = .ok (.aload_n 3, 1) := by decide +kernel
theorem dX11_due_10 : decode cX11_due 10 = .ok (.ifnull 11, 3) := by decide +kernel
theorem dX11_due_13 : decode cX11_due 13 = .ok (.iconst 5, 1) := by decide +kernel
theorem dX11_due_14 : decode cX11_due 14 = .ok (.iload_n 2, 1) := by decide +kernel
theorem dX11_due_15 : decode cX11_due 15 = .ok (.invokestatic 85, 3) := by decide +kernel
theorem dX11_due_18 : decode cX11_due 18 = .ok (.ifCond .ne 9, 3) := by decide +kernel
theorem dX11_due_21 : decode cX11_due 21 = .ok (.aload_n 0, 1) := by decide +kernel
theorem dX11_due_22 : decode cX11_due 22 = .ok (.iconst (-1), 1) := by decide +kernel
theorem dX11_due_23 : decode cX11_due 23 = .ok (.invokevirtual 77, 3) := by decide +kernel
theorem dX11_due_26 : decode cX11_due 26 = .ok (.ireturn, 1) := by decide +kernel
theorem dX11_due_27 : decode cX11_due 27 = .ok (.aload_n 3, 1) := by decide +kernel
theorem dX11_due_28 : decode cX11_due 28 = .ok (.iload_n 2, 1) := by decide +kernel
theorem dX11_due_29 : decode cX11_due 29 = .ok (.aload_n 0, 1) := by decide +kernel
theorem dX11_due_30 : decode cX11_due 30 = .ok (.aload_n 3, 1) := by decide +kernel
theorem dX11_due_31 : decode cX11_due 31 = .ok (.invokevirtual 278, 3) := by decide +kernel
theorem dX11_due_34 : decode cX11_due 34 = .ok (.invokevirtual 292, 3) := by decide +kernel
theorem dX11_due_37 : decode cX11_due 37 = .ok (.ireturn, 1) := by decide +kernel
theorem dX11_balance_0 : decode cX11_balance 0 = .ok (.iconst 5, 1) := by decide +kernel
theorem dX11_balance_1 : decode cX11_balance 1 = .ok (.iload_n 1, 1) := by decide +kernel
theorem dX11_balance_2 : decode cX11_balance 2 = .ok (.invokestatic 85, 3) := by decide +kernel
theorem dX11_balance_5 : decode cX11_balance 5 = .ok (.ifCond .ne 9, 3) := by decide +kernel
theorem dX11_balance_8 : decode cX11_balance 8 = .ok (.aload_n 0, 1) := by decide +kernel
theorem dX11_balance_9 : decode cX11_balance 9 = .ok (.iconst (-1), 1) := by decide +kernel
theorem dX11_balance_10 : decode cX11_balance 10 = .ok (.invokevirtual 109, 3) := by decide +kernel
theorem dX11_balance_13 : decode cX11_balance 13 = .ok (.ireturn, 1) := by decide +kernel
theorem dX11_balance_14 : decode cX11_balance 14 = .ok (.aload_n 0, 1) := by decide +kernel
theorem dX11_balance_15 : decode cX11_balance 15 = .ok (.invokevirtual 295, 3) := by decide +kernel
theorem dX11_balance_18 : decode cX11_balance 18 = .ok (.aload_n 0, 1) := by decide +kernel
theorem dX11_balance_19 : decode cX11_balance 19 = .ok (.getfield 47, 3) := by decide +kernel
theorem dX11_balance_22 : decode cX11_balance 22 = .ok (.getfield 298, 3) := by decide +kernel
theorem dX11_balance_25 : decode cX11_balance 25 = .ok (.iload_n 1, 1) := by decide +kernel
theorem dX11_balance_26 : decode cX11_balance 26 = .ok (.iaload, 1) := by decide +kernel
theorem dX11_balance_27 : decode cX11_balance 27 = .ok (.ireturn, 1) := by decide +kernel
theorem dX11_back_0 : decode cX11_back 0 = .ok (.aload_n 0, 1) := by decide +kernel
theorem dX11_back_1 : decode cX11_back 1 = .ok (.invokevirtual 295, 3) := by decide +kernel
theorem dX11_back_4 : decode cX11_back 4 = .ok (.aload_n 0, 1) := by decide +kernel
theorem dX11_back_5 : decode cX11_back 5 = .ok (.getfield 47, 3) := by decide +kernel
theorem dX11_back_8 : decode cX11_back 8 = .ok (.invokevirtual 301, 3) := by decide +kernel
theorem dX11_back_11 : decode cX11_back 11 = .ok (.ireturn, 1) := by decide +kernel
theorem dX11_judged_0 : decode cX11_judged 0 = .ok (.iconst 4, 1) := by decide +kernel
theorem dX11_judged_1 : decode cX11_judged 1 = .ok (.iload_n 1, 1) := by decide +kernel
theorem dX11_judged_2 : decode cX11_judged 2 = .ok (.invokestatic 85, 3) := by decide +kernel
theorem dX11_judged_5 : decode cX11_judged 5 = .ok (.ifCond .eq 12, 3) := by decide +kernel
theorem dX11_judged_8 : decode cX11_judged 8 = .ok (.bipush 6, 2) := by decide +kernel
theorem dX11_judged_10 : decode cX11_judged 10 = .ok (.iload_n 2, 1) := by decide +kernel
theorem dX11_judged_11 : decode cX11_judged 11 = .ok (.invokestatic 85, 3) := by decide +kernel
theorem dX11_judged_14 : decode cX11_judged 14 = .ok (.ifCond .ne 9, 3) := by decide +kernel
theorem dX11_judged_17 : decode cX11_judged 17 = .ok (.aload_n 0, 1) := by decide +kernel
theorem dX11_judged_18 : decode cX11_judged 18 = .ok (.iconst (-1), 1) := by decide +kernel
theorem dX11_judged_19 : decode cX11_judged 19 = .ok (.invokevirtual 77, 3) := by decide +kernel
theorem dX11_judged_22 : decode cX11_judged 22 = .ok (.ireturn, 1) := by decide +kernel
theorem dX11_judged_23 : decode cX11_judged 23 = .ok (.iload_n 3, 1) := by decide +kernel
theorem dX11_judged_24 : decode cX11_judged 24 = .ok (.ifCond .lt 13, 3) := by decide +kernel
theorem dX11_judged_27 : decode cX11_judged 27 = .ok (.iload 4, 2) := by decide +kernel
theorem dX11_judged_29 : decode cX11_judged 29 = .ok (.ifCond .lt 8, 3) := by decide +kernel
theorem dX11_judged_32 : decode cX11_judged 32 = .ok (.iload 6, 2) := by decide +kernel
theorem dX11_judged_34 : decode cX11_judged 34 = .ok (.ifCond .ge 10, 3) := by decide +kernel
theorem dX11_judged_37 : decode cX11_judged 37 = .ok (.aload_n 0, 1) := by decide +kernel
theorem dX11_judged_38 : decode cX11_judged 38 = .ok (.bipush (-4), 2) := by decide +kernel
theorem dX11_judged_40 : decode cX11_judged 40 = .ok (.invokevirtual 77, 3) := by decide +kernel
theorem dX11_judged_43 : decode cX11_judged 43 = .ok (.ireturn, 1) := by decide +kernel
theorem dX11_judged_44 : decode cX11_judged 44 = .ok (.iload_n 3, 1) := by decide +kernel
theorem dX11_judged_45 : decode cX11_judged 45 = .ok (.sipush 9999, 3) := by decide +kernel
theorem dX11_judged_48 : decode cX11_judged 48 = .ok (.if_icmp .gt 29, 3) := by decide +kernel
theorem dX11_judged_51 : decode cX11_judged 51 = .ok (.iload 4, 2) := by decide +kernel
theorem dX11_judged_53 : decode cX11_judged 53 = .ok (.sipush 9999, 3) := by decide +kernel
theorem dX11_judged_56 : decode cX11_judged 56 = .ok (.if_icmp .gt 21, 3) := by decide +kernel
theorem dX11_judged_59 : decode cX11_judged 59 = .ok (.iload 6, 2) := by decide +kernel
theorem dX11_judged_61 : decode cX11_judged 61 = .ok (.sipush 9999, 3) := by decide +kernel
theorem dX11_judged_64 : decode cX11_judged 64 = .ok (.if_icmp .gt 13, 3) := by decide +kernel
theorem dX11_judged_67 : decode cX11_judged 67 = .ok (.aload_n 0, 1) := by decide +kernel
theorem dX11_judged_68 : decode cX11_judged 68 = .ok (.getfield 54, 3) := by decide +kernel
theorem dX11_judged_71 : decode cX11_judged 71 = .ok (.invokevirtual 304, 3) := by decide +kernel
theorem dX11_judged_74 : decode cX11_judged 74 = .ok (.ifCond .eq 10, 3) := by decide +kernel
theorem dX11_judged_77 : decode cX11_judged 77 = .ok (.aload_n 0, 1) := by decide +kernel
theorem dX11_judged_78 : decode cX11_judged 78 = .ok (.bipush (-6), 2) := by decide +kernel
theorem dX11_judged_80 : decode cX11_judged 80 = .ok (.invokevirtual 77, 3) := by decide +kernel
theorem dX11_judged_83 : decode cX11_judged 83 = .ok (.ireturn, 1) := by decide +kernel
theorem dX11_judged_84 : decode cX11_judged 84 = .ok (.aload_n 0, 1) := by decide +kernel
theorem dX11_judged_85 : decode cX11_judged 85 = .ok (.getfield 54, 3) := by decide +kernel
theorem dX11_judged_88 : decode cX11_judged 88 = .ok (.iload_n 1, 1) := by decide +kernel
theorem dX11_judged_89 : decode cX11_judged 89 = .ok (.iload_n 2, 1) := by decide +kernel
theorem dX11_judged_90 : decode cX11_judged 90 = .ok (.iload_n 3, 1) := by decide +kernel
theorem dX11_judged_91 : decode cX11_judged 91 = .ok (.iload 4, 2) := by decide +kernel
theorem dX11_judged_93 : decode cX11_judged 93 = .ok (.iload 5, 2) := by decide +kernel
theorem dX11_judged_95 : decode cX11_judged 95 = .ok (.iload 6, 2) := by decide +kernel
theorem dX11_judged_97 : decode cX11_judged 97 = .ok (.invokevirtual 305, 3) := by decide +kernel
theorem dX11_judged_100 : decode cX11_judged 100 = .ok (.ireturn, 1) := by decide +kernel
theorem dX11_odds_0 : decode cX11_odds 0 = .ok (.aload_n 0, 1) := by decide +kernel
theorem dX11_odds_1 : decode cX11_odds 1 = .ok (.getfield 47, 3) := by decide +kernel
theorem dX11_odds_4 : decode cX11_odds 4 = .ok (.iload_n 1, 1) := by decide +kernel
theorem dX11_odds_5 : decode cX11_odds 5 = .ok (.invokevirtual 261, 3) := by decide +kernel
theorem dX11_odds_8 : decode cX11_odds 8 = .ok (.astore_n 3, 1) := by decide +kernel
theorem dX11_odds_9 : decode cX11_odds 9 = .ok (.aload_n 3, 1) := by decide +kernel
theorem dX11_odds_10 : decode cX11_odds 10 = .ok (.ifnonnull 9, 3) := by decide +kernel
theorem dX11_odds_13 : decode cX11_odds 13 = .ok (.aload_n 0, 1) := by decide +kernel
theorem dX11_odds_14 : decode cX11_odds 14 = .ok (.iconst (-1), 1) := by decide +kernel
theorem dX11_odds_15 : decode cX11_odds 15 = .ok (.invokevirtual 109, 3) := by decide +kernel
theorem dX11_odds_18 : decode cX11_odds 18 = .ok (.ireturn, 1) := by decide +kernel
theorem dX11_odds_19 : decode cX11_odds 19 = .ok (.iconst 3, 1) := by decide +kernel
theorem dX11_odds_20 : decode cX11_odds 20 = .ok (.iload_n 2, 1) := by decide +kernel
theorem dX11_odds_21 : decode cX11_odds 21 = .ok (.invokestatic 85, 3) := by decide +kernel
theorem dX11_odds_24 : decode cX11_odds 24 = .ok (.ifCond .ne 10, 3) := by decide +kernel
theorem dX11_odds_27 : decode cX11_odds 27 = .ok (.aload_n 0, 1) := by decide +kernel
theorem dX11_odds_28 : decode cX11_odds 28 = .ok (.bipush (-2), 2) := by decide +kernel
theorem dX11_odds_30 : decode cX11_odds 30 = .ok (.invokevirtual 109, 3) := by decide +kernel
theorem dX11_odds_33 : decode cX11_odds 33 = .ok (.ireturn, 1) := by decide +kernel
theorem dX11_odds_34 : decode cX11_odds 34 = .ok (.aload_n 0, 1) := by decide +kernel
theorem dX11_odds_35 : decode cX11_odds 35 = .ok (.aload_n 3, 1) := by decide +kernel
theorem dX11_odds_36 : decode cX11_odds 36 = .ok (.invokevirtual 308, 3) := by decide +kernel
theorem dX11_odds_39 : decode cX11_odds 39 = .ok (.iload_n 2, 1) := by decide +kernel
theorem dX11_odds_40 : decode cX11_odds 40 = .ok (.ifCond .ne 11, 3) := by decide +kernel
theorem dX11_odds_43 : decode cX11_odds 43 = .ok (.aload_n 0, 1) := by decide +kernel
theorem dX11_odds_44 : decode cX11_odds 44 = .ok (.getfield 54, 3) := by decide +kernel
theorem dX11_odds_47 : decode cX11_odds 47 = .ok (.getfield 312, 3) := by decide +kernel
theorem dX11_odds_50 : decode cX11_odds 50 = .ok (.ireturn, 1) := by decide +kernel
theorem dX11_odds_51 : decode cX11_odds 51 = .ok (.iload_n 2, 1) := by decide +kernel
theorem dX11_odds_52 : decode cX11_odds 52 = .ok (.iconst 1, 1) := by decide +kernel
theorem dX11_odds_53 : decode cX11_odds 53 = .ok (.if_icmp .ne 11, 3) := by decide +kernel
theorem dX11_odds_56 : decode cX11_odds 56 = .ok (.aload_n 0, 1) := by decide +kernel
theorem dX11_odds_57 : decode cX11_odds 57 = .ok (.getfield 54, 3) := by decide +kernel
theorem dX11_odds_60 : decode cX11_odds 60 = .ok (.getfield 315, 3) := by decide +kernel
theorem dX11_odds_63 : decode cX11_odds 63 = .ok (.ireturn, 1) := by decide +kernel
theorem dX11_odds_64 : decode cX11_odds 64 = .ok (.aload_n 0, 1) := by decide +kernel
theorem dX11_odds_65 : decode cX11_odds 65 = .ok (.getfield 54, 3) := by decide +kernel
theorem dX11_odds_68 : decode cX11_odds 68 = .ok (.aload_n 0, 1) := by decide +kernel
theorem dX11_odds_69 : decode cX11_odds 69 = .ok (.aload_n 3, 1) := by decide +kernel
theorem dX11_odds_70 : decode cX11_odds 70 = .ok (.invokevirtual 278, 3) := by decide +kernel
theorem dX11_odds_73 : decode cX11_odds 73 = .ok (.invokevirtual 318, 3) := by decide +kernel
theorem dX11_odds_76 : decode cX11_odds 76 = .ok (.ireturn, 1) := by decide +kernel
theorem dX11_good_0 : decode cX11_good 0 = .ok (.aload_n 0, 1) := by decide +kernel
theorem dX11_good_1 : decode cX11_good 1 = .ok (.getfield 47, 3) := by decide +kernel
theorem dX11_good_4 : decode cX11_good 4 = .ok (.iload_n 1, 1) := by decide +kernel
theorem dX11_good_5 : decode cX11_good 5 = .ok (.invokevirtual 261, 3) := by decide +kernel
theorem dX11_good_8 : decode cX11_good 8 = .ok (.astore_n 3, 1) := by decide +kernel
theorem dX11_good_9 : decode cX11_good 9 = .ok (.aload_n 3, 1) := by decide +kernel
theorem dX11_good_10 : decode cX11_good 10 = .ok (.ifnonnull 9, 3) := by decide +kernel
theorem dX11_good_13 : decode cX11_good 13 = .ok (.aload_n 0, 1) := by decide +kernel
theorem dX11_good_14 : decode cX11_good 14 = .ok (.iconst (-1), 1) := by decide +kernel
theorem dX11_good_15 : decode cX11_good 15 = .ok (.invokevirtual 77, 3) := by decide +kernel
theorem dX11_good_18 : decode cX11_good 18 = .ok (.ireturn, 1) := by decide +kernel
theorem dX11_good_19 : decode cX11_good 19 = .ok (.iload_n 2, 1) := by decide +kernel
theorem dX11_good_20 : decode cX11_good 20 = .ok (.ifCond .ge 10, 3) := by decide +kernel
theorem dX11_good_23 : decode cX11_good 23 = .ok (.aload_n 0, 1) := by decide +kernel
theorem dX11_good_24 : decode cX11_good 24 = .ok (.bipush (-4), 2) := by decide +kernel
theorem dX11_good_26 : decode cX11_good 26 = .ok (.invokevirtual 77, 3) := by decide +kernel
theorem dX11_good_29 : decode cX11_good 29 = .ok (.ireturn, 1) := by decide +kernel
theorem dX11_good_30 : decode cX11_good 30 = .ok (.iload_n 2, 1) := by decide +kernel
theorem dX11_good_31 : decode cX11_good 31 = .ok (.sipush 9999, 3) := by decide +kernel
theorem dX11_good_34 : decode cX11_good 34 = .ok (.if_icmp .le 10, 3) := by decide +kernel
theorem dX11_good_37 : decode cX11_good 37 = .ok (.aload_n 0, 1) := by decide +kernel
theorem dX11_good_38 : decode cX11_good 38 = .ok (.bipush (-6), 2) := by decide +kernel
theorem dX11_good_40 : decode cX11_good 40 = .ok (.invokevirtual 77, 3) := by decide +kernel
theorem dX11_good_43 : decode cX11_good 43 = .ok (.ireturn, 1) := by decide +kernel
theorem dX11_good_44 : decode cX11_good 44 = .ok (.aload_n 0, 1) := by decide +kernel
theorem dX11_good_45 : decode cX11_good 45 = .ok (.aload_n 3, 1) := by decide +kernel
theorem dX11_good_46 : decode cX11_good 46 = .ok (.invokevirtual 308, 3) := by decide +kernel
theorem dX11_good_49 : decode cX11_good 49 = .ok (.aload_n 0, 1) := by decide +kernel
theorem dX11_good_50 : decode cX11_good 50 = .ok (.aload_n 3, 1) := by decide +kernel
theorem dX11_good_51 : decode cX11_good 51 = .ok (.invokevirtual 278, 3) := by decide +kernel
theorem dX11_good_54 : decode cX11_good 54 = .ok (.istore 4, 2) := by decide +kernel
theorem dX11_good_56 : decode cX11_good 56 = .ok (.aload_n 0, 1) := by decide +kernel
theorem dX11_good_57 : decode cX11_good 57 = .ok (.getfield 54, 3) := by decide +kernel
theorem dX11_good_60 : decode cX11_good 60 = .ok (.getfield 315, 3) := by decide +kernel
theorem dX11_good_63 : decode cX11_good 63 = .ok (.ifCond .ne 19, 3) := by decide +kernel
theorem dX11_good_66 : decode cX11_good 66 = .ok (.iload_n 2, 1) := by decide +kernel
theorem dX11_good_67 : decode cX11_good 67 = .ok (.iconst 2, 1) := by decide +kernel
theorem dX11_good_68 : decode cX11_good 68 = .ok (.imul, 1) := by decide +kernel
theorem dX11_good_69 : decode cX11_good 69 = .ok (.iload 4, 2) := by decide +kernel
theorem dX11_good_71 : decode cX11_good 71 = .ok (.if_icmp .lt 7, 3) := by decide +kernel
theorem dX11_good_74 : decode cX11_good 74 = .ok (.iconst 1, 1) := by decide +kernel
theorem dX11_good_75 : decode cX11_good 75 = .ok (.goto 33, 3) := by decide +kernel
theorem dX11_good_78 : decode cX11_good 78 = .ok (.iconst 0, 1) := by decide +kernel
theorem dX11_good_79 : decode cX11_good 79 = .ok (.goto 29, 3) := by decide +kernel
theorem dX11_good_82 : decode cX11_good 82 = .ok (.iload_n 2, 1) := by decide +kernel
theorem dX11_good_83 : decode cX11_good 83 = .ok (.aload_n 0, 1) := by decide +kernel
theorem dX11_good_84 : decode cX11_good 84 = .ok (.getfield 54, 3) := by decide +kernel
theorem dX11_good_87 : decode cX11_good 87 = .ok (.getfield 315, 3) := by decide +kernel
theorem dX11_good_90 : decode cX11_good 90 = .ok (.imul, 1) := by decide +kernel
theorem dX11_good_91 : decode cX11_good 91 = .ok (.aload_n 0, 1) := by decide +kernel
theorem dX11_good_92 : decode cX11_good 92 = .ok (.getfield 54, 3) := by decide +kernel
theorem dX11_good_95 : decode cX11_good 95 = .ok (.iload 4, 2) := by decide +kernel
theorem dX11_good_97 : decode cX11_good 97 = .ok (.invokevirtual 318, 3) := by decide +kernel
theorem dX11_good_100 : decode cX11_good 100 = .ok (.if_icmp .lt 7, 3) := by decide +kernel
theorem dX11_good_103 : decode cX11_good 103 = .ok (.iconst 1, 1) := by decide +kernel
theorem dX11_good_104 : decode cX11_good 104 = .ok (.goto 4, 3) := by decide +kernel
theorem dX11_good_107 : decode cX11_good 107 = .ok (.iconst 0, 1) := by decide +kernel
theorem dX11_good_108 : decode cX11_good 108 = .ok (.istore 5, 2) := by decide +kernel
theorem dX11_good_110 : decode cX11_good 110 = .ok (.iload 5, 2) := by decide +kernel
theorem dX11_good_112 : decode cX11_good 112 = .ok (.ifCond .eq 7, 3) := by decide +kernel
theorem dX11_good_115 : decode cX11_good 115 = .ok (.iconst 1, 1) := by decide +kernel
theorem dX11_good_116 : decode cX11_good 116 = .ok (.goto 4, 3) := by decide +kernel
theorem dX11_good_119 : decode cX11_good 119 = .ok (.iconst 0, 1) := by decide +kernel
theorem dX11_good_120 : decode cX11_good 120 = .ok (.ireturn, 1) := by decide +kernel
theorem dX11_count_0 : decode cX11_count 0 = .ok (.iload_n 1, 1) := by decide +kernel
theorem dX11_count_1 : decode cX11_count 1 = .ok (.tableswitch 117 0 8 #[51, 56, 64, 72, 80, 88, 96, 101, 109], 51) := by decide +kernel
theorem dX11_count_52 : decode cX11_count 52 = .ok (.aload_n 0, 1) := by decide +kernel
theorem dX11_count_53 : decode cX11_count 53 = .ok (.getfield 73, 3) := by decide +kernel
theorem dX11_count_56 : decode cX11_count 56 = .ok (.ireturn, 1) := by decide +kernel
theorem dX11_count_57 : decode cX11_count 57 = .ok (.aload_n 0, 1) := by decide +kernel
theorem dX11_count_58 : decode cX11_count 58 = .ok (.getfield 19, 3) := by decide +kernel
theorem dX11_count_61 : decode cX11_count 61 = .ok (.getfield 321, 3) := by decide +kernel
theorem dX11_count_64 : decode cX11_count 64 = .ok (.ireturn, 1) := by decide +kernel
theorem dX11_count_65 : decode cX11_count 65 = .ok (.aload_n 0, 1) := by decide +kernel
theorem dX11_count_66 : decode cX11_count 66 = .ok (.getfield 19, 3) := by decide +kernel
theorem dX11_count_69 : decode cX11_count 69 = .ok (.invokevirtual 322, 3) := by decide +kernel
theorem dX11_count_72 : decode cX11_count 72 = .ok (.ireturn, 1) := by decide +kernel
theorem dX11_count_73 : decode cX11_count 73 = .ok (.aload_n 0, 1) := by decide +kernel
theorem dX11_count_74 : decode cX11_count 74 = .ok (.getfield 26, 3) := by decide +kernel
theorem dX11_count_77 : decode cX11_count 77 = .ok (.getfield 325, 3) := by decide +kernel
theorem dX11_count_80 : decode cX11_count 80 = .ok (.ireturn, 1) := by decide +kernel
theorem dX11_count_81 : decode cX11_count 81 = .ok (.aload_n 0, 1) := by decide +kernel
theorem dX11_count_82 : decode cX11_count 82 = .ok (.getfield 33, 3) := by decide +kernel
theorem dX11_count_85 : decode cX11_count 85 = .ok (.getfield 326, 3) := by decide +kernel
theorem dX11_count_88 : decode cX11_count 88 = .ok (.ireturn, 1) := by decide +kernel
theorem dX11_count_89 : decode cX11_count 89 = .ok (.aload_n 0, 1) := by decide +kernel
theorem dX11_count_90 : decode cX11_count 90 = .ok (.getfield 47, 3) := by decide +kernel
theorem dX11_count_93 : decode cX11_count 93 = .ok (.getfield 327, 3) := by decide +kernel
theorem dX11_count_96 : decode cX11_count 96 = .ok (.ireturn, 1) := by decide +kernel
theorem dX11_count_97 : decode cX11_count 97 = .ok (.aload_n 0, 1) := by decide +kernel
theorem dX11_count_98 : decode cX11_count 98 = .ok (.invokevirtual 328, 3) := by decide +kernel
theorem dX11_count_101 : decode cX11_count 101 = .ok (.ireturn, 1) := by decide +kernel
theorem dX11_count_102 : decode cX11_count 102 = .ok (.aload_n 0, 1) := by decide +kernel
theorem dX11_count_103 : decode cX11_count 103 = .ok (.getfield 54, 3) := by decide +kernel
theorem dX11_count_106 : decode cX11_count 106 = .ok (.getfield 331, 3) := by decide +kernel
theorem dX11_count_109 : decode cX11_count 109 = .ok (.ireturn, 1) := by decide +kernel
theorem dX11_count_110 : decode cX11_count 110 = .ok (.aload_n 0, 1) := by decide +kernel
theorem dX11_count_111 : decode cX11_count 111 = .ok (.getfield 10, 3) := by decide +kernel
theorem dX11_count_114 : decode cX11_count 114 = .ok (.getfield 332, 3) := by decide +kernel
theorem dX11_count_117 : decode cX11_count 117 = .ok (.ireturn, 1) := by decide +kernel
theorem dX11_count_118 : decode cX11_count 118 = .ok (.iload_n 1, 1) := by decide +kernel
theorem dX11_count_119 : decode cX11_count 119 = .ok (.bipush 10, 2) := by decide +kernel
theorem dX11_count_121 : decode cX11_count 121 = .ok (.if_icmp .le 27, 3) := by decide +kernel
theorem dX11_count_124 : decode cX11_count 124 = .ok (.iload_n 1, 1) := by decide +kernel
theorem dX11_count_125 : decode cX11_count 125 = .ok (.bipush 10, 2) := by decide +kernel
theorem dX11_count_127 : decode cX11_count 127 = .ok (.isub, 1) := by decide +kernel
theorem dX11_count_128 : decode cX11_count 128 = .ok (.aload_n 0, 1) := by decide +kernel
theorem dX11_count_129 : decode cX11_count 129 = .ok (.getfield 70, 3) := by decide +kernel
theorem dX11_count_132 : decode cX11_count 132 = .ok (.arraylength, 1) := by decide +kernel
theorem dX11_count_133 : decode cX11_count 133 = .ok (.if_icmp .ge 15, 3) := by decide +kernel
theorem dX11_count_136 : decode cX11_count 136 = .ok (.aload_n 0, 1) := by decide +kernel
theorem dX11_count_137 : decode cX11_count 137 = .ok (.getfield 70, 3) := by decide +kernel
theorem dX11_count_140 : decode cX11_count 140 = .ok (.iload_n 1, 1) := by decide +kernel
theorem dX11_count_141 : decode cX11_count 141 = .ok (.bipush 10, 2) := by decide +kernel
theorem dX11_count_143 : decode cX11_count 143 = .ok (.isub, 1) := by decide +kernel
theorem dX11_count_144 : decode cX11_count 144 = .ok (.iaload, 1) := by decide +kernel
theorem dX11_count_145 : decode cX11_count 145 = .ok (.goto 5, 3) := by decide +kernel
theorem dX11_count_148 : decode cX11_count 148 = .ok (.bipush (-9), 2) := by decide +kernel
theorem dX11_count_150 : decode cX11_count 150 = .ok (.ireturn, 1) := by decide +kernel
theorem dX11_isOneOf_0 : decode cX11_isOneOf 0 = .ok (.iload_n 1, 1) := by decide +kernel
theorem dX11_isOneOf_1 : decode cX11_isOneOf 1 = .ok (.ifCond .lt 12, 3) := by decide +kernel
theorem dX11_isOneOf_4 : decode cX11_isOneOf 4 = .ok (.iload_n 1, 1) := by decide +kernel
theorem dX11_isOneOf_5 : decode cX11_isOneOf 5 = .ok (.iload_n 0, 1) := by decide +kernel
theorem dX11_isOneOf_6 : decode cX11_isOneOf 6 = .ok (.if_icmp .ge 7, 3) := by decide +kernel
theorem dX11_isOneOf_9 : decode cX11_isOneOf 9 = .ok (.iconst 1, 1) := by decide +kernel
theorem dX11_isOneOf_10 : decode cX11_isOneOf 10 = .ok (.goto 4, 3) := by decide +kernel
theorem dX11_isOneOf_13 : decode cX11_isOneOf 13 = .ok (.iconst 0, 1) := by decide +kernel
theorem dX11_isOneOf_14 : decode cX11_isOneOf 14 = .ok (.ireturn, 1) := by decide +kernel
theorem dX11_refuse_0 : decode cX11_refuse 0 = .ok (.iload_n 1, 1) := by decide +kernel
theorem dX11_refuse_1 : decode cX11_refuse 1 = .ok (.ineg, 1) := by decide +kernel
theorem dX11_refuse_2 : decode cX11_refuse 2 = .ok (.istore_n 2, 1) := by decide +kernel
theorem dX11_refuse_3 : decode cX11_refuse 3 = .ok (.aload_n 0, 1) := by decide +kernel
theorem dX11_refuse_4 : decode cX11_refuse 4 = .ok (.getfield 70, 3) := by decide +kernel
theorem dX11_refuse_7 : decode cX11_refuse 7 = .ok (.arraylength, 1) := by decide +kernel
theorem dX11_refuse_8 : decode cX11_refuse 8 = .ok (.iload_n 2, 1) := by decide +kernel
theorem dX11_refuse_9 : decode cX11_refuse 9 = .ok (.invokestatic 85, 3) := by decide +kernel
theorem dX11_refuse_12 : decode cX11_refuse 12 = .ok (.ifCond .eq 13, 3) := by decide +kernel
theorem dX11_refuse_15 : decode cX11_refuse 15 = .ok (.aload_n 0, 1) := by decide +kernel
theorem dX11_refuse_16 : decode cX11_refuse 16 = .ok (.getfield 70, 3) := by decide +kernel
theorem dX11_refuse_19 : decode cX11_refuse 19 = .ok (.iload_n 2, 1) := by decide +kernel
theorem dX11_refuse_20 : decode cX11_refuse 20 = .ok (.dup2, 1) := by decide +kernel
theorem dX11_refuse_21 : decode cX11_refuse 21 = .ok (.iaload, 1) := by decide +kernel
theorem dX11_refuse_22 : decode cX11_refuse 22 = .ok (.iconst 1, 1) := by decide +kernel
theorem dX11_refuse_23 : decode cX11_refuse 23 = .ok (.iadd, 1) := by decide +kernel
theorem dX11_refuse_24 : decode cX11_refuse 24 = .ok (.iastore, 1) := by decide +kernel
theorem dX11_refuse_25 : decode cX11_refuse 25 = .ok (.iload_n 1, 1) := by decide +kernel
theorem dX11_refuse_26 : decode cX11_refuse 26 = .ok (.ireturn, 1) := by decide +kernel
theorem dX11_refuseBeyond_0 : decode cX11_refuseBeyond 0 = .ok (.ldc_w 335, 3) := by decide +kernel
theorem dX11_refuseBeyond_3 : decode cX11_refuseBeyond 3 = .ok (.aload_n 0, 1) := by decide +kernel
theorem dX11_refuseBeyond_4 : decode cX11_refuseBeyond 4 = .ok (.iload_n 1, 1) := by decide +kernel
theorem dX11_refuseBeyond_5 : decode cX11_refuseBeyond 5 = .ok (.invokevirtual 77, 3) := by decide +kernel
theorem dX11_refuseBeyond_8 : decode cX11_refuseBeyond 8 = .ok (.isub, 1) := by decide +kernel
theorem dX11_refuseBeyond_9 : decode cX11_refuseBeyond 9 = .ok (.ireturn, 1) := by decide +kernel
theorem dX11_gapFor_0 : decode cX11_gapFor 0 = .ok (.iload_n 1, 1) := by decide +kernel
theorem dX11_gapFor_1 : decode cX11_gapFor 1 = .ok (.ifCond .eq 12, 3) := by decide +kernel
theorem dX11_gapFor_4 : decode cX11_gapFor 4 = .ok (.aload_n 0, 1) := by decide +kernel
theorem dX11_gapFor_5 : decode cX11_gapFor 5 = .ok (.getfield 67, 3) := by decide +kernel
theorem dX11_gapFor_8 : decode cX11_gapFor 8 = .ok (.iconst 1, 1) := by decide +kernel
theorem dX11_gapFor_9 : decode cX11_gapFor 9 = .ok (.iaload, 1) := by decide +kernel
theorem dX11_gapFor_10 : decode cX11_gapFor 10 = .ok (.goto 9, 3) := by decide +kernel
theorem dX11_gapFor_13 : decode cX11_gapFor 13 = .ok (.aload_n 0, 1) := by decide +kernel
theorem dX11_gapFor_14 : decode cX11_gapFor 14 = .ok (.getfield 67, 3) := by decide +kernel
theorem dX11_gapFor_17 : decode cX11_gapFor 17 = .ok (.iconst 0, 1) := by decide +kernel
theorem dX11_gapFor_18 : decode cX11_gapFor 18 = .ok (.iaload, 1) := by decide +kernel
theorem dX11_gapFor_19 : decode cX11_gapFor 19 = .ok (.ireturn, 1) := by decide +kernel
theorem dX11_waitOf_0 : decode cX11_waitOf 0 = .ok (.aload_n 0, 1) := by decide +kernel
theorem dX11_waitOf_1 : decode cX11_waitOf 1 = .ok (.iload_n 2, 1) := by decide +kernel
theorem dX11_waitOf_2 : decode cX11_waitOf 2 = .ok (.invokevirtual 159, 3) := by decide +kernel
theorem dX11_waitOf_5 : decode cX11_waitOf 5 = .ok (.istore_n 3, 1) := by decide +kernel
theorem dX11_waitOf_6 : decode cX11_waitOf 6 = .ok (.aload_n 1, 1) := by decide +kernel
theorem dX11_waitOf_7 : decode cX11_waitOf 7 = .ok (.aload_n 0, 1) := by decide +kernel
theorem dX11_waitOf_8 : decode cX11_waitOf 8 = .ok (.getfield 19, 3) := by decide +kernel
theorem dX11_waitOf_11 : decode cX11_waitOf 11 = .ok (.aload_n 1, 1) := by decide +kernel
theorem dX11_waitOf_12 : decode cX11_waitOf 12 = .ok (.iload_n 2, 1) := by decide +kernel
theorem dX11_waitOf_13 : decode cX11_waitOf 13 = .ok (.iload_n 3, 1) := by decide +kernel
theorem dX11_waitOf_14 : decode cX11_waitOf 14 = .ok (.invokevirtual 163, 3) := by decide +kernel
theorem dX11_waitOf_17 : decode cX11_waitOf 17 = .ok (.iload_n 3, 1) := by decide +kernel
theorem dX11_waitOf_18 : decode cX11_waitOf 18 = .ok (.invokevirtual 336, 3) := by decide +kernel
theorem dX11_waitOf_21 : decode cX11_waitOf 21 = .ok (.ireturn, 1) := by decide +kernel
theorem dX11_handedTo_0 : decode cX11_handedTo 0 = .ok (.aload_n 1, 1) := by decide +kernel
theorem dX11_handedTo_1 : decode cX11_handedTo 1 = .ok (.getfield 145, 3) := by decide +kernel
theorem dX11_handedTo_4 : decode cX11_handedTo 4 = .ok (.aload_n 0, 1) := by decide +kernel
theorem dX11_handedTo_5 : decode cX11_handedTo 5 = .ok (.aload_n 1, 1) := by decide +kernel
theorem dX11_handedTo_6 : decode cX11_handedTo 6 = .ok (.iconst 0, 1) := by decide +kernel
theorem dX11_handedTo_7 : decode cX11_handedTo 7 = .ok (.invokevirtual 151, 3) := by decide +kernel
theorem dX11_handedTo_10 : decode cX11_handedTo 10 = .ok (.aload_n 0, 1) := by decide +kernel
theorem dX11_handedTo_11 : decode cX11_handedTo 11 = .ok (.aload_n 1, 1) := by decide +kernel
theorem dX11_handedTo_12 : decode cX11_handedTo 12 = .ok (.iconst 1, 1) := by decide +kernel
theorem dX11_handedTo_13 : decode cX11_handedTo 13 = .ok (.invokevirtual 151, 3) := by decide +kernel
theorem dX11_handedTo_16 : decode cX11_handedTo 16 = .ok (.invokestatic 180, 3) := by decide +kernel
theorem dX11_handedTo_19 : decode cX11_handedTo 19 = .ok (.invokestatic 340, 3) := by decide +kernel
theorem dX11_handedTo_22 : decode cX11_handedTo 22 = .ok (.ireturn, 1) := by decide +kernel
theorem dX11_soonestOf_0 : decode cX11_soonestOf 0 = .ok (.aload_n 0, 1) := by decide +kernel
theorem dX11_soonestOf_1 : decode cX11_soonestOf 1 = .ok (.getfield 67, 3) := by decide +kernel
theorem dX11_soonestOf_4 : decode cX11_soonestOf 4 = .ok (.iconst 2, 1) := by decide +kernel
theorem dX11_soonestOf_5 : decode cX11_soonestOf 5 = .ok (.iaload, 1) := by decide +kernel
theorem dX11_soonestOf_6 : decode cX11_soonestOf 6 = .ok (.istore_n 2, 1) := by decide +kernel
theorem dX11_soonestOf_7 : decode cX11_soonestOf 7 = .ok (.aload_n 1, 1) := by decide +kernel
theorem dX11_soonestOf_8 : decode cX11_soonestOf 8 = .ok (.iload_n 2, 1) := by decide +kernel
theorem dX11_soonestOf_9 : decode cX11_soonestOf 9 = .ok (.invokevirtual 208, 3) := by decide +kernel
theorem dX11_soonestOf_12 : decode cX11_soonestOf 12 = .ok (.istore_n 3, 1) := by decide +kernel
theorem dX11_soonestOf_13 : decode cX11_soonestOf 13 = .ok (.iload_n 3, 1) := by decide +kernel
theorem dX11_soonestOf_14 : decode cX11_soonestOf 14 = .ok (.bipush (-9), 2) := by decide +kernel
theorem dX11_soonestOf_16 : decode cX11_soonestOf 16 = .ok (.if_icmp .ne 11, 3) := by decide +kernel
theorem dX11_soonestOf_19 : decode cX11_soonestOf 19 = .ok (.aload_n 1, 1) := by decide +kernel
theorem dX11_soonestOf_20 : decode cX11_soonestOf 20 = .ok (.getfield 343, 3) := by decide +kernel
theorem dX11_soonestOf_23 : decode cX11_soonestOf 23 = .ok (.getfield 347, 3) := by decide +kernel
theorem dX11_soonestOf_26 : decode cX11_soonestOf 26 = .ok (.ireturn, 1) := by decide +kernel
theorem dX11_soonestOf_27 : decode cX11_soonestOf 27 = .ok (.aload_n 1, 1) := by decide +kernel
theorem dX11_soonestOf_28 : decode cX11_soonestOf 28 = .ok (.getfield 350, 3) := by decide +kernel
theorem dX11_soonestOf_31 : decode cX11_soonestOf 31 = .ok (.iload_n 3, 1) := by decide +kernel
theorem dX11_soonestOf_32 : decode cX11_soonestOf 32 = .ok (.aaload, 1) := by decide +kernel
theorem dX11_soonestOf_33 : decode cX11_soonestOf 33 = .ok (.astore 4, 2) := by decide +kernel
theorem dX11_soonestOf_35 : decode cX11_soonestOf 35 = .ok (.iload_n 3, 1) := by decide +kernel
theorem dX11_soonestOf_36 : decode cX11_soonestOf 36 = .ok (.ifCond .ne 11, 3) := by decide +kernel
theorem dX11_soonestOf_39 : decode cX11_soonestOf 39 = .ok (.aload 4, 2) := by decide +kernel
theorem dX11_soonestOf_41 : decode cX11_soonestOf 41 = .ok (.getfield 177, 3) := by decide +kernel
theorem dX11_soonestOf_44 : decode cX11_soonestOf 44 = .ok (.goto 14, 3) := by decide +kernel
theorem dX11_soonestOf_47 : decode cX11_soonestOf 47 = .ok (.aload_n 1, 1) := by decide +kernel
theorem dX11_soonestOf_48 : decode cX11_soonestOf 48 = .ok (.getfield 350, 3) := by decide +kernel
theorem dX11_soonestOf_51 : decode cX11_soonestOf 51 = .ok (.iload_n 3, 1) := by decide +kernel
theorem dX11_soonestOf_52 : decode cX11_soonestOf 52 = .ok (.iconst 1, 1) := by decide +kernel
theorem dX11_soonestOf_53 : decode cX11_soonestOf 53 = .ok (.isub, 1) := by decide +kernel
theorem dX11_soonestOf_54 : decode cX11_soonestOf 54 = .ok (.aaload, 1) := by decide +kernel
theorem dX11_soonestOf_55 : decode cX11_soonestOf 55 = .ok (.getfield 347, 3) := by decide +kernel
theorem dX11_soonestOf_58 : decode cX11_soonestOf 58 = .ok (.istore 5, 2) := by decide +kernel
theorem dX11_soonestOf_60 : decode cX11_soonestOf 60 = .ok (.aload_n 0, 1) := by decide +kernel
theorem dX11_soonestOf_61 : decode cX11_soonestOf 61 = .ok (.getfield 19, 3) := by decide +kernel
theorem dX11_soonestOf_64 : decode cX11_soonestOf 64 = .ok (.aload 4, 2) := by decide +kernel
theorem dX11_soonestOf_66 : decode cX11_soonestOf 66 = .ok (.getfield 354, 3) := by decide +kernel
theorem dX11_soonestOf_69 : decode cX11_soonestOf 69 = .ok (.iload 5, 2) := by decide +kernel
theorem dX11_soonestOf_71 : decode cX11_soonestOf 71 = .ok (.aload_n 1, 1) := by decide +kernel
theorem dX11_soonestOf_72 : decode cX11_soonestOf 72 = .ok (.getfield 343, 3) := by decide +kernel
theorem dX11_soonestOf_75 : decode cX11_soonestOf 75 = .ok (.getfield 358, 3) := by decide +kernel
theorem dX11_soonestOf_78 : decode cX11_soonestOf 78 = .ok (.iload_n 2, 1) := by decide +kernel
theorem dX11_soonestOf_79 : decode cX11_soonestOf 79 = .ok (.invokevirtual 361, 3) := by decide +kernel
theorem dX11_soonestOf_82 : decode cX11_soonestOf 82 = .ok (.ireturn, 1) := by decide +kernel
theorem dX11_hoursOf_0 : decode cX11_hoursOf 0 = .ok (.aload_n 0, 1) := by decide +kernel
theorem dX11_hoursOf_1 : decode cX11_hoursOf 1 = .ok (.aload_n 1, 1) := by decide +kernel
theorem dX11_hoursOf_2 : decode cX11_hoursOf 2 = .ok (.invokevirtual 211, 3) := by decide +kernel
theorem dX11_hoursOf_5 : decode cX11_hoursOf 5 = .ok (.istore_n 2, 1) := by decide +kernel
theorem dX11_hoursOf_6 : decode cX11_hoursOf 6 = .ok (.iload_n 2, 1) := by decide +kernel
theorem dX11_hoursOf_7 : decode cX11_hoursOf 7 = .ok (.bipush (-9), 2) := by decide +kernel
theorem dX11_hoursOf_9 : decode cX11_hoursOf 9 = .ok (.if_icmp .ne 9, 3) := by decide +kernel
theorem dX11_hoursOf_12 : decode cX11_hoursOf 12 = .ok (.sipush 9999, 3) := by decide +kernel
theorem dX11_hoursOf_15 : decode cX11_hoursOf 15 = .ok (.goto 16, 3) := by decide +kernel
theorem dX11_hoursOf_18 : decode cX11_hoursOf 18 = .ok (.iconst 0, 1) := by decide +kernel
theorem dX11_hoursOf_19 : decode cX11_hoursOf 19 = .ok (.iload_n 2, 1) := by decide +kernel
theorem dX11_hoursOf_20 : decode cX11_hoursOf 20 = .ok (.aload_n 1, 1) := by decide +kernel
theorem dX11_hoursOf_21 : decode cX11_hoursOf 21 = .ok (.getfield 343, 3) := by decide +kernel
theorem dX11_hoursOf_24 : decode cX11_hoursOf 24 = .ok (.getfield 365, 3) := by decide +kernel
theorem dX11_hoursOf_27 : decode cX11_hoursOf 27 = .ok (.isub, 1) := by decide +kernel
theorem dX11_hoursOf_28 : decode cX11_hoursOf 28 = .ok (.invokestatic 180, 3) := by decide +kernel
theorem dX11_hoursOf_31 : decode cX11_hoursOf 31 = .ok (.ireturn, 1) := by decide +kernel
theorem dX11_blameOf_0 : decode cX11_blameOf 0 = .ok (.aload_n 1, 1) := by decide +kernel
theorem dX11_blameOf_1 : decode cX11_blameOf 1 = .ok (.aload_n 0, 1) := by decide +kernel
theorem dX11_blameOf_2 : decode cX11_blameOf 2 = .ok (.getfield 67, 3) := by decide +kernel
theorem dX11_blameOf_5 : decode cX11_blameOf 5 = .ok (.iconst 2, 1) := by decide +kernel
theorem dX11_blameOf_6 : decode cX11_blameOf 6 = .ok (.iaload, 1) := by decide +kernel
theorem dX11_blameOf_7 : decode cX11_blameOf 7 = .ok (.invokevirtual 368, 3) := by decide +kernel
theorem dX11_blameOf_10 : decode cX11_blameOf 10 = .ok (.astore_n 2, 1) := by decide +kernel
theorem dX11_blameOf_11 : decode cX11_blameOf 11 = .ok (.aload_n 2, 1) := by decide +kernel
theorem dX11_blameOf_12 : decode cX11_blameOf 12 = .ok (.getfield 126, 3) := by decide +kernel
theorem dX11_blameOf_15 : decode cX11_blameOf 15 = .ok (.ifCond .eq 10, 3) := by decide +kernel
theorem dX11_blameOf_18 : decode cX11_blameOf 18 = .ok (.aload_n 2, 1) := by decide +kernel
theorem dX11_blameOf_19 : decode cX11_blameOf 19 = .ok (.getfield 145, 3) := by decide +kernel
theorem dX11_blameOf_22 : decode cX11_blameOf 22 = .ok (.ifCond .ne 6, 3) := by decide +kernel
theorem dX11_blameOf_25 : decode cX11_blameOf 25 = .ok (.bipush (-9), 2) := by decide +kernel
theorem dX11_blameOf_27 : decode cX11_blameOf 27 = .ok (.ireturn, 1) := by decide +kernel
theorem dX11_blameOf_28 : decode cX11_blameOf 28 = .ok (.aload_n 0, 1) := by decide +kernel
theorem dX11_blameOf_29 : decode cX11_blameOf 29 = .ok (.getfield 19, 3) := by decide +kernel
theorem dX11_blameOf_32 : decode cX11_blameOf 32 = .ok (.aload_n 2, 1) := by decide +kernel
theorem dX11_blameOf_33 : decode cX11_blameOf 33 = .ok (.aload_n 0, 1) := by decide +kernel
theorem dX11_blameOf_34 : decode cX11_blameOf 34 = .ok (.getfield 67, 3) := by decide +kernel
theorem dX11_blameOf_37 : decode cX11_blameOf 37 = .ok (.iconst 0, 1) := by decide +kernel
theorem dX11_blameOf_38 : decode cX11_blameOf 38 = .ok (.iaload, 1) := by decide +kernel
theorem dX11_blameOf_39 : decode cX11_blameOf 39 = .ok (.aload_n 0, 1) := by decide +kernel
theorem dX11_blameOf_40 : decode cX11_blameOf 40 = .ok (.getfield 67, 3) := by decide +kernel
theorem dX11_blameOf_43 : decode cX11_blameOf 43 = .ok (.iconst 1, 1) := by decide +kernel
theorem dX11_blameOf_44 : decode cX11_blameOf 44 = .ok (.iaload, 1) := by decide +kernel
theorem dX11_blameOf_45 : decode cX11_blameOf 45 = .ok (.invokevirtual 170, 3) := by decide +kernel
theorem dX11_blameOf_48 : decode cX11_blameOf 48 = .ok (.aload_n 0, 1) := by decide +kernel
theorem dX11_blameOf_49 : decode cX11_blameOf 49 = .ok (.getfield 19, 3) := by decide +kernel
theorem dX11_blameOf_52 : decode cX11_blameOf 52 = .ok (.invokevirtual 371, 3) := by decide +kernel
theorem dX11_blameOf_55 : decode cX11_blameOf 55 = .ok (.ireturn, 1) := by decide +kernel
theorem dX11_sumFor_0 : decode cX11_sumFor 0 = .ok (.aload_n 0, 1) := by decide +kernel
theorem dX11_sumFor_1 : decode cX11_sumFor 1 = .ok (.getfield 33, 3) := by decide +kernel
theorem dX11_sumFor_4 : decode cX11_sumFor 4 = .ok (.aload_n 1, 1) := by decide +kernel
theorem dX11_sumFor_5 : decode cX11_sumFor 5 = .ok (.iload_n 2, 1) := by decide +kernel
theorem dX11_sumFor_6 : decode cX11_sumFor 6 = .ok (.invokevirtual 236, 3) := by decide +kernel
theorem dX11_sumFor_9 : decode cX11_sumFor 9 = .ok (.istore_n 3, 1) := by decide +kernel
theorem dX11_sumFor_10 : decode cX11_sumFor 10 = .ok (.iload_n 3, 1) := by decide +kernel
theorem dX11_sumFor_11 : decode cX11_sumFor 11 = .ok (.bipush (-9), 2) := by decide +kernel
theorem dX11_sumFor_13 : decode cX11_sumFor 13 = .ok (.if_icmp .eq 23, 3) := by decide +kernel
theorem dX11_sumFor_16 : decode cX11_sumFor 16 = .ok (.aload_n 0, 1) := by decide +kernel
theorem dX11_sumFor_17 : decode cX11_sumFor 17 = .ok (.getfield 33, 3) := by decide +kernel
theorem dX11_sumFor_20 : decode cX11_sumFor 20 = .ok (.iload_n 3, 1) := by decide +kernel
theorem dX11_sumFor_21 : decode cX11_sumFor 21 = .ok (.aload_n 0, 1) := by decide +kernel
theorem dX11_sumFor_22 : decode cX11_sumFor 22 = .ok (.aload_n 1, 1) := by decide +kernel
theorem dX11_sumFor_23 : decode cX11_sumFor 23 = .ok (.invokevirtual 218, 3) := by decide +kernel
theorem dX11_sumFor_26 : decode cX11_sumFor 26 = .ok (.aload_n 1, 1) := by decide +kernel
theorem dX11_sumFor_27 : decode cX11_sumFor 27 = .ok (.invokevirtual 239, 3) := by decide +kernel
theorem dX11_sumFor_30 : decode cX11_sumFor 30 = .ok (.invokevirtual 243, 3) := by decide +kernel
theorem dX11_sumFor_33 : decode cX11_sumFor 33 = .ok (.ifCond .eq 5, 3) := by decide +kernel
theorem dX11_sumFor_36 : decode cX11_sumFor 36 = .ok (.iconst 0, 1) := by decide +kernel
theorem dX11_sumFor_37 : decode cX11_sumFor 37 = .ok (.ireturn, 1) := by decide +kernel
theorem dX11_sumFor_38 : decode cX11_sumFor 38 = .ok (.aload_n 0, 1) := by decide +kernel
theorem dX11_sumFor_39 : decode cX11_sumFor 39 = .ok (.getfield 33, 3) := by decide +kernel
theorem dX11_sumFor_42 : decode cX11_sumFor 42 = .ok (.iload_n 3, 1) := by decide +kernel
theorem dX11_sumFor_43 : decode cX11_sumFor 43 = .ok (.iload_n 2, 1) := by decide +kernel
theorem dX11_sumFor_44 : decode cX11_sumFor 44 = .ok (.aload_n 0, 1) := by decide +kernel
theorem dX11_sumFor_45 : decode cX11_sumFor 45 = .ok (.aload_n 1, 1) := by decide +kernel
theorem dX11_sumFor_46 : decode cX11_sumFor 46 = .ok (.invokevirtual 215, 3) := by decide +kernel
theorem dX11_sumFor_49 : decode cX11_sumFor 49 = .ok (.aload_n 0, 1) := by decide +kernel
theorem dX11_sumFor_50 : decode cX11_sumFor 50 = .ok (.aload_n 1, 1) := by decide +kernel
theorem dX11_sumFor_51 : decode cX11_sumFor 51 = .ok (.invokevirtual 374, 3) := by decide +kernel
theorem dX11_sumFor_54 : decode cX11_sumFor 54 = .ok (.invokevirtual 377, 3) := by decide +kernel
theorem dX11_sumFor_57 : decode cX11_sumFor 57 = .ok (.ireturn, 1) := by decide +kernel
theorem dX11_milesOf_0 : decode cX11_milesOf 0 = .ok (.aload_n 0, 1) := by decide +kernel
theorem dX11_milesOf_1 : decode cX11_milesOf 1 = .ok (.getfield 10, 3) := by decide +kernel
theorem dX11_milesOf_4 : decode cX11_milesOf 4 = .ok (.aload_n 1, 1) := by decide +kernel
theorem dX11_milesOf_5 : decode cX11_milesOf 5 = .ok (.getfield 381, 3) := by decide +kernel
theorem dX11_milesOf_8 : decode cX11_milesOf 8 = .ok (.getfield 354, 3) := by decide +kernel
theorem dX11_milesOf_11 : decode cX11_milesOf 11 = .ok (.aload_n 1, 1) := by decide +kernel
theorem dX11_milesOf_12 : decode cX11_milesOf 12 = .ok (.getfield 343, 3) := by decide +kernel
theorem dX11_milesOf_15 : decode cX11_milesOf 15 = .ok (.getfield 358, 3) := by decide +kernel
theorem dX11_milesOf_18 : decode cX11_milesOf 18 = .ok (.invokevirtual 94, 3) := by decide +kernel
theorem dX11_milesOf_21 : decode cX11_milesOf 21 = .ok (.ireturn, 1) := by decide +kernel
theorem dX11_isBarred_0 : decode cX11_isBarred 0 = .ok (.aload_n 0, 1) := by decide +kernel
theorem dX11_isBarred_1 : decode cX11_isBarred 1 = .ok (.getfield 33, 3) := by decide +kernel
theorem dX11_isBarred_4 : decode cX11_isBarred 4 = .ok (.aload_n 1, 1) := by decide +kernel
theorem dX11_isBarred_5 : decode cX11_isBarred 5 = .ok (.getfield 264, 3) := by decide +kernel
theorem dX11_isBarred_8 : decode cX11_isBarred 8 = .ok (.aload_n 1, 1) := by decide +kernel
theorem dX11_isBarred_9 : decode cX11_isBarred 9 = .ok (.getfield 271, 3) := by decide +kernel
theorem dX11_isBarred_12 : decode cX11_isBarred 12 = .ok (.invokevirtual 236, 3) := by decide +kernel
theorem dX11_isBarred_15 : decode cX11_isBarred 15 = .ok (.istore_n 2, 1) := by decide +kernel
theorem dX11_isBarred_16 : decode cX11_isBarred 16 = .ok (.iload_n 2, 1) := by decide +kernel
theorem dX11_isBarred_17 : decode cX11_isBarred 17 = .ok (.bipush (-9), 2) := by decide +kernel
theorem dX11_isBarred_19 : decode cX11_isBarred 19 = .ok (.if_icmp .ne 5, 3) := by decide +kernel
theorem dX11_isBarred_22 : decode cX11_isBarred 22 = .ok (.iconst 0, 1) := by decide +kernel
theorem dX11_isBarred_23 : decode cX11_isBarred 23 = .ok (.ireturn, 1) := by decide +kernel
theorem dX11_isBarred_24 : decode cX11_isBarred 24 = .ok (.aload_n 0, 1) := by decide +kernel
theorem dX11_isBarred_25 : decode cX11_isBarred 25 = .ok (.getfield 40, 3) := by decide +kernel
theorem dX11_isBarred_28 : decode cX11_isBarred 28 = .ok (.iload_n 2, 1) := by decide +kernel
theorem dX11_isBarred_29 : decode cX11_isBarred 29 = .ok (.aload_n 1, 1) := by decide +kernel
theorem dX11_isBarred_30 : decode cX11_isBarred 30 = .ok (.getfield 264, 3) := by decide +kernel
theorem dX11_isBarred_33 : decode cX11_isBarred 33 = .ok (.invokevirtual 384, 3) := by decide +kernel
theorem dX11_isBarred_36 : decode cX11_isBarred 36 = .ok (.iconst 1, 1) := by decide +kernel
theorem dX11_isBarred_37 : decode cX11_isBarred 37 = .ok (.iadd, 1) := by decide +kernel
theorem dX11_isBarred_38 : decode cX11_isBarred 38 = .ok (.aload_n 1, 1) := by decide +kernel
theorem dX11_isBarred_39 : decode cX11_isBarred 39 = .ok (.getfield 271, 3) := by decide +kernel
theorem dX11_isBarred_42 : decode cX11_isBarred 42 = .ok (.invokevirtual 387, 3) := by decide +kernel
theorem dX11_isBarred_45 : decode cX11_isBarred 45 = .ok (.aload_n 0, 1) := by decide +kernel
theorem dX11_isBarred_46 : decode cX11_isBarred 46 = .ok (.getfield 40, 3) := by decide +kernel
theorem dX11_isBarred_49 : decode cX11_isBarred 49 = .ok (.getfield 247, 3) := by decide +kernel
theorem dX11_isBarred_52 : decode cX11_isBarred 52 = .ok (.iload_n 2, 1) := by decide +kernel
theorem dX11_isBarred_53 : decode cX11_isBarred 53 = .ok (.iaload, 1) := by decide +kernel
theorem dX11_isBarred_54 : decode cX11_isBarred 54 = .ok (.if_icmp .le 7, 3) := by decide +kernel
theorem dX11_isBarred_57 : decode cX11_isBarred 57 = .ok (.iconst 1, 1) := by decide +kernel
theorem dX11_isBarred_58 : decode cX11_isBarred 58 = .ok (.goto 4, 3) := by decide +kernel
theorem dX11_isBarred_61 : decode cX11_isBarred 61 = .ok (.iconst 0, 1) := by decide +kernel
theorem dX11_isBarred_62 : decode cX11_isBarred 62 = .ok (.ireturn, 1) := by decide +kernel
theorem dX11_worthOf_0 : decode cX11_worthOf 0 = .ok (.aload_n 0, 1) := by decide +kernel
theorem dX11_worthOf_1 : decode cX11_worthOf 1 = .ok (.aload_n 1, 1) := by decide +kernel
theorem dX11_worthOf_2 : decode cX11_worthOf 2 = .ok (.invokevirtual 274, 3) := by decide +kernel
theorem dX11_worthOf_5 : decode cX11_worthOf 5 = .ok (.ifCond .eq 7, 3) := by decide +kernel
theorem dX11_worthOf_8 : decode cX11_worthOf 8 = .ok (.iconst 0, 1) := by decide +kernel
theorem dX11_worthOf_9 : decode cX11_worthOf 9 = .ok (.goto 15, 3) := by decide +kernel
theorem dX11_worthOf_12 : decode cX11_worthOf 12 = .ok (.aload_n 0, 1) := by decide +kernel
theorem dX11_worthOf_13 : decode cX11_worthOf 13 = .ok (.aload_n 1, 1) := by decide +kernel
theorem dX11_worthOf_14 : decode cX11_worthOf 14 = .ok (.getfield 264, 3) := by decide +kernel
theorem dX11_worthOf_17 : decode cX11_worthOf 17 = .ok (.aload_n 1, 1) := by decide +kernel
theorem dX11_worthOf_18 : decode cX11_worthOf 18 = .ok (.getfield 271, 3) := by decide +kernel
theorem dX11_worthOf_21 : decode cX11_worthOf 21 = .ok (.invokevirtual 232, 3) := by decide +kernel
theorem dX11_worthOf_24 : decode cX11_worthOf 24 = .ok (.ireturn, 1) := by decide +kernel
theorem dX11_countBarred_0 : decode cX11_countBarred 0 = .ok (.iconst 0, 1) := by decide +kernel
theorem dX11_countBarred_1 : decode cX11_countBarred 1 = .ok (.istore_n 1, 1) := by decide +kernel
theorem dX11_countBarred_2 : decode cX11_countBarred 2 = .ok (.iconst 0, 1) := by decide +kernel
theorem dX11_countBarred_3 : decode cX11_countBarred 3 = .ok (.istore_n 2, 1) := by decide +kernel
theorem dX11_countBarred_4 : decode cX11_countBarred 4 = .ok (.iload_n 2, 1) := by decide +kernel
theorem dX11_countBarred_5 : decode cX11_countBarred 5 = .ok (.aload_n 0, 1) := by decide +kernel
theorem dX11_countBarred_6 : decode cX11_countBarred 6 = .ok (.getfield 47, 3) := by decide +kernel
theorem dX11_countBarred_9 : decode cX11_countBarred 9 = .ok (.getfield 327, 3) := by decide +kernel
theorem dX11_countBarred_12 : decode cX11_countBarred 12 = .ok (.if_icmp .ge 28, 3) := by decide +kernel
theorem dX11_countBarred_15 : decode cX11_countBarred 15 = .ok (.aload_n 0, 1) := by decide +kernel
theorem dX11_countBarred_16 : decode cX11_countBarred 16 = .ok (.aload_n 0, 1) := by decide +kernel
theorem dX11_countBarred_17 : decode cX11_countBarred 17 = .ok (.getfield 47, 3) := by decide +kernel
theorem dX11_countBarred_20 : decode cX11_countBarred 20 = .ok (.getfield 390, 3) := by decide +kernel
theorem dX11_countBarred_23 : decode cX11_countBarred 23 = .ok (.iload_n 2, 1) := by decide +kernel
theorem dX11_countBarred_24 : decode cX11_countBarred 24 = .ok (.aaload, 1) := by decide +kernel
theorem dX11_countBarred_25 : decode cX11_countBarred 25 = .ok (.invokevirtual 274, 3) := by decide +kernel
theorem dX11_countBarred_28 : decode cX11_countBarred 28 = .ok (.ifCond .eq 6, 3) := by decide +kernel
theorem dX11_countBarred_31 : decode cX11_countBarred 31 = .ok (.iinc 1 1, 3) := by decide +kernel
theorem dX11_countBarred_34 : decode cX11_countBarred 34 = .ok (.iinc 2 1, 3) := by decide +kernel
theorem dX11_countBarred_37 : decode cX11_countBarred 37 = .ok (.goto (-33), 3) := by decide +kernel
theorem dX11_countBarred_40 : decode cX11_countBarred 40 = .ok (.iload_n 1, 1) := by decide +kernel
theorem dX11_countBarred_41 : decode cX11_countBarred 41 = .ok (.ireturn, 1) := by decide +kernel
theorem dX11_settleUp_0 : decode cX11_settleUp 0 = .ok (.aload_n 0, 1) := by decide +kernel
theorem dX11_settleUp_1 : decode cX11_settleUp 1 = .ok (.getfield 47, 3) := by decide +kernel
theorem dX11_settleUp_4 : decode cX11_settleUp 4 = .ok (.getfield 298, 3) := by decide +kernel
theorem dX11_settleUp_7 : decode cX11_settleUp 7 = .ok (.iconst 0, 1) := by decide +kernel
theorem dX11_settleUp_8 : decode cX11_settleUp 8 = .ok (.invokestatic 394, 3) := by decide +kernel
theorem dX11_settleUp_11 : decode cX11_settleUp 11 = .ok (.iconst 0, 1) := by decide +kernel
theorem dX11_settleUp_12 : decode cX11_settleUp 12 = .ok (.istore_n 1, 1) := by decide +kernel
theorem dX11_settleUp_13 : decode cX11_settleUp 13 = .ok (.iload_n 1, 1) := by decide +kernel
theorem dX11_settleUp_14 : decode cX11_settleUp 14 = .ok (.aload_n 0, 1) := by decide +kernel
theorem dX11_settleUp_15 : decode cX11_settleUp 15 = .ok (.getfield 47, 3) := by decide +kernel
theorem dX11_settleUp_18 : decode cX11_settleUp 18 = .ok (.getfield 327, 3) := by decide +kernel
theorem dX11_settleUp_21 : decode cX11_settleUp 21 = .ok (.if_icmp .ge 42, 3) := by decide +kernel
theorem dX11_settleUp_24 : decode cX11_settleUp 24 = .ok (.aload_n 0, 1) := by decide +kernel
theorem dX11_settleUp_25 : decode cX11_settleUp 25 = .ok (.getfield 47, 3) := by decide +kernel
theorem dX11_settleUp_28 : decode cX11_settleUp 28 = .ok (.getfield 390, 3) := by decide +kernel
theorem dX11_settleUp_31 : decode cX11_settleUp 31 = .ok (.iload_n 1, 1) := by decide +kernel
theorem dX11_settleUp_32 : decode cX11_settleUp 32 = .ok (.aaload, 1) := by decide +kernel
theorem dX11_settleUp_33 : decode cX11_settleUp 33 = .ok (.astore_n 2, 1) := by decide +kernel
theorem dX11_settleUp_34 : decode cX11_settleUp 34 = .ok (.aload_n 0, 1) := by decide +kernel
theorem dX11_settleUp_35 : decode cX11_settleUp 35 = .ok (.aload_n 2, 1) := by decide +kernel
theorem dX11_settleUp_36 : decode cX11_settleUp 36 = .ok (.invokevirtual 278, 3) := by decide +kernel
theorem dX11_settleUp_39 : decode cX11_settleUp 39 = .ok (.istore_n 3, 1) := by decide +kernel
theorem dX11_settleUp_40 : decode cX11_settleUp 40 = .ok (.aload_n 2, 1) := by decide +kernel
theorem dX11_settleUp_41 : decode cX11_settleUp 41 = .ok (.getfield 282, 3) := by decide +kernel
theorem dX11_settleUp_44 : decode cX11_settleUp 44 = .ok (.iload_n 3, 1) := by decide +kernel
theorem dX11_settleUp_45 : decode cX11_settleUp 45 = .ok (.if_icmp .lt 12, 3) := by decide +kernel
theorem dX11_settleUp_48 : decode cX11_settleUp 48 = .ok (.aload_n 0, 1) := by decide +kernel
theorem dX11_settleUp_49 : decode cX11_settleUp 49 = .ok (.getfield 47, 3) := by decide +kernel
theorem dX11_settleUp_52 : decode cX11_settleUp 52 = .ok (.aload_n 2, 1) := by decide +kernel
theorem dX11_settleUp_53 : decode cX11_settleUp 53 = .ok (.iload_n 3, 1) := by decide +kernel
theorem dX11_settleUp_54 : decode cX11_settleUp 54 = .ok (.invokevirtual 400, 3) := by decide +kernel
theorem dX11_settleUp_57 : decode cX11_settleUp 57 = .ok (.iinc 1 1, 3) := by decide +kernel
theorem dX11_settleUp_60 : decode cX11_settleUp 60 = .ok (.goto (-47), 3) := by decide +kernel
theorem dX11_settleUp_63 : decode cX11_settleUp 63 = .ok (.return_, 1) := by decide +kernel
theorem dX11_chooseLike_0 : decode cX11_chooseLike 0 = .ok (.aload_n 1, 1) := by decide +kernel
theorem dX11_chooseLike_1 : decode cX11_chooseLike 1 = .ok (.getfield 264, 3) := by decide +kernel
theorem dX11_chooseLike_4 : decode cX11_chooseLike 4 = .ok (.astore_n 2, 1) := by decide +kernel
theorem dX11_chooseLike_5 : decode cX11_chooseLike 5 = .ok (.aload_n 0, 1) := by decide +kernel
theorem dX11_chooseLike_6 : decode cX11_chooseLike 6 = .ok (.getfield 33, 3) := by decide +kernel
theorem dX11_chooseLike_9 : decode cX11_chooseLike 9 = .ok (.aload_n 2, 1) := by decide +kernel
theorem dX11_chooseLike_10 : decode cX11_chooseLike 10 = .ok (.aload_n 1, 1) := by decide +kernel
theorem dX11_chooseLike_11 : decode cX11_chooseLike 11 = .ok (.getfield 271, 3) := by decide +kernel
theorem dX11_chooseLike_14 : decode cX11_chooseLike 14 = .ok (.invokevirtual 236, 3) := by decide +kernel
theorem dX11_chooseLike_17 : decode cX11_chooseLike 17 = .ok (.istore_n 3, 1) := by decide +kernel
theorem dX11_chooseLike_18 : decode cX11_chooseLike 18 = .ok (.aload_n 0, 1) := by decide +kernel
theorem dX11_chooseLike_19 : decode cX11_chooseLike 19 = .ok (.getfield 54, 3) := by decide +kernel
theorem dX11_chooseLike_22 : decode cX11_chooseLike 22 = .ok (.iload_n 3, 1) := by decide +kernel
theorem dX11_chooseLike_23 : decode cX11_chooseLike 23 = .ok (.aload_n 0, 1) := by decide +kernel
theorem dX11_chooseLike_24 : decode cX11_chooseLike 24 = .ok (.aload_n 2, 1) := by decide +kernel
theorem dX11_chooseLike_25 : decode cX11_chooseLike 25 = .ok (.invokevirtual 218, 3) := by decide +kernel
theorem dX11_chooseLike_28 : decode cX11_chooseLike 28 = .ok (.aload_n 0, 1) := by decide +kernel
theorem dX11_chooseLike_29 : decode cX11_chooseLike 29 = .ok (.aload_n 2, 1) := by decide +kernel
theorem dX11_chooseLike_30 : decode cX11_chooseLike 30 = .ok (.invokevirtual 215, 3) := by decide +kernel
theorem dX11_chooseLike_33 : decode cX11_chooseLike 33 = .ok (.aload_n 0, 1) := by decide +kernel
theorem dX11_chooseLike_34 : decode cX11_chooseLike 34 = .ok (.aload_n 2, 1) := by decide +kernel
theorem dX11_chooseLike_35 : decode cX11_chooseLike 35 = .ok (.invokevirtual 374, 3) := by decide +kernel
theorem dX11_chooseLike_38 : decode cX11_chooseLike 38 = .ok (.invokevirtual 404, 3) := by decide +kernel
theorem dX11_chooseLike_41 : decode cX11_chooseLike 41 = .ok (.aload_n 0, 1) := by decide +kernel
theorem dX11_chooseLike_42 : decode cX11_chooseLike 42 = .ok (.getfield 54, 3) := by decide +kernel
theorem dX11_chooseLike_45 : decode cX11_chooseLike 45 = .ok (.aload_n 0, 1) := by decide +kernel
theorem dX11_chooseLike_46 : decode cX11_chooseLike 46 = .ok (.getfield 67, 3) := by decide +kernel
theorem dX11_chooseLike_49 : decode cX11_chooseLike 49 = .ok (.iconst 3, 1) := by decide +kernel
theorem dX11_chooseLike_50 : decode cX11_chooseLike 50 = .ok (.iaload, 1) := by decide +kernel
theorem dX11_chooseLike_51 : decode cX11_chooseLike 51 = .ok (.invokevirtual 408, 3) := by decide +kernel
theorem dX11_chooseLike_54 : decode cX11_chooseLike 54 = .ok (.return_, 1) := by decide +kernel
theorem dJ9_abs_0f7a4_0 : decode cJ9_abs_0f7a4 0 = .ok (.iload_n 0, 1) := by decide +kernel
theorem dJ9_abs_0f7a4_1 : decode cJ9_abs_0f7a4 1 = .ok (.ifCond .ge 8, 3) := by decide +kernel
theorem dJ9_abs_0f7a4_4 : decode cJ9_abs_0f7a4 4 = .ok (.iload_n 0, 1) := by decide +kernel
theorem dJ9_abs_0f7a4_5 : decode cJ9_abs_0f7a4 5 = .ok (.ineg, 1) := by decide +kernel
theorem dJ9_abs_0f7a4_6 : decode cJ9_abs_0f7a4 6 = .ok (.goto 4, 3) := by decide +kernel
theorem dJ9_abs_0f7a4_9 : decode cJ9_abs_0f7a4 9 = .ok (.iload_n 0, 1) := by decide +kernel
theorem dJ9_abs_0f7a4_10 : decode cJ9_abs_0f7a4 10 = .ok (.ireturn, 1) := by decide +kernel
theorem dJ9_max_7cf53_0 : decode cJ9_max_7cf53 0 = .ok (.iload_n 0, 1) := by decide +kernel
theorem dJ9_max_7cf53_1 : decode cJ9_max_7cf53 1 = .ok (.iload_n 1, 1) := by decide +kernel
theorem dJ9_max_7cf53_2 : decode cJ9_max_7cf53 2 = .ok (.if_icmp .lt 7, 3) := by decide +kernel
theorem dJ9_max_7cf53_5 : decode cJ9_max_7cf53 5 = .ok (.iload_n 0, 1) := by decide +kernel
theorem dJ9_max_7cf53_6 : decode cJ9_max_7cf53 6 = .ok (.goto 4, 3) := by decide +kernel
theorem dJ9_max_7cf53_9 : decode cJ9_max_7cf53 9 = .ok (.iload_n 1, 1) := by decide +kernel
theorem dJ9_max_7cf53_10 : decode cJ9_max_7cf53 10 = .ok (.ireturn, 1) := by decide +kernel
theorem dJ9_min_7cf53_0 : decode cJ9_min_7cf53 0 = .ok (.iload_n 0, 1) := by decide +kernel
theorem dJ9_min_7cf53_1 : decode cJ9_min_7cf53 1 = .ok (.iload_n 1, 1) := by decide +kernel
theorem dJ9_min_7cf53_2 : decode cJ9_min_7cf53 2 = .ok (.if_icmp .gt 7, 3) := by decide +kernel
theorem dJ9_min_7cf53_5 : decode cJ9_min_7cf53 5 = .ok (.iload_n 0, 1) := by decide +kernel
theorem dJ9_min_7cf53_6 : decode cJ9_min_7cf53 6 = .ok (.goto 4, 3) := by decide +kernel
theorem dJ9_min_7cf53_9 : decode cJ9_min_7cf53 9 = .ok (.iload_n 1, 1) := by decide +kernel
theorem dJ9_min_7cf53_10 : decode cJ9_min_7cf53 10 = .ok (.ireturn, 1) := by decide +kernel
theorem dJ7_fill_53178_0 : decode cJ7_fill_53178 0 = .ok (.iconst 0, 1) := by decide +kernel
theorem dJ7_fill_53178_1 : decode cJ7_fill_53178 1 = .ok (.istore_n 2, 1) := by decide +kernel
theorem dJ7_fill_53178_2 : decode cJ7_fill_53178 2 = .ok (.aload_n 0, 1) := by decide +kernel
theorem dJ7_fill_53178_3 : decode cJ7_fill_53178 3 = .ok (.arraylength, 1) := by decide +kernel
theorem dJ7_fill_53178_4 : decode cJ7_fill_53178 4 = .ok (.istore_n 3, 1) := by decide +kernel
theorem dJ7_fill_53178_5 : decode cJ7_fill_53178 5 = .ok (.iload_n 2, 1) := by decide +kernel
theorem dJ7_fill_53178_6 : decode cJ7_fill_53178 6 = .ok (.iload_n 3, 1) := by decide +kernel
theorem dJ7_fill_53178_7 : decode cJ7_fill_53178 7 = .ok (.if_icmp .ge 13, 3) := by decide +kernel
theorem dJ7_fill_53178_10 : decode cJ7_fill_53178 10 = .ok (.aload_n 0, 1) := by decide +kernel
theorem dJ7_fill_53178_11 : decode cJ7_fill_53178 11 = .ok (.iload_n 2, 1) := by decide +kernel
theorem dJ7_fill_53178_12 : decode cJ7_fill_53178 12 = .ok (.iload_n 1, 1) := by decide +kernel
theorem dJ7_fill_53178_13 : decode cJ7_fill_53178 13 = .ok (.iastore, 1) := by decide +kernel
theorem dJ7_fill_53178_14 : decode cJ7_fill_53178 14 = .ok (.iinc 2 1, 3) := by decide +kernel
theorem dJ7_fill_53178_17 : decode cJ7_fill_53178 17 = .ok (.goto (-12), 3) := by decide +kernel
theorem dJ7_fill_53178_20 : decode cJ7_fill_53178 20 = .ok (.return_, 1) := by decide +kernel
end
section
theorem dL_law_0 : decode cL_law 0 = .ok (.new 7, 3) := by decide +kernel
theorem dL_law_3 : decode cL_law 3 = .ok (.dup, 1) := by decide +kernel
theorem dL_law_4 : decode cL_law 4 = .ok (.invokespecial 9, 3) := by decide +kernel
theorem dL_law_7 : decode cL_law 7 = .ok (.astore_n 1, 1) := by decide +kernel
theorem dL_law_8 : decode cL_law 8 = .ok (.new 10, 3) := by decide +kernel
theorem dL_law_11 : decode cL_law 11 = .ok (.dup, 1) := by decide +kernel
theorem dL_law_12 : decode cL_law 12 = .ok (.invokespecial 12, 3) := by decide +kernel
theorem dL_law_15 : decode cL_law 15 = .ok (.astore_n 2, 1) := by decide +kernel
theorem dL_law_16 : decode cL_law 16 = .ok (.iconst 0, 1) := by decide +kernel
theorem dL_law_17 : decode cL_law 17 = .ok (.istore_n 3, 1) := by decide +kernel
theorem dL_law_18 : decode cL_law 18 = .ok (.iload_n 3, 1) := by decide +kernel
theorem dL_law_19 : decode cL_law 19 = .ok (.aload_n 0, 1) := by decide +kernel
theorem dL_law_20 : decode cL_law 20 = .ok (.arraylength, 1) := by decide +kernel
theorem dL_law_21 : decode cL_law 21 = .ok (.bipush 7, 2) := by decide +kernel
theorem dL_law_23 : decode cL_law 23 = .ok (.isub, 1) := by decide +kernel
theorem dL_law_24 : decode cL_law 24 = .ok (.if_icmp .gt 1457, 3) := by decide +kernel
theorem dL_law_27 : decode cL_law 27 = .ok (.aload_n 0, 1) := by decide +kernel
theorem dL_law_28 : decode cL_law 28 = .ok (.iload_n 3, 1) := by decide +kernel
theorem dL_law_29 : decode cL_law 29 = .ok (.iaload, 1) := by decide +kernel
theorem dL_law_30 : decode cL_law 30 = .ok (.bipush 63, 2) := by decide +kernel
theorem dL_law_32 : decode cL_law 32 = .ok (.iand, 1) := by decide +kernel
theorem dL_law_33 : decode cL_law 33 = .ok (.tableswitch 1442 0 34 #[155, 178, 211, 254, 297, 320, 395, 438, 471, 504, 537, 586, 619, 652, 675, 708, 731, 754, 777, 800, 863, 932, 975, 1008, 1051, 1074, 1107, 1150, 1193, 1226, 1249, 1262, 1353, 1386, 1419], 155) := by decide +kernel
theorem dL_law_188 : decode cL_law 188 = .ok (.aload_n 1, 1) := by decide +kernel
theorem dL_law_189 : decode cL_law 189 = .ok (.aload_n 0, 1) := by decide +kernel
theorem dL_law_190 : decode cL_law 190 = .ok (.iload_n 3, 1) := by decide +kernel
theorem dL_law_191 : decode cL_law 191 = .ok (.iconst 1, 1) := by decide +kernel
theorem dL_law_192 : decode cL_law 192 = .ok (.iadd, 1) := by decide +kernel
theorem dL_law_193 : decode cL_law 193 = .ok (.iaload, 1) := by decide +kernel
theorem dL_law_194 : decode cL_law 194 = .ok (.invokevirtual 13, 3) := by decide +kernel
theorem dL_law_197 : decode cL_law 197 = .ok (.pop, 1) := by decide +kernel
theorem dL_law_198 : decode cL_law 198 = .ok (.aload_n 2, 1) := by decide +kernel
theorem dL_law_199 : decode cL_law 199 = .ok (.aload_n 0, 1) := by decide +kernel
theorem dL_law_200 : decode cL_law 200 = .ok (.iload_n 3, 1) := by decide +kernel
theorem dL_law_201 : decode cL_law 201 = .ok (.iconst 1, 1) := by decide +kernel
theorem dL_law_202 : decode cL_law 202 = .ok (.iadd, 1) := by decide +kernel
theorem dL_law_203 : decode cL_law 203 = .ok (.iaload, 1) := by decide +kernel
theorem dL_law_204 : decode cL_law 204 = .ok (.invokevirtual 17, 3) := by decide +kernel
theorem dL_law_207 : decode cL_law 207 = .ok (.pop, 1) := by decide +kernel
theorem dL_law_208 : decode cL_law 208 = .ok (.goto 1267, 3) := by decide +kernel
theorem dL_law_211 : decode cL_law 211 = .ok (.aload_n 1, 1) := by decide +kernel
theorem dL_law_212 : decode cL_law 212 = .ok (.aload_n 0, 1) := by decide +kernel
theorem dL_law_213 : decode cL_law 213 = .ok (.iload_n 3, 1) := by decide +kernel
theorem dL_law_214 : decode cL_law 214 = .ok (.iconst 1, 1) := by decide +kernel
theorem dL_law_215 : decode cL_law 215 = .ok (.iadd, 1) := by decide +kernel
theorem dL_law_216 : decode cL_law 216 = .ok (.iaload, 1) := by decide +kernel
theorem dL_law_217 : decode cL_law 217 = .ok (.aload_n 0, 1) := by decide +kernel
theorem dL_law_218 : decode cL_law 218 = .ok (.iload_n 3, 1) := by decide +kernel
theorem dL_law_219 : decode cL_law 219 = .ok (.iconst 2, 1) := by decide +kernel
theorem dL_law_220 : decode cL_law 220 = .ok (.iadd, 1) := by decide +kernel
theorem dL_law_221 : decode cL_law 221 = .ok (.iaload, 1) := by decide +kernel
theorem dL_law_222 : decode cL_law 222 = .ok (.invokevirtual 18, 3) := by decide +kernel
theorem dL_law_225 : decode cL_law 225 = .ok (.aload_n 2, 1) := by decide +kernel
theorem dL_law_226 : decode cL_law 226 = .ok (.aload_n 0, 1) := by decide +kernel
theorem dL_law_227 : decode cL_law 227 = .ok (.iload_n 3, 1) := by decide +kernel
theorem dL_law_228 : decode cL_law 228 = .ok (.iconst 1, 1) := by decide +kernel
theorem dL_law_229 : decode cL_law 229 = .ok (.iadd, 1) := by decide +kernel
theorem dL_law_230 : decode cL_law 230 = .ok (.iaload, 1) := by decide +kernel
theorem dL_law_231 : decode cL_law 231 = .ok (.aload_n 0, 1) := by decide +kernel
theorem dL_law_232 : decode cL_law 232 = .ok (.iload_n 3, 1) := by decide +kernel
theorem dL_law_233 : decode cL_law 233 = .ok (.iconst 2, 1) := by decide +kernel
theorem dL_law_234 : decode cL_law 234 = .ok (.iadd, 1) := by decide +kernel
theorem dL_law_235 : decode cL_law 235 = .ok (.iaload, 1) := by decide +kernel
theorem dL_law_236 : decode cL_law 236 = .ok (.invokevirtual 22, 3) := by decide +kernel
theorem dL_law_239 : decode cL_law 239 = .ok (.if_icmp .eq 1236, 3) := by decide +kernel
theorem dL_law_242 : decode cL_law 242 = .ok (.iconst 0, 1) := by decide +kernel
theorem dL_law_243 : decode cL_law 243 = .ok (.ireturn, 1) := by decide +kernel
theorem dL_law_244 : decode cL_law 244 = .ok (.aload_n 1, 1) := by decide +kernel
theorem dL_law_245 : decode cL_law 245 = .ok (.aload_n 0, 1) := by decide +kernel
theorem dL_law_246 : decode cL_law 246 = .ok (.iload_n 3, 1) := by decide +kernel
theorem dL_law_247 : decode cL_law 247 = .ok (.iconst 1, 1) := by decide +kernel
theorem dL_law_248 : decode cL_law 248 = .ok (.iadd, 1) := by decide +kernel
theorem dL_law_249 : decode cL_law 249 = .ok (.iaload, 1) := by decide +kernel
theorem dL_law_250 : decode cL_law 250 = .ok (.aload_n 0, 1) := by decide +kernel
theorem dL_law_251 : decode cL_law 251 = .ok (.iload_n 3, 1) := by decide +kernel
theorem dL_law_252 : decode cL_law 252 = .ok (.iconst 2, 1) := by decide +kernel
theorem dL_law_253 : decode cL_law 253 = .ok (.iadd, 1) := by decide +kernel
theorem dL_law_254 : decode cL_law 254 = .ok (.iaload, 1) := by decide +kernel
theorem dL_law_255 : decode cL_law 255 = .ok (.aload_n 0, 1) := by decide +kernel
theorem dL_law_256 : decode cL_law 256 = .ok (.iload_n 3, 1) := by decide +kernel
theorem dL_law_257 : decode cL_law 257 = .ok (.iconst 3, 1) := by decide +kernel
theorem dL_law_258 : decode cL_law 258 = .ok (.iadd, 1) := by decide +kernel
theorem dL_law_259 : decode cL_law 259 = .ok (.iaload, 1) := by decide +kernel
theorem dL_law_260 : decode cL_law 260 = .ok (.invokevirtual 23, 3) := by decide +kernel
theorem dL_law_263 : decode cL_law 263 = .ok (.pop, 1) := by decide +kernel
theorem dL_law_264 : decode cL_law 264 = .ok (.aload_n 2, 1) := by decide +kernel
theorem dL_law_265 : decode cL_law 265 = .ok (.aload_n 0, 1) := by decide +kernel
theorem dL_law_266 : decode cL_law 266 = .ok (.iload_n 3, 1) := by decide +kernel
theorem dL_law_267 : decode cL_law 267 = .ok (.iconst 1, 1) := by decide +kernel
theorem dL_law_268 : decode cL_law 268 = .ok (.iadd, 1) := by decide +kernel
theorem dL_law_269 : decode cL_law 269 = .ok (.iaload, 1) := by decide +kernel
theorem dL_law_270 : decode cL_law 270 = .ok (.aload_n 0, 1) := by decide +kernel
theorem dL_law_271 : decode cL_law 271 = .ok (.iload_n 3, 1) := by decide +kernel
theorem dL_law_272 : decode cL_law 272 = .ok (.iconst 2, 1) := by decide +kernel
theorem dL_law_273 : decode cL_law 273 = .ok (.iadd, 1) := by decide +kernel
theorem dL_law_274 : decode cL_law 274 = .ok (.iaload, 1) := by decide +kernel
theorem dL_law_275 : decode cL_law 275 = .ok (.aload_n 0, 1) := by decide +kernel
theorem dL_law_276 : decode cL_law 276 = .ok (.iload_n 3, 1) := by decide +kernel
theorem dL_law_277 : decode cL_law 277 = .ok (.iconst 3, 1) := by decide +kernel
theorem dL_law_278 : decode cL_law 278 = .ok (.iadd, 1) := by decide +kernel
theorem dL_law_279 : decode cL_law 279 = .ok (.iaload, 1) := by decide +kernel
theorem dL_law_280 : decode cL_law 280 = .ok (.invokevirtual 27, 3) := by decide +kernel
theorem dL_law_283 : decode cL_law 283 = .ok (.pop, 1) := by decide +kernel
theorem dL_law_284 : decode cL_law 284 = .ok (.goto 1191, 3) := by decide +kernel
theorem dL_law_287 : decode cL_law 287 = .ok (.aload_n 1, 1) := by decide +kernel
theorem dL_law_288 : decode cL_law 288 = .ok (.aload_n 0, 1) := by decide +kernel
theorem dL_law_289 : decode cL_law 289 = .ok (.iload_n 3, 1) := by decide +kernel
theorem dL_law_290 : decode cL_law 290 = .ok (.iconst 1, 1) := by decide +kernel
theorem dL_law_291 : decode cL_law 291 = .ok (.iadd, 1) := by decide +kernel
theorem dL_law_292 : decode cL_law 292 = .ok (.iaload, 1) := by decide +kernel
theorem dL_law_293 : decode cL_law 293 = .ok (.aload_n 0, 1) := by decide +kernel
theorem dL_law_294 : decode cL_law 294 = .ok (.iload_n 3, 1) := by decide +kernel
theorem dL_law_295 : decode cL_law 295 = .ok (.iconst 2, 1) := by decide +kernel
theorem dL_law_296 : decode cL_law 296 = .ok (.iadd, 1) := by decide +kernel
theorem dL_law_297 : decode cL_law 297 = .ok (.iaload, 1) := by decide +kernel
theorem dL_law_298 : decode cL_law 298 = .ok (.aload_n 0, 1) := by decide +kernel
theorem dL_law_299 : decode cL_law 299 = .ok (.iload_n 3, 1) := by decide +kernel
theorem dL_law_300 : decode cL_law 300 = .ok (.iconst 3, 1) := by decide +kernel
theorem dL_law_301 : decode cL_law 301 = .ok (.iadd, 1) := by decide +kernel
theorem dL_law_302 : decode cL_law 302 = .ok (.iaload, 1) := by decide +kernel
theorem dL_law_303 : decode cL_law 303 = .ok (.invokevirtual 28, 3) := by decide +kernel
theorem dL_law_306 : decode cL_law 306 = .ok (.pop, 1) := by decide +kernel
theorem dL_law_307 : decode cL_law 307 = .ok (.aload_n 2, 1) := by decide +kernel
theorem dL_law_308 : decode cL_law 308 = .ok (.aload_n 0, 1) := by decide +kernel
theorem dL_law_309 : decode cL_law 309 = .ok (.iload_n 3, 1) := by decide +kernel
theorem dL_law_310 : decode cL_law 310 = .ok (.iconst 1, 1) := by decide +kernel
theorem dL_law_311 : decode cL_law 311 = .ok (.iadd, 1) := by decide +kernel
theorem dL_law_312 : decode cL_law 312 = .ok (.iaload, 1) := by decide +kernel
theorem dL_law_313 : decode cL_law 313 = .ok (.aload_n 0, 1) := by decide +kernel
theorem dL_law_314 : decode cL_law 314 = .ok (.iload_n 3, 1) := by decide +kernel
theorem dL_law_315 : decode cL_law 315 = .ok (.iconst 2, 1) := by decide +kernel
theorem dL_law_316 : decode cL_law 316 = .ok (.iadd, 1) := by decide +kernel
theorem dL_law_317 : decode cL_law 317 = .ok (.iaload, 1) := by decide +kernel
theorem dL_law_318 : decode cL_law 318 = .ok (.aload_n 0, 1) := by decide +kernel
theorem dL_law_319 : decode cL_law 319 = .ok (.iload_n 3, 1) := by decide +kernel
theorem dL_law_320 : decode cL_law 320 = .ok (.iconst 3, 1) := by decide +kernel
theorem dL_law_321 : decode cL_law 321 = .ok (.iadd, 1) := by decide +kernel
theorem dL_law_322 : decode cL_law 322 = .ok (.iaload, 1) := by decide +kernel
theorem dL_law_323 : decode cL_law 323 = .ok (.invokevirtual 31, 3) := by decide +kernel
theorem dL_law_326 : decode cL_law 326 = .ok (.pop, 1) := by decide +kernel
theorem dL_law_327 : decode cL_law 327 = .ok (.goto 1148, 3) := by decide +kernel
theorem dL_law_330 : decode cL_law 330 = .ok (.aload_n 1, 1) := by decide +kernel
theorem dL_law_331 : decode cL_law 331 = .ok (.aload_n 0, 1) := by decide +kernel
theorem dL_law_332 : decode cL_law 332 = .ok (.iload_n 3, 1) := by decide +kernel
theorem dL_law_333 : decode cL_law 333 = .ok (.iconst 1, 1) := by decide +kernel
theorem dL_law_334 : decode cL_law 334 = .ok (.iadd, 1) := by decide +kernel
theorem dL_law_335 : decode cL_law 335 = .ok (.iaload, 1) := by decide +kernel
theorem dL_law_336 : decode cL_law 336 = .ok (.invokevirtual 32, 3) := by decide +kernel
theorem dL_law_339 : decode cL_law 339 = .ok (.pop, 1) := by decide +kernel
theorem dL_law_340 : decode cL_law 340 = .ok (.aload_n 2, 1) := by decide +kernel
theorem dL_law_341 : decode cL_law 341 = .ok (.aload_n 0, 1) := by decide +kernel
theorem dL_law_342 : decode cL_law 342 = .ok (.iload_n 3, 1) := by decide +kernel
theorem dL_law_343 : decode cL_law 343 = .ok (.iconst 1, 1) := by decide +kernel
theorem dL_law_344 : decode cL_law 344 = .ok (.iadd, 1) := by decide +kernel
theorem dL_law_345 : decode cL_law 345 = .ok (.iaload, 1) := by decide +kernel
theorem dL_law_346 : decode cL_law 346 = .ok (.invokevirtual 35, 3) := by decide +kernel
theorem dL_law_349 : decode cL_law 349 = .ok (.pop, 1) := by decide +kernel
theorem dL_law_350 : decode cL_law 350 = .ok (.goto 1125, 3) := by decide +kernel
theorem dL_law_353 : decode cL_law 353 = .ok (.aload_n 1, 1) := by decide +kernel
theorem dL_law_354 : decode cL_law 354 = .ok (.aload_n 0, 1) := by decide +kernel
theorem dL_law_355 : decode cL_law 355 = .ok (.iload_n 3, 1) := by decide +kernel
theorem dL_law_356 : decode cL_law 356 = .ok (.iconst 1, 1) := by decide +kernel
theorem dL_law_357 : decode cL_law 357 = .ok (.iadd, 1) := by decide +kernel
theorem dL_law_358 : decode cL_law 358 = .ok (.iaload, 1) := by decide +kernel
theorem dL_law_359 : decode cL_law 359 = .ok (.aload_n 0, 1) := by decide +kernel
theorem dL_law_360 : decode cL_law 360 = .ok (.iload_n 3, 1) := by decide +kernel
theorem dL_law_361 : decode cL_law 361 = .ok (.iconst 2, 1) := by decide +kernel
theorem dL_law_362 : decode cL_law 362 = .ok (.iadd, 1) := by decide +kernel
theorem dL_law_363 : decode cL_law 363 = .ok (.iaload, 1) := by decide +kernel
theorem dL_law_364 : decode cL_law 364 = .ok (.aload_n 0, 1) := by decide +kernel
theorem dL_law_365 : decode cL_law 365 = .ok (.iload_n 3, 1) := by decide +kernel
theorem dL_law_366 : decode cL_law 366 = .ok (.iconst 3, 1) := by decide +kernel
theorem dL_law_367 : decode cL_law 367 = .ok (.iadd, 1) := by decide +kernel
theorem dL_law_368 : decode cL_law 368 = .ok (.iaload, 1) := by decide +kernel
theorem dL_law_369 : decode cL_law 369 = .ok (.aload_n 0, 1) := by decide +kernel
theorem dL_law_370 : decode cL_law 370 = .ok (.iload_n 3, 1) := by decide +kernel
theorem dL_law_371 : decode cL_law 371 = .ok (.iconst 4, 1) := by decide +kernel
theorem dL_law_372 : decode cL_law 372 = .ok (.iadd, 1) := by decide +kernel
theorem dL_law_373 : decode cL_law 373 = .ok (.iaload, 1) := by decide +kernel
theorem dL_law_374 : decode cL_law 374 = .ok (.aload_n 0, 1) := by decide +kernel
theorem dL_law_375 : decode cL_law 375 = .ok (.iload_n 3, 1) := by decide +kernel
theorem dL_law_376 : decode cL_law 376 = .ok (.iconst 5, 1) := by decide +kernel
theorem dL_law_377 : decode cL_law 377 = .ok (.iadd, 1) := by decide +kernel
theorem dL_law_378 : decode cL_law 378 = .ok (.iaload, 1) := by decide +kernel
theorem dL_law_379 : decode cL_law 379 = .ok (.aload_n 0, 1) := by decide +kernel
theorem dL_law_380 : decode cL_law 380 = .ok (.iload_n 3, 1) := by decide +kernel
theorem dL_law_381 : decode cL_law 381 = .ok (.bipush 6, 2) := by decide +kernel
theorem dL_law_383 : decode cL_law 383 = .ok (.iadd, 1) := by decide +kernel
theorem dL_law_384 : decode cL_law 384 = .ok (.iaload, 1) := by decide +kernel
theorem dL_law_385 : decode cL_law 385 = .ok (.invokevirtual 36, 3) := by decide +kernel
theorem dL_law_388 : decode cL_law 388 = .ok (.pop, 1) := by decide +kernel
theorem dL_law_389 : decode cL_law 389 = .ok (.aload_n 2, 1) := by decide +kernel
theorem dL_law_390 : decode cL_law 390 = .ok (.aload_n 0, 1) := by decide +kernel
theorem dL_law_391 : decode cL_law 391 = .ok (.iload_n 3, 1) := by decide +kernel
theorem dL_law_392 : decode cL_law 392 = .ok (.iconst 1, 1) := by decide +kernel
theorem dL_law_393 : decode cL_law 393 = .ok (.iadd, 1) := by decide +kernel
theorem dL_law_394 : decode cL_law 394 = .ok (.iaload, 1) := by decide +kernel
theorem dL_law_395 : decode cL_law 395 = .ok (.aload_n 0, 1) := by decide +kernel
theorem dL_law_396 : decode cL_law 396 = .ok (.iload_n 3, 1) := by decide +kernel
theorem dL_law_397 : decode cL_law 397 = .ok (.iconst 2, 1) := by decide +kernel
theorem dL_law_398 : decode cL_law 398 = .ok (.iadd, 1) := by decide +kernel
theorem dL_law_399 : decode cL_law 399 = .ok (.iaload, 1) := by decide +kernel
theorem dL_law_400 : decode cL_law 400 = .ok (.aload_n 0, 1) := by decide +kernel
theorem dL_law_401 : decode cL_law 401 = .ok (.iload_n 3, 1) := by decide +kernel
theorem dL_law_402 : decode cL_law 402 = .ok (.iconst 3, 1) := by decide +kernel
theorem dL_law_403 : decode cL_law 403 = .ok (.iadd, 1) := by decide +kernel
theorem dL_law_404 : decode cL_law 404 = .ok (.iaload, 1) := by decide +kernel
theorem dL_law_405 : decode cL_law 405 = .ok (.aload_n 0, 1) := by decide +kernel
theorem dL_law_406 : decode cL_law 406 = .ok (.iload_n 3, 1) := by decide +kernel
theorem dL_law_407 : decode cL_law 407 = .ok (.iconst 4, 1) := by decide +kernel
theorem dL_law_408 : decode cL_law 408 = .ok (.iadd, 1) := by decide +kernel
theorem dL_law_409 : decode cL_law 409 = .ok (.iaload, 1) := by decide +kernel
theorem dL_law_410 : decode cL_law 410 = .ok (.aload_n 0, 1) := by decide +kernel
theorem dL_law_411 : decode cL_law 411 = .ok (.iload_n 3, 1) := by decide +kernel
theorem dL_law_412 : decode cL_law 412 = .ok (.iconst 5, 1) := by decide +kernel
theorem dL_law_413 : decode cL_law 413 = .ok (.iadd, 1) := by decide +kernel
theorem dL_law_414 : decode cL_law 414 = .ok (.iaload, 1) := by decide +kernel
theorem dL_law_415 : decode cL_law 415 = .ok (.aload_n 0, 1) := by decide +kernel
theorem dL_law_416 : decode cL_law 416 = .ok (.iload_n 3, 1) := by decide +kernel
theorem dL_law_417 : decode cL_law 417 = .ok (.bipush 6, 2) := by decide +kernel
theorem dL_law_419 : decode cL_law 419 = .ok (.iadd, 1) := by decide +kernel
theorem dL_law_420 : decode cL_law 420 = .ok (.iaload, 1) := by decide +kernel
theorem dL_law_421 : decode cL_law 421 = .ok (.invokevirtual 40, 3) := by decide +kernel
theorem dL_law_424 : decode cL_law 424 = .ok (.pop, 1) := by decide +kernel
theorem dL_law_425 : decode cL_law 425 = .ok (.goto 1050, 3) := by decide +kernel
theorem dL_law_428 : decode cL_law 428 = .ok (.aload_n 1, 1) := by decide +kernel
theorem dL_law_429 : decode cL_law 429 = .ok (.aload_n 0, 1) := by decide +kernel
theorem dL_law_430 : decode cL_law 430 = .ok (.iload_n 3, 1) := by decide +kernel
theorem dL_law_431 : decode cL_law 431 = .ok (.iconst 1, 1) := by decide +kernel
theorem dL_law_432 : decode cL_law 432 = .ok (.iadd, 1) := by decide +kernel
theorem dL_law_433 : decode cL_law 433 = .ok (.iaload, 1) := by decide +kernel
theorem dL_law_434 : decode cL_law 434 = .ok (.aload_n 0, 1) := by decide +kernel
theorem dL_law_435 : decode cL_law 435 = .ok (.iload_n 3, 1) := by decide +kernel
theorem dL_law_436 : decode cL_law 436 = .ok (.iconst 2, 1) := by decide +kernel
theorem dL_law_437 : decode cL_law 437 = .ok (.iadd, 1) := by decide +kernel
theorem dL_law_438 : decode cL_law 438 = .ok (.iaload, 1) := by decide +kernel
theorem dL_law_439 : decode cL_law 439 = .ok (.aload_n 0, 1) := by decide +kernel
theorem dL_law_440 : decode cL_law 440 = .ok (.iload_n 3, 1) := by decide +kernel
theorem dL_law_441 : decode cL_law 441 = .ok (.iconst 3, 1) := by decide +kernel
theorem dL_law_442 : decode cL_law 442 = .ok (.iadd, 1) := by decide +kernel
theorem dL_law_443 : decode cL_law 443 = .ok (.iaload, 1) := by decide +kernel
theorem dL_law_444 : decode cL_law 444 = .ok (.invokevirtual 41, 3) := by decide +kernel
theorem dL_law_447 : decode cL_law 447 = .ok (.pop, 1) := by decide +kernel
theorem dL_law_448 : decode cL_law 448 = .ok (.aload_n 2, 1) := by decide +kernel
theorem dL_law_449 : decode cL_law 449 = .ok (.aload_n 0, 1) := by decide +kernel
theorem dL_law_450 : decode cL_law 450 = .ok (.iload_n 3, 1) := by decide +kernel
theorem dL_law_451 : decode cL_law 451 = .ok (.iconst 1, 1) := by decide +kernel
theorem dL_law_452 : decode cL_law 452 = .ok (.iadd, 1) := by decide +kernel
theorem dL_law_453 : decode cL_law 453 = .ok (.iaload, 1) := by decide +kernel
theorem dL_law_454 : decode cL_law 454 = .ok (.aload_n 0, 1) := by decide +kernel
theorem dL_law_455 : decode cL_law 455 = .ok (.iload_n 3, 1) := by decide +kernel
theorem dL_law_456 : decode cL_law 456 = .ok (.iconst 2, 1) := by decide +kernel
theorem dL_law_457 : decode cL_law 457 = .ok (.iadd, 1) := by decide +kernel
theorem dL_law_458 : decode cL_law 458 = .ok (.iaload, 1) := by decide +kernel
theorem dL_law_459 : decode cL_law 459 = .ok (.aload_n 0, 1) := by decide +kernel
theorem dL_law_460 : decode cL_law 460 = .ok (.iload_n 3, 1) := by decide +kernel
theorem dL_law_461 : decode cL_law 461 = .ok (.iconst 3, 1) := by decide +kernel
theorem dL_law_462 : decode cL_law 462 = .ok (.iadd, 1) := by decide +kernel
theorem dL_law_463 : decode cL_law 463 = .ok (.iaload, 1) := by decide +kernel
theorem dL_law_464 : decode cL_law 464 = .ok (.invokevirtual 44, 3) := by decide +kernel
theorem dL_law_467 : decode cL_law 467 = .ok (.pop, 1) := by decide +kernel
theorem dL_law_468 : decode cL_law 468 = .ok (.goto 1007, 3) := by decide +kernel
theorem dL_law_471 : decode cL_law 471 = .ok (.aload_n 1, 1) := by decide +kernel
theorem dL_law_472 : decode cL_law 472 = .ok (.aload_n 0, 1) := by decide +kernel
theorem dL_law_473 : decode cL_law 473 = .ok (.iload_n 3, 1) := by decide +kernel
theorem dL_law_474 : decode cL_law 474 = .ok (.iconst 1, 1) := by decide +kernel
theorem dL_law_475 : decode cL_law 475 = .ok (.iadd, 1) := by decide +kernel
theorem dL_law_476 : decode cL_law 476 = .ok (.iaload, 1) := by decide +kernel
theorem dL_law_477 : decode cL_law 477 = .ok (.aload_n 0, 1) := by decide +kernel
theorem dL_law_478 : decode cL_law 478 = .ok (.iload_n 3, 1) := by decide +kernel
theorem dL_law_479 : decode cL_law 479 = .ok (.iconst 2, 1) := by decide +kernel
theorem dL_law_480 : decode cL_law 480 = .ok (.iadd, 1) := by decide +kernel
theorem dL_law_481 : decode cL_law 481 = .ok (.iaload, 1) := by decide +kernel
theorem dL_law_482 : decode cL_law 482 = .ok (.invokevirtual 45, 3) := by decide +kernel
theorem dL_law_485 : decode cL_law 485 = .ok (.pop, 1) := by decide +kernel
theorem dL_law_486 : decode cL_law 486 = .ok (.aload_n 2, 1) := by decide +kernel
theorem dL_law_487 : decode cL_law 487 = .ok (.aload_n 0, 1) := by decide +kernel
theorem dL_law_488 : decode cL_law 488 = .ok (.iload_n 3, 1) := by decide +kernel
theorem dL_law_489 : decode cL_law 489 = .ok (.iconst 1, 1) := by decide +kernel
theorem dL_law_490 : decode cL_law 490 = .ok (.iadd, 1) := by decide +kernel
theorem dL_law_491 : decode cL_law 491 = .ok (.iaload, 1) := by decide +kernel
theorem dL_law_492 : decode cL_law 492 = .ok (.aload_n 0, 1) := by decide +kernel
theorem dL_law_493 : decode cL_law 493 = .ok (.iload_n 3, 1) := by decide +kernel
theorem dL_law_494 : decode cL_law 494 = .ok (.iconst 2, 1) := by decide +kernel
theorem dL_law_495 : decode cL_law 495 = .ok (.iadd, 1) := by decide +kernel
theorem dL_law_496 : decode cL_law 496 = .ok (.iaload, 1) := by decide +kernel
theorem dL_law_497 : decode cL_law 497 = .ok (.invokevirtual 48, 3) := by decide +kernel
theorem dL_law_500 : decode cL_law 500 = .ok (.pop, 1) := by decide +kernel
theorem dL_law_501 : decode cL_law 501 = .ok (.goto 974, 3) := by decide +kernel
theorem dL_law_504 : decode cL_law 504 = .ok (.aload_n 1, 1) := by decide +kernel
theorem dL_law_505 : decode cL_law 505 = .ok (.aload_n 0, 1) := by decide +kernel
theorem dL_law_506 : decode cL_law 506 = .ok (.iload_n 3, 1) := by decide +kernel
theorem dL_law_507 : decode cL_law 507 = .ok (.iconst 1, 1) := by decide +kernel
theorem dL_law_508 : decode cL_law 508 = .ok (.iadd, 1) := by decide +kernel
theorem dL_law_509 : decode cL_law 509 = .ok (.iaload, 1) := by decide +kernel
theorem dL_law_510 : decode cL_law 510 = .ok (.aload_n 0, 1) := by decide +kernel
theorem dL_law_511 : decode cL_law 511 = .ok (.iload_n 3, 1) := by decide +kernel
theorem dL_law_512 : decode cL_law 512 = .ok (.iconst 2, 1) := by decide +kernel
theorem dL_law_513 : decode cL_law 513 = .ok (.iadd, 1) := by decide +kernel
theorem dL_law_514 : decode cL_law 514 = .ok (.iaload, 1) := by decide +kernel
theorem dL_law_515 : decode cL_law 515 = .ok (.invokevirtual 49, 3) := by decide +kernel
theorem dL_law_518 : decode cL_law 518 = .ok (.pop, 1) := by decide +kernel
theorem dL_law_519 : decode cL_law 519 = .ok (.aload_n 2, 1) := by decide +kernel
theorem dL_law_520 : decode cL_law 520 = .ok (.aload_n 0, 1) := by decide +kernel
theorem dL_law_521 : decode cL_law 521 = .ok (.iload_n 3, 1) := by decide +kernel
theorem dL_law_522 : decode cL_law 522 = .ok (.iconst 1, 1) := by decide +kernel
theorem dL_law_523 : decode cL_law 523 = .ok (.iadd, 1) := by decide +kernel
theorem dL_law_524 : decode cL_law 524 = .ok (.iaload, 1) := by decide +kernel
theorem dL_law_525 : decode cL_law 525 = .ok (.aload_n 0, 1) := by decide +kernel
theorem dL_law_526 : decode cL_law 526 = .ok (.iload_n 3, 1) := by decide +kernel
theorem dL_law_527 : decode cL_law 527 = .ok (.iconst 2, 1) := by decide +kernel
theorem dL_law_528 : decode cL_law 528 = .ok (.iadd, 1) := by decide +kernel
theorem dL_law_529 : decode cL_law 529 = .ok (.iaload, 1) := by decide +kernel
theorem dL_law_530 : decode cL_law 530 = .ok (.invokevirtual 52, 3) := by decide +kernel
theorem dL_law_533 : decode cL_law 533 = .ok (.pop, 1) := by decide +kernel
theorem dL_law_534 : decode cL_law 534 = .ok (.goto 941, 3) := by decide +kernel
theorem dL_law_537 : decode cL_law 537 = .ok (.aload_n 1, 1) := by decide +kernel
theorem dL_law_538 : decode cL_law 538 = .ok (.aload_n 0, 1) := by decide +kernel
theorem dL_law_539 : decode cL_law 539 = .ok (.iload_n 3, 1) := by decide +kernel
theorem dL_law_540 : decode cL_law 540 = .ok (.iconst 1, 1) := by decide +kernel
theorem dL_law_541 : decode cL_law 541 = .ok (.iadd, 1) := by decide +kernel
theorem dL_law_542 : decode cL_law 542 = .ok (.iaload, 1) := by decide +kernel
theorem dL_law_543 : decode cL_law 543 = .ok (.aload_n 0, 1) := by decide +kernel
theorem dL_law_544 : decode cL_law 544 = .ok (.iload_n 3, 1) := by decide +kernel
theorem dL_law_545 : decode cL_law 545 = .ok (.iconst 2, 1) := by decide +kernel
theorem dL_law_546 : decode cL_law 546 = .ok (.iadd, 1) := by decide +kernel
theorem dL_law_547 : decode cL_law 547 = .ok (.iaload, 1) := by decide +kernel
theorem dL_law_548 : decode cL_law 548 = .ok (.invokevirtual 53, 3) := by decide +kernel
theorem dL_law_551 : decode cL_law 551 = .ok (.pop, 1) := by decide +kernel
theorem dL_law_552 : decode cL_law 552 = .ok (.aload_n 2, 1) := by decide +kernel
theorem dL_law_553 : decode cL_law 553 = .ok (.aload_n 0, 1) := by decide +kernel
theorem dL_law_554 : decode cL_law 554 = .ok (.iload_n 3, 1) := by decide +kernel
theorem dL_law_555 : decode cL_law 555 = .ok (.iconst 1, 1) := by decide +kernel
theorem dL_law_556 : decode cL_law 556 = .ok (.iadd, 1) := by decide +kernel
theorem dL_law_557 : decode cL_law 557 = .ok (.iaload, 1) := by decide +kernel
theorem dL_law_558 : decode cL_law 558 = .ok (.aload_n 0, 1) := by decide +kernel
theorem dL_law_559 : decode cL_law 559 = .ok (.iload_n 3, 1) := by decide +kernel
theorem dL_law_560 : decode cL_law 560 = .ok (.iconst 2, 1) := by decide +kernel
theorem dL_law_561 : decode cL_law 561 = .ok (.iadd, 1) := by decide +kernel
theorem dL_law_562 : decode cL_law 562 = .ok (.iaload, 1) := by decide +kernel
theorem dL_law_563 : decode cL_law 563 = .ok (.invokevirtual 56, 3) := by decide +kernel
theorem dL_law_566 : decode cL_law 566 = .ok (.pop, 1) := by decide +kernel
theorem dL_law_567 : decode cL_law 567 = .ok (.goto 908, 3) := by decide +kernel
theorem dL_law_570 : decode cL_law 570 = .ok (.aload_n 1, 1) := by decide +kernel
theorem dL_law_571 : decode cL_law 571 = .ok (.aload_n 0, 1) := by decide +kernel
theorem dL_law_572 : decode cL_law 572 = .ok (.iload_n 3, 1) := by decide +kernel
theorem dL_law_573 : decode cL_law 573 = .ok (.iconst 1, 1) := by decide +kernel
theorem dL_law_574 : decode cL_law 574 = .ok (.iadd, 1) := by decide +kernel
theorem dL_law_575 : decode cL_law 575 = .ok (.iaload, 1) := by decide +kernel
theorem dL_law_576 : decode cL_law 576 = .ok (.aload_n 0, 1) := by decide +kernel
theorem dL_law_577 : decode cL_law 577 = .ok (.iload_n 3, 1) := by decide +kernel
theorem dL_law_578 : decode cL_law 578 = .ok (.iconst 2, 1) := by decide +kernel
theorem dL_law_579 : decode cL_law 579 = .ok (.iadd, 1) := by decide +kernel
theorem dL_law_580 : decode cL_law 580 = .ok (.iaload, 1) := by decide +kernel
theorem dL_law_581 : decode cL_law 581 = .ok (.ifCond .eq 7, 3) := by decide +kernel
theorem dL_law_584 : decode cL_law 584 = .ok (.iconst 1, 1) := by decide +kernel
theorem dL_law_585 : decode cL_law 585 = .ok (.goto 4, 3) := by decide +kernel
theorem dL_law_588 : decode cL_law 588 = .ok (.iconst 0, 1) := by decide +kernel
theorem dL_law_589 : decode cL_law 589 = .ok (.invokevirtual 57, 3) := by decide +kernel
theorem dL_law_592 : decode cL_law 592 = .ok (.pop, 1) := by decide +kernel
theorem dL_law_593 : decode cL_law 593 = .ok (.aload_n 2, 1) := by decide +kernel
theorem dL_law_594 : decode cL_law 594 = .ok (.aload_n 0, 1) := by decide +kernel
theorem dL_law_595 : decode cL_law 595 = .ok (.iload_n 3, 1) := by decide +kernel
theorem dL_law_596 : decode cL_law 596 = .ok (.iconst 1, 1) := by decide +kernel
theorem dL_law_597 : decode cL_law 597 = .ok (.iadd, 1) := by decide +kernel
theorem dL_law_598 : decode cL_law 598 = .ok (.iaload, 1) := by decide +kernel
theorem dL_law_599 : decode cL_law 599 = .ok (.aload_n 0, 1) := by decide +kernel
theorem dL_law_600 : decode cL_law 600 = .ok (.iload_n 3, 1) := by decide +kernel
theorem dL_law_601 : decode cL_law 601 = .ok (.iconst 2, 1) := by decide +kernel
theorem dL_law_602 : decode cL_law 602 = .ok (.iadd, 1) := by decide +kernel
theorem dL_law_603 : decode cL_law 603 = .ok (.iaload, 1) := by decide +kernel
theorem dL_law_604 : decode cL_law 604 = .ok (.ifCond .eq 7, 3) := by decide +kernel
theorem dL_law_607 : decode cL_law 607 = .ok (.iconst 1, 1) := by decide +kernel
theorem dL_law_608 : decode cL_law 608 = .ok (.goto 4, 3) := by decide +kernel
theorem dL_law_611 : decode cL_law 611 = .ok (.iconst 0, 1) := by decide +kernel
theorem dL_law_612 : decode cL_law 612 = .ok (.invokevirtual 61, 3) := by decide +kernel
theorem dL_law_615 : decode cL_law 615 = .ok (.pop, 1) := by decide +kernel
theorem dL_law_616 : decode cL_law 616 = .ok (.goto 859, 3) := by decide +kernel
theorem dL_law_619 : decode cL_law 619 = .ok (.aload_n 1, 1) := by decide +kernel
theorem dL_law_620 : decode cL_law 620 = .ok (.aload_n 0, 1) := by decide +kernel
theorem dL_law_621 : decode cL_law 621 = .ok (.iload_n 3, 1) := by decide +kernel
theorem dL_law_622 : decode cL_law 622 = .ok (.iconst 1, 1) := by decide +kernel
theorem dL_law_623 : decode cL_law 623 = .ok (.iadd, 1) := by decide +kernel
theorem dL_law_624 : decode cL_law 624 = .ok (.iaload, 1) := by decide +kernel
theorem dL_law_625 : decode cL_law 625 = .ok (.aload_n 0, 1) := by decide +kernel
theorem dL_law_626 : decode cL_law 626 = .ok (.iload_n 3, 1) := by decide +kernel
theorem dL_law_627 : decode cL_law 627 = .ok (.iconst 2, 1) := by decide +kernel
theorem dL_law_628 : decode cL_law 628 = .ok (.iadd, 1) := by decide +kernel
theorem dL_law_629 : decode cL_law 629 = .ok (.iaload, 1) := by decide +kernel
theorem dL_law_630 : decode cL_law 630 = .ok (.invokevirtual 62, 3) := by decide +kernel
theorem dL_law_633 : decode cL_law 633 = .ok (.pop, 1) := by decide +kernel
theorem dL_law_634 : decode cL_law 634 = .ok (.aload_n 2, 1) := by decide +kernel
theorem dL_law_635 : decode cL_law 635 = .ok (.aload_n 0, 1) := by decide +kernel
theorem dL_law_636 : decode cL_law 636 = .ok (.iload_n 3, 1) := by decide +kernel
theorem dL_law_637 : decode cL_law 637 = .ok (.iconst 1, 1) := by decide +kernel
theorem dL_law_638 : decode cL_law 638 = .ok (.iadd, 1) := by decide +kernel
theorem dL_law_639 : decode cL_law 639 = .ok (.iaload, 1) := by decide +kernel
theorem dL_law_640 : decode cL_law 640 = .ok (.aload_n 0, 1) := by decide +kernel
theorem dL_law_641 : decode cL_law 641 = .ok (.iload_n 3, 1) := by decide +kernel
theorem dL_law_642 : decode cL_law 642 = .ok (.iconst 2, 1) := by decide +kernel
theorem dL_law_643 : decode cL_law 643 = .ok (.iadd, 1) := by decide +kernel
theorem dL_law_644 : decode cL_law 644 = .ok (.iaload, 1) := by decide +kernel
theorem dL_law_645 : decode cL_law 645 = .ok (.invokevirtual 65, 3) := by decide +kernel
theorem dL_law_648 : decode cL_law 648 = .ok (.pop, 1) := by decide +kernel
theorem dL_law_649 : decode cL_law 649 = .ok (.goto 826, 3) := by decide +kernel
theorem dL_law_652 : decode cL_law 652 = .ok (.aload_n 1, 1) := by decide +kernel
theorem dL_law_653 : decode cL_law 653 = .ok (.aload_n 0, 1) := by decide +kernel
theorem dL_law_654 : decode cL_law 654 = .ok (.iload_n 3, 1) := by decide +kernel
theorem dL_law_655 : decode cL_law 655 = .ok (.iconst 1, 1) := by decide +kernel
theorem dL_law_656 : decode cL_law 656 = .ok (.iadd, 1) := by decide +kernel
theorem dL_law_657 : decode cL_law 657 = .ok (.iaload, 1) := by decide +kernel
theorem dL_law_658 : decode cL_law 658 = .ok (.aload_n 0, 1) := by decide +kernel
theorem dL_law_659 : decode cL_law 659 = .ok (.iload_n 3, 1) := by decide +kernel
theorem dL_law_660 : decode cL_law 660 = .ok (.iconst 2, 1) := by decide +kernel
theorem dL_law_661 : decode cL_law 661 = .ok (.iadd, 1) := by decide +kernel
theorem dL_law_662 : decode cL_law 662 = .ok (.iaload, 1) := by decide +kernel
theorem dL_law_663 : decode cL_law 663 = .ok (.invokevirtual 66, 3) := by decide +kernel
theorem dL_law_666 : decode cL_law 666 = .ok (.pop, 1) := by decide +kernel
theorem dL_law_667 : decode cL_law 667 = .ok (.aload_n 2, 1) := by decide +kernel
theorem dL_law_668 : decode cL_law 668 = .ok (.aload_n 0, 1) := by decide +kernel
theorem dL_law_669 : decode cL_law 669 = .ok (.iload_n 3, 1) := by decide +kernel
theorem dL_law_670 : decode cL_law 670 = .ok (.iconst 1, 1) := by decide +kernel
theorem dL_law_671 : decode cL_law 671 = .ok (.iadd, 1) := by decide +kernel
theorem dL_law_672 : decode cL_law 672 = .ok (.iaload, 1) := by decide +kernel
theorem dL_law_673 : decode cL_law 673 = .ok (.aload_n 0, 1) := by decide +kernel
theorem dL_law_674 : decode cL_law 674 = .ok (.iload_n 3, 1) := by decide +kernel
theorem dL_law_675 : decode cL_law 675 = .ok (.iconst 2, 1) := by decide +kernel
theorem dL_law_676 : decode cL_law 676 = .ok (.iadd, 1) := by decide +kernel
theorem dL_law_677 : decode cL_law 677 = .ok (.iaload, 1) := by decide +kernel
theorem dL_law_678 : decode cL_law 678 = .ok (.invokevirtual 69, 3) := by decide +kernel
theorem dL_law_681 : decode cL_law 681 = .ok (.pop, 1) := by decide +kernel
theorem dL_law_682 : decode cL_law 682 = .ok (.goto 793, 3) := by decide +kernel
theorem dL_law_685 : decode cL_law 685 = .ok (.aload_n 1, 1) := by decide +kernel
theorem dL_law_686 : decode cL_law 686 = .ok (.aload_n 0, 1) := by decide +kernel
theorem dL_law_687 : decode cL_law 687 = .ok (.iload_n 3, 1) := by decide +kernel
theorem dL_law_688 : decode cL_law 688 = .ok (.iconst 1, 1) := by decide +kernel
theorem dL_law_689 : decode cL_law 689 = .ok (.iadd, 1) := by decide +kernel
theorem dL_law_690 : decode cL_law 690 = .ok (.iaload, 1) := by decide +kernel
theorem dL_law_691 : decode cL_law 691 = .ok (.invokevirtual 70, 3) := by decide +kernel
theorem dL_law_694 : decode cL_law 694 = .ok (.pop, 1) := by decide +kernel
theorem dL_law_695 : decode cL_law 695 = .ok (.aload_n 2, 1) := by decide +kernel
theorem dL_law_696 : decode cL_law 696 = .ok (.aload_n 0, 1) := by decide +kernel
theorem dL_law_697 : decode cL_law 697 = .ok (.iload_n 3, 1) := by decide +kernel
theorem dL_law_698 : decode cL_law 698 = .ok (.iconst 1, 1) := by decide +kernel
theorem dL_law_699 : decode cL_law 699 = .ok (.iadd, 1) := by decide +kernel
theorem dL_law_700 : decode cL_law 700 = .ok (.iaload, 1) := by decide +kernel
theorem dL_law_701 : decode cL_law 701 = .ok (.invokevirtual 73, 3) := by decide +kernel
theorem dL_law_704 : decode cL_law 704 = .ok (.pop, 1) := by decide +kernel
theorem dL_law_705 : decode cL_law 705 = .ok (.goto 770, 3) := by decide +kernel
theorem dL_law_708 : decode cL_law 708 = .ok (.aload_n 1, 1) := by decide +kernel
theorem dL_law_709 : decode cL_law 709 = .ok (.aload_n 0, 1) := by decide +kernel
theorem dL_law_710 : decode cL_law 710 = .ok (.iload_n 3, 1) := by decide +kernel
theorem dL_law_711 : decode cL_law 711 = .ok (.iconst 1, 1) := by decide +kernel
theorem dL_law_712 : decode cL_law 712 = .ok (.iadd, 1) := by decide +kernel
theorem dL_law_713 : decode cL_law 713 = .ok (.iaload, 1) := by decide +kernel
theorem dL_law_714 : decode cL_law 714 = .ok (.aload_n 0, 1) := by decide +kernel
theorem dL_law_715 : decode cL_law 715 = .ok (.iload_n 3, 1) := by decide +kernel
theorem dL_law_716 : decode cL_law 716 = .ok (.iconst 2, 1) := by decide +kernel
theorem dL_law_717 : decode cL_law 717 = .ok (.iadd, 1) := by decide +kernel
theorem dL_law_718 : decode cL_law 718 = .ok (.iaload, 1) := by decide +kernel
theorem dL_law_719 : decode cL_law 719 = .ok (.invokevirtual 74, 3) := by decide +kernel
theorem dL_law_722 : decode cL_law 722 = .ok (.pop, 1) := by decide +kernel
theorem dL_law_723 : decode cL_law 723 = .ok (.aload_n 2, 1) := by decide +kernel
theorem dL_law_724 : decode cL_law 724 = .ok (.aload_n 0, 1) := by decide +kernel
theorem dL_law_725 : decode cL_law 725 = .ok (.iload_n 3, 1) := by decide +kernel
theorem dL_law_726 : decode cL_law 726 = .ok (.iconst 1, 1) := by decide +kernel
theorem dL_law_727 : decode cL_law 727 = .ok (.iadd, 1) := by decide +kernel
theorem dL_law_728 : decode cL_law 728 = .ok (.iaload, 1) := by decide +kernel
theorem dL_law_729 : decode cL_law 729 = .ok (.aload_n 0, 1) := by decide +kernel
theorem dL_law_730 : decode cL_law 730 = .ok (.iload_n 3, 1) := by decide +kernel
theorem dL_law_731 : decode cL_law 731 = .ok (.iconst 2, 1) := by decide +kernel
theorem dL_law_732 : decode cL_law 732 = .ok (.iadd, 1) := by decide +kernel
theorem dL_law_733 : decode cL_law 733 = .ok (.iaload, 1) := by decide +kernel
theorem dL_law_734 : decode cL_law 734 = .ok (.invokevirtual 77, 3) := by decide +kernel
theorem dL_law_737 : decode cL_law 737 = .ok (.pop, 1) := by decide +kernel
theorem dL_law_738 : decode cL_law 738 = .ok (.goto 737, 3) := by decide +kernel
theorem dL_law_741 : decode cL_law 741 = .ok (.aload_n 1, 1) := by decide +kernel
theorem dL_law_742 : decode cL_law 742 = .ok (.aload_n 0, 1) := by decide +kernel
theorem dL_law_743 : decode cL_law 743 = .ok (.iload_n 3, 1) := by decide +kernel
theorem dL_law_744 : decode cL_law 744 = .ok (.iconst 1, 1) := by decide +kernel
theorem dL_law_745 : decode cL_law 745 = .ok (.iadd, 1) := by decide +kernel
theorem dL_law_746 : decode cL_law 746 = .ok (.iaload, 1) := by decide +kernel
theorem dL_law_747 : decode cL_law 747 = .ok (.invokevirtual 78, 3) := by decide +kernel
theorem dL_law_750 : decode cL_law 750 = .ok (.pop, 1) := by decide +kernel
theorem dL_law_751 : decode cL_law 751 = .ok (.aload_n 2, 1) := by decide +kernel
theorem dL_law_752 : decode cL_law 752 = .ok (.aload_n 0, 1) := by decide +kernel
theorem dL_law_753 : decode cL_law 753 = .ok (.iload_n 3, 1) := by decide +kernel
theorem dL_law_754 : decode cL_law 754 = .ok (.iconst 1, 1) := by decide +kernel
theorem dL_law_755 : decode cL_law 755 = .ok (.iadd, 1) := by decide +kernel
theorem dL_law_756 : decode cL_law 756 = .ok (.iaload, 1) := by decide +kernel
theorem dL_law_757 : decode cL_law 757 = .ok (.invokevirtual 81, 3) := by decide +kernel
theorem dL_law_760 : decode cL_law 760 = .ok (.pop, 1) := by decide +kernel
theorem dL_law_761 : decode cL_law 761 = .ok (.goto 714, 3) := by decide +kernel
theorem dL_law_764 : decode cL_law 764 = .ok (.aload_n 1, 1) := by decide +kernel
theorem dL_law_765 : decode cL_law 765 = .ok (.aload_n 0, 1) := by decide +kernel
theorem dL_law_766 : decode cL_law 766 = .ok (.iload_n 3, 1) := by decide +kernel
theorem dL_law_767 : decode cL_law 767 = .ok (.iconst 1, 1) := by decide +kernel
theorem dL_law_768 : decode cL_law 768 = .ok (.iadd, 1) := by decide +kernel
theorem dL_law_769 : decode cL_law 769 = .ok (.iaload, 1) := by decide +kernel
theorem dL_law_770 : decode cL_law 770 = .ok (.invokevirtual 82, 3) := by decide +kernel
theorem dL_law_773 : decode cL_law 773 = .ok (.pop, 1) := by decide +kernel
theorem dL_law_774 : decode cL_law 774 = .ok (.aload_n 2, 1) := by decide +kernel
theorem dL_law_775 : decode cL_law 775 = .ok (.aload_n 0, 1) := by decide +kernel
theorem dL_law_776 : decode cL_law 776 = .ok (.iload_n 3, 1) := by decide +kernel
theorem dL_law_777 : decode cL_law 777 = .ok (.iconst 1, 1) := by decide +kernel
theorem dL_law_778 : decode cL_law 778 = .ok (.iadd, 1) := by decide +kernel
theorem dL_law_779 : decode cL_law 779 = .ok (.iaload, 1) := by decide +kernel
theorem dL_law_780 : decode cL_law 780 = .ok (.invokevirtual 85, 3) := by decide +kernel
theorem dL_law_783 : decode cL_law 783 = .ok (.pop, 1) := by decide +kernel
theorem dL_law_784 : decode cL_law 784 = .ok (.goto 691, 3) := by decide +kernel
theorem dL_law_787 : decode cL_law 787 = .ok (.aload_n 1, 1) := by decide +kernel
theorem dL_law_788 : decode cL_law 788 = .ok (.aload_n 0, 1) := by decide +kernel
theorem dL_law_789 : decode cL_law 789 = .ok (.iload_n 3, 1) := by decide +kernel
theorem dL_law_790 : decode cL_law 790 = .ok (.iconst 1, 1) := by decide +kernel
theorem dL_law_791 : decode cL_law 791 = .ok (.iadd, 1) := by decide +kernel
theorem dL_law_792 : decode cL_law 792 = .ok (.iaload, 1) := by decide +kernel
theorem dL_law_793 : decode cL_law 793 = .ok (.invokevirtual 86, 3) := by decide +kernel
theorem dL_law_796 : decode cL_law 796 = .ok (.pop, 1) := by decide +kernel
theorem dL_law_797 : decode cL_law 797 = .ok (.aload_n 2, 1) := by decide +kernel
theorem dL_law_798 : decode cL_law 798 = .ok (.aload_n 0, 1) := by decide +kernel
theorem dL_law_799 : decode cL_law 799 = .ok (.iload_n 3, 1) := by decide +kernel
theorem dL_law_800 : decode cL_law 800 = .ok (.iconst 1, 1) := by decide +kernel
theorem dL_law_801 : decode cL_law 801 = .ok (.iadd, 1) := by decide +kernel
theorem dL_law_802 : decode cL_law 802 = .ok (.iaload, 1) := by decide +kernel
theorem dL_law_803 : decode cL_law 803 = .ok (.invokevirtual 89, 3) := by decide +kernel
theorem dL_law_806 : decode cL_law 806 = .ok (.pop, 1) := by decide +kernel
theorem dL_law_807 : decode cL_law 807 = .ok (.goto 668, 3) := by decide +kernel
theorem dL_law_810 : decode cL_law 810 = .ok (.aload_n 1, 1) := by decide +kernel
theorem dL_law_811 : decode cL_law 811 = .ok (.aload_n 0, 1) := by decide +kernel
theorem dL_law_812 : decode cL_law 812 = .ok (.iload_n 3, 1) := by decide +kernel
theorem dL_law_813 : decode cL_law 813 = .ok (.iconst 1, 1) := by decide +kernel
theorem dL_law_814 : decode cL_law 814 = .ok (.iadd, 1) := by decide +kernel
theorem dL_law_815 : decode cL_law 815 = .ok (.iaload, 1) := by decide +kernel
theorem dL_law_816 : decode cL_law 816 = .ok (.invokevirtual 90, 3) := by decide +kernel
theorem dL_law_819 : decode cL_law 819 = .ok (.pop, 1) := by decide +kernel
theorem dL_law_820 : decode cL_law 820 = .ok (.aload_n 2, 1) := by decide +kernel
theorem dL_law_821 : decode cL_law 821 = .ok (.aload_n 0, 1) := by decide +kernel
theorem dL_law_822 : decode cL_law 822 = .ok (.iload_n 3, 1) := by decide +kernel
theorem dL_law_823 : decode cL_law 823 = .ok (.iconst 1, 1) := by decide +kernel
theorem dL_law_824 : decode cL_law 824 = .ok (.iadd, 1) := by decide +kernel
theorem dL_law_825 : decode cL_law 825 = .ok (.iaload, 1) := by decide +kernel
theorem dL_law_826 : decode cL_law 826 = .ok (.invokevirtual 93, 3) := by decide +kernel
theorem dL_law_829 : decode cL_law 829 = .ok (.pop, 1) := by decide +kernel
theorem dL_law_830 : decode cL_law 830 = .ok (.goto 645, 3) := by decide +kernel
theorem dL_law_833 : decode cL_law 833 = .ok (.aload_n 1, 1) := by decide +kernel
theorem dL_law_834 : decode cL_law 834 = .ok (.aload_n 0, 1) := by decide +kernel
theorem dL_law_835 : decode cL_law 835 = .ok (.iload_n 3, 1) := by decide +kernel
theorem dL_law_836 : decode cL_law 836 = .ok (.iconst 1, 1) := by decide +kernel
theorem dL_law_837 : decode cL_law 837 = .ok (.iadd, 1) := by decide +kernel
theorem dL_law_838 : decode cL_law 838 = .ok (.iaload, 1) := by decide +kernel
theorem dL_law_839 : decode cL_law 839 = .ok (.aload_n 0, 1) := by decide +kernel
theorem dL_law_840 : decode cL_law 840 = .ok (.iload_n 3, 1) := by decide +kernel
theorem dL_law_841 : decode cL_law 841 = .ok (.iconst 2, 1) := by decide +kernel
theorem dL_law_842 : decode cL_law 842 = .ok (.iadd, 1) := by decide +kernel
theorem dL_law_843 : decode cL_law 843 = .ok (.iaload, 1) := by decide +kernel
theorem dL_law_844 : decode cL_law 844 = .ok (.aload_n 0, 1) := by decide +kernel
theorem dL_law_845 : decode cL_law 845 = .ok (.iload_n 3, 1) := by decide +kernel
theorem dL_law_846 : decode cL_law 846 = .ok (.iconst 3, 1) := by decide +kernel
theorem dL_law_847 : decode cL_law 847 = .ok (.iadd, 1) := by decide +kernel
theorem dL_law_848 : decode cL_law 848 = .ok (.iaload, 1) := by decide +kernel
theorem dL_law_849 : decode cL_law 849 = .ok (.aload_n 0, 1) := by decide +kernel
theorem dL_law_850 : decode cL_law 850 = .ok (.iload_n 3, 1) := by decide +kernel
theorem dL_law_851 : decode cL_law 851 = .ok (.iconst 4, 1) := by decide +kernel
theorem dL_law_852 : decode cL_law 852 = .ok (.iadd, 1) := by decide +kernel
theorem dL_law_853 : decode cL_law 853 = .ok (.iaload, 1) := by decide +kernel
theorem dL_law_854 : decode cL_law 854 = .ok (.aload_n 0, 1) := by decide +kernel
theorem dL_law_855 : decode cL_law 855 = .ok (.iload_n 3, 1) := by decide +kernel
theorem dL_law_856 : decode cL_law 856 = .ok (.iconst 5, 1) := by decide +kernel
theorem dL_law_857 : decode cL_law 857 = .ok (.iadd, 1) := by decide +kernel
theorem dL_law_858 : decode cL_law 858 = .ok (.iaload, 1) := by decide +kernel
theorem dL_law_859 : decode cL_law 859 = .ok (.invokevirtual 94, 3) := by decide +kernel
theorem dL_law_862 : decode cL_law 862 = .ok (.pop, 1) := by decide +kernel
theorem dL_law_863 : decode cL_law 863 = .ok (.aload_n 2, 1) := by decide +kernel
theorem dL_law_864 : decode cL_law 864 = .ok (.aload_n 0, 1) := by decide +kernel
theorem dL_law_865 : decode cL_law 865 = .ok (.iload_n 3, 1) := by decide +kernel
theorem dL_law_866 : decode cL_law 866 = .ok (.iconst 1, 1) := by decide +kernel
theorem dL_law_867 : decode cL_law 867 = .ok (.iadd, 1) := by decide +kernel
theorem dL_law_868 : decode cL_law 868 = .ok (.iaload, 1) := by decide +kernel
theorem dL_law_869 : decode cL_law 869 = .ok (.aload_n 0, 1) := by decide +kernel
theorem dL_law_870 : decode cL_law 870 = .ok (.iload_n 3, 1) := by decide +kernel
theorem dL_law_871 : decode cL_law 871 = .ok (.iconst 2, 1) := by decide +kernel
theorem dL_law_872 : decode cL_law 872 = .ok (.iadd, 1) := by decide +kernel
theorem dL_law_873 : decode cL_law 873 = .ok (.iaload, 1) := by decide +kernel
theorem dL_law_874 : decode cL_law 874 = .ok (.aload_n 0, 1) := by decide +kernel
theorem dL_law_875 : decode cL_law 875 = .ok (.iload_n 3, 1) := by decide +kernel
theorem dL_law_876 : decode cL_law 876 = .ok (.iconst 3, 1) := by decide +kernel
theorem dL_law_877 : decode cL_law 877 = .ok (.iadd, 1) := by decide +kernel
theorem dL_law_878 : decode cL_law 878 = .ok (.iaload, 1) := by decide +kernel
theorem dL_law_879 : decode cL_law 879 = .ok (.aload_n 0, 1) := by decide +kernel
theorem dL_law_880 : decode cL_law 880 = .ok (.iload_n 3, 1) := by decide +kernel
theorem dL_law_881 : decode cL_law 881 = .ok (.iconst 4, 1) := by decide +kernel
theorem dL_law_882 : decode cL_law 882 = .ok (.iadd, 1) := by decide +kernel
theorem dL_law_883 : decode cL_law 883 = .ok (.iaload, 1) := by decide +kernel
theorem dL_law_884 : decode cL_law 884 = .ok (.aload_n 0, 1) := by decide +kernel
theorem dL_law_885 : decode cL_law 885 = .ok (.iload_n 3, 1) := by decide +kernel
theorem dL_law_886 : decode cL_law 886 = .ok (.iconst 5, 1) := by decide +kernel
theorem dL_law_887 : decode cL_law 887 = .ok (.iadd, 1) := by decide +kernel
theorem dL_law_888 : decode cL_law 888 = .ok (.iaload, 1) := by decide +kernel
theorem dL_law_889 : decode cL_law 889 = .ok (.invokevirtual 98, 3) := by decide +kernel
theorem dL_law_892 : decode cL_law 892 = .ok (.pop, 1) := by decide +kernel
theorem dL_law_893 : decode cL_law 893 = .ok (.goto 582, 3) := by decide +kernel
theorem dL_law_896 : decode cL_law 896 = .ok (.aload_n 1, 1) := by decide +kernel
theorem dL_law_897 : decode cL_law 897 = .ok (.aload_n 0, 1) := by decide +kernel
theorem dL_law_898 : decode cL_law 898 = .ok (.iload_n 3, 1) := by decide +kernel
theorem dL_law_899 : decode cL_law 899 = .ok (.iconst 1, 1) := by decide +kernel
theorem dL_law_900 : decode cL_law 900 = .ok (.iadd, 1) := by decide +kernel
theorem dL_law_901 : decode cL_law 901 = .ok (.iaload, 1) := by decide +kernel
theorem dL_law_902 : decode cL_law 902 = .ok (.aload_n 0, 1) := by decide +kernel
theorem dL_law_903 : decode cL_law 903 = .ok (.iload_n 3, 1) := by decide +kernel
theorem dL_law_904 : decode cL_law 904 = .ok (.iconst 2, 1) := by decide +kernel
theorem dL_law_905 : decode cL_law 905 = .ok (.iadd, 1) := by decide +kernel
theorem dL_law_906 : decode cL_law 906 = .ok (.iaload, 1) := by decide +kernel
theorem dL_law_907 : decode cL_law 907 = .ok (.aload_n 0, 1) := by decide +kernel
theorem dL_law_908 : decode cL_law 908 = .ok (.iload_n 3, 1) := by decide +kernel
theorem dL_law_909 : decode cL_law 909 = .ok (.iconst 3, 1) := by decide +kernel
theorem dL_law_910 : decode cL_law 910 = .ok (.iadd, 1) := by decide +kernel
theorem dL_law_911 : decode cL_law 911 = .ok (.iaload, 1) := by decide +kernel
theorem dL_law_912 : decode cL_law 912 = .ok (.aload_n 0, 1) := by decide +kernel
theorem dL_law_913 : decode cL_law 913 = .ok (.iload_n 3, 1) := by decide +kernel
theorem dL_law_914 : decode cL_law 914 = .ok (.iconst 4, 1) := by decide +kernel
theorem dL_law_915 : decode cL_law 915 = .ok (.iadd, 1) := by decide +kernel
theorem dL_law_916 : decode cL_law 916 = .ok (.iaload, 1) := by decide +kernel
theorem dL_law_917 : decode cL_law 917 = .ok (.ifCond .eq 7, 3) := by decide +kernel
theorem dL_law_920 : decode cL_law 920 = .ok (.iconst 1, 1) := by decide +kernel
theorem dL_law_921 : decode cL_law 921 = .ok (.goto 4, 3) := by decide +kernel
theorem dL_law_924 : decode cL_law 924 = .ok (.iconst 0, 1) := by decide +kernel
theorem dL_law_925 : decode cL_law 925 = .ok (.invokevirtual 99, 3) := by decide +kernel
theorem dL_law_928 : decode cL_law 928 = .ok (.pop, 1) := by decide +kernel
theorem dL_law_929 : decode cL_law 929 = .ok (.aload_n 2, 1) := by decide +kernel
theorem dL_law_930 : decode cL_law 930 = .ok (.aload_n 0, 1) := by decide +kernel
theorem dL_law_931 : decode cL_law 931 = .ok (.iload_n 3, 1) := by decide +kernel
theorem dL_law_932 : decode cL_law 932 = .ok (.iconst 1, 1) := by decide +kernel
theorem dL_law_933 : decode cL_law 933 = .ok (.iadd, 1) := by decide +kernel
theorem dL_law_934 : decode cL_law 934 = .ok (.iaload, 1) := by decide +kernel
theorem dL_law_935 : decode cL_law 935 = .ok (.aload_n 0, 1) := by decide +kernel
theorem dL_law_936 : decode cL_law 936 = .ok (.iload_n 3, 1) := by decide +kernel
theorem dL_law_937 : decode cL_law 937 = .ok (.iconst 2, 1) := by decide +kernel
theorem dL_law_938 : decode cL_law 938 = .ok (.iadd, 1) := by decide +kernel
theorem dL_law_939 : decode cL_law 939 = .ok (.iaload, 1) := by decide +kernel
theorem dL_law_940 : decode cL_law 940 = .ok (.aload_n 0, 1) := by decide +kernel
theorem dL_law_941 : decode cL_law 941 = .ok (.iload_n 3, 1) := by decide +kernel
theorem dL_law_942 : decode cL_law 942 = .ok (.iconst 3, 1) := by decide +kernel
theorem dL_law_943 : decode cL_law 943 = .ok (.iadd, 1) := by decide +kernel
theorem dL_law_944 : decode cL_law 944 = .ok (.iaload, 1) := by decide +kernel
theorem dL_law_945 : decode cL_law 945 = .ok (.aload_n 0, 1) := by decide +kernel
theorem dL_law_946 : decode cL_law 946 = .ok (.iload_n 3, 1) := by decide +kernel
theorem dL_law_947 : decode cL_law 947 = .ok (.iconst 4, 1) := by decide +kernel
theorem dL_law_948 : decode cL_law 948 = .ok (.iadd, 1) := by decide +kernel
theorem dL_law_949 : decode cL_law 949 = .ok (.iaload, 1) := by decide +kernel
theorem dL_law_950 : decode cL_law 950 = .ok (.ifCond .eq 7, 3) := by decide +kernel
theorem dL_law_953 : decode cL_law 953 = .ok (.iconst 1, 1) := by decide +kernel
theorem dL_law_954 : decode cL_law 954 = .ok (.goto 4, 3) := by decide +kernel
theorem dL_law_957 : decode cL_law 957 = .ok (.iconst 0, 1) := by decide +kernel
theorem dL_law_958 : decode cL_law 958 = .ok (.invokevirtual 103, 3) := by decide +kernel
theorem dL_law_961 : decode cL_law 961 = .ok (.pop, 1) := by decide +kernel
theorem dL_law_962 : decode cL_law 962 = .ok (.goto 513, 3) := by decide +kernel
theorem dL_law_965 : decode cL_law 965 = .ok (.aload_n 1, 1) := by decide +kernel
theorem dL_law_966 : decode cL_law 966 = .ok (.aload_n 0, 1) := by decide +kernel
theorem dL_law_967 : decode cL_law 967 = .ok (.iload_n 3, 1) := by decide +kernel
theorem dL_law_968 : decode cL_law 968 = .ok (.iconst 1, 1) := by decide +kernel
theorem dL_law_969 : decode cL_law 969 = .ok (.iadd, 1) := by decide +kernel
theorem dL_law_970 : decode cL_law 970 = .ok (.iaload, 1) := by decide +kernel
theorem dL_law_971 : decode cL_law 971 = .ok (.aload_n 0, 1) := by decide +kernel
theorem dL_law_972 : decode cL_law 972 = .ok (.iload_n 3, 1) := by decide +kernel
theorem dL_law_973 : decode cL_law 973 = .ok (.iconst 2, 1) := by decide +kernel
theorem dL_law_974 : decode cL_law 974 = .ok (.iadd, 1) := by decide +kernel
theorem dL_law_975 : decode cL_law 975 = .ok (.iaload, 1) := by decide +kernel
theorem dL_law_976 : decode cL_law 976 = .ok (.aload_n 0, 1) := by decide +kernel
theorem dL_law_977 : decode cL_law 977 = .ok (.iload_n 3, 1) := by decide +kernel
theorem dL_law_978 : decode cL_law 978 = .ok (.iconst 3, 1) := by decide +kernel
theorem dL_law_979 : decode cL_law 979 = .ok (.iadd, 1) := by decide +kernel
theorem dL_law_980 : decode cL_law 980 = .ok (.iaload, 1) := by decide +kernel
theorem dL_law_981 : decode cL_law 981 = .ok (.invokevirtual 104, 3) := by decide +kernel
theorem dL_law_984 : decode cL_law 984 = .ok (.pop, 1) := by decide +kernel
theorem dL_law_985 : decode cL_law 985 = .ok (.aload_n 2, 1) := by decide +kernel
theorem dL_law_986 : decode cL_law 986 = .ok (.aload_n 0, 1) := by decide +kernel
theorem dL_law_987 : decode cL_law 987 = .ok (.iload_n 3, 1) := by decide +kernel
theorem dL_law_988 : decode cL_law 988 = .ok (.iconst 1, 1) := by decide +kernel
theorem dL_law_989 : decode cL_law 989 = .ok (.iadd, 1) := by decide +kernel
theorem dL_law_990 : decode cL_law 990 = .ok (.iaload, 1) := by decide +kernel
theorem dL_law_991 : decode cL_law 991 = .ok (.aload_n 0, 1) := by decide +kernel
theorem dL_law_992 : decode cL_law 992 = .ok (.iload_n 3, 1) := by decide +kernel
theorem dL_law_993 : decode cL_law 993 = .ok (.iconst 2, 1) := by decide +kernel
theorem dL_law_994 : decode cL_law 994 = .ok (.iadd, 1) := by decide +kernel
theorem dL_law_995 : decode cL_law 995 = .ok (.iaload, 1) := by decide +kernel
theorem dL_law_996 : decode cL_law 996 = .ok (.aload_n 0, 1) := by decide +kernel
theorem dL_law_997 : decode cL_law 997 = .ok (.iload_n 3, 1) := by decide +kernel
theorem dL_law_998 : decode cL_law 998 = .ok (.iconst 3, 1) := by decide +kernel
theorem dL_law_999 : decode cL_law 999 = .ok (.iadd, 1) := by decide +kernel
theorem dL_law_1000 : decode cL_law 1000 = .ok (.iaload, 1) := by decide +kernel
theorem dL_law_1001 : decode cL_law 1001 = .ok (.invokevirtual 107, 3) := by decide +kernel
theorem dL_law_1004 : decode cL_law 1004 = .ok (.pop, 1) := by decide +kernel
theorem dL_law_1005 : decode cL_law 1005 = .ok (.goto 470, 3) := by decide +kernel
theorem dL_law_1008 : decode cL_law 1008 = .ok (.aload_n 1, 1) := by decide +kernel
theorem dL_law_1009 : decode cL_law 1009 = .ok (.aload_n 0, 1) := by decide +kernel
theorem dL_law_1010 : decode cL_law 1010 = .ok (.iload_n 3, 1) := by decide +kernel
theorem dL_law_1011 : decode cL_law 1011 = .ok (.iconst 1, 1) := by decide +kernel
theorem dL_law_1012 : decode cL_law 1012 = .ok (.iadd, 1) := by decide +kernel
theorem dL_law_1013 : decode cL_law 1013 = .ok (.iaload, 1) := by decide +kernel
theorem dL_law_1014 : decode cL_law 1014 = .ok (.aload_n 0, 1) := by decide +kernel
theorem dL_law_1015 : decode cL_law 1015 = .ok (.iload_n 3, 1) := by decide +kernel
theorem dL_law_1016 : decode cL_law 1016 = .ok (.iconst 2, 1) := by decide +kernel
theorem dL_law_1017 : decode cL_law 1017 = .ok (.iadd, 1) := by decide +kernel
theorem dL_law_1018 : decode cL_law 1018 = .ok (.iaload, 1) := by decide +kernel
theorem dL_law_1019 : decode cL_law 1019 = .ok (.invokevirtual 108, 3) := by decide +kernel
theorem dL_law_1022 : decode cL_law 1022 = .ok (.pop, 1) := by decide +kernel
theorem dL_law_1023 : decode cL_law 1023 = .ok (.aload_n 2, 1) := by decide +kernel
theorem dL_law_1024 : decode cL_law 1024 = .ok (.aload_n 0, 1) := by decide +kernel
theorem dL_law_1025 : decode cL_law 1025 = .ok (.iload_n 3, 1) := by decide +kernel
theorem dL_law_1026 : decode cL_law 1026 = .ok (.iconst 1, 1) := by decide +kernel
theorem dL_law_1027 : decode cL_law 1027 = .ok (.iadd, 1) := by decide +kernel
theorem dL_law_1028 : decode cL_law 1028 = .ok (.iaload, 1) := by decide +kernel
theorem dL_law_1029 : decode cL_law 1029 = .ok (.aload_n 0, 1) := by decide +kernel
theorem dL_law_1030 : decode cL_law 1030 = .ok (.iload_n 3, 1) := by decide +kernel
theorem dL_law_1031 : decode cL_law 1031 = .ok (.iconst 2, 1) := by decide +kernel
theorem dL_law_1032 : decode cL_law 1032 = .ok (.iadd, 1) := by decide +kernel
theorem dL_law_1033 : decode cL_law 1033 = .ok (.iaload, 1) := by decide +kernel
theorem dL_law_1034 : decode cL_law 1034 = .ok (.invokevirtual 111, 3) := by decide +kernel
theorem dL_law_1037 : decode cL_law 1037 = .ok (.pop, 1) := by decide +kernel
theorem dL_law_1038 : decode cL_law 1038 = .ok (.goto 437, 3) := by decide +kernel
theorem dL_law_1041 : decode cL_law 1041 = .ok (.aload_n 1, 1) := by decide +kernel
theorem dL_law_1042 : decode cL_law 1042 = .ok (.aload_n 0, 1) := by decide +kernel
theorem dL_law_1043 : decode cL_law 1043 = .ok (.iload_n 3, 1) := by decide +kernel
theorem dL_law_1044 : decode cL_law 1044 = .ok (.iconst 1, 1) := by decide +kernel
theorem dL_law_1045 : decode cL_law 1045 = .ok (.iadd, 1) := by decide +kernel
theorem dL_law_1046 : decode cL_law 1046 = .ok (.iaload, 1) := by decide +kernel
theorem dL_law_1047 : decode cL_law 1047 = .ok (.aload_n 0, 1) := by decide +kernel
theorem dL_law_1048 : decode cL_law 1048 = .ok (.iload_n 3, 1) := by decide +kernel
theorem dL_law_1049 : decode cL_law 1049 = .ok (.iconst 2, 1) := by decide +kernel
theorem dL_law_1050 : decode cL_law 1050 = .ok (.iadd, 1) := by decide +kernel
theorem dL_law_1051 : decode cL_law 1051 = .ok (.iaload, 1) := by decide +kernel
theorem dL_law_1052 : decode cL_law 1052 = .ok (.aload_n 0, 1) := by decide +kernel
theorem dL_law_1053 : decode cL_law 1053 = .ok (.iload_n 3, 1) := by decide +kernel
theorem dL_law_1054 : decode cL_law 1054 = .ok (.iconst 3, 1) := by decide +kernel
theorem dL_law_1055 : decode cL_law 1055 = .ok (.iadd, 1) := by decide +kernel
theorem dL_law_1056 : decode cL_law 1056 = .ok (.iaload, 1) := by decide +kernel
theorem dL_law_1057 : decode cL_law 1057 = .ok (.invokevirtual 112, 3) := by decide +kernel
theorem dL_law_1060 : decode cL_law 1060 = .ok (.pop, 1) := by decide +kernel
theorem dL_law_1061 : decode cL_law 1061 = .ok (.aload_n 2, 1) := by decide +kernel
theorem dL_law_1062 : decode cL_law 1062 = .ok (.aload_n 0, 1) := by decide +kernel
theorem dL_law_1063 : decode cL_law 1063 = .ok (.iload_n 3, 1) := by decide +kernel
theorem dL_law_1064 : decode cL_law 1064 = .ok (.iconst 1, 1) := by decide +kernel
theorem dL_law_1065 : decode cL_law 1065 = .ok (.iadd, 1) := by decide +kernel
theorem dL_law_1066 : decode cL_law 1066 = .ok (.iaload, 1) := by decide +kernel
theorem dL_law_1067 : decode cL_law 1067 = .ok (.aload_n 0, 1) := by decide +kernel
theorem dL_law_1068 : decode cL_law 1068 = .ok (.iload_n 3, 1) := by decide +kernel
theorem dL_law_1069 : decode cL_law 1069 = .ok (.iconst 2, 1) := by decide +kernel
theorem dL_law_1070 : decode cL_law 1070 = .ok (.iadd, 1) := by decide +kernel
theorem dL_law_1071 : decode cL_law 1071 = .ok (.iaload, 1) := by decide +kernel
theorem dL_law_1072 : decode cL_law 1072 = .ok (.aload_n 0, 1) := by decide +kernel
theorem dL_law_1073 : decode cL_law 1073 = .ok (.iload_n 3, 1) := by decide +kernel
theorem dL_law_1074 : decode cL_law 1074 = .ok (.iconst 3, 1) := by decide +kernel
theorem dL_law_1075 : decode cL_law 1075 = .ok (.iadd, 1) := by decide +kernel
theorem dL_law_1076 : decode cL_law 1076 = .ok (.iaload, 1) := by decide +kernel
theorem dL_law_1077 : decode cL_law 1077 = .ok (.invokevirtual 115, 3) := by decide +kernel
theorem dL_law_1080 : decode cL_law 1080 = .ok (.pop, 1) := by decide +kernel
theorem dL_law_1081 : decode cL_law 1081 = .ok (.goto 394, 3) := by decide +kernel
theorem dL_law_1084 : decode cL_law 1084 = .ok (.aload_n 1, 1) := by decide +kernel
theorem dL_law_1085 : decode cL_law 1085 = .ok (.aload_n 0, 1) := by decide +kernel
theorem dL_law_1086 : decode cL_law 1086 = .ok (.iload_n 3, 1) := by decide +kernel
theorem dL_law_1087 : decode cL_law 1087 = .ok (.iconst 1, 1) := by decide +kernel
theorem dL_law_1088 : decode cL_law 1088 = .ok (.iadd, 1) := by decide +kernel
theorem dL_law_1089 : decode cL_law 1089 = .ok (.iaload, 1) := by decide +kernel
theorem dL_law_1090 : decode cL_law 1090 = .ok (.invokevirtual 116, 3) := by decide +kernel
theorem dL_law_1093 : decode cL_law 1093 = .ok (.pop, 1) := by decide +kernel
theorem dL_law_1094 : decode cL_law 1094 = .ok (.aload_n 2, 1) := by decide +kernel
theorem dL_law_1095 : decode cL_law 1095 = .ok (.aload_n 0, 1) := by decide +kernel
theorem dL_law_1096 : decode cL_law 1096 = .ok (.iload_n 3, 1) := by decide +kernel
theorem dL_law_1097 : decode cL_law 1097 = .ok (.iconst 1, 1) := by decide +kernel
theorem dL_law_1098 : decode cL_law 1098 = .ok (.iadd, 1) := by decide +kernel
theorem dL_law_1099 : decode cL_law 1099 = .ok (.iaload, 1) := by decide +kernel
theorem dL_law_1100 : decode cL_law 1100 = .ok (.invokevirtual 119, 3) := by decide +kernel
theorem dL_law_1103 : decode cL_law 1103 = .ok (.pop, 1) := by decide +kernel
theorem dL_law_1104 : decode cL_law 1104 = .ok (.goto 371, 3) := by decide +kernel
theorem dL_law_1107 : decode cL_law 1107 = .ok (.aload_n 1, 1) := by decide +kernel
theorem dL_law_1108 : decode cL_law 1108 = .ok (.aload_n 0, 1) := by decide +kernel
theorem dL_law_1109 : decode cL_law 1109 = .ok (.iload_n 3, 1) := by decide +kernel
theorem dL_law_1110 : decode cL_law 1110 = .ok (.iconst 1, 1) := by decide +kernel
theorem dL_law_1111 : decode cL_law 1111 = .ok (.iadd, 1) := by decide +kernel
theorem dL_law_1112 : decode cL_law 1112 = .ok (.iaload, 1) := by decide +kernel
theorem dL_law_1113 : decode cL_law 1113 = .ok (.aload_n 0, 1) := by decide +kernel
theorem dL_law_1114 : decode cL_law 1114 = .ok (.iload_n 3, 1) := by decide +kernel
theorem dL_law_1115 : decode cL_law 1115 = .ok (.iconst 2, 1) := by decide +kernel
theorem dL_law_1116 : decode cL_law 1116 = .ok (.iadd, 1) := by decide +kernel
theorem dL_law_1117 : decode cL_law 1117 = .ok (.iaload, 1) := by decide +kernel
theorem dL_law_1118 : decode cL_law 1118 = .ok (.invokevirtual 120, 3) := by decide +kernel
theorem dL_law_1121 : decode cL_law 1121 = .ok (.pop, 1) := by decide +kernel
theorem dL_law_1122 : decode cL_law 1122 = .ok (.aload_n 2, 1) := by decide +kernel
theorem dL_law_1123 : decode cL_law 1123 = .ok (.aload_n 0, 1) := by decide +kernel
theorem dL_law_1124 : decode cL_law 1124 = .ok (.iload_n 3, 1) := by decide +kernel
theorem dL_law_1125 : decode cL_law 1125 = .ok (.iconst 1, 1) := by decide +kernel
theorem dL_law_1126 : decode cL_law 1126 = .ok (.iadd, 1) := by decide +kernel
theorem dL_law_1127 : decode cL_law 1127 = .ok (.iaload, 1) := by decide +kernel
theorem dL_law_1128 : decode cL_law 1128 = .ok (.aload_n 0, 1) := by decide +kernel
theorem dL_law_1129 : decode cL_law 1129 = .ok (.iload_n 3, 1) := by decide +kernel
theorem dL_law_1130 : decode cL_law 1130 = .ok (.iconst 2, 1) := by decide +kernel
theorem dL_law_1131 : decode cL_law 1131 = .ok (.iadd, 1) := by decide +kernel
theorem dL_law_1132 : decode cL_law 1132 = .ok (.iaload, 1) := by decide +kernel
theorem dL_law_1133 : decode cL_law 1133 = .ok (.invokevirtual 123, 3) := by decide +kernel
theorem dL_law_1136 : decode cL_law 1136 = .ok (.pop, 1) := by decide +kernel
theorem dL_law_1137 : decode cL_law 1137 = .ok (.goto 338, 3) := by decide +kernel
theorem dL_law_1140 : decode cL_law 1140 = .ok (.aload_n 1, 1) := by decide +kernel
theorem dL_law_1141 : decode cL_law 1141 = .ok (.aload_n 0, 1) := by decide +kernel
theorem dL_law_1142 : decode cL_law 1142 = .ok (.iload_n 3, 1) := by decide +kernel
theorem dL_law_1143 : decode cL_law 1143 = .ok (.iconst 1, 1) := by decide +kernel
theorem dL_law_1144 : decode cL_law 1144 = .ok (.iadd, 1) := by decide +kernel
theorem dL_law_1145 : decode cL_law 1145 = .ok (.iaload, 1) := by decide +kernel
theorem dL_law_1146 : decode cL_law 1146 = .ok (.aload_n 0, 1) := by decide +kernel
theorem dL_law_1147 : decode cL_law 1147 = .ok (.iload_n 3, 1) := by decide +kernel
theorem dL_law_1148 : decode cL_law 1148 = .ok (.iconst 2, 1) := by decide +kernel
theorem dL_law_1149 : decode cL_law 1149 = .ok (.iadd, 1) := by decide +kernel
theorem dL_law_1150 : decode cL_law 1150 = .ok (.iaload, 1) := by decide +kernel
theorem dL_law_1151 : decode cL_law 1151 = .ok (.aload_n 0, 1) := by decide +kernel
theorem dL_law_1152 : decode cL_law 1152 = .ok (.iload_n 3, 1) := by decide +kernel
theorem dL_law_1153 : decode cL_law 1153 = .ok (.iconst 3, 1) := by decide +kernel
theorem dL_law_1154 : decode cL_law 1154 = .ok (.iadd, 1) := by decide +kernel
theorem dL_law_1155 : decode cL_law 1155 = .ok (.iaload, 1) := by decide +kernel
theorem dL_law_1156 : decode cL_law 1156 = .ok (.invokevirtual 124, 3) := by decide +kernel
theorem dL_law_1159 : decode cL_law 1159 = .ok (.pop, 1) := by decide +kernel
theorem dL_law_1160 : decode cL_law 1160 = .ok (.aload_n 2, 1) := by decide +kernel
theorem dL_law_1161 : decode cL_law 1161 = .ok (.aload_n 0, 1) := by decide +kernel
theorem dL_law_1162 : decode cL_law 1162 = .ok (.iload_n 3, 1) := by decide +kernel
theorem dL_law_1163 : decode cL_law 1163 = .ok (.iconst 1, 1) := by decide +kernel
theorem dL_law_1164 : decode cL_law 1164 = .ok (.iadd, 1) := by decide +kernel
theorem dL_law_1165 : decode cL_law 1165 = .ok (.iaload, 1) := by decide +kernel
theorem dL_law_1166 : decode cL_law 1166 = .ok (.aload_n 0, 1) := by decide +kernel
theorem dL_law_1167 : decode cL_law 1167 = .ok (.iload_n 3, 1) := by decide +kernel
theorem dL_law_1168 : decode cL_law 1168 = .ok (.iconst 2, 1) := by decide +kernel
theorem dL_law_1169 : decode cL_law 1169 = .ok (.iadd, 1) := by decide +kernel
theorem dL_law_1170 : decode cL_law 1170 = .ok (.iaload, 1) := by decide +kernel
theorem dL_law_1171 : decode cL_law 1171 = .ok (.aload_n 0, 1) := by decide +kernel
theorem dL_law_1172 : decode cL_law 1172 = .ok (.iload_n 3, 1) := by decide +kernel
theorem dL_law_1173 : decode cL_law 1173 = .ok (.iconst 3, 1) := by decide +kernel
theorem dL_law_1174 : decode cL_law 1174 = .ok (.iadd, 1) := by decide +kernel
theorem dL_law_1175 : decode cL_law 1175 = .ok (.iaload, 1) := by decide +kernel
theorem dL_law_1176 : decode cL_law 1176 = .ok (.invokevirtual 127, 3) := by decide +kernel
theorem dL_law_1179 : decode cL_law 1179 = .ok (.pop, 1) := by decide +kernel
theorem dL_law_1180 : decode cL_law 1180 = .ok (.goto 295, 3) := by decide +kernel
theorem dL_law_1183 : decode cL_law 1183 = .ok (.aload_n 1, 1) := by decide +kernel
theorem dL_law_1184 : decode cL_law 1184 = .ok (.aload_n 0, 1) := by decide +kernel
theorem dL_law_1185 : decode cL_law 1185 = .ok (.iload_n 3, 1) := by decide +kernel
theorem dL_law_1186 : decode cL_law 1186 = .ok (.iconst 1, 1) := by decide +kernel
theorem dL_law_1187 : decode cL_law 1187 = .ok (.iadd, 1) := by decide +kernel
theorem dL_law_1188 : decode cL_law 1188 = .ok (.iaload, 1) := by decide +kernel
theorem dL_law_1189 : decode cL_law 1189 = .ok (.aload_n 0, 1) := by decide +kernel
theorem dL_law_1190 : decode cL_law 1190 = .ok (.iload_n 3, 1) := by decide +kernel
theorem dL_law_1191 : decode cL_law 1191 = .ok (.iconst 2, 1) := by decide +kernel
theorem dL_law_1192 : decode cL_law 1192 = .ok (.iadd, 1) := by decide +kernel
theorem dL_law_1193 : decode cL_law 1193 = .ok (.iaload, 1) := by decide +kernel
theorem dL_law_1194 : decode cL_law 1194 = .ok (.aload_n 0, 1) := by decide +kernel
theorem dL_law_1195 : decode cL_law 1195 = .ok (.iload_n 3, 1) := by decide +kernel
theorem dL_law_1196 : decode cL_law 1196 = .ok (.iconst 3, 1) := by decide +kernel
theorem dL_law_1197 : decode cL_law 1197 = .ok (.iadd, 1) := by decide +kernel
theorem dL_law_1198 : decode cL_law 1198 = .ok (.iaload, 1) := by decide +kernel
theorem dL_law_1199 : decode cL_law 1199 = .ok (.invokevirtual 128, 3) := by decide +kernel
theorem dL_law_1202 : decode cL_law 1202 = .ok (.pop, 1) := by decide +kernel
theorem dL_law_1203 : decode cL_law 1203 = .ok (.aload_n 2, 1) := by decide +kernel
theorem dL_law_1204 : decode cL_law 1204 = .ok (.aload_n 0, 1) := by decide +kernel
theorem dL_law_1205 : decode cL_law 1205 = .ok (.iload_n 3, 1) := by decide +kernel
theorem dL_law_1206 : decode cL_law 1206 = .ok (.iconst 1, 1) := by decide +kernel
theorem dL_law_1207 : decode cL_law 1207 = .ok (.iadd, 1) := by decide +kernel
theorem dL_law_1208 : decode cL_law 1208 = .ok (.iaload, 1) := by decide +kernel
theorem dL_law_1209 : decode cL_law 1209 = .ok (.aload_n 0, 1) := by decide +kernel
theorem dL_law_1210 : decode cL_law 1210 = .ok (.iload_n 3, 1) := by decide +kernel
theorem dL_law_1211 : decode cL_law 1211 = .ok (.iconst 2, 1) := by decide +kernel
theorem dL_law_1212 : decode cL_law 1212 = .ok (.iadd, 1) := by decide +kernel
theorem dL_law_1213 : decode cL_law 1213 = .ok (.iaload, 1) := by decide +kernel
theorem dL_law_1214 : decode cL_law 1214 = .ok (.aload_n 0, 1) := by decide +kernel
theorem dL_law_1215 : decode cL_law 1215 = .ok (.iload_n 3, 1) := by decide +kernel
theorem dL_law_1216 : decode cL_law 1216 = .ok (.iconst 3, 1) := by decide +kernel
theorem dL_law_1217 : decode cL_law 1217 = .ok (.iadd, 1) := by decide +kernel
theorem dL_law_1218 : decode cL_law 1218 = .ok (.iaload, 1) := by decide +kernel
theorem dL_law_1219 : decode cL_law 1219 = .ok (.invokevirtual 131, 3) := by decide +kernel
theorem dL_law_1222 : decode cL_law 1222 = .ok (.pop, 1) := by decide +kernel
theorem dL_law_1223 : decode cL_law 1223 = .ok (.goto 252, 3) := by decide +kernel
theorem dL_law_1226 : decode cL_law 1226 = .ok (.aload_n 1, 1) := by decide +kernel
theorem dL_law_1227 : decode cL_law 1227 = .ok (.aload_n 0, 1) := by decide +kernel
theorem dL_law_1228 : decode cL_law 1228 = .ok (.iload_n 3, 1) := by decide +kernel
theorem dL_law_1229 : decode cL_law 1229 = .ok (.iconst 1, 1) := by decide +kernel
theorem dL_law_1230 : decode cL_law 1230 = .ok (.iadd, 1) := by decide +kernel
theorem dL_law_1231 : decode cL_law 1231 = .ok (.iaload, 1) := by decide +kernel
theorem dL_law_1232 : decode cL_law 1232 = .ok (.aload_n 0, 1) := by decide +kernel
theorem dL_law_1233 : decode cL_law 1233 = .ok (.iload_n 3, 1) := by decide +kernel
theorem dL_law_1234 : decode cL_law 1234 = .ok (.iconst 2, 1) := by decide +kernel
theorem dL_law_1235 : decode cL_law 1235 = .ok (.iadd, 1) := by decide +kernel
theorem dL_law_1236 : decode cL_law 1236 = .ok (.iaload, 1) := by decide +kernel
theorem dL_law_1237 : decode cL_law 1237 = .ok (.invokevirtual 132, 3) := by decide +kernel
theorem dL_law_1240 : decode cL_law 1240 = .ok (.pop, 1) := by decide +kernel
theorem dL_law_1241 : decode cL_law 1241 = .ok (.aload_n 2, 1) := by decide +kernel
theorem dL_law_1242 : decode cL_law 1242 = .ok (.aload_n 0, 1) := by decide +kernel
theorem dL_law_1243 : decode cL_law 1243 = .ok (.iload_n 3, 1) := by decide +kernel
theorem dL_law_1244 : decode cL_law 1244 = .ok (.iconst 1, 1) := by decide +kernel
theorem dL_law_1245 : decode cL_law 1245 = .ok (.iadd, 1) := by decide +kernel
theorem dL_law_1246 : decode cL_law 1246 = .ok (.iaload, 1) := by decide +kernel
theorem dL_law_1247 : decode cL_law 1247 = .ok (.aload_n 0, 1) := by decide +kernel
theorem dL_law_1248 : decode cL_law 1248 = .ok (.iload_n 3, 1) := by decide +kernel
theorem dL_law_1249 : decode cL_law 1249 = .ok (.iconst 2, 1) := by decide +kernel
theorem dL_law_1250 : decode cL_law 1250 = .ok (.iadd, 1) := by decide +kernel
theorem dL_law_1251 : decode cL_law 1251 = .ok (.iaload, 1) := by decide +kernel
theorem dL_law_1252 : decode cL_law 1252 = .ok (.invokevirtual 135, 3) := by decide +kernel
theorem dL_law_1255 : decode cL_law 1255 = .ok (.pop, 1) := by decide +kernel
theorem dL_law_1256 : decode cL_law 1256 = .ok (.goto 219, 3) := by decide +kernel
theorem dL_law_1259 : decode cL_law 1259 = .ok (.aload_n 1, 1) := by decide +kernel
theorem dL_law_1260 : decode cL_law 1260 = .ok (.aload_n 0, 1) := by decide +kernel
theorem dL_law_1261 : decode cL_law 1261 = .ok (.iload_n 3, 1) := by decide +kernel
theorem dL_law_1262 : decode cL_law 1262 = .ok (.iconst 1, 1) := by decide +kernel
theorem dL_law_1263 : decode cL_law 1263 = .ok (.iadd, 1) := by decide +kernel
theorem dL_law_1264 : decode cL_law 1264 = .ok (.iaload, 1) := by decide +kernel
theorem dL_law_1265 : decode cL_law 1265 = .ok (.invokevirtual 136, 3) := by decide +kernel
theorem dL_law_1268 : decode cL_law 1268 = .ok (.pop, 1) := by decide +kernel
theorem dL_law_1269 : decode cL_law 1269 = .ok (.aload_n 2, 1) := by decide +kernel
theorem dL_law_1270 : decode cL_law 1270 = .ok (.aload_n 0, 1) := by decide +kernel
theorem dL_law_1271 : decode cL_law 1271 = .ok (.iload_n 3, 1) := by decide +kernel
theorem dL_law_1272 : decode cL_law 1272 = .ok (.iconst 1, 1) := by decide +kernel
theorem dL_law_1273 : decode cL_law 1273 = .ok (.iadd, 1) := by decide +kernel
theorem dL_law_1274 : decode cL_law 1274 = .ok (.iaload, 1) := by decide +kernel
theorem dL_law_1275 : decode cL_law 1275 = .ok (.invokevirtual 139, 3) := by decide +kernel
theorem dL_law_1278 : decode cL_law 1278 = .ok (.pop, 1) := by decide +kernel
theorem dL_law_1279 : decode cL_law 1279 = .ok (.goto 196, 3) := by decide +kernel
theorem dL_law_1282 : decode cL_law 1282 = .ok (.aload_n 1, 1) := by decide +kernel
theorem dL_law_1283 : decode cL_law 1283 = .ok (.invokevirtual 140, 3) := by decide +kernel
theorem dL_law_1286 : decode cL_law 1286 = .ok (.pop, 1) := by decide +kernel
theorem dL_law_1287 : decode cL_law 1287 = .ok (.aload_n 2, 1) := by decide +kernel
theorem dL_law_1288 : decode cL_law 1288 = .ok (.invokevirtual 144, 3) := by decide +kernel
theorem dL_law_1291 : decode cL_law 1291 = .ok (.pop, 1) := by decide +kernel
theorem dL_law_1292 : decode cL_law 1292 = .ok (.goto 183, 3) := by decide +kernel
theorem dL_law_1295 : decode cL_law 1295 = .ok (.aload_n 1, 1) := by decide +kernel
theorem dL_law_1296 : decode cL_law 1296 = .ok (.aload_n 0, 1) := by decide +kernel
theorem dL_law_1297 : decode cL_law 1297 = .ok (.iload_n 3, 1) := by decide +kernel
theorem dL_law_1298 : decode cL_law 1298 = .ok (.iconst 1, 1) := by decide +kernel
theorem dL_law_1299 : decode cL_law 1299 = .ok (.iadd, 1) := by decide +kernel
theorem dL_law_1300 : decode cL_law 1300 = .ok (.iaload, 1) := by decide +kernel
theorem dL_law_1301 : decode cL_law 1301 = .ok (.aload_n 0, 1) := by decide +kernel
theorem dL_law_1302 : decode cL_law 1302 = .ok (.iload_n 3, 1) := by decide +kernel
theorem dL_law_1303 : decode cL_law 1303 = .ok (.iconst 2, 1) := by decide +kernel
theorem dL_law_1304 : decode cL_law 1304 = .ok (.iadd, 1) := by decide +kernel
theorem dL_law_1305 : decode cL_law 1305 = .ok (.iaload, 1) := by decide +kernel
theorem dL_law_1306 : decode cL_law 1306 = .ok (.aload_n 0, 1) := by decide +kernel
theorem dL_law_1307 : decode cL_law 1307 = .ok (.iload_n 3, 1) := by decide +kernel
theorem dL_law_1308 : decode cL_law 1308 = .ok (.iconst 3, 1) := by decide +kernel
theorem dL_law_1309 : decode cL_law 1309 = .ok (.iadd, 1) := by decide +kernel
theorem dL_law_1310 : decode cL_law 1310 = .ok (.iaload, 1) := by decide +kernel
theorem dL_law_1311 : decode cL_law 1311 = .ok (.aload_n 0, 1) := by decide +kernel
theorem dL_law_1312 : decode cL_law 1312 = .ok (.iload_n 3, 1) := by decide +kernel
theorem dL_law_1313 : decode cL_law 1313 = .ok (.iconst 4, 1) := by decide +kernel
theorem dL_law_1314 : decode cL_law 1314 = .ok (.iadd, 1) := by decide +kernel
theorem dL_law_1315 : decode cL_law 1315 = .ok (.iaload, 1) := by decide +kernel
theorem dL_law_1316 : decode cL_law 1316 = .ok (.aload_n 0, 1) := by decide +kernel
theorem dL_law_1317 : decode cL_law 1317 = .ok (.iload_n 3, 1) := by decide +kernel
theorem dL_law_1318 : decode cL_law 1318 = .ok (.iconst 5, 1) := by decide +kernel
theorem dL_law_1319 : decode cL_law 1319 = .ok (.iadd, 1) := by decide +kernel
theorem dL_law_1320 : decode cL_law 1320 = .ok (.iaload, 1) := by decide +kernel
theorem dL_law_1321 : decode cL_law 1321 = .ok (.ifCond .eq 7, 3) := by decide +kernel
theorem dL_law_1324 : decode cL_law 1324 = .ok (.iconst 1, 1) := by decide +kernel
theorem dL_law_1325 : decode cL_law 1325 = .ok (.goto 4, 3) := by decide +kernel
theorem dL_law_1328 : decode cL_law 1328 = .ok (.iconst 0, 1) := by decide +kernel
theorem dL_law_1329 : decode cL_law 1329 = .ok (.aload_n 0, 1) := by decide +kernel
theorem dL_law_1330 : decode cL_law 1330 = .ok (.iload_n 3, 1) := by decide +kernel
theorem dL_law_1331 : decode cL_law 1331 = .ok (.bipush 6, 2) := by decide +kernel
theorem dL_law_1333 : decode cL_law 1333 = .ok (.iadd, 1) := by decide +kernel
theorem dL_law_1334 : decode cL_law 1334 = .ok (.iaload, 1) := by decide +kernel
theorem dL_law_1335 : decode cL_law 1335 = .ok (.invokevirtual 145, 3) := by decide +kernel
theorem dL_law_1338 : decode cL_law 1338 = .ok (.pop, 1) := by decide +kernel
theorem dL_law_1339 : decode cL_law 1339 = .ok (.aload_n 2, 1) := by decide +kernel
theorem dL_law_1340 : decode cL_law 1340 = .ok (.aload_n 0, 1) := by decide +kernel
theorem dL_law_1341 : decode cL_law 1341 = .ok (.iload_n 3, 1) := by decide +kernel
theorem dL_law_1342 : decode cL_law 1342 = .ok (.iconst 1, 1) := by decide +kernel
theorem dL_law_1343 : decode cL_law 1343 = .ok (.iadd, 1) := by decide +kernel
theorem dL_law_1344 : decode cL_law 1344 = .ok (.iaload, 1) := by decide +kernel
theorem dL_law_1345 : decode cL_law 1345 = .ok (.aload_n 0, 1) := by decide +kernel
theorem dL_law_1346 : decode cL_law 1346 = .ok (.iload_n 3, 1) := by decide +kernel
theorem dL_law_1347 : decode cL_law 1347 = .ok (.iconst 2, 1) := by decide +kernel
theorem dL_law_1348 : decode cL_law 1348 = .ok (.iadd, 1) := by decide +kernel
theorem dL_law_1349 : decode cL_law 1349 = .ok (.iaload, 1) := by decide +kernel
theorem dL_law_1350 : decode cL_law 1350 = .ok (.aload_n 0, 1) := by decide +kernel
theorem dL_law_1351 : decode cL_law 1351 = .ok (.iload_n 3, 1) := by decide +kernel
theorem dL_law_1352 : decode cL_law 1352 = .ok (.iconst 3, 1) := by decide +kernel
theorem dL_law_1353 : decode cL_law 1353 = .ok (.iadd, 1) := by decide +kernel
theorem dL_law_1354 : decode cL_law 1354 = .ok (.iaload, 1) := by decide +kernel
theorem dL_law_1355 : decode cL_law 1355 = .ok (.aload_n 0, 1) := by decide +kernel
theorem dL_law_1356 : decode cL_law 1356 = .ok (.iload_n 3, 1) := by decide +kernel
theorem dL_law_1357 : decode cL_law 1357 = .ok (.iconst 4, 1) := by decide +kernel
theorem dL_law_1358 : decode cL_law 1358 = .ok (.iadd, 1) := by decide +kernel
theorem dL_law_1359 : decode cL_law 1359 = .ok (.iaload, 1) := by decide +kernel
theorem dL_law_1360 : decode cL_law 1360 = .ok (.aload_n 0, 1) := by decide +kernel
theorem dL_law_1361 : decode cL_law 1361 = .ok (.iload_n 3, 1) := by decide +kernel
theorem dL_law_1362 : decode cL_law 1362 = .ok (.iconst 5, 1) := by decide +kernel
theorem dL_law_1363 : decode cL_law 1363 = .ok (.iadd, 1) := by decide +kernel
theorem dL_law_1364 : decode cL_law 1364 = .ok (.iaload, 1) := by decide +kernel
theorem dL_law_1365 : decode cL_law 1365 = .ok (.ifCond .eq 7, 3) := by decide +kernel
theorem dL_law_1368 : decode cL_law 1368 = .ok (.iconst 1, 1) := by decide +kernel
theorem dL_law_1369 : decode cL_law 1369 = .ok (.goto 4, 3) := by decide +kernel
theorem dL_law_1372 : decode cL_law 1372 = .ok (.iconst 0, 1) := by decide +kernel
theorem dL_law_1373 : decode cL_law 1373 = .ok (.aload_n 0, 1) := by decide +kernel
theorem dL_law_1374 : decode cL_law 1374 = .ok (.iload_n 3, 1) := by decide +kernel
theorem dL_law_1375 : decode cL_law 1375 = .ok (.bipush 6, 2) := by decide +kernel
theorem dL_law_1377 : decode cL_law 1377 = .ok (.iadd, 1) := by decide +kernel
theorem dL_law_1378 : decode cL_law 1378 = .ok (.iaload, 1) := by decide +kernel
theorem dL_law_1379 : decode cL_law 1379 = .ok (.invokevirtual 149, 3) := by decide +kernel
theorem dL_law_1382 : decode cL_law 1382 = .ok (.pop, 1) := by decide +kernel
theorem dL_law_1383 : decode cL_law 1383 = .ok (.goto 92, 3) := by decide +kernel
theorem dL_law_1386 : decode cL_law 1386 = .ok (.aload_n 1, 1) := by decide +kernel
theorem dL_law_1387 : decode cL_law 1387 = .ok (.aload_n 0, 1) := by decide +kernel
theorem dL_law_1388 : decode cL_law 1388 = .ok (.iload_n 3, 1) := by decide +kernel
theorem dL_law_1389 : decode cL_law 1389 = .ok (.iconst 1, 1) := by decide +kernel
theorem dL_law_1390 : decode cL_law 1390 = .ok (.iadd, 1) := by decide +kernel
theorem dL_law_1391 : decode cL_law 1391 = .ok (.iaload, 1) := by decide +kernel
theorem dL_law_1392 : decode cL_law 1392 = .ok (.aload_n 0, 1) := by decide +kernel
theorem dL_law_1393 : decode cL_law 1393 = .ok (.iload_n 3, 1) := by decide +kernel
theorem dL_law_1394 : decode cL_law 1394 = .ok (.iconst 2, 1) := by decide +kernel
theorem dL_law_1395 : decode cL_law 1395 = .ok (.iadd, 1) := by decide +kernel
theorem dL_law_1396 : decode cL_law 1396 = .ok (.iaload, 1) := by decide +kernel
theorem dL_law_1397 : decode cL_law 1397 = .ok (.invokevirtual 150, 3) := by decide +kernel
theorem dL_law_1400 : decode cL_law 1400 = .ok (.pop, 1) := by decide +kernel
theorem dL_law_1401 : decode cL_law 1401 = .ok (.aload_n 2, 1) := by decide +kernel
theorem dL_law_1402 : decode cL_law 1402 = .ok (.aload_n 0, 1) := by decide +kernel
theorem dL_law_1403 : decode cL_law 1403 = .ok (.iload_n 3, 1) := by decide +kernel
theorem dL_law_1404 : decode cL_law 1404 = .ok (.iconst 1, 1) := by decide +kernel
theorem dL_law_1405 : decode cL_law 1405 = .ok (.iadd, 1) := by decide +kernel
theorem dL_law_1406 : decode cL_law 1406 = .ok (.iaload, 1) := by decide +kernel
theorem dL_law_1407 : decode cL_law 1407 = .ok (.aload_n 0, 1) := by decide +kernel
theorem dL_law_1408 : decode cL_law 1408 = .ok (.iload_n 3, 1) := by decide +kernel
theorem dL_law_1409 : decode cL_law 1409 = .ok (.iconst 2, 1) := by decide +kernel
theorem dL_law_1410 : decode cL_law 1410 = .ok (.iadd, 1) := by decide +kernel
theorem dL_law_1411 : decode cL_law 1411 = .ok (.iaload, 1) := by decide +kernel
theorem dL_law_1412 : decode cL_law 1412 = .ok (.invokevirtual 153, 3) := by decide +kernel
theorem dL_law_1415 : decode cL_law 1415 = .ok (.pop, 1) := by decide +kernel
theorem dL_law_1416 : decode cL_law 1416 = .ok (.goto 59, 3) := by decide +kernel
theorem dL_law_1419 : decode cL_law 1419 = .ok (.aload_n 1, 1) := by decide +kernel
theorem dL_law_1420 : decode cL_law 1420 = .ok (.aload_n 0, 1) := by decide +kernel
theorem dL_law_1421 : decode cL_law 1421 = .ok (.iload_n 3, 1) := by decide +kernel
theorem dL_law_1422 : decode cL_law 1422 = .ok (.iconst 1, 1) := by decide +kernel
theorem dL_law_1423 : decode cL_law 1423 = .ok (.iadd, 1) := by decide +kernel
theorem dL_law_1424 : decode cL_law 1424 = .ok (.iaload, 1) := by decide +kernel
theorem dL_law_1425 : decode cL_law 1425 = .ok (.aload_n 0, 1) := by decide +kernel
theorem dL_law_1426 : decode cL_law 1426 = .ok (.iload_n 3, 1) := by decide +kernel
theorem dL_law_1427 : decode cL_law 1427 = .ok (.iconst 2, 1) := by decide +kernel
theorem dL_law_1428 : decode cL_law 1428 = .ok (.iadd, 1) := by decide +kernel
theorem dL_law_1429 : decode cL_law 1429 = .ok (.iaload, 1) := by decide +kernel
theorem dL_law_1430 : decode cL_law 1430 = .ok (.invokevirtual 154, 3) := by decide +kernel
theorem dL_law_1433 : decode cL_law 1433 = .ok (.pop, 1) := by decide +kernel
theorem dL_law_1434 : decode cL_law 1434 = .ok (.aload_n 2, 1) := by decide +kernel
theorem dL_law_1435 : decode cL_law 1435 = .ok (.aload_n 0, 1) := by decide +kernel
theorem dL_law_1436 : decode cL_law 1436 = .ok (.iload_n 3, 1) := by decide +kernel
theorem dL_law_1437 : decode cL_law 1437 = .ok (.iconst 1, 1) := by decide +kernel
theorem dL_law_1438 : decode cL_law 1438 = .ok (.iadd, 1) := by decide +kernel
theorem dL_law_1439 : decode cL_law 1439 = .ok (.iaload, 1) := by decide +kernel
theorem dL_law_1440 : decode cL_law 1440 = .ok (.aload_n 0, 1) := by decide +kernel
theorem dL_law_1441 : decode cL_law 1441 = .ok (.iload_n 3, 1) := by decide +kernel
theorem dL_law_1442 : decode cL_law 1442 = .ok (.iconst 2, 1) := by decide +kernel
theorem dL_law_1443 : decode cL_law 1443 = .ok (.iadd, 1) := by decide +kernel
theorem dL_law_1444 : decode cL_law 1444 = .ok (.iaload, 1) := by decide +kernel
theorem dL_law_1445 : decode cL_law 1445 = .ok (.invokevirtual 157, 3) := by decide +kernel
theorem dL_law_1448 : decode cL_law 1448 = .ok (.pop, 1) := by decide +kernel
theorem dL_law_1449 : decode cL_law 1449 = .ok (.goto 26, 3) := by decide +kernel
theorem dL_law_1452 : decode cL_law 1452 = .ok (.aload_n 1, 1) := by decide +kernel
theorem dL_law_1453 : decode cL_law 1453 = .ok (.aload_n 0, 1) := by decide +kernel
theorem dL_law_1454 : decode cL_law 1454 = .ok (.iload_n 3, 1) := by decide +kernel
theorem dL_law_1455 : decode cL_law 1455 = .ok (.iconst 1, 1) := by decide +kernel
theorem dL_law_1456 : decode cL_law 1456 = .ok (.iadd, 1) := by decide +kernel
theorem dL_law_1457 : decode cL_law 1457 = .ok (.iaload, 1) := by decide +kernel
theorem dL_law_1458 : decode cL_law 1458 = .ok (.invokevirtual 158, 3) := by decide +kernel
theorem dL_law_1461 : decode cL_law 1461 = .ok (.pop, 1) := by decide +kernel
theorem dL_law_1462 : decode cL_law 1462 = .ok (.aload_n 2, 1) := by decide +kernel
theorem dL_law_1463 : decode cL_law 1463 = .ok (.aload_n 0, 1) := by decide +kernel
theorem dL_law_1464 : decode cL_law 1464 = .ok (.iload_n 3, 1) := by decide +kernel
theorem dL_law_1465 : decode cL_law 1465 = .ok (.iconst 1, 1) := by decide +kernel
theorem dL_law_1466 : decode cL_law 1466 = .ok (.iadd, 1) := by decide +kernel
theorem dL_law_1467 : decode cL_law 1467 = .ok (.iaload, 1) := by decide +kernel
theorem dL_law_1468 : decode cL_law 1468 = .ok (.invokevirtual 161, 3) := by decide +kernel
theorem dL_law_1471 : decode cL_law 1471 = .ok (.pop, 1) := by decide +kernel
theorem dL_law_1472 : decode cL_law 1472 = .ok (.goto 3, 3) := by decide +kernel
theorem dL_law_1475 : decode cL_law 1475 = .ok (.iinc 3 7, 3) := by decide +kernel
theorem dL_law_1478 : decode cL_law 1478 = .ok (.goto (-1460), 3) := by decide +kernel
theorem dL_law_1481 : decode cL_law 1481 = .ok (.iconst 1, 1) := by decide +kernel
theorem dL_law_1482 : decode cL_law 1482 = .ok (.ireturn, 1) := by decide +kernel
end
section
abbrev PK : Type := Option Nat × Nat × FieldType × (Nat → Option Nat)
def pt : Nat → PK := fun t => match t with
  | 0 => (some 12, 60, .int, fun k => match k with | 1 => some 1 | 2 => some 2 | 3 => some 3 | 4 => some 4 | 7 => some 5 | 8 => some 6 | 9 => some 7 | 10 => some 8 | 11 => some 9 | 12 => some 10 | 13 => some 11 | 14 => some 12 | 15 => some 13 | 16 => some 14 | 17 => some 15 | 18 => some 16 | 19 => some 17 | 21 => some 18 | 22 => some 19 | 23 => some 20 | 25 => some 21 | 26 => some 22 | 27 => some 23 | 28 => some 24 | 29 => some 25 | 31 => some 26 | 32 => some 27 | 33 => some 28 | 34 => some 29 | 35 => some 30 | 36 => some 31 | 38 => some 32 | 39 => some 33 | 40 => some 34 | 42 => some 35 | 43 => some 36 | 44 => some 37 | 45 => some 38 | 46 => some 39 | 47 => some 40 | 49 => some 41 | 50 => some 42 | 51 => some 43 | 52 => some 44 | 53 => some 45 | 54 => some 46 | 58 => some 47 | 59 => some 48 | _ => none)
  | 1 => (none, 10, .int, fun _ => none)
  | 2 => (none, 100, .int, fun _ => none)
  | 3 => (none, 10, .int, fun _ => none)
  | 4 => (none, 10, .int, fun _ => none)
  | 5 => (none, 40, .int, fun _ => none)
  | 6 => (none, 40, .int, fun _ => none)
  | 7 => (none, 40, .int, fun _ => none)
  | 8 => (none, 40, .int, fun _ => none)
  | 9 => (none, 40, .int, fun _ => none)
  | 10 => (none, 40, .int, fun _ => none)
  | 11 => (none, 40, .boolean, fun _ => none)
  | 12 => (none, 40, .int, fun _ => none)
  | 13 => (none, 40, .int, fun _ => none)
  | 14 => (none, 40, .int, fun _ => none)
  | 15 => (none, 4, .int, fun _ => none)
  | 16 => (none, 7, .int, fun _ => none)
  | 17 => (none, 6, .int, fun _ => none)
  | 18 => (none, 80, .int, fun _ => none)
  | 19 => (none, 20, .int, fun _ => none)
  | 20 => (none, 40, .boolean, fun _ => none)
  | 21 => (none, 30, .int, fun _ => none)
  | 22 => (none, 30, .int, fun _ => none)
  | 23 => (none, 30, .int, fun _ => none)
  | 24 => (none, 30, .int, fun _ => none)
  | 25 => (none, 30, .int, fun _ => none)
  | 26 => (none, 40, .int, fun _ => none)
  | 27 => (none, 40, .int, fun _ => none)
  | 28 => (none, 40, .int, fun _ => none)
  | 29 => (none, 40, .int, fun _ => none)
  | 30 => (none, 40, .boolean, fun _ => none)
  | 31 => (none, 4, .int, fun _ => none)
  | 32 => (none, 20, .int, fun _ => none)
  | 33 => (none, 20, .int, fun _ => none)
  | 34 => (none, 20, .int, fun _ => none)
  | 35 => (none, 30, .int, fun _ => none)
  | 36 => (none, 30, .int, fun _ => none)
  | 37 => (none, 100, .int, fun _ => none)
  | 38 => (none, 150, .int, fun _ => none)
  | 39 => (none, 32, .int, fun _ => none)
  | 40 => (none, 32, .int, fun _ => none)
  | 41 => (none, 40, .int, fun _ => none)
  | 42 => (none, 40, .int, fun _ => none)
  | 43 => (none, 40, .int, fun _ => none)
  | 44 => (none, 40, .int, fun _ => none)
  | 45 => (none, 40, .boolean, fun _ => none)
  | 46 => (none, 40, .int, fun _ => none)
  | 47 => (none, 40, .int, fun _ => none)
  | 48 => (none, 40, .int, fun _ => none)
  | 49 => (some 11, 10, .int, fun k => match k with | 0 => some 52 | 1 => some 57 | 2 => some 63 | 3 => some 68 | 4 => some 79 | 5 => some 84 | 6 => some 90 | 7 => some 50 | 8 => some 51 | _ => none)
  | 50 => (none, 4, .int, fun _ => none)
  | 51 => (none, 7, .int, fun _ => none)
  | 52 => (some 7, 3, .int, fun k => match k with | 0 => some 53 | 1 => some 54 | _ => none)
  | 53 => (none, 10, .object "LateClaims$Port", fun _ => some 56)
  | 54 => (none, 10, .array .int, fun _ => some 55)
  | 55 => (none, 10, .int, fun _ => none)
  | 56 => (some 6, 4, .int, fun _ => none)
  | 57 => (some 10, 5, .int, fun k => match k with | 0 => some 58 | 2 => some 59 | 3 => some 60 | 4 => some 61 | _ => none)
  | 58 => (none, 40, .object "LateClaims$Leg", fun _ => some 62)
  | 59 => (none, 6, .int, fun _ => none)
  | 60 => (none, 40, .boolean, fun _ => none)
  | 61 => (none, 40, .object "LateClaims$Leg", fun _ => some 62)
  | 62 => (some 5, 15, .int, fun k => match k with | 1 => some 56 | 2 => some 56 | _ => none)
  | 63 => (some 9, 2, .int, fun k => match k with | 0 => some 64 | _ => none)
  | 64 => (none, 20, .object "LateClaims$Ticket", fun _ => some 65)
  | 65 => (some 8, 7, .int, fun k => match k with | 1 => some 62 | 2 => some 62 | 3 => some 66 | 5 => some 67 | _ => none)
  | 66 => (none, 4, .object "LateClaims$Leg", fun _ => some 62)
  | 67 => (none, 5, .int, fun _ => none)
  | 68 => (some 4, 12, .int, fun k => match k with | 0 => some 69 | 1 => some 70 | 2 => some 71 | 3 => some 72 | 4 => some 73 | 6 => some 74 | 7 => some 75 | 8 => some 76 | 9 => some 77 | 10 => some 78 | _ => none)
  | 69 => (none, 30, .int, fun _ => none)
  | 70 => (none, 30, .int, fun _ => none)
  | 71 => (none, 30, .int, fun _ => none)
  | 72 => (none, 30, .int, fun _ => none)
  | 73 => (none, 30, .int, fun _ => none)
  | 74 => (none, 40, .int, fun _ => none)
  | 75 => (none, 40, .int, fun _ => none)
  | 76 => (none, 40, .int, fun _ => none)
  | 77 => (none, 40, .int, fun _ => none)
  | 78 => (none, 40, .boolean, fun _ => none)
  | 79 => (some 0, 5, .int, fun k => match k with | 0 => some 80 | 1 => some 81 | 2 => some 82 | 3 => some 83 | _ => none)
  | 80 => (none, 4, .int, fun _ => none)
  | 81 => (none, 20, .int, fun _ => none)
  | 82 => (none, 20, .int, fun _ => none)
  | 83 => (none, 20, .int, fun _ => none)
  | 84 => (some 3, 4, .int, fun k => match k with | 0 => some 85 | 2 => some 86 | 3 => some 87 | _ => none)
  | 85 => (none, 30, .object "LateClaims$Claim", fun _ => some 88)
  | 86 => (none, 5, .int, fun _ => none)
  | 87 => (none, 32, .int, fun _ => none)
  | 88 => (some 2, 4, .int, fun k => match k with | 0 => some 65 | 2 => some 89 | _ => none)
  | 89 => (none, 5, .int, fun _ => none)
  | 90 => (some 1, 11, .int, fun k => match k with | 0 => some 91 | 1 => some 92 | 2 => some 93 | 3 => some 94 | 4 => some 95 | 5 => some 96 | 7 => some 97 | _ => none)
  | 91 => (none, 40, .int, fun _ => none)
  | 92 => (none, 40, .int, fun _ => none)
  | 93 => (none, 40, .int, fun _ => none)
  | 94 => (none, 40, .int, fun _ => none)
  | 95 => (none, 40, .boolean, fun _ => none)
  | 96 => (none, 40, .int, fun _ => none)
  | 97 => (none, 40, .int, fun _ => none)
  | _ => (some 0, 0, .int, fun _ => none)
def rg : Nat → Nat → Int × Int := fun t k => match t with
  | 0 => (match k with | 0 => (0, 4000) | 6 => (0, 40) | 20 => (0, 20) | 24 => (0, 30) | 30 => (0, 40) | 37 => (0, 20) | 41 => (0, 30) | 48 => (0, 40) | 55 => (0, 40) | _ => (-2147483648, 2147483647))
  | 1 => (0, 3)
  | 3 => (0, 9)
  | 5 => (0, 9)
  | 6 => (0, 9)
  | 9 => (0, 20000)
  | 10 => (0, 20000)
  | 11 => (0, 1)
  | 12 => (0, 30000)
  | 13 => (0, 30000)
  | 14 => (0, 5)
  | 15 => (0, 900)
  | 18 => (0, 39)
  | 19 => (0, 4)
  | 20 => (0, 1)
  | 21 => (0, 3)
  | 22 => (0, 4000)
  | 23 => (0, 9999)
  | 24 => (0, 9999)
  | 25 => (0, 9999)
  | 26 => (0, 3)
  | 27 => (0, 5)
  | 28 => (0, 4000)
  | 29 => (0, 4000)
  | 30 => (0, 1)
  | 31 => (0, 3000)
  | 35 => (0, 19)
  | 36 => (0, 4000)
  | 43 => (0, 9999)
  | 44 => (0, 9999)
  | 45 => (0, 1)
  | 46 => (0, 9999)
  | 47 => (0, 39)
  | 49 => (match k with | 9 => (0, 4000) | _ => (-2147483648, 2147483647))
  | 50 => (0, 900)
  | 56 => (match k with | 0 => (0, 9) | 1 => (0, 3) | 2 => (0, 9) | _ => (-2147483648, 2147483647))
  | 57 => (match k with | 1 => (0, 40) | _ => (-2147483648, 2147483647))
  | 60 => (0, 1)
  | 62 => (match k with | 0 => (0, 39) | 3 => (0, 5) | 4 => (0, 5) | 5 => (0, 20000) | 6 => (0, 20000) | 7 => (0, 1) | 8 => (0, 30000) | 9 => (0, 30000) | 14 => (0, 5) | _ => (-2147483648, 2147483647))
  | 63 => (match k with | 1 => (0, 20) | _ => (-2147483648, 2147483647))
  | 65 => (match k with | 0 => (0, 19) | 4 => (1, 4) | 6 => (0, 1) | _ => (-2147483648, 2147483647))
  | 68 => (match k with | 5 => (0, 30) | 11 => (0, 40) | _ => (-2147483648, 2147483647))
  | 69 => (0, 9999)
  | 70 => (0, 9999)
  | 71 => (0, 9999)
  | 72 => (0, 9999)
  | 73 => (0, 9999)
  | 78 => (0, 1)
  | 79 => (match k with | 4 => (0, 20) | _ => (-2147483648, 2147483647))
  | 80 => (0, 3000)
  | 81 => (0, 4000)
  | 82 => (0, 4000)
  | 83 => (0, 4000)
  | 84 => (match k with | 1 => (0, 30) | _ => (-2147483648, 2147483647))
  | 88 => (match k with | 1 => (0, 4000) | _ => (-2147483648, 2147483647))
  | 90 => (match k with | 6 => (0, 40) | _ => (-2147483648, 2147483647))
  | 91 => (0, 9999)
  | 92 => (0, 9999)
  | 93 => (0, 9999)
  | 94 => (0, 9999)
  | 95 => (0, 1)
  | 96 => (0, 9999)
  | _ => (-2147483648, 2147483647)
def nnl : Nat → Nat → Bool := fun t _ => match t with
  | 58 => false
  | 61 => false
  | 64 => false
  | 66 => false
  | 85 => false
  | _ => true
theorem k_0 : (pt 0).1 = some 12 ∧ (pt 0).2.1 = 60 := ⟨rfl, rfl⟩
theorem k_1 : (pt 1).1 = none ∧ (pt 1).2.1 = 10 ∧ (pt 1).2.2.1 = .int := ⟨rfl, rfl, rfl⟩
theorem k_2 : (pt 2).1 = none ∧ (pt 2).2.1 = 100 ∧ (pt 2).2.2.1 = .int := ⟨rfl, rfl, rfl⟩
theorem k_3 : (pt 3).1 = none ∧ (pt 3).2.1 = 10 ∧ (pt 3).2.2.1 = .int := ⟨rfl, rfl, rfl⟩
theorem k_4 : (pt 4).1 = none ∧ (pt 4).2.1 = 10 ∧ (pt 4).2.2.1 = .int := ⟨rfl, rfl, rfl⟩
theorem k_5 : (pt 5).1 = none ∧ (pt 5).2.1 = 40 ∧ (pt 5).2.2.1 = .int := ⟨rfl, rfl, rfl⟩
theorem k_6 : (pt 6).1 = none ∧ (pt 6).2.1 = 40 ∧ (pt 6).2.2.1 = .int := ⟨rfl, rfl, rfl⟩
theorem k_7 : (pt 7).1 = none ∧ (pt 7).2.1 = 40 ∧ (pt 7).2.2.1 = .int := ⟨rfl, rfl, rfl⟩
theorem k_8 : (pt 8).1 = none ∧ (pt 8).2.1 = 40 ∧ (pt 8).2.2.1 = .int := ⟨rfl, rfl, rfl⟩
theorem k_9 : (pt 9).1 = none ∧ (pt 9).2.1 = 40 ∧ (pt 9).2.2.1 = .int := ⟨rfl, rfl, rfl⟩
theorem k_10 : (pt 10).1 = none ∧ (pt 10).2.1 = 40 ∧ (pt 10).2.2.1 = .int := ⟨rfl, rfl, rfl⟩
theorem k_11 : (pt 11).1 = none ∧ (pt 11).2.1 = 40 ∧ (pt 11).2.2.1 = .boolean := ⟨rfl, rfl, rfl⟩
theorem k_12 : (pt 12).1 = none ∧ (pt 12).2.1 = 40 ∧ (pt 12).2.2.1 = .int := ⟨rfl, rfl, rfl⟩
theorem k_13 : (pt 13).1 = none ∧ (pt 13).2.1 = 40 ∧ (pt 13).2.2.1 = .int := ⟨rfl, rfl, rfl⟩
theorem k_14 : (pt 14).1 = none ∧ (pt 14).2.1 = 40 ∧ (pt 14).2.2.1 = .int := ⟨rfl, rfl, rfl⟩
theorem k_15 : (pt 15).1 = none ∧ (pt 15).2.1 = 4 ∧ (pt 15).2.2.1 = .int := ⟨rfl, rfl, rfl⟩
theorem k_16 : (pt 16).1 = none ∧ (pt 16).2.1 = 7 ∧ (pt 16).2.2.1 = .int := ⟨rfl, rfl, rfl⟩
theorem k_17 : (pt 17).1 = none ∧ (pt 17).2.1 = 6 ∧ (pt 17).2.2.1 = .int := ⟨rfl, rfl, rfl⟩
theorem k_18 : (pt 18).1 = none ∧ (pt 18).2.1 = 80 ∧ (pt 18).2.2.1 = .int := ⟨rfl, rfl, rfl⟩
theorem k_19 : (pt 19).1 = none ∧ (pt 19).2.1 = 20 ∧ (pt 19).2.2.1 = .int := ⟨rfl, rfl, rfl⟩
theorem k_20 : (pt 20).1 = none ∧ (pt 20).2.1 = 40 ∧ (pt 20).2.2.1 = .boolean := ⟨rfl, rfl, rfl⟩
theorem k_21 : (pt 21).1 = none ∧ (pt 21).2.1 = 30 ∧ (pt 21).2.2.1 = .int := ⟨rfl, rfl, rfl⟩
theorem k_22 : (pt 22).1 = none ∧ (pt 22).2.1 = 30 ∧ (pt 22).2.2.1 = .int := ⟨rfl, rfl, rfl⟩
theorem k_23 : (pt 23).1 = none ∧ (pt 23).2.1 = 30 ∧ (pt 23).2.2.1 = .int := ⟨rfl, rfl, rfl⟩
theorem k_24 : (pt 24).1 = none ∧ (pt 24).2.1 = 30 ∧ (pt 24).2.2.1 = .int := ⟨rfl, rfl, rfl⟩
theorem k_25 : (pt 25).1 = none ∧ (pt 25).2.1 = 30 ∧ (pt 25).2.2.1 = .int := ⟨rfl, rfl, rfl⟩
theorem k_26 : (pt 26).1 = none ∧ (pt 26).2.1 = 40 ∧ (pt 26).2.2.1 = .int := ⟨rfl, rfl, rfl⟩
theorem k_27 : (pt 27).1 = none ∧ (pt 27).2.1 = 40 ∧ (pt 27).2.2.1 = .int := ⟨rfl, rfl, rfl⟩
theorem k_28 : (pt 28).1 = none ∧ (pt 28).2.1 = 40 ∧ (pt 28).2.2.1 = .int := ⟨rfl, rfl, rfl⟩
theorem k_29 : (pt 29).1 = none ∧ (pt 29).2.1 = 40 ∧ (pt 29).2.2.1 = .int := ⟨rfl, rfl, rfl⟩
theorem k_30 : (pt 30).1 = none ∧ (pt 30).2.1 = 40 ∧ (pt 30).2.2.1 = .boolean := ⟨rfl, rfl, rfl⟩
theorem k_31 : (pt 31).1 = none ∧ (pt 31).2.1 = 4 ∧ (pt 31).2.2.1 = .int := ⟨rfl, rfl, rfl⟩
theorem k_32 : (pt 32).1 = none ∧ (pt 32).2.1 = 20 ∧ (pt 32).2.2.1 = .int := ⟨rfl, rfl, rfl⟩
theorem k_33 : (pt 33).1 = none ∧ (pt 33).2.1 = 20 ∧ (pt 33).2.2.1 = .int := ⟨rfl, rfl, rfl⟩
theorem k_34 : (pt 34).1 = none ∧ (pt 34).2.1 = 20 ∧ (pt 34).2.2.1 = .int := ⟨rfl, rfl, rfl⟩
theorem k_35 : (pt 35).1 = none ∧ (pt 35).2.1 = 30 ∧ (pt 35).2.2.1 = .int := ⟨rfl, rfl, rfl⟩
theorem k_36 : (pt 36).1 = none ∧ (pt 36).2.1 = 30 ∧ (pt 36).2.2.1 = .int := ⟨rfl, rfl, rfl⟩
theorem k_37 : (pt 37).1 = none ∧ (pt 37).2.1 = 100 ∧ (pt 37).2.2.1 = .int := ⟨rfl, rfl, rfl⟩
theorem k_38 : (pt 38).1 = none ∧ (pt 38).2.1 = 150 ∧ (pt 38).2.2.1 = .int := ⟨rfl, rfl, rfl⟩
theorem k_39 : (pt 39).1 = none ∧ (pt 39).2.1 = 32 ∧ (pt 39).2.2.1 = .int := ⟨rfl, rfl, rfl⟩
theorem k_40 : (pt 40).1 = none ∧ (pt 40).2.1 = 32 ∧ (pt 40).2.2.1 = .int := ⟨rfl, rfl, rfl⟩
theorem k_41 : (pt 41).1 = none ∧ (pt 41).2.1 = 40 ∧ (pt 41).2.2.1 = .int := ⟨rfl, rfl, rfl⟩
theorem k_42 : (pt 42).1 = none ∧ (pt 42).2.1 = 40 ∧ (pt 42).2.2.1 = .int := ⟨rfl, rfl, rfl⟩
theorem k_43 : (pt 43).1 = none ∧ (pt 43).2.1 = 40 ∧ (pt 43).2.2.1 = .int := ⟨rfl, rfl, rfl⟩
theorem k_44 : (pt 44).1 = none ∧ (pt 44).2.1 = 40 ∧ (pt 44).2.2.1 = .int := ⟨rfl, rfl, rfl⟩
theorem k_45 : (pt 45).1 = none ∧ (pt 45).2.1 = 40 ∧ (pt 45).2.2.1 = .boolean := ⟨rfl, rfl, rfl⟩
theorem k_46 : (pt 46).1 = none ∧ (pt 46).2.1 = 40 ∧ (pt 46).2.2.1 = .int := ⟨rfl, rfl, rfl⟩
theorem k_47 : (pt 47).1 = none ∧ (pt 47).2.1 = 40 ∧ (pt 47).2.2.1 = .int := ⟨rfl, rfl, rfl⟩
theorem k_48 : (pt 48).1 = none ∧ (pt 48).2.1 = 40 ∧ (pt 48).2.2.1 = .int := ⟨rfl, rfl, rfl⟩
theorem k_49 : (pt 49).1 = some 11 ∧ (pt 49).2.1 = 10 := ⟨rfl, rfl⟩
theorem k_50 : (pt 50).1 = none ∧ (pt 50).2.1 = 4 ∧ (pt 50).2.2.1 = .int := ⟨rfl, rfl, rfl⟩
theorem k_51 : (pt 51).1 = none ∧ (pt 51).2.1 = 7 ∧ (pt 51).2.2.1 = .int := ⟨rfl, rfl, rfl⟩
theorem k_52 : (pt 52).1 = some 7 ∧ (pt 52).2.1 = 3 := ⟨rfl, rfl⟩
theorem k_53 : (pt 53).1 = none ∧ (pt 53).2.1 = 10 ∧ (pt 53).2.2.1 = .object "LateClaims$Port" := ⟨rfl, rfl, rfl⟩
theorem k_54 : (pt 54).1 = none ∧ (pt 54).2.1 = 10 ∧ (pt 54).2.2.1 = .array .int := ⟨rfl, rfl, rfl⟩
theorem k_55 : (pt 55).1 = none ∧ (pt 55).2.1 = 10 ∧ (pt 55).2.2.1 = .int := ⟨rfl, rfl, rfl⟩
theorem k_56 : (pt 56).1 = some 6 ∧ (pt 56).2.1 = 4 := ⟨rfl, rfl⟩
theorem k_57 : (pt 57).1 = some 10 ∧ (pt 57).2.1 = 5 := ⟨rfl, rfl⟩
theorem k_58 : (pt 58).1 = none ∧ (pt 58).2.1 = 40 ∧ (pt 58).2.2.1 = .object "LateClaims$Leg" := ⟨rfl, rfl, rfl⟩
theorem k_59 : (pt 59).1 = none ∧ (pt 59).2.1 = 6 ∧ (pt 59).2.2.1 = .int := ⟨rfl, rfl, rfl⟩
theorem k_60 : (pt 60).1 = none ∧ (pt 60).2.1 = 40 ∧ (pt 60).2.2.1 = .boolean := ⟨rfl, rfl, rfl⟩
theorem k_61 : (pt 61).1 = none ∧ (pt 61).2.1 = 40 ∧ (pt 61).2.2.1 = .object "LateClaims$Leg" := ⟨rfl, rfl, rfl⟩
theorem k_62 : (pt 62).1 = some 5 ∧ (pt 62).2.1 = 15 := ⟨rfl, rfl⟩
theorem k_63 : (pt 63).1 = some 9 ∧ (pt 63).2.1 = 2 := ⟨rfl, rfl⟩
theorem k_64 : (pt 64).1 = none ∧ (pt 64).2.1 = 20 ∧ (pt 64).2.2.1 = .object "LateClaims$Ticket" := ⟨rfl, rfl, rfl⟩
theorem k_65 : (pt 65).1 = some 8 ∧ (pt 65).2.1 = 7 := ⟨rfl, rfl⟩
theorem k_66 : (pt 66).1 = none ∧ (pt 66).2.1 = 4 ∧ (pt 66).2.2.1 = .object "LateClaims$Leg" := ⟨rfl, rfl, rfl⟩
theorem k_67 : (pt 67).1 = none ∧ (pt 67).2.1 = 5 ∧ (pt 67).2.2.1 = .int := ⟨rfl, rfl, rfl⟩
theorem k_68 : (pt 68).1 = some 4 ∧ (pt 68).2.1 = 12 := ⟨rfl, rfl⟩
theorem k_69 : (pt 69).1 = none ∧ (pt 69).2.1 = 30 ∧ (pt 69).2.2.1 = .int := ⟨rfl, rfl, rfl⟩
theorem k_70 : (pt 70).1 = none ∧ (pt 70).2.1 = 30 ∧ (pt 70).2.2.1 = .int := ⟨rfl, rfl, rfl⟩
theorem k_71 : (pt 71).1 = none ∧ (pt 71).2.1 = 30 ∧ (pt 71).2.2.1 = .int := ⟨rfl, rfl, rfl⟩
theorem k_72 : (pt 72).1 = none ∧ (pt 72).2.1 = 30 ∧ (pt 72).2.2.1 = .int := ⟨rfl, rfl, rfl⟩
theorem k_73 : (pt 73).1 = none ∧ (pt 73).2.1 = 30 ∧ (pt 73).2.2.1 = .int := ⟨rfl, rfl, rfl⟩
theorem k_74 : (pt 74).1 = none ∧ (pt 74).2.1 = 40 ∧ (pt 74).2.2.1 = .int := ⟨rfl, rfl, rfl⟩
theorem k_75 : (pt 75).1 = none ∧ (pt 75).2.1 = 40 ∧ (pt 75).2.2.1 = .int := ⟨rfl, rfl, rfl⟩
theorem k_76 : (pt 76).1 = none ∧ (pt 76).2.1 = 40 ∧ (pt 76).2.2.1 = .int := ⟨rfl, rfl, rfl⟩
theorem k_77 : (pt 77).1 = none ∧ (pt 77).2.1 = 40 ∧ (pt 77).2.2.1 = .int := ⟨rfl, rfl, rfl⟩
theorem k_78 : (pt 78).1 = none ∧ (pt 78).2.1 = 40 ∧ (pt 78).2.2.1 = .boolean := ⟨rfl, rfl, rfl⟩
theorem k_79 : (pt 79).1 = some 0 ∧ (pt 79).2.1 = 5 := ⟨rfl, rfl⟩
theorem k_80 : (pt 80).1 = none ∧ (pt 80).2.1 = 4 ∧ (pt 80).2.2.1 = .int := ⟨rfl, rfl, rfl⟩
theorem k_81 : (pt 81).1 = none ∧ (pt 81).2.1 = 20 ∧ (pt 81).2.2.1 = .int := ⟨rfl, rfl, rfl⟩
theorem k_82 : (pt 82).1 = none ∧ (pt 82).2.1 = 20 ∧ (pt 82).2.2.1 = .int := ⟨rfl, rfl, rfl⟩
theorem k_83 : (pt 83).1 = none ∧ (pt 83).2.1 = 20 ∧ (pt 83).2.2.1 = .int := ⟨rfl, rfl, rfl⟩
theorem k_84 : (pt 84).1 = some 3 ∧ (pt 84).2.1 = 4 := ⟨rfl, rfl⟩
theorem k_85 : (pt 85).1 = none ∧ (pt 85).2.1 = 30 ∧ (pt 85).2.2.1 = .object "LateClaims$Claim" := ⟨rfl, rfl, rfl⟩
theorem k_86 : (pt 86).1 = none ∧ (pt 86).2.1 = 5 ∧ (pt 86).2.2.1 = .int := ⟨rfl, rfl, rfl⟩
theorem k_87 : (pt 87).1 = none ∧ (pt 87).2.1 = 32 ∧ (pt 87).2.2.1 = .int := ⟨rfl, rfl, rfl⟩
theorem k_88 : (pt 88).1 = some 2 ∧ (pt 88).2.1 = 4 := ⟨rfl, rfl⟩
theorem k_89 : (pt 89).1 = none ∧ (pt 89).2.1 = 5 ∧ (pt 89).2.2.1 = .int := ⟨rfl, rfl, rfl⟩
theorem k_90 : (pt 90).1 = some 1 ∧ (pt 90).2.1 = 11 := ⟨rfl, rfl⟩
theorem k_91 : (pt 91).1 = none ∧ (pt 91).2.1 = 40 ∧ (pt 91).2.2.1 = .int := ⟨rfl, rfl, rfl⟩
theorem k_92 : (pt 92).1 = none ∧ (pt 92).2.1 = 40 ∧ (pt 92).2.2.1 = .int := ⟨rfl, rfl, rfl⟩
theorem k_93 : (pt 93).1 = none ∧ (pt 93).2.1 = 40 ∧ (pt 93).2.2.1 = .int := ⟨rfl, rfl, rfl⟩
theorem k_94 : (pt 94).1 = none ∧ (pt 94).2.1 = 40 ∧ (pt 94).2.2.1 = .int := ⟨rfl, rfl, rfl⟩
theorem k_95 : (pt 95).1 = none ∧ (pt 95).2.1 = 40 ∧ (pt 95).2.2.1 = .boolean := ⟨rfl, rfl, rfl⟩
theorem k_96 : (pt 96).1 = none ∧ (pt 96).2.1 = 40 ∧ (pt 96).2.2.1 = .int := ⟨rfl, rfl, rfl⟩
theorem k_97 : (pt 97).1 = none ∧ (pt 97).2.1 = 40 ∧ (pt 97).2.2.1 = .int := ⟨rfl, rfl, rfl⟩
end
section
abbrev Iv : Type := Nat → Nat → Nat → Int32
abbrev Rv : Type := Nat → Nat → Nat → Option Nat
abbrev Al : Type := (Nat → Nat) × (Nat → Nat → Nat)
theorem fa_lt (a b : Int32) : a < b ↔ a.toInt < b.toInt := Int32.lt_iff_toInt_lt
theorem fa_le (a b : Int32) : a ≤ b ↔ a.toInt ≤ b.toInt := Int32.le_iff_toInt_le
theorem fa_eq (a b : Int32) : a = b ↔ a.toInt = b.toInt := Int32.toInt_inj.symm
theorem fb_rng (x : Int32) : -2147483648 ≤ x.toInt ∧ x.toInt < 2147483648 := by
  have h1 := Int32.le_toInt x
  have h2 := Int32.toInt_lt x
  omega
theorem fb_bmod {z : Int} (h1 : -2147483648 ≤ z) (h2 : z < 2147483648) : z.bmod (2 ^ 32) = z := by
  rw [Int.bmod_eq_of_le (by omega) (by omega)]
theorem fb_addI {x y : Int32} (h1 : -2147483648 ≤ x.toInt + y.toInt) (h2 : x.toInt + y.toInt < 2147483648) : (x + y).toInt = x.toInt + y.toInt := by
  rw [Int32.toInt_add, fb_bmod h1 h2]
theorem fb_subI {x y : Int32} (h1 : -2147483648 ≤ x.toInt - y.toInt) (h2 : x.toInt - y.toInt < 2147483648) : (x - y).toInt = x.toInt - y.toInt := by
  rw [Int32.toInt_sub, fb_bmod h1 h2]
theorem fb_mulI {x y : Int32} (h1 : -2147483648 ≤ x.toInt * y.toInt) (h2 : x.toInt * y.toInt < 2147483648) : (x * y).toInt = x.toInt * y.toInt := by
  rw [Int32.toInt_mul, fb_bmod h1 h2]
theorem fb_negI {x : Int32} (h : x.toInt ≠ -2147483648) : (-x).toInt = -x.toInt := by
  have := fb_rng x
  rw [Int32.toInt_neg, fb_bmod (by omega) (by omega)]
-- the store
def up3 {α : Type} (f : Nat → Nat → Nat → α) (t i k : Nat) (x : α) : Nat → Nat → Nat → α := fun t' i' k' => if t' = t ∧ i' = i ∧ k' = k then x else f t' i' k'
theorem up3_self {α : Type} (f : Nat → Nat → Nat → α) (t i k : Nat) (x : α) : up3 f t i k x t i k = x := by simp [up3]
theorem up3_ne {α : Type} {f : Nat → Nat → Nat → α} {t i k t' i' k' : Nat} {x : α} (h : ¬ (t' = t ∧ i' = i ∧ k' = k)) : up3 f t i k x t' i' k' = f t' i' k' := by simp only [up3, if_neg h]
def rfv (al : Al) (t' : Nat) (r : Option Nat) : Value := va_rf (r.map (al.2 t'))
def vl (al : Al) (iv : Iv) (rv : Rv) (t i k : Nat) : Value := match (pt t).2.2.2 k with
  | none => .int (iv t i k)
  | some t' => rfv al t' (rv t i k)
theorem vl_int {al : Al} {iv : Iv} {rv : Rv} {t i k : Nat} (h : (pt t).2.2.2 k = none) : vl al iv rv t i k = .int (iv t i k) := by simp only [vl, h]
theorem vl_ref {al : Al} {iv : Iv} {rv : Rv} {t i k t' : Nat} (h : (pt t).2.2.2 k = some t') : vl al iv rv t i k = rfv al t' (rv t i k) := by simp only [vl, h]
def cellAt (D : va_G) (cA : FieldType → ClassId) (t a : Nat) (V : Nat → Value) (H : Heap) : Prop := match (pt t).1 with
  | some ci => t_OB a (D.1 ci) (pt t).2.1 (D.2 ci) H V
  | none => H[a]? = some (arrV (cA (pt t).2.2.1) (pt t).2.1 V)
theorem cellAt.ob {D : va_G} {cA : FieldType → ClassId} {t a ci : Nat} {V : Nat → Value} {H : Heap} (h : (pt t).1 = some ci) (g : cellAt D cA t a V H) : t_OB a (D.1 ci) (pt t).2.1 (D.2 ci) H V := by
  simp only [cellAt, h] at g; exact g
theorem cellAt.ofOb {D : va_G} {cA : FieldType → ClassId} {t a ci : Nat} {V : Nat → Value} {H : Heap} (h : (pt t).1 = some ci) (g : t_OB a (D.1 ci) (pt t).2.1 (D.2 ci) H V) : cellAt D cA t a V H := by
  simp only [cellAt, h]; exact g
theorem cellAt.ar {D : va_G} {cA : FieldType → ClassId} {t a : Nat} {V : Nat → Value} {H : Heap} (h : (pt t).1 = none) (g : cellAt D cA t a V H) : H[a]? = some (arrV (cA (pt t).2.2.1) (pt t).2.1 V) := by
  simp only [cellAt, h] at g; exact g
theorem cellAt.ofAr {D : va_G} {cA : FieldType → ClassId} {t a : Nat} {V : Nat → Value} {H : Heap} (h : (pt t).1 = none) (g : H[a]? = some (arrV (cA (pt t).2.2.1) (pt t).2.1 V)) : cellAt D cA t a V H := by
  simp only [cellAt, h]; exact g
theorem cellAt.kept {D : va_G} {cA : FieldType → ClassId} {t a : Nat} {V : Nat → Value} {H H1 : Heap} (g : cellAt D cA t a V H) (h : H1[a]? = H[a]?) : cellAt D cA t a V H1 := by
  cases hp : (pt t).1 with
  | none => exact cellAt.ofAr hp (h.trans (g.ar hp))
  | some ci => exact cellAt.ofOb hp ((g.ob hp).kept h)
theorem cellAt.lt {D : va_G} {cA : FieldType → ClassId} {t a : Nat} {V : Nat → Value} {H : Heap} (g : cellAt D cA t a V H) : a < H.size := by
  cases hp : (pt t).1 with
  | none => exact (Array.getElem?_eq_some_iff.mp (g.ar hp)).1
  | some ci =>
    obtain ⟨cell, h, -⟩ := g.ob hp
    exact (Array.getElem?_eq_some_iff.mp h).1
def Aq (sz : Nat) : Nat → Prop := fun q => sz ≤ q
def UW (D : va_G) (cA : FieldType → ClassId) (sz : Nat) (al : Al) (iv : Iv) (rv : Rv) (H : Heap) : Prop :=
  (∀ t i, i < al.1 t → cellAt D cA t (al.2 t i) (vl al iv rv t i) H) ∧
  (∀ t i t' i', i < al.1 t → i' < al.1 t' → al.2 t i = al.2 t' i' → t = t' ∧ i = i') ∧
  (∀ t i, i < al.1 t → sz ≤ al.2 t i)
theorem UW.wr {D : va_G} {cA : FieldType → ClassId} {sz : Nat} {al : Al} {iv iv' : Iv} {rv rv' : Rv} {H H1 : Heap} (hU : UW D cA sz al iv rv H) {t i : Nat} (hi : i < al.1 t)
    (hc : cellAt D cA t (al.2 t i) (vl al iv' rv' t i) H1) (oq : ∀ q, q ≠ al.2 t i → H1[q]? = H[q]?)
    (hv : ∀ t' i', ¬ (t' = t ∧ i' = i) → ∀ k, vl al iv' rv' t' i' k = vl al iv rv t' i' k) : UW D cA sz al iv' rv' H1 := by
  refine ⟨fun t' i' h => ?_, hU.2.1, hU.2.2⟩
  by_cases e : t' = t ∧ i' = i
  · obtain ⟨rfl, rfl⟩ := e; exact hc
  · have h1 : vl al iv' rv' t' i' = vl al iv rv t' i' := funext (hv t' i' e)
    rw [h1]
    exact (hU.1 t' i' h).kept (oq _ (fun z => e (hU.2.1 t' i' t i h hi z)))
theorem vl_up_int {al : Al} {iv : Iv} {rv : Rv} {t i k : Nat} {x : Int32} (h : (pt t).2.2.2 k = none) : vl al (up3 iv t i k x) rv t i = updV (vl al iv rv t i) k (.int x) := by
  funext j
  by_cases hj : j = k
  · subst hj; rw [vl_int h]; simp [updV, up3]
  · simp only [updV, hj, if_false, vl, up3, and_false]
theorem vl_up_int_ne {al : Al} {iv : Iv} {rv : Rv} {t i k : Nat} {x : Int32} : ∀ t' i', ¬ (t' = t ∧ i' = i) → ∀ j, vl al (up3 iv t i k x) rv t' i' j = vl al iv rv t' i' j := by
  intro t' i' h j
  have e : up3 iv t i k x t' i' j = iv t' i' j := up3_ne (fun q => h ⟨q.1, q.2.1⟩)
  simp only [vl, e]
theorem vl_up_ref {al : Al} {iv : Iv} {rv : Rv} {t i k t' : Nat} {r : Option Nat} (h : (pt t).2.2.2 k = some t') : vl al iv (up3 rv t i k r) t i = updV (vl al iv rv t i) k (rfv al t' r) := by
  funext j
  by_cases hj : j = k
  · subst hj; rw [vl_ref h]; simp [updV, up3]
  · simp only [updV, hj, if_false, vl, up3, and_false]
theorem vl_up_ref_ne {al : Al} {iv : Iv} {rv : Rv} {t i k : Nat} {r : Option Nat} : ∀ t' i', ¬ (t' = t ∧ i' = i) → ∀ j, vl al iv (up3 rv t i k r) t' i' j = vl al iv rv t' i' j := by
  intro t' i' h j
  have e : up3 rv t i k r t' i' j = rv t' i' j := up3_ne (fun q => h ⟨q.1, q.2.1⟩)
  simp only [vl, e]
-- words
def BW : List Cond := lw_tbl.filter goodWord
theorem bw {w : Cond} (i : Nat) (h : lw_tbl[i]? = some w) (g : goodWord w = true) : w ∈ BW := List.mem_filter.mpr ⟨List.mem_of_getElem? h, g⟩
theorem bw_good {w : Cond} (h : w ∈ BW) : goodWord w = true := (List.mem_filter.mp h).2
theorem bw_tbl {w : Cond} (h : w ∈ BW) : w ∈ lw_tbl := (List.mem_filter.mp h).1
def wd (y : MethodName) (cc : ByteArray) (n : Nat) (ret : Option FieldType) : List Cond := Cond.code y cc n ret :: BW
theorem gdw {y : MethodName} {cc : ByteArray} {n : Nat} {ret : Option FieldType} (h : Cond.code y cc n ret ∈ BW) : GoodIn BW (wd y cc n ret) := fun w hw => by
  rcases List.mem_cons.mp hw with rfl | h'
  · exact ⟨h, good_of_word (bw_good h)⟩
  · exact ⟨h', good_of_word (bw_good h')⟩
def aty : List FieldType := [.int, .boolean, .object "LateClaims$Port", .object "LateClaims$Leg", .object "LateClaims$Ticket", .object "LateClaims$Claim", .array .int]
def KU (D : va_G) (cA : FieldType → ClassId) (U : State) : Prop := va_K D vwCl [] U ∧ (∀ ty ∈ aty, ArrOfT U (cA ty) ty ∧ va_RA U (cA ty) ty) ∧
  (va_AO "LateClaims$Port" U ∧ va_AO "LateClaims$Leg" U ∧ va_AO "LateClaims$Ticket" U ∧ va_AO "LateClaims$Claim" U) ∧
  (va_Nw (.methodLinkNest RX7 23 yX11_isOneOf RX11) U ∧ va_Nw (.methodLinkNest RX10 32 yX11_isOneOf RX11) U ∧ va_Nw (.methodLinkNest RX9 19 yX11_isOneOf RX11) U ∧ va_Nw (.methodLinkNest RX3 28 yX11_isOneOf RX11) U)
theorem KU.warm {D : va_G} {cA : FieldType → ClassId} {s U : State} (hW : s.WarmedH U.vm) (h : KU D cA s) : KU D cA U := by
  obtain ⟨h1, h2, ⟨a1, a2, a3, a4⟩, b1, b2, b3, b4⟩ := h
  exact ⟨h1.moved hW.alike, fun ty ht => ⟨arrOfT_moved hW.alike (h2 ty ht).1, (h2 ty ht).2.moved hW.alike⟩, ⟨a1.moved hW.alike, a2.moved hW.alike, a3.moved hW.alike, a4.moved hW.alike⟩, b1.warmM hW, b2.warmM hW, b3.warmM hW, b4.warmM hW⟩
theorem KU.calling {D : va_G} {cA : FieldType → ClassId} {U : State} (h : KU D cA U) (g : JFrame) (mk : MethodId) (a : Array Value) : KU D cA (U.calling g mk a) := by
  obtain ⟨h1, h2, ⟨a1, a2, a3, a4⟩, b1, b2, b3, b4⟩ := h
  have r : U.vm.Alike (U.calling g mk a).vm := Vm.Alike.refl U.vm
  exact ⟨h1.moved r, fun ty ht => ⟨arrOfT_moved r (h2 ty ht).1, (h2 ty ht).2.moved r⟩, ⟨a1.moved r, a2.moved r, a3.moved r, a4.moved r⟩, b1.same rfl rfl, b2.same rfl rfl, b3.same rfl rfl, b4.same rfl rfl⟩
def PcW (D : va_G) (cA : FieldType → ClassId) (sz : Nat) (al : Al) (iv : Iv) (rv : Rv) (vs : List Value) : Array Value → State → Prop := va_Pc vs (fun U => UW D cA sz al iv rv U.heap ∧ KU D cA U)
theorem PcW.blind {D : va_G} {cA : FieldType → ClassId} {sz : Nat} {al : Al} {iv : Iv} {rv : Rv} {vs : List Value} : FrameBlind (PcW D cA sz al iv rv vs) := fun a U g mk q => ⟨q.1, q.2.1, q.2.2.calling g mk a⟩
def QI (D : va_G) (cA : FieldType → ClassId) (sz : Nat) (al : Al) (post : Int32 → Iv → Rv → Prop) : Array Value → State → Outcome → State → Prop := fun _ st oc t =>
  (∃ (r : Int32) (iv : Iv) (rv : Rv), oc = .returned (some (.int r)) ∧ post r iv rv ∧ UW D cA sz al iv rv t.heap) ∧ va_F (Aq sz) st t
def QV (D : va_G) (cA : FieldType → ClassId) (sz : Nat) (al : Al) (post : Iv → Rv → Prop) : Array Value → State → Outcome → State → Prop := fun _ st oc t =>
  (∃ (iv : Iv) (rv : Rv), oc = .returned none ∧ post iv rv ∧ UW D cA sz al iv rv t.heap) ∧ va_F (Aq sz) st t
def QR (D : va_G) (cA : FieldType → ClassId) (sz : Nat) (al : Al) (t' : Nat) (post : Option Nat → Iv → Rv → Prop) : Array Value → State → Outcome → State → Prop := fun _ st oc t =>
  (∃ (r : Option Nat) (iv : Iv) (rv : Rv), oc = .returned (some (rfv al t' r)) ∧ post r iv rv ∧ UW D cA sz al iv rv t.heap) ∧ va_F (Aq sz) st t
/-- the fixed facts of a walk -/
def Cx (p : Program) (s : State) (m : MethodId) (args : Array Value) (c : Code) (cc : ByteArray) (nL : Nat) (own : String) (D : va_G) (cA : FieldType → ClassId) : Prop := CallFix p m c cc nL s args BW own ∧ KU D cA s
def rm (d : Nat) : Room := { frames := d, cells := 0, slots := 0, locals := 40 * d }
def rmA (d mc ms : Nat) : Room := { frames := d, cells := mc, slots := ms, locals := 40 * d }
def VM (y : MethodName) (bytes : ByteArray) (maxL : Nat) (ret : Option FieldType) (n : Nat) : Prop := Cond.code y bytes maxL ret ∈ BW ∧ Cond.instanceMethod y ∈ BW ∧ Cond.selects y.cls y y ∈ BW ∧ Cond.initialized y.cls ∈ BW ∧ (y.cls ≠ "java/lang/invoke/MethodHandle" ∧ y.cls ≠ "java/lang/invoke/VarHandle" ∧ (parseMethodDescriptor y.desc).map (fun d => d.parameters.length) = some n)
def SM (y : MethodName) (bytes : ByteArray) (maxL : Nat) (ret : Option FieldType) (n : Nat) : Prop := Cond.code y bytes maxL ret ∈ BW ∧ Cond.static y ∈ BW ∧ Cond.initialized y.cls ∈ BW ∧ (y.cls ≠ "java/lang/invoke/MethodHandle" ∧ y.cls ≠ "java/lang/invoke/VarHandle" ∧ (parseMethodDescriptor y.desc).map (fun d => d.parameters.length) = some n)
section QR0
variable {p : Program} {l : Launch} {e : Env} {R : Room} {s : State} {m : MethodId} {args : Array Value} {below : List Frame} {meth : Method} {c : Code} {H : Heap} {locs : List Loc} {cells slots : Nat} {Q : State → Prop}
variable {cc : ByteArray} {pc nL : Nat} {ls : Array Slot} {rest : List Value} {own : String} {D : va_G} {cA : FieldType → ClassId} {sz : Nat} {al : Al} {iv : Iv} {rv : Rv}
theorem q_getv (C : Cx p s m args c cc nL own D cA) (hU : UW D cA sz al iv rv H) {t i k ci N index : Nat} {Cn : String} {T : u_T} (kp : (pt t).1 = some ci ∧ (pt t).2.1 = N) (hc : vwCl[ci]? = some (Cn, T, N)) (hin : ∀ w ∈ u_ws Cn T N, w ∈ BW) (hi : i < al.1 t) (hk : k < N) (hT : (T k).1 = Cn)
    (hlink : Cond.fieldLink own index Cn (T k).2.1 (T k).2.2.1 ∈ BW) (hdg : decode cc pc = .ok (.getfield index, 3))
    (kk : W p l e R s m args below meth c H locs cells slots Q (F0 m (pc + 3) ls (vl al iv rv t i k :: rest))) : W p l e R s m args below meth c H locs cells slots Q (F0 m pc ls (.ref (al.2 t i) :: rest)) := by
  obtain ⟨⟨hx, hb, hml, hown, hts⟩, hK⟩ := C
  have hO := (hU.1 t i hi).ob kp.1
  rw [kp.2] at hO
  have hP : va_P D vwCl [(al.2 t i, .inr (ci, (List.range N).map (vl al iv rv t i)))] H := by
    intro j q hq
    have hz : j < 1 := (List.getElem?_eq_some_iff.mp hq).1
    rw [show j = 0 by omega] at hq
    cases hq
    exact ⟨_, hc, hO.to (fun j hj => by simp [vp_V, hj])⟩
  exact va_get (D := D) (ci := ci) (v := vl al iv rv t i k) hx hb hts hin hown hK.1 hP 0 rfl hc k hk (hts _ hlink) (fun _ h => by rw [hT] at h; exact h) (by simp [hk]) hdg kk
theorem q_geti (C : Cx p s m args c cc nL own D cA) (hU : UW D cA sz al iv rv H) {t i k ci N index : Nat} {Cn : String} {T : u_T} (kp : (pt t).1 = some ci ∧ (pt t).2.1 = N) (hc : vwCl[ci]? = some (Cn, T, N)) (hin : ∀ w ∈ u_ws Cn T N, w ∈ BW) (hi : i < al.1 t) (hk : k < N) (hT : (T k).1 = Cn) (htg : (pt t).2.2.2 k = none)
    (hlink : Cond.fieldLink own index Cn (T k).2.1 (T k).2.2.1 ∈ BW) (hdg : decode cc pc = .ok (.getfield index, 3))
    (kk : ∀ x : Int32, x = iv t i k → W p l e R s m args below meth c H locs cells slots Q (F0 m (pc + 3) ls (.int x :: rest))) : W p l e R s m args below meth c H locs cells slots Q (F0 m pc ls (.ref (al.2 t i) :: rest)) :=
  q_getv C hU kp hc hin hi hk hT hlink hdg (by rw [vl_int htg]; exact kk _ rfl)
theorem q_getr (C : Cx p s m args c cc nL own D cA) (hU : UW D cA sz al iv rv H) {t i k t' ci N index : Nat} {Cn : String} {T : u_T} (kp : (pt t).1 = some ci ∧ (pt t).2.1 = N) (hc : vwCl[ci]? = some (Cn, T, N)) (hin : ∀ w ∈ u_ws Cn T N, w ∈ BW) (hi : i < al.1 t) (hk : k < N) (hT : (T k).1 = Cn) (htg : (pt t).2.2.2 k = some t')
    (hlink : Cond.fieldLink own index Cn (T k).2.1 (T k).2.2.1 ∈ BW) (hdg : decode cc pc = .ok (.getfield index, 3)) {j : Nat} (hr : rv t i k = some j)
    (kk : W p l e R s m args below meth c H locs cells slots Q (F0 m (pc + 3) ls (.ref (al.2 t' j) :: rest))) : W p l e R s m args below meth c H locs cells slots Q (F0 m pc ls (.ref (al.2 t i) :: rest)) :=
  q_getv C hU kp hc hin hi hk hT hlink hdg (by rw [vl_ref htg, hr]; exact kk)
theorem q_putv (C : Cx p s m args c cc nL own D cA) (hU : UW D cA sz al iv rv H) (hS : va_S (Aq sz) s.heap H locs) {iv' : Iv} {rv' : Rv} {t i k ci N index : Nat} {Cn : String} {T : u_T} (kp : (pt t).1 = some ci ∧ (pt t).2.1 = N) (hc : vwCl[ci]? = some (Cn, T, N)) (hin : ∀ w ∈ u_ws Cn T N, w ∈ BW)
    (ty0 : Nat → FieldType) (hty : ∀ k, k < N → parseFieldDescriptor (T k).2.2.1 = some (ty0 k)) (hnm : ∀ a, a < N → ∀ b, b < N → a ≠ b → (T a).2.1 ≠ (T b).2.1) (hi : i < al.1 t) (hk : k < N) (hT : (T k).1 = Cn) (hfin : (T k).2.2.2 = false ∨ ((T k).2.2.2 = true ∧ meth.name = "<init>" ∧ Cn = own))
    (hlink : Cond.fieldLink own index Cn (T k).2.1 (T k).2.2.1 ∈ BW) (hdg : decode cc pc = .ok (.putfield index, 3)) {v : Value} (hn : narrow (ty0 k) v = v) (hfit : fits (ty0 k) v = true)
    (hv1 : vl al iv' rv' t i = updV (vl al iv rv t i) k v) (hv2 : ∀ t' i', ¬ (t' = t ∧ i' = i) → ∀ j, vl al iv' rv' t' i' j = vl al iv rv t' i' j)
    (kk : ∀ (H1 : Heap) (locs1 : List Loc), UW D cA sz al iv' rv' H1 → va_S (Aq sz) s.heap H1 locs1 → W p l e R s m args below meth c H1 locs1 cells slots Q (F0 m (pc + 3) ls rest)) : W p l e R s m args below meth c H locs cells slots Q (F0 m pc ls (v :: .ref (al.2 t i) :: rest)) := by
  obtain ⟨⟨hx, hb, hml, hown, hts⟩, hK⟩ := C
  have hO := (hU.1 t i hi).ob kp.1
  rw [kp.2] at hO
  have hap := va_apart (own := own) hts hin ty0 hty hnm hK.1 hc
  obtain ⟨cell, q1, q2, q3, q4⟩ := hO
  obtain ⟨hSl, hfc, kC, hkC, hkind⟩ := hK.1.1 ci _ hc
  obtain ⟨cf, kf, fi, f, hif, hsl⟩ := hSl k hk
  have hst := (u_facts hfc hkC (u_lays hts hin hk) hif).1
  have fin : ∀ H' : Heap, H'[al.2 t i]? = some (cell.setSlot f.slot v) → H'.size = H.size → (∀ q, q ≠ al.2 t i → H'[q]? = H[q]?) → W p l e R s m args below meth c H' (locs ++ [⟨al.2 t i, f.slot⟩]) cells slots Q (F0 m (pc + 3) ls rest) := by
    intro H' e1 e2 e3
    refine kk H' _ (hU.wr hi ?_ e3 hv2) (hS.put e2 e3 (hU.2.2 t i hi))
    refine cellAt.ofOb kp.1 ?_
    rw [kp.2, hv1]
    rw [hsl] at e1
    exact ⟨_, e1, q2, q3, t_set q4 hap hk v⟩
  have hlay := hts _ (hin _ (u_in_lay hk))
  unfold u_lay at hlay
  have hsame : s.fieldFound? Cn (T k).2.1 (T k).2.2.1 = some (cf, kf, fi, f) := by rw [hT] at hif; exact hif
  rcases hfin with hf | ⟨hf, hin2, hdecl⟩
  · rw [if_neg (by rw [hf]; decide)] at hlay
    have h6 := u_store hfc hkC hkind hlay hif (hty k hk) hn hfit
    exact W.putK hx hb (f := f) ⟨hown, hts _ hlink, ⟨_, _, _, hsame⟩, hst⟩ (by rw [q2]; exact h6) q1 q3 (by rw [hsl]; exact k2_hasslot (q4 k hk)) rfl rfl hdg fin
  · rw [if_pos hf] at hlay
    have hcf : m.cls = cf := by
      obtain ⟨_, _, c', _, _, _, -, -, hf', -, -, -, hown2, -⟩ := Cond.laysFinal_spec hlay
      have e1 : c' = cf := by have := hif.symm.trans hf'; simp at this; exact this.1.symm
      rw [hT, hdecl] at hown2
      rw [← e1]; exact Option.some.inj (hown.symm.trans hown2)
    have h6 := u_fits hfc hkC hkind (Or.inr hlay) hif (hty k hk) hn hfit
    exact W.putFinK hx hb hown (hts _ hlink) hsame hst hcf hin2 (by rw [q2]; exact h6) q1 q3 (by rw [hsl]; exact k2_hasslot (q4 k hk)) rfl rfl hdg fin
theorem q_puti (C : Cx p s m args c cc nL own D cA) (hU : UW D cA sz al iv rv H) (hS : va_S (Aq sz) s.heap H locs) {t i k ci N index : Nat} {Cn : String} {T : u_T} (kp : (pt t).1 = some ci ∧ (pt t).2.1 = N) (hc : vwCl[ci]? = some (Cn, T, N)) (hin : ∀ w ∈ u_ws Cn T N, w ∈ BW)
    (ty0 : Nat → FieldType) (hty : ∀ k, k < N → parseFieldDescriptor (T k).2.2.1 = some (ty0 k)) (hnm : ∀ a, a < N → ∀ b, b < N → a ≠ b → (T a).2.1 ≠ (T b).2.1) (hi : i < al.1 t) (hk : k < N) (hT : (T k).1 = Cn) (hfin : (T k).2.2.2 = false ∨ ((T k).2.2.2 = true ∧ meth.name = "<init>" ∧ Cn = own)) (htg : (pt t).2.2.2 k = none)
    (hlink : Cond.fieldLink own index Cn (T k).2.1 (T k).2.2.1 ∈ BW) (hdg : decode cc pc = .ok (.putfield index, 3)) {x : Int32} (hn : narrow (ty0 k) (.int x) = .int x) (hfit : fits (ty0 k) (.int x) = true)
    (kk : ∀ (H1 : Heap) (locs1 : List Loc), UW D cA sz al (up3 iv t i k x) rv H1 → va_S (Aq sz) s.heap H1 locs1 → W p l e R s m args below meth c H1 locs1 cells slots Q (F0 m (pc + 3) ls rest)) : W p l e R s m args below meth c H locs cells slots Q (F0 m pc ls (.int x :: .ref (al.2 t i) :: rest)) :=
  q_putv C hU hS kp hc hin ty0 hty hnm hi hk hT hfin hlink hdg hn hfit (vl_up_int htg) vl_up_int_ne kk
theorem q_putr (C : Cx p s m args c cc nL own D cA) (hU : UW D cA sz al iv rv H) (hS : va_S (Aq sz) s.heap H locs) {t i k t' ci N index : Nat} {Cn : String} {T : u_T} (kp : (pt t).1 = some ci ∧ (pt t).2.1 = N) (hc : vwCl[ci]? = some (Cn, T, N)) (hin : ∀ w ∈ u_ws Cn T N, w ∈ BW)
    (ty0 : Nat → FieldType) (hty : ∀ k, k < N → parseFieldDescriptor (T k).2.2.1 = some (ty0 k)) (hnm : ∀ a, a < N → ∀ b, b < N → a ≠ b → (T a).2.1 ≠ (T b).2.1) (hi : i < al.1 t) (hk : k < N) (hT : (T k).1 = Cn) (hfin : (T k).2.2.2 = false ∨ ((T k).2.2.2 = true ∧ meth.name = "<init>" ∧ Cn = own)) (htg : (pt t).2.2.2 k = some t')
    (hlink : Cond.fieldLink own index Cn (T k).2.1 (T k).2.2.1 ∈ BW) (hdg : decode cc pc = .ok (.putfield index, 3)) {j : Nat} (hn : ∀ a, narrow (ty0 k) (.ref a) = .ref a) (hfit : ∀ a, fits (ty0 k) (.ref a) = true)
    (kk : ∀ (H1 : Heap) (locs1 : List Loc), UW D cA sz al iv (up3 rv t i k (some j)) H1 → va_S (Aq sz) s.heap H1 locs1 → W p l e R s m args below meth c H1 locs1 cells slots Q (F0 m (pc + 3) ls rest)) : W p l e R s m args below meth c H locs cells slots Q (F0 m pc ls (.ref (al.2 t' j) :: .ref (al.2 t i) :: rest)) :=
  q_putv C hU hS kp hc hin ty0 hty hnm hi hk hT hfin hlink hdg (hn _) (hfit _) (vl_up_ref htg) vl_up_ref_ne kk
end QR0
end
