theorem bw0 {w : Cond} (i : Nat) (h : (k2_sels lw_privs)[i]? = some w) (g : goodWord w = true) : w ∈ BW := List.mem_filter.mpr ⟨List.mem_append.mpr (Or.inl (List.mem_of_getElem? h)), g⟩
theorem bw1 {w : Cond} (i : Nat) (h : tables_1_1[i]? = some w) (g : goodWord w = true) : w ∈ BW := List.mem_filter.mpr ⟨List.mem_append.mpr (Or.inr (List.mem_append.mpr (Or.inl (List.mem_of_getElem? h)))), g⟩
theorem bw2 {w : Cond} (i : Nat) (h : tables_1_2[i]? = some w) (g : goodWord w = true) : w ∈ BW := List.mem_filter.mpr ⟨List.mem_append.mpr (Or.inr (List.mem_append.mpr (Or.inr (List.mem_append.mpr (Or.inl (List.mem_of_getElem? h)))))), g⟩
theorem bw3 {w : Cond} (i : Nat) (h : tables_1_3[i]? = some w) (g : goodWord w = true) : w ∈ BW := List.mem_filter.mpr ⟨List.mem_append.mpr (Or.inr (List.mem_append.mpr (Or.inr (List.mem_append.mpr (Or.inr (List.mem_append.mpr (Or.inl (List.mem_of_getElem? h)))))))), g⟩
theorem bw4 {w : Cond} (i : Nat) (h : tables_1_4[i]? = some w) (g : goodWord w = true) : w ∈ BW := List.mem_filter.mpr ⟨List.mem_append.mpr (Or.inr (List.mem_append.mpr (Or.inr (List.mem_append.mpr (Or.inr (List.mem_append.mpr (Or.inr (List.mem_append.mpr (Or.inl (List.mem_of_getElem? h)))))))))), g⟩
theorem bw5 {w : Cond} (i : Nat) (h : tables_1_5[i]? = some w) (g : goodWord w = true) : w ∈ BW := List.mem_filter.mpr ⟨List.mem_append.mpr (Or.inr (List.mem_append.mpr (Or.inr (List.mem_append.mpr (Or.inr (List.mem_append.mpr (Or.inr (List.mem_append.mpr (Or.inr (List.mem_append.mpr (Or.inl (List.mem_of_getElem? h)))))))))))), g⟩
theorem bw6 {w : Cond} (i : Nat) (h : tables_1_6[i]? = some w) (g : goodWord w = true) : w ∈ BW := List.mem_filter.mpr ⟨List.mem_append.mpr (Or.inr (List.mem_append.mpr (Or.inr (List.mem_append.mpr (Or.inr (List.mem_append.mpr (Or.inr (List.mem_append.mpr (Or.inr (List.mem_append.mpr (Or.inr (List.mem_of_getElem? h)))))))))))), g⟩
theorem ht0 {w : Cond} (h : w ∈ (k2_sels lw_privs)) (g : goodWord w = true) : w ∈ BW := List.mem_filter.mpr ⟨List.mem_append.mpr (Or.inl (h)), g⟩
theorem ht1 {w : Cond} (h : w ∈ tables_1_1) (g : goodWord w = true) : w ∈ BW := List.mem_filter.mpr ⟨List.mem_append.mpr (Or.inr (List.mem_append.mpr (Or.inl (h)))), g⟩
theorem ht2 {w : Cond} (h : w ∈ tables_1_2) (g : goodWord w = true) : w ∈ BW := List.mem_filter.mpr ⟨List.mem_append.mpr (Or.inr (List.mem_append.mpr (Or.inr (List.mem_append.mpr (Or.inl (h)))))), g⟩
theorem ht3 {w : Cond} (h : w ∈ tables_1_3) (g : goodWord w = true) : w ∈ BW := List.mem_filter.mpr ⟨List.mem_append.mpr (Or.inr (List.mem_append.mpr (Or.inr (List.mem_append.mpr (Or.inr (List.mem_append.mpr (Or.inl (h)))))))), g⟩
theorem ht4 {w : Cond} (h : w ∈ tables_1_4) (g : goodWord w = true) : w ∈ BW := List.mem_filter.mpr ⟨List.mem_append.mpr (Or.inr (List.mem_append.mpr (Or.inr (List.mem_append.mpr (Or.inr (List.mem_append.mpr (Or.inr (List.mem_append.mpr (Or.inl (h)))))))))), g⟩
theorem ht5 {w : Cond} (h : w ∈ tables_1_5) (g : goodWord w = true) : w ∈ BW := List.mem_filter.mpr ⟨List.mem_append.mpr (Or.inr (List.mem_append.mpr (Or.inr (List.mem_append.mpr (Or.inr (List.mem_append.mpr (Or.inr (List.mem_append.mpr (Or.inr (List.mem_append.mpr (Or.inl (h)))))))))))), g⟩
theorem ht6 {w : Cond} (h : w ∈ tables_1_6) (g : goodWord w = true) : w ∈ BW := List.mem_filter.mpr ⟨List.mem_append.mpr (Or.inr (List.mem_append.mpr (Or.inr (List.mem_append.mpr (Or.inr (List.mem_append.mpr (Or.inr (List.mem_append.mpr (Or.inr (List.mem_append.mpr (Or.inr (h)))))))))))), g⟩
theorem zg {T : List Cond} (hT : ∀ {w : Cond}, w ∈ T → goodWord w = true → w ∈ BW) {l : List (Nat × Cond)} (h : l.all (fun q => decide (T[q.1]? = some q.2) && goodWord q.2) = true) {i n : Nat} {w : Cond} (e : l[i]? = some (n, w)) : w ∈ BW := by
  have z : (decide (T[n]? = some w) && goodWord w) = true := List.all_eq_true.mp h (n, w) (List.mem_of_getElem? e)
  rw [Bool.and_eq_true] at z
  exact hT (List.mem_of_getElem? (of_decide_eq_true z.1)) z.2
def zw0_0 : List (Nat × Cond) := [(0, Cond.selects RX11 yX11_refuse yX11_refuse), (1, Cond.selects RX7 yX7_move yX7_move), (2, Cond.selects RX11 yX11_refuseBeyond yX11_refuseBeyond), (3, Cond.selects RX11 yX11_waitOf yX11_waitOf), (4, Cond.selects RX11 yX11_gapFor yX11_gapFor), (5, Cond.selects RX11 yX11_handedTo yX11_handedTo), (6, Cond.selects RX11 yX11_soonestOf yX11_soonestOf), (7, Cond.selects RX10 yX10_reach yX10_reach), (8, Cond.selects RX11 yX11_hoursOf yX11_hoursOf), (9, Cond.selects RX11 yX11_blameOf yX11_blameOf), (10, Cond.selects RX11 yX11_sumFor yX11_sumFor), (11, Cond.selects RX4 yX4_hasRows yX4_hasRows), (12, Cond.selects RX4 yX4_isInForce yX4_isInForce), (13, Cond.selects RX11 yX11_milesOf yX11_milesOf), (14, Cond.selects RX11 yX11_isBarred yX11_isBarred), (15, Cond.selects RX0 yX0_nextStop yX0_nextStop), (16, Cond.selects RX11 yX11_worthOf yX11_worthOf), (17, Cond.selects RX11 yX11_settleUp yX11_settleUp), (18, Cond.selects RX3 yX3_togetherIn yX3_togetherIn), (19, Cond.selects RX11 yX11_chooseLike yX11_chooseLike), (20, Cond.selects RX1 yX1_leastFar yX1_leastFar), (21, Cond.selects RX11 yX11_countBarred yX11_countBarred), (22, Cond.selects RX12 yX12_refuse yX12_refuse), (23, Cond.selects RX12 yX12_refuseFar yX12_refuseFar), (24, Cond.selects RX12 yX12_isLeg yX12_isLeg), (25, Cond.selects RX12 yX12_lateOf yX12_lateOf), (26, Cond.selects RX12 yX12_rightArrive yX12_rightArrive), (27, Cond.selects RX12 yX12_outlateOf yX12_outlateOf), (28, Cond.selects RX12 yX12_rightLeave yX12_rightLeave), (29, Cond.selects RX12 yX12_waitOf yX12_waitOf), (30, Cond.selects RX12 yX12_aheadOf yX12_aheadOf), (31, Cond.selects RX12 yX12_handedOf yX12_handedOf), (32, Cond.selects RX12 yX12_isByCrew yX12_isByCrew), (33, Cond.selects RX12 yX12_findMinutes yX12_findMinutes), (34, Cond.selects RX12 yX12_isTraveller yX12_isTraveller), (35, Cond.selects RX12 yX12_missedOf yX12_missedOf), (36, Cond.selects RX12 yX12_soonestOf yX12_soonestOf), (37, Cond.selects RX12 yX12_lastLeg yX12_lastLeg), (38, Cond.selects RX12 yX12_hoursOf yX12_hoursOf), (39, Cond.selects RX12 yX12_blameOf yX12_blameOf)]
set_option maxRecDepth 20000 in
theorem zc0_0 : zw0_0.all (fun q => decide ((k2_sels lw_privs)[q.1]? = some q.2) && goodWord q.2) = true := by decide +kernel
def zw0_1 : List (Nat × Cond) := [(40, Cond.selects RX12 yX12_sumOf yX12_sumOf), (41, Cond.selects RX12 yX12_lawOf yX12_lawOf), (42, Cond.selects RX12 yX12_firstLeg yX12_firstLeg), (43, Cond.selects RX12 yX12_hasLaw yX12_hasLaw), (44, Cond.selects RX12 yX12_isExcused yX12_isExcused), (45, Cond.selects RX12 yX12_milesOf yX12_milesOf), (46, Cond.selects RX12 yX12_isClaim yX12_isClaim), (47, Cond.selects RX12 yX12_isBarred yX12_isBarred), (48, Cond.selects RX12 yX12_worthOf yX12_worthOf), (49, Cond.selects RX12 yX12_settledOf yX12_settledOf), (50, Cond.selects RX12 yX12_dueOf yX12_dueOf), (51, Cond.selects RX12 yX12_balanceOf yX12_balanceOf), (52, Cond.selects RX12 yX12_findLike yX12_findLike)]
set_option maxRecDepth 20000 in
theorem zc0_1 : zw0_1.all (fun q => decide ((k2_sels lw_privs)[q.1]? = some q.2) && goodWord q.2) = true := by decide +kernel
def zw1_0 : List (Nat × Cond) := [(0, Cond.initialized RL), (1, Cond.initialized RX11), (2, Cond.initialized RX7), (3, Cond.initialized RX6), (4, Cond.initialized RX10), (5, Cond.initialized RX9), (6, Cond.initialized RX4), (7, Cond.initialized RX0), (8, Cond.initialized RJ7), (9, Cond.initialized RX3), (10, Cond.initialized RX1), (11, Cond.initialized RX12), (12, Cond.initialized RJ9), (13, Cond.initialized RX5), (14, Cond.initialized RX8), (15, Cond.initialized RX2), (16, Cond.classLink RL 7 "LateClaims"), (17, Cond.instantiable RX11 10), (18, Cond.methodLink RL 9 yX11_init), (24, Cond.classLink RX11 7 "LateClaims$Ports"), (25, Cond.instantiable RX7 3), (26, Cond.methodLink RX11 9 yX7_init), (30, Cond.classLink RX7 9 "LateClaims$Port"), (32, Cond.instantiable RX6 4), (33, Cond.methodLink RX7 15 yX6_init), (37, Cond.fieldLink RX6 7 "LateClaims$Port" "number" "I"), (38, Cond.fieldLink RX7 29 "LateClaims$Port" "number" "I"), (39, Cond.fieldLink RX11 89 "LateClaims$Port" "land" "I"), (40, Cond.fieldLink RX4 62 "LateClaims$Port" "land" "I"), (41, Cond.fieldLink RX6 13 "LateClaims$Port" "least" "I"), (42, Cond.fieldLink RX7 33 "LateClaims$Port" "least" "I"), (43, Cond.fieldLink RX5 45 "LateClaims$Port" "ahead" "I"), (44, Cond.fieldLink RX7 36 "LateClaims$Port" "ahead" "I"), (45, Cond.fieldLink RX11 112 "LateClaims$Port" "ahead" "I"), (55, Cond.classLink RX7 18 "[[I"), (57, Cond.fieldLink RX7 11 "LateClaims$Ports" "all" "[LLateClaims$Port;"), (58, Cond.fieldLink RX7 20 "LateClaims$Ports" "distances" "[[I"), (59, Cond.fieldLink RX7 39 "LateClaims$Ports" "quarrels" "I"), (60, Cond.fieldLink RX11 332 "LateClaims$Ports" "quarrels" "I"), (68, Cond.arrayClass .int)]
set_option maxRecDepth 20000 in
theorem zc1_0 : zw1_0.all (fun q => decide (tables_1_1[q.1]? = some q.2) && goodWord q.2) = true := by decide +kernel
def zw1_1 : List (Nat × Cond) := [(69, Cond.classLink RX11 16 "LateClaims$Timetable"), (70, Cond.instantiable RX10 5), (71, Cond.methodLink RX11 18 yX10_init), (75, Cond.classLink RX10 11 "LateClaims$Leg"), (77, Cond.fieldLink RX10 13 "LateClaims$Timetable" "all" "[LLateClaims$Leg;"), (78, Cond.fieldLink RX10 28 "LateClaims$Timetable" "size" "I"), (79, Cond.fieldLink RX11 321 "LateClaims$Timetable" "size" "I"), (80, Cond.fieldLink RX10 17 "LateClaims$Timetable" "minutesBy" "[I"), (81, Cond.fieldLink RX11 174 "LateClaims$Timetable" "minutesBy" "[I"), (82, Cond.fieldLink RX10 21 "LateClaims$Timetable" "reached" "[Z"), (83, Cond.fieldLink RX10 25 "LateClaims$Timetable" "onTheWay" "[LLateClaims$Leg;"), (95, Cond.arrayClass .boolean), (96, Cond.classLink RX11 23 "LateClaims$Tickets"), (97, Cond.instantiable RX9 2), (98, Cond.methodLink RX11 25 yX9_init), (102, Cond.classLink RX9 9 "LateClaims$Ticket"), (104, Cond.fieldLink RX9 11 "LateClaims$Tickets" "all" "[LLateClaims$Ticket;"), (105, Cond.fieldLink RX9 15 "LateClaims$Tickets" "size" "I"), (106, Cond.fieldLink RX11 325 "LateClaims$Tickets" "size" "I"), (112, Cond.classLink RX11 30 "LateClaims$Laws"), (113, Cond.instantiable RX4 12), (114, Cond.methodLink RX11 32 yX4_init), (118, Cond.fieldLink RX4 11 "LateClaims$Laws" "lands" "[I"), (119, Cond.fieldLink RX4 15 "LateClaims$Laws" "fromDays" "[I"), (120, Cond.fieldLink RX4 18 "LateClaims$Laws" "fromMinutes" "[I"), (121, Cond.fieldLink RX4 21 "LateClaims$Laws" "fromMiles" "[I"), (122, Cond.fieldLink RX4 24 "LateClaims$Laws" "sums" "[I"), (123, Cond.fieldLink RX4 43 "LateClaims$Laws" "size" "I"), (124, Cond.fieldLink RX11 326 "LateClaims$Laws" "size" "I"), (125, Cond.fieldLink RX4 27 "LateClaims$Laws" "excuseLands" "[I"), (126, Cond.fieldLink RX4 30 "LateClaims$Laws" "excuseCauses" "[I"), (127, Cond.fieldLink RX4 33 "LateClaims$Laws" "excuseDays" "[I"), (128, Cond.fieldLink RX4 36 "LateClaims$Laws" "toldDays" "[I"), (129, Cond.fieldLink RX4 39 "LateClaims$Laws" "excused" "[Z"), (130, Cond.fieldLink RX4 47 "LateClaims$Laws" "excuses" "I"), (156, Cond.classLink RX11 37 "LateClaims$Bars"), (157, Cond.instantiable RX0 5), (158, Cond.methodLink RX11 39 yX0_init), (162, Cond.methodLink RX0 15 yJ7_fill_53178), (165, Cond.fieldLink RX0 9 "LateClaims$Bars" "daysIn" "[I")]
set_option maxRecDepth 20000 in
theorem zc1_1 : zw1_1.all (fun q => decide (tables_1_1[q.1]? = some q.2) && goodWord q.2) = true := by decide +kernel
def zw1_2 : List (Nat × Cond) := [(166, Cond.fieldLink RX11 247 "LateClaims$Bars" "daysIn" "[I"), (167, Cond.fieldLink RX0 21 "LateClaims$Bars" "stopLands" "[I"), (168, Cond.fieldLink RX0 24 "LateClaims$Bars" "stopFroms" "[I"), (169, Cond.fieldLink RX0 27 "LateClaims$Bars" "stopTos" "[I"), (170, Cond.fieldLink RX0 30 "LateClaims$Bars" "stops" "I"), (182, Cond.classLink RX11 44 "LateClaims$Claims"), (183, Cond.instantiable RX3 4), (184, Cond.methodLink RX11 46 yX3_init), (188, Cond.classLink RX3 11 "LateClaims$Claim"), (190, Cond.fieldLink RX3 13 "LateClaims$Claims" "all" "[LLateClaims$Claim;"), (191, Cond.fieldLink RX11 390 "LateClaims$Claims" "all" "[LLateClaims$Claim;"), (192, Cond.fieldLink RX3 24 "LateClaims$Claims" "size" "I"), (193, Cond.fieldLink RX11 327 "LateClaims$Claims" "size" "I"), (194, Cond.fieldLink RX3 17 "LateClaims$Claims" "balances" "[I"), (195, Cond.fieldLink RX11 298 "LateClaims$Claims" "balances" "[I"), (196, Cond.fieldLink RX3 21 "LateClaims$Claims" "parted" "[I"), (206, Cond.classLink RX11 51 "LateClaims$Cases"), (207, Cond.instantiable RX1 11), (208, Cond.methodLink RX11 53 yX1_init), (212, Cond.fieldLink RX1 11 "LateClaims$Cases" "lands" "[I"), (213, Cond.fieldLink RX1 15 "LateClaims$Cases" "causes" "[I"), (214, Cond.fieldLink RX1 18 "LateClaims$Cases" "minutesLate" "[I"), (215, Cond.fieldLink RX1 21 "LateClaims$Cases" "milesFlown" "[I"), (216, Cond.fieldLink RX1 24 "LateClaims$Cases" "wins" "[Z"), (217, Cond.fieldLink RX1 28 "LateClaims$Cases" "costs" "[I"), (218, Cond.fieldLink RX1 34 "LateClaims$Cases" "size" "I"), (219, Cond.fieldLink RX11 331 "LateClaims$Cases" "size" "I"), (220, Cond.fieldLink RX1 31 "LateClaims$Cases" "far" "[I"), (221, Cond.fieldLink RX1 44 "LateClaims$Cases" "chosen" "I"), (222, Cond.fieldLink RX11 315 "LateClaims$Cases" "chosen" "I"), (223, Cond.fieldLink RX1 47 "LateClaims$Cases" "chosenWon" "I"), (224, Cond.fieldLink RX11 312 "LateClaims$Cases" "chosenWon" "I"), (225, Cond.fieldLink RX1 50 "LateClaims$Cases" "chosenCost" "I"), (19, Cond.instanceMethod yX11_init), (27, Cond.instanceMethod yX7_init), (34, Cond.instanceMethod yX6_init), (72, Cond.instanceMethod yX10_init), (99, Cond.instanceMethod yX9_init), (115, Cond.instanceMethod yX4_init), (159, Cond.instanceMethod yX0_init)]
set_option maxRecDepth 20000 in
theorem zc1_2 : zw1_2.all (fun q => decide (tables_1_1[q.1]? = some q.2) && goodWord q.2) = true := by decide +kernel
def zw1_3 : List (Nat × Cond) := [(163, Cond.static yJ7_fill_53178), (185, Cond.instanceMethod yX3_init), (209, Cond.instanceMethod yX1_init)]
set_option maxRecDepth 20000 in
theorem zc1_3 : zw1_3.all (fun q => decide (tables_1_1[q.1]? = some q.2) && goodWord q.2) = true := by decide +kernel
def zw2_0 : List (Nat × Cond) := [(9, Cond.fieldLink RX11 58 "LateClaims" "FIRST_SETTING" "[I"), (17, Cond.classLink RX11 63 "[I"), (18, Cond.fieldLink RX11 10 "LateClaims" "ports" "LLateClaims$Ports;"), (19, Cond.fieldLink RX11 19 "LateClaims" "timetable" "LLateClaims$Timetable;"), (20, Cond.fieldLink RX11 26 "LateClaims" "tickets" "LLateClaims$Tickets;"), (21, Cond.fieldLink RX11 33 "LateClaims" "laws" "LLateClaims$Laws;"), (22, Cond.fieldLink RX11 40 "LateClaims" "bars" "LLateClaims$Bars;"), (23, Cond.fieldLink RX11 47 "LateClaims" "claims" "LLateClaims$Claims;"), (24, Cond.fieldLink RX11 54 "LateClaims" "cases" "LLateClaims$Cases;"), (25, Cond.fieldLink RX11 67 "LateClaims" "settings" "[I"), (26, Cond.fieldLink RX11 70 "LateClaims" "refusals" "[I"), (27, Cond.fieldLink RX11 73 "LateClaims" "today" "I"), (49, Cond.methodLink RL 13 yX11_days), (53, Cond.methodLink RX11 77 yX11_refuse), (57, Cond.methodLink RX11 85 yX11_isOneOf), (60, Cond.methodLink RL 18 yX11_land), (64, Cond.methodLink RX11 81 yX7_find), (69, Cond.methodLink RL 23 yX11_miles), (73, Cond.methodLink RX11 94 yX7_milesBetween), (77, Cond.methodLink RX11 98 yX7_setMiles), (81, Cond.methodLink RL 28 yX11_seen), (85, Cond.methodLink RX11 102 yX7_take), (89, Cond.methodLink RX7 42 yX7_move), (93, Cond.methodLink RX11 106 yX10_putRight), (97, Cond.methodLink RX10 43 yX5_putRight), (101, Cond.methodLink RX5 50 yJ9_max_7cf53), (104, Cond.methodLink RL 32 yX11_off), (108, Cond.methodLink RX11 109 yX11_refuseBeyond), (112, Cond.constant RX11 335 1000000000), (113, Cond.methodLink RL 36 yX11_leg), (117, Cond.methodLink RX11 115 yX10_isFull), (121, Cond.methodLink RX11 119 yX10_add), (125, Cond.instantiable RX5 15), (126, Cond.methodLink RX10 36 yX5_init), (130, Cond.fieldLink RX5 7 "LateClaims$Leg" "number" "I"), (131, Cond.fieldLink RX11 167 "LateClaims$Leg" "number" "I"), (132, Cond.fieldLink RX5 13 "LateClaims$Leg" "from" "LLateClaims$Port;"), (133, Cond.fieldLink RX8 35 "LateClaims$Leg" "from" "LLateClaims$Port;"), (134, Cond.fieldLink RX4 56 "LateClaims$Leg" "from" "LLateClaims$Port;"), (135, Cond.fieldLink RX10 56 "LateClaims$Leg" "from" "LLateClaims$Port;")]
set_option maxRecDepth 20000 in
theorem zc2_0 : zw2_0.all (fun q => decide (tables_1_2[q.1]? = some q.2) && goodWord q.2) = true := by decide +kernel
def zw2_1 : List (Nat × Cond) := [(136, Cond.fieldLink RX11 354 "LateClaims$Leg" "from" "LLateClaims$Port;"), (137, Cond.fieldLink RX5 17 "LateClaims$Leg" "to" "LLateClaims$Port;"), (138, Cond.fieldLink RX8 39 "LateClaims$Leg" "to" "LLateClaims$Port;"), (139, Cond.fieldLink RX4 74 "LateClaims$Leg" "to" "LLateClaims$Port;"), (140, Cond.fieldLink RX10 52 "LateClaims$Leg" "to" "LLateClaims$Port;"), (141, Cond.fieldLink RX11 358 "LateClaims$Leg" "to" "LLateClaims$Port;"), (142, Cond.fieldLink RX5 20 "LateClaims$Leg" "plane" "I"), (143, Cond.fieldLink RX10 49 "LateClaims$Leg" "plane" "I"), (144, Cond.fieldLink RX5 23 "LateClaims$Leg" "crew" "I"), (145, Cond.fieldLink RX10 46 "LateClaims$Leg" "crew" "I"), (146, Cond.fieldLink RX5 26 "LateClaims$Leg" "leave" "I"), (147, Cond.fieldLink RX8 42 "LateClaims$Leg" "leave" "I"), (148, Cond.fieldLink RX10 59 "LateClaims$Leg" "leave" "I"), (149, Cond.fieldLink RX11 177 "LateClaims$Leg" "leave" "I"), (150, Cond.fieldLink RX5 29 "LateClaims$Leg" "arrive" "I"), (151, Cond.fieldLink RX8 45 "LateClaims$Leg" "arrive" "I"), (152, Cond.fieldLink RX10 62 "LateClaims$Leg" "arrive" "I"), (153, Cond.fieldLink RX11 365 "LateClaims$Leg" "arrive" "I"), (154, Cond.fieldLink RX5 38 "LateClaims$Leg" "logged" "Z"), (155, Cond.fieldLink RX10 39 "LateClaims$Leg" "logged" "Z"), (156, Cond.fieldLink RX8 48 "LateClaims$Leg" "logged" "Z"), (157, Cond.fieldLink RX11 126 "LateClaims$Leg" "logged" "Z"), (158, Cond.fieldLink RX5 32 "LateClaims$Leg" "left" "I"), (159, Cond.fieldLink RX5 35 "LateClaims$Leg" "arrived" "I"), (160, Cond.fieldLink RX5 56 "LateClaims$Leg" "rightLeft" "I"), (161, Cond.fieldLink RX8 52 "LateClaims$Leg" "rightLeft" "I"), (162, Cond.fieldLink RX10 101 "LateClaims$Leg" "rightLeft" "I"), (163, Cond.fieldLink RX11 186 "LateClaims$Leg" "rightLeft" "I"), (164, Cond.fieldLink RX5 59 "LateClaims$Leg" "rightArrived" "I"), (165, Cond.fieldLink RX8 55 "LateClaims$Leg" "rightArrived" "I"), (166, Cond.fieldLink RX10 98 "LateClaims$Leg" "rightArrived" "I"), (167, Cond.fieldLink RX11 347 "LateClaims$Leg" "rightArrived" "I"), (168, Cond.fieldLink RX5 62 "LateClaims$Leg" "outlate" "I"), (169, Cond.fieldLink RX11 148 "LateClaims$Leg" "outlate" "I"), (170, Cond.fieldLink RX5 65 "LateClaims$Leg" "late" "I"), (171, Cond.fieldLink RX10 71 "LateClaims$Leg" "late" "I"), (172, Cond.fieldLink RX11 145 "LateClaims$Leg" "late" "I"), (173, Cond.fieldLink RX10 91 "LateClaims$Leg" "cause" "I"), (174, Cond.fieldLink RX11 136 "LateClaims$Leg" "cause" "I"), (206, Cond.methodLink RL 41 yX11_log)]
set_option maxRecDepth 20000 in
theorem zc2_1 : zw2_1.all (fun q => decide (tables_1_2[q.1]? = some q.2) && goodWord q.2) = true := by decide +kernel
def zw2_2 : List (Nat × Cond) := [(210, Cond.methodLink RX11 123 yX10_find), (215, Cond.methodLink RX11 132 yX5_enter), (219, Cond.methodLink RX5 42 yX5_putRight), (220, Cond.methodLink RL 45 yX11_cause), (224, Cond.methodLink RL 49 yX11_set), (228, Cond.fieldLink RX11 139 "LateClaims" "LEAST_SETTING" "[I"), (230, Cond.fieldLink RX11 142 "LateClaims" "GREATEST_SETTING" "[I"), (232, Cond.methodLink RL 53 yX11_legOf), (236, Cond.methodLink RX11 151 yX11_waitOf), (50, Cond.instanceMethod yX11_days), (51, Cond.selects RX11 yX11_days yX11_days), (55, Cond.instanceMethod yX11_refuse), (58, Cond.static yX11_isOneOf), (61, Cond.instanceMethod yX11_land), (62, Cond.selects RX11 yX11_land yX11_land), (65, Cond.instanceMethod yX7_find), (66, Cond.selects RX7 yX7_find yX7_find), (70, Cond.instanceMethod yX11_miles), (71, Cond.selects RX11 yX11_miles yX11_miles), (74, Cond.instanceMethod yX7_milesBetween), (75, Cond.selects RX7 yX7_milesBetween yX7_milesBetween), (78, Cond.instanceMethod yX7_setMiles), (79, Cond.selects RX7 yX7_setMiles yX7_setMiles), (82, Cond.instanceMethod yX11_seen), (83, Cond.selects RX11 yX11_seen yX11_seen), (86, Cond.instanceMethod yX7_take), (87, Cond.selects RX7 yX7_take yX7_take), (91, Cond.instanceMethod yX7_move), (94, Cond.instanceMethod yX10_putRight), (95, Cond.selects RX10 yX10_putRight yX10_putRight), (98, Cond.instanceMethod yX5_putRight), (99, Cond.selects RX5 yX5_putRight yX5_putRight), (102, Cond.static yJ9_max_7cf53), (105, Cond.instanceMethod yX11_off), (106, Cond.selects RX11 yX11_off yX11_off), (110, Cond.instanceMethod yX11_refuseBeyond), (114, Cond.instanceMethod yX11_leg), (115, Cond.selects RX11 yX11_leg yX11_leg), (118, Cond.instanceMethod yX10_isFull), (119, Cond.selects RX10 yX10_isFull yX10_isFull)]
set_option maxRecDepth 20000 in
theorem zc2_2 : zw2_2.all (fun q => decide (tables_1_2[q.1]? = some q.2) && goodWord q.2) = true := by decide +kernel
def zw2_3 : List (Nat × Cond) := [(122, Cond.instanceMethod yX10_add), (123, Cond.selects RX10 yX10_add yX10_add), (127, Cond.instanceMethod yX5_init), (207, Cond.instanceMethod yX11_log), (208, Cond.selects RX11 yX11_log yX11_log), (211, Cond.instanceMethod yX10_find), (212, Cond.selects RX10 yX10_find yX10_find), (216, Cond.instanceMethod yX5_enter), (217, Cond.selects RX5 yX5_enter yX5_enter), (221, Cond.instanceMethod yX11_cause), (222, Cond.selects RX11 yX11_cause yX11_cause), (225, Cond.instanceMethod yX11_set), (226, Cond.selects RX11 yX11_set yX11_set), (233, Cond.instanceMethod yX11_legOf), (234, Cond.selects RX11 yX11_legOf yX11_legOf), (238, Cond.instanceMethod yX11_waitOf)]
set_option maxRecDepth 20000 in
theorem zc2_3 : zw2_3.all (fun q => decide (tables_1_2[q.1]? = some q.2) && goodWord q.2) = true := by decide +kernel
def zw3_0 : List (Nat × Cond) := [(0, Cond.methodLink RX11 159 yX11_gapFor), (4, Cond.methodLink RX11 163 yX10_aheadOf), (8, Cond.methodLink RX11 336 yX5_waitFor), (12, Cond.methodLink RX5 68 yJ9_min_7cf53), (15, Cond.methodLink RX11 155 yX11_handedTo), (19, Cond.methodLink RX11 180 yJ9_max_7cf53), (20, Cond.methodLink RX11 340 yJ9_min_7cf53), (21, Cond.methodLink RL 57 yX11_ahead), (25, Cond.methodLink RL 62 yX11_minutes), (29, Cond.methodLink RX11 170 yX10_trace), (33, Cond.methodLink RX10 65 yJ7_fill_53178), (34, Cond.methodLink RX10 74 yX10_aheadOf), (35, Cond.methodLink RX10 78 yX5_waitFor), (36, Cond.methodLink RX10 82 yJ9_max_7cf53), (37, Cond.methodLink RX10 88 yJ9_min_7cf53), (38, Cond.methodLink RL 66 yX11_saved), (42, Cond.methodLink RL 70 yX11_traveller), (46, Cond.methodLink RX11 189 yX9_isFull), (50, Cond.methodLink RX11 190 yX9_add), (54, Cond.instantiable RX8 7), (55, Cond.methodLink RX9 25 yX8_init), (59, Cond.classLink RX8 22 "LateClaims$Leg"), (60, Cond.fieldLink RX8 9 "LateClaims$Ticket" "number" "I"), (61, Cond.fieldLink RX11 270 "LateClaims$Ticket" "number" "I"), (62, Cond.fieldLink RX8 15 "LateClaims$Ticket" "first" "LLateClaims$Leg;"), (63, Cond.fieldLink RX4 50 "LateClaims$Ticket" "first" "LLateClaims$Leg;"), (64, Cond.fieldLink RX11 381 "LateClaims$Ticket" "first" "LLateClaims$Leg;"), (65, Cond.fieldLink RX8 19 "LateClaims$Ticket" "last" "LLateClaims$Leg;"), (66, Cond.fieldLink RX4 71 "LateClaims$Ticket" "last" "LLateClaims$Leg;"), (67, Cond.fieldLink RX11 343 "LateClaims$Ticket" "last" "LLateClaims$Leg;"), (68, Cond.fieldLink RX8 24 "LateClaims$Ticket" "legs" "[LLateClaims$Leg;"), (69, Cond.fieldLink RX11 350 "LateClaims$Ticket" "legs" "[LLateClaims$Leg;"), (70, Cond.fieldLink RX8 28 "LateClaims$Ticket" "size" "I"), (71, Cond.fieldLink RX11 205 "LateClaims$Ticket" "size" "I"), (72, Cond.fieldLink RX8 31 "LateClaims$Ticket" "owed" "[I"), (73, Cond.fieldLink RX2 23 "LateClaims$Ticket" "owed" "[I"), (74, Cond.fieldLink RX11 285 "LateClaims$Ticket" "owed" "[I"), (75, Cond.fieldLink RX3 35 "LateClaims$Ticket" "claimed" "Z"), (76, Cond.fieldLink RX11 255 "LateClaims$Ticket" "claimed" "Z"), (92, Cond.methodLink RL 74 yX11_then)]
set_option maxRecDepth 20000 in
theorem zc3_0 : zw3_0.all (fun q => decide (tables_1_3[q.1]? = some q.2) && goodWord q.2) = true := by decide +kernel
def zw3_1 : List (Nat × Cond) := [(96, Cond.methodLink RX11 192 yX9_find), (101, Cond.methodLink RX11 195 yX8_isFollowedBy), (105, Cond.methodLink RX11 201 yX8_isFull), (109, Cond.methodLink RX11 202 yX8_add), (113, Cond.methodLink RL 78 yX11_missed), (117, Cond.methodLink RX11 208 yX8_missedPlace), (121, Cond.methodLink RL 82 yX11_soonest), (125, Cond.methodLink RX11 211 yX11_soonestOf), (129, Cond.methodLink RX11 361 yX10_soonestBy), (133, Cond.methodLink RX10 94 yX10_reach), (137, Cond.methodLink RL 86 yX11_hours), (141, Cond.methodLink RX11 215 yX11_hoursOf), (145, Cond.methodLink RL 90 yX11_blame), (149, Cond.methodLink RX11 218 yX11_blameOf), (153, Cond.methodLink RX11 368 yX8_legAtFault), (157, Cond.methodLink RX8 58 yX8_missedPlace), (158, Cond.methodLink RX11 371 yX10_greatestCause), (162, Cond.methodLink RL 94 yX11_law), (166, Cond.methodLink RX11 221 yX4_isFull), (170, Cond.methodLink RX11 222 yX4_add), (174, Cond.methodLink RL 99 yX11_excuse), (178, Cond.methodLink RX11 225 yX4_isFullOfExcuses), (182, Cond.methodLink RX11 228 yX4_addExcuse), (186, Cond.methodLink RL 104 yX11_sum), (190, Cond.methodLink RX11 232 yX11_sumFor), (194, Cond.methodLink RX11 236 yX4_landFor), (198, Cond.methodLink RX4 67 yX4_hasRows), (202, Cond.methodLink RX4 77 yX4_isInForce), (206, Cond.methodLink RX11 239 yX8_leaveDay), (210, Cond.methodLink RX11 243 yX4_isExcused), (214, Cond.methodLink RX11 374 yX11_milesOf), (218, Cond.methodLink RX11 377 yX4_greatestSum), (222, Cond.methodLink RL 108 yX11_bar), (226, Cond.methodLink RL 112 yX11_stop), (230, Cond.methodLink RX11 250 yX0_isFull), (234, Cond.methodLink RX11 251 yX0_addStop), (238, Cond.methodLink RL 116 yX11_claim), (2, Cond.instanceMethod yX11_gapFor), (5, Cond.instanceMethod yX10_aheadOf), (6, Cond.selects RX10 yX10_aheadOf yX10_aheadOf)]
set_option maxRecDepth 20000 in
theorem zc3_1 : zw3_1.all (fun q => decide (tables_1_3[q.1]? = some q.2) && goodWord q.2) = true := by decide +kernel
def zw3_2 : List (Nat × Cond) := [(9, Cond.instanceMethod yX5_waitFor), (10, Cond.selects RX5 yX5_waitFor yX5_waitFor), (13, Cond.static yJ9_min_7cf53), (17, Cond.instanceMethod yX11_handedTo), (22, Cond.instanceMethod yX11_ahead), (23, Cond.selects RX11 yX11_ahead yX11_ahead), (26, Cond.instanceMethod yX11_minutes), (27, Cond.selects RX11 yX11_minutes yX11_minutes), (30, Cond.instanceMethod yX10_trace), (31, Cond.selects RX10 yX10_trace yX10_trace), (39, Cond.instanceMethod yX11_saved), (40, Cond.selects RX11 yX11_saved yX11_saved), (43, Cond.instanceMethod yX11_traveller), (44, Cond.selects RX11 yX11_traveller yX11_traveller), (47, Cond.instanceMethod yX9_isFull), (48, Cond.selects RX9 yX9_isFull yX9_isFull), (51, Cond.instanceMethod yX9_add), (52, Cond.selects RX9 yX9_add yX9_add), (56, Cond.instanceMethod yX8_init), (93, Cond.instanceMethod yX11_then), (94, Cond.selects RX11 yX11_then yX11_then), (97, Cond.instanceMethod yX9_find), (98, Cond.selects RX9 yX9_find yX9_find), (102, Cond.instanceMethod yX8_isFollowedBy), (103, Cond.selects RX8 yX8_isFollowedBy yX8_isFollowedBy), (106, Cond.instanceMethod yX8_isFull), (107, Cond.selects RX8 yX8_isFull yX8_isFull), (110, Cond.instanceMethod yX8_add), (111, Cond.selects RX8 yX8_add yX8_add), (114, Cond.instanceMethod yX11_missed), (115, Cond.selects RX11 yX11_missed yX11_missed), (118, Cond.instanceMethod yX8_missedPlace), (119, Cond.selects RX8 yX8_missedPlace yX8_missedPlace), (122, Cond.instanceMethod yX11_soonest), (123, Cond.selects RX11 yX11_soonest yX11_soonest), (127, Cond.instanceMethod yX11_soonestOf), (130, Cond.instanceMethod yX10_soonestBy), (131, Cond.selects RX10 yX10_soonestBy yX10_soonestBy), (135, Cond.instanceMethod yX10_reach), (138, Cond.instanceMethod yX11_hours)]
set_option maxRecDepth 20000 in
theorem zc3_2 : zw3_2.all (fun q => decide (tables_1_3[q.1]? = some q.2) && goodWord q.2) = true := by decide +kernel
def zw3_3 : List (Nat × Cond) := [(139, Cond.selects RX11 yX11_hours yX11_hours), (143, Cond.instanceMethod yX11_hoursOf), (146, Cond.instanceMethod yX11_blame), (147, Cond.selects RX11 yX11_blame yX11_blame), (151, Cond.instanceMethod yX11_blameOf), (154, Cond.instanceMethod yX8_legAtFault), (155, Cond.selects RX8 yX8_legAtFault yX8_legAtFault), (159, Cond.instanceMethod yX10_greatestCause), (160, Cond.selects RX10 yX10_greatestCause yX10_greatestCause), (163, Cond.instanceMethod yX11_law), (164, Cond.selects RX11 yX11_law yX11_law), (167, Cond.instanceMethod yX4_isFull), (168, Cond.selects RX4 yX4_isFull yX4_isFull), (171, Cond.instanceMethod yX4_add), (172, Cond.selects RX4 yX4_add yX4_add), (175, Cond.instanceMethod yX11_excuse), (176, Cond.selects RX11 yX11_excuse yX11_excuse), (179, Cond.instanceMethod yX4_isFullOfExcuses), (180, Cond.selects RX4 yX4_isFullOfExcuses yX4_isFullOfExcuses), (183, Cond.instanceMethod yX4_addExcuse), (184, Cond.selects RX4 yX4_addExcuse yX4_addExcuse), (187, Cond.instanceMethod yX11_sum), (188, Cond.selects RX11 yX11_sum yX11_sum), (192, Cond.instanceMethod yX11_sumFor), (195, Cond.instanceMethod yX4_landFor), (196, Cond.selects RX4 yX4_landFor yX4_landFor), (200, Cond.instanceMethod yX4_hasRows), (204, Cond.instanceMethod yX4_isInForce), (207, Cond.instanceMethod yX8_leaveDay), (208, Cond.selects RX8 yX8_leaveDay yX8_leaveDay), (211, Cond.instanceMethod yX4_isExcused), (212, Cond.selects RX4 yX4_isExcused yX4_isExcused), (216, Cond.instanceMethod yX11_milesOf), (219, Cond.instanceMethod yX4_greatestSum), (220, Cond.selects RX4 yX4_greatestSum yX4_greatestSum), (223, Cond.instanceMethod yX11_bar), (224, Cond.selects RX11 yX11_bar yX11_bar), (227, Cond.instanceMethod yX11_stop), (228, Cond.selects RX11 yX11_stop yX11_stop), (231, Cond.instanceMethod yX0_isFull)]
set_option maxRecDepth 20000 in
theorem zc3_3 : zw3_3.all (fun q => decide (tables_1_3[q.1]? = some q.2) && goodWord q.2) = true := by decide +kernel
def zw3_4 : List (Nat × Cond) := [(232, Cond.selects RX0 yX0_isFull yX0_isFull), (235, Cond.instanceMethod yX0_addStop), (236, Cond.selects RX0 yX0_addStop yX0_addStop), (239, Cond.instanceMethod yX11_claim)]
set_option maxRecDepth 20000 in
theorem zc3_4 : zw3_4.all (fun q => decide (tables_1_3[q.1]? = some q.2) && goodWord q.2) = true := by decide +kernel
def zw4_0 : List (Nat × Cond) := [(2, Cond.methodLink RX11 258 yX3_isFull), (6, Cond.methodLink RX11 259 yX3_add), (10, Cond.instantiable RX2 4), (11, Cond.methodLink RX3 32 yX2_init), (15, Cond.fieldLink RX2 9 "LateClaims$Claim" "ticket" "LLateClaims$Ticket;"), (16, Cond.fieldLink RX11 264 "LateClaims$Claim" "ticket" "LLateClaims$Ticket;"), (17, Cond.fieldLink RX2 15 "LateClaims$Claim" "day" "I"), (18, Cond.fieldLink RX11 271 "LateClaims$Claim" "day" "I"), (19, Cond.fieldLink RX2 19 "LateClaims$Claim" "paid" "[I"), (20, Cond.fieldLink RX3 41 "LateClaims$Claim" "paid" "[I"), (21, Cond.fieldLink RX11 289 "LateClaims$Claim" "paid" "[I"), (22, Cond.fieldLink RX11 282 "LateClaims$Claim" "settled" "I"), (32, Cond.methodLink RL 120 yX11_claimOf), (36, Cond.methodLink RX11 261 yX3_find), (41, Cond.methodLink RX11 274 yX11_isBarred), (45, Cond.methodLink RX11 384 yX8_arriveDay), (49, Cond.methodLink RX11 387 yX0_daysThatRan), (53, Cond.methodLink RX0 34 yX0_nextStop), (57, Cond.methodLink RX0 38 yJ9_min_7cf53), (58, Cond.methodLink RX0 43 yJ9_max_7cf53), (59, Cond.methodLink RX11 278 yX11_worthOf), (63, Cond.methodLink RL 124 yX11_owes), (67, Cond.methodLink RL 128 yX11_pay), (71, Cond.constant RX11 288 99999), (72, Cond.methodLink RL 132 yX11_due), (76, Cond.methodLink RX11 292 yX2_partOf), (80, Cond.methodLink RX2 28 yJ9_min_7cf53), (81, Cond.methodLink RL 136 yX11_balance), (85, Cond.methodLink RX11 295 yX11_settleUp), (89, Cond.methodLink RX11 394 yJ7_fill_53178), (90, Cond.methodLink RX11 400 yX3_addToBalances), (94, Cond.methodLink RX3 44 yX2_partOf), (95, Cond.methodLink RL 140 yX11_back), (99, Cond.methodLink RX11 301 yX3_fewestPayments), (103, Cond.methodLink RX3 48 yX3_togetherIn), (107, Cond.methodLink RX3 52 yJ9_max_7cf53), (108, Cond.methodLink RL 145 yX11_judged), (112, Cond.methodLink RX11 304 yX1_isFull), (116, Cond.methodLink RX11 305 yX1_add), (120, Cond.methodLink RL 150 yX11_odds)]
set_option maxRecDepth 20000 in
theorem zc4_0 : zw4_0.all (fun q => decide (tables_1_4[q.1]? = some q.2) && goodWord q.2) = true := by decide +kernel
def zw4_1 : List (Nat × Cond) := [(124, Cond.methodLink RX11 308 yX11_chooseLike), (128, Cond.methodLink RX11 404 yX1_measure), (132, Cond.methodLink RX1 38 yJ9_abs_0f7a4), (135, Cond.methodLink RX11 408 yX1_choose), (139, Cond.methodLink RX1 53 yX1_leastFar), (143, Cond.methodLink RX11 318 yX1_goingOnTimesChosen), (147, Cond.methodLink RL 154 yX11_good), (151, Cond.methodLink RL 158 yX11_count), (155, Cond.methodLink RX11 322 yX10_countLogged), (159, Cond.methodLink RX11 328 yX11_countBarred), (163, Cond.classLink RL 10 "LateClaimsModel"), (164, Cond.instantiable RX12 60), (165, Cond.methodLink RL 12 yX12_init), (169, Cond.fieldLink RX12 168 "LateClaimsModel" "day" "I"), (170, Cond.fieldLink RX12 7 "LateClaimsModel" "land" "[I"), (171, Cond.fieldLink RX12 13 "LateClaimsModel" "miles" "[I"), (172, Cond.fieldLink RX12 16 "LateClaimsModel" "least" "[I"), (173, Cond.fieldLink RX12 19 "LateClaimsModel" "off" "[I"), (174, Cond.fieldLink RX12 175 "LateClaimsModel" "quarrels" "I"), (175, Cond.fieldLink RX12 160 "LateClaimsModel" "legs" "I"), (176, Cond.fieldLink RX12 22 "LateClaimsModel" "from" "[I"), (177, Cond.fieldLink RX12 25 "LateClaimsModel" "to" "[I"), (178, Cond.fieldLink RX12 28 "LateClaimsModel" "plane" "[I"), (179, Cond.fieldLink RX12 31 "LateClaimsModel" "crew" "[I"), (180, Cond.fieldLink RX12 34 "LateClaimsModel" "leave" "[I"), (181, Cond.fieldLink RX12 37 "LateClaimsModel" "arrive" "[I"), (182, Cond.fieldLink RX12 40 "LateClaimsModel" "isDone" "[Z"), (183, Cond.fieldLink RX12 44 "LateClaimsModel" "left" "[I"), (184, Cond.fieldLink RX12 47 "LateClaimsModel" "arrived" "[I"), (185, Cond.fieldLink RX12 50 "LateClaimsModel" "causeOf" "[I"), (186, Cond.fieldLink RX12 53 "LateClaimsModel" "settings" "[I"), (187, Cond.fieldLink RX12 56 "LateClaimsModel" "refused" "[I"), (188, Cond.fieldLink RX12 59 "LateClaimsModel" "byCause" "[I"), (189, Cond.fieldLink RX12 223 "LateClaimsModel" "travellers" "I"), (190, Cond.fieldLink RX12 62 "LateClaimsModel" "rows" "[I"), (191, Cond.fieldLink RX12 65 "LateClaimsModel" "rowMany" "[I"), (192, Cond.fieldLink RX12 68 "LateClaimsModel" "isReached" "[Z"), (193, Cond.fieldLink RX12 247 "LateClaimsModel" "laws" "I"), (194, Cond.fieldLink RX12 71 "LateClaimsModel" "lawLand" "[I"), (195, Cond.fieldLink RX12 74 "LateClaimsModel" "lawDay" "[I")]
set_option maxRecDepth 20000 in
theorem zc4_1 : zw4_1.all (fun q => decide (tables_1_4[q.1]? = some q.2) && goodWord q.2) = true := by decide +kernel
def zw4_2 : List (Nat × Cond) := [(196, Cond.fieldLink RX12 77 "LateClaimsModel" "lawMinutes" "[I"), (197, Cond.fieldLink RX12 80 "LateClaimsModel" "lawMiles" "[I"), (198, Cond.fieldLink RX12 83 "LateClaimsModel" "lawSum" "[I"), (199, Cond.fieldLink RX12 250 "LateClaimsModel" "excuses" "I"), (200, Cond.fieldLink RX12 86 "LateClaimsModel" "excuseLand" "[I"), (201, Cond.fieldLink RX12 89 "LateClaimsModel" "excuseCause" "[I"), (202, Cond.fieldLink RX12 92 "LateClaimsModel" "excuseDay" "[I"), (203, Cond.fieldLink RX12 95 "LateClaimsModel" "excuseTold" "[I"), (204, Cond.fieldLink RX12 98 "LateClaimsModel" "isExcuse" "[Z"), (205, Cond.fieldLink RX12 101 "LateClaimsModel" "bars" "[I"), (206, Cond.fieldLink RX12 272 "LateClaimsModel" "stops" "I"), (207, Cond.fieldLink RX12 104 "LateClaimsModel" "stopLand" "[I"), (208, Cond.fieldLink RX12 107 "LateClaimsModel" "stopFrom" "[I"), (209, Cond.fieldLink RX12 110 "LateClaimsModel" "stopTo" "[I"), (210, Cond.fieldLink RX12 275 "LateClaimsModel" "claims" "I"), (211, Cond.fieldLink RX12 113 "LateClaimsModel" "claimOwner" "[I"), (212, Cond.fieldLink RX12 116 "LateClaimsModel" "claimDay" "[I"), (213, Cond.fieldLink RX12 119 "LateClaimsModel" "owed" "[I"), (214, Cond.fieldLink RX12 122 "LateClaimsModel" "paid" "[I"), (215, Cond.fieldLink RX12 125 "LateClaimsModel" "sumOfSet" "[I"), (216, Cond.fieldLink RX12 128 "LateClaimsModel" "partsOf" "[I"), (217, Cond.fieldLink RX12 300 "LateClaimsModel" "cases" "I"), (218, Cond.fieldLink RX12 131 "LateClaimsModel" "caseLand" "[I"), (219, Cond.fieldLink RX12 134 "LateClaimsModel" "caseCause" "[I"), (220, Cond.fieldLink RX12 137 "LateClaimsModel" "caseMinutes" "[I"), (221, Cond.fieldLink RX12 140 "LateClaimsModel" "caseMiles" "[I"), (222, Cond.fieldLink RX12 143 "LateClaimsModel" "isWon" "[Z"), (223, Cond.fieldLink RX12 146 "LateClaimsModel" "caseCost" "[I"), (224, Cond.fieldLink RX12 306 "LateClaimsModel" "likeMany" "I"), (225, Cond.fieldLink RX12 309 "LateClaimsModel" "likeWon" "I"), (226, Cond.fieldLink RX12 312 "LateClaimsModel" "likeCost" "I"), (227, Cond.fieldLink RX12 149 "LateClaimsModel" "like" "[I"), (228, Cond.fieldLink RX12 152 "LateClaimsModel" "likeFar" "[I"), (0, Cond.selects RX11 yX11_claim yX11_claim), (3, Cond.instanceMethod yX3_isFull), (4, Cond.selects RX3 yX3_isFull yX3_isFull), (7, Cond.instanceMethod yX3_add), (8, Cond.selects RX3 yX3_add yX3_add), (12, Cond.instanceMethod yX2_init), (33, Cond.instanceMethod yX11_claimOf)]
set_option maxRecDepth 20000 in
theorem zc4_2 : zw4_2.all (fun q => decide (tables_1_4[q.1]? = some q.2) && goodWord q.2) = true := by decide +kernel
def zw4_3 : List (Nat × Cond) := [(34, Cond.selects RX11 yX11_claimOf yX11_claimOf), (37, Cond.instanceMethod yX3_find), (38, Cond.selects RX3 yX3_find yX3_find), (43, Cond.instanceMethod yX11_isBarred), (46, Cond.instanceMethod yX8_arriveDay), (47, Cond.selects RX8 yX8_arriveDay yX8_arriveDay), (50, Cond.instanceMethod yX0_daysThatRan), (51, Cond.selects RX0 yX0_daysThatRan yX0_daysThatRan), (55, Cond.instanceMethod yX0_nextStop), (61, Cond.instanceMethod yX11_worthOf), (64, Cond.instanceMethod yX11_owes), (65, Cond.selects RX11 yX11_owes yX11_owes), (68, Cond.instanceMethod yX11_pay), (69, Cond.selects RX11 yX11_pay yX11_pay), (73, Cond.instanceMethod yX11_due), (74, Cond.selects RX11 yX11_due yX11_due), (77, Cond.instanceMethod yX2_partOf), (78, Cond.selects RX2 yX2_partOf yX2_partOf), (82, Cond.instanceMethod yX11_balance), (83, Cond.selects RX11 yX11_balance yX11_balance), (87, Cond.instanceMethod yX11_settleUp), (91, Cond.instanceMethod yX3_addToBalances), (92, Cond.selects RX3 yX3_addToBalances yX3_addToBalances), (96, Cond.instanceMethod yX11_back), (97, Cond.selects RX11 yX11_back yX11_back), (100, Cond.instanceMethod yX3_fewestPayments), (101, Cond.selects RX3 yX3_fewestPayments yX3_fewestPayments), (105, Cond.instanceMethod yX3_togetherIn), (109, Cond.instanceMethod yX11_judged), (110, Cond.selects RX11 yX11_judged yX11_judged), (113, Cond.instanceMethod yX1_isFull), (114, Cond.selects RX1 yX1_isFull yX1_isFull), (117, Cond.instanceMethod yX1_add), (118, Cond.selects RX1 yX1_add yX1_add), (121, Cond.instanceMethod yX11_odds), (122, Cond.selects RX11 yX11_odds yX11_odds), (126, Cond.instanceMethod yX11_chooseLike), (129, Cond.instanceMethod yX1_measure), (130, Cond.selects RX1 yX1_measure yX1_measure), (133, Cond.static yJ9_abs_0f7a4)]
set_option maxRecDepth 20000 in
theorem zc4_3 : zw4_3.all (fun q => decide (tables_1_4[q.1]? = some q.2) && goodWord q.2) = true := by decide +kernel
def zw4_4 : List (Nat × Cond) := [(136, Cond.instanceMethod yX1_choose), (137, Cond.selects RX1 yX1_choose yX1_choose), (141, Cond.instanceMethod yX1_leastFar), (144, Cond.instanceMethod yX1_goingOnTimesChosen), (145, Cond.selects RX1 yX1_goingOnTimesChosen yX1_goingOnTimesChosen), (148, Cond.instanceMethod yX11_good), (149, Cond.selects RX11 yX11_good yX11_good), (152, Cond.instanceMethod yX11_count), (153, Cond.selects RX11 yX11_count yX11_count), (156, Cond.instanceMethod yX10_countLogged), (157, Cond.selects RX10 yX10_countLogged yX10_countLogged), (161, Cond.instanceMethod yX11_countBarred), (166, Cond.instanceMethod yX12_init)]
set_option maxRecDepth 20000 in
theorem zc4_4 : zw4_4.all (fun q => decide (tables_1_4[q.1]? = some q.2) && goodWord q.2) = true := by decide +kernel
def zw5_0 : List (Nat × Cond) := [(110, Cond.methodLink RL 17 yX12_days), (114, Cond.methodLink RX12 164 yX12_refuse), (118, Cond.methodLink RL 22 yX12_land), (122, Cond.methodLink RX12 171 yX12_isPort), (125, Cond.methodLink RX12 156 yX12_in), (128, Cond.methodLink RL 27 yX12_miles), (132, Cond.methodLink RL 31 yX12_seen), (136, Cond.methodLink RL 35 yX12_off), (140, Cond.methodLink RX12 178 yX12_refuseFar), (144, Cond.constant RX12 155 1000000000), (145, Cond.methodLink RL 40 yX12_leg), (149, Cond.methodLink RL 44 yX12_log), (153, Cond.methodLink RX12 181 yX12_isLeg), (157, Cond.methodLink RL 48 yX12_cause), (161, Cond.methodLink RX12 184 yX12_isCause), (164, Cond.methodLink RL 52 yX12_set), (168, Cond.methodLink RL 56 yX12_legOf), (172, Cond.methodLink RX12 210 yX12_lateOf), (176, Cond.methodLink RX12 190 yX12_rightArrive), (180, Cond.methodLink RX12 187 yX12_over), (183, Cond.methodLink RX12 200 yX12_outlateOf), (187, Cond.methodLink RX12 193 yX12_rightLeave), (191, Cond.methodLink RX12 207 yX12_waitOf), (195, Cond.methodLink RX12 196 yX12_aheadOf), (199, Cond.methodLink RX12 203 yX12_lesser), (202, Cond.methodLink RX12 216 yX12_handedOf), (206, Cond.methodLink RX12 213 yX12_isByCrew), (210, Cond.methodLink RL 61 yX12_ahead), (214, Cond.methodLink RL 65 yX12_minutes), (218, Cond.methodLink RX12 219 yX12_findMinutes), (222, Cond.methodLink RL 69 yX12_saved), (226, Cond.methodLink RL 73 yX12_traveller), (230, Cond.methodLink RL 77 yX12_then), (234, Cond.methodLink RX12 226 yX12_isTraveller), (238, Cond.methodLink RL 81 yX12_missed), (111, Cond.instanceMethod yX12_days), (112, Cond.selects RX12 yX12_days yX12_days), (116, Cond.instanceMethod yX12_refuse), (119, Cond.instanceMethod yX12_land), (120, Cond.selects RX12 yX12_land yX12_land)]
set_option maxRecDepth 20000 in
theorem zc5_0 : zw5_0.all (fun q => decide (tables_1_5[q.1]? = some q.2) && goodWord q.2) = true := by decide +kernel
def zw5_1 : List (Nat × Cond) := [(123, Cond.static yX12_isPort), (126, Cond.static yX12_in), (129, Cond.instanceMethod yX12_miles), (130, Cond.selects RX12 yX12_miles yX12_miles), (133, Cond.instanceMethod yX12_seen), (134, Cond.selects RX12 yX12_seen yX12_seen), (137, Cond.instanceMethod yX12_off), (138, Cond.selects RX12 yX12_off yX12_off), (142, Cond.instanceMethod yX12_refuseFar), (146, Cond.instanceMethod yX12_leg), (147, Cond.selects RX12 yX12_leg yX12_leg), (150, Cond.instanceMethod yX12_log), (151, Cond.selects RX12 yX12_log yX12_log), (155, Cond.instanceMethod yX12_isLeg), (158, Cond.instanceMethod yX12_cause), (159, Cond.selects RX12 yX12_cause yX12_cause), (162, Cond.static yX12_isCause), (165, Cond.instanceMethod yX12_set), (166, Cond.selects RX12 yX12_set yX12_set), (169, Cond.instanceMethod yX12_legOf), (170, Cond.selects RX12 yX12_legOf yX12_legOf), (174, Cond.instanceMethod yX12_lateOf), (178, Cond.instanceMethod yX12_rightArrive), (181, Cond.static yX12_over), (185, Cond.instanceMethod yX12_outlateOf), (189, Cond.instanceMethod yX12_rightLeave), (193, Cond.instanceMethod yX12_waitOf), (197, Cond.instanceMethod yX12_aheadOf), (200, Cond.static yX12_lesser), (204, Cond.instanceMethod yX12_handedOf), (208, Cond.instanceMethod yX12_isByCrew), (211, Cond.instanceMethod yX12_ahead), (212, Cond.selects RX12 yX12_ahead yX12_ahead), (215, Cond.instanceMethod yX12_minutes), (216, Cond.selects RX12 yX12_minutes yX12_minutes), (220, Cond.instanceMethod yX12_findMinutes), (223, Cond.instanceMethod yX12_saved), (224, Cond.selects RX12 yX12_saved yX12_saved), (227, Cond.instanceMethod yX12_traveller), (228, Cond.selects RX12 yX12_traveller yX12_traveller)]
set_option maxRecDepth 20000 in
theorem zc5_1 : zw5_1.all (fun q => decide (tables_1_5[q.1]? = some q.2) && goodWord q.2) = true := by decide +kernel
def zw5_2 : List (Nat × Cond) := [(231, Cond.instanceMethod yX12_then), (232, Cond.selects RX12 yX12_then yX12_then), (236, Cond.instanceMethod yX12_isTraveller), (239, Cond.instanceMethod yX12_missed)]
set_option maxRecDepth 20000 in
theorem zc5_2 : zw5_2.all (fun q => decide (tables_1_5[q.1]? = some q.2) && goodWord q.2) = true := by decide +kernel
def zw6_0 : List (Nat × Cond) := [(2, Cond.methodLink RX12 229 yX12_missedOf), (6, Cond.methodLink RL 85 yX12_soonest), (10, Cond.methodLink RX12 235 yX12_soonestOf), (14, Cond.methodLink RX12 232 yX12_lastLeg), (18, Cond.methodLink RL 89 yX12_hours), (22, Cond.methodLink RX12 238 yX12_hoursOf), (26, Cond.methodLink RL 93 yX12_blame), (30, Cond.methodLink RX12 241 yX12_blameOf), (34, Cond.methodLink RL 98 yX12_law), (38, Cond.methodLink RX12 244 yX12_isLand), (41, Cond.methodLink RL 103 yX12_excuse), (45, Cond.methodLink RL 107 yX12_sum), (49, Cond.methodLink RX12 269 yX12_sumOf), (53, Cond.methodLink RX12 260 yX12_lawOf), (57, Cond.methodLink RX12 253 yX12_firstLeg), (61, Cond.methodLink RX12 256 yX12_hasLaw), (65, Cond.methodLink RX12 263 yX12_isExcused), (69, Cond.methodLink RX12 266 yX12_milesOf), (73, Cond.methodLink RL 111 yX12_bar), (77, Cond.methodLink RL 115 yX12_stop), (81, Cond.methodLink RL 119 yX12_claim), (85, Cond.methodLink RL 123 yX12_claimOf), (89, Cond.methodLink RX12 281 yX12_isClaim), (93, Cond.methodLink RX12 278 yX12_isBarred), (97, Cond.methodLink RX12 284 yX12_worthOf), (101, Cond.methodLink RX12 287 yX12_settledOf), (105, Cond.methodLink RL 127 yX12_owes), (109, Cond.methodLink RX12 290 yX12_isPayer), (112, Cond.methodLink RL 131 yX12_pay), (116, Cond.constant RX12 293 99999), (117, Cond.methodLink RL 135 yX12_due), (121, Cond.methodLink RX12 294 yX12_dueOf), (125, Cond.methodLink RL 139 yX12_balance), (129, Cond.methodLink RX12 297 yX12_balanceOf), (133, Cond.methodLink RL 144 yX12_back), (137, Cond.methodLink RL 149 yX12_judged), (141, Cond.methodLink RL 153 yX12_odds), (145, Cond.methodLink RX12 315 yX12_findLike), (149, Cond.methodLink RX12 303 yX12_amount), (152, Cond.methodLink RL 157 yX12_good)]
set_option maxRecDepth 20000 in
theorem zc6_0 : zw6_0.all (fun q => decide (tables_1_6[q.1]? = some q.2) && goodWord q.2) = true := by decide +kernel
def zw6_1 : List (Nat × Cond) := [(156, Cond.methodLink RL 161 yX12_count), (0, Cond.selects RX12 yX12_missed yX12_missed), (4, Cond.instanceMethod yX12_missedOf), (7, Cond.instanceMethod yX12_soonest), (8, Cond.selects RX12 yX12_soonest yX12_soonest), (12, Cond.instanceMethod yX12_soonestOf), (16, Cond.instanceMethod yX12_lastLeg), (19, Cond.instanceMethod yX12_hours), (20, Cond.selects RX12 yX12_hours yX12_hours), (24, Cond.instanceMethod yX12_hoursOf), (27, Cond.instanceMethod yX12_blame), (28, Cond.selects RX12 yX12_blame yX12_blame), (32, Cond.instanceMethod yX12_blameOf), (35, Cond.instanceMethod yX12_law), (36, Cond.selects RX12 yX12_law yX12_law), (39, Cond.static yX12_isLand), (42, Cond.instanceMethod yX12_excuse), (43, Cond.selects RX12 yX12_excuse yX12_excuse), (46, Cond.instanceMethod yX12_sum), (47, Cond.selects RX12 yX12_sum yX12_sum), (51, Cond.instanceMethod yX12_sumOf), (55, Cond.instanceMethod yX12_lawOf), (59, Cond.instanceMethod yX12_firstLeg), (63, Cond.instanceMethod yX12_hasLaw), (67, Cond.instanceMethod yX12_isExcused), (71, Cond.instanceMethod yX12_milesOf), (74, Cond.instanceMethod yX12_bar), (75, Cond.selects RX12 yX12_bar yX12_bar), (78, Cond.instanceMethod yX12_stop), (79, Cond.selects RX12 yX12_stop yX12_stop), (82, Cond.instanceMethod yX12_claim), (83, Cond.selects RX12 yX12_claim yX12_claim), (86, Cond.instanceMethod yX12_claimOf), (87, Cond.selects RX12 yX12_claimOf yX12_claimOf), (91, Cond.instanceMethod yX12_isClaim), (95, Cond.instanceMethod yX12_isBarred), (99, Cond.instanceMethod yX12_worthOf), (103, Cond.instanceMethod yX12_settledOf), (106, Cond.instanceMethod yX12_owes), (107, Cond.selects RX12 yX12_owes yX12_owes)]
set_option maxRecDepth 20000 in
theorem zc6_1 : zw6_1.all (fun q => decide (tables_1_6[q.1]? = some q.2) && goodWord q.2) = true := by decide +kernel
def zw6_2 : List (Nat × Cond) := [(110, Cond.static yX12_isPayer), (113, Cond.instanceMethod yX12_pay), (114, Cond.selects RX12 yX12_pay yX12_pay), (118, Cond.instanceMethod yX12_due), (119, Cond.selects RX12 yX12_due yX12_due), (123, Cond.instanceMethod yX12_dueOf), (126, Cond.instanceMethod yX12_balance), (127, Cond.selects RX12 yX12_balance yX12_balance), (131, Cond.instanceMethod yX12_balanceOf), (134, Cond.instanceMethod yX12_back), (135, Cond.selects RX12 yX12_back yX12_back), (138, Cond.instanceMethod yX12_judged), (139, Cond.selects RX12 yX12_judged yX12_judged), (142, Cond.instanceMethod yX12_odds), (143, Cond.selects RX12 yX12_odds yX12_odds), (147, Cond.instanceMethod yX12_findLike), (150, Cond.static yX12_amount), (153, Cond.instanceMethod yX12_good), (154, Cond.selects RX12 yX12_good yX12_good), (157, Cond.instanceMethod yX12_count), (158, Cond.selects RX12 yX12_count yX12_count)]
set_option maxRecDepth 20000 in
theorem zc6_2 : zw6_2.all (fun q => decide (tables_1_6[q.1]? = some q.2) && goodWord q.2) = true := by decide +kernel
theorem iz_L : Cond.initialized RL ∈ BW := zg ht1 zc1_0 (i := 0) (n := 0) (w := Cond.initialized RL) rfl
theorem iz_X11 : Cond.initialized RX11 ∈ BW := zg ht1 zc1_0 (i := 1) (n := 1) (w := Cond.initialized RX11) rfl
theorem iz_X7 : Cond.initialized RX7 ∈ BW := zg ht1 zc1_0 (i := 2) (n := 2) (w := Cond.initialized RX7) rfl
theorem iz_X6 : Cond.initialized RX6 ∈ BW := zg ht1 zc1_0 (i := 3) (n := 3) (w := Cond.initialized RX6) rfl
theorem iz_X10 : Cond.initialized RX10 ∈ BW := zg ht1 zc1_0 (i := 4) (n := 4) (w := Cond.initialized RX10) rfl
theorem iz_X9 : Cond.initialized RX9 ∈ BW := zg ht1 zc1_0 (i := 5) (n := 5) (w := Cond.initialized RX9) rfl
theorem iz_X4 : Cond.initialized RX4 ∈ BW := zg ht1 zc1_0 (i := 6) (n := 6) (w := Cond.initialized RX4) rfl
theorem iz_X0 : Cond.initialized RX0 ∈ BW := zg ht1 zc1_0 (i := 7) (n := 7) (w := Cond.initialized RX0) rfl
theorem iz_J7 : Cond.initialized RJ7 ∈ BW := zg ht1 zc1_0 (i := 8) (n := 8) (w := Cond.initialized RJ7) rfl
theorem iz_X3 : Cond.initialized RX3 ∈ BW := zg ht1 zc1_0 (i := 9) (n := 9) (w := Cond.initialized RX3) rfl
theorem iz_X1 : Cond.initialized RX1 ∈ BW := zg ht1 zc1_0 (i := 10) (n := 10) (w := Cond.initialized RX1) rfl
theorem iz_X12 : Cond.initialized RX12 ∈ BW := zg ht1 zc1_0 (i := 11) (n := 11) (w := Cond.initialized RX12) rfl
theorem iz_J9 : Cond.initialized RJ9 ∈ BW := zg ht1 zc1_0 (i := 12) (n := 12) (w := Cond.initialized RJ9) rfl
theorem iz_X5 : Cond.initialized RX5 ∈ BW := zg ht1 zc1_0 (i := 13) (n := 13) (w := Cond.initialized RX5) rfl
theorem iz_X8 : Cond.initialized RX8 ∈ BW := zg ht1 zc1_0 (i := 14) (n := 14) (w := Cond.initialized RX8) rfl
theorem iz_X2 : Cond.initialized RX2 ∈ BW := zg ht1 zc1_0 (i := 15) (n := 15) (w := Cond.initialized RX2) rfl
theorem bw_all {ws : List Cond} (ps : List Nat) (hp : ws = ps.filterMap (fun i => lw_tbl[i]?)) (g : ws.all goodWord = true) : ∀ w ∈ ws, w ∈ BW := by
  intro w hw
  have h1 := List.all_eq_true.mp g w hw
  rw [hp] at hw
  obtain ⟨i, -, hi⟩ := List.mem_filterMap.mp hw
  exact bw i hi h1
set_option maxRecDepth 20000 in
theorem uwX0 : ∀ w ∈ u_ws RX0 TX0 5, w ∈ BW := bw_all [224, 226, 228, 230, 232] (by decide +kernel) (by decide +kernel)
set_option maxRecDepth 20000 in
theorem uwX1 : ∀ w ∈ u_ws RX1 TX1 11, w ∈ BW := bw_all [279, 281, 283, 285, 287, 289, 291, 293, 295, 297, 299] (by decide +kernel) (by decide +kernel)
set_option maxRecDepth 20000 in
theorem uwX2 : ∀ w ∈ u_ws RX2 TX2 4, w ∈ BW := bw_all [796, 798, 800, 802] (by decide +kernel) (by decide +kernel)
set_option maxRecDepth 20000 in
theorem uwX3 : ∀ w ∈ u_ws RX3 TX3 4, w ∈ BW := bw_all [250, 252, 254, 256] (by decide +kernel) (by decide +kernel)
set_option maxRecDepth 20000 in
theorem uwX4 : ∀ w ∈ u_ws RX4 TX4 12, w ∈ BW := bw_all [184, 186, 188, 190, 192, 194, 196, 198, 200, 202, 204, 206] (by decide +kernel) (by decide +kernel)
set_option maxRecDepth 20000 in
theorem uwX5 : ∀ w ∈ u_ws RX5 TX5 15, w ∈ BW := bw_all [468, 470, 472, 474, 476, 478, 480, 482, 484, 486, 488, 490, 492, 494, 496] (by decide +kernel) (by decide +kernel)
set_option maxRecDepth 20000 in
theorem uwX6 : ∀ w ∈ u_ws RX6 TX6 4, w ∈ BW := bw_all [99, 101, 103, 105] (by decide +kernel) (by decide +kernel)
set_option maxRecDepth 20000 in
theorem uwX7 : ∀ w ∈ u_ws RX7 TX7 3, w ∈ BW := bw_all [114, 116, 118] (by decide +kernel) (by decide +kernel)
set_option maxRecDepth 20000 in
theorem uwX8 : ∀ w ∈ u_ws RX8 TX8 7, w ∈ BW := bw_all [610, 612, 614, 616, 618, 620, 622] (by decide +kernel) (by decide +kernel)
set_option maxRecDepth 20000 in
theorem uwX9 : ∀ w ∈ u_ws RX9 TX9 2, w ∈ BW := bw_all [160, 162] (by decide +kernel) (by decide +kernel)
set_option maxRecDepth 20000 in
theorem uwX10 : ∀ w ∈ u_ws RX10 TX10 5, w ∈ BW := bw_all [137, 139, 141, 143, 145] (by decide +kernel) (by decide +kernel)
set_option maxRecDepth 20000 in
theorem uwX11 : ∀ w ∈ u_ws RX11 TX11 10, w ∈ BW := bw_all [321, 323, 325, 327, 329, 331, 333, 335, 337, 339] (by decide +kernel) (by decide +kernel)
set_option maxRecDepth 20000 in
theorem uwX12 : ∀ w ∈ u_ws RX12 TX12 60, w ∈ BW := bw_all [1002, 1004, 1006, 1008, 1010, 1012, 1014, 1016, 1018, 1020, 1022, 1024, 1026, 1028, 1030, 1032, 1034, 1036, 1038, 1040, 1042, 1044, 1046, 1048, 1050, 1052, 1054, 1056, 1058, 1060, 1062, 1064, 1066, 1068, 1070, 1072, 1074, 1076, 1078, 1080, 1082, 1084, 1086, 1088, 1090, 1092, 1094, 1096, 1098, 1100, 1102, 1104, 1106, 1108, 1110, 1112, 1114, 1116, 1118, 1120] (by decide +kernel) (by decide +kernel)
theorem kl_L_7 : Cond.classLink RL 7 "LateClaims" ∈ BW := zg ht1 zc1_0 (i := 16) (n := 16) (w := Cond.classLink RL 7 "LateClaims") rfl
theorem ib_X11 : Cond.instantiable RX11 10 ∈ BW := zg ht1 zc1_0 (i := 17) (n := 17) (w := Cond.instantiable RX11 10) rfl
theorem ml_L_9 : Cond.methodLink RL 9 yX11_init ∈ BW := zg ht1 zc1_0 (i := 18) (n := 18) (w := Cond.methodLink RL 9 yX11_init) rfl
theorem kl_X11_7 : Cond.classLink RX11 7 "LateClaims$Ports" ∈ BW := zg ht1 zc1_0 (i := 19) (n := 24) (w := Cond.classLink RX11 7 "LateClaims$Ports") rfl
theorem ib_X7 : Cond.instantiable RX7 3 ∈ BW := zg ht1 zc1_0 (i := 20) (n := 25) (w := Cond.instantiable RX7 3) rfl
theorem ml_X11_9 : Cond.methodLink RX11 9 yX7_init ∈ BW := zg ht1 zc1_0 (i := 21) (n := 26) (w := Cond.methodLink RX11 9 yX7_init) rfl
theorem kl_X7_9 : Cond.classLink RX7 9 "LateClaims$Port" ∈ BW := zg ht1 zc1_0 (i := 22) (n := 30) (w := Cond.classLink RX7 9 "LateClaims$Port") rfl
theorem ib_X6 : Cond.instantiable RX6 4 ∈ BW := zg ht1 zc1_0 (i := 23) (n := 32) (w := Cond.instantiable RX6 4) rfl
theorem ml_X7_15 : Cond.methodLink RX7 15 yX6_init ∈ BW := zg ht1 zc1_0 (i := 24) (n := 33) (w := Cond.methodLink RX7 15 yX6_init) rfl
theorem fl_X6_7 : Cond.fieldLink RX6 7 "LateClaims$Port" "number" "I" ∈ BW := zg ht1 zc1_0 (i := 25) (n := 37) (w := Cond.fieldLink RX6 7 "LateClaims$Port" "number" "I") rfl
theorem fl_X7_29 : Cond.fieldLink RX7 29 "LateClaims$Port" "number" "I" ∈ BW := zg ht1 zc1_0 (i := 26) (n := 38) (w := Cond.fieldLink RX7 29 "LateClaims$Port" "number" "I") rfl
theorem fl_X11_89 : Cond.fieldLink RX11 89 "LateClaims$Port" "land" "I" ∈ BW := zg ht1 zc1_0 (i := 27) (n := 39) (w := Cond.fieldLink RX11 89 "LateClaims$Port" "land" "I") rfl
theorem fl_X4_62 : Cond.fieldLink RX4 62 "LateClaims$Port" "land" "I" ∈ BW := zg ht1 zc1_0 (i := 28) (n := 40) (w := Cond.fieldLink RX4 62 "LateClaims$Port" "land" "I") rfl
theorem fl_X6_13 : Cond.fieldLink RX6 13 "LateClaims$Port" "least" "I" ∈ BW := zg ht1 zc1_0 (i := 29) (n := 41) (w := Cond.fieldLink RX6 13 "LateClaims$Port" "least" "I") rfl
theorem fl_X7_33 : Cond.fieldLink RX7 33 "LateClaims$Port" "least" "I" ∈ BW := zg ht1 zc1_0 (i := 30) (n := 42) (w := Cond.fieldLink RX7 33 "LateClaims$Port" "least" "I") rfl
theorem fl_X5_45 : Cond.fieldLink RX5 45 "LateClaims$Port" "ahead" "I" ∈ BW := zg ht1 zc1_0 (i := 31) (n := 43) (w := Cond.fieldLink RX5 45 "LateClaims$Port" "ahead" "I") rfl
theorem fl_X7_36 : Cond.fieldLink RX7 36 "LateClaims$Port" "ahead" "I" ∈ BW := zg ht1 zc1_0 (i := 32) (n := 44) (w := Cond.fieldLink RX7 36 "LateClaims$Port" "ahead" "I") rfl
theorem fl_X11_112 : Cond.fieldLink RX11 112 "LateClaims$Port" "ahead" "I" ∈ BW := zg ht1 zc1_0 (i := 33) (n := 45) (w := Cond.fieldLink RX11 112 "LateClaims$Port" "ahead" "I") rfl
theorem kl_X7_18 : Cond.classLink RX7 18 "[[I" ∈ BW := zg ht1 zc1_0 (i := 34) (n := 55) (w := Cond.classLink RX7 18 "[[I") rfl
theorem fl_X7_11 : Cond.fieldLink RX7 11 "LateClaims$Ports" "all" "[LLateClaims$Port;" ∈ BW := zg ht1 zc1_0 (i := 35) (n := 57) (w := Cond.fieldLink RX7 11 "LateClaims$Ports" "all" "[LLateClaims$Port;") rfl
theorem fl_X7_20 : Cond.fieldLink RX7 20 "LateClaims$Ports" "distances" "[[I" ∈ BW := zg ht1 zc1_0 (i := 36) (n := 58) (w := Cond.fieldLink RX7 20 "LateClaims$Ports" "distances" "[[I") rfl
theorem fl_X7_39 : Cond.fieldLink RX7 39 "LateClaims$Ports" "quarrels" "I" ∈ BW := zg ht1 zc1_0 (i := 37) (n := 59) (w := Cond.fieldLink RX7 39 "LateClaims$Ports" "quarrels" "I") rfl
theorem fl_X11_332 : Cond.fieldLink RX11 332 "LateClaims$Ports" "quarrels" "I" ∈ BW := zg ht1 zc1_0 (i := 38) (n := 60) (w := Cond.fieldLink RX11 332 "LateClaims$Ports" "quarrels" "I") rfl
theorem ac_int : Cond.arrayClass .int ∈ BW := zg ht1 zc1_0 (i := 39) (n := 68) (w := Cond.arrayClass .int) rfl
theorem kl_X11_16 : Cond.classLink RX11 16 "LateClaims$Timetable" ∈ BW := zg ht1 zc1_1 (i := 0) (n := 69) (w := Cond.classLink RX11 16 "LateClaims$Timetable") rfl
theorem ib_X10 : Cond.instantiable RX10 5 ∈ BW := zg ht1 zc1_1 (i := 1) (n := 70) (w := Cond.instantiable RX10 5) rfl
theorem ml_X11_18 : Cond.methodLink RX11 18 yX10_init ∈ BW := zg ht1 zc1_1 (i := 2) (n := 71) (w := Cond.methodLink RX11 18 yX10_init) rfl
theorem kl_X10_11 : Cond.classLink RX10 11 "LateClaims$Leg" ∈ BW := zg ht1 zc1_1 (i := 3) (n := 75) (w := Cond.classLink RX10 11 "LateClaims$Leg") rfl
theorem fl_X10_13 : Cond.fieldLink RX10 13 "LateClaims$Timetable" "all" "[LLateClaims$Leg;" ∈ BW := zg ht1 zc1_1 (i := 4) (n := 77) (w := Cond.fieldLink RX10 13 "LateClaims$Timetable" "all" "[LLateClaims$Leg;") rfl
theorem fl_X10_28 : Cond.fieldLink RX10 28 "LateClaims$Timetable" "size" "I" ∈ BW := zg ht1 zc1_1 (i := 5) (n := 78) (w := Cond.fieldLink RX10 28 "LateClaims$Timetable" "size" "I") rfl
theorem fl_X11_321 : Cond.fieldLink RX11 321 "LateClaims$Timetable" "size" "I" ∈ BW := zg ht1 zc1_1 (i := 6) (n := 79) (w := Cond.fieldLink RX11 321 "LateClaims$Timetable" "size" "I") rfl
theorem fl_X10_17 : Cond.fieldLink RX10 17 "LateClaims$Timetable" "minutesBy" "[I" ∈ BW := zg ht1 zc1_1 (i := 7) (n := 80) (w := Cond.fieldLink RX10 17 "LateClaims$Timetable" "minutesBy" "[I") rfl
theorem fl_X11_174 : Cond.fieldLink RX11 174 "LateClaims$Timetable" "minutesBy" "[I" ∈ BW := zg ht1 zc1_1 (i := 8) (n := 81) (w := Cond.fieldLink RX11 174 "LateClaims$Timetable" "minutesBy" "[I") rfl
theorem fl_X10_21 : Cond.fieldLink RX10 21 "LateClaims$Timetable" "reached" "[Z" ∈ BW := zg ht1 zc1_1 (i := 9) (n := 82) (w := Cond.fieldLink RX10 21 "LateClaims$Timetable" "reached" "[Z") rfl
theorem fl_X10_25 : Cond.fieldLink RX10 25 "LateClaims$Timetable" "onTheWay" "[LLateClaims$Leg;" ∈ BW := zg ht1 zc1_1 (i := 10) (n := 83) (w := Cond.fieldLink RX10 25 "LateClaims$Timetable" "onTheWay" "[LLateClaims$Leg;") rfl
theorem ac_boolean : Cond.arrayClass .boolean ∈ BW := zg ht1 zc1_1 (i := 11) (n := 95) (w := Cond.arrayClass .boolean) rfl
theorem kl_X11_23 : Cond.classLink RX11 23 "LateClaims$Tickets" ∈ BW := zg ht1 zc1_1 (i := 12) (n := 96) (w := Cond.classLink RX11 23 "LateClaims$Tickets") rfl
theorem ib_X9 : Cond.instantiable RX9 2 ∈ BW := zg ht1 zc1_1 (i := 13) (n := 97) (w := Cond.instantiable RX9 2) rfl
theorem ml_X11_25 : Cond.methodLink RX11 25 yX9_init ∈ BW := zg ht1 zc1_1 (i := 14) (n := 98) (w := Cond.methodLink RX11 25 yX9_init) rfl
theorem kl_X9_9 : Cond.classLink RX9 9 "LateClaims$Ticket" ∈ BW := zg ht1 zc1_1 (i := 15) (n := 102) (w := Cond.classLink RX9 9 "LateClaims$Ticket") rfl
theorem fl_X9_11 : Cond.fieldLink RX9 11 "LateClaims$Tickets" "all" "[LLateClaims$Ticket;" ∈ BW := zg ht1 zc1_1 (i := 16) (n := 104) (w := Cond.fieldLink RX9 11 "LateClaims$Tickets" "all" "[LLateClaims$Ticket;") rfl
theorem fl_X9_15 : Cond.fieldLink RX9 15 "LateClaims$Tickets" "size" "I" ∈ BW := zg ht1 zc1_1 (i := 17) (n := 105) (w := Cond.fieldLink RX9 15 "LateClaims$Tickets" "size" "I") rfl
theorem fl_X11_325 : Cond.fieldLink RX11 325 "LateClaims$Tickets" "size" "I" ∈ BW := zg ht1 zc1_1 (i := 18) (n := 106) (w := Cond.fieldLink RX11 325 "LateClaims$Tickets" "size" "I") rfl
theorem kl_X11_30 : Cond.classLink RX11 30 "LateClaims$Laws" ∈ BW := zg ht1 zc1_1 (i := 19) (n := 112) (w := Cond.classLink RX11 30 "LateClaims$Laws") rfl
theorem ib_X4 : Cond.instantiable RX4 12 ∈ BW := zg ht1 zc1_1 (i := 20) (n := 113) (w := Cond.instantiable RX4 12) rfl
theorem ml_X11_32 : Cond.methodLink RX11 32 yX4_init ∈ BW := zg ht1 zc1_1 (i := 21) (n := 114) (w := Cond.methodLink RX11 32 yX4_init) rfl
theorem fl_X4_11 : Cond.fieldLink RX4 11 "LateClaims$Laws" "lands" "[I" ∈ BW := zg ht1 zc1_1 (i := 22) (n := 118) (w := Cond.fieldLink RX4 11 "LateClaims$Laws" "lands" "[I") rfl
theorem fl_X4_15 : Cond.fieldLink RX4 15 "LateClaims$Laws" "fromDays" "[I" ∈ BW := zg ht1 zc1_1 (i := 23) (n := 119) (w := Cond.fieldLink RX4 15 "LateClaims$Laws" "fromDays" "[I") rfl
theorem fl_X4_18 : Cond.fieldLink RX4 18 "LateClaims$Laws" "fromMinutes" "[I" ∈ BW := zg ht1 zc1_1 (i := 24) (n := 120) (w := Cond.fieldLink RX4 18 "LateClaims$Laws" "fromMinutes" "[I") rfl
theorem fl_X4_21 : Cond.fieldLink RX4 21 "LateClaims$Laws" "fromMiles" "[I" ∈ BW := zg ht1 zc1_1 (i := 25) (n := 121) (w := Cond.fieldLink RX4 21 "LateClaims$Laws" "fromMiles" "[I") rfl
theorem fl_X4_24 : Cond.fieldLink RX4 24 "LateClaims$Laws" "sums" "[I" ∈ BW := zg ht1 zc1_1 (i := 26) (n := 122) (w := Cond.fieldLink RX4 24 "LateClaims$Laws" "sums" "[I") rfl
theorem fl_X4_43 : Cond.fieldLink RX4 43 "LateClaims$Laws" "size" "I" ∈ BW := zg ht1 zc1_1 (i := 27) (n := 123) (w := Cond.fieldLink RX4 43 "LateClaims$Laws" "size" "I") rfl
theorem fl_X11_326 : Cond.fieldLink RX11 326 "LateClaims$Laws" "size" "I" ∈ BW := zg ht1 zc1_1 (i := 28) (n := 124) (w := Cond.fieldLink RX11 326 "LateClaims$Laws" "size" "I") rfl
theorem fl_X4_27 : Cond.fieldLink RX4 27 "LateClaims$Laws" "excuseLands" "[I" ∈ BW := zg ht1 zc1_1 (i := 29) (n := 125) (w := Cond.fieldLink RX4 27 "LateClaims$Laws" "excuseLands" "[I") rfl
theorem fl_X4_30 : Cond.fieldLink RX4 30 "LateClaims$Laws" "excuseCauses" "[I" ∈ BW := zg ht1 zc1_1 (i := 30) (n := 126) (w := Cond.fieldLink RX4 30 "LateClaims$Laws" "excuseCauses" "[I") rfl
theorem fl_X4_33 : Cond.fieldLink RX4 33 "LateClaims$Laws" "excuseDays" "[I" ∈ BW := zg ht1 zc1_1 (i := 31) (n := 127) (w := Cond.fieldLink RX4 33 "LateClaims$Laws" "excuseDays" "[I") rfl
theorem fl_X4_36 : Cond.fieldLink RX4 36 "LateClaims$Laws" "toldDays" "[I" ∈ BW := zg ht1 zc1_1 (i := 32) (n := 128) (w := Cond.fieldLink RX4 36 "LateClaims$Laws" "toldDays" "[I") rfl
theorem fl_X4_39 : Cond.fieldLink RX4 39 "LateClaims$Laws" "excused" "[Z" ∈ BW := zg ht1 zc1_1 (i := 33) (n := 129) (w := Cond.fieldLink RX4 39 "LateClaims$Laws" "excused" "[Z") rfl
theorem fl_X4_47 : Cond.fieldLink RX4 47 "LateClaims$Laws" "excuses" "I" ∈ BW := zg ht1 zc1_1 (i := 34) (n := 130) (w := Cond.fieldLink RX4 47 "LateClaims$Laws" "excuses" "I") rfl
theorem kl_X11_37 : Cond.classLink RX11 37 "LateClaims$Bars" ∈ BW := zg ht1 zc1_1 (i := 35) (n := 156) (w := Cond.classLink RX11 37 "LateClaims$Bars") rfl
theorem ib_X0 : Cond.instantiable RX0 5 ∈ BW := zg ht1 zc1_1 (i := 36) (n := 157) (w := Cond.instantiable RX0 5) rfl
theorem ml_X11_39 : Cond.methodLink RX11 39 yX0_init ∈ BW := zg ht1 zc1_1 (i := 37) (n := 158) (w := Cond.methodLink RX11 39 yX0_init) rfl
theorem ml_X0_15 : Cond.methodLink RX0 15 yJ7_fill_53178 ∈ BW := zg ht1 zc1_1 (i := 38) (n := 162) (w := Cond.methodLink RX0 15 yJ7_fill_53178) rfl
theorem fl_X0_9 : Cond.fieldLink RX0 9 "LateClaims$Bars" "daysIn" "[I" ∈ BW := zg ht1 zc1_1 (i := 39) (n := 165) (w := Cond.fieldLink RX0 9 "LateClaims$Bars" "daysIn" "[I") rfl
theorem fl_X11_247 : Cond.fieldLink RX11 247 "LateClaims$Bars" "daysIn" "[I" ∈ BW := zg ht1 zc1_2 (i := 0) (n := 166) (w := Cond.fieldLink RX11 247 "LateClaims$Bars" "daysIn" "[I") rfl
theorem fl_X0_21 : Cond.fieldLink RX0 21 "LateClaims$Bars" "stopLands" "[I" ∈ BW := zg ht1 zc1_2 (i := 1) (n := 167) (w := Cond.fieldLink RX0 21 "LateClaims$Bars" "stopLands" "[I") rfl
theorem fl_X0_24 : Cond.fieldLink RX0 24 "LateClaims$Bars" "stopFroms" "[I" ∈ BW := zg ht1 zc1_2 (i := 2) (n := 168) (w := Cond.fieldLink RX0 24 "LateClaims$Bars" "stopFroms" "[I") rfl
theorem fl_X0_27 : Cond.fieldLink RX0 27 "LateClaims$Bars" "stopTos" "[I" ∈ BW := zg ht1 zc1_2 (i := 3) (n := 169) (w := Cond.fieldLink RX0 27 "LateClaims$Bars" "stopTos" "[I") rfl
theorem fl_X0_30 : Cond.fieldLink RX0 30 "LateClaims$Bars" "stops" "I" ∈ BW := zg ht1 zc1_2 (i := 4) (n := 170) (w := Cond.fieldLink RX0 30 "LateClaims$Bars" "stops" "I") rfl
theorem kl_X11_44 : Cond.classLink RX11 44 "LateClaims$Claims" ∈ BW := zg ht1 zc1_2 (i := 5) (n := 182) (w := Cond.classLink RX11 44 "LateClaims$Claims") rfl
theorem ib_X3 : Cond.instantiable RX3 4 ∈ BW := zg ht1 zc1_2 (i := 6) (n := 183) (w := Cond.instantiable RX3 4) rfl
theorem ml_X11_46 : Cond.methodLink RX11 46 yX3_init ∈ BW := zg ht1 zc1_2 (i := 7) (n := 184) (w := Cond.methodLink RX11 46 yX3_init) rfl
theorem kl_X3_11 : Cond.classLink RX3 11 "LateClaims$Claim" ∈ BW := zg ht1 zc1_2 (i := 8) (n := 188) (w := Cond.classLink RX3 11 "LateClaims$Claim") rfl
theorem fl_X3_13 : Cond.fieldLink RX3 13 "LateClaims$Claims" "all" "[LLateClaims$Claim;" ∈ BW := zg ht1 zc1_2 (i := 9) (n := 190) (w := Cond.fieldLink RX3 13 "LateClaims$Claims" "all" "[LLateClaims$Claim;") rfl
theorem fl_X11_390 : Cond.fieldLink RX11 390 "LateClaims$Claims" "all" "[LLateClaims$Claim;" ∈ BW := zg ht1 zc1_2 (i := 10) (n := 191) (w := Cond.fieldLink RX11 390 "LateClaims$Claims" "all" "[LLateClaims$Claim;") rfl
theorem fl_X3_24 : Cond.fieldLink RX3 24 "LateClaims$Claims" "size" "I" ∈ BW := zg ht1 zc1_2 (i := 11) (n := 192) (w := Cond.fieldLink RX3 24 "LateClaims$Claims" "size" "I") rfl
theorem fl_X11_327 : Cond.fieldLink RX11 327 "LateClaims$Claims" "size" "I" ∈ BW := zg ht1 zc1_2 (i := 12) (n := 193) (w := Cond.fieldLink RX11 327 "LateClaims$Claims" "size" "I") rfl
theorem fl_X3_17 : Cond.fieldLink RX3 17 "LateClaims$Claims" "balances" "[I" ∈ BW := zg ht1 zc1_2 (i := 13) (n := 194) (w := Cond.fieldLink RX3 17 "LateClaims$Claims" "balances" "[I") rfl
theorem fl_X11_298 : Cond.fieldLink RX11 298 "LateClaims$Claims" "balances" "[I" ∈ BW := zg ht1 zc1_2 (i := 14) (n := 195) (w := Cond.fieldLink RX11 298 "LateClaims$Claims" "balances" "[I") rfl
theorem fl_X3_21 : Cond.fieldLink RX3 21 "LateClaims$Claims" "parted" "[I" ∈ BW := zg ht1 zc1_2 (i := 15) (n := 196) (w := Cond.fieldLink RX3 21 "LateClaims$Claims" "parted" "[I") rfl
theorem kl_X11_51 : Cond.classLink RX11 51 "LateClaims$Cases" ∈ BW := zg ht1 zc1_2 (i := 16) (n := 206) (w := Cond.classLink RX11 51 "LateClaims$Cases") rfl
theorem ib_X1 : Cond.instantiable RX1 11 ∈ BW := zg ht1 zc1_2 (i := 17) (n := 207) (w := Cond.instantiable RX1 11) rfl
theorem ml_X11_53 : Cond.methodLink RX11 53 yX1_init ∈ BW := zg ht1 zc1_2 (i := 18) (n := 208) (w := Cond.methodLink RX11 53 yX1_init) rfl
theorem fl_X1_11 : Cond.fieldLink RX1 11 "LateClaims$Cases" "lands" "[I" ∈ BW := zg ht1 zc1_2 (i := 19) (n := 212) (w := Cond.fieldLink RX1 11 "LateClaims$Cases" "lands" "[I") rfl
theorem fl_X1_15 : Cond.fieldLink RX1 15 "LateClaims$Cases" "causes" "[I" ∈ BW := zg ht1 zc1_2 (i := 20) (n := 213) (w := Cond.fieldLink RX1 15 "LateClaims$Cases" "causes" "[I") rfl
theorem fl_X1_18 : Cond.fieldLink RX1 18 "LateClaims$Cases" "minutesLate" "[I" ∈ BW := zg ht1 zc1_2 (i := 21) (n := 214) (w := Cond.fieldLink RX1 18 "LateClaims$Cases" "minutesLate" "[I") rfl
theorem fl_X1_21 : Cond.fieldLink RX1 21 "LateClaims$Cases" "milesFlown" "[I" ∈ BW := zg ht1 zc1_2 (i := 22) (n := 215) (w := Cond.fieldLink RX1 21 "LateClaims$Cases" "milesFlown" "[I") rfl
theorem fl_X1_24 : Cond.fieldLink RX1 24 "LateClaims$Cases" "wins" "[Z" ∈ BW := zg ht1 zc1_2 (i := 23) (n := 216) (w := Cond.fieldLink RX1 24 "LateClaims$Cases" "wins" "[Z") rfl
theorem fl_X1_28 : Cond.fieldLink RX1 28 "LateClaims$Cases" "costs" "[I" ∈ BW := zg ht1 zc1_2 (i := 24) (n := 217) (w := Cond.fieldLink RX1 28 "LateClaims$Cases" "costs" "[I") rfl
theorem fl_X1_34 : Cond.fieldLink RX1 34 "LateClaims$Cases" "size" "I" ∈ BW := zg ht1 zc1_2 (i := 25) (n := 218) (w := Cond.fieldLink RX1 34 "LateClaims$Cases" "size" "I") rfl
theorem fl_X11_331 : Cond.fieldLink RX11 331 "LateClaims$Cases" "size" "I" ∈ BW := zg ht1 zc1_2 (i := 26) (n := 219) (w := Cond.fieldLink RX11 331 "LateClaims$Cases" "size" "I") rfl
theorem fl_X1_31 : Cond.fieldLink RX1 31 "LateClaims$Cases" "far" "[I" ∈ BW := zg ht1 zc1_2 (i := 27) (n := 220) (w := Cond.fieldLink RX1 31 "LateClaims$Cases" "far" "[I") rfl
theorem fl_X1_44 : Cond.fieldLink RX1 44 "LateClaims$Cases" "chosen" "I" ∈ BW := zg ht1 zc1_2 (i := 28) (n := 221) (w := Cond.fieldLink RX1 44 "LateClaims$Cases" "chosen" "I") rfl
theorem fl_X11_315 : Cond.fieldLink RX11 315 "LateClaims$Cases" "chosen" "I" ∈ BW := zg ht1 zc1_2 (i := 29) (n := 222) (w := Cond.fieldLink RX11 315 "LateClaims$Cases" "chosen" "I") rfl
theorem fl_X1_47 : Cond.fieldLink RX1 47 "LateClaims$Cases" "chosenWon" "I" ∈ BW := zg ht1 zc1_2 (i := 30) (n := 223) (w := Cond.fieldLink RX1 47 "LateClaims$Cases" "chosenWon" "I") rfl
theorem fl_X11_312 : Cond.fieldLink RX11 312 "LateClaims$Cases" "chosenWon" "I" ∈ BW := zg ht1 zc1_2 (i := 31) (n := 224) (w := Cond.fieldLink RX11 312 "LateClaims$Cases" "chosenWon" "I") rfl
theorem fl_X1_50 : Cond.fieldLink RX1 50 "LateClaims$Cases" "chosenCost" "I" ∈ BW := zg ht1 zc1_2 (i := 32) (n := 225) (w := Cond.fieldLink RX1 50 "LateClaims$Cases" "chosenCost" "I") rfl
theorem fl_X11_58 : Cond.fieldLink RX11 58 "LateClaims" "FIRST_SETTING" "[I" ∈ BW := zg ht2 zc2_0 (i := 0) (n := 9) (w := Cond.fieldLink RX11 58 "LateClaims" "FIRST_SETTING" "[I") rfl
theorem kl_X11_63 : Cond.classLink RX11 63 "[I" ∈ BW := zg ht2 zc2_0 (i := 1) (n := 17) (w := Cond.classLink RX11 63 "[I") rfl
theorem fl_X11_10 : Cond.fieldLink RX11 10 "LateClaims" "ports" "LLateClaims$Ports;" ∈ BW := zg ht2 zc2_0 (i := 2) (n := 18) (w := Cond.fieldLink RX11 10 "LateClaims" "ports" "LLateClaims$Ports;") rfl
theorem fl_X11_19 : Cond.fieldLink RX11 19 "LateClaims" "timetable" "LLateClaims$Timetable;" ∈ BW := zg ht2 zc2_0 (i := 3) (n := 19) (w := Cond.fieldLink RX11 19 "LateClaims" "timetable" "LLateClaims$Timetable;") rfl
theorem fl_X11_26 : Cond.fieldLink RX11 26 "LateClaims" "tickets" "LLateClaims$Tickets;" ∈ BW := zg ht2 zc2_0 (i := 4) (n := 20) (w := Cond.fieldLink RX11 26 "LateClaims" "tickets" "LLateClaims$Tickets;") rfl
theorem fl_X11_33 : Cond.fieldLink RX11 33 "LateClaims" "laws" "LLateClaims$Laws;" ∈ BW := zg ht2 zc2_0 (i := 5) (n := 21) (w := Cond.fieldLink RX11 33 "LateClaims" "laws" "LLateClaims$Laws;") rfl
theorem fl_X11_40 : Cond.fieldLink RX11 40 "LateClaims" "bars" "LLateClaims$Bars;" ∈ BW := zg ht2 zc2_0 (i := 6) (n := 22) (w := Cond.fieldLink RX11 40 "LateClaims" "bars" "LLateClaims$Bars;") rfl
theorem fl_X11_47 : Cond.fieldLink RX11 47 "LateClaims" "claims" "LLateClaims$Claims;" ∈ BW := zg ht2 zc2_0 (i := 7) (n := 23) (w := Cond.fieldLink RX11 47 "LateClaims" "claims" "LLateClaims$Claims;") rfl
theorem fl_X11_54 : Cond.fieldLink RX11 54 "LateClaims" "cases" "LLateClaims$Cases;" ∈ BW := zg ht2 zc2_0 (i := 8) (n := 24) (w := Cond.fieldLink RX11 54 "LateClaims" "cases" "LLateClaims$Cases;") rfl
theorem fl_X11_67 : Cond.fieldLink RX11 67 "LateClaims" "settings" "[I" ∈ BW := zg ht2 zc2_0 (i := 9) (n := 25) (w := Cond.fieldLink RX11 67 "LateClaims" "settings" "[I") rfl
theorem fl_X11_70 : Cond.fieldLink RX11 70 "LateClaims" "refusals" "[I" ∈ BW := zg ht2 zc2_0 (i := 10) (n := 26) (w := Cond.fieldLink RX11 70 "LateClaims" "refusals" "[I") rfl
theorem fl_X11_73 : Cond.fieldLink RX11 73 "LateClaims" "today" "I" ∈ BW := zg ht2 zc2_0 (i := 11) (n := 27) (w := Cond.fieldLink RX11 73 "LateClaims" "today" "I") rfl
theorem ml_L_13 : Cond.methodLink RL 13 yX11_days ∈ BW := zg ht2 zc2_0 (i := 12) (n := 49) (w := Cond.methodLink RL 13 yX11_days) rfl
theorem ml_X11_77 : Cond.methodLink RX11 77 yX11_refuse ∈ BW := zg ht2 zc2_0 (i := 13) (n := 53) (w := Cond.methodLink RX11 77 yX11_refuse) rfl
theorem ml_X11_85 : Cond.methodLink RX11 85 yX11_isOneOf ∈ BW := zg ht2 zc2_0 (i := 14) (n := 57) (w := Cond.methodLink RX11 85 yX11_isOneOf) rfl
theorem ml_L_18 : Cond.methodLink RL 18 yX11_land ∈ BW := zg ht2 zc2_0 (i := 15) (n := 60) (w := Cond.methodLink RL 18 yX11_land) rfl
theorem ml_X11_81 : Cond.methodLink RX11 81 yX7_find ∈ BW := zg ht2 zc2_0 (i := 16) (n := 64) (w := Cond.methodLink RX11 81 yX7_find) rfl
theorem ml_L_23 : Cond.methodLink RL 23 yX11_miles ∈ BW := zg ht2 zc2_0 (i := 17) (n := 69) (w := Cond.methodLink RL 23 yX11_miles) rfl
theorem ml_X11_94 : Cond.methodLink RX11 94 yX7_milesBetween ∈ BW := zg ht2 zc2_0 (i := 18) (n := 73) (w := Cond.methodLink RX11 94 yX7_milesBetween) rfl
theorem ml_X11_98 : Cond.methodLink RX11 98 yX7_setMiles ∈ BW := zg ht2 zc2_0 (i := 19) (n := 77) (w := Cond.methodLink RX11 98 yX7_setMiles) rfl
theorem ml_L_28 : Cond.methodLink RL 28 yX11_seen ∈ BW := zg ht2 zc2_0 (i := 20) (n := 81) (w := Cond.methodLink RL 28 yX11_seen) rfl
theorem ml_X11_102 : Cond.methodLink RX11 102 yX7_take ∈ BW := zg ht2 zc2_0 (i := 21) (n := 85) (w := Cond.methodLink RX11 102 yX7_take) rfl
theorem ml_X7_42 : Cond.methodLink RX7 42 yX7_move ∈ BW := zg ht2 zc2_0 (i := 22) (n := 89) (w := Cond.methodLink RX7 42 yX7_move) rfl
theorem ml_X11_106 : Cond.methodLink RX11 106 yX10_putRight ∈ BW := zg ht2 zc2_0 (i := 23) (n := 93) (w := Cond.methodLink RX11 106 yX10_putRight) rfl
theorem ml_X10_43 : Cond.methodLink RX10 43 yX5_putRight ∈ BW := zg ht2 zc2_0 (i := 24) (n := 97) (w := Cond.methodLink RX10 43 yX5_putRight) rfl
theorem ml_X5_50 : Cond.methodLink RX5 50 yJ9_max_7cf53 ∈ BW := zg ht2 zc2_0 (i := 25) (n := 101) (w := Cond.methodLink RX5 50 yJ9_max_7cf53) rfl
theorem ml_L_32 : Cond.methodLink RL 32 yX11_off ∈ BW := zg ht2 zc2_0 (i := 26) (n := 104) (w := Cond.methodLink RL 32 yX11_off) rfl
theorem ml_X11_109 : Cond.methodLink RX11 109 yX11_refuseBeyond ∈ BW := zg ht2 zc2_0 (i := 27) (n := 108) (w := Cond.methodLink RX11 109 yX11_refuseBeyond) rfl
theorem ct_X11_335 : Cond.constant RX11 335 1000000000 ∈ BW := zg ht2 zc2_0 (i := 28) (n := 112) (w := Cond.constant RX11 335 1000000000) rfl
theorem ml_L_36 : Cond.methodLink RL 36 yX11_leg ∈ BW := zg ht2 zc2_0 (i := 29) (n := 113) (w := Cond.methodLink RL 36 yX11_leg) rfl
theorem ml_X11_115 : Cond.methodLink RX11 115 yX10_isFull ∈ BW := zg ht2 zc2_0 (i := 30) (n := 117) (w := Cond.methodLink RX11 115 yX10_isFull) rfl
theorem ml_X11_119 : Cond.methodLink RX11 119 yX10_add ∈ BW := zg ht2 zc2_0 (i := 31) (n := 121) (w := Cond.methodLink RX11 119 yX10_add) rfl
theorem ib_X5 : Cond.instantiable RX5 15 ∈ BW := zg ht2 zc2_0 (i := 32) (n := 125) (w := Cond.instantiable RX5 15) rfl
theorem ml_X10_36 : Cond.methodLink RX10 36 yX5_init ∈ BW := zg ht2 zc2_0 (i := 33) (n := 126) (w := Cond.methodLink RX10 36 yX5_init) rfl
theorem fl_X5_7 : Cond.fieldLink RX5 7 "LateClaims$Leg" "number" "I" ∈ BW := zg ht2 zc2_0 (i := 34) (n := 130) (w := Cond.fieldLink RX5 7 "LateClaims$Leg" "number" "I") rfl
theorem fl_X11_167 : Cond.fieldLink RX11 167 "LateClaims$Leg" "number" "I" ∈ BW := zg ht2 zc2_0 (i := 35) (n := 131) (w := Cond.fieldLink RX11 167 "LateClaims$Leg" "number" "I") rfl
theorem fl_X5_13 : Cond.fieldLink RX5 13 "LateClaims$Leg" "from" "LLateClaims$Port;" ∈ BW := zg ht2 zc2_0 (i := 36) (n := 132) (w := Cond.fieldLink RX5 13 "LateClaims$Leg" "from" "LLateClaims$Port;") rfl
theorem fl_X8_35 : Cond.fieldLink RX8 35 "LateClaims$Leg" "from" "LLateClaims$Port;" ∈ BW := zg ht2 zc2_0 (i := 37) (n := 133) (w := Cond.fieldLink RX8 35 "LateClaims$Leg" "from" "LLateClaims$Port;") rfl
theorem fl_X4_56 : Cond.fieldLink RX4 56 "LateClaims$Leg" "from" "LLateClaims$Port;" ∈ BW := zg ht2 zc2_0 (i := 38) (n := 134) (w := Cond.fieldLink RX4 56 "LateClaims$Leg" "from" "LLateClaims$Port;") rfl
theorem fl_X10_56 : Cond.fieldLink RX10 56 "LateClaims$Leg" "from" "LLateClaims$Port;" ∈ BW := zg ht2 zc2_0 (i := 39) (n := 135) (w := Cond.fieldLink RX10 56 "LateClaims$Leg" "from" "LLateClaims$Port;") rfl
theorem fl_X11_354 : Cond.fieldLink RX11 354 "LateClaims$Leg" "from" "LLateClaims$Port;" ∈ BW := zg ht2 zc2_1 (i := 0) (n := 136) (w := Cond.fieldLink RX11 354 "LateClaims$Leg" "from" "LLateClaims$Port;") rfl
theorem fl_X5_17 : Cond.fieldLink RX5 17 "LateClaims$Leg" "to" "LLateClaims$Port;" ∈ BW := zg ht2 zc2_1 (i := 1) (n := 137) (w := Cond.fieldLink RX5 17 "LateClaims$Leg" "to" "LLateClaims$Port;") rfl
theorem fl_X8_39 : Cond.fieldLink RX8 39 "LateClaims$Leg" "to" "LLateClaims$Port;" ∈ BW := zg ht2 zc2_1 (i := 2) (n := 138) (w := Cond.fieldLink RX8 39 "LateClaims$Leg" "to" "LLateClaims$Port;") rfl
theorem fl_X4_74 : Cond.fieldLink RX4 74 "LateClaims$Leg" "to" "LLateClaims$Port;" ∈ BW := zg ht2 zc2_1 (i := 3) (n := 139) (w := Cond.fieldLink RX4 74 "LateClaims$Leg" "to" "LLateClaims$Port;") rfl
theorem fl_X10_52 : Cond.fieldLink RX10 52 "LateClaims$Leg" "to" "LLateClaims$Port;" ∈ BW := zg ht2 zc2_1 (i := 4) (n := 140) (w := Cond.fieldLink RX10 52 "LateClaims$Leg" "to" "LLateClaims$Port;") rfl
theorem fl_X11_358 : Cond.fieldLink RX11 358 "LateClaims$Leg" "to" "LLateClaims$Port;" ∈ BW := zg ht2 zc2_1 (i := 5) (n := 141) (w := Cond.fieldLink RX11 358 "LateClaims$Leg" "to" "LLateClaims$Port;") rfl
theorem fl_X5_20 : Cond.fieldLink RX5 20 "LateClaims$Leg" "plane" "I" ∈ BW := zg ht2 zc2_1 (i := 6) (n := 142) (w := Cond.fieldLink RX5 20 "LateClaims$Leg" "plane" "I") rfl
theorem fl_X10_49 : Cond.fieldLink RX10 49 "LateClaims$Leg" "plane" "I" ∈ BW := zg ht2 zc2_1 (i := 7) (n := 143) (w := Cond.fieldLink RX10 49 "LateClaims$Leg" "plane" "I") rfl
theorem fl_X5_23 : Cond.fieldLink RX5 23 "LateClaims$Leg" "crew" "I" ∈ BW := zg ht2 zc2_1 (i := 8) (n := 144) (w := Cond.fieldLink RX5 23 "LateClaims$Leg" "crew" "I") rfl
theorem fl_X10_46 : Cond.fieldLink RX10 46 "LateClaims$Leg" "crew" "I" ∈ BW := zg ht2 zc2_1 (i := 9) (n := 145) (w := Cond.fieldLink RX10 46 "LateClaims$Leg" "crew" "I") rfl
theorem fl_X5_26 : Cond.fieldLink RX5 26 "LateClaims$Leg" "leave" "I" ∈ BW := zg ht2 zc2_1 (i := 10) (n := 146) (w := Cond.fieldLink RX5 26 "LateClaims$Leg" "leave" "I") rfl
theorem fl_X8_42 : Cond.fieldLink RX8 42 "LateClaims$Leg" "leave" "I" ∈ BW := zg ht2 zc2_1 (i := 11) (n := 147) (w := Cond.fieldLink RX8 42 "LateClaims$Leg" "leave" "I") rfl
theorem fl_X10_59 : Cond.fieldLink RX10 59 "LateClaims$Leg" "leave" "I" ∈ BW := zg ht2 zc2_1 (i := 12) (n := 148) (w := Cond.fieldLink RX10 59 "LateClaims$Leg" "leave" "I") rfl
theorem fl_X11_177 : Cond.fieldLink RX11 177 "LateClaims$Leg" "leave" "I" ∈ BW := zg ht2 zc2_1 (i := 13) (n := 149) (w := Cond.fieldLink RX11 177 "LateClaims$Leg" "leave" "I") rfl
theorem fl_X5_29 : Cond.fieldLink RX5 29 "LateClaims$Leg" "arrive" "I" ∈ BW := zg ht2 zc2_1 (i := 14) (n := 150) (w := Cond.fieldLink RX5 29 "LateClaims$Leg" "arrive" "I") rfl
theorem fl_X8_45 : Cond.fieldLink RX8 45 "LateClaims$Leg" "arrive" "I" ∈ BW := zg ht2 zc2_1 (i := 15) (n := 151) (w := Cond.fieldLink RX8 45 "LateClaims$Leg" "arrive" "I") rfl
theorem fl_X10_62 : Cond.fieldLink RX10 62 "LateClaims$Leg" "arrive" "I" ∈ BW := zg ht2 zc2_1 (i := 16) (n := 152) (w := Cond.fieldLink RX10 62 "LateClaims$Leg" "arrive" "I") rfl
theorem fl_X11_365 : Cond.fieldLink RX11 365 "LateClaims$Leg" "arrive" "I" ∈ BW := zg ht2 zc2_1 (i := 17) (n := 153) (w := Cond.fieldLink RX11 365 "LateClaims$Leg" "arrive" "I") rfl
theorem fl_X5_38 : Cond.fieldLink RX5 38 "LateClaims$Leg" "logged" "Z" ∈ BW := zg ht2 zc2_1 (i := 18) (n := 154) (w := Cond.fieldLink RX5 38 "LateClaims$Leg" "logged" "Z") rfl
theorem fl_X10_39 : Cond.fieldLink RX10 39 "LateClaims$Leg" "logged" "Z" ∈ BW := zg ht2 zc2_1 (i := 19) (n := 155) (w := Cond.fieldLink RX10 39 "LateClaims$Leg" "logged" "Z") rfl
theorem fl_X8_48 : Cond.fieldLink RX8 48 "LateClaims$Leg" "logged" "Z" ∈ BW := zg ht2 zc2_1 (i := 20) (n := 156) (w := Cond.fieldLink RX8 48 "LateClaims$Leg" "logged" "Z") rfl
theorem fl_X11_126 : Cond.fieldLink RX11 126 "LateClaims$Leg" "logged" "Z" ∈ BW := zg ht2 zc2_1 (i := 21) (n := 157) (w := Cond.fieldLink RX11 126 "LateClaims$Leg" "logged" "Z") rfl
theorem fl_X5_32 : Cond.fieldLink RX5 32 "LateClaims$Leg" "left" "I" ∈ BW := zg ht2 zc2_1 (i := 22) (n := 158) (w := Cond.fieldLink RX5 32 "LateClaims$Leg" "left" "I") rfl
theorem fl_X5_35 : Cond.fieldLink RX5 35 "LateClaims$Leg" "arrived" "I" ∈ BW := zg ht2 zc2_1 (i := 23) (n := 159) (w := Cond.fieldLink RX5 35 "LateClaims$Leg" "arrived" "I") rfl
theorem fl_X5_56 : Cond.fieldLink RX5 56 "LateClaims$Leg" "rightLeft" "I" ∈ BW := zg ht2 zc2_1 (i := 24) (n := 160) (w := Cond.fieldLink RX5 56 "LateClaims$Leg" "rightLeft" "I") rfl
theorem fl_X8_52 : Cond.fieldLink RX8 52 "LateClaims$Leg" "rightLeft" "I" ∈ BW := zg ht2 zc2_1 (i := 25) (n := 161) (w := Cond.fieldLink RX8 52 "LateClaims$Leg" "rightLeft" "I") rfl
theorem fl_X10_101 : Cond.fieldLink RX10 101 "LateClaims$Leg" "rightLeft" "I" ∈ BW := zg ht2 zc2_1 (i := 26) (n := 162) (w := Cond.fieldLink RX10 101 "LateClaims$Leg" "rightLeft" "I") rfl
theorem fl_X11_186 : Cond.fieldLink RX11 186 "LateClaims$Leg" "rightLeft" "I" ∈ BW := zg ht2 zc2_1 (i := 27) (n := 163) (w := Cond.fieldLink RX11 186 "LateClaims$Leg" "rightLeft" "I") rfl
theorem fl_X5_59 : Cond.fieldLink RX5 59 "LateClaims$Leg" "rightArrived" "I" ∈ BW := zg ht2 zc2_1 (i := 28) (n := 164) (w := Cond.fieldLink RX5 59 "LateClaims$Leg" "rightArrived" "I") rfl
theorem fl_X8_55 : Cond.fieldLink RX8 55 "LateClaims$Leg" "rightArrived" "I" ∈ BW := zg ht2 zc2_1 (i := 29) (n := 165) (w := Cond.fieldLink RX8 55 "LateClaims$Leg" "rightArrived" "I") rfl
theorem fl_X10_98 : Cond.fieldLink RX10 98 "LateClaims$Leg" "rightArrived" "I" ∈ BW := zg ht2 zc2_1 (i := 30) (n := 166) (w := Cond.fieldLink RX10 98 "LateClaims$Leg" "rightArrived" "I") rfl
theorem fl_X11_347 : Cond.fieldLink RX11 347 "LateClaims$Leg" "rightArrived" "I" ∈ BW := zg ht2 zc2_1 (i := 31) (n := 167) (w := Cond.fieldLink RX11 347 "LateClaims$Leg" "rightArrived" "I") rfl
theorem fl_X5_62 : Cond.fieldLink RX5 62 "LateClaims$Leg" "outlate" "I" ∈ BW := zg ht2 zc2_1 (i := 32) (n := 168) (w := Cond.fieldLink RX5 62 "LateClaims$Leg" "outlate" "I") rfl
theorem fl_X11_148 : Cond.fieldLink RX11 148 "LateClaims$Leg" "outlate" "I" ∈ BW := zg ht2 zc2_1 (i := 33) (n := 169) (w := Cond.fieldLink RX11 148 "LateClaims$Leg" "outlate" "I") rfl
theorem fl_X5_65 : Cond.fieldLink RX5 65 "LateClaims$Leg" "late" "I" ∈ BW := zg ht2 zc2_1 (i := 34) (n := 170) (w := Cond.fieldLink RX5 65 "LateClaims$Leg" "late" "I") rfl
theorem fl_X10_71 : Cond.fieldLink RX10 71 "LateClaims$Leg" "late" "I" ∈ BW := zg ht2 zc2_1 (i := 35) (n := 171) (w := Cond.fieldLink RX10 71 "LateClaims$Leg" "late" "I") rfl
theorem fl_X11_145 : Cond.fieldLink RX11 145 "LateClaims$Leg" "late" "I" ∈ BW := zg ht2 zc2_1 (i := 36) (n := 172) (w := Cond.fieldLink RX11 145 "LateClaims$Leg" "late" "I") rfl
theorem fl_X10_91 : Cond.fieldLink RX10 91 "LateClaims$Leg" "cause" "I" ∈ BW := zg ht2 zc2_1 (i := 37) (n := 173) (w := Cond.fieldLink RX10 91 "LateClaims$Leg" "cause" "I") rfl
theorem fl_X11_136 : Cond.fieldLink RX11 136 "LateClaims$Leg" "cause" "I" ∈ BW := zg ht2 zc2_1 (i := 38) (n := 174) (w := Cond.fieldLink RX11 136 "LateClaims$Leg" "cause" "I") rfl
theorem ml_L_41 : Cond.methodLink RL 41 yX11_log ∈ BW := zg ht2 zc2_1 (i := 39) (n := 206) (w := Cond.methodLink RL 41 yX11_log) rfl
theorem ml_X11_123 : Cond.methodLink RX11 123 yX10_find ∈ BW := zg ht2 zc2_2 (i := 0) (n := 210) (w := Cond.methodLink RX11 123 yX10_find) rfl
theorem ml_X11_132 : Cond.methodLink RX11 132 yX5_enter ∈ BW := zg ht2 zc2_2 (i := 1) (n := 215) (w := Cond.methodLink RX11 132 yX5_enter) rfl
theorem ml_X5_42 : Cond.methodLink RX5 42 yX5_putRight ∈ BW := zg ht2 zc2_2 (i := 2) (n := 219) (w := Cond.methodLink RX5 42 yX5_putRight) rfl
theorem ml_L_45 : Cond.methodLink RL 45 yX11_cause ∈ BW := zg ht2 zc2_2 (i := 3) (n := 220) (w := Cond.methodLink RL 45 yX11_cause) rfl
theorem ml_L_49 : Cond.methodLink RL 49 yX11_set ∈ BW := zg ht2 zc2_2 (i := 4) (n := 224) (w := Cond.methodLink RL 49 yX11_set) rfl
theorem fl_X11_139 : Cond.fieldLink RX11 139 "LateClaims" "LEAST_SETTING" "[I" ∈ BW := zg ht2 zc2_2 (i := 5) (n := 228) (w := Cond.fieldLink RX11 139 "LateClaims" "LEAST_SETTING" "[I") rfl
theorem fl_X11_142 : Cond.fieldLink RX11 142 "LateClaims" "GREATEST_SETTING" "[I" ∈ BW := zg ht2 zc2_2 (i := 6) (n := 230) (w := Cond.fieldLink RX11 142 "LateClaims" "GREATEST_SETTING" "[I") rfl
theorem ml_L_53 : Cond.methodLink RL 53 yX11_legOf ∈ BW := zg ht2 zc2_2 (i := 7) (n := 232) (w := Cond.methodLink RL 53 yX11_legOf) rfl
theorem ml_X11_151 : Cond.methodLink RX11 151 yX11_waitOf ∈ BW := zg ht2 zc2_2 (i := 8) (n := 236) (w := Cond.methodLink RX11 151 yX11_waitOf) rfl
theorem ml_X11_159 : Cond.methodLink RX11 159 yX11_gapFor ∈ BW := zg ht3 zc3_0 (i := 0) (n := 0) (w := Cond.methodLink RX11 159 yX11_gapFor) rfl
theorem ml_X11_163 : Cond.methodLink RX11 163 yX10_aheadOf ∈ BW := zg ht3 zc3_0 (i := 1) (n := 4) (w := Cond.methodLink RX11 163 yX10_aheadOf) rfl
theorem ml_X11_336 : Cond.methodLink RX11 336 yX5_waitFor ∈ BW := zg ht3 zc3_0 (i := 2) (n := 8) (w := Cond.methodLink RX11 336 yX5_waitFor) rfl
theorem ml_X5_68 : Cond.methodLink RX5 68 yJ9_min_7cf53 ∈ BW := zg ht3 zc3_0 (i := 3) (n := 12) (w := Cond.methodLink RX5 68 yJ9_min_7cf53) rfl
theorem ml_X11_155 : Cond.methodLink RX11 155 yX11_handedTo ∈ BW := zg ht3 zc3_0 (i := 4) (n := 15) (w := Cond.methodLink RX11 155 yX11_handedTo) rfl
theorem ml_X11_180 : Cond.methodLink RX11 180 yJ9_max_7cf53 ∈ BW := zg ht3 zc3_0 (i := 5) (n := 19) (w := Cond.methodLink RX11 180 yJ9_max_7cf53) rfl
theorem ml_X11_340 : Cond.methodLink RX11 340 yJ9_min_7cf53 ∈ BW := zg ht3 zc3_0 (i := 6) (n := 20) (w := Cond.methodLink RX11 340 yJ9_min_7cf53) rfl
theorem ml_L_57 : Cond.methodLink RL 57 yX11_ahead ∈ BW := zg ht3 zc3_0 (i := 7) (n := 21) (w := Cond.methodLink RL 57 yX11_ahead) rfl
theorem ml_L_62 : Cond.methodLink RL 62 yX11_minutes ∈ BW := zg ht3 zc3_0 (i := 8) (n := 25) (w := Cond.methodLink RL 62 yX11_minutes) rfl
theorem ml_X11_170 : Cond.methodLink RX11 170 yX10_trace ∈ BW := zg ht3 zc3_0 (i := 9) (n := 29) (w := Cond.methodLink RX11 170 yX10_trace) rfl
theorem ml_X10_65 : Cond.methodLink RX10 65 yJ7_fill_53178 ∈ BW := zg ht3 zc3_0 (i := 10) (n := 33) (w := Cond.methodLink RX10 65 yJ7_fill_53178) rfl
theorem ml_X10_74 : Cond.methodLink RX10 74 yX10_aheadOf ∈ BW := zg ht3 zc3_0 (i := 11) (n := 34) (w := Cond.methodLink RX10 74 yX10_aheadOf) rfl
theorem ml_X10_78 : Cond.methodLink RX10 78 yX5_waitFor ∈ BW := zg ht3 zc3_0 (i := 12) (n := 35) (w := Cond.methodLink RX10 78 yX5_waitFor) rfl
theorem ml_X10_82 : Cond.methodLink RX10 82 yJ9_max_7cf53 ∈ BW := zg ht3 zc3_0 (i := 13) (n := 36) (w := Cond.methodLink RX10 82 yJ9_max_7cf53) rfl
theorem ml_X10_88 : Cond.methodLink RX10 88 yJ9_min_7cf53 ∈ BW := zg ht3 zc3_0 (i := 14) (n := 37) (w := Cond.methodLink RX10 88 yJ9_min_7cf53) rfl
theorem ml_L_66 : Cond.methodLink RL 66 yX11_saved ∈ BW := zg ht3 zc3_0 (i := 15) (n := 38) (w := Cond.methodLink RL 66 yX11_saved) rfl
theorem ml_L_70 : Cond.methodLink RL 70 yX11_traveller ∈ BW := zg ht3 zc3_0 (i := 16) (n := 42) (w := Cond.methodLink RL 70 yX11_traveller) rfl
theorem ml_X11_189 : Cond.methodLink RX11 189 yX9_isFull ∈ BW := zg ht3 zc3_0 (i := 17) (n := 46) (w := Cond.methodLink RX11 189 yX9_isFull) rfl
theorem ml_X11_190 : Cond.methodLink RX11 190 yX9_add ∈ BW := zg ht3 zc3_0 (i := 18) (n := 50) (w := Cond.methodLink RX11 190 yX9_add) rfl
theorem ib_X8 : Cond.instantiable RX8 7 ∈ BW := zg ht3 zc3_0 (i := 19) (n := 54) (w := Cond.instantiable RX8 7) rfl
theorem ml_X9_25 : Cond.methodLink RX9 25 yX8_init ∈ BW := zg ht3 zc3_0 (i := 20) (n := 55) (w := Cond.methodLink RX9 25 yX8_init) rfl
theorem kl_X8_22 : Cond.classLink RX8 22 "LateClaims$Leg" ∈ BW := zg ht3 zc3_0 (i := 21) (n := 59) (w := Cond.classLink RX8 22 "LateClaims$Leg") rfl
theorem fl_X8_9 : Cond.fieldLink RX8 9 "LateClaims$Ticket" "number" "I" ∈ BW := zg ht3 zc3_0 (i := 22) (n := 60) (w := Cond.fieldLink RX8 9 "LateClaims$Ticket" "number" "I") rfl
theorem fl_X11_270 : Cond.fieldLink RX11 270 "LateClaims$Ticket" "number" "I" ∈ BW := zg ht3 zc3_0 (i := 23) (n := 61) (w := Cond.fieldLink RX11 270 "LateClaims$Ticket" "number" "I") rfl
theorem fl_X8_15 : Cond.fieldLink RX8 15 "LateClaims$Ticket" "first" "LLateClaims$Leg;" ∈ BW := zg ht3 zc3_0 (i := 24) (n := 62) (w := Cond.fieldLink RX8 15 "LateClaims$Ticket" "first" "LLateClaims$Leg;") rfl
theorem fl_X4_50 : Cond.fieldLink RX4 50 "LateClaims$Ticket" "first" "LLateClaims$Leg;" ∈ BW := zg ht3 zc3_0 (i := 25) (n := 63) (w := Cond.fieldLink RX4 50 "LateClaims$Ticket" "first" "LLateClaims$Leg;") rfl
theorem fl_X11_381 : Cond.fieldLink RX11 381 "LateClaims$Ticket" "first" "LLateClaims$Leg;" ∈ BW := zg ht3 zc3_0 (i := 26) (n := 64) (w := Cond.fieldLink RX11 381 "LateClaims$Ticket" "first" "LLateClaims$Leg;") rfl
theorem fl_X8_19 : Cond.fieldLink RX8 19 "LateClaims$Ticket" "last" "LLateClaims$Leg;" ∈ BW := zg ht3 zc3_0 (i := 27) (n := 65) (w := Cond.fieldLink RX8 19 "LateClaims$Ticket" "last" "LLateClaims$Leg;") rfl
theorem fl_X4_71 : Cond.fieldLink RX4 71 "LateClaims$Ticket" "last" "LLateClaims$Leg;" ∈ BW := zg ht3 zc3_0 (i := 28) (n := 66) (w := Cond.fieldLink RX4 71 "LateClaims$Ticket" "last" "LLateClaims$Leg;") rfl
theorem fl_X11_343 : Cond.fieldLink RX11 343 "LateClaims$Ticket" "last" "LLateClaims$Leg;" ∈ BW := zg ht3 zc3_0 (i := 29) (n := 67) (w := Cond.fieldLink RX11 343 "LateClaims$Ticket" "last" "LLateClaims$Leg;") rfl
theorem fl_X8_24 : Cond.fieldLink RX8 24 "LateClaims$Ticket" "legs" "[LLateClaims$Leg;" ∈ BW := zg ht3 zc3_0 (i := 30) (n := 68) (w := Cond.fieldLink RX8 24 "LateClaims$Ticket" "legs" "[LLateClaims$Leg;") rfl
theorem fl_X11_350 : Cond.fieldLink RX11 350 "LateClaims$Ticket" "legs" "[LLateClaims$Leg;" ∈ BW := zg ht3 zc3_0 (i := 31) (n := 69) (w := Cond.fieldLink RX11 350 "LateClaims$Ticket" "legs" "[LLateClaims$Leg;") rfl
theorem fl_X8_28 : Cond.fieldLink RX8 28 "LateClaims$Ticket" "size" "I" ∈ BW := zg ht3 zc3_0 (i := 32) (n := 70) (w := Cond.fieldLink RX8 28 "LateClaims$Ticket" "size" "I") rfl
theorem fl_X11_205 : Cond.fieldLink RX11 205 "LateClaims$Ticket" "size" "I" ∈ BW := zg ht3 zc3_0 (i := 33) (n := 71) (w := Cond.fieldLink RX11 205 "LateClaims$Ticket" "size" "I") rfl
theorem fl_X8_31 : Cond.fieldLink RX8 31 "LateClaims$Ticket" "owed" "[I" ∈ BW := zg ht3 zc3_0 (i := 34) (n := 72) (w := Cond.fieldLink RX8 31 "LateClaims$Ticket" "owed" "[I") rfl
theorem fl_X2_23 : Cond.fieldLink RX2 23 "LateClaims$Ticket" "owed" "[I" ∈ BW := zg ht3 zc3_0 (i := 35) (n := 73) (w := Cond.fieldLink RX2 23 "LateClaims$Ticket" "owed" "[I") rfl
theorem fl_X11_285 : Cond.fieldLink RX11 285 "LateClaims$Ticket" "owed" "[I" ∈ BW := zg ht3 zc3_0 (i := 36) (n := 74) (w := Cond.fieldLink RX11 285 "LateClaims$Ticket" "owed" "[I") rfl
theorem fl_X3_35 : Cond.fieldLink RX3 35 "LateClaims$Ticket" "claimed" "Z" ∈ BW := zg ht3 zc3_0 (i := 37) (n := 75) (w := Cond.fieldLink RX3 35 "LateClaims$Ticket" "claimed" "Z") rfl
theorem fl_X11_255 : Cond.fieldLink RX11 255 "LateClaims$Ticket" "claimed" "Z" ∈ BW := zg ht3 zc3_0 (i := 38) (n := 76) (w := Cond.fieldLink RX11 255 "LateClaims$Ticket" "claimed" "Z") rfl
theorem ml_L_74 : Cond.methodLink RL 74 yX11_then ∈ BW := zg ht3 zc3_0 (i := 39) (n := 92) (w := Cond.methodLink RL 74 yX11_then) rfl
theorem ml_X11_192 : Cond.methodLink RX11 192 yX9_find ∈ BW := zg ht3 zc3_1 (i := 0) (n := 96) (w := Cond.methodLink RX11 192 yX9_find) rfl
theorem ml_X11_195 : Cond.methodLink RX11 195 yX8_isFollowedBy ∈ BW := zg ht3 zc3_1 (i := 1) (n := 101) (w := Cond.methodLink RX11 195 yX8_isFollowedBy) rfl
theorem ml_X11_201 : Cond.methodLink RX11 201 yX8_isFull ∈ BW := zg ht3 zc3_1 (i := 2) (n := 105) (w := Cond.methodLink RX11 201 yX8_isFull) rfl
theorem ml_X11_202 : Cond.methodLink RX11 202 yX8_add ∈ BW := zg ht3 zc3_1 (i := 3) (n := 109) (w := Cond.methodLink RX11 202 yX8_add) rfl
theorem ml_L_78 : Cond.methodLink RL 78 yX11_missed ∈ BW := zg ht3 zc3_1 (i := 4) (n := 113) (w := Cond.methodLink RL 78 yX11_missed) rfl
theorem ml_X11_208 : Cond.methodLink RX11 208 yX8_missedPlace ∈ BW := zg ht3 zc3_1 (i := 5) (n := 117) (w := Cond.methodLink RX11 208 yX8_missedPlace) rfl
theorem ml_L_82 : Cond.methodLink RL 82 yX11_soonest ∈ BW := zg ht3 zc3_1 (i := 6) (n := 121) (w := Cond.methodLink RL 82 yX11_soonest) rfl
theorem ml_X11_211 : Cond.methodLink RX11 211 yX11_soonestOf ∈ BW := zg ht3 zc3_1 (i := 7) (n := 125) (w := Cond.methodLink RX11 211 yX11_soonestOf) rfl
theorem ml_X11_361 : Cond.methodLink RX11 361 yX10_soonestBy ∈ BW := zg ht3 zc3_1 (i := 8) (n := 129) (w := Cond.methodLink RX11 361 yX10_soonestBy) rfl
theorem ml_X10_94 : Cond.methodLink RX10 94 yX10_reach ∈ BW := zg ht3 zc3_1 (i := 9) (n := 133) (w := Cond.methodLink RX10 94 yX10_reach) rfl
theorem ml_L_86 : Cond.methodLink RL 86 yX11_hours ∈ BW := zg ht3 zc3_1 (i := 10) (n := 137) (w := Cond.methodLink RL 86 yX11_hours) rfl
theorem ml_X11_215 : Cond.methodLink RX11 215 yX11_hoursOf ∈ BW := zg ht3 zc3_1 (i := 11) (n := 141) (w := Cond.methodLink RX11 215 yX11_hoursOf) rfl
theorem ml_L_90 : Cond.methodLink RL 90 yX11_blame ∈ BW := zg ht3 zc3_1 (i := 12) (n := 145) (w := Cond.methodLink RL 90 yX11_blame) rfl
theorem ml_X11_218 : Cond.methodLink RX11 218 yX11_blameOf ∈ BW := zg ht3 zc3_1 (i := 13) (n := 149) (w := Cond.methodLink RX11 218 yX11_blameOf) rfl
theorem ml_X11_368 : Cond.methodLink RX11 368 yX8_legAtFault ∈ BW := zg ht3 zc3_1 (i := 14) (n := 153) (w := Cond.methodLink RX11 368 yX8_legAtFault) rfl
theorem ml_X8_58 : Cond.methodLink RX8 58 yX8_missedPlace ∈ BW := zg ht3 zc3_1 (i := 15) (n := 157) (w := Cond.methodLink RX8 58 yX8_missedPlace) rfl
theorem ml_X11_371 : Cond.methodLink RX11 371 yX10_greatestCause ∈ BW := zg ht3 zc3_1 (i := 16) (n := 158) (w := Cond.methodLink RX11 371 yX10_greatestCause) rfl
theorem ml_L_94 : Cond.methodLink RL 94 yX11_law ∈ BW := zg ht3 zc3_1 (i := 17) (n := 162) (w := Cond.methodLink RL 94 yX11_law) rfl
theorem ml_X11_221 : Cond.methodLink RX11 221 yX4_isFull ∈ BW := zg ht3 zc3_1 (i := 18) (n := 166) (w := Cond.methodLink RX11 221 yX4_isFull) rfl
theorem ml_X11_222 : Cond.methodLink RX11 222 yX4_add ∈ BW := zg ht3 zc3_1 (i := 19) (n := 170) (w := Cond.methodLink RX11 222 yX4_add) rfl
theorem ml_L_99 : Cond.methodLink RL 99 yX11_excuse ∈ BW := zg ht3 zc3_1 (i := 20) (n := 174) (w := Cond.methodLink RL 99 yX11_excuse) rfl
theorem ml_X11_225 : Cond.methodLink RX11 225 yX4_isFullOfExcuses ∈ BW := zg ht3 zc3_1 (i := 21) (n := 178) (w := Cond.methodLink RX11 225 yX4_isFullOfExcuses) rfl
theorem ml_X11_228 : Cond.methodLink RX11 228 yX4_addExcuse ∈ BW := zg ht3 zc3_1 (i := 22) (n := 182) (w := Cond.methodLink RX11 228 yX4_addExcuse) rfl
theorem ml_L_104 : Cond.methodLink RL 104 yX11_sum ∈ BW := zg ht3 zc3_1 (i := 23) (n := 186) (w := Cond.methodLink RL 104 yX11_sum) rfl
theorem ml_X11_232 : Cond.methodLink RX11 232 yX11_sumFor ∈ BW := zg ht3 zc3_1 (i := 24) (n := 190) (w := Cond.methodLink RX11 232 yX11_sumFor) rfl
theorem ml_X11_236 : Cond.methodLink RX11 236 yX4_landFor ∈ BW := zg ht3 zc3_1 (i := 25) (n := 194) (w := Cond.methodLink RX11 236 yX4_landFor) rfl
theorem ml_X4_67 : Cond.methodLink RX4 67 yX4_hasRows ∈ BW := zg ht3 zc3_1 (i := 26) (n := 198) (w := Cond.methodLink RX4 67 yX4_hasRows) rfl
theorem ml_X4_77 : Cond.methodLink RX4 77 yX4_isInForce ∈ BW := zg ht3 zc3_1 (i := 27) (n := 202) (w := Cond.methodLink RX4 77 yX4_isInForce) rfl
theorem ml_X11_239 : Cond.methodLink RX11 239 yX8_leaveDay ∈ BW := zg ht3 zc3_1 (i := 28) (n := 206) (w := Cond.methodLink RX11 239 yX8_leaveDay) rfl
theorem ml_X11_243 : Cond.methodLink RX11 243 yX4_isExcused ∈ BW := zg ht3 zc3_1 (i := 29) (n := 210) (w := Cond.methodLink RX11 243 yX4_isExcused) rfl
theorem ml_X11_374 : Cond.methodLink RX11 374 yX11_milesOf ∈ BW := zg ht3 zc3_1 (i := 30) (n := 214) (w := Cond.methodLink RX11 374 yX11_milesOf) rfl
theorem ml_X11_377 : Cond.methodLink RX11 377 yX4_greatestSum ∈ BW := zg ht3 zc3_1 (i := 31) (n := 218) (w := Cond.methodLink RX11 377 yX4_greatestSum) rfl
theorem ml_L_108 : Cond.methodLink RL 108 yX11_bar ∈ BW := zg ht3 zc3_1 (i := 32) (n := 222) (w := Cond.methodLink RL 108 yX11_bar) rfl
theorem ml_L_112 : Cond.methodLink RL 112 yX11_stop ∈ BW := zg ht3 zc3_1 (i := 33) (n := 226) (w := Cond.methodLink RL 112 yX11_stop) rfl
theorem ml_X11_250 : Cond.methodLink RX11 250 yX0_isFull ∈ BW := zg ht3 zc3_1 (i := 34) (n := 230) (w := Cond.methodLink RX11 250 yX0_isFull) rfl
theorem ml_X11_251 : Cond.methodLink RX11 251 yX0_addStop ∈ BW := zg ht3 zc3_1 (i := 35) (n := 234) (w := Cond.methodLink RX11 251 yX0_addStop) rfl
theorem ml_L_116 : Cond.methodLink RL 116 yX11_claim ∈ BW := zg ht3 zc3_1 (i := 36) (n := 238) (w := Cond.methodLink RL 116 yX11_claim) rfl
theorem ml_X11_258 : Cond.methodLink RX11 258 yX3_isFull ∈ BW := zg ht4 zc4_0 (i := 0) (n := 2) (w := Cond.methodLink RX11 258 yX3_isFull) rfl
theorem ml_X11_259 : Cond.methodLink RX11 259 yX3_add ∈ BW := zg ht4 zc4_0 (i := 1) (n := 6) (w := Cond.methodLink RX11 259 yX3_add) rfl
theorem ib_X2 : Cond.instantiable RX2 4 ∈ BW := zg ht4 zc4_0 (i := 2) (n := 10) (w := Cond.instantiable RX2 4) rfl
theorem ml_X3_32 : Cond.methodLink RX3 32 yX2_init ∈ BW := zg ht4 zc4_0 (i := 3) (n := 11) (w := Cond.methodLink RX3 32 yX2_init) rfl
theorem fl_X2_9 : Cond.fieldLink RX2 9 "LateClaims$Claim" "ticket" "LLateClaims$Ticket;" ∈ BW := zg ht4 zc4_0 (i := 4) (n := 15) (w := Cond.fieldLink RX2 9 "LateClaims$Claim" "ticket" "LLateClaims$Ticket;") rfl
theorem fl_X11_264 : Cond.fieldLink RX11 264 "LateClaims$Claim" "ticket" "LLateClaims$Ticket;" ∈ BW := zg ht4 zc4_0 (i := 5) (n := 16) (w := Cond.fieldLink RX11 264 "LateClaims$Claim" "ticket" "LLateClaims$Ticket;") rfl
theorem fl_X2_15 : Cond.fieldLink RX2 15 "LateClaims$Claim" "day" "I" ∈ BW := zg ht4 zc4_0 (i := 6) (n := 17) (w := Cond.fieldLink RX2 15 "LateClaims$Claim" "day" "I") rfl
theorem fl_X11_271 : Cond.fieldLink RX11 271 "LateClaims$Claim" "day" "I" ∈ BW := zg ht4 zc4_0 (i := 7) (n := 18) (w := Cond.fieldLink RX11 271 "LateClaims$Claim" "day" "I") rfl
theorem fl_X2_19 : Cond.fieldLink RX2 19 "LateClaims$Claim" "paid" "[I" ∈ BW := zg ht4 zc4_0 (i := 8) (n := 19) (w := Cond.fieldLink RX2 19 "LateClaims$Claim" "paid" "[I") rfl
theorem fl_X3_41 : Cond.fieldLink RX3 41 "LateClaims$Claim" "paid" "[I" ∈ BW := zg ht4 zc4_0 (i := 9) (n := 20) (w := Cond.fieldLink RX3 41 "LateClaims$Claim" "paid" "[I") rfl
theorem fl_X11_289 : Cond.fieldLink RX11 289 "LateClaims$Claim" "paid" "[I" ∈ BW := zg ht4 zc4_0 (i := 10) (n := 21) (w := Cond.fieldLink RX11 289 "LateClaims$Claim" "paid" "[I") rfl
theorem fl_X11_282 : Cond.fieldLink RX11 282 "LateClaims$Claim" "settled" "I" ∈ BW := zg ht4 zc4_0 (i := 11) (n := 22) (w := Cond.fieldLink RX11 282 "LateClaims$Claim" "settled" "I") rfl
theorem ml_L_120 : Cond.methodLink RL 120 yX11_claimOf ∈ BW := zg ht4 zc4_0 (i := 12) (n := 32) (w := Cond.methodLink RL 120 yX11_claimOf) rfl
theorem ml_X11_261 : Cond.methodLink RX11 261 yX3_find ∈ BW := zg ht4 zc4_0 (i := 13) (n := 36) (w := Cond.methodLink RX11 261 yX3_find) rfl
theorem ml_X11_274 : Cond.methodLink RX11 274 yX11_isBarred ∈ BW := zg ht4 zc4_0 (i := 14) (n := 41) (w := Cond.methodLink RX11 274 yX11_isBarred) rfl
theorem ml_X11_384 : Cond.methodLink RX11 384 yX8_arriveDay ∈ BW := zg ht4 zc4_0 (i := 15) (n := 45) (w := Cond.methodLink RX11 384 yX8_arriveDay) rfl
theorem ml_X11_387 : Cond.methodLink RX11 387 yX0_daysThatRan ∈ BW := zg ht4 zc4_0 (i := 16) (n := 49) (w := Cond.methodLink RX11 387 yX0_daysThatRan) rfl
theorem ml_X0_34 : Cond.methodLink RX0 34 yX0_nextStop ∈ BW := zg ht4 zc4_0 (i := 17) (n := 53) (w := Cond.methodLink RX0 34 yX0_nextStop) rfl
theorem ml_X0_38 : Cond.methodLink RX0 38 yJ9_min_7cf53 ∈ BW := zg ht4 zc4_0 (i := 18) (n := 57) (w := Cond.methodLink RX0 38 yJ9_min_7cf53) rfl
theorem ml_X0_43 : Cond.methodLink RX0 43 yJ9_max_7cf53 ∈ BW := zg ht4 zc4_0 (i := 19) (n := 58) (w := Cond.methodLink RX0 43 yJ9_max_7cf53) rfl
theorem ml_X11_278 : Cond.methodLink RX11 278 yX11_worthOf ∈ BW := zg ht4 zc4_0 (i := 20) (n := 59) (w := Cond.methodLink RX11 278 yX11_worthOf) rfl
theorem ml_L_124 : Cond.methodLink RL 124 yX11_owes ∈ BW := zg ht4 zc4_0 (i := 21) (n := 63) (w := Cond.methodLink RL 124 yX11_owes) rfl
theorem ml_L_128 : Cond.methodLink RL 128 yX11_pay ∈ BW := zg ht4 zc4_0 (i := 22) (n := 67) (w := Cond.methodLink RL 128 yX11_pay) rfl
theorem ct_X11_288 : Cond.constant RX11 288 99999 ∈ BW := zg ht4 zc4_0 (i := 23) (n := 71) (w := Cond.constant RX11 288 99999) rfl
theorem ml_L_132 : Cond.methodLink RL 132 yX11_due ∈ BW := zg ht4 zc4_0 (i := 24) (n := 72) (w := Cond.methodLink RL 132 yX11_due) rfl
theorem ml_X11_292 : Cond.methodLink RX11 292 yX2_partOf ∈ BW := zg ht4 zc4_0 (i := 25) (n := 76) (w := Cond.methodLink RX11 292 yX2_partOf) rfl
theorem ml_X2_28 : Cond.methodLink RX2 28 yJ9_min_7cf53 ∈ BW := zg ht4 zc4_0 (i := 26) (n := 80) (w := Cond.methodLink RX2 28 yJ9_min_7cf53) rfl
theorem ml_L_136 : Cond.methodLink RL 136 yX11_balance ∈ BW := zg ht4 zc4_0 (i := 27) (n := 81) (w := Cond.methodLink RL 136 yX11_balance) rfl
theorem ml_X11_295 : Cond.methodLink RX11 295 yX11_settleUp ∈ BW := zg ht4 zc4_0 (i := 28) (n := 85) (w := Cond.methodLink RX11 295 yX11_settleUp) rfl
theorem ml_X11_394 : Cond.methodLink RX11 394 yJ7_fill_53178 ∈ BW := zg ht4 zc4_0 (i := 29) (n := 89) (w := Cond.methodLink RX11 394 yJ7_fill_53178) rfl
theorem ml_X11_400 : Cond.methodLink RX11 400 yX3_addToBalances ∈ BW := zg ht4 zc4_0 (i := 30) (n := 90) (w := Cond.methodLink RX11 400 yX3_addToBalances) rfl
theorem ml_X3_44 : Cond.methodLink RX3 44 yX2_partOf ∈ BW := zg ht4 zc4_0 (i := 31) (n := 94) (w := Cond.methodLink RX3 44 yX2_partOf) rfl
theorem ml_L_140 : Cond.methodLink RL 140 yX11_back ∈ BW := zg ht4 zc4_0 (i := 32) (n := 95) (w := Cond.methodLink RL 140 yX11_back) rfl
theorem ml_X11_301 : Cond.methodLink RX11 301 yX3_fewestPayments ∈ BW := zg ht4 zc4_0 (i := 33) (n := 99) (w := Cond.methodLink RX11 301 yX3_fewestPayments) rfl
theorem ml_X3_48 : Cond.methodLink RX3 48 yX3_togetherIn ∈ BW := zg ht4 zc4_0 (i := 34) (n := 103) (w := Cond.methodLink RX3 48 yX3_togetherIn) rfl
theorem ml_X3_52 : Cond.methodLink RX3 52 yJ9_max_7cf53 ∈ BW := zg ht4 zc4_0 (i := 35) (n := 107) (w := Cond.methodLink RX3 52 yJ9_max_7cf53) rfl
theorem ml_L_145 : Cond.methodLink RL 145 yX11_judged ∈ BW := zg ht4 zc4_0 (i := 36) (n := 108) (w := Cond.methodLink RL 145 yX11_judged) rfl
theorem ml_X11_304 : Cond.methodLink RX11 304 yX1_isFull ∈ BW := zg ht4 zc4_0 (i := 37) (n := 112) (w := Cond.methodLink RX11 304 yX1_isFull) rfl
theorem ml_X11_305 : Cond.methodLink RX11 305 yX1_add ∈ BW := zg ht4 zc4_0 (i := 38) (n := 116) (w := Cond.methodLink RX11 305 yX1_add) rfl
theorem ml_L_150 : Cond.methodLink RL 150 yX11_odds ∈ BW := zg ht4 zc4_0 (i := 39) (n := 120) (w := Cond.methodLink RL 150 yX11_odds) rfl
theorem ml_X11_308 : Cond.methodLink RX11 308 yX11_chooseLike ∈ BW := zg ht4 zc4_1 (i := 0) (n := 124) (w := Cond.methodLink RX11 308 yX11_chooseLike) rfl
theorem ml_X11_404 : Cond.methodLink RX11 404 yX1_measure ∈ BW := zg ht4 zc4_1 (i := 1) (n := 128) (w := Cond.methodLink RX11 404 yX1_measure) rfl
theorem ml_X1_38 : Cond.methodLink RX1 38 yJ9_abs_0f7a4 ∈ BW := zg ht4 zc4_1 (i := 2) (n := 132) (w := Cond.methodLink RX1 38 yJ9_abs_0f7a4) rfl
theorem ml_X11_408 : Cond.methodLink RX11 408 yX1_choose ∈ BW := zg ht4 zc4_1 (i := 3) (n := 135) (w := Cond.methodLink RX11 408 yX1_choose) rfl
theorem ml_X1_53 : Cond.methodLink RX1 53 yX1_leastFar ∈ BW := zg ht4 zc4_1 (i := 4) (n := 139) (w := Cond.methodLink RX1 53 yX1_leastFar) rfl
theorem ml_X11_318 : Cond.methodLink RX11 318 yX1_goingOnTimesChosen ∈ BW := zg ht4 zc4_1 (i := 5) (n := 143) (w := Cond.methodLink RX11 318 yX1_goingOnTimesChosen) rfl
theorem ml_L_154 : Cond.methodLink RL 154 yX11_good ∈ BW := zg ht4 zc4_1 (i := 6) (n := 147) (w := Cond.methodLink RL 154 yX11_good) rfl
theorem ml_L_158 : Cond.methodLink RL 158 yX11_count ∈ BW := zg ht4 zc4_1 (i := 7) (n := 151) (w := Cond.methodLink RL 158 yX11_count) rfl
theorem ml_X11_322 : Cond.methodLink RX11 322 yX10_countLogged ∈ BW := zg ht4 zc4_1 (i := 8) (n := 155) (w := Cond.methodLink RX11 322 yX10_countLogged) rfl
theorem ml_X11_328 : Cond.methodLink RX11 328 yX11_countBarred ∈ BW := zg ht4 zc4_1 (i := 9) (n := 159) (w := Cond.methodLink RX11 328 yX11_countBarred) rfl
theorem kl_L_10 : Cond.classLink RL 10 "LateClaimsModel" ∈ BW := zg ht4 zc4_1 (i := 10) (n := 163) (w := Cond.classLink RL 10 "LateClaimsModel") rfl
theorem ib_X12 : Cond.instantiable RX12 60 ∈ BW := zg ht4 zc4_1 (i := 11) (n := 164) (w := Cond.instantiable RX12 60) rfl
theorem ml_L_12 : Cond.methodLink RL 12 yX12_init ∈ BW := zg ht4 zc4_1 (i := 12) (n := 165) (w := Cond.methodLink RL 12 yX12_init) rfl
theorem fl_X12_168 : Cond.fieldLink RX12 168 "LateClaimsModel" "day" "I" ∈ BW := zg ht4 zc4_1 (i := 13) (n := 169) (w := Cond.fieldLink RX12 168 "LateClaimsModel" "day" "I") rfl
theorem fl_X12_7 : Cond.fieldLink RX12 7 "LateClaimsModel" "land" "[I" ∈ BW := zg ht4 zc4_1 (i := 14) (n := 170) (w := Cond.fieldLink RX12 7 "LateClaimsModel" "land" "[I") rfl
theorem fl_X12_13 : Cond.fieldLink RX12 13 "LateClaimsModel" "miles" "[I" ∈ BW := zg ht4 zc4_1 (i := 15) (n := 171) (w := Cond.fieldLink RX12 13 "LateClaimsModel" "miles" "[I") rfl
theorem fl_X12_16 : Cond.fieldLink RX12 16 "LateClaimsModel" "least" "[I" ∈ BW := zg ht4 zc4_1 (i := 16) (n := 172) (w := Cond.fieldLink RX12 16 "LateClaimsModel" "least" "[I") rfl
theorem fl_X12_19 : Cond.fieldLink RX12 19 "LateClaimsModel" "off" "[I" ∈ BW := zg ht4 zc4_1 (i := 17) (n := 173) (w := Cond.fieldLink RX12 19 "LateClaimsModel" "off" "[I") rfl
theorem fl_X12_175 : Cond.fieldLink RX12 175 "LateClaimsModel" "quarrels" "I" ∈ BW := zg ht4 zc4_1 (i := 18) (n := 174) (w := Cond.fieldLink RX12 175 "LateClaimsModel" "quarrels" "I") rfl
theorem fl_X12_160 : Cond.fieldLink RX12 160 "LateClaimsModel" "legs" "I" ∈ BW := zg ht4 zc4_1 (i := 19) (n := 175) (w := Cond.fieldLink RX12 160 "LateClaimsModel" "legs" "I") rfl
theorem fl_X12_22 : Cond.fieldLink RX12 22 "LateClaimsModel" "from" "[I" ∈ BW := zg ht4 zc4_1 (i := 20) (n := 176) (w := Cond.fieldLink RX12 22 "LateClaimsModel" "from" "[I") rfl
theorem fl_X12_25 : Cond.fieldLink RX12 25 "LateClaimsModel" "to" "[I" ∈ BW := zg ht4 zc4_1 (i := 21) (n := 177) (w := Cond.fieldLink RX12 25 "LateClaimsModel" "to" "[I") rfl
theorem fl_X12_28 : Cond.fieldLink RX12 28 "LateClaimsModel" "plane" "[I" ∈ BW := zg ht4 zc4_1 (i := 22) (n := 178) (w := Cond.fieldLink RX12 28 "LateClaimsModel" "plane" "[I") rfl
theorem fl_X12_31 : Cond.fieldLink RX12 31 "LateClaimsModel" "crew" "[I" ∈ BW := zg ht4 zc4_1 (i := 23) (n := 179) (w := Cond.fieldLink RX12 31 "LateClaimsModel" "crew" "[I") rfl
theorem fl_X12_34 : Cond.fieldLink RX12 34 "LateClaimsModel" "leave" "[I" ∈ BW := zg ht4 zc4_1 (i := 24) (n := 180) (w := Cond.fieldLink RX12 34 "LateClaimsModel" "leave" "[I") rfl
theorem fl_X12_37 : Cond.fieldLink RX12 37 "LateClaimsModel" "arrive" "[I" ∈ BW := zg ht4 zc4_1 (i := 25) (n := 181) (w := Cond.fieldLink RX12 37 "LateClaimsModel" "arrive" "[I") rfl
theorem fl_X12_40 : Cond.fieldLink RX12 40 "LateClaimsModel" "isDone" "[Z" ∈ BW := zg ht4 zc4_1 (i := 26) (n := 182) (w := Cond.fieldLink RX12 40 "LateClaimsModel" "isDone" "[Z") rfl
theorem fl_X12_44 : Cond.fieldLink RX12 44 "LateClaimsModel" "left" "[I" ∈ BW := zg ht4 zc4_1 (i := 27) (n := 183) (w := Cond.fieldLink RX12 44 "LateClaimsModel" "left" "[I") rfl
theorem fl_X12_47 : Cond.fieldLink RX12 47 "LateClaimsModel" "arrived" "[I" ∈ BW := zg ht4 zc4_1 (i := 28) (n := 184) (w := Cond.fieldLink RX12 47 "LateClaimsModel" "arrived" "[I") rfl
theorem fl_X12_50 : Cond.fieldLink RX12 50 "LateClaimsModel" "causeOf" "[I" ∈ BW := zg ht4 zc4_1 (i := 29) (n := 185) (w := Cond.fieldLink RX12 50 "LateClaimsModel" "causeOf" "[I") rfl
theorem fl_X12_53 : Cond.fieldLink RX12 53 "LateClaimsModel" "settings" "[I" ∈ BW := zg ht4 zc4_1 (i := 30) (n := 186) (w := Cond.fieldLink RX12 53 "LateClaimsModel" "settings" "[I") rfl
theorem fl_X12_56 : Cond.fieldLink RX12 56 "LateClaimsModel" "refused" "[I" ∈ BW := zg ht4 zc4_1 (i := 31) (n := 187) (w := Cond.fieldLink RX12 56 "LateClaimsModel" "refused" "[I") rfl
theorem fl_X12_59 : Cond.fieldLink RX12 59 "LateClaimsModel" "byCause" "[I" ∈ BW := zg ht4 zc4_1 (i := 32) (n := 188) (w := Cond.fieldLink RX12 59 "LateClaimsModel" "byCause" "[I") rfl
theorem fl_X12_223 : Cond.fieldLink RX12 223 "LateClaimsModel" "travellers" "I" ∈ BW := zg ht4 zc4_1 (i := 33) (n := 189) (w := Cond.fieldLink RX12 223 "LateClaimsModel" "travellers" "I") rfl
theorem fl_X12_62 : Cond.fieldLink RX12 62 "LateClaimsModel" "rows" "[I" ∈ BW := zg ht4 zc4_1 (i := 34) (n := 190) (w := Cond.fieldLink RX12 62 "LateClaimsModel" "rows" "[I") rfl
theorem fl_X12_65 : Cond.fieldLink RX12 65 "LateClaimsModel" "rowMany" "[I" ∈ BW := zg ht4 zc4_1 (i := 35) (n := 191) (w := Cond.fieldLink RX12 65 "LateClaimsModel" "rowMany" "[I") rfl
theorem fl_X12_68 : Cond.fieldLink RX12 68 "LateClaimsModel" "isReached" "[Z" ∈ BW := zg ht4 zc4_1 (i := 36) (n := 192) (w := Cond.fieldLink RX12 68 "LateClaimsModel" "isReached" "[Z") rfl
theorem fl_X12_247 : Cond.fieldLink RX12 247 "LateClaimsModel" "laws" "I" ∈ BW := zg ht4 zc4_1 (i := 37) (n := 193) (w := Cond.fieldLink RX12 247 "LateClaimsModel" "laws" "I") rfl
theorem fl_X12_71 : Cond.fieldLink RX12 71 "LateClaimsModel" "lawLand" "[I" ∈ BW := zg ht4 zc4_1 (i := 38) (n := 194) (w := Cond.fieldLink RX12 71 "LateClaimsModel" "lawLand" "[I") rfl
theorem fl_X12_74 : Cond.fieldLink RX12 74 "LateClaimsModel" "lawDay" "[I" ∈ BW := zg ht4 zc4_1 (i := 39) (n := 195) (w := Cond.fieldLink RX12 74 "LateClaimsModel" "lawDay" "[I") rfl
theorem fl_X12_77 : Cond.fieldLink RX12 77 "LateClaimsModel" "lawMinutes" "[I" ∈ BW := zg ht4 zc4_2 (i := 0) (n := 196) (w := Cond.fieldLink RX12 77 "LateClaimsModel" "lawMinutes" "[I") rfl
theorem fl_X12_80 : Cond.fieldLink RX12 80 "LateClaimsModel" "lawMiles" "[I" ∈ BW := zg ht4 zc4_2 (i := 1) (n := 197) (w := Cond.fieldLink RX12 80 "LateClaimsModel" "lawMiles" "[I") rfl
theorem fl_X12_83 : Cond.fieldLink RX12 83 "LateClaimsModel" "lawSum" "[I" ∈ BW := zg ht4 zc4_2 (i := 2) (n := 198) (w := Cond.fieldLink RX12 83 "LateClaimsModel" "lawSum" "[I") rfl
theorem fl_X12_250 : Cond.fieldLink RX12 250 "LateClaimsModel" "excuses" "I" ∈ BW := zg ht4 zc4_2 (i := 3) (n := 199) (w := Cond.fieldLink RX12 250 "LateClaimsModel" "excuses" "I") rfl
theorem fl_X12_86 : Cond.fieldLink RX12 86 "LateClaimsModel" "excuseLand" "[I" ∈ BW := zg ht4 zc4_2 (i := 4) (n := 200) (w := Cond.fieldLink RX12 86 "LateClaimsModel" "excuseLand" "[I") rfl
theorem fl_X12_89 : Cond.fieldLink RX12 89 "LateClaimsModel" "excuseCause" "[I" ∈ BW := zg ht4 zc4_2 (i := 5) (n := 201) (w := Cond.fieldLink RX12 89 "LateClaimsModel" "excuseCause" "[I") rfl
theorem fl_X12_92 : Cond.fieldLink RX12 92 "LateClaimsModel" "excuseDay" "[I" ∈ BW := zg ht4 zc4_2 (i := 6) (n := 202) (w := Cond.fieldLink RX12 92 "LateClaimsModel" "excuseDay" "[I") rfl
theorem fl_X12_95 : Cond.fieldLink RX12 95 "LateClaimsModel" "excuseTold" "[I" ∈ BW := zg ht4 zc4_2 (i := 7) (n := 203) (w := Cond.fieldLink RX12 95 "LateClaimsModel" "excuseTold" "[I") rfl
theorem fl_X12_98 : Cond.fieldLink RX12 98 "LateClaimsModel" "isExcuse" "[Z" ∈ BW := zg ht4 zc4_2 (i := 8) (n := 204) (w := Cond.fieldLink RX12 98 "LateClaimsModel" "isExcuse" "[Z") rfl
theorem fl_X12_101 : Cond.fieldLink RX12 101 "LateClaimsModel" "bars" "[I" ∈ BW := zg ht4 zc4_2 (i := 9) (n := 205) (w := Cond.fieldLink RX12 101 "LateClaimsModel" "bars" "[I") rfl
theorem fl_X12_272 : Cond.fieldLink RX12 272 "LateClaimsModel" "stops" "I" ∈ BW := zg ht4 zc4_2 (i := 10) (n := 206) (w := Cond.fieldLink RX12 272 "LateClaimsModel" "stops" "I") rfl
theorem fl_X12_104 : Cond.fieldLink RX12 104 "LateClaimsModel" "stopLand" "[I" ∈ BW := zg ht4 zc4_2 (i := 11) (n := 207) (w := Cond.fieldLink RX12 104 "LateClaimsModel" "stopLand" "[I") rfl
theorem fl_X12_107 : Cond.fieldLink RX12 107 "LateClaimsModel" "stopFrom" "[I" ∈ BW := zg ht4 zc4_2 (i := 12) (n := 208) (w := Cond.fieldLink RX12 107 "LateClaimsModel" "stopFrom" "[I") rfl
theorem fl_X12_110 : Cond.fieldLink RX12 110 "LateClaimsModel" "stopTo" "[I" ∈ BW := zg ht4 zc4_2 (i := 13) (n := 209) (w := Cond.fieldLink RX12 110 "LateClaimsModel" "stopTo" "[I") rfl
theorem fl_X12_275 : Cond.fieldLink RX12 275 "LateClaimsModel" "claims" "I" ∈ BW := zg ht4 zc4_2 (i := 14) (n := 210) (w := Cond.fieldLink RX12 275 "LateClaimsModel" "claims" "I") rfl
theorem fl_X12_113 : Cond.fieldLink RX12 113 "LateClaimsModel" "claimOwner" "[I" ∈ BW := zg ht4 zc4_2 (i := 15) (n := 211) (w := Cond.fieldLink RX12 113 "LateClaimsModel" "claimOwner" "[I") rfl
theorem fl_X12_116 : Cond.fieldLink RX12 116 "LateClaimsModel" "claimDay" "[I" ∈ BW := zg ht4 zc4_2 (i := 16) (n := 212) (w := Cond.fieldLink RX12 116 "LateClaimsModel" "claimDay" "[I") rfl
theorem fl_X12_119 : Cond.fieldLink RX12 119 "LateClaimsModel" "owed" "[I" ∈ BW := zg ht4 zc4_2 (i := 17) (n := 213) (w := Cond.fieldLink RX12 119 "LateClaimsModel" "owed" "[I") rfl
theorem fl_X12_122 : Cond.fieldLink RX12 122 "LateClaimsModel" "paid" "[I" ∈ BW := zg ht4 zc4_2 (i := 18) (n := 214) (w := Cond.fieldLink RX12 122 "LateClaimsModel" "paid" "[I") rfl
theorem fl_X12_125 : Cond.fieldLink RX12 125 "LateClaimsModel" "sumOfSet" "[I" ∈ BW := zg ht4 zc4_2 (i := 19) (n := 215) (w := Cond.fieldLink RX12 125 "LateClaimsModel" "sumOfSet" "[I") rfl
theorem fl_X12_128 : Cond.fieldLink RX12 128 "LateClaimsModel" "partsOf" "[I" ∈ BW := zg ht4 zc4_2 (i := 20) (n := 216) (w := Cond.fieldLink RX12 128 "LateClaimsModel" "partsOf" "[I") rfl
theorem fl_X12_300 : Cond.fieldLink RX12 300 "LateClaimsModel" "cases" "I" ∈ BW := zg ht4 zc4_2 (i := 21) (n := 217) (w := Cond.fieldLink RX12 300 "LateClaimsModel" "cases" "I") rfl
theorem fl_X12_131 : Cond.fieldLink RX12 131 "LateClaimsModel" "caseLand" "[I" ∈ BW := zg ht4 zc4_2 (i := 22) (n := 218) (w := Cond.fieldLink RX12 131 "LateClaimsModel" "caseLand" "[I") rfl
theorem fl_X12_134 : Cond.fieldLink RX12 134 "LateClaimsModel" "caseCause" "[I" ∈ BW := zg ht4 zc4_2 (i := 23) (n := 219) (w := Cond.fieldLink RX12 134 "LateClaimsModel" "caseCause" "[I") rfl
theorem fl_X12_137 : Cond.fieldLink RX12 137 "LateClaimsModel" "caseMinutes" "[I" ∈ BW := zg ht4 zc4_2 (i := 24) (n := 220) (w := Cond.fieldLink RX12 137 "LateClaimsModel" "caseMinutes" "[I") rfl
theorem fl_X12_140 : Cond.fieldLink RX12 140 "LateClaimsModel" "caseMiles" "[I" ∈ BW := zg ht4 zc4_2 (i := 25) (n := 221) (w := Cond.fieldLink RX12 140 "LateClaimsModel" "caseMiles" "[I") rfl
theorem fl_X12_143 : Cond.fieldLink RX12 143 "LateClaimsModel" "isWon" "[Z" ∈ BW := zg ht4 zc4_2 (i := 26) (n := 222) (w := Cond.fieldLink RX12 143 "LateClaimsModel" "isWon" "[Z") rfl
theorem fl_X12_146 : Cond.fieldLink RX12 146 "LateClaimsModel" "caseCost" "[I" ∈ BW := zg ht4 zc4_2 (i := 27) (n := 223) (w := Cond.fieldLink RX12 146 "LateClaimsModel" "caseCost" "[I") rfl
theorem fl_X12_306 : Cond.fieldLink RX12 306 "LateClaimsModel" "likeMany" "I" ∈ BW := zg ht4 zc4_2 (i := 28) (n := 224) (w := Cond.fieldLink RX12 306 "LateClaimsModel" "likeMany" "I") rfl
theorem fl_X12_309 : Cond.fieldLink RX12 309 "LateClaimsModel" "likeWon" "I" ∈ BW := zg ht4 zc4_2 (i := 29) (n := 225) (w := Cond.fieldLink RX12 309 "LateClaimsModel" "likeWon" "I") rfl
theorem fl_X12_312 : Cond.fieldLink RX12 312 "LateClaimsModel" "likeCost" "I" ∈ BW := zg ht4 zc4_2 (i := 30) (n := 226) (w := Cond.fieldLink RX12 312 "LateClaimsModel" "likeCost" "I") rfl
theorem fl_X12_149 : Cond.fieldLink RX12 149 "LateClaimsModel" "like" "[I" ∈ BW := zg ht4 zc4_2 (i := 31) (n := 227) (w := Cond.fieldLink RX12 149 "LateClaimsModel" "like" "[I") rfl
theorem fl_X12_152 : Cond.fieldLink RX12 152 "LateClaimsModel" "likeFar" "[I" ∈ BW := zg ht4 zc4_2 (i := 32) (n := 228) (w := Cond.fieldLink RX12 152 "LateClaimsModel" "likeFar" "[I") rfl
theorem ml_L_17 : Cond.methodLink RL 17 yX12_days ∈ BW := zg ht5 zc5_0 (i := 0) (n := 110) (w := Cond.methodLink RL 17 yX12_days) rfl
theorem ml_X12_164 : Cond.methodLink RX12 164 yX12_refuse ∈ BW := zg ht5 zc5_0 (i := 1) (n := 114) (w := Cond.methodLink RX12 164 yX12_refuse) rfl
theorem ml_L_22 : Cond.methodLink RL 22 yX12_land ∈ BW := zg ht5 zc5_0 (i := 2) (n := 118) (w := Cond.methodLink RL 22 yX12_land) rfl
theorem ml_X12_171 : Cond.methodLink RX12 171 yX12_isPort ∈ BW := zg ht5 zc5_0 (i := 3) (n := 122) (w := Cond.methodLink RX12 171 yX12_isPort) rfl
theorem ml_X12_156 : Cond.methodLink RX12 156 yX12_in ∈ BW := zg ht5 zc5_0 (i := 4) (n := 125) (w := Cond.methodLink RX12 156 yX12_in) rfl
theorem ml_L_27 : Cond.methodLink RL 27 yX12_miles ∈ BW := zg ht5 zc5_0 (i := 5) (n := 128) (w := Cond.methodLink RL 27 yX12_miles) rfl
theorem ml_L_31 : Cond.methodLink RL 31 yX12_seen ∈ BW := zg ht5 zc5_0 (i := 6) (n := 132) (w := Cond.methodLink RL 31 yX12_seen) rfl
theorem ml_L_35 : Cond.methodLink RL 35 yX12_off ∈ BW := zg ht5 zc5_0 (i := 7) (n := 136) (w := Cond.methodLink RL 35 yX12_off) rfl
theorem ml_X12_178 : Cond.methodLink RX12 178 yX12_refuseFar ∈ BW := zg ht5 zc5_0 (i := 8) (n := 140) (w := Cond.methodLink RX12 178 yX12_refuseFar) rfl
theorem ct_X12_155 : Cond.constant RX12 155 1000000000 ∈ BW := zg ht5 zc5_0 (i := 9) (n := 144) (w := Cond.constant RX12 155 1000000000) rfl
theorem ml_L_40 : Cond.methodLink RL 40 yX12_leg ∈ BW := zg ht5 zc5_0 (i := 10) (n := 145) (w := Cond.methodLink RL 40 yX12_leg) rfl
theorem ml_L_44 : Cond.methodLink RL 44 yX12_log ∈ BW := zg ht5 zc5_0 (i := 11) (n := 149) (w := Cond.methodLink RL 44 yX12_log) rfl
theorem ml_X12_181 : Cond.methodLink RX12 181 yX12_isLeg ∈ BW := zg ht5 zc5_0 (i := 12) (n := 153) (w := Cond.methodLink RX12 181 yX12_isLeg) rfl
theorem ml_L_48 : Cond.methodLink RL 48 yX12_cause ∈ BW := zg ht5 zc5_0 (i := 13) (n := 157) (w := Cond.methodLink RL 48 yX12_cause) rfl
theorem ml_X12_184 : Cond.methodLink RX12 184 yX12_isCause ∈ BW := zg ht5 zc5_0 (i := 14) (n := 161) (w := Cond.methodLink RX12 184 yX12_isCause) rfl
theorem ml_L_52 : Cond.methodLink RL 52 yX12_set ∈ BW := zg ht5 zc5_0 (i := 15) (n := 164) (w := Cond.methodLink RL 52 yX12_set) rfl
theorem ml_L_56 : Cond.methodLink RL 56 yX12_legOf ∈ BW := zg ht5 zc5_0 (i := 16) (n := 168) (w := Cond.methodLink RL 56 yX12_legOf) rfl
theorem ml_X12_210 : Cond.methodLink RX12 210 yX12_lateOf ∈ BW := zg ht5 zc5_0 (i := 17) (n := 172) (w := Cond.methodLink RX12 210 yX12_lateOf) rfl
theorem ml_X12_190 : Cond.methodLink RX12 190 yX12_rightArrive ∈ BW := zg ht5 zc5_0 (i := 18) (n := 176) (w := Cond.methodLink RX12 190 yX12_rightArrive) rfl
theorem ml_X12_187 : Cond.methodLink RX12 187 yX12_over ∈ BW := zg ht5 zc5_0 (i := 19) (n := 180) (w := Cond.methodLink RX12 187 yX12_over) rfl
theorem ml_X12_200 : Cond.methodLink RX12 200 yX12_outlateOf ∈ BW := zg ht5 zc5_0 (i := 20) (n := 183) (w := Cond.methodLink RX12 200 yX12_outlateOf) rfl
theorem ml_X12_193 : Cond.methodLink RX12 193 yX12_rightLeave ∈ BW := zg ht5 zc5_0 (i := 21) (n := 187) (w := Cond.methodLink RX12 193 yX12_rightLeave) rfl
theorem ml_X12_207 : Cond.methodLink RX12 207 yX12_waitOf ∈ BW := zg ht5 zc5_0 (i := 22) (n := 191) (w := Cond.methodLink RX12 207 yX12_waitOf) rfl
theorem ml_X12_196 : Cond.methodLink RX12 196 yX12_aheadOf ∈ BW := zg ht5 zc5_0 (i := 23) (n := 195) (w := Cond.methodLink RX12 196 yX12_aheadOf) rfl
theorem ml_X12_203 : Cond.methodLink RX12 203 yX12_lesser ∈ BW := zg ht5 zc5_0 (i := 24) (n := 199) (w := Cond.methodLink RX12 203 yX12_lesser) rfl
theorem ml_X12_216 : Cond.methodLink RX12 216 yX12_handedOf ∈ BW := zg ht5 zc5_0 (i := 25) (n := 202) (w := Cond.methodLink RX12 216 yX12_handedOf) rfl
theorem ml_X12_213 : Cond.methodLink RX12 213 yX12_isByCrew ∈ BW := zg ht5 zc5_0 (i := 26) (n := 206) (w := Cond.methodLink RX12 213 yX12_isByCrew) rfl
theorem ml_L_61 : Cond.methodLink RL 61 yX12_ahead ∈ BW := zg ht5 zc5_0 (i := 27) (n := 210) (w := Cond.methodLink RL 61 yX12_ahead) rfl
theorem ml_L_65 : Cond.methodLink RL 65 yX12_minutes ∈ BW := zg ht5 zc5_0 (i := 28) (n := 214) (w := Cond.methodLink RL 65 yX12_minutes) rfl
theorem ml_X12_219 : Cond.methodLink RX12 219 yX12_findMinutes ∈ BW := zg ht5 zc5_0 (i := 29) (n := 218) (w := Cond.methodLink RX12 219 yX12_findMinutes) rfl
theorem ml_L_69 : Cond.methodLink RL 69 yX12_saved ∈ BW := zg ht5 zc5_0 (i := 30) (n := 222) (w := Cond.methodLink RL 69 yX12_saved) rfl
theorem ml_L_73 : Cond.methodLink RL 73 yX12_traveller ∈ BW := zg ht5 zc5_0 (i := 31) (n := 226) (w := Cond.methodLink RL 73 yX12_traveller) rfl
theorem ml_L_77 : Cond.methodLink RL 77 yX12_then ∈ BW := zg ht5 zc5_0 (i := 32) (n := 230) (w := Cond.methodLink RL 77 yX12_then) rfl
theorem ml_X12_226 : Cond.methodLink RX12 226 yX12_isTraveller ∈ BW := zg ht5 zc5_0 (i := 33) (n := 234) (w := Cond.methodLink RX12 226 yX12_isTraveller) rfl
theorem ml_L_81 : Cond.methodLink RL 81 yX12_missed ∈ BW := zg ht5 zc5_0 (i := 34) (n := 238) (w := Cond.methodLink RL 81 yX12_missed) rfl
theorem ml_X12_229 : Cond.methodLink RX12 229 yX12_missedOf ∈ BW := zg ht6 zc6_0 (i := 0) (n := 2) (w := Cond.methodLink RX12 229 yX12_missedOf) rfl
theorem ml_L_85 : Cond.methodLink RL 85 yX12_soonest ∈ BW := zg ht6 zc6_0 (i := 1) (n := 6) (w := Cond.methodLink RL 85 yX12_soonest) rfl
theorem ml_X12_235 : Cond.methodLink RX12 235 yX12_soonestOf ∈ BW := zg ht6 zc6_0 (i := 2) (n := 10) (w := Cond.methodLink RX12 235 yX12_soonestOf) rfl
theorem ml_X12_232 : Cond.methodLink RX12 232 yX12_lastLeg ∈ BW := zg ht6 zc6_0 (i := 3) (n := 14) (w := Cond.methodLink RX12 232 yX12_lastLeg) rfl
theorem ml_L_89 : Cond.methodLink RL 89 yX12_hours ∈ BW := zg ht6 zc6_0 (i := 4) (n := 18) (w := Cond.methodLink RL 89 yX12_hours) rfl
theorem ml_X12_238 : Cond.methodLink RX12 238 yX12_hoursOf ∈ BW := zg ht6 zc6_0 (i := 5) (n := 22) (w := Cond.methodLink RX12 238 yX12_hoursOf) rfl
theorem ml_L_93 : Cond.methodLink RL 93 yX12_blame ∈ BW := zg ht6 zc6_0 (i := 6) (n := 26) (w := Cond.methodLink RL 93 yX12_blame) rfl
theorem ml_X12_241 : Cond.methodLink RX12 241 yX12_blameOf ∈ BW := zg ht6 zc6_0 (i := 7) (n := 30) (w := Cond.methodLink RX12 241 yX12_blameOf) rfl
theorem ml_L_98 : Cond.methodLink RL 98 yX12_law ∈ BW := zg ht6 zc6_0 (i := 8) (n := 34) (w := Cond.methodLink RL 98 yX12_law) rfl
theorem ml_X12_244 : Cond.methodLink RX12 244 yX12_isLand ∈ BW := zg ht6 zc6_0 (i := 9) (n := 38) (w := Cond.methodLink RX12 244 yX12_isLand) rfl
theorem ml_L_103 : Cond.methodLink RL 103 yX12_excuse ∈ BW := zg ht6 zc6_0 (i := 10) (n := 41) (w := Cond.methodLink RL 103 yX12_excuse) rfl
theorem ml_L_107 : Cond.methodLink RL 107 yX12_sum ∈ BW := zg ht6 zc6_0 (i := 11) (n := 45) (w := Cond.methodLink RL 107 yX12_sum) rfl
theorem ml_X12_269 : Cond.methodLink RX12 269 yX12_sumOf ∈ BW := zg ht6 zc6_0 (i := 12) (n := 49) (w := Cond.methodLink RX12 269 yX12_sumOf) rfl
theorem ml_X12_260 : Cond.methodLink RX12 260 yX12_lawOf ∈ BW := zg ht6 zc6_0 (i := 13) (n := 53) (w := Cond.methodLink RX12 260 yX12_lawOf) rfl
theorem ml_X12_253 : Cond.methodLink RX12 253 yX12_firstLeg ∈ BW := zg ht6 zc6_0 (i := 14) (n := 57) (w := Cond.methodLink RX12 253 yX12_firstLeg) rfl
theorem ml_X12_256 : Cond.methodLink RX12 256 yX12_hasLaw ∈ BW := zg ht6 zc6_0 (i := 15) (n := 61) (w := Cond.methodLink RX12 256 yX12_hasLaw) rfl
theorem ml_X12_263 : Cond.methodLink RX12 263 yX12_isExcused ∈ BW := zg ht6 zc6_0 (i := 16) (n := 65) (w := Cond.methodLink RX12 263 yX12_isExcused) rfl
theorem ml_X12_266 : Cond.methodLink RX12 266 yX12_milesOf ∈ BW := zg ht6 zc6_0 (i := 17) (n := 69) (w := Cond.methodLink RX12 266 yX12_milesOf) rfl
theorem ml_L_111 : Cond.methodLink RL 111 yX12_bar ∈ BW := zg ht6 zc6_0 (i := 18) (n := 73) (w := Cond.methodLink RL 111 yX12_bar) rfl
theorem ml_L_115 : Cond.methodLink RL 115 yX12_stop ∈ BW := zg ht6 zc6_0 (i := 19) (n := 77) (w := Cond.methodLink RL 115 yX12_stop) rfl
theorem ml_L_119 : Cond.methodLink RL 119 yX12_claim ∈ BW := zg ht6 zc6_0 (i := 20) (n := 81) (w := Cond.methodLink RL 119 yX12_claim) rfl
theorem ml_L_123 : Cond.methodLink RL 123 yX12_claimOf ∈ BW := zg ht6 zc6_0 (i := 21) (n := 85) (w := Cond.methodLink RL 123 yX12_claimOf) rfl
theorem ml_X12_281 : Cond.methodLink RX12 281 yX12_isClaim ∈ BW := zg ht6 zc6_0 (i := 22) (n := 89) (w := Cond.methodLink RX12 281 yX12_isClaim) rfl
theorem ml_X12_278 : Cond.methodLink RX12 278 yX12_isBarred ∈ BW := zg ht6 zc6_0 (i := 23) (n := 93) (w := Cond.methodLink RX12 278 yX12_isBarred) rfl
theorem ml_X12_284 : Cond.methodLink RX12 284 yX12_worthOf ∈ BW := zg ht6 zc6_0 (i := 24) (n := 97) (w := Cond.methodLink RX12 284 yX12_worthOf) rfl
theorem ml_X12_287 : Cond.methodLink RX12 287 yX12_settledOf ∈ BW := zg ht6 zc6_0 (i := 25) (n := 101) (w := Cond.methodLink RX12 287 yX12_settledOf) rfl
theorem ml_L_127 : Cond.methodLink RL 127 yX12_owes ∈ BW := zg ht6 zc6_0 (i := 26) (n := 105) (w := Cond.methodLink RL 127 yX12_owes) rfl
theorem ml_X12_290 : Cond.methodLink RX12 290 yX12_isPayer ∈ BW := zg ht6 zc6_0 (i := 27) (n := 109) (w := Cond.methodLink RX12 290 yX12_isPayer) rfl
theorem ml_L_131 : Cond.methodLink RL 131 yX12_pay ∈ BW := zg ht6 zc6_0 (i := 28) (n := 112) (w := Cond.methodLink RL 131 yX12_pay) rfl
theorem ct_X12_293 : Cond.constant RX12 293 99999 ∈ BW := zg ht6 zc6_0 (i := 29) (n := 116) (w := Cond.constant RX12 293 99999) rfl
theorem ml_L_135 : Cond.methodLink RL 135 yX12_due ∈ BW := zg ht6 zc6_0 (i := 30) (n := 117) (w := Cond.methodLink RL 135 yX12_due) rfl
theorem ml_X12_294 : Cond.methodLink RX12 294 yX12_dueOf ∈ BW := zg ht6 zc6_0 (i := 31) (n := 121) (w := Cond.methodLink RX12 294 yX12_dueOf) rfl
theorem ml_L_139 : Cond.methodLink RL 139 yX12_balance ∈ BW := zg ht6 zc6_0 (i := 32) (n := 125) (w := Cond.methodLink RL 139 yX12_balance) rfl
theorem ml_X12_297 : Cond.methodLink RX12 297 yX12_balanceOf ∈ BW := zg ht6 zc6_0 (i := 33) (n := 129) (w := Cond.methodLink RX12 297 yX12_balanceOf) rfl
theorem ml_L_144 : Cond.methodLink RL 144 yX12_back ∈ BW := zg ht6 zc6_0 (i := 34) (n := 133) (w := Cond.methodLink RL 144 yX12_back) rfl
theorem ml_L_149 : Cond.methodLink RL 149 yX12_judged ∈ BW := zg ht6 zc6_0 (i := 35) (n := 137) (w := Cond.methodLink RL 149 yX12_judged) rfl
theorem ml_L_153 : Cond.methodLink RL 153 yX12_odds ∈ BW := zg ht6 zc6_0 (i := 36) (n := 141) (w := Cond.methodLink RL 153 yX12_odds) rfl
theorem ml_X12_315 : Cond.methodLink RX12 315 yX12_findLike ∈ BW := zg ht6 zc6_0 (i := 37) (n := 145) (w := Cond.methodLink RX12 315 yX12_findLike) rfl
theorem ml_X12_303 : Cond.methodLink RX12 303 yX12_amount ∈ BW := zg ht6 zc6_0 (i := 38) (n := 149) (w := Cond.methodLink RX12 303 yX12_amount) rfl
theorem ml_L_157 : Cond.methodLink RL 157 yX12_good ∈ BW := zg ht6 zc6_0 (i := 39) (n := 152) (w := Cond.methodLink RL 157 yX12_good) rfl
theorem ml_L_161 : Cond.methodLink RL 161 yX12_count ∈ BW := zg ht6 zc6_1 (i := 0) (n := 156) (w := Cond.methodLink RL 161 yX12_count) rfl
set_option maxRecDepth 20000 in
theorem cw_X11_init : Cond.code yX11_init cX11_init 1 none ∈ BW := bw1 20 rfl rfl
theorem im_X11_init : Cond.instanceMethod yX11_init ∈ BW := zg ht1 zc1_2 (i := 33) (n := 19) (w := Cond.instanceMethod yX11_init) rfl
set_option maxRecDepth 20000 in
theorem cw_X7_init : Cond.code yX7_init cX7_init 2 none ∈ BW := bw1 28 rfl rfl
theorem im_X7_init : Cond.instanceMethod yX7_init ∈ BW := zg ht1 zc1_2 (i := 34) (n := 27) (w := Cond.instanceMethod yX7_init) rfl
set_option maxRecDepth 20000 in
theorem cw_X6_init : Cond.code yX6_init cX6_init 2 none ∈ BW := bw1 35 rfl rfl
theorem im_X6_init : Cond.instanceMethod yX6_init ∈ BW := zg ht1 zc1_2 (i := 35) (n := 34) (w := Cond.instanceMethod yX6_init) rfl
set_option maxRecDepth 20000 in
theorem cw_X10_init : Cond.code yX10_init cX10_init 1 none ∈ BW := bw1 73 rfl rfl
theorem im_X10_init : Cond.instanceMethod yX10_init ∈ BW := zg ht1 zc1_2 (i := 36) (n := 72) (w := Cond.instanceMethod yX10_init) rfl
set_option maxRecDepth 20000 in
theorem cw_X9_init : Cond.code yX9_init cX9_init 1 none ∈ BW := bw1 100 rfl rfl
theorem im_X9_init : Cond.instanceMethod yX9_init ∈ BW := zg ht1 zc1_2 (i := 37) (n := 99) (w := Cond.instanceMethod yX9_init) rfl
set_option maxRecDepth 20000 in
theorem cw_X4_init : Cond.code yX4_init cX4_init 1 none ∈ BW := bw1 116 rfl rfl
theorem im_X4_init : Cond.instanceMethod yX4_init ∈ BW := zg ht1 zc1_2 (i := 38) (n := 115) (w := Cond.instanceMethod yX4_init) rfl
set_option maxRecDepth 20000 in
theorem cw_X0_init : Cond.code yX0_init cX0_init 1 none ∈ BW := bw1 160 rfl rfl
theorem im_X0_init : Cond.instanceMethod yX0_init ∈ BW := zg ht1 zc1_2 (i := 39) (n := 159) (w := Cond.instanceMethod yX0_init) rfl
set_option maxRecDepth 20000 in
theorem cw_J7_fill_53178 : Cond.code yJ7_fill_53178 cJ7_fill_53178 4 none ∈ BW := bw1 164 rfl rfl
theorem sm_J7_fill_53178 : SM yJ7_fill_53178 cJ7_fill_53178 4 none 2 := ⟨cw_J7_fill_53178, zg ht1 zc1_3 (i := 0) (n := 163) (w := Cond.static yJ7_fill_53178) rfl, iz_J7, by decide +kernel⟩
set_option maxRecDepth 20000 in
theorem cw_X3_init : Cond.code yX3_init cX3_init 1 none ∈ BW := bw1 186 rfl rfl
theorem im_X3_init : Cond.instanceMethod yX3_init ∈ BW := zg ht1 zc1_3 (i := 1) (n := 185) (w := Cond.instanceMethod yX3_init) rfl
set_option maxRecDepth 20000 in
theorem cw_X1_init : Cond.code yX1_init cX1_init 1 none ∈ BW := bw1 210 rfl rfl
theorem im_X1_init : Cond.instanceMethod yX1_init ∈ BW := zg ht1 zc1_3 (i := 2) (n := 209) (w := Cond.instanceMethod yX1_init) rfl
set_option maxRecDepth 20000 in
theorem cw_X11_days : Cond.code yX11_days cX11_days 2 (some .int) ∈ BW := bw2 52 rfl rfl
theorem im_X11_days : Cond.instanceMethod yX11_days ∈ BW := zg ht2 zc2_2 (i := 9) (n := 50) (w := Cond.instanceMethod yX11_days) rfl
theorem vm_X11_days : VM yX11_days cX11_days 2 (some .int) 1 := ⟨cw_X11_days, im_X11_days, zg ht2 zc2_2 (i := 10) (n := 51) (w := Cond.selects RX11 yX11_days yX11_days) rfl, iz_X11, by decide +kernel⟩
set_option maxRecDepth 20000 in
theorem cw_X11_refuse : Cond.code yX11_refuse cX11_refuse 3 (some .int) ∈ BW := bw2 56 rfl rfl
theorem im_X11_refuse : Cond.instanceMethod yX11_refuse ∈ BW := zg ht2 zc2_2 (i := 11) (n := 55) (w := Cond.instanceMethod yX11_refuse) rfl
theorem vm_X11_refuse : VM yX11_refuse cX11_refuse 3 (some .int) 1 := ⟨cw_X11_refuse, im_X11_refuse, zg ht0 zc0_0 (i := 0) (n := 0) (w := Cond.selects RX11 yX11_refuse yX11_refuse) rfl, iz_X11, by decide +kernel⟩
set_option maxRecDepth 20000 in
theorem cw_X11_isOneOf : Cond.code yX11_isOneOf cX11_isOneOf 2 (some .boolean) ∈ BW := bw2 59 rfl rfl
theorem sm_X11_isOneOf : SM yX11_isOneOf cX11_isOneOf 2 (some .boolean) 2 := ⟨cw_X11_isOneOf, zg ht2 zc2_2 (i := 12) (n := 58) (w := Cond.static yX11_isOneOf) rfl, iz_X11, by decide +kernel⟩
set_option maxRecDepth 20000 in
theorem cw_X11_land : Cond.code yX11_land cX11_land 5 (some .int) ∈ BW := bw2 63 rfl rfl
theorem im_X11_land : Cond.instanceMethod yX11_land ∈ BW := zg ht2 zc2_2 (i := 13) (n := 61) (w := Cond.instanceMethod yX11_land) rfl
theorem vm_X11_land : VM yX11_land cX11_land 5 (some .int) 2 := ⟨cw_X11_land, im_X11_land, zg ht2 zc2_2 (i := 14) (n := 62) (w := Cond.selects RX11 yX11_land yX11_land) rfl, iz_X11, by decide +kernel⟩
set_option maxRecDepth 20000 in
theorem cw_X7_find : Cond.code yX7_find cX7_find 2 (some (.object "LateClaims$Port")) ∈ BW := bw2 67 rfl rfl
theorem im_X7_find : Cond.instanceMethod yX7_find ∈ BW := zg ht2 zc2_2 (i := 15) (n := 65) (w := Cond.instanceMethod yX7_find) rfl
theorem vm_X7_find : VM yX7_find cX7_find 2 (some (.object "LateClaims$Port")) 1 := ⟨cw_X7_find, im_X7_find, zg ht2 zc2_2 (i := 16) (n := 66) (w := Cond.selects RX7 yX7_find yX7_find) rfl, iz_X7, by decide +kernel⟩
set_option maxRecDepth 20000 in
theorem cw_X11_miles : Cond.code yX11_miles cX11_miles 7 (some .int) ∈ BW := bw2 72 rfl rfl
theorem im_X11_miles : Cond.instanceMethod yX11_miles ∈ BW := zg ht2 zc2_2 (i := 17) (n := 70) (w := Cond.instanceMethod yX11_miles) rfl
theorem vm_X11_miles : VM yX11_miles cX11_miles 7 (some .int) 3 := ⟨cw_X11_miles, im_X11_miles, zg ht2 zc2_2 (i := 18) (n := 71) (w := Cond.selects RX11 yX11_miles yX11_miles) rfl, iz_X11, by decide +kernel⟩
set_option maxRecDepth 20000 in
theorem cw_X7_milesBetween : Cond.code yX7_milesBetween cX7_milesBetween 3 (some .int) ∈ BW := bw2 76 rfl rfl
theorem im_X7_milesBetween : Cond.instanceMethod yX7_milesBetween ∈ BW := zg ht2 zc2_2 (i := 19) (n := 74) (w := Cond.instanceMethod yX7_milesBetween) rfl
theorem vm_X7_milesBetween : VM yX7_milesBetween cX7_milesBetween 3 (some .int) 2 := ⟨cw_X7_milesBetween, im_X7_milesBetween, zg ht2 zc2_2 (i := 20) (n := 75) (w := Cond.selects RX7 yX7_milesBetween yX7_milesBetween) rfl, iz_X7, by decide +kernel⟩
set_option maxRecDepth 20000 in
theorem cw_X7_setMiles : Cond.code yX7_setMiles cX7_setMiles 4 none ∈ BW := bw2 80 rfl rfl
theorem im_X7_setMiles : Cond.instanceMethod yX7_setMiles ∈ BW := zg ht2 zc2_2 (i := 21) (n := 78) (w := Cond.instanceMethod yX7_setMiles) rfl
theorem vm_X7_setMiles : VM yX7_setMiles cX7_setMiles 4 none 3 := ⟨cw_X7_setMiles, im_X7_setMiles, zg ht2 zc2_2 (i := 22) (n := 79) (w := Cond.selects RX7 yX7_setMiles yX7_setMiles) rfl, iz_X7, by decide +kernel⟩
set_option maxRecDepth 20000 in
theorem cw_X11_seen : Cond.code yX11_seen cX11_seen 6 (some .int) ∈ BW := bw2 84 rfl rfl
theorem im_X11_seen : Cond.instanceMethod yX11_seen ∈ BW := zg ht2 zc2_2 (i := 23) (n := 82) (w := Cond.instanceMethod yX11_seen) rfl
theorem vm_X11_seen : VM yX11_seen cX11_seen 6 (some .int) 3 := ⟨cw_X11_seen, im_X11_seen, zg ht2 zc2_2 (i := 24) (n := 83) (w := Cond.selects RX11 yX11_seen yX11_seen) rfl, iz_X11, by decide +kernel⟩
set_option maxRecDepth 20000 in
theorem cw_X7_take : Cond.code yX7_take cX7_take 5 (some .boolean) ∈ BW := bw2 88 rfl rfl
theorem im_X7_take : Cond.instanceMethod yX7_take ∈ BW := zg ht2 zc2_2 (i := 25) (n := 86) (w := Cond.instanceMethod yX7_take) rfl
theorem vm_X7_take : VM yX7_take cX7_take 5 (some .boolean) 3 := ⟨cw_X7_take, im_X7_take, zg ht2 zc2_2 (i := 26) (n := 87) (w := Cond.selects RX7 yX7_take yX7_take) rfl, iz_X7, by decide +kernel⟩
set_option maxRecDepth 20000 in
theorem cw_X7_move : Cond.code yX7_move cX7_move 6 none ∈ BW := bw2 92 rfl rfl
theorem im_X7_move : Cond.instanceMethod yX7_move ∈ BW := zg ht2 zc2_2 (i := 27) (n := 91) (w := Cond.instanceMethod yX7_move) rfl
theorem vm_X7_move : VM yX7_move cX7_move 6 none 3 := ⟨cw_X7_move, im_X7_move, zg ht0 zc0_0 (i := 1) (n := 1) (w := Cond.selects RX7 yX7_move yX7_move) rfl, iz_X7, by decide +kernel⟩
set_option maxRecDepth 20000 in
theorem cw_X10_putRight : Cond.code yX10_putRight cX10_putRight 2 none ∈ BW := bw2 96 rfl rfl
theorem im_X10_putRight : Cond.instanceMethod yX10_putRight ∈ BW := zg ht2 zc2_2 (i := 28) (n := 94) (w := Cond.instanceMethod yX10_putRight) rfl
theorem vm_X10_putRight : VM yX10_putRight cX10_putRight 2 none 0 := ⟨cw_X10_putRight, im_X10_putRight, zg ht2 zc2_2 (i := 29) (n := 95) (w := Cond.selects RX10 yX10_putRight yX10_putRight) rfl, iz_X10, by decide +kernel⟩
set_option maxRecDepth 20000 in
theorem cw_X5_putRight : Cond.code yX5_putRight cX5_putRight 1 none ∈ BW := bw2 100 rfl rfl
theorem im_X5_putRight : Cond.instanceMethod yX5_putRight ∈ BW := zg ht2 zc2_2 (i := 30) (n := 98) (w := Cond.instanceMethod yX5_putRight) rfl
theorem vm_X5_putRight : VM yX5_putRight cX5_putRight 1 none 0 := ⟨cw_X5_putRight, im_X5_putRight, zg ht2 zc2_2 (i := 31) (n := 99) (w := Cond.selects RX5 yX5_putRight yX5_putRight) rfl, iz_X5, by decide +kernel⟩
set_option maxRecDepth 20000 in
theorem cw_J9_max_7cf53 : Cond.code yJ9_max_7cf53 cJ9_max_7cf53 2 (some .int) ∈ BW := bw2 103 rfl rfl
theorem sm_J9_max_7cf53 : SM yJ9_max_7cf53 cJ9_max_7cf53 2 (some .int) 2 := ⟨cw_J9_max_7cf53, zg ht2 zc2_2 (i := 32) (n := 102) (w := Cond.static yJ9_max_7cf53) rfl, iz_J9, by decide +kernel⟩
set_option maxRecDepth 20000 in
theorem cw_X11_off : Cond.code yX11_off cX11_off 3 (some .int) ∈ BW := bw2 107 rfl rfl
theorem im_X11_off : Cond.instanceMethod yX11_off ∈ BW := zg ht2 zc2_2 (i := 33) (n := 105) (w := Cond.instanceMethod yX11_off) rfl
theorem vm_X11_off : VM yX11_off cX11_off 3 (some .int) 1 := ⟨cw_X11_off, im_X11_off, zg ht2 zc2_2 (i := 34) (n := 106) (w := Cond.selects RX11 yX11_off yX11_off) rfl, iz_X11, by decide +kernel⟩
set_option maxRecDepth 20000 in
theorem cw_X11_refuseBeyond : Cond.code yX11_refuseBeyond cX11_refuseBeyond 2 (some .int) ∈ BW := bw2 111 rfl rfl
theorem im_X11_refuseBeyond : Cond.instanceMethod yX11_refuseBeyond ∈ BW := zg ht2 zc2_2 (i := 35) (n := 110) (w := Cond.instanceMethod yX11_refuseBeyond) rfl
theorem vm_X11_refuseBeyond : VM yX11_refuseBeyond cX11_refuseBeyond 2 (some .int) 1 := ⟨cw_X11_refuseBeyond, im_X11_refuseBeyond, zg ht0 zc0_0 (i := 2) (n := 2) (w := Cond.selects RX11 yX11_refuseBeyond yX11_refuseBeyond) rfl, iz_X11, by decide +kernel⟩
set_option maxRecDepth 20000 in
theorem cw_X11_leg : Cond.code yX11_leg cX11_leg 9 (some .int) ∈ BW := bw2 116 rfl rfl
theorem im_X11_leg : Cond.instanceMethod yX11_leg ∈ BW := zg ht2 zc2_2 (i := 36) (n := 114) (w := Cond.instanceMethod yX11_leg) rfl
theorem vm_X11_leg : VM yX11_leg cX11_leg 9 (some .int) 6 := ⟨cw_X11_leg, im_X11_leg, zg ht2 zc2_2 (i := 37) (n := 115) (w := Cond.selects RX11 yX11_leg yX11_leg) rfl, iz_X11, by decide +kernel⟩
set_option maxRecDepth 20000 in
theorem cw_X10_isFull : Cond.code yX10_isFull cX10_isFull 1 (some .boolean) ∈ BW := bw2 120 rfl rfl
theorem im_X10_isFull : Cond.instanceMethod yX10_isFull ∈ BW := zg ht2 zc2_2 (i := 38) (n := 118) (w := Cond.instanceMethod yX10_isFull) rfl
theorem vm_X10_isFull : VM yX10_isFull cX10_isFull 1 (some .boolean) 0 := ⟨cw_X10_isFull, im_X10_isFull, zg ht2 zc2_2 (i := 39) (n := 119) (w := Cond.selects RX10 yX10_isFull yX10_isFull) rfl, iz_X10, by decide +kernel⟩
set_option maxRecDepth 20000 in
theorem cw_X10_add : Cond.code yX10_add cX10_add 7 (some .int) ∈ BW := bw2 124 rfl rfl
theorem im_X10_add : Cond.instanceMethod yX10_add ∈ BW := zg ht2 zc2_3 (i := 0) (n := 122) (w := Cond.instanceMethod yX10_add) rfl
theorem vm_X10_add : VM yX10_add cX10_add 7 (some .int) 6 := ⟨cw_X10_add, im_X10_add, zg ht2 zc2_3 (i := 1) (n := 123) (w := Cond.selects RX10 yX10_add yX10_add) rfl, iz_X10, by decide +kernel⟩
set_option maxRecDepth 20000 in
theorem cw_X5_init : Cond.code yX5_init cX5_init 8 none ∈ BW := bw2 128 rfl rfl
theorem im_X5_init : Cond.instanceMethod yX5_init ∈ BW := zg ht2 zc2_3 (i := 2) (n := 127) (w := Cond.instanceMethod yX5_init) rfl
set_option maxRecDepth 20000 in
theorem cw_X11_log : Cond.code yX11_log cX11_log 6 (some .int) ∈ BW := bw2 209 rfl rfl
theorem im_X11_log : Cond.instanceMethod yX11_log ∈ BW := zg ht2 zc2_3 (i := 3) (n := 207) (w := Cond.instanceMethod yX11_log) rfl
theorem vm_X11_log : VM yX11_log cX11_log 6 (some .int) 3 := ⟨cw_X11_log, im_X11_log, zg ht2 zc2_3 (i := 4) (n := 208) (w := Cond.selects RX11 yX11_log yX11_log) rfl, iz_X11, by decide +kernel⟩
set_option maxRecDepth 20000 in
theorem cw_X10_find : Cond.code yX10_find cX10_find 2 (some (.object "LateClaims$Leg")) ∈ BW := bw2 213 rfl rfl
theorem im_X10_find : Cond.instanceMethod yX10_find ∈ BW := zg ht2 zc2_3 (i := 5) (n := 211) (w := Cond.instanceMethod yX10_find) rfl
theorem vm_X10_find : VM yX10_find cX10_find 2 (some (.object "LateClaims$Leg")) 1 := ⟨cw_X10_find, im_X10_find, zg ht2 zc2_3 (i := 6) (n := 212) (w := Cond.selects RX10 yX10_find yX10_find) rfl, iz_X10, by decide +kernel⟩
set_option maxRecDepth 20000 in
theorem cw_X5_enter : Cond.code yX5_enter cX5_enter 3 none ∈ BW := bw2 218 rfl rfl
theorem im_X5_enter : Cond.instanceMethod yX5_enter ∈ BW := zg ht2 zc2_3 (i := 7) (n := 216) (w := Cond.instanceMethod yX5_enter) rfl
theorem vm_X5_enter : VM yX5_enter cX5_enter 3 none 2 := ⟨cw_X5_enter, im_X5_enter, zg ht2 zc2_3 (i := 8) (n := 217) (w := Cond.selects RX5 yX5_enter yX5_enter) rfl, iz_X5, by decide +kernel⟩
set_option maxRecDepth 20000 in
theorem cw_X11_cause : Cond.code yX11_cause cX11_cause 5 (some .int) ∈ BW := bw2 223 rfl rfl
theorem im_X11_cause : Cond.instanceMethod yX11_cause ∈ BW := zg ht2 zc2_3 (i := 9) (n := 221) (w := Cond.instanceMethod yX11_cause) rfl
theorem vm_X11_cause : VM yX11_cause cX11_cause 5 (some .int) 2 := ⟨cw_X11_cause, im_X11_cause, zg ht2 zc2_3 (i := 10) (n := 222) (w := Cond.selects RX11 yX11_cause yX11_cause) rfl, iz_X11, by decide +kernel⟩
set_option maxRecDepth 20000 in
theorem cw_X11_set : Cond.code yX11_set cX11_set 4 (some .int) ∈ BW := bw2 227 rfl rfl
theorem im_X11_set : Cond.instanceMethod yX11_set ∈ BW := zg ht2 zc2_3 (i := 11) (n := 225) (w := Cond.instanceMethod yX11_set) rfl
theorem vm_X11_set : VM yX11_set cX11_set 4 (some .int) 2 := ⟨cw_X11_set, im_X11_set, zg ht2 zc2_3 (i := 12) (n := 226) (w := Cond.selects RX11 yX11_set yX11_set) rfl, iz_X11, by decide +kernel⟩
set_option maxRecDepth 20000 in
theorem cw_X11_legOf : Cond.code yX11_legOf cX11_legOf 4 (some .int) ∈ BW := bw2 235 rfl rfl
theorem im_X11_legOf : Cond.instanceMethod yX11_legOf ∈ BW := zg ht2 zc2_3 (i := 13) (n := 233) (w := Cond.instanceMethod yX11_legOf) rfl
theorem vm_X11_legOf : VM yX11_legOf cX11_legOf 4 (some .int) 2 := ⟨cw_X11_legOf, im_X11_legOf, zg ht2 zc2_3 (i := 14) (n := 234) (w := Cond.selects RX11 yX11_legOf yX11_legOf) rfl, iz_X11, by decide +kernel⟩
set_option maxRecDepth 20000 in
theorem cw_X11_waitOf : Cond.code yX11_waitOf cX11_waitOf 4 (some .int) ∈ BW := bw2 239 rfl rfl
theorem im_X11_waitOf : Cond.instanceMethod yX11_waitOf ∈ BW := zg ht2 zc2_3 (i := 15) (n := 238) (w := Cond.instanceMethod yX11_waitOf) rfl
theorem vm_X11_waitOf : VM yX11_waitOf cX11_waitOf 4 (some .int) 2 := ⟨cw_X11_waitOf, im_X11_waitOf, zg ht0 zc0_0 (i := 3) (n := 3) (w := Cond.selects RX11 yX11_waitOf yX11_waitOf) rfl, iz_X11, by decide +kernel⟩
set_option maxRecDepth 20000 in
theorem cw_X11_gapFor : Cond.code yX11_gapFor cX11_gapFor 2 (some .int) ∈ BW := bw3 3 rfl rfl
theorem im_X11_gapFor : Cond.instanceMethod yX11_gapFor ∈ BW := zg ht3 zc3_1 (i := 37) (n := 2) (w := Cond.instanceMethod yX11_gapFor) rfl
theorem vm_X11_gapFor : VM yX11_gapFor cX11_gapFor 2 (some .int) 1 := ⟨cw_X11_gapFor, im_X11_gapFor, zg ht0 zc0_0 (i := 4) (n := 4) (w := Cond.selects RX11 yX11_gapFor yX11_gapFor) rfl, iz_X11, by decide +kernel⟩
set_option maxRecDepth 20000 in
theorem cw_X10_aheadOf : Cond.code yX10_aheadOf cX10_aheadOf 8 (some (.object "LateClaims$Leg")) ∈ BW := bw3 7 rfl rfl
theorem im_X10_aheadOf : Cond.instanceMethod yX10_aheadOf ∈ BW := zg ht3 zc3_1 (i := 38) (n := 5) (w := Cond.instanceMethod yX10_aheadOf) rfl
theorem vm_X10_aheadOf : VM yX10_aheadOf cX10_aheadOf 8 (some (.object "LateClaims$Leg")) 3 := ⟨cw_X10_aheadOf, im_X10_aheadOf, zg ht3 zc3_1 (i := 39) (n := 6) (w := Cond.selects RX10 yX10_aheadOf yX10_aheadOf) rfl, iz_X10, by decide +kernel⟩
set_option maxRecDepth 20000 in
theorem cw_X5_waitFor : Cond.code yX5_waitFor cX5_waitFor 4 (some .int) ∈ BW := bw3 11 rfl rfl
theorem im_X5_waitFor : Cond.instanceMethod yX5_waitFor ∈ BW := zg ht3 zc3_2 (i := 0) (n := 9) (w := Cond.instanceMethod yX5_waitFor) rfl
theorem vm_X5_waitFor : VM yX5_waitFor cX5_waitFor 4 (some .int) 2 := ⟨cw_X5_waitFor, im_X5_waitFor, zg ht3 zc3_2 (i := 1) (n := 10) (w := Cond.selects RX5 yX5_waitFor yX5_waitFor) rfl, iz_X5, by decide +kernel⟩
set_option maxRecDepth 20000 in
theorem cw_J9_min_7cf53 : Cond.code yJ9_min_7cf53 cJ9_min_7cf53 2 (some .int) ∈ BW := bw3 14 rfl rfl
theorem sm_J9_min_7cf53 : SM yJ9_min_7cf53 cJ9_min_7cf53 2 (some .int) 2 := ⟨cw_J9_min_7cf53, zg ht3 zc3_2 (i := 2) (n := 13) (w := Cond.static yJ9_min_7cf53) rfl, iz_J9, by decide +kernel⟩
set_option maxRecDepth 20000 in
theorem cw_X11_handedTo : Cond.code yX11_handedTo cX11_handedTo 2 (some .int) ∈ BW := bw3 18 rfl rfl
theorem im_X11_handedTo : Cond.instanceMethod yX11_handedTo ∈ BW := zg ht3 zc3_2 (i := 3) (n := 17) (w := Cond.instanceMethod yX11_handedTo) rfl
theorem vm_X11_handedTo : VM yX11_handedTo cX11_handedTo 2 (some .int) 1 := ⟨cw_X11_handedTo, im_X11_handedTo, zg ht0 zc0_0 (i := 5) (n := 5) (w := Cond.selects RX11 yX11_handedTo yX11_handedTo) rfl, iz_X11, by decide +kernel⟩
set_option maxRecDepth 20000 in
theorem cw_X11_ahead : Cond.code yX11_ahead cX11_ahead 5 (some .int) ∈ BW := bw3 24 rfl rfl
theorem im_X11_ahead : Cond.instanceMethod yX11_ahead ∈ BW := zg ht3 zc3_2 (i := 4) (n := 22) (w := Cond.instanceMethod yX11_ahead) rfl
theorem vm_X11_ahead : VM yX11_ahead cX11_ahead 5 (some .int) 2 := ⟨cw_X11_ahead, im_X11_ahead, zg ht3 zc3_2 (i := 5) (n := 23) (w := Cond.selects RX11 yX11_ahead yX11_ahead) rfl, iz_X11, by decide +kernel⟩
set_option maxRecDepth 20000 in
theorem cw_X11_minutes : Cond.code yX11_minutes cX11_minutes 4 (some .int) ∈ BW := bw3 28 rfl rfl
theorem im_X11_minutes : Cond.instanceMethod yX11_minutes ∈ BW := zg ht3 zc3_2 (i := 6) (n := 26) (w := Cond.instanceMethod yX11_minutes) rfl
theorem vm_X11_minutes : VM yX11_minutes cX11_minutes 4 (some .int) 2 := ⟨cw_X11_minutes, im_X11_minutes, zg ht3 zc3_2 (i := 7) (n := 27) (w := Cond.selects RX11 yX11_minutes yX11_minutes) rfl, iz_X11, by decide +kernel⟩
set_option maxRecDepth 20000 in
theorem cw_X10_trace : Cond.code yX10_trace cX10_trace 13 none ∈ BW := bw3 32 rfl rfl
theorem im_X10_trace : Cond.instanceMethod yX10_trace ∈ BW := zg ht3 zc3_2 (i := 8) (n := 30) (w := Cond.instanceMethod yX10_trace) rfl
theorem vm_X10_trace : VM yX10_trace cX10_trace 13 none 3 := ⟨cw_X10_trace, im_X10_trace, zg ht3 zc3_2 (i := 9) (n := 31) (w := Cond.selects RX10 yX10_trace yX10_trace) rfl, iz_X10, by decide +kernel⟩
set_option maxRecDepth 20000 in
theorem cw_X11_saved : Cond.code yX11_saved cX11_saved 5 (some .int) ∈ BW := bw3 41 rfl rfl
theorem im_X11_saved : Cond.instanceMethod yX11_saved ∈ BW := zg ht3 zc3_2 (i := 10) (n := 39) (w := Cond.instanceMethod yX11_saved) rfl
theorem vm_X11_saved : VM yX11_saved cX11_saved 5 (some .int) 2 := ⟨cw_X11_saved, im_X11_saved, zg ht3 zc3_2 (i := 11) (n := 40) (w := Cond.selects RX11 yX11_saved yX11_saved) rfl, iz_X11, by decide +kernel⟩
set_option maxRecDepth 20000 in
theorem cw_X11_traveller : Cond.code yX11_traveller cX11_traveller 3 (some .int) ∈ BW := bw3 45 rfl rfl
theorem im_X11_traveller : Cond.instanceMethod yX11_traveller ∈ BW := zg ht3 zc3_2 (i := 12) (n := 43) (w := Cond.instanceMethod yX11_traveller) rfl
theorem vm_X11_traveller : VM yX11_traveller cX11_traveller 3 (some .int) 1 := ⟨cw_X11_traveller, im_X11_traveller, zg ht3 zc3_2 (i := 13) (n := 44) (w := Cond.selects RX11 yX11_traveller yX11_traveller) rfl, iz_X11, by decide +kernel⟩
set_option maxRecDepth 20000 in
theorem cw_X9_isFull : Cond.code yX9_isFull cX9_isFull 1 (some .boolean) ∈ BW := bw3 49 rfl rfl
theorem im_X9_isFull : Cond.instanceMethod yX9_isFull ∈ BW := zg ht3 zc3_2 (i := 14) (n := 47) (w := Cond.instanceMethod yX9_isFull) rfl
theorem vm_X9_isFull : VM yX9_isFull cX9_isFull 1 (some .boolean) 0 := ⟨cw_X9_isFull, im_X9_isFull, zg ht3 zc3_2 (i := 15) (n := 48) (w := Cond.selects RX9 yX9_isFull yX9_isFull) rfl, iz_X9, by decide +kernel⟩
set_option maxRecDepth 20000 in
theorem cw_X9_add : Cond.code yX9_add cX9_add 2 (some .int) ∈ BW := bw3 53 rfl rfl
theorem im_X9_add : Cond.instanceMethod yX9_add ∈ BW := zg ht3 zc3_2 (i := 16) (n := 51) (w := Cond.instanceMethod yX9_add) rfl
theorem vm_X9_add : VM yX9_add cX9_add 2 (some .int) 1 := ⟨cw_X9_add, im_X9_add, zg ht3 zc3_2 (i := 17) (n := 52) (w := Cond.selects RX9 yX9_add yX9_add) rfl, iz_X9, by decide +kernel⟩
set_option maxRecDepth 20000 in
theorem cw_X8_init : Cond.code yX8_init cX8_init 3 none ∈ BW := bw3 57 rfl rfl
theorem im_X8_init : Cond.instanceMethod yX8_init ∈ BW := zg ht3 zc3_2 (i := 18) (n := 56) (w := Cond.instanceMethod yX8_init) rfl
set_option maxRecDepth 20000 in
theorem cw_X11_then : Cond.code yX11_then cX11_then 5 (some .int) ∈ BW := bw3 95 rfl rfl
theorem im_X11_then : Cond.instanceMethod yX11_then ∈ BW := zg ht3 zc3_2 (i := 19) (n := 93) (w := Cond.instanceMethod yX11_then) rfl
theorem vm_X11_then : VM yX11_then cX11_then 5 (some .int) 2 := ⟨cw_X11_then, im_X11_then, zg ht3 zc3_2 (i := 20) (n := 94) (w := Cond.selects RX11 yX11_then yX11_then) rfl, iz_X11, by decide +kernel⟩
set_option maxRecDepth 20000 in
theorem cw_X9_find : Cond.code yX9_find cX9_find 2 (some (.object "LateClaims$Ticket")) ∈ BW := bw3 99 rfl rfl
theorem im_X9_find : Cond.instanceMethod yX9_find ∈ BW := zg ht3 zc3_2 (i := 21) (n := 97) (w := Cond.instanceMethod yX9_find) rfl
theorem vm_X9_find : VM yX9_find cX9_find 2 (some (.object "LateClaims$Ticket")) 1 := ⟨cw_X9_find, im_X9_find, zg ht3 zc3_2 (i := 22) (n := 98) (w := Cond.selects RX9 yX9_find yX9_find) rfl, iz_X9, by decide +kernel⟩
set_option maxRecDepth 20000 in
theorem cw_X8_isFollowedBy : Cond.code yX8_isFollowedBy cX8_isFollowedBy 3 (some .boolean) ∈ BW := bw3 104 rfl rfl
theorem im_X8_isFollowedBy : Cond.instanceMethod yX8_isFollowedBy ∈ BW := zg ht3 zc3_2 (i := 23) (n := 102) (w := Cond.instanceMethod yX8_isFollowedBy) rfl
theorem vm_X8_isFollowedBy : VM yX8_isFollowedBy cX8_isFollowedBy 3 (some .boolean) 2 := ⟨cw_X8_isFollowedBy, im_X8_isFollowedBy, zg ht3 zc3_2 (i := 24) (n := 103) (w := Cond.selects RX8 yX8_isFollowedBy yX8_isFollowedBy) rfl, iz_X8, by decide +kernel⟩
set_option maxRecDepth 20000 in
theorem cw_X8_isFull : Cond.code yX8_isFull cX8_isFull 1 (some .boolean) ∈ BW := bw3 108 rfl rfl
theorem im_X8_isFull : Cond.instanceMethod yX8_isFull ∈ BW := zg ht3 zc3_2 (i := 25) (n := 106) (w := Cond.instanceMethod yX8_isFull) rfl
theorem vm_X8_isFull : VM yX8_isFull cX8_isFull 1 (some .boolean) 0 := ⟨cw_X8_isFull, im_X8_isFull, zg ht3 zc3_2 (i := 26) (n := 107) (w := Cond.selects RX8 yX8_isFull yX8_isFull) rfl, iz_X8, by decide +kernel⟩
set_option maxRecDepth 20000 in
theorem cw_X8_add : Cond.code yX8_add cX8_add 2 none ∈ BW := bw3 112 rfl rfl
theorem im_X8_add : Cond.instanceMethod yX8_add ∈ BW := zg ht3 zc3_2 (i := 27) (n := 110) (w := Cond.instanceMethod yX8_add) rfl
theorem vm_X8_add : VM yX8_add cX8_add 2 none 1 := ⟨cw_X8_add, im_X8_add, zg ht3 zc3_2 (i := 28) (n := 111) (w := Cond.selects RX8 yX8_add yX8_add) rfl, iz_X8, by decide +kernel⟩
set_option maxRecDepth 20000 in
theorem cw_X11_missed : Cond.code yX11_missed cX11_missed 3 (some .int) ∈ BW := bw3 116 rfl rfl
theorem im_X11_missed : Cond.instanceMethod yX11_missed ∈ BW := zg ht3 zc3_2 (i := 29) (n := 114) (w := Cond.instanceMethod yX11_missed) rfl
theorem vm_X11_missed : VM yX11_missed cX11_missed 3 (some .int) 1 := ⟨cw_X11_missed, im_X11_missed, zg ht3 zc3_2 (i := 30) (n := 115) (w := Cond.selects RX11 yX11_missed yX11_missed) rfl, iz_X11, by decide +kernel⟩
set_option maxRecDepth 20000 in
theorem cw_X8_missedPlace : Cond.code yX8_missedPlace cX8_missedPlace 3 (some .int) ∈ BW := bw3 120 rfl rfl
theorem im_X8_missedPlace : Cond.instanceMethod yX8_missedPlace ∈ BW := zg ht3 zc3_2 (i := 31) (n := 118) (w := Cond.instanceMethod yX8_missedPlace) rfl
theorem vm_X8_missedPlace : VM yX8_missedPlace cX8_missedPlace 3 (some .int) 1 := ⟨cw_X8_missedPlace, im_X8_missedPlace, zg ht3 zc3_2 (i := 32) (n := 119) (w := Cond.selects RX8 yX8_missedPlace yX8_missedPlace) rfl, iz_X8, by decide +kernel⟩
set_option maxRecDepth 20000 in
theorem cw_X11_soonest : Cond.code yX11_soonest cX11_soonest 3 (some .int) ∈ BW := bw3 124 rfl rfl
theorem im_X11_soonest : Cond.instanceMethod yX11_soonest ∈ BW := zg ht3 zc3_2 (i := 33) (n := 122) (w := Cond.instanceMethod yX11_soonest) rfl
theorem vm_X11_soonest : VM yX11_soonest cX11_soonest 3 (some .int) 1 := ⟨cw_X11_soonest, im_X11_soonest, zg ht3 zc3_2 (i := 34) (n := 123) (w := Cond.selects RX11 yX11_soonest yX11_soonest) rfl, iz_X11, by decide +kernel⟩
set_option maxRecDepth 20000 in
theorem cw_X11_soonestOf : Cond.code yX11_soonestOf cX11_soonestOf 6 (some .int) ∈ BW := bw3 128 rfl rfl
theorem im_X11_soonestOf : Cond.instanceMethod yX11_soonestOf ∈ BW := zg ht3 zc3_2 (i := 35) (n := 127) (w := Cond.instanceMethod yX11_soonestOf) rfl
theorem vm_X11_soonestOf : VM yX11_soonestOf cX11_soonestOf 6 (some .int) 1 := ⟨cw_X11_soonestOf, im_X11_soonestOf, zg ht0 zc0_0 (i := 6) (n := 6) (w := Cond.selects RX11 yX11_soonestOf yX11_soonestOf) rfl, iz_X11, by decide +kernel⟩
set_option maxRecDepth 20000 in
theorem cw_X10_soonestBy : Cond.code yX10_soonestBy cX10_soonestBy 9 (some .int) ∈ BW := bw3 132 rfl rfl
theorem im_X10_soonestBy : Cond.instanceMethod yX10_soonestBy ∈ BW := zg ht3 zc3_2 (i := 36) (n := 130) (w := Cond.instanceMethod yX10_soonestBy) rfl
theorem vm_X10_soonestBy : VM yX10_soonestBy cX10_soonestBy 9 (some .int) 4 := ⟨cw_X10_soonestBy, im_X10_soonestBy, zg ht3 zc3_2 (i := 37) (n := 131) (w := Cond.selects RX10 yX10_soonestBy yX10_soonestBy) rfl, iz_X10, by decide +kernel⟩
set_option maxRecDepth 20000 in
theorem cw_X10_reach : Cond.code yX10_reach cX10_reach 7 (some .int) ∈ BW := bw3 136 rfl rfl
theorem im_X10_reach : Cond.instanceMethod yX10_reach ∈ BW := zg ht3 zc3_2 (i := 38) (n := 135) (w := Cond.instanceMethod yX10_reach) rfl
theorem vm_X10_reach : VM yX10_reach cX10_reach 7 (some .int) 3 := ⟨cw_X10_reach, im_X10_reach, zg ht0 zc0_0 (i := 7) (n := 7) (w := Cond.selects RX10 yX10_reach yX10_reach) rfl, iz_X10, by decide +kernel⟩
set_option maxRecDepth 20000 in
theorem cw_X11_hours : Cond.code yX11_hours cX11_hours 3 (some .int) ∈ BW := bw3 140 rfl rfl
theorem im_X11_hours : Cond.instanceMethod yX11_hours ∈ BW := zg ht3 zc3_2 (i := 39) (n := 138) (w := Cond.instanceMethod yX11_hours) rfl
theorem vm_X11_hours : VM yX11_hours cX11_hours 3 (some .int) 1 := ⟨cw_X11_hours, im_X11_hours, zg ht3 zc3_3 (i := 0) (n := 139) (w := Cond.selects RX11 yX11_hours yX11_hours) rfl, iz_X11, by decide +kernel⟩
set_option maxRecDepth 20000 in
theorem cw_X11_hoursOf : Cond.code yX11_hoursOf cX11_hoursOf 3 (some .int) ∈ BW := bw3 144 rfl rfl
theorem im_X11_hoursOf : Cond.instanceMethod yX11_hoursOf ∈ BW := zg ht3 zc3_3 (i := 1) (n := 143) (w := Cond.instanceMethod yX11_hoursOf) rfl
theorem vm_X11_hoursOf : VM yX11_hoursOf cX11_hoursOf 3 (some .int) 1 := ⟨cw_X11_hoursOf, im_X11_hoursOf, zg ht0 zc0_0 (i := 8) (n := 8) (w := Cond.selects RX11 yX11_hoursOf yX11_hoursOf) rfl, iz_X11, by decide +kernel⟩
set_option maxRecDepth 20000 in
theorem cw_X11_blame : Cond.code yX11_blame cX11_blame 3 (some .int) ∈ BW := bw3 148 rfl rfl
theorem im_X11_blame : Cond.instanceMethod yX11_blame ∈ BW := zg ht3 zc3_3 (i := 2) (n := 146) (w := Cond.instanceMethod yX11_blame) rfl
theorem vm_X11_blame : VM yX11_blame cX11_blame 3 (some .int) 1 := ⟨cw_X11_blame, im_X11_blame, zg ht3 zc3_3 (i := 3) (n := 147) (w := Cond.selects RX11 yX11_blame yX11_blame) rfl, iz_X11, by decide +kernel⟩
set_option maxRecDepth 20000 in
theorem cw_X11_blameOf : Cond.code yX11_blameOf cX11_blameOf 3 (some .int) ∈ BW := bw3 152 rfl rfl
theorem im_X11_blameOf : Cond.instanceMethod yX11_blameOf ∈ BW := zg ht3 zc3_3 (i := 4) (n := 151) (w := Cond.instanceMethod yX11_blameOf) rfl
theorem vm_X11_blameOf : VM yX11_blameOf cX11_blameOf 3 (some .int) 1 := ⟨cw_X11_blameOf, im_X11_blameOf, zg ht0 zc0_0 (i := 9) (n := 9) (w := Cond.selects RX11 yX11_blameOf yX11_blameOf) rfl, iz_X11, by decide +kernel⟩
set_option maxRecDepth 20000 in
theorem cw_X8_legAtFault : Cond.code yX8_legAtFault cX8_legAtFault 3 (some (.object "LateClaims$Leg")) ∈ BW := bw3 156 rfl rfl
theorem im_X8_legAtFault : Cond.instanceMethod yX8_legAtFault ∈ BW := zg ht3 zc3_3 (i := 5) (n := 154) (w := Cond.instanceMethod yX8_legAtFault) rfl
theorem vm_X8_legAtFault : VM yX8_legAtFault cX8_legAtFault 3 (some (.object "LateClaims$Leg")) 1 := ⟨cw_X8_legAtFault, im_X8_legAtFault, zg ht3 zc3_3 (i := 6) (n := 155) (w := Cond.selects RX8 yX8_legAtFault yX8_legAtFault) rfl, iz_X8, by decide +kernel⟩
set_option maxRecDepth 20000 in
theorem cw_X10_greatestCause : Cond.code yX10_greatestCause cX10_greatestCause 3 (some .int) ∈ BW := bw3 161 rfl rfl
theorem im_X10_greatestCause : Cond.instanceMethod yX10_greatestCause ∈ BW := zg ht3 zc3_3 (i := 7) (n := 159) (w := Cond.instanceMethod yX10_greatestCause) rfl
theorem vm_X10_greatestCause : VM yX10_greatestCause cX10_greatestCause 3 (some .int) 0 := ⟨cw_X10_greatestCause, im_X10_greatestCause, zg ht3 zc3_3 (i := 8) (n := 160) (w := Cond.selects RX10 yX10_greatestCause yX10_greatestCause) rfl, iz_X10, by decide +kernel⟩
set_option maxRecDepth 20000 in
theorem cw_X11_law : Cond.code yX11_law cX11_law 6 (some .int) ∈ BW := bw3 165 rfl rfl
theorem im_X11_law : Cond.instanceMethod yX11_law ∈ BW := zg ht3 zc3_3 (i := 9) (n := 163) (w := Cond.instanceMethod yX11_law) rfl
theorem vm_X11_law : VM yX11_law cX11_law 6 (some .int) 5 := ⟨cw_X11_law, im_X11_law, zg ht3 zc3_3 (i := 10) (n := 164) (w := Cond.selects RX11 yX11_law yX11_law) rfl, iz_X11, by decide +kernel⟩
set_option maxRecDepth 20000 in
theorem cw_X4_isFull : Cond.code yX4_isFull cX4_isFull 1 (some .boolean) ∈ BW := bw3 169 rfl rfl
theorem im_X4_isFull : Cond.instanceMethod yX4_isFull ∈ BW := zg ht3 zc3_3 (i := 11) (n := 167) (w := Cond.instanceMethod yX4_isFull) rfl
theorem vm_X4_isFull : VM yX4_isFull cX4_isFull 1 (some .boolean) 0 := ⟨cw_X4_isFull, im_X4_isFull, zg ht3 zc3_3 (i := 12) (n := 168) (w := Cond.selects RX4 yX4_isFull yX4_isFull) rfl, iz_X4, by decide +kernel⟩
set_option maxRecDepth 20000 in
theorem cw_X4_add : Cond.code yX4_add cX4_add 6 (some .int) ∈ BW := bw3 173 rfl rfl
theorem im_X4_add : Cond.instanceMethod yX4_add ∈ BW := zg ht3 zc3_3 (i := 13) (n := 171) (w := Cond.instanceMethod yX4_add) rfl
theorem vm_X4_add : VM yX4_add cX4_add 6 (some .int) 5 := ⟨cw_X4_add, im_X4_add, zg ht3 zc3_3 (i := 14) (n := 172) (w := Cond.selects RX4 yX4_add yX4_add) rfl, iz_X4, by decide +kernel⟩
set_option maxRecDepth 20000 in
theorem cw_X11_excuse : Cond.code yX11_excuse cX11_excuse 5 (some .int) ∈ BW := bw3 177 rfl rfl
theorem im_X11_excuse : Cond.instanceMethod yX11_excuse ∈ BW := zg ht3 zc3_3 (i := 15) (n := 175) (w := Cond.instanceMethod yX11_excuse) rfl
theorem vm_X11_excuse : VM yX11_excuse cX11_excuse 5 (some .int) 4 := ⟨cw_X11_excuse, im_X11_excuse, zg ht3 zc3_3 (i := 16) (n := 176) (w := Cond.selects RX11 yX11_excuse yX11_excuse) rfl, iz_X11, by decide +kernel⟩
set_option maxRecDepth 20000 in
theorem cw_X4_isFullOfExcuses : Cond.code yX4_isFullOfExcuses cX4_isFullOfExcuses 1 (some .boolean) ∈ BW := bw3 181 rfl rfl
theorem im_X4_isFullOfExcuses : Cond.instanceMethod yX4_isFullOfExcuses ∈ BW := zg ht3 zc3_3 (i := 17) (n := 179) (w := Cond.instanceMethod yX4_isFullOfExcuses) rfl
theorem vm_X4_isFullOfExcuses : VM yX4_isFullOfExcuses cX4_isFullOfExcuses 1 (some .boolean) 0 := ⟨cw_X4_isFullOfExcuses, im_X4_isFullOfExcuses, zg ht3 zc3_3 (i := 18) (n := 180) (w := Cond.selects RX4 yX4_isFullOfExcuses yX4_isFullOfExcuses) rfl, iz_X4, by decide +kernel⟩
set_option maxRecDepth 20000 in
theorem cw_X4_addExcuse : Cond.code yX4_addExcuse cX4_addExcuse 6 (some .int) ∈ BW := bw3 185 rfl rfl
theorem im_X4_addExcuse : Cond.instanceMethod yX4_addExcuse ∈ BW := zg ht3 zc3_3 (i := 19) (n := 183) (w := Cond.instanceMethod yX4_addExcuse) rfl
theorem vm_X4_addExcuse : VM yX4_addExcuse cX4_addExcuse 6 (some .int) 5 := ⟨cw_X4_addExcuse, im_X4_addExcuse, zg ht3 zc3_3 (i := 20) (n := 184) (w := Cond.selects RX4 yX4_addExcuse yX4_addExcuse) rfl, iz_X4, by decide +kernel⟩
set_option maxRecDepth 20000 in
theorem cw_X11_sum : Cond.code yX11_sum cX11_sum 6 (some .int) ∈ BW := bw3 189 rfl rfl
theorem im_X11_sum : Cond.instanceMethod yX11_sum ∈ BW := zg ht3 zc3_3 (i := 21) (n := 187) (w := Cond.instanceMethod yX11_sum) rfl
theorem vm_X11_sum : VM yX11_sum cX11_sum 6 (some .int) 3 := ⟨cw_X11_sum, im_X11_sum, zg ht3 zc3_3 (i := 22) (n := 188) (w := Cond.selects RX11 yX11_sum yX11_sum) rfl, iz_X11, by decide +kernel⟩
set_option maxRecDepth 20000 in
theorem cw_X11_sumFor : Cond.code yX11_sumFor cX11_sumFor 4 (some .int) ∈ BW := bw3 193 rfl rfl
theorem im_X11_sumFor : Cond.instanceMethod yX11_sumFor ∈ BW := zg ht3 zc3_3 (i := 23) (n := 192) (w := Cond.instanceMethod yX11_sumFor) rfl
theorem vm_X11_sumFor : VM yX11_sumFor cX11_sumFor 4 (some .int) 2 := ⟨cw_X11_sumFor, im_X11_sumFor, zg ht0 zc0_0 (i := 10) (n := 10) (w := Cond.selects RX11 yX11_sumFor yX11_sumFor) rfl, iz_X11, by decide +kernel⟩
set_option maxRecDepth 20000 in
theorem cw_X4_landFor : Cond.code yX4_landFor cX4_landFor 5 (some .int) ∈ BW := bw3 197 rfl rfl
theorem im_X4_landFor : Cond.instanceMethod yX4_landFor ∈ BW := zg ht3 zc3_3 (i := 24) (n := 195) (w := Cond.instanceMethod yX4_landFor) rfl
theorem vm_X4_landFor : VM yX4_landFor cX4_landFor 5 (some .int) 2 := ⟨cw_X4_landFor, im_X4_landFor, zg ht3 zc3_3 (i := 25) (n := 196) (w := Cond.selects RX4 yX4_landFor yX4_landFor) rfl, iz_X4, by decide +kernel⟩
set_option maxRecDepth 20000 in
theorem cw_X4_hasRows : Cond.code yX4_hasRows cX4_hasRows 4 (some .boolean) ∈ BW := bw3 201 rfl rfl
theorem im_X4_hasRows : Cond.instanceMethod yX4_hasRows ∈ BW := zg ht3 zc3_3 (i := 26) (n := 200) (w := Cond.instanceMethod yX4_hasRows) rfl
theorem vm_X4_hasRows : VM yX4_hasRows cX4_hasRows 4 (some .boolean) 2 := ⟨cw_X4_hasRows, im_X4_hasRows, zg ht0 zc0_0 (i := 11) (n := 11) (w := Cond.selects RX4 yX4_hasRows yX4_hasRows) rfl, iz_X4, by decide +kernel⟩
set_option maxRecDepth 20000 in
theorem cw_X4_isInForce : Cond.code yX4_isInForce cX4_isInForce 4 (some .boolean) ∈ BW := bw3 205 rfl rfl
theorem im_X4_isInForce : Cond.instanceMethod yX4_isInForce ∈ BW := zg ht3 zc3_3 (i := 27) (n := 204) (w := Cond.instanceMethod yX4_isInForce) rfl
theorem vm_X4_isInForce : VM yX4_isInForce cX4_isInForce 4 (some .boolean) 3 := ⟨cw_X4_isInForce, im_X4_isInForce, zg ht0 zc0_0 (i := 12) (n := 12) (w := Cond.selects RX4 yX4_isInForce yX4_isInForce) rfl, iz_X4, by decide +kernel⟩
set_option maxRecDepth 20000 in
theorem cw_X8_leaveDay : Cond.code yX8_leaveDay cX8_leaveDay 1 (some .int) ∈ BW := bw3 209 rfl rfl
theorem im_X8_leaveDay : Cond.instanceMethod yX8_leaveDay ∈ BW := zg ht3 zc3_3 (i := 28) (n := 207) (w := Cond.instanceMethod yX8_leaveDay) rfl
theorem vm_X8_leaveDay : VM yX8_leaveDay cX8_leaveDay 1 (some .int) 0 := ⟨cw_X8_leaveDay, im_X8_leaveDay, zg ht3 zc3_3 (i := 29) (n := 208) (w := Cond.selects RX8 yX8_leaveDay yX8_leaveDay) rfl, iz_X8, by decide +kernel⟩
set_option maxRecDepth 20000 in
theorem cw_X4_isExcused : Cond.code yX4_isExcused cX4_isExcused 7 (some .boolean) ∈ BW := bw3 213 rfl rfl
theorem im_X4_isExcused : Cond.instanceMethod yX4_isExcused ∈ BW := zg ht3 zc3_3 (i := 30) (n := 211) (w := Cond.instanceMethod yX4_isExcused) rfl
theorem vm_X4_isExcused : VM yX4_isExcused cX4_isExcused 7 (some .boolean) 3 := ⟨cw_X4_isExcused, im_X4_isExcused, zg ht3 zc3_3 (i := 31) (n := 212) (w := Cond.selects RX4 yX4_isExcused yX4_isExcused) rfl, iz_X4, by decide +kernel⟩
set_option maxRecDepth 20000 in
theorem cw_X11_milesOf : Cond.code yX11_milesOf cX11_milesOf 2 (some .int) ∈ BW := bw3 217 rfl rfl
theorem im_X11_milesOf : Cond.instanceMethod yX11_milesOf ∈ BW := zg ht3 zc3_3 (i := 32) (n := 216) (w := Cond.instanceMethod yX11_milesOf) rfl
theorem vm_X11_milesOf : VM yX11_milesOf cX11_milesOf 2 (some .int) 1 := ⟨cw_X11_milesOf, im_X11_milesOf, zg ht0 zc0_0 (i := 13) (n := 13) (w := Cond.selects RX11 yX11_milesOf yX11_milesOf) rfl, iz_X11, by decide +kernel⟩
set_option maxRecDepth 20000 in
theorem cw_X4_greatestSum : Cond.code yX4_greatestSum cX4_greatestSum 8 (some .int) ∈ BW := bw3 221 rfl rfl
theorem im_X4_greatestSum : Cond.instanceMethod yX4_greatestSum ∈ BW := zg ht3 zc3_3 (i := 33) (n := 219) (w := Cond.instanceMethod yX4_greatestSum) rfl
theorem vm_X4_greatestSum : VM yX4_greatestSum cX4_greatestSum 8 (some .int) 4 := ⟨cw_X4_greatestSum, im_X4_greatestSum, zg ht3 zc3_3 (i := 34) (n := 220) (w := Cond.selects RX4 yX4_greatestSum yX4_greatestSum) rfl, iz_X4, by decide +kernel⟩
set_option maxRecDepth 20000 in
theorem cw_X11_bar : Cond.code yX11_bar cX11_bar 4 (some .int) ∈ BW := bw3 225 rfl rfl
theorem im_X11_bar : Cond.instanceMethod yX11_bar ∈ BW := zg ht3 zc3_3 (i := 35) (n := 223) (w := Cond.instanceMethod yX11_bar) rfl
theorem vm_X11_bar : VM yX11_bar cX11_bar 4 (some .int) 2 := ⟨cw_X11_bar, im_X11_bar, zg ht3 zc3_3 (i := 36) (n := 224) (w := Cond.selects RX11 yX11_bar yX11_bar) rfl, iz_X11, by decide +kernel⟩
set_option maxRecDepth 20000 in
theorem cw_X11_stop : Cond.code yX11_stop cX11_stop 4 (some .int) ∈ BW := bw3 229 rfl rfl
theorem im_X11_stop : Cond.instanceMethod yX11_stop ∈ BW := zg ht3 zc3_3 (i := 37) (n := 227) (w := Cond.instanceMethod yX11_stop) rfl
theorem vm_X11_stop : VM yX11_stop cX11_stop 4 (some .int) 3 := ⟨cw_X11_stop, im_X11_stop, zg ht3 zc3_3 (i := 38) (n := 228) (w := Cond.selects RX11 yX11_stop yX11_stop) rfl, iz_X11, by decide +kernel⟩
set_option maxRecDepth 20000 in
theorem cw_X0_isFull : Cond.code yX0_isFull cX0_isFull 1 (some .boolean) ∈ BW := bw3 233 rfl rfl
theorem im_X0_isFull : Cond.instanceMethod yX0_isFull ∈ BW := zg ht3 zc3_3 (i := 39) (n := 231) (w := Cond.instanceMethod yX0_isFull) rfl
theorem vm_X0_isFull : VM yX0_isFull cX0_isFull 1 (some .boolean) 0 := ⟨cw_X0_isFull, im_X0_isFull, zg ht3 zc3_4 (i := 0) (n := 232) (w := Cond.selects RX0 yX0_isFull yX0_isFull) rfl, iz_X0, by decide +kernel⟩
set_option maxRecDepth 20000 in
theorem cw_X0_addStop : Cond.code yX0_addStop cX0_addStop 4 (some .int) ∈ BW := bw3 237 rfl rfl
theorem im_X0_addStop : Cond.instanceMethod yX0_addStop ∈ BW := zg ht3 zc3_4 (i := 1) (n := 235) (w := Cond.instanceMethod yX0_addStop) rfl
theorem vm_X0_addStop : VM yX0_addStop cX0_addStop 4 (some .int) 3 := ⟨cw_X0_addStop, im_X0_addStop, zg ht3 zc3_4 (i := 2) (n := 236) (w := Cond.selects RX0 yX0_addStop yX0_addStop) rfl, iz_X0, by decide +kernel⟩
set_option maxRecDepth 20000 in
theorem cw_X11_claim : Cond.code yX11_claim cX11_claim 3 (some .int) ∈ BW := bw4 1 rfl rfl
theorem im_X11_claim : Cond.instanceMethod yX11_claim ∈ BW := zg ht3 zc3_4 (i := 3) (n := 239) (w := Cond.instanceMethod yX11_claim) rfl
theorem vm_X11_claim : VM yX11_claim cX11_claim 3 (some .int) 1 := ⟨cw_X11_claim, im_X11_claim, zg ht4 zc4_2 (i := 33) (n := 0) (w := Cond.selects RX11 yX11_claim yX11_claim) rfl, iz_X11, by decide +kernel⟩
set_option maxRecDepth 20000 in
theorem cw_X3_isFull : Cond.code yX3_isFull cX3_isFull 1 (some .boolean) ∈ BW := bw4 5 rfl rfl
theorem im_X3_isFull : Cond.instanceMethod yX3_isFull ∈ BW := zg ht4 zc4_2 (i := 34) (n := 3) (w := Cond.instanceMethod yX3_isFull) rfl
theorem vm_X3_isFull : VM yX3_isFull cX3_isFull 1 (some .boolean) 0 := ⟨cw_X3_isFull, im_X3_isFull, zg ht4 zc4_2 (i := 35) (n := 4) (w := Cond.selects RX3 yX3_isFull yX3_isFull) rfl, iz_X3, by decide +kernel⟩
set_option maxRecDepth 20000 in
theorem cw_X3_add : Cond.code yX3_add cX3_add 3 (some .int) ∈ BW := bw4 9 rfl rfl
theorem im_X3_add : Cond.instanceMethod yX3_add ∈ BW := zg ht4 zc4_2 (i := 36) (n := 7) (w := Cond.instanceMethod yX3_add) rfl
theorem vm_X3_add : VM yX3_add cX3_add 3 (some .int) 2 := ⟨cw_X3_add, im_X3_add, zg ht4 zc4_2 (i := 37) (n := 8) (w := Cond.selects RX3 yX3_add yX3_add) rfl, iz_X3, by decide +kernel⟩
set_option maxRecDepth 20000 in
theorem cw_X2_init : Cond.code yX2_init cX2_init 3 none ∈ BW := bw4 13 rfl rfl
theorem im_X2_init : Cond.instanceMethod yX2_init ∈ BW := zg ht4 zc4_2 (i := 38) (n := 12) (w := Cond.instanceMethod yX2_init) rfl
set_option maxRecDepth 20000 in
theorem cw_X11_claimOf : Cond.code yX11_claimOf cX11_claimOf 4 (some .int) ∈ BW := bw4 35 rfl rfl
theorem im_X11_claimOf : Cond.instanceMethod yX11_claimOf ∈ BW := zg ht4 zc4_2 (i := 39) (n := 33) (w := Cond.instanceMethod yX11_claimOf) rfl
theorem vm_X11_claimOf : VM yX11_claimOf cX11_claimOf 4 (some .int) 2 := ⟨cw_X11_claimOf, im_X11_claimOf, zg ht4 zc4_3 (i := 0) (n := 34) (w := Cond.selects RX11 yX11_claimOf yX11_claimOf) rfl, iz_X11, by decide +kernel⟩
set_option maxRecDepth 20000 in
theorem cw_X3_find : Cond.code yX3_find cX3_find 2 (some (.object "LateClaims$Claim")) ∈ BW := bw4 39 rfl rfl
theorem im_X3_find : Cond.instanceMethod yX3_find ∈ BW := zg ht4 zc4_3 (i := 1) (n := 37) (w := Cond.instanceMethod yX3_find) rfl
theorem vm_X3_find : VM yX3_find cX3_find 2 (some (.object "LateClaims$Claim")) 1 := ⟨cw_X3_find, im_X3_find, zg ht4 zc4_3 (i := 2) (n := 38) (w := Cond.selects RX3 yX3_find yX3_find) rfl, iz_X3, by decide +kernel⟩
set_option maxRecDepth 20000 in
theorem cw_X11_isBarred : Cond.code yX11_isBarred cX11_isBarred 3 (some .boolean) ∈ BW := bw4 44 rfl rfl
theorem im_X11_isBarred : Cond.instanceMethod yX11_isBarred ∈ BW := zg ht4 zc4_3 (i := 3) (n := 43) (w := Cond.instanceMethod yX11_isBarred) rfl
theorem vm_X11_isBarred : VM yX11_isBarred cX11_isBarred 3 (some .boolean) 1 := ⟨cw_X11_isBarred, im_X11_isBarred, zg ht0 zc0_0 (i := 14) (n := 14) (w := Cond.selects RX11 yX11_isBarred yX11_isBarred) rfl, iz_X11, by decide +kernel⟩
set_option maxRecDepth 20000 in
theorem cw_X8_arriveDay : Cond.code yX8_arriveDay cX8_arriveDay 1 (some .int) ∈ BW := bw4 48 rfl rfl
theorem im_X8_arriveDay : Cond.instanceMethod yX8_arriveDay ∈ BW := zg ht4 zc4_3 (i := 4) (n := 46) (w := Cond.instanceMethod yX8_arriveDay) rfl
theorem vm_X8_arriveDay : VM yX8_arriveDay cX8_arriveDay 1 (some .int) 0 := ⟨cw_X8_arriveDay, im_X8_arriveDay, zg ht4 zc4_3 (i := 5) (n := 47) (w := Cond.selects RX8 yX8_arriveDay yX8_arriveDay) rfl, iz_X8, by decide +kernel⟩
set_option maxRecDepth 20000 in
theorem cw_X0_daysThatRan : Cond.code yX0_daysThatRan cX0_daysThatRan 9 (some .int) ∈ BW := bw4 52 rfl rfl
theorem im_X0_daysThatRan : Cond.instanceMethod yX0_daysThatRan ∈ BW := zg ht4 zc4_3 (i := 6) (n := 50) (w := Cond.instanceMethod yX0_daysThatRan) rfl
theorem vm_X0_daysThatRan : VM yX0_daysThatRan cX0_daysThatRan 9 (some .int) 3 := ⟨cw_X0_daysThatRan, im_X0_daysThatRan, zg ht4 zc4_3 (i := 7) (n := 51) (w := Cond.selects RX0 yX0_daysThatRan yX0_daysThatRan) rfl, iz_X0, by decide +kernel⟩
set_option maxRecDepth 20000 in
theorem cw_X0_nextStop : Cond.code yX0_nextStop cX0_nextStop 5 (some .int) ∈ BW := bw4 56 rfl rfl
theorem im_X0_nextStop : Cond.instanceMethod yX0_nextStop ∈ BW := zg ht4 zc4_3 (i := 8) (n := 55) (w := Cond.instanceMethod yX0_nextStop) rfl
theorem vm_X0_nextStop : VM yX0_nextStop cX0_nextStop 5 (some .int) 2 := ⟨cw_X0_nextStop, im_X0_nextStop, zg ht0 zc0_0 (i := 15) (n := 15) (w := Cond.selects RX0 yX0_nextStop yX0_nextStop) rfl, iz_X0, by decide +kernel⟩
set_option maxRecDepth 20000 in
theorem cw_X11_worthOf : Cond.code yX11_worthOf cX11_worthOf 2 (some .int) ∈ BW := bw4 62 rfl rfl
theorem im_X11_worthOf : Cond.instanceMethod yX11_worthOf ∈ BW := zg ht4 zc4_3 (i := 9) (n := 61) (w := Cond.instanceMethod yX11_worthOf) rfl
theorem vm_X11_worthOf : VM yX11_worthOf cX11_worthOf 2 (some .int) 1 := ⟨cw_X11_worthOf, im_X11_worthOf, zg ht0 zc0_0 (i := 16) (n := 16) (w := Cond.selects RX11 yX11_worthOf yX11_worthOf) rfl, iz_X11, by decide +kernel⟩
set_option maxRecDepth 20000 in
theorem cw_X11_owes : Cond.code yX11_owes cX11_owes 6 (some .int) ∈ BW := bw4 66 rfl rfl
theorem im_X11_owes : Cond.instanceMethod yX11_owes ∈ BW := zg ht4 zc4_3 (i := 10) (n := 64) (w := Cond.instanceMethod yX11_owes) rfl
theorem vm_X11_owes : VM yX11_owes cX11_owes 6 (some .int) 3 := ⟨cw_X11_owes, im_X11_owes, zg ht4 zc4_3 (i := 11) (n := 65) (w := Cond.selects RX11 yX11_owes yX11_owes) rfl, iz_X11, by decide +kernel⟩
set_option maxRecDepth 20000 in
theorem cw_X11_pay : Cond.code yX11_pay cX11_pay 5 (some .int) ∈ BW := bw4 70 rfl rfl
theorem im_X11_pay : Cond.instanceMethod yX11_pay ∈ BW := zg ht4 zc4_3 (i := 12) (n := 68) (w := Cond.instanceMethod yX11_pay) rfl
theorem vm_X11_pay : VM yX11_pay cX11_pay 5 (some .int) 3 := ⟨cw_X11_pay, im_X11_pay, zg ht4 zc4_3 (i := 13) (n := 69) (w := Cond.selects RX11 yX11_pay yX11_pay) rfl, iz_X11, by decide +kernel⟩
set_option maxRecDepth 20000 in
theorem cw_X11_due : Cond.code yX11_due cX11_due 4 (some .int) ∈ BW := bw4 75 rfl rfl
theorem im_X11_due : Cond.instanceMethod yX11_due ∈ BW := zg ht4 zc4_3 (i := 14) (n := 73) (w := Cond.instanceMethod yX11_due) rfl
theorem vm_X11_due : VM yX11_due cX11_due 4 (some .int) 2 := ⟨cw_X11_due, im_X11_due, zg ht4 zc4_3 (i := 15) (n := 74) (w := Cond.selects RX11 yX11_due yX11_due) rfl, iz_X11, by decide +kernel⟩
set_option maxRecDepth 20000 in
theorem cw_X2_partOf : Cond.code yX2_partOf cX2_partOf 6 (some .int) ∈ BW := bw4 79 rfl rfl
theorem im_X2_partOf : Cond.instanceMethod yX2_partOf ∈ BW := zg ht4 zc4_3 (i := 16) (n := 77) (w := Cond.instanceMethod yX2_partOf) rfl
theorem vm_X2_partOf : VM yX2_partOf cX2_partOf 6 (some .int) 2 := ⟨cw_X2_partOf, im_X2_partOf, zg ht4 zc4_3 (i := 17) (n := 78) (w := Cond.selects RX2 yX2_partOf yX2_partOf) rfl, iz_X2, by decide +kernel⟩
set_option maxRecDepth 20000 in
theorem cw_X11_balance : Cond.code yX11_balance cX11_balance 2 (some .int) ∈ BW := bw4 84 rfl rfl
theorem im_X11_balance : Cond.instanceMethod yX11_balance ∈ BW := zg ht4 zc4_3 (i := 18) (n := 82) (w := Cond.instanceMethod yX11_balance) rfl
theorem vm_X11_balance : VM yX11_balance cX11_balance 2 (some .int) 1 := ⟨cw_X11_balance, im_X11_balance, zg ht4 zc4_3 (i := 19) (n := 83) (w := Cond.selects RX11 yX11_balance yX11_balance) rfl, iz_X11, by decide +kernel⟩
set_option maxRecDepth 20000 in
theorem cw_X11_settleUp : Cond.code yX11_settleUp cX11_settleUp 4 none ∈ BW := bw4 88 rfl rfl
theorem im_X11_settleUp : Cond.instanceMethod yX11_settleUp ∈ BW := zg ht4 zc4_3 (i := 20) (n := 87) (w := Cond.instanceMethod yX11_settleUp) rfl
theorem vm_X11_settleUp : VM yX11_settleUp cX11_settleUp 4 none 0 := ⟨cw_X11_settleUp, im_X11_settleUp, zg ht0 zc0_0 (i := 17) (n := 17) (w := Cond.selects RX11 yX11_settleUp yX11_settleUp) rfl, iz_X11, by decide +kernel⟩
set_option maxRecDepth 20000 in
theorem cw_X3_addToBalances : Cond.code yX3_addToBalances cX3_addToBalances 4 none ∈ BW := bw4 93 rfl rfl
theorem im_X3_addToBalances : Cond.instanceMethod yX3_addToBalances ∈ BW := zg ht4 zc4_3 (i := 21) (n := 91) (w := Cond.instanceMethod yX3_addToBalances) rfl
theorem vm_X3_addToBalances : VM yX3_addToBalances cX3_addToBalances 4 none 2 := ⟨cw_X3_addToBalances, im_X3_addToBalances, zg ht4 zc4_3 (i := 22) (n := 92) (w := Cond.selects RX3 yX3_addToBalances yX3_addToBalances) rfl, iz_X3, by decide +kernel⟩
set_option maxRecDepth 20000 in
theorem cw_X11_back : Cond.code yX11_back cX11_back 1 (some .int) ∈ BW := bw4 98 rfl rfl
theorem im_X11_back : Cond.instanceMethod yX11_back ∈ BW := zg ht4 zc4_3 (i := 23) (n := 96) (w := Cond.instanceMethod yX11_back) rfl
theorem vm_X11_back : VM yX11_back cX11_back 1 (some .int) 0 := ⟨cw_X11_back, im_X11_back, zg ht4 zc4_3 (i := 24) (n := 97) (w := Cond.selects RX11 yX11_back yX11_back) rfl, iz_X11, by decide +kernel⟩
set_option maxRecDepth 20000 in
theorem cw_X3_fewestPayments : Cond.code yX3_fewestPayments cX3_fewestPayments 6 (some .int) ∈ BW := bw4 102 rfl rfl
theorem im_X3_fewestPayments : Cond.instanceMethod yX3_fewestPayments ∈ BW := zg ht4 zc4_3 (i := 25) (n := 100) (w := Cond.instanceMethod yX3_fewestPayments) rfl
theorem vm_X3_fewestPayments : VM yX3_fewestPayments cX3_fewestPayments 6 (some .int) 0 := ⟨cw_X3_fewestPayments, im_X3_fewestPayments, zg ht4 zc4_3 (i := 26) (n := 101) (w := Cond.selects RX3 yX3_fewestPayments yX3_fewestPayments) rfl, iz_X3, by decide +kernel⟩
set_option maxRecDepth 20000 in
theorem cw_X3_togetherIn : Cond.code yX3_togetherIn cX3_togetherIn 4 (some .int) ∈ BW := bw4 106 rfl rfl
theorem im_X3_togetherIn : Cond.instanceMethod yX3_togetherIn ∈ BW := zg ht4 zc4_3 (i := 27) (n := 105) (w := Cond.instanceMethod yX3_togetherIn) rfl
theorem vm_X3_togetherIn : VM yX3_togetherIn cX3_togetherIn 4 (some .int) 1 := ⟨cw_X3_togetherIn, im_X3_togetherIn, zg ht0 zc0_0 (i := 18) (n := 18) (w := Cond.selects RX3 yX3_togetherIn yX3_togetherIn) rfl, iz_X3, by decide +kernel⟩
set_option maxRecDepth 20000 in
theorem cw_X11_judged : Cond.code yX11_judged cX11_judged 7 (some .int) ∈ BW := bw4 111 rfl rfl
theorem im_X11_judged : Cond.instanceMethod yX11_judged ∈ BW := zg ht4 zc4_3 (i := 28) (n := 109) (w := Cond.instanceMethod yX11_judged) rfl
theorem vm_X11_judged : VM yX11_judged cX11_judged 7 (some .int) 6 := ⟨cw_X11_judged, im_X11_judged, zg ht4 zc4_3 (i := 29) (n := 110) (w := Cond.selects RX11 yX11_judged yX11_judged) rfl, iz_X11, by decide +kernel⟩
set_option maxRecDepth 20000 in
theorem cw_X1_isFull : Cond.code yX1_isFull cX1_isFull 1 (some .boolean) ∈ BW := bw4 115 rfl rfl
theorem im_X1_isFull : Cond.instanceMethod yX1_isFull ∈ BW := zg ht4 zc4_3 (i := 30) (n := 113) (w := Cond.instanceMethod yX1_isFull) rfl
theorem vm_X1_isFull : VM yX1_isFull cX1_isFull 1 (some .boolean) 0 := ⟨cw_X1_isFull, im_X1_isFull, zg ht4 zc4_3 (i := 31) (n := 114) (w := Cond.selects RX1 yX1_isFull yX1_isFull) rfl, iz_X1, by decide +kernel⟩
set_option maxRecDepth 20000 in
theorem cw_X1_add : Cond.code yX1_add cX1_add 7 (some .int) ∈ BW := bw4 119 rfl rfl
theorem im_X1_add : Cond.instanceMethod yX1_add ∈ BW := zg ht4 zc4_3 (i := 32) (n := 117) (w := Cond.instanceMethod yX1_add) rfl
theorem vm_X1_add : VM yX1_add cX1_add 7 (some .int) 6 := ⟨cw_X1_add, im_X1_add, zg ht4 zc4_3 (i := 33) (n := 118) (w := Cond.selects RX1 yX1_add yX1_add) rfl, iz_X1, by decide +kernel⟩
set_option maxRecDepth 20000 in
theorem cw_X11_odds : Cond.code yX11_odds cX11_odds 4 (some .int) ∈ BW := bw4 123 rfl rfl
theorem im_X11_odds : Cond.instanceMethod yX11_odds ∈ BW := zg ht4 zc4_3 (i := 34) (n := 121) (w := Cond.instanceMethod yX11_odds) rfl
theorem vm_X11_odds : VM yX11_odds cX11_odds 4 (some .int) 2 := ⟨cw_X11_odds, im_X11_odds, zg ht4 zc4_3 (i := 35) (n := 122) (w := Cond.selects RX11 yX11_odds yX11_odds) rfl, iz_X11, by decide +kernel⟩
set_option maxRecDepth 20000 in
theorem cw_X11_chooseLike : Cond.code yX11_chooseLike cX11_chooseLike 4 none ∈ BW := bw4 127 rfl rfl
theorem im_X11_chooseLike : Cond.instanceMethod yX11_chooseLike ∈ BW := zg ht4 zc4_3 (i := 36) (n := 126) (w := Cond.instanceMethod yX11_chooseLike) rfl
theorem vm_X11_chooseLike : VM yX11_chooseLike cX11_chooseLike 4 none 1 := ⟨cw_X11_chooseLike, im_X11_chooseLike, zg ht0 zc0_0 (i := 19) (n := 19) (w := Cond.selects RX11 yX11_chooseLike yX11_chooseLike) rfl, iz_X11, by decide +kernel⟩
set_option maxRecDepth 20000 in
theorem cw_X1_measure : Cond.code yX1_measure cX1_measure 8 none ∈ BW := bw4 131 rfl rfl
theorem im_X1_measure : Cond.instanceMethod yX1_measure ∈ BW := zg ht4 zc4_3 (i := 37) (n := 129) (w := Cond.instanceMethod yX1_measure) rfl
theorem vm_X1_measure : VM yX1_measure cX1_measure 8 none 4 := ⟨cw_X1_measure, im_X1_measure, zg ht4 zc4_3 (i := 38) (n := 130) (w := Cond.selects RX1 yX1_measure yX1_measure) rfl, iz_X1, by decide +kernel⟩
set_option maxRecDepth 20000 in
theorem cw_J9_abs_0f7a4 : Cond.code yJ9_abs_0f7a4 cJ9_abs_0f7a4 1 (some .int) ∈ BW := bw4 134 rfl rfl
theorem sm_J9_abs_0f7a4 : SM yJ9_abs_0f7a4 cJ9_abs_0f7a4 1 (some .int) 1 := ⟨cw_J9_abs_0f7a4, zg ht4 zc4_3 (i := 39) (n := 133) (w := Cond.static yJ9_abs_0f7a4) rfl, iz_J9, by decide +kernel⟩
set_option maxRecDepth 20000 in
theorem cw_X1_choose : Cond.code yX1_choose cX1_choose 4 none ∈ BW := bw4 138 rfl rfl
theorem im_X1_choose : Cond.instanceMethod yX1_choose ∈ BW := zg ht4 zc4_4 (i := 0) (n := 136) (w := Cond.instanceMethod yX1_choose) rfl
theorem vm_X1_choose : VM yX1_choose cX1_choose 4 none 1 := ⟨cw_X1_choose, im_X1_choose, zg ht4 zc4_4 (i := 1) (n := 137) (w := Cond.selects RX1 yX1_choose yX1_choose) rfl, iz_X1, by decide +kernel⟩
set_option maxRecDepth 20000 in
theorem cw_X1_leastFar : Cond.code yX1_leastFar cX1_leastFar 3 (some .int) ∈ BW := bw4 142 rfl rfl
theorem im_X1_leastFar : Cond.instanceMethod yX1_leastFar ∈ BW := zg ht4 zc4_4 (i := 2) (n := 141) (w := Cond.instanceMethod yX1_leastFar) rfl
theorem vm_X1_leastFar : VM yX1_leastFar cX1_leastFar 3 (some .int) 0 := ⟨cw_X1_leastFar, im_X1_leastFar, zg ht0 zc0_0 (i := 20) (n := 20) (w := Cond.selects RX1 yX1_leastFar yX1_leastFar) rfl, iz_X1, by decide +kernel⟩
set_option maxRecDepth 20000 in
theorem cw_X1_goingOnTimesChosen : Cond.code yX1_goingOnTimesChosen cX1_goingOnTimesChosen 2 (some .int) ∈ BW := bw4 146 rfl rfl
theorem im_X1_goingOnTimesChosen : Cond.instanceMethod yX1_goingOnTimesChosen ∈ BW := zg ht4 zc4_4 (i := 3) (n := 144) (w := Cond.instanceMethod yX1_goingOnTimesChosen) rfl
theorem vm_X1_goingOnTimesChosen : VM yX1_goingOnTimesChosen cX1_goingOnTimesChosen 2 (some .int) 1 := ⟨cw_X1_goingOnTimesChosen, im_X1_goingOnTimesChosen, zg ht4 zc4_4 (i := 4) (n := 145) (w := Cond.selects RX1 yX1_goingOnTimesChosen yX1_goingOnTimesChosen) rfl, iz_X1, by decide +kernel⟩
set_option maxRecDepth 20000 in
theorem cw_X11_good : Cond.code yX11_good cX11_good 6 (some .int) ∈ BW := bw4 150 rfl rfl
theorem im_X11_good : Cond.instanceMethod yX11_good ∈ BW := zg ht4 zc4_4 (i := 5) (n := 148) (w := Cond.instanceMethod yX11_good) rfl
theorem vm_X11_good : VM yX11_good cX11_good 6 (some .int) 2 := ⟨cw_X11_good, im_X11_good, zg ht4 zc4_4 (i := 6) (n := 149) (w := Cond.selects RX11 yX11_good yX11_good) rfl, iz_X11, by decide +kernel⟩
set_option maxRecDepth 20000 in
theorem cw_X11_count : Cond.code yX11_count cX11_count 2 (some .int) ∈ BW := bw4 154 rfl rfl
theorem im_X11_count : Cond.instanceMethod yX11_count ∈ BW := zg ht4 zc4_4 (i := 7) (n := 152) (w := Cond.instanceMethod yX11_count) rfl
theorem vm_X11_count : VM yX11_count cX11_count 2 (some .int) 1 := ⟨cw_X11_count, im_X11_count, zg ht4 zc4_4 (i := 8) (n := 153) (w := Cond.selects RX11 yX11_count yX11_count) rfl, iz_X11, by decide +kernel⟩
set_option maxRecDepth 20000 in
theorem cw_X10_countLogged : Cond.code yX10_countLogged cX10_countLogged 3 (some .int) ∈ BW := bw4 158 rfl rfl
theorem im_X10_countLogged : Cond.instanceMethod yX10_countLogged ∈ BW := zg ht4 zc4_4 (i := 9) (n := 156) (w := Cond.instanceMethod yX10_countLogged) rfl
theorem vm_X10_countLogged : VM yX10_countLogged cX10_countLogged 3 (some .int) 0 := ⟨cw_X10_countLogged, im_X10_countLogged, zg ht4 zc4_4 (i := 10) (n := 157) (w := Cond.selects RX10 yX10_countLogged yX10_countLogged) rfl, iz_X10, by decide +kernel⟩
set_option maxRecDepth 20000 in
theorem cw_X11_countBarred : Cond.code yX11_countBarred cX11_countBarred 3 (some .int) ∈ BW := bw4 162 rfl rfl
theorem im_X11_countBarred : Cond.instanceMethod yX11_countBarred ∈ BW := zg ht4 zc4_4 (i := 11) (n := 161) (w := Cond.instanceMethod yX11_countBarred) rfl
theorem vm_X11_countBarred : VM yX11_countBarred cX11_countBarred 3 (some .int) 0 := ⟨cw_X11_countBarred, im_X11_countBarred, zg ht0 zc0_0 (i := 21) (n := 21) (w := Cond.selects RX11 yX11_countBarred yX11_countBarred) rfl, iz_X11, by decide +kernel⟩
set_option maxRecDepth 20000 in
theorem cw_X12_init : Cond.code yX12_init cX12_init 2 none ∈ BW := bw4 167 rfl rfl
theorem im_X12_init : Cond.instanceMethod yX12_init ∈ BW := zg ht4 zc4_4 (i := 12) (n := 166) (w := Cond.instanceMethod yX12_init) rfl
set_option maxRecDepth 20000 in
theorem cw_X12_days : Cond.code yX12_days cX12_days 2 (some .int) ∈ BW := bw5 113 rfl rfl
theorem im_X12_days : Cond.instanceMethod yX12_days ∈ BW := zg ht5 zc5_0 (i := 35) (n := 111) (w := Cond.instanceMethod yX12_days) rfl
theorem vm_X12_days : VM yX12_days cX12_days 2 (some .int) 1 := ⟨cw_X12_days, im_X12_days, zg ht5 zc5_0 (i := 36) (n := 112) (w := Cond.selects RX12 yX12_days yX12_days) rfl, iz_X12, by decide +kernel⟩
set_option maxRecDepth 20000 in
theorem cw_X12_refuse : Cond.code yX12_refuse cX12_refuse 2 (some .int) ∈ BW := bw5 117 rfl rfl
theorem im_X12_refuse : Cond.instanceMethod yX12_refuse ∈ BW := zg ht5 zc5_0 (i := 37) (n := 116) (w := Cond.instanceMethod yX12_refuse) rfl
theorem vm_X12_refuse : VM yX12_refuse cX12_refuse 2 (some .int) 1 := ⟨cw_X12_refuse, im_X12_refuse, zg ht0 zc0_0 (i := 22) (n := 22) (w := Cond.selects RX12 yX12_refuse yX12_refuse) rfl, iz_X12, by decide +kernel⟩
set_option maxRecDepth 20000 in
theorem cw_X12_land : Cond.code yX12_land cX12_land 4 (some .int) ∈ BW := bw5 121 rfl rfl
theorem im_X12_land : Cond.instanceMethod yX12_land ∈ BW := zg ht5 zc5_0 (i := 38) (n := 119) (w := Cond.instanceMethod yX12_land) rfl
theorem vm_X12_land : VM yX12_land cX12_land 4 (some .int) 2 := ⟨cw_X12_land, im_X12_land, zg ht5 zc5_0 (i := 39) (n := 120) (w := Cond.selects RX12 yX12_land yX12_land) rfl, iz_X12, by decide +kernel⟩
set_option maxRecDepth 20000 in
theorem cw_X12_isPort : Cond.code yX12_isPort cX12_isPort 1 (some .boolean) ∈ BW := bw5 124 rfl rfl
theorem sm_X12_isPort : SM yX12_isPort cX12_isPort 1 (some .boolean) 1 := ⟨cw_X12_isPort, zg ht5 zc5_1 (i := 0) (n := 123) (w := Cond.static yX12_isPort) rfl, iz_X12, by decide +kernel⟩
set_option maxRecDepth 20000 in
theorem cw_X12_in : Cond.code yX12_in cX12_in 3 (some .boolean) ∈ BW := bw5 127 rfl rfl
theorem sm_X12_in : SM yX12_in cX12_in 3 (some .boolean) 3 := ⟨cw_X12_in, zg ht5 zc5_1 (i := 1) (n := 126) (w := Cond.static yX12_in) rfl, iz_X12, by decide +kernel⟩
set_option maxRecDepth 20000 in
theorem cw_X12_miles : Cond.code yX12_miles cX12_miles 5 (some .int) ∈ BW := bw5 131 rfl rfl
theorem im_X12_miles : Cond.instanceMethod yX12_miles ∈ BW := zg ht5 zc5_1 (i := 2) (n := 129) (w := Cond.instanceMethod yX12_miles) rfl
theorem vm_X12_miles : VM yX12_miles cX12_miles 5 (some .int) 3 := ⟨cw_X12_miles, im_X12_miles, zg ht5 zc5_1 (i := 3) (n := 130) (w := Cond.selects RX12 yX12_miles yX12_miles) rfl, iz_X12, by decide +kernel⟩
set_option maxRecDepth 20000 in
theorem cw_X12_seen : Cond.code yX12_seen cX12_seen 9 (some .int) ∈ BW := bw5 135 rfl rfl
theorem im_X12_seen : Cond.instanceMethod yX12_seen ∈ BW := zg ht5 zc5_1 (i := 4) (n := 133) (w := Cond.instanceMethod yX12_seen) rfl
theorem vm_X12_seen : VM yX12_seen cX12_seen 9 (some .int) 3 := ⟨cw_X12_seen, im_X12_seen, zg ht5 zc5_1 (i := 5) (n := 134) (w := Cond.selects RX12 yX12_seen yX12_seen) rfl, iz_X12, by decide +kernel⟩
set_option maxRecDepth 20000 in
theorem cw_X12_off : Cond.code yX12_off cX12_off 2 (some .int) ∈ BW := bw5 139 rfl rfl
theorem im_X12_off : Cond.instanceMethod yX12_off ∈ BW := zg ht5 zc5_1 (i := 6) (n := 137) (w := Cond.instanceMethod yX12_off) rfl
theorem vm_X12_off : VM yX12_off cX12_off 2 (some .int) 1 := ⟨cw_X12_off, im_X12_off, zg ht5 zc5_1 (i := 7) (n := 138) (w := Cond.selects RX12 yX12_off yX12_off) rfl, iz_X12, by decide +kernel⟩
set_option maxRecDepth 20000 in
theorem cw_X12_refuseFar : Cond.code yX12_refuseFar cX12_refuseFar 2 (some .int) ∈ BW := bw5 143 rfl rfl
theorem im_X12_refuseFar : Cond.instanceMethod yX12_refuseFar ∈ BW := zg ht5 zc5_1 (i := 8) (n := 142) (w := Cond.instanceMethod yX12_refuseFar) rfl
theorem vm_X12_refuseFar : VM yX12_refuseFar cX12_refuseFar 2 (some .int) 1 := ⟨cw_X12_refuseFar, im_X12_refuseFar, zg ht0 zc0_0 (i := 23) (n := 23) (w := Cond.selects RX12 yX12_refuseFar yX12_refuseFar) rfl, iz_X12, by decide +kernel⟩
set_option maxRecDepth 20000 in
theorem cw_X12_leg : Cond.code yX12_leg cX12_leg 7 (some .int) ∈ BW := bw5 148 rfl rfl
theorem im_X12_leg : Cond.instanceMethod yX12_leg ∈ BW := zg ht5 zc5_1 (i := 9) (n := 146) (w := Cond.instanceMethod yX12_leg) rfl
theorem vm_X12_leg : VM yX12_leg cX12_leg 7 (some .int) 6 := ⟨cw_X12_leg, im_X12_leg, zg ht5 zc5_1 (i := 10) (n := 147) (w := Cond.selects RX12 yX12_leg yX12_leg) rfl, iz_X12, by decide +kernel⟩
set_option maxRecDepth 20000 in
theorem cw_X12_log : Cond.code yX12_log cX12_log 5 (some .int) ∈ BW := bw5 152 rfl rfl
theorem im_X12_log : Cond.instanceMethod yX12_log ∈ BW := zg ht5 zc5_1 (i := 11) (n := 150) (w := Cond.instanceMethod yX12_log) rfl
theorem vm_X12_log : VM yX12_log cX12_log 5 (some .int) 3 := ⟨cw_X12_log, im_X12_log, zg ht5 zc5_1 (i := 12) (n := 151) (w := Cond.selects RX12 yX12_log yX12_log) rfl, iz_X12, by decide +kernel⟩
set_option maxRecDepth 20000 in
theorem cw_X12_isLeg : Cond.code yX12_isLeg cX12_isLeg 2 (some .boolean) ∈ BW := bw5 156 rfl rfl
theorem im_X12_isLeg : Cond.instanceMethod yX12_isLeg ∈ BW := zg ht5 zc5_1 (i := 13) (n := 155) (w := Cond.instanceMethod yX12_isLeg) rfl
theorem vm_X12_isLeg : VM yX12_isLeg cX12_isLeg 2 (some .boolean) 1 := ⟨cw_X12_isLeg, im_X12_isLeg, zg ht0 zc0_0 (i := 24) (n := 24) (w := Cond.selects RX12 yX12_isLeg yX12_isLeg) rfl, iz_X12, by decide +kernel⟩
set_option maxRecDepth 20000 in
theorem cw_X12_cause : Cond.code yX12_cause cX12_cause 4 (some .int) ∈ BW := bw5 160 rfl rfl
theorem im_X12_cause : Cond.instanceMethod yX12_cause ∈ BW := zg ht5 zc5_1 (i := 14) (n := 158) (w := Cond.instanceMethod yX12_cause) rfl
theorem vm_X12_cause : VM yX12_cause cX12_cause 4 (some .int) 2 := ⟨cw_X12_cause, im_X12_cause, zg ht5 zc5_1 (i := 15) (n := 159) (w := Cond.selects RX12 yX12_cause yX12_cause) rfl, iz_X12, by decide +kernel⟩
set_option maxRecDepth 20000 in
theorem cw_X12_isCause : Cond.code yX12_isCause cX12_isCause 1 (some .boolean) ∈ BW := bw5 163 rfl rfl
theorem sm_X12_isCause : SM yX12_isCause cX12_isCause 1 (some .boolean) 1 := ⟨cw_X12_isCause, zg ht5 zc5_1 (i := 16) (n := 162) (w := Cond.static yX12_isCause) rfl, iz_X12, by decide +kernel⟩
set_option maxRecDepth 20000 in
theorem cw_X12_set : Cond.code yX12_set cX12_set 4 (some .int) ∈ BW := bw5 167 rfl rfl
theorem im_X12_set : Cond.instanceMethod yX12_set ∈ BW := zg ht5 zc5_1 (i := 17) (n := 165) (w := Cond.instanceMethod yX12_set) rfl
theorem vm_X12_set : VM yX12_set cX12_set 4 (some .int) 2 := ⟨cw_X12_set, im_X12_set, zg ht5 zc5_1 (i := 18) (n := 166) (w := Cond.selects RX12 yX12_set yX12_set) rfl, iz_X12, by decide +kernel⟩
set_option maxRecDepth 20000 in
theorem cw_X12_legOf : Cond.code yX12_legOf cX12_legOf 3 (some .int) ∈ BW := bw5 171 rfl rfl
theorem im_X12_legOf : Cond.instanceMethod yX12_legOf ∈ BW := zg ht5 zc5_1 (i := 19) (n := 169) (w := Cond.instanceMethod yX12_legOf) rfl
theorem vm_X12_legOf : VM yX12_legOf cX12_legOf 3 (some .int) 2 := ⟨cw_X12_legOf, im_X12_legOf, zg ht5 zc5_1 (i := 20) (n := 170) (w := Cond.selects RX12 yX12_legOf yX12_legOf) rfl, iz_X12, by decide +kernel⟩
set_option maxRecDepth 20000 in
theorem cw_X12_lateOf : Cond.code yX12_lateOf cX12_lateOf 2 (some .int) ∈ BW := bw5 175 rfl rfl
theorem im_X12_lateOf : Cond.instanceMethod yX12_lateOf ∈ BW := zg ht5 zc5_1 (i := 21) (n := 174) (w := Cond.instanceMethod yX12_lateOf) rfl
theorem vm_X12_lateOf : VM yX12_lateOf cX12_lateOf 2 (some .int) 1 := ⟨cw_X12_lateOf, im_X12_lateOf, zg ht0 zc0_0 (i := 25) (n := 25) (w := Cond.selects RX12 yX12_lateOf yX12_lateOf) rfl, iz_X12, by decide +kernel⟩
set_option maxRecDepth 20000 in
theorem cw_X12_rightArrive : Cond.code yX12_rightArrive cX12_rightArrive 2 (some .int) ∈ BW := bw5 179 rfl rfl
theorem im_X12_rightArrive : Cond.instanceMethod yX12_rightArrive ∈ BW := zg ht5 zc5_1 (i := 22) (n := 178) (w := Cond.instanceMethod yX12_rightArrive) rfl
theorem vm_X12_rightArrive : VM yX12_rightArrive cX12_rightArrive 2 (some .int) 1 := ⟨cw_X12_rightArrive, im_X12_rightArrive, zg ht0 zc0_0 (i := 26) (n := 26) (w := Cond.selects RX12 yX12_rightArrive yX12_rightArrive) rfl, iz_X12, by decide +kernel⟩
set_option maxRecDepth 20000 in
theorem cw_X12_over : Cond.code yX12_over cX12_over 1 (some .int) ∈ BW := bw5 182 rfl rfl
theorem sm_X12_over : SM yX12_over cX12_over 1 (some .int) 1 := ⟨cw_X12_over, zg ht5 zc5_1 (i := 23) (n := 181) (w := Cond.static yX12_over) rfl, iz_X12, by decide +kernel⟩
set_option maxRecDepth 20000 in
theorem cw_X12_outlateOf : Cond.code yX12_outlateOf cX12_outlateOf 2 (some .int) ∈ BW := bw5 186 rfl rfl
theorem im_X12_outlateOf : Cond.instanceMethod yX12_outlateOf ∈ BW := zg ht5 zc5_1 (i := 24) (n := 185) (w := Cond.instanceMethod yX12_outlateOf) rfl
theorem vm_X12_outlateOf : VM yX12_outlateOf cX12_outlateOf 2 (some .int) 1 := ⟨cw_X12_outlateOf, im_X12_outlateOf, zg ht0 zc0_0 (i := 27) (n := 27) (w := Cond.selects RX12 yX12_outlateOf yX12_outlateOf) rfl, iz_X12, by decide +kernel⟩
set_option maxRecDepth 20000 in
theorem cw_X12_rightLeave : Cond.code yX12_rightLeave cX12_rightLeave 2 (some .int) ∈ BW := bw5 190 rfl rfl
theorem im_X12_rightLeave : Cond.instanceMethod yX12_rightLeave ∈ BW := zg ht5 zc5_1 (i := 25) (n := 189) (w := Cond.instanceMethod yX12_rightLeave) rfl
theorem vm_X12_rightLeave : VM yX12_rightLeave cX12_rightLeave 2 (some .int) 1 := ⟨cw_X12_rightLeave, im_X12_rightLeave, zg ht0 zc0_0 (i := 28) (n := 28) (w := Cond.selects RX12 yX12_rightLeave yX12_rightLeave) rfl, iz_X12, by decide +kernel⟩
set_option maxRecDepth 20000 in
theorem cw_X12_waitOf : Cond.code yX12_waitOf cX12_waitOf 5 (some .int) ∈ BW := bw5 194 rfl rfl
theorem im_X12_waitOf : Cond.instanceMethod yX12_waitOf ∈ BW := zg ht5 zc5_1 (i := 26) (n := 193) (w := Cond.instanceMethod yX12_waitOf) rfl
theorem vm_X12_waitOf : VM yX12_waitOf cX12_waitOf 5 (some .int) 2 := ⟨cw_X12_waitOf, im_X12_waitOf, zg ht0 zc0_0 (i := 29) (n := 29) (w := Cond.selects RX12 yX12_waitOf yX12_waitOf) rfl, iz_X12, by decide +kernel⟩
set_option maxRecDepth 20000 in
theorem cw_X12_aheadOf : Cond.code yX12_aheadOf cX12_aheadOf 8 (some .int) ∈ BW := bw5 198 rfl rfl
theorem im_X12_aheadOf : Cond.instanceMethod yX12_aheadOf ∈ BW := zg ht5 zc5_1 (i := 27) (n := 197) (w := Cond.instanceMethod yX12_aheadOf) rfl
theorem vm_X12_aheadOf : VM yX12_aheadOf cX12_aheadOf 8 (some .int) 2 := ⟨cw_X12_aheadOf, im_X12_aheadOf, zg ht0 zc0_0 (i := 30) (n := 30) (w := Cond.selects RX12 yX12_aheadOf yX12_aheadOf) rfl, iz_X12, by decide +kernel⟩
set_option maxRecDepth 20000 in
theorem cw_X12_lesser : Cond.code yX12_lesser cX12_lesser 2 (some .int) ∈ BW := bw5 201 rfl rfl
theorem sm_X12_lesser : SM yX12_lesser cX12_lesser 2 (some .int) 2 := ⟨cw_X12_lesser, zg ht5 zc5_1 (i := 28) (n := 200) (w := Cond.static yX12_lesser) rfl, iz_X12, by decide +kernel⟩
set_option maxRecDepth 20000 in
theorem cw_X12_handedOf : Cond.code yX12_handedOf cX12_handedOf 2 (some .int) ∈ BW := bw5 205 rfl rfl
theorem im_X12_handedOf : Cond.instanceMethod yX12_handedOf ∈ BW := zg ht5 zc5_1 (i := 29) (n := 204) (w := Cond.instanceMethod yX12_handedOf) rfl
theorem vm_X12_handedOf : VM yX12_handedOf cX12_handedOf 2 (some .int) 1 := ⟨cw_X12_handedOf, im_X12_handedOf, zg ht0 zc0_0 (i := 31) (n := 31) (w := Cond.selects RX12 yX12_handedOf yX12_handedOf) rfl, iz_X12, by decide +kernel⟩
set_option maxRecDepth 20000 in
theorem cw_X12_isByCrew : Cond.code yX12_isByCrew cX12_isByCrew 2 (some .boolean) ∈ BW := bw5 209 rfl rfl
theorem im_X12_isByCrew : Cond.instanceMethod yX12_isByCrew ∈ BW := zg ht5 zc5_1 (i := 30) (n := 208) (w := Cond.instanceMethod yX12_isByCrew) rfl
theorem vm_X12_isByCrew : VM yX12_isByCrew cX12_isByCrew 2 (some .boolean) 1 := ⟨cw_X12_isByCrew, im_X12_isByCrew, zg ht0 zc0_0 (i := 32) (n := 32) (w := Cond.selects RX12 yX12_isByCrew yX12_isByCrew) rfl, iz_X12, by decide +kernel⟩
set_option maxRecDepth 20000 in
theorem cw_X12_ahead : Cond.code yX12_ahead cX12_ahead 4 (some .int) ∈ BW := bw5 213 rfl rfl
theorem im_X12_ahead : Cond.instanceMethod yX12_ahead ∈ BW := zg ht5 zc5_1 (i := 31) (n := 211) (w := Cond.instanceMethod yX12_ahead) rfl
theorem vm_X12_ahead : VM yX12_ahead cX12_ahead 4 (some .int) 2 := ⟨cw_X12_ahead, im_X12_ahead, zg ht5 zc5_1 (i := 32) (n := 212) (w := Cond.selects RX12 yX12_ahead yX12_ahead) rfl, iz_X12, by decide +kernel⟩
set_option maxRecDepth 20000 in
theorem cw_X12_minutes : Cond.code yX12_minutes cX12_minutes 3 (some .int) ∈ BW := bw5 217 rfl rfl
theorem im_X12_minutes : Cond.instanceMethod yX12_minutes ∈ BW := zg ht5 zc5_1 (i := 33) (n := 215) (w := Cond.instanceMethod yX12_minutes) rfl
theorem vm_X12_minutes : VM yX12_minutes cX12_minutes 3 (some .int) 2 := ⟨cw_X12_minutes, im_X12_minutes, zg ht5 zc5_1 (i := 34) (n := 216) (w := Cond.selects RX12 yX12_minutes yX12_minutes) rfl, iz_X12, by decide +kernel⟩
set_option maxRecDepth 20000 in
theorem cw_X12_findMinutes : Cond.code yX12_findMinutes cX12_findMinutes 5 none ∈ BW := bw5 221 rfl rfl
theorem im_X12_findMinutes : Cond.instanceMethod yX12_findMinutes ∈ BW := zg ht5 zc5_1 (i := 35) (n := 220) (w := Cond.instanceMethod yX12_findMinutes) rfl
theorem vm_X12_findMinutes : VM yX12_findMinutes cX12_findMinutes 5 none 1 := ⟨cw_X12_findMinutes, im_X12_findMinutes, zg ht0 zc0_0 (i := 33) (n := 33) (w := Cond.selects RX12 yX12_findMinutes yX12_findMinutes) rfl, iz_X12, by decide +kernel⟩
set_option maxRecDepth 20000 in
theorem cw_X12_saved : Cond.code yX12_saved cX12_saved 4 (some .int) ∈ BW := bw5 225 rfl rfl
theorem im_X12_saved : Cond.instanceMethod yX12_saved ∈ BW := zg ht5 zc5_1 (i := 36) (n := 223) (w := Cond.instanceMethod yX12_saved) rfl
theorem vm_X12_saved : VM yX12_saved cX12_saved 4 (some .int) 2 := ⟨cw_X12_saved, im_X12_saved, zg ht5 zc5_1 (i := 37) (n := 224) (w := Cond.selects RX12 yX12_saved yX12_saved) rfl, iz_X12, by decide +kernel⟩
set_option maxRecDepth 20000 in
theorem cw_X12_traveller : Cond.code yX12_traveller cX12_traveller 2 (some .int) ∈ BW := bw5 229 rfl rfl
theorem im_X12_traveller : Cond.instanceMethod yX12_traveller ∈ BW := zg ht5 zc5_1 (i := 38) (n := 227) (w := Cond.instanceMethod yX12_traveller) rfl
theorem vm_X12_traveller : VM yX12_traveller cX12_traveller 2 (some .int) 1 := ⟨cw_X12_traveller, im_X12_traveller, zg ht5 zc5_1 (i := 39) (n := 228) (w := Cond.selects RX12 yX12_traveller yX12_traveller) rfl, iz_X12, by decide +kernel⟩
set_option maxRecDepth 20000 in
theorem cw_X12_then : Cond.code yX12_then cX12_then 4 (some .int) ∈ BW := bw5 233 rfl rfl
theorem im_X12_then : Cond.instanceMethod yX12_then ∈ BW := zg ht5 zc5_2 (i := 0) (n := 231) (w := Cond.instanceMethod yX12_then) rfl
theorem vm_X12_then : VM yX12_then cX12_then 4 (some .int) 2 := ⟨cw_X12_then, im_X12_then, zg ht5 zc5_2 (i := 1) (n := 232) (w := Cond.selects RX12 yX12_then yX12_then) rfl, iz_X12, by decide +kernel⟩
set_option maxRecDepth 20000 in
theorem cw_X12_isTraveller : Cond.code yX12_isTraveller cX12_isTraveller 2 (some .boolean) ∈ BW := bw5 237 rfl rfl
theorem im_X12_isTraveller : Cond.instanceMethod yX12_isTraveller ∈ BW := zg ht5 zc5_2 (i := 2) (n := 236) (w := Cond.instanceMethod yX12_isTraveller) rfl
theorem vm_X12_isTraveller : VM yX12_isTraveller cX12_isTraveller 2 (some .boolean) 1 := ⟨cw_X12_isTraveller, im_X12_isTraveller, zg ht0 zc0_0 (i := 34) (n := 34) (w := Cond.selects RX12 yX12_isTraveller yX12_isTraveller) rfl, iz_X12, by decide +kernel⟩
set_option maxRecDepth 20000 in
theorem cw_X12_missed : Cond.code yX12_missed cX12_missed 3 (some .int) ∈ BW := bw6 1 rfl rfl
theorem im_X12_missed : Cond.instanceMethod yX12_missed ∈ BW := zg ht5 zc5_2 (i := 3) (n := 239) (w := Cond.instanceMethod yX12_missed) rfl
theorem vm_X12_missed : VM yX12_missed cX12_missed 3 (some .int) 1 := ⟨cw_X12_missed, im_X12_missed, zg ht6 zc6_1 (i := 1) (n := 0) (w := Cond.selects RX12 yX12_missed yX12_missed) rfl, iz_X12, by decide +kernel⟩
set_option maxRecDepth 20000 in
theorem cw_X12_missedOf : Cond.code yX12_missedOf cX12_missedOf 4 (some .int) ∈ BW := bw6 5 rfl rfl
theorem im_X12_missedOf : Cond.instanceMethod yX12_missedOf ∈ BW := zg ht6 zc6_1 (i := 2) (n := 4) (w := Cond.instanceMethod yX12_missedOf) rfl
theorem vm_X12_missedOf : VM yX12_missedOf cX12_missedOf 4 (some .int) 1 := ⟨cw_X12_missedOf, im_X12_missedOf, zg ht0 zc0_0 (i := 35) (n := 35) (w := Cond.selects RX12 yX12_missedOf yX12_missedOf) rfl, iz_X12, by decide +kernel⟩
set_option maxRecDepth 20000 in
theorem cw_X12_soonest : Cond.code yX12_soonest cX12_soonest 2 (some .int) ∈ BW := bw6 9 rfl rfl
theorem im_X12_soonest : Cond.instanceMethod yX12_soonest ∈ BW := zg ht6 zc6_1 (i := 3) (n := 7) (w := Cond.instanceMethod yX12_soonest) rfl
theorem vm_X12_soonest : VM yX12_soonest cX12_soonest 2 (some .int) 1 := ⟨cw_X12_soonest, im_X12_soonest, zg ht6 zc6_1 (i := 4) (n := 8) (w := Cond.selects RX12 yX12_soonest yX12_soonest) rfl, iz_X12, by decide +kernel⟩
set_option maxRecDepth 20000 in
theorem cw_X12_soonestOf : Cond.code yX12_soonestOf cX12_soonestOf 9 (some .int) ∈ BW := bw6 13 rfl rfl
theorem im_X12_soonestOf : Cond.instanceMethod yX12_soonestOf ∈ BW := zg ht6 zc6_1 (i := 5) (n := 12) (w := Cond.instanceMethod yX12_soonestOf) rfl
theorem vm_X12_soonestOf : VM yX12_soonestOf cX12_soonestOf 9 (some .int) 1 := ⟨cw_X12_soonestOf, im_X12_soonestOf, zg ht0 zc0_0 (i := 36) (n := 36) (w := Cond.selects RX12 yX12_soonestOf yX12_soonestOf) rfl, iz_X12, by decide +kernel⟩
set_option maxRecDepth 20000 in
theorem cw_X12_lastLeg : Cond.code yX12_lastLeg cX12_lastLeg 2 (some .int) ∈ BW := bw6 17 rfl rfl
theorem im_X12_lastLeg : Cond.instanceMethod yX12_lastLeg ∈ BW := zg ht6 zc6_1 (i := 6) (n := 16) (w := Cond.instanceMethod yX12_lastLeg) rfl
theorem vm_X12_lastLeg : VM yX12_lastLeg cX12_lastLeg 2 (some .int) 1 := ⟨cw_X12_lastLeg, im_X12_lastLeg, zg ht0 zc0_0 (i := 37) (n := 37) (w := Cond.selects RX12 yX12_lastLeg yX12_lastLeg) rfl, iz_X12, by decide +kernel⟩
set_option maxRecDepth 20000 in
theorem cw_X12_hours : Cond.code yX12_hours cX12_hours 2 (some .int) ∈ BW := bw6 21 rfl rfl
theorem im_X12_hours : Cond.instanceMethod yX12_hours ∈ BW := zg ht6 zc6_1 (i := 7) (n := 19) (w := Cond.instanceMethod yX12_hours) rfl
theorem vm_X12_hours : VM yX12_hours cX12_hours 2 (some .int) 1 := ⟨cw_X12_hours, im_X12_hours, zg ht6 zc6_1 (i := 8) (n := 20) (w := Cond.selects RX12 yX12_hours yX12_hours) rfl, iz_X12, by decide +kernel⟩
set_option maxRecDepth 20000 in
theorem cw_X12_hoursOf : Cond.code yX12_hoursOf cX12_hoursOf 3 (some .int) ∈ BW := bw6 25 rfl rfl
theorem im_X12_hoursOf : Cond.instanceMethod yX12_hoursOf ∈ BW := zg ht6 zc6_1 (i := 9) (n := 24) (w := Cond.instanceMethod yX12_hoursOf) rfl
theorem vm_X12_hoursOf : VM yX12_hoursOf cX12_hoursOf 3 (some .int) 1 := ⟨cw_X12_hoursOf, im_X12_hoursOf, zg ht0 zc0_0 (i := 38) (n := 38) (w := Cond.selects RX12 yX12_hoursOf yX12_hoursOf) rfl, iz_X12, by decide +kernel⟩
set_option maxRecDepth 20000 in
theorem cw_X12_blame : Cond.code yX12_blame cX12_blame 2 (some .int) ∈ BW := bw6 29 rfl rfl
theorem im_X12_blame : Cond.instanceMethod yX12_blame ∈ BW := zg ht6 zc6_1 (i := 10) (n := 27) (w := Cond.instanceMethod yX12_blame) rfl
theorem vm_X12_blame : VM yX12_blame cX12_blame 2 (some .int) 1 := ⟨cw_X12_blame, im_X12_blame, zg ht6 zc6_1 (i := 11) (n := 28) (w := Cond.selects RX12 yX12_blame yX12_blame) rfl, iz_X12, by decide +kernel⟩
set_option maxRecDepth 20000 in
theorem cw_X12_blameOf : Cond.code yX12_blameOf cX12_blameOf 6 (some .int) ∈ BW := bw6 33 rfl rfl
theorem im_X12_blameOf : Cond.instanceMethod yX12_blameOf ∈ BW := zg ht6 zc6_1 (i := 12) (n := 32) (w := Cond.instanceMethod yX12_blameOf) rfl
theorem vm_X12_blameOf : VM yX12_blameOf cX12_blameOf 6 (some .int) 1 := ⟨cw_X12_blameOf, im_X12_blameOf, zg ht0 zc0_0 (i := 39) (n := 39) (w := Cond.selects RX12 yX12_blameOf yX12_blameOf) rfl, iz_X12, by decide +kernel⟩
set_option maxRecDepth 20000 in
theorem cw_X12_law : Cond.code yX12_law cX12_law 6 (some .int) ∈ BW := bw6 37 rfl rfl
theorem im_X12_law : Cond.instanceMethod yX12_law ∈ BW := zg ht6 zc6_1 (i := 13) (n := 35) (w := Cond.instanceMethod yX12_law) rfl
theorem vm_X12_law : VM yX12_law cX12_law 6 (some .int) 5 := ⟨cw_X12_law, im_X12_law, zg ht6 zc6_1 (i := 14) (n := 36) (w := Cond.selects RX12 yX12_law yX12_law) rfl, iz_X12, by decide +kernel⟩
set_option maxRecDepth 20000 in
theorem cw_X12_isLand : Cond.code yX12_isLand cX12_isLand 1 (some .boolean) ∈ BW := bw6 40 rfl rfl
theorem sm_X12_isLand : SM yX12_isLand cX12_isLand 1 (some .boolean) 1 := ⟨cw_X12_isLand, zg ht6 zc6_1 (i := 15) (n := 39) (w := Cond.static yX12_isLand) rfl, iz_X12, by decide +kernel⟩
set_option maxRecDepth 20000 in
theorem cw_X12_excuse : Cond.code yX12_excuse cX12_excuse 5 (some .int) ∈ BW := bw6 44 rfl rfl
theorem im_X12_excuse : Cond.instanceMethod yX12_excuse ∈ BW := zg ht6 zc6_1 (i := 16) (n := 42) (w := Cond.instanceMethod yX12_excuse) rfl
theorem vm_X12_excuse : VM yX12_excuse cX12_excuse 5 (some .int) 4 := ⟨cw_X12_excuse, im_X12_excuse, zg ht6 zc6_1 (i := 17) (n := 43) (w := Cond.selects RX12 yX12_excuse yX12_excuse) rfl, iz_X12, by decide +kernel⟩
set_option maxRecDepth 20000 in
theorem cw_X12_sum : Cond.code yX12_sum cX12_sum 4 (some .int) ∈ BW := bw6 48 rfl rfl
theorem im_X12_sum : Cond.instanceMethod yX12_sum ∈ BW := zg ht6 zc6_1 (i := 18) (n := 46) (w := Cond.instanceMethod yX12_sum) rfl
theorem vm_X12_sum : VM yX12_sum cX12_sum 4 (some .int) 3 := ⟨cw_X12_sum, im_X12_sum, zg ht6 zc6_1 (i := 19) (n := 47) (w := Cond.selects RX12 yX12_sum yX12_sum) rfl, iz_X12, by decide +kernel⟩
set_option maxRecDepth 20000 in
theorem cw_X12_sumOf : Cond.code yX12_sumOf cX12_sumOf 8 (some .int) ∈ BW := bw6 52 rfl rfl
theorem im_X12_sumOf : Cond.instanceMethod yX12_sumOf ∈ BW := zg ht6 zc6_1 (i := 20) (n := 51) (w := Cond.instanceMethod yX12_sumOf) rfl
theorem vm_X12_sumOf : VM yX12_sumOf cX12_sumOf 8 (some .int) 2 := ⟨cw_X12_sumOf, im_X12_sumOf, zg ht0 zc0_1 (i := 0) (n := 40) (w := Cond.selects RX12 yX12_sumOf yX12_sumOf) rfl, iz_X12, by decide +kernel⟩
set_option maxRecDepth 20000 in
theorem cw_X12_lawOf : Cond.code yX12_lawOf cX12_lawOf 5 (some .int) ∈ BW := bw6 56 rfl rfl
theorem im_X12_lawOf : Cond.instanceMethod yX12_lawOf ∈ BW := zg ht6 zc6_1 (i := 21) (n := 55) (w := Cond.instanceMethod yX12_lawOf) rfl
theorem vm_X12_lawOf : VM yX12_lawOf cX12_lawOf 5 (some .int) 2 := ⟨cw_X12_lawOf, im_X12_lawOf, zg ht0 zc0_1 (i := 1) (n := 41) (w := Cond.selects RX12 yX12_lawOf yX12_lawOf) rfl, iz_X12, by decide +kernel⟩
set_option maxRecDepth 20000 in
theorem cw_X12_firstLeg : Cond.code yX12_firstLeg cX12_firstLeg 2 (some .int) ∈ BW := bw6 60 rfl rfl
theorem im_X12_firstLeg : Cond.instanceMethod yX12_firstLeg ∈ BW := zg ht6 zc6_1 (i := 22) (n := 59) (w := Cond.instanceMethod yX12_firstLeg) rfl
theorem vm_X12_firstLeg : VM yX12_firstLeg cX12_firstLeg 2 (some .int) 1 := ⟨cw_X12_firstLeg, im_X12_firstLeg, zg ht0 zc0_1 (i := 2) (n := 42) (w := Cond.selects RX12 yX12_firstLeg yX12_firstLeg) rfl, iz_X12, by decide +kernel⟩
set_option maxRecDepth 20000 in
theorem cw_X12_hasLaw : Cond.code yX12_hasLaw cX12_hasLaw 5 (some .boolean) ∈ BW := bw6 64 rfl rfl
theorem im_X12_hasLaw : Cond.instanceMethod yX12_hasLaw ∈ BW := zg ht6 zc6_1 (i := 23) (n := 63) (w := Cond.instanceMethod yX12_hasLaw) rfl
theorem vm_X12_hasLaw : VM yX12_hasLaw cX12_hasLaw 5 (some .boolean) 2 := ⟨cw_X12_hasLaw, im_X12_hasLaw, zg ht0 zc0_1 (i := 3) (n := 43) (w := Cond.selects RX12 yX12_hasLaw yX12_hasLaw) rfl, iz_X12, by decide +kernel⟩
set_option maxRecDepth 20000 in
theorem cw_X12_isExcused : Cond.code yX12_isExcused cX12_isExcused 9 (some .boolean) ∈ BW := bw6 68 rfl rfl
theorem im_X12_isExcused : Cond.instanceMethod yX12_isExcused ∈ BW := zg ht6 zc6_1 (i := 24) (n := 67) (w := Cond.instanceMethod yX12_isExcused) rfl
theorem vm_X12_isExcused : VM yX12_isExcused cX12_isExcused 9 (some .boolean) 2 := ⟨cw_X12_isExcused, im_X12_isExcused, zg ht0 zc0_1 (i := 4) (n := 44) (w := Cond.selects RX12 yX12_isExcused yX12_isExcused) rfl, iz_X12, by decide +kernel⟩
set_option maxRecDepth 20000 in
theorem cw_X12_milesOf : Cond.code yX12_milesOf cX12_milesOf 2 (some .int) ∈ BW := bw6 72 rfl rfl
theorem im_X12_milesOf : Cond.instanceMethod yX12_milesOf ∈ BW := zg ht6 zc6_1 (i := 25) (n := 71) (w := Cond.instanceMethod yX12_milesOf) rfl
theorem vm_X12_milesOf : VM yX12_milesOf cX12_milesOf 2 (some .int) 1 := ⟨cw_X12_milesOf, im_X12_milesOf, zg ht0 zc0_1 (i := 5) (n := 45) (w := Cond.selects RX12 yX12_milesOf yX12_milesOf) rfl, iz_X12, by decide +kernel⟩
set_option maxRecDepth 20000 in
theorem cw_X12_bar : Cond.code yX12_bar cX12_bar 4 (some .int) ∈ BW := bw6 76 rfl rfl
theorem im_X12_bar : Cond.instanceMethod yX12_bar ∈ BW := zg ht6 zc6_1 (i := 26) (n := 74) (w := Cond.instanceMethod yX12_bar) rfl
theorem vm_X12_bar : VM yX12_bar cX12_bar 4 (some .int) 2 := ⟨cw_X12_bar, im_X12_bar, zg ht6 zc6_1 (i := 27) (n := 75) (w := Cond.selects RX12 yX12_bar yX12_bar) rfl, iz_X12, by decide +kernel⟩
set_option maxRecDepth 20000 in
theorem cw_X12_stop : Cond.code yX12_stop cX12_stop 4 (some .int) ∈ BW := bw6 80 rfl rfl
theorem im_X12_stop : Cond.instanceMethod yX12_stop ∈ BW := zg ht6 zc6_1 (i := 28) (n := 78) (w := Cond.instanceMethod yX12_stop) rfl
theorem vm_X12_stop : VM yX12_stop cX12_stop 4 (some .int) 3 := ⟨cw_X12_stop, im_X12_stop, zg ht6 zc6_1 (i := 29) (n := 79) (w := Cond.selects RX12 yX12_stop yX12_stop) rfl, iz_X12, by decide +kernel⟩
set_option maxRecDepth 20000 in
theorem cw_X12_claim : Cond.code yX12_claim cX12_claim 3 (some .int) ∈ BW := bw6 84 rfl rfl
theorem im_X12_claim : Cond.instanceMethod yX12_claim ∈ BW := zg ht6 zc6_1 (i := 30) (n := 82) (w := Cond.instanceMethod yX12_claim) rfl
theorem vm_X12_claim : VM yX12_claim cX12_claim 3 (some .int) 1 := ⟨cw_X12_claim, im_X12_claim, zg ht6 zc6_1 (i := 31) (n := 83) (w := Cond.selects RX12 yX12_claim yX12_claim) rfl, iz_X12, by decide +kernel⟩
set_option maxRecDepth 20000 in
theorem cw_X12_claimOf : Cond.code yX12_claimOf cX12_claimOf 3 (some .int) ∈ BW := bw6 88 rfl rfl
theorem im_X12_claimOf : Cond.instanceMethod yX12_claimOf ∈ BW := zg ht6 zc6_1 (i := 32) (n := 86) (w := Cond.instanceMethod yX12_claimOf) rfl
theorem vm_X12_claimOf : VM yX12_claimOf cX12_claimOf 3 (some .int) 2 := ⟨cw_X12_claimOf, im_X12_claimOf, zg ht6 zc6_1 (i := 33) (n := 87) (w := Cond.selects RX12 yX12_claimOf yX12_claimOf) rfl, iz_X12, by decide +kernel⟩
set_option maxRecDepth 20000 in
theorem cw_X12_isClaim : Cond.code yX12_isClaim cX12_isClaim 2 (some .boolean) ∈ BW := bw6 92 rfl rfl
theorem im_X12_isClaim : Cond.instanceMethod yX12_isClaim ∈ BW := zg ht6 zc6_1 (i := 34) (n := 91) (w := Cond.instanceMethod yX12_isClaim) rfl
theorem vm_X12_isClaim : VM yX12_isClaim cX12_isClaim 2 (some .boolean) 1 := ⟨cw_X12_isClaim, im_X12_isClaim, zg ht0 zc0_1 (i := 6) (n := 46) (w := Cond.selects RX12 yX12_isClaim yX12_isClaim) rfl, iz_X12, by decide +kernel⟩
set_option maxRecDepth 20000 in
theorem cw_X12_isBarred : Cond.code yX12_isBarred cX12_isBarred 8 (some .boolean) ∈ BW := bw6 96 rfl rfl
theorem im_X12_isBarred : Cond.instanceMethod yX12_isBarred ∈ BW := zg ht6 zc6_1 (i := 35) (n := 95) (w := Cond.instanceMethod yX12_isBarred) rfl
theorem vm_X12_isBarred : VM yX12_isBarred cX12_isBarred 8 (some .boolean) 1 := ⟨cw_X12_isBarred, im_X12_isBarred, zg ht0 zc0_1 (i := 7) (n := 47) (w := Cond.selects RX12 yX12_isBarred yX12_isBarred) rfl, iz_X12, by decide +kernel⟩
set_option maxRecDepth 20000 in
theorem cw_X12_worthOf : Cond.code yX12_worthOf cX12_worthOf 2 (some .int) ∈ BW := bw6 100 rfl rfl
theorem im_X12_worthOf : Cond.instanceMethod yX12_worthOf ∈ BW := zg ht6 zc6_1 (i := 36) (n := 99) (w := Cond.instanceMethod yX12_worthOf) rfl
theorem vm_X12_worthOf : VM yX12_worthOf cX12_worthOf 2 (some .int) 1 := ⟨cw_X12_worthOf, im_X12_worthOf, zg ht0 zc0_1 (i := 8) (n := 48) (w := Cond.selects RX12 yX12_worthOf yX12_worthOf) rfl, iz_X12, by decide +kernel⟩
set_option maxRecDepth 20000 in
theorem cw_X12_settledOf : Cond.code yX12_settledOf cX12_settledOf 4 (some .int) ∈ BW := bw6 104 rfl rfl
theorem im_X12_settledOf : Cond.instanceMethod yX12_settledOf ∈ BW := zg ht6 zc6_1 (i := 37) (n := 103) (w := Cond.instanceMethod yX12_settledOf) rfl
theorem vm_X12_settledOf : VM yX12_settledOf cX12_settledOf 4 (some .int) 1 := ⟨cw_X12_settledOf, im_X12_settledOf, zg ht0 zc0_1 (i := 9) (n := 49) (w := Cond.selects RX12 yX12_settledOf yX12_settledOf) rfl, iz_X12, by decide +kernel⟩
set_option maxRecDepth 20000 in
theorem cw_X12_owes : Cond.code yX12_owes cX12_owes 5 (some .int) ∈ BW := bw6 108 rfl rfl
theorem im_X12_owes : Cond.instanceMethod yX12_owes ∈ BW := zg ht6 zc6_1 (i := 38) (n := 106) (w := Cond.instanceMethod yX12_owes) rfl
theorem vm_X12_owes : VM yX12_owes cX12_owes 5 (some .int) 3 := ⟨cw_X12_owes, im_X12_owes, zg ht6 zc6_1 (i := 39) (n := 107) (w := Cond.selects RX12 yX12_owes yX12_owes) rfl, iz_X12, by decide +kernel⟩
set_option maxRecDepth 20000 in
theorem cw_X12_isPayer : Cond.code yX12_isPayer cX12_isPayer 1 (some .boolean) ∈ BW := bw6 111 rfl rfl
theorem sm_X12_isPayer : SM yX12_isPayer cX12_isPayer 1 (some .boolean) 1 := ⟨cw_X12_isPayer, zg ht6 zc6_2 (i := 0) (n := 110) (w := Cond.static yX12_isPayer) rfl, iz_X12, by decide +kernel⟩
set_option maxRecDepth 20000 in
theorem cw_X12_pay : Cond.code yX12_pay cX12_pay 4 (some .int) ∈ BW := bw6 115 rfl rfl
theorem im_X12_pay : Cond.instanceMethod yX12_pay ∈ BW := zg ht6 zc6_2 (i := 1) (n := 113) (w := Cond.instanceMethod yX12_pay) rfl
theorem vm_X12_pay : VM yX12_pay cX12_pay 4 (some .int) 3 := ⟨cw_X12_pay, im_X12_pay, zg ht6 zc6_2 (i := 2) (n := 114) (w := Cond.selects RX12 yX12_pay yX12_pay) rfl, iz_X12, by decide +kernel⟩
set_option maxRecDepth 20000 in
theorem cw_X12_due : Cond.code yX12_due cX12_due 3 (some .int) ∈ BW := bw6 120 rfl rfl
theorem im_X12_due : Cond.instanceMethod yX12_due ∈ BW := zg ht6 zc6_2 (i := 3) (n := 118) (w := Cond.instanceMethod yX12_due) rfl
theorem vm_X12_due : VM yX12_due cX12_due 3 (some .int) 2 := ⟨cw_X12_due, im_X12_due, zg ht6 zc6_2 (i := 4) (n := 119) (w := Cond.selects RX12 yX12_due yX12_due) rfl, iz_X12, by decide +kernel⟩
set_option maxRecDepth 20000 in
theorem cw_X12_dueOf : Cond.code yX12_dueOf cX12_dueOf 6 (some .int) ∈ BW := bw6 124 rfl rfl
theorem im_X12_dueOf : Cond.instanceMethod yX12_dueOf ∈ BW := zg ht6 zc6_2 (i := 5) (n := 123) (w := Cond.instanceMethod yX12_dueOf) rfl
theorem vm_X12_dueOf : VM yX12_dueOf cX12_dueOf 6 (some .int) 2 := ⟨cw_X12_dueOf, im_X12_dueOf, zg ht0 zc0_1 (i := 10) (n := 50) (w := Cond.selects RX12 yX12_dueOf yX12_dueOf) rfl, iz_X12, by decide +kernel⟩
set_option maxRecDepth 20000 in
theorem cw_X12_balance : Cond.code yX12_balance cX12_balance 2 (some .int) ∈ BW := bw6 128 rfl rfl
theorem im_X12_balance : Cond.instanceMethod yX12_balance ∈ BW := zg ht6 zc6_2 (i := 6) (n := 126) (w := Cond.instanceMethod yX12_balance) rfl
theorem vm_X12_balance : VM yX12_balance cX12_balance 2 (some .int) 1 := ⟨cw_X12_balance, im_X12_balance, zg ht6 zc6_2 (i := 7) (n := 127) (w := Cond.selects RX12 yX12_balance yX12_balance) rfl, iz_X12, by decide +kernel⟩
set_option maxRecDepth 20000 in
theorem cw_X12_balanceOf : Cond.code yX12_balanceOf cX12_balanceOf 4 (some .int) ∈ BW := bw6 132 rfl rfl
theorem im_X12_balanceOf : Cond.instanceMethod yX12_balanceOf ∈ BW := zg ht6 zc6_2 (i := 8) (n := 131) (w := Cond.instanceMethod yX12_balanceOf) rfl
theorem vm_X12_balanceOf : VM yX12_balanceOf cX12_balanceOf 4 (some .int) 1 := ⟨cw_X12_balanceOf, im_X12_balanceOf, zg ht0 zc0_1 (i := 11) (n := 51) (w := Cond.selects RX12 yX12_balanceOf yX12_balanceOf) rfl, iz_X12, by decide +kernel⟩
set_option maxRecDepth 20000 in
theorem cw_X12_back : Cond.code yX12_back cX12_back 6 (some .int) ∈ BW := bw6 136 rfl rfl
theorem im_X12_back : Cond.instanceMethod yX12_back ∈ BW := zg ht6 zc6_2 (i := 9) (n := 134) (w := Cond.instanceMethod yX12_back) rfl
theorem vm_X12_back : VM yX12_back cX12_back 6 (some .int) 0 := ⟨cw_X12_back, im_X12_back, zg ht6 zc6_2 (i := 10) (n := 135) (w := Cond.selects RX12 yX12_back yX12_back) rfl, iz_X12, by decide +kernel⟩
set_option maxRecDepth 20000 in
theorem cw_X12_judged : Cond.code yX12_judged cX12_judged 7 (some .int) ∈ BW := bw6 140 rfl rfl
theorem im_X12_judged : Cond.instanceMethod yX12_judged ∈ BW := zg ht6 zc6_2 (i := 11) (n := 138) (w := Cond.instanceMethod yX12_judged) rfl
theorem vm_X12_judged : VM yX12_judged cX12_judged 7 (some .int) 6 := ⟨cw_X12_judged, im_X12_judged, zg ht6 zc6_2 (i := 12) (n := 139) (w := Cond.selects RX12 yX12_judged yX12_judged) rfl, iz_X12, by decide +kernel⟩
set_option maxRecDepth 20000 in
theorem cw_X12_odds : Cond.code yX12_odds cX12_odds 3 (some .int) ∈ BW := bw6 144 rfl rfl
theorem im_X12_odds : Cond.instanceMethod yX12_odds ∈ BW := zg ht6 zc6_2 (i := 13) (n := 142) (w := Cond.instanceMethod yX12_odds) rfl
theorem vm_X12_odds : VM yX12_odds cX12_odds 3 (some .int) 2 := ⟨cw_X12_odds, im_X12_odds, zg ht6 zc6_2 (i := 14) (n := 143) (w := Cond.selects RX12 yX12_odds yX12_odds) rfl, iz_X12, by decide +kernel⟩
set_option maxRecDepth 20000 in
theorem cw_X12_findLike : Cond.code yX12_findLike cX12_findLike 10 none ∈ BW := bw6 148 rfl rfl
theorem im_X12_findLike : Cond.instanceMethod yX12_findLike ∈ BW := zg ht6 zc6_2 (i := 15) (n := 147) (w := Cond.instanceMethod yX12_findLike) rfl
theorem vm_X12_findLike : VM yX12_findLike cX12_findLike 10 none 1 := ⟨cw_X12_findLike, im_X12_findLike, zg ht0 zc0_1 (i := 12) (n := 52) (w := Cond.selects RX12 yX12_findLike yX12_findLike) rfl, iz_X12, by decide +kernel⟩
set_option maxRecDepth 20000 in
theorem cw_X12_amount : Cond.code yX12_amount cX12_amount 1 (some .int) ∈ BW := bw6 151 rfl rfl
theorem sm_X12_amount : SM yX12_amount cX12_amount 1 (some .int) 1 := ⟨cw_X12_amount, zg ht6 zc6_2 (i := 16) (n := 150) (w := Cond.static yX12_amount) rfl, iz_X12, by decide +kernel⟩
set_option maxRecDepth 20000 in
theorem cw_X12_good : Cond.code yX12_good cX12_good 5 (some .int) ∈ BW := bw6 155 rfl rfl
theorem im_X12_good : Cond.instanceMethod yX12_good ∈ BW := zg ht6 zc6_2 (i := 17) (n := 153) (w := Cond.instanceMethod yX12_good) rfl
theorem vm_X12_good : VM yX12_good cX12_good 5 (some .int) 2 := ⟨cw_X12_good, im_X12_good, zg ht6 zc6_2 (i := 18) (n := 154) (w := Cond.selects RX12 yX12_good yX12_good) rfl, iz_X12, by decide +kernel⟩
set_option maxRecDepth 20000 in
theorem cw_X12_count : Cond.code yX12_count cX12_count 4 (some .int) ∈ BW := bw6 159 rfl rfl
theorem im_X12_count : Cond.instanceMethod yX12_count ∈ BW := zg ht6 zc6_2 (i := 19) (n := 157) (w := Cond.instanceMethod yX12_count) rfl
theorem vm_X12_count : VM yX12_count cX12_count 4 (some .int) 1 := ⟨cw_X12_count, im_X12_count, zg ht6 zc6_2 (i := 20) (n := 158) (w := Cond.selects RX12 yX12_count yX12_count) rfl, iz_X12, by decide +kernel⟩
