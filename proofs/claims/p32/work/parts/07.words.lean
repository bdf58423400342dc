theorem bw0 {w : Cond} (i : Nat) (h : (k2_sels lw_privs)[i]? = some w) (g : goodWord w = true) : w ∈ BW := List.mem_filter.mpr ⟨List.mem_append.mpr (Or.inl (List.mem_of_getElem? h)), g⟩
theorem bw1 {w : Cond} (i : Nat) (h : tables_1_1[i]? = some w) (g : goodWord w = true) : w ∈ BW := List.mem_filter.mpr ⟨List.mem_append.mpr (Or.inr (List.mem_append.mpr (Or.inl (List.mem_of_getElem? h)))), g⟩
theorem bw2 {w : Cond} (i : Nat) (h : tables_1_2[i]? = some w) (g : goodWord w = true) : w ∈ BW := List.mem_filter.mpr ⟨List.mem_append.mpr (Or.inr (List.mem_append.mpr (Or.inr (List.mem_append.mpr (Or.inl (List.mem_of_getElem? h)))))), g⟩
theorem bw3 {w : Cond} (i : Nat) (h : tables_1_3[i]? = some w) (g : goodWord w = true) : w ∈ BW := List.mem_filter.mpr ⟨List.mem_append.mpr (Or.inr (List.mem_append.mpr (Or.inr (List.mem_append.mpr (Or.inr (List.mem_append.mpr (Or.inl (List.mem_of_getElem? h)))))))), g⟩
theorem bw4 {w : Cond} (i : Nat) (h : tables_1_4[i]? = some w) (g : goodWord w = true) : w ∈ BW := List.mem_filter.mpr ⟨List.mem_append.mpr (Or.inr (List.mem_append.mpr (Or.inr (List.mem_append.mpr (Or.inr (List.mem_append.mpr (Or.inr (List.mem_append.mpr (Or.inl (List.mem_of_getElem? h)))))))))), g⟩
theorem bw5 {w : Cond} (i : Nat) (h : tables_1_5[i]? = some w) (g : goodWord w = true) : w ∈ BW := List.mem_filter.mpr ⟨List.mem_append.mpr (Or.inr (List.mem_append.mpr (Or.inr (List.mem_append.mpr (Or.inr (List.mem_append.mpr (Or.inr (List.mem_append.mpr (Or.inr (List.mem_append.mpr (Or.inl (List.mem_of_getElem? h)))))))))))), g⟩
theorem bw6 {w : Cond} (i : Nat) (h : tables_1_6[i]? = some w) (g : goodWord w = true) : w ∈ BW := List.mem_filter.mpr ⟨List.mem_append.mpr (Or.inr (List.mem_append.mpr (Or.inr (List.mem_append.mpr (Or.inr (List.mem_append.mpr (Or.inr (List.mem_append.mpr (Or.inr (List.mem_append.mpr (Or.inr (List.mem_of_getElem? h)))))))))))), g⟩
theorem iz_L : Cond.initialized RL ∈ BW := bw1 0 (by decide +kernel) rfl
theorem iz_X11 : Cond.initialized RX11 ∈ BW := bw1 1 (by decide +kernel) rfl
theorem iz_X7 : Cond.initialized RX7 ∈ BW := bw1 2 (by decide +kernel) rfl
theorem iz_X6 : Cond.initialized RX6 ∈ BW := bw1 3 (by decide +kernel) rfl
theorem iz_X10 : Cond.initialized RX10 ∈ BW := bw1 4 (by decide +kernel) rfl
theorem iz_X9 : Cond.initialized RX9 ∈ BW := bw1 5 (by decide +kernel) rfl
theorem iz_X4 : Cond.initialized RX4 ∈ BW := bw1 6 (by decide +kernel) rfl
theorem iz_X0 : Cond.initialized RX0 ∈ BW := bw1 7 (by decide +kernel) rfl
theorem iz_J7 : Cond.initialized RJ7 ∈ BW := bw1 8 (by decide +kernel) rfl
theorem iz_X3 : Cond.initialized RX3 ∈ BW := bw1 9 (by decide +kernel) rfl
theorem iz_X1 : Cond.initialized RX1 ∈ BW := bw1 10 (by decide +kernel) rfl
theorem iz_X12 : Cond.initialized RX12 ∈ BW := bw1 11 (by decide +kernel) rfl
theorem iz_J9 : Cond.initialized RJ9 ∈ BW := bw1 12 (by decide +kernel) rfl
theorem iz_X5 : Cond.initialized RX5 ∈ BW := bw1 13 (by decide +kernel) rfl
theorem iz_X8 : Cond.initialized RX8 ∈ BW := bw1 14 (by decide +kernel) rfl
theorem iz_X2 : Cond.initialized RX2 ∈ BW := bw1 15 (by decide +kernel) rfl
theorem bw_all {ws : List Cond} (ps : List Nat) (hp : ws = ps.filterMap (fun i => lw_tbl[i]?)) (g : ws.all goodWord = true) : ∀ w ∈ ws, w ∈ BW := by
  intro w hw
  have h1 := List.all_eq_true.mp g w hw
  rw [hp] at hw
  obtain ⟨i, -, hi⟩ := List.mem_filterMap.mp hw
  exact bw i hi h1
set_option maxRecDepth 20000 in
theorem uwX0 : ∀ w ∈ u_ws RX0 TX0 5, w ∈ BW := bw_all [224, 226, 228, 230, 232] (by decide +kernel) (by decide +kernel)
set_option maxRecDepth 20000 in
theorem uwX1 : ∀ w ∈ u_ws RX1 TX1 11, w ∈ BW := bw_all [279, 281, 283, 285, 287, 289, 291, 293, 295, 297, 299] (by decide +kernel) (by decide +kernel)
set_option maxRecDepth 20000 in
theorem uwX2 : ∀ w ∈ u_ws RX2 TX2 4, w ∈ BW := bw_all [796, 798, 800, 802] (by decide +kernel) (by decide +kernel)
set_option maxRecDepth 20000 in
theorem uwX3 : ∀ w ∈ u_ws RX3 TX3 4, w ∈ BW := bw_all [250, 252, 254, 256] (by decide +kernel) (by decide +kernel)
set_option maxRecDepth 20000 in
theorem uwX4 : ∀ w ∈ u_ws RX4 TX4 12, w ∈ BW := bw_all [184, 186, 188, 190, 192, 194, 196, 198, 200, 202, 204, 206] (by decide +kernel) (by decide +kernel)
set_option maxRecDepth 20000 in
theorem uwX5 : ∀ w ∈ u_ws RX5 TX5 15, w ∈ BW := bw_all [468, 470, 472, 474, 476, 478, 480, 482, 484, 486, 488, 490, 492, 494, 496] (by decide +kernel) (by decide +kernel)
set_option maxRecDepth 20000 in
theorem uwX6 : ∀ w ∈ u_ws RX6 TX6 4, w ∈ BW := bw_all [99, 101, 103, 105] (by decide +kernel) (by decide +kernel)
set_option maxRecDepth 20000 in
theorem uwX7 : ∀ w ∈ u_ws RX7 TX7 3, w ∈ BW := bw_all [114, 116, 118] (by decide +kernel) (by decide +kernel)
set_option maxRecDepth 20000 in
theorem uwX8 : ∀ w ∈ u_ws RX8 TX8 7, w ∈ BW := bw_all [610, 612, 614, 616, 618, 620, 622] (by decide +kernel) (by decide +kernel)
set_option maxRecDepth 20000 in
theorem uwX9 : ∀ w ∈ u_ws RX9 TX9 2, w ∈ BW := bw_all [160, 162] (by decide +kernel) (by decide +kernel)
set_option maxRecDepth 20000 in
theorem uwX10 : ∀ w ∈ u_ws RX10 TX10 5, w ∈ BW := bw_all [137, 139, 141, 143, 145] (by decide +kernel) (by decide +kernel)
set_option maxRecDepth 20000 in
theorem uwX11 : ∀ w ∈ u_ws RX11 TX11 10, w ∈ BW := bw_all [321, 323, 325, 327, 329, 331, 333, 335, 337, 339] (by decide +kernel) (by decide +kernel)
set_option maxRecDepth 20000 in
theorem uwX12 : ∀ w ∈ u_ws RX12 TX12 60, w ∈ BW := bw_all [1002, 1004, 1006, 1008, 1010, 1012, 1014, 1016, 1018, 1020, 1022, 1024, 1026, 1028, 1030, 1032, 1034, 1036, 1038, 1040, 1042, 1044, 1046, 1048, 1050, 1052, 1054, 1056, 1058, 1060, 1062, 1064, 1066, 1068, 1070, 1072, 1074, 1076, 1078, 1080, 1082, 1084, 1086, 1088, 1090, 1092, 1094, 1096, 1098, 1100, 1102, 1104, 1106, 1108, 1110, 1112, 1114, 1116, 1118, 1120] (by decide +kernel) (by decide +kernel)
theorem kl_L_7 : Cond.classLink RL 7 "LateClaims" ∈ BW := bw1 16 (by decide +kernel) rfl
theorem ib_X11 : Cond.instantiable RX11 10 ∈ BW := bw1 17 (by decide +kernel) rfl
theorem ml_L_9 : Cond.methodLink RL 9 yX11_init ∈ BW := bw1 18 (by decide +kernel) rfl
theorem kl_X11_7 : Cond.classLink RX11 7 "LateClaims$Ports" ∈ BW := bw1 24 (by decide +kernel) rfl
theorem ib_X7 : Cond.instantiable RX7 3 ∈ BW := bw1 25 (by decide +kernel) rfl
theorem ml_X11_9 : Cond.methodLink RX11 9 yX7_init ∈ BW := bw1 26 (by decide +kernel) rfl
theorem kl_X7_9 : Cond.classLink RX7 9 "LateClaims$Port" ∈ BW := bw1 30 (by decide +kernel) rfl
theorem ib_X6 : Cond.instantiable RX6 4 ∈ BW := bw1 32 (by decide +kernel) rfl
theorem ml_X7_15 : Cond.methodLink RX7 15 yX6_init ∈ BW := bw1 33 (by decide +kernel) rfl
theorem fl_X6_7 : Cond.fieldLink RX6 7 "LateClaims$Port" "number" "I" ∈ BW := bw1 37 (by decide +kernel) rfl
theorem fl_X7_29 : Cond.fieldLink RX7 29 "LateClaims$Port" "number" "I" ∈ BW := bw1 38 (by decide +kernel) rfl
theorem fl_X11_89 : Cond.fieldLink RX11 89 "LateClaims$Port" "land" "I" ∈ BW := bw1 39 (by decide +kernel) rfl
theorem fl_X4_62 : Cond.fieldLink RX4 62 "LateClaims$Port" "land" "I" ∈ BW := bw1 40 (by decide +kernel) rfl
theorem fl_X6_13 : Cond.fieldLink RX6 13 "LateClaims$Port" "least" "I" ∈ BW := bw1 41 (by decide +kernel) rfl
theorem fl_X7_33 : Cond.fieldLink RX7 33 "LateClaims$Port" "least" "I" ∈ BW := bw1 42 (by decide +kernel) rfl
theorem fl_X5_45 : Cond.fieldLink RX5 45 "LateClaims$Port" "ahead" "I" ∈ BW := bw1 43 (by decide +kernel) rfl
theorem fl_X7_36 : Cond.fieldLink RX7 36 "LateClaims$Port" "ahead" "I" ∈ BW := bw1 44 (by decide +kernel) rfl
theorem fl_X11_112 : Cond.fieldLink RX11 112 "LateClaims$Port" "ahead" "I" ∈ BW := bw1 45 (by decide +kernel) rfl
theorem kl_X7_18 : Cond.classLink RX7 18 "[[I" ∈ BW := bw1 55 (by decide +kernel) rfl
theorem fl_X7_11 : Cond.fieldLink RX7 11 "LateClaims$Ports" "all" "[LLateClaims$Port;" ∈ BW := bw1 57 (by decide +kernel) rfl
theorem fl_X7_20 : Cond.fieldLink RX7 20 "LateClaims$Ports" "distances" "[[I" ∈ BW := bw1 58 (by decide +kernel) rfl
theorem fl_X7_39 : Cond.fieldLink RX7 39 "LateClaims$Ports" "quarrels" "I" ∈ BW := bw1 59 (by decide +kernel) rfl
theorem fl_X11_332 : Cond.fieldLink RX11 332 "LateClaims$Ports" "quarrels" "I" ∈ BW := bw1 60 (by decide +kernel) rfl
theorem ac_int : Cond.arrayClass .int ∈ BW := bw1 68 (by decide +kernel) rfl
theorem kl_X11_16 : Cond.classLink RX11 16 "LateClaims$Timetable" ∈ BW := bw1 69 (by decide +kernel) rfl
theorem ib_X10 : Cond.instantiable RX10 5 ∈ BW := bw1 70 (by decide +kernel) rfl
theorem ml_X11_18 : Cond.methodLink RX11 18 yX10_init ∈ BW := bw1 71 (by decide +kernel) rfl
theorem kl_X10_11 : Cond.classLink RX10 11 "LateClaims$Leg" ∈ BW := bw1 75 (by decide +kernel) rfl
theorem fl_X10_13 : Cond.fieldLink RX10 13 "LateClaims$Timetable" "all" "[LLateClaims$Leg;" ∈ BW := bw1 77 (by decide +kernel) rfl
theorem fl_X10_28 : Cond.fieldLink RX10 28 "LateClaims$Timetable" "size" "I" ∈ BW := bw1 78 (by decide +kernel) rfl
theorem fl_X11_321 : Cond.fieldLink RX11 321 "LateClaims$Timetable" "size" "I" ∈ BW := bw1 79 (by decide +kernel) rfl
theorem fl_X10_17 : Cond.fieldLink RX10 17 "LateClaims$Timetable" "minutesBy" "[I" ∈ BW := bw1 80 (by decide +kernel) rfl
theorem fl_X11_174 : Cond.fieldLink RX11 174 "LateClaims$Timetable" "minutesBy" "[I" ∈ BW := bw1 81 (by decide +kernel) rfl
theorem fl_X10_21 : Cond.fieldLink RX10 21 "LateClaims$Timetable" "reached" "[Z" ∈ BW := bw1 82 (by decide +kernel) rfl
theorem fl_X10_25 : Cond.fieldLink RX10 25 "LateClaims$Timetable" "onTheWay" "[LLateClaims$Leg;" ∈ BW := bw1 83 (by decide +kernel) rfl
theorem ac_boolean : Cond.arrayClass .boolean ∈ BW := bw1 95 (by decide +kernel) rfl
theorem kl_X11_23 : Cond.classLink RX11 23 "LateClaims$Tickets" ∈ BW := bw1 96 (by decide +kernel) rfl
theorem ib_X9 : Cond.instantiable RX9 2 ∈ BW := bw1 97 (by decide +kernel) rfl
theorem ml_X11_25 : Cond.methodLink RX11 25 yX9_init ∈ BW := bw1 98 (by decide +kernel) rfl
theorem kl_X9_9 : Cond.classLink RX9 9 "LateClaims$Ticket" ∈ BW := bw1 102 (by decide +kernel) rfl
theorem fl_X9_11 : Cond.fieldLink RX9 11 "LateClaims$Tickets" "all" "[LLateClaims$Ticket;" ∈ BW := bw1 104 (by decide +kernel) rfl
theorem fl_X9_15 : Cond.fieldLink RX9 15 "LateClaims$Tickets" "size" "I" ∈ BW := bw1 105 (by decide +kernel) rfl
theorem fl_X11_325 : Cond.fieldLink RX11 325 "LateClaims$Tickets" "size" "I" ∈ BW := bw1 106 (by decide +kernel) rfl
theorem kl_X11_30 : Cond.classLink RX11 30 "LateClaims$Laws" ∈ BW := bw1 112 (by decide +kernel) rfl
theorem ib_X4 : Cond.instantiable RX4 12 ∈ BW := bw1 113 (by decide +kernel) rfl
theorem ml_X11_32 : Cond.methodLink RX11 32 yX4_init ∈ BW := bw1 114 (by decide +kernel) rfl
theorem fl_X4_11 : Cond.fieldLink RX4 11 "LateClaims$Laws" "lands" "[I" ∈ BW := bw1 118 (by decide +kernel) rfl
theorem fl_X4_15 : Cond.fieldLink RX4 15 "LateClaims$Laws" "fromDays" "[I" ∈ BW := bw1 119 (by decide +kernel) rfl
theorem fl_X4_18 : Cond.fieldLink RX4 18 "LateClaims$Laws" "fromMinutes" "[I" ∈ BW := bw1 120 (by decide +kernel) rfl
theorem fl_X4_21 : Cond.fieldLink RX4 21 "LateClaims$Laws" "fromMiles" "[I" ∈ BW := bw1 121 (by decide +kernel) rfl
theorem fl_X4_24 : Cond.fieldLink RX4 24 "LateClaims$Laws" "sums" "[I" ∈ BW := bw1 122 (by decide +kernel) rfl
theorem fl_X4_43 : Cond.fieldLink RX4 43 "LateClaims$Laws" "size" "I" ∈ BW := bw1 123 (by decide +kernel) rfl
theorem fl_X11_326 : Cond.fieldLink RX11 326 "LateClaims$Laws" "size" "I" ∈ BW := bw1 124 (by decide +kernel) rfl
theorem fl_X4_27 : Cond.fieldLink RX4 27 "LateClaims$Laws" "excuseLands" "[I" ∈ BW := bw1 125 (by decide +kernel) rfl
theorem fl_X4_30 : Cond.fieldLink RX4 30 "LateClaims$Laws" "excuseCauses" "[I" ∈ BW := bw1 126 (by decide +kernel) rfl
theorem fl_X4_33 : Cond.fieldLink RX4 33 "LateClaims$Laws" "excuseDays" "[I" ∈ BW := bw1 127 (by decide +kernel) rfl
theorem fl_X4_36 : Cond.fieldLink RX4 36 "LateClaims$Laws" "toldDays" "[I" ∈ BW := bw1 128 (by decide +kernel) rfl
theorem fl_X4_39 : Cond.fieldLink RX4 39 "LateClaims$Laws" "excused" "[Z" ∈ BW := bw1 129 (by decide +kernel) rfl
theorem fl_X4_47 : Cond.fieldLink RX4 47 "LateClaims$Laws" "excuses" "I" ∈ BW := bw1 130 (by decide +kernel) rfl
theorem kl_X11_37 : Cond.classLink RX11 37 "LateClaims$Bars" ∈ BW := bw1 156 (by decide +kernel) rfl
theorem ib_X0 : Cond.instantiable RX0 5 ∈ BW := bw1 157 (by decide +kernel) rfl
theorem ml_X11_39 : Cond.methodLink RX11 39 yX0_init ∈ BW := bw1 158 (by decide +kernel) rfl
theorem ml_X0_15 : Cond.methodLink RX0 15 yJ7_fill_53178 ∈ BW := bw1 162 (by decide +kernel) rfl
theorem fl_X0_9 : Cond.fieldLink RX0 9 "LateClaims$Bars" "daysIn" "[I" ∈ BW := bw1 165 (by decide +kernel) rfl
theorem fl_X11_247 : Cond.fieldLink RX11 247 "LateClaims$Bars" "daysIn" "[I" ∈ BW := bw1 166 (by decide +kernel) rfl
theorem fl_X0_21 : Cond.fieldLink RX0 21 "LateClaims$Bars" "stopLands" "[I" ∈ BW := bw1 167 (by decide +kernel) rfl
theorem fl_X0_24 : Cond.fieldLink RX0 24 "LateClaims$Bars" "stopFroms" "[I" ∈ BW := bw1 168 (by decide +kernel) rfl
theorem fl_X0_27 : Cond.fieldLink RX0 27 "LateClaims$Bars" "stopTos" "[I" ∈ BW := bw1 169 (by decide +kernel) rfl
theorem fl_X0_30 : Cond.fieldLink RX0 30 "LateClaims$Bars" "stops" "I" ∈ BW := bw1 170 (by decide +kernel) rfl
theorem kl_X11_44 : Cond.classLink RX11 44 "LateClaims$Claims" ∈ BW := bw1 182 (by decide +kernel) rfl
theorem ib_X3 : Cond.instantiable RX3 4 ∈ BW := bw1 183 (by decide +kernel) rfl
theorem ml_X11_46 : Cond.methodLink RX11 46 yX3_init ∈ BW := bw1 184 (by decide +kernel) rfl
theorem kl_X3_11 : Cond.classLink RX3 11 "LateClaims$Claim" ∈ BW := bw1 188 (by decide +kernel) rfl
theorem fl_X3_13 : Cond.fieldLink RX3 13 "LateClaims$Claims" "all" "[LLateClaims$Claim;" ∈ BW := bw1 190 (by decide +kernel) rfl
theorem fl_X11_390 : Cond.fieldLink RX11 390 "LateClaims$Claims" "all" "[LLateClaims$Claim;" ∈ BW := bw1 191 (by decide +kernel) rfl
theorem fl_X3_24 : Cond.fieldLink RX3 24 "LateClaims$Claims" "size" "I" ∈ BW := bw1 192 (by decide +kernel) rfl
theorem fl_X11_327 : Cond.fieldLink RX11 327 "LateClaims$Claims" "size" "I" ∈ BW := bw1 193 (by decide +kernel) rfl
theorem fl_X3_17 : Cond.fieldLink RX3 17 "LateClaims$Claims" "balances" "[I" ∈ BW := bw1 194 (by decide +kernel) rfl
theorem fl_X11_298 : Cond.fieldLink RX11 298 "LateClaims$Claims" "balances" "[I" ∈ BW := bw1 195 (by decide +kernel) rfl
theorem fl_X3_21 : Cond.fieldLink RX3 21 "LateClaims$Claims" "parted" "[I" ∈ BW := bw1 196 (by decide +kernel) rfl
theorem kl_X11_51 : Cond.classLink RX11 51 "LateClaims$Cases" ∈ BW := bw1 206 (by decide +kernel) rfl
theorem ib_X1 : Cond.instantiable RX1 11 ∈ BW := bw1 207 (by decide +kernel) rfl
theorem ml_X11_53 : Cond.methodLink RX11 53 yX1_init ∈ BW := bw1 208 (by decide +kernel) rfl
theorem fl_X1_11 : Cond.fieldLink RX1 11 "LateClaims$Cases" "lands" "[I" ∈ BW := bw1 212 (by decide +kernel) rfl
theorem fl_X1_15 : Cond.fieldLink RX1 15 "LateClaims$Cases" "causes" "[I" ∈ BW := bw1 213 (by decide +kernel) rfl
theorem fl_X1_18 : Cond.fieldLink RX1 18 "LateClaims$Cases" "minutesLate" "[I" ∈ BW := bw1 214 (by decide +kernel) rfl
theorem fl_X1_21 : Cond.fieldLink RX1 21 "LateClaims$Cases" "milesFlown" "[I" ∈ BW := bw1 215 (by decide +kernel) rfl
theorem fl_X1_24 : Cond.fieldLink RX1 24 "LateClaims$Cases" "wins" "[Z" ∈ BW := bw1 216 (by decide +kernel) rfl
theorem fl_X1_28 : Cond.fieldLink RX1 28 "LateClaims$Cases" "costs" "[I" ∈ BW := bw1 217 (by decide +kernel) rfl
theorem fl_X1_34 : Cond.fieldLink RX1 34 "LateClaims$Cases" "size" "I" ∈ BW := bw1 218 (by decide +kernel) rfl
theorem fl_X11_331 : Cond.fieldLink RX11 331 "LateClaims$Cases" "size" "I" ∈ BW := bw1 219 (by decide +kernel) rfl
theorem fl_X1_31 : Cond.fieldLink RX1 31 "LateClaims$Cases" "far" "[I" ∈ BW := bw1 220 (by decide +kernel) rfl
theorem fl_X1_44 : Cond.fieldLink RX1 44 "LateClaims$Cases" "chosen" "I" ∈ BW := bw1 221 (by decide +kernel) rfl
theorem fl_X11_315 : Cond.fieldLink RX11 315 "LateClaims$Cases" "chosen" "I" ∈ BW := bw1 222 (by decide +kernel) rfl
theorem fl_X1_47 : Cond.fieldLink RX1 47 "LateClaims$Cases" "chosenWon" "I" ∈ BW := bw1 223 (by decide +kernel) rfl
theorem fl_X11_312 : Cond.fieldLink RX11 312 "LateClaims$Cases" "chosenWon" "I" ∈ BW := bw1 224 (by decide +kernel) rfl
theorem fl_X1_50 : Cond.fieldLink RX1 50 "LateClaims$Cases" "chosenCost" "I" ∈ BW := bw1 225 (by decide +kernel) rfl
theorem fl_X11_58 : Cond.fieldLink RX11 58 "LateClaims" "FIRST_SETTING" "[I" ∈ BW := bw2 9 (by decide +kernel) rfl
theorem kl_X11_63 : Cond.classLink RX11 63 "[I" ∈ BW := bw2 17 (by decide +kernel) rfl
theorem fl_X11_10 : Cond.fieldLink RX11 10 "LateClaims" "ports" "LLateClaims$Ports;" ∈ BW := bw2 18 (by decide +kernel) rfl
theorem fl_X11_19 : Cond.fieldLink RX11 19 "LateClaims" "timetable" "LLateClaims$Timetable;" ∈ BW := bw2 19 (by decide +kernel) rfl
theorem fl_X11_26 : Cond.fieldLink RX11 26 "LateClaims" "tickets" "LLateClaims$Tickets;" ∈ BW := bw2 20 (by decide +kernel) rfl
theorem fl_X11_33 : Cond.fieldLink RX11 33 "LateClaims" "laws" "LLateClaims$Laws;" ∈ BW := bw2 21 (by decide +kernel) rfl
theorem fl_X11_40 : Cond.fieldLink RX11 40 "LateClaims" "bars" "LLateClaims$Bars;" ∈ BW := bw2 22 (by decide +kernel) rfl
theorem fl_X11_47 : Cond.fieldLink RX11 47 "LateClaims" "claims" "LLateClaims$Claims;" ∈ BW := bw2 23 (by decide +kernel) rfl
theorem fl_X11_54 : Cond.fieldLink RX11 54 "LateClaims" "cases" "LLateClaims$Cases;" ∈ BW := bw2 24 (by decide +kernel) rfl
theorem fl_X11_67 : Cond.fieldLink RX11 67 "LateClaims" "settings" "[I" ∈ BW := bw2 25 (by decide +kernel) rfl
theorem fl_X11_70 : Cond.fieldLink RX11 70 "LateClaims" "refusals" "[I" ∈ BW := bw2 26 (by decide +kernel) rfl
theorem fl_X11_73 : Cond.fieldLink RX11 73 "LateClaims" "today" "I" ∈ BW := bw2 27 (by decide +kernel) rfl
theorem ml_L_13 : Cond.methodLink RL 13 yX11_days ∈ BW := bw2 49 (by decide +kernel) rfl
theorem ml_X11_77 : Cond.methodLink RX11 77 yX11_refuse ∈ BW := bw2 53 (by decide +kernel) rfl
theorem ml_X11_85 : Cond.methodLink RX11 85 yX11_isOneOf ∈ BW := bw2 57 (by decide +kernel) rfl
theorem ml_L_18 : Cond.methodLink RL 18 yX11_land ∈ BW := bw2 60 (by decide +kernel) rfl
theorem ml_X11_81 : Cond.methodLink RX11 81 yX7_find ∈ BW := bw2 64 (by decide +kernel) rfl
theorem ml_L_23 : Cond.methodLink RL 23 yX11_miles ∈ BW := bw2 69 (by decide +kernel) rfl
theorem ml_X11_94 : Cond.methodLink RX11 94 yX7_milesBetween ∈ BW := bw2 73 (by decide +kernel) rfl
theorem ml_X11_98 : Cond.methodLink RX11 98 yX7_setMiles ∈ BW := bw2 77 (by decide +kernel) rfl
theorem ml_L_28 : Cond.methodLink RL 28 yX11_seen ∈ BW := bw2 81 (by decide +kernel) rfl
theorem ml_X11_102 : Cond.methodLink RX11 102 yX7_take ∈ BW := bw2 85 (by decide +kernel) rfl
theorem ml_X7_42 : Cond.methodLink RX7 42 yX7_move ∈ BW := bw2 89 (by decide +kernel) rfl
theorem ml_X11_106 : Cond.methodLink RX11 106 yX10_putRight ∈ BW := bw2 93 (by decide +kernel) rfl
theorem ml_X10_43 : Cond.methodLink RX10 43 yX5_putRight ∈ BW := bw2 97 (by decide +kernel) rfl
theorem ml_X5_50 : Cond.methodLink RX5 50 yJ9_max_7cf53 ∈ BW := bw2 101 (by decide +kernel) rfl
theorem ml_L_32 : Cond.methodLink RL 32 yX11_off ∈ BW := bw2 104 (by decide +kernel) rfl
theorem ml_X11_109 : Cond.methodLink RX11 109 yX11_refuseBeyond ∈ BW := bw2 108 (by decide +kernel) rfl
theorem ct_X11_335 : Cond.constant RX11 335 1000000000 ∈ BW := bw2 112 (by decide +kernel) rfl
theorem ml_L_36 : Cond.methodLink RL 36 yX11_leg ∈ BW := bw2 113 (by decide +kernel) rfl
theorem ml_X11_115 : Cond.methodLink RX11 115 yX10_isFull ∈ BW := bw2 117 (by decide +kernel) rfl
theorem ml_X11_119 : Cond.methodLink RX11 119 yX10_add ∈ BW := bw2 121 (by decide +kernel) rfl
theorem ib_X5 : Cond.instantiable RX5 15 ∈ BW := bw2 125 (by decide +kernel) rfl
theorem ml_X10_36 : Cond.methodLink RX10 36 yX5_init ∈ BW := bw2 126 (by decide +kernel) rfl
theorem fl_X5_7 : Cond.fieldLink RX5 7 "LateClaims$Leg" "number" "I" ∈ BW := bw2 130 (by decide +kernel) rfl
theorem fl_X11_167 : Cond.fieldLink RX11 167 "LateClaims$Leg" "number" "I" ∈ BW := bw2 131 (by decide +kernel) rfl
theorem fl_X5_13 : Cond.fieldLink RX5 13 "LateClaims$Leg" "from" "LLateClaims$Port;" ∈ BW := bw2 132 (by decide +kernel) rfl
theorem fl_X8_35 : Cond.fieldLink RX8 35 "LateClaims$Leg" "from" "LLateClaims$Port;" ∈ BW := bw2 133 (by decide +kernel) rfl
theorem fl_X4_56 : Cond.fieldLink RX4 56 "LateClaims$Leg" "from" "LLateClaims$Port;" ∈ BW := bw2 134 (by decide +kernel) rfl
theorem fl_X10_56 : Cond.fieldLink RX10 56 "LateClaims$Leg" "from" "LLateClaims$Port;" ∈ BW := bw2 135 (by decide +kernel) rfl
theorem fl_X11_354 : Cond.fieldLink RX11 354 "LateClaims$Leg" "from" "LLateClaims$Port;" ∈ BW := bw2 136 (by decide +kernel) rfl
theorem fl_X5_17 : Cond.fieldLink RX5 17 "LateClaims$Leg" "to" "LLateClaims$Port;" ∈ BW := bw2 137 (by decide +kernel) rfl
theorem fl_X8_39 : Cond.fieldLink RX8 39 "LateClaims$Leg" "to" "LLateClaims$Port;" ∈ BW := bw2 138 (by decide +kernel) rfl
theorem fl_X4_74 : Cond.fieldLink RX4 74 "LateClaims$Leg" "to" "LLateClaims$Port;" ∈ BW := bw2 139 (by decide +kernel) rfl
theorem fl_X10_52 : Cond.fieldLink RX10 52 "LateClaims$Leg" "to" "LLateClaims$Port;" ∈ BW := bw2 140 (by decide +kernel) rfl
theorem fl_X11_358 : Cond.fieldLink RX11 358 "LateClaims$Leg" "to" "LLateClaims$Port;" ∈ BW := bw2 141 (by decide +kernel) rfl
theorem fl_X5_20 : Cond.fieldLink RX5 20 "LateClaims$Leg" "plane" "I" ∈ BW := bw2 142 (by decide +kernel) rfl
theorem fl_X10_49 : Cond.fieldLink RX10 49 "LateClaims$Leg" "plane" "I" ∈ BW := bw2 143 (by decide +kernel) rfl
theorem fl_X5_23 : Cond.fieldLink RX5 23 "LateClaims$Leg" "crew" "I" ∈ BW := bw2 144 (by decide +kernel) rfl
theorem fl_X10_46 : Cond.fieldLink RX10 46 "LateClaims$Leg" "crew" "I" ∈ BW := bw2 145 (by decide +kernel) rfl
theorem fl_X5_26 : Cond.fieldLink RX5 26 "LateClaims$Leg" "leave" "I" ∈ BW := bw2 146 (by decide +kernel) rfl
theorem fl_X8_42 : Cond.fieldLink RX8 42 "LateClaims$Leg" "leave" "I" ∈ BW := bw2 147 (by decide +kernel) rfl
theorem fl_X10_59 : Cond.fieldLink RX10 59 "LateClaims$Leg" "leave" "I" ∈ BW := bw2 148 (by decide +kernel) rfl
theorem fl_X11_177 : Cond.fieldLink RX11 177 "LateClaims$Leg" "leave" "I" ∈ BW := bw2 149 (by decide +kernel) rfl
theorem fl_X5_29 : Cond.fieldLink RX5 29 "LateClaims$Leg" "arrive" "I" ∈ BW := bw2 150 (by decide +kernel) rfl
theorem fl_X8_45 : Cond.fieldLink RX8 45 "LateClaims$Leg" "arrive" "I" ∈ BW := bw2 151 (by decide +kernel) rfl
theorem fl_X10_62 : Cond.fieldLink RX10 62 "LateClaims$Leg" "arrive" "I" ∈ BW := bw2 152 (by decide +kernel) rfl
theorem fl_X11_365 : Cond.fieldLink RX11 365 "LateClaims$Leg" "arrive" "I" ∈ BW := bw2 153 (by decide +kernel) rfl
theorem fl_X5_38 : Cond.fieldLink RX5 38 "LateClaims$Leg" "logged" "Z" ∈ BW := bw2 154 (by decide +kernel) rfl
theorem fl_X10_39 : Cond.fieldLink RX10 39 "LateClaims$Leg" "logged" "Z" ∈ BW := bw2 155 (by decide +kernel) rfl
theorem fl_X8_48 : Cond.fieldLink RX8 48 "LateClaims$Leg" "logged" "Z" ∈ BW := bw2 156 (by decide +kernel) rfl
theorem fl_X11_126 : Cond.fieldLink RX11 126 "LateClaims$Leg" "logged" "Z" ∈ BW := bw2 157 (by decide +kernel) rfl
theorem fl_X5_32 : Cond.fieldLink RX5 32 "LateClaims$Leg" "left" "I" ∈ BW := bw2 158 (by decide +kernel) rfl
theorem fl_X5_35 : Cond.fieldLink RX5 35 "LateClaims$Leg" "arrived" "I" ∈ BW := bw2 159 (by decide +kernel) rfl
theorem fl_X5_56 : Cond.fieldLink RX5 56 "LateClaims$Leg" "rightLeft" "I" ∈ BW := bw2 160 (by decide +kernel) rfl
theorem fl_X8_52 : Cond.fieldLink RX8 52 "LateClaims$Leg" "rightLeft" "I" ∈ BW := bw2 161 (by decide +kernel) rfl
theorem fl_X10_101 : Cond.fieldLink RX10 101 "LateClaims$Leg" "rightLeft" "I" ∈ BW := bw2 162 (by decide +kernel) rfl
theorem fl_X11_186 : Cond.fieldLink RX11 186 "LateClaims$Leg" "rightLeft" "I" ∈ BW := bw2 163 (by decide +kernel) rfl
theorem fl_X5_59 : Cond.fieldLink RX5 59 "LateClaims$Leg" "rightArrived" "I" ∈ BW := bw2 164 (by decide +kernel) rfl
theorem fl_X8_55 : Cond.fieldLink RX8 55 "LateClaims$Leg" "rightArrived" "I" ∈ BW := bw2 165 (by decide +kernel) rfl
theorem fl_X10_98 : Cond.fieldLink RX10 98 "LateClaims$Leg" "rightArrived" "I" ∈ BW := bw2 166 (by decide +kernel) rfl
theorem fl_X11_347 : Cond.fieldLink RX11 347 "LateClaims$Leg" "rightArrived" "I" ∈ BW := bw2 167 (by decide +kernel) rfl
theorem fl_X5_62 : Cond.fieldLink RX5 62 "LateClaims$Leg" "outlate" "I" ∈ BW := bw2 168 (by decide +kernel) rfl
theorem fl_X11_148 : Cond.fieldLink RX11 148 "LateClaims$Leg" "outlate" "I" ∈ BW := bw2 169 (by decide +kernel) rfl
theorem fl_X5_65 : Cond.fieldLink RX5 65 "LateClaims$Leg" "late" "I" ∈ BW := bw2 170 (by decide +kernel) rfl
theorem fl_X10_71 : Cond.fieldLink RX10 71 "LateClaims$Leg" "late" "I" ∈ BW := bw2 171 (by decide +kernel) rfl
theorem fl_X11_145 : Cond.fieldLink RX11 145 "LateClaims$Leg" "late" "I" ∈ BW := bw2 172 (by decide +kernel) rfl
theorem fl_X10_91 : Cond.fieldLink RX10 91 "LateClaims$Leg" "cause" "I" ∈ BW := bw2 173 (by decide +kernel) rfl
theorem fl_X11_136 : Cond.fieldLink RX11 136 "LateClaims$Leg" "cause" "I" ∈ BW := bw2 174 (by decide +kernel) rfl
theorem ml_L_41 : Cond.methodLink RL 41 yX11_log ∈ BW := bw2 206 (by decide +kernel) rfl
theorem ml_X11_123 : Cond.methodLink RX11 123 yX10_find ∈ BW := bw2 210 (by decide +kernel) rfl
theorem ml_X11_132 : Cond.methodLink RX11 132 yX5_enter ∈ BW := bw2 215 (by decide +kernel) rfl
theorem ml_X5_42 : Cond.methodLink RX5 42 yX5_putRight ∈ BW := bw2 219 (by decide +kernel) rfl
theorem ml_L_45 : Cond.methodLink RL 45 yX11_cause ∈ BW := bw2 220 (by decide +kernel) rfl
theorem ml_L_49 : Cond.methodLink RL 49 yX11_set ∈ BW := bw2 224 (by decide +kernel) rfl
theorem fl_X11_139 : Cond.fieldLink RX11 139 "LateClaims" "LEAST_SETTING" "[I" ∈ BW := bw2 228 (by decide +kernel) rfl
theorem fl_X11_142 : Cond.fieldLink RX11 142 "LateClaims" "GREATEST_SETTING" "[I" ∈ BW := bw2 230 (by decide +kernel) rfl
theorem ml_L_53 : Cond.methodLink RL 53 yX11_legOf ∈ BW := bw2 232 (by decide +kernel) rfl
theorem ml_X11_151 : Cond.methodLink RX11 151 yX11_waitOf ∈ BW := bw2 236 (by decide +kernel) rfl
theorem ml_X11_159 : Cond.methodLink RX11 159 yX11_gapFor ∈ BW := bw3 0 (by decide +kernel) rfl
theorem ml_X11_163 : Cond.methodLink RX11 163 yX10_aheadOf ∈ BW := bw3 4 (by decide +kernel) rfl
theorem ml_X11_336 : Cond.methodLink RX11 336 yX5_waitFor ∈ BW := bw3 8 (by decide +kernel) rfl
theorem ml_X5_68 : Cond.methodLink RX5 68 yJ9_min_7cf53 ∈ BW := bw3 12 (by decide +kernel) rfl
theorem ml_X11_155 : Cond.methodLink RX11 155 yX11_handedTo ∈ BW := bw3 15 (by decide +kernel) rfl
theorem ml_X11_180 : Cond.methodLink RX11 180 yJ9_max_7cf53 ∈ BW := bw3 19 (by decide +kernel) rfl
theorem ml_X11_340 : Cond.methodLink RX11 340 yJ9_min_7cf53 ∈ BW := bw3 20 (by decide +kernel) rfl
theorem ml_L_57 : Cond.methodLink RL 57 yX11_ahead ∈ BW := bw3 21 (by decide +kernel) rfl
theorem ml_L_62 : Cond.methodLink RL 62 yX11_minutes ∈ BW := bw3 25 (by decide +kernel) rfl
theorem ml_X11_170 : Cond.methodLink RX11 170 yX10_trace ∈ BW := bw3 29 (by decide +kernel) rfl
theorem ml_X10_65 : Cond.methodLink RX10 65 yJ7_fill_53178 ∈ BW := bw3 33 (by decide +kernel) rfl
theorem ml_X10_74 : Cond.methodLink RX10 74 yX10_aheadOf ∈ BW := bw3 34 (by decide +kernel) rfl
theorem ml_X10_78 : Cond.methodLink RX10 78 yX5_waitFor ∈ BW := bw3 35 (by decide +kernel) rfl
theorem ml_X10_82 : Cond.methodLink RX10 82 yJ9_max_7cf53 ∈ BW := bw3 36 (by decide +kernel) rfl
theorem ml_X10_88 : Cond.methodLink RX10 88 yJ9_min_7cf53 ∈ BW := bw3 37 (by decide +kernel) rfl
theorem ml_L_66 : Cond.methodLink RL 66 yX11_saved ∈ BW := bw3 38 (by decide +kernel) rfl
theorem ml_L_70 : Cond.methodLink RL 70 yX11_traveller ∈ BW := bw3 42 (by decide +kernel) rfl
theorem ml_X11_189 : Cond.methodLink RX11 189 yX9_isFull ∈ BW := bw3 46 (by decide +kernel) rfl
theorem ml_X11_190 : Cond.methodLink RX11 190 yX9_add ∈ BW := bw3 50 (by decide +kernel) rfl
theorem ib_X8 : Cond.instantiable RX8 7 ∈ BW := bw3 54 (by decide +kernel) rfl
theorem ml_X9_25 : Cond.methodLink RX9 25 yX8_init ∈ BW := bw3 55 (by decide +kernel) rfl
theorem kl_X8_22 : Cond.classLink RX8 22 "LateClaims$Leg" ∈ BW := bw3 59 (by decide +kernel) rfl
theorem fl_X8_9 : Cond.fieldLink RX8 9 "LateClaims$Ticket" "number" "I" ∈ BW := bw3 60 (by decide +kernel) rfl
theorem fl_X11_270 : Cond.fieldLink RX11 270 "LateClaims$Ticket" "number" "I" ∈ BW := bw3 61 (by decide +kernel) rfl
theorem fl_X8_15 : Cond.fieldLink RX8 15 "LateClaims$Ticket" "first" "LLateClaims$Leg;" ∈ BW := bw3 62 (by decide +kernel) rfl
theorem fl_X4_50 : Cond.fieldLink RX4 50 "LateClaims$Ticket" "first" "LLateClaims$Leg;" ∈ BW := bw3 63 (by decide +kernel) rfl
theorem fl_X11_381 : Cond.fieldLink RX11 381 "LateClaims$Ticket" "first" "LLateClaims$Leg;" ∈ BW := bw3 64 (by decide +kernel) rfl
theorem fl_X8_19 : Cond.fieldLink RX8 19 "LateClaims$Ticket" "last" "LLateClaims$Leg;" ∈ BW := bw3 65 (by decide +kernel) rfl
theorem fl_X4_71 : Cond.fieldLink RX4 71 "LateClaims$Ticket" "last" "LLateClaims$Leg;" ∈ BW := bw3 66 (by decide +kernel) rfl
theorem fl_X11_343 : Cond.fieldLink RX11 343 "LateClaims$Ticket" "last" "LLateClaims$Leg;" ∈ BW := bw3 67 (by decide +kernel) rfl
theorem fl_X8_24 : Cond.fieldLink RX8 24 "LateClaims$Ticket" "legs" "[LLateClaims$Leg;" ∈ BW := bw3 68 (by decide +kernel) rfl
theorem fl_X11_350 : Cond.fieldLink RX11 350 "LateClaims$Ticket" "legs" "[LLateClaims$Leg;" ∈ BW := bw3 69 (by decide +kernel) rfl
theorem fl_X8_28 : Cond.fieldLink RX8 28 "LateClaims$Ticket" "size" "I" ∈ BW := bw3 70 (by decide +kernel) rfl
theorem fl_X11_205 : Cond.fieldLink RX11 205 "LateClaims$Ticket" "size" "I" ∈ BW := bw3 71 (by decide +kernel) rfl
theorem fl_X8_31 : Cond.fieldLink RX8 31 "LateClaims$Ticket" "owed" "[I" ∈ BW := bw3 72 (by decide +kernel) rfl
theorem fl_X2_23 : Cond.fieldLink RX2 23 "LateClaims$Ticket" "owed" "[I" ∈ BW := bw3 73 (by decide +kernel) rfl
theorem fl_X11_285 : Cond.fieldLink RX11 285 "LateClaims$Ticket" "owed" "[I" ∈ BW := bw3 74 (by decide +kernel) rfl
theorem fl_X3_35 : Cond.fieldLink RX3 35 "LateClaims$Ticket" "claimed" "Z" ∈ BW := bw3 75 (by decide +kernel) rfl
theorem fl_X11_255 : Cond.fieldLink RX11 255 "LateClaims$Ticket" "claimed" "Z" ∈ BW := bw3 76 (by decide +kernel) rfl
theorem ml_L_74 : Cond.methodLink RL 74 yX11_then ∈ BW := bw3 92 (by decide +kernel) rfl
theorem ml_X11_192 : Cond.methodLink RX11 192 yX9_find ∈ BW := bw3 96 (by decide +kernel) rfl
theorem ml_X11_195 : Cond.methodLink RX11 195 yX8_isFollowedBy ∈ BW := bw3 101 (by decide +kernel) rfl
theorem ml_X11_201 : Cond.methodLink RX11 201 yX8_isFull ∈ BW := bw3 105 (by decide +kernel) rfl
theorem ml_X11_202 : Cond.methodLink RX11 202 yX8_add ∈ BW := bw3 109 (by decide +kernel) rfl
theorem ml_L_78 : Cond.methodLink RL 78 yX11_missed ∈ BW := bw3 113 (by decide +kernel) rfl
theorem ml_X11_208 : Cond.methodLink RX11 208 yX8_missedPlace ∈ BW := bw3 117 (by decide +kernel) rfl
theorem ml_L_82 : Cond.methodLink RL 82 yX11_soonest ∈ BW := bw3 121 (by decide +kernel) rfl
theorem ml_X11_211 : Cond.methodLink RX11 211 yX11_soonestOf ∈ BW := bw3 125 (by decide +kernel) rfl
theorem ml_X11_361 : Cond.methodLink RX11 361 yX10_soonestBy ∈ BW := bw3 129 (by decide +kernel) rfl
theorem ml_X10_94 : Cond.methodLink RX10 94 yX10_reach ∈ BW := bw3 133 (by decide +kernel) rfl
theorem ml_L_86 : Cond.methodLink RL 86 yX11_hours ∈ BW := bw3 137 (by decide +kernel) rfl
theorem ml_X11_215 : Cond.methodLink RX11 215 yX11_hoursOf ∈ BW := bw3 141 (by decide +kernel) rfl
theorem ml_L_90 : Cond.methodLink RL 90 yX11_blame ∈ BW := bw3 145 (by decide +kernel) rfl
theorem ml_X11_218 : Cond.methodLink RX11 218 yX11_blameOf ∈ BW := bw3 149 (by decide +kernel) rfl
theorem ml_X11_368 : Cond.methodLink RX11 368 yX8_legAtFault ∈ BW := bw3 153 (by decide +kernel) rfl
theorem ml_X8_58 : Cond.methodLink RX8 58 yX8_missedPlace ∈ BW := bw3 157 (by decide +kernel) rfl
theorem ml_X11_371 : Cond.methodLink RX11 371 yX10_greatestCause ∈ BW := bw3 158 (by decide +kernel) rfl
theorem ml_L_94 : Cond.methodLink RL 94 yX11_law ∈ BW := bw3 162 (by decide +kernel) rfl
theorem ml_X11_221 : Cond.methodLink RX11 221 yX4_isFull ∈ BW := bw3 166 (by decide +kernel) rfl
theorem ml_X11_222 : Cond.methodLink RX11 222 yX4_add ∈ BW := bw3 170 (by decide +kernel) rfl
theorem ml_L_99 : Cond.methodLink RL 99 yX11_excuse ∈ BW := bw3 174 (by decide +kernel) rfl
theorem ml_X11_225 : Cond.methodLink RX11 225 yX4_isFullOfExcuses ∈ BW := bw3 178 (by decide +kernel) rfl
theorem ml_X11_228 : Cond.methodLink RX11 228 yX4_addExcuse ∈ BW := bw3 182 (by decide +kernel) rfl
theorem ml_L_104 : Cond.methodLink RL 104 yX11_sum ∈ BW := bw3 186 (by decide +kernel) rfl
theorem ml_X11_232 : Cond.methodLink RX11 232 yX11_sumFor ∈ BW := bw3 190 (by decide +kernel) rfl
theorem ml_X11_236 : Cond.methodLink RX11 236 yX4_landFor ∈ BW := bw3 194 (by decide +kernel) rfl
theorem ml_X4_67 : Cond.methodLink RX4 67 yX4_hasRows ∈ BW := bw3 198 (by decide +kernel) rfl
theorem ml_X4_77 : Cond.methodLink RX4 77 yX4_isInForce ∈ BW := bw3 202 (by decide +kernel) rfl
theorem ml_X11_239 : Cond.methodLink RX11 239 yX8_leaveDay ∈ BW := bw3 206 (by decide +kernel) rfl
theorem ml_X11_243 : Cond.methodLink RX11 243 yX4_isExcused ∈ BW := bw3 210 (by decide +kernel) rfl
theorem ml_X11_374 : Cond.methodLink RX11 374 yX11_milesOf ∈ BW := bw3 214 (by decide +kernel) rfl
theorem ml_X11_377 : Cond.methodLink RX11 377 yX4_greatestSum ∈ BW := bw3 218 (by decide +kernel) rfl
theorem ml_L_108 : Cond.methodLink RL 108 yX11_bar ∈ BW := bw3 222 (by decide +kernel) rfl
theorem ml_L_112 : Cond.methodLink RL 112 yX11_stop ∈ BW := bw3 226 (by decide +kernel) rfl
theorem ml_X11_250 : Cond.methodLink RX11 250 yX0_isFull ∈ BW := bw3 230 (by decide +kernel) rfl
theorem ml_X11_251 : Cond.methodLink RX11 251 yX0_addStop ∈ BW := bw3 234 (by decide +kernel) rfl
theorem ml_L_116 : Cond.methodLink RL 116 yX11_claim ∈ BW := bw3 238 (by decide +kernel) rfl
theorem ml_X11_258 : Cond.methodLink RX11 258 yX3_isFull ∈ BW := bw4 2 (by decide +kernel) rfl
theorem ml_X11_259 : Cond.methodLink RX11 259 yX3_add ∈ BW := bw4 6 (by decide +kernel) rfl
theorem ib_X2 : Cond.instantiable RX2 4 ∈ BW := bw4 10 (by decide +kernel) rfl
theorem ml_X3_32 : Cond.methodLink RX3 32 yX2_init ∈ BW := bw4 11 (by decide +kernel) rfl
theorem fl_X2_9 : Cond.fieldLink RX2 9 "LateClaims$Claim" "ticket" "LLateClaims$Ticket;" ∈ BW := bw4 15 (by decide +kernel) rfl
theorem fl_X11_264 : Cond.fieldLink RX11 264 "LateClaims$Claim" "ticket" "LLateClaims$Ticket;" ∈ BW := bw4 16 (by decide +kernel) rfl
theorem fl_X2_15 : Cond.fieldLink RX2 15 "LateClaims$Claim" "day" "I" ∈ BW := bw4 17 (by decide +kernel) rfl
theorem fl_X11_271 : Cond.fieldLink RX11 271 "LateClaims$Claim" "day" "I" ∈ BW := bw4 18 (by decide +kernel) rfl
theorem fl_X2_19 : Cond.fieldLink RX2 19 "LateClaims$Claim" "paid" "[I" ∈ BW := bw4 19 (by decide +kernel) rfl
theorem fl_X3_41 : Cond.fieldLink RX3 41 "LateClaims$Claim" "paid" "[I" ∈ BW := bw4 20 (by decide +kernel) rfl
theorem fl_X11_289 : Cond.fieldLink RX11 289 "LateClaims$Claim" "paid" "[I" ∈ BW := bw4 21 (by decide +kernel) rfl
theorem fl_X11_282 : Cond.fieldLink RX11 282 "LateClaims$Claim" "settled" "I" ∈ BW := bw4 22 (by decide +kernel) rfl
theorem ml_L_120 : Cond.methodLink RL 120 yX11_claimOf ∈ BW := bw4 32 (by decide +kernel) rfl
theorem ml_X11_261 : Cond.methodLink RX11 261 yX3_find ∈ BW := bw4 36 (by decide +kernel) rfl
theorem ml_X11_274 : Cond.methodLink RX11 274 yX11_isBarred ∈ BW := bw4 41 (by decide +kernel) rfl
theorem ml_X11_384 : Cond.methodLink RX11 384 yX8_arriveDay ∈ BW := bw4 45 (by decide +kernel) rfl
theorem ml_X11_387 : Cond.methodLink RX11 387 yX0_daysThatRan ∈ BW := bw4 49 (by decide +kernel) rfl
theorem ml_X0_34 : Cond.methodLink RX0 34 yX0_nextStop ∈ BW := bw4 53 (by decide +kernel) rfl
theorem ml_X0_38 : Cond.methodLink RX0 38 yJ9_min_7cf53 ∈ BW := bw4 57 (by decide +kernel) rfl
theorem ml_X0_43 : Cond.methodLink RX0 43 yJ9_max_7cf53 ∈ BW := bw4 58 (by decide +kernel) rfl
theorem ml_X11_278 : Cond.methodLink RX11 278 yX11_worthOf ∈ BW := bw4 59 (by decide +kernel) rfl
theorem ml_L_124 : Cond.methodLink RL 124 yX11_owes ∈ BW := bw4 63 (by decide +kernel) rfl
theorem ml_L_128 : Cond.methodLink RL 128 yX11_pay ∈ BW := bw4 67 (by decide +kernel) rfl
theorem ct_X11_288 : Cond.constant RX11 288 99999 ∈ BW := bw4 71 (by decide +kernel) rfl
theorem ml_L_132 : Cond.methodLink RL 132 yX11_due ∈ BW := bw4 72 (by decide +kernel) rfl
theorem ml_X11_292 : Cond.methodLink RX11 292 yX2_partOf ∈ BW := bw4 76 (by decide +kernel) rfl
theorem ml_X2_28 : Cond.methodLink RX2 28 yJ9_min_7cf53 ∈ BW := bw4 80 (by decide +kernel) rfl
theorem ml_L_136 : Cond.methodLink RL 136 yX11_balance ∈ BW := bw4 81 (by decide +kernel) rfl
theorem ml_X11_295 : Cond.methodLink RX11 295 yX11_settleUp ∈ BW := bw4 85 (by decide +kernel) rfl
theorem ml_X11_394 : Cond.methodLink RX11 394 yJ7_fill_53178 ∈ BW := bw4 89 (by decide +kernel) rfl
theorem ml_X11_400 : Cond.methodLink RX11 400 yX3_addToBalances ∈ BW := bw4 90 (by decide +kernel) rfl
theorem ml_X3_44 : Cond.methodLink RX3 44 yX2_partOf ∈ BW := bw4 94 (by decide +kernel) rfl
theorem ml_L_140 : Cond.methodLink RL 140 yX11_back ∈ BW := bw4 95 (by decide +kernel) rfl
theorem ml_X11_301 : Cond.methodLink RX11 301 yX3_fewestPayments ∈ BW := bw4 99 (by decide +kernel) rfl
theorem ml_X3_48 : Cond.methodLink RX3 48 yX3_togetherIn ∈ BW := bw4 103 (by decide +kernel) rfl
theorem ml_X3_52 : Cond.methodLink RX3 52 yJ9_max_7cf53 ∈ BW := bw4 107 (by decide +kernel) rfl
theorem ml_L_145 : Cond.methodLink RL 145 yX11_judged ∈ BW := bw4 108 (by decide +kernel) rfl
theorem ml_X11_304 : Cond.methodLink RX11 304 yX1_isFull ∈ BW := bw4 112 (by decide +kernel) rfl
theorem ml_X11_305 : Cond.methodLink RX11 305 yX1_add ∈ BW := bw4 116 (by decide +kernel) rfl
theorem ml_L_150 : Cond.methodLink RL 150 yX11_odds ∈ BW := bw4 120 (by decide +kernel) rfl
theorem ml_X11_308 : Cond.methodLink RX11 308 yX11_chooseLike ∈ BW := bw4 124 (by decide +kernel) rfl
theorem ml_X11_404 : Cond.methodLink RX11 404 yX1_measure ∈ BW := bw4 128 (by decide +kernel) rfl
theorem ml_X1_38 : Cond.methodLink RX1 38 yJ9_abs_0f7a4 ∈ BW := bw4 132 (by decide +kernel) rfl
theorem ml_X11_408 : Cond.methodLink RX11 408 yX1_choose ∈ BW := bw4 135 (by decide +kernel) rfl
theorem ml_X1_53 : Cond.methodLink RX1 53 yX1_leastFar ∈ BW := bw4 139 (by decide +kernel) rfl
theorem ml_X11_318 : Cond.methodLink RX11 318 yX1_goingOnTimesChosen ∈ BW := bw4 143 (by decide +kernel) rfl
theorem ml_L_154 : Cond.methodLink RL 154 yX11_good ∈ BW := bw4 147 (by decide +kernel) rfl
theorem ml_L_158 : Cond.methodLink RL 158 yX11_count ∈ BW := bw4 151 (by decide +kernel) rfl
theorem ml_X11_322 : Cond.methodLink RX11 322 yX10_countLogged ∈ BW := bw4 155 (by decide +kernel) rfl
theorem ml_X11_328 : Cond.methodLink RX11 328 yX11_countBarred ∈ BW := bw4 159 (by decide +kernel) rfl
theorem kl_L_10 : Cond.classLink RL 10 "LateClaimsModel" ∈ BW := bw4 163 (by decide +kernel) rfl
theorem ib_X12 : Cond.instantiable RX12 60 ∈ BW := bw4 164 (by decide +kernel) rfl
theorem ml_L_12 : Cond.methodLink RL 12 yX12_init ∈ BW := bw4 165 (by decide +kernel) rfl
theorem fl_X12_168 : Cond.fieldLink RX12 168 "LateClaimsModel" "day" "I" ∈ BW := bw4 169 (by decide +kernel) rfl
theorem fl_X12_7 : Cond.fieldLink RX12 7 "LateClaimsModel" "land" "[I" ∈ BW := bw4 170 (by decide +kernel) rfl
theorem fl_X12_13 : Cond.fieldLink RX12 13 "LateClaimsModel" "miles" "[I" ∈ BW := bw4 171 (by decide +kernel) rfl
theorem fl_X12_16 : Cond.fieldLink RX12 16 "LateClaimsModel" "least" "[I" ∈ BW := bw4 172 (by decide +kernel) rfl
theorem fl_X12_19 : Cond.fieldLink RX12 19 "LateClaimsModel" "off" "[I" ∈ BW := bw4 173 (by decide +kernel) rfl
theorem fl_X12_175 : Cond.fieldLink RX12 175 "LateClaimsModel" "quarrels" "I" ∈ BW := bw4 174 (by decide +kernel) rfl
theorem fl_X12_160 : Cond.fieldLink RX12 160 "LateClaimsModel" "legs" "I" ∈ BW := bw4 175 (by decide +kernel) rfl
theorem fl_X12_22 : Cond.fieldLink RX12 22 "LateClaimsModel" "from" "[I" ∈ BW := bw4 176 (by decide +kernel) rfl
theorem fl_X12_25 : Cond.fieldLink RX12 25 "LateClaimsModel" "to" "[I" ∈ BW := bw4 177 (by decide +kernel) rfl
theorem fl_X12_28 : Cond.fieldLink RX12 28 "LateClaimsModel" "plane" "[I" ∈ BW := bw4 178 (by decide +kernel) rfl
theorem fl_X12_31 : Cond.fieldLink RX12 31 "LateClaimsModel" "crew" "[I" ∈ BW := bw4 179 (by decide +kernel) rfl
theorem fl_X12_34 : Cond.fieldLink RX12 34 "LateClaimsModel" "leave" "[I" ∈ BW := bw4 180 (by decide +kernel) rfl
theorem fl_X12_37 : Cond.fieldLink RX12 37 "LateClaimsModel" "arrive" "[I" ∈ BW := bw4 181 (by decide +kernel) rfl
theorem fl_X12_40 : Cond.fieldLink RX12 40 "LateClaimsModel" "isDone" "[Z" ∈ BW := bw4 182 (by decide +kernel) rfl
theorem fl_X12_44 : Cond.fieldLink RX12 44 "LateClaimsModel" "left" "[I" ∈ BW := bw4 183 (by decide +kernel) rfl
theorem fl_X12_47 : Cond.fieldLink RX12 47 "LateClaimsModel" "arrived" "[I" ∈ BW := bw4 184 (by decide +kernel) rfl
theorem fl_X12_50 : Cond.fieldLink RX12 50 "LateClaimsModel" "causeOf" "[I" ∈ BW := bw4 185 (by decide +kernel) rfl
theorem fl_X12_53 : Cond.fieldLink RX12 53 "LateClaimsModel" "settings" "[I" ∈ BW := bw4 186 (by decide +kernel) rfl
theorem fl_X12_56 : Cond.fieldLink RX12 56 "LateClaimsModel" "refused" "[I" ∈ BW := bw4 187 (by decide +kernel) rfl
theorem fl_X12_59 : Cond.fieldLink RX12 59 "LateClaimsModel" "byCause" "[I" ∈ BW := bw4 188 (by decide +kernel) rfl
theorem fl_X12_223 : Cond.fieldLink RX12 223 "LateClaimsModel" "travellers" "I" ∈ BW := bw4 189 (by decide +kernel) rfl
theorem fl_X12_62 : Cond.fieldLink RX12 62 "LateClaimsModel" "rows" "[I" ∈ BW := bw4 190 (by decide +kernel) rfl
theorem fl_X12_65 : Cond.fieldLink RX12 65 "LateClaimsModel" "rowMany" "[I" ∈ BW := bw4 191 (by decide +kernel) rfl
theorem fl_X12_68 : Cond.fieldLink RX12 68 "LateClaimsModel" "isReached" "[Z" ∈ BW := bw4 192 (by decide +kernel) rfl
theorem fl_X12_247 : Cond.fieldLink RX12 247 "LateClaimsModel" "laws" "I" ∈ BW := bw4 193 (by decide +kernel) rfl
theorem fl_X12_71 : Cond.fieldLink RX12 71 "LateClaimsModel" "lawLand" "[I" ∈ BW := bw4 194 (by decide +kernel) rfl
theorem fl_X12_74 : Cond.fieldLink RX12 74 "LateClaimsModel" "lawDay" "[I" ∈ BW := bw4 195 (by decide +kernel) rfl
theorem fl_X12_77 : Cond.fieldLink RX12 77 "LateClaimsModel" "lawMinutes" "[I" ∈ BW := bw4 196 (by decide +kernel) rfl
theorem fl_X12_80 : Cond.fieldLink RX12 80 "LateClaimsModel" "lawMiles" "[I" ∈ BW := bw4 197 (by decide +kernel) rfl
theorem fl_X12_83 : Cond.fieldLink RX12 83 "LateClaimsModel" "lawSum" "[I" ∈ BW := bw4 198 (by decide +kernel) rfl
theorem fl_X12_250 : Cond.fieldLink RX12 250 "LateClaimsModel" "excuses" "I" ∈ BW := bw4 199 (by decide +kernel) rfl
theorem fl_X12_86 : Cond.fieldLink RX12 86 "LateClaimsModel" "excuseLand" "[I" ∈ BW := bw4 200 (by decide +kernel) rfl
theorem fl_X12_89 : Cond.fieldLink RX12 89 "LateClaimsModel" "excuseCause" "[I" ∈ BW := bw4 201 (by decide +kernel) rfl
theorem fl_X12_92 : Cond.fieldLink RX12 92 "LateClaimsModel" "excuseDay" "[I" ∈ BW := bw4 202 (by decide +kernel) rfl
theorem fl_X12_95 : Cond.fieldLink RX12 95 "LateClaimsModel" "excuseTold" "[I" ∈ BW := bw4 203 (by decide +kernel) rfl
theorem fl_X12_98 : Cond.fieldLink RX12 98 "LateClaimsModel" "isExcuse" "[Z" ∈ BW := bw4 204 (by decide +kernel) rfl
theorem fl_X12_101 : Cond.fieldLink RX12 101 "LateClaimsModel" "bars" "[I" ∈ BW := bw4 205 (by decide +kernel) rfl
theorem fl_X12_272 : Cond.fieldLink RX12 272 "LateClaimsModel" "stops" "I" ∈ BW := bw4 206 (by decide +kernel) rfl
theorem fl_X12_104 : Cond.fieldLink RX12 104 "LateClaimsModel" "stopLand" "[I" ∈ BW := bw4 207 (by decide +kernel) rfl
theorem fl_X12_107 : Cond.fieldLink RX12 107 "LateClaimsModel" "stopFrom" "[I" ∈ BW := bw4 208 (by decide +kernel) rfl
theorem fl_X12_110 : Cond.fieldLink RX12 110 "LateClaimsModel" "stopTo" "[I" ∈ BW := bw4 209 (by decide +kernel) rfl
theorem fl_X12_275 : Cond.fieldLink RX12 275 "LateClaimsModel" "claims" "I" ∈ BW := bw4 210 (by decide +kernel) rfl
theorem fl_X12_113 : Cond.fieldLink RX12 113 "LateClaimsModel" "claimOwner" "[I" ∈ BW := bw4 211 (by decide +kernel) rfl
theorem fl_X12_116 : Cond.fieldLink RX12 116 "LateClaimsModel" "claimDay" "[I" ∈ BW := bw4 212 (by decide +kernel) rfl
theorem fl_X12_119 : Cond.fieldLink RX12 119 "LateClaimsModel" "owed" "[I" ∈ BW := bw4 213 (by decide +kernel) rfl
theorem fl_X12_122 : Cond.fieldLink RX12 122 "LateClaimsModel" "paid" "[I" ∈ BW := bw4 214 (by decide +kernel) rfl
theorem fl_X12_125 : Cond.fieldLink RX12 125 "LateClaimsModel" "sumOfSet" "[I" ∈ BW := bw4 215 (by decide +kernel) rfl
theorem fl_X12_128 : Cond.fieldLink RX12 128 "LateClaimsModel" "partsOf" "[I" ∈ BW := bw4 216 (by decide +kernel) rfl
theorem fl_X12_300 : Cond.fieldLink RX12 300 "LateClaimsModel" "cases" "I" ∈ BW := bw4 217 (by decide +kernel) rfl
theorem fl_X12_131 : Cond.fieldLink RX12 131 "LateClaimsModel" "caseLand" "[I" ∈ BW := bw4 218 (by decide +kernel) rfl
theorem fl_X12_134 : Cond.fieldLink RX12 134 "LateClaimsModel" "caseCause" "[I" ∈ BW := bw4 219 (by decide +kernel) rfl
theorem fl_X12_137 : Cond.fieldLink RX12 137 "LateClaimsModel" "caseMinutes" "[I" ∈ BW := bw4 220 (by decide +kernel) rfl
theorem fl_X12_140 : Cond.fieldLink RX12 140 "LateClaimsModel" "caseMiles" "[I" ∈ BW := bw4 221 (by decide +kernel) rfl
theorem fl_X12_143 : Cond.fieldLink RX12 143 "LateClaimsModel" "isWon" "[Z" ∈ BW := bw4 222 (by decide +kernel) rfl
theorem fl_X12_146 : Cond.fieldLink RX12 146 "LateClaimsModel" "caseCost" "[I" ∈ BW := bw4 223 (by decide +kernel) rfl
theorem fl_X12_306 : Cond.fieldLink RX12 306 "LateClaimsModel" "likeMany" "I" ∈ BW := bw4 224 (by decide +kernel) rfl
theorem fl_X12_309 : Cond.fieldLink RX12 309 "LateClaimsModel" "likeWon" "I" ∈ BW := bw4 225 (by decide +kernel) rfl
theorem fl_X12_312 : Cond.fieldLink RX12 312 "LateClaimsModel" "likeCost" "I" ∈ BW := bw4 226 (by decide +kernel) rfl
theorem fl_X12_149 : Cond.fieldLink RX12 149 "LateClaimsModel" "like" "[I" ∈ BW := bw4 227 (by decide +kernel) rfl
theorem fl_X12_152 : Cond.fieldLink RX12 152 "LateClaimsModel" "likeFar" "[I" ∈ BW := bw4 228 (by decide +kernel) rfl
theorem ml_L_17 : Cond.methodLink RL 17 yX12_days ∈ BW := bw5 110 (by decide +kernel) rfl
theorem ml_X12_164 : Cond.methodLink RX12 164 yX12_refuse ∈ BW := bw5 114 (by decide +kernel) rfl
theorem ml_L_22 : Cond.methodLink RL 22 yX12_land ∈ BW := bw5 118 (by decide +kernel) rfl
theorem ml_X12_171 : Cond.methodLink RX12 171 yX12_isPort ∈ BW := bw5 122 (by decide +kernel) rfl
theorem ml_X12_156 : Cond.methodLink RX12 156 yX12_in ∈ BW := bw5 125 (by decide +kernel) rfl
theorem ml_L_27 : Cond.methodLink RL 27 yX12_miles ∈ BW := bw5 128 (by decide +kernel) rfl
theorem ml_L_31 : Cond.methodLink RL 31 yX12_seen ∈ BW := bw5 132 (by decide +kernel) rfl
theorem ml_L_35 : Cond.methodLink RL 35 yX12_off ∈ BW := bw5 136 (by decide +kernel) rfl
theorem ml_X12_178 : Cond.methodLink RX12 178 yX12_refuseFar ∈ BW := bw5 140 (by decide +kernel) rfl
theorem ct_X12_155 : Cond.constant RX12 155 1000000000 ∈ BW := bw5 144 (by decide +kernel) rfl
theorem ml_L_40 : Cond.methodLink RL 40 yX12_leg ∈ BW := bw5 145 (by decide +kernel) rfl
theorem ml_L_44 : Cond.methodLink RL 44 yX12_log ∈ BW := bw5 149 (by decide +kernel) rfl
theorem ml_X12_181 : Cond.methodLink RX12 181 yX12_isLeg ∈ BW := bw5 153 (by decide +kernel) rfl
theorem ml_L_48 : Cond.methodLink RL 48 yX12_cause ∈ BW := bw5 157 (by decide +kernel) rfl
theorem ml_X12_184 : Cond.methodLink RX12 184 yX12_isCause ∈ BW := bw5 161 (by decide +kernel) rfl
theorem ml_L_52 : Cond.methodLink RL 52 yX12_set ∈ BW := bw5 164 (by decide +kernel) rfl
theorem ml_L_56 : Cond.methodLink RL 56 yX12_legOf ∈ BW := bw5 168 (by decide +kernel) rfl
theorem ml_X12_210 : Cond.methodLink RX12 210 yX12_lateOf ∈ BW := bw5 172 (by decide +kernel) rfl
theorem ml_X12_190 : Cond.methodLink RX12 190 yX12_rightArrive ∈ BW := bw5 176 (by decide +kernel) rfl
theorem ml_X12_187 : Cond.methodLink RX12 187 yX12_over ∈ BW := bw5 180 (by decide +kernel) rfl
theorem ml_X12_200 : Cond.methodLink RX12 200 yX12_outlateOf ∈ BW := bw5 183 (by decide +kernel) rfl
theorem ml_X12_193 : Cond.methodLink RX12 193 yX12_rightLeave ∈ BW := bw5 187 (by decide +kernel) rfl
theorem ml_X12_207 : Cond.methodLink RX12 207 yX12_waitOf ∈ BW := bw5 191 (by decide +kernel) rfl
theorem ml_X12_196 : Cond.methodLink RX12 196 yX12_aheadOf ∈ BW := bw5 195 (by decide +kernel) rfl
theorem ml_X12_203 : Cond.methodLink RX12 203 yX12_lesser ∈ BW := bw5 199 (by decide +kernel) rfl
theorem ml_X12_216 : Cond.methodLink RX12 216 yX12_handedOf ∈ BW := bw5 202 (by decide +kernel) rfl
theorem ml_X12_213 : Cond.methodLink RX12 213 yX12_isByCrew ∈ BW := bw5 206 (by decide +kernel) rfl
theorem ml_L_61 : Cond.methodLink RL 61 yX12_ahead ∈ BW := bw5 210 (by decide +kernel) rfl
theorem ml_L_65 : Cond.methodLink RL 65 yX12_minutes ∈ BW := bw5 214 (by decide +kernel) rfl
theorem ml_X12_219 : Cond.methodLink RX12 219 yX12_findMinutes ∈ BW := bw5 218 (by decide +kernel) rfl
theorem ml_L_69 : Cond.methodLink RL 69 yX12_saved ∈ BW := bw5 222 (by decide +kernel) rfl
theorem ml_L_73 : Cond.methodLink RL 73 yX12_traveller ∈ BW := bw5 226 (by decide +kernel) rfl
theorem ml_L_77 : Cond.methodLink RL 77 yX12_then ∈ BW := bw5 230 (by decide +kernel) rfl
theorem ml_X12_226 : Cond.methodLink RX12 226 yX12_isTraveller ∈ BW := bw5 234 (by decide +kernel) rfl
theorem ml_L_81 : Cond.methodLink RL 81 yX12_missed ∈ BW := bw5 238 (by decide +kernel) rfl
theorem ml_X12_229 : Cond.methodLink RX12 229 yX12_missedOf ∈ BW := bw6 2 (by decide +kernel) rfl
theorem ml_L_85 : Cond.methodLink RL 85 yX12_soonest ∈ BW := bw6 6 (by decide +kernel) rfl
theorem ml_X12_235 : Cond.methodLink RX12 235 yX12_soonestOf ∈ BW := bw6 10 (by decide +kernel) rfl
theorem ml_X12_232 : Cond.methodLink RX12 232 yX12_lastLeg ∈ BW := bw6 14 (by decide +kernel) rfl
theorem ml_L_89 : Cond.methodLink RL 89 yX12_hours ∈ BW := bw6 18 (by decide +kernel) rfl
theorem ml_X12_238 : Cond.methodLink RX12 238 yX12_hoursOf ∈ BW := bw6 22 (by decide +kernel) rfl
theorem ml_L_93 : Cond.methodLink RL 93 yX12_blame ∈ BW := bw6 26 (by decide +kernel) rfl
theorem ml_X12_241 : Cond.methodLink RX12 241 yX12_blameOf ∈ BW := bw6 30 (by decide +kernel) rfl
theorem ml_L_98 : Cond.methodLink RL 98 yX12_law ∈ BW := bw6 34 (by decide +kernel) rfl
theorem ml_X12_244 : Cond.methodLink RX12 244 yX12_isLand ∈ BW := bw6 38 (by decide +kernel) rfl
theorem ml_L_103 : Cond.methodLink RL 103 yX12_excuse ∈ BW := bw6 41 (by decide +kernel) rfl
theorem ml_L_107 : Cond.methodLink RL 107 yX12_sum ∈ BW := bw6 45 (by decide +kernel) rfl
theorem ml_X12_269 : Cond.methodLink RX12 269 yX12_sumOf ∈ BW := bw6 49 (by decide +kernel) rfl
theorem ml_X12_260 : Cond.methodLink RX12 260 yX12_lawOf ∈ BW := bw6 53 (by decide +kernel) rfl
theorem ml_X12_253 : Cond.methodLink RX12 253 yX12_firstLeg ∈ BW := bw6 57 (by decide +kernel) rfl
theorem ml_X12_256 : Cond.methodLink RX12 256 yX12_hasLaw ∈ BW := bw6 61 (by decide +kernel) rfl
theorem ml_X12_263 : Cond.methodLink RX12 263 yX12_isExcused ∈ BW := bw6 65 (by decide +kernel) rfl
theorem ml_X12_266 : Cond.methodLink RX12 266 yX12_milesOf ∈ BW := bw6 69 (by decide +kernel) rfl
theorem ml_L_111 : Cond.methodLink RL 111 yX12_bar ∈ BW := bw6 73 (by decide +kernel) rfl
theorem ml_L_115 : Cond.methodLink RL 115 yX12_stop ∈ BW := bw6 77 (by decide +kernel) rfl
theorem ml_L_119 : Cond.methodLink RL 119 yX12_claim ∈ BW := bw6 81 (by decide +kernel) rfl
theorem ml_L_123 : Cond.methodLink RL 123 yX12_claimOf ∈ BW := bw6 85 (by decide +kernel) rfl
theorem ml_X12_281 : Cond.methodLink RX12 281 yX12_isClaim ∈ BW := bw6 89 (by decide +kernel) rfl
theorem ml_X12_278 : Cond.methodLink RX12 278 yX12_isBarred ∈ BW := bw6 93 (by decide +kernel) rfl
theorem ml_X12_284 : Cond.methodLink RX12 284 yX12_worthOf ∈ BW := bw6 97 (by decide +kernel) rfl
theorem ml_X12_287 : Cond.methodLink RX12 287 yX12_settledOf ∈ BW := bw6 101 (by decide +kernel) rfl
theorem ml_L_127 : Cond.methodLink RL 127 yX12_owes ∈ BW := bw6 105 (by decide +kernel) rfl
theorem ml_X12_290 : Cond.methodLink RX12 290 yX12_isPayer ∈ BW := bw6 109 (by decide +kernel) rfl
theorem ml_L_131 : Cond.methodLink RL 131 yX12_pay ∈ BW := bw6 112 (by decide +kernel) rfl
theorem ct_X12_293 : Cond.constant RX12 293 99999 ∈ BW := bw6 116 (by decide +kernel) rfl
theorem ml_L_135 : Cond.methodLink RL 135 yX12_due ∈ BW := bw6 117 (by decide +kernel) rfl
theorem ml_X12_294 : Cond.methodLink RX12 294 yX12_dueOf ∈ BW := bw6 121 (by decide +kernel) rfl
theorem ml_L_139 : Cond.methodLink RL 139 yX12_balance ∈ BW := bw6 125 (by decide +kernel) rfl
theorem ml_X12_297 : Cond.methodLink RX12 297 yX12_balanceOf ∈ BW := bw6 129 (by decide +kernel) rfl
theorem ml_L_144 : Cond.methodLink RL 144 yX12_back ∈ BW := bw6 133 (by decide +kernel) rfl
theorem ml_L_149 : Cond.methodLink RL 149 yX12_judged ∈ BW := bw6 137 (by decide +kernel) rfl
theorem ml_L_153 : Cond.methodLink RL 153 yX12_odds ∈ BW := bw6 141 (by decide +kernel) rfl
theorem ml_X12_315 : Cond.methodLink RX12 315 yX12_findLike ∈ BW := bw6 145 (by decide +kernel) rfl
theorem ml_X12_303 : Cond.methodLink RX12 303 yX12_amount ∈ BW := bw6 149 (by decide +kernel) rfl
theorem ml_L_157 : Cond.methodLink RL 157 yX12_good ∈ BW := bw6 152 (by decide +kernel) rfl
theorem ml_L_161 : Cond.methodLink RL 161 yX12_count ∈ BW := bw6 156 (by decide +kernel) rfl
set_option maxRecDepth 20000 in
theorem cw_X11_init : Cond.code yX11_init cX11_init 1 none ∈ BW := bw1 20 rfl rfl
theorem im_X11_init : Cond.instanceMethod yX11_init ∈ BW := bw1 19 (by decide +kernel) rfl
set_option maxRecDepth 20000 in
theorem cw_X7_init : Cond.code yX7_init cX7_init 2 none ∈ BW := bw1 28 rfl rfl
theorem im_X7_init : Cond.instanceMethod yX7_init ∈ BW := bw1 27 (by decide +kernel) rfl
set_option maxRecDepth 20000 in
theorem cw_X6_init : Cond.code yX6_init cX6_init 2 none ∈ BW := bw1 35 rfl rfl
theorem im_X6_init : Cond.instanceMethod yX6_init ∈ BW := bw1 34 (by decide +kernel) rfl
set_option maxRecDepth 20000 in
theorem cw_X10_init : Cond.code yX10_init cX10_init 1 none ∈ BW := bw1 73 rfl rfl
theorem im_X10_init : Cond.instanceMethod yX10_init ∈ BW := bw1 72 (by decide +kernel) rfl
set_option maxRecDepth 20000 in
theorem cw_X9_init : Cond.code yX9_init cX9_init 1 none ∈ BW := bw1 100 rfl rfl
theorem im_X9_init : Cond.instanceMethod yX9_init ∈ BW := bw1 99 (by decide +kernel) rfl
set_option maxRecDepth 20000 in
theorem cw_X4_init : Cond.code yX4_init cX4_init 1 none ∈ BW := bw1 116 rfl rfl
theorem im_X4_init : Cond.instanceMethod yX4_init ∈ BW := bw1 115 (by decide +kernel) rfl
set_option maxRecDepth 20000 in
theorem cw_X0_init : Cond.code yX0_init cX0_init 1 none ∈ BW := bw1 160 rfl rfl
theorem im_X0_init : Cond.instanceMethod yX0_init ∈ BW := bw1 159 (by decide +kernel) rfl
set_option maxRecDepth 20000 in
theorem cw_J7_fill_53178 : Cond.code yJ7_fill_53178 cJ7_fill_53178 4 none ∈ BW := bw1 164 rfl rfl
theorem sm_J7_fill_53178 : SM yJ7_fill_53178 cJ7_fill_53178 4 none 2 := ⟨cw_J7_fill_53178, bw1 163 (by decide +kernel) rfl, iz_J7, by decide +kernel⟩
set_option maxRecDepth 20000 in
theorem cw_X3_init : Cond.code yX3_init cX3_init 1 none ∈ BW := bw1 186 rfl rfl
theorem im_X3_init : Cond.instanceMethod yX3_init ∈ BW := bw1 185 (by decide +kernel) rfl
set_option maxRecDepth 20000 in
theorem cw_X1_init : Cond.code yX1_init cX1_init 1 none ∈ BW := bw1 210 rfl rfl
theorem im_X1_init : Cond.instanceMethod yX1_init ∈ BW := bw1 209 (by decide +kernel) rfl
set_option maxRecDepth 20000 in
theorem cw_X11_days : Cond.code yX11_days cX11_days 2 (some .int) ∈ BW := bw2 52 rfl rfl
theorem im_X11_days : Cond.instanceMethod yX11_days ∈ BW := bw2 50 (by decide +kernel) rfl
theorem vm_X11_days : VM yX11_days cX11_days 2 (some .int) 1 := ⟨cw_X11_days, im_X11_days, bw2 51 (by decide +kernel) rfl, iz_X11, by decide +kernel⟩
set_option maxRecDepth 20000 in
theorem cw_X11_refuse : Cond.code yX11_refuse cX11_refuse 3 (some .int) ∈ BW := bw2 56 rfl rfl
theorem im_X11_refuse : Cond.instanceMethod yX11_refuse ∈ BW := bw2 55 (by decide +kernel) rfl
theorem vm_X11_refuse : VM yX11_refuse cX11_refuse 3 (some .int) 1 := ⟨cw_X11_refuse, im_X11_refuse, bw0 0 (by decide +kernel) rfl, iz_X11, by decide +kernel⟩
set_option maxRecDepth 20000 in
theorem cw_X11_isOneOf : Cond.code yX11_isOneOf cX11_isOneOf 2 (some .boolean) ∈ BW := bw2 59 rfl rfl
theorem sm_X11_isOneOf : SM yX11_isOneOf cX11_isOneOf 2 (some .boolean) 2 := ⟨cw_X11_isOneOf, bw2 58 (by decide +kernel) rfl, iz_X11, by decide +kernel⟩
set_option maxRecDepth 20000 in
theorem cw_X11_land : Cond.code yX11_land cX11_land 5 (some .int) ∈ BW := bw2 63 rfl rfl
theorem im_X11_land : Cond.instanceMethod yX11_land ∈ BW := bw2 61 (by decide +kernel) rfl
theorem vm_X11_land : VM yX11_land cX11_land 5 (some .int) 2 := ⟨cw_X11_land, im_X11_land, bw2 62 (by decide +kernel) rfl, iz_X11, by decide +kernel⟩
set_option maxRecDepth 20000 in
theorem cw_X7_find : Cond.code yX7_find cX7_find 2 (some (.object "LateClaims$Port")) ∈ BW := bw2 67 rfl rfl
theorem im_X7_find : Cond.instanceMethod yX7_find ∈ BW := bw2 65 (by decide +kernel) rfl
theorem vm_X7_find : VM yX7_find cX7_find 2 (some (.object "LateClaims$Port")) 1 := ⟨cw_X7_find, im_X7_find, bw2 66 (by decide +kernel) rfl, iz_X7, by decide +kernel⟩
set_option maxRecDepth 20000 in
theorem cw_X11_miles : Cond.code yX11_miles cX11_miles 7 (some .int) ∈ BW := bw2 72 rfl rfl
theorem im_X11_miles : Cond.instanceMethod yX11_miles ∈ BW := bw2 70 (by decide +kernel) rfl
theorem vm_X11_miles : VM yX11_miles cX11_miles 7 (some .int) 3 := ⟨cw_X11_miles, im_X11_miles, bw2 71 (by decide +kernel) rfl, iz_X11, by decide +kernel⟩
set_option maxRecDepth 20000 in
theorem cw_X7_milesBetween : Cond.code yX7_milesBetween cX7_milesBetween 3 (some .int) ∈ BW := bw2 76 rfl rfl
theorem im_X7_milesBetween : Cond.instanceMethod yX7_milesBetween ∈ BW := bw2 74 (by decide +kernel) rfl
theorem vm_X7_milesBetween : VM yX7_milesBetween cX7_milesBetween 3 (some .int) 2 := ⟨cw_X7_milesBetween, im_X7_milesBetween, bw2 75 (by decide +kernel) rfl, iz_X7, by decide +kernel⟩
set_option maxRecDepth 20000 in
theorem cw_X7_setMiles : Cond.code yX7_setMiles cX7_setMiles 4 none ∈ BW := bw2 80 rfl rfl
theorem im_X7_setMiles : Cond.instanceMethod yX7_setMiles ∈ BW := bw2 78 (by decide +kernel) rfl
theorem vm_X7_setMiles : VM yX7_setMiles cX7_setMiles 4 none 3 := ⟨cw_X7_setMiles, im_X7_setMiles, bw2 79 (by decide +kernel) rfl, iz_X7, by decide +kernel⟩
set_option maxRecDepth 20000 in
theorem cw_X11_seen : Cond.code yX11_seen cX11_seen 6 (some .int) ∈ BW := bw2 84 rfl rfl
theorem im_X11_seen : Cond.instanceMethod yX11_seen ∈ BW := bw2 82 (by decide +kernel) rfl
theorem vm_X11_seen : VM yX11_seen cX11_seen 6 (some .int) 3 := ⟨cw_X11_seen, im_X11_seen, bw2 83 (by decide +kernel) rfl, iz_X11, by decide +kernel⟩
set_option maxRecDepth 20000 in
theorem cw_X7_take : Cond.code yX7_take cX7_take 5 (some .boolean) ∈ BW := bw2 88 rfl rfl
theorem im_X7_take : Cond.instanceMethod yX7_take ∈ BW := bw2 86 (by decide +kernel) rfl
theorem vm_X7_take : VM yX7_take cX7_take 5 (some .boolean) 3 := ⟨cw_X7_take, im_X7_take, bw2 87 (by decide +kernel) rfl, iz_X7, by decide +kernel⟩
set_option maxRecDepth 20000 in
theorem cw_X7_move : Cond.code yX7_move cX7_move 6 none ∈ BW := bw2 92 rfl rfl
theorem im_X7_move : Cond.instanceMethod yX7_move ∈ BW := bw2 91 (by decide +kernel) rfl
theorem vm_X7_move : VM yX7_move cX7_move 6 none 3 := ⟨cw_X7_move, im_X7_move, bw0 1 (by decide +kernel) rfl, iz_X7, by decide +kernel⟩
set_option maxRecDepth 20000 in
theorem cw_X10_putRight : Cond.code yX10_putRight cX10_putRight 2 none ∈ BW := bw2 96 rfl rfl
theorem im_X10_putRight : Cond.instanceMethod yX10_putRight ∈ BW := bw2 94 (by decide +kernel) rfl
theorem vm_X10_putRight : VM yX10_putRight cX10_putRight 2 none 0 := ⟨cw_X10_putRight, im_X10_putRight, bw2 95 (by decide +kernel) rfl, iz_X10, by decide +kernel⟩
set_option maxRecDepth 20000 in
theorem cw_X5_putRight : Cond.code yX5_putRight cX5_putRight 1 none ∈ BW := bw2 100 rfl rfl
theorem im_X5_putRight : Cond.instanceMethod yX5_putRight ∈ BW := bw2 98 (by decide +kernel) rfl
theorem vm_X5_putRight : VM yX5_putRight cX5_putRight 1 none 0 := ⟨cw_X5_putRight, im_X5_putRight, bw2 99 (by decide +kernel) rfl, iz_X5, by decide +kernel⟩
set_option maxRecDepth 20000 in
theorem cw_J9_max_7cf53 : Cond.code yJ9_max_7cf53 cJ9_max_7cf53 2 (some .int) ∈ BW := bw2 103 rfl rfl
theorem sm_J9_max_7cf53 : SM yJ9_max_7cf53 cJ9_max_7cf53 2 (some .int) 2 := ⟨cw_J9_max_7cf53, bw2 102 (by decide +kernel) rfl, iz_J9, by decide +kernel⟩
set_option maxRecDepth 20000 in
theorem cw_X11_off : Cond.code yX11_off cX11_off 3 (some .int) ∈ BW := bw2 107 rfl rfl
theorem im_X11_off : Cond.instanceMethod yX11_off ∈ BW := bw2 105 (by decide +kernel) rfl
theorem vm_X11_off : VM yX11_off cX11_off 3 (some .int) 1 := ⟨cw_X11_off, im_X11_off, bw2 106 (by decide +kernel) rfl, iz_X11, by decide +kernel⟩
set_option maxRecDepth 20000 in
theorem cw_X11_refuseBeyond : Cond.code yX11_refuseBeyond cX11_refuseBeyond 2 (some .int) ∈ BW := bw2 111 rfl rfl
theorem im_X11_refuseBeyond : Cond.instanceMethod yX11_refuseBeyond ∈ BW := bw2 110 (by decide +kernel) rfl
theorem vm_X11_refuseBeyond : VM yX11_refuseBeyond cX11_refuseBeyond 2 (some .int) 1 := ⟨cw_X11_refuseBeyond, im_X11_refuseBeyond, bw0 2 (by decide +kernel) rfl, iz_X11, by decide +kernel⟩
set_option maxRecDepth 20000 in
theorem cw_X11_leg : Cond.code yX11_leg cX11_leg 9 (some .int) ∈ BW := bw2 116 rfl rfl
theorem im_X11_leg : Cond.instanceMethod yX11_leg ∈ BW := bw2 114 (by decide +kernel) rfl
theorem vm_X11_leg : VM yX11_leg cX11_leg 9 (some .int) 6 := ⟨cw_X11_leg, im_X11_leg, bw2 115 (by decide +kernel) rfl, iz_X11, by decide +kernel⟩
set_option maxRecDepth 20000 in
theorem cw_X10_isFull : Cond.code yX10_isFull cX10_isFull 1 (some .boolean) ∈ BW := bw2 120 rfl rfl
theorem im_X10_isFull : Cond.instanceMethod yX10_isFull ∈ BW := bw2 118 (by decide +kernel) rfl
theorem vm_X10_isFull : VM yX10_isFull cX10_isFull 1 (some .boolean) 0 := ⟨cw_X10_isFull, im_X10_isFull, bw2 119 (by decide +kernel) rfl, iz_X10, by decide +kernel⟩
set_option maxRecDepth 20000 in
theorem cw_X10_add : Cond.code yX10_add cX10_add 7 (some .int) ∈ BW := bw2 124 rfl rfl
theorem im_X10_add : Cond.instanceMethod yX10_add ∈ BW := bw2 122 (by decide +kernel) rfl
theorem vm_X10_add : VM yX10_add cX10_add 7 (some .int) 6 := ⟨cw_X10_add, im_X10_add, bw2 123 (by decide +kernel) rfl, iz_X10, by decide +kernel⟩
set_option maxRecDepth 20000 in
theorem cw_X5_init : Cond.code yX5_init cX5_init 8 none ∈ BW := bw2 128 rfl rfl
theorem im_X5_init : Cond.instanceMethod yX5_init ∈ BW := bw2 127 (by decide +kernel) rfl
set_option maxRecDepth 20000 in
theorem cw_X11_log : Cond.code yX11_log cX11_log 6 (some .int) ∈ BW := bw2 209 rfl rfl
theorem im_X11_log : Cond.instanceMethod yX11_log ∈ BW := bw2 207 (by decide +kernel) rfl
theorem vm_X11_log : VM yX11_log cX11_log 6 (some .int) 3 := ⟨cw_X11_log, im_X11_log, bw2 208 (by decide +kernel) rfl, iz_X11, by decide +kernel⟩
set_option maxRecDepth 20000 in
theorem cw_X10_find : Cond.code yX10_find cX10_find 2 (some (.object "LateClaims$Leg")) ∈ BW := bw2 213 rfl rfl
theorem im_X10_find : Cond.instanceMethod yX10_find ∈ BW := bw2 211 (by decide +kernel) rfl
theorem vm_X10_find : VM yX10_find cX10_find 2 (some (.object "LateClaims$Leg")) 1 := ⟨cw_X10_find, im_X10_find, bw2 212 (by decide +kernel) rfl, iz_X10, by decide +kernel⟩
set_option maxRecDepth 20000 in
theorem cw_X5_enter : Cond.code yX5_enter cX5_enter 3 none ∈ BW := bw2 218 rfl rfl
theorem im_X5_enter : Cond.instanceMethod yX5_enter ∈ BW := bw2 216 (by decide +kernel) rfl
theorem vm_X5_enter : VM yX5_enter cX5_enter 3 none 2 := ⟨cw_X5_enter, im_X5_enter, bw2 217 (by decide +kernel) rfl, iz_X5, by decide +kernel⟩
set_option maxRecDepth 20000 in
theorem cw_X11_cause : Cond.code yX11_cause cX11_cause 5 (some .int) ∈ BW := bw2 223 rfl rfl
theorem im_X11_cause : Cond.instanceMethod yX11_cause ∈ BW := bw2 221 (by decide +kernel) rfl
theorem vm_X11_cause : VM yX11_cause cX11_cause 5 (some .int) 2 := ⟨cw_X11_cause, im_X11_cause, bw2 222 (by decide +kernel) rfl, iz_X11, by decide +kernel⟩
set_option maxRecDepth 20000 in
theorem cw_X11_set : Cond.code yX11_set cX11_set 4 (some .int) ∈ BW := bw2 227 rfl rfl
theorem im_X11_set : Cond.instanceMethod yX11_set ∈ BW := bw2 225 (by decide +kernel) rfl
theorem vm_X11_set : VM yX11_set cX11_set 4 (some .int) 2 := ⟨cw_X11_set, im_X11_set, bw2 226 (by decide +kernel) rfl, iz_X11, by decide +kernel⟩
set_option maxRecDepth 20000 in
theorem cw_X11_legOf : Cond.code yX11_legOf cX11_legOf 4 (some .int) ∈ BW := bw2 235 rfl rfl
theorem im_X11_legOf : Cond.instanceMethod yX11_legOf ∈ BW := bw2 233 (by decide +kernel) rfl
theorem vm_X11_legOf : VM yX11_legOf cX11_legOf 4 (some .int) 2 := ⟨cw_X11_legOf, im_X11_legOf, bw2 234 (by decide +kernel) rfl, iz_X11, by decide +kernel⟩
set_option maxRecDepth 20000 in
theorem cw_X11_waitOf : Cond.code yX11_waitOf cX11_waitOf 4 (some .int) ∈ BW := bw2 239 rfl rfl
theorem im_X11_waitOf : Cond.instanceMethod yX11_waitOf ∈ BW := bw2 238 (by decide +kernel) rfl
theorem vm_X11_waitOf : VM yX11_waitOf cX11_waitOf 4 (some .int) 2 := ⟨cw_X11_waitOf, im_X11_waitOf, bw0 3 (by decide +kernel) rfl, iz_X11, by decide +kernel⟩
set_option maxRecDepth 20000 in
theorem cw_X11_gapFor : Cond.code yX11_gapFor cX11_gapFor 2 (some .int) ∈ BW := bw3 3 rfl rfl
theorem im_X11_gapFor : Cond.instanceMethod yX11_gapFor ∈ BW := bw3 2 (by decide +kernel) rfl
theorem vm_X11_gapFor : VM yX11_gapFor cX11_gapFor 2 (some .int) 1 := ⟨cw_X11_gapFor, im_X11_gapFor, bw0 4 (by decide +kernel) rfl, iz_X11, by decide +kernel⟩
set_option maxRecDepth 20000 in
theorem cw_X10_aheadOf : Cond.code yX10_aheadOf cX10_aheadOf 8 (some (.object "LateClaims$Leg")) ∈ BW := bw3 7 rfl rfl
theorem im_X10_aheadOf : Cond.instanceMethod yX10_aheadOf ∈ BW := bw3 5 (by decide +kernel) rfl
theorem vm_X10_aheadOf : VM yX10_aheadOf cX10_aheadOf 8 (some (.object "LateClaims$Leg")) 3 := ⟨cw_X10_aheadOf, im_X10_aheadOf, bw3 6 (by decide +kernel) rfl, iz_X10, by decide +kernel⟩
set_option maxRecDepth 20000 in
theorem cw_X5_waitFor : Cond.code yX5_waitFor cX5_waitFor 4 (some .int) ∈ BW := bw3 11 rfl rfl
theorem im_X5_waitFor : Cond.instanceMethod yX5_waitFor ∈ BW := bw3 9 (by decide +kernel) rfl
theorem vm_X5_waitFor : VM yX5_waitFor cX5_waitFor 4 (some .int) 2 := ⟨cw_X5_waitFor, im_X5_waitFor, bw3 10 (by decide +kernel) rfl, iz_X5, by decide +kernel⟩
set_option maxRecDepth 20000 in
theorem cw_J9_min_7cf53 : Cond.code yJ9_min_7cf53 cJ9_min_7cf53 2 (some .int) ∈ BW := bw3 14 rfl rfl
theorem sm_J9_min_7cf53 : SM yJ9_min_7cf53 cJ9_min_7cf53 2 (some .int) 2 := ⟨cw_J9_min_7cf53, bw3 13 (by decide +kernel) rfl, iz_J9, by decide +kernel⟩
set_option maxRecDepth 20000 in
theorem cw_X11_handedTo : Cond.code yX11_handedTo cX11_handedTo 2 (some .int) ∈ BW := bw3 18 rfl rfl
theorem im_X11_handedTo : Cond.instanceMethod yX11_handedTo ∈ BW := bw3 17 (by decide +kernel) rfl
theorem vm_X11_handedTo : VM yX11_handedTo cX11_handedTo 2 (some .int) 1 := ⟨cw_X11_handedTo, im_X11_handedTo, bw0 5 (by decide +kernel) rfl, iz_X11, by decide +kernel⟩
set_option maxRecDepth 20000 in
theorem cw_X11_ahead : Cond.code yX11_ahead cX11_ahead 5 (some .int) ∈ BW := bw3 24 rfl rfl
theorem im_X11_ahead : Cond.instanceMethod yX11_ahead ∈ BW := bw3 22 (by decide +kernel) rfl
theorem vm_X11_ahead : VM yX11_ahead cX11_ahead 5 (some .int) 2 := ⟨cw_X11_ahead, im_X11_ahead, bw3 23 (by decide +kernel) rfl, iz_X11, by decide +kernel⟩
set_option maxRecDepth 20000 in
theorem cw_X11_minutes : Cond.code yX11_minutes cX11_minutes 4 (some .int) ∈ BW := bw3 28 rfl rfl
theorem im_X11_minutes : Cond.instanceMethod yX11_minutes ∈ BW := bw3 26 (by decide +kernel) rfl
theorem vm_X11_minutes : VM yX11_minutes cX11_minutes 4 (some .int) 2 := ⟨cw_X11_minutes, im_X11_minutes, bw3 27 (by decide +kernel) rfl, iz_X11, by decide +kernel⟩
set_option maxRecDepth 20000 in
theorem cw_X10_trace : Cond.code yX10_trace cX10_trace 13 none ∈ BW := bw3 32 rfl rfl
theorem im_X10_trace : Cond.instanceMethod yX10_trace ∈ BW := bw3 30 (by decide +kernel) rfl
theorem vm_X10_trace : VM yX10_trace cX10_trace 13 none 3 := ⟨cw_X10_trace, im_X10_trace, bw3 31 (by decide +kernel) rfl, iz_X10, by decide +kernel⟩
set_option maxRecDepth 20000 in
theorem cw_X11_saved : Cond.code yX11_saved cX11_saved 5 (some .int) ∈ BW := bw3 41 rfl rfl
theorem im_X11_saved : Cond.instanceMethod yX11_saved ∈ BW := bw3 39 (by decide +kernel) rfl
theorem vm_X11_saved : VM yX11_saved cX11_saved 5 (some .int) 2 := ⟨cw_X11_saved, im_X11_saved, bw3 40 (by decide +kernel) rfl, iz_X11, by decide +kernel⟩
set_option maxRecDepth 20000 in
theorem cw_X11_traveller : Cond.code yX11_traveller cX11_traveller 3 (some .int) ∈ BW := bw3 45 rfl rfl
theorem im_X11_traveller : Cond.instanceMethod yX11_traveller ∈ BW := bw3 43 (by decide +kernel) rfl
theorem vm_X11_traveller : VM yX11_traveller cX11_traveller 3 (some .int) 1 := ⟨cw_X11_traveller, im_X11_traveller, bw3 44 (by decide +kernel) rfl, iz_X11, by decide +kernel⟩
set_option maxRecDepth 20000 in
theorem cw_X9_isFull : Cond.code yX9_isFull cX9_isFull 1 (some .boolean) ∈ BW := bw3 49 rfl rfl
theorem im_X9_isFull : Cond.instanceMethod yX9_isFull ∈ BW := bw3 47 (by decide +kernel) rfl
theorem vm_X9_isFull : VM yX9_isFull cX9_isFull 1 (some .boolean) 0 := ⟨cw_X9_isFull, im_X9_isFull, bw3 48 (by decide +kernel) rfl, iz_X9, by decide +kernel⟩
set_option maxRecDepth 20000 in
theorem cw_X9_add : Cond.code yX9_add cX9_add 2 (some .int) ∈ BW := bw3 53 rfl rfl
theorem im_X9_add : Cond.instanceMethod yX9_add ∈ BW := bw3 51 (by decide +kernel) rfl
theorem vm_X9_add : VM yX9_add cX9_add 2 (some .int) 1 := ⟨cw_X9_add, im_X9_add, bw3 52 (by decide +kernel) rfl, iz_X9, by decide +kernel⟩
set_option maxRecDepth 20000 in
theorem cw_X8_init : Cond.code yX8_init cX8_init 3 none ∈ BW := bw3 57 rfl rfl
theorem im_X8_init : Cond.instanceMethod yX8_init ∈ BW := bw3 56 (by decide +kernel) rfl
set_option maxRecDepth 20000 in
theorem cw_X11_then : Cond.code yX11_then cX11_then 5 (some .int) ∈ BW := bw3 95 rfl rfl
theorem im_X11_then : Cond.instanceMethod yX11_then ∈ BW := bw3 93 (by decide +kernel) rfl
theorem vm_X11_then : VM yX11_then cX11_then 5 (some .int) 2 := ⟨cw_X11_then, im_X11_then, bw3 94 (by decide +kernel) rfl, iz_X11, by decide +kernel⟩
set_option maxRecDepth 20000 in
theorem cw_X9_find : Cond.code yX9_find cX9_find 2 (some (.object "LateClaims$Ticket")) ∈ BW := bw3 99 rfl rfl
theorem im_X9_find : Cond.instanceMethod yX9_find ∈ BW := bw3 97 (by decide +kernel) rfl
theorem vm_X9_find : VM yX9_find cX9_find 2 (some (.object "LateClaims$Ticket")) 1 := ⟨cw_X9_find, im_X9_find, bw3 98 (by decide +kernel) rfl, iz_X9, by decide +kernel⟩
set_option maxRecDepth 20000 in
theorem cw_X8_isFollowedBy : Cond.code yX8_isFollowedBy cX8_isFollowedBy 3 (some .boolean) ∈ BW := bw3 104 rfl rfl
theorem im_X8_isFollowedBy : Cond.instanceMethod yX8_isFollowedBy ∈ BW := bw3 102 (by decide +kernel) rfl
theorem vm_X8_isFollowedBy : VM yX8_isFollowedBy cX8_isFollowedBy 3 (some .boolean) 2 := ⟨cw_X8_isFollowedBy, im_X8_isFollowedBy, bw3 103 (by decide +kernel) rfl, iz_X8, by decide +kernel⟩
set_option maxRecDepth 20000 in
theorem cw_X8_isFull : Cond.code yX8_isFull cX8_isFull 1 (some .boolean) ∈ BW := bw3 108 rfl rfl
theorem im_X8_isFull : Cond.instanceMethod yX8_isFull ∈ BW := bw3 106 (by decide +kernel) rfl
theorem vm_X8_isFull : VM yX8_isFull cX8_isFull 1 (some .boolean) 0 := ⟨cw_X8_isFull, im_X8_isFull, bw3 107 (by decide +kernel) rfl, iz_X8, by decide +kernel⟩
set_option maxRecDepth 20000 in
theorem cw_X8_add : Cond.code yX8_add cX8_add 2 none ∈ BW := bw3 112 rfl rfl
theorem im_X8_add : Cond.instanceMethod yX8_add ∈ BW := bw3 110 (by decide +kernel) rfl
theorem vm_X8_add : VM yX8_add cX8_add 2 none 1 := ⟨cw_X8_add, im_X8_add, bw3 111 (by decide +kernel) rfl, iz_X8, by decide +kernel⟩
set_option maxRecDepth 20000 in
theorem cw_X11_missed : Cond.code yX11_missed cX11_missed 3 (some .int) ∈ BW := bw3 116 rfl rfl
theorem im_X11_missed : Cond.instanceMethod yX11_missed ∈ BW := bw3 114 (by decide +kernel) rfl
theorem vm_X11_missed : VM yX11_missed cX11_missed 3 (some .int) 1 := ⟨cw_X11_missed, im_X11_missed, bw3 115 (by decide +kernel) rfl, iz_X11, by decide +kernel⟩
set_option maxRecDepth 20000 in
theorem cw_X8_missedPlace : Cond.code yX8_missedPlace cX8_missedPlace 3 (some .int) ∈ BW := bw3 120 rfl rfl
theorem im_X8_missedPlace : Cond.instanceMethod yX8_missedPlace ∈ BW := bw3 118 (by decide +kernel) rfl
theorem vm_X8_missedPlace : VM yX8_missedPlace cX8_missedPlace 3 (some .int) 1 := ⟨cw_X8_missedPlace, im_X8_missedPlace, bw3 119 (by decide +kernel) rfl, iz_X8, by decide +kernel⟩
set_option maxRecDepth 20000 in
theorem cw_X11_soonest : Cond.code yX11_soonest cX11_soonest 3 (some .int) ∈ BW := bw3 124 rfl rfl
theorem im_X11_soonest : Cond.instanceMethod yX11_soonest ∈ BW := bw3 122 (by decide +kernel) rfl
theorem vm_X11_soonest : VM yX11_soonest cX11_soonest 3 (some .int) 1 := ⟨cw_X11_soonest, im_X11_soonest, bw3 123 (by decide +kernel) rfl, iz_X11, by decide +kernel⟩
set_option maxRecDepth 20000 in
theorem cw_X11_soonestOf : Cond.code yX11_soonestOf cX11_soonestOf 6 (some .int) ∈ BW := bw3 128 rfl rfl
theorem im_X11_soonestOf : Cond.instanceMethod yX11_soonestOf ∈ BW := bw3 127 (by decide +kernel) rfl
theorem vm_X11_soonestOf : VM yX11_soonestOf cX11_soonestOf 6 (some .int) 1 := ⟨cw_X11_soonestOf, im_X11_soonestOf, bw0 6 (by decide +kernel) rfl, iz_X11, by decide +kernel⟩
set_option maxRecDepth 20000 in
theorem cw_X10_soonestBy : Cond.code yX10_soonestBy cX10_soonestBy 9 (some .int) ∈ BW := bw3 132 rfl rfl
theorem im_X10_soonestBy : Cond.instanceMethod yX10_soonestBy ∈ BW := bw3 130 (by decide +kernel) rfl
theorem vm_X10_soonestBy : VM yX10_soonestBy cX10_soonestBy 9 (some .int) 4 := ⟨cw_X10_soonestBy, im_X10_soonestBy, bw3 131 (by decide +kernel) rfl, iz_X10, by decide +kernel⟩
set_option maxRecDepth 20000 in
theorem cw_X10_reach : Cond.code yX10_reach cX10_reach 7 (some .int) ∈ BW := bw3 136 rfl rfl
theorem im_X10_reach : Cond.instanceMethod yX10_reach ∈ BW := bw3 135 (by decide +kernel) rfl
theorem vm_X10_reach : VM yX10_reach cX10_reach 7 (some .int) 3 := ⟨cw_X10_reach, im_X10_reach, bw0 7 (by decide +kernel) rfl, iz_X10, by decide +kernel⟩
set_option maxRecDepth 20000 in
theorem cw_X11_hours : Cond.code yX11_hours cX11_hours 3 (some .int) ∈ BW := bw3 140 rfl rfl
theorem im_X11_hours : Cond.instanceMethod yX11_hours ∈ BW := bw3 138 (by decide +kernel) rfl
theorem vm_X11_hours : VM yX11_hours cX11_hours 3 (some .int) 1 := ⟨cw_X11_hours, im_X11_hours, bw3 139 (by decide +kernel) rfl, iz_X11, by decide +kernel⟩
set_option maxRecDepth 20000 in
theorem cw_X11_hoursOf : Cond.code yX11_hoursOf cX11_hoursOf 3 (some .int) ∈ BW := bw3 144 rfl rfl
theorem im_X11_hoursOf : Cond.instanceMethod yX11_hoursOf ∈ BW := bw3 143 (by decide +kernel) rfl
theorem vm_X11_hoursOf : VM yX11_hoursOf cX11_hoursOf 3 (some .int) 1 := ⟨cw_X11_hoursOf, im_X11_hoursOf, bw0 8 (by decide +kernel) rfl, iz_X11, by decide +kernel⟩
set_option maxRecDepth 20000 in
theorem cw_X11_blame : Cond.code yX11_blame cX11_blame 3 (some .int) ∈ BW := bw3 148 rfl rfl
theorem im_X11_blame : Cond.instanceMethod yX11_blame ∈ BW := bw3 146 (by decide +kernel) rfl
theorem vm_X11_blame : VM yX11_blame cX11_blame 3 (some .int) 1 := ⟨cw_X11_blame, im_X11_blame, bw3 147 (by decide +kernel) rfl, iz_X11, by decide +kernel⟩
set_option maxRecDepth 20000 in
theorem cw_X11_blameOf : Cond.code yX11_blameOf cX11_blameOf 3 (some .int) ∈ BW := bw3 152 rfl rfl
theorem im_X11_blameOf : Cond.instanceMethod yX11_blameOf ∈ BW := bw3 151 (by decide +kernel) rfl
theorem vm_X11_blameOf : VM yX11_blameOf cX11_blameOf 3 (some .int) 1 := ⟨cw_X11_blameOf, im_X11_blameOf, bw0 9 (by decide +kernel) rfl, iz_X11, by decide +kernel⟩
set_option maxRecDepth 20000 in
theorem cw_X8_legAtFault : Cond.code yX8_legAtFault cX8_legAtFault 3 (some (.object "LateClaims$Leg")) ∈ BW := bw3 156 rfl rfl
theorem im_X8_legAtFault : Cond.instanceMethod yX8_legAtFault ∈ BW := bw3 154 (by decide +kernel) rfl
theorem vm_X8_legAtFault : VM yX8_legAtFault cX8_legAtFault 3 (some (.object "LateClaims$Leg")) 1 := ⟨cw_X8_legAtFault, im_X8_legAtFault, bw3 155 (by decide +kernel) rfl, iz_X8, by decide +kernel⟩
set_option maxRecDepth 20000 in
theorem cw_X10_greatestCause : Cond.code yX10_greatestCause cX10_greatestCause 3 (some .int) ∈ BW := bw3 161 rfl rfl
theorem im_X10_greatestCause : Cond.instanceMethod yX10_greatestCause ∈ BW := bw3 159 (by decide +kernel) rfl
theorem vm_X10_greatestCause : VM yX10_greatestCause cX10_greatestCause 3 (some .int) 0 := ⟨cw_X10_greatestCause, im_X10_greatestCause, bw3 160 (by decide +kernel) rfl, iz_X10, by decide +kernel⟩
set_option maxRecDepth 20000 in
theorem cw_X11_law : Cond.code yX11_law cX11_law 6 (some .int) ∈ BW := bw3 165 rfl rfl
theorem im_X11_law : Cond.instanceMethod yX11_law ∈ BW := bw3 163 (by decide +kernel) rfl
theorem vm_X11_law : VM yX11_law cX11_law 6 (some .int) 5 := ⟨cw_X11_law, im_X11_law, bw3 164 (by decide +kernel) rfl, iz_X11, by decide +kernel⟩
set_option maxRecDepth 20000 in
theorem cw_X4_isFull : Cond.code yX4_isFull cX4_isFull 1 (some .boolean) ∈ BW := bw3 169 rfl rfl
theorem im_X4_isFull : Cond.instanceMethod yX4_isFull ∈ BW := bw3 167 (by decide +kernel) rfl
theorem vm_X4_isFull : VM yX4_isFull cX4_isFull 1 (some .boolean) 0 := ⟨cw_X4_isFull, im_X4_isFull, bw3 168 (by decide +kernel) rfl, iz_X4, by decide +kernel⟩
set_option maxRecDepth 20000 in
theorem cw_X4_add : Cond.code yX4_add cX4_add 6 (some .int) ∈ BW := bw3 173 rfl rfl
theorem im_X4_add : Cond.instanceMethod yX4_add ∈ BW := bw3 171 (by decide +kernel) rfl
theorem vm_X4_add : VM yX4_add cX4_add 6 (some .int) 5 := ⟨cw_X4_add, im_X4_add, bw3 172 (by decide +kernel) rfl, iz_X4, by decide +kernel⟩
set_option maxRecDepth 20000 in
theorem cw_X11_excuse : Cond.code yX11_excuse cX11_excuse 5 (some .int) ∈ BW := bw3 177 rfl rfl
theorem im_X11_excuse : Cond.instanceMethod yX11_excuse ∈ BW := bw3 175 (by decide +kernel) rfl
theorem vm_X11_excuse : VM yX11_excuse cX11_excuse 5 (some .int) 4 := ⟨cw_X11_excuse, im_X11_excuse, bw3 176 (by decide +kernel) rfl, iz_X11, by decide +kernel⟩
set_option maxRecDepth 20000 in
theorem cw_X4_isFullOfExcuses : Cond.code yX4_isFullOfExcuses cX4_isFullOfExcuses 1 (some .boolean) ∈ BW := bw3 181 rfl rfl
theorem im_X4_isFullOfExcuses : Cond.instanceMethod yX4_isFullOfExcuses ∈ BW := bw3 179 (by decide +kernel) rfl
theorem vm_X4_isFullOfExcuses : VM yX4_isFullOfExcuses cX4_isFullOfExcuses 1 (some .boolean) 0 := ⟨cw_X4_isFullOfExcuses, im_X4_isFullOfExcuses, bw3 180 (by decide +kernel) rfl, iz_X4, by decide +kernel⟩
set_option maxRecDepth 20000 in
theorem cw_X4_addExcuse : Cond.code yX4_addExcuse cX4_addExcuse 6 (some .int) ∈ BW := bw3 185 rfl rfl
theorem im_X4_addExcuse : Cond.instanceMethod yX4_addExcuse ∈ BW := bw3 183 (by decide +kernel) rfl
theorem vm_X4_addExcuse : VM yX4_addExcuse cX4_addExcuse 6 (some .int) 5 := ⟨cw_X4_addExcuse, im_X4_addExcuse, bw3 184 (by decide +kernel) rfl, iz_X4, by decide +kernel⟩
set_option maxRecDepth 20000 in
theorem cw_X11_sum : Cond.code yX11_sum cX11_sum 6 (some .int) ∈ BW := bw3 189 rfl rfl
theorem im_X11_sum : Cond.instanceMethod yX11_sum ∈ BW := bw3 187 (by decide +kernel) rfl
theorem vm_X11_sum : VM yX11_sum cX11_sum 6 (some .int) 3 := ⟨cw_X11_sum, im_X11_sum, bw3 188 (by decide +kernel) rfl, iz_X11, by decide +kernel⟩
set_option maxRecDepth 20000 in
theorem cw_X11_sumFor : Cond.code yX11_sumFor cX11_sumFor 4 (some .int) ∈ BW := bw3 193 rfl rfl
theorem im_X11_sumFor : Cond.instanceMethod yX11_sumFor ∈ BW := bw3 192 (by decide +kernel) rfl
theorem vm_X11_sumFor : VM yX11_sumFor cX11_sumFor 4 (some .int) 2 := ⟨cw_X11_sumFor, im_X11_sumFor, bw0 10 (by decide +kernel) rfl, iz_X11, by decide +kernel⟩
set_option maxRecDepth 20000 in
theorem cw_X4_landFor : Cond.code yX4_landFor cX4_landFor 5 (some .int) ∈ BW := bw3 197 rfl rfl
theorem im_X4_landFor : Cond.instanceMethod yX4_landFor ∈ BW := bw3 195 (by decide +kernel) rfl
theorem vm_X4_landFor : VM yX4_landFor cX4_landFor 5 (some .int) 2 := ⟨cw_X4_landFor, im_X4_landFor, bw3 196 (by decide +kernel) rfl, iz_X4, by decide +kernel⟩
set_option maxRecDepth 20000 in
theorem cw_X4_hasRows : Cond.code yX4_hasRows cX4_hasRows 4 (some .boolean) ∈ BW := bw3 201 rfl rfl
theorem im_X4_hasRows : Cond.instanceMethod yX4_hasRows ∈ BW := bw3 200 (by decide +kernel) rfl
theorem vm_X4_hasRows : VM yX4_hasRows cX4_hasRows 4 (some .boolean) 2 := ⟨cw_X4_hasRows, im_X4_hasRows, bw0 11 (by decide +kernel) rfl, iz_X4, by decide +kernel⟩
set_option maxRecDepth 20000 in
theorem cw_X4_isInForce : Cond.code yX4_isInForce cX4_isInForce 4 (some .boolean) ∈ BW := bw3 205 rfl rfl
theorem im_X4_isInForce : Cond.instanceMethod yX4_isInForce ∈ BW := bw3 204 (by decide +kernel) rfl
theorem vm_X4_isInForce : VM yX4_isInForce cX4_isInForce 4 (some .boolean) 3 := ⟨cw_X4_isInForce, im_X4_isInForce, bw0 12 (by decide +kernel) rfl, iz_X4, by decide +kernel⟩
set_option maxRecDepth 20000 in
theorem cw_X8_leaveDay : Cond.code yX8_leaveDay cX8_leaveDay 1 (some .int) ∈ BW := bw3 209 rfl rfl
theorem im_X8_leaveDay : Cond.instanceMethod yX8_leaveDay ∈ BW := bw3 207 (by decide +kernel) rfl
theorem vm_X8_leaveDay : VM yX8_leaveDay cX8_leaveDay 1 (some .int) 0 := ⟨cw_X8_leaveDay, im_X8_leaveDay, bw3 208 (by decide +kernel) rfl, iz_X8, by decide +kernel⟩
set_option maxRecDepth 20000 in
theorem cw_X4_isExcused : Cond.code yX4_isExcused cX4_isExcused 7 (some .boolean) ∈ BW := bw3 213 rfl rfl
theorem im_X4_isExcused : Cond.instanceMethod yX4_isExcused ∈ BW := bw3 211 (by decide +kernel) rfl
theorem vm_X4_isExcused : VM yX4_isExcused cX4_isExcused 7 (some .boolean) 3 := ⟨cw_X4_isExcused, im_X4_isExcused, bw3 212 (by decide +kernel) rfl, iz_X4, by decide +kernel⟩
set_option maxRecDepth 20000 in
theorem cw_X11_milesOf : Cond.code yX11_milesOf cX11_milesOf 2 (some .int) ∈ BW := bw3 217 rfl rfl
theorem im_X11_milesOf : Cond.instanceMethod yX11_milesOf ∈ BW := bw3 216 (by decide +kernel) rfl
theorem vm_X11_milesOf : VM yX11_milesOf cX11_milesOf 2 (some .int) 1 := ⟨cw_X11_milesOf, im_X11_milesOf, bw0 13 (by decide +kernel) rfl, iz_X11, by decide +kernel⟩
set_option maxRecDepth 20000 in
theorem cw_X4_greatestSum : Cond.code yX4_greatestSum cX4_greatestSum 8 (some .int) ∈ BW := bw3 221 rfl rfl
theorem im_X4_greatestSum : Cond.instanceMethod yX4_greatestSum ∈ BW := bw3 219 (by decide +kernel) rfl
theorem vm_X4_greatestSum : VM yX4_greatestSum cX4_greatestSum 8 (some .int) 4 := ⟨cw_X4_greatestSum, im_X4_greatestSum, bw3 220 (by decide +kernel) rfl, iz_X4, by decide +kernel⟩
set_option maxRecDepth 20000 in
theorem cw_X11_bar : Cond.code yX11_bar cX11_bar 4 (some .int) ∈ BW := bw3 225 rfl rfl
theorem im_X11_bar : Cond.instanceMethod yX11_bar ∈ BW := bw3 223 (by decide +kernel) rfl
theorem vm_X11_bar : VM yX11_bar cX11_bar 4 (some .int) 2 := ⟨cw_X11_bar, im_X11_bar, bw3 224 (by decide +kernel) rfl, iz_X11, by decide +kernel⟩
set_option maxRecDepth 20000 in
theorem cw_X11_stop : Cond.code yX11_stop cX11_stop 4 (some .int) ∈ BW := bw3 229 rfl rfl
theorem im_X11_stop : Cond.instanceMethod yX11_stop ∈ BW := bw3 227 (by decide +kernel) rfl
theorem vm_X11_stop : VM yX11_stop cX11_stop 4 (some .int) 3 := ⟨cw_X11_stop, im_X11_stop, bw3 228 (by decide +kernel) rfl, iz_X11, by decide +kernel⟩
set_option maxRecDepth 20000 in
theorem cw_X0_isFull : Cond.code yX0_isFull cX0_isFull 1 (some .boolean) ∈ BW := bw3 233 rfl rfl
theorem im_X0_isFull : Cond.instanceMethod yX0_isFull ∈ BW := bw3 231 (by decide +kernel) rfl
theorem vm_X0_isFull : VM yX0_isFull cX0_isFull 1 (some .boolean) 0 := ⟨cw_X0_isFull, im_X0_isFull, bw3 232 (by decide +kernel) rfl, iz_X0, by decide +kernel⟩
set_option maxRecDepth 20000 in
theorem cw_X0_addStop : Cond.code yX0_addStop cX0_addStop 4 (some .int) ∈ BW := bw3 237 rfl rfl
theorem im_X0_addStop : Cond.instanceMethod yX0_addStop ∈ BW := bw3 235 (by decide +kernel) rfl
theorem vm_X0_addStop : VM yX0_addStop cX0_addStop 4 (some .int) 3 := ⟨cw_X0_addStop, im_X0_addStop, bw3 236 (by decide +kernel) rfl, iz_X0, by decide +kernel⟩
set_option maxRecDepth 20000 in
theorem cw_X11_claim : Cond.code yX11_claim cX11_claim 3 (some .int) ∈ BW := bw4 1 rfl rfl
theorem im_X11_claim : Cond.instanceMethod yX11_claim ∈ BW := bw3 239 (by decide +kernel) rfl
theorem vm_X11_claim : VM yX11_claim cX11_claim 3 (some .int) 1 := ⟨cw_X11_claim, im_X11_claim, bw4 0 (by decide +kernel) rfl, iz_X11, by decide +kernel⟩
set_option maxRecDepth 20000 in
theorem cw_X3_isFull : Cond.code yX3_isFull cX3_isFull 1 (some .boolean) ∈ BW := bw4 5 rfl rfl
theorem im_X3_isFull : Cond.instanceMethod yX3_isFull ∈ BW := bw4 3 (by decide +kernel) rfl
theorem vm_X3_isFull : VM yX3_isFull cX3_isFull 1 (some .boolean) 0 := ⟨cw_X3_isFull, im_X3_isFull, bw4 4 (by decide +kernel) rfl, iz_X3, by decide +kernel⟩
set_option maxRecDepth 20000 in
theorem cw_X3_add : Cond.code yX3_add cX3_add 3 (some .int) ∈ BW := bw4 9 rfl rfl
theorem im_X3_add : Cond.instanceMethod yX3_add ∈ BW := bw4 7 (by decide +kernel) rfl
theorem vm_X3_add : VM yX3_add cX3_add 3 (some .int) 2 := ⟨cw_X3_add, im_X3_add, bw4 8 (by decide +kernel) rfl, iz_X3, by decide +kernel⟩
set_option maxRecDepth 20000 in
theorem cw_X2_init : Cond.code yX2_init cX2_init 3 none ∈ BW := bw4 13 rfl rfl
theorem im_X2_init : Cond.instanceMethod yX2_init ∈ BW := bw4 12 (by decide +kernel) rfl
set_option maxRecDepth 20000 in
theorem cw_X11_claimOf : Cond.code yX11_claimOf cX11_claimOf 4 (some .int) ∈ BW := bw4 35 rfl rfl
theorem im_X11_claimOf : Cond.instanceMethod yX11_claimOf ∈ BW := bw4 33 (by decide +kernel) rfl
theorem vm_X11_claimOf : VM yX11_claimOf cX11_claimOf 4 (some .int) 2 := ⟨cw_X11_claimOf, im_X11_claimOf, bw4 34 (by decide +kernel) rfl, iz_X11, by decide +kernel⟩
set_option maxRecDepth 20000 in
theorem cw_X3_find : Cond.code yX3_find cX3_find 2 (some (.object "LateClaims$Claim")) ∈ BW := bw4 39 rfl rfl
theorem im_X3_find : Cond.instanceMethod yX3_find ∈ BW := bw4 37 (by decide +kernel) rfl
theorem vm_X3_find : VM yX3_find cX3_find 2 (some (.object "LateClaims$Claim")) 1 := ⟨cw_X3_find, im_X3_find, bw4 38 (by decide +kernel) rfl, iz_X3, by decide +kernel⟩
set_option maxRecDepth 20000 in
theorem cw_X11_isBarred : Cond.code yX11_isBarred cX11_isBarred 3 (some .boolean) ∈ BW := bw4 44 rfl rfl
theorem im_X11_isBarred : Cond.instanceMethod yX11_isBarred ∈ BW := bw4 43 (by decide +kernel) rfl
theorem vm_X11_isBarred : VM yX11_isBarred cX11_isBarred 3 (some .boolean) 1 := ⟨cw_X11_isBarred, im_X11_isBarred, bw0 14 (by decide +kernel) rfl, iz_X11, by decide +kernel⟩
set_option maxRecDepth 20000 in
theorem cw_X8_arriveDay : Cond.code yX8_arriveDay cX8_arriveDay 1 (some .int) ∈ BW := bw4 48 rfl rfl
theorem im_X8_arriveDay : Cond.instanceMethod yX8_arriveDay ∈ BW := bw4 46 (by decide +kernel) rfl
theorem vm_X8_arriveDay : VM yX8_arriveDay cX8_arriveDay 1 (some .int) 0 := ⟨cw_X8_arriveDay, im_X8_arriveDay, bw4 47 (by decide +kernel) rfl, iz_X8, by decide +kernel⟩
set_option maxRecDepth 20000 in
theorem cw_X0_daysThatRan : Cond.code yX0_daysThatRan cX0_daysThatRan 9 (some .int) ∈ BW := bw4 52 rfl rfl
theorem im_X0_daysThatRan : Cond.instanceMethod yX0_daysThatRan ∈ BW := bw4 50 (by decide +kernel) rfl
theorem vm_X0_daysThatRan : VM yX0_daysThatRan cX0_daysThatRan 9 (some .int) 3 := ⟨cw_X0_daysThatRan, im_X0_daysThatRan, bw4 51 (by decide +kernel) rfl, iz_X0, by decide +kernel⟩
set_option maxRecDepth 20000 in
theorem cw_X0_nextStop : Cond.code yX0_nextStop cX0_nextStop 5 (some .int) ∈ BW := bw4 56 rfl rfl
theorem im_X0_nextStop : Cond.instanceMethod yX0_nextStop ∈ BW := bw4 55 (by decide +kernel) rfl
theorem vm_X0_nextStop : VM yX0_nextStop cX0_nextStop 5 (some .int) 2 := ⟨cw_X0_nextStop, im_X0_nextStop, bw0 15 (by decide +kernel) rfl, iz_X0, by decide +kernel⟩
set_option maxRecDepth 20000 in
theorem cw_X11_worthOf : Cond.code yX11_worthOf cX11_worthOf 2 (some .int) ∈ BW := bw4 62 rfl rfl
theorem im_X11_worthOf : Cond.instanceMethod yX11_worthOf ∈ BW := bw4 61 (by decide +kernel) rfl
theorem vm_X11_worthOf : VM yX11_worthOf cX11_worthOf 2 (some .int) 1 := ⟨cw_X11_worthOf, im_X11_worthOf, bw0 16 (by decide +kernel) rfl, iz_X11, by decide +kernel⟩
set_option maxRecDepth 20000 in
theorem cw_X11_owes : Cond.code yX11_owes cX11_owes 6 (some .int) ∈ BW := bw4 66 rfl rfl
theorem im_X11_owes : Cond.instanceMethod yX11_owes ∈ BW := bw4 64 (by decide +kernel) rfl
theorem vm_X11_owes : VM yX11_owes cX11_owes 6 (some .int) 3 := ⟨cw_X11_owes, im_X11_owes, bw4 65 (by decide +kernel) rfl, iz_X11, by decide +kernel⟩
set_option maxRecDepth 20000 in
theorem cw_X11_pay : Cond.code yX11_pay cX11_pay 5 (some .int) ∈ BW := bw4 70 rfl rfl
theorem im_X11_pay : Cond.instanceMethod yX11_pay ∈ BW := bw4 68 (by decide +kernel) rfl
theorem vm_X11_pay : VM yX11_pay cX11_pay 5 (some .int) 3 := ⟨cw_X11_pay, im_X11_pay, bw4 69 (by decide +kernel) rfl, iz_X11, by decide +kernel⟩
set_option maxRecDepth 20000 in
theorem cw_X11_due : Cond.code yX11_due cX11_due 4 (some .int) ∈ BW := bw4 75 rfl rfl
theorem im_X11_due : Cond.instanceMethod yX11_due ∈ BW := bw4 73 (by decide +kernel) rfl
theorem vm_X11_due : VM yX11_due cX11_due 4 (some .int) 2 := ⟨cw_X11_due, im_X11_due, bw4 74 (by decide +kernel) rfl, iz_X11, by decide +kernel⟩
set_option maxRecDepth 20000 in
theorem cw_X2_partOf : Cond.code yX2_partOf cX2_partOf 6 (some .int) ∈ BW := bw4 79 rfl rfl
theorem im_X2_partOf : Cond.instanceMethod yX2_partOf ∈ BW := bw4 77 (by decide +kernel) rfl
theorem vm_X2_partOf : VM yX2_partOf cX2_partOf 6 (some .int) 2 := ⟨cw_X2_partOf, im_X2_partOf, bw4 78 (by decide +kernel) rfl, iz_X2, by decide +kernel⟩
set_option maxRecDepth 20000 in
theorem cw_X11_balance : Cond.code yX11_balance cX11_balance 2 (some .int) ∈ BW := bw4 84 rfl rfl
theorem im_X11_balance : Cond.instanceMethod yX11_balance ∈ BW := bw4 82 (by decide +kernel) rfl
theorem vm_X11_balance : VM yX11_balance cX11_balance 2 (some .int) 1 := ⟨cw_X11_balance, im_X11_balance, bw4 83 (by decide +kernel) rfl, iz_X11, by decide +kernel⟩
set_option maxRecDepth 20000 in
theorem cw_X11_settleUp : Cond.code yX11_settleUp cX11_settleUp 4 none ∈ BW := bw4 88 rfl rfl
theorem im_X11_settleUp : Cond.instanceMethod yX11_settleUp ∈ BW := bw4 87 (by decide +kernel) rfl
theorem vm_X11_settleUp : VM yX11_settleUp cX11_settleUp 4 none 0 := ⟨cw_X11_settleUp, im_X11_settleUp, bw0 17 (by decide +kernel) rfl, iz_X11, by decide +kernel⟩
set_option maxRecDepth 20000 in
theorem cw_X3_addToBalances : Cond.code yX3_addToBalances cX3_addToBalances 4 none ∈ BW := bw4 93 rfl rfl
theorem im_X3_addToBalances : Cond.instanceMethod yX3_addToBalances ∈ BW := bw4 91 (by decide +kernel) rfl
theorem vm_X3_addToBalances : VM yX3_addToBalances cX3_addToBalances 4 none 2 := ⟨cw_X3_addToBalances, im_X3_addToBalances, bw4 92 (by decide +kernel) rfl, iz_X3, by decide +kernel⟩
set_option maxRecDepth 20000 in
theorem cw_X11_back : Cond.code yX11_back cX11_back 1 (some .int) ∈ BW := bw4 98 rfl rfl
theorem im_X11_back : Cond.instanceMethod yX11_back ∈ BW := bw4 96 (by decide +kernel) rfl
theorem vm_X11_back : VM yX11_back cX11_back 1 (some .int) 0 := ⟨cw_X11_back, im_X11_back, bw4 97 (by decide +kernel) rfl, iz_X11, by decide +kernel⟩
set_option maxRecDepth 20000 in
theorem cw_X3_fewestPayments : Cond.code yX3_fewestPayments cX3_fewestPayments 6 (some .int) ∈ BW := bw4 102 rfl rfl
theorem im_X3_fewestPayments : Cond.instanceMethod yX3_fewestPayments ∈ BW := bw4 100 (by decide +kernel) rfl
theorem vm_X3_fewestPayments : VM yX3_fewestPayments cX3_fewestPayments 6 (some .int) 0 := ⟨cw_X3_fewestPayments, im_X3_fewestPayments, bw4 101 (by decide +kernel) rfl, iz_X3, by decide +kernel⟩
set_option maxRecDepth 20000 in
theorem cw_X3_togetherIn : Cond.code yX3_togetherIn cX3_togetherIn 4 (some .int) ∈ BW := bw4 106 rfl rfl
theorem im_X3_togetherIn : Cond.instanceMethod yX3_togetherIn ∈ BW := bw4 105 (by decide +kernel) rfl
theorem vm_X3_togetherIn : VM yX3_togetherIn cX3_togetherIn 4 (some .int) 1 := ⟨cw_X3_togetherIn, im_X3_togetherIn, bw0 18 (by decide +kernel) rfl, iz_X3, by decide +kernel⟩
set_option maxRecDepth 20000 in
theorem cw_X11_judged : Cond.code yX11_judged cX11_judged 7 (some .int) ∈ BW := bw4 111 rfl rfl
theorem im_X11_judged : Cond.instanceMethod yX11_judged ∈ BW := bw4 109 (by decide +kernel) rfl
theorem vm_X11_judged : VM yX11_judged cX11_judged 7 (some .int) 6 := ⟨cw_X11_judged, im_X11_judged, bw4 110 (by decide +kernel) rfl, iz_X11, by decide +kernel⟩
set_option maxRecDepth 20000 in
theorem cw_X1_isFull : Cond.code yX1_isFull cX1_isFull 1 (some .boolean) ∈ BW := bw4 115 rfl rfl
theorem im_X1_isFull : Cond.instanceMethod yX1_isFull ∈ BW := bw4 113 (by decide +kernel) rfl
theorem vm_X1_isFull : VM yX1_isFull cX1_isFull 1 (some .boolean) 0 := ⟨cw_X1_isFull, im_X1_isFull, bw4 114 (by decide +kernel) rfl, iz_X1, by decide +kernel⟩
set_option maxRecDepth 20000 in
theorem cw_X1_add : Cond.code yX1_add cX1_add 7 (some .int) ∈ BW := bw4 119 rfl rfl
theorem im_X1_add : Cond.instanceMethod yX1_add ∈ BW := bw4 117 (by decide +kernel) rfl
theorem vm_X1_add : VM yX1_add cX1_add 7 (some .int) 6 := ⟨cw_X1_add, im_X1_add, bw4 118 (by decide +kernel) rfl, iz_X1, by decide +kernel⟩
set_option maxRecDepth 20000 in
theorem cw_X11_odds : Cond.code yX11_odds cX11_odds 4 (some .int) ∈ BW := bw4 123 rfl rfl
theorem im_X11_odds : Cond.instanceMethod yX11_odds ∈ BW := bw4 121 (by decide +kernel) rfl
theorem vm_X11_odds : VM yX11_odds cX11_odds 4 (some .int) 2 := ⟨cw_X11_odds, im_X11_odds, bw4 122 (by decide +kernel) rfl, iz_X11, by decide +kernel⟩
set_option maxRecDepth 20000 in
theorem cw_X11_chooseLike : Cond.code yX11_chooseLike cX11_chooseLike 4 none ∈ BW := bw4 127 rfl rfl
theorem im_X11_chooseLike : Cond.instanceMethod yX11_chooseLike ∈ BW := bw4 126 (by decide +kernel) rfl
theorem vm_X11_chooseLike : VM yX11_chooseLike cX11_chooseLike 4 none 1 := ⟨cw_X11_chooseLike, im_X11_chooseLike, bw0 19 (by decide +kernel) rfl, iz_X11, by decide +kernel⟩
set_option maxRecDepth 20000 in
theorem cw_X1_measure : Cond.code yX1_measure cX1_measure 8 none ∈ BW := bw4 131 rfl rfl
theorem im_X1_measure : Cond.instanceMethod yX1_measure ∈ BW := bw4 129 (by decide +kernel) rfl
theorem vm_X1_measure : VM yX1_measure cX1_measure 8 none 4 := ⟨cw_X1_measure, im_X1_measure, bw4 130 (by decide +kernel) rfl, iz_X1, by decide +kernel⟩
set_option maxRecDepth 20000 in
theorem cw_J9_abs_0f7a4 : Cond.code yJ9_abs_0f7a4 cJ9_abs_0f7a4 1 (some .int) ∈ BW := bw4 134 rfl rfl
theorem sm_J9_abs_0f7a4 : SM yJ9_abs_0f7a4 cJ9_abs_0f7a4 1 (some .int) 1 := ⟨cw_J9_abs_0f7a4, bw4 133 (by decide +kernel) rfl, iz_J9, by decide +kernel⟩
set_option maxRecDepth 20000 in
theorem cw_X1_choose : Cond.code yX1_choose cX1_choose 4 none ∈ BW := bw4 138 rfl rfl
theorem im_X1_choose : Cond.instanceMethod yX1_choose ∈ BW := bw4 136 (by decide +kernel) rfl
theorem vm_X1_choose : VM yX1_choose cX1_choose 4 none 1 := ⟨cw_X1_choose, im_X1_choose, bw4 137 (by decide +kernel) rfl, iz_X1, by decide +kernel⟩
set_option maxRecDepth 20000 in
theorem cw_X1_leastFar : Cond.code yX1_leastFar cX1_leastFar 3 (some .int) ∈ BW := bw4 142 rfl rfl
theorem im_X1_leastFar : Cond.instanceMethod yX1_leastFar ∈ BW := bw4 141 (by decide +kernel) rfl
theorem vm_X1_leastFar : VM yX1_leastFar cX1_leastFar 3 (some .int) 0 := ⟨cw_X1_leastFar, im_X1_leastFar, bw0 20 (by decide +kernel) rfl, iz_X1, by decide +kernel⟩
set_option maxRecDepth 20000 in
theorem cw_X1_goingOnTimesChosen : Cond.code yX1_goingOnTimesChosen cX1_goingOnTimesChosen 2 (some .int) ∈ BW := bw4 146 rfl rfl
theorem im_X1_goingOnTimesChosen : Cond.instanceMethod yX1_goingOnTimesChosen ∈ BW := bw4 144 (by decide +kernel) rfl
theorem vm_X1_goingOnTimesChosen : VM yX1_goingOnTimesChosen cX1_goingOnTimesChosen 2 (some .int) 1 := ⟨cw_X1_goingOnTimesChosen, im_X1_goingOnTimesChosen, bw4 145 (by decide +kernel) rfl, iz_X1, by decide +kernel⟩
set_option maxRecDepth 20000 in
theorem cw_X11_good : Cond.code yX11_good cX11_good 6 (some .int) ∈ BW := bw4 150 rfl rfl
theorem im_X11_good : Cond.instanceMethod yX11_good ∈ BW := bw4 148 (by decide +kernel) rfl
theorem vm_X11_good : VM yX11_good cX11_good 6 (some .int) 2 := ⟨cw_X11_good, im_X11_good, bw4 149 (by decide +kernel) rfl, iz_X11, by decide +kernel⟩
set_option maxRecDepth 20000 in
theorem cw_X11_count : Cond.code yX11_count cX11_count 2 (some .int) ∈ BW := bw4 154 rfl rfl
theorem im_X11_count : Cond.instanceMethod yX11_count ∈ BW := bw4 152 (by decide +kernel) rfl
theorem vm_X11_count : VM yX11_count cX11_count 2 (some .int) 1 := ⟨cw_X11_count, im_X11_count, bw4 153 (by decide +kernel) rfl, iz_X11, by decide +kernel⟩
set_option maxRecDepth 20000 in
theorem cw_X10_countLogged : Cond.code yX10_countLogged cX10_countLogged 3 (some .int) ∈ BW := bw4 158 rfl rfl
theorem im_X10_countLogged : Cond.instanceMethod yX10_countLogged ∈ BW := bw4 156 (by decide +kernel) rfl
theorem vm_X10_countLogged : VM yX10_countLogged cX10_countLogged 3 (some .int) 0 := ⟨cw_X10_countLogged, im_X10_countLogged, bw4 157 (by decide +kernel) rfl, iz_X10, by decide +kernel⟩
set_option maxRecDepth 20000 in
theorem cw_X11_countBarred : Cond.code yX11_countBarred cX11_countBarred 3 (some .int) ∈ BW := bw4 162 rfl rfl
theorem im_X11_countBarred : Cond.instanceMethod yX11_countBarred ∈ BW := bw4 161 (by decide +kernel) rfl
theorem vm_X11_countBarred : VM yX11_countBarred cX11_countBarred 3 (some .int) 0 := ⟨cw_X11_countBarred, im_X11_countBarred, bw0 21 (by decide +kernel) rfl, iz_X11, by decide +kernel⟩
set_option maxRecDepth 20000 in
theorem cw_X12_init : Cond.code yX12_init cX12_init 2 none ∈ BW := bw4 167 rfl rfl
theorem im_X12_init : Cond.instanceMethod yX12_init ∈ BW := bw4 166 (by decide +kernel) rfl
set_option maxRecDepth 20000 in
theorem cw_X12_days : Cond.code yX12_days cX12_days 2 (some .int) ∈ BW := bw5 113 rfl rfl
theorem im_X12_days : Cond.instanceMethod yX12_days ∈ BW := bw5 111 (by decide +kernel) rfl
theorem vm_X12_days : VM yX12_days cX12_days 2 (some .int) 1 := ⟨cw_X12_days, im_X12_days, bw5 112 (by decide +kernel) rfl, iz_X12, by decide +kernel⟩
set_option maxRecDepth 20000 in
theorem cw_X12_refuse : Cond.code yX12_refuse cX12_refuse 2 (some .int) ∈ BW := bw5 117 rfl rfl
theorem im_X12_refuse : Cond.instanceMethod yX12_refuse ∈ BW := bw5 116 (by decide +kernel) rfl
theorem vm_X12_refuse : VM yX12_refuse cX12_refuse 2 (some .int) 1 := ⟨cw_X12_refuse, im_X12_refuse, bw0 22 (by decide +kernel) rfl, iz_X12, by decide +kernel⟩
set_option maxRecDepth 20000 in
theorem cw_X12_land : Cond.code yX12_land cX12_land 4 (some .int) ∈ BW := bw5 121 rfl rfl
theorem im_X12_land : Cond.instanceMethod yX12_land ∈ BW := bw5 119 (by decide +kernel) rfl
theorem vm_X12_land : VM yX12_land cX12_land 4 (some .int) 2 := ⟨cw_X12_land, im_X12_land, bw5 120 (by decide +kernel) rfl, iz_X12, by decide +kernel⟩
set_option maxRecDepth 20000 in
theorem cw_X12_isPort : Cond.code yX12_isPort cX12_isPort 1 (some .boolean) ∈ BW := bw5 124 rfl rfl
theorem sm_X12_isPort : SM yX12_isPort cX12_isPort 1 (some .boolean) 1 := ⟨cw_X12_isPort, bw5 123 (by decide +kernel) rfl, iz_X12, by decide +kernel⟩
set_option maxRecDepth 20000 in
theorem cw_X12_in : Cond.code yX12_in cX12_in 3 (some .boolean) ∈ BW := bw5 127 rfl rfl
theorem sm_X12_in : SM yX12_in cX12_in 3 (some .boolean) 3 := ⟨cw_X12_in, bw5 126 (by decide +kernel) rfl, iz_X12, by decide +kernel⟩
set_option maxRecDepth 20000 in
theorem cw_X12_miles : Cond.code yX12_miles cX12_miles 5 (some .int) ∈ BW := bw5 131 rfl rfl
theorem im_X12_miles : Cond.instanceMethod yX12_miles ∈ BW := bw5 129 (by decide +kernel) rfl
theorem vm_X12_miles : VM yX12_miles cX12_miles 5 (some .int) 3 := ⟨cw_X12_miles, im_X12_miles, bw5 130 (by decide +kernel) rfl, iz_X12, by decide +kernel⟩
set_option maxRecDepth 20000 in
theorem cw_X12_seen : Cond.code yX12_seen cX12_seen 9 (some .int) ∈ BW := bw5 135 rfl rfl
theorem im_X12_seen : Cond.instanceMethod yX12_seen ∈ BW := bw5 133 (by decide +kernel) rfl
theorem vm_X12_seen : VM yX12_seen cX12_seen 9 (some .int) 3 := ⟨cw_X12_seen, im_X12_seen, bw5 134 (by decide +kernel) rfl, iz_X12, by decide +kernel⟩
set_option maxRecDepth 20000 in
theorem cw_X12_off : Cond.code yX12_off cX12_off 2 (some .int) ∈ BW := bw5 139 rfl rfl
theorem im_X12_off : Cond.instanceMethod yX12_off ∈ BW := bw5 137 (by decide +kernel) rfl
theorem vm_X12_off : VM yX12_off cX12_off 2 (some .int) 1 := ⟨cw_X12_off, im_X12_off, bw5 138 (by decide +kernel) rfl, iz_X12, by decide +kernel⟩
set_option maxRecDepth 20000 in
theorem cw_X12_refuseFar : Cond.code yX12_refuseFar cX12_refuseFar 2 (some .int) ∈ BW := bw5 143 rfl rfl
theorem im_X12_refuseFar : Cond.instanceMethod yX12_refuseFar ∈ BW := bw5 142 (by decide +kernel) rfl
theorem vm_X12_refuseFar : VM yX12_refuseFar cX12_refuseFar 2 (some .int) 1 := ⟨cw_X12_refuseFar, im_X12_refuseFar, bw0 23 (by decide +kernel) rfl, iz_X12, by decide +kernel⟩
set_option maxRecDepth 20000 in
theorem cw_X12_leg : Cond.code yX12_leg cX12_leg 7 (some .int) ∈ BW := bw5 148 rfl rfl
theorem im_X12_leg : Cond.instanceMethod yX12_leg ∈ BW := bw5 146 (by decide +kernel) rfl
theorem vm_X12_leg : VM yX12_leg cX12_leg 7 (some .int) 6 := ⟨cw_X12_leg, im_X12_leg, bw5 147 (by decide +kernel) rfl, iz_X12, by decide +kernel⟩
set_option maxRecDepth 20000 in
theorem cw_X12_log : Cond.code yX12_log cX12_log 5 (some .int) ∈ BW := bw5 152 rfl rfl
theorem im_X12_log : Cond.instanceMethod yX12_log ∈ BW := bw5 150 (by decide +kernel) rfl
theorem vm_X12_log : VM yX12_log cX12_log 5 (some .int) 3 := ⟨cw_X12_log, im_X12_log, bw5 151 (by decide +kernel) rfl, iz_X12, by decide +kernel⟩
set_option maxRecDepth 20000 in
theorem cw_X12_isLeg : Cond.code yX12_isLeg cX12_isLeg 2 (some .boolean) ∈ BW := bw5 156 rfl rfl
theorem im_X12_isLeg : Cond.instanceMethod yX12_isLeg ∈ BW := bw5 155 (by decide +kernel) rfl
theorem vm_X12_isLeg : VM yX12_isLeg cX12_isLeg 2 (some .boolean) 1 := ⟨cw_X12_isLeg, im_X12_isLeg, bw0 24 (by decide +kernel) rfl, iz_X12, by decide +kernel⟩
set_option maxRecDepth 20000 in
theorem cw_X12_cause : Cond.code yX12_cause cX12_cause 4 (some .int) ∈ BW := bw5 160 rfl rfl
theorem im_X12_cause : Cond.instanceMethod yX12_cause ∈ BW := bw5 158 (by decide +kernel) rfl
theorem vm_X12_cause : VM yX12_cause cX12_cause 4 (some .int) 2 := ⟨cw_X12_cause, im_X12_cause, bw5 159 (by decide +kernel) rfl, iz_X12, by decide +kernel⟩
set_option maxRecDepth 20000 in
theorem cw_X12_isCause : Cond.code yX12_isCause cX12_isCause 1 (some .boolean) ∈ BW := bw5 163 rfl rfl
theorem sm_X12_isCause : SM yX12_isCause cX12_isCause 1 (some .boolean) 1 := ⟨cw_X12_isCause, bw5 162 (by decide +kernel) rfl, iz_X12, by decide +kernel⟩
set_option maxRecDepth 20000 in
theorem cw_X12_set : Cond.code yX12_set cX12_set 4 (some .int) ∈ BW := bw5 167 rfl rfl
theorem im_X12_set : Cond.instanceMethod yX12_set ∈ BW := bw5 165 (by decide +kernel) rfl
theorem vm_X12_set : VM yX12_set cX12_set 4 (some .int) 2 := ⟨cw_X12_set, im_X12_set, bw5 166 (by decide +kernel) rfl, iz_X12, by decide +kernel⟩
set_option maxRecDepth 20000 in
theorem cw_X12_legOf : Cond.code yX12_legOf cX12_legOf 3 (some .int) ∈ BW := bw5 171 rfl rfl
theorem im_X12_legOf : Cond.instanceMethod yX12_legOf ∈ BW := bw5 169 (by decide +kernel) rfl
theorem vm_X12_legOf : VM yX12_legOf cX12_legOf 3 (some .int) 2 := ⟨cw_X12_legOf, im_X12_legOf, bw5 170 (by decide +kernel) rfl, iz_X12, by decide +kernel⟩
set_option maxRecDepth 20000 in
theorem cw_X12_lateOf : Cond.code yX12_lateOf cX12_lateOf 2 (some .int) ∈ BW := bw5 175 rfl rfl
theorem im_X12_lateOf : Cond.instanceMethod yX12_lateOf ∈ BW := bw5 174 (by decide +kernel) rfl
theorem vm_X12_lateOf : VM yX12_lateOf cX12_lateOf 2 (some .int) 1 := ⟨cw_X12_lateOf, im_X12_lateOf, bw0 25 (by decide +kernel) rfl, iz_X12, by decide +kernel⟩
set_option maxRecDepth 20000 in
theorem cw_X12_rightArrive : Cond.code yX12_rightArrive cX12_rightArrive 2 (some .int) ∈ BW := bw5 179 rfl rfl
theorem im_X12_rightArrive : Cond.instanceMethod yX12_rightArrive ∈ BW := bw5 178 (by decide +kernel) rfl
theorem vm_X12_rightArrive : VM yX12_rightArrive cX12_rightArrive 2 (some .int) 1 := ⟨cw_X12_rightArrive, im_X12_rightArrive, bw0 26 (by decide +kernel) rfl, iz_X12, by decide +kernel⟩
set_option maxRecDepth 20000 in
theorem cw_X12_over : Cond.code yX12_over cX12_over 1 (some .int) ∈ BW := bw5 182 rfl rfl
theorem sm_X12_over : SM yX12_over cX12_over 1 (some .int) 1 := ⟨cw_X12_over, bw5 181 (by decide +kernel) rfl, iz_X12, by decide +kernel⟩
set_option maxRecDepth 20000 in
theorem cw_X12_outlateOf : Cond.code yX12_outlateOf cX12_outlateOf 2 (some .int) ∈ BW := bw5 186 rfl rfl
theorem im_X12_outlateOf : Cond.instanceMethod yX12_outlateOf ∈ BW := bw5 185 (by decide +kernel) rfl
theorem vm_X12_outlateOf : VM yX12_outlateOf cX12_outlateOf 2 (some .int) 1 := ⟨cw_X12_outlateOf, im_X12_outlateOf, bw0 27 (by decide +kernel) rfl, iz_X12, by decide +kernel⟩
set_option maxRecDepth 20000 in
theorem cw_X12_rightLeave : Cond.code yX12_rightLeave cX12_rightLeave 2 (some .int) ∈ BW := bw5 190 rfl rfl
theorem im_X12_rightLeave : Cond.instanceMethod yX12_rightLeave ∈ BW := bw5 189 (by decide +kernel) rfl
theorem vm_X12_rightLeave : VM yX12_rightLeave cX12_rightLeave 2 (some .int) 1 := ⟨cw_X12_rightLeave, im_X12_rightLeave, bw0 28 (by decide +kernel) rfl, iz_X12, by decide +kernel⟩
set_option maxRecDepth 20000 in
theorem cw_X12_waitOf : Cond.code yX12_waitOf cX12_waitOf 5 (some .int) ∈ BW := bw5 194 rfl rfl
theorem im_X12_waitOf : Cond.instanceMethod yX12_waitOf ∈ BW := bw5 193 (by decide +kernel) rfl
theorem vm_X12_waitOf : VM yX12_waitOf cX12_waitOf 5 (some .int) 2 := ⟨cw_X12_waitOf, im_X12_waitOf, bw0 29 (by decide +kernel) rfl, iz_X12, by decide +kernel⟩
set_option maxRecDepth 20000 in
theorem cw_X12_aheadOf : Cond.code yX12_aheadOf cX12_aheadOf 8 (some .int) ∈ BW := bw5 198 rfl rfl
theorem im_X12_aheadOf : Cond.instanceMethod yX12_aheadOf ∈ BW := bw5 197 (by decide +kernel) rfl
theorem vm_X12_aheadOf : VM yX12_aheadOf cX12_aheadOf 8 (some .int) 2 := ⟨cw_X12_aheadOf, im_X12_aheadOf, bw0 30 (by decide +kernel) rfl, iz_X12, by decide +kernel⟩
set_option maxRecDepth 20000 in
theorem cw_X12_lesser : Cond.code yX12_lesser cX12_lesser 2 (some .int) ∈ BW := bw5 201 rfl rfl
theorem sm_X12_lesser : SM yX12_lesser cX12_lesser 2 (some .int) 2 := ⟨cw_X12_lesser, bw5 200 (by decide +kernel) rfl, iz_X12, by decide +kernel⟩
set_option maxRecDepth 20000 in
theorem cw_X12_handedOf : Cond.code yX12_handedOf cX12_handedOf 2 (some .int) ∈ BW := bw5 205 rfl rfl
theorem im_X12_handedOf : Cond.instanceMethod yX12_handedOf ∈ BW := bw5 204 (by decide +kernel) rfl
theorem vm_X12_handedOf : VM yX12_handedOf cX12_handedOf 2 (some .int) 1 := ⟨cw_X12_handedOf, im_X12_handedOf, bw0 31 (by decide +kernel) rfl, iz_X12, by decide +kernel⟩
set_option maxRecDepth 20000 in
theorem cw_X12_isByCrew : Cond.code yX12_isByCrew cX12_isByCrew 2 (some .boolean) ∈ BW := bw5 209 rfl rfl
theorem im_X12_isByCrew : Cond.instanceMethod yX12_isByCrew ∈ BW := bw5 208 (by decide +kernel) rfl
theorem vm_X12_isByCrew : VM yX12_isByCrew cX12_isByCrew 2 (some .boolean) 1 := ⟨cw_X12_isByCrew, im_X12_isByCrew, bw0 32 (by decide +kernel) rfl, iz_X12, by decide +kernel⟩
set_option maxRecDepth 20000 in
theorem cw_X12_ahead : Cond.code yX12_ahead cX12_ahead 4 (some .int) ∈ BW := bw5 213 rfl rfl
theorem im_X12_ahead : Cond.instanceMethod yX12_ahead ∈ BW := bw5 211 (by decide +kernel) rfl
theorem vm_X12_ahead : VM yX12_ahead cX12_ahead 4 (some .int) 2 := ⟨cw_X12_ahead, im_X12_ahead, bw5 212 (by decide +kernel) rfl, iz_X12, by decide +kernel⟩
set_option maxRecDepth 20000 in
theorem cw_X12_minutes : Cond.code yX12_minutes cX12_minutes 3 (some .int) ∈ BW := bw5 217 rfl rfl
theorem im_X12_minutes : Cond.instanceMethod yX12_minutes ∈ BW := bw5 215 (by decide +kernel) rfl
theorem vm_X12_minutes : VM yX12_minutes cX12_minutes 3 (some .int) 2 := ⟨cw_X12_minutes, im_X12_minutes, bw5 216 (by decide +kernel) rfl, iz_X12, by decide +kernel⟩
set_option maxRecDepth 20000 in
theorem cw_X12_findMinutes : Cond.code yX12_findMinutes cX12_findMinutes 5 none ∈ BW := bw5 221 rfl rfl
theorem im_X12_findMinutes : Cond.instanceMethod yX12_findMinutes ∈ BW := bw5 220 (by decide +kernel) rfl
theorem vm_X12_findMinutes : VM yX12_findMinutes cX12_findMinutes 5 none 1 := ⟨cw_X12_findMinutes, im_X12_findMinutes, bw0 33 (by decide +kernel) rfl, iz_X12, by decide +kernel⟩
set_option maxRecDepth 20000 in
theorem cw_X12_saved : Cond.code yX12_saved cX12_saved 4 (some .int) ∈ BW := bw5 225 rfl rfl
theorem im_X12_saved : Cond.instanceMethod yX12_saved ∈ BW := bw5 223 (by decide +kernel) rfl
theorem vm_X12_saved : VM yX12_saved cX12_saved 4 (some .int) 2 := ⟨cw_X12_saved, im_X12_saved, bw5 224 (by decide +kernel) rfl, iz_X12, by decide +kernel⟩
set_option maxRecDepth 20000 in
theorem cw_X12_traveller : Cond.code yX12_traveller cX12_traveller 2 (some .int) ∈ BW := bw5 229 rfl rfl
theorem im_X12_traveller : Cond.instanceMethod yX12_traveller ∈ BW := bw5 227 (by decide +kernel) rfl
theorem vm_X12_traveller : VM yX12_traveller cX12_traveller 2 (some .int) 1 := ⟨cw_X12_traveller, im_X12_traveller, bw5 228 (by decide +kernel) rfl, iz_X12, by decide +kernel⟩
set_option maxRecDepth 20000 in
theorem cw_X12_then : Cond.code yX12_then cX12_then 4 (some .int) ∈ BW := bw5 233 rfl rfl
theorem im_X12_then : Cond.instanceMethod yX12_then ∈ BW := bw5 231 (by decide +kernel) rfl
theorem vm_X12_then : VM yX12_then cX12_then 4 (some .int) 2 := ⟨cw_X12_then, im_X12_then, bw5 232 (by decide +kernel) rfl, iz_X12, by decide +kernel⟩
set_option maxRecDepth 20000 in
theorem cw_X12_isTraveller : Cond.code yX12_isTraveller cX12_isTraveller 2 (some .boolean) ∈ BW := bw5 237 rfl rfl
theorem im_X12_isTraveller : Cond.instanceMethod yX12_isTraveller ∈ BW := bw5 236 (by decide +kernel) rfl
theorem vm_X12_isTraveller : VM yX12_isTraveller cX12_isTraveller 2 (some .boolean) 1 := ⟨cw_X12_isTraveller, im_X12_isTraveller, bw0 34 (by decide +kernel) rfl, iz_X12, by decide +kernel⟩
set_option maxRecDepth 20000 in
theorem cw_X12_missed : Cond.code yX12_missed cX12_missed 3 (some .int) ∈ BW := bw6 1 rfl rfl
theorem im_X12_missed : Cond.instanceMethod yX12_missed ∈ BW := bw5 239 (by decide +kernel) rfl
theorem vm_X12_missed : VM yX12_missed cX12_missed 3 (some .int) 1 := ⟨cw_X12_missed, im_X12_missed, bw6 0 (by decide +kernel) rfl, iz_X12, by decide +kernel⟩
set_option maxRecDepth 20000 in
theorem cw_X12_missedOf : Cond.code yX12_missedOf cX12_missedOf 4 (some .int) ∈ BW := bw6 5 rfl rfl
theorem im_X12_missedOf : Cond.instanceMethod yX12_missedOf ∈ BW := bw6 4 (by decide +kernel) rfl
theorem vm_X12_missedOf : VM yX12_missedOf cX12_missedOf 4 (some .int) 1 := ⟨cw_X12_missedOf, im_X12_missedOf, bw0 35 (by decide +kernel) rfl, iz_X12, by decide +kernel⟩
set_option maxRecDepth 20000 in
theorem cw_X12_soonest : Cond.code yX12_soonest cX12_soonest 2 (some .int) ∈ BW := bw6 9 rfl rfl
theorem im_X12_soonest : Cond.instanceMethod yX12_soonest ∈ BW := bw6 7 (by decide +kernel) rfl
theorem vm_X12_soonest : VM yX12_soonest cX12_soonest 2 (some .int) 1 := ⟨cw_X12_soonest, im_X12_soonest, bw6 8 (by decide +kernel) rfl, iz_X12, by decide +kernel⟩
set_option maxRecDepth 20000 in
theorem cw_X12_soonestOf : Cond.code yX12_soonestOf cX12_soonestOf 9 (some .int) ∈ BW := bw6 13 rfl rfl
theorem im_X12_soonestOf : Cond.instanceMethod yX12_soonestOf ∈ BW := bw6 12 (by decide +kernel) rfl
theorem vm_X12_soonestOf : VM yX12_soonestOf cX12_soonestOf 9 (some .int) 1 := ⟨cw_X12_soonestOf, im_X12_soonestOf, bw0 36 (by decide +kernel) rfl, iz_X12, by decide +kernel⟩
set_option maxRecDepth 20000 in
theorem cw_X12_lastLeg : Cond.code yX12_lastLeg cX12_lastLeg 2 (some .int) ∈ BW := bw6 17 rfl rfl
theorem im_X12_lastLeg : Cond.instanceMethod yX12_lastLeg ∈ BW := bw6 16 (by decide +kernel) rfl
theorem vm_X12_lastLeg : VM yX12_lastLeg cX12_lastLeg 2 (some .int) 1 := ⟨cw_X12_lastLeg, im_X12_lastLeg, bw0 37 (by decide +kernel) rfl, iz_X12, by decide +kernel⟩
set_option maxRecDepth 20000 in
theorem cw_X12_hours : Cond.code yX12_hours cX12_hours 2 (some .int) ∈ BW := bw6 21 rfl rfl
theorem im_X12_hours : Cond.instanceMethod yX12_hours ∈ BW := bw6 19 (by decide +kernel) rfl
theorem vm_X12_hours : VM yX12_hours cX12_hours 2 (some .int) 1 := ⟨cw_X12_hours, im_X12_hours, bw6 20 (by decide +kernel) rfl, iz_X12, by decide +kernel⟩
set_option maxRecDepth 20000 in
theorem cw_X12_hoursOf : Cond.code yX12_hoursOf cX12_hoursOf 3 (some .int) ∈ BW := bw6 25 rfl rfl
theorem im_X12_hoursOf : Cond.instanceMethod yX12_hoursOf ∈ BW := bw6 24 (by decide +kernel) rfl
theorem vm_X12_hoursOf : VM yX12_hoursOf cX12_hoursOf 3 (some .int) 1 := ⟨cw_X12_hoursOf, im_X12_hoursOf, bw0 38 (by decide +kernel) rfl, iz_X12, by decide +kernel⟩
set_option maxRecDepth 20000 in
theorem cw_X12_blame : Cond.code yX12_blame cX12_blame 2 (some .int) ∈ BW := bw6 29 rfl rfl
theorem im_X12_blame : Cond.instanceMethod yX12_blame ∈ BW := bw6 27 (by decide +kernel) rfl
theorem vm_X12_blame : VM yX12_blame cX12_blame 2 (some .int) 1 := ⟨cw_X12_blame, im_X12_blame, bw6 28 (by decide +kernel) rfl, iz_X12, by decide +kernel⟩
set_option maxRecDepth 20000 in
theorem cw_X12_blameOf : Cond.code yX12_blameOf cX12_blameOf 6 (some .int) ∈ BW := bw6 33 rfl rfl
theorem im_X12_blameOf : Cond.instanceMethod yX12_blameOf ∈ BW := bw6 32 (by decide +kernel) rfl
theorem vm_X12_blameOf : VM yX12_blameOf cX12_blameOf 6 (some .int) 1 := ⟨cw_X12_blameOf, im_X12_blameOf, bw0 39 (by decide +kernel) rfl, iz_X12, by decide +kernel⟩
set_option maxRecDepth 20000 in
theorem cw_X12_law : Cond.code yX12_law cX12_law 6 (some .int) ∈ BW := bw6 37 rfl rfl
theorem im_X12_law : Cond.instanceMethod yX12_law ∈ BW := bw6 35 (by decide +kernel) rfl
theorem vm_X12_law : VM yX12_law cX12_law 6 (some .int) 5 := ⟨cw_X12_law, im_X12_law, bw6 36 (by decide +kernel) rfl, iz_X12, by decide +kernel⟩
set_option maxRecDepth 20000 in
theorem cw_X12_isLand : Cond.code yX12_isLand cX12_isLand 1 (some .boolean) ∈ BW := bw6 40 rfl rfl
theorem sm_X12_isLand : SM yX12_isLand cX12_isLand 1 (some .boolean) 1 := ⟨cw_X12_isLand, bw6 39 (by decide +kernel) rfl, iz_X12, by decide +kernel⟩
set_option maxRecDepth 20000 in
theorem cw_X12_excuse : Cond.code yX12_excuse cX12_excuse 5 (some .int) ∈ BW := bw6 44 rfl rfl
theorem im_X12_excuse : Cond.instanceMethod yX12_excuse ∈ BW := bw6 42 (by decide +kernel) rfl
theorem vm_X12_excuse : VM yX12_excuse cX12_excuse 5 (some .int) 4 := ⟨cw_X12_excuse, im_X12_excuse, bw6 43 (by decide +kernel) rfl, iz_X12, by decide +kernel⟩
set_option maxRecDepth 20000 in
theorem cw_X12_sum : Cond.code yX12_sum cX12_sum 4 (some .int) ∈ BW := bw6 48 rfl rfl
theorem im_X12_sum : Cond.instanceMethod yX12_sum ∈ BW := bw6 46 (by decide +kernel) rfl
theorem vm_X12_sum : VM yX12_sum cX12_sum 4 (some .int) 3 := ⟨cw_X12_sum, im_X12_sum, bw6 47 (by decide +kernel) rfl, iz_X12, by decide +kernel⟩
set_option maxRecDepth 20000 in
theorem cw_X12_sumOf : Cond.code yX12_sumOf cX12_sumOf 8 (some .int) ∈ BW := bw6 52 rfl rfl
theorem im_X12_sumOf : Cond.instanceMethod yX12_sumOf ∈ BW := bw6 51 (by decide +kernel) rfl
theorem vm_X12_sumOf : VM yX12_sumOf cX12_sumOf 8 (some .int) 2 := ⟨cw_X12_sumOf, im_X12_sumOf, bw0 40 (by decide +kernel) rfl, iz_X12, by decide +kernel⟩
set_option maxRecDepth 20000 in
theorem cw_X12_lawOf : Cond.code yX12_lawOf cX12_lawOf 5 (some .int) ∈ BW := bw6 56 rfl rfl
theorem im_X12_lawOf : Cond.instanceMethod yX12_lawOf ∈ BW := bw6 55 (by decide +kernel) rfl
theorem vm_X12_lawOf : VM yX12_lawOf cX12_lawOf 5 (some .int) 2 := ⟨cw_X12_lawOf, im_X12_lawOf, bw0 41 (by decide +kernel) rfl, iz_X12, by decide +kernel⟩
set_option maxRecDepth 20000 in
theorem cw_X12_firstLeg : Cond.code yX12_firstLeg cX12_firstLeg 2 (some .int) ∈ BW := bw6 60 rfl rfl
theorem im_X12_firstLeg : Cond.instanceMethod yX12_firstLeg ∈ BW := bw6 59 (by decide +kernel) rfl
theorem vm_X12_firstLeg : VM yX12_firstLeg cX12_firstLeg 2 (some .int) 1 := ⟨cw_X12_firstLeg, im_X12_firstLeg, bw0 42 (by decide +kernel) rfl, iz_X12, by decide +kernel⟩
set_option maxRecDepth 20000 in
theorem cw_X12_hasLaw : Cond.code yX12_hasLaw cX12_hasLaw 5 (some .boolean) ∈ BW := bw6 64 rfl rfl
theorem im_X12_hasLaw : Cond.instanceMethod yX12_hasLaw ∈ BW := bw6 63 (by decide +kernel) rfl
theorem vm_X12_hasLaw : VM yX12_hasLaw cX12_hasLaw 5 (some .boolean) 2 := ⟨cw_X12_hasLaw, im_X12_hasLaw, bw0 43 (by decide +kernel) rfl, iz_X12, by decide +kernel⟩
set_option maxRecDepth 20000 in
theorem cw_X12_isExcused : Cond.code yX12_isExcused cX12_isExcused 9 (some .boolean) ∈ BW := bw6 68 rfl rfl
theorem im_X12_isExcused : Cond.instanceMethod yX12_isExcused ∈ BW := bw6 67 (by decide +kernel) rfl
theorem vm_X12_isExcused : VM yX12_isExcused cX12_isExcused 9 (some .boolean) 2 := ⟨cw_X12_isExcused, im_X12_isExcused, bw0 44 (by decide +kernel) rfl, iz_X12, by decide +kernel⟩
set_option maxRecDepth 20000 in
theorem cw_X12_milesOf : Cond.code yX12_milesOf cX12_milesOf 2 (some .int) ∈ BW := bw6 72 rfl rfl
theorem im_X12_milesOf : Cond.instanceMethod yX12_milesOf ∈ BW := bw6 71 (by decide +kernel) rfl
theorem vm_X12_milesOf : VM yX12_milesOf cX12_milesOf 2 (some .int) 1 := ⟨cw_X12_milesOf, im_X12_milesOf, bw0 45 (by decide +kernel) rfl, iz_X12, by decide +kernel⟩
set_option maxRecDepth 20000 in
theorem cw_X12_bar : Cond.code yX12_bar cX12_bar 4 (some .int) ∈ BW := bw6 76 rfl rfl
theorem im_X12_bar : Cond.instanceMethod yX12_bar ∈ BW := bw6 74 (by decide +kernel) rfl
theorem vm_X12_bar : VM yX12_bar cX12_bar 4 (some .int) 2 := ⟨cw_X12_bar, im_X12_bar, bw6 75 (by decide +kernel) rfl, iz_X12, by decide +kernel⟩
set_option maxRecDepth 20000 in
theorem cw_X12_stop : Cond.code yX12_stop cX12_stop 4 (some .int) ∈ BW := bw6 80 rfl rfl
theorem im_X12_stop : Cond.instanceMethod yX12_stop ∈ BW := bw6 78 (by decide +kernel) rfl
theorem vm_X12_stop : VM yX12_stop cX12_stop 4 (some .int) 3 := ⟨cw_X12_stop, im_X12_stop, bw6 79 (by decide +kernel) rfl, iz_X12, by decide +kernel⟩
set_option maxRecDepth 20000 in
theorem cw_X12_claim : Cond.code yX12_claim cX12_claim 3 (some .int) ∈ BW := bw6 84 rfl rfl
theorem im_X12_claim : Cond.instanceMethod yX12_claim ∈ BW := bw6 82 (by decide +kernel) rfl
theorem vm_X12_claim : VM yX12_claim cX12_claim 3 (some .int) 1 := ⟨cw_X12_claim, im_X12_claim, bw6 83 (by decide +kernel) rfl, iz_X12, by decide +kernel⟩
set_option maxRecDepth 20000 in
theorem cw_X12_claimOf : Cond.code yX12_claimOf cX12_claimOf 3 (some .int) ∈ BW := bw6 88 rfl rfl
theorem im_X12_claimOf : Cond.instanceMethod yX12_claimOf ∈ BW := bw6 86 (by decide +kernel) rfl
theorem vm_X12_claimOf : VM yX12_claimOf cX12_claimOf 3 (some .int) 2 := ⟨cw_X12_claimOf, im_X12_claimOf, bw6 87 (by decide +kernel) rfl, iz_X12, by decide +kernel⟩
set_option maxRecDepth 20000 in
theorem cw_X12_isClaim : Cond.code yX12_isClaim cX12_isClaim 2 (some .boolean) ∈ BW := bw6 92 rfl rfl
theorem im_X12_isClaim : Cond.instanceMethod yX12_isClaim ∈ BW := bw6 91 (by decide +kernel) rfl
theorem vm_X12_isClaim : VM yX12_isClaim cX12_isClaim 2 (some .boolean) 1 := ⟨cw_X12_isClaim, im_X12_isClaim, bw0 46 (by decide +kernel) rfl, iz_X12, by decide +kernel⟩
set_option maxRecDepth 20000 in
theorem cw_X12_isBarred : Cond.code yX12_isBarred cX12_isBarred 8 (some .boolean) ∈ BW := bw6 96 rfl rfl
theorem im_X12_isBarred : Cond.instanceMethod yX12_isBarred ∈ BW := bw6 95 (by decide +kernel) rfl
theorem vm_X12_isBarred : VM yX12_isBarred cX12_isBarred 8 (some .boolean) 1 := ⟨cw_X12_isBarred, im_X12_isBarred, bw0 47 (by decide +kernel) rfl, iz_X12, by decide +kernel⟩
set_option maxRecDepth 20000 in
theorem cw_X12_worthOf : Cond.code yX12_worthOf cX12_worthOf 2 (some .int) ∈ BW := bw6 100 rfl rfl
theorem im_X12_worthOf : Cond.instanceMethod yX12_worthOf ∈ BW := bw6 99 (by decide +kernel) rfl
theorem vm_X12_worthOf : VM yX12_worthOf cX12_worthOf 2 (some .int) 1 := ⟨cw_X12_worthOf, im_X12_worthOf, bw0 48 (by decide +kernel) rfl, iz_X12, by decide +kernel⟩
set_option maxRecDepth 20000 in
theorem cw_X12_settledOf : Cond.code yX12_settledOf cX12_settledOf 4 (some .int) ∈ BW := bw6 104 rfl rfl
theorem im_X12_settledOf : Cond.instanceMethod yX12_settledOf ∈ BW := bw6 103 (by decide +kernel) rfl
theorem vm_X12_settledOf : VM yX12_settledOf cX12_settledOf 4 (some .int) 1 := ⟨cw_X12_settledOf, im_X12_settledOf, bw0 49 (by decide +kernel) rfl, iz_X12, by decide +kernel⟩
set_option maxRecDepth 20000 in
theorem cw_X12_owes : Cond.code yX12_owes cX12_owes 5 (some .int) ∈ BW := bw6 108 rfl rfl
theorem im_X12_owes : Cond.instanceMethod yX12_owes ∈ BW := bw6 106 (by decide +kernel) rfl
theorem vm_X12_owes : VM yX12_owes cX12_owes 5 (some .int) 3 := ⟨cw_X12_owes, im_X12_owes, bw6 107 (by decide +kernel) rfl, iz_X12, by decide +kernel⟩
set_option maxRecDepth 20000 in
theorem cw_X12_isPayer : Cond.code yX12_isPayer cX12_isPayer 1 (some .boolean) ∈ BW := bw6 111 rfl rfl
theorem sm_X12_isPayer : SM yX12_isPayer cX12_isPayer 1 (some .boolean) 1 := ⟨cw_X12_isPayer, bw6 110 (by decide +kernel) rfl, iz_X12, by decide +kernel⟩
set_option maxRecDepth 20000 in
theorem cw_X12_pay : Cond.code yX12_pay cX12_pay 4 (some .int) ∈ BW := bw6 115 rfl rfl
theorem im_X12_pay : Cond.instanceMethod yX12_pay ∈ BW := bw6 113 (by decide +kernel) rfl
theorem vm_X12_pay : VM yX12_pay cX12_pay 4 (some .int) 3 := ⟨cw_X12_pay, im_X12_pay, bw6 114 (by decide +kernel) rfl, iz_X12, by decide +kernel⟩
set_option maxRecDepth 20000 in
theorem cw_X12_due : Cond.code yX12_due cX12_due 3 (some .int) ∈ BW := bw6 120 rfl rfl
theorem im_X12_due : Cond.instanceMethod yX12_due ∈ BW := bw6 118 (by decide +kernel) rfl
theorem vm_X12_due : VM yX12_due cX12_due 3 (some .int) 2 := ⟨cw_X12_due, im_X12_due, bw6 119 (by decide +kernel) rfl, iz_X12, by decide +kernel⟩
set_option maxRecDepth 20000 in
theorem cw_X12_dueOf : Cond.code yX12_dueOf cX12_dueOf 6 (some .int) ∈ BW := bw6 124 rfl rfl
theorem im_X12_dueOf : Cond.instanceMethod yX12_dueOf ∈ BW := bw6 123 (by decide +kernel) rfl
theorem vm_X12_dueOf : VM yX12_dueOf cX12_dueOf 6 (some .int) 2 := ⟨cw_X12_dueOf, im_X12_dueOf, bw0 50 (by decide +kernel) rfl, iz_X12, by decide +kernel⟩
set_option maxRecDepth 20000 in
theorem cw_X12_balance : Cond.code yX12_balance cX12_balance 2 (some .int) ∈ BW := bw6 128 rfl rfl
theorem im_X12_balance : Cond.instanceMethod yX12_balance ∈ BW := bw6 126 (by decide +kernel) rfl
theorem vm_X12_balance : VM yX12_balance cX12_balance 2 (some .int) 1 := ⟨cw_X12_balance, im_X12_balance, bw6 127 (by decide +kernel) rfl, iz_X12, by decide +kernel⟩
set_option maxRecDepth 20000 in
theorem cw_X12_balanceOf : Cond.code yX12_balanceOf cX12_balanceOf 4 (some .int) ∈ BW := bw6 132 rfl rfl
theorem im_X12_balanceOf : Cond.instanceMethod yX12_balanceOf ∈ BW := bw6 131 (by decide +kernel) rfl
theorem vm_X12_balanceOf : VM yX12_balanceOf cX12_balanceOf 4 (some .int) 1 := ⟨cw_X12_balanceOf, im_X12_balanceOf, bw0 51 (by decide +kernel) rfl, iz_X12, by decide +kernel⟩
set_option maxRecDepth 20000 in
theorem cw_X12_back : Cond.code yX12_back cX12_back 6 (some .int) ∈ BW := bw6 136 rfl rfl
theorem im_X12_back : Cond.instanceMethod yX12_back ∈ BW := bw6 134 (by decide +kernel) rfl
theorem vm_X12_back : VM yX12_back cX12_back 6 (some .int) 0 := ⟨cw_X12_back, im_X12_back, bw6 135 (by decide +kernel) rfl, iz_X12, by decide +kernel⟩
set_option maxRecDepth 20000 in
theorem cw_X12_judged : Cond.code yX12_judged cX12_judged 7 (some .int) ∈ BW := bw6 140 rfl rfl
theorem im_X12_judged : Cond.instanceMethod yX12_judged ∈ BW := bw6 138 (by decide +kernel) rfl
theorem vm_X12_judged : VM yX12_judged cX12_judged 7 (some .int) 6 := ⟨cw_X12_judged, im_X12_judged, bw6 139 (by decide +kernel) rfl, iz_X12, by decide +kernel⟩
set_option maxRecDepth 20000 in
theorem cw_X12_odds : Cond.code yX12_odds cX12_odds 3 (some .int) ∈ BW := bw6 144 rfl rfl
theorem im_X12_odds : Cond.instanceMethod yX12_odds ∈ BW := bw6 142 (by decide +kernel) rfl
theorem vm_X12_odds : VM yX12_odds cX12_odds 3 (some .int) 2 := ⟨cw_X12_odds, im_X12_odds, bw6 143 (by decide +kernel) rfl, iz_X12, by decide +kernel⟩
set_option maxRecDepth 20000 in
theorem cw_X12_findLike : Cond.code yX12_findLike cX12_findLike 10 none ∈ BW := bw6 148 rfl rfl
theorem im_X12_findLike : Cond.instanceMethod yX12_findLike ∈ BW := bw6 147 (by decide +kernel) rfl
theorem vm_X12_findLike : VM yX12_findLike cX12_findLike 10 none 1 := ⟨cw_X12_findLike, im_X12_findLike, bw0 52 (by decide +kernel) rfl, iz_X12, by decide +kernel⟩
set_option maxRecDepth 20000 in
theorem cw_X12_amount : Cond.code yX12_amount cX12_amount 1 (some .int) ∈ BW := bw6 151 rfl rfl
theorem sm_X12_amount : SM yX12_amount cX12_amount 1 (some .int) 1 := ⟨cw_X12_amount, bw6 150 (by decide +kernel) rfl, iz_X12, by decide +kernel⟩
set_option maxRecDepth 20000 in
theorem cw_X12_good : Cond.code yX12_good cX12_good 5 (some .int) ∈ BW := bw6 155 rfl rfl
theorem im_X12_good : Cond.instanceMethod yX12_good ∈ BW := bw6 153 (by decide +kernel) rfl
theorem vm_X12_good : VM yX12_good cX12_good 5 (some .int) 2 := ⟨cw_X12_good, im_X12_good, bw6 154 (by decide +kernel) rfl, iz_X12, by decide +kernel⟩
set_option maxRecDepth 20000 in
theorem cw_X12_count : Cond.code yX12_count cX12_count 4 (some .int) ∈ BW := bw6 159 rfl rfl
theorem im_X12_count : Cond.instanceMethod yX12_count ∈ BW := bw6 157 (by decide +kernel) rfl
theorem vm_X12_count : VM yX12_count cX12_count 4 (some .int) 1 := ⟨cw_X12_count, im_X12_count, bw6 158 (by decide +kernel) rfl, iz_X12, by decide +kernel⟩
