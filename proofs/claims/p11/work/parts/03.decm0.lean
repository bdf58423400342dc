def tdaX12_init_0 : List (Nat × (Instr × Nat)) := [(0, .aload_n 0, 1), (1, .invokespecial 1, 3), (4, .aload_n 0, 1), (5, .bipush 10, 2), (7, .newarray .int, 2), (9, .putfield 7, 3), (12, .aload_n 0, 1), (13, .bipush 100, 2), (15, .newarray .int, 2), (17, .putfield 13, 3), (20, .aload_n 0, 1), (21, .bipush 10, 2), (23, .newarray .int, 2), (25, .dup, 1), (26, .iconst 0, 1), (27, .iconst 0, 1), (28, .iastore, 1), (29, .dup, 1), (30, .iconst 1, 1), (31, .iconst 1, 1), (32, .iastore, 1), (33, .dup, 1), (34, .iconst 2, 1), (35, .iconst 2, 1), (36, .iastore, 1), (37, .dup, 1), (38, .iconst 3, 1), (39, .iconst 3, 1), (40, .iastore, 1), (41, .dup, 1), (42, .iconst 4, 1), (43, .iconst 4, 1), (44, .iastore, 1), (45, .dup, 1), (46, .iconst 5, 1), (47, .iconst 5, 1), (48, .iastore, 1), (49, .dup, 1), (50, .bipush 6, 2), (52, .bipush 6, 2)]
theorem daX12_init_0 : tdaX12_init_0.all (fun q => decide (decode cX12_init q.1 = .ok q.2)) = true := by decide +kernel
theorem dX12_init_0 : decode cX12_init 0 = .ok (.aload_n 0, 1) := dget daX12_init_0 0 (q := (0, .aload_n 0, 1)) rfl
theorem dX12_init_1 : decode cX12_init 1 = .ok (.invokespecial 1, 3) := dget daX12_init_0 1 (q := (1, .invokespecial 1, 3)) rfl
theorem dX12_init_4 : decode cX12_init 4 = .ok (.aload_n 0, 1) := dget daX12_init_0 2 (q := (4, .aload_n 0, 1)) rfl
theorem dX12_init_5 : decode cX12_init 5 = .ok (.bipush 10, 2) := dget daX12_init_0 3 (q := (5, .bipush 10, 2)) rfl
theorem dX12_init_7 : decode cX12_init 7 = .ok (.newarray .int, 2) := dget daX12_init_0 4 (q := (7, .newarray .int, 2)) rfl
theorem dX12_init_9 : decode cX12_init 9 = .ok (.putfield 7, 3) := dget daX12_init_0 5 (q := (9, .putfield 7, 3)) rfl
theorem dX12_init_12 : decode cX12_init 12 = .ok (.aload_n 0, 1) := dget daX12_init_0 6 (q := (12, .aload_n 0, 1)) rfl
theorem dX12_init_13 : decode cX12_init 13 = .ok (.bipush 100, 2) := dget daX12_init_0 7 (q := (13, .bipush 100, 2)) rfl
theorem dX12_init_15 : decode cX12_init 15 = .ok (.newarray .int, 2) := dget daX12_init_0 8 (q := (15, .newarray .int, 2)) rfl
theorem dX12_init_17 : decode cX12_init 17 = .ok (.putfield 13, 3) := dget daX12_init_0 9 (q := (17, .putfield 13, 3)) rfl
theorem dX12_init_20 : decode cX12_init 20 = .ok (.aload_n 0, 1) := dget daX12_init_0 10 (q := (20, .aload_n 0, 1)) rfl
theorem dX12_init_21 : decode cX12_init 21 = .ok (.bipush 10, 2) := dget daX12_init_0 11 (q := (21, .bipush 10, 2)) rfl
theorem dX12_init_23 : decode cX12_init 23 = .ok (.newarray .int, 2) := dget daX12_init_0 12 (q := (23, .newarray .int, 2)) rfl
theorem dX12_init_25 : decode cX12_init 25 = .ok (.dup, 1) := dget daX12_init_0 13 (q := (25, .dup, 1)) rfl
theorem dX12_init_26 : decode cX12_init 26 = .ok (.iconst 0, 1) := dget daX12_init_0 14 (q := (26, .iconst 0, 1)) rfl
theorem dX12_init_27 : decode cX12_init 27 = .ok (.iconst 0, 1) := dget daX12_init_0 15 (q := (27, .iconst 0, 1)) rfl
theorem dX12_init_28 : decode cX12_init 28 = .ok (.iastore, 1) := dget daX12_init_0 16 (q := (28, .iastore, 1)) rfl
theorem dX12_init_29 : decode cX12_init 29 = .ok (.dup, 1) := dget daX12_init_0 17 (q := (29, .dup, 1)) rfl
theorem dX12_init_30 : decode cX12_init 30 = .ok (.iconst 1, 1) := dget daX12_init_0 18 (q := (30, .iconst 1, 1)) rfl
theorem dX12_init_31 : decode cX12_init 31 = .ok (.iconst 1, 1) := dget daX12_init_0 19 (q := (31, .iconst 1, 1)) rfl
theorem dX12_init_32 : decode cX12_init 32 = .ok (.iastore, 1) := dget daX12_init_0 20 (q := (32, .iastore, 1)) rfl
theorem dX12_init_33 : decode cX12_init 33 = .ok (.dup, 1) := dget daX12_init_0 21 (q := (33, .dup, 1)) rfl
theorem dX12_init_34 : decode cX12_init 34 = .ok (.iconst 2, 1) := dget daX12_init_0 22 (q := (34, .iconst 2, 1)) rfl
theorem dX12_init_35 : decode cX12_init 35 = .ok (.iconst 2, 1) := dget daX12_init_0 23 (q := (35, .iconst 2, 1)) rfl
theorem dX12_init_36 : decode cX12_init 36 = .ok (.iastore, 1) := dget daX12_init_0 24 (q := (36, .iastore, 1)) rfl
theorem dX12_init_37 : decode cX12_init 37 = .ok (.dup, 1) := dget daX12_init_0 25 (q := (37, .dup, 1)) rfl
theorem dX12_init_38 : decode cX12_init 38 = .ok (.iconst 3, 1) := dget daX12_init_0 26 (q := (38, .iconst 3, 1)) rfl
theorem dX12_init_39 : decode cX12_init 39 = .ok (.iconst 3, 1) := dget daX12_init_0 27 (q := (39, .iconst 3, 1)) rfl
theorem dX12_init_40 : decode cX12_init 40 = .ok (.iastore, 1) := dget daX12_init_0 28 (q := (40, .iastore, 1)) rfl
theorem dX12_init_41 : decode cX12_init 41 = .ok (.dup, 1) := dget daX12_init_0 29 (q := (41, .dup, 1)) rfl
theorem dX12_init_42 : decode cX12_init 42 = .ok (.iconst 4, 1) := dget daX12_init_0 30 (q := (42, .iconst 4, 1)) rfl
theorem dX12_init_43 : decode cX12_init 43 = .ok (.iconst 4, 1) := dget daX12_init_0 31 (q := (43, .iconst 4, 1)) rfl
theorem dX12_init_44 : decode cX12_init 44 = .ok (.iastore, 1) := dget daX12_init_0 32 (q := (44, .iastore, 1)) rfl
theorem dX12_init_45 : decode cX12_init 45 = .ok (.dup, 1) := dget daX12_init_0 33 (q := (45, .dup, 1)) rfl
theorem dX12_init_46 : decode cX12_init 46 = .ok (.iconst 5, 1) := dget daX12_init_0 34 (q := (46, .iconst 5, 1)) rfl
theorem dX12_init_47 : decode cX12_init 47 = .ok (.iconst 5, 1) := dget daX12_init_0 35 (q := (47, .iconst 5, 1)) rfl
theorem dX12_init_48 : decode cX12_init 48 = .ok (.iastore, 1) := dget daX12_init_0 36 (q := (48, .iastore, 1)) rfl
theorem dX12_init_49 : decode cX12_init 49 = .ok (.dup, 1) := dget daX12_init_0 37 (q := (49, .dup, 1)) rfl
theorem dX12_init_50 : decode cX12_init 50 = .ok (.bipush 6, 2) := dget daX12_init_0 38 (q := (50, .bipush 6, 2)) rfl
theorem dX12_init_52 : decode cX12_init 52 = .ok (.bipush 6, 2) := dget daX12_init_0 39 (q := (52, .bipush 6, 2)) rfl
def tdaX12_init_1 : List (Nat × (Instr × Nat)) := [(54, .iastore, 1), (55, .dup, 1), (56, .bipush 7, 2), (58, .bipush 7, 2), (60, .iastore, 1), (61, .dup, 1), (62, .bipush 8, 2), (64, .bipush 8, 2), (66, .iastore, 1), (67, .dup, 1), (68, .bipush 9, 2), (70, .bipush 9, 2), (72, .iastore, 1), (73, .putfield 16, 3), (76, .aload_n 0, 1), (77, .bipush 10, 2), (79, .newarray .int, 2), (81, .putfield 19, 3), (84, .aload_n 0, 1), (85, .bipush 40, 2), (87, .newarray .int, 2), (89, .putfield 22, 3), (92, .aload_n 0, 1), (93, .bipush 40, 2), (95, .newarray .int, 2), (97, .putfield 25, 3), (100, .aload_n 0, 1), (101, .bipush 40, 2), (103, .newarray .int, 2), (105, .putfield 28, 3), (108, .aload_n 0, 1), (109, .bipush 40, 2), (111, .newarray .int, 2), (113, .putfield 31, 3), (116, .aload_n 0, 1), (117, .bipush 40, 2), (119, .newarray .int, 2), (121, .putfield 34, 3), (124, .aload_n 0, 1), (125, .bipush 40, 2)]
theorem daX12_init_1 : tdaX12_init_1.all (fun q => decide (decode cX12_init q.1 = .ok q.2)) = true := by decide +kernel
theorem dX12_init_54 : decode cX12_init 54 = .ok (.iastore, 1) := dget daX12_init_1 0 (q := (54, .iastore, 1)) rfl
theorem dX12_init_55 : decode cX12_init 55 = .ok (.dup, 1) := dget daX12_init_1 1 (q := (55, .dup, 1)) rfl
theorem dX12_init_56 : decode cX12_init 56 = .ok (.bipush 7, 2) := dget daX12_init_1 2 (q := (56, .bipush 7, 2)) rfl
theorem dX12_init_58 : decode cX12_init 58 = .ok (.bipush 7, 2) := dget daX12_init_1 3 (q := (58, .bipush 7, 2)) rfl
theorem dX12_init_60 : decode cX12_init 60 = .ok (.iastore, 1) := dget daX12_init_1 4 (q := (60, .iastore, 1)) rfl
theorem dX12_init_61 : decode cX12_init 61 = .ok (.dup, 1) := dget daX12_init_1 5 (q := (61, .dup, 1)) rfl
theorem dX12_init_62 : decode cX12_init 62 = .ok (.bipush 8, 2) := dget daX12_init_1 6 (q := (62, .bipush 8, 2)) rfl
theorem dX12_init_64 : decode cX12_init 64 = .ok (.bipush 8, 2) := dget daX12_init_1 7 (q := (64, .bipush 8, 2)) rfl
theorem dX12_init_66 : decode cX12_init 66 = .ok (.iastore, 1) := dget daX12_init_1 8 (q := (66, .iastore, 1)) rfl
theorem dX12_init_67 : decode cX12_init 67 = .ok (.dup, 1) := dget daX12_init_1 9 (q := (67, .dup, 1)) rfl
theorem dX12_init_68 : decode cX12_init 68 = .ok (.bipush 9, 2) := dget daX12_init_1 10 (q := (68, .bipush 9, 2)) rfl
theorem dX12_init_70 : decode cX12_init 70 = .ok (.bipush 9, 2) := dget daX12_init_1 11 (q := (70, .bipush 9, 2)) rfl
theorem dX12_init_72 : decode cX12_init 72 = .ok (.iastore, 1) := dget daX12_init_1 12 (q := (72, .iastore, 1)) rfl
theorem dX12_init_73 : decode cX12_init 73 = .ok (.putfield 16, 3) := dget daX12_init_1 13 (q := (73, .putfield 16, 3)) rfl
theorem dX12_init_76 : decode cX12_init 76 = .ok (.aload_n 0, 1) := dget daX12_init_1 14 (q := (76, .aload_n 0, 1)) rfl
theorem dX12_init_77 : decode cX12_init 77 = .ok (.bipush 10, 2) := dget daX12_init_1 15 (q := (77, .bipush 10, 2)) rfl
theorem dX12_init_79 : decode cX12_init 79 = .ok (.newarray .int, 2) := dget daX12_init_1 16 (q := (79, .newarray .int, 2)) rfl
theorem dX12_init_81 : decode cX12_init 81 = .ok (.putfield 19, 3) := dget daX12_init_1 17 (q := (81, .putfield 19, 3)) rfl
theorem dX12_init_84 : decode cX12_init 84 = .ok (.aload_n 0, 1) := dget daX12_init_1 18 (q := (84, .aload_n 0, 1)) rfl
theorem dX12_init_85 : decode cX12_init 85 = .ok (.bipush 40, 2) := dget daX12_init_1 19 (q := (85, .bipush 40, 2)) rfl
theorem dX12_init_87 : decode cX12_init 87 = .ok (.newarray .int, 2) := dget daX12_init_1 20 (q := (87, .newarray .int, 2)) rfl
theorem dX12_init_89 : decode cX12_init 89 = .ok (.putfield 22, 3) := dget daX12_init_1 21 (q := (89, .putfield 22, 3)) rfl
theorem dX12_init_92 : decode cX12_init 92 = .ok (.aload_n 0, 1) := dget daX12_init_1 22 (q := (92, .aload_n 0, 1)) rfl
theorem dX12_init_93 : decode cX12_init 93 = .ok (.bipush 40, 2) := dget daX12_init_1 23 (q := (93, .bipush 40, 2)) rfl
theorem dX12_init_95 : decode cX12_init 95 = .ok (.newarray .int, 2) := dget daX12_init_1 24 (q := (95, .newarray .int, 2)) rfl
theorem dX12_init_97 : decode cX12_init 97 = .ok (.putfield 25, 3) := dget daX12_init_1 25 (q := (97, .putfield 25, 3)) rfl
theorem dX12_init_100 : decode cX12_init 100 = .ok (.aload_n 0, 1) := dget daX12_init_1 26 (q := (100, .aload_n 0, 1)) rfl
theorem dX12_init_101 : decode cX12_init 101 = .ok (.bipush 40, 2) := dget daX12_init_1 27 (q := (101, .bipush 40, 2)) rfl
theorem dX12_init_103 : decode cX12_init 103 = .ok (.newarray .int, 2) := dget daX12_init_1 28 (q := (103, .newarray .int, 2)) rfl
theorem dX12_init_105 : decode cX12_init 105 = .ok (.putfield 28, 3) := dget daX12_init_1 29 (q := (105, .putfield 28, 3)) rfl
theorem dX12_init_108 : decode cX12_init 108 = .ok (.aload_n 0, 1) := dget daX12_init_1 30 (q := (108, .aload_n 0, 1)) rfl
theorem dX12_init_109 : decode cX12_init 109 = .ok (.bipush 40, 2) := dget daX12_init_1 31 (q := (109, .bipush 40, 2)) rfl
theorem dX12_init_111 : decode cX12_init 111 = .ok (.newarray .int, 2) := dget daX12_init_1 32 (q := (111, .newarray .int, 2)) rfl
theorem dX12_init_113 : decode cX12_init 113 = .ok (.putfield 31, 3) := dget daX12_init_1 33 (q := (113, .putfield 31, 3)) rfl
theorem dX12_init_116 : decode cX12_init 116 = .ok (.aload_n 0, 1) := dget daX12_init_1 34 (q := (116, .aload_n 0, 1)) rfl
theorem dX12_init_117 : decode cX12_init 117 = .ok (.bipush 40, 2) := dget daX12_init_1 35 (q := (117, .bipush 40, 2)) rfl
theorem dX12_init_119 : decode cX12_init 119 = .ok (.newarray .int, 2) := dget daX12_init_1 36 (q := (119, .newarray .int, 2)) rfl
theorem dX12_init_121 : decode cX12_init 121 = .ok (.putfield 34, 3) := dget daX12_init_1 37 (q := (121, .putfield 34, 3)) rfl
theorem dX12_init_124 : decode cX12_init 124 = .ok (.aload_n 0, 1) := dget daX12_init_1 38 (q := (124, .aload_n 0, 1)) rfl
theorem dX12_init_125 : decode cX12_init 125 = .ok (.bipush 40, 2) := dget daX12_init_1 39 (q := (125, .bipush 40, 2)) rfl
def tdaX12_init_2 : List (Nat × (Instr × Nat)) := [(127, .newarray .int, 2), (129, .putfield 37, 3), (132, .aload_n 0, 1), (133, .bipush 40, 2), (135, .newarray .boolean, 2), (137, .putfield 40, 3), (140, .aload_n 0, 1), (141, .bipush 40, 2), (143, .newarray .int, 2), (145, .putfield 44, 3), (148, .aload_n 0, 1), (149, .bipush 40, 2), (151, .newarray .int, 2), (153, .putfield 47, 3), (156, .aload_n 0, 1), (157, .bipush 40, 2), (159, .newarray .int, 2), (161, .putfield 50, 3), (164, .aload_n 0, 1), (165, .iconst 4, 1), (166, .newarray .int, 2), (168, .dup, 1), (169, .iconst 0, 1), (170, .bipush 30, 2), (172, .iastore, 1), (173, .dup, 1), (174, .iconst 1, 1), (175, .bipush 60, 2), (177, .iastore, 1), (178, .dup, 1), (179, .iconst 2, 1), (180, .bipush 45, 2), (182, .iastore, 1), (183, .dup, 1), (184, .iconst 3, 1), (185, .iconst 5, 1), (186, .iastore, 1), (187, .putfield 53, 3), (190, .aload_n 0, 1), (191, .bipush 7, 2)]
theorem daX12_init_2 : tdaX12_init_2.all (fun q => decide (decode cX12_init q.1 = .ok q.2)) = true := by decide +kernel
theorem dX12_init_127 : decode cX12_init 127 = .ok (.newarray .int, 2) := dget daX12_init_2 0 (q := (127, .newarray .int, 2)) rfl
theorem dX12_init_129 : decode cX12_init 129 = .ok (.putfield 37, 3) := dget daX12_init_2 1 (q := (129, .putfield 37, 3)) rfl
theorem dX12_init_132 : decode cX12_init 132 = .ok (.aload_n 0, 1) := dget daX12_init_2 2 (q := (132, .aload_n 0, 1)) rfl
theorem dX12_init_133 : decode cX12_init 133 = .ok (.bipush 40, 2) := dget daX12_init_2 3 (q := (133, .bipush 40, 2)) rfl
theorem dX12_init_135 : decode cX12_init 135 = .ok (.newarray .boolean, 2) := dget daX12_init_2 4 (q := (135, .newarray .boolean, 2)) rfl
theorem dX12_init_137 : decode cX12_init 137 = .ok (.putfield 40, 3) := dget daX12_init_2 5 (q := (137, .putfield 40, 3)) rfl
theorem dX12_init_140 : decode cX12_init 140 = .ok (.aload_n 0, 1) := dget daX12_init_2 6 (q := (140, .aload_n 0, 1)) rfl
theorem dX12_init_141 : decode cX12_init 141 = .ok (.bipush 40, 2) := dget daX12_init_2 7 (q := (141, .bipush 40, 2)) rfl
theorem dX12_init_143 : decode cX12_init 143 = .ok (.newarray .int, 2) := dget daX12_init_2 8 (q := (143, .newarray .int, 2)) rfl
theorem dX12_init_145 : decode cX12_init 145 = .ok (.putfield 44, 3) := dget daX12_init_2 9 (q := (145, .putfield 44, 3)) rfl
theorem dX12_init_148 : decode cX12_init 148 = .ok (.aload_n 0, 1) := dget daX12_init_2 10 (q := (148, .aload_n 0, 1)) rfl
theorem dX12_init_149 : decode cX12_init 149 = .ok (.bipush 40, 2) := dget daX12_init_2 11 (q := (149, .bipush 40, 2)) rfl
theorem dX12_init_151 : decode cX12_init 151 = .ok (.newarray .int, 2) := dget daX12_init_2 12 (q := (151, .newarray .int, 2)) rfl
theorem dX12_init_153 : decode cX12_init 153 = .ok (.putfield 47, 3) := dget daX12_init_2 13 (q := (153, .putfield 47, 3)) rfl
theorem dX12_init_156 : decode cX12_init 156 = .ok (.aload_n 0, 1) := dget daX12_init_2 14 (q := (156, .aload_n 0, 1)) rfl
theorem dX12_init_157 : decode cX12_init 157 = .ok (.bipush 40, 2) := dget daX12_init_2 15 (q := (157, .bipush 40, 2)) rfl
theorem dX12_init_159 : decode cX12_init 159 = .ok (.newarray .int, 2) := dget daX12_init_2 16 (q := (159, .newarray .int, 2)) rfl
theorem dX12_init_161 : decode cX12_init 161 = .ok (.putfield 50, 3) := dget daX12_init_2 17 (q := (161, .putfield 50, 3)) rfl
theorem dX12_init_164 : decode cX12_init 164 = .ok (.aload_n 0, 1) := dget daX12_init_2 18 (q := (164, .aload_n 0, 1)) rfl
theorem dX12_init_165 : decode cX12_init 165 = .ok (.iconst 4, 1) := dget daX12_init_2 19 (q := (165, .iconst 4, 1)) rfl
theorem dX12_init_166 : decode cX12_init 166 = .ok (.newarray .int, 2) := dget daX12_init_2 20 (q := (166, .newarray .int, 2)) rfl
theorem dX12_init_168 : decode cX12_init 168 = .ok (.dup, 1) := dget daX12_init_2 21 (q := (168, .dup, 1)) rfl
theorem dX12_init_169 : decode cX12_init 169 = .ok (.iconst 0, 1) := dget daX12_init_2 22 (q := (169, .iconst 0, 1)) rfl
theorem dX12_init_170 : decode cX12_init 170 = .ok (.bipush 30, 2) := dget daX12_init_2 23 (q := (170, .bipush 30, 2)) rfl
theorem dX12_init_172 : decode cX12_init 172 = .ok (.iastore, 1) := dget daX12_init_2 24 (q := (172, .iastore, 1)) rfl
theorem dX12_init_173 : decode cX12_init 173 = .ok (.dup, 1) := dget daX12_init_2 25 (q := (173, .dup, 1)) rfl
theorem dX12_init_174 : decode cX12_init 174 = .ok (.iconst 1, 1) := dget daX12_init_2 26 (q := (174, .iconst 1, 1)) rfl
theorem dX12_init_175 : decode cX12_init 175 = .ok (.bipush 60, 2) := dget daX12_init_2 27 (q := (175, .bipush 60, 2)) rfl
theorem dX12_init_177 : decode cX12_init 177 = .ok (.iastore, 1) := dget daX12_init_2 28 (q := (177, .iastore, 1)) rfl
theorem dX12_init_178 : decode cX12_init 178 = .ok (.dup, 1) := dget daX12_init_2 29 (q := (178, .dup, 1)) rfl
theorem dX12_init_179 : decode cX12_init 179 = .ok (.iconst 2, 1) := dget daX12_init_2 30 (q := (179, .iconst 2, 1)) rfl
theorem dX12_init_180 : decode cX12_init 180 = .ok (.bipush 45, 2) := dget daX12_init_2 31 (q := (180, .bipush 45, 2)) rfl
theorem dX12_init_182 : decode cX12_init 182 = .ok (.iastore, 1) := dget daX12_init_2 32 (q := (182, .iastore, 1)) rfl
theorem dX12_init_183 : decode cX12_init 183 = .ok (.dup, 1) := dget daX12_init_2 33 (q := (183, .dup, 1)) rfl
theorem dX12_init_184 : decode cX12_init 184 = .ok (.iconst 3, 1) := dget daX12_init_2 34 (q := (184, .iconst 3, 1)) rfl
theorem dX12_init_185 : decode cX12_init 185 = .ok (.iconst 5, 1) := dget daX12_init_2 35 (q := (185, .iconst 5, 1)) rfl
theorem dX12_init_186 : decode cX12_init 186 = .ok (.iastore, 1) := dget daX12_init_2 36 (q := (186, .iastore, 1)) rfl
theorem dX12_init_187 : decode cX12_init 187 = .ok (.putfield 53, 3) := dget daX12_init_2 37 (q := (187, .putfield 53, 3)) rfl
theorem dX12_init_190 : decode cX12_init 190 = .ok (.aload_n 0, 1) := dget daX12_init_2 38 (q := (190, .aload_n 0, 1)) rfl
theorem dX12_init_191 : decode cX12_init 191 = .ok (.bipush 7, 2) := dget daX12_init_2 39 (q := (191, .bipush 7, 2)) rfl
def tdaX12_init_3 : List (Nat × (Instr × Nat)) := [(193, .newarray .int, 2), (195, .putfield 56, 3), (198, .aload_n 0, 1), (199, .bipush 6, 2), (201, .newarray .int, 2), (203, .putfield 59, 3), (206, .aload_n 0, 1), (207, .bipush 80, 2), (209, .newarray .int, 2), (211, .putfield 62, 3), (214, .aload_n 0, 1), (215, .bipush 20, 2), (217, .newarray .int, 2), (219, .putfield 65, 3), (222, .aload_n 0, 1), (223, .bipush 40, 2), (225, .newarray .boolean, 2), (227, .putfield 68, 3), (230, .aload_n 0, 1), (231, .bipush 30, 2), (233, .newarray .int, 2), (235, .putfield 71, 3), (238, .aload_n 0, 1), (239, .bipush 30, 2), (241, .newarray .int, 2), (243, .putfield 74, 3), (246, .aload_n 0, 1), (247, .bipush 30, 2), (249, .newarray .int, 2), (251, .putfield 77, 3), (254, .aload_n 0, 1), (255, .bipush 30, 2), (257, .newarray .int, 2), (259, .putfield 80, 3), (262, .aload_n 0, 1), (263, .bipush 30, 2), (265, .newarray .int, 2), (267, .putfield 83, 3), (270, .aload_n 0, 1), (271, .bipush 40, 2)]
theorem daX12_init_3 : tdaX12_init_3.all (fun q => decide (decode cX12_init q.1 = .ok q.2)) = true := by decide +kernel
theorem dX12_init_193 : decode cX12_init 193 = .ok (.newarray .int, 2) := dget daX12_init_3 0 (q := (193, .newarray .int, 2)) rfl
theorem dX12_init_195 : decode cX12_init 195 = .ok (.putfield 56, 3) := dget daX12_init_3 1 (q := (195, .putfield 56, 3)) rfl
theorem dX12_init_198 : decode cX12_init 198 = .ok (.aload_n 0, 1) := dget daX12_init_3 2 (q := (198, .aload_n 0, 1)) rfl
theorem dX12_init_199 : decode cX12_init 199 = .ok (.bipush 6, 2) := dget daX12_init_3 3 (q := (199, .bipush 6, 2)) rfl
theorem dX12_init_201 : decode cX12_init 201 = .ok (.newarray .int, 2) := dget daX12_init_3 4 (q := (201, .newarray .int, 2)) rfl
theorem dX12_init_203 : decode cX12_init 203 = .ok (.putfield 59, 3) := dget daX12_init_3 5 (q := (203, .putfield 59, 3)) rfl
theorem dX12_init_206 : decode cX12_init 206 = .ok (.aload_n 0, 1) := dget daX12_init_3 6 (q := (206, .aload_n 0, 1)) rfl
theorem dX12_init_207 : decode cX12_init 207 = .ok (.bipush 80, 2) := dget daX12_init_3 7 (q := (207, .bipush 80, 2)) rfl
theorem dX12_init_209 : decode cX12_init 209 = .ok (.newarray .int, 2) := dget daX12_init_3 8 (q := (209, .newarray .int, 2)) rfl
theorem dX12_init_211 : decode cX12_init 211 = .ok (.putfield 62, 3) := dget daX12_init_3 9 (q := (211, .putfield 62, 3)) rfl
theorem dX12_init_214 : decode cX12_init 214 = .ok (.aload_n 0, 1) := dget daX12_init_3 10 (q := (214, .aload_n 0, 1)) rfl
theorem dX12_init_215 : decode cX12_init 215 = .ok (.bipush 20, 2) := dget daX12_init_3 11 (q := (215, .bipush 20, 2)) rfl
theorem dX12_init_217 : decode cX12_init 217 = .ok (.newarray .int, 2) := dget daX12_init_3 12 (q := (217, .newarray .int, 2)) rfl
theorem dX12_init_219 : decode cX12_init 219 = .ok (.putfield 65, 3) := dget daX12_init_3 13 (q := (219, .putfield 65, 3)) rfl
theorem dX12_init_222 : decode cX12_init 222 = .ok (.aload_n 0, 1) := dget daX12_init_3 14 (q := (222, .aload_n 0, 1)) rfl
theorem dX12_init_223 : decode cX12_init 223 = .ok (.bipush 40, 2) := dget daX12_init_3 15 (q := (223, .bipush 40, 2)) rfl
theorem dX12_init_225 : decode cX12_init 225 = .ok (.newarray .boolean, 2) := dget daX12_init_3 16 (q := (225, .newarray .boolean, 2)) rfl
theorem dX12_init_227 : decode cX12_init 227 = .ok (.putfield 68, 3) := dget daX12_init_3 17 (q := (227, .putfield 68, 3)) rfl
theorem dX12_init_230 : decode cX12_init 230 = .ok (.aload_n 0, 1) := dget daX12_init_3 18 (q := (230, .aload_n 0, 1)) rfl
theorem dX12_init_231 : decode cX12_init 231 = .ok (.bipush 30, 2) := dget daX12_init_3 19 (q := (231, .bipush 30, 2)) rfl
theorem dX12_init_233 : decode cX12_init 233 = .ok (.newarray .int, 2) := dget daX12_init_3 20 (q := (233, .newarray .int, 2)) rfl
theorem dX12_init_235 : decode cX12_init 235 = .ok (.putfield 71, 3) := dget daX12_init_3 21 (q := (235, .putfield 71, 3)) rfl
theorem dX12_init_238 : decode cX12_init 238 = .ok (.aload_n 0, 1) := dget daX12_init_3 22 (q := (238, .aload_n 0, 1)) rfl
theorem dX12_init_239 : decode cX12_init 239 = .ok (.bipush 30, 2) := dget daX12_init_3 23 (q := (239, .bipush 30, 2)) rfl
theorem dX12_init_241 : decode cX12_init 241 = .ok (.newarray .int, 2) := dget daX12_init_3 24 (q := (241, .newarray .int, 2)) rfl
theorem dX12_init_243 : decode cX12_init 243 = .ok (.putfield 74, 3) := dget daX12_init_3 25 (q := (243, .putfield 74, 3)) rfl
theorem dX12_init_246 : decode cX12_init 246 = .ok (.aload_n 0, 1) := dget daX12_init_3 26 (q := (246, .aload_n 0, 1)) rfl
theorem dX12_init_247 : decode cX12_init 247 = .ok (.bipush 30, 2) := dget daX12_init_3 27 (q := (247, .bipush 30, 2)) rfl
theorem dX12_init_249 : decode cX12_init 249 = .ok (.newarray .int, 2) := dget daX12_init_3 28 (q := (249, .newarray .int, 2)) rfl
theorem dX12_init_251 : decode cX12_init 251 = .ok (.putfield 77, 3) := dget daX12_init_3 29 (q := (251, .putfield 77, 3)) rfl
theorem dX12_init_254 : decode cX12_init 254 = .ok (.aload_n 0, 1) := dget daX12_init_3 30 (q := (254, .aload_n 0, 1)) rfl
theorem dX12_init_255 : decode cX12_init 255 = .ok (.bipush 30, 2) := dget daX12_init_3 31 (q := (255, .bipush 30, 2)) rfl
theorem dX12_init_257 : decode cX12_init 257 = .ok (.newarray .int, 2) := dget daX12_init_3 32 (q := (257, .newarray .int, 2)) rfl
theorem dX12_init_259 : decode cX12_init 259 = .ok (.putfield 80, 3) := dget daX12_init_3 33 (q := (259, .putfield 80, 3)) rfl
theorem dX12_init_262 : decode cX12_init 262 = .ok (.aload_n 0, 1) := dget daX12_init_3 34 (q := (262, .aload_n 0, 1)) rfl
theorem dX12_init_263 : decode cX12_init 263 = .ok (.bipush 30, 2) := dget daX12_init_3 35 (q := (263, .bipush 30, 2)) rfl
theorem dX12_init_265 : decode cX12_init 265 = .ok (.newarray .int, 2) := dget daX12_init_3 36 (q := (265, .newarray .int, 2)) rfl
theorem dX12_init_267 : decode cX12_init 267 = .ok (.putfield 83, 3) := dget daX12_init_3 37 (q := (267, .putfield 83, 3)) rfl
theorem dX12_init_270 : decode cX12_init 270 = .ok (.aload_n 0, 1) := dget daX12_init_3 38 (q := (270, .aload_n 0, 1)) rfl
theorem dX12_init_271 : decode cX12_init 271 = .ok (.bipush 40, 2) := dget daX12_init_3 39 (q := (271, .bipush 40, 2)) rfl
def tdaX12_init_4 : List (Nat × (Instr × Nat)) := [(273, .newarray .int, 2), (275, .putfield 86, 3), (278, .aload_n 0, 1), (279, .bipush 40, 2), (281, .newarray .int, 2), (283, .putfield 89, 3), (286, .aload_n 0, 1), (287, .bipush 40, 2), (289, .newarray .int, 2), (291, .putfield 92, 3), (294, .aload_n 0, 1), (295, .bipush 40, 2), (297, .newarray .int, 2), (299, .putfield 95, 3), (302, .aload_n 0, 1), (303, .bipush 40, 2), (305, .newarray .boolean, 2), (307, .putfield 98, 3), (310, .aload_n 0, 1), (311, .iconst 4, 1), (312, .newarray .int, 2), (314, .putfield 101, 3), (317, .aload_n 0, 1), (318, .bipush 20, 2), (320, .newarray .int, 2), (322, .putfield 104, 3), (325, .aload_n 0, 1), (326, .bipush 20, 2), (328, .newarray .int, 2), (330, .putfield 107, 3), (333, .aload_n 0, 1), (334, .bipush 20, 2), (336, .newarray .int, 2), (338, .putfield 110, 3), (341, .aload_n 0, 1), (342, .bipush 30, 2), (344, .newarray .int, 2), (346, .putfield 113, 3), (349, .aload_n 0, 1), (350, .bipush 30, 2)]
theorem daX12_init_4 : tdaX12_init_4.all (fun q => decide (decode cX12_init q.1 = .ok q.2)) = true := by decide +kernel
theorem dX12_init_273 : decode cX12_init 273 = .ok (.newarray .int, 2) := dget daX12_init_4 0 (q := (273, .newarray .int, 2)) rfl
theorem dX12_init_275 : decode cX12_init 275 = .ok (.putfield 86, 3) := dget daX12_init_4 1 (q := (275, .putfield 86, 3)) rfl
theorem dX12_init_278 : decode cX12_init 278 = .ok (.aload_n 0, 1) := dget daX12_init_4 2 (q := (278, .aload_n 0, 1)) rfl
theorem dX12_init_279 : decode cX12_init 279 = .ok (.bipush 40, 2) := dget daX12_init_4 3 (q := (279, .bipush 40, 2)) rfl
theorem dX12_init_281 : decode cX12_init 281 = .ok (.newarray .int, 2) := dget daX12_init_4 4 (q := (281, .newarray .int, 2)) rfl
theorem dX12_init_283 : decode cX12_init 283 = .ok (.putfield 89, 3) := dget daX12_init_4 5 (q := (283, .putfield 89, 3)) rfl
theorem dX12_init_286 : decode cX12_init 286 = .ok (.aload_n 0, 1) := dget daX12_init_4 6 (q := (286, .aload_n 0, 1)) rfl
theorem dX12_init_287 : decode cX12_init 287 = .ok (.bipush 40, 2) := dget daX12_init_4 7 (q := (287, .bipush 40, 2)) rfl
theorem dX12_init_289 : decode cX12_init 289 = .ok (.newarray .int, 2) := dget daX12_init_4 8 (q := (289, .newarray .int, 2)) rfl
theorem dX12_init_291 : decode cX12_init 291 = .ok (.putfield 92, 3) := dget daX12_init_4 9 (q := (291, .putfield 92, 3)) rfl
theorem dX12_init_294 : decode cX12_init 294 = .ok (.aload_n 0, 1) := dget daX12_init_4 10 (q := (294, .aload_n 0, 1)) rfl
theorem dX12_init_295 : decode cX12_init 295 = .ok (.bipush 40, 2) := dget daX12_init_4 11 (q := (295, .bipush 40, 2)) rfl
theorem dX12_init_297 : decode cX12_init 297 = .ok (.newarray .int, 2) := dget daX12_init_4 12 (q := (297, .newarray .int, 2)) rfl
theorem dX12_init_299 : decode cX12_init 299 = .ok (.putfield 95, 3) := dget daX12_init_4 13 (q := (299, .putfield 95, 3)) rfl
theorem dX12_init_302 : decode cX12_init 302 = .ok (.aload_n 0, 1) := dget daX12_init_4 14 (q := (302, .aload_n 0, 1)) rfl
theorem dX12_init_303 : decode cX12_init 303 = .ok (.bipush 40, 2) := dget daX12_init_4 15 (q := (303, .bipush 40, 2)) rfl
theorem dX12_init_305 : decode cX12_init 305 = .ok (.newarray .boolean, 2) := dget daX12_init_4 16 (q := (305, .newarray .boolean, 2)) rfl
theorem dX12_init_307 : decode cX12_init 307 = .ok (.putfield 98, 3) := dget daX12_init_4 17 (q := (307, .putfield 98, 3)) rfl
theorem dX12_init_310 : decode cX12_init 310 = .ok (.aload_n 0, 1) := dget daX12_init_4 18 (q := (310, .aload_n 0, 1)) rfl
theorem dX12_init_311 : decode cX12_init 311 = .ok (.iconst 4, 1) := dget daX12_init_4 19 (q := (311, .iconst 4, 1)) rfl
theorem dX12_init_312 : decode cX12_init 312 = .ok (.newarray .int, 2) := dget daX12_init_4 20 (q := (312, .newarray .int, 2)) rfl
theorem dX12_init_314 : decode cX12_init 314 = .ok (.putfield 101, 3) := dget daX12_init_4 21 (q := (314, .putfield 101, 3)) rfl
theorem dX12_init_317 : decode cX12_init 317 = .ok (.aload_n 0, 1) := dget daX12_init_4 22 (q := (317, .aload_n 0, 1)) rfl
theorem dX12_init_318 : decode cX12_init 318 = .ok (.bipush 20, 2) := dget daX12_init_4 23 (q := (318, .bipush 20, 2)) rfl
theorem dX12_init_320 : decode cX12_init 320 = .ok (.newarray .int, 2) := dget daX12_init_4 24 (q := (320, .newarray .int, 2)) rfl
theorem dX12_init_322 : decode cX12_init 322 = .ok (.putfield 104, 3) := dget daX12_init_4 25 (q := (322, .putfield 104, 3)) rfl
theorem dX12_init_325 : decode cX12_init 325 = .ok (.aload_n 0, 1) := dget daX12_init_4 26 (q := (325, .aload_n 0, 1)) rfl
theorem dX12_init_326 : decode cX12_init 326 = .ok (.bipush 20, 2) := dget daX12_init_4 27 (q := (326, .bipush 20, 2)) rfl
theorem dX12_init_328 : decode cX12_init 328 = .ok (.newarray .int, 2) := dget daX12_init_4 28 (q := (328, .newarray .int, 2)) rfl
theorem dX12_init_330 : decode cX12_init 330 = .ok (.putfield 107, 3) := dget daX12_init_4 29 (q := (330, .putfield 107, 3)) rfl
theorem dX12_init_333 : decode cX12_init 333 = .ok (.aload_n 0, 1) := dget daX12_init_4 30 (q := (333, .aload_n 0, 1)) rfl
theorem dX12_init_334 : decode cX12_init 334 = .ok (.bipush 20, 2) := dget daX12_init_4 31 (q := (334, .bipush 20, 2)) rfl
theorem dX12_init_336 : decode cX12_init 336 = .ok (.newarray .int, 2) := dget daX12_init_4 32 (q := (336, .newarray .int, 2)) rfl
theorem dX12_init_338 : decode cX12_init 338 = .ok (.putfield 110, 3) := dget daX12_init_4 33 (q := (338, .putfield 110, 3)) rfl
theorem dX12_init_341 : decode cX12_init 341 = .ok (.aload_n 0, 1) := dget daX12_init_4 34 (q := (341, .aload_n 0, 1)) rfl
theorem dX12_init_342 : decode cX12_init 342 = .ok (.bipush 30, 2) := dget daX12_init_4 35 (q := (342, .bipush 30, 2)) rfl
theorem dX12_init_344 : decode cX12_init 344 = .ok (.newarray .int, 2) := dget daX12_init_4 36 (q := (344, .newarray .int, 2)) rfl
theorem dX12_init_346 : decode cX12_init 346 = .ok (.putfield 113, 3) := dget daX12_init_4 37 (q := (346, .putfield 113, 3)) rfl
theorem dX12_init_349 : decode cX12_init 349 = .ok (.aload_n 0, 1) := dget daX12_init_4 38 (q := (349, .aload_n 0, 1)) rfl
theorem dX12_init_350 : decode cX12_init 350 = .ok (.bipush 30, 2) := dget daX12_init_4 39 (q := (350, .bipush 30, 2)) rfl
def tdaX12_init_5 : List (Nat × (Instr × Nat)) := [(352, .newarray .int, 2), (354, .putfield 116, 3), (357, .aload_n 0, 1), (358, .bipush 100, 2), (360, .newarray .int, 2), (362, .putfield 119, 3), (365, .aload_n 0, 1), (366, .sipush 150, 3), (369, .newarray .int, 2), (371, .putfield 122, 3), (374, .aload_n 0, 1), (375, .bipush 32, 2), (377, .newarray .int, 2), (379, .putfield 125, 3), (382, .aload_n 0, 1), (383, .bipush 32, 2), (385, .newarray .int, 2), (387, .putfield 128, 3), (390, .aload_n 0, 1), (391, .bipush 40, 2), (393, .newarray .int, 2), (395, .putfield 131, 3), (398, .aload_n 0, 1), (399, .bipush 40, 2), (401, .newarray .int, 2), (403, .putfield 134, 3), (406, .aload_n 0, 1), (407, .bipush 40, 2), (409, .newarray .int, 2), (411, .putfield 137, 3), (414, .aload_n 0, 1), (415, .bipush 40, 2), (417, .newarray .int, 2), (419, .putfield 140, 3), (422, .aload_n 0, 1), (423, .bipush 40, 2), (425, .newarray .boolean, 2), (427, .putfield 143, 3), (430, .aload_n 0, 1), (431, .bipush 40, 2)]
theorem daX12_init_5 : tdaX12_init_5.all (fun q => decide (decode cX12_init q.1 = .ok q.2)) = true := by decide +kernel
theorem dX12_init_352 : decode cX12_init 352 = .ok (.newarray .int, 2) := dget daX12_init_5 0 (q := (352, .newarray .int, 2)) rfl
theorem dX12_init_354 : decode cX12_init 354 = .ok (.putfield 116, 3) := dget daX12_init_5 1 (q := (354, .putfield 116, 3)) rfl
theorem dX12_init_357 : decode cX12_init 357 = .ok (.aload_n 0, 1) := dget daX12_init_5 2 (q := (357, .aload_n 0, 1)) rfl
theorem dX12_init_358 : decode cX12_init 358 = .ok (.bipush 100, 2) := dget daX12_init_5 3 (q := (358, .bipush 100, 2)) rfl
theorem dX12_init_360 : decode cX12_init 360 = .ok (.newarray .int, 2) := dget daX12_init_5 4 (q := (360, .newarray .int, 2)) rfl
theorem dX12_init_362 : decode cX12_init 362 = .ok (.putfield 119, 3) := dget daX12_init_5 5 (q := (362, .putfield 119, 3)) rfl
theorem dX12_init_365 : decode cX12_init 365 = .ok (.aload_n 0, 1) := dget daX12_init_5 6 (q := (365, .aload_n 0, 1)) rfl
theorem dX12_init_366 : decode cX12_init 366 = .ok (.sipush 150, 3) := dget daX12_init_5 7 (q := (366, .sipush 150, 3)) rfl
theorem dX12_init_369 : decode cX12_init 369 = .ok (.newarray .int, 2) := dget daX12_init_5 8 (q := (369, .newarray .int, 2)) rfl
theorem dX12_init_371 : decode cX12_init 371 = .ok (.putfield 122, 3) := dget daX12_init_5 9 (q := (371, .putfield 122, 3)) rfl
theorem dX12_init_374 : decode cX12_init 374 = .ok (.aload_n 0, 1) := dget daX12_init_5 10 (q := (374, .aload_n 0, 1)) rfl
theorem dX12_init_375 : decode cX12_init 375 = .ok (.bipush 32, 2) := dget daX12_init_5 11 (q := (375, .bipush 32, 2)) rfl
theorem dX12_init_377 : decode cX12_init 377 = .ok (.newarray .int, 2) := dget daX12_init_5 12 (q := (377, .newarray .int, 2)) rfl
theorem dX12_init_379 : decode cX12_init 379 = .ok (.putfield 125, 3) := dget daX12_init_5 13 (q := (379, .putfield 125, 3)) rfl
theorem dX12_init_382 : decode cX12_init 382 = .ok (.aload_n 0, 1) := dget daX12_init_5 14 (q := (382, .aload_n 0, 1)) rfl
theorem dX12_init_383 : decode cX12_init 383 = .ok (.bipush 32, 2) := dget daX12_init_5 15 (q := (383, .bipush 32, 2)) rfl
theorem dX12_init_385 : decode cX12_init 385 = .ok (.newarray .int, 2) := dget daX12_init_5 16 (q := (385, .newarray .int, 2)) rfl
theorem dX12_init_387 : decode cX12_init 387 = .ok (.putfield 128, 3) := dget daX12_init_5 17 (q := (387, .putfield 128, 3)) rfl
theorem dX12_init_390 : decode cX12_init 390 = .ok (.aload_n 0, 1) := dget daX12_init_5 18 (q := (390, .aload_n 0, 1)) rfl
theorem dX12_init_391 : decode cX12_init 391 = .ok (.bipush 40, 2) := dget daX12_init_5 19 (q := (391, .bipush 40, 2)) rfl
theorem dX12_init_393 : decode cX12_init 393 = .ok (.newarray .int, 2) := dget daX12_init_5 20 (q := (393, .newarray .int, 2)) rfl
theorem dX12_init_395 : decode cX12_init 395 = .ok (.putfield 131, 3) := dget daX12_init_5 21 (q := (395, .putfield 131, 3)) rfl
theorem dX12_init_398 : decode cX12_init 398 = .ok (.aload_n 0, 1) := dget daX12_init_5 22 (q := (398, .aload_n 0, 1)) rfl
theorem dX12_init_399 : decode cX12_init 399 = .ok (.bipush 40, 2) := dget daX12_init_5 23 (q := (399, .bipush 40, 2)) rfl
theorem dX12_init_401 : decode cX12_init 401 = .ok (.newarray .int, 2) := dget daX12_init_5 24 (q := (401, .newarray .int, 2)) rfl
theorem dX12_init_403 : decode cX12_init 403 = .ok (.putfield 134, 3) := dget daX12_init_5 25 (q := (403, .putfield 134, 3)) rfl
theorem dX12_init_406 : decode cX12_init 406 = .ok (.aload_n 0, 1) := dget daX12_init_5 26 (q := (406, .aload_n 0, 1)) rfl
theorem dX12_init_407 : decode cX12_init 407 = .ok (.bipush 40, 2) := dget daX12_init_5 27 (q := (407, .bipush 40, 2)) rfl
theorem dX12_init_409 : decode cX12_init 409 = .ok (.newarray .int, 2) := dget daX12_init_5 28 (q := (409, .newarray .int, 2)) rfl
theorem dX12_init_411 : decode cX12_init 411 = .ok (.putfield 137, 3) := dget daX12_init_5 29 (q := (411, .putfield 137, 3)) rfl
theorem dX12_init_414 : decode cX12_init 414 = .ok (.aload_n 0, 1) := dget daX12_init_5 30 (q := (414, .aload_n 0, 1)) rfl
theorem dX12_init_415 : decode cX12_init 415 = .ok (.bipush 40, 2) := dget daX12_init_5 31 (q := (415, .bipush 40, 2)) rfl
theorem dX12_init_417 : decode cX12_init 417 = .ok (.newarray .int, 2) := dget daX12_init_5 32 (q := (417, .newarray .int, 2)) rfl
theorem dX12_init_419 : decode cX12_init 419 = .ok (.putfield 140, 3) := dget daX12_init_5 33 (q := (419, .putfield 140, 3)) rfl
theorem dX12_init_422 : decode cX12_init 422 = .ok (.aload_n 0, 1) := dget daX12_init_5 34 (q := (422, .aload_n 0, 1)) rfl
theorem dX12_init_423 : decode cX12_init 423 = .ok (.bipush 40, 2) := dget daX12_init_5 35 (q := (423, .bipush 40, 2)) rfl
theorem dX12_init_425 : decode cX12_init 425 = .ok (.newarray .boolean, 2) := dget daX12_init_5 36 (q := (425, .newarray .boolean, 2)) rfl
theorem dX12_init_427 : decode cX12_init 427 = .ok (.putfield 143, 3) := dget daX12_init_5 37 (q := (427, .putfield 143, 3)) rfl
theorem dX12_init_430 : decode cX12_init 430 = .ok (.aload_n 0, 1) := dget daX12_init_5 38 (q := (430, .aload_n 0, 1)) rfl
theorem dX12_init_431 : decode cX12_init 431 = .ok (.bipush 40, 2) := dget daX12_init_5 39 (q := (431, .bipush 40, 2)) rfl
def tdaX12_init_6 : List (Nat × (Instr × Nat)) := [(433, .newarray .int, 2), (435, .putfield 146, 3), (438, .aload_n 0, 1), (439, .bipush 40, 2), (441, .newarray .int, 2), (443, .putfield 149, 3), (446, .aload_n 0, 1), (447, .bipush 40, 2), (449, .newarray .int, 2), (451, .putfield 152, 3), (454, .iconst 0, 1), (455, .istore_n 1, 1), (456, .iload_n 1, 1), (457, .iconst 4, 1), (458, .if_icmp .ge 18, 3), (461, .aload_n 0, 1), (462, .getfield 101, 3), (465, .iload_n 1, 1), (466, .sipush 365, 3), (469, .iastore, 1), (470, .iinc 1 1, 3), (473, .goto (-17), 3), (476, .return_, 1)]
theorem daX12_init_6 : tdaX12_init_6.all (fun q => decide (decode cX12_init q.1 = .ok q.2)) = true := by decide +kernel
theorem dX12_init_433 : decode cX12_init 433 = .ok (.newarray .int, 2) := dget daX12_init_6 0 (q := (433, .newarray .int, 2)) rfl
theorem dX12_init_435 : decode cX12_init 435 = .ok (.putfield 146, 3) := dget daX12_init_6 1 (q := (435, .putfield 146, 3)) rfl
theorem dX12_init_438 : decode cX12_init 438 = .ok (.aload_n 0, 1) := dget daX12_init_6 2 (q := (438, .aload_n 0, 1)) rfl
theorem dX12_init_439 : decode cX12_init 439 = .ok (.bipush 40, 2) := dget daX12_init_6 3 (q := (439, .bipush 40, 2)) rfl
theorem dX12_init_441 : decode cX12_init 441 = .ok (.newarray .int, 2) := dget daX12_init_6 4 (q := (441, .newarray .int, 2)) rfl
theorem dX12_init_443 : decode cX12_init 443 = .ok (.putfield 149, 3) := dget daX12_init_6 5 (q := (443, .putfield 149, 3)) rfl
theorem dX12_init_446 : decode cX12_init 446 = .ok (.aload_n 0, 1) := dget daX12_init_6 6 (q := (446, .aload_n 0, 1)) rfl
theorem dX12_init_447 : decode cX12_init 447 = .ok (.bipush 40, 2) := dget daX12_init_6 7 (q := (447, .bipush 40, 2)) rfl
theorem dX12_init_449 : decode cX12_init 449 = .ok (.newarray .int, 2) := dget daX12_init_6 8 (q := (449, .newarray .int, 2)) rfl
theorem dX12_init_451 : decode cX12_init 451 = .ok (.putfield 152, 3) := dget daX12_init_6 9 (q := (451, .putfield 152, 3)) rfl
theorem dX12_init_454 : decode cX12_init 454 = .ok (.iconst 0, 1) := dget daX12_init_6 10 (q := (454, .iconst 0, 1)) rfl
theorem dX12_init_455 : decode cX12_init 455 = .ok (.istore_n 1, 1) := dget daX12_init_6 11 (q := (455, .istore_n 1, 1)) rfl
theorem dX12_init_456 : decode cX12_init 456 = .ok (.iload_n 1, 1) := dget daX12_init_6 12 (q := (456, .iload_n 1, 1)) rfl
theorem dX12_init_457 : decode cX12_init 457 = .ok (.iconst 4, 1) := dget daX12_init_6 13 (q := (457, .iconst 4, 1)) rfl
theorem dX12_init_458 : decode cX12_init 458 = .ok (.if_icmp .ge 18, 3) := dget daX12_init_6 14 (q := (458, .if_icmp .ge 18, 3)) rfl
theorem dX12_init_461 : decode cX12_init 461 = .ok (.aload_n 0, 1) := dget daX12_init_6 15 (q := (461, .aload_n 0, 1)) rfl
theorem dX12_init_462 : decode cX12_init 462 = .ok (.getfield 101, 3) := dget daX12_init_6 16 (q := (462, .getfield 101, 3)) rfl
theorem dX12_init_465 : decode cX12_init 465 = .ok (.iload_n 1, 1) := dget daX12_init_6 17 (q := (465, .iload_n 1, 1)) rfl
theorem dX12_init_466 : decode cX12_init 466 = .ok (.sipush 365, 3) := dget daX12_init_6 18 (q := (466, .sipush 365, 3)) rfl
theorem dX12_init_469 : decode cX12_init 469 = .ok (.iastore, 1) := dget daX12_init_6 19 (q := (469, .iastore, 1)) rfl
theorem dX12_init_470 : decode cX12_init 470 = .ok (.iinc 1 1, 3) := dget daX12_init_6 20 (q := (470, .iinc 1 1, 3)) rfl
theorem dX12_init_473 : decode cX12_init 473 = .ok (.goto (-17), 3) := dget daX12_init_6 21 (q := (473, .goto (-17), 3)) rfl
theorem dX12_init_476 : decode cX12_init 476 = .ok (.return_, 1) := dget daX12_init_6 22 (q := (476, .return_, 1)) rfl
def tdaX12_in_0 : List (Nat × (Instr × Nat)) := [(0, .iload_n 0, 1), (1, .iload_n 1, 1), (2, .if_icmp .lt 12, 3), (5, .iload_n 0, 1), (6, .iload_n 2, 1), (7, .if_icmp .gt 7, 3), (10, .iconst 1, 1), (11, .goto 4, 3), (14, .iconst 0, 1), (15, .ireturn, 1)]
theorem daX12_in_0 : tdaX12_in_0.all (fun q => decide (decode cX12_in q.1 = .ok q.2)) = true := by decide +kernel
theorem dX12_in_0 : decode cX12_in 0 = .ok (.iload_n 0, 1) := dget daX12_in_0 0 (q := (0, .iload_n 0, 1)) rfl
theorem dX12_in_1 : decode cX12_in 1 = .ok (.iload_n 1, 1) := dget daX12_in_0 1 (q := (1, .iload_n 1, 1)) rfl
theorem dX12_in_2 : decode cX12_in 2 = .ok (.if_icmp .lt 12, 3) := dget daX12_in_0 2 (q := (2, .if_icmp .lt 12, 3)) rfl
theorem dX12_in_5 : decode cX12_in 5 = .ok (.iload_n 0, 1) := dget daX12_in_0 3 (q := (5, .iload_n 0, 1)) rfl
theorem dX12_in_6 : decode cX12_in 6 = .ok (.iload_n 2, 1) := dget daX12_in_0 4 (q := (6, .iload_n 2, 1)) rfl
theorem dX12_in_7 : decode cX12_in 7 = .ok (.if_icmp .gt 7, 3) := dget daX12_in_0 5 (q := (7, .if_icmp .gt 7, 3)) rfl
theorem dX12_in_10 : decode cX12_in 10 = .ok (.iconst 1, 1) := dget daX12_in_0 6 (q := (10, .iconst 1, 1)) rfl
theorem dX12_in_11 : decode cX12_in 11 = .ok (.goto 4, 3) := dget daX12_in_0 7 (q := (11, .goto 4, 3)) rfl
theorem dX12_in_14 : decode cX12_in 14 = .ok (.iconst 0, 1) := dget daX12_in_0 8 (q := (14, .iconst 0, 1)) rfl
theorem dX12_in_15 : decode cX12_in 15 = .ok (.ireturn, 1) := dget daX12_in_0 9 (q := (15, .ireturn, 1)) rfl
def tdaX12_refuse_0 : List (Nat × (Instr × Nat)) := [(0, .aload_n 0, 1), (1, .getfield 56, 3), (4, .iload_n 1, 1), (5, .ineg, 1), (6, .dup2, 1), (7, .iaload, 1), (8, .iconst 1, 1), (9, .iadd, 1), (10, .iastore, 1), (11, .iload_n 1, 1), (12, .ireturn, 1)]
theorem daX12_refuse_0 : tdaX12_refuse_0.all (fun q => decide (decode cX12_refuse q.1 = .ok q.2)) = true := by decide +kernel
theorem dX12_refuse_0 : decode cX12_refuse 0 = .ok (.aload_n 0, 1) := dget daX12_refuse_0 0 (q := (0, .aload_n 0, 1)) rfl
theorem dX12_refuse_1 : decode cX12_refuse 1 = .ok (.getfield 56, 3) := dget daX12_refuse_0 1 (q := (1, .getfield 56, 3)) rfl
theorem dX12_refuse_4 : decode cX12_refuse 4 = .ok (.iload_n 1, 1) := dget daX12_refuse_0 2 (q := (4, .iload_n 1, 1)) rfl
theorem dX12_refuse_5 : decode cX12_refuse 5 = .ok (.ineg, 1) := dget daX12_refuse_0 3 (q := (5, .ineg, 1)) rfl
theorem dX12_refuse_6 : decode cX12_refuse 6 = .ok (.dup2, 1) := dget daX12_refuse_0 4 (q := (6, .dup2, 1)) rfl
theorem dX12_refuse_7 : decode cX12_refuse 7 = .ok (.iaload, 1) := dget daX12_refuse_0 5 (q := (7, .iaload, 1)) rfl
theorem dX12_refuse_8 : decode cX12_refuse 8 = .ok (.iconst 1, 1) := dget daX12_refuse_0 6 (q := (8, .iconst 1, 1)) rfl
theorem dX12_refuse_9 : decode cX12_refuse 9 = .ok (.iadd, 1) := dget daX12_refuse_0 7 (q := (9, .iadd, 1)) rfl
theorem dX12_refuse_10 : decode cX12_refuse 10 = .ok (.iastore, 1) := dget daX12_refuse_0 8 (q := (10, .iastore, 1)) rfl
theorem dX12_refuse_11 : decode cX12_refuse 11 = .ok (.iload_n 1, 1) := dget daX12_refuse_0 9 (q := (11, .iload_n 1, 1)) rfl
theorem dX12_refuse_12 : decode cX12_refuse 12 = .ok (.ireturn, 1) := dget daX12_refuse_0 10 (q := (12, .ireturn, 1)) rfl
def tdaX12_refuseFar_0 : List (Nat × (Instr × Nat)) := [(0, .aload_n 0, 1), (1, .getfield 56, 3), (4, .iload_n 1, 1), (5, .ineg, 1), (6, .dup2, 1), (7, .iaload, 1), (8, .iconst 1, 1), (9, .iadd, 1), (10, .iastore, 1), (11, .ldc 155, 2), (13, .iload_n 1, 1), (14, .isub, 1), (15, .ireturn, 1)]
theorem daX12_refuseFar_0 : tdaX12_refuseFar_0.all (fun q => decide (decode cX12_refuseFar q.1 = .ok q.2)) = true := by decide +kernel
theorem dX12_refuseFar_0 : decode cX12_refuseFar 0 = .ok (.aload_n 0, 1) := dget daX12_refuseFar_0 0 (q := (0, .aload_n 0, 1)) rfl
theorem dX12_refuseFar_1 : decode cX12_refuseFar 1 = .ok (.getfield 56, 3) := dget daX12_refuseFar_0 1 (q := (1, .getfield 56, 3)) rfl
theorem dX12_refuseFar_4 : decode cX12_refuseFar 4 = .ok (.iload_n 1, 1) := dget daX12_refuseFar_0 2 (q := (4, .iload_n 1, 1)) rfl
theorem dX12_refuseFar_5 : decode cX12_refuseFar 5 = .ok (.ineg, 1) := dget daX12_refuseFar_0 3 (q := (5, .ineg, 1)) rfl
theorem dX12_refuseFar_6 : decode cX12_refuseFar 6 = .ok (.dup2, 1) := dget daX12_refuseFar_0 4 (q := (6, .dup2, 1)) rfl
theorem dX12_refuseFar_7 : decode cX12_refuseFar 7 = .ok (.iaload, 1) := dget daX12_refuseFar_0 5 (q := (7, .iaload, 1)) rfl
theorem dX12_refuseFar_8 : decode cX12_refuseFar 8 = .ok (.iconst 1, 1) := dget daX12_refuseFar_0 6 (q := (8, .iconst 1, 1)) rfl
theorem dX12_refuseFar_9 : decode cX12_refuseFar 9 = .ok (.iadd, 1) := dget daX12_refuseFar_0 7 (q := (9, .iadd, 1)) rfl
theorem dX12_refuseFar_10 : decode cX12_refuseFar 10 = .ok (.iastore, 1) := dget daX12_refuseFar_0 8 (q := (10, .iastore, 1)) rfl
theorem dX12_refuseFar_11 : decode cX12_refuseFar 11 = .ok (.ldc 155, 2) := dget daX12_refuseFar_0 9 (q := (11, .ldc 155, 2)) rfl
theorem dX12_refuseFar_13 : decode cX12_refuseFar 13 = .ok (.iload_n 1, 1) := dget daX12_refuseFar_0 10 (q := (13, .iload_n 1, 1)) rfl
theorem dX12_refuseFar_14 : decode cX12_refuseFar 14 = .ok (.isub, 1) := dget daX12_refuseFar_0 11 (q := (14, .isub, 1)) rfl
theorem dX12_refuseFar_15 : decode cX12_refuseFar 15 = .ok (.ireturn, 1) := dget daX12_refuseFar_0 12 (q := (15, .ireturn, 1)) rfl
def tdaX12_isPort_0 : List (Nat × (Instr × Nat)) := [(0, .iload_n 0, 1), (1, .iconst 0, 1), (2, .bipush 9, 2), (4, .invokestatic 156, 3), (7, .ireturn, 1)]
theorem daX12_isPort_0 : tdaX12_isPort_0.all (fun q => decide (decode cX12_isPort q.1 = .ok q.2)) = true := by decide +kernel
theorem dX12_isPort_0 : decode cX12_isPort 0 = .ok (.iload_n 0, 1) := dget daX12_isPort_0 0 (q := (0, .iload_n 0, 1)) rfl
theorem dX12_isPort_1 : decode cX12_isPort 1 = .ok (.iconst 0, 1) := dget daX12_isPort_0 1 (q := (1, .iconst 0, 1)) rfl
theorem dX12_isPort_2 : decode cX12_isPort 2 = .ok (.bipush 9, 2) := dget daX12_isPort_0 2 (q := (2, .bipush 9, 2)) rfl
theorem dX12_isPort_4 : decode cX12_isPort 4 = .ok (.invokestatic 156, 3) := dget daX12_isPort_0 3 (q := (4, .invokestatic 156, 3)) rfl
theorem dX12_isPort_7 : decode cX12_isPort 7 = .ok (.ireturn, 1) := dget daX12_isPort_0 4 (q := (7, .ireturn, 1)) rfl
def tdaX12_isLeg_0 : List (Nat × (Instr × Nat)) := [(0, .iload_n 1, 1), (1, .iconst 0, 1), (2, .aload_n 0, 1), (3, .getfield 160, 3), (6, .iconst 1, 1), (7, .isub, 1), (8, .invokestatic 156, 3), (11, .ireturn, 1)]
theorem daX12_isLeg_0 : tdaX12_isLeg_0.all (fun q => decide (decode cX12_isLeg q.1 = .ok q.2)) = true := by decide +kernel
theorem dX12_isLeg_0 : decode cX12_isLeg 0 = .ok (.iload_n 1, 1) := dget daX12_isLeg_0 0 (q := (0, .iload_n 1, 1)) rfl
theorem dX12_isLeg_1 : decode cX12_isLeg 1 = .ok (.iconst 0, 1) := dget daX12_isLeg_0 1 (q := (1, .iconst 0, 1)) rfl
theorem dX12_isLeg_2 : decode cX12_isLeg 2 = .ok (.aload_n 0, 1) := dget daX12_isLeg_0 2 (q := (2, .aload_n 0, 1)) rfl
theorem dX12_isLeg_3 : decode cX12_isLeg 3 = .ok (.getfield 160, 3) := dget daX12_isLeg_0 3 (q := (3, .getfield 160, 3)) rfl
theorem dX12_isLeg_6 : decode cX12_isLeg 6 = .ok (.iconst 1, 1) := dget daX12_isLeg_0 4 (q := (6, .iconst 1, 1)) rfl
theorem dX12_isLeg_7 : decode cX12_isLeg 7 = .ok (.isub, 1) := dget daX12_isLeg_0 5 (q := (7, .isub, 1)) rfl
theorem dX12_isLeg_8 : decode cX12_isLeg 8 = .ok (.invokestatic 156, 3) := dget daX12_isLeg_0 6 (q := (8, .invokestatic 156, 3)) rfl
theorem dX12_isLeg_11 : decode cX12_isLeg 11 = .ok (.ireturn, 1) := dget daX12_isLeg_0 7 (q := (11, .ireturn, 1)) rfl
def tdaX12_over_0 : List (Nat × (Instr × Nat)) := [(0, .iload_n 0, 1), (1, .ifCond .ge 7, 3), (4, .iconst 0, 1), (5, .goto 4, 3), (8, .iload_n 0, 1), (9, .ireturn, 1)]
theorem daX12_over_0 : tdaX12_over_0.all (fun q => decide (decode cX12_over q.1 = .ok q.2)) = true := by decide +kernel
theorem dX12_over_0 : decode cX12_over 0 = .ok (.iload_n 0, 1) := dget daX12_over_0 0 (q := (0, .iload_n 0, 1)) rfl
theorem dX12_over_1 : decode cX12_over 1 = .ok (.ifCond .ge 7, 3) := dget daX12_over_0 1 (q := (1, .ifCond .ge 7, 3)) rfl
theorem dX12_over_4 : decode cX12_over 4 = .ok (.iconst 0, 1) := dget daX12_over_0 2 (q := (4, .iconst 0, 1)) rfl
theorem dX12_over_5 : decode cX12_over 5 = .ok (.goto 4, 3) := dget daX12_over_0 3 (q := (5, .goto 4, 3)) rfl
theorem dX12_over_8 : decode cX12_over 8 = .ok (.iload_n 0, 1) := dget daX12_over_0 4 (q := (8, .iload_n 0, 1)) rfl
theorem dX12_over_9 : decode cX12_over 9 = .ok (.ireturn, 1) := dget daX12_over_0 5 (q := (9, .ireturn, 1)) rfl
def tdaX12_lesser_0 : List (Nat × (Instr × Nat)) := [(0, .iload_n 0, 1), (1, .iload_n 1, 1), (2, .if_icmp .ge 7, 3), (5, .iload_n 0, 1), (6, .goto 4, 3), (9, .iload_n 1, 1), (10, .ireturn, 1)]
theorem daX12_lesser_0 : tdaX12_lesser_0.all (fun q => decide (decode cX12_lesser q.1 = .ok q.2)) = true := by decide +kernel
theorem dX12_lesser_0 : decode cX12_lesser 0 = .ok (.iload_n 0, 1) := dget daX12_lesser_0 0 (q := (0, .iload_n 0, 1)) rfl
theorem dX12_lesser_1 : decode cX12_lesser 1 = .ok (.iload_n 1, 1) := dget daX12_lesser_0 1 (q := (1, .iload_n 1, 1)) rfl
theorem dX12_lesser_2 : decode cX12_lesser 2 = .ok (.if_icmp .ge 7, 3) := dget daX12_lesser_0 2 (q := (2, .if_icmp .ge 7, 3)) rfl
theorem dX12_lesser_5 : decode cX12_lesser 5 = .ok (.iload_n 0, 1) := dget daX12_lesser_0 3 (q := (5, .iload_n 0, 1)) rfl
theorem dX12_lesser_6 : decode cX12_lesser 6 = .ok (.goto 4, 3) := dget daX12_lesser_0 4 (q := (6, .goto 4, 3)) rfl
theorem dX12_lesser_9 : decode cX12_lesser 9 = .ok (.iload_n 1, 1) := dget daX12_lesser_0 5 (q := (9, .iload_n 1, 1)) rfl
theorem dX12_lesser_10 : decode cX12_lesser 10 = .ok (.ireturn, 1) := dget daX12_lesser_0 6 (q := (10, .ireturn, 1)) rfl
def tdaX12_amount_0 : List (Nat × (Instr × Nat)) := [(0, .iload_n 0, 1), (1, .ifCond .ge 8, 3), (4, .iload_n 0, 1), (5, .ineg, 1), (6, .goto 4, 3), (9, .iload_n 0, 1), (10, .ireturn, 1)]
theorem daX12_amount_0 : tdaX12_amount_0.all (fun q => decide (decode cX12_amount q.1 = .ok q.2)) = true := by decide +kernel
theorem dX12_amount_0 : decode cX12_amount 0 = .ok (.iload_n 0, 1) := dget daX12_amount_0 0 (q := (0, .iload_n 0, 1)) rfl
theorem dX12_amount_1 : decode cX12_amount 1 = .ok (.ifCond .ge 8, 3) := dget daX12_amount_0 1 (q := (1, .ifCond .ge 8, 3)) rfl
theorem dX12_amount_4 : decode cX12_amount 4 = .ok (.iload_n 0, 1) := dget daX12_amount_0 2 (q := (4, .iload_n 0, 1)) rfl
theorem dX12_amount_5 : decode cX12_amount 5 = .ok (.ineg, 1) := dget daX12_amount_0 3 (q := (5, .ineg, 1)) rfl
theorem dX12_amount_6 : decode cX12_amount 6 = .ok (.goto 4, 3) := dget daX12_amount_0 4 (q := (6, .goto 4, 3)) rfl
theorem dX12_amount_9 : decode cX12_amount 9 = .ok (.iload_n 0, 1) := dget daX12_amount_0 5 (q := (9, .iload_n 0, 1)) rfl
theorem dX12_amount_10 : decode cX12_amount 10 = .ok (.ireturn, 1) := dget daX12_amount_0 6 (q := (10, .ireturn, 1)) rfl
def tdaX12_days_0 : List (Nat × (Instr × Nat)) := [(0, .iload_n 1, 1), (1, .iconst 1, 1), (2, .if_icmp .ge 10, 3), (5, .aload_n 0, 1), (6, .bipush (-4), 2), (8, .invokevirtual 164, 3), (11, .ireturn, 1), (12, .iload_n 1, 1), (13, .sipush 4000, 3), (16, .aload_n 0, 1), (17, .getfield 168, 3), (20, .isub, 1), (21, .if_icmp .le 10, 3), (24, .aload_n 0, 1), (25, .bipush (-6), 2), (27, .invokevirtual 164, 3), (30, .ireturn, 1), (31, .aload_n 0, 1), (32, .dup, 1), (33, .getfield 168, 3), (36, .iload_n 1, 1), (37, .iadd, 1), (38, .putfield 168, 3), (41, .aload_n 0, 1), (42, .getfield 168, 3), (45, .ireturn, 1)]
theorem daX12_days_0 : tdaX12_days_0.all (fun q => decide (decode cX12_days q.1 = .ok q.2)) = true := by decide +kernel
theorem dX12_days_0 : decode cX12_days 0 = .ok (.iload_n 1, 1) := dget daX12_days_0 0 (q := (0, .iload_n 1, 1)) rfl
theorem dX12_days_1 : decode cX12_days 1 = .ok (.iconst 1, 1) := dget daX12_days_0 1 (q := (1, .iconst 1, 1)) rfl
theorem dX12_days_2 : decode cX12_days 2 = .ok (.if_icmp .ge 10, 3) := dget daX12_days_0 2 (q := (2, .if_icmp .ge 10, 3)) rfl
theorem dX12_days_5 : decode cX12_days 5 = .ok (.aload_n 0, 1) := dget daX12_days_0 3 (q := (5, .aload_n 0, 1)) rfl
theorem dX12_days_6 : decode cX12_days 6 = .ok (.bipush (-4), 2) := dget daX12_days_0 4 (q := (6, .bipush (-4), 2)) rfl
theorem dX12_days_8 : decode cX12_days 8 = .ok (.invokevirtual 164, 3) := dget daX12_days_0 5 (q := (8, .invokevirtual 164, 3)) rfl
theorem dX12_days_11 : decode cX12_days 11 = .ok (.ireturn, 1) := dget daX12_days_0 6 (q := (11, .ireturn, 1)) rfl
theorem dX12_days_12 : decode cX12_days 12 = .ok (.iload_n 1, 1) := dget daX12_days_0 7 (q := (12, .iload_n 1, 1)) rfl
theorem dX12_days_13 : decode cX12_days 13 = .ok (.sipush 4000, 3) := dget daX12_days_0 8 (q := (13, .sipush 4000, 3)) rfl
theorem dX12_days_16 : decode cX12_days 16 = .ok (.aload_n 0, 1) := dget daX12_days_0 9 (q := (16, .aload_n 0, 1)) rfl
theorem dX12_days_17 : decode cX12_days 17 = .ok (.getfield 168, 3) := dget daX12_days_0 10 (q := (17, .getfield 168, 3)) rfl
theorem dX12_days_20 : decode cX12_days 20 = .ok (.isub, 1) := dget daX12_days_0 11 (q := (20, .isub, 1)) rfl
theorem dX12_days_21 : decode cX12_days 21 = .ok (.if_icmp .le 10, 3) := dget daX12_days_0 12 (q := (21, .if_icmp .le 10, 3)) rfl
theorem dX12_days_24 : decode cX12_days 24 = .ok (.aload_n 0, 1) := dget daX12_days_0 13 (q := (24, .aload_n 0, 1)) rfl
theorem dX12_days_25 : decode cX12_days 25 = .ok (.bipush (-6), 2) := dget daX12_days_0 14 (q := (25, .bipush (-6), 2)) rfl
theorem dX12_days_27 : decode cX12_days 27 = .ok (.invokevirtual 164, 3) := dget daX12_days_0 15 (q := (27, .invokevirtual 164, 3)) rfl
theorem dX12_days_30 : decode cX12_days 30 = .ok (.ireturn, 1) := dget daX12_days_0 16 (q := (30, .ireturn, 1)) rfl
theorem dX12_days_31 : decode cX12_days 31 = .ok (.aload_n 0, 1) := dget daX12_days_0 17 (q := (31, .aload_n 0, 1)) rfl
theorem dX12_days_32 : decode cX12_days 32 = .ok (.dup, 1) := dget daX12_days_0 18 (q := (32, .dup, 1)) rfl
theorem dX12_days_33 : decode cX12_days 33 = .ok (.getfield 168, 3) := dget daX12_days_0 19 (q := (33, .getfield 168, 3)) rfl
theorem dX12_days_36 : decode cX12_days 36 = .ok (.iload_n 1, 1) := dget daX12_days_0 20 (q := (36, .iload_n 1, 1)) rfl
theorem dX12_days_37 : decode cX12_days 37 = .ok (.iadd, 1) := dget daX12_days_0 21 (q := (37, .iadd, 1)) rfl
theorem dX12_days_38 : decode cX12_days 38 = .ok (.putfield 168, 3) := dget daX12_days_0 22 (q := (38, .putfield 168, 3)) rfl
theorem dX12_days_41 : decode cX12_days 41 = .ok (.aload_n 0, 1) := dget daX12_days_0 23 (q := (41, .aload_n 0, 1)) rfl
theorem dX12_days_42 : decode cX12_days 42 = .ok (.getfield 168, 3) := dget daX12_days_0 24 (q := (42, .getfield 168, 3)) rfl
theorem dX12_days_45 : decode cX12_days 45 = .ok (.ireturn, 1) := dget daX12_days_0 25 (q := (45, .ireturn, 1)) rfl
def tdaX12_land_0 : List (Nat × (Instr × Nat)) := [(0, .iload_n 1, 1), (1, .invokestatic 171, 3), (4, .ifCond .eq 12, 3), (7, .iload_n 2, 1), (8, .iconst 0, 1), (9, .iconst 3, 1), (10, .invokestatic 156, 3), (13, .ifCond .ne 9, 3), (16, .aload_n 0, 1), (17, .iconst (-1), 1), (18, .invokevirtual 164, 3), (21, .ireturn, 1), (22, .aload_n 0, 1), (23, .getfield 7, 3), (26, .iload_n 1, 1), (27, .iaload, 1), (28, .istore_n 3, 1), (29, .aload_n 0, 1), (30, .getfield 7, 3), (33, .iload_n 1, 1), (34, .iload_n 2, 1), (35, .iastore, 1), (36, .iload_n 3, 1), (37, .ireturn, 1)]
theorem daX12_land_0 : tdaX12_land_0.all (fun q => decide (decode cX12_land q.1 = .ok q.2)) = true := by decide +kernel
theorem dX12_land_0 : decode cX12_land 0 = .ok (.iload_n 1, 1) := dget daX12_land_0 0 (q := (0, .iload_n 1, 1)) rfl
theorem dX12_land_1 : decode cX12_land 1 = .ok (.invokestatic 171, 3) := dget daX12_land_0 1 (q := (1, .invokestatic 171, 3)) rfl
theorem dX12_land_4 : decode cX12_land 4 = .ok (.ifCond .eq 12, 3) := dget daX12_land_0 2 (q := (4, .ifCond .eq 12, 3)) rfl
theorem dX12_land_7 : decode cX12_land 7 = .ok (.iload_n 2, 1) := dget daX12_land_0 3 (q := (7, .iload_n 2, 1)) rfl
theorem dX12_land_8 : decode cX12_land 8 = .ok (.iconst 0, 1) := dget daX12_land_0 4 (q := (8, .iconst 0, 1)) rfl
theorem dX12_land_9 : decode cX12_land 9 = .ok (.iconst 3, 1) := dget daX12_land_0 5 (q := (9, .iconst 3, 1)) rfl
theorem dX12_land_10 : decode cX12_land 10 = .ok (.invokestatic 156, 3) := dget daX12_land_0 6 (q := (10, .invokestatic 156, 3)) rfl
theorem dX12_land_13 : decode cX12_land 13 = .ok (.ifCond .ne 9, 3) := dget daX12_land_0 7 (q := (13, .ifCond .ne 9, 3)) rfl
theorem dX12_land_16 : decode cX12_land 16 = .ok (.aload_n 0, 1) := dget daX12_land_0 8 (q := (16, .aload_n 0, 1)) rfl
theorem dX12_land_17 : decode cX12_land 17 = .ok (.iconst (-1), 1) := dget daX12_land_0 9 (q := (17, .iconst (-1), 1)) rfl
theorem dX12_land_18 : decode cX12_land 18 = .ok (.invokevirtual 164, 3) := dget daX12_land_0 10 (q := (18, .invokevirtual 164, 3)) rfl
theorem dX12_land_21 : decode cX12_land 21 = .ok (.ireturn, 1) := dget daX12_land_0 11 (q := (21, .ireturn, 1)) rfl
theorem dX12_land_22 : decode cX12_land 22 = .ok (.aload_n 0, 1) := dget daX12_land_0 12 (q := (22, .aload_n 0, 1)) rfl
theorem dX12_land_23 : decode cX12_land 23 = .ok (.getfield 7, 3) := dget daX12_land_0 13 (q := (23, .getfield 7, 3)) rfl
theorem dX12_land_26 : decode cX12_land 26 = .ok (.iload_n 1, 1) := dget daX12_land_0 14 (q := (26, .iload_n 1, 1)) rfl
theorem dX12_land_27 : decode cX12_land 27 = .ok (.iaload, 1) := dget daX12_land_0 15 (q := (27, .iaload, 1)) rfl
theorem dX12_land_28 : decode cX12_land 28 = .ok (.istore_n 3, 1) := dget daX12_land_0 16 (q := (28, .istore_n 3, 1)) rfl
theorem dX12_land_29 : decode cX12_land 29 = .ok (.aload_n 0, 1) := dget daX12_land_0 17 (q := (29, .aload_n 0, 1)) rfl
theorem dX12_land_30 : decode cX12_land 30 = .ok (.getfield 7, 3) := dget daX12_land_0 18 (q := (30, .getfield 7, 3)) rfl
theorem dX12_land_33 : decode cX12_land 33 = .ok (.iload_n 1, 1) := dget daX12_land_0 19 (q := (33, .iload_n 1, 1)) rfl
theorem dX12_land_34 : decode cX12_land 34 = .ok (.iload_n 2, 1) := dget daX12_land_0 20 (q := (34, .iload_n 2, 1)) rfl
theorem dX12_land_35 : decode cX12_land 35 = .ok (.iastore, 1) := dget daX12_land_0 21 (q := (35, .iastore, 1)) rfl
theorem dX12_land_36 : decode cX12_land 36 = .ok (.iload_n 3, 1) := dget daX12_land_0 22 (q := (36, .iload_n 3, 1)) rfl
theorem dX12_land_37 : decode cX12_land 37 = .ok (.ireturn, 1) := dget daX12_land_0 23 (q := (37, .ireturn, 1)) rfl
def tdaX12_miles_0 : List (Nat × (Instr × Nat)) := [(0, .iload_n 1, 1), (1, .invokestatic 171, 3), (4, .ifCond .eq 15, 3), (7, .iload_n 2, 1), (8, .invokestatic 171, 3), (11, .ifCond .eq 8, 3), (14, .iload_n 1, 1), (15, .iload_n 2, 1), (16, .if_icmp .ne 9, 3), (19, .aload_n 0, 1), (20, .iconst (-1), 1), (21, .invokevirtual 164, 3), (24, .ireturn, 1), (25, .iload_n 3, 1), (26, .ifCond .ge 10, 3), (29, .aload_n 0, 1), (30, .bipush (-4), 2), (32, .invokevirtual 164, 3), (35, .ireturn, 1), (36, .iload_n 3, 1), (37, .sipush 9999, 3), (40, .if_icmp .le 10, 3), (43, .aload_n 0, 1), (44, .bipush (-6), 2), (46, .invokevirtual 164, 3), (49, .ireturn, 1), (50, .aload_n 0, 1), (51, .getfield 13, 3), (54, .bipush 10, 2), (56, .iload_n 1, 1), (57, .imul, 1), (58, .iload_n 2, 1), (59, .iadd, 1), (60, .iaload, 1), (61, .istore 4, 2), (63, .aload_n 0, 1), (64, .getfield 13, 3), (67, .bipush 10, 2), (69, .iload_n 1, 1), (70, .imul, 1)]
theorem daX12_miles_0 : tdaX12_miles_0.all (fun q => decide (decode cX12_miles q.1 = .ok q.2)) = true := by decide +kernel
theorem dX12_miles_0 : decode cX12_miles 0 = .ok (.iload_n 1, 1) := dget daX12_miles_0 0 (q := (0, .iload_n 1, 1)) rfl
theorem dX12_miles_1 : decode cX12_miles 1 = .ok (.invokestatic 171, 3) := dget daX12_miles_0 1 (q := (1, .invokestatic 171, 3)) rfl
theorem dX12_miles_4 : decode cX12_miles 4 = .ok (.ifCond .eq 15, 3) := dget daX12_miles_0 2 (q := (4, .ifCond .eq 15, 3)) rfl
theorem dX12_miles_7 : decode cX12_miles 7 = .ok (.iload_n 2, 1) := dget daX12_miles_0 3 (q := (7, .iload_n 2, 1)) rfl
theorem dX12_miles_8 : decode cX12_miles 8 = .ok (.invokestatic 171, 3) := dget daX12_miles_0 4 (q := (8, .invokestatic 171, 3)) rfl
theorem dX12_miles_11 : decode cX12_miles 11 = .ok (.ifCond .eq 8, 3) := dget daX12_miles_0 5 (q := (11, .ifCond .eq 8, 3)) rfl
theorem dX12_miles_14 : decode cX12_miles 14 = .ok (.iload_n 1, 1) := dget daX12_miles_0 6 (q := (14, .iload_n 1, 1)) rfl
theorem dX12_miles_15 : decode cX12_miles 15 = .ok (.iload_n 2, 1) := dget daX12_miles_0 7 (q := (15, .iload_n 2, 1)) rfl
theorem dX12_miles_16 : decode cX12_miles 16 = .ok (.if_icmp .ne 9, 3) := dget daX12_miles_0 8 (q := (16, .if_icmp .ne 9, 3)) rfl
theorem dX12_miles_19 : decode cX12_miles 19 = .ok (.aload_n 0, 1) := dget daX12_miles_0 9 (q := (19, .aload_n 0, 1)) rfl
theorem dX12_miles_20 : decode cX12_miles 20 = .ok (.iconst (-1), 1) := dget daX12_miles_0 10 (q := (20, .iconst (-1), 1)) rfl
theorem dX12_miles_21 : decode cX12_miles 21 = .ok (.invokevirtual 164, 3) := dget daX12_miles_0 11 (q := (21, .invokevirtual 164, 3)) rfl
theorem dX12_miles_24 : decode cX12_miles 24 = .ok (.ireturn, 1) := dget daX12_miles_0 12 (q := (24, .ireturn, 1)) rfl
theorem dX12_miles_25 : decode cX12_miles 25 = .ok (.iload_n 3, 1) := dget daX12_miles_0 13 (q := (25, .iload_n 3, 1)) rfl
theorem dX12_miles_26 : decode cX12_miles 26 = .ok (.ifCond .ge 10, 3) := dget daX12_miles_0 14 (q := (26, .ifCond .ge 10, 3)) rfl
theorem dX12_miles_29 : decode cX12_miles 29 = .ok (.aload_n 0, 1) := dget daX12_miles_0 15 (q := (29, .aload_n 0, 1)) rfl
theorem dX12_miles_30 : decode cX12_miles 30 = .ok (.bipush (-4), 2) := dget daX12_miles_0 16 (q := (30, .bipush (-4), 2)) rfl
theorem dX12_miles_32 : decode cX12_miles 32 = .ok (.invokevirtual 164, 3) := dget daX12_miles_0 17 (q := (32, .invokevirtual 164, 3)) rfl
theorem dX12_miles_35 : decode cX12_miles 35 = .ok (.ireturn, 1) := dget daX12_miles_0 18 (q := (35, .ireturn, 1)) rfl
theorem dX12_miles_36 : decode cX12_miles 36 = .ok (.iload_n 3, 1) := dget daX12_miles_0 19 (q := (36, .iload_n 3, 1)) rfl
theorem dX12_miles_37 : decode cX12_miles 37 = .ok (.sipush 9999, 3) := dget daX12_miles_0 20 (q := (37, .sipush 9999, 3)) rfl
theorem dX12_miles_40 : decode cX12_miles 40 = .ok (.if_icmp .le 10, 3) := dget daX12_miles_0 21 (q := (40, .if_icmp .le 10, 3)) rfl
theorem dX12_miles_43 : decode cX12_miles 43 = .ok (.aload_n 0, 1) := dget daX12_miles_0 22 (q := (43, .aload_n 0, 1)) rfl
theorem dX12_miles_44 : decode cX12_miles 44 = .ok (.bipush (-6), 2) := dget daX12_miles_0 23 (q := (44, .bipush (-6), 2)) rfl
theorem dX12_miles_46 : decode cX12_miles 46 = .ok (.invokevirtual 164, 3) := dget daX12_miles_0 24 (q := (46, .invokevirtual 164, 3)) rfl
theorem dX12_miles_49 : decode cX12_miles 49 = .ok (.ireturn, 1) := dget daX12_miles_0 25 (q := (49, .ireturn, 1)) rfl
theorem dX12_miles_50 : decode cX12_miles 50 = .ok (.aload_n 0, 1) := dget daX12_miles_0 26 (q := (50, .aload_n 0, 1)) rfl
theorem dX12_miles_51 : decode cX12_miles 51 = .ok (.getfield 13, 3) := dget daX12_miles_0 27 (q := (51, .getfield 13, 3)) rfl
theorem dX12_miles_54 : decode cX12_miles 54 = .ok (.bipush 10, 2) := dget daX12_miles_0 28 (q := (54, .bipush 10, 2)) rfl
theorem dX12_miles_56 : decode cX12_miles 56 = .ok (.iload_n 1, 1) := dget daX12_miles_0 29 (q := (56, .iload_n 1, 1)) rfl
theorem dX12_miles_57 : decode cX12_miles 57 = .ok (.imul, 1) := dget daX12_miles_0 30 (q := (57, .imul, 1)) rfl
theorem dX12_miles_58 : decode cX12_miles 58 = .ok (.iload_n 2, 1) := dget daX12_miles_0 31 (q := (58, .iload_n 2, 1)) rfl
theorem dX12_miles_59 : decode cX12_miles 59 = .ok (.iadd, 1) := dget daX12_miles_0 32 (q := (59, .iadd, 1)) rfl
theorem dX12_miles_60 : decode cX12_miles 60 = .ok (.iaload, 1) := dget daX12_miles_0 33 (q := (60, .iaload, 1)) rfl
theorem dX12_miles_61 : decode cX12_miles 61 = .ok (.istore 4, 2) := dget daX12_miles_0 34 (q := (61, .istore 4, 2)) rfl
theorem dX12_miles_63 : decode cX12_miles 63 = .ok (.aload_n 0, 1) := dget daX12_miles_0 35 (q := (63, .aload_n 0, 1)) rfl
theorem dX12_miles_64 : decode cX12_miles 64 = .ok (.getfield 13, 3) := dget daX12_miles_0 36 (q := (64, .getfield 13, 3)) rfl
theorem dX12_miles_67 : decode cX12_miles 67 = .ok (.bipush 10, 2) := dget daX12_miles_0 37 (q := (67, .bipush 10, 2)) rfl
theorem dX12_miles_69 : decode cX12_miles 69 = .ok (.iload_n 1, 1) := dget daX12_miles_0 38 (q := (69, .iload_n 1, 1)) rfl
theorem dX12_miles_70 : decode cX12_miles 70 = .ok (.imul, 1) := dget daX12_miles_0 39 (q := (70, .imul, 1)) rfl
def tdaX12_miles_1 : List (Nat × (Instr × Nat)) := [(71, .iload_n 2, 1), (72, .iadd, 1), (73, .iload_n 3, 1), (74, .iastore, 1), (75, .aload_n 0, 1), (76, .getfield 13, 3), (79, .bipush 10, 2), (81, .iload_n 2, 1), (82, .imul, 1), (83, .iload_n 1, 1), (84, .iadd, 1), (85, .iload_n 3, 1), (86, .iastore, 1), (87, .iload 4, 2), (89, .ireturn, 1)]
theorem daX12_miles_1 : tdaX12_miles_1.all (fun q => decide (decode cX12_miles q.1 = .ok q.2)) = true := by decide +kernel
theorem dX12_miles_71 : decode cX12_miles 71 = .ok (.iload_n 2, 1) := dget daX12_miles_1 0 (q := (71, .iload_n 2, 1)) rfl
theorem dX12_miles_72 : decode cX12_miles 72 = .ok (.iadd, 1) := dget daX12_miles_1 1 (q := (72, .iadd, 1)) rfl
theorem dX12_miles_73 : decode cX12_miles 73 = .ok (.iload_n 3, 1) := dget daX12_miles_1 2 (q := (73, .iload_n 3, 1)) rfl
theorem dX12_miles_74 : decode cX12_miles 74 = .ok (.iastore, 1) := dget daX12_miles_1 3 (q := (74, .iastore, 1)) rfl
theorem dX12_miles_75 : decode cX12_miles 75 = .ok (.aload_n 0, 1) := dget daX12_miles_1 4 (q := (75, .aload_n 0, 1)) rfl
theorem dX12_miles_76 : decode cX12_miles 76 = .ok (.getfield 13, 3) := dget daX12_miles_1 5 (q := (76, .getfield 13, 3)) rfl
theorem dX12_miles_79 : decode cX12_miles 79 = .ok (.bipush 10, 2) := dget daX12_miles_1 6 (q := (79, .bipush 10, 2)) rfl
theorem dX12_miles_81 : decode cX12_miles 81 = .ok (.iload_n 2, 1) := dget daX12_miles_1 7 (q := (81, .iload_n 2, 1)) rfl
theorem dX12_miles_82 : decode cX12_miles 82 = .ok (.imul, 1) := dget daX12_miles_1 8 (q := (82, .imul, 1)) rfl
theorem dX12_miles_83 : decode cX12_miles 83 = .ok (.iload_n 1, 1) := dget daX12_miles_1 9 (q := (83, .iload_n 1, 1)) rfl
theorem dX12_miles_84 : decode cX12_miles 84 = .ok (.iadd, 1) := dget daX12_miles_1 10 (q := (84, .iadd, 1)) rfl
theorem dX12_miles_85 : decode cX12_miles 85 = .ok (.iload_n 3, 1) := dget daX12_miles_1 11 (q := (85, .iload_n 3, 1)) rfl
theorem dX12_miles_86 : decode cX12_miles 86 = .ok (.iastore, 1) := dget daX12_miles_1 12 (q := (86, .iastore, 1)) rfl
theorem dX12_miles_87 : decode cX12_miles 87 = .ok (.iload 4, 2) := dget daX12_miles_1 13 (q := (87, .iload 4, 2)) rfl
theorem dX12_miles_89 : decode cX12_miles 89 = .ok (.ireturn, 1) := dget daX12_miles_1 14 (q := (89, .ireturn, 1)) rfl
def tdaX12_seen_0 : List (Nat × (Instr × Nat)) := [(0, .iload_n 1, 1), (1, .invokestatic 171, 3), (4, .ifCond .eq 15, 3), (7, .iload_n 2, 1), (8, .invokestatic 171, 3), (11, .ifCond .eq 8, 3), (14, .iload_n 1, 1), (15, .iload_n 2, 1), (16, .if_icmp .ne 9, 3), (19, .aload_n 0, 1), (20, .iconst (-1), 1), (21, .invokevirtual 164, 3), (24, .ireturn, 1), (25, .iload_n 3, 1), (26, .sipush (-600), 3), (29, .if_icmp .ge 10, 3), (32, .aload_n 0, 1), (33, .bipush (-4), 2), (35, .invokevirtual 164, 3), (38, .ireturn, 1), (39, .iload_n 3, 1), (40, .sipush 600, 3), (43, .if_icmp .le 10, 3), (46, .aload_n 0, 1), (47, .bipush (-6), 2), (49, .invokevirtual 164, 3), (52, .ireturn, 1), (53, .aload_n 0, 1), (54, .getfield 16, 3), (57, .iload_n 1, 1), (58, .iaload, 1), (59, .aload_n 0, 1), (60, .getfield 16, 3), (63, .iload_n 2, 1), (64, .iaload, 1), (65, .if_icmp .ne 57, 3), (68, .aload_n 0, 1), (69, .getfield 19, 3), (72, .iload_n 1, 1), (73, .iaload, 1)]
theorem daX12_seen_0 : tdaX12_seen_0.all (fun q => decide (decode cX12_seen q.1 = .ok q.2)) = true := by decide +kernel
theorem dX12_seen_0 : decode cX12_seen 0 = .ok (.iload_n 1, 1) := dget daX12_seen_0 0 (q := (0, .iload_n 1, 1)) rfl
theorem dX12_seen_1 : decode cX12_seen 1 = .ok (.invokestatic 171, 3) := dget daX12_seen_0 1 (q := (1, .invokestatic 171, 3)) rfl
theorem dX12_seen_4 : decode cX12_seen 4 = .ok (.ifCond .eq 15, 3) := dget daX12_seen_0 2 (q := (4, .ifCond .eq 15, 3)) rfl
theorem dX12_seen_7 : decode cX12_seen 7 = .ok (.iload_n 2, 1) := dget daX12_seen_0 3 (q := (7, .iload_n 2, 1)) rfl
theorem dX12_seen_8 : decode cX12_seen 8 = .ok (.invokestatic 171, 3) := dget daX12_seen_0 4 (q := (8, .invokestatic 171, 3)) rfl
theorem dX12_seen_11 : decode cX12_seen 11 = .ok (.ifCond .eq 8, 3) := dget daX12_seen_0 5 (q := (11, .ifCond .eq 8, 3)) rfl
theorem dX12_seen_14 : decode cX12_seen 14 = .ok (.iload_n 1, 1) := dget daX12_seen_0 6 (q := (14, .iload_n 1, 1)) rfl
theorem dX12_seen_15 : decode cX12_seen 15 = .ok (.iload_n 2, 1) := dget daX12_seen_0 7 (q := (15, .iload_n 2, 1)) rfl
theorem dX12_seen_16 : decode cX12_seen 16 = .ok (.if_icmp .ne 9, 3) := dget daX12_seen_0 8 (q := (16, .if_icmp .ne 9, 3)) rfl
theorem dX12_seen_19 : decode cX12_seen 19 = .ok (.aload_n 0, 1) := dget daX12_seen_0 9 (q := (19, .aload_n 0, 1)) rfl
theorem dX12_seen_20 : decode cX12_seen 20 = .ok (.iconst (-1), 1) := dget daX12_seen_0 10 (q := (20, .iconst (-1), 1)) rfl
theorem dX12_seen_21 : decode cX12_seen 21 = .ok (.invokevirtual 164, 3) := dget daX12_seen_0 11 (q := (21, .invokevirtual 164, 3)) rfl
theorem dX12_seen_24 : decode cX12_seen 24 = .ok (.ireturn, 1) := dget daX12_seen_0 12 (q := (24, .ireturn, 1)) rfl
theorem dX12_seen_25 : decode cX12_seen 25 = .ok (.iload_n 3, 1) := dget daX12_seen_0 13 (q := (25, .iload_n 3, 1)) rfl
theorem dX12_seen_26 : decode cX12_seen 26 = .ok (.sipush (-600), 3) := dget daX12_seen_0 14 (q := (26, .sipush (-600), 3)) rfl
theorem dX12_seen_29 : decode cX12_seen 29 = .ok (.if_icmp .ge 10, 3) := dget daX12_seen_0 15 (q := (29, .if_icmp .ge 10, 3)) rfl
theorem dX12_seen_32 : decode cX12_seen 32 = .ok (.aload_n 0, 1) := dget daX12_seen_0 16 (q := (32, .aload_n 0, 1)) rfl
theorem dX12_seen_33 : decode cX12_seen 33 = .ok (.bipush (-4), 2) := dget daX12_seen_0 17 (q := (33, .bipush (-4), 2)) rfl
theorem dX12_seen_35 : decode cX12_seen 35 = .ok (.invokevirtual 164, 3) := dget daX12_seen_0 18 (q := (35, .invokevirtual 164, 3)) rfl
theorem dX12_seen_38 : decode cX12_seen 38 = .ok (.ireturn, 1) := dget daX12_seen_0 19 (q := (38, .ireturn, 1)) rfl
theorem dX12_seen_39 : decode cX12_seen 39 = .ok (.iload_n 3, 1) := dget daX12_seen_0 20 (q := (39, .iload_n 3, 1)) rfl
theorem dX12_seen_40 : decode cX12_seen 40 = .ok (.sipush 600, 3) := dget daX12_seen_0 21 (q := (40, .sipush 600, 3)) rfl
theorem dX12_seen_43 : decode cX12_seen 43 = .ok (.if_icmp .le 10, 3) := dget daX12_seen_0 22 (q := (43, .if_icmp .le 10, 3)) rfl
theorem dX12_seen_46 : decode cX12_seen 46 = .ok (.aload_n 0, 1) := dget daX12_seen_0 23 (q := (46, .aload_n 0, 1)) rfl
theorem dX12_seen_47 : decode cX12_seen 47 = .ok (.bipush (-6), 2) := dget daX12_seen_0 24 (q := (47, .bipush (-6), 2)) rfl
theorem dX12_seen_49 : decode cX12_seen 49 = .ok (.invokevirtual 164, 3) := dget daX12_seen_0 25 (q := (49, .invokevirtual 164, 3)) rfl
theorem dX12_seen_52 : decode cX12_seen 52 = .ok (.ireturn, 1) := dget daX12_seen_0 26 (q := (52, .ireturn, 1)) rfl
theorem dX12_seen_53 : decode cX12_seen 53 = .ok (.aload_n 0, 1) := dget daX12_seen_0 27 (q := (53, .aload_n 0, 1)) rfl
theorem dX12_seen_54 : decode cX12_seen 54 = .ok (.getfield 16, 3) := dget daX12_seen_0 28 (q := (54, .getfield 16, 3)) rfl
theorem dX12_seen_57 : decode cX12_seen 57 = .ok (.iload_n 1, 1) := dget daX12_seen_0 29 (q := (57, .iload_n 1, 1)) rfl
theorem dX12_seen_58 : decode cX12_seen 58 = .ok (.iaload, 1) := dget daX12_seen_0 30 (q := (58, .iaload, 1)) rfl
theorem dX12_seen_59 : decode cX12_seen 59 = .ok (.aload_n 0, 1) := dget daX12_seen_0 31 (q := (59, .aload_n 0, 1)) rfl
theorem dX12_seen_60 : decode cX12_seen 60 = .ok (.getfield 16, 3) := dget daX12_seen_0 32 (q := (60, .getfield 16, 3)) rfl
theorem dX12_seen_63 : decode cX12_seen 63 = .ok (.iload_n 2, 1) := dget daX12_seen_0 33 (q := (63, .iload_n 2, 1)) rfl
theorem dX12_seen_64 : decode cX12_seen 64 = .ok (.iaload, 1) := dget daX12_seen_0 34 (q := (64, .iaload, 1)) rfl
theorem dX12_seen_65 : decode cX12_seen 65 = .ok (.if_icmp .ne 57, 3) := dget daX12_seen_0 35 (q := (65, .if_icmp .ne 57, 3)) rfl
theorem dX12_seen_68 : decode cX12_seen 68 = .ok (.aload_n 0, 1) := dget daX12_seen_0 36 (q := (68, .aload_n 0, 1)) rfl
theorem dX12_seen_69 : decode cX12_seen 69 = .ok (.getfield 19, 3) := dget daX12_seen_0 37 (q := (69, .getfield 19, 3)) rfl
theorem dX12_seen_72 : decode cX12_seen 72 = .ok (.iload_n 1, 1) := dget daX12_seen_0 38 (q := (72, .iload_n 1, 1)) rfl
theorem dX12_seen_73 : decode cX12_seen 73 = .ok (.iaload, 1) := dget daX12_seen_0 39 (q := (73, .iaload, 1)) rfl
def tdaX12_seen_1 : List (Nat × (Instr × Nat)) := [(74, .aload_n 0, 1), (75, .getfield 19, 3), (78, .iload_n 2, 1), (79, .iaload, 1), (80, .isub, 1), (81, .iload_n 3, 1), (82, .if_icmp .ne 7, 3), (85, .iconst 1, 1), (86, .goto 4, 3), (89, .iconst 0, 1), (90, .istore 4, 2), (92, .aload_n 0, 1), (93, .dup, 1), (94, .getfield 175, 3), (97, .iload 4, 2), (99, .ifCond .eq 7, 3), (102, .iconst 0, 1), (103, .goto 4, 3), (106, .iconst 1, 1), (107, .iadd, 1), (108, .putfield 175, 3), (111, .iload 4, 2), (113, .ifCond .eq 7, 3), (116, .iconst 1, 1), (117, .goto 4, 3), (120, .iconst 0, 1), (121, .ireturn, 1), (122, .iload_n 3, 1), (123, .aload_n 0, 1), (124, .getfield 19, 3), (127, .iload_n 1, 1), (128, .iaload, 1), (129, .isub, 1), (130, .aload_n 0, 1), (131, .getfield 19, 3), (134, .iload_n 2, 1), (135, .iaload, 1), (136, .iadd, 1), (137, .istore 4, 2), (139, .aload_n 0, 1)]
theorem daX12_seen_1 : tdaX12_seen_1.all (fun q => decide (decode cX12_seen q.1 = .ok q.2)) = true := by decide +kernel
theorem dX12_seen_74 : decode cX12_seen 74 = .ok (.aload_n 0, 1) := dget daX12_seen_1 0 (q := (74, .aload_n 0, 1)) rfl
theorem dX12_seen_75 : decode cX12_seen 75 = .ok (.getfield 19, 3) := dget daX12_seen_1 1 (q := (75, .getfield 19, 3)) rfl
theorem dX12_seen_78 : decode cX12_seen 78 = .ok (.iload_n 2, 1) := dget daX12_seen_1 2 (q := (78, .iload_n 2, 1)) rfl
theorem dX12_seen_79 : decode cX12_seen 79 = .ok (.iaload, 1) := dget daX12_seen_1 3 (q := (79, .iaload, 1)) rfl
theorem dX12_seen_80 : decode cX12_seen 80 = .ok (.isub, 1) := dget daX12_seen_1 4 (q := (80, .isub, 1)) rfl
theorem dX12_seen_81 : decode cX12_seen 81 = .ok (.iload_n 3, 1) := dget daX12_seen_1 5 (q := (81, .iload_n 3, 1)) rfl
theorem dX12_seen_82 : decode cX12_seen 82 = .ok (.if_icmp .ne 7, 3) := dget daX12_seen_1 6 (q := (82, .if_icmp .ne 7, 3)) rfl
theorem dX12_seen_85 : decode cX12_seen 85 = .ok (.iconst 1, 1) := dget daX12_seen_1 7 (q := (85, .iconst 1, 1)) rfl
theorem dX12_seen_86 : decode cX12_seen 86 = .ok (.goto 4, 3) := dget daX12_seen_1 8 (q := (86, .goto 4, 3)) rfl
theorem dX12_seen_89 : decode cX12_seen 89 = .ok (.iconst 0, 1) := dget daX12_seen_1 9 (q := (89, .iconst 0, 1)) rfl
theorem dX12_seen_90 : decode cX12_seen 90 = .ok (.istore 4, 2) := dget daX12_seen_1 10 (q := (90, .istore 4, 2)) rfl
theorem dX12_seen_92 : decode cX12_seen 92 = .ok (.aload_n 0, 1) := dget daX12_seen_1 11 (q := (92, .aload_n 0, 1)) rfl
theorem dX12_seen_93 : decode cX12_seen 93 = .ok (.dup, 1) := dget daX12_seen_1 12 (q := (93, .dup, 1)) rfl
theorem dX12_seen_94 : decode cX12_seen 94 = .ok (.getfield 175, 3) := dget daX12_seen_1 13 (q := (94, .getfield 175, 3)) rfl
theorem dX12_seen_97 : decode cX12_seen 97 = .ok (.iload 4, 2) := dget daX12_seen_1 14 (q := (97, .iload 4, 2)) rfl
theorem dX12_seen_99 : decode cX12_seen 99 = .ok (.ifCond .eq 7, 3) := dget daX12_seen_1 15 (q := (99, .ifCond .eq 7, 3)) rfl
theorem dX12_seen_102 : decode cX12_seen 102 = .ok (.iconst 0, 1) := dget daX12_seen_1 16 (q := (102, .iconst 0, 1)) rfl
theorem dX12_seen_103 : decode cX12_seen 103 = .ok (.goto 4, 3) := dget daX12_seen_1 17 (q := (103, .goto 4, 3)) rfl
theorem dX12_seen_106 : decode cX12_seen 106 = .ok (.iconst 1, 1) := dget daX12_seen_1 18 (q := (106, .iconst 1, 1)) rfl
theorem dX12_seen_107 : decode cX12_seen 107 = .ok (.iadd, 1) := dget daX12_seen_1 19 (q := (107, .iadd, 1)) rfl
theorem dX12_seen_108 : decode cX12_seen 108 = .ok (.putfield 175, 3) := dget daX12_seen_1 20 (q := (108, .putfield 175, 3)) rfl
theorem dX12_seen_111 : decode cX12_seen 111 = .ok (.iload 4, 2) := dget daX12_seen_1 21 (q := (111, .iload 4, 2)) rfl
theorem dX12_seen_113 : decode cX12_seen 113 = .ok (.ifCond .eq 7, 3) := dget daX12_seen_1 22 (q := (113, .ifCond .eq 7, 3)) rfl
theorem dX12_seen_116 : decode cX12_seen 116 = .ok (.iconst 1, 1) := dget daX12_seen_1 23 (q := (116, .iconst 1, 1)) rfl
theorem dX12_seen_117 : decode cX12_seen 117 = .ok (.goto 4, 3) := dget daX12_seen_1 24 (q := (117, .goto 4, 3)) rfl
theorem dX12_seen_120 : decode cX12_seen 120 = .ok (.iconst 0, 1) := dget daX12_seen_1 25 (q := (120, .iconst 0, 1)) rfl
theorem dX12_seen_121 : decode cX12_seen 121 = .ok (.ireturn, 1) := dget daX12_seen_1 26 (q := (121, .ireturn, 1)) rfl
theorem dX12_seen_122 : decode cX12_seen 122 = .ok (.iload_n 3, 1) := dget daX12_seen_1 27 (q := (122, .iload_n 3, 1)) rfl
theorem dX12_seen_123 : decode cX12_seen 123 = .ok (.aload_n 0, 1) := dget daX12_seen_1 28 (q := (123, .aload_n 0, 1)) rfl
theorem dX12_seen_124 : decode cX12_seen 124 = .ok (.getfield 19, 3) := dget daX12_seen_1 29 (q := (124, .getfield 19, 3)) rfl
theorem dX12_seen_127 : decode cX12_seen 127 = .ok (.iload_n 1, 1) := dget daX12_seen_1 30 (q := (127, .iload_n 1, 1)) rfl
theorem dX12_seen_128 : decode cX12_seen 128 = .ok (.iaload, 1) := dget daX12_seen_1 31 (q := (128, .iaload, 1)) rfl
theorem dX12_seen_129 : decode cX12_seen 129 = .ok (.isub, 1) := dget daX12_seen_1 32 (q := (129, .isub, 1)) rfl
theorem dX12_seen_130 : decode cX12_seen 130 = .ok (.aload_n 0, 1) := dget daX12_seen_1 33 (q := (130, .aload_n 0, 1)) rfl
theorem dX12_seen_131 : decode cX12_seen 131 = .ok (.getfield 19, 3) := dget daX12_seen_1 34 (q := (131, .getfield 19, 3)) rfl
theorem dX12_seen_134 : decode cX12_seen 134 = .ok (.iload_n 2, 1) := dget daX12_seen_1 35 (q := (134, .iload_n 2, 1)) rfl
theorem dX12_seen_135 : decode cX12_seen 135 = .ok (.iaload, 1) := dget daX12_seen_1 36 (q := (135, .iaload, 1)) rfl
theorem dX12_seen_136 : decode cX12_seen 136 = .ok (.iadd, 1) := dget daX12_seen_1 37 (q := (136, .iadd, 1)) rfl
theorem dX12_seen_137 : decode cX12_seen 137 = .ok (.istore 4, 2) := dget daX12_seen_1 38 (q := (137, .istore 4, 2)) rfl
theorem dX12_seen_139 : decode cX12_seen 139 = .ok (.aload_n 0, 1) := dget daX12_seen_1 39 (q := (139, .aload_n 0, 1)) rfl
def tdaX12_seen_2 : List (Nat × (Instr × Nat)) := [(140, .getfield 16, 3), (143, .iload_n 1, 1), (144, .iaload, 1), (145, .istore 5, 2), (147, .aload_n 0, 1), (148, .getfield 16, 3), (151, .iload_n 2, 1), (152, .iaload, 1), (153, .istore 6, 2), (155, .iload 5, 2), (157, .iload 6, 2), (159, .if_icmp .ge 8, 3), (162, .iload 5, 2), (164, .goto 5, 3), (167, .iload 6, 2), (169, .istore 7, 2), (171, .iconst 0, 1), (172, .istore 8, 2), (174, .iload 8, 2), (176, .bipush 10, 2), (178, .if_icmp .ge 92, 3), (181, .iload 7, 2), (183, .iload 5, 2), (185, .if_icmp .ne 39, 3), (188, .aload_n 0, 1), (189, .getfield 16, 3), (192, .iload 8, 2), (194, .iaload, 1), (195, .iload 6, 2), (197, .if_icmp .ne 27, 3), (200, .aload_n 0, 1), (201, .getfield 19, 3), (204, .iload 8, 2), (206, .dup2, 1), (207, .iaload, 1), (208, .iload 4, 2), (210, .isub, 1), (211, .iastore, 1), (212, .aload_n 0, 1), (213, .getfield 16, 3)]
theorem daX12_seen_2 : tdaX12_seen_2.all (fun q => decide (decode cX12_seen q.1 = .ok q.2)) = true := by decide +kernel
theorem dX12_seen_140 : decode cX12_seen 140 = .ok (.getfield 16, 3) := dget daX12_seen_2 0 (q := (140, .getfield 16, 3)) rfl
theorem dX12_seen_143 : decode cX12_seen 143 = .ok (.iload_n 1, 1) := dget daX12_seen_2 1 (q := (143, .iload_n 1, 1)) rfl
theorem dX12_seen_144 : decode cX12_seen 144 = .ok (.iaload, 1) := dget daX12_seen_2 2 (q := (144, .iaload, 1)) rfl
theorem dX12_seen_145 : decode cX12_seen 145 = .ok (.istore 5, 2) := dget daX12_seen_2 3 (q := (145, .istore 5, 2)) rfl
theorem dX12_seen_147 : decode cX12_seen 147 = .ok (.aload_n 0, 1) := dget daX12_seen_2 4 (q := (147, .aload_n 0, 1)) rfl
theorem dX12_seen_148 : decode cX12_seen 148 = .ok (.getfield 16, 3) := dget daX12_seen_2 5 (q := (148, .getfield 16, 3)) rfl
theorem dX12_seen_151 : decode cX12_seen 151 = .ok (.iload_n 2, 1) := dget daX12_seen_2 6 (q := (151, .iload_n 2, 1)) rfl
theorem dX12_seen_152 : decode cX12_seen 152 = .ok (.iaload, 1) := dget daX12_seen_2 7 (q := (152, .iaload, 1)) rfl
theorem dX12_seen_153 : decode cX12_seen 153 = .ok (.istore 6, 2) := dget daX12_seen_2 8 (q := (153, .istore 6, 2)) rfl
theorem dX12_seen_155 : decode cX12_seen 155 = .ok (.iload 5, 2) := dget daX12_seen_2 9 (q := (155, .iload 5, 2)) rfl
theorem dX12_seen_157 : decode cX12_seen 157 = .ok (.iload 6, 2) := dget daX12_seen_2 10 (q := (157, .iload 6, 2)) rfl
theorem dX12_seen_159 : decode cX12_seen 159 = .ok (.if_icmp .ge 8, 3) := dget daX12_seen_2 11 (q := (159, .if_icmp .ge 8, 3)) rfl
theorem dX12_seen_162 : decode cX12_seen 162 = .ok (.iload 5, 2) := dget daX12_seen_2 12 (q := (162, .iload 5, 2)) rfl
theorem dX12_seen_164 : decode cX12_seen 164 = .ok (.goto 5, 3) := dget daX12_seen_2 13 (q := (164, .goto 5, 3)) rfl
theorem dX12_seen_167 : decode cX12_seen 167 = .ok (.iload 6, 2) := dget daX12_seen_2 14 (q := (167, .iload 6, 2)) rfl
theorem dX12_seen_169 : decode cX12_seen 169 = .ok (.istore 7, 2) := dget daX12_seen_2 15 (q := (169, .istore 7, 2)) rfl
theorem dX12_seen_171 : decode cX12_seen 171 = .ok (.iconst 0, 1) := dget daX12_seen_2 16 (q := (171, .iconst 0, 1)) rfl
theorem dX12_seen_172 : decode cX12_seen 172 = .ok (.istore 8, 2) := dget daX12_seen_2 17 (q := (172, .istore 8, 2)) rfl
theorem dX12_seen_174 : decode cX12_seen 174 = .ok (.iload 8, 2) := dget daX12_seen_2 18 (q := (174, .iload 8, 2)) rfl
theorem dX12_seen_176 : decode cX12_seen 176 = .ok (.bipush 10, 2) := dget daX12_seen_2 19 (q := (176, .bipush 10, 2)) rfl
theorem dX12_seen_178 : decode cX12_seen 178 = .ok (.if_icmp .ge 92, 3) := dget daX12_seen_2 20 (q := (178, .if_icmp .ge 92, 3)) rfl
theorem dX12_seen_181 : decode cX12_seen 181 = .ok (.iload 7, 2) := dget daX12_seen_2 21 (q := (181, .iload 7, 2)) rfl
theorem dX12_seen_183 : decode cX12_seen 183 = .ok (.iload 5, 2) := dget daX12_seen_2 22 (q := (183, .iload 5, 2)) rfl
theorem dX12_seen_185 : decode cX12_seen 185 = .ok (.if_icmp .ne 39, 3) := dget daX12_seen_2 23 (q := (185, .if_icmp .ne 39, 3)) rfl
theorem dX12_seen_188 : decode cX12_seen 188 = .ok (.aload_n 0, 1) := dget daX12_seen_2 24 (q := (188, .aload_n 0, 1)) rfl
theorem dX12_seen_189 : decode cX12_seen 189 = .ok (.getfield 16, 3) := dget daX12_seen_2 25 (q := (189, .getfield 16, 3)) rfl
theorem dX12_seen_192 : decode cX12_seen 192 = .ok (.iload 8, 2) := dget daX12_seen_2 26 (q := (192, .iload 8, 2)) rfl
theorem dX12_seen_194 : decode cX12_seen 194 = .ok (.iaload, 1) := dget daX12_seen_2 27 (q := (194, .iaload, 1)) rfl
theorem dX12_seen_195 : decode cX12_seen 195 = .ok (.iload 6, 2) := dget daX12_seen_2 28 (q := (195, .iload 6, 2)) rfl
theorem dX12_seen_197 : decode cX12_seen 197 = .ok (.if_icmp .ne 27, 3) := dget daX12_seen_2 29 (q := (197, .if_icmp .ne 27, 3)) rfl
theorem dX12_seen_200 : decode cX12_seen 200 = .ok (.aload_n 0, 1) := dget daX12_seen_2 30 (q := (200, .aload_n 0, 1)) rfl
theorem dX12_seen_201 : decode cX12_seen 201 = .ok (.getfield 19, 3) := dget daX12_seen_2 31 (q := (201, .getfield 19, 3)) rfl
theorem dX12_seen_204 : decode cX12_seen 204 = .ok (.iload 8, 2) := dget daX12_seen_2 32 (q := (204, .iload 8, 2)) rfl
theorem dX12_seen_206 : decode cX12_seen 206 = .ok (.dup2, 1) := dget daX12_seen_2 33 (q := (206, .dup2, 1)) rfl
theorem dX12_seen_207 : decode cX12_seen 207 = .ok (.iaload, 1) := dget daX12_seen_2 34 (q := (207, .iaload, 1)) rfl
theorem dX12_seen_208 : decode cX12_seen 208 = .ok (.iload 4, 2) := dget daX12_seen_2 35 (q := (208, .iload 4, 2)) rfl
theorem dX12_seen_210 : decode cX12_seen 210 = .ok (.isub, 1) := dget daX12_seen_2 36 (q := (210, .isub, 1)) rfl
theorem dX12_seen_211 : decode cX12_seen 211 = .ok (.iastore, 1) := dget daX12_seen_2 37 (q := (211, .iastore, 1)) rfl
theorem dX12_seen_212 : decode cX12_seen 212 = .ok (.aload_n 0, 1) := dget daX12_seen_2 38 (q := (212, .aload_n 0, 1)) rfl
theorem dX12_seen_213 : decode cX12_seen 213 = .ok (.getfield 16, 3) := dget daX12_seen_2 39 (q := (213, .getfield 16, 3)) rfl
def tdaX12_seen_3 : List (Nat × (Instr × Nat)) := [(216, .iload 8, 2), (218, .iload 7, 2), (220, .iastore, 1), (221, .goto 43, 3), (224, .iload 7, 2), (226, .iload 6, 2), (228, .if_icmp .ne 36, 3), (231, .aload_n 0, 1), (232, .getfield 16, 3), (235, .iload 8, 2), (237, .iaload, 1), (238, .iload 5, 2), (240, .if_icmp .ne 24, 3), (243, .aload_n 0, 1), (244, .getfield 19, 3), (247, .iload 8, 2), (249, .dup2, 1), (250, .iaload, 1), (251, .iload 4, 2), (253, .iadd, 1), (254, .iastore, 1), (255, .aload_n 0, 1), (256, .getfield 16, 3), (259, .iload 8, 2), (261, .iload 7, 2), (263, .iastore, 1), (264, .iinc 8 1, 3), (267, .goto (-93), 3), (270, .iconst 1, 1), (271, .ireturn, 1)]
theorem daX12_seen_3 : tdaX12_seen_3.all (fun q => decide (decode cX12_seen q.1 = .ok q.2)) = true := by decide +kernel
theorem dX12_seen_216 : decode cX12_seen 216 = .ok (.iload 8, 2) := dget daX12_seen_3 0 (q := (216, .iload 8, 2)) rfl
theorem dX12_seen_218 : decode cX12_seen 218 = .ok (.iload 7, 2) := dget daX12_seen_3 1 (q := (218, .iload 7, 2)) rfl
theorem dX12_seen_220 : decode cX12_seen 220 = .ok (.iastore, 1) := dget daX12_seen_3 2 (q := (220, .iastore, 1)) rfl
theorem dX12_seen_221 : decode cX12_seen 221 = .ok (.goto 43, 3) := dget daX12_seen_3 3 (q := (221, .goto 43, 3)) rfl
theorem dX12_seen_224 : decode cX12_seen 224 = .ok (.iload 7, 2) := dget daX12_seen_3 4 (q := (224, .iload 7, 2)) rfl
theorem dX12_seen_226 : decode cX12_seen 226 = .ok (.iload 6, 2) := dget daX12_seen_3 5 (q := (226, .iload 6, 2)) rfl
theorem dX12_seen_228 : decode cX12_seen 228 = .ok (.if_icmp .ne 36, 3) := dget daX12_seen_3 6 (q := (228, .if_icmp .ne 36, 3)) rfl
theorem dX12_seen_231 : decode cX12_seen 231 = .ok (.aload_n 0, 1) := dget daX12_seen_3 7 (q := (231, .aload_n 0, 1)) rfl
theorem dX12_seen_232 : decode cX12_seen 232 = .ok (.getfield 16, 3) := dget daX12_seen_3 8 (q := (232, .getfield 16, 3)) rfl
theorem dX12_seen_235 : decode cX12_seen 235 = .ok (.iload 8, 2) := dget daX12_seen_3 9 (q := (235, .iload 8, 2)) rfl
theorem dX12_seen_237 : decode cX12_seen 237 = .ok (.iaload, 1) := dget daX12_seen_3 10 (q := (237, .iaload, 1)) rfl
theorem dX12_seen_238 : decode cX12_seen 238 = .ok (.iload 5, 2) := dget daX12_seen_3 11 (q := (238, .iload 5, 2)) rfl
theorem dX12_seen_240 : decode cX12_seen 240 = .ok (.if_icmp .ne 24, 3) := dget daX12_seen_3 12 (q := (240, .if_icmp .ne 24, 3)) rfl
theorem dX12_seen_243 : decode cX12_seen 243 = .ok (.aload_n 0, 1) := dget daX12_seen_3 13 (q := (243, .aload_n 0, 1)) rfl
theorem dX12_seen_244 : decode cX12_seen 244 = .ok (.getfield 19, 3) := dget daX12_seen_3 14 (q := (244, .getfield 19, 3)) rfl
theorem dX12_seen_247 : decode cX12_seen 247 = .ok (.iload 8, 2) := dget daX12_seen_3 15 (q := (247, .iload 8, 2)) rfl
theorem dX12_seen_249 : decode cX12_seen 249 = .ok (.dup2, 1) := dget daX12_seen_3 16 (q := (249, .dup2, 1)) rfl
theorem dX12_seen_250 : decode cX12_seen 250 = .ok (.iaload, 1) := dget daX12_seen_3 17 (q := (250, .iaload, 1)) rfl
theorem dX12_seen_251 : decode cX12_seen 251 = .ok (.iload 4, 2) := dget daX12_seen_3 18 (q := (251, .iload 4, 2)) rfl
theorem dX12_seen_253 : decode cX12_seen 253 = .ok (.iadd, 1) := dget daX12_seen_3 19 (q := (253, .iadd, 1)) rfl
theorem dX12_seen_254 : decode cX12_seen 254 = .ok (.iastore, 1) := dget daX12_seen_3 20 (q := (254, .iastore, 1)) rfl
theorem dX12_seen_255 : decode cX12_seen 255 = .ok (.aload_n 0, 1) := dget daX12_seen_3 21 (q := (255, .aload_n 0, 1)) rfl
theorem dX12_seen_256 : decode cX12_seen 256 = .ok (.getfield 16, 3) := dget daX12_seen_3 22 (q := (256, .getfield 16, 3)) rfl
theorem dX12_seen_259 : decode cX12_seen 259 = .ok (.iload 8, 2) := dget daX12_seen_3 23 (q := (259, .iload 8, 2)) rfl
theorem dX12_seen_261 : decode cX12_seen 261 = .ok (.iload 7, 2) := dget daX12_seen_3 24 (q := (261, .iload 7, 2)) rfl
theorem dX12_seen_263 : decode cX12_seen 263 = .ok (.iastore, 1) := dget daX12_seen_3 25 (q := (263, .iastore, 1)) rfl
theorem dX12_seen_264 : decode cX12_seen 264 = .ok (.iinc 8 1, 3) := dget daX12_seen_3 26 (q := (264, .iinc 8 1, 3)) rfl
theorem dX12_seen_267 : decode cX12_seen 267 = .ok (.goto (-93), 3) := dget daX12_seen_3 27 (q := (267, .goto (-93), 3)) rfl
theorem dX12_seen_270 : decode cX12_seen 270 = .ok (.iconst 1, 1) := dget daX12_seen_3 28 (q := (270, .iconst 1, 1)) rfl
theorem dX12_seen_271 : decode cX12_seen 271 = .ok (.ireturn, 1) := dget daX12_seen_3 29 (q := (271, .ireturn, 1)) rfl
def tdaX12_off_0 : List (Nat × (Instr × Nat)) := [(0, .iload_n 1, 1), (1, .invokestatic 171, 3), (4, .ifCond .eq 12, 3), (7, .aload_n 0, 1), (8, .getfield 19, 3), (11, .iload_n 1, 1), (12, .iaload, 1), (13, .goto 8, 3), (16, .aload_n 0, 1), (17, .iconst (-1), 1), (18, .invokevirtual 178, 3), (21, .ireturn, 1)]
theorem daX12_off_0 : tdaX12_off_0.all (fun q => decide (decode cX12_off q.1 = .ok q.2)) = true := by decide +kernel
theorem dX12_off_0 : decode cX12_off 0 = .ok (.iload_n 1, 1) := dget daX12_off_0 0 (q := (0, .iload_n 1, 1)) rfl
theorem dX12_off_1 : decode cX12_off 1 = .ok (.invokestatic 171, 3) := dget daX12_off_0 1 (q := (1, .invokestatic 171, 3)) rfl
theorem dX12_off_4 : decode cX12_off 4 = .ok (.ifCond .eq 12, 3) := dget daX12_off_0 2 (q := (4, .ifCond .eq 12, 3)) rfl
theorem dX12_off_7 : decode cX12_off 7 = .ok (.aload_n 0, 1) := dget daX12_off_0 3 (q := (7, .aload_n 0, 1)) rfl
theorem dX12_off_8 : decode cX12_off 8 = .ok (.getfield 19, 3) := dget daX12_off_0 4 (q := (8, .getfield 19, 3)) rfl
theorem dX12_off_11 : decode cX12_off 11 = .ok (.iload_n 1, 1) := dget daX12_off_0 5 (q := (11, .iload_n 1, 1)) rfl
theorem dX12_off_12 : decode cX12_off 12 = .ok (.iaload, 1) := dget daX12_off_0 6 (q := (12, .iaload, 1)) rfl
theorem dX12_off_13 : decode cX12_off 13 = .ok (.goto 8, 3) := dget daX12_off_0 7 (q := (13, .goto 8, 3)) rfl
theorem dX12_off_16 : decode cX12_off 16 = .ok (.aload_n 0, 1) := dget daX12_off_0 8 (q := (16, .aload_n 0, 1)) rfl
theorem dX12_off_17 : decode cX12_off 17 = .ok (.iconst (-1), 1) := dget daX12_off_0 9 (q := (17, .iconst (-1), 1)) rfl
theorem dX12_off_18 : decode cX12_off 18 = .ok (.invokevirtual 178, 3) := dget daX12_off_0 10 (q := (18, .invokevirtual 178, 3)) rfl
theorem dX12_off_21 : decode cX12_off 21 = .ok (.ireturn, 1) := dget daX12_off_0 11 (q := (21, .ireturn, 1)) rfl
def tdaX12_leg_0 : List (Nat × (Instr × Nat)) := [(0, .iload_n 1, 1), (1, .invokestatic 171, 3), (4, .ifCond .eq 34, 3), (7, .iload_n 2, 1), (8, .invokestatic 171, 3), (11, .ifCond .eq 27, 3), (14, .iload_n 1, 1), (15, .iload_n 2, 1), (16, .if_icmp .eq 22, 3), (19, .iload_n 3, 1), (20, .iconst 0, 1), (21, .iconst 5, 1), (22, .invokestatic 156, 3), (25, .ifCond .eq 13, 3), (28, .iload 4, 2), (30, .iconst 0, 1), (31, .iconst 5, 1), (32, .invokestatic 156, 3), (35, .ifCond .ne 9, 3), (38, .aload_n 0, 1), (39, .iconst (-1), 1), (40, .invokevirtual 164, 3), (43, .ireturn, 1), (44, .iload 5, 2), (46, .ifCond .lt 10, 3), (49, .iload 6, 2), (51, .iload 5, 2), (53, .if_icmp .gt 10, 3), (56, .aload_n 0, 1), (57, .bipush (-4), 2), (59, .invokevirtual 164, 3), (62, .ireturn, 1), (63, .iload 6, 2), (65, .sipush 20000, 3), (68, .if_icmp .gt 12, 3), (71, .aload_n 0, 1), (72, .getfield 160, 3), (75, .bipush 40, 2), (77, .if_icmp .ne 10, 3), (80, .aload_n 0, 1)]
theorem daX12_leg_0 : tdaX12_leg_0.all (fun q => decide (decode cX12_leg q.1 = .ok q.2)) = true := by decide +kernel
theorem dX12_leg_0 : decode cX12_leg 0 = .ok (.iload_n 1, 1) := dget daX12_leg_0 0 (q := (0, .iload_n 1, 1)) rfl
theorem dX12_leg_1 : decode cX12_leg 1 = .ok (.invokestatic 171, 3) := dget daX12_leg_0 1 (q := (1, .invokestatic 171, 3)) rfl
theorem dX12_leg_4 : decode cX12_leg 4 = .ok (.ifCond .eq 34, 3) := dget daX12_leg_0 2 (q := (4, .ifCond .eq 34, 3)) rfl
theorem dX12_leg_7 : decode cX12_leg 7 = .ok (.iload_n 2, 1) := dget daX12_leg_0 3 (q := (7, .iload_n 2, 1)) rfl
theorem dX12_leg_8 : decode cX12_leg 8 = .ok (.invokestatic 171, 3) := dget daX12_leg_0 4 (q := (8, .invokestatic 171, 3)) rfl
theorem dX12_leg_11 : decode cX12_leg 11 = .ok (.ifCond .eq 27, 3) := dget daX12_leg_0 5 (q := (11, .ifCond .eq 27, 3)) rfl
theorem dX12_leg_14 : decode cX12_leg 14 = .ok (.iload_n 1, 1) := dget daX12_leg_0 6 (q := (14, .iload_n 1, 1)) rfl
theorem dX12_leg_15 : decode cX12_leg 15 = .ok (.iload_n 2, 1) := dget daX12_leg_0 7 (q := (15, .iload_n 2, 1)) rfl
theorem dX12_leg_16 : decode cX12_leg 16 = .ok (.if_icmp .eq 22, 3) := dget daX12_leg_0 8 (q := (16, .if_icmp .eq 22, 3)) rfl
theorem dX12_leg_19 : decode cX12_leg 19 = .ok (.iload_n 3, 1) := dget daX12_leg_0 9 (q := (19, .iload_n 3, 1)) rfl
theorem dX12_leg_20 : decode cX12_leg 20 = .ok (.iconst 0, 1) := dget daX12_leg_0 10 (q := (20, .iconst 0, 1)) rfl
theorem dX12_leg_21 : decode cX12_leg 21 = .ok (.iconst 5, 1) := dget daX12_leg_0 11 (q := (21, .iconst 5, 1)) rfl
theorem dX12_leg_22 : decode cX12_leg 22 = .ok (.invokestatic 156, 3) := dget daX12_leg_0 12 (q := (22, .invokestatic 156, 3)) rfl
theorem dX12_leg_25 : decode cX12_leg 25 = .ok (.ifCond .eq 13, 3) := dget daX12_leg_0 13 (q := (25, .ifCond .eq 13, 3)) rfl
theorem dX12_leg_28 : decode cX12_leg 28 = .ok (.iload 4, 2) := dget daX12_leg_0 14 (q := (28, .iload 4, 2)) rfl
theorem dX12_leg_30 : decode cX12_leg 30 = .ok (.iconst 0, 1) := dget daX12_leg_0 15 (q := (30, .iconst 0, 1)) rfl
theorem dX12_leg_31 : decode cX12_leg 31 = .ok (.iconst 5, 1) := dget daX12_leg_0 16 (q := (31, .iconst 5, 1)) rfl
theorem dX12_leg_32 : decode cX12_leg 32 = .ok (.invokestatic 156, 3) := dget daX12_leg_0 17 (q := (32, .invokestatic 156, 3)) rfl
theorem dX12_leg_35 : decode cX12_leg 35 = .ok (.ifCond .ne 9, 3) := dget daX12_leg_0 18 (q := (35, .ifCond .ne 9, 3)) rfl
theorem dX12_leg_38 : decode cX12_leg 38 = .ok (.aload_n 0, 1) := dget daX12_leg_0 19 (q := (38, .aload_n 0, 1)) rfl
theorem dX12_leg_39 : decode cX12_leg 39 = .ok (.iconst (-1), 1) := dget daX12_leg_0 20 (q := (39, .iconst (-1), 1)) rfl
theorem dX12_leg_40 : decode cX12_leg 40 = .ok (.invokevirtual 164, 3) := dget daX12_leg_0 21 (q := (40, .invokevirtual 164, 3)) rfl
theorem dX12_leg_43 : decode cX12_leg 43 = .ok (.ireturn, 1) := dget daX12_leg_0 22 (q := (43, .ireturn, 1)) rfl
theorem dX12_leg_44 : decode cX12_leg 44 = .ok (.iload 5, 2) := dget daX12_leg_0 23 (q := (44, .iload 5, 2)) rfl
theorem dX12_leg_46 : decode cX12_leg 46 = .ok (.ifCond .lt 10, 3) := dget daX12_leg_0 24 (q := (46, .ifCond .lt 10, 3)) rfl
theorem dX12_leg_49 : decode cX12_leg 49 = .ok (.iload 6, 2) := dget daX12_leg_0 25 (q := (49, .iload 6, 2)) rfl
theorem dX12_leg_51 : decode cX12_leg 51 = .ok (.iload 5, 2) := dget daX12_leg_0 26 (q := (51, .iload 5, 2)) rfl
theorem dX12_leg_53 : decode cX12_leg 53 = .ok (.if_icmp .gt 10, 3) := dget daX12_leg_0 27 (q := (53, .if_icmp .gt 10, 3)) rfl
theorem dX12_leg_56 : decode cX12_leg 56 = .ok (.aload_n 0, 1) := dget daX12_leg_0 28 (q := (56, .aload_n 0, 1)) rfl
theorem dX12_leg_57 : decode cX12_leg 57 = .ok (.bipush (-4), 2) := dget daX12_leg_0 29 (q := (57, .bipush (-4), 2)) rfl
theorem dX12_leg_59 : decode cX12_leg 59 = .ok (.invokevirtual 164, 3) := dget daX12_leg_0 30 (q := (59, .invokevirtual 164, 3)) rfl
theorem dX12_leg_62 : decode cX12_leg 62 = .ok (.ireturn, 1) := dget daX12_leg_0 31 (q := (62, .ireturn, 1)) rfl
theorem dX12_leg_63 : decode cX12_leg 63 = .ok (.iload 6, 2) := dget daX12_leg_0 32 (q := (63, .iload 6, 2)) rfl
theorem dX12_leg_65 : decode cX12_leg 65 = .ok (.sipush 20000, 3) := dget daX12_leg_0 33 (q := (65, .sipush 20000, 3)) rfl
theorem dX12_leg_68 : decode cX12_leg 68 = .ok (.if_icmp .gt 12, 3) := dget daX12_leg_0 34 (q := (68, .if_icmp .gt 12, 3)) rfl
theorem dX12_leg_71 : decode cX12_leg 71 = .ok (.aload_n 0, 1) := dget daX12_leg_0 35 (q := (71, .aload_n 0, 1)) rfl
theorem dX12_leg_72 : decode cX12_leg 72 = .ok (.getfield 160, 3) := dget daX12_leg_0 36 (q := (72, .getfield 160, 3)) rfl
theorem dX12_leg_75 : decode cX12_leg 75 = .ok (.bipush 40, 2) := dget daX12_leg_0 37 (q := (75, .bipush 40, 2)) rfl
theorem dX12_leg_77 : decode cX12_leg 77 = .ok (.if_icmp .ne 10, 3) := dget daX12_leg_0 38 (q := (77, .if_icmp .ne 10, 3)) rfl
theorem dX12_leg_80 : decode cX12_leg 80 = .ok (.aload_n 0, 1) := dget daX12_leg_0 39 (q := (80, .aload_n 0, 1)) rfl
def tdaX12_leg_1 : List (Nat × (Instr × Nat)) := [(81, .bipush (-6), 2), (83, .invokevirtual 164, 3), (86, .ireturn, 1), (87, .aload_n 0, 1), (88, .getfield 22, 3), (91, .aload_n 0, 1), (92, .getfield 160, 3), (95, .iload_n 1, 1), (96, .iastore, 1), (97, .aload_n 0, 1), (98, .getfield 25, 3), (101, .aload_n 0, 1), (102, .getfield 160, 3), (105, .iload_n 2, 1), (106, .iastore, 1), (107, .aload_n 0, 1), (108, .getfield 28, 3), (111, .aload_n 0, 1), (112, .getfield 160, 3), (115, .iload_n 3, 1), (116, .iastore, 1), (117, .aload_n 0, 1), (118, .getfield 31, 3), (121, .aload_n 0, 1), (122, .getfield 160, 3), (125, .iload 4, 2), (127, .iastore, 1), (128, .aload_n 0, 1), (129, .getfield 34, 3), (132, .aload_n 0, 1), (133, .getfield 160, 3), (136, .iload 5, 2), (138, .iastore, 1), (139, .aload_n 0, 1), (140, .getfield 37, 3), (143, .aload_n 0, 1), (144, .getfield 160, 3), (147, .iload 6, 2), (149, .iastore, 1), (150, .aload_n 0, 1)]
theorem daX12_leg_1 : tdaX12_leg_1.all (fun q => decide (decode cX12_leg q.1 = .ok q.2)) = true := by decide +kernel
theorem dX12_leg_81 : decode cX12_leg 81 = .ok (.bipush (-6), 2) := dget daX12_leg_1 0 (q := (81, .bipush (-6), 2)) rfl
theorem dX12_leg_83 : decode cX12_leg 83 = .ok (.invokevirtual 164, 3) := dget daX12_leg_1 1 (q := (83, .invokevirtual 164, 3)) rfl
theorem dX12_leg_86 : decode cX12_leg 86 = .ok (.ireturn, 1) := dget daX12_leg_1 2 (q := (86, .ireturn, 1)) rfl
theorem dX12_leg_87 : decode cX12_leg 87 = .ok (.aload_n 0, 1) := dget daX12_leg_1 3 (q := (87, .aload_n 0, 1)) rfl
theorem dX12_leg_88 : decode cX12_leg 88 = .ok (.getfield 22, 3) := dget daX12_leg_1 4 (q := (88, .getfield 22, 3)) rfl
theorem dX12_leg_91 : decode cX12_leg 91 = .ok (.aload_n 0, 1) := dget daX12_leg_1 5 (q := (91, .aload_n 0, 1)) rfl
theorem dX12_leg_92 : decode cX12_leg 92 = .ok (.getfield 160, 3) := dget daX12_leg_1 6 (q := (92, .getfield 160, 3)) rfl
theorem dX12_leg_95 : decode cX12_leg 95 = .ok (.iload_n 1, 1) := dget daX12_leg_1 7 (q := (95, .iload_n 1, 1)) rfl
theorem dX12_leg_96 : decode cX12_leg 96 = .ok (.iastore, 1) := dget daX12_leg_1 8 (q := (96, .iastore, 1)) rfl
theorem dX12_leg_97 : decode cX12_leg 97 = .ok (.aload_n 0, 1) := dget daX12_leg_1 9 (q := (97, .aload_n 0, 1)) rfl
theorem dX12_leg_98 : decode cX12_leg 98 = .ok (.getfield 25, 3) := dget daX12_leg_1 10 (q := (98, .getfield 25, 3)) rfl
theorem dX12_leg_101 : decode cX12_leg 101 = .ok (.aload_n 0, 1) := dget daX12_leg_1 11 (q := (101, .aload_n 0, 1)) rfl
theorem dX12_leg_102 : decode cX12_leg 102 = .ok (.getfield 160, 3) := dget daX12_leg_1 12 (q := (102, .getfield 160, 3)) rfl
theorem dX12_leg_105 : decode cX12_leg 105 = .ok (.iload_n 2, 1) := dget daX12_leg_1 13 (q := (105, .iload_n 2, 1)) rfl
theorem dX12_leg_106 : decode cX12_leg 106 = .ok (.iastore, 1) := dget daX12_leg_1 14 (q := (106, .iastore, 1)) rfl
theorem dX12_leg_107 : decode cX12_leg 107 = .ok (.aload_n 0, 1) := dget daX12_leg_1 15 (q := (107, .aload_n 0, 1)) rfl
theorem dX12_leg_108 : decode cX12_leg 108 = .ok (.getfield 28, 3) := dget daX12_leg_1 16 (q := (108, .getfield 28, 3)) rfl
theorem dX12_leg_111 : decode cX12_leg 111 = .ok (.aload_n 0, 1) := dget daX12_leg_1 17 (q := (111, .aload_n 0, 1)) rfl
theorem dX12_leg_112 : decode cX12_leg 112 = .ok (.getfield 160, 3) := dget daX12_leg_1 18 (q := (112, .getfield 160, 3)) rfl
theorem dX12_leg_115 : decode cX12_leg 115 = .ok (.iload_n 3, 1) := dget daX12_leg_1 19 (q := (115, .iload_n 3, 1)) rfl
theorem dX12_leg_116 : decode cX12_leg 116 = .ok (.iastore, 1) := dget daX12_leg_1 20 (q := (116, .iastore, 1)) rfl
theorem dX12_leg_117 : decode cX12_leg 117 = .ok (.aload_n 0, 1) := dget daX12_leg_1 21 (q := (117, .aload_n 0, 1)) rfl
theorem dX12_leg_118 : decode cX12_leg 118 = .ok (.getfield 31, 3) := dget daX12_leg_1 22 (q := (118, .getfield 31, 3)) rfl
theorem dX12_leg_121 : decode cX12_leg 121 = .ok (.aload_n 0, 1) := dget daX12_leg_1 23 (q := (121, .aload_n 0, 1)) rfl
theorem dX12_leg_122 : decode cX12_leg 122 = .ok (.getfield 160, 3) := dget daX12_leg_1 24 (q := (122, .getfield 160, 3)) rfl
theorem dX12_leg_125 : decode cX12_leg 125 = .ok (.iload 4, 2) := dget daX12_leg_1 25 (q := (125, .iload 4, 2)) rfl
theorem dX12_leg_127 : decode cX12_leg 127 = .ok (.iastore, 1) := dget daX12_leg_1 26 (q := (127, .iastore, 1)) rfl
theorem dX12_leg_128 : decode cX12_leg 128 = .ok (.aload_n 0, 1) := dget daX12_leg_1 27 (q := (128, .aload_n 0, 1)) rfl
theorem dX12_leg_129 : decode cX12_leg 129 = .ok (.getfield 34, 3) := dget daX12_leg_1 28 (q := (129, .getfield 34, 3)) rfl
theorem dX12_leg_132 : decode cX12_leg 132 = .ok (.aload_n 0, 1) := dget daX12_leg_1 29 (q := (132, .aload_n 0, 1)) rfl
theorem dX12_leg_133 : decode cX12_leg 133 = .ok (.getfield 160, 3) := dget daX12_leg_1 30 (q := (133, .getfield 160, 3)) rfl
theorem dX12_leg_136 : decode cX12_leg 136 = .ok (.iload 5, 2) := dget daX12_leg_1 31 (q := (136, .iload 5, 2)) rfl
theorem dX12_leg_138 : decode cX12_leg 138 = .ok (.iastore, 1) := dget daX12_leg_1 32 (q := (138, .iastore, 1)) rfl
theorem dX12_leg_139 : decode cX12_leg 139 = .ok (.aload_n 0, 1) := dget daX12_leg_1 33 (q := (139, .aload_n 0, 1)) rfl
theorem dX12_leg_140 : decode cX12_leg 140 = .ok (.getfield 37, 3) := dget daX12_leg_1 34 (q := (140, .getfield 37, 3)) rfl
theorem dX12_leg_143 : decode cX12_leg 143 = .ok (.aload_n 0, 1) := dget daX12_leg_1 35 (q := (143, .aload_n 0, 1)) rfl
theorem dX12_leg_144 : decode cX12_leg 144 = .ok (.getfield 160, 3) := dget daX12_leg_1 36 (q := (144, .getfield 160, 3)) rfl
theorem dX12_leg_147 : decode cX12_leg 147 = .ok (.iload 6, 2) := dget daX12_leg_1 37 (q := (147, .iload 6, 2)) rfl
theorem dX12_leg_149 : decode cX12_leg 149 = .ok (.iastore, 1) := dget daX12_leg_1 38 (q := (149, .iastore, 1)) rfl
theorem dX12_leg_150 : decode cX12_leg 150 = .ok (.aload_n 0, 1) := dget daX12_leg_1 39 (q := (150, .aload_n 0, 1)) rfl
def tdaX12_leg_2 : List (Nat × (Instr × Nat)) := [(151, .dup, 1), (152, .getfield 160, 3), (155, .iconst 1, 1), (156, .iadd, 1), (157, .putfield 160, 3), (160, .aload_n 0, 1), (161, .getfield 160, 3), (164, .iconst 1, 1), (165, .isub, 1), (166, .ireturn, 1)]
theorem daX12_leg_2 : tdaX12_leg_2.all (fun q => decide (decode cX12_leg q.1 = .ok q.2)) = true := by decide +kernel
theorem dX12_leg_151 : decode cX12_leg 151 = .ok (.dup, 1) := dget daX12_leg_2 0 (q := (151, .dup, 1)) rfl
theorem dX12_leg_152 : decode cX12_leg 152 = .ok (.getfield 160, 3) := dget daX12_leg_2 1 (q := (152, .getfield 160, 3)) rfl
theorem dX12_leg_155 : decode cX12_leg 155 = .ok (.iconst 1, 1) := dget daX12_leg_2 2 (q := (155, .iconst 1, 1)) rfl
theorem dX12_leg_156 : decode cX12_leg 156 = .ok (.iadd, 1) := dget daX12_leg_2 3 (q := (156, .iadd, 1)) rfl
theorem dX12_leg_157 : decode cX12_leg 157 = .ok (.putfield 160, 3) := dget daX12_leg_2 4 (q := (157, .putfield 160, 3)) rfl
theorem dX12_leg_160 : decode cX12_leg 160 = .ok (.aload_n 0, 1) := dget daX12_leg_2 5 (q := (160, .aload_n 0, 1)) rfl
theorem dX12_leg_161 : decode cX12_leg 161 = .ok (.getfield 160, 3) := dget daX12_leg_2 6 (q := (161, .getfield 160, 3)) rfl
theorem dX12_leg_164 : decode cX12_leg 164 = .ok (.iconst 1, 1) := dget daX12_leg_2 7 (q := (164, .iconst 1, 1)) rfl
theorem dX12_leg_165 : decode cX12_leg 165 = .ok (.isub, 1) := dget daX12_leg_2 8 (q := (165, .isub, 1)) rfl
theorem dX12_leg_166 : decode cX12_leg 166 = .ok (.ireturn, 1) := dget daX12_leg_2 9 (q := (166, .ireturn, 1)) rfl
def tdaX12_log_0 : List (Nat × (Instr × Nat)) := [(0, .aload_n 0, 1), (1, .iload_n 1, 1), (2, .invokevirtual 181, 3), (5, .ifCond .ne 9, 3), (8, .aload_n 0, 1), (9, .iconst (-1), 1), (10, .invokevirtual 164, 3), (13, .ireturn, 1), (14, .iload_n 2, 1), (15, .ifCond .lt 7, 3), (18, .iload_n 3, 1), (19, .ifCond .ge 10, 3), (22, .aload_n 0, 1), (23, .bipush (-4), 2), (25, .invokevirtual 164, 3), (28, .ireturn, 1), (29, .iload_n 2, 1), (30, .sipush 30000, 3), (33, .if_icmp .gt 10, 3), (36, .iload_n 3, 1), (37, .sipush 30000, 3), (40, .if_icmp .le 10, 3), (43, .aload_n 0, 1), (44, .bipush (-6), 2), (46, .invokevirtual 164, 3), (49, .ireturn, 1), (50, .aload_n 0, 1), (51, .getfield 40, 3), (54, .iload_n 1, 1), (55, .baload, 1), (56, .istore 4, 2), (58, .aload_n 0, 1), (59, .getfield 40, 3), (62, .iload_n 1, 1), (63, .iconst 1, 1), (64, .bastore, 1), (65, .aload_n 0, 1), (66, .getfield 44, 3), (69, .iload_n 1, 1), (70, .iload_n 2, 1)]
theorem daX12_log_0 : tdaX12_log_0.all (fun q => decide (decode cX12_log q.1 = .ok q.2)) = true := by decide +kernel
theorem dX12_log_0 : decode cX12_log 0 = .ok (.aload_n 0, 1) := dget daX12_log_0 0 (q := (0, .aload_n 0, 1)) rfl
theorem dX12_log_1 : decode cX12_log 1 = .ok (.iload_n 1, 1) := dget daX12_log_0 1 (q := (1, .iload_n 1, 1)) rfl
theorem dX12_log_2 : decode cX12_log 2 = .ok (.invokevirtual 181, 3) := dget daX12_log_0 2 (q := (2, .invokevirtual 181, 3)) rfl
theorem dX12_log_5 : decode cX12_log 5 = .ok (.ifCond .ne 9, 3) := dget daX12_log_0 3 (q := (5, .ifCond .ne 9, 3)) rfl
theorem dX12_log_8 : decode cX12_log 8 = .ok (.aload_n 0, 1) := dget daX12_log_0 4 (q := (8, .aload_n 0, 1)) rfl
theorem dX12_log_9 : decode cX12_log 9 = .ok (.iconst (-1), 1) := dget daX12_log_0 5 (q := (9, .iconst (-1), 1)) rfl
theorem dX12_log_10 : decode cX12_log 10 = .ok (.invokevirtual 164, 3) := dget daX12_log_0 6 (q := (10, .invokevirtual 164, 3)) rfl
theorem dX12_log_13 : decode cX12_log 13 = .ok (.ireturn, 1) := dget daX12_log_0 7 (q := (13, .ireturn, 1)) rfl
theorem dX12_log_14 : decode cX12_log 14 = .ok (.iload_n 2, 1) := dget daX12_log_0 8 (q := (14, .iload_n 2, 1)) rfl
theorem dX12_log_15 : decode cX12_log 15 = .ok (.ifCond .lt 7, 3) := dget daX12_log_0 9 (q := (15, .ifCond .lt 7, 3)) rfl
theorem dX12_log_18 : decode cX12_log 18 = .ok (.iload_n 3, 1) := dget daX12_log_0 10 (q := (18, .iload_n 3, 1)) rfl
theorem dX12_log_19 : decode cX12_log 19 = .ok (.ifCond .ge 10, 3) := dget daX12_log_0 11 (q := (19, .ifCond .ge 10, 3)) rfl
theorem dX12_log_22 : decode cX12_log 22 = .ok (.aload_n 0, 1) := dget daX12_log_0 12 (q := (22, .aload_n 0, 1)) rfl
theorem dX12_log_23 : decode cX12_log 23 = .ok (.bipush (-4), 2) := dget daX12_log_0 13 (q := (23, .bipush (-4), 2)) rfl
theorem dX12_log_25 : decode cX12_log 25 = .ok (.invokevirtual 164, 3) := dget daX12_log_0 14 (q := (25, .invokevirtual 164, 3)) rfl
theorem dX12_log_28 : decode cX12_log 28 = .ok (.ireturn, 1) := dget daX12_log_0 15 (q := (28, .ireturn, 1)) rfl
theorem dX12_log_29 : decode cX12_log 29 = .ok (.iload_n 2, 1) := dget daX12_log_0 16 (q := (29, .iload_n 2, 1)) rfl
theorem dX12_log_30 : decode cX12_log 30 = .ok (.sipush 30000, 3) := dget daX12_log_0 17 (q := (30, .sipush 30000, 3)) rfl
theorem dX12_log_33 : decode cX12_log 33 = .ok (.if_icmp .gt 10, 3) := dget daX12_log_0 18 (q := (33, .if_icmp .gt 10, 3)) rfl
theorem dX12_log_36 : decode cX12_log 36 = .ok (.iload_n 3, 1) := dget daX12_log_0 19 (q := (36, .iload_n 3, 1)) rfl
theorem dX12_log_37 : decode cX12_log 37 = .ok (.sipush 30000, 3) := dget daX12_log_0 20 (q := (37, .sipush 30000, 3)) rfl
theorem dX12_log_40 : decode cX12_log 40 = .ok (.if_icmp .le 10, 3) := dget daX12_log_0 21 (q := (40, .if_icmp .le 10, 3)) rfl
theorem dX12_log_43 : decode cX12_log 43 = .ok (.aload_n 0, 1) := dget daX12_log_0 22 (q := (43, .aload_n 0, 1)) rfl
theorem dX12_log_44 : decode cX12_log 44 = .ok (.bipush (-6), 2) := dget daX12_log_0 23 (q := (44, .bipush (-6), 2)) rfl
theorem dX12_log_46 : decode cX12_log 46 = .ok (.invokevirtual 164, 3) := dget daX12_log_0 24 (q := (46, .invokevirtual 164, 3)) rfl
theorem dX12_log_49 : decode cX12_log 49 = .ok (.ireturn, 1) := dget daX12_log_0 25 (q := (49, .ireturn, 1)) rfl
theorem dX12_log_50 : decode cX12_log 50 = .ok (.aload_n 0, 1) := dget daX12_log_0 26 (q := (50, .aload_n 0, 1)) rfl
theorem dX12_log_51 : decode cX12_log 51 = .ok (.getfield 40, 3) := dget daX12_log_0 27 (q := (51, .getfield 40, 3)) rfl
theorem dX12_log_54 : decode cX12_log 54 = .ok (.iload_n 1, 1) := dget daX12_log_0 28 (q := (54, .iload_n 1, 1)) rfl
theorem dX12_log_55 : decode cX12_log 55 = .ok (.baload, 1) := dget daX12_log_0 29 (q := (55, .baload, 1)) rfl
theorem dX12_log_56 : decode cX12_log 56 = .ok (.istore 4, 2) := dget daX12_log_0 30 (q := (56, .istore 4, 2)) rfl
theorem dX12_log_58 : decode cX12_log 58 = .ok (.aload_n 0, 1) := dget daX12_log_0 31 (q := (58, .aload_n 0, 1)) rfl
theorem dX12_log_59 : decode cX12_log 59 = .ok (.getfield 40, 3) := dget daX12_log_0 32 (q := (59, .getfield 40, 3)) rfl
theorem dX12_log_62 : decode cX12_log 62 = .ok (.iload_n 1, 1) := dget daX12_log_0 33 (q := (62, .iload_n 1, 1)) rfl
theorem dX12_log_63 : decode cX12_log 63 = .ok (.iconst 1, 1) := dget daX12_log_0 34 (q := (63, .iconst 1, 1)) rfl
theorem dX12_log_64 : decode cX12_log 64 = .ok (.bastore, 1) := dget daX12_log_0 35 (q := (64, .bastore, 1)) rfl
theorem dX12_log_65 : decode cX12_log 65 = .ok (.aload_n 0, 1) := dget daX12_log_0 36 (q := (65, .aload_n 0, 1)) rfl
theorem dX12_log_66 : decode cX12_log 66 = .ok (.getfield 44, 3) := dget daX12_log_0 37 (q := (66, .getfield 44, 3)) rfl
theorem dX12_log_69 : decode cX12_log 69 = .ok (.iload_n 1, 1) := dget daX12_log_0 38 (q := (69, .iload_n 1, 1)) rfl
theorem dX12_log_70 : decode cX12_log 70 = .ok (.iload_n 2, 1) := dget daX12_log_0 39 (q := (70, .iload_n 2, 1)) rfl
def tdaX12_log_1 : List (Nat × (Instr × Nat)) := [(71, .iastore, 1), (72, .aload_n 0, 1), (73, .getfield 47, 3), (76, .iload_n 1, 1), (77, .iload_n 3, 1), (78, .iastore, 1), (79, .iload 4, 2), (81, .ifCond .eq 7, 3), (84, .iconst 0, 1), (85, .goto 4, 3), (88, .iconst 1, 1), (89, .ireturn, 1)]
theorem daX12_log_1 : tdaX12_log_1.all (fun q => decide (decode cX12_log q.1 = .ok q.2)) = true := by decide +kernel
theorem dX12_log_71 : decode cX12_log 71 = .ok (.iastore, 1) := dget daX12_log_1 0 (q := (71, .iastore, 1)) rfl
theorem dX12_log_72 : decode cX12_log 72 = .ok (.aload_n 0, 1) := dget daX12_log_1 1 (q := (72, .aload_n 0, 1)) rfl
theorem dX12_log_73 : decode cX12_log 73 = .ok (.getfield 47, 3) := dget daX12_log_1 2 (q := (73, .getfield 47, 3)) rfl
theorem dX12_log_76 : decode cX12_log 76 = .ok (.iload_n 1, 1) := dget daX12_log_1 3 (q := (76, .iload_n 1, 1)) rfl
theorem dX12_log_77 : decode cX12_log 77 = .ok (.iload_n 3, 1) := dget daX12_log_1 4 (q := (77, .iload_n 3, 1)) rfl
theorem dX12_log_78 : decode cX12_log 78 = .ok (.iastore, 1) := dget daX12_log_1 5 (q := (78, .iastore, 1)) rfl
theorem dX12_log_79 : decode cX12_log 79 = .ok (.iload 4, 2) := dget daX12_log_1 6 (q := (79, .iload 4, 2)) rfl
theorem dX12_log_81 : decode cX12_log 81 = .ok (.ifCond .eq 7, 3) := dget daX12_log_1 7 (q := (81, .ifCond .eq 7, 3)) rfl
theorem dX12_log_84 : decode cX12_log 84 = .ok (.iconst 0, 1) := dget daX12_log_1 8 (q := (84, .iconst 0, 1)) rfl
theorem dX12_log_85 : decode cX12_log 85 = .ok (.goto 4, 3) := dget daX12_log_1 9 (q := (85, .goto 4, 3)) rfl
theorem dX12_log_88 : decode cX12_log 88 = .ok (.iconst 1, 1) := dget daX12_log_1 10 (q := (88, .iconst 1, 1)) rfl
theorem dX12_log_89 : decode cX12_log 89 = .ok (.ireturn, 1) := dget daX12_log_1 11 (q := (89, .ireturn, 1)) rfl
def tdaX12_isCause_0 : List (Nat × (Instr × Nat)) := [(0, .iload_n 0, 1), (1, .iconst 0, 1), (2, .iconst 5, 1), (3, .invokestatic 156, 3), (6, .ireturn, 1)]
theorem daX12_isCause_0 : tdaX12_isCause_0.all (fun q => decide (decode cX12_isCause q.1 = .ok q.2)) = true := by decide +kernel
theorem dX12_isCause_0 : decode cX12_isCause 0 = .ok (.iload_n 0, 1) := dget daX12_isCause_0 0 (q := (0, .iload_n 0, 1)) rfl
theorem dX12_isCause_1 : decode cX12_isCause 1 = .ok (.iconst 0, 1) := dget daX12_isCause_0 1 (q := (1, .iconst 0, 1)) rfl
theorem dX12_isCause_2 : decode cX12_isCause 2 = .ok (.iconst 5, 1) := dget daX12_isCause_0 2 (q := (2, .iconst 5, 1)) rfl
theorem dX12_isCause_3 : decode cX12_isCause 3 = .ok (.invokestatic 156, 3) := dget daX12_isCause_0 3 (q := (3, .invokestatic 156, 3)) rfl
theorem dX12_isCause_6 : decode cX12_isCause 6 = .ok (.ireturn, 1) := dget daX12_isCause_0 4 (q := (6, .ireturn, 1)) rfl
def tdaX12_cause_0 : List (Nat × (Instr × Nat)) := [(0, .aload_n 0, 1), (1, .iload_n 1, 1), (2, .invokevirtual 181, 3), (5, .ifCond .eq 10, 3), (8, .iload_n 2, 1), (9, .invokestatic 184, 3), (12, .ifCond .ne 9, 3), (15, .aload_n 0, 1), (16, .iconst (-1), 1), (17, .invokevirtual 164, 3), (20, .ireturn, 1), (21, .aload_n 0, 1), (22, .getfield 50, 3), (25, .iload_n 1, 1), (26, .iaload, 1), (27, .istore_n 3, 1), (28, .aload_n 0, 1), (29, .getfield 50, 3), (32, .iload_n 1, 1), (33, .iload_n 2, 1), (34, .iastore, 1), (35, .iload_n 3, 1), (36, .ireturn, 1)]
theorem daX12_cause_0 : tdaX12_cause_0.all (fun q => decide (decode cX12_cause q.1 = .ok q.2)) = true := by decide +kernel
theorem dX12_cause_0 : decode cX12_cause 0 = .ok (.aload_n 0, 1) := dget daX12_cause_0 0 (q := (0, .aload_n 0, 1)) rfl
theorem dX12_cause_1 : decode cX12_cause 1 = .ok (.iload_n 1, 1) := dget daX12_cause_0 1 (q := (1, .iload_n 1, 1)) rfl
theorem dX12_cause_2 : decode cX12_cause 2 = .ok (.invokevirtual 181, 3) := dget daX12_cause_0 2 (q := (2, .invokevirtual 181, 3)) rfl
theorem dX12_cause_5 : decode cX12_cause 5 = .ok (.ifCond .eq 10, 3) := dget daX12_cause_0 3 (q := (5, .ifCond .eq 10, 3)) rfl
theorem dX12_cause_8 : decode cX12_cause 8 = .ok (.iload_n 2, 1) := dget daX12_cause_0 4 (q := (8, .iload_n 2, 1)) rfl
theorem dX12_cause_9 : decode cX12_cause 9 = .ok (.invokestatic 184, 3) := dget daX12_cause_0 5 (q := (9, .invokestatic 184, 3)) rfl
theorem dX12_cause_12 : decode cX12_cause 12 = .ok (.ifCond .ne 9, 3) := dget daX12_cause_0 6 (q := (12, .ifCond .ne 9, 3)) rfl
theorem dX12_cause_15 : decode cX12_cause 15 = .ok (.aload_n 0, 1) := dget daX12_cause_0 7 (q := (15, .aload_n 0, 1)) rfl
theorem dX12_cause_16 : decode cX12_cause 16 = .ok (.iconst (-1), 1) := dget daX12_cause_0 8 (q := (16, .iconst (-1), 1)) rfl
theorem dX12_cause_17 : decode cX12_cause 17 = .ok (.invokevirtual 164, 3) := dget daX12_cause_0 9 (q := (17, .invokevirtual 164, 3)) rfl
theorem dX12_cause_20 : decode cX12_cause 20 = .ok (.ireturn, 1) := dget daX12_cause_0 10 (q := (20, .ireturn, 1)) rfl
theorem dX12_cause_21 : decode cX12_cause 21 = .ok (.aload_n 0, 1) := dget daX12_cause_0 11 (q := (21, .aload_n 0, 1)) rfl
theorem dX12_cause_22 : decode cX12_cause 22 = .ok (.getfield 50, 3) := dget daX12_cause_0 12 (q := (22, .getfield 50, 3)) rfl
theorem dX12_cause_25 : decode cX12_cause 25 = .ok (.iload_n 1, 1) := dget daX12_cause_0 13 (q := (25, .iload_n 1, 1)) rfl
theorem dX12_cause_26 : decode cX12_cause 26 = .ok (.iaload, 1) := dget daX12_cause_0 14 (q := (26, .iaload, 1)) rfl
theorem dX12_cause_27 : decode cX12_cause 27 = .ok (.istore_n 3, 1) := dget daX12_cause_0 15 (q := (27, .istore_n 3, 1)) rfl
theorem dX12_cause_28 : decode cX12_cause 28 = .ok (.aload_n 0, 1) := dget daX12_cause_0 16 (q := (28, .aload_n 0, 1)) rfl
theorem dX12_cause_29 : decode cX12_cause 29 = .ok (.getfield 50, 3) := dget daX12_cause_0 17 (q := (29, .getfield 50, 3)) rfl
theorem dX12_cause_32 : decode cX12_cause 32 = .ok (.iload_n 1, 1) := dget daX12_cause_0 18 (q := (32, .iload_n 1, 1)) rfl
theorem dX12_cause_33 : decode cX12_cause 33 = .ok (.iload_n 2, 1) := dget daX12_cause_0 19 (q := (33, .iload_n 2, 1)) rfl
theorem dX12_cause_34 : decode cX12_cause 34 = .ok (.iastore, 1) := dget daX12_cause_0 20 (q := (34, .iastore, 1)) rfl
theorem dX12_cause_35 : decode cX12_cause 35 = .ok (.iload_n 3, 1) := dget daX12_cause_0 21 (q := (35, .iload_n 3, 1)) rfl
theorem dX12_cause_36 : decode cX12_cause 36 = .ok (.ireturn, 1) := dget daX12_cause_0 22 (q := (36, .ireturn, 1)) rfl
def tdaX12_set_0 : List (Nat × (Instr × Nat)) := [(0, .iload_n 1, 1), (1, .iconst 0, 1), (2, .iconst 3, 1), (3, .invokestatic 156, 3), (6, .ifCond .ne 10, 3), (9, .aload_n 0, 1), (10, .bipush (-2), 2), (12, .invokevirtual 164, 3), (15, .ireturn, 1), (16, .iload_n 2, 1), (17, .iload_n 1, 1), (18, .iconst 3, 1), (19, .if_icmp .ne 7, 3), (22, .iconst 1, 1), (23, .goto 4, 3), (26, .iconst 0, 1), (27, .if_icmp .ge 10, 3), (30, .aload_n 0, 1), (31, .bipush (-4), 2), (33, .invokevirtual 164, 3), (36, .ireturn, 1), (37, .iload_n 2, 1), (38, .iload_n 1, 1), (39, .ifCond .ne 9, 3), (42, .sipush 200, 3), (45, .goto 27, 3), (48, .iload_n 1, 1), (49, .iconst 1, 1), (50, .if_icmp .ne 9, 3), (53, .sipush 900, 3), (56, .goto 16, 3), (59, .iload_n 1, 1), (60, .iconst 2, 1), (61, .if_icmp .ne 9, 3), (64, .sipush 300, 3), (67, .goto 5, 3), (70, .bipush 9, 2), (72, .if_icmp .le 10, 3), (75, .aload_n 0, 1), (76, .bipush (-6), 2)]
theorem daX12_set_0 : tdaX12_set_0.all (fun q => decide (decode cX12_set q.1 = .ok q.2)) = true := by decide +kernel
theorem dX12_set_0 : decode cX12_set 0 = .ok (.iload_n 1, 1) := dget daX12_set_0 0 (q := (0, .iload_n 1, 1)) rfl
theorem dX12_set_1 : decode cX12_set 1 = .ok (.iconst 0, 1) := dget daX12_set_0 1 (q := (1, .iconst 0, 1)) rfl
theorem dX12_set_2 : decode cX12_set 2 = .ok (.iconst 3, 1) := dget daX12_set_0 2 (q := (2, .iconst 3, 1)) rfl
theorem dX12_set_3 : decode cX12_set 3 = .ok (.invokestatic 156, 3) := dget daX12_set_0 3 (q := (3, .invokestatic 156, 3)) rfl
theorem dX12_set_6 : decode cX12_set 6 = .ok (.ifCond .ne 10, 3) := dget daX12_set_0 4 (q := (6, .ifCond .ne 10, 3)) rfl
theorem dX12_set_9 : decode cX12_set 9 = .ok (.aload_n 0, 1) := dget daX12_set_0 5 (q := (9, .aload_n 0, 1)) rfl
theorem dX12_set_10 : decode cX12_set 10 = .ok (.bipush (-2), 2) := dget daX12_set_0 6 (q := (10, .bipush (-2), 2)) rfl
theorem dX12_set_12 : decode cX12_set 12 = .ok (.invokevirtual 164, 3) := dget daX12_set_0 7 (q := (12, .invokevirtual 164, 3)) rfl
theorem dX12_set_15 : decode cX12_set 15 = .ok (.ireturn, 1) := dget daX12_set_0 8 (q := (15, .ireturn, 1)) rfl
theorem dX12_set_16 : decode cX12_set 16 = .ok (.iload_n 2, 1) := dget daX12_set_0 9 (q := (16, .iload_n 2, 1)) rfl
theorem dX12_set_17 : decode cX12_set 17 = .ok (.iload_n 1, 1) := dget daX12_set_0 10 (q := (17, .iload_n 1, 1)) rfl
theorem dX12_set_18 : decode cX12_set 18 = .ok (.iconst 3, 1) := dget daX12_set_0 11 (q := (18, .iconst 3, 1)) rfl
theorem dX12_set_19 : decode cX12_set 19 = .ok (.if_icmp .ne 7, 3) := dget daX12_set_0 12 (q := (19, .if_icmp .ne 7, 3)) rfl
theorem dX12_set_22 : decode cX12_set 22 = .ok (.iconst 1, 1) := dget daX12_set_0 13 (q := (22, .iconst 1, 1)) rfl
theorem dX12_set_23 : decode cX12_set 23 = .ok (.goto 4, 3) := dget daX12_set_0 14 (q := (23, .goto 4, 3)) rfl
theorem dX12_set_26 : decode cX12_set 26 = .ok (.iconst 0, 1) := dget daX12_set_0 15 (q := (26, .iconst 0, 1)) rfl
theorem dX12_set_27 : decode cX12_set 27 = .ok (.if_icmp .ge 10, 3) := dget daX12_set_0 16 (q := (27, .if_icmp .ge 10, 3)) rfl
theorem dX12_set_30 : decode cX12_set 30 = .ok (.aload_n 0, 1) := dget daX12_set_0 17 (q := (30, .aload_n 0, 1)) rfl
theorem dX12_set_31 : decode cX12_set 31 = .ok (.bipush (-4), 2) := dget daX12_set_0 18 (q := (31, .bipush (-4), 2)) rfl
theorem dX12_set_33 : decode cX12_set 33 = .ok (.invokevirtual 164, 3) := dget daX12_set_0 19 (q := (33, .invokevirtual 164, 3)) rfl
theorem dX12_set_36 : decode cX12_set 36 = .ok (.ireturn, 1) := dget daX12_set_0 20 (q := (36, .ireturn, 1)) rfl
theorem dX12_set_37 : decode cX12_set 37 = .ok (.iload_n 2, 1) := dget daX12_set_0 21 (q := (37, .iload_n 2, 1)) rfl
theorem dX12_set_38 : decode cX12_set 38 = .ok (.iload_n 1, 1) := dget daX12_set_0 22 (q := (38, .iload_n 1, 1)) rfl
theorem dX12_set_39 : decode cX12_set 39 = .ok (.ifCond .ne 9, 3) := dget daX12_set_0 23 (q := (39, .ifCond .ne 9, 3)) rfl
theorem dX12_set_42 : decode cX12_set 42 = .ok (.sipush 200, 3) := dget daX12_set_0 24 (q := (42, .sipush 200, 3)) rfl
theorem dX12_set_45 : decode cX12_set 45 = .ok (.goto 27, 3) := dget daX12_set_0 25 (q := (45, .goto 27, 3)) rfl
theorem dX12_set_48 : decode cX12_set 48 = .ok (.iload_n 1, 1) := dget daX12_set_0 26 (q := (48, .iload_n 1, 1)) rfl
theorem dX12_set_49 : decode cX12_set 49 = .ok (.iconst 1, 1) := dget daX12_set_0 27 (q := (49, .iconst 1, 1)) rfl
theorem dX12_set_50 : decode cX12_set 50 = .ok (.if_icmp .ne 9, 3) := dget daX12_set_0 28 (q := (50, .if_icmp .ne 9, 3)) rfl
theorem dX12_set_53 : decode cX12_set 53 = .ok (.sipush 900, 3) := dget daX12_set_0 29 (q := (53, .sipush 900, 3)) rfl
theorem dX12_set_56 : decode cX12_set 56 = .ok (.goto 16, 3) := dget daX12_set_0 30 (q := (56, .goto 16, 3)) rfl
theorem dX12_set_59 : decode cX12_set 59 = .ok (.iload_n 1, 1) := dget daX12_set_0 31 (q := (59, .iload_n 1, 1)) rfl
theorem dX12_set_60 : decode cX12_set 60 = .ok (.iconst 2, 1) := dget daX12_set_0 32 (q := (60, .iconst 2, 1)) rfl
theorem dX12_set_61 : decode cX12_set 61 = .ok (.if_icmp .ne 9, 3) := dget daX12_set_0 33 (q := (61, .if_icmp .ne 9, 3)) rfl
theorem dX12_set_64 : decode cX12_set 64 = .ok (.sipush 300, 3) := dget daX12_set_0 34 (q := (64, .sipush 300, 3)) rfl
theorem dX12_set_67 : decode cX12_set 67 = .ok (.goto 5, 3) := dget daX12_set_0 35 (q := (67, .goto 5, 3)) rfl
theorem dX12_set_70 : decode cX12_set 70 = .ok (.bipush 9, 2) := dget daX12_set_0 36 (q := (70, .bipush 9, 2)) rfl
theorem dX12_set_72 : decode cX12_set 72 = .ok (.if_icmp .le 10, 3) := dget daX12_set_0 37 (q := (72, .if_icmp .le 10, 3)) rfl
theorem dX12_set_75 : decode cX12_set 75 = .ok (.aload_n 0, 1) := dget daX12_set_0 38 (q := (75, .aload_n 0, 1)) rfl
theorem dX12_set_76 : decode cX12_set 76 = .ok (.bipush (-6), 2) := dget daX12_set_0 39 (q := (76, .bipush (-6), 2)) rfl
def tdaX12_set_1 : List (Nat × (Instr × Nat)) := [(78, .invokevirtual 164, 3), (81, .ireturn, 1), (82, .aload_n 0, 1), (83, .getfield 53, 3), (86, .iload_n 1, 1), (87, .iaload, 1), (88, .istore_n 3, 1), (89, .aload_n 0, 1), (90, .getfield 53, 3), (93, .iload_n 1, 1), (94, .iload_n 2, 1), (95, .iastore, 1), (96, .iload_n 3, 1), (97, .ireturn, 1)]
theorem daX12_set_1 : tdaX12_set_1.all (fun q => decide (decode cX12_set q.1 = .ok q.2)) = true := by decide +kernel
theorem dX12_set_78 : decode cX12_set 78 = .ok (.invokevirtual 164, 3) := dget daX12_set_1 0 (q := (78, .invokevirtual 164, 3)) rfl
theorem dX12_set_81 : decode cX12_set 81 = .ok (.ireturn, 1) := dget daX12_set_1 1 (q := (81, .ireturn, 1)) rfl
theorem dX12_set_82 : decode cX12_set 82 = .ok (.aload_n 0, 1) := dget daX12_set_1 2 (q := (82, .aload_n 0, 1)) rfl
theorem dX12_set_83 : decode cX12_set 83 = .ok (.getfield 53, 3) := dget daX12_set_1 3 (q := (83, .getfield 53, 3)) rfl
theorem dX12_set_86 : decode cX12_set 86 = .ok (.iload_n 1, 1) := dget daX12_set_1 4 (q := (86, .iload_n 1, 1)) rfl
theorem dX12_set_87 : decode cX12_set 87 = .ok (.iaload, 1) := dget daX12_set_1 5 (q := (87, .iaload, 1)) rfl
theorem dX12_set_88 : decode cX12_set 88 = .ok (.istore_n 3, 1) := dget daX12_set_1 6 (q := (88, .istore_n 3, 1)) rfl
theorem dX12_set_89 : decode cX12_set 89 = .ok (.aload_n 0, 1) := dget daX12_set_1 7 (q := (89, .aload_n 0, 1)) rfl
theorem dX12_set_90 : decode cX12_set 90 = .ok (.getfield 53, 3) := dget daX12_set_1 8 (q := (90, .getfield 53, 3)) rfl
theorem dX12_set_93 : decode cX12_set 93 = .ok (.iload_n 1, 1) := dget daX12_set_1 9 (q := (93, .iload_n 1, 1)) rfl
theorem dX12_set_94 : decode cX12_set 94 = .ok (.iload_n 2, 1) := dget daX12_set_1 10 (q := (94, .iload_n 2, 1)) rfl
theorem dX12_set_95 : decode cX12_set 95 = .ok (.iastore, 1) := dget daX12_set_1 11 (q := (95, .iastore, 1)) rfl
theorem dX12_set_96 : decode cX12_set 96 = .ok (.iload_n 3, 1) := dget daX12_set_1 12 (q := (96, .iload_n 3, 1)) rfl
theorem dX12_set_97 : decode cX12_set 97 = .ok (.ireturn, 1) := dget daX12_set_1 13 (q := (97, .ireturn, 1)) rfl
def tdaX12_rightLeave_0 : List (Nat × (Instr × Nat)) := [(0, .aload_n 0, 1), (1, .getfield 44, 3), (4, .iload_n 1, 1), (5, .iaload, 1), (6, .aload_n 0, 1), (7, .getfield 19, 3), (10, .aload_n 0, 1), (11, .getfield 22, 3), (14, .iload_n 1, 1), (15, .iaload, 1), (16, .iaload, 1), (17, .isub, 1), (18, .invokestatic 187, 3), (21, .ireturn, 1)]
theorem daX12_rightLeave_0 : tdaX12_rightLeave_0.all (fun q => decide (decode cX12_rightLeave q.1 = .ok q.2)) = true := by decide +kernel
theorem dX12_rightLeave_0 : decode cX12_rightLeave 0 = .ok (.aload_n 0, 1) := dget daX12_rightLeave_0 0 (q := (0, .aload_n 0, 1)) rfl
theorem dX12_rightLeave_1 : decode cX12_rightLeave 1 = .ok (.getfield 44, 3) := dget daX12_rightLeave_0 1 (q := (1, .getfield 44, 3)) rfl
theorem dX12_rightLeave_4 : decode cX12_rightLeave 4 = .ok (.iload_n 1, 1) := dget daX12_rightLeave_0 2 (q := (4, .iload_n 1, 1)) rfl
theorem dX12_rightLeave_5 : decode cX12_rightLeave 5 = .ok (.iaload, 1) := dget daX12_rightLeave_0 3 (q := (5, .iaload, 1)) rfl
theorem dX12_rightLeave_6 : decode cX12_rightLeave 6 = .ok (.aload_n 0, 1) := dget daX12_rightLeave_0 4 (q := (6, .aload_n 0, 1)) rfl
theorem dX12_rightLeave_7 : decode cX12_rightLeave 7 = .ok (.getfield 19, 3) := dget daX12_rightLeave_0 5 (q := (7, .getfield 19, 3)) rfl
theorem dX12_rightLeave_10 : decode cX12_rightLeave 10 = .ok (.aload_n 0, 1) := dget daX12_rightLeave_0 6 (q := (10, .aload_n 0, 1)) rfl
theorem dX12_rightLeave_11 : decode cX12_rightLeave 11 = .ok (.getfield 22, 3) := dget daX12_rightLeave_0 7 (q := (11, .getfield 22, 3)) rfl
theorem dX12_rightLeave_14 : decode cX12_rightLeave 14 = .ok (.iload_n 1, 1) := dget daX12_rightLeave_0 8 (q := (14, .iload_n 1, 1)) rfl
theorem dX12_rightLeave_15 : decode cX12_rightLeave 15 = .ok (.iaload, 1) := dget daX12_rightLeave_0 9 (q := (15, .iaload, 1)) rfl
theorem dX12_rightLeave_16 : decode cX12_rightLeave 16 = .ok (.iaload, 1) := dget daX12_rightLeave_0 10 (q := (16, .iaload, 1)) rfl
theorem dX12_rightLeave_17 : decode cX12_rightLeave 17 = .ok (.isub, 1) := dget daX12_rightLeave_0 11 (q := (17, .isub, 1)) rfl
theorem dX12_rightLeave_18 : decode cX12_rightLeave 18 = .ok (.invokestatic 187, 3) := dget daX12_rightLeave_0 12 (q := (18, .invokestatic 187, 3)) rfl
theorem dX12_rightLeave_21 : decode cX12_rightLeave 21 = .ok (.ireturn, 1) := dget daX12_rightLeave_0 13 (q := (21, .ireturn, 1)) rfl
def tdaX12_rightArrive_0 : List (Nat × (Instr × Nat)) := [(0, .aload_n 0, 1), (1, .getfield 47, 3), (4, .iload_n 1, 1), (5, .iaload, 1), (6, .aload_n 0, 1), (7, .getfield 19, 3), (10, .aload_n 0, 1), (11, .getfield 25, 3), (14, .iload_n 1, 1), (15, .iaload, 1), (16, .iaload, 1), (17, .isub, 1), (18, .invokestatic 187, 3), (21, .ireturn, 1)]
theorem daX12_rightArrive_0 : tdaX12_rightArrive_0.all (fun q => decide (decode cX12_rightArrive q.1 = .ok q.2)) = true := by decide +kernel
theorem dX12_rightArrive_0 : decode cX12_rightArrive 0 = .ok (.aload_n 0, 1) := dget daX12_rightArrive_0 0 (q := (0, .aload_n 0, 1)) rfl
theorem dX12_rightArrive_1 : decode cX12_rightArrive 1 = .ok (.getfield 47, 3) := dget daX12_rightArrive_0 1 (q := (1, .getfield 47, 3)) rfl
theorem dX12_rightArrive_4 : decode cX12_rightArrive 4 = .ok (.iload_n 1, 1) := dget daX12_rightArrive_0 2 (q := (4, .iload_n 1, 1)) rfl
theorem dX12_rightArrive_5 : decode cX12_rightArrive 5 = .ok (.iaload, 1) := dget daX12_rightArrive_0 3 (q := (5, .iaload, 1)) rfl
theorem dX12_rightArrive_6 : decode cX12_rightArrive 6 = .ok (.aload_n 0, 1) := dget daX12_rightArrive_0 4 (q := (6, .aload_n 0, 1)) rfl
theorem dX12_rightArrive_7 : decode cX12_rightArrive 7 = .ok (.getfield 19, 3) := dget daX12_rightArrive_0 5 (q := (7, .getfield 19, 3)) rfl
theorem dX12_rightArrive_10 : decode cX12_rightArrive 10 = .ok (.aload_n 0, 1) := dget daX12_rightArrive_0 6 (q := (10, .aload_n 0, 1)) rfl
theorem dX12_rightArrive_11 : decode cX12_rightArrive 11 = .ok (.getfield 25, 3) := dget daX12_rightArrive_0 7 (q := (11, .getfield 25, 3)) rfl
theorem dX12_rightArrive_14 : decode cX12_rightArrive 14 = .ok (.iload_n 1, 1) := dget daX12_rightArrive_0 8 (q := (14, .iload_n 1, 1)) rfl
theorem dX12_rightArrive_15 : decode cX12_rightArrive 15 = .ok (.iaload, 1) := dget daX12_rightArrive_0 9 (q := (15, .iaload, 1)) rfl
theorem dX12_rightArrive_16 : decode cX12_rightArrive 16 = .ok (.iaload, 1) := dget daX12_rightArrive_0 10 (q := (16, .iaload, 1)) rfl
theorem dX12_rightArrive_17 : decode cX12_rightArrive 17 = .ok (.isub, 1) := dget daX12_rightArrive_0 11 (q := (17, .isub, 1)) rfl
theorem dX12_rightArrive_18 : decode cX12_rightArrive 18 = .ok (.invokestatic 187, 3) := dget daX12_rightArrive_0 12 (q := (18, .invokestatic 187, 3)) rfl
theorem dX12_rightArrive_21 : decode cX12_rightArrive 21 = .ok (.ireturn, 1) := dget daX12_rightArrive_0 13 (q := (21, .ireturn, 1)) rfl
def tdaX12_lateOf_0 : List (Nat × (Instr × Nat)) := [(0, .aload_n 0, 1), (1, .iload_n 1, 1), (2, .invokevirtual 190, 3), (5, .aload_n 0, 1), (6, .getfield 37, 3), (9, .iload_n 1, 1), (10, .iaload, 1), (11, .isub, 1), (12, .invokestatic 187, 3), (15, .ireturn, 1)]
theorem daX12_lateOf_0 : tdaX12_lateOf_0.all (fun q => decide (decode cX12_lateOf q.1 = .ok q.2)) = true := by decide +kernel
theorem dX12_lateOf_0 : decode cX12_lateOf 0 = .ok (.aload_n 0, 1) := dget daX12_lateOf_0 0 (q := (0, .aload_n 0, 1)) rfl
theorem dX12_lateOf_1 : decode cX12_lateOf 1 = .ok (.iload_n 1, 1) := dget daX12_lateOf_0 1 (q := (1, .iload_n 1, 1)) rfl
theorem dX12_lateOf_2 : decode cX12_lateOf 2 = .ok (.invokevirtual 190, 3) := dget daX12_lateOf_0 2 (q := (2, .invokevirtual 190, 3)) rfl
theorem dX12_lateOf_5 : decode cX12_lateOf 5 = .ok (.aload_n 0, 1) := dget daX12_lateOf_0 3 (q := (5, .aload_n 0, 1)) rfl
theorem dX12_lateOf_6 : decode cX12_lateOf 6 = .ok (.getfield 37, 3) := dget daX12_lateOf_0 4 (q := (6, .getfield 37, 3)) rfl
theorem dX12_lateOf_9 : decode cX12_lateOf 9 = .ok (.iload_n 1, 1) := dget daX12_lateOf_0 5 (q := (9, .iload_n 1, 1)) rfl
theorem dX12_lateOf_10 : decode cX12_lateOf 10 = .ok (.iaload, 1) := dget daX12_lateOf_0 6 (q := (10, .iaload, 1)) rfl
theorem dX12_lateOf_11 : decode cX12_lateOf 11 = .ok (.isub, 1) := dget daX12_lateOf_0 7 (q := (11, .isub, 1)) rfl
theorem dX12_lateOf_12 : decode cX12_lateOf 12 = .ok (.invokestatic 187, 3) := dget daX12_lateOf_0 8 (q := (12, .invokestatic 187, 3)) rfl
theorem dX12_lateOf_15 : decode cX12_lateOf 15 = .ok (.ireturn, 1) := dget daX12_lateOf_0 9 (q := (15, .ireturn, 1)) rfl
def tdaX12_outlateOf_0 : List (Nat × (Instr × Nat)) := [(0, .aload_n 0, 1), (1, .iload_n 1, 1), (2, .invokevirtual 193, 3), (5, .aload_n 0, 1), (6, .getfield 34, 3), (9, .iload_n 1, 1), (10, .iaload, 1), (11, .isub, 1), (12, .invokestatic 187, 3), (15, .ireturn, 1)]
theorem daX12_outlateOf_0 : tdaX12_outlateOf_0.all (fun q => decide (decode cX12_outlateOf q.1 = .ok q.2)) = true := by decide +kernel
theorem dX12_outlateOf_0 : decode cX12_outlateOf 0 = .ok (.aload_n 0, 1) := dget daX12_outlateOf_0 0 (q := (0, .aload_n 0, 1)) rfl
theorem dX12_outlateOf_1 : decode cX12_outlateOf 1 = .ok (.iload_n 1, 1) := dget daX12_outlateOf_0 1 (q := (1, .iload_n 1, 1)) rfl
theorem dX12_outlateOf_2 : decode cX12_outlateOf 2 = .ok (.invokevirtual 193, 3) := dget daX12_outlateOf_0 2 (q := (2, .invokevirtual 193, 3)) rfl
theorem dX12_outlateOf_5 : decode cX12_outlateOf 5 = .ok (.aload_n 0, 1) := dget daX12_outlateOf_0 3 (q := (5, .aload_n 0, 1)) rfl
theorem dX12_outlateOf_6 : decode cX12_outlateOf 6 = .ok (.getfield 34, 3) := dget daX12_outlateOf_0 4 (q := (6, .getfield 34, 3)) rfl
theorem dX12_outlateOf_9 : decode cX12_outlateOf 9 = .ok (.iload_n 1, 1) := dget daX12_outlateOf_0 5 (q := (9, .iload_n 1, 1)) rfl
theorem dX12_outlateOf_10 : decode cX12_outlateOf 10 = .ok (.iaload, 1) := dget daX12_outlateOf_0 6 (q := (10, .iaload, 1)) rfl
theorem dX12_outlateOf_11 : decode cX12_outlateOf 11 = .ok (.isub, 1) := dget daX12_outlateOf_0 7 (q := (11, .isub, 1)) rfl
theorem dX12_outlateOf_12 : decode cX12_outlateOf 12 = .ok (.invokestatic 187, 3) := dget daX12_outlateOf_0 8 (q := (12, .invokestatic 187, 3)) rfl
theorem dX12_outlateOf_15 : decode cX12_outlateOf 15 = .ok (.ireturn, 1) := dget daX12_outlateOf_0 9 (q := (15, .ireturn, 1)) rfl
def tdaX12_aheadOf_0 : List (Nat × (Instr × Nat)) := [(0, .iconst (-1), 1), (1, .istore_n 3, 1), (2, .iload_n 2, 1), (3, .ifCond .eq 12, 3), (6, .aload_n 0, 1), (7, .getfield 53, 3), (10, .iconst 1, 1), (11, .iaload, 1), (12, .goto 9, 3), (15, .aload_n 0, 1), (16, .getfield 53, 3), (19, .iconst 0, 1), (20, .iaload, 1), (21, .istore 4, 2), (23, .iconst 0, 1), (24, .istore 5, 2), (26, .iload 5, 2), (28, .aload_n 0, 1), (29, .getfield 160, 3), (32, .if_icmp .ge 139, 3), (35, .iload_n 2, 1), (36, .ifCond .eq 27, 3), (39, .aload_n 0, 1), (40, .getfield 31, 3), (43, .iload 5, 2), (45, .iaload, 1), (46, .aload_n 0, 1), (47, .getfield 31, 3), (50, .iload_n 1, 1), (51, .iaload, 1), (52, .if_icmp .ne 7, 3), (55, .iconst 1, 1), (56, .goto 28, 3), (59, .iconst 0, 1), (60, .goto 24, 3), (63, .aload_n 0, 1), (64, .getfield 28, 3), (67, .iload 5, 2), (69, .iaload, 1), (70, .aload_n 0, 1)]
theorem daX12_aheadOf_0 : tdaX12_aheadOf_0.all (fun q => decide (decode cX12_aheadOf q.1 = .ok q.2)) = true := by decide +kernel
theorem dX12_aheadOf_0 : decode cX12_aheadOf 0 = .ok (.iconst (-1), 1) := dget daX12_aheadOf_0 0 (q := (0, .iconst (-1), 1)) rfl
theorem dX12_aheadOf_1 : decode cX12_aheadOf 1 = .ok (.istore_n 3, 1) := dget daX12_aheadOf_0 1 (q := (1, .istore_n 3, 1)) rfl
theorem dX12_aheadOf_2 : decode cX12_aheadOf 2 = .ok (.iload_n 2, 1) := dget daX12_aheadOf_0 2 (q := (2, .iload_n 2, 1)) rfl
theorem dX12_aheadOf_3 : decode cX12_aheadOf 3 = .ok (.ifCond .eq 12, 3) := dget daX12_aheadOf_0 3 (q := (3, .ifCond .eq 12, 3)) rfl
theorem dX12_aheadOf_6 : decode cX12_aheadOf 6 = .ok (.aload_n 0, 1) := dget daX12_aheadOf_0 4 (q := (6, .aload_n 0, 1)) rfl
theorem dX12_aheadOf_7 : decode cX12_aheadOf 7 = .ok (.getfield 53, 3) := dget daX12_aheadOf_0 5 (q := (7, .getfield 53, 3)) rfl
theorem dX12_aheadOf_10 : decode cX12_aheadOf 10 = .ok (.iconst 1, 1) := dget daX12_aheadOf_0 6 (q := (10, .iconst 1, 1)) rfl
theorem dX12_aheadOf_11 : decode cX12_aheadOf 11 = .ok (.iaload, 1) := dget daX12_aheadOf_0 7 (q := (11, .iaload, 1)) rfl
theorem dX12_aheadOf_12 : decode cX12_aheadOf 12 = .ok (.goto 9, 3) := dget daX12_aheadOf_0 8 (q := (12, .goto 9, 3)) rfl
theorem dX12_aheadOf_15 : decode cX12_aheadOf 15 = .ok (.aload_n 0, 1) := dget daX12_aheadOf_0 9 (q := (15, .aload_n 0, 1)) rfl
theorem dX12_aheadOf_16 : decode cX12_aheadOf 16 = .ok (.getfield 53, 3) := dget daX12_aheadOf_0 10 (q := (16, .getfield 53, 3)) rfl
theorem dX12_aheadOf_19 : decode cX12_aheadOf 19 = .ok (.iconst 0, 1) := dget daX12_aheadOf_0 11 (q := (19, .iconst 0, 1)) rfl
theorem dX12_aheadOf_20 : decode cX12_aheadOf 20 = .ok (.iaload, 1) := dget daX12_aheadOf_0 12 (q := (20, .iaload, 1)) rfl
theorem dX12_aheadOf_21 : decode cX12_aheadOf 21 = .ok (.istore 4, 2) := dget daX12_aheadOf_0 13 (q := (21, .istore 4, 2)) rfl
theorem dX12_aheadOf_23 : decode cX12_aheadOf 23 = .ok (.iconst 0, 1) := dget daX12_aheadOf_0 14 (q := (23, .iconst 0, 1)) rfl
theorem dX12_aheadOf_24 : decode cX12_aheadOf 24 = .ok (.istore 5, 2) := dget daX12_aheadOf_0 15 (q := (24, .istore 5, 2)) rfl
theorem dX12_aheadOf_26 : decode cX12_aheadOf 26 = .ok (.iload 5, 2) := dget daX12_aheadOf_0 16 (q := (26, .iload 5, 2)) rfl
theorem dX12_aheadOf_28 : decode cX12_aheadOf 28 = .ok (.aload_n 0, 1) := dget daX12_aheadOf_0 17 (q := (28, .aload_n 0, 1)) rfl
theorem dX12_aheadOf_29 : decode cX12_aheadOf 29 = .ok (.getfield 160, 3) := dget daX12_aheadOf_0 18 (q := (29, .getfield 160, 3)) rfl
theorem dX12_aheadOf_32 : decode cX12_aheadOf 32 = .ok (.if_icmp .ge 139, 3) := dget daX12_aheadOf_0 19 (q := (32, .if_icmp .ge 139, 3)) rfl
theorem dX12_aheadOf_35 : decode cX12_aheadOf 35 = .ok (.iload_n 2, 1) := dget daX12_aheadOf_0 20 (q := (35, .iload_n 2, 1)) rfl
theorem dX12_aheadOf_36 : decode cX12_aheadOf 36 = .ok (.ifCond .eq 27, 3) := dget daX12_aheadOf_0 21 (q := (36, .ifCond .eq 27, 3)) rfl
theorem dX12_aheadOf_39 : decode cX12_aheadOf 39 = .ok (.aload_n 0, 1) := dget daX12_aheadOf_0 22 (q := (39, .aload_n 0, 1)) rfl
theorem dX12_aheadOf_40 : decode cX12_aheadOf 40 = .ok (.getfield 31, 3) := dget daX12_aheadOf_0 23 (q := (40, .getfield 31, 3)) rfl
theorem dX12_aheadOf_43 : decode cX12_aheadOf 43 = .ok (.iload 5, 2) := dget daX12_aheadOf_0 24 (q := (43, .iload 5, 2)) rfl
theorem dX12_aheadOf_45 : decode cX12_aheadOf 45 = .ok (.iaload, 1) := dget daX12_aheadOf_0 25 (q := (45, .iaload, 1)) rfl
theorem dX12_aheadOf_46 : decode cX12_aheadOf 46 = .ok (.aload_n 0, 1) := dget daX12_aheadOf_0 26 (q := (46, .aload_n 0, 1)) rfl
theorem dX12_aheadOf_47 : decode cX12_aheadOf 47 = .ok (.getfield 31, 3) := dget daX12_aheadOf_0 27 (q := (47, .getfield 31, 3)) rfl
theorem dX12_aheadOf_50 : decode cX12_aheadOf 50 = .ok (.iload_n 1, 1) := dget daX12_aheadOf_0 28 (q := (50, .iload_n 1, 1)) rfl
theorem dX12_aheadOf_51 : decode cX12_aheadOf 51 = .ok (.iaload, 1) := dget daX12_aheadOf_0 29 (q := (51, .iaload, 1)) rfl
theorem dX12_aheadOf_52 : decode cX12_aheadOf 52 = .ok (.if_icmp .ne 7, 3) := dget daX12_aheadOf_0 30 (q := (52, .if_icmp .ne 7, 3)) rfl
theorem dX12_aheadOf_55 : decode cX12_aheadOf 55 = .ok (.iconst 1, 1) := dget daX12_aheadOf_0 31 (q := (55, .iconst 1, 1)) rfl
theorem dX12_aheadOf_56 : decode cX12_aheadOf 56 = .ok (.goto 28, 3) := dget daX12_aheadOf_0 32 (q := (56, .goto 28, 3)) rfl
theorem dX12_aheadOf_59 : decode cX12_aheadOf 59 = .ok (.iconst 0, 1) := dget daX12_aheadOf_0 33 (q := (59, .iconst 0, 1)) rfl
theorem dX12_aheadOf_60 : decode cX12_aheadOf 60 = .ok (.goto 24, 3) := dget daX12_aheadOf_0 34 (q := (60, .goto 24, 3)) rfl
theorem dX12_aheadOf_63 : decode cX12_aheadOf 63 = .ok (.aload_n 0, 1) := dget daX12_aheadOf_0 35 (q := (63, .aload_n 0, 1)) rfl
theorem dX12_aheadOf_64 : decode cX12_aheadOf 64 = .ok (.getfield 28, 3) := dget daX12_aheadOf_0 36 (q := (64, .getfield 28, 3)) rfl
theorem dX12_aheadOf_67 : decode cX12_aheadOf 67 = .ok (.iload 5, 2) := dget daX12_aheadOf_0 37 (q := (67, .iload 5, 2)) rfl
theorem dX12_aheadOf_69 : decode cX12_aheadOf 69 = .ok (.iaload, 1) := dget daX12_aheadOf_0 38 (q := (69, .iaload, 1)) rfl
theorem dX12_aheadOf_70 : decode cX12_aheadOf 70 = .ok (.aload_n 0, 1) := dget daX12_aheadOf_0 39 (q := (70, .aload_n 0, 1)) rfl
def tdaX12_aheadOf_1 : List (Nat × (Instr × Nat)) := [(71, .getfield 28, 3), (74, .iload_n 1, 1), (75, .iaload, 1), (76, .if_icmp .ne 7, 3), (79, .iconst 1, 1), (80, .goto 4, 3), (83, .iconst 0, 1), (84, .istore 6, 2), (86, .iload 6, 2), (88, .ifCond .eq 42, 3), (91, .aload_n 0, 1), (92, .getfield 25, 3), (95, .iload 5, 2), (97, .iaload, 1), (98, .aload_n 0, 1), (99, .getfield 22, 3), (102, .iload_n 1, 1), (103, .iaload, 1), (104, .if_icmp .ne 26, 3), (107, .aload_n 0, 1), (108, .getfield 37, 3), (111, .iload 5, 2), (113, .iaload, 1), (114, .iload 4, 2), (116, .iadd, 1), (117, .aload_n 0, 1), (118, .getfield 34, 3), (121, .iload_n 1, 1), (122, .iaload, 1), (123, .if_icmp .gt 7, 3), (126, .iconst 1, 1), (127, .goto 4, 3), (130, .iconst 0, 1), (131, .istore 7, 2), (133, .iload 7, 2), (135, .ifCond .eq 28, 3), (138, .iload_n 3, 1), (139, .ifCond .lt 19, 3), (142, .aload_n 0, 1), (143, .getfield 37, 3)]
theorem daX12_aheadOf_1 : tdaX12_aheadOf_1.all (fun q => decide (decode cX12_aheadOf q.1 = .ok q.2)) = true := by decide +kernel
theorem dX12_aheadOf_71 : decode cX12_aheadOf 71 = .ok (.getfield 28, 3) := dget daX12_aheadOf_1 0 (q := (71, .getfield 28, 3)) rfl
theorem dX12_aheadOf_74 : decode cX12_aheadOf 74 = .ok (.iload_n 1, 1) := dget daX12_aheadOf_1 1 (q := (74, .iload_n 1, 1)) rfl
theorem dX12_aheadOf_75 : decode cX12_aheadOf 75 = .ok (.iaload, 1) := dget daX12_aheadOf_1 2 (q := (75, .iaload, 1)) rfl
theorem dX12_aheadOf_76 : decode cX12_aheadOf 76 = .ok (.if_icmp .ne 7, 3) := dget daX12_aheadOf_1 3 (q := (76, .if_icmp .ne 7, 3)) rfl
theorem dX12_aheadOf_79 : decode cX12_aheadOf 79 = .ok (.iconst 1, 1) := dget daX12_aheadOf_1 4 (q := (79, .iconst 1, 1)) rfl
theorem dX12_aheadOf_80 : decode cX12_aheadOf 80 = .ok (.goto 4, 3) := dget daX12_aheadOf_1 5 (q := (80, .goto 4, 3)) rfl
theorem dX12_aheadOf_83 : decode cX12_aheadOf 83 = .ok (.iconst 0, 1) := dget daX12_aheadOf_1 6 (q := (83, .iconst 0, 1)) rfl
theorem dX12_aheadOf_84 : decode cX12_aheadOf 84 = .ok (.istore 6, 2) := dget daX12_aheadOf_1 7 (q := (84, .istore 6, 2)) rfl
theorem dX12_aheadOf_86 : decode cX12_aheadOf 86 = .ok (.iload 6, 2) := dget daX12_aheadOf_1 8 (q := (86, .iload 6, 2)) rfl
theorem dX12_aheadOf_88 : decode cX12_aheadOf 88 = .ok (.ifCond .eq 42, 3) := dget daX12_aheadOf_1 9 (q := (88, .ifCond .eq 42, 3)) rfl
theorem dX12_aheadOf_91 : decode cX12_aheadOf 91 = .ok (.aload_n 0, 1) := dget daX12_aheadOf_1 10 (q := (91, .aload_n 0, 1)) rfl
theorem dX12_aheadOf_92 : decode cX12_aheadOf 92 = .ok (.getfield 25, 3) := dget daX12_aheadOf_1 11 (q := (92, .getfield 25, 3)) rfl
theorem dX12_aheadOf_95 : decode cX12_aheadOf 95 = .ok (.iload 5, 2) := dget daX12_aheadOf_1 12 (q := (95, .iload 5, 2)) rfl
theorem dX12_aheadOf_97 : decode cX12_aheadOf 97 = .ok (.iaload, 1) := dget daX12_aheadOf_1 13 (q := (97, .iaload, 1)) rfl
theorem dX12_aheadOf_98 : decode cX12_aheadOf 98 = .ok (.aload_n 0, 1) := dget daX12_aheadOf_1 14 (q := (98, .aload_n 0, 1)) rfl
theorem dX12_aheadOf_99 : decode cX12_aheadOf 99 = .ok (.getfield 22, 3) := dget daX12_aheadOf_1 15 (q := (99, .getfield 22, 3)) rfl
theorem dX12_aheadOf_102 : decode cX12_aheadOf 102 = .ok (.iload_n 1, 1) := dget daX12_aheadOf_1 16 (q := (102, .iload_n 1, 1)) rfl
theorem dX12_aheadOf_103 : decode cX12_aheadOf 103 = .ok (.iaload, 1) := dget daX12_aheadOf_1 17 (q := (103, .iaload, 1)) rfl
theorem dX12_aheadOf_104 : decode cX12_aheadOf 104 = .ok (.if_icmp .ne 26, 3) := dget daX12_aheadOf_1 18 (q := (104, .if_icmp .ne 26, 3)) rfl
theorem dX12_aheadOf_107 : decode cX12_aheadOf 107 = .ok (.aload_n 0, 1) := dget daX12_aheadOf_1 19 (q := (107, .aload_n 0, 1)) rfl
theorem dX12_aheadOf_108 : decode cX12_aheadOf 108 = .ok (.getfield 37, 3) := dget daX12_aheadOf_1 20 (q := (108, .getfield 37, 3)) rfl
theorem dX12_aheadOf_111 : decode cX12_aheadOf 111 = .ok (.iload 5, 2) := dget daX12_aheadOf_1 21 (q := (111, .iload 5, 2)) rfl
theorem dX12_aheadOf_113 : decode cX12_aheadOf 113 = .ok (.iaload, 1) := dget daX12_aheadOf_1 22 (q := (113, .iaload, 1)) rfl
theorem dX12_aheadOf_114 : decode cX12_aheadOf 114 = .ok (.iload 4, 2) := dget daX12_aheadOf_1 23 (q := (114, .iload 4, 2)) rfl
theorem dX12_aheadOf_116 : decode cX12_aheadOf 116 = .ok (.iadd, 1) := dget daX12_aheadOf_1 24 (q := (116, .iadd, 1)) rfl
theorem dX12_aheadOf_117 : decode cX12_aheadOf 117 = .ok (.aload_n 0, 1) := dget daX12_aheadOf_1 25 (q := (117, .aload_n 0, 1)) rfl
theorem dX12_aheadOf_118 : decode cX12_aheadOf 118 = .ok (.getfield 34, 3) := dget daX12_aheadOf_1 26 (q := (118, .getfield 34, 3)) rfl
theorem dX12_aheadOf_121 : decode cX12_aheadOf 121 = .ok (.iload_n 1, 1) := dget daX12_aheadOf_1 27 (q := (121, .iload_n 1, 1)) rfl
theorem dX12_aheadOf_122 : decode cX12_aheadOf 122 = .ok (.iaload, 1) := dget daX12_aheadOf_1 28 (q := (122, .iaload, 1)) rfl
theorem dX12_aheadOf_123 : decode cX12_aheadOf 123 = .ok (.if_icmp .gt 7, 3) := dget daX12_aheadOf_1 29 (q := (123, .if_icmp .gt 7, 3)) rfl
theorem dX12_aheadOf_126 : decode cX12_aheadOf 126 = .ok (.iconst 1, 1) := dget daX12_aheadOf_1 30 (q := (126, .iconst 1, 1)) rfl
theorem dX12_aheadOf_127 : decode cX12_aheadOf 127 = .ok (.goto 4, 3) := dget daX12_aheadOf_1 31 (q := (127, .goto 4, 3)) rfl
theorem dX12_aheadOf_130 : decode cX12_aheadOf 130 = .ok (.iconst 0, 1) := dget daX12_aheadOf_1 32 (q := (130, .iconst 0, 1)) rfl
theorem dX12_aheadOf_131 : decode cX12_aheadOf 131 = .ok (.istore 7, 2) := dget daX12_aheadOf_1 33 (q := (131, .istore 7, 2)) rfl
theorem dX12_aheadOf_133 : decode cX12_aheadOf 133 = .ok (.iload 7, 2) := dget daX12_aheadOf_1 34 (q := (133, .iload 7, 2)) rfl
theorem dX12_aheadOf_135 : decode cX12_aheadOf 135 = .ok (.ifCond .eq 28, 3) := dget daX12_aheadOf_1 35 (q := (135, .ifCond .eq 28, 3)) rfl
theorem dX12_aheadOf_138 : decode cX12_aheadOf 138 = .ok (.iload_n 3, 1) := dget daX12_aheadOf_1 36 (q := (138, .iload_n 3, 1)) rfl
theorem dX12_aheadOf_139 : decode cX12_aheadOf 139 = .ok (.ifCond .lt 19, 3) := dget daX12_aheadOf_1 37 (q := (139, .ifCond .lt 19, 3)) rfl
theorem dX12_aheadOf_142 : decode cX12_aheadOf 142 = .ok (.aload_n 0, 1) := dget daX12_aheadOf_1 38 (q := (142, .aload_n 0, 1)) rfl
theorem dX12_aheadOf_143 : decode cX12_aheadOf 143 = .ok (.getfield 37, 3) := dget daX12_aheadOf_1 39 (q := (143, .getfield 37, 3)) rfl
def tdaX12_aheadOf_2 : List (Nat × (Instr × Nat)) := [(146, .iload 5, 2), (148, .iaload, 1), (149, .aload_n 0, 1), (150, .getfield 37, 3), (153, .iload_n 3, 1), (154, .iaload, 1), (155, .if_icmp .lt 8, 3), (158, .iload 5, 2), (160, .goto 4, 3), (163, .iload_n 3, 1), (164, .istore_n 3, 1), (165, .iinc 5 1, 3), (168, .goto (-142), 3), (171, .iload_n 3, 1), (172, .ireturn, 1)]
theorem daX12_aheadOf_2 : tdaX12_aheadOf_2.all (fun q => decide (decode cX12_aheadOf q.1 = .ok q.2)) = true := by decide +kernel
theorem dX12_aheadOf_146 : decode cX12_aheadOf 146 = .ok (.iload 5, 2) := dget daX12_aheadOf_2 0 (q := (146, .iload 5, 2)) rfl
theorem dX12_aheadOf_148 : decode cX12_aheadOf 148 = .ok (.iaload, 1) := dget daX12_aheadOf_2 1 (q := (148, .iaload, 1)) rfl
theorem dX12_aheadOf_149 : decode cX12_aheadOf 149 = .ok (.aload_n 0, 1) := dget daX12_aheadOf_2 2 (q := (149, .aload_n 0, 1)) rfl
theorem dX12_aheadOf_150 : decode cX12_aheadOf 150 = .ok (.getfield 37, 3) := dget daX12_aheadOf_2 3 (q := (150, .getfield 37, 3)) rfl
theorem dX12_aheadOf_153 : decode cX12_aheadOf 153 = .ok (.iload_n 3, 1) := dget daX12_aheadOf_2 4 (q := (153, .iload_n 3, 1)) rfl
theorem dX12_aheadOf_154 : decode cX12_aheadOf 154 = .ok (.iaload, 1) := dget daX12_aheadOf_2 5 (q := (154, .iaload, 1)) rfl
theorem dX12_aheadOf_155 : decode cX12_aheadOf 155 = .ok (.if_icmp .lt 8, 3) := dget daX12_aheadOf_2 6 (q := (155, .if_icmp .lt 8, 3)) rfl
theorem dX12_aheadOf_158 : decode cX12_aheadOf 158 = .ok (.iload 5, 2) := dget daX12_aheadOf_2 7 (q := (158, .iload 5, 2)) rfl
theorem dX12_aheadOf_160 : decode cX12_aheadOf 160 = .ok (.goto 4, 3) := dget daX12_aheadOf_2 8 (q := (160, .goto 4, 3)) rfl
theorem dX12_aheadOf_163 : decode cX12_aheadOf 163 = .ok (.iload_n 3, 1) := dget daX12_aheadOf_2 9 (q := (163, .iload_n 3, 1)) rfl
theorem dX12_aheadOf_164 : decode cX12_aheadOf 164 = .ok (.istore_n 3, 1) := dget daX12_aheadOf_2 10 (q := (164, .istore_n 3, 1)) rfl
theorem dX12_aheadOf_165 : decode cX12_aheadOf 165 = .ok (.iinc 5 1, 3) := dget daX12_aheadOf_2 11 (q := (165, .iinc 5 1, 3)) rfl
theorem dX12_aheadOf_168 : decode cX12_aheadOf 168 = .ok (.goto (-142), 3) := dget daX12_aheadOf_2 12 (q := (168, .goto (-142), 3)) rfl
theorem dX12_aheadOf_171 : decode cX12_aheadOf 171 = .ok (.iload_n 3, 1) := dget daX12_aheadOf_2 13 (q := (171, .iload_n 3, 1)) rfl
theorem dX12_aheadOf_172 : decode cX12_aheadOf 172 = .ok (.ireturn, 1) := dget daX12_aheadOf_2 14 (q := (172, .ireturn, 1)) rfl
def tdaX12_waitOf_0 : List (Nat × (Instr × Nat)) := [(0, .aload_n 0, 1), (1, .iload_n 1, 1), (2, .iload_n 2, 1), (3, .invokevirtual 196, 3), (6, .istore_n 3, 1), (7, .iload_n 3, 1), (8, .ifCond .lt 12, 3), (11, .aload_n 0, 1), (12, .getfield 40, 3), (15, .iload_n 3, 1), (16, .baload, 1), (17, .ifCond .ne 5, 3), (20, .iconst 0, 1), (21, .ireturn, 1), (22, .aload_n 0, 1), (23, .iload_n 3, 1), (24, .invokevirtual 190, 3), (27, .iload_n 2, 1), (28, .ifCond .eq 12, 3), (31, .aload_n 0, 1), (32, .getfield 53, 3), (35, .iconst 1, 1), (36, .iaload, 1), (37, .goto 9, 3), (40, .aload_n 0, 1), (41, .getfield 53, 3), (44, .iconst 0, 1), (45, .iaload, 1), (46, .iadd, 1), (47, .aload_n 0, 1), (48, .getfield 34, 3), (51, .iload_n 1, 1), (52, .iaload, 1), (53, .isub, 1), (54, .invokestatic 187, 3), (57, .istore 4, 2), (59, .iload 4, 2), (61, .aload_n 0, 1), (62, .iload_n 1, 1), (63, .invokevirtual 200, 3)]
theorem daX12_waitOf_0 : tdaX12_waitOf_0.all (fun q => decide (decode cX12_waitOf q.1 = .ok q.2)) = true := by decide +kernel
theorem dX12_waitOf_0 : decode cX12_waitOf 0 = .ok (.aload_n 0, 1) := dget daX12_waitOf_0 0 (q := (0, .aload_n 0, 1)) rfl
theorem dX12_waitOf_1 : decode cX12_waitOf 1 = .ok (.iload_n 1, 1) := dget daX12_waitOf_0 1 (q := (1, .iload_n 1, 1)) rfl
theorem dX12_waitOf_2 : decode cX12_waitOf 2 = .ok (.iload_n 2, 1) := dget daX12_waitOf_0 2 (q := (2, .iload_n 2, 1)) rfl
theorem dX12_waitOf_3 : decode cX12_waitOf 3 = .ok (.invokevirtual 196, 3) := dget daX12_waitOf_0 3 (q := (3, .invokevirtual 196, 3)) rfl
theorem dX12_waitOf_6 : decode cX12_waitOf 6 = .ok (.istore_n 3, 1) := dget daX12_waitOf_0 4 (q := (6, .istore_n 3, 1)) rfl
theorem dX12_waitOf_7 : decode cX12_waitOf 7 = .ok (.iload_n 3, 1) := dget daX12_waitOf_0 5 (q := (7, .iload_n 3, 1)) rfl
theorem dX12_waitOf_8 : decode cX12_waitOf 8 = .ok (.ifCond .lt 12, 3) := dget daX12_waitOf_0 6 (q := (8, .ifCond .lt 12, 3)) rfl
theorem dX12_waitOf_11 : decode cX12_waitOf 11 = .ok (.aload_n 0, 1) := dget daX12_waitOf_0 7 (q := (11, .aload_n 0, 1)) rfl
theorem dX12_waitOf_12 : decode cX12_waitOf 12 = .ok (.getfield 40, 3) := dget daX12_waitOf_0 8 (q := (12, .getfield 40, 3)) rfl
theorem dX12_waitOf_15 : decode cX12_waitOf 15 = .ok (.iload_n 3, 1) := dget daX12_waitOf_0 9 (q := (15, .iload_n 3, 1)) rfl
theorem dX12_waitOf_16 : decode cX12_waitOf 16 = .ok (.baload, 1) := dget daX12_waitOf_0 10 (q := (16, .baload, 1)) rfl
theorem dX12_waitOf_17 : decode cX12_waitOf 17 = .ok (.ifCond .ne 5, 3) := dget daX12_waitOf_0 11 (q := (17, .ifCond .ne 5, 3)) rfl
theorem dX12_waitOf_20 : decode cX12_waitOf 20 = .ok (.iconst 0, 1) := dget daX12_waitOf_0 12 (q := (20, .iconst 0, 1)) rfl
theorem dX12_waitOf_21 : decode cX12_waitOf 21 = .ok (.ireturn, 1) := dget daX12_waitOf_0 13 (q := (21, .ireturn, 1)) rfl
theorem dX12_waitOf_22 : decode cX12_waitOf 22 = .ok (.aload_n 0, 1) := dget daX12_waitOf_0 14 (q := (22, .aload_n 0, 1)) rfl
theorem dX12_waitOf_23 : decode cX12_waitOf 23 = .ok (.iload_n 3, 1) := dget daX12_waitOf_0 15 (q := (23, .iload_n 3, 1)) rfl
theorem dX12_waitOf_24 : decode cX12_waitOf 24 = .ok (.invokevirtual 190, 3) := dget daX12_waitOf_0 16 (q := (24, .invokevirtual 190, 3)) rfl
theorem dX12_waitOf_27 : decode cX12_waitOf 27 = .ok (.iload_n 2, 1) := dget daX12_waitOf_0 17 (q := (27, .iload_n 2, 1)) rfl
theorem dX12_waitOf_28 : decode cX12_waitOf 28 = .ok (.ifCond .eq 12, 3) := dget daX12_waitOf_0 18 (q := (28, .ifCond .eq 12, 3)) rfl
theorem dX12_waitOf_31 : decode cX12_waitOf 31 = .ok (.aload_n 0, 1) := dget daX12_waitOf_0 19 (q := (31, .aload_n 0, 1)) rfl
theorem dX12_waitOf_32 : decode cX12_waitOf 32 = .ok (.getfield 53, 3) := dget daX12_waitOf_0 20 (q := (32, .getfield 53, 3)) rfl
theorem dX12_waitOf_35 : decode cX12_waitOf 35 = .ok (.iconst 1, 1) := dget daX12_waitOf_0 21 (q := (35, .iconst 1, 1)) rfl
theorem dX12_waitOf_36 : decode cX12_waitOf 36 = .ok (.iaload, 1) := dget daX12_waitOf_0 22 (q := (36, .iaload, 1)) rfl
theorem dX12_waitOf_37 : decode cX12_waitOf 37 = .ok (.goto 9, 3) := dget daX12_waitOf_0 23 (q := (37, .goto 9, 3)) rfl
theorem dX12_waitOf_40 : decode cX12_waitOf 40 = .ok (.aload_n 0, 1) := dget daX12_waitOf_0 24 (q := (40, .aload_n 0, 1)) rfl
theorem dX12_waitOf_41 : decode cX12_waitOf 41 = .ok (.getfield 53, 3) := dget daX12_waitOf_0 25 (q := (41, .getfield 53, 3)) rfl
theorem dX12_waitOf_44 : decode cX12_waitOf 44 = .ok (.iconst 0, 1) := dget daX12_waitOf_0 26 (q := (44, .iconst 0, 1)) rfl
theorem dX12_waitOf_45 : decode cX12_waitOf 45 = .ok (.iaload, 1) := dget daX12_waitOf_0 27 (q := (45, .iaload, 1)) rfl
theorem dX12_waitOf_46 : decode cX12_waitOf 46 = .ok (.iadd, 1) := dget daX12_waitOf_0 28 (q := (46, .iadd, 1)) rfl
theorem dX12_waitOf_47 : decode cX12_waitOf 47 = .ok (.aload_n 0, 1) := dget daX12_waitOf_0 29 (q := (47, .aload_n 0, 1)) rfl
theorem dX12_waitOf_48 : decode cX12_waitOf 48 = .ok (.getfield 34, 3) := dget daX12_waitOf_0 30 (q := (48, .getfield 34, 3)) rfl
theorem dX12_waitOf_51 : decode cX12_waitOf 51 = .ok (.iload_n 1, 1) := dget daX12_waitOf_0 31 (q := (51, .iload_n 1, 1)) rfl
theorem dX12_waitOf_52 : decode cX12_waitOf 52 = .ok (.iaload, 1) := dget daX12_waitOf_0 32 (q := (52, .iaload, 1)) rfl
theorem dX12_waitOf_53 : decode cX12_waitOf 53 = .ok (.isub, 1) := dget daX12_waitOf_0 33 (q := (53, .isub, 1)) rfl
theorem dX12_waitOf_54 : decode cX12_waitOf 54 = .ok (.invokestatic 187, 3) := dget daX12_waitOf_0 34 (q := (54, .invokestatic 187, 3)) rfl
theorem dX12_waitOf_57 : decode cX12_waitOf 57 = .ok (.istore 4, 2) := dget daX12_waitOf_0 35 (q := (57, .istore 4, 2)) rfl
theorem dX12_waitOf_59 : decode cX12_waitOf 59 = .ok (.iload 4, 2) := dget daX12_waitOf_0 36 (q := (59, .iload 4, 2)) rfl
theorem dX12_waitOf_61 : decode cX12_waitOf 61 = .ok (.aload_n 0, 1) := dget daX12_waitOf_0 37 (q := (61, .aload_n 0, 1)) rfl
theorem dX12_waitOf_62 : decode cX12_waitOf 62 = .ok (.iload_n 1, 1) := dget daX12_waitOf_0 38 (q := (62, .iload_n 1, 1)) rfl
theorem dX12_waitOf_63 : decode cX12_waitOf 63 = .ok (.invokevirtual 200, 3) := dget daX12_waitOf_0 39 (q := (63, .invokevirtual 200, 3)) rfl
def tdaX12_waitOf_1 : List (Nat × (Instr × Nat)) := [(66, .invokestatic 203, 3), (69, .ireturn, 1)]
theorem daX12_waitOf_1 : tdaX12_waitOf_1.all (fun q => decide (decode cX12_waitOf q.1 = .ok q.2)) = true := by decide +kernel
theorem dX12_waitOf_66 : decode cX12_waitOf 66 = .ok (.invokestatic 203, 3) := dget daX12_waitOf_1 0 (q := (66, .invokestatic 203, 3)) rfl
theorem dX12_waitOf_69 : decode cX12_waitOf 69 = .ok (.ireturn, 1) := dget daX12_waitOf_1 1 (q := (69, .ireturn, 1)) rfl
def tdaX12_isByCrew_0 : List (Nat × (Instr × Nat)) := [(0, .aload_n 0, 1), (1, .iload_n 1, 1), (2, .iconst 1, 1), (3, .invokevirtual 207, 3), (6, .aload_n 0, 1), (7, .iload_n 1, 1), (8, .iconst 0, 1), (9, .invokevirtual 207, 3), (12, .if_icmp .le 7, 3), (15, .iconst 1, 1), (16, .goto 4, 3), (19, .iconst 0, 1), (20, .ireturn, 1)]
theorem daX12_isByCrew_0 : tdaX12_isByCrew_0.all (fun q => decide (decode cX12_isByCrew q.1 = .ok q.2)) = true := by decide +kernel
theorem dX12_isByCrew_0 : decode cX12_isByCrew 0 = .ok (.aload_n 0, 1) := dget daX12_isByCrew_0 0 (q := (0, .aload_n 0, 1)) rfl
theorem dX12_isByCrew_1 : decode cX12_isByCrew 1 = .ok (.iload_n 1, 1) := dget daX12_isByCrew_0 1 (q := (1, .iload_n 1, 1)) rfl
theorem dX12_isByCrew_2 : decode cX12_isByCrew 2 = .ok (.iconst 1, 1) := dget daX12_isByCrew_0 2 (q := (2, .iconst 1, 1)) rfl
theorem dX12_isByCrew_3 : decode cX12_isByCrew 3 = .ok (.invokevirtual 207, 3) := dget daX12_isByCrew_0 3 (q := (3, .invokevirtual 207, 3)) rfl
theorem dX12_isByCrew_6 : decode cX12_isByCrew 6 = .ok (.aload_n 0, 1) := dget daX12_isByCrew_0 4 (q := (6, .aload_n 0, 1)) rfl
theorem dX12_isByCrew_7 : decode cX12_isByCrew 7 = .ok (.iload_n 1, 1) := dget daX12_isByCrew_0 5 (q := (7, .iload_n 1, 1)) rfl
theorem dX12_isByCrew_8 : decode cX12_isByCrew 8 = .ok (.iconst 0, 1) := dget daX12_isByCrew_0 6 (q := (8, .iconst 0, 1)) rfl
theorem dX12_isByCrew_9 : decode cX12_isByCrew 9 = .ok (.invokevirtual 207, 3) := dget daX12_isByCrew_0 7 (q := (9, .invokevirtual 207, 3)) rfl
theorem dX12_isByCrew_12 : decode cX12_isByCrew 12 = .ok (.if_icmp .le 7, 3) := dget daX12_isByCrew_0 8 (q := (12, .if_icmp .le 7, 3)) rfl
theorem dX12_isByCrew_15 : decode cX12_isByCrew 15 = .ok (.iconst 1, 1) := dget daX12_isByCrew_0 9 (q := (15, .iconst 1, 1)) rfl
theorem dX12_isByCrew_16 : decode cX12_isByCrew 16 = .ok (.goto 4, 3) := dget daX12_isByCrew_0 10 (q := (16, .goto 4, 3)) rfl
theorem dX12_isByCrew_19 : decode cX12_isByCrew 19 = .ok (.iconst 0, 1) := dget daX12_isByCrew_0 11 (q := (19, .iconst 0, 1)) rfl
theorem dX12_isByCrew_20 : decode cX12_isByCrew 20 = .ok (.ireturn, 1) := dget daX12_isByCrew_0 12 (q := (20, .ireturn, 1)) rfl
def tdaX12_handedOf_0 : List (Nat × (Instr × Nat)) := [(0, .aload_n 0, 1), (1, .iload_n 1, 1), (2, .invokevirtual 210, 3), (5, .aload_n 0, 1), (6, .iload_n 1, 1), (7, .aload_n 0, 1), (8, .iload_n 1, 1), (9, .invokevirtual 213, 3), (12, .invokevirtual 207, 3), (15, .invokestatic 203, 3), (18, .ireturn, 1)]
theorem daX12_handedOf_0 : tdaX12_handedOf_0.all (fun q => decide (decode cX12_handedOf q.1 = .ok q.2)) = true := by decide +kernel
theorem dX12_handedOf_0 : decode cX12_handedOf 0 = .ok (.aload_n 0, 1) := dget daX12_handedOf_0 0 (q := (0, .aload_n 0, 1)) rfl
theorem dX12_handedOf_1 : decode cX12_handedOf 1 = .ok (.iload_n 1, 1) := dget daX12_handedOf_0 1 (q := (1, .iload_n 1, 1)) rfl
theorem dX12_handedOf_2 : decode cX12_handedOf 2 = .ok (.invokevirtual 210, 3) := dget daX12_handedOf_0 2 (q := (2, .invokevirtual 210, 3)) rfl
theorem dX12_handedOf_5 : decode cX12_handedOf 5 = .ok (.aload_n 0, 1) := dget daX12_handedOf_0 3 (q := (5, .aload_n 0, 1)) rfl
theorem dX12_handedOf_6 : decode cX12_handedOf 6 = .ok (.iload_n 1, 1) := dget daX12_handedOf_0 4 (q := (6, .iload_n 1, 1)) rfl
theorem dX12_handedOf_7 : decode cX12_handedOf 7 = .ok (.aload_n 0, 1) := dget daX12_handedOf_0 5 (q := (7, .aload_n 0, 1)) rfl
theorem dX12_handedOf_8 : decode cX12_handedOf 8 = .ok (.iload_n 1, 1) := dget daX12_handedOf_0 6 (q := (8, .iload_n 1, 1)) rfl
theorem dX12_handedOf_9 : decode cX12_handedOf 9 = .ok (.invokevirtual 213, 3) := dget daX12_handedOf_0 7 (q := (9, .invokevirtual 213, 3)) rfl
theorem dX12_handedOf_12 : decode cX12_handedOf 12 = .ok (.invokevirtual 207, 3) := dget daX12_handedOf_0 8 (q := (12, .invokevirtual 207, 3)) rfl
theorem dX12_handedOf_15 : decode cX12_handedOf 15 = .ok (.invokestatic 203, 3) := dget daX12_handedOf_0 9 (q := (15, .invokestatic 203, 3)) rfl
theorem dX12_handedOf_18 : decode cX12_handedOf 18 = .ok (.ireturn, 1) := dget daX12_handedOf_0 10 (q := (18, .ireturn, 1)) rfl
def tdaX12_legOf_0 : List (Nat × (Instr × Nat)) := [(0, .aload_n 0, 1), (1, .iload_n 1, 1), (2, .invokevirtual 181, 3), (5, .ifCond .ne 9, 3), (8, .aload_n 0, 1), (9, .iconst (-1), 1), (10, .invokevirtual 164, 3), (13, .ireturn, 1), (14, .iload_n 2, 1), (15, .iconst 0, 1), (16, .iconst 5, 1), (17, .invokestatic 156, 3), (20, .ifCond .ne 10, 3), (23, .aload_n 0, 1), (24, .bipush (-2), 2), (26, .invokevirtual 164, 3), (29, .ireturn, 1), (30, .aload_n 0, 1), (31, .getfield 40, 3), (34, .iload_n 1, 1), (35, .baload, 1), (36, .ifCond .ne 10, 3), (39, .aload_n 0, 1), (40, .bipush (-5), 2), (42, .invokevirtual 164, 3), (45, .ireturn, 1), (46, .iload_n 2, 1), (47, .tableswitch 65 0 4 #[33, 39, 45, 52, 59], 33), (80, .aload_n 0, 1), (81, .iload_n 1, 1), (82, .invokevirtual 210, 3), (85, .ireturn, 1), (86, .aload_n 0, 1), (87, .iload_n 1, 1), (88, .invokevirtual 200, 3), (91, .ireturn, 1), (92, .aload_n 0, 1), (93, .iload_n 1, 1), (94, .iconst 0, 1), (95, .invokevirtual 207, 3)]
theorem daX12_legOf_0 : tdaX12_legOf_0.all (fun q => decide (decode cX12_legOf q.1 = .ok q.2)) = true := by decide +kernel
theorem dX12_legOf_0 : decode cX12_legOf 0 = .ok (.aload_n 0, 1) := dget daX12_legOf_0 0 (q := (0, .aload_n 0, 1)) rfl
theorem dX12_legOf_1 : decode cX12_legOf 1 = .ok (.iload_n 1, 1) := dget daX12_legOf_0 1 (q := (1, .iload_n 1, 1)) rfl
theorem dX12_legOf_2 : decode cX12_legOf 2 = .ok (.invokevirtual 181, 3) := dget daX12_legOf_0 2 (q := (2, .invokevirtual 181, 3)) rfl
theorem dX12_legOf_5 : decode cX12_legOf 5 = .ok (.ifCond .ne 9, 3) := dget daX12_legOf_0 3 (q := (5, .ifCond .ne 9, 3)) rfl
theorem dX12_legOf_8 : decode cX12_legOf 8 = .ok (.aload_n 0, 1) := dget daX12_legOf_0 4 (q := (8, .aload_n 0, 1)) rfl
theorem dX12_legOf_9 : decode cX12_legOf 9 = .ok (.iconst (-1), 1) := dget daX12_legOf_0 5 (q := (9, .iconst (-1), 1)) rfl
theorem dX12_legOf_10 : decode cX12_legOf 10 = .ok (.invokevirtual 164, 3) := dget daX12_legOf_0 6 (q := (10, .invokevirtual 164, 3)) rfl
theorem dX12_legOf_13 : decode cX12_legOf 13 = .ok (.ireturn, 1) := dget daX12_legOf_0 7 (q := (13, .ireturn, 1)) rfl
theorem dX12_legOf_14 : decode cX12_legOf 14 = .ok (.iload_n 2, 1) := dget daX12_legOf_0 8 (q := (14, .iload_n 2, 1)) rfl
theorem dX12_legOf_15 : decode cX12_legOf 15 = .ok (.iconst 0, 1) := dget daX12_legOf_0 9 (q := (15, .iconst 0, 1)) rfl
theorem dX12_legOf_16 : decode cX12_legOf 16 = .ok (.iconst 5, 1) := dget daX12_legOf_0 10 (q := (16, .iconst 5, 1)) rfl
theorem dX12_legOf_17 : decode cX12_legOf 17 = .ok (.invokestatic 156, 3) := dget daX12_legOf_0 11 (q := (17, .invokestatic 156, 3)) rfl
theorem dX12_legOf_20 : decode cX12_legOf 20 = .ok (.ifCond .ne 10, 3) := dget daX12_legOf_0 12 (q := (20, .ifCond .ne 10, 3)) rfl
theorem dX12_legOf_23 : decode cX12_legOf 23 = .ok (.aload_n 0, 1) := dget daX12_legOf_0 13 (q := (23, .aload_n 0, 1)) rfl
theorem dX12_legOf_24 : decode cX12_legOf 24 = .ok (.bipush (-2), 2) := dget daX12_legOf_0 14 (q := (24, .bipush (-2), 2)) rfl
theorem dX12_legOf_26 : decode cX12_legOf 26 = .ok (.invokevirtual 164, 3) := dget daX12_legOf_0 15 (q := (26, .invokevirtual 164, 3)) rfl
theorem dX12_legOf_29 : decode cX12_legOf 29 = .ok (.ireturn, 1) := dget daX12_legOf_0 16 (q := (29, .ireturn, 1)) rfl
theorem dX12_legOf_30 : decode cX12_legOf 30 = .ok (.aload_n 0, 1) := dget daX12_legOf_0 17 (q := (30, .aload_n 0, 1)) rfl
theorem dX12_legOf_31 : decode cX12_legOf 31 = .ok (.getfield 40, 3) := dget daX12_legOf_0 18 (q := (31, .getfield 40, 3)) rfl
theorem dX12_legOf_34 : decode cX12_legOf 34 = .ok (.iload_n 1, 1) := dget daX12_legOf_0 19 (q := (34, .iload_n 1, 1)) rfl
theorem dX12_legOf_35 : decode cX12_legOf 35 = .ok (.baload, 1) := dget daX12_legOf_0 20 (q := (35, .baload, 1)) rfl
theorem dX12_legOf_36 : decode cX12_legOf 36 = .ok (.ifCond .ne 10, 3) := dget daX12_legOf_0 21 (q := (36, .ifCond .ne 10, 3)) rfl
theorem dX12_legOf_39 : decode cX12_legOf 39 = .ok (.aload_n 0, 1) := dget daX12_legOf_0 22 (q := (39, .aload_n 0, 1)) rfl
theorem dX12_legOf_40 : decode cX12_legOf 40 = .ok (.bipush (-5), 2) := dget daX12_legOf_0 23 (q := (40, .bipush (-5), 2)) rfl
theorem dX12_legOf_42 : decode cX12_legOf 42 = .ok (.invokevirtual 164, 3) := dget daX12_legOf_0 24 (q := (42, .invokevirtual 164, 3)) rfl
theorem dX12_legOf_45 : decode cX12_legOf 45 = .ok (.ireturn, 1) := dget daX12_legOf_0 25 (q := (45, .ireturn, 1)) rfl
theorem dX12_legOf_46 : decode cX12_legOf 46 = .ok (.iload_n 2, 1) := dget daX12_legOf_0 26 (q := (46, .iload_n 2, 1)) rfl
theorem dX12_legOf_47 : decode cX12_legOf 47 = .ok (.tableswitch 65 0 4 #[33, 39, 45, 52, 59], 33) := dget daX12_legOf_0 27 (q := (47, .tableswitch 65 0 4 #[33, 39, 45, 52, 59], 33)) rfl
theorem dX12_legOf_80 : decode cX12_legOf 80 = .ok (.aload_n 0, 1) := dget daX12_legOf_0 28 (q := (80, .aload_n 0, 1)) rfl
theorem dX12_legOf_81 : decode cX12_legOf 81 = .ok (.iload_n 1, 1) := dget daX12_legOf_0 29 (q := (81, .iload_n 1, 1)) rfl
theorem dX12_legOf_82 : decode cX12_legOf 82 = .ok (.invokevirtual 210, 3) := dget daX12_legOf_0 30 (q := (82, .invokevirtual 210, 3)) rfl
theorem dX12_legOf_85 : decode cX12_legOf 85 = .ok (.ireturn, 1) := dget daX12_legOf_0 31 (q := (85, .ireturn, 1)) rfl
theorem dX12_legOf_86 : decode cX12_legOf 86 = .ok (.aload_n 0, 1) := dget daX12_legOf_0 32 (q := (86, .aload_n 0, 1)) rfl
theorem dX12_legOf_87 : decode cX12_legOf 87 = .ok (.iload_n 1, 1) := dget daX12_legOf_0 33 (q := (87, .iload_n 1, 1)) rfl
theorem dX12_legOf_88 : decode cX12_legOf 88 = .ok (.invokevirtual 200, 3) := dget daX12_legOf_0 34 (q := (88, .invokevirtual 200, 3)) rfl
theorem dX12_legOf_91 : decode cX12_legOf 91 = .ok (.ireturn, 1) := dget daX12_legOf_0 35 (q := (91, .ireturn, 1)) rfl
theorem dX12_legOf_92 : decode cX12_legOf 92 = .ok (.aload_n 0, 1) := dget daX12_legOf_0 36 (q := (92, .aload_n 0, 1)) rfl
theorem dX12_legOf_93 : decode cX12_legOf 93 = .ok (.iload_n 1, 1) := dget daX12_legOf_0 37 (q := (93, .iload_n 1, 1)) rfl
theorem dX12_legOf_94 : decode cX12_legOf 94 = .ok (.iconst 0, 1) := dget daX12_legOf_0 38 (q := (94, .iconst 0, 1)) rfl
theorem dX12_legOf_95 : decode cX12_legOf 95 = .ok (.invokevirtual 207, 3) := dget daX12_legOf_0 39 (q := (95, .invokevirtual 207, 3)) rfl
def tdaX12_legOf_1 : List (Nat × (Instr × Nat)) := [(98, .ireturn, 1), (99, .aload_n 0, 1), (100, .iload_n 1, 1), (101, .iconst 1, 1), (102, .invokevirtual 207, 3), (105, .ireturn, 1), (106, .aload_n 0, 1), (107, .iload_n 1, 1), (108, .invokevirtual 216, 3), (111, .ireturn, 1), (112, .aload_n 0, 1), (113, .iload_n 1, 1), (114, .invokevirtual 210, 3), (117, .aload_n 0, 1), (118, .iload_n 1, 1), (119, .invokevirtual 216, 3), (122, .isub, 1), (123, .ireturn, 1)]
theorem daX12_legOf_1 : tdaX12_legOf_1.all (fun q => decide (decode cX12_legOf q.1 = .ok q.2)) = true := by decide +kernel
theorem dX12_legOf_98 : decode cX12_legOf 98 = .ok (.ireturn, 1) := dget daX12_legOf_1 0 (q := (98, .ireturn, 1)) rfl
theorem dX12_legOf_99 : decode cX12_legOf 99 = .ok (.aload_n 0, 1) := dget daX12_legOf_1 1 (q := (99, .aload_n 0, 1)) rfl
theorem dX12_legOf_100 : decode cX12_legOf 100 = .ok (.iload_n 1, 1) := dget daX12_legOf_1 2 (q := (100, .iload_n 1, 1)) rfl
theorem dX12_legOf_101 : decode cX12_legOf 101 = .ok (.iconst 1, 1) := dget daX12_legOf_1 3 (q := (101, .iconst 1, 1)) rfl
theorem dX12_legOf_102 : decode cX12_legOf 102 = .ok (.invokevirtual 207, 3) := dget daX12_legOf_1 4 (q := (102, .invokevirtual 207, 3)) rfl
theorem dX12_legOf_105 : decode cX12_legOf 105 = .ok (.ireturn, 1) := dget daX12_legOf_1 5 (q := (105, .ireturn, 1)) rfl
theorem dX12_legOf_106 : decode cX12_legOf 106 = .ok (.aload_n 0, 1) := dget daX12_legOf_1 6 (q := (106, .aload_n 0, 1)) rfl
theorem dX12_legOf_107 : decode cX12_legOf 107 = .ok (.iload_n 1, 1) := dget daX12_legOf_1 7 (q := (107, .iload_n 1, 1)) rfl
theorem dX12_legOf_108 : decode cX12_legOf 108 = .ok (.invokevirtual 216, 3) := dget daX12_legOf_1 8 (q := (108, .invokevirtual 216, 3)) rfl
theorem dX12_legOf_111 : decode cX12_legOf 111 = .ok (.ireturn, 1) := dget daX12_legOf_1 9 (q := (111, .ireturn, 1)) rfl
theorem dX12_legOf_112 : decode cX12_legOf 112 = .ok (.aload_n 0, 1) := dget daX12_legOf_1 10 (q := (112, .aload_n 0, 1)) rfl
theorem dX12_legOf_113 : decode cX12_legOf 113 = .ok (.iload_n 1, 1) := dget daX12_legOf_1 11 (q := (113, .iload_n 1, 1)) rfl
theorem dX12_legOf_114 : decode cX12_legOf 114 = .ok (.invokevirtual 210, 3) := dget daX12_legOf_1 12 (q := (114, .invokevirtual 210, 3)) rfl
theorem dX12_legOf_117 : decode cX12_legOf 117 = .ok (.aload_n 0, 1) := dget daX12_legOf_1 13 (q := (117, .aload_n 0, 1)) rfl
theorem dX12_legOf_118 : decode cX12_legOf 118 = .ok (.iload_n 1, 1) := dget daX12_legOf_1 14 (q := (118, .iload_n 1, 1)) rfl
theorem dX12_legOf_119 : decode cX12_legOf 119 = .ok (.invokevirtual 216, 3) := dget daX12_legOf_1 15 (q := (119, .invokevirtual 216, 3)) rfl
theorem dX12_legOf_122 : decode cX12_legOf 122 = .ok (.isub, 1) := dget daX12_legOf_1 16 (q := (122, .isub, 1)) rfl
theorem dX12_legOf_123 : decode cX12_legOf 123 = .ok (.ireturn, 1) := dget daX12_legOf_1 17 (q := (123, .ireturn, 1)) rfl
def tdaX12_ahead_0 : List (Nat × (Instr × Nat)) := [(0, .aload_n 0, 1), (1, .iload_n 1, 1), (2, .invokevirtual 181, 3), (5, .ifCond .ne 9, 3), (8, .aload_n 0, 1), (9, .iconst (-1), 1), (10, .invokevirtual 164, 3), (13, .ireturn, 1), (14, .aload_n 0, 1), (15, .iload_n 1, 1), (16, .iload_n 2, 1), (17, .invokevirtual 196, 3), (20, .istore_n 3, 1), (21, .iload_n 3, 1), (22, .ifCond .ge 8, 3), (25, .bipush (-9), 2), (27, .goto 4, 3), (30, .iload_n 3, 1), (31, .ireturn, 1)]
theorem daX12_ahead_0 : tdaX12_ahead_0.all (fun q => decide (decode cX12_ahead q.1 = .ok q.2)) = true := by decide +kernel
theorem dX12_ahead_0 : decode cX12_ahead 0 = .ok (.aload_n 0, 1) := dget daX12_ahead_0 0 (q := (0, .aload_n 0, 1)) rfl
theorem dX12_ahead_1 : decode cX12_ahead 1 = .ok (.iload_n 1, 1) := dget daX12_ahead_0 1 (q := (1, .iload_n 1, 1)) rfl
theorem dX12_ahead_2 : decode cX12_ahead 2 = .ok (.invokevirtual 181, 3) := dget daX12_ahead_0 2 (q := (2, .invokevirtual 181, 3)) rfl
theorem dX12_ahead_5 : decode cX12_ahead 5 = .ok (.ifCond .ne 9, 3) := dget daX12_ahead_0 3 (q := (5, .ifCond .ne 9, 3)) rfl
theorem dX12_ahead_8 : decode cX12_ahead 8 = .ok (.aload_n 0, 1) := dget daX12_ahead_0 4 (q := (8, .aload_n 0, 1)) rfl
theorem dX12_ahead_9 : decode cX12_ahead 9 = .ok (.iconst (-1), 1) := dget daX12_ahead_0 5 (q := (9, .iconst (-1), 1)) rfl
theorem dX12_ahead_10 : decode cX12_ahead 10 = .ok (.invokevirtual 164, 3) := dget daX12_ahead_0 6 (q := (10, .invokevirtual 164, 3)) rfl
theorem dX12_ahead_13 : decode cX12_ahead 13 = .ok (.ireturn, 1) := dget daX12_ahead_0 7 (q := (13, .ireturn, 1)) rfl
theorem dX12_ahead_14 : decode cX12_ahead 14 = .ok (.aload_n 0, 1) := dget daX12_ahead_0 8 (q := (14, .aload_n 0, 1)) rfl
theorem dX12_ahead_15 : decode cX12_ahead 15 = .ok (.iload_n 1, 1) := dget daX12_ahead_0 9 (q := (15, .iload_n 1, 1)) rfl
theorem dX12_ahead_16 : decode cX12_ahead 16 = .ok (.iload_n 2, 1) := dget daX12_ahead_0 10 (q := (16, .iload_n 2, 1)) rfl
theorem dX12_ahead_17 : decode cX12_ahead 17 = .ok (.invokevirtual 196, 3) := dget daX12_ahead_0 11 (q := (17, .invokevirtual 196, 3)) rfl
theorem dX12_ahead_20 : decode cX12_ahead 20 = .ok (.istore_n 3, 1) := dget daX12_ahead_0 12 (q := (20, .istore_n 3, 1)) rfl
theorem dX12_ahead_21 : decode cX12_ahead 21 = .ok (.iload_n 3, 1) := dget daX12_ahead_0 13 (q := (21, .iload_n 3, 1)) rfl
theorem dX12_ahead_22 : decode cX12_ahead 22 = .ok (.ifCond .ge 8, 3) := dget daX12_ahead_0 14 (q := (22, .ifCond .ge 8, 3)) rfl
theorem dX12_ahead_25 : decode cX12_ahead 25 = .ok (.bipush (-9), 2) := dget daX12_ahead_0 15 (q := (25, .bipush (-9), 2)) rfl
theorem dX12_ahead_27 : decode cX12_ahead 27 = .ok (.goto 4, 3) := dget daX12_ahead_0 16 (q := (27, .goto 4, 3)) rfl
theorem dX12_ahead_30 : decode cX12_ahead 30 = .ok (.iload_n 3, 1) := dget daX12_ahead_0 17 (q := (30, .iload_n 3, 1)) rfl
theorem dX12_ahead_31 : decode cX12_ahead 31 = .ok (.ireturn, 1) := dget daX12_ahead_0 18 (q := (31, .ireturn, 1)) rfl
def tdaX12_findMinutes_0 : List (Nat × (Instr × Nat)) := [(0, .iconst 0, 1), (1, .istore_n 2, 1), (2, .iload_n 2, 1), (3, .bipush 6, 2), (5, .if_icmp .ge 16, 3), (8, .aload_n 0, 1), (9, .getfield 59, 3), (12, .iload_n 2, 1), (13, .iconst 0, 1), (14, .iastore, 1), (15, .iinc 2 1, 3), (18, .goto (-16), 3), (21, .iload_n 1, 1), (22, .istore_n 2, 1), (23, .aload_n 0, 1), (24, .iload_n 1, 1), (25, .invokevirtual 210, 3), (28, .istore_n 3, 1), (29, .iload_n 3, 1), (30, .ifCond .le 57, 3), (33, .iload_n 3, 1), (34, .aload_n 0, 1), (35, .iload_n 2, 1), (36, .invokevirtual 216, 3), (39, .invokestatic 203, 3), (42, .istore 4, 2), (44, .aload_n 0, 1), (45, .getfield 59, 3), (48, .aload_n 0, 1), (49, .getfield 50, 3), (52, .iload_n 2, 1), (53, .iaload, 1), (54, .dup2, 1), (55, .iaload, 1), (56, .iload_n 3, 1), (57, .iload 4, 2), (59, .isub, 1), (60, .iadd, 1), (61, .iastore, 1), (62, .iload 4, 2)]
theorem daX12_findMinutes_0 : tdaX12_findMinutes_0.all (fun q => decide (decode cX12_findMinutes q.1 = .ok q.2)) = true := by decide +kernel
theorem dX12_findMinutes_0 : decode cX12_findMinutes 0 = .ok (.iconst 0, 1) := dget daX12_findMinutes_0 0 (q := (0, .iconst 0, 1)) rfl
theorem dX12_findMinutes_1 : decode cX12_findMinutes 1 = .ok (.istore_n 2, 1) := dget daX12_findMinutes_0 1 (q := (1, .istore_n 2, 1)) rfl
theorem dX12_findMinutes_2 : decode cX12_findMinutes 2 = .ok (.iload_n 2, 1) := dget daX12_findMinutes_0 2 (q := (2, .iload_n 2, 1)) rfl
theorem dX12_findMinutes_3 : decode cX12_findMinutes 3 = .ok (.bipush 6, 2) := dget daX12_findMinutes_0 3 (q := (3, .bipush 6, 2)) rfl
theorem dX12_findMinutes_5 : decode cX12_findMinutes 5 = .ok (.if_icmp .ge 16, 3) := dget daX12_findMinutes_0 4 (q := (5, .if_icmp .ge 16, 3)) rfl
theorem dX12_findMinutes_8 : decode cX12_findMinutes 8 = .ok (.aload_n 0, 1) := dget daX12_findMinutes_0 5 (q := (8, .aload_n 0, 1)) rfl
theorem dX12_findMinutes_9 : decode cX12_findMinutes 9 = .ok (.getfield 59, 3) := dget daX12_findMinutes_0 6 (q := (9, .getfield 59, 3)) rfl
theorem dX12_findMinutes_12 : decode cX12_findMinutes 12 = .ok (.iload_n 2, 1) := dget daX12_findMinutes_0 7 (q := (12, .iload_n 2, 1)) rfl
theorem dX12_findMinutes_13 : decode cX12_findMinutes 13 = .ok (.iconst 0, 1) := dget daX12_findMinutes_0 8 (q := (13, .iconst 0, 1)) rfl
theorem dX12_findMinutes_14 : decode cX12_findMinutes 14 = .ok (.iastore, 1) := dget daX12_findMinutes_0 9 (q := (14, .iastore, 1)) rfl
theorem dX12_findMinutes_15 : decode cX12_findMinutes 15 = .ok (.iinc 2 1, 3) := dget daX12_findMinutes_0 10 (q := (15, .iinc 2 1, 3)) rfl
theorem dX12_findMinutes_18 : decode cX12_findMinutes 18 = .ok (.goto (-16), 3) := dget daX12_findMinutes_0 11 (q := (18, .goto (-16), 3)) rfl
theorem dX12_findMinutes_21 : decode cX12_findMinutes 21 = .ok (.iload_n 1, 1) := dget daX12_findMinutes_0 12 (q := (21, .iload_n 1, 1)) rfl
theorem dX12_findMinutes_22 : decode cX12_findMinutes 22 = .ok (.istore_n 2, 1) := dget daX12_findMinutes_0 13 (q := (22, .istore_n 2, 1)) rfl
theorem dX12_findMinutes_23 : decode cX12_findMinutes 23 = .ok (.aload_n 0, 1) := dget daX12_findMinutes_0 14 (q := (23, .aload_n 0, 1)) rfl
theorem dX12_findMinutes_24 : decode cX12_findMinutes 24 = .ok (.iload_n 1, 1) := dget daX12_findMinutes_0 15 (q := (24, .iload_n 1, 1)) rfl
theorem dX12_findMinutes_25 : decode cX12_findMinutes 25 = .ok (.invokevirtual 210, 3) := dget daX12_findMinutes_0 16 (q := (25, .invokevirtual 210, 3)) rfl
theorem dX12_findMinutes_28 : decode cX12_findMinutes 28 = .ok (.istore_n 3, 1) := dget daX12_findMinutes_0 17 (q := (28, .istore_n 3, 1)) rfl
theorem dX12_findMinutes_29 : decode cX12_findMinutes 29 = .ok (.iload_n 3, 1) := dget daX12_findMinutes_0 18 (q := (29, .iload_n 3, 1)) rfl
theorem dX12_findMinutes_30 : decode cX12_findMinutes 30 = .ok (.ifCond .le 57, 3) := dget daX12_findMinutes_0 19 (q := (30, .ifCond .le 57, 3)) rfl
theorem dX12_findMinutes_33 : decode cX12_findMinutes 33 = .ok (.iload_n 3, 1) := dget daX12_findMinutes_0 20 (q := (33, .iload_n 3, 1)) rfl
theorem dX12_findMinutes_34 : decode cX12_findMinutes 34 = .ok (.aload_n 0, 1) := dget daX12_findMinutes_0 21 (q := (34, .aload_n 0, 1)) rfl
theorem dX12_findMinutes_35 : decode cX12_findMinutes 35 = .ok (.iload_n 2, 1) := dget daX12_findMinutes_0 22 (q := (35, .iload_n 2, 1)) rfl
theorem dX12_findMinutes_36 : decode cX12_findMinutes 36 = .ok (.invokevirtual 216, 3) := dget daX12_findMinutes_0 23 (q := (36, .invokevirtual 216, 3)) rfl
theorem dX12_findMinutes_39 : decode cX12_findMinutes 39 = .ok (.invokestatic 203, 3) := dget daX12_findMinutes_0 24 (q := (39, .invokestatic 203, 3)) rfl
theorem dX12_findMinutes_42 : decode cX12_findMinutes 42 = .ok (.istore 4, 2) := dget daX12_findMinutes_0 25 (q := (42, .istore 4, 2)) rfl
theorem dX12_findMinutes_44 : decode cX12_findMinutes 44 = .ok (.aload_n 0, 1) := dget daX12_findMinutes_0 26 (q := (44, .aload_n 0, 1)) rfl
theorem dX12_findMinutes_45 : decode cX12_findMinutes 45 = .ok (.getfield 59, 3) := dget daX12_findMinutes_0 27 (q := (45, .getfield 59, 3)) rfl
theorem dX12_findMinutes_48 : decode cX12_findMinutes 48 = .ok (.aload_n 0, 1) := dget daX12_findMinutes_0 28 (q := (48, .aload_n 0, 1)) rfl
theorem dX12_findMinutes_49 : decode cX12_findMinutes 49 = .ok (.getfield 50, 3) := dget daX12_findMinutes_0 29 (q := (49, .getfield 50, 3)) rfl
theorem dX12_findMinutes_52 : decode cX12_findMinutes 52 = .ok (.iload_n 2, 1) := dget daX12_findMinutes_0 30 (q := (52, .iload_n 2, 1)) rfl
theorem dX12_findMinutes_53 : decode cX12_findMinutes 53 = .ok (.iaload, 1) := dget daX12_findMinutes_0 31 (q := (53, .iaload, 1)) rfl
theorem dX12_findMinutes_54 : decode cX12_findMinutes 54 = .ok (.dup2, 1) := dget daX12_findMinutes_0 32 (q := (54, .dup2, 1)) rfl
theorem dX12_findMinutes_55 : decode cX12_findMinutes 55 = .ok (.iaload, 1) := dget daX12_findMinutes_0 33 (q := (55, .iaload, 1)) rfl
theorem dX12_findMinutes_56 : decode cX12_findMinutes 56 = .ok (.iload_n 3, 1) := dget daX12_findMinutes_0 34 (q := (56, .iload_n 3, 1)) rfl
theorem dX12_findMinutes_57 : decode cX12_findMinutes 57 = .ok (.iload 4, 2) := dget daX12_findMinutes_0 35 (q := (57, .iload 4, 2)) rfl
theorem dX12_findMinutes_59 : decode cX12_findMinutes 59 = .ok (.isub, 1) := dget daX12_findMinutes_0 36 (q := (59, .isub, 1)) rfl
theorem dX12_findMinutes_60 : decode cX12_findMinutes 60 = .ok (.iadd, 1) := dget daX12_findMinutes_0 37 (q := (60, .iadd, 1)) rfl
theorem dX12_findMinutes_61 : decode cX12_findMinutes 61 = .ok (.iastore, 1) := dget daX12_findMinutes_0 38 (q := (61, .iastore, 1)) rfl
theorem dX12_findMinutes_62 : decode cX12_findMinutes 62 = .ok (.iload 4, 2) := dget daX12_findMinutes_0 39 (q := (62, .iload 4, 2)) rfl
def tdaX12_findMinutes_1 : List (Nat × (Instr × Nat)) := [(64, .istore_n 3, 1), (65, .iload_n 3, 1), (66, .ifCond .le 16, 3), (69, .aload_n 0, 1), (70, .iload_n 2, 1), (71, .aload_n 0, 1), (72, .iload_n 2, 1), (73, .invokevirtual 213, 3), (76, .invokevirtual 196, 3), (79, .goto 4, 3), (82, .iload_n 2, 1), (83, .istore_n 2, 1), (84, .goto (-55), 3), (87, .return_, 1)]
theorem daX12_findMinutes_1 : tdaX12_findMinutes_1.all (fun q => decide (decode cX12_findMinutes q.1 = .ok q.2)) = true := by decide +kernel
theorem dX12_findMinutes_64 : decode cX12_findMinutes 64 = .ok (.istore_n 3, 1) := dget daX12_findMinutes_1 0 (q := (64, .istore_n 3, 1)) rfl
theorem dX12_findMinutes_65 : decode cX12_findMinutes 65 = .ok (.iload_n 3, 1) := dget daX12_findMinutes_1 1 (q := (65, .iload_n 3, 1)) rfl
theorem dX12_findMinutes_66 : decode cX12_findMinutes 66 = .ok (.ifCond .le 16, 3) := dget daX12_findMinutes_1 2 (q := (66, .ifCond .le 16, 3)) rfl
theorem dX12_findMinutes_69 : decode cX12_findMinutes 69 = .ok (.aload_n 0, 1) := dget daX12_findMinutes_1 3 (q := (69, .aload_n 0, 1)) rfl
theorem dX12_findMinutes_70 : decode cX12_findMinutes 70 = .ok (.iload_n 2, 1) := dget daX12_findMinutes_1 4 (q := (70, .iload_n 2, 1)) rfl
theorem dX12_findMinutes_71 : decode cX12_findMinutes 71 = .ok (.aload_n 0, 1) := dget daX12_findMinutes_1 5 (q := (71, .aload_n 0, 1)) rfl
theorem dX12_findMinutes_72 : decode cX12_findMinutes 72 = .ok (.iload_n 2, 1) := dget daX12_findMinutes_1 6 (q := (72, .iload_n 2, 1)) rfl
theorem dX12_findMinutes_73 : decode cX12_findMinutes 73 = .ok (.invokevirtual 213, 3) := dget daX12_findMinutes_1 7 (q := (73, .invokevirtual 213, 3)) rfl
theorem dX12_findMinutes_76 : decode cX12_findMinutes 76 = .ok (.invokevirtual 196, 3) := dget daX12_findMinutes_1 8 (q := (76, .invokevirtual 196, 3)) rfl
theorem dX12_findMinutes_79 : decode cX12_findMinutes 79 = .ok (.goto 4, 3) := dget daX12_findMinutes_1 9 (q := (79, .goto 4, 3)) rfl
theorem dX12_findMinutes_82 : decode cX12_findMinutes 82 = .ok (.iload_n 2, 1) := dget daX12_findMinutes_1 10 (q := (82, .iload_n 2, 1)) rfl
theorem dX12_findMinutes_83 : decode cX12_findMinutes 83 = .ok (.istore_n 2, 1) := dget daX12_findMinutes_1 11 (q := (83, .istore_n 2, 1)) rfl
theorem dX12_findMinutes_84 : decode cX12_findMinutes 84 = .ok (.goto (-55), 3) := dget daX12_findMinutes_1 12 (q := (84, .goto (-55), 3)) rfl
theorem dX12_findMinutes_87 : decode cX12_findMinutes 87 = .ok (.return_, 1) := dget daX12_findMinutes_1 13 (q := (87, .return_, 1)) rfl
def tdaX12_minutes_0 : List (Nat × (Instr × Nat)) := [(0, .aload_n 0, 1), (1, .iload_n 1, 1), (2, .invokevirtual 181, 3), (5, .ifCond .eq 10, 3), (8, .iload_n 2, 1), (9, .invokestatic 184, 3), (12, .ifCond .ne 9, 3), (15, .aload_n 0, 1), (16, .iconst (-1), 1), (17, .invokevirtual 164, 3), (20, .ireturn, 1), (21, .aload_n 0, 1), (22, .getfield 40, 3), (25, .iload_n 1, 1), (26, .baload, 1), (27, .ifCond .ne 10, 3), (30, .aload_n 0, 1), (31, .bipush (-5), 2), (33, .invokevirtual 164, 3), (36, .ireturn, 1), (37, .aload_n 0, 1), (38, .iload_n 1, 1), (39, .invokevirtual 219, 3), (42, .aload_n 0, 1), (43, .getfield 59, 3), (46, .iload_n 2, 1), (47, .iaload, 1), (48, .ireturn, 1)]
theorem daX12_minutes_0 : tdaX12_minutes_0.all (fun q => decide (decode cX12_minutes q.1 = .ok q.2)) = true := by decide +kernel
theorem dX12_minutes_0 : decode cX12_minutes 0 = .ok (.aload_n 0, 1) := dget daX12_minutes_0 0 (q := (0, .aload_n 0, 1)) rfl
theorem dX12_minutes_1 : decode cX12_minutes 1 = .ok (.iload_n 1, 1) := dget daX12_minutes_0 1 (q := (1, .iload_n 1, 1)) rfl
theorem dX12_minutes_2 : decode cX12_minutes 2 = .ok (.invokevirtual 181, 3) := dget daX12_minutes_0 2 (q := (2, .invokevirtual 181, 3)) rfl
theorem dX12_minutes_5 : decode cX12_minutes 5 = .ok (.ifCond .eq 10, 3) := dget daX12_minutes_0 3 (q := (5, .ifCond .eq 10, 3)) rfl
theorem dX12_minutes_8 : decode cX12_minutes 8 = .ok (.iload_n 2, 1) := dget daX12_minutes_0 4 (q := (8, .iload_n 2, 1)) rfl
theorem dX12_minutes_9 : decode cX12_minutes 9 = .ok (.invokestatic 184, 3) := dget daX12_minutes_0 5 (q := (9, .invokestatic 184, 3)) rfl
theorem dX12_minutes_12 : decode cX12_minutes 12 = .ok (.ifCond .ne 9, 3) := dget daX12_minutes_0 6 (q := (12, .ifCond .ne 9, 3)) rfl
theorem dX12_minutes_15 : decode cX12_minutes 15 = .ok (.aload_n 0, 1) := dget daX12_minutes_0 7 (q := (15, .aload_n 0, 1)) rfl
theorem dX12_minutes_16 : decode cX12_minutes 16 = .ok (.iconst (-1), 1) := dget daX12_minutes_0 8 (q := (16, .iconst (-1), 1)) rfl
theorem dX12_minutes_17 : decode cX12_minutes 17 = .ok (.invokevirtual 164, 3) := dget daX12_minutes_0 9 (q := (17, .invokevirtual 164, 3)) rfl
theorem dX12_minutes_20 : decode cX12_minutes 20 = .ok (.ireturn, 1) := dget daX12_minutes_0 10 (q := (20, .ireturn, 1)) rfl
theorem dX12_minutes_21 : decode cX12_minutes 21 = .ok (.aload_n 0, 1) := dget daX12_minutes_0 11 (q := (21, .aload_n 0, 1)) rfl
theorem dX12_minutes_22 : decode cX12_minutes 22 = .ok (.getfield 40, 3) := dget daX12_minutes_0 12 (q := (22, .getfield 40, 3)) rfl
theorem dX12_minutes_25 : decode cX12_minutes 25 = .ok (.iload_n 1, 1) := dget daX12_minutes_0 13 (q := (25, .iload_n 1, 1)) rfl
theorem dX12_minutes_26 : decode cX12_minutes 26 = .ok (.baload, 1) := dget daX12_minutes_0 14 (q := (26, .baload, 1)) rfl
theorem dX12_minutes_27 : decode cX12_minutes 27 = .ok (.ifCond .ne 10, 3) := dget daX12_minutes_0 15 (q := (27, .ifCond .ne 10, 3)) rfl
theorem dX12_minutes_30 : decode cX12_minutes 30 = .ok (.aload_n 0, 1) := dget daX12_minutes_0 16 (q := (30, .aload_n 0, 1)) rfl
theorem dX12_minutes_31 : decode cX12_minutes 31 = .ok (.bipush (-5), 2) := dget daX12_minutes_0 17 (q := (31, .bipush (-5), 2)) rfl
theorem dX12_minutes_33 : decode cX12_minutes 33 = .ok (.invokevirtual 164, 3) := dget daX12_minutes_0 18 (q := (33, .invokevirtual 164, 3)) rfl
theorem dX12_minutes_36 : decode cX12_minutes 36 = .ok (.ireturn, 1) := dget daX12_minutes_0 19 (q := (36, .ireturn, 1)) rfl
theorem dX12_minutes_37 : decode cX12_minutes 37 = .ok (.aload_n 0, 1) := dget daX12_minutes_0 20 (q := (37, .aload_n 0, 1)) rfl
theorem dX12_minutes_38 : decode cX12_minutes 38 = .ok (.iload_n 1, 1) := dget daX12_minutes_0 21 (q := (38, .iload_n 1, 1)) rfl
theorem dX12_minutes_39 : decode cX12_minutes 39 = .ok (.invokevirtual 219, 3) := dget daX12_minutes_0 22 (q := (39, .invokevirtual 219, 3)) rfl
theorem dX12_minutes_42 : decode cX12_minutes 42 = .ok (.aload_n 0, 1) := dget daX12_minutes_0 23 (q := (42, .aload_n 0, 1)) rfl
theorem dX12_minutes_43 : decode cX12_minutes 43 = .ok (.getfield 59, 3) := dget daX12_minutes_0 24 (q := (43, .getfield 59, 3)) rfl
theorem dX12_minutes_46 : decode cX12_minutes 46 = .ok (.iload_n 2, 1) := dget daX12_minutes_0 25 (q := (46, .iload_n 2, 1)) rfl
theorem dX12_minutes_47 : decode cX12_minutes 47 = .ok (.iaload, 1) := dget daX12_minutes_0 26 (q := (47, .iaload, 1)) rfl
theorem dX12_minutes_48 : decode cX12_minutes 48 = .ok (.ireturn, 1) := dget daX12_minutes_0 27 (q := (48, .ireturn, 1)) rfl
def tdaX12_saved_0 : List (Nat × (Instr × Nat)) := [(0, .aload_n 0, 1), (1, .iload_n 1, 1), (2, .invokevirtual 181, 3), (5, .ifCond .ne 9, 3), (8, .aload_n 0, 1), (9, .iconst (-1), 1), (10, .invokevirtual 164, 3), (13, .ireturn, 1), (14, .aload_n 0, 1), (15, .getfield 40, 3), (18, .iload_n 1, 1), (19, .baload, 1), (20, .ifCond .ne 10, 3), (23, .aload_n 0, 1), (24, .bipush (-5), 2), (26, .invokevirtual 164, 3), (29, .ireturn, 1), (30, .iload_n 2, 1), (31, .ifCond .ge 10, 3), (34, .aload_n 0, 1), (35, .bipush (-4), 2), (37, .invokevirtual 164, 3), (40, .ireturn, 1), (41, .iload_n 2, 1), (42, .sipush 30000, 3), (45, .if_icmp .le 10, 3), (48, .aload_n 0, 1), (49, .bipush (-6), 2), (51, .invokevirtual 164, 3), (54, .ireturn, 1), (55, .aload_n 0, 1), (56, .getfield 34, 3), (59, .iload_n 1, 1), (60, .iaload, 1), (61, .aload_n 0, 1), (62, .iload_n 1, 1), (63, .iconst 1, 1), (64, .invokevirtual 207, 3), (67, .iadd, 1), (68, .istore_n 3, 1)]
theorem daX12_saved_0 : tdaX12_saved_0.all (fun q => decide (decode cX12_saved q.1 = .ok q.2)) = true := by decide +kernel
theorem dX12_saved_0 : decode cX12_saved 0 = .ok (.aload_n 0, 1) := dget daX12_saved_0 0 (q := (0, .aload_n 0, 1)) rfl
theorem dX12_saved_1 : decode cX12_saved 1 = .ok (.iload_n 1, 1) := dget daX12_saved_0 1 (q := (1, .iload_n 1, 1)) rfl
theorem dX12_saved_2 : decode cX12_saved 2 = .ok (.invokevirtual 181, 3) := dget daX12_saved_0 2 (q := (2, .invokevirtual 181, 3)) rfl
theorem dX12_saved_5 : decode cX12_saved 5 = .ok (.ifCond .ne 9, 3) := dget daX12_saved_0 3 (q := (5, .ifCond .ne 9, 3)) rfl
theorem dX12_saved_8 : decode cX12_saved 8 = .ok (.aload_n 0, 1) := dget daX12_saved_0 4 (q := (8, .aload_n 0, 1)) rfl
theorem dX12_saved_9 : decode cX12_saved 9 = .ok (.iconst (-1), 1) := dget daX12_saved_0 5 (q := (9, .iconst (-1), 1)) rfl
theorem dX12_saved_10 : decode cX12_saved 10 = .ok (.invokevirtual 164, 3) := dget daX12_saved_0 6 (q := (10, .invokevirtual 164, 3)) rfl
theorem dX12_saved_13 : decode cX12_saved 13 = .ok (.ireturn, 1) := dget daX12_saved_0 7 (q := (13, .ireturn, 1)) rfl
theorem dX12_saved_14 : decode cX12_saved 14 = .ok (.aload_n 0, 1) := dget daX12_saved_0 8 (q := (14, .aload_n 0, 1)) rfl
theorem dX12_saved_15 : decode cX12_saved 15 = .ok (.getfield 40, 3) := dget daX12_saved_0 9 (q := (15, .getfield 40, 3)) rfl
theorem dX12_saved_18 : decode cX12_saved 18 = .ok (.iload_n 1, 1) := dget daX12_saved_0 10 (q := (18, .iload_n 1, 1)) rfl
theorem dX12_saved_19 : decode cX12_saved 19 = .ok (.baload, 1) := dget daX12_saved_0 11 (q := (19, .baload, 1)) rfl
theorem dX12_saved_20 : decode cX12_saved 20 = .ok (.ifCond .ne 10, 3) := dget daX12_saved_0 12 (q := (20, .ifCond .ne 10, 3)) rfl
theorem dX12_saved_23 : decode cX12_saved 23 = .ok (.aload_n 0, 1) := dget daX12_saved_0 13 (q := (23, .aload_n 0, 1)) rfl
theorem dX12_saved_24 : decode cX12_saved 24 = .ok (.bipush (-5), 2) := dget daX12_saved_0 14 (q := (24, .bipush (-5), 2)) rfl
theorem dX12_saved_26 : decode cX12_saved 26 = .ok (.invokevirtual 164, 3) := dget daX12_saved_0 15 (q := (26, .invokevirtual 164, 3)) rfl
theorem dX12_saved_29 : decode cX12_saved 29 = .ok (.ireturn, 1) := dget daX12_saved_0 16 (q := (29, .ireturn, 1)) rfl
theorem dX12_saved_30 : decode cX12_saved 30 = .ok (.iload_n 2, 1) := dget daX12_saved_0 17 (q := (30, .iload_n 2, 1)) rfl
theorem dX12_saved_31 : decode cX12_saved 31 = .ok (.ifCond .ge 10, 3) := dget daX12_saved_0 18 (q := (31, .ifCond .ge 10, 3)) rfl
theorem dX12_saved_34 : decode cX12_saved 34 = .ok (.aload_n 0, 1) := dget daX12_saved_0 19 (q := (34, .aload_n 0, 1)) rfl
theorem dX12_saved_35 : decode cX12_saved 35 = .ok (.bipush (-4), 2) := dget daX12_saved_0 20 (q := (35, .bipush (-4), 2)) rfl
theorem dX12_saved_37 : decode cX12_saved 37 = .ok (.invokevirtual 164, 3) := dget daX12_saved_0 21 (q := (37, .invokevirtual 164, 3)) rfl
theorem dX12_saved_40 : decode cX12_saved 40 = .ok (.ireturn, 1) := dget daX12_saved_0 22 (q := (40, .ireturn, 1)) rfl
theorem dX12_saved_41 : decode cX12_saved 41 = .ok (.iload_n 2, 1) := dget daX12_saved_0 23 (q := (41, .iload_n 2, 1)) rfl
theorem dX12_saved_42 : decode cX12_saved 42 = .ok (.sipush 30000, 3) := dget daX12_saved_0 24 (q := (42, .sipush 30000, 3)) rfl
theorem dX12_saved_45 : decode cX12_saved 45 = .ok (.if_icmp .le 10, 3) := dget daX12_saved_0 25 (q := (45, .if_icmp .le 10, 3)) rfl
theorem dX12_saved_48 : decode cX12_saved 48 = .ok (.aload_n 0, 1) := dget daX12_saved_0 26 (q := (48, .aload_n 0, 1)) rfl
theorem dX12_saved_49 : decode cX12_saved 49 = .ok (.bipush (-6), 2) := dget daX12_saved_0 27 (q := (49, .bipush (-6), 2)) rfl
theorem dX12_saved_51 : decode cX12_saved 51 = .ok (.invokevirtual 164, 3) := dget daX12_saved_0 28 (q := (51, .invokevirtual 164, 3)) rfl
theorem dX12_saved_54 : decode cX12_saved 54 = .ok (.ireturn, 1) := dget daX12_saved_0 29 (q := (54, .ireturn, 1)) rfl
theorem dX12_saved_55 : decode cX12_saved 55 = .ok (.aload_n 0, 1) := dget daX12_saved_0 30 (q := (55, .aload_n 0, 1)) rfl
theorem dX12_saved_56 : decode cX12_saved 56 = .ok (.getfield 34, 3) := dget daX12_saved_0 31 (q := (56, .getfield 34, 3)) rfl
theorem dX12_saved_59 : decode cX12_saved 59 = .ok (.iload_n 1, 1) := dget daX12_saved_0 32 (q := (59, .iload_n 1, 1)) rfl
theorem dX12_saved_60 : decode cX12_saved 60 = .ok (.iaload, 1) := dget daX12_saved_0 33 (q := (60, .iaload, 1)) rfl
theorem dX12_saved_61 : decode cX12_saved 61 = .ok (.aload_n 0, 1) := dget daX12_saved_0 34 (q := (61, .aload_n 0, 1)) rfl
theorem dX12_saved_62 : decode cX12_saved 62 = .ok (.iload_n 1, 1) := dget daX12_saved_0 35 (q := (62, .iload_n 1, 1)) rfl
theorem dX12_saved_63 : decode cX12_saved 63 = .ok (.iconst 1, 1) := dget daX12_saved_0 36 (q := (63, .iconst 1, 1)) rfl
theorem dX12_saved_64 : decode cX12_saved 64 = .ok (.invokevirtual 207, 3) := dget daX12_saved_0 37 (q := (64, .invokevirtual 207, 3)) rfl
theorem dX12_saved_67 : decode cX12_saved 67 = .ok (.iadd, 1) := dget daX12_saved_0 38 (q := (67, .iadd, 1)) rfl
theorem dX12_saved_68 : decode cX12_saved 68 = .ok (.istore_n 3, 1) := dget daX12_saved_0 39 (q := (68, .istore_n 3, 1)) rfl
def tdaX12_saved_1 : List (Nat × (Instr × Nat)) := [(69, .iload_n 2, 1), (70, .iload_n 3, 1), (71, .if_icmp .le 7, 3), (74, .iload_n 2, 1), (75, .goto 4, 3), (78, .iload_n 3, 1), (79, .istore_n 3, 1), (80, .aload_n 0, 1), (81, .iload_n 1, 1), (82, .invokevirtual 193, 3), (85, .iload_n 3, 1), (86, .isub, 1), (87, .invokestatic 187, 3), (90, .ireturn, 1)]
theorem daX12_saved_1 : tdaX12_saved_1.all (fun q => decide (decode cX12_saved q.1 = .ok q.2)) = true := by decide +kernel
theorem dX12_saved_69 : decode cX12_saved 69 = .ok (.iload_n 2, 1) := dget daX12_saved_1 0 (q := (69, .iload_n 2, 1)) rfl
theorem dX12_saved_70 : decode cX12_saved 70 = .ok (.iload_n 3, 1) := dget daX12_saved_1 1 (q := (70, .iload_n 3, 1)) rfl
theorem dX12_saved_71 : decode cX12_saved 71 = .ok (.if_icmp .le 7, 3) := dget daX12_saved_1 2 (q := (71, .if_icmp .le 7, 3)) rfl
theorem dX12_saved_74 : decode cX12_saved 74 = .ok (.iload_n 2, 1) := dget daX12_saved_1 3 (q := (74, .iload_n 2, 1)) rfl
theorem dX12_saved_75 : decode cX12_saved 75 = .ok (.goto 4, 3) := dget daX12_saved_1 4 (q := (75, .goto 4, 3)) rfl
theorem dX12_saved_78 : decode cX12_saved 78 = .ok (.iload_n 3, 1) := dget daX12_saved_1 5 (q := (78, .iload_n 3, 1)) rfl
theorem dX12_saved_79 : decode cX12_saved 79 = .ok (.istore_n 3, 1) := dget daX12_saved_1 6 (q := (79, .istore_n 3, 1)) rfl
theorem dX12_saved_80 : decode cX12_saved 80 = .ok (.aload_n 0, 1) := dget daX12_saved_1 7 (q := (80, .aload_n 0, 1)) rfl
theorem dX12_saved_81 : decode cX12_saved 81 = .ok (.iload_n 1, 1) := dget daX12_saved_1 8 (q := (81, .iload_n 1, 1)) rfl
theorem dX12_saved_82 : decode cX12_saved 82 = .ok (.invokevirtual 193, 3) := dget daX12_saved_1 9 (q := (82, .invokevirtual 193, 3)) rfl
theorem dX12_saved_85 : decode cX12_saved 85 = .ok (.iload_n 3, 1) := dget daX12_saved_1 10 (q := (85, .iload_n 3, 1)) rfl
theorem dX12_saved_86 : decode cX12_saved 86 = .ok (.isub, 1) := dget daX12_saved_1 11 (q := (86, .isub, 1)) rfl
theorem dX12_saved_87 : decode cX12_saved 87 = .ok (.invokestatic 187, 3) := dget daX12_saved_1 12 (q := (87, .invokestatic 187, 3)) rfl
theorem dX12_saved_90 : decode cX12_saved 90 = .ok (.ireturn, 1) := dget daX12_saved_1 13 (q := (90, .ireturn, 1)) rfl
def tdaX12_isTraveller_0 : List (Nat × (Instr × Nat)) := [(0, .iload_n 1, 1), (1, .iconst 0, 1), (2, .aload_n 0, 1), (3, .getfield 223, 3), (6, .iconst 1, 1), (7, .isub, 1), (8, .invokestatic 156, 3), (11, .ireturn, 1)]
theorem daX12_isTraveller_0 : tdaX12_isTraveller_0.all (fun q => decide (decode cX12_isTraveller q.1 = .ok q.2)) = true := by decide +kernel
theorem dX12_isTraveller_0 : decode cX12_isTraveller 0 = .ok (.iload_n 1, 1) := dget daX12_isTraveller_0 0 (q := (0, .iload_n 1, 1)) rfl
theorem dX12_isTraveller_1 : decode cX12_isTraveller 1 = .ok (.iconst 0, 1) := dget daX12_isTraveller_0 1 (q := (1, .iconst 0, 1)) rfl
theorem dX12_isTraveller_2 : decode cX12_isTraveller 2 = .ok (.aload_n 0, 1) := dget daX12_isTraveller_0 2 (q := (2, .aload_n 0, 1)) rfl
theorem dX12_isTraveller_3 : decode cX12_isTraveller 3 = .ok (.getfield 223, 3) := dget daX12_isTraveller_0 3 (q := (3, .getfield 223, 3)) rfl
theorem dX12_isTraveller_6 : decode cX12_isTraveller 6 = .ok (.iconst 1, 1) := dget daX12_isTraveller_0 4 (q := (6, .iconst 1, 1)) rfl
theorem dX12_isTraveller_7 : decode cX12_isTraveller 7 = .ok (.isub, 1) := dget daX12_isTraveller_0 5 (q := (7, .isub, 1)) rfl
theorem dX12_isTraveller_8 : decode cX12_isTraveller 8 = .ok (.invokestatic 156, 3) := dget daX12_isTraveller_0 6 (q := (8, .invokestatic 156, 3)) rfl
theorem dX12_isTraveller_11 : decode cX12_isTraveller 11 = .ok (.ireturn, 1) := dget daX12_isTraveller_0 7 (q := (11, .ireturn, 1)) rfl
def tdaX12_traveller_0 : List (Nat × (Instr × Nat)) := [(0, .aload_n 0, 1), (1, .iload_n 1, 1), (2, .invokevirtual 181, 3), (5, .ifCond .ne 9, 3), (8, .aload_n 0, 1), (9, .iconst (-1), 1), (10, .invokevirtual 164, 3), (13, .ireturn, 1), (14, .aload_n 0, 1), (15, .getfield 223, 3), (18, .bipush 20, 2), (20, .if_icmp .ne 10, 3), (23, .aload_n 0, 1), (24, .bipush (-6), 2), (26, .invokevirtual 164, 3), (29, .ireturn, 1), (30, .aload_n 0, 1), (31, .getfield 62, 3), (34, .iconst 4, 1), (35, .aload_n 0, 1), (36, .getfield 223, 3), (39, .imul, 1), (40, .iload_n 1, 1), (41, .iastore, 1), (42, .aload_n 0, 1), (43, .getfield 65, 3), (46, .aload_n 0, 1), (47, .getfield 223, 3), (50, .iconst 1, 1), (51, .iastore, 1), (52, .aload_n 0, 1), (53, .dup, 1), (54, .getfield 223, 3), (57, .iconst 1, 1), (58, .iadd, 1), (59, .putfield 223, 3), (62, .aload_n 0, 1), (63, .getfield 223, 3), (66, .iconst 1, 1), (67, .isub, 1)]
theorem daX12_traveller_0 : tdaX12_traveller_0.all (fun q => decide (decode cX12_traveller q.1 = .ok q.2)) = true := by decide +kernel
theorem dX12_traveller_0 : decode cX12_traveller 0 = .ok (.aload_n 0, 1) := dget daX12_traveller_0 0 (q := (0, .aload_n 0, 1)) rfl
theorem dX12_traveller_1 : decode cX12_traveller 1 = .ok (.iload_n 1, 1) := dget daX12_traveller_0 1 (q := (1, .iload_n 1, 1)) rfl
theorem dX12_traveller_2 : decode cX12_traveller 2 = .ok (.invokevirtual 181, 3) := dget daX12_traveller_0 2 (q := (2, .invokevirtual 181, 3)) rfl
theorem dX12_traveller_5 : decode cX12_traveller 5 = .ok (.ifCond .ne 9, 3) := dget daX12_traveller_0 3 (q := (5, .ifCond .ne 9, 3)) rfl
theorem dX12_traveller_8 : decode cX12_traveller 8 = .ok (.aload_n 0, 1) := dget daX12_traveller_0 4 (q := (8, .aload_n 0, 1)) rfl
theorem dX12_traveller_9 : decode cX12_traveller 9 = .ok (.iconst (-1), 1) := dget daX12_traveller_0 5 (q := (9, .iconst (-1), 1)) rfl
theorem dX12_traveller_10 : decode cX12_traveller 10 = .ok (.invokevirtual 164, 3) := dget daX12_traveller_0 6 (q := (10, .invokevirtual 164, 3)) rfl
theorem dX12_traveller_13 : decode cX12_traveller 13 = .ok (.ireturn, 1) := dget daX12_traveller_0 7 (q := (13, .ireturn, 1)) rfl
theorem dX12_traveller_14 : decode cX12_traveller 14 = .ok (.aload_n 0, 1) := dget daX12_traveller_0 8 (q := (14, .aload_n 0, 1)) rfl
theorem dX12_traveller_15 : decode cX12_traveller 15 = .ok (.getfield 223, 3) := dget daX12_traveller_0 9 (q := (15, .getfield 223, 3)) rfl
theorem dX12_traveller_18 : decode cX12_traveller 18 = .ok (.bipush 20, 2) := dget daX12_traveller_0 10 (q := (18, .bipush 20, 2)) rfl
theorem dX12_traveller_20 : decode cX12_traveller 20 = .ok (.if_icmp .ne 10, 3) := dget daX12_traveller_0 11 (q := (20, .if_icmp .ne 10, 3)) rfl
theorem dX12_traveller_23 : decode cX12_traveller 23 = .ok (.aload_n 0, 1) := dget daX12_traveller_0 12 (q := (23, .aload_n 0, 1)) rfl
theorem dX12_traveller_24 : decode cX12_traveller 24 = .ok (.bipush (-6), 2) := dget daX12_traveller_0 13 (q := (24, .bipush (-6), 2)) rfl
theorem dX12_traveller_26 : decode cX12_traveller 26 = .ok (.invokevirtual 164, 3) := dget daX12_traveller_0 14 (q := (26, .invokevirtual 164, 3)) rfl
theorem dX12_traveller_29 : decode cX12_traveller 29 = .ok (.ireturn, 1) := dget daX12_traveller_0 15 (q := (29, .ireturn, 1)) rfl
theorem dX12_traveller_30 : decode cX12_traveller 30 = .ok (.aload_n 0, 1) := dget daX12_traveller_0 16 (q := (30, .aload_n 0, 1)) rfl
theorem dX12_traveller_31 : decode cX12_traveller 31 = .ok (.getfield 62, 3) := dget daX12_traveller_0 17 (q := (31, .getfield 62, 3)) rfl
theorem dX12_traveller_34 : decode cX12_traveller 34 = .ok (.iconst 4, 1) := dget daX12_traveller_0 18 (q := (34, .iconst 4, 1)) rfl
theorem dX12_traveller_35 : decode cX12_traveller 35 = .ok (.aload_n 0, 1) := dget daX12_traveller_0 19 (q := (35, .aload_n 0, 1)) rfl
theorem dX12_traveller_36 : decode cX12_traveller 36 = .ok (.getfield 223, 3) := dget daX12_traveller_0 20 (q := (36, .getfield 223, 3)) rfl
theorem dX12_traveller_39 : decode cX12_traveller 39 = .ok (.imul, 1) := dget daX12_traveller_0 21 (q := (39, .imul, 1)) rfl
theorem dX12_traveller_40 : decode cX12_traveller 40 = .ok (.iload_n 1, 1) := dget daX12_traveller_0 22 (q := (40, .iload_n 1, 1)) rfl
theorem dX12_traveller_41 : decode cX12_traveller 41 = .ok (.iastore, 1) := dget daX12_traveller_0 23 (q := (41, .iastore, 1)) rfl
theorem dX12_traveller_42 : decode cX12_traveller 42 = .ok (.aload_n 0, 1) := dget daX12_traveller_0 24 (q := (42, .aload_n 0, 1)) rfl
theorem dX12_traveller_43 : decode cX12_traveller 43 = .ok (.getfield 65, 3) := dget daX12_traveller_0 25 (q := (43, .getfield 65, 3)) rfl
theorem dX12_traveller_46 : decode cX12_traveller 46 = .ok (.aload_n 0, 1) := dget daX12_traveller_0 26 (q := (46, .aload_n 0, 1)) rfl
theorem dX12_traveller_47 : decode cX12_traveller 47 = .ok (.getfield 223, 3) := dget daX12_traveller_0 27 (q := (47, .getfield 223, 3)) rfl
theorem dX12_traveller_50 : decode cX12_traveller 50 = .ok (.iconst 1, 1) := dget daX12_traveller_0 28 (q := (50, .iconst 1, 1)) rfl
theorem dX12_traveller_51 : decode cX12_traveller 51 = .ok (.iastore, 1) := dget daX12_traveller_0 29 (q := (51, .iastore, 1)) rfl
theorem dX12_traveller_52 : decode cX12_traveller 52 = .ok (.aload_n 0, 1) := dget daX12_traveller_0 30 (q := (52, .aload_n 0, 1)) rfl
theorem dX12_traveller_53 : decode cX12_traveller 53 = .ok (.dup, 1) := dget daX12_traveller_0 31 (q := (53, .dup, 1)) rfl
theorem dX12_traveller_54 : decode cX12_traveller 54 = .ok (.getfield 223, 3) := dget daX12_traveller_0 32 (q := (54, .getfield 223, 3)) rfl
theorem dX12_traveller_57 : decode cX12_traveller 57 = .ok (.iconst 1, 1) := dget daX12_traveller_0 33 (q := (57, .iconst 1, 1)) rfl
theorem dX12_traveller_58 : decode cX12_traveller 58 = .ok (.iadd, 1) := dget daX12_traveller_0 34 (q := (58, .iadd, 1)) rfl
theorem dX12_traveller_59 : decode cX12_traveller 59 = .ok (.putfield 223, 3) := dget daX12_traveller_0 35 (q := (59, .putfield 223, 3)) rfl
theorem dX12_traveller_62 : decode cX12_traveller 62 = .ok (.aload_n 0, 1) := dget daX12_traveller_0 36 (q := (62, .aload_n 0, 1)) rfl
theorem dX12_traveller_63 : decode cX12_traveller 63 = .ok (.getfield 223, 3) := dget daX12_traveller_0 37 (q := (63, .getfield 223, 3)) rfl
theorem dX12_traveller_66 : decode cX12_traveller 66 = .ok (.iconst 1, 1) := dget daX12_traveller_0 38 (q := (66, .iconst 1, 1)) rfl
theorem dX12_traveller_67 : decode cX12_traveller 67 = .ok (.isub, 1) := dget daX12_traveller_0 39 (q := (67, .isub, 1)) rfl
def tdaX12_traveller_1 : List (Nat × (Instr × Nat)) := [(68, .ireturn, 1)]
theorem daX12_traveller_1 : tdaX12_traveller_1.all (fun q => decide (decode cX12_traveller q.1 = .ok q.2)) = true := by decide +kernel
theorem dX12_traveller_68 : decode cX12_traveller 68 = .ok (.ireturn, 1) := dget daX12_traveller_1 0 (q := (68, .ireturn, 1)) rfl
def tdaX12_then_0 : List (Nat × (Instr × Nat)) := [(0, .aload_n 0, 1), (1, .iload_n 1, 1), (2, .invokevirtual 226, 3), (5, .ifCond .eq 11, 3), (8, .aload_n 0, 1), (9, .iload_n 2, 1), (10, .invokevirtual 181, 3), (13, .ifCond .ne 9, 3), (16, .aload_n 0, 1), (17, .iconst (-1), 1), (18, .invokevirtual 164, 3), (21, .ireturn, 1), (22, .aload_n 0, 1), (23, .getfield 62, 3), (26, .iconst 4, 1), (27, .iload_n 1, 1), (28, .imul, 1), (29, .aload_n 0, 1), (30, .getfield 65, 3), (33, .iload_n 1, 1), (34, .iaload, 1), (35, .iadd, 1), (36, .iconst 1, 1), (37, .isub, 1), (38, .iaload, 1), (39, .istore_n 3, 1), (40, .aload_n 0, 1), (41, .getfield 22, 3), (44, .iload_n 2, 1), (45, .iaload, 1), (46, .aload_n 0, 1), (47, .getfield 25, 3), (50, .iload_n 3, 1), (51, .iaload, 1), (52, .if_icmp .ne 25, 3), (55, .aload_n 0, 1), (56, .getfield 34, 3), (59, .iload_n 2, 1), (60, .iaload, 1), (61, .aload_n 0, 1)]
theorem daX12_then_0 : tdaX12_then_0.all (fun q => decide (decode cX12_then q.1 = .ok q.2)) = true := by decide +kernel
theorem dX12_then_0 : decode cX12_then 0 = .ok (.aload_n 0, 1) := dget daX12_then_0 0 (q := (0, .aload_n 0, 1)) rfl
theorem dX12_then_1 : decode cX12_then 1 = .ok (.iload_n 1, 1) := dget daX12_then_0 1 (q := (1, .iload_n 1, 1)) rfl
theorem dX12_then_2 : decode cX12_then 2 = .ok (.invokevirtual 226, 3) := dget daX12_then_0 2 (q := (2, .invokevirtual 226, 3)) rfl
theorem dX12_then_5 : decode cX12_then 5 = .ok (.ifCond .eq 11, 3) := dget daX12_then_0 3 (q := (5, .ifCond .eq 11, 3)) rfl
theorem dX12_then_8 : decode cX12_then 8 = .ok (.aload_n 0, 1) := dget daX12_then_0 4 (q := (8, .aload_n 0, 1)) rfl
theorem dX12_then_9 : decode cX12_then 9 = .ok (.iload_n 2, 1) := dget daX12_then_0 5 (q := (9, .iload_n 2, 1)) rfl
theorem dX12_then_10 : decode cX12_then 10 = .ok (.invokevirtual 181, 3) := dget daX12_then_0 6 (q := (10, .invokevirtual 181, 3)) rfl
theorem dX12_then_13 : decode cX12_then 13 = .ok (.ifCond .ne 9, 3) := dget daX12_then_0 7 (q := (13, .ifCond .ne 9, 3)) rfl
theorem dX12_then_16 : decode cX12_then 16 = .ok (.aload_n 0, 1) := dget daX12_then_0 8 (q := (16, .aload_n 0, 1)) rfl
theorem dX12_then_17 : decode cX12_then 17 = .ok (.iconst (-1), 1) := dget daX12_then_0 9 (q := (17, .iconst (-1), 1)) rfl
theorem dX12_then_18 : decode cX12_then 18 = .ok (.invokevirtual 164, 3) := dget daX12_then_0 10 (q := (18, .invokevirtual 164, 3)) rfl
theorem dX12_then_21 : decode cX12_then 21 = .ok (.ireturn, 1) := dget daX12_then_0 11 (q := (21, .ireturn, 1)) rfl
theorem dX12_then_22 : decode cX12_then 22 = .ok (.aload_n 0, 1) := dget daX12_then_0 12 (q := (22, .aload_n 0, 1)) rfl
theorem dX12_then_23 : decode cX12_then 23 = .ok (.getfield 62, 3) := dget daX12_then_0 13 (q := (23, .getfield 62, 3)) rfl
theorem dX12_then_26 : decode cX12_then 26 = .ok (.iconst 4, 1) := dget daX12_then_0 14 (q := (26, .iconst 4, 1)) rfl
theorem dX12_then_27 : decode cX12_then 27 = .ok (.iload_n 1, 1) := dget daX12_then_0 15 (q := (27, .iload_n 1, 1)) rfl
theorem dX12_then_28 : decode cX12_then 28 = .ok (.imul, 1) := dget daX12_then_0 16 (q := (28, .imul, 1)) rfl
theorem dX12_then_29 : decode cX12_then 29 = .ok (.aload_n 0, 1) := dget daX12_then_0 17 (q := (29, .aload_n 0, 1)) rfl
theorem dX12_then_30 : decode cX12_then 30 = .ok (.getfield 65, 3) := dget daX12_then_0 18 (q := (30, .getfield 65, 3)) rfl
theorem dX12_then_33 : decode cX12_then 33 = .ok (.iload_n 1, 1) := dget daX12_then_0 19 (q := (33, .iload_n 1, 1)) rfl
theorem dX12_then_34 : decode cX12_then 34 = .ok (.iaload, 1) := dget daX12_then_0 20 (q := (34, .iaload, 1)) rfl
theorem dX12_then_35 : decode cX12_then 35 = .ok (.iadd, 1) := dget daX12_then_0 21 (q := (35, .iadd, 1)) rfl
theorem dX12_then_36 : decode cX12_then 36 = .ok (.iconst 1, 1) := dget daX12_then_0 22 (q := (36, .iconst 1, 1)) rfl
theorem dX12_then_37 : decode cX12_then 37 = .ok (.isub, 1) := dget daX12_then_0 23 (q := (37, .isub, 1)) rfl
theorem dX12_then_38 : decode cX12_then 38 = .ok (.iaload, 1) := dget daX12_then_0 24 (q := (38, .iaload, 1)) rfl
theorem dX12_then_39 : decode cX12_then 39 = .ok (.istore_n 3, 1) := dget daX12_then_0 25 (q := (39, .istore_n 3, 1)) rfl
theorem dX12_then_40 : decode cX12_then 40 = .ok (.aload_n 0, 1) := dget daX12_then_0 26 (q := (40, .aload_n 0, 1)) rfl
theorem dX12_then_41 : decode cX12_then 41 = .ok (.getfield 22, 3) := dget daX12_then_0 27 (q := (41, .getfield 22, 3)) rfl
theorem dX12_then_44 : decode cX12_then 44 = .ok (.iload_n 2, 1) := dget daX12_then_0 28 (q := (44, .iload_n 2, 1)) rfl
theorem dX12_then_45 : decode cX12_then 45 = .ok (.iaload, 1) := dget daX12_then_0 29 (q := (45, .iaload, 1)) rfl
theorem dX12_then_46 : decode cX12_then 46 = .ok (.aload_n 0, 1) := dget daX12_then_0 30 (q := (46, .aload_n 0, 1)) rfl
theorem dX12_then_47 : decode cX12_then 47 = .ok (.getfield 25, 3) := dget daX12_then_0 31 (q := (47, .getfield 25, 3)) rfl
theorem dX12_then_50 : decode cX12_then 50 = .ok (.iload_n 3, 1) := dget daX12_then_0 32 (q := (50, .iload_n 3, 1)) rfl
theorem dX12_then_51 : decode cX12_then 51 = .ok (.iaload, 1) := dget daX12_then_0 33 (q := (51, .iaload, 1)) rfl
theorem dX12_then_52 : decode cX12_then 52 = .ok (.if_icmp .ne 25, 3) := dget daX12_then_0 34 (q := (52, .if_icmp .ne 25, 3)) rfl
theorem dX12_then_55 : decode cX12_then 55 = .ok (.aload_n 0, 1) := dget daX12_then_0 35 (q := (55, .aload_n 0, 1)) rfl
theorem dX12_then_56 : decode cX12_then 56 = .ok (.getfield 34, 3) := dget daX12_then_0 36 (q := (56, .getfield 34, 3)) rfl
theorem dX12_then_59 : decode cX12_then 59 = .ok (.iload_n 2, 1) := dget daX12_then_0 37 (q := (59, .iload_n 2, 1)) rfl
theorem dX12_then_60 : decode cX12_then 60 = .ok (.iaload, 1) := dget daX12_then_0 38 (q := (60, .iaload, 1)) rfl
theorem dX12_then_61 : decode cX12_then 61 = .ok (.aload_n 0, 1) := dget daX12_then_0 39 (q := (61, .aload_n 0, 1)) rfl
def tdaX12_then_1 : List (Nat × (Instr × Nat)) := [(62, .getfield 37, 3), (65, .iload_n 3, 1), (66, .iaload, 1), (67, .aload_n 0, 1), (68, .getfield 53, 3), (71, .iconst 2, 1), (72, .iaload, 1), (73, .iadd, 1), (74, .if_icmp .ge 10, 3), (77, .aload_n 0, 1), (78, .bipush (-3), 2), (80, .invokevirtual 164, 3), (83, .ireturn, 1), (84, .aload_n 0, 1), (85, .getfield 65, 3), (88, .iload_n 1, 1), (89, .iaload, 1), (90, .iconst 4, 1), (91, .if_icmp .ne 10, 3), (94, .aload_n 0, 1), (95, .bipush (-6), 2), (97, .invokevirtual 164, 3), (100, .ireturn, 1), (101, .aload_n 0, 1), (102, .getfield 62, 3), (105, .iconst 4, 1), (106, .iload_n 1, 1), (107, .imul, 1), (108, .aload_n 0, 1), (109, .getfield 65, 3), (112, .iload_n 1, 1), (113, .iaload, 1), (114, .iadd, 1), (115, .iload_n 2, 1), (116, .iastore, 1), (117, .aload_n 0, 1), (118, .getfield 65, 3), (121, .iload_n 1, 1), (122, .dup2, 1), (123, .iaload, 1)]
theorem daX12_then_1 : tdaX12_then_1.all (fun q => decide (decode cX12_then q.1 = .ok q.2)) = true := by decide +kernel
theorem dX12_then_62 : decode cX12_then 62 = .ok (.getfield 37, 3) := dget daX12_then_1 0 (q := (62, .getfield 37, 3)) rfl
theorem dX12_then_65 : decode cX12_then 65 = .ok (.iload_n 3, 1) := dget daX12_then_1 1 (q := (65, .iload_n 3, 1)) rfl
theorem dX12_then_66 : decode cX12_then 66 = .ok (.iaload, 1) := dget daX12_then_1 2 (q := (66, .iaload, 1)) rfl
theorem dX12_then_67 : decode cX12_then 67 = .ok (.aload_n 0, 1) := dget daX12_then_1 3 (q := (67, .aload_n 0, 1)) rfl
theorem dX12_then_68 : decode cX12_then 68 = .ok (.getfield 53, 3) := dget daX12_then_1 4 (q := (68, .getfield 53, 3)) rfl
theorem dX12_then_71 : decode cX12_then 71 = .ok (.iconst 2, 1) := dget daX12_then_1 5 (q := (71, .iconst 2, 1)) rfl
theorem dX12_then_72 : decode cX12_then 72 = .ok (.iaload, 1) := dget daX12_then_1 6 (q := (72, .iaload, 1)) rfl
theorem dX12_then_73 : decode cX12_then 73 = .ok (.iadd, 1) := dget daX12_then_1 7 (q := (73, .iadd, 1)) rfl
theorem dX12_then_74 : decode cX12_then 74 = .ok (.if_icmp .ge 10, 3) := dget daX12_then_1 8 (q := (74, .if_icmp .ge 10, 3)) rfl
theorem dX12_then_77 : decode cX12_then 77 = .ok (.aload_n 0, 1) := dget daX12_then_1 9 (q := (77, .aload_n 0, 1)) rfl
theorem dX12_then_78 : decode cX12_then 78 = .ok (.bipush (-3), 2) := dget daX12_then_1 10 (q := (78, .bipush (-3), 2)) rfl
theorem dX12_then_80 : decode cX12_then 80 = .ok (.invokevirtual 164, 3) := dget daX12_then_1 11 (q := (80, .invokevirtual 164, 3)) rfl
theorem dX12_then_83 : decode cX12_then 83 = .ok (.ireturn, 1) := dget daX12_then_1 12 (q := (83, .ireturn, 1)) rfl
theorem dX12_then_84 : decode cX12_then 84 = .ok (.aload_n 0, 1) := dget daX12_then_1 13 (q := (84, .aload_n 0, 1)) rfl
theorem dX12_then_85 : decode cX12_then 85 = .ok (.getfield 65, 3) := dget daX12_then_1 14 (q := (85, .getfield 65, 3)) rfl
theorem dX12_then_88 : decode cX12_then 88 = .ok (.iload_n 1, 1) := dget daX12_then_1 15 (q := (88, .iload_n 1, 1)) rfl
theorem dX12_then_89 : decode cX12_then 89 = .ok (.iaload, 1) := dget daX12_then_1 16 (q := (89, .iaload, 1)) rfl
theorem dX12_then_90 : decode cX12_then 90 = .ok (.iconst 4, 1) := dget daX12_then_1 17 (q := (90, .iconst 4, 1)) rfl
theorem dX12_then_91 : decode cX12_then 91 = .ok (.if_icmp .ne 10, 3) := dget daX12_then_1 18 (q := (91, .if_icmp .ne 10, 3)) rfl
theorem dX12_then_94 : decode cX12_then 94 = .ok (.aload_n 0, 1) := dget daX12_then_1 19 (q := (94, .aload_n 0, 1)) rfl
theorem dX12_then_95 : decode cX12_then 95 = .ok (.bipush (-6), 2) := dget daX12_then_1 20 (q := (95, .bipush (-6), 2)) rfl
theorem dX12_then_97 : decode cX12_then 97 = .ok (.invokevirtual 164, 3) := dget daX12_then_1 21 (q := (97, .invokevirtual 164, 3)) rfl
theorem dX12_then_100 : decode cX12_then 100 = .ok (.ireturn, 1) := dget daX12_then_1 22 (q := (100, .ireturn, 1)) rfl
theorem dX12_then_101 : decode cX12_then 101 = .ok (.aload_n 0, 1) := dget daX12_then_1 23 (q := (101, .aload_n 0, 1)) rfl
theorem dX12_then_102 : decode cX12_then 102 = .ok (.getfield 62, 3) := dget daX12_then_1 24 (q := (102, .getfield 62, 3)) rfl
theorem dX12_then_105 : decode cX12_then 105 = .ok (.iconst 4, 1) := dget daX12_then_1 25 (q := (105, .iconst 4, 1)) rfl
theorem dX12_then_106 : decode cX12_then 106 = .ok (.iload_n 1, 1) := dget daX12_then_1 26 (q := (106, .iload_n 1, 1)) rfl
theorem dX12_then_107 : decode cX12_then 107 = .ok (.imul, 1) := dget daX12_then_1 27 (q := (107, .imul, 1)) rfl
theorem dX12_then_108 : decode cX12_then 108 = .ok (.aload_n 0, 1) := dget daX12_then_1 28 (q := (108, .aload_n 0, 1)) rfl
theorem dX12_then_109 : decode cX12_then 109 = .ok (.getfield 65, 3) := dget daX12_then_1 29 (q := (109, .getfield 65, 3)) rfl
theorem dX12_then_112 : decode cX12_then 112 = .ok (.iload_n 1, 1) := dget daX12_then_1 30 (q := (112, .iload_n 1, 1)) rfl
theorem dX12_then_113 : decode cX12_then 113 = .ok (.iaload, 1) := dget daX12_then_1 31 (q := (113, .iaload, 1)) rfl
theorem dX12_then_114 : decode cX12_then 114 = .ok (.iadd, 1) := dget daX12_then_1 32 (q := (114, .iadd, 1)) rfl
theorem dX12_then_115 : decode cX12_then 115 = .ok (.iload_n 2, 1) := dget daX12_then_1 33 (q := (115, .iload_n 2, 1)) rfl
theorem dX12_then_116 : decode cX12_then 116 = .ok (.iastore, 1) := dget daX12_then_1 34 (q := (116, .iastore, 1)) rfl
theorem dX12_then_117 : decode cX12_then 117 = .ok (.aload_n 0, 1) := dget daX12_then_1 35 (q := (117, .aload_n 0, 1)) rfl
theorem dX12_then_118 : decode cX12_then 118 = .ok (.getfield 65, 3) := dget daX12_then_1 36 (q := (118, .getfield 65, 3)) rfl
theorem dX12_then_121 : decode cX12_then 121 = .ok (.iload_n 1, 1) := dget daX12_then_1 37 (q := (121, .iload_n 1, 1)) rfl
theorem dX12_then_122 : decode cX12_then 122 = .ok (.dup2, 1) := dget daX12_then_1 38 (q := (122, .dup2, 1)) rfl
theorem dX12_then_123 : decode cX12_then 123 = .ok (.iaload, 1) := dget daX12_then_1 39 (q := (123, .iaload, 1)) rfl
def tdaX12_then_2 : List (Nat × (Instr × Nat)) := [(124, .iconst 1, 1), (125, .iadd, 1), (126, .iastore, 1), (127, .aload_n 0, 1), (128, .getfield 65, 3), (131, .iload_n 1, 1), (132, .iaload, 1), (133, .ireturn, 1)]
theorem daX12_then_2 : tdaX12_then_2.all (fun q => decide (decode cX12_then q.1 = .ok q.2)) = true := by decide +kernel
theorem dX12_then_124 : decode cX12_then 124 = .ok (.iconst 1, 1) := dget daX12_then_2 0 (q := (124, .iconst 1, 1)) rfl
theorem dX12_then_125 : decode cX12_then 125 = .ok (.iadd, 1) := dget daX12_then_2 1 (q := (125, .iadd, 1)) rfl
theorem dX12_then_126 : decode cX12_then 126 = .ok (.iastore, 1) := dget daX12_then_2 2 (q := (126, .iastore, 1)) rfl
theorem dX12_then_127 : decode cX12_then 127 = .ok (.aload_n 0, 1) := dget daX12_then_2 3 (q := (127, .aload_n 0, 1)) rfl
theorem dX12_then_128 : decode cX12_then 128 = .ok (.getfield 65, 3) := dget daX12_then_2 4 (q := (128, .getfield 65, 3)) rfl
theorem dX12_then_131 : decode cX12_then 131 = .ok (.iload_n 1, 1) := dget daX12_then_2 5 (q := (131, .iload_n 1, 1)) rfl
theorem dX12_then_132 : decode cX12_then 132 = .ok (.iaload, 1) := dget daX12_then_2 6 (q := (132, .iaload, 1)) rfl
theorem dX12_then_133 : decode cX12_then 133 = .ok (.ireturn, 1) := dget daX12_then_2 7 (q := (133, .ireturn, 1)) rfl
def tdaX12_firstLeg_0 : List (Nat × (Instr × Nat)) := [(0, .aload_n 0, 1), (1, .getfield 62, 3), (4, .iconst 4, 1), (5, .iload_n 1, 1), (6, .imul, 1), (7, .iaload, 1), (8, .ireturn, 1)]
theorem daX12_firstLeg_0 : tdaX12_firstLeg_0.all (fun q => decide (decode cX12_firstLeg q.1 = .ok q.2)) = true := by decide +kernel
theorem dX12_firstLeg_0 : decode cX12_firstLeg 0 = .ok (.aload_n 0, 1) := dget daX12_firstLeg_0 0 (q := (0, .aload_n 0, 1)) rfl
theorem dX12_firstLeg_1 : decode cX12_firstLeg 1 = .ok (.getfield 62, 3) := dget daX12_firstLeg_0 1 (q := (1, .getfield 62, 3)) rfl
theorem dX12_firstLeg_4 : decode cX12_firstLeg 4 = .ok (.iconst 4, 1) := dget daX12_firstLeg_0 2 (q := (4, .iconst 4, 1)) rfl
theorem dX12_firstLeg_5 : decode cX12_firstLeg 5 = .ok (.iload_n 1, 1) := dget daX12_firstLeg_0 3 (q := (5, .iload_n 1, 1)) rfl
theorem dX12_firstLeg_6 : decode cX12_firstLeg 6 = .ok (.imul, 1) := dget daX12_firstLeg_0 4 (q := (6, .imul, 1)) rfl
theorem dX12_firstLeg_7 : decode cX12_firstLeg 7 = .ok (.iaload, 1) := dget daX12_firstLeg_0 5 (q := (7, .iaload, 1)) rfl
theorem dX12_firstLeg_8 : decode cX12_firstLeg 8 = .ok (.ireturn, 1) := dget daX12_firstLeg_0 6 (q := (8, .ireturn, 1)) rfl
def tdaX12_lastLeg_0 : List (Nat × (Instr × Nat)) := [(0, .aload_n 0, 1), (1, .getfield 62, 3), (4, .iconst 4, 1), (5, .iload_n 1, 1), (6, .imul, 1), (7, .aload_n 0, 1), (8, .getfield 65, 3), (11, .iload_n 1, 1), (12, .iaload, 1), (13, .iadd, 1), (14, .iconst 1, 1), (15, .isub, 1), (16, .iaload, 1), (17, .ireturn, 1)]
theorem daX12_lastLeg_0 : tdaX12_lastLeg_0.all (fun q => decide (decode cX12_lastLeg q.1 = .ok q.2)) = true := by decide +kernel
theorem dX12_lastLeg_0 : decode cX12_lastLeg 0 = .ok (.aload_n 0, 1) := dget daX12_lastLeg_0 0 (q := (0, .aload_n 0, 1)) rfl
theorem dX12_lastLeg_1 : decode cX12_lastLeg 1 = .ok (.getfield 62, 3) := dget daX12_lastLeg_0 1 (q := (1, .getfield 62, 3)) rfl
theorem dX12_lastLeg_4 : decode cX12_lastLeg 4 = .ok (.iconst 4, 1) := dget daX12_lastLeg_0 2 (q := (4, .iconst 4, 1)) rfl
theorem dX12_lastLeg_5 : decode cX12_lastLeg 5 = .ok (.iload_n 1, 1) := dget daX12_lastLeg_0 3 (q := (5, .iload_n 1, 1)) rfl
theorem dX12_lastLeg_6 : decode cX12_lastLeg 6 = .ok (.imul, 1) := dget daX12_lastLeg_0 4 (q := (6, .imul, 1)) rfl
theorem dX12_lastLeg_7 : decode cX12_lastLeg 7 = .ok (.aload_n 0, 1) := dget daX12_lastLeg_0 5 (q := (7, .aload_n 0, 1)) rfl
theorem dX12_lastLeg_8 : decode cX12_lastLeg 8 = .ok (.getfield 65, 3) := dget daX12_lastLeg_0 6 (q := (8, .getfield 65, 3)) rfl
theorem dX12_lastLeg_11 : decode cX12_lastLeg 11 = .ok (.iload_n 1, 1) := dget daX12_lastLeg_0 7 (q := (11, .iload_n 1, 1)) rfl
theorem dX12_lastLeg_12 : decode cX12_lastLeg 12 = .ok (.iaload, 1) := dget daX12_lastLeg_0 8 (q := (12, .iaload, 1)) rfl
theorem dX12_lastLeg_13 : decode cX12_lastLeg 13 = .ok (.iadd, 1) := dget daX12_lastLeg_0 9 (q := (13, .iadd, 1)) rfl
theorem dX12_lastLeg_14 : decode cX12_lastLeg 14 = .ok (.iconst 1, 1) := dget daX12_lastLeg_0 10 (q := (14, .iconst 1, 1)) rfl
theorem dX12_lastLeg_15 : decode cX12_lastLeg 15 = .ok (.isub, 1) := dget daX12_lastLeg_0 11 (q := (15, .isub, 1)) rfl
theorem dX12_lastLeg_16 : decode cX12_lastLeg 16 = .ok (.iaload, 1) := dget daX12_lastLeg_0 12 (q := (16, .iaload, 1)) rfl
theorem dX12_lastLeg_17 : decode cX12_lastLeg 17 = .ok (.ireturn, 1) := dget daX12_lastLeg_0 13 (q := (17, .ireturn, 1)) rfl
def tdaX12_missedOf_0 : List (Nat × (Instr × Nat)) := [(0, .iconst 0, 1), (1, .istore_n 2, 1), (2, .iload_n 2, 1), (3, .aload_n 0, 1), (4, .getfield 65, 3), (7, .iload_n 1, 1), (8, .iaload, 1), (9, .if_icmp .ge 66, 3), (12, .aload_n 0, 1), (13, .getfield 62, 3), (16, .iconst 4, 1), (17, .iload_n 1, 1), (18, .imul, 1), (19, .iload_n 2, 1), (20, .iadd, 1), (21, .iaload, 1), (22, .istore_n 3, 1), (23, .aload_n 0, 1), (24, .getfield 40, 3), (27, .iload_n 3, 1), (28, .baload, 1), (29, .ifCond .eq 38, 3), (32, .iload_n 2, 1), (33, .ifCond .le 36, 3), (36, .aload_n 0, 1), (37, .iload_n 3, 1), (38, .invokevirtual 193, 3), (41, .aload_n 0, 1), (42, .aload_n 0, 1), (43, .getfield 62, 3), (46, .iconst 4, 1), (47, .iload_n 1, 1), (48, .imul, 1), (49, .iload_n 2, 1), (50, .iadd, 1), (51, .iconst 1, 1), (52, .isub, 1), (53, .iaload, 1), (54, .invokevirtual 190, 3), (57, .isub, 1)]
theorem daX12_missedOf_0 : tdaX12_missedOf_0.all (fun q => decide (decode cX12_missedOf q.1 = .ok q.2)) = true := by decide +kernel
theorem dX12_missedOf_0 : decode cX12_missedOf 0 = .ok (.iconst 0, 1) := dget daX12_missedOf_0 0 (q := (0, .iconst 0, 1)) rfl
theorem dX12_missedOf_1 : decode cX12_missedOf 1 = .ok (.istore_n 2, 1) := dget daX12_missedOf_0 1 (q := (1, .istore_n 2, 1)) rfl
theorem dX12_missedOf_2 : decode cX12_missedOf 2 = .ok (.iload_n 2, 1) := dget daX12_missedOf_0 2 (q := (2, .iload_n 2, 1)) rfl
theorem dX12_missedOf_3 : decode cX12_missedOf 3 = .ok (.aload_n 0, 1) := dget daX12_missedOf_0 3 (q := (3, .aload_n 0, 1)) rfl
theorem dX12_missedOf_4 : decode cX12_missedOf 4 = .ok (.getfield 65, 3) := dget daX12_missedOf_0 4 (q := (4, .getfield 65, 3)) rfl
theorem dX12_missedOf_7 : decode cX12_missedOf 7 = .ok (.iload_n 1, 1) := dget daX12_missedOf_0 5 (q := (7, .iload_n 1, 1)) rfl
theorem dX12_missedOf_8 : decode cX12_missedOf 8 = .ok (.iaload, 1) := dget daX12_missedOf_0 6 (q := (8, .iaload, 1)) rfl
theorem dX12_missedOf_9 : decode cX12_missedOf 9 = .ok (.if_icmp .ge 66, 3) := dget daX12_missedOf_0 7 (q := (9, .if_icmp .ge 66, 3)) rfl
theorem dX12_missedOf_12 : decode cX12_missedOf 12 = .ok (.aload_n 0, 1) := dget daX12_missedOf_0 8 (q := (12, .aload_n 0, 1)) rfl
theorem dX12_missedOf_13 : decode cX12_missedOf 13 = .ok (.getfield 62, 3) := dget daX12_missedOf_0 9 (q := (13, .getfield 62, 3)) rfl
theorem dX12_missedOf_16 : decode cX12_missedOf 16 = .ok (.iconst 4, 1) := dget daX12_missedOf_0 10 (q := (16, .iconst 4, 1)) rfl
theorem dX12_missedOf_17 : decode cX12_missedOf 17 = .ok (.iload_n 1, 1) := dget daX12_missedOf_0 11 (q := (17, .iload_n 1, 1)) rfl
theorem dX12_missedOf_18 : decode cX12_missedOf 18 = .ok (.imul, 1) := dget daX12_missedOf_0 12 (q := (18, .imul, 1)) rfl
theorem dX12_missedOf_19 : decode cX12_missedOf 19 = .ok (.iload_n 2, 1) := dget daX12_missedOf_0 13 (q := (19, .iload_n 2, 1)) rfl
theorem dX12_missedOf_20 : decode cX12_missedOf 20 = .ok (.iadd, 1) := dget daX12_missedOf_0 14 (q := (20, .iadd, 1)) rfl
theorem dX12_missedOf_21 : decode cX12_missedOf 21 = .ok (.iaload, 1) := dget daX12_missedOf_0 15 (q := (21, .iaload, 1)) rfl
theorem dX12_missedOf_22 : decode cX12_missedOf 22 = .ok (.istore_n 3, 1) := dget daX12_missedOf_0 16 (q := (22, .istore_n 3, 1)) rfl
theorem dX12_missedOf_23 : decode cX12_missedOf 23 = .ok (.aload_n 0, 1) := dget daX12_missedOf_0 17 (q := (23, .aload_n 0, 1)) rfl
theorem dX12_missedOf_24 : decode cX12_missedOf 24 = .ok (.getfield 40, 3) := dget daX12_missedOf_0 18 (q := (24, .getfield 40, 3)) rfl
theorem dX12_missedOf_27 : decode cX12_missedOf 27 = .ok (.iload_n 3, 1) := dget daX12_missedOf_0 19 (q := (27, .iload_n 3, 1)) rfl
theorem dX12_missedOf_28 : decode cX12_missedOf 28 = .ok (.baload, 1) := dget daX12_missedOf_0 20 (q := (28, .baload, 1)) rfl
theorem dX12_missedOf_29 : decode cX12_missedOf 29 = .ok (.ifCond .eq 38, 3) := dget daX12_missedOf_0 21 (q := (29, .ifCond .eq 38, 3)) rfl
theorem dX12_missedOf_32 : decode cX12_missedOf 32 = .ok (.iload_n 2, 1) := dget daX12_missedOf_0 22 (q := (32, .iload_n 2, 1)) rfl
theorem dX12_missedOf_33 : decode cX12_missedOf 33 = .ok (.ifCond .le 36, 3) := dget daX12_missedOf_0 23 (q := (33, .ifCond .le 36, 3)) rfl
theorem dX12_missedOf_36 : decode cX12_missedOf 36 = .ok (.aload_n 0, 1) := dget daX12_missedOf_0 24 (q := (36, .aload_n 0, 1)) rfl
theorem dX12_missedOf_37 : decode cX12_missedOf 37 = .ok (.iload_n 3, 1) := dget daX12_missedOf_0 25 (q := (37, .iload_n 3, 1)) rfl
theorem dX12_missedOf_38 : decode cX12_missedOf 38 = .ok (.invokevirtual 193, 3) := dget daX12_missedOf_0 26 (q := (38, .invokevirtual 193, 3)) rfl
theorem dX12_missedOf_41 : decode cX12_missedOf 41 = .ok (.aload_n 0, 1) := dget daX12_missedOf_0 27 (q := (41, .aload_n 0, 1)) rfl
theorem dX12_missedOf_42 : decode cX12_missedOf 42 = .ok (.aload_n 0, 1) := dget daX12_missedOf_0 28 (q := (42, .aload_n 0, 1)) rfl
theorem dX12_missedOf_43 : decode cX12_missedOf 43 = .ok (.getfield 62, 3) := dget daX12_missedOf_0 29 (q := (43, .getfield 62, 3)) rfl
theorem dX12_missedOf_46 : decode cX12_missedOf 46 = .ok (.iconst 4, 1) := dget daX12_missedOf_0 30 (q := (46, .iconst 4, 1)) rfl
theorem dX12_missedOf_47 : decode cX12_missedOf 47 = .ok (.iload_n 1, 1) := dget daX12_missedOf_0 31 (q := (47, .iload_n 1, 1)) rfl
theorem dX12_missedOf_48 : decode cX12_missedOf 48 = .ok (.imul, 1) := dget daX12_missedOf_0 32 (q := (48, .imul, 1)) rfl
theorem dX12_missedOf_49 : decode cX12_missedOf 49 = .ok (.iload_n 2, 1) := dget daX12_missedOf_0 33 (q := (49, .iload_n 2, 1)) rfl
theorem dX12_missedOf_50 : decode cX12_missedOf 50 = .ok (.iadd, 1) := dget daX12_missedOf_0 34 (q := (50, .iadd, 1)) rfl
theorem dX12_missedOf_51 : decode cX12_missedOf 51 = .ok (.iconst 1, 1) := dget daX12_missedOf_0 35 (q := (51, .iconst 1, 1)) rfl
theorem dX12_missedOf_52 : decode cX12_missedOf 52 = .ok (.isub, 1) := dget daX12_missedOf_0 36 (q := (52, .isub, 1)) rfl
theorem dX12_missedOf_53 : decode cX12_missedOf 53 = .ok (.iaload, 1) := dget daX12_missedOf_0 37 (q := (53, .iaload, 1)) rfl
theorem dX12_missedOf_54 : decode cX12_missedOf 54 = .ok (.invokevirtual 190, 3) := dget daX12_missedOf_0 38 (q := (54, .invokevirtual 190, 3)) rfl
theorem dX12_missedOf_57 : decode cX12_missedOf 57 = .ok (.isub, 1) := dget daX12_missedOf_0 39 (q := (57, .isub, 1)) rfl
def tdaX12_missedOf_1 : List (Nat × (Instr × Nat)) := [(58, .aload_n 0, 1), (59, .getfield 53, 3), (62, .iconst 2, 1), (63, .iaload, 1), (64, .if_icmp .ge 5, 3), (67, .iload_n 2, 1), (68, .ireturn, 1), (69, .iinc 2 1, 3), (72, .goto (-70), 3), (75, .iconst (-1), 1), (76, .ireturn, 1)]
theorem daX12_missedOf_1 : tdaX12_missedOf_1.all (fun q => decide (decode cX12_missedOf q.1 = .ok q.2)) = true := by decide +kernel
theorem dX12_missedOf_58 : decode cX12_missedOf 58 = .ok (.aload_n 0, 1) := dget daX12_missedOf_1 0 (q := (58, .aload_n 0, 1)) rfl
theorem dX12_missedOf_59 : decode cX12_missedOf 59 = .ok (.getfield 53, 3) := dget daX12_missedOf_1 1 (q := (59, .getfield 53, 3)) rfl
theorem dX12_missedOf_62 : decode cX12_missedOf 62 = .ok (.iconst 2, 1) := dget daX12_missedOf_1 2 (q := (62, .iconst 2, 1)) rfl
theorem dX12_missedOf_63 : decode cX12_missedOf 63 = .ok (.iaload, 1) := dget daX12_missedOf_1 3 (q := (63, .iaload, 1)) rfl
theorem dX12_missedOf_64 : decode cX12_missedOf 64 = .ok (.if_icmp .ge 5, 3) := dget daX12_missedOf_1 4 (q := (64, .if_icmp .ge 5, 3)) rfl
theorem dX12_missedOf_67 : decode cX12_missedOf 67 = .ok (.iload_n 2, 1) := dget daX12_missedOf_1 5 (q := (67, .iload_n 2, 1)) rfl
theorem dX12_missedOf_68 : decode cX12_missedOf 68 = .ok (.ireturn, 1) := dget daX12_missedOf_1 6 (q := (68, .ireturn, 1)) rfl
theorem dX12_missedOf_69 : decode cX12_missedOf 69 = .ok (.iinc 2 1, 3) := dget daX12_missedOf_1 7 (q := (69, .iinc 2 1, 3)) rfl
theorem dX12_missedOf_72 : decode cX12_missedOf 72 = .ok (.goto (-70), 3) := dget daX12_missedOf_1 8 (q := (72, .goto (-70), 3)) rfl
theorem dX12_missedOf_75 : decode cX12_missedOf 75 = .ok (.iconst (-1), 1) := dget daX12_missedOf_1 9 (q := (75, .iconst (-1), 1)) rfl
theorem dX12_missedOf_76 : decode cX12_missedOf 76 = .ok (.ireturn, 1) := dget daX12_missedOf_1 10 (q := (76, .ireturn, 1)) rfl
def tdaX12_missed_0 : List (Nat × (Instr × Nat)) := [(0, .aload_n 0, 1), (1, .iload_n 1, 1), (2, .invokevirtual 226, 3), (5, .ifCond .ne 9, 3), (8, .aload_n 0, 1), (9, .iconst (-1), 1), (10, .invokevirtual 164, 3), (13, .ireturn, 1), (14, .aload_n 0, 1), (15, .iload_n 1, 1), (16, .invokevirtual 229, 3), (19, .istore_n 2, 1), (20, .iload_n 2, 1), (21, .ifCond .ge 8, 3), (24, .bipush (-9), 2), (26, .goto 4, 3), (29, .iload_n 2, 1), (30, .ireturn, 1)]
theorem daX12_missed_0 : tdaX12_missed_0.all (fun q => decide (decode cX12_missed q.1 = .ok q.2)) = true := by decide +kernel
theorem dX12_missed_0 : decode cX12_missed 0 = .ok (.aload_n 0, 1) := dget daX12_missed_0 0 (q := (0, .aload_n 0, 1)) rfl
theorem dX12_missed_1 : decode cX12_missed 1 = .ok (.iload_n 1, 1) := dget daX12_missed_0 1 (q := (1, .iload_n 1, 1)) rfl
theorem dX12_missed_2 : decode cX12_missed 2 = .ok (.invokevirtual 226, 3) := dget daX12_missed_0 2 (q := (2, .invokevirtual 226, 3)) rfl
theorem dX12_missed_5 : decode cX12_missed 5 = .ok (.ifCond .ne 9, 3) := dget daX12_missed_0 3 (q := (5, .ifCond .ne 9, 3)) rfl
theorem dX12_missed_8 : decode cX12_missed 8 = .ok (.aload_n 0, 1) := dget daX12_missed_0 4 (q := (8, .aload_n 0, 1)) rfl
theorem dX12_missed_9 : decode cX12_missed 9 = .ok (.iconst (-1), 1) := dget daX12_missed_0 5 (q := (9, .iconst (-1), 1)) rfl
theorem dX12_missed_10 : decode cX12_missed 10 = .ok (.invokevirtual 164, 3) := dget daX12_missed_0 6 (q := (10, .invokevirtual 164, 3)) rfl
theorem dX12_missed_13 : decode cX12_missed 13 = .ok (.ireturn, 1) := dget daX12_missed_0 7 (q := (13, .ireturn, 1)) rfl
theorem dX12_missed_14 : decode cX12_missed 14 = .ok (.aload_n 0, 1) := dget daX12_missed_0 8 (q := (14, .aload_n 0, 1)) rfl
theorem dX12_missed_15 : decode cX12_missed 15 = .ok (.iload_n 1, 1) := dget daX12_missed_0 9 (q := (15, .iload_n 1, 1)) rfl
theorem dX12_missed_16 : decode cX12_missed 16 = .ok (.invokevirtual 229, 3) := dget daX12_missed_0 10 (q := (16, .invokevirtual 229, 3)) rfl
theorem dX12_missed_19 : decode cX12_missed 19 = .ok (.istore_n 2, 1) := dget daX12_missed_0 11 (q := (19, .istore_n 2, 1)) rfl
theorem dX12_missed_20 : decode cX12_missed 20 = .ok (.iload_n 2, 1) := dget daX12_missed_0 12 (q := (20, .iload_n 2, 1)) rfl
theorem dX12_missed_21 : decode cX12_missed 21 = .ok (.ifCond .ge 8, 3) := dget daX12_missed_0 13 (q := (21, .ifCond .ge 8, 3)) rfl
theorem dX12_missed_24 : decode cX12_missed 24 = .ok (.bipush (-9), 2) := dget daX12_missed_0 14 (q := (24, .bipush (-9), 2)) rfl
theorem dX12_missed_26 : decode cX12_missed 26 = .ok (.goto 4, 3) := dget daX12_missed_0 15 (q := (26, .goto 4, 3)) rfl
theorem dX12_missed_29 : decode cX12_missed 29 = .ok (.iload_n 2, 1) := dget daX12_missed_0 16 (q := (29, .iload_n 2, 1)) rfl
theorem dX12_missed_30 : decode cX12_missed 30 = .ok (.ireturn, 1) := dget daX12_missed_0 17 (q := (30, .ireturn, 1)) rfl
def tdaX12_soonestOf_0 : List (Nat × (Instr × Nat)) := [(0, .aload_n 0, 1), (1, .iload_n 1, 1), (2, .invokevirtual 229, 3), (5, .istore_n 2, 1), (6, .iload_n 2, 1), (7, .ifCond .ge 13, 3), (10, .aload_n 0, 1), (11, .aload_n 0, 1), (12, .iload_n 1, 1), (13, .invokevirtual 232, 3), (16, .invokevirtual 190, 3), (19, .ireturn, 1), (20, .aload_n 0, 1), (21, .getfield 22, 3), (24, .aload_n 0, 1), (25, .getfield 62, 3), (28, .iconst 4, 1), (29, .iload_n 1, 1), (30, .imul, 1), (31, .iload_n 2, 1), (32, .iadd, 1), (33, .iaload, 1), (34, .iaload, 1), (35, .istore_n 3, 1), (36, .iload_n 2, 1), (37, .ifCond .ne 19, 3), (40, .aload_n 0, 1), (41, .getfield 34, 3), (44, .aload_n 0, 1), (45, .getfield 62, 3), (48, .iconst 4, 1), (49, .iload_n 1, 1), (50, .imul, 1), (51, .iaload, 1), (52, .iaload, 1), (53, .goto 19, 3), (56, .aload_n 0, 1), (57, .aload_n 0, 1), (58, .getfield 62, 3), (61, .iconst 4, 1)]
theorem daX12_soonestOf_0 : tdaX12_soonestOf_0.all (fun q => decide (decode cX12_soonestOf q.1 = .ok q.2)) = true := by decide +kernel
theorem dX12_soonestOf_0 : decode cX12_soonestOf 0 = .ok (.aload_n 0, 1) := dget daX12_soonestOf_0 0 (q := (0, .aload_n 0, 1)) rfl
theorem dX12_soonestOf_1 : decode cX12_soonestOf 1 = .ok (.iload_n 1, 1) := dget daX12_soonestOf_0 1 (q := (1, .iload_n 1, 1)) rfl
theorem dX12_soonestOf_2 : decode cX12_soonestOf 2 = .ok (.invokevirtual 229, 3) := dget daX12_soonestOf_0 2 (q := (2, .invokevirtual 229, 3)) rfl
theorem dX12_soonestOf_5 : decode cX12_soonestOf 5 = .ok (.istore_n 2, 1) := dget daX12_soonestOf_0 3 (q := (5, .istore_n 2, 1)) rfl
theorem dX12_soonestOf_6 : decode cX12_soonestOf 6 = .ok (.iload_n 2, 1) := dget daX12_soonestOf_0 4 (q := (6, .iload_n 2, 1)) rfl
theorem dX12_soonestOf_7 : decode cX12_soonestOf 7 = .ok (.ifCond .ge 13, 3) := dget daX12_soonestOf_0 5 (q := (7, .ifCond .ge 13, 3)) rfl
theorem dX12_soonestOf_10 : decode cX12_soonestOf 10 = .ok (.aload_n 0, 1) := dget daX12_soonestOf_0 6 (q := (10, .aload_n 0, 1)) rfl
theorem dX12_soonestOf_11 : decode cX12_soonestOf 11 = .ok (.aload_n 0, 1) := dget daX12_soonestOf_0 7 (q := (11, .aload_n 0, 1)) rfl
theorem dX12_soonestOf_12 : decode cX12_soonestOf 12 = .ok (.iload_n 1, 1) := dget daX12_soonestOf_0 8 (q := (12, .iload_n 1, 1)) rfl
theorem dX12_soonestOf_13 : decode cX12_soonestOf 13 = .ok (.invokevirtual 232, 3) := dget daX12_soonestOf_0 9 (q := (13, .invokevirtual 232, 3)) rfl
theorem dX12_soonestOf_16 : decode cX12_soonestOf 16 = .ok (.invokevirtual 190, 3) := dget daX12_soonestOf_0 10 (q := (16, .invokevirtual 190, 3)) rfl
theorem dX12_soonestOf_19 : decode cX12_soonestOf 19 = .ok (.ireturn, 1) := dget daX12_soonestOf_0 11 (q := (19, .ireturn, 1)) rfl
theorem dX12_soonestOf_20 : decode cX12_soonestOf 20 = .ok (.aload_n 0, 1) := dget daX12_soonestOf_0 12 (q := (20, .aload_n 0, 1)) rfl
theorem dX12_soonestOf_21 : decode cX12_soonestOf 21 = .ok (.getfield 22, 3) := dget daX12_soonestOf_0 13 (q := (21, .getfield 22, 3)) rfl
theorem dX12_soonestOf_24 : decode cX12_soonestOf 24 = .ok (.aload_n 0, 1) := dget daX12_soonestOf_0 14 (q := (24, .aload_n 0, 1)) rfl
theorem dX12_soonestOf_25 : decode cX12_soonestOf 25 = .ok (.getfield 62, 3) := dget daX12_soonestOf_0 15 (q := (25, .getfield 62, 3)) rfl
theorem dX12_soonestOf_28 : decode cX12_soonestOf 28 = .ok (.iconst 4, 1) := dget daX12_soonestOf_0 16 (q := (28, .iconst 4, 1)) rfl
theorem dX12_soonestOf_29 : decode cX12_soonestOf 29 = .ok (.iload_n 1, 1) := dget daX12_soonestOf_0 17 (q := (29, .iload_n 1, 1)) rfl
theorem dX12_soonestOf_30 : decode cX12_soonestOf 30 = .ok (.imul, 1) := dget daX12_soonestOf_0 18 (q := (30, .imul, 1)) rfl
theorem dX12_soonestOf_31 : decode cX12_soonestOf 31 = .ok (.iload_n 2, 1) := dget daX12_soonestOf_0 19 (q := (31, .iload_n 2, 1)) rfl
theorem dX12_soonestOf_32 : decode cX12_soonestOf 32 = .ok (.iadd, 1) := dget daX12_soonestOf_0 20 (q := (32, .iadd, 1)) rfl
theorem dX12_soonestOf_33 : decode cX12_soonestOf 33 = .ok (.iaload, 1) := dget daX12_soonestOf_0 21 (q := (33, .iaload, 1)) rfl
theorem dX12_soonestOf_34 : decode cX12_soonestOf 34 = .ok (.iaload, 1) := dget daX12_soonestOf_0 22 (q := (34, .iaload, 1)) rfl
theorem dX12_soonestOf_35 : decode cX12_soonestOf 35 = .ok (.istore_n 3, 1) := dget daX12_soonestOf_0 23 (q := (35, .istore_n 3, 1)) rfl
theorem dX12_soonestOf_36 : decode cX12_soonestOf 36 = .ok (.iload_n 2, 1) := dget daX12_soonestOf_0 24 (q := (36, .iload_n 2, 1)) rfl
theorem dX12_soonestOf_37 : decode cX12_soonestOf 37 = .ok (.ifCond .ne 19, 3) := dget daX12_soonestOf_0 25 (q := (37, .ifCond .ne 19, 3)) rfl
theorem dX12_soonestOf_40 : decode cX12_soonestOf 40 = .ok (.aload_n 0, 1) := dget daX12_soonestOf_0 26 (q := (40, .aload_n 0, 1)) rfl
theorem dX12_soonestOf_41 : decode cX12_soonestOf 41 = .ok (.getfield 34, 3) := dget daX12_soonestOf_0 27 (q := (41, .getfield 34, 3)) rfl
theorem dX12_soonestOf_44 : decode cX12_soonestOf 44 = .ok (.aload_n 0, 1) := dget daX12_soonestOf_0 28 (q := (44, .aload_n 0, 1)) rfl
theorem dX12_soonestOf_45 : decode cX12_soonestOf 45 = .ok (.getfield 62, 3) := dget daX12_soonestOf_0 29 (q := (45, .getfield 62, 3)) rfl
theorem dX12_soonestOf_48 : decode cX12_soonestOf 48 = .ok (.iconst 4, 1) := dget daX12_soonestOf_0 30 (q := (48, .iconst 4, 1)) rfl
theorem dX12_soonestOf_49 : decode cX12_soonestOf 49 = .ok (.iload_n 1, 1) := dget daX12_soonestOf_0 31 (q := (49, .iload_n 1, 1)) rfl
theorem dX12_soonestOf_50 : decode cX12_soonestOf 50 = .ok (.imul, 1) := dget daX12_soonestOf_0 32 (q := (50, .imul, 1)) rfl
theorem dX12_soonestOf_51 : decode cX12_soonestOf 51 = .ok (.iaload, 1) := dget daX12_soonestOf_0 33 (q := (51, .iaload, 1)) rfl
theorem dX12_soonestOf_52 : decode cX12_soonestOf 52 = .ok (.iaload, 1) := dget daX12_soonestOf_0 34 (q := (52, .iaload, 1)) rfl
theorem dX12_soonestOf_53 : decode cX12_soonestOf 53 = .ok (.goto 19, 3) := dget daX12_soonestOf_0 35 (q := (53, .goto 19, 3)) rfl
theorem dX12_soonestOf_56 : decode cX12_soonestOf 56 = .ok (.aload_n 0, 1) := dget daX12_soonestOf_0 36 (q := (56, .aload_n 0, 1)) rfl
theorem dX12_soonestOf_57 : decode cX12_soonestOf 57 = .ok (.aload_n 0, 1) := dget daX12_soonestOf_0 37 (q := (57, .aload_n 0, 1)) rfl
theorem dX12_soonestOf_58 : decode cX12_soonestOf 58 = .ok (.getfield 62, 3) := dget daX12_soonestOf_0 38 (q := (58, .getfield 62, 3)) rfl
theorem dX12_soonestOf_61 : decode cX12_soonestOf 61 = .ok (.iconst 4, 1) := dget daX12_soonestOf_0 39 (q := (61, .iconst 4, 1)) rfl
def tdaX12_soonestOf_1 : List (Nat × (Instr × Nat)) := [(62, .iload_n 1, 1), (63, .imul, 1), (64, .iload_n 2, 1), (65, .iadd, 1), (66, .iconst 1, 1), (67, .isub, 1), (68, .iaload, 1), (69, .invokevirtual 190, 3), (72, .istore 4, 2), (74, .iconst 0, 1), (75, .istore 5, 2), (77, .iload 5, 2), (79, .aload_n 0, 1), (80, .getfield 160, 3), (83, .if_icmp .ge 53, 3), (86, .aload_n 0, 1), (87, .getfield 68, 3), (90, .iload 5, 2), (92, .aload_n 0, 1), (93, .getfield 40, 3), (96, .iload 5, 2), (98, .baload, 1), (99, .ifCond .eq 29, 3), (102, .aload_n 0, 1), (103, .getfield 22, 3), (106, .iload 5, 2), (108, .iaload, 1), (109, .iload_n 3, 1), (110, .if_icmp .ne 18, 3), (113, .aload_n 0, 1), (114, .iload 5, 2), (116, .invokevirtual 193, 3), (119, .iload 4, 2), (121, .if_icmp .lt 7, 3), (124, .iconst 1, 1), (125, .goto 4, 3), (128, .iconst 0, 1), (129, .bastore, 1), (130, .iinc 5 1, 3), (133, .goto (-56), 3)]
theorem daX12_soonestOf_1 : tdaX12_soonestOf_1.all (fun q => decide (decode cX12_soonestOf q.1 = .ok q.2)) = true := by decide +kernel
theorem dX12_soonestOf_62 : decode cX12_soonestOf 62 = .ok (.iload_n 1, 1) := dget daX12_soonestOf_1 0 (q := (62, .iload_n 1, 1)) rfl
theorem dX12_soonestOf_63 : decode cX12_soonestOf 63 = .ok (.imul, 1) := dget daX12_soonestOf_1 1 (q := (63, .imul, 1)) rfl
theorem dX12_soonestOf_64 : decode cX12_soonestOf 64 = .ok (.iload_n 2, 1) := dget daX12_soonestOf_1 2 (q := (64, .iload_n 2, 1)) rfl
theorem dX12_soonestOf_65 : decode cX12_soonestOf 65 = .ok (.iadd, 1) := dget daX12_soonestOf_1 3 (q := (65, .iadd, 1)) rfl
theorem dX12_soonestOf_66 : decode cX12_soonestOf 66 = .ok (.iconst 1, 1) := dget daX12_soonestOf_1 4 (q := (66, .iconst 1, 1)) rfl
theorem dX12_soonestOf_67 : decode cX12_soonestOf 67 = .ok (.isub, 1) := dget daX12_soonestOf_1 5 (q := (67, .isub, 1)) rfl
theorem dX12_soonestOf_68 : decode cX12_soonestOf 68 = .ok (.iaload, 1) := dget daX12_soonestOf_1 6 (q := (68, .iaload, 1)) rfl
theorem dX12_soonestOf_69 : decode cX12_soonestOf 69 = .ok (.invokevirtual 190, 3) := dget daX12_soonestOf_1 7 (q := (69, .invokevirtual 190, 3)) rfl
theorem dX12_soonestOf_72 : decode cX12_soonestOf 72 = .ok (.istore 4, 2) := dget daX12_soonestOf_1 8 (q := (72, .istore 4, 2)) rfl
theorem dX12_soonestOf_74 : decode cX12_soonestOf 74 = .ok (.iconst 0, 1) := dget daX12_soonestOf_1 9 (q := (74, .iconst 0, 1)) rfl
theorem dX12_soonestOf_75 : decode cX12_soonestOf 75 = .ok (.istore 5, 2) := dget daX12_soonestOf_1 10 (q := (75, .istore 5, 2)) rfl
theorem dX12_soonestOf_77 : decode cX12_soonestOf 77 = .ok (.iload 5, 2) := dget daX12_soonestOf_1 11 (q := (77, .iload 5, 2)) rfl
theorem dX12_soonestOf_79 : decode cX12_soonestOf 79 = .ok (.aload_n 0, 1) := dget daX12_soonestOf_1 12 (q := (79, .aload_n 0, 1)) rfl
theorem dX12_soonestOf_80 : decode cX12_soonestOf 80 = .ok (.getfield 160, 3) := dget daX12_soonestOf_1 13 (q := (80, .getfield 160, 3)) rfl
theorem dX12_soonestOf_83 : decode cX12_soonestOf 83 = .ok (.if_icmp .ge 53, 3) := dget daX12_soonestOf_1 14 (q := (83, .if_icmp .ge 53, 3)) rfl
theorem dX12_soonestOf_86 : decode cX12_soonestOf 86 = .ok (.aload_n 0, 1) := dget daX12_soonestOf_1 15 (q := (86, .aload_n 0, 1)) rfl
theorem dX12_soonestOf_87 : decode cX12_soonestOf 87 = .ok (.getfield 68, 3) := dget daX12_soonestOf_1 16 (q := (87, .getfield 68, 3)) rfl
theorem dX12_soonestOf_90 : decode cX12_soonestOf 90 = .ok (.iload 5, 2) := dget daX12_soonestOf_1 17 (q := (90, .iload 5, 2)) rfl
theorem dX12_soonestOf_92 : decode cX12_soonestOf 92 = .ok (.aload_n 0, 1) := dget daX12_soonestOf_1 18 (q := (92, .aload_n 0, 1)) rfl
theorem dX12_soonestOf_93 : decode cX12_soonestOf 93 = .ok (.getfield 40, 3) := dget daX12_soonestOf_1 19 (q := (93, .getfield 40, 3)) rfl
theorem dX12_soonestOf_96 : decode cX12_soonestOf 96 = .ok (.iload 5, 2) := dget daX12_soonestOf_1 20 (q := (96, .iload 5, 2)) rfl
theorem dX12_soonestOf_98 : decode cX12_soonestOf 98 = .ok (.baload, 1) := dget daX12_soonestOf_1 21 (q := (98, .baload, 1)) rfl
theorem dX12_soonestOf_99 : decode cX12_soonestOf 99 = .ok (.ifCond .eq 29, 3) := dget daX12_soonestOf_1 22 (q := (99, .ifCond .eq 29, 3)) rfl
theorem dX12_soonestOf_102 : decode cX12_soonestOf 102 = .ok (.aload_n 0, 1) := dget daX12_soonestOf_1 23 (q := (102, .aload_n 0, 1)) rfl
theorem dX12_soonestOf_103 : decode cX12_soonestOf 103 = .ok (.getfield 22, 3) := dget daX12_soonestOf_1 24 (q := (103, .getfield 22, 3)) rfl
theorem dX12_soonestOf_106 : decode cX12_soonestOf 106 = .ok (.iload 5, 2) := dget daX12_soonestOf_1 25 (q := (106, .iload 5, 2)) rfl
theorem dX12_soonestOf_108 : decode cX12_soonestOf 108 = .ok (.iaload, 1) := dget daX12_soonestOf_1 26 (q := (108, .iaload, 1)) rfl
theorem dX12_soonestOf_109 : decode cX12_soonestOf 109 = .ok (.iload_n 3, 1) := dget daX12_soonestOf_1 27 (q := (109, .iload_n 3, 1)) rfl
theorem dX12_soonestOf_110 : decode cX12_soonestOf 110 = .ok (.if_icmp .ne 18, 3) := dget daX12_soonestOf_1 28 (q := (110, .if_icmp .ne 18, 3)) rfl
theorem dX12_soonestOf_113 : decode cX12_soonestOf 113 = .ok (.aload_n 0, 1) := dget daX12_soonestOf_1 29 (q := (113, .aload_n 0, 1)) rfl
theorem dX12_soonestOf_114 : decode cX12_soonestOf 114 = .ok (.iload 5, 2) := dget daX12_soonestOf_1 30 (q := (114, .iload 5, 2)) rfl
theorem dX12_soonestOf_116 : decode cX12_soonestOf 116 = .ok (.invokevirtual 193, 3) := dget daX12_soonestOf_1 31 (q := (116, .invokevirtual 193, 3)) rfl
theorem dX12_soonestOf_119 : decode cX12_soonestOf 119 = .ok (.iload 4, 2) := dget daX12_soonestOf_1 32 (q := (119, .iload 4, 2)) rfl
theorem dX12_soonestOf_121 : decode cX12_soonestOf 121 = .ok (.if_icmp .lt 7, 3) := dget daX12_soonestOf_1 33 (q := (121, .if_icmp .lt 7, 3)) rfl
theorem dX12_soonestOf_124 : decode cX12_soonestOf 124 = .ok (.iconst 1, 1) := dget daX12_soonestOf_1 34 (q := (124, .iconst 1, 1)) rfl
theorem dX12_soonestOf_125 : decode cX12_soonestOf 125 = .ok (.goto 4, 3) := dget daX12_soonestOf_1 35 (q := (125, .goto 4, 3)) rfl
theorem dX12_soonestOf_128 : decode cX12_soonestOf 128 = .ok (.iconst 0, 1) := dget daX12_soonestOf_1 36 (q := (128, .iconst 0, 1)) rfl
theorem dX12_soonestOf_129 : decode cX12_soonestOf 129 = .ok (.bastore, 1) := dget daX12_soonestOf_1 37 (q := (129, .bastore, 1)) rfl
theorem dX12_soonestOf_130 : decode cX12_soonestOf 130 = .ok (.iinc 5 1, 3) := dget daX12_soonestOf_1 38 (q := (130, .iinc 5 1, 3)) rfl
theorem dX12_soonestOf_133 : decode cX12_soonestOf 133 = .ok (.goto (-56), 3) := dget daX12_soonestOf_1 39 (q := (133, .goto (-56), 3)) rfl
def tdaX12_soonestOf_2 : List (Nat × (Instr × Nat)) := [(136, .iconst 1, 1), (137, .istore 5, 2), (139, .iload 5, 2), (141, .ifCond .eq 165, 3), (144, .iconst 0, 1), (145, .istore 5, 2), (147, .iconst 0, 1), (148, .istore 6, 2), (150, .iload 6, 2), (152, .aload_n 0, 1), (153, .getfield 160, 3), (156, .if_icmp .ge 147, 3), (159, .iconst 0, 1), (160, .istore 7, 2), (162, .iload 7, 2), (164, .aload_n 0, 1), (165, .getfield 160, 3), (168, .if_icmp .ge 129, 3), (171, .aload_n 0, 1), (172, .getfield 68, 3), (175, .iload 6, 2), (177, .baload, 1), (178, .ifCond .eq 66, 3), (181, .aload_n 0, 1), (182, .getfield 68, 3), (185, .iload 7, 2), (187, .baload, 1), (188, .ifCond .ne 56, 3), (191, .aload_n 0, 1), (192, .getfield 40, 3), (195, .iload 7, 2), (197, .baload, 1), (198, .ifCond .eq 46, 3), (201, .aload_n 0, 1), (202, .getfield 22, 3), (205, .iload 7, 2), (207, .iaload, 1), (208, .aload_n 0, 1), (209, .getfield 25, 3), (212, .iload 6, 2)]
theorem daX12_soonestOf_2 : tdaX12_soonestOf_2.all (fun q => decide (decode cX12_soonestOf q.1 = .ok q.2)) = true := by decide +kernel
theorem dX12_soonestOf_136 : decode cX12_soonestOf 136 = .ok (.iconst 1, 1) := dget daX12_soonestOf_2 0 (q := (136, .iconst 1, 1)) rfl
theorem dX12_soonestOf_137 : decode cX12_soonestOf 137 = .ok (.istore 5, 2) := dget daX12_soonestOf_2 1 (q := (137, .istore 5, 2)) rfl
theorem dX12_soonestOf_139 : decode cX12_soonestOf 139 = .ok (.iload 5, 2) := dget daX12_soonestOf_2 2 (q := (139, .iload 5, 2)) rfl
theorem dX12_soonestOf_141 : decode cX12_soonestOf 141 = .ok (.ifCond .eq 165, 3) := dget daX12_soonestOf_2 3 (q := (141, .ifCond .eq 165, 3)) rfl
theorem dX12_soonestOf_144 : decode cX12_soonestOf 144 = .ok (.iconst 0, 1) := dget daX12_soonestOf_2 4 (q := (144, .iconst 0, 1)) rfl
theorem dX12_soonestOf_145 : decode cX12_soonestOf 145 = .ok (.istore 5, 2) := dget daX12_soonestOf_2 5 (q := (145, .istore 5, 2)) rfl
theorem dX12_soonestOf_147 : decode cX12_soonestOf 147 = .ok (.iconst 0, 1) := dget daX12_soonestOf_2 6 (q := (147, .iconst 0, 1)) rfl
theorem dX12_soonestOf_148 : decode cX12_soonestOf 148 = .ok (.istore 6, 2) := dget daX12_soonestOf_2 7 (q := (148, .istore 6, 2)) rfl
theorem dX12_soonestOf_150 : decode cX12_soonestOf 150 = .ok (.iload 6, 2) := dget daX12_soonestOf_2 8 (q := (150, .iload 6, 2)) rfl
theorem dX12_soonestOf_152 : decode cX12_soonestOf 152 = .ok (.aload_n 0, 1) := dget daX12_soonestOf_2 9 (q := (152, .aload_n 0, 1)) rfl
theorem dX12_soonestOf_153 : decode cX12_soonestOf 153 = .ok (.getfield 160, 3) := dget daX12_soonestOf_2 10 (q := (153, .getfield 160, 3)) rfl
theorem dX12_soonestOf_156 : decode cX12_soonestOf 156 = .ok (.if_icmp .ge 147, 3) := dget daX12_soonestOf_2 11 (q := (156, .if_icmp .ge 147, 3)) rfl
theorem dX12_soonestOf_159 : decode cX12_soonestOf 159 = .ok (.iconst 0, 1) := dget daX12_soonestOf_2 12 (q := (159, .iconst 0, 1)) rfl
theorem dX12_soonestOf_160 : decode cX12_soonestOf 160 = .ok (.istore 7, 2) := dget daX12_soonestOf_2 13 (q := (160, .istore 7, 2)) rfl
theorem dX12_soonestOf_162 : decode cX12_soonestOf 162 = .ok (.iload 7, 2) := dget daX12_soonestOf_2 14 (q := (162, .iload 7, 2)) rfl
theorem dX12_soonestOf_164 : decode cX12_soonestOf 164 = .ok (.aload_n 0, 1) := dget daX12_soonestOf_2 15 (q := (164, .aload_n 0, 1)) rfl
theorem dX12_soonestOf_165 : decode cX12_soonestOf 165 = .ok (.getfield 160, 3) := dget daX12_soonestOf_2 16 (q := (165, .getfield 160, 3)) rfl
theorem dX12_soonestOf_168 : decode cX12_soonestOf 168 = .ok (.if_icmp .ge 129, 3) := dget daX12_soonestOf_2 17 (q := (168, .if_icmp .ge 129, 3)) rfl
theorem dX12_soonestOf_171 : decode cX12_soonestOf 171 = .ok (.aload_n 0, 1) := dget daX12_soonestOf_2 18 (q := (171, .aload_n 0, 1)) rfl
theorem dX12_soonestOf_172 : decode cX12_soonestOf 172 = .ok (.getfield 68, 3) := dget daX12_soonestOf_2 19 (q := (172, .getfield 68, 3)) rfl
theorem dX12_soonestOf_175 : decode cX12_soonestOf 175 = .ok (.iload 6, 2) := dget daX12_soonestOf_2 20 (q := (175, .iload 6, 2)) rfl
theorem dX12_soonestOf_177 : decode cX12_soonestOf 177 = .ok (.baload, 1) := dget daX12_soonestOf_2 21 (q := (177, .baload, 1)) rfl
theorem dX12_soonestOf_178 : decode cX12_soonestOf 178 = .ok (.ifCond .eq 66, 3) := dget daX12_soonestOf_2 22 (q := (178, .ifCond .eq 66, 3)) rfl
theorem dX12_soonestOf_181 : decode cX12_soonestOf 181 = .ok (.aload_n 0, 1) := dget daX12_soonestOf_2 23 (q := (181, .aload_n 0, 1)) rfl
theorem dX12_soonestOf_182 : decode cX12_soonestOf 182 = .ok (.getfield 68, 3) := dget daX12_soonestOf_2 24 (q := (182, .getfield 68, 3)) rfl
theorem dX12_soonestOf_185 : decode cX12_soonestOf 185 = .ok (.iload 7, 2) := dget daX12_soonestOf_2 25 (q := (185, .iload 7, 2)) rfl
theorem dX12_soonestOf_187 : decode cX12_soonestOf 187 = .ok (.baload, 1) := dget daX12_soonestOf_2 26 (q := (187, .baload, 1)) rfl
theorem dX12_soonestOf_188 : decode cX12_soonestOf 188 = .ok (.ifCond .ne 56, 3) := dget daX12_soonestOf_2 27 (q := (188, .ifCond .ne 56, 3)) rfl
theorem dX12_soonestOf_191 : decode cX12_soonestOf 191 = .ok (.aload_n 0, 1) := dget daX12_soonestOf_2 28 (q := (191, .aload_n 0, 1)) rfl
theorem dX12_soonestOf_192 : decode cX12_soonestOf 192 = .ok (.getfield 40, 3) := dget daX12_soonestOf_2 29 (q := (192, .getfield 40, 3)) rfl
theorem dX12_soonestOf_195 : decode cX12_soonestOf 195 = .ok (.iload 7, 2) := dget daX12_soonestOf_2 30 (q := (195, .iload 7, 2)) rfl
theorem dX12_soonestOf_197 : decode cX12_soonestOf 197 = .ok (.baload, 1) := dget daX12_soonestOf_2 31 (q := (197, .baload, 1)) rfl
theorem dX12_soonestOf_198 : decode cX12_soonestOf 198 = .ok (.ifCond .eq 46, 3) := dget daX12_soonestOf_2 32 (q := (198, .ifCond .eq 46, 3)) rfl
theorem dX12_soonestOf_201 : decode cX12_soonestOf 201 = .ok (.aload_n 0, 1) := dget daX12_soonestOf_2 33 (q := (201, .aload_n 0, 1)) rfl
theorem dX12_soonestOf_202 : decode cX12_soonestOf 202 = .ok (.getfield 22, 3) := dget daX12_soonestOf_2 34 (q := (202, .getfield 22, 3)) rfl
theorem dX12_soonestOf_205 : decode cX12_soonestOf 205 = .ok (.iload 7, 2) := dget daX12_soonestOf_2 35 (q := (205, .iload 7, 2)) rfl
theorem dX12_soonestOf_207 : decode cX12_soonestOf 207 = .ok (.iaload, 1) := dget daX12_soonestOf_2 36 (q := (207, .iaload, 1)) rfl
theorem dX12_soonestOf_208 : decode cX12_soonestOf 208 = .ok (.aload_n 0, 1) := dget daX12_soonestOf_2 37 (q := (208, .aload_n 0, 1)) rfl
theorem dX12_soonestOf_209 : decode cX12_soonestOf 209 = .ok (.getfield 25, 3) := dget daX12_soonestOf_2 38 (q := (209, .getfield 25, 3)) rfl
theorem dX12_soonestOf_212 : decode cX12_soonestOf 212 = .ok (.iload 6, 2) := dget daX12_soonestOf_2 39 (q := (212, .iload 6, 2)) rfl
def tdaX12_soonestOf_3 : List (Nat × (Instr × Nat)) := [(214, .iaload, 1), (215, .if_icmp .ne 29, 3), (218, .aload_n 0, 1), (219, .iload 7, 2), (221, .invokevirtual 193, 3), (224, .aload_n 0, 1), (225, .iload 6, 2), (227, .invokevirtual 190, 3), (230, .isub, 1), (231, .aload_n 0, 1), (232, .getfield 53, 3), (235, .iconst 2, 1), (236, .iaload, 1), (237, .if_icmp .lt 7, 3), (240, .iconst 1, 1), (241, .goto 4, 3), (244, .iconst 0, 1), (245, .istore 8, 2), (247, .aload_n 0, 1), (248, .getfield 68, 3), (251, .iload 7, 2), (253, .aload_n 0, 1), (254, .getfield 68, 3), (257, .iload 7, 2), (259, .baload, 1), (260, .ifCond .ne 8, 3), (263, .iload 8, 2), (265, .ifCond .eq 7, 3), (268, .iconst 1, 1), (269, .goto 4, 3), (272, .iconst 0, 1), (273, .bastore, 1), (274, .iload 5, 2), (276, .ifCond .ne 8, 3), (279, .iload 8, 2), (281, .ifCond .eq 7, 3), (284, .iconst 1, 1), (285, .goto 4, 3), (288, .iconst 0, 1), (289, .istore 5, 2)]
theorem daX12_soonestOf_3 : tdaX12_soonestOf_3.all (fun q => decide (decode cX12_soonestOf q.1 = .ok q.2)) = true := by decide +kernel
theorem dX12_soonestOf_214 : decode cX12_soonestOf 214 = .ok (.iaload, 1) := dget daX12_soonestOf_3 0 (q := (214, .iaload, 1)) rfl
theorem dX12_soonestOf_215 : decode cX12_soonestOf 215 = .ok (.if_icmp .ne 29, 3) := dget daX12_soonestOf_3 1 (q := (215, .if_icmp .ne 29, 3)) rfl
theorem dX12_soonestOf_218 : decode cX12_soonestOf 218 = .ok (.aload_n 0, 1) := dget daX12_soonestOf_3 2 (q := (218, .aload_n 0, 1)) rfl
theorem dX12_soonestOf_219 : decode cX12_soonestOf 219 = .ok (.iload 7, 2) := dget daX12_soonestOf_3 3 (q := (219, .iload 7, 2)) rfl
theorem dX12_soonestOf_221 : decode cX12_soonestOf 221 = .ok (.invokevirtual 193, 3) := dget daX12_soonestOf_3 4 (q := (221, .invokevirtual 193, 3)) rfl
theorem dX12_soonestOf_224 : decode cX12_soonestOf 224 = .ok (.aload_n 0, 1) := dget daX12_soonestOf_3 5 (q := (224, .aload_n 0, 1)) rfl
theorem dX12_soonestOf_225 : decode cX12_soonestOf 225 = .ok (.iload 6, 2) := dget daX12_soonestOf_3 6 (q := (225, .iload 6, 2)) rfl
theorem dX12_soonestOf_227 : decode cX12_soonestOf 227 = .ok (.invokevirtual 190, 3) := dget daX12_soonestOf_3 7 (q := (227, .invokevirtual 190, 3)) rfl
theorem dX12_soonestOf_230 : decode cX12_soonestOf 230 = .ok (.isub, 1) := dget daX12_soonestOf_3 8 (q := (230, .isub, 1)) rfl
theorem dX12_soonestOf_231 : decode cX12_soonestOf 231 = .ok (.aload_n 0, 1) := dget daX12_soonestOf_3 9 (q := (231, .aload_n 0, 1)) rfl
theorem dX12_soonestOf_232 : decode cX12_soonestOf 232 = .ok (.getfield 53, 3) := dget daX12_soonestOf_3 10 (q := (232, .getfield 53, 3)) rfl
theorem dX12_soonestOf_235 : decode cX12_soonestOf 235 = .ok (.iconst 2, 1) := dget daX12_soonestOf_3 11 (q := (235, .iconst 2, 1)) rfl
theorem dX12_soonestOf_236 : decode cX12_soonestOf 236 = .ok (.iaload, 1) := dget daX12_soonestOf_3 12 (q := (236, .iaload, 1)) rfl
theorem dX12_soonestOf_237 : decode cX12_soonestOf 237 = .ok (.if_icmp .lt 7, 3) := dget daX12_soonestOf_3 13 (q := (237, .if_icmp .lt 7, 3)) rfl
theorem dX12_soonestOf_240 : decode cX12_soonestOf 240 = .ok (.iconst 1, 1) := dget daX12_soonestOf_3 14 (q := (240, .iconst 1, 1)) rfl
theorem dX12_soonestOf_241 : decode cX12_soonestOf 241 = .ok (.goto 4, 3) := dget daX12_soonestOf_3 15 (q := (241, .goto 4, 3)) rfl
theorem dX12_soonestOf_244 : decode cX12_soonestOf 244 = .ok (.iconst 0, 1) := dget daX12_soonestOf_3 16 (q := (244, .iconst 0, 1)) rfl
theorem dX12_soonestOf_245 : decode cX12_soonestOf 245 = .ok (.istore 8, 2) := dget daX12_soonestOf_3 17 (q := (245, .istore 8, 2)) rfl
theorem dX12_soonestOf_247 : decode cX12_soonestOf 247 = .ok (.aload_n 0, 1) := dget daX12_soonestOf_3 18 (q := (247, .aload_n 0, 1)) rfl
theorem dX12_soonestOf_248 : decode cX12_soonestOf 248 = .ok (.getfield 68, 3) := dget daX12_soonestOf_3 19 (q := (248, .getfield 68, 3)) rfl
theorem dX12_soonestOf_251 : decode cX12_soonestOf 251 = .ok (.iload 7, 2) := dget daX12_soonestOf_3 20 (q := (251, .iload 7, 2)) rfl
theorem dX12_soonestOf_253 : decode cX12_soonestOf 253 = .ok (.aload_n 0, 1) := dget daX12_soonestOf_3 21 (q := (253, .aload_n 0, 1)) rfl
theorem dX12_soonestOf_254 : decode cX12_soonestOf 254 = .ok (.getfield 68, 3) := dget daX12_soonestOf_3 22 (q := (254, .getfield 68, 3)) rfl
theorem dX12_soonestOf_257 : decode cX12_soonestOf 257 = .ok (.iload 7, 2) := dget daX12_soonestOf_3 23 (q := (257, .iload 7, 2)) rfl
theorem dX12_soonestOf_259 : decode cX12_soonestOf 259 = .ok (.baload, 1) := dget daX12_soonestOf_3 24 (q := (259, .baload, 1)) rfl
theorem dX12_soonestOf_260 : decode cX12_soonestOf 260 = .ok (.ifCond .ne 8, 3) := dget daX12_soonestOf_3 25 (q := (260, .ifCond .ne 8, 3)) rfl
theorem dX12_soonestOf_263 : decode cX12_soonestOf 263 = .ok (.iload 8, 2) := dget daX12_soonestOf_3 26 (q := (263, .iload 8, 2)) rfl
theorem dX12_soonestOf_265 : decode cX12_soonestOf 265 = .ok (.ifCond .eq 7, 3) := dget daX12_soonestOf_3 27 (q := (265, .ifCond .eq 7, 3)) rfl
theorem dX12_soonestOf_268 : decode cX12_soonestOf 268 = .ok (.iconst 1, 1) := dget daX12_soonestOf_3 28 (q := (268, .iconst 1, 1)) rfl
theorem dX12_soonestOf_269 : decode cX12_soonestOf 269 = .ok (.goto 4, 3) := dget daX12_soonestOf_3 29 (q := (269, .goto 4, 3)) rfl
theorem dX12_soonestOf_272 : decode cX12_soonestOf 272 = .ok (.iconst 0, 1) := dget daX12_soonestOf_3 30 (q := (272, .iconst 0, 1)) rfl
theorem dX12_soonestOf_273 : decode cX12_soonestOf 273 = .ok (.bastore, 1) := dget daX12_soonestOf_3 31 (q := (273, .bastore, 1)) rfl
theorem dX12_soonestOf_274 : decode cX12_soonestOf 274 = .ok (.iload 5, 2) := dget daX12_soonestOf_3 32 (q := (274, .iload 5, 2)) rfl
theorem dX12_soonestOf_276 : decode cX12_soonestOf 276 = .ok (.ifCond .ne 8, 3) := dget daX12_soonestOf_3 33 (q := (276, .ifCond .ne 8, 3)) rfl
theorem dX12_soonestOf_279 : decode cX12_soonestOf 279 = .ok (.iload 8, 2) := dget daX12_soonestOf_3 34 (q := (279, .iload 8, 2)) rfl
theorem dX12_soonestOf_281 : decode cX12_soonestOf 281 = .ok (.ifCond .eq 7, 3) := dget daX12_soonestOf_3 35 (q := (281, .ifCond .eq 7, 3)) rfl
theorem dX12_soonestOf_284 : decode cX12_soonestOf 284 = .ok (.iconst 1, 1) := dget daX12_soonestOf_3 36 (q := (284, .iconst 1, 1)) rfl
theorem dX12_soonestOf_285 : decode cX12_soonestOf 285 = .ok (.goto 4, 3) := dget daX12_soonestOf_3 37 (q := (285, .goto 4, 3)) rfl
theorem dX12_soonestOf_288 : decode cX12_soonestOf 288 = .ok (.iconst 0, 1) := dget daX12_soonestOf_3 38 (q := (288, .iconst 0, 1)) rfl
theorem dX12_soonestOf_289 : decode cX12_soonestOf 289 = .ok (.istore 5, 2) := dget daX12_soonestOf_3 39 (q := (289, .istore 5, 2)) rfl
def tdaX12_soonestOf_4 : List (Nat × (Instr × Nat)) := [(291, .iinc 7 1, 3), (294, .goto (-132), 3), (297, .iinc 6 1, 3), (300, .goto (-150), 3), (303, .goto (-164), 3), (306, .bipush (-9), 2), (308, .istore 6, 2), (310, .iconst 0, 1), (311, .istore 7, 2), (313, .iload 7, 2), (315, .aload_n 0, 1), (316, .getfield 160, 3), (319, .if_icmp .ge 80, 3), (322, .aload_n 0, 1), (323, .getfield 68, 3), (326, .iload 7, 2), (328, .baload, 1), (329, .ifCond .eq 27, 3), (332, .aload_n 0, 1), (333, .getfield 25, 3), (336, .iload 7, 2), (338, .iaload, 1), (339, .aload_n 0, 1), (340, .getfield 25, 3), (343, .aload_n 0, 1), (344, .iload_n 1, 1), (345, .invokevirtual 232, 3), (348, .iaload, 1), (349, .if_icmp .ne 7, 3), (352, .iconst 1, 1), (353, .goto 4, 3), (356, .iconst 0, 1), (357, .istore 8, 2), (359, .iload 8, 2), (361, .ifCond .eq 28, 3), (364, .iload 6, 2), (366, .ifCond .lt 14, 3), (369, .aload_n 0, 1), (370, .iload 7, 2), (372, .invokevirtual 190, 3)]
theorem daX12_soonestOf_4 : tdaX12_soonestOf_4.all (fun q => decide (decode cX12_soonestOf q.1 = .ok q.2)) = true := by decide +kernel
theorem dX12_soonestOf_291 : decode cX12_soonestOf 291 = .ok (.iinc 7 1, 3) := dget daX12_soonestOf_4 0 (q := (291, .iinc 7 1, 3)) rfl
theorem dX12_soonestOf_294 : decode cX12_soonestOf 294 = .ok (.goto (-132), 3) := dget daX12_soonestOf_4 1 (q := (294, .goto (-132), 3)) rfl
theorem dX12_soonestOf_297 : decode cX12_soonestOf 297 = .ok (.iinc 6 1, 3) := dget daX12_soonestOf_4 2 (q := (297, .iinc 6 1, 3)) rfl
theorem dX12_soonestOf_300 : decode cX12_soonestOf 300 = .ok (.goto (-150), 3) := dget daX12_soonestOf_4 3 (q := (300, .goto (-150), 3)) rfl
theorem dX12_soonestOf_303 : decode cX12_soonestOf 303 = .ok (.goto (-164), 3) := dget daX12_soonestOf_4 4 (q := (303, .goto (-164), 3)) rfl
theorem dX12_soonestOf_306 : decode cX12_soonestOf 306 = .ok (.bipush (-9), 2) := dget daX12_soonestOf_4 5 (q := (306, .bipush (-9), 2)) rfl
theorem dX12_soonestOf_308 : decode cX12_soonestOf 308 = .ok (.istore 6, 2) := dget daX12_soonestOf_4 6 (q := (308, .istore 6, 2)) rfl
theorem dX12_soonestOf_310 : decode cX12_soonestOf 310 = .ok (.iconst 0, 1) := dget daX12_soonestOf_4 7 (q := (310, .iconst 0, 1)) rfl
theorem dX12_soonestOf_311 : decode cX12_soonestOf 311 = .ok (.istore 7, 2) := dget daX12_soonestOf_4 8 (q := (311, .istore 7, 2)) rfl
theorem dX12_soonestOf_313 : decode cX12_soonestOf 313 = .ok (.iload 7, 2) := dget daX12_soonestOf_4 9 (q := (313, .iload 7, 2)) rfl
theorem dX12_soonestOf_315 : decode cX12_soonestOf 315 = .ok (.aload_n 0, 1) := dget daX12_soonestOf_4 10 (q := (315, .aload_n 0, 1)) rfl
theorem dX12_soonestOf_316 : decode cX12_soonestOf 316 = .ok (.getfield 160, 3) := dget daX12_soonestOf_4 11 (q := (316, .getfield 160, 3)) rfl
theorem dX12_soonestOf_319 : decode cX12_soonestOf 319 = .ok (.if_icmp .ge 80, 3) := dget daX12_soonestOf_4 12 (q := (319, .if_icmp .ge 80, 3)) rfl
theorem dX12_soonestOf_322 : decode cX12_soonestOf 322 = .ok (.aload_n 0, 1) := dget daX12_soonestOf_4 13 (q := (322, .aload_n 0, 1)) rfl
theorem dX12_soonestOf_323 : decode cX12_soonestOf 323 = .ok (.getfield 68, 3) := dget daX12_soonestOf_4 14 (q := (323, .getfield 68, 3)) rfl
theorem dX12_soonestOf_326 : decode cX12_soonestOf 326 = .ok (.iload 7, 2) := dget daX12_soonestOf_4 15 (q := (326, .iload 7, 2)) rfl
theorem dX12_soonestOf_328 : decode cX12_soonestOf 328 = .ok (.baload, 1) := dget daX12_soonestOf_4 16 (q := (328, .baload, 1)) rfl
theorem dX12_soonestOf_329 : decode cX12_soonestOf 329 = .ok (.ifCond .eq 27, 3) := dget daX12_soonestOf_4 17 (q := (329, .ifCond .eq 27, 3)) rfl
theorem dX12_soonestOf_332 : decode cX12_soonestOf 332 = .ok (.aload_n 0, 1) := dget daX12_soonestOf_4 18 (q := (332, .aload_n 0, 1)) rfl
theorem dX12_soonestOf_333 : decode cX12_soonestOf 333 = .ok (.getfield 25, 3) := dget daX12_soonestOf_4 19 (q := (333, .getfield 25, 3)) rfl
theorem dX12_soonestOf_336 : decode cX12_soonestOf 336 = .ok (.iload 7, 2) := dget daX12_soonestOf_4 20 (q := (336, .iload 7, 2)) rfl
theorem dX12_soonestOf_338 : decode cX12_soonestOf 338 = .ok (.iaload, 1) := dget daX12_soonestOf_4 21 (q := (338, .iaload, 1)) rfl
theorem dX12_soonestOf_339 : decode cX12_soonestOf 339 = .ok (.aload_n 0, 1) := dget daX12_soonestOf_4 22 (q := (339, .aload_n 0, 1)) rfl
theorem dX12_soonestOf_340 : decode cX12_soonestOf 340 = .ok (.getfield 25, 3) := dget daX12_soonestOf_4 23 (q := (340, .getfield 25, 3)) rfl
theorem dX12_soonestOf_343 : decode cX12_soonestOf 343 = .ok (.aload_n 0, 1) := dget daX12_soonestOf_4 24 (q := (343, .aload_n 0, 1)) rfl
theorem dX12_soonestOf_344 : decode cX12_soonestOf 344 = .ok (.iload_n 1, 1) := dget daX12_soonestOf_4 25 (q := (344, .iload_n 1, 1)) rfl
theorem dX12_soonestOf_345 : decode cX12_soonestOf 345 = .ok (.invokevirtual 232, 3) := dget daX12_soonestOf_4 26 (q := (345, .invokevirtual 232, 3)) rfl
theorem dX12_soonestOf_348 : decode cX12_soonestOf 348 = .ok (.iaload, 1) := dget daX12_soonestOf_4 27 (q := (348, .iaload, 1)) rfl
theorem dX12_soonestOf_349 : decode cX12_soonestOf 349 = .ok (.if_icmp .ne 7, 3) := dget daX12_soonestOf_4 28 (q := (349, .if_icmp .ne 7, 3)) rfl
theorem dX12_soonestOf_352 : decode cX12_soonestOf 352 = .ok (.iconst 1, 1) := dget daX12_soonestOf_4 29 (q := (352, .iconst 1, 1)) rfl
theorem dX12_soonestOf_353 : decode cX12_soonestOf 353 = .ok (.goto 4, 3) := dget daX12_soonestOf_4 30 (q := (353, .goto 4, 3)) rfl
theorem dX12_soonestOf_356 : decode cX12_soonestOf 356 = .ok (.iconst 0, 1) := dget daX12_soonestOf_4 31 (q := (356, .iconst 0, 1)) rfl
theorem dX12_soonestOf_357 : decode cX12_soonestOf 357 = .ok (.istore 8, 2) := dget daX12_soonestOf_4 32 (q := (357, .istore 8, 2)) rfl
theorem dX12_soonestOf_359 : decode cX12_soonestOf 359 = .ok (.iload 8, 2) := dget daX12_soonestOf_4 33 (q := (359, .iload 8, 2)) rfl
theorem dX12_soonestOf_361 : decode cX12_soonestOf 361 = .ok (.ifCond .eq 28, 3) := dget daX12_soonestOf_4 34 (q := (361, .ifCond .eq 28, 3)) rfl
theorem dX12_soonestOf_364 : decode cX12_soonestOf 364 = .ok (.iload 6, 2) := dget daX12_soonestOf_4 35 (q := (364, .iload 6, 2)) rfl
theorem dX12_soonestOf_366 : decode cX12_soonestOf 366 = .ok (.ifCond .lt 14, 3) := dget daX12_soonestOf_4 36 (q := (366, .ifCond .lt 14, 3)) rfl
theorem dX12_soonestOf_369 : decode cX12_soonestOf 369 = .ok (.aload_n 0, 1) := dget daX12_soonestOf_4 37 (q := (369, .aload_n 0, 1)) rfl
theorem dX12_soonestOf_370 : decode cX12_soonestOf 370 = .ok (.iload 7, 2) := dget daX12_soonestOf_4 38 (q := (370, .iload 7, 2)) rfl
theorem dX12_soonestOf_372 : decode cX12_soonestOf 372 = .ok (.invokevirtual 190, 3) := dget daX12_soonestOf_4 39 (q := (372, .invokevirtual 190, 3)) rfl
