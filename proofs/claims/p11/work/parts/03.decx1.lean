def tdaX10_soonestBy_1 : List (Nat × (Instr × Nat)) := [(78, .if_icmp .eq 13, 3), (81, .aload 8, 2), (83, .getfield 98, 3), (86, .iload 6, 2), (88, .if_icmp .ge 10, 3), (91, .aload 8, 2), (93, .getfield 98, 3), (96, .istore 6, 2), (98, .aload_n 0, 1), (99, .iload 5, 2), (101, .aload 8, 2), (103, .getfield 52, 3), (106, .aload 8, 2), (108, .getfield 98, 3), (111, .iload 4, 2), (113, .iadd, 1), (114, .invokevirtual 94, 3), (117, .istore 5, 2), (119, .iinc 7 1, 3), (122, .goto (-80), 3), (125, .iload 6, 2), (127, .ireturn, 1)]
theorem daX10_soonestBy_1 : tdaX10_soonestBy_1.all (fun q => decide (decode cX10_soonestBy q.1 = .ok q.2)) = true := by decide +kernel
theorem dX10_soonestBy_78 : decode cX10_soonestBy 78 = .ok (.if_icmp .eq 13, 3) := dget daX10_soonestBy_1 0 (q := (78, .if_icmp .eq 13, 3)) rfl
theorem dX10_soonestBy_81 : decode cX10_soonestBy 81 = .ok (.aload 8, 2) := dget daX10_soonestBy_1 1 (q := (81, .aload 8, 2)) rfl
theorem dX10_soonestBy_83 : decode cX10_soonestBy 83 = .ok (.getfield 98, 3) := dget daX10_soonestBy_1 2 (q := (83, .getfield 98, 3)) rfl
theorem dX10_soonestBy_86 : decode cX10_soonestBy 86 = .ok (.iload 6, 2) := dget daX10_soonestBy_1 3 (q := (86, .iload 6, 2)) rfl
theorem dX10_soonestBy_88 : decode cX10_soonestBy 88 = .ok (.if_icmp .ge 10, 3) := dget daX10_soonestBy_1 4 (q := (88, .if_icmp .ge 10, 3)) rfl
theorem dX10_soonestBy_91 : decode cX10_soonestBy 91 = .ok (.aload 8, 2) := dget daX10_soonestBy_1 5 (q := (91, .aload 8, 2)) rfl
theorem dX10_soonestBy_93 : decode cX10_soonestBy 93 = .ok (.getfield 98, 3) := dget daX10_soonestBy_1 6 (q := (93, .getfield 98, 3)) rfl
theorem dX10_soonestBy_96 : decode cX10_soonestBy 96 = .ok (.istore 6, 2) := dget daX10_soonestBy_1 7 (q := (96, .istore 6, 2)) rfl
theorem dX10_soonestBy_98 : decode cX10_soonestBy 98 = .ok (.aload_n 0, 1) := dget daX10_soonestBy_1 8 (q := (98, .aload_n 0, 1)) rfl
theorem dX10_soonestBy_99 : decode cX10_soonestBy 99 = .ok (.iload 5, 2) := dget daX10_soonestBy_1 9 (q := (99, .iload 5, 2)) rfl
theorem dX10_soonestBy_101 : decode cX10_soonestBy 101 = .ok (.aload 8, 2) := dget daX10_soonestBy_1 10 (q := (101, .aload 8, 2)) rfl
theorem dX10_soonestBy_103 : decode cX10_soonestBy 103 = .ok (.getfield 52, 3) := dget daX10_soonestBy_1 11 (q := (103, .getfield 52, 3)) rfl
theorem dX10_soonestBy_106 : decode cX10_soonestBy 106 = .ok (.aload 8, 2) := dget daX10_soonestBy_1 12 (q := (106, .aload 8, 2)) rfl
theorem dX10_soonestBy_108 : decode cX10_soonestBy 108 = .ok (.getfield 98, 3) := dget daX10_soonestBy_1 13 (q := (108, .getfield 98, 3)) rfl
theorem dX10_soonestBy_111 : decode cX10_soonestBy 111 = .ok (.iload 4, 2) := dget daX10_soonestBy_1 14 (q := (111, .iload 4, 2)) rfl
theorem dX10_soonestBy_113 : decode cX10_soonestBy 113 = .ok (.iadd, 1) := dget daX10_soonestBy_1 15 (q := (113, .iadd, 1)) rfl
theorem dX10_soonestBy_114 : decode cX10_soonestBy 114 = .ok (.invokevirtual 94, 3) := dget daX10_soonestBy_1 16 (q := (114, .invokevirtual 94, 3)) rfl
theorem dX10_soonestBy_117 : decode cX10_soonestBy 117 = .ok (.istore 5, 2) := dget daX10_soonestBy_1 17 (q := (117, .istore 5, 2)) rfl
theorem dX10_soonestBy_119 : decode cX10_soonestBy 119 = .ok (.iinc 7 1, 3) := dget daX10_soonestBy_1 18 (q := (119, .iinc 7 1, 3)) rfl
theorem dX10_soonestBy_122 : decode cX10_soonestBy 122 = .ok (.goto (-80), 3) := dget daX10_soonestBy_1 19 (q := (122, .goto (-80), 3)) rfl
theorem dX10_soonestBy_125 : decode cX10_soonestBy 125 = .ok (.iload 6, 2) := dget daX10_soonestBy_1 20 (q := (125, .iload 6, 2)) rfl
theorem dX10_soonestBy_127 : decode cX10_soonestBy 127 = .ok (.ireturn, 1) := dget daX10_soonestBy_1 21 (q := (127, .ireturn, 1)) rfl
def tdaX10_reach_0 : List (Nat × (Instr × Nat)) := [(0, .iload_n 1, 1), (1, .istore 4, 2), (3, .iconst 0, 1), (4, .istore 5, 2), (6, .iload 5, 2), (8, .aload_n 0, 1), (9, .getfield 28, 3), (12, .if_icmp .ge 84, 3), (15, .iload 4, 2), (17, .bipush 40, 2), (19, .if_icmp .ge 77, 3), (22, .aload_n 0, 1), (23, .getfield 13, 3), (26, .iload 5, 2), (28, .aaload, 1), (29, .astore 6, 2), (31, .aload_n 0, 1), (32, .getfield 21, 3), (35, .iload 5, 2), (37, .baload, 1), (38, .ifCond .ne 52, 3), (41, .aload 6, 2), (43, .getfield 39, 3), (46, .ifCond .eq 44, 3), (49, .aload 6, 2), (51, .getfield 56, 3), (54, .aload_n 2, 1), (55, .if_acmp .ne 35, 3), (58, .aload 6, 2), (60, .getfield 101, 3), (63, .iload_n 3, 1), (64, .if_icmp .ge 6, 3), (67, .goto 23, 3), (70, .aload_n 0, 1), (71, .getfield 21, 3), (74, .iload 5, 2), (76, .iconst 1, 1), (77, .bastore, 1), (78, .aload_n 0, 1), (79, .getfield 25, 3)]
theorem daX10_reach_0 : tdaX10_reach_0.all (fun q => decide (decode cX10_reach q.1 = .ok q.2)) = true := by decide +kernel
theorem dX10_reach_0 : decode cX10_reach 0 = .ok (.iload_n 1, 1) := dget daX10_reach_0 0 (q := (0, .iload_n 1, 1)) rfl
theorem dX10_reach_1 : decode cX10_reach 1 = .ok (.istore 4, 2) := dget daX10_reach_0 1 (q := (1, .istore 4, 2)) rfl
theorem dX10_reach_3 : decode cX10_reach 3 = .ok (.iconst 0, 1) := dget daX10_reach_0 2 (q := (3, .iconst 0, 1)) rfl
theorem dX10_reach_4 : decode cX10_reach 4 = .ok (.istore 5, 2) := dget daX10_reach_0 3 (q := (4, .istore 5, 2)) rfl
theorem dX10_reach_6 : decode cX10_reach 6 = .ok (.iload 5, 2) := dget daX10_reach_0 4 (q := (6, .iload 5, 2)) rfl
theorem dX10_reach_8 : decode cX10_reach 8 = .ok (.aload_n 0, 1) := dget daX10_reach_0 5 (q := (8, .aload_n 0, 1)) rfl
theorem dX10_reach_9 : decode cX10_reach 9 = .ok (.getfield 28, 3) := dget daX10_reach_0 6 (q := (9, .getfield 28, 3)) rfl
theorem dX10_reach_12 : decode cX10_reach 12 = .ok (.if_icmp .ge 84, 3) := dget daX10_reach_0 7 (q := (12, .if_icmp .ge 84, 3)) rfl
theorem dX10_reach_15 : decode cX10_reach 15 = .ok (.iload 4, 2) := dget daX10_reach_0 8 (q := (15, .iload 4, 2)) rfl
theorem dX10_reach_17 : decode cX10_reach 17 = .ok (.bipush 40, 2) := dget daX10_reach_0 9 (q := (17, .bipush 40, 2)) rfl
theorem dX10_reach_19 : decode cX10_reach 19 = .ok (.if_icmp .ge 77, 3) := dget daX10_reach_0 10 (q := (19, .if_icmp .ge 77, 3)) rfl
theorem dX10_reach_22 : decode cX10_reach 22 = .ok (.aload_n 0, 1) := dget daX10_reach_0 11 (q := (22, .aload_n 0, 1)) rfl
theorem dX10_reach_23 : decode cX10_reach 23 = .ok (.getfield 13, 3) := dget daX10_reach_0 12 (q := (23, .getfield 13, 3)) rfl
theorem dX10_reach_26 : decode cX10_reach 26 = .ok (.iload 5, 2) := dget daX10_reach_0 13 (q := (26, .iload 5, 2)) rfl
theorem dX10_reach_28 : decode cX10_reach 28 = .ok (.aaload, 1) := dget daX10_reach_0 14 (q := (28, .aaload, 1)) rfl
theorem dX10_reach_29 : decode cX10_reach 29 = .ok (.astore 6, 2) := dget daX10_reach_0 15 (q := (29, .astore 6, 2)) rfl
theorem dX10_reach_31 : decode cX10_reach 31 = .ok (.aload_n 0, 1) := dget daX10_reach_0 16 (q := (31, .aload_n 0, 1)) rfl
theorem dX10_reach_32 : decode cX10_reach 32 = .ok (.getfield 21, 3) := dget daX10_reach_0 17 (q := (32, .getfield 21, 3)) rfl
theorem dX10_reach_35 : decode cX10_reach 35 = .ok (.iload 5, 2) := dget daX10_reach_0 18 (q := (35, .iload 5, 2)) rfl
theorem dX10_reach_37 : decode cX10_reach 37 = .ok (.baload, 1) := dget daX10_reach_0 19 (q := (37, .baload, 1)) rfl
theorem dX10_reach_38 : decode cX10_reach 38 = .ok (.ifCond .ne 52, 3) := dget daX10_reach_0 20 (q := (38, .ifCond .ne 52, 3)) rfl
theorem dX10_reach_41 : decode cX10_reach 41 = .ok (.aload 6, 2) := dget daX10_reach_0 21 (q := (41, .aload 6, 2)) rfl
theorem dX10_reach_43 : decode cX10_reach 43 = .ok (.getfield 39, 3) := dget daX10_reach_0 22 (q := (43, .getfield 39, 3)) rfl
theorem dX10_reach_46 : decode cX10_reach 46 = .ok (.ifCond .eq 44, 3) := dget daX10_reach_0 23 (q := (46, .ifCond .eq 44, 3)) rfl
theorem dX10_reach_49 : decode cX10_reach 49 = .ok (.aload 6, 2) := dget daX10_reach_0 24 (q := (49, .aload 6, 2)) rfl
theorem dX10_reach_51 : decode cX10_reach 51 = .ok (.getfield 56, 3) := dget daX10_reach_0 25 (q := (51, .getfield 56, 3)) rfl
theorem dX10_reach_54 : decode cX10_reach 54 = .ok (.aload_n 2, 1) := dget daX10_reach_0 26 (q := (54, .aload_n 2, 1)) rfl
theorem dX10_reach_55 : decode cX10_reach 55 = .ok (.if_acmp .ne 35, 3) := dget daX10_reach_0 27 (q := (55, .if_acmp .ne 35, 3)) rfl
theorem dX10_reach_58 : decode cX10_reach 58 = .ok (.aload 6, 2) := dget daX10_reach_0 28 (q := (58, .aload 6, 2)) rfl
theorem dX10_reach_60 : decode cX10_reach 60 = .ok (.getfield 101, 3) := dget daX10_reach_0 29 (q := (60, .getfield 101, 3)) rfl
theorem dX10_reach_63 : decode cX10_reach 63 = .ok (.iload_n 3, 1) := dget daX10_reach_0 30 (q := (63, .iload_n 3, 1)) rfl
theorem dX10_reach_64 : decode cX10_reach 64 = .ok (.if_icmp .ge 6, 3) := dget daX10_reach_0 31 (q := (64, .if_icmp .ge 6, 3)) rfl
theorem dX10_reach_67 : decode cX10_reach 67 = .ok (.goto 23, 3) := dget daX10_reach_0 32 (q := (67, .goto 23, 3)) rfl
theorem dX10_reach_70 : decode cX10_reach 70 = .ok (.aload_n 0, 1) := dget daX10_reach_0 33 (q := (70, .aload_n 0, 1)) rfl
theorem dX10_reach_71 : decode cX10_reach 71 = .ok (.getfield 21, 3) := dget daX10_reach_0 34 (q := (71, .getfield 21, 3)) rfl
theorem dX10_reach_74 : decode cX10_reach 74 = .ok (.iload 5, 2) := dget daX10_reach_0 35 (q := (74, .iload 5, 2)) rfl
theorem dX10_reach_76 : decode cX10_reach 76 = .ok (.iconst 1, 1) := dget daX10_reach_0 36 (q := (76, .iconst 1, 1)) rfl
theorem dX10_reach_77 : decode cX10_reach 77 = .ok (.bastore, 1) := dget daX10_reach_0 37 (q := (77, .bastore, 1)) rfl
theorem dX10_reach_78 : decode cX10_reach 78 = .ok (.aload_n 0, 1) := dget daX10_reach_0 38 (q := (78, .aload_n 0, 1)) rfl
theorem dX10_reach_79 : decode cX10_reach 79 = .ok (.getfield 25, 3) := dget daX10_reach_0 39 (q := (79, .getfield 25, 3)) rfl
def tdaX10_reach_1 : List (Nat × (Instr × Nat)) := [(82, .iload 4, 2), (84, .aload 6, 2), (86, .aastore, 1), (87, .iinc 4 1, 3), (90, .iinc 5 1, 3), (93, .goto (-87), 3), (96, .iload 4, 2), (98, .ireturn, 1)]
theorem daX10_reach_1 : tdaX10_reach_1.all (fun q => decide (decode cX10_reach q.1 = .ok q.2)) = true := by decide +kernel
theorem dX10_reach_82 : decode cX10_reach 82 = .ok (.iload 4, 2) := dget daX10_reach_1 0 (q := (82, .iload 4, 2)) rfl
theorem dX10_reach_84 : decode cX10_reach 84 = .ok (.aload 6, 2) := dget daX10_reach_1 1 (q := (84, .aload 6, 2)) rfl
theorem dX10_reach_86 : decode cX10_reach 86 = .ok (.aastore, 1) := dget daX10_reach_1 2 (q := (86, .aastore, 1)) rfl
theorem dX10_reach_87 : decode cX10_reach 87 = .ok (.iinc 4 1, 3) := dget daX10_reach_1 3 (q := (87, .iinc 4 1, 3)) rfl
theorem dX10_reach_90 : decode cX10_reach 90 = .ok (.iinc 5 1, 3) := dget daX10_reach_1 4 (q := (90, .iinc 5 1, 3)) rfl
theorem dX10_reach_93 : decode cX10_reach 93 = .ok (.goto (-87), 3) := dget daX10_reach_1 5 (q := (93, .goto (-87), 3)) rfl
theorem dX10_reach_96 : decode cX10_reach 96 = .ok (.iload 4, 2) := dget daX10_reach_1 6 (q := (96, .iload 4, 2)) rfl
theorem dX10_reach_98 : decode cX10_reach 98 = .ok (.ireturn, 1) := dget daX10_reach_1 7 (q := (98, .ireturn, 1)) rfl
def tdaX11_init_0 : List (Nat × (Instr × Nat)) := [(0, .aload_n 0, 1), (1, .invokespecial 1, 3), (4, .aload_n 0, 1), (5, .new 7, 3), (8, .dup, 1), (9, .invokespecial 9, 3), (12, .putfield 10, 3), (15, .aload_n 0, 1), (16, .new 16, 3), (19, .dup, 1), (20, .invokespecial 18, 3), (23, .putfield 19, 3), (26, .aload_n 0, 1), (27, .new 23, 3), (30, .dup, 1), (31, .invokespecial 25, 3), (34, .putfield 26, 3), (37, .aload_n 0, 1), (38, .new 30, 3), (41, .dup, 1), (42, .invokespecial 32, 3), (45, .putfield 33, 3), (48, .aload_n 0, 1), (49, .new 37, 3), (52, .dup, 1), (53, .invokespecial 39, 3), (56, .putfield 40, 3), (59, .aload_n 0, 1), (60, .new 44, 3), (63, .dup, 1), (64, .invokespecial 46, 3), (67, .putfield 47, 3), (70, .aload_n 0, 1), (71, .new 51, 3), (74, .dup, 1), (75, .invokespecial 53, 3), (78, .putfield 54, 3), (81, .aload_n 0, 1), (82, .getstatic 58, 3), (85, .invokevirtual 62, 3)]
theorem daX11_init_0 : tdaX11_init_0.all (fun q => decide (decode cX11_init q.1 = .ok q.2)) = true := by decide +kernel
theorem dX11_init_0 : decode cX11_init 0 = .ok (.aload_n 0, 1) := dget daX11_init_0 0 (q := (0, .aload_n 0, 1)) rfl
theorem dX11_init_1 : decode cX11_init 1 = .ok (.invokespecial 1, 3) := dget daX11_init_0 1 (q := (1, .invokespecial 1, 3)) rfl
theorem dX11_init_4 : decode cX11_init 4 = .ok (.aload_n 0, 1) := dget daX11_init_0 2 (q := (4, .aload_n 0, 1)) rfl
theorem dX11_init_5 : decode cX11_init 5 = .ok (.new 7, 3) := dget daX11_init_0 3 (q := (5, .new 7, 3)) rfl
theorem dX11_init_8 : decode cX11_init 8 = .ok (.dup, 1) := dget daX11_init_0 4 (q := (8, .dup, 1)) rfl
theorem dX11_init_9 : decode cX11_init 9 = .ok (.invokespecial 9, 3) := dget daX11_init_0 5 (q := (9, .invokespecial 9, 3)) rfl
theorem dX11_init_12 : decode cX11_init 12 = .ok (.putfield 10, 3) := dget daX11_init_0 6 (q := (12, .putfield 10, 3)) rfl
theorem dX11_init_15 : decode cX11_init 15 = .ok (.aload_n 0, 1) := dget daX11_init_0 7 (q := (15, .aload_n 0, 1)) rfl
theorem dX11_init_16 : decode cX11_init 16 = .ok (.new 16, 3) := dget daX11_init_0 8 (q := (16, .new 16, 3)) rfl
theorem dX11_init_19 : decode cX11_init 19 = .ok (.dup, 1) := dget daX11_init_0 9 (q := (19, .dup, 1)) rfl
theorem dX11_init_20 : decode cX11_init 20 = .ok (.invokespecial 18, 3) := dget daX11_init_0 10 (q := (20, .invokespecial 18, 3)) rfl
theorem dX11_init_23 : decode cX11_init 23 = .ok (.putfield 19, 3) := dget daX11_init_0 11 (q := (23, .putfield 19, 3)) rfl
theorem dX11_init_26 : decode cX11_init 26 = .ok (.aload_n 0, 1) := dget daX11_init_0 12 (q := (26, .aload_n 0, 1)) rfl
theorem dX11_init_27 : decode cX11_init 27 = .ok (.new 23, 3) := dget daX11_init_0 13 (q := (27, .new 23, 3)) rfl
theorem dX11_init_30 : decode cX11_init 30 = .ok (.dup, 1) := dget daX11_init_0 14 (q := (30, .dup, 1)) rfl
theorem dX11_init_31 : decode cX11_init 31 = .ok (.invokespecial 25, 3) := dget daX11_init_0 15 (q := (31, .invokespecial 25, 3)) rfl
theorem dX11_init_34 : decode cX11_init 34 = .ok (.putfield 26, 3) := dget daX11_init_0 16 (q := (34, .putfield 26, 3)) rfl
theorem dX11_init_37 : decode cX11_init 37 = .ok (.aload_n 0, 1) := dget daX11_init_0 17 (q := (37, .aload_n 0, 1)) rfl
theorem dX11_init_38 : decode cX11_init 38 = .ok (.new 30, 3) := dget daX11_init_0 18 (q := (38, .new 30, 3)) rfl
theorem dX11_init_41 : decode cX11_init 41 = .ok (.dup, 1) := dget daX11_init_0 19 (q := (41, .dup, 1)) rfl
theorem dX11_init_42 : decode cX11_init 42 = .ok (.invokespecial 32, 3) := dget daX11_init_0 20 (q := (42, .invokespecial 32, 3)) rfl
theorem dX11_init_45 : decode cX11_init 45 = .ok (.putfield 33, 3) := dget daX11_init_0 21 (q := (45, .putfield 33, 3)) rfl
theorem dX11_init_48 : decode cX11_init 48 = .ok (.aload_n 0, 1) := dget daX11_init_0 22 (q := (48, .aload_n 0, 1)) rfl
theorem dX11_init_49 : decode cX11_init 49 = .ok (.new 37, 3) := dget daX11_init_0 23 (q := (49, .new 37, 3)) rfl
theorem dX11_init_52 : decode cX11_init 52 = .ok (.dup, 1) := dget daX11_init_0 24 (q := (52, .dup, 1)) rfl
theorem dX11_init_53 : decode cX11_init 53 = .ok (.invokespecial 39, 3) := dget daX11_init_0 25 (q := (53, .invokespecial 39, 3)) rfl
theorem dX11_init_56 : decode cX11_init 56 = .ok (.putfield 40, 3) := dget daX11_init_0 26 (q := (56, .putfield 40, 3)) rfl
theorem dX11_init_59 : decode cX11_init 59 = .ok (.aload_n 0, 1) := dget daX11_init_0 27 (q := (59, .aload_n 0, 1)) rfl
theorem dX11_init_60 : decode cX11_init 60 = .ok (.new 44, 3) := dget daX11_init_0 28 (q := (60, .new 44, 3)) rfl
theorem dX11_init_63 : decode cX11_init 63 = .ok (.dup, 1) := dget daX11_init_0 29 (q := (63, .dup, 1)) rfl
theorem dX11_init_64 : decode cX11_init 64 = .ok (.invokespecial 46, 3) := dget daX11_init_0 30 (q := (64, .invokespecial 46, 3)) rfl
theorem dX11_init_67 : decode cX11_init 67 = .ok (.putfield 47, 3) := dget daX11_init_0 31 (q := (67, .putfield 47, 3)) rfl
theorem dX11_init_70 : decode cX11_init 70 = .ok (.aload_n 0, 1) := dget daX11_init_0 32 (q := (70, .aload_n 0, 1)) rfl
theorem dX11_init_71 : decode cX11_init 71 = .ok (.new 51, 3) := dget daX11_init_0 33 (q := (71, .new 51, 3)) rfl
theorem dX11_init_74 : decode cX11_init 74 = .ok (.dup, 1) := dget daX11_init_0 34 (q := (74, .dup, 1)) rfl
theorem dX11_init_75 : decode cX11_init 75 = .ok (.invokespecial 53, 3) := dget daX11_init_0 35 (q := (75, .invokespecial 53, 3)) rfl
theorem dX11_init_78 : decode cX11_init 78 = .ok (.putfield 54, 3) := dget daX11_init_0 36 (q := (78, .putfield 54, 3)) rfl
theorem dX11_init_81 : decode cX11_init 81 = .ok (.aload_n 0, 1) := dget daX11_init_0 37 (q := (81, .aload_n 0, 1)) rfl
theorem dX11_init_82 : decode cX11_init 82 = .ok (.getstatic 58, 3) := dget daX11_init_0 38 (q := (82, .getstatic 58, 3)) rfl
theorem dX11_init_85 : decode cX11_init 85 = .ok (.invokevirtual 62, 3) := dget daX11_init_0 39 (q := (85, .invokevirtual 62, 3)) rfl
def tdaX11_init_1 : List (Nat × (Instr × Nat)) := [(88, .checkcast 63, 3), (91, .putfield 67, 3), (94, .aload_n 0, 1), (95, .bipush 7, 2), (97, .newarray .int, 2), (99, .putfield 70, 3), (102, .aload_n 0, 1), (103, .iconst 0, 1), (104, .putfield 73, 3), (107, .return_, 1)]
theorem daX11_init_1 : tdaX11_init_1.all (fun q => decide (decode cX11_init q.1 = .ok q.2)) = true := by decide +kernel
theorem dX11_init_88 : decode cX11_init 88 = .ok (.checkcast 63, 3) := dget daX11_init_1 0 (q := (88, .checkcast 63, 3)) rfl
theorem dX11_init_91 : decode cX11_init 91 = .ok (.putfield 67, 3) := dget daX11_init_1 1 (q := (91, .putfield 67, 3)) rfl
theorem dX11_init_94 : decode cX11_init 94 = .ok (.aload_n 0, 1) := dget daX11_init_1 2 (q := (94, .aload_n 0, 1)) rfl
theorem dX11_init_95 : decode cX11_init 95 = .ok (.bipush 7, 2) := dget daX11_init_1 3 (q := (95, .bipush 7, 2)) rfl
theorem dX11_init_97 : decode cX11_init 97 = .ok (.newarray .int, 2) := dget daX11_init_1 4 (q := (97, .newarray .int, 2)) rfl
theorem dX11_init_99 : decode cX11_init 99 = .ok (.putfield 70, 3) := dget daX11_init_1 5 (q := (99, .putfield 70, 3)) rfl
theorem dX11_init_102 : decode cX11_init 102 = .ok (.aload_n 0, 1) := dget daX11_init_1 6 (q := (102, .aload_n 0, 1)) rfl
theorem dX11_init_103 : decode cX11_init 103 = .ok (.iconst 0, 1) := dget daX11_init_1 7 (q := (103, .iconst 0, 1)) rfl
theorem dX11_init_104 : decode cX11_init 104 = .ok (.putfield 73, 3) := dget daX11_init_1 8 (q := (104, .putfield 73, 3)) rfl
theorem dX11_init_107 : decode cX11_init 107 = .ok (.return_, 1) := dget daX11_init_1 9 (q := (107, .return_, 1)) rfl
def tdaX11_days_0 : List (Nat × (Instr × Nat)) := [(0, .iload_n 1, 1), (1, .ifCond .ge 10, 3), (4, .aload_n 0, 1), (5, .bipush (-4), 2), (7, .invokevirtual 77, 3), (10, .ireturn, 1), (11, .iload_n 1, 1), (12, .sipush 4000, 3), (15, .aload_n 0, 1), (16, .getfield 73, 3), (19, .isub, 1), (20, .if_icmp .le 10, 3), (23, .aload_n 0, 1), (24, .bipush (-6), 2), (26, .invokevirtual 77, 3), (29, .ireturn, 1), (30, .aload_n 0, 1), (31, .dup, 1), (32, .getfield 73, 3), (35, .iload_n 1, 1), (36, .iadd, 1), (37, .putfield 73, 3), (40, .aload_n 0, 1), (41, .getfield 73, 3), (44, .ireturn, 1)]
theorem daX11_days_0 : tdaX11_days_0.all (fun q => decide (decode cX11_days q.1 = .ok q.2)) = true := by decide +kernel
theorem dX11_days_0 : decode cX11_days 0 = .ok (.iload_n 1, 1) := dget daX11_days_0 0 (q := (0, .iload_n 1, 1)) rfl
theorem dX11_days_1 : decode cX11_days 1 = .ok (.ifCond .ge 10, 3) := dget daX11_days_0 1 (q := (1, .ifCond .ge 10, 3)) rfl
theorem dX11_days_4 : decode cX11_days 4 = .ok (.aload_n 0, 1) := dget daX11_days_0 2 (q := (4, .aload_n 0, 1)) rfl
theorem dX11_days_5 : decode cX11_days 5 = .ok (.bipush (-4), 2) := dget daX11_days_0 3 (q := (5, .bipush (-4), 2)) rfl
theorem dX11_days_7 : decode cX11_days 7 = .ok (.invokevirtual 77, 3) := dget daX11_days_0 4 (q := (7, .invokevirtual 77, 3)) rfl
theorem dX11_days_10 : decode cX11_days 10 = .ok (.ireturn, 1) := dget daX11_days_0 5 (q := (10, .ireturn, 1)) rfl
theorem dX11_days_11 : decode cX11_days 11 = .ok (.iload_n 1, 1) := dget daX11_days_0 6 (q := (11, .iload_n 1, 1)) rfl
theorem dX11_days_12 : decode cX11_days 12 = .ok (.sipush 4000, 3) := dget daX11_days_0 7 (q := (12, .sipush 4000, 3)) rfl
theorem dX11_days_15 : decode cX11_days 15 = .ok (.aload_n 0, 1) := dget daX11_days_0 8 (q := (15, .aload_n 0, 1)) rfl
theorem dX11_days_16 : decode cX11_days 16 = .ok (.getfield 73, 3) := dget daX11_days_0 9 (q := (16, .getfield 73, 3)) rfl
theorem dX11_days_19 : decode cX11_days 19 = .ok (.isub, 1) := dget daX11_days_0 10 (q := (19, .isub, 1)) rfl
theorem dX11_days_20 : decode cX11_days 20 = .ok (.if_icmp .le 10, 3) := dget daX11_days_0 11 (q := (20, .if_icmp .le 10, 3)) rfl
theorem dX11_days_23 : decode cX11_days 23 = .ok (.aload_n 0, 1) := dget daX11_days_0 12 (q := (23, .aload_n 0, 1)) rfl
theorem dX11_days_24 : decode cX11_days 24 = .ok (.bipush (-6), 2) := dget daX11_days_0 13 (q := (24, .bipush (-6), 2)) rfl
theorem dX11_days_26 : decode cX11_days 26 = .ok (.invokevirtual 77, 3) := dget daX11_days_0 14 (q := (26, .invokevirtual 77, 3)) rfl
theorem dX11_days_29 : decode cX11_days 29 = .ok (.ireturn, 1) := dget daX11_days_0 15 (q := (29, .ireturn, 1)) rfl
theorem dX11_days_30 : decode cX11_days 30 = .ok (.aload_n 0, 1) := dget daX11_days_0 16 (q := (30, .aload_n 0, 1)) rfl
theorem dX11_days_31 : decode cX11_days 31 = .ok (.dup, 1) := dget daX11_days_0 17 (q := (31, .dup, 1)) rfl
theorem dX11_days_32 : decode cX11_days 32 = .ok (.getfield 73, 3) := dget daX11_days_0 18 (q := (32, .getfield 73, 3)) rfl
theorem dX11_days_35 : decode cX11_days 35 = .ok (.iload_n 1, 1) := dget daX11_days_0 19 (q := (35, .iload_n 1, 1)) rfl
theorem dX11_days_36 : decode cX11_days 36 = .ok (.iadd, 1) := dget daX11_days_0 20 (q := (36, .iadd, 1)) rfl
theorem dX11_days_37 : decode cX11_days 37 = .ok (.putfield 73, 3) := dget daX11_days_0 21 (q := (37, .putfield 73, 3)) rfl
theorem dX11_days_40 : decode cX11_days 40 = .ok (.aload_n 0, 1) := dget daX11_days_0 22 (q := (40, .aload_n 0, 1)) rfl
theorem dX11_days_41 : decode cX11_days 41 = .ok (.getfield 73, 3) := dget daX11_days_0 23 (q := (41, .getfield 73, 3)) rfl
theorem dX11_days_44 : decode cX11_days 44 = .ok (.ireturn, 1) := dget daX11_days_0 24 (q := (44, .ireturn, 1)) rfl
def tdaX11_land_0 : List (Nat × (Instr × Nat)) := [(0, .aload_n 0, 1), (1, .getfield 10, 3), (4, .iload_n 1, 1), (5, .invokevirtual 81, 3), (8, .astore_n 3, 1), (9, .aload_n 3, 1), (10, .ifnull 11, 3), (13, .iconst 4, 1), (14, .iload_n 2, 1), (15, .invokestatic 85, 3), (18, .ifCond .ne 9, 3), (21, .aload_n 0, 1), (22, .iconst (-1), 1), (23, .invokevirtual 77, 3), (26, .ireturn, 1), (27, .aload_n 3, 1), (28, .getfield 89, 3), (31, .istore 4, 2), (33, .aload_n 3, 1), (34, .iload_n 2, 1), (35, .putfield 89, 3), (38, .iload 4, 2), (40, .ireturn, 1)]
theorem daX11_land_0 : tdaX11_land_0.all (fun q => decide (decode cX11_land q.1 = .ok q.2)) = true := by decide +kernel
theorem dX11_land_0 : decode cX11_land 0 = .ok (.aload_n 0, 1) := dget daX11_land_0 0 (q := (0, .aload_n 0, 1)) rfl
theorem dX11_land_1 : decode cX11_land 1 = .ok (.getfield 10, 3) := dget daX11_land_0 1 (q := (1, .getfield 10, 3)) rfl
theorem dX11_land_4 : decode cX11_land 4 = .ok (.iload_n 1, 1) := dget daX11_land_0 2 (q := (4, .iload_n 1, 1)) rfl
theorem dX11_land_5 : decode cX11_land 5 = .ok (.invokevirtual 81, 3) := dget daX11_land_0 3 (q := (5, .invokevirtual 81, 3)) rfl
theorem dX11_land_8 : decode cX11_land 8 = .ok (.astore_n 3, 1) := dget daX11_land_0 4 (q := (8, .astore_n 3, 1)) rfl
theorem dX11_land_9 : decode cX11_land 9 = .ok (.aload_n 3, 1) := dget daX11_land_0 5 (q := (9, .aload_n 3, 1)) rfl
theorem dX11_land_10 : decode cX11_land 10 = .ok (.ifnull 11, 3) := dget daX11_land_0 6 (q := (10, .ifnull 11, 3)) rfl
theorem dX11_land_13 : decode cX11_land 13 = .ok (.iconst 4, 1) := dget daX11_land_0 7 (q := (13, .iconst 4, 1)) rfl
theorem dX11_land_14 : decode cX11_land 14 = .ok (.iload_n 2, 1) := dget daX11_land_0 8 (q := (14, .iload_n 2, 1)) rfl
theorem dX11_land_15 : decode cX11_land 15 = .ok (.invokestatic 85, 3) := dget daX11_land_0 9 (q := (15, .invokestatic 85, 3)) rfl
theorem dX11_land_18 : decode cX11_land 18 = .ok (.ifCond .ne 9, 3) := dget daX11_land_0 10 (q := (18, .ifCond .ne 9, 3)) rfl
theorem dX11_land_21 : decode cX11_land 21 = .ok (.aload_n 0, 1) := dget daX11_land_0 11 (q := (21, .aload_n 0, 1)) rfl
theorem dX11_land_22 : decode cX11_land 22 = .ok (.iconst (-1), 1) := dget daX11_land_0 12 (q := (22, .iconst (-1), 1)) rfl
theorem dX11_land_23 : decode cX11_land 23 = .ok (.invokevirtual 77, 3) := dget daX11_land_0 13 (q := (23, .invokevirtual 77, 3)) rfl
theorem dX11_land_26 : decode cX11_land 26 = .ok (.ireturn, 1) := dget daX11_land_0 14 (q := (26, .ireturn, 1)) rfl
theorem dX11_land_27 : decode cX11_land 27 = .ok (.aload_n 3, 1) := dget daX11_land_0 15 (q := (27, .aload_n 3, 1)) rfl
theorem dX11_land_28 : decode cX11_land 28 = .ok (.getfield 89, 3) := dget daX11_land_0 16 (q := (28, .getfield 89, 3)) rfl
theorem dX11_land_31 : decode cX11_land 31 = .ok (.istore 4, 2) := dget daX11_land_0 17 (q := (31, .istore 4, 2)) rfl
theorem dX11_land_33 : decode cX11_land 33 = .ok (.aload_n 3, 1) := dget daX11_land_0 18 (q := (33, .aload_n 3, 1)) rfl
theorem dX11_land_34 : decode cX11_land 34 = .ok (.iload_n 2, 1) := dget daX11_land_0 19 (q := (34, .iload_n 2, 1)) rfl
theorem dX11_land_35 : decode cX11_land 35 = .ok (.putfield 89, 3) := dget daX11_land_0 20 (q := (35, .putfield 89, 3)) rfl
theorem dX11_land_38 : decode cX11_land 38 = .ok (.iload 4, 2) := dget daX11_land_0 21 (q := (38, .iload 4, 2)) rfl
theorem dX11_land_40 : decode cX11_land 40 = .ok (.ireturn, 1) := dget daX11_land_0 22 (q := (40, .ireturn, 1)) rfl
def tdaX11_miles_0 : List (Nat × (Instr × Nat)) := [(0, .aload_n 0, 1), (1, .getfield 10, 3), (4, .iload_n 1, 1), (5, .invokevirtual 81, 3), (8, .astore 4, 2), (10, .aload_n 0, 1), (11, .getfield 10, 3), (14, .iload_n 2, 1), (15, .invokevirtual 81, 3), (18, .astore 5, 2), (20, .aload 4, 2), (22, .ifnull 15, 3), (25, .aload 5, 2), (27, .ifnull 10, 3), (30, .aload 4, 2), (32, .aload 5, 2), (34, .if_acmp .ne 9, 3), (37, .aload_n 0, 1), (38, .iconst (-1), 1), (39, .invokevirtual 77, 3), (42, .ireturn, 1), (43, .iload_n 3, 1), (44, .ifCond .ge 10, 3), (47, .aload_n 0, 1), (48, .bipush (-4), 2), (50, .invokevirtual 77, 3), (53, .ireturn, 1), (54, .iload_n 3, 1), (55, .sipush 9999, 3), (58, .if_icmp .le 10, 3), (61, .aload_n 0, 1), (62, .bipush (-6), 2), (64, .invokevirtual 77, 3), (67, .ireturn, 1), (68, .aload_n 0, 1), (69, .getfield 10, 3), (72, .aload 4, 2), (74, .aload 5, 2), (76, .invokevirtual 94, 3), (79, .istore 6, 2)]
theorem daX11_miles_0 : tdaX11_miles_0.all (fun q => decide (decode cX11_miles q.1 = .ok q.2)) = true := by decide +kernel
theorem dX11_miles_0 : decode cX11_miles 0 = .ok (.aload_n 0, 1) := dget daX11_miles_0 0 (q := (0, .aload_n 0, 1)) rfl
theorem dX11_miles_1 : decode cX11_miles 1 = .ok (.getfield 10, 3) := dget daX11_miles_0 1 (q := (1, .getfield 10, 3)) rfl
theorem dX11_miles_4 : decode cX11_miles 4 = .ok (.iload_n 1, 1) := dget daX11_miles_0 2 (q := (4, .iload_n 1, 1)) rfl
theorem dX11_miles_5 : decode cX11_miles 5 = .ok (.invokevirtual 81, 3) := dget daX11_miles_0 3 (q := (5, .invokevirtual 81, 3)) rfl
theorem dX11_miles_8 : decode cX11_miles 8 = .ok (.astore 4, 2) := dget daX11_miles_0 4 (q := (8, .astore 4, 2)) rfl
theorem dX11_miles_10 : decode cX11_miles 10 = .ok (.aload_n 0, 1) := dget daX11_miles_0 5 (q := (10, .aload_n 0, 1)) rfl
theorem dX11_miles_11 : decode cX11_miles 11 = .ok (.getfield 10, 3) := dget daX11_miles_0 6 (q := (11, .getfield 10, 3)) rfl
theorem dX11_miles_14 : decode cX11_miles 14 = .ok (.iload_n 2, 1) := dget daX11_miles_0 7 (q := (14, .iload_n 2, 1)) rfl
theorem dX11_miles_15 : decode cX11_miles 15 = .ok (.invokevirtual 81, 3) := dget daX11_miles_0 8 (q := (15, .invokevirtual 81, 3)) rfl
theorem dX11_miles_18 : decode cX11_miles 18 = .ok (.astore 5, 2) := dget daX11_miles_0 9 (q := (18, .astore 5, 2)) rfl
theorem dX11_miles_20 : decode cX11_miles 20 = .ok (.aload 4, 2) := dget daX11_miles_0 10 (q := (20, .aload 4, 2)) rfl
theorem dX11_miles_22 : decode cX11_miles 22 = .ok (.ifnull 15, 3) := dget daX11_miles_0 11 (q := (22, .ifnull 15, 3)) rfl
theorem dX11_miles_25 : decode cX11_miles 25 = .ok (.aload 5, 2) := dget daX11_miles_0 12 (q := (25, .aload 5, 2)) rfl
theorem dX11_miles_27 : decode cX11_miles 27 = .ok (.ifnull 10, 3) := dget daX11_miles_0 13 (q := (27, .ifnull 10, 3)) rfl
theorem dX11_miles_30 : decode cX11_miles 30 = .ok (.aload 4, 2) := dget daX11_miles_0 14 (q := (30, .aload 4, 2)) rfl
theorem dX11_miles_32 : decode cX11_miles 32 = .ok (.aload 5, 2) := dget daX11_miles_0 15 (q := (32, .aload 5, 2)) rfl
theorem dX11_miles_34 : decode cX11_miles 34 = .ok (.if_acmp .ne 9, 3) := dget daX11_miles_0 16 (q := (34, .if_acmp .ne 9, 3)) rfl
theorem dX11_miles_37 : decode cX11_miles 37 = .ok (.aload_n 0, 1) := dget daX11_miles_0 17 (q := (37, .aload_n 0, 1)) rfl
theorem dX11_miles_38 : decode cX11_miles 38 = .ok (.iconst (-1), 1) := dget daX11_miles_0 18 (q := (38, .iconst (-1), 1)) rfl
theorem dX11_miles_39 : decode cX11_miles 39 = .ok (.invokevirtual 77, 3) := dget daX11_miles_0 19 (q := (39, .invokevirtual 77, 3)) rfl
theorem dX11_miles_42 : decode cX11_miles 42 = .ok (.ireturn, 1) := dget daX11_miles_0 20 (q := (42, .ireturn, 1)) rfl
theorem dX11_miles_43 : decode cX11_miles 43 = .ok (.iload_n 3, 1) := dget daX11_miles_0 21 (q := (43, .iload_n 3, 1)) rfl
theorem dX11_miles_44 : decode cX11_miles 44 = .ok (.ifCond .ge 10, 3) := dget daX11_miles_0 22 (q := (44, .ifCond .ge 10, 3)) rfl
theorem dX11_miles_47 : decode cX11_miles 47 = .ok (.aload_n 0, 1) := dget daX11_miles_0 23 (q := (47, .aload_n 0, 1)) rfl
theorem dX11_miles_48 : decode cX11_miles 48 = .ok (.bipush (-4), 2) := dget daX11_miles_0 24 (q := (48, .bipush (-4), 2)) rfl
theorem dX11_miles_50 : decode cX11_miles 50 = .ok (.invokevirtual 77, 3) := dget daX11_miles_0 25 (q := (50, .invokevirtual 77, 3)) rfl
theorem dX11_miles_53 : decode cX11_miles 53 = .ok (.ireturn, 1) := dget daX11_miles_0 26 (q := (53, .ireturn, 1)) rfl
theorem dX11_miles_54 : decode cX11_miles 54 = .ok (.iload_n 3, 1) := dget daX11_miles_0 27 (q := (54, .iload_n 3, 1)) rfl
theorem dX11_miles_55 : decode cX11_miles 55 = .ok (.sipush 9999, 3) := dget daX11_miles_0 28 (q := (55, .sipush 9999, 3)) rfl
theorem dX11_miles_58 : decode cX11_miles 58 = .ok (.if_icmp .le 10, 3) := dget daX11_miles_0 29 (q := (58, .if_icmp .le 10, 3)) rfl
theorem dX11_miles_61 : decode cX11_miles 61 = .ok (.aload_n 0, 1) := dget daX11_miles_0 30 (q := (61, .aload_n 0, 1)) rfl
theorem dX11_miles_62 : decode cX11_miles 62 = .ok (.bipush (-6), 2) := dget daX11_miles_0 31 (q := (62, .bipush (-6), 2)) rfl
theorem dX11_miles_64 : decode cX11_miles 64 = .ok (.invokevirtual 77, 3) := dget daX11_miles_0 32 (q := (64, .invokevirtual 77, 3)) rfl
theorem dX11_miles_67 : decode cX11_miles 67 = .ok (.ireturn, 1) := dget daX11_miles_0 33 (q := (67, .ireturn, 1)) rfl
theorem dX11_miles_68 : decode cX11_miles 68 = .ok (.aload_n 0, 1) := dget daX11_miles_0 34 (q := (68, .aload_n 0, 1)) rfl
theorem dX11_miles_69 : decode cX11_miles 69 = .ok (.getfield 10, 3) := dget daX11_miles_0 35 (q := (69, .getfield 10, 3)) rfl
theorem dX11_miles_72 : decode cX11_miles 72 = .ok (.aload 4, 2) := dget daX11_miles_0 36 (q := (72, .aload 4, 2)) rfl
theorem dX11_miles_74 : decode cX11_miles 74 = .ok (.aload 5, 2) := dget daX11_miles_0 37 (q := (74, .aload 5, 2)) rfl
theorem dX11_miles_76 : decode cX11_miles 76 = .ok (.invokevirtual 94, 3) := dget daX11_miles_0 38 (q := (76, .invokevirtual 94, 3)) rfl
theorem dX11_miles_79 : decode cX11_miles 79 = .ok (.istore 6, 2) := dget daX11_miles_0 39 (q := (79, .istore 6, 2)) rfl
def tdaX11_miles_1 : List (Nat × (Instr × Nat)) := [(81, .aload_n 0, 1), (82, .getfield 10, 3), (85, .aload 4, 2), (87, .aload 5, 2), (89, .iload_n 3, 1), (90, .invokevirtual 98, 3), (93, .iload 6, 2), (95, .ireturn, 1)]
theorem daX11_miles_1 : tdaX11_miles_1.all (fun q => decide (decode cX11_miles q.1 = .ok q.2)) = true := by decide +kernel
theorem dX11_miles_81 : decode cX11_miles 81 = .ok (.aload_n 0, 1) := dget daX11_miles_1 0 (q := (81, .aload_n 0, 1)) rfl
theorem dX11_miles_82 : decode cX11_miles 82 = .ok (.getfield 10, 3) := dget daX11_miles_1 1 (q := (82, .getfield 10, 3)) rfl
theorem dX11_miles_85 : decode cX11_miles 85 = .ok (.aload 4, 2) := dget daX11_miles_1 2 (q := (85, .aload 4, 2)) rfl
theorem dX11_miles_87 : decode cX11_miles 87 = .ok (.aload 5, 2) := dget daX11_miles_1 3 (q := (87, .aload 5, 2)) rfl
theorem dX11_miles_89 : decode cX11_miles 89 = .ok (.iload_n 3, 1) := dget daX11_miles_1 4 (q := (89, .iload_n 3, 1)) rfl
theorem dX11_miles_90 : decode cX11_miles 90 = .ok (.invokevirtual 98, 3) := dget daX11_miles_1 5 (q := (90, .invokevirtual 98, 3)) rfl
theorem dX11_miles_93 : decode cX11_miles 93 = .ok (.iload 6, 2) := dget daX11_miles_1 6 (q := (93, .iload 6, 2)) rfl
theorem dX11_miles_95 : decode cX11_miles 95 = .ok (.ireturn, 1) := dget daX11_miles_1 7 (q := (95, .ireturn, 1)) rfl
def tdaX11_seen_0 : List (Nat × (Instr × Nat)) := [(0, .aload_n 0, 1), (1, .getfield 10, 3), (4, .iload_n 1, 1), (5, .invokevirtual 81, 3), (8, .astore 4, 2), (10, .aload_n 0, 1), (11, .getfield 10, 3), (14, .iload_n 2, 1), (15, .invokevirtual 81, 3), (18, .astore 5, 2), (20, .aload 4, 2), (22, .ifnull 15, 3), (25, .aload 5, 2), (27, .ifnull 10, 3), (30, .aload 4, 2), (32, .aload 5, 2), (34, .if_acmp .ne 9, 3), (37, .aload_n 0, 1), (38, .iconst (-1), 1), (39, .invokevirtual 77, 3), (42, .ireturn, 1), (43, .iload_n 3, 1), (44, .sipush (-600), 3), (47, .if_icmp .ge 10, 3), (50, .aload_n 0, 1), (51, .bipush (-4), 2), (53, .invokevirtual 77, 3), (56, .ireturn, 1), (57, .iload_n 3, 1), (58, .sipush 600, 3), (61, .if_icmp .le 10, 3), (64, .aload_n 0, 1), (65, .bipush (-6), 2), (67, .invokevirtual 77, 3), (70, .ireturn, 1), (71, .aload_n 0, 1), (72, .getfield 10, 3), (75, .aload 4, 2), (77, .aload 5, 2), (79, .iload_n 3, 1)]
theorem daX11_seen_0 : tdaX11_seen_0.all (fun q => decide (decode cX11_seen q.1 = .ok q.2)) = true := by decide +kernel
theorem dX11_seen_0 : decode cX11_seen 0 = .ok (.aload_n 0, 1) := dget daX11_seen_0 0 (q := (0, .aload_n 0, 1)) rfl
theorem dX11_seen_1 : decode cX11_seen 1 = .ok (.getfield 10, 3) := dget daX11_seen_0 1 (q := (1, .getfield 10, 3)) rfl
theorem dX11_seen_4 : decode cX11_seen 4 = .ok (.iload_n 1, 1) := dget daX11_seen_0 2 (q := (4, .iload_n 1, 1)) rfl
theorem dX11_seen_5 : decode cX11_seen 5 = .ok (.invokevirtual 81, 3) := dget daX11_seen_0 3 (q := (5, .invokevirtual 81, 3)) rfl
theorem dX11_seen_8 : decode cX11_seen 8 = .ok (.astore 4, 2) := dget daX11_seen_0 4 (q := (8, .astore 4, 2)) rfl
theorem dX11_seen_10 : decode cX11_seen 10 = .ok (.aload_n 0, 1) := dget daX11_seen_0 5 (q := (10, .aload_n 0, 1)) rfl
theorem dX11_seen_11 : decode cX11_seen 11 = .ok (.getfield 10, 3) := dget daX11_seen_0 6 (q := (11, .getfield 10, 3)) rfl
theorem dX11_seen_14 : decode cX11_seen 14 = .ok (.iload_n 2, 1) := dget daX11_seen_0 7 (q := (14, .iload_n 2, 1)) rfl
theorem dX11_seen_15 : decode cX11_seen 15 = .ok (.invokevirtual 81, 3) := dget daX11_seen_0 8 (q := (15, .invokevirtual 81, 3)) rfl
theorem dX11_seen_18 : decode cX11_seen 18 = .ok (.astore 5, 2) := dget daX11_seen_0 9 (q := (18, .astore 5, 2)) rfl
theorem dX11_seen_20 : decode cX11_seen 20 = .ok (.aload 4, 2) := dget daX11_seen_0 10 (q := (20, .aload 4, 2)) rfl
theorem dX11_seen_22 : decode cX11_seen 22 = .ok (.ifnull 15, 3) := dget daX11_seen_0 11 (q := (22, .ifnull 15, 3)) rfl
theorem dX11_seen_25 : decode cX11_seen 25 = .ok (.aload 5, 2) := dget daX11_seen_0 12 (q := (25, .aload 5, 2)) rfl
theorem dX11_seen_27 : decode cX11_seen 27 = .ok (.ifnull 10, 3) := dget daX11_seen_0 13 (q := (27, .ifnull 10, 3)) rfl
theorem dX11_seen_30 : decode cX11_seen 30 = .ok (.aload 4, 2) := dget daX11_seen_0 14 (q := (30, .aload 4, 2)) rfl
theorem dX11_seen_32 : decode cX11_seen 32 = .ok (.aload 5, 2) := dget daX11_seen_0 15 (q := (32, .aload 5, 2)) rfl
theorem dX11_seen_34 : decode cX11_seen 34 = .ok (.if_acmp .ne 9, 3) := dget daX11_seen_0 16 (q := (34, .if_acmp .ne 9, 3)) rfl
theorem dX11_seen_37 : decode cX11_seen 37 = .ok (.aload_n 0, 1) := dget daX11_seen_0 17 (q := (37, .aload_n 0, 1)) rfl
theorem dX11_seen_38 : decode cX11_seen 38 = .ok (.iconst (-1), 1) := dget daX11_seen_0 18 (q := (38, .iconst (-1), 1)) rfl
theorem dX11_seen_39 : decode cX11_seen 39 = .ok (.invokevirtual 77, 3) := dget daX11_seen_0 19 (q := (39, .invokevirtual 77, 3)) rfl
theorem dX11_seen_42 : decode cX11_seen 42 = .ok (.ireturn, 1) := dget daX11_seen_0 20 (q := (42, .ireturn, 1)) rfl
theorem dX11_seen_43 : decode cX11_seen 43 = .ok (.iload_n 3, 1) := dget daX11_seen_0 21 (q := (43, .iload_n 3, 1)) rfl
theorem dX11_seen_44 : decode cX11_seen 44 = .ok (.sipush (-600), 3) := dget daX11_seen_0 22 (q := (44, .sipush (-600), 3)) rfl
theorem dX11_seen_47 : decode cX11_seen 47 = .ok (.if_icmp .ge 10, 3) := dget daX11_seen_0 23 (q := (47, .if_icmp .ge 10, 3)) rfl
theorem dX11_seen_50 : decode cX11_seen 50 = .ok (.aload_n 0, 1) := dget daX11_seen_0 24 (q := (50, .aload_n 0, 1)) rfl
theorem dX11_seen_51 : decode cX11_seen 51 = .ok (.bipush (-4), 2) := dget daX11_seen_0 25 (q := (51, .bipush (-4), 2)) rfl
theorem dX11_seen_53 : decode cX11_seen 53 = .ok (.invokevirtual 77, 3) := dget daX11_seen_0 26 (q := (53, .invokevirtual 77, 3)) rfl
theorem dX11_seen_56 : decode cX11_seen 56 = .ok (.ireturn, 1) := dget daX11_seen_0 27 (q := (56, .ireturn, 1)) rfl
theorem dX11_seen_57 : decode cX11_seen 57 = .ok (.iload_n 3, 1) := dget daX11_seen_0 28 (q := (57, .iload_n 3, 1)) rfl
theorem dX11_seen_58 : decode cX11_seen 58 = .ok (.sipush 600, 3) := dget daX11_seen_0 29 (q := (58, .sipush 600, 3)) rfl
theorem dX11_seen_61 : decode cX11_seen 61 = .ok (.if_icmp .le 10, 3) := dget daX11_seen_0 30 (q := (61, .if_icmp .le 10, 3)) rfl
theorem dX11_seen_64 : decode cX11_seen 64 = .ok (.aload_n 0, 1) := dget daX11_seen_0 31 (q := (64, .aload_n 0, 1)) rfl
theorem dX11_seen_65 : decode cX11_seen 65 = .ok (.bipush (-6), 2) := dget daX11_seen_0 32 (q := (65, .bipush (-6), 2)) rfl
theorem dX11_seen_67 : decode cX11_seen 67 = .ok (.invokevirtual 77, 3) := dget daX11_seen_0 33 (q := (67, .invokevirtual 77, 3)) rfl
theorem dX11_seen_70 : decode cX11_seen 70 = .ok (.ireturn, 1) := dget daX11_seen_0 34 (q := (70, .ireturn, 1)) rfl
theorem dX11_seen_71 : decode cX11_seen 71 = .ok (.aload_n 0, 1) := dget daX11_seen_0 35 (q := (71, .aload_n 0, 1)) rfl
theorem dX11_seen_72 : decode cX11_seen 72 = .ok (.getfield 10, 3) := dget daX11_seen_0 36 (q := (72, .getfield 10, 3)) rfl
theorem dX11_seen_75 : decode cX11_seen 75 = .ok (.aload 4, 2) := dget daX11_seen_0 37 (q := (75, .aload 4, 2)) rfl
theorem dX11_seen_77 : decode cX11_seen 77 = .ok (.aload 5, 2) := dget daX11_seen_0 38 (q := (77, .aload 5, 2)) rfl
theorem dX11_seen_79 : decode cX11_seen 79 = .ok (.iload_n 3, 1) := dget daX11_seen_0 39 (q := (79, .iload_n 3, 1)) rfl
def tdaX11_seen_1 : List (Nat × (Instr × Nat)) := [(80, .invokevirtual 102, 3), (83, .ifCond .ne 5, 3), (86, .iconst 0, 1), (87, .ireturn, 1), (88, .aload_n 0, 1), (89, .getfield 19, 3), (92, .invokevirtual 106, 3), (95, .iconst 1, 1), (96, .ireturn, 1)]
theorem daX11_seen_1 : tdaX11_seen_1.all (fun q => decide (decode cX11_seen q.1 = .ok q.2)) = true := by decide +kernel
theorem dX11_seen_80 : decode cX11_seen 80 = .ok (.invokevirtual 102, 3) := dget daX11_seen_1 0 (q := (80, .invokevirtual 102, 3)) rfl
theorem dX11_seen_83 : decode cX11_seen 83 = .ok (.ifCond .ne 5, 3) := dget daX11_seen_1 1 (q := (83, .ifCond .ne 5, 3)) rfl
theorem dX11_seen_86 : decode cX11_seen 86 = .ok (.iconst 0, 1) := dget daX11_seen_1 2 (q := (86, .iconst 0, 1)) rfl
theorem dX11_seen_87 : decode cX11_seen 87 = .ok (.ireturn, 1) := dget daX11_seen_1 3 (q := (87, .ireturn, 1)) rfl
theorem dX11_seen_88 : decode cX11_seen 88 = .ok (.aload_n 0, 1) := dget daX11_seen_1 4 (q := (88, .aload_n 0, 1)) rfl
theorem dX11_seen_89 : decode cX11_seen 89 = .ok (.getfield 19, 3) := dget daX11_seen_1 5 (q := (89, .getfield 19, 3)) rfl
theorem dX11_seen_92 : decode cX11_seen 92 = .ok (.invokevirtual 106, 3) := dget daX11_seen_1 6 (q := (92, .invokevirtual 106, 3)) rfl
theorem dX11_seen_95 : decode cX11_seen 95 = .ok (.iconst 1, 1) := dget daX11_seen_1 7 (q := (95, .iconst 1, 1)) rfl
theorem dX11_seen_96 : decode cX11_seen 96 = .ok (.ireturn, 1) := dget daX11_seen_1 8 (q := (96, .ireturn, 1)) rfl
def tdaX11_off_0 : List (Nat × (Instr × Nat)) := [(0, .aload_n 0, 1), (1, .getfield 10, 3), (4, .iload_n 1, 1), (5, .invokevirtual 81, 3), (8, .astore_n 2, 1), (9, .aload_n 2, 1), (10, .ifnonnull 9, 3), (13, .aload_n 0, 1), (14, .iconst (-1), 1), (15, .invokevirtual 109, 3), (18, .ireturn, 1), (19, .aload_n 2, 1), (20, .getfield 112, 3), (23, .ireturn, 1)]
theorem daX11_off_0 : tdaX11_off_0.all (fun q => decide (decode cX11_off q.1 = .ok q.2)) = true := by decide +kernel
theorem dX11_off_0 : decode cX11_off 0 = .ok (.aload_n 0, 1) := dget daX11_off_0 0 (q := (0, .aload_n 0, 1)) rfl
theorem dX11_off_1 : decode cX11_off 1 = .ok (.getfield 10, 3) := dget daX11_off_0 1 (q := (1, .getfield 10, 3)) rfl
theorem dX11_off_4 : decode cX11_off 4 = .ok (.iload_n 1, 1) := dget daX11_off_0 2 (q := (4, .iload_n 1, 1)) rfl
theorem dX11_off_5 : decode cX11_off 5 = .ok (.invokevirtual 81, 3) := dget daX11_off_0 3 (q := (5, .invokevirtual 81, 3)) rfl
theorem dX11_off_8 : decode cX11_off 8 = .ok (.astore_n 2, 1) := dget daX11_off_0 4 (q := (8, .astore_n 2, 1)) rfl
theorem dX11_off_9 : decode cX11_off 9 = .ok (.aload_n 2, 1) := dget daX11_off_0 5 (q := (9, .aload_n 2, 1)) rfl
theorem dX11_off_10 : decode cX11_off 10 = .ok (.ifnonnull 9, 3) := dget daX11_off_0 6 (q := (10, .ifnonnull 9, 3)) rfl
theorem dX11_off_13 : decode cX11_off 13 = .ok (.aload_n 0, 1) := dget daX11_off_0 7 (q := (13, .aload_n 0, 1)) rfl
theorem dX11_off_14 : decode cX11_off 14 = .ok (.iconst (-1), 1) := dget daX11_off_0 8 (q := (14, .iconst (-1), 1)) rfl
theorem dX11_off_15 : decode cX11_off 15 = .ok (.invokevirtual 109, 3) := dget daX11_off_0 9 (q := (15, .invokevirtual 109, 3)) rfl
theorem dX11_off_18 : decode cX11_off 18 = .ok (.ireturn, 1) := dget daX11_off_0 10 (q := (18, .ireturn, 1)) rfl
theorem dX11_off_19 : decode cX11_off 19 = .ok (.aload_n 2, 1) := dget daX11_off_0 11 (q := (19, .aload_n 2, 1)) rfl
theorem dX11_off_20 : decode cX11_off 20 = .ok (.getfield 112, 3) := dget daX11_off_0 12 (q := (20, .getfield 112, 3)) rfl
theorem dX11_off_23 : decode cX11_off 23 = .ok (.ireturn, 1) := dget daX11_off_0 13 (q := (23, .ireturn, 1)) rfl
def tdaX11_leg_0 : List (Nat × (Instr × Nat)) := [(0, .aload_n 0, 1), (1, .getfield 10, 3), (4, .iload_n 1, 1), (5, .invokevirtual 81, 3), (8, .astore 7, 2), (10, .aload_n 0, 1), (11, .getfield 10, 3), (14, .iload_n 2, 1), (15, .invokevirtual 81, 3), (18, .astore 8, 2), (20, .aload 7, 2), (22, .ifnull 15, 3), (25, .aload 8, 2), (27, .ifnull 10, 3), (30, .aload 7, 2), (32, .aload 8, 2), (34, .if_acmp .ne 9, 3), (37, .aload_n 0, 1), (38, .iconst (-1), 1), (39, .invokevirtual 77, 3), (42, .ireturn, 1), (43, .bipush 6, 2), (45, .iload_n 3, 1), (46, .invokestatic 85, 3), (49, .ifCond .eq 13, 3), (52, .bipush 6, 2), (54, .iload 4, 2), (56, .invokestatic 85, 3), (59, .ifCond .ne 9, 3), (62, .aload_n 0, 1), (63, .iconst (-1), 1), (64, .invokevirtual 77, 3), (67, .ireturn, 1), (68, .iload 5, 2), (70, .ifCond .lt 10, 3), (73, .iload 6, 2), (75, .iload 5, 2), (77, .if_icmp .gt 10, 3), (80, .aload_n 0, 1), (81, .bipush (-4), 2)]
theorem daX11_leg_0 : tdaX11_leg_0.all (fun q => decide (decode cX11_leg q.1 = .ok q.2)) = true := by decide +kernel
theorem dX11_leg_0 : decode cX11_leg 0 = .ok (.aload_n 0, 1) := dget daX11_leg_0 0 (q := (0, .aload_n 0, 1)) rfl
theorem dX11_leg_1 : decode cX11_leg 1 = .ok (.getfield 10, 3) := dget daX11_leg_0 1 (q := (1, .getfield 10, 3)) rfl
theorem dX11_leg_4 : decode cX11_leg 4 = .ok (.iload_n 1, 1) := dget daX11_leg_0 2 (q := (4, .iload_n 1, 1)) rfl
theorem dX11_leg_5 : decode cX11_leg 5 = .ok (.invokevirtual 81, 3) := dget daX11_leg_0 3 (q := (5, .invokevirtual 81, 3)) rfl
theorem dX11_leg_8 : decode cX11_leg 8 = .ok (.astore 7, 2) := dget daX11_leg_0 4 (q := (8, .astore 7, 2)) rfl
theorem dX11_leg_10 : decode cX11_leg 10 = .ok (.aload_n 0, 1) := dget daX11_leg_0 5 (q := (10, .aload_n 0, 1)) rfl
theorem dX11_leg_11 : decode cX11_leg 11 = .ok (.getfield 10, 3) := dget daX11_leg_0 6 (q := (11, .getfield 10, 3)) rfl
theorem dX11_leg_14 : decode cX11_leg 14 = .ok (.iload_n 2, 1) := dget daX11_leg_0 7 (q := (14, .iload_n 2, 1)) rfl
theorem dX11_leg_15 : decode cX11_leg 15 = .ok (.invokevirtual 81, 3) := dget daX11_leg_0 8 (q := (15, .invokevirtual 81, 3)) rfl
theorem dX11_leg_18 : decode cX11_leg 18 = .ok (.astore 8, 2) := dget daX11_leg_0 9 (q := (18, .astore 8, 2)) rfl
theorem dX11_leg_20 : decode cX11_leg 20 = .ok (.aload 7, 2) := dget daX11_leg_0 10 (q := (20, .aload 7, 2)) rfl
theorem dX11_leg_22 : decode cX11_leg 22 = .ok (.ifnull 15, 3) := dget daX11_leg_0 11 (q := (22, .ifnull 15, 3)) rfl
theorem dX11_leg_25 : decode cX11_leg 25 = .ok (.aload 8, 2) := dget daX11_leg_0 12 (q := (25, .aload 8, 2)) rfl
theorem dX11_leg_27 : decode cX11_leg 27 = .ok (.ifnull 10, 3) := dget daX11_leg_0 13 (q := (27, .ifnull 10, 3)) rfl
theorem dX11_leg_30 : decode cX11_leg 30 = .ok (.aload 7, 2) := dget daX11_leg_0 14 (q := (30, .aload 7, 2)) rfl
theorem dX11_leg_32 : decode cX11_leg 32 = .ok (.aload 8, 2) := dget daX11_leg_0 15 (q := (32, .aload 8, 2)) rfl
theorem dX11_leg_34 : decode cX11_leg 34 = .ok (.if_acmp .ne 9, 3) := dget daX11_leg_0 16 (q := (34, .if_acmp .ne 9, 3)) rfl
theorem dX11_leg_37 : decode cX11_leg 37 = .ok (.aload_n 0, 1) := dget daX11_leg_0 17 (q := (37, .aload_n 0, 1)) rfl
theorem dX11_leg_38 : decode cX11_leg 38 = .ok (.iconst (-1), 1) := dget daX11_leg_0 18 (q := (38, .iconst (-1), 1)) rfl
theorem dX11_leg_39 : decode cX11_leg 39 = .ok (.invokevirtual 77, 3) := dget daX11_leg_0 19 (q := (39, .invokevirtual 77, 3)) rfl
theorem dX11_leg_42 : decode cX11_leg 42 = .ok (.ireturn, 1) := dget daX11_leg_0 20 (q := (42, .ireturn, 1)) rfl
theorem dX11_leg_43 : decode cX11_leg 43 = .ok (.bipush 6, 2) := dget daX11_leg_0 21 (q := (43, .bipush 6, 2)) rfl
theorem dX11_leg_45 : decode cX11_leg 45 = .ok (.iload_n 3, 1) := dget daX11_leg_0 22 (q := (45, .iload_n 3, 1)) rfl
theorem dX11_leg_46 : decode cX11_leg 46 = .ok (.invokestatic 85, 3) := dget daX11_leg_0 23 (q := (46, .invokestatic 85, 3)) rfl
theorem dX11_leg_49 : decode cX11_leg 49 = .ok (.ifCond .eq 13, 3) := dget daX11_leg_0 24 (q := (49, .ifCond .eq 13, 3)) rfl
theorem dX11_leg_52 : decode cX11_leg 52 = .ok (.bipush 6, 2) := dget daX11_leg_0 25 (q := (52, .bipush 6, 2)) rfl
theorem dX11_leg_54 : decode cX11_leg 54 = .ok (.iload 4, 2) := dget daX11_leg_0 26 (q := (54, .iload 4, 2)) rfl
theorem dX11_leg_56 : decode cX11_leg 56 = .ok (.invokestatic 85, 3) := dget daX11_leg_0 27 (q := (56, .invokestatic 85, 3)) rfl
theorem dX11_leg_59 : decode cX11_leg 59 = .ok (.ifCond .ne 9, 3) := dget daX11_leg_0 28 (q := (59, .ifCond .ne 9, 3)) rfl
theorem dX11_leg_62 : decode cX11_leg 62 = .ok (.aload_n 0, 1) := dget daX11_leg_0 29 (q := (62, .aload_n 0, 1)) rfl
theorem dX11_leg_63 : decode cX11_leg 63 = .ok (.iconst (-1), 1) := dget daX11_leg_0 30 (q := (63, .iconst (-1), 1)) rfl
theorem dX11_leg_64 : decode cX11_leg 64 = .ok (.invokevirtual 77, 3) := dget daX11_leg_0 31 (q := (64, .invokevirtual 77, 3)) rfl
theorem dX11_leg_67 : decode cX11_leg 67 = .ok (.ireturn, 1) := dget daX11_leg_0 32 (q := (67, .ireturn, 1)) rfl
theorem dX11_leg_68 : decode cX11_leg 68 = .ok (.iload 5, 2) := dget daX11_leg_0 33 (q := (68, .iload 5, 2)) rfl
theorem dX11_leg_70 : decode cX11_leg 70 = .ok (.ifCond .lt 10, 3) := dget daX11_leg_0 34 (q := (70, .ifCond .lt 10, 3)) rfl
theorem dX11_leg_73 : decode cX11_leg 73 = .ok (.iload 6, 2) := dget daX11_leg_0 35 (q := (73, .iload 6, 2)) rfl
theorem dX11_leg_75 : decode cX11_leg 75 = .ok (.iload 5, 2) := dget daX11_leg_0 36 (q := (75, .iload 5, 2)) rfl
theorem dX11_leg_77 : decode cX11_leg 77 = .ok (.if_icmp .gt 10, 3) := dget daX11_leg_0 37 (q := (77, .if_icmp .gt 10, 3)) rfl
theorem dX11_leg_80 : decode cX11_leg 80 = .ok (.aload_n 0, 1) := dget daX11_leg_0 38 (q := (80, .aload_n 0, 1)) rfl
theorem dX11_leg_81 : decode cX11_leg 81 = .ok (.bipush (-4), 2) := dget daX11_leg_0 39 (q := (81, .bipush (-4), 2)) rfl
def tdaX11_leg_1 : List (Nat × (Instr × Nat)) := [(83, .invokevirtual 77, 3), (86, .ireturn, 1), (87, .iload 5, 2), (89, .sipush 20000, 3), (92, .if_icmp .gt 21, 3), (95, .iload 6, 2), (97, .sipush 20000, 3), (100, .if_icmp .gt 13, 3), (103, .aload_n 0, 1), (104, .getfield 19, 3), (107, .invokevirtual 115, 3), (110, .ifCond .eq 10, 3), (113, .aload_n 0, 1), (114, .bipush (-6), 2), (116, .invokevirtual 77, 3), (119, .ireturn, 1), (120, .aload_n 0, 1), (121, .getfield 19, 3), (124, .aload 7, 2), (126, .aload 8, 2), (128, .iload_n 3, 1), (129, .iload 4, 2), (131, .iload 5, 2), (133, .iload 6, 2), (135, .invokevirtual 119, 3), (138, .ireturn, 1)]
theorem daX11_leg_1 : tdaX11_leg_1.all (fun q => decide (decode cX11_leg q.1 = .ok q.2)) = true := by decide +kernel
theorem dX11_leg_83 : decode cX11_leg 83 = .ok (.invokevirtual 77, 3) := dget daX11_leg_1 0 (q := (83, .invokevirtual 77, 3)) rfl
theorem dX11_leg_86 : decode cX11_leg 86 = .ok (.ireturn, 1) := dget daX11_leg_1 1 (q := (86, .ireturn, 1)) rfl
theorem dX11_leg_87 : decode cX11_leg 87 = .ok (.iload 5, 2) := dget daX11_leg_1 2 (q := (87, .iload 5, 2)) rfl
theorem dX11_leg_89 : decode cX11_leg 89 = .ok (.sipush 20000, 3) := dget daX11_leg_1 3 (q := (89, .sipush 20000, 3)) rfl
theorem dX11_leg_92 : decode cX11_leg 92 = .ok (.if_icmp .gt 21, 3) := dget daX11_leg_1 4 (q := (92, .if_icmp .gt 21, 3)) rfl
theorem dX11_leg_95 : decode cX11_leg 95 = .ok (.iload 6, 2) := dget daX11_leg_1 5 (q := (95, .iload 6, 2)) rfl
theorem dX11_leg_97 : decode cX11_leg 97 = .ok (.sipush 20000, 3) := dget daX11_leg_1 6 (q := (97, .sipush 20000, 3)) rfl
theorem dX11_leg_100 : decode cX11_leg 100 = .ok (.if_icmp .gt 13, 3) := dget daX11_leg_1 7 (q := (100, .if_icmp .gt 13, 3)) rfl
theorem dX11_leg_103 : decode cX11_leg 103 = .ok (.aload_n 0, 1) := dget daX11_leg_1 8 (q := (103, .aload_n 0, 1)) rfl
theorem dX11_leg_104 : decode cX11_leg 104 = .ok (.getfield 19, 3) := dget daX11_leg_1 9 (q := (104, .getfield 19, 3)) rfl
theorem dX11_leg_107 : decode cX11_leg 107 = .ok (.invokevirtual 115, 3) := dget daX11_leg_1 10 (q := (107, .invokevirtual 115, 3)) rfl
theorem dX11_leg_110 : decode cX11_leg 110 = .ok (.ifCond .eq 10, 3) := dget daX11_leg_1 11 (q := (110, .ifCond .eq 10, 3)) rfl
theorem dX11_leg_113 : decode cX11_leg 113 = .ok (.aload_n 0, 1) := dget daX11_leg_1 12 (q := (113, .aload_n 0, 1)) rfl
theorem dX11_leg_114 : decode cX11_leg 114 = .ok (.bipush (-6), 2) := dget daX11_leg_1 13 (q := (114, .bipush (-6), 2)) rfl
theorem dX11_leg_116 : decode cX11_leg 116 = .ok (.invokevirtual 77, 3) := dget daX11_leg_1 14 (q := (116, .invokevirtual 77, 3)) rfl
theorem dX11_leg_119 : decode cX11_leg 119 = .ok (.ireturn, 1) := dget daX11_leg_1 15 (q := (119, .ireturn, 1)) rfl
theorem dX11_leg_120 : decode cX11_leg 120 = .ok (.aload_n 0, 1) := dget daX11_leg_1 16 (q := (120, .aload_n 0, 1)) rfl
theorem dX11_leg_121 : decode cX11_leg 121 = .ok (.getfield 19, 3) := dget daX11_leg_1 17 (q := (121, .getfield 19, 3)) rfl
theorem dX11_leg_124 : decode cX11_leg 124 = .ok (.aload 7, 2) := dget daX11_leg_1 18 (q := (124, .aload 7, 2)) rfl
theorem dX11_leg_126 : decode cX11_leg 126 = .ok (.aload 8, 2) := dget daX11_leg_1 19 (q := (126, .aload 8, 2)) rfl
theorem dX11_leg_128 : decode cX11_leg 128 = .ok (.iload_n 3, 1) := dget daX11_leg_1 20 (q := (128, .iload_n 3, 1)) rfl
theorem dX11_leg_129 : decode cX11_leg 129 = .ok (.iload 4, 2) := dget daX11_leg_1 21 (q := (129, .iload 4, 2)) rfl
theorem dX11_leg_131 : decode cX11_leg 131 = .ok (.iload 5, 2) := dget daX11_leg_1 22 (q := (131, .iload 5, 2)) rfl
theorem dX11_leg_133 : decode cX11_leg 133 = .ok (.iload 6, 2) := dget daX11_leg_1 23 (q := (133, .iload 6, 2)) rfl
theorem dX11_leg_135 : decode cX11_leg 135 = .ok (.invokevirtual 119, 3) := dget daX11_leg_1 24 (q := (135, .invokevirtual 119, 3)) rfl
theorem dX11_leg_138 : decode cX11_leg 138 = .ok (.ireturn, 1) := dget daX11_leg_1 25 (q := (138, .ireturn, 1)) rfl
def tdaX11_log_0 : List (Nat × (Instr × Nat)) := [(0, .aload_n 0, 1), (1, .getfield 19, 3), (4, .iload_n 1, 1), (5, .invokevirtual 123, 3), (8, .astore 4, 2), (10, .aload 4, 2), (12, .ifnonnull 9, 3), (15, .aload_n 0, 1), (16, .iconst (-1), 1), (17, .invokevirtual 77, 3), (20, .ireturn, 1), (21, .iload_n 2, 1), (22, .ifCond .lt 7, 3), (25, .iload_n 3, 1), (26, .ifCond .ge 10, 3), (29, .aload_n 0, 1), (30, .bipush (-4), 2), (32, .invokevirtual 77, 3), (35, .ireturn, 1), (36, .iload_n 2, 1), (37, .sipush 30000, 3), (40, .if_icmp .gt 10, 3), (43, .iload_n 3, 1), (44, .sipush 30000, 3), (47, .if_icmp .le 10, 3), (50, .aload_n 0, 1), (51, .bipush (-6), 2), (53, .invokevirtual 77, 3), (56, .ireturn, 1), (57, .aload 4, 2), (59, .getfield 126, 3), (62, .istore 5, 2), (64, .aload 4, 2), (66, .iload_n 2, 1), (67, .iload_n 3, 1), (68, .invokevirtual 132, 3), (71, .iload 5, 2), (73, .ifCond .eq 7, 3), (76, .iconst 0, 1), (77, .goto 4, 3)]
theorem daX11_log_0 : tdaX11_log_0.all (fun q => decide (decode cX11_log q.1 = .ok q.2)) = true := by decide +kernel
theorem dX11_log_0 : decode cX11_log 0 = .ok (.aload_n 0, 1) := dget daX11_log_0 0 (q := (0, .aload_n 0, 1)) rfl
theorem dX11_log_1 : decode cX11_log 1 = .ok (.getfield 19, 3) := dget daX11_log_0 1 (q := (1, .getfield 19, 3)) rfl
theorem dX11_log_4 : decode cX11_log 4 = .ok (.iload_n 1, 1) := dget daX11_log_0 2 (q := (4, .iload_n 1, 1)) rfl
theorem dX11_log_5 : decode cX11_log 5 = .ok (.invokevirtual 123, 3) := dget daX11_log_0 3 (q := (5, .invokevirtual 123, 3)) rfl
theorem dX11_log_8 : decode cX11_log 8 = .ok (.astore 4, 2) := dget daX11_log_0 4 (q := (8, .astore 4, 2)) rfl
theorem dX11_log_10 : decode cX11_log 10 = .ok (.aload 4, 2) := dget daX11_log_0 5 (q := (10, .aload 4, 2)) rfl
theorem dX11_log_12 : decode cX11_log 12 = .ok (.ifnonnull 9, 3) := dget daX11_log_0 6 (q := (12, .ifnonnull 9, 3)) rfl
theorem dX11_log_15 : decode cX11_log 15 = .ok (.aload_n 0, 1) := dget daX11_log_0 7 (q := (15, .aload_n 0, 1)) rfl
theorem dX11_log_16 : decode cX11_log 16 = .ok (.iconst (-1), 1) := dget daX11_log_0 8 (q := (16, .iconst (-1), 1)) rfl
theorem dX11_log_17 : decode cX11_log 17 = .ok (.invokevirtual 77, 3) := dget daX11_log_0 9 (q := (17, .invokevirtual 77, 3)) rfl
theorem dX11_log_20 : decode cX11_log 20 = .ok (.ireturn, 1) := dget daX11_log_0 10 (q := (20, .ireturn, 1)) rfl
theorem dX11_log_21 : decode cX11_log 21 = .ok (.iload_n 2, 1) := dget daX11_log_0 11 (q := (21, .iload_n 2, 1)) rfl
theorem dX11_log_22 : decode cX11_log 22 = .ok (.ifCond .lt 7, 3) := dget daX11_log_0 12 (q := (22, .ifCond .lt 7, 3)) rfl
theorem dX11_log_25 : decode cX11_log 25 = .ok (.iload_n 3, 1) := dget daX11_log_0 13 (q := (25, .iload_n 3, 1)) rfl
theorem dX11_log_26 : decode cX11_log 26 = .ok (.ifCond .ge 10, 3) := dget daX11_log_0 14 (q := (26, .ifCond .ge 10, 3)) rfl
theorem dX11_log_29 : decode cX11_log 29 = .ok (.aload_n 0, 1) := dget daX11_log_0 15 (q := (29, .aload_n 0, 1)) rfl
theorem dX11_log_30 : decode cX11_log 30 = .ok (.bipush (-4), 2) := dget daX11_log_0 16 (q := (30, .bipush (-4), 2)) rfl
theorem dX11_log_32 : decode cX11_log 32 = .ok (.invokevirtual 77, 3) := dget daX11_log_0 17 (q := (32, .invokevirtual 77, 3)) rfl
theorem dX11_log_35 : decode cX11_log 35 = .ok (.ireturn, 1) := dget daX11_log_0 18 (q := (35, .ireturn, 1)) rfl
theorem dX11_log_36 : decode cX11_log 36 = .ok (.iload_n 2, 1) := dget daX11_log_0 19 (q := (36, .iload_n 2, 1)) rfl
theorem dX11_log_37 : decode cX11_log 37 = .ok (.sipush 30000, 3) := dget daX11_log_0 20 (q := (37, .sipush 30000, 3)) rfl
theorem dX11_log_40 : decode cX11_log 40 = .ok (.if_icmp .gt 10, 3) := dget daX11_log_0 21 (q := (40, .if_icmp .gt 10, 3)) rfl
theorem dX11_log_43 : decode cX11_log 43 = .ok (.iload_n 3, 1) := dget daX11_log_0 22 (q := (43, .iload_n 3, 1)) rfl
theorem dX11_log_44 : decode cX11_log 44 = .ok (.sipush 30000, 3) := dget daX11_log_0 23 (q := (44, .sipush 30000, 3)) rfl
theorem dX11_log_47 : decode cX11_log 47 = .ok (.if_icmp .le 10, 3) := dget daX11_log_0 24 (q := (47, .if_icmp .le 10, 3)) rfl
theorem dX11_log_50 : decode cX11_log 50 = .ok (.aload_n 0, 1) := dget daX11_log_0 25 (q := (50, .aload_n 0, 1)) rfl
theorem dX11_log_51 : decode cX11_log 51 = .ok (.bipush (-6), 2) := dget daX11_log_0 26 (q := (51, .bipush (-6), 2)) rfl
theorem dX11_log_53 : decode cX11_log 53 = .ok (.invokevirtual 77, 3) := dget daX11_log_0 27 (q := (53, .invokevirtual 77, 3)) rfl
theorem dX11_log_56 : decode cX11_log 56 = .ok (.ireturn, 1) := dget daX11_log_0 28 (q := (56, .ireturn, 1)) rfl
theorem dX11_log_57 : decode cX11_log 57 = .ok (.aload 4, 2) := dget daX11_log_0 29 (q := (57, .aload 4, 2)) rfl
theorem dX11_log_59 : decode cX11_log 59 = .ok (.getfield 126, 3) := dget daX11_log_0 30 (q := (59, .getfield 126, 3)) rfl
theorem dX11_log_62 : decode cX11_log 62 = .ok (.istore 5, 2) := dget daX11_log_0 31 (q := (62, .istore 5, 2)) rfl
theorem dX11_log_64 : decode cX11_log 64 = .ok (.aload 4, 2) := dget daX11_log_0 32 (q := (64, .aload 4, 2)) rfl
theorem dX11_log_66 : decode cX11_log 66 = .ok (.iload_n 2, 1) := dget daX11_log_0 33 (q := (66, .iload_n 2, 1)) rfl
theorem dX11_log_67 : decode cX11_log 67 = .ok (.iload_n 3, 1) := dget daX11_log_0 34 (q := (67, .iload_n 3, 1)) rfl
theorem dX11_log_68 : decode cX11_log 68 = .ok (.invokevirtual 132, 3) := dget daX11_log_0 35 (q := (68, .invokevirtual 132, 3)) rfl
theorem dX11_log_71 : decode cX11_log 71 = .ok (.iload 5, 2) := dget daX11_log_0 36 (q := (71, .iload 5, 2)) rfl
theorem dX11_log_73 : decode cX11_log 73 = .ok (.ifCond .eq 7, 3) := dget daX11_log_0 37 (q := (73, .ifCond .eq 7, 3)) rfl
theorem dX11_log_76 : decode cX11_log 76 = .ok (.iconst 0, 1) := dget daX11_log_0 38 (q := (76, .iconst 0, 1)) rfl
theorem dX11_log_77 : decode cX11_log 77 = .ok (.goto 4, 3) := dget daX11_log_0 39 (q := (77, .goto 4, 3)) rfl
def tdaX11_log_1 : List (Nat × (Instr × Nat)) := [(80, .iconst 1, 1), (81, .ireturn, 1)]
theorem daX11_log_1 : tdaX11_log_1.all (fun q => decide (decode cX11_log q.1 = .ok q.2)) = true := by decide +kernel
theorem dX11_log_80 : decode cX11_log 80 = .ok (.iconst 1, 1) := dget daX11_log_1 0 (q := (80, .iconst 1, 1)) rfl
theorem dX11_log_81 : decode cX11_log 81 = .ok (.ireturn, 1) := dget daX11_log_1 1 (q := (81, .ireturn, 1)) rfl
def tdaX11_cause_0 : List (Nat × (Instr × Nat)) := [(0, .aload_n 0, 1), (1, .getfield 19, 3), (4, .iload_n 1, 1), (5, .invokevirtual 123, 3), (8, .astore_n 3, 1), (9, .aload_n 3, 1), (10, .ifnull 12, 3), (13, .bipush 6, 2), (15, .iload_n 2, 1), (16, .invokestatic 85, 3), (19, .ifCond .ne 9, 3), (22, .aload_n 0, 1), (23, .iconst (-1), 1), (24, .invokevirtual 77, 3), (27, .ireturn, 1), (28, .aload_n 3, 1), (29, .getfield 136, 3), (32, .istore 4, 2), (34, .aload_n 3, 1), (35, .iload_n 2, 1), (36, .putfield 136, 3), (39, .iload 4, 2), (41, .ireturn, 1)]
theorem daX11_cause_0 : tdaX11_cause_0.all (fun q => decide (decode cX11_cause q.1 = .ok q.2)) = true := by decide +kernel
theorem dX11_cause_0 : decode cX11_cause 0 = .ok (.aload_n 0, 1) := dget daX11_cause_0 0 (q := (0, .aload_n 0, 1)) rfl
theorem dX11_cause_1 : decode cX11_cause 1 = .ok (.getfield 19, 3) := dget daX11_cause_0 1 (q := (1, .getfield 19, 3)) rfl
theorem dX11_cause_4 : decode cX11_cause 4 = .ok (.iload_n 1, 1) := dget daX11_cause_0 2 (q := (4, .iload_n 1, 1)) rfl
theorem dX11_cause_5 : decode cX11_cause 5 = .ok (.invokevirtual 123, 3) := dget daX11_cause_0 3 (q := (5, .invokevirtual 123, 3)) rfl
theorem dX11_cause_8 : decode cX11_cause 8 = .ok (.astore_n 3, 1) := dget daX11_cause_0 4 (q := (8, .astore_n 3, 1)) rfl
theorem dX11_cause_9 : decode cX11_cause 9 = .ok (.aload_n 3, 1) := dget daX11_cause_0 5 (q := (9, .aload_n 3, 1)) rfl
theorem dX11_cause_10 : decode cX11_cause 10 = .ok (.ifnull 12, 3) := dget daX11_cause_0 6 (q := (10, .ifnull 12, 3)) rfl
theorem dX11_cause_13 : decode cX11_cause 13 = .ok (.bipush 6, 2) := dget daX11_cause_0 7 (q := (13, .bipush 6, 2)) rfl
theorem dX11_cause_15 : decode cX11_cause 15 = .ok (.iload_n 2, 1) := dget daX11_cause_0 8 (q := (15, .iload_n 2, 1)) rfl
theorem dX11_cause_16 : decode cX11_cause 16 = .ok (.invokestatic 85, 3) := dget daX11_cause_0 9 (q := (16, .invokestatic 85, 3)) rfl
theorem dX11_cause_19 : decode cX11_cause 19 = .ok (.ifCond .ne 9, 3) := dget daX11_cause_0 10 (q := (19, .ifCond .ne 9, 3)) rfl
theorem dX11_cause_22 : decode cX11_cause 22 = .ok (.aload_n 0, 1) := dget daX11_cause_0 11 (q := (22, .aload_n 0, 1)) rfl
theorem dX11_cause_23 : decode cX11_cause 23 = .ok (.iconst (-1), 1) := dget daX11_cause_0 12 (q := (23, .iconst (-1), 1)) rfl
theorem dX11_cause_24 : decode cX11_cause 24 = .ok (.invokevirtual 77, 3) := dget daX11_cause_0 13 (q := (24, .invokevirtual 77, 3)) rfl
theorem dX11_cause_27 : decode cX11_cause 27 = .ok (.ireturn, 1) := dget daX11_cause_0 14 (q := (27, .ireturn, 1)) rfl
theorem dX11_cause_28 : decode cX11_cause 28 = .ok (.aload_n 3, 1) := dget daX11_cause_0 15 (q := (28, .aload_n 3, 1)) rfl
theorem dX11_cause_29 : decode cX11_cause 29 = .ok (.getfield 136, 3) := dget daX11_cause_0 16 (q := (29, .getfield 136, 3)) rfl
theorem dX11_cause_32 : decode cX11_cause 32 = .ok (.istore 4, 2) := dget daX11_cause_0 17 (q := (32, .istore 4, 2)) rfl
theorem dX11_cause_34 : decode cX11_cause 34 = .ok (.aload_n 3, 1) := dget daX11_cause_0 18 (q := (34, .aload_n 3, 1)) rfl
theorem dX11_cause_35 : decode cX11_cause 35 = .ok (.iload_n 2, 1) := dget daX11_cause_0 19 (q := (35, .iload_n 2, 1)) rfl
theorem dX11_cause_36 : decode cX11_cause 36 = .ok (.putfield 136, 3) := dget daX11_cause_0 20 (q := (36, .putfield 136, 3)) rfl
theorem dX11_cause_39 : decode cX11_cause 39 = .ok (.iload 4, 2) := dget daX11_cause_0 21 (q := (39, .iload 4, 2)) rfl
theorem dX11_cause_41 : decode cX11_cause 41 = .ok (.ireturn, 1) := dget daX11_cause_0 22 (q := (41, .ireturn, 1)) rfl
def tdaX11_set_0 : List (Nat × (Instr × Nat)) := [(0, .aload_n 0, 1), (1, .getfield 67, 3), (4, .arraylength, 1), (5, .iload_n 1, 1), (6, .invokestatic 85, 3), (9, .ifCond .ne 10, 3), (12, .aload_n 0, 1), (13, .bipush (-2), 2), (15, .invokevirtual 77, 3), (18, .ireturn, 1), (19, .iload_n 2, 1), (20, .getstatic 139, 3), (23, .iload_n 1, 1), (24, .iaload, 1), (25, .if_icmp .ge 10, 3), (28, .aload_n 0, 1), (29, .bipush (-4), 2), (31, .invokevirtual 77, 3), (34, .ireturn, 1), (35, .iload_n 2, 1), (36, .getstatic 142, 3), (39, .iload_n 1, 1), (40, .iaload, 1), (41, .if_icmp .le 10, 3), (44, .aload_n 0, 1), (45, .bipush (-6), 2), (47, .invokevirtual 77, 3), (50, .ireturn, 1), (51, .aload_n 0, 1), (52, .getfield 67, 3), (55, .iload_n 1, 1), (56, .iaload, 1), (57, .istore_n 3, 1), (58, .aload_n 0, 1), (59, .getfield 67, 3), (62, .iload_n 1, 1), (63, .iload_n 2, 1), (64, .iastore, 1), (65, .iload_n 3, 1), (66, .ireturn, 1)]
theorem daX11_set_0 : tdaX11_set_0.all (fun q => decide (decode cX11_set q.1 = .ok q.2)) = true := by decide +kernel
theorem dX11_set_0 : decode cX11_set 0 = .ok (.aload_n 0, 1) := dget daX11_set_0 0 (q := (0, .aload_n 0, 1)) rfl
theorem dX11_set_1 : decode cX11_set 1 = .ok (.getfield 67, 3) := dget daX11_set_0 1 (q := (1, .getfield 67, 3)) rfl
theorem dX11_set_4 : decode cX11_set 4 = .ok (.arraylength, 1) := dget daX11_set_0 2 (q := (4, .arraylength, 1)) rfl
theorem dX11_set_5 : decode cX11_set 5 = .ok (.iload_n 1, 1) := dget daX11_set_0 3 (q := (5, .iload_n 1, 1)) rfl
theorem dX11_set_6 : decode cX11_set 6 = .ok (.invokestatic 85, 3) := dget daX11_set_0 4 (q := (6, .invokestatic 85, 3)) rfl
theorem dX11_set_9 : decode cX11_set 9 = .ok (.ifCond .ne 10, 3) := dget daX11_set_0 5 (q := (9, .ifCond .ne 10, 3)) rfl
theorem dX11_set_12 : decode cX11_set 12 = .ok (.aload_n 0, 1) := dget daX11_set_0 6 (q := (12, .aload_n 0, 1)) rfl
theorem dX11_set_13 : decode cX11_set 13 = .ok (.bipush (-2), 2) := dget daX11_set_0 7 (q := (13, .bipush (-2), 2)) rfl
theorem dX11_set_15 : decode cX11_set 15 = .ok (.invokevirtual 77, 3) := dget daX11_set_0 8 (q := (15, .invokevirtual 77, 3)) rfl
theorem dX11_set_18 : decode cX11_set 18 = .ok (.ireturn, 1) := dget daX11_set_0 9 (q := (18, .ireturn, 1)) rfl
theorem dX11_set_19 : decode cX11_set 19 = .ok (.iload_n 2, 1) := dget daX11_set_0 10 (q := (19, .iload_n 2, 1)) rfl
theorem dX11_set_20 : decode cX11_set 20 = .ok (.getstatic 139, 3) := dget daX11_set_0 11 (q := (20, .getstatic 139, 3)) rfl
theorem dX11_set_23 : decode cX11_set 23 = .ok (.iload_n 1, 1) := dget daX11_set_0 12 (q := (23, .iload_n 1, 1)) rfl
theorem dX11_set_24 : decode cX11_set 24 = .ok (.iaload, 1) := dget daX11_set_0 13 (q := (24, .iaload, 1)) rfl
theorem dX11_set_25 : decode cX11_set 25 = .ok (.if_icmp .ge 10, 3) := dget daX11_set_0 14 (q := (25, .if_icmp .ge 10, 3)) rfl
theorem dX11_set_28 : decode cX11_set 28 = .ok (.aload_n 0, 1) := dget daX11_set_0 15 (q := (28, .aload_n 0, 1)) rfl
theorem dX11_set_29 : decode cX11_set 29 = .ok (.bipush (-4), 2) := dget daX11_set_0 16 (q := (29, .bipush (-4), 2)) rfl
theorem dX11_set_31 : decode cX11_set 31 = .ok (.invokevirtual 77, 3) := dget daX11_set_0 17 (q := (31, .invokevirtual 77, 3)) rfl
theorem dX11_set_34 : decode cX11_set 34 = .ok (.ireturn, 1) := dget daX11_set_0 18 (q := (34, .ireturn, 1)) rfl
theorem dX11_set_35 : decode cX11_set 35 = .ok (.iload_n 2, 1) := dget daX11_set_0 19 (q := (35, .iload_n 2, 1)) rfl
theorem dX11_set_36 : decode cX11_set 36 = .ok (.getstatic 142, 3) := dget daX11_set_0 20 (q := (36, .getstatic 142, 3)) rfl
theorem dX11_set_39 : decode cX11_set 39 = .ok (.iload_n 1, 1) := dget daX11_set_0 21 (q := (39, .iload_n 1, 1)) rfl
theorem dX11_set_40 : decode cX11_set 40 = .ok (.iaload, 1) := dget daX11_set_0 22 (q := (40, .iaload, 1)) rfl
theorem dX11_set_41 : decode cX11_set 41 = .ok (.if_icmp .le 10, 3) := dget daX11_set_0 23 (q := (41, .if_icmp .le 10, 3)) rfl
theorem dX11_set_44 : decode cX11_set 44 = .ok (.aload_n 0, 1) := dget daX11_set_0 24 (q := (44, .aload_n 0, 1)) rfl
theorem dX11_set_45 : decode cX11_set 45 = .ok (.bipush (-6), 2) := dget daX11_set_0 25 (q := (45, .bipush (-6), 2)) rfl
theorem dX11_set_47 : decode cX11_set 47 = .ok (.invokevirtual 77, 3) := dget daX11_set_0 26 (q := (47, .invokevirtual 77, 3)) rfl
theorem dX11_set_50 : decode cX11_set 50 = .ok (.ireturn, 1) := dget daX11_set_0 27 (q := (50, .ireturn, 1)) rfl
theorem dX11_set_51 : decode cX11_set 51 = .ok (.aload_n 0, 1) := dget daX11_set_0 28 (q := (51, .aload_n 0, 1)) rfl
theorem dX11_set_52 : decode cX11_set 52 = .ok (.getfield 67, 3) := dget daX11_set_0 29 (q := (52, .getfield 67, 3)) rfl
theorem dX11_set_55 : decode cX11_set 55 = .ok (.iload_n 1, 1) := dget daX11_set_0 30 (q := (55, .iload_n 1, 1)) rfl
theorem dX11_set_56 : decode cX11_set 56 = .ok (.iaload, 1) := dget daX11_set_0 31 (q := (56, .iaload, 1)) rfl
theorem dX11_set_57 : decode cX11_set 57 = .ok (.istore_n 3, 1) := dget daX11_set_0 32 (q := (57, .istore_n 3, 1)) rfl
theorem dX11_set_58 : decode cX11_set 58 = .ok (.aload_n 0, 1) := dget daX11_set_0 33 (q := (58, .aload_n 0, 1)) rfl
theorem dX11_set_59 : decode cX11_set 59 = .ok (.getfield 67, 3) := dget daX11_set_0 34 (q := (59, .getfield 67, 3)) rfl
theorem dX11_set_62 : decode cX11_set 62 = .ok (.iload_n 1, 1) := dget daX11_set_0 35 (q := (62, .iload_n 1, 1)) rfl
theorem dX11_set_63 : decode cX11_set 63 = .ok (.iload_n 2, 1) := dget daX11_set_0 36 (q := (63, .iload_n 2, 1)) rfl
theorem dX11_set_64 : decode cX11_set 64 = .ok (.iastore, 1) := dget daX11_set_0 37 (q := (64, .iastore, 1)) rfl
theorem dX11_set_65 : decode cX11_set 65 = .ok (.iload_n 3, 1) := dget daX11_set_0 38 (q := (65, .iload_n 3, 1)) rfl
theorem dX11_set_66 : decode cX11_set 66 = .ok (.ireturn, 1) := dget daX11_set_0 39 (q := (66, .ireturn, 1)) rfl
def tdaX11_legOf_0 : List (Nat × (Instr × Nat)) := [(0, .aload_n 0, 1), (1, .getfield 19, 3), (4, .iload_n 1, 1), (5, .invokevirtual 123, 3), (8, .astore_n 3, 1), (9, .aload_n 3, 1), (10, .ifnonnull 9, 3), (13, .aload_n 0, 1), (14, .iconst (-1), 1), (15, .invokevirtual 77, 3), (18, .ireturn, 1), (19, .bipush 6, 2), (21, .iload_n 2, 1), (22, .invokestatic 85, 3), (25, .ifCond .ne 10, 3), (28, .aload_n 0, 1), (29, .bipush (-2), 2), (31, .invokevirtual 77, 3), (34, .ireturn, 1), (35, .aload_n 3, 1), (36, .getfield 126, 3), (39, .ifCond .ne 10, 3), (42, .aload_n 0, 1), (43, .bipush (-5), 2), (45, .invokevirtual 77, 3), (48, .ireturn, 1), (49, .iload_n 2, 1), (50, .tableswitch 64 0 4 #[34, 39, 44, 51, 58], 34), (84, .aload_n 3, 1), (85, .getfield 145, 3), (88, .ireturn, 1), (89, .aload_n 3, 1), (90, .getfield 148, 3), (93, .ireturn, 1), (94, .aload_n 0, 1), (95, .aload_n 3, 1), (96, .iconst 0, 1), (97, .invokevirtual 151, 3), (100, .ireturn, 1), (101, .aload_n 0, 1)]
theorem daX11_legOf_0 : tdaX11_legOf_0.all (fun q => decide (decode cX11_legOf q.1 = .ok q.2)) = true := by decide +kernel
theorem dX11_legOf_0 : decode cX11_legOf 0 = .ok (.aload_n 0, 1) := dget daX11_legOf_0 0 (q := (0, .aload_n 0, 1)) rfl
theorem dX11_legOf_1 : decode cX11_legOf 1 = .ok (.getfield 19, 3) := dget daX11_legOf_0 1 (q := (1, .getfield 19, 3)) rfl
theorem dX11_legOf_4 : decode cX11_legOf 4 = .ok (.iload_n 1, 1) := dget daX11_legOf_0 2 (q := (4, .iload_n 1, 1)) rfl
theorem dX11_legOf_5 : decode cX11_legOf 5 = .ok (.invokevirtual 123, 3) := dget daX11_legOf_0 3 (q := (5, .invokevirtual 123, 3)) rfl
theorem dX11_legOf_8 : decode cX11_legOf 8 = .ok (.astore_n 3, 1) := dget daX11_legOf_0 4 (q := (8, .astore_n 3, 1)) rfl
theorem dX11_legOf_9 : decode cX11_legOf 9 = .ok (.aload_n 3, 1) := dget daX11_legOf_0 5 (q := (9, .aload_n 3, 1)) rfl
theorem dX11_legOf_10 : decode cX11_legOf 10 = .ok (.ifnonnull 9, 3) := dget daX11_legOf_0 6 (q := (10, .ifnonnull 9, 3)) rfl
theorem dX11_legOf_13 : decode cX11_legOf 13 = .ok (.aload_n 0, 1) := dget daX11_legOf_0 7 (q := (13, .aload_n 0, 1)) rfl
theorem dX11_legOf_14 : decode cX11_legOf 14 = .ok (.iconst (-1), 1) := dget daX11_legOf_0 8 (q := (14, .iconst (-1), 1)) rfl
theorem dX11_legOf_15 : decode cX11_legOf 15 = .ok (.invokevirtual 77, 3) := dget daX11_legOf_0 9 (q := (15, .invokevirtual 77, 3)) rfl
theorem dX11_legOf_18 : decode cX11_legOf 18 = .ok (.ireturn, 1) := dget daX11_legOf_0 10 (q := (18, .ireturn, 1)) rfl
theorem dX11_legOf_19 : decode cX11_legOf 19 = .ok (.bipush 6, 2) := dget daX11_legOf_0 11 (q := (19, .bipush 6, 2)) rfl
theorem dX11_legOf_21 : decode cX11_legOf 21 = .ok (.iload_n 2, 1) := dget daX11_legOf_0 12 (q := (21, .iload_n 2, 1)) rfl
theorem dX11_legOf_22 : decode cX11_legOf 22 = .ok (.invokestatic 85, 3) := dget daX11_legOf_0 13 (q := (22, .invokestatic 85, 3)) rfl
theorem dX11_legOf_25 : decode cX11_legOf 25 = .ok (.ifCond .ne 10, 3) := dget daX11_legOf_0 14 (q := (25, .ifCond .ne 10, 3)) rfl
theorem dX11_legOf_28 : decode cX11_legOf 28 = .ok (.aload_n 0, 1) := dget daX11_legOf_0 15 (q := (28, .aload_n 0, 1)) rfl
theorem dX11_legOf_29 : decode cX11_legOf 29 = .ok (.bipush (-2), 2) := dget daX11_legOf_0 16 (q := (29, .bipush (-2), 2)) rfl
theorem dX11_legOf_31 : decode cX11_legOf 31 = .ok (.invokevirtual 77, 3) := dget daX11_legOf_0 17 (q := (31, .invokevirtual 77, 3)) rfl
theorem dX11_legOf_34 : decode cX11_legOf 34 = .ok (.ireturn, 1) := dget daX11_legOf_0 18 (q := (34, .ireturn, 1)) rfl
theorem dX11_legOf_35 : decode cX11_legOf 35 = .ok (.aload_n 3, 1) := dget daX11_legOf_0 19 (q := (35, .aload_n 3, 1)) rfl
theorem dX11_legOf_36 : decode cX11_legOf 36 = .ok (.getfield 126, 3) := dget daX11_legOf_0 20 (q := (36, .getfield 126, 3)) rfl
theorem dX11_legOf_39 : decode cX11_legOf 39 = .ok (.ifCond .ne 10, 3) := dget daX11_legOf_0 21 (q := (39, .ifCond .ne 10, 3)) rfl
theorem dX11_legOf_42 : decode cX11_legOf 42 = .ok (.aload_n 0, 1) := dget daX11_legOf_0 22 (q := (42, .aload_n 0, 1)) rfl
theorem dX11_legOf_43 : decode cX11_legOf 43 = .ok (.bipush (-5), 2) := dget daX11_legOf_0 23 (q := (43, .bipush (-5), 2)) rfl
theorem dX11_legOf_45 : decode cX11_legOf 45 = .ok (.invokevirtual 77, 3) := dget daX11_legOf_0 24 (q := (45, .invokevirtual 77, 3)) rfl
theorem dX11_legOf_48 : decode cX11_legOf 48 = .ok (.ireturn, 1) := dget daX11_legOf_0 25 (q := (48, .ireturn, 1)) rfl
theorem dX11_legOf_49 : decode cX11_legOf 49 = .ok (.iload_n 2, 1) := dget daX11_legOf_0 26 (q := (49, .iload_n 2, 1)) rfl
theorem dX11_legOf_50 : decode cX11_legOf 50 = .ok (.tableswitch 64 0 4 #[34, 39, 44, 51, 58], 34) := dget daX11_legOf_0 27 (q := (50, .tableswitch 64 0 4 #[34, 39, 44, 51, 58], 34)) rfl
theorem dX11_legOf_84 : decode cX11_legOf 84 = .ok (.aload_n 3, 1) := dget daX11_legOf_0 28 (q := (84, .aload_n 3, 1)) rfl
theorem dX11_legOf_85 : decode cX11_legOf 85 = .ok (.getfield 145, 3) := dget daX11_legOf_0 29 (q := (85, .getfield 145, 3)) rfl
theorem dX11_legOf_88 : decode cX11_legOf 88 = .ok (.ireturn, 1) := dget daX11_legOf_0 30 (q := (88, .ireturn, 1)) rfl
theorem dX11_legOf_89 : decode cX11_legOf 89 = .ok (.aload_n 3, 1) := dget daX11_legOf_0 31 (q := (89, .aload_n 3, 1)) rfl
theorem dX11_legOf_90 : decode cX11_legOf 90 = .ok (.getfield 148, 3) := dget daX11_legOf_0 32 (q := (90, .getfield 148, 3)) rfl
theorem dX11_legOf_93 : decode cX11_legOf 93 = .ok (.ireturn, 1) := dget daX11_legOf_0 33 (q := (93, .ireturn, 1)) rfl
theorem dX11_legOf_94 : decode cX11_legOf 94 = .ok (.aload_n 0, 1) := dget daX11_legOf_0 34 (q := (94, .aload_n 0, 1)) rfl
theorem dX11_legOf_95 : decode cX11_legOf 95 = .ok (.aload_n 3, 1) := dget daX11_legOf_0 35 (q := (95, .aload_n 3, 1)) rfl
theorem dX11_legOf_96 : decode cX11_legOf 96 = .ok (.iconst 0, 1) := dget daX11_legOf_0 36 (q := (96, .iconst 0, 1)) rfl
theorem dX11_legOf_97 : decode cX11_legOf 97 = .ok (.invokevirtual 151, 3) := dget daX11_legOf_0 37 (q := (97, .invokevirtual 151, 3)) rfl
theorem dX11_legOf_100 : decode cX11_legOf 100 = .ok (.ireturn, 1) := dget daX11_legOf_0 38 (q := (100, .ireturn, 1)) rfl
theorem dX11_legOf_101 : decode cX11_legOf 101 = .ok (.aload_n 0, 1) := dget daX11_legOf_0 39 (q := (101, .aload_n 0, 1)) rfl
def tdaX11_legOf_1 : List (Nat × (Instr × Nat)) := [(102, .aload_n 3, 1), (103, .iconst 1, 1), (104, .invokevirtual 151, 3), (107, .ireturn, 1), (108, .aload_n 0, 1), (109, .aload_n 3, 1), (110, .invokevirtual 155, 3), (113, .ireturn, 1), (114, .aload_n 3, 1), (115, .getfield 145, 3), (118, .aload_n 0, 1), (119, .aload_n 3, 1), (120, .invokevirtual 155, 3), (123, .isub, 1), (124, .ireturn, 1)]
theorem daX11_legOf_1 : tdaX11_legOf_1.all (fun q => decide (decode cX11_legOf q.1 = .ok q.2)) = true := by decide +kernel
theorem dX11_legOf_102 : decode cX11_legOf 102 = .ok (.aload_n 3, 1) := dget daX11_legOf_1 0 (q := (102, .aload_n 3, 1)) rfl
theorem dX11_legOf_103 : decode cX11_legOf 103 = .ok (.iconst 1, 1) := dget daX11_legOf_1 1 (q := (103, .iconst 1, 1)) rfl
theorem dX11_legOf_104 : decode cX11_legOf 104 = .ok (.invokevirtual 151, 3) := dget daX11_legOf_1 2 (q := (104, .invokevirtual 151, 3)) rfl
theorem dX11_legOf_107 : decode cX11_legOf 107 = .ok (.ireturn, 1) := dget daX11_legOf_1 3 (q := (107, .ireturn, 1)) rfl
theorem dX11_legOf_108 : decode cX11_legOf 108 = .ok (.aload_n 0, 1) := dget daX11_legOf_1 4 (q := (108, .aload_n 0, 1)) rfl
theorem dX11_legOf_109 : decode cX11_legOf 109 = .ok (.aload_n 3, 1) := dget daX11_legOf_1 5 (q := (109, .aload_n 3, 1)) rfl
theorem dX11_legOf_110 : decode cX11_legOf 110 = .ok (.invokevirtual 155, 3) := dget daX11_legOf_1 6 (q := (110, .invokevirtual 155, 3)) rfl
theorem dX11_legOf_113 : decode cX11_legOf 113 = .ok (.ireturn, 1) := dget daX11_legOf_1 7 (q := (113, .ireturn, 1)) rfl
theorem dX11_legOf_114 : decode cX11_legOf 114 = .ok (.aload_n 3, 1) := dget daX11_legOf_1 8 (q := (114, .aload_n 3, 1)) rfl
theorem dX11_legOf_115 : decode cX11_legOf 115 = .ok (.getfield 145, 3) := dget daX11_legOf_1 9 (q := (115, .getfield 145, 3)) rfl
theorem dX11_legOf_118 : decode cX11_legOf 118 = .ok (.aload_n 0, 1) := dget daX11_legOf_1 10 (q := (118, .aload_n 0, 1)) rfl
theorem dX11_legOf_119 : decode cX11_legOf 119 = .ok (.aload_n 3, 1) := dget daX11_legOf_1 11 (q := (119, .aload_n 3, 1)) rfl
theorem dX11_legOf_120 : decode cX11_legOf 120 = .ok (.invokevirtual 155, 3) := dget daX11_legOf_1 12 (q := (120, .invokevirtual 155, 3)) rfl
theorem dX11_legOf_123 : decode cX11_legOf 123 = .ok (.isub, 1) := dget daX11_legOf_1 13 (q := (123, .isub, 1)) rfl
theorem dX11_legOf_124 : decode cX11_legOf 124 = .ok (.ireturn, 1) := dget daX11_legOf_1 14 (q := (124, .ireturn, 1)) rfl
def tdaX11_ahead_0 : List (Nat × (Instr × Nat)) := [(0, .aload_n 0, 1), (1, .getfield 19, 3), (4, .iload_n 1, 1), (5, .invokevirtual 123, 3), (8, .astore_n 3, 1), (9, .aload_n 3, 1), (10, .ifnonnull 9, 3), (13, .aload_n 0, 1), (14, .iconst (-1), 1), (15, .invokevirtual 77, 3), (18, .ireturn, 1), (19, .aload_n 0, 1), (20, .getfield 19, 3), (23, .aload_n 3, 1), (24, .iload_n 2, 1), (25, .aload_n 0, 1), (26, .iload_n 2, 1), (27, .invokevirtual 159, 3), (30, .invokevirtual 163, 3), (33, .astore 4, 2), (35, .aload 4, 2), (37, .ifnonnull 8, 3), (40, .bipush (-9), 2), (42, .goto 8, 3), (45, .aload 4, 2), (47, .getfield 167, 3), (50, .ireturn, 1)]
theorem daX11_ahead_0 : tdaX11_ahead_0.all (fun q => decide (decode cX11_ahead q.1 = .ok q.2)) = true := by decide +kernel
theorem dX11_ahead_0 : decode cX11_ahead 0 = .ok (.aload_n 0, 1) := dget daX11_ahead_0 0 (q := (0, .aload_n 0, 1)) rfl
theorem dX11_ahead_1 : decode cX11_ahead 1 = .ok (.getfield 19, 3) := dget daX11_ahead_0 1 (q := (1, .getfield 19, 3)) rfl
theorem dX11_ahead_4 : decode cX11_ahead 4 = .ok (.iload_n 1, 1) := dget daX11_ahead_0 2 (q := (4, .iload_n 1, 1)) rfl
theorem dX11_ahead_5 : decode cX11_ahead 5 = .ok (.invokevirtual 123, 3) := dget daX11_ahead_0 3 (q := (5, .invokevirtual 123, 3)) rfl
theorem dX11_ahead_8 : decode cX11_ahead 8 = .ok (.astore_n 3, 1) := dget daX11_ahead_0 4 (q := (8, .astore_n 3, 1)) rfl
theorem dX11_ahead_9 : decode cX11_ahead 9 = .ok (.aload_n 3, 1) := dget daX11_ahead_0 5 (q := (9, .aload_n 3, 1)) rfl
theorem dX11_ahead_10 : decode cX11_ahead 10 = .ok (.ifnonnull 9, 3) := dget daX11_ahead_0 6 (q := (10, .ifnonnull 9, 3)) rfl
theorem dX11_ahead_13 : decode cX11_ahead 13 = .ok (.aload_n 0, 1) := dget daX11_ahead_0 7 (q := (13, .aload_n 0, 1)) rfl
theorem dX11_ahead_14 : decode cX11_ahead 14 = .ok (.iconst (-1), 1) := dget daX11_ahead_0 8 (q := (14, .iconst (-1), 1)) rfl
theorem dX11_ahead_15 : decode cX11_ahead 15 = .ok (.invokevirtual 77, 3) := dget daX11_ahead_0 9 (q := (15, .invokevirtual 77, 3)) rfl
theorem dX11_ahead_18 : decode cX11_ahead 18 = .ok (.ireturn, 1) := dget daX11_ahead_0 10 (q := (18, .ireturn, 1)) rfl
theorem dX11_ahead_19 : decode cX11_ahead 19 = .ok (.aload_n 0, 1) := dget daX11_ahead_0 11 (q := (19, .aload_n 0, 1)) rfl
theorem dX11_ahead_20 : decode cX11_ahead 20 = .ok (.getfield 19, 3) := dget daX11_ahead_0 12 (q := (20, .getfield 19, 3)) rfl
theorem dX11_ahead_23 : decode cX11_ahead 23 = .ok (.aload_n 3, 1) := dget daX11_ahead_0 13 (q := (23, .aload_n 3, 1)) rfl
theorem dX11_ahead_24 : decode cX11_ahead 24 = .ok (.iload_n 2, 1) := dget daX11_ahead_0 14 (q := (24, .iload_n 2, 1)) rfl
theorem dX11_ahead_25 : decode cX11_ahead 25 = .ok (.aload_n 0, 1) := dget daX11_ahead_0 15 (q := (25, .aload_n 0, 1)) rfl
theorem dX11_ahead_26 : decode cX11_ahead 26 = .ok (.iload_n 2, 1) := dget daX11_ahead_0 16 (q := (26, .iload_n 2, 1)) rfl
theorem dX11_ahead_27 : decode cX11_ahead 27 = .ok (.invokevirtual 159, 3) := dget daX11_ahead_0 17 (q := (27, .invokevirtual 159, 3)) rfl
theorem dX11_ahead_30 : decode cX11_ahead 30 = .ok (.invokevirtual 163, 3) := dget daX11_ahead_0 18 (q := (30, .invokevirtual 163, 3)) rfl
theorem dX11_ahead_33 : decode cX11_ahead 33 = .ok (.astore 4, 2) := dget daX11_ahead_0 19 (q := (33, .astore 4, 2)) rfl
theorem dX11_ahead_35 : decode cX11_ahead 35 = .ok (.aload 4, 2) := dget daX11_ahead_0 20 (q := (35, .aload 4, 2)) rfl
theorem dX11_ahead_37 : decode cX11_ahead 37 = .ok (.ifnonnull 8, 3) := dget daX11_ahead_0 21 (q := (37, .ifnonnull 8, 3)) rfl
theorem dX11_ahead_40 : decode cX11_ahead 40 = .ok (.bipush (-9), 2) := dget daX11_ahead_0 22 (q := (40, .bipush (-9), 2)) rfl
theorem dX11_ahead_42 : decode cX11_ahead 42 = .ok (.goto 8, 3) := dget daX11_ahead_0 23 (q := (42, .goto 8, 3)) rfl
theorem dX11_ahead_45 : decode cX11_ahead 45 = .ok (.aload 4, 2) := dget daX11_ahead_0 24 (q := (45, .aload 4, 2)) rfl
theorem dX11_ahead_47 : decode cX11_ahead 47 = .ok (.getfield 167, 3) := dget daX11_ahead_0 25 (q := (47, .getfield 167, 3)) rfl
theorem dX11_ahead_50 : decode cX11_ahead 50 = .ok (.ireturn, 1) := dget daX11_ahead_0 26 (q := (50, .ireturn, 1)) rfl
def tdaX11_minutes_0 : List (Nat × (Instr × Nat)) := [(0, .aload_n 0, 1), (1, .getfield 19, 3), (4, .iload_n 1, 1), (5, .invokevirtual 123, 3), (8, .astore_n 3, 1), (9, .aload_n 3, 1), (10, .ifnull 12, 3), (13, .bipush 6, 2), (15, .iload_n 2, 1), (16, .invokestatic 85, 3), (19, .ifCond .ne 9, 3), (22, .aload_n 0, 1), (23, .iconst (-1), 1), (24, .invokevirtual 77, 3), (27, .ireturn, 1), (28, .aload_n 3, 1), (29, .getfield 126, 3), (32, .ifCond .ne 10, 3), (35, .aload_n 0, 1), (36, .bipush (-5), 2), (38, .invokevirtual 77, 3), (41, .ireturn, 1), (42, .aload_n 0, 1), (43, .getfield 19, 3), (46, .aload_n 3, 1), (47, .aload_n 0, 1), (48, .getfield 67, 3), (51, .iconst 0, 1), (52, .iaload, 1), (53, .aload_n 0, 1), (54, .getfield 67, 3), (57, .iconst 1, 1), (58, .iaload, 1), (59, .invokevirtual 170, 3), (62, .aload_n 0, 1), (63, .getfield 19, 3), (66, .getfield 174, 3), (69, .iload_n 2, 1), (70, .iaload, 1), (71, .ireturn, 1)]
theorem daX11_minutes_0 : tdaX11_minutes_0.all (fun q => decide (decode cX11_minutes q.1 = .ok q.2)) = true := by decide +kernel
theorem dX11_minutes_0 : decode cX11_minutes 0 = .ok (.aload_n 0, 1) := dget daX11_minutes_0 0 (q := (0, .aload_n 0, 1)) rfl
theorem dX11_minutes_1 : decode cX11_minutes 1 = .ok (.getfield 19, 3) := dget daX11_minutes_0 1 (q := (1, .getfield 19, 3)) rfl
theorem dX11_minutes_4 : decode cX11_minutes 4 = .ok (.iload_n 1, 1) := dget daX11_minutes_0 2 (q := (4, .iload_n 1, 1)) rfl
theorem dX11_minutes_5 : decode cX11_minutes 5 = .ok (.invokevirtual 123, 3) := dget daX11_minutes_0 3 (q := (5, .invokevirtual 123, 3)) rfl
theorem dX11_minutes_8 : decode cX11_minutes 8 = .ok (.astore_n 3, 1) := dget daX11_minutes_0 4 (q := (8, .astore_n 3, 1)) rfl
theorem dX11_minutes_9 : decode cX11_minutes 9 = .ok (.aload_n 3, 1) := dget daX11_minutes_0 5 (q := (9, .aload_n 3, 1)) rfl
theorem dX11_minutes_10 : decode cX11_minutes 10 = .ok (.ifnull 12, 3) := dget daX11_minutes_0 6 (q := (10, .ifnull 12, 3)) rfl
theorem dX11_minutes_13 : decode cX11_minutes 13 = .ok (.bipush 6, 2) := dget daX11_minutes_0 7 (q := (13, .bipush 6, 2)) rfl
theorem dX11_minutes_15 : decode cX11_minutes 15 = .ok (.iload_n 2, 1) := dget daX11_minutes_0 8 (q := (15, .iload_n 2, 1)) rfl
theorem dX11_minutes_16 : decode cX11_minutes 16 = .ok (.invokestatic 85, 3) := dget daX11_minutes_0 9 (q := (16, .invokestatic 85, 3)) rfl
theorem dX11_minutes_19 : decode cX11_minutes 19 = .ok (.ifCond .ne 9, 3) := dget daX11_minutes_0 10 (q := (19, .ifCond .ne 9, 3)) rfl
theorem dX11_minutes_22 : decode cX11_minutes 22 = .ok (.aload_n 0, 1) := dget daX11_minutes_0 11 (q := (22, .aload_n 0, 1)) rfl
theorem dX11_minutes_23 : decode cX11_minutes 23 = .ok (.iconst (-1), 1) := dget daX11_minutes_0 12 (q := (23, .iconst (-1), 1)) rfl
theorem dX11_minutes_24 : decode cX11_minutes 24 = .ok (.invokevirtual 77, 3) := dget daX11_minutes_0 13 (q := (24, .invokevirtual 77, 3)) rfl
theorem dX11_minutes_27 : decode cX11_minutes 27 = .ok (.ireturn, 1) := dget daX11_minutes_0 14 (q := (27, .ireturn, 1)) rfl
theorem dX11_minutes_28 : decode cX11_minutes 28 = .ok (.aload_n 3, 1) := dget daX11_minutes_0 15 (q := (28, .aload_n 3, 1)) rfl
theorem dX11_minutes_29 : decode cX11_minutes 29 = .ok (.getfield 126, 3) := dget daX11_minutes_0 16 (q := (29, .getfield 126, 3)) rfl
theorem dX11_minutes_32 : decode cX11_minutes 32 = .ok (.ifCond .ne 10, 3) := dget daX11_minutes_0 17 (q := (32, .ifCond .ne 10, 3)) rfl
theorem dX11_minutes_35 : decode cX11_minutes 35 = .ok (.aload_n 0, 1) := dget daX11_minutes_0 18 (q := (35, .aload_n 0, 1)) rfl
theorem dX11_minutes_36 : decode cX11_minutes 36 = .ok (.bipush (-5), 2) := dget daX11_minutes_0 19 (q := (36, .bipush (-5), 2)) rfl
theorem dX11_minutes_38 : decode cX11_minutes 38 = .ok (.invokevirtual 77, 3) := dget daX11_minutes_0 20 (q := (38, .invokevirtual 77, 3)) rfl
theorem dX11_minutes_41 : decode cX11_minutes 41 = .ok (.ireturn, 1) := dget daX11_minutes_0 21 (q := (41, .ireturn, 1)) rfl
theorem dX11_minutes_42 : decode cX11_minutes 42 = .ok (.aload_n 0, 1) := dget daX11_minutes_0 22 (q := (42, .aload_n 0, 1)) rfl
theorem dX11_minutes_43 : decode cX11_minutes 43 = .ok (.getfield 19, 3) := dget daX11_minutes_0 23 (q := (43, .getfield 19, 3)) rfl
theorem dX11_minutes_46 : decode cX11_minutes 46 = .ok (.aload_n 3, 1) := dget daX11_minutes_0 24 (q := (46, .aload_n 3, 1)) rfl
theorem dX11_minutes_47 : decode cX11_minutes 47 = .ok (.aload_n 0, 1) := dget daX11_minutes_0 25 (q := (47, .aload_n 0, 1)) rfl
theorem dX11_minutes_48 : decode cX11_minutes 48 = .ok (.getfield 67, 3) := dget daX11_minutes_0 26 (q := (48, .getfield 67, 3)) rfl
theorem dX11_minutes_51 : decode cX11_minutes 51 = .ok (.iconst 0, 1) := dget daX11_minutes_0 27 (q := (51, .iconst 0, 1)) rfl
theorem dX11_minutes_52 : decode cX11_minutes 52 = .ok (.iaload, 1) := dget daX11_minutes_0 28 (q := (52, .iaload, 1)) rfl
theorem dX11_minutes_53 : decode cX11_minutes 53 = .ok (.aload_n 0, 1) := dget daX11_minutes_0 29 (q := (53, .aload_n 0, 1)) rfl
theorem dX11_minutes_54 : decode cX11_minutes 54 = .ok (.getfield 67, 3) := dget daX11_minutes_0 30 (q := (54, .getfield 67, 3)) rfl
theorem dX11_minutes_57 : decode cX11_minutes 57 = .ok (.iconst 1, 1) := dget daX11_minutes_0 31 (q := (57, .iconst 1, 1)) rfl
theorem dX11_minutes_58 : decode cX11_minutes 58 = .ok (.iaload, 1) := dget daX11_minutes_0 32 (q := (58, .iaload, 1)) rfl
theorem dX11_minutes_59 : decode cX11_minutes 59 = .ok (.invokevirtual 170, 3) := dget daX11_minutes_0 33 (q := (59, .invokevirtual 170, 3)) rfl
theorem dX11_minutes_62 : decode cX11_minutes 62 = .ok (.aload_n 0, 1) := dget daX11_minutes_0 34 (q := (62, .aload_n 0, 1)) rfl
theorem dX11_minutes_63 : decode cX11_minutes 63 = .ok (.getfield 19, 3) := dget daX11_minutes_0 35 (q := (63, .getfield 19, 3)) rfl
theorem dX11_minutes_66 : decode cX11_minutes 66 = .ok (.getfield 174, 3) := dget daX11_minutes_0 36 (q := (66, .getfield 174, 3)) rfl
theorem dX11_minutes_69 : decode cX11_minutes 69 = .ok (.iload_n 2, 1) := dget daX11_minutes_0 37 (q := (69, .iload_n 2, 1)) rfl
theorem dX11_minutes_70 : decode cX11_minutes 70 = .ok (.iaload, 1) := dget daX11_minutes_0 38 (q := (70, .iaload, 1)) rfl
theorem dX11_minutes_71 : decode cX11_minutes 71 = .ok (.ireturn, 1) := dget daX11_minutes_0 39 (q := (71, .ireturn, 1)) rfl
def tdaX11_saved_0 : List (Nat × (Instr × Nat)) := [(0, .aload_n 0, 1), (1, .getfield 19, 3), (4, .iload_n 1, 1), (5, .invokevirtual 123, 3), (8, .astore_n 3, 1), (9, .aload_n 3, 1), (10, .ifnonnull 9, 3), (13, .aload_n 0, 1), (14, .iconst (-1), 1), (15, .invokevirtual 77, 3), (18, .ireturn, 1), (19, .aload_n 3, 1), (20, .getfield 126, 3), (23, .ifCond .ne 10, 3), (26, .aload_n 0, 1), (27, .bipush (-5), 2), (29, .invokevirtual 77, 3), (32, .ireturn, 1), (33, .iload_n 2, 1), (34, .ifCond .ge 10, 3), (37, .aload_n 0, 1), (38, .bipush (-4), 2), (40, .invokevirtual 77, 3), (43, .ireturn, 1), (44, .iload_n 2, 1), (45, .sipush 30000, 3), (48, .if_icmp .le 10, 3), (51, .aload_n 0, 1), (52, .bipush (-6), 2), (54, .invokevirtual 77, 3), (57, .ireturn, 1), (58, .iload_n 2, 1), (59, .aload_n 3, 1), (60, .getfield 177, 3), (63, .aload_n 0, 1), (64, .aload_n 3, 1), (65, .iconst 1, 1), (66, .invokevirtual 151, 3), (69, .iadd, 1), (70, .invokestatic 180, 3)]
theorem daX11_saved_0 : tdaX11_saved_0.all (fun q => decide (decode cX11_saved q.1 = .ok q.2)) = true := by decide +kernel
theorem dX11_saved_0 : decode cX11_saved 0 = .ok (.aload_n 0, 1) := dget daX11_saved_0 0 (q := (0, .aload_n 0, 1)) rfl
theorem dX11_saved_1 : decode cX11_saved 1 = .ok (.getfield 19, 3) := dget daX11_saved_0 1 (q := (1, .getfield 19, 3)) rfl
theorem dX11_saved_4 : decode cX11_saved 4 = .ok (.iload_n 1, 1) := dget daX11_saved_0 2 (q := (4, .iload_n 1, 1)) rfl
theorem dX11_saved_5 : decode cX11_saved 5 = .ok (.invokevirtual 123, 3) := dget daX11_saved_0 3 (q := (5, .invokevirtual 123, 3)) rfl
theorem dX11_saved_8 : decode cX11_saved 8 = .ok (.astore_n 3, 1) := dget daX11_saved_0 4 (q := (8, .astore_n 3, 1)) rfl
theorem dX11_saved_9 : decode cX11_saved 9 = .ok (.aload_n 3, 1) := dget daX11_saved_0 5 (q := (9, .aload_n 3, 1)) rfl
theorem dX11_saved_10 : decode cX11_saved 10 = .ok (.ifnonnull 9, 3) := dget daX11_saved_0 6 (q := (10, .ifnonnull 9, 3)) rfl
theorem dX11_saved_13 : decode cX11_saved 13 = .ok (.aload_n 0, 1) := dget daX11_saved_0 7 (q := (13, .aload_n 0, 1)) rfl
theorem dX11_saved_14 : decode cX11_saved 14 = .ok (.iconst (-1), 1) := dget daX11_saved_0 8 (q := (14, .iconst (-1), 1)) rfl
theorem dX11_saved_15 : decode cX11_saved 15 = .ok (.invokevirtual 77, 3) := dget daX11_saved_0 9 (q := (15, .invokevirtual 77, 3)) rfl
theorem dX11_saved_18 : decode cX11_saved 18 = .ok (.ireturn, 1) := dget daX11_saved_0 10 (q := (18, .ireturn, 1)) rfl
theorem dX11_saved_19 : decode cX11_saved 19 = .ok (.aload_n 3, 1) := dget daX11_saved_0 11 (q := (19, .aload_n 3, 1)) rfl
theorem dX11_saved_20 : decode cX11_saved 20 = .ok (.getfield 126, 3) := dget daX11_saved_0 12 (q := (20, .getfield 126, 3)) rfl
theorem dX11_saved_23 : decode cX11_saved 23 = .ok (.ifCond .ne 10, 3) := dget daX11_saved_0 13 (q := (23, .ifCond .ne 10, 3)) rfl
theorem dX11_saved_26 : decode cX11_saved 26 = .ok (.aload_n 0, 1) := dget daX11_saved_0 14 (q := (26, .aload_n 0, 1)) rfl
theorem dX11_saved_27 : decode cX11_saved 27 = .ok (.bipush (-5), 2) := dget daX11_saved_0 15 (q := (27, .bipush (-5), 2)) rfl
theorem dX11_saved_29 : decode cX11_saved 29 = .ok (.invokevirtual 77, 3) := dget daX11_saved_0 16 (q := (29, .invokevirtual 77, 3)) rfl
theorem dX11_saved_32 : decode cX11_saved 32 = .ok (.ireturn, 1) := dget daX11_saved_0 17 (q := (32, .ireturn, 1)) rfl
theorem dX11_saved_33 : decode cX11_saved 33 = .ok (.iload_n 2, 1) := dget daX11_saved_0 18 (q := (33, .iload_n 2, 1)) rfl
theorem dX11_saved_34 : decode cX11_saved 34 = .ok (.ifCond .ge 10, 3) := dget daX11_saved_0 19 (q := (34, .ifCond .ge 10, 3)) rfl
theorem dX11_saved_37 : decode cX11_saved 37 = .ok (.aload_n 0, 1) := dget daX11_saved_0 20 (q := (37, .aload_n 0, 1)) rfl
theorem dX11_saved_38 : decode cX11_saved 38 = .ok (.bipush (-4), 2) := dget daX11_saved_0 21 (q := (38, .bipush (-4), 2)) rfl
theorem dX11_saved_40 : decode cX11_saved 40 = .ok (.invokevirtual 77, 3) := dget daX11_saved_0 22 (q := (40, .invokevirtual 77, 3)) rfl
theorem dX11_saved_43 : decode cX11_saved 43 = .ok (.ireturn, 1) := dget daX11_saved_0 23 (q := (43, .ireturn, 1)) rfl
theorem dX11_saved_44 : decode cX11_saved 44 = .ok (.iload_n 2, 1) := dget daX11_saved_0 24 (q := (44, .iload_n 2, 1)) rfl
theorem dX11_saved_45 : decode cX11_saved 45 = .ok (.sipush 30000, 3) := dget daX11_saved_0 25 (q := (45, .sipush 30000, 3)) rfl
theorem dX11_saved_48 : decode cX11_saved 48 = .ok (.if_icmp .le 10, 3) := dget daX11_saved_0 26 (q := (48, .if_icmp .le 10, 3)) rfl
theorem dX11_saved_51 : decode cX11_saved 51 = .ok (.aload_n 0, 1) := dget daX11_saved_0 27 (q := (51, .aload_n 0, 1)) rfl
theorem dX11_saved_52 : decode cX11_saved 52 = .ok (.bipush (-6), 2) := dget daX11_saved_0 28 (q := (52, .bipush (-6), 2)) rfl
theorem dX11_saved_54 : decode cX11_saved 54 = .ok (.invokevirtual 77, 3) := dget daX11_saved_0 29 (q := (54, .invokevirtual 77, 3)) rfl
theorem dX11_saved_57 : decode cX11_saved 57 = .ok (.ireturn, 1) := dget daX11_saved_0 30 (q := (57, .ireturn, 1)) rfl
theorem dX11_saved_58 : decode cX11_saved 58 = .ok (.iload_n 2, 1) := dget daX11_saved_0 31 (q := (58, .iload_n 2, 1)) rfl
theorem dX11_saved_59 : decode cX11_saved 59 = .ok (.aload_n 3, 1) := dget daX11_saved_0 32 (q := (59, .aload_n 3, 1)) rfl
theorem dX11_saved_60 : decode cX11_saved 60 = .ok (.getfield 177, 3) := dget daX11_saved_0 33 (q := (60, .getfield 177, 3)) rfl
theorem dX11_saved_63 : decode cX11_saved 63 = .ok (.aload_n 0, 1) := dget daX11_saved_0 34 (q := (63, .aload_n 0, 1)) rfl
theorem dX11_saved_64 : decode cX11_saved 64 = .ok (.aload_n 3, 1) := dget daX11_saved_0 35 (q := (64, .aload_n 3, 1)) rfl
theorem dX11_saved_65 : decode cX11_saved 65 = .ok (.iconst 1, 1) := dget daX11_saved_0 36 (q := (65, .iconst 1, 1)) rfl
theorem dX11_saved_66 : decode cX11_saved 66 = .ok (.invokevirtual 151, 3) := dget daX11_saved_0 37 (q := (66, .invokevirtual 151, 3)) rfl
theorem dX11_saved_69 : decode cX11_saved 69 = .ok (.iadd, 1) := dget daX11_saved_0 38 (q := (69, .iadd, 1)) rfl
theorem dX11_saved_70 : decode cX11_saved 70 = .ok (.invokestatic 180, 3) := dget daX11_saved_0 39 (q := (70, .invokestatic 180, 3)) rfl
def tdaX11_saved_1 : List (Nat × (Instr × Nat)) := [(73, .istore 4, 2), (75, .iconst 0, 1), (76, .aload_n 3, 1), (77, .getfield 186, 3), (80, .iload 4, 2), (82, .isub, 1), (83, .invokestatic 180, 3), (86, .ireturn, 1)]
theorem daX11_saved_1 : tdaX11_saved_1.all (fun q => decide (decode cX11_saved q.1 = .ok q.2)) = true := by decide +kernel
theorem dX11_saved_73 : decode cX11_saved 73 = .ok (.istore 4, 2) := dget daX11_saved_1 0 (q := (73, .istore 4, 2)) rfl
theorem dX11_saved_75 : decode cX11_saved 75 = .ok (.iconst 0, 1) := dget daX11_saved_1 1 (q := (75, .iconst 0, 1)) rfl
theorem dX11_saved_76 : decode cX11_saved 76 = .ok (.aload_n 3, 1) := dget daX11_saved_1 2 (q := (76, .aload_n 3, 1)) rfl
theorem dX11_saved_77 : decode cX11_saved 77 = .ok (.getfield 186, 3) := dget daX11_saved_1 3 (q := (77, .getfield 186, 3)) rfl
theorem dX11_saved_80 : decode cX11_saved 80 = .ok (.iload 4, 2) := dget daX11_saved_1 4 (q := (80, .iload 4, 2)) rfl
theorem dX11_saved_82 : decode cX11_saved 82 = .ok (.isub, 1) := dget daX11_saved_1 5 (q := (82, .isub, 1)) rfl
theorem dX11_saved_83 : decode cX11_saved 83 = .ok (.invokestatic 180, 3) := dget daX11_saved_1 6 (q := (83, .invokestatic 180, 3)) rfl
theorem dX11_saved_86 : decode cX11_saved 86 = .ok (.ireturn, 1) := dget daX11_saved_1 7 (q := (86, .ireturn, 1)) rfl
def tdaX11_traveller_0 : List (Nat × (Instr × Nat)) := [(0, .aload_n 0, 1), (1, .getfield 19, 3), (4, .iload_n 1, 1), (5, .invokevirtual 123, 3), (8, .astore_n 2, 1), (9, .aload_n 2, 1), (10, .ifnonnull 9, 3), (13, .aload_n 0, 1), (14, .iconst (-1), 1), (15, .invokevirtual 77, 3), (18, .ireturn, 1), (19, .aload_n 0, 1), (20, .getfield 26, 3), (23, .invokevirtual 189, 3), (26, .ifCond .eq 10, 3), (29, .aload_n 0, 1), (30, .bipush (-6), 2), (32, .invokevirtual 77, 3), (35, .ireturn, 1), (36, .aload_n 0, 1), (37, .getfield 26, 3), (40, .aload_n 2, 1), (41, .invokevirtual 190, 3), (44, .ireturn, 1)]
theorem daX11_traveller_0 : tdaX11_traveller_0.all (fun q => decide (decode cX11_traveller q.1 = .ok q.2)) = true := by decide +kernel
theorem dX11_traveller_0 : decode cX11_traveller 0 = .ok (.aload_n 0, 1) := dget daX11_traveller_0 0 (q := (0, .aload_n 0, 1)) rfl
theorem dX11_traveller_1 : decode cX11_traveller 1 = .ok (.getfield 19, 3) := dget daX11_traveller_0 1 (q := (1, .getfield 19, 3)) rfl
theorem dX11_traveller_4 : decode cX11_traveller 4 = .ok (.iload_n 1, 1) := dget daX11_traveller_0 2 (q := (4, .iload_n 1, 1)) rfl
theorem dX11_traveller_5 : decode cX11_traveller 5 = .ok (.invokevirtual 123, 3) := dget daX11_traveller_0 3 (q := (5, .invokevirtual 123, 3)) rfl
theorem dX11_traveller_8 : decode cX11_traveller 8 = .ok (.astore_n 2, 1) := dget daX11_traveller_0 4 (q := (8, .astore_n 2, 1)) rfl
theorem dX11_traveller_9 : decode cX11_traveller 9 = .ok (.aload_n 2, 1) := dget daX11_traveller_0 5 (q := (9, .aload_n 2, 1)) rfl
theorem dX11_traveller_10 : decode cX11_traveller 10 = .ok (.ifnonnull 9, 3) := dget daX11_traveller_0 6 (q := (10, .ifnonnull 9, 3)) rfl
theorem dX11_traveller_13 : decode cX11_traveller 13 = .ok (.aload_n 0, 1) := dget daX11_traveller_0 7 (q := (13, .aload_n 0, 1)) rfl
theorem dX11_traveller_14 : decode cX11_traveller 14 = .ok (.iconst (-1), 1) := dget daX11_traveller_0 8 (q := (14, .iconst (-1), 1)) rfl
theorem dX11_traveller_15 : decode cX11_traveller 15 = .ok (.invokevirtual 77, 3) := dget daX11_traveller_0 9 (q := (15, .invokevirtual 77, 3)) rfl
theorem dX11_traveller_18 : decode cX11_traveller 18 = .ok (.ireturn, 1) := dget daX11_traveller_0 10 (q := (18, .ireturn, 1)) rfl
theorem dX11_traveller_19 : decode cX11_traveller 19 = .ok (.aload_n 0, 1) := dget daX11_traveller_0 11 (q := (19, .aload_n 0, 1)) rfl
theorem dX11_traveller_20 : decode cX11_traveller 20 = .ok (.getfield 26, 3) := dget daX11_traveller_0 12 (q := (20, .getfield 26, 3)) rfl
theorem dX11_traveller_23 : decode cX11_traveller 23 = .ok (.invokevirtual 189, 3) := dget daX11_traveller_0 13 (q := (23, .invokevirtual 189, 3)) rfl
theorem dX11_traveller_26 : decode cX11_traveller 26 = .ok (.ifCond .eq 10, 3) := dget daX11_traveller_0 14 (q := (26, .ifCond .eq 10, 3)) rfl
theorem dX11_traveller_29 : decode cX11_traveller 29 = .ok (.aload_n 0, 1) := dget daX11_traveller_0 15 (q := (29, .aload_n 0, 1)) rfl
theorem dX11_traveller_30 : decode cX11_traveller 30 = .ok (.bipush (-6), 2) := dget daX11_traveller_0 16 (q := (30, .bipush (-6), 2)) rfl
theorem dX11_traveller_32 : decode cX11_traveller 32 = .ok (.invokevirtual 77, 3) := dget daX11_traveller_0 17 (q := (32, .invokevirtual 77, 3)) rfl
theorem dX11_traveller_35 : decode cX11_traveller 35 = .ok (.ireturn, 1) := dget daX11_traveller_0 18 (q := (35, .ireturn, 1)) rfl
theorem dX11_traveller_36 : decode cX11_traveller 36 = .ok (.aload_n 0, 1) := dget daX11_traveller_0 19 (q := (36, .aload_n 0, 1)) rfl
theorem dX11_traveller_37 : decode cX11_traveller 37 = .ok (.getfield 26, 3) := dget daX11_traveller_0 20 (q := (37, .getfield 26, 3)) rfl
theorem dX11_traveller_40 : decode cX11_traveller 40 = .ok (.aload_n 2, 1) := dget daX11_traveller_0 21 (q := (40, .aload_n 2, 1)) rfl
theorem dX11_traveller_41 : decode cX11_traveller 41 = .ok (.invokevirtual 190, 3) := dget daX11_traveller_0 22 (q := (41, .invokevirtual 190, 3)) rfl
theorem dX11_traveller_44 : decode cX11_traveller 44 = .ok (.ireturn, 1) := dget daX11_traveller_0 23 (q := (44, .ireturn, 1)) rfl
def tdaX11_then_0 : List (Nat × (Instr × Nat)) := [(0, .aload_n 0, 1), (1, .getfield 26, 3), (4, .iload_n 1, 1), (5, .invokevirtual 192, 3), (8, .astore_n 3, 1), (9, .aload_n 0, 1), (10, .getfield 19, 3), (13, .iload_n 2, 1), (14, .invokevirtual 123, 3), (17, .astore 4, 2), (19, .aload_n 3, 1), (20, .ifnull 8, 3), (23, .aload 4, 2), (25, .ifnonnull 9, 3), (28, .aload_n 0, 1), (29, .iconst (-1), 1), (30, .invokevirtual 77, 3), (33, .ireturn, 1), (34, .aload_n 3, 1), (35, .aload 4, 2), (37, .aload_n 0, 1), (38, .getfield 67, 3), (41, .iconst 2, 1), (42, .iaload, 1), (43, .invokevirtual 195, 3), (46, .ifCond .ne 10, 3), (49, .aload_n 0, 1), (50, .bipush (-3), 2), (52, .invokevirtual 77, 3), (55, .ireturn, 1), (56, .aload_n 3, 1), (57, .invokevirtual 201, 3), (60, .ifCond .eq 10, 3), (63, .aload_n 0, 1), (64, .bipush (-6), 2), (66, .invokevirtual 77, 3), (69, .ireturn, 1), (70, .aload_n 3, 1), (71, .aload 4, 2), (73, .invokevirtual 202, 3)]
theorem daX11_then_0 : tdaX11_then_0.all (fun q => decide (decode cX11_then q.1 = .ok q.2)) = true := by decide +kernel
theorem dX11_then_0 : decode cX11_then 0 = .ok (.aload_n 0, 1) := dget daX11_then_0 0 (q := (0, .aload_n 0, 1)) rfl
theorem dX11_then_1 : decode cX11_then 1 = .ok (.getfield 26, 3) := dget daX11_then_0 1 (q := (1, .getfield 26, 3)) rfl
theorem dX11_then_4 : decode cX11_then 4 = .ok (.iload_n 1, 1) := dget daX11_then_0 2 (q := (4, .iload_n 1, 1)) rfl
theorem dX11_then_5 : decode cX11_then 5 = .ok (.invokevirtual 192, 3) := dget daX11_then_0 3 (q := (5, .invokevirtual 192, 3)) rfl
theorem dX11_then_8 : decode cX11_then 8 = .ok (.astore_n 3, 1) := dget daX11_then_0 4 (q := (8, .astore_n 3, 1)) rfl
theorem dX11_then_9 : decode cX11_then 9 = .ok (.aload_n 0, 1) := dget daX11_then_0 5 (q := (9, .aload_n 0, 1)) rfl
theorem dX11_then_10 : decode cX11_then 10 = .ok (.getfield 19, 3) := dget daX11_then_0 6 (q := (10, .getfield 19, 3)) rfl
theorem dX11_then_13 : decode cX11_then 13 = .ok (.iload_n 2, 1) := dget daX11_then_0 7 (q := (13, .iload_n 2, 1)) rfl
theorem dX11_then_14 : decode cX11_then 14 = .ok (.invokevirtual 123, 3) := dget daX11_then_0 8 (q := (14, .invokevirtual 123, 3)) rfl
theorem dX11_then_17 : decode cX11_then 17 = .ok (.astore 4, 2) := dget daX11_then_0 9 (q := (17, .astore 4, 2)) rfl
theorem dX11_then_19 : decode cX11_then 19 = .ok (.aload_n 3, 1) := dget daX11_then_0 10 (q := (19, .aload_n 3, 1)) rfl
theorem dX11_then_20 : decode cX11_then 20 = .ok (.ifnull 8, 3) := dget daX11_then_0 11 (q := (20, .ifnull 8, 3)) rfl
theorem dX11_then_23 : decode cX11_then 23 = .ok (.aload 4, 2) := dget daX11_then_0 12 (q := (23, .aload 4, 2)) rfl
theorem dX11_then_25 : decode cX11_then 25 = .ok (.ifnonnull 9, 3) := dget daX11_then_0 13 (q := (25, .ifnonnull 9, 3)) rfl
theorem dX11_then_28 : decode cX11_then 28 = .ok (.aload_n 0, 1) := dget daX11_then_0 14 (q := (28, .aload_n 0, 1)) rfl
theorem dX11_then_29 : decode cX11_then 29 = .ok (.iconst (-1), 1) := dget daX11_then_0 15 (q := (29, .iconst (-1), 1)) rfl
theorem dX11_then_30 : decode cX11_then 30 = .ok (.invokevirtual 77, 3) := dget daX11_then_0 16 (q := (30, .invokevirtual 77, 3)) rfl
theorem dX11_then_33 : decode cX11_then 33 = .ok (.ireturn, 1) := dget daX11_then_0 17 (q := (33, .ireturn, 1)) rfl
theorem dX11_then_34 : decode cX11_then 34 = .ok (.aload_n 3, 1) := dget daX11_then_0 18 (q := (34, .aload_n 3, 1)) rfl
theorem dX11_then_35 : decode cX11_then 35 = .ok (.aload 4, 2) := dget daX11_then_0 19 (q := (35, .aload 4, 2)) rfl
theorem dX11_then_37 : decode cX11_then 37 = .ok (.aload_n 0, 1) := dget daX11_then_0 20 (q := (37, .aload_n 0, 1)) rfl
theorem dX11_then_38 : decode cX11_then 38 = .ok (.getfield 67, 3) := dget daX11_then_0 21 (q := (38, .getfield 67, 3)) rfl
theorem dX11_then_41 : decode cX11_then 41 = .ok (.iconst 2, 1) := dget daX11_then_0 22 (q := (41, .iconst 2, 1)) rfl
theorem dX11_then_42 : decode cX11_then 42 = .ok (.iaload, 1) := dget daX11_then_0 23 (q := (42, .iaload, 1)) rfl
theorem dX11_then_43 : decode cX11_then 43 = .ok (.invokevirtual 195, 3) := dget daX11_then_0 24 (q := (43, .invokevirtual 195, 3)) rfl
theorem dX11_then_46 : decode cX11_then 46 = .ok (.ifCond .ne 10, 3) := dget daX11_then_0 25 (q := (46, .ifCond .ne 10, 3)) rfl
theorem dX11_then_49 : decode cX11_then 49 = .ok (.aload_n 0, 1) := dget daX11_then_0 26 (q := (49, .aload_n 0, 1)) rfl
theorem dX11_then_50 : decode cX11_then 50 = .ok (.bipush (-3), 2) := dget daX11_then_0 27 (q := (50, .bipush (-3), 2)) rfl
theorem dX11_then_52 : decode cX11_then 52 = .ok (.invokevirtual 77, 3) := dget daX11_then_0 28 (q := (52, .invokevirtual 77, 3)) rfl
theorem dX11_then_55 : decode cX11_then 55 = .ok (.ireturn, 1) := dget daX11_then_0 29 (q := (55, .ireturn, 1)) rfl
theorem dX11_then_56 : decode cX11_then 56 = .ok (.aload_n 3, 1) := dget daX11_then_0 30 (q := (56, .aload_n 3, 1)) rfl
theorem dX11_then_57 : decode cX11_then 57 = .ok (.invokevirtual 201, 3) := dget daX11_then_0 31 (q := (57, .invokevirtual 201, 3)) rfl
theorem dX11_then_60 : decode cX11_then 60 = .ok (.ifCond .eq 10, 3) := dget daX11_then_0 32 (q := (60, .ifCond .eq 10, 3)) rfl
theorem dX11_then_63 : decode cX11_then 63 = .ok (.aload_n 0, 1) := dget daX11_then_0 33 (q := (63, .aload_n 0, 1)) rfl
theorem dX11_then_64 : decode cX11_then 64 = .ok (.bipush (-6), 2) := dget daX11_then_0 34 (q := (64, .bipush (-6), 2)) rfl
theorem dX11_then_66 : decode cX11_then 66 = .ok (.invokevirtual 77, 3) := dget daX11_then_0 35 (q := (66, .invokevirtual 77, 3)) rfl
theorem dX11_then_69 : decode cX11_then 69 = .ok (.ireturn, 1) := dget daX11_then_0 36 (q := (69, .ireturn, 1)) rfl
theorem dX11_then_70 : decode cX11_then 70 = .ok (.aload_n 3, 1) := dget daX11_then_0 37 (q := (70, .aload_n 3, 1)) rfl
theorem dX11_then_71 : decode cX11_then 71 = .ok (.aload 4, 2) := dget daX11_then_0 38 (q := (71, .aload 4, 2)) rfl
theorem dX11_then_73 : decode cX11_then 73 = .ok (.invokevirtual 202, 3) := dget daX11_then_0 39 (q := (73, .invokevirtual 202, 3)) rfl
def tdaX11_then_1 : List (Nat × (Instr × Nat)) := [(76, .aload_n 3, 1), (77, .getfield 205, 3), (80, .ireturn, 1)]
theorem daX11_then_1 : tdaX11_then_1.all (fun q => decide (decode cX11_then q.1 = .ok q.2)) = true := by decide +kernel
theorem dX11_then_76 : decode cX11_then 76 = .ok (.aload_n 3, 1) := dget daX11_then_1 0 (q := (76, .aload_n 3, 1)) rfl
theorem dX11_then_77 : decode cX11_then 77 = .ok (.getfield 205, 3) := dget daX11_then_1 1 (q := (77, .getfield 205, 3)) rfl
theorem dX11_then_80 : decode cX11_then 80 = .ok (.ireturn, 1) := dget daX11_then_1 2 (q := (80, .ireturn, 1)) rfl
def tdaX11_missed_0 : List (Nat × (Instr × Nat)) := [(0, .aload_n 0, 1), (1, .getfield 26, 3), (4, .iload_n 1, 1), (5, .invokevirtual 192, 3), (8, .astore_n 2, 1), (9, .aload_n 2, 1), (10, .ifnonnull 9, 3), (13, .aload_n 0, 1), (14, .iconst (-1), 1), (15, .invokevirtual 77, 3), (18, .ireturn, 1), (19, .aload_n 2, 1), (20, .aload_n 0, 1), (21, .getfield 67, 3), (24, .iconst 2, 1), (25, .iaload, 1), (26, .invokevirtual 208, 3), (29, .ireturn, 1)]
theorem daX11_missed_0 : tdaX11_missed_0.all (fun q => decide (decode cX11_missed q.1 = .ok q.2)) = true := by decide +kernel
theorem dX11_missed_0 : decode cX11_missed 0 = .ok (.aload_n 0, 1) := dget daX11_missed_0 0 (q := (0, .aload_n 0, 1)) rfl
theorem dX11_missed_1 : decode cX11_missed 1 = .ok (.getfield 26, 3) := dget daX11_missed_0 1 (q := (1, .getfield 26, 3)) rfl
theorem dX11_missed_4 : decode cX11_missed 4 = .ok (.iload_n 1, 1) := dget daX11_missed_0 2 (q := (4, .iload_n 1, 1)) rfl
theorem dX11_missed_5 : decode cX11_missed 5 = .ok (.invokevirtual 192, 3) := dget daX11_missed_0 3 (q := (5, .invokevirtual 192, 3)) rfl
theorem dX11_missed_8 : decode cX11_missed 8 = .ok (.astore_n 2, 1) := dget daX11_missed_0 4 (q := (8, .astore_n 2, 1)) rfl
theorem dX11_missed_9 : decode cX11_missed 9 = .ok (.aload_n 2, 1) := dget daX11_missed_0 5 (q := (9, .aload_n 2, 1)) rfl
theorem dX11_missed_10 : decode cX11_missed 10 = .ok (.ifnonnull 9, 3) := dget daX11_missed_0 6 (q := (10, .ifnonnull 9, 3)) rfl
theorem dX11_missed_13 : decode cX11_missed 13 = .ok (.aload_n 0, 1) := dget daX11_missed_0 7 (q := (13, .aload_n 0, 1)) rfl
theorem dX11_missed_14 : decode cX11_missed 14 = .ok (.iconst (-1), 1) := dget daX11_missed_0 8 (q := (14, .iconst (-1), 1)) rfl
theorem dX11_missed_15 : decode cX11_missed 15 = .ok (.invokevirtual 77, 3) := dget daX11_missed_0 9 (q := (15, .invokevirtual 77, 3)) rfl
theorem dX11_missed_18 : decode cX11_missed 18 = .ok (.ireturn, 1) := dget daX11_missed_0 10 (q := (18, .ireturn, 1)) rfl
theorem dX11_missed_19 : decode cX11_missed 19 = .ok (.aload_n 2, 1) := dget daX11_missed_0 11 (q := (19, .aload_n 2, 1)) rfl
theorem dX11_missed_20 : decode cX11_missed 20 = .ok (.aload_n 0, 1) := dget daX11_missed_0 12 (q := (20, .aload_n 0, 1)) rfl
theorem dX11_missed_21 : decode cX11_missed 21 = .ok (.getfield 67, 3) := dget daX11_missed_0 13 (q := (21, .getfield 67, 3)) rfl
theorem dX11_missed_24 : decode cX11_missed 24 = .ok (.iconst 2, 1) := dget daX11_missed_0 14 (q := (24, .iconst 2, 1)) rfl
theorem dX11_missed_25 : decode cX11_missed 25 = .ok (.iaload, 1) := dget daX11_missed_0 15 (q := (25, .iaload, 1)) rfl
theorem dX11_missed_26 : decode cX11_missed 26 = .ok (.invokevirtual 208, 3) := dget daX11_missed_0 16 (q := (26, .invokevirtual 208, 3)) rfl
theorem dX11_missed_29 : decode cX11_missed 29 = .ok (.ireturn, 1) := dget daX11_missed_0 17 (q := (29, .ireturn, 1)) rfl
def tdaX11_soonest_0 : List (Nat × (Instr × Nat)) := [(0, .aload_n 0, 1), (1, .getfield 26, 3), (4, .iload_n 1, 1), (5, .invokevirtual 192, 3), (8, .astore_n 2, 1), (9, .aload_n 2, 1), (10, .ifnonnull 9, 3), (13, .aload_n 0, 1), (14, .iconst (-1), 1), (15, .invokevirtual 77, 3), (18, .ireturn, 1), (19, .aload_n 0, 1), (20, .aload_n 2, 1), (21, .invokevirtual 211, 3), (24, .ireturn, 1)]
theorem daX11_soonest_0 : tdaX11_soonest_0.all (fun q => decide (decode cX11_soonest q.1 = .ok q.2)) = true := by decide +kernel
theorem dX11_soonest_0 : decode cX11_soonest 0 = .ok (.aload_n 0, 1) := dget daX11_soonest_0 0 (q := (0, .aload_n 0, 1)) rfl
theorem dX11_soonest_1 : decode cX11_soonest 1 = .ok (.getfield 26, 3) := dget daX11_soonest_0 1 (q := (1, .getfield 26, 3)) rfl
theorem dX11_soonest_4 : decode cX11_soonest 4 = .ok (.iload_n 1, 1) := dget daX11_soonest_0 2 (q := (4, .iload_n 1, 1)) rfl
theorem dX11_soonest_5 : decode cX11_soonest 5 = .ok (.invokevirtual 192, 3) := dget daX11_soonest_0 3 (q := (5, .invokevirtual 192, 3)) rfl
theorem dX11_soonest_8 : decode cX11_soonest 8 = .ok (.astore_n 2, 1) := dget daX11_soonest_0 4 (q := (8, .astore_n 2, 1)) rfl
theorem dX11_soonest_9 : decode cX11_soonest 9 = .ok (.aload_n 2, 1) := dget daX11_soonest_0 5 (q := (9, .aload_n 2, 1)) rfl
theorem dX11_soonest_10 : decode cX11_soonest 10 = .ok (.ifnonnull 9, 3) := dget daX11_soonest_0 6 (q := (10, .ifnonnull 9, 3)) rfl
theorem dX11_soonest_13 : decode cX11_soonest 13 = .ok (.aload_n 0, 1) := dget daX11_soonest_0 7 (q := (13, .aload_n 0, 1)) rfl
theorem dX11_soonest_14 : decode cX11_soonest 14 = .ok (.iconst (-1), 1) := dget daX11_soonest_0 8 (q := (14, .iconst (-1), 1)) rfl
theorem dX11_soonest_15 : decode cX11_soonest 15 = .ok (.invokevirtual 77, 3) := dget daX11_soonest_0 9 (q := (15, .invokevirtual 77, 3)) rfl
theorem dX11_soonest_18 : decode cX11_soonest 18 = .ok (.ireturn, 1) := dget daX11_soonest_0 10 (q := (18, .ireturn, 1)) rfl
theorem dX11_soonest_19 : decode cX11_soonest 19 = .ok (.aload_n 0, 1) := dget daX11_soonest_0 11 (q := (19, .aload_n 0, 1)) rfl
theorem dX11_soonest_20 : decode cX11_soonest 20 = .ok (.aload_n 2, 1) := dget daX11_soonest_0 12 (q := (20, .aload_n 2, 1)) rfl
theorem dX11_soonest_21 : decode cX11_soonest 21 = .ok (.invokevirtual 211, 3) := dget daX11_soonest_0 13 (q := (21, .invokevirtual 211, 3)) rfl
theorem dX11_soonest_24 : decode cX11_soonest 24 = .ok (.ireturn, 1) := dget daX11_soonest_0 14 (q := (24, .ireturn, 1)) rfl
def tdaX11_hours_0 : List (Nat × (Instr × Nat)) := [(0, .aload_n 0, 1), (1, .getfield 26, 3), (4, .iload_n 1, 1), (5, .invokevirtual 192, 3), (8, .astore_n 2, 1), (9, .aload_n 2, 1), (10, .ifnonnull 9, 3), (13, .aload_n 0, 1), (14, .iconst (-1), 1), (15, .invokevirtual 77, 3), (18, .ireturn, 1), (19, .aload_n 0, 1), (20, .aload_n 2, 1), (21, .invokevirtual 215, 3), (24, .ireturn, 1)]
theorem daX11_hours_0 : tdaX11_hours_0.all (fun q => decide (decode cX11_hours q.1 = .ok q.2)) = true := by decide +kernel
theorem dX11_hours_0 : decode cX11_hours 0 = .ok (.aload_n 0, 1) := dget daX11_hours_0 0 (q := (0, .aload_n 0, 1)) rfl
theorem dX11_hours_1 : decode cX11_hours 1 = .ok (.getfield 26, 3) := dget daX11_hours_0 1 (q := (1, .getfield 26, 3)) rfl
theorem dX11_hours_4 : decode cX11_hours 4 = .ok (.iload_n 1, 1) := dget daX11_hours_0 2 (q := (4, .iload_n 1, 1)) rfl
theorem dX11_hours_5 : decode cX11_hours 5 = .ok (.invokevirtual 192, 3) := dget daX11_hours_0 3 (q := (5, .invokevirtual 192, 3)) rfl
theorem dX11_hours_8 : decode cX11_hours 8 = .ok (.astore_n 2, 1) := dget daX11_hours_0 4 (q := (8, .astore_n 2, 1)) rfl
theorem dX11_hours_9 : decode cX11_hours 9 = .ok (.aload_n 2, 1) := dget daX11_hours_0 5 (q := (9, .aload_n 2, 1)) rfl
theorem dX11_hours_10 : decode cX11_hours 10 = .ok (.ifnonnull 9, 3) := dget daX11_hours_0 6 (q := (10, .ifnonnull 9, 3)) rfl
theorem dX11_hours_13 : decode cX11_hours 13 = .ok (.aload_n 0, 1) := dget daX11_hours_0 7 (q := (13, .aload_n 0, 1)) rfl
theorem dX11_hours_14 : decode cX11_hours 14 = .ok (.iconst (-1), 1) := dget daX11_hours_0 8 (q := (14, .iconst (-1), 1)) rfl
theorem dX11_hours_15 : decode cX11_hours 15 = .ok (.invokevirtual 77, 3) := dget daX11_hours_0 9 (q := (15, .invokevirtual 77, 3)) rfl
theorem dX11_hours_18 : decode cX11_hours 18 = .ok (.ireturn, 1) := dget daX11_hours_0 10 (q := (18, .ireturn, 1)) rfl
theorem dX11_hours_19 : decode cX11_hours 19 = .ok (.aload_n 0, 1) := dget daX11_hours_0 11 (q := (19, .aload_n 0, 1)) rfl
theorem dX11_hours_20 : decode cX11_hours 20 = .ok (.aload_n 2, 1) := dget daX11_hours_0 12 (q := (20, .aload_n 2, 1)) rfl
theorem dX11_hours_21 : decode cX11_hours 21 = .ok (.invokevirtual 215, 3) := dget daX11_hours_0 13 (q := (21, .invokevirtual 215, 3)) rfl
theorem dX11_hours_24 : decode cX11_hours 24 = .ok (.ireturn, 1) := dget daX11_hours_0 14 (q := (24, .ireturn, 1)) rfl
def tdaX11_blame_0 : List (Nat × (Instr × Nat)) := [(0, .aload_n 0, 1), (1, .getfield 26, 3), (4, .iload_n 1, 1), (5, .invokevirtual 192, 3), (8, .astore_n 2, 1), (9, .aload_n 2, 1), (10, .ifnonnull 9, 3), (13, .aload_n 0, 1), (14, .iconst (-1), 1), (15, .invokevirtual 77, 3), (18, .ireturn, 1), (19, .aload_n 0, 1), (20, .aload_n 2, 1), (21, .invokevirtual 218, 3), (24, .ireturn, 1)]
theorem daX11_blame_0 : tdaX11_blame_0.all (fun q => decide (decode cX11_blame q.1 = .ok q.2)) = true := by decide +kernel
theorem dX11_blame_0 : decode cX11_blame 0 = .ok (.aload_n 0, 1) := dget daX11_blame_0 0 (q := (0, .aload_n 0, 1)) rfl
theorem dX11_blame_1 : decode cX11_blame 1 = .ok (.getfield 26, 3) := dget daX11_blame_0 1 (q := (1, .getfield 26, 3)) rfl
theorem dX11_blame_4 : decode cX11_blame 4 = .ok (.iload_n 1, 1) := dget daX11_blame_0 2 (q := (4, .iload_n 1, 1)) rfl
theorem dX11_blame_5 : decode cX11_blame 5 = .ok (.invokevirtual 192, 3) := dget daX11_blame_0 3 (q := (5, .invokevirtual 192, 3)) rfl
theorem dX11_blame_8 : decode cX11_blame 8 = .ok (.astore_n 2, 1) := dget daX11_blame_0 4 (q := (8, .astore_n 2, 1)) rfl
theorem dX11_blame_9 : decode cX11_blame 9 = .ok (.aload_n 2, 1) := dget daX11_blame_0 5 (q := (9, .aload_n 2, 1)) rfl
theorem dX11_blame_10 : decode cX11_blame 10 = .ok (.ifnonnull 9, 3) := dget daX11_blame_0 6 (q := (10, .ifnonnull 9, 3)) rfl
theorem dX11_blame_13 : decode cX11_blame 13 = .ok (.aload_n 0, 1) := dget daX11_blame_0 7 (q := (13, .aload_n 0, 1)) rfl
theorem dX11_blame_14 : decode cX11_blame 14 = .ok (.iconst (-1), 1) := dget daX11_blame_0 8 (q := (14, .iconst (-1), 1)) rfl
theorem dX11_blame_15 : decode cX11_blame 15 = .ok (.invokevirtual 77, 3) := dget daX11_blame_0 9 (q := (15, .invokevirtual 77, 3)) rfl
theorem dX11_blame_18 : decode cX11_blame 18 = .ok (.ireturn, 1) := dget daX11_blame_0 10 (q := (18, .ireturn, 1)) rfl
theorem dX11_blame_19 : decode cX11_blame 19 = .ok (.aload_n 0, 1) := dget daX11_blame_0 11 (q := (19, .aload_n 0, 1)) rfl
theorem dX11_blame_20 : decode cX11_blame 20 = .ok (.aload_n 2, 1) := dget daX11_blame_0 12 (q := (20, .aload_n 2, 1)) rfl
theorem dX11_blame_21 : decode cX11_blame 21 = .ok (.invokevirtual 218, 3) := dget daX11_blame_0 13 (q := (21, .invokevirtual 218, 3)) rfl
theorem dX11_blame_24 : decode cX11_blame 24 = .ok (.ireturn, 1) := dget daX11_blame_0 14 (q := (24, .ireturn, 1)) rfl
def tdaX11_law_0 : List (Nat × (Instr × Nat)) := [(0, .iconst 4, 1), (1, .iload_n 1, 1), (2, .invokestatic 85, 3), (5, .ifCond .ne 9, 3), (8, .aload_n 0, 1), (9, .iconst (-1), 1), (10, .invokevirtual 77, 3), (13, .ireturn, 1), (14, .iload_n 2, 1), (15, .aload_n 0, 1), (16, .getfield 73, 3), (19, .if_icmp .lt 17, 3), (22, .iload_n 3, 1), (23, .ifCond .lt 13, 3), (26, .iload 4, 2), (28, .ifCond .lt 8, 3), (31, .iload 5, 2), (33, .ifCond .ge 10, 3), (36, .aload_n 0, 1), (37, .bipush (-4), 2), (39, .invokevirtual 77, 3), (42, .ireturn, 1), (43, .iload_n 2, 1), (44, .sipush 4000, 3), (47, .if_icmp .gt 26, 3), (50, .iload_n 3, 1), (51, .sipush 9999, 3), (54, .if_icmp .gt 19, 3), (57, .iload 4, 2), (59, .sipush 9999, 3), (62, .if_icmp .gt 11, 3), (65, .iload 5, 2), (67, .sipush 9999, 3), (70, .if_icmp .le 10, 3), (73, .aload_n 0, 1), (74, .bipush (-6), 2), (76, .invokevirtual 77, 3), (79, .ireturn, 1), (80, .aload_n 0, 1), (81, .getfield 33, 3)]
theorem daX11_law_0 : tdaX11_law_0.all (fun q => decide (decode cX11_law q.1 = .ok q.2)) = true := by decide +kernel
theorem dX11_law_0 : decode cX11_law 0 = .ok (.iconst 4, 1) := dget daX11_law_0 0 (q := (0, .iconst 4, 1)) rfl
theorem dX11_law_1 : decode cX11_law 1 = .ok (.iload_n 1, 1) := dget daX11_law_0 1 (q := (1, .iload_n 1, 1)) rfl
theorem dX11_law_2 : decode cX11_law 2 = .ok (.invokestatic 85, 3) := dget daX11_law_0 2 (q := (2, .invokestatic 85, 3)) rfl
theorem dX11_law_5 : decode cX11_law 5 = .ok (.ifCond .ne 9, 3) := dget daX11_law_0 3 (q := (5, .ifCond .ne 9, 3)) rfl
theorem dX11_law_8 : decode cX11_law 8 = .ok (.aload_n 0, 1) := dget daX11_law_0 4 (q := (8, .aload_n 0, 1)) rfl
theorem dX11_law_9 : decode cX11_law 9 = .ok (.iconst (-1), 1) := dget daX11_law_0 5 (q := (9, .iconst (-1), 1)) rfl
theorem dX11_law_10 : decode cX11_law 10 = .ok (.invokevirtual 77, 3) := dget daX11_law_0 6 (q := (10, .invokevirtual 77, 3)) rfl
theorem dX11_law_13 : decode cX11_law 13 = .ok (.ireturn, 1) := dget daX11_law_0 7 (q := (13, .ireturn, 1)) rfl
theorem dX11_law_14 : decode cX11_law 14 = .ok (.iload_n 2, 1) := dget daX11_law_0 8 (q := (14, .iload_n 2, 1)) rfl
theorem dX11_law_15 : decode cX11_law 15 = .ok (.aload_n 0, 1) := dget daX11_law_0 9 (q := (15, .aload_n 0, 1)) rfl
theorem dX11_law_16 : decode cX11_law 16 = .ok (.getfield 73, 3) := dget daX11_law_0 10 (q := (16, .getfield 73, 3)) rfl
theorem dX11_law_19 : decode cX11_law 19 = .ok (.if_icmp .lt 17, 3) := dget daX11_law_0 11 (q := (19, .if_icmp .lt 17, 3)) rfl
theorem dX11_law_22 : decode cX11_law 22 = .ok (.iload_n 3, 1) := dget daX11_law_0 12 (q := (22, .iload_n 3, 1)) rfl
theorem dX11_law_23 : decode cX11_law 23 = .ok (.ifCond .lt 13, 3) := dget daX11_law_0 13 (q := (23, .ifCond .lt 13, 3)) rfl
theorem dX11_law_26 : decode cX11_law 26 = .ok (.iload 4, 2) := dget daX11_law_0 14 (q := (26, .iload 4, 2)) rfl
theorem dX11_law_28 : decode cX11_law 28 = .ok (.ifCond .lt 8, 3) := dget daX11_law_0 15 (q := (28, .ifCond .lt 8, 3)) rfl
theorem dX11_law_31 : decode cX11_law 31 = .ok (.iload 5, 2) := dget daX11_law_0 16 (q := (31, .iload 5, 2)) rfl
theorem dX11_law_33 : decode cX11_law 33 = .ok (.ifCond .ge 10, 3) := dget daX11_law_0 17 (q := (33, .ifCond .ge 10, 3)) rfl
theorem dX11_law_36 : decode cX11_law 36 = .ok (.aload_n 0, 1) := dget daX11_law_0 18 (q := (36, .aload_n 0, 1)) rfl
theorem dX11_law_37 : decode cX11_law 37 = .ok (.bipush (-4), 2) := dget daX11_law_0 19 (q := (37, .bipush (-4), 2)) rfl
theorem dX11_law_39 : decode cX11_law 39 = .ok (.invokevirtual 77, 3) := dget daX11_law_0 20 (q := (39, .invokevirtual 77, 3)) rfl
theorem dX11_law_42 : decode cX11_law 42 = .ok (.ireturn, 1) := dget daX11_law_0 21 (q := (42, .ireturn, 1)) rfl
theorem dX11_law_43 : decode cX11_law 43 = .ok (.iload_n 2, 1) := dget daX11_law_0 22 (q := (43, .iload_n 2, 1)) rfl
theorem dX11_law_44 : decode cX11_law 44 = .ok (.sipush 4000, 3) := dget daX11_law_0 23 (q := (44, .sipush 4000, 3)) rfl
theorem dX11_law_47 : decode cX11_law 47 = .ok (.if_icmp .gt 26, 3) := dget daX11_law_0 24 (q := (47, .if_icmp .gt 26, 3)) rfl
theorem dX11_law_50 : decode cX11_law 50 = .ok (.iload_n 3, 1) := dget daX11_law_0 25 (q := (50, .iload_n 3, 1)) rfl
theorem dX11_law_51 : decode cX11_law 51 = .ok (.sipush 9999, 3) := dget daX11_law_0 26 (q := (51, .sipush 9999, 3)) rfl
theorem dX11_law_54 : decode cX11_law 54 = .ok (.if_icmp .gt 19, 3) := dget daX11_law_0 27 (q := (54, .if_icmp .gt 19, 3)) rfl
theorem dX11_law_57 : decode cX11_law 57 = .ok (.iload 4, 2) := dget daX11_law_0 28 (q := (57, .iload 4, 2)) rfl
theorem dX11_law_59 : decode cX11_law 59 = .ok (.sipush 9999, 3) := dget daX11_law_0 29 (q := (59, .sipush 9999, 3)) rfl
theorem dX11_law_62 : decode cX11_law 62 = .ok (.if_icmp .gt 11, 3) := dget daX11_law_0 30 (q := (62, .if_icmp .gt 11, 3)) rfl
theorem dX11_law_65 : decode cX11_law 65 = .ok (.iload 5, 2) := dget daX11_law_0 31 (q := (65, .iload 5, 2)) rfl
theorem dX11_law_67 : decode cX11_law 67 = .ok (.sipush 9999, 3) := dget daX11_law_0 32 (q := (67, .sipush 9999, 3)) rfl
theorem dX11_law_70 : decode cX11_law 70 = .ok (.if_icmp .le 10, 3) := dget daX11_law_0 33 (q := (70, .if_icmp .le 10, 3)) rfl
theorem dX11_law_73 : decode cX11_law 73 = .ok (.aload_n 0, 1) := dget daX11_law_0 34 (q := (73, .aload_n 0, 1)) rfl
theorem dX11_law_74 : decode cX11_law 74 = .ok (.bipush (-6), 2) := dget daX11_law_0 35 (q := (74, .bipush (-6), 2)) rfl
theorem dX11_law_76 : decode cX11_law 76 = .ok (.invokevirtual 77, 3) := dget daX11_law_0 36 (q := (76, .invokevirtual 77, 3)) rfl
theorem dX11_law_79 : decode cX11_law 79 = .ok (.ireturn, 1) := dget daX11_law_0 37 (q := (79, .ireturn, 1)) rfl
theorem dX11_law_80 : decode cX11_law 80 = .ok (.aload_n 0, 1) := dget daX11_law_0 38 (q := (80, .aload_n 0, 1)) rfl
theorem dX11_law_81 : decode cX11_law 81 = .ok (.getfield 33, 3) := dget daX11_law_0 39 (q := (81, .getfield 33, 3)) rfl
def tdaX11_law_1 : List (Nat × (Instr × Nat)) := [(84, .invokevirtual 221, 3), (87, .ifCond .eq 10, 3), (90, .aload_n 0, 1), (91, .bipush (-6), 2), (93, .invokevirtual 77, 3), (96, .ireturn, 1), (97, .aload_n 0, 1), (98, .getfield 33, 3), (101, .iload_n 1, 1), (102, .iload_n 2, 1), (103, .iload_n 3, 1), (104, .iload 4, 2), (106, .iload 5, 2), (108, .invokevirtual 222, 3), (111, .ireturn, 1)]
theorem daX11_law_1 : tdaX11_law_1.all (fun q => decide (decode cX11_law q.1 = .ok q.2)) = true := by decide +kernel
theorem dX11_law_84 : decode cX11_law 84 = .ok (.invokevirtual 221, 3) := dget daX11_law_1 0 (q := (84, .invokevirtual 221, 3)) rfl
theorem dX11_law_87 : decode cX11_law 87 = .ok (.ifCond .eq 10, 3) := dget daX11_law_1 1 (q := (87, .ifCond .eq 10, 3)) rfl
theorem dX11_law_90 : decode cX11_law 90 = .ok (.aload_n 0, 1) := dget daX11_law_1 2 (q := (90, .aload_n 0, 1)) rfl
theorem dX11_law_91 : decode cX11_law 91 = .ok (.bipush (-6), 2) := dget daX11_law_1 3 (q := (91, .bipush (-6), 2)) rfl
theorem dX11_law_93 : decode cX11_law 93 = .ok (.invokevirtual 77, 3) := dget daX11_law_1 4 (q := (93, .invokevirtual 77, 3)) rfl
theorem dX11_law_96 : decode cX11_law 96 = .ok (.ireturn, 1) := dget daX11_law_1 5 (q := (96, .ireturn, 1)) rfl
theorem dX11_law_97 : decode cX11_law 97 = .ok (.aload_n 0, 1) := dget daX11_law_1 6 (q := (97, .aload_n 0, 1)) rfl
theorem dX11_law_98 : decode cX11_law 98 = .ok (.getfield 33, 3) := dget daX11_law_1 7 (q := (98, .getfield 33, 3)) rfl
theorem dX11_law_101 : decode cX11_law 101 = .ok (.iload_n 1, 1) := dget daX11_law_1 8 (q := (101, .iload_n 1, 1)) rfl
theorem dX11_law_102 : decode cX11_law 102 = .ok (.iload_n 2, 1) := dget daX11_law_1 9 (q := (102, .iload_n 2, 1)) rfl
theorem dX11_law_103 : decode cX11_law 103 = .ok (.iload_n 3, 1) := dget daX11_law_1 10 (q := (103, .iload_n 3, 1)) rfl
theorem dX11_law_104 : decode cX11_law 104 = .ok (.iload 4, 2) := dget daX11_law_1 11 (q := (104, .iload 4, 2)) rfl
theorem dX11_law_106 : decode cX11_law 106 = .ok (.iload 5, 2) := dget daX11_law_1 12 (q := (106, .iload 5, 2)) rfl
theorem dX11_law_108 : decode cX11_law 108 = .ok (.invokevirtual 222, 3) := dget daX11_law_1 13 (q := (108, .invokevirtual 222, 3)) rfl
theorem dX11_law_111 : decode cX11_law 111 = .ok (.ireturn, 1) := dget daX11_law_1 14 (q := (111, .ireturn, 1)) rfl
def tdaX11_excuse_0 : List (Nat × (Instr × Nat)) := [(0, .iconst 4, 1), (1, .iload_n 1, 1), (2, .invokestatic 85, 3), (5, .ifCond .eq 12, 3), (8, .bipush 6, 2), (10, .iload_n 2, 1), (11, .invokestatic 85, 3), (14, .ifCond .ne 9, 3), (17, .aload_n 0, 1), (18, .iconst (-1), 1), (19, .invokevirtual 77, 3), (22, .ireturn, 1), (23, .iload_n 3, 1), (24, .ifCond .ge 10, 3), (27, .aload_n 0, 1), (28, .bipush (-4), 2), (30, .invokevirtual 77, 3), (33, .ireturn, 1), (34, .iload_n 3, 1), (35, .sipush 4000, 3), (38, .if_icmp .gt 13, 3), (41, .aload_n 0, 1), (42, .getfield 33, 3), (45, .invokevirtual 225, 3), (48, .ifCond .eq 10, 3), (51, .aload_n 0, 1), (52, .bipush (-6), 2), (54, .invokevirtual 77, 3), (57, .ireturn, 1), (58, .aload_n 0, 1), (59, .getfield 33, 3), (62, .iload_n 1, 1), (63, .iload_n 2, 1), (64, .iload_n 3, 1), (65, .aload_n 0, 1), (66, .getfield 73, 3), (69, .iload 4, 2), (71, .invokevirtual 228, 3), (74, .ireturn, 1)]
theorem daX11_excuse_0 : tdaX11_excuse_0.all (fun q => decide (decode cX11_excuse q.1 = .ok q.2)) = true := by decide +kernel
theorem dX11_excuse_0 : decode cX11_excuse 0 = .ok (.iconst 4, 1) := dget daX11_excuse_0 0 (q := (0, .iconst 4, 1)) rfl
theorem dX11_excuse_1 : decode cX11_excuse 1 = .ok (.iload_n 1, 1) := dget daX11_excuse_0 1 (q := (1, .iload_n 1, 1)) rfl
theorem dX11_excuse_2 : decode cX11_excuse 2 = .ok (.invokestatic 85, 3) := dget daX11_excuse_0 2 (q := (2, .invokestatic 85, 3)) rfl
theorem dX11_excuse_5 : decode cX11_excuse 5 = .ok (.ifCond .eq 12, 3) := dget daX11_excuse_0 3 (q := (5, .ifCond .eq 12, 3)) rfl
theorem dX11_excuse_8 : decode cX11_excuse 8 = .ok (.bipush 6, 2) := dget daX11_excuse_0 4 (q := (8, .bipush 6, 2)) rfl
theorem dX11_excuse_10 : decode cX11_excuse 10 = .ok (.iload_n 2, 1) := dget daX11_excuse_0 5 (q := (10, .iload_n 2, 1)) rfl
theorem dX11_excuse_11 : decode cX11_excuse 11 = .ok (.invokestatic 85, 3) := dget daX11_excuse_0 6 (q := (11, .invokestatic 85, 3)) rfl
theorem dX11_excuse_14 : decode cX11_excuse 14 = .ok (.ifCond .ne 9, 3) := dget daX11_excuse_0 7 (q := (14, .ifCond .ne 9, 3)) rfl
theorem dX11_excuse_17 : decode cX11_excuse 17 = .ok (.aload_n 0, 1) := dget daX11_excuse_0 8 (q := (17, .aload_n 0, 1)) rfl
theorem dX11_excuse_18 : decode cX11_excuse 18 = .ok (.iconst (-1), 1) := dget daX11_excuse_0 9 (q := (18, .iconst (-1), 1)) rfl
theorem dX11_excuse_19 : decode cX11_excuse 19 = .ok (.invokevirtual 77, 3) := dget daX11_excuse_0 10 (q := (19, .invokevirtual 77, 3)) rfl
theorem dX11_excuse_22 : decode cX11_excuse 22 = .ok (.ireturn, 1) := dget daX11_excuse_0 11 (q := (22, .ireturn, 1)) rfl
theorem dX11_excuse_23 : decode cX11_excuse 23 = .ok (.iload_n 3, 1) := dget daX11_excuse_0 12 (q := (23, .iload_n 3, 1)) rfl
theorem dX11_excuse_24 : decode cX11_excuse 24 = .ok (.ifCond .ge 10, 3) := dget daX11_excuse_0 13 (q := (24, .ifCond .ge 10, 3)) rfl
theorem dX11_excuse_27 : decode cX11_excuse 27 = .ok (.aload_n 0, 1) := dget daX11_excuse_0 14 (q := (27, .aload_n 0, 1)) rfl
theorem dX11_excuse_28 : decode cX11_excuse 28 = .ok (.bipush (-4), 2) := dget daX11_excuse_0 15 (q := (28, .bipush (-4), 2)) rfl
theorem dX11_excuse_30 : decode cX11_excuse 30 = .ok (.invokevirtual 77, 3) := dget daX11_excuse_0 16 (q := (30, .invokevirtual 77, 3)) rfl
theorem dX11_excuse_33 : decode cX11_excuse 33 = .ok (.ireturn, 1) := dget daX11_excuse_0 17 (q := (33, .ireturn, 1)) rfl
theorem dX11_excuse_34 : decode cX11_excuse 34 = .ok (.iload_n 3, 1) := dget daX11_excuse_0 18 (q := (34, .iload_n 3, 1)) rfl
theorem dX11_excuse_35 : decode cX11_excuse 35 = .ok (.sipush 4000, 3) := dget daX11_excuse_0 19 (q := (35, .sipush 4000, 3)) rfl
theorem dX11_excuse_38 : decode cX11_excuse 38 = .ok (.if_icmp .gt 13, 3) := dget daX11_excuse_0 20 (q := (38, .if_icmp .gt 13, 3)) rfl
theorem dX11_excuse_41 : decode cX11_excuse 41 = .ok (.aload_n 0, 1) := dget daX11_excuse_0 21 (q := (41, .aload_n 0, 1)) rfl
theorem dX11_excuse_42 : decode cX11_excuse 42 = .ok (.getfield 33, 3) := dget daX11_excuse_0 22 (q := (42, .getfield 33, 3)) rfl
theorem dX11_excuse_45 : decode cX11_excuse 45 = .ok (.invokevirtual 225, 3) := dget daX11_excuse_0 23 (q := (45, .invokevirtual 225, 3)) rfl
theorem dX11_excuse_48 : decode cX11_excuse 48 = .ok (.ifCond .eq 10, 3) := dget daX11_excuse_0 24 (q := (48, .ifCond .eq 10, 3)) rfl
theorem dX11_excuse_51 : decode cX11_excuse 51 = .ok (.aload_n 0, 1) := dget daX11_excuse_0 25 (q := (51, .aload_n 0, 1)) rfl
theorem dX11_excuse_52 : decode cX11_excuse 52 = .ok (.bipush (-6), 2) := dget daX11_excuse_0 26 (q := (52, .bipush (-6), 2)) rfl
theorem dX11_excuse_54 : decode cX11_excuse 54 = .ok (.invokevirtual 77, 3) := dget daX11_excuse_0 27 (q := (54, .invokevirtual 77, 3)) rfl
theorem dX11_excuse_57 : decode cX11_excuse 57 = .ok (.ireturn, 1) := dget daX11_excuse_0 28 (q := (57, .ireturn, 1)) rfl
theorem dX11_excuse_58 : decode cX11_excuse 58 = .ok (.aload_n 0, 1) := dget daX11_excuse_0 29 (q := (58, .aload_n 0, 1)) rfl
theorem dX11_excuse_59 : decode cX11_excuse 59 = .ok (.getfield 33, 3) := dget daX11_excuse_0 30 (q := (59, .getfield 33, 3)) rfl
theorem dX11_excuse_62 : decode cX11_excuse 62 = .ok (.iload_n 1, 1) := dget daX11_excuse_0 31 (q := (62, .iload_n 1, 1)) rfl
theorem dX11_excuse_63 : decode cX11_excuse 63 = .ok (.iload_n 2, 1) := dget daX11_excuse_0 32 (q := (63, .iload_n 2, 1)) rfl
theorem dX11_excuse_64 : decode cX11_excuse 64 = .ok (.iload_n 3, 1) := dget daX11_excuse_0 33 (q := (64, .iload_n 3, 1)) rfl
theorem dX11_excuse_65 : decode cX11_excuse 65 = .ok (.aload_n 0, 1) := dget daX11_excuse_0 34 (q := (65, .aload_n 0, 1)) rfl
theorem dX11_excuse_66 : decode cX11_excuse 66 = .ok (.getfield 73, 3) := dget daX11_excuse_0 35 (q := (66, .getfield 73, 3)) rfl
theorem dX11_excuse_69 : decode cX11_excuse 69 = .ok (.iload 4, 2) := dget daX11_excuse_0 36 (q := (69, .iload 4, 2)) rfl
theorem dX11_excuse_71 : decode cX11_excuse 71 = .ok (.invokevirtual 228, 3) := dget daX11_excuse_0 37 (q := (71, .invokevirtual 228, 3)) rfl
theorem dX11_excuse_74 : decode cX11_excuse 74 = .ok (.ireturn, 1) := dget daX11_excuse_0 38 (q := (74, .ireturn, 1)) rfl
def tdaX11_sum_0 : List (Nat × (Instr × Nat)) := [(0, .aload_n 0, 1), (1, .getfield 26, 3), (4, .iload_n 1, 1), (5, .invokevirtual 192, 3), (8, .astore 4, 2), (10, .aload 4, 2), (12, .ifnonnull 9, 3), (15, .aload_n 0, 1), (16, .iconst (-1), 1), (17, .invokevirtual 77, 3), (20, .ireturn, 1), (21, .iconst 3, 1), (22, .iload_n 3, 1), (23, .invokestatic 85, 3), (26, .ifCond .ne 10, 3), (29, .aload_n 0, 1), (30, .bipush (-2), 2), (32, .invokevirtual 77, 3), (35, .ireturn, 1), (36, .iload_n 2, 1), (37, .ifCond .ge 10, 3), (40, .aload_n 0, 1), (41, .bipush (-4), 2), (43, .invokevirtual 77, 3), (46, .ireturn, 1), (47, .iload_n 2, 1), (48, .sipush 4000, 3), (51, .if_icmp .le 10, 3), (54, .aload_n 0, 1), (55, .bipush (-6), 2), (57, .invokevirtual 77, 3), (60, .ireturn, 1), (61, .iload_n 3, 1), (62, .ifCond .ne 11, 3), (65, .aload_n 0, 1), (66, .aload 4, 2), (68, .iload_n 2, 1), (69, .invokevirtual 232, 3), (72, .ireturn, 1), (73, .aload_n 0, 1)]
theorem daX11_sum_0 : tdaX11_sum_0.all (fun q => decide (decode cX11_sum q.1 = .ok q.2)) = true := by decide +kernel
theorem dX11_sum_0 : decode cX11_sum 0 = .ok (.aload_n 0, 1) := dget daX11_sum_0 0 (q := (0, .aload_n 0, 1)) rfl
theorem dX11_sum_1 : decode cX11_sum 1 = .ok (.getfield 26, 3) := dget daX11_sum_0 1 (q := (1, .getfield 26, 3)) rfl
theorem dX11_sum_4 : decode cX11_sum 4 = .ok (.iload_n 1, 1) := dget daX11_sum_0 2 (q := (4, .iload_n 1, 1)) rfl
theorem dX11_sum_5 : decode cX11_sum 5 = .ok (.invokevirtual 192, 3) := dget daX11_sum_0 3 (q := (5, .invokevirtual 192, 3)) rfl
theorem dX11_sum_8 : decode cX11_sum 8 = .ok (.astore 4, 2) := dget daX11_sum_0 4 (q := (8, .astore 4, 2)) rfl
theorem dX11_sum_10 : decode cX11_sum 10 = .ok (.aload 4, 2) := dget daX11_sum_0 5 (q := (10, .aload 4, 2)) rfl
theorem dX11_sum_12 : decode cX11_sum 12 = .ok (.ifnonnull 9, 3) := dget daX11_sum_0 6 (q := (12, .ifnonnull 9, 3)) rfl
theorem dX11_sum_15 : decode cX11_sum 15 = .ok (.aload_n 0, 1) := dget daX11_sum_0 7 (q := (15, .aload_n 0, 1)) rfl
theorem dX11_sum_16 : decode cX11_sum 16 = .ok (.iconst (-1), 1) := dget daX11_sum_0 8 (q := (16, .iconst (-1), 1)) rfl
theorem dX11_sum_17 : decode cX11_sum 17 = .ok (.invokevirtual 77, 3) := dget daX11_sum_0 9 (q := (17, .invokevirtual 77, 3)) rfl
theorem dX11_sum_20 : decode cX11_sum 20 = .ok (.ireturn, 1) := dget daX11_sum_0 10 (q := (20, .ireturn, 1)) rfl
theorem dX11_sum_21 : decode cX11_sum 21 = .ok (.iconst 3, 1) := dget daX11_sum_0 11 (q := (21, .iconst 3, 1)) rfl
theorem dX11_sum_22 : decode cX11_sum 22 = .ok (.iload_n 3, 1) := dget daX11_sum_0 12 (q := (22, .iload_n 3, 1)) rfl
theorem dX11_sum_23 : decode cX11_sum 23 = .ok (.invokestatic 85, 3) := dget daX11_sum_0 13 (q := (23, .invokestatic 85, 3)) rfl
theorem dX11_sum_26 : decode cX11_sum 26 = .ok (.ifCond .ne 10, 3) := dget daX11_sum_0 14 (q := (26, .ifCond .ne 10, 3)) rfl
theorem dX11_sum_29 : decode cX11_sum 29 = .ok (.aload_n 0, 1) := dget daX11_sum_0 15 (q := (29, .aload_n 0, 1)) rfl
theorem dX11_sum_30 : decode cX11_sum 30 = .ok (.bipush (-2), 2) := dget daX11_sum_0 16 (q := (30, .bipush (-2), 2)) rfl
theorem dX11_sum_32 : decode cX11_sum 32 = .ok (.invokevirtual 77, 3) := dget daX11_sum_0 17 (q := (32, .invokevirtual 77, 3)) rfl
theorem dX11_sum_35 : decode cX11_sum 35 = .ok (.ireturn, 1) := dget daX11_sum_0 18 (q := (35, .ireturn, 1)) rfl
theorem dX11_sum_36 : decode cX11_sum 36 = .ok (.iload_n 2, 1) := dget daX11_sum_0 19 (q := (36, .iload_n 2, 1)) rfl
theorem dX11_sum_37 : decode cX11_sum 37 = .ok (.ifCond .ge 10, 3) := dget daX11_sum_0 20 (q := (37, .ifCond .ge 10, 3)) rfl
theorem dX11_sum_40 : decode cX11_sum 40 = .ok (.aload_n 0, 1) := dget daX11_sum_0 21 (q := (40, .aload_n 0, 1)) rfl
theorem dX11_sum_41 : decode cX11_sum 41 = .ok (.bipush (-4), 2) := dget daX11_sum_0 22 (q := (41, .bipush (-4), 2)) rfl
theorem dX11_sum_43 : decode cX11_sum 43 = .ok (.invokevirtual 77, 3) := dget daX11_sum_0 23 (q := (43, .invokevirtual 77, 3)) rfl
theorem dX11_sum_46 : decode cX11_sum 46 = .ok (.ireturn, 1) := dget daX11_sum_0 24 (q := (46, .ireturn, 1)) rfl
theorem dX11_sum_47 : decode cX11_sum 47 = .ok (.iload_n 2, 1) := dget daX11_sum_0 25 (q := (47, .iload_n 2, 1)) rfl
theorem dX11_sum_48 : decode cX11_sum 48 = .ok (.sipush 4000, 3) := dget daX11_sum_0 26 (q := (48, .sipush 4000, 3)) rfl
theorem dX11_sum_51 : decode cX11_sum 51 = .ok (.if_icmp .le 10, 3) := dget daX11_sum_0 27 (q := (51, .if_icmp .le 10, 3)) rfl
theorem dX11_sum_54 : decode cX11_sum 54 = .ok (.aload_n 0, 1) := dget daX11_sum_0 28 (q := (54, .aload_n 0, 1)) rfl
theorem dX11_sum_55 : decode cX11_sum 55 = .ok (.bipush (-6), 2) := dget daX11_sum_0 29 (q := (55, .bipush (-6), 2)) rfl
theorem dX11_sum_57 : decode cX11_sum 57 = .ok (.invokevirtual 77, 3) := dget daX11_sum_0 30 (q := (57, .invokevirtual 77, 3)) rfl
theorem dX11_sum_60 : decode cX11_sum 60 = .ok (.ireturn, 1) := dget daX11_sum_0 31 (q := (60, .ireturn, 1)) rfl
theorem dX11_sum_61 : decode cX11_sum 61 = .ok (.iload_n 3, 1) := dget daX11_sum_0 32 (q := (61, .iload_n 3, 1)) rfl
theorem dX11_sum_62 : decode cX11_sum 62 = .ok (.ifCond .ne 11, 3) := dget daX11_sum_0 33 (q := (62, .ifCond .ne 11, 3)) rfl
theorem dX11_sum_65 : decode cX11_sum 65 = .ok (.aload_n 0, 1) := dget daX11_sum_0 34 (q := (65, .aload_n 0, 1)) rfl
theorem dX11_sum_66 : decode cX11_sum 66 = .ok (.aload 4, 2) := dget daX11_sum_0 35 (q := (66, .aload 4, 2)) rfl
theorem dX11_sum_68 : decode cX11_sum 68 = .ok (.iload_n 2, 1) := dget daX11_sum_0 36 (q := (68, .iload_n 2, 1)) rfl
theorem dX11_sum_69 : decode cX11_sum 69 = .ok (.invokevirtual 232, 3) := dget daX11_sum_0 37 (q := (69, .invokevirtual 232, 3)) rfl
theorem dX11_sum_72 : decode cX11_sum 72 = .ok (.ireturn, 1) := dget daX11_sum_0 38 (q := (72, .ireturn, 1)) rfl
theorem dX11_sum_73 : decode cX11_sum 73 = .ok (.aload_n 0, 1) := dget daX11_sum_0 39 (q := (73, .aload_n 0, 1)) rfl
def tdaX11_sum_1 : List (Nat × (Instr × Nat)) := [(74, .getfield 33, 3), (77, .aload 4, 2), (79, .iload_n 2, 1), (80, .invokevirtual 236, 3), (83, .istore 5, 2), (85, .iload_n 3, 1), (86, .iconst 1, 1), (87, .if_icmp .ne 6, 3), (90, .iload 5, 2), (92, .ireturn, 1), (93, .aload_n 0, 1), (94, .getfield 33, 3), (97, .iload 5, 2), (99, .aload_n 0, 1), (100, .aload 4, 2), (102, .invokevirtual 218, 3), (105, .aload 4, 2), (107, .invokevirtual 239, 3), (110, .invokevirtual 243, 3), (113, .ifCond .eq 7, 3), (116, .iconst 1, 1), (117, .goto 4, 3), (120, .iconst 0, 1), (121, .ireturn, 1)]
theorem daX11_sum_1 : tdaX11_sum_1.all (fun q => decide (decode cX11_sum q.1 = .ok q.2)) = true := by decide +kernel
theorem dX11_sum_74 : decode cX11_sum 74 = .ok (.getfield 33, 3) := dget daX11_sum_1 0 (q := (74, .getfield 33, 3)) rfl
theorem dX11_sum_77 : decode cX11_sum 77 = .ok (.aload 4, 2) := dget daX11_sum_1 1 (q := (77, .aload 4, 2)) rfl
theorem dX11_sum_79 : decode cX11_sum 79 = .ok (.iload_n 2, 1) := dget daX11_sum_1 2 (q := (79, .iload_n 2, 1)) rfl
theorem dX11_sum_80 : decode cX11_sum 80 = .ok (.invokevirtual 236, 3) := dget daX11_sum_1 3 (q := (80, .invokevirtual 236, 3)) rfl
theorem dX11_sum_83 : decode cX11_sum 83 = .ok (.istore 5, 2) := dget daX11_sum_1 4 (q := (83, .istore 5, 2)) rfl
theorem dX11_sum_85 : decode cX11_sum 85 = .ok (.iload_n 3, 1) := dget daX11_sum_1 5 (q := (85, .iload_n 3, 1)) rfl
theorem dX11_sum_86 : decode cX11_sum 86 = .ok (.iconst 1, 1) := dget daX11_sum_1 6 (q := (86, .iconst 1, 1)) rfl
theorem dX11_sum_87 : decode cX11_sum 87 = .ok (.if_icmp .ne 6, 3) := dget daX11_sum_1 7 (q := (87, .if_icmp .ne 6, 3)) rfl
theorem dX11_sum_90 : decode cX11_sum 90 = .ok (.iload 5, 2) := dget daX11_sum_1 8 (q := (90, .iload 5, 2)) rfl
theorem dX11_sum_92 : decode cX11_sum 92 = .ok (.ireturn, 1) := dget daX11_sum_1 9 (q := (92, .ireturn, 1)) rfl
theorem dX11_sum_93 : decode cX11_sum 93 = .ok (.aload_n 0, 1) := dget daX11_sum_1 10 (q := (93, .aload_n 0, 1)) rfl
theorem dX11_sum_94 : decode cX11_sum 94 = .ok (.getfield 33, 3) := dget daX11_sum_1 11 (q := (94, .getfield 33, 3)) rfl
theorem dX11_sum_97 : decode cX11_sum 97 = .ok (.iload 5, 2) := dget daX11_sum_1 12 (q := (97, .iload 5, 2)) rfl
theorem dX11_sum_99 : decode cX11_sum 99 = .ok (.aload_n 0, 1) := dget daX11_sum_1 13 (q := (99, .aload_n 0, 1)) rfl
theorem dX11_sum_100 : decode cX11_sum 100 = .ok (.aload 4, 2) := dget daX11_sum_1 14 (q := (100, .aload 4, 2)) rfl
theorem dX11_sum_102 : decode cX11_sum 102 = .ok (.invokevirtual 218, 3) := dget daX11_sum_1 15 (q := (102, .invokevirtual 218, 3)) rfl
theorem dX11_sum_105 : decode cX11_sum 105 = .ok (.aload 4, 2) := dget daX11_sum_1 16 (q := (105, .aload 4, 2)) rfl
theorem dX11_sum_107 : decode cX11_sum 107 = .ok (.invokevirtual 239, 3) := dget daX11_sum_1 17 (q := (107, .invokevirtual 239, 3)) rfl
theorem dX11_sum_110 : decode cX11_sum 110 = .ok (.invokevirtual 243, 3) := dget daX11_sum_1 18 (q := (110, .invokevirtual 243, 3)) rfl
theorem dX11_sum_113 : decode cX11_sum 113 = .ok (.ifCond .eq 7, 3) := dget daX11_sum_1 19 (q := (113, .ifCond .eq 7, 3)) rfl
theorem dX11_sum_116 : decode cX11_sum 116 = .ok (.iconst 1, 1) := dget daX11_sum_1 20 (q := (116, .iconst 1, 1)) rfl
theorem dX11_sum_117 : decode cX11_sum 117 = .ok (.goto 4, 3) := dget daX11_sum_1 21 (q := (117, .goto 4, 3)) rfl
theorem dX11_sum_120 : decode cX11_sum 120 = .ok (.iconst 0, 1) := dget daX11_sum_1 22 (q := (120, .iconst 0, 1)) rfl
theorem dX11_sum_121 : decode cX11_sum 121 = .ok (.ireturn, 1) := dget daX11_sum_1 23 (q := (121, .ireturn, 1)) rfl
def tdaX11_bar_0 : List (Nat × (Instr × Nat)) := [(0, .iconst 4, 1), (1, .iload_n 1, 1), (2, .invokestatic 85, 3), (5, .ifCond .ne 9, 3), (8, .aload_n 0, 1), (9, .iconst (-1), 1), (10, .invokevirtual 77, 3), (13, .ireturn, 1), (14, .iload_n 2, 1), (15, .iconst 1, 1), (16, .if_icmp .ge 10, 3), (19, .aload_n 0, 1), (20, .bipush (-4), 2), (22, .invokevirtual 77, 3), (25, .ireturn, 1), (26, .iload_n 2, 1), (27, .sipush 3000, 3), (30, .if_icmp .le 10, 3), (33, .aload_n 0, 1), (34, .bipush (-6), 2), (36, .invokevirtual 77, 3), (39, .ireturn, 1), (40, .aload_n 0, 1), (41, .getfield 40, 3), (44, .getfield 247, 3), (47, .iload_n 1, 1), (48, .iaload, 1), (49, .istore_n 3, 1), (50, .aload_n 0, 1), (51, .getfield 40, 3), (54, .getfield 247, 3), (57, .iload_n 1, 1), (58, .iload_n 2, 1), (59, .iastore, 1), (60, .iload_n 3, 1), (61, .ireturn, 1)]
theorem daX11_bar_0 : tdaX11_bar_0.all (fun q => decide (decode cX11_bar q.1 = .ok q.2)) = true := by decide +kernel
theorem dX11_bar_0 : decode cX11_bar 0 = .ok (.iconst 4, 1) := dget daX11_bar_0 0 (q := (0, .iconst 4, 1)) rfl
theorem dX11_bar_1 : decode cX11_bar 1 = .ok (.iload_n 1, 1) := dget daX11_bar_0 1 (q := (1, .iload_n 1, 1)) rfl
theorem dX11_bar_2 : decode cX11_bar 2 = .ok (.invokestatic 85, 3) := dget daX11_bar_0 2 (q := (2, .invokestatic 85, 3)) rfl
theorem dX11_bar_5 : decode cX11_bar 5 = .ok (.ifCond .ne 9, 3) := dget daX11_bar_0 3 (q := (5, .ifCond .ne 9, 3)) rfl
theorem dX11_bar_8 : decode cX11_bar 8 = .ok (.aload_n 0, 1) := dget daX11_bar_0 4 (q := (8, .aload_n 0, 1)) rfl
theorem dX11_bar_9 : decode cX11_bar 9 = .ok (.iconst (-1), 1) := dget daX11_bar_0 5 (q := (9, .iconst (-1), 1)) rfl
theorem dX11_bar_10 : decode cX11_bar 10 = .ok (.invokevirtual 77, 3) := dget daX11_bar_0 6 (q := (10, .invokevirtual 77, 3)) rfl
theorem dX11_bar_13 : decode cX11_bar 13 = .ok (.ireturn, 1) := dget daX11_bar_0 7 (q := (13, .ireturn, 1)) rfl
theorem dX11_bar_14 : decode cX11_bar 14 = .ok (.iload_n 2, 1) := dget daX11_bar_0 8 (q := (14, .iload_n 2, 1)) rfl
theorem dX11_bar_15 : decode cX11_bar 15 = .ok (.iconst 1, 1) := dget daX11_bar_0 9 (q := (15, .iconst 1, 1)) rfl
theorem dX11_bar_16 : decode cX11_bar 16 = .ok (.if_icmp .ge 10, 3) := dget daX11_bar_0 10 (q := (16, .if_icmp .ge 10, 3)) rfl
theorem dX11_bar_19 : decode cX11_bar 19 = .ok (.aload_n 0, 1) := dget daX11_bar_0 11 (q := (19, .aload_n 0, 1)) rfl
theorem dX11_bar_20 : decode cX11_bar 20 = .ok (.bipush (-4), 2) := dget daX11_bar_0 12 (q := (20, .bipush (-4), 2)) rfl
theorem dX11_bar_22 : decode cX11_bar 22 = .ok (.invokevirtual 77, 3) := dget daX11_bar_0 13 (q := (22, .invokevirtual 77, 3)) rfl
theorem dX11_bar_25 : decode cX11_bar 25 = .ok (.ireturn, 1) := dget daX11_bar_0 14 (q := (25, .ireturn, 1)) rfl
theorem dX11_bar_26 : decode cX11_bar 26 = .ok (.iload_n 2, 1) := dget daX11_bar_0 15 (q := (26, .iload_n 2, 1)) rfl
theorem dX11_bar_27 : decode cX11_bar 27 = .ok (.sipush 3000, 3) := dget daX11_bar_0 16 (q := (27, .sipush 3000, 3)) rfl
theorem dX11_bar_30 : decode cX11_bar 30 = .ok (.if_icmp .le 10, 3) := dget daX11_bar_0 17 (q := (30, .if_icmp .le 10, 3)) rfl
theorem dX11_bar_33 : decode cX11_bar 33 = .ok (.aload_n 0, 1) := dget daX11_bar_0 18 (q := (33, .aload_n 0, 1)) rfl
theorem dX11_bar_34 : decode cX11_bar 34 = .ok (.bipush (-6), 2) := dget daX11_bar_0 19 (q := (34, .bipush (-6), 2)) rfl
theorem dX11_bar_36 : decode cX11_bar 36 = .ok (.invokevirtual 77, 3) := dget daX11_bar_0 20 (q := (36, .invokevirtual 77, 3)) rfl
theorem dX11_bar_39 : decode cX11_bar 39 = .ok (.ireturn, 1) := dget daX11_bar_0 21 (q := (39, .ireturn, 1)) rfl
theorem dX11_bar_40 : decode cX11_bar 40 = .ok (.aload_n 0, 1) := dget daX11_bar_0 22 (q := (40, .aload_n 0, 1)) rfl
theorem dX11_bar_41 : decode cX11_bar 41 = .ok (.getfield 40, 3) := dget daX11_bar_0 23 (q := (41, .getfield 40, 3)) rfl
theorem dX11_bar_44 : decode cX11_bar 44 = .ok (.getfield 247, 3) := dget daX11_bar_0 24 (q := (44, .getfield 247, 3)) rfl
theorem dX11_bar_47 : decode cX11_bar 47 = .ok (.iload_n 1, 1) := dget daX11_bar_0 25 (q := (47, .iload_n 1, 1)) rfl
theorem dX11_bar_48 : decode cX11_bar 48 = .ok (.iaload, 1) := dget daX11_bar_0 26 (q := (48, .iaload, 1)) rfl
theorem dX11_bar_49 : decode cX11_bar 49 = .ok (.istore_n 3, 1) := dget daX11_bar_0 27 (q := (49, .istore_n 3, 1)) rfl
theorem dX11_bar_50 : decode cX11_bar 50 = .ok (.aload_n 0, 1) := dget daX11_bar_0 28 (q := (50, .aload_n 0, 1)) rfl
theorem dX11_bar_51 : decode cX11_bar 51 = .ok (.getfield 40, 3) := dget daX11_bar_0 29 (q := (51, .getfield 40, 3)) rfl
theorem dX11_bar_54 : decode cX11_bar 54 = .ok (.getfield 247, 3) := dget daX11_bar_0 30 (q := (54, .getfield 247, 3)) rfl
theorem dX11_bar_57 : decode cX11_bar 57 = .ok (.iload_n 1, 1) := dget daX11_bar_0 31 (q := (57, .iload_n 1, 1)) rfl
theorem dX11_bar_58 : decode cX11_bar 58 = .ok (.iload_n 2, 1) := dget daX11_bar_0 32 (q := (58, .iload_n 2, 1)) rfl
theorem dX11_bar_59 : decode cX11_bar 59 = .ok (.iastore, 1) := dget daX11_bar_0 33 (q := (59, .iastore, 1)) rfl
theorem dX11_bar_60 : decode cX11_bar 60 = .ok (.iload_n 3, 1) := dget daX11_bar_0 34 (q := (60, .iload_n 3, 1)) rfl
theorem dX11_bar_61 : decode cX11_bar 61 = .ok (.ireturn, 1) := dget daX11_bar_0 35 (q := (61, .ireturn, 1)) rfl
def tdaX11_stop_0 : List (Nat × (Instr × Nat)) := [(0, .iconst 4, 1), (1, .iload_n 1, 1), (2, .invokestatic 85, 3), (5, .ifCond .ne 9, 3), (8, .aload_n 0, 1), (9, .iconst (-1), 1), (10, .invokevirtual 77, 3), (13, .ireturn, 1), (14, .iload_n 2, 1), (15, .ifCond .lt 8, 3), (18, .iload_n 3, 1), (19, .iload_n 2, 1), (20, .if_icmp .ge 10, 3), (23, .aload_n 0, 1), (24, .bipush (-4), 2), (26, .invokevirtual 77, 3), (29, .ireturn, 1), (30, .iload_n 2, 1), (31, .sipush 4000, 3), (34, .if_icmp .gt 20, 3), (37, .iload_n 3, 1), (38, .sipush 4000, 3), (41, .if_icmp .gt 13, 3), (44, .aload_n 0, 1), (45, .getfield 40, 3), (48, .invokevirtual 250, 3), (51, .ifCond .eq 10, 3), (54, .aload_n 0, 1), (55, .bipush (-6), 2), (57, .invokevirtual 77, 3), (60, .ireturn, 1), (61, .aload_n 0, 1), (62, .getfield 40, 3), (65, .iload_n 1, 1), (66, .iload_n 2, 1), (67, .iload_n 3, 1), (68, .invokevirtual 251, 3), (71, .ireturn, 1)]
theorem daX11_stop_0 : tdaX11_stop_0.all (fun q => decide (decode cX11_stop q.1 = .ok q.2)) = true := by decide +kernel
theorem dX11_stop_0 : decode cX11_stop 0 = .ok (.iconst 4, 1) := dget daX11_stop_0 0 (q := (0, .iconst 4, 1)) rfl
theorem dX11_stop_1 : decode cX11_stop 1 = .ok (.iload_n 1, 1) := dget daX11_stop_0 1 (q := (1, .iload_n 1, 1)) rfl
theorem dX11_stop_2 : decode cX11_stop 2 = .ok (.invokestatic 85, 3) := dget daX11_stop_0 2 (q := (2, .invokestatic 85, 3)) rfl
theorem dX11_stop_5 : decode cX11_stop 5 = .ok (.ifCond .ne 9, 3) := dget daX11_stop_0 3 (q := (5, .ifCond .ne 9, 3)) rfl
theorem dX11_stop_8 : decode cX11_stop 8 = .ok (.aload_n 0, 1) := dget daX11_stop_0 4 (q := (8, .aload_n 0, 1)) rfl
theorem dX11_stop_9 : decode cX11_stop 9 = .ok (.iconst (-1), 1) := dget daX11_stop_0 5 (q := (9, .iconst (-1), 1)) rfl
theorem dX11_stop_10 : decode cX11_stop 10 = .ok (.invokevirtual 77, 3) := dget daX11_stop_0 6 (q := (10, .invokevirtual 77, 3)) rfl
theorem dX11_stop_13 : decode cX11_stop 13 = .ok (.ireturn, 1) := dget daX11_stop_0 7 (q := (13, .ireturn, 1)) rfl
theorem dX11_stop_14 : decode cX11_stop 14 = .ok (.iload_n 2, 1) := dget daX11_stop_0 8 (q := (14, .iload_n 2, 1)) rfl
theorem dX11_stop_15 : decode cX11_stop 15 = .ok (.ifCond .lt 8, 3) := dget daX11_stop_0 9 (q := (15, .ifCond .lt 8, 3)) rfl
theorem dX11_stop_18 : decode cX11_stop 18 = .ok (.iload_n 3, 1) := dget daX11_stop_0 10 (q := (18, .iload_n 3, 1)) rfl
theorem dX11_stop_19 : decode cX11_stop 19 = .ok (.iload_n 2, 1) := dget daX11_stop_0 11 (q := (19, .iload_n 2, 1)) rfl
theorem dX11_stop_20 : decode cX11_stop 20 = .ok (.if_icmp .ge 10, 3) := dget daX11_stop_0 12 (q := (20, .if_icmp .ge 10, 3)) rfl
theorem dX11_stop_23 : decode cX11_stop 23 = .ok (.aload_n 0, 1) := dget daX11_stop_0 13 (q := (23, .aload_n 0, 1)) rfl
theorem dX11_stop_24 : decode cX11_stop 24 = .ok (.bipush (-4), 2) := dget daX11_stop_0 14 (q := (24, .bipush (-4), 2)) rfl
theorem dX11_stop_26 : decode cX11_stop 26 = .ok (.invokevirtual 77, 3) := dget daX11_stop_0 15 (q := (26, .invokevirtual 77, 3)) rfl
theorem dX11_stop_29 : decode cX11_stop 29 = .ok (.ireturn, 1) := dget daX11_stop_0 16 (q := (29, .ireturn, 1)) rfl
theorem dX11_stop_30 : decode cX11_stop 30 = .ok (.iload_n 2, 1) := dget daX11_stop_0 17 (q := (30, .iload_n 2, 1)) rfl
theorem dX11_stop_31 : decode cX11_stop 31 = .ok (.sipush 4000, 3) := dget daX11_stop_0 18 (q := (31, .sipush 4000, 3)) rfl
theorem dX11_stop_34 : decode cX11_stop 34 = .ok (.if_icmp .gt 20, 3) := dget daX11_stop_0 19 (q := (34, .if_icmp .gt 20, 3)) rfl
theorem dX11_stop_37 : decode cX11_stop 37 = .ok (.iload_n 3, 1) := dget daX11_stop_0 20 (q := (37, .iload_n 3, 1)) rfl
theorem dX11_stop_38 : decode cX11_stop 38 = .ok (.sipush 4000, 3) := dget daX11_stop_0 21 (q := (38, .sipush 4000, 3)) rfl
theorem dX11_stop_41 : decode cX11_stop 41 = .ok (.if_icmp .gt 13, 3) := dget daX11_stop_0 22 (q := (41, .if_icmp .gt 13, 3)) rfl
theorem dX11_stop_44 : decode cX11_stop 44 = .ok (.aload_n 0, 1) := dget daX11_stop_0 23 (q := (44, .aload_n 0, 1)) rfl
theorem dX11_stop_45 : decode cX11_stop 45 = .ok (.getfield 40, 3) := dget daX11_stop_0 24 (q := (45, .getfield 40, 3)) rfl
theorem dX11_stop_48 : decode cX11_stop 48 = .ok (.invokevirtual 250, 3) := dget daX11_stop_0 25 (q := (48, .invokevirtual 250, 3)) rfl
theorem dX11_stop_51 : decode cX11_stop 51 = .ok (.ifCond .eq 10, 3) := dget daX11_stop_0 26 (q := (51, .ifCond .eq 10, 3)) rfl
theorem dX11_stop_54 : decode cX11_stop 54 = .ok (.aload_n 0, 1) := dget daX11_stop_0 27 (q := (54, .aload_n 0, 1)) rfl
theorem dX11_stop_55 : decode cX11_stop 55 = .ok (.bipush (-6), 2) := dget daX11_stop_0 28 (q := (55, .bipush (-6), 2)) rfl
theorem dX11_stop_57 : decode cX11_stop 57 = .ok (.invokevirtual 77, 3) := dget daX11_stop_0 29 (q := (57, .invokevirtual 77, 3)) rfl
theorem dX11_stop_60 : decode cX11_stop 60 = .ok (.ireturn, 1) := dget daX11_stop_0 30 (q := (60, .ireturn, 1)) rfl
theorem dX11_stop_61 : decode cX11_stop 61 = .ok (.aload_n 0, 1) := dget daX11_stop_0 31 (q := (61, .aload_n 0, 1)) rfl
theorem dX11_stop_62 : decode cX11_stop 62 = .ok (.getfield 40, 3) := dget daX11_stop_0 32 (q := (62, .getfield 40, 3)) rfl
theorem dX11_stop_65 : decode cX11_stop 65 = .ok (.iload_n 1, 1) := dget daX11_stop_0 33 (q := (65, .iload_n 1, 1)) rfl
theorem dX11_stop_66 : decode cX11_stop 66 = .ok (.iload_n 2, 1) := dget daX11_stop_0 34 (q := (66, .iload_n 2, 1)) rfl
theorem dX11_stop_67 : decode cX11_stop 67 = .ok (.iload_n 3, 1) := dget daX11_stop_0 35 (q := (67, .iload_n 3, 1)) rfl
theorem dX11_stop_68 : decode cX11_stop 68 = .ok (.invokevirtual 251, 3) := dget daX11_stop_0 36 (q := (68, .invokevirtual 251, 3)) rfl
theorem dX11_stop_71 : decode cX11_stop 71 = .ok (.ireturn, 1) := dget daX11_stop_0 37 (q := (71, .ireturn, 1)) rfl
def tdaX11_claim_0 : List (Nat × (Instr × Nat)) := [(0, .aload_n 0, 1), (1, .getfield 26, 3), (4, .iload_n 1, 1), (5, .invokevirtual 192, 3), (8, .astore_n 2, 1), (9, .aload_n 2, 1), (10, .ifnonnull 9, 3), (13, .aload_n 0, 1), (14, .iconst (-1), 1), (15, .invokevirtual 77, 3), (18, .ireturn, 1), (19, .aload_n 2, 1), (20, .getfield 255, 3), (23, .ifCond .eq 10, 3), (26, .aload_n 0, 1), (27, .bipush (-3), 2), (29, .invokevirtual 77, 3), (32, .ireturn, 1), (33, .aload_n 0, 1), (34, .getfield 47, 3), (37, .invokevirtual 258, 3), (40, .ifCond .eq 10, 3), (43, .aload_n 0, 1), (44, .bipush (-6), 2), (46, .invokevirtual 77, 3), (49, .ireturn, 1), (50, .aload_n 0, 1), (51, .getfield 47, 3), (54, .aload_n 2, 1), (55, .aload_n 0, 1), (56, .getfield 73, 3), (59, .invokevirtual 259, 3), (62, .ireturn, 1)]
theorem daX11_claim_0 : tdaX11_claim_0.all (fun q => decide (decode cX11_claim q.1 = .ok q.2)) = true := by decide +kernel
theorem dX11_claim_0 : decode cX11_claim 0 = .ok (.aload_n 0, 1) := dget daX11_claim_0 0 (q := (0, .aload_n 0, 1)) rfl
theorem dX11_claim_1 : decode cX11_claim 1 = .ok (.getfield 26, 3) := dget daX11_claim_0 1 (q := (1, .getfield 26, 3)) rfl
theorem dX11_claim_4 : decode cX11_claim 4 = .ok (.iload_n 1, 1) := dget daX11_claim_0 2 (q := (4, .iload_n 1, 1)) rfl
theorem dX11_claim_5 : decode cX11_claim 5 = .ok (.invokevirtual 192, 3) := dget daX11_claim_0 3 (q := (5, .invokevirtual 192, 3)) rfl
theorem dX11_claim_8 : decode cX11_claim 8 = .ok (.astore_n 2, 1) := dget daX11_claim_0 4 (q := (8, .astore_n 2, 1)) rfl
theorem dX11_claim_9 : decode cX11_claim 9 = .ok (.aload_n 2, 1) := dget daX11_claim_0 5 (q := (9, .aload_n 2, 1)) rfl
theorem dX11_claim_10 : decode cX11_claim 10 = .ok (.ifnonnull 9, 3) := dget daX11_claim_0 6 (q := (10, .ifnonnull 9, 3)) rfl
theorem dX11_claim_13 : decode cX11_claim 13 = .ok (.aload_n 0, 1) := dget daX11_claim_0 7 (q := (13, .aload_n 0, 1)) rfl
theorem dX11_claim_14 : decode cX11_claim 14 = .ok (.iconst (-1), 1) := dget daX11_claim_0 8 (q := (14, .iconst (-1), 1)) rfl
theorem dX11_claim_15 : decode cX11_claim 15 = .ok (.invokevirtual 77, 3) := dget daX11_claim_0 9 (q := (15, .invokevirtual 77, 3)) rfl
theorem dX11_claim_18 : decode cX11_claim 18 = .ok (.ireturn, 1) := dget daX11_claim_0 10 (q := (18, .ireturn, 1)) rfl
theorem dX11_claim_19 : decode cX11_claim 19 = .ok (.aload_n 2, 1) := dget daX11_claim_0 11 (q := (19, .aload_n 2, 1)) rfl
theorem dX11_claim_20 : decode cX11_claim 20 = .ok (.getfield 255, 3) := dget daX11_claim_0 12 (q := (20, .getfield 255, 3)) rfl
theorem dX11_claim_23 : decode cX11_claim 23 = .ok (.ifCond .eq 10, 3) := dget daX11_claim_0 13 (q := (23, .ifCond .eq 10, 3)) rfl
theorem dX11_claim_26 : decode cX11_claim 26 = .ok (.aload_n 0, 1) := dget daX11_claim_0 14 (q := (26, .aload_n 0, 1)) rfl
theorem dX11_claim_27 : decode cX11_claim 27 = .ok (.bipush (-3), 2) := dget daX11_claim_0 15 (q := (27, .bipush (-3), 2)) rfl
theorem dX11_claim_29 : decode cX11_claim 29 = .ok (.invokevirtual 77, 3) := dget daX11_claim_0 16 (q := (29, .invokevirtual 77, 3)) rfl
theorem dX11_claim_32 : decode cX11_claim 32 = .ok (.ireturn, 1) := dget daX11_claim_0 17 (q := (32, .ireturn, 1)) rfl
theorem dX11_claim_33 : decode cX11_claim 33 = .ok (.aload_n 0, 1) := dget daX11_claim_0 18 (q := (33, .aload_n 0, 1)) rfl
theorem dX11_claim_34 : decode cX11_claim 34 = .ok (.getfield 47, 3) := dget daX11_claim_0 19 (q := (34, .getfield 47, 3)) rfl
theorem dX11_claim_37 : decode cX11_claim 37 = .ok (.invokevirtual 258, 3) := dget daX11_claim_0 20 (q := (37, .invokevirtual 258, 3)) rfl
theorem dX11_claim_40 : decode cX11_claim 40 = .ok (.ifCond .eq 10, 3) := dget daX11_claim_0 21 (q := (40, .ifCond .eq 10, 3)) rfl
theorem dX11_claim_43 : decode cX11_claim 43 = .ok (.aload_n 0, 1) := dget daX11_claim_0 22 (q := (43, .aload_n 0, 1)) rfl
theorem dX11_claim_44 : decode cX11_claim 44 = .ok (.bipush (-6), 2) := dget daX11_claim_0 23 (q := (44, .bipush (-6), 2)) rfl
theorem dX11_claim_46 : decode cX11_claim 46 = .ok (.invokevirtual 77, 3) := dget daX11_claim_0 24 (q := (46, .invokevirtual 77, 3)) rfl
theorem dX11_claim_49 : decode cX11_claim 49 = .ok (.ireturn, 1) := dget daX11_claim_0 25 (q := (49, .ireturn, 1)) rfl
theorem dX11_claim_50 : decode cX11_claim 50 = .ok (.aload_n 0, 1) := dget daX11_claim_0 26 (q := (50, .aload_n 0, 1)) rfl
theorem dX11_claim_51 : decode cX11_claim 51 = .ok (.getfield 47, 3) := dget daX11_claim_0 27 (q := (51, .getfield 47, 3)) rfl
theorem dX11_claim_54 : decode cX11_claim 54 = .ok (.aload_n 2, 1) := dget daX11_claim_0 28 (q := (54, .aload_n 2, 1)) rfl
theorem dX11_claim_55 : decode cX11_claim 55 = .ok (.aload_n 0, 1) := dget daX11_claim_0 29 (q := (55, .aload_n 0, 1)) rfl
theorem dX11_claim_56 : decode cX11_claim 56 = .ok (.getfield 73, 3) := dget daX11_claim_0 30 (q := (56, .getfield 73, 3)) rfl
theorem dX11_claim_59 : decode cX11_claim 59 = .ok (.invokevirtual 259, 3) := dget daX11_claim_0 31 (q := (59, .invokevirtual 259, 3)) rfl
theorem dX11_claim_62 : decode cX11_claim 62 = .ok (.ireturn, 1) := dget daX11_claim_0 32 (q := (62, .ireturn, 1)) rfl
def tdaX11_claimOf_0 : List (Nat × (Instr × Nat)) := [(0, .aload_n 0, 1), (1, .getfield 47, 3), (4, .iload_n 1, 1), (5, .invokevirtual 261, 3), (8, .astore_n 3, 1), (9, .aload_n 3, 1), (10, .ifnonnull 9, 3), (13, .aload_n 0, 1), (14, .iconst (-1), 1), (15, .invokevirtual 77, 3), (18, .ireturn, 1), (19, .iload_n 2, 1), (20, .tableswitch 93 0 5 #[40, 48, 53, 67, 73, 78], 40), (60, .aload_n 3, 1), (61, .getfield 264, 3), (64, .getfield 270, 3), (67, .ireturn, 1), (68, .aload_n 3, 1), (69, .getfield 271, 3), (72, .ireturn, 1), (73, .aload_n 0, 1), (74, .aload_n 3, 1), (75, .invokevirtual 274, 3), (78, .ifCond .eq 7, 3), (81, .iconst 1, 1), (82, .goto 4, 3), (85, .iconst 0, 1), (86, .ireturn, 1), (87, .aload_n 0, 1), (88, .aload_n 3, 1), (89, .invokevirtual 278, 3), (92, .ireturn, 1), (93, .aload_n 3, 1), (94, .getfield 282, 3), (97, .ireturn, 1), (98, .iconst 0, 1), (99, .aload_n 3, 1), (100, .getfield 282, 3), (103, .aload_n 0, 1), (104, .aload_n 3, 1)]
theorem daX11_claimOf_0 : tdaX11_claimOf_0.all (fun q => decide (decode cX11_claimOf q.1 = .ok q.2)) = true := by decide +kernel
theorem dX11_claimOf_0 : decode cX11_claimOf 0 = .ok (.aload_n 0, 1) := dget daX11_claimOf_0 0 (q := (0, .aload_n 0, 1)) rfl
theorem dX11_claimOf_1 : decode cX11_claimOf 1 = .ok (.getfield 47, 3) := dget daX11_claimOf_0 1 (q := (1, .getfield 47, 3)) rfl
theorem dX11_claimOf_4 : decode cX11_claimOf 4 = .ok (.iload_n 1, 1) := dget daX11_claimOf_0 2 (q := (4, .iload_n 1, 1)) rfl
theorem dX11_claimOf_5 : decode cX11_claimOf 5 = .ok (.invokevirtual 261, 3) := dget daX11_claimOf_0 3 (q := (5, .invokevirtual 261, 3)) rfl
theorem dX11_claimOf_8 : decode cX11_claimOf 8 = .ok (.astore_n 3, 1) := dget daX11_claimOf_0 4 (q := (8, .astore_n 3, 1)) rfl
theorem dX11_claimOf_9 : decode cX11_claimOf 9 = .ok (.aload_n 3, 1) := dget daX11_claimOf_0 5 (q := (9, .aload_n 3, 1)) rfl
theorem dX11_claimOf_10 : decode cX11_claimOf 10 = .ok (.ifnonnull 9, 3) := dget daX11_claimOf_0 6 (q := (10, .ifnonnull 9, 3)) rfl
theorem dX11_claimOf_13 : decode cX11_claimOf 13 = .ok (.aload_n 0, 1) := dget daX11_claimOf_0 7 (q := (13, .aload_n 0, 1)) rfl
theorem dX11_claimOf_14 : decode cX11_claimOf 14 = .ok (.iconst (-1), 1) := dget daX11_claimOf_0 8 (q := (14, .iconst (-1), 1)) rfl
theorem dX11_claimOf_15 : decode cX11_claimOf 15 = .ok (.invokevirtual 77, 3) := dget daX11_claimOf_0 9 (q := (15, .invokevirtual 77, 3)) rfl
theorem dX11_claimOf_18 : decode cX11_claimOf 18 = .ok (.ireturn, 1) := dget daX11_claimOf_0 10 (q := (18, .ireturn, 1)) rfl
theorem dX11_claimOf_19 : decode cX11_claimOf 19 = .ok (.iload_n 2, 1) := dget daX11_claimOf_0 11 (q := (19, .iload_n 2, 1)) rfl
theorem dX11_claimOf_20 : decode cX11_claimOf 20 = .ok (.tableswitch 93 0 5 #[40, 48, 53, 67, 73, 78], 40) := dget daX11_claimOf_0 12 (q := (20, .tableswitch 93 0 5 #[40, 48, 53, 67, 73, 78], 40)) rfl
theorem dX11_claimOf_60 : decode cX11_claimOf 60 = .ok (.aload_n 3, 1) := dget daX11_claimOf_0 13 (q := (60, .aload_n 3, 1)) rfl
theorem dX11_claimOf_61 : decode cX11_claimOf 61 = .ok (.getfield 264, 3) := dget daX11_claimOf_0 14 (q := (61, .getfield 264, 3)) rfl
theorem dX11_claimOf_64 : decode cX11_claimOf 64 = .ok (.getfield 270, 3) := dget daX11_claimOf_0 15 (q := (64, .getfield 270, 3)) rfl
theorem dX11_claimOf_67 : decode cX11_claimOf 67 = .ok (.ireturn, 1) := dget daX11_claimOf_0 16 (q := (67, .ireturn, 1)) rfl
theorem dX11_claimOf_68 : decode cX11_claimOf 68 = .ok (.aload_n 3, 1) := dget daX11_claimOf_0 17 (q := (68, .aload_n 3, 1)) rfl
theorem dX11_claimOf_69 : decode cX11_claimOf 69 = .ok (.getfield 271, 3) := dget daX11_claimOf_0 18 (q := (69, .getfield 271, 3)) rfl
theorem dX11_claimOf_72 : decode cX11_claimOf 72 = .ok (.ireturn, 1) := dget daX11_claimOf_0 19 (q := (72, .ireturn, 1)) rfl
theorem dX11_claimOf_73 : decode cX11_claimOf 73 = .ok (.aload_n 0, 1) := dget daX11_claimOf_0 20 (q := (73, .aload_n 0, 1)) rfl
theorem dX11_claimOf_74 : decode cX11_claimOf 74 = .ok (.aload_n 3, 1) := dget daX11_claimOf_0 21 (q := (74, .aload_n 3, 1)) rfl
theorem dX11_claimOf_75 : decode cX11_claimOf 75 = .ok (.invokevirtual 274, 3) := dget daX11_claimOf_0 22 (q := (75, .invokevirtual 274, 3)) rfl
theorem dX11_claimOf_78 : decode cX11_claimOf 78 = .ok (.ifCond .eq 7, 3) := dget daX11_claimOf_0 23 (q := (78, .ifCond .eq 7, 3)) rfl
theorem dX11_claimOf_81 : decode cX11_claimOf 81 = .ok (.iconst 1, 1) := dget daX11_claimOf_0 24 (q := (81, .iconst 1, 1)) rfl
theorem dX11_claimOf_82 : decode cX11_claimOf 82 = .ok (.goto 4, 3) := dget daX11_claimOf_0 25 (q := (82, .goto 4, 3)) rfl
theorem dX11_claimOf_85 : decode cX11_claimOf 85 = .ok (.iconst 0, 1) := dget daX11_claimOf_0 26 (q := (85, .iconst 0, 1)) rfl
theorem dX11_claimOf_86 : decode cX11_claimOf 86 = .ok (.ireturn, 1) := dget daX11_claimOf_0 27 (q := (86, .ireturn, 1)) rfl
theorem dX11_claimOf_87 : decode cX11_claimOf 87 = .ok (.aload_n 0, 1) := dget daX11_claimOf_0 28 (q := (87, .aload_n 0, 1)) rfl
theorem dX11_claimOf_88 : decode cX11_claimOf 88 = .ok (.aload_n 3, 1) := dget daX11_claimOf_0 29 (q := (88, .aload_n 3, 1)) rfl
theorem dX11_claimOf_89 : decode cX11_claimOf 89 = .ok (.invokevirtual 278, 3) := dget daX11_claimOf_0 30 (q := (89, .invokevirtual 278, 3)) rfl
theorem dX11_claimOf_92 : decode cX11_claimOf 92 = .ok (.ireturn, 1) := dget daX11_claimOf_0 31 (q := (92, .ireturn, 1)) rfl
theorem dX11_claimOf_93 : decode cX11_claimOf 93 = .ok (.aload_n 3, 1) := dget daX11_claimOf_0 32 (q := (93, .aload_n 3, 1)) rfl
theorem dX11_claimOf_94 : decode cX11_claimOf 94 = .ok (.getfield 282, 3) := dget daX11_claimOf_0 33 (q := (94, .getfield 282, 3)) rfl
theorem dX11_claimOf_97 : decode cX11_claimOf 97 = .ok (.ireturn, 1) := dget daX11_claimOf_0 34 (q := (97, .ireturn, 1)) rfl
theorem dX11_claimOf_98 : decode cX11_claimOf 98 = .ok (.iconst 0, 1) := dget daX11_claimOf_0 35 (q := (98, .iconst 0, 1)) rfl
theorem dX11_claimOf_99 : decode cX11_claimOf 99 = .ok (.aload_n 3, 1) := dget daX11_claimOf_0 36 (q := (99, .aload_n 3, 1)) rfl
theorem dX11_claimOf_100 : decode cX11_claimOf 100 = .ok (.getfield 282, 3) := dget daX11_claimOf_0 37 (q := (100, .getfield 282, 3)) rfl
theorem dX11_claimOf_103 : decode cX11_claimOf 103 = .ok (.aload_n 0, 1) := dget daX11_claimOf_0 38 (q := (103, .aload_n 0, 1)) rfl
theorem dX11_claimOf_104 : decode cX11_claimOf 104 = .ok (.aload_n 3, 1) := dget daX11_claimOf_0 39 (q := (104, .aload_n 3, 1)) rfl
def tdaX11_claimOf_1 : List (Nat × (Instr × Nat)) := [(105, .invokevirtual 278, 3), (108, .isub, 1), (109, .invokestatic 180, 3), (112, .ireturn, 1), (113, .aload_n 0, 1), (114, .bipush (-2), 2), (116, .invokevirtual 77, 3), (119, .ireturn, 1)]
theorem daX11_claimOf_1 : tdaX11_claimOf_1.all (fun q => decide (decode cX11_claimOf q.1 = .ok q.2)) = true := by decide +kernel
theorem dX11_claimOf_105 : decode cX11_claimOf 105 = .ok (.invokevirtual 278, 3) := dget daX11_claimOf_1 0 (q := (105, .invokevirtual 278, 3)) rfl
theorem dX11_claimOf_108 : decode cX11_claimOf 108 = .ok (.isub, 1) := dget daX11_claimOf_1 1 (q := (108, .isub, 1)) rfl
theorem dX11_claimOf_109 : decode cX11_claimOf 109 = .ok (.invokestatic 180, 3) := dget daX11_claimOf_1 2 (q := (109, .invokestatic 180, 3)) rfl
theorem dX11_claimOf_112 : decode cX11_claimOf 112 = .ok (.ireturn, 1) := dget daX11_claimOf_1 3 (q := (112, .ireturn, 1)) rfl
theorem dX11_claimOf_113 : decode cX11_claimOf 113 = .ok (.aload_n 0, 1) := dget daX11_claimOf_1 4 (q := (113, .aload_n 0, 1)) rfl
theorem dX11_claimOf_114 : decode cX11_claimOf 114 = .ok (.bipush (-2), 2) := dget daX11_claimOf_1 5 (q := (114, .bipush (-2), 2)) rfl
theorem dX11_claimOf_116 : decode cX11_claimOf 116 = .ok (.invokevirtual 77, 3) := dget daX11_claimOf_1 6 (q := (116, .invokevirtual 77, 3)) rfl
theorem dX11_claimOf_119 : decode cX11_claimOf 119 = .ok (.ireturn, 1) := dget daX11_claimOf_1 7 (q := (119, .ireturn, 1)) rfl
def tdaX11_owes_0 : List (Nat × (Instr × Nat)) := [(0, .aload_n 0, 1), (1, .getfield 26, 3), (4, .iload_n 2, 1), (5, .invokevirtual 192, 3), (8, .astore 4, 2), (10, .iconst 5, 1), (11, .iload_n 1, 1), (12, .invokestatic 85, 3), (15, .ifCond .eq 8, 3), (18, .aload 4, 2), (20, .ifnonnull 9, 3), (23, .aload_n 0, 1), (24, .iconst (-1), 1), (25, .invokevirtual 77, 3), (28, .ireturn, 1), (29, .iload_n 3, 1), (30, .ifCond .ge 10, 3), (33, .aload_n 0, 1), (34, .bipush (-4), 2), (36, .invokevirtual 77, 3), (39, .ireturn, 1), (40, .iload_n 3, 1), (41, .sipush 9999, 3), (44, .if_icmp .le 10, 3), (47, .aload_n 0, 1), (48, .bipush (-6), 2), (50, .invokevirtual 77, 3), (53, .ireturn, 1), (54, .aload 4, 2), (56, .getfield 285, 3), (59, .iload_n 1, 1), (60, .iaload, 1), (61, .istore 5, 2), (63, .aload 4, 2), (65, .getfield 285, 3), (68, .iload_n 1, 1), (69, .iload_n 3, 1), (70, .iastore, 1), (71, .iload 5, 2), (73, .ireturn, 1)]
theorem daX11_owes_0 : tdaX11_owes_0.all (fun q => decide (decode cX11_owes q.1 = .ok q.2)) = true := by decide +kernel
theorem dX11_owes_0 : decode cX11_owes 0 = .ok (.aload_n 0, 1) := dget daX11_owes_0 0 (q := (0, .aload_n 0, 1)) rfl
theorem dX11_owes_1 : decode cX11_owes 1 = .ok (.getfield 26, 3) := dget daX11_owes_0 1 (q := (1, .getfield 26, 3)) rfl
theorem dX11_owes_4 : decode cX11_owes 4 = .ok (.iload_n 2, 1) := dget daX11_owes_0 2 (q := (4, .iload_n 2, 1)) rfl
theorem dX11_owes_5 : decode cX11_owes 5 = .ok (.invokevirtual 192, 3) := dget daX11_owes_0 3 (q := (5, .invokevirtual 192, 3)) rfl
theorem dX11_owes_8 : decode cX11_owes 8 = .ok (.astore 4, 2) := dget daX11_owes_0 4 (q := (8, .astore 4, 2)) rfl
theorem dX11_owes_10 : decode cX11_owes 10 = .ok (.iconst 5, 1) := dget daX11_owes_0 5 (q := (10, .iconst 5, 1)) rfl
theorem dX11_owes_11 : decode cX11_owes 11 = .ok (.iload_n 1, 1) := dget daX11_owes_0 6 (q := (11, .iload_n 1, 1)) rfl
theorem dX11_owes_12 : decode cX11_owes 12 = .ok (.invokestatic 85, 3) := dget daX11_owes_0 7 (q := (12, .invokestatic 85, 3)) rfl
theorem dX11_owes_15 : decode cX11_owes 15 = .ok (.ifCond .eq 8, 3) := dget daX11_owes_0 8 (q := (15, .ifCond .eq 8, 3)) rfl
theorem dX11_owes_18 : decode cX11_owes 18 = .ok (.aload 4, 2) := dget daX11_owes_0 9 (q := (18, .aload 4, 2)) rfl
theorem dX11_owes_20 : decode cX11_owes 20 = .ok (.ifnonnull 9, 3) := dget daX11_owes_0 10 (q := (20, .ifnonnull 9, 3)) rfl
theorem dX11_owes_23 : decode cX11_owes 23 = .ok (.aload_n 0, 1) := dget daX11_owes_0 11 (q := (23, .aload_n 0, 1)) rfl
theorem dX11_owes_24 : decode cX11_owes 24 = .ok (.iconst (-1), 1) := dget daX11_owes_0 12 (q := (24, .iconst (-1), 1)) rfl
theorem dX11_owes_25 : decode cX11_owes 25 = .ok (.invokevirtual 77, 3) := dget daX11_owes_0 13 (q := (25, .invokevirtual 77, 3)) rfl
theorem dX11_owes_28 : decode cX11_owes 28 = .ok (.ireturn, 1) := dget daX11_owes_0 14 (q := (28, .ireturn, 1)) rfl
theorem dX11_owes_29 : decode cX11_owes 29 = .ok (.iload_n 3, 1) := dget daX11_owes_0 15 (q := (29, .iload_n 3, 1)) rfl
theorem dX11_owes_30 : decode cX11_owes 30 = .ok (.ifCond .ge 10, 3) := dget daX11_owes_0 16 (q := (30, .ifCond .ge 10, 3)) rfl
theorem dX11_owes_33 : decode cX11_owes 33 = .ok (.aload_n 0, 1) := dget daX11_owes_0 17 (q := (33, .aload_n 0, 1)) rfl
theorem dX11_owes_34 : decode cX11_owes 34 = .ok (.bipush (-4), 2) := dget daX11_owes_0 18 (q := (34, .bipush (-4), 2)) rfl
theorem dX11_owes_36 : decode cX11_owes 36 = .ok (.invokevirtual 77, 3) := dget daX11_owes_0 19 (q := (36, .invokevirtual 77, 3)) rfl
theorem dX11_owes_39 : decode cX11_owes 39 = .ok (.ireturn, 1) := dget daX11_owes_0 20 (q := (39, .ireturn, 1)) rfl
theorem dX11_owes_40 : decode cX11_owes 40 = .ok (.iload_n 3, 1) := dget daX11_owes_0 21 (q := (40, .iload_n 3, 1)) rfl
theorem dX11_owes_41 : decode cX11_owes 41 = .ok (.sipush 9999, 3) := dget daX11_owes_0 22 (q := (41, .sipush 9999, 3)) rfl
theorem dX11_owes_44 : decode cX11_owes 44 = .ok (.if_icmp .le 10, 3) := dget daX11_owes_0 23 (q := (44, .if_icmp .le 10, 3)) rfl
theorem dX11_owes_47 : decode cX11_owes 47 = .ok (.aload_n 0, 1) := dget daX11_owes_0 24 (q := (47, .aload_n 0, 1)) rfl
theorem dX11_owes_48 : decode cX11_owes 48 = .ok (.bipush (-6), 2) := dget daX11_owes_0 25 (q := (48, .bipush (-6), 2)) rfl
theorem dX11_owes_50 : decode cX11_owes 50 = .ok (.invokevirtual 77, 3) := dget daX11_owes_0 26 (q := (50, .invokevirtual 77, 3)) rfl
theorem dX11_owes_53 : decode cX11_owes 53 = .ok (.ireturn, 1) := dget daX11_owes_0 27 (q := (53, .ireturn, 1)) rfl
theorem dX11_owes_54 : decode cX11_owes 54 = .ok (.aload 4, 2) := dget daX11_owes_0 28 (q := (54, .aload 4, 2)) rfl
theorem dX11_owes_56 : decode cX11_owes 56 = .ok (.getfield 285, 3) := dget daX11_owes_0 29 (q := (56, .getfield 285, 3)) rfl
theorem dX11_owes_59 : decode cX11_owes 59 = .ok (.iload_n 1, 1) := dget daX11_owes_0 30 (q := (59, .iload_n 1, 1)) rfl
theorem dX11_owes_60 : decode cX11_owes 60 = .ok (.iaload, 1) := dget daX11_owes_0 31 (q := (60, .iaload, 1)) rfl
theorem dX11_owes_61 : decode cX11_owes 61 = .ok (.istore 5, 2) := dget daX11_owes_0 32 (q := (61, .istore 5, 2)) rfl
theorem dX11_owes_63 : decode cX11_owes 63 = .ok (.aload 4, 2) := dget daX11_owes_0 33 (q := (63, .aload 4, 2)) rfl
theorem dX11_owes_65 : decode cX11_owes 65 = .ok (.getfield 285, 3) := dget daX11_owes_0 34 (q := (65, .getfield 285, 3)) rfl
theorem dX11_owes_68 : decode cX11_owes 68 = .ok (.iload_n 1, 1) := dget daX11_owes_0 35 (q := (68, .iload_n 1, 1)) rfl
theorem dX11_owes_69 : decode cX11_owes 69 = .ok (.iload_n 3, 1) := dget daX11_owes_0 36 (q := (69, .iload_n 3, 1)) rfl
theorem dX11_owes_70 : decode cX11_owes 70 = .ok (.iastore, 1) := dget daX11_owes_0 37 (q := (70, .iastore, 1)) rfl
theorem dX11_owes_71 : decode cX11_owes 71 = .ok (.iload 5, 2) := dget daX11_owes_0 38 (q := (71, .iload 5, 2)) rfl
theorem dX11_owes_73 : decode cX11_owes 73 = .ok (.ireturn, 1) := dget daX11_owes_0 39 (q := (73, .ireturn, 1)) rfl
def tdaX11_pay_0 : List (Nat × (Instr × Nat)) := [(0, .aload_n 0, 1), (1, .getfield 47, 3), (4, .iload_n 1, 1), (5, .invokevirtual 261, 3), (8, .astore 4, 2), (10, .aload 4, 2), (12, .ifnull 11, 3), (15, .iconst 5, 1), (16, .iload_n 2, 1), (17, .invokestatic 85, 3), (20, .ifCond .ne 9, 3), (23, .aload_n 0, 1), (24, .iconst (-1), 1), (25, .invokevirtual 77, 3), (28, .ireturn, 1), (29, .iload_n 3, 1), (30, .iconst 1, 1), (31, .if_icmp .ge 10, 3), (34, .aload_n 0, 1), (35, .bipush (-4), 2), (37, .invokevirtual 77, 3), (40, .ireturn, 1), (41, .iload_n 3, 1), (42, .sipush 9999, 3), (45, .if_icmp .gt 16, 3), (48, .aload 4, 2), (50, .getfield 282, 3), (53, .iload_n 3, 1), (54, .iadd, 1), (55, .ldc_w 288, 3), (58, .if_icmp .le 10, 3), (61, .aload_n 0, 1), (62, .bipush (-6), 2), (64, .invokevirtual 77, 3), (67, .ireturn, 1), (68, .aload 4, 2), (70, .getfield 289, 3), (73, .iload_n 2, 1), (74, .dup2, 1), (75, .iaload, 1)]
theorem daX11_pay_0 : tdaX11_pay_0.all (fun q => decide (decode cX11_pay q.1 = .ok q.2)) = true := by decide +kernel
theorem dX11_pay_0 : decode cX11_pay 0 = .ok (.aload_n 0, 1) := dget daX11_pay_0 0 (q := (0, .aload_n 0, 1)) rfl
theorem dX11_pay_1 : decode cX11_pay 1 = .ok (.getfield 47, 3) := dget daX11_pay_0 1 (q := (1, .getfield 47, 3)) rfl
theorem dX11_pay_4 : decode cX11_pay 4 = .ok (.iload_n 1, 1) := dget daX11_pay_0 2 (q := (4, .iload_n 1, 1)) rfl
theorem dX11_pay_5 : decode cX11_pay 5 = .ok (.invokevirtual 261, 3) := dget daX11_pay_0 3 (q := (5, .invokevirtual 261, 3)) rfl
theorem dX11_pay_8 : decode cX11_pay 8 = .ok (.astore 4, 2) := dget daX11_pay_0 4 (q := (8, .astore 4, 2)) rfl
theorem dX11_pay_10 : decode cX11_pay 10 = .ok (.aload 4, 2) := dget daX11_pay_0 5 (q := (10, .aload 4, 2)) rfl
theorem dX11_pay_12 : decode cX11_pay 12 = .ok (.ifnull 11, 3) := dget daX11_pay_0 6 (q := (12, .ifnull 11, 3)) rfl
theorem dX11_pay_15 : decode cX11_pay 15 = .ok (.iconst 5, 1) := dget daX11_pay_0 7 (q := (15, .iconst 5, 1)) rfl
theorem dX11_pay_16 : decode cX11_pay 16 = .ok (.iload_n 2, 1) := dget daX11_pay_0 8 (q := (16, .iload_n 2, 1)) rfl
theorem dX11_pay_17 : decode cX11_pay 17 = .ok (.invokestatic 85, 3) := dget daX11_pay_0 9 (q := (17, .invokestatic 85, 3)) rfl
theorem dX11_pay_20 : decode cX11_pay 20 = .ok (.ifCond .ne 9, 3) := dget daX11_pay_0 10 (q := (20, .ifCond .ne 9, 3)) rfl
theorem dX11_pay_23 : decode cX11_pay 23 = .ok (.aload_n 0, 1) := dget daX11_pay_0 11 (q := (23, .aload_n 0, 1)) rfl
theorem dX11_pay_24 : decode cX11_pay 24 = .ok (.iconst (-1), 1) := dget daX11_pay_0 12 (q := (24, .iconst (-1), 1)) rfl
theorem dX11_pay_25 : decode cX11_pay 25 = .ok (.invokevirtual 77, 3) := dget daX11_pay_0 13 (q := (25, .invokevirtual 77, 3)) rfl
theorem dX11_pay_28 : decode cX11_pay 28 = .ok (.ireturn, 1) := dget daX11_pay_0 14 (q := (28, .ireturn, 1)) rfl
theorem dX11_pay_29 : decode cX11_pay 29 = .ok (.iload_n 3, 1) := dget daX11_pay_0 15 (q := (29, .iload_n 3, 1)) rfl
theorem dX11_pay_30 : decode cX11_pay 30 = .ok (.iconst 1, 1) := dget daX11_pay_0 16 (q := (30, .iconst 1, 1)) rfl
theorem dX11_pay_31 : decode cX11_pay 31 = .ok (.if_icmp .ge 10, 3) := dget daX11_pay_0 17 (q := (31, .if_icmp .ge 10, 3)) rfl
theorem dX11_pay_34 : decode cX11_pay 34 = .ok (.aload_n 0, 1) := dget daX11_pay_0 18 (q := (34, .aload_n 0, 1)) rfl
theorem dX11_pay_35 : decode cX11_pay 35 = .ok (.bipush (-4), 2) := dget daX11_pay_0 19 (q := (35, .bipush (-4), 2)) rfl
theorem dX11_pay_37 : decode cX11_pay 37 = .ok (.invokevirtual 77, 3) := dget daX11_pay_0 20 (q := (37, .invokevirtual 77, 3)) rfl
theorem dX11_pay_40 : decode cX11_pay 40 = .ok (.ireturn, 1) := dget daX11_pay_0 21 (q := (40, .ireturn, 1)) rfl
theorem dX11_pay_41 : decode cX11_pay 41 = .ok (.iload_n 3, 1) := dget daX11_pay_0 22 (q := (41, .iload_n 3, 1)) rfl
theorem dX11_pay_42 : decode cX11_pay 42 = .ok (.sipush 9999, 3) := dget daX11_pay_0 23 (q := (42, .sipush 9999, 3)) rfl
theorem dX11_pay_45 : decode cX11_pay 45 = .ok (.if_icmp .gt 16, 3) := dget daX11_pay_0 24 (q := (45, .if_icmp .gt 16, 3)) rfl
theorem dX11_pay_48 : decode cX11_pay 48 = .ok (.aload 4, 2) := dget daX11_pay_0 25 (q := (48, .aload 4, 2)) rfl
theorem dX11_pay_50 : decode cX11_pay 50 = .ok (.getfield 282, 3) := dget daX11_pay_0 26 (q := (50, .getfield 282, 3)) rfl
theorem dX11_pay_53 : decode cX11_pay 53 = .ok (.iload_n 3, 1) := dget daX11_pay_0 27 (q := (53, .iload_n 3, 1)) rfl
theorem dX11_pay_54 : decode cX11_pay 54 = .ok (.iadd, 1) := dget daX11_pay_0 28 (q := (54, .iadd, 1)) rfl
theorem dX11_pay_55 : decode cX11_pay 55 = .ok (.ldc_w 288, 3) := dget daX11_pay_0 29 (q := (55, .ldc_w 288, 3)) rfl
theorem dX11_pay_58 : decode cX11_pay 58 = .ok (.if_icmp .le 10, 3) := dget daX11_pay_0 30 (q := (58, .if_icmp .le 10, 3)) rfl
theorem dX11_pay_61 : decode cX11_pay 61 = .ok (.aload_n 0, 1) := dget daX11_pay_0 31 (q := (61, .aload_n 0, 1)) rfl
theorem dX11_pay_62 : decode cX11_pay 62 = .ok (.bipush (-6), 2) := dget daX11_pay_0 32 (q := (62, .bipush (-6), 2)) rfl
theorem dX11_pay_64 : decode cX11_pay 64 = .ok (.invokevirtual 77, 3) := dget daX11_pay_0 33 (q := (64, .invokevirtual 77, 3)) rfl
theorem dX11_pay_67 : decode cX11_pay 67 = .ok (.ireturn, 1) := dget daX11_pay_0 34 (q := (67, .ireturn, 1)) rfl
theorem dX11_pay_68 : decode cX11_pay 68 = .ok (.aload 4, 2) := dget daX11_pay_0 35 (q := (68, .aload 4, 2)) rfl
theorem dX11_pay_70 : decode cX11_pay 70 = .ok (.getfield 289, 3) := dget daX11_pay_0 36 (q := (70, .getfield 289, 3)) rfl
theorem dX11_pay_73 : decode cX11_pay 73 = .ok (.iload_n 2, 1) := dget daX11_pay_0 37 (q := (73, .iload_n 2, 1)) rfl
theorem dX11_pay_74 : decode cX11_pay 74 = .ok (.dup2, 1) := dget daX11_pay_0 38 (q := (74, .dup2, 1)) rfl
theorem dX11_pay_75 : decode cX11_pay 75 = .ok (.iaload, 1) := dget daX11_pay_0 39 (q := (75, .iaload, 1)) rfl
def tdaX11_pay_1 : List (Nat × (Instr × Nat)) := [(76, .iload_n 3, 1), (77, .iadd, 1), (78, .iastore, 1), (79, .aload 4, 2), (81, .dup, 1), (82, .getfield 282, 3), (85, .iload_n 3, 1), (86, .iadd, 1), (87, .putfield 282, 3), (90, .aload 4, 2), (92, .getfield 282, 3), (95, .ireturn, 1)]
theorem daX11_pay_1 : tdaX11_pay_1.all (fun q => decide (decode cX11_pay q.1 = .ok q.2)) = true := by decide +kernel
theorem dX11_pay_76 : decode cX11_pay 76 = .ok (.iload_n 3, 1) := dget daX11_pay_1 0 (q := (76, .iload_n 3, 1)) rfl
theorem dX11_pay_77 : decode cX11_pay 77 = .ok (.iadd, 1) := dget daX11_pay_1 1 (q := (77, .iadd, 1)) rfl
theorem dX11_pay_78 : decode cX11_pay 78 = .ok (.iastore, 1) := dget daX11_pay_1 2 (q := (78, .iastore, 1)) rfl
theorem dX11_pay_79 : decode cX11_pay 79 = .ok (.aload 4, 2) := dget daX11_pay_1 3 (q := (79, .aload 4, 2)) rfl
theorem dX11_pay_81 : decode cX11_pay 81 = .ok (.dup, 1) := dget daX11_pay_1 4 (q := (81, .dup, 1)) rfl
theorem dX11_pay_82 : decode cX11_pay 82 = .ok (.getfield 282, 3) := dget daX11_pay_1 5 (q := (82, .getfield 282, 3)) rfl
theorem dX11_pay_85 : decode cX11_pay 85 = .ok (.iload_n 3, 1) := dget daX11_pay_1 6 (q := (85, .iload_n 3, 1)) rfl
theorem dX11_pay_86 : decode cX11_pay 86 = .ok (.iadd, 1) := dget daX11_pay_1 7 (q := (86, .iadd, 1)) rfl
theorem dX11_pay_87 : decode cX11_pay 87 = .ok (.putfield 282, 3) := dget daX11_pay_1 8 (q := (87, .putfield 282, 3)) rfl
theorem dX11_pay_90 : decode cX11_pay 90 = .ok (.aload 4, 2) := dget daX11_pay_1 9 (q := (90, .aload 4, 2)) rfl
theorem dX11_pay_92 : decode cX11_pay 92 = .ok (.getfield 282, 3) := dget daX11_pay_1 10 (q := (92, .getfield 282, 3)) rfl
theorem dX11_pay_95 : decode cX11_pay 95 = .ok (.ireturn, 1) := dget daX11_pay_1 11 (q := (95, .ireturn, 1)) rfl
def tdaX11_due_0 : List (Nat × (Instr × Nat)) := [(0, .aload_n 0, 1), (1, .getfield 47, 3), (4, .iload_n 1, 1), (5, .invokevirtual 261, 3), (8, .astore_n 3, 1), (9, .aload_n 3, 1), (10, .ifnull 11, 3), (13, .iconst 5, 1), (14, .iload_n 2, 1), (15, .invokestatic 85, 3), (18, .ifCond .ne 9, 3), (21, .aload_n 0, 1), (22, .iconst (-1), 1), (23, .invokevirtual 77, 3), (26, .ireturn, 1), (27, .aload_n 3, 1), (28, .iload_n 2, 1), (29, .aload_n 0, 1), (30, .aload_n 3, 1), (31, .invokevirtual 278, 3), (34, .invokevirtual 292, 3), (37, .ireturn, 1)]
theorem daX11_due_0 : tdaX11_due_0.all (fun q => decide (decode cX11_due q.1 = .ok q.2)) = true := by decide +kernel
theorem dX11_due_0 : decode cX11_due 0 = .ok (.aload_n 0, 1) := dget daX11_due_0 0 (q := (0, .aload_n 0, 1)) rfl
theorem dX11_due_1 : decode cX11_due 1 = .ok (.getfield 47, 3) := dget daX11_due_0 1 (q := (1, .getfield 47, 3)) rfl
theorem dX11_due_4 : decode cX11_due 4 = .ok (.iload_n 1, 1) := dget daX11_due_0 2 (q := (4, .iload_n 1, 1)) rfl
theorem dX11_due_5 : decode cX11_due 5 = .ok (.invokevirtual 261, 3) := dget daX11_due_0 3 (q := (5, .invokevirtual 261, 3)) rfl
theorem dX11_due_8 : decode cX11_due 8 = .ok (.astore_n 3, 1) := dget daX11_due_0 4 (q := (8, .astore_n 3, 1)) rfl
theorem dX11_due_9 : decode cX11_due 9 = .ok (.aload_n 3, 1) := dget daX11_due_0 5 (q := (9, .aload_n 3, 1)) rfl
theorem dX11_due_10 : decode cX11_due 10 = .ok (.ifnull 11, 3) := dget daX11_due_0 6 (q := (10, .ifnull 11, 3)) rfl
theorem dX11_due_13 : decode cX11_due 13 = .ok (.iconst 5, 1) := dget daX11_due_0 7 (q := (13, .iconst 5, 1)) rfl
theorem dX11_due_14 : decode cX11_due 14 = .ok (.iload_n 2, 1) := dget daX11_due_0 8 (q := (14, .iload_n 2, 1)) rfl
theorem dX11_due_15 : decode cX11_due 15 = .ok (.invokestatic 85, 3) := dget daX11_due_0 9 (q := (15, .invokestatic 85, 3)) rfl
theorem dX11_due_18 : decode cX11_due 18 = .ok (.ifCond .ne 9, 3) := dget daX11_due_0 10 (q := (18, .ifCond .ne 9, 3)) rfl
theorem dX11_due_21 : decode cX11_due 21 = .ok (.aload_n 0, 1) := dget daX11_due_0 11 (q := (21, .aload_n 0, 1)) rfl
theorem dX11_due_22 : decode cX11_due 22 = .ok (.iconst (-1), 1) := dget daX11_due_0 12 (q := (22, .iconst (-1), 1)) rfl
theorem dX11_due_23 : decode cX11_due 23 = .ok (.invokevirtual 77, 3) := dget daX11_due_0 13 (q := (23, .invokevirtual 77, 3)) rfl
theorem dX11_due_26 : decode cX11_due 26 = .ok (.ireturn, 1) := dget daX11_due_0 14 (q := (26, .ireturn, 1)) rfl
theorem dX11_due_27 : decode cX11_due 27 = .ok (.aload_n 3, 1) := dget daX11_due_0 15 (q := (27, .aload_n 3, 1)) rfl
theorem dX11_due_28 : decode cX11_due 28 = .ok (.iload_n 2, 1) := dget daX11_due_0 16 (q := (28, .iload_n 2, 1)) rfl
theorem dX11_due_29 : decode cX11_due 29 = .ok (.aload_n 0, 1) := dget daX11_due_0 17 (q := (29, .aload_n 0, 1)) rfl
theorem dX11_due_30 : decode cX11_due 30 = .ok (.aload_n 3, 1) := dget daX11_due_0 18 (q := (30, .aload_n 3, 1)) rfl
theorem dX11_due_31 : decode cX11_due 31 = .ok (.invokevirtual 278, 3) := dget daX11_due_0 19 (q := (31, .invokevirtual 278, 3)) rfl
theorem dX11_due_34 : decode cX11_due 34 = .ok (.invokevirtual 292, 3) := dget daX11_due_0 20 (q := (34, .invokevirtual 292, 3)) rfl
theorem dX11_due_37 : decode cX11_due 37 = .ok (.ireturn, 1) := dget daX11_due_0 21 (q := (37, .ireturn, 1)) rfl
def tdaX11_balance_0 : List (Nat × (Instr × Nat)) := [(0, .iconst 5, 1), (1, .iload_n 1, 1), (2, .invokestatic 85, 3), (5, .ifCond .ne 9, 3), (8, .aload_n 0, 1), (9, .iconst (-1), 1), (10, .invokevirtual 109, 3), (13, .ireturn, 1), (14, .aload_n 0, 1), (15, .invokevirtual 295, 3), (18, .aload_n 0, 1), (19, .getfield 47, 3), (22, .getfield 298, 3), (25, .iload_n 1, 1), (26, .iaload, 1), (27, .ireturn, 1)]
theorem daX11_balance_0 : tdaX11_balance_0.all (fun q => decide (decode cX11_balance q.1 = .ok q.2)) = true := by decide +kernel
theorem dX11_balance_0 : decode cX11_balance 0 = .ok (.iconst 5, 1) := dget daX11_balance_0 0 (q := (0, .iconst 5, 1)) rfl
theorem dX11_balance_1 : decode cX11_balance 1 = .ok (.iload_n 1, 1) := dget daX11_balance_0 1 (q := (1, .iload_n 1, 1)) rfl
theorem dX11_balance_2 : decode cX11_balance 2 = .ok (.invokestatic 85, 3) := dget daX11_balance_0 2 (q := (2, .invokestatic 85, 3)) rfl
theorem dX11_balance_5 : decode cX11_balance 5 = .ok (.ifCond .ne 9, 3) := dget daX11_balance_0 3 (q := (5, .ifCond .ne 9, 3)) rfl
theorem dX11_balance_8 : decode cX11_balance 8 = .ok (.aload_n 0, 1) := dget daX11_balance_0 4 (q := (8, .aload_n 0, 1)) rfl
theorem dX11_balance_9 : decode cX11_balance 9 = .ok (.iconst (-1), 1) := dget daX11_balance_0 5 (q := (9, .iconst (-1), 1)) rfl
theorem dX11_balance_10 : decode cX11_balance 10 = .ok (.invokevirtual 109, 3) := dget daX11_balance_0 6 (q := (10, .invokevirtual 109, 3)) rfl
theorem dX11_balance_13 : decode cX11_balance 13 = .ok (.ireturn, 1) := dget daX11_balance_0 7 (q := (13, .ireturn, 1)) rfl
theorem dX11_balance_14 : decode cX11_balance 14 = .ok (.aload_n 0, 1) := dget daX11_balance_0 8 (q := (14, .aload_n 0, 1)) rfl
theorem dX11_balance_15 : decode cX11_balance 15 = .ok (.invokevirtual 295, 3) := dget daX11_balance_0 9 (q := (15, .invokevirtual 295, 3)) rfl
theorem dX11_balance_18 : decode cX11_balance 18 = .ok (.aload_n 0, 1) := dget daX11_balance_0 10 (q := (18, .aload_n 0, 1)) rfl
theorem dX11_balance_19 : decode cX11_balance 19 = .ok (.getfield 47, 3) := dget daX11_balance_0 11 (q := (19, .getfield 47, 3)) rfl
theorem dX11_balance_22 : decode cX11_balance 22 = .ok (.getfield 298, 3) := dget daX11_balance_0 12 (q := (22, .getfield 298, 3)) rfl
theorem dX11_balance_25 : decode cX11_balance 25 = .ok (.iload_n 1, 1) := dget daX11_balance_0 13 (q := (25, .iload_n 1, 1)) rfl
theorem dX11_balance_26 : decode cX11_balance 26 = .ok (.iaload, 1) := dget daX11_balance_0 14 (q := (26, .iaload, 1)) rfl
theorem dX11_balance_27 : decode cX11_balance 27 = .ok (.ireturn, 1) := dget daX11_balance_0 15 (q := (27, .ireturn, 1)) rfl
def tdaX11_back_0 : List (Nat × (Instr × Nat)) := [(0, .aload_n 0, 1), (1, .invokevirtual 295, 3), (4, .aload_n 0, 1), (5, .getfield 47, 3), (8, .invokevirtual 301, 3), (11, .ireturn, 1)]
theorem daX11_back_0 : tdaX11_back_0.all (fun q => decide (decode cX11_back q.1 = .ok q.2)) = true := by decide +kernel
theorem dX11_back_0 : decode cX11_back 0 = .ok (.aload_n 0, 1) := dget daX11_back_0 0 (q := (0, .aload_n 0, 1)) rfl
theorem dX11_back_1 : decode cX11_back 1 = .ok (.invokevirtual 295, 3) := dget daX11_back_0 1 (q := (1, .invokevirtual 295, 3)) rfl
theorem dX11_back_4 : decode cX11_back 4 = .ok (.aload_n 0, 1) := dget daX11_back_0 2 (q := (4, .aload_n 0, 1)) rfl
theorem dX11_back_5 : decode cX11_back 5 = .ok (.getfield 47, 3) := dget daX11_back_0 3 (q := (5, .getfield 47, 3)) rfl
theorem dX11_back_8 : decode cX11_back 8 = .ok (.invokevirtual 301, 3) := dget daX11_back_0 4 (q := (8, .invokevirtual 301, 3)) rfl
theorem dX11_back_11 : decode cX11_back 11 = .ok (.ireturn, 1) := dget daX11_back_0 5 (q := (11, .ireturn, 1)) rfl
def tdaX11_judged_0 : List (Nat × (Instr × Nat)) := [(0, .iconst 4, 1), (1, .iload_n 1, 1), (2, .invokestatic 85, 3), (5, .ifCond .eq 12, 3), (8, .bipush 6, 2), (10, .iload_n 2, 1), (11, .invokestatic 85, 3), (14, .ifCond .ne 9, 3), (17, .aload_n 0, 1), (18, .iconst (-1), 1), (19, .invokevirtual 77, 3), (22, .ireturn, 1), (23, .iload_n 3, 1), (24, .ifCond .lt 13, 3), (27, .iload 4, 2), (29, .ifCond .lt 8, 3), (32, .iload 6, 2), (34, .ifCond .ge 10, 3), (37, .aload_n 0, 1), (38, .bipush (-4), 2), (40, .invokevirtual 77, 3), (43, .ireturn, 1), (44, .iload_n 3, 1), (45, .sipush 9999, 3), (48, .if_icmp .gt 29, 3), (51, .iload 4, 2), (53, .sipush 9999, 3), (56, .if_icmp .gt 21, 3), (59, .iload 6, 2), (61, .sipush 9999, 3), (64, .if_icmp .gt 13, 3), (67, .aload_n 0, 1), (68, .getfield 54, 3), (71, .invokevirtual 304, 3), (74, .ifCond .eq 10, 3), (77, .aload_n 0, 1), (78, .bipush (-6), 2), (80, .invokevirtual 77, 3), (83, .ireturn, 1), (84, .aload_n 0, 1)]
theorem daX11_judged_0 : tdaX11_judged_0.all (fun q => decide (decode cX11_judged q.1 = .ok q.2)) = true := by decide +kernel
theorem dX11_judged_0 : decode cX11_judged 0 = .ok (.iconst 4, 1) := dget daX11_judged_0 0 (q := (0, .iconst 4, 1)) rfl
theorem dX11_judged_1 : decode cX11_judged 1 = .ok (.iload_n 1, 1) := dget daX11_judged_0 1 (q := (1, .iload_n 1, 1)) rfl
theorem dX11_judged_2 : decode cX11_judged 2 = .ok (.invokestatic 85, 3) := dget daX11_judged_0 2 (q := (2, .invokestatic 85, 3)) rfl
theorem dX11_judged_5 : decode cX11_judged 5 = .ok (.ifCond .eq 12, 3) := dget daX11_judged_0 3 (q := (5, .ifCond .eq 12, 3)) rfl
theorem dX11_judged_8 : decode cX11_judged 8 = .ok (.bipush 6, 2) := dget daX11_judged_0 4 (q := (8, .bipush 6, 2)) rfl
theorem dX11_judged_10 : decode cX11_judged 10 = .ok (.iload_n 2, 1) := dget daX11_judged_0 5 (q := (10, .iload_n 2, 1)) rfl
theorem dX11_judged_11 : decode cX11_judged 11 = .ok (.invokestatic 85, 3) := dget daX11_judged_0 6 (q := (11, .invokestatic 85, 3)) rfl
theorem dX11_judged_14 : decode cX11_judged 14 = .ok (.ifCond .ne 9, 3) := dget daX11_judged_0 7 (q := (14, .ifCond .ne 9, 3)) rfl
theorem dX11_judged_17 : decode cX11_judged 17 = .ok (.aload_n 0, 1) := dget daX11_judged_0 8 (q := (17, .aload_n 0, 1)) rfl
theorem dX11_judged_18 : decode cX11_judged 18 = .ok (.iconst (-1), 1) := dget daX11_judged_0 9 (q := (18, .iconst (-1), 1)) rfl
theorem dX11_judged_19 : decode cX11_judged 19 = .ok (.invokevirtual 77, 3) := dget daX11_judged_0 10 (q := (19, .invokevirtual 77, 3)) rfl
theorem dX11_judged_22 : decode cX11_judged 22 = .ok (.ireturn, 1) := dget daX11_judged_0 11 (q := (22, .ireturn, 1)) rfl
theorem dX11_judged_23 : decode cX11_judged 23 = .ok (.iload_n 3, 1) := dget daX11_judged_0 12 (q := (23, .iload_n 3, 1)) rfl
theorem dX11_judged_24 : decode cX11_judged 24 = .ok (.ifCond .lt 13, 3) := dget daX11_judged_0 13 (q := (24, .ifCond .lt 13, 3)) rfl
theorem dX11_judged_27 : decode cX11_judged 27 = .ok (.iload 4, 2) := dget daX11_judged_0 14 (q := (27, .iload 4, 2)) rfl
theorem dX11_judged_29 : decode cX11_judged 29 = .ok (.ifCond .lt 8, 3) := dget daX11_judged_0 15 (q := (29, .ifCond .lt 8, 3)) rfl
theorem dX11_judged_32 : decode cX11_judged 32 = .ok (.iload 6, 2) := dget daX11_judged_0 16 (q := (32, .iload 6, 2)) rfl
theorem dX11_judged_34 : decode cX11_judged 34 = .ok (.ifCond .ge 10, 3) := dget daX11_judged_0 17 (q := (34, .ifCond .ge 10, 3)) rfl
theorem dX11_judged_37 : decode cX11_judged 37 = .ok (.aload_n 0, 1) := dget daX11_judged_0 18 (q := (37, .aload_n 0, 1)) rfl
theorem dX11_judged_38 : decode cX11_judged 38 = .ok (.bipush (-4), 2) := dget daX11_judged_0 19 (q := (38, .bipush (-4), 2)) rfl
theorem dX11_judged_40 : decode cX11_judged 40 = .ok (.invokevirtual 77, 3) := dget daX11_judged_0 20 (q := (40, .invokevirtual 77, 3)) rfl
theorem dX11_judged_43 : decode cX11_judged 43 = .ok (.ireturn, 1) := dget daX11_judged_0 21 (q := (43, .ireturn, 1)) rfl
theorem dX11_judged_44 : decode cX11_judged 44 = .ok (.iload_n 3, 1) := dget daX11_judged_0 22 (q := (44, .iload_n 3, 1)) rfl
theorem dX11_judged_45 : decode cX11_judged 45 = .ok (.sipush 9999, 3) := dget daX11_judged_0 23 (q := (45, .sipush 9999, 3)) rfl
theorem dX11_judged_48 : decode cX11_judged 48 = .ok (.if_icmp .gt 29, 3) := dget daX11_judged_0 24 (q := (48, .if_icmp .gt 29, 3)) rfl
theorem dX11_judged_51 : decode cX11_judged 51 = .ok (.iload 4, 2) := dget daX11_judged_0 25 (q := (51, .iload 4, 2)) rfl
theorem dX11_judged_53 : decode cX11_judged 53 = .ok (.sipush 9999, 3) := dget daX11_judged_0 26 (q := (53, .sipush 9999, 3)) rfl
theorem dX11_judged_56 : decode cX11_judged 56 = .ok (.if_icmp .gt 21, 3) := dget daX11_judged_0 27 (q := (56, .if_icmp .gt 21, 3)) rfl
theorem dX11_judged_59 : decode cX11_judged 59 = .ok (.iload 6, 2) := dget daX11_judged_0 28 (q := (59, .iload 6, 2)) rfl
theorem dX11_judged_61 : decode cX11_judged 61 = .ok (.sipush 9999, 3) := dget daX11_judged_0 29 (q := (61, .sipush 9999, 3)) rfl
theorem dX11_judged_64 : decode cX11_judged 64 = .ok (.if_icmp .gt 13, 3) := dget daX11_judged_0 30 (q := (64, .if_icmp .gt 13, 3)) rfl
theorem dX11_judged_67 : decode cX11_judged 67 = .ok (.aload_n 0, 1) := dget daX11_judged_0 31 (q := (67, .aload_n 0, 1)) rfl
theorem dX11_judged_68 : decode cX11_judged 68 = .ok (.getfield 54, 3) := dget daX11_judged_0 32 (q := (68, .getfield 54, 3)) rfl
theorem dX11_judged_71 : decode cX11_judged 71 = .ok (.invokevirtual 304, 3) := dget daX11_judged_0 33 (q := (71, .invokevirtual 304, 3)) rfl
theorem dX11_judged_74 : decode cX11_judged 74 = .ok (.ifCond .eq 10, 3) := dget daX11_judged_0 34 (q := (74, .ifCond .eq 10, 3)) rfl
theorem dX11_judged_77 : decode cX11_judged 77 = .ok (.aload_n 0, 1) := dget daX11_judged_0 35 (q := (77, .aload_n 0, 1)) rfl
theorem dX11_judged_78 : decode cX11_judged 78 = .ok (.bipush (-6), 2) := dget daX11_judged_0 36 (q := (78, .bipush (-6), 2)) rfl
theorem dX11_judged_80 : decode cX11_judged 80 = .ok (.invokevirtual 77, 3) := dget daX11_judged_0 37 (q := (80, .invokevirtual 77, 3)) rfl
theorem dX11_judged_83 : decode cX11_judged 83 = .ok (.ireturn, 1) := dget daX11_judged_0 38 (q := (83, .ireturn, 1)) rfl
theorem dX11_judged_84 : decode cX11_judged 84 = .ok (.aload_n 0, 1) := dget daX11_judged_0 39 (q := (84, .aload_n 0, 1)) rfl
def tdaX11_judged_1 : List (Nat × (Instr × Nat)) := [(85, .getfield 54, 3), (88, .iload_n 1, 1), (89, .iload_n 2, 1), (90, .iload_n 3, 1), (91, .iload 4, 2), (93, .iload 5, 2), (95, .iload 6, 2), (97, .invokevirtual 305, 3), (100, .ireturn, 1)]
theorem daX11_judged_1 : tdaX11_judged_1.all (fun q => decide (decode cX11_judged q.1 = .ok q.2)) = true := by decide +kernel
theorem dX11_judged_85 : decode cX11_judged 85 = .ok (.getfield 54, 3) := dget daX11_judged_1 0 (q := (85, .getfield 54, 3)) rfl
theorem dX11_judged_88 : decode cX11_judged 88 = .ok (.iload_n 1, 1) := dget daX11_judged_1 1 (q := (88, .iload_n 1, 1)) rfl
theorem dX11_judged_89 : decode cX11_judged 89 = .ok (.iload_n 2, 1) := dget daX11_judged_1 2 (q := (89, .iload_n 2, 1)) rfl
theorem dX11_judged_90 : decode cX11_judged 90 = .ok (.iload_n 3, 1) := dget daX11_judged_1 3 (q := (90, .iload_n 3, 1)) rfl
theorem dX11_judged_91 : decode cX11_judged 91 = .ok (.iload 4, 2) := dget daX11_judged_1 4 (q := (91, .iload 4, 2)) rfl
theorem dX11_judged_93 : decode cX11_judged 93 = .ok (.iload 5, 2) := dget daX11_judged_1 5 (q := (93, .iload 5, 2)) rfl
theorem dX11_judged_95 : decode cX11_judged 95 = .ok (.iload 6, 2) := dget daX11_judged_1 6 (q := (95, .iload 6, 2)) rfl
theorem dX11_judged_97 : decode cX11_judged 97 = .ok (.invokevirtual 305, 3) := dget daX11_judged_1 7 (q := (97, .invokevirtual 305, 3)) rfl
theorem dX11_judged_100 : decode cX11_judged 100 = .ok (.ireturn, 1) := dget daX11_judged_1 8 (q := (100, .ireturn, 1)) rfl
def tdaX11_odds_0 : List (Nat × (Instr × Nat)) := [(0, .aload_n 0, 1), (1, .getfield 47, 3), (4, .iload_n 1, 1), (5, .invokevirtual 261, 3), (8, .astore_n 3, 1), (9, .aload_n 3, 1), (10, .ifnonnull 9, 3), (13, .aload_n 0, 1), (14, .iconst (-1), 1), (15, .invokevirtual 109, 3), (18, .ireturn, 1), (19, .iconst 3, 1), (20, .iload_n 2, 1), (21, .invokestatic 85, 3), (24, .ifCond .ne 10, 3), (27, .aload_n 0, 1), (28, .bipush (-2), 2), (30, .invokevirtual 109, 3), (33, .ireturn, 1), (34, .aload_n 0, 1), (35, .aload_n 3, 1), (36, .invokevirtual 308, 3), (39, .iload_n 2, 1), (40, .ifCond .ne 11, 3), (43, .aload_n 0, 1), (44, .getfield 54, 3), (47, .getfield 312, 3), (50, .ireturn, 1), (51, .iload_n 2, 1), (52, .iconst 1, 1), (53, .if_icmp .ne 11, 3), (56, .aload_n 0, 1), (57, .getfield 54, 3), (60, .getfield 315, 3), (63, .ireturn, 1), (64, .aload_n 0, 1), (65, .getfield 54, 3), (68, .aload_n 0, 1), (69, .aload_n 3, 1), (70, .invokevirtual 278, 3)]
theorem daX11_odds_0 : tdaX11_odds_0.all (fun q => decide (decode cX11_odds q.1 = .ok q.2)) = true := by decide +kernel
theorem dX11_odds_0 : decode cX11_odds 0 = .ok (.aload_n 0, 1) := dget daX11_odds_0 0 (q := (0, .aload_n 0, 1)) rfl
theorem dX11_odds_1 : decode cX11_odds 1 = .ok (.getfield 47, 3) := dget daX11_odds_0 1 (q := (1, .getfield 47, 3)) rfl
theorem dX11_odds_4 : decode cX11_odds 4 = .ok (.iload_n 1, 1) := dget daX11_odds_0 2 (q := (4, .iload_n 1, 1)) rfl
theorem dX11_odds_5 : decode cX11_odds 5 = .ok (.invokevirtual 261, 3) := dget daX11_odds_0 3 (q := (5, .invokevirtual 261, 3)) rfl
theorem dX11_odds_8 : decode cX11_odds 8 = .ok (.astore_n 3, 1) := dget daX11_odds_0 4 (q := (8, .astore_n 3, 1)) rfl
theorem dX11_odds_9 : decode cX11_odds 9 = .ok (.aload_n 3, 1) := dget daX11_odds_0 5 (q := (9, .aload_n 3, 1)) rfl
theorem dX11_odds_10 : decode cX11_odds 10 = .ok (.ifnonnull 9, 3) := dget daX11_odds_0 6 (q := (10, .ifnonnull 9, 3)) rfl
theorem dX11_odds_13 : decode cX11_odds 13 = .ok (.aload_n 0, 1) := dget daX11_odds_0 7 (q := (13, .aload_n 0, 1)) rfl
theorem dX11_odds_14 : decode cX11_odds 14 = .ok (.iconst (-1), 1) := dget daX11_odds_0 8 (q := (14, .iconst (-1), 1)) rfl
theorem dX11_odds_15 : decode cX11_odds 15 = .ok (.invokevirtual 109, 3) := dget daX11_odds_0 9 (q := (15, .invokevirtual 109, 3)) rfl
theorem dX11_odds_18 : decode cX11_odds 18 = .ok (.ireturn, 1) := dget daX11_odds_0 10 (q := (18, .ireturn, 1)) rfl
theorem dX11_odds_19 : decode cX11_odds 19 = .ok (.iconst 3, 1) := dget daX11_odds_0 11 (q := (19, .iconst 3, 1)) rfl
theorem dX11_odds_20 : decode cX11_odds 20 = .ok (.iload_n 2, 1) := dget daX11_odds_0 12 (q := (20, .iload_n 2, 1)) rfl
theorem dX11_odds_21 : decode cX11_odds 21 = .ok (.invokestatic 85, 3) := dget daX11_odds_0 13 (q := (21, .invokestatic 85, 3)) rfl
theorem dX11_odds_24 : decode cX11_odds 24 = .ok (.ifCond .ne 10, 3) := dget daX11_odds_0 14 (q := (24, .ifCond .ne 10, 3)) rfl
theorem dX11_odds_27 : decode cX11_odds 27 = .ok (.aload_n 0, 1) := dget daX11_odds_0 15 (q := (27, .aload_n 0, 1)) rfl
theorem dX11_odds_28 : decode cX11_odds 28 = .ok (.bipush (-2), 2) := dget daX11_odds_0 16 (q := (28, .bipush (-2), 2)) rfl
theorem dX11_odds_30 : decode cX11_odds 30 = .ok (.invokevirtual 109, 3) := dget daX11_odds_0 17 (q := (30, .invokevirtual 109, 3)) rfl
theorem dX11_odds_33 : decode cX11_odds 33 = .ok (.ireturn, 1) := dget daX11_odds_0 18 (q := (33, .ireturn, 1)) rfl
theorem dX11_odds_34 : decode cX11_odds 34 = .ok (.aload_n 0, 1) := dget daX11_odds_0 19 (q := (34, .aload_n 0, 1)) rfl
theorem dX11_odds_35 : decode cX11_odds 35 = .ok (.aload_n 3, 1) := dget daX11_odds_0 20 (q := (35, .aload_n 3, 1)) rfl
theorem dX11_odds_36 : decode cX11_odds 36 = .ok (.invokevirtual 308, 3) := dget daX11_odds_0 21 (q := (36, .invokevirtual 308, 3)) rfl
theorem dX11_odds_39 : decode cX11_odds 39 = .ok (.iload_n 2, 1) := dget daX11_odds_0 22 (q := (39, .iload_n 2, 1)) rfl
theorem dX11_odds_40 : decode cX11_odds 40 = .ok (.ifCond .ne 11, 3) := dget daX11_odds_0 23 (q := (40, .ifCond .ne 11, 3)) rfl
theorem dX11_odds_43 : decode cX11_odds 43 = .ok (.aload_n 0, 1) := dget daX11_odds_0 24 (q := (43, .aload_n 0, 1)) rfl
theorem dX11_odds_44 : decode cX11_odds 44 = .ok (.getfield 54, 3) := dget daX11_odds_0 25 (q := (44, .getfield 54, 3)) rfl
theorem dX11_odds_47 : decode cX11_odds 47 = .ok (.getfield 312, 3) := dget daX11_odds_0 26 (q := (47, .getfield 312, 3)) rfl
theorem dX11_odds_50 : decode cX11_odds 50 = .ok (.ireturn, 1) := dget daX11_odds_0 27 (q := (50, .ireturn, 1)) rfl
theorem dX11_odds_51 : decode cX11_odds 51 = .ok (.iload_n 2, 1) := dget daX11_odds_0 28 (q := (51, .iload_n 2, 1)) rfl
theorem dX11_odds_52 : decode cX11_odds 52 = .ok (.iconst 1, 1) := dget daX11_odds_0 29 (q := (52, .iconst 1, 1)) rfl
theorem dX11_odds_53 : decode cX11_odds 53 = .ok (.if_icmp .ne 11, 3) := dget daX11_odds_0 30 (q := (53, .if_icmp .ne 11, 3)) rfl
theorem dX11_odds_56 : decode cX11_odds 56 = .ok (.aload_n 0, 1) := dget daX11_odds_0 31 (q := (56, .aload_n 0, 1)) rfl
theorem dX11_odds_57 : decode cX11_odds 57 = .ok (.getfield 54, 3) := dget daX11_odds_0 32 (q := (57, .getfield 54, 3)) rfl
theorem dX11_odds_60 : decode cX11_odds 60 = .ok (.getfield 315, 3) := dget daX11_odds_0 33 (q := (60, .getfield 315, 3)) rfl
theorem dX11_odds_63 : decode cX11_odds 63 = .ok (.ireturn, 1) := dget daX11_odds_0 34 (q := (63, .ireturn, 1)) rfl
theorem dX11_odds_64 : decode cX11_odds 64 = .ok (.aload_n 0, 1) := dget daX11_odds_0 35 (q := (64, .aload_n 0, 1)) rfl
theorem dX11_odds_65 : decode cX11_odds 65 = .ok (.getfield 54, 3) := dget daX11_odds_0 36 (q := (65, .getfield 54, 3)) rfl
theorem dX11_odds_68 : decode cX11_odds 68 = .ok (.aload_n 0, 1) := dget daX11_odds_0 37 (q := (68, .aload_n 0, 1)) rfl
theorem dX11_odds_69 : decode cX11_odds 69 = .ok (.aload_n 3, 1) := dget daX11_odds_0 38 (q := (69, .aload_n 3, 1)) rfl
theorem dX11_odds_70 : decode cX11_odds 70 = .ok (.invokevirtual 278, 3) := dget daX11_odds_0 39 (q := (70, .invokevirtual 278, 3)) rfl
def tdaX11_odds_1 : List (Nat × (Instr × Nat)) := [(73, .invokevirtual 318, 3), (76, .ireturn, 1)]
theorem daX11_odds_1 : tdaX11_odds_1.all (fun q => decide (decode cX11_odds q.1 = .ok q.2)) = true := by decide +kernel
theorem dX11_odds_73 : decode cX11_odds 73 = .ok (.invokevirtual 318, 3) := dget daX11_odds_1 0 (q := (73, .invokevirtual 318, 3)) rfl
theorem dX11_odds_76 : decode cX11_odds 76 = .ok (.ireturn, 1) := dget daX11_odds_1 1 (q := (76, .ireturn, 1)) rfl
def tdaX11_good_0 : List (Nat × (Instr × Nat)) := [(0, .aload_n 0, 1), (1, .getfield 47, 3), (4, .iload_n 1, 1), (5, .invokevirtual 261, 3), (8, .astore_n 3, 1), (9, .aload_n 3, 1), (10, .ifnonnull 9, 3), (13, .aload_n 0, 1), (14, .iconst (-1), 1), (15, .invokevirtual 77, 3), (18, .ireturn, 1), (19, .iload_n 2, 1), (20, .ifCond .ge 10, 3), (23, .aload_n 0, 1), (24, .bipush (-4), 2), (26, .invokevirtual 77, 3), (29, .ireturn, 1), (30, .iload_n 2, 1), (31, .sipush 9999, 3), (34, .if_icmp .le 10, 3), (37, .aload_n 0, 1), (38, .bipush (-6), 2), (40, .invokevirtual 77, 3), (43, .ireturn, 1), (44, .aload_n 0, 1), (45, .aload_n 3, 1), (46, .invokevirtual 308, 3), (49, .aload_n 0, 1), (50, .aload_n 3, 1), (51, .invokevirtual 278, 3), (54, .istore 4, 2), (56, .aload_n 0, 1), (57, .getfield 54, 3), (60, .getfield 315, 3), (63, .ifCond .ne 19, 3), (66, .iload_n 2, 1), (67, .iconst 2, 1), (68, .imul, 1), (69, .iload 4, 2), (71, .if_icmp .lt 7, 3)]
theorem daX11_good_0 : tdaX11_good_0.all (fun q => decide (decode cX11_good q.1 = .ok q.2)) = true := by decide +kernel
theorem dX11_good_0 : decode cX11_good 0 = .ok (.aload_n 0, 1) := dget daX11_good_0 0 (q := (0, .aload_n 0, 1)) rfl
theorem dX11_good_1 : decode cX11_good 1 = .ok (.getfield 47, 3) := dget daX11_good_0 1 (q := (1, .getfield 47, 3)) rfl
theorem dX11_good_4 : decode cX11_good 4 = .ok (.iload_n 1, 1) := dget daX11_good_0 2 (q := (4, .iload_n 1, 1)) rfl
theorem dX11_good_5 : decode cX11_good 5 = .ok (.invokevirtual 261, 3) := dget daX11_good_0 3 (q := (5, .invokevirtual 261, 3)) rfl
theorem dX11_good_8 : decode cX11_good 8 = .ok (.astore_n 3, 1) := dget daX11_good_0 4 (q := (8, .astore_n 3, 1)) rfl
theorem dX11_good_9 : decode cX11_good 9 = .ok (.aload_n 3, 1) := dget daX11_good_0 5 (q := (9, .aload_n 3, 1)) rfl
theorem dX11_good_10 : decode cX11_good 10 = .ok (.ifnonnull 9, 3) := dget daX11_good_0 6 (q := (10, .ifnonnull 9, 3)) rfl
theorem dX11_good_13 : decode cX11_good 13 = .ok (.aload_n 0, 1) := dget daX11_good_0 7 (q := (13, .aload_n 0, 1)) rfl
theorem dX11_good_14 : decode cX11_good 14 = .ok (.iconst (-1), 1) := dget daX11_good_0 8 (q := (14, .iconst (-1), 1)) rfl
theorem dX11_good_15 : decode cX11_good 15 = .ok (.invokevirtual 77, 3) := dget daX11_good_0 9 (q := (15, .invokevirtual 77, 3)) rfl
theorem dX11_good_18 : decode cX11_good 18 = .ok (.ireturn, 1) := dget daX11_good_0 10 (q := (18, .ireturn, 1)) rfl
theorem dX11_good_19 : decode cX11_good 19 = .ok (.iload_n 2, 1) := dget daX11_good_0 11 (q := (19, .iload_n 2, 1)) rfl
theorem dX11_good_20 : decode cX11_good 20 = .ok (.ifCond .ge 10, 3) := dget daX11_good_0 12 (q := (20, .ifCond .ge 10, 3)) rfl
theorem dX11_good_23 : decode cX11_good 23 = .ok (.aload_n 0, 1) := dget daX11_good_0 13 (q := (23, .aload_n 0, 1)) rfl
theorem dX11_good_24 : decode cX11_good 24 = .ok (.bipush (-4), 2) := dget daX11_good_0 14 (q := (24, .bipush (-4), 2)) rfl
theorem dX11_good_26 : decode cX11_good 26 = .ok (.invokevirtual 77, 3) := dget daX11_good_0 15 (q := (26, .invokevirtual 77, 3)) rfl
theorem dX11_good_29 : decode cX11_good 29 = .ok (.ireturn, 1) := dget daX11_good_0 16 (q := (29, .ireturn, 1)) rfl
theorem dX11_good_30 : decode cX11_good 30 = .ok (.iload_n 2, 1) := dget daX11_good_0 17 (q := (30, .iload_n 2, 1)) rfl
theorem dX11_good_31 : decode cX11_good 31 = .ok (.sipush 9999, 3) := dget daX11_good_0 18 (q := (31, .sipush 9999, 3)) rfl
theorem dX11_good_34 : decode cX11_good 34 = .ok (.if_icmp .le 10, 3) := dget daX11_good_0 19 (q := (34, .if_icmp .le 10, 3)) rfl
theorem dX11_good_37 : decode cX11_good 37 = .ok (.aload_n 0, 1) := dget daX11_good_0 20 (q := (37, .aload_n 0, 1)) rfl
theorem dX11_good_38 : decode cX11_good 38 = .ok (.bipush (-6), 2) := dget daX11_good_0 21 (q := (38, .bipush (-6), 2)) rfl
theorem dX11_good_40 : decode cX11_good 40 = .ok (.invokevirtual 77, 3) := dget daX11_good_0 22 (q := (40, .invokevirtual 77, 3)) rfl
theorem dX11_good_43 : decode cX11_good 43 = .ok (.ireturn, 1) := dget daX11_good_0 23 (q := (43, .ireturn, 1)) rfl
theorem dX11_good_44 : decode cX11_good 44 = .ok (.aload_n 0, 1) := dget daX11_good_0 24 (q := (44, .aload_n 0, 1)) rfl
theorem dX11_good_45 : decode cX11_good 45 = .ok (.aload_n 3, 1) := dget daX11_good_0 25 (q := (45, .aload_n 3, 1)) rfl
theorem dX11_good_46 : decode cX11_good 46 = .ok (.invokevirtual 308, 3) := dget daX11_good_0 26 (q := (46, .invokevirtual 308, 3)) rfl
theorem dX11_good_49 : decode cX11_good 49 = .ok (.aload_n 0, 1) := dget daX11_good_0 27 (q := (49, .aload_n 0, 1)) rfl
theorem dX11_good_50 : decode cX11_good 50 = .ok (.aload_n 3, 1) := dget daX11_good_0 28 (q := (50, .aload_n 3, 1)) rfl
theorem dX11_good_51 : decode cX11_good 51 = .ok (.invokevirtual 278, 3) := dget daX11_good_0 29 (q := (51, .invokevirtual 278, 3)) rfl
theorem dX11_good_54 : decode cX11_good 54 = .ok (.istore 4, 2) := dget daX11_good_0 30 (q := (54, .istore 4, 2)) rfl
theorem dX11_good_56 : decode cX11_good 56 = .ok (.aload_n 0, 1) := dget daX11_good_0 31 (q := (56, .aload_n 0, 1)) rfl
theorem dX11_good_57 : decode cX11_good 57 = .ok (.getfield 54, 3) := dget daX11_good_0 32 (q := (57, .getfield 54, 3)) rfl
theorem dX11_good_60 : decode cX11_good 60 = .ok (.getfield 315, 3) := dget daX11_good_0 33 (q := (60, .getfield 315, 3)) rfl
theorem dX11_good_63 : decode cX11_good 63 = .ok (.ifCond .ne 19, 3) := dget daX11_good_0 34 (q := (63, .ifCond .ne 19, 3)) rfl
theorem dX11_good_66 : decode cX11_good 66 = .ok (.iload_n 2, 1) := dget daX11_good_0 35 (q := (66, .iload_n 2, 1)) rfl
theorem dX11_good_67 : decode cX11_good 67 = .ok (.iconst 2, 1) := dget daX11_good_0 36 (q := (67, .iconst 2, 1)) rfl
theorem dX11_good_68 : decode cX11_good 68 = .ok (.imul, 1) := dget daX11_good_0 37 (q := (68, .imul, 1)) rfl
theorem dX11_good_69 : decode cX11_good 69 = .ok (.iload 4, 2) := dget daX11_good_0 38 (q := (69, .iload 4, 2)) rfl
theorem dX11_good_71 : decode cX11_good 71 = .ok (.if_icmp .lt 7, 3) := dget daX11_good_0 39 (q := (71, .if_icmp .lt 7, 3)) rfl
def tdaX11_good_1 : List (Nat × (Instr × Nat)) := [(74, .iconst 1, 1), (75, .goto 33, 3), (78, .iconst 0, 1), (79, .goto 29, 3), (82, .iload_n 2, 1), (83, .aload_n 0, 1), (84, .getfield 54, 3), (87, .getfield 315, 3), (90, .imul, 1), (91, .aload_n 0, 1), (92, .getfield 54, 3), (95, .iload 4, 2), (97, .invokevirtual 318, 3), (100, .if_icmp .lt 7, 3), (103, .iconst 1, 1), (104, .goto 4, 3), (107, .iconst 0, 1), (108, .istore 5, 2), (110, .iload 5, 2), (112, .ifCond .eq 7, 3), (115, .iconst 1, 1), (116, .goto 4, 3), (119, .iconst 0, 1), (120, .ireturn, 1)]
theorem daX11_good_1 : tdaX11_good_1.all (fun q => decide (decode cX11_good q.1 = .ok q.2)) = true := by decide +kernel
theorem dX11_good_74 : decode cX11_good 74 = .ok (.iconst 1, 1) := dget daX11_good_1 0 (q := (74, .iconst 1, 1)) rfl
theorem dX11_good_75 : decode cX11_good 75 = .ok (.goto 33, 3) := dget daX11_good_1 1 (q := (75, .goto 33, 3)) rfl
theorem dX11_good_78 : decode cX11_good 78 = .ok (.iconst 0, 1) := dget daX11_good_1 2 (q := (78, .iconst 0, 1)) rfl
theorem dX11_good_79 : decode cX11_good 79 = .ok (.goto 29, 3) := dget daX11_good_1 3 (q := (79, .goto 29, 3)) rfl
theorem dX11_good_82 : decode cX11_good 82 = .ok (.iload_n 2, 1) := dget daX11_good_1 4 (q := (82, .iload_n 2, 1)) rfl
theorem dX11_good_83 : decode cX11_good 83 = .ok (.aload_n 0, 1) := dget daX11_good_1 5 (q := (83, .aload_n 0, 1)) rfl
theorem dX11_good_84 : decode cX11_good 84 = .ok (.getfield 54, 3) := dget daX11_good_1 6 (q := (84, .getfield 54, 3)) rfl
theorem dX11_good_87 : decode cX11_good 87 = .ok (.getfield 315, 3) := dget daX11_good_1 7 (q := (87, .getfield 315, 3)) rfl
theorem dX11_good_90 : decode cX11_good 90 = .ok (.imul, 1) := dget daX11_good_1 8 (q := (90, .imul, 1)) rfl
theorem dX11_good_91 : decode cX11_good 91 = .ok (.aload_n 0, 1) := dget daX11_good_1 9 (q := (91, .aload_n 0, 1)) rfl
theorem dX11_good_92 : decode cX11_good 92 = .ok (.getfield 54, 3) := dget daX11_good_1 10 (q := (92, .getfield 54, 3)) rfl
theorem dX11_good_95 : decode cX11_good 95 = .ok (.iload 4, 2) := dget daX11_good_1 11 (q := (95, .iload 4, 2)) rfl
theorem dX11_good_97 : decode cX11_good 97 = .ok (.invokevirtual 318, 3) := dget daX11_good_1 12 (q := (97, .invokevirtual 318, 3)) rfl
theorem dX11_good_100 : decode cX11_good 100 = .ok (.if_icmp .lt 7, 3) := dget daX11_good_1 13 (q := (100, .if_icmp .lt 7, 3)) rfl
theorem dX11_good_103 : decode cX11_good 103 = .ok (.iconst 1, 1) := dget daX11_good_1 14 (q := (103, .iconst 1, 1)) rfl
theorem dX11_good_104 : decode cX11_good 104 = .ok (.goto 4, 3) := dget daX11_good_1 15 (q := (104, .goto 4, 3)) rfl
theorem dX11_good_107 : decode cX11_good 107 = .ok (.iconst 0, 1) := dget daX11_good_1 16 (q := (107, .iconst 0, 1)) rfl
theorem dX11_good_108 : decode cX11_good 108 = .ok (.istore 5, 2) := dget daX11_good_1 17 (q := (108, .istore 5, 2)) rfl
theorem dX11_good_110 : decode cX11_good 110 = .ok (.iload 5, 2) := dget daX11_good_1 18 (q := (110, .iload 5, 2)) rfl
theorem dX11_good_112 : decode cX11_good 112 = .ok (.ifCond .eq 7, 3) := dget daX11_good_1 19 (q := (112, .ifCond .eq 7, 3)) rfl
theorem dX11_good_115 : decode cX11_good 115 = .ok (.iconst 1, 1) := dget daX11_good_1 20 (q := (115, .iconst 1, 1)) rfl
theorem dX11_good_116 : decode cX11_good 116 = .ok (.goto 4, 3) := dget daX11_good_1 21 (q := (116, .goto 4, 3)) rfl
theorem dX11_good_119 : decode cX11_good 119 = .ok (.iconst 0, 1) := dget daX11_good_1 22 (q := (119, .iconst 0, 1)) rfl
theorem dX11_good_120 : decode cX11_good 120 = .ok (.ireturn, 1) := dget daX11_good_1 23 (q := (120, .ireturn, 1)) rfl
def tdaX11_count_0 : List (Nat × (Instr × Nat)) := [(0, .iload_n 1, 1), (1, .tableswitch 117 0 8 #[51, 56, 64, 72, 80, 88, 96, 101, 109], 51), (52, .aload_n 0, 1), (53, .getfield 73, 3), (56, .ireturn, 1), (57, .aload_n 0, 1), (58, .getfield 19, 3), (61, .getfield 321, 3), (64, .ireturn, 1), (65, .aload_n 0, 1), (66, .getfield 19, 3), (69, .invokevirtual 322, 3), (72, .ireturn, 1), (73, .aload_n 0, 1), (74, .getfield 26, 3), (77, .getfield 325, 3), (80, .ireturn, 1), (81, .aload_n 0, 1), (82, .getfield 33, 3), (85, .getfield 326, 3), (88, .ireturn, 1), (89, .aload_n 0, 1), (90, .getfield 47, 3), (93, .getfield 327, 3), (96, .ireturn, 1), (97, .aload_n 0, 1), (98, .invokevirtual 328, 3), (101, .ireturn, 1), (102, .aload_n 0, 1), (103, .getfield 54, 3), (106, .getfield 331, 3), (109, .ireturn, 1), (110, .aload_n 0, 1), (111, .getfield 10, 3), (114, .getfield 332, 3), (117, .ireturn, 1), (118, .iload_n 1, 1), (119, .bipush 10, 2), (121, .if_icmp .le 27, 3), (124, .iload_n 1, 1)]
theorem daX11_count_0 : tdaX11_count_0.all (fun q => decide (decode cX11_count q.1 = .ok q.2)) = true := by decide +kernel
theorem dX11_count_0 : decode cX11_count 0 = .ok (.iload_n 1, 1) := dget daX11_count_0 0 (q := (0, .iload_n 1, 1)) rfl
theorem dX11_count_1 : decode cX11_count 1 = .ok (.tableswitch 117 0 8 #[51, 56, 64, 72, 80, 88, 96, 101, 109], 51) := dget daX11_count_0 1 (q := (1, .tableswitch 117 0 8 #[51, 56, 64, 72, 80, 88, 96, 101, 109], 51)) rfl
theorem dX11_count_52 : decode cX11_count 52 = .ok (.aload_n 0, 1) := dget daX11_count_0 2 (q := (52, .aload_n 0, 1)) rfl
theorem dX11_count_53 : decode cX11_count 53 = .ok (.getfield 73, 3) := dget daX11_count_0 3 (q := (53, .getfield 73, 3)) rfl
theorem dX11_count_56 : decode cX11_count 56 = .ok (.ireturn, 1) := dget daX11_count_0 4 (q := (56, .ireturn, 1)) rfl
theorem dX11_count_57 : decode cX11_count 57 = .ok (.aload_n 0, 1) := dget daX11_count_0 5 (q := (57, .aload_n 0, 1)) rfl
theorem dX11_count_58 : decode cX11_count 58 = .ok (.getfield 19, 3) := dget daX11_count_0 6 (q := (58, .getfield 19, 3)) rfl
theorem dX11_count_61 : decode cX11_count 61 = .ok (.getfield 321, 3) := dget daX11_count_0 7 (q := (61, .getfield 321, 3)) rfl
theorem dX11_count_64 : decode cX11_count 64 = .ok (.ireturn, 1) := dget daX11_count_0 8 (q := (64, .ireturn, 1)) rfl
theorem dX11_count_65 : decode cX11_count 65 = .ok (.aload_n 0, 1) := dget daX11_count_0 9 (q := (65, .aload_n 0, 1)) rfl
theorem dX11_count_66 : decode cX11_count 66 = .ok (.getfield 19, 3) := dget daX11_count_0 10 (q := (66, .getfield 19, 3)) rfl
theorem dX11_count_69 : decode cX11_count 69 = .ok (.invokevirtual 322, 3) := dget daX11_count_0 11 (q := (69, .invokevirtual 322, 3)) rfl
theorem dX11_count_72 : decode cX11_count 72 = .ok (.ireturn, 1) := dget daX11_count_0 12 (q := (72, .ireturn, 1)) rfl
theorem dX11_count_73 : decode cX11_count 73 = .ok (.aload_n 0, 1) := dget daX11_count_0 13 (q := (73, .aload_n 0, 1)) rfl
theorem dX11_count_74 : decode cX11_count 74 = .ok (.getfield 26, 3) := dget daX11_count_0 14 (q := (74, .getfield 26, 3)) rfl
theorem dX11_count_77 : decode cX11_count 77 = .ok (.getfield 325, 3) := dget daX11_count_0 15 (q := (77, .getfield 325, 3)) rfl
theorem dX11_count_80 : decode cX11_count 80 = .ok (.ireturn, 1) := dget daX11_count_0 16 (q := (80, .ireturn, 1)) rfl
theorem dX11_count_81 : decode cX11_count 81 = .ok (.aload_n 0, 1) := dget daX11_count_0 17 (q := (81, .aload_n 0, 1)) rfl
theorem dX11_count_82 : decode cX11_count 82 = .ok (.getfield 33, 3) := dget daX11_count_0 18 (q := (82, .getfield 33, 3)) rfl
theorem dX11_count_85 : decode cX11_count 85 = .ok (.getfield 326, 3) := dget daX11_count_0 19 (q := (85, .getfield 326, 3)) rfl
theorem dX11_count_88 : decode cX11_count 88 = .ok (.ireturn, 1) := dget daX11_count_0 20 (q := (88, .ireturn, 1)) rfl
theorem dX11_count_89 : decode cX11_count 89 = .ok (.aload_n 0, 1) := dget daX11_count_0 21 (q := (89, .aload_n 0, 1)) rfl
theorem dX11_count_90 : decode cX11_count 90 = .ok (.getfield 47, 3) := dget daX11_count_0 22 (q := (90, .getfield 47, 3)) rfl
theorem dX11_count_93 : decode cX11_count 93 = .ok (.getfield 327, 3) := dget daX11_count_0 23 (q := (93, .getfield 327, 3)) rfl
theorem dX11_count_96 : decode cX11_count 96 = .ok (.ireturn, 1) := dget daX11_count_0 24 (q := (96, .ireturn, 1)) rfl
theorem dX11_count_97 : decode cX11_count 97 = .ok (.aload_n 0, 1) := dget daX11_count_0 25 (q := (97, .aload_n 0, 1)) rfl
theorem dX11_count_98 : decode cX11_count 98 = .ok (.invokevirtual 328, 3) := dget daX11_count_0 26 (q := (98, .invokevirtual 328, 3)) rfl
theorem dX11_count_101 : decode cX11_count 101 = .ok (.ireturn, 1) := dget daX11_count_0 27 (q := (101, .ireturn, 1)) rfl
theorem dX11_count_102 : decode cX11_count 102 = .ok (.aload_n 0, 1) := dget daX11_count_0 28 (q := (102, .aload_n 0, 1)) rfl
theorem dX11_count_103 : decode cX11_count 103 = .ok (.getfield 54, 3) := dget daX11_count_0 29 (q := (103, .getfield 54, 3)) rfl
theorem dX11_count_106 : decode cX11_count 106 = .ok (.getfield 331, 3) := dget daX11_count_0 30 (q := (106, .getfield 331, 3)) rfl
theorem dX11_count_109 : decode cX11_count 109 = .ok (.ireturn, 1) := dget daX11_count_0 31 (q := (109, .ireturn, 1)) rfl
theorem dX11_count_110 : decode cX11_count 110 = .ok (.aload_n 0, 1) := dget daX11_count_0 32 (q := (110, .aload_n 0, 1)) rfl
theorem dX11_count_111 : decode cX11_count 111 = .ok (.getfield 10, 3) := dget daX11_count_0 33 (q := (111, .getfield 10, 3)) rfl
theorem dX11_count_114 : decode cX11_count 114 = .ok (.getfield 332, 3) := dget daX11_count_0 34 (q := (114, .getfield 332, 3)) rfl
theorem dX11_count_117 : decode cX11_count 117 = .ok (.ireturn, 1) := dget daX11_count_0 35 (q := (117, .ireturn, 1)) rfl
theorem dX11_count_118 : decode cX11_count 118 = .ok (.iload_n 1, 1) := dget daX11_count_0 36 (q := (118, .iload_n 1, 1)) rfl
theorem dX11_count_119 : decode cX11_count 119 = .ok (.bipush 10, 2) := dget daX11_count_0 37 (q := (119, .bipush 10, 2)) rfl
theorem dX11_count_121 : decode cX11_count 121 = .ok (.if_icmp .le 27, 3) := dget daX11_count_0 38 (q := (121, .if_icmp .le 27, 3)) rfl
theorem dX11_count_124 : decode cX11_count 124 = .ok (.iload_n 1, 1) := dget daX11_count_0 39 (q := (124, .iload_n 1, 1)) rfl
def tdaX11_count_1 : List (Nat × (Instr × Nat)) := [(125, .bipush 10, 2), (127, .isub, 1), (128, .aload_n 0, 1), (129, .getfield 70, 3), (132, .arraylength, 1), (133, .if_icmp .ge 15, 3), (136, .aload_n 0, 1), (137, .getfield 70, 3), (140, .iload_n 1, 1), (141, .bipush 10, 2), (143, .isub, 1), (144, .iaload, 1), (145, .goto 5, 3), (148, .bipush (-9), 2), (150, .ireturn, 1)]
theorem daX11_count_1 : tdaX11_count_1.all (fun q => decide (decode cX11_count q.1 = .ok q.2)) = true := by decide +kernel
theorem dX11_count_125 : decode cX11_count 125 = .ok (.bipush 10, 2) := dget daX11_count_1 0 (q := (125, .bipush 10, 2)) rfl
theorem dX11_count_127 : decode cX11_count 127 = .ok (.isub, 1) := dget daX11_count_1 1 (q := (127, .isub, 1)) rfl
theorem dX11_count_128 : decode cX11_count 128 = .ok (.aload_n 0, 1) := dget daX11_count_1 2 (q := (128, .aload_n 0, 1)) rfl
theorem dX11_count_129 : decode cX11_count 129 = .ok (.getfield 70, 3) := dget daX11_count_1 3 (q := (129, .getfield 70, 3)) rfl
theorem dX11_count_132 : decode cX11_count 132 = .ok (.arraylength, 1) := dget daX11_count_1 4 (q := (132, .arraylength, 1)) rfl
theorem dX11_count_133 : decode cX11_count 133 = .ok (.if_icmp .ge 15, 3) := dget daX11_count_1 5 (q := (133, .if_icmp .ge 15, 3)) rfl
theorem dX11_count_136 : decode cX11_count 136 = .ok (.aload_n 0, 1) := dget daX11_count_1 6 (q := (136, .aload_n 0, 1)) rfl
theorem dX11_count_137 : decode cX11_count 137 = .ok (.getfield 70, 3) := dget daX11_count_1 7 (q := (137, .getfield 70, 3)) rfl
theorem dX11_count_140 : decode cX11_count 140 = .ok (.iload_n 1, 1) := dget daX11_count_1 8 (q := (140, .iload_n 1, 1)) rfl
theorem dX11_count_141 : decode cX11_count 141 = .ok (.bipush 10, 2) := dget daX11_count_1 9 (q := (141, .bipush 10, 2)) rfl
theorem dX11_count_143 : decode cX11_count 143 = .ok (.isub, 1) := dget daX11_count_1 10 (q := (143, .isub, 1)) rfl
theorem dX11_count_144 : decode cX11_count 144 = .ok (.iaload, 1) := dget daX11_count_1 11 (q := (144, .iaload, 1)) rfl
theorem dX11_count_145 : decode cX11_count 145 = .ok (.goto 5, 3) := dget daX11_count_1 12 (q := (145, .goto 5, 3)) rfl
theorem dX11_count_148 : decode cX11_count 148 = .ok (.bipush (-9), 2) := dget daX11_count_1 13 (q := (148, .bipush (-9), 2)) rfl
theorem dX11_count_150 : decode cX11_count 150 = .ok (.ireturn, 1) := dget daX11_count_1 14 (q := (150, .ireturn, 1)) rfl
def tdaX11_isOneOf_0 : List (Nat × (Instr × Nat)) := [(0, .iload_n 1, 1), (1, .ifCond .lt 12, 3), (4, .iload_n 1, 1), (5, .iload_n 0, 1), (6, .if_icmp .ge 7, 3), (9, .iconst 1, 1), (10, .goto 4, 3), (13, .iconst 0, 1), (14, .ireturn, 1)]
theorem daX11_isOneOf_0 : tdaX11_isOneOf_0.all (fun q => decide (decode cX11_isOneOf q.1 = .ok q.2)) = true := by decide +kernel
theorem dX11_isOneOf_0 : decode cX11_isOneOf 0 = .ok (.iload_n 1, 1) := dget daX11_isOneOf_0 0 (q := (0, .iload_n 1, 1)) rfl
theorem dX11_isOneOf_1 : decode cX11_isOneOf 1 = .ok (.ifCond .lt 12, 3) := dget daX11_isOneOf_0 1 (q := (1, .ifCond .lt 12, 3)) rfl
theorem dX11_isOneOf_4 : decode cX11_isOneOf 4 = .ok (.iload_n 1, 1) := dget daX11_isOneOf_0 2 (q := (4, .iload_n 1, 1)) rfl
theorem dX11_isOneOf_5 : decode cX11_isOneOf 5 = .ok (.iload_n 0, 1) := dget daX11_isOneOf_0 3 (q := (5, .iload_n 0, 1)) rfl
theorem dX11_isOneOf_6 : decode cX11_isOneOf 6 = .ok (.if_icmp .ge 7, 3) := dget daX11_isOneOf_0 4 (q := (6, .if_icmp .ge 7, 3)) rfl
theorem dX11_isOneOf_9 : decode cX11_isOneOf 9 = .ok (.iconst 1, 1) := dget daX11_isOneOf_0 5 (q := (9, .iconst 1, 1)) rfl
theorem dX11_isOneOf_10 : decode cX11_isOneOf 10 = .ok (.goto 4, 3) := dget daX11_isOneOf_0 6 (q := (10, .goto 4, 3)) rfl
theorem dX11_isOneOf_13 : decode cX11_isOneOf 13 = .ok (.iconst 0, 1) := dget daX11_isOneOf_0 7 (q := (13, .iconst 0, 1)) rfl
theorem dX11_isOneOf_14 : decode cX11_isOneOf 14 = .ok (.ireturn, 1) := dget daX11_isOneOf_0 8 (q := (14, .ireturn, 1)) rfl
def tdaX11_refuse_0 : List (Nat × (Instr × Nat)) := [(0, .iload_n 1, 1), (1, .ineg, 1), (2, .istore_n 2, 1), (3, .aload_n 0, 1), (4, .getfield 70, 3), (7, .arraylength, 1), (8, .iload_n 2, 1), (9, .invokestatic 85, 3), (12, .ifCond .eq 13, 3), (15, .aload_n 0, 1), (16, .getfield 70, 3), (19, .iload_n 2, 1), (20, .dup2, 1), (21, .iaload, 1), (22, .iconst 1, 1), (23, .iadd, 1), (24, .iastore, 1), (25, .iload_n 1, 1), (26, .ireturn, 1)]
theorem daX11_refuse_0 : tdaX11_refuse_0.all (fun q => decide (decode cX11_refuse q.1 = .ok q.2)) = true := by decide +kernel
theorem dX11_refuse_0 : decode cX11_refuse 0 = .ok (.iload_n 1, 1) := dget daX11_refuse_0 0 (q := (0, .iload_n 1, 1)) rfl
theorem dX11_refuse_1 : decode cX11_refuse 1 = .ok (.ineg, 1) := dget daX11_refuse_0 1 (q := (1, .ineg, 1)) rfl
theorem dX11_refuse_2 : decode cX11_refuse 2 = .ok (.istore_n 2, 1) := dget daX11_refuse_0 2 (q := (2, .istore_n 2, 1)) rfl
theorem dX11_refuse_3 : decode cX11_refuse 3 = .ok (.aload_n 0, 1) := dget daX11_refuse_0 3 (q := (3, .aload_n 0, 1)) rfl
theorem dX11_refuse_4 : decode cX11_refuse 4 = .ok (.getfield 70, 3) := dget daX11_refuse_0 4 (q := (4, .getfield 70, 3)) rfl
theorem dX11_refuse_7 : decode cX11_refuse 7 = .ok (.arraylength, 1) := dget daX11_refuse_0 5 (q := (7, .arraylength, 1)) rfl
theorem dX11_refuse_8 : decode cX11_refuse 8 = .ok (.iload_n 2, 1) := dget daX11_refuse_0 6 (q := (8, .iload_n 2, 1)) rfl
theorem dX11_refuse_9 : decode cX11_refuse 9 = .ok (.invokestatic 85, 3) := dget daX11_refuse_0 7 (q := (9, .invokestatic 85, 3)) rfl
theorem dX11_refuse_12 : decode cX11_refuse 12 = .ok (.ifCond .eq 13, 3) := dget daX11_refuse_0 8 (q := (12, .ifCond .eq 13, 3)) rfl
theorem dX11_refuse_15 : decode cX11_refuse 15 = .ok (.aload_n 0, 1) := dget daX11_refuse_0 9 (q := (15, .aload_n 0, 1)) rfl
theorem dX11_refuse_16 : decode cX11_refuse 16 = .ok (.getfield 70, 3) := dget daX11_refuse_0 10 (q := (16, .getfield 70, 3)) rfl
theorem dX11_refuse_19 : decode cX11_refuse 19 = .ok (.iload_n 2, 1) := dget daX11_refuse_0 11 (q := (19, .iload_n 2, 1)) rfl
theorem dX11_refuse_20 : decode cX11_refuse 20 = .ok (.dup2, 1) := dget daX11_refuse_0 12 (q := (20, .dup2, 1)) rfl
theorem dX11_refuse_21 : decode cX11_refuse 21 = .ok (.iaload, 1) := dget daX11_refuse_0 13 (q := (21, .iaload, 1)) rfl
theorem dX11_refuse_22 : decode cX11_refuse 22 = .ok (.iconst 1, 1) := dget daX11_refuse_0 14 (q := (22, .iconst 1, 1)) rfl
theorem dX11_refuse_23 : decode cX11_refuse 23 = .ok (.iadd, 1) := dget daX11_refuse_0 15 (q := (23, .iadd, 1)) rfl
theorem dX11_refuse_24 : decode cX11_refuse 24 = .ok (.iastore, 1) := dget daX11_refuse_0 16 (q := (24, .iastore, 1)) rfl
theorem dX11_refuse_25 : decode cX11_refuse 25 = .ok (.iload_n 1, 1) := dget daX11_refuse_0 17 (q := (25, .iload_n 1, 1)) rfl
theorem dX11_refuse_26 : decode cX11_refuse 26 = .ok (.ireturn, 1) := dget daX11_refuse_0 18 (q := (26, .ireturn, 1)) rfl
def tdaX11_refuseBeyond_0 : List (Nat × (Instr × Nat)) := [(0, .ldc_w 335, 3), (3, .aload_n 0, 1), (4, .iload_n 1, 1), (5, .invokevirtual 77, 3), (8, .isub, 1), (9, .ireturn, 1)]
theorem daX11_refuseBeyond_0 : tdaX11_refuseBeyond_0.all (fun q => decide (decode cX11_refuseBeyond q.1 = .ok q.2)) = true := by decide +kernel
theorem dX11_refuseBeyond_0 : decode cX11_refuseBeyond 0 = .ok (.ldc_w 335, 3) := dget daX11_refuseBeyond_0 0 (q := (0, .ldc_w 335, 3)) rfl
theorem dX11_refuseBeyond_3 : decode cX11_refuseBeyond 3 = .ok (.aload_n 0, 1) := dget daX11_refuseBeyond_0 1 (q := (3, .aload_n 0, 1)) rfl
theorem dX11_refuseBeyond_4 : decode cX11_refuseBeyond 4 = .ok (.iload_n 1, 1) := dget daX11_refuseBeyond_0 2 (q := (4, .iload_n 1, 1)) rfl
theorem dX11_refuseBeyond_5 : decode cX11_refuseBeyond 5 = .ok (.invokevirtual 77, 3) := dget daX11_refuseBeyond_0 3 (q := (5, .invokevirtual 77, 3)) rfl
theorem dX11_refuseBeyond_8 : decode cX11_refuseBeyond 8 = .ok (.isub, 1) := dget daX11_refuseBeyond_0 4 (q := (8, .isub, 1)) rfl
theorem dX11_refuseBeyond_9 : decode cX11_refuseBeyond 9 = .ok (.ireturn, 1) := dget daX11_refuseBeyond_0 5 (q := (9, .ireturn, 1)) rfl
def tdaX11_gapFor_0 : List (Nat × (Instr × Nat)) := [(0, .iload_n 1, 1), (1, .ifCond .eq 12, 3), (4, .aload_n 0, 1), (5, .getfield 67, 3), (8, .iconst 1, 1), (9, .iaload, 1), (10, .goto 9, 3), (13, .aload_n 0, 1), (14, .getfield 67, 3), (17, .iconst 0, 1), (18, .iaload, 1), (19, .ireturn, 1)]
theorem daX11_gapFor_0 : tdaX11_gapFor_0.all (fun q => decide (decode cX11_gapFor q.1 = .ok q.2)) = true := by decide +kernel
theorem dX11_gapFor_0 : decode cX11_gapFor 0 = .ok (.iload_n 1, 1) := dget daX11_gapFor_0 0 (q := (0, .iload_n 1, 1)) rfl
theorem dX11_gapFor_1 : decode cX11_gapFor 1 = .ok (.ifCond .eq 12, 3) := dget daX11_gapFor_0 1 (q := (1, .ifCond .eq 12, 3)) rfl
theorem dX11_gapFor_4 : decode cX11_gapFor 4 = .ok (.aload_n 0, 1) := dget daX11_gapFor_0 2 (q := (4, .aload_n 0, 1)) rfl
theorem dX11_gapFor_5 : decode cX11_gapFor 5 = .ok (.getfield 67, 3) := dget daX11_gapFor_0 3 (q := (5, .getfield 67, 3)) rfl
theorem dX11_gapFor_8 : decode cX11_gapFor 8 = .ok (.iconst 1, 1) := dget daX11_gapFor_0 4 (q := (8, .iconst 1, 1)) rfl
theorem dX11_gapFor_9 : decode cX11_gapFor 9 = .ok (.iaload, 1) := dget daX11_gapFor_0 5 (q := (9, .iaload, 1)) rfl
theorem dX11_gapFor_10 : decode cX11_gapFor 10 = .ok (.goto 9, 3) := dget daX11_gapFor_0 6 (q := (10, .goto 9, 3)) rfl
theorem dX11_gapFor_13 : decode cX11_gapFor 13 = .ok (.aload_n 0, 1) := dget daX11_gapFor_0 7 (q := (13, .aload_n 0, 1)) rfl
theorem dX11_gapFor_14 : decode cX11_gapFor 14 = .ok (.getfield 67, 3) := dget daX11_gapFor_0 8 (q := (14, .getfield 67, 3)) rfl
theorem dX11_gapFor_17 : decode cX11_gapFor 17 = .ok (.iconst 0, 1) := dget daX11_gapFor_0 9 (q := (17, .iconst 0, 1)) rfl
theorem dX11_gapFor_18 : decode cX11_gapFor 18 = .ok (.iaload, 1) := dget daX11_gapFor_0 10 (q := (18, .iaload, 1)) rfl
theorem dX11_gapFor_19 : decode cX11_gapFor 19 = .ok (.ireturn, 1) := dget daX11_gapFor_0 11 (q := (19, .ireturn, 1)) rfl
def tdaX11_waitOf_0 : List (Nat × (Instr × Nat)) := [(0, .aload_n 0, 1), (1, .iload_n 2, 1), (2, .invokevirtual 159, 3), (5, .istore_n 3, 1), (6, .aload_n 1, 1), (7, .aload_n 0, 1), (8, .getfield 19, 3), (11, .aload_n 1, 1), (12, .iload_n 2, 1), (13, .iload_n 3, 1), (14, .invokevirtual 163, 3), (17, .iload_n 3, 1), (18, .invokevirtual 336, 3), (21, .ireturn, 1)]
theorem daX11_waitOf_0 : tdaX11_waitOf_0.all (fun q => decide (decode cX11_waitOf q.1 = .ok q.2)) = true := by decide +kernel
theorem dX11_waitOf_0 : decode cX11_waitOf 0 = .ok (.aload_n 0, 1) := dget daX11_waitOf_0 0 (q := (0, .aload_n 0, 1)) rfl
theorem dX11_waitOf_1 : decode cX11_waitOf 1 = .ok (.iload_n 2, 1) := dget daX11_waitOf_0 1 (q := (1, .iload_n 2, 1)) rfl
theorem dX11_waitOf_2 : decode cX11_waitOf 2 = .ok (.invokevirtual 159, 3) := dget daX11_waitOf_0 2 (q := (2, .invokevirtual 159, 3)) rfl
theorem dX11_waitOf_5 : decode cX11_waitOf 5 = .ok (.istore_n 3, 1) := dget daX11_waitOf_0 3 (q := (5, .istore_n 3, 1)) rfl
theorem dX11_waitOf_6 : decode cX11_waitOf 6 = .ok (.aload_n 1, 1) := dget daX11_waitOf_0 4 (q := (6, .aload_n 1, 1)) rfl
theorem dX11_waitOf_7 : decode cX11_waitOf 7 = .ok (.aload_n 0, 1) := dget daX11_waitOf_0 5 (q := (7, .aload_n 0, 1)) rfl
theorem dX11_waitOf_8 : decode cX11_waitOf 8 = .ok (.getfield 19, 3) := dget daX11_waitOf_0 6 (q := (8, .getfield 19, 3)) rfl
theorem dX11_waitOf_11 : decode cX11_waitOf 11 = .ok (.aload_n 1, 1) := dget daX11_waitOf_0 7 (q := (11, .aload_n 1, 1)) rfl
theorem dX11_waitOf_12 : decode cX11_waitOf 12 = .ok (.iload_n 2, 1) := dget daX11_waitOf_0 8 (q := (12, .iload_n 2, 1)) rfl
theorem dX11_waitOf_13 : decode cX11_waitOf 13 = .ok (.iload_n 3, 1) := dget daX11_waitOf_0 9 (q := (13, .iload_n 3, 1)) rfl
theorem dX11_waitOf_14 : decode cX11_waitOf 14 = .ok (.invokevirtual 163, 3) := dget daX11_waitOf_0 10 (q := (14, .invokevirtual 163, 3)) rfl
theorem dX11_waitOf_17 : decode cX11_waitOf 17 = .ok (.iload_n 3, 1) := dget daX11_waitOf_0 11 (q := (17, .iload_n 3, 1)) rfl
theorem dX11_waitOf_18 : decode cX11_waitOf 18 = .ok (.invokevirtual 336, 3) := dget daX11_waitOf_0 12 (q := (18, .invokevirtual 336, 3)) rfl
theorem dX11_waitOf_21 : decode cX11_waitOf 21 = .ok (.ireturn, 1) := dget daX11_waitOf_0 13 (q := (21, .ireturn, 1)) rfl
def tdaX11_handedTo_0 : List (Nat × (Instr × Nat)) := [(0, .aload_n 1, 1), (1, .getfield 145, 3), (4, .aload_n 0, 1), (5, .aload_n 1, 1), (6, .iconst 0, 1), (7, .invokevirtual 151, 3), (10, .aload_n 0, 1), (11, .aload_n 1, 1), (12, .iconst 1, 1), (13, .invokevirtual 151, 3), (16, .invokestatic 180, 3), (19, .invokestatic 340, 3), (22, .ireturn, 1)]
theorem daX11_handedTo_0 : tdaX11_handedTo_0.all (fun q => decide (decode cX11_handedTo q.1 = .ok q.2)) = true := by decide +kernel
theorem dX11_handedTo_0 : decode cX11_handedTo 0 = .ok (.aload_n 1, 1) := dget daX11_handedTo_0 0 (q := (0, .aload_n 1, 1)) rfl
theorem dX11_handedTo_1 : decode cX11_handedTo 1 = .ok (.getfield 145, 3) := dget daX11_handedTo_0 1 (q := (1, .getfield 145, 3)) rfl
theorem dX11_handedTo_4 : decode cX11_handedTo 4 = .ok (.aload_n 0, 1) := dget daX11_handedTo_0 2 (q := (4, .aload_n 0, 1)) rfl
theorem dX11_handedTo_5 : decode cX11_handedTo 5 = .ok (.aload_n 1, 1) := dget daX11_handedTo_0 3 (q := (5, .aload_n 1, 1)) rfl
theorem dX11_handedTo_6 : decode cX11_handedTo 6 = .ok (.iconst 0, 1) := dget daX11_handedTo_0 4 (q := (6, .iconst 0, 1)) rfl
theorem dX11_handedTo_7 : decode cX11_handedTo 7 = .ok (.invokevirtual 151, 3) := dget daX11_handedTo_0 5 (q := (7, .invokevirtual 151, 3)) rfl
theorem dX11_handedTo_10 : decode cX11_handedTo 10 = .ok (.aload_n 0, 1) := dget daX11_handedTo_0 6 (q := (10, .aload_n 0, 1)) rfl
theorem dX11_handedTo_11 : decode cX11_handedTo 11 = .ok (.aload_n 1, 1) := dget daX11_handedTo_0 7 (q := (11, .aload_n 1, 1)) rfl
theorem dX11_handedTo_12 : decode cX11_handedTo 12 = .ok (.iconst 1, 1) := dget daX11_handedTo_0 8 (q := (12, .iconst 1, 1)) rfl
theorem dX11_handedTo_13 : decode cX11_handedTo 13 = .ok (.invokevirtual 151, 3) := dget daX11_handedTo_0 9 (q := (13, .invokevirtual 151, 3)) rfl
theorem dX11_handedTo_16 : decode cX11_handedTo 16 = .ok (.invokestatic 180, 3) := dget daX11_handedTo_0 10 (q := (16, .invokestatic 180, 3)) rfl
theorem dX11_handedTo_19 : decode cX11_handedTo 19 = .ok (.invokestatic 340, 3) := dget daX11_handedTo_0 11 (q := (19, .invokestatic 340, 3)) rfl
theorem dX11_handedTo_22 : decode cX11_handedTo 22 = .ok (.ireturn, 1) := dget daX11_handedTo_0 12 (q := (22, .ireturn, 1)) rfl
def tdaX11_soonestOf_0 : List (Nat × (Instr × Nat)) := [(0, .aload_n 0, 1), (1, .getfield 67, 3), (4, .iconst 2, 1), (5, .iaload, 1), (6, .istore_n 2, 1), (7, .aload_n 1, 1), (8, .iload_n 2, 1), (9, .invokevirtual 208, 3), (12, .istore_n 3, 1), (13, .iload_n 3, 1), (14, .bipush (-9), 2), (16, .if_icmp .ne 11, 3), (19, .aload_n 1, 1), (20, .getfield 343, 3), (23, .getfield 347, 3), (26, .ireturn, 1), (27, .aload_n 1, 1), (28, .getfield 350, 3), (31, .iload_n 3, 1), (32, .aaload, 1), (33, .astore 4, 2), (35, .iload_n 3, 1), (36, .ifCond .ne 11, 3), (39, .aload 4, 2), (41, .getfield 177, 3), (44, .goto 14, 3), (47, .aload_n 1, 1), (48, .getfield 350, 3), (51, .iload_n 3, 1), (52, .iconst 1, 1), (53, .isub, 1), (54, .aaload, 1), (55, .getfield 347, 3), (58, .istore 5, 2), (60, .aload_n 0, 1), (61, .getfield 19, 3), (64, .aload 4, 2), (66, .getfield 354, 3), (69, .iload 5, 2), (71, .aload_n 1, 1)]
theorem daX11_soonestOf_0 : tdaX11_soonestOf_0.all (fun q => decide (decode cX11_soonestOf q.1 = .ok q.2)) = true := by decide +kernel
theorem dX11_soonestOf_0 : decode cX11_soonestOf 0 = .ok (.aload_n 0, 1) := dget daX11_soonestOf_0 0 (q := (0, .aload_n 0, 1)) rfl
theorem dX11_soonestOf_1 : decode cX11_soonestOf 1 = .ok (.getfield 67, 3) := dget daX11_soonestOf_0 1 (q := (1, .getfield 67, 3)) rfl
theorem dX11_soonestOf_4 : decode cX11_soonestOf 4 = .ok (.iconst 2, 1) := dget daX11_soonestOf_0 2 (q := (4, .iconst 2, 1)) rfl
theorem dX11_soonestOf_5 : decode cX11_soonestOf 5 = .ok (.iaload, 1) := dget daX11_soonestOf_0 3 (q := (5, .iaload, 1)) rfl
theorem dX11_soonestOf_6 : decode cX11_soonestOf 6 = .ok (.istore_n 2, 1) := dget daX11_soonestOf_0 4 (q := (6, .istore_n 2, 1)) rfl
theorem dX11_soonestOf_7 : decode cX11_soonestOf 7 = .ok (.aload_n 1, 1) := dget daX11_soonestOf_0 5 (q := (7, .aload_n 1, 1)) rfl
theorem dX11_soonestOf_8 : decode cX11_soonestOf 8 = .ok (.iload_n 2, 1) := dget daX11_soonestOf_0 6 (q := (8, .iload_n 2, 1)) rfl
theorem dX11_soonestOf_9 : decode cX11_soonestOf 9 = .ok (.invokevirtual 208, 3) := dget daX11_soonestOf_0 7 (q := (9, .invokevirtual 208, 3)) rfl
theorem dX11_soonestOf_12 : decode cX11_soonestOf 12 = .ok (.istore_n 3, 1) := dget daX11_soonestOf_0 8 (q := (12, .istore_n 3, 1)) rfl
theorem dX11_soonestOf_13 : decode cX11_soonestOf 13 = .ok (.iload_n 3, 1) := dget daX11_soonestOf_0 9 (q := (13, .iload_n 3, 1)) rfl
theorem dX11_soonestOf_14 : decode cX11_soonestOf 14 = .ok (.bipush (-9), 2) := dget daX11_soonestOf_0 10 (q := (14, .bipush (-9), 2)) rfl
theorem dX11_soonestOf_16 : decode cX11_soonestOf 16 = .ok (.if_icmp .ne 11, 3) := dget daX11_soonestOf_0 11 (q := (16, .if_icmp .ne 11, 3)) rfl
theorem dX11_soonestOf_19 : decode cX11_soonestOf 19 = .ok (.aload_n 1, 1) := dget daX11_soonestOf_0 12 (q := (19, .aload_n 1, 1)) rfl
theorem dX11_soonestOf_20 : decode cX11_soonestOf 20 = .ok (.getfield 343, 3) := dget daX11_soonestOf_0 13 (q := (20, .getfield 343, 3)) rfl
theorem dX11_soonestOf_23 : decode cX11_soonestOf 23 = .ok (.getfield 347, 3) := dget daX11_soonestOf_0 14 (q := (23, .getfield 347, 3)) rfl
theorem dX11_soonestOf_26 : decode cX11_soonestOf 26 = .ok (.ireturn, 1) := dget daX11_soonestOf_0 15 (q := (26, .ireturn, 1)) rfl
theorem dX11_soonestOf_27 : decode cX11_soonestOf 27 = .ok (.aload_n 1, 1) := dget daX11_soonestOf_0 16 (q := (27, .aload_n 1, 1)) rfl
theorem dX11_soonestOf_28 : decode cX11_soonestOf 28 = .ok (.getfield 350, 3) := dget daX11_soonestOf_0 17 (q := (28, .getfield 350, 3)) rfl
theorem dX11_soonestOf_31 : decode cX11_soonestOf 31 = .ok (.iload_n 3, 1) := dget daX11_soonestOf_0 18 (q := (31, .iload_n 3, 1)) rfl
theorem dX11_soonestOf_32 : decode cX11_soonestOf 32 = .ok (.aaload, 1) := dget daX11_soonestOf_0 19 (q := (32, .aaload, 1)) rfl
theorem dX11_soonestOf_33 : decode cX11_soonestOf 33 = .ok (.astore 4, 2) := dget daX11_soonestOf_0 20 (q := (33, .astore 4, 2)) rfl
theorem dX11_soonestOf_35 : decode cX11_soonestOf 35 = .ok (.iload_n 3, 1) := dget daX11_soonestOf_0 21 (q := (35, .iload_n 3, 1)) rfl
theorem dX11_soonestOf_36 : decode cX11_soonestOf 36 = .ok (.ifCond .ne 11, 3) := dget daX11_soonestOf_0 22 (q := (36, .ifCond .ne 11, 3)) rfl
theorem dX11_soonestOf_39 : decode cX11_soonestOf 39 = .ok (.aload 4, 2) := dget daX11_soonestOf_0 23 (q := (39, .aload 4, 2)) rfl
theorem dX11_soonestOf_41 : decode cX11_soonestOf 41 = .ok (.getfield 177, 3) := dget daX11_soonestOf_0 24 (q := (41, .getfield 177, 3)) rfl
theorem dX11_soonestOf_44 : decode cX11_soonestOf 44 = .ok (.goto 14, 3) := dget daX11_soonestOf_0 25 (q := (44, .goto 14, 3)) rfl
theorem dX11_soonestOf_47 : decode cX11_soonestOf 47 = .ok (.aload_n 1, 1) := dget daX11_soonestOf_0 26 (q := (47, .aload_n 1, 1)) rfl
theorem dX11_soonestOf_48 : decode cX11_soonestOf 48 = .ok (.getfield 350, 3) := dget daX11_soonestOf_0 27 (q := (48, .getfield 350, 3)) rfl
theorem dX11_soonestOf_51 : decode cX11_soonestOf 51 = .ok (.iload_n 3, 1) := dget daX11_soonestOf_0 28 (q := (51, .iload_n 3, 1)) rfl
theorem dX11_soonestOf_52 : decode cX11_soonestOf 52 = .ok (.iconst 1, 1) := dget daX11_soonestOf_0 29 (q := (52, .iconst 1, 1)) rfl
theorem dX11_soonestOf_53 : decode cX11_soonestOf 53 = .ok (.isub, 1) := dget daX11_soonestOf_0 30 (q := (53, .isub, 1)) rfl
theorem dX11_soonestOf_54 : decode cX11_soonestOf 54 = .ok (.aaload, 1) := dget daX11_soonestOf_0 31 (q := (54, .aaload, 1)) rfl
theorem dX11_soonestOf_55 : decode cX11_soonestOf 55 = .ok (.getfield 347, 3) := dget daX11_soonestOf_0 32 (q := (55, .getfield 347, 3)) rfl
theorem dX11_soonestOf_58 : decode cX11_soonestOf 58 = .ok (.istore 5, 2) := dget daX11_soonestOf_0 33 (q := (58, .istore 5, 2)) rfl
theorem dX11_soonestOf_60 : decode cX11_soonestOf 60 = .ok (.aload_n 0, 1) := dget daX11_soonestOf_0 34 (q := (60, .aload_n 0, 1)) rfl
theorem dX11_soonestOf_61 : decode cX11_soonestOf 61 = .ok (.getfield 19, 3) := dget daX11_soonestOf_0 35 (q := (61, .getfield 19, 3)) rfl
theorem dX11_soonestOf_64 : decode cX11_soonestOf 64 = .ok (.aload 4, 2) := dget daX11_soonestOf_0 36 (q := (64, .aload 4, 2)) rfl
theorem dX11_soonestOf_66 : decode cX11_soonestOf 66 = .ok (.getfield 354, 3) := dget daX11_soonestOf_0 37 (q := (66, .getfield 354, 3)) rfl
theorem dX11_soonestOf_69 : decode cX11_soonestOf 69 = .ok (.iload 5, 2) := dget daX11_soonestOf_0 38 (q := (69, .iload 5, 2)) rfl
theorem dX11_soonestOf_71 : decode cX11_soonestOf 71 = .ok (.aload_n 1, 1) := dget daX11_soonestOf_0 39 (q := (71, .aload_n 1, 1)) rfl
def tdaX11_soonestOf_1 : List (Nat × (Instr × Nat)) := [(72, .getfield 343, 3), (75, .getfield 358, 3), (78, .iload_n 2, 1), (79, .invokevirtual 361, 3), (82, .ireturn, 1)]
theorem daX11_soonestOf_1 : tdaX11_soonestOf_1.all (fun q => decide (decode cX11_soonestOf q.1 = .ok q.2)) = true := by decide +kernel
theorem dX11_soonestOf_72 : decode cX11_soonestOf 72 = .ok (.getfield 343, 3) := dget daX11_soonestOf_1 0 (q := (72, .getfield 343, 3)) rfl
theorem dX11_soonestOf_75 : decode cX11_soonestOf 75 = .ok (.getfield 358, 3) := dget daX11_soonestOf_1 1 (q := (75, .getfield 358, 3)) rfl
theorem dX11_soonestOf_78 : decode cX11_soonestOf 78 = .ok (.iload_n 2, 1) := dget daX11_soonestOf_1 2 (q := (78, .iload_n 2, 1)) rfl
theorem dX11_soonestOf_79 : decode cX11_soonestOf 79 = .ok (.invokevirtual 361, 3) := dget daX11_soonestOf_1 3 (q := (79, .invokevirtual 361, 3)) rfl
theorem dX11_soonestOf_82 : decode cX11_soonestOf 82 = .ok (.ireturn, 1) := dget daX11_soonestOf_1 4 (q := (82, .ireturn, 1)) rfl
def tdaX11_hoursOf_0 : List (Nat × (Instr × Nat)) := [(0, .aload_n 0, 1), (1, .aload_n 1, 1), (2, .invokevirtual 211, 3), (5, .istore_n 2, 1), (6, .iload_n 2, 1), (7, .bipush (-9), 2), (9, .if_icmp .ne 9, 3), (12, .sipush 9999, 3), (15, .goto 16, 3), (18, .iconst 0, 1), (19, .iload_n 2, 1), (20, .aload_n 1, 1), (21, .getfield 343, 3), (24, .getfield 365, 3), (27, .isub, 1), (28, .invokestatic 180, 3), (31, .ireturn, 1)]
theorem daX11_hoursOf_0 : tdaX11_hoursOf_0.all (fun q => decide (decode cX11_hoursOf q.1 = .ok q.2)) = true := by decide +kernel
theorem dX11_hoursOf_0 : decode cX11_hoursOf 0 = .ok (.aload_n 0, 1) := dget daX11_hoursOf_0 0 (q := (0, .aload_n 0, 1)) rfl
theorem dX11_hoursOf_1 : decode cX11_hoursOf 1 = .ok (.aload_n 1, 1) := dget daX11_hoursOf_0 1 (q := (1, .aload_n 1, 1)) rfl
theorem dX11_hoursOf_2 : decode cX11_hoursOf 2 = .ok (.invokevirtual 211, 3) := dget daX11_hoursOf_0 2 (q := (2, .invokevirtual 211, 3)) rfl
theorem dX11_hoursOf_5 : decode cX11_hoursOf 5 = .ok (.istore_n 2, 1) := dget daX11_hoursOf_0 3 (q := (5, .istore_n 2, 1)) rfl
theorem dX11_hoursOf_6 : decode cX11_hoursOf 6 = .ok (.iload_n 2, 1) := dget daX11_hoursOf_0 4 (q := (6, .iload_n 2, 1)) rfl
theorem dX11_hoursOf_7 : decode cX11_hoursOf 7 = .ok (.bipush (-9), 2) := dget daX11_hoursOf_0 5 (q := (7, .bipush (-9), 2)) rfl
theorem dX11_hoursOf_9 : decode cX11_hoursOf 9 = .ok (.if_icmp .ne 9, 3) := dget daX11_hoursOf_0 6 (q := (9, .if_icmp .ne 9, 3)) rfl
theorem dX11_hoursOf_12 : decode cX11_hoursOf 12 = .ok (.sipush 9999, 3) := dget daX11_hoursOf_0 7 (q := (12, .sipush 9999, 3)) rfl
theorem dX11_hoursOf_15 : decode cX11_hoursOf 15 = .ok (.goto 16, 3) := dget daX11_hoursOf_0 8 (q := (15, .goto 16, 3)) rfl
theorem dX11_hoursOf_18 : decode cX11_hoursOf 18 = .ok (.iconst 0, 1) := dget daX11_hoursOf_0 9 (q := (18, .iconst 0, 1)) rfl
theorem dX11_hoursOf_19 : decode cX11_hoursOf 19 = .ok (.iload_n 2, 1) := dget daX11_hoursOf_0 10 (q := (19, .iload_n 2, 1)) rfl
theorem dX11_hoursOf_20 : decode cX11_hoursOf 20 = .ok (.aload_n 1, 1) := dget daX11_hoursOf_0 11 (q := (20, .aload_n 1, 1)) rfl
theorem dX11_hoursOf_21 : decode cX11_hoursOf 21 = .ok (.getfield 343, 3) := dget daX11_hoursOf_0 12 (q := (21, .getfield 343, 3)) rfl
theorem dX11_hoursOf_24 : decode cX11_hoursOf 24 = .ok (.getfield 365, 3) := dget daX11_hoursOf_0 13 (q := (24, .getfield 365, 3)) rfl
theorem dX11_hoursOf_27 : decode cX11_hoursOf 27 = .ok (.isub, 1) := dget daX11_hoursOf_0 14 (q := (27, .isub, 1)) rfl
theorem dX11_hoursOf_28 : decode cX11_hoursOf 28 = .ok (.invokestatic 180, 3) := dget daX11_hoursOf_0 15 (q := (28, .invokestatic 180, 3)) rfl
theorem dX11_hoursOf_31 : decode cX11_hoursOf 31 = .ok (.ireturn, 1) := dget daX11_hoursOf_0 16 (q := (31, .ireturn, 1)) rfl
def tdaX11_blameOf_0 : List (Nat × (Instr × Nat)) := [(0, .aload_n 1, 1), (1, .aload_n 0, 1), (2, .getfield 67, 3), (5, .iconst 2, 1), (6, .iaload, 1), (7, .invokevirtual 368, 3), (10, .astore_n 2, 1), (11, .aload_n 2, 1), (12, .getfield 126, 3), (15, .ifCond .eq 10, 3), (18, .aload_n 2, 1), (19, .getfield 145, 3), (22, .ifCond .ne 6, 3), (25, .bipush (-9), 2), (27, .ireturn, 1), (28, .aload_n 0, 1), (29, .getfield 19, 3), (32, .aload_n 2, 1), (33, .aload_n 0, 1), (34, .getfield 67, 3), (37, .iconst 0, 1), (38, .iaload, 1), (39, .aload_n 0, 1), (40, .getfield 67, 3), (43, .iconst 1, 1), (44, .iaload, 1), (45, .invokevirtual 170, 3), (48, .aload_n 0, 1), (49, .getfield 19, 3), (52, .invokevirtual 371, 3), (55, .ireturn, 1)]
theorem daX11_blameOf_0 : tdaX11_blameOf_0.all (fun q => decide (decode cX11_blameOf q.1 = .ok q.2)) = true := by decide +kernel
theorem dX11_blameOf_0 : decode cX11_blameOf 0 = .ok (.aload_n 1, 1) := dget daX11_blameOf_0 0 (q := (0, .aload_n 1, 1)) rfl
theorem dX11_blameOf_1 : decode cX11_blameOf 1 = .ok (.aload_n 0, 1) := dget daX11_blameOf_0 1 (q := (1, .aload_n 0, 1)) rfl
theorem dX11_blameOf_2 : decode cX11_blameOf 2 = .ok (.getfield 67, 3) := dget daX11_blameOf_0 2 (q := (2, .getfield 67, 3)) rfl
theorem dX11_blameOf_5 : decode cX11_blameOf 5 = .ok (.iconst 2, 1) := dget daX11_blameOf_0 3 (q := (5, .iconst 2, 1)) rfl
theorem dX11_blameOf_6 : decode cX11_blameOf 6 = .ok (.iaload, 1) := dget daX11_blameOf_0 4 (q := (6, .iaload, 1)) rfl
theorem dX11_blameOf_7 : decode cX11_blameOf 7 = .ok (.invokevirtual 368, 3) := dget daX11_blameOf_0 5 (q := (7, .invokevirtual 368, 3)) rfl
theorem dX11_blameOf_10 : decode cX11_blameOf 10 = .ok (.astore_n 2, 1) := dget daX11_blameOf_0 6 (q := (10, .astore_n 2, 1)) rfl
theorem dX11_blameOf_11 : decode cX11_blameOf 11 = .ok (.aload_n 2, 1) := dget daX11_blameOf_0 7 (q := (11, .aload_n 2, 1)) rfl
theorem dX11_blameOf_12 : decode cX11_blameOf 12 = .ok (.getfield 126, 3) := dget daX11_blameOf_0 8 (q := (12, .getfield 126, 3)) rfl
theorem dX11_blameOf_15 : decode cX11_blameOf 15 = .ok (.ifCond .eq 10, 3) := dget daX11_blameOf_0 9 (q := (15, .ifCond .eq 10, 3)) rfl
theorem dX11_blameOf_18 : decode cX11_blameOf 18 = .ok (.aload_n 2, 1) := dget daX11_blameOf_0 10 (q := (18, .aload_n 2, 1)) rfl
theorem dX11_blameOf_19 : decode cX11_blameOf 19 = .ok (.getfield 145, 3) := dget daX11_blameOf_0 11 (q := (19, .getfield 145, 3)) rfl
theorem dX11_blameOf_22 : decode cX11_blameOf 22 = .ok (.ifCond .ne 6, 3) := dget daX11_blameOf_0 12 (q := (22, .ifCond .ne 6, 3)) rfl
theorem dX11_blameOf_25 : decode cX11_blameOf 25 = .ok (.bipush (-9), 2) := dget daX11_blameOf_0 13 (q := (25, .bipush (-9), 2)) rfl
theorem dX11_blameOf_27 : decode cX11_blameOf 27 = .ok (.ireturn, 1) := dget daX11_blameOf_0 14 (q := (27, .ireturn, 1)) rfl
theorem dX11_blameOf_28 : decode cX11_blameOf 28 = .ok (.aload_n 0, 1) := dget daX11_blameOf_0 15 (q := (28, .aload_n 0, 1)) rfl
theorem dX11_blameOf_29 : decode cX11_blameOf 29 = .ok (.getfield 19, 3) := dget daX11_blameOf_0 16 (q := (29, .getfield 19, 3)) rfl
theorem dX11_blameOf_32 : decode cX11_blameOf 32 = .ok (.aload_n 2, 1) := dget daX11_blameOf_0 17 (q := (32, .aload_n 2, 1)) rfl
theorem dX11_blameOf_33 : decode cX11_blameOf 33 = .ok (.aload_n 0, 1) := dget daX11_blameOf_0 18 (q := (33, .aload_n 0, 1)) rfl
theorem dX11_blameOf_34 : decode cX11_blameOf 34 = .ok (.getfield 67, 3) := dget daX11_blameOf_0 19 (q := (34, .getfield 67, 3)) rfl
theorem dX11_blameOf_37 : decode cX11_blameOf 37 = .ok (.iconst 0, 1) := dget daX11_blameOf_0 20 (q := (37, .iconst 0, 1)) rfl
theorem dX11_blameOf_38 : decode cX11_blameOf 38 = .ok (.iaload, 1) := dget daX11_blameOf_0 21 (q := (38, .iaload, 1)) rfl
theorem dX11_blameOf_39 : decode cX11_blameOf 39 = .ok (.aload_n 0, 1) := dget daX11_blameOf_0 22 (q := (39, .aload_n 0, 1)) rfl
theorem dX11_blameOf_40 : decode cX11_blameOf 40 = .ok (.getfield 67, 3) := dget daX11_blameOf_0 23 (q := (40, .getfield 67, 3)) rfl
theorem dX11_blameOf_43 : decode cX11_blameOf 43 = .ok (.iconst 1, 1) := dget daX11_blameOf_0 24 (q := (43, .iconst 1, 1)) rfl
theorem dX11_blameOf_44 : decode cX11_blameOf 44 = .ok (.iaload, 1) := dget daX11_blameOf_0 25 (q := (44, .iaload, 1)) rfl
theorem dX11_blameOf_45 : decode cX11_blameOf 45 = .ok (.invokevirtual 170, 3) := dget daX11_blameOf_0 26 (q := (45, .invokevirtual 170, 3)) rfl
theorem dX11_blameOf_48 : decode cX11_blameOf 48 = .ok (.aload_n 0, 1) := dget daX11_blameOf_0 27 (q := (48, .aload_n 0, 1)) rfl
theorem dX11_blameOf_49 : decode cX11_blameOf 49 = .ok (.getfield 19, 3) := dget daX11_blameOf_0 28 (q := (49, .getfield 19, 3)) rfl
theorem dX11_blameOf_52 : decode cX11_blameOf 52 = .ok (.invokevirtual 371, 3) := dget daX11_blameOf_0 29 (q := (52, .invokevirtual 371, 3)) rfl
theorem dX11_blameOf_55 : decode cX11_blameOf 55 = .ok (.ireturn, 1) := dget daX11_blameOf_0 30 (q := (55, .ireturn, 1)) rfl
def tdaX11_sumFor_0 : List (Nat × (Instr × Nat)) := [(0, .aload_n 0, 1), (1, .getfield 33, 3), (4, .aload_n 1, 1), (5, .iload_n 2, 1), (6, .invokevirtual 236, 3), (9, .istore_n 3, 1), (10, .iload_n 3, 1), (11, .bipush (-9), 2), (13, .if_icmp .eq 23, 3), (16, .aload_n 0, 1), (17, .getfield 33, 3), (20, .iload_n 3, 1), (21, .aload_n 0, 1), (22, .aload_n 1, 1), (23, .invokevirtual 218, 3), (26, .aload_n 1, 1), (27, .invokevirtual 239, 3), (30, .invokevirtual 243, 3), (33, .ifCond .eq 5, 3), (36, .iconst 0, 1), (37, .ireturn, 1), (38, .aload_n 0, 1), (39, .getfield 33, 3), (42, .iload_n 3, 1), (43, .iload_n 2, 1), (44, .aload_n 0, 1), (45, .aload_n 1, 1), (46, .invokevirtual 215, 3), (49, .aload_n 0, 1), (50, .aload_n 1, 1), (51, .invokevirtual 374, 3), (54, .invokevirtual 377, 3), (57, .ireturn, 1)]
theorem daX11_sumFor_0 : tdaX11_sumFor_0.all (fun q => decide (decode cX11_sumFor q.1 = .ok q.2)) = true := by decide +kernel
theorem dX11_sumFor_0 : decode cX11_sumFor 0 = .ok (.aload_n 0, 1) := dget daX11_sumFor_0 0 (q := (0, .aload_n 0, 1)) rfl
theorem dX11_sumFor_1 : decode cX11_sumFor 1 = .ok (.getfield 33, 3) := dget daX11_sumFor_0 1 (q := (1, .getfield 33, 3)) rfl
theorem dX11_sumFor_4 : decode cX11_sumFor 4 = .ok (.aload_n 1, 1) := dget daX11_sumFor_0 2 (q := (4, .aload_n 1, 1)) rfl
theorem dX11_sumFor_5 : decode cX11_sumFor 5 = .ok (.iload_n 2, 1) := dget daX11_sumFor_0 3 (q := (5, .iload_n 2, 1)) rfl
theorem dX11_sumFor_6 : decode cX11_sumFor 6 = .ok (.invokevirtual 236, 3) := dget daX11_sumFor_0 4 (q := (6, .invokevirtual 236, 3)) rfl
theorem dX11_sumFor_9 : decode cX11_sumFor 9 = .ok (.istore_n 3, 1) := dget daX11_sumFor_0 5 (q := (9, .istore_n 3, 1)) rfl
theorem dX11_sumFor_10 : decode cX11_sumFor 10 = .ok (.iload_n 3, 1) := dget daX11_sumFor_0 6 (q := (10, .iload_n 3, 1)) rfl
theorem dX11_sumFor_11 : decode cX11_sumFor 11 = .ok (.bipush (-9), 2) := dget daX11_sumFor_0 7 (q := (11, .bipush (-9), 2)) rfl
theorem dX11_sumFor_13 : decode cX11_sumFor 13 = .ok (.if_icmp .eq 23, 3) := dget daX11_sumFor_0 8 (q := (13, .if_icmp .eq 23, 3)) rfl
theorem dX11_sumFor_16 : decode cX11_sumFor 16 = .ok (.aload_n 0, 1) := dget daX11_sumFor_0 9 (q := (16, .aload_n 0, 1)) rfl
theorem dX11_sumFor_17 : decode cX11_sumFor 17 = .ok (.getfield 33, 3) := dget daX11_sumFor_0 10 (q := (17, .getfield 33, 3)) rfl
theorem dX11_sumFor_20 : decode cX11_sumFor 20 = .ok (.iload_n 3, 1) := dget daX11_sumFor_0 11 (q := (20, .iload_n 3, 1)) rfl
theorem dX11_sumFor_21 : decode cX11_sumFor 21 = .ok (.aload_n 0, 1) := dget daX11_sumFor_0 12 (q := (21, .aload_n 0, 1)) rfl
theorem dX11_sumFor_22 : decode cX11_sumFor 22 = .ok (.aload_n 1, 1) := dget daX11_sumFor_0 13 (q := (22, .aload_n 1, 1)) rfl
theorem dX11_sumFor_23 : decode cX11_sumFor 23 = .ok (.invokevirtual 218, 3) := dget daX11_sumFor_0 14 (q := (23, .invokevirtual 218, 3)) rfl
theorem dX11_sumFor_26 : decode cX11_sumFor 26 = .ok (.aload_n 1, 1) := dget daX11_sumFor_0 15 (q := (26, .aload_n 1, 1)) rfl
theorem dX11_sumFor_27 : decode cX11_sumFor 27 = .ok (.invokevirtual 239, 3) := dget daX11_sumFor_0 16 (q := (27, .invokevirtual 239, 3)) rfl
theorem dX11_sumFor_30 : decode cX11_sumFor 30 = .ok (.invokevirtual 243, 3) := dget daX11_sumFor_0 17 (q := (30, .invokevirtual 243, 3)) rfl
theorem dX11_sumFor_33 : decode cX11_sumFor 33 = .ok (.ifCond .eq 5, 3) := dget daX11_sumFor_0 18 (q := (33, .ifCond .eq 5, 3)) rfl
theorem dX11_sumFor_36 : decode cX11_sumFor 36 = .ok (.iconst 0, 1) := dget daX11_sumFor_0 19 (q := (36, .iconst 0, 1)) rfl
theorem dX11_sumFor_37 : decode cX11_sumFor 37 = .ok (.ireturn, 1) := dget daX11_sumFor_0 20 (q := (37, .ireturn, 1)) rfl
theorem dX11_sumFor_38 : decode cX11_sumFor 38 = .ok (.aload_n 0, 1) := dget daX11_sumFor_0 21 (q := (38, .aload_n 0, 1)) rfl
theorem dX11_sumFor_39 : decode cX11_sumFor 39 = .ok (.getfield 33, 3) := dget daX11_sumFor_0 22 (q := (39, .getfield 33, 3)) rfl
theorem dX11_sumFor_42 : decode cX11_sumFor 42 = .ok (.iload_n 3, 1) := dget daX11_sumFor_0 23 (q := (42, .iload_n 3, 1)) rfl
theorem dX11_sumFor_43 : decode cX11_sumFor 43 = .ok (.iload_n 2, 1) := dget daX11_sumFor_0 24 (q := (43, .iload_n 2, 1)) rfl
theorem dX11_sumFor_44 : decode cX11_sumFor 44 = .ok (.aload_n 0, 1) := dget daX11_sumFor_0 25 (q := (44, .aload_n 0, 1)) rfl
theorem dX11_sumFor_45 : decode cX11_sumFor 45 = .ok (.aload_n 1, 1) := dget daX11_sumFor_0 26 (q := (45, .aload_n 1, 1)) rfl
theorem dX11_sumFor_46 : decode cX11_sumFor 46 = .ok (.invokevirtual 215, 3) := dget daX11_sumFor_0 27 (q := (46, .invokevirtual 215, 3)) rfl
theorem dX11_sumFor_49 : decode cX11_sumFor 49 = .ok (.aload_n 0, 1) := dget daX11_sumFor_0 28 (q := (49, .aload_n 0, 1)) rfl
theorem dX11_sumFor_50 : decode cX11_sumFor 50 = .ok (.aload_n 1, 1) := dget daX11_sumFor_0 29 (q := (50, .aload_n 1, 1)) rfl
theorem dX11_sumFor_51 : decode cX11_sumFor 51 = .ok (.invokevirtual 374, 3) := dget daX11_sumFor_0 30 (q := (51, .invokevirtual 374, 3)) rfl
theorem dX11_sumFor_54 : decode cX11_sumFor 54 = .ok (.invokevirtual 377, 3) := dget daX11_sumFor_0 31 (q := (54, .invokevirtual 377, 3)) rfl
theorem dX11_sumFor_57 : decode cX11_sumFor 57 = .ok (.ireturn, 1) := dget daX11_sumFor_0 32 (q := (57, .ireturn, 1)) rfl
def tdaX11_milesOf_0 : List (Nat × (Instr × Nat)) := [(0, .aload_n 0, 1), (1, .getfield 10, 3), (4, .aload_n 1, 1), (5, .getfield 381, 3), (8, .getfield 354, 3), (11, .aload_n 1, 1), (12, .getfield 343, 3), (15, .getfield 358, 3), (18, .invokevirtual 94, 3), (21, .ireturn, 1)]
theorem daX11_milesOf_0 : tdaX11_milesOf_0.all (fun q => decide (decode cX11_milesOf q.1 = .ok q.2)) = true := by decide +kernel
theorem dX11_milesOf_0 : decode cX11_milesOf 0 = .ok (.aload_n 0, 1) := dget daX11_milesOf_0 0 (q := (0, .aload_n 0, 1)) rfl
theorem dX11_milesOf_1 : decode cX11_milesOf 1 = .ok (.getfield 10, 3) := dget daX11_milesOf_0 1 (q := (1, .getfield 10, 3)) rfl
theorem dX11_milesOf_4 : decode cX11_milesOf 4 = .ok (.aload_n 1, 1) := dget daX11_milesOf_0 2 (q := (4, .aload_n 1, 1)) rfl
theorem dX11_milesOf_5 : decode cX11_milesOf 5 = .ok (.getfield 381, 3) := dget daX11_milesOf_0 3 (q := (5, .getfield 381, 3)) rfl
theorem dX11_milesOf_8 : decode cX11_milesOf 8 = .ok (.getfield 354, 3) := dget daX11_milesOf_0 4 (q := (8, .getfield 354, 3)) rfl
theorem dX11_milesOf_11 : decode cX11_milesOf 11 = .ok (.aload_n 1, 1) := dget daX11_milesOf_0 5 (q := (11, .aload_n 1, 1)) rfl
theorem dX11_milesOf_12 : decode cX11_milesOf 12 = .ok (.getfield 343, 3) := dget daX11_milesOf_0 6 (q := (12, .getfield 343, 3)) rfl
theorem dX11_milesOf_15 : decode cX11_milesOf 15 = .ok (.getfield 358, 3) := dget daX11_milesOf_0 7 (q := (15, .getfield 358, 3)) rfl
theorem dX11_milesOf_18 : decode cX11_milesOf 18 = .ok (.invokevirtual 94, 3) := dget daX11_milesOf_0 8 (q := (18, .invokevirtual 94, 3)) rfl
theorem dX11_milesOf_21 : decode cX11_milesOf 21 = .ok (.ireturn, 1) := dget daX11_milesOf_0 9 (q := (21, .ireturn, 1)) rfl
def tdaX11_isBarred_0 : List (Nat × (Instr × Nat)) := [(0, .aload_n 0, 1), (1, .getfield 33, 3), (4, .aload_n 1, 1), (5, .getfield 264, 3), (8, .aload_n 1, 1), (9, .getfield 271, 3), (12, .invokevirtual 236, 3), (15, .istore_n 2, 1), (16, .iload_n 2, 1), (17, .bipush (-9), 2), (19, .if_icmp .ne 5, 3), (22, .iconst 0, 1), (23, .ireturn, 1), (24, .aload_n 0, 1), (25, .getfield 40, 3), (28, .iload_n 2, 1), (29, .aload_n 1, 1), (30, .getfield 264, 3), (33, .invokevirtual 384, 3), (36, .iconst 1, 1), (37, .iadd, 1), (38, .aload_n 1, 1), (39, .getfield 271, 3), (42, .invokevirtual 387, 3), (45, .aload_n 0, 1), (46, .getfield 40, 3), (49, .getfield 247, 3), (52, .iload_n 2, 1), (53, .iaload, 1), (54, .if_icmp .le 7, 3), (57, .iconst 1, 1), (58, .goto 4, 3), (61, .iconst 0, 1), (62, .ireturn, 1)]
theorem daX11_isBarred_0 : tdaX11_isBarred_0.all (fun q => decide (decode cX11_isBarred q.1 = .ok q.2)) = true := by decide +kernel
theorem dX11_isBarred_0 : decode cX11_isBarred 0 = .ok (.aload_n 0, 1) := dget daX11_isBarred_0 0 (q := (0, .aload_n 0, 1)) rfl
theorem dX11_isBarred_1 : decode cX11_isBarred 1 = .ok (.getfield 33, 3) := dget daX11_isBarred_0 1 (q := (1, .getfield 33, 3)) rfl
theorem dX11_isBarred_4 : decode cX11_isBarred 4 = .ok (.aload_n 1, 1) := dget daX11_isBarred_0 2 (q := (4, .aload_n 1, 1)) rfl
theorem dX11_isBarred_5 : decode cX11_isBarred 5 = .ok (.getfield 264, 3) := dget daX11_isBarred_0 3 (q := (5, .getfield 264, 3)) rfl
theorem dX11_isBarred_8 : decode cX11_isBarred 8 = .ok (.aload_n 1, 1) := dget daX11_isBarred_0 4 (q := (8, .aload_n 1, 1)) rfl
theorem dX11_isBarred_9 : decode cX11_isBarred 9 = .ok (.getfield 271, 3) := dget daX11_isBarred_0 5 (q := (9, .getfield 271, 3)) rfl
theorem dX11_isBarred_12 : decode cX11_isBarred 12 = .ok (.invokevirtual 236, 3) := dget daX11_isBarred_0 6 (q := (12, .invokevirtual 236, 3)) rfl
theorem dX11_isBarred_15 : decode cX11_isBarred 15 = .ok (.istore_n 2, 1) := dget daX11_isBarred_0 7 (q := (15, .istore_n 2, 1)) rfl
theorem dX11_isBarred_16 : decode cX11_isBarred 16 = .ok (.iload_n 2, 1) := dget daX11_isBarred_0 8 (q := (16, .iload_n 2, 1)) rfl
theorem dX11_isBarred_17 : decode cX11_isBarred 17 = .ok (.bipush (-9), 2) := dget daX11_isBarred_0 9 (q := (17, .bipush (-9), 2)) rfl
theorem dX11_isBarred_19 : decode cX11_isBarred 19 = .ok (.if_icmp .ne 5, 3) := dget daX11_isBarred_0 10 (q := (19, .if_icmp .ne 5, 3)) rfl
theorem dX11_isBarred_22 : decode cX11_isBarred 22 = .ok (.iconst 0, 1) := dget daX11_isBarred_0 11 (q := (22, .iconst 0, 1)) rfl
theorem dX11_isBarred_23 : decode cX11_isBarred 23 = .ok (.ireturn, 1) := dget daX11_isBarred_0 12 (q := (23, .ireturn, 1)) rfl
theorem dX11_isBarred_24 : decode cX11_isBarred 24 = .ok (.aload_n 0, 1) := dget daX11_isBarred_0 13 (q := (24, .aload_n 0, 1)) rfl
theorem dX11_isBarred_25 : decode cX11_isBarred 25 = .ok (.getfield 40, 3) := dget daX11_isBarred_0 14 (q := (25, .getfield 40, 3)) rfl
theorem dX11_isBarred_28 : decode cX11_isBarred 28 = .ok (.iload_n 2, 1) := dget daX11_isBarred_0 15 (q := (28, .iload_n 2, 1)) rfl
theorem dX11_isBarred_29 : decode cX11_isBarred 29 = .ok (.aload_n 1, 1) := dget daX11_isBarred_0 16 (q := (29, .aload_n 1, 1)) rfl
theorem dX11_isBarred_30 : decode cX11_isBarred 30 = .ok (.getfield 264, 3) := dget daX11_isBarred_0 17 (q := (30, .getfield 264, 3)) rfl
theorem dX11_isBarred_33 : decode cX11_isBarred 33 = .ok (.invokevirtual 384, 3) := dget daX11_isBarred_0 18 (q := (33, .invokevirtual 384, 3)) rfl
theorem dX11_isBarred_36 : decode cX11_isBarred 36 = .ok (.iconst 1, 1) := dget daX11_isBarred_0 19 (q := (36, .iconst 1, 1)) rfl
theorem dX11_isBarred_37 : decode cX11_isBarred 37 = .ok (.iadd, 1) := dget daX11_isBarred_0 20 (q := (37, .iadd, 1)) rfl
theorem dX11_isBarred_38 : decode cX11_isBarred 38 = .ok (.aload_n 1, 1) := dget daX11_isBarred_0 21 (q := (38, .aload_n 1, 1)) rfl
theorem dX11_isBarred_39 : decode cX11_isBarred 39 = .ok (.getfield 271, 3) := dget daX11_isBarred_0 22 (q := (39, .getfield 271, 3)) rfl
theorem dX11_isBarred_42 : decode cX11_isBarred 42 = .ok (.invokevirtual 387, 3) := dget daX11_isBarred_0 23 (q := (42, .invokevirtual 387, 3)) rfl
theorem dX11_isBarred_45 : decode cX11_isBarred 45 = .ok (.aload_n 0, 1) := dget daX11_isBarred_0 24 (q := (45, .aload_n 0, 1)) rfl
theorem dX11_isBarred_46 : decode cX11_isBarred 46 = .ok (.getfield 40, 3) := dget daX11_isBarred_0 25 (q := (46, .getfield 40, 3)) rfl
theorem dX11_isBarred_49 : decode cX11_isBarred 49 = .ok (.getfield 247, 3) := dget daX11_isBarred_0 26 (q := (49, .getfield 247, 3)) rfl
theorem dX11_isBarred_52 : decode cX11_isBarred 52 = .ok (.iload_n 2, 1) := dget daX11_isBarred_0 27 (q := (52, .iload_n 2, 1)) rfl
theorem dX11_isBarred_53 : decode cX11_isBarred 53 = .ok (.iaload, 1) := dget daX11_isBarred_0 28 (q := (53, .iaload, 1)) rfl
theorem dX11_isBarred_54 : decode cX11_isBarred 54 = .ok (.if_icmp .le 7, 3) := dget daX11_isBarred_0 29 (q := (54, .if_icmp .le 7, 3)) rfl
theorem dX11_isBarred_57 : decode cX11_isBarred 57 = .ok (.iconst 1, 1) := dget daX11_isBarred_0 30 (q := (57, .iconst 1, 1)) rfl
theorem dX11_isBarred_58 : decode cX11_isBarred 58 = .ok (.goto 4, 3) := dget daX11_isBarred_0 31 (q := (58, .goto 4, 3)) rfl
theorem dX11_isBarred_61 : decode cX11_isBarred 61 = .ok (.iconst 0, 1) := dget daX11_isBarred_0 32 (q := (61, .iconst 0, 1)) rfl
theorem dX11_isBarred_62 : decode cX11_isBarred 62 = .ok (.ireturn, 1) := dget daX11_isBarred_0 33 (q := (62, .ireturn, 1)) rfl
def tdaX11_worthOf_0 : List (Nat × (Instr × Nat)) := [(0, .aload_n 0, 1), (1, .aload_n 1, 1), (2, .invokevirtual 274, 3), (5, .ifCond .eq 7, 3), (8, .iconst 0, 1), (9, .goto 15, 3), (12, .aload_n 0, 1), (13, .aload_n 1, 1), (14, .getfield 264, 3), (17, .aload_n 1, 1), (18, .getfield 271, 3), (21, .invokevirtual 232, 3), (24, .ireturn, 1)]
theorem daX11_worthOf_0 : tdaX11_worthOf_0.all (fun q => decide (decode cX11_worthOf q.1 = .ok q.2)) = true := by decide +kernel
theorem dX11_worthOf_0 : decode cX11_worthOf 0 = .ok (.aload_n 0, 1) := dget daX11_worthOf_0 0 (q := (0, .aload_n 0, 1)) rfl
theorem dX11_worthOf_1 : decode cX11_worthOf 1 = .ok (.aload_n 1, 1) := dget daX11_worthOf_0 1 (q := (1, .aload_n 1, 1)) rfl
theorem dX11_worthOf_2 : decode cX11_worthOf 2 = .ok (.invokevirtual 274, 3) := dget daX11_worthOf_0 2 (q := (2, .invokevirtual 274, 3)) rfl
theorem dX11_worthOf_5 : decode cX11_worthOf 5 = .ok (.ifCond .eq 7, 3) := dget daX11_worthOf_0 3 (q := (5, .ifCond .eq 7, 3)) rfl
theorem dX11_worthOf_8 : decode cX11_worthOf 8 = .ok (.iconst 0, 1) := dget daX11_worthOf_0 4 (q := (8, .iconst 0, 1)) rfl
theorem dX11_worthOf_9 : decode cX11_worthOf 9 = .ok (.goto 15, 3) := dget daX11_worthOf_0 5 (q := (9, .goto 15, 3)) rfl
theorem dX11_worthOf_12 : decode cX11_worthOf 12 = .ok (.aload_n 0, 1) := dget daX11_worthOf_0 6 (q := (12, .aload_n 0, 1)) rfl
theorem dX11_worthOf_13 : decode cX11_worthOf 13 = .ok (.aload_n 1, 1) := dget daX11_worthOf_0 7 (q := (13, .aload_n 1, 1)) rfl
theorem dX11_worthOf_14 : decode cX11_worthOf 14 = .ok (.getfield 264, 3) := dget daX11_worthOf_0 8 (q := (14, .getfield 264, 3)) rfl
theorem dX11_worthOf_17 : decode cX11_worthOf 17 = .ok (.aload_n 1, 1) := dget daX11_worthOf_0 9 (q := (17, .aload_n 1, 1)) rfl
theorem dX11_worthOf_18 : decode cX11_worthOf 18 = .ok (.getfield 271, 3) := dget daX11_worthOf_0 10 (q := (18, .getfield 271, 3)) rfl
theorem dX11_worthOf_21 : decode cX11_worthOf 21 = .ok (.invokevirtual 232, 3) := dget daX11_worthOf_0 11 (q := (21, .invokevirtual 232, 3)) rfl
theorem dX11_worthOf_24 : decode cX11_worthOf 24 = .ok (.ireturn, 1) := dget daX11_worthOf_0 12 (q := (24, .ireturn, 1)) rfl
