def tdaX12_soonestOf_5 : List (Nat × (Instr × Nat)) := [(375, .iload 6, 2), (377, .if_icmp .ge 12, 3), (380, .aload_n 0, 1), (381, .iload 7, 2), (383, .invokevirtual 190, 3), (386, .goto 5, 3), (389, .iload 6, 2), (391, .istore 6, 2), (393, .iinc 7 1, 3), (396, .goto (-83), 3), (399, .iload 6, 2), (401, .ireturn, 1)]
theorem daX12_soonestOf_5 : tdaX12_soonestOf_5.all (fun q => decide (decode cX12_soonestOf q.1 = .ok q.2)) = true := by decide +kernel
theorem dX12_soonestOf_375 : decode cX12_soonestOf 375 = .ok (.iload 6, 2) := dget daX12_soonestOf_5 0 (q := (375, .iload 6, 2)) rfl
theorem dX12_soonestOf_377 : decode cX12_soonestOf 377 = .ok (.if_icmp .ge 12, 3) := dget daX12_soonestOf_5 1 (q := (377, .if_icmp .ge 12, 3)) rfl
theorem dX12_soonestOf_380 : decode cX12_soonestOf 380 = .ok (.aload_n 0, 1) := dget daX12_soonestOf_5 2 (q := (380, .aload_n 0, 1)) rfl
theorem dX12_soonestOf_381 : decode cX12_soonestOf 381 = .ok (.iload 7, 2) := dget daX12_soonestOf_5 3 (q := (381, .iload 7, 2)) rfl
theorem dX12_soonestOf_383 : decode cX12_soonestOf 383 = .ok (.invokevirtual 190, 3) := dget daX12_soonestOf_5 4 (q := (383, .invokevirtual 190, 3)) rfl
theorem dX12_soonestOf_386 : decode cX12_soonestOf 386 = .ok (.goto 5, 3) := dget daX12_soonestOf_5 5 (q := (386, .goto 5, 3)) rfl
theorem dX12_soonestOf_389 : decode cX12_soonestOf 389 = .ok (.iload 6, 2) := dget daX12_soonestOf_5 6 (q := (389, .iload 6, 2)) rfl
theorem dX12_soonestOf_391 : decode cX12_soonestOf 391 = .ok (.istore 6, 2) := dget daX12_soonestOf_5 7 (q := (391, .istore 6, 2)) rfl
theorem dX12_soonestOf_393 : decode cX12_soonestOf 393 = .ok (.iinc 7 1, 3) := dget daX12_soonestOf_5 8 (q := (393, .iinc 7 1, 3)) rfl
theorem dX12_soonestOf_396 : decode cX12_soonestOf 396 = .ok (.goto (-83), 3) := dget daX12_soonestOf_5 9 (q := (396, .goto (-83), 3)) rfl
theorem dX12_soonestOf_399 : decode cX12_soonestOf 399 = .ok (.iload 6, 2) := dget daX12_soonestOf_5 10 (q := (399, .iload 6, 2)) rfl
theorem dX12_soonestOf_401 : decode cX12_soonestOf 401 = .ok (.ireturn, 1) := dget daX12_soonestOf_5 11 (q := (401, .ireturn, 1)) rfl
def tdaX12_soonest_0 : List (Nat × (Instr × Nat)) := [(0, .aload_n 0, 1), (1, .iload_n 1, 1), (2, .invokevirtual 226, 3), (5, .ifCond .eq 11, 3), (8, .aload_n 0, 1), (9, .iload_n 1, 1), (10, .invokevirtual 235, 3), (13, .goto 8, 3), (16, .aload_n 0, 1), (17, .iconst (-1), 1), (18, .invokevirtual 164, 3), (21, .ireturn, 1)]
theorem daX12_soonest_0 : tdaX12_soonest_0.all (fun q => decide (decode cX12_soonest q.1 = .ok q.2)) = true := by decide +kernel
theorem dX12_soonest_0 : decode cX12_soonest 0 = .ok (.aload_n 0, 1) := dget daX12_soonest_0 0 (q := (0, .aload_n 0, 1)) rfl
theorem dX12_soonest_1 : decode cX12_soonest 1 = .ok (.iload_n 1, 1) := dget daX12_soonest_0 1 (q := (1, .iload_n 1, 1)) rfl
theorem dX12_soonest_2 : decode cX12_soonest 2 = .ok (.invokevirtual 226, 3) := dget daX12_soonest_0 2 (q := (2, .invokevirtual 226, 3)) rfl
theorem dX12_soonest_5 : decode cX12_soonest 5 = .ok (.ifCond .eq 11, 3) := dget daX12_soonest_0 3 (q := (5, .ifCond .eq 11, 3)) rfl
theorem dX12_soonest_8 : decode cX12_soonest 8 = .ok (.aload_n 0, 1) := dget daX12_soonest_0 4 (q := (8, .aload_n 0, 1)) rfl
theorem dX12_soonest_9 : decode cX12_soonest 9 = .ok (.iload_n 1, 1) := dget daX12_soonest_0 5 (q := (9, .iload_n 1, 1)) rfl
theorem dX12_soonest_10 : decode cX12_soonest 10 = .ok (.invokevirtual 235, 3) := dget daX12_soonest_0 6 (q := (10, .invokevirtual 235, 3)) rfl
theorem dX12_soonest_13 : decode cX12_soonest 13 = .ok (.goto 8, 3) := dget daX12_soonest_0 7 (q := (13, .goto 8, 3)) rfl
theorem dX12_soonest_16 : decode cX12_soonest 16 = .ok (.aload_n 0, 1) := dget daX12_soonest_0 8 (q := (16, .aload_n 0, 1)) rfl
theorem dX12_soonest_17 : decode cX12_soonest 17 = .ok (.iconst (-1), 1) := dget daX12_soonest_0 9 (q := (17, .iconst (-1), 1)) rfl
theorem dX12_soonest_18 : decode cX12_soonest 18 = .ok (.invokevirtual 164, 3) := dget daX12_soonest_0 10 (q := (18, .invokevirtual 164, 3)) rfl
theorem dX12_soonest_21 : decode cX12_soonest 21 = .ok (.ireturn, 1) := dget daX12_soonest_0 11 (q := (21, .ireturn, 1)) rfl
def tdaX12_hoursOf_0 : List (Nat × (Instr × Nat)) := [(0, .aload_n 0, 1), (1, .iload_n 1, 1), (2, .invokevirtual 235, 3), (5, .istore_n 2, 1), (6, .iload_n 2, 1), (7, .ifCond .ge 9, 3), (10, .sipush 9999, 3), (13, .goto 18, 3), (16, .iload_n 2, 1), (17, .aload_n 0, 1), (18, .getfield 37, 3), (21, .aload_n 0, 1), (22, .iload_n 1, 1), (23, .invokevirtual 232, 3), (26, .iaload, 1), (27, .isub, 1), (28, .invokestatic 187, 3), (31, .ireturn, 1)]
theorem daX12_hoursOf_0 : tdaX12_hoursOf_0.all (fun q => decide (decode cX12_hoursOf q.1 = .ok q.2)) = true := by decide +kernel
theorem dX12_hoursOf_0 : decode cX12_hoursOf 0 = .ok (.aload_n 0, 1) := dget daX12_hoursOf_0 0 (q := (0, .aload_n 0, 1)) rfl
theorem dX12_hoursOf_1 : decode cX12_hoursOf 1 = .ok (.iload_n 1, 1) := dget daX12_hoursOf_0 1 (q := (1, .iload_n 1, 1)) rfl
theorem dX12_hoursOf_2 : decode cX12_hoursOf 2 = .ok (.invokevirtual 235, 3) := dget daX12_hoursOf_0 2 (q := (2, .invokevirtual 235, 3)) rfl
theorem dX12_hoursOf_5 : decode cX12_hoursOf 5 = .ok (.istore_n 2, 1) := dget daX12_hoursOf_0 3 (q := (5, .istore_n 2, 1)) rfl
theorem dX12_hoursOf_6 : decode cX12_hoursOf 6 = .ok (.iload_n 2, 1) := dget daX12_hoursOf_0 4 (q := (6, .iload_n 2, 1)) rfl
theorem dX12_hoursOf_7 : decode cX12_hoursOf 7 = .ok (.ifCond .ge 9, 3) := dget daX12_hoursOf_0 5 (q := (7, .ifCond .ge 9, 3)) rfl
theorem dX12_hoursOf_10 : decode cX12_hoursOf 10 = .ok (.sipush 9999, 3) := dget daX12_hoursOf_0 6 (q := (10, .sipush 9999, 3)) rfl
theorem dX12_hoursOf_13 : decode cX12_hoursOf 13 = .ok (.goto 18, 3) := dget daX12_hoursOf_0 7 (q := (13, .goto 18, 3)) rfl
theorem dX12_hoursOf_16 : decode cX12_hoursOf 16 = .ok (.iload_n 2, 1) := dget daX12_hoursOf_0 8 (q := (16, .iload_n 2, 1)) rfl
theorem dX12_hoursOf_17 : decode cX12_hoursOf 17 = .ok (.aload_n 0, 1) := dget daX12_hoursOf_0 9 (q := (17, .aload_n 0, 1)) rfl
theorem dX12_hoursOf_18 : decode cX12_hoursOf 18 = .ok (.getfield 37, 3) := dget daX12_hoursOf_0 10 (q := (18, .getfield 37, 3)) rfl
theorem dX12_hoursOf_21 : decode cX12_hoursOf 21 = .ok (.aload_n 0, 1) := dget daX12_hoursOf_0 11 (q := (21, .aload_n 0, 1)) rfl
theorem dX12_hoursOf_22 : decode cX12_hoursOf 22 = .ok (.iload_n 1, 1) := dget daX12_hoursOf_0 12 (q := (22, .iload_n 1, 1)) rfl
theorem dX12_hoursOf_23 : decode cX12_hoursOf 23 = .ok (.invokevirtual 232, 3) := dget daX12_hoursOf_0 13 (q := (23, .invokevirtual 232, 3)) rfl
theorem dX12_hoursOf_26 : decode cX12_hoursOf 26 = .ok (.iaload, 1) := dget daX12_hoursOf_0 14 (q := (26, .iaload, 1)) rfl
theorem dX12_hoursOf_27 : decode cX12_hoursOf 27 = .ok (.isub, 1) := dget daX12_hoursOf_0 15 (q := (27, .isub, 1)) rfl
theorem dX12_hoursOf_28 : decode cX12_hoursOf 28 = .ok (.invokestatic 187, 3) := dget daX12_hoursOf_0 16 (q := (28, .invokestatic 187, 3)) rfl
theorem dX12_hoursOf_31 : decode cX12_hoursOf 31 = .ok (.ireturn, 1) := dget daX12_hoursOf_0 17 (q := (31, .ireturn, 1)) rfl
def tdaX12_hours_0 : List (Nat × (Instr × Nat)) := [(0, .aload_n 0, 1), (1, .iload_n 1, 1), (2, .invokevirtual 226, 3), (5, .ifCond .eq 11, 3), (8, .aload_n 0, 1), (9, .iload_n 1, 1), (10, .invokevirtual 238, 3), (13, .goto 8, 3), (16, .aload_n 0, 1), (17, .iconst (-1), 1), (18, .invokevirtual 164, 3), (21, .ireturn, 1)]
theorem daX12_hours_0 : tdaX12_hours_0.all (fun q => decide (decode cX12_hours q.1 = .ok q.2)) = true := by decide +kernel
theorem dX12_hours_0 : decode cX12_hours 0 = .ok (.aload_n 0, 1) := dget daX12_hours_0 0 (q := (0, .aload_n 0, 1)) rfl
theorem dX12_hours_1 : decode cX12_hours 1 = .ok (.iload_n 1, 1) := dget daX12_hours_0 1 (q := (1, .iload_n 1, 1)) rfl
theorem dX12_hours_2 : decode cX12_hours 2 = .ok (.invokevirtual 226, 3) := dget daX12_hours_0 2 (q := (2, .invokevirtual 226, 3)) rfl
theorem dX12_hours_5 : decode cX12_hours 5 = .ok (.ifCond .eq 11, 3) := dget daX12_hours_0 3 (q := (5, .ifCond .eq 11, 3)) rfl
theorem dX12_hours_8 : decode cX12_hours 8 = .ok (.aload_n 0, 1) := dget daX12_hours_0 4 (q := (8, .aload_n 0, 1)) rfl
theorem dX12_hours_9 : decode cX12_hours 9 = .ok (.iload_n 1, 1) := dget daX12_hours_0 5 (q := (9, .iload_n 1, 1)) rfl
theorem dX12_hours_10 : decode cX12_hours 10 = .ok (.invokevirtual 238, 3) := dget daX12_hours_0 6 (q := (10, .invokevirtual 238, 3)) rfl
theorem dX12_hours_13 : decode cX12_hours 13 = .ok (.goto 8, 3) := dget daX12_hours_0 7 (q := (13, .goto 8, 3)) rfl
theorem dX12_hours_16 : decode cX12_hours 16 = .ok (.aload_n 0, 1) := dget daX12_hours_0 8 (q := (16, .aload_n 0, 1)) rfl
theorem dX12_hours_17 : decode cX12_hours 17 = .ok (.iconst (-1), 1) := dget daX12_hours_0 9 (q := (17, .iconst (-1), 1)) rfl
theorem dX12_hours_18 : decode cX12_hours 18 = .ok (.invokevirtual 164, 3) := dget daX12_hours_0 10 (q := (18, .invokevirtual 164, 3)) rfl
theorem dX12_hours_21 : decode cX12_hours 21 = .ok (.ireturn, 1) := dget daX12_hours_0 11 (q := (21, .ireturn, 1)) rfl
def tdaX12_blameOf_0 : List (Nat × (Instr × Nat)) := [(0, .aload_n 0, 1), (1, .iload_n 1, 1), (2, .invokevirtual 229, 3), (5, .istore_n 2, 1), (6, .iload_n 2, 1), (7, .ifCond .ge 11, 3), (10, .aload_n 0, 1), (11, .iload_n 1, 1), (12, .invokevirtual 232, 3), (15, .goto 46, 3), (18, .aload_n 0, 1), (19, .getfield 40, 3), (22, .aload_n 0, 1), (23, .getfield 62, 3), (26, .iconst 4, 1), (27, .iload_n 1, 1), (28, .imul, 1), (29, .iload_n 2, 1), (30, .iadd, 1), (31, .iaload, 1), (32, .baload, 1), (33, .ifCond .ne 16, 3), (36, .aload_n 0, 1), (37, .getfield 62, 3), (40, .iconst 4, 1), (41, .iload_n 1, 1), (42, .imul, 1), (43, .iload_n 2, 1), (44, .iadd, 1), (45, .iaload, 1), (46, .goto 15, 3), (49, .aload_n 0, 1), (50, .getfield 62, 3), (53, .iconst 4, 1), (54, .iload_n 1, 1), (55, .imul, 1), (56, .iload_n 2, 1), (57, .iadd, 1), (58, .iconst 1, 1), (59, .isub, 1)]
theorem daX12_blameOf_0 : tdaX12_blameOf_0.all (fun q => decide (decode cX12_blameOf q.1 = .ok q.2)) = true := by decide +kernel
theorem dX12_blameOf_0 : decode cX12_blameOf 0 = .ok (.aload_n 0, 1) := dget daX12_blameOf_0 0 (q := (0, .aload_n 0, 1)) rfl
theorem dX12_blameOf_1 : decode cX12_blameOf 1 = .ok (.iload_n 1, 1) := dget daX12_blameOf_0 1 (q := (1, .iload_n 1, 1)) rfl
theorem dX12_blameOf_2 : decode cX12_blameOf 2 = .ok (.invokevirtual 229, 3) := dget daX12_blameOf_0 2 (q := (2, .invokevirtual 229, 3)) rfl
theorem dX12_blameOf_5 : decode cX12_blameOf 5 = .ok (.istore_n 2, 1) := dget daX12_blameOf_0 3 (q := (5, .istore_n 2, 1)) rfl
theorem dX12_blameOf_6 : decode cX12_blameOf 6 = .ok (.iload_n 2, 1) := dget daX12_blameOf_0 4 (q := (6, .iload_n 2, 1)) rfl
theorem dX12_blameOf_7 : decode cX12_blameOf 7 = .ok (.ifCond .ge 11, 3) := dget daX12_blameOf_0 5 (q := (7, .ifCond .ge 11, 3)) rfl
theorem dX12_blameOf_10 : decode cX12_blameOf 10 = .ok (.aload_n 0, 1) := dget daX12_blameOf_0 6 (q := (10, .aload_n 0, 1)) rfl
theorem dX12_blameOf_11 : decode cX12_blameOf 11 = .ok (.iload_n 1, 1) := dget daX12_blameOf_0 7 (q := (11, .iload_n 1, 1)) rfl
theorem dX12_blameOf_12 : decode cX12_blameOf 12 = .ok (.invokevirtual 232, 3) := dget daX12_blameOf_0 8 (q := (12, .invokevirtual 232, 3)) rfl
theorem dX12_blameOf_15 : decode cX12_blameOf 15 = .ok (.goto 46, 3) := dget daX12_blameOf_0 9 (q := (15, .goto 46, 3)) rfl
theorem dX12_blameOf_18 : decode cX12_blameOf 18 = .ok (.aload_n 0, 1) := dget daX12_blameOf_0 10 (q := (18, .aload_n 0, 1)) rfl
theorem dX12_blameOf_19 : decode cX12_blameOf 19 = .ok (.getfield 40, 3) := dget daX12_blameOf_0 11 (q := (19, .getfield 40, 3)) rfl
theorem dX12_blameOf_22 : decode cX12_blameOf 22 = .ok (.aload_n 0, 1) := dget daX12_blameOf_0 12 (q := (22, .aload_n 0, 1)) rfl
theorem dX12_blameOf_23 : decode cX12_blameOf 23 = .ok (.getfield 62, 3) := dget daX12_blameOf_0 13 (q := (23, .getfield 62, 3)) rfl
theorem dX12_blameOf_26 : decode cX12_blameOf 26 = .ok (.iconst 4, 1) := dget daX12_blameOf_0 14 (q := (26, .iconst 4, 1)) rfl
theorem dX12_blameOf_27 : decode cX12_blameOf 27 = .ok (.iload_n 1, 1) := dget daX12_blameOf_0 15 (q := (27, .iload_n 1, 1)) rfl
theorem dX12_blameOf_28 : decode cX12_blameOf 28 = .ok (.imul, 1) := dget daX12_blameOf_0 16 (q := (28, .imul, 1)) rfl
theorem dX12_blameOf_29 : decode cX12_blameOf 29 = .ok (.iload_n 2, 1) := dget daX12_blameOf_0 17 (q := (29, .iload_n 2, 1)) rfl
theorem dX12_blameOf_30 : decode cX12_blameOf 30 = .ok (.iadd, 1) := dget daX12_blameOf_0 18 (q := (30, .iadd, 1)) rfl
theorem dX12_blameOf_31 : decode cX12_blameOf 31 = .ok (.iaload, 1) := dget daX12_blameOf_0 19 (q := (31, .iaload, 1)) rfl
theorem dX12_blameOf_32 : decode cX12_blameOf 32 = .ok (.baload, 1) := dget daX12_blameOf_0 20 (q := (32, .baload, 1)) rfl
theorem dX12_blameOf_33 : decode cX12_blameOf 33 = .ok (.ifCond .ne 16, 3) := dget daX12_blameOf_0 21 (q := (33, .ifCond .ne 16, 3)) rfl
theorem dX12_blameOf_36 : decode cX12_blameOf 36 = .ok (.aload_n 0, 1) := dget daX12_blameOf_0 22 (q := (36, .aload_n 0, 1)) rfl
theorem dX12_blameOf_37 : decode cX12_blameOf 37 = .ok (.getfield 62, 3) := dget daX12_blameOf_0 23 (q := (37, .getfield 62, 3)) rfl
theorem dX12_blameOf_40 : decode cX12_blameOf 40 = .ok (.iconst 4, 1) := dget daX12_blameOf_0 24 (q := (40, .iconst 4, 1)) rfl
theorem dX12_blameOf_41 : decode cX12_blameOf 41 = .ok (.iload_n 1, 1) := dget daX12_blameOf_0 25 (q := (41, .iload_n 1, 1)) rfl
theorem dX12_blameOf_42 : decode cX12_blameOf 42 = .ok (.imul, 1) := dget daX12_blameOf_0 26 (q := (42, .imul, 1)) rfl
theorem dX12_blameOf_43 : decode cX12_blameOf 43 = .ok (.iload_n 2, 1) := dget daX12_blameOf_0 27 (q := (43, .iload_n 2, 1)) rfl
theorem dX12_blameOf_44 : decode cX12_blameOf 44 = .ok (.iadd, 1) := dget daX12_blameOf_0 28 (q := (44, .iadd, 1)) rfl
theorem dX12_blameOf_45 : decode cX12_blameOf 45 = .ok (.iaload, 1) := dget daX12_blameOf_0 29 (q := (45, .iaload, 1)) rfl
theorem dX12_blameOf_46 : decode cX12_blameOf 46 = .ok (.goto 15, 3) := dget daX12_blameOf_0 30 (q := (46, .goto 15, 3)) rfl
theorem dX12_blameOf_49 : decode cX12_blameOf 49 = .ok (.aload_n 0, 1) := dget daX12_blameOf_0 31 (q := (49, .aload_n 0, 1)) rfl
theorem dX12_blameOf_50 : decode cX12_blameOf 50 = .ok (.getfield 62, 3) := dget daX12_blameOf_0 32 (q := (50, .getfield 62, 3)) rfl
theorem dX12_blameOf_53 : decode cX12_blameOf 53 = .ok (.iconst 4, 1) := dget daX12_blameOf_0 33 (q := (53, .iconst 4, 1)) rfl
theorem dX12_blameOf_54 : decode cX12_blameOf 54 = .ok (.iload_n 1, 1) := dget daX12_blameOf_0 34 (q := (54, .iload_n 1, 1)) rfl
theorem dX12_blameOf_55 : decode cX12_blameOf 55 = .ok (.imul, 1) := dget daX12_blameOf_0 35 (q := (55, .imul, 1)) rfl
theorem dX12_blameOf_56 : decode cX12_blameOf 56 = .ok (.iload_n 2, 1) := dget daX12_blameOf_0 36 (q := (56, .iload_n 2, 1)) rfl
theorem dX12_blameOf_57 : decode cX12_blameOf 57 = .ok (.iadd, 1) := dget daX12_blameOf_0 37 (q := (57, .iadd, 1)) rfl
theorem dX12_blameOf_58 : decode cX12_blameOf 58 = .ok (.iconst 1, 1) := dget daX12_blameOf_0 38 (q := (58, .iconst 1, 1)) rfl
theorem dX12_blameOf_59 : decode cX12_blameOf 59 = .ok (.isub, 1) := dget daX12_blameOf_0 39 (q := (59, .isub, 1)) rfl
def tdaX12_blameOf_1 : List (Nat × (Instr × Nat)) := [(60, .iaload, 1), (61, .istore_n 3, 1), (62, .aload_n 0, 1), (63, .getfield 40, 3), (66, .iload_n 3, 1), (67, .baload, 1), (68, .ifCond .eq 11, 3), (71, .aload_n 0, 1), (72, .iload_n 3, 1), (73, .invokevirtual 210, 3), (76, .ifCond .ne 6, 3), (79, .bipush (-9), 2), (81, .ireturn, 1), (82, .aload_n 0, 1), (83, .iload_n 3, 1), (84, .invokevirtual 219, 3), (87, .iconst 0, 1), (88, .istore 4, 2), (90, .iconst 1, 1), (91, .istore 5, 2), (93, .iload 5, 2), (95, .bipush 6, 2), (97, .if_icmp .ge 35, 3), (100, .aload_n 0, 1), (101, .getfield 59, 3), (104, .iload 5, 2), (106, .iaload, 1), (107, .aload_n 0, 1), (108, .getfield 59, 3), (111, .iload 4, 2), (113, .iaload, 1), (114, .if_icmp .le 8, 3), (117, .iload 5, 2), (119, .goto 5, 3), (122, .iload 4, 2), (124, .istore 4, 2), (126, .iinc 5 1, 3), (129, .goto (-36), 3), (132, .iload 4, 2), (134, .ireturn, 1)]
theorem daX12_blameOf_1 : tdaX12_blameOf_1.all (fun q => decide (decode cX12_blameOf q.1 = .ok q.2)) = true := by decide +kernel
theorem dX12_blameOf_60 : decode cX12_blameOf 60 = .ok (.iaload, 1) := dget daX12_blameOf_1 0 (q := (60, .iaload, 1)) rfl
theorem dX12_blameOf_61 : decode cX12_blameOf 61 = .ok (.istore_n 3, 1) := dget daX12_blameOf_1 1 (q := (61, .istore_n 3, 1)) rfl
theorem dX12_blameOf_62 : decode cX12_blameOf 62 = .ok (.aload_n 0, 1) := dget daX12_blameOf_1 2 (q := (62, .aload_n 0, 1)) rfl
theorem dX12_blameOf_63 : decode cX12_blameOf 63 = .ok (.getfield 40, 3) := dget daX12_blameOf_1 3 (q := (63, .getfield 40, 3)) rfl
theorem dX12_blameOf_66 : decode cX12_blameOf 66 = .ok (.iload_n 3, 1) := dget daX12_blameOf_1 4 (q := (66, .iload_n 3, 1)) rfl
theorem dX12_blameOf_67 : decode cX12_blameOf 67 = .ok (.baload, 1) := dget daX12_blameOf_1 5 (q := (67, .baload, 1)) rfl
theorem dX12_blameOf_68 : decode cX12_blameOf 68 = .ok (.ifCond .eq 11, 3) := dget daX12_blameOf_1 6 (q := (68, .ifCond .eq 11, 3)) rfl
theorem dX12_blameOf_71 : decode cX12_blameOf 71 = .ok (.aload_n 0, 1) := dget daX12_blameOf_1 7 (q := (71, .aload_n 0, 1)) rfl
theorem dX12_blameOf_72 : decode cX12_blameOf 72 = .ok (.iload_n 3, 1) := dget daX12_blameOf_1 8 (q := (72, .iload_n 3, 1)) rfl
theorem dX12_blameOf_73 : decode cX12_blameOf 73 = .ok (.invokevirtual 210, 3) := dget daX12_blameOf_1 9 (q := (73, .invokevirtual 210, 3)) rfl
theorem dX12_blameOf_76 : decode cX12_blameOf 76 = .ok (.ifCond .ne 6, 3) := dget daX12_blameOf_1 10 (q := (76, .ifCond .ne 6, 3)) rfl
theorem dX12_blameOf_79 : decode cX12_blameOf 79 = .ok (.bipush (-9), 2) := dget daX12_blameOf_1 11 (q := (79, .bipush (-9), 2)) rfl
theorem dX12_blameOf_81 : decode cX12_blameOf 81 = .ok (.ireturn, 1) := dget daX12_blameOf_1 12 (q := (81, .ireturn, 1)) rfl
theorem dX12_blameOf_82 : decode cX12_blameOf 82 = .ok (.aload_n 0, 1) := dget daX12_blameOf_1 13 (q := (82, .aload_n 0, 1)) rfl
theorem dX12_blameOf_83 : decode cX12_blameOf 83 = .ok (.iload_n 3, 1) := dget daX12_blameOf_1 14 (q := (83, .iload_n 3, 1)) rfl
theorem dX12_blameOf_84 : decode cX12_blameOf 84 = .ok (.invokevirtual 219, 3) := dget daX12_blameOf_1 15 (q := (84, .invokevirtual 219, 3)) rfl
theorem dX12_blameOf_87 : decode cX12_blameOf 87 = .ok (.iconst 0, 1) := dget daX12_blameOf_1 16 (q := (87, .iconst 0, 1)) rfl
theorem dX12_blameOf_88 : decode cX12_blameOf 88 = .ok (.istore 4, 2) := dget daX12_blameOf_1 17 (q := (88, .istore 4, 2)) rfl
theorem dX12_blameOf_90 : decode cX12_blameOf 90 = .ok (.iconst 1, 1) := dget daX12_blameOf_1 18 (q := (90, .iconst 1, 1)) rfl
theorem dX12_blameOf_91 : decode cX12_blameOf 91 = .ok (.istore 5, 2) := dget daX12_blameOf_1 19 (q := (91, .istore 5, 2)) rfl
theorem dX12_blameOf_93 : decode cX12_blameOf 93 = .ok (.iload 5, 2) := dget daX12_blameOf_1 20 (q := (93, .iload 5, 2)) rfl
theorem dX12_blameOf_95 : decode cX12_blameOf 95 = .ok (.bipush 6, 2) := dget daX12_blameOf_1 21 (q := (95, .bipush 6, 2)) rfl
theorem dX12_blameOf_97 : decode cX12_blameOf 97 = .ok (.if_icmp .ge 35, 3) := dget daX12_blameOf_1 22 (q := (97, .if_icmp .ge 35, 3)) rfl
theorem dX12_blameOf_100 : decode cX12_blameOf 100 = .ok (.aload_n 0, 1) := dget daX12_blameOf_1 23 (q := (100, .aload_n 0, 1)) rfl
theorem dX12_blameOf_101 : decode cX12_blameOf 101 = .ok (.getfield 59, 3) := dget daX12_blameOf_1 24 (q := (101, .getfield 59, 3)) rfl
theorem dX12_blameOf_104 : decode cX12_blameOf 104 = .ok (.iload 5, 2) := dget daX12_blameOf_1 25 (q := (104, .iload 5, 2)) rfl
theorem dX12_blameOf_106 : decode cX12_blameOf 106 = .ok (.iaload, 1) := dget daX12_blameOf_1 26 (q := (106, .iaload, 1)) rfl
theorem dX12_blameOf_107 : decode cX12_blameOf 107 = .ok (.aload_n 0, 1) := dget daX12_blameOf_1 27 (q := (107, .aload_n 0, 1)) rfl
theorem dX12_blameOf_108 : decode cX12_blameOf 108 = .ok (.getfield 59, 3) := dget daX12_blameOf_1 28 (q := (108, .getfield 59, 3)) rfl
theorem dX12_blameOf_111 : decode cX12_blameOf 111 = .ok (.iload 4, 2) := dget daX12_blameOf_1 29 (q := (111, .iload 4, 2)) rfl
theorem dX12_blameOf_113 : decode cX12_blameOf 113 = .ok (.iaload, 1) := dget daX12_blameOf_1 30 (q := (113, .iaload, 1)) rfl
theorem dX12_blameOf_114 : decode cX12_blameOf 114 = .ok (.if_icmp .le 8, 3) := dget daX12_blameOf_1 31 (q := (114, .if_icmp .le 8, 3)) rfl
theorem dX12_blameOf_117 : decode cX12_blameOf 117 = .ok (.iload 5, 2) := dget daX12_blameOf_1 32 (q := (117, .iload 5, 2)) rfl
theorem dX12_blameOf_119 : decode cX12_blameOf 119 = .ok (.goto 5, 3) := dget daX12_blameOf_1 33 (q := (119, .goto 5, 3)) rfl
theorem dX12_blameOf_122 : decode cX12_blameOf 122 = .ok (.iload 4, 2) := dget daX12_blameOf_1 34 (q := (122, .iload 4, 2)) rfl
theorem dX12_blameOf_124 : decode cX12_blameOf 124 = .ok (.istore 4, 2) := dget daX12_blameOf_1 35 (q := (124, .istore 4, 2)) rfl
theorem dX12_blameOf_126 : decode cX12_blameOf 126 = .ok (.iinc 5 1, 3) := dget daX12_blameOf_1 36 (q := (126, .iinc 5 1, 3)) rfl
theorem dX12_blameOf_129 : decode cX12_blameOf 129 = .ok (.goto (-36), 3) := dget daX12_blameOf_1 37 (q := (129, .goto (-36), 3)) rfl
theorem dX12_blameOf_132 : decode cX12_blameOf 132 = .ok (.iload 4, 2) := dget daX12_blameOf_1 38 (q := (132, .iload 4, 2)) rfl
theorem dX12_blameOf_134 : decode cX12_blameOf 134 = .ok (.ireturn, 1) := dget daX12_blameOf_1 39 (q := (134, .ireturn, 1)) rfl
def tdaX12_blame_0 : List (Nat × (Instr × Nat)) := [(0, .aload_n 0, 1), (1, .iload_n 1, 1), (2, .invokevirtual 226, 3), (5, .ifCond .eq 11, 3), (8, .aload_n 0, 1), (9, .iload_n 1, 1), (10, .invokevirtual 241, 3), (13, .goto 8, 3), (16, .aload_n 0, 1), (17, .iconst (-1), 1), (18, .invokevirtual 164, 3), (21, .ireturn, 1)]
theorem daX12_blame_0 : tdaX12_blame_0.all (fun q => decide (decode cX12_blame q.1 = .ok q.2)) = true := by decide +kernel
theorem dX12_blame_0 : decode cX12_blame 0 = .ok (.aload_n 0, 1) := dget daX12_blame_0 0 (q := (0, .aload_n 0, 1)) rfl
theorem dX12_blame_1 : decode cX12_blame 1 = .ok (.iload_n 1, 1) := dget daX12_blame_0 1 (q := (1, .iload_n 1, 1)) rfl
theorem dX12_blame_2 : decode cX12_blame 2 = .ok (.invokevirtual 226, 3) := dget daX12_blame_0 2 (q := (2, .invokevirtual 226, 3)) rfl
theorem dX12_blame_5 : decode cX12_blame 5 = .ok (.ifCond .eq 11, 3) := dget daX12_blame_0 3 (q := (5, .ifCond .eq 11, 3)) rfl
theorem dX12_blame_8 : decode cX12_blame 8 = .ok (.aload_n 0, 1) := dget daX12_blame_0 4 (q := (8, .aload_n 0, 1)) rfl
theorem dX12_blame_9 : decode cX12_blame 9 = .ok (.iload_n 1, 1) := dget daX12_blame_0 5 (q := (9, .iload_n 1, 1)) rfl
theorem dX12_blame_10 : decode cX12_blame 10 = .ok (.invokevirtual 241, 3) := dget daX12_blame_0 6 (q := (10, .invokevirtual 241, 3)) rfl
theorem dX12_blame_13 : decode cX12_blame 13 = .ok (.goto 8, 3) := dget daX12_blame_0 7 (q := (13, .goto 8, 3)) rfl
theorem dX12_blame_16 : decode cX12_blame 16 = .ok (.aload_n 0, 1) := dget daX12_blame_0 8 (q := (16, .aload_n 0, 1)) rfl
theorem dX12_blame_17 : decode cX12_blame 17 = .ok (.iconst (-1), 1) := dget daX12_blame_0 9 (q := (17, .iconst (-1), 1)) rfl
theorem dX12_blame_18 : decode cX12_blame 18 = .ok (.invokevirtual 164, 3) := dget daX12_blame_0 10 (q := (18, .invokevirtual 164, 3)) rfl
theorem dX12_blame_21 : decode cX12_blame 21 = .ok (.ireturn, 1) := dget daX12_blame_0 11 (q := (21, .ireturn, 1)) rfl
def tdaX12_isLand_0 : List (Nat × (Instr × Nat)) := [(0, .iload_n 0, 1), (1, .iconst 0, 1), (2, .iconst 3, 1), (3, .invokestatic 156, 3), (6, .ireturn, 1)]
theorem daX12_isLand_0 : tdaX12_isLand_0.all (fun q => decide (decode cX12_isLand q.1 = .ok q.2)) = true := by decide +kernel
theorem dX12_isLand_0 : decode cX12_isLand 0 = .ok (.iload_n 0, 1) := dget daX12_isLand_0 0 (q := (0, .iload_n 0, 1)) rfl
theorem dX12_isLand_1 : decode cX12_isLand 1 = .ok (.iconst 0, 1) := dget daX12_isLand_0 1 (q := (1, .iconst 0, 1)) rfl
theorem dX12_isLand_2 : decode cX12_isLand 2 = .ok (.iconst 3, 1) := dget daX12_isLand_0 2 (q := (2, .iconst 3, 1)) rfl
theorem dX12_isLand_3 : decode cX12_isLand 3 = .ok (.invokestatic 156, 3) := dget daX12_isLand_0 3 (q := (3, .invokestatic 156, 3)) rfl
theorem dX12_isLand_6 : decode cX12_isLand 6 = .ok (.ireturn, 1) := dget daX12_isLand_0 4 (q := (6, .ireturn, 1)) rfl
def tdaX12_law_0 : List (Nat × (Instr × Nat)) := [(0, .iload_n 1, 1), (1, .invokestatic 244, 3), (4, .ifCond .ne 9, 3), (7, .aload_n 0, 1), (8, .iconst (-1), 1), (9, .invokevirtual 164, 3), (12, .ireturn, 1), (13, .iload_n 2, 1), (14, .aload_n 0, 1), (15, .getfield 168, 3), (18, .if_icmp .lt 17, 3), (21, .iload_n 3, 1), (22, .ifCond .lt 13, 3), (25, .iload 4, 2), (27, .ifCond .lt 8, 3), (30, .iload 5, 2), (32, .ifCond .ge 10, 3), (35, .aload_n 0, 1), (36, .bipush (-4), 2), (38, .invokevirtual 164, 3), (41, .ireturn, 1), (42, .iload_n 2, 1), (43, .sipush 4000, 3), (46, .if_icmp .gt 35, 3), (49, .iload_n 3, 1), (50, .sipush 9999, 3), (53, .if_icmp .gt 28, 3), (56, .iload 4, 2), (58, .sipush 9999, 3), (61, .if_icmp .gt 20, 3), (64, .iload 5, 2), (66, .sipush 9999, 3), (69, .if_icmp .gt 12, 3), (72, .aload_n 0, 1), (73, .getfield 247, 3), (76, .bipush 30, 2), (78, .if_icmp .ne 10, 3), (81, .aload_n 0, 1), (82, .bipush (-6), 2), (84, .invokevirtual 164, 3)]
theorem daX12_law_0 : tdaX12_law_0.all (fun q => decide (decode cX12_law q.1 = .ok q.2)) = true := by decide +kernel
theorem dX12_law_0 : decode cX12_law 0 = .ok (.iload_n 1, 1) := dget daX12_law_0 0 (q := (0, .iload_n 1, 1)) rfl
theorem dX12_law_1 : decode cX12_law 1 = .ok (.invokestatic 244, 3) := dget daX12_law_0 1 (q := (1, .invokestatic 244, 3)) rfl
theorem dX12_law_4 : decode cX12_law 4 = .ok (.ifCond .ne 9, 3) := dget daX12_law_0 2 (q := (4, .ifCond .ne 9, 3)) rfl
theorem dX12_law_7 : decode cX12_law 7 = .ok (.aload_n 0, 1) := dget daX12_law_0 3 (q := (7, .aload_n 0, 1)) rfl
theorem dX12_law_8 : decode cX12_law 8 = .ok (.iconst (-1), 1) := dget daX12_law_0 4 (q := (8, .iconst (-1), 1)) rfl
theorem dX12_law_9 : decode cX12_law 9 = .ok (.invokevirtual 164, 3) := dget daX12_law_0 5 (q := (9, .invokevirtual 164, 3)) rfl
theorem dX12_law_12 : decode cX12_law 12 = .ok (.ireturn, 1) := dget daX12_law_0 6 (q := (12, .ireturn, 1)) rfl
theorem dX12_law_13 : decode cX12_law 13 = .ok (.iload_n 2, 1) := dget daX12_law_0 7 (q := (13, .iload_n 2, 1)) rfl
theorem dX12_law_14 : decode cX12_law 14 = .ok (.aload_n 0, 1) := dget daX12_law_0 8 (q := (14, .aload_n 0, 1)) rfl
theorem dX12_law_15 : decode cX12_law 15 = .ok (.getfield 168, 3) := dget daX12_law_0 9 (q := (15, .getfield 168, 3)) rfl
theorem dX12_law_18 : decode cX12_law 18 = .ok (.if_icmp .lt 17, 3) := dget daX12_law_0 10 (q := (18, .if_icmp .lt 17, 3)) rfl
theorem dX12_law_21 : decode cX12_law 21 = .ok (.iload_n 3, 1) := dget daX12_law_0 11 (q := (21, .iload_n 3, 1)) rfl
theorem dX12_law_22 : decode cX12_law 22 = .ok (.ifCond .lt 13, 3) := dget daX12_law_0 12 (q := (22, .ifCond .lt 13, 3)) rfl
theorem dX12_law_25 : decode cX12_law 25 = .ok (.iload 4, 2) := dget daX12_law_0 13 (q := (25, .iload 4, 2)) rfl
theorem dX12_law_27 : decode cX12_law 27 = .ok (.ifCond .lt 8, 3) := dget daX12_law_0 14 (q := (27, .ifCond .lt 8, 3)) rfl
theorem dX12_law_30 : decode cX12_law 30 = .ok (.iload 5, 2) := dget daX12_law_0 15 (q := (30, .iload 5, 2)) rfl
theorem dX12_law_32 : decode cX12_law 32 = .ok (.ifCond .ge 10, 3) := dget daX12_law_0 16 (q := (32, .ifCond .ge 10, 3)) rfl
theorem dX12_law_35 : decode cX12_law 35 = .ok (.aload_n 0, 1) := dget daX12_law_0 17 (q := (35, .aload_n 0, 1)) rfl
theorem dX12_law_36 : decode cX12_law 36 = .ok (.bipush (-4), 2) := dget daX12_law_0 18 (q := (36, .bipush (-4), 2)) rfl
theorem dX12_law_38 : decode cX12_law 38 = .ok (.invokevirtual 164, 3) := dget daX12_law_0 19 (q := (38, .invokevirtual 164, 3)) rfl
theorem dX12_law_41 : decode cX12_law 41 = .ok (.ireturn, 1) := dget daX12_law_0 20 (q := (41, .ireturn, 1)) rfl
theorem dX12_law_42 : decode cX12_law 42 = .ok (.iload_n 2, 1) := dget daX12_law_0 21 (q := (42, .iload_n 2, 1)) rfl
theorem dX12_law_43 : decode cX12_law 43 = .ok (.sipush 4000, 3) := dget daX12_law_0 22 (q := (43, .sipush 4000, 3)) rfl
theorem dX12_law_46 : decode cX12_law 46 = .ok (.if_icmp .gt 35, 3) := dget daX12_law_0 23 (q := (46, .if_icmp .gt 35, 3)) rfl
theorem dX12_law_49 : decode cX12_law 49 = .ok (.iload_n 3, 1) := dget daX12_law_0 24 (q := (49, .iload_n 3, 1)) rfl
theorem dX12_law_50 : decode cX12_law 50 = .ok (.sipush 9999, 3) := dget daX12_law_0 25 (q := (50, .sipush 9999, 3)) rfl
theorem dX12_law_53 : decode cX12_law 53 = .ok (.if_icmp .gt 28, 3) := dget daX12_law_0 26 (q := (53, .if_icmp .gt 28, 3)) rfl
theorem dX12_law_56 : decode cX12_law 56 = .ok (.iload 4, 2) := dget daX12_law_0 27 (q := (56, .iload 4, 2)) rfl
theorem dX12_law_58 : decode cX12_law 58 = .ok (.sipush 9999, 3) := dget daX12_law_0 28 (q := (58, .sipush 9999, 3)) rfl
theorem dX12_law_61 : decode cX12_law 61 = .ok (.if_icmp .gt 20, 3) := dget daX12_law_0 29 (q := (61, .if_icmp .gt 20, 3)) rfl
theorem dX12_law_64 : decode cX12_law 64 = .ok (.iload 5, 2) := dget daX12_law_0 30 (q := (64, .iload 5, 2)) rfl
theorem dX12_law_66 : decode cX12_law 66 = .ok (.sipush 9999, 3) := dget daX12_law_0 31 (q := (66, .sipush 9999, 3)) rfl
theorem dX12_law_69 : decode cX12_law 69 = .ok (.if_icmp .gt 12, 3) := dget daX12_law_0 32 (q := (69, .if_icmp .gt 12, 3)) rfl
theorem dX12_law_72 : decode cX12_law 72 = .ok (.aload_n 0, 1) := dget daX12_law_0 33 (q := (72, .aload_n 0, 1)) rfl
theorem dX12_law_73 : decode cX12_law 73 = .ok (.getfield 247, 3) := dget daX12_law_0 34 (q := (73, .getfield 247, 3)) rfl
theorem dX12_law_76 : decode cX12_law 76 = .ok (.bipush 30, 2) := dget daX12_law_0 35 (q := (76, .bipush 30, 2)) rfl
theorem dX12_law_78 : decode cX12_law 78 = .ok (.if_icmp .ne 10, 3) := dget daX12_law_0 36 (q := (78, .if_icmp .ne 10, 3)) rfl
theorem dX12_law_81 : decode cX12_law 81 = .ok (.aload_n 0, 1) := dget daX12_law_0 37 (q := (81, .aload_n 0, 1)) rfl
theorem dX12_law_82 : decode cX12_law 82 = .ok (.bipush (-6), 2) := dget daX12_law_0 38 (q := (82, .bipush (-6), 2)) rfl
theorem dX12_law_84 : decode cX12_law 84 = .ok (.invokevirtual 164, 3) := dget daX12_law_0 39 (q := (84, .invokevirtual 164, 3)) rfl
def tdaX12_law_1 : List (Nat × (Instr × Nat)) := [(87, .ireturn, 1), (88, .aload_n 0, 1), (89, .getfield 71, 3), (92, .aload_n 0, 1), (93, .getfield 247, 3), (96, .iload_n 1, 1), (97, .iastore, 1), (98, .aload_n 0, 1), (99, .getfield 74, 3), (102, .aload_n 0, 1), (103, .getfield 247, 3), (106, .iload_n 2, 1), (107, .iastore, 1), (108, .aload_n 0, 1), (109, .getfield 77, 3), (112, .aload_n 0, 1), (113, .getfield 247, 3), (116, .iload_n 3, 1), (117, .iastore, 1), (118, .aload_n 0, 1), (119, .getfield 80, 3), (122, .aload_n 0, 1), (123, .getfield 247, 3), (126, .iload 4, 2), (128, .iastore, 1), (129, .aload_n 0, 1), (130, .getfield 83, 3), (133, .aload_n 0, 1), (134, .getfield 247, 3), (137, .iload 5, 2), (139, .iastore, 1), (140, .aload_n 0, 1), (141, .dup, 1), (142, .getfield 247, 3), (145, .iconst 1, 1), (146, .iadd, 1), (147, .putfield 247, 3), (150, .aload_n 0, 1), (151, .getfield 247, 3), (154, .iconst 1, 1)]
theorem daX12_law_1 : tdaX12_law_1.all (fun q => decide (decode cX12_law q.1 = .ok q.2)) = true := by decide +kernel
theorem dX12_law_87 : decode cX12_law 87 = .ok (.ireturn, 1) := dget daX12_law_1 0 (q := (87, .ireturn, 1)) rfl
theorem dX12_law_88 : decode cX12_law 88 = .ok (.aload_n 0, 1) := dget daX12_law_1 1 (q := (88, .aload_n 0, 1)) rfl
theorem dX12_law_89 : decode cX12_law 89 = .ok (.getfield 71, 3) := dget daX12_law_1 2 (q := (89, .getfield 71, 3)) rfl
theorem dX12_law_92 : decode cX12_law 92 = .ok (.aload_n 0, 1) := dget daX12_law_1 3 (q := (92, .aload_n 0, 1)) rfl
theorem dX12_law_93 : decode cX12_law 93 = .ok (.getfield 247, 3) := dget daX12_law_1 4 (q := (93, .getfield 247, 3)) rfl
theorem dX12_law_96 : decode cX12_law 96 = .ok (.iload_n 1, 1) := dget daX12_law_1 5 (q := (96, .iload_n 1, 1)) rfl
theorem dX12_law_97 : decode cX12_law 97 = .ok (.iastore, 1) := dget daX12_law_1 6 (q := (97, .iastore, 1)) rfl
theorem dX12_law_98 : decode cX12_law 98 = .ok (.aload_n 0, 1) := dget daX12_law_1 7 (q := (98, .aload_n 0, 1)) rfl
theorem dX12_law_99 : decode cX12_law 99 = .ok (.getfield 74, 3) := dget daX12_law_1 8 (q := (99, .getfield 74, 3)) rfl
theorem dX12_law_102 : decode cX12_law 102 = .ok (.aload_n 0, 1) := dget daX12_law_1 9 (q := (102, .aload_n 0, 1)) rfl
theorem dX12_law_103 : decode cX12_law 103 = .ok (.getfield 247, 3) := dget daX12_law_1 10 (q := (103, .getfield 247, 3)) rfl
theorem dX12_law_106 : decode cX12_law 106 = .ok (.iload_n 2, 1) := dget daX12_law_1 11 (q := (106, .iload_n 2, 1)) rfl
theorem dX12_law_107 : decode cX12_law 107 = .ok (.iastore, 1) := dget daX12_law_1 12 (q := (107, .iastore, 1)) rfl
theorem dX12_law_108 : decode cX12_law 108 = .ok (.aload_n 0, 1) := dget daX12_law_1 13 (q := (108, .aload_n 0, 1)) rfl
theorem dX12_law_109 : decode cX12_law 109 = .ok (.getfield 77, 3) := dget daX12_law_1 14 (q := (109, .getfield 77, 3)) rfl
theorem dX12_law_112 : decode cX12_law 112 = .ok (.aload_n 0, 1) := dget daX12_law_1 15 (q := (112, .aload_n 0, 1)) rfl
theorem dX12_law_113 : decode cX12_law 113 = .ok (.getfield 247, 3) := dget daX12_law_1 16 (q := (113, .getfield 247, 3)) rfl
theorem dX12_law_116 : decode cX12_law 116 = .ok (.iload_n 3, 1) := dget daX12_law_1 17 (q := (116, .iload_n 3, 1)) rfl
theorem dX12_law_117 : decode cX12_law 117 = .ok (.iastore, 1) := dget daX12_law_1 18 (q := (117, .iastore, 1)) rfl
theorem dX12_law_118 : decode cX12_law 118 = .ok (.aload_n 0, 1) := dget daX12_law_1 19 (q := (118, .aload_n 0, 1)) rfl
theorem dX12_law_119 : decode cX12_law 119 = .ok (.getfield 80, 3) := dget daX12_law_1 20 (q := (119, .getfield 80, 3)) rfl
theorem dX12_law_122 : decode cX12_law 122 = .ok (.aload_n 0, 1) := dget daX12_law_1 21 (q := (122, .aload_n 0, 1)) rfl
theorem dX12_law_123 : decode cX12_law 123 = .ok (.getfield 247, 3) := dget daX12_law_1 22 (q := (123, .getfield 247, 3)) rfl
theorem dX12_law_126 : decode cX12_law 126 = .ok (.iload 4, 2) := dget daX12_law_1 23 (q := (126, .iload 4, 2)) rfl
theorem dX12_law_128 : decode cX12_law 128 = .ok (.iastore, 1) := dget daX12_law_1 24 (q := (128, .iastore, 1)) rfl
theorem dX12_law_129 : decode cX12_law 129 = .ok (.aload_n 0, 1) := dget daX12_law_1 25 (q := (129, .aload_n 0, 1)) rfl
theorem dX12_law_130 : decode cX12_law 130 = .ok (.getfield 83, 3) := dget daX12_law_1 26 (q := (130, .getfield 83, 3)) rfl
theorem dX12_law_133 : decode cX12_law 133 = .ok (.aload_n 0, 1) := dget daX12_law_1 27 (q := (133, .aload_n 0, 1)) rfl
theorem dX12_law_134 : decode cX12_law 134 = .ok (.getfield 247, 3) := dget daX12_law_1 28 (q := (134, .getfield 247, 3)) rfl
theorem dX12_law_137 : decode cX12_law 137 = .ok (.iload 5, 2) := dget daX12_law_1 29 (q := (137, .iload 5, 2)) rfl
theorem dX12_law_139 : decode cX12_law 139 = .ok (.iastore, 1) := dget daX12_law_1 30 (q := (139, .iastore, 1)) rfl
theorem dX12_law_140 : decode cX12_law 140 = .ok (.aload_n 0, 1) := dget daX12_law_1 31 (q := (140, .aload_n 0, 1)) rfl
theorem dX12_law_141 : decode cX12_law 141 = .ok (.dup, 1) := dget daX12_law_1 32 (q := (141, .dup, 1)) rfl
theorem dX12_law_142 : decode cX12_law 142 = .ok (.getfield 247, 3) := dget daX12_law_1 33 (q := (142, .getfield 247, 3)) rfl
theorem dX12_law_145 : decode cX12_law 145 = .ok (.iconst 1, 1) := dget daX12_law_1 34 (q := (145, .iconst 1, 1)) rfl
theorem dX12_law_146 : decode cX12_law 146 = .ok (.iadd, 1) := dget daX12_law_1 35 (q := (146, .iadd, 1)) rfl
theorem dX12_law_147 : decode cX12_law 147 = .ok (.putfield 247, 3) := dget daX12_law_1 36 (q := (147, .putfield 247, 3)) rfl
theorem dX12_law_150 : decode cX12_law 150 = .ok (.aload_n 0, 1) := dget daX12_law_1 37 (q := (150, .aload_n 0, 1)) rfl
theorem dX12_law_151 : decode cX12_law 151 = .ok (.getfield 247, 3) := dget daX12_law_1 38 (q := (151, .getfield 247, 3)) rfl
theorem dX12_law_154 : decode cX12_law 154 = .ok (.iconst 1, 1) := dget daX12_law_1 39 (q := (154, .iconst 1, 1)) rfl
def tdaX12_law_2 : List (Nat × (Instr × Nat)) := [(155, .isub, 1), (156, .ireturn, 1)]
theorem daX12_law_2 : tdaX12_law_2.all (fun q => decide (decode cX12_law q.1 = .ok q.2)) = true := by decide +kernel
theorem dX12_law_155 : decode cX12_law 155 = .ok (.isub, 1) := dget daX12_law_2 0 (q := (155, .isub, 1)) rfl
theorem dX12_law_156 : decode cX12_law 156 = .ok (.ireturn, 1) := dget daX12_law_2 1 (q := (156, .ireturn, 1)) rfl
def tdaX12_excuse_0 : List (Nat × (Instr × Nat)) := [(0, .iload_n 1, 1), (1, .invokestatic 244, 3), (4, .ifCond .eq 10, 3), (7, .iload_n 2, 1), (8, .invokestatic 184, 3), (11, .ifCond .ne 9, 3), (14, .aload_n 0, 1), (15, .iconst (-1), 1), (16, .invokevirtual 164, 3), (19, .ireturn, 1), (20, .iload_n 3, 1), (21, .ifCond .ge 10, 3), (24, .aload_n 0, 1), (25, .bipush (-4), 2), (27, .invokevirtual 164, 3), (30, .ireturn, 1), (31, .iload_n 3, 1), (32, .sipush 4000, 3), (35, .if_icmp .gt 12, 3), (38, .aload_n 0, 1), (39, .getfield 250, 3), (42, .bipush 40, 2), (44, .if_icmp .ne 10, 3), (47, .aload_n 0, 1), (48, .bipush (-6), 2), (50, .invokevirtual 164, 3), (53, .ireturn, 1), (54, .aload_n 0, 1), (55, .getfield 86, 3), (58, .aload_n 0, 1), (59, .getfield 250, 3), (62, .iload_n 1, 1), (63, .iastore, 1), (64, .aload_n 0, 1), (65, .getfield 89, 3), (68, .aload_n 0, 1), (69, .getfield 250, 3), (72, .iload_n 2, 1), (73, .iastore, 1), (74, .aload_n 0, 1)]
theorem daX12_excuse_0 : tdaX12_excuse_0.all (fun q => decide (decode cX12_excuse q.1 = .ok q.2)) = true := by decide +kernel
theorem dX12_excuse_0 : decode cX12_excuse 0 = .ok (.iload_n 1, 1) := dget daX12_excuse_0 0 (q := (0, .iload_n 1, 1)) rfl
theorem dX12_excuse_1 : decode cX12_excuse 1 = .ok (.invokestatic 244, 3) := dget daX12_excuse_0 1 (q := (1, .invokestatic 244, 3)) rfl
theorem dX12_excuse_4 : decode cX12_excuse 4 = .ok (.ifCond .eq 10, 3) := dget daX12_excuse_0 2 (q := (4, .ifCond .eq 10, 3)) rfl
theorem dX12_excuse_7 : decode cX12_excuse 7 = .ok (.iload_n 2, 1) := dget daX12_excuse_0 3 (q := (7, .iload_n 2, 1)) rfl
theorem dX12_excuse_8 : decode cX12_excuse 8 = .ok (.invokestatic 184, 3) := dget daX12_excuse_0 4 (q := (8, .invokestatic 184, 3)) rfl
theorem dX12_excuse_11 : decode cX12_excuse 11 = .ok (.ifCond .ne 9, 3) := dget daX12_excuse_0 5 (q := (11, .ifCond .ne 9, 3)) rfl
theorem dX12_excuse_14 : decode cX12_excuse 14 = .ok (.aload_n 0, 1) := dget daX12_excuse_0 6 (q := (14, .aload_n 0, 1)) rfl
theorem dX12_excuse_15 : decode cX12_excuse 15 = .ok (.iconst (-1), 1) := dget daX12_excuse_0 7 (q := (15, .iconst (-1), 1)) rfl
theorem dX12_excuse_16 : decode cX12_excuse 16 = .ok (.invokevirtual 164, 3) := dget daX12_excuse_0 8 (q := (16, .invokevirtual 164, 3)) rfl
theorem dX12_excuse_19 : decode cX12_excuse 19 = .ok (.ireturn, 1) := dget daX12_excuse_0 9 (q := (19, .ireturn, 1)) rfl
theorem dX12_excuse_20 : decode cX12_excuse 20 = .ok (.iload_n 3, 1) := dget daX12_excuse_0 10 (q := (20, .iload_n 3, 1)) rfl
theorem dX12_excuse_21 : decode cX12_excuse 21 = .ok (.ifCond .ge 10, 3) := dget daX12_excuse_0 11 (q := (21, .ifCond .ge 10, 3)) rfl
theorem dX12_excuse_24 : decode cX12_excuse 24 = .ok (.aload_n 0, 1) := dget daX12_excuse_0 12 (q := (24, .aload_n 0, 1)) rfl
theorem dX12_excuse_25 : decode cX12_excuse 25 = .ok (.bipush (-4), 2) := dget daX12_excuse_0 13 (q := (25, .bipush (-4), 2)) rfl
theorem dX12_excuse_27 : decode cX12_excuse 27 = .ok (.invokevirtual 164, 3) := dget daX12_excuse_0 14 (q := (27, .invokevirtual 164, 3)) rfl
theorem dX12_excuse_30 : decode cX12_excuse 30 = .ok (.ireturn, 1) := dget daX12_excuse_0 15 (q := (30, .ireturn, 1)) rfl
theorem dX12_excuse_31 : decode cX12_excuse 31 = .ok (.iload_n 3, 1) := dget daX12_excuse_0 16 (q := (31, .iload_n 3, 1)) rfl
theorem dX12_excuse_32 : decode cX12_excuse 32 = .ok (.sipush 4000, 3) := dget daX12_excuse_0 17 (q := (32, .sipush 4000, 3)) rfl
theorem dX12_excuse_35 : decode cX12_excuse 35 = .ok (.if_icmp .gt 12, 3) := dget daX12_excuse_0 18 (q := (35, .if_icmp .gt 12, 3)) rfl
theorem dX12_excuse_38 : decode cX12_excuse 38 = .ok (.aload_n 0, 1) := dget daX12_excuse_0 19 (q := (38, .aload_n 0, 1)) rfl
theorem dX12_excuse_39 : decode cX12_excuse 39 = .ok (.getfield 250, 3) := dget daX12_excuse_0 20 (q := (39, .getfield 250, 3)) rfl
theorem dX12_excuse_42 : decode cX12_excuse 42 = .ok (.bipush 40, 2) := dget daX12_excuse_0 21 (q := (42, .bipush 40, 2)) rfl
theorem dX12_excuse_44 : decode cX12_excuse 44 = .ok (.if_icmp .ne 10, 3) := dget daX12_excuse_0 22 (q := (44, .if_icmp .ne 10, 3)) rfl
theorem dX12_excuse_47 : decode cX12_excuse 47 = .ok (.aload_n 0, 1) := dget daX12_excuse_0 23 (q := (47, .aload_n 0, 1)) rfl
theorem dX12_excuse_48 : decode cX12_excuse 48 = .ok (.bipush (-6), 2) := dget daX12_excuse_0 24 (q := (48, .bipush (-6), 2)) rfl
theorem dX12_excuse_50 : decode cX12_excuse 50 = .ok (.invokevirtual 164, 3) := dget daX12_excuse_0 25 (q := (50, .invokevirtual 164, 3)) rfl
theorem dX12_excuse_53 : decode cX12_excuse 53 = .ok (.ireturn, 1) := dget daX12_excuse_0 26 (q := (53, .ireturn, 1)) rfl
theorem dX12_excuse_54 : decode cX12_excuse 54 = .ok (.aload_n 0, 1) := dget daX12_excuse_0 27 (q := (54, .aload_n 0, 1)) rfl
theorem dX12_excuse_55 : decode cX12_excuse 55 = .ok (.getfield 86, 3) := dget daX12_excuse_0 28 (q := (55, .getfield 86, 3)) rfl
theorem dX12_excuse_58 : decode cX12_excuse 58 = .ok (.aload_n 0, 1) := dget daX12_excuse_0 29 (q := (58, .aload_n 0, 1)) rfl
theorem dX12_excuse_59 : decode cX12_excuse 59 = .ok (.getfield 250, 3) := dget daX12_excuse_0 30 (q := (59, .getfield 250, 3)) rfl
theorem dX12_excuse_62 : decode cX12_excuse 62 = .ok (.iload_n 1, 1) := dget daX12_excuse_0 31 (q := (62, .iload_n 1, 1)) rfl
theorem dX12_excuse_63 : decode cX12_excuse 63 = .ok (.iastore, 1) := dget daX12_excuse_0 32 (q := (63, .iastore, 1)) rfl
theorem dX12_excuse_64 : decode cX12_excuse 64 = .ok (.aload_n 0, 1) := dget daX12_excuse_0 33 (q := (64, .aload_n 0, 1)) rfl
theorem dX12_excuse_65 : decode cX12_excuse 65 = .ok (.getfield 89, 3) := dget daX12_excuse_0 34 (q := (65, .getfield 89, 3)) rfl
theorem dX12_excuse_68 : decode cX12_excuse 68 = .ok (.aload_n 0, 1) := dget daX12_excuse_0 35 (q := (68, .aload_n 0, 1)) rfl
theorem dX12_excuse_69 : decode cX12_excuse 69 = .ok (.getfield 250, 3) := dget daX12_excuse_0 36 (q := (69, .getfield 250, 3)) rfl
theorem dX12_excuse_72 : decode cX12_excuse 72 = .ok (.iload_n 2, 1) := dget daX12_excuse_0 37 (q := (72, .iload_n 2, 1)) rfl
theorem dX12_excuse_73 : decode cX12_excuse 73 = .ok (.iastore, 1) := dget daX12_excuse_0 38 (q := (73, .iastore, 1)) rfl
theorem dX12_excuse_74 : decode cX12_excuse 74 = .ok (.aload_n 0, 1) := dget daX12_excuse_0 39 (q := (74, .aload_n 0, 1)) rfl
def tdaX12_excuse_1 : List (Nat × (Instr × Nat)) := [(75, .getfield 92, 3), (78, .aload_n 0, 1), (79, .getfield 250, 3), (82, .iload_n 3, 1), (83, .iastore, 1), (84, .aload_n 0, 1), (85, .getfield 95, 3), (88, .aload_n 0, 1), (89, .getfield 250, 3), (92, .aload_n 0, 1), (93, .getfield 168, 3), (96, .iastore, 1), (97, .aload_n 0, 1), (98, .getfield 98, 3), (101, .aload_n 0, 1), (102, .getfield 250, 3), (105, .iload 4, 2), (107, .bastore, 1), (108, .aload_n 0, 1), (109, .dup, 1), (110, .getfield 250, 3), (113, .iconst 1, 1), (114, .iadd, 1), (115, .putfield 250, 3), (118, .aload_n 0, 1), (119, .getfield 250, 3), (122, .ireturn, 1)]
theorem daX12_excuse_1 : tdaX12_excuse_1.all (fun q => decide (decode cX12_excuse q.1 = .ok q.2)) = true := by decide +kernel
theorem dX12_excuse_75 : decode cX12_excuse 75 = .ok (.getfield 92, 3) := dget daX12_excuse_1 0 (q := (75, .getfield 92, 3)) rfl
theorem dX12_excuse_78 : decode cX12_excuse 78 = .ok (.aload_n 0, 1) := dget daX12_excuse_1 1 (q := (78, .aload_n 0, 1)) rfl
theorem dX12_excuse_79 : decode cX12_excuse 79 = .ok (.getfield 250, 3) := dget daX12_excuse_1 2 (q := (79, .getfield 250, 3)) rfl
theorem dX12_excuse_82 : decode cX12_excuse 82 = .ok (.iload_n 3, 1) := dget daX12_excuse_1 3 (q := (82, .iload_n 3, 1)) rfl
theorem dX12_excuse_83 : decode cX12_excuse 83 = .ok (.iastore, 1) := dget daX12_excuse_1 4 (q := (83, .iastore, 1)) rfl
theorem dX12_excuse_84 : decode cX12_excuse 84 = .ok (.aload_n 0, 1) := dget daX12_excuse_1 5 (q := (84, .aload_n 0, 1)) rfl
theorem dX12_excuse_85 : decode cX12_excuse 85 = .ok (.getfield 95, 3) := dget daX12_excuse_1 6 (q := (85, .getfield 95, 3)) rfl
theorem dX12_excuse_88 : decode cX12_excuse 88 = .ok (.aload_n 0, 1) := dget daX12_excuse_1 7 (q := (88, .aload_n 0, 1)) rfl
theorem dX12_excuse_89 : decode cX12_excuse 89 = .ok (.getfield 250, 3) := dget daX12_excuse_1 8 (q := (89, .getfield 250, 3)) rfl
theorem dX12_excuse_92 : decode cX12_excuse 92 = .ok (.aload_n 0, 1) := dget daX12_excuse_1 9 (q := (92, .aload_n 0, 1)) rfl
theorem dX12_excuse_93 : decode cX12_excuse 93 = .ok (.getfield 168, 3) := dget daX12_excuse_1 10 (q := (93, .getfield 168, 3)) rfl
theorem dX12_excuse_96 : decode cX12_excuse 96 = .ok (.iastore, 1) := dget daX12_excuse_1 11 (q := (96, .iastore, 1)) rfl
theorem dX12_excuse_97 : decode cX12_excuse 97 = .ok (.aload_n 0, 1) := dget daX12_excuse_1 12 (q := (97, .aload_n 0, 1)) rfl
theorem dX12_excuse_98 : decode cX12_excuse 98 = .ok (.getfield 98, 3) := dget daX12_excuse_1 13 (q := (98, .getfield 98, 3)) rfl
theorem dX12_excuse_101 : decode cX12_excuse 101 = .ok (.aload_n 0, 1) := dget daX12_excuse_1 14 (q := (101, .aload_n 0, 1)) rfl
theorem dX12_excuse_102 : decode cX12_excuse 102 = .ok (.getfield 250, 3) := dget daX12_excuse_1 15 (q := (102, .getfield 250, 3)) rfl
theorem dX12_excuse_105 : decode cX12_excuse 105 = .ok (.iload 4, 2) := dget daX12_excuse_1 16 (q := (105, .iload 4, 2)) rfl
theorem dX12_excuse_107 : decode cX12_excuse 107 = .ok (.bastore, 1) := dget daX12_excuse_1 17 (q := (107, .bastore, 1)) rfl
theorem dX12_excuse_108 : decode cX12_excuse 108 = .ok (.aload_n 0, 1) := dget daX12_excuse_1 18 (q := (108, .aload_n 0, 1)) rfl
theorem dX12_excuse_109 : decode cX12_excuse 109 = .ok (.dup, 1) := dget daX12_excuse_1 19 (q := (109, .dup, 1)) rfl
theorem dX12_excuse_110 : decode cX12_excuse 110 = .ok (.getfield 250, 3) := dget daX12_excuse_1 20 (q := (110, .getfield 250, 3)) rfl
theorem dX12_excuse_113 : decode cX12_excuse 113 = .ok (.iconst 1, 1) := dget daX12_excuse_1 21 (q := (113, .iconst 1, 1)) rfl
theorem dX12_excuse_114 : decode cX12_excuse 114 = .ok (.iadd, 1) := dget daX12_excuse_1 22 (q := (114, .iadd, 1)) rfl
theorem dX12_excuse_115 : decode cX12_excuse 115 = .ok (.putfield 250, 3) := dget daX12_excuse_1 23 (q := (115, .putfield 250, 3)) rfl
theorem dX12_excuse_118 : decode cX12_excuse 118 = .ok (.aload_n 0, 1) := dget daX12_excuse_1 24 (q := (118, .aload_n 0, 1)) rfl
theorem dX12_excuse_119 : decode cX12_excuse 119 = .ok (.getfield 250, 3) := dget daX12_excuse_1 25 (q := (119, .getfield 250, 3)) rfl
theorem dX12_excuse_122 : decode cX12_excuse 122 = .ok (.ireturn, 1) := dget daX12_excuse_1 26 (q := (122, .ireturn, 1)) rfl
def tdaX12_hasLaw_0 : List (Nat × (Instr × Nat)) := [(0, .iconst 0, 1), (1, .istore_n 3, 1), (2, .iconst 0, 1), (3, .istore 4, 2), (5, .iload 4, 2), (7, .aload_n 0, 1), (8, .getfield 247, 3), (11, .if_icmp .ge 41, 3), (14, .iload_n 3, 1), (15, .ifCond .ne 25, 3), (18, .aload_n 0, 1), (19, .getfield 71, 3), (22, .iload 4, 2), (24, .iaload, 1), (25, .iload_n 1, 1), (26, .if_icmp .ne 18, 3), (29, .aload_n 0, 1), (30, .getfield 74, 3), (33, .iload 4, 2), (35, .iaload, 1), (36, .iload_n 2, 1), (37, .if_icmp .gt 7, 3), (40, .iconst 1, 1), (41, .goto 4, 3), (44, .iconst 0, 1), (45, .istore_n 3, 1), (46, .iinc 4 1, 3), (49, .goto (-44), 3), (52, .iload_n 3, 1), (53, .ireturn, 1)]
theorem daX12_hasLaw_0 : tdaX12_hasLaw_0.all (fun q => decide (decode cX12_hasLaw q.1 = .ok q.2)) = true := by decide +kernel
theorem dX12_hasLaw_0 : decode cX12_hasLaw 0 = .ok (.iconst 0, 1) := dget daX12_hasLaw_0 0 (q := (0, .iconst 0, 1)) rfl
theorem dX12_hasLaw_1 : decode cX12_hasLaw 1 = .ok (.istore_n 3, 1) := dget daX12_hasLaw_0 1 (q := (1, .istore_n 3, 1)) rfl
theorem dX12_hasLaw_2 : decode cX12_hasLaw 2 = .ok (.iconst 0, 1) := dget daX12_hasLaw_0 2 (q := (2, .iconst 0, 1)) rfl
theorem dX12_hasLaw_3 : decode cX12_hasLaw 3 = .ok (.istore 4, 2) := dget daX12_hasLaw_0 3 (q := (3, .istore 4, 2)) rfl
theorem dX12_hasLaw_5 : decode cX12_hasLaw 5 = .ok (.iload 4, 2) := dget daX12_hasLaw_0 4 (q := (5, .iload 4, 2)) rfl
theorem dX12_hasLaw_7 : decode cX12_hasLaw 7 = .ok (.aload_n 0, 1) := dget daX12_hasLaw_0 5 (q := (7, .aload_n 0, 1)) rfl
theorem dX12_hasLaw_8 : decode cX12_hasLaw 8 = .ok (.getfield 247, 3) := dget daX12_hasLaw_0 6 (q := (8, .getfield 247, 3)) rfl
theorem dX12_hasLaw_11 : decode cX12_hasLaw 11 = .ok (.if_icmp .ge 41, 3) := dget daX12_hasLaw_0 7 (q := (11, .if_icmp .ge 41, 3)) rfl
theorem dX12_hasLaw_14 : decode cX12_hasLaw 14 = .ok (.iload_n 3, 1) := dget daX12_hasLaw_0 8 (q := (14, .iload_n 3, 1)) rfl
theorem dX12_hasLaw_15 : decode cX12_hasLaw 15 = .ok (.ifCond .ne 25, 3) := dget daX12_hasLaw_0 9 (q := (15, .ifCond .ne 25, 3)) rfl
theorem dX12_hasLaw_18 : decode cX12_hasLaw 18 = .ok (.aload_n 0, 1) := dget daX12_hasLaw_0 10 (q := (18, .aload_n 0, 1)) rfl
theorem dX12_hasLaw_19 : decode cX12_hasLaw 19 = .ok (.getfield 71, 3) := dget daX12_hasLaw_0 11 (q := (19, .getfield 71, 3)) rfl
theorem dX12_hasLaw_22 : decode cX12_hasLaw 22 = .ok (.iload 4, 2) := dget daX12_hasLaw_0 12 (q := (22, .iload 4, 2)) rfl
theorem dX12_hasLaw_24 : decode cX12_hasLaw 24 = .ok (.iaload, 1) := dget daX12_hasLaw_0 13 (q := (24, .iaload, 1)) rfl
theorem dX12_hasLaw_25 : decode cX12_hasLaw 25 = .ok (.iload_n 1, 1) := dget daX12_hasLaw_0 14 (q := (25, .iload_n 1, 1)) rfl
theorem dX12_hasLaw_26 : decode cX12_hasLaw 26 = .ok (.if_icmp .ne 18, 3) := dget daX12_hasLaw_0 15 (q := (26, .if_icmp .ne 18, 3)) rfl
theorem dX12_hasLaw_29 : decode cX12_hasLaw 29 = .ok (.aload_n 0, 1) := dget daX12_hasLaw_0 16 (q := (29, .aload_n 0, 1)) rfl
theorem dX12_hasLaw_30 : decode cX12_hasLaw 30 = .ok (.getfield 74, 3) := dget daX12_hasLaw_0 17 (q := (30, .getfield 74, 3)) rfl
theorem dX12_hasLaw_33 : decode cX12_hasLaw 33 = .ok (.iload 4, 2) := dget daX12_hasLaw_0 18 (q := (33, .iload 4, 2)) rfl
theorem dX12_hasLaw_35 : decode cX12_hasLaw 35 = .ok (.iaload, 1) := dget daX12_hasLaw_0 19 (q := (35, .iaload, 1)) rfl
theorem dX12_hasLaw_36 : decode cX12_hasLaw 36 = .ok (.iload_n 2, 1) := dget daX12_hasLaw_0 20 (q := (36, .iload_n 2, 1)) rfl
theorem dX12_hasLaw_37 : decode cX12_hasLaw 37 = .ok (.if_icmp .gt 7, 3) := dget daX12_hasLaw_0 21 (q := (37, .if_icmp .gt 7, 3)) rfl
theorem dX12_hasLaw_40 : decode cX12_hasLaw 40 = .ok (.iconst 1, 1) := dget daX12_hasLaw_0 22 (q := (40, .iconst 1, 1)) rfl
theorem dX12_hasLaw_41 : decode cX12_hasLaw 41 = .ok (.goto 4, 3) := dget daX12_hasLaw_0 23 (q := (41, .goto 4, 3)) rfl
theorem dX12_hasLaw_44 : decode cX12_hasLaw 44 = .ok (.iconst 0, 1) := dget daX12_hasLaw_0 24 (q := (44, .iconst 0, 1)) rfl
theorem dX12_hasLaw_45 : decode cX12_hasLaw 45 = .ok (.istore_n 3, 1) := dget daX12_hasLaw_0 25 (q := (45, .istore_n 3, 1)) rfl
theorem dX12_hasLaw_46 : decode cX12_hasLaw 46 = .ok (.iinc 4 1, 3) := dget daX12_hasLaw_0 26 (q := (46, .iinc 4 1, 3)) rfl
theorem dX12_hasLaw_49 : decode cX12_hasLaw 49 = .ok (.goto (-44), 3) := dget daX12_hasLaw_0 27 (q := (49, .goto (-44), 3)) rfl
theorem dX12_hasLaw_52 : decode cX12_hasLaw 52 = .ok (.iload_n 3, 1) := dget daX12_hasLaw_0 28 (q := (52, .iload_n 3, 1)) rfl
theorem dX12_hasLaw_53 : decode cX12_hasLaw 53 = .ok (.ireturn, 1) := dget daX12_hasLaw_0 29 (q := (53, .ireturn, 1)) rfl
def tdaX12_lawOf_0 : List (Nat × (Instr × Nat)) := [(0, .aload_n 0, 1), (1, .getfield 7, 3), (4, .aload_n 0, 1), (5, .getfield 22, 3), (8, .aload_n 0, 1), (9, .iload_n 1, 1), (10, .invokevirtual 253, 3), (13, .iaload, 1), (14, .iaload, 1), (15, .istore_n 3, 1), (16, .aload_n 0, 1), (17, .getfield 7, 3), (20, .aload_n 0, 1), (21, .getfield 25, 3), (24, .aload_n 0, 1), (25, .iload_n 1, 1), (26, .invokevirtual 232, 3), (29, .iaload, 1), (30, .iaload, 1), (31, .istore 4, 2), (33, .aload_n 0, 1), (34, .iload_n 3, 1), (35, .iload_n 2, 1), (36, .invokevirtual 256, 3), (39, .ifCond .eq 7, 3), (42, .iload_n 3, 1), (43, .goto 20, 3), (46, .aload_n 0, 1), (47, .iload 4, 2), (49, .iload_n 2, 1), (50, .invokevirtual 256, 3), (53, .ifCond .eq 8, 3), (56, .iload 4, 2), (58, .goto 5, 3), (61, .bipush (-9), 2), (63, .ireturn, 1)]
theorem daX12_lawOf_0 : tdaX12_lawOf_0.all (fun q => decide (decode cX12_lawOf q.1 = .ok q.2)) = true := by decide +kernel
theorem dX12_lawOf_0 : decode cX12_lawOf 0 = .ok (.aload_n 0, 1) := dget daX12_lawOf_0 0 (q := (0, .aload_n 0, 1)) rfl
theorem dX12_lawOf_1 : decode cX12_lawOf 1 = .ok (.getfield 7, 3) := dget daX12_lawOf_0 1 (q := (1, .getfield 7, 3)) rfl
theorem dX12_lawOf_4 : decode cX12_lawOf 4 = .ok (.aload_n 0, 1) := dget daX12_lawOf_0 2 (q := (4, .aload_n 0, 1)) rfl
theorem dX12_lawOf_5 : decode cX12_lawOf 5 = .ok (.getfield 22, 3) := dget daX12_lawOf_0 3 (q := (5, .getfield 22, 3)) rfl
theorem dX12_lawOf_8 : decode cX12_lawOf 8 = .ok (.aload_n 0, 1) := dget daX12_lawOf_0 4 (q := (8, .aload_n 0, 1)) rfl
theorem dX12_lawOf_9 : decode cX12_lawOf 9 = .ok (.iload_n 1, 1) := dget daX12_lawOf_0 5 (q := (9, .iload_n 1, 1)) rfl
theorem dX12_lawOf_10 : decode cX12_lawOf 10 = .ok (.invokevirtual 253, 3) := dget daX12_lawOf_0 6 (q := (10, .invokevirtual 253, 3)) rfl
theorem dX12_lawOf_13 : decode cX12_lawOf 13 = .ok (.iaload, 1) := dget daX12_lawOf_0 7 (q := (13, .iaload, 1)) rfl
theorem dX12_lawOf_14 : decode cX12_lawOf 14 = .ok (.iaload, 1) := dget daX12_lawOf_0 8 (q := (14, .iaload, 1)) rfl
theorem dX12_lawOf_15 : decode cX12_lawOf 15 = .ok (.istore_n 3, 1) := dget daX12_lawOf_0 9 (q := (15, .istore_n 3, 1)) rfl
theorem dX12_lawOf_16 : decode cX12_lawOf 16 = .ok (.aload_n 0, 1) := dget daX12_lawOf_0 10 (q := (16, .aload_n 0, 1)) rfl
theorem dX12_lawOf_17 : decode cX12_lawOf 17 = .ok (.getfield 7, 3) := dget daX12_lawOf_0 11 (q := (17, .getfield 7, 3)) rfl
theorem dX12_lawOf_20 : decode cX12_lawOf 20 = .ok (.aload_n 0, 1) := dget daX12_lawOf_0 12 (q := (20, .aload_n 0, 1)) rfl
theorem dX12_lawOf_21 : decode cX12_lawOf 21 = .ok (.getfield 25, 3) := dget daX12_lawOf_0 13 (q := (21, .getfield 25, 3)) rfl
theorem dX12_lawOf_24 : decode cX12_lawOf 24 = .ok (.aload_n 0, 1) := dget daX12_lawOf_0 14 (q := (24, .aload_n 0, 1)) rfl
theorem dX12_lawOf_25 : decode cX12_lawOf 25 = .ok (.iload_n 1, 1) := dget daX12_lawOf_0 15 (q := (25, .iload_n 1, 1)) rfl
theorem dX12_lawOf_26 : decode cX12_lawOf 26 = .ok (.invokevirtual 232, 3) := dget daX12_lawOf_0 16 (q := (26, .invokevirtual 232, 3)) rfl
theorem dX12_lawOf_29 : decode cX12_lawOf 29 = .ok (.iaload, 1) := dget daX12_lawOf_0 17 (q := (29, .iaload, 1)) rfl
theorem dX12_lawOf_30 : decode cX12_lawOf 30 = .ok (.iaload, 1) := dget daX12_lawOf_0 18 (q := (30, .iaload, 1)) rfl
theorem dX12_lawOf_31 : decode cX12_lawOf 31 = .ok (.istore 4, 2) := dget daX12_lawOf_0 19 (q := (31, .istore 4, 2)) rfl
theorem dX12_lawOf_33 : decode cX12_lawOf 33 = .ok (.aload_n 0, 1) := dget daX12_lawOf_0 20 (q := (33, .aload_n 0, 1)) rfl
theorem dX12_lawOf_34 : decode cX12_lawOf 34 = .ok (.iload_n 3, 1) := dget daX12_lawOf_0 21 (q := (34, .iload_n 3, 1)) rfl
theorem dX12_lawOf_35 : decode cX12_lawOf 35 = .ok (.iload_n 2, 1) := dget daX12_lawOf_0 22 (q := (35, .iload_n 2, 1)) rfl
theorem dX12_lawOf_36 : decode cX12_lawOf 36 = .ok (.invokevirtual 256, 3) := dget daX12_lawOf_0 23 (q := (36, .invokevirtual 256, 3)) rfl
theorem dX12_lawOf_39 : decode cX12_lawOf 39 = .ok (.ifCond .eq 7, 3) := dget daX12_lawOf_0 24 (q := (39, .ifCond .eq 7, 3)) rfl
theorem dX12_lawOf_42 : decode cX12_lawOf 42 = .ok (.iload_n 3, 1) := dget daX12_lawOf_0 25 (q := (42, .iload_n 3, 1)) rfl
theorem dX12_lawOf_43 : decode cX12_lawOf 43 = .ok (.goto 20, 3) := dget daX12_lawOf_0 26 (q := (43, .goto 20, 3)) rfl
theorem dX12_lawOf_46 : decode cX12_lawOf 46 = .ok (.aload_n 0, 1) := dget daX12_lawOf_0 27 (q := (46, .aload_n 0, 1)) rfl
theorem dX12_lawOf_47 : decode cX12_lawOf 47 = .ok (.iload 4, 2) := dget daX12_lawOf_0 28 (q := (47, .iload 4, 2)) rfl
theorem dX12_lawOf_49 : decode cX12_lawOf 49 = .ok (.iload_n 2, 1) := dget daX12_lawOf_0 29 (q := (49, .iload_n 2, 1)) rfl
theorem dX12_lawOf_50 : decode cX12_lawOf 50 = .ok (.invokevirtual 256, 3) := dget daX12_lawOf_0 30 (q := (50, .invokevirtual 256, 3)) rfl
theorem dX12_lawOf_53 : decode cX12_lawOf 53 = .ok (.ifCond .eq 8, 3) := dget daX12_lawOf_0 31 (q := (53, .ifCond .eq 8, 3)) rfl
theorem dX12_lawOf_56 : decode cX12_lawOf 56 = .ok (.iload 4, 2) := dget daX12_lawOf_0 32 (q := (56, .iload 4, 2)) rfl
theorem dX12_lawOf_58 : decode cX12_lawOf 58 = .ok (.goto 5, 3) := dget daX12_lawOf_0 33 (q := (58, .goto 5, 3)) rfl
theorem dX12_lawOf_61 : decode cX12_lawOf 61 = .ok (.bipush (-9), 2) := dget daX12_lawOf_0 34 (q := (61, .bipush (-9), 2)) rfl
theorem dX12_lawOf_63 : decode cX12_lawOf 63 = .ok (.ireturn, 1) := dget daX12_lawOf_0 35 (q := (63, .ireturn, 1)) rfl
def tdaX12_milesOf_0 : List (Nat × (Instr × Nat)) := [(0, .aload_n 0, 1), (1, .getfield 13, 3), (4, .bipush 10, 2), (6, .aload_n 0, 1), (7, .getfield 22, 3), (10, .aload_n 0, 1), (11, .iload_n 1, 1), (12, .invokevirtual 253, 3), (15, .iaload, 1), (16, .imul, 1), (17, .aload_n 0, 1), (18, .getfield 25, 3), (21, .aload_n 0, 1), (22, .iload_n 1, 1), (23, .invokevirtual 232, 3), (26, .iaload, 1), (27, .iadd, 1), (28, .iaload, 1), (29, .ireturn, 1)]
theorem daX12_milesOf_0 : tdaX12_milesOf_0.all (fun q => decide (decode cX12_milesOf q.1 = .ok q.2)) = true := by decide +kernel
theorem dX12_milesOf_0 : decode cX12_milesOf 0 = .ok (.aload_n 0, 1) := dget daX12_milesOf_0 0 (q := (0, .aload_n 0, 1)) rfl
theorem dX12_milesOf_1 : decode cX12_milesOf 1 = .ok (.getfield 13, 3) := dget daX12_milesOf_0 1 (q := (1, .getfield 13, 3)) rfl
theorem dX12_milesOf_4 : decode cX12_milesOf 4 = .ok (.bipush 10, 2) := dget daX12_milesOf_0 2 (q := (4, .bipush 10, 2)) rfl
theorem dX12_milesOf_6 : decode cX12_milesOf 6 = .ok (.aload_n 0, 1) := dget daX12_milesOf_0 3 (q := (6, .aload_n 0, 1)) rfl
theorem dX12_milesOf_7 : decode cX12_milesOf 7 = .ok (.getfield 22, 3) := dget daX12_milesOf_0 4 (q := (7, .getfield 22, 3)) rfl
theorem dX12_milesOf_10 : decode cX12_milesOf 10 = .ok (.aload_n 0, 1) := dget daX12_milesOf_0 5 (q := (10, .aload_n 0, 1)) rfl
theorem dX12_milesOf_11 : decode cX12_milesOf 11 = .ok (.iload_n 1, 1) := dget daX12_milesOf_0 6 (q := (11, .iload_n 1, 1)) rfl
theorem dX12_milesOf_12 : decode cX12_milesOf 12 = .ok (.invokevirtual 253, 3) := dget daX12_milesOf_0 7 (q := (12, .invokevirtual 253, 3)) rfl
theorem dX12_milesOf_15 : decode cX12_milesOf 15 = .ok (.iaload, 1) := dget daX12_milesOf_0 8 (q := (15, .iaload, 1)) rfl
theorem dX12_milesOf_16 : decode cX12_milesOf 16 = .ok (.imul, 1) := dget daX12_milesOf_0 9 (q := (16, .imul, 1)) rfl
theorem dX12_milesOf_17 : decode cX12_milesOf 17 = .ok (.aload_n 0, 1) := dget daX12_milesOf_0 10 (q := (17, .aload_n 0, 1)) rfl
theorem dX12_milesOf_18 : decode cX12_milesOf 18 = .ok (.getfield 25, 3) := dget daX12_milesOf_0 11 (q := (18, .getfield 25, 3)) rfl
theorem dX12_milesOf_21 : decode cX12_milesOf 21 = .ok (.aload_n 0, 1) := dget daX12_milesOf_0 12 (q := (21, .aload_n 0, 1)) rfl
theorem dX12_milesOf_22 : decode cX12_milesOf 22 = .ok (.iload_n 1, 1) := dget daX12_milesOf_0 13 (q := (22, .iload_n 1, 1)) rfl
theorem dX12_milesOf_23 : decode cX12_milesOf 23 = .ok (.invokevirtual 232, 3) := dget daX12_milesOf_0 14 (q := (23, .invokevirtual 232, 3)) rfl
theorem dX12_milesOf_26 : decode cX12_milesOf 26 = .ok (.iaload, 1) := dget daX12_milesOf_0 15 (q := (26, .iaload, 1)) rfl
theorem dX12_milesOf_27 : decode cX12_milesOf 27 = .ok (.iadd, 1) := dget daX12_milesOf_0 16 (q := (27, .iadd, 1)) rfl
theorem dX12_milesOf_28 : decode cX12_milesOf 28 = .ok (.iaload, 1) := dget daX12_milesOf_0 17 (q := (28, .iaload, 1)) rfl
theorem dX12_milesOf_29 : decode cX12_milesOf 29 = .ok (.ireturn, 1) := dget daX12_milesOf_0 18 (q := (29, .ireturn, 1)) rfl
def tdaX12_isExcused_0 : List (Nat × (Instr × Nat)) := [(0, .aload_n 0, 1), (1, .iload_n 1, 1), (2, .iload_n 2, 1), (3, .invokevirtual 260, 3), (6, .istore_n 3, 1), (7, .aload_n 0, 1), (8, .iload_n 1, 1), (9, .invokevirtual 241, 3), (12, .istore 4, 2), (14, .aload_n 0, 1), (15, .getfield 34, 3), (18, .aload_n 0, 1), (19, .iload_n 1, 1), (20, .invokevirtual 253, 3), (23, .iaload, 1), (24, .sipush 1440, 3), (27, .idiv, 1), (28, .istore 5, 2), (30, .iconst 0, 1), (31, .istore 6, 2), (33, .iconst 0, 1), (34, .istore 7, 2), (36, .iload 7, 2), (38, .aload_n 0, 1), (39, .getfield 250, 3), (42, .if_icmp .ge 82, 3), (45, .aload_n 0, 1), (46, .getfield 86, 3), (49, .iload 7, 2), (51, .iaload, 1), (52, .iload_n 3, 1), (53, .if_icmp .ne 43, 3), (56, .aload_n 0, 1), (57, .getfield 89, 3), (60, .iload 7, 2), (62, .iaload, 1), (63, .iload 4, 2), (65, .if_icmp .ne 31, 3), (68, .aload_n 0, 1), (69, .getfield 95, 3)]
theorem daX12_isExcused_0 : tdaX12_isExcused_0.all (fun q => decide (decode cX12_isExcused q.1 = .ok q.2)) = true := by decide +kernel
theorem dX12_isExcused_0 : decode cX12_isExcused 0 = .ok (.aload_n 0, 1) := dget daX12_isExcused_0 0 (q := (0, .aload_n 0, 1)) rfl
theorem dX12_isExcused_1 : decode cX12_isExcused 1 = .ok (.iload_n 1, 1) := dget daX12_isExcused_0 1 (q := (1, .iload_n 1, 1)) rfl
theorem dX12_isExcused_2 : decode cX12_isExcused 2 = .ok (.iload_n 2, 1) := dget daX12_isExcused_0 2 (q := (2, .iload_n 2, 1)) rfl
theorem dX12_isExcused_3 : decode cX12_isExcused 3 = .ok (.invokevirtual 260, 3) := dget daX12_isExcused_0 3 (q := (3, .invokevirtual 260, 3)) rfl
theorem dX12_isExcused_6 : decode cX12_isExcused 6 = .ok (.istore_n 3, 1) := dget daX12_isExcused_0 4 (q := (6, .istore_n 3, 1)) rfl
theorem dX12_isExcused_7 : decode cX12_isExcused 7 = .ok (.aload_n 0, 1) := dget daX12_isExcused_0 5 (q := (7, .aload_n 0, 1)) rfl
theorem dX12_isExcused_8 : decode cX12_isExcused 8 = .ok (.iload_n 1, 1) := dget daX12_isExcused_0 6 (q := (8, .iload_n 1, 1)) rfl
theorem dX12_isExcused_9 : decode cX12_isExcused 9 = .ok (.invokevirtual 241, 3) := dget daX12_isExcused_0 7 (q := (9, .invokevirtual 241, 3)) rfl
theorem dX12_isExcused_12 : decode cX12_isExcused 12 = .ok (.istore 4, 2) := dget daX12_isExcused_0 8 (q := (12, .istore 4, 2)) rfl
theorem dX12_isExcused_14 : decode cX12_isExcused 14 = .ok (.aload_n 0, 1) := dget daX12_isExcused_0 9 (q := (14, .aload_n 0, 1)) rfl
theorem dX12_isExcused_15 : decode cX12_isExcused 15 = .ok (.getfield 34, 3) := dget daX12_isExcused_0 10 (q := (15, .getfield 34, 3)) rfl
theorem dX12_isExcused_18 : decode cX12_isExcused 18 = .ok (.aload_n 0, 1) := dget daX12_isExcused_0 11 (q := (18, .aload_n 0, 1)) rfl
theorem dX12_isExcused_19 : decode cX12_isExcused 19 = .ok (.iload_n 1, 1) := dget daX12_isExcused_0 12 (q := (19, .iload_n 1, 1)) rfl
theorem dX12_isExcused_20 : decode cX12_isExcused 20 = .ok (.invokevirtual 253, 3) := dget daX12_isExcused_0 13 (q := (20, .invokevirtual 253, 3)) rfl
theorem dX12_isExcused_23 : decode cX12_isExcused 23 = .ok (.iaload, 1) := dget daX12_isExcused_0 14 (q := (23, .iaload, 1)) rfl
theorem dX12_isExcused_24 : decode cX12_isExcused 24 = .ok (.sipush 1440, 3) := dget daX12_isExcused_0 15 (q := (24, .sipush 1440, 3)) rfl
theorem dX12_isExcused_27 : decode cX12_isExcused 27 = .ok (.idiv, 1) := dget daX12_isExcused_0 16 (q := (27, .idiv, 1)) rfl
theorem dX12_isExcused_28 : decode cX12_isExcused 28 = .ok (.istore 5, 2) := dget daX12_isExcused_0 17 (q := (28, .istore 5, 2)) rfl
theorem dX12_isExcused_30 : decode cX12_isExcused 30 = .ok (.iconst 0, 1) := dget daX12_isExcused_0 18 (q := (30, .iconst 0, 1)) rfl
theorem dX12_isExcused_31 : decode cX12_isExcused 31 = .ok (.istore 6, 2) := dget daX12_isExcused_0 19 (q := (31, .istore 6, 2)) rfl
theorem dX12_isExcused_33 : decode cX12_isExcused 33 = .ok (.iconst 0, 1) := dget daX12_isExcused_0 20 (q := (33, .iconst 0, 1)) rfl
theorem dX12_isExcused_34 : decode cX12_isExcused 34 = .ok (.istore 7, 2) := dget daX12_isExcused_0 21 (q := (34, .istore 7, 2)) rfl
theorem dX12_isExcused_36 : decode cX12_isExcused 36 = .ok (.iload 7, 2) := dget daX12_isExcused_0 22 (q := (36, .iload 7, 2)) rfl
theorem dX12_isExcused_38 : decode cX12_isExcused 38 = .ok (.aload_n 0, 1) := dget daX12_isExcused_0 23 (q := (38, .aload_n 0, 1)) rfl
theorem dX12_isExcused_39 : decode cX12_isExcused 39 = .ok (.getfield 250, 3) := dget daX12_isExcused_0 24 (q := (39, .getfield 250, 3)) rfl
theorem dX12_isExcused_42 : decode cX12_isExcused 42 = .ok (.if_icmp .ge 82, 3) := dget daX12_isExcused_0 25 (q := (42, .if_icmp .ge 82, 3)) rfl
theorem dX12_isExcused_45 : decode cX12_isExcused 45 = .ok (.aload_n 0, 1) := dget daX12_isExcused_0 26 (q := (45, .aload_n 0, 1)) rfl
theorem dX12_isExcused_46 : decode cX12_isExcused 46 = .ok (.getfield 86, 3) := dget daX12_isExcused_0 27 (q := (46, .getfield 86, 3)) rfl
theorem dX12_isExcused_49 : decode cX12_isExcused 49 = .ok (.iload 7, 2) := dget daX12_isExcused_0 28 (q := (49, .iload 7, 2)) rfl
theorem dX12_isExcused_51 : decode cX12_isExcused 51 = .ok (.iaload, 1) := dget daX12_isExcused_0 29 (q := (51, .iaload, 1)) rfl
theorem dX12_isExcused_52 : decode cX12_isExcused 52 = .ok (.iload_n 3, 1) := dget daX12_isExcused_0 30 (q := (52, .iload_n 3, 1)) rfl
theorem dX12_isExcused_53 : decode cX12_isExcused 53 = .ok (.if_icmp .ne 43, 3) := dget daX12_isExcused_0 31 (q := (53, .if_icmp .ne 43, 3)) rfl
theorem dX12_isExcused_56 : decode cX12_isExcused 56 = .ok (.aload_n 0, 1) := dget daX12_isExcused_0 32 (q := (56, .aload_n 0, 1)) rfl
theorem dX12_isExcused_57 : decode cX12_isExcused 57 = .ok (.getfield 89, 3) := dget daX12_isExcused_0 33 (q := (57, .getfield 89, 3)) rfl
theorem dX12_isExcused_60 : decode cX12_isExcused 60 = .ok (.iload 7, 2) := dget daX12_isExcused_0 34 (q := (60, .iload 7, 2)) rfl
theorem dX12_isExcused_62 : decode cX12_isExcused 62 = .ok (.iaload, 1) := dget daX12_isExcused_0 35 (q := (62, .iaload, 1)) rfl
theorem dX12_isExcused_63 : decode cX12_isExcused 63 = .ok (.iload 4, 2) := dget daX12_isExcused_0 36 (q := (63, .iload 4, 2)) rfl
theorem dX12_isExcused_65 : decode cX12_isExcused 65 = .ok (.if_icmp .ne 31, 3) := dget daX12_isExcused_0 37 (q := (65, .if_icmp .ne 31, 3)) rfl
theorem dX12_isExcused_68 : decode cX12_isExcused 68 = .ok (.aload_n 0, 1) := dget daX12_isExcused_0 38 (q := (68, .aload_n 0, 1)) rfl
theorem dX12_isExcused_69 : decode cX12_isExcused 69 = .ok (.getfield 95, 3) := dget daX12_isExcused_0 39 (q := (69, .getfield 95, 3)) rfl
def tdaX12_isExcused_1 : List (Nat × (Instr × Nat)) := [(72, .iload 7, 2), (74, .iaload, 1), (75, .iload 5, 2), (77, .if_icmp .gt 19, 3), (80, .aload_n 0, 1), (81, .getfield 92, 3), (84, .iload 7, 2), (86, .iaload, 1), (87, .iload 5, 2), (89, .if_icmp .gt 7, 3), (92, .iconst 1, 1), (93, .goto 4, 3), (96, .iconst 0, 1), (97, .istore 8, 2), (99, .iload 8, 2), (101, .ifCond .eq 13, 3), (104, .aload_n 0, 1), (105, .getfield 98, 3), (108, .iload 7, 2), (110, .baload, 1), (111, .goto 5, 3), (114, .iload 6, 2), (116, .istore 6, 2), (118, .iinc 7 1, 3), (121, .goto (-85), 3), (124, .iload 6, 2), (126, .ireturn, 1)]
theorem daX12_isExcused_1 : tdaX12_isExcused_1.all (fun q => decide (decode cX12_isExcused q.1 = .ok q.2)) = true := by decide +kernel
theorem dX12_isExcused_72 : decode cX12_isExcused 72 = .ok (.iload 7, 2) := dget daX12_isExcused_1 0 (q := (72, .iload 7, 2)) rfl
theorem dX12_isExcused_74 : decode cX12_isExcused 74 = .ok (.iaload, 1) := dget daX12_isExcused_1 1 (q := (74, .iaload, 1)) rfl
theorem dX12_isExcused_75 : decode cX12_isExcused 75 = .ok (.iload 5, 2) := dget daX12_isExcused_1 2 (q := (75, .iload 5, 2)) rfl
theorem dX12_isExcused_77 : decode cX12_isExcused 77 = .ok (.if_icmp .gt 19, 3) := dget daX12_isExcused_1 3 (q := (77, .if_icmp .gt 19, 3)) rfl
theorem dX12_isExcused_80 : decode cX12_isExcused 80 = .ok (.aload_n 0, 1) := dget daX12_isExcused_1 4 (q := (80, .aload_n 0, 1)) rfl
theorem dX12_isExcused_81 : decode cX12_isExcused 81 = .ok (.getfield 92, 3) := dget daX12_isExcused_1 5 (q := (81, .getfield 92, 3)) rfl
theorem dX12_isExcused_84 : decode cX12_isExcused 84 = .ok (.iload 7, 2) := dget daX12_isExcused_1 6 (q := (84, .iload 7, 2)) rfl
theorem dX12_isExcused_86 : decode cX12_isExcused 86 = .ok (.iaload, 1) := dget daX12_isExcused_1 7 (q := (86, .iaload, 1)) rfl
theorem dX12_isExcused_87 : decode cX12_isExcused 87 = .ok (.iload 5, 2) := dget daX12_isExcused_1 8 (q := (87, .iload 5, 2)) rfl
theorem dX12_isExcused_89 : decode cX12_isExcused 89 = .ok (.if_icmp .gt 7, 3) := dget daX12_isExcused_1 9 (q := (89, .if_icmp .gt 7, 3)) rfl
theorem dX12_isExcused_92 : decode cX12_isExcused 92 = .ok (.iconst 1, 1) := dget daX12_isExcused_1 10 (q := (92, .iconst 1, 1)) rfl
theorem dX12_isExcused_93 : decode cX12_isExcused 93 = .ok (.goto 4, 3) := dget daX12_isExcused_1 11 (q := (93, .goto 4, 3)) rfl
theorem dX12_isExcused_96 : decode cX12_isExcused 96 = .ok (.iconst 0, 1) := dget daX12_isExcused_1 12 (q := (96, .iconst 0, 1)) rfl
theorem dX12_isExcused_97 : decode cX12_isExcused 97 = .ok (.istore 8, 2) := dget daX12_isExcused_1 13 (q := (97, .istore 8, 2)) rfl
theorem dX12_isExcused_99 : decode cX12_isExcused 99 = .ok (.iload 8, 2) := dget daX12_isExcused_1 14 (q := (99, .iload 8, 2)) rfl
theorem dX12_isExcused_101 : decode cX12_isExcused 101 = .ok (.ifCond .eq 13, 3) := dget daX12_isExcused_1 15 (q := (101, .ifCond .eq 13, 3)) rfl
theorem dX12_isExcused_104 : decode cX12_isExcused 104 = .ok (.aload_n 0, 1) := dget daX12_isExcused_1 16 (q := (104, .aload_n 0, 1)) rfl
theorem dX12_isExcused_105 : decode cX12_isExcused 105 = .ok (.getfield 98, 3) := dget daX12_isExcused_1 17 (q := (105, .getfield 98, 3)) rfl
theorem dX12_isExcused_108 : decode cX12_isExcused 108 = .ok (.iload 7, 2) := dget daX12_isExcused_1 18 (q := (108, .iload 7, 2)) rfl
theorem dX12_isExcused_110 : decode cX12_isExcused 110 = .ok (.baload, 1) := dget daX12_isExcused_1 19 (q := (110, .baload, 1)) rfl
theorem dX12_isExcused_111 : decode cX12_isExcused 111 = .ok (.goto 5, 3) := dget daX12_isExcused_1 20 (q := (111, .goto 5, 3)) rfl
theorem dX12_isExcused_114 : decode cX12_isExcused 114 = .ok (.iload 6, 2) := dget daX12_isExcused_1 21 (q := (114, .iload 6, 2)) rfl
theorem dX12_isExcused_116 : decode cX12_isExcused 116 = .ok (.istore 6, 2) := dget daX12_isExcused_1 22 (q := (116, .istore 6, 2)) rfl
theorem dX12_isExcused_118 : decode cX12_isExcused 118 = .ok (.iinc 7 1, 3) := dget daX12_isExcused_1 23 (q := (118, .iinc 7 1, 3)) rfl
theorem dX12_isExcused_121 : decode cX12_isExcused 121 = .ok (.goto (-85), 3) := dget daX12_isExcused_1 24 (q := (121, .goto (-85), 3)) rfl
theorem dX12_isExcused_124 : decode cX12_isExcused 124 = .ok (.iload 6, 2) := dget daX12_isExcused_1 25 (q := (124, .iload 6, 2)) rfl
theorem dX12_isExcused_126 : decode cX12_isExcused 126 = .ok (.ireturn, 1) := dget daX12_isExcused_1 26 (q := (126, .ireturn, 1)) rfl
def tdaX12_sumOf_0 : List (Nat × (Instr × Nat)) := [(0, .aload_n 0, 1), (1, .iload_n 1, 1), (2, .iload_n 2, 1), (3, .invokevirtual 260, 3), (6, .istore_n 3, 1), (7, .iload_n 3, 1), (8, .ifCond .lt 12, 3), (11, .aload_n 0, 1), (12, .iload_n 1, 1), (13, .iload_n 2, 1), (14, .invokevirtual 263, 3), (17, .ifCond .eq 5, 3), (20, .iconst 0, 1), (21, .ireturn, 1), (22, .aload_n 0, 1), (23, .iload_n 1, 1), (24, .invokevirtual 238, 3), (27, .istore 4, 2), (29, .iconst 0, 1), (30, .istore 5, 2), (32, .iconst 0, 1), (33, .istore 6, 2), (35, .iload 6, 2), (37, .aload_n 0, 1), (38, .getfield 247, 3), (41, .if_icmp .ge 96, 3), (44, .aload_n 0, 1), (45, .getfield 71, 3), (48, .iload 6, 2), (50, .iaload, 1), (51, .iload_n 3, 1), (52, .if_icmp .ne 45, 3), (55, .aload_n 0, 1), (56, .getfield 74, 3), (59, .iload 6, 2), (61, .iaload, 1), (62, .iload_n 2, 1), (63, .if_icmp .gt 34, 3), (66, .iload 4, 2), (68, .aload_n 0, 1)]
theorem daX12_sumOf_0 : tdaX12_sumOf_0.all (fun q => decide (decode cX12_sumOf q.1 = .ok q.2)) = true := by decide +kernel
theorem dX12_sumOf_0 : decode cX12_sumOf 0 = .ok (.aload_n 0, 1) := dget daX12_sumOf_0 0 (q := (0, .aload_n 0, 1)) rfl
theorem dX12_sumOf_1 : decode cX12_sumOf 1 = .ok (.iload_n 1, 1) := dget daX12_sumOf_0 1 (q := (1, .iload_n 1, 1)) rfl
theorem dX12_sumOf_2 : decode cX12_sumOf 2 = .ok (.iload_n 2, 1) := dget daX12_sumOf_0 2 (q := (2, .iload_n 2, 1)) rfl
theorem dX12_sumOf_3 : decode cX12_sumOf 3 = .ok (.invokevirtual 260, 3) := dget daX12_sumOf_0 3 (q := (3, .invokevirtual 260, 3)) rfl
theorem dX12_sumOf_6 : decode cX12_sumOf 6 = .ok (.istore_n 3, 1) := dget daX12_sumOf_0 4 (q := (6, .istore_n 3, 1)) rfl
theorem dX12_sumOf_7 : decode cX12_sumOf 7 = .ok (.iload_n 3, 1) := dget daX12_sumOf_0 5 (q := (7, .iload_n 3, 1)) rfl
theorem dX12_sumOf_8 : decode cX12_sumOf 8 = .ok (.ifCond .lt 12, 3) := dget daX12_sumOf_0 6 (q := (8, .ifCond .lt 12, 3)) rfl
theorem dX12_sumOf_11 : decode cX12_sumOf 11 = .ok (.aload_n 0, 1) := dget daX12_sumOf_0 7 (q := (11, .aload_n 0, 1)) rfl
theorem dX12_sumOf_12 : decode cX12_sumOf 12 = .ok (.iload_n 1, 1) := dget daX12_sumOf_0 8 (q := (12, .iload_n 1, 1)) rfl
theorem dX12_sumOf_13 : decode cX12_sumOf 13 = .ok (.iload_n 2, 1) := dget daX12_sumOf_0 9 (q := (13, .iload_n 2, 1)) rfl
theorem dX12_sumOf_14 : decode cX12_sumOf 14 = .ok (.invokevirtual 263, 3) := dget daX12_sumOf_0 10 (q := (14, .invokevirtual 263, 3)) rfl
theorem dX12_sumOf_17 : decode cX12_sumOf 17 = .ok (.ifCond .eq 5, 3) := dget daX12_sumOf_0 11 (q := (17, .ifCond .eq 5, 3)) rfl
theorem dX12_sumOf_20 : decode cX12_sumOf 20 = .ok (.iconst 0, 1) := dget daX12_sumOf_0 12 (q := (20, .iconst 0, 1)) rfl
theorem dX12_sumOf_21 : decode cX12_sumOf 21 = .ok (.ireturn, 1) := dget daX12_sumOf_0 13 (q := (21, .ireturn, 1)) rfl
theorem dX12_sumOf_22 : decode cX12_sumOf 22 = .ok (.aload_n 0, 1) := dget daX12_sumOf_0 14 (q := (22, .aload_n 0, 1)) rfl
theorem dX12_sumOf_23 : decode cX12_sumOf 23 = .ok (.iload_n 1, 1) := dget daX12_sumOf_0 15 (q := (23, .iload_n 1, 1)) rfl
theorem dX12_sumOf_24 : decode cX12_sumOf 24 = .ok (.invokevirtual 238, 3) := dget daX12_sumOf_0 16 (q := (24, .invokevirtual 238, 3)) rfl
theorem dX12_sumOf_27 : decode cX12_sumOf 27 = .ok (.istore 4, 2) := dget daX12_sumOf_0 17 (q := (27, .istore 4, 2)) rfl
theorem dX12_sumOf_29 : decode cX12_sumOf 29 = .ok (.iconst 0, 1) := dget daX12_sumOf_0 18 (q := (29, .iconst 0, 1)) rfl
theorem dX12_sumOf_30 : decode cX12_sumOf 30 = .ok (.istore 5, 2) := dget daX12_sumOf_0 19 (q := (30, .istore 5, 2)) rfl
theorem dX12_sumOf_32 : decode cX12_sumOf 32 = .ok (.iconst 0, 1) := dget daX12_sumOf_0 20 (q := (32, .iconst 0, 1)) rfl
theorem dX12_sumOf_33 : decode cX12_sumOf 33 = .ok (.istore 6, 2) := dget daX12_sumOf_0 21 (q := (33, .istore 6, 2)) rfl
theorem dX12_sumOf_35 : decode cX12_sumOf 35 = .ok (.iload 6, 2) := dget daX12_sumOf_0 22 (q := (35, .iload 6, 2)) rfl
theorem dX12_sumOf_37 : decode cX12_sumOf 37 = .ok (.aload_n 0, 1) := dget daX12_sumOf_0 23 (q := (37, .aload_n 0, 1)) rfl
theorem dX12_sumOf_38 : decode cX12_sumOf 38 = .ok (.getfield 247, 3) := dget daX12_sumOf_0 24 (q := (38, .getfield 247, 3)) rfl
theorem dX12_sumOf_41 : decode cX12_sumOf 41 = .ok (.if_icmp .ge 96, 3) := dget daX12_sumOf_0 25 (q := (41, .if_icmp .ge 96, 3)) rfl
theorem dX12_sumOf_44 : decode cX12_sumOf 44 = .ok (.aload_n 0, 1) := dget daX12_sumOf_0 26 (q := (44, .aload_n 0, 1)) rfl
theorem dX12_sumOf_45 : decode cX12_sumOf 45 = .ok (.getfield 71, 3) := dget daX12_sumOf_0 27 (q := (45, .getfield 71, 3)) rfl
theorem dX12_sumOf_48 : decode cX12_sumOf 48 = .ok (.iload 6, 2) := dget daX12_sumOf_0 28 (q := (48, .iload 6, 2)) rfl
theorem dX12_sumOf_50 : decode cX12_sumOf 50 = .ok (.iaload, 1) := dget daX12_sumOf_0 29 (q := (50, .iaload, 1)) rfl
theorem dX12_sumOf_51 : decode cX12_sumOf 51 = .ok (.iload_n 3, 1) := dget daX12_sumOf_0 30 (q := (51, .iload_n 3, 1)) rfl
theorem dX12_sumOf_52 : decode cX12_sumOf 52 = .ok (.if_icmp .ne 45, 3) := dget daX12_sumOf_0 31 (q := (52, .if_icmp .ne 45, 3)) rfl
theorem dX12_sumOf_55 : decode cX12_sumOf 55 = .ok (.aload_n 0, 1) := dget daX12_sumOf_0 32 (q := (55, .aload_n 0, 1)) rfl
theorem dX12_sumOf_56 : decode cX12_sumOf 56 = .ok (.getfield 74, 3) := dget daX12_sumOf_0 33 (q := (56, .getfield 74, 3)) rfl
theorem dX12_sumOf_59 : decode cX12_sumOf 59 = .ok (.iload 6, 2) := dget daX12_sumOf_0 34 (q := (59, .iload 6, 2)) rfl
theorem dX12_sumOf_61 : decode cX12_sumOf 61 = .ok (.iaload, 1) := dget daX12_sumOf_0 35 (q := (61, .iaload, 1)) rfl
theorem dX12_sumOf_62 : decode cX12_sumOf 62 = .ok (.iload_n 2, 1) := dget daX12_sumOf_0 36 (q := (62, .iload_n 2, 1)) rfl
theorem dX12_sumOf_63 : decode cX12_sumOf 63 = .ok (.if_icmp .gt 34, 3) := dget daX12_sumOf_0 37 (q := (63, .if_icmp .gt 34, 3)) rfl
theorem dX12_sumOf_66 : decode cX12_sumOf 66 = .ok (.iload 4, 2) := dget daX12_sumOf_0 38 (q := (66, .iload 4, 2)) rfl
theorem dX12_sumOf_68 : decode cX12_sumOf 68 = .ok (.aload_n 0, 1) := dget daX12_sumOf_0 39 (q := (68, .aload_n 0, 1)) rfl
def tdaX12_sumOf_1 : List (Nat × (Instr × Nat)) := [(69, .getfield 77, 3), (72, .iload 6, 2), (74, .iaload, 1), (75, .if_icmp .lt 22, 3), (78, .aload_n 0, 1), (79, .iload_n 1, 1), (80, .invokevirtual 266, 3), (83, .aload_n 0, 1), (84, .getfield 80, 3), (87, .iload 6, 2), (89, .iaload, 1), (90, .if_icmp .lt 7, 3), (93, .iconst 1, 1), (94, .goto 4, 3), (97, .iconst 0, 1), (98, .istore 7, 2), (100, .iload 7, 2), (102, .ifCond .eq 25, 3), (105, .aload_n 0, 1), (106, .getfield 83, 3), (109, .iload 6, 2), (111, .iaload, 1), (112, .iload 5, 2), (114, .if_icmp .le 13, 3), (117, .aload_n 0, 1), (118, .getfield 83, 3), (121, .iload 6, 2), (123, .iaload, 1), (124, .goto 5, 3), (127, .iload 5, 2), (129, .istore 5, 2), (131, .iinc 6 1, 3), (134, .goto (-99), 3), (137, .iload 5, 2), (139, .ireturn, 1)]
theorem daX12_sumOf_1 : tdaX12_sumOf_1.all (fun q => decide (decode cX12_sumOf q.1 = .ok q.2)) = true := by decide +kernel
theorem dX12_sumOf_69 : decode cX12_sumOf 69 = .ok (.getfield 77, 3) := dget daX12_sumOf_1 0 (q := (69, .getfield 77, 3)) rfl
theorem dX12_sumOf_72 : decode cX12_sumOf 72 = .ok (.iload 6, 2) := dget daX12_sumOf_1 1 (q := (72, .iload 6, 2)) rfl
theorem dX12_sumOf_74 : decode cX12_sumOf 74 = .ok (.iaload, 1) := dget daX12_sumOf_1 2 (q := (74, .iaload, 1)) rfl
theorem dX12_sumOf_75 : decode cX12_sumOf 75 = .ok (.if_icmp .lt 22, 3) := dget daX12_sumOf_1 3 (q := (75, .if_icmp .lt 22, 3)) rfl
theorem dX12_sumOf_78 : decode cX12_sumOf 78 = .ok (.aload_n 0, 1) := dget daX12_sumOf_1 4 (q := (78, .aload_n 0, 1)) rfl
theorem dX12_sumOf_79 : decode cX12_sumOf 79 = .ok (.iload_n 1, 1) := dget daX12_sumOf_1 5 (q := (79, .iload_n 1, 1)) rfl
theorem dX12_sumOf_80 : decode cX12_sumOf 80 = .ok (.invokevirtual 266, 3) := dget daX12_sumOf_1 6 (q := (80, .invokevirtual 266, 3)) rfl
theorem dX12_sumOf_83 : decode cX12_sumOf 83 = .ok (.aload_n 0, 1) := dget daX12_sumOf_1 7 (q := (83, .aload_n 0, 1)) rfl
theorem dX12_sumOf_84 : decode cX12_sumOf 84 = .ok (.getfield 80, 3) := dget daX12_sumOf_1 8 (q := (84, .getfield 80, 3)) rfl
theorem dX12_sumOf_87 : decode cX12_sumOf 87 = .ok (.iload 6, 2) := dget daX12_sumOf_1 9 (q := (87, .iload 6, 2)) rfl
theorem dX12_sumOf_89 : decode cX12_sumOf 89 = .ok (.iaload, 1) := dget daX12_sumOf_1 10 (q := (89, .iaload, 1)) rfl
theorem dX12_sumOf_90 : decode cX12_sumOf 90 = .ok (.if_icmp .lt 7, 3) := dget daX12_sumOf_1 11 (q := (90, .if_icmp .lt 7, 3)) rfl
theorem dX12_sumOf_93 : decode cX12_sumOf 93 = .ok (.iconst 1, 1) := dget daX12_sumOf_1 12 (q := (93, .iconst 1, 1)) rfl
theorem dX12_sumOf_94 : decode cX12_sumOf 94 = .ok (.goto 4, 3) := dget daX12_sumOf_1 13 (q := (94, .goto 4, 3)) rfl
theorem dX12_sumOf_97 : decode cX12_sumOf 97 = .ok (.iconst 0, 1) := dget daX12_sumOf_1 14 (q := (97, .iconst 0, 1)) rfl
theorem dX12_sumOf_98 : decode cX12_sumOf 98 = .ok (.istore 7, 2) := dget daX12_sumOf_1 15 (q := (98, .istore 7, 2)) rfl
theorem dX12_sumOf_100 : decode cX12_sumOf 100 = .ok (.iload 7, 2) := dget daX12_sumOf_1 16 (q := (100, .iload 7, 2)) rfl
theorem dX12_sumOf_102 : decode cX12_sumOf 102 = .ok (.ifCond .eq 25, 3) := dget daX12_sumOf_1 17 (q := (102, .ifCond .eq 25, 3)) rfl
theorem dX12_sumOf_105 : decode cX12_sumOf 105 = .ok (.aload_n 0, 1) := dget daX12_sumOf_1 18 (q := (105, .aload_n 0, 1)) rfl
theorem dX12_sumOf_106 : decode cX12_sumOf 106 = .ok (.getfield 83, 3) := dget daX12_sumOf_1 19 (q := (106, .getfield 83, 3)) rfl
theorem dX12_sumOf_109 : decode cX12_sumOf 109 = .ok (.iload 6, 2) := dget daX12_sumOf_1 20 (q := (109, .iload 6, 2)) rfl
theorem dX12_sumOf_111 : decode cX12_sumOf 111 = .ok (.iaload, 1) := dget daX12_sumOf_1 21 (q := (111, .iaload, 1)) rfl
theorem dX12_sumOf_112 : decode cX12_sumOf 112 = .ok (.iload 5, 2) := dget daX12_sumOf_1 22 (q := (112, .iload 5, 2)) rfl
theorem dX12_sumOf_114 : decode cX12_sumOf 114 = .ok (.if_icmp .le 13, 3) := dget daX12_sumOf_1 23 (q := (114, .if_icmp .le 13, 3)) rfl
theorem dX12_sumOf_117 : decode cX12_sumOf 117 = .ok (.aload_n 0, 1) := dget daX12_sumOf_1 24 (q := (117, .aload_n 0, 1)) rfl
theorem dX12_sumOf_118 : decode cX12_sumOf 118 = .ok (.getfield 83, 3) := dget daX12_sumOf_1 25 (q := (118, .getfield 83, 3)) rfl
theorem dX12_sumOf_121 : decode cX12_sumOf 121 = .ok (.iload 6, 2) := dget daX12_sumOf_1 26 (q := (121, .iload 6, 2)) rfl
theorem dX12_sumOf_123 : decode cX12_sumOf 123 = .ok (.iaload, 1) := dget daX12_sumOf_1 27 (q := (123, .iaload, 1)) rfl
theorem dX12_sumOf_124 : decode cX12_sumOf 124 = .ok (.goto 5, 3) := dget daX12_sumOf_1 28 (q := (124, .goto 5, 3)) rfl
theorem dX12_sumOf_127 : decode cX12_sumOf 127 = .ok (.iload 5, 2) := dget daX12_sumOf_1 29 (q := (127, .iload 5, 2)) rfl
theorem dX12_sumOf_129 : decode cX12_sumOf 129 = .ok (.istore 5, 2) := dget daX12_sumOf_1 30 (q := (129, .istore 5, 2)) rfl
theorem dX12_sumOf_131 : decode cX12_sumOf 131 = .ok (.iinc 6 1, 3) := dget daX12_sumOf_1 31 (q := (131, .iinc 6 1, 3)) rfl
theorem dX12_sumOf_134 : decode cX12_sumOf 134 = .ok (.goto (-99), 3) := dget daX12_sumOf_1 32 (q := (134, .goto (-99), 3)) rfl
theorem dX12_sumOf_137 : decode cX12_sumOf 137 = .ok (.iload 5, 2) := dget daX12_sumOf_1 33 (q := (137, .iload 5, 2)) rfl
theorem dX12_sumOf_139 : decode cX12_sumOf 139 = .ok (.ireturn, 1) := dget daX12_sumOf_1 34 (q := (139, .ireturn, 1)) rfl
def tdaX12_sum_0 : List (Nat × (Instr × Nat)) := [(0, .aload_n 0, 1), (1, .iload_n 1, 1), (2, .invokevirtual 226, 3), (5, .ifCond .ne 9, 3), (8, .aload_n 0, 1), (9, .iconst (-1), 1), (10, .invokevirtual 164, 3), (13, .ireturn, 1), (14, .iload_n 3, 1), (15, .iconst 0, 1), (16, .iconst 2, 1), (17, .invokestatic 156, 3), (20, .ifCond .ne 10, 3), (23, .aload_n 0, 1), (24, .bipush (-2), 2), (26, .invokevirtual 164, 3), (29, .ireturn, 1), (30, .iload_n 2, 1), (31, .ifCond .ge 10, 3), (34, .aload_n 0, 1), (35, .bipush (-4), 2), (37, .invokevirtual 164, 3), (40, .ireturn, 1), (41, .iload_n 2, 1), (42, .sipush 4000, 3), (45, .if_icmp .le 10, 3), (48, .aload_n 0, 1), (49, .bipush (-6), 2), (51, .invokevirtual 164, 3), (54, .ireturn, 1), (55, .iload_n 3, 1), (56, .ifCond .ne 12, 3), (59, .aload_n 0, 1), (60, .iload_n 1, 1), (61, .iload_n 2, 1), (62, .invokevirtual 269, 3), (65, .goto 31, 3), (68, .iload_n 3, 1), (69, .iconst 1, 1), (70, .if_icmp .ne 12, 3)]
theorem daX12_sum_0 : tdaX12_sum_0.all (fun q => decide (decode cX12_sum q.1 = .ok q.2)) = true := by decide +kernel
theorem dX12_sum_0 : decode cX12_sum 0 = .ok (.aload_n 0, 1) := dget daX12_sum_0 0 (q := (0, .aload_n 0, 1)) rfl
theorem dX12_sum_1 : decode cX12_sum 1 = .ok (.iload_n 1, 1) := dget daX12_sum_0 1 (q := (1, .iload_n 1, 1)) rfl
theorem dX12_sum_2 : decode cX12_sum 2 = .ok (.invokevirtual 226, 3) := dget daX12_sum_0 2 (q := (2, .invokevirtual 226, 3)) rfl
theorem dX12_sum_5 : decode cX12_sum 5 = .ok (.ifCond .ne 9, 3) := dget daX12_sum_0 3 (q := (5, .ifCond .ne 9, 3)) rfl
theorem dX12_sum_8 : decode cX12_sum 8 = .ok (.aload_n 0, 1) := dget daX12_sum_0 4 (q := (8, .aload_n 0, 1)) rfl
theorem dX12_sum_9 : decode cX12_sum 9 = .ok (.iconst (-1), 1) := dget daX12_sum_0 5 (q := (9, .iconst (-1), 1)) rfl
theorem dX12_sum_10 : decode cX12_sum 10 = .ok (.invokevirtual 164, 3) := dget daX12_sum_0 6 (q := (10, .invokevirtual 164, 3)) rfl
theorem dX12_sum_13 : decode cX12_sum 13 = .ok (.ireturn, 1) := dget daX12_sum_0 7 (q := (13, .ireturn, 1)) rfl
theorem dX12_sum_14 : decode cX12_sum 14 = .ok (.iload_n 3, 1) := dget daX12_sum_0 8 (q := (14, .iload_n 3, 1)) rfl
theorem dX12_sum_15 : decode cX12_sum 15 = .ok (.iconst 0, 1) := dget daX12_sum_0 9 (q := (15, .iconst 0, 1)) rfl
theorem dX12_sum_16 : decode cX12_sum 16 = .ok (.iconst 2, 1) := dget daX12_sum_0 10 (q := (16, .iconst 2, 1)) rfl
theorem dX12_sum_17 : decode cX12_sum 17 = .ok (.invokestatic 156, 3) := dget daX12_sum_0 11 (q := (17, .invokestatic 156, 3)) rfl
theorem dX12_sum_20 : decode cX12_sum 20 = .ok (.ifCond .ne 10, 3) := dget daX12_sum_0 12 (q := (20, .ifCond .ne 10, 3)) rfl
theorem dX12_sum_23 : decode cX12_sum 23 = .ok (.aload_n 0, 1) := dget daX12_sum_0 13 (q := (23, .aload_n 0, 1)) rfl
theorem dX12_sum_24 : decode cX12_sum 24 = .ok (.bipush (-2), 2) := dget daX12_sum_0 14 (q := (24, .bipush (-2), 2)) rfl
theorem dX12_sum_26 : decode cX12_sum 26 = .ok (.invokevirtual 164, 3) := dget daX12_sum_0 15 (q := (26, .invokevirtual 164, 3)) rfl
theorem dX12_sum_29 : decode cX12_sum 29 = .ok (.ireturn, 1) := dget daX12_sum_0 16 (q := (29, .ireturn, 1)) rfl
theorem dX12_sum_30 : decode cX12_sum 30 = .ok (.iload_n 2, 1) := dget daX12_sum_0 17 (q := (30, .iload_n 2, 1)) rfl
theorem dX12_sum_31 : decode cX12_sum 31 = .ok (.ifCond .ge 10, 3) := dget daX12_sum_0 18 (q := (31, .ifCond .ge 10, 3)) rfl
theorem dX12_sum_34 : decode cX12_sum 34 = .ok (.aload_n 0, 1) := dget daX12_sum_0 19 (q := (34, .aload_n 0, 1)) rfl
theorem dX12_sum_35 : decode cX12_sum 35 = .ok (.bipush (-4), 2) := dget daX12_sum_0 20 (q := (35, .bipush (-4), 2)) rfl
theorem dX12_sum_37 : decode cX12_sum 37 = .ok (.invokevirtual 164, 3) := dget daX12_sum_0 21 (q := (37, .invokevirtual 164, 3)) rfl
theorem dX12_sum_40 : decode cX12_sum 40 = .ok (.ireturn, 1) := dget daX12_sum_0 22 (q := (40, .ireturn, 1)) rfl
theorem dX12_sum_41 : decode cX12_sum 41 = .ok (.iload_n 2, 1) := dget daX12_sum_0 23 (q := (41, .iload_n 2, 1)) rfl
theorem dX12_sum_42 : decode cX12_sum 42 = .ok (.sipush 4000, 3) := dget daX12_sum_0 24 (q := (42, .sipush 4000, 3)) rfl
theorem dX12_sum_45 : decode cX12_sum 45 = .ok (.if_icmp .le 10, 3) := dget daX12_sum_0 25 (q := (45, .if_icmp .le 10, 3)) rfl
theorem dX12_sum_48 : decode cX12_sum 48 = .ok (.aload_n 0, 1) := dget daX12_sum_0 26 (q := (48, .aload_n 0, 1)) rfl
theorem dX12_sum_49 : decode cX12_sum 49 = .ok (.bipush (-6), 2) := dget daX12_sum_0 27 (q := (49, .bipush (-6), 2)) rfl
theorem dX12_sum_51 : decode cX12_sum 51 = .ok (.invokevirtual 164, 3) := dget daX12_sum_0 28 (q := (51, .invokevirtual 164, 3)) rfl
theorem dX12_sum_54 : decode cX12_sum 54 = .ok (.ireturn, 1) := dget daX12_sum_0 29 (q := (54, .ireturn, 1)) rfl
theorem dX12_sum_55 : decode cX12_sum 55 = .ok (.iload_n 3, 1) := dget daX12_sum_0 30 (q := (55, .iload_n 3, 1)) rfl
theorem dX12_sum_56 : decode cX12_sum 56 = .ok (.ifCond .ne 12, 3) := dget daX12_sum_0 31 (q := (56, .ifCond .ne 12, 3)) rfl
theorem dX12_sum_59 : decode cX12_sum 59 = .ok (.aload_n 0, 1) := dget daX12_sum_0 32 (q := (59, .aload_n 0, 1)) rfl
theorem dX12_sum_60 : decode cX12_sum 60 = .ok (.iload_n 1, 1) := dget daX12_sum_0 33 (q := (60, .iload_n 1, 1)) rfl
theorem dX12_sum_61 : decode cX12_sum 61 = .ok (.iload_n 2, 1) := dget daX12_sum_0 34 (q := (61, .iload_n 2, 1)) rfl
theorem dX12_sum_62 : decode cX12_sum 62 = .ok (.invokevirtual 269, 3) := dget daX12_sum_0 35 (q := (62, .invokevirtual 269, 3)) rfl
theorem dX12_sum_65 : decode cX12_sum 65 = .ok (.goto 31, 3) := dget daX12_sum_0 36 (q := (65, .goto 31, 3)) rfl
theorem dX12_sum_68 : decode cX12_sum 68 = .ok (.iload_n 3, 1) := dget daX12_sum_0 37 (q := (68, .iload_n 3, 1)) rfl
theorem dX12_sum_69 : decode cX12_sum 69 = .ok (.iconst 1, 1) := dget daX12_sum_0 38 (q := (69, .iconst 1, 1)) rfl
theorem dX12_sum_70 : decode cX12_sum 70 = .ok (.if_icmp .ne 12, 3) := dget daX12_sum_0 39 (q := (70, .if_icmp .ne 12, 3)) rfl
def tdaX12_sum_1 : List (Nat × (Instr × Nat)) := [(73, .aload_n 0, 1), (74, .iload_n 1, 1), (75, .iload_n 2, 1), (76, .invokevirtual 260, 3), (79, .goto 17, 3), (82, .aload_n 0, 1), (83, .iload_n 1, 1), (84, .iload_n 2, 1), (85, .invokevirtual 263, 3), (88, .ifCond .eq 7, 3), (91, .iconst 1, 1), (92, .goto 4, 3), (95, .iconst 0, 1), (96, .ireturn, 1)]
theorem daX12_sum_1 : tdaX12_sum_1.all (fun q => decide (decode cX12_sum q.1 = .ok q.2)) = true := by decide +kernel
theorem dX12_sum_73 : decode cX12_sum 73 = .ok (.aload_n 0, 1) := dget daX12_sum_1 0 (q := (73, .aload_n 0, 1)) rfl
theorem dX12_sum_74 : decode cX12_sum 74 = .ok (.iload_n 1, 1) := dget daX12_sum_1 1 (q := (74, .iload_n 1, 1)) rfl
theorem dX12_sum_75 : decode cX12_sum 75 = .ok (.iload_n 2, 1) := dget daX12_sum_1 2 (q := (75, .iload_n 2, 1)) rfl
theorem dX12_sum_76 : decode cX12_sum 76 = .ok (.invokevirtual 260, 3) := dget daX12_sum_1 3 (q := (76, .invokevirtual 260, 3)) rfl
theorem dX12_sum_79 : decode cX12_sum 79 = .ok (.goto 17, 3) := dget daX12_sum_1 4 (q := (79, .goto 17, 3)) rfl
theorem dX12_sum_82 : decode cX12_sum 82 = .ok (.aload_n 0, 1) := dget daX12_sum_1 5 (q := (82, .aload_n 0, 1)) rfl
theorem dX12_sum_83 : decode cX12_sum 83 = .ok (.iload_n 1, 1) := dget daX12_sum_1 6 (q := (83, .iload_n 1, 1)) rfl
theorem dX12_sum_84 : decode cX12_sum 84 = .ok (.iload_n 2, 1) := dget daX12_sum_1 7 (q := (84, .iload_n 2, 1)) rfl
theorem dX12_sum_85 : decode cX12_sum 85 = .ok (.invokevirtual 263, 3) := dget daX12_sum_1 8 (q := (85, .invokevirtual 263, 3)) rfl
theorem dX12_sum_88 : decode cX12_sum 88 = .ok (.ifCond .eq 7, 3) := dget daX12_sum_1 9 (q := (88, .ifCond .eq 7, 3)) rfl
theorem dX12_sum_91 : decode cX12_sum 91 = .ok (.iconst 1, 1) := dget daX12_sum_1 10 (q := (91, .iconst 1, 1)) rfl
theorem dX12_sum_92 : decode cX12_sum 92 = .ok (.goto 4, 3) := dget daX12_sum_1 11 (q := (92, .goto 4, 3)) rfl
theorem dX12_sum_95 : decode cX12_sum 95 = .ok (.iconst 0, 1) := dget daX12_sum_1 12 (q := (95, .iconst 0, 1)) rfl
theorem dX12_sum_96 : decode cX12_sum 96 = .ok (.ireturn, 1) := dget daX12_sum_1 13 (q := (96, .ireturn, 1)) rfl
def tdaX12_bar_0 : List (Nat × (Instr × Nat)) := [(0, .iload_n 1, 1), (1, .invokestatic 244, 3), (4, .ifCond .ne 9, 3), (7, .aload_n 0, 1), (8, .iconst (-1), 1), (9, .invokevirtual 164, 3), (12, .ireturn, 1), (13, .iload_n 2, 1), (14, .iconst 1, 1), (15, .if_icmp .ge 10, 3), (18, .aload_n 0, 1), (19, .bipush (-4), 2), (21, .invokevirtual 164, 3), (24, .ireturn, 1), (25, .iload_n 2, 1), (26, .sipush 3000, 3), (29, .if_icmp .le 10, 3), (32, .aload_n 0, 1), (33, .bipush (-6), 2), (35, .invokevirtual 164, 3), (38, .ireturn, 1), (39, .aload_n 0, 1), (40, .getfield 101, 3), (43, .iload_n 1, 1), (44, .iaload, 1), (45, .istore_n 3, 1), (46, .aload_n 0, 1), (47, .getfield 101, 3), (50, .iload_n 1, 1), (51, .iload_n 2, 1), (52, .iastore, 1), (53, .iload_n 3, 1), (54, .ireturn, 1)]
theorem daX12_bar_0 : tdaX12_bar_0.all (fun q => decide (decode cX12_bar q.1 = .ok q.2)) = true := by decide +kernel
theorem dX12_bar_0 : decode cX12_bar 0 = .ok (.iload_n 1, 1) := dget daX12_bar_0 0 (q := (0, .iload_n 1, 1)) rfl
theorem dX12_bar_1 : decode cX12_bar 1 = .ok (.invokestatic 244, 3) := dget daX12_bar_0 1 (q := (1, .invokestatic 244, 3)) rfl
theorem dX12_bar_4 : decode cX12_bar 4 = .ok (.ifCond .ne 9, 3) := dget daX12_bar_0 2 (q := (4, .ifCond .ne 9, 3)) rfl
theorem dX12_bar_7 : decode cX12_bar 7 = .ok (.aload_n 0, 1) := dget daX12_bar_0 3 (q := (7, .aload_n 0, 1)) rfl
theorem dX12_bar_8 : decode cX12_bar 8 = .ok (.iconst (-1), 1) := dget daX12_bar_0 4 (q := (8, .iconst (-1), 1)) rfl
theorem dX12_bar_9 : decode cX12_bar 9 = .ok (.invokevirtual 164, 3) := dget daX12_bar_0 5 (q := (9, .invokevirtual 164, 3)) rfl
theorem dX12_bar_12 : decode cX12_bar 12 = .ok (.ireturn, 1) := dget daX12_bar_0 6 (q := (12, .ireturn, 1)) rfl
theorem dX12_bar_13 : decode cX12_bar 13 = .ok (.iload_n 2, 1) := dget daX12_bar_0 7 (q := (13, .iload_n 2, 1)) rfl
theorem dX12_bar_14 : decode cX12_bar 14 = .ok (.iconst 1, 1) := dget daX12_bar_0 8 (q := (14, .iconst 1, 1)) rfl
theorem dX12_bar_15 : decode cX12_bar 15 = .ok (.if_icmp .ge 10, 3) := dget daX12_bar_0 9 (q := (15, .if_icmp .ge 10, 3)) rfl
theorem dX12_bar_18 : decode cX12_bar 18 = .ok (.aload_n 0, 1) := dget daX12_bar_0 10 (q := (18, .aload_n 0, 1)) rfl
theorem dX12_bar_19 : decode cX12_bar 19 = .ok (.bipush (-4), 2) := dget daX12_bar_0 11 (q := (19, .bipush (-4), 2)) rfl
theorem dX12_bar_21 : decode cX12_bar 21 = .ok (.invokevirtual 164, 3) := dget daX12_bar_0 12 (q := (21, .invokevirtual 164, 3)) rfl
theorem dX12_bar_24 : decode cX12_bar 24 = .ok (.ireturn, 1) := dget daX12_bar_0 13 (q := (24, .ireturn, 1)) rfl
theorem dX12_bar_25 : decode cX12_bar 25 = .ok (.iload_n 2, 1) := dget daX12_bar_0 14 (q := (25, .iload_n 2, 1)) rfl
theorem dX12_bar_26 : decode cX12_bar 26 = .ok (.sipush 3000, 3) := dget daX12_bar_0 15 (q := (26, .sipush 3000, 3)) rfl
theorem dX12_bar_29 : decode cX12_bar 29 = .ok (.if_icmp .le 10, 3) := dget daX12_bar_0 16 (q := (29, .if_icmp .le 10, 3)) rfl
theorem dX12_bar_32 : decode cX12_bar 32 = .ok (.aload_n 0, 1) := dget daX12_bar_0 17 (q := (32, .aload_n 0, 1)) rfl
theorem dX12_bar_33 : decode cX12_bar 33 = .ok (.bipush (-6), 2) := dget daX12_bar_0 18 (q := (33, .bipush (-6), 2)) rfl
theorem dX12_bar_35 : decode cX12_bar 35 = .ok (.invokevirtual 164, 3) := dget daX12_bar_0 19 (q := (35, .invokevirtual 164, 3)) rfl
theorem dX12_bar_38 : decode cX12_bar 38 = .ok (.ireturn, 1) := dget daX12_bar_0 20 (q := (38, .ireturn, 1)) rfl
theorem dX12_bar_39 : decode cX12_bar 39 = .ok (.aload_n 0, 1) := dget daX12_bar_0 21 (q := (39, .aload_n 0, 1)) rfl
theorem dX12_bar_40 : decode cX12_bar 40 = .ok (.getfield 101, 3) := dget daX12_bar_0 22 (q := (40, .getfield 101, 3)) rfl
theorem dX12_bar_43 : decode cX12_bar 43 = .ok (.iload_n 1, 1) := dget daX12_bar_0 23 (q := (43, .iload_n 1, 1)) rfl
theorem dX12_bar_44 : decode cX12_bar 44 = .ok (.iaload, 1) := dget daX12_bar_0 24 (q := (44, .iaload, 1)) rfl
theorem dX12_bar_45 : decode cX12_bar 45 = .ok (.istore_n 3, 1) := dget daX12_bar_0 25 (q := (45, .istore_n 3, 1)) rfl
theorem dX12_bar_46 : decode cX12_bar 46 = .ok (.aload_n 0, 1) := dget daX12_bar_0 26 (q := (46, .aload_n 0, 1)) rfl
theorem dX12_bar_47 : decode cX12_bar 47 = .ok (.getfield 101, 3) := dget daX12_bar_0 27 (q := (47, .getfield 101, 3)) rfl
theorem dX12_bar_50 : decode cX12_bar 50 = .ok (.iload_n 1, 1) := dget daX12_bar_0 28 (q := (50, .iload_n 1, 1)) rfl
theorem dX12_bar_51 : decode cX12_bar 51 = .ok (.iload_n 2, 1) := dget daX12_bar_0 29 (q := (51, .iload_n 2, 1)) rfl
theorem dX12_bar_52 : decode cX12_bar 52 = .ok (.iastore, 1) := dget daX12_bar_0 30 (q := (52, .iastore, 1)) rfl
theorem dX12_bar_53 : decode cX12_bar 53 = .ok (.iload_n 3, 1) := dget daX12_bar_0 31 (q := (53, .iload_n 3, 1)) rfl
theorem dX12_bar_54 : decode cX12_bar 54 = .ok (.ireturn, 1) := dget daX12_bar_0 32 (q := (54, .ireturn, 1)) rfl
def tdaX12_stop_0 : List (Nat × (Instr × Nat)) := [(0, .iload_n 1, 1), (1, .invokestatic 244, 3), (4, .ifCond .ne 9, 3), (7, .aload_n 0, 1), (8, .iconst (-1), 1), (9, .invokevirtual 164, 3), (12, .ireturn, 1), (13, .iload_n 2, 1), (14, .ifCond .lt 8, 3), (17, .iload_n 3, 1), (18, .iload_n 2, 1), (19, .if_icmp .ge 10, 3), (22, .aload_n 0, 1), (23, .bipush (-4), 2), (25, .invokevirtual 164, 3), (28, .ireturn, 1), (29, .iload_n 3, 1), (30, .sipush 4000, 3), (33, .if_icmp .gt 12, 3), (36, .aload_n 0, 1), (37, .getfield 272, 3), (40, .bipush 20, 2), (42, .if_icmp .ne 10, 3), (45, .aload_n 0, 1), (46, .bipush (-6), 2), (48, .invokevirtual 164, 3), (51, .ireturn, 1), (52, .aload_n 0, 1), (53, .getfield 104, 3), (56, .aload_n 0, 1), (57, .getfield 272, 3), (60, .iload_n 1, 1), (61, .iastore, 1), (62, .aload_n 0, 1), (63, .getfield 107, 3), (66, .aload_n 0, 1), (67, .getfield 272, 3), (70, .iload_n 2, 1), (71, .iastore, 1), (72, .aload_n 0, 1)]
theorem daX12_stop_0 : tdaX12_stop_0.all (fun q => decide (decode cX12_stop q.1 = .ok q.2)) = true := by decide +kernel
theorem dX12_stop_0 : decode cX12_stop 0 = .ok (.iload_n 1, 1) := dget daX12_stop_0 0 (q := (0, .iload_n 1, 1)) rfl
theorem dX12_stop_1 : decode cX12_stop 1 = .ok (.invokestatic 244, 3) := dget daX12_stop_0 1 (q := (1, .invokestatic 244, 3)) rfl
theorem dX12_stop_4 : decode cX12_stop 4 = .ok (.ifCond .ne 9, 3) := dget daX12_stop_0 2 (q := (4, .ifCond .ne 9, 3)) rfl
theorem dX12_stop_7 : decode cX12_stop 7 = .ok (.aload_n 0, 1) := dget daX12_stop_0 3 (q := (7, .aload_n 0, 1)) rfl
theorem dX12_stop_8 : decode cX12_stop 8 = .ok (.iconst (-1), 1) := dget daX12_stop_0 4 (q := (8, .iconst (-1), 1)) rfl
theorem dX12_stop_9 : decode cX12_stop 9 = .ok (.invokevirtual 164, 3) := dget daX12_stop_0 5 (q := (9, .invokevirtual 164, 3)) rfl
theorem dX12_stop_12 : decode cX12_stop 12 = .ok (.ireturn, 1) := dget daX12_stop_0 6 (q := (12, .ireturn, 1)) rfl
theorem dX12_stop_13 : decode cX12_stop 13 = .ok (.iload_n 2, 1) := dget daX12_stop_0 7 (q := (13, .iload_n 2, 1)) rfl
theorem dX12_stop_14 : decode cX12_stop 14 = .ok (.ifCond .lt 8, 3) := dget daX12_stop_0 8 (q := (14, .ifCond .lt 8, 3)) rfl
theorem dX12_stop_17 : decode cX12_stop 17 = .ok (.iload_n 3, 1) := dget daX12_stop_0 9 (q := (17, .iload_n 3, 1)) rfl
theorem dX12_stop_18 : decode cX12_stop 18 = .ok (.iload_n 2, 1) := dget daX12_stop_0 10 (q := (18, .iload_n 2, 1)) rfl
theorem dX12_stop_19 : decode cX12_stop 19 = .ok (.if_icmp .ge 10, 3) := dget daX12_stop_0 11 (q := (19, .if_icmp .ge 10, 3)) rfl
theorem dX12_stop_22 : decode cX12_stop 22 = .ok (.aload_n 0, 1) := dget daX12_stop_0 12 (q := (22, .aload_n 0, 1)) rfl
theorem dX12_stop_23 : decode cX12_stop 23 = .ok (.bipush (-4), 2) := dget daX12_stop_0 13 (q := (23, .bipush (-4), 2)) rfl
theorem dX12_stop_25 : decode cX12_stop 25 = .ok (.invokevirtual 164, 3) := dget daX12_stop_0 14 (q := (25, .invokevirtual 164, 3)) rfl
theorem dX12_stop_28 : decode cX12_stop 28 = .ok (.ireturn, 1) := dget daX12_stop_0 15 (q := (28, .ireturn, 1)) rfl
theorem dX12_stop_29 : decode cX12_stop 29 = .ok (.iload_n 3, 1) := dget daX12_stop_0 16 (q := (29, .iload_n 3, 1)) rfl
theorem dX12_stop_30 : decode cX12_stop 30 = .ok (.sipush 4000, 3) := dget daX12_stop_0 17 (q := (30, .sipush 4000, 3)) rfl
theorem dX12_stop_33 : decode cX12_stop 33 = .ok (.if_icmp .gt 12, 3) := dget daX12_stop_0 18 (q := (33, .if_icmp .gt 12, 3)) rfl
theorem dX12_stop_36 : decode cX12_stop 36 = .ok (.aload_n 0, 1) := dget daX12_stop_0 19 (q := (36, .aload_n 0, 1)) rfl
theorem dX12_stop_37 : decode cX12_stop 37 = .ok (.getfield 272, 3) := dget daX12_stop_0 20 (q := (37, .getfield 272, 3)) rfl
theorem dX12_stop_40 : decode cX12_stop 40 = .ok (.bipush 20, 2) := dget daX12_stop_0 21 (q := (40, .bipush 20, 2)) rfl
theorem dX12_stop_42 : decode cX12_stop 42 = .ok (.if_icmp .ne 10, 3) := dget daX12_stop_0 22 (q := (42, .if_icmp .ne 10, 3)) rfl
theorem dX12_stop_45 : decode cX12_stop 45 = .ok (.aload_n 0, 1) := dget daX12_stop_0 23 (q := (45, .aload_n 0, 1)) rfl
theorem dX12_stop_46 : decode cX12_stop 46 = .ok (.bipush (-6), 2) := dget daX12_stop_0 24 (q := (46, .bipush (-6), 2)) rfl
theorem dX12_stop_48 : decode cX12_stop 48 = .ok (.invokevirtual 164, 3) := dget daX12_stop_0 25 (q := (48, .invokevirtual 164, 3)) rfl
theorem dX12_stop_51 : decode cX12_stop 51 = .ok (.ireturn, 1) := dget daX12_stop_0 26 (q := (51, .ireturn, 1)) rfl
theorem dX12_stop_52 : decode cX12_stop 52 = .ok (.aload_n 0, 1) := dget daX12_stop_0 27 (q := (52, .aload_n 0, 1)) rfl
theorem dX12_stop_53 : decode cX12_stop 53 = .ok (.getfield 104, 3) := dget daX12_stop_0 28 (q := (53, .getfield 104, 3)) rfl
theorem dX12_stop_56 : decode cX12_stop 56 = .ok (.aload_n 0, 1) := dget daX12_stop_0 29 (q := (56, .aload_n 0, 1)) rfl
theorem dX12_stop_57 : decode cX12_stop 57 = .ok (.getfield 272, 3) := dget daX12_stop_0 30 (q := (57, .getfield 272, 3)) rfl
theorem dX12_stop_60 : decode cX12_stop 60 = .ok (.iload_n 1, 1) := dget daX12_stop_0 31 (q := (60, .iload_n 1, 1)) rfl
theorem dX12_stop_61 : decode cX12_stop 61 = .ok (.iastore, 1) := dget daX12_stop_0 32 (q := (61, .iastore, 1)) rfl
theorem dX12_stop_62 : decode cX12_stop 62 = .ok (.aload_n 0, 1) := dget daX12_stop_0 33 (q := (62, .aload_n 0, 1)) rfl
theorem dX12_stop_63 : decode cX12_stop 63 = .ok (.getfield 107, 3) := dget daX12_stop_0 34 (q := (63, .getfield 107, 3)) rfl
theorem dX12_stop_66 : decode cX12_stop 66 = .ok (.aload_n 0, 1) := dget daX12_stop_0 35 (q := (66, .aload_n 0, 1)) rfl
theorem dX12_stop_67 : decode cX12_stop 67 = .ok (.getfield 272, 3) := dget daX12_stop_0 36 (q := (67, .getfield 272, 3)) rfl
theorem dX12_stop_70 : decode cX12_stop 70 = .ok (.iload_n 2, 1) := dget daX12_stop_0 37 (q := (70, .iload_n 2, 1)) rfl
theorem dX12_stop_71 : decode cX12_stop 71 = .ok (.iastore, 1) := dget daX12_stop_0 38 (q := (71, .iastore, 1)) rfl
theorem dX12_stop_72 : decode cX12_stop 72 = .ok (.aload_n 0, 1) := dget daX12_stop_0 39 (q := (72, .aload_n 0, 1)) rfl
def tdaX12_stop_1 : List (Nat × (Instr × Nat)) := [(73, .getfield 110, 3), (76, .aload_n 0, 1), (77, .getfield 272, 3), (80, .iload_n 3, 1), (81, .iastore, 1), (82, .aload_n 0, 1), (83, .dup, 1), (84, .getfield 272, 3), (87, .iconst 1, 1), (88, .iadd, 1), (89, .putfield 272, 3), (92, .aload_n 0, 1), (93, .getfield 272, 3), (96, .ireturn, 1)]
theorem daX12_stop_1 : tdaX12_stop_1.all (fun q => decide (decode cX12_stop q.1 = .ok q.2)) = true := by decide +kernel
theorem dX12_stop_73 : decode cX12_stop 73 = .ok (.getfield 110, 3) := dget daX12_stop_1 0 (q := (73, .getfield 110, 3)) rfl
theorem dX12_stop_76 : decode cX12_stop 76 = .ok (.aload_n 0, 1) := dget daX12_stop_1 1 (q := (76, .aload_n 0, 1)) rfl
theorem dX12_stop_77 : decode cX12_stop 77 = .ok (.getfield 272, 3) := dget daX12_stop_1 2 (q := (77, .getfield 272, 3)) rfl
theorem dX12_stop_80 : decode cX12_stop 80 = .ok (.iload_n 3, 1) := dget daX12_stop_1 3 (q := (80, .iload_n 3, 1)) rfl
theorem dX12_stop_81 : decode cX12_stop 81 = .ok (.iastore, 1) := dget daX12_stop_1 4 (q := (81, .iastore, 1)) rfl
theorem dX12_stop_82 : decode cX12_stop 82 = .ok (.aload_n 0, 1) := dget daX12_stop_1 5 (q := (82, .aload_n 0, 1)) rfl
theorem dX12_stop_83 : decode cX12_stop 83 = .ok (.dup, 1) := dget daX12_stop_1 6 (q := (83, .dup, 1)) rfl
theorem dX12_stop_84 : decode cX12_stop 84 = .ok (.getfield 272, 3) := dget daX12_stop_1 7 (q := (84, .getfield 272, 3)) rfl
theorem dX12_stop_87 : decode cX12_stop 87 = .ok (.iconst 1, 1) := dget daX12_stop_1 8 (q := (87, .iconst 1, 1)) rfl
theorem dX12_stop_88 : decode cX12_stop 88 = .ok (.iadd, 1) := dget daX12_stop_1 9 (q := (88, .iadd, 1)) rfl
theorem dX12_stop_89 : decode cX12_stop 89 = .ok (.putfield 272, 3) := dget daX12_stop_1 10 (q := (89, .putfield 272, 3)) rfl
theorem dX12_stop_92 : decode cX12_stop 92 = .ok (.aload_n 0, 1) := dget daX12_stop_1 11 (q := (92, .aload_n 0, 1)) rfl
theorem dX12_stop_93 : decode cX12_stop 93 = .ok (.getfield 272, 3) := dget daX12_stop_1 12 (q := (93, .getfield 272, 3)) rfl
theorem dX12_stop_96 : decode cX12_stop 96 = .ok (.ireturn, 1) := dget daX12_stop_1 13 (q := (96, .ireturn, 1)) rfl
def tdaX12_isClaim_0 : List (Nat × (Instr × Nat)) := [(0, .iload_n 1, 1), (1, .iconst 0, 1), (2, .aload_n 0, 1), (3, .getfield 275, 3), (6, .iconst 1, 1), (7, .isub, 1), (8, .invokestatic 156, 3), (11, .ireturn, 1)]
theorem daX12_isClaim_0 : tdaX12_isClaim_0.all (fun q => decide (decode cX12_isClaim q.1 = .ok q.2)) = true := by decide +kernel
theorem dX12_isClaim_0 : decode cX12_isClaim 0 = .ok (.iload_n 1, 1) := dget daX12_isClaim_0 0 (q := (0, .iload_n 1, 1)) rfl
theorem dX12_isClaim_1 : decode cX12_isClaim 1 = .ok (.iconst 0, 1) := dget daX12_isClaim_0 1 (q := (1, .iconst 0, 1)) rfl
theorem dX12_isClaim_2 : decode cX12_isClaim 2 = .ok (.aload_n 0, 1) := dget daX12_isClaim_0 2 (q := (2, .aload_n 0, 1)) rfl
theorem dX12_isClaim_3 : decode cX12_isClaim 3 = .ok (.getfield 275, 3) := dget daX12_isClaim_0 3 (q := (3, .getfield 275, 3)) rfl
theorem dX12_isClaim_6 : decode cX12_isClaim 6 = .ok (.iconst 1, 1) := dget daX12_isClaim_0 4 (q := (6, .iconst 1, 1)) rfl
theorem dX12_isClaim_7 : decode cX12_isClaim 7 = .ok (.isub, 1) := dget daX12_isClaim_0 5 (q := (7, .isub, 1)) rfl
theorem dX12_isClaim_8 : decode cX12_isClaim 8 = .ok (.invokestatic 156, 3) := dget daX12_isClaim_0 6 (q := (8, .invokestatic 156, 3)) rfl
theorem dX12_isClaim_11 : decode cX12_isClaim 11 = .ok (.ireturn, 1) := dget daX12_isClaim_0 7 (q := (11, .ireturn, 1)) rfl
def tdaX12_claim_0 : List (Nat × (Instr × Nat)) := [(0, .aload_n 0, 1), (1, .iload_n 1, 1), (2, .invokevirtual 226, 3), (5, .ifCond .ne 9, 3), (8, .aload_n 0, 1), (9, .iconst (-1), 1), (10, .invokevirtual 164, 3), (13, .ireturn, 1), (14, .iconst 0, 1), (15, .istore_n 2, 1), (16, .iload_n 2, 1), (17, .aload_n 0, 1), (18, .getfield 275, 3), (21, .if_icmp .ge 26, 3), (24, .aload_n 0, 1), (25, .getfield 113, 3), (28, .iload_n 2, 1), (29, .iaload, 1), (30, .iload_n 1, 1), (31, .if_icmp .ne 10, 3), (34, .aload_n 0, 1), (35, .bipush (-3), 2), (37, .invokevirtual 164, 3), (40, .ireturn, 1), (41, .iinc 2 1, 3), (44, .goto (-28), 3), (47, .aload_n 0, 1), (48, .getfield 275, 3), (51, .bipush 30, 2), (53, .if_icmp .ne 10, 3), (56, .aload_n 0, 1), (57, .bipush (-6), 2), (59, .invokevirtual 164, 3), (62, .ireturn, 1), (63, .aload_n 0, 1), (64, .getfield 113, 3), (67, .aload_n 0, 1), (68, .getfield 275, 3), (71, .iload_n 1, 1), (72, .iastore, 1)]
theorem daX12_claim_0 : tdaX12_claim_0.all (fun q => decide (decode cX12_claim q.1 = .ok q.2)) = true := by decide +kernel
theorem dX12_claim_0 : decode cX12_claim 0 = .ok (.aload_n 0, 1) := dget daX12_claim_0 0 (q := (0, .aload_n 0, 1)) rfl
theorem dX12_claim_1 : decode cX12_claim 1 = .ok (.iload_n 1, 1) := dget daX12_claim_0 1 (q := (1, .iload_n 1, 1)) rfl
theorem dX12_claim_2 : decode cX12_claim 2 = .ok (.invokevirtual 226, 3) := dget daX12_claim_0 2 (q := (2, .invokevirtual 226, 3)) rfl
theorem dX12_claim_5 : decode cX12_claim 5 = .ok (.ifCond .ne 9, 3) := dget daX12_claim_0 3 (q := (5, .ifCond .ne 9, 3)) rfl
theorem dX12_claim_8 : decode cX12_claim 8 = .ok (.aload_n 0, 1) := dget daX12_claim_0 4 (q := (8, .aload_n 0, 1)) rfl
theorem dX12_claim_9 : decode cX12_claim 9 = .ok (.iconst (-1), 1) := dget daX12_claim_0 5 (q := (9, .iconst (-1), 1)) rfl
theorem dX12_claim_10 : decode cX12_claim 10 = .ok (.invokevirtual 164, 3) := dget daX12_claim_0 6 (q := (10, .invokevirtual 164, 3)) rfl
theorem dX12_claim_13 : decode cX12_claim 13 = .ok (.ireturn, 1) := dget daX12_claim_0 7 (q := (13, .ireturn, 1)) rfl
theorem dX12_claim_14 : decode cX12_claim 14 = .ok (.iconst 0, 1) := dget daX12_claim_0 8 (q := (14, .iconst 0, 1)) rfl
theorem dX12_claim_15 : decode cX12_claim 15 = .ok (.istore_n 2, 1) := dget daX12_claim_0 9 (q := (15, .istore_n 2, 1)) rfl
theorem dX12_claim_16 : decode cX12_claim 16 = .ok (.iload_n 2, 1) := dget daX12_claim_0 10 (q := (16, .iload_n 2, 1)) rfl
theorem dX12_claim_17 : decode cX12_claim 17 = .ok (.aload_n 0, 1) := dget daX12_claim_0 11 (q := (17, .aload_n 0, 1)) rfl
theorem dX12_claim_18 : decode cX12_claim 18 = .ok (.getfield 275, 3) := dget daX12_claim_0 12 (q := (18, .getfield 275, 3)) rfl
theorem dX12_claim_21 : decode cX12_claim 21 = .ok (.if_icmp .ge 26, 3) := dget daX12_claim_0 13 (q := (21, .if_icmp .ge 26, 3)) rfl
theorem dX12_claim_24 : decode cX12_claim 24 = .ok (.aload_n 0, 1) := dget daX12_claim_0 14 (q := (24, .aload_n 0, 1)) rfl
theorem dX12_claim_25 : decode cX12_claim 25 = .ok (.getfield 113, 3) := dget daX12_claim_0 15 (q := (25, .getfield 113, 3)) rfl
theorem dX12_claim_28 : decode cX12_claim 28 = .ok (.iload_n 2, 1) := dget daX12_claim_0 16 (q := (28, .iload_n 2, 1)) rfl
theorem dX12_claim_29 : decode cX12_claim 29 = .ok (.iaload, 1) := dget daX12_claim_0 17 (q := (29, .iaload, 1)) rfl
theorem dX12_claim_30 : decode cX12_claim 30 = .ok (.iload_n 1, 1) := dget daX12_claim_0 18 (q := (30, .iload_n 1, 1)) rfl
theorem dX12_claim_31 : decode cX12_claim 31 = .ok (.if_icmp .ne 10, 3) := dget daX12_claim_0 19 (q := (31, .if_icmp .ne 10, 3)) rfl
theorem dX12_claim_34 : decode cX12_claim 34 = .ok (.aload_n 0, 1) := dget daX12_claim_0 20 (q := (34, .aload_n 0, 1)) rfl
theorem dX12_claim_35 : decode cX12_claim 35 = .ok (.bipush (-3), 2) := dget daX12_claim_0 21 (q := (35, .bipush (-3), 2)) rfl
theorem dX12_claim_37 : decode cX12_claim 37 = .ok (.invokevirtual 164, 3) := dget daX12_claim_0 22 (q := (37, .invokevirtual 164, 3)) rfl
theorem dX12_claim_40 : decode cX12_claim 40 = .ok (.ireturn, 1) := dget daX12_claim_0 23 (q := (40, .ireturn, 1)) rfl
theorem dX12_claim_41 : decode cX12_claim 41 = .ok (.iinc 2 1, 3) := dget daX12_claim_0 24 (q := (41, .iinc 2 1, 3)) rfl
theorem dX12_claim_44 : decode cX12_claim 44 = .ok (.goto (-28), 3) := dget daX12_claim_0 25 (q := (44, .goto (-28), 3)) rfl
theorem dX12_claim_47 : decode cX12_claim 47 = .ok (.aload_n 0, 1) := dget daX12_claim_0 26 (q := (47, .aload_n 0, 1)) rfl
theorem dX12_claim_48 : decode cX12_claim 48 = .ok (.getfield 275, 3) := dget daX12_claim_0 27 (q := (48, .getfield 275, 3)) rfl
theorem dX12_claim_51 : decode cX12_claim 51 = .ok (.bipush 30, 2) := dget daX12_claim_0 28 (q := (51, .bipush 30, 2)) rfl
theorem dX12_claim_53 : decode cX12_claim 53 = .ok (.if_icmp .ne 10, 3) := dget daX12_claim_0 29 (q := (53, .if_icmp .ne 10, 3)) rfl
theorem dX12_claim_56 : decode cX12_claim 56 = .ok (.aload_n 0, 1) := dget daX12_claim_0 30 (q := (56, .aload_n 0, 1)) rfl
theorem dX12_claim_57 : decode cX12_claim 57 = .ok (.bipush (-6), 2) := dget daX12_claim_0 31 (q := (57, .bipush (-6), 2)) rfl
theorem dX12_claim_59 : decode cX12_claim 59 = .ok (.invokevirtual 164, 3) := dget daX12_claim_0 32 (q := (59, .invokevirtual 164, 3)) rfl
theorem dX12_claim_62 : decode cX12_claim 62 = .ok (.ireturn, 1) := dget daX12_claim_0 33 (q := (62, .ireturn, 1)) rfl
theorem dX12_claim_63 : decode cX12_claim 63 = .ok (.aload_n 0, 1) := dget daX12_claim_0 34 (q := (63, .aload_n 0, 1)) rfl
theorem dX12_claim_64 : decode cX12_claim 64 = .ok (.getfield 113, 3) := dget daX12_claim_0 35 (q := (64, .getfield 113, 3)) rfl
theorem dX12_claim_67 : decode cX12_claim 67 = .ok (.aload_n 0, 1) := dget daX12_claim_0 36 (q := (67, .aload_n 0, 1)) rfl
theorem dX12_claim_68 : decode cX12_claim 68 = .ok (.getfield 275, 3) := dget daX12_claim_0 37 (q := (68, .getfield 275, 3)) rfl
theorem dX12_claim_71 : decode cX12_claim 71 = .ok (.iload_n 1, 1) := dget daX12_claim_0 38 (q := (71, .iload_n 1, 1)) rfl
theorem dX12_claim_72 : decode cX12_claim 72 = .ok (.iastore, 1) := dget daX12_claim_0 39 (q := (72, .iastore, 1)) rfl
def tdaX12_claim_1 : List (Nat × (Instr × Nat)) := [(73, .aload_n 0, 1), (74, .getfield 116, 3), (77, .aload_n 0, 1), (78, .getfield 275, 3), (81, .aload_n 0, 1), (82, .getfield 168, 3), (85, .iastore, 1), (86, .aload_n 0, 1), (87, .dup, 1), (88, .getfield 275, 3), (91, .iconst 1, 1), (92, .iadd, 1), (93, .putfield 275, 3), (96, .aload_n 0, 1), (97, .getfield 275, 3), (100, .iconst 1, 1), (101, .isub, 1), (102, .ireturn, 1)]
theorem daX12_claim_1 : tdaX12_claim_1.all (fun q => decide (decode cX12_claim q.1 = .ok q.2)) = true := by decide +kernel
theorem dX12_claim_73 : decode cX12_claim 73 = .ok (.aload_n 0, 1) := dget daX12_claim_1 0 (q := (73, .aload_n 0, 1)) rfl
theorem dX12_claim_74 : decode cX12_claim 74 = .ok (.getfield 116, 3) := dget daX12_claim_1 1 (q := (74, .getfield 116, 3)) rfl
theorem dX12_claim_77 : decode cX12_claim 77 = .ok (.aload_n 0, 1) := dget daX12_claim_1 2 (q := (77, .aload_n 0, 1)) rfl
theorem dX12_claim_78 : decode cX12_claim 78 = .ok (.getfield 275, 3) := dget daX12_claim_1 3 (q := (78, .getfield 275, 3)) rfl
theorem dX12_claim_81 : decode cX12_claim 81 = .ok (.aload_n 0, 1) := dget daX12_claim_1 4 (q := (81, .aload_n 0, 1)) rfl
theorem dX12_claim_82 : decode cX12_claim 82 = .ok (.getfield 168, 3) := dget daX12_claim_1 5 (q := (82, .getfield 168, 3)) rfl
theorem dX12_claim_85 : decode cX12_claim 85 = .ok (.iastore, 1) := dget daX12_claim_1 6 (q := (85, .iastore, 1)) rfl
theorem dX12_claim_86 : decode cX12_claim 86 = .ok (.aload_n 0, 1) := dget daX12_claim_1 7 (q := (86, .aload_n 0, 1)) rfl
theorem dX12_claim_87 : decode cX12_claim 87 = .ok (.dup, 1) := dget daX12_claim_1 8 (q := (87, .dup, 1)) rfl
theorem dX12_claim_88 : decode cX12_claim 88 = .ok (.getfield 275, 3) := dget daX12_claim_1 9 (q := (88, .getfield 275, 3)) rfl
theorem dX12_claim_91 : decode cX12_claim 91 = .ok (.iconst 1, 1) := dget daX12_claim_1 10 (q := (91, .iconst 1, 1)) rfl
theorem dX12_claim_92 : decode cX12_claim 92 = .ok (.iadd, 1) := dget daX12_claim_1 11 (q := (92, .iadd, 1)) rfl
theorem dX12_claim_93 : decode cX12_claim 93 = .ok (.putfield 275, 3) := dget daX12_claim_1 12 (q := (93, .putfield 275, 3)) rfl
theorem dX12_claim_96 : decode cX12_claim 96 = .ok (.aload_n 0, 1) := dget daX12_claim_1 13 (q := (96, .aload_n 0, 1)) rfl
theorem dX12_claim_97 : decode cX12_claim 97 = .ok (.getfield 275, 3) := dget daX12_claim_1 14 (q := (97, .getfield 275, 3)) rfl
theorem dX12_claim_100 : decode cX12_claim 100 = .ok (.iconst 1, 1) := dget daX12_claim_1 15 (q := (100, .iconst 1, 1)) rfl
theorem dX12_claim_101 : decode cX12_claim 101 = .ok (.isub, 1) := dget daX12_claim_1 16 (q := (101, .isub, 1)) rfl
theorem dX12_claim_102 : decode cX12_claim 102 = .ok (.ireturn, 1) := dget daX12_claim_1 17 (q := (102, .ireturn, 1)) rfl
def tdaX12_isBarred_0 : List (Nat × (Instr × Nat)) := [(0, .aload_n 0, 1), (1, .getfield 113, 3), (4, .iload_n 1, 1), (5, .iaload, 1), (6, .istore_n 2, 1), (7, .aload_n 0, 1), (8, .iload_n 2, 1), (9, .aload_n 0, 1), (10, .getfield 116, 3), (13, .iload_n 1, 1), (14, .iaload, 1), (15, .invokevirtual 260, 3), (18, .istore_n 3, 1), (19, .iconst 0, 1), (20, .istore 4, 2), (22, .aload_n 0, 1), (23, .getfield 37, 3), (26, .aload_n 0, 1), (27, .iload_n 2, 1), (28, .invokevirtual 232, 3), (31, .iaload, 1), (32, .sipush 1440, 3), (35, .idiv, 1), (36, .iconst 1, 1), (37, .iadd, 1), (38, .istore 5, 2), (40, .iload 5, 2), (42, .aload_n 0, 1), (43, .getfield 116, 3), (46, .iload_n 1, 1), (47, .iaload, 1), (48, .if_icmp .gt 94, 3), (51, .iload_n 3, 1), (52, .ifCond .lt 90, 3), (55, .iconst 0, 1), (56, .istore 6, 2), (58, .iconst 0, 1), (59, .istore 7, 2), (61, .iload 7, 2), (63, .aload_n 0, 1)]
theorem daX12_isBarred_0 : tdaX12_isBarred_0.all (fun q => decide (decode cX12_isBarred q.1 = .ok q.2)) = true := by decide +kernel
theorem dX12_isBarred_0 : decode cX12_isBarred 0 = .ok (.aload_n 0, 1) := dget daX12_isBarred_0 0 (q := (0, .aload_n 0, 1)) rfl
theorem dX12_isBarred_1 : decode cX12_isBarred 1 = .ok (.getfield 113, 3) := dget daX12_isBarred_0 1 (q := (1, .getfield 113, 3)) rfl
theorem dX12_isBarred_4 : decode cX12_isBarred 4 = .ok (.iload_n 1, 1) := dget daX12_isBarred_0 2 (q := (4, .iload_n 1, 1)) rfl
theorem dX12_isBarred_5 : decode cX12_isBarred 5 = .ok (.iaload, 1) := dget daX12_isBarred_0 3 (q := (5, .iaload, 1)) rfl
theorem dX12_isBarred_6 : decode cX12_isBarred 6 = .ok (.istore_n 2, 1) := dget daX12_isBarred_0 4 (q := (6, .istore_n 2, 1)) rfl
theorem dX12_isBarred_7 : decode cX12_isBarred 7 = .ok (.aload_n 0, 1) := dget daX12_isBarred_0 5 (q := (7, .aload_n 0, 1)) rfl
theorem dX12_isBarred_8 : decode cX12_isBarred 8 = .ok (.iload_n 2, 1) := dget daX12_isBarred_0 6 (q := (8, .iload_n 2, 1)) rfl
theorem dX12_isBarred_9 : decode cX12_isBarred 9 = .ok (.aload_n 0, 1) := dget daX12_isBarred_0 7 (q := (9, .aload_n 0, 1)) rfl
theorem dX12_isBarred_10 : decode cX12_isBarred 10 = .ok (.getfield 116, 3) := dget daX12_isBarred_0 8 (q := (10, .getfield 116, 3)) rfl
theorem dX12_isBarred_13 : decode cX12_isBarred 13 = .ok (.iload_n 1, 1) := dget daX12_isBarred_0 9 (q := (13, .iload_n 1, 1)) rfl
theorem dX12_isBarred_14 : decode cX12_isBarred 14 = .ok (.iaload, 1) := dget daX12_isBarred_0 10 (q := (14, .iaload, 1)) rfl
theorem dX12_isBarred_15 : decode cX12_isBarred 15 = .ok (.invokevirtual 260, 3) := dget daX12_isBarred_0 11 (q := (15, .invokevirtual 260, 3)) rfl
theorem dX12_isBarred_18 : decode cX12_isBarred 18 = .ok (.istore_n 3, 1) := dget daX12_isBarred_0 12 (q := (18, .istore_n 3, 1)) rfl
theorem dX12_isBarred_19 : decode cX12_isBarred 19 = .ok (.iconst 0, 1) := dget daX12_isBarred_0 13 (q := (19, .iconst 0, 1)) rfl
theorem dX12_isBarred_20 : decode cX12_isBarred 20 = .ok (.istore 4, 2) := dget daX12_isBarred_0 14 (q := (20, .istore 4, 2)) rfl
theorem dX12_isBarred_22 : decode cX12_isBarred 22 = .ok (.aload_n 0, 1) := dget daX12_isBarred_0 15 (q := (22, .aload_n 0, 1)) rfl
theorem dX12_isBarred_23 : decode cX12_isBarred 23 = .ok (.getfield 37, 3) := dget daX12_isBarred_0 16 (q := (23, .getfield 37, 3)) rfl
theorem dX12_isBarred_26 : decode cX12_isBarred 26 = .ok (.aload_n 0, 1) := dget daX12_isBarred_0 17 (q := (26, .aload_n 0, 1)) rfl
theorem dX12_isBarred_27 : decode cX12_isBarred 27 = .ok (.iload_n 2, 1) := dget daX12_isBarred_0 18 (q := (27, .iload_n 2, 1)) rfl
theorem dX12_isBarred_28 : decode cX12_isBarred 28 = .ok (.invokevirtual 232, 3) := dget daX12_isBarred_0 19 (q := (28, .invokevirtual 232, 3)) rfl
theorem dX12_isBarred_31 : decode cX12_isBarred 31 = .ok (.iaload, 1) := dget daX12_isBarred_0 20 (q := (31, .iaload, 1)) rfl
theorem dX12_isBarred_32 : decode cX12_isBarred 32 = .ok (.sipush 1440, 3) := dget daX12_isBarred_0 21 (q := (32, .sipush 1440, 3)) rfl
theorem dX12_isBarred_35 : decode cX12_isBarred 35 = .ok (.idiv, 1) := dget daX12_isBarred_0 22 (q := (35, .idiv, 1)) rfl
theorem dX12_isBarred_36 : decode cX12_isBarred 36 = .ok (.iconst 1, 1) := dget daX12_isBarred_0 23 (q := (36, .iconst 1, 1)) rfl
theorem dX12_isBarred_37 : decode cX12_isBarred 37 = .ok (.iadd, 1) := dget daX12_isBarred_0 24 (q := (37, .iadd, 1)) rfl
theorem dX12_isBarred_38 : decode cX12_isBarred 38 = .ok (.istore 5, 2) := dget daX12_isBarred_0 25 (q := (38, .istore 5, 2)) rfl
theorem dX12_isBarred_40 : decode cX12_isBarred 40 = .ok (.iload 5, 2) := dget daX12_isBarred_0 26 (q := (40, .iload 5, 2)) rfl
theorem dX12_isBarred_42 : decode cX12_isBarred 42 = .ok (.aload_n 0, 1) := dget daX12_isBarred_0 27 (q := (42, .aload_n 0, 1)) rfl
theorem dX12_isBarred_43 : decode cX12_isBarred 43 = .ok (.getfield 116, 3) := dget daX12_isBarred_0 28 (q := (43, .getfield 116, 3)) rfl
theorem dX12_isBarred_46 : decode cX12_isBarred 46 = .ok (.iload_n 1, 1) := dget daX12_isBarred_0 29 (q := (46, .iload_n 1, 1)) rfl
theorem dX12_isBarred_47 : decode cX12_isBarred 47 = .ok (.iaload, 1) := dget daX12_isBarred_0 30 (q := (47, .iaload, 1)) rfl
theorem dX12_isBarred_48 : decode cX12_isBarred 48 = .ok (.if_icmp .gt 94, 3) := dget daX12_isBarred_0 31 (q := (48, .if_icmp .gt 94, 3)) rfl
theorem dX12_isBarred_51 : decode cX12_isBarred 51 = .ok (.iload_n 3, 1) := dget daX12_isBarred_0 32 (q := (51, .iload_n 3, 1)) rfl
theorem dX12_isBarred_52 : decode cX12_isBarred 52 = .ok (.ifCond .lt 90, 3) := dget daX12_isBarred_0 33 (q := (52, .ifCond .lt 90, 3)) rfl
theorem dX12_isBarred_55 : decode cX12_isBarred 55 = .ok (.iconst 0, 1) := dget daX12_isBarred_0 34 (q := (55, .iconst 0, 1)) rfl
theorem dX12_isBarred_56 : decode cX12_isBarred 56 = .ok (.istore 6, 2) := dget daX12_isBarred_0 35 (q := (56, .istore 6, 2)) rfl
theorem dX12_isBarred_58 : decode cX12_isBarred 58 = .ok (.iconst 0, 1) := dget daX12_isBarred_0 36 (q := (58, .iconst 0, 1)) rfl
theorem dX12_isBarred_59 : decode cX12_isBarred 59 = .ok (.istore 7, 2) := dget daX12_isBarred_0 37 (q := (59, .istore 7, 2)) rfl
theorem dX12_isBarred_61 : decode cX12_isBarred 61 = .ok (.iload 7, 2) := dget daX12_isBarred_0 38 (q := (61, .iload 7, 2)) rfl
theorem dX12_isBarred_63 : decode cX12_isBarred 63 = .ok (.aload_n 0, 1) := dget daX12_isBarred_0 39 (q := (63, .aload_n 0, 1)) rfl
def tdaX12_isBarred_1 : List (Nat × (Instr × Nat)) := [(64, .getfield 272, 3), (67, .if_icmp .ge 54, 3), (70, .iload 6, 2), (72, .ifCond .ne 36, 3), (75, .aload_n 0, 1), (76, .getfield 104, 3), (79, .iload 7, 2), (81, .iaload, 1), (82, .iload_n 3, 1), (83, .if_icmp .ne 29, 3), (86, .iload 5, 2), (88, .aload_n 0, 1), (89, .getfield 107, 3), (92, .iload 7, 2), (94, .iaload, 1), (95, .aload_n 0, 1), (96, .getfield 110, 3), (99, .iload 7, 2), (101, .iaload, 1), (102, .invokestatic 156, 3), (105, .ifCond .eq 7, 3), (108, .iconst 1, 1), (109, .goto 4, 3), (112, .iconst 0, 1), (113, .istore 6, 2), (115, .iinc 7 1, 3), (118, .goto (-57), 3), (121, .iload 4, 2), (123, .iload 6, 2), (125, .ifCond .eq 7, 3), (128, .iconst 0, 1), (129, .goto 4, 3), (132, .iconst 1, 1), (133, .iadd, 1), (134, .istore 4, 2), (136, .iinc 5 1, 3), (139, .goto (-99), 3), (142, .iload_n 3, 1), (143, .ifCond .lt 18, 3), (146, .iload 4, 2)]
theorem daX12_isBarred_1 : tdaX12_isBarred_1.all (fun q => decide (decode cX12_isBarred q.1 = .ok q.2)) = true := by decide +kernel
theorem dX12_isBarred_64 : decode cX12_isBarred 64 = .ok (.getfield 272, 3) := dget daX12_isBarred_1 0 (q := (64, .getfield 272, 3)) rfl
theorem dX12_isBarred_67 : decode cX12_isBarred 67 = .ok (.if_icmp .ge 54, 3) := dget daX12_isBarred_1 1 (q := (67, .if_icmp .ge 54, 3)) rfl
theorem dX12_isBarred_70 : decode cX12_isBarred 70 = .ok (.iload 6, 2) := dget daX12_isBarred_1 2 (q := (70, .iload 6, 2)) rfl
theorem dX12_isBarred_72 : decode cX12_isBarred 72 = .ok (.ifCond .ne 36, 3) := dget daX12_isBarred_1 3 (q := (72, .ifCond .ne 36, 3)) rfl
theorem dX12_isBarred_75 : decode cX12_isBarred 75 = .ok (.aload_n 0, 1) := dget daX12_isBarred_1 4 (q := (75, .aload_n 0, 1)) rfl
theorem dX12_isBarred_76 : decode cX12_isBarred 76 = .ok (.getfield 104, 3) := dget daX12_isBarred_1 5 (q := (76, .getfield 104, 3)) rfl
theorem dX12_isBarred_79 : decode cX12_isBarred 79 = .ok (.iload 7, 2) := dget daX12_isBarred_1 6 (q := (79, .iload 7, 2)) rfl
theorem dX12_isBarred_81 : decode cX12_isBarred 81 = .ok (.iaload, 1) := dget daX12_isBarred_1 7 (q := (81, .iaload, 1)) rfl
theorem dX12_isBarred_82 : decode cX12_isBarred 82 = .ok (.iload_n 3, 1) := dget daX12_isBarred_1 8 (q := (82, .iload_n 3, 1)) rfl
theorem dX12_isBarred_83 : decode cX12_isBarred 83 = .ok (.if_icmp .ne 29, 3) := dget daX12_isBarred_1 9 (q := (83, .if_icmp .ne 29, 3)) rfl
theorem dX12_isBarred_86 : decode cX12_isBarred 86 = .ok (.iload 5, 2) := dget daX12_isBarred_1 10 (q := (86, .iload 5, 2)) rfl
theorem dX12_isBarred_88 : decode cX12_isBarred 88 = .ok (.aload_n 0, 1) := dget daX12_isBarred_1 11 (q := (88, .aload_n 0, 1)) rfl
theorem dX12_isBarred_89 : decode cX12_isBarred 89 = .ok (.getfield 107, 3) := dget daX12_isBarred_1 12 (q := (89, .getfield 107, 3)) rfl
theorem dX12_isBarred_92 : decode cX12_isBarred 92 = .ok (.iload 7, 2) := dget daX12_isBarred_1 13 (q := (92, .iload 7, 2)) rfl
theorem dX12_isBarred_94 : decode cX12_isBarred 94 = .ok (.iaload, 1) := dget daX12_isBarred_1 14 (q := (94, .iaload, 1)) rfl
theorem dX12_isBarred_95 : decode cX12_isBarred 95 = .ok (.aload_n 0, 1) := dget daX12_isBarred_1 15 (q := (95, .aload_n 0, 1)) rfl
theorem dX12_isBarred_96 : decode cX12_isBarred 96 = .ok (.getfield 110, 3) := dget daX12_isBarred_1 16 (q := (96, .getfield 110, 3)) rfl
theorem dX12_isBarred_99 : decode cX12_isBarred 99 = .ok (.iload 7, 2) := dget daX12_isBarred_1 17 (q := (99, .iload 7, 2)) rfl
theorem dX12_isBarred_101 : decode cX12_isBarred 101 = .ok (.iaload, 1) := dget daX12_isBarred_1 18 (q := (101, .iaload, 1)) rfl
theorem dX12_isBarred_102 : decode cX12_isBarred 102 = .ok (.invokestatic 156, 3) := dget daX12_isBarred_1 19 (q := (102, .invokestatic 156, 3)) rfl
theorem dX12_isBarred_105 : decode cX12_isBarred 105 = .ok (.ifCond .eq 7, 3) := dget daX12_isBarred_1 20 (q := (105, .ifCond .eq 7, 3)) rfl
theorem dX12_isBarred_108 : decode cX12_isBarred 108 = .ok (.iconst 1, 1) := dget daX12_isBarred_1 21 (q := (108, .iconst 1, 1)) rfl
theorem dX12_isBarred_109 : decode cX12_isBarred 109 = .ok (.goto 4, 3) := dget daX12_isBarred_1 22 (q := (109, .goto 4, 3)) rfl
theorem dX12_isBarred_112 : decode cX12_isBarred 112 = .ok (.iconst 0, 1) := dget daX12_isBarred_1 23 (q := (112, .iconst 0, 1)) rfl
theorem dX12_isBarred_113 : decode cX12_isBarred 113 = .ok (.istore 6, 2) := dget daX12_isBarred_1 24 (q := (113, .istore 6, 2)) rfl
theorem dX12_isBarred_115 : decode cX12_isBarred 115 = .ok (.iinc 7 1, 3) := dget daX12_isBarred_1 25 (q := (115, .iinc 7 1, 3)) rfl
theorem dX12_isBarred_118 : decode cX12_isBarred 118 = .ok (.goto (-57), 3) := dget daX12_isBarred_1 26 (q := (118, .goto (-57), 3)) rfl
theorem dX12_isBarred_121 : decode cX12_isBarred 121 = .ok (.iload 4, 2) := dget daX12_isBarred_1 27 (q := (121, .iload 4, 2)) rfl
theorem dX12_isBarred_123 : decode cX12_isBarred 123 = .ok (.iload 6, 2) := dget daX12_isBarred_1 28 (q := (123, .iload 6, 2)) rfl
theorem dX12_isBarred_125 : decode cX12_isBarred 125 = .ok (.ifCond .eq 7, 3) := dget daX12_isBarred_1 29 (q := (125, .ifCond .eq 7, 3)) rfl
theorem dX12_isBarred_128 : decode cX12_isBarred 128 = .ok (.iconst 0, 1) := dget daX12_isBarred_1 30 (q := (128, .iconst 0, 1)) rfl
theorem dX12_isBarred_129 : decode cX12_isBarred 129 = .ok (.goto 4, 3) := dget daX12_isBarred_1 31 (q := (129, .goto 4, 3)) rfl
theorem dX12_isBarred_132 : decode cX12_isBarred 132 = .ok (.iconst 1, 1) := dget daX12_isBarred_1 32 (q := (132, .iconst 1, 1)) rfl
theorem dX12_isBarred_133 : decode cX12_isBarred 133 = .ok (.iadd, 1) := dget daX12_isBarred_1 33 (q := (133, .iadd, 1)) rfl
theorem dX12_isBarred_134 : decode cX12_isBarred 134 = .ok (.istore 4, 2) := dget daX12_isBarred_1 34 (q := (134, .istore 4, 2)) rfl
theorem dX12_isBarred_136 : decode cX12_isBarred 136 = .ok (.iinc 5 1, 3) := dget daX12_isBarred_1 35 (q := (136, .iinc 5 1, 3)) rfl
theorem dX12_isBarred_139 : decode cX12_isBarred 139 = .ok (.goto (-99), 3) := dget daX12_isBarred_1 36 (q := (139, .goto (-99), 3)) rfl
theorem dX12_isBarred_142 : decode cX12_isBarred 142 = .ok (.iload_n 3, 1) := dget daX12_isBarred_1 37 (q := (142, .iload_n 3, 1)) rfl
theorem dX12_isBarred_143 : decode cX12_isBarred 143 = .ok (.ifCond .lt 18, 3) := dget daX12_isBarred_1 38 (q := (143, .ifCond .lt 18, 3)) rfl
theorem dX12_isBarred_146 : decode cX12_isBarred 146 = .ok (.iload 4, 2) := dget daX12_isBarred_1 39 (q := (146, .iload 4, 2)) rfl
def tdaX12_isBarred_2 : List (Nat × (Instr × Nat)) := [(148, .aload_n 0, 1), (149, .getfield 101, 3), (152, .iload_n 3, 1), (153, .iaload, 1), (154, .if_icmp .le 7, 3), (157, .iconst 1, 1), (158, .goto 4, 3), (161, .iconst 0, 1), (162, .ireturn, 1)]
theorem daX12_isBarred_2 : tdaX12_isBarred_2.all (fun q => decide (decode cX12_isBarred q.1 = .ok q.2)) = true := by decide +kernel
theorem dX12_isBarred_148 : decode cX12_isBarred 148 = .ok (.aload_n 0, 1) := dget daX12_isBarred_2 0 (q := (148, .aload_n 0, 1)) rfl
theorem dX12_isBarred_149 : decode cX12_isBarred 149 = .ok (.getfield 101, 3) := dget daX12_isBarred_2 1 (q := (149, .getfield 101, 3)) rfl
theorem dX12_isBarred_152 : decode cX12_isBarred 152 = .ok (.iload_n 3, 1) := dget daX12_isBarred_2 2 (q := (152, .iload_n 3, 1)) rfl
theorem dX12_isBarred_153 : decode cX12_isBarred 153 = .ok (.iaload, 1) := dget daX12_isBarred_2 3 (q := (153, .iaload, 1)) rfl
theorem dX12_isBarred_154 : decode cX12_isBarred 154 = .ok (.if_icmp .le 7, 3) := dget daX12_isBarred_2 4 (q := (154, .if_icmp .le 7, 3)) rfl
theorem dX12_isBarred_157 : decode cX12_isBarred 157 = .ok (.iconst 1, 1) := dget daX12_isBarred_2 5 (q := (157, .iconst 1, 1)) rfl
theorem dX12_isBarred_158 : decode cX12_isBarred 158 = .ok (.goto 4, 3) := dget daX12_isBarred_2 6 (q := (158, .goto 4, 3)) rfl
theorem dX12_isBarred_161 : decode cX12_isBarred 161 = .ok (.iconst 0, 1) := dget daX12_isBarred_2 7 (q := (161, .iconst 0, 1)) rfl
theorem dX12_isBarred_162 : decode cX12_isBarred 162 = .ok (.ireturn, 1) := dget daX12_isBarred_2 8 (q := (162, .ireturn, 1)) rfl
def tdaX12_worthOf_0 : List (Nat × (Instr × Nat)) := [(0, .aload_n 0, 1), (1, .iload_n 1, 1), (2, .invokevirtual 278, 3), (5, .ifCond .eq 7, 3), (8, .iconst 0, 1), (9, .goto 19, 3), (12, .aload_n 0, 1), (13, .aload_n 0, 1), (14, .getfield 113, 3), (17, .iload_n 1, 1), (18, .iaload, 1), (19, .aload_n 0, 1), (20, .getfield 116, 3), (23, .iload_n 1, 1), (24, .iaload, 1), (25, .invokevirtual 269, 3), (28, .ireturn, 1)]
theorem daX12_worthOf_0 : tdaX12_worthOf_0.all (fun q => decide (decode cX12_worthOf q.1 = .ok q.2)) = true := by decide +kernel
theorem dX12_worthOf_0 : decode cX12_worthOf 0 = .ok (.aload_n 0, 1) := dget daX12_worthOf_0 0 (q := (0, .aload_n 0, 1)) rfl
theorem dX12_worthOf_1 : decode cX12_worthOf 1 = .ok (.iload_n 1, 1) := dget daX12_worthOf_0 1 (q := (1, .iload_n 1, 1)) rfl
theorem dX12_worthOf_2 : decode cX12_worthOf 2 = .ok (.invokevirtual 278, 3) := dget daX12_worthOf_0 2 (q := (2, .invokevirtual 278, 3)) rfl
theorem dX12_worthOf_5 : decode cX12_worthOf 5 = .ok (.ifCond .eq 7, 3) := dget daX12_worthOf_0 3 (q := (5, .ifCond .eq 7, 3)) rfl
theorem dX12_worthOf_8 : decode cX12_worthOf 8 = .ok (.iconst 0, 1) := dget daX12_worthOf_0 4 (q := (8, .iconst 0, 1)) rfl
theorem dX12_worthOf_9 : decode cX12_worthOf 9 = .ok (.goto 19, 3) := dget daX12_worthOf_0 5 (q := (9, .goto 19, 3)) rfl
theorem dX12_worthOf_12 : decode cX12_worthOf 12 = .ok (.aload_n 0, 1) := dget daX12_worthOf_0 6 (q := (12, .aload_n 0, 1)) rfl
theorem dX12_worthOf_13 : decode cX12_worthOf 13 = .ok (.aload_n 0, 1) := dget daX12_worthOf_0 7 (q := (13, .aload_n 0, 1)) rfl
theorem dX12_worthOf_14 : decode cX12_worthOf 14 = .ok (.getfield 113, 3) := dget daX12_worthOf_0 8 (q := (14, .getfield 113, 3)) rfl
theorem dX12_worthOf_17 : decode cX12_worthOf 17 = .ok (.iload_n 1, 1) := dget daX12_worthOf_0 9 (q := (17, .iload_n 1, 1)) rfl
theorem dX12_worthOf_18 : decode cX12_worthOf 18 = .ok (.iaload, 1) := dget daX12_worthOf_0 10 (q := (18, .iaload, 1)) rfl
theorem dX12_worthOf_19 : decode cX12_worthOf 19 = .ok (.aload_n 0, 1) := dget daX12_worthOf_0 11 (q := (19, .aload_n 0, 1)) rfl
theorem dX12_worthOf_20 : decode cX12_worthOf 20 = .ok (.getfield 116, 3) := dget daX12_worthOf_0 12 (q := (20, .getfield 116, 3)) rfl
theorem dX12_worthOf_23 : decode cX12_worthOf 23 = .ok (.iload_n 1, 1) := dget daX12_worthOf_0 13 (q := (23, .iload_n 1, 1)) rfl
theorem dX12_worthOf_24 : decode cX12_worthOf 24 = .ok (.iaload, 1) := dget daX12_worthOf_0 14 (q := (24, .iaload, 1)) rfl
theorem dX12_worthOf_25 : decode cX12_worthOf 25 = .ok (.invokevirtual 269, 3) := dget daX12_worthOf_0 15 (q := (25, .invokevirtual 269, 3)) rfl
theorem dX12_worthOf_28 : decode cX12_worthOf 28 = .ok (.ireturn, 1) := dget daX12_worthOf_0 16 (q := (28, .ireturn, 1)) rfl
def tdaX12_settledOf_0 : List (Nat × (Instr × Nat)) := [(0, .iconst 0, 1), (1, .istore_n 2, 1), (2, .iconst 0, 1), (3, .istore_n 3, 1), (4, .iload_n 3, 1), (5, .iconst 5, 1), (6, .if_icmp .ge 22, 3), (9, .iload_n 2, 1), (10, .aload_n 0, 1), (11, .getfield 122, 3), (14, .iconst 5, 1), (15, .iload_n 1, 1), (16, .imul, 1), (17, .iload_n 3, 1), (18, .iadd, 1), (19, .iaload, 1), (20, .iadd, 1), (21, .istore_n 2, 1), (22, .iinc 3 1, 3), (25, .goto (-21), 3), (28, .iload_n 2, 1), (29, .ireturn, 1)]
theorem daX12_settledOf_0 : tdaX12_settledOf_0.all (fun q => decide (decode cX12_settledOf q.1 = .ok q.2)) = true := by decide +kernel
theorem dX12_settledOf_0 : decode cX12_settledOf 0 = .ok (.iconst 0, 1) := dget daX12_settledOf_0 0 (q := (0, .iconst 0, 1)) rfl
theorem dX12_settledOf_1 : decode cX12_settledOf 1 = .ok (.istore_n 2, 1) := dget daX12_settledOf_0 1 (q := (1, .istore_n 2, 1)) rfl
theorem dX12_settledOf_2 : decode cX12_settledOf 2 = .ok (.iconst 0, 1) := dget daX12_settledOf_0 2 (q := (2, .iconst 0, 1)) rfl
theorem dX12_settledOf_3 : decode cX12_settledOf 3 = .ok (.istore_n 3, 1) := dget daX12_settledOf_0 3 (q := (3, .istore_n 3, 1)) rfl
theorem dX12_settledOf_4 : decode cX12_settledOf 4 = .ok (.iload_n 3, 1) := dget daX12_settledOf_0 4 (q := (4, .iload_n 3, 1)) rfl
theorem dX12_settledOf_5 : decode cX12_settledOf 5 = .ok (.iconst 5, 1) := dget daX12_settledOf_0 5 (q := (5, .iconst 5, 1)) rfl
theorem dX12_settledOf_6 : decode cX12_settledOf 6 = .ok (.if_icmp .ge 22, 3) := dget daX12_settledOf_0 6 (q := (6, .if_icmp .ge 22, 3)) rfl
theorem dX12_settledOf_9 : decode cX12_settledOf 9 = .ok (.iload_n 2, 1) := dget daX12_settledOf_0 7 (q := (9, .iload_n 2, 1)) rfl
theorem dX12_settledOf_10 : decode cX12_settledOf 10 = .ok (.aload_n 0, 1) := dget daX12_settledOf_0 8 (q := (10, .aload_n 0, 1)) rfl
theorem dX12_settledOf_11 : decode cX12_settledOf 11 = .ok (.getfield 122, 3) := dget daX12_settledOf_0 9 (q := (11, .getfield 122, 3)) rfl
theorem dX12_settledOf_14 : decode cX12_settledOf 14 = .ok (.iconst 5, 1) := dget daX12_settledOf_0 10 (q := (14, .iconst 5, 1)) rfl
theorem dX12_settledOf_15 : decode cX12_settledOf 15 = .ok (.iload_n 1, 1) := dget daX12_settledOf_0 11 (q := (15, .iload_n 1, 1)) rfl
theorem dX12_settledOf_16 : decode cX12_settledOf 16 = .ok (.imul, 1) := dget daX12_settledOf_0 12 (q := (16, .imul, 1)) rfl
theorem dX12_settledOf_17 : decode cX12_settledOf 17 = .ok (.iload_n 3, 1) := dget daX12_settledOf_0 13 (q := (17, .iload_n 3, 1)) rfl
theorem dX12_settledOf_18 : decode cX12_settledOf 18 = .ok (.iadd, 1) := dget daX12_settledOf_0 14 (q := (18, .iadd, 1)) rfl
theorem dX12_settledOf_19 : decode cX12_settledOf 19 = .ok (.iaload, 1) := dget daX12_settledOf_0 15 (q := (19, .iaload, 1)) rfl
theorem dX12_settledOf_20 : decode cX12_settledOf 20 = .ok (.iadd, 1) := dget daX12_settledOf_0 16 (q := (20, .iadd, 1)) rfl
theorem dX12_settledOf_21 : decode cX12_settledOf 21 = .ok (.istore_n 2, 1) := dget daX12_settledOf_0 17 (q := (21, .istore_n 2, 1)) rfl
theorem dX12_settledOf_22 : decode cX12_settledOf 22 = .ok (.iinc 3 1, 3) := dget daX12_settledOf_0 18 (q := (22, .iinc 3 1, 3)) rfl
theorem dX12_settledOf_25 : decode cX12_settledOf 25 = .ok (.goto (-21), 3) := dget daX12_settledOf_0 19 (q := (25, .goto (-21), 3)) rfl
theorem dX12_settledOf_28 : decode cX12_settledOf 28 = .ok (.iload_n 2, 1) := dget daX12_settledOf_0 20 (q := (28, .iload_n 2, 1)) rfl
theorem dX12_settledOf_29 : decode cX12_settledOf 29 = .ok (.ireturn, 1) := dget daX12_settledOf_0 21 (q := (29, .ireturn, 1)) rfl
def tdaX12_claimOf_0 : List (Nat × (Instr × Nat)) := [(0, .aload_n 0, 1), (1, .iload_n 1, 1), (2, .invokevirtual 281, 3), (5, .ifCond .ne 9, 3), (8, .aload_n 0, 1), (9, .iconst (-1), 1), (10, .invokevirtual 164, 3), (13, .ireturn, 1), (14, .iload_n 2, 1), (15, .iconst 0, 1), (16, .iconst 5, 1), (17, .invokestatic 156, 3), (20, .ifCond .ne 10, 3), (23, .aload_n 0, 1), (24, .bipush (-2), 2), (26, .invokevirtual 164, 3), (29, .ireturn, 1), (30, .iload_n 2, 1), (31, .tableswitch 73 0 4 #[33, 40, 47, 61, 67], 33), (64, .aload_n 0, 1), (65, .getfield 113, 3), (68, .iload_n 1, 1), (69, .iaload, 1), (70, .ireturn, 1), (71, .aload_n 0, 1), (72, .getfield 116, 3), (75, .iload_n 1, 1), (76, .iaload, 1), (77, .ireturn, 1), (78, .aload_n 0, 1), (79, .iload_n 1, 1), (80, .invokevirtual 278, 3), (83, .ifCond .eq 7, 3), (86, .iconst 1, 1), (87, .goto 4, 3), (90, .iconst 0, 1), (91, .ireturn, 1), (92, .aload_n 0, 1), (93, .iload_n 1, 1), (94, .invokevirtual 284, 3)]
theorem daX12_claimOf_0 : tdaX12_claimOf_0.all (fun q => decide (decode cX12_claimOf q.1 = .ok q.2)) = true := by decide +kernel
theorem dX12_claimOf_0 : decode cX12_claimOf 0 = .ok (.aload_n 0, 1) := dget daX12_claimOf_0 0 (q := (0, .aload_n 0, 1)) rfl
theorem dX12_claimOf_1 : decode cX12_claimOf 1 = .ok (.iload_n 1, 1) := dget daX12_claimOf_0 1 (q := (1, .iload_n 1, 1)) rfl
theorem dX12_claimOf_2 : decode cX12_claimOf 2 = .ok (.invokevirtual 281, 3) := dget daX12_claimOf_0 2 (q := (2, .invokevirtual 281, 3)) rfl
theorem dX12_claimOf_5 : decode cX12_claimOf 5 = .ok (.ifCond .ne 9, 3) := dget daX12_claimOf_0 3 (q := (5, .ifCond .ne 9, 3)) rfl
theorem dX12_claimOf_8 : decode cX12_claimOf 8 = .ok (.aload_n 0, 1) := dget daX12_claimOf_0 4 (q := (8, .aload_n 0, 1)) rfl
theorem dX12_claimOf_9 : decode cX12_claimOf 9 = .ok (.iconst (-1), 1) := dget daX12_claimOf_0 5 (q := (9, .iconst (-1), 1)) rfl
theorem dX12_claimOf_10 : decode cX12_claimOf 10 = .ok (.invokevirtual 164, 3) := dget daX12_claimOf_0 6 (q := (10, .invokevirtual 164, 3)) rfl
theorem dX12_claimOf_13 : decode cX12_claimOf 13 = .ok (.ireturn, 1) := dget daX12_claimOf_0 7 (q := (13, .ireturn, 1)) rfl
theorem dX12_claimOf_14 : decode cX12_claimOf 14 = .ok (.iload_n 2, 1) := dget daX12_claimOf_0 8 (q := (14, .iload_n 2, 1)) rfl
theorem dX12_claimOf_15 : decode cX12_claimOf 15 = .ok (.iconst 0, 1) := dget daX12_claimOf_0 9 (q := (15, .iconst 0, 1)) rfl
theorem dX12_claimOf_16 : decode cX12_claimOf 16 = .ok (.iconst 5, 1) := dget daX12_claimOf_0 10 (q := (16, .iconst 5, 1)) rfl
theorem dX12_claimOf_17 : decode cX12_claimOf 17 = .ok (.invokestatic 156, 3) := dget daX12_claimOf_0 11 (q := (17, .invokestatic 156, 3)) rfl
theorem dX12_claimOf_20 : decode cX12_claimOf 20 = .ok (.ifCond .ne 10, 3) := dget daX12_claimOf_0 12 (q := (20, .ifCond .ne 10, 3)) rfl
theorem dX12_claimOf_23 : decode cX12_claimOf 23 = .ok (.aload_n 0, 1) := dget daX12_claimOf_0 13 (q := (23, .aload_n 0, 1)) rfl
theorem dX12_claimOf_24 : decode cX12_claimOf 24 = .ok (.bipush (-2), 2) := dget daX12_claimOf_0 14 (q := (24, .bipush (-2), 2)) rfl
theorem dX12_claimOf_26 : decode cX12_claimOf 26 = .ok (.invokevirtual 164, 3) := dget daX12_claimOf_0 15 (q := (26, .invokevirtual 164, 3)) rfl
theorem dX12_claimOf_29 : decode cX12_claimOf 29 = .ok (.ireturn, 1) := dget daX12_claimOf_0 16 (q := (29, .ireturn, 1)) rfl
theorem dX12_claimOf_30 : decode cX12_claimOf 30 = .ok (.iload_n 2, 1) := dget daX12_claimOf_0 17 (q := (30, .iload_n 2, 1)) rfl
theorem dX12_claimOf_31 : decode cX12_claimOf 31 = .ok (.tableswitch 73 0 4 #[33, 40, 47, 61, 67], 33) := dget daX12_claimOf_0 18 (q := (31, .tableswitch 73 0 4 #[33, 40, 47, 61, 67], 33)) rfl
theorem dX12_claimOf_64 : decode cX12_claimOf 64 = .ok (.aload_n 0, 1) := dget daX12_claimOf_0 19 (q := (64, .aload_n 0, 1)) rfl
theorem dX12_claimOf_65 : decode cX12_claimOf 65 = .ok (.getfield 113, 3) := dget daX12_claimOf_0 20 (q := (65, .getfield 113, 3)) rfl
theorem dX12_claimOf_68 : decode cX12_claimOf 68 = .ok (.iload_n 1, 1) := dget daX12_claimOf_0 21 (q := (68, .iload_n 1, 1)) rfl
theorem dX12_claimOf_69 : decode cX12_claimOf 69 = .ok (.iaload, 1) := dget daX12_claimOf_0 22 (q := (69, .iaload, 1)) rfl
theorem dX12_claimOf_70 : decode cX12_claimOf 70 = .ok (.ireturn, 1) := dget daX12_claimOf_0 23 (q := (70, .ireturn, 1)) rfl
theorem dX12_claimOf_71 : decode cX12_claimOf 71 = .ok (.aload_n 0, 1) := dget daX12_claimOf_0 24 (q := (71, .aload_n 0, 1)) rfl
theorem dX12_claimOf_72 : decode cX12_claimOf 72 = .ok (.getfield 116, 3) := dget daX12_claimOf_0 25 (q := (72, .getfield 116, 3)) rfl
theorem dX12_claimOf_75 : decode cX12_claimOf 75 = .ok (.iload_n 1, 1) := dget daX12_claimOf_0 26 (q := (75, .iload_n 1, 1)) rfl
theorem dX12_claimOf_76 : decode cX12_claimOf 76 = .ok (.iaload, 1) := dget daX12_claimOf_0 27 (q := (76, .iaload, 1)) rfl
theorem dX12_claimOf_77 : decode cX12_claimOf 77 = .ok (.ireturn, 1) := dget daX12_claimOf_0 28 (q := (77, .ireturn, 1)) rfl
theorem dX12_claimOf_78 : decode cX12_claimOf 78 = .ok (.aload_n 0, 1) := dget daX12_claimOf_0 29 (q := (78, .aload_n 0, 1)) rfl
theorem dX12_claimOf_79 : decode cX12_claimOf 79 = .ok (.iload_n 1, 1) := dget daX12_claimOf_0 30 (q := (79, .iload_n 1, 1)) rfl
theorem dX12_claimOf_80 : decode cX12_claimOf 80 = .ok (.invokevirtual 278, 3) := dget daX12_claimOf_0 31 (q := (80, .invokevirtual 278, 3)) rfl
theorem dX12_claimOf_83 : decode cX12_claimOf 83 = .ok (.ifCond .eq 7, 3) := dget daX12_claimOf_0 32 (q := (83, .ifCond .eq 7, 3)) rfl
theorem dX12_claimOf_86 : decode cX12_claimOf 86 = .ok (.iconst 1, 1) := dget daX12_claimOf_0 33 (q := (86, .iconst 1, 1)) rfl
theorem dX12_claimOf_87 : decode cX12_claimOf 87 = .ok (.goto 4, 3) := dget daX12_claimOf_0 34 (q := (87, .goto 4, 3)) rfl
theorem dX12_claimOf_90 : decode cX12_claimOf 90 = .ok (.iconst 0, 1) := dget daX12_claimOf_0 35 (q := (90, .iconst 0, 1)) rfl
theorem dX12_claimOf_91 : decode cX12_claimOf 91 = .ok (.ireturn, 1) := dget daX12_claimOf_0 36 (q := (91, .ireturn, 1)) rfl
theorem dX12_claimOf_92 : decode cX12_claimOf 92 = .ok (.aload_n 0, 1) := dget daX12_claimOf_0 37 (q := (92, .aload_n 0, 1)) rfl
theorem dX12_claimOf_93 : decode cX12_claimOf 93 = .ok (.iload_n 1, 1) := dget daX12_claimOf_0 38 (q := (93, .iload_n 1, 1)) rfl
theorem dX12_claimOf_94 : decode cX12_claimOf 94 = .ok (.invokevirtual 284, 3) := dget daX12_claimOf_0 39 (q := (94, .invokevirtual 284, 3)) rfl
def tdaX12_claimOf_1 : List (Nat × (Instr × Nat)) := [(97, .ireturn, 1), (98, .aload_n 0, 1), (99, .iload_n 1, 1), (100, .invokevirtual 287, 3), (103, .ireturn, 1), (104, .aload_n 0, 1), (105, .iload_n 1, 1), (106, .invokevirtual 287, 3), (109, .aload_n 0, 1), (110, .iload_n 1, 1), (111, .invokevirtual 284, 3), (114, .isub, 1), (115, .invokestatic 187, 3), (118, .ireturn, 1)]
theorem daX12_claimOf_1 : tdaX12_claimOf_1.all (fun q => decide (decode cX12_claimOf q.1 = .ok q.2)) = true := by decide +kernel
theorem dX12_claimOf_97 : decode cX12_claimOf 97 = .ok (.ireturn, 1) := dget daX12_claimOf_1 0 (q := (97, .ireturn, 1)) rfl
theorem dX12_claimOf_98 : decode cX12_claimOf 98 = .ok (.aload_n 0, 1) := dget daX12_claimOf_1 1 (q := (98, .aload_n 0, 1)) rfl
theorem dX12_claimOf_99 : decode cX12_claimOf 99 = .ok (.iload_n 1, 1) := dget daX12_claimOf_1 2 (q := (99, .iload_n 1, 1)) rfl
theorem dX12_claimOf_100 : decode cX12_claimOf 100 = .ok (.invokevirtual 287, 3) := dget daX12_claimOf_1 3 (q := (100, .invokevirtual 287, 3)) rfl
theorem dX12_claimOf_103 : decode cX12_claimOf 103 = .ok (.ireturn, 1) := dget daX12_claimOf_1 4 (q := (103, .ireturn, 1)) rfl
theorem dX12_claimOf_104 : decode cX12_claimOf 104 = .ok (.aload_n 0, 1) := dget daX12_claimOf_1 5 (q := (104, .aload_n 0, 1)) rfl
theorem dX12_claimOf_105 : decode cX12_claimOf 105 = .ok (.iload_n 1, 1) := dget daX12_claimOf_1 6 (q := (105, .iload_n 1, 1)) rfl
theorem dX12_claimOf_106 : decode cX12_claimOf 106 = .ok (.invokevirtual 287, 3) := dget daX12_claimOf_1 7 (q := (106, .invokevirtual 287, 3)) rfl
theorem dX12_claimOf_109 : decode cX12_claimOf 109 = .ok (.aload_n 0, 1) := dget daX12_claimOf_1 8 (q := (109, .aload_n 0, 1)) rfl
theorem dX12_claimOf_110 : decode cX12_claimOf 110 = .ok (.iload_n 1, 1) := dget daX12_claimOf_1 9 (q := (110, .iload_n 1, 1)) rfl
theorem dX12_claimOf_111 : decode cX12_claimOf 111 = .ok (.invokevirtual 284, 3) := dget daX12_claimOf_1 10 (q := (111, .invokevirtual 284, 3)) rfl
theorem dX12_claimOf_114 : decode cX12_claimOf 114 = .ok (.isub, 1) := dget daX12_claimOf_1 11 (q := (114, .isub, 1)) rfl
theorem dX12_claimOf_115 : decode cX12_claimOf 115 = .ok (.invokestatic 187, 3) := dget daX12_claimOf_1 12 (q := (115, .invokestatic 187, 3)) rfl
theorem dX12_claimOf_118 : decode cX12_claimOf 118 = .ok (.ireturn, 1) := dget daX12_claimOf_1 13 (q := (118, .ireturn, 1)) rfl
def tdaX12_isPayer_0 : List (Nat × (Instr × Nat)) := [(0, .iload_n 0, 1), (1, .iconst 0, 1), (2, .iconst 4, 1), (3, .invokestatic 156, 3), (6, .ireturn, 1)]
theorem daX12_isPayer_0 : tdaX12_isPayer_0.all (fun q => decide (decode cX12_isPayer q.1 = .ok q.2)) = true := by decide +kernel
theorem dX12_isPayer_0 : decode cX12_isPayer 0 = .ok (.iload_n 0, 1) := dget daX12_isPayer_0 0 (q := (0, .iload_n 0, 1)) rfl
theorem dX12_isPayer_1 : decode cX12_isPayer 1 = .ok (.iconst 0, 1) := dget daX12_isPayer_0 1 (q := (1, .iconst 0, 1)) rfl
theorem dX12_isPayer_2 : decode cX12_isPayer 2 = .ok (.iconst 4, 1) := dget daX12_isPayer_0 2 (q := (2, .iconst 4, 1)) rfl
theorem dX12_isPayer_3 : decode cX12_isPayer 3 = .ok (.invokestatic 156, 3) := dget daX12_isPayer_0 3 (q := (3, .invokestatic 156, 3)) rfl
theorem dX12_isPayer_6 : decode cX12_isPayer 6 = .ok (.ireturn, 1) := dget daX12_isPayer_0 4 (q := (6, .ireturn, 1)) rfl
def tdaX12_owes_0 : List (Nat × (Instr × Nat)) := [(0, .iload_n 1, 1), (1, .invokestatic 290, 3), (4, .ifCond .eq 11, 3), (7, .aload_n 0, 1), (8, .iload_n 2, 1), (9, .invokevirtual 226, 3), (12, .ifCond .ne 9, 3), (15, .aload_n 0, 1), (16, .iconst (-1), 1), (17, .invokevirtual 164, 3), (20, .ireturn, 1), (21, .iload_n 3, 1), (22, .ifCond .ge 10, 3), (25, .aload_n 0, 1), (26, .bipush (-4), 2), (28, .invokevirtual 164, 3), (31, .ireturn, 1), (32, .iload_n 3, 1), (33, .sipush 9999, 3), (36, .if_icmp .le 10, 3), (39, .aload_n 0, 1), (40, .bipush (-6), 2), (42, .invokevirtual 164, 3), (45, .ireturn, 1), (46, .aload_n 0, 1), (47, .getfield 119, 3), (50, .bipush 20, 2), (52, .iload_n 1, 1), (53, .imul, 1), (54, .iload_n 2, 1), (55, .iadd, 1), (56, .iaload, 1), (57, .istore 4, 2), (59, .aload_n 0, 1), (60, .getfield 119, 3), (63, .bipush 20, 2), (65, .iload_n 1, 1), (66, .imul, 1), (67, .iload_n 2, 1), (68, .iadd, 1)]
theorem daX12_owes_0 : tdaX12_owes_0.all (fun q => decide (decode cX12_owes q.1 = .ok q.2)) = true := by decide +kernel
theorem dX12_owes_0 : decode cX12_owes 0 = .ok (.iload_n 1, 1) := dget daX12_owes_0 0 (q := (0, .iload_n 1, 1)) rfl
theorem dX12_owes_1 : decode cX12_owes 1 = .ok (.invokestatic 290, 3) := dget daX12_owes_0 1 (q := (1, .invokestatic 290, 3)) rfl
theorem dX12_owes_4 : decode cX12_owes 4 = .ok (.ifCond .eq 11, 3) := dget daX12_owes_0 2 (q := (4, .ifCond .eq 11, 3)) rfl
theorem dX12_owes_7 : decode cX12_owes 7 = .ok (.aload_n 0, 1) := dget daX12_owes_0 3 (q := (7, .aload_n 0, 1)) rfl
theorem dX12_owes_8 : decode cX12_owes 8 = .ok (.iload_n 2, 1) := dget daX12_owes_0 4 (q := (8, .iload_n 2, 1)) rfl
theorem dX12_owes_9 : decode cX12_owes 9 = .ok (.invokevirtual 226, 3) := dget daX12_owes_0 5 (q := (9, .invokevirtual 226, 3)) rfl
theorem dX12_owes_12 : decode cX12_owes 12 = .ok (.ifCond .ne 9, 3) := dget daX12_owes_0 6 (q := (12, .ifCond .ne 9, 3)) rfl
theorem dX12_owes_15 : decode cX12_owes 15 = .ok (.aload_n 0, 1) := dget daX12_owes_0 7 (q := (15, .aload_n 0, 1)) rfl
theorem dX12_owes_16 : decode cX12_owes 16 = .ok (.iconst (-1), 1) := dget daX12_owes_0 8 (q := (16, .iconst (-1), 1)) rfl
theorem dX12_owes_17 : decode cX12_owes 17 = .ok (.invokevirtual 164, 3) := dget daX12_owes_0 9 (q := (17, .invokevirtual 164, 3)) rfl
theorem dX12_owes_20 : decode cX12_owes 20 = .ok (.ireturn, 1) := dget daX12_owes_0 10 (q := (20, .ireturn, 1)) rfl
theorem dX12_owes_21 : decode cX12_owes 21 = .ok (.iload_n 3, 1) := dget daX12_owes_0 11 (q := (21, .iload_n 3, 1)) rfl
theorem dX12_owes_22 : decode cX12_owes 22 = .ok (.ifCond .ge 10, 3) := dget daX12_owes_0 12 (q := (22, .ifCond .ge 10, 3)) rfl
theorem dX12_owes_25 : decode cX12_owes 25 = .ok (.aload_n 0, 1) := dget daX12_owes_0 13 (q := (25, .aload_n 0, 1)) rfl
theorem dX12_owes_26 : decode cX12_owes 26 = .ok (.bipush (-4), 2) := dget daX12_owes_0 14 (q := (26, .bipush (-4), 2)) rfl
theorem dX12_owes_28 : decode cX12_owes 28 = .ok (.invokevirtual 164, 3) := dget daX12_owes_0 15 (q := (28, .invokevirtual 164, 3)) rfl
theorem dX12_owes_31 : decode cX12_owes 31 = .ok (.ireturn, 1) := dget daX12_owes_0 16 (q := (31, .ireturn, 1)) rfl
theorem dX12_owes_32 : decode cX12_owes 32 = .ok (.iload_n 3, 1) := dget daX12_owes_0 17 (q := (32, .iload_n 3, 1)) rfl
theorem dX12_owes_33 : decode cX12_owes 33 = .ok (.sipush 9999, 3) := dget daX12_owes_0 18 (q := (33, .sipush 9999, 3)) rfl
theorem dX12_owes_36 : decode cX12_owes 36 = .ok (.if_icmp .le 10, 3) := dget daX12_owes_0 19 (q := (36, .if_icmp .le 10, 3)) rfl
theorem dX12_owes_39 : decode cX12_owes 39 = .ok (.aload_n 0, 1) := dget daX12_owes_0 20 (q := (39, .aload_n 0, 1)) rfl
theorem dX12_owes_40 : decode cX12_owes 40 = .ok (.bipush (-6), 2) := dget daX12_owes_0 21 (q := (40, .bipush (-6), 2)) rfl
theorem dX12_owes_42 : decode cX12_owes 42 = .ok (.invokevirtual 164, 3) := dget daX12_owes_0 22 (q := (42, .invokevirtual 164, 3)) rfl
theorem dX12_owes_45 : decode cX12_owes 45 = .ok (.ireturn, 1) := dget daX12_owes_0 23 (q := (45, .ireturn, 1)) rfl
theorem dX12_owes_46 : decode cX12_owes 46 = .ok (.aload_n 0, 1) := dget daX12_owes_0 24 (q := (46, .aload_n 0, 1)) rfl
theorem dX12_owes_47 : decode cX12_owes 47 = .ok (.getfield 119, 3) := dget daX12_owes_0 25 (q := (47, .getfield 119, 3)) rfl
theorem dX12_owes_50 : decode cX12_owes 50 = .ok (.bipush 20, 2) := dget daX12_owes_0 26 (q := (50, .bipush 20, 2)) rfl
theorem dX12_owes_52 : decode cX12_owes 52 = .ok (.iload_n 1, 1) := dget daX12_owes_0 27 (q := (52, .iload_n 1, 1)) rfl
theorem dX12_owes_53 : decode cX12_owes 53 = .ok (.imul, 1) := dget daX12_owes_0 28 (q := (53, .imul, 1)) rfl
theorem dX12_owes_54 : decode cX12_owes 54 = .ok (.iload_n 2, 1) := dget daX12_owes_0 29 (q := (54, .iload_n 2, 1)) rfl
theorem dX12_owes_55 : decode cX12_owes 55 = .ok (.iadd, 1) := dget daX12_owes_0 30 (q := (55, .iadd, 1)) rfl
theorem dX12_owes_56 : decode cX12_owes 56 = .ok (.iaload, 1) := dget daX12_owes_0 31 (q := (56, .iaload, 1)) rfl
theorem dX12_owes_57 : decode cX12_owes 57 = .ok (.istore 4, 2) := dget daX12_owes_0 32 (q := (57, .istore 4, 2)) rfl
theorem dX12_owes_59 : decode cX12_owes 59 = .ok (.aload_n 0, 1) := dget daX12_owes_0 33 (q := (59, .aload_n 0, 1)) rfl
theorem dX12_owes_60 : decode cX12_owes 60 = .ok (.getfield 119, 3) := dget daX12_owes_0 34 (q := (60, .getfield 119, 3)) rfl
theorem dX12_owes_63 : decode cX12_owes 63 = .ok (.bipush 20, 2) := dget daX12_owes_0 35 (q := (63, .bipush 20, 2)) rfl
theorem dX12_owes_65 : decode cX12_owes 65 = .ok (.iload_n 1, 1) := dget daX12_owes_0 36 (q := (65, .iload_n 1, 1)) rfl
theorem dX12_owes_66 : decode cX12_owes 66 = .ok (.imul, 1) := dget daX12_owes_0 37 (q := (66, .imul, 1)) rfl
theorem dX12_owes_67 : decode cX12_owes 67 = .ok (.iload_n 2, 1) := dget daX12_owes_0 38 (q := (67, .iload_n 2, 1)) rfl
theorem dX12_owes_68 : decode cX12_owes 68 = .ok (.iadd, 1) := dget daX12_owes_0 39 (q := (68, .iadd, 1)) rfl
def tdaX12_owes_1 : List (Nat × (Instr × Nat)) := [(69, .iload_n 3, 1), (70, .iastore, 1), (71, .iload 4, 2), (73, .ireturn, 1)]
theorem daX12_owes_1 : tdaX12_owes_1.all (fun q => decide (decode cX12_owes q.1 = .ok q.2)) = true := by decide +kernel
theorem dX12_owes_69 : decode cX12_owes 69 = .ok (.iload_n 3, 1) := dget daX12_owes_1 0 (q := (69, .iload_n 3, 1)) rfl
theorem dX12_owes_70 : decode cX12_owes 70 = .ok (.iastore, 1) := dget daX12_owes_1 1 (q := (70, .iastore, 1)) rfl
theorem dX12_owes_71 : decode cX12_owes 71 = .ok (.iload 4, 2) := dget daX12_owes_1 2 (q := (71, .iload 4, 2)) rfl
theorem dX12_owes_73 : decode cX12_owes 73 = .ok (.ireturn, 1) := dget daX12_owes_1 3 (q := (73, .ireturn, 1)) rfl
def tdaX12_pay_0 : List (Nat × (Instr × Nat)) := [(0, .aload_n 0, 1), (1, .iload_n 1, 1), (2, .invokevirtual 281, 3), (5, .ifCond .eq 10, 3), (8, .iload_n 2, 1), (9, .invokestatic 290, 3), (12, .ifCond .ne 9, 3), (15, .aload_n 0, 1), (16, .iconst (-1), 1), (17, .invokevirtual 164, 3), (20, .ireturn, 1), (21, .iload_n 3, 1), (22, .iconst 1, 1), (23, .if_icmp .ge 10, 3), (26, .aload_n 0, 1), (27, .bipush (-4), 2), (29, .invokevirtual 164, 3), (32, .ireturn, 1), (33, .iload_n 3, 1), (34, .sipush 9999, 3), (37, .if_icmp .gt 16, 3), (40, .aload_n 0, 1), (41, .iload_n 1, 1), (42, .invokevirtual 287, 3), (45, .iload_n 3, 1), (46, .iadd, 1), (47, .ldc_w 293, 3), (50, .if_icmp .le 10, 3), (53, .aload_n 0, 1), (54, .bipush (-6), 2), (56, .invokevirtual 164, 3), (59, .ireturn, 1), (60, .aload_n 0, 1), (61, .getfield 122, 3), (64, .iconst 5, 1), (65, .iload_n 1, 1), (66, .imul, 1), (67, .iload_n 2, 1), (68, .iadd, 1), (69, .dup2, 1)]
theorem daX12_pay_0 : tdaX12_pay_0.all (fun q => decide (decode cX12_pay q.1 = .ok q.2)) = true := by decide +kernel
theorem dX12_pay_0 : decode cX12_pay 0 = .ok (.aload_n 0, 1) := dget daX12_pay_0 0 (q := (0, .aload_n 0, 1)) rfl
theorem dX12_pay_1 : decode cX12_pay 1 = .ok (.iload_n 1, 1) := dget daX12_pay_0 1 (q := (1, .iload_n 1, 1)) rfl
theorem dX12_pay_2 : decode cX12_pay 2 = .ok (.invokevirtual 281, 3) := dget daX12_pay_0 2 (q := (2, .invokevirtual 281, 3)) rfl
theorem dX12_pay_5 : decode cX12_pay 5 = .ok (.ifCond .eq 10, 3) := dget daX12_pay_0 3 (q := (5, .ifCond .eq 10, 3)) rfl
theorem dX12_pay_8 : decode cX12_pay 8 = .ok (.iload_n 2, 1) := dget daX12_pay_0 4 (q := (8, .iload_n 2, 1)) rfl
theorem dX12_pay_9 : decode cX12_pay 9 = .ok (.invokestatic 290, 3) := dget daX12_pay_0 5 (q := (9, .invokestatic 290, 3)) rfl
theorem dX12_pay_12 : decode cX12_pay 12 = .ok (.ifCond .ne 9, 3) := dget daX12_pay_0 6 (q := (12, .ifCond .ne 9, 3)) rfl
theorem dX12_pay_15 : decode cX12_pay 15 = .ok (.aload_n 0, 1) := dget daX12_pay_0 7 (q := (15, .aload_n 0, 1)) rfl
theorem dX12_pay_16 : decode cX12_pay 16 = .ok (.iconst (-1), 1) := dget daX12_pay_0 8 (q := (16, .iconst (-1), 1)) rfl
theorem dX12_pay_17 : decode cX12_pay 17 = .ok (.invokevirtual 164, 3) := dget daX12_pay_0 9 (q := (17, .invokevirtual 164, 3)) rfl
theorem dX12_pay_20 : decode cX12_pay 20 = .ok (.ireturn, 1) := dget daX12_pay_0 10 (q := (20, .ireturn, 1)) rfl
theorem dX12_pay_21 : decode cX12_pay 21 = .ok (.iload_n 3, 1) := dget daX12_pay_0 11 (q := (21, .iload_n 3, 1)) rfl
theorem dX12_pay_22 : decode cX12_pay 22 = .ok (.iconst 1, 1) := dget daX12_pay_0 12 (q := (22, .iconst 1, 1)) rfl
theorem dX12_pay_23 : decode cX12_pay 23 = .ok (.if_icmp .ge 10, 3) := dget daX12_pay_0 13 (q := (23, .if_icmp .ge 10, 3)) rfl
theorem dX12_pay_26 : decode cX12_pay 26 = .ok (.aload_n 0, 1) := dget daX12_pay_0 14 (q := (26, .aload_n 0, 1)) rfl
theorem dX12_pay_27 : decode cX12_pay 27 = .ok (.bipush (-4), 2) := dget daX12_pay_0 15 (q := (27, .bipush (-4), 2)) rfl
theorem dX12_pay_29 : decode cX12_pay 29 = .ok (.invokevirtual 164, 3) := dget daX12_pay_0 16 (q := (29, .invokevirtual 164, 3)) rfl
theorem dX12_pay_32 : decode cX12_pay 32 = .ok (.ireturn, 1) := dget daX12_pay_0 17 (q := (32, .ireturn, 1)) rfl
theorem dX12_pay_33 : decode cX12_pay 33 = .ok (.iload_n 3, 1) := dget daX12_pay_0 18 (q := (33, .iload_n 3, 1)) rfl
theorem dX12_pay_34 : decode cX12_pay 34 = .ok (.sipush 9999, 3) := dget daX12_pay_0 19 (q := (34, .sipush 9999, 3)) rfl
theorem dX12_pay_37 : decode cX12_pay 37 = .ok (.if_icmp .gt 16, 3) := dget daX12_pay_0 20 (q := (37, .if_icmp .gt 16, 3)) rfl
theorem dX12_pay_40 : decode cX12_pay 40 = .ok (.aload_n 0, 1) := dget daX12_pay_0 21 (q := (40, .aload_n 0, 1)) rfl
theorem dX12_pay_41 : decode cX12_pay 41 = .ok (.iload_n 1, 1) := dget daX12_pay_0 22 (q := (41, .iload_n 1, 1)) rfl
theorem dX12_pay_42 : decode cX12_pay 42 = .ok (.invokevirtual 287, 3) := dget daX12_pay_0 23 (q := (42, .invokevirtual 287, 3)) rfl
theorem dX12_pay_45 : decode cX12_pay 45 = .ok (.iload_n 3, 1) := dget daX12_pay_0 24 (q := (45, .iload_n 3, 1)) rfl
theorem dX12_pay_46 : decode cX12_pay 46 = .ok (.iadd, 1) := dget daX12_pay_0 25 (q := (46, .iadd, 1)) rfl
theorem dX12_pay_47 : decode cX12_pay 47 = .ok (.ldc_w 293, 3) := dget daX12_pay_0 26 (q := (47, .ldc_w 293, 3)) rfl
theorem dX12_pay_50 : decode cX12_pay 50 = .ok (.if_icmp .le 10, 3) := dget daX12_pay_0 27 (q := (50, .if_icmp .le 10, 3)) rfl
theorem dX12_pay_53 : decode cX12_pay 53 = .ok (.aload_n 0, 1) := dget daX12_pay_0 28 (q := (53, .aload_n 0, 1)) rfl
theorem dX12_pay_54 : decode cX12_pay 54 = .ok (.bipush (-6), 2) := dget daX12_pay_0 29 (q := (54, .bipush (-6), 2)) rfl
theorem dX12_pay_56 : decode cX12_pay 56 = .ok (.invokevirtual 164, 3) := dget daX12_pay_0 30 (q := (56, .invokevirtual 164, 3)) rfl
theorem dX12_pay_59 : decode cX12_pay 59 = .ok (.ireturn, 1) := dget daX12_pay_0 31 (q := (59, .ireturn, 1)) rfl
theorem dX12_pay_60 : decode cX12_pay 60 = .ok (.aload_n 0, 1) := dget daX12_pay_0 32 (q := (60, .aload_n 0, 1)) rfl
theorem dX12_pay_61 : decode cX12_pay 61 = .ok (.getfield 122, 3) := dget daX12_pay_0 33 (q := (61, .getfield 122, 3)) rfl
theorem dX12_pay_64 : decode cX12_pay 64 = .ok (.iconst 5, 1) := dget daX12_pay_0 34 (q := (64, .iconst 5, 1)) rfl
theorem dX12_pay_65 : decode cX12_pay 65 = .ok (.iload_n 1, 1) := dget daX12_pay_0 35 (q := (65, .iload_n 1, 1)) rfl
theorem dX12_pay_66 : decode cX12_pay 66 = .ok (.imul, 1) := dget daX12_pay_0 36 (q := (66, .imul, 1)) rfl
theorem dX12_pay_67 : decode cX12_pay 67 = .ok (.iload_n 2, 1) := dget daX12_pay_0 37 (q := (67, .iload_n 2, 1)) rfl
theorem dX12_pay_68 : decode cX12_pay 68 = .ok (.iadd, 1) := dget daX12_pay_0 38 (q := (68, .iadd, 1)) rfl
theorem dX12_pay_69 : decode cX12_pay 69 = .ok (.dup2, 1) := dget daX12_pay_0 39 (q := (69, .dup2, 1)) rfl
def tdaX12_pay_1 : List (Nat × (Instr × Nat)) := [(70, .iaload, 1), (71, .iload_n 3, 1), (72, .iadd, 1), (73, .iastore, 1), (74, .aload_n 0, 1), (75, .iload_n 1, 1), (76, .invokevirtual 287, 3), (79, .ireturn, 1)]
theorem daX12_pay_1 : tdaX12_pay_1.all (fun q => decide (decode cX12_pay q.1 = .ok q.2)) = true := by decide +kernel
theorem dX12_pay_70 : decode cX12_pay 70 = .ok (.iaload, 1) := dget daX12_pay_1 0 (q := (70, .iaload, 1)) rfl
theorem dX12_pay_71 : decode cX12_pay 71 = .ok (.iload_n 3, 1) := dget daX12_pay_1 1 (q := (71, .iload_n 3, 1)) rfl
theorem dX12_pay_72 : decode cX12_pay 72 = .ok (.iadd, 1) := dget daX12_pay_1 2 (q := (72, .iadd, 1)) rfl
theorem dX12_pay_73 : decode cX12_pay 73 = .ok (.iastore, 1) := dget daX12_pay_1 3 (q := (73, .iastore, 1)) rfl
theorem dX12_pay_74 : decode cX12_pay 74 = .ok (.aload_n 0, 1) := dget daX12_pay_1 4 (q := (74, .aload_n 0, 1)) rfl
theorem dX12_pay_75 : decode cX12_pay 75 = .ok (.iload_n 1, 1) := dget daX12_pay_1 5 (q := (75, .iload_n 1, 1)) rfl
theorem dX12_pay_76 : decode cX12_pay 76 = .ok (.invokevirtual 287, 3) := dget daX12_pay_1 6 (q := (76, .invokevirtual 287, 3)) rfl
theorem dX12_pay_79 : decode cX12_pay 79 = .ok (.ireturn, 1) := dget daX12_pay_1 7 (q := (79, .ireturn, 1)) rfl
def tdaX12_dueOf_0 : List (Nat × (Instr × Nat)) := [(0, .aload_n 0, 1), (1, .iload_n 1, 1), (2, .invokevirtual 284, 3), (5, .istore_n 3, 1), (6, .iconst 0, 1), (7, .istore 4, 2), (9, .iconst 0, 1), (10, .istore 5, 2), (12, .iload 5, 2), (14, .iload_n 2, 1), (15, .if_icmp .gt 37, 3), (18, .iload_n 3, 1), (19, .aload_n 0, 1), (20, .getfield 119, 3), (23, .bipush 20, 2), (25, .iload 5, 2), (27, .imul, 1), (28, .aload_n 0, 1), (29, .getfield 113, 3), (32, .iload_n 1, 1), (33, .iaload, 1), (34, .iadd, 1), (35, .iaload, 1), (36, .invokestatic 203, 3), (39, .istore 4, 2), (41, .iload_n 3, 1), (42, .iload 4, 2), (44, .isub, 1), (45, .istore_n 3, 1), (46, .iinc 5 1, 3), (49, .goto (-37), 3), (52, .iload 4, 2), (54, .ireturn, 1)]
theorem daX12_dueOf_0 : tdaX12_dueOf_0.all (fun q => decide (decode cX12_dueOf q.1 = .ok q.2)) = true := by decide +kernel
theorem dX12_dueOf_0 : decode cX12_dueOf 0 = .ok (.aload_n 0, 1) := dget daX12_dueOf_0 0 (q := (0, .aload_n 0, 1)) rfl
theorem dX12_dueOf_1 : decode cX12_dueOf 1 = .ok (.iload_n 1, 1) := dget daX12_dueOf_0 1 (q := (1, .iload_n 1, 1)) rfl
theorem dX12_dueOf_2 : decode cX12_dueOf 2 = .ok (.invokevirtual 284, 3) := dget daX12_dueOf_0 2 (q := (2, .invokevirtual 284, 3)) rfl
theorem dX12_dueOf_5 : decode cX12_dueOf 5 = .ok (.istore_n 3, 1) := dget daX12_dueOf_0 3 (q := (5, .istore_n 3, 1)) rfl
theorem dX12_dueOf_6 : decode cX12_dueOf 6 = .ok (.iconst 0, 1) := dget daX12_dueOf_0 4 (q := (6, .iconst 0, 1)) rfl
theorem dX12_dueOf_7 : decode cX12_dueOf 7 = .ok (.istore 4, 2) := dget daX12_dueOf_0 5 (q := (7, .istore 4, 2)) rfl
theorem dX12_dueOf_9 : decode cX12_dueOf 9 = .ok (.iconst 0, 1) := dget daX12_dueOf_0 6 (q := (9, .iconst 0, 1)) rfl
theorem dX12_dueOf_10 : decode cX12_dueOf 10 = .ok (.istore 5, 2) := dget daX12_dueOf_0 7 (q := (10, .istore 5, 2)) rfl
theorem dX12_dueOf_12 : decode cX12_dueOf 12 = .ok (.iload 5, 2) := dget daX12_dueOf_0 8 (q := (12, .iload 5, 2)) rfl
theorem dX12_dueOf_14 : decode cX12_dueOf 14 = .ok (.iload_n 2, 1) := dget daX12_dueOf_0 9 (q := (14, .iload_n 2, 1)) rfl
theorem dX12_dueOf_15 : decode cX12_dueOf 15 = .ok (.if_icmp .gt 37, 3) := dget daX12_dueOf_0 10 (q := (15, .if_icmp .gt 37, 3)) rfl
theorem dX12_dueOf_18 : decode cX12_dueOf 18 = .ok (.iload_n 3, 1) := dget daX12_dueOf_0 11 (q := (18, .iload_n 3, 1)) rfl
theorem dX12_dueOf_19 : decode cX12_dueOf 19 = .ok (.aload_n 0, 1) := dget daX12_dueOf_0 12 (q := (19, .aload_n 0, 1)) rfl
theorem dX12_dueOf_20 : decode cX12_dueOf 20 = .ok (.getfield 119, 3) := dget daX12_dueOf_0 13 (q := (20, .getfield 119, 3)) rfl
theorem dX12_dueOf_23 : decode cX12_dueOf 23 = .ok (.bipush 20, 2) := dget daX12_dueOf_0 14 (q := (23, .bipush 20, 2)) rfl
theorem dX12_dueOf_25 : decode cX12_dueOf 25 = .ok (.iload 5, 2) := dget daX12_dueOf_0 15 (q := (25, .iload 5, 2)) rfl
theorem dX12_dueOf_27 : decode cX12_dueOf 27 = .ok (.imul, 1) := dget daX12_dueOf_0 16 (q := (27, .imul, 1)) rfl
theorem dX12_dueOf_28 : decode cX12_dueOf 28 = .ok (.aload_n 0, 1) := dget daX12_dueOf_0 17 (q := (28, .aload_n 0, 1)) rfl
theorem dX12_dueOf_29 : decode cX12_dueOf 29 = .ok (.getfield 113, 3) := dget daX12_dueOf_0 18 (q := (29, .getfield 113, 3)) rfl
theorem dX12_dueOf_32 : decode cX12_dueOf 32 = .ok (.iload_n 1, 1) := dget daX12_dueOf_0 19 (q := (32, .iload_n 1, 1)) rfl
theorem dX12_dueOf_33 : decode cX12_dueOf 33 = .ok (.iaload, 1) := dget daX12_dueOf_0 20 (q := (33, .iaload, 1)) rfl
theorem dX12_dueOf_34 : decode cX12_dueOf 34 = .ok (.iadd, 1) := dget daX12_dueOf_0 21 (q := (34, .iadd, 1)) rfl
theorem dX12_dueOf_35 : decode cX12_dueOf 35 = .ok (.iaload, 1) := dget daX12_dueOf_0 22 (q := (35, .iaload, 1)) rfl
theorem dX12_dueOf_36 : decode cX12_dueOf 36 = .ok (.invokestatic 203, 3) := dget daX12_dueOf_0 23 (q := (36, .invokestatic 203, 3)) rfl
theorem dX12_dueOf_39 : decode cX12_dueOf 39 = .ok (.istore 4, 2) := dget daX12_dueOf_0 24 (q := (39, .istore 4, 2)) rfl
theorem dX12_dueOf_41 : decode cX12_dueOf 41 = .ok (.iload_n 3, 1) := dget daX12_dueOf_0 25 (q := (41, .iload_n 3, 1)) rfl
theorem dX12_dueOf_42 : decode cX12_dueOf 42 = .ok (.iload 4, 2) := dget daX12_dueOf_0 26 (q := (42, .iload 4, 2)) rfl
theorem dX12_dueOf_44 : decode cX12_dueOf 44 = .ok (.isub, 1) := dget daX12_dueOf_0 27 (q := (44, .isub, 1)) rfl
theorem dX12_dueOf_45 : decode cX12_dueOf 45 = .ok (.istore_n 3, 1) := dget daX12_dueOf_0 28 (q := (45, .istore_n 3, 1)) rfl
theorem dX12_dueOf_46 : decode cX12_dueOf 46 = .ok (.iinc 5 1, 3) := dget daX12_dueOf_0 29 (q := (46, .iinc 5 1, 3)) rfl
theorem dX12_dueOf_49 : decode cX12_dueOf 49 = .ok (.goto (-37), 3) := dget daX12_dueOf_0 30 (q := (49, .goto (-37), 3)) rfl
theorem dX12_dueOf_52 : decode cX12_dueOf 52 = .ok (.iload 4, 2) := dget daX12_dueOf_0 31 (q := (52, .iload 4, 2)) rfl
theorem dX12_dueOf_54 : decode cX12_dueOf 54 = .ok (.ireturn, 1) := dget daX12_dueOf_0 32 (q := (54, .ireturn, 1)) rfl
def tdaX12_due_0 : List (Nat × (Instr × Nat)) := [(0, .aload_n 0, 1), (1, .iload_n 1, 1), (2, .invokevirtual 281, 3), (5, .ifCond .eq 19, 3), (8, .iload_n 2, 1), (9, .invokestatic 290, 3), (12, .ifCond .eq 12, 3), (15, .aload_n 0, 1), (16, .iload_n 1, 1), (17, .iload_n 2, 1), (18, .invokevirtual 294, 3), (21, .goto 8, 3), (24, .aload_n 0, 1), (25, .iconst (-1), 1), (26, .invokevirtual 164, 3), (29, .ireturn, 1)]
theorem daX12_due_0 : tdaX12_due_0.all (fun q => decide (decode cX12_due q.1 = .ok q.2)) = true := by decide +kernel
theorem dX12_due_0 : decode cX12_due 0 = .ok (.aload_n 0, 1) := dget daX12_due_0 0 (q := (0, .aload_n 0, 1)) rfl
theorem dX12_due_1 : decode cX12_due 1 = .ok (.iload_n 1, 1) := dget daX12_due_0 1 (q := (1, .iload_n 1, 1)) rfl
theorem dX12_due_2 : decode cX12_due 2 = .ok (.invokevirtual 281, 3) := dget daX12_due_0 2 (q := (2, .invokevirtual 281, 3)) rfl
theorem dX12_due_5 : decode cX12_due 5 = .ok (.ifCond .eq 19, 3) := dget daX12_due_0 3 (q := (5, .ifCond .eq 19, 3)) rfl
theorem dX12_due_8 : decode cX12_due 8 = .ok (.iload_n 2, 1) := dget daX12_due_0 4 (q := (8, .iload_n 2, 1)) rfl
theorem dX12_due_9 : decode cX12_due 9 = .ok (.invokestatic 290, 3) := dget daX12_due_0 5 (q := (9, .invokestatic 290, 3)) rfl
theorem dX12_due_12 : decode cX12_due 12 = .ok (.ifCond .eq 12, 3) := dget daX12_due_0 6 (q := (12, .ifCond .eq 12, 3)) rfl
theorem dX12_due_15 : decode cX12_due 15 = .ok (.aload_n 0, 1) := dget daX12_due_0 7 (q := (15, .aload_n 0, 1)) rfl
theorem dX12_due_16 : decode cX12_due 16 = .ok (.iload_n 1, 1) := dget daX12_due_0 8 (q := (16, .iload_n 1, 1)) rfl
theorem dX12_due_17 : decode cX12_due 17 = .ok (.iload_n 2, 1) := dget daX12_due_0 9 (q := (17, .iload_n 2, 1)) rfl
theorem dX12_due_18 : decode cX12_due 18 = .ok (.invokevirtual 294, 3) := dget daX12_due_0 10 (q := (18, .invokevirtual 294, 3)) rfl
theorem dX12_due_21 : decode cX12_due 21 = .ok (.goto 8, 3) := dget daX12_due_0 11 (q := (21, .goto 8, 3)) rfl
theorem dX12_due_24 : decode cX12_due 24 = .ok (.aload_n 0, 1) := dget daX12_due_0 12 (q := (24, .aload_n 0, 1)) rfl
theorem dX12_due_25 : decode cX12_due 25 = .ok (.iconst (-1), 1) := dget daX12_due_0 13 (q := (25, .iconst (-1), 1)) rfl
theorem dX12_due_26 : decode cX12_due 26 = .ok (.invokevirtual 164, 3) := dget daX12_due_0 14 (q := (26, .invokevirtual 164, 3)) rfl
theorem dX12_due_29 : decode cX12_due 29 = .ok (.ireturn, 1) := dget daX12_due_0 15 (q := (29, .ireturn, 1)) rfl
def tdaX12_balanceOf_0 : List (Nat × (Instr × Nat)) := [(0, .iconst 0, 1), (1, .istore_n 2, 1), (2, .iconst 0, 1), (3, .istore_n 3, 1), (4, .iload_n 3, 1), (5, .aload_n 0, 1), (6, .getfield 275, 3), (9, .if_icmp .ge 46, 3), (12, .iload_n 2, 1), (13, .aload_n 0, 1), (14, .iload_n 3, 1), (15, .invokevirtual 287, 3), (18, .aload_n 0, 1), (19, .iload_n 3, 1), (20, .invokevirtual 284, 3), (23, .if_icmp .lt 23, 3), (26, .aload_n 0, 1), (27, .getfield 122, 3), (30, .iconst 5, 1), (31, .iload_n 3, 1), (32, .imul, 1), (33, .iload_n 1, 1), (34, .iadd, 1), (35, .iaload, 1), (36, .aload_n 0, 1), (37, .iload_n 3, 1), (38, .iload_n 1, 1), (39, .invokevirtual 294, 3), (42, .isub, 1), (43, .goto 4, 3), (46, .iconst 0, 1), (47, .iadd, 1), (48, .istore_n 2, 1), (49, .iinc 3 1, 3), (52, .goto (-48), 3), (55, .iload_n 2, 1), (56, .ireturn, 1)]
theorem daX12_balanceOf_0 : tdaX12_balanceOf_0.all (fun q => decide (decode cX12_balanceOf q.1 = .ok q.2)) = true := by decide +kernel
theorem dX12_balanceOf_0 : decode cX12_balanceOf 0 = .ok (.iconst 0, 1) := dget daX12_balanceOf_0 0 (q := (0, .iconst 0, 1)) rfl
theorem dX12_balanceOf_1 : decode cX12_balanceOf 1 = .ok (.istore_n 2, 1) := dget daX12_balanceOf_0 1 (q := (1, .istore_n 2, 1)) rfl
theorem dX12_balanceOf_2 : decode cX12_balanceOf 2 = .ok (.iconst 0, 1) := dget daX12_balanceOf_0 2 (q := (2, .iconst 0, 1)) rfl
theorem dX12_balanceOf_3 : decode cX12_balanceOf 3 = .ok (.istore_n 3, 1) := dget daX12_balanceOf_0 3 (q := (3, .istore_n 3, 1)) rfl
theorem dX12_balanceOf_4 : decode cX12_balanceOf 4 = .ok (.iload_n 3, 1) := dget daX12_balanceOf_0 4 (q := (4, .iload_n 3, 1)) rfl
theorem dX12_balanceOf_5 : decode cX12_balanceOf 5 = .ok (.aload_n 0, 1) := dget daX12_balanceOf_0 5 (q := (5, .aload_n 0, 1)) rfl
theorem dX12_balanceOf_6 : decode cX12_balanceOf 6 = .ok (.getfield 275, 3) := dget daX12_balanceOf_0 6 (q := (6, .getfield 275, 3)) rfl
theorem dX12_balanceOf_9 : decode cX12_balanceOf 9 = .ok (.if_icmp .ge 46, 3) := dget daX12_balanceOf_0 7 (q := (9, .if_icmp .ge 46, 3)) rfl
theorem dX12_balanceOf_12 : decode cX12_balanceOf 12 = .ok (.iload_n 2, 1) := dget daX12_balanceOf_0 8 (q := (12, .iload_n 2, 1)) rfl
theorem dX12_balanceOf_13 : decode cX12_balanceOf 13 = .ok (.aload_n 0, 1) := dget daX12_balanceOf_0 9 (q := (13, .aload_n 0, 1)) rfl
theorem dX12_balanceOf_14 : decode cX12_balanceOf 14 = .ok (.iload_n 3, 1) := dget daX12_balanceOf_0 10 (q := (14, .iload_n 3, 1)) rfl
theorem dX12_balanceOf_15 : decode cX12_balanceOf 15 = .ok (.invokevirtual 287, 3) := dget daX12_balanceOf_0 11 (q := (15, .invokevirtual 287, 3)) rfl
theorem dX12_balanceOf_18 : decode cX12_balanceOf 18 = .ok (.aload_n 0, 1) := dget daX12_balanceOf_0 12 (q := (18, .aload_n 0, 1)) rfl
theorem dX12_balanceOf_19 : decode cX12_balanceOf 19 = .ok (.iload_n 3, 1) := dget daX12_balanceOf_0 13 (q := (19, .iload_n 3, 1)) rfl
theorem dX12_balanceOf_20 : decode cX12_balanceOf 20 = .ok (.invokevirtual 284, 3) := dget daX12_balanceOf_0 14 (q := (20, .invokevirtual 284, 3)) rfl
theorem dX12_balanceOf_23 : decode cX12_balanceOf 23 = .ok (.if_icmp .lt 23, 3) := dget daX12_balanceOf_0 15 (q := (23, .if_icmp .lt 23, 3)) rfl
theorem dX12_balanceOf_26 : decode cX12_balanceOf 26 = .ok (.aload_n 0, 1) := dget daX12_balanceOf_0 16 (q := (26, .aload_n 0, 1)) rfl
theorem dX12_balanceOf_27 : decode cX12_balanceOf 27 = .ok (.getfield 122, 3) := dget daX12_balanceOf_0 17 (q := (27, .getfield 122, 3)) rfl
theorem dX12_balanceOf_30 : decode cX12_balanceOf 30 = .ok (.iconst 5, 1) := dget daX12_balanceOf_0 18 (q := (30, .iconst 5, 1)) rfl
theorem dX12_balanceOf_31 : decode cX12_balanceOf 31 = .ok (.iload_n 3, 1) := dget daX12_balanceOf_0 19 (q := (31, .iload_n 3, 1)) rfl
theorem dX12_balanceOf_32 : decode cX12_balanceOf 32 = .ok (.imul, 1) := dget daX12_balanceOf_0 20 (q := (32, .imul, 1)) rfl
theorem dX12_balanceOf_33 : decode cX12_balanceOf 33 = .ok (.iload_n 1, 1) := dget daX12_balanceOf_0 21 (q := (33, .iload_n 1, 1)) rfl
theorem dX12_balanceOf_34 : decode cX12_balanceOf 34 = .ok (.iadd, 1) := dget daX12_balanceOf_0 22 (q := (34, .iadd, 1)) rfl
theorem dX12_balanceOf_35 : decode cX12_balanceOf 35 = .ok (.iaload, 1) := dget daX12_balanceOf_0 23 (q := (35, .iaload, 1)) rfl
theorem dX12_balanceOf_36 : decode cX12_balanceOf 36 = .ok (.aload_n 0, 1) := dget daX12_balanceOf_0 24 (q := (36, .aload_n 0, 1)) rfl
theorem dX12_balanceOf_37 : decode cX12_balanceOf 37 = .ok (.iload_n 3, 1) := dget daX12_balanceOf_0 25 (q := (37, .iload_n 3, 1)) rfl
theorem dX12_balanceOf_38 : decode cX12_balanceOf 38 = .ok (.iload_n 1, 1) := dget daX12_balanceOf_0 26 (q := (38, .iload_n 1, 1)) rfl
theorem dX12_balanceOf_39 : decode cX12_balanceOf 39 = .ok (.invokevirtual 294, 3) := dget daX12_balanceOf_0 27 (q := (39, .invokevirtual 294, 3)) rfl
theorem dX12_balanceOf_42 : decode cX12_balanceOf 42 = .ok (.isub, 1) := dget daX12_balanceOf_0 28 (q := (42, .isub, 1)) rfl
theorem dX12_balanceOf_43 : decode cX12_balanceOf 43 = .ok (.goto 4, 3) := dget daX12_balanceOf_0 29 (q := (43, .goto 4, 3)) rfl
theorem dX12_balanceOf_46 : decode cX12_balanceOf 46 = .ok (.iconst 0, 1) := dget daX12_balanceOf_0 30 (q := (46, .iconst 0, 1)) rfl
theorem dX12_balanceOf_47 : decode cX12_balanceOf 47 = .ok (.iadd, 1) := dget daX12_balanceOf_0 31 (q := (47, .iadd, 1)) rfl
theorem dX12_balanceOf_48 : decode cX12_balanceOf 48 = .ok (.istore_n 2, 1) := dget daX12_balanceOf_0 32 (q := (48, .istore_n 2, 1)) rfl
theorem dX12_balanceOf_49 : decode cX12_balanceOf 49 = .ok (.iinc 3 1, 3) := dget daX12_balanceOf_0 33 (q := (49, .iinc 3 1, 3)) rfl
theorem dX12_balanceOf_52 : decode cX12_balanceOf 52 = .ok (.goto (-48), 3) := dget daX12_balanceOf_0 34 (q := (52, .goto (-48), 3)) rfl
theorem dX12_balanceOf_55 : decode cX12_balanceOf 55 = .ok (.iload_n 2, 1) := dget daX12_balanceOf_0 35 (q := (55, .iload_n 2, 1)) rfl
theorem dX12_balanceOf_56 : decode cX12_balanceOf 56 = .ok (.ireturn, 1) := dget daX12_balanceOf_0 36 (q := (56, .ireturn, 1)) rfl
def tdaX12_balance_0 : List (Nat × (Instr × Nat)) := [(0, .iload_n 1, 1), (1, .invokestatic 290, 3), (4, .ifCond .eq 11, 3), (7, .aload_n 0, 1), (8, .iload_n 1, 1), (9, .invokevirtual 297, 3), (12, .goto 8, 3), (15, .aload_n 0, 1), (16, .iconst (-1), 1), (17, .invokevirtual 178, 3), (20, .ireturn, 1)]
theorem daX12_balance_0 : tdaX12_balance_0.all (fun q => decide (decode cX12_balance q.1 = .ok q.2)) = true := by decide +kernel
theorem dX12_balance_0 : decode cX12_balance 0 = .ok (.iload_n 1, 1) := dget daX12_balance_0 0 (q := (0, .iload_n 1, 1)) rfl
theorem dX12_balance_1 : decode cX12_balance 1 = .ok (.invokestatic 290, 3) := dget daX12_balance_0 1 (q := (1, .invokestatic 290, 3)) rfl
theorem dX12_balance_4 : decode cX12_balance 4 = .ok (.ifCond .eq 11, 3) := dget daX12_balance_0 2 (q := (4, .ifCond .eq 11, 3)) rfl
theorem dX12_balance_7 : decode cX12_balance 7 = .ok (.aload_n 0, 1) := dget daX12_balance_0 3 (q := (7, .aload_n 0, 1)) rfl
theorem dX12_balance_8 : decode cX12_balance 8 = .ok (.iload_n 1, 1) := dget daX12_balance_0 4 (q := (8, .iload_n 1, 1)) rfl
theorem dX12_balance_9 : decode cX12_balance 9 = .ok (.invokevirtual 297, 3) := dget daX12_balance_0 5 (q := (9, .invokevirtual 297, 3)) rfl
theorem dX12_balance_12 : decode cX12_balance 12 = .ok (.goto 8, 3) := dget daX12_balance_0 6 (q := (12, .goto 8, 3)) rfl
theorem dX12_balance_15 : decode cX12_balance 15 = .ok (.aload_n 0, 1) := dget daX12_balance_0 7 (q := (15, .aload_n 0, 1)) rfl
theorem dX12_balance_16 : decode cX12_balance 16 = .ok (.iconst (-1), 1) := dget daX12_balance_0 8 (q := (16, .iconst (-1), 1)) rfl
theorem dX12_balance_17 : decode cX12_balance 17 = .ok (.invokevirtual 178, 3) := dget daX12_balance_0 9 (q := (17, .invokevirtual 178, 3)) rfl
theorem dX12_balance_20 : decode cX12_balance 20 = .ok (.ireturn, 1) := dget daX12_balance_0 10 (q := (20, .ireturn, 1)) rfl
def tdaX12_back_0 : List (Nat × (Instr × Nat)) := [(0, .iconst 0, 1), (1, .istore_n 1, 1), (2, .iconst 0, 1), (3, .istore_n 2, 1), (4, .iload_n 2, 1), (5, .iconst 5, 1), (6, .if_icmp .ge 81, 3), (9, .aload_n 0, 1), (10, .iload_n 2, 1), (11, .invokevirtual 297, 3), (14, .istore_n 3, 1), (15, .iload_n 1, 1), (16, .iload_n 3, 1), (17, .ifCond .eq 7, 3), (20, .iconst 1, 1), (21, .goto 4, 3), (24, .iconst 0, 1), (25, .iadd, 1), (26, .istore_n 1, 1), (27, .iconst 0, 1), (28, .istore 4, 2), (30, .iload 4, 2), (32, .bipush 32, 2), (34, .if_icmp .ge 47, 3), (37, .aload_n 0, 1), (38, .getfield 125, 3), (41, .iload 4, 2), (43, .iload_n 2, 1), (44, .ifCond .ne 7, 3), (47, .iconst 0, 1), (48, .goto 10, 3), (51, .aload_n 0, 1), (52, .getfield 125, 3), (55, .iload 4, 2), (57, .iaload, 1), (58, .iload 4, 2), (60, .iload_n 2, 1), (61, .ishr, 1), (62, .iconst 1, 1), (63, .iand, 1)]
theorem daX12_back_0 : tdaX12_back_0.all (fun q => decide (decode cX12_back q.1 = .ok q.2)) = true := by decide +kernel
theorem dX12_back_0 : decode cX12_back 0 = .ok (.iconst 0, 1) := dget daX12_back_0 0 (q := (0, .iconst 0, 1)) rfl
theorem dX12_back_1 : decode cX12_back 1 = .ok (.istore_n 1, 1) := dget daX12_back_0 1 (q := (1, .istore_n 1, 1)) rfl
theorem dX12_back_2 : decode cX12_back 2 = .ok (.iconst 0, 1) := dget daX12_back_0 2 (q := (2, .iconst 0, 1)) rfl
theorem dX12_back_3 : decode cX12_back 3 = .ok (.istore_n 2, 1) := dget daX12_back_0 3 (q := (3, .istore_n 2, 1)) rfl
theorem dX12_back_4 : decode cX12_back 4 = .ok (.iload_n 2, 1) := dget daX12_back_0 4 (q := (4, .iload_n 2, 1)) rfl
theorem dX12_back_5 : decode cX12_back 5 = .ok (.iconst 5, 1) := dget daX12_back_0 5 (q := (5, .iconst 5, 1)) rfl
theorem dX12_back_6 : decode cX12_back 6 = .ok (.if_icmp .ge 81, 3) := dget daX12_back_0 6 (q := (6, .if_icmp .ge 81, 3)) rfl
theorem dX12_back_9 : decode cX12_back 9 = .ok (.aload_n 0, 1) := dget daX12_back_0 7 (q := (9, .aload_n 0, 1)) rfl
theorem dX12_back_10 : decode cX12_back 10 = .ok (.iload_n 2, 1) := dget daX12_back_0 8 (q := (10, .iload_n 2, 1)) rfl
theorem dX12_back_11 : decode cX12_back 11 = .ok (.invokevirtual 297, 3) := dget daX12_back_0 9 (q := (11, .invokevirtual 297, 3)) rfl
theorem dX12_back_14 : decode cX12_back 14 = .ok (.istore_n 3, 1) := dget daX12_back_0 10 (q := (14, .istore_n 3, 1)) rfl
theorem dX12_back_15 : decode cX12_back 15 = .ok (.iload_n 1, 1) := dget daX12_back_0 11 (q := (15, .iload_n 1, 1)) rfl
theorem dX12_back_16 : decode cX12_back 16 = .ok (.iload_n 3, 1) := dget daX12_back_0 12 (q := (16, .iload_n 3, 1)) rfl
theorem dX12_back_17 : decode cX12_back 17 = .ok (.ifCond .eq 7, 3) := dget daX12_back_0 13 (q := (17, .ifCond .eq 7, 3)) rfl
theorem dX12_back_20 : decode cX12_back 20 = .ok (.iconst 1, 1) := dget daX12_back_0 14 (q := (20, .iconst 1, 1)) rfl
theorem dX12_back_21 : decode cX12_back 21 = .ok (.goto 4, 3) := dget daX12_back_0 15 (q := (21, .goto 4, 3)) rfl
theorem dX12_back_24 : decode cX12_back 24 = .ok (.iconst 0, 1) := dget daX12_back_0 16 (q := (24, .iconst 0, 1)) rfl
theorem dX12_back_25 : decode cX12_back 25 = .ok (.iadd, 1) := dget daX12_back_0 17 (q := (25, .iadd, 1)) rfl
theorem dX12_back_26 : decode cX12_back 26 = .ok (.istore_n 1, 1) := dget daX12_back_0 18 (q := (26, .istore_n 1, 1)) rfl
theorem dX12_back_27 : decode cX12_back 27 = .ok (.iconst 0, 1) := dget daX12_back_0 19 (q := (27, .iconst 0, 1)) rfl
theorem dX12_back_28 : decode cX12_back 28 = .ok (.istore 4, 2) := dget daX12_back_0 20 (q := (28, .istore 4, 2)) rfl
theorem dX12_back_30 : decode cX12_back 30 = .ok (.iload 4, 2) := dget daX12_back_0 21 (q := (30, .iload 4, 2)) rfl
theorem dX12_back_32 : decode cX12_back 32 = .ok (.bipush 32, 2) := dget daX12_back_0 22 (q := (32, .bipush 32, 2)) rfl
theorem dX12_back_34 : decode cX12_back 34 = .ok (.if_icmp .ge 47, 3) := dget daX12_back_0 23 (q := (34, .if_icmp .ge 47, 3)) rfl
theorem dX12_back_37 : decode cX12_back 37 = .ok (.aload_n 0, 1) := dget daX12_back_0 24 (q := (37, .aload_n 0, 1)) rfl
theorem dX12_back_38 : decode cX12_back 38 = .ok (.getfield 125, 3) := dget daX12_back_0 25 (q := (38, .getfield 125, 3)) rfl
theorem dX12_back_41 : decode cX12_back 41 = .ok (.iload 4, 2) := dget daX12_back_0 26 (q := (41, .iload 4, 2)) rfl
theorem dX12_back_43 : decode cX12_back 43 = .ok (.iload_n 2, 1) := dget daX12_back_0 27 (q := (43, .iload_n 2, 1)) rfl
theorem dX12_back_44 : decode cX12_back 44 = .ok (.ifCond .ne 7, 3) := dget daX12_back_0 28 (q := (44, .ifCond .ne 7, 3)) rfl
theorem dX12_back_47 : decode cX12_back 47 = .ok (.iconst 0, 1) := dget daX12_back_0 29 (q := (47, .iconst 0, 1)) rfl
theorem dX12_back_48 : decode cX12_back 48 = .ok (.goto 10, 3) := dget daX12_back_0 30 (q := (48, .goto 10, 3)) rfl
theorem dX12_back_51 : decode cX12_back 51 = .ok (.aload_n 0, 1) := dget daX12_back_0 31 (q := (51, .aload_n 0, 1)) rfl
theorem dX12_back_52 : decode cX12_back 52 = .ok (.getfield 125, 3) := dget daX12_back_0 32 (q := (52, .getfield 125, 3)) rfl
theorem dX12_back_55 : decode cX12_back 55 = .ok (.iload 4, 2) := dget daX12_back_0 33 (q := (55, .iload 4, 2)) rfl
theorem dX12_back_57 : decode cX12_back 57 = .ok (.iaload, 1) := dget daX12_back_0 34 (q := (57, .iaload, 1)) rfl
theorem dX12_back_58 : decode cX12_back 58 = .ok (.iload 4, 2) := dget daX12_back_0 35 (q := (58, .iload 4, 2)) rfl
theorem dX12_back_60 : decode cX12_back 60 = .ok (.iload_n 2, 1) := dget daX12_back_0 36 (q := (60, .iload_n 2, 1)) rfl
theorem dX12_back_61 : decode cX12_back 61 = .ok (.ishr, 1) := dget daX12_back_0 37 (q := (61, .ishr, 1)) rfl
theorem dX12_back_62 : decode cX12_back 62 = .ok (.iconst 1, 1) := dget daX12_back_0 38 (q := (62, .iconst 1, 1)) rfl
theorem dX12_back_63 : decode cX12_back 63 = .ok (.iand, 1) := dget daX12_back_0 39 (q := (63, .iand, 1)) rfl
def tdaX12_back_1 : List (Nat × (Instr × Nat)) := [(64, .iconst 1, 1), (65, .if_icmp .ne 7, 3), (68, .iload_n 3, 1), (69, .goto 4, 3), (72, .iconst 0, 1), (73, .iadd, 1), (74, .iastore, 1), (75, .iinc 4 1, 3), (78, .goto (-48), 3), (81, .iinc 2 1, 3), (84, .goto (-80), 3), (87, .aload_n 0, 1), (88, .getfield 125, 3), (91, .bipush 31, 2), (93, .iaload, 1), (94, .ifCond .eq 6, 3), (97, .bipush (-9), 2), (99, .ireturn, 1), (100, .iconst 5, 1), (101, .iload_n 1, 1), (102, .isub, 1), (103, .istore_n 2, 1), (104, .aload_n 0, 1), (105, .getfield 128, 3), (108, .iconst 0, 1), (109, .iconst 0, 1), (110, .iastore, 1), (111, .iconst 1, 1), (112, .istore_n 3, 1), (113, .iload_n 3, 1), (114, .bipush 32, 2), (116, .if_icmp .ge 126, 3), (119, .aload_n 0, 1), (120, .getfield 128, 3), (123, .iload_n 3, 1), (124, .iconst (-1), 1), (125, .iastore, 1), (126, .iconst 1, 1), (127, .istore 4, 2), (129, .iload 4, 2)]
theorem daX12_back_1 : tdaX12_back_1.all (fun q => decide (decode cX12_back q.1 = .ok q.2)) = true := by decide +kernel
theorem dX12_back_64 : decode cX12_back 64 = .ok (.iconst 1, 1) := dget daX12_back_1 0 (q := (64, .iconst 1, 1)) rfl
theorem dX12_back_65 : decode cX12_back 65 = .ok (.if_icmp .ne 7, 3) := dget daX12_back_1 1 (q := (65, .if_icmp .ne 7, 3)) rfl
theorem dX12_back_68 : decode cX12_back 68 = .ok (.iload_n 3, 1) := dget daX12_back_1 2 (q := (68, .iload_n 3, 1)) rfl
theorem dX12_back_69 : decode cX12_back 69 = .ok (.goto 4, 3) := dget daX12_back_1 3 (q := (69, .goto 4, 3)) rfl
theorem dX12_back_72 : decode cX12_back 72 = .ok (.iconst 0, 1) := dget daX12_back_1 4 (q := (72, .iconst 0, 1)) rfl
theorem dX12_back_73 : decode cX12_back 73 = .ok (.iadd, 1) := dget daX12_back_1 5 (q := (73, .iadd, 1)) rfl
theorem dX12_back_74 : decode cX12_back 74 = .ok (.iastore, 1) := dget daX12_back_1 6 (q := (74, .iastore, 1)) rfl
theorem dX12_back_75 : decode cX12_back 75 = .ok (.iinc 4 1, 3) := dget daX12_back_1 7 (q := (75, .iinc 4 1, 3)) rfl
theorem dX12_back_78 : decode cX12_back 78 = .ok (.goto (-48), 3) := dget daX12_back_1 8 (q := (78, .goto (-48), 3)) rfl
theorem dX12_back_81 : decode cX12_back 81 = .ok (.iinc 2 1, 3) := dget daX12_back_1 9 (q := (81, .iinc 2 1, 3)) rfl
theorem dX12_back_84 : decode cX12_back 84 = .ok (.goto (-80), 3) := dget daX12_back_1 10 (q := (84, .goto (-80), 3)) rfl
theorem dX12_back_87 : decode cX12_back 87 = .ok (.aload_n 0, 1) := dget daX12_back_1 11 (q := (87, .aload_n 0, 1)) rfl
theorem dX12_back_88 : decode cX12_back 88 = .ok (.getfield 125, 3) := dget daX12_back_1 12 (q := (88, .getfield 125, 3)) rfl
theorem dX12_back_91 : decode cX12_back 91 = .ok (.bipush 31, 2) := dget daX12_back_1 13 (q := (91, .bipush 31, 2)) rfl
theorem dX12_back_93 : decode cX12_back 93 = .ok (.iaload, 1) := dget daX12_back_1 14 (q := (93, .iaload, 1)) rfl
theorem dX12_back_94 : decode cX12_back 94 = .ok (.ifCond .eq 6, 3) := dget daX12_back_1 15 (q := (94, .ifCond .eq 6, 3)) rfl
theorem dX12_back_97 : decode cX12_back 97 = .ok (.bipush (-9), 2) := dget daX12_back_1 16 (q := (97, .bipush (-9), 2)) rfl
theorem dX12_back_99 : decode cX12_back 99 = .ok (.ireturn, 1) := dget daX12_back_1 17 (q := (99, .ireturn, 1)) rfl
theorem dX12_back_100 : decode cX12_back 100 = .ok (.iconst 5, 1) := dget daX12_back_1 18 (q := (100, .iconst 5, 1)) rfl
theorem dX12_back_101 : decode cX12_back 101 = .ok (.iload_n 1, 1) := dget daX12_back_1 19 (q := (101, .iload_n 1, 1)) rfl
theorem dX12_back_102 : decode cX12_back 102 = .ok (.isub, 1) := dget daX12_back_1 20 (q := (102, .isub, 1)) rfl
theorem dX12_back_103 : decode cX12_back 103 = .ok (.istore_n 2, 1) := dget daX12_back_1 21 (q := (103, .istore_n 2, 1)) rfl
theorem dX12_back_104 : decode cX12_back 104 = .ok (.aload_n 0, 1) := dget daX12_back_1 22 (q := (104, .aload_n 0, 1)) rfl
theorem dX12_back_105 : decode cX12_back 105 = .ok (.getfield 128, 3) := dget daX12_back_1 23 (q := (105, .getfield 128, 3)) rfl
theorem dX12_back_108 : decode cX12_back 108 = .ok (.iconst 0, 1) := dget daX12_back_1 24 (q := (108, .iconst 0, 1)) rfl
theorem dX12_back_109 : decode cX12_back 109 = .ok (.iconst 0, 1) := dget daX12_back_1 25 (q := (109, .iconst 0, 1)) rfl
theorem dX12_back_110 : decode cX12_back 110 = .ok (.iastore, 1) := dget daX12_back_1 26 (q := (110, .iastore, 1)) rfl
theorem dX12_back_111 : decode cX12_back 111 = .ok (.iconst 1, 1) := dget daX12_back_1 27 (q := (111, .iconst 1, 1)) rfl
theorem dX12_back_112 : decode cX12_back 112 = .ok (.istore_n 3, 1) := dget daX12_back_1 28 (q := (112, .istore_n 3, 1)) rfl
theorem dX12_back_113 : decode cX12_back 113 = .ok (.iload_n 3, 1) := dget daX12_back_1 29 (q := (113, .iload_n 3, 1)) rfl
theorem dX12_back_114 : decode cX12_back 114 = .ok (.bipush 32, 2) := dget daX12_back_1 30 (q := (114, .bipush 32, 2)) rfl
theorem dX12_back_116 : decode cX12_back 116 = .ok (.if_icmp .ge 126, 3) := dget daX12_back_1 31 (q := (116, .if_icmp .ge 126, 3)) rfl
theorem dX12_back_119 : decode cX12_back 119 = .ok (.aload_n 0, 1) := dget daX12_back_1 32 (q := (119, .aload_n 0, 1)) rfl
theorem dX12_back_120 : decode cX12_back 120 = .ok (.getfield 128, 3) := dget daX12_back_1 33 (q := (120, .getfield 128, 3)) rfl
theorem dX12_back_123 : decode cX12_back 123 = .ok (.iload_n 3, 1) := dget daX12_back_1 34 (q := (123, .iload_n 3, 1)) rfl
theorem dX12_back_124 : decode cX12_back 124 = .ok (.iconst (-1), 1) := dget daX12_back_1 35 (q := (124, .iconst (-1), 1)) rfl
theorem dX12_back_125 : decode cX12_back 125 = .ok (.iastore, 1) := dget daX12_back_1 36 (q := (125, .iastore, 1)) rfl
theorem dX12_back_126 : decode cX12_back 126 = .ok (.iconst 1, 1) := dget daX12_back_1 37 (q := (126, .iconst 1, 1)) rfl
theorem dX12_back_127 : decode cX12_back 127 = .ok (.istore 4, 2) := dget daX12_back_1 38 (q := (127, .istore 4, 2)) rfl
theorem dX12_back_129 : decode cX12_back 129 = .ok (.iload 4, 2) := dget daX12_back_1 39 (q := (129, .iload 4, 2)) rfl
def tdaX12_back_2 : List (Nat × (Instr × Nat)) := [(131, .iload_n 3, 1), (132, .if_icmp .gt 104, 3), (135, .iload 4, 2), (137, .iload_n 3, 1), (138, .iconst (-1), 1), (139, .ixor, 1), (140, .iand, 1), (141, .ifCond .ne 31, 3), (144, .aload_n 0, 1), (145, .getfield 125, 3), (148, .iload 4, 2), (150, .iaload, 1), (151, .ifCond .ne 21, 3), (154, .aload_n 0, 1), (155, .getfield 128, 3), (158, .iload_n 3, 1), (159, .iload 4, 2), (161, .iconst (-1), 1), (162, .ixor, 1), (163, .iand, 1), (164, .iaload, 1), (165, .ifCond .lt 7, 3), (168, .iconst 1, 1), (169, .goto 4, 3), (172, .iconst 0, 1), (173, .istore 5, 2), (175, .aload_n 0, 1), (176, .getfield 128, 3), (179, .iload_n 3, 1), (180, .iload 5, 2), (182, .ifCond .eq 41, 3), (185, .aload_n 0, 1), (186, .getfield 128, 3), (189, .iload_n 3, 1), (190, .iload 4, 2), (192, .iconst (-1), 1), (193, .ixor, 1), (194, .iand, 1), (195, .iaload, 1), (196, .iconst 1, 1)]
theorem daX12_back_2 : tdaX12_back_2.all (fun q => decide (decode cX12_back q.1 = .ok q.2)) = true := by decide +kernel
theorem dX12_back_131 : decode cX12_back 131 = .ok (.iload_n 3, 1) := dget daX12_back_2 0 (q := (131, .iload_n 3, 1)) rfl
theorem dX12_back_132 : decode cX12_back 132 = .ok (.if_icmp .gt 104, 3) := dget daX12_back_2 1 (q := (132, .if_icmp .gt 104, 3)) rfl
theorem dX12_back_135 : decode cX12_back 135 = .ok (.iload 4, 2) := dget daX12_back_2 2 (q := (135, .iload 4, 2)) rfl
theorem dX12_back_137 : decode cX12_back 137 = .ok (.iload_n 3, 1) := dget daX12_back_2 3 (q := (137, .iload_n 3, 1)) rfl
theorem dX12_back_138 : decode cX12_back 138 = .ok (.iconst (-1), 1) := dget daX12_back_2 4 (q := (138, .iconst (-1), 1)) rfl
theorem dX12_back_139 : decode cX12_back 139 = .ok (.ixor, 1) := dget daX12_back_2 5 (q := (139, .ixor, 1)) rfl
theorem dX12_back_140 : decode cX12_back 140 = .ok (.iand, 1) := dget daX12_back_2 6 (q := (140, .iand, 1)) rfl
theorem dX12_back_141 : decode cX12_back 141 = .ok (.ifCond .ne 31, 3) := dget daX12_back_2 7 (q := (141, .ifCond .ne 31, 3)) rfl
theorem dX12_back_144 : decode cX12_back 144 = .ok (.aload_n 0, 1) := dget daX12_back_2 8 (q := (144, .aload_n 0, 1)) rfl
theorem dX12_back_145 : decode cX12_back 145 = .ok (.getfield 125, 3) := dget daX12_back_2 9 (q := (145, .getfield 125, 3)) rfl
theorem dX12_back_148 : decode cX12_back 148 = .ok (.iload 4, 2) := dget daX12_back_2 10 (q := (148, .iload 4, 2)) rfl
theorem dX12_back_150 : decode cX12_back 150 = .ok (.iaload, 1) := dget daX12_back_2 11 (q := (150, .iaload, 1)) rfl
theorem dX12_back_151 : decode cX12_back 151 = .ok (.ifCond .ne 21, 3) := dget daX12_back_2 12 (q := (151, .ifCond .ne 21, 3)) rfl
theorem dX12_back_154 : decode cX12_back 154 = .ok (.aload_n 0, 1) := dget daX12_back_2 13 (q := (154, .aload_n 0, 1)) rfl
theorem dX12_back_155 : decode cX12_back 155 = .ok (.getfield 128, 3) := dget daX12_back_2 14 (q := (155, .getfield 128, 3)) rfl
theorem dX12_back_158 : decode cX12_back 158 = .ok (.iload_n 3, 1) := dget daX12_back_2 15 (q := (158, .iload_n 3, 1)) rfl
theorem dX12_back_159 : decode cX12_back 159 = .ok (.iload 4, 2) := dget daX12_back_2 16 (q := (159, .iload 4, 2)) rfl
theorem dX12_back_161 : decode cX12_back 161 = .ok (.iconst (-1), 1) := dget daX12_back_2 17 (q := (161, .iconst (-1), 1)) rfl
theorem dX12_back_162 : decode cX12_back 162 = .ok (.ixor, 1) := dget daX12_back_2 18 (q := (162, .ixor, 1)) rfl
theorem dX12_back_163 : decode cX12_back 163 = .ok (.iand, 1) := dget daX12_back_2 19 (q := (163, .iand, 1)) rfl
theorem dX12_back_164 : decode cX12_back 164 = .ok (.iaload, 1) := dget daX12_back_2 20 (q := (164, .iaload, 1)) rfl
theorem dX12_back_165 : decode cX12_back 165 = .ok (.ifCond .lt 7, 3) := dget daX12_back_2 21 (q := (165, .ifCond .lt 7, 3)) rfl
theorem dX12_back_168 : decode cX12_back 168 = .ok (.iconst 1, 1) := dget daX12_back_2 22 (q := (168, .iconst 1, 1)) rfl
theorem dX12_back_169 : decode cX12_back 169 = .ok (.goto 4, 3) := dget daX12_back_2 23 (q := (169, .goto 4, 3)) rfl
theorem dX12_back_172 : decode cX12_back 172 = .ok (.iconst 0, 1) := dget daX12_back_2 24 (q := (172, .iconst 0, 1)) rfl
theorem dX12_back_173 : decode cX12_back 173 = .ok (.istore 5, 2) := dget daX12_back_2 25 (q := (173, .istore 5, 2)) rfl
theorem dX12_back_175 : decode cX12_back 175 = .ok (.aload_n 0, 1) := dget daX12_back_2 26 (q := (175, .aload_n 0, 1)) rfl
theorem dX12_back_176 : decode cX12_back 176 = .ok (.getfield 128, 3) := dget daX12_back_2 27 (q := (176, .getfield 128, 3)) rfl
theorem dX12_back_179 : decode cX12_back 179 = .ok (.iload_n 3, 1) := dget daX12_back_2 28 (q := (179, .iload_n 3, 1)) rfl
theorem dX12_back_180 : decode cX12_back 180 = .ok (.iload 5, 2) := dget daX12_back_2 29 (q := (180, .iload 5, 2)) rfl
theorem dX12_back_182 : decode cX12_back 182 = .ok (.ifCond .eq 41, 3) := dget daX12_back_2 30 (q := (182, .ifCond .eq 41, 3)) rfl
theorem dX12_back_185 : decode cX12_back 185 = .ok (.aload_n 0, 1) := dget daX12_back_2 31 (q := (185, .aload_n 0, 1)) rfl
theorem dX12_back_186 : decode cX12_back 186 = .ok (.getfield 128, 3) := dget daX12_back_2 32 (q := (186, .getfield 128, 3)) rfl
theorem dX12_back_189 : decode cX12_back 189 = .ok (.iload_n 3, 1) := dget daX12_back_2 33 (q := (189, .iload_n 3, 1)) rfl
theorem dX12_back_190 : decode cX12_back 190 = .ok (.iload 4, 2) := dget daX12_back_2 34 (q := (190, .iload 4, 2)) rfl
theorem dX12_back_192 : decode cX12_back 192 = .ok (.iconst (-1), 1) := dget daX12_back_2 35 (q := (192, .iconst (-1), 1)) rfl
theorem dX12_back_193 : decode cX12_back 193 = .ok (.ixor, 1) := dget daX12_back_2 36 (q := (193, .ixor, 1)) rfl
theorem dX12_back_194 : decode cX12_back 194 = .ok (.iand, 1) := dget daX12_back_2 37 (q := (194, .iand, 1)) rfl
theorem dX12_back_195 : decode cX12_back 195 = .ok (.iaload, 1) := dget daX12_back_2 38 (q := (195, .iaload, 1)) rfl
theorem dX12_back_196 : decode cX12_back 196 = .ok (.iconst 1, 1) := dget daX12_back_2 39 (q := (196, .iconst 1, 1)) rfl
def tdaX12_back_3 : List (Nat × (Instr × Nat)) := [(197, .iadd, 1), (198, .aload_n 0, 1), (199, .getfield 128, 3), (202, .iload_n 3, 1), (203, .iaload, 1), (204, .if_icmp .le 19, 3), (207, .aload_n 0, 1), (208, .getfield 128, 3), (211, .iload_n 3, 1), (212, .iload 4, 2), (214, .iconst (-1), 1), (215, .ixor, 1), (216, .iand, 1), (217, .iaload, 1), (218, .iconst 1, 1), (219, .iadd, 1), (220, .goto 9, 3), (223, .aload_n 0, 1), (224, .getfield 128, 3), (227, .iload_n 3, 1), (228, .iaload, 1), (229, .iastore, 1), (230, .iinc 4 1, 3), (233, .goto (-104), 3), (236, .iinc 3 1, 3), (239, .goto (-126), 3), (242, .iload_n 1, 1), (243, .aload_n 0, 1), (244, .getfield 128, 3), (247, .bipush 31, 2), (249, .iaload, 1), (250, .iload_n 2, 1), (251, .isub, 1), (252, .isub, 1), (253, .ireturn, 1)]
theorem daX12_back_3 : tdaX12_back_3.all (fun q => decide (decode cX12_back q.1 = .ok q.2)) = true := by decide +kernel
theorem dX12_back_197 : decode cX12_back 197 = .ok (.iadd, 1) := dget daX12_back_3 0 (q := (197, .iadd, 1)) rfl
theorem dX12_back_198 : decode cX12_back 198 = .ok (.aload_n 0, 1) := dget daX12_back_3 1 (q := (198, .aload_n 0, 1)) rfl
theorem dX12_back_199 : decode cX12_back 199 = .ok (.getfield 128, 3) := dget daX12_back_3 2 (q := (199, .getfield 128, 3)) rfl
theorem dX12_back_202 : decode cX12_back 202 = .ok (.iload_n 3, 1) := dget daX12_back_3 3 (q := (202, .iload_n 3, 1)) rfl
theorem dX12_back_203 : decode cX12_back 203 = .ok (.iaload, 1) := dget daX12_back_3 4 (q := (203, .iaload, 1)) rfl
theorem dX12_back_204 : decode cX12_back 204 = .ok (.if_icmp .le 19, 3) := dget daX12_back_3 5 (q := (204, .if_icmp .le 19, 3)) rfl
theorem dX12_back_207 : decode cX12_back 207 = .ok (.aload_n 0, 1) := dget daX12_back_3 6 (q := (207, .aload_n 0, 1)) rfl
theorem dX12_back_208 : decode cX12_back 208 = .ok (.getfield 128, 3) := dget daX12_back_3 7 (q := (208, .getfield 128, 3)) rfl
theorem dX12_back_211 : decode cX12_back 211 = .ok (.iload_n 3, 1) := dget daX12_back_3 8 (q := (211, .iload_n 3, 1)) rfl
theorem dX12_back_212 : decode cX12_back 212 = .ok (.iload 4, 2) := dget daX12_back_3 9 (q := (212, .iload 4, 2)) rfl
theorem dX12_back_214 : decode cX12_back 214 = .ok (.iconst (-1), 1) := dget daX12_back_3 10 (q := (214, .iconst (-1), 1)) rfl
theorem dX12_back_215 : decode cX12_back 215 = .ok (.ixor, 1) := dget daX12_back_3 11 (q := (215, .ixor, 1)) rfl
theorem dX12_back_216 : decode cX12_back 216 = .ok (.iand, 1) := dget daX12_back_3 12 (q := (216, .iand, 1)) rfl
theorem dX12_back_217 : decode cX12_back 217 = .ok (.iaload, 1) := dget daX12_back_3 13 (q := (217, .iaload, 1)) rfl
theorem dX12_back_218 : decode cX12_back 218 = .ok (.iconst 1, 1) := dget daX12_back_3 14 (q := (218, .iconst 1, 1)) rfl
theorem dX12_back_219 : decode cX12_back 219 = .ok (.iadd, 1) := dget daX12_back_3 15 (q := (219, .iadd, 1)) rfl
theorem dX12_back_220 : decode cX12_back 220 = .ok (.goto 9, 3) := dget daX12_back_3 16 (q := (220, .goto 9, 3)) rfl
theorem dX12_back_223 : decode cX12_back 223 = .ok (.aload_n 0, 1) := dget daX12_back_3 17 (q := (223, .aload_n 0, 1)) rfl
theorem dX12_back_224 : decode cX12_back 224 = .ok (.getfield 128, 3) := dget daX12_back_3 18 (q := (224, .getfield 128, 3)) rfl
theorem dX12_back_227 : decode cX12_back 227 = .ok (.iload_n 3, 1) := dget daX12_back_3 19 (q := (227, .iload_n 3, 1)) rfl
theorem dX12_back_228 : decode cX12_back 228 = .ok (.iaload, 1) := dget daX12_back_3 20 (q := (228, .iaload, 1)) rfl
theorem dX12_back_229 : decode cX12_back 229 = .ok (.iastore, 1) := dget daX12_back_3 21 (q := (229, .iastore, 1)) rfl
theorem dX12_back_230 : decode cX12_back 230 = .ok (.iinc 4 1, 3) := dget daX12_back_3 22 (q := (230, .iinc 4 1, 3)) rfl
theorem dX12_back_233 : decode cX12_back 233 = .ok (.goto (-104), 3) := dget daX12_back_3 23 (q := (233, .goto (-104), 3)) rfl
theorem dX12_back_236 : decode cX12_back 236 = .ok (.iinc 3 1, 3) := dget daX12_back_3 24 (q := (236, .iinc 3 1, 3)) rfl
theorem dX12_back_239 : decode cX12_back 239 = .ok (.goto (-126), 3) := dget daX12_back_3 25 (q := (239, .goto (-126), 3)) rfl
theorem dX12_back_242 : decode cX12_back 242 = .ok (.iload_n 1, 1) := dget daX12_back_3 26 (q := (242, .iload_n 1, 1)) rfl
theorem dX12_back_243 : decode cX12_back 243 = .ok (.aload_n 0, 1) := dget daX12_back_3 27 (q := (243, .aload_n 0, 1)) rfl
theorem dX12_back_244 : decode cX12_back 244 = .ok (.getfield 128, 3) := dget daX12_back_3 28 (q := (244, .getfield 128, 3)) rfl
theorem dX12_back_247 : decode cX12_back 247 = .ok (.bipush 31, 2) := dget daX12_back_3 29 (q := (247, .bipush 31, 2)) rfl
theorem dX12_back_249 : decode cX12_back 249 = .ok (.iaload, 1) := dget daX12_back_3 30 (q := (249, .iaload, 1)) rfl
theorem dX12_back_250 : decode cX12_back 250 = .ok (.iload_n 2, 1) := dget daX12_back_3 31 (q := (250, .iload_n 2, 1)) rfl
theorem dX12_back_251 : decode cX12_back 251 = .ok (.isub, 1) := dget daX12_back_3 32 (q := (251, .isub, 1)) rfl
theorem dX12_back_252 : decode cX12_back 252 = .ok (.isub, 1) := dget daX12_back_3 33 (q := (252, .isub, 1)) rfl
theorem dX12_back_253 : decode cX12_back 253 = .ok (.ireturn, 1) := dget daX12_back_3 34 (q := (253, .ireturn, 1)) rfl
def tdaX12_judged_0 : List (Nat × (Instr × Nat)) := [(0, .iload_n 1, 1), (1, .invokestatic 244, 3), (4, .ifCond .eq 10, 3), (7, .iload_n 2, 1), (8, .invokestatic 184, 3), (11, .ifCond .ne 9, 3), (14, .aload_n 0, 1), (15, .iconst (-1), 1), (16, .invokevirtual 164, 3), (19, .ireturn, 1), (20, .iload_n 3, 1), (21, .ifCond .lt 13, 3), (24, .iload 4, 2), (26, .ifCond .lt 8, 3), (29, .iload 6, 2), (31, .ifCond .ge 10, 3), (34, .aload_n 0, 1), (35, .bipush (-4), 2), (37, .invokevirtual 164, 3), (40, .ireturn, 1), (41, .iload_n 3, 1), (42, .sipush 9999, 3), (45, .if_icmp .gt 28, 3), (48, .iload 4, 2), (50, .sipush 9999, 3), (53, .if_icmp .gt 20, 3), (56, .iload 6, 2), (58, .sipush 9999, 3), (61, .if_icmp .gt 12, 3), (64, .aload_n 0, 1), (65, .getfield 300, 3), (68, .bipush 40, 2), (70, .if_icmp .ne 10, 3), (73, .aload_n 0, 1), (74, .bipush (-6), 2), (76, .invokevirtual 164, 3), (79, .ireturn, 1), (80, .aload_n 0, 1), (81, .getfield 131, 3), (84, .aload_n 0, 1)]
theorem daX12_judged_0 : tdaX12_judged_0.all (fun q => decide (decode cX12_judged q.1 = .ok q.2)) = true := by decide +kernel
theorem dX12_judged_0 : decode cX12_judged 0 = .ok (.iload_n 1, 1) := dget daX12_judged_0 0 (q := (0, .iload_n 1, 1)) rfl
theorem dX12_judged_1 : decode cX12_judged 1 = .ok (.invokestatic 244, 3) := dget daX12_judged_0 1 (q := (1, .invokestatic 244, 3)) rfl
theorem dX12_judged_4 : decode cX12_judged 4 = .ok (.ifCond .eq 10, 3) := dget daX12_judged_0 2 (q := (4, .ifCond .eq 10, 3)) rfl
theorem dX12_judged_7 : decode cX12_judged 7 = .ok (.iload_n 2, 1) := dget daX12_judged_0 3 (q := (7, .iload_n 2, 1)) rfl
theorem dX12_judged_8 : decode cX12_judged 8 = .ok (.invokestatic 184, 3) := dget daX12_judged_0 4 (q := (8, .invokestatic 184, 3)) rfl
theorem dX12_judged_11 : decode cX12_judged 11 = .ok (.ifCond .ne 9, 3) := dget daX12_judged_0 5 (q := (11, .ifCond .ne 9, 3)) rfl
theorem dX12_judged_14 : decode cX12_judged 14 = .ok (.aload_n 0, 1) := dget daX12_judged_0 6 (q := (14, .aload_n 0, 1)) rfl
theorem dX12_judged_15 : decode cX12_judged 15 = .ok (.iconst (-1), 1) := dget daX12_judged_0 7 (q := (15, .iconst (-1), 1)) rfl
theorem dX12_judged_16 : decode cX12_judged 16 = .ok (.invokevirtual 164, 3) := dget daX12_judged_0 8 (q := (16, .invokevirtual 164, 3)) rfl
theorem dX12_judged_19 : decode cX12_judged 19 = .ok (.ireturn, 1) := dget daX12_judged_0 9 (q := (19, .ireturn, 1)) rfl
theorem dX12_judged_20 : decode cX12_judged 20 = .ok (.iload_n 3, 1) := dget daX12_judged_0 10 (q := (20, .iload_n 3, 1)) rfl
theorem dX12_judged_21 : decode cX12_judged 21 = .ok (.ifCond .lt 13, 3) := dget daX12_judged_0 11 (q := (21, .ifCond .lt 13, 3)) rfl
theorem dX12_judged_24 : decode cX12_judged 24 = .ok (.iload 4, 2) := dget daX12_judged_0 12 (q := (24, .iload 4, 2)) rfl
theorem dX12_judged_26 : decode cX12_judged 26 = .ok (.ifCond .lt 8, 3) := dget daX12_judged_0 13 (q := (26, .ifCond .lt 8, 3)) rfl
theorem dX12_judged_29 : decode cX12_judged 29 = .ok (.iload 6, 2) := dget daX12_judged_0 14 (q := (29, .iload 6, 2)) rfl
theorem dX12_judged_31 : decode cX12_judged 31 = .ok (.ifCond .ge 10, 3) := dget daX12_judged_0 15 (q := (31, .ifCond .ge 10, 3)) rfl
theorem dX12_judged_34 : decode cX12_judged 34 = .ok (.aload_n 0, 1) := dget daX12_judged_0 16 (q := (34, .aload_n 0, 1)) rfl
theorem dX12_judged_35 : decode cX12_judged 35 = .ok (.bipush (-4), 2) := dget daX12_judged_0 17 (q := (35, .bipush (-4), 2)) rfl
theorem dX12_judged_37 : decode cX12_judged 37 = .ok (.invokevirtual 164, 3) := dget daX12_judged_0 18 (q := (37, .invokevirtual 164, 3)) rfl
theorem dX12_judged_40 : decode cX12_judged 40 = .ok (.ireturn, 1) := dget daX12_judged_0 19 (q := (40, .ireturn, 1)) rfl
theorem dX12_judged_41 : decode cX12_judged 41 = .ok (.iload_n 3, 1) := dget daX12_judged_0 20 (q := (41, .iload_n 3, 1)) rfl
theorem dX12_judged_42 : decode cX12_judged 42 = .ok (.sipush 9999, 3) := dget daX12_judged_0 21 (q := (42, .sipush 9999, 3)) rfl
theorem dX12_judged_45 : decode cX12_judged 45 = .ok (.if_icmp .gt 28, 3) := dget daX12_judged_0 22 (q := (45, .if_icmp .gt 28, 3)) rfl
theorem dX12_judged_48 : decode cX12_judged 48 = .ok (.iload 4, 2) := dget daX12_judged_0 23 (q := (48, .iload 4, 2)) rfl
theorem dX12_judged_50 : decode cX12_judged 50 = .ok (.sipush 9999, 3) := dget daX12_judged_0 24 (q := (50, .sipush 9999, 3)) rfl
theorem dX12_judged_53 : decode cX12_judged 53 = .ok (.if_icmp .gt 20, 3) := dget daX12_judged_0 25 (q := (53, .if_icmp .gt 20, 3)) rfl
theorem dX12_judged_56 : decode cX12_judged 56 = .ok (.iload 6, 2) := dget daX12_judged_0 26 (q := (56, .iload 6, 2)) rfl
theorem dX12_judged_58 : decode cX12_judged 58 = .ok (.sipush 9999, 3) := dget daX12_judged_0 27 (q := (58, .sipush 9999, 3)) rfl
theorem dX12_judged_61 : decode cX12_judged 61 = .ok (.if_icmp .gt 12, 3) := dget daX12_judged_0 28 (q := (61, .if_icmp .gt 12, 3)) rfl
theorem dX12_judged_64 : decode cX12_judged 64 = .ok (.aload_n 0, 1) := dget daX12_judged_0 29 (q := (64, .aload_n 0, 1)) rfl
theorem dX12_judged_65 : decode cX12_judged 65 = .ok (.getfield 300, 3) := dget daX12_judged_0 30 (q := (65, .getfield 300, 3)) rfl
theorem dX12_judged_68 : decode cX12_judged 68 = .ok (.bipush 40, 2) := dget daX12_judged_0 31 (q := (68, .bipush 40, 2)) rfl
theorem dX12_judged_70 : decode cX12_judged 70 = .ok (.if_icmp .ne 10, 3) := dget daX12_judged_0 32 (q := (70, .if_icmp .ne 10, 3)) rfl
theorem dX12_judged_73 : decode cX12_judged 73 = .ok (.aload_n 0, 1) := dget daX12_judged_0 33 (q := (73, .aload_n 0, 1)) rfl
theorem dX12_judged_74 : decode cX12_judged 74 = .ok (.bipush (-6), 2) := dget daX12_judged_0 34 (q := (74, .bipush (-6), 2)) rfl
theorem dX12_judged_76 : decode cX12_judged 76 = .ok (.invokevirtual 164, 3) := dget daX12_judged_0 35 (q := (76, .invokevirtual 164, 3)) rfl
theorem dX12_judged_79 : decode cX12_judged 79 = .ok (.ireturn, 1) := dget daX12_judged_0 36 (q := (79, .ireturn, 1)) rfl
theorem dX12_judged_80 : decode cX12_judged 80 = .ok (.aload_n 0, 1) := dget daX12_judged_0 37 (q := (80, .aload_n 0, 1)) rfl
theorem dX12_judged_81 : decode cX12_judged 81 = .ok (.getfield 131, 3) := dget daX12_judged_0 38 (q := (81, .getfield 131, 3)) rfl
theorem dX12_judged_84 : decode cX12_judged 84 = .ok (.aload_n 0, 1) := dget daX12_judged_0 39 (q := (84, .aload_n 0, 1)) rfl
def tdaX12_judged_1 : List (Nat × (Instr × Nat)) := [(85, .getfield 300, 3), (88, .iload_n 1, 1), (89, .iastore, 1), (90, .aload_n 0, 1), (91, .getfield 134, 3), (94, .aload_n 0, 1), (95, .getfield 300, 3), (98, .iload_n 2, 1), (99, .iastore, 1), (100, .aload_n 0, 1), (101, .getfield 137, 3), (104, .aload_n 0, 1), (105, .getfield 300, 3), (108, .iload_n 3, 1), (109, .iastore, 1), (110, .aload_n 0, 1), (111, .getfield 140, 3), (114, .aload_n 0, 1), (115, .getfield 300, 3), (118, .iload 4, 2), (120, .iastore, 1), (121, .aload_n 0, 1), (122, .getfield 143, 3), (125, .aload_n 0, 1), (126, .getfield 300, 3), (129, .iload 5, 2), (131, .bastore, 1), (132, .aload_n 0, 1), (133, .getfield 146, 3), (136, .aload_n 0, 1), (137, .getfield 300, 3), (140, .iload 6, 2), (142, .iastore, 1), (143, .aload_n 0, 1), (144, .dup, 1), (145, .getfield 300, 3), (148, .iconst 1, 1), (149, .iadd, 1), (150, .putfield 300, 3), (153, .aload_n 0, 1)]
theorem daX12_judged_1 : tdaX12_judged_1.all (fun q => decide (decode cX12_judged q.1 = .ok q.2)) = true := by decide +kernel
theorem dX12_judged_85 : decode cX12_judged 85 = .ok (.getfield 300, 3) := dget daX12_judged_1 0 (q := (85, .getfield 300, 3)) rfl
theorem dX12_judged_88 : decode cX12_judged 88 = .ok (.iload_n 1, 1) := dget daX12_judged_1 1 (q := (88, .iload_n 1, 1)) rfl
theorem dX12_judged_89 : decode cX12_judged 89 = .ok (.iastore, 1) := dget daX12_judged_1 2 (q := (89, .iastore, 1)) rfl
theorem dX12_judged_90 : decode cX12_judged 90 = .ok (.aload_n 0, 1) := dget daX12_judged_1 3 (q := (90, .aload_n 0, 1)) rfl
theorem dX12_judged_91 : decode cX12_judged 91 = .ok (.getfield 134, 3) := dget daX12_judged_1 4 (q := (91, .getfield 134, 3)) rfl
theorem dX12_judged_94 : decode cX12_judged 94 = .ok (.aload_n 0, 1) := dget daX12_judged_1 5 (q := (94, .aload_n 0, 1)) rfl
theorem dX12_judged_95 : decode cX12_judged 95 = .ok (.getfield 300, 3) := dget daX12_judged_1 6 (q := (95, .getfield 300, 3)) rfl
theorem dX12_judged_98 : decode cX12_judged 98 = .ok (.iload_n 2, 1) := dget daX12_judged_1 7 (q := (98, .iload_n 2, 1)) rfl
theorem dX12_judged_99 : decode cX12_judged 99 = .ok (.iastore, 1) := dget daX12_judged_1 8 (q := (99, .iastore, 1)) rfl
theorem dX12_judged_100 : decode cX12_judged 100 = .ok (.aload_n 0, 1) := dget daX12_judged_1 9 (q := (100, .aload_n 0, 1)) rfl
theorem dX12_judged_101 : decode cX12_judged 101 = .ok (.getfield 137, 3) := dget daX12_judged_1 10 (q := (101, .getfield 137, 3)) rfl
theorem dX12_judged_104 : decode cX12_judged 104 = .ok (.aload_n 0, 1) := dget daX12_judged_1 11 (q := (104, .aload_n 0, 1)) rfl
theorem dX12_judged_105 : decode cX12_judged 105 = .ok (.getfield 300, 3) := dget daX12_judged_1 12 (q := (105, .getfield 300, 3)) rfl
theorem dX12_judged_108 : decode cX12_judged 108 = .ok (.iload_n 3, 1) := dget daX12_judged_1 13 (q := (108, .iload_n 3, 1)) rfl
theorem dX12_judged_109 : decode cX12_judged 109 = .ok (.iastore, 1) := dget daX12_judged_1 14 (q := (109, .iastore, 1)) rfl
theorem dX12_judged_110 : decode cX12_judged 110 = .ok (.aload_n 0, 1) := dget daX12_judged_1 15 (q := (110, .aload_n 0, 1)) rfl
theorem dX12_judged_111 : decode cX12_judged 111 = .ok (.getfield 140, 3) := dget daX12_judged_1 16 (q := (111, .getfield 140, 3)) rfl
theorem dX12_judged_114 : decode cX12_judged 114 = .ok (.aload_n 0, 1) := dget daX12_judged_1 17 (q := (114, .aload_n 0, 1)) rfl
theorem dX12_judged_115 : decode cX12_judged 115 = .ok (.getfield 300, 3) := dget daX12_judged_1 18 (q := (115, .getfield 300, 3)) rfl
theorem dX12_judged_118 : decode cX12_judged 118 = .ok (.iload 4, 2) := dget daX12_judged_1 19 (q := (118, .iload 4, 2)) rfl
theorem dX12_judged_120 : decode cX12_judged 120 = .ok (.iastore, 1) := dget daX12_judged_1 20 (q := (120, .iastore, 1)) rfl
theorem dX12_judged_121 : decode cX12_judged 121 = .ok (.aload_n 0, 1) := dget daX12_judged_1 21 (q := (121, .aload_n 0, 1)) rfl
theorem dX12_judged_122 : decode cX12_judged 122 = .ok (.getfield 143, 3) := dget daX12_judged_1 22 (q := (122, .getfield 143, 3)) rfl
theorem dX12_judged_125 : decode cX12_judged 125 = .ok (.aload_n 0, 1) := dget daX12_judged_1 23 (q := (125, .aload_n 0, 1)) rfl
theorem dX12_judged_126 : decode cX12_judged 126 = .ok (.getfield 300, 3) := dget daX12_judged_1 24 (q := (126, .getfield 300, 3)) rfl
theorem dX12_judged_129 : decode cX12_judged 129 = .ok (.iload 5, 2) := dget daX12_judged_1 25 (q := (129, .iload 5, 2)) rfl
theorem dX12_judged_131 : decode cX12_judged 131 = .ok (.bastore, 1) := dget daX12_judged_1 26 (q := (131, .bastore, 1)) rfl
theorem dX12_judged_132 : decode cX12_judged 132 = .ok (.aload_n 0, 1) := dget daX12_judged_1 27 (q := (132, .aload_n 0, 1)) rfl
theorem dX12_judged_133 : decode cX12_judged 133 = .ok (.getfield 146, 3) := dget daX12_judged_1 28 (q := (133, .getfield 146, 3)) rfl
theorem dX12_judged_136 : decode cX12_judged 136 = .ok (.aload_n 0, 1) := dget daX12_judged_1 29 (q := (136, .aload_n 0, 1)) rfl
theorem dX12_judged_137 : decode cX12_judged 137 = .ok (.getfield 300, 3) := dget daX12_judged_1 30 (q := (137, .getfield 300, 3)) rfl
theorem dX12_judged_140 : decode cX12_judged 140 = .ok (.iload 6, 2) := dget daX12_judged_1 31 (q := (140, .iload 6, 2)) rfl
theorem dX12_judged_142 : decode cX12_judged 142 = .ok (.iastore, 1) := dget daX12_judged_1 32 (q := (142, .iastore, 1)) rfl
theorem dX12_judged_143 : decode cX12_judged 143 = .ok (.aload_n 0, 1) := dget daX12_judged_1 33 (q := (143, .aload_n 0, 1)) rfl
theorem dX12_judged_144 : decode cX12_judged 144 = .ok (.dup, 1) := dget daX12_judged_1 34 (q := (144, .dup, 1)) rfl
theorem dX12_judged_145 : decode cX12_judged 145 = .ok (.getfield 300, 3) := dget daX12_judged_1 35 (q := (145, .getfield 300, 3)) rfl
theorem dX12_judged_148 : decode cX12_judged 148 = .ok (.iconst 1, 1) := dget daX12_judged_1 36 (q := (148, .iconst 1, 1)) rfl
theorem dX12_judged_149 : decode cX12_judged 149 = .ok (.iadd, 1) := dget daX12_judged_1 37 (q := (149, .iadd, 1)) rfl
theorem dX12_judged_150 : decode cX12_judged 150 = .ok (.putfield 300, 3) := dget daX12_judged_1 38 (q := (150, .putfield 300, 3)) rfl
theorem dX12_judged_153 : decode cX12_judged 153 = .ok (.aload_n 0, 1) := dget daX12_judged_1 39 (q := (153, .aload_n 0, 1)) rfl
def tdaX12_judged_2 : List (Nat × (Instr × Nat)) := [(154, .getfield 300, 3), (157, .iconst 1, 1), (158, .isub, 1), (159, .ireturn, 1)]
theorem daX12_judged_2 : tdaX12_judged_2.all (fun q => decide (decode cX12_judged q.1 = .ok q.2)) = true := by decide +kernel
theorem dX12_judged_154 : decode cX12_judged 154 = .ok (.getfield 300, 3) := dget daX12_judged_2 0 (q := (154, .getfield 300, 3)) rfl
theorem dX12_judged_157 : decode cX12_judged 157 = .ok (.iconst 1, 1) := dget daX12_judged_2 1 (q := (157, .iconst 1, 1)) rfl
theorem dX12_judged_158 : decode cX12_judged 158 = .ok (.isub, 1) := dget daX12_judged_2 2 (q := (158, .isub, 1)) rfl
theorem dX12_judged_159 : decode cX12_judged 159 = .ok (.ireturn, 1) := dget daX12_judged_2 3 (q := (159, .ireturn, 1)) rfl
def tdaX12_findLike_0 : List (Nat × (Instr × Nat)) := [(0, .aload_n 0, 1), (1, .getfield 113, 3), (4, .iload_n 1, 1), (5, .iaload, 1), (6, .istore_n 2, 1), (7, .aload_n 0, 1), (8, .iload_n 2, 1), (9, .aload_n 0, 1), (10, .getfield 116, 3), (13, .iload_n 1, 1), (14, .iaload, 1), (15, .invokevirtual 260, 3), (18, .istore_n 3, 1), (19, .aload_n 0, 1), (20, .iload_n 2, 1), (21, .invokevirtual 241, 3), (24, .istore 4, 2), (26, .aload_n 0, 1), (27, .iload_n 2, 1), (28, .invokevirtual 238, 3), (31, .istore 5, 2), (33, .iconst 0, 1), (34, .istore 6, 2), (36, .iconst 0, 1), (37, .istore 7, 2), (39, .iload 7, 2), (41, .aload_n 0, 1), (42, .getfield 300, 3), (45, .if_icmp .ge 152, 3), (48, .aload_n 0, 1), (49, .getfield 131, 3), (52, .iload 7, 2), (54, .iaload, 1), (55, .iload_n 3, 1), (56, .if_icmp .ne 135, 3), (59, .aload_n 0, 1), (60, .getfield 134, 3), (63, .iload 7, 2), (65, .iaload, 1), (66, .iload 4, 2)]
theorem daX12_findLike_0 : tdaX12_findLike_0.all (fun q => decide (decode cX12_findLike q.1 = .ok q.2)) = true := by decide +kernel
theorem dX12_findLike_0 : decode cX12_findLike 0 = .ok (.aload_n 0, 1) := dget daX12_findLike_0 0 (q := (0, .aload_n 0, 1)) rfl
theorem dX12_findLike_1 : decode cX12_findLike 1 = .ok (.getfield 113, 3) := dget daX12_findLike_0 1 (q := (1, .getfield 113, 3)) rfl
theorem dX12_findLike_4 : decode cX12_findLike 4 = .ok (.iload_n 1, 1) := dget daX12_findLike_0 2 (q := (4, .iload_n 1, 1)) rfl
theorem dX12_findLike_5 : decode cX12_findLike 5 = .ok (.iaload, 1) := dget daX12_findLike_0 3 (q := (5, .iaload, 1)) rfl
theorem dX12_findLike_6 : decode cX12_findLike 6 = .ok (.istore_n 2, 1) := dget daX12_findLike_0 4 (q := (6, .istore_n 2, 1)) rfl
theorem dX12_findLike_7 : decode cX12_findLike 7 = .ok (.aload_n 0, 1) := dget daX12_findLike_0 5 (q := (7, .aload_n 0, 1)) rfl
theorem dX12_findLike_8 : decode cX12_findLike 8 = .ok (.iload_n 2, 1) := dget daX12_findLike_0 6 (q := (8, .iload_n 2, 1)) rfl
theorem dX12_findLike_9 : decode cX12_findLike 9 = .ok (.aload_n 0, 1) := dget daX12_findLike_0 7 (q := (9, .aload_n 0, 1)) rfl
theorem dX12_findLike_10 : decode cX12_findLike 10 = .ok (.getfield 116, 3) := dget daX12_findLike_0 8 (q := (10, .getfield 116, 3)) rfl
theorem dX12_findLike_13 : decode cX12_findLike 13 = .ok (.iload_n 1, 1) := dget daX12_findLike_0 9 (q := (13, .iload_n 1, 1)) rfl
theorem dX12_findLike_14 : decode cX12_findLike 14 = .ok (.iaload, 1) := dget daX12_findLike_0 10 (q := (14, .iaload, 1)) rfl
theorem dX12_findLike_15 : decode cX12_findLike 15 = .ok (.invokevirtual 260, 3) := dget daX12_findLike_0 11 (q := (15, .invokevirtual 260, 3)) rfl
theorem dX12_findLike_18 : decode cX12_findLike 18 = .ok (.istore_n 3, 1) := dget daX12_findLike_0 12 (q := (18, .istore_n 3, 1)) rfl
theorem dX12_findLike_19 : decode cX12_findLike 19 = .ok (.aload_n 0, 1) := dget daX12_findLike_0 13 (q := (19, .aload_n 0, 1)) rfl
theorem dX12_findLike_20 : decode cX12_findLike 20 = .ok (.iload_n 2, 1) := dget daX12_findLike_0 14 (q := (20, .iload_n 2, 1)) rfl
theorem dX12_findLike_21 : decode cX12_findLike 21 = .ok (.invokevirtual 241, 3) := dget daX12_findLike_0 15 (q := (21, .invokevirtual 241, 3)) rfl
theorem dX12_findLike_24 : decode cX12_findLike 24 = .ok (.istore 4, 2) := dget daX12_findLike_0 16 (q := (24, .istore 4, 2)) rfl
theorem dX12_findLike_26 : decode cX12_findLike 26 = .ok (.aload_n 0, 1) := dget daX12_findLike_0 17 (q := (26, .aload_n 0, 1)) rfl
theorem dX12_findLike_27 : decode cX12_findLike 27 = .ok (.iload_n 2, 1) := dget daX12_findLike_0 18 (q := (27, .iload_n 2, 1)) rfl
theorem dX12_findLike_28 : decode cX12_findLike 28 = .ok (.invokevirtual 238, 3) := dget daX12_findLike_0 19 (q := (28, .invokevirtual 238, 3)) rfl
theorem dX12_findLike_31 : decode cX12_findLike 31 = .ok (.istore 5, 2) := dget daX12_findLike_0 20 (q := (31, .istore 5, 2)) rfl
theorem dX12_findLike_33 : decode cX12_findLike 33 = .ok (.iconst 0, 1) := dget daX12_findLike_0 21 (q := (33, .iconst 0, 1)) rfl
theorem dX12_findLike_34 : decode cX12_findLike 34 = .ok (.istore 6, 2) := dget daX12_findLike_0 22 (q := (34, .istore 6, 2)) rfl
theorem dX12_findLike_36 : decode cX12_findLike 36 = .ok (.iconst 0, 1) := dget daX12_findLike_0 23 (q := (36, .iconst 0, 1)) rfl
theorem dX12_findLike_37 : decode cX12_findLike 37 = .ok (.istore 7, 2) := dget daX12_findLike_0 24 (q := (37, .istore 7, 2)) rfl
theorem dX12_findLike_39 : decode cX12_findLike 39 = .ok (.iload 7, 2) := dget daX12_findLike_0 25 (q := (39, .iload 7, 2)) rfl
theorem dX12_findLike_41 : decode cX12_findLike 41 = .ok (.aload_n 0, 1) := dget daX12_findLike_0 26 (q := (41, .aload_n 0, 1)) rfl
theorem dX12_findLike_42 : decode cX12_findLike 42 = .ok (.getfield 300, 3) := dget daX12_findLike_0 27 (q := (42, .getfield 300, 3)) rfl
theorem dX12_findLike_45 : decode cX12_findLike 45 = .ok (.if_icmp .ge 152, 3) := dget daX12_findLike_0 28 (q := (45, .if_icmp .ge 152, 3)) rfl
theorem dX12_findLike_48 : decode cX12_findLike 48 = .ok (.aload_n 0, 1) := dget daX12_findLike_0 29 (q := (48, .aload_n 0, 1)) rfl
theorem dX12_findLike_49 : decode cX12_findLike 49 = .ok (.getfield 131, 3) := dget daX12_findLike_0 30 (q := (49, .getfield 131, 3)) rfl
theorem dX12_findLike_52 : decode cX12_findLike 52 = .ok (.iload 7, 2) := dget daX12_findLike_0 31 (q := (52, .iload 7, 2)) rfl
theorem dX12_findLike_54 : decode cX12_findLike 54 = .ok (.iaload, 1) := dget daX12_findLike_0 32 (q := (54, .iaload, 1)) rfl
theorem dX12_findLike_55 : decode cX12_findLike 55 = .ok (.iload_n 3, 1) := dget daX12_findLike_0 33 (q := (55, .iload_n 3, 1)) rfl
theorem dX12_findLike_56 : decode cX12_findLike 56 = .ok (.if_icmp .ne 135, 3) := dget daX12_findLike_0 34 (q := (56, .if_icmp .ne 135, 3)) rfl
theorem dX12_findLike_59 : decode cX12_findLike 59 = .ok (.aload_n 0, 1) := dget daX12_findLike_0 35 (q := (59, .aload_n 0, 1)) rfl
theorem dX12_findLike_60 : decode cX12_findLike 60 = .ok (.getfield 134, 3) := dget daX12_findLike_0 36 (q := (60, .getfield 134, 3)) rfl
theorem dX12_findLike_63 : decode cX12_findLike 63 = .ok (.iload 7, 2) := dget daX12_findLike_0 37 (q := (63, .iload 7, 2)) rfl
theorem dX12_findLike_65 : decode cX12_findLike 65 = .ok (.iaload, 1) := dget daX12_findLike_0 38 (q := (65, .iaload, 1)) rfl
theorem dX12_findLike_66 : decode cX12_findLike 66 = .ok (.iload 4, 2) := dget daX12_findLike_0 39 (q := (66, .iload 4, 2)) rfl
def tdaX12_findLike_1 : List (Nat × (Instr × Nat)) := [(68, .if_icmp .ne 123, 3), (71, .iload 5, 2), (73, .aload_n 0, 1), (74, .getfield 137, 3), (77, .iload 7, 2), (79, .iaload, 1), (80, .isub, 1), (81, .invokestatic 303, 3), (84, .bipush 10, 2), (86, .idiv, 1), (87, .aload_n 0, 1), (88, .iload_n 2, 1), (89, .invokevirtual 266, 3), (92, .aload_n 0, 1), (93, .getfield 140, 3), (96, .iload 7, 2), (98, .iaload, 1), (99, .isub, 1), (100, .invokestatic 303, 3), (103, .bipush 50, 2), (105, .idiv, 1), (106, .iadd, 1), (107, .istore 8, 2), (109, .iload 6, 2), (111, .istore 9, 2), (113, .iload 9, 2), (115, .ifCond .le 55, 3), (118, .aload_n 0, 1), (119, .getfield 152, 3), (122, .iload 9, 2), (124, .iconst 1, 1), (125, .isub, 1), (126, .iaload, 1), (127, .iload 8, 2), (129, .if_icmp .le 41, 3), (132, .aload_n 0, 1), (133, .getfield 152, 3), (136, .iload 9, 2), (138, .aload_n 0, 1), (139, .getfield 152, 3)]
theorem daX12_findLike_1 : tdaX12_findLike_1.all (fun q => decide (decode cX12_findLike q.1 = .ok q.2)) = true := by decide +kernel
theorem dX12_findLike_68 : decode cX12_findLike 68 = .ok (.if_icmp .ne 123, 3) := dget daX12_findLike_1 0 (q := (68, .if_icmp .ne 123, 3)) rfl
theorem dX12_findLike_71 : decode cX12_findLike 71 = .ok (.iload 5, 2) := dget daX12_findLike_1 1 (q := (71, .iload 5, 2)) rfl
theorem dX12_findLike_73 : decode cX12_findLike 73 = .ok (.aload_n 0, 1) := dget daX12_findLike_1 2 (q := (73, .aload_n 0, 1)) rfl
theorem dX12_findLike_74 : decode cX12_findLike 74 = .ok (.getfield 137, 3) := dget daX12_findLike_1 3 (q := (74, .getfield 137, 3)) rfl
theorem dX12_findLike_77 : decode cX12_findLike 77 = .ok (.iload 7, 2) := dget daX12_findLike_1 4 (q := (77, .iload 7, 2)) rfl
theorem dX12_findLike_79 : decode cX12_findLike 79 = .ok (.iaload, 1) := dget daX12_findLike_1 5 (q := (79, .iaload, 1)) rfl
theorem dX12_findLike_80 : decode cX12_findLike 80 = .ok (.isub, 1) := dget daX12_findLike_1 6 (q := (80, .isub, 1)) rfl
theorem dX12_findLike_81 : decode cX12_findLike 81 = .ok (.invokestatic 303, 3) := dget daX12_findLike_1 7 (q := (81, .invokestatic 303, 3)) rfl
theorem dX12_findLike_84 : decode cX12_findLike 84 = .ok (.bipush 10, 2) := dget daX12_findLike_1 8 (q := (84, .bipush 10, 2)) rfl
theorem dX12_findLike_86 : decode cX12_findLike 86 = .ok (.idiv, 1) := dget daX12_findLike_1 9 (q := (86, .idiv, 1)) rfl
theorem dX12_findLike_87 : decode cX12_findLike 87 = .ok (.aload_n 0, 1) := dget daX12_findLike_1 10 (q := (87, .aload_n 0, 1)) rfl
theorem dX12_findLike_88 : decode cX12_findLike 88 = .ok (.iload_n 2, 1) := dget daX12_findLike_1 11 (q := (88, .iload_n 2, 1)) rfl
theorem dX12_findLike_89 : decode cX12_findLike 89 = .ok (.invokevirtual 266, 3) := dget daX12_findLike_1 12 (q := (89, .invokevirtual 266, 3)) rfl
theorem dX12_findLike_92 : decode cX12_findLike 92 = .ok (.aload_n 0, 1) := dget daX12_findLike_1 13 (q := (92, .aload_n 0, 1)) rfl
theorem dX12_findLike_93 : decode cX12_findLike 93 = .ok (.getfield 140, 3) := dget daX12_findLike_1 14 (q := (93, .getfield 140, 3)) rfl
theorem dX12_findLike_96 : decode cX12_findLike 96 = .ok (.iload 7, 2) := dget daX12_findLike_1 15 (q := (96, .iload 7, 2)) rfl
theorem dX12_findLike_98 : decode cX12_findLike 98 = .ok (.iaload, 1) := dget daX12_findLike_1 16 (q := (98, .iaload, 1)) rfl
theorem dX12_findLike_99 : decode cX12_findLike 99 = .ok (.isub, 1) := dget daX12_findLike_1 17 (q := (99, .isub, 1)) rfl
theorem dX12_findLike_100 : decode cX12_findLike 100 = .ok (.invokestatic 303, 3) := dget daX12_findLike_1 18 (q := (100, .invokestatic 303, 3)) rfl
theorem dX12_findLike_103 : decode cX12_findLike 103 = .ok (.bipush 50, 2) := dget daX12_findLike_1 19 (q := (103, .bipush 50, 2)) rfl
theorem dX12_findLike_105 : decode cX12_findLike 105 = .ok (.idiv, 1) := dget daX12_findLike_1 20 (q := (105, .idiv, 1)) rfl
theorem dX12_findLike_106 : decode cX12_findLike 106 = .ok (.iadd, 1) := dget daX12_findLike_1 21 (q := (106, .iadd, 1)) rfl
theorem dX12_findLike_107 : decode cX12_findLike 107 = .ok (.istore 8, 2) := dget daX12_findLike_1 22 (q := (107, .istore 8, 2)) rfl
theorem dX12_findLike_109 : decode cX12_findLike 109 = .ok (.iload 6, 2) := dget daX12_findLike_1 23 (q := (109, .iload 6, 2)) rfl
theorem dX12_findLike_111 : decode cX12_findLike 111 = .ok (.istore 9, 2) := dget daX12_findLike_1 24 (q := (111, .istore 9, 2)) rfl
theorem dX12_findLike_113 : decode cX12_findLike 113 = .ok (.iload 9, 2) := dget daX12_findLike_1 25 (q := (113, .iload 9, 2)) rfl
theorem dX12_findLike_115 : decode cX12_findLike 115 = .ok (.ifCond .le 55, 3) := dget daX12_findLike_1 26 (q := (115, .ifCond .le 55, 3)) rfl
theorem dX12_findLike_118 : decode cX12_findLike 118 = .ok (.aload_n 0, 1) := dget daX12_findLike_1 27 (q := (118, .aload_n 0, 1)) rfl
theorem dX12_findLike_119 : decode cX12_findLike 119 = .ok (.getfield 152, 3) := dget daX12_findLike_1 28 (q := (119, .getfield 152, 3)) rfl
theorem dX12_findLike_122 : decode cX12_findLike 122 = .ok (.iload 9, 2) := dget daX12_findLike_1 29 (q := (122, .iload 9, 2)) rfl
theorem dX12_findLike_124 : decode cX12_findLike 124 = .ok (.iconst 1, 1) := dget daX12_findLike_1 30 (q := (124, .iconst 1, 1)) rfl
theorem dX12_findLike_125 : decode cX12_findLike 125 = .ok (.isub, 1) := dget daX12_findLike_1 31 (q := (125, .isub, 1)) rfl
theorem dX12_findLike_126 : decode cX12_findLike 126 = .ok (.iaload, 1) := dget daX12_findLike_1 32 (q := (126, .iaload, 1)) rfl
theorem dX12_findLike_127 : decode cX12_findLike 127 = .ok (.iload 8, 2) := dget daX12_findLike_1 33 (q := (127, .iload 8, 2)) rfl
theorem dX12_findLike_129 : decode cX12_findLike 129 = .ok (.if_icmp .le 41, 3) := dget daX12_findLike_1 34 (q := (129, .if_icmp .le 41, 3)) rfl
theorem dX12_findLike_132 : decode cX12_findLike 132 = .ok (.aload_n 0, 1) := dget daX12_findLike_1 35 (q := (132, .aload_n 0, 1)) rfl
theorem dX12_findLike_133 : decode cX12_findLike 133 = .ok (.getfield 152, 3) := dget daX12_findLike_1 36 (q := (133, .getfield 152, 3)) rfl
theorem dX12_findLike_136 : decode cX12_findLike 136 = .ok (.iload 9, 2) := dget daX12_findLike_1 37 (q := (136, .iload 9, 2)) rfl
theorem dX12_findLike_138 : decode cX12_findLike 138 = .ok (.aload_n 0, 1) := dget daX12_findLike_1 38 (q := (138, .aload_n 0, 1)) rfl
theorem dX12_findLike_139 : decode cX12_findLike 139 = .ok (.getfield 152, 3) := dget daX12_findLike_1 39 (q := (139, .getfield 152, 3)) rfl
def tdaX12_findLike_2 : List (Nat × (Instr × Nat)) := [(142, .iload 9, 2), (144, .iconst 1, 1), (145, .isub, 1), (146, .iaload, 1), (147, .iastore, 1), (148, .aload_n 0, 1), (149, .getfield 149, 3), (152, .iload 9, 2), (154, .aload_n 0, 1), (155, .getfield 149, 3), (158, .iload 9, 2), (160, .iconst 1, 1), (161, .isub, 1), (162, .iaload, 1), (163, .iastore, 1), (164, .iinc 9 (-1), 3), (167, .goto (-54), 3), (170, .aload_n 0, 1), (171, .getfield 152, 3), (174, .iload 9, 2), (176, .iload 8, 2), (178, .iastore, 1), (179, .aload_n 0, 1), (180, .getfield 149, 3), (183, .iload 9, 2), (185, .iload 7, 2), (187, .iastore, 1), (188, .iinc 6 1, 3), (191, .iinc 7 1, 3), (194, .goto (-155), 3), (197, .aload_n 0, 1), (198, .iload 6, 2), (200, .aload_n 0, 1), (201, .getfield 53, 3), (204, .iconst 3, 1), (205, .iaload, 1), (206, .invokestatic 203, 3), (209, .putfield 306, 3), (212, .aload_n 0, 1), (213, .iconst 0, 1)]
theorem daX12_findLike_2 : tdaX12_findLike_2.all (fun q => decide (decode cX12_findLike q.1 = .ok q.2)) = true := by decide +kernel
theorem dX12_findLike_142 : decode cX12_findLike 142 = .ok (.iload 9, 2) := dget daX12_findLike_2 0 (q := (142, .iload 9, 2)) rfl
theorem dX12_findLike_144 : decode cX12_findLike 144 = .ok (.iconst 1, 1) := dget daX12_findLike_2 1 (q := (144, .iconst 1, 1)) rfl
theorem dX12_findLike_145 : decode cX12_findLike 145 = .ok (.isub, 1) := dget daX12_findLike_2 2 (q := (145, .isub, 1)) rfl
theorem dX12_findLike_146 : decode cX12_findLike 146 = .ok (.iaload, 1) := dget daX12_findLike_2 3 (q := (146, .iaload, 1)) rfl
theorem dX12_findLike_147 : decode cX12_findLike 147 = .ok (.iastore, 1) := dget daX12_findLike_2 4 (q := (147, .iastore, 1)) rfl
theorem dX12_findLike_148 : decode cX12_findLike 148 = .ok (.aload_n 0, 1) := dget daX12_findLike_2 5 (q := (148, .aload_n 0, 1)) rfl
theorem dX12_findLike_149 : decode cX12_findLike 149 = .ok (.getfield 149, 3) := dget daX12_findLike_2 6 (q := (149, .getfield 149, 3)) rfl
theorem dX12_findLike_152 : decode cX12_findLike 152 = .ok (.iload 9, 2) := dget daX12_findLike_2 7 (q := (152, .iload 9, 2)) rfl
theorem dX12_findLike_154 : decode cX12_findLike 154 = .ok (.aload_n 0, 1) := dget daX12_findLike_2 8 (q := (154, .aload_n 0, 1)) rfl
theorem dX12_findLike_155 : decode cX12_findLike 155 = .ok (.getfield 149, 3) := dget daX12_findLike_2 9 (q := (155, .getfield 149, 3)) rfl
theorem dX12_findLike_158 : decode cX12_findLike 158 = .ok (.iload 9, 2) := dget daX12_findLike_2 10 (q := (158, .iload 9, 2)) rfl
theorem dX12_findLike_160 : decode cX12_findLike 160 = .ok (.iconst 1, 1) := dget daX12_findLike_2 11 (q := (160, .iconst 1, 1)) rfl
theorem dX12_findLike_161 : decode cX12_findLike 161 = .ok (.isub, 1) := dget daX12_findLike_2 12 (q := (161, .isub, 1)) rfl
theorem dX12_findLike_162 : decode cX12_findLike 162 = .ok (.iaload, 1) := dget daX12_findLike_2 13 (q := (162, .iaload, 1)) rfl
theorem dX12_findLike_163 : decode cX12_findLike 163 = .ok (.iastore, 1) := dget daX12_findLike_2 14 (q := (163, .iastore, 1)) rfl
theorem dX12_findLike_164 : decode cX12_findLike 164 = .ok (.iinc 9 (-1), 3) := dget daX12_findLike_2 15 (q := (164, .iinc 9 (-1), 3)) rfl
theorem dX12_findLike_167 : decode cX12_findLike 167 = .ok (.goto (-54), 3) := dget daX12_findLike_2 16 (q := (167, .goto (-54), 3)) rfl
theorem dX12_findLike_170 : decode cX12_findLike 170 = .ok (.aload_n 0, 1) := dget daX12_findLike_2 17 (q := (170, .aload_n 0, 1)) rfl
theorem dX12_findLike_171 : decode cX12_findLike 171 = .ok (.getfield 152, 3) := dget daX12_findLike_2 18 (q := (171, .getfield 152, 3)) rfl
theorem dX12_findLike_174 : decode cX12_findLike 174 = .ok (.iload 9, 2) := dget daX12_findLike_2 19 (q := (174, .iload 9, 2)) rfl
theorem dX12_findLike_176 : decode cX12_findLike 176 = .ok (.iload 8, 2) := dget daX12_findLike_2 20 (q := (176, .iload 8, 2)) rfl
theorem dX12_findLike_178 : decode cX12_findLike 178 = .ok (.iastore, 1) := dget daX12_findLike_2 21 (q := (178, .iastore, 1)) rfl
theorem dX12_findLike_179 : decode cX12_findLike 179 = .ok (.aload_n 0, 1) := dget daX12_findLike_2 22 (q := (179, .aload_n 0, 1)) rfl
theorem dX12_findLike_180 : decode cX12_findLike 180 = .ok (.getfield 149, 3) := dget daX12_findLike_2 23 (q := (180, .getfield 149, 3)) rfl
theorem dX12_findLike_183 : decode cX12_findLike 183 = .ok (.iload 9, 2) := dget daX12_findLike_2 24 (q := (183, .iload 9, 2)) rfl
theorem dX12_findLike_185 : decode cX12_findLike 185 = .ok (.iload 7, 2) := dget daX12_findLike_2 25 (q := (185, .iload 7, 2)) rfl
theorem dX12_findLike_187 : decode cX12_findLike 187 = .ok (.iastore, 1) := dget daX12_findLike_2 26 (q := (187, .iastore, 1)) rfl
theorem dX12_findLike_188 : decode cX12_findLike 188 = .ok (.iinc 6 1, 3) := dget daX12_findLike_2 27 (q := (188, .iinc 6 1, 3)) rfl
theorem dX12_findLike_191 : decode cX12_findLike 191 = .ok (.iinc 7 1, 3) := dget daX12_findLike_2 28 (q := (191, .iinc 7 1, 3)) rfl
theorem dX12_findLike_194 : decode cX12_findLike 194 = .ok (.goto (-155), 3) := dget daX12_findLike_2 29 (q := (194, .goto (-155), 3)) rfl
theorem dX12_findLike_197 : decode cX12_findLike 197 = .ok (.aload_n 0, 1) := dget daX12_findLike_2 30 (q := (197, .aload_n 0, 1)) rfl
theorem dX12_findLike_198 : decode cX12_findLike 198 = .ok (.iload 6, 2) := dget daX12_findLike_2 31 (q := (198, .iload 6, 2)) rfl
theorem dX12_findLike_200 : decode cX12_findLike 200 = .ok (.aload_n 0, 1) := dget daX12_findLike_2 32 (q := (200, .aload_n 0, 1)) rfl
theorem dX12_findLike_201 : decode cX12_findLike 201 = .ok (.getfield 53, 3) := dget daX12_findLike_2 33 (q := (201, .getfield 53, 3)) rfl
theorem dX12_findLike_204 : decode cX12_findLike 204 = .ok (.iconst 3, 1) := dget daX12_findLike_2 34 (q := (204, .iconst 3, 1)) rfl
theorem dX12_findLike_205 : decode cX12_findLike 205 = .ok (.iaload, 1) := dget daX12_findLike_2 35 (q := (205, .iaload, 1)) rfl
theorem dX12_findLike_206 : decode cX12_findLike 206 = .ok (.invokestatic 203, 3) := dget daX12_findLike_2 36 (q := (206, .invokestatic 203, 3)) rfl
theorem dX12_findLike_209 : decode cX12_findLike 209 = .ok (.putfield 306, 3) := dget daX12_findLike_2 37 (q := (209, .putfield 306, 3)) rfl
theorem dX12_findLike_212 : decode cX12_findLike 212 = .ok (.aload_n 0, 1) := dget daX12_findLike_2 38 (q := (212, .aload_n 0, 1)) rfl
theorem dX12_findLike_213 : decode cX12_findLike 213 = .ok (.iconst 0, 1) := dget daX12_findLike_2 39 (q := (213, .iconst 0, 1)) rfl
def tdaX12_findLike_3 : List (Nat × (Instr × Nat)) := [(214, .putfield 309, 3), (217, .aload_n 0, 1), (218, .iconst 0, 1), (219, .putfield 312, 3), (222, .iconst 0, 1), (223, .istore 7, 2), (225, .iload 7, 2), (227, .aload_n 0, 1), (228, .getfield 306, 3), (231, .if_icmp .ge 59, 3), (234, .aload_n 0, 1), (235, .dup, 1), (236, .getfield 309, 3), (239, .aload_n 0, 1), (240, .getfield 143, 3), (243, .aload_n 0, 1), (244, .getfield 149, 3), (247, .iload 7, 2), (249, .iaload, 1), (250, .baload, 1), (251, .ifCond .eq 7, 3), (254, .iconst 1, 1), (255, .goto 4, 3), (258, .iconst 0, 1), (259, .iadd, 1), (260, .putfield 309, 3), (263, .aload_n 0, 1), (264, .dup, 1), (265, .getfield 312, 3), (268, .aload_n 0, 1), (269, .getfield 146, 3), (272, .aload_n 0, 1), (273, .getfield 149, 3), (276, .iload 7, 2), (278, .iaload, 1), (279, .iaload, 1), (280, .iadd, 1), (281, .putfield 312, 3), (284, .iinc 7 1, 3), (287, .goto (-62), 3)]
theorem daX12_findLike_3 : tdaX12_findLike_3.all (fun q => decide (decode cX12_findLike q.1 = .ok q.2)) = true := by decide +kernel
theorem dX12_findLike_214 : decode cX12_findLike 214 = .ok (.putfield 309, 3) := dget daX12_findLike_3 0 (q := (214, .putfield 309, 3)) rfl
theorem dX12_findLike_217 : decode cX12_findLike 217 = .ok (.aload_n 0, 1) := dget daX12_findLike_3 1 (q := (217, .aload_n 0, 1)) rfl
theorem dX12_findLike_218 : decode cX12_findLike 218 = .ok (.iconst 0, 1) := dget daX12_findLike_3 2 (q := (218, .iconst 0, 1)) rfl
theorem dX12_findLike_219 : decode cX12_findLike 219 = .ok (.putfield 312, 3) := dget daX12_findLike_3 3 (q := (219, .putfield 312, 3)) rfl
theorem dX12_findLike_222 : decode cX12_findLike 222 = .ok (.iconst 0, 1) := dget daX12_findLike_3 4 (q := (222, .iconst 0, 1)) rfl
theorem dX12_findLike_223 : decode cX12_findLike 223 = .ok (.istore 7, 2) := dget daX12_findLike_3 5 (q := (223, .istore 7, 2)) rfl
theorem dX12_findLike_225 : decode cX12_findLike 225 = .ok (.iload 7, 2) := dget daX12_findLike_3 6 (q := (225, .iload 7, 2)) rfl
theorem dX12_findLike_227 : decode cX12_findLike 227 = .ok (.aload_n 0, 1) := dget daX12_findLike_3 7 (q := (227, .aload_n 0, 1)) rfl
theorem dX12_findLike_228 : decode cX12_findLike 228 = .ok (.getfield 306, 3) := dget daX12_findLike_3 8 (q := (228, .getfield 306, 3)) rfl
theorem dX12_findLike_231 : decode cX12_findLike 231 = .ok (.if_icmp .ge 59, 3) := dget daX12_findLike_3 9 (q := (231, .if_icmp .ge 59, 3)) rfl
theorem dX12_findLike_234 : decode cX12_findLike 234 = .ok (.aload_n 0, 1) := dget daX12_findLike_3 10 (q := (234, .aload_n 0, 1)) rfl
theorem dX12_findLike_235 : decode cX12_findLike 235 = .ok (.dup, 1) := dget daX12_findLike_3 11 (q := (235, .dup, 1)) rfl
theorem dX12_findLike_236 : decode cX12_findLike 236 = .ok (.getfield 309, 3) := dget daX12_findLike_3 12 (q := (236, .getfield 309, 3)) rfl
theorem dX12_findLike_239 : decode cX12_findLike 239 = .ok (.aload_n 0, 1) := dget daX12_findLike_3 13 (q := (239, .aload_n 0, 1)) rfl
theorem dX12_findLike_240 : decode cX12_findLike 240 = .ok (.getfield 143, 3) := dget daX12_findLike_3 14 (q := (240, .getfield 143, 3)) rfl
theorem dX12_findLike_243 : decode cX12_findLike 243 = .ok (.aload_n 0, 1) := dget daX12_findLike_3 15 (q := (243, .aload_n 0, 1)) rfl
theorem dX12_findLike_244 : decode cX12_findLike 244 = .ok (.getfield 149, 3) := dget daX12_findLike_3 16 (q := (244, .getfield 149, 3)) rfl
theorem dX12_findLike_247 : decode cX12_findLike 247 = .ok (.iload 7, 2) := dget daX12_findLike_3 17 (q := (247, .iload 7, 2)) rfl
theorem dX12_findLike_249 : decode cX12_findLike 249 = .ok (.iaload, 1) := dget daX12_findLike_3 18 (q := (249, .iaload, 1)) rfl
theorem dX12_findLike_250 : decode cX12_findLike 250 = .ok (.baload, 1) := dget daX12_findLike_3 19 (q := (250, .baload, 1)) rfl
theorem dX12_findLike_251 : decode cX12_findLike 251 = .ok (.ifCond .eq 7, 3) := dget daX12_findLike_3 20 (q := (251, .ifCond .eq 7, 3)) rfl
theorem dX12_findLike_254 : decode cX12_findLike 254 = .ok (.iconst 1, 1) := dget daX12_findLike_3 21 (q := (254, .iconst 1, 1)) rfl
theorem dX12_findLike_255 : decode cX12_findLike 255 = .ok (.goto 4, 3) := dget daX12_findLike_3 22 (q := (255, .goto 4, 3)) rfl
theorem dX12_findLike_258 : decode cX12_findLike 258 = .ok (.iconst 0, 1) := dget daX12_findLike_3 23 (q := (258, .iconst 0, 1)) rfl
theorem dX12_findLike_259 : decode cX12_findLike 259 = .ok (.iadd, 1) := dget daX12_findLike_3 24 (q := (259, .iadd, 1)) rfl
theorem dX12_findLike_260 : decode cX12_findLike 260 = .ok (.putfield 309, 3) := dget daX12_findLike_3 25 (q := (260, .putfield 309, 3)) rfl
theorem dX12_findLike_263 : decode cX12_findLike 263 = .ok (.aload_n 0, 1) := dget daX12_findLike_3 26 (q := (263, .aload_n 0, 1)) rfl
theorem dX12_findLike_264 : decode cX12_findLike 264 = .ok (.dup, 1) := dget daX12_findLike_3 27 (q := (264, .dup, 1)) rfl
theorem dX12_findLike_265 : decode cX12_findLike 265 = .ok (.getfield 312, 3) := dget daX12_findLike_3 28 (q := (265, .getfield 312, 3)) rfl
theorem dX12_findLike_268 : decode cX12_findLike 268 = .ok (.aload_n 0, 1) := dget daX12_findLike_3 29 (q := (268, .aload_n 0, 1)) rfl
theorem dX12_findLike_269 : decode cX12_findLike 269 = .ok (.getfield 146, 3) := dget daX12_findLike_3 30 (q := (269, .getfield 146, 3)) rfl
theorem dX12_findLike_272 : decode cX12_findLike 272 = .ok (.aload_n 0, 1) := dget daX12_findLike_3 31 (q := (272, .aload_n 0, 1)) rfl
theorem dX12_findLike_273 : decode cX12_findLike 273 = .ok (.getfield 149, 3) := dget daX12_findLike_3 32 (q := (273, .getfield 149, 3)) rfl
theorem dX12_findLike_276 : decode cX12_findLike 276 = .ok (.iload 7, 2) := dget daX12_findLike_3 33 (q := (276, .iload 7, 2)) rfl
theorem dX12_findLike_278 : decode cX12_findLike 278 = .ok (.iaload, 1) := dget daX12_findLike_3 34 (q := (278, .iaload, 1)) rfl
theorem dX12_findLike_279 : decode cX12_findLike 279 = .ok (.iaload, 1) := dget daX12_findLike_3 35 (q := (279, .iaload, 1)) rfl
theorem dX12_findLike_280 : decode cX12_findLike 280 = .ok (.iadd, 1) := dget daX12_findLike_3 36 (q := (280, .iadd, 1)) rfl
theorem dX12_findLike_281 : decode cX12_findLike 281 = .ok (.putfield 312, 3) := dget daX12_findLike_3 37 (q := (281, .putfield 312, 3)) rfl
theorem dX12_findLike_284 : decode cX12_findLike 284 = .ok (.iinc 7 1, 3) := dget daX12_findLike_3 38 (q := (284, .iinc 7 1, 3)) rfl
theorem dX12_findLike_287 : decode cX12_findLike 287 = .ok (.goto (-62), 3) := dget daX12_findLike_3 39 (q := (287, .goto (-62), 3)) rfl
def tdaX12_findLike_4 : List (Nat × (Instr × Nat)) := [(290, .return_, 1)]
theorem daX12_findLike_4 : tdaX12_findLike_4.all (fun q => decide (decode cX12_findLike q.1 = .ok q.2)) = true := by decide +kernel
theorem dX12_findLike_290 : decode cX12_findLike 290 = .ok (.return_, 1) := dget daX12_findLike_4 0 (q := (290, .return_, 1)) rfl
def tdaX12_odds_0 : List (Nat × (Instr × Nat)) := [(0, .aload_n 0, 1), (1, .iload_n 1, 1), (2, .invokevirtual 281, 3), (5, .ifCond .ne 9, 3), (8, .aload_n 0, 1), (9, .iconst (-1), 1), (10, .invokevirtual 178, 3), (13, .ireturn, 1), (14, .iload_n 2, 1), (15, .iconst 0, 1), (16, .iconst 2, 1), (17, .invokestatic 156, 3), (20, .ifCond .ne 10, 3), (23, .aload_n 0, 1), (24, .bipush (-2), 2), (26, .invokevirtual 178, 3), (29, .ireturn, 1), (30, .aload_n 0, 1), (31, .iload_n 1, 1), (32, .invokevirtual 315, 3), (35, .iload_n 2, 1), (36, .ifCond .ne 10, 3), (39, .aload_n 0, 1), (40, .getfield 309, 3), (43, .goto 30, 3), (46, .iload_n 2, 1), (47, .iconst 1, 1), (48, .if_icmp .ne 10, 3), (51, .aload_n 0, 1), (52, .getfield 306, 3), (55, .goto 18, 3), (58, .aload_n 0, 1), (59, .iload_n 1, 1), (60, .invokevirtual 284, 3), (63, .aload_n 0, 1), (64, .getfield 309, 3), (67, .imul, 1), (68, .aload_n 0, 1), (69, .getfield 312, 3), (72, .isub, 1)]
theorem daX12_odds_0 : tdaX12_odds_0.all (fun q => decide (decode cX12_odds q.1 = .ok q.2)) = true := by decide +kernel
theorem dX12_odds_0 : decode cX12_odds 0 = .ok (.aload_n 0, 1) := dget daX12_odds_0 0 (q := (0, .aload_n 0, 1)) rfl
theorem dX12_odds_1 : decode cX12_odds 1 = .ok (.iload_n 1, 1) := dget daX12_odds_0 1 (q := (1, .iload_n 1, 1)) rfl
theorem dX12_odds_2 : decode cX12_odds 2 = .ok (.invokevirtual 281, 3) := dget daX12_odds_0 2 (q := (2, .invokevirtual 281, 3)) rfl
theorem dX12_odds_5 : decode cX12_odds 5 = .ok (.ifCond .ne 9, 3) := dget daX12_odds_0 3 (q := (5, .ifCond .ne 9, 3)) rfl
theorem dX12_odds_8 : decode cX12_odds 8 = .ok (.aload_n 0, 1) := dget daX12_odds_0 4 (q := (8, .aload_n 0, 1)) rfl
theorem dX12_odds_9 : decode cX12_odds 9 = .ok (.iconst (-1), 1) := dget daX12_odds_0 5 (q := (9, .iconst (-1), 1)) rfl
theorem dX12_odds_10 : decode cX12_odds 10 = .ok (.invokevirtual 178, 3) := dget daX12_odds_0 6 (q := (10, .invokevirtual 178, 3)) rfl
theorem dX12_odds_13 : decode cX12_odds 13 = .ok (.ireturn, 1) := dget daX12_odds_0 7 (q := (13, .ireturn, 1)) rfl
theorem dX12_odds_14 : decode cX12_odds 14 = .ok (.iload_n 2, 1) := dget daX12_odds_0 8 (q := (14, .iload_n 2, 1)) rfl
theorem dX12_odds_15 : decode cX12_odds 15 = .ok (.iconst 0, 1) := dget daX12_odds_0 9 (q := (15, .iconst 0, 1)) rfl
theorem dX12_odds_16 : decode cX12_odds 16 = .ok (.iconst 2, 1) := dget daX12_odds_0 10 (q := (16, .iconst 2, 1)) rfl
theorem dX12_odds_17 : decode cX12_odds 17 = .ok (.invokestatic 156, 3) := dget daX12_odds_0 11 (q := (17, .invokestatic 156, 3)) rfl
theorem dX12_odds_20 : decode cX12_odds 20 = .ok (.ifCond .ne 10, 3) := dget daX12_odds_0 12 (q := (20, .ifCond .ne 10, 3)) rfl
theorem dX12_odds_23 : decode cX12_odds 23 = .ok (.aload_n 0, 1) := dget daX12_odds_0 13 (q := (23, .aload_n 0, 1)) rfl
theorem dX12_odds_24 : decode cX12_odds 24 = .ok (.bipush (-2), 2) := dget daX12_odds_0 14 (q := (24, .bipush (-2), 2)) rfl
theorem dX12_odds_26 : decode cX12_odds 26 = .ok (.invokevirtual 178, 3) := dget daX12_odds_0 15 (q := (26, .invokevirtual 178, 3)) rfl
theorem dX12_odds_29 : decode cX12_odds 29 = .ok (.ireturn, 1) := dget daX12_odds_0 16 (q := (29, .ireturn, 1)) rfl
theorem dX12_odds_30 : decode cX12_odds 30 = .ok (.aload_n 0, 1) := dget daX12_odds_0 17 (q := (30, .aload_n 0, 1)) rfl
theorem dX12_odds_31 : decode cX12_odds 31 = .ok (.iload_n 1, 1) := dget daX12_odds_0 18 (q := (31, .iload_n 1, 1)) rfl
theorem dX12_odds_32 : decode cX12_odds 32 = .ok (.invokevirtual 315, 3) := dget daX12_odds_0 19 (q := (32, .invokevirtual 315, 3)) rfl
theorem dX12_odds_35 : decode cX12_odds 35 = .ok (.iload_n 2, 1) := dget daX12_odds_0 20 (q := (35, .iload_n 2, 1)) rfl
theorem dX12_odds_36 : decode cX12_odds 36 = .ok (.ifCond .ne 10, 3) := dget daX12_odds_0 21 (q := (36, .ifCond .ne 10, 3)) rfl
theorem dX12_odds_39 : decode cX12_odds 39 = .ok (.aload_n 0, 1) := dget daX12_odds_0 22 (q := (39, .aload_n 0, 1)) rfl
theorem dX12_odds_40 : decode cX12_odds 40 = .ok (.getfield 309, 3) := dget daX12_odds_0 23 (q := (40, .getfield 309, 3)) rfl
theorem dX12_odds_43 : decode cX12_odds 43 = .ok (.goto 30, 3) := dget daX12_odds_0 24 (q := (43, .goto 30, 3)) rfl
theorem dX12_odds_46 : decode cX12_odds 46 = .ok (.iload_n 2, 1) := dget daX12_odds_0 25 (q := (46, .iload_n 2, 1)) rfl
theorem dX12_odds_47 : decode cX12_odds 47 = .ok (.iconst 1, 1) := dget daX12_odds_0 26 (q := (47, .iconst 1, 1)) rfl
theorem dX12_odds_48 : decode cX12_odds 48 = .ok (.if_icmp .ne 10, 3) := dget daX12_odds_0 27 (q := (48, .if_icmp .ne 10, 3)) rfl
theorem dX12_odds_51 : decode cX12_odds 51 = .ok (.aload_n 0, 1) := dget daX12_odds_0 28 (q := (51, .aload_n 0, 1)) rfl
theorem dX12_odds_52 : decode cX12_odds 52 = .ok (.getfield 306, 3) := dget daX12_odds_0 29 (q := (52, .getfield 306, 3)) rfl
theorem dX12_odds_55 : decode cX12_odds 55 = .ok (.goto 18, 3) := dget daX12_odds_0 30 (q := (55, .goto 18, 3)) rfl
theorem dX12_odds_58 : decode cX12_odds 58 = .ok (.aload_n 0, 1) := dget daX12_odds_0 31 (q := (58, .aload_n 0, 1)) rfl
theorem dX12_odds_59 : decode cX12_odds 59 = .ok (.iload_n 1, 1) := dget daX12_odds_0 32 (q := (59, .iload_n 1, 1)) rfl
theorem dX12_odds_60 : decode cX12_odds 60 = .ok (.invokevirtual 284, 3) := dget daX12_odds_0 33 (q := (60, .invokevirtual 284, 3)) rfl
theorem dX12_odds_63 : decode cX12_odds 63 = .ok (.aload_n 0, 1) := dget daX12_odds_0 34 (q := (63, .aload_n 0, 1)) rfl
theorem dX12_odds_64 : decode cX12_odds 64 = .ok (.getfield 309, 3) := dget daX12_odds_0 35 (q := (64, .getfield 309, 3)) rfl
theorem dX12_odds_67 : decode cX12_odds 67 = .ok (.imul, 1) := dget daX12_odds_0 36 (q := (67, .imul, 1)) rfl
theorem dX12_odds_68 : decode cX12_odds 68 = .ok (.aload_n 0, 1) := dget daX12_odds_0 37 (q := (68, .aload_n 0, 1)) rfl
theorem dX12_odds_69 : decode cX12_odds 69 = .ok (.getfield 312, 3) := dget daX12_odds_0 38 (q := (69, .getfield 312, 3)) rfl
theorem dX12_odds_72 : decode cX12_odds 72 = .ok (.isub, 1) := dget daX12_odds_0 39 (q := (72, .isub, 1)) rfl
def tdaX12_odds_1 : List (Nat × (Instr × Nat)) := [(73, .ireturn, 1)]
theorem daX12_odds_1 : tdaX12_odds_1.all (fun q => decide (decode cX12_odds q.1 = .ok q.2)) = true := by decide +kernel
theorem dX12_odds_73 : decode cX12_odds 73 = .ok (.ireturn, 1) := dget daX12_odds_1 0 (q := (73, .ireturn, 1)) rfl
def tdaX12_good_0 : List (Nat × (Instr × Nat)) := [(0, .aload_n 0, 1), (1, .iload_n 1, 1), (2, .invokevirtual 281, 3), (5, .ifCond .ne 9, 3), (8, .aload_n 0, 1), (9, .iconst (-1), 1), (10, .invokevirtual 164, 3), (13, .ireturn, 1), (14, .iload_n 2, 1), (15, .ifCond .ge 10, 3), (18, .aload_n 0, 1), (19, .bipush (-4), 2), (21, .invokevirtual 164, 3), (24, .ireturn, 1), (25, .iload_n 2, 1), (26, .sipush 9999, 3), (29, .if_icmp .le 10, 3), (32, .aload_n 0, 1), (33, .bipush (-6), 2), (35, .invokevirtual 164, 3), (38, .ireturn, 1), (39, .aload_n 0, 1), (40, .iload_n 1, 1), (41, .invokevirtual 315, 3), (44, .aload_n 0, 1), (45, .iload_n 1, 1), (46, .invokevirtual 284, 3), (49, .istore_n 3, 1), (50, .aload_n 0, 1), (51, .getfield 306, 3), (54, .ifCond .ne 18, 3), (57, .iconst 2, 1), (58, .iload_n 2, 1), (59, .imul, 1), (60, .iload_n 3, 1), (61, .if_icmp .lt 7, 3), (64, .iconst 1, 1), (65, .goto 32, 3), (68, .iconst 0, 1), (69, .goto 28, 3)]
theorem daX12_good_0 : tdaX12_good_0.all (fun q => decide (decode cX12_good q.1 = .ok q.2)) = true := by decide +kernel
theorem dX12_good_0 : decode cX12_good 0 = .ok (.aload_n 0, 1) := dget daX12_good_0 0 (q := (0, .aload_n 0, 1)) rfl
theorem dX12_good_1 : decode cX12_good 1 = .ok (.iload_n 1, 1) := dget daX12_good_0 1 (q := (1, .iload_n 1, 1)) rfl
theorem dX12_good_2 : decode cX12_good 2 = .ok (.invokevirtual 281, 3) := dget daX12_good_0 2 (q := (2, .invokevirtual 281, 3)) rfl
theorem dX12_good_5 : decode cX12_good 5 = .ok (.ifCond .ne 9, 3) := dget daX12_good_0 3 (q := (5, .ifCond .ne 9, 3)) rfl
theorem dX12_good_8 : decode cX12_good 8 = .ok (.aload_n 0, 1) := dget daX12_good_0 4 (q := (8, .aload_n 0, 1)) rfl
theorem dX12_good_9 : decode cX12_good 9 = .ok (.iconst (-1), 1) := dget daX12_good_0 5 (q := (9, .iconst (-1), 1)) rfl
theorem dX12_good_10 : decode cX12_good 10 = .ok (.invokevirtual 164, 3) := dget daX12_good_0 6 (q := (10, .invokevirtual 164, 3)) rfl
theorem dX12_good_13 : decode cX12_good 13 = .ok (.ireturn, 1) := dget daX12_good_0 7 (q := (13, .ireturn, 1)) rfl
theorem dX12_good_14 : decode cX12_good 14 = .ok (.iload_n 2, 1) := dget daX12_good_0 8 (q := (14, .iload_n 2, 1)) rfl
theorem dX12_good_15 : decode cX12_good 15 = .ok (.ifCond .ge 10, 3) := dget daX12_good_0 9 (q := (15, .ifCond .ge 10, 3)) rfl
theorem dX12_good_18 : decode cX12_good 18 = .ok (.aload_n 0, 1) := dget daX12_good_0 10 (q := (18, .aload_n 0, 1)) rfl
theorem dX12_good_19 : decode cX12_good 19 = .ok (.bipush (-4), 2) := dget daX12_good_0 11 (q := (19, .bipush (-4), 2)) rfl
theorem dX12_good_21 : decode cX12_good 21 = .ok (.invokevirtual 164, 3) := dget daX12_good_0 12 (q := (21, .invokevirtual 164, 3)) rfl
theorem dX12_good_24 : decode cX12_good 24 = .ok (.ireturn, 1) := dget daX12_good_0 13 (q := (24, .ireturn, 1)) rfl
theorem dX12_good_25 : decode cX12_good 25 = .ok (.iload_n 2, 1) := dget daX12_good_0 14 (q := (25, .iload_n 2, 1)) rfl
theorem dX12_good_26 : decode cX12_good 26 = .ok (.sipush 9999, 3) := dget daX12_good_0 15 (q := (26, .sipush 9999, 3)) rfl
theorem dX12_good_29 : decode cX12_good 29 = .ok (.if_icmp .le 10, 3) := dget daX12_good_0 16 (q := (29, .if_icmp .le 10, 3)) rfl
theorem dX12_good_32 : decode cX12_good 32 = .ok (.aload_n 0, 1) := dget daX12_good_0 17 (q := (32, .aload_n 0, 1)) rfl
theorem dX12_good_33 : decode cX12_good 33 = .ok (.bipush (-6), 2) := dget daX12_good_0 18 (q := (33, .bipush (-6), 2)) rfl
theorem dX12_good_35 : decode cX12_good 35 = .ok (.invokevirtual 164, 3) := dget daX12_good_0 19 (q := (35, .invokevirtual 164, 3)) rfl
theorem dX12_good_38 : decode cX12_good 38 = .ok (.ireturn, 1) := dget daX12_good_0 20 (q := (38, .ireturn, 1)) rfl
theorem dX12_good_39 : decode cX12_good 39 = .ok (.aload_n 0, 1) := dget daX12_good_0 21 (q := (39, .aload_n 0, 1)) rfl
theorem dX12_good_40 : decode cX12_good 40 = .ok (.iload_n 1, 1) := dget daX12_good_0 22 (q := (40, .iload_n 1, 1)) rfl
theorem dX12_good_41 : decode cX12_good 41 = .ok (.invokevirtual 315, 3) := dget daX12_good_0 23 (q := (41, .invokevirtual 315, 3)) rfl
theorem dX12_good_44 : decode cX12_good 44 = .ok (.aload_n 0, 1) := dget daX12_good_0 24 (q := (44, .aload_n 0, 1)) rfl
theorem dX12_good_45 : decode cX12_good 45 = .ok (.iload_n 1, 1) := dget daX12_good_0 25 (q := (45, .iload_n 1, 1)) rfl
theorem dX12_good_46 : decode cX12_good 46 = .ok (.invokevirtual 284, 3) := dget daX12_good_0 26 (q := (46, .invokevirtual 284, 3)) rfl
theorem dX12_good_49 : decode cX12_good 49 = .ok (.istore_n 3, 1) := dget daX12_good_0 27 (q := (49, .istore_n 3, 1)) rfl
theorem dX12_good_50 : decode cX12_good 50 = .ok (.aload_n 0, 1) := dget daX12_good_0 28 (q := (50, .aload_n 0, 1)) rfl
theorem dX12_good_51 : decode cX12_good 51 = .ok (.getfield 306, 3) := dget daX12_good_0 29 (q := (51, .getfield 306, 3)) rfl
theorem dX12_good_54 : decode cX12_good 54 = .ok (.ifCond .ne 18, 3) := dget daX12_good_0 30 (q := (54, .ifCond .ne 18, 3)) rfl
theorem dX12_good_57 : decode cX12_good 57 = .ok (.iconst 2, 1) := dget daX12_good_0 31 (q := (57, .iconst 2, 1)) rfl
theorem dX12_good_58 : decode cX12_good 58 = .ok (.iload_n 2, 1) := dget daX12_good_0 32 (q := (58, .iload_n 2, 1)) rfl
theorem dX12_good_59 : decode cX12_good 59 = .ok (.imul, 1) := dget daX12_good_0 33 (q := (59, .imul, 1)) rfl
theorem dX12_good_60 : decode cX12_good 60 = .ok (.iload_n 3, 1) := dget daX12_good_0 34 (q := (60, .iload_n 3, 1)) rfl
theorem dX12_good_61 : decode cX12_good 61 = .ok (.if_icmp .lt 7, 3) := dget daX12_good_0 35 (q := (61, .if_icmp .lt 7, 3)) rfl
theorem dX12_good_64 : decode cX12_good 64 = .ok (.iconst 1, 1) := dget daX12_good_0 36 (q := (64, .iconst 1, 1)) rfl
theorem dX12_good_65 : decode cX12_good 65 = .ok (.goto 32, 3) := dget daX12_good_0 37 (q := (65, .goto 32, 3)) rfl
theorem dX12_good_68 : decode cX12_good 68 = .ok (.iconst 0, 1) := dget daX12_good_0 38 (q := (68, .iconst 0, 1)) rfl
theorem dX12_good_69 : decode cX12_good 69 = .ok (.goto 28, 3) := dget daX12_good_0 39 (q := (69, .goto 28, 3)) rfl
def tdaX12_good_1 : List (Nat × (Instr × Nat)) := [(72, .iload_n 2, 1), (73, .aload_n 0, 1), (74, .getfield 306, 3), (77, .imul, 1), (78, .iload_n 3, 1), (79, .aload_n 0, 1), (80, .getfield 309, 3), (83, .imul, 1), (84, .aload_n 0, 1), (85, .getfield 312, 3), (88, .isub, 1), (89, .if_icmp .lt 7, 3), (92, .iconst 1, 1), (93, .goto 4, 3), (96, .iconst 0, 1), (97, .istore 4, 2), (99, .iload 4, 2), (101, .ifCond .eq 7, 3), (104, .iconst 1, 1), (105, .goto 4, 3), (108, .iconst 0, 1), (109, .ireturn, 1)]
theorem daX12_good_1 : tdaX12_good_1.all (fun q => decide (decode cX12_good q.1 = .ok q.2)) = true := by decide +kernel
theorem dX12_good_72 : decode cX12_good 72 = .ok (.iload_n 2, 1) := dget daX12_good_1 0 (q := (72, .iload_n 2, 1)) rfl
theorem dX12_good_73 : decode cX12_good 73 = .ok (.aload_n 0, 1) := dget daX12_good_1 1 (q := (73, .aload_n 0, 1)) rfl
theorem dX12_good_74 : decode cX12_good 74 = .ok (.getfield 306, 3) := dget daX12_good_1 2 (q := (74, .getfield 306, 3)) rfl
theorem dX12_good_77 : decode cX12_good 77 = .ok (.imul, 1) := dget daX12_good_1 3 (q := (77, .imul, 1)) rfl
theorem dX12_good_78 : decode cX12_good 78 = .ok (.iload_n 3, 1) := dget daX12_good_1 4 (q := (78, .iload_n 3, 1)) rfl
theorem dX12_good_79 : decode cX12_good 79 = .ok (.aload_n 0, 1) := dget daX12_good_1 5 (q := (79, .aload_n 0, 1)) rfl
theorem dX12_good_80 : decode cX12_good 80 = .ok (.getfield 309, 3) := dget daX12_good_1 6 (q := (80, .getfield 309, 3)) rfl
theorem dX12_good_83 : decode cX12_good 83 = .ok (.imul, 1) := dget daX12_good_1 7 (q := (83, .imul, 1)) rfl
theorem dX12_good_84 : decode cX12_good 84 = .ok (.aload_n 0, 1) := dget daX12_good_1 8 (q := (84, .aload_n 0, 1)) rfl
theorem dX12_good_85 : decode cX12_good 85 = .ok (.getfield 312, 3) := dget daX12_good_1 9 (q := (85, .getfield 312, 3)) rfl
theorem dX12_good_88 : decode cX12_good 88 = .ok (.isub, 1) := dget daX12_good_1 10 (q := (88, .isub, 1)) rfl
theorem dX12_good_89 : decode cX12_good 89 = .ok (.if_icmp .lt 7, 3) := dget daX12_good_1 11 (q := (89, .if_icmp .lt 7, 3)) rfl
theorem dX12_good_92 : decode cX12_good 92 = .ok (.iconst 1, 1) := dget daX12_good_1 12 (q := (92, .iconst 1, 1)) rfl
theorem dX12_good_93 : decode cX12_good 93 = .ok (.goto 4, 3) := dget daX12_good_1 13 (q := (93, .goto 4, 3)) rfl
theorem dX12_good_96 : decode cX12_good 96 = .ok (.iconst 0, 1) := dget daX12_good_1 14 (q := (96, .iconst 0, 1)) rfl
theorem dX12_good_97 : decode cX12_good 97 = .ok (.istore 4, 2) := dget daX12_good_1 15 (q := (97, .istore 4, 2)) rfl
theorem dX12_good_99 : decode cX12_good 99 = .ok (.iload 4, 2) := dget daX12_good_1 16 (q := (99, .iload 4, 2)) rfl
theorem dX12_good_101 : decode cX12_good 101 = .ok (.ifCond .eq 7, 3) := dget daX12_good_1 17 (q := (101, .ifCond .eq 7, 3)) rfl
theorem dX12_good_104 : decode cX12_good 104 = .ok (.iconst 1, 1) := dget daX12_good_1 18 (q := (104, .iconst 1, 1)) rfl
theorem dX12_good_105 : decode cX12_good 105 = .ok (.goto 4, 3) := dget daX12_good_1 19 (q := (105, .goto 4, 3)) rfl
theorem dX12_good_108 : decode cX12_good 108 = .ok (.iconst 0, 1) := dget daX12_good_1 20 (q := (108, .iconst 0, 1)) rfl
theorem dX12_good_109 : decode cX12_good 109 = .ok (.ireturn, 1) := dget daX12_good_1 21 (q := (109, .ireturn, 1)) rfl
def tdaX12_count_0 : List (Nat × (Instr × Nat)) := [(0, .iconst 0, 1), (1, .istore_n 2, 1), (2, .iload_n 1, 1), (3, .tableswitch 153 0 8 #[49, 54, 59, 94, 99, 104, 109, 143, 148], 49), (52, .aload_n 0, 1), (53, .getfield 168, 3), (56, .ireturn, 1), (57, .aload_n 0, 1), (58, .getfield 160, 3), (61, .ireturn, 1), (62, .iconst 0, 1), (63, .istore_n 3, 1), (64, .iload_n 3, 1), (65, .aload_n 0, 1), (66, .getfield 160, 3), (69, .if_icmp .ge 26, 3), (72, .iload_n 2, 1), (73, .aload_n 0, 1), (74, .getfield 40, 3), (77, .iload_n 3, 1), (78, .baload, 1), (79, .ifCond .eq 7, 3), (82, .iconst 1, 1), (83, .goto 4, 3), (86, .iconst 0, 1), (87, .iadd, 1), (88, .istore_n 2, 1), (89, .iinc 3 1, 3), (92, .goto (-28), 3), (95, .iload_n 2, 1), (96, .ireturn, 1), (97, .aload_n 0, 1), (98, .getfield 223, 3), (101, .ireturn, 1), (102, .aload_n 0, 1), (103, .getfield 247, 3), (106, .ireturn, 1), (107, .aload_n 0, 1), (108, .getfield 275, 3), (111, .ireturn, 1)]
theorem daX12_count_0 : tdaX12_count_0.all (fun q => decide (decode cX12_count q.1 = .ok q.2)) = true := by decide +kernel
theorem dX12_count_0 : decode cX12_count 0 = .ok (.iconst 0, 1) := dget daX12_count_0 0 (q := (0, .iconst 0, 1)) rfl
theorem dX12_count_1 : decode cX12_count 1 = .ok (.istore_n 2, 1) := dget daX12_count_0 1 (q := (1, .istore_n 2, 1)) rfl
theorem dX12_count_2 : decode cX12_count 2 = .ok (.iload_n 1, 1) := dget daX12_count_0 2 (q := (2, .iload_n 1, 1)) rfl
theorem dX12_count_3 : decode cX12_count 3 = .ok (.tableswitch 153 0 8 #[49, 54, 59, 94, 99, 104, 109, 143, 148], 49) := dget daX12_count_0 3 (q := (3, .tableswitch 153 0 8 #[49, 54, 59, 94, 99, 104, 109, 143, 148], 49)) rfl
theorem dX12_count_52 : decode cX12_count 52 = .ok (.aload_n 0, 1) := dget daX12_count_0 4 (q := (52, .aload_n 0, 1)) rfl
theorem dX12_count_53 : decode cX12_count 53 = .ok (.getfield 168, 3) := dget daX12_count_0 5 (q := (53, .getfield 168, 3)) rfl
theorem dX12_count_56 : decode cX12_count 56 = .ok (.ireturn, 1) := dget daX12_count_0 6 (q := (56, .ireturn, 1)) rfl
theorem dX12_count_57 : decode cX12_count 57 = .ok (.aload_n 0, 1) := dget daX12_count_0 7 (q := (57, .aload_n 0, 1)) rfl
theorem dX12_count_58 : decode cX12_count 58 = .ok (.getfield 160, 3) := dget daX12_count_0 8 (q := (58, .getfield 160, 3)) rfl
theorem dX12_count_61 : decode cX12_count 61 = .ok (.ireturn, 1) := dget daX12_count_0 9 (q := (61, .ireturn, 1)) rfl
theorem dX12_count_62 : decode cX12_count 62 = .ok (.iconst 0, 1) := dget daX12_count_0 10 (q := (62, .iconst 0, 1)) rfl
theorem dX12_count_63 : decode cX12_count 63 = .ok (.istore_n 3, 1) := dget daX12_count_0 11 (q := (63, .istore_n 3, 1)) rfl
theorem dX12_count_64 : decode cX12_count 64 = .ok (.iload_n 3, 1) := dget daX12_count_0 12 (q := (64, .iload_n 3, 1)) rfl
theorem dX12_count_65 : decode cX12_count 65 = .ok (.aload_n 0, 1) := dget daX12_count_0 13 (q := (65, .aload_n 0, 1)) rfl
theorem dX12_count_66 : decode cX12_count 66 = .ok (.getfield 160, 3) := dget daX12_count_0 14 (q := (66, .getfield 160, 3)) rfl
theorem dX12_count_69 : decode cX12_count 69 = .ok (.if_icmp .ge 26, 3) := dget daX12_count_0 15 (q := (69, .if_icmp .ge 26, 3)) rfl
theorem dX12_count_72 : decode cX12_count 72 = .ok (.iload_n 2, 1) := dget daX12_count_0 16 (q := (72, .iload_n 2, 1)) rfl
theorem dX12_count_73 : decode cX12_count 73 = .ok (.aload_n 0, 1) := dget daX12_count_0 17 (q := (73, .aload_n 0, 1)) rfl
theorem dX12_count_74 : decode cX12_count 74 = .ok (.getfield 40, 3) := dget daX12_count_0 18 (q := (74, .getfield 40, 3)) rfl
theorem dX12_count_77 : decode cX12_count 77 = .ok (.iload_n 3, 1) := dget daX12_count_0 19 (q := (77, .iload_n 3, 1)) rfl
theorem dX12_count_78 : decode cX12_count 78 = .ok (.baload, 1) := dget daX12_count_0 20 (q := (78, .baload, 1)) rfl
theorem dX12_count_79 : decode cX12_count 79 = .ok (.ifCond .eq 7, 3) := dget daX12_count_0 21 (q := (79, .ifCond .eq 7, 3)) rfl
theorem dX12_count_82 : decode cX12_count 82 = .ok (.iconst 1, 1) := dget daX12_count_0 22 (q := (82, .iconst 1, 1)) rfl
theorem dX12_count_83 : decode cX12_count 83 = .ok (.goto 4, 3) := dget daX12_count_0 23 (q := (83, .goto 4, 3)) rfl
theorem dX12_count_86 : decode cX12_count 86 = .ok (.iconst 0, 1) := dget daX12_count_0 24 (q := (86, .iconst 0, 1)) rfl
theorem dX12_count_87 : decode cX12_count 87 = .ok (.iadd, 1) := dget daX12_count_0 25 (q := (87, .iadd, 1)) rfl
theorem dX12_count_88 : decode cX12_count 88 = .ok (.istore_n 2, 1) := dget daX12_count_0 26 (q := (88, .istore_n 2, 1)) rfl
theorem dX12_count_89 : decode cX12_count 89 = .ok (.iinc 3 1, 3) := dget daX12_count_0 27 (q := (89, .iinc 3 1, 3)) rfl
theorem dX12_count_92 : decode cX12_count 92 = .ok (.goto (-28), 3) := dget daX12_count_0 28 (q := (92, .goto (-28), 3)) rfl
theorem dX12_count_95 : decode cX12_count 95 = .ok (.iload_n 2, 1) := dget daX12_count_0 29 (q := (95, .iload_n 2, 1)) rfl
theorem dX12_count_96 : decode cX12_count 96 = .ok (.ireturn, 1) := dget daX12_count_0 30 (q := (96, .ireturn, 1)) rfl
theorem dX12_count_97 : decode cX12_count 97 = .ok (.aload_n 0, 1) := dget daX12_count_0 31 (q := (97, .aload_n 0, 1)) rfl
theorem dX12_count_98 : decode cX12_count 98 = .ok (.getfield 223, 3) := dget daX12_count_0 32 (q := (98, .getfield 223, 3)) rfl
theorem dX12_count_101 : decode cX12_count 101 = .ok (.ireturn, 1) := dget daX12_count_0 33 (q := (101, .ireturn, 1)) rfl
theorem dX12_count_102 : decode cX12_count 102 = .ok (.aload_n 0, 1) := dget daX12_count_0 34 (q := (102, .aload_n 0, 1)) rfl
theorem dX12_count_103 : decode cX12_count 103 = .ok (.getfield 247, 3) := dget daX12_count_0 35 (q := (103, .getfield 247, 3)) rfl
theorem dX12_count_106 : decode cX12_count 106 = .ok (.ireturn, 1) := dget daX12_count_0 36 (q := (106, .ireturn, 1)) rfl
theorem dX12_count_107 : decode cX12_count 107 = .ok (.aload_n 0, 1) := dget daX12_count_0 37 (q := (107, .aload_n 0, 1)) rfl
theorem dX12_count_108 : decode cX12_count 108 = .ok (.getfield 275, 3) := dget daX12_count_0 38 (q := (108, .getfield 275, 3)) rfl
theorem dX12_count_111 : decode cX12_count 111 = .ok (.ireturn, 1) := dget daX12_count_0 39 (q := (111, .ireturn, 1)) rfl
def tdaX12_count_1 : List (Nat × (Instr × Nat)) := [(112, .iconst 0, 1), (113, .istore_n 3, 1), (114, .iload_n 3, 1), (115, .aload_n 0, 1), (116, .getfield 275, 3), (119, .if_icmp .ge 25, 3), (122, .iload_n 2, 1), (123, .aload_n 0, 1), (124, .iload_n 3, 1), (125, .invokevirtual 278, 3), (128, .ifCond .eq 7, 3), (131, .iconst 1, 1), (132, .goto 4, 3), (135, .iconst 0, 1), (136, .iadd, 1), (137, .istore_n 2, 1), (138, .iinc 3 1, 3), (141, .goto (-27), 3), (144, .iload_n 2, 1), (145, .ireturn, 1), (146, .aload_n 0, 1), (147, .getfield 300, 3), (150, .ireturn, 1), (151, .aload_n 0, 1), (152, .getfield 175, 3), (155, .ireturn, 1), (156, .iload_n 1, 1), (157, .bipush 11, 2), (159, .bipush 16, 2), (161, .invokestatic 156, 3), (164, .ifCond .eq 15, 3), (167, .aload_n 0, 1), (168, .getfield 56, 3), (171, .iload_n 1, 1), (172, .bipush 10, 2), (174, .isub, 1), (175, .iaload, 1), (176, .goto 5, 3), (179, .bipush (-9), 2), (181, .ireturn, 1)]
theorem daX12_count_1 : tdaX12_count_1.all (fun q => decide (decode cX12_count q.1 = .ok q.2)) = true := by decide +kernel
theorem dX12_count_112 : decode cX12_count 112 = .ok (.iconst 0, 1) := dget daX12_count_1 0 (q := (112, .iconst 0, 1)) rfl
theorem dX12_count_113 : decode cX12_count 113 = .ok (.istore_n 3, 1) := dget daX12_count_1 1 (q := (113, .istore_n 3, 1)) rfl
theorem dX12_count_114 : decode cX12_count 114 = .ok (.iload_n 3, 1) := dget daX12_count_1 2 (q := (114, .iload_n 3, 1)) rfl
theorem dX12_count_115 : decode cX12_count 115 = .ok (.aload_n 0, 1) := dget daX12_count_1 3 (q := (115, .aload_n 0, 1)) rfl
theorem dX12_count_116 : decode cX12_count 116 = .ok (.getfield 275, 3) := dget daX12_count_1 4 (q := (116, .getfield 275, 3)) rfl
theorem dX12_count_119 : decode cX12_count 119 = .ok (.if_icmp .ge 25, 3) := dget daX12_count_1 5 (q := (119, .if_icmp .ge 25, 3)) rfl
theorem dX12_count_122 : decode cX12_count 122 = .ok (.iload_n 2, 1) := dget daX12_count_1 6 (q := (122, .iload_n 2, 1)) rfl
theorem dX12_count_123 : decode cX12_count 123 = .ok (.aload_n 0, 1) := dget daX12_count_1 7 (q := (123, .aload_n 0, 1)) rfl
theorem dX12_count_124 : decode cX12_count 124 = .ok (.iload_n 3, 1) := dget daX12_count_1 8 (q := (124, .iload_n 3, 1)) rfl
theorem dX12_count_125 : decode cX12_count 125 = .ok (.invokevirtual 278, 3) := dget daX12_count_1 9 (q := (125, .invokevirtual 278, 3)) rfl
theorem dX12_count_128 : decode cX12_count 128 = .ok (.ifCond .eq 7, 3) := dget daX12_count_1 10 (q := (128, .ifCond .eq 7, 3)) rfl
theorem dX12_count_131 : decode cX12_count 131 = .ok (.iconst 1, 1) := dget daX12_count_1 11 (q := (131, .iconst 1, 1)) rfl
theorem dX12_count_132 : decode cX12_count 132 = .ok (.goto 4, 3) := dget daX12_count_1 12 (q := (132, .goto 4, 3)) rfl
theorem dX12_count_135 : decode cX12_count 135 = .ok (.iconst 0, 1) := dget daX12_count_1 13 (q := (135, .iconst 0, 1)) rfl
theorem dX12_count_136 : decode cX12_count 136 = .ok (.iadd, 1) := dget daX12_count_1 14 (q := (136, .iadd, 1)) rfl
theorem dX12_count_137 : decode cX12_count 137 = .ok (.istore_n 2, 1) := dget daX12_count_1 15 (q := (137, .istore_n 2, 1)) rfl
theorem dX12_count_138 : decode cX12_count 138 = .ok (.iinc 3 1, 3) := dget daX12_count_1 16 (q := (138, .iinc 3 1, 3)) rfl
theorem dX12_count_141 : decode cX12_count 141 = .ok (.goto (-27), 3) := dget daX12_count_1 17 (q := (141, .goto (-27), 3)) rfl
theorem dX12_count_144 : decode cX12_count 144 = .ok (.iload_n 2, 1) := dget daX12_count_1 18 (q := (144, .iload_n 2, 1)) rfl
theorem dX12_count_145 : decode cX12_count 145 = .ok (.ireturn, 1) := dget daX12_count_1 19 (q := (145, .ireturn, 1)) rfl
theorem dX12_count_146 : decode cX12_count 146 = .ok (.aload_n 0, 1) := dget daX12_count_1 20 (q := (146, .aload_n 0, 1)) rfl
theorem dX12_count_147 : decode cX12_count 147 = .ok (.getfield 300, 3) := dget daX12_count_1 21 (q := (147, .getfield 300, 3)) rfl
theorem dX12_count_150 : decode cX12_count 150 = .ok (.ireturn, 1) := dget daX12_count_1 22 (q := (150, .ireturn, 1)) rfl
theorem dX12_count_151 : decode cX12_count 151 = .ok (.aload_n 0, 1) := dget daX12_count_1 23 (q := (151, .aload_n 0, 1)) rfl
theorem dX12_count_152 : decode cX12_count 152 = .ok (.getfield 175, 3) := dget daX12_count_1 24 (q := (152, .getfield 175, 3)) rfl
theorem dX12_count_155 : decode cX12_count 155 = .ok (.ireturn, 1) := dget daX12_count_1 25 (q := (155, .ireturn, 1)) rfl
theorem dX12_count_156 : decode cX12_count 156 = .ok (.iload_n 1, 1) := dget daX12_count_1 26 (q := (156, .iload_n 1, 1)) rfl
theorem dX12_count_157 : decode cX12_count 157 = .ok (.bipush 11, 2) := dget daX12_count_1 27 (q := (157, .bipush 11, 2)) rfl
theorem dX12_count_159 : decode cX12_count 159 = .ok (.bipush 16, 2) := dget daX12_count_1 28 (q := (159, .bipush 16, 2)) rfl
theorem dX12_count_161 : decode cX12_count 161 = .ok (.invokestatic 156, 3) := dget daX12_count_1 29 (q := (161, .invokestatic 156, 3)) rfl
theorem dX12_count_164 : decode cX12_count 164 = .ok (.ifCond .eq 15, 3) := dget daX12_count_1 30 (q := (164, .ifCond .eq 15, 3)) rfl
theorem dX12_count_167 : decode cX12_count 167 = .ok (.aload_n 0, 1) := dget daX12_count_1 31 (q := (167, .aload_n 0, 1)) rfl
theorem dX12_count_168 : decode cX12_count 168 = .ok (.getfield 56, 3) := dget daX12_count_1 32 (q := (168, .getfield 56, 3)) rfl
theorem dX12_count_171 : decode cX12_count 171 = .ok (.iload_n 1, 1) := dget daX12_count_1 33 (q := (171, .iload_n 1, 1)) rfl
theorem dX12_count_172 : decode cX12_count 172 = .ok (.bipush 10, 2) := dget daX12_count_1 34 (q := (172, .bipush 10, 2)) rfl
theorem dX12_count_174 : decode cX12_count 174 = .ok (.isub, 1) := dget daX12_count_1 35 (q := (174, .isub, 1)) rfl
theorem dX12_count_175 : decode cX12_count 175 = .ok (.iaload, 1) := dget daX12_count_1 36 (q := (175, .iaload, 1)) rfl
theorem dX12_count_176 : decode cX12_count 176 = .ok (.goto 5, 3) := dget daX12_count_1 37 (q := (176, .goto 5, 3)) rfl
theorem dX12_count_179 : decode cX12_count 179 = .ok (.bipush (-9), 2) := dget daX12_count_1 38 (q := (179, .bipush (-9), 2)) rfl
theorem dX12_count_181 : decode cX12_count 181 = .ok (.ireturn, 1) := dget daX12_count_1 39 (q := (181, .ireturn, 1)) rfl
