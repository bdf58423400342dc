def tdaX11_countBarred_0 : List (Nat × (Instr × Nat)) := [(0, .iconst 0, 1), (1, .istore_n 1, 1), (2, .iconst 0, 1), (3, .istore_n 2, 1), (4, .iload_n 2, 1), (5, .aload_n 0, 1), (6, .getfield 47, 3), (9, .getfield 327, 3), (12, .if_icmp .ge 28, 3), (15, .aload_n 0, 1), (16, .aload_n 0, 1), (17, .getfield 47, 3), (20, .getfield 390, 3), (23, .iload_n 2, 1), (24, .aaload, 1), (25, .invokevirtual 274, 3), (28, .ifCond .eq 6, 3), (31, .iinc 1 1, 3), (34, .iinc 2 1, 3), (37, .goto (-33), 3), (40, .iload_n 1, 1), (41, .ireturn, 1)]
theorem daX11_countBarred_0 : tdaX11_countBarred_0.all (fun q => decide (decode cX11_countBarred q.1 = .ok q.2)) = true := by decide +kernel
theorem dX11_countBarred_0 : decode cX11_countBarred 0 = .ok (.iconst 0, 1) := dget daX11_countBarred_0 0 (q := (0, .iconst 0, 1)) rfl
theorem dX11_countBarred_1 : decode cX11_countBarred 1 = .ok (.istore_n 1, 1) := dget daX11_countBarred_0 1 (q := (1, .istore_n 1, 1)) rfl
theorem dX11_countBarred_2 : decode cX11_countBarred 2 = .ok (.iconst 0, 1) := dget daX11_countBarred_0 2 (q := (2, .iconst 0, 1)) rfl
theorem dX11_countBarred_3 : decode cX11_countBarred 3 = .ok (.istore_n 2, 1) := dget daX11_countBarred_0 3 (q := (3, .istore_n 2, 1)) rfl
theorem dX11_countBarred_4 : decode cX11_countBarred 4 = .ok (.iload_n 2, 1) := dget daX11_countBarred_0 4 (q := (4, .iload_n 2, 1)) rfl
theorem dX11_countBarred_5 : decode cX11_countBarred 5 = .ok (.aload_n 0, 1) := dget daX11_countBarred_0 5 (q := (5, .aload_n 0, 1)) rfl
theorem dX11_countBarred_6 : decode cX11_countBarred 6 = .ok (.getfield 47, 3) := dget daX11_countBarred_0 6 (q := (6, .getfield 47, 3)) rfl
theorem dX11_countBarred_9 : decode cX11_countBarred 9 = .ok (.getfield 327, 3) := dget daX11_countBarred_0 7 (q := (9, .getfield 327, 3)) rfl
theorem dX11_countBarred_12 : decode cX11_countBarred 12 = .ok (.if_icmp .ge 28, 3) := dget daX11_countBarred_0 8 (q := (12, .if_icmp .ge 28, 3)) rfl
theorem dX11_countBarred_15 : decode cX11_countBarred 15 = .ok (.aload_n 0, 1) := dget daX11_countBarred_0 9 (q := (15, .aload_n 0, 1)) rfl
theorem dX11_countBarred_16 : decode cX11_countBarred 16 = .ok (.aload_n 0, 1) := dget daX11_countBarred_0 10 (q := (16, .aload_n 0, 1)) rfl
theorem dX11_countBarred_17 : decode cX11_countBarred 17 = .ok (.getfield 47, 3) := dget daX11_countBarred_0 11 (q := (17, .getfield 47, 3)) rfl
theorem dX11_countBarred_20 : decode cX11_countBarred 20 = .ok (.getfield 390, 3) := dget daX11_countBarred_0 12 (q := (20, .getfield 390, 3)) rfl
theorem dX11_countBarred_23 : decode cX11_countBarred 23 = .ok (.iload_n 2, 1) := dget daX11_countBarred_0 13 (q := (23, .iload_n 2, 1)) rfl
theorem dX11_countBarred_24 : decode cX11_countBarred 24 = .ok (.aaload, 1) := dget daX11_countBarred_0 14 (q := (24, .aaload, 1)) rfl
theorem dX11_countBarred_25 : decode cX11_countBarred 25 = .ok (.invokevirtual 274, 3) := dget daX11_countBarred_0 15 (q := (25, .invokevirtual 274, 3)) rfl
theorem dX11_countBarred_28 : decode cX11_countBarred 28 = .ok (.ifCond .eq 6, 3) := dget daX11_countBarred_0 16 (q := (28, .ifCond .eq 6, 3)) rfl
theorem dX11_countBarred_31 : decode cX11_countBarred 31 = .ok (.iinc 1 1, 3) := dget daX11_countBarred_0 17 (q := (31, .iinc 1 1, 3)) rfl
theorem dX11_countBarred_34 : decode cX11_countBarred 34 = .ok (.iinc 2 1, 3) := dget daX11_countBarred_0 18 (q := (34, .iinc 2 1, 3)) rfl
theorem dX11_countBarred_37 : decode cX11_countBarred 37 = .ok (.goto (-33), 3) := dget daX11_countBarred_0 19 (q := (37, .goto (-33), 3)) rfl
theorem dX11_countBarred_40 : decode cX11_countBarred 40 = .ok (.iload_n 1, 1) := dget daX11_countBarred_0 20 (q := (40, .iload_n 1, 1)) rfl
theorem dX11_countBarred_41 : decode cX11_countBarred 41 = .ok (.ireturn, 1) := dget daX11_countBarred_0 21 (q := (41, .ireturn, 1)) rfl
def tdaX11_settleUp_0 : List (Nat × (Instr × Nat)) := [(0, .aload_n 0, 1), (1, .getfield 47, 3), (4, .getfield 298, 3), (7, .iconst 0, 1), (8, .invokestatic 394, 3), (11, .iconst 0, 1), (12, .istore_n 1, 1), (13, .iload_n 1, 1), (14, .aload_n 0, 1), (15, .getfield 47, 3), (18, .getfield 327, 3), (21, .if_icmp .ge 42, 3), (24, .aload_n 0, 1), (25, .getfield 47, 3), (28, .getfield 390, 3), (31, .iload_n 1, 1), (32, .aaload, 1), (33, .astore_n 2, 1), (34, .aload_n 0, 1), (35, .aload_n 2, 1), (36, .invokevirtual 278, 3), (39, .istore_n 3, 1), (40, .aload_n 2, 1), (41, .getfield 282, 3), (44, .iload_n 3, 1), (45, .if_icmp .lt 12, 3), (48, .aload_n 0, 1), (49, .getfield 47, 3), (52, .aload_n 2, 1), (53, .iload_n 3, 1), (54, .invokevirtual 400, 3), (57, .iinc 1 1, 3), (60, .goto (-47), 3), (63, .return_, 1)]
theorem daX11_settleUp_0 : tdaX11_settleUp_0.all (fun q => decide (decode cX11_settleUp q.1 = .ok q.2)) = true := by decide +kernel
theorem dX11_settleUp_0 : decode cX11_settleUp 0 = .ok (.aload_n 0, 1) := dget daX11_settleUp_0 0 (q := (0, .aload_n 0, 1)) rfl
theorem dX11_settleUp_1 : decode cX11_settleUp 1 = .ok (.getfield 47, 3) := dget daX11_settleUp_0 1 (q := (1, .getfield 47, 3)) rfl
theorem dX11_settleUp_4 : decode cX11_settleUp 4 = .ok (.getfield 298, 3) := dget daX11_settleUp_0 2 (q := (4, .getfield 298, 3)) rfl
theorem dX11_settleUp_7 : decode cX11_settleUp 7 = .ok (.iconst 0, 1) := dget daX11_settleUp_0 3 (q := (7, .iconst 0, 1)) rfl
theorem dX11_settleUp_8 : decode cX11_settleUp 8 = .ok (.invokestatic 394, 3) := dget daX11_settleUp_0 4 (q := (8, .invokestatic 394, 3)) rfl
theorem dX11_settleUp_11 : decode cX11_settleUp 11 = .ok (.iconst 0, 1) := dget daX11_settleUp_0 5 (q := (11, .iconst 0, 1)) rfl
theorem dX11_settleUp_12 : decode cX11_settleUp 12 = .ok (.istore_n 1, 1) := dget daX11_settleUp_0 6 (q := (12, .istore_n 1, 1)) rfl
theorem dX11_settleUp_13 : decode cX11_settleUp 13 = .ok (.iload_n 1, 1) := dget daX11_settleUp_0 7 (q := (13, .iload_n 1, 1)) rfl
theorem dX11_settleUp_14 : decode cX11_settleUp 14 = .ok (.aload_n 0, 1) := dget daX11_settleUp_0 8 (q := (14, .aload_n 0, 1)) rfl
theorem dX11_settleUp_15 : decode cX11_settleUp 15 = .ok (.getfield 47, 3) := dget daX11_settleUp_0 9 (q := (15, .getfield 47, 3)) rfl
theorem dX11_settleUp_18 : decode cX11_settleUp 18 = .ok (.getfield 327, 3) := dget daX11_settleUp_0 10 (q := (18, .getfield 327, 3)) rfl
theorem dX11_settleUp_21 : decode cX11_settleUp 21 = .ok (.if_icmp .ge 42, 3) := dget daX11_settleUp_0 11 (q := (21, .if_icmp .ge 42, 3)) rfl
theorem dX11_settleUp_24 : decode cX11_settleUp 24 = .ok (.aload_n 0, 1) := dget daX11_settleUp_0 12 (q := (24, .aload_n 0, 1)) rfl
theorem dX11_settleUp_25 : decode cX11_settleUp 25 = .ok (.getfield 47, 3) := dget daX11_settleUp_0 13 (q := (25, .getfield 47, 3)) rfl
theorem dX11_settleUp_28 : decode cX11_settleUp 28 = .ok (.getfield 390, 3) := dget daX11_settleUp_0 14 (q := (28, .getfield 390, 3)) rfl
theorem dX11_settleUp_31 : decode cX11_settleUp 31 = .ok (.iload_n 1, 1) := dget daX11_settleUp_0 15 (q := (31, .iload_n 1, 1)) rfl
theorem dX11_settleUp_32 : decode cX11_settleUp 32 = .ok (.aaload, 1) := dget daX11_settleUp_0 16 (q := (32, .aaload, 1)) rfl
theorem dX11_settleUp_33 : decode cX11_settleUp 33 = .ok (.astore_n 2, 1) := dget daX11_settleUp_0 17 (q := (33, .astore_n 2, 1)) rfl
theorem dX11_settleUp_34 : decode cX11_settleUp 34 = .ok (.aload_n 0, 1) := dget daX11_settleUp_0 18 (q := (34, .aload_n 0, 1)) rfl
theorem dX11_settleUp_35 : decode cX11_settleUp 35 = .ok (.aload_n 2, 1) := dget daX11_settleUp_0 19 (q := (35, .aload_n 2, 1)) rfl
theorem dX11_settleUp_36 : decode cX11_settleUp 36 = .ok (.invokevirtual 278, 3) := dget daX11_settleUp_0 20 (q := (36, .invokevirtual 278, 3)) rfl
theorem dX11_settleUp_39 : decode cX11_settleUp 39 = .ok (.istore_n 3, 1) := dget daX11_settleUp_0 21 (q := (39, .istore_n 3, 1)) rfl
theorem dX11_settleUp_40 : decode cX11_settleUp 40 = .ok (.aload_n 2, 1) := dget daX11_settleUp_0 22 (q := (40, .aload_n 2, 1)) rfl
theorem dX11_settleUp_41 : decode cX11_settleUp 41 = .ok (.getfield 282, 3) := dget daX11_settleUp_0 23 (q := (41, .getfield 282, 3)) rfl
theorem dX11_settleUp_44 : decode cX11_settleUp 44 = .ok (.iload_n 3, 1) := dget daX11_settleUp_0 24 (q := (44, .iload_n 3, 1)) rfl
theorem dX11_settleUp_45 : decode cX11_settleUp 45 = .ok (.if_icmp .lt 12, 3) := dget daX11_settleUp_0 25 (q := (45, .if_icmp .lt 12, 3)) rfl
theorem dX11_settleUp_48 : decode cX11_settleUp 48 = .ok (.aload_n 0, 1) := dget daX11_settleUp_0 26 (q := (48, .aload_n 0, 1)) rfl
theorem dX11_settleUp_49 : decode cX11_settleUp 49 = .ok (.getfield 47, 3) := dget daX11_settleUp_0 27 (q := (49, .getfield 47, 3)) rfl
theorem dX11_settleUp_52 : decode cX11_settleUp 52 = .ok (.aload_n 2, 1) := dget daX11_settleUp_0 28 (q := (52, .aload_n 2, 1)) rfl
theorem dX11_settleUp_53 : decode cX11_settleUp 53 = .ok (.iload_n 3, 1) := dget daX11_settleUp_0 29 (q := (53, .iload_n 3, 1)) rfl
theorem dX11_settleUp_54 : decode cX11_settleUp 54 = .ok (.invokevirtual 400, 3) := dget daX11_settleUp_0 30 (q := (54, .invokevirtual 400, 3)) rfl
theorem dX11_settleUp_57 : decode cX11_settleUp 57 = .ok (.iinc 1 1, 3) := dget daX11_settleUp_0 31 (q := (57, .iinc 1 1, 3)) rfl
theorem dX11_settleUp_60 : decode cX11_settleUp 60 = .ok (.goto (-47), 3) := dget daX11_settleUp_0 32 (q := (60, .goto (-47), 3)) rfl
theorem dX11_settleUp_63 : decode cX11_settleUp 63 = .ok (.return_, 1) := dget daX11_settleUp_0 33 (q := (63, .return_, 1)) rfl
def tdaX11_chooseLike_0 : List (Nat × (Instr × Nat)) := [(0, .aload_n 1, 1), (1, .getfield 264, 3), (4, .astore_n 2, 1), (5, .aload_n 0, 1), (6, .getfield 33, 3), (9, .aload_n 2, 1), (10, .aload_n 1, 1), (11, .getfield 271, 3), (14, .invokevirtual 236, 3), (17, .istore_n 3, 1), (18, .aload_n 0, 1), (19, .getfield 54, 3), (22, .iload_n 3, 1), (23, .aload_n 0, 1), (24, .aload_n 2, 1), (25, .invokevirtual 218, 3), (28, .aload_n 0, 1), (29, .aload_n 2, 1), (30, .invokevirtual 215, 3), (33, .aload_n 0, 1), (34, .aload_n 2, 1), (35, .invokevirtual 374, 3), (38, .invokevirtual 404, 3), (41, .aload_n 0, 1), (42, .getfield 54, 3), (45, .aload_n 0, 1), (46, .getfield 67, 3), (49, .iconst 3, 1), (50, .iaload, 1), (51, .invokevirtual 408, 3), (54, .return_, 1)]
theorem daX11_chooseLike_0 : tdaX11_chooseLike_0.all (fun q => decide (decode cX11_chooseLike q.1 = .ok q.2)) = true := by decide +kernel
theorem dX11_chooseLike_0 : decode cX11_chooseLike 0 = .ok (.aload_n 1, 1) := dget daX11_chooseLike_0 0 (q := (0, .aload_n 1, 1)) rfl
theorem dX11_chooseLike_1 : decode cX11_chooseLike 1 = .ok (.getfield 264, 3) := dget daX11_chooseLike_0 1 (q := (1, .getfield 264, 3)) rfl
theorem dX11_chooseLike_4 : decode cX11_chooseLike 4 = .ok (.astore_n 2, 1) := dget daX11_chooseLike_0 2 (q := (4, .astore_n 2, 1)) rfl
theorem dX11_chooseLike_5 : decode cX11_chooseLike 5 = .ok (.aload_n 0, 1) := dget daX11_chooseLike_0 3 (q := (5, .aload_n 0, 1)) rfl
theorem dX11_chooseLike_6 : decode cX11_chooseLike 6 = .ok (.getfield 33, 3) := dget daX11_chooseLike_0 4 (q := (6, .getfield 33, 3)) rfl
theorem dX11_chooseLike_9 : decode cX11_chooseLike 9 = .ok (.aload_n 2, 1) := dget daX11_chooseLike_0 5 (q := (9, .aload_n 2, 1)) rfl
theorem dX11_chooseLike_10 : decode cX11_chooseLike 10 = .ok (.aload_n 1, 1) := dget daX11_chooseLike_0 6 (q := (10, .aload_n 1, 1)) rfl
theorem dX11_chooseLike_11 : decode cX11_chooseLike 11 = .ok (.getfield 271, 3) := dget daX11_chooseLike_0 7 (q := (11, .getfield 271, 3)) rfl
theorem dX11_chooseLike_14 : decode cX11_chooseLike 14 = .ok (.invokevirtual 236, 3) := dget daX11_chooseLike_0 8 (q := (14, .invokevirtual 236, 3)) rfl
theorem dX11_chooseLike_17 : decode cX11_chooseLike 17 = .ok (.istore_n 3, 1) := dget daX11_chooseLike_0 9 (q := (17, .istore_n 3, 1)) rfl
theorem dX11_chooseLike_18 : decode cX11_chooseLike 18 = .ok (.aload_n 0, 1) := dget daX11_chooseLike_0 10 (q := (18, .aload_n 0, 1)) rfl
theorem dX11_chooseLike_19 : decode cX11_chooseLike 19 = .ok (.getfield 54, 3) := dget daX11_chooseLike_0 11 (q := (19, .getfield 54, 3)) rfl
theorem dX11_chooseLike_22 : decode cX11_chooseLike 22 = .ok (.iload_n 3, 1) := dget daX11_chooseLike_0 12 (q := (22, .iload_n 3, 1)) rfl
theorem dX11_chooseLike_23 : decode cX11_chooseLike 23 = .ok (.aload_n 0, 1) := dget daX11_chooseLike_0 13 (q := (23, .aload_n 0, 1)) rfl
theorem dX11_chooseLike_24 : decode cX11_chooseLike 24 = .ok (.aload_n 2, 1) := dget daX11_chooseLike_0 14 (q := (24, .aload_n 2, 1)) rfl
theorem dX11_chooseLike_25 : decode cX11_chooseLike 25 = .ok (.invokevirtual 218, 3) := dget daX11_chooseLike_0 15 (q := (25, .invokevirtual 218, 3)) rfl
theorem dX11_chooseLike_28 : decode cX11_chooseLike 28 = .ok (.aload_n 0, 1) := dget daX11_chooseLike_0 16 (q := (28, .aload_n 0, 1)) rfl
theorem dX11_chooseLike_29 : decode cX11_chooseLike 29 = .ok (.aload_n 2, 1) := dget daX11_chooseLike_0 17 (q := (29, .aload_n 2, 1)) rfl
theorem dX11_chooseLike_30 : decode cX11_chooseLike 30 = .ok (.invokevirtual 215, 3) := dget daX11_chooseLike_0 18 (q := (30, .invokevirtual 215, 3)) rfl
theorem dX11_chooseLike_33 : decode cX11_chooseLike 33 = .ok (.aload_n 0, 1) := dget daX11_chooseLike_0 19 (q := (33, .aload_n 0, 1)) rfl
theorem dX11_chooseLike_34 : decode cX11_chooseLike 34 = .ok (.aload_n 2, 1) := dget daX11_chooseLike_0 20 (q := (34, .aload_n 2, 1)) rfl
theorem dX11_chooseLike_35 : decode cX11_chooseLike 35 = .ok (.invokevirtual 374, 3) := dget daX11_chooseLike_0 21 (q := (35, .invokevirtual 374, 3)) rfl
theorem dX11_chooseLike_38 : decode cX11_chooseLike 38 = .ok (.invokevirtual 404, 3) := dget daX11_chooseLike_0 22 (q := (38, .invokevirtual 404, 3)) rfl
theorem dX11_chooseLike_41 : decode cX11_chooseLike 41 = .ok (.aload_n 0, 1) := dget daX11_chooseLike_0 23 (q := (41, .aload_n 0, 1)) rfl
theorem dX11_chooseLike_42 : decode cX11_chooseLike 42 = .ok (.getfield 54, 3) := dget daX11_chooseLike_0 24 (q := (42, .getfield 54, 3)) rfl
theorem dX11_chooseLike_45 : decode cX11_chooseLike 45 = .ok (.aload_n 0, 1) := dget daX11_chooseLike_0 25 (q := (45, .aload_n 0, 1)) rfl
theorem dX11_chooseLike_46 : decode cX11_chooseLike 46 = .ok (.getfield 67, 3) := dget daX11_chooseLike_0 26 (q := (46, .getfield 67, 3)) rfl
theorem dX11_chooseLike_49 : decode cX11_chooseLike 49 = .ok (.iconst 3, 1) := dget daX11_chooseLike_0 27 (q := (49, .iconst 3, 1)) rfl
theorem dX11_chooseLike_50 : decode cX11_chooseLike 50 = .ok (.iaload, 1) := dget daX11_chooseLike_0 28 (q := (50, .iaload, 1)) rfl
theorem dX11_chooseLike_51 : decode cX11_chooseLike 51 = .ok (.invokevirtual 408, 3) := dget daX11_chooseLike_0 29 (q := (51, .invokevirtual 408, 3)) rfl
theorem dX11_chooseLike_54 : decode cX11_chooseLike 54 = .ok (.return_, 1) := dget daX11_chooseLike_0 30 (q := (54, .return_, 1)) rfl
def tdaJ9_abs_0f7a4_0 : List (Nat × (Instr × Nat)) := [(0, .iload_n 0, 1), (1, .ifCond .ge 8, 3), (4, .iload_n 0, 1), (5, .ineg, 1), (6, .goto 4, 3), (9, .iload_n 0, 1), (10, .ireturn, 1)]
theorem daJ9_abs_0f7a4_0 : tdaJ9_abs_0f7a4_0.all (fun q => decide (decode cJ9_abs_0f7a4 q.1 = .ok q.2)) = true := by decide +kernel
theorem dJ9_abs_0f7a4_0 : decode cJ9_abs_0f7a4 0 = .ok (.iload_n 0, 1) := dget daJ9_abs_0f7a4_0 0 (q := (0, .iload_n 0, 1)) rfl
theorem dJ9_abs_0f7a4_1 : decode cJ9_abs_0f7a4 1 = .ok (.ifCond .ge 8, 3) := dget daJ9_abs_0f7a4_0 1 (q := (1, .ifCond .ge 8, 3)) rfl
theorem dJ9_abs_0f7a4_4 : decode cJ9_abs_0f7a4 4 = .ok (.iload_n 0, 1) := dget daJ9_abs_0f7a4_0 2 (q := (4, .iload_n 0, 1)) rfl
theorem dJ9_abs_0f7a4_5 : decode cJ9_abs_0f7a4 5 = .ok (.ineg, 1) := dget daJ9_abs_0f7a4_0 3 (q := (5, .ineg, 1)) rfl
theorem dJ9_abs_0f7a4_6 : decode cJ9_abs_0f7a4 6 = .ok (.goto 4, 3) := dget daJ9_abs_0f7a4_0 4 (q := (6, .goto 4, 3)) rfl
theorem dJ9_abs_0f7a4_9 : decode cJ9_abs_0f7a4 9 = .ok (.iload_n 0, 1) := dget daJ9_abs_0f7a4_0 5 (q := (9, .iload_n 0, 1)) rfl
theorem dJ9_abs_0f7a4_10 : decode cJ9_abs_0f7a4 10 = .ok (.ireturn, 1) := dget daJ9_abs_0f7a4_0 6 (q := (10, .ireturn, 1)) rfl
def tdaJ9_max_7cf53_0 : List (Nat × (Instr × Nat)) := [(0, .iload_n 0, 1), (1, .iload_n 1, 1), (2, .if_icmp .lt 7, 3), (5, .iload_n 0, 1), (6, .goto 4, 3), (9, .iload_n 1, 1), (10, .ireturn, 1)]
theorem daJ9_max_7cf53_0 : tdaJ9_max_7cf53_0.all (fun q => decide (decode cJ9_max_7cf53 q.1 = .ok q.2)) = true := by decide +kernel
theorem dJ9_max_7cf53_0 : decode cJ9_max_7cf53 0 = .ok (.iload_n 0, 1) := dget daJ9_max_7cf53_0 0 (q := (0, .iload_n 0, 1)) rfl
theorem dJ9_max_7cf53_1 : decode cJ9_max_7cf53 1 = .ok (.iload_n 1, 1) := dget daJ9_max_7cf53_0 1 (q := (1, .iload_n 1, 1)) rfl
theorem dJ9_max_7cf53_2 : decode cJ9_max_7cf53 2 = .ok (.if_icmp .lt 7, 3) := dget daJ9_max_7cf53_0 2 (q := (2, .if_icmp .lt 7, 3)) rfl
theorem dJ9_max_7cf53_5 : decode cJ9_max_7cf53 5 = .ok (.iload_n 0, 1) := dget daJ9_max_7cf53_0 3 (q := (5, .iload_n 0, 1)) rfl
theorem dJ9_max_7cf53_6 : decode cJ9_max_7cf53 6 = .ok (.goto 4, 3) := dget daJ9_max_7cf53_0 4 (q := (6, .goto 4, 3)) rfl
theorem dJ9_max_7cf53_9 : decode cJ9_max_7cf53 9 = .ok (.iload_n 1, 1) := dget daJ9_max_7cf53_0 5 (q := (9, .iload_n 1, 1)) rfl
theorem dJ9_max_7cf53_10 : decode cJ9_max_7cf53 10 = .ok (.ireturn, 1) := dget daJ9_max_7cf53_0 6 (q := (10, .ireturn, 1)) rfl
def tdaJ9_min_7cf53_0 : List (Nat × (Instr × Nat)) := [(0, .iload_n 0, 1), (1, .iload_n 1, 1), (2, .if_icmp .gt 7, 3), (5, .iload_n 0, 1), (6, .goto 4, 3), (9, .iload_n 1, 1), (10, .ireturn, 1)]
theorem daJ9_min_7cf53_0 : tdaJ9_min_7cf53_0.all (fun q => decide (decode cJ9_min_7cf53 q.1 = .ok q.2)) = true := by decide +kernel
theorem dJ9_min_7cf53_0 : decode cJ9_min_7cf53 0 = .ok (.iload_n 0, 1) := dget daJ9_min_7cf53_0 0 (q := (0, .iload_n 0, 1)) rfl
theorem dJ9_min_7cf53_1 : decode cJ9_min_7cf53 1 = .ok (.iload_n 1, 1) := dget daJ9_min_7cf53_0 1 (q := (1, .iload_n 1, 1)) rfl
theorem dJ9_min_7cf53_2 : decode cJ9_min_7cf53 2 = .ok (.if_icmp .gt 7, 3) := dget daJ9_min_7cf53_0 2 (q := (2, .if_icmp .gt 7, 3)) rfl
theorem dJ9_min_7cf53_5 : decode cJ9_min_7cf53 5 = .ok (.iload_n 0, 1) := dget daJ9_min_7cf53_0 3 (q := (5, .iload_n 0, 1)) rfl
theorem dJ9_min_7cf53_6 : decode cJ9_min_7cf53 6 = .ok (.goto 4, 3) := dget daJ9_min_7cf53_0 4 (q := (6, .goto 4, 3)) rfl
theorem dJ9_min_7cf53_9 : decode cJ9_min_7cf53 9 = .ok (.iload_n 1, 1) := dget daJ9_min_7cf53_0 5 (q := (9, .iload_n 1, 1)) rfl
theorem dJ9_min_7cf53_10 : decode cJ9_min_7cf53 10 = .ok (.ireturn, 1) := dget daJ9_min_7cf53_0 6 (q := (10, .ireturn, 1)) rfl
def tdaJ7_fill_53178_0 : List (Nat × (Instr × Nat)) := [(0, .iconst 0, 1), (1, .istore_n 2, 1), (2, .aload_n 0, 1), (3, .arraylength, 1), (4, .istore_n 3, 1), (5, .iload_n 2, 1), (6, .iload_n 3, 1), (7, .if_icmp .ge 13, 3), (10, .aload_n 0, 1), (11, .iload_n 2, 1), (12, .iload_n 1, 1), (13, .iastore, 1), (14, .iinc 2 1, 3), (17, .goto (-12), 3), (20, .return_, 1)]
theorem daJ7_fill_53178_0 : tdaJ7_fill_53178_0.all (fun q => decide (decode cJ7_fill_53178 q.1 = .ok q.2)) = true := by decide +kernel
theorem dJ7_fill_53178_0 : decode cJ7_fill_53178 0 = .ok (.iconst 0, 1) := dget daJ7_fill_53178_0 0 (q := (0, .iconst 0, 1)) rfl
theorem dJ7_fill_53178_1 : decode cJ7_fill_53178 1 = .ok (.istore_n 2, 1) := dget daJ7_fill_53178_0 1 (q := (1, .istore_n 2, 1)) rfl
theorem dJ7_fill_53178_2 : decode cJ7_fill_53178 2 = .ok (.aload_n 0, 1) := dget daJ7_fill_53178_0 2 (q := (2, .aload_n 0, 1)) rfl
theorem dJ7_fill_53178_3 : decode cJ7_fill_53178 3 = .ok (.arraylength, 1) := dget daJ7_fill_53178_0 3 (q := (3, .arraylength, 1)) rfl
theorem dJ7_fill_53178_4 : decode cJ7_fill_53178 4 = .ok (.istore_n 3, 1) := dget daJ7_fill_53178_0 4 (q := (4, .istore_n 3, 1)) rfl
theorem dJ7_fill_53178_5 : decode cJ7_fill_53178 5 = .ok (.iload_n 2, 1) := dget daJ7_fill_53178_0 5 (q := (5, .iload_n 2, 1)) rfl
theorem dJ7_fill_53178_6 : decode cJ7_fill_53178 6 = .ok (.iload_n 3, 1) := dget daJ7_fill_53178_0 6 (q := (6, .iload_n 3, 1)) rfl
theorem dJ7_fill_53178_7 : decode cJ7_fill_53178 7 = .ok (.if_icmp .ge 13, 3) := dget daJ7_fill_53178_0 7 (q := (7, .if_icmp .ge 13, 3)) rfl
theorem dJ7_fill_53178_10 : decode cJ7_fill_53178 10 = .ok (.aload_n 0, 1) := dget daJ7_fill_53178_0 8 (q := (10, .aload_n 0, 1)) rfl
theorem dJ7_fill_53178_11 : decode cJ7_fill_53178 11 = .ok (.iload_n 2, 1) := dget daJ7_fill_53178_0 9 (q := (11, .iload_n 2, 1)) rfl
theorem dJ7_fill_53178_12 : decode cJ7_fill_53178 12 = .ok (.iload_n 1, 1) := dget daJ7_fill_53178_0 10 (q := (12, .iload_n 1, 1)) rfl
theorem dJ7_fill_53178_13 : decode cJ7_fill_53178 13 = .ok (.iastore, 1) := dget daJ7_fill_53178_0 11 (q := (13, .iastore, 1)) rfl
theorem dJ7_fill_53178_14 : decode cJ7_fill_53178 14 = .ok (.iinc 2 1, 3) := dget daJ7_fill_53178_0 12 (q := (14, .iinc 2 1, 3)) rfl
theorem dJ7_fill_53178_17 : decode cJ7_fill_53178 17 = .ok (.goto (-12), 3) := dget daJ7_fill_53178_0 13 (q := (17, .goto (-12), 3)) rfl
theorem dJ7_fill_53178_20 : decode cJ7_fill_53178 20 = .ok (.return_, 1) := dget daJ7_fill_53178_0 14 (q := (20, .return_, 1)) rfl
