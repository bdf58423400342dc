def tdaX0_init_0 : List (Nat × (Instr × Nat)) := [(0, .aload_n 0, 1), (1, .invokespecial 3, 3), (4, .aload_n 0, 1), (5, .iconst 4, 1), (6, .newarray .int, 2), (8, .putfield 9, 3), (11, .aload_n 0, 1), (12, .getfield 9, 3), (15, .sipush 365, 3), (18, .invokestatic 15, 3), (21, .aload_n 0, 1), (22, .bipush 20, 2), (24, .newarray .int, 2), (26, .putfield 21, 3), (29, .aload_n 0, 1), (30, .bipush 20, 2), (32, .newarray .int, 2), (34, .putfield 24, 3), (37, .aload_n 0, 1), (38, .bipush 20, 2), (40, .newarray .int, 2), (42, .putfield 27, 3), (45, .return_, 1)]
theorem daX0_init_0 : tdaX0_init_0.all (fun q => decide (decode cX0_init q.1 = .ok q.2)) = true := by decide +kernel
theorem dX0_init_0 : decode cX0_init 0 = .ok (.aload_n 0, 1) := dget daX0_init_0 0 (q := (0, .aload_n 0, 1)) rfl
theorem dX0_init_1 : decode cX0_init 1 = .ok (.invokespecial 3, 3) := dget daX0_init_0 1 (q := (1, .invokespecial 3, 3)) rfl
theorem dX0_init_4 : decode cX0_init 4 = .ok (.aload_n 0, 1) := dget daX0_init_0 2 (q := (4, .aload_n 0, 1)) rfl
theorem dX0_init_5 : decode cX0_init 5 = .ok (.iconst 4, 1) := dget daX0_init_0 3 (q := (5, .iconst 4, 1)) rfl
theorem dX0_init_6 : decode cX0_init 6 = .ok (.newarray .int, 2) := dget daX0_init_0 4 (q := (6, .newarray .int, 2)) rfl
theorem dX0_init_8 : decode cX0_init 8 = .ok (.putfield 9, 3) := dget daX0_init_0 5 (q := (8, .putfield 9, 3)) rfl
theorem dX0_init_11 : decode cX0_init 11 = .ok (.aload_n 0, 1) := dget daX0_init_0 6 (q := (11, .aload_n 0, 1)) rfl
theorem dX0_init_12 : decode cX0_init 12 = .ok (.getfield 9, 3) := dget daX0_init_0 7 (q := (12, .getfield 9, 3)) rfl
theorem dX0_init_15 : decode cX0_init 15 = .ok (.sipush 365, 3) := dget daX0_init_0 8 (q := (15, .sipush 365, 3)) rfl
theorem dX0_init_18 : decode cX0_init 18 = .ok (.invokestatic 15, 3) := dget daX0_init_0 9 (q := (18, .invokestatic 15, 3)) rfl
theorem dX0_init_21 : decode cX0_init 21 = .ok (.aload_n 0, 1) := dget daX0_init_0 10 (q := (21, .aload_n 0, 1)) rfl
theorem dX0_init_22 : decode cX0_init 22 = .ok (.bipush 20, 2) := dget daX0_init_0 11 (q := (22, .bipush 20, 2)) rfl
theorem dX0_init_24 : decode cX0_init 24 = .ok (.newarray .int, 2) := dget daX0_init_0 12 (q := (24, .newarray .int, 2)) rfl
theorem dX0_init_26 : decode cX0_init 26 = .ok (.putfield 21, 3) := dget daX0_init_0 13 (q := (26, .putfield 21, 3)) rfl
theorem dX0_init_29 : decode cX0_init 29 = .ok (.aload_n 0, 1) := dget daX0_init_0 14 (q := (29, .aload_n 0, 1)) rfl
theorem dX0_init_30 : decode cX0_init 30 = .ok (.bipush 20, 2) := dget daX0_init_0 15 (q := (30, .bipush 20, 2)) rfl
theorem dX0_init_32 : decode cX0_init 32 = .ok (.newarray .int, 2) := dget daX0_init_0 16 (q := (32, .newarray .int, 2)) rfl
theorem dX0_init_34 : decode cX0_init 34 = .ok (.putfield 24, 3) := dget daX0_init_0 17 (q := (34, .putfield 24, 3)) rfl
theorem dX0_init_37 : decode cX0_init 37 = .ok (.aload_n 0, 1) := dget daX0_init_0 18 (q := (37, .aload_n 0, 1)) rfl
theorem dX0_init_38 : decode cX0_init 38 = .ok (.bipush 20, 2) := dget daX0_init_0 19 (q := (38, .bipush 20, 2)) rfl
theorem dX0_init_40 : decode cX0_init 40 = .ok (.newarray .int, 2) := dget daX0_init_0 20 (q := (40, .newarray .int, 2)) rfl
theorem dX0_init_42 : decode cX0_init 42 = .ok (.putfield 27, 3) := dget daX0_init_0 21 (q := (42, .putfield 27, 3)) rfl
theorem dX0_init_45 : decode cX0_init 45 = .ok (.return_, 1) := dget daX0_init_0 22 (q := (45, .return_, 1)) rfl
def tdaX0_isFull_0 : List (Nat × (Instr × Nat)) := [(0, .aload_n 0, 1), (1, .getfield 30, 3), (4, .bipush 20, 2), (6, .if_icmp .lt 7, 3), (9, .iconst 1, 1), (10, .goto 4, 3), (13, .iconst 0, 1), (14, .ireturn, 1)]
theorem daX0_isFull_0 : tdaX0_isFull_0.all (fun q => decide (decode cX0_isFull q.1 = .ok q.2)) = true := by decide +kernel
theorem dX0_isFull_0 : decode cX0_isFull 0 = .ok (.aload_n 0, 1) := dget daX0_isFull_0 0 (q := (0, .aload_n 0, 1)) rfl
theorem dX0_isFull_1 : decode cX0_isFull 1 = .ok (.getfield 30, 3) := dget daX0_isFull_0 1 (q := (1, .getfield 30, 3)) rfl
theorem dX0_isFull_4 : decode cX0_isFull 4 = .ok (.bipush 20, 2) := dget daX0_isFull_0 2 (q := (4, .bipush 20, 2)) rfl
theorem dX0_isFull_6 : decode cX0_isFull 6 = .ok (.if_icmp .lt 7, 3) := dget daX0_isFull_0 3 (q := (6, .if_icmp .lt 7, 3)) rfl
theorem dX0_isFull_9 : decode cX0_isFull 9 = .ok (.iconst 1, 1) := dget daX0_isFull_0 4 (q := (9, .iconst 1, 1)) rfl
theorem dX0_isFull_10 : decode cX0_isFull 10 = .ok (.goto 4, 3) := dget daX0_isFull_0 5 (q := (10, .goto 4, 3)) rfl
theorem dX0_isFull_13 : decode cX0_isFull 13 = .ok (.iconst 0, 1) := dget daX0_isFull_0 6 (q := (13, .iconst 0, 1)) rfl
theorem dX0_isFull_14 : decode cX0_isFull 14 = .ok (.ireturn, 1) := dget daX0_isFull_0 7 (q := (14, .ireturn, 1)) rfl
def tdaX0_addStop_0 : List (Nat × (Instr × Nat)) := [(0, .aload_n 0, 1), (1, .getfield 21, 3), (4, .aload_n 0, 1), (5, .getfield 30, 3), (8, .iload_n 1, 1), (9, .iastore, 1), (10, .aload_n 0, 1), (11, .getfield 24, 3), (14, .aload_n 0, 1), (15, .getfield 30, 3), (18, .iload_n 2, 1), (19, .iastore, 1), (20, .aload_n 0, 1), (21, .getfield 27, 3), (24, .aload_n 0, 1), (25, .getfield 30, 3), (28, .iload_n 3, 1), (29, .iastore, 1), (30, .aload_n 0, 1), (31, .dup, 1), (32, .getfield 30, 3), (35, .iconst 1, 1), (36, .iadd, 1), (37, .putfield 30, 3), (40, .aload_n 0, 1), (41, .getfield 30, 3), (44, .ireturn, 1)]
theorem daX0_addStop_0 : tdaX0_addStop_0.all (fun q => decide (decode cX0_addStop q.1 = .ok q.2)) = true := by decide +kernel
theorem dX0_addStop_0 : decode cX0_addStop 0 = .ok (.aload_n 0, 1) := dget daX0_addStop_0 0 (q := (0, .aload_n 0, 1)) rfl
theorem dX0_addStop_1 : decode cX0_addStop 1 = .ok (.getfield 21, 3) := dget daX0_addStop_0 1 (q := (1, .getfield 21, 3)) rfl
theorem dX0_addStop_4 : decode cX0_addStop 4 = .ok (.aload_n 0, 1) := dget daX0_addStop_0 2 (q := (4, .aload_n 0, 1)) rfl
theorem dX0_addStop_5 : decode cX0_addStop 5 = .ok (.getfield 30, 3) := dget daX0_addStop_0 3 (q := (5, .getfield 30, 3)) rfl
theorem dX0_addStop_8 : decode cX0_addStop 8 = .ok (.iload_n 1, 1) := dget daX0_addStop_0 4 (q := (8, .iload_n 1, 1)) rfl
theorem dX0_addStop_9 : decode cX0_addStop 9 = .ok (.iastore, 1) := dget daX0_addStop_0 5 (q := (9, .iastore, 1)) rfl
theorem dX0_addStop_10 : decode cX0_addStop 10 = .ok (.aload_n 0, 1) := dget daX0_addStop_0 6 (q := (10, .aload_n 0, 1)) rfl
theorem dX0_addStop_11 : decode cX0_addStop 11 = .ok (.getfield 24, 3) := dget daX0_addStop_0 7 (q := (11, .getfield 24, 3)) rfl
theorem dX0_addStop_14 : decode cX0_addStop 14 = .ok (.aload_n 0, 1) := dget daX0_addStop_0 8 (q := (14, .aload_n 0, 1)) rfl
theorem dX0_addStop_15 : decode cX0_addStop 15 = .ok (.getfield 30, 3) := dget daX0_addStop_0 9 (q := (15, .getfield 30, 3)) rfl
theorem dX0_addStop_18 : decode cX0_addStop 18 = .ok (.iload_n 2, 1) := dget daX0_addStop_0 10 (q := (18, .iload_n 2, 1)) rfl
theorem dX0_addStop_19 : decode cX0_addStop 19 = .ok (.iastore, 1) := dget daX0_addStop_0 11 (q := (19, .iastore, 1)) rfl
theorem dX0_addStop_20 : decode cX0_addStop 20 = .ok (.aload_n 0, 1) := dget daX0_addStop_0 12 (q := (20, .aload_n 0, 1)) rfl
theorem dX0_addStop_21 : decode cX0_addStop 21 = .ok (.getfield 27, 3) := dget daX0_addStop_0 13 (q := (21, .getfield 27, 3)) rfl
theorem dX0_addStop_24 : decode cX0_addStop 24 = .ok (.aload_n 0, 1) := dget daX0_addStop_0 14 (q := (24, .aload_n 0, 1)) rfl
theorem dX0_addStop_25 : decode cX0_addStop 25 = .ok (.getfield 30, 3) := dget daX0_addStop_0 15 (q := (25, .getfield 30, 3)) rfl
theorem dX0_addStop_28 : decode cX0_addStop 28 = .ok (.iload_n 3, 1) := dget daX0_addStop_0 16 (q := (28, .iload_n 3, 1)) rfl
theorem dX0_addStop_29 : decode cX0_addStop 29 = .ok (.iastore, 1) := dget daX0_addStop_0 17 (q := (29, .iastore, 1)) rfl
theorem dX0_addStop_30 : decode cX0_addStop 30 = .ok (.aload_n 0, 1) := dget daX0_addStop_0 18 (q := (30, .aload_n 0, 1)) rfl
theorem dX0_addStop_31 : decode cX0_addStop 31 = .ok (.dup, 1) := dget daX0_addStop_0 19 (q := (31, .dup, 1)) rfl
theorem dX0_addStop_32 : decode cX0_addStop 32 = .ok (.getfield 30, 3) := dget daX0_addStop_0 20 (q := (32, .getfield 30, 3)) rfl
theorem dX0_addStop_35 : decode cX0_addStop 35 = .ok (.iconst 1, 1) := dget daX0_addStop_0 21 (q := (35, .iconst 1, 1)) rfl
theorem dX0_addStop_36 : decode cX0_addStop 36 = .ok (.iadd, 1) := dget daX0_addStop_0 22 (q := (36, .iadd, 1)) rfl
theorem dX0_addStop_37 : decode cX0_addStop 37 = .ok (.putfield 30, 3) := dget daX0_addStop_0 23 (q := (37, .putfield 30, 3)) rfl
theorem dX0_addStop_40 : decode cX0_addStop 40 = .ok (.aload_n 0, 1) := dget daX0_addStop_0 24 (q := (40, .aload_n 0, 1)) rfl
theorem dX0_addStop_41 : decode cX0_addStop 41 = .ok (.getfield 30, 3) := dget daX0_addStop_0 25 (q := (41, .getfield 30, 3)) rfl
theorem dX0_addStop_44 : decode cX0_addStop 44 = .ok (.ireturn, 1) := dget daX0_addStop_0 26 (q := (44, .ireturn, 1)) rfl
def tdaX0_daysThatRan_0 : List (Nat × (Instr × Nat)) := [(0, .iconst 0, 1), (1, .istore 4, 2), (3, .iload_n 2, 1), (4, .istore 5, 2), (6, .iconst 0, 1), (7, .istore 6, 2), (9, .iload 6, 2), (11, .aload_n 0, 1), (12, .getfield 30, 3), (15, .if_icmp .gt 90, 3), (18, .iload 5, 2), (20, .iload_n 3, 1), (21, .if_icmp .gt 84, 3), (24, .aload_n 0, 1), (25, .iload_n 1, 1), (26, .iload 5, 2), (28, .invokevirtual 34, 3), (31, .istore 7, 2), (33, .iload 7, 2), (35, .bipush (-9), 2), (37, .if_icmp .ne 9, 3), (40, .iload_n 3, 1), (41, .iconst 1, 1), (42, .iadd, 1), (43, .goto 16, 3), (46, .aload_n 0, 1), (47, .getfield 24, 3), (50, .iload 7, 2), (52, .iaload, 1), (53, .iload_n 3, 1), (54, .iconst 1, 1), (55, .iadd, 1), (56, .invokestatic 38, 3), (59, .istore 8, 2), (61, .iload 4, 2), (63, .iconst 0, 1), (64, .iload 8, 2), (66, .iload 5, 2), (68, .isub, 1), (69, .invokestatic 43, 3)]
theorem daX0_daysThatRan_0 : tdaX0_daysThatRan_0.all (fun q => decide (decode cX0_daysThatRan q.1 = .ok q.2)) = true := by decide +kernel
theorem dX0_daysThatRan_0 : decode cX0_daysThatRan 0 = .ok (.iconst 0, 1) := dget daX0_daysThatRan_0 0 (q := (0, .iconst 0, 1)) rfl
theorem dX0_daysThatRan_1 : decode cX0_daysThatRan 1 = .ok (.istore 4, 2) := dget daX0_daysThatRan_0 1 (q := (1, .istore 4, 2)) rfl
theorem dX0_daysThatRan_3 : decode cX0_daysThatRan 3 = .ok (.iload_n 2, 1) := dget daX0_daysThatRan_0 2 (q := (3, .iload_n 2, 1)) rfl
theorem dX0_daysThatRan_4 : decode cX0_daysThatRan 4 = .ok (.istore 5, 2) := dget daX0_daysThatRan_0 3 (q := (4, .istore 5, 2)) rfl
theorem dX0_daysThatRan_6 : decode cX0_daysThatRan 6 = .ok (.iconst 0, 1) := dget daX0_daysThatRan_0 4 (q := (6, .iconst 0, 1)) rfl
theorem dX0_daysThatRan_7 : decode cX0_daysThatRan 7 = .ok (.istore 6, 2) := dget daX0_daysThatRan_0 5 (q := (7, .istore 6, 2)) rfl
theorem dX0_daysThatRan_9 : decode cX0_daysThatRan 9 = .ok (.iload 6, 2) := dget daX0_daysThatRan_0 6 (q := (9, .iload 6, 2)) rfl
theorem dX0_daysThatRan_11 : decode cX0_daysThatRan 11 = .ok (.aload_n 0, 1) := dget daX0_daysThatRan_0 7 (q := (11, .aload_n 0, 1)) rfl
theorem dX0_daysThatRan_12 : decode cX0_daysThatRan 12 = .ok (.getfield 30, 3) := dget daX0_daysThatRan_0 8 (q := (12, .getfield 30, 3)) rfl
theorem dX0_daysThatRan_15 : decode cX0_daysThatRan 15 = .ok (.if_icmp .gt 90, 3) := dget daX0_daysThatRan_0 9 (q := (15, .if_icmp .gt 90, 3)) rfl
theorem dX0_daysThatRan_18 : decode cX0_daysThatRan 18 = .ok (.iload 5, 2) := dget daX0_daysThatRan_0 10 (q := (18, .iload 5, 2)) rfl
theorem dX0_daysThatRan_20 : decode cX0_daysThatRan 20 = .ok (.iload_n 3, 1) := dget daX0_daysThatRan_0 11 (q := (20, .iload_n 3, 1)) rfl
theorem dX0_daysThatRan_21 : decode cX0_daysThatRan 21 = .ok (.if_icmp .gt 84, 3) := dget daX0_daysThatRan_0 12 (q := (21, .if_icmp .gt 84, 3)) rfl
theorem dX0_daysThatRan_24 : decode cX0_daysThatRan 24 = .ok (.aload_n 0, 1) := dget daX0_daysThatRan_0 13 (q := (24, .aload_n 0, 1)) rfl
theorem dX0_daysThatRan_25 : decode cX0_daysThatRan 25 = .ok (.iload_n 1, 1) := dget daX0_daysThatRan_0 14 (q := (25, .iload_n 1, 1)) rfl
theorem dX0_daysThatRan_26 : decode cX0_daysThatRan 26 = .ok (.iload 5, 2) := dget daX0_daysThatRan_0 15 (q := (26, .iload 5, 2)) rfl
theorem dX0_daysThatRan_28 : decode cX0_daysThatRan 28 = .ok (.invokevirtual 34, 3) := dget daX0_daysThatRan_0 16 (q := (28, .invokevirtual 34, 3)) rfl
theorem dX0_daysThatRan_31 : decode cX0_daysThatRan 31 = .ok (.istore 7, 2) := dget daX0_daysThatRan_0 17 (q := (31, .istore 7, 2)) rfl
theorem dX0_daysThatRan_33 : decode cX0_daysThatRan 33 = .ok (.iload 7, 2) := dget daX0_daysThatRan_0 18 (q := (33, .iload 7, 2)) rfl
theorem dX0_daysThatRan_35 : decode cX0_daysThatRan 35 = .ok (.bipush (-9), 2) := dget daX0_daysThatRan_0 19 (q := (35, .bipush (-9), 2)) rfl
theorem dX0_daysThatRan_37 : decode cX0_daysThatRan 37 = .ok (.if_icmp .ne 9, 3) := dget daX0_daysThatRan_0 20 (q := (37, .if_icmp .ne 9, 3)) rfl
theorem dX0_daysThatRan_40 : decode cX0_daysThatRan 40 = .ok (.iload_n 3, 1) := dget daX0_daysThatRan_0 21 (q := (40, .iload_n 3, 1)) rfl
theorem dX0_daysThatRan_41 : decode cX0_daysThatRan 41 = .ok (.iconst 1, 1) := dget daX0_daysThatRan_0 22 (q := (41, .iconst 1, 1)) rfl
theorem dX0_daysThatRan_42 : decode cX0_daysThatRan 42 = .ok (.iadd, 1) := dget daX0_daysThatRan_0 23 (q := (42, .iadd, 1)) rfl
theorem dX0_daysThatRan_43 : decode cX0_daysThatRan 43 = .ok (.goto 16, 3) := dget daX0_daysThatRan_0 24 (q := (43, .goto 16, 3)) rfl
theorem dX0_daysThatRan_46 : decode cX0_daysThatRan 46 = .ok (.aload_n 0, 1) := dget daX0_daysThatRan_0 25 (q := (46, .aload_n 0, 1)) rfl
theorem dX0_daysThatRan_47 : decode cX0_daysThatRan 47 = .ok (.getfield 24, 3) := dget daX0_daysThatRan_0 26 (q := (47, .getfield 24, 3)) rfl
theorem dX0_daysThatRan_50 : decode cX0_daysThatRan 50 = .ok (.iload 7, 2) := dget daX0_daysThatRan_0 27 (q := (50, .iload 7, 2)) rfl
theorem dX0_daysThatRan_52 : decode cX0_daysThatRan 52 = .ok (.iaload, 1) := dget daX0_daysThatRan_0 28 (q := (52, .iaload, 1)) rfl
theorem dX0_daysThatRan_53 : decode cX0_daysThatRan 53 = .ok (.iload_n 3, 1) := dget daX0_daysThatRan_0 29 (q := (53, .iload_n 3, 1)) rfl
theorem dX0_daysThatRan_54 : decode cX0_daysThatRan 54 = .ok (.iconst 1, 1) := dget daX0_daysThatRan_0 30 (q := (54, .iconst 1, 1)) rfl
theorem dX0_daysThatRan_55 : decode cX0_daysThatRan 55 = .ok (.iadd, 1) := dget daX0_daysThatRan_0 31 (q := (55, .iadd, 1)) rfl
theorem dX0_daysThatRan_56 : decode cX0_daysThatRan 56 = .ok (.invokestatic 38, 3) := dget daX0_daysThatRan_0 32 (q := (56, .invokestatic 38, 3)) rfl
theorem dX0_daysThatRan_59 : decode cX0_daysThatRan 59 = .ok (.istore 8, 2) := dget daX0_daysThatRan_0 33 (q := (59, .istore 8, 2)) rfl
theorem dX0_daysThatRan_61 : decode cX0_daysThatRan 61 = .ok (.iload 4, 2) := dget daX0_daysThatRan_0 34 (q := (61, .iload 4, 2)) rfl
theorem dX0_daysThatRan_63 : decode cX0_daysThatRan 63 = .ok (.iconst 0, 1) := dget daX0_daysThatRan_0 35 (q := (63, .iconst 0, 1)) rfl
theorem dX0_daysThatRan_64 : decode cX0_daysThatRan 64 = .ok (.iload 8, 2) := dget daX0_daysThatRan_0 36 (q := (64, .iload 8, 2)) rfl
theorem dX0_daysThatRan_66 : decode cX0_daysThatRan 66 = .ok (.iload 5, 2) := dget daX0_daysThatRan_0 37 (q := (66, .iload 5, 2)) rfl
theorem dX0_daysThatRan_68 : decode cX0_daysThatRan 68 = .ok (.isub, 1) := dget daX0_daysThatRan_0 38 (q := (68, .isub, 1)) rfl
theorem dX0_daysThatRan_69 : decode cX0_daysThatRan 69 = .ok (.invokestatic 43, 3) := dget daX0_daysThatRan_0 39 (q := (69, .invokestatic 43, 3)) rfl
def tdaX0_daysThatRan_1 : List (Nat × (Instr × Nat)) := [(72, .iadd, 1), (73, .istore 4, 2), (75, .iload 7, 2), (77, .bipush (-9), 2), (79, .if_icmp .ne 9, 3), (82, .iload_n 3, 1), (83, .iconst 1, 1), (84, .iadd, 1), (85, .goto 12, 3), (88, .aload_n 0, 1), (89, .getfield 27, 3), (92, .iload 7, 2), (94, .iaload, 1), (95, .iconst 1, 1), (96, .iadd, 1), (97, .istore 5, 2), (99, .iinc 6 1, 3), (102, .goto (-93), 3), (105, .iload 4, 2), (107, .ireturn, 1)]
theorem daX0_daysThatRan_1 : tdaX0_daysThatRan_1.all (fun q => decide (decode cX0_daysThatRan q.1 = .ok q.2)) = true := by decide +kernel
theorem dX0_daysThatRan_72 : decode cX0_daysThatRan 72 = .ok (.iadd, 1) := dget daX0_daysThatRan_1 0 (q := (72, .iadd, 1)) rfl
theorem dX0_daysThatRan_73 : decode cX0_daysThatRan 73 = .ok (.istore 4, 2) := dget daX0_daysThatRan_1 1 (q := (73, .istore 4, 2)) rfl
theorem dX0_daysThatRan_75 : decode cX0_daysThatRan 75 = .ok (.iload 7, 2) := dget daX0_daysThatRan_1 2 (q := (75, .iload 7, 2)) rfl
theorem dX0_daysThatRan_77 : decode cX0_daysThatRan 77 = .ok (.bipush (-9), 2) := dget daX0_daysThatRan_1 3 (q := (77, .bipush (-9), 2)) rfl
theorem dX0_daysThatRan_79 : decode cX0_daysThatRan 79 = .ok (.if_icmp .ne 9, 3) := dget daX0_daysThatRan_1 4 (q := (79, .if_icmp .ne 9, 3)) rfl
theorem dX0_daysThatRan_82 : decode cX0_daysThatRan 82 = .ok (.iload_n 3, 1) := dget daX0_daysThatRan_1 5 (q := (82, .iload_n 3, 1)) rfl
theorem dX0_daysThatRan_83 : decode cX0_daysThatRan 83 = .ok (.iconst 1, 1) := dget daX0_daysThatRan_1 6 (q := (83, .iconst 1, 1)) rfl
theorem dX0_daysThatRan_84 : decode cX0_daysThatRan 84 = .ok (.iadd, 1) := dget daX0_daysThatRan_1 7 (q := (84, .iadd, 1)) rfl
theorem dX0_daysThatRan_85 : decode cX0_daysThatRan 85 = .ok (.goto 12, 3) := dget daX0_daysThatRan_1 8 (q := (85, .goto 12, 3)) rfl
theorem dX0_daysThatRan_88 : decode cX0_daysThatRan 88 = .ok (.aload_n 0, 1) := dget daX0_daysThatRan_1 9 (q := (88, .aload_n 0, 1)) rfl
theorem dX0_daysThatRan_89 : decode cX0_daysThatRan 89 = .ok (.getfield 27, 3) := dget daX0_daysThatRan_1 10 (q := (89, .getfield 27, 3)) rfl
theorem dX0_daysThatRan_92 : decode cX0_daysThatRan 92 = .ok (.iload 7, 2) := dget daX0_daysThatRan_1 11 (q := (92, .iload 7, 2)) rfl
theorem dX0_daysThatRan_94 : decode cX0_daysThatRan 94 = .ok (.iaload, 1) := dget daX0_daysThatRan_1 12 (q := (94, .iaload, 1)) rfl
theorem dX0_daysThatRan_95 : decode cX0_daysThatRan 95 = .ok (.iconst 1, 1) := dget daX0_daysThatRan_1 13 (q := (95, .iconst 1, 1)) rfl
theorem dX0_daysThatRan_96 : decode cX0_daysThatRan 96 = .ok (.iadd, 1) := dget daX0_daysThatRan_1 14 (q := (96, .iadd, 1)) rfl
theorem dX0_daysThatRan_97 : decode cX0_daysThatRan 97 = .ok (.istore 5, 2) := dget daX0_daysThatRan_1 15 (q := (97, .istore 5, 2)) rfl
theorem dX0_daysThatRan_99 : decode cX0_daysThatRan 99 = .ok (.iinc 6 1, 3) := dget daX0_daysThatRan_1 16 (q := (99, .iinc 6 1, 3)) rfl
theorem dX0_daysThatRan_102 : decode cX0_daysThatRan 102 = .ok (.goto (-93), 3) := dget daX0_daysThatRan_1 17 (q := (102, .goto (-93), 3)) rfl
theorem dX0_daysThatRan_105 : decode cX0_daysThatRan 105 = .ok (.iload 4, 2) := dget daX0_daysThatRan_1 18 (q := (105, .iload 4, 2)) rfl
theorem dX0_daysThatRan_107 : decode cX0_daysThatRan 107 = .ok (.ireturn, 1) := dget daX0_daysThatRan_1 19 (q := (107, .ireturn, 1)) rfl
def tdaX0_nextStop_0 : List (Nat × (Instr × Nat)) := [(0, .bipush (-9), 2), (2, .istore_n 3, 1), (3, .iconst 0, 1), (4, .istore 4, 2), (6, .iload 4, 2), (8, .aload_n 0, 1), (9, .getfield 30, 3), (12, .if_icmp .ge 59, 3), (15, .aload_n 0, 1), (16, .getfield 21, 3), (19, .iload 4, 2), (21, .iaload, 1), (22, .iload_n 1, 1), (23, .if_icmp .ne 42, 3), (26, .aload_n 0, 1), (27, .getfield 27, 3), (30, .iload 4, 2), (32, .iaload, 1), (33, .iload_n 2, 1), (34, .if_icmp .ge 6, 3), (37, .goto 28, 3), (40, .iload_n 3, 1), (41, .bipush (-9), 2), (43, .if_icmp .eq 19, 3), (46, .aload_n 0, 1), (47, .getfield 24, 3), (50, .iload 4, 2), (52, .iaload, 1), (53, .aload_n 0, 1), (54, .getfield 24, 3), (57, .iload_n 3, 1), (58, .iaload, 1), (59, .if_icmp .ge 6, 3), (62, .iload 4, 2), (64, .istore_n 3, 1), (65, .iinc 4 1, 3), (68, .goto (-62), 3), (71, .iload_n 3, 1), (72, .ireturn, 1)]
theorem daX0_nextStop_0 : tdaX0_nextStop_0.all (fun q => decide (decode cX0_nextStop q.1 = .ok q.2)) = true := by decide +kernel
theorem dX0_nextStop_0 : decode cX0_nextStop 0 = .ok (.bipush (-9), 2) := dget daX0_nextStop_0 0 (q := (0, .bipush (-9), 2)) rfl
theorem dX0_nextStop_2 : decode cX0_nextStop 2 = .ok (.istore_n 3, 1) := dget daX0_nextStop_0 1 (q := (2, .istore_n 3, 1)) rfl
theorem dX0_nextStop_3 : decode cX0_nextStop 3 = .ok (.iconst 0, 1) := dget daX0_nextStop_0 2 (q := (3, .iconst 0, 1)) rfl
theorem dX0_nextStop_4 : decode cX0_nextStop 4 = .ok (.istore 4, 2) := dget daX0_nextStop_0 3 (q := (4, .istore 4, 2)) rfl
theorem dX0_nextStop_6 : decode cX0_nextStop 6 = .ok (.iload 4, 2) := dget daX0_nextStop_0 4 (q := (6, .iload 4, 2)) rfl
theorem dX0_nextStop_8 : decode cX0_nextStop 8 = .ok (.aload_n 0, 1) := dget daX0_nextStop_0 5 (q := (8, .aload_n 0, 1)) rfl
theorem dX0_nextStop_9 : decode cX0_nextStop 9 = .ok (.getfield 30, 3) := dget daX0_nextStop_0 6 (q := (9, .getfield 30, 3)) rfl
theorem dX0_nextStop_12 : decode cX0_nextStop 12 = .ok (.if_icmp .ge 59, 3) := dget daX0_nextStop_0 7 (q := (12, .if_icmp .ge 59, 3)) rfl
theorem dX0_nextStop_15 : decode cX0_nextStop 15 = .ok (.aload_n 0, 1) := dget daX0_nextStop_0 8 (q := (15, .aload_n 0, 1)) rfl
theorem dX0_nextStop_16 : decode cX0_nextStop 16 = .ok (.getfield 21, 3) := dget daX0_nextStop_0 9 (q := (16, .getfield 21, 3)) rfl
theorem dX0_nextStop_19 : decode cX0_nextStop 19 = .ok (.iload 4, 2) := dget daX0_nextStop_0 10 (q := (19, .iload 4, 2)) rfl
theorem dX0_nextStop_21 : decode cX0_nextStop 21 = .ok (.iaload, 1) := dget daX0_nextStop_0 11 (q := (21, .iaload, 1)) rfl
theorem dX0_nextStop_22 : decode cX0_nextStop 22 = .ok (.iload_n 1, 1) := dget daX0_nextStop_0 12 (q := (22, .iload_n 1, 1)) rfl
theorem dX0_nextStop_23 : decode cX0_nextStop 23 = .ok (.if_icmp .ne 42, 3) := dget daX0_nextStop_0 13 (q := (23, .if_icmp .ne 42, 3)) rfl
theorem dX0_nextStop_26 : decode cX0_nextStop 26 = .ok (.aload_n 0, 1) := dget daX0_nextStop_0 14 (q := (26, .aload_n 0, 1)) rfl
theorem dX0_nextStop_27 : decode cX0_nextStop 27 = .ok (.getfield 27, 3) := dget daX0_nextStop_0 15 (q := (27, .getfield 27, 3)) rfl
theorem dX0_nextStop_30 : decode cX0_nextStop 30 = .ok (.iload 4, 2) := dget daX0_nextStop_0 16 (q := (30, .iload 4, 2)) rfl
theorem dX0_nextStop_32 : decode cX0_nextStop 32 = .ok (.iaload, 1) := dget daX0_nextStop_0 17 (q := (32, .iaload, 1)) rfl
theorem dX0_nextStop_33 : decode cX0_nextStop 33 = .ok (.iload_n 2, 1) := dget daX0_nextStop_0 18 (q := (33, .iload_n 2, 1)) rfl
theorem dX0_nextStop_34 : decode cX0_nextStop 34 = .ok (.if_icmp .ge 6, 3) := dget daX0_nextStop_0 19 (q := (34, .if_icmp .ge 6, 3)) rfl
theorem dX0_nextStop_37 : decode cX0_nextStop 37 = .ok (.goto 28, 3) := dget daX0_nextStop_0 20 (q := (37, .goto 28, 3)) rfl
theorem dX0_nextStop_40 : decode cX0_nextStop 40 = .ok (.iload_n 3, 1) := dget daX0_nextStop_0 21 (q := (40, .iload_n 3, 1)) rfl
theorem dX0_nextStop_41 : decode cX0_nextStop 41 = .ok (.bipush (-9), 2) := dget daX0_nextStop_0 22 (q := (41, .bipush (-9), 2)) rfl
theorem dX0_nextStop_43 : decode cX0_nextStop 43 = .ok (.if_icmp .eq 19, 3) := dget daX0_nextStop_0 23 (q := (43, .if_icmp .eq 19, 3)) rfl
theorem dX0_nextStop_46 : decode cX0_nextStop 46 = .ok (.aload_n 0, 1) := dget daX0_nextStop_0 24 (q := (46, .aload_n 0, 1)) rfl
theorem dX0_nextStop_47 : decode cX0_nextStop 47 = .ok (.getfield 24, 3) := dget daX0_nextStop_0 25 (q := (47, .getfield 24, 3)) rfl
theorem dX0_nextStop_50 : decode cX0_nextStop 50 = .ok (.iload 4, 2) := dget daX0_nextStop_0 26 (q := (50, .iload 4, 2)) rfl
theorem dX0_nextStop_52 : decode cX0_nextStop 52 = .ok (.iaload, 1) := dget daX0_nextStop_0 27 (q := (52, .iaload, 1)) rfl
theorem dX0_nextStop_53 : decode cX0_nextStop 53 = .ok (.aload_n 0, 1) := dget daX0_nextStop_0 28 (q := (53, .aload_n 0, 1)) rfl
theorem dX0_nextStop_54 : decode cX0_nextStop 54 = .ok (.getfield 24, 3) := dget daX0_nextStop_0 29 (q := (54, .getfield 24, 3)) rfl
theorem dX0_nextStop_57 : decode cX0_nextStop 57 = .ok (.iload_n 3, 1) := dget daX0_nextStop_0 30 (q := (57, .iload_n 3, 1)) rfl
theorem dX0_nextStop_58 : decode cX0_nextStop 58 = .ok (.iaload, 1) := dget daX0_nextStop_0 31 (q := (58, .iaload, 1)) rfl
theorem dX0_nextStop_59 : decode cX0_nextStop 59 = .ok (.if_icmp .ge 6, 3) := dget daX0_nextStop_0 32 (q := (59, .if_icmp .ge 6, 3)) rfl
theorem dX0_nextStop_62 : decode cX0_nextStop 62 = .ok (.iload 4, 2) := dget daX0_nextStop_0 33 (q := (62, .iload 4, 2)) rfl
theorem dX0_nextStop_64 : decode cX0_nextStop 64 = .ok (.istore_n 3, 1) := dget daX0_nextStop_0 34 (q := (64, .istore_n 3, 1)) rfl
theorem dX0_nextStop_65 : decode cX0_nextStop 65 = .ok (.iinc 4 1, 3) := dget daX0_nextStop_0 35 (q := (65, .iinc 4 1, 3)) rfl
theorem dX0_nextStop_68 : decode cX0_nextStop 68 = .ok (.goto (-62), 3) := dget daX0_nextStop_0 36 (q := (68, .goto (-62), 3)) rfl
theorem dX0_nextStop_71 : decode cX0_nextStop 71 = .ok (.iload_n 3, 1) := dget daX0_nextStop_0 37 (q := (71, .iload_n 3, 1)) rfl
theorem dX0_nextStop_72 : decode cX0_nextStop 72 = .ok (.ireturn, 1) := dget daX0_nextStop_0 38 (q := (72, .ireturn, 1)) rfl
def tdaX1_init_0 : List (Nat × (Instr × Nat)) := [(0, .aload_n 0, 1), (1, .invokespecial 3, 3), (4, .aload_n 0, 1), (5, .bipush 40, 2), (7, .newarray .int, 2), (9, .putfield 11, 3), (12, .aload_n 0, 1), (13, .bipush 40, 2), (15, .newarray .int, 2), (17, .putfield 15, 3), (20, .aload_n 0, 1), (21, .bipush 40, 2), (23, .newarray .int, 2), (25, .putfield 18, 3), (28, .aload_n 0, 1), (29, .bipush 40, 2), (31, .newarray .int, 2), (33, .putfield 21, 3), (36, .aload_n 0, 1), (37, .bipush 40, 2), (39, .newarray .boolean, 2), (41, .putfield 24, 3), (44, .aload_n 0, 1), (45, .bipush 40, 2), (47, .newarray .int, 2), (49, .putfield 28, 3), (52, .aload_n 0, 1), (53, .bipush 40, 2), (55, .newarray .int, 2), (57, .putfield 31, 3), (60, .return_, 1)]
theorem daX1_init_0 : tdaX1_init_0.all (fun q => decide (decode cX1_init q.1 = .ok q.2)) = true := by decide +kernel
theorem dX1_init_0 : decode cX1_init 0 = .ok (.aload_n 0, 1) := dget daX1_init_0 0 (q := (0, .aload_n 0, 1)) rfl
theorem dX1_init_1 : decode cX1_init 1 = .ok (.invokespecial 3, 3) := dget daX1_init_0 1 (q := (1, .invokespecial 3, 3)) rfl
theorem dX1_init_4 : decode cX1_init 4 = .ok (.aload_n 0, 1) := dget daX1_init_0 2 (q := (4, .aload_n 0, 1)) rfl
theorem dX1_init_5 : decode cX1_init 5 = .ok (.bipush 40, 2) := dget daX1_init_0 3 (q := (5, .bipush 40, 2)) rfl
theorem dX1_init_7 : decode cX1_init 7 = .ok (.newarray .int, 2) := dget daX1_init_0 4 (q := (7, .newarray .int, 2)) rfl
theorem dX1_init_9 : decode cX1_init 9 = .ok (.putfield 11, 3) := dget daX1_init_0 5 (q := (9, .putfield 11, 3)) rfl
theorem dX1_init_12 : decode cX1_init 12 = .ok (.aload_n 0, 1) := dget daX1_init_0 6 (q := (12, .aload_n 0, 1)) rfl
theorem dX1_init_13 : decode cX1_init 13 = .ok (.bipush 40, 2) := dget daX1_init_0 7 (q := (13, .bipush 40, 2)) rfl
theorem dX1_init_15 : decode cX1_init 15 = .ok (.newarray .int, 2) := dget daX1_init_0 8 (q := (15, .newarray .int, 2)) rfl
theorem dX1_init_17 : decode cX1_init 17 = .ok (.putfield 15, 3) := dget daX1_init_0 9 (q := (17, .putfield 15, 3)) rfl
theorem dX1_init_20 : decode cX1_init 20 = .ok (.aload_n 0, 1) := dget daX1_init_0 10 (q := (20, .aload_n 0, 1)) rfl
theorem dX1_init_21 : decode cX1_init 21 = .ok (.bipush 40, 2) := dget daX1_init_0 11 (q := (21, .bipush 40, 2)) rfl
theorem dX1_init_23 : decode cX1_init 23 = .ok (.newarray .int, 2) := dget daX1_init_0 12 (q := (23, .newarray .int, 2)) rfl
theorem dX1_init_25 : decode cX1_init 25 = .ok (.putfield 18, 3) := dget daX1_init_0 13 (q := (25, .putfield 18, 3)) rfl
theorem dX1_init_28 : decode cX1_init 28 = .ok (.aload_n 0, 1) := dget daX1_init_0 14 (q := (28, .aload_n 0, 1)) rfl
theorem dX1_init_29 : decode cX1_init 29 = .ok (.bipush 40, 2) := dget daX1_init_0 15 (q := (29, .bipush 40, 2)) rfl
theorem dX1_init_31 : decode cX1_init 31 = .ok (.newarray .int, 2) := dget daX1_init_0 16 (q := (31, .newarray .int, 2)) rfl
theorem dX1_init_33 : decode cX1_init 33 = .ok (.putfield 21, 3) := dget daX1_init_0 17 (q := (33, .putfield 21, 3)) rfl
theorem dX1_init_36 : decode cX1_init 36 = .ok (.aload_n 0, 1) := dget daX1_init_0 18 (q := (36, .aload_n 0, 1)) rfl
theorem dX1_init_37 : decode cX1_init 37 = .ok (.bipush 40, 2) := dget daX1_init_0 19 (q := (37, .bipush 40, 2)) rfl
theorem dX1_init_39 : decode cX1_init 39 = .ok (.newarray .boolean, 2) := dget daX1_init_0 20 (q := (39, .newarray .boolean, 2)) rfl
theorem dX1_init_41 : decode cX1_init 41 = .ok (.putfield 24, 3) := dget daX1_init_0 21 (q := (41, .putfield 24, 3)) rfl
theorem dX1_init_44 : decode cX1_init 44 = .ok (.aload_n 0, 1) := dget daX1_init_0 22 (q := (44, .aload_n 0, 1)) rfl
theorem dX1_init_45 : decode cX1_init 45 = .ok (.bipush 40, 2) := dget daX1_init_0 23 (q := (45, .bipush 40, 2)) rfl
theorem dX1_init_47 : decode cX1_init 47 = .ok (.newarray .int, 2) := dget daX1_init_0 24 (q := (47, .newarray .int, 2)) rfl
theorem dX1_init_49 : decode cX1_init 49 = .ok (.putfield 28, 3) := dget daX1_init_0 25 (q := (49, .putfield 28, 3)) rfl
theorem dX1_init_52 : decode cX1_init 52 = .ok (.aload_n 0, 1) := dget daX1_init_0 26 (q := (52, .aload_n 0, 1)) rfl
theorem dX1_init_53 : decode cX1_init 53 = .ok (.bipush 40, 2) := dget daX1_init_0 27 (q := (53, .bipush 40, 2)) rfl
theorem dX1_init_55 : decode cX1_init 55 = .ok (.newarray .int, 2) := dget daX1_init_0 28 (q := (55, .newarray .int, 2)) rfl
theorem dX1_init_57 : decode cX1_init 57 = .ok (.putfield 31, 3) := dget daX1_init_0 29 (q := (57, .putfield 31, 3)) rfl
theorem dX1_init_60 : decode cX1_init 60 = .ok (.return_, 1) := dget daX1_init_0 30 (q := (60, .return_, 1)) rfl
def tdaX1_isFull_0 : List (Nat × (Instr × Nat)) := [(0, .aload_n 0, 1), (1, .getfield 34, 3), (4, .bipush 40, 2), (6, .if_icmp .lt 7, 3), (9, .iconst 1, 1), (10, .goto 4, 3), (13, .iconst 0, 1), (14, .ireturn, 1)]
theorem daX1_isFull_0 : tdaX1_isFull_0.all (fun q => decide (decode cX1_isFull q.1 = .ok q.2)) = true := by decide +kernel
theorem dX1_isFull_0 : decode cX1_isFull 0 = .ok (.aload_n 0, 1) := dget daX1_isFull_0 0 (q := (0, .aload_n 0, 1)) rfl
theorem dX1_isFull_1 : decode cX1_isFull 1 = .ok (.getfield 34, 3) := dget daX1_isFull_0 1 (q := (1, .getfield 34, 3)) rfl
theorem dX1_isFull_4 : decode cX1_isFull 4 = .ok (.bipush 40, 2) := dget daX1_isFull_0 2 (q := (4, .bipush 40, 2)) rfl
theorem dX1_isFull_6 : decode cX1_isFull 6 = .ok (.if_icmp .lt 7, 3) := dget daX1_isFull_0 3 (q := (6, .if_icmp .lt 7, 3)) rfl
theorem dX1_isFull_9 : decode cX1_isFull 9 = .ok (.iconst 1, 1) := dget daX1_isFull_0 4 (q := (9, .iconst 1, 1)) rfl
theorem dX1_isFull_10 : decode cX1_isFull 10 = .ok (.goto 4, 3) := dget daX1_isFull_0 5 (q := (10, .goto 4, 3)) rfl
theorem dX1_isFull_13 : decode cX1_isFull 13 = .ok (.iconst 0, 1) := dget daX1_isFull_0 6 (q := (13, .iconst 0, 1)) rfl
theorem dX1_isFull_14 : decode cX1_isFull 14 = .ok (.ireturn, 1) := dget daX1_isFull_0 7 (q := (14, .ireturn, 1)) rfl
def tdaX1_add_0 : List (Nat × (Instr × Nat)) := [(0, .aload_n 0, 1), (1, .getfield 11, 3), (4, .aload_n 0, 1), (5, .getfield 34, 3), (8, .iload_n 1, 1), (9, .iastore, 1), (10, .aload_n 0, 1), (11, .getfield 15, 3), (14, .aload_n 0, 1), (15, .getfield 34, 3), (18, .iload_n 2, 1), (19, .iastore, 1), (20, .aload_n 0, 1), (21, .getfield 18, 3), (24, .aload_n 0, 1), (25, .getfield 34, 3), (28, .iload_n 3, 1), (29, .iastore, 1), (30, .aload_n 0, 1), (31, .getfield 21, 3), (34, .aload_n 0, 1), (35, .getfield 34, 3), (38, .iload 4, 2), (40, .iastore, 1), (41, .aload_n 0, 1), (42, .getfield 24, 3), (45, .aload_n 0, 1), (46, .getfield 34, 3), (49, .iload 5, 2), (51, .bastore, 1), (52, .aload_n 0, 1), (53, .getfield 28, 3), (56, .aload_n 0, 1), (57, .getfield 34, 3), (60, .iload 6, 2), (62, .iastore, 1), (63, .aload_n 0, 1), (64, .dup, 1), (65, .getfield 34, 3), (68, .iconst 1, 1)]
theorem daX1_add_0 : tdaX1_add_0.all (fun q => decide (decode cX1_add q.1 = .ok q.2)) = true := by decide +kernel
theorem dX1_add_0 : decode cX1_add 0 = .ok (.aload_n 0, 1) := dget daX1_add_0 0 (q := (0, .aload_n 0, 1)) rfl
theorem dX1_add_1 : decode cX1_add 1 = .ok (.getfield 11, 3) := dget daX1_add_0 1 (q := (1, .getfield 11, 3)) rfl
theorem dX1_add_4 : decode cX1_add 4 = .ok (.aload_n 0, 1) := dget daX1_add_0 2 (q := (4, .aload_n 0, 1)) rfl
theorem dX1_add_5 : decode cX1_add 5 = .ok (.getfield 34, 3) := dget daX1_add_0 3 (q := (5, .getfield 34, 3)) rfl
theorem dX1_add_8 : decode cX1_add 8 = .ok (.iload_n 1, 1) := dget daX1_add_0 4 (q := (8, .iload_n 1, 1)) rfl
theorem dX1_add_9 : decode cX1_add 9 = .ok (.iastore, 1) := dget daX1_add_0 5 (q := (9, .iastore, 1)) rfl
theorem dX1_add_10 : decode cX1_add 10 = .ok (.aload_n 0, 1) := dget daX1_add_0 6 (q := (10, .aload_n 0, 1)) rfl
theorem dX1_add_11 : decode cX1_add 11 = .ok (.getfield 15, 3) := dget daX1_add_0 7 (q := (11, .getfield 15, 3)) rfl
theorem dX1_add_14 : decode cX1_add 14 = .ok (.aload_n 0, 1) := dget daX1_add_0 8 (q := (14, .aload_n 0, 1)) rfl
theorem dX1_add_15 : decode cX1_add 15 = .ok (.getfield 34, 3) := dget daX1_add_0 9 (q := (15, .getfield 34, 3)) rfl
theorem dX1_add_18 : decode cX1_add 18 = .ok (.iload_n 2, 1) := dget daX1_add_0 10 (q := (18, .iload_n 2, 1)) rfl
theorem dX1_add_19 : decode cX1_add 19 = .ok (.iastore, 1) := dget daX1_add_0 11 (q := (19, .iastore, 1)) rfl
theorem dX1_add_20 : decode cX1_add 20 = .ok (.aload_n 0, 1) := dget daX1_add_0 12 (q := (20, .aload_n 0, 1)) rfl
theorem dX1_add_21 : decode cX1_add 21 = .ok (.getfield 18, 3) := dget daX1_add_0 13 (q := (21, .getfield 18, 3)) rfl
theorem dX1_add_24 : decode cX1_add 24 = .ok (.aload_n 0, 1) := dget daX1_add_0 14 (q := (24, .aload_n 0, 1)) rfl
theorem dX1_add_25 : decode cX1_add 25 = .ok (.getfield 34, 3) := dget daX1_add_0 15 (q := (25, .getfield 34, 3)) rfl
theorem dX1_add_28 : decode cX1_add 28 = .ok (.iload_n 3, 1) := dget daX1_add_0 16 (q := (28, .iload_n 3, 1)) rfl
theorem dX1_add_29 : decode cX1_add 29 = .ok (.iastore, 1) := dget daX1_add_0 17 (q := (29, .iastore, 1)) rfl
theorem dX1_add_30 : decode cX1_add 30 = .ok (.aload_n 0, 1) := dget daX1_add_0 18 (q := (30, .aload_n 0, 1)) rfl
theorem dX1_add_31 : decode cX1_add 31 = .ok (.getfield 21, 3) := dget daX1_add_0 19 (q := (31, .getfield 21, 3)) rfl
theorem dX1_add_34 : decode cX1_add 34 = .ok (.aload_n 0, 1) := dget daX1_add_0 20 (q := (34, .aload_n 0, 1)) rfl
theorem dX1_add_35 : decode cX1_add 35 = .ok (.getfield 34, 3) := dget daX1_add_0 21 (q := (35, .getfield 34, 3)) rfl
theorem dX1_add_38 : decode cX1_add 38 = .ok (.iload 4, 2) := dget daX1_add_0 22 (q := (38, .iload 4, 2)) rfl
theorem dX1_add_40 : decode cX1_add 40 = .ok (.iastore, 1) := dget daX1_add_0 23 (q := (40, .iastore, 1)) rfl
theorem dX1_add_41 : decode cX1_add 41 = .ok (.aload_n 0, 1) := dget daX1_add_0 24 (q := (41, .aload_n 0, 1)) rfl
theorem dX1_add_42 : decode cX1_add 42 = .ok (.getfield 24, 3) := dget daX1_add_0 25 (q := (42, .getfield 24, 3)) rfl
theorem dX1_add_45 : decode cX1_add 45 = .ok (.aload_n 0, 1) := dget daX1_add_0 26 (q := (45, .aload_n 0, 1)) rfl
theorem dX1_add_46 : decode cX1_add 46 = .ok (.getfield 34, 3) := dget daX1_add_0 27 (q := (46, .getfield 34, 3)) rfl
theorem dX1_add_49 : decode cX1_add 49 = .ok (.iload 5, 2) := dget daX1_add_0 28 (q := (49, .iload 5, 2)) rfl
theorem dX1_add_51 : decode cX1_add 51 = .ok (.bastore, 1) := dget daX1_add_0 29 (q := (51, .bastore, 1)) rfl
theorem dX1_add_52 : decode cX1_add 52 = .ok (.aload_n 0, 1) := dget daX1_add_0 30 (q := (52, .aload_n 0, 1)) rfl
theorem dX1_add_53 : decode cX1_add 53 = .ok (.getfield 28, 3) := dget daX1_add_0 31 (q := (53, .getfield 28, 3)) rfl
theorem dX1_add_56 : decode cX1_add 56 = .ok (.aload_n 0, 1) := dget daX1_add_0 32 (q := (56, .aload_n 0, 1)) rfl
theorem dX1_add_57 : decode cX1_add 57 = .ok (.getfield 34, 3) := dget daX1_add_0 33 (q := (57, .getfield 34, 3)) rfl
theorem dX1_add_60 : decode cX1_add 60 = .ok (.iload 6, 2) := dget daX1_add_0 34 (q := (60, .iload 6, 2)) rfl
theorem dX1_add_62 : decode cX1_add 62 = .ok (.iastore, 1) := dget daX1_add_0 35 (q := (62, .iastore, 1)) rfl
theorem dX1_add_63 : decode cX1_add 63 = .ok (.aload_n 0, 1) := dget daX1_add_0 36 (q := (63, .aload_n 0, 1)) rfl
theorem dX1_add_64 : decode cX1_add 64 = .ok (.dup, 1) := dget daX1_add_0 37 (q := (64, .dup, 1)) rfl
theorem dX1_add_65 : decode cX1_add 65 = .ok (.getfield 34, 3) := dget daX1_add_0 38 (q := (65, .getfield 34, 3)) rfl
theorem dX1_add_68 : decode cX1_add 68 = .ok (.iconst 1, 1) := dget daX1_add_0 39 (q := (68, .iconst 1, 1)) rfl
def tdaX1_add_1 : List (Nat × (Instr × Nat)) := [(69, .iadd, 1), (70, .putfield 34, 3), (73, .aload_n 0, 1), (74, .getfield 34, 3), (77, .iconst 1, 1), (78, .isub, 1), (79, .ireturn, 1)]
theorem daX1_add_1 : tdaX1_add_1.all (fun q => decide (decode cX1_add q.1 = .ok q.2)) = true := by decide +kernel
theorem dX1_add_69 : decode cX1_add 69 = .ok (.iadd, 1) := dget daX1_add_1 0 (q := (69, .iadd, 1)) rfl
theorem dX1_add_70 : decode cX1_add 70 = .ok (.putfield 34, 3) := dget daX1_add_1 1 (q := (70, .putfield 34, 3)) rfl
theorem dX1_add_73 : decode cX1_add 73 = .ok (.aload_n 0, 1) := dget daX1_add_1 2 (q := (73, .aload_n 0, 1)) rfl
theorem dX1_add_74 : decode cX1_add 74 = .ok (.getfield 34, 3) := dget daX1_add_1 3 (q := (74, .getfield 34, 3)) rfl
theorem dX1_add_77 : decode cX1_add 77 = .ok (.iconst 1, 1) := dget daX1_add_1 4 (q := (77, .iconst 1, 1)) rfl
theorem dX1_add_78 : decode cX1_add 78 = .ok (.isub, 1) := dget daX1_add_1 5 (q := (78, .isub, 1)) rfl
theorem dX1_add_79 : decode cX1_add 79 = .ok (.ireturn, 1) := dget daX1_add_1 6 (q := (79, .ireturn, 1)) rfl
def tdaX1_measure_0 : List (Nat × (Instr × Nat)) := [(0, .iconst 0, 1), (1, .istore 5, 2), (3, .iload 5, 2), (5, .aload_n 0, 1), (6, .getfield 34, 3), (9, .if_icmp .ge 90, 3), (12, .aload_n 0, 1), (13, .getfield 11, 3), (16, .iload 5, 2), (18, .iaload, 1), (19, .iload_n 1, 1), (20, .if_icmp .ne 18, 3), (23, .aload_n 0, 1), (24, .getfield 15, 3), (27, .iload 5, 2), (29, .iaload, 1), (30, .iload_n 2, 1), (31, .if_icmp .ne 7, 3), (34, .iconst 1, 1), (35, .goto 4, 3), (38, .iconst 0, 1), (39, .istore 6, 2), (41, .aload_n 0, 1), (42, .getfield 18, 3), (45, .iload 5, 2), (47, .iaload, 1), (48, .iload_n 3, 1), (49, .isub, 1), (50, .invokestatic 38, 3), (53, .bipush 10, 2), (55, .idiv, 1), (56, .aload_n 0, 1), (57, .getfield 21, 3), (60, .iload 5, 2), (62, .iaload, 1), (63, .iload 4, 2), (65, .isub, 1), (66, .invokestatic 38, 3), (69, .bipush 50, 2), (71, .idiv, 1)]
theorem daX1_measure_0 : tdaX1_measure_0.all (fun q => decide (decode cX1_measure q.1 = .ok q.2)) = true := by decide +kernel
theorem dX1_measure_0 : decode cX1_measure 0 = .ok (.iconst 0, 1) := dget daX1_measure_0 0 (q := (0, .iconst 0, 1)) rfl
theorem dX1_measure_1 : decode cX1_measure 1 = .ok (.istore 5, 2) := dget daX1_measure_0 1 (q := (1, .istore 5, 2)) rfl
theorem dX1_measure_3 : decode cX1_measure 3 = .ok (.iload 5, 2) := dget daX1_measure_0 2 (q := (3, .iload 5, 2)) rfl
theorem dX1_measure_5 : decode cX1_measure 5 = .ok (.aload_n 0, 1) := dget daX1_measure_0 3 (q := (5, .aload_n 0, 1)) rfl
theorem dX1_measure_6 : decode cX1_measure 6 = .ok (.getfield 34, 3) := dget daX1_measure_0 4 (q := (6, .getfield 34, 3)) rfl
theorem dX1_measure_9 : decode cX1_measure 9 = .ok (.if_icmp .ge 90, 3) := dget daX1_measure_0 5 (q := (9, .if_icmp .ge 90, 3)) rfl
theorem dX1_measure_12 : decode cX1_measure 12 = .ok (.aload_n 0, 1) := dget daX1_measure_0 6 (q := (12, .aload_n 0, 1)) rfl
theorem dX1_measure_13 : decode cX1_measure 13 = .ok (.getfield 11, 3) := dget daX1_measure_0 7 (q := (13, .getfield 11, 3)) rfl
theorem dX1_measure_16 : decode cX1_measure 16 = .ok (.iload 5, 2) := dget daX1_measure_0 8 (q := (16, .iload 5, 2)) rfl
theorem dX1_measure_18 : decode cX1_measure 18 = .ok (.iaload, 1) := dget daX1_measure_0 9 (q := (18, .iaload, 1)) rfl
theorem dX1_measure_19 : decode cX1_measure 19 = .ok (.iload_n 1, 1) := dget daX1_measure_0 10 (q := (19, .iload_n 1, 1)) rfl
theorem dX1_measure_20 : decode cX1_measure 20 = .ok (.if_icmp .ne 18, 3) := dget daX1_measure_0 11 (q := (20, .if_icmp .ne 18, 3)) rfl
theorem dX1_measure_23 : decode cX1_measure 23 = .ok (.aload_n 0, 1) := dget daX1_measure_0 12 (q := (23, .aload_n 0, 1)) rfl
theorem dX1_measure_24 : decode cX1_measure 24 = .ok (.getfield 15, 3) := dget daX1_measure_0 13 (q := (24, .getfield 15, 3)) rfl
theorem dX1_measure_27 : decode cX1_measure 27 = .ok (.iload 5, 2) := dget daX1_measure_0 14 (q := (27, .iload 5, 2)) rfl
theorem dX1_measure_29 : decode cX1_measure 29 = .ok (.iaload, 1) := dget daX1_measure_0 15 (q := (29, .iaload, 1)) rfl
theorem dX1_measure_30 : decode cX1_measure 30 = .ok (.iload_n 2, 1) := dget daX1_measure_0 16 (q := (30, .iload_n 2, 1)) rfl
theorem dX1_measure_31 : decode cX1_measure 31 = .ok (.if_icmp .ne 7, 3) := dget daX1_measure_0 17 (q := (31, .if_icmp .ne 7, 3)) rfl
theorem dX1_measure_34 : decode cX1_measure 34 = .ok (.iconst 1, 1) := dget daX1_measure_0 18 (q := (34, .iconst 1, 1)) rfl
theorem dX1_measure_35 : decode cX1_measure 35 = .ok (.goto 4, 3) := dget daX1_measure_0 19 (q := (35, .goto 4, 3)) rfl
theorem dX1_measure_38 : decode cX1_measure 38 = .ok (.iconst 0, 1) := dget daX1_measure_0 20 (q := (38, .iconst 0, 1)) rfl
theorem dX1_measure_39 : decode cX1_measure 39 = .ok (.istore 6, 2) := dget daX1_measure_0 21 (q := (39, .istore 6, 2)) rfl
theorem dX1_measure_41 : decode cX1_measure 41 = .ok (.aload_n 0, 1) := dget daX1_measure_0 22 (q := (41, .aload_n 0, 1)) rfl
theorem dX1_measure_42 : decode cX1_measure 42 = .ok (.getfield 18, 3) := dget daX1_measure_0 23 (q := (42, .getfield 18, 3)) rfl
theorem dX1_measure_45 : decode cX1_measure 45 = .ok (.iload 5, 2) := dget daX1_measure_0 24 (q := (45, .iload 5, 2)) rfl
theorem dX1_measure_47 : decode cX1_measure 47 = .ok (.iaload, 1) := dget daX1_measure_0 25 (q := (47, .iaload, 1)) rfl
theorem dX1_measure_48 : decode cX1_measure 48 = .ok (.iload_n 3, 1) := dget daX1_measure_0 26 (q := (48, .iload_n 3, 1)) rfl
theorem dX1_measure_49 : decode cX1_measure 49 = .ok (.isub, 1) := dget daX1_measure_0 27 (q := (49, .isub, 1)) rfl
theorem dX1_measure_50 : decode cX1_measure 50 = .ok (.invokestatic 38, 3) := dget daX1_measure_0 28 (q := (50, .invokestatic 38, 3)) rfl
theorem dX1_measure_53 : decode cX1_measure 53 = .ok (.bipush 10, 2) := dget daX1_measure_0 29 (q := (53, .bipush 10, 2)) rfl
theorem dX1_measure_55 : decode cX1_measure 55 = .ok (.idiv, 1) := dget daX1_measure_0 30 (q := (55, .idiv, 1)) rfl
theorem dX1_measure_56 : decode cX1_measure 56 = .ok (.aload_n 0, 1) := dget daX1_measure_0 31 (q := (56, .aload_n 0, 1)) rfl
theorem dX1_measure_57 : decode cX1_measure 57 = .ok (.getfield 21, 3) := dget daX1_measure_0 32 (q := (57, .getfield 21, 3)) rfl
theorem dX1_measure_60 : decode cX1_measure 60 = .ok (.iload 5, 2) := dget daX1_measure_0 33 (q := (60, .iload 5, 2)) rfl
theorem dX1_measure_62 : decode cX1_measure 62 = .ok (.iaload, 1) := dget daX1_measure_0 34 (q := (62, .iaload, 1)) rfl
theorem dX1_measure_63 : decode cX1_measure 63 = .ok (.iload 4, 2) := dget daX1_measure_0 35 (q := (63, .iload 4, 2)) rfl
theorem dX1_measure_65 : decode cX1_measure 65 = .ok (.isub, 1) := dget daX1_measure_0 36 (q := (65, .isub, 1)) rfl
theorem dX1_measure_66 : decode cX1_measure 66 = .ok (.invokestatic 38, 3) := dget daX1_measure_0 37 (q := (66, .invokestatic 38, 3)) rfl
theorem dX1_measure_69 : decode cX1_measure 69 = .ok (.bipush 50, 2) := dget daX1_measure_0 38 (q := (69, .bipush 50, 2)) rfl
theorem dX1_measure_71 : decode cX1_measure 71 = .ok (.idiv, 1) := dget daX1_measure_0 39 (q := (71, .idiv, 1)) rfl
def tdaX1_measure_1 : List (Nat × (Instr × Nat)) := [(72, .iadd, 1), (73, .istore 7, 2), (75, .aload_n 0, 1), (76, .getfield 31, 3), (79, .iload 5, 2), (81, .iload 6, 2), (83, .ifCond .eq 8, 3), (86, .iload 7, 2), (88, .goto 4, 3), (91, .iconst (-1), 1), (92, .iastore, 1), (93, .iinc 5 1, 3), (96, .goto (-93), 3), (99, .return_, 1)]
theorem daX1_measure_1 : tdaX1_measure_1.all (fun q => decide (decode cX1_measure q.1 = .ok q.2)) = true := by decide +kernel
theorem dX1_measure_72 : decode cX1_measure 72 = .ok (.iadd, 1) := dget daX1_measure_1 0 (q := (72, .iadd, 1)) rfl
theorem dX1_measure_73 : decode cX1_measure 73 = .ok (.istore 7, 2) := dget daX1_measure_1 1 (q := (73, .istore 7, 2)) rfl
theorem dX1_measure_75 : decode cX1_measure 75 = .ok (.aload_n 0, 1) := dget daX1_measure_1 2 (q := (75, .aload_n 0, 1)) rfl
theorem dX1_measure_76 : decode cX1_measure 76 = .ok (.getfield 31, 3) := dget daX1_measure_1 3 (q := (76, .getfield 31, 3)) rfl
theorem dX1_measure_79 : decode cX1_measure 79 = .ok (.iload 5, 2) := dget daX1_measure_1 4 (q := (79, .iload 5, 2)) rfl
theorem dX1_measure_81 : decode cX1_measure 81 = .ok (.iload 6, 2) := dget daX1_measure_1 5 (q := (81, .iload 6, 2)) rfl
theorem dX1_measure_83 : decode cX1_measure 83 = .ok (.ifCond .eq 8, 3) := dget daX1_measure_1 6 (q := (83, .ifCond .eq 8, 3)) rfl
theorem dX1_measure_86 : decode cX1_measure 86 = .ok (.iload 7, 2) := dget daX1_measure_1 7 (q := (86, .iload 7, 2)) rfl
theorem dX1_measure_88 : decode cX1_measure 88 = .ok (.goto 4, 3) := dget daX1_measure_1 8 (q := (88, .goto 4, 3)) rfl
theorem dX1_measure_91 : decode cX1_measure 91 = .ok (.iconst (-1), 1) := dget daX1_measure_1 9 (q := (91, .iconst (-1), 1)) rfl
theorem dX1_measure_92 : decode cX1_measure 92 = .ok (.iastore, 1) := dget daX1_measure_1 10 (q := (92, .iastore, 1)) rfl
theorem dX1_measure_93 : decode cX1_measure 93 = .ok (.iinc 5 1, 3) := dget daX1_measure_1 11 (q := (93, .iinc 5 1, 3)) rfl
theorem dX1_measure_96 : decode cX1_measure 96 = .ok (.goto (-93), 3) := dget daX1_measure_1 12 (q := (96, .goto (-93), 3)) rfl
theorem dX1_measure_99 : decode cX1_measure 99 = .ok (.return_, 1) := dget daX1_measure_1 13 (q := (99, .return_, 1)) rfl
def tdaX1_choose_0 : List (Nat × (Instr × Nat)) := [(0, .aload_n 0, 1), (1, .iconst 0, 1), (2, .putfield 44, 3), (5, .aload_n 0, 1), (6, .iconst 0, 1), (7, .putfield 47, 3), (10, .aload_n 0, 1), (11, .iconst 0, 1), (12, .putfield 50, 3), (15, .iconst 0, 1), (16, .istore_n 2, 1), (17, .iload_n 2, 1), (18, .iload_n 1, 1), (19, .if_icmp .ge 72, 3), (22, .aload_n 0, 1), (23, .invokevirtual 53, 3), (26, .istore_n 3, 1), (27, .iload_n 3, 1), (28, .bipush (-9), 2), (30, .if_icmp .ne 4, 3), (33, .return_, 1), (34, .aload_n 0, 1), (35, .dup, 1), (36, .getfield 44, 3), (39, .iconst 1, 1), (40, .iadd, 1), (41, .putfield 44, 3), (44, .aload_n 0, 1), (45, .getfield 24, 3), (48, .iload_n 3, 1), (49, .baload, 1), (50, .ifCond .eq 13, 3), (53, .aload_n 0, 1), (54, .dup, 1), (55, .getfield 47, 3), (58, .iconst 1, 1), (59, .iadd, 1), (60, .putfield 47, 3), (63, .aload_n 0, 1), (64, .dup, 1)]
theorem daX1_choose_0 : tdaX1_choose_0.all (fun q => decide (decode cX1_choose q.1 = .ok q.2)) = true := by decide +kernel
theorem dX1_choose_0 : decode cX1_choose 0 = .ok (.aload_n 0, 1) := dget daX1_choose_0 0 (q := (0, .aload_n 0, 1)) rfl
theorem dX1_choose_1 : decode cX1_choose 1 = .ok (.iconst 0, 1) := dget daX1_choose_0 1 (q := (1, .iconst 0, 1)) rfl
theorem dX1_choose_2 : decode cX1_choose 2 = .ok (.putfield 44, 3) := dget daX1_choose_0 2 (q := (2, .putfield 44, 3)) rfl
theorem dX1_choose_5 : decode cX1_choose 5 = .ok (.aload_n 0, 1) := dget daX1_choose_0 3 (q := (5, .aload_n 0, 1)) rfl
theorem dX1_choose_6 : decode cX1_choose 6 = .ok (.iconst 0, 1) := dget daX1_choose_0 4 (q := (6, .iconst 0, 1)) rfl
theorem dX1_choose_7 : decode cX1_choose 7 = .ok (.putfield 47, 3) := dget daX1_choose_0 5 (q := (7, .putfield 47, 3)) rfl
theorem dX1_choose_10 : decode cX1_choose 10 = .ok (.aload_n 0, 1) := dget daX1_choose_0 6 (q := (10, .aload_n 0, 1)) rfl
theorem dX1_choose_11 : decode cX1_choose 11 = .ok (.iconst 0, 1) := dget daX1_choose_0 7 (q := (11, .iconst 0, 1)) rfl
theorem dX1_choose_12 : decode cX1_choose 12 = .ok (.putfield 50, 3) := dget daX1_choose_0 8 (q := (12, .putfield 50, 3)) rfl
theorem dX1_choose_15 : decode cX1_choose 15 = .ok (.iconst 0, 1) := dget daX1_choose_0 9 (q := (15, .iconst 0, 1)) rfl
theorem dX1_choose_16 : decode cX1_choose 16 = .ok (.istore_n 2, 1) := dget daX1_choose_0 10 (q := (16, .istore_n 2, 1)) rfl
theorem dX1_choose_17 : decode cX1_choose 17 = .ok (.iload_n 2, 1) := dget daX1_choose_0 11 (q := (17, .iload_n 2, 1)) rfl
theorem dX1_choose_18 : decode cX1_choose 18 = .ok (.iload_n 1, 1) := dget daX1_choose_0 12 (q := (18, .iload_n 1, 1)) rfl
theorem dX1_choose_19 : decode cX1_choose 19 = .ok (.if_icmp .ge 72, 3) := dget daX1_choose_0 13 (q := (19, .if_icmp .ge 72, 3)) rfl
theorem dX1_choose_22 : decode cX1_choose 22 = .ok (.aload_n 0, 1) := dget daX1_choose_0 14 (q := (22, .aload_n 0, 1)) rfl
theorem dX1_choose_23 : decode cX1_choose 23 = .ok (.invokevirtual 53, 3) := dget daX1_choose_0 15 (q := (23, .invokevirtual 53, 3)) rfl
theorem dX1_choose_26 : decode cX1_choose 26 = .ok (.istore_n 3, 1) := dget daX1_choose_0 16 (q := (26, .istore_n 3, 1)) rfl
theorem dX1_choose_27 : decode cX1_choose 27 = .ok (.iload_n 3, 1) := dget daX1_choose_0 17 (q := (27, .iload_n 3, 1)) rfl
theorem dX1_choose_28 : decode cX1_choose 28 = .ok (.bipush (-9), 2) := dget daX1_choose_0 18 (q := (28, .bipush (-9), 2)) rfl
theorem dX1_choose_30 : decode cX1_choose 30 = .ok (.if_icmp .ne 4, 3) := dget daX1_choose_0 19 (q := (30, .if_icmp .ne 4, 3)) rfl
theorem dX1_choose_33 : decode cX1_choose 33 = .ok (.return_, 1) := dget daX1_choose_0 20 (q := (33, .return_, 1)) rfl
theorem dX1_choose_34 : decode cX1_choose 34 = .ok (.aload_n 0, 1) := dget daX1_choose_0 21 (q := (34, .aload_n 0, 1)) rfl
theorem dX1_choose_35 : decode cX1_choose 35 = .ok (.dup, 1) := dget daX1_choose_0 22 (q := (35, .dup, 1)) rfl
theorem dX1_choose_36 : decode cX1_choose 36 = .ok (.getfield 44, 3) := dget daX1_choose_0 23 (q := (36, .getfield 44, 3)) rfl
theorem dX1_choose_39 : decode cX1_choose 39 = .ok (.iconst 1, 1) := dget daX1_choose_0 24 (q := (39, .iconst 1, 1)) rfl
theorem dX1_choose_40 : decode cX1_choose 40 = .ok (.iadd, 1) := dget daX1_choose_0 25 (q := (40, .iadd, 1)) rfl
theorem dX1_choose_41 : decode cX1_choose 41 = .ok (.putfield 44, 3) := dget daX1_choose_0 26 (q := (41, .putfield 44, 3)) rfl
theorem dX1_choose_44 : decode cX1_choose 44 = .ok (.aload_n 0, 1) := dget daX1_choose_0 27 (q := (44, .aload_n 0, 1)) rfl
theorem dX1_choose_45 : decode cX1_choose 45 = .ok (.getfield 24, 3) := dget daX1_choose_0 28 (q := (45, .getfield 24, 3)) rfl
theorem dX1_choose_48 : decode cX1_choose 48 = .ok (.iload_n 3, 1) := dget daX1_choose_0 29 (q := (48, .iload_n 3, 1)) rfl
theorem dX1_choose_49 : decode cX1_choose 49 = .ok (.baload, 1) := dget daX1_choose_0 30 (q := (49, .baload, 1)) rfl
theorem dX1_choose_50 : decode cX1_choose 50 = .ok (.ifCond .eq 13, 3) := dget daX1_choose_0 31 (q := (50, .ifCond .eq 13, 3)) rfl
theorem dX1_choose_53 : decode cX1_choose 53 = .ok (.aload_n 0, 1) := dget daX1_choose_0 32 (q := (53, .aload_n 0, 1)) rfl
theorem dX1_choose_54 : decode cX1_choose 54 = .ok (.dup, 1) := dget daX1_choose_0 33 (q := (54, .dup, 1)) rfl
theorem dX1_choose_55 : decode cX1_choose 55 = .ok (.getfield 47, 3) := dget daX1_choose_0 34 (q := (55, .getfield 47, 3)) rfl
theorem dX1_choose_58 : decode cX1_choose 58 = .ok (.iconst 1, 1) := dget daX1_choose_0 35 (q := (58, .iconst 1, 1)) rfl
theorem dX1_choose_59 : decode cX1_choose 59 = .ok (.iadd, 1) := dget daX1_choose_0 36 (q := (59, .iadd, 1)) rfl
theorem dX1_choose_60 : decode cX1_choose 60 = .ok (.putfield 47, 3) := dget daX1_choose_0 37 (q := (60, .putfield 47, 3)) rfl
theorem dX1_choose_63 : decode cX1_choose 63 = .ok (.aload_n 0, 1) := dget daX1_choose_0 38 (q := (63, .aload_n 0, 1)) rfl
theorem dX1_choose_64 : decode cX1_choose 64 = .ok (.dup, 1) := dget daX1_choose_0 39 (q := (64, .dup, 1)) rfl
def tdaX1_choose_1 : List (Nat × (Instr × Nat)) := [(65, .getfield 50, 3), (68, .aload_n 0, 1), (69, .getfield 28, 3), (72, .iload_n 3, 1), (73, .iaload, 1), (74, .iadd, 1), (75, .putfield 50, 3), (78, .aload_n 0, 1), (79, .getfield 31, 3), (82, .iload_n 3, 1), (83, .iconst (-1), 1), (84, .iastore, 1), (85, .iinc 2 1, 3), (88, .goto (-71), 3), (91, .return_, 1)]
theorem daX1_choose_1 : tdaX1_choose_1.all (fun q => decide (decode cX1_choose q.1 = .ok q.2)) = true := by decide +kernel
theorem dX1_choose_65 : decode cX1_choose 65 = .ok (.getfield 50, 3) := dget daX1_choose_1 0 (q := (65, .getfield 50, 3)) rfl
theorem dX1_choose_68 : decode cX1_choose 68 = .ok (.aload_n 0, 1) := dget daX1_choose_1 1 (q := (68, .aload_n 0, 1)) rfl
theorem dX1_choose_69 : decode cX1_choose 69 = .ok (.getfield 28, 3) := dget daX1_choose_1 2 (q := (69, .getfield 28, 3)) rfl
theorem dX1_choose_72 : decode cX1_choose 72 = .ok (.iload_n 3, 1) := dget daX1_choose_1 3 (q := (72, .iload_n 3, 1)) rfl
theorem dX1_choose_73 : decode cX1_choose 73 = .ok (.iaload, 1) := dget daX1_choose_1 4 (q := (73, .iaload, 1)) rfl
theorem dX1_choose_74 : decode cX1_choose 74 = .ok (.iadd, 1) := dget daX1_choose_1 5 (q := (74, .iadd, 1)) rfl
theorem dX1_choose_75 : decode cX1_choose 75 = .ok (.putfield 50, 3) := dget daX1_choose_1 6 (q := (75, .putfield 50, 3)) rfl
theorem dX1_choose_78 : decode cX1_choose 78 = .ok (.aload_n 0, 1) := dget daX1_choose_1 7 (q := (78, .aload_n 0, 1)) rfl
theorem dX1_choose_79 : decode cX1_choose 79 = .ok (.getfield 31, 3) := dget daX1_choose_1 8 (q := (79, .getfield 31, 3)) rfl
theorem dX1_choose_82 : decode cX1_choose 82 = .ok (.iload_n 3, 1) := dget daX1_choose_1 9 (q := (82, .iload_n 3, 1)) rfl
theorem dX1_choose_83 : decode cX1_choose 83 = .ok (.iconst (-1), 1) := dget daX1_choose_1 10 (q := (83, .iconst (-1), 1)) rfl
theorem dX1_choose_84 : decode cX1_choose 84 = .ok (.iastore, 1) := dget daX1_choose_1 11 (q := (84, .iastore, 1)) rfl
theorem dX1_choose_85 : decode cX1_choose 85 = .ok (.iinc 2 1, 3) := dget daX1_choose_1 12 (q := (85, .iinc 2 1, 3)) rfl
theorem dX1_choose_88 : decode cX1_choose 88 = .ok (.goto (-71), 3) := dget daX1_choose_1 13 (q := (88, .goto (-71), 3)) rfl
theorem dX1_choose_91 : decode cX1_choose 91 = .ok (.return_, 1) := dget daX1_choose_1 14 (q := (91, .return_, 1)) rfl
def tdaX1_leastFar_0 : List (Nat × (Instr × Nat)) := [(0, .bipush (-9), 2), (2, .istore_n 1, 1), (3, .iconst 0, 1), (4, .istore_n 2, 1), (5, .iload_n 2, 1), (6, .aload_n 0, 1), (7, .getfield 34, 3), (10, .if_icmp .ge 45, 3), (13, .aload_n 0, 1), (14, .getfield 31, 3), (17, .iload_n 2, 1), (18, .iaload, 1), (19, .iconst (-1), 1), (20, .if_icmp .ne 6, 3), (23, .goto 26, 3), (26, .iload_n 1, 1), (27, .bipush (-9), 2), (29, .if_icmp .eq 18, 3), (32, .aload_n 0, 1), (33, .getfield 31, 3), (36, .iload_n 2, 1), (37, .iaload, 1), (38, .aload_n 0, 1), (39, .getfield 31, 3), (42, .iload_n 1, 1), (43, .iaload, 1), (44, .if_icmp .ge 5, 3), (47, .iload_n 2, 1), (48, .istore_n 1, 1), (49, .iinc 2 1, 3), (52, .goto (-47), 3), (55, .iload_n 1, 1), (56, .ireturn, 1)]
theorem daX1_leastFar_0 : tdaX1_leastFar_0.all (fun q => decide (decode cX1_leastFar q.1 = .ok q.2)) = true := by decide +kernel
theorem dX1_leastFar_0 : decode cX1_leastFar 0 = .ok (.bipush (-9), 2) := dget daX1_leastFar_0 0 (q := (0, .bipush (-9), 2)) rfl
theorem dX1_leastFar_2 : decode cX1_leastFar 2 = .ok (.istore_n 1, 1) := dget daX1_leastFar_0 1 (q := (2, .istore_n 1, 1)) rfl
theorem dX1_leastFar_3 : decode cX1_leastFar 3 = .ok (.iconst 0, 1) := dget daX1_leastFar_0 2 (q := (3, .iconst 0, 1)) rfl
theorem dX1_leastFar_4 : decode cX1_leastFar 4 = .ok (.istore_n 2, 1) := dget daX1_leastFar_0 3 (q := (4, .istore_n 2, 1)) rfl
theorem dX1_leastFar_5 : decode cX1_leastFar 5 = .ok (.iload_n 2, 1) := dget daX1_leastFar_0 4 (q := (5, .iload_n 2, 1)) rfl
theorem dX1_leastFar_6 : decode cX1_leastFar 6 = .ok (.aload_n 0, 1) := dget daX1_leastFar_0 5 (q := (6, .aload_n 0, 1)) rfl
theorem dX1_leastFar_7 : decode cX1_leastFar 7 = .ok (.getfield 34, 3) := dget daX1_leastFar_0 6 (q := (7, .getfield 34, 3)) rfl
theorem dX1_leastFar_10 : decode cX1_leastFar 10 = .ok (.if_icmp .ge 45, 3) := dget daX1_leastFar_0 7 (q := (10, .if_icmp .ge 45, 3)) rfl
theorem dX1_leastFar_13 : decode cX1_leastFar 13 = .ok (.aload_n 0, 1) := dget daX1_leastFar_0 8 (q := (13, .aload_n 0, 1)) rfl
theorem dX1_leastFar_14 : decode cX1_leastFar 14 = .ok (.getfield 31, 3) := dget daX1_leastFar_0 9 (q := (14, .getfield 31, 3)) rfl
theorem dX1_leastFar_17 : decode cX1_leastFar 17 = .ok (.iload_n 2, 1) := dget daX1_leastFar_0 10 (q := (17, .iload_n 2, 1)) rfl
theorem dX1_leastFar_18 : decode cX1_leastFar 18 = .ok (.iaload, 1) := dget daX1_leastFar_0 11 (q := (18, .iaload, 1)) rfl
theorem dX1_leastFar_19 : decode cX1_leastFar 19 = .ok (.iconst (-1), 1) := dget daX1_leastFar_0 12 (q := (19, .iconst (-1), 1)) rfl
theorem dX1_leastFar_20 : decode cX1_leastFar 20 = .ok (.if_icmp .ne 6, 3) := dget daX1_leastFar_0 13 (q := (20, .if_icmp .ne 6, 3)) rfl
theorem dX1_leastFar_23 : decode cX1_leastFar 23 = .ok (.goto 26, 3) := dget daX1_leastFar_0 14 (q := (23, .goto 26, 3)) rfl
theorem dX1_leastFar_26 : decode cX1_leastFar 26 = .ok (.iload_n 1, 1) := dget daX1_leastFar_0 15 (q := (26, .iload_n 1, 1)) rfl
theorem dX1_leastFar_27 : decode cX1_leastFar 27 = .ok (.bipush (-9), 2) := dget daX1_leastFar_0 16 (q := (27, .bipush (-9), 2)) rfl
theorem dX1_leastFar_29 : decode cX1_leastFar 29 = .ok (.if_icmp .eq 18, 3) := dget daX1_leastFar_0 17 (q := (29, .if_icmp .eq 18, 3)) rfl
theorem dX1_leastFar_32 : decode cX1_leastFar 32 = .ok (.aload_n 0, 1) := dget daX1_leastFar_0 18 (q := (32, .aload_n 0, 1)) rfl
theorem dX1_leastFar_33 : decode cX1_leastFar 33 = .ok (.getfield 31, 3) := dget daX1_leastFar_0 19 (q := (33, .getfield 31, 3)) rfl
theorem dX1_leastFar_36 : decode cX1_leastFar 36 = .ok (.iload_n 2, 1) := dget daX1_leastFar_0 20 (q := (36, .iload_n 2, 1)) rfl
theorem dX1_leastFar_37 : decode cX1_leastFar 37 = .ok (.iaload, 1) := dget daX1_leastFar_0 21 (q := (37, .iaload, 1)) rfl
theorem dX1_leastFar_38 : decode cX1_leastFar 38 = .ok (.aload_n 0, 1) := dget daX1_leastFar_0 22 (q := (38, .aload_n 0, 1)) rfl
theorem dX1_leastFar_39 : decode cX1_leastFar 39 = .ok (.getfield 31, 3) := dget daX1_leastFar_0 23 (q := (39, .getfield 31, 3)) rfl
theorem dX1_leastFar_42 : decode cX1_leastFar 42 = .ok (.iload_n 1, 1) := dget daX1_leastFar_0 24 (q := (42, .iload_n 1, 1)) rfl
theorem dX1_leastFar_43 : decode cX1_leastFar 43 = .ok (.iaload, 1) := dget daX1_leastFar_0 25 (q := (43, .iaload, 1)) rfl
theorem dX1_leastFar_44 : decode cX1_leastFar 44 = .ok (.if_icmp .ge 5, 3) := dget daX1_leastFar_0 26 (q := (44, .if_icmp .ge 5, 3)) rfl
theorem dX1_leastFar_47 : decode cX1_leastFar 47 = .ok (.iload_n 2, 1) := dget daX1_leastFar_0 27 (q := (47, .iload_n 2, 1)) rfl
theorem dX1_leastFar_48 : decode cX1_leastFar 48 = .ok (.istore_n 1, 1) := dget daX1_leastFar_0 28 (q := (48, .istore_n 1, 1)) rfl
theorem dX1_leastFar_49 : decode cX1_leastFar 49 = .ok (.iinc 2 1, 3) := dget daX1_leastFar_0 29 (q := (49, .iinc 2 1, 3)) rfl
theorem dX1_leastFar_52 : decode cX1_leastFar 52 = .ok (.goto (-47), 3) := dget daX1_leastFar_0 30 (q := (52, .goto (-47), 3)) rfl
theorem dX1_leastFar_55 : decode cX1_leastFar 55 = .ok (.iload_n 1, 1) := dget daX1_leastFar_0 31 (q := (55, .iload_n 1, 1)) rfl
theorem dX1_leastFar_56 : decode cX1_leastFar 56 = .ok (.ireturn, 1) := dget daX1_leastFar_0 32 (q := (56, .ireturn, 1)) rfl
def tdaX1_goingOnTimesChosen_0 : List (Nat × (Instr × Nat)) := [(0, .iload_n 1, 1), (1, .aload_n 0, 1), (2, .getfield 47, 3), (5, .imul, 1), (6, .aload_n 0, 1), (7, .getfield 50, 3), (10, .isub, 1), (11, .ireturn, 1)]
theorem daX1_goingOnTimesChosen_0 : tdaX1_goingOnTimesChosen_0.all (fun q => decide (decode cX1_goingOnTimesChosen q.1 = .ok q.2)) = true := by decide +kernel
theorem dX1_goingOnTimesChosen_0 : decode cX1_goingOnTimesChosen 0 = .ok (.iload_n 1, 1) := dget daX1_goingOnTimesChosen_0 0 (q := (0, .iload_n 1, 1)) rfl
theorem dX1_goingOnTimesChosen_1 : decode cX1_goingOnTimesChosen 1 = .ok (.aload_n 0, 1) := dget daX1_goingOnTimesChosen_0 1 (q := (1, .aload_n 0, 1)) rfl
theorem dX1_goingOnTimesChosen_2 : decode cX1_goingOnTimesChosen 2 = .ok (.getfield 47, 3) := dget daX1_goingOnTimesChosen_0 2 (q := (2, .getfield 47, 3)) rfl
theorem dX1_goingOnTimesChosen_5 : decode cX1_goingOnTimesChosen 5 = .ok (.imul, 1) := dget daX1_goingOnTimesChosen_0 3 (q := (5, .imul, 1)) rfl
theorem dX1_goingOnTimesChosen_6 : decode cX1_goingOnTimesChosen 6 = .ok (.aload_n 0, 1) := dget daX1_goingOnTimesChosen_0 4 (q := (6, .aload_n 0, 1)) rfl
theorem dX1_goingOnTimesChosen_7 : decode cX1_goingOnTimesChosen 7 = .ok (.getfield 50, 3) := dget daX1_goingOnTimesChosen_0 5 (q := (7, .getfield 50, 3)) rfl
theorem dX1_goingOnTimesChosen_10 : decode cX1_goingOnTimesChosen 10 = .ok (.isub, 1) := dget daX1_goingOnTimesChosen_0 6 (q := (10, .isub, 1)) rfl
theorem dX1_goingOnTimesChosen_11 : decode cX1_goingOnTimesChosen 11 = .ok (.ireturn, 1) := dget daX1_goingOnTimesChosen_0 7 (q := (11, .ireturn, 1)) rfl
def tdaX2_init_0 : List (Nat × (Instr × Nat)) := [(0, .aload_n 0, 1), (1, .invokespecial 3, 3), (4, .aload_n 0, 1), (5, .aload_n 1, 1), (6, .putfield 9, 3), (9, .aload_n 0, 1), (10, .iload_n 2, 1), (11, .putfield 15, 3), (14, .aload_n 0, 1), (15, .iconst 5, 1), (16, .newarray .int, 2), (18, .putfield 19, 3), (21, .return_, 1)]
theorem daX2_init_0 : tdaX2_init_0.all (fun q => decide (decode cX2_init q.1 = .ok q.2)) = true := by decide +kernel
theorem dX2_init_0 : decode cX2_init 0 = .ok (.aload_n 0, 1) := dget daX2_init_0 0 (q := (0, .aload_n 0, 1)) rfl
theorem dX2_init_1 : decode cX2_init 1 = .ok (.invokespecial 3, 3) := dget daX2_init_0 1 (q := (1, .invokespecial 3, 3)) rfl
theorem dX2_init_4 : decode cX2_init 4 = .ok (.aload_n 0, 1) := dget daX2_init_0 2 (q := (4, .aload_n 0, 1)) rfl
theorem dX2_init_5 : decode cX2_init 5 = .ok (.aload_n 1, 1) := dget daX2_init_0 3 (q := (5, .aload_n 1, 1)) rfl
theorem dX2_init_6 : decode cX2_init 6 = .ok (.putfield 9, 3) := dget daX2_init_0 4 (q := (6, .putfield 9, 3)) rfl
theorem dX2_init_9 : decode cX2_init 9 = .ok (.aload_n 0, 1) := dget daX2_init_0 5 (q := (9, .aload_n 0, 1)) rfl
theorem dX2_init_10 : decode cX2_init 10 = .ok (.iload_n 2, 1) := dget daX2_init_0 6 (q := (10, .iload_n 2, 1)) rfl
theorem dX2_init_11 : decode cX2_init 11 = .ok (.putfield 15, 3) := dget daX2_init_0 7 (q := (11, .putfield 15, 3)) rfl
theorem dX2_init_14 : decode cX2_init 14 = .ok (.aload_n 0, 1) := dget daX2_init_0 8 (q := (14, .aload_n 0, 1)) rfl
theorem dX2_init_15 : decode cX2_init 15 = .ok (.iconst 5, 1) := dget daX2_init_0 9 (q := (15, .iconst 5, 1)) rfl
theorem dX2_init_16 : decode cX2_init 16 = .ok (.newarray .int, 2) := dget daX2_init_0 10 (q := (16, .newarray .int, 2)) rfl
theorem dX2_init_18 : decode cX2_init 18 = .ok (.putfield 19, 3) := dget daX2_init_0 11 (q := (18, .putfield 19, 3)) rfl
theorem dX2_init_21 : decode cX2_init 21 = .ok (.return_, 1) := dget daX2_init_0 12 (q := (21, .return_, 1)) rfl
def tdaX2_partOf_0 : List (Nat × (Instr × Nat)) := [(0, .iload_n 2, 1), (1, .istore_n 3, 1), (2, .iconst 0, 1), (3, .istore 4, 2), (5, .iconst 0, 1), (6, .istore 5, 2), (8, .iload 5, 2), (10, .iconst 5, 1), (11, .if_icmp .ge 36, 3), (14, .iload 5, 2), (16, .iload_n 1, 1), (17, .if_icmp .gt 30, 3), (20, .aload_n 0, 1), (21, .getfield 9, 3), (24, .getfield 23, 3), (27, .iload 5, 2), (29, .iaload, 1), (30, .iload_n 3, 1), (31, .invokestatic 28, 3), (34, .istore 4, 2), (36, .iload_n 3, 1), (37, .iload 4, 2), (39, .isub, 1), (40, .istore_n 3, 1), (41, .iinc 5 1, 3), (44, .goto (-36), 3), (47, .iload 4, 2), (49, .ireturn, 1)]
theorem daX2_partOf_0 : tdaX2_partOf_0.all (fun q => decide (decode cX2_partOf q.1 = .ok q.2)) = true := by decide +kernel
theorem dX2_partOf_0 : decode cX2_partOf 0 = .ok (.iload_n 2, 1) := dget daX2_partOf_0 0 (q := (0, .iload_n 2, 1)) rfl
theorem dX2_partOf_1 : decode cX2_partOf 1 = .ok (.istore_n 3, 1) := dget daX2_partOf_0 1 (q := (1, .istore_n 3, 1)) rfl
theorem dX2_partOf_2 : decode cX2_partOf 2 = .ok (.iconst 0, 1) := dget daX2_partOf_0 2 (q := (2, .iconst 0, 1)) rfl
theorem dX2_partOf_3 : decode cX2_partOf 3 = .ok (.istore 4, 2) := dget daX2_partOf_0 3 (q := (3, .istore 4, 2)) rfl
theorem dX2_partOf_5 : decode cX2_partOf 5 = .ok (.iconst 0, 1) := dget daX2_partOf_0 4 (q := (5, .iconst 0, 1)) rfl
theorem dX2_partOf_6 : decode cX2_partOf 6 = .ok (.istore 5, 2) := dget daX2_partOf_0 5 (q := (6, .istore 5, 2)) rfl
theorem dX2_partOf_8 : decode cX2_partOf 8 = .ok (.iload 5, 2) := dget daX2_partOf_0 6 (q := (8, .iload 5, 2)) rfl
theorem dX2_partOf_10 : decode cX2_partOf 10 = .ok (.iconst 5, 1) := dget daX2_partOf_0 7 (q := (10, .iconst 5, 1)) rfl
theorem dX2_partOf_11 : decode cX2_partOf 11 = .ok (.if_icmp .ge 36, 3) := dget daX2_partOf_0 8 (q := (11, .if_icmp .ge 36, 3)) rfl
theorem dX2_partOf_14 : decode cX2_partOf 14 = .ok (.iload 5, 2) := dget daX2_partOf_0 9 (q := (14, .iload 5, 2)) rfl
theorem dX2_partOf_16 : decode cX2_partOf 16 = .ok (.iload_n 1, 1) := dget daX2_partOf_0 10 (q := (16, .iload_n 1, 1)) rfl
theorem dX2_partOf_17 : decode cX2_partOf 17 = .ok (.if_icmp .gt 30, 3) := dget daX2_partOf_0 11 (q := (17, .if_icmp .gt 30, 3)) rfl
theorem dX2_partOf_20 : decode cX2_partOf 20 = .ok (.aload_n 0, 1) := dget daX2_partOf_0 12 (q := (20, .aload_n 0, 1)) rfl
theorem dX2_partOf_21 : decode cX2_partOf 21 = .ok (.getfield 9, 3) := dget daX2_partOf_0 13 (q := (21, .getfield 9, 3)) rfl
theorem dX2_partOf_24 : decode cX2_partOf 24 = .ok (.getfield 23, 3) := dget daX2_partOf_0 14 (q := (24, .getfield 23, 3)) rfl
theorem dX2_partOf_27 : decode cX2_partOf 27 = .ok (.iload 5, 2) := dget daX2_partOf_0 15 (q := (27, .iload 5, 2)) rfl
theorem dX2_partOf_29 : decode cX2_partOf 29 = .ok (.iaload, 1) := dget daX2_partOf_0 16 (q := (29, .iaload, 1)) rfl
theorem dX2_partOf_30 : decode cX2_partOf 30 = .ok (.iload_n 3, 1) := dget daX2_partOf_0 17 (q := (30, .iload_n 3, 1)) rfl
theorem dX2_partOf_31 : decode cX2_partOf 31 = .ok (.invokestatic 28, 3) := dget daX2_partOf_0 18 (q := (31, .invokestatic 28, 3)) rfl
theorem dX2_partOf_34 : decode cX2_partOf 34 = .ok (.istore 4, 2) := dget daX2_partOf_0 19 (q := (34, .istore 4, 2)) rfl
theorem dX2_partOf_36 : decode cX2_partOf 36 = .ok (.iload_n 3, 1) := dget daX2_partOf_0 20 (q := (36, .iload_n 3, 1)) rfl
theorem dX2_partOf_37 : decode cX2_partOf 37 = .ok (.iload 4, 2) := dget daX2_partOf_0 21 (q := (37, .iload 4, 2)) rfl
theorem dX2_partOf_39 : decode cX2_partOf 39 = .ok (.isub, 1) := dget daX2_partOf_0 22 (q := (39, .isub, 1)) rfl
theorem dX2_partOf_40 : decode cX2_partOf 40 = .ok (.istore_n 3, 1) := dget daX2_partOf_0 23 (q := (40, .istore_n 3, 1)) rfl
theorem dX2_partOf_41 : decode cX2_partOf 41 = .ok (.iinc 5 1, 3) := dget daX2_partOf_0 24 (q := (41, .iinc 5 1, 3)) rfl
theorem dX2_partOf_44 : decode cX2_partOf 44 = .ok (.goto (-36), 3) := dget daX2_partOf_0 25 (q := (44, .goto (-36), 3)) rfl
theorem dX2_partOf_47 : decode cX2_partOf 47 = .ok (.iload 4, 2) := dget daX2_partOf_0 26 (q := (47, .iload 4, 2)) rfl
theorem dX2_partOf_49 : decode cX2_partOf 49 = .ok (.ireturn, 1) := dget daX2_partOf_0 27 (q := (49, .ireturn, 1)) rfl
def tdaX3_init_0 : List (Nat × (Instr × Nat)) := [(0, .aload_n 0, 1), (1, .invokespecial 3, 3), (4, .aload_n 0, 1), (5, .bipush 30, 2), (7, .anewarray 11, 3), (10, .putfield 13, 3), (13, .aload_n 0, 1), (14, .iconst 5, 1), (15, .newarray .int, 2), (17, .putfield 17, 3), (20, .aload_n 0, 1), (21, .bipush 32, 2), (23, .newarray .int, 2), (25, .putfield 21, 3), (28, .return_, 1)]
theorem daX3_init_0 : tdaX3_init_0.all (fun q => decide (decode cX3_init q.1 = .ok q.2)) = true := by decide +kernel
theorem dX3_init_0 : decode cX3_init 0 = .ok (.aload_n 0, 1) := dget daX3_init_0 0 (q := (0, .aload_n 0, 1)) rfl
theorem dX3_init_1 : decode cX3_init 1 = .ok (.invokespecial 3, 3) := dget daX3_init_0 1 (q := (1, .invokespecial 3, 3)) rfl
theorem dX3_init_4 : decode cX3_init 4 = .ok (.aload_n 0, 1) := dget daX3_init_0 2 (q := (4, .aload_n 0, 1)) rfl
theorem dX3_init_5 : decode cX3_init 5 = .ok (.bipush 30, 2) := dget daX3_init_0 3 (q := (5, .bipush 30, 2)) rfl
theorem dX3_init_7 : decode cX3_init 7 = .ok (.anewarray 11, 3) := dget daX3_init_0 4 (q := (7, .anewarray 11, 3)) rfl
theorem dX3_init_10 : decode cX3_init 10 = .ok (.putfield 13, 3) := dget daX3_init_0 5 (q := (10, .putfield 13, 3)) rfl
theorem dX3_init_13 : decode cX3_init 13 = .ok (.aload_n 0, 1) := dget daX3_init_0 6 (q := (13, .aload_n 0, 1)) rfl
theorem dX3_init_14 : decode cX3_init 14 = .ok (.iconst 5, 1) := dget daX3_init_0 7 (q := (14, .iconst 5, 1)) rfl
theorem dX3_init_15 : decode cX3_init 15 = .ok (.newarray .int, 2) := dget daX3_init_0 8 (q := (15, .newarray .int, 2)) rfl
theorem dX3_init_17 : decode cX3_init 17 = .ok (.putfield 17, 3) := dget daX3_init_0 9 (q := (17, .putfield 17, 3)) rfl
theorem dX3_init_20 : decode cX3_init 20 = .ok (.aload_n 0, 1) := dget daX3_init_0 10 (q := (20, .aload_n 0, 1)) rfl
theorem dX3_init_21 : decode cX3_init 21 = .ok (.bipush 32, 2) := dget daX3_init_0 11 (q := (21, .bipush 32, 2)) rfl
theorem dX3_init_23 : decode cX3_init 23 = .ok (.newarray .int, 2) := dget daX3_init_0 12 (q := (23, .newarray .int, 2)) rfl
theorem dX3_init_25 : decode cX3_init 25 = .ok (.putfield 21, 3) := dget daX3_init_0 13 (q := (25, .putfield 21, 3)) rfl
theorem dX3_init_28 : decode cX3_init 28 = .ok (.return_, 1) := dget daX3_init_0 14 (q := (28, .return_, 1)) rfl
def tdaX3_isFull_0 : List (Nat × (Instr × Nat)) := [(0, .aload_n 0, 1), (1, .getfield 24, 3), (4, .bipush 30, 2), (6, .if_icmp .lt 7, 3), (9, .iconst 1, 1), (10, .goto 4, 3), (13, .iconst 0, 1), (14, .ireturn, 1)]
theorem daX3_isFull_0 : tdaX3_isFull_0.all (fun q => decide (decode cX3_isFull q.1 = .ok q.2)) = true := by decide +kernel
theorem dX3_isFull_0 : decode cX3_isFull 0 = .ok (.aload_n 0, 1) := dget daX3_isFull_0 0 (q := (0, .aload_n 0, 1)) rfl
theorem dX3_isFull_1 : decode cX3_isFull 1 = .ok (.getfield 24, 3) := dget daX3_isFull_0 1 (q := (1, .getfield 24, 3)) rfl
theorem dX3_isFull_4 : decode cX3_isFull 4 = .ok (.bipush 30, 2) := dget daX3_isFull_0 2 (q := (4, .bipush 30, 2)) rfl
theorem dX3_isFull_6 : decode cX3_isFull 6 = .ok (.if_icmp .lt 7, 3) := dget daX3_isFull_0 3 (q := (6, .if_icmp .lt 7, 3)) rfl
theorem dX3_isFull_9 : decode cX3_isFull 9 = .ok (.iconst 1, 1) := dget daX3_isFull_0 4 (q := (9, .iconst 1, 1)) rfl
theorem dX3_isFull_10 : decode cX3_isFull 10 = .ok (.goto 4, 3) := dget daX3_isFull_0 5 (q := (10, .goto 4, 3)) rfl
theorem dX3_isFull_13 : decode cX3_isFull 13 = .ok (.iconst 0, 1) := dget daX3_isFull_0 6 (q := (13, .iconst 0, 1)) rfl
theorem dX3_isFull_14 : decode cX3_isFull 14 = .ok (.ireturn, 1) := dget daX3_isFull_0 7 (q := (14, .ireturn, 1)) rfl
def tdaX3_find_0 : List (Nat × (Instr × Nat)) := [(0, .aload_n 0, 1), (1, .getfield 24, 3), (4, .iload_n 1, 1), (5, .invokestatic 28, 3), (8, .ifCond .eq 12, 3), (11, .aload_n 0, 1), (12, .getfield 13, 3), (15, .iload_n 1, 1), (16, .aaload, 1), (17, .goto 4, 3), (20, .aconst_null, 1), (21, .areturn, 1)]
theorem daX3_find_0 : tdaX3_find_0.all (fun q => decide (decode cX3_find q.1 = .ok q.2)) = true := by decide +kernel
theorem dX3_find_0 : decode cX3_find 0 = .ok (.aload_n 0, 1) := dget daX3_find_0 0 (q := (0, .aload_n 0, 1)) rfl
theorem dX3_find_1 : decode cX3_find 1 = .ok (.getfield 24, 3) := dget daX3_find_0 1 (q := (1, .getfield 24, 3)) rfl
theorem dX3_find_4 : decode cX3_find 4 = .ok (.iload_n 1, 1) := dget daX3_find_0 2 (q := (4, .iload_n 1, 1)) rfl
theorem dX3_find_5 : decode cX3_find 5 = .ok (.invokestatic 28, 3) := dget daX3_find_0 3 (q := (5, .invokestatic 28, 3)) rfl
theorem dX3_find_8 : decode cX3_find 8 = .ok (.ifCond .eq 12, 3) := dget daX3_find_0 4 (q := (8, .ifCond .eq 12, 3)) rfl
theorem dX3_find_11 : decode cX3_find 11 = .ok (.aload_n 0, 1) := dget daX3_find_0 5 (q := (11, .aload_n 0, 1)) rfl
theorem dX3_find_12 : decode cX3_find 12 = .ok (.getfield 13, 3) := dget daX3_find_0 6 (q := (12, .getfield 13, 3)) rfl
theorem dX3_find_15 : decode cX3_find 15 = .ok (.iload_n 1, 1) := dget daX3_find_0 7 (q := (15, .iload_n 1, 1)) rfl
theorem dX3_find_16 : decode cX3_find 16 = .ok (.aaload, 1) := dget daX3_find_0 8 (q := (16, .aaload, 1)) rfl
theorem dX3_find_17 : decode cX3_find 17 = .ok (.goto 4, 3) := dget daX3_find_0 9 (q := (17, .goto 4, 3)) rfl
theorem dX3_find_20 : decode cX3_find 20 = .ok (.aconst_null, 1) := dget daX3_find_0 10 (q := (20, .aconst_null, 1)) rfl
theorem dX3_find_21 : decode cX3_find 21 = .ok (.areturn, 1) := dget daX3_find_0 11 (q := (21, .areturn, 1)) rfl
def tdaX3_add_0 : List (Nat × (Instr × Nat)) := [(0, .aload_n 0, 1), (1, .getfield 13, 3), (4, .aload_n 0, 1), (5, .getfield 24, 3), (8, .new 11, 3), (11, .dup, 1), (12, .aload_n 1, 1), (13, .iload_n 2, 1), (14, .invokespecial 32, 3), (17, .aastore, 1), (18, .aload_n 1, 1), (19, .iconst 1, 1), (20, .putfield 35, 3), (23, .aload_n 0, 1), (24, .dup, 1), (25, .getfield 24, 3), (28, .iconst 1, 1), (29, .iadd, 1), (30, .putfield 24, 3), (33, .aload_n 0, 1), (34, .getfield 24, 3), (37, .iconst 1, 1), (38, .isub, 1), (39, .ireturn, 1)]
theorem daX3_add_0 : tdaX3_add_0.all (fun q => decide (decode cX3_add q.1 = .ok q.2)) = true := by decide +kernel
theorem dX3_add_0 : decode cX3_add 0 = .ok (.aload_n 0, 1) := dget daX3_add_0 0 (q := (0, .aload_n 0, 1)) rfl
theorem dX3_add_1 : decode cX3_add 1 = .ok (.getfield 13, 3) := dget daX3_add_0 1 (q := (1, .getfield 13, 3)) rfl
theorem dX3_add_4 : decode cX3_add 4 = .ok (.aload_n 0, 1) := dget daX3_add_0 2 (q := (4, .aload_n 0, 1)) rfl
theorem dX3_add_5 : decode cX3_add 5 = .ok (.getfield 24, 3) := dget daX3_add_0 3 (q := (5, .getfield 24, 3)) rfl
theorem dX3_add_8 : decode cX3_add 8 = .ok (.new 11, 3) := dget daX3_add_0 4 (q := (8, .new 11, 3)) rfl
theorem dX3_add_11 : decode cX3_add 11 = .ok (.dup, 1) := dget daX3_add_0 5 (q := (11, .dup, 1)) rfl
theorem dX3_add_12 : decode cX3_add 12 = .ok (.aload_n 1, 1) := dget daX3_add_0 6 (q := (12, .aload_n 1, 1)) rfl
theorem dX3_add_13 : decode cX3_add 13 = .ok (.iload_n 2, 1) := dget daX3_add_0 7 (q := (13, .iload_n 2, 1)) rfl
theorem dX3_add_14 : decode cX3_add 14 = .ok (.invokespecial 32, 3) := dget daX3_add_0 8 (q := (14, .invokespecial 32, 3)) rfl
theorem dX3_add_17 : decode cX3_add 17 = .ok (.aastore, 1) := dget daX3_add_0 9 (q := (17, .aastore, 1)) rfl
theorem dX3_add_18 : decode cX3_add 18 = .ok (.aload_n 1, 1) := dget daX3_add_0 10 (q := (18, .aload_n 1, 1)) rfl
theorem dX3_add_19 : decode cX3_add 19 = .ok (.iconst 1, 1) := dget daX3_add_0 11 (q := (19, .iconst 1, 1)) rfl
theorem dX3_add_20 : decode cX3_add 20 = .ok (.putfield 35, 3) := dget daX3_add_0 12 (q := (20, .putfield 35, 3)) rfl
theorem dX3_add_23 : decode cX3_add 23 = .ok (.aload_n 0, 1) := dget daX3_add_0 13 (q := (23, .aload_n 0, 1)) rfl
theorem dX3_add_24 : decode cX3_add 24 = .ok (.dup, 1) := dget daX3_add_0 14 (q := (24, .dup, 1)) rfl
theorem dX3_add_25 : decode cX3_add 25 = .ok (.getfield 24, 3) := dget daX3_add_0 15 (q := (25, .getfield 24, 3)) rfl
theorem dX3_add_28 : decode cX3_add 28 = .ok (.iconst 1, 1) := dget daX3_add_0 16 (q := (28, .iconst 1, 1)) rfl
theorem dX3_add_29 : decode cX3_add 29 = .ok (.iadd, 1) := dget daX3_add_0 17 (q := (29, .iadd, 1)) rfl
theorem dX3_add_30 : decode cX3_add 30 = .ok (.putfield 24, 3) := dget daX3_add_0 18 (q := (30, .putfield 24, 3)) rfl
theorem dX3_add_33 : decode cX3_add 33 = .ok (.aload_n 0, 1) := dget daX3_add_0 19 (q := (33, .aload_n 0, 1)) rfl
theorem dX3_add_34 : decode cX3_add 34 = .ok (.getfield 24, 3) := dget daX3_add_0 20 (q := (34, .getfield 24, 3)) rfl
theorem dX3_add_37 : decode cX3_add 37 = .ok (.iconst 1, 1) := dget daX3_add_0 21 (q := (37, .iconst 1, 1)) rfl
theorem dX3_add_38 : decode cX3_add 38 = .ok (.isub, 1) := dget daX3_add_0 22 (q := (38, .isub, 1)) rfl
theorem dX3_add_39 : decode cX3_add 39 = .ok (.ireturn, 1) := dget daX3_add_0 23 (q := (39, .ireturn, 1)) rfl
def tdaX3_addToBalances_0 : List (Nat × (Instr × Nat)) := [(0, .iconst 0, 1), (1, .istore_n 3, 1), (2, .iload_n 3, 1), (3, .iconst 5, 1), (4, .if_icmp .ge 31, 3), (7, .aload_n 0, 1), (8, .getfield 17, 3), (11, .iload_n 3, 1), (12, .dup2, 1), (13, .iaload, 1), (14, .aload_n 1, 1), (15, .getfield 41, 3), (18, .iload_n 3, 1), (19, .iaload, 1), (20, .aload_n 1, 1), (21, .iload_n 3, 1), (22, .iload_n 2, 1), (23, .invokevirtual 44, 3), (26, .isub, 1), (27, .iadd, 1), (28, .iastore, 1), (29, .iinc 3 1, 3), (32, .goto (-30), 3), (35, .return_, 1)]
theorem daX3_addToBalances_0 : tdaX3_addToBalances_0.all (fun q => decide (decode cX3_addToBalances q.1 = .ok q.2)) = true := by decide +kernel
theorem dX3_addToBalances_0 : decode cX3_addToBalances 0 = .ok (.iconst 0, 1) := dget daX3_addToBalances_0 0 (q := (0, .iconst 0, 1)) rfl
theorem dX3_addToBalances_1 : decode cX3_addToBalances 1 = .ok (.istore_n 3, 1) := dget daX3_addToBalances_0 1 (q := (1, .istore_n 3, 1)) rfl
theorem dX3_addToBalances_2 : decode cX3_addToBalances 2 = .ok (.iload_n 3, 1) := dget daX3_addToBalances_0 2 (q := (2, .iload_n 3, 1)) rfl
theorem dX3_addToBalances_3 : decode cX3_addToBalances 3 = .ok (.iconst 5, 1) := dget daX3_addToBalances_0 3 (q := (3, .iconst 5, 1)) rfl
theorem dX3_addToBalances_4 : decode cX3_addToBalances 4 = .ok (.if_icmp .ge 31, 3) := dget daX3_addToBalances_0 4 (q := (4, .if_icmp .ge 31, 3)) rfl
theorem dX3_addToBalances_7 : decode cX3_addToBalances 7 = .ok (.aload_n 0, 1) := dget daX3_addToBalances_0 5 (q := (7, .aload_n 0, 1)) rfl
theorem dX3_addToBalances_8 : decode cX3_addToBalances 8 = .ok (.getfield 17, 3) := dget daX3_addToBalances_0 6 (q := (8, .getfield 17, 3)) rfl
theorem dX3_addToBalances_11 : decode cX3_addToBalances 11 = .ok (.iload_n 3, 1) := dget daX3_addToBalances_0 7 (q := (11, .iload_n 3, 1)) rfl
theorem dX3_addToBalances_12 : decode cX3_addToBalances 12 = .ok (.dup2, 1) := dget daX3_addToBalances_0 8 (q := (12, .dup2, 1)) rfl
theorem dX3_addToBalances_13 : decode cX3_addToBalances 13 = .ok (.iaload, 1) := dget daX3_addToBalances_0 9 (q := (13, .iaload, 1)) rfl
theorem dX3_addToBalances_14 : decode cX3_addToBalances 14 = .ok (.aload_n 1, 1) := dget daX3_addToBalances_0 10 (q := (14, .aload_n 1, 1)) rfl
theorem dX3_addToBalances_15 : decode cX3_addToBalances 15 = .ok (.getfield 41, 3) := dget daX3_addToBalances_0 11 (q := (15, .getfield 41, 3)) rfl
theorem dX3_addToBalances_18 : decode cX3_addToBalances 18 = .ok (.iload_n 3, 1) := dget daX3_addToBalances_0 12 (q := (18, .iload_n 3, 1)) rfl
theorem dX3_addToBalances_19 : decode cX3_addToBalances 19 = .ok (.iaload, 1) := dget daX3_addToBalances_0 13 (q := (19, .iaload, 1)) rfl
theorem dX3_addToBalances_20 : decode cX3_addToBalances 20 = .ok (.aload_n 1, 1) := dget daX3_addToBalances_0 14 (q := (20, .aload_n 1, 1)) rfl
theorem dX3_addToBalances_21 : decode cX3_addToBalances 21 = .ok (.iload_n 3, 1) := dget daX3_addToBalances_0 15 (q := (21, .iload_n 3, 1)) rfl
theorem dX3_addToBalances_22 : decode cX3_addToBalances 22 = .ok (.iload_n 2, 1) := dget daX3_addToBalances_0 16 (q := (22, .iload_n 2, 1)) rfl
theorem dX3_addToBalances_23 : decode cX3_addToBalances 23 = .ok (.invokevirtual 44, 3) := dget daX3_addToBalances_0 17 (q := (23, .invokevirtual 44, 3)) rfl
theorem dX3_addToBalances_26 : decode cX3_addToBalances 26 = .ok (.isub, 1) := dget daX3_addToBalances_0 18 (q := (26, .isub, 1)) rfl
theorem dX3_addToBalances_27 : decode cX3_addToBalances 27 = .ok (.iadd, 1) := dget daX3_addToBalances_0 19 (q := (27, .iadd, 1)) rfl
theorem dX3_addToBalances_28 : decode cX3_addToBalances 28 = .ok (.iastore, 1) := dget daX3_addToBalances_0 20 (q := (28, .iastore, 1)) rfl
theorem dX3_addToBalances_29 : decode cX3_addToBalances 29 = .ok (.iinc 3 1, 3) := dget daX3_addToBalances_0 21 (q := (29, .iinc 3 1, 3)) rfl
theorem dX3_addToBalances_32 : decode cX3_addToBalances 32 = .ok (.goto (-30), 3) := dget daX3_addToBalances_0 22 (q := (32, .goto (-30), 3)) rfl
theorem dX3_addToBalances_35 : decode cX3_addToBalances 35 = .ok (.return_, 1) := dget daX3_addToBalances_0 23 (q := (35, .return_, 1)) rfl
def tdaX3_fewestPayments_0 : List (Nat × (Instr × Nat)) := [(0, .bipush 31, 2), (2, .istore_n 1, 1), (3, .aload_n 0, 1), (4, .iload_n 1, 1), (5, .invokevirtual 48, 3), (8, .ifCond .eq 6, 3), (11, .bipush (-9), 2), (13, .ireturn, 1), (14, .iconst 1, 1), (15, .istore_n 2, 1), (16, .iload_n 2, 1), (17, .bipush 32, 2), (19, .if_icmp .ge 75, 3), (22, .iconst 0, 1), (23, .istore_n 3, 1), (24, .iconst 0, 1), (25, .istore 4, 2), (27, .iload 4, 2), (29, .iconst 5, 1), (30, .if_icmp .ge 37, 3), (33, .iload_n 2, 1), (34, .iconst 1, 1), (35, .iload 4, 2), (37, .ishl, 1), (38, .iconst (-1), 1), (39, .ixor, 1), (40, .iand, 1), (41, .istore 5, 2), (43, .iload 5, 2), (45, .iload_n 2, 1), (46, .if_icmp .eq 15, 3), (49, .iload_n 3, 1), (50, .aload_n 0, 1), (51, .getfield 21, 3), (54, .iload 5, 2), (56, .iaload, 1), (57, .invokestatic 52, 3), (60, .istore_n 3, 1), (61, .iinc 4 1, 3), (64, .goto (-37), 3)]
theorem daX3_fewestPayments_0 : tdaX3_fewestPayments_0.all (fun q => decide (decode cX3_fewestPayments q.1 = .ok q.2)) = true := by decide +kernel
theorem dX3_fewestPayments_0 : decode cX3_fewestPayments 0 = .ok (.bipush 31, 2) := dget daX3_fewestPayments_0 0 (q := (0, .bipush 31, 2)) rfl
theorem dX3_fewestPayments_2 : decode cX3_fewestPayments 2 = .ok (.istore_n 1, 1) := dget daX3_fewestPayments_0 1 (q := (2, .istore_n 1, 1)) rfl
theorem dX3_fewestPayments_3 : decode cX3_fewestPayments 3 = .ok (.aload_n 0, 1) := dget daX3_fewestPayments_0 2 (q := (3, .aload_n 0, 1)) rfl
theorem dX3_fewestPayments_4 : decode cX3_fewestPayments 4 = .ok (.iload_n 1, 1) := dget daX3_fewestPayments_0 3 (q := (4, .iload_n 1, 1)) rfl
theorem dX3_fewestPayments_5 : decode cX3_fewestPayments 5 = .ok (.invokevirtual 48, 3) := dget daX3_fewestPayments_0 4 (q := (5, .invokevirtual 48, 3)) rfl
theorem dX3_fewestPayments_8 : decode cX3_fewestPayments 8 = .ok (.ifCond .eq 6, 3) := dget daX3_fewestPayments_0 5 (q := (8, .ifCond .eq 6, 3)) rfl
theorem dX3_fewestPayments_11 : decode cX3_fewestPayments 11 = .ok (.bipush (-9), 2) := dget daX3_fewestPayments_0 6 (q := (11, .bipush (-9), 2)) rfl
theorem dX3_fewestPayments_13 : decode cX3_fewestPayments 13 = .ok (.ireturn, 1) := dget daX3_fewestPayments_0 7 (q := (13, .ireturn, 1)) rfl
theorem dX3_fewestPayments_14 : decode cX3_fewestPayments 14 = .ok (.iconst 1, 1) := dget daX3_fewestPayments_0 8 (q := (14, .iconst 1, 1)) rfl
theorem dX3_fewestPayments_15 : decode cX3_fewestPayments 15 = .ok (.istore_n 2, 1) := dget daX3_fewestPayments_0 9 (q := (15, .istore_n 2, 1)) rfl
theorem dX3_fewestPayments_16 : decode cX3_fewestPayments 16 = .ok (.iload_n 2, 1) := dget daX3_fewestPayments_0 10 (q := (16, .iload_n 2, 1)) rfl
theorem dX3_fewestPayments_17 : decode cX3_fewestPayments 17 = .ok (.bipush 32, 2) := dget daX3_fewestPayments_0 11 (q := (17, .bipush 32, 2)) rfl
theorem dX3_fewestPayments_19 : decode cX3_fewestPayments 19 = .ok (.if_icmp .ge 75, 3) := dget daX3_fewestPayments_0 12 (q := (19, .if_icmp .ge 75, 3)) rfl
theorem dX3_fewestPayments_22 : decode cX3_fewestPayments 22 = .ok (.iconst 0, 1) := dget daX3_fewestPayments_0 13 (q := (22, .iconst 0, 1)) rfl
theorem dX3_fewestPayments_23 : decode cX3_fewestPayments 23 = .ok (.istore_n 3, 1) := dget daX3_fewestPayments_0 14 (q := (23, .istore_n 3, 1)) rfl
theorem dX3_fewestPayments_24 : decode cX3_fewestPayments 24 = .ok (.iconst 0, 1) := dget daX3_fewestPayments_0 15 (q := (24, .iconst 0, 1)) rfl
theorem dX3_fewestPayments_25 : decode cX3_fewestPayments 25 = .ok (.istore 4, 2) := dget daX3_fewestPayments_0 16 (q := (25, .istore 4, 2)) rfl
theorem dX3_fewestPayments_27 : decode cX3_fewestPayments 27 = .ok (.iload 4, 2) := dget daX3_fewestPayments_0 17 (q := (27, .iload 4, 2)) rfl
theorem dX3_fewestPayments_29 : decode cX3_fewestPayments 29 = .ok (.iconst 5, 1) := dget daX3_fewestPayments_0 18 (q := (29, .iconst 5, 1)) rfl
theorem dX3_fewestPayments_30 : decode cX3_fewestPayments 30 = .ok (.if_icmp .ge 37, 3) := dget daX3_fewestPayments_0 19 (q := (30, .if_icmp .ge 37, 3)) rfl
theorem dX3_fewestPayments_33 : decode cX3_fewestPayments 33 = .ok (.iload_n 2, 1) := dget daX3_fewestPayments_0 20 (q := (33, .iload_n 2, 1)) rfl
theorem dX3_fewestPayments_34 : decode cX3_fewestPayments 34 = .ok (.iconst 1, 1) := dget daX3_fewestPayments_0 21 (q := (34, .iconst 1, 1)) rfl
theorem dX3_fewestPayments_35 : decode cX3_fewestPayments 35 = .ok (.iload 4, 2) := dget daX3_fewestPayments_0 22 (q := (35, .iload 4, 2)) rfl
theorem dX3_fewestPayments_37 : decode cX3_fewestPayments 37 = .ok (.ishl, 1) := dget daX3_fewestPayments_0 23 (q := (37, .ishl, 1)) rfl
theorem dX3_fewestPayments_38 : decode cX3_fewestPayments 38 = .ok (.iconst (-1), 1) := dget daX3_fewestPayments_0 24 (q := (38, .iconst (-1), 1)) rfl
theorem dX3_fewestPayments_39 : decode cX3_fewestPayments 39 = .ok (.ixor, 1) := dget daX3_fewestPayments_0 25 (q := (39, .ixor, 1)) rfl
theorem dX3_fewestPayments_40 : decode cX3_fewestPayments 40 = .ok (.iand, 1) := dget daX3_fewestPayments_0 26 (q := (40, .iand, 1)) rfl
theorem dX3_fewestPayments_41 : decode cX3_fewestPayments 41 = .ok (.istore 5, 2) := dget daX3_fewestPayments_0 27 (q := (41, .istore 5, 2)) rfl
theorem dX3_fewestPayments_43 : decode cX3_fewestPayments 43 = .ok (.iload 5, 2) := dget daX3_fewestPayments_0 28 (q := (43, .iload 5, 2)) rfl
theorem dX3_fewestPayments_45 : decode cX3_fewestPayments 45 = .ok (.iload_n 2, 1) := dget daX3_fewestPayments_0 29 (q := (45, .iload_n 2, 1)) rfl
theorem dX3_fewestPayments_46 : decode cX3_fewestPayments 46 = .ok (.if_icmp .eq 15, 3) := dget daX3_fewestPayments_0 30 (q := (46, .if_icmp .eq 15, 3)) rfl
theorem dX3_fewestPayments_49 : decode cX3_fewestPayments 49 = .ok (.iload_n 3, 1) := dget daX3_fewestPayments_0 31 (q := (49, .iload_n 3, 1)) rfl
theorem dX3_fewestPayments_50 : decode cX3_fewestPayments 50 = .ok (.aload_n 0, 1) := dget daX3_fewestPayments_0 32 (q := (50, .aload_n 0, 1)) rfl
theorem dX3_fewestPayments_51 : decode cX3_fewestPayments 51 = .ok (.getfield 21, 3) := dget daX3_fewestPayments_0 33 (q := (51, .getfield 21, 3)) rfl
theorem dX3_fewestPayments_54 : decode cX3_fewestPayments 54 = .ok (.iload 5, 2) := dget daX3_fewestPayments_0 34 (q := (54, .iload 5, 2)) rfl
theorem dX3_fewestPayments_56 : decode cX3_fewestPayments 56 = .ok (.iaload, 1) := dget daX3_fewestPayments_0 35 (q := (56, .iaload, 1)) rfl
theorem dX3_fewestPayments_57 : decode cX3_fewestPayments 57 = .ok (.invokestatic 52, 3) := dget daX3_fewestPayments_0 36 (q := (57, .invokestatic 52, 3)) rfl
theorem dX3_fewestPayments_60 : decode cX3_fewestPayments 60 = .ok (.istore_n 3, 1) := dget daX3_fewestPayments_0 37 (q := (60, .istore_n 3, 1)) rfl
theorem dX3_fewestPayments_61 : decode cX3_fewestPayments 61 = .ok (.iinc 4 1, 3) := dget daX3_fewestPayments_0 38 (q := (61, .iinc 4 1, 3)) rfl
theorem dX3_fewestPayments_64 : decode cX3_fewestPayments 64 = .ok (.goto (-37), 3) := dget daX3_fewestPayments_0 39 (q := (64, .goto (-37), 3)) rfl
def tdaX3_fewestPayments_1 : List (Nat × (Instr × Nat)) := [(67, .aload_n 0, 1), (68, .getfield 21, 3), (71, .iload_n 2, 1), (72, .aload_n 0, 1), (73, .iload_n 2, 1), (74, .invokevirtual 48, 3), (77, .ifCond .ne 9, 3), (80, .iload_n 3, 1), (81, .iconst 1, 1), (82, .iadd, 1), (83, .goto 4, 3), (86, .iload_n 3, 1), (87, .iastore, 1), (88, .iinc 2 1, 3), (91, .goto (-75), 3), (94, .iconst 5, 1), (95, .aload_n 0, 1), (96, .getfield 21, 3), (99, .iload_n 1, 1), (100, .iaload, 1), (101, .isub, 1), (102, .ireturn, 1)]
theorem daX3_fewestPayments_1 : tdaX3_fewestPayments_1.all (fun q => decide (decode cX3_fewestPayments q.1 = .ok q.2)) = true := by decide +kernel
theorem dX3_fewestPayments_67 : decode cX3_fewestPayments 67 = .ok (.aload_n 0, 1) := dget daX3_fewestPayments_1 0 (q := (67, .aload_n 0, 1)) rfl
theorem dX3_fewestPayments_68 : decode cX3_fewestPayments 68 = .ok (.getfield 21, 3) := dget daX3_fewestPayments_1 1 (q := (68, .getfield 21, 3)) rfl
theorem dX3_fewestPayments_71 : decode cX3_fewestPayments 71 = .ok (.iload_n 2, 1) := dget daX3_fewestPayments_1 2 (q := (71, .iload_n 2, 1)) rfl
theorem dX3_fewestPayments_72 : decode cX3_fewestPayments 72 = .ok (.aload_n 0, 1) := dget daX3_fewestPayments_1 3 (q := (72, .aload_n 0, 1)) rfl
theorem dX3_fewestPayments_73 : decode cX3_fewestPayments 73 = .ok (.iload_n 2, 1) := dget daX3_fewestPayments_1 4 (q := (73, .iload_n 2, 1)) rfl
theorem dX3_fewestPayments_74 : decode cX3_fewestPayments 74 = .ok (.invokevirtual 48, 3) := dget daX3_fewestPayments_1 5 (q := (74, .invokevirtual 48, 3)) rfl
theorem dX3_fewestPayments_77 : decode cX3_fewestPayments 77 = .ok (.ifCond .ne 9, 3) := dget daX3_fewestPayments_1 6 (q := (77, .ifCond .ne 9, 3)) rfl
theorem dX3_fewestPayments_80 : decode cX3_fewestPayments 80 = .ok (.iload_n 3, 1) := dget daX3_fewestPayments_1 7 (q := (80, .iload_n 3, 1)) rfl
theorem dX3_fewestPayments_81 : decode cX3_fewestPayments 81 = .ok (.iconst 1, 1) := dget daX3_fewestPayments_1 8 (q := (81, .iconst 1, 1)) rfl
theorem dX3_fewestPayments_82 : decode cX3_fewestPayments 82 = .ok (.iadd, 1) := dget daX3_fewestPayments_1 9 (q := (82, .iadd, 1)) rfl
theorem dX3_fewestPayments_83 : decode cX3_fewestPayments 83 = .ok (.goto 4, 3) := dget daX3_fewestPayments_1 10 (q := (83, .goto 4, 3)) rfl
theorem dX3_fewestPayments_86 : decode cX3_fewestPayments 86 = .ok (.iload_n 3, 1) := dget daX3_fewestPayments_1 11 (q := (86, .iload_n 3, 1)) rfl
theorem dX3_fewestPayments_87 : decode cX3_fewestPayments 87 = .ok (.iastore, 1) := dget daX3_fewestPayments_1 12 (q := (87, .iastore, 1)) rfl
theorem dX3_fewestPayments_88 : decode cX3_fewestPayments 88 = .ok (.iinc 2 1, 3) := dget daX3_fewestPayments_1 13 (q := (88, .iinc 2 1, 3)) rfl
theorem dX3_fewestPayments_91 : decode cX3_fewestPayments 91 = .ok (.goto (-75), 3) := dget daX3_fewestPayments_1 14 (q := (91, .goto (-75), 3)) rfl
theorem dX3_fewestPayments_94 : decode cX3_fewestPayments 94 = .ok (.iconst 5, 1) := dget daX3_fewestPayments_1 15 (q := (94, .iconst 5, 1)) rfl
theorem dX3_fewestPayments_95 : decode cX3_fewestPayments 95 = .ok (.aload_n 0, 1) := dget daX3_fewestPayments_1 16 (q := (95, .aload_n 0, 1)) rfl
theorem dX3_fewestPayments_96 : decode cX3_fewestPayments 96 = .ok (.getfield 21, 3) := dget daX3_fewestPayments_1 17 (q := (96, .getfield 21, 3)) rfl
theorem dX3_fewestPayments_99 : decode cX3_fewestPayments 99 = .ok (.iload_n 1, 1) := dget daX3_fewestPayments_1 18 (q := (99, .iload_n 1, 1)) rfl
theorem dX3_fewestPayments_100 : decode cX3_fewestPayments 100 = .ok (.iaload, 1) := dget daX3_fewestPayments_1 19 (q := (100, .iaload, 1)) rfl
theorem dX3_fewestPayments_101 : decode cX3_fewestPayments 101 = .ok (.isub, 1) := dget daX3_fewestPayments_1 20 (q := (101, .isub, 1)) rfl
theorem dX3_fewestPayments_102 : decode cX3_fewestPayments 102 = .ok (.ireturn, 1) := dget daX3_fewestPayments_1 21 (q := (102, .ireturn, 1)) rfl
def tdaX3_togetherIn_0 : List (Nat × (Instr × Nat)) := [(0, .iconst 0, 1), (1, .istore_n 2, 1), (2, .iconst 0, 1), (3, .istore_n 3, 1), (4, .iload_n 3, 1), (5, .iconst 5, 1), (6, .if_icmp .ge 26, 3), (9, .iload_n 1, 1), (10, .iconst 1, 1), (11, .iload_n 3, 1), (12, .ishl, 1), (13, .iand, 1), (14, .ifCond .eq 12, 3), (17, .iload_n 2, 1), (18, .aload_n 0, 1), (19, .getfield 17, 3), (22, .iload_n 3, 1), (23, .iaload, 1), (24, .iadd, 1), (25, .istore_n 2, 1), (26, .iinc 3 1, 3), (29, .goto (-25), 3), (32, .iload_n 2, 1), (33, .ireturn, 1)]
theorem daX3_togetherIn_0 : tdaX3_togetherIn_0.all (fun q => decide (decode cX3_togetherIn q.1 = .ok q.2)) = true := by decide +kernel
theorem dX3_togetherIn_0 : decode cX3_togetherIn 0 = .ok (.iconst 0, 1) := dget daX3_togetherIn_0 0 (q := (0, .iconst 0, 1)) rfl
theorem dX3_togetherIn_1 : decode cX3_togetherIn 1 = .ok (.istore_n 2, 1) := dget daX3_togetherIn_0 1 (q := (1, .istore_n 2, 1)) rfl
theorem dX3_togetherIn_2 : decode cX3_togetherIn 2 = .ok (.iconst 0, 1) := dget daX3_togetherIn_0 2 (q := (2, .iconst 0, 1)) rfl
theorem dX3_togetherIn_3 : decode cX3_togetherIn 3 = .ok (.istore_n 3, 1) := dget daX3_togetherIn_0 3 (q := (3, .istore_n 3, 1)) rfl
theorem dX3_togetherIn_4 : decode cX3_togetherIn 4 = .ok (.iload_n 3, 1) := dget daX3_togetherIn_0 4 (q := (4, .iload_n 3, 1)) rfl
theorem dX3_togetherIn_5 : decode cX3_togetherIn 5 = .ok (.iconst 5, 1) := dget daX3_togetherIn_0 5 (q := (5, .iconst 5, 1)) rfl
theorem dX3_togetherIn_6 : decode cX3_togetherIn 6 = .ok (.if_icmp .ge 26, 3) := dget daX3_togetherIn_0 6 (q := (6, .if_icmp .ge 26, 3)) rfl
theorem dX3_togetherIn_9 : decode cX3_togetherIn 9 = .ok (.iload_n 1, 1) := dget daX3_togetherIn_0 7 (q := (9, .iload_n 1, 1)) rfl
theorem dX3_togetherIn_10 : decode cX3_togetherIn 10 = .ok (.iconst 1, 1) := dget daX3_togetherIn_0 8 (q := (10, .iconst 1, 1)) rfl
theorem dX3_togetherIn_11 : decode cX3_togetherIn 11 = .ok (.iload_n 3, 1) := dget daX3_togetherIn_0 9 (q := (11, .iload_n 3, 1)) rfl
theorem dX3_togetherIn_12 : decode cX3_togetherIn 12 = .ok (.ishl, 1) := dget daX3_togetherIn_0 10 (q := (12, .ishl, 1)) rfl
theorem dX3_togetherIn_13 : decode cX3_togetherIn 13 = .ok (.iand, 1) := dget daX3_togetherIn_0 11 (q := (13, .iand, 1)) rfl
theorem dX3_togetherIn_14 : decode cX3_togetherIn 14 = .ok (.ifCond .eq 12, 3) := dget daX3_togetherIn_0 12 (q := (14, .ifCond .eq 12, 3)) rfl
theorem dX3_togetherIn_17 : decode cX3_togetherIn 17 = .ok (.iload_n 2, 1) := dget daX3_togetherIn_0 13 (q := (17, .iload_n 2, 1)) rfl
theorem dX3_togetherIn_18 : decode cX3_togetherIn 18 = .ok (.aload_n 0, 1) := dget daX3_togetherIn_0 14 (q := (18, .aload_n 0, 1)) rfl
theorem dX3_togetherIn_19 : decode cX3_togetherIn 19 = .ok (.getfield 17, 3) := dget daX3_togetherIn_0 15 (q := (19, .getfield 17, 3)) rfl
theorem dX3_togetherIn_22 : decode cX3_togetherIn 22 = .ok (.iload_n 3, 1) := dget daX3_togetherIn_0 16 (q := (22, .iload_n 3, 1)) rfl
theorem dX3_togetherIn_23 : decode cX3_togetherIn 23 = .ok (.iaload, 1) := dget daX3_togetherIn_0 17 (q := (23, .iaload, 1)) rfl
theorem dX3_togetherIn_24 : decode cX3_togetherIn 24 = .ok (.iadd, 1) := dget daX3_togetherIn_0 18 (q := (24, .iadd, 1)) rfl
theorem dX3_togetherIn_25 : decode cX3_togetherIn 25 = .ok (.istore_n 2, 1) := dget daX3_togetherIn_0 19 (q := (25, .istore_n 2, 1)) rfl
theorem dX3_togetherIn_26 : decode cX3_togetherIn 26 = .ok (.iinc 3 1, 3) := dget daX3_togetherIn_0 20 (q := (26, .iinc 3 1, 3)) rfl
theorem dX3_togetherIn_29 : decode cX3_togetherIn 29 = .ok (.goto (-25), 3) := dget daX3_togetherIn_0 21 (q := (29, .goto (-25), 3)) rfl
theorem dX3_togetherIn_32 : decode cX3_togetherIn 32 = .ok (.iload_n 2, 1) := dget daX3_togetherIn_0 22 (q := (32, .iload_n 2, 1)) rfl
theorem dX3_togetherIn_33 : decode cX3_togetherIn 33 = .ok (.ireturn, 1) := dget daX3_togetherIn_0 23 (q := (33, .ireturn, 1)) rfl
def tdaX4_init_0 : List (Nat × (Instr × Nat)) := [(0, .aload_n 0, 1), (1, .invokespecial 3, 3), (4, .aload_n 0, 1), (5, .bipush 30, 2), (7, .newarray .int, 2), (9, .putfield 11, 3), (12, .aload_n 0, 1), (13, .bipush 30, 2), (15, .newarray .int, 2), (17, .putfield 15, 3), (20, .aload_n 0, 1), (21, .bipush 30, 2), (23, .newarray .int, 2), (25, .putfield 18, 3), (28, .aload_n 0, 1), (29, .bipush 30, 2), (31, .newarray .int, 2), (33, .putfield 21, 3), (36, .aload_n 0, 1), (37, .bipush 30, 2), (39, .newarray .int, 2), (41, .putfield 24, 3), (44, .aload_n 0, 1), (45, .bipush 40, 2), (47, .newarray .int, 2), (49, .putfield 27, 3), (52, .aload_n 0, 1), (53, .bipush 40, 2), (55, .newarray .int, 2), (57, .putfield 30, 3), (60, .aload_n 0, 1), (61, .bipush 40, 2), (63, .newarray .int, 2), (65, .putfield 33, 3), (68, .aload_n 0, 1), (69, .bipush 40, 2), (71, .newarray .int, 2), (73, .putfield 36, 3), (76, .aload_n 0, 1), (77, .bipush 40, 2)]
theorem daX4_init_0 : tdaX4_init_0.all (fun q => decide (decode cX4_init q.1 = .ok q.2)) = true := by decide +kernel
theorem dX4_init_0 : decode cX4_init 0 = .ok (.aload_n 0, 1) := dget daX4_init_0 0 (q := (0, .aload_n 0, 1)) rfl
theorem dX4_init_1 : decode cX4_init 1 = .ok (.invokespecial 3, 3) := dget daX4_init_0 1 (q := (1, .invokespecial 3, 3)) rfl
theorem dX4_init_4 : decode cX4_init 4 = .ok (.aload_n 0, 1) := dget daX4_init_0 2 (q := (4, .aload_n 0, 1)) rfl
theorem dX4_init_5 : decode cX4_init 5 = .ok (.bipush 30, 2) := dget daX4_init_0 3 (q := (5, .bipush 30, 2)) rfl
theorem dX4_init_7 : decode cX4_init 7 = .ok (.newarray .int, 2) := dget daX4_init_0 4 (q := (7, .newarray .int, 2)) rfl
theorem dX4_init_9 : decode cX4_init 9 = .ok (.putfield 11, 3) := dget daX4_init_0 5 (q := (9, .putfield 11, 3)) rfl
theorem dX4_init_12 : decode cX4_init 12 = .ok (.aload_n 0, 1) := dget daX4_init_0 6 (q := (12, .aload_n 0, 1)) rfl
theorem dX4_init_13 : decode cX4_init 13 = .ok (.bipush 30, 2) := dget daX4_init_0 7 (q := (13, .bipush 30, 2)) rfl
theorem dX4_init_15 : decode cX4_init 15 = .ok (.newarray .int, 2) := dget daX4_init_0 8 (q := (15, .newarray .int, 2)) rfl
theorem dX4_init_17 : decode cX4_init 17 = .ok (.putfield 15, 3) := dget daX4_init_0 9 (q := (17, .putfield 15, 3)) rfl
theorem dX4_init_20 : decode cX4_init 20 = .ok (.aload_n 0, 1) := dget daX4_init_0 10 (q := (20, .aload_n 0, 1)) rfl
theorem dX4_init_21 : decode cX4_init 21 = .ok (.bipush 30, 2) := dget daX4_init_0 11 (q := (21, .bipush 30, 2)) rfl
theorem dX4_init_23 : decode cX4_init 23 = .ok (.newarray .int, 2) := dget daX4_init_0 12 (q := (23, .newarray .int, 2)) rfl
theorem dX4_init_25 : decode cX4_init 25 = .ok (.putfield 18, 3) := dget daX4_init_0 13 (q := (25, .putfield 18, 3)) rfl
theorem dX4_init_28 : decode cX4_init 28 = .ok (.aload_n 0, 1) := dget daX4_init_0 14 (q := (28, .aload_n 0, 1)) rfl
theorem dX4_init_29 : decode cX4_init 29 = .ok (.bipush 30, 2) := dget daX4_init_0 15 (q := (29, .bipush 30, 2)) rfl
theorem dX4_init_31 : decode cX4_init 31 = .ok (.newarray .int, 2) := dget daX4_init_0 16 (q := (31, .newarray .int, 2)) rfl
theorem dX4_init_33 : decode cX4_init 33 = .ok (.putfield 21, 3) := dget daX4_init_0 17 (q := (33, .putfield 21, 3)) rfl
theorem dX4_init_36 : decode cX4_init 36 = .ok (.aload_n 0, 1) := dget daX4_init_0 18 (q := (36, .aload_n 0, 1)) rfl
theorem dX4_init_37 : decode cX4_init 37 = .ok (.bipush 30, 2) := dget daX4_init_0 19 (q := (37, .bipush 30, 2)) rfl
theorem dX4_init_39 : decode cX4_init 39 = .ok (.newarray .int, 2) := dget daX4_init_0 20 (q := (39, .newarray .int, 2)) rfl
theorem dX4_init_41 : decode cX4_init 41 = .ok (.putfield 24, 3) := dget daX4_init_0 21 (q := (41, .putfield 24, 3)) rfl
theorem dX4_init_44 : decode cX4_init 44 = .ok (.aload_n 0, 1) := dget daX4_init_0 22 (q := (44, .aload_n 0, 1)) rfl
theorem dX4_init_45 : decode cX4_init 45 = .ok (.bipush 40, 2) := dget daX4_init_0 23 (q := (45, .bipush 40, 2)) rfl
theorem dX4_init_47 : decode cX4_init 47 = .ok (.newarray .int, 2) := dget daX4_init_0 24 (q := (47, .newarray .int, 2)) rfl
theorem dX4_init_49 : decode cX4_init 49 = .ok (.putfield 27, 3) := dget daX4_init_0 25 (q := (49, .putfield 27, 3)) rfl
theorem dX4_init_52 : decode cX4_init 52 = .ok (.aload_n 0, 1) := dget daX4_init_0 26 (q := (52, .aload_n 0, 1)) rfl
theorem dX4_init_53 : decode cX4_init 53 = .ok (.bipush 40, 2) := dget daX4_init_0 27 (q := (53, .bipush 40, 2)) rfl
theorem dX4_init_55 : decode cX4_init 55 = .ok (.newarray .int, 2) := dget daX4_init_0 28 (q := (55, .newarray .int, 2)) rfl
theorem dX4_init_57 : decode cX4_init 57 = .ok (.putfield 30, 3) := dget daX4_init_0 29 (q := (57, .putfield 30, 3)) rfl
theorem dX4_init_60 : decode cX4_init 60 = .ok (.aload_n 0, 1) := dget daX4_init_0 30 (q := (60, .aload_n 0, 1)) rfl
theorem dX4_init_61 : decode cX4_init 61 = .ok (.bipush 40, 2) := dget daX4_init_0 31 (q := (61, .bipush 40, 2)) rfl
theorem dX4_init_63 : decode cX4_init 63 = .ok (.newarray .int, 2) := dget daX4_init_0 32 (q := (63, .newarray .int, 2)) rfl
theorem dX4_init_65 : decode cX4_init 65 = .ok (.putfield 33, 3) := dget daX4_init_0 33 (q := (65, .putfield 33, 3)) rfl
theorem dX4_init_68 : decode cX4_init 68 = .ok (.aload_n 0, 1) := dget daX4_init_0 34 (q := (68, .aload_n 0, 1)) rfl
theorem dX4_init_69 : decode cX4_init 69 = .ok (.bipush 40, 2) := dget daX4_init_0 35 (q := (69, .bipush 40, 2)) rfl
theorem dX4_init_71 : decode cX4_init 71 = .ok (.newarray .int, 2) := dget daX4_init_0 36 (q := (71, .newarray .int, 2)) rfl
theorem dX4_init_73 : decode cX4_init 73 = .ok (.putfield 36, 3) := dget daX4_init_0 37 (q := (73, .putfield 36, 3)) rfl
theorem dX4_init_76 : decode cX4_init 76 = .ok (.aload_n 0, 1) := dget daX4_init_0 38 (q := (76, .aload_n 0, 1)) rfl
theorem dX4_init_77 : decode cX4_init 77 = .ok (.bipush 40, 2) := dget daX4_init_0 39 (q := (77, .bipush 40, 2)) rfl
def tdaX4_init_1 : List (Nat × (Instr × Nat)) := [(79, .newarray .boolean, 2), (81, .putfield 39, 3), (84, .return_, 1)]
theorem daX4_init_1 : tdaX4_init_1.all (fun q => decide (decode cX4_init q.1 = .ok q.2)) = true := by decide +kernel
theorem dX4_init_79 : decode cX4_init 79 = .ok (.newarray .boolean, 2) := dget daX4_init_1 0 (q := (79, .newarray .boolean, 2)) rfl
theorem dX4_init_81 : decode cX4_init 81 = .ok (.putfield 39, 3) := dget daX4_init_1 1 (q := (81, .putfield 39, 3)) rfl
theorem dX4_init_84 : decode cX4_init 84 = .ok (.return_, 1) := dget daX4_init_1 2 (q := (84, .return_, 1)) rfl
def tdaX4_isFull_0 : List (Nat × (Instr × Nat)) := [(0, .aload_n 0, 1), (1, .getfield 43, 3), (4, .bipush 30, 2), (6, .if_icmp .lt 7, 3), (9, .iconst 1, 1), (10, .goto 4, 3), (13, .iconst 0, 1), (14, .ireturn, 1)]
theorem daX4_isFull_0 : tdaX4_isFull_0.all (fun q => decide (decode cX4_isFull q.1 = .ok q.2)) = true := by decide +kernel
theorem dX4_isFull_0 : decode cX4_isFull 0 = .ok (.aload_n 0, 1) := dget daX4_isFull_0 0 (q := (0, .aload_n 0, 1)) rfl
theorem dX4_isFull_1 : decode cX4_isFull 1 = .ok (.getfield 43, 3) := dget daX4_isFull_0 1 (q := (1, .getfield 43, 3)) rfl
theorem dX4_isFull_4 : decode cX4_isFull 4 = .ok (.bipush 30, 2) := dget daX4_isFull_0 2 (q := (4, .bipush 30, 2)) rfl
theorem dX4_isFull_6 : decode cX4_isFull 6 = .ok (.if_icmp .lt 7, 3) := dget daX4_isFull_0 3 (q := (6, .if_icmp .lt 7, 3)) rfl
theorem dX4_isFull_9 : decode cX4_isFull 9 = .ok (.iconst 1, 1) := dget daX4_isFull_0 4 (q := (9, .iconst 1, 1)) rfl
theorem dX4_isFull_10 : decode cX4_isFull 10 = .ok (.goto 4, 3) := dget daX4_isFull_0 5 (q := (10, .goto 4, 3)) rfl
theorem dX4_isFull_13 : decode cX4_isFull 13 = .ok (.iconst 0, 1) := dget daX4_isFull_0 6 (q := (13, .iconst 0, 1)) rfl
theorem dX4_isFull_14 : decode cX4_isFull 14 = .ok (.ireturn, 1) := dget daX4_isFull_0 7 (q := (14, .ireturn, 1)) rfl
def tdaX4_isFullOfExcuses_0 : List (Nat × (Instr × Nat)) := [(0, .aload_n 0, 1), (1, .getfield 47, 3), (4, .bipush 40, 2), (6, .if_icmp .lt 7, 3), (9, .iconst 1, 1), (10, .goto 4, 3), (13, .iconst 0, 1), (14, .ireturn, 1)]
theorem daX4_isFullOfExcuses_0 : tdaX4_isFullOfExcuses_0.all (fun q => decide (decode cX4_isFullOfExcuses q.1 = .ok q.2)) = true := by decide +kernel
theorem dX4_isFullOfExcuses_0 : decode cX4_isFullOfExcuses 0 = .ok (.aload_n 0, 1) := dget daX4_isFullOfExcuses_0 0 (q := (0, .aload_n 0, 1)) rfl
theorem dX4_isFullOfExcuses_1 : decode cX4_isFullOfExcuses 1 = .ok (.getfield 47, 3) := dget daX4_isFullOfExcuses_0 1 (q := (1, .getfield 47, 3)) rfl
theorem dX4_isFullOfExcuses_4 : decode cX4_isFullOfExcuses 4 = .ok (.bipush 40, 2) := dget daX4_isFullOfExcuses_0 2 (q := (4, .bipush 40, 2)) rfl
theorem dX4_isFullOfExcuses_6 : decode cX4_isFullOfExcuses 6 = .ok (.if_icmp .lt 7, 3) := dget daX4_isFullOfExcuses_0 3 (q := (6, .if_icmp .lt 7, 3)) rfl
theorem dX4_isFullOfExcuses_9 : decode cX4_isFullOfExcuses 9 = .ok (.iconst 1, 1) := dget daX4_isFullOfExcuses_0 4 (q := (9, .iconst 1, 1)) rfl
theorem dX4_isFullOfExcuses_10 : decode cX4_isFullOfExcuses 10 = .ok (.goto 4, 3) := dget daX4_isFullOfExcuses_0 5 (q := (10, .goto 4, 3)) rfl
theorem dX4_isFullOfExcuses_13 : decode cX4_isFullOfExcuses 13 = .ok (.iconst 0, 1) := dget daX4_isFullOfExcuses_0 6 (q := (13, .iconst 0, 1)) rfl
theorem dX4_isFullOfExcuses_14 : decode cX4_isFullOfExcuses 14 = .ok (.ireturn, 1) := dget daX4_isFullOfExcuses_0 7 (q := (14, .ireturn, 1)) rfl
def tdaX4_add_0 : List (Nat × (Instr × Nat)) := [(0, .aload_n 0, 1), (1, .getfield 11, 3), (4, .aload_n 0, 1), (5, .getfield 43, 3), (8, .iload_n 1, 1), (9, .iastore, 1), (10, .aload_n 0, 1), (11, .getfield 15, 3), (14, .aload_n 0, 1), (15, .getfield 43, 3), (18, .iload_n 2, 1), (19, .iastore, 1), (20, .aload_n 0, 1), (21, .getfield 18, 3), (24, .aload_n 0, 1), (25, .getfield 43, 3), (28, .iload_n 3, 1), (29, .iastore, 1), (30, .aload_n 0, 1), (31, .getfield 21, 3), (34, .aload_n 0, 1), (35, .getfield 43, 3), (38, .iload 4, 2), (40, .iastore, 1), (41, .aload_n 0, 1), (42, .getfield 24, 3), (45, .aload_n 0, 1), (46, .getfield 43, 3), (49, .iload 5, 2), (51, .iastore, 1), (52, .aload_n 0, 1), (53, .dup, 1), (54, .getfield 43, 3), (57, .iconst 1, 1), (58, .iadd, 1), (59, .putfield 43, 3), (62, .aload_n 0, 1), (63, .getfield 43, 3), (66, .iconst 1, 1), (67, .isub, 1)]
theorem daX4_add_0 : tdaX4_add_0.all (fun q => decide (decode cX4_add q.1 = .ok q.2)) = true := by decide +kernel
theorem dX4_add_0 : decode cX4_add 0 = .ok (.aload_n 0, 1) := dget daX4_add_0 0 (q := (0, .aload_n 0, 1)) rfl
theorem dX4_add_1 : decode cX4_add 1 = .ok (.getfield 11, 3) := dget daX4_add_0 1 (q := (1, .getfield 11, 3)) rfl
theorem dX4_add_4 : decode cX4_add 4 = .ok (.aload_n 0, 1) := dget daX4_add_0 2 (q := (4, .aload_n 0, 1)) rfl
theorem dX4_add_5 : decode cX4_add 5 = .ok (.getfield 43, 3) := dget daX4_add_0 3 (q := (5, .getfield 43, 3)) rfl
theorem dX4_add_8 : decode cX4_add 8 = .ok (.iload_n 1, 1) := dget daX4_add_0 4 (q := (8, .iload_n 1, 1)) rfl
theorem dX4_add_9 : decode cX4_add 9 = .ok (.iastore, 1) := dget daX4_add_0 5 (q := (9, .iastore, 1)) rfl
theorem dX4_add_10 : decode cX4_add 10 = .ok (.aload_n 0, 1) := dget daX4_add_0 6 (q := (10, .aload_n 0, 1)) rfl
theorem dX4_add_11 : decode cX4_add 11 = .ok (.getfield 15, 3) := dget daX4_add_0 7 (q := (11, .getfield 15, 3)) rfl
theorem dX4_add_14 : decode cX4_add 14 = .ok (.aload_n 0, 1) := dget daX4_add_0 8 (q := (14, .aload_n 0, 1)) rfl
theorem dX4_add_15 : decode cX4_add 15 = .ok (.getfield 43, 3) := dget daX4_add_0 9 (q := (15, .getfield 43, 3)) rfl
theorem dX4_add_18 : decode cX4_add 18 = .ok (.iload_n 2, 1) := dget daX4_add_0 10 (q := (18, .iload_n 2, 1)) rfl
theorem dX4_add_19 : decode cX4_add 19 = .ok (.iastore, 1) := dget daX4_add_0 11 (q := (19, .iastore, 1)) rfl
theorem dX4_add_20 : decode cX4_add 20 = .ok (.aload_n 0, 1) := dget daX4_add_0 12 (q := (20, .aload_n 0, 1)) rfl
theorem dX4_add_21 : decode cX4_add 21 = .ok (.getfield 18, 3) := dget daX4_add_0 13 (q := (21, .getfield 18, 3)) rfl
theorem dX4_add_24 : decode cX4_add 24 = .ok (.aload_n 0, 1) := dget daX4_add_0 14 (q := (24, .aload_n 0, 1)) rfl
theorem dX4_add_25 : decode cX4_add 25 = .ok (.getfield 43, 3) := dget daX4_add_0 15 (q := (25, .getfield 43, 3)) rfl
theorem dX4_add_28 : decode cX4_add 28 = .ok (.iload_n 3, 1) := dget daX4_add_0 16 (q := (28, .iload_n 3, 1)) rfl
theorem dX4_add_29 : decode cX4_add 29 = .ok (.iastore, 1) := dget daX4_add_0 17 (q := (29, .iastore, 1)) rfl
theorem dX4_add_30 : decode cX4_add 30 = .ok (.aload_n 0, 1) := dget daX4_add_0 18 (q := (30, .aload_n 0, 1)) rfl
theorem dX4_add_31 : decode cX4_add 31 = .ok (.getfield 21, 3) := dget daX4_add_0 19 (q := (31, .getfield 21, 3)) rfl
theorem dX4_add_34 : decode cX4_add 34 = .ok (.aload_n 0, 1) := dget daX4_add_0 20 (q := (34, .aload_n 0, 1)) rfl
theorem dX4_add_35 : decode cX4_add 35 = .ok (.getfield 43, 3) := dget daX4_add_0 21 (q := (35, .getfield 43, 3)) rfl
theorem dX4_add_38 : decode cX4_add 38 = .ok (.iload 4, 2) := dget daX4_add_0 22 (q := (38, .iload 4, 2)) rfl
theorem dX4_add_40 : decode cX4_add 40 = .ok (.iastore, 1) := dget daX4_add_0 23 (q := (40, .iastore, 1)) rfl
theorem dX4_add_41 : decode cX4_add 41 = .ok (.aload_n 0, 1) := dget daX4_add_0 24 (q := (41, .aload_n 0, 1)) rfl
theorem dX4_add_42 : decode cX4_add 42 = .ok (.getfield 24, 3) := dget daX4_add_0 25 (q := (42, .getfield 24, 3)) rfl
theorem dX4_add_45 : decode cX4_add 45 = .ok (.aload_n 0, 1) := dget daX4_add_0 26 (q := (45, .aload_n 0, 1)) rfl
theorem dX4_add_46 : decode cX4_add 46 = .ok (.getfield 43, 3) := dget daX4_add_0 27 (q := (46, .getfield 43, 3)) rfl
theorem dX4_add_49 : decode cX4_add 49 = .ok (.iload 5, 2) := dget daX4_add_0 28 (q := (49, .iload 5, 2)) rfl
theorem dX4_add_51 : decode cX4_add 51 = .ok (.iastore, 1) := dget daX4_add_0 29 (q := (51, .iastore, 1)) rfl
theorem dX4_add_52 : decode cX4_add 52 = .ok (.aload_n 0, 1) := dget daX4_add_0 30 (q := (52, .aload_n 0, 1)) rfl
theorem dX4_add_53 : decode cX4_add 53 = .ok (.dup, 1) := dget daX4_add_0 31 (q := (53, .dup, 1)) rfl
theorem dX4_add_54 : decode cX4_add 54 = .ok (.getfield 43, 3) := dget daX4_add_0 32 (q := (54, .getfield 43, 3)) rfl
theorem dX4_add_57 : decode cX4_add 57 = .ok (.iconst 1, 1) := dget daX4_add_0 33 (q := (57, .iconst 1, 1)) rfl
theorem dX4_add_58 : decode cX4_add 58 = .ok (.iadd, 1) := dget daX4_add_0 34 (q := (58, .iadd, 1)) rfl
theorem dX4_add_59 : decode cX4_add 59 = .ok (.putfield 43, 3) := dget daX4_add_0 35 (q := (59, .putfield 43, 3)) rfl
theorem dX4_add_62 : decode cX4_add 62 = .ok (.aload_n 0, 1) := dget daX4_add_0 36 (q := (62, .aload_n 0, 1)) rfl
theorem dX4_add_63 : decode cX4_add 63 = .ok (.getfield 43, 3) := dget daX4_add_0 37 (q := (63, .getfield 43, 3)) rfl
theorem dX4_add_66 : decode cX4_add 66 = .ok (.iconst 1, 1) := dget daX4_add_0 38 (q := (66, .iconst 1, 1)) rfl
theorem dX4_add_67 : decode cX4_add 67 = .ok (.isub, 1) := dget daX4_add_0 39 (q := (67, .isub, 1)) rfl
def tdaX4_add_1 : List (Nat × (Instr × Nat)) := [(68, .ireturn, 1)]
theorem daX4_add_1 : tdaX4_add_1.all (fun q => decide (decode cX4_add q.1 = .ok q.2)) = true := by decide +kernel
theorem dX4_add_68 : decode cX4_add 68 = .ok (.ireturn, 1) := dget daX4_add_1 0 (q := (68, .ireturn, 1)) rfl
def tdaX4_addExcuse_0 : List (Nat × (Instr × Nat)) := [(0, .aload_n 0, 1), (1, .getfield 27, 3), (4, .aload_n 0, 1), (5, .getfield 47, 3), (8, .iload_n 1, 1), (9, .iastore, 1), (10, .aload_n 0, 1), (11, .getfield 30, 3), (14, .aload_n 0, 1), (15, .getfield 47, 3), (18, .iload_n 2, 1), (19, .iastore, 1), (20, .aload_n 0, 1), (21, .getfield 33, 3), (24, .aload_n 0, 1), (25, .getfield 47, 3), (28, .iload_n 3, 1), (29, .iastore, 1), (30, .aload_n 0, 1), (31, .getfield 36, 3), (34, .aload_n 0, 1), (35, .getfield 47, 3), (38, .iload 4, 2), (40, .iastore, 1), (41, .aload_n 0, 1), (42, .getfield 39, 3), (45, .aload_n 0, 1), (46, .getfield 47, 3), (49, .iload 5, 2), (51, .bastore, 1), (52, .aload_n 0, 1), (53, .dup, 1), (54, .getfield 47, 3), (57, .iconst 1, 1), (58, .iadd, 1), (59, .putfield 47, 3), (62, .aload_n 0, 1), (63, .getfield 47, 3), (66, .ireturn, 1)]
theorem daX4_addExcuse_0 : tdaX4_addExcuse_0.all (fun q => decide (decode cX4_addExcuse q.1 = .ok q.2)) = true := by decide +kernel
theorem dX4_addExcuse_0 : decode cX4_addExcuse 0 = .ok (.aload_n 0, 1) := dget daX4_addExcuse_0 0 (q := (0, .aload_n 0, 1)) rfl
theorem dX4_addExcuse_1 : decode cX4_addExcuse 1 = .ok (.getfield 27, 3) := dget daX4_addExcuse_0 1 (q := (1, .getfield 27, 3)) rfl
theorem dX4_addExcuse_4 : decode cX4_addExcuse 4 = .ok (.aload_n 0, 1) := dget daX4_addExcuse_0 2 (q := (4, .aload_n 0, 1)) rfl
theorem dX4_addExcuse_5 : decode cX4_addExcuse 5 = .ok (.getfield 47, 3) := dget daX4_addExcuse_0 3 (q := (5, .getfield 47, 3)) rfl
theorem dX4_addExcuse_8 : decode cX4_addExcuse 8 = .ok (.iload_n 1, 1) := dget daX4_addExcuse_0 4 (q := (8, .iload_n 1, 1)) rfl
theorem dX4_addExcuse_9 : decode cX4_addExcuse 9 = .ok (.iastore, 1) := dget daX4_addExcuse_0 5 (q := (9, .iastore, 1)) rfl
theorem dX4_addExcuse_10 : decode cX4_addExcuse 10 = .ok (.aload_n 0, 1) := dget daX4_addExcuse_0 6 (q := (10, .aload_n 0, 1)) rfl
theorem dX4_addExcuse_11 : decode cX4_addExcuse 11 = .ok (.getfield 30, 3) := dget daX4_addExcuse_0 7 (q := (11, .getfield 30, 3)) rfl
theorem dX4_addExcuse_14 : decode cX4_addExcuse 14 = .ok (.aload_n 0, 1) := dget daX4_addExcuse_0 8 (q := (14, .aload_n 0, 1)) rfl
theorem dX4_addExcuse_15 : decode cX4_addExcuse 15 = .ok (.getfield 47, 3) := dget daX4_addExcuse_0 9 (q := (15, .getfield 47, 3)) rfl
theorem dX4_addExcuse_18 : decode cX4_addExcuse 18 = .ok (.iload_n 2, 1) := dget daX4_addExcuse_0 10 (q := (18, .iload_n 2, 1)) rfl
theorem dX4_addExcuse_19 : decode cX4_addExcuse 19 = .ok (.iastore, 1) := dget daX4_addExcuse_0 11 (q := (19, .iastore, 1)) rfl
theorem dX4_addExcuse_20 : decode cX4_addExcuse 20 = .ok (.aload_n 0, 1) := dget daX4_addExcuse_0 12 (q := (20, .aload_n 0, 1)) rfl
theorem dX4_addExcuse_21 : decode cX4_addExcuse 21 = .ok (.getfield 33, 3) := dget daX4_addExcuse_0 13 (q := (21, .getfield 33, 3)) rfl
theorem dX4_addExcuse_24 : decode cX4_addExcuse 24 = .ok (.aload_n 0, 1) := dget daX4_addExcuse_0 14 (q := (24, .aload_n 0, 1)) rfl
theorem dX4_addExcuse_25 : decode cX4_addExcuse 25 = .ok (.getfield 47, 3) := dget daX4_addExcuse_0 15 (q := (25, .getfield 47, 3)) rfl
theorem dX4_addExcuse_28 : decode cX4_addExcuse 28 = .ok (.iload_n 3, 1) := dget daX4_addExcuse_0 16 (q := (28, .iload_n 3, 1)) rfl
theorem dX4_addExcuse_29 : decode cX4_addExcuse 29 = .ok (.iastore, 1) := dget daX4_addExcuse_0 17 (q := (29, .iastore, 1)) rfl
theorem dX4_addExcuse_30 : decode cX4_addExcuse 30 = .ok (.aload_n 0, 1) := dget daX4_addExcuse_0 18 (q := (30, .aload_n 0, 1)) rfl
theorem dX4_addExcuse_31 : decode cX4_addExcuse 31 = .ok (.getfield 36, 3) := dget daX4_addExcuse_0 19 (q := (31, .getfield 36, 3)) rfl
theorem dX4_addExcuse_34 : decode cX4_addExcuse 34 = .ok (.aload_n 0, 1) := dget daX4_addExcuse_0 20 (q := (34, .aload_n 0, 1)) rfl
theorem dX4_addExcuse_35 : decode cX4_addExcuse 35 = .ok (.getfield 47, 3) := dget daX4_addExcuse_0 21 (q := (35, .getfield 47, 3)) rfl
theorem dX4_addExcuse_38 : decode cX4_addExcuse 38 = .ok (.iload 4, 2) := dget daX4_addExcuse_0 22 (q := (38, .iload 4, 2)) rfl
theorem dX4_addExcuse_40 : decode cX4_addExcuse 40 = .ok (.iastore, 1) := dget daX4_addExcuse_0 23 (q := (40, .iastore, 1)) rfl
theorem dX4_addExcuse_41 : decode cX4_addExcuse 41 = .ok (.aload_n 0, 1) := dget daX4_addExcuse_0 24 (q := (41, .aload_n 0, 1)) rfl
theorem dX4_addExcuse_42 : decode cX4_addExcuse 42 = .ok (.getfield 39, 3) := dget daX4_addExcuse_0 25 (q := (42, .getfield 39, 3)) rfl
theorem dX4_addExcuse_45 : decode cX4_addExcuse 45 = .ok (.aload_n 0, 1) := dget daX4_addExcuse_0 26 (q := (45, .aload_n 0, 1)) rfl
theorem dX4_addExcuse_46 : decode cX4_addExcuse 46 = .ok (.getfield 47, 3) := dget daX4_addExcuse_0 27 (q := (46, .getfield 47, 3)) rfl
theorem dX4_addExcuse_49 : decode cX4_addExcuse 49 = .ok (.iload 5, 2) := dget daX4_addExcuse_0 28 (q := (49, .iload 5, 2)) rfl
theorem dX4_addExcuse_51 : decode cX4_addExcuse 51 = .ok (.bastore, 1) := dget daX4_addExcuse_0 29 (q := (51, .bastore, 1)) rfl
theorem dX4_addExcuse_52 : decode cX4_addExcuse 52 = .ok (.aload_n 0, 1) := dget daX4_addExcuse_0 30 (q := (52, .aload_n 0, 1)) rfl
theorem dX4_addExcuse_53 : decode cX4_addExcuse 53 = .ok (.dup, 1) := dget daX4_addExcuse_0 31 (q := (53, .dup, 1)) rfl
theorem dX4_addExcuse_54 : decode cX4_addExcuse 54 = .ok (.getfield 47, 3) := dget daX4_addExcuse_0 32 (q := (54, .getfield 47, 3)) rfl
theorem dX4_addExcuse_57 : decode cX4_addExcuse 57 = .ok (.iconst 1, 1) := dget daX4_addExcuse_0 33 (q := (57, .iconst 1, 1)) rfl
theorem dX4_addExcuse_58 : decode cX4_addExcuse 58 = .ok (.iadd, 1) := dget daX4_addExcuse_0 34 (q := (58, .iadd, 1)) rfl
theorem dX4_addExcuse_59 : decode cX4_addExcuse 59 = .ok (.putfield 47, 3) := dget daX4_addExcuse_0 35 (q := (59, .putfield 47, 3)) rfl
theorem dX4_addExcuse_62 : decode cX4_addExcuse 62 = .ok (.aload_n 0, 1) := dget daX4_addExcuse_0 36 (q := (62, .aload_n 0, 1)) rfl
theorem dX4_addExcuse_63 : decode cX4_addExcuse 63 = .ok (.getfield 47, 3) := dget daX4_addExcuse_0 37 (q := (63, .getfield 47, 3)) rfl
theorem dX4_addExcuse_66 : decode cX4_addExcuse 66 = .ok (.ireturn, 1) := dget daX4_addExcuse_0 38 (q := (66, .ireturn, 1)) rfl
def tdaX4_landFor_0 : List (Nat × (Instr × Nat)) := [(0, .aload_n 1, 1), (1, .getfield 50, 3), (4, .getfield 56, 3), (7, .getfield 62, 3), (10, .istore_n 3, 1), (11, .aload_n 0, 1), (12, .iload_n 3, 1), (13, .iload_n 2, 1), (14, .invokevirtual 67, 3), (17, .ifCond .eq 5, 3), (20, .iload_n 3, 1), (21, .ireturn, 1), (22, .aload_n 1, 1), (23, .getfield 71, 3), (26, .getfield 74, 3), (29, .getfield 62, 3), (32, .istore 4, 2), (34, .aload_n 0, 1), (35, .iload 4, 2), (37, .iload_n 2, 1), (38, .invokevirtual 67, 3), (41, .ifCond .eq 8, 3), (44, .iload 4, 2), (46, .goto 5, 3), (49, .bipush (-9), 2), (51, .ireturn, 1)]
theorem daX4_landFor_0 : tdaX4_landFor_0.all (fun q => decide (decode cX4_landFor q.1 = .ok q.2)) = true := by decide +kernel
theorem dX4_landFor_0 : decode cX4_landFor 0 = .ok (.aload_n 1, 1) := dget daX4_landFor_0 0 (q := (0, .aload_n 1, 1)) rfl
theorem dX4_landFor_1 : decode cX4_landFor 1 = .ok (.getfield 50, 3) := dget daX4_landFor_0 1 (q := (1, .getfield 50, 3)) rfl
theorem dX4_landFor_4 : decode cX4_landFor 4 = .ok (.getfield 56, 3) := dget daX4_landFor_0 2 (q := (4, .getfield 56, 3)) rfl
theorem dX4_landFor_7 : decode cX4_landFor 7 = .ok (.getfield 62, 3) := dget daX4_landFor_0 3 (q := (7, .getfield 62, 3)) rfl
theorem dX4_landFor_10 : decode cX4_landFor 10 = .ok (.istore_n 3, 1) := dget daX4_landFor_0 4 (q := (10, .istore_n 3, 1)) rfl
theorem dX4_landFor_11 : decode cX4_landFor 11 = .ok (.aload_n 0, 1) := dget daX4_landFor_0 5 (q := (11, .aload_n 0, 1)) rfl
theorem dX4_landFor_12 : decode cX4_landFor 12 = .ok (.iload_n 3, 1) := dget daX4_landFor_0 6 (q := (12, .iload_n 3, 1)) rfl
theorem dX4_landFor_13 : decode cX4_landFor 13 = .ok (.iload_n 2, 1) := dget daX4_landFor_0 7 (q := (13, .iload_n 2, 1)) rfl
theorem dX4_landFor_14 : decode cX4_landFor 14 = .ok (.invokevirtual 67, 3) := dget daX4_landFor_0 8 (q := (14, .invokevirtual 67, 3)) rfl
theorem dX4_landFor_17 : decode cX4_landFor 17 = .ok (.ifCond .eq 5, 3) := dget daX4_landFor_0 9 (q := (17, .ifCond .eq 5, 3)) rfl
theorem dX4_landFor_20 : decode cX4_landFor 20 = .ok (.iload_n 3, 1) := dget daX4_landFor_0 10 (q := (20, .iload_n 3, 1)) rfl
theorem dX4_landFor_21 : decode cX4_landFor 21 = .ok (.ireturn, 1) := dget daX4_landFor_0 11 (q := (21, .ireturn, 1)) rfl
theorem dX4_landFor_22 : decode cX4_landFor 22 = .ok (.aload_n 1, 1) := dget daX4_landFor_0 12 (q := (22, .aload_n 1, 1)) rfl
theorem dX4_landFor_23 : decode cX4_landFor 23 = .ok (.getfield 71, 3) := dget daX4_landFor_0 13 (q := (23, .getfield 71, 3)) rfl
theorem dX4_landFor_26 : decode cX4_landFor 26 = .ok (.getfield 74, 3) := dget daX4_landFor_0 14 (q := (26, .getfield 74, 3)) rfl
theorem dX4_landFor_29 : decode cX4_landFor 29 = .ok (.getfield 62, 3) := dget daX4_landFor_0 15 (q := (29, .getfield 62, 3)) rfl
theorem dX4_landFor_32 : decode cX4_landFor 32 = .ok (.istore 4, 2) := dget daX4_landFor_0 16 (q := (32, .istore 4, 2)) rfl
theorem dX4_landFor_34 : decode cX4_landFor 34 = .ok (.aload_n 0, 1) := dget daX4_landFor_0 17 (q := (34, .aload_n 0, 1)) rfl
theorem dX4_landFor_35 : decode cX4_landFor 35 = .ok (.iload 4, 2) := dget daX4_landFor_0 18 (q := (35, .iload 4, 2)) rfl
theorem dX4_landFor_37 : decode cX4_landFor 37 = .ok (.iload_n 2, 1) := dget daX4_landFor_0 19 (q := (37, .iload_n 2, 1)) rfl
theorem dX4_landFor_38 : decode cX4_landFor 38 = .ok (.invokevirtual 67, 3) := dget daX4_landFor_0 20 (q := (38, .invokevirtual 67, 3)) rfl
theorem dX4_landFor_41 : decode cX4_landFor 41 = .ok (.ifCond .eq 8, 3) := dget daX4_landFor_0 21 (q := (41, .ifCond .eq 8, 3)) rfl
theorem dX4_landFor_44 : decode cX4_landFor 44 = .ok (.iload 4, 2) := dget daX4_landFor_0 22 (q := (44, .iload 4, 2)) rfl
theorem dX4_landFor_46 : decode cX4_landFor 46 = .ok (.goto 5, 3) := dget daX4_landFor_0 23 (q := (46, .goto 5, 3)) rfl
theorem dX4_landFor_49 : decode cX4_landFor 49 = .ok (.bipush (-9), 2) := dget daX4_landFor_0 24 (q := (49, .bipush (-9), 2)) rfl
theorem dX4_landFor_51 : decode cX4_landFor 51 = .ok (.ireturn, 1) := dget daX4_landFor_0 25 (q := (51, .ireturn, 1)) rfl
def tdaX4_hasRows_0 : List (Nat × (Instr × Nat)) := [(0, .iconst 0, 1), (1, .istore_n 3, 1), (2, .iload_n 3, 1), (3, .aload_n 0, 1), (4, .getfield 43, 3), (7, .if_icmp .ge 21, 3), (10, .aload_n 0, 1), (11, .iload_n 3, 1), (12, .iload_n 1, 1), (13, .iload_n 2, 1), (14, .invokevirtual 77, 3), (17, .ifCond .eq 5, 3), (20, .iconst 1, 1), (21, .ireturn, 1), (22, .iinc 3 1, 3), (25, .goto (-23), 3), (28, .iconst 0, 1), (29, .ireturn, 1)]
theorem daX4_hasRows_0 : tdaX4_hasRows_0.all (fun q => decide (decode cX4_hasRows q.1 = .ok q.2)) = true := by decide +kernel
theorem dX4_hasRows_0 : decode cX4_hasRows 0 = .ok (.iconst 0, 1) := dget daX4_hasRows_0 0 (q := (0, .iconst 0, 1)) rfl
theorem dX4_hasRows_1 : decode cX4_hasRows 1 = .ok (.istore_n 3, 1) := dget daX4_hasRows_0 1 (q := (1, .istore_n 3, 1)) rfl
theorem dX4_hasRows_2 : decode cX4_hasRows 2 = .ok (.iload_n 3, 1) := dget daX4_hasRows_0 2 (q := (2, .iload_n 3, 1)) rfl
theorem dX4_hasRows_3 : decode cX4_hasRows 3 = .ok (.aload_n 0, 1) := dget daX4_hasRows_0 3 (q := (3, .aload_n 0, 1)) rfl
theorem dX4_hasRows_4 : decode cX4_hasRows 4 = .ok (.getfield 43, 3) := dget daX4_hasRows_0 4 (q := (4, .getfield 43, 3)) rfl
theorem dX4_hasRows_7 : decode cX4_hasRows 7 = .ok (.if_icmp .ge 21, 3) := dget daX4_hasRows_0 5 (q := (7, .if_icmp .ge 21, 3)) rfl
theorem dX4_hasRows_10 : decode cX4_hasRows 10 = .ok (.aload_n 0, 1) := dget daX4_hasRows_0 6 (q := (10, .aload_n 0, 1)) rfl
theorem dX4_hasRows_11 : decode cX4_hasRows 11 = .ok (.iload_n 3, 1) := dget daX4_hasRows_0 7 (q := (11, .iload_n 3, 1)) rfl
theorem dX4_hasRows_12 : decode cX4_hasRows 12 = .ok (.iload_n 1, 1) := dget daX4_hasRows_0 8 (q := (12, .iload_n 1, 1)) rfl
theorem dX4_hasRows_13 : decode cX4_hasRows 13 = .ok (.iload_n 2, 1) := dget daX4_hasRows_0 9 (q := (13, .iload_n 2, 1)) rfl
theorem dX4_hasRows_14 : decode cX4_hasRows 14 = .ok (.invokevirtual 77, 3) := dget daX4_hasRows_0 10 (q := (14, .invokevirtual 77, 3)) rfl
theorem dX4_hasRows_17 : decode cX4_hasRows 17 = .ok (.ifCond .eq 5, 3) := dget daX4_hasRows_0 11 (q := (17, .ifCond .eq 5, 3)) rfl
theorem dX4_hasRows_20 : decode cX4_hasRows 20 = .ok (.iconst 1, 1) := dget daX4_hasRows_0 12 (q := (20, .iconst 1, 1)) rfl
theorem dX4_hasRows_21 : decode cX4_hasRows 21 = .ok (.ireturn, 1) := dget daX4_hasRows_0 13 (q := (21, .ireturn, 1)) rfl
theorem dX4_hasRows_22 : decode cX4_hasRows 22 = .ok (.iinc 3 1, 3) := dget daX4_hasRows_0 14 (q := (22, .iinc 3 1, 3)) rfl
theorem dX4_hasRows_25 : decode cX4_hasRows 25 = .ok (.goto (-23), 3) := dget daX4_hasRows_0 15 (q := (25, .goto (-23), 3)) rfl
theorem dX4_hasRows_28 : decode cX4_hasRows 28 = .ok (.iconst 0, 1) := dget daX4_hasRows_0 16 (q := (28, .iconst 0, 1)) rfl
theorem dX4_hasRows_29 : decode cX4_hasRows 29 = .ok (.ireturn, 1) := dget daX4_hasRows_0 17 (q := (29, .ireturn, 1)) rfl
def tdaX4_isInForce_0 : List (Nat × (Instr × Nat)) := [(0, .aload_n 0, 1), (1, .getfield 11, 3), (4, .iload_n 1, 1), (5, .iaload, 1), (6, .iload_n 2, 1), (7, .if_icmp .ne 17, 3), (10, .aload_n 0, 1), (11, .getfield 15, 3), (14, .iload_n 1, 1), (15, .iaload, 1), (16, .iload_n 3, 1), (17, .if_icmp .gt 7, 3), (20, .iconst 1, 1), (21, .goto 4, 3), (24, .iconst 0, 1), (25, .ireturn, 1)]
theorem daX4_isInForce_0 : tdaX4_isInForce_0.all (fun q => decide (decode cX4_isInForce q.1 = .ok q.2)) = true := by decide +kernel
theorem dX4_isInForce_0 : decode cX4_isInForce 0 = .ok (.aload_n 0, 1) := dget daX4_isInForce_0 0 (q := (0, .aload_n 0, 1)) rfl
theorem dX4_isInForce_1 : decode cX4_isInForce 1 = .ok (.getfield 11, 3) := dget daX4_isInForce_0 1 (q := (1, .getfield 11, 3)) rfl
theorem dX4_isInForce_4 : decode cX4_isInForce 4 = .ok (.iload_n 1, 1) := dget daX4_isInForce_0 2 (q := (4, .iload_n 1, 1)) rfl
theorem dX4_isInForce_5 : decode cX4_isInForce 5 = .ok (.iaload, 1) := dget daX4_isInForce_0 3 (q := (5, .iaload, 1)) rfl
theorem dX4_isInForce_6 : decode cX4_isInForce 6 = .ok (.iload_n 2, 1) := dget daX4_isInForce_0 4 (q := (6, .iload_n 2, 1)) rfl
theorem dX4_isInForce_7 : decode cX4_isInForce 7 = .ok (.if_icmp .ne 17, 3) := dget daX4_isInForce_0 5 (q := (7, .if_icmp .ne 17, 3)) rfl
theorem dX4_isInForce_10 : decode cX4_isInForce 10 = .ok (.aload_n 0, 1) := dget daX4_isInForce_0 6 (q := (10, .aload_n 0, 1)) rfl
theorem dX4_isInForce_11 : decode cX4_isInForce 11 = .ok (.getfield 15, 3) := dget daX4_isInForce_0 7 (q := (11, .getfield 15, 3)) rfl
theorem dX4_isInForce_14 : decode cX4_isInForce 14 = .ok (.iload_n 1, 1) := dget daX4_isInForce_0 8 (q := (14, .iload_n 1, 1)) rfl
theorem dX4_isInForce_15 : decode cX4_isInForce 15 = .ok (.iaload, 1) := dget daX4_isInForce_0 9 (q := (15, .iaload, 1)) rfl
theorem dX4_isInForce_16 : decode cX4_isInForce 16 = .ok (.iload_n 3, 1) := dget daX4_isInForce_0 10 (q := (16, .iload_n 3, 1)) rfl
theorem dX4_isInForce_17 : decode cX4_isInForce 17 = .ok (.if_icmp .gt 7, 3) := dget daX4_isInForce_0 11 (q := (17, .if_icmp .gt 7, 3)) rfl
theorem dX4_isInForce_20 : decode cX4_isInForce 20 = .ok (.iconst 1, 1) := dget daX4_isInForce_0 12 (q := (20, .iconst 1, 1)) rfl
theorem dX4_isInForce_21 : decode cX4_isInForce 21 = .ok (.goto 4, 3) := dget daX4_isInForce_0 13 (q := (21, .goto 4, 3)) rfl
theorem dX4_isInForce_24 : decode cX4_isInForce 24 = .ok (.iconst 0, 1) := dget daX4_isInForce_0 14 (q := (24, .iconst 0, 1)) rfl
theorem dX4_isInForce_25 : decode cX4_isInForce 25 = .ok (.ireturn, 1) := dget daX4_isInForce_0 15 (q := (25, .ireturn, 1)) rfl
def tdaX4_greatestSum_0 : List (Nat × (Instr × Nat)) := [(0, .iconst 0, 1), (1, .istore 5, 2), (3, .iconst 0, 1), (4, .istore 6, 2), (6, .iload 6, 2), (8, .aload_n 0, 1), (9, .getfield 43, 3), (12, .if_icmp .ge 76, 3), (15, .aload_n 0, 1), (16, .iload 6, 2), (18, .iload_n 1, 1), (19, .iload_n 2, 1), (20, .invokevirtual 77, 3), (23, .ifCond .eq 30, 3), (26, .aload_n 0, 1), (27, .getfield 18, 3), (30, .iload 6, 2), (32, .iaload, 1), (33, .iload_n 3, 1), (34, .if_icmp .gt 19, 3), (37, .aload_n 0, 1), (38, .getfield 21, 3), (41, .iload 6, 2), (43, .iaload, 1), (44, .iload 4, 2), (46, .if_icmp .gt 7, 3), (49, .iconst 1, 1), (50, .goto 4, 3), (53, .iconst 0, 1), (54, .istore 7, 2), (56, .iload 7, 2), (58, .ifCond .eq 24, 3), (61, .aload_n 0, 1), (62, .getfield 24, 3), (65, .iload 6, 2), (67, .iaload, 1), (68, .iload 5, 2), (70, .if_icmp .le 12, 3), (73, .aload_n 0, 1), (74, .getfield 24, 3)]
theorem daX4_greatestSum_0 : tdaX4_greatestSum_0.all (fun q => decide (decode cX4_greatestSum q.1 = .ok q.2)) = true := by decide +kernel
theorem dX4_greatestSum_0 : decode cX4_greatestSum 0 = .ok (.iconst 0, 1) := dget daX4_greatestSum_0 0 (q := (0, .iconst 0, 1)) rfl
theorem dX4_greatestSum_1 : decode cX4_greatestSum 1 = .ok (.istore 5, 2) := dget daX4_greatestSum_0 1 (q := (1, .istore 5, 2)) rfl
theorem dX4_greatestSum_3 : decode cX4_greatestSum 3 = .ok (.iconst 0, 1) := dget daX4_greatestSum_0 2 (q := (3, .iconst 0, 1)) rfl
theorem dX4_greatestSum_4 : decode cX4_greatestSum 4 = .ok (.istore 6, 2) := dget daX4_greatestSum_0 3 (q := (4, .istore 6, 2)) rfl
theorem dX4_greatestSum_6 : decode cX4_greatestSum 6 = .ok (.iload 6, 2) := dget daX4_greatestSum_0 4 (q := (6, .iload 6, 2)) rfl
theorem dX4_greatestSum_8 : decode cX4_greatestSum 8 = .ok (.aload_n 0, 1) := dget daX4_greatestSum_0 5 (q := (8, .aload_n 0, 1)) rfl
theorem dX4_greatestSum_9 : decode cX4_greatestSum 9 = .ok (.getfield 43, 3) := dget daX4_greatestSum_0 6 (q := (9, .getfield 43, 3)) rfl
theorem dX4_greatestSum_12 : decode cX4_greatestSum 12 = .ok (.if_icmp .ge 76, 3) := dget daX4_greatestSum_0 7 (q := (12, .if_icmp .ge 76, 3)) rfl
theorem dX4_greatestSum_15 : decode cX4_greatestSum 15 = .ok (.aload_n 0, 1) := dget daX4_greatestSum_0 8 (q := (15, .aload_n 0, 1)) rfl
theorem dX4_greatestSum_16 : decode cX4_greatestSum 16 = .ok (.iload 6, 2) := dget daX4_greatestSum_0 9 (q := (16, .iload 6, 2)) rfl
theorem dX4_greatestSum_18 : decode cX4_greatestSum 18 = .ok (.iload_n 1, 1) := dget daX4_greatestSum_0 10 (q := (18, .iload_n 1, 1)) rfl
theorem dX4_greatestSum_19 : decode cX4_greatestSum 19 = .ok (.iload_n 2, 1) := dget daX4_greatestSum_0 11 (q := (19, .iload_n 2, 1)) rfl
theorem dX4_greatestSum_20 : decode cX4_greatestSum 20 = .ok (.invokevirtual 77, 3) := dget daX4_greatestSum_0 12 (q := (20, .invokevirtual 77, 3)) rfl
theorem dX4_greatestSum_23 : decode cX4_greatestSum 23 = .ok (.ifCond .eq 30, 3) := dget daX4_greatestSum_0 13 (q := (23, .ifCond .eq 30, 3)) rfl
theorem dX4_greatestSum_26 : decode cX4_greatestSum 26 = .ok (.aload_n 0, 1) := dget daX4_greatestSum_0 14 (q := (26, .aload_n 0, 1)) rfl
theorem dX4_greatestSum_27 : decode cX4_greatestSum 27 = .ok (.getfield 18, 3) := dget daX4_greatestSum_0 15 (q := (27, .getfield 18, 3)) rfl
theorem dX4_greatestSum_30 : decode cX4_greatestSum 30 = .ok (.iload 6, 2) := dget daX4_greatestSum_0 16 (q := (30, .iload 6, 2)) rfl
theorem dX4_greatestSum_32 : decode cX4_greatestSum 32 = .ok (.iaload, 1) := dget daX4_greatestSum_0 17 (q := (32, .iaload, 1)) rfl
theorem dX4_greatestSum_33 : decode cX4_greatestSum 33 = .ok (.iload_n 3, 1) := dget daX4_greatestSum_0 18 (q := (33, .iload_n 3, 1)) rfl
theorem dX4_greatestSum_34 : decode cX4_greatestSum 34 = .ok (.if_icmp .gt 19, 3) := dget daX4_greatestSum_0 19 (q := (34, .if_icmp .gt 19, 3)) rfl
theorem dX4_greatestSum_37 : decode cX4_greatestSum 37 = .ok (.aload_n 0, 1) := dget daX4_greatestSum_0 20 (q := (37, .aload_n 0, 1)) rfl
theorem dX4_greatestSum_38 : decode cX4_greatestSum 38 = .ok (.getfield 21, 3) := dget daX4_greatestSum_0 21 (q := (38, .getfield 21, 3)) rfl
theorem dX4_greatestSum_41 : decode cX4_greatestSum 41 = .ok (.iload 6, 2) := dget daX4_greatestSum_0 22 (q := (41, .iload 6, 2)) rfl
theorem dX4_greatestSum_43 : decode cX4_greatestSum 43 = .ok (.iaload, 1) := dget daX4_greatestSum_0 23 (q := (43, .iaload, 1)) rfl
theorem dX4_greatestSum_44 : decode cX4_greatestSum 44 = .ok (.iload 4, 2) := dget daX4_greatestSum_0 24 (q := (44, .iload 4, 2)) rfl
theorem dX4_greatestSum_46 : decode cX4_greatestSum 46 = .ok (.if_icmp .gt 7, 3) := dget daX4_greatestSum_0 25 (q := (46, .if_icmp .gt 7, 3)) rfl
theorem dX4_greatestSum_49 : decode cX4_greatestSum 49 = .ok (.iconst 1, 1) := dget daX4_greatestSum_0 26 (q := (49, .iconst 1, 1)) rfl
theorem dX4_greatestSum_50 : decode cX4_greatestSum 50 = .ok (.goto 4, 3) := dget daX4_greatestSum_0 27 (q := (50, .goto 4, 3)) rfl
theorem dX4_greatestSum_53 : decode cX4_greatestSum 53 = .ok (.iconst 0, 1) := dget daX4_greatestSum_0 28 (q := (53, .iconst 0, 1)) rfl
theorem dX4_greatestSum_54 : decode cX4_greatestSum 54 = .ok (.istore 7, 2) := dget daX4_greatestSum_0 29 (q := (54, .istore 7, 2)) rfl
theorem dX4_greatestSum_56 : decode cX4_greatestSum 56 = .ok (.iload 7, 2) := dget daX4_greatestSum_0 30 (q := (56, .iload 7, 2)) rfl
theorem dX4_greatestSum_58 : decode cX4_greatestSum 58 = .ok (.ifCond .eq 24, 3) := dget daX4_greatestSum_0 31 (q := (58, .ifCond .eq 24, 3)) rfl
theorem dX4_greatestSum_61 : decode cX4_greatestSum 61 = .ok (.aload_n 0, 1) := dget daX4_greatestSum_0 32 (q := (61, .aload_n 0, 1)) rfl
theorem dX4_greatestSum_62 : decode cX4_greatestSum 62 = .ok (.getfield 24, 3) := dget daX4_greatestSum_0 33 (q := (62, .getfield 24, 3)) rfl
theorem dX4_greatestSum_65 : decode cX4_greatestSum 65 = .ok (.iload 6, 2) := dget daX4_greatestSum_0 34 (q := (65, .iload 6, 2)) rfl
theorem dX4_greatestSum_67 : decode cX4_greatestSum 67 = .ok (.iaload, 1) := dget daX4_greatestSum_0 35 (q := (67, .iaload, 1)) rfl
theorem dX4_greatestSum_68 : decode cX4_greatestSum 68 = .ok (.iload 5, 2) := dget daX4_greatestSum_0 36 (q := (68, .iload 5, 2)) rfl
theorem dX4_greatestSum_70 : decode cX4_greatestSum 70 = .ok (.if_icmp .le 12, 3) := dget daX4_greatestSum_0 37 (q := (70, .if_icmp .le 12, 3)) rfl
theorem dX4_greatestSum_73 : decode cX4_greatestSum 73 = .ok (.aload_n 0, 1) := dget daX4_greatestSum_0 38 (q := (73, .aload_n 0, 1)) rfl
theorem dX4_greatestSum_74 : decode cX4_greatestSum 74 = .ok (.getfield 24, 3) := dget daX4_greatestSum_0 39 (q := (74, .getfield 24, 3)) rfl
def tdaX4_greatestSum_1 : List (Nat × (Instr × Nat)) := [(77, .iload 6, 2), (79, .iaload, 1), (80, .istore 5, 2), (82, .iinc 6 1, 3), (85, .goto (-79), 3), (88, .iload 5, 2), (90, .ireturn, 1)]
theorem daX4_greatestSum_1 : tdaX4_greatestSum_1.all (fun q => decide (decode cX4_greatestSum q.1 = .ok q.2)) = true := by decide +kernel
theorem dX4_greatestSum_77 : decode cX4_greatestSum 77 = .ok (.iload 6, 2) := dget daX4_greatestSum_1 0 (q := (77, .iload 6, 2)) rfl
theorem dX4_greatestSum_79 : decode cX4_greatestSum 79 = .ok (.iaload, 1) := dget daX4_greatestSum_1 1 (q := (79, .iaload, 1)) rfl
theorem dX4_greatestSum_80 : decode cX4_greatestSum 80 = .ok (.istore 5, 2) := dget daX4_greatestSum_1 2 (q := (80, .istore 5, 2)) rfl
theorem dX4_greatestSum_82 : decode cX4_greatestSum 82 = .ok (.iinc 6 1, 3) := dget daX4_greatestSum_1 3 (q := (82, .iinc 6 1, 3)) rfl
theorem dX4_greatestSum_85 : decode cX4_greatestSum 85 = .ok (.goto (-79), 3) := dget daX4_greatestSum_1 4 (q := (85, .goto (-79), 3)) rfl
theorem dX4_greatestSum_88 : decode cX4_greatestSum 88 = .ok (.iload 5, 2) := dget daX4_greatestSum_1 5 (q := (88, .iload 5, 2)) rfl
theorem dX4_greatestSum_90 : decode cX4_greatestSum 90 = .ok (.ireturn, 1) := dget daX4_greatestSum_1 6 (q := (90, .ireturn, 1)) rfl
def tdaX4_isExcused_0 : List (Nat × (Instr × Nat)) := [(0, .iconst 0, 1), (1, .istore 4, 2), (3, .iconst 0, 1), (4, .istore 5, 2), (6, .iload 5, 2), (8, .aload_n 0, 1), (9, .getfield 47, 3), (12, .if_icmp .ge 74, 3), (15, .aload_n 0, 1), (16, .getfield 27, 3), (19, .iload 5, 2), (21, .iaload, 1), (22, .iload_n 1, 1), (23, .if_icmp .ne 18, 3), (26, .aload_n 0, 1), (27, .getfield 30, 3), (30, .iload 5, 2), (32, .iaload, 1), (33, .iload_n 2, 1), (34, .if_icmp .ne 7, 3), (37, .iconst 1, 1), (38, .goto 4, 3), (41, .iconst 0, 1), (42, .istore 6, 2), (44, .iload 6, 2), (46, .ifCond .eq 34, 3), (49, .aload_n 0, 1), (50, .getfield 36, 3), (53, .iload 5, 2), (55, .iaload, 1), (56, .iload_n 3, 1), (57, .if_icmp .gt 23, 3), (60, .aload_n 0, 1), (61, .getfield 33, 3), (64, .iload 5, 2), (66, .iaload, 1), (67, .iload_n 3, 1), (68, .if_icmp .gt 12, 3), (71, .aload_n 0, 1), (72, .getfield 39, 3)]
theorem daX4_isExcused_0 : tdaX4_isExcused_0.all (fun q => decide (decode cX4_isExcused q.1 = .ok q.2)) = true := by decide +kernel
theorem dX4_isExcused_0 : decode cX4_isExcused 0 = .ok (.iconst 0, 1) := dget daX4_isExcused_0 0 (q := (0, .iconst 0, 1)) rfl
theorem dX4_isExcused_1 : decode cX4_isExcused 1 = .ok (.istore 4, 2) := dget daX4_isExcused_0 1 (q := (1, .istore 4, 2)) rfl
theorem dX4_isExcused_3 : decode cX4_isExcused 3 = .ok (.iconst 0, 1) := dget daX4_isExcused_0 2 (q := (3, .iconst 0, 1)) rfl
theorem dX4_isExcused_4 : decode cX4_isExcused 4 = .ok (.istore 5, 2) := dget daX4_isExcused_0 3 (q := (4, .istore 5, 2)) rfl
theorem dX4_isExcused_6 : decode cX4_isExcused 6 = .ok (.iload 5, 2) := dget daX4_isExcused_0 4 (q := (6, .iload 5, 2)) rfl
theorem dX4_isExcused_8 : decode cX4_isExcused 8 = .ok (.aload_n 0, 1) := dget daX4_isExcused_0 5 (q := (8, .aload_n 0, 1)) rfl
theorem dX4_isExcused_9 : decode cX4_isExcused 9 = .ok (.getfield 47, 3) := dget daX4_isExcused_0 6 (q := (9, .getfield 47, 3)) rfl
theorem dX4_isExcused_12 : decode cX4_isExcused 12 = .ok (.if_icmp .ge 74, 3) := dget daX4_isExcused_0 7 (q := (12, .if_icmp .ge 74, 3)) rfl
theorem dX4_isExcused_15 : decode cX4_isExcused 15 = .ok (.aload_n 0, 1) := dget daX4_isExcused_0 8 (q := (15, .aload_n 0, 1)) rfl
theorem dX4_isExcused_16 : decode cX4_isExcused 16 = .ok (.getfield 27, 3) := dget daX4_isExcused_0 9 (q := (16, .getfield 27, 3)) rfl
theorem dX4_isExcused_19 : decode cX4_isExcused 19 = .ok (.iload 5, 2) := dget daX4_isExcused_0 10 (q := (19, .iload 5, 2)) rfl
theorem dX4_isExcused_21 : decode cX4_isExcused 21 = .ok (.iaload, 1) := dget daX4_isExcused_0 11 (q := (21, .iaload, 1)) rfl
theorem dX4_isExcused_22 : decode cX4_isExcused 22 = .ok (.iload_n 1, 1) := dget daX4_isExcused_0 12 (q := (22, .iload_n 1, 1)) rfl
theorem dX4_isExcused_23 : decode cX4_isExcused 23 = .ok (.if_icmp .ne 18, 3) := dget daX4_isExcused_0 13 (q := (23, .if_icmp .ne 18, 3)) rfl
theorem dX4_isExcused_26 : decode cX4_isExcused 26 = .ok (.aload_n 0, 1) := dget daX4_isExcused_0 14 (q := (26, .aload_n 0, 1)) rfl
theorem dX4_isExcused_27 : decode cX4_isExcused 27 = .ok (.getfield 30, 3) := dget daX4_isExcused_0 15 (q := (27, .getfield 30, 3)) rfl
theorem dX4_isExcused_30 : decode cX4_isExcused 30 = .ok (.iload 5, 2) := dget daX4_isExcused_0 16 (q := (30, .iload 5, 2)) rfl
theorem dX4_isExcused_32 : decode cX4_isExcused 32 = .ok (.iaload, 1) := dget daX4_isExcused_0 17 (q := (32, .iaload, 1)) rfl
theorem dX4_isExcused_33 : decode cX4_isExcused 33 = .ok (.iload_n 2, 1) := dget daX4_isExcused_0 18 (q := (33, .iload_n 2, 1)) rfl
theorem dX4_isExcused_34 : decode cX4_isExcused 34 = .ok (.if_icmp .ne 7, 3) := dget daX4_isExcused_0 19 (q := (34, .if_icmp .ne 7, 3)) rfl
theorem dX4_isExcused_37 : decode cX4_isExcused 37 = .ok (.iconst 1, 1) := dget daX4_isExcused_0 20 (q := (37, .iconst 1, 1)) rfl
theorem dX4_isExcused_38 : decode cX4_isExcused 38 = .ok (.goto 4, 3) := dget daX4_isExcused_0 21 (q := (38, .goto 4, 3)) rfl
theorem dX4_isExcused_41 : decode cX4_isExcused 41 = .ok (.iconst 0, 1) := dget daX4_isExcused_0 22 (q := (41, .iconst 0, 1)) rfl
theorem dX4_isExcused_42 : decode cX4_isExcused 42 = .ok (.istore 6, 2) := dget daX4_isExcused_0 23 (q := (42, .istore 6, 2)) rfl
theorem dX4_isExcused_44 : decode cX4_isExcused 44 = .ok (.iload 6, 2) := dget daX4_isExcused_0 24 (q := (44, .iload 6, 2)) rfl
theorem dX4_isExcused_46 : decode cX4_isExcused 46 = .ok (.ifCond .eq 34, 3) := dget daX4_isExcused_0 25 (q := (46, .ifCond .eq 34, 3)) rfl
theorem dX4_isExcused_49 : decode cX4_isExcused 49 = .ok (.aload_n 0, 1) := dget daX4_isExcused_0 26 (q := (49, .aload_n 0, 1)) rfl
theorem dX4_isExcused_50 : decode cX4_isExcused 50 = .ok (.getfield 36, 3) := dget daX4_isExcused_0 27 (q := (50, .getfield 36, 3)) rfl
theorem dX4_isExcused_53 : decode cX4_isExcused 53 = .ok (.iload 5, 2) := dget daX4_isExcused_0 28 (q := (53, .iload 5, 2)) rfl
theorem dX4_isExcused_55 : decode cX4_isExcused 55 = .ok (.iaload, 1) := dget daX4_isExcused_0 29 (q := (55, .iaload, 1)) rfl
theorem dX4_isExcused_56 : decode cX4_isExcused 56 = .ok (.iload_n 3, 1) := dget daX4_isExcused_0 30 (q := (56, .iload_n 3, 1)) rfl
theorem dX4_isExcused_57 : decode cX4_isExcused 57 = .ok (.if_icmp .gt 23, 3) := dget daX4_isExcused_0 31 (q := (57, .if_icmp .gt 23, 3)) rfl
theorem dX4_isExcused_60 : decode cX4_isExcused 60 = .ok (.aload_n 0, 1) := dget daX4_isExcused_0 32 (q := (60, .aload_n 0, 1)) rfl
theorem dX4_isExcused_61 : decode cX4_isExcused 61 = .ok (.getfield 33, 3) := dget daX4_isExcused_0 33 (q := (61, .getfield 33, 3)) rfl
theorem dX4_isExcused_64 : decode cX4_isExcused 64 = .ok (.iload 5, 2) := dget daX4_isExcused_0 34 (q := (64, .iload 5, 2)) rfl
theorem dX4_isExcused_66 : decode cX4_isExcused 66 = .ok (.iaload, 1) := dget daX4_isExcused_0 35 (q := (66, .iaload, 1)) rfl
theorem dX4_isExcused_67 : decode cX4_isExcused 67 = .ok (.iload_n 3, 1) := dget daX4_isExcused_0 36 (q := (67, .iload_n 3, 1)) rfl
theorem dX4_isExcused_68 : decode cX4_isExcused 68 = .ok (.if_icmp .gt 12, 3) := dget daX4_isExcused_0 37 (q := (68, .if_icmp .gt 12, 3)) rfl
theorem dX4_isExcused_71 : decode cX4_isExcused 71 = .ok (.aload_n 0, 1) := dget daX4_isExcused_0 38 (q := (71, .aload_n 0, 1)) rfl
theorem dX4_isExcused_72 : decode cX4_isExcused 72 = .ok (.getfield 39, 3) := dget daX4_isExcused_0 39 (q := (72, .getfield 39, 3)) rfl
def tdaX4_isExcused_1 : List (Nat × (Instr × Nat)) := [(75, .iload 5, 2), (77, .baload, 1), (78, .istore 4, 2), (80, .iinc 5 1, 3), (83, .goto (-77), 3), (86, .iload 4, 2), (88, .ireturn, 1)]
theorem daX4_isExcused_1 : tdaX4_isExcused_1.all (fun q => decide (decode cX4_isExcused q.1 = .ok q.2)) = true := by decide +kernel
theorem dX4_isExcused_75 : decode cX4_isExcused 75 = .ok (.iload 5, 2) := dget daX4_isExcused_1 0 (q := (75, .iload 5, 2)) rfl
theorem dX4_isExcused_77 : decode cX4_isExcused 77 = .ok (.baload, 1) := dget daX4_isExcused_1 1 (q := (77, .baload, 1)) rfl
theorem dX4_isExcused_78 : decode cX4_isExcused 78 = .ok (.istore 4, 2) := dget daX4_isExcused_1 2 (q := (78, .istore 4, 2)) rfl
theorem dX4_isExcused_80 : decode cX4_isExcused 80 = .ok (.iinc 5 1, 3) := dget daX4_isExcused_1 3 (q := (80, .iinc 5 1, 3)) rfl
theorem dX4_isExcused_83 : decode cX4_isExcused 83 = .ok (.goto (-77), 3) := dget daX4_isExcused_1 4 (q := (83, .goto (-77), 3)) rfl
theorem dX4_isExcused_86 : decode cX4_isExcused 86 = .ok (.iload 4, 2) := dget daX4_isExcused_1 5 (q := (86, .iload 4, 2)) rfl
theorem dX4_isExcused_88 : decode cX4_isExcused 88 = .ok (.ireturn, 1) := dget daX4_isExcused_1 6 (q := (88, .ireturn, 1)) rfl
def tdaX5_init_0 : List (Nat × (Instr × Nat)) := [(0, .aload_n 0, 1), (1, .invokespecial 1, 3), (4, .aload_n 0, 1), (5, .iload_n 1, 1), (6, .putfield 7, 3), (9, .aload_n 0, 1), (10, .aload_n 2, 1), (11, .putfield 13, 3), (14, .aload_n 0, 1), (15, .aload_n 3, 1), (16, .putfield 17, 3), (19, .aload_n 0, 1), (20, .iload 4, 2), (22, .putfield 20, 3), (25, .aload_n 0, 1), (26, .iload 5, 2), (28, .putfield 23, 3), (31, .aload_n 0, 1), (32, .iload 6, 2), (34, .putfield 26, 3), (37, .aload_n 0, 1), (38, .iload 7, 2), (40, .putfield 29, 3), (43, .return_, 1)]
theorem daX5_init_0 : tdaX5_init_0.all (fun q => decide (decode cX5_init q.1 = .ok q.2)) = true := by decide +kernel
theorem dX5_init_0 : decode cX5_init 0 = .ok (.aload_n 0, 1) := dget daX5_init_0 0 (q := (0, .aload_n 0, 1)) rfl
theorem dX5_init_1 : decode cX5_init 1 = .ok (.invokespecial 1, 3) := dget daX5_init_0 1 (q := (1, .invokespecial 1, 3)) rfl
theorem dX5_init_4 : decode cX5_init 4 = .ok (.aload_n 0, 1) := dget daX5_init_0 2 (q := (4, .aload_n 0, 1)) rfl
theorem dX5_init_5 : decode cX5_init 5 = .ok (.iload_n 1, 1) := dget daX5_init_0 3 (q := (5, .iload_n 1, 1)) rfl
theorem dX5_init_6 : decode cX5_init 6 = .ok (.putfield 7, 3) := dget daX5_init_0 4 (q := (6, .putfield 7, 3)) rfl
theorem dX5_init_9 : decode cX5_init 9 = .ok (.aload_n 0, 1) := dget daX5_init_0 5 (q := (9, .aload_n 0, 1)) rfl
theorem dX5_init_10 : decode cX5_init 10 = .ok (.aload_n 2, 1) := dget daX5_init_0 6 (q := (10, .aload_n 2, 1)) rfl
theorem dX5_init_11 : decode cX5_init 11 = .ok (.putfield 13, 3) := dget daX5_init_0 7 (q := (11, .putfield 13, 3)) rfl
theorem dX5_init_14 : decode cX5_init 14 = .ok (.aload_n 0, 1) := dget daX5_init_0 8 (q := (14, .aload_n 0, 1)) rfl
theorem dX5_init_15 : decode cX5_init 15 = .ok (.aload_n 3, 1) := dget daX5_init_0 9 (q := (15, .aload_n 3, 1)) rfl
theorem dX5_init_16 : decode cX5_init 16 = .ok (.putfield 17, 3) := dget daX5_init_0 10 (q := (16, .putfield 17, 3)) rfl
theorem dX5_init_19 : decode cX5_init 19 = .ok (.aload_n 0, 1) := dget daX5_init_0 11 (q := (19, .aload_n 0, 1)) rfl
theorem dX5_init_20 : decode cX5_init 20 = .ok (.iload 4, 2) := dget daX5_init_0 12 (q := (20, .iload 4, 2)) rfl
theorem dX5_init_22 : decode cX5_init 22 = .ok (.putfield 20, 3) := dget daX5_init_0 13 (q := (22, .putfield 20, 3)) rfl
theorem dX5_init_25 : decode cX5_init 25 = .ok (.aload_n 0, 1) := dget daX5_init_0 14 (q := (25, .aload_n 0, 1)) rfl
theorem dX5_init_26 : decode cX5_init 26 = .ok (.iload 5, 2) := dget daX5_init_0 15 (q := (26, .iload 5, 2)) rfl
theorem dX5_init_28 : decode cX5_init 28 = .ok (.putfield 23, 3) := dget daX5_init_0 16 (q := (28, .putfield 23, 3)) rfl
theorem dX5_init_31 : decode cX5_init 31 = .ok (.aload_n 0, 1) := dget daX5_init_0 17 (q := (31, .aload_n 0, 1)) rfl
theorem dX5_init_32 : decode cX5_init 32 = .ok (.iload 6, 2) := dget daX5_init_0 18 (q := (32, .iload 6, 2)) rfl
theorem dX5_init_34 : decode cX5_init 34 = .ok (.putfield 26, 3) := dget daX5_init_0 19 (q := (34, .putfield 26, 3)) rfl
theorem dX5_init_37 : decode cX5_init 37 = .ok (.aload_n 0, 1) := dget daX5_init_0 20 (q := (37, .aload_n 0, 1)) rfl
theorem dX5_init_38 : decode cX5_init 38 = .ok (.iload 7, 2) := dget daX5_init_0 21 (q := (38, .iload 7, 2)) rfl
theorem dX5_init_40 : decode cX5_init 40 = .ok (.putfield 29, 3) := dget daX5_init_0 22 (q := (40, .putfield 29, 3)) rfl
theorem dX5_init_43 : decode cX5_init 43 = .ok (.return_, 1) := dget daX5_init_0 23 (q := (43, .return_, 1)) rfl
def tdaX5_enter_0 : List (Nat × (Instr × Nat)) := [(0, .aload_n 0, 1), (1, .iload_n 1, 1), (2, .putfield 32, 3), (5, .aload_n 0, 1), (6, .iload_n 2, 1), (7, .putfield 35, 3), (10, .aload_n 0, 1), (11, .iconst 1, 1), (12, .putfield 38, 3), (15, .aload_n 0, 1), (16, .invokevirtual 42, 3), (19, .return_, 1)]
theorem daX5_enter_0 : tdaX5_enter_0.all (fun q => decide (decode cX5_enter q.1 = .ok q.2)) = true := by decide +kernel
theorem dX5_enter_0 : decode cX5_enter 0 = .ok (.aload_n 0, 1) := dget daX5_enter_0 0 (q := (0, .aload_n 0, 1)) rfl
theorem dX5_enter_1 : decode cX5_enter 1 = .ok (.iload_n 1, 1) := dget daX5_enter_0 1 (q := (1, .iload_n 1, 1)) rfl
theorem dX5_enter_2 : decode cX5_enter 2 = .ok (.putfield 32, 3) := dget daX5_enter_0 2 (q := (2, .putfield 32, 3)) rfl
theorem dX5_enter_5 : decode cX5_enter 5 = .ok (.aload_n 0, 1) := dget daX5_enter_0 3 (q := (5, .aload_n 0, 1)) rfl
theorem dX5_enter_6 : decode cX5_enter 6 = .ok (.iload_n 2, 1) := dget daX5_enter_0 4 (q := (6, .iload_n 2, 1)) rfl
theorem dX5_enter_7 : decode cX5_enter 7 = .ok (.putfield 35, 3) := dget daX5_enter_0 5 (q := (7, .putfield 35, 3)) rfl
theorem dX5_enter_10 : decode cX5_enter 10 = .ok (.aload_n 0, 1) := dget daX5_enter_0 6 (q := (10, .aload_n 0, 1)) rfl
theorem dX5_enter_11 : decode cX5_enter 11 = .ok (.iconst 1, 1) := dget daX5_enter_0 7 (q := (11, .iconst 1, 1)) rfl
theorem dX5_enter_12 : decode cX5_enter 12 = .ok (.putfield 38, 3) := dget daX5_enter_0 8 (q := (12, .putfield 38, 3)) rfl
theorem dX5_enter_15 : decode cX5_enter 15 = .ok (.aload_n 0, 1) := dget daX5_enter_0 9 (q := (15, .aload_n 0, 1)) rfl
theorem dX5_enter_16 : decode cX5_enter 16 = .ok (.invokevirtual 42, 3) := dget daX5_enter_0 10 (q := (16, .invokevirtual 42, 3)) rfl
theorem dX5_enter_19 : decode cX5_enter 19 = .ok (.return_, 1) := dget daX5_enter_0 11 (q := (19, .return_, 1)) rfl
def tdaX5_putRight_0 : List (Nat × (Instr × Nat)) := [(0, .aload_n 0, 1), (1, .iconst 0, 1), (2, .aload_n 0, 1), (3, .getfield 32, 3), (6, .aload_n 0, 1), (7, .getfield 13, 3), (10, .getfield 45, 3), (13, .isub, 1), (14, .invokestatic 50, 3), (17, .putfield 56, 3), (20, .aload_n 0, 1), (21, .iconst 0, 1), (22, .aload_n 0, 1), (23, .getfield 35, 3), (26, .aload_n 0, 1), (27, .getfield 17, 3), (30, .getfield 45, 3), (33, .isub, 1), (34, .invokestatic 50, 3), (37, .putfield 59, 3), (40, .aload_n 0, 1), (41, .iconst 0, 1), (42, .aload_n 0, 1), (43, .getfield 56, 3), (46, .aload_n 0, 1), (47, .getfield 26, 3), (50, .isub, 1), (51, .invokestatic 50, 3), (54, .putfield 62, 3), (57, .aload_n 0, 1), (58, .iconst 0, 1), (59, .aload_n 0, 1), (60, .getfield 59, 3), (63, .aload_n 0, 1), (64, .getfield 29, 3), (67, .isub, 1), (68, .invokestatic 50, 3), (71, .putfield 65, 3), (74, .return_, 1)]
theorem daX5_putRight_0 : tdaX5_putRight_0.all (fun q => decide (decode cX5_putRight q.1 = .ok q.2)) = true := by decide +kernel
theorem dX5_putRight_0 : decode cX5_putRight 0 = .ok (.aload_n 0, 1) := dget daX5_putRight_0 0 (q := (0, .aload_n 0, 1)) rfl
theorem dX5_putRight_1 : decode cX5_putRight 1 = .ok (.iconst 0, 1) := dget daX5_putRight_0 1 (q := (1, .iconst 0, 1)) rfl
theorem dX5_putRight_2 : decode cX5_putRight 2 = .ok (.aload_n 0, 1) := dget daX5_putRight_0 2 (q := (2, .aload_n 0, 1)) rfl
theorem dX5_putRight_3 : decode cX5_putRight 3 = .ok (.getfield 32, 3) := dget daX5_putRight_0 3 (q := (3, .getfield 32, 3)) rfl
theorem dX5_putRight_6 : decode cX5_putRight 6 = .ok (.aload_n 0, 1) := dget daX5_putRight_0 4 (q := (6, .aload_n 0, 1)) rfl
theorem dX5_putRight_7 : decode cX5_putRight 7 = .ok (.getfield 13, 3) := dget daX5_putRight_0 5 (q := (7, .getfield 13, 3)) rfl
theorem dX5_putRight_10 : decode cX5_putRight 10 = .ok (.getfield 45, 3) := dget daX5_putRight_0 6 (q := (10, .getfield 45, 3)) rfl
theorem dX5_putRight_13 : decode cX5_putRight 13 = .ok (.isub, 1) := dget daX5_putRight_0 7 (q := (13, .isub, 1)) rfl
theorem dX5_putRight_14 : decode cX5_putRight 14 = .ok (.invokestatic 50, 3) := dget daX5_putRight_0 8 (q := (14, .invokestatic 50, 3)) rfl
theorem dX5_putRight_17 : decode cX5_putRight 17 = .ok (.putfield 56, 3) := dget daX5_putRight_0 9 (q := (17, .putfield 56, 3)) rfl
theorem dX5_putRight_20 : decode cX5_putRight 20 = .ok (.aload_n 0, 1) := dget daX5_putRight_0 10 (q := (20, .aload_n 0, 1)) rfl
theorem dX5_putRight_21 : decode cX5_putRight 21 = .ok (.iconst 0, 1) := dget daX5_putRight_0 11 (q := (21, .iconst 0, 1)) rfl
theorem dX5_putRight_22 : decode cX5_putRight 22 = .ok (.aload_n 0, 1) := dget daX5_putRight_0 12 (q := (22, .aload_n 0, 1)) rfl
theorem dX5_putRight_23 : decode cX5_putRight 23 = .ok (.getfield 35, 3) := dget daX5_putRight_0 13 (q := (23, .getfield 35, 3)) rfl
theorem dX5_putRight_26 : decode cX5_putRight 26 = .ok (.aload_n 0, 1) := dget daX5_putRight_0 14 (q := (26, .aload_n 0, 1)) rfl
theorem dX5_putRight_27 : decode cX5_putRight 27 = .ok (.getfield 17, 3) := dget daX5_putRight_0 15 (q := (27, .getfield 17, 3)) rfl
theorem dX5_putRight_30 : decode cX5_putRight 30 = .ok (.getfield 45, 3) := dget daX5_putRight_0 16 (q := (30, .getfield 45, 3)) rfl
theorem dX5_putRight_33 : decode cX5_putRight 33 = .ok (.isub, 1) := dget daX5_putRight_0 17 (q := (33, .isub, 1)) rfl
theorem dX5_putRight_34 : decode cX5_putRight 34 = .ok (.invokestatic 50, 3) := dget daX5_putRight_0 18 (q := (34, .invokestatic 50, 3)) rfl
theorem dX5_putRight_37 : decode cX5_putRight 37 = .ok (.putfield 59, 3) := dget daX5_putRight_0 19 (q := (37, .putfield 59, 3)) rfl
theorem dX5_putRight_40 : decode cX5_putRight 40 = .ok (.aload_n 0, 1) := dget daX5_putRight_0 20 (q := (40, .aload_n 0, 1)) rfl
theorem dX5_putRight_41 : decode cX5_putRight 41 = .ok (.iconst 0, 1) := dget daX5_putRight_0 21 (q := (41, .iconst 0, 1)) rfl
theorem dX5_putRight_42 : decode cX5_putRight 42 = .ok (.aload_n 0, 1) := dget daX5_putRight_0 22 (q := (42, .aload_n 0, 1)) rfl
theorem dX5_putRight_43 : decode cX5_putRight 43 = .ok (.getfield 56, 3) := dget daX5_putRight_0 23 (q := (43, .getfield 56, 3)) rfl
theorem dX5_putRight_46 : decode cX5_putRight 46 = .ok (.aload_n 0, 1) := dget daX5_putRight_0 24 (q := (46, .aload_n 0, 1)) rfl
theorem dX5_putRight_47 : decode cX5_putRight 47 = .ok (.getfield 26, 3) := dget daX5_putRight_0 25 (q := (47, .getfield 26, 3)) rfl
theorem dX5_putRight_50 : decode cX5_putRight 50 = .ok (.isub, 1) := dget daX5_putRight_0 26 (q := (50, .isub, 1)) rfl
theorem dX5_putRight_51 : decode cX5_putRight 51 = .ok (.invokestatic 50, 3) := dget daX5_putRight_0 27 (q := (51, .invokestatic 50, 3)) rfl
theorem dX5_putRight_54 : decode cX5_putRight 54 = .ok (.putfield 62, 3) := dget daX5_putRight_0 28 (q := (54, .putfield 62, 3)) rfl
theorem dX5_putRight_57 : decode cX5_putRight 57 = .ok (.aload_n 0, 1) := dget daX5_putRight_0 29 (q := (57, .aload_n 0, 1)) rfl
theorem dX5_putRight_58 : decode cX5_putRight 58 = .ok (.iconst 0, 1) := dget daX5_putRight_0 30 (q := (58, .iconst 0, 1)) rfl
theorem dX5_putRight_59 : decode cX5_putRight 59 = .ok (.aload_n 0, 1) := dget daX5_putRight_0 31 (q := (59, .aload_n 0, 1)) rfl
theorem dX5_putRight_60 : decode cX5_putRight 60 = .ok (.getfield 59, 3) := dget daX5_putRight_0 32 (q := (60, .getfield 59, 3)) rfl
theorem dX5_putRight_63 : decode cX5_putRight 63 = .ok (.aload_n 0, 1) := dget daX5_putRight_0 33 (q := (63, .aload_n 0, 1)) rfl
theorem dX5_putRight_64 : decode cX5_putRight 64 = .ok (.getfield 29, 3) := dget daX5_putRight_0 34 (q := (64, .getfield 29, 3)) rfl
theorem dX5_putRight_67 : decode cX5_putRight 67 = .ok (.isub, 1) := dget daX5_putRight_0 35 (q := (67, .isub, 1)) rfl
theorem dX5_putRight_68 : decode cX5_putRight 68 = .ok (.invokestatic 50, 3) := dget daX5_putRight_0 36 (q := (68, .invokestatic 50, 3)) rfl
theorem dX5_putRight_71 : decode cX5_putRight 71 = .ok (.putfield 65, 3) := dget daX5_putRight_0 37 (q := (71, .putfield 65, 3)) rfl
theorem dX5_putRight_74 : decode cX5_putRight 74 = .ok (.return_, 1) := dget daX5_putRight_0 38 (q := (74, .return_, 1)) rfl
def tdaX5_waitFor_0 : List (Nat × (Instr × Nat)) := [(0, .aload_n 1, 1), (1, .ifnull 10, 3), (4, .aload_n 1, 1), (5, .getfield 38, 3), (8, .ifCond .ne 5, 3), (11, .iconst 0, 1), (12, .ireturn, 1), (13, .iconst 0, 1), (14, .aload_n 1, 1), (15, .getfield 59, 3), (18, .iload_n 2, 1), (19, .iadd, 1), (20, .aload_n 0, 1), (21, .getfield 26, 3), (24, .isub, 1), (25, .invokestatic 50, 3), (28, .istore_n 3, 1), (29, .iload_n 3, 1), (30, .aload_n 0, 1), (31, .getfield 62, 3), (34, .invokestatic 68, 3), (37, .ireturn, 1)]
theorem daX5_waitFor_0 : tdaX5_waitFor_0.all (fun q => decide (decode cX5_waitFor q.1 = .ok q.2)) = true := by decide +kernel
theorem dX5_waitFor_0 : decode cX5_waitFor 0 = .ok (.aload_n 1, 1) := dget daX5_waitFor_0 0 (q := (0, .aload_n 1, 1)) rfl
theorem dX5_waitFor_1 : decode cX5_waitFor 1 = .ok (.ifnull 10, 3) := dget daX5_waitFor_0 1 (q := (1, .ifnull 10, 3)) rfl
theorem dX5_waitFor_4 : decode cX5_waitFor 4 = .ok (.aload_n 1, 1) := dget daX5_waitFor_0 2 (q := (4, .aload_n 1, 1)) rfl
theorem dX5_waitFor_5 : decode cX5_waitFor 5 = .ok (.getfield 38, 3) := dget daX5_waitFor_0 3 (q := (5, .getfield 38, 3)) rfl
theorem dX5_waitFor_8 : decode cX5_waitFor 8 = .ok (.ifCond .ne 5, 3) := dget daX5_waitFor_0 4 (q := (8, .ifCond .ne 5, 3)) rfl
theorem dX5_waitFor_11 : decode cX5_waitFor 11 = .ok (.iconst 0, 1) := dget daX5_waitFor_0 5 (q := (11, .iconst 0, 1)) rfl
theorem dX5_waitFor_12 : decode cX5_waitFor 12 = .ok (.ireturn, 1) := dget daX5_waitFor_0 6 (q := (12, .ireturn, 1)) rfl
theorem dX5_waitFor_13 : decode cX5_waitFor 13 = .ok (.iconst 0, 1) := dget daX5_waitFor_0 7 (q := (13, .iconst 0, 1)) rfl
theorem dX5_waitFor_14 : decode cX5_waitFor 14 = .ok (.aload_n 1, 1) := dget daX5_waitFor_0 8 (q := (14, .aload_n 1, 1)) rfl
theorem dX5_waitFor_15 : decode cX5_waitFor 15 = .ok (.getfield 59, 3) := dget daX5_waitFor_0 9 (q := (15, .getfield 59, 3)) rfl
theorem dX5_waitFor_18 : decode cX5_waitFor 18 = .ok (.iload_n 2, 1) := dget daX5_waitFor_0 10 (q := (18, .iload_n 2, 1)) rfl
theorem dX5_waitFor_19 : decode cX5_waitFor 19 = .ok (.iadd, 1) := dget daX5_waitFor_0 11 (q := (19, .iadd, 1)) rfl
theorem dX5_waitFor_20 : decode cX5_waitFor 20 = .ok (.aload_n 0, 1) := dget daX5_waitFor_0 12 (q := (20, .aload_n 0, 1)) rfl
theorem dX5_waitFor_21 : decode cX5_waitFor 21 = .ok (.getfield 26, 3) := dget daX5_waitFor_0 13 (q := (21, .getfield 26, 3)) rfl
theorem dX5_waitFor_24 : decode cX5_waitFor 24 = .ok (.isub, 1) := dget daX5_waitFor_0 14 (q := (24, .isub, 1)) rfl
theorem dX5_waitFor_25 : decode cX5_waitFor 25 = .ok (.invokestatic 50, 3) := dget daX5_waitFor_0 15 (q := (25, .invokestatic 50, 3)) rfl
theorem dX5_waitFor_28 : decode cX5_waitFor 28 = .ok (.istore_n 3, 1) := dget daX5_waitFor_0 16 (q := (28, .istore_n 3, 1)) rfl
theorem dX5_waitFor_29 : decode cX5_waitFor 29 = .ok (.iload_n 3, 1) := dget daX5_waitFor_0 17 (q := (29, .iload_n 3, 1)) rfl
theorem dX5_waitFor_30 : decode cX5_waitFor 30 = .ok (.aload_n 0, 1) := dget daX5_waitFor_0 18 (q := (30, .aload_n 0, 1)) rfl
theorem dX5_waitFor_31 : decode cX5_waitFor 31 = .ok (.getfield 62, 3) := dget daX5_waitFor_0 19 (q := (31, .getfield 62, 3)) rfl
theorem dX5_waitFor_34 : decode cX5_waitFor 34 = .ok (.invokestatic 68, 3) := dget daX5_waitFor_0 20 (q := (34, .invokestatic 68, 3)) rfl
theorem dX5_waitFor_37 : decode cX5_waitFor 37 = .ok (.ireturn, 1) := dget daX5_waitFor_0 21 (q := (37, .ireturn, 1)) rfl
def tdaX6_init_0 : List (Nat × (Instr × Nat)) := [(0, .aload_n 0, 1), (1, .invokespecial 1, 3), (4, .aload_n 0, 1), (5, .iload_n 1, 1), (6, .putfield 7, 3), (9, .aload_n 0, 1), (10, .iload_n 1, 1), (11, .putfield 13, 3), (14, .return_, 1)]
theorem daX6_init_0 : tdaX6_init_0.all (fun q => decide (decode cX6_init q.1 = .ok q.2)) = true := by decide +kernel
theorem dX6_init_0 : decode cX6_init 0 = .ok (.aload_n 0, 1) := dget daX6_init_0 0 (q := (0, .aload_n 0, 1)) rfl
theorem dX6_init_1 : decode cX6_init 1 = .ok (.invokespecial 1, 3) := dget daX6_init_0 1 (q := (1, .invokespecial 1, 3)) rfl
theorem dX6_init_4 : decode cX6_init 4 = .ok (.aload_n 0, 1) := dget daX6_init_0 2 (q := (4, .aload_n 0, 1)) rfl
theorem dX6_init_5 : decode cX6_init 5 = .ok (.iload_n 1, 1) := dget daX6_init_0 3 (q := (5, .iload_n 1, 1)) rfl
theorem dX6_init_6 : decode cX6_init 6 = .ok (.putfield 7, 3) := dget daX6_init_0 4 (q := (6, .putfield 7, 3)) rfl
theorem dX6_init_9 : decode cX6_init 9 = .ok (.aload_n 0, 1) := dget daX6_init_0 5 (q := (9, .aload_n 0, 1)) rfl
theorem dX6_init_10 : decode cX6_init 10 = .ok (.iload_n 1, 1) := dget daX6_init_0 6 (q := (10, .iload_n 1, 1)) rfl
theorem dX6_init_11 : decode cX6_init 11 = .ok (.putfield 13, 3) := dget daX6_init_0 7 (q := (11, .putfield 13, 3)) rfl
theorem dX6_init_14 : decode cX6_init 14 = .ok (.return_, 1) := dget daX6_init_0 8 (q := (14, .return_, 1)) rfl
def tdaX7_init_0 : List (Nat × (Instr × Nat)) := [(0, .aload_n 0, 1), (1, .invokespecial 1, 3), (4, .aload_n 0, 1), (5, .bipush 10, 2), (7, .anewarray 9, 3), (10, .putfield 11, 3), (13, .iconst 0, 1), (14, .istore_n 1, 1), (15, .iload_n 1, 1), (16, .bipush 10, 2), (18, .if_icmp .ge 23, 3), (21, .aload_n 0, 1), (22, .getfield 11, 3), (25, .iload_n 1, 1), (26, .new 9, 3), (29, .dup, 1), (30, .iload_n 1, 1), (31, .invokespecial 15, 3), (34, .aastore, 1), (35, .iinc 1 1, 3), (38, .goto (-23), 3), (41, .aload_n 0, 1), (42, .bipush 10, 2), (44, .bipush 10, 2), (46, .multianewarray 18 2, 4), (50, .putfield 20, 3), (53, .return_, 1)]
theorem daX7_init_0 : tdaX7_init_0.all (fun q => decide (decode cX7_init q.1 = .ok q.2)) = true := by decide +kernel
theorem dX7_init_0 : decode cX7_init 0 = .ok (.aload_n 0, 1) := dget daX7_init_0 0 (q := (0, .aload_n 0, 1)) rfl
theorem dX7_init_1 : decode cX7_init 1 = .ok (.invokespecial 1, 3) := dget daX7_init_0 1 (q := (1, .invokespecial 1, 3)) rfl
theorem dX7_init_4 : decode cX7_init 4 = .ok (.aload_n 0, 1) := dget daX7_init_0 2 (q := (4, .aload_n 0, 1)) rfl
theorem dX7_init_5 : decode cX7_init 5 = .ok (.bipush 10, 2) := dget daX7_init_0 3 (q := (5, .bipush 10, 2)) rfl
theorem dX7_init_7 : decode cX7_init 7 = .ok (.anewarray 9, 3) := dget daX7_init_0 4 (q := (7, .anewarray 9, 3)) rfl
theorem dX7_init_10 : decode cX7_init 10 = .ok (.putfield 11, 3) := dget daX7_init_0 5 (q := (10, .putfield 11, 3)) rfl
theorem dX7_init_13 : decode cX7_init 13 = .ok (.iconst 0, 1) := dget daX7_init_0 6 (q := (13, .iconst 0, 1)) rfl
theorem dX7_init_14 : decode cX7_init 14 = .ok (.istore_n 1, 1) := dget daX7_init_0 7 (q := (14, .istore_n 1, 1)) rfl
theorem dX7_init_15 : decode cX7_init 15 = .ok (.iload_n 1, 1) := dget daX7_init_0 8 (q := (15, .iload_n 1, 1)) rfl
theorem dX7_init_16 : decode cX7_init 16 = .ok (.bipush 10, 2) := dget daX7_init_0 9 (q := (16, .bipush 10, 2)) rfl
theorem dX7_init_18 : decode cX7_init 18 = .ok (.if_icmp .ge 23, 3) := dget daX7_init_0 10 (q := (18, .if_icmp .ge 23, 3)) rfl
theorem dX7_init_21 : decode cX7_init 21 = .ok (.aload_n 0, 1) := dget daX7_init_0 11 (q := (21, .aload_n 0, 1)) rfl
theorem dX7_init_22 : decode cX7_init 22 = .ok (.getfield 11, 3) := dget daX7_init_0 12 (q := (22, .getfield 11, 3)) rfl
theorem dX7_init_25 : decode cX7_init 25 = .ok (.iload_n 1, 1) := dget daX7_init_0 13 (q := (25, .iload_n 1, 1)) rfl
theorem dX7_init_26 : decode cX7_init 26 = .ok (.new 9, 3) := dget daX7_init_0 14 (q := (26, .new 9, 3)) rfl
theorem dX7_init_29 : decode cX7_init 29 = .ok (.dup, 1) := dget daX7_init_0 15 (q := (29, .dup, 1)) rfl
theorem dX7_init_30 : decode cX7_init 30 = .ok (.iload_n 1, 1) := dget daX7_init_0 16 (q := (30, .iload_n 1, 1)) rfl
theorem dX7_init_31 : decode cX7_init 31 = .ok (.invokespecial 15, 3) := dget daX7_init_0 17 (q := (31, .invokespecial 15, 3)) rfl
theorem dX7_init_34 : decode cX7_init 34 = .ok (.aastore, 1) := dget daX7_init_0 18 (q := (34, .aastore, 1)) rfl
theorem dX7_init_35 : decode cX7_init 35 = .ok (.iinc 1 1, 3) := dget daX7_init_0 19 (q := (35, .iinc 1 1, 3)) rfl
theorem dX7_init_38 : decode cX7_init 38 = .ok (.goto (-23), 3) := dget daX7_init_0 20 (q := (38, .goto (-23), 3)) rfl
theorem dX7_init_41 : decode cX7_init 41 = .ok (.aload_n 0, 1) := dget daX7_init_0 21 (q := (41, .aload_n 0, 1)) rfl
theorem dX7_init_42 : decode cX7_init 42 = .ok (.bipush 10, 2) := dget daX7_init_0 22 (q := (42, .bipush 10, 2)) rfl
theorem dX7_init_44 : decode cX7_init 44 = .ok (.bipush 10, 2) := dget daX7_init_0 23 (q := (44, .bipush 10, 2)) rfl
theorem dX7_init_46 : decode cX7_init 46 = .ok (.multianewarray 18 2, 4) := dget daX7_init_0 24 (q := (46, .multianewarray 18 2, 4)) rfl
theorem dX7_init_50 : decode cX7_init 50 = .ok (.putfield 20, 3) := dget daX7_init_0 25 (q := (50, .putfield 20, 3)) rfl
theorem dX7_init_53 : decode cX7_init 53 = .ok (.return_, 1) := dget daX7_init_0 26 (q := (53, .return_, 1)) rfl
def tdaX7_find_0 : List (Nat × (Instr × Nat)) := [(0, .bipush 10, 2), (2, .iload_n 1, 1), (3, .invokestatic 23, 3), (6, .ifCond .eq 12, 3), (9, .aload_n 0, 1), (10, .getfield 11, 3), (13, .iload_n 1, 1), (14, .aaload, 1), (15, .goto 4, 3), (18, .aconst_null, 1), (19, .areturn, 1)]
theorem daX7_find_0 : tdaX7_find_0.all (fun q => decide (decode cX7_find q.1 = .ok q.2)) = true := by decide +kernel
theorem dX7_find_0 : decode cX7_find 0 = .ok (.bipush 10, 2) := dget daX7_find_0 0 (q := (0, .bipush 10, 2)) rfl
theorem dX7_find_2 : decode cX7_find 2 = .ok (.iload_n 1, 1) := dget daX7_find_0 1 (q := (2, .iload_n 1, 1)) rfl
theorem dX7_find_3 : decode cX7_find 3 = .ok (.invokestatic 23, 3) := dget daX7_find_0 2 (q := (3, .invokestatic 23, 3)) rfl
theorem dX7_find_6 : decode cX7_find 6 = .ok (.ifCond .eq 12, 3) := dget daX7_find_0 3 (q := (6, .ifCond .eq 12, 3)) rfl
theorem dX7_find_9 : decode cX7_find 9 = .ok (.aload_n 0, 1) := dget daX7_find_0 4 (q := (9, .aload_n 0, 1)) rfl
theorem dX7_find_10 : decode cX7_find 10 = .ok (.getfield 11, 3) := dget daX7_find_0 5 (q := (10, .getfield 11, 3)) rfl
theorem dX7_find_13 : decode cX7_find 13 = .ok (.iload_n 1, 1) := dget daX7_find_0 6 (q := (13, .iload_n 1, 1)) rfl
theorem dX7_find_14 : decode cX7_find 14 = .ok (.aaload, 1) := dget daX7_find_0 7 (q := (14, .aaload, 1)) rfl
theorem dX7_find_15 : decode cX7_find 15 = .ok (.goto 4, 3) := dget daX7_find_0 8 (q := (15, .goto 4, 3)) rfl
theorem dX7_find_18 : decode cX7_find 18 = .ok (.aconst_null, 1) := dget daX7_find_0 9 (q := (18, .aconst_null, 1)) rfl
theorem dX7_find_19 : decode cX7_find 19 = .ok (.areturn, 1) := dget daX7_find_0 10 (q := (19, .areturn, 1)) rfl
def tdaX7_milesBetween_0 : List (Nat × (Instr × Nat)) := [(0, .aload_n 0, 1), (1, .getfield 20, 3), (4, .aload_n 1, 1), (5, .getfield 29, 3), (8, .aaload, 1), (9, .aload_n 2, 1), (10, .getfield 29, 3), (13, .iaload, 1), (14, .ireturn, 1)]
theorem daX7_milesBetween_0 : tdaX7_milesBetween_0.all (fun q => decide (decode cX7_milesBetween q.1 = .ok q.2)) = true := by decide +kernel
theorem dX7_milesBetween_0 : decode cX7_milesBetween 0 = .ok (.aload_n 0, 1) := dget daX7_milesBetween_0 0 (q := (0, .aload_n 0, 1)) rfl
theorem dX7_milesBetween_1 : decode cX7_milesBetween 1 = .ok (.getfield 20, 3) := dget daX7_milesBetween_0 1 (q := (1, .getfield 20, 3)) rfl
theorem dX7_milesBetween_4 : decode cX7_milesBetween 4 = .ok (.aload_n 1, 1) := dget daX7_milesBetween_0 2 (q := (4, .aload_n 1, 1)) rfl
theorem dX7_milesBetween_5 : decode cX7_milesBetween 5 = .ok (.getfield 29, 3) := dget daX7_milesBetween_0 3 (q := (5, .getfield 29, 3)) rfl
theorem dX7_milesBetween_8 : decode cX7_milesBetween 8 = .ok (.aaload, 1) := dget daX7_milesBetween_0 4 (q := (8, .aaload, 1)) rfl
theorem dX7_milesBetween_9 : decode cX7_milesBetween 9 = .ok (.aload_n 2, 1) := dget daX7_milesBetween_0 5 (q := (9, .aload_n 2, 1)) rfl
theorem dX7_milesBetween_10 : decode cX7_milesBetween 10 = .ok (.getfield 29, 3) := dget daX7_milesBetween_0 6 (q := (10, .getfield 29, 3)) rfl
theorem dX7_milesBetween_13 : decode cX7_milesBetween 13 = .ok (.iaload, 1) := dget daX7_milesBetween_0 7 (q := (13, .iaload, 1)) rfl
theorem dX7_milesBetween_14 : decode cX7_milesBetween 14 = .ok (.ireturn, 1) := dget daX7_milesBetween_0 8 (q := (14, .ireturn, 1)) rfl
def tdaX7_setMiles_0 : List (Nat × (Instr × Nat)) := [(0, .aload_n 0, 1), (1, .getfield 20, 3), (4, .aload_n 1, 1), (5, .getfield 29, 3), (8, .aaload, 1), (9, .aload_n 2, 1), (10, .getfield 29, 3), (13, .iload_n 3, 1), (14, .iastore, 1), (15, .aload_n 0, 1), (16, .getfield 20, 3), (19, .aload_n 2, 1), (20, .getfield 29, 3), (23, .aaload, 1), (24, .aload_n 1, 1), (25, .getfield 29, 3), (28, .iload_n 3, 1), (29, .iastore, 1), (30, .return_, 1)]
theorem daX7_setMiles_0 : tdaX7_setMiles_0.all (fun q => decide (decode cX7_setMiles q.1 = .ok q.2)) = true := by decide +kernel
theorem dX7_setMiles_0 : decode cX7_setMiles 0 = .ok (.aload_n 0, 1) := dget daX7_setMiles_0 0 (q := (0, .aload_n 0, 1)) rfl
theorem dX7_setMiles_1 : decode cX7_setMiles 1 = .ok (.getfield 20, 3) := dget daX7_setMiles_0 1 (q := (1, .getfield 20, 3)) rfl
theorem dX7_setMiles_4 : decode cX7_setMiles 4 = .ok (.aload_n 1, 1) := dget daX7_setMiles_0 2 (q := (4, .aload_n 1, 1)) rfl
theorem dX7_setMiles_5 : decode cX7_setMiles 5 = .ok (.getfield 29, 3) := dget daX7_setMiles_0 3 (q := (5, .getfield 29, 3)) rfl
theorem dX7_setMiles_8 : decode cX7_setMiles 8 = .ok (.aaload, 1) := dget daX7_setMiles_0 4 (q := (8, .aaload, 1)) rfl
theorem dX7_setMiles_9 : decode cX7_setMiles 9 = .ok (.aload_n 2, 1) := dget daX7_setMiles_0 5 (q := (9, .aload_n 2, 1)) rfl
theorem dX7_setMiles_10 : decode cX7_setMiles 10 = .ok (.getfield 29, 3) := dget daX7_setMiles_0 6 (q := (10, .getfield 29, 3)) rfl
theorem dX7_setMiles_13 : decode cX7_setMiles 13 = .ok (.iload_n 3, 1) := dget daX7_setMiles_0 7 (q := (13, .iload_n 3, 1)) rfl
theorem dX7_setMiles_14 : decode cX7_setMiles 14 = .ok (.iastore, 1) := dget daX7_setMiles_0 8 (q := (14, .iastore, 1)) rfl
theorem dX7_setMiles_15 : decode cX7_setMiles 15 = .ok (.aload_n 0, 1) := dget daX7_setMiles_0 9 (q := (15, .aload_n 0, 1)) rfl
theorem dX7_setMiles_16 : decode cX7_setMiles 16 = .ok (.getfield 20, 3) := dget daX7_setMiles_0 10 (q := (16, .getfield 20, 3)) rfl
theorem dX7_setMiles_19 : decode cX7_setMiles 19 = .ok (.aload_n 2, 1) := dget daX7_setMiles_0 11 (q := (19, .aload_n 2, 1)) rfl
theorem dX7_setMiles_20 : decode cX7_setMiles 20 = .ok (.getfield 29, 3) := dget daX7_setMiles_0 12 (q := (20, .getfield 29, 3)) rfl
theorem dX7_setMiles_23 : decode cX7_setMiles 23 = .ok (.aaload, 1) := dget daX7_setMiles_0 13 (q := (23, .aaload, 1)) rfl
theorem dX7_setMiles_24 : decode cX7_setMiles 24 = .ok (.aload_n 1, 1) := dget daX7_setMiles_0 14 (q := (24, .aload_n 1, 1)) rfl
theorem dX7_setMiles_25 : decode cX7_setMiles 25 = .ok (.getfield 29, 3) := dget daX7_setMiles_0 15 (q := (25, .getfield 29, 3)) rfl
theorem dX7_setMiles_28 : decode cX7_setMiles 28 = .ok (.iload_n 3, 1) := dget daX7_setMiles_0 16 (q := (28, .iload_n 3, 1)) rfl
theorem dX7_setMiles_29 : decode cX7_setMiles 29 = .ok (.iastore, 1) := dget daX7_setMiles_0 17 (q := (29, .iastore, 1)) rfl
theorem dX7_setMiles_30 : decode cX7_setMiles 30 = .ok (.return_, 1) := dget daX7_setMiles_0 18 (q := (30, .return_, 1)) rfl
def tdaX7_take_0 : List (Nat × (Instr × Nat)) := [(0, .aload_n 1, 1), (1, .getfield 33, 3), (4, .aload_n 2, 1), (5, .getfield 33, 3), (8, .if_icmp .ne 41, 3), (11, .aload_n 1, 1), (12, .getfield 36, 3), (15, .aload_n 2, 1), (16, .getfield 36, 3), (19, .isub, 1), (20, .iload_n 3, 1), (21, .if_icmp .ne 7, 3), (24, .iconst 1, 1), (25, .goto 4, 3), (28, .iconst 0, 1), (29, .istore 4, 2), (31, .iload 4, 2), (33, .ifCond .ne 13, 3), (36, .aload_n 0, 1), (37, .dup, 1), (38, .getfield 39, 3), (41, .iconst 1, 1), (42, .iadd, 1), (43, .putfield 39, 3), (46, .iload 4, 2), (48, .ireturn, 1), (49, .aload_n 1, 1), (50, .getfield 33, 3), (53, .aload_n 2, 1), (54, .getfield 33, 3), (57, .if_icmp .ge 29, 3), (60, .aload_n 0, 1), (61, .aload_n 2, 1), (62, .getfield 33, 3), (65, .aload_n 1, 1), (66, .getfield 33, 3), (69, .aload_n 1, 1), (70, .getfield 36, 3), (73, .iload_n 3, 1), (74, .isub, 1)]
theorem daX7_take_0 : tdaX7_take_0.all (fun q => decide (decode cX7_take q.1 = .ok q.2)) = true := by decide +kernel
theorem dX7_take_0 : decode cX7_take 0 = .ok (.aload_n 1, 1) := dget daX7_take_0 0 (q := (0, .aload_n 1, 1)) rfl
theorem dX7_take_1 : decode cX7_take 1 = .ok (.getfield 33, 3) := dget daX7_take_0 1 (q := (1, .getfield 33, 3)) rfl
theorem dX7_take_4 : decode cX7_take 4 = .ok (.aload_n 2, 1) := dget daX7_take_0 2 (q := (4, .aload_n 2, 1)) rfl
theorem dX7_take_5 : decode cX7_take 5 = .ok (.getfield 33, 3) := dget daX7_take_0 3 (q := (5, .getfield 33, 3)) rfl
theorem dX7_take_8 : decode cX7_take 8 = .ok (.if_icmp .ne 41, 3) := dget daX7_take_0 4 (q := (8, .if_icmp .ne 41, 3)) rfl
theorem dX7_take_11 : decode cX7_take 11 = .ok (.aload_n 1, 1) := dget daX7_take_0 5 (q := (11, .aload_n 1, 1)) rfl
theorem dX7_take_12 : decode cX7_take 12 = .ok (.getfield 36, 3) := dget daX7_take_0 6 (q := (12, .getfield 36, 3)) rfl
theorem dX7_take_15 : decode cX7_take 15 = .ok (.aload_n 2, 1) := dget daX7_take_0 7 (q := (15, .aload_n 2, 1)) rfl
theorem dX7_take_16 : decode cX7_take 16 = .ok (.getfield 36, 3) := dget daX7_take_0 8 (q := (16, .getfield 36, 3)) rfl
theorem dX7_take_19 : decode cX7_take 19 = .ok (.isub, 1) := dget daX7_take_0 9 (q := (19, .isub, 1)) rfl
theorem dX7_take_20 : decode cX7_take 20 = .ok (.iload_n 3, 1) := dget daX7_take_0 10 (q := (20, .iload_n 3, 1)) rfl
theorem dX7_take_21 : decode cX7_take 21 = .ok (.if_icmp .ne 7, 3) := dget daX7_take_0 11 (q := (21, .if_icmp .ne 7, 3)) rfl
theorem dX7_take_24 : decode cX7_take 24 = .ok (.iconst 1, 1) := dget daX7_take_0 12 (q := (24, .iconst 1, 1)) rfl
theorem dX7_take_25 : decode cX7_take 25 = .ok (.goto 4, 3) := dget daX7_take_0 13 (q := (25, .goto 4, 3)) rfl
theorem dX7_take_28 : decode cX7_take 28 = .ok (.iconst 0, 1) := dget daX7_take_0 14 (q := (28, .iconst 0, 1)) rfl
theorem dX7_take_29 : decode cX7_take 29 = .ok (.istore 4, 2) := dget daX7_take_0 15 (q := (29, .istore 4, 2)) rfl
theorem dX7_take_31 : decode cX7_take 31 = .ok (.iload 4, 2) := dget daX7_take_0 16 (q := (31, .iload 4, 2)) rfl
theorem dX7_take_33 : decode cX7_take 33 = .ok (.ifCond .ne 13, 3) := dget daX7_take_0 17 (q := (33, .ifCond .ne 13, 3)) rfl
theorem dX7_take_36 : decode cX7_take 36 = .ok (.aload_n 0, 1) := dget daX7_take_0 18 (q := (36, .aload_n 0, 1)) rfl
theorem dX7_take_37 : decode cX7_take 37 = .ok (.dup, 1) := dget daX7_take_0 19 (q := (37, .dup, 1)) rfl
theorem dX7_take_38 : decode cX7_take 38 = .ok (.getfield 39, 3) := dget daX7_take_0 20 (q := (38, .getfield 39, 3)) rfl
theorem dX7_take_41 : decode cX7_take 41 = .ok (.iconst 1, 1) := dget daX7_take_0 21 (q := (41, .iconst 1, 1)) rfl
theorem dX7_take_42 : decode cX7_take 42 = .ok (.iadd, 1) := dget daX7_take_0 22 (q := (42, .iadd, 1)) rfl
theorem dX7_take_43 : decode cX7_take 43 = .ok (.putfield 39, 3) := dget daX7_take_0 23 (q := (43, .putfield 39, 3)) rfl
theorem dX7_take_46 : decode cX7_take 46 = .ok (.iload 4, 2) := dget daX7_take_0 24 (q := (46, .iload 4, 2)) rfl
theorem dX7_take_48 : decode cX7_take 48 = .ok (.ireturn, 1) := dget daX7_take_0 25 (q := (48, .ireturn, 1)) rfl
theorem dX7_take_49 : decode cX7_take 49 = .ok (.aload_n 1, 1) := dget daX7_take_0 26 (q := (49, .aload_n 1, 1)) rfl
theorem dX7_take_50 : decode cX7_take 50 = .ok (.getfield 33, 3) := dget daX7_take_0 27 (q := (50, .getfield 33, 3)) rfl
theorem dX7_take_53 : decode cX7_take 53 = .ok (.aload_n 2, 1) := dget daX7_take_0 28 (q := (53, .aload_n 2, 1)) rfl
theorem dX7_take_54 : decode cX7_take 54 = .ok (.getfield 33, 3) := dget daX7_take_0 29 (q := (54, .getfield 33, 3)) rfl
theorem dX7_take_57 : decode cX7_take 57 = .ok (.if_icmp .ge 29, 3) := dget daX7_take_0 30 (q := (57, .if_icmp .ge 29, 3)) rfl
theorem dX7_take_60 : decode cX7_take 60 = .ok (.aload_n 0, 1) := dget daX7_take_0 31 (q := (60, .aload_n 0, 1)) rfl
theorem dX7_take_61 : decode cX7_take 61 = .ok (.aload_n 2, 1) := dget daX7_take_0 32 (q := (61, .aload_n 2, 1)) rfl
theorem dX7_take_62 : decode cX7_take 62 = .ok (.getfield 33, 3) := dget daX7_take_0 33 (q := (62, .getfield 33, 3)) rfl
theorem dX7_take_65 : decode cX7_take 65 = .ok (.aload_n 1, 1) := dget daX7_take_0 34 (q := (65, .aload_n 1, 1)) rfl
theorem dX7_take_66 : decode cX7_take 66 = .ok (.getfield 33, 3) := dget daX7_take_0 35 (q := (66, .getfield 33, 3)) rfl
theorem dX7_take_69 : decode cX7_take 69 = .ok (.aload_n 1, 1) := dget daX7_take_0 36 (q := (69, .aload_n 1, 1)) rfl
theorem dX7_take_70 : decode cX7_take 70 = .ok (.getfield 36, 3) := dget daX7_take_0 37 (q := (70, .getfield 36, 3)) rfl
theorem dX7_take_73 : decode cX7_take 73 = .ok (.iload_n 3, 1) := dget daX7_take_0 38 (q := (73, .iload_n 3, 1)) rfl
theorem dX7_take_74 : decode cX7_take 74 = .ok (.isub, 1) := dget daX7_take_0 39 (q := (74, .isub, 1)) rfl
def tdaX7_take_1 : List (Nat × (Instr × Nat)) := [(75, .aload_n 2, 1), (76, .getfield 36, 3), (79, .isub, 1), (80, .invokevirtual 42, 3), (83, .goto 26, 3), (86, .aload_n 0, 1), (87, .aload_n 1, 1), (88, .getfield 33, 3), (91, .aload_n 2, 1), (92, .getfield 33, 3), (95, .aload_n 2, 1), (96, .getfield 36, 3), (99, .iload_n 3, 1), (100, .iadd, 1), (101, .aload_n 1, 1), (102, .getfield 36, 3), (105, .isub, 1), (106, .invokevirtual 42, 3), (109, .iconst 1, 1), (110, .ireturn, 1)]
theorem daX7_take_1 : tdaX7_take_1.all (fun q => decide (decode cX7_take q.1 = .ok q.2)) = true := by decide +kernel
theorem dX7_take_75 : decode cX7_take 75 = .ok (.aload_n 2, 1) := dget daX7_take_1 0 (q := (75, .aload_n 2, 1)) rfl
theorem dX7_take_76 : decode cX7_take 76 = .ok (.getfield 36, 3) := dget daX7_take_1 1 (q := (76, .getfield 36, 3)) rfl
theorem dX7_take_79 : decode cX7_take 79 = .ok (.isub, 1) := dget daX7_take_1 2 (q := (79, .isub, 1)) rfl
theorem dX7_take_80 : decode cX7_take 80 = .ok (.invokevirtual 42, 3) := dget daX7_take_1 3 (q := (80, .invokevirtual 42, 3)) rfl
theorem dX7_take_83 : decode cX7_take 83 = .ok (.goto 26, 3) := dget daX7_take_1 4 (q := (83, .goto 26, 3)) rfl
theorem dX7_take_86 : decode cX7_take 86 = .ok (.aload_n 0, 1) := dget daX7_take_1 5 (q := (86, .aload_n 0, 1)) rfl
theorem dX7_take_87 : decode cX7_take 87 = .ok (.aload_n 1, 1) := dget daX7_take_1 6 (q := (87, .aload_n 1, 1)) rfl
theorem dX7_take_88 : decode cX7_take 88 = .ok (.getfield 33, 3) := dget daX7_take_1 7 (q := (88, .getfield 33, 3)) rfl
theorem dX7_take_91 : decode cX7_take 91 = .ok (.aload_n 2, 1) := dget daX7_take_1 8 (q := (91, .aload_n 2, 1)) rfl
theorem dX7_take_92 : decode cX7_take 92 = .ok (.getfield 33, 3) := dget daX7_take_1 9 (q := (92, .getfield 33, 3)) rfl
theorem dX7_take_95 : decode cX7_take 95 = .ok (.aload_n 2, 1) := dget daX7_take_1 10 (q := (95, .aload_n 2, 1)) rfl
theorem dX7_take_96 : decode cX7_take 96 = .ok (.getfield 36, 3) := dget daX7_take_1 11 (q := (96, .getfield 36, 3)) rfl
theorem dX7_take_99 : decode cX7_take 99 = .ok (.iload_n 3, 1) := dget daX7_take_1 12 (q := (99, .iload_n 3, 1)) rfl
theorem dX7_take_100 : decode cX7_take 100 = .ok (.iadd, 1) := dget daX7_take_1 13 (q := (100, .iadd, 1)) rfl
theorem dX7_take_101 : decode cX7_take 101 = .ok (.aload_n 1, 1) := dget daX7_take_1 14 (q := (101, .aload_n 1, 1)) rfl
theorem dX7_take_102 : decode cX7_take 102 = .ok (.getfield 36, 3) := dget daX7_take_1 15 (q := (102, .getfield 36, 3)) rfl
theorem dX7_take_105 : decode cX7_take 105 = .ok (.isub, 1) := dget daX7_take_1 16 (q := (105, .isub, 1)) rfl
theorem dX7_take_106 : decode cX7_take 106 = .ok (.invokevirtual 42, 3) := dget daX7_take_1 17 (q := (106, .invokevirtual 42, 3)) rfl
theorem dX7_take_109 : decode cX7_take 109 = .ok (.iconst 1, 1) := dget daX7_take_1 18 (q := (109, .iconst 1, 1)) rfl
theorem dX7_take_110 : decode cX7_take 110 = .ok (.ireturn, 1) := dget daX7_take_1 19 (q := (110, .ireturn, 1)) rfl
def tdaX7_move_0 : List (Nat × (Instr × Nat)) := [(0, .iconst 0, 1), (1, .istore 4, 2), (3, .iload 4, 2), (5, .bipush 10, 2), (7, .if_icmp .ge 44, 3), (10, .aload_n 0, 1), (11, .getfield 11, 3), (14, .iload 4, 2), (16, .aaload, 1), (17, .astore 5, 2), (19, .aload 5, 2), (21, .getfield 33, 3), (24, .iload_n 1, 1), (25, .if_icmp .ne 20, 3), (28, .aload 5, 2), (30, .iload_n 2, 1), (31, .putfield 33, 3), (34, .aload 5, 2), (36, .dup, 1), (37, .getfield 36, 3), (40, .iload_n 3, 1), (41, .iadd, 1), (42, .putfield 36, 3), (45, .iinc 4 1, 3), (48, .goto (-45), 3), (51, .return_, 1)]
theorem daX7_move_0 : tdaX7_move_0.all (fun q => decide (decode cX7_move q.1 = .ok q.2)) = true := by decide +kernel
theorem dX7_move_0 : decode cX7_move 0 = .ok (.iconst 0, 1) := dget daX7_move_0 0 (q := (0, .iconst 0, 1)) rfl
theorem dX7_move_1 : decode cX7_move 1 = .ok (.istore 4, 2) := dget daX7_move_0 1 (q := (1, .istore 4, 2)) rfl
theorem dX7_move_3 : decode cX7_move 3 = .ok (.iload 4, 2) := dget daX7_move_0 2 (q := (3, .iload 4, 2)) rfl
theorem dX7_move_5 : decode cX7_move 5 = .ok (.bipush 10, 2) := dget daX7_move_0 3 (q := (5, .bipush 10, 2)) rfl
theorem dX7_move_7 : decode cX7_move 7 = .ok (.if_icmp .ge 44, 3) := dget daX7_move_0 4 (q := (7, .if_icmp .ge 44, 3)) rfl
theorem dX7_move_10 : decode cX7_move 10 = .ok (.aload_n 0, 1) := dget daX7_move_0 5 (q := (10, .aload_n 0, 1)) rfl
theorem dX7_move_11 : decode cX7_move 11 = .ok (.getfield 11, 3) := dget daX7_move_0 6 (q := (11, .getfield 11, 3)) rfl
theorem dX7_move_14 : decode cX7_move 14 = .ok (.iload 4, 2) := dget daX7_move_0 7 (q := (14, .iload 4, 2)) rfl
theorem dX7_move_16 : decode cX7_move 16 = .ok (.aaload, 1) := dget daX7_move_0 8 (q := (16, .aaload, 1)) rfl
theorem dX7_move_17 : decode cX7_move 17 = .ok (.astore 5, 2) := dget daX7_move_0 9 (q := (17, .astore 5, 2)) rfl
theorem dX7_move_19 : decode cX7_move 19 = .ok (.aload 5, 2) := dget daX7_move_0 10 (q := (19, .aload 5, 2)) rfl
theorem dX7_move_21 : decode cX7_move 21 = .ok (.getfield 33, 3) := dget daX7_move_0 11 (q := (21, .getfield 33, 3)) rfl
theorem dX7_move_24 : decode cX7_move 24 = .ok (.iload_n 1, 1) := dget daX7_move_0 12 (q := (24, .iload_n 1, 1)) rfl
theorem dX7_move_25 : decode cX7_move 25 = .ok (.if_icmp .ne 20, 3) := dget daX7_move_0 13 (q := (25, .if_icmp .ne 20, 3)) rfl
theorem dX7_move_28 : decode cX7_move 28 = .ok (.aload 5, 2) := dget daX7_move_0 14 (q := (28, .aload 5, 2)) rfl
theorem dX7_move_30 : decode cX7_move 30 = .ok (.iload_n 2, 1) := dget daX7_move_0 15 (q := (30, .iload_n 2, 1)) rfl
theorem dX7_move_31 : decode cX7_move 31 = .ok (.putfield 33, 3) := dget daX7_move_0 16 (q := (31, .putfield 33, 3)) rfl
theorem dX7_move_34 : decode cX7_move 34 = .ok (.aload 5, 2) := dget daX7_move_0 17 (q := (34, .aload 5, 2)) rfl
theorem dX7_move_36 : decode cX7_move 36 = .ok (.dup, 1) := dget daX7_move_0 18 (q := (36, .dup, 1)) rfl
theorem dX7_move_37 : decode cX7_move 37 = .ok (.getfield 36, 3) := dget daX7_move_0 19 (q := (37, .getfield 36, 3)) rfl
theorem dX7_move_40 : decode cX7_move 40 = .ok (.iload_n 3, 1) := dget daX7_move_0 20 (q := (40, .iload_n 3, 1)) rfl
theorem dX7_move_41 : decode cX7_move 41 = .ok (.iadd, 1) := dget daX7_move_0 21 (q := (41, .iadd, 1)) rfl
theorem dX7_move_42 : decode cX7_move 42 = .ok (.putfield 36, 3) := dget daX7_move_0 22 (q := (42, .putfield 36, 3)) rfl
theorem dX7_move_45 : decode cX7_move 45 = .ok (.iinc 4 1, 3) := dget daX7_move_0 23 (q := (45, .iinc 4 1, 3)) rfl
theorem dX7_move_48 : decode cX7_move 48 = .ok (.goto (-45), 3) := dget daX7_move_0 24 (q := (48, .goto (-45), 3)) rfl
theorem dX7_move_51 : decode cX7_move 51 = .ok (.return_, 1) := dget daX7_move_0 25 (q := (51, .return_, 1)) rfl
def tdaX8_init_0 : List (Nat × (Instr × Nat)) := [(0, .aload_n 0, 1), (1, .invokespecial 3, 3), (4, .aload_n 0, 1), (5, .iload_n 1, 1), (6, .putfield 9, 3), (9, .aload_n 0, 1), (10, .aload_n 2, 1), (11, .putfield 15, 3), (14, .aload_n 0, 1), (15, .aload_n 2, 1), (16, .putfield 19, 3), (19, .aload_n 0, 1), (20, .iconst 4, 1), (21, .anewarray 22, 3), (24, .putfield 24, 3), (27, .aload_n 0, 1), (28, .getfield 24, 3), (31, .iconst 0, 1), (32, .aload_n 2, 1), (33, .aastore, 1), (34, .aload_n 0, 1), (35, .iconst 1, 1), (36, .putfield 28, 3), (39, .aload_n 0, 1), (40, .iconst 5, 1), (41, .newarray .int, 2), (43, .putfield 31, 3), (46, .return_, 1)]
theorem daX8_init_0 : tdaX8_init_0.all (fun q => decide (decode cX8_init q.1 = .ok q.2)) = true := by decide +kernel
theorem dX8_init_0 : decode cX8_init 0 = .ok (.aload_n 0, 1) := dget daX8_init_0 0 (q := (0, .aload_n 0, 1)) rfl
theorem dX8_init_1 : decode cX8_init 1 = .ok (.invokespecial 3, 3) := dget daX8_init_0 1 (q := (1, .invokespecial 3, 3)) rfl
theorem dX8_init_4 : decode cX8_init 4 = .ok (.aload_n 0, 1) := dget daX8_init_0 2 (q := (4, .aload_n 0, 1)) rfl
theorem dX8_init_5 : decode cX8_init 5 = .ok (.iload_n 1, 1) := dget daX8_init_0 3 (q := (5, .iload_n 1, 1)) rfl
theorem dX8_init_6 : decode cX8_init 6 = .ok (.putfield 9, 3) := dget daX8_init_0 4 (q := (6, .putfield 9, 3)) rfl
theorem dX8_init_9 : decode cX8_init 9 = .ok (.aload_n 0, 1) := dget daX8_init_0 5 (q := (9, .aload_n 0, 1)) rfl
theorem dX8_init_10 : decode cX8_init 10 = .ok (.aload_n 2, 1) := dget daX8_init_0 6 (q := (10, .aload_n 2, 1)) rfl
theorem dX8_init_11 : decode cX8_init 11 = .ok (.putfield 15, 3) := dget daX8_init_0 7 (q := (11, .putfield 15, 3)) rfl
theorem dX8_init_14 : decode cX8_init 14 = .ok (.aload_n 0, 1) := dget daX8_init_0 8 (q := (14, .aload_n 0, 1)) rfl
theorem dX8_init_15 : decode cX8_init 15 = .ok (.aload_n 2, 1) := dget daX8_init_0 9 (q := (15, .aload_n 2, 1)) rfl
theorem dX8_init_16 : decode cX8_init 16 = .ok (.putfield 19, 3) := dget daX8_init_0 10 (q := (16, .putfield 19, 3)) rfl
theorem dX8_init_19 : decode cX8_init 19 = .ok (.aload_n 0, 1) := dget daX8_init_0 11 (q := (19, .aload_n 0, 1)) rfl
theorem dX8_init_20 : decode cX8_init 20 = .ok (.iconst 4, 1) := dget daX8_init_0 12 (q := (20, .iconst 4, 1)) rfl
theorem dX8_init_21 : decode cX8_init 21 = .ok (.anewarray 22, 3) := dget daX8_init_0 13 (q := (21, .anewarray 22, 3)) rfl
theorem dX8_init_24 : decode cX8_init 24 = .ok (.putfield 24, 3) := dget daX8_init_0 14 (q := (24, .putfield 24, 3)) rfl
theorem dX8_init_27 : decode cX8_init 27 = .ok (.aload_n 0, 1) := dget daX8_init_0 15 (q := (27, .aload_n 0, 1)) rfl
theorem dX8_init_28 : decode cX8_init 28 = .ok (.getfield 24, 3) := dget daX8_init_0 16 (q := (28, .getfield 24, 3)) rfl
theorem dX8_init_31 : decode cX8_init 31 = .ok (.iconst 0, 1) := dget daX8_init_0 17 (q := (31, .iconst 0, 1)) rfl
theorem dX8_init_32 : decode cX8_init 32 = .ok (.aload_n 2, 1) := dget daX8_init_0 18 (q := (32, .aload_n 2, 1)) rfl
theorem dX8_init_33 : decode cX8_init 33 = .ok (.aastore, 1) := dget daX8_init_0 19 (q := (33, .aastore, 1)) rfl
theorem dX8_init_34 : decode cX8_init 34 = .ok (.aload_n 0, 1) := dget daX8_init_0 20 (q := (34, .aload_n 0, 1)) rfl
theorem dX8_init_35 : decode cX8_init 35 = .ok (.iconst 1, 1) := dget daX8_init_0 21 (q := (35, .iconst 1, 1)) rfl
theorem dX8_init_36 : decode cX8_init 36 = .ok (.putfield 28, 3) := dget daX8_init_0 22 (q := (36, .putfield 28, 3)) rfl
theorem dX8_init_39 : decode cX8_init 39 = .ok (.aload_n 0, 1) := dget daX8_init_0 23 (q := (39, .aload_n 0, 1)) rfl
theorem dX8_init_40 : decode cX8_init 40 = .ok (.iconst 5, 1) := dget daX8_init_0 24 (q := (40, .iconst 5, 1)) rfl
theorem dX8_init_41 : decode cX8_init 41 = .ok (.newarray .int, 2) := dget daX8_init_0 25 (q := (41, .newarray .int, 2)) rfl
theorem dX8_init_43 : decode cX8_init 43 = .ok (.putfield 31, 3) := dget daX8_init_0 26 (q := (43, .putfield 31, 3)) rfl
theorem dX8_init_46 : decode cX8_init 46 = .ok (.return_, 1) := dget daX8_init_0 27 (q := (46, .return_, 1)) rfl
def tdaX8_isFull_0 : List (Nat × (Instr × Nat)) := [(0, .aload_n 0, 1), (1, .getfield 28, 3), (4, .iconst 4, 1), (5, .if_icmp .lt 7, 3), (8, .iconst 1, 1), (9, .goto 4, 3), (12, .iconst 0, 1), (13, .ireturn, 1)]
theorem daX8_isFull_0 : tdaX8_isFull_0.all (fun q => decide (decode cX8_isFull q.1 = .ok q.2)) = true := by decide +kernel
theorem dX8_isFull_0 : decode cX8_isFull 0 = .ok (.aload_n 0, 1) := dget daX8_isFull_0 0 (q := (0, .aload_n 0, 1)) rfl
theorem dX8_isFull_1 : decode cX8_isFull 1 = .ok (.getfield 28, 3) := dget daX8_isFull_0 1 (q := (1, .getfield 28, 3)) rfl
theorem dX8_isFull_4 : decode cX8_isFull 4 = .ok (.iconst 4, 1) := dget daX8_isFull_0 2 (q := (4, .iconst 4, 1)) rfl
theorem dX8_isFull_5 : decode cX8_isFull 5 = .ok (.if_icmp .lt 7, 3) := dget daX8_isFull_0 3 (q := (5, .if_icmp .lt 7, 3)) rfl
theorem dX8_isFull_8 : decode cX8_isFull 8 = .ok (.iconst 1, 1) := dget daX8_isFull_0 4 (q := (8, .iconst 1, 1)) rfl
theorem dX8_isFull_9 : decode cX8_isFull 9 = .ok (.goto 4, 3) := dget daX8_isFull_0 5 (q := (9, .goto 4, 3)) rfl
theorem dX8_isFull_12 : decode cX8_isFull 12 = .ok (.iconst 0, 1) := dget daX8_isFull_0 6 (q := (12, .iconst 0, 1)) rfl
theorem dX8_isFull_13 : decode cX8_isFull 13 = .ok (.ireturn, 1) := dget daX8_isFull_0 7 (q := (13, .ireturn, 1)) rfl
def tdaX8_isFollowedBy_0 : List (Nat × (Instr × Nat)) := [(0, .aload_n 1, 1), (1, .getfield 35, 3), (4, .aload_n 0, 1), (5, .getfield 19, 3), (8, .getfield 39, 3), (11, .if_acmp .ne 23, 3), (14, .aload_n 1, 1), (15, .getfield 42, 3), (18, .aload_n 0, 1), (19, .getfield 19, 3), (22, .getfield 45, 3), (25, .isub, 1), (26, .iload_n 2, 1), (27, .if_icmp .lt 7, 3), (30, .iconst 1, 1), (31, .goto 4, 3), (34, .iconst 0, 1), (35, .ireturn, 1)]
theorem daX8_isFollowedBy_0 : tdaX8_isFollowedBy_0.all (fun q => decide (decode cX8_isFollowedBy q.1 = .ok q.2)) = true := by decide +kernel
theorem dX8_isFollowedBy_0 : decode cX8_isFollowedBy 0 = .ok (.aload_n 1, 1) := dget daX8_isFollowedBy_0 0 (q := (0, .aload_n 1, 1)) rfl
theorem dX8_isFollowedBy_1 : decode cX8_isFollowedBy 1 = .ok (.getfield 35, 3) := dget daX8_isFollowedBy_0 1 (q := (1, .getfield 35, 3)) rfl
theorem dX8_isFollowedBy_4 : decode cX8_isFollowedBy 4 = .ok (.aload_n 0, 1) := dget daX8_isFollowedBy_0 2 (q := (4, .aload_n 0, 1)) rfl
theorem dX8_isFollowedBy_5 : decode cX8_isFollowedBy 5 = .ok (.getfield 19, 3) := dget daX8_isFollowedBy_0 3 (q := (5, .getfield 19, 3)) rfl
theorem dX8_isFollowedBy_8 : decode cX8_isFollowedBy 8 = .ok (.getfield 39, 3) := dget daX8_isFollowedBy_0 4 (q := (8, .getfield 39, 3)) rfl
theorem dX8_isFollowedBy_11 : decode cX8_isFollowedBy 11 = .ok (.if_acmp .ne 23, 3) := dget daX8_isFollowedBy_0 5 (q := (11, .if_acmp .ne 23, 3)) rfl
theorem dX8_isFollowedBy_14 : decode cX8_isFollowedBy 14 = .ok (.aload_n 1, 1) := dget daX8_isFollowedBy_0 6 (q := (14, .aload_n 1, 1)) rfl
theorem dX8_isFollowedBy_15 : decode cX8_isFollowedBy 15 = .ok (.getfield 42, 3) := dget daX8_isFollowedBy_0 7 (q := (15, .getfield 42, 3)) rfl
theorem dX8_isFollowedBy_18 : decode cX8_isFollowedBy 18 = .ok (.aload_n 0, 1) := dget daX8_isFollowedBy_0 8 (q := (18, .aload_n 0, 1)) rfl
theorem dX8_isFollowedBy_19 : decode cX8_isFollowedBy 19 = .ok (.getfield 19, 3) := dget daX8_isFollowedBy_0 9 (q := (19, .getfield 19, 3)) rfl
theorem dX8_isFollowedBy_22 : decode cX8_isFollowedBy 22 = .ok (.getfield 45, 3) := dget daX8_isFollowedBy_0 10 (q := (22, .getfield 45, 3)) rfl
theorem dX8_isFollowedBy_25 : decode cX8_isFollowedBy 25 = .ok (.isub, 1) := dget daX8_isFollowedBy_0 11 (q := (25, .isub, 1)) rfl
theorem dX8_isFollowedBy_26 : decode cX8_isFollowedBy 26 = .ok (.iload_n 2, 1) := dget daX8_isFollowedBy_0 12 (q := (26, .iload_n 2, 1)) rfl
theorem dX8_isFollowedBy_27 : decode cX8_isFollowedBy 27 = .ok (.if_icmp .lt 7, 3) := dget daX8_isFollowedBy_0 13 (q := (27, .if_icmp .lt 7, 3)) rfl
theorem dX8_isFollowedBy_30 : decode cX8_isFollowedBy 30 = .ok (.iconst 1, 1) := dget daX8_isFollowedBy_0 14 (q := (30, .iconst 1, 1)) rfl
theorem dX8_isFollowedBy_31 : decode cX8_isFollowedBy 31 = .ok (.goto 4, 3) := dget daX8_isFollowedBy_0 15 (q := (31, .goto 4, 3)) rfl
theorem dX8_isFollowedBy_34 : decode cX8_isFollowedBy 34 = .ok (.iconst 0, 1) := dget daX8_isFollowedBy_0 16 (q := (34, .iconst 0, 1)) rfl
theorem dX8_isFollowedBy_35 : decode cX8_isFollowedBy 35 = .ok (.ireturn, 1) := dget daX8_isFollowedBy_0 17 (q := (35, .ireturn, 1)) rfl
def tdaX8_add_0 : List (Nat × (Instr × Nat)) := [(0, .aload_n 0, 1), (1, .getfield 24, 3), (4, .aload_n 0, 1), (5, .getfield 28, 3), (8, .aload_n 1, 1), (9, .aastore, 1), (10, .aload_n 0, 1), (11, .aload_n 1, 1), (12, .putfield 19, 3), (15, .aload_n 0, 1), (16, .dup, 1), (17, .getfield 28, 3), (20, .iconst 1, 1), (21, .iadd, 1), (22, .putfield 28, 3), (25, .return_, 1)]
theorem daX8_add_0 : tdaX8_add_0.all (fun q => decide (decode cX8_add q.1 = .ok q.2)) = true := by decide +kernel
theorem dX8_add_0 : decode cX8_add 0 = .ok (.aload_n 0, 1) := dget daX8_add_0 0 (q := (0, .aload_n 0, 1)) rfl
theorem dX8_add_1 : decode cX8_add 1 = .ok (.getfield 24, 3) := dget daX8_add_0 1 (q := (1, .getfield 24, 3)) rfl
theorem dX8_add_4 : decode cX8_add 4 = .ok (.aload_n 0, 1) := dget daX8_add_0 2 (q := (4, .aload_n 0, 1)) rfl
theorem dX8_add_5 : decode cX8_add 5 = .ok (.getfield 28, 3) := dget daX8_add_0 3 (q := (5, .getfield 28, 3)) rfl
theorem dX8_add_8 : decode cX8_add 8 = .ok (.aload_n 1, 1) := dget daX8_add_0 4 (q := (8, .aload_n 1, 1)) rfl
theorem dX8_add_9 : decode cX8_add 9 = .ok (.aastore, 1) := dget daX8_add_0 5 (q := (9, .aastore, 1)) rfl
theorem dX8_add_10 : decode cX8_add 10 = .ok (.aload_n 0, 1) := dget daX8_add_0 6 (q := (10, .aload_n 0, 1)) rfl
theorem dX8_add_11 : decode cX8_add 11 = .ok (.aload_n 1, 1) := dget daX8_add_0 7 (q := (11, .aload_n 1, 1)) rfl
theorem dX8_add_12 : decode cX8_add 12 = .ok (.putfield 19, 3) := dget daX8_add_0 8 (q := (12, .putfield 19, 3)) rfl
theorem dX8_add_15 : decode cX8_add 15 = .ok (.aload_n 0, 1) := dget daX8_add_0 9 (q := (15, .aload_n 0, 1)) rfl
theorem dX8_add_16 : decode cX8_add 16 = .ok (.dup, 1) := dget daX8_add_0 10 (q := (16, .dup, 1)) rfl
theorem dX8_add_17 : decode cX8_add 17 = .ok (.getfield 28, 3) := dget daX8_add_0 11 (q := (17, .getfield 28, 3)) rfl
theorem dX8_add_20 : decode cX8_add 20 = .ok (.iconst 1, 1) := dget daX8_add_0 12 (q := (20, .iconst 1, 1)) rfl
theorem dX8_add_21 : decode cX8_add 21 = .ok (.iadd, 1) := dget daX8_add_0 13 (q := (21, .iadd, 1)) rfl
theorem dX8_add_22 : decode cX8_add 22 = .ok (.putfield 28, 3) := dget daX8_add_0 14 (q := (22, .putfield 28, 3)) rfl
theorem dX8_add_25 : decode cX8_add 25 = .ok (.return_, 1) := dget daX8_add_0 15 (q := (25, .return_, 1)) rfl
def tdaX8_missedPlace_0 : List (Nat × (Instr × Nat)) := [(0, .iconst 0, 1), (1, .istore_n 2, 1), (2, .iload_n 2, 1), (3, .aload_n 0, 1), (4, .getfield 28, 3), (7, .if_icmp .ge 54, 3), (10, .aload_n 0, 1), (11, .getfield 24, 3), (14, .iload_n 2, 1), (15, .aaload, 1), (16, .getfield 48, 3), (19, .ifCond .ne 5, 3), (22, .iload_n 2, 1), (23, .ireturn, 1), (24, .iload_n 2, 1), (25, .ifCond .le 30, 3), (28, .aload_n 0, 1), (29, .getfield 24, 3), (32, .iload_n 2, 1), (33, .aaload, 1), (34, .getfield 52, 3), (37, .aload_n 0, 1), (38, .getfield 24, 3), (41, .iload_n 2, 1), (42, .iconst 1, 1), (43, .isub, 1), (44, .aaload, 1), (45, .getfield 55, 3), (48, .isub, 1), (49, .iload_n 1, 1), (50, .if_icmp .ge 5, 3), (53, .iload_n 2, 1), (54, .ireturn, 1), (55, .iinc 2 1, 3), (58, .goto (-56), 3), (61, .bipush (-9), 2), (63, .ireturn, 1)]
theorem daX8_missedPlace_0 : tdaX8_missedPlace_0.all (fun q => decide (decode cX8_missedPlace q.1 = .ok q.2)) = true := by decide +kernel
theorem dX8_missedPlace_0 : decode cX8_missedPlace 0 = .ok (.iconst 0, 1) := dget daX8_missedPlace_0 0 (q := (0, .iconst 0, 1)) rfl
theorem dX8_missedPlace_1 : decode cX8_missedPlace 1 = .ok (.istore_n 2, 1) := dget daX8_missedPlace_0 1 (q := (1, .istore_n 2, 1)) rfl
theorem dX8_missedPlace_2 : decode cX8_missedPlace 2 = .ok (.iload_n 2, 1) := dget daX8_missedPlace_0 2 (q := (2, .iload_n 2, 1)) rfl
theorem dX8_missedPlace_3 : decode cX8_missedPlace 3 = .ok (.aload_n 0, 1) := dget daX8_missedPlace_0 3 (q := (3, .aload_n 0, 1)) rfl
theorem dX8_missedPlace_4 : decode cX8_missedPlace 4 = .ok (.getfield 28, 3) := dget daX8_missedPlace_0 4 (q := (4, .getfield 28, 3)) rfl
theorem dX8_missedPlace_7 : decode cX8_missedPlace 7 = .ok (.if_icmp .ge 54, 3) := dget daX8_missedPlace_0 5 (q := (7, .if_icmp .ge 54, 3)) rfl
theorem dX8_missedPlace_10 : decode cX8_missedPlace 10 = .ok (.aload_n 0, 1) := dget daX8_missedPlace_0 6 (q := (10, .aload_n 0, 1)) rfl
theorem dX8_missedPlace_11 : decode cX8_missedPlace 11 = .ok (.getfield 24, 3) := dget daX8_missedPlace_0 7 (q := (11, .getfield 24, 3)) rfl
theorem dX8_missedPlace_14 : decode cX8_missedPlace 14 = .ok (.iload_n 2, 1) := dget daX8_missedPlace_0 8 (q := (14, .iload_n 2, 1)) rfl
theorem dX8_missedPlace_15 : decode cX8_missedPlace 15 = .ok (.aaload, 1) := dget daX8_missedPlace_0 9 (q := (15, .aaload, 1)) rfl
theorem dX8_missedPlace_16 : decode cX8_missedPlace 16 = .ok (.getfield 48, 3) := dget daX8_missedPlace_0 10 (q := (16, .getfield 48, 3)) rfl
theorem dX8_missedPlace_19 : decode cX8_missedPlace 19 = .ok (.ifCond .ne 5, 3) := dget daX8_missedPlace_0 11 (q := (19, .ifCond .ne 5, 3)) rfl
theorem dX8_missedPlace_22 : decode cX8_missedPlace 22 = .ok (.iload_n 2, 1) := dget daX8_missedPlace_0 12 (q := (22, .iload_n 2, 1)) rfl
theorem dX8_missedPlace_23 : decode cX8_missedPlace 23 = .ok (.ireturn, 1) := dget daX8_missedPlace_0 13 (q := (23, .ireturn, 1)) rfl
theorem dX8_missedPlace_24 : decode cX8_missedPlace 24 = .ok (.iload_n 2, 1) := dget daX8_missedPlace_0 14 (q := (24, .iload_n 2, 1)) rfl
theorem dX8_missedPlace_25 : decode cX8_missedPlace 25 = .ok (.ifCond .le 30, 3) := dget daX8_missedPlace_0 15 (q := (25, .ifCond .le 30, 3)) rfl
theorem dX8_missedPlace_28 : decode cX8_missedPlace 28 = .ok (.aload_n 0, 1) := dget daX8_missedPlace_0 16 (q := (28, .aload_n 0, 1)) rfl
theorem dX8_missedPlace_29 : decode cX8_missedPlace 29 = .ok (.getfield 24, 3) := dget daX8_missedPlace_0 17 (q := (29, .getfield 24, 3)) rfl
theorem dX8_missedPlace_32 : decode cX8_missedPlace 32 = .ok (.iload_n 2, 1) := dget daX8_missedPlace_0 18 (q := (32, .iload_n 2, 1)) rfl
theorem dX8_missedPlace_33 : decode cX8_missedPlace 33 = .ok (.aaload, 1) := dget daX8_missedPlace_0 19 (q := (33, .aaload, 1)) rfl
theorem dX8_missedPlace_34 : decode cX8_missedPlace 34 = .ok (.getfield 52, 3) := dget daX8_missedPlace_0 20 (q := (34, .getfield 52, 3)) rfl
theorem dX8_missedPlace_37 : decode cX8_missedPlace 37 = .ok (.aload_n 0, 1) := dget daX8_missedPlace_0 21 (q := (37, .aload_n 0, 1)) rfl
theorem dX8_missedPlace_38 : decode cX8_missedPlace 38 = .ok (.getfield 24, 3) := dget daX8_missedPlace_0 22 (q := (38, .getfield 24, 3)) rfl
theorem dX8_missedPlace_41 : decode cX8_missedPlace 41 = .ok (.iload_n 2, 1) := dget daX8_missedPlace_0 23 (q := (41, .iload_n 2, 1)) rfl
theorem dX8_missedPlace_42 : decode cX8_missedPlace 42 = .ok (.iconst 1, 1) := dget daX8_missedPlace_0 24 (q := (42, .iconst 1, 1)) rfl
theorem dX8_missedPlace_43 : decode cX8_missedPlace 43 = .ok (.isub, 1) := dget daX8_missedPlace_0 25 (q := (43, .isub, 1)) rfl
theorem dX8_missedPlace_44 : decode cX8_missedPlace 44 = .ok (.aaload, 1) := dget daX8_missedPlace_0 26 (q := (44, .aaload, 1)) rfl
theorem dX8_missedPlace_45 : decode cX8_missedPlace 45 = .ok (.getfield 55, 3) := dget daX8_missedPlace_0 27 (q := (45, .getfield 55, 3)) rfl
theorem dX8_missedPlace_48 : decode cX8_missedPlace 48 = .ok (.isub, 1) := dget daX8_missedPlace_0 28 (q := (48, .isub, 1)) rfl
theorem dX8_missedPlace_49 : decode cX8_missedPlace 49 = .ok (.iload_n 1, 1) := dget daX8_missedPlace_0 29 (q := (49, .iload_n 1, 1)) rfl
theorem dX8_missedPlace_50 : decode cX8_missedPlace 50 = .ok (.if_icmp .ge 5, 3) := dget daX8_missedPlace_0 30 (q := (50, .if_icmp .ge 5, 3)) rfl
theorem dX8_missedPlace_53 : decode cX8_missedPlace 53 = .ok (.iload_n 2, 1) := dget daX8_missedPlace_0 31 (q := (53, .iload_n 2, 1)) rfl
theorem dX8_missedPlace_54 : decode cX8_missedPlace 54 = .ok (.ireturn, 1) := dget daX8_missedPlace_0 32 (q := (54, .ireturn, 1)) rfl
theorem dX8_missedPlace_55 : decode cX8_missedPlace 55 = .ok (.iinc 2 1, 3) := dget daX8_missedPlace_0 33 (q := (55, .iinc 2 1, 3)) rfl
theorem dX8_missedPlace_58 : decode cX8_missedPlace 58 = .ok (.goto (-56), 3) := dget daX8_missedPlace_0 34 (q := (58, .goto (-56), 3)) rfl
theorem dX8_missedPlace_61 : decode cX8_missedPlace 61 = .ok (.bipush (-9), 2) := dget daX8_missedPlace_0 35 (q := (61, .bipush (-9), 2)) rfl
theorem dX8_missedPlace_63 : decode cX8_missedPlace 63 = .ok (.ireturn, 1) := dget daX8_missedPlace_0 36 (q := (63, .ireturn, 1)) rfl
def tdaX8_legAtFault_0 : List (Nat × (Instr × Nat)) := [(0, .aload_n 0, 1), (1, .iload_n 1, 1), (2, .invokevirtual 58, 3), (5, .istore_n 2, 1), (6, .iload_n 2, 1), (7, .bipush (-9), 2), (9, .if_icmp .ne 8, 3), (12, .aload_n 0, 1), (13, .getfield 19, 3), (16, .areturn, 1), (17, .iload_n 2, 1), (18, .ifCond .eq 15, 3), (21, .aload_n 0, 1), (22, .getfield 24, 3), (25, .iload_n 2, 1), (26, .aaload, 1), (27, .getfield 48, 3), (30, .ifCond .ne 12, 3), (33, .aload_n 0, 1), (34, .getfield 24, 3), (37, .iload_n 2, 1), (38, .aaload, 1), (39, .goto 11, 3), (42, .aload_n 0, 1), (43, .getfield 24, 3), (46, .iload_n 2, 1), (47, .iconst 1, 1), (48, .isub, 1), (49, .aaload, 1), (50, .areturn, 1)]
theorem daX8_legAtFault_0 : tdaX8_legAtFault_0.all (fun q => decide (decode cX8_legAtFault q.1 = .ok q.2)) = true := by decide +kernel
theorem dX8_legAtFault_0 : decode cX8_legAtFault 0 = .ok (.aload_n 0, 1) := dget daX8_legAtFault_0 0 (q := (0, .aload_n 0, 1)) rfl
theorem dX8_legAtFault_1 : decode cX8_legAtFault 1 = .ok (.iload_n 1, 1) := dget daX8_legAtFault_0 1 (q := (1, .iload_n 1, 1)) rfl
theorem dX8_legAtFault_2 : decode cX8_legAtFault 2 = .ok (.invokevirtual 58, 3) := dget daX8_legAtFault_0 2 (q := (2, .invokevirtual 58, 3)) rfl
theorem dX8_legAtFault_5 : decode cX8_legAtFault 5 = .ok (.istore_n 2, 1) := dget daX8_legAtFault_0 3 (q := (5, .istore_n 2, 1)) rfl
theorem dX8_legAtFault_6 : decode cX8_legAtFault 6 = .ok (.iload_n 2, 1) := dget daX8_legAtFault_0 4 (q := (6, .iload_n 2, 1)) rfl
theorem dX8_legAtFault_7 : decode cX8_legAtFault 7 = .ok (.bipush (-9), 2) := dget daX8_legAtFault_0 5 (q := (7, .bipush (-9), 2)) rfl
theorem dX8_legAtFault_9 : decode cX8_legAtFault 9 = .ok (.if_icmp .ne 8, 3) := dget daX8_legAtFault_0 6 (q := (9, .if_icmp .ne 8, 3)) rfl
theorem dX8_legAtFault_12 : decode cX8_legAtFault 12 = .ok (.aload_n 0, 1) := dget daX8_legAtFault_0 7 (q := (12, .aload_n 0, 1)) rfl
theorem dX8_legAtFault_13 : decode cX8_legAtFault 13 = .ok (.getfield 19, 3) := dget daX8_legAtFault_0 8 (q := (13, .getfield 19, 3)) rfl
theorem dX8_legAtFault_16 : decode cX8_legAtFault 16 = .ok (.areturn, 1) := dget daX8_legAtFault_0 9 (q := (16, .areturn, 1)) rfl
theorem dX8_legAtFault_17 : decode cX8_legAtFault 17 = .ok (.iload_n 2, 1) := dget daX8_legAtFault_0 10 (q := (17, .iload_n 2, 1)) rfl
theorem dX8_legAtFault_18 : decode cX8_legAtFault 18 = .ok (.ifCond .eq 15, 3) := dget daX8_legAtFault_0 11 (q := (18, .ifCond .eq 15, 3)) rfl
theorem dX8_legAtFault_21 : decode cX8_legAtFault 21 = .ok (.aload_n 0, 1) := dget daX8_legAtFault_0 12 (q := (21, .aload_n 0, 1)) rfl
theorem dX8_legAtFault_22 : decode cX8_legAtFault 22 = .ok (.getfield 24, 3) := dget daX8_legAtFault_0 13 (q := (22, .getfield 24, 3)) rfl
theorem dX8_legAtFault_25 : decode cX8_legAtFault 25 = .ok (.iload_n 2, 1) := dget daX8_legAtFault_0 14 (q := (25, .iload_n 2, 1)) rfl
theorem dX8_legAtFault_26 : decode cX8_legAtFault 26 = .ok (.aaload, 1) := dget daX8_legAtFault_0 15 (q := (26, .aaload, 1)) rfl
theorem dX8_legAtFault_27 : decode cX8_legAtFault 27 = .ok (.getfield 48, 3) := dget daX8_legAtFault_0 16 (q := (27, .getfield 48, 3)) rfl
theorem dX8_legAtFault_30 : decode cX8_legAtFault 30 = .ok (.ifCond .ne 12, 3) := dget daX8_legAtFault_0 17 (q := (30, .ifCond .ne 12, 3)) rfl
theorem dX8_legAtFault_33 : decode cX8_legAtFault 33 = .ok (.aload_n 0, 1) := dget daX8_legAtFault_0 18 (q := (33, .aload_n 0, 1)) rfl
theorem dX8_legAtFault_34 : decode cX8_legAtFault 34 = .ok (.getfield 24, 3) := dget daX8_legAtFault_0 19 (q := (34, .getfield 24, 3)) rfl
theorem dX8_legAtFault_37 : decode cX8_legAtFault 37 = .ok (.iload_n 2, 1) := dget daX8_legAtFault_0 20 (q := (37, .iload_n 2, 1)) rfl
theorem dX8_legAtFault_38 : decode cX8_legAtFault 38 = .ok (.aaload, 1) := dget daX8_legAtFault_0 21 (q := (38, .aaload, 1)) rfl
theorem dX8_legAtFault_39 : decode cX8_legAtFault 39 = .ok (.goto 11, 3) := dget daX8_legAtFault_0 22 (q := (39, .goto 11, 3)) rfl
theorem dX8_legAtFault_42 : decode cX8_legAtFault 42 = .ok (.aload_n 0, 1) := dget daX8_legAtFault_0 23 (q := (42, .aload_n 0, 1)) rfl
theorem dX8_legAtFault_43 : decode cX8_legAtFault 43 = .ok (.getfield 24, 3) := dget daX8_legAtFault_0 24 (q := (43, .getfield 24, 3)) rfl
theorem dX8_legAtFault_46 : decode cX8_legAtFault 46 = .ok (.iload_n 2, 1) := dget daX8_legAtFault_0 25 (q := (46, .iload_n 2, 1)) rfl
theorem dX8_legAtFault_47 : decode cX8_legAtFault 47 = .ok (.iconst 1, 1) := dget daX8_legAtFault_0 26 (q := (47, .iconst 1, 1)) rfl
theorem dX8_legAtFault_48 : decode cX8_legAtFault 48 = .ok (.isub, 1) := dget daX8_legAtFault_0 27 (q := (48, .isub, 1)) rfl
theorem dX8_legAtFault_49 : decode cX8_legAtFault 49 = .ok (.aaload, 1) := dget daX8_legAtFault_0 28 (q := (49, .aaload, 1)) rfl
theorem dX8_legAtFault_50 : decode cX8_legAtFault 50 = .ok (.areturn, 1) := dget daX8_legAtFault_0 29 (q := (50, .areturn, 1)) rfl
def tdaX8_leaveDay_0 : List (Nat × (Instr × Nat)) := [(0, .aload_n 0, 1), (1, .getfield 15, 3), (4, .getfield 42, 3), (7, .sipush 1440, 3), (10, .idiv, 1), (11, .ireturn, 1)]
theorem daX8_leaveDay_0 : tdaX8_leaveDay_0.all (fun q => decide (decode cX8_leaveDay q.1 = .ok q.2)) = true := by decide +kernel
theorem dX8_leaveDay_0 : decode cX8_leaveDay 0 = .ok (.aload_n 0, 1) := dget daX8_leaveDay_0 0 (q := (0, .aload_n 0, 1)) rfl
theorem dX8_leaveDay_1 : decode cX8_leaveDay 1 = .ok (.getfield 15, 3) := dget daX8_leaveDay_0 1 (q := (1, .getfield 15, 3)) rfl
theorem dX8_leaveDay_4 : decode cX8_leaveDay 4 = .ok (.getfield 42, 3) := dget daX8_leaveDay_0 2 (q := (4, .getfield 42, 3)) rfl
theorem dX8_leaveDay_7 : decode cX8_leaveDay 7 = .ok (.sipush 1440, 3) := dget daX8_leaveDay_0 3 (q := (7, .sipush 1440, 3)) rfl
theorem dX8_leaveDay_10 : decode cX8_leaveDay 10 = .ok (.idiv, 1) := dget daX8_leaveDay_0 4 (q := (10, .idiv, 1)) rfl
theorem dX8_leaveDay_11 : decode cX8_leaveDay 11 = .ok (.ireturn, 1) := dget daX8_leaveDay_0 5 (q := (11, .ireturn, 1)) rfl
def tdaX8_arriveDay_0 : List (Nat × (Instr × Nat)) := [(0, .aload_n 0, 1), (1, .getfield 19, 3), (4, .getfield 45, 3), (7, .sipush 1440, 3), (10, .idiv, 1), (11, .ireturn, 1)]
theorem daX8_arriveDay_0 : tdaX8_arriveDay_0.all (fun q => decide (decode cX8_arriveDay q.1 = .ok q.2)) = true := by decide +kernel
theorem dX8_arriveDay_0 : decode cX8_arriveDay 0 = .ok (.aload_n 0, 1) := dget daX8_arriveDay_0 0 (q := (0, .aload_n 0, 1)) rfl
theorem dX8_arriveDay_1 : decode cX8_arriveDay 1 = .ok (.getfield 19, 3) := dget daX8_arriveDay_0 1 (q := (1, .getfield 19, 3)) rfl
theorem dX8_arriveDay_4 : decode cX8_arriveDay 4 = .ok (.getfield 45, 3) := dget daX8_arriveDay_0 2 (q := (4, .getfield 45, 3)) rfl
theorem dX8_arriveDay_7 : decode cX8_arriveDay 7 = .ok (.sipush 1440, 3) := dget daX8_arriveDay_0 3 (q := (7, .sipush 1440, 3)) rfl
theorem dX8_arriveDay_10 : decode cX8_arriveDay 10 = .ok (.idiv, 1) := dget daX8_arriveDay_0 4 (q := (10, .idiv, 1)) rfl
theorem dX8_arriveDay_11 : decode cX8_arriveDay 11 = .ok (.ireturn, 1) := dget daX8_arriveDay_0 5 (q := (11, .ireturn, 1)) rfl
def tdaX9_init_0 : List (Nat × (Instr × Nat)) := [(0, .aload_n 0, 1), (1, .invokespecial 1, 3), (4, .aload_n 0, 1), (5, .bipush 20, 2), (7, .anewarray 9, 3), (10, .putfield 11, 3), (13, .return_, 1)]
theorem daX9_init_0 : tdaX9_init_0.all (fun q => decide (decode cX9_init q.1 = .ok q.2)) = true := by decide +kernel
theorem dX9_init_0 : decode cX9_init 0 = .ok (.aload_n 0, 1) := dget daX9_init_0 0 (q := (0, .aload_n 0, 1)) rfl
theorem dX9_init_1 : decode cX9_init 1 = .ok (.invokespecial 1, 3) := dget daX9_init_0 1 (q := (1, .invokespecial 1, 3)) rfl
theorem dX9_init_4 : decode cX9_init 4 = .ok (.aload_n 0, 1) := dget daX9_init_0 2 (q := (4, .aload_n 0, 1)) rfl
theorem dX9_init_5 : decode cX9_init 5 = .ok (.bipush 20, 2) := dget daX9_init_0 3 (q := (5, .bipush 20, 2)) rfl
theorem dX9_init_7 : decode cX9_init 7 = .ok (.anewarray 9, 3) := dget daX9_init_0 4 (q := (7, .anewarray 9, 3)) rfl
theorem dX9_init_10 : decode cX9_init 10 = .ok (.putfield 11, 3) := dget daX9_init_0 5 (q := (10, .putfield 11, 3)) rfl
theorem dX9_init_13 : decode cX9_init 13 = .ok (.return_, 1) := dget daX9_init_0 6 (q := (13, .return_, 1)) rfl
def tdaX9_isFull_0 : List (Nat × (Instr × Nat)) := [(0, .aload_n 0, 1), (1, .getfield 15, 3), (4, .bipush 20, 2), (6, .if_icmp .lt 7, 3), (9, .iconst 1, 1), (10, .goto 4, 3), (13, .iconst 0, 1), (14, .ireturn, 1)]
theorem daX9_isFull_0 : tdaX9_isFull_0.all (fun q => decide (decode cX9_isFull q.1 = .ok q.2)) = true := by decide +kernel
theorem dX9_isFull_0 : decode cX9_isFull 0 = .ok (.aload_n 0, 1) := dget daX9_isFull_0 0 (q := (0, .aload_n 0, 1)) rfl
theorem dX9_isFull_1 : decode cX9_isFull 1 = .ok (.getfield 15, 3) := dget daX9_isFull_0 1 (q := (1, .getfield 15, 3)) rfl
theorem dX9_isFull_4 : decode cX9_isFull 4 = .ok (.bipush 20, 2) := dget daX9_isFull_0 2 (q := (4, .bipush 20, 2)) rfl
theorem dX9_isFull_6 : decode cX9_isFull 6 = .ok (.if_icmp .lt 7, 3) := dget daX9_isFull_0 3 (q := (6, .if_icmp .lt 7, 3)) rfl
theorem dX9_isFull_9 : decode cX9_isFull 9 = .ok (.iconst 1, 1) := dget daX9_isFull_0 4 (q := (9, .iconst 1, 1)) rfl
theorem dX9_isFull_10 : decode cX9_isFull 10 = .ok (.goto 4, 3) := dget daX9_isFull_0 5 (q := (10, .goto 4, 3)) rfl
theorem dX9_isFull_13 : decode cX9_isFull 13 = .ok (.iconst 0, 1) := dget daX9_isFull_0 6 (q := (13, .iconst 0, 1)) rfl
theorem dX9_isFull_14 : decode cX9_isFull 14 = .ok (.ireturn, 1) := dget daX9_isFull_0 7 (q := (14, .ireturn, 1)) rfl
def tdaX9_find_0 : List (Nat × (Instr × Nat)) := [(0, .aload_n 0, 1), (1, .getfield 15, 3), (4, .iload_n 1, 1), (5, .invokestatic 19, 3), (8, .ifCond .eq 12, 3), (11, .aload_n 0, 1), (12, .getfield 11, 3), (15, .iload_n 1, 1), (16, .aaload, 1), (17, .goto 4, 3), (20, .aconst_null, 1), (21, .areturn, 1)]
theorem daX9_find_0 : tdaX9_find_0.all (fun q => decide (decode cX9_find q.1 = .ok q.2)) = true := by decide +kernel
theorem dX9_find_0 : decode cX9_find 0 = .ok (.aload_n 0, 1) := dget daX9_find_0 0 (q := (0, .aload_n 0, 1)) rfl
theorem dX9_find_1 : decode cX9_find 1 = .ok (.getfield 15, 3) := dget daX9_find_0 1 (q := (1, .getfield 15, 3)) rfl
theorem dX9_find_4 : decode cX9_find 4 = .ok (.iload_n 1, 1) := dget daX9_find_0 2 (q := (4, .iload_n 1, 1)) rfl
theorem dX9_find_5 : decode cX9_find 5 = .ok (.invokestatic 19, 3) := dget daX9_find_0 3 (q := (5, .invokestatic 19, 3)) rfl
theorem dX9_find_8 : decode cX9_find 8 = .ok (.ifCond .eq 12, 3) := dget daX9_find_0 4 (q := (8, .ifCond .eq 12, 3)) rfl
theorem dX9_find_11 : decode cX9_find 11 = .ok (.aload_n 0, 1) := dget daX9_find_0 5 (q := (11, .aload_n 0, 1)) rfl
theorem dX9_find_12 : decode cX9_find 12 = .ok (.getfield 11, 3) := dget daX9_find_0 6 (q := (12, .getfield 11, 3)) rfl
theorem dX9_find_15 : decode cX9_find 15 = .ok (.iload_n 1, 1) := dget daX9_find_0 7 (q := (15, .iload_n 1, 1)) rfl
theorem dX9_find_16 : decode cX9_find 16 = .ok (.aaload, 1) := dget daX9_find_0 8 (q := (16, .aaload, 1)) rfl
theorem dX9_find_17 : decode cX9_find 17 = .ok (.goto 4, 3) := dget daX9_find_0 9 (q := (17, .goto 4, 3)) rfl
theorem dX9_find_20 : decode cX9_find 20 = .ok (.aconst_null, 1) := dget daX9_find_0 10 (q := (20, .aconst_null, 1)) rfl
theorem dX9_find_21 : decode cX9_find 21 = .ok (.areturn, 1) := dget daX9_find_0 11 (q := (21, .areturn, 1)) rfl
def tdaX9_add_0 : List (Nat × (Instr × Nat)) := [(0, .aload_n 0, 1), (1, .getfield 11, 3), (4, .aload_n 0, 1), (5, .getfield 15, 3), (8, .new 9, 3), (11, .dup, 1), (12, .aload_n 0, 1), (13, .getfield 15, 3), (16, .aload_n 1, 1), (17, .invokespecial 25, 3), (20, .aastore, 1), (21, .aload_n 0, 1), (22, .dup, 1), (23, .getfield 15, 3), (26, .iconst 1, 1), (27, .iadd, 1), (28, .putfield 15, 3), (31, .aload_n 0, 1), (32, .getfield 15, 3), (35, .iconst 1, 1), (36, .isub, 1), (37, .ireturn, 1)]
theorem daX9_add_0 : tdaX9_add_0.all (fun q => decide (decode cX9_add q.1 = .ok q.2)) = true := by decide +kernel
theorem dX9_add_0 : decode cX9_add 0 = .ok (.aload_n 0, 1) := dget daX9_add_0 0 (q := (0, .aload_n 0, 1)) rfl
theorem dX9_add_1 : decode cX9_add 1 = .ok (.getfield 11, 3) := dget daX9_add_0 1 (q := (1, .getfield 11, 3)) rfl
theorem dX9_add_4 : decode cX9_add 4 = .ok (.aload_n 0, 1) := dget daX9_add_0 2 (q := (4, .aload_n 0, 1)) rfl
theorem dX9_add_5 : decode cX9_add 5 = .ok (.getfield 15, 3) := dget daX9_add_0 3 (q := (5, .getfield 15, 3)) rfl
theorem dX9_add_8 : decode cX9_add 8 = .ok (.new 9, 3) := dget daX9_add_0 4 (q := (8, .new 9, 3)) rfl
theorem dX9_add_11 : decode cX9_add 11 = .ok (.dup, 1) := dget daX9_add_0 5 (q := (11, .dup, 1)) rfl
theorem dX9_add_12 : decode cX9_add 12 = .ok (.aload_n 0, 1) := dget daX9_add_0 6 (q := (12, .aload_n 0, 1)) rfl
theorem dX9_add_13 : decode cX9_add 13 = .ok (.getfield 15, 3) := dget daX9_add_0 7 (q := (13, .getfield 15, 3)) rfl
theorem dX9_add_16 : decode cX9_add 16 = .ok (.aload_n 1, 1) := dget daX9_add_0 8 (q := (16, .aload_n 1, 1)) rfl
theorem dX9_add_17 : decode cX9_add 17 = .ok (.invokespecial 25, 3) := dget daX9_add_0 9 (q := (17, .invokespecial 25, 3)) rfl
theorem dX9_add_20 : decode cX9_add 20 = .ok (.aastore, 1) := dget daX9_add_0 10 (q := (20, .aastore, 1)) rfl
theorem dX9_add_21 : decode cX9_add 21 = .ok (.aload_n 0, 1) := dget daX9_add_0 11 (q := (21, .aload_n 0, 1)) rfl
theorem dX9_add_22 : decode cX9_add 22 = .ok (.dup, 1) := dget daX9_add_0 12 (q := (22, .dup, 1)) rfl
theorem dX9_add_23 : decode cX9_add 23 = .ok (.getfield 15, 3) := dget daX9_add_0 13 (q := (23, .getfield 15, 3)) rfl
theorem dX9_add_26 : decode cX9_add 26 = .ok (.iconst 1, 1) := dget daX9_add_0 14 (q := (26, .iconst 1, 1)) rfl
theorem dX9_add_27 : decode cX9_add 27 = .ok (.iadd, 1) := dget daX9_add_0 15 (q := (27, .iadd, 1)) rfl
theorem dX9_add_28 : decode cX9_add 28 = .ok (.putfield 15, 3) := dget daX9_add_0 16 (q := (28, .putfield 15, 3)) rfl
theorem dX9_add_31 : decode cX9_add 31 = .ok (.aload_n 0, 1) := dget daX9_add_0 17 (q := (31, .aload_n 0, 1)) rfl
theorem dX9_add_32 : decode cX9_add 32 = .ok (.getfield 15, 3) := dget daX9_add_0 18 (q := (32, .getfield 15, 3)) rfl
theorem dX9_add_35 : decode cX9_add 35 = .ok (.iconst 1, 1) := dget daX9_add_0 19 (q := (35, .iconst 1, 1)) rfl
theorem dX9_add_36 : decode cX9_add 36 = .ok (.isub, 1) := dget daX9_add_0 20 (q := (36, .isub, 1)) rfl
theorem dX9_add_37 : decode cX9_add 37 = .ok (.ireturn, 1) := dget daX9_add_0 21 (q := (37, .ireturn, 1)) rfl
def tdaX10_init_0 : List (Nat × (Instr × Nat)) := [(0, .aload_n 0, 1), (1, .invokespecial 3, 3), (4, .aload_n 0, 1), (5, .bipush 40, 2), (7, .anewarray 11, 3), (10, .putfield 13, 3), (13, .aload_n 0, 1), (14, .bipush 6, 2), (16, .newarray .int, 2), (18, .putfield 17, 3), (21, .aload_n 0, 1), (22, .bipush 40, 2), (24, .newarray .boolean, 2), (26, .putfield 21, 3), (29, .aload_n 0, 1), (30, .bipush 40, 2), (32, .anewarray 11, 3), (35, .putfield 25, 3), (38, .return_, 1)]
theorem daX10_init_0 : tdaX10_init_0.all (fun q => decide (decode cX10_init q.1 = .ok q.2)) = true := by decide +kernel
theorem dX10_init_0 : decode cX10_init 0 = .ok (.aload_n 0, 1) := dget daX10_init_0 0 (q := (0, .aload_n 0, 1)) rfl
theorem dX10_init_1 : decode cX10_init 1 = .ok (.invokespecial 3, 3) := dget daX10_init_0 1 (q := (1, .invokespecial 3, 3)) rfl
theorem dX10_init_4 : decode cX10_init 4 = .ok (.aload_n 0, 1) := dget daX10_init_0 2 (q := (4, .aload_n 0, 1)) rfl
theorem dX10_init_5 : decode cX10_init 5 = .ok (.bipush 40, 2) := dget daX10_init_0 3 (q := (5, .bipush 40, 2)) rfl
theorem dX10_init_7 : decode cX10_init 7 = .ok (.anewarray 11, 3) := dget daX10_init_0 4 (q := (7, .anewarray 11, 3)) rfl
theorem dX10_init_10 : decode cX10_init 10 = .ok (.putfield 13, 3) := dget daX10_init_0 5 (q := (10, .putfield 13, 3)) rfl
theorem dX10_init_13 : decode cX10_init 13 = .ok (.aload_n 0, 1) := dget daX10_init_0 6 (q := (13, .aload_n 0, 1)) rfl
theorem dX10_init_14 : decode cX10_init 14 = .ok (.bipush 6, 2) := dget daX10_init_0 7 (q := (14, .bipush 6, 2)) rfl
theorem dX10_init_16 : decode cX10_init 16 = .ok (.newarray .int, 2) := dget daX10_init_0 8 (q := (16, .newarray .int, 2)) rfl
theorem dX10_init_18 : decode cX10_init 18 = .ok (.putfield 17, 3) := dget daX10_init_0 9 (q := (18, .putfield 17, 3)) rfl
theorem dX10_init_21 : decode cX10_init 21 = .ok (.aload_n 0, 1) := dget daX10_init_0 10 (q := (21, .aload_n 0, 1)) rfl
theorem dX10_init_22 : decode cX10_init 22 = .ok (.bipush 40, 2) := dget daX10_init_0 11 (q := (22, .bipush 40, 2)) rfl
theorem dX10_init_24 : decode cX10_init 24 = .ok (.newarray .boolean, 2) := dget daX10_init_0 12 (q := (24, .newarray .boolean, 2)) rfl
theorem dX10_init_26 : decode cX10_init 26 = .ok (.putfield 21, 3) := dget daX10_init_0 13 (q := (26, .putfield 21, 3)) rfl
theorem dX10_init_29 : decode cX10_init 29 = .ok (.aload_n 0, 1) := dget daX10_init_0 14 (q := (29, .aload_n 0, 1)) rfl
theorem dX10_init_30 : decode cX10_init 30 = .ok (.bipush 40, 2) := dget daX10_init_0 15 (q := (30, .bipush 40, 2)) rfl
theorem dX10_init_32 : decode cX10_init 32 = .ok (.anewarray 11, 3) := dget daX10_init_0 16 (q := (32, .anewarray 11, 3)) rfl
theorem dX10_init_35 : decode cX10_init 35 = .ok (.putfield 25, 3) := dget daX10_init_0 17 (q := (35, .putfield 25, 3)) rfl
theorem dX10_init_38 : decode cX10_init 38 = .ok (.return_, 1) := dget daX10_init_0 18 (q := (38, .return_, 1)) rfl
def tdaX10_isFull_0 : List (Nat × (Instr × Nat)) := [(0, .aload_n 0, 1), (1, .getfield 28, 3), (4, .bipush 40, 2), (6, .if_icmp .lt 7, 3), (9, .iconst 1, 1), (10, .goto 4, 3), (13, .iconst 0, 1), (14, .ireturn, 1)]
theorem daX10_isFull_0 : tdaX10_isFull_0.all (fun q => decide (decode cX10_isFull q.1 = .ok q.2)) = true := by decide +kernel
theorem dX10_isFull_0 : decode cX10_isFull 0 = .ok (.aload_n 0, 1) := dget daX10_isFull_0 0 (q := (0, .aload_n 0, 1)) rfl
theorem dX10_isFull_1 : decode cX10_isFull 1 = .ok (.getfield 28, 3) := dget daX10_isFull_0 1 (q := (1, .getfield 28, 3)) rfl
theorem dX10_isFull_4 : decode cX10_isFull 4 = .ok (.bipush 40, 2) := dget daX10_isFull_0 2 (q := (4, .bipush 40, 2)) rfl
theorem dX10_isFull_6 : decode cX10_isFull 6 = .ok (.if_icmp .lt 7, 3) := dget daX10_isFull_0 3 (q := (6, .if_icmp .lt 7, 3)) rfl
theorem dX10_isFull_9 : decode cX10_isFull 9 = .ok (.iconst 1, 1) := dget daX10_isFull_0 4 (q := (9, .iconst 1, 1)) rfl
theorem dX10_isFull_10 : decode cX10_isFull 10 = .ok (.goto 4, 3) := dget daX10_isFull_0 5 (q := (10, .goto 4, 3)) rfl
theorem dX10_isFull_13 : decode cX10_isFull 13 = .ok (.iconst 0, 1) := dget daX10_isFull_0 6 (q := (13, .iconst 0, 1)) rfl
theorem dX10_isFull_14 : decode cX10_isFull 14 = .ok (.ireturn, 1) := dget daX10_isFull_0 7 (q := (14, .ireturn, 1)) rfl
def tdaX10_find_0 : List (Nat × (Instr × Nat)) := [(0, .aload_n 0, 1), (1, .getfield 28, 3), (4, .iload_n 1, 1), (5, .invokestatic 32, 3), (8, .ifCond .eq 12, 3), (11, .aload_n 0, 1), (12, .getfield 13, 3), (15, .iload_n 1, 1), (16, .aaload, 1), (17, .goto 4, 3), (20, .aconst_null, 1), (21, .areturn, 1)]
theorem daX10_find_0 : tdaX10_find_0.all (fun q => decide (decode cX10_find q.1 = .ok q.2)) = true := by decide +kernel
theorem dX10_find_0 : decode cX10_find 0 = .ok (.aload_n 0, 1) := dget daX10_find_0 0 (q := (0, .aload_n 0, 1)) rfl
theorem dX10_find_1 : decode cX10_find 1 = .ok (.getfield 28, 3) := dget daX10_find_0 1 (q := (1, .getfield 28, 3)) rfl
theorem dX10_find_4 : decode cX10_find 4 = .ok (.iload_n 1, 1) := dget daX10_find_0 2 (q := (4, .iload_n 1, 1)) rfl
theorem dX10_find_5 : decode cX10_find 5 = .ok (.invokestatic 32, 3) := dget daX10_find_0 3 (q := (5, .invokestatic 32, 3)) rfl
theorem dX10_find_8 : decode cX10_find 8 = .ok (.ifCond .eq 12, 3) := dget daX10_find_0 4 (q := (8, .ifCond .eq 12, 3)) rfl
theorem dX10_find_11 : decode cX10_find 11 = .ok (.aload_n 0, 1) := dget daX10_find_0 5 (q := (11, .aload_n 0, 1)) rfl
theorem dX10_find_12 : decode cX10_find 12 = .ok (.getfield 13, 3) := dget daX10_find_0 6 (q := (12, .getfield 13, 3)) rfl
theorem dX10_find_15 : decode cX10_find 15 = .ok (.iload_n 1, 1) := dget daX10_find_0 7 (q := (15, .iload_n 1, 1)) rfl
theorem dX10_find_16 : decode cX10_find 16 = .ok (.aaload, 1) := dget daX10_find_0 8 (q := (16, .aaload, 1)) rfl
theorem dX10_find_17 : decode cX10_find 17 = .ok (.goto 4, 3) := dget daX10_find_0 9 (q := (17, .goto 4, 3)) rfl
theorem dX10_find_20 : decode cX10_find 20 = .ok (.aconst_null, 1) := dget daX10_find_0 10 (q := (20, .aconst_null, 1)) rfl
theorem dX10_find_21 : decode cX10_find 21 = .ok (.areturn, 1) := dget daX10_find_0 11 (q := (21, .areturn, 1)) rfl
def tdaX10_add_0 : List (Nat × (Instr × Nat)) := [(0, .aload_n 0, 1), (1, .getfield 13, 3), (4, .aload_n 0, 1), (5, .getfield 28, 3), (8, .new 11, 3), (11, .dup, 1), (12, .aload_n 0, 1), (13, .getfield 28, 3), (16, .aload_n 1, 1), (17, .aload_n 2, 1), (18, .iload_n 3, 1), (19, .iload 4, 2), (21, .iload 5, 2), (23, .iload 6, 2), (25, .invokespecial 36, 3), (28, .aastore, 1), (29, .aload_n 0, 1), (30, .dup, 1), (31, .getfield 28, 3), (34, .iconst 1, 1), (35, .iadd, 1), (36, .putfield 28, 3), (39, .aload_n 0, 1), (40, .getfield 28, 3), (43, .iconst 1, 1), (44, .isub, 1), (45, .ireturn, 1)]
theorem daX10_add_0 : tdaX10_add_0.all (fun q => decide (decode cX10_add q.1 = .ok q.2)) = true := by decide +kernel
theorem dX10_add_0 : decode cX10_add 0 = .ok (.aload_n 0, 1) := dget daX10_add_0 0 (q := (0, .aload_n 0, 1)) rfl
theorem dX10_add_1 : decode cX10_add 1 = .ok (.getfield 13, 3) := dget daX10_add_0 1 (q := (1, .getfield 13, 3)) rfl
theorem dX10_add_4 : decode cX10_add 4 = .ok (.aload_n 0, 1) := dget daX10_add_0 2 (q := (4, .aload_n 0, 1)) rfl
theorem dX10_add_5 : decode cX10_add 5 = .ok (.getfield 28, 3) := dget daX10_add_0 3 (q := (5, .getfield 28, 3)) rfl
theorem dX10_add_8 : decode cX10_add 8 = .ok (.new 11, 3) := dget daX10_add_0 4 (q := (8, .new 11, 3)) rfl
theorem dX10_add_11 : decode cX10_add 11 = .ok (.dup, 1) := dget daX10_add_0 5 (q := (11, .dup, 1)) rfl
theorem dX10_add_12 : decode cX10_add 12 = .ok (.aload_n 0, 1) := dget daX10_add_0 6 (q := (12, .aload_n 0, 1)) rfl
theorem dX10_add_13 : decode cX10_add 13 = .ok (.getfield 28, 3) := dget daX10_add_0 7 (q := (13, .getfield 28, 3)) rfl
theorem dX10_add_16 : decode cX10_add 16 = .ok (.aload_n 1, 1) := dget daX10_add_0 8 (q := (16, .aload_n 1, 1)) rfl
theorem dX10_add_17 : decode cX10_add 17 = .ok (.aload_n 2, 1) := dget daX10_add_0 9 (q := (17, .aload_n 2, 1)) rfl
theorem dX10_add_18 : decode cX10_add 18 = .ok (.iload_n 3, 1) := dget daX10_add_0 10 (q := (18, .iload_n 3, 1)) rfl
theorem dX10_add_19 : decode cX10_add 19 = .ok (.iload 4, 2) := dget daX10_add_0 11 (q := (19, .iload 4, 2)) rfl
theorem dX10_add_21 : decode cX10_add 21 = .ok (.iload 5, 2) := dget daX10_add_0 12 (q := (21, .iload 5, 2)) rfl
theorem dX10_add_23 : decode cX10_add 23 = .ok (.iload 6, 2) := dget daX10_add_0 13 (q := (23, .iload 6, 2)) rfl
theorem dX10_add_25 : decode cX10_add 25 = .ok (.invokespecial 36, 3) := dget daX10_add_0 14 (q := (25, .invokespecial 36, 3)) rfl
theorem dX10_add_28 : decode cX10_add 28 = .ok (.aastore, 1) := dget daX10_add_0 15 (q := (28, .aastore, 1)) rfl
theorem dX10_add_29 : decode cX10_add 29 = .ok (.aload_n 0, 1) := dget daX10_add_0 16 (q := (29, .aload_n 0, 1)) rfl
theorem dX10_add_30 : decode cX10_add 30 = .ok (.dup, 1) := dget daX10_add_0 17 (q := (30, .dup, 1)) rfl
theorem dX10_add_31 : decode cX10_add 31 = .ok (.getfield 28, 3) := dget daX10_add_0 18 (q := (31, .getfield 28, 3)) rfl
theorem dX10_add_34 : decode cX10_add 34 = .ok (.iconst 1, 1) := dget daX10_add_0 19 (q := (34, .iconst 1, 1)) rfl
theorem dX10_add_35 : decode cX10_add 35 = .ok (.iadd, 1) := dget daX10_add_0 20 (q := (35, .iadd, 1)) rfl
theorem dX10_add_36 : decode cX10_add 36 = .ok (.putfield 28, 3) := dget daX10_add_0 21 (q := (36, .putfield 28, 3)) rfl
theorem dX10_add_39 : decode cX10_add 39 = .ok (.aload_n 0, 1) := dget daX10_add_0 22 (q := (39, .aload_n 0, 1)) rfl
theorem dX10_add_40 : decode cX10_add 40 = .ok (.getfield 28, 3) := dget daX10_add_0 23 (q := (40, .getfield 28, 3)) rfl
theorem dX10_add_43 : decode cX10_add 43 = .ok (.iconst 1, 1) := dget daX10_add_0 24 (q := (43, .iconst 1, 1)) rfl
theorem dX10_add_44 : decode cX10_add 44 = .ok (.isub, 1) := dget daX10_add_0 25 (q := (44, .isub, 1)) rfl
theorem dX10_add_45 : decode cX10_add 45 = .ok (.ireturn, 1) := dget daX10_add_0 26 (q := (45, .ireturn, 1)) rfl
def tdaX10_putRight_0 : List (Nat × (Instr × Nat)) := [(0, .iconst 0, 1), (1, .istore_n 1, 1), (2, .iload_n 1, 1), (3, .aload_n 0, 1), (4, .getfield 28, 3), (7, .if_icmp .ge 30, 3), (10, .aload_n 0, 1), (11, .getfield 13, 3), (14, .iload_n 1, 1), (15, .aaload, 1), (16, .getfield 39, 3), (19, .ifCond .eq 12, 3), (22, .aload_n 0, 1), (23, .getfield 13, 3), (26, .iload_n 1, 1), (27, .aaload, 1), (28, .invokevirtual 43, 3), (31, .iinc 1 1, 3), (34, .goto (-32), 3), (37, .return_, 1)]
theorem daX10_putRight_0 : tdaX10_putRight_0.all (fun q => decide (decode cX10_putRight q.1 = .ok q.2)) = true := by decide +kernel
theorem dX10_putRight_0 : decode cX10_putRight 0 = .ok (.iconst 0, 1) := dget daX10_putRight_0 0 (q := (0, .iconst 0, 1)) rfl
theorem dX10_putRight_1 : decode cX10_putRight 1 = .ok (.istore_n 1, 1) := dget daX10_putRight_0 1 (q := (1, .istore_n 1, 1)) rfl
theorem dX10_putRight_2 : decode cX10_putRight 2 = .ok (.iload_n 1, 1) := dget daX10_putRight_0 2 (q := (2, .iload_n 1, 1)) rfl
theorem dX10_putRight_3 : decode cX10_putRight 3 = .ok (.aload_n 0, 1) := dget daX10_putRight_0 3 (q := (3, .aload_n 0, 1)) rfl
theorem dX10_putRight_4 : decode cX10_putRight 4 = .ok (.getfield 28, 3) := dget daX10_putRight_0 4 (q := (4, .getfield 28, 3)) rfl
theorem dX10_putRight_7 : decode cX10_putRight 7 = .ok (.if_icmp .ge 30, 3) := dget daX10_putRight_0 5 (q := (7, .if_icmp .ge 30, 3)) rfl
theorem dX10_putRight_10 : decode cX10_putRight 10 = .ok (.aload_n 0, 1) := dget daX10_putRight_0 6 (q := (10, .aload_n 0, 1)) rfl
theorem dX10_putRight_11 : decode cX10_putRight 11 = .ok (.getfield 13, 3) := dget daX10_putRight_0 7 (q := (11, .getfield 13, 3)) rfl
theorem dX10_putRight_14 : decode cX10_putRight 14 = .ok (.iload_n 1, 1) := dget daX10_putRight_0 8 (q := (14, .iload_n 1, 1)) rfl
theorem dX10_putRight_15 : decode cX10_putRight 15 = .ok (.aaload, 1) := dget daX10_putRight_0 9 (q := (15, .aaload, 1)) rfl
theorem dX10_putRight_16 : decode cX10_putRight 16 = .ok (.getfield 39, 3) := dget daX10_putRight_0 10 (q := (16, .getfield 39, 3)) rfl
theorem dX10_putRight_19 : decode cX10_putRight 19 = .ok (.ifCond .eq 12, 3) := dget daX10_putRight_0 11 (q := (19, .ifCond .eq 12, 3)) rfl
theorem dX10_putRight_22 : decode cX10_putRight 22 = .ok (.aload_n 0, 1) := dget daX10_putRight_0 12 (q := (22, .aload_n 0, 1)) rfl
theorem dX10_putRight_23 : decode cX10_putRight 23 = .ok (.getfield 13, 3) := dget daX10_putRight_0 13 (q := (23, .getfield 13, 3)) rfl
theorem dX10_putRight_26 : decode cX10_putRight 26 = .ok (.iload_n 1, 1) := dget daX10_putRight_0 14 (q := (26, .iload_n 1, 1)) rfl
theorem dX10_putRight_27 : decode cX10_putRight 27 = .ok (.aaload, 1) := dget daX10_putRight_0 15 (q := (27, .aaload, 1)) rfl
theorem dX10_putRight_28 : decode cX10_putRight 28 = .ok (.invokevirtual 43, 3) := dget daX10_putRight_0 16 (q := (28, .invokevirtual 43, 3)) rfl
theorem dX10_putRight_31 : decode cX10_putRight 31 = .ok (.iinc 1 1, 3) := dget daX10_putRight_0 17 (q := (31, .iinc 1 1, 3)) rfl
theorem dX10_putRight_34 : decode cX10_putRight 34 = .ok (.goto (-32), 3) := dget daX10_putRight_0 18 (q := (34, .goto (-32), 3)) rfl
theorem dX10_putRight_37 : decode cX10_putRight 37 = .ok (.return_, 1) := dget daX10_putRight_0 19 (q := (37, .return_, 1)) rfl
def tdaX10_countLogged_0 : List (Nat × (Instr × Nat)) := [(0, .iconst 0, 1), (1, .istore_n 1, 1), (2, .iconst 0, 1), (3, .istore_n 2, 1), (4, .iload_n 2, 1), (5, .aload_n 0, 1), (6, .getfield 28, 3), (9, .if_icmp .ge 24, 3), (12, .aload_n 0, 1), (13, .getfield 13, 3), (16, .iload_n 2, 1), (17, .aaload, 1), (18, .getfield 39, 3), (21, .ifCond .eq 6, 3), (24, .iinc 1 1, 3), (27, .iinc 2 1, 3), (30, .goto (-26), 3), (33, .iload_n 1, 1), (34, .ireturn, 1)]
theorem daX10_countLogged_0 : tdaX10_countLogged_0.all (fun q => decide (decode cX10_countLogged q.1 = .ok q.2)) = true := by decide +kernel
theorem dX10_countLogged_0 : decode cX10_countLogged 0 = .ok (.iconst 0, 1) := dget daX10_countLogged_0 0 (q := (0, .iconst 0, 1)) rfl
theorem dX10_countLogged_1 : decode cX10_countLogged 1 = .ok (.istore_n 1, 1) := dget daX10_countLogged_0 1 (q := (1, .istore_n 1, 1)) rfl
theorem dX10_countLogged_2 : decode cX10_countLogged 2 = .ok (.iconst 0, 1) := dget daX10_countLogged_0 2 (q := (2, .iconst 0, 1)) rfl
theorem dX10_countLogged_3 : decode cX10_countLogged 3 = .ok (.istore_n 2, 1) := dget daX10_countLogged_0 3 (q := (3, .istore_n 2, 1)) rfl
theorem dX10_countLogged_4 : decode cX10_countLogged 4 = .ok (.iload_n 2, 1) := dget daX10_countLogged_0 4 (q := (4, .iload_n 2, 1)) rfl
theorem dX10_countLogged_5 : decode cX10_countLogged 5 = .ok (.aload_n 0, 1) := dget daX10_countLogged_0 5 (q := (5, .aload_n 0, 1)) rfl
theorem dX10_countLogged_6 : decode cX10_countLogged 6 = .ok (.getfield 28, 3) := dget daX10_countLogged_0 6 (q := (6, .getfield 28, 3)) rfl
theorem dX10_countLogged_9 : decode cX10_countLogged 9 = .ok (.if_icmp .ge 24, 3) := dget daX10_countLogged_0 7 (q := (9, .if_icmp .ge 24, 3)) rfl
theorem dX10_countLogged_12 : decode cX10_countLogged 12 = .ok (.aload_n 0, 1) := dget daX10_countLogged_0 8 (q := (12, .aload_n 0, 1)) rfl
theorem dX10_countLogged_13 : decode cX10_countLogged 13 = .ok (.getfield 13, 3) := dget daX10_countLogged_0 9 (q := (13, .getfield 13, 3)) rfl
theorem dX10_countLogged_16 : decode cX10_countLogged 16 = .ok (.iload_n 2, 1) := dget daX10_countLogged_0 10 (q := (16, .iload_n 2, 1)) rfl
theorem dX10_countLogged_17 : decode cX10_countLogged 17 = .ok (.aaload, 1) := dget daX10_countLogged_0 11 (q := (17, .aaload, 1)) rfl
theorem dX10_countLogged_18 : decode cX10_countLogged 18 = .ok (.getfield 39, 3) := dget daX10_countLogged_0 12 (q := (18, .getfield 39, 3)) rfl
theorem dX10_countLogged_21 : decode cX10_countLogged 21 = .ok (.ifCond .eq 6, 3) := dget daX10_countLogged_0 13 (q := (21, .ifCond .eq 6, 3)) rfl
theorem dX10_countLogged_24 : decode cX10_countLogged 24 = .ok (.iinc 1 1, 3) := dget daX10_countLogged_0 14 (q := (24, .iinc 1 1, 3)) rfl
theorem dX10_countLogged_27 : decode cX10_countLogged 27 = .ok (.iinc 2 1, 3) := dget daX10_countLogged_0 15 (q := (27, .iinc 2 1, 3)) rfl
theorem dX10_countLogged_30 : decode cX10_countLogged 30 = .ok (.goto (-26), 3) := dget daX10_countLogged_0 16 (q := (30, .goto (-26), 3)) rfl
theorem dX10_countLogged_33 : decode cX10_countLogged 33 = .ok (.iload_n 1, 1) := dget daX10_countLogged_0 17 (q := (33, .iload_n 1, 1)) rfl
theorem dX10_countLogged_34 : decode cX10_countLogged 34 = .ok (.ireturn, 1) := dget daX10_countLogged_0 18 (q := (34, .ireturn, 1)) rfl
def tdaX10_aheadOf_0 : List (Nat × (Instr × Nat)) := [(0, .aconst_null, 1), (1, .astore 4, 2), (3, .iconst 0, 1), (4, .istore 5, 2), (6, .iload 5, 2), (8, .aload_n 0, 1), (9, .getfield 28, 3), (12, .if_icmp .ge 117, 3), (15, .aload_n 0, 1), (16, .getfield 13, 3), (19, .iload 5, 2), (21, .aaload, 1), (22, .astore 6, 2), (24, .iload_n 2, 1), (25, .ifCond .eq 23, 3), (28, .aload 6, 2), (30, .getfield 46, 3), (33, .aload_n 1, 1), (34, .getfield 46, 3), (37, .if_icmp .ne 7, 3), (40, .iconst 1, 1), (41, .goto 24, 3), (44, .iconst 0, 1), (45, .goto 20, 3), (48, .aload 6, 2), (50, .getfield 49, 3), (53, .aload_n 1, 1), (54, .getfield 49, 3), (57, .if_icmp .ne 7, 3), (60, .iconst 1, 1), (61, .goto 4, 3), (64, .iconst 0, 1), (65, .istore 7, 2), (67, .iload 7, 2), (69, .ifCond .eq 54, 3), (72, .aload 6, 2), (74, .getfield 52, 3), (77, .aload_n 1, 1), (78, .getfield 56, 3), (81, .if_acmp .ne 42, 3)]
theorem daX10_aheadOf_0 : tdaX10_aheadOf_0.all (fun q => decide (decode cX10_aheadOf q.1 = .ok q.2)) = true := by decide +kernel
theorem dX10_aheadOf_0 : decode cX10_aheadOf 0 = .ok (.aconst_null, 1) := dget daX10_aheadOf_0 0 (q := (0, .aconst_null, 1)) rfl
theorem dX10_aheadOf_1 : decode cX10_aheadOf 1 = .ok (.astore 4, 2) := dget daX10_aheadOf_0 1 (q := (1, .astore 4, 2)) rfl
theorem dX10_aheadOf_3 : decode cX10_aheadOf 3 = .ok (.iconst 0, 1) := dget daX10_aheadOf_0 2 (q := (3, .iconst 0, 1)) rfl
theorem dX10_aheadOf_4 : decode cX10_aheadOf 4 = .ok (.istore 5, 2) := dget daX10_aheadOf_0 3 (q := (4, .istore 5, 2)) rfl
theorem dX10_aheadOf_6 : decode cX10_aheadOf 6 = .ok (.iload 5, 2) := dget daX10_aheadOf_0 4 (q := (6, .iload 5, 2)) rfl
theorem dX10_aheadOf_8 : decode cX10_aheadOf 8 = .ok (.aload_n 0, 1) := dget daX10_aheadOf_0 5 (q := (8, .aload_n 0, 1)) rfl
theorem dX10_aheadOf_9 : decode cX10_aheadOf 9 = .ok (.getfield 28, 3) := dget daX10_aheadOf_0 6 (q := (9, .getfield 28, 3)) rfl
theorem dX10_aheadOf_12 : decode cX10_aheadOf 12 = .ok (.if_icmp .ge 117, 3) := dget daX10_aheadOf_0 7 (q := (12, .if_icmp .ge 117, 3)) rfl
theorem dX10_aheadOf_15 : decode cX10_aheadOf 15 = .ok (.aload_n 0, 1) := dget daX10_aheadOf_0 8 (q := (15, .aload_n 0, 1)) rfl
theorem dX10_aheadOf_16 : decode cX10_aheadOf 16 = .ok (.getfield 13, 3) := dget daX10_aheadOf_0 9 (q := (16, .getfield 13, 3)) rfl
theorem dX10_aheadOf_19 : decode cX10_aheadOf 19 = .ok (.iload 5, 2) := dget daX10_aheadOf_0 10 (q := (19, .iload 5, 2)) rfl
theorem dX10_aheadOf_21 : decode cX10_aheadOf 21 = .ok (.aaload, 1) := dget daX10_aheadOf_0 11 (q := (21, .aaload, 1)) rfl
theorem dX10_aheadOf_22 : decode cX10_aheadOf 22 = .ok (.astore 6, 2) := dget daX10_aheadOf_0 12 (q := (22, .astore 6, 2)) rfl
theorem dX10_aheadOf_24 : decode cX10_aheadOf 24 = .ok (.iload_n 2, 1) := dget daX10_aheadOf_0 13 (q := (24, .iload_n 2, 1)) rfl
theorem dX10_aheadOf_25 : decode cX10_aheadOf 25 = .ok (.ifCond .eq 23, 3) := dget daX10_aheadOf_0 14 (q := (25, .ifCond .eq 23, 3)) rfl
theorem dX10_aheadOf_28 : decode cX10_aheadOf 28 = .ok (.aload 6, 2) := dget daX10_aheadOf_0 15 (q := (28, .aload 6, 2)) rfl
theorem dX10_aheadOf_30 : decode cX10_aheadOf 30 = .ok (.getfield 46, 3) := dget daX10_aheadOf_0 16 (q := (30, .getfield 46, 3)) rfl
theorem dX10_aheadOf_33 : decode cX10_aheadOf 33 = .ok (.aload_n 1, 1) := dget daX10_aheadOf_0 17 (q := (33, .aload_n 1, 1)) rfl
theorem dX10_aheadOf_34 : decode cX10_aheadOf 34 = .ok (.getfield 46, 3) := dget daX10_aheadOf_0 18 (q := (34, .getfield 46, 3)) rfl
theorem dX10_aheadOf_37 : decode cX10_aheadOf 37 = .ok (.if_icmp .ne 7, 3) := dget daX10_aheadOf_0 19 (q := (37, .if_icmp .ne 7, 3)) rfl
theorem dX10_aheadOf_40 : decode cX10_aheadOf 40 = .ok (.iconst 1, 1) := dget daX10_aheadOf_0 20 (q := (40, .iconst 1, 1)) rfl
theorem dX10_aheadOf_41 : decode cX10_aheadOf 41 = .ok (.goto 24, 3) := dget daX10_aheadOf_0 21 (q := (41, .goto 24, 3)) rfl
theorem dX10_aheadOf_44 : decode cX10_aheadOf 44 = .ok (.iconst 0, 1) := dget daX10_aheadOf_0 22 (q := (44, .iconst 0, 1)) rfl
theorem dX10_aheadOf_45 : decode cX10_aheadOf 45 = .ok (.goto 20, 3) := dget daX10_aheadOf_0 23 (q := (45, .goto 20, 3)) rfl
theorem dX10_aheadOf_48 : decode cX10_aheadOf 48 = .ok (.aload 6, 2) := dget daX10_aheadOf_0 24 (q := (48, .aload 6, 2)) rfl
theorem dX10_aheadOf_50 : decode cX10_aheadOf 50 = .ok (.getfield 49, 3) := dget daX10_aheadOf_0 25 (q := (50, .getfield 49, 3)) rfl
theorem dX10_aheadOf_53 : decode cX10_aheadOf 53 = .ok (.aload_n 1, 1) := dget daX10_aheadOf_0 26 (q := (53, .aload_n 1, 1)) rfl
theorem dX10_aheadOf_54 : decode cX10_aheadOf 54 = .ok (.getfield 49, 3) := dget daX10_aheadOf_0 27 (q := (54, .getfield 49, 3)) rfl
theorem dX10_aheadOf_57 : decode cX10_aheadOf 57 = .ok (.if_icmp .ne 7, 3) := dget daX10_aheadOf_0 28 (q := (57, .if_icmp .ne 7, 3)) rfl
theorem dX10_aheadOf_60 : decode cX10_aheadOf 60 = .ok (.iconst 1, 1) := dget daX10_aheadOf_0 29 (q := (60, .iconst 1, 1)) rfl
theorem dX10_aheadOf_61 : decode cX10_aheadOf 61 = .ok (.goto 4, 3) := dget daX10_aheadOf_0 30 (q := (61, .goto 4, 3)) rfl
theorem dX10_aheadOf_64 : decode cX10_aheadOf 64 = .ok (.iconst 0, 1) := dget daX10_aheadOf_0 31 (q := (64, .iconst 0, 1)) rfl
theorem dX10_aheadOf_65 : decode cX10_aheadOf 65 = .ok (.istore 7, 2) := dget daX10_aheadOf_0 32 (q := (65, .istore 7, 2)) rfl
theorem dX10_aheadOf_67 : decode cX10_aheadOf 67 = .ok (.iload 7, 2) := dget daX10_aheadOf_0 33 (q := (67, .iload 7, 2)) rfl
theorem dX10_aheadOf_69 : decode cX10_aheadOf 69 = .ok (.ifCond .eq 54, 3) := dget daX10_aheadOf_0 34 (q := (69, .ifCond .eq 54, 3)) rfl
theorem dX10_aheadOf_72 : decode cX10_aheadOf 72 = .ok (.aload 6, 2) := dget daX10_aheadOf_0 35 (q := (72, .aload 6, 2)) rfl
theorem dX10_aheadOf_74 : decode cX10_aheadOf 74 = .ok (.getfield 52, 3) := dget daX10_aheadOf_0 36 (q := (74, .getfield 52, 3)) rfl
theorem dX10_aheadOf_77 : decode cX10_aheadOf 77 = .ok (.aload_n 1, 1) := dget daX10_aheadOf_0 37 (q := (77, .aload_n 1, 1)) rfl
theorem dX10_aheadOf_78 : decode cX10_aheadOf 78 = .ok (.getfield 56, 3) := dget daX10_aheadOf_0 38 (q := (78, .getfield 56, 3)) rfl
theorem dX10_aheadOf_81 : decode cX10_aheadOf 81 = .ok (.if_acmp .ne 42, 3) := dget daX10_aheadOf_0 39 (q := (81, .if_acmp .ne 42, 3)) rfl
def tdaX10_aheadOf_1 : List (Nat × (Instr × Nat)) := [(84, .aload_n 1, 1), (85, .getfield 59, 3), (88, .aload 6, 2), (90, .getfield 62, 3), (93, .isub, 1), (94, .iload_n 3, 1), (95, .if_icmp .ge 6, 3), (98, .goto 25, 3), (101, .aload 4, 2), (103, .ifnull 16, 3), (106, .aload 6, 2), (108, .getfield 62, 3), (111, .aload 4, 2), (113, .getfield 62, 3), (116, .if_icmp .lt 7, 3), (119, .aload 6, 2), (121, .astore 4, 2), (123, .iinc 5 1, 3), (126, .goto (-120), 3), (129, .aload 4, 2), (131, .areturn, 1)]
theorem daX10_aheadOf_1 : tdaX10_aheadOf_1.all (fun q => decide (decode cX10_aheadOf q.1 = .ok q.2)) = true := by decide +kernel
theorem dX10_aheadOf_84 : decode cX10_aheadOf 84 = .ok (.aload_n 1, 1) := dget daX10_aheadOf_1 0 (q := (84, .aload_n 1, 1)) rfl
theorem dX10_aheadOf_85 : decode cX10_aheadOf 85 = .ok (.getfield 59, 3) := dget daX10_aheadOf_1 1 (q := (85, .getfield 59, 3)) rfl
theorem dX10_aheadOf_88 : decode cX10_aheadOf 88 = .ok (.aload 6, 2) := dget daX10_aheadOf_1 2 (q := (88, .aload 6, 2)) rfl
theorem dX10_aheadOf_90 : decode cX10_aheadOf 90 = .ok (.getfield 62, 3) := dget daX10_aheadOf_1 3 (q := (90, .getfield 62, 3)) rfl
theorem dX10_aheadOf_93 : decode cX10_aheadOf 93 = .ok (.isub, 1) := dget daX10_aheadOf_1 4 (q := (93, .isub, 1)) rfl
theorem dX10_aheadOf_94 : decode cX10_aheadOf 94 = .ok (.iload_n 3, 1) := dget daX10_aheadOf_1 5 (q := (94, .iload_n 3, 1)) rfl
theorem dX10_aheadOf_95 : decode cX10_aheadOf 95 = .ok (.if_icmp .ge 6, 3) := dget daX10_aheadOf_1 6 (q := (95, .if_icmp .ge 6, 3)) rfl
theorem dX10_aheadOf_98 : decode cX10_aheadOf 98 = .ok (.goto 25, 3) := dget daX10_aheadOf_1 7 (q := (98, .goto 25, 3)) rfl
theorem dX10_aheadOf_101 : decode cX10_aheadOf 101 = .ok (.aload 4, 2) := dget daX10_aheadOf_1 8 (q := (101, .aload 4, 2)) rfl
theorem dX10_aheadOf_103 : decode cX10_aheadOf 103 = .ok (.ifnull 16, 3) := dget daX10_aheadOf_1 9 (q := (103, .ifnull 16, 3)) rfl
theorem dX10_aheadOf_106 : decode cX10_aheadOf 106 = .ok (.aload 6, 2) := dget daX10_aheadOf_1 10 (q := (106, .aload 6, 2)) rfl
theorem dX10_aheadOf_108 : decode cX10_aheadOf 108 = .ok (.getfield 62, 3) := dget daX10_aheadOf_1 11 (q := (108, .getfield 62, 3)) rfl
theorem dX10_aheadOf_111 : decode cX10_aheadOf 111 = .ok (.aload 4, 2) := dget daX10_aheadOf_1 12 (q := (111, .aload 4, 2)) rfl
theorem dX10_aheadOf_113 : decode cX10_aheadOf 113 = .ok (.getfield 62, 3) := dget daX10_aheadOf_1 13 (q := (113, .getfield 62, 3)) rfl
theorem dX10_aheadOf_116 : decode cX10_aheadOf 116 = .ok (.if_icmp .lt 7, 3) := dget daX10_aheadOf_1 14 (q := (116, .if_icmp .lt 7, 3)) rfl
theorem dX10_aheadOf_119 : decode cX10_aheadOf 119 = .ok (.aload 6, 2) := dget daX10_aheadOf_1 15 (q := (119, .aload 6, 2)) rfl
theorem dX10_aheadOf_121 : decode cX10_aheadOf 121 = .ok (.astore 4, 2) := dget daX10_aheadOf_1 16 (q := (121, .astore 4, 2)) rfl
theorem dX10_aheadOf_123 : decode cX10_aheadOf 123 = .ok (.iinc 5 1, 3) := dget daX10_aheadOf_1 17 (q := (123, .iinc 5 1, 3)) rfl
theorem dX10_aheadOf_126 : decode cX10_aheadOf 126 = .ok (.goto (-120), 3) := dget daX10_aheadOf_1 18 (q := (126, .goto (-120), 3)) rfl
theorem dX10_aheadOf_129 : decode cX10_aheadOf 129 = .ok (.aload 4, 2) := dget daX10_aheadOf_1 19 (q := (129, .aload 4, 2)) rfl
theorem dX10_aheadOf_131 : decode cX10_aheadOf 131 = .ok (.areturn, 1) := dget daX10_aheadOf_1 20 (q := (131, .areturn, 1)) rfl
def tdaX10_trace_0 : List (Nat × (Instr × Nat)) := [(0, .aload_n 0, 1), (1, .getfield 17, 3), (4, .iconst 0, 1), (5, .invokestatic 65, 3), (8, .aload_n 1, 1), (9, .astore 4, 2), (11, .aload_n 1, 1), (12, .getfield 71, 3), (15, .istore 5, 2), (17, .iconst 0, 1), (18, .istore 6, 2), (20, .iload 6, 2), (22, .bipush 40, 2), (24, .if_icmp .ge 123, 3), (27, .aload 4, 2), (29, .ifnull 118, 3), (32, .iload 5, 2), (34, .ifCond .le 113, 3), (37, .aload_n 0, 1), (38, .aload 4, 2), (40, .iconst 0, 1), (41, .iload_n 2, 1), (42, .invokevirtual 74, 3), (45, .astore 7, 2), (47, .aload_n 0, 1), (48, .aload 4, 2), (50, .iconst 1, 1), (51, .iload_n 3, 1), (52, .invokevirtual 74, 3), (55, .astore 8, 2), (57, .aload 4, 2), (59, .aload 7, 2), (61, .iload_n 2, 1), (62, .invokevirtual 78, 3), (65, .istore 9, 2), (67, .aload 4, 2), (69, .aload 8, 2), (71, .iload_n 3, 1), (72, .invokevirtual 78, 3), (75, .istore 10, 2)]
theorem daX10_trace_0 : tdaX10_trace_0.all (fun q => decide (decode cX10_trace q.1 = .ok q.2)) = true := by decide +kernel
theorem dX10_trace_0 : decode cX10_trace 0 = .ok (.aload_n 0, 1) := dget daX10_trace_0 0 (q := (0, .aload_n 0, 1)) rfl
theorem dX10_trace_1 : decode cX10_trace 1 = .ok (.getfield 17, 3) := dget daX10_trace_0 1 (q := (1, .getfield 17, 3)) rfl
theorem dX10_trace_4 : decode cX10_trace 4 = .ok (.iconst 0, 1) := dget daX10_trace_0 2 (q := (4, .iconst 0, 1)) rfl
theorem dX10_trace_5 : decode cX10_trace 5 = .ok (.invokestatic 65, 3) := dget daX10_trace_0 3 (q := (5, .invokestatic 65, 3)) rfl
theorem dX10_trace_8 : decode cX10_trace 8 = .ok (.aload_n 1, 1) := dget daX10_trace_0 4 (q := (8, .aload_n 1, 1)) rfl
theorem dX10_trace_9 : decode cX10_trace 9 = .ok (.astore 4, 2) := dget daX10_trace_0 5 (q := (9, .astore 4, 2)) rfl
theorem dX10_trace_11 : decode cX10_trace 11 = .ok (.aload_n 1, 1) := dget daX10_trace_0 6 (q := (11, .aload_n 1, 1)) rfl
theorem dX10_trace_12 : decode cX10_trace 12 = .ok (.getfield 71, 3) := dget daX10_trace_0 7 (q := (12, .getfield 71, 3)) rfl
theorem dX10_trace_15 : decode cX10_trace 15 = .ok (.istore 5, 2) := dget daX10_trace_0 8 (q := (15, .istore 5, 2)) rfl
theorem dX10_trace_17 : decode cX10_trace 17 = .ok (.iconst 0, 1) := dget daX10_trace_0 9 (q := (17, .iconst 0, 1)) rfl
theorem dX10_trace_18 : decode cX10_trace 18 = .ok (.istore 6, 2) := dget daX10_trace_0 10 (q := (18, .istore 6, 2)) rfl
theorem dX10_trace_20 : decode cX10_trace 20 = .ok (.iload 6, 2) := dget daX10_trace_0 11 (q := (20, .iload 6, 2)) rfl
theorem dX10_trace_22 : decode cX10_trace 22 = .ok (.bipush 40, 2) := dget daX10_trace_0 12 (q := (22, .bipush 40, 2)) rfl
theorem dX10_trace_24 : decode cX10_trace 24 = .ok (.if_icmp .ge 123, 3) := dget daX10_trace_0 13 (q := (24, .if_icmp .ge 123, 3)) rfl
theorem dX10_trace_27 : decode cX10_trace 27 = .ok (.aload 4, 2) := dget daX10_trace_0 14 (q := (27, .aload 4, 2)) rfl
theorem dX10_trace_29 : decode cX10_trace 29 = .ok (.ifnull 118, 3) := dget daX10_trace_0 15 (q := (29, .ifnull 118, 3)) rfl
theorem dX10_trace_32 : decode cX10_trace 32 = .ok (.iload 5, 2) := dget daX10_trace_0 16 (q := (32, .iload 5, 2)) rfl
theorem dX10_trace_34 : decode cX10_trace 34 = .ok (.ifCond .le 113, 3) := dget daX10_trace_0 17 (q := (34, .ifCond .le 113, 3)) rfl
theorem dX10_trace_37 : decode cX10_trace 37 = .ok (.aload_n 0, 1) := dget daX10_trace_0 18 (q := (37, .aload_n 0, 1)) rfl
theorem dX10_trace_38 : decode cX10_trace 38 = .ok (.aload 4, 2) := dget daX10_trace_0 19 (q := (38, .aload 4, 2)) rfl
theorem dX10_trace_40 : decode cX10_trace 40 = .ok (.iconst 0, 1) := dget daX10_trace_0 20 (q := (40, .iconst 0, 1)) rfl
theorem dX10_trace_41 : decode cX10_trace 41 = .ok (.iload_n 2, 1) := dget daX10_trace_0 21 (q := (41, .iload_n 2, 1)) rfl
theorem dX10_trace_42 : decode cX10_trace 42 = .ok (.invokevirtual 74, 3) := dget daX10_trace_0 22 (q := (42, .invokevirtual 74, 3)) rfl
theorem dX10_trace_45 : decode cX10_trace 45 = .ok (.astore 7, 2) := dget daX10_trace_0 23 (q := (45, .astore 7, 2)) rfl
theorem dX10_trace_47 : decode cX10_trace 47 = .ok (.aload_n 0, 1) := dget daX10_trace_0 24 (q := (47, .aload_n 0, 1)) rfl
theorem dX10_trace_48 : decode cX10_trace 48 = .ok (.aload 4, 2) := dget daX10_trace_0 25 (q := (48, .aload 4, 2)) rfl
theorem dX10_trace_50 : decode cX10_trace 50 = .ok (.iconst 1, 1) := dget daX10_trace_0 26 (q := (50, .iconst 1, 1)) rfl
theorem dX10_trace_51 : decode cX10_trace 51 = .ok (.iload_n 3, 1) := dget daX10_trace_0 27 (q := (51, .iload_n 3, 1)) rfl
theorem dX10_trace_52 : decode cX10_trace 52 = .ok (.invokevirtual 74, 3) := dget daX10_trace_0 28 (q := (52, .invokevirtual 74, 3)) rfl
theorem dX10_trace_55 : decode cX10_trace 55 = .ok (.astore 8, 2) := dget daX10_trace_0 29 (q := (55, .astore 8, 2)) rfl
theorem dX10_trace_57 : decode cX10_trace 57 = .ok (.aload 4, 2) := dget daX10_trace_0 30 (q := (57, .aload 4, 2)) rfl
theorem dX10_trace_59 : decode cX10_trace 59 = .ok (.aload 7, 2) := dget daX10_trace_0 31 (q := (59, .aload 7, 2)) rfl
theorem dX10_trace_61 : decode cX10_trace 61 = .ok (.iload_n 2, 1) := dget daX10_trace_0 32 (q := (61, .iload_n 2, 1)) rfl
theorem dX10_trace_62 : decode cX10_trace 62 = .ok (.invokevirtual 78, 3) := dget daX10_trace_0 33 (q := (62, .invokevirtual 78, 3)) rfl
theorem dX10_trace_65 : decode cX10_trace 65 = .ok (.istore 9, 2) := dget daX10_trace_0 34 (q := (65, .istore 9, 2)) rfl
theorem dX10_trace_67 : decode cX10_trace 67 = .ok (.aload 4, 2) := dget daX10_trace_0 35 (q := (67, .aload 4, 2)) rfl
theorem dX10_trace_69 : decode cX10_trace 69 = .ok (.aload 8, 2) := dget daX10_trace_0 36 (q := (69, .aload 8, 2)) rfl
theorem dX10_trace_71 : decode cX10_trace 71 = .ok (.iload_n 3, 1) := dget daX10_trace_0 37 (q := (71, .iload_n 3, 1)) rfl
theorem dX10_trace_72 : decode cX10_trace 72 = .ok (.invokevirtual 78, 3) := dget daX10_trace_0 38 (q := (72, .invokevirtual 78, 3)) rfl
theorem dX10_trace_75 : decode cX10_trace 75 = .ok (.istore 10, 2) := dget daX10_trace_0 39 (q := (75, .istore 10, 2)) rfl
def tdaX10_trace_1 : List (Nat × (Instr × Nat)) := [(77, .aload 4, 2), (79, .getfield 71, 3), (82, .iload 9, 2), (84, .iload 10, 2), (86, .invokestatic 82, 3), (89, .invokestatic 88, 3), (92, .istore 11, 2), (94, .iload 5, 2), (96, .iload 11, 2), (98, .invokestatic 88, 3), (101, .istore 12, 2), (103, .aload_n 0, 1), (104, .getfield 17, 3), (107, .aload 4, 2), (109, .getfield 91, 3), (112, .dup2, 1), (113, .iaload, 1), (114, .iload 5, 2), (116, .iload 12, 2), (118, .isub, 1), (119, .iadd, 1), (120, .iastore, 1), (121, .iload 12, 2), (123, .istore 5, 2), (125, .iload 10, 2), (127, .iload 9, 2), (129, .if_icmp .le 8, 3), (132, .aload 8, 2), (134, .goto 5, 3), (137, .aload 7, 2), (139, .astore 4, 2), (141, .iinc 6 1, 3), (144, .goto (-124), 3), (147, .return_, 1)]
theorem daX10_trace_1 : tdaX10_trace_1.all (fun q => decide (decode cX10_trace q.1 = .ok q.2)) = true := by decide +kernel
theorem dX10_trace_77 : decode cX10_trace 77 = .ok (.aload 4, 2) := dget daX10_trace_1 0 (q := (77, .aload 4, 2)) rfl
theorem dX10_trace_79 : decode cX10_trace 79 = .ok (.getfield 71, 3) := dget daX10_trace_1 1 (q := (79, .getfield 71, 3)) rfl
theorem dX10_trace_82 : decode cX10_trace 82 = .ok (.iload 9, 2) := dget daX10_trace_1 2 (q := (82, .iload 9, 2)) rfl
theorem dX10_trace_84 : decode cX10_trace 84 = .ok (.iload 10, 2) := dget daX10_trace_1 3 (q := (84, .iload 10, 2)) rfl
theorem dX10_trace_86 : decode cX10_trace 86 = .ok (.invokestatic 82, 3) := dget daX10_trace_1 4 (q := (86, .invokestatic 82, 3)) rfl
theorem dX10_trace_89 : decode cX10_trace 89 = .ok (.invokestatic 88, 3) := dget daX10_trace_1 5 (q := (89, .invokestatic 88, 3)) rfl
theorem dX10_trace_92 : decode cX10_trace 92 = .ok (.istore 11, 2) := dget daX10_trace_1 6 (q := (92, .istore 11, 2)) rfl
theorem dX10_trace_94 : decode cX10_trace 94 = .ok (.iload 5, 2) := dget daX10_trace_1 7 (q := (94, .iload 5, 2)) rfl
theorem dX10_trace_96 : decode cX10_trace 96 = .ok (.iload 11, 2) := dget daX10_trace_1 8 (q := (96, .iload 11, 2)) rfl
theorem dX10_trace_98 : decode cX10_trace 98 = .ok (.invokestatic 88, 3) := dget daX10_trace_1 9 (q := (98, .invokestatic 88, 3)) rfl
theorem dX10_trace_101 : decode cX10_trace 101 = .ok (.istore 12, 2) := dget daX10_trace_1 10 (q := (101, .istore 12, 2)) rfl
theorem dX10_trace_103 : decode cX10_trace 103 = .ok (.aload_n 0, 1) := dget daX10_trace_1 11 (q := (103, .aload_n 0, 1)) rfl
theorem dX10_trace_104 : decode cX10_trace 104 = .ok (.getfield 17, 3) := dget daX10_trace_1 12 (q := (104, .getfield 17, 3)) rfl
theorem dX10_trace_107 : decode cX10_trace 107 = .ok (.aload 4, 2) := dget daX10_trace_1 13 (q := (107, .aload 4, 2)) rfl
theorem dX10_trace_109 : decode cX10_trace 109 = .ok (.getfield 91, 3) := dget daX10_trace_1 14 (q := (109, .getfield 91, 3)) rfl
theorem dX10_trace_112 : decode cX10_trace 112 = .ok (.dup2, 1) := dget daX10_trace_1 15 (q := (112, .dup2, 1)) rfl
theorem dX10_trace_113 : decode cX10_trace 113 = .ok (.iaload, 1) := dget daX10_trace_1 16 (q := (113, .iaload, 1)) rfl
theorem dX10_trace_114 : decode cX10_trace 114 = .ok (.iload 5, 2) := dget daX10_trace_1 17 (q := (114, .iload 5, 2)) rfl
theorem dX10_trace_116 : decode cX10_trace 116 = .ok (.iload 12, 2) := dget daX10_trace_1 18 (q := (116, .iload 12, 2)) rfl
theorem dX10_trace_118 : decode cX10_trace 118 = .ok (.isub, 1) := dget daX10_trace_1 19 (q := (118, .isub, 1)) rfl
theorem dX10_trace_119 : decode cX10_trace 119 = .ok (.iadd, 1) := dget daX10_trace_1 20 (q := (119, .iadd, 1)) rfl
theorem dX10_trace_120 : decode cX10_trace 120 = .ok (.iastore, 1) := dget daX10_trace_1 21 (q := (120, .iastore, 1)) rfl
theorem dX10_trace_121 : decode cX10_trace 121 = .ok (.iload 12, 2) := dget daX10_trace_1 22 (q := (121, .iload 12, 2)) rfl
theorem dX10_trace_123 : decode cX10_trace 123 = .ok (.istore 5, 2) := dget daX10_trace_1 23 (q := (123, .istore 5, 2)) rfl
theorem dX10_trace_125 : decode cX10_trace 125 = .ok (.iload 10, 2) := dget daX10_trace_1 24 (q := (125, .iload 10, 2)) rfl
theorem dX10_trace_127 : decode cX10_trace 127 = .ok (.iload 9, 2) := dget daX10_trace_1 25 (q := (127, .iload 9, 2)) rfl
theorem dX10_trace_129 : decode cX10_trace 129 = .ok (.if_icmp .le 8, 3) := dget daX10_trace_1 26 (q := (129, .if_icmp .le 8, 3)) rfl
theorem dX10_trace_132 : decode cX10_trace 132 = .ok (.aload 8, 2) := dget daX10_trace_1 27 (q := (132, .aload 8, 2)) rfl
theorem dX10_trace_134 : decode cX10_trace 134 = .ok (.goto 5, 3) := dget daX10_trace_1 28 (q := (134, .goto 5, 3)) rfl
theorem dX10_trace_137 : decode cX10_trace 137 = .ok (.aload 7, 2) := dget daX10_trace_1 29 (q := (137, .aload 7, 2)) rfl
theorem dX10_trace_139 : decode cX10_trace 139 = .ok (.astore 4, 2) := dget daX10_trace_1 30 (q := (139, .astore 4, 2)) rfl
theorem dX10_trace_141 : decode cX10_trace 141 = .ok (.iinc 6 1, 3) := dget daX10_trace_1 31 (q := (141, .iinc 6 1, 3)) rfl
theorem dX10_trace_144 : decode cX10_trace 144 = .ok (.goto (-124), 3) := dget daX10_trace_1 32 (q := (144, .goto (-124), 3)) rfl
theorem dX10_trace_147 : decode cX10_trace 147 = .ok (.return_, 1) := dget daX10_trace_1 33 (q := (147, .return_, 1)) rfl
def tdaX10_greatestCause_0 : List (Nat × (Instr × Nat)) := [(0, .iconst 0, 1), (1, .istore_n 1, 1), (2, .iconst 1, 1), (3, .istore_n 2, 1), (4, .iload_n 2, 1), (5, .bipush 6, 2), (7, .if_icmp .ge 26, 3), (10, .aload_n 0, 1), (11, .getfield 17, 3), (14, .iload_n 2, 1), (15, .iaload, 1), (16, .aload_n 0, 1), (17, .getfield 17, 3), (20, .iload_n 1, 1), (21, .iaload, 1), (22, .if_icmp .le 5, 3), (25, .iload_n 2, 1), (26, .istore_n 1, 1), (27, .iinc 2 1, 3), (30, .goto (-26), 3), (33, .iload_n 1, 1), (34, .ireturn, 1)]
theorem daX10_greatestCause_0 : tdaX10_greatestCause_0.all (fun q => decide (decode cX10_greatestCause q.1 = .ok q.2)) = true := by decide +kernel
theorem dX10_greatestCause_0 : decode cX10_greatestCause 0 = .ok (.iconst 0, 1) := dget daX10_greatestCause_0 0 (q := (0, .iconst 0, 1)) rfl
theorem dX10_greatestCause_1 : decode cX10_greatestCause 1 = .ok (.istore_n 1, 1) := dget daX10_greatestCause_0 1 (q := (1, .istore_n 1, 1)) rfl
theorem dX10_greatestCause_2 : decode cX10_greatestCause 2 = .ok (.iconst 1, 1) := dget daX10_greatestCause_0 2 (q := (2, .iconst 1, 1)) rfl
theorem dX10_greatestCause_3 : decode cX10_greatestCause 3 = .ok (.istore_n 2, 1) := dget daX10_greatestCause_0 3 (q := (3, .istore_n 2, 1)) rfl
theorem dX10_greatestCause_4 : decode cX10_greatestCause 4 = .ok (.iload_n 2, 1) := dget daX10_greatestCause_0 4 (q := (4, .iload_n 2, 1)) rfl
theorem dX10_greatestCause_5 : decode cX10_greatestCause 5 = .ok (.bipush 6, 2) := dget daX10_greatestCause_0 5 (q := (5, .bipush 6, 2)) rfl
theorem dX10_greatestCause_7 : decode cX10_greatestCause 7 = .ok (.if_icmp .ge 26, 3) := dget daX10_greatestCause_0 6 (q := (7, .if_icmp .ge 26, 3)) rfl
theorem dX10_greatestCause_10 : decode cX10_greatestCause 10 = .ok (.aload_n 0, 1) := dget daX10_greatestCause_0 7 (q := (10, .aload_n 0, 1)) rfl
theorem dX10_greatestCause_11 : decode cX10_greatestCause 11 = .ok (.getfield 17, 3) := dget daX10_greatestCause_0 8 (q := (11, .getfield 17, 3)) rfl
theorem dX10_greatestCause_14 : decode cX10_greatestCause 14 = .ok (.iload_n 2, 1) := dget daX10_greatestCause_0 9 (q := (14, .iload_n 2, 1)) rfl
theorem dX10_greatestCause_15 : decode cX10_greatestCause 15 = .ok (.iaload, 1) := dget daX10_greatestCause_0 10 (q := (15, .iaload, 1)) rfl
theorem dX10_greatestCause_16 : decode cX10_greatestCause 16 = .ok (.aload_n 0, 1) := dget daX10_greatestCause_0 11 (q := (16, .aload_n 0, 1)) rfl
theorem dX10_greatestCause_17 : decode cX10_greatestCause 17 = .ok (.getfield 17, 3) := dget daX10_greatestCause_0 12 (q := (17, .getfield 17, 3)) rfl
theorem dX10_greatestCause_20 : decode cX10_greatestCause 20 = .ok (.iload_n 1, 1) := dget daX10_greatestCause_0 13 (q := (20, .iload_n 1, 1)) rfl
theorem dX10_greatestCause_21 : decode cX10_greatestCause 21 = .ok (.iaload, 1) := dget daX10_greatestCause_0 14 (q := (21, .iaload, 1)) rfl
theorem dX10_greatestCause_22 : decode cX10_greatestCause 22 = .ok (.if_icmp .le 5, 3) := dget daX10_greatestCause_0 15 (q := (22, .if_icmp .le 5, 3)) rfl
theorem dX10_greatestCause_25 : decode cX10_greatestCause 25 = .ok (.iload_n 2, 1) := dget daX10_greatestCause_0 16 (q := (25, .iload_n 2, 1)) rfl
theorem dX10_greatestCause_26 : decode cX10_greatestCause 26 = .ok (.istore_n 1, 1) := dget daX10_greatestCause_0 17 (q := (26, .istore_n 1, 1)) rfl
theorem dX10_greatestCause_27 : decode cX10_greatestCause 27 = .ok (.iinc 2 1, 3) := dget daX10_greatestCause_0 18 (q := (27, .iinc 2 1, 3)) rfl
theorem dX10_greatestCause_30 : decode cX10_greatestCause 30 = .ok (.goto (-26), 3) := dget daX10_greatestCause_0 19 (q := (30, .goto (-26), 3)) rfl
theorem dX10_greatestCause_33 : decode cX10_greatestCause 33 = .ok (.iload_n 1, 1) := dget daX10_greatestCause_0 20 (q := (33, .iload_n 1, 1)) rfl
theorem dX10_greatestCause_34 : decode cX10_greatestCause 34 = .ok (.ireturn, 1) := dget daX10_greatestCause_0 21 (q := (34, .ireturn, 1)) rfl
def tdaX10_soonestBy_0 : List (Nat × (Instr × Nat)) := [(0, .iconst 0, 1), (1, .istore 5, 2), (3, .iload 5, 2), (5, .aload_n 0, 1), (6, .getfield 28, 3), (9, .if_icmp .ge 17, 3), (12, .aload_n 0, 1), (13, .getfield 21, 3), (16, .iload 5, 2), (18, .iconst 0, 1), (19, .bastore, 1), (20, .iinc 5 1, 3), (23, .goto (-20), 3), (26, .aload_n 0, 1), (27, .iconst 0, 1), (28, .aload_n 1, 1), (29, .iload_n 2, 1), (30, .invokevirtual 94, 3), (33, .istore 5, 2), (35, .bipush (-9), 2), (37, .istore 6, 2), (39, .iconst 0, 1), (40, .istore 7, 2), (42, .iload 7, 2), (44, .iload 5, 2), (46, .if_icmp .ge 79, 3), (49, .iload 7, 2), (51, .bipush 40, 2), (53, .if_icmp .ge 72, 3), (56, .aload_n 0, 1), (57, .getfield 25, 3), (60, .iload 7, 2), (62, .aaload, 1), (63, .astore 8, 2), (65, .aload 8, 2), (67, .getfield 52, 3), (70, .aload_n 3, 1), (71, .if_acmp .ne 27, 3), (74, .iload 6, 2), (76, .bipush (-9), 2)]
theorem daX10_soonestBy_0 : tdaX10_soonestBy_0.all (fun q => decide (decode cX10_soonestBy q.1 = .ok q.2)) = true := by decide +kernel
theorem dX10_soonestBy_0 : decode cX10_soonestBy 0 = .ok (.iconst 0, 1) := dget daX10_soonestBy_0 0 (q := (0, .iconst 0, 1)) rfl
theorem dX10_soonestBy_1 : decode cX10_soonestBy 1 = .ok (.istore 5, 2) := dget daX10_soonestBy_0 1 (q := (1, .istore 5, 2)) rfl
theorem dX10_soonestBy_3 : decode cX10_soonestBy 3 = .ok (.iload 5, 2) := dget daX10_soonestBy_0 2 (q := (3, .iload 5, 2)) rfl
theorem dX10_soonestBy_5 : decode cX10_soonestBy 5 = .ok (.aload_n 0, 1) := dget daX10_soonestBy_0 3 (q := (5, .aload_n 0, 1)) rfl
theorem dX10_soonestBy_6 : decode cX10_soonestBy 6 = .ok (.getfield 28, 3) := dget daX10_soonestBy_0 4 (q := (6, .getfield 28, 3)) rfl
theorem dX10_soonestBy_9 : decode cX10_soonestBy 9 = .ok (.if_icmp .ge 17, 3) := dget daX10_soonestBy_0 5 (q := (9, .if_icmp .ge 17, 3)) rfl
theorem dX10_soonestBy_12 : decode cX10_soonestBy 12 = .ok (.aload_n 0, 1) := dget daX10_soonestBy_0 6 (q := (12, .aload_n 0, 1)) rfl
theorem dX10_soonestBy_13 : decode cX10_soonestBy 13 = .ok (.getfield 21, 3) := dget daX10_soonestBy_0 7 (q := (13, .getfield 21, 3)) rfl
theorem dX10_soonestBy_16 : decode cX10_soonestBy 16 = .ok (.iload 5, 2) := dget daX10_soonestBy_0 8 (q := (16, .iload 5, 2)) rfl
theorem dX10_soonestBy_18 : decode cX10_soonestBy 18 = .ok (.iconst 0, 1) := dget daX10_soonestBy_0 9 (q := (18, .iconst 0, 1)) rfl
theorem dX10_soonestBy_19 : decode cX10_soonestBy 19 = .ok (.bastore, 1) := dget daX10_soonestBy_0 10 (q := (19, .bastore, 1)) rfl
theorem dX10_soonestBy_20 : decode cX10_soonestBy 20 = .ok (.iinc 5 1, 3) := dget daX10_soonestBy_0 11 (q := (20, .iinc 5 1, 3)) rfl
theorem dX10_soonestBy_23 : decode cX10_soonestBy 23 = .ok (.goto (-20), 3) := dget daX10_soonestBy_0 12 (q := (23, .goto (-20), 3)) rfl
theorem dX10_soonestBy_26 : decode cX10_soonestBy 26 = .ok (.aload_n 0, 1) := dget daX10_soonestBy_0 13 (q := (26, .aload_n 0, 1)) rfl
theorem dX10_soonestBy_27 : decode cX10_soonestBy 27 = .ok (.iconst 0, 1) := dget daX10_soonestBy_0 14 (q := (27, .iconst 0, 1)) rfl
theorem dX10_soonestBy_28 : decode cX10_soonestBy 28 = .ok (.aload_n 1, 1) := dget daX10_soonestBy_0 15 (q := (28, .aload_n 1, 1)) rfl
theorem dX10_soonestBy_29 : decode cX10_soonestBy 29 = .ok (.iload_n 2, 1) := dget daX10_soonestBy_0 16 (q := (29, .iload_n 2, 1)) rfl
theorem dX10_soonestBy_30 : decode cX10_soonestBy 30 = .ok (.invokevirtual 94, 3) := dget daX10_soonestBy_0 17 (q := (30, .invokevirtual 94, 3)) rfl
theorem dX10_soonestBy_33 : decode cX10_soonestBy 33 = .ok (.istore 5, 2) := dget daX10_soonestBy_0 18 (q := (33, .istore 5, 2)) rfl
theorem dX10_soonestBy_35 : decode cX10_soonestBy 35 = .ok (.bipush (-9), 2) := dget daX10_soonestBy_0 19 (q := (35, .bipush (-9), 2)) rfl
theorem dX10_soonestBy_37 : decode cX10_soonestBy 37 = .ok (.istore 6, 2) := dget daX10_soonestBy_0 20 (q := (37, .istore 6, 2)) rfl
theorem dX10_soonestBy_39 : decode cX10_soonestBy 39 = .ok (.iconst 0, 1) := dget daX10_soonestBy_0 21 (q := (39, .iconst 0, 1)) rfl
theorem dX10_soonestBy_40 : decode cX10_soonestBy 40 = .ok (.istore 7, 2) := dget daX10_soonestBy_0 22 (q := (40, .istore 7, 2)) rfl
theorem dX10_soonestBy_42 : decode cX10_soonestBy 42 = .ok (.iload 7, 2) := dget daX10_soonestBy_0 23 (q := (42, .iload 7, 2)) rfl
theorem dX10_soonestBy_44 : decode cX10_soonestBy 44 = .ok (.iload 5, 2) := dget daX10_soonestBy_0 24 (q := (44, .iload 5, 2)) rfl
theorem dX10_soonestBy_46 : decode cX10_soonestBy 46 = .ok (.if_icmp .ge 79, 3) := dget daX10_soonestBy_0 25 (q := (46, .if_icmp .ge 79, 3)) rfl
theorem dX10_soonestBy_49 : decode cX10_soonestBy 49 = .ok (.iload 7, 2) := dget daX10_soonestBy_0 26 (q := (49, .iload 7, 2)) rfl
theorem dX10_soonestBy_51 : decode cX10_soonestBy 51 = .ok (.bipush 40, 2) := dget daX10_soonestBy_0 27 (q := (51, .bipush 40, 2)) rfl
theorem dX10_soonestBy_53 : decode cX10_soonestBy 53 = .ok (.if_icmp .ge 72, 3) := dget daX10_soonestBy_0 28 (q := (53, .if_icmp .ge 72, 3)) rfl
theorem dX10_soonestBy_56 : decode cX10_soonestBy 56 = .ok (.aload_n 0, 1) := dget daX10_soonestBy_0 29 (q := (56, .aload_n 0, 1)) rfl
theorem dX10_soonestBy_57 : decode cX10_soonestBy 57 = .ok (.getfield 25, 3) := dget daX10_soonestBy_0 30 (q := (57, .getfield 25, 3)) rfl
theorem dX10_soonestBy_60 : decode cX10_soonestBy 60 = .ok (.iload 7, 2) := dget daX10_soonestBy_0 31 (q := (60, .iload 7, 2)) rfl
theorem dX10_soonestBy_62 : decode cX10_soonestBy 62 = .ok (.aaload, 1) := dget daX10_soonestBy_0 32 (q := (62, .aaload, 1)) rfl
theorem dX10_soonestBy_63 : decode cX10_soonestBy 63 = .ok (.astore 8, 2) := dget daX10_soonestBy_0 33 (q := (63, .astore 8, 2)) rfl
theorem dX10_soonestBy_65 : decode cX10_soonestBy 65 = .ok (.aload 8, 2) := dget daX10_soonestBy_0 34 (q := (65, .aload 8, 2)) rfl
theorem dX10_soonestBy_67 : decode cX10_soonestBy 67 = .ok (.getfield 52, 3) := dget daX10_soonestBy_0 35 (q := (67, .getfield 52, 3)) rfl
theorem dX10_soonestBy_70 : decode cX10_soonestBy 70 = .ok (.aload_n 3, 1) := dget daX10_soonestBy_0 36 (q := (70, .aload_n 3, 1)) rfl
theorem dX10_soonestBy_71 : decode cX10_soonestBy 71 = .ok (.if_acmp .ne 27, 3) := dget daX10_soonestBy_0 37 (q := (71, .if_acmp .ne 27, 3)) rfl
theorem dX10_soonestBy_74 : decode cX10_soonestBy 74 = .ok (.iload 6, 2) := dget daX10_soonestBy_0 38 (q := (74, .iload 6, 2)) rfl
theorem dX10_soonestBy_76 : decode cX10_soonestBy 76 = .ok (.bipush (-9), 2) := dget daX10_soonestBy_0 39 (q := (76, .bipush (-9), 2)) rfl
