theorem dX12_blameOf_126 : decode cX12_blameOf 126 = .ok (.iinc 5 1, 3) := by decide +kernel
theorem dX12_blameOf_129 : decode cX12_blameOf 129 = .ok (.goto (-36), 3) := by decide +kernel
theorem dX12_blameOf_132 : decode cX12_blameOf 132 = .ok (.iload 4, 2) := by decide +kernel
theorem dX12_blameOf_134 : decode cX12_blameOf 134 = .ok (.ireturn, 1) := by decide +kernel
theorem dX12_blame_0 : decode cX12_blame 0 = .ok (.aload_n 0, 1) := by decide +kernel
theorem dX12_blame_1 : decode cX12_blame 1 = .ok (.iload_n 1, 1) := by decide +kernel
theorem dX12_blame_2 : decode cX12_blame 2 = .ok (.invokevirtual 226, 3) := by decide +kernel
theorem dX12_blame_5 : decode cX12_blame 5 = .ok (.ifCond .eq 11, 3) := by decide +kernel
theorem dX12_blame_8 : decode cX12_blame 8 = .ok (.aload_n 0, 1) := by decide +kernel
theorem dX12_blame_9 : decode cX12_blame 9 = .ok (.iload_n 1, 1) := by decide +kernel
theorem dX12_blame_10 : decode cX12_blame 10 = .ok (.invokevirtual 241, 3) := by decide +kernel
theorem dX12_blame_13 : decode cX12_blame 13 = .ok (.goto 8, 3) := by decide +kernel
theorem dX12_blame_16 : decode cX12_blame 16 = .ok (.aload_n 0, 1) := by decide +kernel
theorem dX12_blame_17 : decode cX12_blame 17 = .ok (.iconst (-1), 1) := by decide +kernel
theorem dX12_blame_18 : decode cX12_blame 18 = .ok (.invokevirtual 164, 3) := by decide +kernel
theorem dX12_blame_21 : decode cX12_blame 21 = .ok (.ireturn, 1) := by decide +kernel
theorem dX12_isLand_0 : decode cX12_isLand 0 = .ok (.iload_n 0, 1) := by decide +kernel
theorem dX12_isLand_1 : decode cX12_isLand 1 = .ok (.iconst 0, 1) := by decide +kernel
theorem dX12_isLand_2 : decode cX12_isLand 2 = .ok (.iconst 3, 1) := by decide +kernel
theorem dX12_isLand_3 : decode cX12_isLand 3 = .ok (.invokestatic 156, 3) := by decide +kernel
theorem dX12_isLand_6 : decode cX12_isLand 6 = .ok (.ireturn, 1) := by decide +kernel
theorem dX12_law_0 : decode cX12_law 0 = .ok (.iload_n 1, 1) := by decide +kernel
theorem dX12_law_1 : decode cX12_law 1 = .ok (.invokestatic 244, 3) := by decide +kernel
theorem dX12_law_4 : decode cX12_law 4 = .ok (.ifCond .ne 9, 3) := by decide +kernel
theorem dX12_law_7 : decode cX12_law 7 = .ok (.aload_n 0, 1) := by decide +kernel
theorem dX12_law_8 : decode cX12_law 8 = .ok (.iconst (-1), 1) := by decide +kernel
theorem dX12_law_9 : decode cX12_law 9 = .ok (.invokevirtual 164, 3) := by decide +kernel
theorem dX12_law_12 : decode cX12_law 12 = .ok (.ireturn, 1) := by decide +kernel
theorem dX12_law_13 : decode cX12_law 13 = .ok (.iload_n 2, 1) := by decide +kernel
theorem dX12_law_14 : decode cX12_law 14 = .ok (.aload_n 0, 1) := by decide +kernel
theorem dX12_law_15 : decode cX12_law 15 = .ok (.getfield 168, 3) := by decide +kernel
theorem dX12_law_18 : decode cX12_law 18 = .ok (.if_icmp .lt 17, 3) := by decide +kernel
theorem dX12_law_21 : decode cX12_law 21 = .ok (.iload_n 3, 1) := by decide +kernel
theorem dX12_law_22 : decode cX12_law 22 = .ok (.ifCond .lt 13, 3) := by decide +kernel
theorem dX12_law_25 : decode cX12_law 25 = .ok (.iload 4, 2) := by decide +kernel
theorem dX12_law_27 : decode cX12_law 27 = .ok (.ifCond .lt 8, 3) := by decide +kernel
theorem dX12_law_30 : decode cX12_law 30 = .ok (.iload 5, 2) := by decide +kernel
theorem dX12_law_32 : decode cX12_law 32 = .ok (.ifCond .ge 10, 3) := by decide +kernel
theorem dX12_law_35 : decode cX12_law 35 = .ok (.aload_n 0, 1) := by decide +kernel
theorem dX12_law_36 : decode cX12_law 36 = .ok (.bipush (-4), 2) := by decide +kernel
theorem dX12_law_38 : decode cX12_law 38 = .ok (.invokevirtual 164, 3) := by decide +kernel
theorem dX12_law_41 : decode cX12_law 41 = .ok (.ireturn, 1) := by decide +kernel
theorem dX12_law_42 : decode cX12_law 42 = .ok (.iload_n 2, 1) := by decide +kernel
theorem dX12_law_43 : decode cX12_law 43 = .ok (.sipush 4000, 3) := by decide +kernel
theorem dX12_law_46 : decode cX12_law 46 = .ok (.if_icmp .gt 35, 3) := by decide +kernel
theorem dX12_law_49 : decode cX12_law 49 = .ok (.iload_n 3, 1) := by decide +kernel
theorem dX12_law_50 : decode cX12_law 50 = .ok (.sipush 9999, 3) := by decide +kernel
theorem dX12_law_53 : decode cX12_law 53 = .ok (.if_icmp .gt 28, 3) := by decide +kernel
theorem dX12_law_56 : decode cX12_law 56 = .ok (.iload 4, 2) := by decide +kernel
theorem dX12_law_58 : decode cX12_law 58 = .ok (.sipush 9999, 3) := by decide +kernel
theorem dX12_law_61 : decode cX12_law 61 = .ok (.if_icmp .gt 20, 3) := by decide +kernel
theorem dX12_law_64 : decode cX12_law 64 = .ok (.iload 5, 2) := by decide +kernel
theorem dX12_law_66 : decode cX12_law 66 = .ok (.sipush 9999, 3) := by decide +kernel
theorem dX12_law_69 : decode cX12_law 69 = .ok (.if_icmp .gt 12, 3) := by decide +kernel
theorem dX12_law_72 : decode cX12_law 72 = .ok (.aload_n 0, 1) := by decide +kernel
theorem dX12_law_73 : decode cX12_law 73 = .ok (.getfield 247, 3) := by decide +kernel
theorem dX12_law_76 : decode cX12_law 76 = .ok (.bipush 30, 2) := by decide +kernel
theorem dX12_law_78 : decode cX12_law 78 = .ok (.if_icmp .ne 10, 3) := by decide +kernel
theorem dX12_law_81 : decode cX12_law 81 = .ok (.aload_n 0, 1) := by decide +kernel
theorem dX12_law_82 : decode cX12_law 82 = .ok (.bipush (-6), 2) := by decide +kernel
theorem dX12_law_84 : decode cX12_law 84 = .ok (.invokevirtual 164, 3) := by decide +kernel
theorem dX12_law_87 : decode cX12_law 87 = .ok (.ireturn, 1) := by decide +kernel
theorem dX12_law_88 : decode cX12_law 88 = .ok (.aload_n 0, 1) := by decide +kernel
theorem dX12_law_89 : decode cX12_law 89 = .ok (.getfield 71, 3) := by decide +kernel
theorem dX12_law_92 : decode cX12_law 92 = .ok (.aload_n 0, 1) := by decide +kernel
theorem dX12_law_93 : decode cX12_law 93 = .ok (.getfield 247, 3) := by decide +kernel
theorem dX12_law_96 : decode cX12_law 96 = .ok (.iload_n 1, 1) := by decide +kernel
theorem dX12_law_97 : decode cX12_law 97 = .ok (.iastore, 1) := by decide +kernel
theorem dX12_law_98 : decode cX12_law 98 = .ok (.aload_n 0, 1) := by decide +kernel
theorem dX12_law_99 : decode cX12_law 99 = .ok (.getfield 74, 3) := by decide +kernel
theorem dX12_law_102 : decode cX12_law 102 = .ok (.aload_n 0, 1) := by decide +kernel
theorem dX12_law_103 : decode cX12_law 103 = .ok (.getfield 247, 3) := by decide +kernel
theorem dX12_law_106 : decode cX12_law 106 = .ok (.iload_n 2, 1) := by decide +kernel
theorem dX12_law_107 : decode cX12_law 107 = .ok (.iastore, 1) := by decide +kernel
theorem dX12_law_108 : decode cX12_law 108 = .ok (.aload_n 0, 1) := by decide +kernel
theorem dX12_law_109 : decode cX12_law 109 = .ok (.getfield 77, 3) := by decide +kernel
theorem dX12_law_112 : decode cX12_law 112 = .ok (.aload_n 0, 1) := by decide +kernel
theorem dX12_law_113 : decode cX12_law 113 = .ok (.getfield 247, 3) := by decide +kernel
theorem dX12_law_116 : decode cX12_law 116 = .ok (.iload_n 3, 1) := by decide +kernel
theorem dX12_law_117 : decode cX12_law 117 = .ok (.iastore, 1) := by decide +kernel
theorem dX12_law_118 : decode cX12_law 118 = .ok (.aload_n 0, 1) := by decide +kernel
theorem dX12_law_119 : decode cX12_law 119 = .ok (.getfield 80, 3) := by decide +kernel
theorem dX12_law_122 : decode cX12_law 122 = .ok (.aload_n 0, 1) := by decide +kernel
theorem dX12_law_123 : decode cX12_law 123 = .ok (.getfield 247, 3) := by decide +kernel
theorem dX12_law_126 : decode cX12_law 126 = .ok (.iload 4, 2) := by decide +kernel
theorem dX12_law_128 : decode cX12_law 128 = .ok (.iastore, 1) := by decide +kernel
theorem dX12_law_129 : decode cX12_law 129 = .ok (.aload_n 0, 1) := by decide +kernel
theorem dX12_law_130 : decode cX12_law 130 = .ok (.getfield 83, 3) := by decide +kernel
theorem dX12_law_133 : decode cX12_law 133 = .ok (.aload_n 0, 1) := by decide +kernel
theorem dX12_law_134 : decode cX12_law 134 = .ok (.getfield 247, 3) := by decide +kernel
theorem dX12_law_137 : decode cX12_law 137 = .ok (.iload 5, 2) := by decide +kernel
theorem dX12_law_139 : decode cX12_law 139 = .ok (.iastore, 1) := by decide +kernel
theorem dX12_law_140 : decode cX12_law 140 = .ok (.aload_n 0, 1) := by decide +kernel
theorem dX12_law_141 : decode cX12_law 141 = .ok (.dup, 1) := by decide +kernel
theorem dX12_law_142 : decode cX12_law 142 = .ok (.getfield 247, 3) := by decide +kernel
theorem dX12_law_145 : decode cX12_law 145 = .ok (.iconst 1, 1) := by decide +kernel
theorem dX12_law_146 : decode cX12_law 146 = .ok (.iadd, 1) := by decide +kernel
theorem dX12_law_147 : decode cX12_law 147 = .ok (.putfield 247, 3) := by decide +kernel
theorem dX12_law_150 : decode cX12_law 150 = .ok (.aload_n 0, 1) := by decide +kernel
theorem dX12_law_151 : decode cX12_law 151 = .ok (.getfield 247, 3) := by decide +kernel
theorem dX12_law_154 : decode cX12_law 154 = .ok (.iconst 1, 1) := by decide +kernel
theorem dX12_law_155 : decode cX12_law 155 = .ok (.isub, 1) := by decide +kernel
theorem dX12_law_156 : decode cX12_law 156 = .ok (.ireturn, 1) := by decide +kernel
theorem dX12_excuse_0 : decode cX12_excuse 0 = .ok (.iload_n 1, 1) := by decide +kernel
theorem dX12_excuse_1 : decode cX12_excuse 1 = .ok (.invokestatic 244, 3) := by decide +kernel
theorem dX12_excuse_4 : decode cX12_excuse 4 = .ok (.ifCond .eq 10, 3) := by decide +kernel
theorem dX12_excuse_7 : decode cX12_excuse 7 = .ok (.iload_n 2, 1) := by decide +kernel
theorem dX12_excuse_8 : decode cX12_excuse 8 = .ok (.invokestatic 184, 3) := by decide +kernel
theorem dX12_excuse_11 : decode cX12_excuse 11 = .ok (.ifCond .ne 9, 3) := by decide +kernel
theorem dX12_excuse_14 : decode cX12_excuse 14 = .ok (.aload_n 0, 1) := by decide +kernel
theorem dX12_excuse_15 : decode cX12_excuse 15 = .ok (.iconst (-1), 1) := by decide +kernel
theorem dX12_excuse_16 : decode cX12_excuse 16 = .ok (.invokevirtual 164, 3) := by decide +kernel
theorem dX12_excuse_19 : decode cX12_excuse 19 = .ok (.ireturn, 1) := by decide +kernel
theorem dX12_excuse_20 : decode cX12_excuse 20 = .ok (.iload_n 3, 1) := by decide +kernel
theorem dX12_excuse_21 : decode cX12_excuse 21 = .ok (.ifCond .ge 10, 3) := by decide +kernel
theorem dX12_excuse_24 : decode cX12_excuse 24 = .ok (.aload_n 0, 1) := by decide +kernel
theorem dX12_excuse_25 : decode cX12_excuse 25 = .ok (.bipush (-4), 2) := by decide +kernel
theorem dX12_excuse_27 : decode cX12_excuse 27 = .ok (.invokevirtual 164, 3) := by decide +kernel
theorem dX12_excuse_30 : decode cX12_excuse 30 = .ok (.ireturn, 1) := by decide +kernel
theorem dX12_excuse_31 : decode cX12_excuse 31 = .ok (.iload_n 3, 1) := by decide +kernel
theorem dX12_excuse_32 : decode cX12_excuse 32 = .ok (.sipush 4000, 3) := by decide +kernel
theorem dX12_excuse_35 : decode cX12_excuse 35 = .ok (.if_icmp .gt 12, 3) := by decide +kernel
theorem dX12_excuse_38 : decode cX12_excuse 38 = .ok (.aload_n 0, 1) := by decide +kernel
theorem dX12_excuse_39 : decode cX12_excuse 39 = .ok (.getfield 250, 3) := by decide +kernel
theorem dX12_excuse_42 : decode cX12_excuse 42 = .ok (.bipush 40, 2) := by decide +kernel
theorem dX12_excuse_44 : decode cX12_excuse 44 = .ok (.if_icmp .ne 10, 3) := by decide +kernel
theorem dX12_excuse_47 : decode cX12_excuse 47 = .ok (.aload_n 0, 1) := by decide +kernel
theorem dX12_excuse_48 : decode cX12_excuse 48 = .ok (.bipush (-6), 2) := by decide +kernel
theorem dX12_excuse_50 : decode cX12_excuse 50 = .ok (.invokevirtual 164, 3) := by decide +kernel
theorem dX12_excuse_53 : decode cX12_excuse 53 = .ok (.ireturn, 1) := by decide +kernel
theorem dX12_excuse_54 : decode cX12_excuse 54 = .ok (.aload_n 0, 1) := by decide +kernel
theorem dX12_excuse_55 : decode cX12_excuse 55 = .ok (.getfield 86, 3) := by decide +kernel
theorem dX12_excuse_58 : decode cX12_excuse 58 = .ok (.aload_n 0, 1) := by decide +kernel
theorem dX12_excuse_59 : decode cX12_excuse 59 = .ok (.getfield 250, 3) := by decide +kernel
theorem dX12_excuse_62 : decode cX12_excuse 62 = .ok (.iload_n 1, 1) := by decide +kernel
theorem dX12_excuse_63 : decode cX12_excuse 63 = .ok (.iastore, 1) := by decide +kernel
theorem dX12_excuse_64 : decode cX12_excuse 64 = .ok (.aload_n 0, 1) := by decide +kernel
theorem dX12_excuse_65 : decode cX12_excuse 65 = .ok (.getfield 89, 3) := by decide +kernel
theorem dX12_excuse_68 : decode cX12_excuse 68 = .ok (.aload_n 0, 1) := by decide +kernel
theorem dX12_excuse_69 : decode cX12_excuse 69 = .ok (.getfield 250, 3) := by decide +kernel
theorem dX12_excuse_72 : decode cX12_excuse 72 = .ok (.iload_n 2, 1) := by decide +kernel
theorem dX12_excuse_73 : decode cX12_excuse 73 = .ok (.iastore, 1) := by decide +kernel
theorem dX12_excuse_74 : decode cX12_excuse 74 = .ok (.aload_n 0, 1) := by decide +kernel
theorem dX12_excuse_75 : decode cX12_excuse 75 = .ok (.getfield 92, 3) := by decide +kernel
theorem dX12_excuse_78 : decode cX12_excuse 78 = .ok (.aload_n 0, 1) := by decide +kernel
theorem dX12_excuse_79 : decode cX12_excuse 79 = .ok (.getfield 250, 3) := by decide +kernel
theorem dX12_excuse_82 : decode cX12_excuse 82 = .ok (.iload_n 3, 1) := by decide +kernel
theorem dX12_excuse_83 : decode cX12_excuse 83 = .ok (.iastore, 1) := by decide +kernel
theorem dX12_excuse_84 : decode cX12_excuse 84 = .ok (.aload_n 0, 1) := by decide +kernel
theorem dX12_excuse_85 : decode cX12_excuse 85 = .ok (.getfield 95, 3) := by decide +kernel
theorem dX12_excuse_88 : decode cX12_excuse 88 = .ok (.aload_n 0, 1) := by decide +kernel
theorem dX12_excuse_89 : decode cX12_excuse 89 = .ok (.getfield 250, 3) := by decide +kernel
theorem dX12_excuse_92 : decode cX12_excuse 92 = .ok (.aload_n 0, 1) := by decide +kernel
theorem dX12_excuse_93 : decode cX12_excuse 93 = .ok (.getfield 168, 3) := by decide +kernel
theorem dX12_excuse_96 : decode cX12_excuse 96 = .ok (.iastore, 1) := by decide +kernel
theorem dX12_excuse_97 : decode cX12_excuse 97 = .ok (.aload_n 0, 1) := by decide +kernel
theorem dX12_excuse_98 : decode cX12_excuse 98 = .ok (.getfield 98, 3) := by decide +kernel
theorem dX12_excuse_101 : decode cX12_excuse 101 = .ok (.aload_n 0, 1) := by decide +kernel
theorem dX12_excuse_102 : decode cX12_excuse 102 = .ok (.getfield 250, 3) := by decide +kernel
theorem dX12_excuse_105 : decode cX12_excuse 105 = .ok (.iload 4, 2) := by decide +kernel
theorem dX12_excuse_107 : decode cX12_excuse 107 = .ok (.bastore, 1) := by decide +kernel
theorem dX12_excuse_108 : decode cX12_excuse 108 = .ok (.aload_n 0, 1) := by decide +kernel
theorem dX12_excuse_109 : decode cX12_excuse 109 = .ok (.dup, 1) := by decide +kernel
theorem dX12_excuse_110 : decode cX12_excuse 110 = .ok (.getfield 250, 3) := by decide +kernel
theorem dX12_excuse_113 : decode cX12_excuse 113 = .ok (.iconst 1, 1) := by decide +kernel
theorem dX12_excuse_114 : decode cX12_excuse 114 = .ok (.iadd, 1) := by decide +kernel
theorem dX12_excuse_115 : decode cX12_excuse 115 = .ok (.putfield 250, 3) := by decide +kernel
theorem dX12_excuse_118 : decode cX12_excuse 118 = .ok (.aload_n 0, 1) := by decide +kernel
theorem dX12_excuse_119 : decode cX12_excuse 119 = .ok (.getfield 250, 3) := by decide +kernel
theorem dX12_excuse_122 : decode cX12_excuse 122 = .ok (.ireturn, 1) := by decide +kernel
theorem dX12_hasLaw_0 : decode cX12_hasLaw 0 = .ok (.iconst 0, 1) := by decide +kernel
theorem dX12_hasLaw_1 : decode cX12_hasLaw 1 = .ok (.istore_n 3, 1) := by decide +kernel
theorem dX12_hasLaw_2 : decode cX12_hasLaw 2 = .ok (.iconst 0, 1) := by decide +kernel
theorem dX12_hasLaw_3 : decode cX12_hasLaw 3 = .ok (.istore 4, 2) := by decide +kernel
theorem dX12_hasLaw_5 : decode cX12_hasLaw 5 = .ok (.iload 4, 2) := by decide +kernel
theorem dX12_hasLaw_7 : decode cX12_hasLaw 7 = .ok (.aload_n 0, 1) := by decide +kernel
theorem dX12_hasLaw_8 : decode cX12_hasLaw 8 = .ok (.getfield 247, 3) := by decide +kernel
theorem dX12_hasLaw_11 : decode cX12_hasLaw 11 = .ok (.if_icmp .ge 41, 3) := by decide +kernel
theorem dX12_hasLaw_14 : decode cX12_hasLaw 14 = .ok (.iload_n 3, 1) := by decide +kernel
theorem dX12_hasLaw_15 : decode cX12_hasLaw 15 = .ok (.ifCond .ne 25, 3) := by decide +kernel
theorem dX12_hasLaw_18 : decode cX12_hasLaw 18 = .ok (.aload_n 0, 1) := by decide +kernel
theorem dX12_hasLaw_19 : decode cX12_hasLaw 19 = .ok (.getfield 71, 3) := by decide +kernel
theorem dX12_hasLaw_22 : decode cX12_hasLaw 22 = .ok (.iload 4, 2) := by decide +kernel
theorem dX12_hasLaw_24 : decode cX12_hasLaw 24 = .ok (.iaload, 1) := by decide +kernel
theorem dX12_hasLaw_25 : decode cX12_hasLaw 25 = .ok (.iload_n 1, 1) := by decide +kernel
theorem dX12_hasLaw_26 : decode cX12_hasLaw 26 = .ok (.if_icmp .ne 18, 3) := by decide +kernel
theorem dX12_hasLaw_29 : decode cX12_hasLaw 29 = .ok (.aload_n 0, 1) := by decide +kernel
theorem dX12_hasLaw_30 : decode cX12_hasLaw 30 = .ok (.getfield 74, 3) := by decide +kernel
theorem dX12_hasLaw_33 : decode cX12_hasLaw 33 = .ok (.iload 4, 2) := by decide +kernel
theorem dX12_hasLaw_35 : decode cX12_hasLaw 35 = .ok (.iaload, 1) := by decide +kernel
theorem dX12_hasLaw_36 : decode cX12_hasLaw 36 = .ok (.iload_n 2, 1) := by decide +kernel
theorem dX12_hasLaw_37 : decode cX12_hasLaw 37 = .ok (.if_icmp .gt 7, 3) := by decide +kernel
theorem dX12_hasLaw_40 : decode cX12_hasLaw 40 = .ok (.iconst 1, 1) := by decide +kernel
theorem dX12_hasLaw_41 : decode cX12_hasLaw 41 = .ok (.goto 4, 3) := by decide +kernel
theorem dX12_hasLaw_44 : decode cX12_hasLaw 44 = .ok (.iconst 0, 1) := by decide +kernel
theorem dX12_hasLaw_45 : decode cX12_hasLaw 45 = .ok (.istore_n 3, 1) := by decide +kernel
theorem dX12_hasLaw_46 : decode cX12_hasLaw 46 = .ok (.iinc 4 1, 3) := by decide +kernel
theorem dX12_hasLaw_49 : decode cX12_hasLaw 49 = .ok (.goto (-44), 3) := by decide +kernel
theorem dX12_hasLaw_52 : decode cX12_hasLaw 52 = .ok (.iload_n 3, 1) := by decide +kernel
theorem dX12_hasLaw_53 : decode cX12_hasLaw 53 = .ok (.ireturn, 1) := by decide +kernel
theorem dX12_lawOf_0 : decode cX12_lawOf 0 = .ok (.aload_n 0, 1) := by decide +kernel
theorem dX12_lawOf_1 : decode cX12_lawOf 1 = .ok (.getfield 7, 3) := by decide +kernel
theorem dX12_lawOf_4 : decode cX12_lawOf 4 = .ok (.aload_n 0, 1) := by decide +kernel
theorem dX12_lawOf_5 : decode cX12_lawOf 5 = .ok (.getfield 22, 3) := by decide +kernel
theorem dX12_lawOf_8 : decode cX12_lawOf 8 = .ok (.aload_n 0, 1) := by decide +kernel
theorem dX12_lawOf_9 : decode cX12_lawOf 9 = .ok (.iload_n 1, 1) := by decide +kernel
theorem dX12_lawOf_10 : decode cX12_lawOf 10 = .ok (.invokevirtual 253, 3) := by decide +kernel
theorem dX12_lawOf_13 : decode cX12_lawOf 13 = .ok (.iaload, 1) := by decide +kernel
theorem dX12_lawOf_14 : decode cX12_lawOf 14 = .ok (.iaload, 1) := by decide +kernel
theorem dX12_lawOf_15 : decode cX12_lawOf 15 = .ok (.istore_n 3, 1) := by decide +kernel
theorem dX12_lawOf_16 : decode cX12_lawOf 16 = .ok (.aload_n 0, 1) := by decide +kernel
theorem dX12_lawOf_17 : decode cX12_lawOf 17 = .ok (.getfield 7, 3) := by decide +kernel
theorem dX12_lawOf_20 : decode cX12_lawOf 20 = .ok (.aload_n 0, 1) := by decide +kernel
theorem dX12_lawOf_21 : decode cX12_lawOf 21 = .ok (.getfield 25, 3) := by decide +kernel
theorem dX12_lawOf_24 : decode cX12_lawOf 24 = .ok (.aload_n 0, 1) := by decide +kernel
theorem dX12_lawOf_25 : decode cX12_lawOf 25 = .ok (.iload_n 1, 1) := by decide +kernel
theorem dX12_lawOf_26 : decode cX12_lawOf 26 = .ok (.invokevirtual 232, 3) := by decide +kernel
theorem dX12_lawOf_29 : decode cX12_lawOf 29 = .ok (.iaload, 1) := by decide +kernel
theorem dX12_lawOf_30 : decode cX12_lawOf 30 = .ok (.iaload, 1) := by decide +kernel
theorem dX12_lawOf_31 : decode cX12_lawOf 31 = .ok (.istore 4, 2) := by decide +kernel
theorem dX12_lawOf_33 : decode cX12_lawOf 33 = .ok (.aload_n 0, 1) := by decide +kernel
theorem dX12_lawOf_34 : decode cX12_lawOf 34 = .ok (.iload_n 3, 1) := by decide +kernel
theorem dX12_lawOf_35 : decode cX12_lawOf 35 = .ok (.iload_n 2, 1) := by decide +kernel
theorem dX12_lawOf_36 : decode cX12_lawOf 36 = .ok (.invokevirtual 256, 3) := by decide +kernel
theorem dX12_lawOf_39 : decode cX12_lawOf 39 = .ok (.ifCond .eq 7, 3) := by decide +kernel
theorem dX12_lawOf_42 : decode cX12_lawOf 42 = .ok (.iload_n 3, 1) := by decide +kernel
theorem dX12_lawOf_43 : decode cX12_lawOf 43 = .ok (.goto 20, 3) := by decide +kernel
theorem dX12_lawOf_46 : decode cX12_lawOf 46 = .ok (.aload_n 0, 1) := by decide +kernel
theorem dX12_lawOf_47 : decode cX12_lawOf 47 = .ok (.iload 4, 2) := by decide +kernel
theorem dX12_lawOf_49 : decode cX12_lawOf 49 = .ok (.iload_n 2, 1) := by decide +kernel
theorem dX12_lawOf_50 : decode cX12_lawOf 50 = .ok (.invokevirtual 256, 3) := by decide +kernel
theorem dX12_lawOf_53 : decode cX12_lawOf 53 = .ok (.ifCond .eq 8, 3) := by decide +kernel
theorem dX12_lawOf_56 : decode cX12_lawOf 56 = .ok (.iload 4, 2) := by decide +kernel
theorem dX12_lawOf_58 : decode cX12_lawOf 58 = .ok (.goto 5, 3) := by decide +kernel
theorem dX12_lawOf_61 : decode cX12_lawOf 61 = .ok (.bipush (-9), 2) := by decide +kernel
theorem dX12_lawOf_63 : decode cX12_lawOf 63 = .ok (.ireturn, 1) := by decide +kernel
theorem dX12_milesOf_0 : decode cX12_milesOf 0 = .ok (.aload_n 0, 1) := by decide +kernel
theorem dX12_milesOf_1 : decode cX12_milesOf 1 = .ok (.getfield 13, 3) := by decide +kernel
theorem dX12_milesOf_4 : decode cX12_milesOf 4 = .ok (.bipush 10, 2) := by decide +kernel
theorem dX12_milesOf_6 : decode cX12_milesOf 6 = .ok (.aload_n 0, 1) := by decide +kernel
theorem dX12_milesOf_7 : decode cX12_milesOf 7 = .ok (.getfield 22, 3) := by decide +kernel
theorem dX12_milesOf_10 : decode cX12_milesOf 10 = .ok (.aload_n 0, 1) := by decide +kernel
theorem dX12_milesOf_11 : decode cX12_milesOf 11 = .ok (.iload_n 1, 1) := by decide +kernel
theorem dX12_milesOf_12 : decode cX12_milesOf 12 = .ok (.invokevirtual 253, 3) := by decide +kernel
theorem dX12_milesOf_15 : decode cX12_milesOf 15 = .ok (.iaload, 1) := by decide +kernel
theorem dX12_milesOf_16 : decode cX12_milesOf 16 = .ok (.imul, 1) := by decide +kernel
theorem dX12_milesOf_17 : decode cX12_milesOf 17 = .ok (.aload_n 0, 1) := by decide +kernel
theorem dX12_milesOf_18 : decode cX12_milesOf 18 = .ok (.getfield 25, 3) := by decide +kernel
theorem dX12_milesOf_21 : decode cX12_milesOf 21 = .ok (.aload_n 0, 1) := by decide +kernel
theorem dX12_milesOf_22 : decode cX12_milesOf 22 = .ok (.iload_n 1, 1) := by decide +kernel
theorem dX12_milesOf_23 : decode cX12_milesOf 23 = .ok (.invokevirtual 232, 3) := by decide +kernel
theorem dX12_milesOf_26 : decode cX12_milesOf 26 = .ok (.iaload, 1) := by decide +kernel
theorem dX12_milesOf_27 : decode cX12_milesOf 27 = .ok (.iadd, 1) := by decide +kernel
theorem dX12_milesOf_28 : decode cX12_milesOf 28 = .ok (.iaload, 1) := by decide +kernel
theorem dX12_milesOf_29 : decode cX12_milesOf 29 = .ok (.ireturn, 1) := by decide +kernel
theorem dX12_isExcused_0 : decode cX12_isExcused 0 = .ok (.aload_n 0, 1) := by decide +kernel
theorem dX12_isExcused_1 : decode cX12_isExcused 1 = .ok (.iload_n 1, 1) := by decide +kernel
theorem dX12_isExcused_2 : decode cX12_isExcused 2 = .ok (.iload_n 2, 1) := by decide +kernel
theorem dX12_isExcused_3 : decode cX12_isExcused 3 = .ok (.invokevirtual 260, 3) := by decide +kernel
theorem dX12_isExcused_6 : decode cX12_isExcused 6 = .ok (.istore_n 3, 1) := by decide +kernel
theorem dX12_isExcused_7 : decode cX12_isExcused 7 = .ok (.aload_n 0, 1) := by decide +kernel
theorem dX12_isExcused_8 : decode cX12_isExcused 8 = .ok (.iload_n 1, 1) := by decide +kernel
theorem dX12_isExcused_9 : decode cX12_isExcused 9 = .ok (.invokevirtual 241, 3) := by decide +kernel
theorem dX12_isExcused_12 : decode cX12_isExcused 12 = .ok (.istore 4, 2) := by decide +kernel
theorem dX12_isExcused_14 : decode cX12_isExcused 14 = .ok (.aload_n 0, 1) := by decide +kernel
theorem dX12_isExcused_15 : decode cX12_isExcused 15 = .ok (.getfield 34, 3) := by decide +kernel
theorem dX12_isExcused_18 : decode cX12_isExcused 18 = .ok (.aload_n 0, 1) := by decide +kernel
theorem dX12_isExcused_19 : decode cX12_isExcused 19 = .ok (.iload_n 1, 1) := by decide +kernel
theorem dX12_isExcused_20 : decode cX12_isExcused 20 = .ok (.invokevirtual 253, 3) := by decide +kernel
theorem dX12_isExcused_23 : decode cX12_isExcused 23 = .ok (.iaload, 1) := by decide +kernel
theorem dX12_isExcused_24 : decode cX12_isExcused 24 = .ok (.sipush 1440, 3) := by decide +kernel
theorem dX12_isExcused_27 : decode cX12_isExcused 27 = .ok (.idiv, 1) := by decide +kernel
theorem dX12_isExcused_28 : decode cX12_isExcused 28 = .ok (.istore 5, 2) := by decide +kernel
theorem dX12_isExcused_30 : decode cX12_isExcused 30 = .ok (.iconst 0, 1) := by decide +kernel
theorem dX12_isExcused_31 : decode cX12_isExcused 31 = .ok (.istore 6, 2) := by decide +kernel
theorem dX12_isExcused_33 : decode cX12_isExcused 33 = .ok (.iconst 0, 1) := by decide +kernel
theorem dX12_isExcused_34 : decode cX12_isExcused 34 = .ok (.istore 7, 2) := by decide +kernel
theorem dX12_isExcused_36 : decode cX12_isExcused 36 = .ok (.iload 7, 2) := by decide +kernel
theorem dX12_isExcused_38 : decode cX12_isExcused 38 = .ok (.aload_n 0, 1) := by decide +kernel
theorem dX12_isExcused_39 : decode cX12_isExcused 39 = .ok (.getfield 250, 3) := by decide +kernel
theorem dX12_isExcused_42 : decode cX12_isExcused 42 = .ok (.if_icmp .ge 82, 3) := by decide +kernel
theorem dX12_isExcused_45 : decode cX12_isExcused 45 = .ok (.aload_n 0, 1) := by decide +kernel
theorem dX12_isExcused_46 : decode cX12_isExcused 46 = .ok (.getfield 86, 3) := by decide +kernel
theorem dX12_isExcused_49 : decode cX12_isExcused 49 = .ok (.iload 7, 2) := by decide +kernel
theorem dX12_isExcused_51 : decode cX12_isExcused 51 = .ok (.iaload, 1) := by decide +kernel
theorem dX12_isExcused_52 : decode cX12_isExcused 52 = .ok (.iload_n 3, 1) := by decide +kernel
theorem dX12_isExcused_53 : decode cX12_isExcused 53 = .ok (.if_icmp .ne 43, 3) := by decide +kernel
theorem dX12_isExcused_56 : decode cX12_isExcused 56 = .ok (.aload_n 0, 1) := by decide +kernel
theorem dX12_isExcused_57 : decode cX12_isExcused 57 = .ok (.getfield 89, 3) := by decide +kernel
theorem dX12_isExcused_60 : decode cX12_isExcused 60 = .ok (.iload 7, 2) := by decide +kernel
theorem dX12_isExcused_62 : decode cX12_isExcused 62 = .ok (.iaload, 1) := by decide +kernel
theorem dX12_isExcused_63 : decode cX12_isExcused 63 = .ok (.iload 4, 2) := by decide +kernel
theorem dX12_isExcused_65 : decode cX12_isExcused 65 = .ok (.if_icmp .ne 31, 3) := by decide +kernel
theorem dX12_isExcused_68 : decode cX12_isExcused 68 = .ok (.aload_n 0, 1) := by decide +kernel
theorem dX12_isExcused_69 : decode cX12_isExcused 69 = .ok (.getfield 95, 3) := by decide +kernel
theorem dX12_isExcused_72 : decode cX12_isExcused 72 = .ok (.iload 7, 2) := by decide +kernel
theorem dX12_isExcused_74 : decode cX12_isExcused 74 = .ok (.iaload, 1) := by decide +kernel
theorem dX12_isExcused_75 : decode cX12_isExcused 75 = .ok (.iload 5, 2) := by decide +kernel
theorem dX12_isExcused_77 : decode cX12_isExcused 77 = .ok (.if_icmp .gt 19, 3) := by decide +kernel
theorem dX12_isExcused_80 : decode cX12_isExcused 80 = .ok (.aload_n 0, 1) := by decide +kernel
theorem dX12_isExcused_81 : decode cX12_isExcused 81 = .ok (.getfield 92, 3) := by decide +kernel
theorem dX12_isExcused_84 : decode cX12_isExcused 84 = .ok (.iload 7, 2) := by decide +kernel
theorem dX12_isExcused_86 : decode cX12_isExcused 86 = .ok (.iaload, 1) := by decide +kernel
theorem dX12_isExcused_87 : decode cX12_isExcused 87 = .ok (.iload 5, 2) := by decide +kernel
theorem dX12_isExcused_89 : decode cX12_isExcused 89 = .ok (.if_icmp .gt 7, 3) := by decide +kernel
theorem dX12_isExcused_92 : decode cX12_isExcused 92 = .ok (.iconst 1, 1) := by decide +kernel
theorem dX12_isExcused_93 : decode cX12_isExcused 93 = .ok (.goto 4, 3) := by decide +kernel
theorem dX12_isExcused_96 : decode cX12_isExcused 96 = .ok (.iconst 0, 1) := by decide +kernel
theorem dX12_isExcused_97 : decode cX12_isExcused 97 = .ok (.istore 8, 2) := by decide +kernel
theorem dX12_isExcused_99 : decode cX12_isExcused 99 = .ok (.iload 8, 2) := by decide +kernel
theorem dX12_isExcused_101 : decode cX12_isExcused 101 = .ok (.ifCond .eq 13, 3) := by decide +kernel
theorem dX12_isExcused_104 : decode cX12_isExcused 104 = .ok (.aload_n 0, 1) := by decide +kernel
theorem dX12_isExcused_105 : decode cX12_isExcused 105 = .ok (.getfield 98, 3) := by decide +kernel
theorem dX12_isExcused_108 : decode cX12_isExcused 108 = .ok (.iload 7, 2) := by decide +kernel
theorem dX12_isExcused_110 : decode cX12_isExcused 110 = .ok (.baload, 1) := by decide +kernel
theorem dX12_isExcused_111 : decode cX12_isExcused 111 = .ok (.goto 5, 3) := by decide +kernel
theorem dX12_isExcused_114 : decode cX12_isExcused 114 = .ok (.iload 6, 2) := by decide +kernel
theorem dX12_isExcused_116 : decode cX12_isExcused 116 = .ok (.istore 6, 2) := by decide +kernel
theorem dX12_isExcused_118 : decode cX12_isExcused 118 = .ok (.iinc 7 1, 3) := by decide +kernel
theorem dX12_isExcused_121 : decode cX12_isExcused 121 = .ok (.goto (-85), 3) := by decide +kernel
theorem dX12_isExcused_124 : decode cX12_isExcused 124 = .ok (.iload 6, 2) := by decide +kernel
theorem dX12_isExcused_126 : decode cX12_isExcused 126 = .ok (.ireturn, 1) := by decide +kernel
theorem dX12_sumOf_0 : decode cX12_sumOf 0 = .ok (.aload_n 0, 1) := by decide +kernel
theorem dX12_sumOf_1 : decode cX12_sumOf 1 = .ok (.iload_n 1, 1) := by decide +kernel
theorem dX12_sumOf_2 : decode cX12_sumOf 2 = .ok (.iload_n 2, 1) := by decide +kernel
theorem dX12_sumOf_3 : decode cX12_sumOf 3 = .ok (.invokevirtual 260, 3) := by decide +kernel
theorem dX12_sumOf_6 : decode cX12_sumOf 6 = .ok (.istore_n 3, 1) := by decide +kernel
theorem dX12_sumOf_7 : decode cX12_sumOf 7 = .ok (.iload_n 3, 1) := by decide +kernel
theorem dX12_sumOf_8 : decode cX12_sumOf 8 = .ok (.ifCond .lt 12, 3) := by decide +kernel
theorem dX12_sumOf_11 : decode cX12_sumOf 11 = .ok (.aload_n 0, 1) := by decide +kernel
theorem dX12_sumOf_12 : decode cX12_sumOf 12 = .ok (.iload_n 1, 1) := by decide +kernel
theorem dX12_sumOf_13 : decode cX12_sumOf 13 = .ok (.iload_n 2, 1) := by decide +kernel
theorem dX12_sumOf_14 : decode cX12_sumOf 14 = .ok (.invokevirtual 263, 3) := by decide +kernel
theorem dX12_sumOf_17 : decode cX12_sumOf 17 = .ok (.ifCond .eq 5, 3) := by decide +kernel
theorem dX12_sumOf_20 : decode cX12_sumOf 20 = .ok (.iconst 0, 1) := by decide +kernel
theorem dX12_sumOf_21 : decode cX12_sumOf 21 = .ok (.ireturn, 1) := by decide +kernel
theorem dX12_sumOf_22 : decode cX12_sumOf 22 = .ok (.aload_n 0, 1) := by decide +kernel
theorem dX12_sumOf_23 : decode cX12_sumOf 23 = .ok (.iload_n 1, 1) := by decide +kernel
theorem dX12_sumOf_24 : decode cX12_sumOf 24 = .ok (.invokevirtual 238, 3) := by decide +kernel
theorem dX12_sumOf_27 : decode cX12_sumOf 27 = .ok (.istore 4, 2) := by decide +kernel
theorem dX12_sumOf_29 : decode cX12_sumOf 29 = .ok (.iconst 0, 1) := by decide +kernel
theorem dX12_sumOf_30 : decode cX12_sumOf 30 = .ok (.istore 5, 2) := by decide +kernel
theorem dX12_sumOf_32 : decode cX12_sumOf 32 = .ok (.iconst 0, 1) := by decide +kernel
theorem dX12_sumOf_33 : decode cX12_sumOf 33 = .ok (.istore 6, 2) := by decide +kernel
theorem dX12_sumOf_35 : decode cX12_sumOf 35 = .ok (.iload 6, 2) := by decide +kernel
theorem dX12_sumOf_37 : decode cX12_sumOf 37 = .ok (.aload_n 0, 1) := by decide +kernel
theorem dX12_sumOf_38 : decode cX12_sumOf 38 = .ok (.getfield 247, 3) := by decide +kernel
theorem dX12_sumOf_41 : decode cX12_sumOf 41 = .ok (.if_icmp .ge 96, 3) := by decide +kernel
theorem dX12_sumOf_44 : decode cX12_sumOf 44 = .ok (.aload_n 0, 1) := by decide +kernel
theorem dX12_sumOf_45 : decode cX12_sumOf 45 = .ok (.getfield 71, 3) := by decide +kernel
theorem dX12_sumOf_48 : decode cX12_sumOf 48 = .ok (.iload 6, 2) := by decide +kernel
theorem dX12_sumOf_50 : decode cX12_sumOf 50 = .ok (.iaload, 1) := by decide +kernel
theorem dX12_sumOf_51 : decode cX12_sumOf 51 = .ok (.iload_n 3, 1) := by decide +kernel
theorem dX12_sumOf_52 : decode cX12_sumOf 52 = .ok (.if_icmp .ne 45, 3) := by decide +kernel
theorem dX12_sumOf_55 : decode cX12_sumOf 55 = .ok (.aload_n 0, 1) := by decide +kernel
theorem dX12_sumOf_56 : decode cX12_sumOf 56 = .ok (.getfield 74, 3) := by decide +kernel
theorem dX12_sumOf_59 : decode cX12_sumOf 59 = .ok (.iload 6, 2) := by decide +kernel
theorem dX12_sumOf_61 : decode cX12_sumOf 61 = .ok (.iaload, 1) := by decide +kernel
theorem dX12_sumOf_62 : decode cX12_sumOf 62 = .ok (.iload_n 2, 1) := by decide +kernel
theorem dX12_sumOf_63 : decode cX12_sumOf 63 = .ok (.if_icmp .gt 34, 3) := by decide +kernel
theorem dX12_sumOf_66 : decode cX12_sumOf 66 = .ok (.iload 4, 2) := by decide +kernel
theorem dX12_sumOf_68 : decode cX12_sumOf 68 = .ok (.aload_n 0, 1) := by decide +kernel
theorem dX12_sumOf_69 : decode cX12_sumOf 69 = .ok (.getfield 77, 3) := by decide +kernel
theorem dX12_sumOf_72 : decode cX12_sumOf 72 = .ok (.iload 6, 2) := by decide +kernel
theorem dX12_sumOf_74 : decode cX12_sumOf 74 = .ok (.iaload, 1) := by decide +kernel
theorem dX12_sumOf_75 : decode cX12_sumOf 75 = .ok (.if_icmp .lt 22, 3) := by decide +kernel
theorem dX12_sumOf_78 : decode cX12_sumOf 78 = .ok (.aload_n 0, 1) := by decide +kernel
theorem dX12_sumOf_79 : decode cX12_sumOf 79 = .ok (.iload_n 1, 1) := by decide +kernel
theorem dX12_sumOf_80 : decode cX12_sumOf 80 = .ok (.invokevirtual 266, 3) := by decide +kernel
theorem dX12_sumOf_83 : decode cX12_sumOf 83 = .ok (.aload_n 0, 1) := by decide +kernel
theorem dX12_sumOf_84 : decode cX12_sumOf 84 = .ok (.getfield 80, 3) := by decide +kernel
theorem dX12_sumOf_87 : decode cX12_sumOf 87 = .ok (.iload 6, 2) := by decide +kernel
theorem dX12_sumOf_89 : decode cX12_sumOf 89 = .ok (.iaload, 1) := by decide +kernel
theorem dX12_sumOf_90 : decode cX12_sumOf 90 = .ok (.if_icmp .lt 7, 3) := by decide +kernel
theorem dX12_sumOf_93 : decode cX12_sumOf 93 = .ok (.iconst 1, 1) := by decide +kernel
theorem dX12_sumOf_94 : decode cX12_sumOf 94 = .ok (.goto 4, 3) := by decide +kernel
theorem dX12_sumOf_97 : decode cX12_sumOf 97 = .ok (.iconst 0, 1) := by decide +kernel
theorem dX12_sumOf_98 : decode cX12_sumOf 98 = .ok (.istore 7, 2) := by decide +kernel
theorem dX12_sumOf_100 : decode cX12_sumOf 100 = .ok (.iload 7, 2) := by decide +kernel
theorem dX12_sumOf_102 : decode cX12_sumOf 102 = .ok (.ifCond .eq 25, 3) := by decide +kernel
theorem dX12_sumOf_105 : decode cX12_sumOf 105 = .ok (.aload_n 0, 1) := by decide +kernel
theorem dX12_sumOf_106 : decode cX12_sumOf 106 = .ok (.getfield 83, 3) := by decide +kernel
theorem dX12_sumOf_109 : decode cX12_sumOf 109 = .ok (.iload 6, 2) := by decide +kernel
theorem dX12_sumOf_111 : decode cX12_sumOf 111 = .ok (.iaload, 1) := by decide +kernel
theorem dX12_sumOf_112 : decode cX12_sumOf 112 = .ok (.iload 5, 2) := by decide +kernel
theorem dX12_sumOf_114 : decode cX12_sumOf 114 = .ok (.if_icmp .le 13, 3) := by decide +kernel
theorem dX12_sumOf_117 : decode cX12_sumOf 117 = .ok (.aload_n 0, 1) := by decide +kernel
theorem dX12_sumOf_118 : decode cX12_sumOf 118 = .ok (.getfield 83, 3) := by decide +kernel
theorem dX12_sumOf_121 : decode cX12_sumOf 121 = .ok (.iload 6, 2) := by decide +kernel
theorem dX12_sumOf_123 : decode cX12_sumOf 123 = .ok (.iaload, 1) := by decide +kernel
theorem dX12_sumOf_124 : decode cX12_sumOf 124 = .ok (.goto 5, 3) := by decide +kernel
theorem dX12_sumOf_127 : decode cX12_sumOf 127 = .ok (.iload 5, 2) := by decide +kernel
theorem dX12_sumOf_129 : decode cX12_sumOf 129 = .ok (.istore 5, 2) := by decide +kernel
theorem dX12_sumOf_131 : decode cX12_sumOf 131 = .ok (.iinc 6 1, 3) := by decide +kernel
theorem dX12_sumOf_134 : decode cX12_sumOf 134 = .ok (.goto (-99), 3) := by decide +kernel
theorem dX12_sumOf_137 : decode cX12_sumOf 137 = .ok (.iload 5, 2) := by decide +kernel
theorem dX12_sumOf_139 : decode cX12_sumOf 139 = .ok (.ireturn, 1) := by decide +kernel
theorem dX12_sum_0 : decode cX12_sum 0 = .ok (.aload_n 0, 1) := by decide +kernel
theorem dX12_sum_1 : decode cX12_sum 1 = .ok (.iload_n 1, 1) := by decide +kernel
theorem dX12_sum_2 : decode cX12_sum 2 = .ok (.invokevirtual 226, 3) := by decide +kernel
theorem dX12_sum_5 : decode cX12_sum 5 = .ok (.ifCond .ne 9, 3) := by decide +kernel
theorem dX12_sum_8 : decode cX12_sum 8 = .ok (.aload_n 0, 1) := by decide +kernel
theorem dX12_sum_9 : decode cX12_sum 9 = .ok (.iconst (-1), 1) := by decide +kernel
theorem dX12_sum_10 : decode cX12_sum 10 = .ok (.invokevirtual 164, 3) := by decide +kernel
theorem dX12_sum_13 : decode cX12_sum 13 = .ok (.ireturn, 1) := by decide +kernel
theorem dX12_sum_14 : decode cX12_sum 14 = .ok (.iload_n 3, 1) := by decide +kernel
theorem dX12_sum_15 : decode cX12_sum 15 = .ok (.iconst 0, 1) := by decide +kernel
theorem dX12_sum_16 : decode cX12_sum 16 = .ok (.iconst 2, 1) := by decide +kernel
theorem dX12_sum_17 : decode cX12_sum 17 = .ok (.invokestatic 156, 3) := by decide +kernel
theorem dX12_sum_20 : decode cX12_sum 20 = .ok (.ifCond .ne 10, 3) := by decide +kernel
theorem dX12_sum_23 : decode cX12_sum 23 = .ok (.aload_n 0, 1) := by decide +kernel
theorem dX12_sum_24 : decode cX12_sum 24 = .ok (.bipush (-2), 2) := by decide +kernel
theorem dX12_sum_26 : decode cX12_sum 26 = .ok (.invokevirtual 164, 3) := by decide +kernel
theorem dX12_sum_29 : decode cX12_sum 29 = .ok (.ireturn, 1) := by decide +kernel
theorem dX12_sum_30 : decode cX12_sum 30 = .ok (.iload_n 2, 1) := by decide +kernel
theorem dX12_sum_31 : decode cX12_sum 31 = .ok (.ifCond .ge 10, 3) := by decide +kernel
theorem dX12_sum_34 : decode cX12_sum 34 = .ok (.aload_n 0, 1) := by decide +kernel
theorem dX12_sum_35 : decode cX12_sum 35 = .ok (.bipush (-4), 2) := by decide +kernel
theorem dX12_sum_37 : decode cX12_sum 37 = .ok (.invokevirtual 164, 3) := by decide +kernel
theorem dX12_sum_40 : decode cX12_sum 40 = .ok (.ireturn, 1) := by decide +kernel
theorem dX12_sum_41 : decode cX12_sum 41 = .ok (.iload_n 2, 1) := by decide +kernel
theorem dX12_sum_42 : decode cX12_sum 42 = .ok (.sipush 4000, 3) := by decide +kernel
theorem dX12_sum_45 : decode cX12_sum 45 = .ok (.if_icmp .le 10, 3) := by decide +kernel
theorem dX12_sum_48 : decode cX12_sum 48 = .ok (.aload_n 0, 1) := by decide +kernel
theorem dX12_sum_49 : decode cX12_sum 49 = .ok (.bipush (-6), 2) := by decide +kernel
theorem dX12_sum_51 : decode cX12_sum 51 = .ok (.invokevirtual 164, 3) := by decide +kernel
theorem dX12_sum_54 : decode cX12_sum 54 = .ok (.ireturn, 1) := by decide +kernel
theorem dX12_sum_55 : decode cX12_sum 55 = .ok (.iload_n 3, 1) := by decide +kernel
theorem dX12_sum_56 : decode cX12_sum 56 = .ok (.ifCond .ne 12, 3) := by decide +kernel
theorem dX12_sum_59 : decode cX12_sum 59 = .ok (.aload_n 0, 1) := by decide +kernel
theorem dX12_sum_60 : decode cX12_sum 60 = .ok (.iload_n 1, 1) := by decide +kernel
theorem dX12_sum_61 : decode cX12_sum 61 = .ok (.iload_n 2, 1) := by decide +kernel
theorem dX12_sum_62 : decode cX12_sum 62 = .ok (.invokevirtual 269, 3) := by decide +kernel
theorem dX12_sum_65 : decode cX12_sum 65 = .ok (.goto 31, 3) := by decide +kernel
theorem dX12_sum_68 : decode cX12_sum 68 = .ok (.iload_n 3, 1) := by decide +kernel
theorem dX12_sum_69 : decode cX12_sum 69 = .ok (.iconst 1, 1) := by decide +kernel
theorem dX12_sum_70 : decode cX12_sum 70 = .ok (.if_icmp .ne 12, 3) := by decide +kernel
theorem dX12_sum_73 : decode cX12_sum 73 = .ok (.aload_n 0, 1) := by decide +kernel
theorem dX12_sum_74 : decode cX12_sum 74 = .ok (.iload_n 1, 1) := by decide +kernel
theorem dX12_sum_75 : decode cX12_sum 75 = .ok (.iload_n 2, 1) := by decide +kernel
theorem dX12_sum_76 : decode cX12_sum 76 = .ok (.invokevirtual 260, 3) := by decide +kernel
theorem dX12_sum_79 : decode cX12_sum 79 = .ok (.goto 17, 3) := by decide +kernel
theorem dX12_sum_82 : decode cX12_sum 82 = .ok (.aload_n 0, 1) := by decide +kernel
theorem dX12_sum_83 : decode cX12_sum 83 = .ok (.iload_n 1, 1) := by decide +kernel
theorem dX12_sum_84 : decode cX12_sum 84 = .ok (.iload_n 2, 1) := by decide +kernel
theorem dX12_sum_85 : decode cX12_sum 85 = .ok (.invokevirtual 263, 3) := by decide +kernel
theorem dX12_sum_88 : decode cX12_sum 88 = .ok (.ifCond .eq 7, 3) := by decide +kernel
theorem dX12_sum_91 : decode cX12_sum 91 = .ok (.iconst 1, 1) := by decide +kernel
theorem dX12_sum_92 : decode cX12_sum 92 = .ok (.goto 4, 3) := by decide +kernel
theorem dX12_sum_95 : decode cX12_sum 95 = .ok (.iconst 0, 1) := by decide +kernel
theorem dX12_sum_96 : decode cX12_sum 96 = .ok (.ireturn, 1) := by decide +kernel
theorem dX12_bar_0 : decode cX12_bar 0 = .ok (.iload_n 1, 1) := by decide +kernel
theorem dX12_bar_1 : decode cX12_bar 1 = .ok (.invokestatic 244, 3) := by decide +kernel
theorem dX12_bar_4 : decode cX12_bar 4 = .ok (.ifCond .ne 9, 3) := by decide +kernel
theorem dX12_bar_7 : decode cX12_bar 7 = .ok (.aload_n 0, 1) := by decide +kernel
theorem dX12_bar_8 : decode cX12_bar 8 = .ok (.iconst (-1), 1) := by decide +kernel
theorem dX12_bar_9 : decode cX12_bar 9 = .ok (.invokevirtual 164, 3) := by decide +kernel
theorem dX12_bar_12 : decode cX12_bar 12 = .ok (.ireturn, 1) := by decide +kernel
theorem dX12_bar_13 : decode cX12_bar 13 = .ok (.iload_n 2, 1) := by decide +kernel
theorem dX12_bar_14 : decode cX12_bar 14 = .ok (.iconst 1, 1) := by decide +kernel
theorem dX12_bar_15 : decode cX12_bar 15 = .ok (.if_icmp .ge 10, 3) := by decide +kernel
theorem dX12_bar_18 : decode cX12_bar 18 = .ok (.aload_n 0, 1) := by decide +kernel
theorem dX12_bar_19 : decode cX12_bar 19 = .ok (.bipush (-4), 2) := by decide +kernel
theorem dX12_bar_21 : decode cX12_bar 21 = .ok (.invokevirtual 164, 3) := by decide +kernel
theorem dX12_bar_24 : decode cX12_bar 24 = .ok (.ireturn, 1) := by decide +kernel
theorem dX12_bar_25 : decode cX12_bar 25 = .ok (.iload_n 2, 1) := by decide +kernel
theorem dX12_bar_26 : decode cX12_bar 26 = .ok (.sipush 3000, 3) := by decide +kernel
theorem dX12_bar_29 : decode cX12_bar 29 = .ok (.if_icmp .le 10, 3) := by decide +kernel
theorem dX12_bar_32 : decode cX12_bar 32 = .ok (.aload_n 0, 1) := by decide +kernel
theorem dX12_bar_33 : decode cX12_bar 33 = .ok (.bipush (-6), 2) := by decide +kernel
theorem dX12_bar_35 : decode cX12_bar 35 = .ok (.invokevirtual 164, 3) := by decide +kernel
theorem dX12_bar_38 : decode cX12_bar 38 = .ok (.ireturn, 1) := by decide +kernel
theorem dX12_bar_39 : decode cX12_bar 39 = .ok (.aload_n 0, 1) := by decide +kernel
theorem dX12_bar_40 : decode cX12_bar 40 = .ok (.getfield 101, 3) := by decide +kernel
theorem dX12_bar_43 : decode cX12_bar 43 = .ok (.iload_n 1, 1) := by decide +kernel
theorem dX12_bar_44 : decode cX12_bar 44 = .ok (.iaload, 1) := by decide +kernel
theorem dX12_bar_45 : decode cX12_bar 45 = .ok (.istore_n 3, 1) := by decide +kernel
theorem dX12_bar_46 : decode cX12_bar 46 = .ok (.aload_n 0, 1) := by decide +kernel
theorem dX12_bar_47 : decode cX12_bar 47 = .ok (.getfield 101, 3) := by decide +kernel
theorem dX12_bar_50 : decode cX12_bar 50 = .ok (.iload_n 1, 1) := by decide +kernel
theorem dX12_bar_51 : decode cX12_bar 51 = .ok (.iload_n 2, 1) := by decide +kernel
theorem dX12_bar_52 : decode cX12_bar 52 = .ok (.iastore, 1) := by decide +kernel
theorem dX12_bar_53 : decode cX12_bar 53 = .ok (.iload_n 3, 1) := by decide +kernel
theorem dX12_bar_54 : decode cX12_bar 54 = .ok (.ireturn, 1) := by decide +kernel
theorem dX12_stop_0 : decode cX12_stop 0 = .ok (.iload_n 1, 1) := by decide +kernel
theorem dX12_stop_1 : decode cX12_stop 1 = .ok (.invokestatic 244, 3) := by decide +kernel
theorem dX12_stop_4 : decode cX12_stop 4 = .ok (.ifCond .ne 9, 3) := by decide +kernel
theorem dX12_stop_7 : decode cX12_stop 7 = .ok (.aload_n 0, 1) := by decide +kernel
theorem dX12_stop_8 : decode cX12_stop 8 = .ok (.iconst (-1), 1) := by decide +kernel
theorem dX12_stop_9 : decode cX12_stop 9 = .ok (.invokevirtual 164, 3) := by decide +kernel
theorem dX12_stop_12 : decode cX12_stop 12 = .ok (.ireturn, 1) := by decide +kernel
theorem dX12_stop_13 : decode cX12_stop 13 = .ok (.iload_n 2, 1) := by decide +kernel
theorem dX12_stop_14 : decode cX12_stop 14 = .ok (.ifCond .lt 8, 3) := by decide +kernel
theorem dX12_stop_17 : decode cX12_stop 17 = .ok (.iload_n 3, 1) := by decide +kernel
theorem dX12_stop_18 : decode cX12_stop 18 = .ok (.iload_n 2, 1) := by decide +kernel
theorem dX12_stop_19 : decode cX12_stop 19 = .ok (.if_icmp .ge 10, 3) := by decide +kernel
theorem dX12_stop_22 : decode cX12_stop 22 = .ok (.aload_n 0, 1) := by decide +kernel
theorem dX12_stop_23 : decode cX12_stop 23 = .ok (.bipush (-4), 2) := by decide +kernel
theorem dX12_stop_25 : decode cX12_stop 25 = .ok (.invokevirtual 164, 3) := by decide +kernel
theorem dX12_stop_28 : decode cX12_stop 28 = .ok (.ireturn, 1) := by decide +kernel
theorem dX12_stop_29 : decode cX12_stop 29 = .ok (.iload_n 3, 1) := by decide +kernel
theorem dX12_stop_30 : decode cX12_stop 30 = .ok (.sipush 4000, 3) := by decide +kernel
theorem dX12_stop_33 : decode cX12_stop 33 = .ok (.if_icmp .gt 12, 3) := by decide +kernel
theorem dX12_stop_36 : decode cX12_stop 36 = .ok (.aload_n 0, 1) := by decide +kernel
theorem dX12_stop_37 : decode cX12_stop 37 = .ok (.getfield 272, 3) := by decide +kernel
theorem dX12_stop_40 : decode cX12_stop 40 = .ok (.bipush 20, 2) := by decide +kernel
theorem dX12_stop_42 : decode cX12_stop 42 = .ok (.if_icmp .ne 10, 3) := by decide +kernel
theorem dX12_stop_45 : decode cX12_stop 45 = .ok (.aload_n 0, 1) := by decide +kernel
theorem dX12_stop_46 : decode cX12_stop 46 = .ok (.bipush (-6), 2) := by decide +kernel
theorem dX12_stop_48 : decode cX12_stop 48 = .ok (.invokevirtual 164, 3) := by decide +kernel
theorem dX12_stop_51 : decode cX12_stop 51 = .ok (.ireturn, 1) := by decide +kernel
theorem dX12_stop_52 : decode cX12_stop 52 = .ok (.aload_n 0, 1) := by decide +kernel
theorem dX12_stop_53 : decode cX12_stop 53 = .ok (.getfield 104, 3) := by decide +kernel
theorem dX12_stop_56 : decode cX12_stop 56 = .ok (.aload_n 0, 1) := by decide +kernel
theorem dX12_stop_57 : decode cX12_stop 57 = .ok (.getfield 272, 3) := by decide +kernel
theorem dX12_stop_60 : decode cX12_stop 60 = .ok (.iload_n 1, 1) := by decide +kernel
theorem dX12_stop_61 : decode cX12_stop 61 = .ok (.iastore, 1) := by decide +kernel
theorem dX12_stop_62 : decode cX12_stop 62 = .ok (.aload_n 0, 1) := by decide +kernel
theorem dX12_stop_63 : decode cX12_stop 63 = .ok (.getfield 107, 3) := by decide +kernel
theorem dX12_stop_66 : decode cX12_stop 66 = .ok (.aload_n 0, 1) := by decide +kernel
theorem dX12_stop_67 : decode cX12_stop 67 = .ok (.getfield 272, 3) := by decide +kernel
theorem dX12_stop_70 : decode cX12_stop 70 = .ok (.iload_n 2, 1) := by decide +kernel
theorem dX12_stop_71 : decode cX12_stop 71 = .ok (.iastore, 1) := by decide +kernel
theorem dX12_stop_72 : decode cX12_stop 72 = .ok (.aload_n 0, 1) := by decide +kernel
theorem dX12_stop_73 : decode cX12_stop 73 = .ok (.getfield 110, 3) := by decide +kernel
theorem dX12_stop_76 : decode cX12_stop 76 = .ok (.aload_n 0, 1) := by decide +kernel
theorem dX12_stop_77 : decode cX12_stop 77 = .ok (.getfield 272, 3) := by decide +kernel
theorem dX12_stop_80 : decode cX12_stop 80 = .ok (.iload_n 3, 1) := by decide +kernel
theorem dX12_stop_81 : decode cX12_stop 81 = .ok (.iastore, 1) := by decide +kernel
theorem dX12_stop_82 : decode cX12_stop 82 = .ok (.aload_n 0, 1) := by decide +kernel
theorem dX12_stop_83 : decode cX12_stop 83 = .ok (.dup, 1) := by decide +kernel
theorem dX12_stop_84 : decode cX12_stop 84 = .ok (.getfield 272, 3) := by decide +kernel
theorem dX12_stop_87 : decode cX12_stop 87 = .ok (.iconst 1, 1) := by decide +kernel
theorem dX12_stop_88 : decode cX12_stop 88 = .ok (.iadd, 1) := by decide +kernel
theorem dX12_stop_89 : decode cX12_stop 89 = .ok (.putfield 272, 3) := by decide +kernel
theorem dX12_stop_92 : decode cX12_stop 92 = .ok (.aload_n 0, 1) := by decide +kernel
theorem dX12_stop_93 : decode cX12_stop 93 = .ok (.getfield 272, 3) := by decide +kernel
theorem dX12_stop_96 : decode cX12_stop 96 = .ok (.ireturn, 1) := by decide +kernel
theorem dX12_isClaim_0 : decode cX12_isClaim 0 = .ok (.iload_n 1, 1) := by decide +kernel
theorem dX12_isClaim_1 : decode cX12_isClaim 1 = .ok (.iconst 0, 1) := by decide +kernel
theorem dX12_isClaim_2 : decode cX12_isClaim 2 = .ok (.aload_n 0, 1) := by decide +kernel
theorem dX12_isClaim_3 : decode cX12_isClaim 3 = .ok (.getfield 275, 3) := by decide +kernel
theorem dX12_isClaim_6 : decode cX12_isClaim 6 = .ok (.iconst 1, 1) := by decide +kernel
theorem dX12_isClaim_7 : decode cX12_isClaim 7 = .ok (.isub, 1) := by decide +kernel
theorem dX12_isClaim_8 : decode cX12_isClaim 8 = .ok (.invokestatic 156, 3) := by decide +kernel
theorem dX12_isClaim_11 : decode cX12_isClaim 11 = .ok (.ireturn, 1) := by decide +kernel
theorem dX12_claim_0 : decode cX12_claim 0 = .ok (.aload_n 0, 1) := by decide +kernel
theorem dX12_claim_1 : decode cX12_claim 1 = .ok (.iload_n 1, 1) := by decide +kernel
theorem dX12_claim_2 : decode cX12_claim 2 = .ok (.invokevirtual 226, 3) := by decide +kernel
theorem dX12_claim_5 : decode cX12_claim 5 = .ok (.ifCond .ne 9, 3) := by decide +kernel
theorem dX12_claim_8 : decode cX12_claim 8 = .ok (.aload_n 0, 1) := by decide +kernel
theorem dX12_claim_9 : decode cX12_claim 9 = .ok (.iconst (-1), 1) := by decide +kernel
theorem dX12_claim_10 : decode cX12_claim 10 = .ok (.invokevirtual 164, 3) := by decide +kernel
theorem dX12_claim_13 : decode cX12_claim 13 = .ok (.ireturn, 1) := by decide +kernel
theorem dX12_claim_14 : decode cX12_claim 14 = .ok (.iconst 0, 1) := by decide +kernel
theorem dX12_claim_15 : decode cX12_claim 15 = .ok (.istore_n 2, 1) := by decide +kernel
theorem dX12_claim_16 : decode cX12_claim 16 = .ok (.iload_n 2, 1) := by decide +kernel
theorem dX12_claim_17 : decode cX12_claim 17 = .ok (.aload_n 0, 1) := by decide +kernel
theorem dX12_claim_18 : decode cX12_claim 18 = .ok (.getfield 275, 3) := by decide +kernel
theorem dX12_claim_21 : decode cX12_claim 21 = .ok (.if_icmp .ge 26, 3) := by decide +kernel
theorem dX12_claim_24 : decode cX12_claim 24 = .ok (.aload_n 0, 1) := by decide +kernel
theorem dX12_claim_25 : decode cX12_claim 25 = .ok (.getfield 113, 3) := by decide +kernel
theorem dX12_claim_28 : decode cX12_claim 28 = .ok (.iload_n 2, 1) := by decide +kernel
theorem dX12_claim_29 : decode cX12_claim 29 = .ok (.iaload, 1) := by decide +kernel
theorem dX12_claim_30 : decode cX12_claim 30 = .ok (.iload_n 1, 1) := by decide +kernel
theorem dX12_claim_31 : decode cX12_claim 31 = .ok (.if_icmp .ne 10, 3) := by decide +kernel
theorem dX12_claim_34 : decode cX12_claim 34 = .ok (.aload_n 0, 1) := by decide +kernel
theorem dX12_claim_35 : decode cX12_claim 35 = .ok (.bipush (-3), 2) := by decide +kernel
theorem dX12_claim_37 : decode cX12_claim 37 = .ok (.invokevirtual 164, 3) := by decide +kernel
theorem dX12_claim_40 : decode cX12_claim 40 = .ok (.ireturn, 1) := by decide +kernel
theorem dX12_claim_41 : decode cX12_claim 41 = .ok (.iinc 2 1, 3) := by decide +kernel
theorem dX12_claim_44 : decode cX12_claim 44 = .ok (.goto (-28), 3) := by decide +kernel
theorem dX12_claim_47 : decode cX12_claim 47 = .ok (.aload_n 0, 1) := by decide +kernel
theorem dX12_claim_48 : decode cX12_claim 48 = .ok (.getfield 275, 3) := by decide +kernel
theorem dX12_claim_51 : decode cX12_claim 51 = .ok (.bipush 30, 2) := by decide +kernel
theorem dX12_claim_53 : decode cX12_claim 53 = .ok (.if_icmp .ne 10, 3) := by decide +kernel
theorem dX12_claim_56 : decode cX12_claim 56 = .ok (.aload_n 0, 1) := by decide +kernel
theorem dX12_claim_57 : decode cX12_claim 57 = .ok (.bipush (-6), 2) := by decide +kernel
theorem dX12_claim_59 : decode cX12_claim 59 = .ok (.invokevirtual 164, 3) := by decide +kernel
theorem dX12_claim_62 : decode cX12_claim 62 = .ok (.ireturn, 1) := by decide +kernel
theorem dX12_claim_63 : decode cX12_claim 63 = .ok (.aload_n 0, 1) := by decide +kernel
theorem dX12_claim_64 : decode cX12_claim 64 = .ok (.getfield 113, 3) := by decide +kernel
theorem dX12_claim_67 : decode cX12_claim 67 = .ok (.aload_n 0, 1) := by decide +kernel
theorem dX12_claim_68 : decode cX12_claim 68 = .ok (.getfield 275, 3) := by decide +kernel
theorem dX12_claim_71 : decode cX12_claim 71 = .ok (.iload_n 1, 1) := by decide +kernel
theorem dX12_claim_72 : decode cX12_claim 72 = .ok (.iastore, 1) := by decide +kernel
theorem dX12_claim_73 : decode cX12_claim 73 = .ok (.aload_n 0, 1) := by decide +kernel
theorem dX12_claim_74 : decode cX12_claim 74 = .ok (.getfield 116, 3) := by decide +kernel
theorem dX12_claim_77 : decode cX12_claim 77 = .ok (.aload_n 0, 1) := by decide +kernel
theorem dX12_claim_78 : decode cX12_claim 78 = .ok (.getfield 275, 3) := by decide +kernel
theorem dX12_claim_81 : decode cX12_claim 81 = .ok (.aload_n 0, 1) := by decide +kernel
theorem dX12_claim_82 : decode cX12_claim 82 = .ok (.getfield 168, 3) := by decide +kernel
theorem dX12_claim_85 : decode cX12_claim 85 = .ok (.iastore, 1) := by decide +kernel
theorem dX12_claim_86 : decode cX12_claim 86 = .ok (.aload_n 0, 1) := by decide +kernel
theorem dX12_claim_87 : decode cX12_claim 87 = .ok (.dup, 1) := by decide +kernel
theorem dX12_claim_88 : decode cX12_claim 88 = .ok (.getfield 275, 3) := by decide +kernel
theorem dX12_claim_91 : decode cX12_claim 91 = .ok (.iconst 1, 1) := by decide +kernel
theorem dX12_claim_92 : decode cX12_claim 92 = .ok (.iadd, 1) := by decide +kernel
theorem dX12_claim_93 : decode cX12_claim 93 = .ok (.putfield 275, 3) := by decide +kernel
theorem dX12_claim_96 : decode cX12_claim 96 = .ok (.aload_n 0, 1) := by decide +kernel
theorem dX12_claim_97 : decode cX12_claim 97 = .ok (.getfield 275, 3) := by decide +kernel
theorem dX12_claim_100 : decode cX12_claim 100 = .ok (.iconst 1, 1) := by decide +kernel
theorem dX12_claim_101 : decode cX12_claim 101 = .ok (.isub, 1) := by decide +kernel
theorem dX12_claim_102 : decode cX12_claim 102 = .ok (.ireturn, 1) := by decide +kernel
theorem dX12_isBarred_0 : decode cX12_isBarred 0 = .ok (.aload_n 0, 1) := by decide +kernel
theorem dX12_isBarred_1 : decode cX12_isBarred 1 = .ok (.getfield 113, 3) := by decide +kernel
theorem dX12_isBarred_4 : decode cX12_isBarred 4 = .ok (.iload_n 1, 1) := by decide +kernel
theorem dX12_isBarred_5 : decode cX12_isBarred 5 = .ok (.iaload, 1) := by decide +kernel
theorem dX12_isBarred_6 : decode cX12_isBarred 6 = .ok (.istore_n 2, 1) := by decide +kernel
theorem dX12_isBarred_7 : decode cX12_isBarred 7 = .ok (.aload_n 0, 1) := by decide +kernel
theorem dX12_isBarred_8 : decode cX12_isBarred 8 = .ok (.iload_n 2, 1) := by decide +kernel
theorem dX12_isBarred_9 : decode cX12_isBarred 9 = .ok (.aload_n 0, 1) := by decide +kernel
theorem dX12_isBarred_10 : decode cX12_isBarred 10 = .ok (.getfield 116, 3) := by decide +kernel
theorem dX12_isBarred_13 : decode cX12_isBarred 13 = .ok (.iload_n 1, 1) := by decide +kernel
theorem dX12_isBarred_14 : decode cX12_isBarred 14 = .ok (.iaload, 1) := by decide +kernel
theorem dX12_isBarred_15 : decode cX12_isBarred 15 = .ok (.invokevirtual 260, 3) := by decide +kernel
theorem dX12_isBarred_18 : decode cX12_isBarred 18 = .ok (.istore_n 3, 1) := by decide +kernel
theorem dX12_isBarred_19 : decode cX12_isBarred 19 = .ok (.iconst 0, 1) := by decide +kernel
theorem dX12_isBarred_20 : decode cX12_isBarred 20 = .ok (.istore 4, 2) := by decide +kernel
theorem dX12_isBarred_22 : decode cX12_isBarred 22 = .ok (.aload_n 0, 1) := by decide +kernel
theorem dX12_isBarred_23 : decode cX12_isBarred 23 = .ok (.getfield 37, 3) := by decide +kernel
theorem dX12_isBarred_26 : decode cX12_isBarred 26 = .ok (.aload_n 0, 1) := by decide +kernel
theorem dX12_isBarred_27 : decode cX12_isBarred 27 = .ok (.iload_n 2, 1) := by decide +kernel
theorem dX12_isBarred_28 : decode cX12_isBarred 28 = .ok (.invokevirtual 232, 3) := by decide +kernel
theorem dX12_isBarred_31 : decode cX12_isBarred 31 = .ok (.iaload, 1) := by decide +kernel
theorem dX12_isBarred_32 : decode cX12_isBarred 32 = .ok (.sipush 1440, 3) := by decide +kernel
theorem dX12_isBarred_35 : decode cX12_isBarred 35 = .ok (.idiv, 1) := by decide +kernel
theorem dX12_isBarred_36 : decode cX12_isBarred 36 = .ok (.iconst 1, 1) := by decide +kernel
theorem dX12_isBarred_37 : decode cX12_isBarred 37 = .ok (.iadd, 1) := by decide +kernel
theorem dX12_isBarred_38 : decode cX12_isBarred 38 = .ok (.istore 5, 2) := by decide +kernel
theorem dX12_isBarred_40 : decode cX12_isBarred 40 = .ok (.iload 5, 2) := by decide +kernel
theorem dX12_isBarred_42 : decode cX12_isBarred 42 = .ok (.aload_n 0, 1) := by decide +kernel
theorem dX12_isBarred_43 : decode cX12_isBarred 43 = .ok (.getfield 116, 3) := by decide +kernel
theorem dX12_isBarred_46 : decode cX12_isBarred 46 = .ok (.iload_n 1, 1) := by decide +kernel
theorem dX12_isBarred_47 : decode cX12_isBarred 47 = .ok (.iaload, 1) := by decide +kernel
theorem dX12_isBarred_48 : decode cX12_isBarred 48 = .ok (.if_icmp .gt 94, 3) := by decide +kernel
theorem dX12_isBarred_51 : decode cX12_isBarred 51 = .ok (.iload_n 3, 1) := by decide +kernel
theorem dX12_isBarred_52 : decode cX12_isBarred 52 = .ok (.ifCond .lt 90, 3) := by decide +kernel
theorem dX12_isBarred_55 : decode cX12_isBarred 55 = .ok (.iconst 0, 1) := by decide +kernel
theorem dX12_isBarred_56 : decode cX12_isBarred 56 = .ok (.istore 6, 2) := by decide +kernel
theorem dX12_isBarred_58 : decode cX12_isBarred 58 = .ok (.iconst 0, 1) := by decide +kernel
theorem dX12_isBarred_59 : decode cX12_isBarred 59 = .ok (.istore 7, 2) := by decide +kernel
theorem dX12_isBarred_61 : decode cX12_isBarred 61 = .ok (.iload 7, 2) := by decide +kernel
theorem dX12_isBarred_63 : decode cX12_isBarred 63 = .ok (.aload_n 0, 1) := by decide +kernel
theorem dX12_isBarred_64 : decode cX12_isBarred 64 = .ok (.getfield 272, 3) := by decide +kernel
theorem dX12_isBarred_67 : decode cX12_isBarred 67 = .ok (.if_icmp .ge 54, 3) := by decide +kernel
theorem dX12_isBarred_70 : decode cX12_isBarred 70 = .ok (.iload 6, 2) := by decide +kernel
theorem dX12_isBarred_72 : decode cX12_isBarred 72 = .ok (.ifCond .ne 36, 3) := by decide +kernel
theorem dX12_isBarred_75 : decode cX12_isBarred 75 = .ok (.aload_n 0, 1) := by decide +kernel
theorem dX12_isBarred_76 : decode cX12_isBarred 76 = .ok (.getfield 104, 3) := by decide +kernel
theorem dX12_isBarred_79 : decode cX12_isBarred 79 = .ok (.iload 7, 2) := by decide +kernel
theorem dX12_isBarred_81 : decode cX12_isBarred 81 = .ok (.iaload, 1) := by decide +kernel
theorem dX12_isBarred_82 : decode cX12_isBarred 82 = .ok (.iload_n 3, 1) := by decide +kernel
theorem dX12_isBarred_83 : decode cX12_isBarred 83 = .ok (.if_icmp .ne 29, 3) := by decide +kernel
theorem dX12_isBarred_86 : decode cX12_isBarred 86 = .ok (.iload 5, 2) := by decide +kernel
theorem dX12_isBarred_88 : decode cX12_isBarred 88 = .ok (.aload_n 0, 1) := by decide +kernel
theorem dX12_isBarred_89 : decode cX12_isBarred 89 = .ok (.getfield 107, 3) := by decide +kernel
theorem dX12_isBarred_92 : decode cX12_isBarred 92 = .ok (.iload 7, 2) := by decide +kernel
theorem dX12_isBarred_94 : decode cX12_isBarred 94 = .ok (.iaload, 1) := by decide +kernel
theorem dX12_isBarred_95 : decode cX12_isBarred 95 = .ok (.aload_n 0, 1) := by decide +kernel
theorem dX12_isBarred_96 : decode cX12_isBarred 96 = .ok (.getfield 110, 3) := by decide +kernel
theorem dX12_isBarred_99 : decode cX12_isBarred 99 = .ok (.iload 7, 2) := by decide +kernel
theorem dX12_isBarred_101 : decode cX12_isBarred 101 = .ok (.iaload, 1) := by decide +kernel
theorem dX12_isBarred_102 : decode cX12_isBarred 102 = .ok (.invokestatic 156, 3) := by decide +kernel
theorem dX12_isBarred_105 : decode cX12_isBarred 105 = .ok (.ifCond .eq 7, 3) := by decide +kernel
theorem dX12_isBarred_108 : decode cX12_isBarred 108 = .ok (.iconst 1, 1) := by decide +kernel
theorem dX12_isBarred_109 : decode cX12_isBarred 109 = .ok (.goto 4, 3) := by decide +kernel
theorem dX12_isBarred_112 : decode cX12_isBarred 112 = .ok (.iconst 0, 1) := by decide +kernel
theorem dX12_isBarred_113 : decode cX12_isBarred 113 = .ok (.istore 6, 2) := by decide +kernel
theorem dX12_isBarred_115 : decode cX12_isBarred 115 = .ok (.iinc 7 1, 3) := by decide +kernel
theorem dX12_isBarred_118 : decode cX12_isBarred 118 = .ok (.goto (-57), 3) := by decide +kernel
theorem dX12_isBarred_121 : decode cX12_isBarred 121 = .ok (.iload 4, 2) := by decide +kernel
theorem dX12_isBarred_123 : decode cX12_isBarred 123 = .ok (.iload 6, 2) := by decide +kernel
theorem dX12_isBarred_125 : decode cX12_isBarred 125 = .ok (.ifCond .eq 7, 3) := by decide +kernel
theorem dX12_isBarred_128 : decode cX12_isBarred 128 = .ok (.iconst 0, 1) := by decide +kernel
theorem dX12_isBarred_129 : decode cX12_isBarred 129 = .ok (.goto 4, 3) := by decide +kernel
theorem dX12_isBarred_132 : decode cX12_isBarred 132 = .ok (.iconst 1, 1) := by decide +kernel
theorem dX12_isBarred_133 : decode cX12_isBarred 133 = .ok (.iadd, 1) := by decide +kernel
theorem dX12_isBarred_134 : decode cX12_isBarred 134 = .ok (.istore 4, 2) := by decide +kernel
theorem dX12_isBarred_136 : decode cX12_isBarred 136 = .ok (.iinc 5 1, 3) := by decide +kernel
theorem dX12_isBarred_139 : decode cX12_isBarred 139 = .ok (.goto (-99), 3) := by decide +kernel
theorem dX12_isBarred_142 : decode cX12_isBarred 142 = .ok (.iload_n 3, 1) := by decide +kernel
theorem dX12_isBarred_143 : decode cX12_isBarred 143 = .ok (.ifCond .lt 18, 3) := by decide +kernel
theorem dX12_isBarred_146 : decode cX12_isBarred 146 = .ok (.iload 4, 2) := by decide +kernel
theorem dX12_isBarred_148 : decode cX12_isBarred 148 = .ok (.aload_n 0, 1) := by decide +kernel
theorem dX12_isBarred_149 : decode cX12_isBarred 149 = .ok (.getfield 101, 3) := by decide +kernel
theorem dX12_isBarred_152 : decode cX12_isBarred 152 = .ok (.iload_n 3, 1) := by decide +kernel
theorem dX12_isBarred_153 : decode cX12_isBarred 153 = .ok (.iaload, 1) := by decide +kernel
theorem dX12_isBarred_154 : decode cX12_isBarred 154 = .ok (.if_icmp .le 7, 3) := by decide +kernel
theorem dX12_isBarred_157 : decode cX12_isBarred 157 = .ok (.iconst 1, 1) := by decide +kernel
theorem dX12_isBarred_158 : decode cX12_isBarred 158 = .ok (.goto 4, 3) := by decide +kernel
theorem dX12_isBarred_161 : decode cX12_isBarred 161 = .ok (.iconst 0, 1) := by decide +kernel
theorem dX12_isBarred_162 : decode cX12_isBarred 162 = .ok (.ireturn, 1) := by decide +kernel
theorem dX12_worthOf_0 : decode cX12_worthOf 0 = .ok (.aload_n 0, 1) := by decide +kernel
theorem dX12_worthOf_1 : decode cX12_worthOf 1 = .ok (.iload_n 1, 1) := by decide +kernel
theorem dX12_worthOf_2 : decode cX12_worthOf 2 = .ok (.invokevirtual 278, 3) := by decide +kernel
theorem dX12_worthOf_5 : decode cX12_worthOf 5 = .ok (.ifCond .eq 7, 3) := by decide +kernel
theorem dX12_worthOf_8 : decode cX12_worthOf 8 = .ok (.iconst 0, 1) := by decide +kernel
theorem dX12_worthOf_9 : decode cX12_worthOf 9 = .ok (.goto 19, 3) := by decide +kernel
theorem dX12_worthOf_12 : decode cX12_worthOf 12 = .ok (.aload_n 0, 1) := by decide +kernel
theorem dX12_worthOf_13 : decode cX12_worthOf 13 = .ok (.aload_n 0, 1) := by decide +kernel
theorem dX12_worthOf_14 : decode cX12_worthOf 14 = .ok (.getfield 113, 3) := by decide +kernel
theorem dX12_worthOf_17 : decode cX12_worthOf 17 = .ok (.iload_n 1, 1) := by decide +kernel
theorem dX12_worthOf_18 : decode cX12_worthOf 18 = .ok (.iaload, 1) := by decide +kernel
theorem dX12_worthOf_19 : decode cX12_worthOf 19 = .ok (.aload_n 0, 1) := by decide +kernel
theorem dX12_worthOf_20 : decode cX12_worthOf 20 = .ok (.getfield 116, 3) := by decide +kernel
theorem dX12_worthOf_23 : decode cX12_worthOf 23 = .ok (.iload_n 1, 1) := by decide +kernel
theorem dX12_worthOf_24 : decode cX12_worthOf 24 = .ok (.iaload, 1) := by decide +kernel
theorem dX12_worthOf_25 : decode cX12_worthOf 25 = .ok (.invokevirtual 269, 3) := by decide +kernel
theorem dX12_worthOf_28 : decode cX12_worthOf 28 = .ok (.ireturn, 1) := by decide +kernel
theorem dX12_settledOf_0 : decode cX12_settledOf 0 = .ok (.iconst 0, 1) := by decide +kernel
theorem dX12_settledOf_1 : decode cX12_settledOf 1 = .ok (.istore_n 2, 1) := by decide +kernel
theorem dX12_settledOf_2 : decode cX12_settledOf 2 = .ok (.iconst 0, 1) := by decide +kernel
theorem dX12_settledOf_3 : decode cX12_settledOf 3 = .ok (.istore_n 3, 1) := by decide +kernel
theorem dX12_settledOf_4 : decode cX12_settledOf 4 = .ok (.iload_n 3, 1) := by decide +kernel
theorem dX12_settledOf_5 : decode cX12_settledOf 5 = .ok (.iconst 5, 1) := by decide +kernel
theorem dX12_settledOf_6 : decode cX12_settledOf 6 = .ok (.if_icmp .ge 22, 3) := by decide +kernel
theorem dX12_settledOf_9 : decode cX12_settledOf 9 = .ok (.iload_n 2, 1) := by decide +kernel
theorem dX12_settledOf_10 : decode cX12_settledOf 10 = .ok (.aload_n 0, 1) := by decide +kernel
theorem dX12_settledOf_11 : decode cX12_settledOf 11 = .ok (.getfield 122, 3) := by decide +kernel
theorem dX12_settledOf_14 : decode cX12_settledOf 14 = .ok (.iconst 5, 1) := by decide +kernel
theorem dX12_settledOf_15 : decode cX12_settledOf 15 = .ok (.iload_n 1, 1) := by decide +kernel
theorem dX12_settledOf_16 : decode cX12_settledOf 16 = .ok (.imul, 1) := by decide +kernel
theorem dX12_settledOf_17 : decode cX12_settledOf 17 = .ok (.iload_n 3, 1) := by decide +kernel
theorem dX12_settledOf_18 : decode cX12_settledOf 18 = .ok (.iadd, 1) := by decide +kernel
theorem dX12_settledOf_19 : decode cX12_settledOf 19 = .ok (.iaload, 1) := by decide +kernel
theorem dX12_settledOf_20 : decode cX12_settledOf 20 = .ok (.iadd, 1) := by decide +kernel
theorem dX12_settledOf_21 : decode cX12_settledOf 21 = .ok (.istore_n 2, 1) := by decide +kernel
theorem dX12_settledOf_22 : decode cX12_settledOf 22 = .ok (.iinc 3 1, 3) := by decide +kernel
theorem dX12_settledOf_25 : decode cX12_settledOf 25 = .ok (.goto (-21), 3) := by decide +kernel
theorem dX12_settledOf_28 : decode cX12_settledOf 28 = .ok (.iload_n 2, 1) := by decide +kernel
theorem dX12_settledOf_29 : decode cX12_settledOf 29 = .ok (.ireturn, 1) := by decide +kernel
theorem dX12_claimOf_0 : decode cX12_claimOf 0 = .ok (.aload_n 0, 1) := by decide +kernel
theorem dX12_claimOf_1 : decode cX12_claimOf 1 = .ok (.iload_n 1, 1) := by decide +kernel
theorem dX12_claimOf_2 : decode cX12_claimOf 2 = .ok (.invokevirtual 281, 3) := by decide +kernel
theorem dX12_claimOf_5 : decode cX12_claimOf 5 = .ok (.ifCond .ne 9, 3) := by decide +kernel
theorem dX12_claimOf_8 : decode cX12_claimOf 8 = .ok (.aload_n 0, 1) := by decide +kernel
theorem dX12_claimOf_9 : decode cX12_claimOf 9 = .ok (.iconst (-1), 1) := by decide +kernel
theorem dX12_claimOf_10 : decode cX12_claimOf 10 = .ok (.invokevirtual 164, 3) := by decide +kernel
theorem dX12_claimOf_13 : decode cX12_claimOf 13 = .ok (.ireturn, 1) := by decide +kernel
theorem dX12_claimOf_14 : decode cX12_claimOf 14 = .ok (.iload_n 2, 1) := by decide +kernel
theorem dX12_claimOf_15 : decode cX12_claimOf 15 = .ok (.iconst 0, 1) := by decide +kernel
theorem dX12_claimOf_16 : decode cX12_claimOf 16 = .ok (.iconst 5, 1) := by decide +kernel
theorem dX12_claimOf_17 : decode cX12_claimOf 17 = .ok (.invokestatic 156, 3) := by decide +kernel
theorem dX12_claimOf_20 : decode cX12_claimOf 20 = .ok (.ifCond .ne 10, 3) := by decide +kernel
theorem dX12_claimOf_23 : decode cX12_claimOf 23 = .ok (.aload_n 0, 1) := by decide +kernel
theorem dX12_claimOf_24 : decode cX12_claimOf 24 = .ok (.bipush (-2), 2) := by decide +kernel
theorem dX12_claimOf_26 : decode cX12_claimOf 26 = .ok (.invokevirtual 164, 3) := by decide +kernel
theorem dX12_claimOf_29 : decode cX12_claimOf 29 = .ok (.ireturn, 1) := by decide +kernel
theorem dX12_claimOf_30 : decode cX12_claimOf 30 = .ok (.iload_n 2, 1) := by decide +kernel
theorem dX12_claimOf_31 : decode cX12_claimOf 31 = .ok (.tableswitch 73 0 4 #[33, 40, 47, 61, 67], 33) := by decide +kernel
theorem dX12_claimOf_64 : decode cX12_claimOf 64 = .ok (.aload_n 0, 1) := by decide +kernel
theorem dX12_claimOf_65 : decode cX12_claimOf 65 = .ok (.getfield 113, 3) := by decide +kernel
theorem dX12_claimOf_68 : decode cX12_claimOf 68 = .ok (.iload_n 1, 1) := by decide +kernel
theorem dX12_claimOf_69 : decode cX12_claimOf 69 = .ok (.iaload, 1) := by decide +kernel
theorem dX12_claimOf_70 : decode cX12_claimOf 70 = .ok (.ireturn, 1) := by decide +kernel
theorem dX12_claimOf_71 : decode cX12_claimOf 71 = .ok (.aload_n 0, 1) := by decide +kernel
theorem dX12_claimOf_72 : decode cX12_claimOf 72 = .ok (.getfield 116, 3) := by decide +kernel
theorem dX12_claimOf_75 : decode cX12_claimOf 75 = .ok (.iload_n 1, 1) := by decide +kernel
theorem dX12_claimOf_76 : decode cX12_claimOf 76 = .ok (.iaload, 1) := by decide +kernel
theorem dX12_claimOf_77 : decode cX12_claimOf 77 = .ok (.ireturn, 1) := by decide +kernel
theorem dX12_claimOf_78 : decode cX12_claimOf 78 = .ok (.aload_n 0, 1) := by decide +kernel
theorem dX12_claimOf_79 : decode cX12_claimOf 79 = .ok (.iload_n 1, 1) := by decide +kernel
theorem dX12_claimOf_80 : decode cX12_claimOf 80 = .ok (.invokevirtual 278, 3) := by decide +kernel
theorem dX12_claimOf_83 : decode cX12_claimOf 83 = .ok (.ifCond .eq 7, 3) := by decide +kernel
theorem dX12_claimOf_86 : decode cX12_claimOf 86 = .ok (.iconst 1, 1) := by decide +kernel
theorem dX12_claimOf_87 : decode cX12_claimOf 87 = .ok (.goto 4, 3) := by decide +kernel
theorem dX12_claimOf_90 : decode cX12_claimOf 90 = .ok (.iconst 0, 1) := by decide +kernel
theorem dX12_claimOf_91 : decode cX12_claimOf 91 = .ok (.ireturn, 1) := by decide +kernel
theorem dX12_claimOf_92 : decode cX12_claimOf 92 = .ok (.aload_n 0, 1) := by decide +kernel
theorem dX12_claimOf_93 : decode cX12_claimOf 93 = .ok (.iload_n 1, 1) := by decide +kernel
theorem dX12_claimOf_94 : decode cX12_claimOf 94 = .ok (.invokevirtual 284, 3) := by decide +kernel
theorem dX12_claimOf_97 : decode cX12_claimOf 97 = .ok (.ireturn, 1) := by decide +kernel
theorem dX12_claimOf_98 : decode cX12_claimOf 98 = .ok (.aload_n 0, 1) := by decide +kernel
theorem dX12_claimOf_99 : decode cX12_claimOf 99 = .ok (.iload_n 1, 1) := by decide +kernel
theorem dX12_claimOf_100 : decode cX12_claimOf 100 = .ok (.invokevirtual 287, 3) := by decide +kernel
theorem dX12_claimOf_103 : decode cX12_claimOf 103 = .ok (.ireturn, 1) := by decide +kernel
theorem dX12_claimOf_104 : decode cX12_claimOf 104 = .ok (.aload_n 0, 1) := by decide +kernel
theorem dX12_claimOf_105 : decode cX12_claimOf 105 = .ok (.iload_n 1, 1) := by decide +kernel
theorem dX12_claimOf_106 : decode cX12_claimOf 106 = .ok (.invokevirtual 287, 3) := by decide +kernel
theorem dX12_claimOf_109 : decode cX12_claimOf 109 = .ok (.aload_n 0, 1) := by decide +kernel
theorem dX12_claimOf_110 : decode cX12_claimOf 110 = .ok (.iload_n 1, 1) := by decide +kernel
theorem dX12_claimOf_111 : decode cX12_claimOf 111 = .ok (.invokevirtual 284, 3) := by decide +kernel
theorem dX12_claimOf_114 : decode cX12_claimOf 114 = .ok (.isub, 1) := by decide +kernel
theorem dX12_claimOf_115 : decode cX12_claimOf 115 = .ok (.invokestatic 187, 3) := by decide +kernel
theorem dX12_claimOf_118 : decode cX12_claimOf 118 = .ok (.ireturn, 1) := by decide +kernel
theorem dX12_isPayer_0 : decode cX12_isPayer 0 = .ok (.iload_n 0, 1) := by decide +kernel
theorem dX12_isPayer_1 : decode cX12_isPayer 1 = .ok (.iconst 0, 1) := by decide +kernel
theorem dX12_isPayer_2 : decode cX12_isPayer 2 = .ok (.iconst 4, 1) := by decide +kernel
theorem dX12_isPayer_3 : decode cX12_isPayer 3 = .ok (.invokestatic 156, 3) := by decide +kernel
theorem dX12_isPayer_6 : decode cX12_isPayer 6 = .ok (.ireturn, 1) := by decide +kernel
theorem dX12_owes_0 : decode cX12_owes 0 = .ok (.iload_n 1, 1) := by decide +kernel
theorem dX12_owes_1 : decode cX12_owes 1 = .ok (.invokestatic 290, 3) := by decide +kernel
theorem dX12_owes_4 : decode cX12_owes 4 = .ok (.ifCond .eq 11, 3) := by decide +kernel
theorem dX12_owes_7 : decode cX12_owes 7 = .ok (.aload_n 0, 1) := by decide +kernel
theorem dX12_owes_8 : decode cX12_owes 8 = .ok (.iload_n 2, 1) := by decide +kernel
theorem dX12_owes_9 : decode cX12_owes 9 = .ok (.invokevirtual 226, 3) := by decide +kernel
theorem dX12_owes_12 : decode cX12_owes 12 = .ok (.ifCond .ne 9, 3) := by decide +kernel
theorem dX12_owes_15 : decode cX12_owes 15 = .ok (.aload_n 0, 1) := by decide +kernel
theorem dX12_owes_16 : decode cX12_owes 16 = .ok (.iconst (-1), 1) := by decide +kernel
theorem dX12_owes_17 : decode cX12_owes 17 = .ok (.invokevirtual 164, 3) := by decide +kernel
theorem dX12_owes_20 : decode cX12_owes 20 = .ok (.ireturn, 1) := by decide +kernel
theorem dX12_owes_21 : decode cX12_owes 21 = .ok (.iload_n 3, 1) := by decide +kernel
theorem dX12_owes_22 : decode cX12_owes 22 = .ok (.ifCond .ge 10, 3) := by decide +kernel
theorem dX12_owes_25 : decode cX12_owes 25 = .ok (.aload_n 0, 1) := by decide +kernel
theorem dX12_owes_26 : decode cX12_owes 26 = .ok (.bipush (-4), 2) := by decide +kernel
theorem dX12_owes_28 : decode cX12_owes 28 = .ok (.invokevirtual 164, 3) := by decide +kernel
theorem dX12_owes_31 : decode cX12_owes 31 = .ok (.ireturn, 1) := by decide +kernel
theorem dX12_owes_32 : decode cX12_owes 32 = .ok (.iload_n 3, 1) := by decide +kernel
theorem dX12_owes_33 : decode cX12_owes 33 = .ok (.sipush 9999, 3) := by decide +kernel
theorem dX12_owes_36 : decode cX12_owes 36 = .ok (.if_icmp .le 10, 3) := by decide +kernel
theorem dX12_owes_39 : decode cX12_owes 39 = .ok (.aload_n 0, 1) := by decide +kernel
theorem dX12_owes_40 : decode cX12_owes 40 = .ok (.bipush (-6), 2) := by decide +kernel
theorem dX12_owes_42 : decode cX12_owes 42 = .ok (.invokevirtual 164, 3) := by decide +kernel
theorem dX12_owes_45 : decode cX12_owes 45 = .ok (.ireturn, 1) := by decide +kernel
theorem dX12_owes_46 : decode cX12_owes 46 = .ok (.aload_n 0, 1) := by decide +kernel
theorem dX12_owes_47 : decode cX12_owes 47 = .ok (.getfield 119, 3) := by decide +kernel
theorem dX12_owes_50 : decode cX12_owes 50 = .ok (.bipush 20, 2) := by decide +kernel
theorem dX12_owes_52 : decode cX12_owes 52 = .ok (.iload_n 1, 1) := by decide +kernel
theorem dX12_owes_53 : decode cX12_owes 53 = .ok (.imul, 1) := by decide +kernel
theorem dX12_owes_54 : decode cX12_owes 54 = .ok (.iload_n 2, 1) := by decide +kernel
theorem dX12_owes_55 : decode cX12_owes 55 = .ok (.iadd, 1) := by decide +kernel
theorem dX12_owes_56 : decode cX12_owes 56 = .ok (.iaload, 1) := by decide +kernel
theorem dX12_owes_57 : decode cX12_owes 57 = .ok (.istore 4, 2) := by decide +kernel
theorem dX12_owes_59 : decode cX12_owes 59 = .ok (.aload_n 0, 1) := by decide +kernel
theorem dX12_owes_60 : decode cX12_owes 60 = .ok (.getfield 119, 3) := by decide +kernel
theorem dX12_owes_63 : decode cX12_owes 63 = .ok (.bipush 20, 2) := by decide +kernel
theorem dX12_owes_65 : decode cX12_owes 65 = .ok (.iload_n 1, 1) := by decide +kernel
theorem dX12_owes_66 : decode cX12_owes 66 = .ok (.imul, 1) := by decide +kernel
theorem dX12_owes_67 : decode cX12_owes 67 = .ok (.iload_n 2, 1) := by decide +kernel
theorem dX12_owes_68 : decode cX12_owes 68 = .ok (.iadd, 1) := by decide +kernel
theorem dX12_owes_69 : decode cX12_owes 69 = .ok (.iload_n 3, 1) := by decide +kernel
theorem dX12_owes_70 : decode cX12_owes 70 = .ok (.iastore, 1) := by decide +kernel
theorem dX12_owes_71 : decode cX12_owes 71 = .ok (.iload 4, 2) := by decide +kernel
theorem dX12_owes_73 : decode cX12_owes 73 = .ok (.ireturn, 1) := by decide +kernel
theorem dX12_pay_0 : decode cX12_pay 0 = .ok (.aload_n 0, 1) := by decide +kernel
theorem dX12_pay_1 : decode cX12_pay 1 = .ok (.iload_n 1, 1) := by decide +kernel
theorem dX12_pay_2 : decode cX12_pay 2 = .ok (.invokevirtual 281, 3) := by decide +kernel
theorem dX12_pay_5 : decode cX12_pay 5 = .ok (.ifCond .eq 10, 3) := by decide +kernel
theorem dX12_pay_8 : decode cX12_pay 8 = .ok (.iload_n 2, 1) := by decide +kernel
theorem dX12_pay_9 : decode cX12_pay 9 = .ok (.invokestatic 290, 3) := by decide +kernel
theorem dX12_pay_12 : decode cX12_pay 12 = .ok (.ifCond .ne 9, 3) := by decide +kernel
theorem dX12_pay_15 : decode cX12_pay 15 = .ok (.aload_n 0, 1) := by decide +kernel
theorem dX12_pay_16 : decode cX12_pay 16 = .ok (.iconst (-1), 1) := by decide +kernel
theorem dX12_pay_17 : decode cX12_pay 17 = .ok (.invokevirtual 164, 3) := by decide +kernel
theorem dX12_pay_20 : decode cX12_pay 20 = .ok (.ireturn, 1) := by decide +kernel
theorem dX12_pay_21 : decode cX12_pay 21 = .ok (.iload_n 3, 1) := by decide +kernel
theorem dX12_pay_22 : decode cX12_pay 22 = .ok (.iconst 1, 1) := by decide +kernel
theorem dX12_pay_23 : decode cX12_pay 23 = .ok (.if_icmp .ge 10, 3) := by decide +kernel
theorem dX12_pay_26 : decode cX12_pay 26 = .ok (.aload_n 0, 1) := by decide +kernel
theorem dX12_pay_27 : decode cX12_pay 27 = .ok (.bipush (-4), 2) := by decide +kernel
theorem dX12_pay_29 : decode cX12_pay 29 = .ok (.invokevirtual 164, 3) := by decide +kernel
theorem dX12_pay_32 : decode cX12_pay 32 = .ok (.ireturn, 1) := by decide +kernel
theorem dX12_pay_33 : decode cX12_pay 33 = .ok (.iload_n 3, 1) := by decide +kernel
theorem dX12_pay_34 : decode cX12_pay 34 = .ok (.sipush 9999, 3) := by decide +kernel
theorem dX12_pay_37 : decode cX12_pay 37 = .ok (.if_icmp .gt 16, 3) := by decide +kernel
theorem dX12_pay_40 : decode cX12_pay 40 = .ok (.aload_n 0, 1) := by decide +kernel
theorem dX12_pay_41 : decode cX12_pay 41 = .ok (.iload_n 1, 1) := by decide +kernel
theorem dX12_pay_42 : decode cX12_pay 42 = .ok (.invokevirtual 287, 3) := by decide +kernel
theorem dX12_pay_45 : decode cX12_pay 45 = .ok (.iload_n 3, 1) := by decide +kernel
theorem dX12_pay_46 : decode cX12_pay 46 = .ok (.iadd, 1) := by decide +kernel
theorem dX12_pay_47 : decode cX12_pay 47 = .ok (.ldc_w 293, 3) := by decide +kernel
theorem dX12_pay_50 : decode cX12_pay 50 = .ok (.if_icmp .le 10, 3) := by decide +kernel
theorem dX12_pay_53 : decode cX12_pay 53 = .ok (.aload_n 0, 1) := by decide +kernel
theorem dX12_pay_54 : decode cX12_pay 54 = .ok (.bipush (-6), 2) := by decide +kernel
theorem dX12_pay_56 : decode cX12_pay 56 = .ok (.invokevirtual 164, 3) := by decide +kernel
theorem dX12_pay_59 : decode cX12_pay 59 = .ok (.ireturn, 1) := by decide +kernel
theorem dX12_pay_60 : decode cX12_pay 60 = .ok (.aload_n 0, 1) := by decide +kernel
theorem dX12_pay_61 : decode cX12_pay 61 = .ok (.getfield 122, 3) := by decide +kernel
theorem dX12_pay_64 : decode cX12_pay 64 = .ok (.iconst 5, 1) := by decide +kernel
theorem dX12_pay_65 : decode cX12_pay 65 = .ok (.iload_n 1, 1) := by decide +kernel
theorem dX12_pay_66 : decode cX12_pay 66 = .ok (.imul, 1) := by decide +kernel
theorem dX12_pay_67 : decode cX12_pay 67 = .ok (.iload_n 2, 1) := by decide +kernel
theorem dX12_pay_68 : decode cX12_pay 68 = .ok (.iadd, 1) := by decide +kernel
theorem dX12_pay_69 : decode cX12_pay 69 = .ok (.dup2, 1) := by decide +kernel
theorem dX12_pay_70 : decode cX12_pay 70 = .ok (.iaload, 1) := by decide +kernel
theorem dX12_pay_71 : decode cX12_pay 71 = .ok (.iload_n 3, 1) := by decide +kernel
theorem dX12_pay_72 : decode cX12_pay 72 = .ok (.iadd, 1) := by decide +kernel
theorem dX12_pay_73 : decode cX12_pay 73 = .ok (.iastore, 1) := by decide +kernel
theorem dX12_pay_74 : decode cX12_pay 74 = .ok (.aload_n 0, 1) := by decide +kernel
theorem dX12_pay_75 : decode cX12_pay 75 = .ok (.iload_n 1, 1) := by decide +kernel
theorem dX12_pay_76 : decode cX12_pay 76 = .ok (.invokevirtual 287, 3) := by decide +kernel
theorem dX12_pay_79 : decode cX12_pay 79 = .ok (.ireturn, 1) := by decide +kernel
theorem dX12_dueOf_0 : decode cX12_dueOf 0 = .ok (.aload_n 0, 1) := by decide +kernel
theorem dX12_dueOf_1 : decode cX12_dueOf 1 = .ok (.iload_n 1, 1) := by decide +kernel
theorem dX12_dueOf_2 : decode cX12_dueOf 2 = .ok (.invokevirtual 284, 3) := by decide +kernel
theorem dX12_dueOf_5 : decode cX12_dueOf 5 = .ok (.istore_n 3, 1) := by decide +kernel
theorem dX12_dueOf_6 : decode cX12_dueOf 6 = .ok (.iconst 0, 1) := by decide +kernel
theorem dX12_dueOf_7 : decode cX12_dueOf 7 = .ok (.istore 4, 2) := by decide +kernel
theorem dX12_dueOf_9 : decode cX12_dueOf 9 = .ok (.iconst 0, 1) := by decide +kernel
theorem dX12_dueOf_10 : decode cX12_dueOf 10 = .ok (.istore 5, 2) := by decide +kernel
theorem dX12_dueOf_12 : decode cX12_dueOf 12 = .ok (.iload 5, 2) := by decide +kernel
theorem dX12_dueOf_14 : decode cX12_dueOf 14 = .ok (.iload_n 2, 1) := by decide +kernel
theorem dX12_dueOf_15 : decode cX12_dueOf 15 = .ok (.if_icmp .gt 37, 3) := by decide +kernel
theorem dX12_dueOf_18 : decode cX12_dueOf 18 = .ok (.iload_n 3, 1) := by decide +kernel
theorem dX12_dueOf_19 : decode cX12_dueOf 19 = .ok (.aload_n 0, 1) := by decide +kernel
theorem dX12_dueOf_20 : decode cX12_dueOf 20 = .ok (.getfield 119, 3) := by decide +kernel
theorem dX12_dueOf_23 : decode cX12_dueOf 23 = .ok (.bipush 20, 2) := by decide +kernel
theorem dX12_dueOf_25 : decode cX12_dueOf 25 = .ok (.iload 5, 2) := by decide +kernel
theorem dX12_dueOf_27 : decode cX12_dueOf 27 = .ok (.imul, 1) := by decide +kernel
theorem dX12_dueOf_28 : decode cX12_dueOf 28 = .ok (.aload_n 0, 1) := by decide +kernel
theorem dX12_dueOf_29 : decode cX12_dueOf 29 = .ok (.getfield 113, 3) := by decide +kernel
theorem dX12_dueOf_32 : decode cX12_dueOf 32 = .ok (.iload_n 1, 1) := by decide +kernel
theorem dX12_dueOf_33 : decode cX12_dueOf 33 = .ok (.iaload, 1) := by decide +kernel
theorem dX12_dueOf_34 : decode cX12_dueOf 34 = .ok (.iadd, 1) := by decide +kernel
theorem dX12_dueOf_35 : decode cX12_dueOf 35 = .ok (.iaload, 1) := by decide +kernel
theorem dX12_dueOf_36 : decode cX12_dueOf 36 = .ok (.invokestatic 203, 3) := by decide +kernel
theorem dX12_dueOf_39 : decode cX12_dueOf 39 = .ok (.istore 4, 2) := by decide +kernel
theorem dX12_dueOf_41 : decode cX12_dueOf 41 = .ok (.iload_n 3, 1) := by decide +kernel
theorem dX12_dueOf_42 : decode cX12_dueOf 42 = .ok (.iload 4, 2) := by decide +kernel
theorem dX12_dueOf_44 : decode cX12_dueOf 44 = .ok (.isub, 1) := by decide +kernel
theorem dX12_dueOf_45 : decode cX12_dueOf 45 = .ok (.istore_n 3, 1) := by decide +kernel
theorem dX12_dueOf_46 : decode cX12_dueOf 46 = .ok (.iinc 5 1, 3) := by decide +kernel
theorem dX12_dueOf_49 : decode cX12_dueOf 49 = .ok (.goto (-37), 3) := by decide +kernel
theorem dX12_dueOf_52 : decode cX12_dueOf 52 = .ok (.iload 4, 2) := by decide +kernel
theorem dX12_dueOf_54 : decode cX12_dueOf 54 = .ok (.ireturn, 1) := by decide +kernel
theorem dX12_due_0 : decode cX12_due 0 = .ok (.aload_n 0, 1) := by decide +kernel
theorem dX12_due_1 : decode cX12_due 1 = .ok (.iload_n 1, 1) := by decide +kernel
theorem dX12_due_2 : decode cX12_due 2 = .ok (.invokevirtual 281, 3) := by decide +kernel
theorem dX12_due_5 : decode cX12_due 5 = .ok (.ifCond .eq 19, 3) := by decide +kernel
theorem dX12_due_8 : decode cX12_due 8 = .ok (.iload_n 2, 1) := by decide +kernel
theorem dX12_due_9 : decode cX12_due 9 = .ok (.invokestatic 290, 3) := by decide +kernel
theorem dX12_due_12 : decode cX12_due 12 = .ok (.ifCond .eq 12, 3) := by decide +kernel
theorem dX12_due_15 : decode cX12_due 15 = .ok (.aload_n 0, 1) := by decide +kernel
theorem dX12_due_16 : decode cX12_due 16 = .ok (.iload_n 1, 1) := by decide +kernel
theorem dX12_due_17 : decode cX12_due 17 = .ok (.iload_n 2, 1) := by decide +kernel
theorem dX12_due_18 : decode cX12_due 18 = .ok (.invokevirtual 294, 3) := by decide +kernel
theorem dX12_due_21 : decode cX12_due 21 = .ok (.goto 8, 3) := by decide +kernel
theorem dX12_due_24 : decode cX12_due 24 = .ok (.aload_n 0, 1) := by decide +kernel
theorem dX12_due_25 : decode cX12_due 25 = .ok (.iconst (-1), 1) := by decide +kernel
theorem dX12_due_26 : decode cX12_due 26 = .ok (.invokevirtual 164, 3) := by decide +kernel
theorem dX12_due_29 : decode cX12_due 29 = .ok (.ireturn, 1) := by decide +kernel
theorem dX12_balanceOf_0 : decode cX12_balanceOf 0 = .ok (.iconst 0, 1) := by decide +kernel
theorem dX12_balanceOf_1 : decode cX12_balanceOf 1 = .ok (.istore_n 2, 1) := by decide +kernel
theorem dX12_balanceOf_2 : decode cX12_balanceOf 2 = .ok (.iconst 0, 1) := by decide +kernel
theorem dX12_balanceOf_3 : decode cX12_balanceOf 3 = .ok (.istore_n 3, 1) := by decide +kernel
theorem dX12_balanceOf_4 : decode cX12_balanceOf 4 = .ok (.iload_n 3, 1) := by decide +kernel
theorem dX12_balanceOf_5 : decode cX12_balanceOf 5 = .ok (.aload_n 0, 1) := by decide +kernel
theorem dX12_balanceOf_6 : decode cX12_balanceOf 6 = .ok (.getfield 275, 3) := by decide +kernel
theorem dX12_balanceOf_9 : decode cX12_balanceOf 9 = .ok (.if_icmp .ge 46, 3) := by decide +kernel
theorem dX12_balanceOf_12 : decode cX12_balanceOf 12 = .ok (.iload_n 2, 1) := by decide +kernel
theorem dX12_balanceOf_13 : decode cX12_balanceOf 13 = .ok (.aload_n 0, 1) := by decide +kernel
theorem dX12_balanceOf_14 : decode cX12_balanceOf 14 = .ok (.iload_n 3, 1) := by decide +kernel
theorem dX12_balanceOf_15 : decode cX12_balanceOf 15 = .ok (.invokevirtual 287, 3) := by decide +kernel
theorem dX12_balanceOf_18 : decode cX12_balanceOf 18 = .ok (.aload_n 0, 1) := by decide +kernel
theorem dX12_balanceOf_19 : decode cX12_balanceOf 19 = .ok (.iload_n 3, 1) := by decide +kernel
theorem dX12_balanceOf_20 : decode cX12_balanceOf 20 = .ok (.invokevirtual 284, 3) := by decide +kernel
theorem dX12_balanceOf_23 : decode cX12_balanceOf 23 = .ok (.if_icmp .lt 23, 3) := by decide +kernel
theorem dX12_balanceOf_26 : decode cX12_balanceOf 26 = .ok (.aload_n 0, 1) := by decide +kernel
theorem dX12_balanceOf_27 : decode cX12_balanceOf 27 = .ok (.getfield 122, 3) := by decide +kernel
theorem dX12_balanceOf_30 : decode cX12_balanceOf 30 = .ok (.iconst 5, 1) := by decide +kernel
theorem dX12_balanceOf_31 : decode cX12_balanceOf 31 = .ok (.iload_n 3, 1) := by decide +kernel
theorem dX12_balanceOf_32 : decode cX12_balanceOf 32 = .ok (.imul, 1) := by decide +kernel
theorem dX12_balanceOf_33 : decode cX12_balanceOf 33 = .ok (.iload_n 1, 1) := by decide +kernel
theorem dX12_balanceOf_34 : decode cX12_balanceOf 34 = .ok (.iadd, 1) := by decide +kernel
theorem dX12_balanceOf_35 : decode cX12_balanceOf 35 = .ok (.iaload, 1) := by decide +kernel
theorem dX12_balanceOf_36 : decode cX12_balanceOf 36 = .ok (.aload_n 0, 1) := by decide +kernel
theorem dX12_balanceOf_37 : decode cX12_balanceOf 37 = .ok (.iload_n 3, 1) := by decide +kernel
theorem dX12_balanceOf_38 : decode cX12_balanceOf 38 = .ok (.iload_n 1, 1) := by decide +kernel
theorem dX12_balanceOf_39 : decode cX12_balanceOf 39 = .ok (.invokevirtual 294, 3) := by decide +kernel
theorem dX12_balanceOf_42 : decode cX12_balanceOf 42 = .ok (.isub, 1) := by decide +kernel
theorem dX12_balanceOf_43 : decode cX12_balanceOf 43 = .ok (.goto 4, 3) := by decide +kernel
theorem dX12_balanceOf_46 : decode cX12_balanceOf 46 = .ok (.iconst 0, 1) := by decide +kernel
theorem dX12_balanceOf_47 : decode cX12_balanceOf 47 = .ok (.iadd, 1) := by decide +kernel
theorem dX12_balanceOf_48 : decode cX12_balanceOf 48 = .ok (.istore_n 2, 1) := by decide +kernel
theorem dX12_balanceOf_49 : decode cX12_balanceOf 49 = .ok (.iinc 3 1, 3) := by decide +kernel
theorem dX12_balanceOf_52 : decode cX12_balanceOf 52 = .ok (.goto (-48), 3) := by decide +kernel
theorem dX12_balanceOf_55 : decode cX12_balanceOf 55 = .ok (.iload_n 2, 1) := by decide +kernel
theorem dX12_balanceOf_56 : decode cX12_balanceOf 56 = .ok (.ireturn, 1) := by decide +kernel
theorem dX12_balance_0 : decode cX12_balance 0 = .ok (.iload_n 1, 1) := by decide +kernel
theorem dX12_balance_1 : decode cX12_balance 1 = .ok (.invokestatic 290, 3) := by decide +kernel
theorem dX12_balance_4 : decode cX12_balance 4 = .ok (.ifCond .eq 11, 3) := by decide +kernel
theorem dX12_balance_7 : decode cX12_balance 7 = .ok (.aload_n 0, 1) := by decide +kernel
theorem dX12_balance_8 : decode cX12_balance 8 = .ok (.iload_n 1, 1) := by decide +kernel
theorem dX12_balance_9 : decode cX12_balance 9 = .ok (.invokevirtual 297, 3) := by decide +kernel
theorem dX12_balance_12 : decode cX12_balance 12 = .ok (.goto 8, 3) := by decide +kernel
theorem dX12_balance_15 : decode cX12_balance 15 = .ok (.aload_n 0, 1) := by decide +kernel
theorem dX12_balance_16 : decode cX12_balance 16 = .ok (.iconst (-1), 1) := by decide +kernel
theorem dX12_balance_17 : decode cX12_balance 17 = .ok (.invokevirtual 178, 3) := by decide +kernel
theorem dX12_balance_20 : decode cX12_balance 20 = .ok (.ireturn, 1) := by decide +kernel
theorem dX12_back_0 : decode cX12_back 0 = .ok (.iconst 0, 1) := by decide +kernel
theorem dX12_back_1 : decode cX12_back 1 = .ok (.istore_n 1, 1) := by decide +kernel
theorem dX12_back_2 : decode cX12_back 2 = .ok (.iconst 0, 1) := by decide +kernel
theorem dX12_back_3 : decode cX12_back 3 = .ok (.istore_n 2, 1) := by decide +kernel
theorem dX12_back_4 : decode cX12_back 4 = .ok (.iload_n 2, 1) := by decide +kernel
theorem dX12_back_5 : decode cX12_back 5 = .ok (.iconst 5, 1) := by decide +kernel
theorem dX12_back_6 : decode cX12_back 6 = .ok (.if_icmp .ge 81, 3) := by decide +kernel
theorem dX12_back_9 : decode cX12_back 9 = .ok (.aload_n 0, 1) := by decide +kernel
theorem dX12_back_10 : decode cX12_back 10 = .ok (.iload_n 2, 1) := by decide +kernel
theorem dX12_back_11 : decode cX12_back 11 = .ok (.invokevirtual 297, 3) := by decide +kernel
theorem dX12_back_14 : decode cX12_back 14 = .ok (.istore_n 3, 1) := by decide +kernel
theorem dX12_back_15 : decode cX12_back 15 = .ok (.iload_n 1, 1) := by decide +kernel
theorem dX12_back_16 : decode cX12_back 16 = .ok (.iload_n 3, 1) := by decide +kernel
theorem dX12_back_17 : decode cX12_back 17 = .ok (.ifCond .eq 7, 3) := by decide +kernel
theorem dX12_back_20 : decode cX12_back 20 = .ok (.iconst 1, 1) := by decide +kernel
theorem dX12_back_21 : decode cX12_back 21 = .ok (.goto 4, 3) := by decide +kernel
theorem dX12_back_24 : decode cX12_back 24 = .ok (.iconst 0, 1) := by decide +kernel
theorem dX12_back_25 : decode cX12_back 25 = .ok (.iadd, 1) := by decide +kernel
theorem dX12_back_26 : decode cX12_back 26 = .ok (.istore_n 1, 1) := by decide +kernel
theorem dX12_back_27 : decode cX12_back 27 = .ok (.iconst 0, 1) := by decide +kernel
theorem dX12_back_28 : decode cX12_back 28 = .ok (.istore 4, 2) := by decide +kernel
theorem dX12_back_30 : decode cX12_back 30 = .ok (.iload 4, 2) := by decide +kernel
theorem dX12_back_32 : decode cX12_back 32 = .ok (.bipush 32, 2) := by decide +kernel
theorem dX12_back_34 : decode cX12_back 34 = .ok (.if_icmp .ge 47, 3) := by decide +kernel
theorem dX12_back_37 : decode cX12_back 37 = .ok (.aload_n 0, 1) := by decide +kernel
theorem dX12_back_38 : decode cX12_back 38 = .ok (.getfield 125, 3) := by decide +kernel
theorem dX12_back_41 : decode cX12_back 41 = .ok (.iload 4, 2) := by decide +kernel
theorem dX12_back_43 : decode cX12_back 43 = .ok (.iload_n 2, 1) := by decide +kernel
theorem dX12_back_44 : decode cX12_back 44 = .ok (.ifCond .ne 7, 3) := by decide +kernel
theorem dX12_back_47 : decode cX12_back 47 = .ok (.iconst 0, 1) := by decide +kernel
theorem dX12_back_48 : decode cX12_back 48 = .ok (.goto 10, 3) := by decide +kernel
theorem dX12_back_51 : decode cX12_back 51 = .ok (.aload_n 0, 1) := by decide +kernel
theorem dX12_back_52 : decode cX12_back 52 = .ok (.getfield 125, 3) := by decide +kernel
theorem dX12_back_55 : decode cX12_back 55 = .ok (.iload 4, 2) := by decide +kernel
theorem dX12_back_57 : decode cX12_back 57 = .ok (.iaload, 1) := by decide +kernel
theorem dX12_back_58 : decode cX12_back 58 = .ok (.iload 4, 2) := by decide +kernel
theorem dX12_back_60 : decode cX12_back 60 = .ok (.iload_n 2, 1) := by decide +kernel
theorem dX12_back_61 : decode cX12_back 61 = .ok (.ishr, 1) := by decide +kernel
theorem dX12_back_62 : decode cX12_back 62 = .ok (.iconst 1, 1) := by decide +kernel
theorem dX12_back_63 : decode cX12_back 63 = .ok (.iand, 1) := by decide +kernel
theorem dX12_back_64 : decode cX12_back 64 = .ok (.iconst 1, 1) := by decide +kernel
theorem dX12_back_65 : decode cX12_back 65 = .ok (.if_icmp .ne 7, 3) := by decide +kernel
theorem dX12_back_68 : decode cX12_back 68 = .ok (.iload_n 3, 1) := by decide +kernel
theorem dX12_back_69 : decode cX12_back 69 = .ok (.goto 4, 3) := by decide +kernel
theorem dX12_back_72 : decode cX12_back 72 = .ok (.iconst 0, 1) := by decide +kernel
theorem dX12_back_73 : decode cX12_back 73 = .ok (.iadd, 1) := by decide +kernel
theorem dX12_back_74 : decode cX12_back 74 = .ok (.iastore, 1) := by decide +kernel
theorem dX12_back_75 : decode cX12_back 75 = .ok (.iinc 4 1, 3) := by decide +kernel
theorem dX12_back_78 : decode cX12_back 78 = .ok (.goto (-48), 3) := by decide +kernel
theorem dX12_back_81 : decode cX12_back 81 = .ok (.iinc 2 1, 3) := by decide +kernel
theorem dX12_back_84 : decode cX12_back 84 = .ok (.goto (-80), 3) := by decide +kernel
theorem dX12_back_87 : decode cX12_back 87 = .ok (.aload_n 0, 1) := by decide +kernel
theorem dX12_back_88 : decode cX12_back 88 = .ok (.getfield 125, 3) := by decide +kernel
theorem dX12_back_91 : decode cX12_back 91 = .ok (.bipush 31, 2) := by decide +kernel
theorem dX12_back_93 : decode cX12_back 93 = .ok (.iaload, 1) := by decide +kernel
theorem dX12_back_94 : decode cX12_back 94 = .ok (.ifCond .eq 6, 3) := by decide +kernel
theorem dX12_back_97 : decode cX12_back 97 = .ok (.bipush (-9), 2) := by decide +kernel
theorem dX12_back_99 : decode cX12_back 99 = .ok (.ireturn, 1) := by decide +kernel
theorem dX12_back_100 : decode cX12_back 100 = .ok (.iconst 5, 1) := by decide +kernel
theorem dX12_back_101 : decode cX12_back 101 = .ok (.iload_n 1, 1) := by decide +kernel
theorem dX12_back_102 : decode cX12_back 102 = .ok (.isub, 1) := by decide +kernel
theorem dX12_back_103 : decode cX12_back 103 = .ok (.istore_n 2, 1) := by decide +kernel
theorem dX12_back_104 : decode cX12_back 104 = .ok (.aload_n 0, 1) := by decide +kernel
theorem dX12_back_105 : decode cX12_back 105 = .ok (.getfield 128, 3) := by decide +kernel
theorem dX12_back_108 : decode cX12_back 108 = .ok (.iconst 0, 1) := by decide +kernel
theorem dX12_back_109 : decode cX12_back 109 = .ok (.iconst 0, 1) := by decide +kernel
theorem dX12_back_110 : decode cX12_back 110 = .ok (.iastore, 1) := by decide +kernel
theorem dX12_back_111 : decode cX12_back 111 = .ok (.iconst 1, 1) := by decide +kernel
theorem dX12_back_112 : decode cX12_back 112 = .ok (.istore_n 3, 1) := by decide +kernel
theorem dX12_back_113 : decode cX12_back 113 = .ok (.iload_n 3, 1) := by decide +kernel
theorem dX12_back_114 : decode cX12_back 114 = .ok (.bipush 32, 2) := by decide +kernel
theorem dX12_back_116 : decode cX12_back 116 = .ok (.if_icmp .ge 126, 3) := by decide +kernel
theorem dX12_back_119 : decode cX12_back 119 = .ok (.aload_n 0, 1) := by decide +kernel
theorem dX12_back_120 : decode cX12_back 120 = .ok (.getfield 128, 3) := by decide +kernel
theorem dX12_back_123 : decode cX12_back 123 = .ok (.iload_n 3, 1) := by decide +kernel
theorem dX12_back_124 : decode cX12_back 124 = .ok (.iconst (-1), 1) := by decide +kernel
theorem dX12_back_125 : decode cX12_back 125 = .ok (.iastore, 1) := by decide +kernel
theorem dX12_back_126 : decode cX12_back 126 = .ok (.iconst 1, 1) := by decide +kernel
theorem dX12_back_127 : decode cX12_back 127 = .ok (.istore 4, 2) := by decide +kernel
theorem dX12_back_129 : decode cX12_back 129 = .ok (.iload 4, 2) := by decide +kernel
theorem dX12_back_131 : decode cX12_back 131 = .ok (.iload_n 3, 1) := by decide +kernel
theorem dX12_back_132 : decode cX12_back 132 = .ok (.if_icmp .gt 104, 3) := by decide +kernel
theorem dX12_back_135 : decode cX12_back 135 = .ok (.iload 4, 2) := by decide +kernel
theorem dX12_back_137 : decode cX12_back 137 = .ok (.iload_n 3, 1) := by decide +kernel
theorem dX12_back_138 : decode cX12_back 138 = .ok (.iconst (-1), 1) := by decide +kernel
theorem dX12_back_139 : decode cX12_back 139 = .ok (.ixor, 1) := by decide +kernel
theorem dX12_back_140 : decode cX12_back 140 = .ok (.iand, 1) := by decide +kernel
theorem dX12_back_141 : decode cX12_back 141 = .ok (.ifCond .ne 31, 3) := by decide +kernel
theorem dX12_back_144 : decode cX12_back 144 = .ok (.aload_n 0, 1) := by decide +kernel
theorem dX12_back_145 : decode cX12_back 145 = .ok (.getfield 125, 3) := by decide +kernel
theorem dX12_back_148 : decode cX12_back 148 = .ok (.iload 4, 2) := by decide +kernel
theorem dX12_back_150 : decode cX12_back 150 = .ok (.iaload, 1) := by decide +kernel
theorem dX12_back_151 : decode cX12_back 151 = .ok (.ifCond .ne 21, 3) := by decide +kernel
theorem dX12_back_154 : decode cX12_back 154 = .ok (.aload_n 0, 1) := by decide +kernel
theorem dX12_back_155 : decode cX12_back 155 = .ok (.getfield 128, 3) := by decide +kernel
theorem dX12_back_158 : decode cX12_back 158 = .ok (.iload_n 3, 1) := by decide +kernel
theorem dX12_back_159 : decode cX12_back 159 = .ok (.iload 4, 2) := by decide +kernel
theorem dX12_back_161 : decode cX12_back 161 = .ok (.iconst (-1), 1) := by decide +kernel
theorem dX12_back_162 : decode cX12_back 162 = .ok (.ixor, 1) := by decide +kernel
theorem dX12_back_163 : decode cX12_back 163 = .ok (.iand, 1) := by decide +kernel
theorem dX12_back_164 : decode cX12_back 164 = .ok (.iaload, 1) := by decide +kernel
theorem dX12_back_165 : decode cX12_back 165 = .ok (.ifCond .lt 7, 3) := by decide +kernel
theorem dX12_back_168 : decode cX12_back 168 = .ok (.iconst 1, 1) := by decide +kernel
theorem dX12_back_169 : decode cX12_back 169 = .ok (.goto 4, 3) := by decide +kernel
theorem dX12_back_172 : decode cX12_back 172 = .ok (.iconst 0, 1) := by decide +kernel
theorem dX12_back_173 : decode cX12_back 173 = .ok (.istore 5, 2) := by decide +kernel
theorem dX12_back_175 : decode cX12_back 175 = .ok (.aload_n 0, 1) := by decide +kernel
theorem dX12_back_176 : decode cX12_back 176 = .ok (.getfield 128, 3) := by decide +kernel
theorem dX12_back_179 : decode cX12_back 179 = .ok (.iload_n 3, 1) := by decide +kernel
theorem dX12_back_180 : decode cX12_back 180 = .ok (.iload 5, 2) := by decide +kernel
theorem dX12_back_182 : decode cX12_back 182 = .ok (.ifCond .eq 41, 3) := by decide +kernel
theorem dX12_back_185 : decode cX12_back 185 = .ok (.aload_n 0, 1) := by decide +kernel
theorem dX12_back_186 : decode cX12_back 186 = .ok (.getfield 128, 3) := by decide +kernel
theorem dX12_back_189 : decode cX12_back 189 = .ok (.iload_n 3, 1) := by decide +kernel
theorem dX12_back_190 : decode cX12_back 190 = .ok (.iload 4, 2) := by decide +kernel
theorem dX12_back_192 : decode cX12_back 192 = .ok (.iconst (-1), 1) := by decide +kernel
theorem dX12_back_193 : decode cX12_back 193 = .ok (.ixor, 1) := by decide +kernel
theorem dX12_back_194 : decode cX12_back 194 = .ok (.iand, 1) := by decide +kernel
theorem dX12_back_195 : decode cX12_back 195 = .ok (.iaload, 1) := by decide +kernel
theorem dX12_back_196 : decode cX12_back 196 = .ok (.iconst 1, 1) := by decide +kernel
theorem dX12_back_197 : decode cX12_back 197 = .ok (.iadd, 1) := by decide +kernel
theorem dX12_back_198 : decode cX12_back 198 = .ok (.aload_n 0, 1) := by decide +kernel
theorem dX12_back_199 : decode cX12_back 199 = .ok (.getfield 128, 3) := by decide +kernel
theorem dX12_back_202 : decode cX12_back 202 = .ok (.iload_n 3, 1) := by decide +kernel
theorem dX12_back_203 : decode cX12_back 203 = .ok (.iaload, 1) := by decide +kernel
theorem dX12_back_204 : decode cX12_back 204 = .ok (.if_icmp .le 19, 3) := by decide +kernel
theorem dX12_back_207 : decode cX12_back 207 = .ok (.aload_n 0, 1) := by decide +kernel
theorem dX12_back_208 : decode cX12_back 208 = .ok (.getfield 128, 3) := by decide +kernel
theorem dX12_back_211 : decode cX12_back 211 = .ok (.iload_n 3, 1) := by decide +kernel
theorem dX12_back_212 : decode cX12_back 212 = .ok (.iload 4, 2) := by decide +kernel
theorem dX12_back_214 : decode cX12_back 214 = .ok (.iconst (-1), 1) := by decide +kernel
theorem dX12_back_215 : decode cX12_back 215 = .ok (.ixor, 1) := by decide +kernel
theorem dX12_back_216 : decode cX12_back 216 = .ok (.iand, 1) := by decide +kernel
theorem dX12_back_217 : decode cX12_back 217 = .ok (.iaload, 1) := by decide +kernel
theorem dX12_back_218 : decode cX12_back 218 = .ok (.iconst 1, 1) := by decide +kernel
theorem dX12_back_219 : decode cX12_back 219 = .ok (.iadd, 1) := by decide +kernel
theorem dX12_back_220 : decode cX12_back 220 = .ok (.goto 9, 3) := by decide +kernel
theorem dX12_back_223 : decode cX12_back 223 = .ok (.aload_n 0, 1) := by decide +kernel
theorem dX12_back_224 : decode cX12_back 224 = .ok (.getfield 128, 3) := by decide +kernel
theorem dX12_back_227 : decode cX12_back 227 = .ok (.iload_n 3, 1) := by decide +kernel
theorem dX12_back_228 : decode cX12_back 228 = .ok (.iaload, 1) := by decide +kernel
theorem dX12_back_229 : decode cX12_back 229 = .ok (.iastore, 1) := by decide +kernel
theorem dX12_back_230 : decode cX12_back 230 = .ok (.iinc 4 1, 3) := by decide +kernel
theorem dX12_back_233 : decode cX12_back 233 = .ok (.goto (-104), 3) := by decide +kernel
theorem dX12_back_236 : decode cX12_back 236 = .ok (.iinc 3 1, 3) := by decide +kernel
theorem dX12_back_239 : decode cX12_back 239 = .ok (.goto (-126), 3) := by decide +kernel
theorem dX12_back_242 : decode cX12_back 242 = .ok (.iload_n 1, 1) := by decide +kernel
theorem dX12_back_243 : decode cX12_back 243 = .ok (.aload_n 0, 1) := by decide +kernel
theorem dX12_back_244 : decode cX12_back 244 = .ok (.getfield 128, 3) := by decide +kernel
theorem dX12_back_247 : decode cX12_back 247 = .ok (.bipush 31, 2) := by decide +kernel
theorem dX12_back_249 : decode cX12_back 249 = .ok (.iaload, 1) := by decide +kernel
theorem dX12_back_250 : decode cX12_back 250 = .ok (.iload_n 2, 1) := by decide +kernel
theorem dX12_back_251 : decode cX12_back 251 = .ok (.isub, 1) := by decide +kernel
theorem dX12_back_252 : decode cX12_back 252 = .ok (.isub, 1) := by decide +kernel
theorem dX12_back_253 : decode cX12_back 253 = .ok (.ireturn, 1) := by decide +kernel
theorem dX12_judged_0 : decode cX12_judged 0 = .ok (.iload_n 1, 1) := by decide +kernel
theorem dX12_judged_1 : decode cX12_judged 1 = .ok (.invokestatic 244, 3) := by decide +kernel
theorem dX12_judged_4 : decode cX12_judged 4 = .ok (.ifCond .eq 10, 3) := by decide +kernel
theorem dX12_judged_7 : decode cX12_judged 7 = .ok (.iload_n 2, 1) := by decide +kernel
theorem dX12_judged_8 : decode cX12_judged 8 = .ok (.invokestatic 184, 3) := by decide +kernel
theorem dX12_judged_11 : decode cX12_judged 11 = .ok (.ifCond .ne 9, 3) := by decide +kernel
theorem dX12_judged_14 : decode cX12_judged 14 = .ok (.aload_n 0, 1) := by decide +kernel
theorem dX12_judged_15 : decode cX12_judged 15 = .ok (.iconst (-1), 1) := by decide +kernel
theorem dX12_judged_16 : decode cX12_judged 16 = .ok (.invokevirtual 164, 3) := by decide +kernel
theorem dX12_judged_19 : decode cX12_judged 19 = .ok (.ireturn, 1) := by decide +kernel
theorem dX12_judged_20 : decode cX12_judged 20 = .ok (.iload_n 3, 1) := by decide +kernel
theorem dX12_judged_21 : decode cX12_judged 21 = .ok (.ifCond .lt 13, 3) := by decide +kernel
theorem dX12_judged_24 : decode cX12_judged 24 = .ok (.iload 4, 2) := by decide +kernel
theorem dX12_judged_26 : decode cX12_judged 26 = .ok (.ifCond .lt 8, 3) := by decide +kernel
theorem dX12_judged_29 : decode cX12_judged 29 = .ok (.iload 6, 2) := by decide +kernel
theorem dX12_judged_31 : decode cX12_judged 31 = .ok (.ifCond .ge 10, 3) := by decide +kernel
theorem dX12_judged_34 : decode cX12_judged 34 = .ok (.aload_n 0, 1) := by decide +kernel
theorem dX12_judged_35 : decode cX12_judged 35 = .ok (.bipush (-4), 2) := by decide +kernel
theorem dX12_judged_37 : decode cX12_judged 37 = .ok (.invokevirtual 164, 3) := by decide +kernel
theorem dX12_judged_40 : decode cX12_judged 40 = .ok (.ireturn, 1) := by decide +kernel
theorem dX12_judged_41 : decode cX12_judged 41 = .ok (.iload_n 3, 1) := by decide +kernel
theorem dX12_judged_42 : decode cX12_judged 42 = .ok (.sipush 9999, 3) := by decide +kernel
theorem dX12_judged_45 : decode cX12_judged 45 = .ok (.if_icmp .gt 28, 3) := by decide +kernel
theorem dX12_judged_48 : decode cX12_judged 48 = .ok (.iload 4, 2) := by decide +kernel
theorem dX12_judged_50 : decode cX12_judged 50 = .ok (.sipush 9999, 3) := by decide +kernel
theorem dX12_judged_53 : decode cX12_judged 53 = .ok (.if_icmp .gt 20, 3) := by decide +kernel
theorem dX12_judged_56 : decode cX12_judged 56 = .ok (.iload 6, 2) := by decide +kernel
theorem dX12_judged_58 : decode cX12_judged 58 = .ok (.sipush 9999, 3) := by decide +kernel
theorem dX12_judged_61 : decode cX12_judged 61 = .ok (.if_icmp .gt 12, 3) := by decide +kernel
theorem dX12_judged_64 : decode cX12_judged 64 = .ok (.aload_n 0, 1) := by decide +kernel
theorem dX12_judged_65 : decode cX12_judged 65 = .ok (.getfield 300, 3) := by decide +kernel
theorem dX12_judged_68 : decode cX12_judged 68 = .ok (.bipush 40, 2) := by decide +kernel
theorem dX12_judged_70 : decode cX12_judged 70 = .ok (.if_icmp .ne 10, 3) := by decide +kernel
theorem dX12_judged_73 : decode cX12_judged 73 = .ok (.aload_n 0, 1) := by decide +kernel
theorem dX12_judged_74 : decode cX12_judged 74 = .ok (.bipush (-6), 2) := by decide +kernel
theorem dX12_judged_76 : decode cX12_judged 76 = .ok (.invokevirtual 164, 3) := by decide +kernel
theorem dX12_judged_79 : decode cX12_judged 79 = .ok (.ireturn, 1) := by decide +kernel
theorem dX12_judged_80 : decode cX12_judged 80 = .ok (.aload_n 0, 1) := by decide +kernel
theorem dX12_judged_81 : decode cX12_judged 81 = .ok (.getfield 131, 3) := by decide +kernel
theorem dX12_judged_84 : decode cX12_judged 84 = .ok (.aload_n 0, 1) := by decide +kernel
theorem dX12_judged_85 : decode cX12_judged 85 = .ok (.getfield 300, 3) := by decide +kernel
theorem dX12_judged_88 : decode cX12_judged 88 = .ok (.iload_n 1, 1) := by decide +kernel
theorem dX12_judged_89 : decode cX12_judged 89 = .ok (.iastore, 1) := by decide +kernel
theorem dX12_judged_90 : decode cX12_judged 90 = .ok (.aload_n 0, 1) := by decide +kernel
theorem dX12_judged_91 : decode cX12_judged 91 = .ok (.getfield 134, 3) := by decide +kernel
theorem dX12_judged_94 : decode cX12_judged 94 = .ok (.aload_n 0, 1) := by decide +kernel
theorem dX12_judged_95 : decode cX12_judged 95 = .ok (.getfield 300, 3) := by decide +kernel
theorem dX12_judged_98 : decode cX12_judged 98 = .ok (.iload_n 2, 1) := by decide +kernel
theorem dX12_judged_99 : decode cX12_judged 99 = .ok (.iastore, 1) := by decide +kernel
theorem dX12_judged_100 : decode cX12_judged 100 = .ok (.aload_n 0, 1) := by decide +kernel
theorem dX12_judged_101 : decode cX12_judged 101 = .ok (.getfield 137, 3) := by decide +kernel
theorem dX12_judged_104 : decode cX12_judged 104 = .ok (.aload_n 0, 1) := by decide +kernel
theorem dX12_judged_105 : decode cX12_judged 105 = .ok (.getfield 300, 3) := by decide +kernel
theorem dX12_judged_108 : decode cX12_judged 108 = .ok (.iload_n 3, 1) := by decide +kernel
theorem dX12_judged_109 : decode cX12_judged 109 = .ok (.iastore, 1) := by decide +kernel
theorem dX12_judged_110 : decode cX12_judged 110 = .ok (.aload_n 0, 1) := by decide +kernel
theorem dX12_judged_111 : decode cX12_judged 111 = .ok (.getfield 140, 3) := by decide +kernel
theorem dX12_judged_114 : decode cX12_judged 114 = .ok (.aload_n 0, 1) := by decide +kernel
theorem dX12_judged_115 : decode cX12_judged 115 = .ok (.getfield 300, 3) := by decide +kernel
theorem dX12_judged_118 : decode cX12_judged 118 = .ok (.iload 4, 2) := by decide +kernel
theorem dX12_judged_120 : decode cX12_judged 120 = .ok (.iastore, 1) := by decide +kernel
theorem dX12_judged_121 : decode cX12_judged 121 = .ok (.aload_n 0, 1) := by decide +kernel
theorem dX12_judged_122 : decode cX12_judged 122 = .ok (.getfield 143, 3) := by decide +kernel
theorem dX12_judged_125 : decode cX12_judged 125 = .ok (.aload_n 0, 1) := by decide +kernel
theorem dX12_judged_126 : decode cX12_judged 126 = .ok (.getfield 300, 3) := by decide +kernel
theorem dX12_judged_129 : decode cX12_judged 129 = .ok (.iload 5, 2) := by decide +kernel
theorem dX12_judged_131 : decode cX12_judged 131 = .ok (.bastore, 1) := by decide +kernel
theorem dX12_judged_132 : decode cX12_judged 132 = .ok (.aload_n 0, 1) := by decide +kernel
theorem dX12_judged_133 : decode cX12_judged 133 = .ok (.getfield 146, 3) := by decide +kernel
theorem dX12_judged_136 : decode cX12_judged 136 = .ok (.aload_n 0, 1) := by decide +kernel
theorem dX12_judged_137 : decode cX12_judged 137 = .ok (.getfield 300, 3) := by decide +kernel
theorem dX12_judged_140 : decode cX12_judged 140 = .ok (.iload 6, 2) := by decide +kernel
theorem dX12_judged_142 : decode cX12_judged 142 = .ok (.iastore, 1) := by decide +kernel
theorem dX12_judged_143 : decode cX12_judged 143 = .ok (.aload_n 0, 1) := by decide +kernel
theorem dX12_judged_144 : decode cX12_judged 144 = .ok (.dup, 1) := by decide +kernel
theorem dX12_judged_145 : decode cX12_judged 145 = .ok (.getfield 300, 3) := by decide +kernel
theorem dX12_judged_148 : decode cX12_judged 148 = .ok (.iconst 1, 1) := by decide +kernel
theorem dX12_judged_149 : decode cX12_judged 149 = .ok (.iadd, 1) := by decide +kernel
theorem dX12_judged_150 : decode cX12_judged 150 = .ok (.putfield 300, 3) := by decide +kernel
theorem dX12_judged_153 : decode cX12_judged 153 = .ok (.aload_n 0, 1) := by decide +kernel
theorem dX12_judged_154 : decode cX12_judged 154 = .ok (.getfield 300, 3) := by decide +kernel
theorem dX12_judged_157 : decode cX12_judged 157 = .ok (.iconst 1, 1) := by decide +kernel
theorem dX12_judged_158 : decode cX12_judged 158 = .ok (.isub, 1) := by decide +kernel
theorem dX12_judged_159 : decode cX12_judged 159 = .ok (.ireturn, 1) := by decide +kernel
theorem dX12_findLike_0 : decode cX12_findLike 0 = .ok (.aload_n 0, 1) := by decide +kernel
theorem dX12_findLike_1 : decode cX12_findLike 1 = .ok (.getfield 113, 3) := by decide +kernel
theorem dX12_findLike_4 : decode cX12_findLike 4 = .ok (.iload_n 1, 1) := by decide +kernel
theorem dX12_findLike_5 : decode cX12_findLike 5 = .ok (.iaload, 1) := by decide +kernel
theorem dX12_findLike_6 : decode cX12_findLike 6 = .ok (.istore_n 2, 1) := by decide +kernel
theorem dX12_findLike_7 : decode cX12_findLike 7 = .ok (.aload_n 0, 1) := by decide +kernel
theorem dX12_findLike_8 : decode cX12_findLike 8 = .ok (.iload_n 2, 1) := by decide +kernel
theorem dX12_findLike_9 : decode cX12_findLike 9 = .ok (.aload_n 0, 1) := by decide +kernel
theorem dX12_findLike_10 : decode cX12_findLike 10 = .ok (.getfield 116, 3) := by decide +kernel
theorem dX12_findLike_13 : decode cX12_findLike 13 = .ok (.iload_n 1, 1) := by decide +kernel
theorem dX12_findLike_14 : decode cX12_findLike 14 = .ok (.iaload, 1) := by decide +kernel
theorem dX12_findLike_15 : decode cX12_findLike 15 = .ok (.invokevirtual 260, 3) := by decide +kernel
theorem dX12_findLike_18 : decode cX12_findLike 18 = .ok (.istore_n 3, 1) := by decide +kernel
theorem dX12_findLike_19 : decode cX12_findLike 19 = .ok (.aload_n 0, 1) := by decide +kernel
theorem dX12_findLike_20 : decode cX12_findLike 20 = .ok (.iload_n 2, 1) := by decide +kernel
theorem dX12_findLike_21 : decode cX12_findLike 21 = .ok (.invokevirtual 241, 3) := by decide +kernel
theorem dX12_findLike_24 : decode cX12_findLike 24 = .ok (.istore 4, 2) := by decide +kernel
theorem dX12_findLike_26 : decode cX12_findLike 26 = .ok (.aload_n 0, 1) := by decide +kernel
theorem dX12_findLike_27 : decode cX12_findLike 27 = .ok (.iload_n 2, 1) := by decide +kernel
theorem dX12_findLike_28 : decode cX12_findLike 28 = .ok (.invokevirtual 238, 3) := by decide +kernel
theorem dX12_findLike_31 : decode cX12_findLike 31 = .ok (.istore 5, 2) := by decide +kernel
theorem dX12_findLike_33 : decode cX12_findLike 33 = .ok (.iconst 0, 1) := by decide +kernel
theorem dX12_findLike_34 : decode cX12_findLike 34 = .ok (.istore 6, 2) := by decide +kernel
theorem dX12_findLike_36 : decode cX12_findLike 36 = .ok (.iconst 0, 1) := by decide +kernel
theorem dX12_findLike_37 : decode cX12_findLike 37 = .ok (.istore 7, 2) := by decide +kernel
theorem dX12_findLike_39 : decode cX12_findLike 39 = .ok (.iload 7, 2) := by decide +kernel
theorem dX12_findLike_41 : decode cX12_findLike 41 = .ok (.aload_n 0, 1) := by decide +kernel
theorem dX12_findLike_42 : decode cX12_findLike 42 = .ok (.getfield 300, 3) := by decide +kernel
theorem dX12_findLike_45 : decode cX12_findLike 45 = .ok (.if_icmp .ge 152, 3) := by decide +kernel
theorem dX12_findLike_48 : decode cX12_findLike 48 = .ok (.aload_n 0, 1) := by decide +kernel
theorem dX12_findLike_49 : decode cX12_findLike 49 = .ok (.getfield 131, 3) := by decide +kernel
theorem dX12_findLike_52 : decode cX12_findLike 52 = .ok (.iload 7, 2) := by decide +kernel
theorem dX12_findLike_54 : decode cX12_findLike 54 = .ok (.iaload, 1) := by decide +kernel
theorem dX12_findLike_55 : decode cX12_findLike 55 = .ok (.iload_n 3, 1) := by decide +kernel
theorem dX12_findLike_56 : decode cX12_findLike 56 = .ok (.if_icmp .ne 135, 3) := by decide +kernel
theorem dX12_findLike_59 : decode cX12_findLike 59 = .ok (.aload_n 0, 1) := by decide +kernel
theorem dX12_findLike_60 : decode cX12_findLike 60 = .ok (.getfield 134, 3) := by decide +kernel
theorem dX12_findLike_63 : decode cX12_findLike 63 = .ok (.iload 7, 2) := by decide +kernel
theorem dX12_findLike_65 : decode cX12_findLike 65 = .ok (.iaload, 1) := by decide +kernel
theorem dX12_findLike_66 : decode cX12_findLike 66 = .ok (.iload 4, 2) := by decide +kernel
theorem dX12_findLike_68 : decode cX12_findLike 68 = .ok (.if_icmp .ne 123, 3) := by decide +kernel
theorem dX12_findLike_71 : decode cX12_findLike 71 = .ok (.iload 5, 2) := by decide +kernel
theorem dX12_findLike_73 : decode cX12_findLike 73 = .ok (.aload_n 0, 1) := by decide +kernel
theorem dX12_findLike_74 : decode cX12_findLike 74 = .ok (.getfield 137, 3) := by decide +kernel
theorem dX12_findLike_77 : decode cX12_findLike 77 = .ok (.iload 7, 2) := by decide +kernel
theorem dX12_findLike_79 : decode cX12_findLike 79 = .ok (.iaload, 1) := by decide +kernel
theorem dX12_findLike_80 : decode cX12_findLike 80 = .ok (.isub, 1) := by decide +kernel
theorem dX12_findLike_81 : decode cX12_findLike 81 = .ok (.invokestatic 303, 3) := by decide +kernel
theorem dX12_findLike_84 : decode cX12_findLike 84 = .ok (.bipush 10, 2) := by decide +kernel
theorem dX12_findLike_86 : decode cX12_findLike 86 = .ok (.idiv, 1) := by decide +kernel
theorem dX12_findLike_87 : decode cX12_findLike 87 = .ok (.aload_n 0, 1) := by decide +kernel
theorem dX12_findLike_88 : decode cX12_findLike 88 = .ok (.iload_n 2, 1) := by decide +kernel
theorem dX12_findLike_89 : decode cX12_findLike 89 = .ok (.invokevirtual 266, 3) := by decide +kernel
theorem dX12_findLike_92 : decode cX12_findLike 92 = .ok (.aload_n 0, 1) := by decide +kernel
theorem dX12_findLike_93 : decode cX12_findLike 93 = .ok (.getfield 140, 3) := by decide +kernel
theorem dX12_findLike_96 : decode cX12_findLike 96 = .ok (.iload 7, 2) := by decide +kernel
theorem dX12_findLike_98 : decode cX12_findLike 98 = .ok (.iaload, 1) := by decide +kernel
theorem dX12_findLike_99 : decode cX12_findLike 99 = .ok (.isub, 1) := by decide +kernel
theorem dX12_findLike_100 : decode cX12_findLike 100 = .ok (.invokestatic 303, 3) := by decide +kernel
theorem dX12_findLike_103 : decode cX12_findLike 103 = .ok (.bipush 50, 2) := by decide +kernel
theorem dX12_findLike_105 : decode cX12_findLike 105 = .ok (.idiv, 1) := by decide +kernel
theorem dX12_findLike_106 : decode cX12_findLike 106 = .ok (.iadd, 1) := by decide +kernel
theorem dX12_findLike_107 : decode cX12_findLike 107 = .ok (.istore 8, 2) := by decide +kernel
theorem dX12_findLike_109 : decode cX12_findLike 109 = .ok (.iload 6, 2) := by decide +kernel
theorem dX12_findLike_111 : decode cX12_findLike 111 = .ok (.istore 9, 2) := by decide +kernel
theorem dX12_findLike_113 : decode cX12_findLike 113 = .ok (.iload 9, 2) := by decide +kernel
theorem dX12_findLike_115 : decode cX12_findLike 115 = .ok (.ifCond .le 55, 3) := by decide +kernel
theorem dX12_findLike_118 : decode cX12_findLike 118 = .ok (.aload_n 0, 1) := by decide +kernel
theorem dX12_findLike_119 : decode cX12_findLike 119 = .ok (.getfield 152, 3) := by decide +kernel
theorem dX12_findLike_122 : decode cX12_findLike 122 = .ok (.iload 9, 2) := by decide +kernel
theorem dX12_findLike_124 : decode cX12_findLike 124 = .ok (.iconst 1, 1) := by decide +kernel
theorem dX12_findLike_125 : decode cX12_findLike 125 = .ok (.isub, 1) := by decide +kernel
theorem dX12_findLike_126 : decode cX12_findLike 126 = .ok (.iaload, 1) := by decide +kernel
theorem dX12_findLike_127 : decode cX12_findLike 127 = .ok (.iload 8, 2) := by decide +kernel
theorem dX12_findLike_129 : decode cX12_findLike 129 = .ok (.if_icmp .le 41, 3) := by decide +kernel
theorem dX12_findLike_132 : decode cX12_findLike 132 = .ok (.aload_n 0, 1) := by decide +kernel
theorem dX12_findLike_133 : decode cX12_findLike 133 = .ok (.getfield 152, 3) := by decide +kernel
theorem dX12_findLike_136 : decode cX12_findLike 136 = .ok (.iload 9, 2) := by decide +kernel
theorem dX12_findLike_138 : decode cX12_findLike 138 = .ok (.aload_n 0, 1) := by decide +kernel
theorem dX12_findLike_139 : decode cX12_findLike 139 = .ok (.getfield 152, 3) := by decide +kernel
theorem dX12_findLike_142 : decode cX12_findLike 142 = .ok (.iload 9, 2) := by decide +kernel
theorem dX12_findLike_144 : decode cX12_findLike 144 = .ok (.iconst 1, 1) := by decide +kernel
theorem dX12_findLike_145 : decode cX12_findLike 145 = .ok (.isub, 1) := by decide +kernel
theorem dX12_findLike_146 : decode cX12_findLike 146 = .ok (.iaload, 1) := by decide +kernel
theorem dX12_findLike_147 : decode cX12_findLike 147 = .ok (.iastore, 1) := by decide +kernel
theorem dX12_findLike_148 : decode cX12_findLike 148 = .ok (.aload_n 0, 1) := by decide +kernel
theorem dX12_findLike_149 : decode cX12_findLike 149 = .ok (.getfield 149, 3) := by decide +kernel
theorem dX12_findLike_152 : decode cX12_findLike 152 = .ok (.iload 9, 2) := by decide +kernel
theorem dX12_findLike_154 : decode cX12_findLike 154 = .ok (.aload_n 0, 1) := by decide +kernel
theorem dX12_findLike_155 : decode cX12_findLike 155 = .ok (.getfield 149, 3) := by decide +kernel
theorem dX12_findLike_158 : decode cX12_findLike 158 = .ok (.iload 9, 2) := by decide +kernel
theorem dX12_findLike_160 : decode cX12_findLike 160 = .ok (.iconst 1, 1) := by decide +kernel
theorem dX12_findLike_161 : decode cX12_findLike 161 = .ok (.isub, 1) := by decide +kernel
theorem dX12_findLike_162 : decode cX12_findLike 162 = .ok (.iaload, 1) := by decide +kernel
theorem dX12_findLike_163 : decode cX12_findLike 163 = .ok (.iastore, 1) := by decide +kernel
theorem dX12_findLike_164 : decode cX12_findLike 164 = .ok (.iinc 9 (-1), 3) := by decide +kernel
theorem dX12_findLike_167 : decode cX12_findLike 167 = .ok (.goto (-54), 3) := by decide +kernel
theorem dX12_findLike_170 : decode cX12_findLike 170 = .ok (.aload_n 0, 1) := by decide +kernel
theorem dX12_findLike_171 : decode cX12_findLike 171 = .ok (.getfield 152, 3) := by decide +kernel
theorem dX12_findLike_174 : decode cX12_findLike 174 = .ok (.iload 9, 2) := by decide +kernel
theorem dX12_findLike_176 : decode cX12_findLike 176 = .ok (.iload 8, 2) := by decide +kernel
theorem dX12_findLike_178 : decode cX12_findLike 178 = .ok (.iastore, 1) := by decide +kernel
theorem dX12_findLike_179 : decode cX12_findLike 179 = .ok (.aload_n 0, 1) := by decide +kernel
theorem dX12_findLike_180 : decode cX12_findLike 180 = .ok (.getfield 149, 3) := by decide +kernel
theorem dX12_findLike_183 : decode cX12_findLike 183 = .ok (.iload 9, 2) := by decide +kernel
theorem dX12_findLike_185 : decode cX12_findLike 185 = .ok (.iload 7, 2) := by decide +kernel
theorem dX12_findLike_187 : decode cX12_findLike 187 = .ok (.iastore, 1) := by decide +kernel
theorem dX12_findLike_188 : decode cX12_findLike 188 = .ok (.iinc 6 1, 3) := by decide +kernel
theorem dX12_findLike_191 : decode cX12_findLike 191 = .ok (.iinc 7 1, 3) := by decide +kernel
theorem dX12_findLike_194 : decode cX12_findLike 194 = .ok (.goto (-155), 3) := by decide +kernel
theorem dX12_findLike_197 : decode cX12_findLike 197 = .ok (.aload_n 0, 1) := by decide +kernel
theorem dX12_findLike_198 : decode cX12_findLike 198 = .ok (.iload 6, 2) := by decide +kernel
theorem dX12_findLike_200 : decode cX12_findLike 200 = .ok (.aload_n 0, 1) := by decide +kernel
theorem dX12_findLike_201 : decode cX12_findLike 201 = .ok (.getfield 53, 3) := by decide +kernel
theorem dX12_findLike_204 : decode cX12_findLike 204 = .ok (.iconst 3, 1) := by decide +kernel
theorem dX12_findLike_205 : decode cX12_findLike 205 = .ok (.iaload, 1) := by decide +kernel
theorem dX12_findLike_206 : decode cX12_findLike 206 = .ok (.invokestatic 203, 3) := by decide +kernel
theorem dX12_findLike_209 : decode cX12_findLike 209 = .ok (.putfield 306, 3) := by decide +kernel
theorem dX12_findLike_212 : decode cX12_findLike 212 = .ok (.aload_n 0, 1) := by decide +kernel
theorem dX12_findLike_213 : decode cX12_findLike 213 = .ok (.iconst 0, 1) := by decide +kernel
theorem dX12_findLike_214 : decode cX12_findLike 214 = .ok (.putfield 309, 3) := by decide +kernel
theorem dX12_findLike_217 : decode cX12_findLike 217 = .ok (.aload_n 0, 1) := by decide +kernel
theorem dX12_findLike_218 : decode cX12_findLike 218 = .ok (.iconst 0, 1) := by decide +kernel
theorem dX12_findLike_219 : decode cX12_findLike 219 = .ok (.putfield 312, 3) := by decide +kernel
theorem dX12_findLike_222 : decode cX12_findLike 222 = .ok (.iconst 0, 1) := by decide +kernel
theorem dX12_findLike_223 : decode cX12_findLike 223 = .ok (.istore 7, 2) := by decide +kernel
theorem dX12_findLike_225 : decode cX12_findLike 225 = .ok (.iload 7, 2) := by decide +kernel
theorem dX12_findLike_227 : decode cX12_findLike 227 = .ok (.aload_n 0, 1) := by decide +kernel
theorem dX12_findLike_228 : decode cX12_findLike 228 = .ok (.getfield 306, 3) := by decide +kernel
theorem dX12_findLike_231 : decode cX12_findLike 231 = .ok (.if_icmp .ge 59, 3) := by decide +kernel
theorem dX12_findLike_234 : decode cX12_findLike 234 = .ok (.aload_n 0, 1) := by decide +kernel
theorem dX12_findLike_235 : decode cX12_findLike 235 = .ok (.dup, 1) := by decide +kernel
theorem dX12_findLike_236 : decode cX12_findLike 236 = .ok (.getfield 309, 3) := by decide +kernel
theorem dX12_findLike_239 : decode cX12_findLike 239 = .ok (.aload_n 0, 1) := by decide +kernel
theorem dX12_findLike_240 : decode cX12_findLike 240 = .ok (.getfield 143, 3) := by decide +kernel
theorem dX12_findLike_243 : decode cX12_findLike 243 = .ok (.aload_n 0, 1) := by decide +kernel
theorem dX12_findLike_244 : decode cX12_findLike 244 = .ok (.getfield 149, 3) := by decide +kernel
theorem dX12_findLike_247 : decode cX12_findLike 247 = .ok (.iload 7, 2) := by decide +kernel
theorem dX12_findLike_249 : decode cX12_findLike 249 = .ok (.iaload, 1) := by decide +kernel
theorem dX12_findLike_250 : decode cX12_findLike 250 = .ok (.baload, 1) := by decide +kernel
theorem dX12_findLike_251 : decode cX12_findLike 251 = .ok (.ifCond .eq 7, 3) := by decide +kernel
theorem dX12_findLike_254 : decode cX12_findLike 254 = .ok (.iconst 1, 1) := by decide +kernel
theorem dX12_findLike_255 : decode cX12_findLike 255 = .ok (.goto 4, 3) := by decide +kernel
theorem dX12_findLike_258 : decode cX12_findLike 258 = .ok (.iconst 0, 1) := by decide +kernel
theorem dX12_findLike_259 : decode cX12_findLike 259 = .ok (.iadd, 1) := by decide +kernel
theorem dX12_findLike_260 : decode cX12_findLike 260 = .ok (.putfield 309, 3) := by decide +kernel
theorem dX12_findLike_263 : decode cX12_findLike 263 = .ok (.aload_n 0, 1) := by decide +kernel
theorem dX12_findLike_264 : decode cX12_findLike 264 = .ok (.dup, 1) := by decide +kernel
theorem dX12_findLike_265 : decode cX12_findLike 265 = .ok (.getfield 312, 3) := by decide +kernel
theorem dX12_findLike_268 : decode cX12_findLike 268 = .ok (.aload_n 0, 1) := by decide +kernel
theorem dX12_findLike_269 : decode cX12_findLike 269 = .ok (.getfield 146, 3) := by decide +kernel
theorem dX12_findLike_272 : decode cX12_findLike 272 = .ok (.aload_n 0, 1) := by decide +kernel
theorem dX12_findLike_273 : decode cX12_findLike 273 = .ok (.getfield 149, 3) := by decide +kernel
theorem dX12_findLike_276 : decode cX12_findLike 276 = .ok (.iload 7, 2) := by decide +kernel
theorem dX12_findLike_278 : decode cX12_findLike 278 = .ok (.iaload, 1) := by decide +kernel
theorem dX12_findLike_279 : decode cX12_findLike 279 = .ok (.iaload, 1) := by decide +kernel
theorem dX12_findLike_280 : decode cX12_findLike 280 = .ok (.iadd, 1) := by decide +kernel
theorem dX12_findLike_281 : decode cX12_findLike 281 = .ok (.putfield 312, 3) := by decide +kernel
theorem dX12_findLike_284 : decode cX12_findLike 284 = .ok (.iinc 7 1, 3) := by decide +kernel
theorem dX12_findLike_287 : decode cX12_findLike 287 = .ok (.goto (-62), 3) := by decide +kernel
theorem dX12_findLike_290 : decode cX12_findLike 290 = .ok (.return_, 1) := by decide +kernel
theorem dX12_odds_0 : decode cX12_odds 0 = .ok (.aload_n 0, 1) := by decide +kernel
theorem dX12_odds_1 : decode cX12_odds 1 = .ok (.iload_n 1, 1) := by decide +kernel
theorem dX12_odds_2 : decode cX12_odds 2 = .ok (.invokevirtual 281, 3) := by decide +kernel
theorem dX12_odds_5 : decode cX12_odds 5 = .ok (.ifCond .ne 9, 3) := by decide +kernel
theorem dX12_odds_8 : decode cX12_odds 8 = .ok (.aload_n 0, 1) := by decide +kernel
theorem dX12_odds_9 : decode cX12_odds 9 = .ok (.iconst (-1), 1) := by decide +kernel
theorem dX12_odds_10 : decode cX12_odds 10 = .ok (.invokevirtual 178, 3) := by decide +kernel
theorem dX12_odds_13 : decode cX12_odds 13 = .ok (.ireturn, 1) := by decide +kernel
theorem dX12_odds_14 : decode cX12_odds 14 = .ok (.iload_n 2, 1) := by decide +kernel
theorem dX12_odds_15 : decode cX12_odds 15 = .ok (.iconst 0, 1) := by decide +kernel
theorem dX12_odds_16 : decode cX12_odds 16 = .ok (.iconst 2, 1) := by decide +kernel
theorem dX12_odds_17 : decode cX12_odds 17 = .ok (.invokestatic 156, 3) := by decide +kernel
theorem dX12_odds_20 : decode cX12_odds 20 = .ok (.ifCond .ne 10, 3) := by decide +kernel
theorem dX12_odds_23 : decode cX12_odds 23 = .ok (.aload_n 0, 1) := by decide +kernel
theorem dX12_odds_24 : decode cX12_odds 24 = .ok (.bipush (-2), 2) := by decide +kernel
theorem dX12_odds_26 : decode cX12_odds 26 = .ok (.invokevirtual 178, 3) := by decide +kernel
theorem dX12_odds_29 : decode cX12_odds 29 = .ok (.ireturn, 1) := by decide +kernel
theorem dX12_odds_30 : decode cX12_odds 30 = .ok (.aload_n 0, 1) := by decide +kernel
theorem dX12_odds_31 : decode cX12_odds 31 = .ok (.iload_n 1, 1) := by decide +kernel
theorem dX12_odds_32 : decode cX12_odds 32 = .ok (.invokevirtual 315, 3) := by decide +kernel
theorem dX12_odds_35 : decode cX12_odds 35 = .ok (.iload_n 2, 1) := by decide +kernel
theorem dX12_odds_36 : decode cX12_odds 36 = .ok (.ifCond .ne 10, 3) := by decide +kernel
theorem dX12_odds_39 : decode cX12_odds 39 = .ok (.aload_n 0, 1) := by decide +kernel
theorem dX12_odds_40 : decode cX12_odds 40 = .ok (.getfield 309, 3) := by decide +kernel
theorem dX12_odds_43 : decode cX12_odds 43 = .ok (.goto 30, 3) := by decide +kernel
theorem dX12_odds_46 : decode cX12_odds 46 = .ok (.iload_n 2, 1) := by decide +kernel
theorem dX12_odds_47 : decode cX12_odds 47 = .ok (.iconst 1, 1) := by decide +kernel
theorem dX12_odds_48 : decode cX12_odds 48 = .ok (.if_icmp .ne 10, 3) := by decide +kernel
theorem dX12_odds_51 : decode cX12_odds 51 = .ok (.aload_n 0, 1) := by decide +kernel
theorem dX12_odds_52 : decode cX12_odds 52 = .ok (.getfield 306, 3) := by decide +kernel
theorem dX12_odds_55 : decode cX12_odds 55 = .ok (.goto 18, 3) := by decide +kernel
theorem dX12_odds_58 : decode cX12_odds 58 = .ok (.aload_n 0, 1) := by decide +kernel
theorem dX12_odds_59 : decode cX12_odds 59 = .ok (.iload_n 1, 1) := by decide +kernel
theorem dX12_odds_60 : decode cX12_odds 60 = .ok (.invokevirtual 284, 3) := by decide +kernel
theorem dX12_odds_63 : decode cX12_odds 63 = .ok (.aload_n 0, 1) := by decide +kernel
theorem dX12_odds_64 : decode cX12_odds 64 = .ok (.getfield 309, 3) := by decide +kernel
theorem dX12_odds_67 : decode cX12_odds 67 = .ok (.imul, 1) := by decide +kernel
theorem dX12_odds_68 : decode cX12_odds 68 = .ok (.aload_n 0, 1) := by decide +kernel
theorem dX12_odds_69 : decode cX12_odds 69 = .ok (.getfield 312, 3) := by decide +kernel
theorem dX12_odds_72 : decode cX12_odds 72 = .ok (.isub, 1) := by decide +kernel
theorem dX12_odds_73 : decode cX12_odds 73 = .ok (.ireturn, 1) := by decide +kernel
theorem dX12_good_0 : decode cX12_good 0 = .ok (.aload_n 0, 1) := by decide +kernel
theorem dX12_good_1 : decode cX12_good 1 = .ok (.iload_n 1, 1) := by decide +kernel
theorem dX12_good_2 : decode cX12_good 2 = .ok (.invokevirtual 281, 3) := by decide +kernel
theorem dX12_good_5 : decode cX12_good 5 = .ok (.ifCond .ne 9, 3) := by decide +kernel
theorem dX12_good_8 : decode cX12_good 8 = .ok (.aload_n 0, 1) := by decide +kernel
theorem dX12_good_9 : decode cX12_good 9 = .ok (.iconst (-1), 1) := by decide +kernel
theorem dX12_good_10 : decode cX12_good 10 = .ok (.invokevirtual 164, 3) := by decide +kernel
theorem dX12_good_13 : decode cX12_good 13 = .ok (.ireturn, 1) := by decide +kernel
theorem dX12_good_14 : decode cX12_good 14 = .ok (.iload_n 2, 1) := by decide +kernel
theorem dX12_good_15 : decode cX12_good 15 = .ok (.ifCond .ge 10, 3) := by decide +kernel
theorem dX12_good_18 : decode cX12_good 18 = .ok (.aload_n 0, 1) := by decide +kernel
theorem dX12_good_19 : decode cX12_good 19 = .ok (.bipush (-4), 2) := by decide +kernel
theorem dX12_good_21 : decode cX12_good 21 = .ok (.invokevirtual 164, 3) := by decide +kernel
theorem dX12_good_24 : decode cX12_good 24 = .ok (.ireturn, 1) := by decide +kernel
theorem dX12_good_25 : decode cX12_good 25 = .ok (.iload_n 2, 1) := by decide +kernel
theorem dX12_good_26 : decode cX12_good 26 = .ok (.sipush 9999, 3) := by decide +kernel
theorem dX12_good_29 : decode cX12_good 29 = .ok (.if_icmp .le 10, 3) := by decide +kernel
theorem dX12_good_32 : decode cX12_good 32 = .ok (.aload_n 0, 1) := by decide +kernel
theorem dX12_good_33 : decode cX12_good 33 = .ok (.bipush (-6), 2) := by decide +kernel
theorem dX12_good_35 : decode cX12_good 35 = .ok (.invokevirtual 164, 3) := by decide +kernel
theorem dX12_good_38 : decode cX12_good 38 = .ok (.ireturn, 1) := by decide +kernel
theorem dX12_good_39 : decode cX12_good 39 = .ok (.aload_n 0, 1) := by decide +kernel
theorem dX12_good_40 : decode cX12_good 40 = .ok (.iload_n 1, 1) := by decide +kernel
theorem dX12_good_41 : decode cX12_good 41 = .ok (.invokevirtual 315, 3) := by decide +kernel
theorem dX12_good_44 : decode cX12_good 44 = .ok (.aload_n 0, 1) := by decide +kernel
theorem dX12_good_45 : decode cX12_good 45 = .ok (.iload_n 1, 1) := by decide +kernel
theorem dX12_good_46 : decode cX12_good 46 = .ok (.invokevirtual 284, 3) := by decide +kernel
theorem dX12_good_49 : decode cX12_good 49 = .ok (.istore_n 3, 1) := by decide +kernel
theorem dX12_good_50 : decode cX12_good 50 = .ok (.aload_n 0, 1) := by decide +kernel
theorem dX12_good_51 : decode cX12_good 51 = .ok (.getfield 306, 3) := by decide +kernel
theorem dX12_good_54 : decode cX12_good 54 = .ok (.ifCond .ne 18, 3) := by decide +kernel
theorem dX12_good_57 : decode cX12_good 57 = .ok (.iconst 2, 1) := by decide +kernel
theorem dX12_good_58 : decode cX12_good 58 = .ok (.iload_n 2, 1) := by decide +kernel
theorem dX12_good_59 : decode cX12_good 59 = .ok (.imul, 1) := by decide +kernel
theorem dX12_good_60 : decode cX12_good 60 = .ok (.iload_n 3, 1) := by decide +kernel
theorem dX12_good_61 : decode cX12_good 61 = .ok (.if_icmp .lt 7, 3) := by decide +kernel
theorem dX12_good_64 : decode cX12_good 64 = .ok (.iconst 1, 1) := by decide +kernel
theorem dX12_good_65 : decode cX12_good 65 = .ok (.goto 32, 3) := by decide +kernel
theorem dX12_good_68 : decode cX12_good 68 = .ok (.iconst 0, 1) := by decide +kernel
theorem dX12_good_69 : decode cX12_good 69 = .ok (.goto 28, 3) := by decide +kernel
theorem dX12_good_72 : decode cX12_good 72 = .ok (.iload_n 2, 1) := by decide +kernel
theorem dX12_good_73 : decode cX12_good 73 = .ok (.aload_n 0, 1) := by decide +kernel
theorem dX12_good_74 : decode cX12_good 74 = .ok (.getfield 306, 3) := by decide +kernel
theorem dX12_good_77 : decode cX12_good 77 = .ok (.imul, 1) := by decide +kernel
theorem dX12_good_78 : decode cX12_good 78 = .ok (.iload_n 3, 1) := by decide +kernel
theorem dX12_good_79 : decode cX12_good 79 = .ok (.aload_n 0, 1) := by decide +kernel
theorem dX12_good_80 : decode cX12_good 80 = .ok (.getfield 309, 3) := by decide +kernel
theorem dX12_good_83 : decode cX12_good 83 = .ok (.imul, 1) := by decide +kernel
theorem dX12_good_84 : decode cX12_good 84 = .ok (.aload_n 0, 1) := by decide +kernel
theorem dX12_good_85 : decode cX12_good 85 = .ok (.getfield 312, 3) := by decide +kernel
theorem dX12_good_88 : decode cX12_good 88 = .ok (.isub, 1) := by decide +kernel
theorem dX12_good_89 : decode cX12_good 89 = .ok (.if_icmp .lt 7, 3) := by decide +kernel
theorem dX12_good_92 : decode cX12_good 92 = .ok (.iconst 1, 1) := by decide +kernel
theorem dX12_good_93 : decode cX12_good 93 = .ok (.goto 4, 3) := by decide +kernel
theorem dX12_good_96 : decode cX12_good 96 = .ok (.iconst 0, 1) := by decide +kernel
theorem dX12_good_97 : decode cX12_good 97 = .ok (.istore 4, 2) := by decide +kernel
theorem dX12_good_99 : decode cX12_good 99 = .ok (.iload 4, 2) := by decide +kernel
theorem dX12_good_101 : decode cX12_good 101 = .ok (.ifCond .eq 7, 3) := by decide +kernel
theorem dX12_good_104 : decode cX12_good 104 = .ok (.iconst 1, 1) := by decide +kernel
theorem dX12_good_105 : decode cX12_good 105 = .ok (.goto 4, 3) := by decide +kernel
theorem dX12_good_108 : decode cX12_good 108 = .ok (.iconst 0, 1) := by decide +kernel
theorem dX12_good_109 : decode cX12_good 109 = .ok (.ireturn, 1) := by decide +kernel
theorem dX12_count_0 : decode cX12_count 0 = .ok (.iconst 0, 1) := by decide +kernel
theorem dX12_count_1 : decode cX12_count 1 = .ok (.istore_n 2, 1) := by decide +kernel
theorem dX12_count_2 : decode cX12_count 2 = .ok (.iload_n 1, 1) := by decide +kernel
theorem dX12_count_3 : decode cX12_count 3 = .ok (.tableswitch 153 0 8 #[49, 54, 59, 94, 99, 104, 109, 143, 148], 49) := by decide +kernel
theorem dX12_count_52 : decode cX12_count 52 = .ok (.aload_n 0, 1) := by decide +kernel
theorem dX12_count_53 : decode cX12_count 53 = .ok (.getfield 168, 3) := by decide +kernel
theorem dX12_count_56 : decode cX12_count 56 = .ok (.ireturn, 1) := by decide +kernel
theorem dX12_count_57 : decode cX12_count 57 = .ok (.aload_n 0, 1) := by decide +kernel
theorem dX12_count_58 : decode cX12_count 58 = .ok (.getfield 160, 3) := by decide +kernel
theorem dX12_count_61 : decode cX12_count 61 = .ok (.ireturn, 1) := by decide +kernel
theorem dX12_count_62 : decode cX12_count 62 = .ok (.iconst 0, 1) := by decide +kernel
theorem dX12_count_63 : decode cX12_count 63 = .ok (.istore_n 3, 1) := by decide +kernel
theorem dX12_count_64 : decode cX12_count 64 = .ok (.iload_n 3, 1) := by decide +kernel
theorem dX12_count_65 : decode cX12_count 65 = .ok (.aload_n 0, 1) := by decide +kernel
theorem dX12_count_66 : decode cX12_count 66 = .ok (.getfield 160, 3) := by decide +kernel
theorem dX12_count_69 : decode cX12_count 69 = .ok (.if_icmp .ge 26, 3) := by decide +kernel
theorem dX12_count_72 : decode cX12_count 72 = .ok (.iload_n 2, 1) := by decide +kernel
theorem dX12_count_73 : decode cX12_count 73 = .ok (.aload_n 0, 1) := by decide +kernel
theorem dX12_count_74 : decode cX12_count 74 = .ok (.getfield 40, 3) := by decide +kernel
theorem dX12_count_77 : decode cX12_count 77 = .ok (.iload_n 3, 1) := by decide +kernel
theorem dX12_count_78 : decode cX12_count 78 = .ok (.baload, 1) := by decide +kernel
theorem dX12_count_79 : decode cX12_count 79 = .ok (.ifCond .eq 7, 3) := by decide +kernel
theorem dX12_count_82 : decode cX12_count 82 = .ok (.iconst 1, 1) := by decide +kernel
theorem dX12_count_83 : decode cX12_count 83 = .ok (.goto 4, 3) := by decide +kernel
theorem dX12_count_86 : decode cX12_count 86 = .ok (.iconst 0, 1) := by decide +kernel
theorem dX12_count_87 : decode cX12_count 87 = .ok (.iadd, 1) := by decide +kernel
theorem dX12_count_88 : decode cX12_count 88 = .ok (.istore_n 2, 1) := by decide +kernel
theorem dX12_count_89 : decode cX12_count 89 = .ok (.iinc 3 1, 3) := by decide +kernel
theorem dX12_count_92 : decode cX12_count 92 = .ok (.goto (-28), 3) := by decide +kernel
theorem dX12_count_95 : decode cX12_count 95 = .ok (.iload_n 2, 1) := by decide +kernel
theorem dX12_count_96 : decode cX12_count 96 = .ok (.ireturn, 1) := by decide +kernel
theorem dX12_count_97 : decode cX12_count 97 = .ok (.aload_n 0, 1) := by decide +kernel
theorem dX12_count_98 : decode cX12_count 98 = .ok (.getfield 223, 3) := by decide +kernel
theorem dX12_count_101 : decode cX12_count 101 = .ok (.ireturn, 1) := by decide +kernel
theorem dX12_count_102 : decode cX12_count 102 = .ok (.aload_n 0, 1) := by decide +kernel
theorem dX12_count_103 : decode cX12_count 103 = .ok (.getfield 247, 3) := by decide +kernel
theorem dX12_count_106 : decode cX12_count 106 = .ok (.ireturn, 1) := by decide +kernel
theorem dX12_count_107 : decode cX12_count 107 = .ok (.aload_n 0, 1) := by decide +kernel
theorem dX12_count_108 : decode cX12_count 108 = .ok (.getfield 275, 3) := by decide +kernel
theorem dX12_count_111 : decode cX12_count 111 = .ok (.ireturn, 1) := by decide +kernel
theorem dX12_count_112 : decode cX12_count 112 = .ok (.iconst 0, 1) := by decide +kernel
theorem dX12_count_113 : decode cX12_count 113 = .ok (.istore_n 3, 1) := by decide +kernel
theorem dX12_count_114 : decode cX12_count 114 = .ok (.iload_n 3, 1) := by decide +kernel
theorem dX12_count_115 : decode cX12_count 115 = .ok (.aload_n 0, 1) := by decide +kernel
theorem dX12_count_116 : decode cX12_count 116 = .ok (.getfield 275, 3) := by decide +kernel
theorem dX12_count_119 : decode cX12_count 119 = .ok (.if_icmp .ge 25, 3) := by decide +kernel
theorem dX12_count_122 : decode cX12_count 122 = .ok (.iload_n 2, 1) := by decide +kernel
theorem dX12_count_123 : decode cX12_count 123 = .ok (.aload_n 0, 1) := by decide +kernel
theorem dX12_count_124 : decode cX12_count 124 = .ok (.iload_n 3, 1) := by decide +kernel
theorem dX12_count_125 : decode cX12_count 125 = .ok (.invokevirtual 278, 3) := by decide +kernel
theorem dX12_count_128 : decode cX12_count 128 = .ok (.ifCond .eq 7, 3) := by decide +kernel
theorem dX12_count_131 : decode cX12_count 131 = .ok (.iconst 1, 1) := by decide +kernel
theorem dX12_count_132 : decode cX12_count 132 = .ok (.goto 4, 3) := by decide +kernel
theorem dX12_count_135 : decode cX12_count 135 = .ok (.iconst 0, 1) := by decide +kernel
theorem dX12_count_136 : decode cX12_count 136 = .ok (.iadd, 1) := by decide +kernel
theorem dX12_count_137 : decode cX12_count 137 = .ok (.istore_n 2, 1) := by decide +kernel
theorem dX12_count_138 : decode cX12_count 138 = .ok (.iinc 3 1, 3) := by decide +kernel
theorem dX12_count_141 : decode cX12_count 141 = .ok (.goto (-27), 3) := by decide +kernel
theorem dX12_count_144 : decode cX12_count 144 = .ok (.iload_n 2, 1) := by decide +kernel
theorem dX12_count_145 : decode cX12_count 145 = .ok (.ireturn, 1) := by decide +kernel
theorem dX12_count_146 : decode cX12_count 146 = .ok (.aload_n 0, 1) := by decide +kernel
theorem dX12_count_147 : decode cX12_count 147 = .ok (.getfield 300, 3) := by decide +kernel
theorem dX12_count_150 : decode cX12_count 150 = .ok (.ireturn, 1) := by decide +kernel
theorem dX12_count_151 : decode cX12_count 151 = .ok (.aload_n 0, 1) := by decide +kernel
theorem dX12_count_152 : decode cX12_count 152 = .ok (.getfield 175, 3) := by decide +kernel
theorem dX12_count_155 : decode cX12_count 155 = .ok (.ireturn, 1) := by decide +kernel
theorem dX12_count_156 : decode cX12_count 156 = .ok (.iload_n 1, 1) := by decide +kernel
theorem dX12_count_157 : decode cX12_count 157 = .ok (.bipush 11, 2) := by decide +kernel
theorem dX12_count_159 : decode cX12_count 159 = .ok (.bipush 16, 2) := by decide +kernel
theorem dX12_count_161 : decode cX12_count 161 = .ok (.invokestatic 156, 3) := by decide +kernel
theorem dX12_count_164 : decode cX12_count 164 = .ok (.ifCond .eq 15, 3) := by decide +kernel
theorem dX12_count_167 : decode cX12_count 167 = .ok (.aload_n 0, 1) := by decide +kernel
theorem dX12_count_168 : decode cX12_count 168 = .ok (.getfield 56, 3) := by decide +kernel
theorem dX12_count_171 : decode cX12_count 171 = .ok (.iload_n 1, 1) := by decide +kernel
theorem dX12_count_172 : decode cX12_count 172 = .ok (.bipush 10, 2) := by decide +kernel
theorem dX12_count_174 : decode cX12_count 174 = .ok (.isub, 1) := by decide +kernel
theorem dX12_count_175 : decode cX12_count 175 = .ok (.iaload, 1) := by decide +kernel
theorem dX12_count_176 : decode cX12_count 176 = .ok (.goto 5, 3) := by decide +kernel
theorem dX12_count_179 : decode cX12_count 179 = .ok (.bipush (-9), 2) := by decide +kernel
theorem dX12_count_181 : decode cX12_count 181 = .ok (.ireturn, 1) := by decide +kernel
