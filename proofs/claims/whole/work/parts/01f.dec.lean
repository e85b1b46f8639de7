theorem dX6_init_0 : decode cX6_init 0 = .ok (.aload_n 0, 1) := by decide +kernel
theorem dX6_init_1 : decode cX6_init 1 = .ok (.invokespecial 1, 3) := by decide +kernel
theorem dX6_init_4 : decode cX6_init 4 = .ok (.aload_n 0, 1) := by decide +kernel
theorem dX6_init_5 : decode cX6_init 5 = .ok (.sipush 200, 3) := by decide +kernel
theorem dX6_init_8 : decode cX6_init 8 = .ok (.newarray .int, 2) := by decide +kernel
theorem dX6_init_10 : decode cX6_init 10 = .ok (.putfield 7, 3) := by decide +kernel
theorem dX6_init_13 : decode cX6_init 13 = .ok (.aload_n 0, 1) := by decide +kernel
theorem dX6_init_14 : decode cX6_init 14 = .ok (.bipush 10, 2) := by decide +kernel
theorem dX6_init_16 : decode cX6_init 16 = .ok (.newarray .int, 2) := by decide +kernel
theorem dX6_init_18 : decode cX6_init 18 = .ok (.putfield 13, 3) := by decide +kernel
theorem dX6_init_21 : decode cX6_init 21 = .ok (.aload_n 0, 1) := by decide +kernel
theorem dX6_init_22 : decode cX6_init 22 = .ok (.bipush 10, 2) := by decide +kernel
theorem dX6_init_24 : decode cX6_init 24 = .ok (.newarray .int, 2) := by decide +kernel
theorem dX6_init_26 : decode cX6_init 26 = .ok (.putfield 16, 3) := by decide +kernel
theorem dX6_init_29 : decode cX6_init 29 = .ok (.aload_n 0, 1) := by decide +kernel
theorem dX6_init_30 : decode cX6_init 30 = .ok (.bipush 31, 2) := by decide +kernel
theorem dX6_init_32 : decode cX6_init 32 = .ok (.newarray .int, 2) := by decide +kernel
theorem dX6_init_34 : decode cX6_init 34 = .ok (.putfield 19, 3) := by decide +kernel
theorem dX6_init_37 : decode cX6_init 37 = .ok (.aload_n 0, 1) := by decide +kernel
theorem dX6_init_38 : decode cX6_init 38 = .ok (.bipush 31, 2) := by decide +kernel
theorem dX6_init_40 : decode cX6_init 40 = .ok (.newarray .int, 2) := by decide +kernel
theorem dX6_init_42 : decode cX6_init 42 = .ok (.putfield 22, 3) := by decide +kernel
theorem dX6_init_45 : decode cX6_init 45 = .ok (.aload_n 0, 1) := by decide +kernel
theorem dX6_init_46 : decode cX6_init 46 = .ok (.sipush 248, 3) := by decide +kernel
theorem dX6_init_49 : decode cX6_init 49 = .ok (.newarray .int, 2) := by decide +kernel
theorem dX6_init_51 : decode cX6_init 51 = .ok (.putfield 25, 3) := by decide +kernel
theorem dX6_init_54 : decode cX6_init 54 = .ok (.aload_n 0, 1) := by decide +kernel
theorem dX6_init_55 : decode cX6_init 55 = .ok (.bipush 62, 2) := by decide +kernel
theorem dX6_init_57 : decode cX6_init 57 = .ok (.newarray .int, 2) := by decide +kernel
theorem dX6_init_59 : decode cX6_init 59 = .ok (.putfield 28, 3) := by decide +kernel
theorem dX6_init_62 : decode cX6_init 62 = .ok (.aload_n 0, 1) := by decide +kernel
theorem dX6_init_63 : decode cX6_init 63 = .ok (.bipush 6, 2) := by decide +kernel
theorem dX6_init_65 : decode cX6_init 65 = .ok (.newarray .int, 2) := by decide +kernel
theorem dX6_init_67 : decode cX6_init 67 = .ok (.putfield 31, 3) := by decide +kernel
theorem dX6_init_70 : decode cX6_init 70 = .ok (.aload_n 0, 1) := by decide +kernel
theorem dX6_init_71 : decode cX6_init 71 = .ok (.bipush 31, 2) := by decide +kernel
theorem dX6_init_73 : decode cX6_init 73 = .ok (.newarray .int, 2) := by decide +kernel
theorem dX6_init_75 : decode cX6_init 75 = .ok (.putfield 34, 3) := by decide +kernel
theorem dX6_init_78 : decode cX6_init 78 = .ok (.aload_n 0, 1) := by decide +kernel
theorem dX6_init_79 : decode cX6_init 79 = .ok (.bipush 31, 2) := by decide +kernel
theorem dX6_init_81 : decode cX6_init 81 = .ok (.newarray .int, 2) := by decide +kernel
theorem dX6_init_83 : decode cX6_init 83 = .ok (.putfield 37, 3) := by decide +kernel
theorem dX6_init_86 : decode cX6_init 86 = .ok (.aload_n 0, 1) := by decide +kernel
theorem dX6_init_87 : decode cX6_init 87 = .ok (.invokevirtual 40, 3) := by decide +kernel
theorem dX6_init_90 : decode cX6_init 90 = .ok (.aload_n 0, 1) := by decide +kernel
theorem dX6_init_91 : decode cX6_init 91 = .ok (.iconst 0, 1) := by decide +kernel
theorem dX6_init_92 : decode cX6_init 92 = .ok (.iconst 3, 1) := by decide +kernel
theorem dX6_init_93 : decode cX6_init 93 = .ok (.bipush 12, 2) := by decide +kernel
theorem dX6_init_95 : decode cX6_init 95 = .ok (.bipush 6, 2) := by decide +kernel
theorem dX6_init_97 : decode cX6_init 97 = .ok (.invokevirtual 43, 3) := by decide +kernel
theorem dX6_init_100 : decode cX6_init 100 = .ok (.aload_n 0, 1) := by decide +kernel
theorem dX6_init_101 : decode cX6_init 101 = .ok (.iconst 1, 1) := by decide +kernel
theorem dX6_init_102 : decode cX6_init 102 = .ok (.iconst 4, 1) := by decide +kernel
theorem dX6_init_103 : decode cX6_init 103 = .ok (.bipush 20, 2) := by decide +kernel
theorem dX6_init_105 : decode cX6_init 105 = .ok (.iconst 3, 1) := by decide +kernel
theorem dX6_init_106 : decode cX6_init 106 = .ok (.invokevirtual 43, 3) := by decide +kernel
theorem dX6_init_109 : decode cX6_init 109 = .ok (.aload_n 0, 1) := by decide +kernel
theorem dX6_init_110 : decode cX6_init 110 = .ok (.iconst 2, 1) := by decide +kernel
theorem dX6_init_111 : decode cX6_init 111 = .ok (.iconst 2, 1) := by decide +kernel
theorem dX6_init_112 : decode cX6_init 112 = .ok (.bipush 9, 2) := by decide +kernel
theorem dX6_init_114 : decode cX6_init 114 = .ok (.iconst 5, 1) := by decide +kernel
theorem dX6_init_115 : decode cX6_init 115 = .ok (.invokevirtual 43, 3) := by decide +kernel
theorem dX6_init_118 : decode cX6_init 118 = .ok (.aload_n 0, 1) := by decide +kernel
theorem dX6_init_119 : decode cX6_init 119 = .ok (.iconst 3, 1) := by decide +kernel
theorem dX6_init_120 : decode cX6_init 120 = .ok (.iconst 5, 1) := by decide +kernel
theorem dX6_init_121 : decode cX6_init 121 = .ok (.bipush 30, 2) := by decide +kernel
theorem dX6_init_123 : decode cX6_init 123 = .ok (.bipush 9, 2) := by decide +kernel
theorem dX6_init_125 : decode cX6_init 125 = .ok (.invokevirtual 43, 3) := by decide +kernel
theorem dX6_init_128 : decode cX6_init 128 = .ok (.aload_n 0, 1) := by decide +kernel
theorem dX6_init_129 : decode cX6_init 129 = .ok (.iconst 0, 1) := by decide +kernel
theorem dX6_init_130 : decode cX6_init 130 = .ok (.iconst 1, 1) := by decide +kernel
theorem dX6_init_131 : decode cX6_init 131 = .ok (.bipush 8, 2) := by decide +kernel
theorem dX6_init_133 : decode cX6_init 133 = .ok (.iconst 2, 1) := by decide +kernel
theorem dX6_init_134 : decode cX6_init 134 = .ok (.invokevirtual 43, 3) := by decide +kernel
theorem dX6_init_137 : decode cX6_init 137 = .ok (.aload_n 0, 1) := by decide +kernel
theorem dX6_init_138 : decode cX6_init 138 = .ok (.getfield 19, 3) := by decide +kernel
theorem dX6_init_141 : decode cX6_init 141 = .ok (.bipush 28, 2) := by decide +kernel
theorem dX6_init_143 : decode cX6_init 143 = .ok (.bipush 40, 2) := by decide +kernel
theorem dX6_init_145 : decode cX6_init 145 = .ok (.iastore, 1) := by decide +kernel
theorem dX6_init_146 : decode cX6_init 146 = .ok (.aload_n 0, 1) := by decide +kernel
theorem dX6_init_147 : decode cX6_init 147 = .ok (.getfield 19, 3) := by decide +kernel
theorem dX6_init_150 : decode cX6_init 150 = .ok (.bipush 29, 2) := by decide +kernel
theorem dX6_init_152 : decode cX6_init 152 = .ok (.bipush 6, 2) := by decide +kernel
theorem dX6_init_154 : decode cX6_init 154 = .ok (.iastore, 1) := by decide +kernel
theorem dX6_init_155 : decode cX6_init 155 = .ok (.aload_n 0, 1) := by decide +kernel
theorem dX6_init_156 : decode cX6_init 156 = .ok (.getfield 19, 3) := by decide +kernel
theorem dX6_init_159 : decode cX6_init 159 = .ok (.bipush 30, 2) := by decide +kernel
theorem dX6_init_161 : decode cX6_init 161 = .ok (.iconst 2, 1) := by decide +kernel
theorem dX6_init_162 : decode cX6_init 162 = .ok (.iastore, 1) := by decide +kernel
theorem dX6_init_163 : decode cX6_init 163 = .ok (.aload_n 0, 1) := by decide +kernel
theorem dX6_init_164 : decode cX6_init 164 = .ok (.invokevirtual 47, 3) := by decide +kernel
theorem dX6_init_167 : decode cX6_init 167 = .ok (.return_, 1) := by decide +kernel
theorem dX6_in_0 : decode cX6_in 0 = .ok (.iload_n 0, 1) := by decide +kernel
theorem dX6_in_1 : decode cX6_in 1 = .ok (.iload_n 1, 1) := by decide +kernel
theorem dX6_in_2 : decode cX6_in 2 = .ok (.if_icmp .lt 12, 3) := by decide +kernel
theorem dX6_in_5 : decode cX6_in 5 = .ok (.iload_n 0, 1) := by decide +kernel
theorem dX6_in_6 : decode cX6_in 6 = .ok (.iload_n 2, 1) := by decide +kernel
theorem dX6_in_7 : decode cX6_in 7 = .ok (.if_icmp .gt 7, 3) := by decide +kernel
theorem dX6_in_10 : decode cX6_in 10 = .ok (.iconst 1, 1) := by decide +kernel
theorem dX6_in_11 : decode cX6_in 11 = .ok (.goto 4, 3) := by decide +kernel
theorem dX6_in_14 : decode cX6_in 14 = .ok (.iconst 0, 1) := by decide +kernel
theorem dX6_in_15 : decode cX6_in 15 = .ok (.ireturn, 1) := by decide +kernel
theorem dX6_isMember_0 : decode cX6_isMember 0 = .ok (.iload_n 1, 1) := by decide +kernel
theorem dX6_isMember_1 : decode cX6_isMember 1 = .ok (.iconst 0, 1) := by decide +kernel
theorem dX6_isMember_2 : decode cX6_isMember 2 = .ok (.aload_n 0, 1) := by decide +kernel
theorem dX6_isMember_3 : decode cX6_isMember 3 = .ok (.getfield 13, 3) := by decide +kernel
theorem dX6_isMember_6 : decode cX6_isMember 6 = .ok (.iconst 0, 1) := by decide +kernel
theorem dX6_isMember_7 : decode cX6_isMember 7 = .ok (.iaload, 1) := by decide +kernel
theorem dX6_isMember_8 : decode cX6_isMember 8 = .ok (.iconst 1, 1) := by decide +kernel
theorem dX6_isMember_9 : decode cX6_isMember 9 = .ok (.isub, 1) := by decide +kernel
theorem dX6_isMember_10 : decode cX6_isMember 10 = .ok (.invokestatic 50, 3) := by decide +kernel
theorem dX6_isMember_13 : decode cX6_isMember 13 = .ok (.ireturn, 1) := by decide +kernel
theorem dX6_all_0 : decode cX6_all 0 = .ok (.iconst 1, 1) := by decide +kernel
theorem dX6_all_1 : decode cX6_all 1 = .ok (.aload_n 0, 1) := by decide +kernel
theorem dX6_all_2 : decode cX6_all 2 = .ok (.getfield 13, 3) := by decide +kernel
theorem dX6_all_5 : decode cX6_all 5 = .ok (.iconst 0, 1) := by decide +kernel
theorem dX6_all_6 : decode cX6_all 6 = .ok (.iaload, 1) := by decide +kernel
theorem dX6_all_7 : decode cX6_all 7 = .ok (.ishl, 1) := by decide +kernel
theorem dX6_all_8 : decode cX6_all 8 = .ok (.iconst 1, 1) := by decide +kernel
theorem dX6_all_9 : decode cX6_all 9 = .ok (.isub, 1) := by decide +kernel
theorem dX6_all_10 : decode cX6_all 10 = .ok (.ireturn, 1) := by decide +kernel
theorem dX6_ones_0 : decode cX6_ones 0 = .ok (.iconst 0, 1) := by decide +kernel
theorem dX6_ones_1 : decode cX6_ones 1 = .ok (.istore_n 1, 1) := by decide +kernel
theorem dX6_ones_2 : decode cX6_ones 2 = .ok (.iconst 0, 1) := by decide +kernel
theorem dX6_ones_3 : decode cX6_ones 3 = .ok (.istore_n 2, 1) := by decide +kernel
theorem dX6_ones_4 : decode cX6_ones 4 = .ok (.iload_n 2, 1) := by decide +kernel
theorem dX6_ones_5 : decode cX6_ones 5 = .ok (.bipush 7, 2) := by decide +kernel
theorem dX6_ones_7 : decode cX6_ones 7 = .ok (.if_icmp .ge 17, 3) := by decide +kernel
theorem dX6_ones_10 : decode cX6_ones 10 = .ok (.iload_n 1, 1) := by decide +kernel
theorem dX6_ones_11 : decode cX6_ones 11 = .ok (.iload_n 0, 1) := by decide +kernel
theorem dX6_ones_12 : decode cX6_ones 12 = .ok (.iload_n 2, 1) := by decide +kernel
theorem dX6_ones_13 : decode cX6_ones 13 = .ok (.ishr, 1) := by decide +kernel
theorem dX6_ones_14 : decode cX6_ones 14 = .ok (.iconst 1, 1) := by decide +kernel
theorem dX6_ones_15 : decode cX6_ones 15 = .ok (.iand, 1) := by decide +kernel
theorem dX6_ones_16 : decode cX6_ones 16 = .ok (.iadd, 1) := by decide +kernel
theorem dX6_ones_17 : decode cX6_ones 17 = .ok (.istore_n 1, 1) := by decide +kernel
theorem dX6_ones_18 : decode cX6_ones 18 = .ok (.iinc 2 1, 3) := by decide +kernel
theorem dX6_ones_21 : decode cX6_ones 21 = .ok (.goto (-17), 3) := by decide +kernel
theorem dX6_ones_24 : decode cX6_ones 24 = .ok (.iload_n 1, 1) := by decide +kernel
theorem dX6_ones_25 : decode cX6_ones 25 = .ok (.ireturn, 1) := by decide +kernel
theorem dX6_write_0 : decode cX6_write 0 = .ok (.iload_n 1, 1) := by decide +kernel
theorem dX6_write_1 : decode cX6_write 1 = .ok (.bipush 32, 2) := by decide +kernel
theorem dX6_write_3 : decode cX6_write 3 = .ok (.bipush 126, 2) := by decide +kernel
theorem dX6_write_5 : decode cX6_write 5 = .ok (.invokestatic 50, 3) := by decide +kernel
theorem dX6_write_8 : decode cX6_write 8 = .ok (.ifCond .ne 5, 3) := by decide +kernel
theorem dX6_write_11 : decode cX6_write 11 = .ok (.iconst (-1), 1) := by decide +kernel
theorem dX6_write_12 : decode cX6_write 12 = .ok (.ireturn, 1) := by decide +kernel
theorem dX6_write_13 : decode cX6_write 13 = .ok (.aload_n 0, 1) := by decide +kernel
theorem dX6_write_14 : decode cX6_write 14 = .ok (.getfield 54, 3) := by decide +kernel
theorem dX6_write_17 : decode cX6_write 17 = .ok (.sipush 200, 3) := by decide +kernel
theorem dX6_write_20 : decode cX6_write 20 = .ok (.if_icmp .ne 6, 3) := by decide +kernel
theorem dX6_write_23 : decode cX6_write 23 = .ok (.bipush (-3), 2) := by decide +kernel
theorem dX6_write_25 : decode cX6_write 25 = .ok (.ireturn, 1) := by decide +kernel
theorem dX6_write_26 : decode cX6_write 26 = .ok (.aload_n 0, 1) := by decide +kernel
theorem dX6_write_27 : decode cX6_write 27 = .ok (.getfield 7, 3) := by decide +kernel
theorem dX6_write_30 : decode cX6_write 30 = .ok (.aload_n 0, 1) := by decide +kernel
theorem dX6_write_31 : decode cX6_write 31 = .ok (.getfield 54, 3) := by decide +kernel
theorem dX6_write_34 : decode cX6_write 34 = .ok (.iload_n 1, 1) := by decide +kernel
theorem dX6_write_35 : decode cX6_write 35 = .ok (.iastore, 1) := by decide +kernel
theorem dX6_write_36 : decode cX6_write 36 = .ok (.aload_n 0, 1) := by decide +kernel
theorem dX6_write_37 : decode cX6_write 37 = .ok (.dup, 1) := by decide +kernel
theorem dX6_write_38 : decode cX6_write 38 = .ok (.getfield 54, 3) := by decide +kernel
theorem dX6_write_41 : decode cX6_write 41 = .ok (.iconst 1, 1) := by decide +kernel
theorem dX6_write_42 : decode cX6_write 42 = .ok (.iadd, 1) := by decide +kernel
theorem dX6_write_43 : decode cX6_write 43 = .ok (.putfield 54, 3) := by decide +kernel
theorem dX6_write_46 : decode cX6_write 46 = .ok (.aload_n 0, 1) := by decide +kernel
theorem dX6_write_47 : decode cX6_write 47 = .ok (.getfield 54, 3) := by decide +kernel
theorem dX6_write_50 : decode cX6_write 50 = .ok (.ireturn, 1) := by decide +kernel
theorem dX6_wipe_0 : decode cX6_wipe 0 = .ok (.aload_n 0, 1) := by decide +kernel
theorem dX6_wipe_1 : decode cX6_wipe 1 = .ok (.getfield 54, 3) := by decide +kernel
theorem dX6_wipe_4 : decode cX6_wipe 4 = .ok (.istore_n 1, 1) := by decide +kernel
theorem dX6_wipe_5 : decode cX6_wipe 5 = .ok (.aload_n 0, 1) := by decide +kernel
theorem dX6_wipe_6 : decode cX6_wipe 6 = .ok (.iconst 0, 1) := by decide +kernel
theorem dX6_wipe_7 : decode cX6_wipe 7 = .ok (.putfield 54, 3) := by decide +kernel
theorem dX6_wipe_10 : decode cX6_wipe 10 = .ok (.iload_n 1, 1) := by decide +kernel
theorem dX6_wipe_11 : decode cX6_wipe 11 = .ok (.ireturn, 1) := by decide +kernel
theorem dX6_letterAt_0 : decode cX6_letterAt 0 = .ok (.iload_n 1, 1) := by decide +kernel
theorem dX6_letterAt_1 : decode cX6_letterAt 1 = .ok (.aload_n 0, 1) := by decide +kernel
theorem dX6_letterAt_2 : decode cX6_letterAt 2 = .ok (.getfield 54, 3) := by decide +kernel
theorem dX6_letterAt_5 : decode cX6_letterAt 5 = .ok (.if_icmp .ge 12, 3) := by decide +kernel
theorem dX6_letterAt_8 : decode cX6_letterAt 8 = .ok (.aload_n 0, 1) := by decide +kernel
theorem dX6_letterAt_9 : decode cX6_letterAt 9 = .ok (.getfield 7, 3) := by decide +kernel
theorem dX6_letterAt_12 : decode cX6_letterAt 12 = .ok (.iload_n 1, 1) := by decide +kernel
theorem dX6_letterAt_13 : decode cX6_letterAt 13 = .ok (.iaload, 1) := by decide +kernel
theorem dX6_letterAt_14 : decode cX6_letterAt 14 = .ok (.goto 4, 3) := by decide +kernel
theorem dX6_letterAt_17 : decode cX6_letterAt 17 = .ok (.iconst (-1), 1) := by decide +kernel
theorem dX6_letterAt_18 : decode cX6_letterAt 18 = .ok (.ireturn, 1) := by decide +kernel
theorem dX6_isFigure_0 : decode cX6_isFigure 0 = .ok (.iload_n 0, 1) := by decide +kernel
theorem dX6_isFigure_1 : decode cX6_isFigure 1 = .ok (.bipush 48, 2) := by decide +kernel
theorem dX6_isFigure_3 : decode cX6_isFigure 3 = .ok (.bipush 57, 2) := by decide +kernel
theorem dX6_isFigure_5 : decode cX6_isFigure 5 = .ok (.invokestatic 50, 3) := by decide +kernel
theorem dX6_isFigure_8 : decode cX6_isFigure 8 = .ok (.ireturn, 1) := by decide +kernel
theorem dX6_number_0 : decode cX6_number 0 = .ok (.aload_n 0, 1) := by decide +kernel
theorem dX6_number_1 : decode cX6_number 1 = .ok (.aload_n 0, 1) := by decide +kernel
theorem dX6_number_2 : decode cX6_number 2 = .ok (.getfield 58, 3) := by decide +kernel
theorem dX6_number_5 : decode cX6_number 5 = .ok (.invokevirtual 61, 3) := by decide +kernel
theorem dX6_number_8 : decode cX6_number 8 = .ok (.invokestatic 65, 3) := by decide +kernel
theorem dX6_number_11 : decode cX6_number 11 = .ok (.ifCond .ne 5, 3) := by decide +kernel
theorem dX6_number_14 : decode cX6_number 14 = .ok (.iconst (-1), 1) := by decide +kernel
theorem dX6_number_15 : decode cX6_number 15 = .ok (.ireturn, 1) := by decide +kernel
theorem dX6_number_16 : decode cX6_number 16 = .ok (.aload_n 0, 1) := by decide +kernel
theorem dX6_number_17 : decode cX6_number 17 = .ok (.aload_n 0, 1) := by decide +kernel
theorem dX6_number_18 : decode cX6_number 18 = .ok (.getfield 58, 3) := by decide +kernel
theorem dX6_number_21 : decode cX6_number 21 = .ok (.invokevirtual 61, 3) := by decide +kernel
theorem dX6_number_24 : decode cX6_number 24 = .ok (.bipush 48, 2) := by decide +kernel
theorem dX6_number_26 : decode cX6_number 26 = .ok (.isub, 1) := by decide +kernel
theorem dX6_number_27 : decode cX6_number 27 = .ok (.istore 4, 2) := by decide +kernel
theorem dX6_number_29 : decode cX6_number 29 = .ok (.aload_n 0, 1) := by decide +kernel
theorem dX6_number_30 : decode cX6_number 30 = .ok (.dup, 1) := by decide +kernel
theorem dX6_number_31 : decode cX6_number 31 = .ok (.getfield 58, 3) := by decide +kernel
theorem dX6_number_34 : decode cX6_number 34 = .ok (.iconst 1, 1) := by decide +kernel
theorem dX6_number_35 : decode cX6_number 35 = .ok (.iadd, 1) := by decide +kernel
theorem dX6_number_36 : decode cX6_number 36 = .ok (.putfield 58, 3) := by decide +kernel
theorem dX6_number_39 : decode cX6_number 39 = .ok (.aload_n 0, 1) := by decide +kernel
theorem dX6_number_40 : decode cX6_number 40 = .ok (.aload_n 0, 1) := by decide +kernel
theorem dX6_number_41 : decode cX6_number 41 = .ok (.getfield 58, 3) := by decide +kernel
theorem dX6_number_44 : decode cX6_number 44 = .ok (.invokevirtual 61, 3) := by decide +kernel
theorem dX6_number_47 : decode cX6_number 47 = .ok (.invokestatic 65, 3) := by decide +kernel
theorem dX6_number_50 : decode cX6_number 50 = .ok (.ifCond .eq 32, 3) := by decide +kernel
theorem dX6_number_53 : decode cX6_number 53 = .ok (.bipush 10, 2) := by decide +kernel
theorem dX6_number_55 : decode cX6_number 55 = .ok (.iload 4, 2) := by decide +kernel
theorem dX6_number_57 : decode cX6_number 57 = .ok (.imul, 1) := by decide +kernel
theorem dX6_number_58 : decode cX6_number 58 = .ok (.aload_n 0, 1) := by decide +kernel
theorem dX6_number_59 : decode cX6_number 59 = .ok (.aload_n 0, 1) := by decide +kernel
theorem dX6_number_60 : decode cX6_number 60 = .ok (.getfield 58, 3) := by decide +kernel
theorem dX6_number_63 : decode cX6_number 63 = .ok (.invokevirtual 61, 3) := by decide +kernel
theorem dX6_number_66 : decode cX6_number 66 = .ok (.iadd, 1) := by decide +kernel
theorem dX6_number_67 : decode cX6_number 67 = .ok (.bipush 48, 2) := by decide +kernel
theorem dX6_number_69 : decode cX6_number 69 = .ok (.isub, 1) := by decide +kernel
theorem dX6_number_70 : decode cX6_number 70 = .ok (.istore 4, 2) := by decide +kernel
theorem dX6_number_72 : decode cX6_number 72 = .ok (.aload_n 0, 1) := by decide +kernel
theorem dX6_number_73 : decode cX6_number 73 = .ok (.dup, 1) := by decide +kernel
theorem dX6_number_74 : decode cX6_number 74 = .ok (.getfield 58, 3) := by decide +kernel
theorem dX6_number_77 : decode cX6_number 77 = .ok (.iconst 1, 1) := by decide +kernel
theorem dX6_number_78 : decode cX6_number 78 = .ok (.iadd, 1) := by decide +kernel
theorem dX6_number_79 : decode cX6_number 79 = .ok (.putfield 58, 3) := by decide +kernel
theorem dX6_number_82 : decode cX6_number 82 = .ok (.aload_n 0, 1) := by decide +kernel
theorem dX6_number_83 : decode cX6_number 83 = .ok (.aload_n 0, 1) := by decide +kernel
theorem dX6_number_84 : decode cX6_number 84 = .ok (.getfield 58, 3) := by decide +kernel
theorem dX6_number_87 : decode cX6_number 87 = .ok (.invokevirtual 61, 3) := by decide +kernel
theorem dX6_number_90 : decode cX6_number 90 = .ok (.iload_n 3, 1) := by decide +kernel
theorem dX6_number_91 : decode cX6_number 91 = .ok (.if_icmp .ne 17, 3) := by decide +kernel
theorem dX6_number_94 : decode cX6_number 94 = .ok (.iload 4, 2) := by decide +kernel
theorem dX6_number_96 : decode cX6_number 96 = .ok (.iload_n 1, 1) := by decide +kernel
theorem dX6_number_97 : decode cX6_number 97 = .ok (.iload_n 2, 1) := by decide +kernel
theorem dX6_number_98 : decode cX6_number 98 = .ok (.invokestatic 50, 3) := by decide +kernel
theorem dX6_number_101 : decode cX6_number 101 = .ok (.ifCond .eq 7, 3) := by decide +kernel
theorem dX6_number_104 : decode cX6_number 104 = .ok (.iconst 1, 1) := by decide +kernel
theorem dX6_number_105 : decode cX6_number 105 = .ok (.goto 4, 3) := by decide +kernel
theorem dX6_number_108 : decode cX6_number 108 = .ok (.iconst 0, 1) := by decide +kernel
theorem dX6_number_109 : decode cX6_number 109 = .ok (.istore 5, 2) := by decide +kernel
theorem dX6_number_111 : decode cX6_number 111 = .ok (.aload_n 0, 1) := by decide +kernel
theorem dX6_number_112 : decode cX6_number 112 = .ok (.dup, 1) := by decide +kernel
theorem dX6_number_113 : decode cX6_number 113 = .ok (.getfield 58, 3) := by decide +kernel
theorem dX6_number_116 : decode cX6_number 116 = .ok (.iconst 1, 1) := by decide +kernel
theorem dX6_number_117 : decode cX6_number 117 = .ok (.iadd, 1) := by decide +kernel
theorem dX6_number_118 : decode cX6_number 118 = .ok (.putfield 58, 3) := by decide +kernel
theorem dX6_number_121 : decode cX6_number 121 = .ok (.iload 5, 2) := by decide +kernel
theorem dX6_number_123 : decode cX6_number 123 = .ok (.ifCond .eq 8, 3) := by decide +kernel
theorem dX6_number_126 : decode cX6_number 126 = .ok (.iload 4, 2) := by decide +kernel
theorem dX6_number_128 : decode cX6_number 128 = .ok (.goto 4, 3) := by decide +kernel
theorem dX6_number_131 : decode cX6_number 131 = .ok (.iconst (-1), 1) := by decide +kernel
theorem dX6_number_132 : decode cX6_number 132 = .ok (.ireturn, 1) := by decide +kernel
theorem dX6_begins_0 : decode cX6_begins 0 = .ok (.iconst 0, 1) := by decide +kernel
theorem dX6_begins_1 : decode cX6_begins 1 = .ok (.istore_n 1, 1) := by decide +kernel
theorem dX6_begins_2 : decode cX6_begins 2 = .ok (.iload_n 1, 1) := by decide +kernel
theorem dX6_begins_3 : decode cX6_begins 3 = .ok (.bipush 10, 2) := by decide +kernel
theorem dX6_begins_5 : decode cX6_begins 5 = .ok (.if_icmp .ge 16, 3) := by decide +kernel
theorem dX6_begins_8 : decode cX6_begins 8 = .ok (.aload_n 0, 1) := by decide +kernel
theorem dX6_begins_9 : decode cX6_begins 9 = .ok (.getfield 16, 3) := by decide +kernel
theorem dX6_begins_12 : decode cX6_begins 12 = .ok (.iload_n 1, 1) := by decide +kernel
theorem dX6_begins_13 : decode cX6_begins 13 = .ok (.iconst 0, 1) := by decide +kernel
theorem dX6_begins_14 : decode cX6_begins 14 = .ok (.iastore, 1) := by decide +kernel
theorem dX6_begins_15 : decode cX6_begins 15 = .ok (.iinc 1 1, 3) := by decide +kernel
theorem dX6_begins_18 : decode cX6_begins 18 = .ok (.goto (-16), 3) := by decide +kernel
theorem dX6_begins_21 : decode cX6_begins 21 = .ok (.iconst 0, 1) := by decide +kernel
theorem dX6_begins_22 : decode cX6_begins 22 = .ok (.istore_n 1, 1) := by decide +kernel
theorem dX6_begins_23 : decode cX6_begins 23 = .ok (.iload_n 1, 1) := by decide +kernel
theorem dX6_begins_24 : decode cX6_begins 24 = .ok (.bipush 31, 2) := by decide +kernel
theorem dX6_begins_26 : decode cX6_begins 26 = .ok (.if_icmp .ge 16, 3) := by decide +kernel
theorem dX6_begins_29 : decode cX6_begins 29 = .ok (.aload_n 0, 1) := by decide +kernel
theorem dX6_begins_30 : decode cX6_begins 30 = .ok (.getfield 19, 3) := by decide +kernel
theorem dX6_begins_33 : decode cX6_begins 33 = .ok (.iload_n 1, 1) := by decide +kernel
theorem dX6_begins_34 : decode cX6_begins 34 = .ok (.iconst 0, 1) := by decide +kernel
theorem dX6_begins_35 : decode cX6_begins 35 = .ok (.iastore, 1) := by decide +kernel
theorem dX6_begins_36 : decode cX6_begins 36 = .ok (.iinc 1 1, 3) := by decide +kernel
theorem dX6_begins_39 : decode cX6_begins 39 = .ok (.goto (-16), 3) := by decide +kernel
theorem dX6_begins_42 : decode cX6_begins 42 = .ok (.aload_n 0, 1) := by decide +kernel
theorem dX6_begins_43 : decode cX6_begins 43 = .ok (.getfield 16, 3) := by decide +kernel
theorem dX6_begins_46 : decode cX6_begins 46 = .ok (.iconst 1, 1) := by decide +kernel
theorem dX6_begins_47 : decode cX6_begins 47 = .ok (.iconst 5, 1) := by decide +kernel
theorem dX6_begins_48 : decode cX6_begins 48 = .ok (.iastore, 1) := by decide +kernel
theorem dX6_begins_49 : decode cX6_begins 49 = .ok (.aload_n 0, 1) := by decide +kernel
theorem dX6_begins_50 : decode cX6_begins 50 = .ok (.getfield 16, 3) := by decide +kernel
theorem dX6_begins_53 : decode cX6_begins 53 = .ok (.iconst 2, 1) := by decide +kernel
theorem dX6_begins_54 : decode cX6_begins 54 = .ok (.bipush 6, 2) := by decide +kernel
theorem dX6_begins_56 : decode cX6_begins 56 = .ok (.iastore, 1) := by decide +kernel
theorem dX6_begins_57 : decode cX6_begins 57 = .ok (.aload_n 0, 1) := by decide +kernel
theorem dX6_begins_58 : decode cX6_begins 58 = .ok (.getfield 19, 3) := by decide +kernel
theorem dX6_begins_61 : decode cX6_begins 61 = .ok (.bipush 28, 2) := by decide +kernel
theorem dX6_begins_63 : decode cX6_begins 63 = .ok (.bipush 30, 2) := by decide +kernel
theorem dX6_begins_65 : decode cX6_begins 65 = .ok (.iastore, 1) := by decide +kernel
theorem dX6_begins_66 : decode cX6_begins 66 = .ok (.aload_n 0, 1) := by decide +kernel
theorem dX6_begins_67 : decode cX6_begins 67 = .ok (.getfield 19, 3) := by decide +kernel
theorem dX6_begins_70 : decode cX6_begins 70 = .ok (.bipush 29, 2) := by decide +kernel
theorem dX6_begins_72 : decode cX6_begins 72 = .ok (.iconst 4, 1) := by decide +kernel
theorem dX6_begins_73 : decode cX6_begins 73 = .ok (.iastore, 1) := by decide +kernel
theorem dX6_begins_74 : decode cX6_begins 74 = .ok (.aload_n 0, 1) := by decide +kernel
theorem dX6_begins_75 : decode cX6_begins 75 = .ok (.getfield 19, 3) := by decide +kernel
theorem dX6_begins_78 : decode cX6_begins 78 = .ok (.bipush 30, 2) := by decide +kernel
theorem dX6_begins_80 : decode cX6_begins 80 = .ok (.iconst 1, 1) := by decide +kernel
theorem dX6_begins_81 : decode cX6_begins 81 = .ok (.iastore, 1) := by decide +kernel
theorem dX6_begins_82 : decode cX6_begins 82 = .ok (.return_, 1) := by decide +kernel
theorem dX6_memberOf_0 : decode cX6_memberOf 0 = .ok (.aload_n 0, 1) := by decide +kernel
theorem dX6_memberOf_1 : decode cX6_memberOf 1 = .ok (.getfield 16, 3) := by decide +kernel
theorem dX6_memberOf_4 : decode cX6_memberOf 4 = .ok (.iconst 0, 1) := by decide +kernel
theorem dX6_memberOf_5 : decode cX6_memberOf 5 = .ok (.iaload, 1) := by decide +kernel
theorem dX6_memberOf_6 : decode cX6_memberOf 6 = .ok (.istore 5, 2) := by decide +kernel
theorem dX6_memberOf_8 : decode cX6_memberOf 8 = .ok (.aload_n 0, 1) := by decide +kernel
theorem dX6_memberOf_9 : decode cX6_memberOf 9 = .ok (.getfield 19, 3) := by decide +kernel
theorem dX6_memberOf_12 : decode cX6_memberOf 12 = .ok (.iload 5, 2) := by decide +kernel
theorem dX6_memberOf_14 : decode cX6_memberOf 14 = .ok (.iload_n 1, 1) := by decide +kernel
theorem dX6_memberOf_15 : decode cX6_memberOf 15 = .ok (.iastore, 1) := by decide +kernel
theorem dX6_memberOf_16 : decode cX6_memberOf 16 = .ok (.aload_n 0, 1) := by decide +kernel
theorem dX6_memberOf_17 : decode cX6_memberOf 17 = .ok (.getfield 19, 3) := by decide +kernel
theorem dX6_memberOf_20 : decode cX6_memberOf 20 = .ok (.bipush 7, 2) := by decide +kernel
theorem dX6_memberOf_22 : decode cX6_memberOf 22 = .ok (.iload 5, 2) := by decide +kernel
theorem dX6_memberOf_24 : decode cX6_memberOf 24 = .ok (.iadd, 1) := by decide +kernel
theorem dX6_memberOf_25 : decode cX6_memberOf 25 = .ok (.iload_n 2, 1) := by decide +kernel
theorem dX6_memberOf_26 : decode cX6_memberOf 26 = .ok (.iastore, 1) := by decide +kernel
theorem dX6_memberOf_27 : decode cX6_memberOf 27 = .ok (.aload_n 0, 1) := by decide +kernel
theorem dX6_memberOf_28 : decode cX6_memberOf 28 = .ok (.getfield 19, 3) := by decide +kernel
theorem dX6_memberOf_31 : decode cX6_memberOf 31 = .ok (.bipush 14, 2) := by decide +kernel
theorem dX6_memberOf_33 : decode cX6_memberOf 33 = .ok (.iload 5, 2) := by decide +kernel
theorem dX6_memberOf_35 : decode cX6_memberOf 35 = .ok (.iadd, 1) := by decide +kernel
theorem dX6_memberOf_36 : decode cX6_memberOf 36 = .ok (.iload_n 3, 1) := by decide +kernel
theorem dX6_memberOf_37 : decode cX6_memberOf 37 = .ok (.iastore, 1) := by decide +kernel
theorem dX6_memberOf_38 : decode cX6_memberOf 38 = .ok (.aload_n 0, 1) := by decide +kernel
theorem dX6_memberOf_39 : decode cX6_memberOf 39 = .ok (.getfield 16, 3) := by decide +kernel
theorem dX6_memberOf_42 : decode cX6_memberOf 42 = .ok (.iconst 3, 1) := by decide +kernel
theorem dX6_memberOf_43 : decode cX6_memberOf 43 = .ok (.iload 5, 2) := by decide +kernel
theorem dX6_memberOf_45 : decode cX6_memberOf 45 = .ok (.iadd, 1) := by decide +kernel
theorem dX6_memberOf_46 : decode cX6_memberOf 46 = .ok (.iload 4, 2) := by decide +kernel
theorem dX6_memberOf_48 : decode cX6_memberOf 48 = .ok (.iastore, 1) := by decide +kernel
theorem dX6_memberOf_49 : decode cX6_memberOf 49 = .ok (.aload_n 0, 1) := by decide +kernel
theorem dX6_memberOf_50 : decode cX6_memberOf 50 = .ok (.getfield 16, 3) := by decide +kernel
theorem dX6_memberOf_53 : decode cX6_memberOf 53 = .ok (.iconst 0, 1) := by decide +kernel
theorem dX6_memberOf_54 : decode cX6_memberOf 54 = .ok (.dup2, 1) := by decide +kernel
theorem dX6_memberOf_55 : decode cX6_memberOf 55 = .ok (.iaload, 1) := by decide +kernel
theorem dX6_memberOf_56 : decode cX6_memberOf 56 = .ok (.iconst 1, 1) := by decide +kernel
theorem dX6_memberOf_57 : decode cX6_memberOf 57 = .ok (.iadd, 1) := by decide +kernel
theorem dX6_memberOf_58 : decode cX6_memberOf 58 = .ok (.iastore, 1) := by decide +kernel
theorem dX6_memberOf_59 : decode cX6_memberOf 59 = .ok (.return_, 1) := by decide +kernel
theorem dX6_readsItem_0 : decode cX6_readsItem 0 = .ok (.iload_n 1, 1) := by decide +kernel
theorem dX6_readsItem_1 : decode cX6_readsItem 1 = .ok (.lookupswitch 282 #[(102, 252), (109, 43), (112, 139), (114, 222)], 43) := by decide +kernel
theorem dX6_readsItem_44 : decode cX6_readsItem 44 = .ok (.aload_n 0, 1) := by decide +kernel
theorem dX6_readsItem_45 : decode cX6_readsItem 45 = .ok (.iconst 0, 1) := by decide +kernel
theorem dX6_readsItem_46 : decode cX6_readsItem 46 = .ok (.iconst 3, 1) := by decide +kernel
theorem dX6_readsItem_47 : decode cX6_readsItem 47 = .ok (.bipush 44, 2) := by decide +kernel
theorem dX6_readsItem_49 : decode cX6_readsItem 49 = .ok (.invokevirtual 69, 3) := by decide +kernel
theorem dX6_readsItem_52 : decode cX6_readsItem 52 = .ok (.istore_n 2, 1) := by decide +kernel
theorem dX6_readsItem_53 : decode cX6_readsItem 53 = .ok (.iload_n 2, 1) := by decide +kernel
theorem dX6_readsItem_54 : decode cX6_readsItem 54 = .ok (.ifCond .ge 7, 3) := by decide +kernel
theorem dX6_readsItem_57 : decode cX6_readsItem 57 = .ok (.iconst (-1), 1) := by decide +kernel
theorem dX6_readsItem_58 : decode cX6_readsItem 58 = .ok (.goto 12, 3) := by decide +kernel
theorem dX6_readsItem_61 : decode cX6_readsItem 61 = .ok (.aload_n 0, 1) := by decide +kernel
theorem dX6_readsItem_62 : decode cX6_readsItem 62 = .ok (.iconst 1, 1) := by decide +kernel
theorem dX6_readsItem_63 : decode cX6_readsItem 63 = .ok (.bipush 9, 2) := by decide +kernel
theorem dX6_readsItem_65 : decode cX6_readsItem 65 = .ok (.bipush 44, 2) := by decide +kernel
theorem dX6_readsItem_67 : decode cX6_readsItem 67 = .ok (.invokevirtual 69, 3) := by decide +kernel
theorem dX6_readsItem_70 : decode cX6_readsItem 70 = .ok (.istore_n 3, 1) := by decide +kernel
theorem dX6_readsItem_71 : decode cX6_readsItem 71 = .ok (.iload_n 3, 1) := by decide +kernel
theorem dX6_readsItem_72 : decode cX6_readsItem 72 = .ok (.ifCond .ge 7, 3) := by decide +kernel
theorem dX6_readsItem_75 : decode cX6_readsItem 75 = .ok (.iconst (-1), 1) := by decide +kernel
theorem dX6_readsItem_76 : decode cX6_readsItem 76 = .ok (.goto 12, 3) := by decide +kernel
theorem dX6_readsItem_79 : decode cX6_readsItem 79 = .ok (.aload_n 0, 1) := by decide +kernel
theorem dX6_readsItem_80 : decode cX6_readsItem 80 = .ok (.iconst 0, 1) := by decide +kernel
theorem dX6_readsItem_81 : decode cX6_readsItem 81 = .ok (.bipush 60, 2) := by decide +kernel
theorem dX6_readsItem_83 : decode cX6_readsItem 83 = .ok (.bipush 44, 2) := by decide +kernel
theorem dX6_readsItem_85 : decode cX6_readsItem 85 = .ok (.invokevirtual 69, 3) := by decide +kernel
theorem dX6_readsItem_88 : decode cX6_readsItem 88 = .ok (.istore 4, 2) := by decide +kernel
theorem dX6_readsItem_90 : decode cX6_readsItem 90 = .ok (.iload 4, 2) := by decide +kernel
theorem dX6_readsItem_92 : decode cX6_readsItem 92 = .ok (.ifCond .ge 7, 3) := by decide +kernel
theorem dX6_readsItem_95 : decode cX6_readsItem 95 = .ok (.iconst (-1), 1) := by decide +kernel
theorem dX6_readsItem_96 : decode cX6_readsItem 96 = .ok (.goto 12, 3) := by decide +kernel
theorem dX6_readsItem_99 : decode cX6_readsItem 99 = .ok (.aload_n 0, 1) := by decide +kernel
theorem dX6_readsItem_100 : decode cX6_readsItem 100 = .ok (.iconst 0, 1) := by decide +kernel
theorem dX6_readsItem_101 : decode cX6_readsItem 101 = .ok (.bipush 9, 2) := by decide +kernel
theorem dX6_readsItem_103 : decode cX6_readsItem 103 = .ok (.bipush 59, 2) := by decide +kernel
theorem dX6_readsItem_105 : decode cX6_readsItem 105 = .ok (.invokevirtual 69, 3) := by decide +kernel
theorem dX6_readsItem_108 : decode cX6_readsItem 108 = .ok (.istore 5, 2) := by decide +kernel
theorem dX6_readsItem_110 : decode cX6_readsItem 110 = .ok (.iload 5, 2) := by decide +kernel
theorem dX6_readsItem_112 : decode cX6_readsItem 112 = .ok (.ifCond .lt 14, 3) := by decide +kernel
theorem dX6_readsItem_115 : decode cX6_readsItem 115 = .ok (.aload_n 0, 1) := by decide +kernel
theorem dX6_readsItem_116 : decode cX6_readsItem 116 = .ok (.getfield 16, 3) := by decide +kernel
theorem dX6_readsItem_119 : decode cX6_readsItem 119 = .ok (.iconst 0, 1) := by decide +kernel
theorem dX6_readsItem_120 : decode cX6_readsItem 120 = .ok (.iaload, 1) := by decide +kernel
theorem dX6_readsItem_121 : decode cX6_readsItem 121 = .ok (.bipush 7, 2) := by decide +kernel
theorem dX6_readsItem_123 : decode cX6_readsItem 123 = .ok (.if_icmp .ne 5, 3) := by decide +kernel
theorem dX6_readsItem_126 : decode cX6_readsItem 126 = .ok (.iconst 0, 1) := by decide +kernel
theorem dX6_readsItem_127 : decode cX6_readsItem 127 = .ok (.ireturn, 1) := by decide +kernel
theorem dX6_readsItem_128 : decode cX6_readsItem 128 = .ok (.aload_n 0, 1) := by decide +kernel
theorem dX6_readsItem_129 : decode cX6_readsItem 129 = .ok (.iload_n 2, 1) := by decide +kernel
theorem dX6_readsItem_130 : decode cX6_readsItem 130 = .ok (.iload_n 3, 1) := by decide +kernel
theorem dX6_readsItem_131 : decode cX6_readsItem 131 = .ok (.iload 4, 2) := by decide +kernel
theorem dX6_readsItem_133 : decode cX6_readsItem 133 = .ok (.iload 5, 2) := by decide +kernel
theorem dX6_readsItem_135 : decode cX6_readsItem 135 = .ok (.invokevirtual 43, 3) := by decide +kernel
theorem dX6_readsItem_138 : decode cX6_readsItem 138 = .ok (.iconst 1, 1) := by decide +kernel
theorem dX6_readsItem_139 : decode cX6_readsItem 139 = .ok (.ireturn, 1) := by decide +kernel
theorem dX6_readsItem_140 : decode cX6_readsItem 140 = .ok (.aload_n 0, 1) := by decide +kernel
theorem dX6_readsItem_141 : decode cX6_readsItem 141 = .ok (.iconst 0, 1) := by decide +kernel
theorem dX6_readsItem_142 : decode cX6_readsItem 142 = .ok (.bipush 99, 2) := by decide +kernel
theorem dX6_readsItem_144 : decode cX6_readsItem 144 = .ok (.bipush 44, 2) := by decide +kernel
theorem dX6_readsItem_146 : decode cX6_readsItem 146 = .ok (.invokevirtual 69, 3) := by decide +kernel
theorem dX6_readsItem_149 : decode cX6_readsItem 149 = .ok (.istore_n 2, 1) := by decide +kernel
theorem dX6_readsItem_150 : decode cX6_readsItem 150 = .ok (.iload_n 2, 1) := by decide +kernel
theorem dX6_readsItem_151 : decode cX6_readsItem 151 = .ok (.ifCond .ge 7, 3) := by decide +kernel
theorem dX6_readsItem_154 : decode cX6_readsItem 154 = .ok (.iconst (-1), 1) := by decide +kernel
theorem dX6_readsItem_155 : decode cX6_readsItem 155 = .ok (.goto 12, 3) := by decide +kernel
theorem dX6_readsItem_158 : decode cX6_readsItem 158 = .ok (.aload_n 0, 1) := by decide +kernel
theorem dX6_readsItem_159 : decode cX6_readsItem 159 = .ok (.iconst 0, 1) := by decide +kernel
theorem dX6_readsItem_160 : decode cX6_readsItem 160 = .ok (.bipush 9, 2) := by decide +kernel
theorem dX6_readsItem_162 : decode cX6_readsItem 162 = .ok (.bipush 44, 2) := by decide +kernel
theorem dX6_readsItem_164 : decode cX6_readsItem 164 = .ok (.invokevirtual 69, 3) := by decide +kernel
theorem dX6_readsItem_167 : decode cX6_readsItem 167 = .ok (.istore_n 3, 1) := by decide +kernel
theorem dX6_readsItem_168 : decode cX6_readsItem 168 = .ok (.iload_n 3, 1) := by decide +kernel
theorem dX6_readsItem_169 : decode cX6_readsItem 169 = .ok (.ifCond .ge 7, 3) := by decide +kernel
theorem dX6_readsItem_172 : decode cX6_readsItem 172 = .ok (.iconst (-1), 1) := by decide +kernel
theorem dX6_readsItem_173 : decode cX6_readsItem 173 = .ok (.goto 12, 3) := by decide +kernel
theorem dX6_readsItem_176 : decode cX6_readsItem 176 = .ok (.aload_n 0, 1) := by decide +kernel
theorem dX6_readsItem_177 : decode cX6_readsItem 177 = .ok (.iconst 0, 1) := by decide +kernel
theorem dX6_readsItem_178 : decode cX6_readsItem 178 = .ok (.bipush 9, 2) := by decide +kernel
theorem dX6_readsItem_180 : decode cX6_readsItem 180 = .ok (.bipush 59, 2) := by decide +kernel
theorem dX6_readsItem_182 : decode cX6_readsItem 182 = .ok (.invokevirtual 69, 3) := by decide +kernel
theorem dX6_readsItem_185 : decode cX6_readsItem 185 = .ok (.istore 4, 2) := by decide +kernel
theorem dX6_readsItem_187 : decode cX6_readsItem 187 = .ok (.aload_n 0, 1) := by decide +kernel
theorem dX6_readsItem_188 : decode cX6_readsItem 188 = .ok (.getfield 19, 3) := by decide +kernel
theorem dX6_readsItem_191 : decode cX6_readsItem 191 = .ok (.bipush 28, 2) := by decide +kernel
theorem dX6_readsItem_193 : decode cX6_readsItem 193 = .ok (.iload_n 2, 1) := by decide +kernel
theorem dX6_readsItem_194 : decode cX6_readsItem 194 = .ok (.iastore, 1) := by decide +kernel
theorem dX6_readsItem_195 : decode cX6_readsItem 195 = .ok (.aload_n 0, 1) := by decide +kernel
theorem dX6_readsItem_196 : decode cX6_readsItem 196 = .ok (.getfield 19, 3) := by decide +kernel
theorem dX6_readsItem_199 : decode cX6_readsItem 199 = .ok (.bipush 29, 2) := by decide +kernel
theorem dX6_readsItem_201 : decode cX6_readsItem 201 = .ok (.iload_n 3, 1) := by decide +kernel
theorem dX6_readsItem_202 : decode cX6_readsItem 202 = .ok (.iastore, 1) := by decide +kernel
theorem dX6_readsItem_203 : decode cX6_readsItem 203 = .ok (.aload_n 0, 1) := by decide +kernel
theorem dX6_readsItem_204 : decode cX6_readsItem 204 = .ok (.getfield 19, 3) := by decide +kernel
theorem dX6_readsItem_207 : decode cX6_readsItem 207 = .ok (.bipush 30, 2) := by decide +kernel
theorem dX6_readsItem_209 : decode cX6_readsItem 209 = .ok (.iload 4, 2) := by decide +kernel
theorem dX6_readsItem_211 : decode cX6_readsItem 211 = .ok (.iastore, 1) := by decide +kernel
theorem dX6_readsItem_212 : decode cX6_readsItem 212 = .ok (.iload 4, 2) := by decide +kernel
theorem dX6_readsItem_214 : decode cX6_readsItem 214 = .ok (.ifCond .lt 7, 3) := by decide +kernel
theorem dX6_readsItem_217 : decode cX6_readsItem 217 = .ok (.iconst 1, 1) := by decide +kernel
theorem dX6_readsItem_218 : decode cX6_readsItem 218 = .ok (.goto 4, 3) := by decide +kernel
theorem dX6_readsItem_221 : decode cX6_readsItem 221 = .ok (.iconst 0, 1) := by decide +kernel
theorem dX6_readsItem_222 : decode cX6_readsItem 222 = .ok (.ireturn, 1) := by decide +kernel
theorem dX6_readsItem_223 : decode cX6_readsItem 223 = .ok (.aload_n 0, 1) := by decide +kernel
theorem dX6_readsItem_224 : decode cX6_readsItem 224 = .ok (.getfield 16, 3) := by decide +kernel
theorem dX6_readsItem_227 : decode cX6_readsItem 227 = .ok (.iconst 1, 1) := by decide +kernel
theorem dX6_readsItem_228 : decode cX6_readsItem 228 = .ok (.aload_n 0, 1) := by decide +kernel
theorem dX6_readsItem_229 : decode cX6_readsItem 229 = .ok (.iconst 1, 1) := by decide +kernel
theorem dX6_readsItem_230 : decode cX6_readsItem 230 = .ok (.bipush 20, 2) := by decide +kernel
theorem dX6_readsItem_232 : decode cX6_readsItem 232 = .ok (.bipush 59, 2) := by decide +kernel
theorem dX6_readsItem_234 : decode cX6_readsItem 234 = .ok (.invokevirtual 69, 3) := by decide +kernel
theorem dX6_readsItem_237 : decode cX6_readsItem 237 = .ok (.iastore, 1) := by decide +kernel
theorem dX6_readsItem_238 : decode cX6_readsItem 238 = .ok (.aload_n 0, 1) := by decide +kernel
theorem dX6_readsItem_239 : decode cX6_readsItem 239 = .ok (.getfield 16, 3) := by decide +kernel
theorem dX6_readsItem_242 : decode cX6_readsItem 242 = .ok (.iconst 1, 1) := by decide +kernel
theorem dX6_readsItem_243 : decode cX6_readsItem 243 = .ok (.iaload, 1) := by decide +kernel
theorem dX6_readsItem_244 : decode cX6_readsItem 244 = .ok (.ifCond .le 7, 3) := by decide +kernel
theorem dX6_readsItem_247 : decode cX6_readsItem 247 = .ok (.iconst 1, 1) := by decide +kernel
theorem dX6_readsItem_248 : decode cX6_readsItem 248 = .ok (.goto 4, 3) := by decide +kernel
theorem dX6_readsItem_251 : decode cX6_readsItem 251 = .ok (.iconst 0, 1) := by decide +kernel
theorem dX6_readsItem_252 : decode cX6_readsItem 252 = .ok (.ireturn, 1) := by decide +kernel
theorem dX6_readsItem_253 : decode cX6_readsItem 253 = .ok (.aload_n 0, 1) := by decide +kernel
theorem dX6_readsItem_254 : decode cX6_readsItem 254 = .ok (.getfield 16, 3) := by decide +kernel
theorem dX6_readsItem_257 : decode cX6_readsItem 257 = .ok (.iconst 2, 1) := by decide +kernel
theorem dX6_readsItem_258 : decode cX6_readsItem 258 = .ok (.aload_n 0, 1) := by decide +kernel
theorem dX6_readsItem_259 : decode cX6_readsItem 259 = .ok (.iconst 1, 1) := by decide +kernel
theorem dX6_readsItem_260 : decode cX6_readsItem 260 = .ok (.bipush 20, 2) := by decide +kernel
theorem dX6_readsItem_262 : decode cX6_readsItem 262 = .ok (.bipush 59, 2) := by decide +kernel
theorem dX6_readsItem_264 : decode cX6_readsItem 264 = .ok (.invokevirtual 69, 3) := by decide +kernel
theorem dX6_readsItem_267 : decode cX6_readsItem 267 = .ok (.iastore, 1) := by decide +kernel
theorem dX6_readsItem_268 : decode cX6_readsItem 268 = .ok (.aload_n 0, 1) := by decide +kernel
theorem dX6_readsItem_269 : decode cX6_readsItem 269 = .ok (.getfield 16, 3) := by decide +kernel
theorem dX6_readsItem_272 : decode cX6_readsItem 272 = .ok (.iconst 2, 1) := by decide +kernel
theorem dX6_readsItem_273 : decode cX6_readsItem 273 = .ok (.iaload, 1) := by decide +kernel
theorem dX6_readsItem_274 : decode cX6_readsItem 274 = .ok (.ifCond .le 7, 3) := by decide +kernel
theorem dX6_readsItem_277 : decode cX6_readsItem 277 = .ok (.iconst 1, 1) := by decide +kernel
theorem dX6_readsItem_278 : decode cX6_readsItem 278 = .ok (.goto 4, 3) := by decide +kernel
theorem dX6_readsItem_281 : decode cX6_readsItem 281 = .ok (.iconst 0, 1) := by decide +kernel
theorem dX6_readsItem_282 : decode cX6_readsItem 282 = .ok (.ireturn, 1) := by decide +kernel
theorem dX6_readsItem_283 : decode cX6_readsItem 283 = .ok (.iconst 0, 1) := by decide +kernel
theorem dX6_readsItem_284 : decode cX6_readsItem 284 = .ok (.ireturn, 1) := by decide +kernel
theorem dX6_readsAll_0 : decode cX6_readsAll 0 = .ok (.aload_n 0, 1) := by decide +kernel
theorem dX6_readsAll_1 : decode cX6_readsAll 1 = .ok (.invokevirtual 40, 3) := by decide +kernel
theorem dX6_readsAll_4 : decode cX6_readsAll 4 = .ok (.aload_n 0, 1) := by decide +kernel
theorem dX6_readsAll_5 : decode cX6_readsAll 5 = .ok (.iconst 0, 1) := by decide +kernel
theorem dX6_readsAll_6 : decode cX6_readsAll 6 = .ok (.putfield 58, 3) := by decide +kernel
theorem dX6_readsAll_9 : decode cX6_readsAll 9 = .ok (.aload_n 0, 1) := by decide +kernel
theorem dX6_readsAll_10 : decode cX6_readsAll 10 = .ok (.getfield 58, 3) := by decide +kernel
theorem dX6_readsAll_13 : decode cX6_readsAll 13 = .ok (.aload_n 0, 1) := by decide +kernel
theorem dX6_readsAll_14 : decode cX6_readsAll 14 = .ok (.getfield 54, 3) := by decide +kernel
theorem dX6_readsAll_17 : decode cX6_readsAll 17 = .ok (.if_icmp .ge 36, 3) := by decide +kernel
theorem dX6_readsAll_20 : decode cX6_readsAll 20 = .ok (.aload_n 0, 1) := by decide +kernel
theorem dX6_readsAll_21 : decode cX6_readsAll 21 = .ok (.getfield 58, 3) := by decide +kernel
theorem dX6_readsAll_24 : decode cX6_readsAll 24 = .ok (.istore_n 1, 1) := by decide +kernel
theorem dX6_readsAll_25 : decode cX6_readsAll 25 = .ok (.aload_n 0, 1) := by decide +kernel
theorem dX6_readsAll_26 : decode cX6_readsAll 26 = .ok (.dup, 1) := by decide +kernel
theorem dX6_readsAll_27 : decode cX6_readsAll 27 = .ok (.getfield 58, 3) := by decide +kernel
theorem dX6_readsAll_30 : decode cX6_readsAll 30 = .ok (.iconst 1, 1) := by decide +kernel
theorem dX6_readsAll_31 : decode cX6_readsAll 31 = .ok (.iadd, 1) := by decide +kernel
theorem dX6_readsAll_32 : decode cX6_readsAll 32 = .ok (.putfield 58, 3) := by decide +kernel
theorem dX6_readsAll_35 : decode cX6_readsAll 35 = .ok (.aload_n 0, 1) := by decide +kernel
theorem dX6_readsAll_36 : decode cX6_readsAll 36 = .ok (.aload_n 0, 1) := by decide +kernel
theorem dX6_readsAll_37 : decode cX6_readsAll 37 = .ok (.getfield 7, 3) := by decide +kernel
theorem dX6_readsAll_40 : decode cX6_readsAll 40 = .ok (.iload_n 1, 1) := by decide +kernel
theorem dX6_readsAll_41 : decode cX6_readsAll 41 = .ok (.iaload, 1) := by decide +kernel
theorem dX6_readsAll_42 : decode cX6_readsAll 42 = .ok (.invokevirtual 73, 3) := by decide +kernel
theorem dX6_readsAll_45 : decode cX6_readsAll 45 = .ok (.ifCond .ne 5, 3) := by decide +kernel
theorem dX6_readsAll_48 : decode cX6_readsAll 48 = .ok (.iload_n 1, 1) := by decide +kernel
theorem dX6_readsAll_49 : decode cX6_readsAll 49 = .ok (.ireturn, 1) := by decide +kernel
theorem dX6_readsAll_50 : decode cX6_readsAll 50 = .ok (.goto (-41), 3) := by decide +kernel
theorem dX6_readsAll_53 : decode cX6_readsAll 53 = .ok (.bipush (-4), 2) := by decide +kernel
theorem dX6_readsAll_55 : decode cX6_readsAll 55 = .ok (.ireturn, 1) := by decide +kernel
theorem dX6_fault_0 : decode cX6_fault 0 = .ok (.aload_n 0, 1) := by decide +kernel
theorem dX6_fault_1 : decode cX6_fault 1 = .ok (.invokevirtual 76, 3) := by decide +kernel
theorem dX6_fault_4 : decode cX6_fault 4 = .ok (.ireturn, 1) := by decide +kernel
theorem dX6_lays_0 : decode cX6_lays 0 = .ok (.iconst 0, 1) := by decide +kernel
theorem dX6_lays_1 : decode cX6_lays 1 = .ok (.istore_n 1, 1) := by decide +kernel
theorem dX6_lays_2 : decode cX6_lays 2 = .ok (.iload_n 1, 1) := by decide +kernel
theorem dX6_lays_3 : decode cX6_lays 3 = .ok (.bipush 10, 2) := by decide +kernel
theorem dX6_lays_5 : decode cX6_lays 5 = .ok (.if_icmp .ge 21, 3) := by decide +kernel
theorem dX6_lays_8 : decode cX6_lays 8 = .ok (.aload_n 0, 1) := by decide +kernel
theorem dX6_lays_9 : decode cX6_lays 9 = .ok (.getfield 13, 3) := by decide +kernel
theorem dX6_lays_12 : decode cX6_lays 12 = .ok (.iload_n 1, 1) := by decide +kernel
theorem dX6_lays_13 : decode cX6_lays 13 = .ok (.aload_n 0, 1) := by decide +kernel
theorem dX6_lays_14 : decode cX6_lays 14 = .ok (.getfield 16, 3) := by decide +kernel
theorem dX6_lays_17 : decode cX6_lays 17 = .ok (.iload_n 1, 1) := by decide +kernel
theorem dX6_lays_18 : decode cX6_lays 18 = .ok (.iaload, 1) := by decide +kernel
theorem dX6_lays_19 : decode cX6_lays 19 = .ok (.iastore, 1) := by decide +kernel
theorem dX6_lays_20 : decode cX6_lays 20 = .ok (.iinc 1 1, 3) := by decide +kernel
theorem dX6_lays_23 : decode cX6_lays 23 = .ok (.goto (-21), 3) := by decide +kernel
theorem dX6_lays_26 : decode cX6_lays 26 = .ok (.iconst 0, 1) := by decide +kernel
theorem dX6_lays_27 : decode cX6_lays 27 = .ok (.istore_n 1, 1) := by decide +kernel
theorem dX6_lays_28 : decode cX6_lays 28 = .ok (.iload_n 1, 1) := by decide +kernel
theorem dX6_lays_29 : decode cX6_lays 29 = .ok (.bipush 31, 2) := by decide +kernel
theorem dX6_lays_31 : decode cX6_lays 31 = .ok (.if_icmp .ge 21, 3) := by decide +kernel
theorem dX6_lays_34 : decode cX6_lays 34 = .ok (.aload_n 0, 1) := by decide +kernel
theorem dX6_lays_35 : decode cX6_lays 35 = .ok (.getfield 22, 3) := by decide +kernel
theorem dX6_lays_38 : decode cX6_lays 38 = .ok (.iload_n 1, 1) := by decide +kernel
theorem dX6_lays_39 : decode cX6_lays 39 = .ok (.aload_n 0, 1) := by decide +kernel
theorem dX6_lays_40 : decode cX6_lays 40 = .ok (.getfield 19, 3) := by decide +kernel
theorem dX6_lays_43 : decode cX6_lays 43 = .ok (.iload_n 1, 1) := by decide +kernel
theorem dX6_lays_44 : decode cX6_lays 44 = .ok (.iaload, 1) := by decide +kernel
theorem dX6_lays_45 : decode cX6_lays 45 = .ok (.iastore, 1) := by decide +kernel
theorem dX6_lays_46 : decode cX6_lays 46 = .ok (.iinc 1 1, 3) := by decide +kernel
theorem dX6_lays_49 : decode cX6_lays 49 = .ok (.goto (-21), 3) := by decide +kernel
theorem dX6_lays_52 : decode cX6_lays 52 = .ok (.aload_n 0, 1) := by decide +kernel
theorem dX6_lays_53 : decode cX6_lays 53 = .ok (.iconst 0, 1) := by decide +kernel
theorem dX6_lays_54 : decode cX6_lays 54 = .ok (.putfield 80, 3) := by decide +kernel
theorem dX6_lays_57 : decode cX6_lays 57 = .ok (.aload_n 0, 1) := by decide +kernel
theorem dX6_lays_58 : decode cX6_lays 58 = .ok (.iconst 0, 1) := by decide +kernel
theorem dX6_lays_59 : decode cX6_lays 59 = .ok (.putfield 83, 3) := by decide +kernel
theorem dX6_lays_62 : decode cX6_lays 62 = .ok (.aload_n 0, 1) := by decide +kernel
theorem dX6_lays_63 : decode cX6_lays 63 = .ok (.iconst 0, 1) := by decide +kernel
theorem dX6_lays_64 : decode cX6_lays 64 = .ok (.putfield 86, 3) := by decide +kernel
theorem dX6_lays_67 : decode cX6_lays 67 = .ok (.return_, 1) := by decide +kernel
theorem dX6_lay_0 : decode cX6_lay 0 = .ok (.aload_n 0, 1) := by decide +kernel
theorem dX6_lay_1 : decode cX6_lay 1 = .ok (.invokevirtual 76, 3) := by decide +kernel
theorem dX6_lay_4 : decode cX6_lay 4 = .ok (.bipush (-4), 2) := by decide +kernel
theorem dX6_lay_6 : decode cX6_lay 6 = .ok (.if_icmp .ne 12, 3) := by decide +kernel
theorem dX6_lay_9 : decode cX6_lay 9 = .ok (.aload_n 0, 1) := by decide +kernel
theorem dX6_lay_10 : decode cX6_lay 10 = .ok (.getfield 16, 3) := by decide +kernel
theorem dX6_lay_13 : decode cX6_lay 13 = .ok (.iconst 0, 1) := by decide +kernel
theorem dX6_lay_14 : decode cX6_lay 14 = .ok (.iaload, 1) := by decide +kernel
theorem dX6_lay_15 : decode cX6_lay 15 = .ok (.ifCond .ne 6, 3) := by decide +kernel
theorem dX6_lay_18 : decode cX6_lay 18 = .ok (.bipush (-2), 2) := by decide +kernel
theorem dX6_lay_20 : decode cX6_lay 20 = .ok (.ireturn, 1) := by decide +kernel
theorem dX6_lay_21 : decode cX6_lay 21 = .ok (.aload_n 0, 1) := by decide +kernel
theorem dX6_lay_22 : decode cX6_lay 22 = .ok (.invokevirtual 47, 3) := by decide +kernel
theorem dX6_lay_25 : decode cX6_lay 25 = .ok (.aload_n 0, 1) := by decide +kernel
theorem dX6_lay_26 : decode cX6_lay 26 = .ok (.getfield 13, 3) := by decide +kernel
theorem dX6_lay_29 : decode cX6_lay 29 = .ok (.iconst 0, 1) := by decide +kernel
theorem dX6_lay_30 : decode cX6_lay 30 = .ok (.iaload, 1) := by decide +kernel
theorem dX6_lay_31 : decode cX6_lay 31 = .ok (.ireturn, 1) := by decide +kernel
theorem dX6_wouldEat_0 : decode cX6_wouldEat 0 = .ok (.aload_n 0, 1) := by decide +kernel
theorem dX6_wouldEat_1 : decode cX6_wouldEat 1 = .ok (.getfield 22, 3) := by decide +kernel
theorem dX6_wouldEat_4 : decode cX6_wouldEat 4 = .ok (.iload_n 1, 1) := by decide +kernel
theorem dX6_wouldEat_5 : decode cX6_wouldEat 5 = .ok (.iaload, 1) := by decide +kernel
theorem dX6_wouldEat_6 : decode cX6_wouldEat 6 = .ok (.istore_n 2, 1) := by decide +kernel
theorem dX6_wouldEat_7 : decode cX6_wouldEat 7 = .ok (.aload_n 0, 1) := by decide +kernel
theorem dX6_wouldEat_8 : decode cX6_wouldEat 8 = .ok (.getfield 22, 3) := by decide +kernel
theorem dX6_wouldEat_11 : decode cX6_wouldEat 11 = .ok (.bipush 29, 2) := by decide +kernel
theorem dX6_wouldEat_13 : decode cX6_wouldEat 13 = .ok (.iaload, 1) := by decide +kernel
theorem dX6_wouldEat_14 : decode cX6_wouldEat 14 = .ok (.istore_n 3, 1) := by decide +kernel
theorem dX6_wouldEat_15 : decode cX6_wouldEat 15 = .ok (.aload_n 0, 1) := by decide +kernel
theorem dX6_wouldEat_16 : decode cX6_wouldEat 16 = .ok (.getfield 22, 3) := by decide +kernel
theorem dX6_wouldEat_19 : decode cX6_wouldEat 19 = .ok (.bipush 30, 2) := by decide +kernel
theorem dX6_wouldEat_21 : decode cX6_wouldEat 21 = .ok (.iaload, 1) := by decide +kernel
theorem dX6_wouldEat_22 : decode cX6_wouldEat 22 = .ok (.aload_n 0, 1) := by decide +kernel
theorem dX6_wouldEat_23 : decode cX6_wouldEat 23 = .ok (.getfield 13, 3) := by decide +kernel
theorem dX6_wouldEat_26 : decode cX6_wouldEat 26 = .ok (.iconst 3, 1) := by decide +kernel
theorem dX6_wouldEat_27 : decode cX6_wouldEat 27 = .ok (.iload_n 1, 1) := by decide +kernel
theorem dX6_wouldEat_28 : decode cX6_wouldEat 28 = .ok (.iadd, 1) := by decide +kernel
theorem dX6_wouldEat_29 : decode cX6_wouldEat 29 = .ok (.iaload, 1) := by decide +kernel
theorem dX6_wouldEat_30 : decode cX6_wouldEat 30 = .ok (.if_icmp .gt 42, 3) := by decide +kernel
theorem dX6_wouldEat_33 : decode cX6_wouldEat 33 = .ok (.iload_n 3, 1) := by decide +kernel
theorem dX6_wouldEat_34 : decode cX6_wouldEat 34 = .ok (.iload_n 2, 1) := by decide +kernel
theorem dX6_wouldEat_35 : decode cX6_wouldEat 35 = .ok (.iconst 1, 1) := by decide +kernel
theorem dX6_wouldEat_36 : decode cX6_wouldEat 36 = .ok (.if_icmp .ne 7, 3) := by decide +kernel
theorem dX6_wouldEat_39 : decode cX6_wouldEat 39 = .ok (.iconst 4, 1) := by decide +kernel
theorem dX6_wouldEat_40 : decode cX6_wouldEat 40 = .ok (.goto 25, 3) := by decide +kernel
theorem dX6_wouldEat_43 : decode cX6_wouldEat 43 = .ok (.iload_n 2, 1) := by decide +kernel
theorem dX6_wouldEat_44 : decode cX6_wouldEat 44 = .ok (.iconst 2, 1) := by decide +kernel
theorem dX6_wouldEat_45 : decode cX6_wouldEat 45 = .ok (.if_icmp .ne 8, 3) := by decide +kernel
theorem dX6_wouldEat_48 : decode cX6_wouldEat 48 = .ok (.bipush 7, 2) := by decide +kernel
theorem dX6_wouldEat_50 : decode cX6_wouldEat 50 = .ok (.goto 15, 3) := by decide +kernel
theorem dX6_wouldEat_53 : decode cX6_wouldEat 53 = .ok (.iload_n 2, 1) := by decide +kernel
theorem dX6_wouldEat_54 : decode cX6_wouldEat 54 = .ok (.iconst 3, 1) := by decide +kernel
theorem dX6_wouldEat_55 : decode cX6_wouldEat 55 = .ok (.if_icmp .ne 8, 3) := by decide +kernel
theorem dX6_wouldEat_58 : decode cX6_wouldEat 58 = .ok (.bipush 8, 2) := by decide +kernel
theorem dX6_wouldEat_60 : decode cX6_wouldEat 60 = .ok (.goto 5, 3) := by decide +kernel
theorem dX6_wouldEat_63 : decode cX6_wouldEat 63 = .ok (.bipush 9, 2) := by decide +kernel
theorem dX6_wouldEat_65 : decode cX6_wouldEat 65 = .ok (.if_icmp .gt 7, 3) := by decide +kernel
theorem dX6_wouldEat_68 : decode cX6_wouldEat 68 = .ok (.iconst 1, 1) := by decide +kernel
theorem dX6_wouldEat_69 : decode cX6_wouldEat 69 = .ok (.goto 4, 3) := by decide +kernel
theorem dX6_wouldEat_72 : decode cX6_wouldEat 72 = .ok (.iconst 0, 1) := by decide +kernel
theorem dX6_wouldEat_73 : decode cX6_wouldEat 73 = .ok (.istore 4, 2) := by decide +kernel
theorem dX6_wouldEat_75 : decode cX6_wouldEat 75 = .ok (.iload_n 2, 1) := by decide +kernel
theorem dX6_wouldEat_76 : decode cX6_wouldEat 76 = .ok (.iconst 2, 1) := by decide +kernel
theorem dX6_wouldEat_77 : decode cX6_wouldEat 77 = .ok (.if_icmp .ne 17, 3) := by decide +kernel
theorem dX6_wouldEat_80 : decode cX6_wouldEat 80 = .ok (.iconst 2, 1) := by decide +kernel
theorem dX6_wouldEat_81 : decode cX6_wouldEat 81 = .ok (.aload_n 0, 1) := by decide +kernel
theorem dX6_wouldEat_82 : decode cX6_wouldEat 82 = .ok (.getfield 22, 3) := by decide +kernel
theorem dX6_wouldEat_85 : decode cX6_wouldEat 85 = .ok (.bipush 7, 2) := by decide +kernel
theorem dX6_wouldEat_87 : decode cX6_wouldEat 87 = .ok (.iload_n 1, 1) := by decide +kernel
theorem dX6_wouldEat_88 : decode cX6_wouldEat 88 = .ok (.iadd, 1) := by decide +kernel
theorem dX6_wouldEat_89 : decode cX6_wouldEat 89 = .ok (.iaload, 1) := by decide +kernel
theorem dX6_wouldEat_90 : decode cX6_wouldEat 90 = .ok (.imul, 1) := by decide +kernel
theorem dX6_wouldEat_91 : decode cX6_wouldEat 91 = .ok (.goto 21, 3) := by decide +kernel
theorem dX6_wouldEat_94 : decode cX6_wouldEat 94 = .ok (.iload_n 2, 1) := by decide +kernel
theorem dX6_wouldEat_95 : decode cX6_wouldEat 95 = .ok (.iconst 3, 1) := by decide +kernel
theorem dX6_wouldEat_96 : decode cX6_wouldEat 96 = .ok (.if_icmp .ne 7, 3) := by decide +kernel
theorem dX6_wouldEat_99 : decode cX6_wouldEat 99 = .ok (.iconst 1, 1) := by decide +kernel
theorem dX6_wouldEat_100 : decode cX6_wouldEat 100 = .ok (.goto 12, 3) := by decide +kernel
theorem dX6_wouldEat_103 : decode cX6_wouldEat 103 = .ok (.aload_n 0, 1) := by decide +kernel
theorem dX6_wouldEat_104 : decode cX6_wouldEat 104 = .ok (.getfield 22, 3) := by decide +kernel
theorem dX6_wouldEat_107 : decode cX6_wouldEat 107 = .ok (.bipush 7, 2) := by decide +kernel
theorem dX6_wouldEat_109 : decode cX6_wouldEat 109 = .ok (.iload_n 1, 1) := by decide +kernel
theorem dX6_wouldEat_110 : decode cX6_wouldEat 110 = .ok (.iadd, 1) := by decide +kernel
theorem dX6_wouldEat_111 : decode cX6_wouldEat 111 = .ok (.iaload, 1) := by decide +kernel
theorem dX6_wouldEat_112 : decode cX6_wouldEat 112 = .ok (.istore 5, 2) := by decide +kernel
theorem dX6_wouldEat_114 : decode cX6_wouldEat 114 = .ok (.iload 5, 2) := by decide +kernel
theorem dX6_wouldEat_116 : decode cX6_wouldEat 116 = .ok (.aload_n 0, 1) := by decide +kernel
theorem dX6_wouldEat_117 : decode cX6_wouldEat 117 = .ok (.getfield 22, 3) := by decide +kernel
theorem dX6_wouldEat_120 : decode cX6_wouldEat 120 = .ok (.bipush 14, 2) := by decide +kernel
theorem dX6_wouldEat_122 : decode cX6_wouldEat 122 = .ok (.iload_n 1, 1) := by decide +kernel
theorem dX6_wouldEat_123 : decode cX6_wouldEat 123 = .ok (.iadd, 1) := by decide +kernel
theorem dX6_wouldEat_124 : decode cX6_wouldEat 124 = .ok (.iaload, 1) := by decide +kernel
theorem dX6_wouldEat_125 : decode cX6_wouldEat 125 = .ok (.if_icmp .ge 8, 3) := by decide +kernel
theorem dX6_wouldEat_128 : decode cX6_wouldEat 128 = .ok (.iload 5, 2) := by decide +kernel
theorem dX6_wouldEat_130 : decode cX6_wouldEat 130 = .ok (.goto 12, 3) := by decide +kernel
theorem dX6_wouldEat_133 : decode cX6_wouldEat 133 = .ok (.aload_n 0, 1) := by decide +kernel
theorem dX6_wouldEat_134 : decode cX6_wouldEat 134 = .ok (.getfield 22, 3) := by decide +kernel
theorem dX6_wouldEat_137 : decode cX6_wouldEat 137 = .ok (.bipush 14, 2) := by decide +kernel
theorem dX6_wouldEat_139 : decode cX6_wouldEat 139 = .ok (.iload_n 1, 1) := by decide +kernel
theorem dX6_wouldEat_140 : decode cX6_wouldEat 140 = .ok (.iadd, 1) := by decide +kernel
theorem dX6_wouldEat_141 : decode cX6_wouldEat 141 = .ok (.iaload, 1) := by decide +kernel
theorem dX6_wouldEat_142 : decode cX6_wouldEat 142 = .ok (.istore 6, 2) := by decide +kernel
theorem dX6_wouldEat_144 : decode cX6_wouldEat 144 = .ok (.iload 4, 2) := by decide +kernel
theorem dX6_wouldEat_146 : decode cX6_wouldEat 146 = .ok (.ifCond .ne 7, 3) := by decide +kernel
theorem dX6_wouldEat_149 : decode cX6_wouldEat 149 = .ok (.iconst 0, 1) := by decide +kernel
theorem dX6_wouldEat_150 : decode cX6_wouldEat 150 = .ok (.goto 27, 3) := by decide +kernel
theorem dX6_wouldEat_153 : decode cX6_wouldEat 153 = .ok (.iload 6, 2) := by decide +kernel
theorem dX6_wouldEat_155 : decode cX6_wouldEat 155 = .ok (.aload_n 0, 1) := by decide +kernel
theorem dX6_wouldEat_156 : decode cX6_wouldEat 156 = .ok (.getfield 22, 3) := by decide +kernel
theorem dX6_wouldEat_159 : decode cX6_wouldEat 159 = .ok (.bipush 28, 2) := by decide +kernel
theorem dX6_wouldEat_161 : decode cX6_wouldEat 161 = .ok (.iaload, 1) := by decide +kernel
theorem dX6_wouldEat_162 : decode cX6_wouldEat 162 = .ok (.if_icmp .ge 8, 3) := by decide +kernel
theorem dX6_wouldEat_165 : decode cX6_wouldEat 165 = .ok (.iload 6, 2) := by decide +kernel
theorem dX6_wouldEat_167 : decode cX6_wouldEat 167 = .ok (.goto 10, 3) := by decide +kernel
theorem dX6_wouldEat_170 : decode cX6_wouldEat 170 = .ok (.aload_n 0, 1) := by decide +kernel
theorem dX6_wouldEat_171 : decode cX6_wouldEat 171 = .ok (.getfield 22, 3) := by decide +kernel
theorem dX6_wouldEat_174 : decode cX6_wouldEat 174 = .ok (.bipush 28, 2) := by decide +kernel
theorem dX6_wouldEat_176 : decode cX6_wouldEat 176 = .ok (.iaload, 1) := by decide +kernel
theorem dX6_wouldEat_177 : decode cX6_wouldEat 177 = .ok (.ireturn, 1) := by decide +kernel
theorem dX6_member_0 : decode cX6_member 0 = .ok (.aload_n 0, 1) := by decide +kernel
theorem dX6_member_1 : decode cX6_member 1 = .ok (.iload_n 1, 1) := by decide +kernel
theorem dX6_member_2 : decode cX6_member 2 = .ok (.invokevirtual 89, 3) := by decide +kernel
theorem dX6_member_5 : decode cX6_member 5 = .ok (.ifCond .ne 5, 3) := by decide +kernel
theorem dX6_member_8 : decode cX6_member 8 = .ok (.iconst (-1), 1) := by decide +kernel
theorem dX6_member_9 : decode cX6_member 9 = .ok (.ireturn, 1) := by decide +kernel
theorem dX6_member_10 : decode cX6_member 10 = .ok (.iload_n 2, 1) := by decide +kernel
theorem dX6_member_11 : decode cX6_member 11 = .ok (.tableswitch 89 0 5 #[37, 44, 54, 64, 73, 83], 37) := by decide +kernel
theorem dX6_member_48 : decode cX6_member 48 = .ok (.aload_n 0, 1) := by decide +kernel
theorem dX6_member_49 : decode cX6_member 49 = .ok (.getfield 22, 3) := by decide +kernel
theorem dX6_member_52 : decode cX6_member 52 = .ok (.iload_n 1, 1) := by decide +kernel
theorem dX6_member_53 : decode cX6_member 53 = .ok (.iaload, 1) := by decide +kernel
theorem dX6_member_54 : decode cX6_member 54 = .ok (.ireturn, 1) := by decide +kernel
theorem dX6_member_55 : decode cX6_member 55 = .ok (.aload_n 0, 1) := by decide +kernel
theorem dX6_member_56 : decode cX6_member 56 = .ok (.getfield 22, 3) := by decide +kernel
theorem dX6_member_59 : decode cX6_member 59 = .ok (.bipush 7, 2) := by decide +kernel
theorem dX6_member_61 : decode cX6_member 61 = .ok (.iload_n 1, 1) := by decide +kernel
theorem dX6_member_62 : decode cX6_member 62 = .ok (.iadd, 1) := by decide +kernel
theorem dX6_member_63 : decode cX6_member 63 = .ok (.iaload, 1) := by decide +kernel
theorem dX6_member_64 : decode cX6_member 64 = .ok (.ireturn, 1) := by decide +kernel
theorem dX6_member_65 : decode cX6_member 65 = .ok (.aload_n 0, 1) := by decide +kernel
theorem dX6_member_66 : decode cX6_member 66 = .ok (.getfield 22, 3) := by decide +kernel
theorem dX6_member_69 : decode cX6_member 69 = .ok (.bipush 14, 2) := by decide +kernel
theorem dX6_member_71 : decode cX6_member 71 = .ok (.iload_n 1, 1) := by decide +kernel
theorem dX6_member_72 : decode cX6_member 72 = .ok (.iadd, 1) := by decide +kernel
theorem dX6_member_73 : decode cX6_member 73 = .ok (.iaload, 1) := by decide +kernel
theorem dX6_member_74 : decode cX6_member 74 = .ok (.ireturn, 1) := by decide +kernel
theorem dX6_member_75 : decode cX6_member 75 = .ok (.aload_n 0, 1) := by decide +kernel
theorem dX6_member_76 : decode cX6_member 76 = .ok (.getfield 13, 3) := by decide +kernel
theorem dX6_member_79 : decode cX6_member 79 = .ok (.iconst 3, 1) := by decide +kernel
theorem dX6_member_80 : decode cX6_member 80 = .ok (.iload_n 1, 1) := by decide +kernel
theorem dX6_member_81 : decode cX6_member 81 = .ok (.iadd, 1) := by decide +kernel
theorem dX6_member_82 : decode cX6_member 82 = .ok (.iaload, 1) := by decide +kernel
theorem dX6_member_83 : decode cX6_member 83 = .ok (.ireturn, 1) := by decide +kernel
theorem dX6_member_84 : decode cX6_member 84 = .ok (.aload_n 0, 1) := by decide +kernel
theorem dX6_member_85 : decode cX6_member 85 = .ok (.getfield 22, 3) := by decide +kernel
theorem dX6_member_88 : decode cX6_member 88 = .ok (.bipush 21, 2) := by decide +kernel
theorem dX6_member_90 : decode cX6_member 90 = .ok (.iload_n 1, 1) := by decide +kernel
theorem dX6_member_91 : decode cX6_member 91 = .ok (.iadd, 1) := by decide +kernel
theorem dX6_member_92 : decode cX6_member 92 = .ok (.iaload, 1) := by decide +kernel
theorem dX6_member_93 : decode cX6_member 93 = .ok (.ireturn, 1) := by decide +kernel
theorem dX6_member_94 : decode cX6_member 94 = .ok (.aload_n 0, 1) := by decide +kernel
theorem dX6_member_95 : decode cX6_member 95 = .ok (.iload_n 1, 1) := by decide +kernel
theorem dX6_member_96 : decode cX6_member 96 = .ok (.invokevirtual 92, 3) := by decide +kernel
theorem dX6_member_99 : decode cX6_member 99 = .ok (.ireturn, 1) := by decide +kernel
theorem dX6_member_100 : decode cX6_member 100 = .ok (.iconst (-1), 1) := by decide +kernel
theorem dX6_member_101 : decode cX6_member 101 = .ok (.ireturn, 1) := by decide +kernel
theorem dX6_keeps_0 : decode cX6_keeps 0 = .ok (.aload_n 0, 1) := by decide +kernel
theorem dX6_keeps_1 : decode cX6_keeps 1 = .ok (.getfield 80, 3) := by decide +kernel
theorem dX6_keeps_4 : decode cX6_keeps 4 = .ok (.bipush 8, 2) := by decide +kernel
theorem dX6_keeps_6 : decode cX6_keeps 6 = .ok (.if_icmp .ne 43, 3) := by decide +kernel
theorem dX6_keeps_9 : decode cX6_keeps 9 = .ok (.iconst 0, 1) := by decide +kernel
theorem dX6_keeps_10 : decode cX6_keeps 10 = .ok (.istore_n 1, 1) := by decide +kernel
theorem dX6_keeps_11 : decode cX6_keeps 11 = .ok (.iload_n 1, 1) := by decide +kernel
theorem dX6_keeps_12 : decode cX6_keeps 12 = .ok (.sipush 217, 3) := by decide +kernel
theorem dX6_keeps_15 : decode cX6_keeps 15 = .ok (.if_icmp .ge 24, 3) := by decide +kernel
theorem dX6_keeps_18 : decode cX6_keeps 18 = .ok (.aload_n 0, 1) := by decide +kernel
theorem dX6_keeps_19 : decode cX6_keeps 19 = .ok (.getfield 25, 3) := by decide +kernel
theorem dX6_keeps_22 : decode cX6_keeps 22 = .ok (.iload_n 1, 1) := by decide +kernel
theorem dX6_keeps_23 : decode cX6_keeps 23 = .ok (.aload_n 0, 1) := by decide +kernel
theorem dX6_keeps_24 : decode cX6_keeps 24 = .ok (.getfield 25, 3) := by decide +kernel
theorem dX6_keeps_27 : decode cX6_keeps 27 = .ok (.iload_n 1, 1) := by decide +kernel
theorem dX6_keeps_28 : decode cX6_keeps 28 = .ok (.bipush 31, 2) := by decide +kernel
theorem dX6_keeps_30 : decode cX6_keeps 30 = .ok (.iadd, 1) := by decide +kernel
theorem dX6_keeps_31 : decode cX6_keeps 31 = .ok (.iaload, 1) := by decide +kernel
theorem dX6_keeps_32 : decode cX6_keeps 32 = .ok (.iastore, 1) := by decide +kernel
theorem dX6_keeps_33 : decode cX6_keeps 33 = .ok (.iinc 1 1, 3) := by decide +kernel
theorem dX6_keeps_36 : decode cX6_keeps 36 = .ok (.goto (-25), 3) := by decide +kernel
theorem dX6_keeps_39 : decode cX6_keeps 39 = .ok (.aload_n 0, 1) := by decide +kernel
theorem dX6_keeps_40 : decode cX6_keeps 40 = .ok (.dup, 1) := by decide +kernel
theorem dX6_keeps_41 : decode cX6_keeps 41 = .ok (.getfield 80, 3) := by decide +kernel
theorem dX6_keeps_44 : decode cX6_keeps 44 = .ok (.iconst 1, 1) := by decide +kernel
theorem dX6_keeps_45 : decode cX6_keeps 45 = .ok (.isub, 1) := by decide +kernel
theorem dX6_keeps_46 : decode cX6_keeps 46 = .ok (.putfield 80, 3) := by decide +kernel
theorem dX6_keeps_49 : decode cX6_keeps 49 = .ok (.iconst 0, 1) := by decide +kernel
theorem dX6_keeps_50 : decode cX6_keeps 50 = .ok (.istore_n 1, 1) := by decide +kernel
theorem dX6_keeps_51 : decode cX6_keeps 51 = .ok (.iload_n 1, 1) := by decide +kernel
theorem dX6_keeps_52 : decode cX6_keeps 52 = .ok (.bipush 31, 2) := by decide +kernel
theorem dX6_keeps_54 : decode cX6_keeps 54 = .ok (.if_icmp .ge 29, 3) := by decide +kernel
theorem dX6_keeps_57 : decode cX6_keeps 57 = .ok (.aload_n 0, 1) := by decide +kernel
theorem dX6_keeps_58 : decode cX6_keeps 58 = .ok (.getfield 25, 3) := by decide +kernel
theorem dX6_keeps_61 : decode cX6_keeps 61 = .ok (.bipush 31, 2) := by decide +kernel
theorem dX6_keeps_63 : decode cX6_keeps 63 = .ok (.aload_n 0, 1) := by decide +kernel
theorem dX6_keeps_64 : decode cX6_keeps 64 = .ok (.getfield 80, 3) := by decide +kernel
theorem dX6_keeps_67 : decode cX6_keeps 67 = .ok (.imul, 1) := by decide +kernel
theorem dX6_keeps_68 : decode cX6_keeps 68 = .ok (.iload_n 1, 1) := by decide +kernel
theorem dX6_keeps_69 : decode cX6_keeps 69 = .ok (.iadd, 1) := by decide +kernel
theorem dX6_keeps_70 : decode cX6_keeps 70 = .ok (.aload_n 0, 1) := by decide +kernel
theorem dX6_keeps_71 : decode cX6_keeps 71 = .ok (.getfield 22, 3) := by decide +kernel
theorem dX6_keeps_74 : decode cX6_keeps 74 = .ok (.iload_n 1, 1) := by decide +kernel
theorem dX6_keeps_75 : decode cX6_keeps 75 = .ok (.iaload, 1) := by decide +kernel
theorem dX6_keeps_76 : decode cX6_keeps 76 = .ok (.iastore, 1) := by decide +kernel
theorem dX6_keeps_77 : decode cX6_keeps 77 = .ok (.iinc 1 1, 3) := by decide +kernel
theorem dX6_keeps_80 : decode cX6_keeps 80 = .ok (.goto (-29), 3) := by decide +kernel
theorem dX6_keeps_83 : decode cX6_keeps 83 = .ok (.aload_n 0, 1) := by decide +kernel
theorem dX6_keeps_84 : decode cX6_keeps 84 = .ok (.dup, 1) := by decide +kernel
theorem dX6_keeps_85 : decode cX6_keeps 85 = .ok (.getfield 80, 3) := by decide +kernel
theorem dX6_keeps_88 : decode cX6_keeps 88 = .ok (.iconst 1, 1) := by decide +kernel
theorem dX6_keeps_89 : decode cX6_keeps 89 = .ok (.iadd, 1) := by decide +kernel
theorem dX6_keeps_90 : decode cX6_keeps 90 = .ok (.putfield 80, 3) := by decide +kernel
theorem dX6_keeps_93 : decode cX6_keeps 93 = .ok (.return_, 1) := by decide +kernel
theorem dX6_cools_0 : decode cX6_cools 0 = .ok (.aload_n 0, 1) := by decide +kernel
theorem dX6_cools_1 : decode cX6_cools 1 = .ok (.getfield 22, 3) := by decide +kernel
theorem dX6_cools_4 : decode cX6_cools 4 = .ok (.bipush 29, 2) := by decide +kernel
theorem dX6_cools_6 : decode cX6_cools 6 = .ok (.aload_n 0, 1) := by decide +kernel
theorem dX6_cools_7 : decode cX6_cools 7 = .ok (.getfield 22, 3) := by decide +kernel
theorem dX6_cools_10 : decode cX6_cools 10 = .ok (.bipush 29, 2) := by decide +kernel
theorem dX6_cools_12 : decode cX6_cools 12 = .ok (.iaload, 1) := by decide +kernel
theorem dX6_cools_13 : decode cX6_cools 13 = .ok (.ifCond .le 15, 3) := by decide +kernel
theorem dX6_cools_16 : decode cX6_cools 16 = .ok (.aload_n 0, 1) := by decide +kernel
theorem dX6_cools_17 : decode cX6_cools 17 = .ok (.getfield 22, 3) := by decide +kernel
theorem dX6_cools_20 : decode cX6_cools 20 = .ok (.bipush 29, 2) := by decide +kernel
theorem dX6_cools_22 : decode cX6_cools 22 = .ok (.iaload, 1) := by decide +kernel
theorem dX6_cools_23 : decode cX6_cools 23 = .ok (.iconst 1, 1) := by decide +kernel
theorem dX6_cools_24 : decode cX6_cools 24 = .ok (.isub, 1) := by decide +kernel
theorem dX6_cools_25 : decode cX6_cools 25 = .ok (.goto 4, 3) := by decide +kernel
theorem dX6_cools_28 : decode cX6_cools 28 = .ok (.iconst 0, 1) := by decide +kernel
theorem dX6_cools_29 : decode cX6_cools 29 = .ok (.iastore, 1) := by decide +kernel
theorem dX6_cools_30 : decode cX6_cools 30 = .ok (.return_, 1) := by decide +kernel
theorem dX6_eats_0 : decode cX6_eats 0 = .ok (.iconst 0, 1) := by decide +kernel
theorem dX6_eats_1 : decode cX6_eats 1 = .ok (.istore_n 2, 1) := by decide +kernel
theorem dX6_eats_2 : decode cX6_eats 2 = .ok (.aload_n 0, 1) := by decide +kernel
theorem dX6_eats_3 : decode cX6_eats 3 = .ok (.bipush (-4), 2) := by decide +kernel
theorem dX6_eats_5 : decode cX6_eats 5 = .ok (.putfield 95, 3) := by decide +kernel
theorem dX6_eats_8 : decode cX6_eats 8 = .ok (.iconst 0, 1) := by decide +kernel
theorem dX6_eats_9 : decode cX6_eats 9 = .ok (.istore_n 3, 1) := by decide +kernel
theorem dX6_eats_10 : decode cX6_eats 10 = .ok (.iload_n 3, 1) := by decide +kernel
theorem dX6_eats_11 : decode cX6_eats 11 = .ok (.aload_n 0, 1) := by decide +kernel
theorem dX6_eats_12 : decode cX6_eats 12 = .ok (.getfield 13, 3) := by decide +kernel
theorem dX6_eats_15 : decode cX6_eats 15 = .ok (.iconst 0, 1) := by decide +kernel
theorem dX6_eats_16 : decode cX6_eats 16 = .ok (.iaload, 1) := by decide +kernel
theorem dX6_eats_17 : decode cX6_eats 17 = .ok (.if_icmp .ge 101, 3) := by decide +kernel
theorem dX6_eats_20 : decode cX6_eats 20 = .ok (.iload_n 1, 1) := by decide +kernel
theorem dX6_eats_21 : decode cX6_eats 21 = .ok (.iload_n 3, 1) := by decide +kernel
theorem dX6_eats_22 : decode cX6_eats 22 = .ok (.ishr, 1) := by decide +kernel
theorem dX6_eats_23 : decode cX6_eats 23 = .ok (.iconst 1, 1) := by decide +kernel
theorem dX6_eats_24 : decode cX6_eats 24 = .ok (.iand, 1) := by decide +kernel
theorem dX6_eats_25 : decode cX6_eats 25 = .ok (.iconst 1, 1) := by decide +kernel
theorem dX6_eats_26 : decode cX6_eats 26 = .ok (.if_icmp .ne 11, 3) := by decide +kernel
theorem dX6_eats_29 : decode cX6_eats 29 = .ok (.aload_n 0, 1) := by decide +kernel
theorem dX6_eats_30 : decode cX6_eats 30 = .ok (.iload_n 3, 1) := by decide +kernel
theorem dX6_eats_31 : decode cX6_eats 31 = .ok (.invokevirtual 92, 3) := by decide +kernel
theorem dX6_eats_34 : decode cX6_eats 34 = .ok (.goto 4, 3) := by decide +kernel
theorem dX6_eats_37 : decode cX6_eats 37 = .ok (.iconst 0, 1) := by decide +kernel
theorem dX6_eats_38 : decode cX6_eats 38 = .ok (.istore 4, 2) := by decide +kernel
theorem dX6_eats_40 : decode cX6_eats 40 = .ok (.aload_n 0, 1) := by decide +kernel
theorem dX6_eats_41 : decode cX6_eats 41 = .ok (.getfield 22, 3) := by decide +kernel
theorem dX6_eats_44 : decode cX6_eats 44 = .ok (.bipush 14, 2) := by decide +kernel
theorem dX6_eats_46 : decode cX6_eats 46 = .ok (.iload_n 3, 1) := by decide +kernel
theorem dX6_eats_47 : decode cX6_eats 47 = .ok (.iadd, 1) := by decide +kernel
theorem dX6_eats_48 : decode cX6_eats 48 = .ok (.dup2, 1) := by decide +kernel
theorem dX6_eats_49 : decode cX6_eats 49 = .ok (.iaload, 1) := by decide +kernel
theorem dX6_eats_50 : decode cX6_eats 50 = .ok (.iload 4, 2) := by decide +kernel
theorem dX6_eats_52 : decode cX6_eats 52 = .ok (.isub, 1) := by decide +kernel
theorem dX6_eats_53 : decode cX6_eats 53 = .ok (.iastore, 1) := by decide +kernel
theorem dX6_eats_54 : decode cX6_eats 54 = .ok (.aload_n 0, 1) := by decide +kernel
theorem dX6_eats_55 : decode cX6_eats 55 = .ok (.getfield 22, 3) := by decide +kernel
theorem dX6_eats_58 : decode cX6_eats 58 = .ok (.bipush 21, 2) := by decide +kernel
theorem dX6_eats_60 : decode cX6_eats 60 = .ok (.iload_n 3, 1) := by decide +kernel
theorem dX6_eats_61 : decode cX6_eats 61 = .ok (.iadd, 1) := by decide +kernel
theorem dX6_eats_62 : decode cX6_eats 62 = .ok (.dup2, 1) := by decide +kernel
theorem dX6_eats_63 : decode cX6_eats 63 = .ok (.iaload, 1) := by decide +kernel
theorem dX6_eats_64 : decode cX6_eats 64 = .ok (.iload 4, 2) := by decide +kernel
theorem dX6_eats_66 : decode cX6_eats 66 = .ok (.iadd, 1) := by decide +kernel
theorem dX6_eats_67 : decode cX6_eats 67 = .ok (.iastore, 1) := by decide +kernel
theorem dX6_eats_68 : decode cX6_eats 68 = .ok (.aload_n 0, 1) := by decide +kernel
theorem dX6_eats_69 : decode cX6_eats 69 = .ok (.getfield 22, 3) := by decide +kernel
theorem dX6_eats_72 : decode cX6_eats 72 = .ok (.bipush 28, 2) := by decide +kernel
theorem dX6_eats_74 : decode cX6_eats 74 = .ok (.dup2, 1) := by decide +kernel
theorem dX6_eats_75 : decode cX6_eats 75 = .ok (.iaload, 1) := by decide +kernel
theorem dX6_eats_76 : decode cX6_eats 76 = .ok (.iload 4, 2) := by decide +kernel
theorem dX6_eats_78 : decode cX6_eats 78 = .ok (.isub, 1) := by decide +kernel
theorem dX6_eats_79 : decode cX6_eats 79 = .ok (.iastore, 1) := by decide +kernel
theorem dX6_eats_80 : decode cX6_eats 80 = .ok (.iload_n 2, 1) := by decide +kernel
theorem dX6_eats_81 : decode cX6_eats 81 = .ok (.iload 4, 2) := by decide +kernel
theorem dX6_eats_83 : decode cX6_eats 83 = .ok (.iadd, 1) := by decide +kernel
theorem dX6_eats_84 : decode cX6_eats 84 = .ok (.istore_n 2, 1) := by decide +kernel
theorem dX6_eats_85 : decode cX6_eats 85 = .ok (.aload_n 0, 1) := by decide +kernel
theorem dX6_eats_86 : decode cX6_eats 86 = .ok (.iload 4, 2) := by decide +kernel
theorem dX6_eats_88 : decode cX6_eats 88 = .ok (.ifCond .le 17, 3) := by decide +kernel
theorem dX6_eats_91 : decode cX6_eats 91 = .ok (.aload_n 0, 1) := by decide +kernel
theorem dX6_eats_92 : decode cX6_eats 92 = .ok (.getfield 22, 3) := by decide +kernel
theorem dX6_eats_95 : decode cX6_eats 95 = .ok (.bipush 28, 2) := by decide +kernel
theorem dX6_eats_97 : decode cX6_eats 97 = .ok (.iaload, 1) := by decide +kernel
theorem dX6_eats_98 : decode cX6_eats 98 = .ok (.ifCond .ne 7, 3) := by decide +kernel
theorem dX6_eats_101 : decode cX6_eats 101 = .ok (.iload_n 3, 1) := by decide +kernel
theorem dX6_eats_102 : decode cX6_eats 102 = .ok (.goto 7, 3) := by decide +kernel
theorem dX6_eats_105 : decode cX6_eats 105 = .ok (.aload_n 0, 1) := by decide +kernel
theorem dX6_eats_106 : decode cX6_eats 106 = .ok (.getfield 95, 3) := by decide +kernel
theorem dX6_eats_109 : decode cX6_eats 109 = .ok (.putfield 95, 3) := by decide +kernel
theorem dX6_eats_112 : decode cX6_eats 112 = .ok (.iinc 3 1, 3) := by decide +kernel
theorem dX6_eats_115 : decode cX6_eats 115 = .ok (.goto (-105), 3) := by decide +kernel
theorem dX6_eats_118 : decode cX6_eats 118 = .ok (.aload_n 0, 1) := by decide +kernel
theorem dX6_eats_119 : decode cX6_eats 119 = .ok (.invokevirtual 98, 3) := by decide +kernel
theorem dX6_eats_122 : decode cX6_eats 122 = .ok (.iload_n 2, 1) := by decide +kernel
theorem dX6_eats_123 : decode cX6_eats 123 = .ok (.ireturn, 1) := by decide +kernel
theorem dX6_eat_0 : decode cX6_eat 0 = .ok (.iload_n 1, 1) := by decide +kernel
theorem dX6_eat_1 : decode cX6_eat 1 = .ok (.iconst 1, 1) := by decide +kernel
theorem dX6_eat_2 : decode cX6_eat 2 = .ok (.bipush 20, 2) := by decide +kernel
theorem dX6_eat_4 : decode cX6_eat 4 = .ok (.invokestatic 50, 3) := by decide +kernel
theorem dX6_eat_7 : decode cX6_eat 7 = .ok (.ifCond .ne 5, 3) := by decide +kernel
theorem dX6_eat_10 : decode cX6_eat 10 = .ok (.iconst (-1), 1) := by decide +kernel
theorem dX6_eat_11 : decode cX6_eat 11 = .ok (.ireturn, 1) := by decide +kernel
theorem dX6_eat_12 : decode cX6_eat 12 = .ok (.aload_n 0, 1) := by decide +kernel
theorem dX6_eat_13 : decode cX6_eat 13 = .ok (.invokevirtual 101, 3) := by decide +kernel
theorem dX6_eat_16 : decode cX6_eat 16 = .ok (.iconst 0, 1) := by decide +kernel
theorem dX6_eat_17 : decode cX6_eat 17 = .ok (.istore_n 2, 1) := by decide +kernel
theorem dX6_eat_18 : decode cX6_eat 18 = .ok (.iconst 0, 1) := by decide +kernel
theorem dX6_eat_19 : decode cX6_eat 19 = .ok (.istore_n 3, 1) := by decide +kernel
theorem dX6_eat_20 : decode cX6_eat 20 = .ok (.iload_n 3, 1) := by decide +kernel
theorem dX6_eat_21 : decode cX6_eat 21 = .ok (.iload_n 1, 1) := by decide +kernel
theorem dX6_eat_22 : decode cX6_eat 22 = .ok (.if_icmp .ge 20, 3) := by decide +kernel
theorem dX6_eat_25 : decode cX6_eat 25 = .ok (.iload_n 2, 1) := by decide +kernel
theorem dX6_eat_26 : decode cX6_eat 26 = .ok (.aload_n 0, 1) := by decide +kernel
theorem dX6_eat_27 : decode cX6_eat 27 = .ok (.aload_n 0, 1) := by decide +kernel
theorem dX6_eat_28 : decode cX6_eat 28 = .ok (.invokevirtual 104, 3) := by decide +kernel
theorem dX6_eat_31 : decode cX6_eat 31 = .ok (.invokevirtual 107, 3) := by decide +kernel
theorem dX6_eat_34 : decode cX6_eat 34 = .ok (.iadd, 1) := by decide +kernel
theorem dX6_eat_35 : decode cX6_eat 35 = .ok (.istore_n 2, 1) := by decide +kernel
theorem dX6_eat_36 : decode cX6_eat 36 = .ok (.iinc 3 1, 3) := by decide +kernel
theorem dX6_eat_39 : decode cX6_eat 39 = .ok (.goto (-19), 3) := by decide +kernel
theorem dX6_eat_42 : decode cX6_eat 42 = .ok (.iload_n 2, 1) := by decide +kernel
theorem dX6_eat_43 : decode cX6_eat 43 = .ok (.ireturn, 1) := by decide +kernel
theorem dX6_salt_0 : decode cX6_salt 0 = .ok (.aload_n 0, 1) := by decide +kernel
theorem dX6_salt_1 : decode cX6_salt 1 = .ok (.getfield 22, 3) := by decide +kernel
theorem dX6_salt_4 : decode cX6_salt 4 = .ok (.bipush 30, 2) := by decide +kernel
theorem dX6_salt_6 : decode cX6_salt 6 = .ok (.iaload, 1) := by decide +kernel
theorem dX6_salt_7 : decode cX6_salt 7 = .ok (.bipush 9, 2) := by decide +kernel
theorem dX6_salt_9 : decode cX6_salt 9 = .ok (.if_icmp .ne 6, 3) := by decide +kernel
theorem dX6_salt_12 : decode cX6_salt 12 = .ok (.bipush (-2), 2) := by decide +kernel
theorem dX6_salt_14 : decode cX6_salt 14 = .ok (.ireturn, 1) := by decide +kernel
theorem dX6_salt_15 : decode cX6_salt 15 = .ok (.aload_n 0, 1) := by decide +kernel
theorem dX6_salt_16 : decode cX6_salt 16 = .ok (.invokevirtual 101, 3) := by decide +kernel
theorem dX6_salt_19 : decode cX6_salt 19 = .ok (.aload_n 0, 1) := by decide +kernel
theorem dX6_salt_20 : decode cX6_salt 20 = .ok (.getfield 22, 3) := by decide +kernel
theorem dX6_salt_23 : decode cX6_salt 23 = .ok (.bipush 30, 2) := by decide +kernel
theorem dX6_salt_25 : decode cX6_salt 25 = .ok (.dup2, 1) := by decide +kernel
theorem dX6_salt_26 : decode cX6_salt 26 = .ok (.iaload, 1) := by decide +kernel
theorem dX6_salt_27 : decode cX6_salt 27 = .ok (.iconst 1, 1) := by decide +kernel
theorem dX6_salt_28 : decode cX6_salt 28 = .ok (.iadd, 1) := by decide +kernel
theorem dX6_salt_29 : decode cX6_salt 29 = .ok (.iastore, 1) := by decide +kernel
theorem dX6_salt_30 : decode cX6_salt 30 = .ok (.aload_n 0, 1) := by decide +kernel
theorem dX6_salt_31 : decode cX6_salt 31 = .ok (.getfield 22, 3) := by decide +kernel
theorem dX6_salt_34 : decode cX6_salt 34 = .ok (.bipush 30, 2) := by decide +kernel
theorem dX6_salt_36 : decode cX6_salt 36 = .ok (.iaload, 1) := by decide +kernel
theorem dX6_salt_37 : decode cX6_salt 37 = .ok (.ireturn, 1) := by decide +kernel
theorem dX6_cooks_0 : decode cX6_cooks 0 = .ok (.aload_n 0, 1) := by decide +kernel
theorem dX6_cooks_1 : decode cX6_cooks 1 = .ok (.getfield 22, 3) := by decide +kernel
theorem dX6_cooks_4 : decode cX6_cooks 4 = .ok (.bipush 28, 2) := by decide +kernel
theorem dX6_cooks_6 : decode cX6_cooks 6 = .ok (.iload_n 1, 1) := by decide +kernel
theorem dX6_cooks_7 : decode cX6_cooks 7 = .ok (.iastore, 1) := by decide +kernel
theorem dX6_cooks_8 : decode cX6_cooks 8 = .ok (.aload_n 0, 1) := by decide +kernel
theorem dX6_cooks_9 : decode cX6_cooks 9 = .ok (.getfield 22, 3) := by decide +kernel
theorem dX6_cooks_12 : decode cX6_cooks 12 = .ok (.bipush 29, 2) := by decide +kernel
theorem dX6_cooks_14 : decode cX6_cooks 14 = .ok (.bipush 9, 2) := by decide +kernel
theorem dX6_cooks_16 : decode cX6_cooks 16 = .ok (.iastore, 1) := by decide +kernel
theorem dX6_cooks_17 : decode cX6_cooks 17 = .ok (.return_, 1) := by decide +kernel
theorem dX6_cook_0 : decode cX6_cook 0 = .ok (.iload_n 1, 1) := by decide +kernel
theorem dX6_cook_1 : decode cX6_cook 1 = .ok (.iconst 1, 1) := by decide +kernel
theorem dX6_cook_2 : decode cX6_cook 2 = .ok (.bipush 99, 2) := by decide +kernel
theorem dX6_cook_4 : decode cX6_cook 4 = .ok (.invokestatic 50, 3) := by decide +kernel
theorem dX6_cook_7 : decode cX6_cook 7 = .ok (.ifCond .ne 5, 3) := by decide +kernel
theorem dX6_cook_10 : decode cX6_cook 10 = .ok (.iconst (-1), 1) := by decide +kernel
theorem dX6_cook_11 : decode cX6_cook 11 = .ok (.ireturn, 1) := by decide +kernel
theorem dX6_cook_12 : decode cX6_cook 12 = .ok (.iload_n 1, 1) := by decide +kernel
theorem dX6_cook_13 : decode cX6_cook 13 = .ok (.aload_n 0, 1) := by decide +kernel
theorem dX6_cook_14 : decode cX6_cook 14 = .ok (.getfield 22, 3) := by decide +kernel
theorem dX6_cook_17 : decode cX6_cook 17 = .ok (.bipush 28, 2) := by decide +kernel
theorem dX6_cook_19 : decode cX6_cook 19 = .ok (.iaload, 1) := by decide +kernel
theorem dX6_cook_20 : decode cX6_cook 20 = .ok (.if_icmp .gt 6, 3) := by decide +kernel
theorem dX6_cook_23 : decode cX6_cook 23 = .ok (.bipush (-2), 2) := by decide +kernel
theorem dX6_cook_25 : decode cX6_cook 25 = .ok (.ireturn, 1) := by decide +kernel
theorem dX6_cook_26 : decode cX6_cook 26 = .ok (.aload_n 0, 1) := by decide +kernel
theorem dX6_cook_27 : decode cX6_cook 27 = .ok (.invokevirtual 101, 3) := by decide +kernel
theorem dX6_cook_30 : decode cX6_cook 30 = .ok (.aload_n 0, 1) := by decide +kernel
theorem dX6_cook_31 : decode cX6_cook 31 = .ok (.iload_n 1, 1) := by decide +kernel
theorem dX6_cook_32 : decode cX6_cook 32 = .ok (.invokevirtual 110, 3) := by decide +kernel
theorem dX6_cook_35 : decode cX6_cook 35 = .ok (.iload_n 1, 1) := by decide +kernel
theorem dX6_cook_36 : decode cX6_cook 36 = .ok (.ireturn, 1) := by decide +kernel
theorem dX6_cool_0 : decode cX6_cool 0 = .ok (.aload_n 0, 1) := by decide +kernel
theorem dX6_cool_1 : decode cX6_cool 1 = .ok (.getfield 22, 3) := by decide +kernel
theorem dX6_cool_4 : decode cX6_cool 4 = .ok (.bipush 29, 2) := by decide +kernel
theorem dX6_cool_6 : decode cX6_cool 6 = .ok (.iaload, 1) := by decide +kernel
theorem dX6_cool_7 : decode cX6_cool 7 = .ok (.ifCond .ne 6, 3) := by decide +kernel
theorem dX6_cool_10 : decode cX6_cool 10 = .ok (.bipush (-2), 2) := by decide +kernel
theorem dX6_cool_12 : decode cX6_cool 12 = .ok (.ireturn, 1) := by decide +kernel
theorem dX6_cool_13 : decode cX6_cool 13 = .ok (.aload_n 0, 1) := by decide +kernel
theorem dX6_cool_14 : decode cX6_cool 14 = .ok (.invokevirtual 101, 3) := by decide +kernel
theorem dX6_cool_17 : decode cX6_cool 17 = .ok (.aload_n 0, 1) := by decide +kernel
theorem dX6_cool_18 : decode cX6_cool 18 = .ok (.invokevirtual 98, 3) := by decide +kernel
theorem dX6_cool_21 : decode cX6_cool 21 = .ok (.aload_n 0, 1) := by decide +kernel
theorem dX6_cool_22 : decode cX6_cool 22 = .ok (.getfield 22, 3) := by decide +kernel
theorem dX6_cool_25 : decode cX6_cool 25 = .ok (.bipush 29, 2) := by decide +kernel
theorem dX6_cool_27 : decode cX6_cool 27 = .ok (.iaload, 1) := by decide +kernel
theorem dX6_cool_28 : decode cX6_cool 28 = .ok (.ireturn, 1) := by decide +kernel
theorem dX6_swaps_0 : decode cX6_swaps 0 = .ok (.aload_n 0, 1) := by decide +kernel
theorem dX6_swaps_1 : decode cX6_swaps 1 = .ok (.getfield 22, 3) := by decide +kernel
theorem dX6_swaps_4 : decode cX6_swaps 4 = .ok (.iload_n 1, 1) := by decide +kernel
theorem dX6_swaps_5 : decode cX6_swaps 5 = .ok (.iaload, 1) := by decide +kernel
theorem dX6_swaps_6 : decode cX6_swaps 6 = .ok (.istore_n 3, 1) := by decide +kernel
theorem dX6_swaps_7 : decode cX6_swaps 7 = .ok (.aload_n 0, 1) := by decide +kernel
theorem dX6_swaps_8 : decode cX6_swaps 8 = .ok (.getfield 22, 3) := by decide +kernel
theorem dX6_swaps_11 : decode cX6_swaps 11 = .ok (.bipush 7, 2) := by decide +kernel
theorem dX6_swaps_13 : decode cX6_swaps 13 = .ok (.iload_n 1, 1) := by decide +kernel
theorem dX6_swaps_14 : decode cX6_swaps 14 = .ok (.iadd, 1) := by decide +kernel
theorem dX6_swaps_15 : decode cX6_swaps 15 = .ok (.iaload, 1) := by decide +kernel
theorem dX6_swaps_16 : decode cX6_swaps 16 = .ok (.istore 4, 2) := by decide +kernel
theorem dX6_swaps_18 : decode cX6_swaps 18 = .ok (.aload_n 0, 1) := by decide +kernel
theorem dX6_swaps_19 : decode cX6_swaps 19 = .ok (.getfield 22, 3) := by decide +kernel
theorem dX6_swaps_22 : decode cX6_swaps 22 = .ok (.iload_n 1, 1) := by decide +kernel
theorem dX6_swaps_23 : decode cX6_swaps 23 = .ok (.aload_n 0, 1) := by decide +kernel
theorem dX6_swaps_24 : decode cX6_swaps 24 = .ok (.getfield 22, 3) := by decide +kernel
theorem dX6_swaps_27 : decode cX6_swaps 27 = .ok (.iload_n 2, 1) := by decide +kernel
theorem dX6_swaps_28 : decode cX6_swaps 28 = .ok (.iaload, 1) := by decide +kernel
theorem dX6_swaps_29 : decode cX6_swaps 29 = .ok (.iastore, 1) := by decide +kernel
theorem dX6_swaps_30 : decode cX6_swaps 30 = .ok (.aload_n 0, 1) := by decide +kernel
theorem dX6_swaps_31 : decode cX6_swaps 31 = .ok (.getfield 22, 3) := by decide +kernel
theorem dX6_swaps_34 : decode cX6_swaps 34 = .ok (.bipush 7, 2) := by decide +kernel
theorem dX6_swaps_36 : decode cX6_swaps 36 = .ok (.iload_n 1, 1) := by decide +kernel
theorem dX6_swaps_37 : decode cX6_swaps 37 = .ok (.iadd, 1) := by decide +kernel
theorem dX6_swaps_38 : decode cX6_swaps 38 = .ok (.aload_n 0, 1) := by decide +kernel
theorem dX6_swaps_39 : decode cX6_swaps 39 = .ok (.getfield 22, 3) := by decide +kernel
theorem dX6_swaps_42 : decode cX6_swaps 42 = .ok (.bipush 7, 2) := by decide +kernel
theorem dX6_swaps_44 : decode cX6_swaps 44 = .ok (.iload_n 2, 1) := by decide +kernel
theorem dX6_swaps_45 : decode cX6_swaps 45 = .ok (.iadd, 1) := by decide +kernel
theorem dX6_swaps_46 : decode cX6_swaps 46 = .ok (.iaload, 1) := by decide +kernel
theorem dX6_swaps_47 : decode cX6_swaps 47 = .ok (.iastore, 1) := by decide +kernel
theorem dX6_swaps_48 : decode cX6_swaps 48 = .ok (.aload_n 0, 1) := by decide +kernel
theorem dX6_swaps_49 : decode cX6_swaps 49 = .ok (.getfield 22, 3) := by decide +kernel
theorem dX6_swaps_52 : decode cX6_swaps 52 = .ok (.iload_n 2, 1) := by decide +kernel
theorem dX6_swaps_53 : decode cX6_swaps 53 = .ok (.iload_n 3, 1) := by decide +kernel
theorem dX6_swaps_54 : decode cX6_swaps 54 = .ok (.iastore, 1) := by decide +kernel
theorem dX6_swaps_55 : decode cX6_swaps 55 = .ok (.aload_n 0, 1) := by decide +kernel
theorem dX6_swaps_56 : decode cX6_swaps 56 = .ok (.getfield 22, 3) := by decide +kernel
theorem dX6_swaps_59 : decode cX6_swaps 59 = .ok (.bipush 7, 2) := by decide +kernel
theorem dX6_swaps_61 : decode cX6_swaps 61 = .ok (.iload_n 2, 1) := by decide +kernel
theorem dX6_swaps_62 : decode cX6_swaps 62 = .ok (.iadd, 1) := by decide +kernel
theorem dX6_swaps_63 : decode cX6_swaps 63 = .ok (.iload 4, 2) := by decide +kernel
theorem dX6_swaps_65 : decode cX6_swaps 65 = .ok (.iastore, 1) := by decide +kernel
theorem dX6_swaps_66 : decode cX6_swaps 66 = .ok (.return_, 1) := by decide +kernel
theorem dX6_trade_0 : decode cX6_trade 0 = .ok (.aload_n 0, 1) := by decide +kernel
theorem dX6_trade_1 : decode cX6_trade 1 = .ok (.iload_n 1, 1) := by decide +kernel
theorem dX6_trade_2 : decode cX6_trade 2 = .ok (.invokevirtual 89, 3) := by decide +kernel
theorem dX6_trade_5 : decode cX6_trade 5 = .ok (.ifCond .eq 16, 3) := by decide +kernel
theorem dX6_trade_8 : decode cX6_trade 8 = .ok (.aload_n 0, 1) := by decide +kernel
theorem dX6_trade_9 : decode cX6_trade 9 = .ok (.iload_n 2, 1) := by decide +kernel
theorem dX6_trade_10 : decode cX6_trade 10 = .ok (.invokevirtual 89, 3) := by decide +kernel
theorem dX6_trade_13 : decode cX6_trade 13 = .ok (.ifCond .eq 8, 3) := by decide +kernel
theorem dX6_trade_16 : decode cX6_trade 16 = .ok (.iload_n 1, 1) := by decide +kernel
theorem dX6_trade_17 : decode cX6_trade 17 = .ok (.iload_n 2, 1) := by decide +kernel
theorem dX6_trade_18 : decode cX6_trade 18 = .ok (.if_icmp .ne 5, 3) := by decide +kernel
theorem dX6_trade_21 : decode cX6_trade 21 = .ok (.iconst (-1), 1) := by decide +kernel
theorem dX6_trade_22 : decode cX6_trade 22 = .ok (.ireturn, 1) := by decide +kernel
theorem dX6_trade_23 : decode cX6_trade 23 = .ok (.aload_n 0, 1) := by decide +kernel
theorem dX6_trade_24 : decode cX6_trade 24 = .ok (.invokevirtual 101, 3) := by decide +kernel
theorem dX6_trade_27 : decode cX6_trade 27 = .ok (.aload_n 0, 1) := by decide +kernel
theorem dX6_trade_28 : decode cX6_trade 28 = .ok (.iload_n 1, 1) := by decide +kernel
theorem dX6_trade_29 : decode cX6_trade 29 = .ok (.iload_n 2, 1) := by decide +kernel
theorem dX6_trade_30 : decode cX6_trade 30 = .ok (.invokevirtual 114, 3) := by decide +kernel
theorem dX6_trade_33 : decode cX6_trade 33 = .ok (.aload_n 0, 1) := by decide +kernel
theorem dX6_trade_34 : decode cX6_trade 34 = .ok (.getfield 22, 3) := by decide +kernel
theorem dX6_trade_37 : decode cX6_trade 37 = .ok (.bipush 7, 2) := by decide +kernel
theorem dX6_trade_39 : decode cX6_trade 39 = .ok (.iload_n 1, 1) := by decide +kernel
