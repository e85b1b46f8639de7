theorem dX6_trade_40 : decode cX6_trade 40 = .ok (.iadd, 1) := by decide +kernel
theorem dX6_trade_41 : decode cX6_trade 41 = .ok (.iaload, 1) := by decide +kernel
theorem dX6_trade_42 : decode cX6_trade 42 = .ok (.ireturn, 1) := by decide +kernel
theorem dX6_sumOf_0 : decode cX6_sumOf 0 = .ok (.iconst 0, 1) := by decide +kernel
theorem dX6_sumOf_1 : decode cX6_sumOf 1 = .ok (.istore_n 2, 1) := by decide +kernel
theorem dX6_sumOf_2 : decode cX6_sumOf 2 = .ok (.iconst 0, 1) := by decide +kernel
theorem dX6_sumOf_3 : decode cX6_sumOf 3 = .ok (.istore_n 3, 1) := by decide +kernel
theorem dX6_sumOf_4 : decode cX6_sumOf 4 = .ok (.iload_n 3, 1) := by decide +kernel
theorem dX6_sumOf_5 : decode cX6_sumOf 5 = .ok (.aload_n 0, 1) := by decide +kernel
theorem dX6_sumOf_6 : decode cX6_sumOf 6 = .ok (.getfield 13, 3) := by decide +kernel
theorem dX6_sumOf_9 : decode cX6_sumOf 9 = .ok (.iconst 0, 1) := by decide +kernel
theorem dX6_sumOf_10 : decode cX6_sumOf 10 = .ok (.iaload, 1) := by decide +kernel
theorem dX6_sumOf_11 : decode cX6_sumOf 11 = .ok (.if_icmp .ge 20, 3) := by decide +kernel
theorem dX6_sumOf_14 : decode cX6_sumOf 14 = .ok (.iload_n 2, 1) := by decide +kernel
theorem dX6_sumOf_15 : decode cX6_sumOf 15 = .ok (.aload_n 0, 1) := by decide +kernel
theorem dX6_sumOf_16 : decode cX6_sumOf 16 = .ok (.getfield 22, 3) := by decide +kernel
theorem dX6_sumOf_19 : decode cX6_sumOf 19 = .ok (.iload_n 1, 1) := by decide +kernel
theorem dX6_sumOf_20 : decode cX6_sumOf 20 = .ok (.iload_n 3, 1) := by decide +kernel
theorem dX6_sumOf_21 : decode cX6_sumOf 21 = .ok (.iadd, 1) := by decide +kernel
theorem dX6_sumOf_22 : decode cX6_sumOf 22 = .ok (.iaload, 1) := by decide +kernel
theorem dX6_sumOf_23 : decode cX6_sumOf 23 = .ok (.iadd, 1) := by decide +kernel
theorem dX6_sumOf_24 : decode cX6_sumOf 24 = .ok (.istore_n 2, 1) := by decide +kernel
theorem dX6_sumOf_25 : decode cX6_sumOf 25 = .ok (.iinc 3 1, 3) := by decide +kernel
theorem dX6_sumOf_28 : decode cX6_sumOf 28 = .ok (.goto (-24), 3) := by decide +kernel
theorem dX6_sumOf_31 : decode cX6_sumOf 31 = .ok (.iload_n 2, 1) := by decide +kernel
theorem dX6_sumOf_32 : decode cX6_sumOf 32 = .ok (.ireturn, 1) := by decide +kernel
theorem dX6_starves_0 : decode cX6_starves 0 = .ok (.iconst 0, 1) := by decide +kernel
theorem dX6_starves_1 : decode cX6_starves 1 = .ok (.istore_n 1, 1) := by decide +kernel
theorem dX6_starves_2 : decode cX6_starves 2 = .ok (.iload_n 1, 1) := by decide +kernel
theorem dX6_starves_3 : decode cX6_starves 3 = .ok (.aload_n 0, 1) := by decide +kernel
theorem dX6_starves_4 : decode cX6_starves 4 = .ok (.getfield 13, 3) := by decide +kernel
theorem dX6_starves_7 : decode cX6_starves 7 = .ok (.iconst 0, 1) := by decide +kernel
theorem dX6_starves_8 : decode cX6_starves 8 = .ok (.iaload, 1) := by decide +kernel
theorem dX6_starves_9 : decode cX6_starves 9 = .ok (.if_icmp .ge 47, 3) := by decide +kernel
theorem dX6_starves_12 : decode cX6_starves 12 = .ok (.aload_n 0, 1) := by decide +kernel
theorem dX6_starves_13 : decode cX6_starves 13 = .ok (.getfield 22, 3) := by decide +kernel
theorem dX6_starves_16 : decode cX6_starves 16 = .ok (.bipush 14, 2) := by decide +kernel
theorem dX6_starves_18 : decode cX6_starves 18 = .ok (.iload_n 1, 1) := by decide +kernel
theorem dX6_starves_19 : decode cX6_starves 19 = .ok (.iadd, 1) := by decide +kernel
theorem dX6_starves_20 : decode cX6_starves 20 = .ok (.iaload, 1) := by decide +kernel
theorem dX6_starves_21 : decode cX6_starves 21 = .ok (.aload_n 0, 1) := by decide +kernel
theorem dX6_starves_22 : decode cX6_starves 22 = .ok (.getfield 13, 3) := by decide +kernel
theorem dX6_starves_25 : decode cX6_starves 25 = .ok (.iconst 2, 1) := by decide +kernel
theorem dX6_starves_26 : decode cX6_starves 26 = .ok (.iaload, 1) := by decide +kernel
theorem dX6_starves_27 : decode cX6_starves 27 = .ok (.iadd, 1) := by decide +kernel
theorem dX6_starves_28 : decode cX6_starves 28 = .ok (.istore_n 2, 1) := by decide +kernel
theorem dX6_starves_29 : decode cX6_starves 29 = .ok (.aload_n 0, 1) := by decide +kernel
theorem dX6_starves_30 : decode cX6_starves 30 = .ok (.getfield 22, 3) := by decide +kernel
theorem dX6_starves_33 : decode cX6_starves 33 = .ok (.bipush 14, 2) := by decide +kernel
theorem dX6_starves_35 : decode cX6_starves 35 = .ok (.iload_n 1, 1) := by decide +kernel
theorem dX6_starves_36 : decode cX6_starves 36 = .ok (.iadd, 1) := by decide +kernel
theorem dX6_starves_37 : decode cX6_starves 37 = .ok (.iload_n 2, 1) := by decide +kernel
theorem dX6_starves_38 : decode cX6_starves 38 = .ok (.bipush 60, 2) := by decide +kernel
theorem dX6_starves_40 : decode cX6_starves 40 = .ok (.if_icmp .le 8, 3) := by decide +kernel
theorem dX6_starves_43 : decode cX6_starves 43 = .ok (.bipush 60, 2) := by decide +kernel
theorem dX6_starves_45 : decode cX6_starves 45 = .ok (.goto 4, 3) := by decide +kernel
theorem dX6_starves_48 : decode cX6_starves 48 = .ok (.iload_n 2, 1) := by decide +kernel
theorem dX6_starves_49 : decode cX6_starves 49 = .ok (.iastore, 1) := by decide +kernel
theorem dX6_starves_50 : decode cX6_starves 50 = .ok (.iinc 1 1, 3) := by decide +kernel
theorem dX6_starves_53 : decode cX6_starves 53 = .ok (.goto (-51), 3) := by decide +kernel
theorem dX6_starves_56 : decode cX6_starves 56 = .ok (.aload_n 0, 1) := by decide +kernel
theorem dX6_starves_57 : decode cX6_starves 57 = .ok (.getfield 22, 3) := by decide +kernel
theorem dX6_starves_60 : decode cX6_starves 60 = .ok (.bipush 29, 2) := by decide +kernel
theorem dX6_starves_62 : decode cX6_starves 62 = .ok (.iconst 0, 1) := by decide +kernel
theorem dX6_starves_63 : decode cX6_starves 63 = .ok (.iastore, 1) := by decide +kernel
theorem dX6_starves_64 : decode cX6_starves 64 = .ok (.return_, 1) := by decide +kernel
theorem dX6_fast_0 : decode cX6_fast 0 = .ok (.aload_n 0, 1) := by decide +kernel
theorem dX6_fast_1 : decode cX6_fast 1 = .ok (.invokevirtual 101, 3) := by decide +kernel
theorem dX6_fast_4 : decode cX6_fast 4 = .ok (.aload_n 0, 1) := by decide +kernel
theorem dX6_fast_5 : decode cX6_fast 5 = .ok (.invokevirtual 118, 3) := by decide +kernel
theorem dX6_fast_8 : decode cX6_fast 8 = .ok (.aload_n 0, 1) := by decide +kernel
theorem dX6_fast_9 : decode cX6_fast 9 = .ok (.bipush 14, 2) := by decide +kernel
theorem dX6_fast_11 : decode cX6_fast 11 = .ok (.invokevirtual 121, 3) := by decide +kernel
theorem dX6_fast_14 : decode cX6_fast 14 = .ok (.ireturn, 1) := by decide +kernel
theorem dX6_undo_0 : decode cX6_undo 0 = .ok (.aload_n 0, 1) := by decide +kernel
theorem dX6_undo_1 : decode cX6_undo 1 = .ok (.getfield 80, 3) := by decide +kernel
theorem dX6_undo_4 : decode cX6_undo 4 = .ok (.ifCond .ne 6, 3) := by decide +kernel
theorem dX6_undo_7 : decode cX6_undo 7 = .ok (.bipush (-2), 2) := by decide +kernel
theorem dX6_undo_9 : decode cX6_undo 9 = .ok (.ireturn, 1) := by decide +kernel
theorem dX6_undo_10 : decode cX6_undo 10 = .ok (.aload_n 0, 1) := by decide +kernel
theorem dX6_undo_11 : decode cX6_undo 11 = .ok (.dup, 1) := by decide +kernel
theorem dX6_undo_12 : decode cX6_undo 12 = .ok (.getfield 80, 3) := by decide +kernel
theorem dX6_undo_15 : decode cX6_undo 15 = .ok (.iconst 1, 1) := by decide +kernel
theorem dX6_undo_16 : decode cX6_undo 16 = .ok (.isub, 1) := by decide +kernel
theorem dX6_undo_17 : decode cX6_undo 17 = .ok (.putfield 80, 3) := by decide +kernel
theorem dX6_undo_20 : decode cX6_undo 20 = .ok (.iconst 0, 1) := by decide +kernel
theorem dX6_undo_21 : decode cX6_undo 21 = .ok (.istore_n 1, 1) := by decide +kernel
theorem dX6_undo_22 : decode cX6_undo 22 = .ok (.iload_n 1, 1) := by decide +kernel
theorem dX6_undo_23 : decode cX6_undo 23 = .ok (.bipush 31, 2) := by decide +kernel
theorem dX6_undo_25 : decode cX6_undo 25 = .ok (.if_icmp .ge 29, 3) := by decide +kernel
theorem dX6_undo_28 : decode cX6_undo 28 = .ok (.aload_n 0, 1) := by decide +kernel
theorem dX6_undo_29 : decode cX6_undo 29 = .ok (.getfield 22, 3) := by decide +kernel
theorem dX6_undo_32 : decode cX6_undo 32 = .ok (.iload_n 1, 1) := by decide +kernel
theorem dX6_undo_33 : decode cX6_undo 33 = .ok (.aload_n 0, 1) := by decide +kernel
theorem dX6_undo_34 : decode cX6_undo 34 = .ok (.getfield 25, 3) := by decide +kernel
theorem dX6_undo_37 : decode cX6_undo 37 = .ok (.bipush 31, 2) := by decide +kernel
theorem dX6_undo_39 : decode cX6_undo 39 = .ok (.aload_n 0, 1) := by decide +kernel
theorem dX6_undo_40 : decode cX6_undo 40 = .ok (.getfield 80, 3) := by decide +kernel
theorem dX6_undo_43 : decode cX6_undo 43 = .ok (.imul, 1) := by decide +kernel
theorem dX6_undo_44 : decode cX6_undo 44 = .ok (.iload_n 1, 1) := by decide +kernel
theorem dX6_undo_45 : decode cX6_undo 45 = .ok (.iadd, 1) := by decide +kernel
theorem dX6_undo_46 : decode cX6_undo 46 = .ok (.iaload, 1) := by decide +kernel
theorem dX6_undo_47 : decode cX6_undo 47 = .ok (.iastore, 1) := by decide +kernel
theorem dX6_undo_48 : decode cX6_undo 48 = .ok (.iinc 1 1, 3) := by decide +kernel
theorem dX6_undo_51 : decode cX6_undo 51 = .ok (.goto (-29), 3) := by decide +kernel
theorem dX6_undo_54 : decode cX6_undo 54 = .ok (.aload_n 0, 1) := by decide +kernel
theorem dX6_undo_55 : decode cX6_undo 55 = .ok (.getfield 80, 3) := by decide +kernel
theorem dX6_undo_58 : decode cX6_undo 58 = .ok (.ireturn, 1) := by decide +kernel
theorem dX6_holds_0 : decode cX6_holds 0 = .ok (.iconst 0, 1) := by decide +kernel
theorem dX6_holds_1 : decode cX6_holds 1 = .ok (.istore_n 1, 1) := by decide +kernel
theorem dX6_holds_2 : decode cX6_holds 2 = .ok (.iload_n 1, 1) := by decide +kernel
theorem dX6_holds_3 : decode cX6_holds 3 = .ok (.bipush 31, 2) := by decide +kernel
theorem dX6_holds_5 : decode cX6_holds 5 = .ok (.if_icmp .ge 21, 3) := by decide +kernel
theorem dX6_holds_8 : decode cX6_holds 8 = .ok (.aload_n 0, 1) := by decide +kernel
theorem dX6_holds_9 : decode cX6_holds 9 = .ok (.getfield 34, 3) := by decide +kernel
theorem dX6_holds_12 : decode cX6_holds 12 = .ok (.iload_n 1, 1) := by decide +kernel
theorem dX6_holds_13 : decode cX6_holds 13 = .ok (.aload_n 0, 1) := by decide +kernel
theorem dX6_holds_14 : decode cX6_holds 14 = .ok (.getfield 22, 3) := by decide +kernel
theorem dX6_holds_17 : decode cX6_holds 17 = .ok (.iload_n 1, 1) := by decide +kernel
theorem dX6_holds_18 : decode cX6_holds 18 = .ok (.iaload, 1) := by decide +kernel
theorem dX6_holds_19 : decode cX6_holds 19 = .ok (.iastore, 1) := by decide +kernel
theorem dX6_holds_20 : decode cX6_holds 20 = .ok (.iinc 1 1, 3) := by decide +kernel
theorem dX6_holds_23 : decode cX6_holds 23 = .ok (.goto (-21), 3) := by decide +kernel
theorem dX6_holds_26 : decode cX6_holds 26 = .ok (.return_, 1) := by decide +kernel
theorem dX6_lets_0 : decode cX6_lets 0 = .ok (.iconst 0, 1) := by decide +kernel
theorem dX6_lets_1 : decode cX6_lets 1 = .ok (.istore_n 1, 1) := by decide +kernel
theorem dX6_lets_2 : decode cX6_lets 2 = .ok (.iload_n 1, 1) := by decide +kernel
theorem dX6_lets_3 : decode cX6_lets 3 = .ok (.bipush 31, 2) := by decide +kernel
theorem dX6_lets_5 : decode cX6_lets 5 = .ok (.if_icmp .ge 21, 3) := by decide +kernel
theorem dX6_lets_8 : decode cX6_lets 8 = .ok (.aload_n 0, 1) := by decide +kernel
theorem dX6_lets_9 : decode cX6_lets 9 = .ok (.getfield 22, 3) := by decide +kernel
theorem dX6_lets_12 : decode cX6_lets 12 = .ok (.iload_n 1, 1) := by decide +kernel
theorem dX6_lets_13 : decode cX6_lets 13 = .ok (.aload_n 0, 1) := by decide +kernel
theorem dX6_lets_14 : decode cX6_lets 14 = .ok (.getfield 34, 3) := by decide +kernel
theorem dX6_lets_17 : decode cX6_lets 17 = .ok (.iload_n 1, 1) := by decide +kernel
theorem dX6_lets_18 : decode cX6_lets 18 = .ok (.iaload, 1) := by decide +kernel
theorem dX6_lets_19 : decode cX6_lets 19 = .ok (.iastore, 1) := by decide +kernel
theorem dX6_lets_20 : decode cX6_lets 20 = .ok (.iinc 1 1, 3) := by decide +kernel
theorem dX6_lets_23 : decode cX6_lets 23 = .ok (.goto (-21), 3) := by decide +kernel
theorem dX6_lets_26 : decode cX6_lets 26 = .ok (.return_, 1) := by decide +kernel
theorem dX6_passesBy_0 : decode cX6_passesBy 0 = .ok (.iconst 0, 1) := by decide +kernel
theorem dX6_passesBy_1 : decode cX6_passesBy 1 = .ok (.istore_n 2, 1) := by decide +kernel
theorem dX6_passesBy_2 : decode cX6_passesBy 2 = .ok (.iload_n 2, 1) := by decide +kernel
theorem dX6_passesBy_3 : decode cX6_passesBy 3 = .ok (.bipush 31, 2) := by decide +kernel
theorem dX6_passesBy_5 : decode cX6_passesBy 5 = .ok (.if_icmp .ge 21, 3) := by decide +kernel
theorem dX6_passesBy_8 : decode cX6_passesBy 8 = .ok (.aload_n 0, 1) := by decide +kernel
theorem dX6_passesBy_9 : decode cX6_passesBy 9 = .ok (.getfield 37, 3) := by decide +kernel
theorem dX6_passesBy_12 : decode cX6_passesBy 12 = .ok (.iload_n 2, 1) := by decide +kernel
theorem dX6_passesBy_13 : decode cX6_passesBy 13 = .ok (.aload_n 0, 1) := by decide +kernel
theorem dX6_passesBy_14 : decode cX6_passesBy 14 = .ok (.getfield 22, 3) := by decide +kernel
theorem dX6_passesBy_17 : decode cX6_passesBy 17 = .ok (.iload_n 2, 1) := by decide +kernel
theorem dX6_passesBy_18 : decode cX6_passesBy 18 = .ok (.iaload, 1) := by decide +kernel
theorem dX6_passesBy_19 : decode cX6_passesBy 19 = .ok (.iastore, 1) := by decide +kernel
theorem dX6_passesBy_20 : decode cX6_passesBy 20 = .ok (.iinc 2 1, 3) := by decide +kernel
theorem dX6_passesBy_23 : decode cX6_passesBy 23 = .ok (.goto (-21), 3) := by decide +kernel
theorem dX6_passesBy_26 : decode cX6_passesBy 26 = .ok (.bipush (-4), 2) := by decide +kernel
theorem dX6_passesBy_28 : decode cX6_passesBy 28 = .ok (.istore_n 2, 1) := by decide +kernel
theorem dX6_passesBy_29 : decode cX6_passesBy 29 = .ok (.bipush (-4), 2) := by decide +kernel
theorem dX6_passesBy_31 : decode cX6_passesBy 31 = .ok (.istore_n 3, 1) := by decide +kernel
theorem dX6_passesBy_32 : decode cX6_passesBy 32 = .ok (.iconst 0, 1) := by decide +kernel
theorem dX6_passesBy_33 : decode cX6_passesBy 33 = .ok (.istore 4, 2) := by decide +kernel
theorem dX6_passesBy_35 : decode cX6_passesBy 35 = .ok (.iload 4, 2) := by decide +kernel
theorem dX6_passesBy_37 : decode cX6_passesBy 37 = .ok (.aload_n 0, 1) := by decide +kernel
theorem dX6_passesBy_38 : decode cX6_passesBy 38 = .ok (.getfield 13, 3) := by decide +kernel
theorem dX6_passesBy_41 : decode cX6_passesBy 41 = .ok (.iconst 1, 1) := by decide +kernel
theorem dX6_passesBy_42 : decode cX6_passesBy 42 = .ok (.iaload, 1) := by decide +kernel
theorem dX6_passesBy_43 : decode cX6_passesBy 43 = .ok (.if_icmp .gt 71, 3) := by decide +kernel
theorem dX6_passesBy_46 : decode cX6_passesBy 46 = .ok (.iload_n 2, 1) := by decide +kernel
theorem dX6_passesBy_47 : decode cX6_passesBy 47 = .ok (.bipush (-4), 2) := by decide +kernel
theorem dX6_passesBy_49 : decode cX6_passesBy 49 = .ok (.if_icmp .ne 65, 3) := by decide +kernel
theorem dX6_passesBy_52 : decode cX6_passesBy 52 = .ok (.aload_n 0, 1) := by decide +kernel
theorem dX6_passesBy_53 : decode cX6_passesBy 53 = .ok (.getfield 22, 3) := by decide +kernel
theorem dX6_passesBy_56 : decode cX6_passesBy 56 = .ok (.bipush 28, 2) := by decide +kernel
theorem dX6_passesBy_58 : decode cX6_passesBy 58 = .ok (.iaload, 1) := by decide +kernel
theorem dX6_passesBy_59 : decode cX6_passesBy 59 = .ok (.ifCond .ne 8, 3) := by decide +kernel
theorem dX6_passesBy_62 : decode cX6_passesBy 62 = .ok (.iload 4, 2) := by decide +kernel
theorem dX6_passesBy_64 : decode cX6_passesBy 64 = .ok (.goto 5, 3) := by decide +kernel
theorem dX6_passesBy_67 : decode cX6_passesBy 67 = .ok (.bipush (-4), 2) := by decide +kernel
theorem dX6_passesBy_69 : decode cX6_passesBy 69 = .ok (.istore_n 2, 1) := by decide +kernel
theorem dX6_passesBy_70 : decode cX6_passesBy 70 = .ok (.iload_n 2, 1) := by decide +kernel
theorem dX6_passesBy_71 : decode cX6_passesBy 71 = .ok (.bipush (-4), 2) := by decide +kernel
theorem dX6_passesBy_73 : decode cX6_passesBy 73 = .ok (.if_icmp .ne 8, 3) := by decide +kernel
theorem dX6_passesBy_76 : decode cX6_passesBy 76 = .ok (.bipush (-4), 2) := by decide +kernel
theorem dX6_passesBy_78 : decode cX6_passesBy 78 = .ok (.goto 17, 3) := by decide +kernel
theorem dX6_passesBy_81 : decode cX6_passesBy 81 = .ok (.iload 4, 2) := by decide +kernel
theorem dX6_passesBy_83 : decode cX6_passesBy 83 = .ok (.ifCond .ne 8, 3) := by decide +kernel
theorem dX6_passesBy_86 : decode cX6_passesBy 86 = .ok (.bipush (-4), 2) := by decide +kernel
theorem dX6_passesBy_88 : decode cX6_passesBy 88 = .ok (.goto 7, 3) := by decide +kernel
theorem dX6_passesBy_91 : decode cX6_passesBy 91 = .ok (.aload_n 0, 1) := by decide +kernel
theorem dX6_passesBy_92 : decode cX6_passesBy 92 = .ok (.getfield 95, 3) := by decide +kernel
theorem dX6_passesBy_95 : decode cX6_passesBy 95 = .ok (.istore_n 3, 1) := by decide +kernel
theorem dX6_passesBy_96 : decode cX6_passesBy 96 = .ok (.iload_n 2, 1) := by decide +kernel
theorem dX6_passesBy_97 : decode cX6_passesBy 97 = .ok (.bipush (-4), 2) := by decide +kernel
theorem dX6_passesBy_99 : decode cX6_passesBy 99 = .ok (.if_icmp .ne 9, 3) := by decide +kernel
theorem dX6_passesBy_102 : decode cX6_passesBy 102 = .ok (.aload_n 0, 1) := by decide +kernel
theorem dX6_passesBy_103 : decode cX6_passesBy 103 = .ok (.iload_n 1, 1) := by decide +kernel
theorem dX6_passesBy_104 : decode cX6_passesBy 104 = .ok (.invokevirtual 107, 3) := by decide +kernel
theorem dX6_passesBy_107 : decode cX6_passesBy 107 = .ok (.pop, 1) := by decide +kernel
theorem dX6_passesBy_108 : decode cX6_passesBy 108 = .ok (.iinc 4 1, 3) := by decide +kernel
theorem dX6_passesBy_111 : decode cX6_passesBy 111 = .ok (.goto (-76), 3) := by decide +kernel
theorem dX6_passesBy_114 : decode cX6_passesBy 114 = .ok (.aload_n 0, 1) := by decide +kernel
theorem dX6_passesBy_115 : decode cX6_passesBy 115 = .ok (.iload_n 3, 1) := by decide +kernel
theorem dX6_passesBy_116 : decode cX6_passesBy 116 = .ok (.putfield 95, 3) := by decide +kernel
theorem dX6_passesBy_119 : decode cX6_passesBy 119 = .ok (.iconst 0, 1) := by decide +kernel
theorem dX6_passesBy_120 : decode cX6_passesBy 120 = .ok (.istore 4, 2) := by decide +kernel
theorem dX6_passesBy_122 : decode cX6_passesBy 122 = .ok (.iload 4, 2) := by decide +kernel
theorem dX6_passesBy_124 : decode cX6_passesBy 124 = .ok (.bipush 31, 2) := by decide +kernel
theorem dX6_passesBy_126 : decode cX6_passesBy 126 = .ok (.if_icmp .ge 23, 3) := by decide +kernel
theorem dX6_passesBy_129 : decode cX6_passesBy 129 = .ok (.aload_n 0, 1) := by decide +kernel
theorem dX6_passesBy_130 : decode cX6_passesBy 130 = .ok (.getfield 22, 3) := by decide +kernel
theorem dX6_passesBy_133 : decode cX6_passesBy 133 = .ok (.iload 4, 2) := by decide +kernel
theorem dX6_passesBy_135 : decode cX6_passesBy 135 = .ok (.aload_n 0, 1) := by decide +kernel
theorem dX6_passesBy_136 : decode cX6_passesBy 136 = .ok (.getfield 37, 3) := by decide +kernel
theorem dX6_passesBy_139 : decode cX6_passesBy 139 = .ok (.iload 4, 2) := by decide +kernel
theorem dX6_passesBy_141 : decode cX6_passesBy 141 = .ok (.iaload, 1) := by decide +kernel
theorem dX6_passesBy_142 : decode cX6_passesBy 142 = .ok (.iastore, 1) := by decide +kernel
theorem dX6_passesBy_143 : decode cX6_passesBy 143 = .ok (.iinc 4 1, 3) := by decide +kernel
theorem dX6_passesBy_146 : decode cX6_passesBy 146 = .ok (.goto (-24), 3) := by decide +kernel
theorem dX6_passesBy_149 : decode cX6_passesBy 149 = .ok (.iload_n 2, 1) := by decide +kernel
theorem dX6_passesBy_150 : decode cX6_passesBy 150 = .ok (.ireturn, 1) := by decide +kernel
theorem dX6_isPassed_0 : decode cX6_isPassed 0 = .ok (.aload_n 0, 1) := by decide +kernel
theorem dX6_isPassed_1 : decode cX6_isPassed 1 = .ok (.iload_n 1, 1) := by decide +kernel
theorem dX6_isPassed_2 : decode cX6_isPassed 2 = .ok (.invokevirtual 124, 3) := by decide +kernel
theorem dX6_isPassed_5 : decode cX6_isPassed 5 = .ok (.bipush (-4), 2) := by decide +kernel
theorem dX6_isPassed_7 : decode cX6_isPassed 7 = .ok (.if_icmp .eq 7, 3) := by decide +kernel
theorem dX6_isPassed_10 : decode cX6_isPassed 10 = .ok (.iconst 1, 1) := by decide +kernel
theorem dX6_isPassed_11 : decode cX6_isPassed 11 = .ok (.goto 4, 3) := by decide +kernel
theorem dX6_isPassed_14 : decode cX6_isPassed 14 = .ok (.iconst 0, 1) := by decide +kernel
theorem dX6_isPassed_15 : decode cX6_isPassed 15 = .ok (.ireturn, 1) := by decide +kernel
theorem dX6_passes_0 : decode cX6_passes 0 = .ok (.aload_n 0, 1) := by decide +kernel
theorem dX6_passes_1 : decode cX6_passes 1 = .ok (.aload_n 0, 1) := by decide +kernel
theorem dX6_passes_2 : decode cX6_passes 2 = .ok (.invokevirtual 104, 3) := by decide +kernel
theorem dX6_passes_5 : decode cX6_passes 5 = .ok (.invokevirtual 124, 3) := by decide +kernel
theorem dX6_passes_8 : decode cX6_passes 8 = .ok (.ireturn, 1) := by decide +kernel
theorem dX6_left_0 : decode cX6_left 0 = .ok (.iload_n 1, 1) := by decide +kernel
theorem dX6_left_1 : decode cX6_left 1 = .ok (.iconst 0, 1) := by decide +kernel
theorem dX6_left_2 : decode cX6_left 2 = .ok (.bipush 20, 2) := by decide +kernel
theorem dX6_left_4 : decode cX6_left 4 = .ok (.invokestatic 50, 3) := by decide +kernel
theorem dX6_left_7 : decode cX6_left 7 = .ok (.ifCond .ne 5, 3) := by decide +kernel
theorem dX6_left_10 : decode cX6_left 10 = .ok (.iconst (-1), 1) := by decide +kernel
theorem dX6_left_11 : decode cX6_left 11 = .ok (.ireturn, 1) := by decide +kernel
theorem dX6_left_12 : decode cX6_left 12 = .ok (.aload_n 0, 1) := by decide +kernel
theorem dX6_left_13 : decode cX6_left 13 = .ok (.invokevirtual 127, 3) := by decide +kernel
theorem dX6_left_16 : decode cX6_left 16 = .ok (.iconst 0, 1) := by decide +kernel
theorem dX6_left_17 : decode cX6_left 17 = .ok (.istore_n 2, 1) := by decide +kernel
theorem dX6_left_18 : decode cX6_left 18 = .ok (.iload_n 2, 1) := by decide +kernel
theorem dX6_left_19 : decode cX6_left 19 = .ok (.iload_n 1, 1) := by decide +kernel
theorem dX6_left_20 : decode cX6_left 20 = .ok (.if_icmp .ge 18, 3) := by decide +kernel
theorem dX6_left_23 : decode cX6_left 23 = .ok (.aload_n 0, 1) := by decide +kernel
theorem dX6_left_24 : decode cX6_left 24 = .ok (.aload_n 0, 1) := by decide +kernel
theorem dX6_left_25 : decode cX6_left 25 = .ok (.invokevirtual 104, 3) := by decide +kernel
theorem dX6_left_28 : decode cX6_left 28 = .ok (.invokevirtual 107, 3) := by decide +kernel
theorem dX6_left_31 : decode cX6_left 31 = .ok (.pop, 1) := by decide +kernel
theorem dX6_left_32 : decode cX6_left 32 = .ok (.iinc 2 1, 3) := by decide +kernel
theorem dX6_left_35 : decode cX6_left 35 = .ok (.goto (-17), 3) := by decide +kernel
theorem dX6_left_38 : decode cX6_left 38 = .ok (.aload_n 0, 1) := by decide +kernel
theorem dX6_left_39 : decode cX6_left 39 = .ok (.getfield 22, 3) := by decide +kernel
theorem dX6_left_42 : decode cX6_left 42 = .ok (.bipush 28, 2) := by decide +kernel
theorem dX6_left_44 : decode cX6_left 44 = .ok (.iaload, 1) := by decide +kernel
theorem dX6_left_45 : decode cX6_left 45 = .ok (.istore_n 2, 1) := by decide +kernel
theorem dX6_left_46 : decode cX6_left 46 = .ok (.aload_n 0, 1) := by decide +kernel
theorem dX6_left_47 : decode cX6_left 47 = .ok (.invokevirtual 130, 3) := by decide +kernel
theorem dX6_left_50 : decode cX6_left 50 = .ok (.iload_n 2, 1) := by decide +kernel
theorem dX6_left_51 : decode cX6_left 51 = .ok (.ireturn, 1) := by decide +kernel
theorem dX6_scraper_0 : decode cX6_scraper 0 = .ok (.aload_n 0, 1) := by decide +kernel
theorem dX6_scraper_1 : decode cX6_scraper 1 = .ok (.aload_n 0, 1) := by decide +kernel
theorem dX6_scraper_2 : decode cX6_scraper 2 = .ok (.invokevirtual 104, 3) := by decide +kernel
theorem dX6_scraper_5 : decode cX6_scraper 5 = .ok (.invokevirtual 133, 3) := by decide +kernel
theorem dX6_scraper_8 : decode cX6_scraper 8 = .ok (.ifCond .eq 10, 3) := by decide +kernel
theorem dX6_scraper_11 : decode cX6_scraper 11 = .ok (.aload_n 0, 1) := by decide +kernel
theorem dX6_scraper_12 : decode cX6_scraper 12 = .ok (.getfield 95, 3) := by decide +kernel
theorem dX6_scraper_15 : decode cX6_scraper 15 = .ok (.goto 5, 3) := by decide +kernel
theorem dX6_scraper_18 : decode cX6_scraper 18 = .ok (.bipush (-4), 2) := by decide +kernel
theorem dX6_scraper_20 : decode cX6_scraper 20 = .ok (.ireturn, 1) := by decide +kernel
theorem dX6_spoil_0 : decode cX6_spoil 0 = .ok (.aload_n 0, 1) := by decide +kernel
theorem dX6_spoil_1 : decode cX6_spoil 1 = .ok (.getfield 22, 3) := by decide +kernel
theorem dX6_spoil_4 : decode cX6_spoil 4 = .ok (.bipush 30, 2) := by decide +kernel
theorem dX6_spoil_6 : decode cX6_spoil 6 = .ok (.iaload, 1) := by decide +kernel
theorem dX6_spoil_7 : decode cX6_spoil 7 = .ok (.istore_n 1, 1) := by decide +kernel
theorem dX6_spoil_8 : decode cX6_spoil 8 = .ok (.bipush (-4), 2) := by decide +kernel
theorem dX6_spoil_10 : decode cX6_spoil 10 = .ok (.istore_n 2, 1) := by decide +kernel
theorem dX6_spoil_11 : decode cX6_spoil 11 = .ok (.bipush 9, 2) := by decide +kernel
theorem dX6_spoil_13 : decode cX6_spoil 13 = .ok (.iload_n 1, 1) := by decide +kernel
theorem dX6_spoil_14 : decode cX6_spoil 14 = .ok (.isub, 1) := by decide +kernel
theorem dX6_spoil_15 : decode cX6_spoil 15 = .ok (.istore_n 3, 1) := by decide +kernel
theorem dX6_spoil_16 : decode cX6_spoil 16 = .ok (.iload_n 3, 1) := by decide +kernel
theorem dX6_spoil_17 : decode cX6_spoil 17 = .ok (.ifCond .lt 36, 3) := by decide +kernel
theorem dX6_spoil_20 : decode cX6_spoil 20 = .ok (.aload_n 0, 1) := by decide +kernel
theorem dX6_spoil_21 : decode cX6_spoil 21 = .ok (.getfield 22, 3) := by decide +kernel
theorem dX6_spoil_24 : decode cX6_spoil 24 = .ok (.bipush 30, 2) := by decide +kernel
theorem dX6_spoil_26 : decode cX6_spoil 26 = .ok (.iload_n 1, 1) := by decide +kernel
theorem dX6_spoil_27 : decode cX6_spoil 27 = .ok (.iload_n 3, 1) := by decide +kernel
theorem dX6_spoil_28 : decode cX6_spoil 28 = .ok (.iadd, 1) := by decide +kernel
theorem dX6_spoil_29 : decode cX6_spoil 29 = .ok (.iastore, 1) := by decide +kernel
theorem dX6_spoil_30 : decode cX6_spoil 30 = .ok (.aload_n 0, 1) := by decide +kernel
theorem dX6_spoil_31 : decode cX6_spoil 31 = .ok (.aload_n 0, 1) := by decide +kernel
theorem dX6_spoil_32 : decode cX6_spoil 32 = .ok (.invokevirtual 104, 3) := by decide +kernel
theorem dX6_spoil_35 : decode cX6_spoil 35 = .ok (.invokevirtual 133, 3) := by decide +kernel
theorem dX6_spoil_38 : decode cX6_spoil 38 = .ok (.ifCond .eq 7, 3) := by decide +kernel
theorem dX6_spoil_41 : decode cX6_spoil 41 = .ok (.iload_n 2, 1) := by decide +kernel
theorem dX6_spoil_42 : decode cX6_spoil 42 = .ok (.goto 4, 3) := by decide +kernel
theorem dX6_spoil_45 : decode cX6_spoil 45 = .ok (.iload_n 3, 1) := by decide +kernel
theorem dX6_spoil_46 : decode cX6_spoil 46 = .ok (.istore_n 2, 1) := by decide +kernel
theorem dX6_spoil_47 : decode cX6_spoil 47 = .ok (.iinc 3 (-1), 3) := by decide +kernel
theorem dX6_spoil_50 : decode cX6_spoil 50 = .ok (.goto (-34), 3) := by decide +kernel
theorem dX6_spoil_53 : decode cX6_spoil 53 = .ok (.aload_n 0, 1) := by decide +kernel
theorem dX6_spoil_54 : decode cX6_spoil 54 = .ok (.getfield 22, 3) := by decide +kernel
theorem dX6_spoil_57 : decode cX6_spoil 57 = .ok (.bipush 30, 2) := by decide +kernel
theorem dX6_spoil_59 : decode cX6_spoil 59 = .ok (.iload_n 1, 1) := by decide +kernel
theorem dX6_spoil_60 : decode cX6_spoil 60 = .ok (.iastore, 1) := by decide +kernel
theorem dX6_spoil_61 : decode cX6_spoil 61 = .ok (.iload_n 2, 1) := by decide +kernel
theorem dX6_spoil_62 : decode cX6_spoil 62 = .ok (.ireturn, 1) := by decide +kernel
theorem dX6_waits_0 : decode cX6_waits 0 = .ok (.aload_n 0, 1) := by decide +kernel
theorem dX6_waits_1 : decode cX6_waits 1 = .ok (.getfield 22, 3) := by decide +kernel
theorem dX6_waits_4 : decode cX6_waits 4 = .ok (.bipush 29, 2) := by decide +kernel
theorem dX6_waits_6 : decode cX6_waits 6 = .ok (.iaload, 1) := by decide +kernel
theorem dX6_waits_7 : decode cX6_waits 7 = .ok (.istore_n 1, 1) := by decide +kernel
theorem dX6_waits_8 : decode cX6_waits 8 = .ok (.bipush (-4), 2) := by decide +kernel
theorem dX6_waits_10 : decode cX6_waits 10 = .ok (.istore_n 2, 1) := by decide +kernel
theorem dX6_waits_11 : decode cX6_waits 11 = .ok (.bipush 9, 2) := by decide +kernel
theorem dX6_waits_13 : decode cX6_waits 13 = .ok (.istore_n 3, 1) := by decide +kernel
theorem dX6_waits_14 : decode cX6_waits 14 = .ok (.iload_n 3, 1) := by decide +kernel
theorem dX6_waits_15 : decode cX6_waits 15 = .ok (.ifCond .lt 45, 3) := by decide +kernel
theorem dX6_waits_18 : decode cX6_waits 18 = .ok (.aload_n 0, 1) := by decide +kernel
theorem dX6_waits_19 : decode cX6_waits 19 = .ok (.getfield 22, 3) := by decide +kernel
theorem dX6_waits_22 : decode cX6_waits 22 = .ok (.bipush 29, 2) := by decide +kernel
theorem dX6_waits_24 : decode cX6_waits 24 = .ok (.iload_n 1, 1) := by decide +kernel
theorem dX6_waits_25 : decode cX6_waits 25 = .ok (.iload_n 3, 1) := by decide +kernel
theorem dX6_waits_26 : decode cX6_waits 26 = .ok (.if_icmp .ge 7, 3) := by decide +kernel
theorem dX6_waits_29 : decode cX6_waits 29 = .ok (.iconst 0, 1) := by decide +kernel
theorem dX6_waits_30 : decode cX6_waits 30 = .ok (.goto 6, 3) := by decide +kernel
theorem dX6_waits_33 : decode cX6_waits 33 = .ok (.iload_n 1, 1) := by decide +kernel
theorem dX6_waits_34 : decode cX6_waits 34 = .ok (.iload_n 3, 1) := by decide +kernel
theorem dX6_waits_35 : decode cX6_waits 35 = .ok (.isub, 1) := by decide +kernel
theorem dX6_waits_36 : decode cX6_waits 36 = .ok (.iastore, 1) := by decide +kernel
theorem dX6_waits_37 : decode cX6_waits 37 = .ok (.aload_n 0, 1) := by decide +kernel
theorem dX6_waits_38 : decode cX6_waits 38 = .ok (.aload_n 0, 1) := by decide +kernel
theorem dX6_waits_39 : decode cX6_waits 39 = .ok (.invokevirtual 104, 3) := by decide +kernel
theorem dX6_waits_42 : decode cX6_waits 42 = .ok (.invokevirtual 133, 3) := by decide +kernel
theorem dX6_waits_45 : decode cX6_waits 45 = .ok (.ifCond .eq 7, 3) := by decide +kernel
theorem dX6_waits_48 : decode cX6_waits 48 = .ok (.iload_n 3, 1) := by decide +kernel
theorem dX6_waits_49 : decode cX6_waits 49 = .ok (.goto 4, 3) := by decide +kernel
theorem dX6_waits_52 : decode cX6_waits 52 = .ok (.iload_n 2, 1) := by decide +kernel
theorem dX6_waits_53 : decode cX6_waits 53 = .ok (.istore_n 2, 1) := by decide +kernel
theorem dX6_waits_54 : decode cX6_waits 54 = .ok (.iinc 3 (-1), 3) := by decide +kernel
theorem dX6_waits_57 : decode cX6_waits 57 = .ok (.goto (-43), 3) := by decide +kernel
theorem dX6_waits_60 : decode cX6_waits 60 = .ok (.aload_n 0, 1) := by decide +kernel
theorem dX6_waits_61 : decode cX6_waits 61 = .ok (.getfield 22, 3) := by decide +kernel
theorem dX6_waits_64 : decode cX6_waits 64 = .ok (.bipush 29, 2) := by decide +kernel
theorem dX6_waits_66 : decode cX6_waits 66 = .ok (.iload_n 1, 1) := by decide +kernel
theorem dX6_waits_67 : decode cX6_waits 67 = .ok (.iastore, 1) := by decide +kernel
theorem dX6_waits_68 : decode cX6_waits 68 = .ok (.iload_n 2, 1) := by decide +kernel
theorem dX6_waits_69 : decode cX6_waits 69 = .ok (.ireturn, 1) := by decide +kernel
theorem dX6_most_0 : decode cX6_most 0 = .ok (.aload_n 0, 1) := by decide +kernel
theorem dX6_most_1 : decode cX6_most 1 = .ok (.getfield 22, 3) := by decide +kernel
theorem dX6_most_4 : decode cX6_most 4 = .ok (.bipush 28, 2) := by decide +kernel
theorem dX6_most_6 : decode cX6_most 6 = .ok (.iaload, 1) := by decide +kernel
theorem dX6_most_7 : decode cX6_most 7 = .ok (.istore_n 1, 1) := by decide +kernel
theorem dX6_most_8 : decode cX6_most 8 = .ok (.iconst 0, 1) := by decide +kernel
theorem dX6_most_9 : decode cX6_most 9 = .ok (.istore_n 2, 1) := by decide +kernel
theorem dX6_most_10 : decode cX6_most 10 = .ok (.iconst 1, 1) := by decide +kernel
theorem dX6_most_11 : decode cX6_most 11 = .ok (.istore_n 3, 1) := by decide +kernel
theorem dX6_most_12 : decode cX6_most 12 = .ok (.iload_n 3, 1) := by decide +kernel
theorem dX6_most_13 : decode cX6_most 13 = .ok (.bipush 99, 2) := by decide +kernel
theorem dX6_most_15 : decode cX6_most 15 = .ok (.if_icmp .gt 34, 3) := by decide +kernel
theorem dX6_most_18 : decode cX6_most 18 = .ok (.aload_n 0, 1) := by decide +kernel
theorem dX6_most_19 : decode cX6_most 19 = .ok (.getfield 22, 3) := by decide +kernel
theorem dX6_most_22 : decode cX6_most 22 = .ok (.bipush 28, 2) := by decide +kernel
theorem dX6_most_24 : decode cX6_most 24 = .ok (.iload_n 3, 1) := by decide +kernel
theorem dX6_most_25 : decode cX6_most 25 = .ok (.iastore, 1) := by decide +kernel
theorem dX6_most_26 : decode cX6_most 26 = .ok (.aload_n 0, 1) := by decide +kernel
theorem dX6_most_27 : decode cX6_most 27 = .ok (.aload_n 0, 1) := by decide +kernel
theorem dX6_most_28 : decode cX6_most 28 = .ok (.invokevirtual 104, 3) := by decide +kernel
theorem dX6_most_31 : decode cX6_most 31 = .ok (.invokevirtual 133, 3) := by decide +kernel
theorem dX6_most_34 : decode cX6_most 34 = .ok (.ifCond .eq 7, 3) := by decide +kernel
theorem dX6_most_37 : decode cX6_most 37 = .ok (.iload_n 3, 1) := by decide +kernel
theorem dX6_most_38 : decode cX6_most 38 = .ok (.goto 4, 3) := by decide +kernel
theorem dX6_most_41 : decode cX6_most 41 = .ok (.iload_n 2, 1) := by decide +kernel
theorem dX6_most_42 : decode cX6_most 42 = .ok (.istore_n 2, 1) := by decide +kernel
theorem dX6_most_43 : decode cX6_most 43 = .ok (.iinc 3 1, 3) := by decide +kernel
theorem dX6_most_46 : decode cX6_most 46 = .ok (.goto (-34), 3) := by decide +kernel
theorem dX6_most_49 : decode cX6_most 49 = .ok (.aload_n 0, 1) := by decide +kernel
theorem dX6_most_50 : decode cX6_most 50 = .ok (.getfield 22, 3) := by decide +kernel
theorem dX6_most_53 : decode cX6_most 53 = .ok (.bipush 28, 2) := by decide +kernel
theorem dX6_most_55 : decode cX6_most 55 = .ok (.iload_n 1, 1) := by decide +kernel
theorem dX6_most_56 : decode cX6_most 56 = .ok (.iastore, 1) := by decide +kernel
theorem dX6_most_57 : decode cX6_most 57 = .ok (.iload_n 2, 1) := by decide +kernel
theorem dX6_most_58 : decode cX6_most 58 = .ok (.ireturn, 1) := by decide +kernel
theorem dX6_fasts_0 : decode cX6_fasts 0 = .ok (.aload_n 0, 1) := by decide +kernel
theorem dX6_fasts_1 : decode cX6_fasts 1 = .ok (.invokevirtual 127, 3) := by decide +kernel
theorem dX6_fasts_4 : decode cX6_fasts 4 = .ok (.bipush (-4), 2) := by decide +kernel
theorem dX6_fasts_6 : decode cX6_fasts 6 = .ok (.istore_n 1, 1) := by decide +kernel
theorem dX6_fasts_7 : decode cX6_fasts 7 = .ok (.iconst 0, 1) := by decide +kernel
theorem dX6_fasts_8 : decode cX6_fasts 8 = .ok (.istore_n 2, 1) := by decide +kernel
theorem dX6_fasts_9 : decode cX6_fasts 9 = .ok (.iload_n 2, 1) := by decide +kernel
theorem dX6_fasts_10 : decode cX6_fasts 10 = .ok (.bipush 11, 2) := by decide +kernel
theorem dX6_fasts_12 : decode cX6_fasts 12 = .ok (.if_icmp .ge 37, 3) := by decide +kernel
theorem dX6_fasts_15 : decode cX6_fasts 15 = .ok (.iload_n 1, 1) := by decide +kernel
theorem dX6_fasts_16 : decode cX6_fasts 16 = .ok (.bipush (-4), 2) := by decide +kernel
theorem dX6_fasts_18 : decode cX6_fasts 18 = .ok (.if_icmp .ne 31, 3) := by decide +kernel
theorem dX6_fasts_21 : decode cX6_fasts 21 = .ok (.aload_n 0, 1) := by decide +kernel
theorem dX6_fasts_22 : decode cX6_fasts 22 = .ok (.aload_n 0, 1) := by decide +kernel
theorem dX6_fasts_23 : decode cX6_fasts 23 = .ok (.invokevirtual 104, 3) := by decide +kernel
theorem dX6_fasts_26 : decode cX6_fasts 26 = .ok (.invokevirtual 133, 3) := by decide +kernel
theorem dX6_fasts_29 : decode cX6_fasts 29 = .ok (.ifCond .eq 7, 3) := by decide +kernel
theorem dX6_fasts_32 : decode cX6_fasts 32 = .ok (.iload_n 2, 1) := by decide +kernel
theorem dX6_fasts_33 : decode cX6_fasts 33 = .ok (.goto 5, 3) := by decide +kernel
theorem dX6_fasts_36 : decode cX6_fasts 36 = .ok (.bipush (-4), 2) := by decide +kernel
theorem dX6_fasts_38 : decode cX6_fasts 38 = .ok (.istore_n 1, 1) := by decide +kernel
theorem dX6_fasts_39 : decode cX6_fasts 39 = .ok (.aload_n 0, 1) := by decide +kernel
theorem dX6_fasts_40 : decode cX6_fasts 40 = .ok (.invokevirtual 118, 3) := by decide +kernel
theorem dX6_fasts_43 : decode cX6_fasts 43 = .ok (.iinc 2 1, 3) := by decide +kernel
theorem dX6_fasts_46 : decode cX6_fasts 46 = .ok (.goto (-37), 3) := by decide +kernel
theorem dX6_fasts_49 : decode cX6_fasts 49 = .ok (.aload_n 0, 1) := by decide +kernel
theorem dX6_fasts_50 : decode cX6_fasts 50 = .ok (.invokevirtual 130, 3) := by decide +kernel
theorem dX6_fasts_53 : decode cX6_fasts 53 = .ok (.iload_n 1, 1) := by decide +kernel
theorem dX6_fasts_54 : decode cX6_fasts 54 = .ok (.ireturn, 1) := by decide +kernel
theorem dX6_cabal_0 : decode cX6_cabal 0 = .ok (.iload_n 1, 1) := by decide +kernel
theorem dX6_cabal_1 : decode cX6_cabal 1 = .ok (.iconst 0, 1) := by decide +kernel
theorem dX6_cabal_2 : decode cX6_cabal 2 = .ok (.iconst 1, 1) := by decide +kernel
theorem dX6_cabal_3 : decode cX6_cabal 3 = .ok (.invokestatic 50, 3) := by decide +kernel
theorem dX6_cabal_6 : decode cX6_cabal 6 = .ok (.ifCond .ne 5, 3) := by decide +kernel
theorem dX6_cabal_9 : decode cX6_cabal 9 = .ok (.iconst (-1), 1) := by decide +kernel
theorem dX6_cabal_10 : decode cX6_cabal 10 = .ok (.ireturn, 1) := by decide +kernel
theorem dX6_cabal_11 : decode cX6_cabal 11 = .ok (.bipush (-4), 2) := by decide +kernel
theorem dX6_cabal_13 : decode cX6_cabal 13 = .ok (.istore_n 2, 1) := by decide +kernel
theorem dX6_cabal_14 : decode cX6_cabal 14 = .ok (.iconst 0, 1) := by decide +kernel
theorem dX6_cabal_15 : decode cX6_cabal 15 = .ok (.istore_n 3, 1) := by decide +kernel
theorem dX6_cabal_16 : decode cX6_cabal 16 = .ok (.iload_n 3, 1) := by decide +kernel
theorem dX6_cabal_17 : decode cX6_cabal 17 = .ok (.aload_n 0, 1) := by decide +kernel
theorem dX6_cabal_18 : decode cX6_cabal 18 = .ok (.invokevirtual 104, 3) := by decide +kernel
theorem dX6_cabal_21 : decode cX6_cabal 21 = .ok (.if_icmp .gt 36, 3) := by decide +kernel
theorem dX6_cabal_24 : decode cX6_cabal 24 = .ok (.iload_n 2, 1) := by decide +kernel
theorem dX6_cabal_25 : decode cX6_cabal 25 = .ok (.bipush (-4), 2) := by decide +kernel
theorem dX6_cabal_27 : decode cX6_cabal 27 = .ok (.if_icmp .eq 14, 3) := by decide +kernel
theorem dX6_cabal_30 : decode cX6_cabal 30 = .ok (.iload_n 3, 1) := by decide +kernel
theorem dX6_cabal_31 : decode cX6_cabal 31 = .ok (.invokestatic 136, 3) := by decide +kernel
theorem dX6_cabal_34 : decode cX6_cabal 34 = .ok (.iload_n 2, 1) := by decide +kernel
theorem dX6_cabal_35 : decode cX6_cabal 35 = .ok (.invokestatic 136, 3) := by decide +kernel
theorem dX6_cabal_38 : decode cX6_cabal 38 = .ok (.if_icmp .ge 13, 3) := by decide +kernel
theorem dX6_cabal_41 : decode cX6_cabal 41 = .ok (.aload_n 0, 1) := by decide +kernel
theorem dX6_cabal_42 : decode cX6_cabal 42 = .ok (.iload_n 3, 1) := by decide +kernel
theorem dX6_cabal_43 : decode cX6_cabal 43 = .ok (.invokevirtual 133, 3) := by decide +kernel
theorem dX6_cabal_46 : decode cX6_cabal 46 = .ok (.ifCond .eq 5, 3) := by decide +kernel
theorem dX6_cabal_49 : decode cX6_cabal 49 = .ok (.iload_n 3, 1) := by decide +kernel
theorem dX6_cabal_50 : decode cX6_cabal 50 = .ok (.istore_n 2, 1) := by decide +kernel
theorem dX6_cabal_51 : decode cX6_cabal 51 = .ok (.iinc 3 1, 3) := by decide +kernel
theorem dX6_cabal_54 : decode cX6_cabal 54 = .ok (.goto (-38), 3) := by decide +kernel
theorem dX6_cabal_57 : decode cX6_cabal 57 = .ok (.iload_n 1, 1) := by decide +kernel
theorem dX6_cabal_58 : decode cX6_cabal 58 = .ok (.iconst 1, 1) := by decide +kernel
theorem dX6_cabal_59 : decode cX6_cabal 59 = .ok (.if_icmp .eq 9, 3) := by decide +kernel
theorem dX6_cabal_62 : decode cX6_cabal 62 = .ok (.iload_n 2, 1) := by decide +kernel
theorem dX6_cabal_63 : decode cX6_cabal 63 = .ok (.bipush (-4), 2) := by decide +kernel
theorem dX6_cabal_65 : decode cX6_cabal 65 = .ok (.if_icmp .ne 7, 3) := by decide +kernel
theorem dX6_cabal_68 : decode cX6_cabal 68 = .ok (.iload_n 2, 1) := by decide +kernel
theorem dX6_cabal_69 : decode cX6_cabal 69 = .ok (.goto 7, 3) := by decide +kernel
theorem dX6_cabal_72 : decode cX6_cabal 72 = .ok (.iload_n 2, 1) := by decide +kernel
theorem dX6_cabal_73 : decode cX6_cabal 73 = .ok (.invokestatic 136, 3) := by decide +kernel
theorem dX6_cabal_76 : decode cX6_cabal 76 = .ok (.ireturn, 1) := by decide +kernel
theorem dX6_trades_0 : decode cX6_trades 0 = .ok (.bipush (-4), 2) := by decide +kernel
theorem dX6_trades_2 : decode cX6_trades 2 = .ok (.istore_n 1, 1) := by decide +kernel
theorem dX6_trades_3 : decode cX6_trades 3 = .ok (.iconst 0, 1) := by decide +kernel
theorem dX6_trades_4 : decode cX6_trades 4 = .ok (.istore_n 2, 1) := by decide +kernel
theorem dX6_trades_5 : decode cX6_trades 5 = .ok (.iload_n 2, 1) := by decide +kernel
theorem dX6_trades_6 : decode cX6_trades 6 = .ok (.aload_n 0, 1) := by decide +kernel
theorem dX6_trades_7 : decode cX6_trades 7 = .ok (.getfield 13, 3) := by decide +kernel
theorem dX6_trades_10 : decode cX6_trades 10 = .ok (.iconst 0, 1) := by decide +kernel
theorem dX6_trades_11 : decode cX6_trades 11 = .ok (.iaload, 1) := by decide +kernel
theorem dX6_trades_12 : decode cX6_trades 12 = .ok (.if_icmp .ge 81, 3) := by decide +kernel
theorem dX6_trades_15 : decode cX6_trades 15 = .ok (.iload_n 2, 1) := by decide +kernel
theorem dX6_trades_16 : decode cX6_trades 16 = .ok (.iconst 1, 1) := by decide +kernel
theorem dX6_trades_17 : decode cX6_trades 17 = .ok (.iadd, 1) := by decide +kernel
theorem dX6_trades_18 : decode cX6_trades 18 = .ok (.istore_n 3, 1) := by decide +kernel
theorem dX6_trades_19 : decode cX6_trades 19 = .ok (.iload_n 3, 1) := by decide +kernel
theorem dX6_trades_20 : decode cX6_trades 20 = .ok (.aload_n 0, 1) := by decide +kernel
theorem dX6_trades_21 : decode cX6_trades 21 = .ok (.getfield 13, 3) := by decide +kernel
theorem dX6_trades_24 : decode cX6_trades 24 = .ok (.iconst 0, 1) := by decide +kernel
theorem dX6_trades_25 : decode cX6_trades 25 = .ok (.iaload, 1) := by decide +kernel
theorem dX6_trades_26 : decode cX6_trades 26 = .ok (.if_icmp .ge 61, 3) := by decide +kernel
theorem dX6_trades_29 : decode cX6_trades 29 = .ok (.iload_n 1, 1) := by decide +kernel
theorem dX6_trades_30 : decode cX6_trades 30 = .ok (.bipush (-4), 2) := by decide +kernel
theorem dX6_trades_32 : decode cX6_trades 32 = .ok (.if_icmp .ne 49, 3) := by decide +kernel
theorem dX6_trades_35 : decode cX6_trades 35 = .ok (.aload_n 0, 1) := by decide +kernel
theorem dX6_trades_36 : decode cX6_trades 36 = .ok (.aload_n 0, 1) := by decide +kernel
theorem dX6_trades_37 : decode cX6_trades 37 = .ok (.invokevirtual 104, 3) := by decide +kernel
theorem dX6_trades_40 : decode cX6_trades 40 = .ok (.invokevirtual 133, 3) := by decide +kernel
theorem dX6_trades_43 : decode cX6_trades 43 = .ok (.ifCond .ne 38, 3) := by decide +kernel
theorem dX6_trades_46 : decode cX6_trades 46 = .ok (.aload_n 0, 1) := by decide +kernel
theorem dX6_trades_47 : decode cX6_trades 47 = .ok (.iload_n 2, 1) := by decide +kernel
theorem dX6_trades_48 : decode cX6_trades 48 = .ok (.iload_n 3, 1) := by decide +kernel
theorem dX6_trades_49 : decode cX6_trades 49 = .ok (.invokevirtual 114, 3) := by decide +kernel
theorem dX6_trades_52 : decode cX6_trades 52 = .ok (.aload_n 0, 1) := by decide +kernel
theorem dX6_trades_53 : decode cX6_trades 53 = .ok (.aload_n 0, 1) := by decide +kernel
theorem dX6_trades_54 : decode cX6_trades 54 = .ok (.invokevirtual 104, 3) := by decide +kernel
theorem dX6_trades_57 : decode cX6_trades 57 = .ok (.invokevirtual 133, 3) := by decide +kernel
theorem dX6_trades_60 : decode cX6_trades 60 = .ok (.ifCond .eq 12, 3) := by decide +kernel
theorem dX6_trades_63 : decode cX6_trades 63 = .ok (.bipush 10, 2) := by decide +kernel
theorem dX6_trades_65 : decode cX6_trades 65 = .ok (.iload_n 2, 1) := by decide +kernel
theorem dX6_trades_66 : decode cX6_trades 66 = .ok (.imul, 1) := by decide +kernel
theorem dX6_trades_67 : decode cX6_trades 67 = .ok (.iload_n 3, 1) := by decide +kernel
theorem dX6_trades_68 : decode cX6_trades 68 = .ok (.iadd, 1) := by decide +kernel
theorem dX6_trades_69 : decode cX6_trades 69 = .ok (.goto 5, 3) := by decide +kernel
theorem dX6_trades_72 : decode cX6_trades 72 = .ok (.bipush (-4), 2) := by decide +kernel
theorem dX6_trades_74 : decode cX6_trades 74 = .ok (.istore_n 1, 1) := by decide +kernel
theorem dX6_trades_75 : decode cX6_trades 75 = .ok (.aload_n 0, 1) := by decide +kernel
theorem dX6_trades_76 : decode cX6_trades 76 = .ok (.iload_n 2, 1) := by decide +kernel
theorem dX6_trades_77 : decode cX6_trades 77 = .ok (.iload_n 3, 1) := by decide +kernel
theorem dX6_trades_78 : decode cX6_trades 78 = .ok (.invokevirtual 114, 3) := by decide +kernel
theorem dX6_trades_81 : decode cX6_trades 81 = .ok (.iinc 3 1, 3) := by decide +kernel
theorem dX6_trades_84 : decode cX6_trades 84 = .ok (.goto (-65), 3) := by decide +kernel
theorem dX6_trades_87 : decode cX6_trades 87 = .ok (.iinc 2 1, 3) := by decide +kernel
theorem dX6_trades_90 : decode cX6_trades 90 = .ok (.goto (-85), 3) := by decide +kernel
theorem dX6_trades_93 : decode cX6_trades 93 = .ok (.iload_n 1, 1) := by decide +kernel
theorem dX6_trades_94 : decode cX6_trades 94 = .ok (.ireturn, 1) := by decide +kernel
theorem dX6_orders_0 : decode cX6_orders 0 = .ok (.iconst 1, 1) := by decide +kernel
theorem dX6_orders_1 : decode cX6_orders 1 = .ok (.istore_n 1, 1) := by decide +kernel
theorem dX6_orders_2 : decode cX6_orders 2 = .ok (.iconst 2, 1) := by decide +kernel
theorem dX6_orders_3 : decode cX6_orders 3 = .ok (.istore_n 2, 1) := by decide +kernel
theorem dX6_orders_4 : decode cX6_orders 4 = .ok (.iload_n 2, 1) := by decide +kernel
theorem dX6_orders_5 : decode cX6_orders 5 = .ok (.iload_n 0, 1) := by decide +kernel
theorem dX6_orders_6 : decode cX6_orders 6 = .ok (.if_icmp .gt 13, 3) := by decide +kernel
theorem dX6_orders_9 : decode cX6_orders 9 = .ok (.iload_n 1, 1) := by decide +kernel
theorem dX6_orders_10 : decode cX6_orders 10 = .ok (.iload_n 2, 1) := by decide +kernel
theorem dX6_orders_11 : decode cX6_orders 11 = .ok (.imul, 1) := by decide +kernel
theorem dX6_orders_12 : decode cX6_orders 12 = .ok (.istore_n 1, 1) := by decide +kernel
theorem dX6_orders_13 : decode cX6_orders 13 = .ok (.iinc 2 1, 3) := by decide +kernel
theorem dX6_orders_16 : decode cX6_orders 16 = .ok (.goto (-12), 3) := by decide +kernel
theorem dX6_orders_19 : decode cX6_orders 19 = .ok (.iload_n 1, 1) := by decide +kernel
theorem dX6_orders_20 : decode cX6_orders 20 = .ok (.ireturn, 1) := by decide +kernel
theorem dX6_partOf_0 : decode cX6_partOf 0 = .ok (.iload_n 0, 1) := by decide +kernel
theorem dX6_partOf_1 : decode cX6_partOf 1 = .ok (.istore_n 3, 1) := by decide +kernel
theorem dX6_partOf_2 : decode cX6_partOf 2 = .ok (.iload_n 1, 1) := by decide +kernel
theorem dX6_partOf_3 : decode cX6_partOf 3 = .ok (.istore 4, 2) := by decide +kernel
theorem dX6_partOf_5 : decode cX6_partOf 5 = .ok (.iload 4, 2) := by decide +kernel
theorem dX6_partOf_7 : decode cX6_partOf 7 = .ok (.ifCond .le 19, 3) := by decide +kernel
theorem dX6_partOf_10 : decode cX6_partOf 10 = .ok (.iload_n 3, 1) := by decide +kernel
theorem dX6_partOf_11 : decode cX6_partOf 11 = .ok (.iload 4, 2) := by decide +kernel
theorem dX6_partOf_13 : decode cX6_partOf 13 = .ok (.irem, 1) := by decide +kernel
theorem dX6_partOf_14 : decode cX6_partOf 14 = .ok (.istore 5, 2) := by decide +kernel
theorem dX6_partOf_16 : decode cX6_partOf 16 = .ok (.iload 4, 2) := by decide +kernel
theorem dX6_partOf_18 : decode cX6_partOf 18 = .ok (.istore_n 3, 1) := by decide +kernel
theorem dX6_partOf_19 : decode cX6_partOf 19 = .ok (.iload 5, 2) := by decide +kernel
theorem dX6_partOf_21 : decode cX6_partOf 21 = .ok (.istore 4, 2) := by decide +kernel
theorem dX6_partOf_23 : decode cX6_partOf 23 = .ok (.goto (-18), 3) := by decide +kernel
theorem dX6_partOf_26 : decode cX6_partOf 26 = .ok (.iload_n 2, 1) := by decide +kernel
theorem dX6_partOf_27 : decode cX6_partOf 27 = .ok (.ifCond .ne 9, 3) := by decide +kernel
theorem dX6_partOf_30 : decode cX6_partOf 30 = .ok (.iload_n 0, 1) := by decide +kernel
theorem dX6_partOf_31 : decode cX6_partOf 31 = .ok (.iload_n 3, 1) := by decide +kernel
theorem dX6_partOf_32 : decode cX6_partOf 32 = .ok (.idiv, 1) := by decide +kernel
theorem dX6_partOf_33 : decode cX6_partOf 33 = .ok (.goto 6, 3) := by decide +kernel
theorem dX6_partOf_36 : decode cX6_partOf 36 = .ok (.iload_n 1, 1) := by decide +kernel
theorem dX6_partOf_37 : decode cX6_partOf 37 = .ok (.iload_n 3, 1) := by decide +kernel
theorem dX6_partOf_38 : decode cX6_partOf 38 = .ok (.idiv, 1) := by decide +kernel
theorem dX6_partOf_39 : decode cX6_partOf 39 = .ok (.ireturn, 1) := by decide +kernel
theorem dX6_power_0 : decode cX6_power 0 = .ok (.aload_n 0, 1) := by decide +kernel
theorem dX6_power_1 : decode cX6_power 1 = .ok (.iload_n 1, 1) := by decide +kernel
theorem dX6_power_2 : decode cX6_power 2 = .ok (.invokevirtual 89, 3) := by decide +kernel
theorem dX6_power_5 : decode cX6_power 5 = .ok (.ifCond .eq 12, 3) := by decide +kernel
theorem dX6_power_8 : decode cX6_power 8 = .ok (.iload_n 2, 1) := by decide +kernel
theorem dX6_power_9 : decode cX6_power 9 = .ok (.iconst 0, 1) := by decide +kernel
theorem dX6_power_10 : decode cX6_power 10 = .ok (.iconst 1, 1) := by decide +kernel
theorem dX6_power_11 : decode cX6_power 11 = .ok (.invokestatic 50, 3) := by decide +kernel
theorem dX6_power_14 : decode cX6_power 14 = .ok (.ifCond .ne 5, 3) := by decide +kernel
theorem dX6_power_17 : decode cX6_power 17 = .ok (.iconst (-1), 1) := by decide +kernel
theorem dX6_power_18 : decode cX6_power 18 = .ok (.ireturn, 1) := by decide +kernel
theorem dX6_power_19 : decode cX6_power 19 = .ok (.iconst 0, 1) := by decide +kernel
theorem dX6_power_20 : decode cX6_power 20 = .ok (.istore_n 3, 1) := by decide +kernel
theorem dX6_power_21 : decode cX6_power 21 = .ok (.iconst 0, 1) := by decide +kernel
theorem dX6_power_22 : decode cX6_power 22 = .ok (.istore 4, 2) := by decide +kernel
theorem dX6_power_24 : decode cX6_power 24 = .ok (.iload 4, 2) := by decide +kernel
theorem dX6_power_26 : decode cX6_power 26 = .ok (.aload_n 0, 1) := by decide +kernel
theorem dX6_power_27 : decode cX6_power 27 = .ok (.invokevirtual 104, 3) := by decide +kernel
theorem dX6_power_30 : decode cX6_power 30 = .ok (.if_icmp .gt 69, 3) := by decide +kernel
theorem dX6_power_33 : decode cX6_power 33 = .ok (.iload 4, 2) := by decide +kernel
theorem dX6_power_35 : decode cX6_power 35 = .ok (.iload_n 1, 1) := by decide +kernel
theorem dX6_power_36 : decode cX6_power 36 = .ok (.ishr, 1) := by decide +kernel
theorem dX6_power_37 : decode cX6_power 37 = .ok (.iconst 1, 1) := by decide +kernel
theorem dX6_power_38 : decode cX6_power 38 = .ok (.iand, 1) := by decide +kernel
theorem dX6_power_39 : decode cX6_power 39 = .ok (.ifCond .ne 54, 3) := by decide +kernel
theorem dX6_power_42 : decode cX6_power 42 = .ok (.aload_n 0, 1) := by decide +kernel
theorem dX6_power_43 : decode cX6_power 43 = .ok (.iload 4, 2) := by decide +kernel
theorem dX6_power_45 : decode cX6_power 45 = .ok (.invokevirtual 133, 3) := by decide +kernel
theorem dX6_power_48 : decode cX6_power 48 = .ok (.ifCond .ne 45, 3) := by decide +kernel
theorem dX6_power_51 : decode cX6_power 51 = .ok (.aload_n 0, 1) := by decide +kernel
theorem dX6_power_52 : decode cX6_power 52 = .ok (.iload 4, 2) := by decide +kernel
theorem dX6_power_54 : decode cX6_power 54 = .ok (.iconst 1, 1) := by decide +kernel
theorem dX6_power_55 : decode cX6_power 55 = .ok (.iload_n 1, 1) := by decide +kernel
theorem dX6_power_56 : decode cX6_power 56 = .ok (.ishl, 1) := by decide +kernel
theorem dX6_power_57 : decode cX6_power 57 = .ok (.ior, 1) := by decide +kernel
theorem dX6_power_58 : decode cX6_power 58 = .ok (.invokevirtual 133, 3) := by decide +kernel
theorem dX6_power_61 : decode cX6_power 61 = .ok (.ifCond .eq 32, 3) := by decide +kernel
theorem dX6_power_64 : decode cX6_power 64 = .ok (.iload_n 3, 1) := by decide +kernel
theorem dX6_power_65 : decode cX6_power 65 = .ok (.iload 4, 2) := by decide +kernel
theorem dX6_power_67 : decode cX6_power 67 = .ok (.invokestatic 136, 3) := by decide +kernel
theorem dX6_power_70 : decode cX6_power 70 = .ok (.invokestatic 139, 3) := by decide +kernel
theorem dX6_power_73 : decode cX6_power 73 = .ok (.aload_n 0, 1) := by decide +kernel
theorem dX6_power_74 : decode cX6_power 74 = .ok (.getfield 13, 3) := by decide +kernel
theorem dX6_power_77 : decode cX6_power 77 = .ok (.iconst 0, 1) := by decide +kernel
theorem dX6_power_78 : decode cX6_power 78 = .ok (.iaload, 1) := by decide +kernel
theorem dX6_power_79 : decode cX6_power 79 = .ok (.iconst 1, 1) := by decide +kernel
theorem dX6_power_80 : decode cX6_power 80 = .ok (.isub, 1) := by decide +kernel
theorem dX6_power_81 : decode cX6_power 81 = .ok (.iload 4, 2) := by decide +kernel
theorem dX6_power_83 : decode cX6_power 83 = .ok (.invokestatic 136, 3) := by decide +kernel
theorem dX6_power_86 : decode cX6_power 86 = .ok (.isub, 1) := by decide +kernel
theorem dX6_power_87 : decode cX6_power 87 = .ok (.invokestatic 139, 3) := by decide +kernel
theorem dX6_power_90 : decode cX6_power 90 = .ok (.imul, 1) := by decide +kernel
theorem dX6_power_91 : decode cX6_power 91 = .ok (.iadd, 1) := by decide +kernel
theorem dX6_power_92 : decode cX6_power 92 = .ok (.istore_n 3, 1) := by decide +kernel
theorem dX6_power_93 : decode cX6_power 93 = .ok (.iinc 4 1, 3) := by decide +kernel
theorem dX6_power_96 : decode cX6_power 96 = .ok (.goto (-72), 3) := by decide +kernel
theorem dX6_power_99 : decode cX6_power 99 = .ok (.iload_n 3, 1) := by decide +kernel
theorem dX6_power_100 : decode cX6_power 100 = .ok (.aload_n 0, 1) := by decide +kernel
theorem dX6_power_101 : decode cX6_power 101 = .ok (.getfield 13, 3) := by decide +kernel
theorem dX6_power_104 : decode cX6_power 104 = .ok (.iconst 0, 1) := by decide +kernel
theorem dX6_power_105 : decode cX6_power 105 = .ok (.iaload, 1) := by decide +kernel
theorem dX6_power_106 : decode cX6_power 106 = .ok (.invokestatic 139, 3) := by decide +kernel
theorem dX6_power_109 : decode cX6_power 109 = .ok (.iload_n 2, 1) := by decide +kernel
theorem dX6_power_110 : decode cX6_power 110 = .ok (.invokestatic 142, 3) := by decide +kernel
theorem dX6_power_113 : decode cX6_power 113 = .ok (.ireturn, 1) := by decide +kernel
theorem dX6_seen_0 : decode cX6_seen 0 = .ok (.aload_n 0, 1) := by decide +kernel
theorem dX6_seen_1 : decode cX6_seen 1 = .ok (.iload_n 1, 1) := by decide +kernel
theorem dX6_seen_2 : decode cX6_seen 2 = .ok (.invokevirtual 89, 3) := by decide +kernel
theorem dX6_seen_5 : decode cX6_seen 5 = .ok (.ifCond .eq 13, 3) := by decide +kernel
theorem dX6_seen_8 : decode cX6_seen 8 = .ok (.iload_n 2, 1) := by decide +kernel
theorem dX6_seen_9 : decode cX6_seen 9 = .ok (.iconst 0, 1) := by decide +kernel
theorem dX6_seen_10 : decode cX6_seen 10 = .ok (.bipush 18, 2) := by decide +kernel
theorem dX6_seen_12 : decode cX6_seen 12 = .ok (.invokestatic 50, 3) := by decide +kernel
theorem dX6_seen_15 : decode cX6_seen 15 = .ok (.ifCond .ne 5, 3) := by decide +kernel
theorem dX6_seen_18 : decode cX6_seen 18 = .ok (.iconst (-1), 1) := by decide +kernel
theorem dX6_seen_19 : decode cX6_seen 19 = .ok (.ireturn, 1) := by decide +kernel
theorem dX6_seen_20 : decode cX6_seen 20 = .ok (.aload_n 0, 1) := by decide +kernel
theorem dX6_seen_21 : decode cX6_seen 21 = .ok (.getfield 86, 3) := by decide +kernel
theorem dX6_seen_24 : decode cX6_seen 24 = .ok (.bipush 6, 2) := by decide +kernel
theorem dX6_seen_26 : decode cX6_seen 26 = .ok (.if_icmp .ne 6, 3) := by decide +kernel
theorem dX6_seen_29 : decode cX6_seen 29 = .ok (.bipush (-3), 2) := by decide +kernel
theorem dX6_seen_31 : decode cX6_seen 31 = .ok (.ireturn, 1) := by decide +kernel
theorem dX6_seen_32 : decode cX6_seen 32 = .ok (.aload_n 0, 1) := by decide +kernel
theorem dX6_seen_33 : decode cX6_seen 33 = .ok (.getfield 31, 3) := by decide +kernel
theorem dX6_seen_36 : decode cX6_seen 36 = .ok (.aload_n 0, 1) := by decide +kernel
theorem dX6_seen_37 : decode cX6_seen 37 = .ok (.getfield 86, 3) := by decide +kernel
theorem dX6_seen_40 : decode cX6_seen 40 = .ok (.bipush 20, 2) := by decide +kernel
theorem dX6_seen_42 : decode cX6_seen 42 = .ok (.iload_n 1, 1) := by decide +kernel
theorem dX6_seen_43 : decode cX6_seen 43 = .ok (.imul, 1) := by decide +kernel
theorem dX6_seen_44 : decode cX6_seen 44 = .ok (.iload_n 2, 1) := by decide +kernel
theorem dX6_seen_45 : decode cX6_seen 45 = .ok (.iadd, 1) := by decide +kernel
theorem dX6_seen_46 : decode cX6_seen 46 = .ok (.iastore, 1) := by decide +kernel
theorem dX6_seen_47 : decode cX6_seen 47 = .ok (.aload_n 0, 1) := by decide +kernel
theorem dX6_seen_48 : decode cX6_seen 48 = .ok (.dup, 1) := by decide +kernel
theorem dX6_seen_49 : decode cX6_seen 49 = .ok (.getfield 86, 3) := by decide +kernel
theorem dX6_seen_52 : decode cX6_seen 52 = .ok (.iconst 1, 1) := by decide +kernel
theorem dX6_seen_53 : decode cX6_seen 53 = .ok (.iadd, 1) := by decide +kernel
theorem dX6_seen_54 : decode cX6_seen 54 = .ok (.putfield 86, 3) := by decide +kernel
theorem dX6_seen_57 : decode cX6_seen 57 = .ok (.aload_n 0, 1) := by decide +kernel
theorem dX6_seen_58 : decode cX6_seen 58 = .ok (.getfield 86, 3) := by decide +kernel
theorem dX6_seen_61 : decode cX6_seen 61 = .ok (.ireturn, 1) := by decide +kernel
theorem dX6_forget_0 : decode cX6_forget 0 = .ok (.aload_n 0, 1) := by decide +kernel
theorem dX6_forget_1 : decode cX6_forget 1 = .ok (.getfield 86, 3) := by decide +kernel
theorem dX6_forget_4 : decode cX6_forget 4 = .ok (.istore_n 1, 1) := by decide +kernel
theorem dX6_forget_5 : decode cX6_forget 5 = .ok (.aload_n 0, 1) := by decide +kernel
theorem dX6_forget_6 : decode cX6_forget 6 = .ok (.iconst 0, 1) := by decide +kernel
theorem dX6_forget_7 : decode cX6_forget 7 = .ok (.putfield 86, 3) := by decide +kernel
theorem dX6_forget_10 : decode cX6_forget 10 = .ok (.iload_n 1, 1) := by decide +kernel
theorem dX6_forget_11 : decode cX6_forget 11 = .ok (.ireturn, 1) := by decide +kernel
theorem dX6_may_0 : decode cX6_may 0 = .ok (.iload_n 1, 1) := by decide +kernel
theorem dX6_may_1 : decode cX6_may 1 = .ok (.iconst 0, 1) := by decide +kernel
theorem dX6_may_2 : decode cX6_may 2 = .ok (.iconst 1, 1) := by decide +kernel
theorem dX6_may_3 : decode cX6_may 3 = .ok (.invokestatic 50, 3) := by decide +kernel
theorem dX6_may_6 : decode cX6_may 6 = .ok (.ifCond .ne 5, 3) := by decide +kernel
theorem dX6_may_9 : decode cX6_may 9 = .ok (.iconst (-1), 1) := by decide +kernel
theorem dX6_may_10 : decode cX6_may 10 = .ok (.ireturn, 1) := by decide +kernel
theorem dX6_may_11 : decode cX6_may 11 = .ok (.aload_n 0, 1) := by decide +kernel
theorem dX6_may_12 : decode cX6_may 12 = .ok (.invokevirtual 127, 3) := by decide +kernel
theorem dX6_may_15 : decode cX6_may 15 = .ok (.iconst 0, 1) := by decide +kernel
theorem dX6_may_16 : decode cX6_may 16 = .ok (.istore_n 2, 1) := by decide +kernel
theorem dX6_may_17 : decode cX6_may 17 = .ok (.iconst 0, 1) := by decide +kernel
theorem dX6_may_18 : decode cX6_may 18 = .ok (.istore_n 3, 1) := by decide +kernel
theorem dX6_may_19 : decode cX6_may 19 = .ok (.iload_n 3, 1) := by decide +kernel
theorem dX6_may_20 : decode cX6_may 20 = .ok (.bipush 10, 2) := by decide +kernel
theorem dX6_may_22 : decode cX6_may 22 = .ok (.if_icmp .ge 133, 3) := by decide +kernel
theorem dX6_may_25 : decode cX6_may 25 = .ok (.aload_n 0, 1) := by decide +kernel
theorem dX6_may_26 : decode cX6_may 26 = .ok (.getfield 22, 3) := by decide +kernel
theorem dX6_may_29 : decode cX6_may 29 = .ok (.iload_n 1, 1) := by decide +kernel
theorem dX6_may_30 : decode cX6_may 30 = .ok (.ifCond .ne 8, 3) := by decide +kernel
theorem dX6_may_33 : decode cX6_may 33 = .ok (.bipush 30, 2) := by decide +kernel
theorem dX6_may_35 : decode cX6_may 35 = .ok (.goto 5, 3) := by decide +kernel
theorem dX6_may_38 : decode cX6_may 38 = .ok (.bipush 29, 2) := by decide +kernel
theorem dX6_may_40 : decode cX6_may 40 = .ok (.iload_n 3, 1) := by decide +kernel
theorem dX6_may_41 : decode cX6_may 41 = .ok (.iastore, 1) := by decide +kernel
theorem dX6_may_42 : decode cX6_may 42 = .ok (.aload_n 0, 1) := by decide +kernel
theorem dX6_may_43 : decode cX6_may 43 = .ok (.aload_n 0, 1) := by decide +kernel
theorem dX6_may_44 : decode cX6_may 44 = .ok (.invokevirtual 104, 3) := by decide +kernel
theorem dX6_may_47 : decode cX6_may 47 = .ok (.invokevirtual 107, 3) := by decide +kernel
theorem dX6_may_50 : decode cX6_may 50 = .ok (.pop, 1) := by decide +kernel
theorem dX6_may_51 : decode cX6_may 51 = .ok (.iconst 1, 1) := by decide +kernel
theorem dX6_may_52 : decode cX6_may 52 = .ok (.istore 4, 2) := by decide +kernel
theorem dX6_may_54 : decode cX6_may 54 = .ok (.iconst 0, 1) := by decide +kernel
theorem dX6_may_55 : decode cX6_may 55 = .ok (.istore 5, 2) := by decide +kernel
theorem dX6_may_57 : decode cX6_may 57 = .ok (.iload 5, 2) := by decide +kernel
theorem dX6_may_59 : decode cX6_may 59 = .ok (.aload_n 0, 1) := by decide +kernel
theorem dX6_may_60 : decode cX6_may 60 = .ok (.getfield 86, 3) := by decide +kernel
theorem dX6_may_63 : decode cX6_may 63 = .ok (.if_icmp .ge 67, 3) := by decide +kernel
theorem dX6_may_66 : decode cX6_may 66 = .ok (.aload_n 0, 1) := by decide +kernel
theorem dX6_may_67 : decode cX6_may 67 = .ok (.getfield 31, 3) := by decide +kernel
theorem dX6_may_70 : decode cX6_may 70 = .ok (.iload 5, 2) := by decide +kernel
theorem dX6_may_72 : decode cX6_may 72 = .ok (.iaload, 1) := by decide +kernel
theorem dX6_may_73 : decode cX6_may 73 = .ok (.bipush 20, 2) := by decide +kernel
theorem dX6_may_75 : decode cX6_may 75 = .ok (.idiv, 1) := by decide +kernel
theorem dX6_may_76 : decode cX6_may 76 = .ok (.istore 6, 2) := by decide +kernel
theorem dX6_may_78 : decode cX6_may 78 = .ok (.iload 4, 2) := by decide +kernel
theorem dX6_may_80 : decode cX6_may 80 = .ok (.ifCond .eq 41, 3) := by decide +kernel
theorem dX6_may_83 : decode cX6_may 83 = .ok (.aload_n 0, 1) := by decide +kernel
theorem dX6_may_84 : decode cX6_may 84 = .ok (.getfield 22, 3) := by decide +kernel
theorem dX6_may_87 : decode cX6_may 87 = .ok (.bipush 21, 2) := by decide +kernel
theorem dX6_may_89 : decode cX6_may 89 = .ok (.iload 6, 2) := by decide +kernel
theorem dX6_may_91 : decode cX6_may 91 = .ok (.iadd, 1) := by decide +kernel
theorem dX6_may_92 : decode cX6_may 92 = .ok (.iaload, 1) := by decide +kernel
theorem dX6_may_93 : decode cX6_may 93 = .ok (.aload_n 0, 1) := by decide +kernel
theorem dX6_may_94 : decode cX6_may 94 = .ok (.getfield 34, 3) := by decide +kernel
theorem dX6_may_97 : decode cX6_may 97 = .ok (.bipush 21, 2) := by decide +kernel
theorem dX6_may_99 : decode cX6_may 99 = .ok (.iload 6, 2) := by decide +kernel
theorem dX6_may_101 : decode cX6_may 101 = .ok (.iadd, 1) := by decide +kernel
theorem dX6_may_102 : decode cX6_may 102 = .ok (.iaload, 1) := by decide +kernel
theorem dX6_may_103 : decode cX6_may 103 = .ok (.isub, 1) := by decide +kernel
theorem dX6_may_104 : decode cX6_may 104 = .ok (.aload_n 0, 1) := by decide +kernel
theorem dX6_may_105 : decode cX6_may 105 = .ok (.getfield 31, 3) := by decide +kernel
theorem dX6_may_108 : decode cX6_may 108 = .ok (.iload 5, 2) := by decide +kernel
theorem dX6_may_110 : decode cX6_may 110 = .ok (.iaload, 1) := by decide +kernel
theorem dX6_may_111 : decode cX6_may 111 = .ok (.bipush 20, 2) := by decide +kernel
theorem dX6_may_113 : decode cX6_may 113 = .ok (.irem, 1) := by decide +kernel
theorem dX6_may_114 : decode cX6_may 114 = .ok (.if_icmp .ne 7, 3) := by decide +kernel
theorem dX6_may_117 : decode cX6_may 117 = .ok (.iconst 1, 1) := by decide +kernel
theorem dX6_may_118 : decode cX6_may 118 = .ok (.goto 4, 3) := by decide +kernel
theorem dX6_may_121 : decode cX6_may 121 = .ok (.iconst 0, 1) := by decide +kernel
theorem dX6_may_122 : decode cX6_may 122 = .ok (.istore 4, 2) := by decide +kernel
theorem dX6_may_124 : decode cX6_may 124 = .ok (.iinc 5 1, 3) := by decide +kernel
theorem dX6_may_127 : decode cX6_may 127 = .ok (.goto (-70), 3) := by decide +kernel
theorem dX6_may_130 : decode cX6_may 130 = .ok (.iload_n 2, 1) := by decide +kernel
theorem dX6_may_131 : decode cX6_may 131 = .ok (.iload 4, 2) := by decide +kernel
theorem dX6_may_133 : decode cX6_may 133 = .ok (.ifCond .eq 9, 3) := by decide +kernel
theorem dX6_may_136 : decode cX6_may 136 = .ok (.iconst 1, 1) := by decide +kernel
theorem dX6_may_137 : decode cX6_may 137 = .ok (.iload_n 3, 1) := by decide +kernel
theorem dX6_may_138 : decode cX6_may 138 = .ok (.ishl, 1) := by decide +kernel
theorem dX6_may_139 : decode cX6_may 139 = .ok (.goto 4, 3) := by decide +kernel
theorem dX6_may_142 : decode cX6_may 142 = .ok (.iconst 0, 1) := by decide +kernel
theorem dX6_may_143 : decode cX6_may 143 = .ok (.ior, 1) := by decide +kernel
theorem dX6_may_144 : decode cX6_may 144 = .ok (.istore_n 2, 1) := by decide +kernel
theorem dX6_may_145 : decode cX6_may 145 = .ok (.aload_n 0, 1) := by decide +kernel
theorem dX6_may_146 : decode cX6_may 146 = .ok (.invokevirtual 130, 3) := by decide +kernel
theorem dX6_may_149 : decode cX6_may 149 = .ok (.iinc 3 1, 3) := by decide +kernel
theorem dX6_may_152 : decode cX6_may 152 = .ok (.goto (-133), 3) := by decide +kernel
theorem dX6_may_155 : decode cX6_may 155 = .ok (.iload_n 2, 1) := by decide +kernel
theorem dX6_may_156 : decode cX6_may 156 = .ok (.ireturn, 1) := by decide +kernel
theorem dX6_likely_0 : decode cX6_likely 0 = .ok (.iload_n 1, 1) := by decide +kernel
theorem dX6_likely_1 : decode cX6_likely 1 = .ok (.iconst 0, 1) := by decide +kernel
theorem dX6_likely_2 : decode cX6_likely 2 = .ok (.bipush 10, 2) := by decide +kernel
theorem dX6_likely_4 : decode cX6_likely 4 = .ok (.invokestatic 50, 3) := by decide +kernel
theorem dX6_likely_7 : decode cX6_likely 7 = .ok (.ifCond .eq 12, 3) := by decide +kernel
theorem dX6_likely_10 : decode cX6_likely 10 = .ok (.iload_n 2, 1) := by decide +kernel
theorem dX6_likely_11 : decode cX6_likely 11 = .ok (.iconst 0, 1) := by decide +kernel
theorem dX6_likely_12 : decode cX6_likely 12 = .ok (.iconst 1, 1) := by decide +kernel
theorem dX6_likely_13 : decode cX6_likely 13 = .ok (.invokestatic 50, 3) := by decide +kernel
theorem dX6_likely_16 : decode cX6_likely 16 = .ok (.ifCond .ne 5, 3) := by decide +kernel
theorem dX6_likely_19 : decode cX6_likely 19 = .ok (.iconst (-1), 1) := by decide +kernel
theorem dX6_likely_20 : decode cX6_likely 20 = .ok (.ireturn, 1) := by decide +kernel
theorem dX6_likely_21 : decode cX6_likely 21 = .ok (.iconst 0, 1) := by decide +kernel
theorem dX6_likely_22 : decode cX6_likely 22 = .ok (.istore_n 3, 1) := by decide +kernel
theorem dX6_likely_23 : decode cX6_likely 23 = .ok (.iconst 1, 1) := by decide +kernel
theorem dX6_likely_24 : decode cX6_likely 24 = .ok (.istore 4, 2) := by decide +kernel
theorem dX6_likely_26 : decode cX6_likely 26 = .ok (.iconst 0, 1) := by decide +kernel
theorem dX6_likely_27 : decode cX6_likely 27 = .ok (.istore 5, 2) := by decide +kernel
theorem dX6_likely_29 : decode cX6_likely 29 = .ok (.iload 5, 2) := by decide +kernel
theorem dX6_likely_31 : decode cX6_likely 31 = .ok (.aload_n 0, 1) := by decide +kernel
theorem dX6_likely_32 : decode cX6_likely 32 = .ok (.getfield 13, 3) := by decide +kernel
theorem dX6_likely_35 : decode cX6_likely 35 = .ok (.iconst 0, 1) := by decide +kernel
theorem dX6_likely_36 : decode cX6_likely 36 = .ok (.iaload, 1) := by decide +kernel
theorem dX6_likely_37 : decode cX6_likely 37 = .ok (.if_icmp .ge 16, 3) := by decide +kernel
theorem dX6_likely_40 : decode cX6_likely 40 = .ok (.iload 4, 2) := by decide +kernel
theorem dX6_likely_42 : decode cX6_likely 42 = .ok (.bipush 10, 2) := by decide +kernel
theorem dX6_likely_44 : decode cX6_likely 44 = .ok (.imul, 1) := by decide +kernel
theorem dX6_likely_45 : decode cX6_likely 45 = .ok (.istore 4, 2) := by decide +kernel
theorem dX6_likely_47 : decode cX6_likely 47 = .ok (.iinc 5 1, 3) := by decide +kernel
theorem dX6_likely_50 : decode cX6_likely 50 = .ok (.goto (-21), 3) := by decide +kernel
theorem dX6_likely_53 : decode cX6_likely 53 = .ok (.iconst 0, 1) := by decide +kernel
theorem dX6_likely_54 : decode cX6_likely 54 = .ok (.istore 5, 2) := by decide +kernel
theorem dX6_likely_56 : decode cX6_likely 56 = .ok (.iload 5, 2) := by decide +kernel
theorem dX6_likely_58 : decode cX6_likely 58 = .ok (.aload_n 0, 1) := by decide +kernel
theorem dX6_likely_59 : decode cX6_likely 59 = .ok (.invokevirtual 104, 3) := by decide +kernel
theorem dX6_likely_62 : decode cX6_likely 62 = .ok (.if_icmp .gt 74, 3) := by decide +kernel
theorem dX6_likely_65 : decode cX6_likely 65 = .ok (.iconst 1, 1) := by decide +kernel
theorem dX6_likely_66 : decode cX6_likely 66 = .ok (.istore 6, 2) := by decide +kernel
theorem dX6_likely_68 : decode cX6_likely 68 = .ok (.iconst 0, 1) := by decide +kernel
theorem dX6_likely_69 : decode cX6_likely 69 = .ok (.istore 7, 2) := by decide +kernel
theorem dX6_likely_71 : decode cX6_likely 71 = .ok (.iload 7, 2) := by decide +kernel
theorem dX6_likely_73 : decode cX6_likely 73 = .ok (.aload_n 0, 1) := by decide +kernel
theorem dX6_likely_74 : decode cX6_likely 74 = .ok (.getfield 13, 3) := by decide +kernel
theorem dX6_likely_77 : decode cX6_likely 77 = .ok (.iconst 0, 1) := by decide +kernel
theorem dX6_likely_78 : decode cX6_likely 78 = .ok (.iaload, 1) := by decide +kernel
theorem dX6_likely_79 : decode cX6_likely 79 = .ok (.if_icmp .ge 33, 3) := by decide +kernel
theorem dX6_likely_82 : decode cX6_likely 82 = .ok (.iload 6, 2) := by decide +kernel
theorem dX6_likely_84 : decode cX6_likely 84 = .ok (.iload 5, 2) := by decide +kernel
theorem dX6_likely_86 : decode cX6_likely 86 = .ok (.iload 7, 2) := by decide +kernel
theorem dX6_likely_88 : decode cX6_likely 88 = .ok (.ishr, 1) := by decide +kernel
theorem dX6_likely_89 : decode cX6_likely 89 = .ok (.iconst 1, 1) := by decide +kernel
theorem dX6_likely_90 : decode cX6_likely 90 = .ok (.iand, 1) := by decide +kernel
theorem dX6_likely_91 : decode cX6_likely 91 = .ok (.iconst 1, 1) := by decide +kernel
theorem dX6_likely_92 : decode cX6_likely 92 = .ok (.if_icmp .ne 7, 3) := by decide +kernel
theorem dX6_likely_95 : decode cX6_likely 95 = .ok (.iload_n 1, 1) := by decide +kernel
theorem dX6_likely_96 : decode cX6_likely 96 = .ok (.goto 7, 3) := by decide +kernel
theorem dX6_likely_99 : decode cX6_likely 99 = .ok (.bipush 10, 2) := by decide +kernel
theorem dX6_likely_101 : decode cX6_likely 101 = .ok (.iload_n 1, 1) := by decide +kernel
theorem dX6_likely_102 : decode cX6_likely 102 = .ok (.isub, 1) := by decide +kernel
theorem dX6_likely_103 : decode cX6_likely 103 = .ok (.imul, 1) := by decide +kernel
theorem dX6_likely_104 : decode cX6_likely 104 = .ok (.istore 6, 2) := by decide +kernel
theorem dX6_likely_106 : decode cX6_likely 106 = .ok (.iinc 7 1, 3) := by decide +kernel
theorem dX6_likely_109 : decode cX6_likely 109 = .ok (.goto (-38), 3) := by decide +kernel
theorem dX6_likely_112 : decode cX6_likely 112 = .ok (.iload_n 3, 1) := by decide +kernel
theorem dX6_likely_113 : decode cX6_likely 113 = .ok (.aload_n 0, 1) := by decide +kernel
theorem dX6_likely_114 : decode cX6_likely 114 = .ok (.iload 5, 2) := by decide +kernel
theorem dX6_likely_116 : decode cX6_likely 116 = .ok (.invokevirtual 133, 3) := by decide +kernel
theorem dX6_likely_119 : decode cX6_likely 119 = .ok (.ifCond .eq 8, 3) := by decide +kernel
theorem dX6_likely_122 : decode cX6_likely 122 = .ok (.iload 6, 2) := by decide +kernel
theorem dX6_likely_124 : decode cX6_likely 124 = .ok (.goto 4, 3) := by decide +kernel
theorem dX6_likely_127 : decode cX6_likely 127 = .ok (.iconst 0, 1) := by decide +kernel
theorem dX6_likely_128 : decode cX6_likely 128 = .ok (.iadd, 1) := by decide +kernel
theorem dX6_likely_129 : decode cX6_likely 129 = .ok (.istore_n 3, 1) := by decide +kernel
theorem dX6_likely_130 : decode cX6_likely 130 = .ok (.iinc 5 1, 3) := by decide +kernel
theorem dX6_likely_133 : decode cX6_likely 133 = .ok (.goto (-77), 3) := by decide +kernel
theorem dX6_likely_136 : decode cX6_likely 136 = .ok (.iload_n 3, 1) := by decide +kernel
theorem dX6_likely_137 : decode cX6_likely 137 = .ok (.iload 4, 2) := by decide +kernel
theorem dX6_likely_139 : decode cX6_likely 139 = .ok (.iload_n 2, 1) := by decide +kernel
theorem dX6_likely_140 : decode cX6_likely 140 = .ok (.invokestatic 142, 3) := by decide +kernel
theorem dX6_likely_143 : decode cX6_likely 143 = .ok (.ireturn, 1) := by decide +kernel
theorem dX6_turn_0 : decode cX6_turn 0 = .ok (.iload_n 1, 1) := by decide +kernel
theorem dX6_turn_1 : decode cX6_turn 1 = .ok (.iconst 4, 1) := by decide +kernel
theorem dX6_turn_2 : decode cX6_turn 2 = .ok (.idiv, 1) := by decide +kernel
theorem dX6_turn_3 : decode cX6_turn 3 = .ok (.istore_n 2, 1) := by decide +kernel
theorem dX6_turn_4 : decode cX6_turn 4 = .ok (.iload_n 1, 1) := by decide +kernel
theorem dX6_turn_5 : decode cX6_turn 5 = .ok (.iconst 4, 1) := by decide +kernel
theorem dX6_turn_6 : decode cX6_turn 6 = .ok (.irem, 1) := by decide +kernel
theorem dX6_turn_7 : decode cX6_turn 7 = .ok (.tableswitch 98 0 2 #[25, 37, 62], 25) := by decide +kernel
theorem dX6_turn_32 : decode cX6_turn 32 = .ok (.aload_n 0, 1) := by decide +kernel
theorem dX6_turn_33 : decode cX6_turn 33 = .ok (.aload_n 0, 1) := by decide +kernel
theorem dX6_turn_34 : decode cX6_turn 34 = .ok (.invokevirtual 104, 3) := by decide +kernel
theorem dX6_turn_37 : decode cX6_turn 37 = .ok (.invokevirtual 107, 3) := by decide +kernel
theorem dX6_turn_40 : decode cX6_turn 40 = .ok (.pop, 1) := by decide +kernel
theorem dX6_turn_41 : decode cX6_turn 41 = .ok (.goto 68, 3) := by decide +kernel
theorem dX6_turn_44 : decode cX6_turn 44 = .ok (.iload_n 2, 1) := by decide +kernel
theorem dX6_turn_45 : decode cX6_turn 45 = .ok (.bipush 60, 2) := by decide +kernel
theorem dX6_turn_47 : decode cX6_turn 47 = .ok (.irem, 1) := by decide +kernel
theorem dX6_turn_48 : decode cX6_turn 48 = .ok (.aload_n 0, 1) := by decide +kernel
theorem dX6_turn_49 : decode cX6_turn 49 = .ok (.getfield 22, 3) := by decide +kernel
theorem dX6_turn_52 : decode cX6_turn 52 = .ok (.bipush 28, 2) := by decide +kernel
theorem dX6_turn_54 : decode cX6_turn 54 = .ok (.iaload, 1) := by decide +kernel
theorem dX6_turn_55 : decode cX6_turn 55 = .ok (.if_icmp .le 54, 3) := by decide +kernel
theorem dX6_turn_58 : decode cX6_turn 58 = .ok (.aload_n 0, 1) := by decide +kernel
theorem dX6_turn_59 : decode cX6_turn 59 = .ok (.iload_n 2, 1) := by decide +kernel
theorem dX6_turn_60 : decode cX6_turn 60 = .ok (.bipush 60, 2) := by decide +kernel
theorem dX6_turn_62 : decode cX6_turn 62 = .ok (.irem, 1) := by decide +kernel
theorem dX6_turn_63 : decode cX6_turn 63 = .ok (.invokevirtual 110, 3) := by decide +kernel
theorem dX6_turn_66 : decode cX6_turn 66 = .ok (.goto 43, 3) := by decide +kernel
theorem dX6_turn_69 : decode cX6_turn 69 = .ok (.aload_n 0, 1) := by decide +kernel
theorem dX6_turn_70 : decode cX6_turn 70 = .ok (.getfield 22, 3) := by decide +kernel
theorem dX6_turn_73 : decode cX6_turn 73 = .ok (.bipush 30, 2) := by decide +kernel
theorem dX6_turn_75 : decode cX6_turn 75 = .ok (.dup2, 1) := by decide +kernel
theorem dX6_turn_76 : decode cX6_turn 76 = .ok (.iaload, 1) := by decide +kernel
theorem dX6_turn_77 : decode cX6_turn 77 = .ok (.aload_n 0, 1) := by decide +kernel
theorem dX6_turn_78 : decode cX6_turn 78 = .ok (.getfield 22, 3) := by decide +kernel
theorem dX6_turn_81 : decode cX6_turn 81 = .ok (.bipush 30, 2) := by decide +kernel
theorem dX6_turn_83 : decode cX6_turn 83 = .ok (.iaload, 1) := by decide +kernel
theorem dX6_turn_84 : decode cX6_turn 84 = .ok (.bipush 9, 2) := by decide +kernel
theorem dX6_turn_86 : decode cX6_turn 86 = .ok (.if_icmp .ge 13, 3) := by decide +kernel
theorem dX6_turn_89 : decode cX6_turn 89 = .ok (.iload_n 2, 1) := by decide +kernel
theorem dX6_turn_90 : decode cX6_turn 90 = .ok (.iconst 3, 1) := by decide +kernel
theorem dX6_turn_91 : decode cX6_turn 91 = .ok (.irem, 1) := by decide +kernel
theorem dX6_turn_92 : decode cX6_turn 92 = .ok (.ifCond .ne 7, 3) := by decide +kernel
theorem dX6_turn_95 : decode cX6_turn 95 = .ok (.iconst 1, 1) := by decide +kernel
theorem dX6_turn_96 : decode cX6_turn 96 = .ok (.goto 4, 3) := by decide +kernel
theorem dX6_turn_99 : decode cX6_turn 99 = .ok (.iconst 0, 1) := by decide +kernel
theorem dX6_turn_100 : decode cX6_turn 100 = .ok (.iadd, 1) := by decide +kernel
theorem dX6_turn_101 : decode cX6_turn 101 = .ok (.iastore, 1) := by decide +kernel
theorem dX6_turn_102 : decode cX6_turn 102 = .ok (.goto 7, 3) := by decide +kernel
theorem dX6_turn_105 : decode cX6_turn 105 = .ok (.aload_n 0, 1) := by decide +kernel
theorem dX6_turn_106 : decode cX6_turn 106 = .ok (.invokevirtual 118, 3) := by decide +kernel
theorem dX6_turn_109 : decode cX6_turn 109 = .ok (.return_, 1) := by decide +kernel
theorem dX6_century_0 : decode cX6_century 0 = .ok (.iload_n 1, 1) := by decide +kernel
theorem dX6_century_1 : decode cX6_century 1 = .ok (.iconst 0, 1) := by decide +kernel
theorem dX6_century_2 : decode cX6_century 2 = .ok (.sipush 9999, 3) := by decide +kernel
theorem dX6_century_5 : decode cX6_century 5 = .ok (.invokestatic 50, 3) := by decide +kernel
theorem dX6_century_8 : decode cX6_century 8 = .ok (.ifCond .eq 22, 3) := by decide +kernel
theorem dX6_century_11 : decode cX6_century 11 = .ok (.iload_n 2, 1) := by decide +kernel
theorem dX6_century_12 : decode cX6_century 12 = .ok (.iconst 1, 1) := by decide +kernel
theorem dX6_century_13 : decode cX6_century 13 = .ok (.bipush 40, 2) := by decide +kernel
theorem dX6_century_15 : decode cX6_century 15 = .ok (.invokestatic 50, 3) := by decide +kernel
theorem dX6_century_18 : decode cX6_century 18 = .ok (.ifCond .eq 12, 3) := by decide +kernel
theorem dX6_century_21 : decode cX6_century 21 = .ok (.iload_n 3, 1) := by decide +kernel
theorem dX6_century_22 : decode cX6_century 22 = .ok (.iconst 0, 1) := by decide +kernel
theorem dX6_century_23 : decode cX6_century 23 = .ok (.iconst 1, 1) := by decide +kernel
theorem dX6_century_24 : decode cX6_century 24 = .ok (.invokestatic 50, 3) := by decide +kernel
theorem dX6_century_27 : decode cX6_century 27 = .ok (.ifCond .ne 5, 3) := by decide +kernel
theorem dX6_century_30 : decode cX6_century 30 = .ok (.iconst (-1), 1) := by decide +kernel
theorem dX6_century_31 : decode cX6_century 31 = .ok (.ireturn, 1) := by decide +kernel
theorem dX6_century_32 : decode cX6_century 32 = .ok (.aload_n 0, 1) := by decide +kernel
theorem dX6_century_33 : decode cX6_century 33 = .ok (.invokevirtual 127, 3) := by decide +kernel
theorem dX6_century_36 : decode cX6_century 36 = .ok (.iconst 0, 1) := by decide +kernel
theorem dX6_century_37 : decode cX6_century 37 = .ok (.istore 4, 2) := by decide +kernel
theorem dX6_century_39 : decode cX6_century 39 = .ok (.iload 4, 2) := by decide +kernel
theorem dX6_century_41 : decode cX6_century 41 = .ok (.iload_n 2, 1) := by decide +kernel
theorem dX6_century_42 : decode cX6_century 42 = .ok (.if_icmp .ge 44, 3) := by decide +kernel
theorem dX6_century_45 : decode cX6_century 45 = .ok (.ldc2_w 145, 3) := by decide +kernel
theorem dX6_century_48 : decode cX6_century 48 = .ok (.iload_n 1, 1) := by decide +kernel
theorem dX6_century_49 : decode cX6_century 49 = .ok (.i2l, 1) := by decide +kernel
theorem dX6_century_50 : decode cX6_century 50 = .ok (.lmul, 1) := by decide +kernel
theorem dX6_century_51 : decode cX6_century 51 = .ok (.ldc2_w 147, 3) := by decide +kernel
theorem dX6_century_54 : decode cX6_century 54 = .ok (.iload 4, 2) := by decide +kernel
theorem dX6_century_56 : decode cX6_century 56 = .ok (.i2l, 1) := by decide +kernel
theorem dX6_century_57 : decode cX6_century 57 = .ok (.lmul, 1) := by decide +kernel
theorem dX6_century_58 : decode cX6_century 58 = .ok (.ladd, 1) := by decide +kernel
theorem dX6_century_59 : decode cX6_century 59 = .ok (.lconst 1, 1) := by decide +kernel
theorem dX6_century_60 : decode cX6_century 60 = .ok (.ladd, 1) := by decide +kernel
theorem dX6_century_61 : decode cX6_century 61 = .ok (.lstore 5, 2) := by decide +kernel
theorem dX6_century_63 : decode cX6_century 63 = .ok (.aload_n 0, 1) := by decide +kernel
theorem dX6_century_64 : decode cX6_century 64 = .ok (.lload 5, 2) := by decide +kernel
theorem dX6_century_66 : decode cX6_century 66 = .ok (.lload 5, 2) := by decide +kernel
theorem dX6_century_68 : decode cX6_century 68 = .ok (.lmul, 1) := by decide +kernel
theorem dX6_century_69 : decode cX6_century 69 = .ok (.ldc2_w 149, 3) := by decide +kernel
theorem dX6_century_72 : decode cX6_century 72 = .ok (.lrem, 1) := by decide +kernel
theorem dX6_century_73 : decode cX6_century 73 = .ok (.l2i, 1) := by decide +kernel
theorem dX6_century_74 : decode cX6_century 74 = .ok (.bipush 8, 2) := by decide +kernel
theorem dX6_century_76 : decode cX6_century 76 = .ok (.idiv, 1) := by decide +kernel
theorem dX6_century_77 : decode cX6_century 77 = .ok (.invokevirtual 151, 3) := by decide +kernel
theorem dX6_century_80 : decode cX6_century 80 = .ok (.iinc 4 1, 3) := by decide +kernel
theorem dX6_century_83 : decode cX6_century 83 = .ok (.goto (-44), 3) := by decide +kernel
theorem dX6_century_86 : decode cX6_century 86 = .ok (.iload_n 3, 1) := by decide +kernel
theorem dX6_century_87 : decode cX6_century 87 = .ok (.ifCond .ne 13, 3) := by decide +kernel
theorem dX6_century_90 : decode cX6_century 90 = .ok (.aload_n 0, 1) := by decide +kernel
theorem dX6_century_91 : decode cX6_century 91 = .ok (.getfield 22, 3) := by decide +kernel
theorem dX6_century_94 : decode cX6_century 94 = .ok (.bipush 28, 2) := by decide +kernel
theorem dX6_century_96 : decode cX6_century 96 = .ok (.iaload, 1) := by decide +kernel
theorem dX6_century_97 : decode cX6_century 97 = .ok (.goto 9, 3) := by decide +kernel
theorem dX6_century_100 : decode cX6_century 100 = .ok (.aload_n 0, 1) := by decide +kernel
theorem dX6_century_101 : decode cX6_century 101 = .ok (.bipush 21, 2) := by decide +kernel
theorem dX6_century_103 : decode cX6_century 103 = .ok (.invokevirtual 121, 3) := by decide +kernel
theorem dX6_century_106 : decode cX6_century 106 = .ok (.istore 4, 2) := by decide +kernel
theorem dX6_century_108 : decode cX6_century 108 = .ok (.aload_n 0, 1) := by decide +kernel
theorem dX6_century_109 : decode cX6_century 109 = .ok (.invokevirtual 130, 3) := by decide +kernel
theorem dX6_century_112 : decode cX6_century 112 = .ok (.iload 4, 2) := by decide +kernel
theorem dX6_century_114 : decode cX6_century 114 = .ok (.ireturn, 1) := by decide +kernel
theorem dX6_keep_0 : decode cX6_keep 0 = .ok (.aload_n 0, 1) := by decide +kernel
theorem dX6_keep_1 : decode cX6_keep 1 = .ok (.getfield 83, 3) := by decide +kernel
theorem dX6_keep_4 : decode cX6_keep 4 = .ok (.iconst 2, 1) := by decide +kernel
theorem dX6_keep_5 : decode cX6_keep 5 = .ok (.if_icmp .ne 6, 3) := by decide +kernel
theorem dX6_keep_8 : decode cX6_keep 8 = .ok (.bipush (-3), 2) := by decide +kernel
theorem dX6_keep_10 : decode cX6_keep 10 = .ok (.ireturn, 1) := by decide +kernel
theorem dX6_keep_11 : decode cX6_keep 11 = .ok (.iconst 0, 1) := by decide +kernel
theorem dX6_keep_12 : decode cX6_keep 12 = .ok (.istore_n 1, 1) := by decide +kernel
theorem dX6_keep_13 : decode cX6_keep 13 = .ok (.iload_n 1, 1) := by decide +kernel
theorem dX6_keep_14 : decode cX6_keep 14 = .ok (.bipush 31, 2) := by decide +kernel
theorem dX6_keep_16 : decode cX6_keep 16 = .ok (.if_icmp .ge 29, 3) := by decide +kernel
theorem dX6_keep_19 : decode cX6_keep 19 = .ok (.aload_n 0, 1) := by decide +kernel
theorem dX6_keep_20 : decode cX6_keep 20 = .ok (.getfield 28, 3) := by decide +kernel
theorem dX6_keep_23 : decode cX6_keep 23 = .ok (.bipush 31, 2) := by decide +kernel
theorem dX6_keep_25 : decode cX6_keep 25 = .ok (.aload_n 0, 1) := by decide +kernel
theorem dX6_keep_26 : decode cX6_keep 26 = .ok (.getfield 83, 3) := by decide +kernel
theorem dX6_keep_29 : decode cX6_keep 29 = .ok (.imul, 1) := by decide +kernel
theorem dX6_keep_30 : decode cX6_keep 30 = .ok (.iload_n 1, 1) := by decide +kernel
theorem dX6_keep_31 : decode cX6_keep 31 = .ok (.iadd, 1) := by decide +kernel
theorem dX6_keep_32 : decode cX6_keep 32 = .ok (.aload_n 0, 1) := by decide +kernel
theorem dX6_keep_33 : decode cX6_keep 33 = .ok (.getfield 22, 3) := by decide +kernel
theorem dX6_keep_36 : decode cX6_keep 36 = .ok (.iload_n 1, 1) := by decide +kernel
theorem dX6_keep_37 : decode cX6_keep 37 = .ok (.iaload, 1) := by decide +kernel
theorem dX6_keep_38 : decode cX6_keep 38 = .ok (.iastore, 1) := by decide +kernel
theorem dX6_keep_39 : decode cX6_keep 39 = .ok (.iinc 1 1, 3) := by decide +kernel
theorem dX6_keep_42 : decode cX6_keep 42 = .ok (.goto (-29), 3) := by decide +kernel
theorem dX6_keep_45 : decode cX6_keep 45 = .ok (.aload_n 0, 1) := by decide +kernel
theorem dX6_keep_46 : decode cX6_keep 46 = .ok (.dup, 1) := by decide +kernel
theorem dX6_keep_47 : decode cX6_keep 47 = .ok (.getfield 83, 3) := by decide +kernel
theorem dX6_keep_50 : decode cX6_keep 50 = .ok (.iconst 1, 1) := by decide +kernel
theorem dX6_keep_51 : decode cX6_keep 51 = .ok (.iadd, 1) := by decide +kernel
theorem dX6_keep_52 : decode cX6_keep 52 = .ok (.putfield 83, 3) := by decide +kernel
theorem dX6_keep_55 : decode cX6_keep 55 = .ok (.aload_n 0, 1) := by decide +kernel
theorem dX6_keep_56 : decode cX6_keep 56 = .ok (.getfield 83, 3) := by decide +kernel
theorem dX6_keep_59 : decode cX6_keep 59 = .ok (.ireturn, 1) := by decide +kernel
theorem dX6_back_0 : decode cX6_back 0 = .ok (.aload_n 0, 1) := by decide +kernel
theorem dX6_back_1 : decode cX6_back 1 = .ok (.getfield 83, 3) := by decide +kernel
theorem dX6_back_4 : decode cX6_back 4 = .ok (.ifCond .ne 6, 3) := by decide +kernel
theorem dX6_back_7 : decode cX6_back 7 = .ok (.bipush (-2), 2) := by decide +kernel
theorem dX6_back_9 : decode cX6_back 9 = .ok (.ireturn, 1) := by decide +kernel
theorem dX6_back_10 : decode cX6_back 10 = .ok (.aload_n 0, 1) := by decide +kernel
theorem dX6_back_11 : decode cX6_back 11 = .ok (.dup, 1) := by decide +kernel
theorem dX6_back_12 : decode cX6_back 12 = .ok (.getfield 83, 3) := by decide +kernel
theorem dX6_back_15 : decode cX6_back 15 = .ok (.iconst 1, 1) := by decide +kernel
theorem dX6_back_16 : decode cX6_back 16 = .ok (.isub, 1) := by decide +kernel
theorem dX6_back_17 : decode cX6_back 17 = .ok (.putfield 83, 3) := by decide +kernel
theorem dX6_back_20 : decode cX6_back 20 = .ok (.iconst 0, 1) := by decide +kernel
theorem dX6_back_21 : decode cX6_back 21 = .ok (.istore_n 1, 1) := by decide +kernel
theorem dX6_back_22 : decode cX6_back 22 = .ok (.iload_n 1, 1) := by decide +kernel
theorem dX6_back_23 : decode cX6_back 23 = .ok (.bipush 31, 2) := by decide +kernel
theorem dX6_back_25 : decode cX6_back 25 = .ok (.if_icmp .ge 29, 3) := by decide +kernel
theorem dX6_back_28 : decode cX6_back 28 = .ok (.aload_n 0, 1) := by decide +kernel
theorem dX6_back_29 : decode cX6_back 29 = .ok (.getfield 22, 3) := by decide +kernel
theorem dX6_back_32 : decode cX6_back 32 = .ok (.iload_n 1, 1) := by decide +kernel
theorem dX6_back_33 : decode cX6_back 33 = .ok (.aload_n 0, 1) := by decide +kernel
theorem dX6_back_34 : decode cX6_back 34 = .ok (.getfield 28, 3) := by decide +kernel
theorem dX6_back_37 : decode cX6_back 37 = .ok (.bipush 31, 2) := by decide +kernel
theorem dX6_back_39 : decode cX6_back 39 = .ok (.aload_n 0, 1) := by decide +kernel
theorem dX6_back_40 : decode cX6_back 40 = .ok (.getfield 83, 3) := by decide +kernel
theorem dX6_back_43 : decode cX6_back 43 = .ok (.imul, 1) := by decide +kernel
theorem dX6_back_44 : decode cX6_back 44 = .ok (.iload_n 1, 1) := by decide +kernel
theorem dX6_back_45 : decode cX6_back 45 = .ok (.iadd, 1) := by decide +kernel
theorem dX6_back_46 : decode cX6_back 46 = .ok (.iaload, 1) := by decide +kernel
theorem dX6_back_47 : decode cX6_back 47 = .ok (.iastore, 1) := by decide +kernel
theorem dX6_back_48 : decode cX6_back 48 = .ok (.iinc 1 1, 3) := by decide +kernel
theorem dX6_back_51 : decode cX6_back 51 = .ok (.goto (-29), 3) := by decide +kernel
theorem dX6_back_54 : decode cX6_back 54 = .ok (.aload_n 0, 1) := by decide +kernel
theorem dX6_back_55 : decode cX6_back 55 = .ok (.iconst 0, 1) := by decide +kernel
theorem dX6_back_56 : decode cX6_back 56 = .ok (.putfield 80, 3) := by decide +kernel
theorem dX6_back_59 : decode cX6_back 59 = .ok (.aload_n 0, 1) := by decide +kernel
theorem dX6_back_60 : decode cX6_back 60 = .ok (.getfield 83, 3) := by decide +kernel
theorem dX6_back_63 : decode cX6_back 63 = .ok (.ireturn, 1) := by decide +kernel
theorem dX6_count_0 : decode cX6_count 0 = .ok (.iload_n 1, 1) := by decide +kernel
theorem dX6_count_1 : decode cX6_count 1 = .ok (.tableswitch 131 0 10 #[59, 66, 74, 82, 90, 97, 104, 111, 116, 121, 126], 59) := by decide +kernel
theorem dX6_count_60 : decode cX6_count 60 = .ok (.aload_n 0, 1) := by decide +kernel
theorem dX6_count_61 : decode cX6_count 61 = .ok (.getfield 13, 3) := by decide +kernel
theorem dX6_count_64 : decode cX6_count 64 = .ok (.iconst 0, 1) := by decide +kernel
theorem dX6_count_65 : decode cX6_count 65 = .ok (.iaload, 1) := by decide +kernel
theorem dX6_count_66 : decode cX6_count 66 = .ok (.ireturn, 1) := by decide +kernel
theorem dX6_count_67 : decode cX6_count 67 = .ok (.aload_n 0, 1) := by decide +kernel
theorem dX6_count_68 : decode cX6_count 68 = .ok (.getfield 22, 3) := by decide +kernel
theorem dX6_count_71 : decode cX6_count 71 = .ok (.bipush 28, 2) := by decide +kernel
theorem dX6_count_73 : decode cX6_count 73 = .ok (.iaload, 1) := by decide +kernel
theorem dX6_count_74 : decode cX6_count 74 = .ok (.ireturn, 1) := by decide +kernel
theorem dX6_count_75 : decode cX6_count 75 = .ok (.aload_n 0, 1) := by decide +kernel
theorem dX6_count_76 : decode cX6_count 76 = .ok (.getfield 22, 3) := by decide +kernel
theorem dX6_count_79 : decode cX6_count 79 = .ok (.bipush 29, 2) := by decide +kernel
theorem dX6_count_81 : decode cX6_count 81 = .ok (.iaload, 1) := by decide +kernel
theorem dX6_count_82 : decode cX6_count 82 = .ok (.ireturn, 1) := by decide +kernel
theorem dX6_count_83 : decode cX6_count 83 = .ok (.aload_n 0, 1) := by decide +kernel
theorem dX6_count_84 : decode cX6_count 84 = .ok (.getfield 22, 3) := by decide +kernel
theorem dX6_count_87 : decode cX6_count 87 = .ok (.bipush 30, 2) := by decide +kernel
theorem dX6_count_89 : decode cX6_count 89 = .ok (.iaload, 1) := by decide +kernel
theorem dX6_count_90 : decode cX6_count 90 = .ok (.ireturn, 1) := by decide +kernel
theorem dX6_count_91 : decode cX6_count 91 = .ok (.aload_n 0, 1) := by decide +kernel
theorem dX6_count_92 : decode cX6_count 92 = .ok (.getfield 13, 3) := by decide +kernel
theorem dX6_count_95 : decode cX6_count 95 = .ok (.iconst 1, 1) := by decide +kernel
theorem dX6_count_96 : decode cX6_count 96 = .ok (.iaload, 1) := by decide +kernel
theorem dX6_count_97 : decode cX6_count 97 = .ok (.ireturn, 1) := by decide +kernel
theorem dX6_count_98 : decode cX6_count 98 = .ok (.aload_n 0, 1) := by decide +kernel
theorem dX6_count_99 : decode cX6_count 99 = .ok (.bipush 14, 2) := by decide +kernel
theorem dX6_count_101 : decode cX6_count 101 = .ok (.invokevirtual 121, 3) := by decide +kernel
theorem dX6_count_104 : decode cX6_count 104 = .ok (.ireturn, 1) := by decide +kernel
theorem dX6_count_105 : decode cX6_count 105 = .ok (.aload_n 0, 1) := by decide +kernel
theorem dX6_count_106 : decode cX6_count 106 = .ok (.bipush 21, 2) := by decide +kernel
theorem dX6_count_108 : decode cX6_count 108 = .ok (.invokevirtual 121, 3) := by decide +kernel
theorem dX6_count_111 : decode cX6_count 111 = .ok (.ireturn, 1) := by decide +kernel
theorem dX6_count_112 : decode cX6_count 112 = .ok (.aload_n 0, 1) := by decide +kernel
theorem dX6_count_113 : decode cX6_count 113 = .ok (.getfield 86, 3) := by decide +kernel
theorem dX6_count_116 : decode cX6_count 116 = .ok (.ireturn, 1) := by decide +kernel
theorem dX6_count_117 : decode cX6_count 117 = .ok (.aload_n 0, 1) := by decide +kernel
theorem dX6_count_118 : decode cX6_count 118 = .ok (.getfield 80, 3) := by decide +kernel
theorem dX6_count_121 : decode cX6_count 121 = .ok (.ireturn, 1) := by decide +kernel
theorem dX6_count_122 : decode cX6_count 122 = .ok (.aload_n 0, 1) := by decide +kernel
theorem dX6_count_123 : decode cX6_count 123 = .ok (.getfield 83, 3) := by decide +kernel
theorem dX6_count_126 : decode cX6_count 126 = .ok (.ireturn, 1) := by decide +kernel
theorem dX6_count_127 : decode cX6_count 127 = .ok (.aload_n 0, 1) := by decide +kernel
theorem dX6_count_128 : decode cX6_count 128 = .ok (.getfield 54, 3) := by decide +kernel
theorem dX6_count_131 : decode cX6_count 131 = .ok (.ireturn, 1) := by decide +kernel
theorem dX6_count_132 : decode cX6_count 132 = .ok (.iconst (-1), 1) := by decide +kernel
theorem dX6_count_133 : decode cX6_count 133 = .ok (.ireturn, 1) := by decide +kernel
