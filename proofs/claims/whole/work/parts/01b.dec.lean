theorem dX3_init_0 : decode cX3_init 0 = .ok (.aload_n 0, 1) := by decide +kernel
theorem dX3_init_1 : decode cX3_init 1 = .ok (.invokespecial 3, 3) := by decide +kernel
theorem dX3_init_4 : decode cX3_init 4 = .ok (.aload_n 0, 1) := by decide +kernel
theorem dX3_init_5 : decode cX3_init 5 = .ok (.bipush 7, 2) := by decide +kernel
theorem dX3_init_7 : decode cX3_init 7 = .ok (.newarray .int, 2) := by decide +kernel
theorem dX3_init_9 : decode cX3_init 9 = .ok (.putfield 9, 3) := by decide +kernel
theorem dX3_init_12 : decode cX3_init 12 = .ok (.aload_n 0, 1) := by decide +kernel
theorem dX3_init_13 : decode cX3_init 13 = .ok (.bipush 7, 2) := by decide +kernel
theorem dX3_init_15 : decode cX3_init 15 = .ok (.newarray .int, 2) := by decide +kernel
theorem dX3_init_17 : decode cX3_init 17 = .ok (.putfield 15, 3) := by decide +kernel
theorem dX3_init_20 : decode cX3_init 20 = .ok (.aload_n 0, 1) := by decide +kernel
theorem dX3_init_21 : decode cX3_init 21 = .ok (.bipush 7, 2) := by decide +kernel
theorem dX3_init_23 : decode cX3_init 23 = .ok (.newarray .int, 2) := by decide +kernel
theorem dX3_init_25 : decode cX3_init 25 = .ok (.putfield 18, 3) := by decide +kernel
theorem dX3_init_28 : decode cX3_init 28 = .ok (.aload_n 0, 1) := by decide +kernel
theorem dX3_init_29 : decode cX3_init 29 = .ok (.bipush 7, 2) := by decide +kernel
theorem dX3_init_31 : decode cX3_init 31 = .ok (.newarray .int, 2) := by decide +kernel
theorem dX3_init_33 : decode cX3_init 33 = .ok (.putfield 21, 3) := by decide +kernel
theorem dX3_init_36 : decode cX3_init 36 = .ok (.aload_n 0, 1) := by decide +kernel
theorem dX3_init_37 : decode cX3_init 37 = .ok (.bipush 7, 2) := by decide +kernel
theorem dX3_init_39 : decode cX3_init 39 = .ok (.newarray .int, 2) := by decide +kernel
theorem dX3_init_41 : decode cX3_init 41 = .ok (.putfield 24, 3) := by decide +kernel
theorem dX3_init_44 : decode cX3_init 44 = .ok (.return_, 1) := by decide +kernel
theorem dX3_clear_0 : decode cX3_clear 0 = .ok (.aload_n 0, 1) := by decide +kernel
theorem dX3_clear_1 : decode cX3_clear 1 = .ok (.iconst 0, 1) := by decide +kernel
theorem dX3_clear_2 : decode cX3_clear 2 = .ok (.putfield 27, 3) := by decide +kernel
theorem dX3_clear_5 : decode cX3_clear 5 = .ok (.aload_n 0, 1) := by decide +kernel
theorem dX3_clear_6 : decode cX3_clear 6 = .ok (.bipush 30, 2) := by decide +kernel
theorem dX3_clear_8 : decode cX3_clear 8 = .ok (.putfield 31, 3) := by decide +kernel
theorem dX3_clear_11 : decode cX3_clear 11 = .ok (.aload_n 0, 1) := by decide +kernel
theorem dX3_clear_12 : decode cX3_clear 12 = .ok (.iconst 4, 1) := by decide +kernel
theorem dX3_clear_13 : decode cX3_clear 13 = .ok (.putfield 34, 3) := by decide +kernel
theorem dX3_clear_16 : decode cX3_clear 16 = .ok (.aload_n 0, 1) := by decide +kernel
theorem dX3_clear_17 : decode cX3_clear 17 = .ok (.iconst 1, 1) := by decide +kernel
theorem dX3_clear_18 : decode cX3_clear 18 = .ok (.putfield 37, 3) := by decide +kernel
theorem dX3_clear_21 : decode cX3_clear 21 = .ok (.aload_n 0, 1) := by decide +kernel
theorem dX3_clear_22 : decode cX3_clear 22 = .ok (.iconst 5, 1) := by decide +kernel
theorem dX3_clear_23 : decode cX3_clear 23 = .ok (.putfield 40, 3) := by decide +kernel
theorem dX3_clear_26 : decode cX3_clear 26 = .ok (.aload_n 0, 1) := by decide +kernel
theorem dX3_clear_27 : decode cX3_clear 27 = .ok (.bipush 6, 2) := by decide +kernel
theorem dX3_clear_29 : decode cX3_clear 29 = .ok (.putfield 43, 3) := by decide +kernel
theorem dX3_clear_32 : decode cX3_clear 32 = .ok (.return_, 1) := by decide +kernel
theorem dX3_takeMember_0 : decode cX3_takeMember 0 = .ok (.iload_n 1, 1) := by decide +kernel
theorem dX3_takeMember_1 : decode cX3_takeMember 1 = .ok (.iconst 0, 1) := by decide +kernel
theorem dX3_takeMember_2 : decode cX3_takeMember 2 = .ok (.iconst 3, 1) := by decide +kernel
theorem dX3_takeMember_3 : decode cX3_takeMember 3 = .ok (.invokestatic 46, 3) := by decide +kernel
theorem dX3_takeMember_6 : decode cX3_takeMember 6 = .ok (.ifCond .ne 47, 3) := by decide +kernel
theorem dX3_takeMember_9 : decode cX3_takeMember 9 = .ok (.iload_n 2, 1) := by decide +kernel
theorem dX3_takeMember_10 : decode cX3_takeMember 10 = .ok (.iconst 1, 1) := by decide +kernel
theorem dX3_takeMember_11 : decode cX3_takeMember 11 = .ok (.bipush 9, 2) := by decide +kernel
theorem dX3_takeMember_13 : decode cX3_takeMember 13 = .ok (.invokestatic 46, 3) := by decide +kernel
theorem dX3_takeMember_16 : decode cX3_takeMember 16 = .ok (.ifCond .ne 37, 3) := by decide +kernel
theorem dX3_takeMember_19 : decode cX3_takeMember 19 = .ok (.iload_n 3, 1) := by decide +kernel
theorem dX3_takeMember_20 : decode cX3_takeMember 20 = .ok (.iconst 0, 1) := by decide +kernel
theorem dX3_takeMember_21 : decode cX3_takeMember 21 = .ok (.bipush 60, 2) := by decide +kernel
theorem dX3_takeMember_23 : decode cX3_takeMember 23 = .ok (.invokestatic 46, 3) := by decide +kernel
theorem dX3_takeMember_26 : decode cX3_takeMember 26 = .ok (.ifCond .ne 27, 3) := by decide +kernel
theorem dX3_takeMember_29 : decode cX3_takeMember 29 = .ok (.iload 4, 2) := by decide +kernel
theorem dX3_takeMember_31 : decode cX3_takeMember 31 = .ok (.iconst 0, 1) := by decide +kernel
theorem dX3_takeMember_32 : decode cX3_takeMember 32 = .ok (.bipush 9, 2) := by decide +kernel
theorem dX3_takeMember_34 : decode cX3_takeMember 34 = .ok (.invokestatic 46, 3) := by decide +kernel
theorem dX3_takeMember_37 : decode cX3_takeMember 37 = .ok (.ifCond .ne 16, 3) := by decide +kernel
theorem dX3_takeMember_40 : decode cX3_takeMember 40 = .ok (.aload_n 0, 1) := by decide +kernel
theorem dX3_takeMember_41 : decode cX3_takeMember 41 = .ok (.getfield 27, 3) := by decide +kernel
theorem dX3_takeMember_44 : decode cX3_takeMember 44 = .ok (.iconst 0, 1) := by decide +kernel
theorem dX3_takeMember_45 : decode cX3_takeMember 45 = .ok (.bipush 6, 2) := by decide +kernel
theorem dX3_takeMember_47 : decode cX3_takeMember 47 = .ok (.invokestatic 46, 3) := by decide +kernel
theorem dX3_takeMember_50 : decode cX3_takeMember 50 = .ok (.ifCond .eq 5, 3) := by decide +kernel
theorem dX3_takeMember_53 : decode cX3_takeMember 53 = .ok (.iconst 0, 1) := by decide +kernel
theorem dX3_takeMember_54 : decode cX3_takeMember 54 = .ok (.ireturn, 1) := by decide +kernel
theorem dX3_takeMember_55 : decode cX3_takeMember 55 = .ok (.aload_n 0, 1) := by decide +kernel
theorem dX3_takeMember_56 : decode cX3_takeMember 56 = .ok (.getfield 9, 3) := by decide +kernel
theorem dX3_takeMember_59 : decode cX3_takeMember 59 = .ok (.aload_n 0, 1) := by decide +kernel
theorem dX3_takeMember_60 : decode cX3_takeMember 60 = .ok (.getfield 27, 3) := by decide +kernel
theorem dX3_takeMember_63 : decode cX3_takeMember 63 = .ok (.iload_n 1, 1) := by decide +kernel
theorem dX3_takeMember_64 : decode cX3_takeMember 64 = .ok (.iastore, 1) := by decide +kernel
theorem dX3_takeMember_65 : decode cX3_takeMember 65 = .ok (.aload_n 0, 1) := by decide +kernel
theorem dX3_takeMember_66 : decode cX3_takeMember 66 = .ok (.getfield 15, 3) := by decide +kernel
theorem dX3_takeMember_69 : decode cX3_takeMember 69 = .ok (.aload_n 0, 1) := by decide +kernel
theorem dX3_takeMember_70 : decode cX3_takeMember 70 = .ok (.getfield 27, 3) := by decide +kernel
theorem dX3_takeMember_73 : decode cX3_takeMember 73 = .ok (.iload_n 2, 1) := by decide +kernel
theorem dX3_takeMember_74 : decode cX3_takeMember 74 = .ok (.iastore, 1) := by decide +kernel
theorem dX3_takeMember_75 : decode cX3_takeMember 75 = .ok (.aload_n 0, 1) := by decide +kernel
theorem dX3_takeMember_76 : decode cX3_takeMember 76 = .ok (.getfield 18, 3) := by decide +kernel
theorem dX3_takeMember_79 : decode cX3_takeMember 79 = .ok (.aload_n 0, 1) := by decide +kernel
theorem dX3_takeMember_80 : decode cX3_takeMember 80 = .ok (.getfield 27, 3) := by decide +kernel
theorem dX3_takeMember_83 : decode cX3_takeMember 83 = .ok (.iload_n 3, 1) := by decide +kernel
theorem dX3_takeMember_84 : decode cX3_takeMember 84 = .ok (.iastore, 1) := by decide +kernel
theorem dX3_takeMember_85 : decode cX3_takeMember 85 = .ok (.aload_n 0, 1) := by decide +kernel
theorem dX3_takeMember_86 : decode cX3_takeMember 86 = .ok (.getfield 21, 3) := by decide +kernel
theorem dX3_takeMember_89 : decode cX3_takeMember 89 = .ok (.aload_n 0, 1) := by decide +kernel
theorem dX3_takeMember_90 : decode cX3_takeMember 90 = .ok (.getfield 27, 3) := by decide +kernel
theorem dX3_takeMember_93 : decode cX3_takeMember 93 = .ok (.iload 4, 2) := by decide +kernel
theorem dX3_takeMember_95 : decode cX3_takeMember 95 = .ok (.iastore, 1) := by decide +kernel
theorem dX3_takeMember_96 : decode cX3_takeMember 96 = .ok (.aload_n 0, 1) := by decide +kernel
theorem dX3_takeMember_97 : decode cX3_takeMember 97 = .ok (.getfield 24, 3) := by decide +kernel
theorem dX3_takeMember_100 : decode cX3_takeMember 100 = .ok (.aload_n 0, 1) := by decide +kernel
theorem dX3_takeMember_101 : decode cX3_takeMember 101 = .ok (.getfield 27, 3) := by decide +kernel
theorem dX3_takeMember_104 : decode cX3_takeMember 104 = .ok (.iconst 0, 1) := by decide +kernel
theorem dX3_takeMember_105 : decode cX3_takeMember 105 = .ok (.iastore, 1) := by decide +kernel
theorem dX3_takeMember_106 : decode cX3_takeMember 106 = .ok (.aload_n 0, 1) := by decide +kernel
theorem dX3_takeMember_107 : decode cX3_takeMember 107 = .ok (.dup, 1) := by decide +kernel
theorem dX3_takeMember_108 : decode cX3_takeMember 108 = .ok (.getfield 27, 3) := by decide +kernel
theorem dX3_takeMember_111 : decode cX3_takeMember 111 = .ok (.iconst 1, 1) := by decide +kernel
theorem dX3_takeMember_112 : decode cX3_takeMember 112 = .ok (.iadd, 1) := by decide +kernel
theorem dX3_takeMember_113 : decode cX3_takeMember 113 = .ok (.putfield 27, 3) := by decide +kernel
theorem dX3_takeMember_116 : decode cX3_takeMember 116 = .ok (.iconst 1, 1) := by decide +kernel
theorem dX3_takeMember_117 : decode cX3_takeMember 117 = .ok (.ireturn, 1) := by decide +kernel
theorem dX3_takePot_0 : decode cX3_takePot 0 = .ok (.iload_n 1, 1) := by decide +kernel
theorem dX3_takePot_1 : decode cX3_takePot 1 = .ok (.iconst 0, 1) := by decide +kernel
theorem dX3_takePot_2 : decode cX3_takePot 2 = .ok (.bipush 99, 2) := by decide +kernel
theorem dX3_takePot_4 : decode cX3_takePot 4 = .ok (.invokestatic 46, 3) := by decide +kernel
theorem dX3_takePot_7 : decode cX3_takePot 7 = .ok (.ifCond .ne 23, 3) := by decide +kernel
theorem dX3_takePot_10 : decode cX3_takePot 10 = .ok (.iload_n 2, 1) := by decide +kernel
theorem dX3_takePot_11 : decode cX3_takePot 11 = .ok (.iconst 0, 1) := by decide +kernel
theorem dX3_takePot_12 : decode cX3_takePot 12 = .ok (.bipush 9, 2) := by decide +kernel
theorem dX3_takePot_14 : decode cX3_takePot 14 = .ok (.invokestatic 46, 3) := by decide +kernel
theorem dX3_takePot_17 : decode cX3_takePot 17 = .ok (.ifCond .ne 13, 3) := by decide +kernel
theorem dX3_takePot_20 : decode cX3_takePot 20 = .ok (.iload_n 3, 1) := by decide +kernel
theorem dX3_takePot_21 : decode cX3_takePot 21 = .ok (.iconst 0, 1) := by decide +kernel
theorem dX3_takePot_22 : decode cX3_takePot 22 = .ok (.bipush 9, 2) := by decide +kernel
theorem dX3_takePot_24 : decode cX3_takePot 24 = .ok (.invokestatic 46, 3) := by decide +kernel
theorem dX3_takePot_27 : decode cX3_takePot 27 = .ok (.ifCond .eq 5, 3) := by decide +kernel
theorem dX3_takePot_30 : decode cX3_takePot 30 = .ok (.iconst 0, 1) := by decide +kernel
theorem dX3_takePot_31 : decode cX3_takePot 31 = .ok (.ireturn, 1) := by decide +kernel
theorem dX3_takePot_32 : decode cX3_takePot 32 = .ok (.aload_n 0, 1) := by decide +kernel
theorem dX3_takePot_33 : decode cX3_takePot 33 = .ok (.iload_n 1, 1) := by decide +kernel
theorem dX3_takePot_34 : decode cX3_takePot 34 = .ok (.putfield 31, 3) := by decide +kernel
theorem dX3_takePot_37 : decode cX3_takePot 37 = .ok (.aload_n 0, 1) := by decide +kernel
theorem dX3_takePot_38 : decode cX3_takePot 38 = .ok (.iload_n 2, 1) := by decide +kernel
theorem dX3_takePot_39 : decode cX3_takePot 39 = .ok (.putfield 34, 3) := by decide +kernel
theorem dX3_takePot_42 : decode cX3_takePot 42 = .ok (.aload_n 0, 1) := by decide +kernel
theorem dX3_takePot_43 : decode cX3_takePot 43 = .ok (.iload_n 3, 1) := by decide +kernel
theorem dX3_takePot_44 : decode cX3_takePot 44 = .ok (.putfield 37, 3) := by decide +kernel
theorem dX3_takePot_47 : decode cX3_takePot 47 = .ok (.iconst 1, 1) := by decide +kernel
theorem dX3_takePot_48 : decode cX3_takePot 48 = .ok (.ireturn, 1) := by decide +kernel
theorem dX3_takeRounds_0 : decode cX3_takeRounds 0 = .ok (.iload_n 1, 1) := by decide +kernel
theorem dX3_takeRounds_1 : decode cX3_takeRounds 1 = .ok (.iconst 1, 1) := by decide +kernel
theorem dX3_takeRounds_2 : decode cX3_takeRounds 2 = .ok (.bipush 20, 2) := by decide +kernel
theorem dX3_takeRounds_4 : decode cX3_takeRounds 4 = .ok (.invokestatic 46, 3) := by decide +kernel
theorem dX3_takeRounds_7 : decode cX3_takeRounds 7 = .ok (.ifCond .eq 5, 3) := by decide +kernel
theorem dX3_takeRounds_10 : decode cX3_takeRounds 10 = .ok (.iconst 0, 1) := by decide +kernel
theorem dX3_takeRounds_11 : decode cX3_takeRounds 11 = .ok (.ireturn, 1) := by decide +kernel
theorem dX3_takeRounds_12 : decode cX3_takeRounds 12 = .ok (.aload_n 0, 1) := by decide +kernel
theorem dX3_takeRounds_13 : decode cX3_takeRounds 13 = .ok (.iload_n 1, 1) := by decide +kernel
theorem dX3_takeRounds_14 : decode cX3_takeRounds 14 = .ok (.putfield 40, 3) := by decide +kernel
theorem dX3_takeRounds_17 : decode cX3_takeRounds 17 = .ok (.iconst 1, 1) := by decide +kernel
theorem dX3_takeRounds_18 : decode cX3_takeRounds 18 = .ok (.ireturn, 1) := by decide +kernel
theorem dX3_takeFastHunger_0 : decode cX3_takeFastHunger 0 = .ok (.iload_n 1, 1) := by decide +kernel
theorem dX3_takeFastHunger_1 : decode cX3_takeFastHunger 1 = .ok (.iconst 1, 1) := by decide +kernel
theorem dX3_takeFastHunger_2 : decode cX3_takeFastHunger 2 = .ok (.bipush 20, 2) := by decide +kernel
theorem dX3_takeFastHunger_4 : decode cX3_takeFastHunger 4 = .ok (.invokestatic 46, 3) := by decide +kernel
theorem dX3_takeFastHunger_7 : decode cX3_takeFastHunger 7 = .ok (.ifCond .eq 5, 3) := by decide +kernel
theorem dX3_takeFastHunger_10 : decode cX3_takeFastHunger 10 = .ok (.iconst 0, 1) := by decide +kernel
theorem dX3_takeFastHunger_11 : decode cX3_takeFastHunger 11 = .ok (.ireturn, 1) := by decide +kernel
theorem dX3_takeFastHunger_12 : decode cX3_takeFastHunger 12 = .ok (.aload_n 0, 1) := by decide +kernel
theorem dX3_takeFastHunger_13 : decode cX3_takeFastHunger 13 = .ok (.iload_n 1, 1) := by decide +kernel
theorem dX3_takeFastHunger_14 : decode cX3_takeFastHunger 14 = .ok (.putfield 43, 3) := by decide +kernel
theorem dX3_takeFastHunger_17 : decode cX3_takeFastHunger 17 = .ok (.iconst 1, 1) := by decide +kernel
theorem dX3_takeFastHunger_18 : decode cX3_takeFastHunger 18 = .ok (.ireturn, 1) := by decide +kernel
theorem dX3_takeOver_0 : decode cX3_takeOver 0 = .ok (.aload_n 1, 1) := by decide +kernel
theorem dX3_takeOver_1 : decode cX3_takeOver 1 = .ok (.getfield 9, 3) := by decide +kernel
theorem dX3_takeOver_4 : decode cX3_takeOver 4 = .ok (.iconst 0, 1) := by decide +kernel
theorem dX3_takeOver_5 : decode cX3_takeOver 5 = .ok (.aload_n 0, 1) := by decide +kernel
theorem dX3_takeOver_6 : decode cX3_takeOver 6 = .ok (.getfield 9, 3) := by decide +kernel
theorem dX3_takeOver_9 : decode cX3_takeOver 9 = .ok (.iconst 0, 1) := by decide +kernel
theorem dX3_takeOver_10 : decode cX3_takeOver 10 = .ok (.bipush 7, 2) := by decide +kernel
theorem dX3_takeOver_12 : decode cX3_takeOver 12 = .ok (.invokestatic 50, 3) := by decide +kernel
theorem dX3_takeOver_15 : decode cX3_takeOver 15 = .ok (.aload_n 1, 1) := by decide +kernel
theorem dX3_takeOver_16 : decode cX3_takeOver 16 = .ok (.getfield 15, 3) := by decide +kernel
theorem dX3_takeOver_19 : decode cX3_takeOver 19 = .ok (.iconst 0, 1) := by decide +kernel
theorem dX3_takeOver_20 : decode cX3_takeOver 20 = .ok (.aload_n 0, 1) := by decide +kernel
theorem dX3_takeOver_21 : decode cX3_takeOver 21 = .ok (.getfield 15, 3) := by decide +kernel
theorem dX3_takeOver_24 : decode cX3_takeOver 24 = .ok (.iconst 0, 1) := by decide +kernel
theorem dX3_takeOver_25 : decode cX3_takeOver 25 = .ok (.bipush 7, 2) := by decide +kernel
theorem dX3_takeOver_27 : decode cX3_takeOver 27 = .ok (.invokestatic 50, 3) := by decide +kernel
theorem dX3_takeOver_30 : decode cX3_takeOver 30 = .ok (.aload_n 1, 1) := by decide +kernel
theorem dX3_takeOver_31 : decode cX3_takeOver 31 = .ok (.getfield 18, 3) := by decide +kernel
theorem dX3_takeOver_34 : decode cX3_takeOver 34 = .ok (.iconst 0, 1) := by decide +kernel
theorem dX3_takeOver_35 : decode cX3_takeOver 35 = .ok (.aload_n 0, 1) := by decide +kernel
theorem dX3_takeOver_36 : decode cX3_takeOver 36 = .ok (.getfield 18, 3) := by decide +kernel
theorem dX3_takeOver_39 : decode cX3_takeOver 39 = .ok (.iconst 0, 1) := by decide +kernel
theorem dX3_takeOver_40 : decode cX3_takeOver 40 = .ok (.bipush 7, 2) := by decide +kernel
theorem dX3_takeOver_42 : decode cX3_takeOver 42 = .ok (.invokestatic 50, 3) := by decide +kernel
theorem dX3_takeOver_45 : decode cX3_takeOver 45 = .ok (.aload_n 1, 1) := by decide +kernel
theorem dX3_takeOver_46 : decode cX3_takeOver 46 = .ok (.getfield 21, 3) := by decide +kernel
theorem dX3_takeOver_49 : decode cX3_takeOver 49 = .ok (.iconst 0, 1) := by decide +kernel
theorem dX3_takeOver_50 : decode cX3_takeOver 50 = .ok (.aload_n 0, 1) := by decide +kernel
theorem dX3_takeOver_51 : decode cX3_takeOver 51 = .ok (.getfield 21, 3) := by decide +kernel
theorem dX3_takeOver_54 : decode cX3_takeOver 54 = .ok (.iconst 0, 1) := by decide +kernel
theorem dX3_takeOver_55 : decode cX3_takeOver 55 = .ok (.bipush 7, 2) := by decide +kernel
theorem dX3_takeOver_57 : decode cX3_takeOver 57 = .ok (.invokestatic 50, 3) := by decide +kernel
theorem dX3_takeOver_60 : decode cX3_takeOver 60 = .ok (.aload_n 1, 1) := by decide +kernel
theorem dX3_takeOver_61 : decode cX3_takeOver 61 = .ok (.getfield 24, 3) := by decide +kernel
theorem dX3_takeOver_64 : decode cX3_takeOver 64 = .ok (.iconst 0, 1) := by decide +kernel
theorem dX3_takeOver_65 : decode cX3_takeOver 65 = .ok (.aload_n 0, 1) := by decide +kernel
theorem dX3_takeOver_66 : decode cX3_takeOver 66 = .ok (.getfield 24, 3) := by decide +kernel
theorem dX3_takeOver_69 : decode cX3_takeOver 69 = .ok (.iconst 0, 1) := by decide +kernel
theorem dX3_takeOver_70 : decode cX3_takeOver 70 = .ok (.bipush 7, 2) := by decide +kernel
theorem dX3_takeOver_72 : decode cX3_takeOver 72 = .ok (.invokestatic 50, 3) := by decide +kernel
theorem dX3_takeOver_75 : decode cX3_takeOver 75 = .ok (.aload_n 0, 1) := by decide +kernel
theorem dX3_takeOver_76 : decode cX3_takeOver 76 = .ok (.aload_n 1, 1) := by decide +kernel
theorem dX3_takeOver_77 : decode cX3_takeOver 77 = .ok (.getfield 27, 3) := by decide +kernel
theorem dX3_takeOver_80 : decode cX3_takeOver 80 = .ok (.putfield 27, 3) := by decide +kernel
theorem dX3_takeOver_83 : decode cX3_takeOver 83 = .ok (.aload_n 0, 1) := by decide +kernel
theorem dX3_takeOver_84 : decode cX3_takeOver 84 = .ok (.aload_n 1, 1) := by decide +kernel
theorem dX3_takeOver_85 : decode cX3_takeOver 85 = .ok (.getfield 31, 3) := by decide +kernel
theorem dX3_takeOver_88 : decode cX3_takeOver 88 = .ok (.putfield 31, 3) := by decide +kernel
theorem dX3_takeOver_91 : decode cX3_takeOver 91 = .ok (.aload_n 0, 1) := by decide +kernel
theorem dX3_takeOver_92 : decode cX3_takeOver 92 = .ok (.aload_n 1, 1) := by decide +kernel
theorem dX3_takeOver_93 : decode cX3_takeOver 93 = .ok (.getfield 34, 3) := by decide +kernel
theorem dX3_takeOver_96 : decode cX3_takeOver 96 = .ok (.putfield 34, 3) := by decide +kernel
theorem dX3_takeOver_99 : decode cX3_takeOver 99 = .ok (.aload_n 0, 1) := by decide +kernel
theorem dX3_takeOver_100 : decode cX3_takeOver 100 = .ok (.aload_n 1, 1) := by decide +kernel
theorem dX3_takeOver_101 : decode cX3_takeOver 101 = .ok (.getfield 37, 3) := by decide +kernel
theorem dX3_takeOver_104 : decode cX3_takeOver 104 = .ok (.putfield 37, 3) := by decide +kernel
theorem dX3_takeOver_107 : decode cX3_takeOver 107 = .ok (.aload_n 0, 1) := by decide +kernel
theorem dX3_takeOver_108 : decode cX3_takeOver 108 = .ok (.aload_n 1, 1) := by decide +kernel
theorem dX3_takeOver_109 : decode cX3_takeOver 109 = .ok (.getfield 40, 3) := by decide +kernel
theorem dX3_takeOver_112 : decode cX3_takeOver 112 = .ok (.putfield 40, 3) := by decide +kernel
theorem dX3_takeOver_115 : decode cX3_takeOver 115 = .ok (.aload_n 0, 1) := by decide +kernel
theorem dX3_takeOver_116 : decode cX3_takeOver 116 = .ok (.aload_n 1, 1) := by decide +kernel
theorem dX3_takeOver_117 : decode cX3_takeOver 117 = .ok (.getfield 43, 3) := by decide +kernel
theorem dX3_takeOver_120 : decode cX3_takeOver 120 = .ok (.putfield 43, 3) := by decide +kernel
theorem dX3_takeOver_123 : decode cX3_takeOver 123 = .ok (.return_, 1) := by decide +kernel
theorem dX3_share_0 : decode cX3_share 0 = .ok (.aload_n 0, 1) := by decide +kernel
theorem dX3_share_1 : decode cX3_share 1 = .ok (.iload_n 1, 1) := by decide +kernel
theorem dX3_share_2 : decode cX3_share 2 = .ok (.aload_n 0, 1) := by decide +kernel
theorem dX3_share_3 : decode cX3_share 3 = .ok (.getfield 34, 3) := by decide +kernel
theorem dX3_share_6 : decode cX3_share 6 = .ok (.invokevirtual 56, 3) := by decide +kernel
theorem dX3_share_9 : decode cX3_share 9 = .ok (.aload_n 0, 1) := by decide +kernel
theorem dX3_share_10 : decode cX3_share 10 = .ok (.getfield 18, 3) := by decide +kernel
theorem dX3_share_13 : decode cX3_share 13 = .ok (.iload_n 1, 1) := by decide +kernel
theorem dX3_share_14 : decode cX3_share 14 = .ok (.iaload, 1) := by decide +kernel
theorem dX3_share_15 : decode cX3_share 15 = .ok (.invokestatic 60, 3) := by decide +kernel
theorem dX3_share_18 : decode cX3_share 18 = .ok (.aload_n 0, 1) := by decide +kernel
theorem dX3_share_19 : decode cX3_share 19 = .ok (.getfield 31, 3) := by decide +kernel
theorem dX3_share_22 : decode cX3_share 22 = .ok (.invokestatic 60, 3) := by decide +kernel
theorem dX3_share_25 : decode cX3_share 25 = .ok (.ireturn, 1) := by decide +kernel
theorem dX3_spoonful_0 : decode cX3_spoonful 0 = .ok (.aload_n 0, 1) := by decide +kernel
theorem dX3_spoonful_1 : decode cX3_spoonful 1 = .ok (.getfield 37, 3) := by decide +kernel
theorem dX3_spoonful_4 : decode cX3_spoonful 4 = .ok (.aload_n 0, 1) := by decide +kernel
theorem dX3_spoonful_5 : decode cX3_spoonful 5 = .ok (.getfield 21, 3) := by decide +kernel
theorem dX3_spoonful_8 : decode cX3_spoonful 8 = .ok (.iload_n 1, 1) := by decide +kernel
theorem dX3_spoonful_9 : decode cX3_spoonful 9 = .ok (.iaload, 1) := by decide +kernel
theorem dX3_spoonful_10 : decode cX3_spoonful 10 = .ok (.if_icmp .gt 16, 3) := by decide +kernel
theorem dX3_spoonful_13 : decode cX3_spoonful 13 = .ok (.iload_n 2, 1) := by decide +kernel
theorem dX3_spoonful_14 : decode cX3_spoonful 14 = .ok (.aload_n 0, 1) := by decide +kernel
theorem dX3_spoonful_15 : decode cX3_spoonful 15 = .ok (.getfield 9, 3) := by decide +kernel
theorem dX3_spoonful_18 : decode cX3_spoonful 18 = .ok (.iload_n 1, 1) := by decide +kernel
theorem dX3_spoonful_19 : decode cX3_spoonful 19 = .ok (.iaload, 1) := by decide +kernel
theorem dX3_spoonful_20 : decode cX3_spoonful 20 = .ok (.invokestatic 65, 3) := by decide +kernel
theorem dX3_spoonful_23 : decode cX3_spoonful 23 = .ok (.if_icmp .le 5, 3) := by decide +kernel
theorem dX3_spoonful_26 : decode cX3_spoonful 26 = .ok (.iconst 0, 1) := by decide +kernel
theorem dX3_spoonful_27 : decode cX3_spoonful 27 = .ok (.ireturn, 1) := by decide +kernel
theorem dX3_spoonful_28 : decode cX3_spoonful 28 = .ok (.aload_n 0, 1) := by decide +kernel
theorem dX3_spoonful_29 : decode cX3_spoonful 29 = .ok (.getfield 9, 3) := by decide +kernel
theorem dX3_spoonful_32 : decode cX3_spoonful 32 = .ok (.iload_n 1, 1) := by decide +kernel
theorem dX3_spoonful_33 : decode cX3_spoonful 33 = .ok (.iaload, 1) := by decide +kernel
theorem dX3_spoonful_34 : decode cX3_spoonful 34 = .ok (.lookupswitch 37 #[(2, 26), (3, 35)], 26) := by decide +kernel
theorem dX3_spoonful_60 : decode cX3_spoonful 60 = .ok (.iconst 2, 1) := by decide +kernel
theorem dX3_spoonful_61 : decode cX3_spoonful 61 = .ok (.aload_n 0, 1) := by decide +kernel
theorem dX3_spoonful_62 : decode cX3_spoonful 62 = .ok (.getfield 15, 3) := by decide +kernel
theorem dX3_spoonful_65 : decode cX3_spoonful 65 = .ok (.iload_n 1, 1) := by decide +kernel
theorem dX3_spoonful_66 : decode cX3_spoonful 66 = .ok (.iaload, 1) := by decide +kernel
theorem dX3_spoonful_67 : decode cX3_spoonful 67 = .ok (.imul, 1) := by decide +kernel
theorem dX3_spoonful_68 : decode cX3_spoonful 68 = .ok (.ireturn, 1) := by decide +kernel
theorem dX3_spoonful_69 : decode cX3_spoonful 69 = .ok (.iconst 1, 1) := by decide +kernel
theorem dX3_spoonful_70 : decode cX3_spoonful 70 = .ok (.ireturn, 1) := by decide +kernel
theorem dX3_spoonful_71 : decode cX3_spoonful 71 = .ok (.aload_n 0, 1) := by decide +kernel
theorem dX3_spoonful_72 : decode cX3_spoonful 72 = .ok (.getfield 15, 3) := by decide +kernel
theorem dX3_spoonful_75 : decode cX3_spoonful 75 = .ok (.iload_n 1, 1) := by decide +kernel
theorem dX3_spoonful_76 : decode cX3_spoonful 76 = .ok (.iaload, 1) := by decide +kernel
theorem dX3_spoonful_77 : decode cX3_spoonful 77 = .ok (.ireturn, 1) := by decide +kernel
theorem dX3_hottestFor_0 : decode cX3_hottestFor 0 = .ok (.iload_n 0, 1) := by decide +kernel
theorem dX3_hottestFor_1 : decode cX3_hottestFor 1 = .ok (.tableswitch 35 1 3 #[27, 29, 32], 27) := by decide +kernel
theorem dX3_hottestFor_28 : decode cX3_hottestFor 28 = .ok (.iconst 4, 1) := by decide +kernel
theorem dX3_hottestFor_29 : decode cX3_hottestFor 29 = .ok (.ireturn, 1) := by decide +kernel
theorem dX3_hottestFor_30 : decode cX3_hottestFor 30 = .ok (.bipush 7, 2) := by decide +kernel
theorem dX3_hottestFor_32 : decode cX3_hottestFor 32 = .ok (.ireturn, 1) := by decide +kernel
theorem dX3_hottestFor_33 : decode cX3_hottestFor 33 = .ok (.bipush 8, 2) := by decide +kernel
theorem dX3_hottestFor_35 : decode cX3_hottestFor 35 = .ok (.ireturn, 1) := by decide +kernel
theorem dX3_hottestFor_36 : decode cX3_hottestFor 36 = .ok (.bipush 9, 2) := by decide +kernel
theorem dX3_hottestFor_38 : decode cX3_hottestFor 38 = .ok (.ireturn, 1) := by decide +kernel
theorem dX3_eatRound_0 : decode cX3_eatRound 0 = .ok (.bipush (-4), 2) := by decide +kernel
theorem dX3_eatRound_2 : decode cX3_eatRound 2 = .ok (.istore_n 1, 1) := by decide +kernel
theorem dX3_eatRound_3 : decode cX3_eatRound 3 = .ok (.iconst 0, 1) := by decide +kernel
theorem dX3_eatRound_4 : decode cX3_eatRound 4 = .ok (.istore_n 2, 1) := by decide +kernel
theorem dX3_eatRound_5 : decode cX3_eatRound 5 = .ok (.iload_n 2, 1) := by decide +kernel
theorem dX3_eatRound_6 : decode cX3_eatRound 6 = .ok (.aload_n 0, 1) := by decide +kernel
theorem dX3_eatRound_7 : decode cX3_eatRound 7 = .ok (.getfield 27, 3) := by decide +kernel
theorem dX3_eatRound_10 : decode cX3_eatRound 10 = .ok (.if_icmp .ge 59, 3) := by decide +kernel
theorem dX3_eatRound_13 : decode cX3_eatRound 13 = .ok (.aload_n 0, 1) := by decide +kernel
theorem dX3_eatRound_14 : decode cX3_eatRound 14 = .ok (.iload_n 2, 1) := by decide +kernel
theorem dX3_eatRound_15 : decode cX3_eatRound 15 = .ok (.invokevirtual 69, 3) := by decide +kernel
theorem dX3_eatRound_18 : decode cX3_eatRound 18 = .ok (.istore_n 3, 1) := by decide +kernel
theorem dX3_eatRound_19 : decode cX3_eatRound 19 = .ok (.iload_n 3, 1) := by decide +kernel
theorem dX3_eatRound_20 : decode cX3_eatRound 20 = .ok (.ifCond .le 13, 3) := by decide +kernel
theorem dX3_eatRound_23 : decode cX3_eatRound 23 = .ok (.iload_n 3, 1) := by decide +kernel
theorem dX3_eatRound_24 : decode cX3_eatRound 24 = .ok (.aload_n 0, 1) := by decide +kernel
theorem dX3_eatRound_25 : decode cX3_eatRound 25 = .ok (.getfield 31, 3) := by decide +kernel
theorem dX3_eatRound_28 : decode cX3_eatRound 28 = .ok (.if_icmp .ne 5, 3) := by decide +kernel
theorem dX3_eatRound_31 : decode cX3_eatRound 31 = .ok (.iload_n 2, 1) := by decide +kernel
theorem dX3_eatRound_32 : decode cX3_eatRound 32 = .ok (.istore_n 1, 1) := by decide +kernel
theorem dX3_eatRound_33 : decode cX3_eatRound 33 = .ok (.aload_n 0, 1) := by decide +kernel
theorem dX3_eatRound_34 : decode cX3_eatRound 34 = .ok (.dup, 1) := by decide +kernel
theorem dX3_eatRound_35 : decode cX3_eatRound 35 = .ok (.getfield 31, 3) := by decide +kernel
theorem dX3_eatRound_38 : decode cX3_eatRound 38 = .ok (.iload_n 3, 1) := by decide +kernel
theorem dX3_eatRound_39 : decode cX3_eatRound 39 = .ok (.isub, 1) := by decide +kernel
theorem dX3_eatRound_40 : decode cX3_eatRound 40 = .ok (.putfield 31, 3) := by decide +kernel
theorem dX3_eatRound_43 : decode cX3_eatRound 43 = .ok (.aload_n 0, 1) := by decide +kernel
theorem dX3_eatRound_44 : decode cX3_eatRound 44 = .ok (.getfield 18, 3) := by decide +kernel
theorem dX3_eatRound_47 : decode cX3_eatRound 47 = .ok (.iload_n 2, 1) := by decide +kernel
theorem dX3_eatRound_48 : decode cX3_eatRound 48 = .ok (.dup2, 1) := by decide +kernel
theorem dX3_eatRound_49 : decode cX3_eatRound 49 = .ok (.iaload, 1) := by decide +kernel
theorem dX3_eatRound_50 : decode cX3_eatRound 50 = .ok (.iload_n 3, 1) := by decide +kernel
theorem dX3_eatRound_51 : decode cX3_eatRound 51 = .ok (.isub, 1) := by decide +kernel
theorem dX3_eatRound_52 : decode cX3_eatRound 52 = .ok (.iastore, 1) := by decide +kernel
theorem dX3_eatRound_53 : decode cX3_eatRound 53 = .ok (.aload_n 0, 1) := by decide +kernel
theorem dX3_eatRound_54 : decode cX3_eatRound 54 = .ok (.getfield 24, 3) := by decide +kernel
theorem dX3_eatRound_57 : decode cX3_eatRound 57 = .ok (.iload_n 2, 1) := by decide +kernel
theorem dX3_eatRound_58 : decode cX3_eatRound 58 = .ok (.dup2, 1) := by decide +kernel
theorem dX3_eatRound_59 : decode cX3_eatRound 59 = .ok (.iaload, 1) := by decide +kernel
theorem dX3_eatRound_60 : decode cX3_eatRound 60 = .ok (.iload_n 3, 1) := by decide +kernel
theorem dX3_eatRound_61 : decode cX3_eatRound 61 = .ok (.iadd, 1) := by decide +kernel
theorem dX3_eatRound_62 : decode cX3_eatRound 62 = .ok (.iastore, 1) := by decide +kernel
theorem dX3_eatRound_63 : decode cX3_eatRound 63 = .ok (.iinc 2 1, 3) := by decide +kernel
theorem dX3_eatRound_66 : decode cX3_eatRound 66 = .ok (.goto (-61), 3) := by decide +kernel
theorem dX3_eatRound_69 : decode cX3_eatRound 69 = .ok (.aload_n 0, 1) := by decide +kernel
theorem dX3_eatRound_70 : decode cX3_eatRound 70 = .ok (.invokevirtual 72, 3) := by decide +kernel
theorem dX3_eatRound_73 : decode cX3_eatRound 73 = .ok (.iload_n 1, 1) := by decide +kernel
theorem dX3_eatRound_74 : decode cX3_eatRound 74 = .ok (.ireturn, 1) := by decide +kernel
theorem dX3_eatRounds_0 : decode cX3_eatRounds 0 = .ok (.bipush (-4), 2) := by decide +kernel
theorem dX3_eatRounds_2 : decode cX3_eatRounds 2 = .ok (.istore_n 2, 1) := by decide +kernel
theorem dX3_eatRounds_3 : decode cX3_eatRounds 3 = .ok (.iconst 0, 1) := by decide +kernel
theorem dX3_eatRounds_4 : decode cX3_eatRounds 4 = .ok (.istore_n 3, 1) := by decide +kernel
theorem dX3_eatRounds_5 : decode cX3_eatRounds 5 = .ok (.iload_n 3, 1) := by decide +kernel
theorem dX3_eatRounds_6 : decode cX3_eatRounds 6 = .ok (.iload_n 1, 1) := by decide +kernel
theorem dX3_eatRounds_7 : decode cX3_eatRounds 7 = .ok (.if_icmp .ge 25, 3) := by decide +kernel
theorem dX3_eatRounds_10 : decode cX3_eatRounds 10 = .ok (.aload_n 0, 1) := by decide +kernel
theorem dX3_eatRounds_11 : decode cX3_eatRounds 11 = .ok (.invokevirtual 75, 3) := by decide +kernel
theorem dX3_eatRounds_14 : decode cX3_eatRounds 14 = .ok (.istore 4, 2) := by decide +kernel
theorem dX3_eatRounds_16 : decode cX3_eatRounds 16 = .ok (.iload 4, 2) := by decide +kernel
theorem dX3_eatRounds_18 : decode cX3_eatRounds 18 = .ok (.bipush (-4), 2) := by decide +kernel
theorem dX3_eatRounds_20 : decode cX3_eatRounds 20 = .ok (.if_icmp .eq 6, 3) := by decide +kernel
theorem dX3_eatRounds_23 : decode cX3_eatRounds 23 = .ok (.iload 4, 2) := by decide +kernel
theorem dX3_eatRounds_25 : decode cX3_eatRounds 25 = .ok (.istore_n 2, 1) := by decide +kernel
theorem dX3_eatRounds_26 : decode cX3_eatRounds 26 = .ok (.iinc 3 1, 3) := by decide +kernel
theorem dX3_eatRounds_29 : decode cX3_eatRounds 29 = .ok (.goto (-24), 3) := by decide +kernel
theorem dX3_eatRounds_32 : decode cX3_eatRounds 32 = .ok (.iload_n 2, 1) := by decide +kernel
theorem dX3_eatRounds_33 : decode cX3_eatRounds 33 = .ok (.ireturn, 1) := by decide +kernel
theorem dX3_roundsUntilEmpty_0 : decode cX3_roundsUntilEmpty 0 = .ok (.iconst 0, 1) := by decide +kernel
theorem dX3_roundsUntilEmpty_1 : decode cX3_roundsUntilEmpty 1 = .ok (.istore_n 1, 1) := by decide +kernel
theorem dX3_roundsUntilEmpty_2 : decode cX3_roundsUntilEmpty 2 = .ok (.iload_n 1, 1) := by decide +kernel
theorem dX3_roundsUntilEmpty_3 : decode cX3_roundsUntilEmpty 3 = .ok (.aload_n 0, 1) := by decide +kernel
theorem dX3_roundsUntilEmpty_4 : decode cX3_roundsUntilEmpty 4 = .ok (.getfield 40, 3) := by decide +kernel
theorem dX3_roundsUntilEmpty_7 : decode cX3_roundsUntilEmpty 7 = .ok (.if_icmp .gt 23, 3) := by decide +kernel
theorem dX3_roundsUntilEmpty_10 : decode cX3_roundsUntilEmpty 10 = .ok (.aload_n 0, 1) := by decide +kernel
theorem dX3_roundsUntilEmpty_11 : decode cX3_roundsUntilEmpty 11 = .ok (.getfield 31, 3) := by decide +kernel
theorem dX3_roundsUntilEmpty_14 : decode cX3_roundsUntilEmpty 14 = .ok (.ifCond .ne 5, 3) := by decide +kernel
theorem dX3_roundsUntilEmpty_17 : decode cX3_roundsUntilEmpty 17 = .ok (.iload_n 1, 1) := by decide +kernel
theorem dX3_roundsUntilEmpty_18 : decode cX3_roundsUntilEmpty 18 = .ok (.ireturn, 1) := by decide +kernel
theorem dX3_roundsUntilEmpty_19 : decode cX3_roundsUntilEmpty 19 = .ok (.aload_n 0, 1) := by decide +kernel
theorem dX3_roundsUntilEmpty_20 : decode cX3_roundsUntilEmpty 20 = .ok (.invokevirtual 75, 3) := by decide +kernel
theorem dX3_roundsUntilEmpty_23 : decode cX3_roundsUntilEmpty 23 = .ok (.pop, 1) := by decide +kernel
theorem dX3_roundsUntilEmpty_24 : decode cX3_roundsUntilEmpty 24 = .ok (.iinc 1 1, 3) := by decide +kernel
theorem dX3_roundsUntilEmpty_27 : decode cX3_roundsUntilEmpty 27 = .ok (.goto (-25), 3) := by decide +kernel
theorem dX3_roundsUntilEmpty_30 : decode cX3_roundsUntilEmpty 30 = .ok (.bipush (-4), 2) := by decide +kernel
theorem dX3_roundsUntilEmpty_32 : decode cX3_roundsUntilEmpty 32 = .ok (.ireturn, 1) := by decide +kernel
theorem dX3_reach_0 : decode cX3_reach 0 = .ok (.iconst 0, 1) := by decide +kernel
theorem dX3_reach_1 : decode cX3_reach 1 = .ok (.istore_n 2, 1) := by decide +kernel
theorem dX3_reach_2 : decode cX3_reach 2 = .ok (.iconst 0, 1) := by decide +kernel
theorem dX3_reach_3 : decode cX3_reach 3 = .ok (.istore_n 3, 1) := by decide +kernel
theorem dX3_reach_4 : decode cX3_reach 4 = .ok (.iload_n 3, 1) := by decide +kernel
theorem dX3_reach_5 : decode cX3_reach 5 = .ok (.aload_n 0, 1) := by decide +kernel
theorem dX3_reach_6 : decode cX3_reach 6 = .ok (.getfield 40, 3) := by decide +kernel
theorem dX3_reach_9 : decode cX3_reach 9 = .ok (.if_icmp .ge 34, 3) := by decide +kernel
theorem dX3_reach_12 : decode cX3_reach 12 = .ok (.iload_n 2, 1) := by decide +kernel
theorem dX3_reach_13 : decode cX3_reach 13 = .ok (.aload_n 0, 1) := by decide +kernel
theorem dX3_reach_14 : decode cX3_reach 14 = .ok (.iload_n 1, 1) := by decide +kernel
theorem dX3_reach_15 : decode cX3_reach 15 = .ok (.aload_n 0, 1) := by decide +kernel
theorem dX3_reach_16 : decode cX3_reach 16 = .ok (.getfield 34, 3) := by decide +kernel
theorem dX3_reach_19 : decode cX3_reach 19 = .ok (.iload_n 3, 1) := by decide +kernel
theorem dX3_reach_20 : decode cX3_reach 20 = .ok (.isub, 1) := by decide +kernel
theorem dX3_reach_21 : decode cX3_reach 21 = .ok (.invokevirtual 56, 3) := by decide +kernel
theorem dX3_reach_24 : decode cX3_reach 24 = .ok (.aload_n 0, 1) := by decide +kernel
theorem dX3_reach_25 : decode cX3_reach 25 = .ok (.getfield 18, 3) := by decide +kernel
theorem dX3_reach_28 : decode cX3_reach 28 = .ok (.iload_n 1, 1) := by decide +kernel
theorem dX3_reach_29 : decode cX3_reach 29 = .ok (.iaload, 1) := by decide +kernel
theorem dX3_reach_30 : decode cX3_reach 30 = .ok (.iload_n 2, 1) := by decide +kernel
theorem dX3_reach_31 : decode cX3_reach 31 = .ok (.isub, 1) := by decide +kernel
theorem dX3_reach_32 : decode cX3_reach 32 = .ok (.invokestatic 60, 3) := by decide +kernel
theorem dX3_reach_35 : decode cX3_reach 35 = .ok (.iadd, 1) := by decide +kernel
theorem dX3_reach_36 : decode cX3_reach 36 = .ok (.istore_n 2, 1) := by decide +kernel
theorem dX3_reach_37 : decode cX3_reach 37 = .ok (.iinc 3 1, 3) := by decide +kernel
theorem dX3_reach_40 : decode cX3_reach 40 = .ok (.goto (-36), 3) := by decide +kernel
theorem dX3_reach_43 : decode cX3_reach 43 = .ok (.iload_n 2, 1) := by decide +kernel
theorem dX3_reach_44 : decode cX3_reach 44 = .ok (.ireturn, 1) := by decide +kernel
theorem dX3_reachOfAll_0 : decode cX3_reachOfAll 0 = .ok (.iconst 0, 1) := by decide +kernel
theorem dX3_reachOfAll_1 : decode cX3_reachOfAll 1 = .ok (.istore_n 1, 1) := by decide +kernel
theorem dX3_reachOfAll_2 : decode cX3_reachOfAll 2 = .ok (.iconst 0, 1) := by decide +kernel
theorem dX3_reachOfAll_3 : decode cX3_reachOfAll 3 = .ok (.istore_n 2, 1) := by decide +kernel
theorem dX3_reachOfAll_4 : decode cX3_reachOfAll 4 = .ok (.iload_n 2, 1) := by decide +kernel
theorem dX3_reachOfAll_5 : decode cX3_reachOfAll 5 = .ok (.aload_n 0, 1) := by decide +kernel
theorem dX3_reachOfAll_6 : decode cX3_reachOfAll 6 = .ok (.getfield 27, 3) := by decide +kernel
theorem dX3_reachOfAll_9 : decode cX3_reachOfAll 9 = .ok (.if_icmp .ge 17, 3) := by decide +kernel
theorem dX3_reachOfAll_12 : decode cX3_reachOfAll 12 = .ok (.iload_n 1, 1) := by decide +kernel
theorem dX3_reachOfAll_13 : decode cX3_reachOfAll 13 = .ok (.aload_n 0, 1) := by decide +kernel
theorem dX3_reachOfAll_14 : decode cX3_reachOfAll 14 = .ok (.iload_n 2, 1) := by decide +kernel
theorem dX3_reachOfAll_15 : decode cX3_reachOfAll 15 = .ok (.invokevirtual 79, 3) := by decide +kernel
theorem dX3_reachOfAll_18 : decode cX3_reachOfAll 18 = .ok (.iadd, 1) := by decide +kernel
theorem dX3_reachOfAll_19 : decode cX3_reachOfAll 19 = .ok (.istore_n 1, 1) := by decide +kernel
theorem dX3_reachOfAll_20 : decode cX3_reachOfAll 20 = .ok (.iinc 2 1, 3) := by decide +kernel
theorem dX3_reachOfAll_23 : decode cX3_reachOfAll 23 = .ok (.goto (-19), 3) := by decide +kernel
theorem dX3_reachOfAll_26 : decode cX3_reachOfAll 26 = .ok (.iload_n 1, 1) := by decide +kernel
theorem dX3_reachOfAll_27 : decode cX3_reachOfAll 27 = .ok (.ireturn, 1) := by decide +kernel
theorem dX3_wouldPass_0 : decode cX3_wouldPass 0 = .ok (.aload_n 0, 1) := by decide +kernel
theorem dX3_wouldPass_1 : decode cX3_wouldPass 1 = .ok (.invokevirtual 82, 3) := by decide +kernel
theorem dX3_wouldPass_4 : decode cX3_wouldPass 4 = .ok (.aload_n 0, 1) := by decide +kernel
theorem dX3_wouldPass_5 : decode cX3_wouldPass 5 = .ok (.getfield 31, 3) := by decide +kernel
theorem dX3_wouldPass_8 : decode cX3_wouldPass 8 = .ok (.if_icmp .lt 7, 3) := by decide +kernel
theorem dX3_wouldPass_11 : decode cX3_wouldPass 11 = .ok (.iconst 1, 1) := by decide +kernel
theorem dX3_wouldPass_12 : decode cX3_wouldPass 12 = .ok (.goto 4, 3) := by decide +kernel
theorem dX3_wouldPass_15 : decode cX3_wouldPass 15 = .ok (.iconst 0, 1) := by decide +kernel
theorem dX3_wouldPass_16 : decode cX3_wouldPass 16 = .ok (.ireturn, 1) := by decide +kernel
theorem dX3_putSalt_0 : decode cX3_putSalt 0 = .ok (.aload_n 0, 1) := by decide +kernel
theorem dX3_putSalt_1 : decode cX3_putSalt 1 = .ok (.aload_n 0, 1) := by decide +kernel
theorem dX3_putSalt_2 : decode cX3_putSalt 2 = .ok (.getfield 37, 3) := by decide +kernel
theorem dX3_putSalt_5 : decode cX3_putSalt 5 = .ok (.iconst 1, 1) := by decide +kernel
theorem dX3_putSalt_6 : decode cX3_putSalt 6 = .ok (.iadd, 1) := by decide +kernel
theorem dX3_putSalt_7 : decode cX3_putSalt 7 = .ok (.bipush 9, 2) := by decide +kernel
theorem dX3_putSalt_9 : decode cX3_putSalt 9 = .ok (.invokestatic 60, 3) := by decide +kernel
theorem dX3_putSalt_12 : decode cX3_putSalt 12 = .ok (.putfield 37, 3) := by decide +kernel
theorem dX3_putSalt_15 : decode cX3_putSalt 15 = .ok (.return_, 1) := by decide +kernel
theorem dX3_cookTo_0 : decode cX3_cookTo 0 = .ok (.aload_n 0, 1) := by decide +kernel
theorem dX3_cookTo_1 : decode cX3_cookTo 1 = .ok (.iload_n 1, 1) := by decide +kernel
theorem dX3_cookTo_2 : decode cX3_cookTo 2 = .ok (.putfield 31, 3) := by decide +kernel
theorem dX3_cookTo_5 : decode cX3_cookTo 5 = .ok (.aload_n 0, 1) := by decide +kernel
theorem dX3_cookTo_6 : decode cX3_cookTo 6 = .ok (.bipush 9, 2) := by decide +kernel
theorem dX3_cookTo_8 : decode cX3_cookTo 8 = .ok (.putfield 34, 3) := by decide +kernel
theorem dX3_cookTo_11 : decode cX3_cookTo 11 = .ok (.return_, 1) := by decide +kernel
theorem dX3_waitOnce_0 : decode cX3_waitOnce 0 = .ok (.aload_n 0, 1) := by decide +kernel
theorem dX3_waitOnce_1 : decode cX3_waitOnce 1 = .ok (.aload_n 0, 1) := by decide +kernel
theorem dX3_waitOnce_2 : decode cX3_waitOnce 2 = .ok (.getfield 34, 3) := by decide +kernel
theorem dX3_waitOnce_5 : decode cX3_waitOnce 5 = .ok (.iconst 1, 1) := by decide +kernel
theorem dX3_waitOnce_6 : decode cX3_waitOnce 6 = .ok (.isub, 1) := by decide +kernel
theorem dX3_waitOnce_7 : decode cX3_waitOnce 7 = .ok (.iconst 0, 1) := by decide +kernel
theorem dX3_waitOnce_8 : decode cX3_waitOnce 8 = .ok (.invokestatic 85, 3) := by decide +kernel
theorem dX3_waitOnce_11 : decode cX3_waitOnce 11 = .ok (.putfield 34, 3) := by decide +kernel
theorem dX3_waitOnce_14 : decode cX3_waitOnce 14 = .ok (.return_, 1) := by decide +kernel
theorem dX3_exchangeSpoons_0 : decode cX3_exchangeSpoons 0 = .ok (.aload_n 0, 1) := by decide +kernel
theorem dX3_exchangeSpoons_1 : decode cX3_exchangeSpoons 1 = .ok (.getfield 9, 3) := by decide +kernel
theorem dX3_exchangeSpoons_4 : decode cX3_exchangeSpoons 4 = .ok (.iload_n 1, 1) := by decide +kernel
theorem dX3_exchangeSpoons_5 : decode cX3_exchangeSpoons 5 = .ok (.iaload, 1) := by decide +kernel
theorem dX3_exchangeSpoons_6 : decode cX3_exchangeSpoons 6 = .ok (.istore_n 3, 1) := by decide +kernel
theorem dX3_exchangeSpoons_7 : decode cX3_exchangeSpoons 7 = .ok (.aload_n 0, 1) := by decide +kernel
theorem dX3_exchangeSpoons_8 : decode cX3_exchangeSpoons 8 = .ok (.getfield 15, 3) := by decide +kernel
theorem dX3_exchangeSpoons_11 : decode cX3_exchangeSpoons 11 = .ok (.iload_n 1, 1) := by decide +kernel
theorem dX3_exchangeSpoons_12 : decode cX3_exchangeSpoons 12 = .ok (.iaload, 1) := by decide +kernel
theorem dX3_exchangeSpoons_13 : decode cX3_exchangeSpoons 13 = .ok (.istore 4, 2) := by decide +kernel
theorem dX3_exchangeSpoons_15 : decode cX3_exchangeSpoons 15 = .ok (.aload_n 0, 1) := by decide +kernel
theorem dX3_exchangeSpoons_16 : decode cX3_exchangeSpoons 16 = .ok (.getfield 9, 3) := by decide +kernel
theorem dX3_exchangeSpoons_19 : decode cX3_exchangeSpoons 19 = .ok (.iload_n 1, 1) := by decide +kernel
theorem dX3_exchangeSpoons_20 : decode cX3_exchangeSpoons 20 = .ok (.aload_n 0, 1) := by decide +kernel
theorem dX3_exchangeSpoons_21 : decode cX3_exchangeSpoons 21 = .ok (.getfield 9, 3) := by decide +kernel
theorem dX3_exchangeSpoons_24 : decode cX3_exchangeSpoons 24 = .ok (.iload_n 2, 1) := by decide +kernel
theorem dX3_exchangeSpoons_25 : decode cX3_exchangeSpoons 25 = .ok (.iaload, 1) := by decide +kernel
theorem dX3_exchangeSpoons_26 : decode cX3_exchangeSpoons 26 = .ok (.iastore, 1) := by decide +kernel
theorem dX3_exchangeSpoons_27 : decode cX3_exchangeSpoons 27 = .ok (.aload_n 0, 1) := by decide +kernel
theorem dX3_exchangeSpoons_28 : decode cX3_exchangeSpoons 28 = .ok (.getfield 15, 3) := by decide +kernel
theorem dX3_exchangeSpoons_31 : decode cX3_exchangeSpoons 31 = .ok (.iload_n 1, 1) := by decide +kernel
theorem dX3_exchangeSpoons_32 : decode cX3_exchangeSpoons 32 = .ok (.aload_n 0, 1) := by decide +kernel
theorem dX3_exchangeSpoons_33 : decode cX3_exchangeSpoons 33 = .ok (.getfield 15, 3) := by decide +kernel
theorem dX3_exchangeSpoons_36 : decode cX3_exchangeSpoons 36 = .ok (.iload_n 2, 1) := by decide +kernel
theorem dX3_exchangeSpoons_37 : decode cX3_exchangeSpoons 37 = .ok (.iaload, 1) := by decide +kernel
theorem dX3_exchangeSpoons_38 : decode cX3_exchangeSpoons 38 = .ok (.iastore, 1) := by decide +kernel
theorem dX3_exchangeSpoons_39 : decode cX3_exchangeSpoons 39 = .ok (.aload_n 0, 1) := by decide +kernel
theorem dX3_exchangeSpoons_40 : decode cX3_exchangeSpoons 40 = .ok (.getfield 9, 3) := by decide +kernel
theorem dX3_exchangeSpoons_43 : decode cX3_exchangeSpoons 43 = .ok (.iload_n 2, 1) := by decide +kernel
theorem dX3_exchangeSpoons_44 : decode cX3_exchangeSpoons 44 = .ok (.iload_n 3, 1) := by decide +kernel
theorem dX3_exchangeSpoons_45 : decode cX3_exchangeSpoons 45 = .ok (.iastore, 1) := by decide +kernel
theorem dX3_exchangeSpoons_46 : decode cX3_exchangeSpoons 46 = .ok (.aload_n 0, 1) := by decide +kernel
theorem dX3_exchangeSpoons_47 : decode cX3_exchangeSpoons 47 = .ok (.getfield 15, 3) := by decide +kernel
theorem dX3_exchangeSpoons_50 : decode cX3_exchangeSpoons 50 = .ok (.iload_n 2, 1) := by decide +kernel
theorem dX3_exchangeSpoons_51 : decode cX3_exchangeSpoons 51 = .ok (.iload 4, 2) := by decide +kernel
theorem dX3_exchangeSpoons_53 : decode cX3_exchangeSpoons 53 = .ok (.iastore, 1) := by decide +kernel
theorem dX3_exchangeSpoons_54 : decode cX3_exchangeSpoons 54 = .ok (.return_, 1) := by decide +kernel
theorem dX3_fastDay_0 : decode cX3_fastDay 0 = .ok (.iconst 0, 1) := by decide +kernel
theorem dX3_fastDay_1 : decode cX3_fastDay 1 = .ok (.istore_n 1, 1) := by decide +kernel
theorem dX3_fastDay_2 : decode cX3_fastDay 2 = .ok (.iload_n 1, 1) := by decide +kernel
theorem dX3_fastDay_3 : decode cX3_fastDay 3 = .ok (.aload_n 0, 1) := by decide +kernel
theorem dX3_fastDay_4 : decode cX3_fastDay 4 = .ok (.getfield 27, 3) := by decide +kernel
theorem dX3_fastDay_7 : decode cX3_fastDay 7 = .ok (.if_icmp .ge 31, 3) := by decide +kernel
theorem dX3_fastDay_10 : decode cX3_fastDay 10 = .ok (.aload_n 0, 1) := by decide +kernel
theorem dX3_fastDay_11 : decode cX3_fastDay 11 = .ok (.getfield 18, 3) := by decide +kernel
theorem dX3_fastDay_14 : decode cX3_fastDay 14 = .ok (.iload_n 1, 1) := by decide +kernel
theorem dX3_fastDay_15 : decode cX3_fastDay 15 = .ok (.aload_n 0, 1) := by decide +kernel
theorem dX3_fastDay_16 : decode cX3_fastDay 16 = .ok (.getfield 18, 3) := by decide +kernel
theorem dX3_fastDay_19 : decode cX3_fastDay 19 = .ok (.iload_n 1, 1) := by decide +kernel
theorem dX3_fastDay_20 : decode cX3_fastDay 20 = .ok (.iaload, 1) := by decide +kernel
theorem dX3_fastDay_21 : decode cX3_fastDay 21 = .ok (.aload_n 0, 1) := by decide +kernel
theorem dX3_fastDay_22 : decode cX3_fastDay 22 = .ok (.getfield 43, 3) := by decide +kernel
theorem dX3_fastDay_25 : decode cX3_fastDay 25 = .ok (.iadd, 1) := by decide +kernel
theorem dX3_fastDay_26 : decode cX3_fastDay 26 = .ok (.bipush 60, 2) := by decide +kernel
theorem dX3_fastDay_28 : decode cX3_fastDay 28 = .ok (.invokestatic 60, 3) := by decide +kernel
theorem dX3_fastDay_31 : decode cX3_fastDay 31 = .ok (.iastore, 1) := by decide +kernel
theorem dX3_fastDay_32 : decode cX3_fastDay 32 = .ok (.iinc 1 1, 3) := by decide +kernel
theorem dX3_fastDay_35 : decode cX3_fastDay 35 = .ok (.goto (-33), 3) := by decide +kernel
theorem dX3_fastDay_38 : decode cX3_fastDay 38 = .ok (.aload_n 0, 1) := by decide +kernel
theorem dX3_fastDay_39 : decode cX3_fastDay 39 = .ok (.iconst 0, 1) := by decide +kernel
theorem dX3_fastDay_40 : decode cX3_fastDay 40 = .ok (.putfield 34, 3) := by decide +kernel
theorem dX3_fastDay_43 : decode cX3_fastDay 43 = .ok (.return_, 1) := by decide +kernel
theorem dX3_liveBy_0 : decode cX3_liveBy 0 = .ok (.iload_n 1, 1) := by decide +kernel
theorem dX3_liveBy_1 : decode cX3_liveBy 1 = .ok (.iconst 4, 1) := by decide +kernel
theorem dX3_liveBy_2 : decode cX3_liveBy 2 = .ok (.idiv, 1) := by decide +kernel
theorem dX3_liveBy_3 : decode cX3_liveBy 3 = .ok (.istore_n 2, 1) := by decide +kernel
theorem dX3_liveBy_4 : decode cX3_liveBy 4 = .ok (.iload_n 1, 1) := by decide +kernel
theorem dX3_liveBy_5 : decode cX3_liveBy 5 = .ok (.iconst 4, 1) := by decide +kernel
theorem dX3_liveBy_6 : decode cX3_liveBy 6 = .ok (.irem, 1) := by decide +kernel
theorem dX3_liveBy_7 : decode cX3_liveBy 7 = .ok (.tableswitch 68 0 2 #[25, 33, 55], 25) := by decide +kernel
theorem dX3_liveBy_32 : decode cX3_liveBy 32 = .ok (.aload_n 0, 1) := by decide +kernel
theorem dX3_liveBy_33 : decode cX3_liveBy 33 = .ok (.invokevirtual 75, 3) := by decide +kernel
theorem dX3_liveBy_36 : decode cX3_liveBy 36 = .ok (.pop, 1) := by decide +kernel
theorem dX3_liveBy_37 : decode cX3_liveBy 37 = .ok (.goto 42, 3) := by decide +kernel
theorem dX3_liveBy_40 : decode cX3_liveBy 40 = .ok (.iload_n 2, 1) := by decide +kernel
theorem dX3_liveBy_41 : decode cX3_liveBy 41 = .ok (.bipush 60, 2) := by decide +kernel
theorem dX3_liveBy_43 : decode cX3_liveBy 43 = .ok (.irem, 1) := by decide +kernel
theorem dX3_liveBy_44 : decode cX3_liveBy 44 = .ok (.aload_n 0, 1) := by decide +kernel
theorem dX3_liveBy_45 : decode cX3_liveBy 45 = .ok (.getfield 31, 3) := by decide +kernel
theorem dX3_liveBy_48 : decode cX3_liveBy 48 = .ok (.if_icmp .le 31, 3) := by decide +kernel
theorem dX3_liveBy_51 : decode cX3_liveBy 51 = .ok (.aload_n 0, 1) := by decide +kernel
theorem dX3_liveBy_52 : decode cX3_liveBy 52 = .ok (.iload_n 2, 1) := by decide +kernel
theorem dX3_liveBy_53 : decode cX3_liveBy 53 = .ok (.bipush 60, 2) := by decide +kernel
theorem dX3_liveBy_55 : decode cX3_liveBy 55 = .ok (.irem, 1) := by decide +kernel
theorem dX3_liveBy_56 : decode cX3_liveBy 56 = .ok (.invokevirtual 88, 3) := by decide +kernel
theorem dX3_liveBy_59 : decode cX3_liveBy 59 = .ok (.goto 20, 3) := by decide +kernel
theorem dX3_liveBy_62 : decode cX3_liveBy 62 = .ok (.iload_n 2, 1) := by decide +kernel
theorem dX3_liveBy_63 : decode cX3_liveBy 63 = .ok (.iconst 3, 1) := by decide +kernel
theorem dX3_liveBy_64 : decode cX3_liveBy 64 = .ok (.irem, 1) := by decide +kernel
theorem dX3_liveBy_65 : decode cX3_liveBy 65 = .ok (.ifCond .ne 14, 3) := by decide +kernel
theorem dX3_liveBy_68 : decode cX3_liveBy 68 = .ok (.aload_n 0, 1) := by decide +kernel
theorem dX3_liveBy_69 : decode cX3_liveBy 69 = .ok (.invokevirtual 92, 3) := by decide +kernel
theorem dX3_liveBy_72 : decode cX3_liveBy 72 = .ok (.goto 7, 3) := by decide +kernel
theorem dX3_liveBy_75 : decode cX3_liveBy 75 = .ok (.aload_n 0, 1) := by decide +kernel
theorem dX3_liveBy_76 : decode cX3_liveBy 76 = .ok (.invokevirtual 95, 3) := by decide +kernel
theorem dX3_liveBy_79 : decode cX3_liveBy 79 = .ok (.return_, 1) := by decide +kernel
theorem dX3_hungerOfAll_0 : decode cX3_hungerOfAll 0 = .ok (.aload_n 0, 1) := by decide +kernel
theorem dX3_hungerOfAll_1 : decode cX3_hungerOfAll 1 = .ok (.aload_n 0, 1) := by decide +kernel
theorem dX3_hungerOfAll_2 : decode cX3_hungerOfAll 2 = .ok (.getfield 18, 3) := by decide +kernel
theorem dX3_hungerOfAll_5 : decode cX3_hungerOfAll 5 = .ok (.invokevirtual 98, 3) := by decide +kernel
theorem dX3_hungerOfAll_8 : decode cX3_hungerOfAll 8 = .ok (.ireturn, 1) := by decide +kernel
theorem dX3_eatenInAll_0 : decode cX3_eatenInAll 0 = .ok (.aload_n 0, 1) := by decide +kernel
theorem dX3_eatenInAll_1 : decode cX3_eatenInAll 1 = .ok (.aload_n 0, 1) := by decide +kernel
theorem dX3_eatenInAll_2 : decode cX3_eatenInAll 2 = .ok (.getfield 24, 3) := by decide +kernel
theorem dX3_eatenInAll_5 : decode cX3_eatenInAll 5 = .ok (.invokevirtual 98, 3) := by decide +kernel
theorem dX3_eatenInAll_8 : decode cX3_eatenInAll 8 = .ok (.ireturn, 1) := by decide +kernel
theorem dX3_sum_0 : decode cX3_sum 0 = .ok (.iconst 0, 1) := by decide +kernel
theorem dX3_sum_1 : decode cX3_sum 1 = .ok (.istore_n 2, 1) := by decide +kernel
theorem dX3_sum_2 : decode cX3_sum 2 = .ok (.iconst 0, 1) := by decide +kernel
theorem dX3_sum_3 : decode cX3_sum 3 = .ok (.istore_n 3, 1) := by decide +kernel
theorem dX3_sum_4 : decode cX3_sum 4 = .ok (.iload_n 3, 1) := by decide +kernel
theorem dX3_sum_5 : decode cX3_sum 5 = .ok (.aload_n 0, 1) := by decide +kernel
theorem dX3_sum_6 : decode cX3_sum 6 = .ok (.getfield 27, 3) := by decide +kernel
theorem dX3_sum_9 : decode cX3_sum 9 = .ok (.if_icmp .ge 21, 3) := by decide +kernel
theorem dX3_sum_12 : decode cX3_sum 12 = .ok (.iload_n 3, 1) := by decide +kernel
theorem dX3_sum_13 : decode cX3_sum 13 = .ok (.aload_n 1, 1) := by decide +kernel
theorem dX3_sum_14 : decode cX3_sum 14 = .ok (.arraylength, 1) := by decide +kernel
theorem dX3_sum_15 : decode cX3_sum 15 = .ok (.if_icmp .ge 15, 3) := by decide +kernel
theorem dX3_sum_18 : decode cX3_sum 18 = .ok (.iload_n 2, 1) := by decide +kernel
theorem dX3_sum_19 : decode cX3_sum 19 = .ok (.aload_n 1, 1) := by decide +kernel
theorem dX3_sum_20 : decode cX3_sum 20 = .ok (.iload_n 3, 1) := by decide +kernel
theorem dX3_sum_21 : decode cX3_sum 21 = .ok (.iaload, 1) := by decide +kernel
theorem dX3_sum_22 : decode cX3_sum 22 = .ok (.iadd, 1) := by decide +kernel
theorem dX3_sum_23 : decode cX3_sum 23 = .ok (.istore_n 2, 1) := by decide +kernel
theorem dX3_sum_24 : decode cX3_sum 24 = .ok (.iinc 3 1, 3) := by decide +kernel
theorem dX3_sum_27 : decode cX3_sum 27 = .ok (.goto (-23), 3) := by decide +kernel
theorem dX3_sum_30 : decode cX3_sum 30 = .ok (.iload_n 2, 1) := by decide +kernel
theorem dX3_sum_31 : decode cX3_sum 31 = .ok (.ireturn, 1) := by decide +kernel
