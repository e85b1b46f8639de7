theorem dX5_init_0 : decode cX5_init 0 = .ok (.aload_n 0, 1) := by decide +kernel
theorem dX5_init_1 : decode cX5_init 1 = .ok (.invokespecial 1, 3) := by decide +kernel
theorem dX5_init_4 : decode cX5_init 4 = .ok (.aload_n 0, 1) := by decide +kernel
theorem dX5_init_5 : decode cX5_init 5 = .ok (.new 7, 3) := by decide +kernel
theorem dX5_init_8 : decode cX5_init 8 = .ok (.dup, 1) := by decide +kernel
theorem dX5_init_9 : decode cX5_init 9 = .ok (.invokespecial 9, 3) := by decide +kernel
theorem dX5_init_12 : decode cX5_init 12 = .ok (.putfield 10, 3) := by decide +kernel
theorem dX5_init_15 : decode cX5_init 15 = .ok (.aload_n 0, 1) := by decide +kernel
theorem dX5_init_16 : decode cX5_init 16 = .ok (.new 16, 3) := by decide +kernel
theorem dX5_init_19 : decode cX5_init 19 = .ok (.dup, 1) := by decide +kernel
theorem dX5_init_20 : decode cX5_init 20 = .ok (.invokespecial 18, 3) := by decide +kernel
theorem dX5_init_23 : decode cX5_init 23 = .ok (.putfield 19, 3) := by decide +kernel
theorem dX5_init_26 : decode cX5_init 26 = .ok (.aload_n 0, 1) := by decide +kernel
theorem dX5_init_27 : decode cX5_init 27 = .ok (.new 16, 3) := by decide +kernel
theorem dX5_init_30 : decode cX5_init 30 = .ok (.dup, 1) := by decide +kernel
theorem dX5_init_31 : decode cX5_init 31 = .ok (.invokespecial 18, 3) := by decide +kernel
theorem dX5_init_34 : decode cX5_init 34 = .ok (.putfield 23, 3) := by decide +kernel
theorem dX5_init_37 : decode cX5_init 37 = .ok (.aload_n 0, 1) := by decide +kernel
theorem dX5_init_38 : decode cX5_init 38 = .ok (.new 26, 3) := by decide +kernel
theorem dX5_init_41 : decode cX5_init 41 = .ok (.dup, 1) := by decide +kernel
theorem dX5_init_42 : decode cX5_init 42 = .ok (.invokespecial 28, 3) := by decide +kernel
theorem dX5_init_45 : decode cX5_init 45 = .ok (.putfield 29, 3) := by decide +kernel
theorem dX5_init_48 : decode cX5_init 48 = .ok (.aload_n 0, 1) := by decide +kernel
theorem dX5_init_49 : decode cX5_init 49 = .ok (.new 33, 3) := by decide +kernel
theorem dX5_init_52 : decode cX5_init 52 = .ok (.dup, 1) := by decide +kernel
theorem dX5_init_53 : decode cX5_init 53 = .ok (.invokespecial 35, 3) := by decide +kernel
theorem dX5_init_56 : decode cX5_init 56 = .ok (.putfield 36, 3) := by decide +kernel
theorem dX5_init_59 : decode cX5_init 59 = .ok (.aload_n 0, 1) := by decide +kernel
theorem dX5_init_60 : decode cX5_init 60 = .ok (.new 40, 3) := by decide +kernel
theorem dX5_init_63 : decode cX5_init 63 = .ok (.dup, 1) := by decide +kernel
theorem dX5_init_64 : decode cX5_init 64 = .ok (.bipush 8, 2) := by decide +kernel
theorem dX5_init_66 : decode cX5_init 66 = .ok (.invokespecial 42, 3) := by decide +kernel
theorem dX5_init_69 : decode cX5_init 69 = .ok (.putfield 45, 3) := by decide +kernel
theorem dX5_init_72 : decode cX5_init 72 = .ok (.aload_n 0, 1) := by decide +kernel
theorem dX5_init_73 : decode cX5_init 73 = .ok (.new 40, 3) := by decide +kernel
theorem dX5_init_76 : decode cX5_init 76 = .ok (.dup, 1) := by decide +kernel
theorem dX5_init_77 : decode cX5_init 77 = .ok (.iconst 2, 1) := by decide +kernel
theorem dX5_init_78 : decode cX5_init 78 = .ok (.invokespecial 42, 3) := by decide +kernel
theorem dX5_init_81 : decode cX5_init 81 = .ok (.putfield 49, 3) := by decide +kernel
theorem dX5_init_84 : decode cX5_init 84 = .ok (.iconst 0, 1) := by decide +kernel
theorem dX5_init_85 : decode cX5_init 85 = .ok (.istore_n 1, 1) := by decide +kernel
theorem dX5_init_86 : decode cX5_init 86 = .ok (.iload_n 1, 1) := by decide +kernel
theorem dX5_init_87 : decode cX5_init 87 = .ok (.ldc 52, 2) := by decide +kernel
theorem dX5_init_89 : decode cX5_init 89 = .ok (.invokevirtual 54, 3) := by decide +kernel
theorem dX5_init_92 : decode cX5_init 92 = .ok (.if_icmp .ge 23, 3) := by decide +kernel
theorem dX5_init_95 : decode cX5_init 95 = .ok (.aload_n 0, 1) := by decide +kernel
theorem dX5_init_96 : decode cX5_init 96 = .ok (.getfield 10, 3) := by decide +kernel
theorem dX5_init_99 : decode cX5_init 99 = .ok (.ldc 52, 2) := by decide +kernel
theorem dX5_init_101 : decode cX5_init 101 = .ok (.iload_n 1, 1) := by decide +kernel
theorem dX5_init_102 : decode cX5_init 102 = .ok (.invokevirtual 60, 3) := by decide +kernel
theorem dX5_init_105 : decode cX5_init 105 = .ok (.invokevirtual 64, 3) := by decide +kernel
theorem dX5_init_108 : decode cX5_init 108 = .ok (.pop, 1) := by decide +kernel
theorem dX5_init_109 : decode cX5_init 109 = .ok (.iinc 1 1, 3) := by decide +kernel
theorem dX5_init_112 : decode cX5_init 112 = .ok (.goto (-26), 3) := by decide +kernel
theorem dX5_init_115 : decode cX5_init 115 = .ok (.aload_n 0, 1) := by decide +kernel
theorem dX5_init_116 : decode cX5_init 116 = .ok (.getfield 10, 3) := by decide +kernel
theorem dX5_init_119 : decode cX5_init 119 = .ok (.aload_n 0, 1) := by decide +kernel
theorem dX5_init_120 : decode cX5_init 120 = .ok (.getfield 19, 3) := by decide +kernel
theorem dX5_init_123 : decode cX5_init 123 = .ok (.invokevirtual 68, 3) := by decide +kernel
theorem dX5_init_126 : decode cX5_init 126 = .ok (.pop, 1) := by decide +kernel
theorem dX5_init_127 : decode cX5_init 127 = .ok (.aload_n 0, 1) := by decide +kernel
theorem dX5_init_128 : decode cX5_init 128 = .ok (.getfield 10, 3) := by decide +kernel
theorem dX5_init_131 : decode cX5_init 131 = .ok (.invokevirtual 72, 3) := by decide +kernel
theorem dX5_init_134 : decode cX5_init 134 = .ok (.return_, 1) := by decide +kernel
theorem dX5_write_0 : decode cX5_write 0 = .ok (.iload_n 1, 1) := by decide +kernel
theorem dX5_write_1 : decode cX5_write 1 = .ok (.bipush 32, 2) := by decide +kernel
theorem dX5_write_3 : decode cX5_write 3 = .ok (.bipush 126, 2) := by decide +kernel
theorem dX5_write_5 : decode cX5_write 5 = .ok (.invokestatic 75, 3) := by decide +kernel
theorem dX5_write_8 : decode cX5_write 8 = .ok (.ifCond .eq 5, 3) := by decide +kernel
theorem dX5_write_11 : decode cX5_write 11 = .ok (.iconst (-1), 1) := by decide +kernel
theorem dX5_write_12 : decode cX5_write 12 = .ok (.ireturn, 1) := by decide +kernel
theorem dX5_write_13 : decode cX5_write 13 = .ok (.aload_n 0, 1) := by decide +kernel
theorem dX5_write_14 : decode cX5_write 14 = .ok (.getfield 10, 3) := by decide +kernel
theorem dX5_write_17 : decode cX5_write 17 = .ok (.iload_n 1, 1) := by decide +kernel
theorem dX5_write_18 : decode cX5_write 18 = .ok (.i2c, 1) := by decide +kernel
theorem dX5_write_19 : decode cX5_write 19 = .ok (.invokevirtual 64, 3) := by decide +kernel
theorem dX5_write_22 : decode cX5_write 22 = .ok (.ifCond .eq 13, 3) := by decide +kernel
theorem dX5_write_25 : decode cX5_write 25 = .ok (.aload_n 0, 1) := by decide +kernel
theorem dX5_write_26 : decode cX5_write 26 = .ok (.getfield 10, 3) := by decide +kernel
theorem dX5_write_29 : decode cX5_write 29 = .ok (.getfield 79, 3) := by decide +kernel
theorem dX5_write_32 : decode cX5_write 32 = .ok (.goto 5, 3) := by decide +kernel
theorem dX5_write_35 : decode cX5_write 35 = .ok (.bipush (-3), 2) := by decide +kernel
theorem dX5_write_37 : decode cX5_write 37 = .ok (.ireturn, 1) := by decide +kernel
theorem dX5_wipe_0 : decode cX5_wipe 0 = .ok (.aload_n 0, 1) := by decide +kernel
theorem dX5_wipe_1 : decode cX5_wipe 1 = .ok (.getfield 10, 3) := by decide +kernel
theorem dX5_wipe_4 : decode cX5_wipe 4 = .ok (.getfield 79, 3) := by decide +kernel
theorem dX5_wipe_7 : decode cX5_wipe 7 = .ok (.istore_n 1, 1) := by decide +kernel
theorem dX5_wipe_8 : decode cX5_wipe 8 = .ok (.aload_n 0, 1) := by decide +kernel
theorem dX5_wipe_9 : decode cX5_wipe 9 = .ok (.getfield 10, 3) := by decide +kernel
theorem dX5_wipe_12 : decode cX5_wipe 12 = .ok (.invokevirtual 72, 3) := by decide +kernel
theorem dX5_wipe_15 : decode cX5_wipe 15 = .ok (.iload_n 1, 1) := by decide +kernel
theorem dX5_wipe_16 : decode cX5_wipe 16 = .ok (.ireturn, 1) := by decide +kernel
theorem dX5_fault_0 : decode cX5_fault 0 = .ok (.aload_n 0, 1) := by decide +kernel
theorem dX5_fault_1 : decode cX5_fault 1 = .ok (.getfield 10, 3) := by decide +kernel
theorem dX5_fault_4 : decode cX5_fault 4 = .ok (.aload_n 0, 1) := by decide +kernel
theorem dX5_fault_5 : decode cX5_fault 5 = .ok (.getfield 23, 3) := by decide +kernel
theorem dX5_fault_8 : decode cX5_fault 8 = .ok (.invokevirtual 68, 3) := by decide +kernel
theorem dX5_fault_11 : decode cX5_fault 11 = .ok (.ireturn, 1) := by decide +kernel
theorem dX5_lay_0 : decode cX5_lay 0 = .ok (.aload_n 0, 1) := by decide +kernel
theorem dX5_lay_1 : decode cX5_lay 1 = .ok (.getfield 10, 3) := by decide +kernel
theorem dX5_lay_4 : decode cX5_lay 4 = .ok (.aload_n 0, 1) := by decide +kernel
theorem dX5_lay_5 : decode cX5_lay 5 = .ok (.getfield 23, 3) := by decide +kernel
theorem dX5_lay_8 : decode cX5_lay 8 = .ok (.invokevirtual 68, 3) := by decide +kernel
theorem dX5_lay_11 : decode cX5_lay 11 = .ok (.bipush (-4), 2) := by decide +kernel
theorem dX5_lay_13 : decode cX5_lay 13 = .ok (.if_icmp .ne 13, 3) := by decide +kernel
theorem dX5_lay_16 : decode cX5_lay 16 = .ok (.aload_n 0, 1) := by decide +kernel
theorem dX5_lay_17 : decode cX5_lay 17 = .ok (.getfield 23, 3) := by decide +kernel
theorem dX5_lay_20 : decode cX5_lay 20 = .ok (.getfield 82, 3) := by decide +kernel
theorem dX5_lay_23 : decode cX5_lay 23 = .ok (.ifCond .ne 6, 3) := by decide +kernel
theorem dX5_lay_26 : decode cX5_lay 26 = .ok (.bipush (-2), 2) := by decide +kernel
theorem dX5_lay_28 : decode cX5_lay 28 = .ok (.ireturn, 1) := by decide +kernel
theorem dX5_lay_29 : decode cX5_lay 29 = .ok (.aload_n 0, 1) := by decide +kernel
theorem dX5_lay_30 : decode cX5_lay 30 = .ok (.getfield 19, 3) := by decide +kernel
theorem dX5_lay_33 : decode cX5_lay 33 = .ok (.aload_n 0, 1) := by decide +kernel
theorem dX5_lay_34 : decode cX5_lay 34 = .ok (.getfield 23, 3) := by decide +kernel
theorem dX5_lay_37 : decode cX5_lay 37 = .ok (.invokevirtual 85, 3) := by decide +kernel
theorem dX5_lay_40 : decode cX5_lay 40 = .ok (.aload_n 0, 1) := by decide +kernel
theorem dX5_lay_41 : decode cX5_lay 41 = .ok (.getfield 36, 3) := by decide +kernel
theorem dX5_lay_44 : decode cX5_lay 44 = .ok (.invokevirtual 89, 3) := by decide +kernel
theorem dX5_lay_47 : decode cX5_lay 47 = .ok (.aload_n 0, 1) := by decide +kernel
theorem dX5_lay_48 : decode cX5_lay 48 = .ok (.getfield 45, 3) := by decide +kernel
theorem dX5_lay_51 : decode cX5_lay 51 = .ok (.invokevirtual 90, 3) := by decide +kernel
theorem dX5_lay_54 : decode cX5_lay 54 = .ok (.aload_n 0, 1) := by decide +kernel
theorem dX5_lay_55 : decode cX5_lay 55 = .ok (.getfield 49, 3) := by decide +kernel
theorem dX5_lay_58 : decode cX5_lay 58 = .ok (.invokevirtual 90, 3) := by decide +kernel
theorem dX5_lay_61 : decode cX5_lay 61 = .ok (.aload_n 0, 1) := by decide +kernel
theorem dX5_lay_62 : decode cX5_lay 62 = .ok (.getfield 19, 3) := by decide +kernel
theorem dX5_lay_65 : decode cX5_lay 65 = .ok (.getfield 82, 3) := by decide +kernel
theorem dX5_lay_68 : decode cX5_lay 68 = .ok (.ireturn, 1) := by decide +kernel
theorem dX5_member_0 : decode cX5_member 0 = .ok (.aload_n 0, 1) := by decide +kernel
theorem dX5_member_1 : decode cX5_member 1 = .ok (.iload_n 1, 1) := by decide +kernel
theorem dX5_member_2 : decode cX5_member 2 = .ok (.invokevirtual 91, 3) := by decide +kernel
theorem dX5_member_5 : decode cX5_member 5 = .ok (.ifCond .eq 5, 3) := by decide +kernel
theorem dX5_member_8 : decode cX5_member 8 = .ok (.iconst (-1), 1) := by decide +kernel
theorem dX5_member_9 : decode cX5_member 9 = .ok (.ireturn, 1) := by decide +kernel
theorem dX5_member_10 : decode cX5_member 10 = .ok (.iload_n 2, 1) := by decide +kernel
theorem dX5_member_11 : decode cX5_member 11 = .ok (.tableswitch 96 0 5 #[37, 47, 57, 67, 77, 87], 37) := by decide +kernel
theorem dX5_member_48 : decode cX5_member 48 = .ok (.aload_n 0, 1) := by decide +kernel
theorem dX5_member_49 : decode cX5_member 49 = .ok (.getfield 19, 3) := by decide +kernel
theorem dX5_member_52 : decode cX5_member 52 = .ok (.getfield 95, 3) := by decide +kernel
theorem dX5_member_55 : decode cX5_member 55 = .ok (.iload_n 1, 1) := by decide +kernel
theorem dX5_member_56 : decode cX5_member 56 = .ok (.iaload, 1) := by decide +kernel
theorem dX5_member_57 : decode cX5_member 57 = .ok (.ireturn, 1) := by decide +kernel
theorem dX5_member_58 : decode cX5_member 58 = .ok (.aload_n 0, 1) := by decide +kernel
theorem dX5_member_59 : decode cX5_member 59 = .ok (.getfield 19, 3) := by decide +kernel
theorem dX5_member_62 : decode cX5_member 62 = .ok (.getfield 99, 3) := by decide +kernel
theorem dX5_member_65 : decode cX5_member 65 = .ok (.iload_n 1, 1) := by decide +kernel
theorem dX5_member_66 : decode cX5_member 66 = .ok (.iaload, 1) := by decide +kernel
theorem dX5_member_67 : decode cX5_member 67 = .ok (.ireturn, 1) := by decide +kernel
theorem dX5_member_68 : decode cX5_member 68 = .ok (.aload_n 0, 1) := by decide +kernel
theorem dX5_member_69 : decode cX5_member 69 = .ok (.getfield 19, 3) := by decide +kernel
theorem dX5_member_72 : decode cX5_member 72 = .ok (.getfield 102, 3) := by decide +kernel
theorem dX5_member_75 : decode cX5_member 75 = .ok (.iload_n 1, 1) := by decide +kernel
theorem dX5_member_76 : decode cX5_member 76 = .ok (.iaload, 1) := by decide +kernel
theorem dX5_member_77 : decode cX5_member 77 = .ok (.ireturn, 1) := by decide +kernel
theorem dX5_member_78 : decode cX5_member 78 = .ok (.aload_n 0, 1) := by decide +kernel
theorem dX5_member_79 : decode cX5_member 79 = .ok (.getfield 19, 3) := by decide +kernel
theorem dX5_member_82 : decode cX5_member 82 = .ok (.getfield 105, 3) := by decide +kernel
theorem dX5_member_85 : decode cX5_member 85 = .ok (.iload_n 1, 1) := by decide +kernel
theorem dX5_member_86 : decode cX5_member 86 = .ok (.iaload, 1) := by decide +kernel
theorem dX5_member_87 : decode cX5_member 87 = .ok (.ireturn, 1) := by decide +kernel
theorem dX5_member_88 : decode cX5_member 88 = .ok (.aload_n 0, 1) := by decide +kernel
theorem dX5_member_89 : decode cX5_member 89 = .ok (.getfield 19, 3) := by decide +kernel
theorem dX5_member_92 : decode cX5_member 92 = .ok (.getfield 108, 3) := by decide +kernel
theorem dX5_member_95 : decode cX5_member 95 = .ok (.iload_n 1, 1) := by decide +kernel
theorem dX5_member_96 : decode cX5_member 96 = .ok (.iaload, 1) := by decide +kernel
theorem dX5_member_97 : decode cX5_member 97 = .ok (.ireturn, 1) := by decide +kernel
theorem dX5_member_98 : decode cX5_member 98 = .ok (.aload_n 0, 1) := by decide +kernel
theorem dX5_member_99 : decode cX5_member 99 = .ok (.getfield 19, 3) := by decide +kernel
theorem dX5_member_102 : decode cX5_member 102 = .ok (.iload_n 1, 1) := by decide +kernel
theorem dX5_member_103 : decode cX5_member 103 = .ok (.invokevirtual 111, 3) := by decide +kernel
theorem dX5_member_106 : decode cX5_member 106 = .ok (.ireturn, 1) := by decide +kernel
theorem dX5_member_107 : decode cX5_member 107 = .ok (.iconst (-1), 1) := by decide +kernel
theorem dX5_member_108 : decode cX5_member 108 = .ok (.ireturn, 1) := by decide +kernel
theorem dX5_eat_0 : decode cX5_eat 0 = .ok (.iload_n 1, 1) := by decide +kernel
theorem dX5_eat_1 : decode cX5_eat 1 = .ok (.iconst 1, 1) := by decide +kernel
theorem dX5_eat_2 : decode cX5_eat 2 = .ok (.bipush 20, 2) := by decide +kernel
theorem dX5_eat_4 : decode cX5_eat 4 = .ok (.invokestatic 75, 3) := by decide +kernel
theorem dX5_eat_7 : decode cX5_eat 7 = .ok (.ifCond .eq 5, 3) := by decide +kernel
theorem dX5_eat_10 : decode cX5_eat 10 = .ok (.iconst (-1), 1) := by decide +kernel
theorem dX5_eat_11 : decode cX5_eat 11 = .ok (.ireturn, 1) := by decide +kernel
theorem dX5_eat_12 : decode cX5_eat 12 = .ok (.aload_n 0, 1) := by decide +kernel
theorem dX5_eat_13 : decode cX5_eat 13 = .ok (.getfield 45, 3) := by decide +kernel
theorem dX5_eat_16 : decode cX5_eat 16 = .ok (.aload_n 0, 1) := by decide +kernel
theorem dX5_eat_17 : decode cX5_eat 17 = .ok (.getfield 19, 3) := by decide +kernel
theorem dX5_eat_20 : decode cX5_eat 20 = .ok (.invokevirtual 115, 3) := by decide +kernel
theorem dX5_eat_23 : decode cX5_eat 23 = .ok (.aload_n 0, 1) := by decide +kernel
theorem dX5_eat_24 : decode cX5_eat 24 = .ok (.getfield 19, 3) := by decide +kernel
theorem dX5_eat_27 : decode cX5_eat 27 = .ok (.getfield 118, 3) := by decide +kernel
theorem dX5_eat_30 : decode cX5_eat 30 = .ok (.istore_n 2, 1) := by decide +kernel
theorem dX5_eat_31 : decode cX5_eat 31 = .ok (.aload_n 0, 1) := by decide +kernel
theorem dX5_eat_32 : decode cX5_eat 32 = .ok (.getfield 19, 3) := by decide +kernel
theorem dX5_eat_35 : decode cX5_eat 35 = .ok (.iload_n 1, 1) := by decide +kernel
theorem dX5_eat_36 : decode cX5_eat 36 = .ok (.invokevirtual 121, 3) := by decide +kernel
theorem dX5_eat_39 : decode cX5_eat 39 = .ok (.pop, 1) := by decide +kernel
theorem dX5_eat_40 : decode cX5_eat 40 = .ok (.iload_n 2, 1) := by decide +kernel
theorem dX5_eat_41 : decode cX5_eat 41 = .ok (.aload_n 0, 1) := by decide +kernel
theorem dX5_eat_42 : decode cX5_eat 42 = .ok (.getfield 19, 3) := by decide +kernel
theorem dX5_eat_45 : decode cX5_eat 45 = .ok (.getfield 118, 3) := by decide +kernel
theorem dX5_eat_48 : decode cX5_eat 48 = .ok (.isub, 1) := by decide +kernel
theorem dX5_eat_49 : decode cX5_eat 49 = .ok (.ireturn, 1) := by decide +kernel
theorem dX5_salt_0 : decode cX5_salt 0 = .ok (.aload_n 0, 1) := by decide +kernel
theorem dX5_salt_1 : decode cX5_salt 1 = .ok (.getfield 19, 3) := by decide +kernel
theorem dX5_salt_4 : decode cX5_salt 4 = .ok (.getfield 124, 3) := by decide +kernel
theorem dX5_salt_7 : decode cX5_salt 7 = .ok (.bipush 9, 2) := by decide +kernel
theorem dX5_salt_9 : decode cX5_salt 9 = .ok (.if_icmp .lt 6, 3) := by decide +kernel
theorem dX5_salt_12 : decode cX5_salt 12 = .ok (.bipush (-2), 2) := by decide +kernel
theorem dX5_salt_14 : decode cX5_salt 14 = .ok (.ireturn, 1) := by decide +kernel
theorem dX5_salt_15 : decode cX5_salt 15 = .ok (.aload_n 0, 1) := by decide +kernel
theorem dX5_salt_16 : decode cX5_salt 16 = .ok (.getfield 45, 3) := by decide +kernel
theorem dX5_salt_19 : decode cX5_salt 19 = .ok (.aload_n 0, 1) := by decide +kernel
theorem dX5_salt_20 : decode cX5_salt 20 = .ok (.getfield 19, 3) := by decide +kernel
theorem dX5_salt_23 : decode cX5_salt 23 = .ok (.invokevirtual 115, 3) := by decide +kernel
theorem dX5_salt_26 : decode cX5_salt 26 = .ok (.aload_n 0, 1) := by decide +kernel
theorem dX5_salt_27 : decode cX5_salt 27 = .ok (.getfield 19, 3) := by decide +kernel
theorem dX5_salt_30 : decode cX5_salt 30 = .ok (.invokevirtual 127, 3) := by decide +kernel
theorem dX5_salt_33 : decode cX5_salt 33 = .ok (.aload_n 0, 1) := by decide +kernel
theorem dX5_salt_34 : decode cX5_salt 34 = .ok (.getfield 19, 3) := by decide +kernel
theorem dX5_salt_37 : decode cX5_salt 37 = .ok (.getfield 124, 3) := by decide +kernel
theorem dX5_salt_40 : decode cX5_salt 40 = .ok (.ireturn, 1) := by decide +kernel
theorem dX5_cook_0 : decode cX5_cook 0 = .ok (.iload_n 1, 1) := by decide +kernel
theorem dX5_cook_1 : decode cX5_cook 1 = .ok (.iconst 1, 1) := by decide +kernel
theorem dX5_cook_2 : decode cX5_cook 2 = .ok (.bipush 99, 2) := by decide +kernel
theorem dX5_cook_4 : decode cX5_cook 4 = .ok (.invokestatic 75, 3) := by decide +kernel
theorem dX5_cook_7 : decode cX5_cook 7 = .ok (.ifCond .eq 5, 3) := by decide +kernel
theorem dX5_cook_10 : decode cX5_cook 10 = .ok (.iconst (-1), 1) := by decide +kernel
theorem dX5_cook_11 : decode cX5_cook 11 = .ok (.ireturn, 1) := by decide +kernel
theorem dX5_cook_12 : decode cX5_cook 12 = .ok (.iload_n 1, 1) := by decide +kernel
theorem dX5_cook_13 : decode cX5_cook 13 = .ok (.aload_n 0, 1) := by decide +kernel
theorem dX5_cook_14 : decode cX5_cook 14 = .ok (.getfield 19, 3) := by decide +kernel
theorem dX5_cook_17 : decode cX5_cook 17 = .ok (.getfield 118, 3) := by decide +kernel
theorem dX5_cook_20 : decode cX5_cook 20 = .ok (.if_icmp .gt 6, 3) := by decide +kernel
theorem dX5_cook_23 : decode cX5_cook 23 = .ok (.bipush (-2), 2) := by decide +kernel
theorem dX5_cook_25 : decode cX5_cook 25 = .ok (.ireturn, 1) := by decide +kernel
theorem dX5_cook_26 : decode cX5_cook 26 = .ok (.aload_n 0, 1) := by decide +kernel
theorem dX5_cook_27 : decode cX5_cook 27 = .ok (.getfield 45, 3) := by decide +kernel
theorem dX5_cook_30 : decode cX5_cook 30 = .ok (.aload_n 0, 1) := by decide +kernel
theorem dX5_cook_31 : decode cX5_cook 31 = .ok (.getfield 19, 3) := by decide +kernel
theorem dX5_cook_34 : decode cX5_cook 34 = .ok (.invokevirtual 115, 3) := by decide +kernel
theorem dX5_cook_37 : decode cX5_cook 37 = .ok (.aload_n 0, 1) := by decide +kernel
theorem dX5_cook_38 : decode cX5_cook 38 = .ok (.getfield 19, 3) := by decide +kernel
theorem dX5_cook_41 : decode cX5_cook 41 = .ok (.iload_n 1, 1) := by decide +kernel
theorem dX5_cook_42 : decode cX5_cook 42 = .ok (.invokevirtual 130, 3) := by decide +kernel
theorem dX5_cook_45 : decode cX5_cook 45 = .ok (.aload_n 0, 1) := by decide +kernel
theorem dX5_cook_46 : decode cX5_cook 46 = .ok (.getfield 19, 3) := by decide +kernel
theorem dX5_cook_49 : decode cX5_cook 49 = .ok (.getfield 118, 3) := by decide +kernel
theorem dX5_cook_52 : decode cX5_cook 52 = .ok (.ireturn, 1) := by decide +kernel
theorem dX5_cool_0 : decode cX5_cool 0 = .ok (.aload_n 0, 1) := by decide +kernel
theorem dX5_cool_1 : decode cX5_cool 1 = .ok (.getfield 19, 3) := by decide +kernel
theorem dX5_cool_4 : decode cX5_cool 4 = .ok (.getfield 133, 3) := by decide +kernel
theorem dX5_cool_7 : decode cX5_cool 7 = .ok (.ifCond .gt 6, 3) := by decide +kernel
theorem dX5_cool_10 : decode cX5_cool 10 = .ok (.bipush (-2), 2) := by decide +kernel
theorem dX5_cool_12 : decode cX5_cool 12 = .ok (.ireturn, 1) := by decide +kernel
theorem dX5_cool_13 : decode cX5_cool 13 = .ok (.aload_n 0, 1) := by decide +kernel
theorem dX5_cool_14 : decode cX5_cool 14 = .ok (.getfield 45, 3) := by decide +kernel
theorem dX5_cool_17 : decode cX5_cool 17 = .ok (.aload_n 0, 1) := by decide +kernel
theorem dX5_cool_18 : decode cX5_cool 18 = .ok (.getfield 19, 3) := by decide +kernel
theorem dX5_cool_21 : decode cX5_cool 21 = .ok (.invokevirtual 115, 3) := by decide +kernel
theorem dX5_cool_24 : decode cX5_cool 24 = .ok (.aload_n 0, 1) := by decide +kernel
theorem dX5_cool_25 : decode cX5_cool 25 = .ok (.getfield 19, 3) := by decide +kernel
theorem dX5_cool_28 : decode cX5_cool 28 = .ok (.invokevirtual 136, 3) := by decide +kernel
theorem dX5_cool_31 : decode cX5_cool 31 = .ok (.aload_n 0, 1) := by decide +kernel
theorem dX5_cool_32 : decode cX5_cool 32 = .ok (.getfield 19, 3) := by decide +kernel
theorem dX5_cool_35 : decode cX5_cool 35 = .ok (.getfield 133, 3) := by decide +kernel
theorem dX5_cool_38 : decode cX5_cool 38 = .ok (.ireturn, 1) := by decide +kernel
theorem dX5_trade_0 : decode cX5_trade 0 = .ok (.aload_n 0, 1) := by decide +kernel
theorem dX5_trade_1 : decode cX5_trade 1 = .ok (.iload_n 1, 1) := by decide +kernel
theorem dX5_trade_2 : decode cX5_trade 2 = .ok (.invokevirtual 91, 3) := by decide +kernel
theorem dX5_trade_5 : decode cX5_trade 5 = .ok (.ifCond .ne 16, 3) := by decide +kernel
theorem dX5_trade_8 : decode cX5_trade 8 = .ok (.aload_n 0, 1) := by decide +kernel
theorem dX5_trade_9 : decode cX5_trade 9 = .ok (.iload_n 2, 1) := by decide +kernel
theorem dX5_trade_10 : decode cX5_trade 10 = .ok (.invokevirtual 91, 3) := by decide +kernel
theorem dX5_trade_13 : decode cX5_trade 13 = .ok (.ifCond .ne 8, 3) := by decide +kernel
theorem dX5_trade_16 : decode cX5_trade 16 = .ok (.iload_n 1, 1) := by decide +kernel
theorem dX5_trade_17 : decode cX5_trade 17 = .ok (.iload_n 2, 1) := by decide +kernel
theorem dX5_trade_18 : decode cX5_trade 18 = .ok (.if_icmp .ne 5, 3) := by decide +kernel
theorem dX5_trade_21 : decode cX5_trade 21 = .ok (.iconst (-1), 1) := by decide +kernel
theorem dX5_trade_22 : decode cX5_trade 22 = .ok (.ireturn, 1) := by decide +kernel
theorem dX5_trade_23 : decode cX5_trade 23 = .ok (.aload_n 0, 1) := by decide +kernel
theorem dX5_trade_24 : decode cX5_trade 24 = .ok (.getfield 45, 3) := by decide +kernel
theorem dX5_trade_27 : decode cX5_trade 27 = .ok (.aload_n 0, 1) := by decide +kernel
theorem dX5_trade_28 : decode cX5_trade 28 = .ok (.getfield 19, 3) := by decide +kernel
theorem dX5_trade_31 : decode cX5_trade 31 = .ok (.invokevirtual 115, 3) := by decide +kernel
theorem dX5_trade_34 : decode cX5_trade 34 = .ok (.aload_n 0, 1) := by decide +kernel
theorem dX5_trade_35 : decode cX5_trade 35 = .ok (.getfield 19, 3) := by decide +kernel
theorem dX5_trade_38 : decode cX5_trade 38 = .ok (.iload_n 1, 1) := by decide +kernel
theorem dX5_trade_39 : decode cX5_trade 39 = .ok (.iload_n 2, 1) := by decide +kernel
theorem dX5_trade_40 : decode cX5_trade 40 = .ok (.invokevirtual 139, 3) := by decide +kernel
theorem dX5_trade_43 : decode cX5_trade 43 = .ok (.aload_n 0, 1) := by decide +kernel
theorem dX5_trade_44 : decode cX5_trade 44 = .ok (.getfield 19, 3) := by decide +kernel
theorem dX5_trade_47 : decode cX5_trade 47 = .ok (.getfield 99, 3) := by decide +kernel
theorem dX5_trade_50 : decode cX5_trade 50 = .ok (.iload_n 1, 1) := by decide +kernel
theorem dX5_trade_51 : decode cX5_trade 51 = .ok (.iaload, 1) := by decide +kernel
theorem dX5_trade_52 : decode cX5_trade 52 = .ok (.ireturn, 1) := by decide +kernel
theorem dX5_fast_0 : decode cX5_fast 0 = .ok (.aload_n 0, 1) := by decide +kernel
theorem dX5_fast_1 : decode cX5_fast 1 = .ok (.getfield 45, 3) := by decide +kernel
theorem dX5_fast_4 : decode cX5_fast 4 = .ok (.aload_n 0, 1) := by decide +kernel
theorem dX5_fast_5 : decode cX5_fast 5 = .ok (.getfield 19, 3) := by decide +kernel
theorem dX5_fast_8 : decode cX5_fast 8 = .ok (.invokevirtual 115, 3) := by decide +kernel
theorem dX5_fast_11 : decode cX5_fast 11 = .ok (.aload_n 0, 1) := by decide +kernel
theorem dX5_fast_12 : decode cX5_fast 12 = .ok (.getfield 19, 3) := by decide +kernel
theorem dX5_fast_15 : decode cX5_fast 15 = .ok (.invokevirtual 143, 3) := by decide +kernel
theorem dX5_fast_18 : decode cX5_fast 18 = .ok (.aload_n 0, 1) := by decide +kernel
theorem dX5_fast_19 : decode cX5_fast 19 = .ok (.getfield 19, 3) := by decide +kernel
theorem dX5_fast_22 : decode cX5_fast 22 = .ok (.invokevirtual 146, 3) := by decide +kernel
theorem dX5_fast_25 : decode cX5_fast 25 = .ok (.ireturn, 1) := by decide +kernel
theorem dX5_undo_0 : decode cX5_undo 0 = .ok (.aload_n 0, 1) := by decide +kernel
theorem dX5_undo_1 : decode cX5_undo 1 = .ok (.getfield 45, 3) := by decide +kernel
theorem dX5_undo_4 : decode cX5_undo 4 = .ok (.aload_n 0, 1) := by decide +kernel
theorem dX5_undo_5 : decode cX5_undo 5 = .ok (.getfield 19, 3) := by decide +kernel
theorem dX5_undo_8 : decode cX5_undo 8 = .ok (.invokevirtual 149, 3) := by decide +kernel
theorem dX5_undo_11 : decode cX5_undo 11 = .ok (.ifCond .eq 13, 3) := by decide +kernel
theorem dX5_undo_14 : decode cX5_undo 14 = .ok (.aload_n 0, 1) := by decide +kernel
theorem dX5_undo_15 : decode cX5_undo 15 = .ok (.getfield 45, 3) := by decide +kernel
theorem dX5_undo_18 : decode cX5_undo 18 = .ok (.getfield 153, 3) := by decide +kernel
theorem dX5_undo_21 : decode cX5_undo 21 = .ok (.goto 5, 3) := by decide +kernel
theorem dX5_undo_24 : decode cX5_undo 24 = .ok (.bipush (-2), 2) := by decide +kernel
theorem dX5_undo_26 : decode cX5_undo 26 = .ok (.ireturn, 1) := by decide +kernel
theorem dX5_passes_0 : decode cX5_passes 0 = .ok (.aload_n 0, 1) := by decide +kernel
theorem dX5_passes_1 : decode cX5_passes 1 = .ok (.getfield 23, 3) := by decide +kernel
theorem dX5_passes_4 : decode cX5_passes 4 = .ok (.aload_n 0, 1) := by decide +kernel
theorem dX5_passes_5 : decode cX5_passes 5 = .ok (.getfield 19, 3) := by decide +kernel
theorem dX5_passes_8 : decode cX5_passes 8 = .ok (.invokevirtual 85, 3) := by decide +kernel
theorem dX5_passes_11 : decode cX5_passes 11 = .ok (.aload_n 0, 1) := by decide +kernel
theorem dX5_passes_12 : decode cX5_passes 12 = .ok (.getfield 23, 3) := by decide +kernel
theorem dX5_passes_15 : decode cX5_passes 15 = .ok (.invokevirtual 156, 3) := by decide +kernel
theorem dX5_passes_18 : decode cX5_passes 18 = .ok (.ireturn, 1) := by decide +kernel
theorem dX5_left_0 : decode cX5_left 0 = .ok (.iload_n 1, 1) := by decide +kernel
theorem dX5_left_1 : decode cX5_left 1 = .ok (.iconst 0, 1) := by decide +kernel
theorem dX5_left_2 : decode cX5_left 2 = .ok (.bipush 20, 2) := by decide +kernel
theorem dX5_left_4 : decode cX5_left 4 = .ok (.invokestatic 75, 3) := by decide +kernel
theorem dX5_left_7 : decode cX5_left 7 = .ok (.ifCond .eq 5, 3) := by decide +kernel
theorem dX5_left_10 : decode cX5_left 10 = .ok (.iconst (-1), 1) := by decide +kernel
theorem dX5_left_11 : decode cX5_left 11 = .ok (.ireturn, 1) := by decide +kernel
theorem dX5_left_12 : decode cX5_left 12 = .ok (.aload_n 0, 1) := by decide +kernel
theorem dX5_left_13 : decode cX5_left 13 = .ok (.getfield 23, 3) := by decide +kernel
theorem dX5_left_16 : decode cX5_left 16 = .ok (.aload_n 0, 1) := by decide +kernel
theorem dX5_left_17 : decode cX5_left 17 = .ok (.getfield 19, 3) := by decide +kernel
theorem dX5_left_20 : decode cX5_left 20 = .ok (.invokevirtual 85, 3) := by decide +kernel
theorem dX5_left_23 : decode cX5_left 23 = .ok (.aload_n 0, 1) := by decide +kernel
theorem dX5_left_24 : decode cX5_left 24 = .ok (.getfield 23, 3) := by decide +kernel
theorem dX5_left_27 : decode cX5_left 27 = .ok (.iload_n 1, 1) := by decide +kernel
theorem dX5_left_28 : decode cX5_left 28 = .ok (.invokevirtual 121, 3) := by decide +kernel
theorem dX5_left_31 : decode cX5_left 31 = .ok (.pop, 1) := by decide +kernel
theorem dX5_left_32 : decode cX5_left 32 = .ok (.aload_n 0, 1) := by decide +kernel
theorem dX5_left_33 : decode cX5_left 33 = .ok (.getfield 23, 3) := by decide +kernel
theorem dX5_left_36 : decode cX5_left 36 = .ok (.getfield 118, 3) := by decide +kernel
theorem dX5_left_39 : decode cX5_left 39 = .ok (.ireturn, 1) := by decide +kernel
theorem dX5_scraper_0 : decode cX5_scraper 0 = .ok (.aload_n 0, 1) := by decide +kernel
theorem dX5_scraper_1 : decode cX5_scraper 1 = .ok (.getfield 23, 3) := by decide +kernel
theorem dX5_scraper_4 : decode cX5_scraper 4 = .ok (.aload_n 0, 1) := by decide +kernel
theorem dX5_scraper_5 : decode cX5_scraper 5 = .ok (.getfield 19, 3) := by decide +kernel
theorem dX5_scraper_8 : decode cX5_scraper 8 = .ok (.invokevirtual 85, 3) := by decide +kernel
theorem dX5_scraper_11 : decode cX5_scraper 11 = .ok (.aload_n 0, 1) := by decide +kernel
theorem dX5_scraper_12 : decode cX5_scraper 12 = .ok (.getfield 23, 3) := by decide +kernel
theorem dX5_scraper_15 : decode cX5_scraper 15 = .ok (.aload_n 0, 1) := by decide +kernel
theorem dX5_scraper_16 : decode cX5_scraper 16 = .ok (.getfield 19, 3) := by decide +kernel
theorem dX5_scraper_19 : decode cX5_scraper 19 = .ok (.getfield 159, 3) := by decide +kernel
theorem dX5_scraper_22 : decode cX5_scraper 22 = .ok (.invokevirtual 121, 3) := by decide +kernel
theorem dX5_scraper_25 : decode cX5_scraper 25 = .ok (.ireturn, 1) := by decide +kernel
theorem dX5_spoil_0 : decode cX5_spoil 0 = .ok (.aload_n 0, 1) := by decide +kernel
theorem dX5_spoil_1 : decode cX5_spoil 1 = .ok (.getfield 23, 3) := by decide +kernel
theorem dX5_spoil_4 : decode cX5_spoil 4 = .ok (.aload_n 0, 1) := by decide +kernel
theorem dX5_spoil_5 : decode cX5_spoil 5 = .ok (.getfield 19, 3) := by decide +kernel
theorem dX5_spoil_8 : decode cX5_spoil 8 = .ok (.invokevirtual 85, 3) := by decide +kernel
theorem dX5_spoil_11 : decode cX5_spoil 11 = .ok (.iconst 0, 1) := by decide +kernel
theorem dX5_spoil_12 : decode cX5_spoil 12 = .ok (.istore_n 1, 1) := by decide +kernel
theorem dX5_spoil_13 : decode cX5_spoil 13 = .ok (.aload_n 0, 1) := by decide +kernel
theorem dX5_spoil_14 : decode cX5_spoil 14 = .ok (.getfield 19, 3) := by decide +kernel
theorem dX5_spoil_17 : decode cX5_spoil 17 = .ok (.getfield 124, 3) := by decide +kernel
theorem dX5_spoil_20 : decode cX5_spoil 20 = .ok (.iload_n 1, 1) := by decide +kernel
theorem dX5_spoil_21 : decode cX5_spoil 21 = .ok (.iadd, 1) := by decide +kernel
theorem dX5_spoil_22 : decode cX5_spoil 22 = .ok (.bipush 9, 2) := by decide +kernel
theorem dX5_spoil_24 : decode cX5_spoil 24 = .ok (.if_icmp .gt 37, 3) := by decide +kernel
theorem dX5_spoil_27 : decode cX5_spoil 27 = .ok (.aload_n 0, 1) := by decide +kernel
theorem dX5_spoil_28 : decode cX5_spoil 28 = .ok (.getfield 23, 3) := by decide +kernel
theorem dX5_spoil_31 : decode cX5_spoil 31 = .ok (.aload_n 0, 1) := by decide +kernel
theorem dX5_spoil_32 : decode cX5_spoil 32 = .ok (.getfield 19, 3) := by decide +kernel
theorem dX5_spoil_35 : decode cX5_spoil 35 = .ok (.getfield 124, 3) := by decide +kernel
theorem dX5_spoil_38 : decode cX5_spoil 38 = .ok (.iload_n 1, 1) := by decide +kernel
theorem dX5_spoil_39 : decode cX5_spoil 39 = .ok (.iadd, 1) := by decide +kernel
theorem dX5_spoil_40 : decode cX5_spoil 40 = .ok (.putfield 124, 3) := by decide +kernel
theorem dX5_spoil_43 : decode cX5_spoil 43 = .ok (.aload_n 0, 1) := by decide +kernel
theorem dX5_spoil_44 : decode cX5_spoil 44 = .ok (.getfield 23, 3) := by decide +kernel
theorem dX5_spoil_47 : decode cX5_spoil 47 = .ok (.invokevirtual 162, 3) := by decide +kernel
theorem dX5_spoil_50 : decode cX5_spoil 50 = .ok (.ifCond .ne 5, 3) := by decide +kernel
theorem dX5_spoil_53 : decode cX5_spoil 53 = .ok (.iload_n 1, 1) := by decide +kernel
theorem dX5_spoil_54 : decode cX5_spoil 54 = .ok (.ireturn, 1) := by decide +kernel
theorem dX5_spoil_55 : decode cX5_spoil 55 = .ok (.iinc 1 1, 3) := by decide +kernel
theorem dX5_spoil_58 : decode cX5_spoil 58 = .ok (.goto (-45), 3) := by decide +kernel
theorem dX5_spoil_61 : decode cX5_spoil 61 = .ok (.bipush (-4), 2) := by decide +kernel
theorem dX5_spoil_63 : decode cX5_spoil 63 = .ok (.ireturn, 1) := by decide +kernel
theorem dX5_waits_0 : decode cX5_waits 0 = .ok (.aload_n 0, 1) := by decide +kernel
theorem dX5_waits_1 : decode cX5_waits 1 = .ok (.getfield 23, 3) := by decide +kernel
theorem dX5_waits_4 : decode cX5_waits 4 = .ok (.aload_n 0, 1) := by decide +kernel
theorem dX5_waits_5 : decode cX5_waits 5 = .ok (.getfield 19, 3) := by decide +kernel
theorem dX5_waits_8 : decode cX5_waits 8 = .ok (.invokevirtual 85, 3) := by decide +kernel
theorem dX5_waits_11 : decode cX5_waits 11 = .ok (.iconst 0, 1) := by decide +kernel
theorem dX5_waits_12 : decode cX5_waits 12 = .ok (.istore_n 1, 1) := by decide +kernel
theorem dX5_waits_13 : decode cX5_waits 13 = .ok (.iload_n 1, 1) := by decide +kernel
theorem dX5_waits_14 : decode cX5_waits 14 = .ok (.bipush 9, 2) := by decide +kernel
theorem dX5_waits_16 : decode cX5_waits 16 = .ok (.if_icmp .gt 28, 3) := by decide +kernel
theorem dX5_waits_19 : decode cX5_waits 19 = .ok (.aload_n 0, 1) := by decide +kernel
theorem dX5_waits_20 : decode cX5_waits 20 = .ok (.getfield 23, 3) := by decide +kernel
theorem dX5_waits_23 : decode cX5_waits 23 = .ok (.invokevirtual 162, 3) := by decide +kernel
theorem dX5_waits_26 : decode cX5_waits 26 = .ok (.ifCond .eq 5, 3) := by decide +kernel
theorem dX5_waits_29 : decode cX5_waits 29 = .ok (.iload_n 1, 1) := by decide +kernel
theorem dX5_waits_30 : decode cX5_waits 30 = .ok (.ireturn, 1) := by decide +kernel
theorem dX5_waits_31 : decode cX5_waits 31 = .ok (.aload_n 0, 1) := by decide +kernel
theorem dX5_waits_32 : decode cX5_waits 32 = .ok (.getfield 23, 3) := by decide +kernel
theorem dX5_waits_35 : decode cX5_waits 35 = .ok (.invokevirtual 136, 3) := by decide +kernel
theorem dX5_waits_38 : decode cX5_waits 38 = .ok (.iinc 1 1, 3) := by decide +kernel
theorem dX5_waits_41 : decode cX5_waits 41 = .ok (.goto (-28), 3) := by decide +kernel
theorem dX5_waits_44 : decode cX5_waits 44 = .ok (.bipush (-4), 2) := by decide +kernel
theorem dX5_waits_46 : decode cX5_waits 46 = .ok (.ireturn, 1) := by decide +kernel
theorem dX5_most_0 : decode cX5_most 0 = .ok (.bipush 99, 2) := by decide +kernel
theorem dX5_most_2 : decode cX5_most 2 = .ok (.aload_n 0, 1) := by decide +kernel
theorem dX5_most_3 : decode cX5_most 3 = .ok (.getfield 19, 3) := by decide +kernel
theorem dX5_most_6 : decode cX5_most 6 = .ok (.invokevirtual 166, 3) := by decide +kernel
theorem dX5_most_9 : decode cX5_most 9 = .ok (.invokestatic 169, 3) := by decide +kernel
theorem dX5_most_12 : decode cX5_most 12 = .ok (.ireturn, 1) := by decide +kernel
theorem dX5_fasts_0 : decode cX5_fasts 0 = .ok (.aload_n 0, 1) := by decide +kernel
theorem dX5_fasts_1 : decode cX5_fasts 1 = .ok (.getfield 23, 3) := by decide +kernel
theorem dX5_fasts_4 : decode cX5_fasts 4 = .ok (.aload_n 0, 1) := by decide +kernel
theorem dX5_fasts_5 : decode cX5_fasts 5 = .ok (.getfield 19, 3) := by decide +kernel
theorem dX5_fasts_8 : decode cX5_fasts 8 = .ok (.invokevirtual 85, 3) := by decide +kernel
theorem dX5_fasts_11 : decode cX5_fasts 11 = .ok (.iconst 0, 1) := by decide +kernel
theorem dX5_fasts_12 : decode cX5_fasts 12 = .ok (.istore_n 1, 1) := by decide +kernel
theorem dX5_fasts_13 : decode cX5_fasts 13 = .ok (.iload_n 1, 1) := by decide +kernel
theorem dX5_fasts_14 : decode cX5_fasts 14 = .ok (.bipush 10, 2) := by decide +kernel
theorem dX5_fasts_16 : decode cX5_fasts 16 = .ok (.if_icmp .gt 28, 3) := by decide +kernel
theorem dX5_fasts_19 : decode cX5_fasts 19 = .ok (.aload_n 0, 1) := by decide +kernel
theorem dX5_fasts_20 : decode cX5_fasts 20 = .ok (.getfield 23, 3) := by decide +kernel
theorem dX5_fasts_23 : decode cX5_fasts 23 = .ok (.invokevirtual 162, 3) := by decide +kernel
theorem dX5_fasts_26 : decode cX5_fasts 26 = .ok (.ifCond .eq 5, 3) := by decide +kernel
theorem dX5_fasts_29 : decode cX5_fasts 29 = .ok (.iload_n 1, 1) := by decide +kernel
theorem dX5_fasts_30 : decode cX5_fasts 30 = .ok (.ireturn, 1) := by decide +kernel
theorem dX5_fasts_31 : decode cX5_fasts 31 = .ok (.aload_n 0, 1) := by decide +kernel
theorem dX5_fasts_32 : decode cX5_fasts 32 = .ok (.getfield 23, 3) := by decide +kernel
theorem dX5_fasts_35 : decode cX5_fasts 35 = .ok (.invokevirtual 143, 3) := by decide +kernel
theorem dX5_fasts_38 : decode cX5_fasts 38 = .ok (.iinc 1 1, 3) := by decide +kernel
theorem dX5_fasts_41 : decode cX5_fasts 41 = .ok (.goto (-28), 3) := by decide +kernel
theorem dX5_fasts_44 : decode cX5_fasts 44 = .ok (.bipush (-4), 2) := by decide +kernel
theorem dX5_fasts_46 : decode cX5_fasts 46 = .ok (.ireturn, 1) := by decide +kernel
theorem dX5_cabal_0 : decode cX5_cabal 0 = .ok (.iload_n 1, 1) := by decide +kernel
theorem dX5_cabal_1 : decode cX5_cabal 1 = .ok (.iconst 0, 1) := by decide +kernel
theorem dX5_cabal_2 : decode cX5_cabal 2 = .ok (.iconst 1, 1) := by decide +kernel
theorem dX5_cabal_3 : decode cX5_cabal 3 = .ok (.invokestatic 75, 3) := by decide +kernel
theorem dX5_cabal_6 : decode cX5_cabal 6 = .ok (.ifCond .eq 5, 3) := by decide +kernel
theorem dX5_cabal_9 : decode cX5_cabal 9 = .ok (.iconst (-1), 1) := by decide +kernel
theorem dX5_cabal_10 : decode cX5_cabal 10 = .ok (.ireturn, 1) := by decide +kernel
theorem dX5_cabal_11 : decode cX5_cabal 11 = .ok (.aload_n 0, 1) := by decide +kernel
theorem dX5_cabal_12 : decode cX5_cabal 12 = .ok (.getfield 29, 3) := by decide +kernel
theorem dX5_cabal_15 : decode cX5_cabal 15 = .ok (.aload_n 0, 1) := by decide +kernel
theorem dX5_cabal_16 : decode cX5_cabal 16 = .ok (.getfield 19, 3) := by decide +kernel
theorem dX5_cabal_19 : decode cX5_cabal 19 = .ok (.invokevirtual 175, 3) := by decide +kernel
theorem dX5_cabal_22 : decode cX5_cabal 22 = .ok (.aload_n 0, 1) := by decide +kernel
theorem dX5_cabal_23 : decode cX5_cabal 23 = .ok (.getfield 29, 3) := by decide +kernel
theorem dX5_cabal_26 : decode cX5_cabal 26 = .ok (.invokevirtual 178, 3) := by decide +kernel
theorem dX5_cabal_29 : decode cX5_cabal 29 = .ok (.istore_n 2, 1) := by decide +kernel
theorem dX5_cabal_30 : decode cX5_cabal 30 = .ok (.iload_n 2, 1) := by decide +kernel
theorem dX5_cabal_31 : decode cX5_cabal 31 = .ok (.bipush (-4), 2) := by decide +kernel
theorem dX5_cabal_33 : decode cX5_cabal 33 = .ok (.if_icmp .ne 6, 3) := by decide +kernel
theorem dX5_cabal_36 : decode cX5_cabal 36 = .ok (.bipush (-4), 2) := by decide +kernel
theorem dX5_cabal_38 : decode cX5_cabal 38 = .ok (.ireturn, 1) := by decide +kernel
theorem dX5_cabal_39 : decode cX5_cabal 39 = .ok (.iload_n 1, 1) := by decide +kernel
theorem dX5_cabal_40 : decode cX5_cabal 40 = .ok (.ifCond .ne 10, 3) := by decide +kernel
theorem dX5_cabal_43 : decode cX5_cabal 43 = .ok (.iload_n 2, 1) := by decide +kernel
theorem dX5_cabal_44 : decode cX5_cabal 44 = .ok (.invokestatic 181, 3) := by decide +kernel
theorem dX5_cabal_47 : decode cX5_cabal 47 = .ok (.goto 4, 3) := by decide +kernel
theorem dX5_cabal_50 : decode cX5_cabal 50 = .ok (.iload_n 2, 1) := by decide +kernel
theorem dX5_cabal_51 : decode cX5_cabal 51 = .ok (.ireturn, 1) := by decide +kernel
theorem dX5_trades_0 : decode cX5_trades 0 = .ok (.aload_n 0, 1) := by decide +kernel
theorem dX5_trades_1 : decode cX5_trades 1 = .ok (.getfield 19, 3) := by decide +kernel
theorem dX5_trades_4 : decode cX5_trades 4 = .ok (.invokevirtual 162, 3) := by decide +kernel
theorem dX5_trades_7 : decode cX5_trades 7 = .ok (.ifCond .eq 6, 3) := by decide +kernel
theorem dX5_trades_10 : decode cX5_trades 10 = .ok (.bipush (-4), 2) := by decide +kernel
theorem dX5_trades_12 : decode cX5_trades 12 = .ok (.ireturn, 1) := by decide +kernel
theorem dX5_trades_13 : decode cX5_trades 13 = .ok (.iconst 0, 1) := by decide +kernel
theorem dX5_trades_14 : decode cX5_trades 14 = .ok (.istore_n 1, 1) := by decide +kernel
theorem dX5_trades_15 : decode cX5_trades 15 = .ok (.iload_n 1, 1) := by decide +kernel
theorem dX5_trades_16 : decode cX5_trades 16 = .ok (.aload_n 0, 1) := by decide +kernel
theorem dX5_trades_17 : decode cX5_trades 17 = .ok (.getfield 19, 3) := by decide +kernel
theorem dX5_trades_20 : decode cX5_trades 20 = .ok (.getfield 82, 3) := by decide +kernel
theorem dX5_trades_23 : decode cX5_trades 23 = .ok (.if_icmp .ge 67, 3) := by decide +kernel
theorem dX5_trades_26 : decode cX5_trades 26 = .ok (.iload_n 1, 1) := by decide +kernel
theorem dX5_trades_27 : decode cX5_trades 27 = .ok (.iconst 1, 1) := by decide +kernel
theorem dX5_trades_28 : decode cX5_trades 28 = .ok (.iadd, 1) := by decide +kernel
theorem dX5_trades_29 : decode cX5_trades 29 = .ok (.istore_n 2, 1) := by decide +kernel
theorem dX5_trades_30 : decode cX5_trades 30 = .ok (.iload_n 2, 1) := by decide +kernel
theorem dX5_trades_31 : decode cX5_trades 31 = .ok (.aload_n 0, 1) := by decide +kernel
theorem dX5_trades_32 : decode cX5_trades 32 = .ok (.getfield 19, 3) := by decide +kernel
theorem dX5_trades_35 : decode cX5_trades 35 = .ok (.getfield 82, 3) := by decide +kernel
theorem dX5_trades_38 : decode cX5_trades 38 = .ok (.if_icmp .ge 46, 3) := by decide +kernel
theorem dX5_trades_41 : decode cX5_trades 41 = .ok (.aload_n 0, 1) := by decide +kernel
theorem dX5_trades_42 : decode cX5_trades 42 = .ok (.getfield 23, 3) := by decide +kernel
theorem dX5_trades_45 : decode cX5_trades 45 = .ok (.aload_n 0, 1) := by decide +kernel
theorem dX5_trades_46 : decode cX5_trades 46 = .ok (.getfield 19, 3) := by decide +kernel
theorem dX5_trades_49 : decode cX5_trades 49 = .ok (.invokevirtual 85, 3) := by decide +kernel
theorem dX5_trades_52 : decode cX5_trades 52 = .ok (.aload_n 0, 1) := by decide +kernel
theorem dX5_trades_53 : decode cX5_trades 53 = .ok (.getfield 23, 3) := by decide +kernel
theorem dX5_trades_56 : decode cX5_trades 56 = .ok (.iload_n 1, 1) := by decide +kernel
theorem dX5_trades_57 : decode cX5_trades 57 = .ok (.iload_n 2, 1) := by decide +kernel
theorem dX5_trades_58 : decode cX5_trades 58 = .ok (.invokevirtual 139, 3) := by decide +kernel
theorem dX5_trades_61 : decode cX5_trades 61 = .ok (.aload_n 0, 1) := by decide +kernel
theorem dX5_trades_62 : decode cX5_trades 62 = .ok (.getfield 23, 3) := by decide +kernel
theorem dX5_trades_65 : decode cX5_trades 65 = .ok (.invokevirtual 162, 3) := by decide +kernel
theorem dX5_trades_68 : decode cX5_trades 68 = .ok (.ifCond .eq 10, 3) := by decide +kernel
theorem dX5_trades_71 : decode cX5_trades 71 = .ok (.bipush 10, 2) := by decide +kernel
theorem dX5_trades_73 : decode cX5_trades 73 = .ok (.iload_n 1, 1) := by decide +kernel
theorem dX5_trades_74 : decode cX5_trades 74 = .ok (.imul, 1) := by decide +kernel
theorem dX5_trades_75 : decode cX5_trades 75 = .ok (.iload_n 2, 1) := by decide +kernel
theorem dX5_trades_76 : decode cX5_trades 76 = .ok (.iadd, 1) := by decide +kernel
theorem dX5_trades_77 : decode cX5_trades 77 = .ok (.ireturn, 1) := by decide +kernel
theorem dX5_trades_78 : decode cX5_trades 78 = .ok (.iinc 2 1, 3) := by decide +kernel
theorem dX5_trades_81 : decode cX5_trades 81 = .ok (.goto (-51), 3) := by decide +kernel
theorem dX5_trades_84 : decode cX5_trades 84 = .ok (.iinc 1 1, 3) := by decide +kernel
theorem dX5_trades_87 : decode cX5_trades 87 = .ok (.goto (-72), 3) := by decide +kernel
theorem dX5_trades_90 : decode cX5_trades 90 = .ok (.bipush (-4), 2) := by decide +kernel
theorem dX5_trades_92 : decode cX5_trades 92 = .ok (.ireturn, 1) := by decide +kernel
theorem dX5_power_0 : decode cX5_power 0 = .ok (.aload_n 0, 1) := by decide +kernel
theorem dX5_power_1 : decode cX5_power 1 = .ok (.iload_n 1, 1) := by decide +kernel
theorem dX5_power_2 : decode cX5_power 2 = .ok (.invokevirtual 91, 3) := by decide +kernel
theorem dX5_power_5 : decode cX5_power 5 = .ok (.ifCond .ne 12, 3) := by decide +kernel
theorem dX5_power_8 : decode cX5_power 8 = .ok (.iload_n 2, 1) := by decide +kernel
theorem dX5_power_9 : decode cX5_power 9 = .ok (.iconst 0, 1) := by decide +kernel
theorem dX5_power_10 : decode cX5_power 10 = .ok (.iconst 1, 1) := by decide +kernel
theorem dX5_power_11 : decode cX5_power 11 = .ok (.invokestatic 75, 3) := by decide +kernel
theorem dX5_power_14 : decode cX5_power 14 = .ok (.ifCond .eq 5, 3) := by decide +kernel
theorem dX5_power_17 : decode cX5_power 17 = .ok (.iconst (-1), 1) := by decide +kernel
theorem dX5_power_18 : decode cX5_power 18 = .ok (.ireturn, 1) := by decide +kernel
theorem dX5_power_19 : decode cX5_power 19 = .ok (.aload_n 0, 1) := by decide +kernel
theorem dX5_power_20 : decode cX5_power 20 = .ok (.getfield 29, 3) := by decide +kernel
theorem dX5_power_23 : decode cX5_power 23 = .ok (.aload_n 0, 1) := by decide +kernel
theorem dX5_power_24 : decode cX5_power 24 = .ok (.getfield 19, 3) := by decide +kernel
theorem dX5_power_27 : decode cX5_power 27 = .ok (.invokevirtual 175, 3) := by decide +kernel
theorem dX5_power_30 : decode cX5_power 30 = .ok (.aload_n 0, 1) := by decide +kernel
theorem dX5_power_31 : decode cX5_power 31 = .ok (.getfield 29, 3) := by decide +kernel
theorem dX5_power_34 : decode cX5_power 34 = .ok (.iload_n 1, 1) := by decide +kernel
theorem dX5_power_35 : decode cX5_power 35 = .ok (.invokevirtual 186, 3) := by decide +kernel
theorem dX5_power_38 : decode cX5_power 38 = .ok (.aload_n 0, 1) := by decide +kernel
theorem dX5_power_39 : decode cX5_power 39 = .ok (.getfield 29, 3) := by decide +kernel
theorem dX5_power_42 : decode cX5_power 42 = .ok (.invokevirtual 189, 3) := by decide +kernel
theorem dX5_power_45 : decode cX5_power 45 = .ok (.iload_n 2, 1) := by decide +kernel
theorem dX5_power_46 : decode cX5_power 46 = .ok (.invokestatic 192, 3) := by decide +kernel
theorem dX5_power_49 : decode cX5_power 49 = .ok (.ireturn, 1) := by decide +kernel
theorem dX5_seen_0 : decode cX5_seen 0 = .ok (.aload_n 0, 1) := by decide +kernel
theorem dX5_seen_1 : decode cX5_seen 1 = .ok (.iload_n 1, 1) := by decide +kernel
theorem dX5_seen_2 : decode cX5_seen 2 = .ok (.invokevirtual 91, 3) := by decide +kernel
theorem dX5_seen_5 : decode cX5_seen 5 = .ok (.ifCond .ne 13, 3) := by decide +kernel
theorem dX5_seen_8 : decode cX5_seen 8 = .ok (.iload_n 2, 1) := by decide +kernel
theorem dX5_seen_9 : decode cX5_seen 9 = .ok (.iconst 0, 1) := by decide +kernel
theorem dX5_seen_10 : decode cX5_seen 10 = .ok (.bipush 18, 2) := by decide +kernel
theorem dX5_seen_12 : decode cX5_seen 12 = .ok (.invokestatic 75, 3) := by decide +kernel
theorem dX5_seen_15 : decode cX5_seen 15 = .ok (.ifCond .eq 5, 3) := by decide +kernel
theorem dX5_seen_18 : decode cX5_seen 18 = .ok (.iconst (-1), 1) := by decide +kernel
theorem dX5_seen_19 : decode cX5_seen 19 = .ok (.ireturn, 1) := by decide +kernel
theorem dX5_seen_20 : decode cX5_seen 20 = .ok (.aload_n 0, 1) := by decide +kernel
theorem dX5_seen_21 : decode cX5_seen 21 = .ok (.getfield 36, 3) := by decide +kernel
theorem dX5_seen_24 : decode cX5_seen 24 = .ok (.iload_n 1, 1) := by decide +kernel
theorem dX5_seen_25 : decode cX5_seen 25 = .ok (.iload_n 2, 1) := by decide +kernel
theorem dX5_seen_26 : decode cX5_seen 26 = .ok (.invokevirtual 196, 3) := by decide +kernel
theorem dX5_seen_29 : decode cX5_seen 29 = .ok (.ifCond .eq 13, 3) := by decide +kernel
theorem dX5_seen_32 : decode cX5_seen 32 = .ok (.aload_n 0, 1) := by decide +kernel
theorem dX5_seen_33 : decode cX5_seen 33 = .ok (.getfield 36, 3) := by decide +kernel
theorem dX5_seen_36 : decode cX5_seen 36 = .ok (.getfield 200, 3) := by decide +kernel
theorem dX5_seen_39 : decode cX5_seen 39 = .ok (.goto 5, 3) := by decide +kernel
theorem dX5_seen_42 : decode cX5_seen 42 = .ok (.bipush (-3), 2) := by decide +kernel
theorem dX5_seen_44 : decode cX5_seen 44 = .ok (.ireturn, 1) := by decide +kernel
theorem dX5_forget_0 : decode cX5_forget 0 = .ok (.aload_n 0, 1) := by decide +kernel
theorem dX5_forget_1 : decode cX5_forget 1 = .ok (.getfield 36, 3) := by decide +kernel
theorem dX5_forget_4 : decode cX5_forget 4 = .ok (.getfield 200, 3) := by decide +kernel
theorem dX5_forget_7 : decode cX5_forget 7 = .ok (.istore_n 1, 1) := by decide +kernel
theorem dX5_forget_8 : decode cX5_forget 8 = .ok (.aload_n 0, 1) := by decide +kernel
theorem dX5_forget_9 : decode cX5_forget 9 = .ok (.getfield 36, 3) := by decide +kernel
theorem dX5_forget_12 : decode cX5_forget 12 = .ok (.invokevirtual 89, 3) := by decide +kernel
theorem dX5_forget_15 : decode cX5_forget 15 = .ok (.iload_n 1, 1) := by decide +kernel
theorem dX5_forget_16 : decode cX5_forget 16 = .ok (.ireturn, 1) := by decide +kernel
theorem dX5_may_0 : decode cX5_may 0 = .ok (.iload_n 1, 1) := by decide +kernel
theorem dX5_may_1 : decode cX5_may 1 = .ok (.iconst 0, 1) := by decide +kernel
theorem dX5_may_2 : decode cX5_may 2 = .ok (.iconst 1, 1) := by decide +kernel
theorem dX5_may_3 : decode cX5_may 3 = .ok (.invokestatic 75, 3) := by decide +kernel
theorem dX5_may_6 : decode cX5_may 6 = .ok (.ifCond .eq 5, 3) := by decide +kernel
theorem dX5_may_9 : decode cX5_may 9 = .ok (.iconst (-1), 1) := by decide +kernel
theorem dX5_may_10 : decode cX5_may 10 = .ok (.ireturn, 1) := by decide +kernel
theorem dX5_may_11 : decode cX5_may 11 = .ok (.iconst 0, 1) := by decide +kernel
theorem dX5_may_12 : decode cX5_may 12 = .ok (.istore_n 2, 1) := by decide +kernel
theorem dX5_may_13 : decode cX5_may 13 = .ok (.iconst 0, 1) := by decide +kernel
theorem dX5_may_14 : decode cX5_may 14 = .ok (.istore_n 3, 1) := by decide +kernel
theorem dX5_may_15 : decode cX5_may 15 = .ok (.iload_n 3, 1) := by decide +kernel
theorem dX5_may_16 : decode cX5_may 16 = .ok (.bipush 9, 2) := by decide +kernel
theorem dX5_may_18 : decode cX5_may 18 = .ok (.if_icmp .gt 75, 3) := by decide +kernel
theorem dX5_may_21 : decode cX5_may 21 = .ok (.aload_n 0, 1) := by decide +kernel
theorem dX5_may_22 : decode cX5_may 22 = .ok (.getfield 23, 3) := by decide +kernel
theorem dX5_may_25 : decode cX5_may 25 = .ok (.aload_n 0, 1) := by decide +kernel
theorem dX5_may_26 : decode cX5_may 26 = .ok (.getfield 19, 3) := by decide +kernel
theorem dX5_may_29 : decode cX5_may 29 = .ok (.invokevirtual 85, 3) := by decide +kernel
theorem dX5_may_32 : decode cX5_may 32 = .ok (.iload_n 1, 1) := by decide +kernel
theorem dX5_may_33 : decode cX5_may 33 = .ok (.ifCond .ne 14, 3) := by decide +kernel
theorem dX5_may_36 : decode cX5_may 36 = .ok (.aload_n 0, 1) := by decide +kernel
theorem dX5_may_37 : decode cX5_may 37 = .ok (.getfield 23, 3) := by decide +kernel
theorem dX5_may_40 : decode cX5_may 40 = .ok (.iload_n 3, 1) := by decide +kernel
theorem dX5_may_41 : decode cX5_may 41 = .ok (.putfield 124, 3) := by decide +kernel
theorem dX5_may_44 : decode cX5_may 44 = .ok (.goto 11, 3) := by decide +kernel
theorem dX5_may_47 : decode cX5_may 47 = .ok (.aload_n 0, 1) := by decide +kernel
theorem dX5_may_48 : decode cX5_may 48 = .ok (.getfield 23, 3) := by decide +kernel
theorem dX5_may_51 : decode cX5_may 51 = .ok (.iload_n 3, 1) := by decide +kernel
theorem dX5_may_52 : decode cX5_may 52 = .ok (.putfield 133, 3) := by decide +kernel
theorem dX5_may_55 : decode cX5_may 55 = .ok (.aload_n 0, 1) := by decide +kernel
theorem dX5_may_56 : decode cX5_may 56 = .ok (.getfield 23, 3) := by decide +kernel
theorem dX5_may_59 : decode cX5_may 59 = .ok (.invokevirtual 201, 3) := by decide +kernel
theorem dX5_may_62 : decode cX5_may 62 = .ok (.pop, 1) := by decide +kernel
theorem dX5_may_63 : decode cX5_may 63 = .ok (.aload_n 0, 1) := by decide +kernel
theorem dX5_may_64 : decode cX5_may 64 = .ok (.getfield 36, 3) := by decide +kernel
theorem dX5_may_67 : decode cX5_may 67 = .ok (.aload_n 0, 1) := by decide +kernel
theorem dX5_may_68 : decode cX5_may 68 = .ok (.getfield 19, 3) := by decide +kernel
theorem dX5_may_71 : decode cX5_may 71 = .ok (.aload_n 0, 1) := by decide +kernel
theorem dX5_may_72 : decode cX5_may 72 = .ok (.getfield 23, 3) := by decide +kernel
theorem dX5_may_75 : decode cX5_may 75 = .ok (.invokevirtual 204, 3) := by decide +kernel
theorem dX5_may_78 : decode cX5_may 78 = .ok (.ifCond .eq 9, 3) := by decide +kernel
theorem dX5_may_81 : decode cX5_may 81 = .ok (.iload_n 2, 1) := by decide +kernel
theorem dX5_may_82 : decode cX5_may 82 = .ok (.iconst 1, 1) := by decide +kernel
theorem dX5_may_83 : decode cX5_may 83 = .ok (.iload_n 3, 1) := by decide +kernel
theorem dX5_may_84 : decode cX5_may 84 = .ok (.ishl, 1) := by decide +kernel
theorem dX5_may_85 : decode cX5_may 85 = .ok (.ior, 1) := by decide +kernel
theorem dX5_may_86 : decode cX5_may 86 = .ok (.istore_n 2, 1) := by decide +kernel
theorem dX5_may_87 : decode cX5_may 87 = .ok (.iinc 3 1, 3) := by decide +kernel
theorem dX5_may_90 : decode cX5_may 90 = .ok (.goto (-75), 3) := by decide +kernel
theorem dX5_may_93 : decode cX5_may 93 = .ok (.iload_n 2, 1) := by decide +kernel
theorem dX5_may_94 : decode cX5_may 94 = .ok (.ireturn, 1) := by decide +kernel
theorem dX5_likely_0 : decode cX5_likely 0 = .ok (.iload_n 1, 1) := by decide +kernel
theorem dX5_likely_1 : decode cX5_likely 1 = .ok (.iconst 0, 1) := by decide +kernel
theorem dX5_likely_2 : decode cX5_likely 2 = .ok (.bipush 10, 2) := by decide +kernel
theorem dX5_likely_4 : decode cX5_likely 4 = .ok (.invokestatic 75, 3) := by decide +kernel
theorem dX5_likely_7 : decode cX5_likely 7 = .ok (.ifCond .ne 12, 3) := by decide +kernel
theorem dX5_likely_10 : decode cX5_likely 10 = .ok (.iload_n 2, 1) := by decide +kernel
theorem dX5_likely_11 : decode cX5_likely 11 = .ok (.iconst 0, 1) := by decide +kernel
theorem dX5_likely_12 : decode cX5_likely 12 = .ok (.iconst 1, 1) := by decide +kernel
theorem dX5_likely_13 : decode cX5_likely 13 = .ok (.invokestatic 75, 3) := by decide +kernel
theorem dX5_likely_16 : decode cX5_likely 16 = .ok (.ifCond .eq 5, 3) := by decide +kernel
theorem dX5_likely_19 : decode cX5_likely 19 = .ok (.iconst (-1), 1) := by decide +kernel
theorem dX5_likely_20 : decode cX5_likely 20 = .ok (.ireturn, 1) := by decide +kernel
theorem dX5_likely_21 : decode cX5_likely 21 = .ok (.aload_n 0, 1) := by decide +kernel
theorem dX5_likely_22 : decode cX5_likely 22 = .ok (.getfield 29, 3) := by decide +kernel
theorem dX5_likely_25 : decode cX5_likely 25 = .ok (.aload_n 0, 1) := by decide +kernel
theorem dX5_likely_26 : decode cX5_likely 26 = .ok (.getfield 19, 3) := by decide +kernel
theorem dX5_likely_29 : decode cX5_likely 29 = .ok (.invokevirtual 175, 3) := by decide +kernel
theorem dX5_likely_32 : decode cX5_likely 32 = .ok (.aload_n 0, 1) := by decide +kernel
theorem dX5_likely_33 : decode cX5_likely 33 = .ok (.getfield 29, 3) := by decide +kernel
theorem dX5_likely_36 : decode cX5_likely 36 = .ok (.iload_n 1, 1) := by decide +kernel
theorem dX5_likely_37 : decode cX5_likely 37 = .ok (.invokevirtual 208, 3) := by decide +kernel
theorem dX5_likely_40 : decode cX5_likely 40 = .ok (.aload_n 0, 1) := by decide +kernel
theorem dX5_likely_41 : decode cX5_likely 41 = .ok (.getfield 29, 3) := by decide +kernel
theorem dX5_likely_44 : decode cX5_likely 44 = .ok (.invokevirtual 211, 3) := by decide +kernel
theorem dX5_likely_47 : decode cX5_likely 47 = .ok (.iload_n 2, 1) := by decide +kernel
theorem dX5_likely_48 : decode cX5_likely 48 = .ok (.invokestatic 192, 3) := by decide +kernel
theorem dX5_likely_51 : decode cX5_likely 51 = .ok (.ireturn, 1) := by decide +kernel
theorem dX5_century_0 : decode cX5_century 0 = .ok (.iload_n 1, 1) := by decide +kernel
theorem dX5_century_1 : decode cX5_century 1 = .ok (.iconst 0, 1) := by decide +kernel
theorem dX5_century_2 : decode cX5_century 2 = .ok (.sipush 9999, 3) := by decide +kernel
theorem dX5_century_5 : decode cX5_century 5 = .ok (.invokestatic 75, 3) := by decide +kernel
theorem dX5_century_8 : decode cX5_century 8 = .ok (.ifCond .ne 22, 3) := by decide +kernel
theorem dX5_century_11 : decode cX5_century 11 = .ok (.iload_n 2, 1) := by decide +kernel
theorem dX5_century_12 : decode cX5_century 12 = .ok (.iconst 1, 1) := by decide +kernel
theorem dX5_century_13 : decode cX5_century 13 = .ok (.bipush 40, 2) := by decide +kernel
theorem dX5_century_15 : decode cX5_century 15 = .ok (.invokestatic 75, 3) := by decide +kernel
theorem dX5_century_18 : decode cX5_century 18 = .ok (.ifCond .ne 12, 3) := by decide +kernel
theorem dX5_century_21 : decode cX5_century 21 = .ok (.iload_n 3, 1) := by decide +kernel
theorem dX5_century_22 : decode cX5_century 22 = .ok (.iconst 0, 1) := by decide +kernel
theorem dX5_century_23 : decode cX5_century 23 = .ok (.iconst 1, 1) := by decide +kernel
theorem dX5_century_24 : decode cX5_century 24 = .ok (.invokestatic 75, 3) := by decide +kernel
theorem dX5_century_27 : decode cX5_century 27 = .ok (.ifCond .eq 5, 3) := by decide +kernel
theorem dX5_century_30 : decode cX5_century 30 = .ok (.iconst (-1), 1) := by decide +kernel
theorem dX5_century_31 : decode cX5_century 31 = .ok (.ireturn, 1) := by decide +kernel
theorem dX5_century_32 : decode cX5_century 32 = .ok (.aload_n 0, 1) := by decide +kernel
theorem dX5_century_33 : decode cX5_century 33 = .ok (.getfield 23, 3) := by decide +kernel
theorem dX5_century_36 : decode cX5_century 36 = .ok (.aload_n 0, 1) := by decide +kernel
theorem dX5_century_37 : decode cX5_century 37 = .ok (.getfield 19, 3) := by decide +kernel
theorem dX5_century_40 : decode cX5_century 40 = .ok (.invokevirtual 85, 3) := by decide +kernel
theorem dX5_century_43 : decode cX5_century 43 = .ok (.iconst 0, 1) := by decide +kernel
theorem dX5_century_44 : decode cX5_century 44 = .ok (.istore 4, 2) := by decide +kernel
theorem dX5_century_46 : decode cX5_century 46 = .ok (.iload 4, 2) := by decide +kernel
theorem dX5_century_48 : decode cX5_century 48 = .ok (.iload_n 2, 1) := by decide +kernel
theorem dX5_century_49 : decode cX5_century 49 = .ok (.if_icmp .ge 22, 3) := by decide +kernel
theorem dX5_century_52 : decode cX5_century 52 = .ok (.aload_n 0, 1) := by decide +kernel
theorem dX5_century_53 : decode cX5_century 53 = .ok (.getfield 23, 3) := by decide +kernel
theorem dX5_century_56 : decode cX5_century 56 = .ok (.iload_n 1, 1) := by decide +kernel
theorem dX5_century_57 : decode cX5_century 57 = .ok (.iload 4, 2) := by decide +kernel
theorem dX5_century_59 : decode cX5_century 59 = .ok (.invokestatic 214, 3) := by decide +kernel
theorem dX5_century_62 : decode cX5_century 62 = .ok (.invokevirtual 217, 3) := by decide +kernel
theorem dX5_century_65 : decode cX5_century 65 = .ok (.iinc 4 1, 3) := by decide +kernel
theorem dX5_century_68 : decode cX5_century 68 = .ok (.goto (-22), 3) := by decide +kernel
theorem dX5_century_71 : decode cX5_century 71 = .ok (.iload_n 3, 1) := by decide +kernel
theorem dX5_century_72 : decode cX5_century 72 = .ok (.ifCond .ne 13, 3) := by decide +kernel
theorem dX5_century_75 : decode cX5_century 75 = .ok (.aload_n 0, 1) := by decide +kernel
theorem dX5_century_76 : decode cX5_century 76 = .ok (.getfield 23, 3) := by decide +kernel
theorem dX5_century_79 : decode cX5_century 79 = .ok (.getfield 118, 3) := by decide +kernel
theorem dX5_century_82 : decode cX5_century 82 = .ok (.goto 10, 3) := by decide +kernel
theorem dX5_century_85 : decode cX5_century 85 = .ok (.aload_n 0, 1) := by decide +kernel
theorem dX5_century_86 : decode cX5_century 86 = .ok (.getfield 23, 3) := by decide +kernel
theorem dX5_century_89 : decode cX5_century 89 = .ok (.invokevirtual 220, 3) := by decide +kernel
theorem dX5_century_92 : decode cX5_century 92 = .ok (.ireturn, 1) := by decide +kernel
theorem dX5_keep_0 : decode cX5_keep 0 = .ok (.aload_n 0, 1) := by decide +kernel
theorem dX5_keep_1 : decode cX5_keep 1 = .ok (.getfield 49, 3) := by decide +kernel
theorem dX5_keep_4 : decode cX5_keep 4 = .ok (.getfield 153, 3) := by decide +kernel
theorem dX5_keep_7 : decode cX5_keep 7 = .ok (.iconst 2, 1) := by decide +kernel
theorem dX5_keep_8 : decode cX5_keep 8 = .ok (.if_icmp .lt 6, 3) := by decide +kernel
theorem dX5_keep_11 : decode cX5_keep 11 = .ok (.bipush (-3), 2) := by decide +kernel
theorem dX5_keep_13 : decode cX5_keep 13 = .ok (.ireturn, 1) := by decide +kernel
theorem dX5_keep_14 : decode cX5_keep 14 = .ok (.aload_n 0, 1) := by decide +kernel
theorem dX5_keep_15 : decode cX5_keep 15 = .ok (.getfield 49, 3) := by decide +kernel
theorem dX5_keep_18 : decode cX5_keep 18 = .ok (.aload_n 0, 1) := by decide +kernel
theorem dX5_keep_19 : decode cX5_keep 19 = .ok (.getfield 19, 3) := by decide +kernel
theorem dX5_keep_22 : decode cX5_keep 22 = .ok (.invokevirtual 115, 3) := by decide +kernel
theorem dX5_keep_25 : decode cX5_keep 25 = .ok (.aload_n 0, 1) := by decide +kernel
theorem dX5_keep_26 : decode cX5_keep 26 = .ok (.getfield 49, 3) := by decide +kernel
theorem dX5_keep_29 : decode cX5_keep 29 = .ok (.getfield 153, 3) := by decide +kernel
theorem dX5_keep_32 : decode cX5_keep 32 = .ok (.ireturn, 1) := by decide +kernel
theorem dX5_back_0 : decode cX5_back 0 = .ok (.aload_n 0, 1) := by decide +kernel
theorem dX5_back_1 : decode cX5_back 1 = .ok (.getfield 49, 3) := by decide +kernel
theorem dX5_back_4 : decode cX5_back 4 = .ok (.aload_n 0, 1) := by decide +kernel
theorem dX5_back_5 : decode cX5_back 5 = .ok (.getfield 19, 3) := by decide +kernel
theorem dX5_back_8 : decode cX5_back 8 = .ok (.invokevirtual 149, 3) := by decide +kernel
theorem dX5_back_11 : decode cX5_back 11 = .ok (.ifCond .ne 6, 3) := by decide +kernel
theorem dX5_back_14 : decode cX5_back 14 = .ok (.bipush (-2), 2) := by decide +kernel
theorem dX5_back_16 : decode cX5_back 16 = .ok (.ireturn, 1) := by decide +kernel
theorem dX5_back_17 : decode cX5_back 17 = .ok (.aload_n 0, 1) := by decide +kernel
theorem dX5_back_18 : decode cX5_back 18 = .ok (.getfield 45, 3) := by decide +kernel
theorem dX5_back_21 : decode cX5_back 21 = .ok (.invokevirtual 90, 3) := by decide +kernel
theorem dX5_back_24 : decode cX5_back 24 = .ok (.aload_n 0, 1) := by decide +kernel
theorem dX5_back_25 : decode cX5_back 25 = .ok (.getfield 49, 3) := by decide +kernel
theorem dX5_back_28 : decode cX5_back 28 = .ok (.getfield 153, 3) := by decide +kernel
theorem dX5_back_31 : decode cX5_back 31 = .ok (.ireturn, 1) := by decide +kernel
theorem dX5_count_0 : decode cX5_count 0 = .ok (.iload_n 1, 1) := by decide +kernel
theorem dX5_count_1 : decode cX5_count 1 = .ok (.tableswitch 147 0 10 #[59, 67, 75, 83, 91, 99, 107, 115, 123, 131, 139], 59) := by decide +kernel
theorem dX5_count_60 : decode cX5_count 60 = .ok (.aload_n 0, 1) := by decide +kernel
theorem dX5_count_61 : decode cX5_count 61 = .ok (.getfield 19, 3) := by decide +kernel
theorem dX5_count_64 : decode cX5_count 64 = .ok (.getfield 82, 3) := by decide +kernel
theorem dX5_count_67 : decode cX5_count 67 = .ok (.ireturn, 1) := by decide +kernel
theorem dX5_count_68 : decode cX5_count 68 = .ok (.aload_n 0, 1) := by decide +kernel
theorem dX5_count_69 : decode cX5_count 69 = .ok (.getfield 19, 3) := by decide +kernel
theorem dX5_count_72 : decode cX5_count 72 = .ok (.getfield 118, 3) := by decide +kernel
theorem dX5_count_75 : decode cX5_count 75 = .ok (.ireturn, 1) := by decide +kernel
theorem dX5_count_76 : decode cX5_count 76 = .ok (.aload_n 0, 1) := by decide +kernel
theorem dX5_count_77 : decode cX5_count 77 = .ok (.getfield 19, 3) := by decide +kernel
theorem dX5_count_80 : decode cX5_count 80 = .ok (.getfield 133, 3) := by decide +kernel
theorem dX5_count_83 : decode cX5_count 83 = .ok (.ireturn, 1) := by decide +kernel
theorem dX5_count_84 : decode cX5_count 84 = .ok (.aload_n 0, 1) := by decide +kernel
theorem dX5_count_85 : decode cX5_count 85 = .ok (.getfield 19, 3) := by decide +kernel
theorem dX5_count_88 : decode cX5_count 88 = .ok (.getfield 124, 3) := by decide +kernel
theorem dX5_count_91 : decode cX5_count 91 = .ok (.ireturn, 1) := by decide +kernel
theorem dX5_count_92 : decode cX5_count 92 = .ok (.aload_n 0, 1) := by decide +kernel
theorem dX5_count_93 : decode cX5_count 93 = .ok (.getfield 19, 3) := by decide +kernel
theorem dX5_count_96 : decode cX5_count 96 = .ok (.getfield 159, 3) := by decide +kernel
theorem dX5_count_99 : decode cX5_count 99 = .ok (.ireturn, 1) := by decide +kernel
theorem dX5_count_100 : decode cX5_count 100 = .ok (.aload_n 0, 1) := by decide +kernel
theorem dX5_count_101 : decode cX5_count 101 = .ok (.getfield 19, 3) := by decide +kernel
theorem dX5_count_104 : decode cX5_count 104 = .ok (.invokevirtual 146, 3) := by decide +kernel
theorem dX5_count_107 : decode cX5_count 107 = .ok (.ireturn, 1) := by decide +kernel
theorem dX5_count_108 : decode cX5_count 108 = .ok (.aload_n 0, 1) := by decide +kernel
theorem dX5_count_109 : decode cX5_count 109 = .ok (.getfield 19, 3) := by decide +kernel
theorem dX5_count_112 : decode cX5_count 112 = .ok (.invokevirtual 220, 3) := by decide +kernel
theorem dX5_count_115 : decode cX5_count 115 = .ok (.ireturn, 1) := by decide +kernel
theorem dX5_count_116 : decode cX5_count 116 = .ok (.aload_n 0, 1) := by decide +kernel
theorem dX5_count_117 : decode cX5_count 117 = .ok (.getfield 36, 3) := by decide +kernel
theorem dX5_count_120 : decode cX5_count 120 = .ok (.getfield 200, 3) := by decide +kernel
theorem dX5_count_123 : decode cX5_count 123 = .ok (.ireturn, 1) := by decide +kernel
theorem dX5_count_124 : decode cX5_count 124 = .ok (.aload_n 0, 1) := by decide +kernel
theorem dX5_count_125 : decode cX5_count 125 = .ok (.getfield 45, 3) := by decide +kernel
theorem dX5_count_128 : decode cX5_count 128 = .ok (.getfield 153, 3) := by decide +kernel
theorem dX5_count_131 : decode cX5_count 131 = .ok (.ireturn, 1) := by decide +kernel
theorem dX5_count_132 : decode cX5_count 132 = .ok (.aload_n 0, 1) := by decide +kernel
theorem dX5_count_133 : decode cX5_count 133 = .ok (.getfield 49, 3) := by decide +kernel
theorem dX5_count_136 : decode cX5_count 136 = .ok (.getfield 153, 3) := by decide +kernel
theorem dX5_count_139 : decode cX5_count 139 = .ok (.ireturn, 1) := by decide +kernel
theorem dX5_count_140 : decode cX5_count 140 = .ok (.aload_n 0, 1) := by decide +kernel
theorem dX5_count_141 : decode cX5_count 141 = .ok (.getfield 10, 3) := by decide +kernel
theorem dX5_count_144 : decode cX5_count 144 = .ok (.getfield 79, 3) := by decide +kernel
theorem dX5_count_147 : decode cX5_count 147 = .ok (.ireturn, 1) := by decide +kernel
theorem dX5_count_148 : decode cX5_count 148 = .ok (.iconst (-1), 1) := by decide +kernel
theorem dX5_count_149 : decode cX5_count 149 = .ok (.ireturn, 1) := by decide +kernel
theorem dX5_isNoMember_0 : decode cX5_isNoMember 0 = .ok (.iload_n 1, 1) := by decide +kernel
theorem dX5_isNoMember_1 : decode cX5_isNoMember 1 = .ok (.iconst 0, 1) := by decide +kernel
theorem dX5_isNoMember_2 : decode cX5_isNoMember 2 = .ok (.aload_n 0, 1) := by decide +kernel
theorem dX5_isNoMember_3 : decode cX5_isNoMember 3 = .ok (.getfield 19, 3) := by decide +kernel
theorem dX5_isNoMember_6 : decode cX5_isNoMember 6 = .ok (.getfield 82, 3) := by decide +kernel
theorem dX5_isNoMember_9 : decode cX5_isNoMember 9 = .ok (.iconst 1, 1) := by decide +kernel
theorem dX5_isNoMember_10 : decode cX5_isNoMember 10 = .ok (.isub, 1) := by decide +kernel
theorem dX5_isNoMember_11 : decode cX5_isNoMember 11 = .ok (.invokestatic 75, 3) := by decide +kernel
theorem dX5_isNoMember_14 : decode cX5_isNoMember 14 = .ok (.ireturn, 1) := by decide +kernel
theorem dX5_isOutside_0 : decode cX5_isOutside 0 = .ok (.iload_n 0, 1) := by decide +kernel
theorem dX5_isOutside_1 : decode cX5_isOutside 1 = .ok (.iload_n 1, 1) := by decide +kernel
theorem dX5_isOutside_2 : decode cX5_isOutside 2 = .ok (.if_icmp .lt 8, 3) := by decide +kernel
theorem dX5_isOutside_5 : decode cX5_isOutside 5 = .ok (.iload_n 0, 1) := by decide +kernel
theorem dX5_isOutside_6 : decode cX5_isOutside 6 = .ok (.iload_n 2, 1) := by decide +kernel
theorem dX5_isOutside_7 : decode cX5_isOutside 7 = .ok (.if_icmp .le 7, 3) := by decide +kernel
theorem dX5_isOutside_10 : decode cX5_isOutside 10 = .ok (.iconst 1, 1) := by decide +kernel
theorem dX5_isOutside_11 : decode cX5_isOutside 11 = .ok (.goto 4, 3) := by decide +kernel
theorem dX5_isOutside_14 : decode cX5_isOutside 14 = .ok (.iconst 0, 1) := by decide +kernel
theorem dX5_isOutside_15 : decode cX5_isOutside 15 = .ok (.ireturn, 1) := by decide +kernel
theorem dX5_draw_0 : decode cX5_draw 0 = .ok (.ldc2_w 223, 3) := by decide +kernel
theorem dX5_draw_3 : decode cX5_draw 3 = .ok (.iload_n 0, 1) := by decide +kernel
theorem dX5_draw_4 : decode cX5_draw 4 = .ok (.i2l, 1) := by decide +kernel
theorem dX5_draw_5 : decode cX5_draw 5 = .ok (.lmul, 1) := by decide +kernel
theorem dX5_draw_6 : decode cX5_draw 6 = .ok (.ldc2_w 225, 3) := by decide +kernel
theorem dX5_draw_9 : decode cX5_draw 9 = .ok (.iload_n 1, 1) := by decide +kernel
theorem dX5_draw_10 : decode cX5_draw 10 = .ok (.i2l, 1) := by decide +kernel
theorem dX5_draw_11 : decode cX5_draw 11 = .ok (.lmul, 1) := by decide +kernel
theorem dX5_draw_12 : decode cX5_draw 12 = .ok (.ladd, 1) := by decide +kernel
theorem dX5_draw_13 : decode cX5_draw 13 = .ok (.lconst 1, 1) := by decide +kernel
theorem dX5_draw_14 : decode cX5_draw 14 = .ok (.ladd, 1) := by decide +kernel
theorem dX5_draw_15 : decode cX5_draw 15 = .ok (.lstore_n 2, 1) := by decide +kernel
theorem dX5_draw_16 : decode cX5_draw 16 = .ok (.lload_n 2, 1) := by decide +kernel
theorem dX5_draw_17 : decode cX5_draw 17 = .ok (.lload_n 2, 1) := by decide +kernel
theorem dX5_draw_18 : decode cX5_draw 18 = .ok (.lmul, 1) := by decide +kernel
theorem dX5_draw_19 : decode cX5_draw 19 = .ok (.ldc2_w 227, 3) := by decide +kernel
theorem dX5_draw_22 : decode cX5_draw 22 = .ok (.lrem, 1) := by decide +kernel
theorem dX5_draw_23 : decode cX5_draw 23 = .ok (.ldc2_w 229, 3) := by decide +kernel
theorem dX5_draw_26 : decode cX5_draw 26 = .ok (.ldiv, 1) := by decide +kernel
theorem dX5_draw_27 : decode cX5_draw 27 = .ok (.l2i, 1) := by decide +kernel
theorem dX5_draw_28 : decode cX5_draw 28 = .ok (.ireturn, 1) := by decide +kernel
theorem dX5_inLowestTerms_0 : decode cX5_inLowestTerms 0 = .ok (.iload_n 0, 1) := by decide +kernel
theorem dX5_inLowestTerms_1 : decode cX5_inLowestTerms 1 = .ok (.iload_n 1, 1) := by decide +kernel
theorem dX5_inLowestTerms_2 : decode cX5_inLowestTerms 2 = .ok (.invokestatic 231, 3) := by decide +kernel
theorem dX5_inLowestTerms_5 : decode cX5_inLowestTerms 5 = .ok (.istore_n 3, 1) := by decide +kernel
theorem dX5_inLowestTerms_6 : decode cX5_inLowestTerms 6 = .ok (.iload_n 3, 1) := by decide +kernel
theorem dX5_inLowestTerms_7 : decode cX5_inLowestTerms 7 = .ok (.ifCond .ne 5, 3) := by decide +kernel
theorem dX5_inLowestTerms_10 : decode cX5_inLowestTerms 10 = .ok (.iconst 0, 1) := by decide +kernel
theorem dX5_inLowestTerms_11 : decode cX5_inLowestTerms 11 = .ok (.ireturn, 1) := by decide +kernel
theorem dX5_inLowestTerms_12 : decode cX5_inLowestTerms 12 = .ok (.iload_n 2, 1) := by decide +kernel
theorem dX5_inLowestTerms_13 : decode cX5_inLowestTerms 13 = .ok (.ifCond .ne 7, 3) := by decide +kernel
theorem dX5_inLowestTerms_16 : decode cX5_inLowestTerms 16 = .ok (.iload_n 0, 1) := by decide +kernel
theorem dX5_inLowestTerms_17 : decode cX5_inLowestTerms 17 = .ok (.goto 4, 3) := by decide +kernel
theorem dX5_inLowestTerms_20 : decode cX5_inLowestTerms 20 = .ok (.iload_n 1, 1) := by decide +kernel
theorem dX5_inLowestTerms_21 : decode cX5_inLowestTerms 21 = .ok (.iload_n 3, 1) := by decide +kernel
theorem dX5_inLowestTerms_22 : decode cX5_inLowestTerms 22 = .ok (.idiv, 1) := by decide +kernel
theorem dX5_inLowestTerms_23 : decode cX5_inLowestTerms 23 = .ok (.ireturn, 1) := by decide +kernel
theorem dX5_commonDivisor_0 : decode cX5_commonDivisor 0 = .ok (.iload_n 0, 1) := by decide +kernel
theorem dX5_commonDivisor_1 : decode cX5_commonDivisor 1 = .ok (.istore_n 2, 1) := by decide +kernel
theorem dX5_commonDivisor_2 : decode cX5_commonDivisor 2 = .ok (.iload_n 1, 1) := by decide +kernel
theorem dX5_commonDivisor_3 : decode cX5_commonDivisor 3 = .ok (.istore_n 3, 1) := by decide +kernel
theorem dX5_commonDivisor_4 : decode cX5_commonDivisor 4 = .ok (.iconst 0, 1) := by decide +kernel
theorem dX5_commonDivisor_5 : decode cX5_commonDivisor 5 = .ok (.istore 4, 2) := by decide +kernel
theorem dX5_commonDivisor_7 : decode cX5_commonDivisor 7 = .ok (.iload 4, 2) := by decide +kernel
theorem dX5_commonDivisor_9 : decode cX5_commonDivisor 9 = .ok (.bipush 64, 2) := by decide +kernel
theorem dX5_commonDivisor_11 : decode cX5_commonDivisor 11 = .ok (.if_icmp .ge 23, 3) := by decide +kernel
theorem dX5_commonDivisor_14 : decode cX5_commonDivisor 14 = .ok (.iload_n 3, 1) := by decide +kernel
theorem dX5_commonDivisor_15 : decode cX5_commonDivisor 15 = .ok (.ifCond .eq 19, 3) := by decide +kernel
theorem dX5_commonDivisor_18 : decode cX5_commonDivisor 18 = .ok (.iload_n 2, 1) := by decide +kernel
theorem dX5_commonDivisor_19 : decode cX5_commonDivisor 19 = .ok (.iload_n 3, 1) := by decide +kernel
theorem dX5_commonDivisor_20 : decode cX5_commonDivisor 20 = .ok (.irem, 1) := by decide +kernel
theorem dX5_commonDivisor_21 : decode cX5_commonDivisor 21 = .ok (.istore 5, 2) := by decide +kernel
theorem dX5_commonDivisor_23 : decode cX5_commonDivisor 23 = .ok (.iload_n 3, 1) := by decide +kernel
theorem dX5_commonDivisor_24 : decode cX5_commonDivisor 24 = .ok (.istore_n 2, 1) := by decide +kernel
theorem dX5_commonDivisor_25 : decode cX5_commonDivisor 25 = .ok (.iload 5, 2) := by decide +kernel
theorem dX5_commonDivisor_27 : decode cX5_commonDivisor 27 = .ok (.istore_n 3, 1) := by decide +kernel
theorem dX5_commonDivisor_28 : decode cX5_commonDivisor 28 = .ok (.iinc 4 1, 3) := by decide +kernel
theorem dX5_commonDivisor_31 : decode cX5_commonDivisor 31 = .ok (.goto (-24), 3) := by decide +kernel
theorem dX5_commonDivisor_34 : decode cX5_commonDivisor 34 = .ok (.iload_n 2, 1) := by decide +kernel
theorem dX5_commonDivisor_35 : decode cX5_commonDivisor 35 = .ok (.ireturn, 1) := by decide +kernel
