theorem dX0_init_0 : decode cX0_init 0 = .ok (.aload_n 0, 1) := by decide +kernel
theorem dX0_init_1 : decode cX0_init 1 = .ok (.invokespecial 1, 3) := by decide +kernel
theorem dX0_init_4 : decode cX0_init 4 = .ok (.aload_n 0, 1) := by decide +kernel
theorem dX0_init_5 : decode cX0_init 5 = .ok (.iload_n 1, 1) := by decide +kernel
theorem dX0_init_6 : decode cX0_init 6 = .ok (.iconst 1, 1) := by decide +kernel
theorem dX0_init_7 : decode cX0_init 7 = .ok (.invokestatic 7, 3) := by decide +kernel
theorem dX0_init_10 : decode cX0_init 10 = .ok (.anewarray 13, 3) := by decide +kernel
theorem dX0_init_13 : decode cX0_init 13 = .ok (.putfield 15, 3) := by decide +kernel
theorem dX0_init_16 : decode cX0_init 16 = .ok (.iconst 0, 1) := by decide +kernel
theorem dX0_init_17 : decode cX0_init 17 = .ok (.istore_n 2, 1) := by decide +kernel
theorem dX0_init_18 : decode cX0_init 18 = .ok (.iload_n 2, 1) := by decide +kernel
theorem dX0_init_19 : decode cX0_init 19 = .ok (.aload_n 0, 1) := by decide +kernel
theorem dX0_init_20 : decode cX0_init 20 = .ok (.getfield 15, 3) := by decide +kernel
theorem dX0_init_23 : decode cX0_init 23 = .ok (.arraylength, 1) := by decide +kernel
theorem dX0_init_24 : decode cX0_init 24 = .ok (.if_icmp .ge 22, 3) := by decide +kernel
theorem dX0_init_27 : decode cX0_init 27 = .ok (.aload_n 0, 1) := by decide +kernel
theorem dX0_init_28 : decode cX0_init 28 = .ok (.getfield 15, 3) := by decide +kernel
theorem dX0_init_31 : decode cX0_init 31 = .ok (.iload_n 2, 1) := by decide +kernel
theorem dX0_init_32 : decode cX0_init 32 = .ok (.new 13, 3) := by decide +kernel
theorem dX0_init_35 : decode cX0_init 35 = .ok (.dup, 1) := by decide +kernel
theorem dX0_init_36 : decode cX0_init 36 = .ok (.invokespecial 21, 3) := by decide +kernel
theorem dX0_init_39 : decode cX0_init 39 = .ok (.aastore, 1) := by decide +kernel
theorem dX0_init_40 : decode cX0_init 40 = .ok (.iinc 2 1, 3) := by decide +kernel
theorem dX0_init_43 : decode cX0_init 43 = .ok (.goto (-25), 3) := by decide +kernel
theorem dX0_init_46 : decode cX0_init 46 = .ok (.return_, 1) := by decide +kernel
theorem dX0_clear_0 : decode cX0_clear 0 = .ok (.aload_n 0, 1) := by decide +kernel
theorem dX0_clear_1 : decode cX0_clear 1 = .ok (.iconst 0, 1) := by decide +kernel
theorem dX0_clear_2 : decode cX0_clear 2 = .ok (.putfield 22, 3) := by decide +kernel
theorem dX0_clear_5 : decode cX0_clear 5 = .ok (.return_, 1) := by decide +kernel
theorem dX0_put_0 : decode cX0_put 0 = .ok (.aload_n 0, 1) := by decide +kernel
theorem dX0_put_1 : decode cX0_put 1 = .ok (.getfield 22, 3) := by decide +kernel
theorem dX0_put_4 : decode cX0_put 4 = .ok (.aload_n 0, 1) := by decide +kernel
theorem dX0_put_5 : decode cX0_put 5 = .ok (.getfield 15, 3) := by decide +kernel
theorem dX0_put_8 : decode cX0_put 8 = .ok (.arraylength, 1) := by decide +kernel
theorem dX0_put_9 : decode cX0_put 9 = .ok (.if_icmp .lt 7, 3) := by decide +kernel
theorem dX0_put_12 : decode cX0_put 12 = .ok (.aload_n 0, 1) := by decide +kernel
theorem dX0_put_13 : decode cX0_put 13 = .ok (.invokevirtual 26, 3) := by decide +kernel
theorem dX0_put_16 : decode cX0_put 16 = .ok (.aload_n 0, 1) := by decide +kernel
theorem dX0_put_17 : decode cX0_put 17 = .ok (.getfield 15, 3) := by decide +kernel
theorem dX0_put_20 : decode cX0_put 20 = .ok (.aload_n 0, 1) := by decide +kernel
theorem dX0_put_21 : decode cX0_put 21 = .ok (.getfield 22, 3) := by decide +kernel
theorem dX0_put_24 : decode cX0_put 24 = .ok (.aaload, 1) := by decide +kernel
theorem dX0_put_25 : decode cX0_put 25 = .ok (.aload_n 1, 1) := by decide +kernel
theorem dX0_put_26 : decode cX0_put 26 = .ok (.invokevirtual 29, 3) := by decide +kernel
theorem dX0_put_29 : decode cX0_put 29 = .ok (.aload_n 0, 1) := by decide +kernel
theorem dX0_put_30 : decode cX0_put 30 = .ok (.dup, 1) := by decide +kernel
theorem dX0_put_31 : decode cX0_put 31 = .ok (.getfield 22, 3) := by decide +kernel
theorem dX0_put_34 : decode cX0_put 34 = .ok (.iconst 1, 1) := by decide +kernel
theorem dX0_put_35 : decode cX0_put 35 = .ok (.iadd, 1) := by decide +kernel
theorem dX0_put_36 : decode cX0_put 36 = .ok (.putfield 22, 3) := by decide +kernel
theorem dX0_put_39 : decode cX0_put 39 = .ok (.return_, 1) := by decide +kernel
theorem dX0_dropLowest_0 : decode cX0_dropLowest 0 = .ok (.aload_n 0, 1) := by decide +kernel
theorem dX0_dropLowest_1 : decode cX0_dropLowest 1 = .ok (.getfield 15, 3) := by decide +kernel
theorem dX0_dropLowest_4 : decode cX0_dropLowest 4 = .ok (.iconst 0, 1) := by decide +kernel
theorem dX0_dropLowest_5 : decode cX0_dropLowest 5 = .ok (.aaload, 1) := by decide +kernel
theorem dX0_dropLowest_6 : decode cX0_dropLowest 6 = .ok (.astore_n 1, 1) := by decide +kernel
theorem dX0_dropLowest_7 : decode cX0_dropLowest 7 = .ok (.iconst 1, 1) := by decide +kernel
theorem dX0_dropLowest_8 : decode cX0_dropLowest 8 = .ok (.istore_n 2, 1) := by decide +kernel
theorem dX0_dropLowest_9 : decode cX0_dropLowest 9 = .ok (.iload_n 2, 1) := by decide +kernel
theorem dX0_dropLowest_10 : decode cX0_dropLowest 10 = .ok (.aload_n 0, 1) := by decide +kernel
theorem dX0_dropLowest_11 : decode cX0_dropLowest 11 = .ok (.getfield 15, 3) := by decide +kernel
theorem dX0_dropLowest_14 : decode cX0_dropLowest 14 = .ok (.arraylength, 1) := by decide +kernel
theorem dX0_dropLowest_15 : decode cX0_dropLowest 15 = .ok (.if_icmp .ge 23, 3) := by decide +kernel
theorem dX0_dropLowest_18 : decode cX0_dropLowest 18 = .ok (.aload_n 0, 1) := by decide +kernel
theorem dX0_dropLowest_19 : decode cX0_dropLowest 19 = .ok (.getfield 15, 3) := by decide +kernel
theorem dX0_dropLowest_22 : decode cX0_dropLowest 22 = .ok (.iload_n 2, 1) := by decide +kernel
theorem dX0_dropLowest_23 : decode cX0_dropLowest 23 = .ok (.iconst 1, 1) := by decide +kernel
theorem dX0_dropLowest_24 : decode cX0_dropLowest 24 = .ok (.isub, 1) := by decide +kernel
theorem dX0_dropLowest_25 : decode cX0_dropLowest 25 = .ok (.aload_n 0, 1) := by decide +kernel
theorem dX0_dropLowest_26 : decode cX0_dropLowest 26 = .ok (.getfield 15, 3) := by decide +kernel
theorem dX0_dropLowest_29 : decode cX0_dropLowest 29 = .ok (.iload_n 2, 1) := by decide +kernel
theorem dX0_dropLowest_30 : decode cX0_dropLowest 30 = .ok (.aaload, 1) := by decide +kernel
theorem dX0_dropLowest_31 : decode cX0_dropLowest 31 = .ok (.aastore, 1) := by decide +kernel
theorem dX0_dropLowest_32 : decode cX0_dropLowest 32 = .ok (.iinc 2 1, 3) := by decide +kernel
theorem dX0_dropLowest_35 : decode cX0_dropLowest 35 = .ok (.goto (-26), 3) := by decide +kernel
theorem dX0_dropLowest_38 : decode cX0_dropLowest 38 = .ok (.aload_n 0, 1) := by decide +kernel
theorem dX0_dropLowest_39 : decode cX0_dropLowest 39 = .ok (.aload_n 0, 1) := by decide +kernel
theorem dX0_dropLowest_40 : decode cX0_dropLowest 40 = .ok (.getfield 15, 3) := by decide +kernel
theorem dX0_dropLowest_43 : decode cX0_dropLowest 43 = .ok (.arraylength, 1) := by decide +kernel
theorem dX0_dropLowest_44 : decode cX0_dropLowest 44 = .ok (.iconst 1, 1) := by decide +kernel
theorem dX0_dropLowest_45 : decode cX0_dropLowest 45 = .ok (.isub, 1) := by decide +kernel
theorem dX0_dropLowest_46 : decode cX0_dropLowest 46 = .ok (.putfield 22, 3) := by decide +kernel
theorem dX0_dropLowest_49 : decode cX0_dropLowest 49 = .ok (.aload_n 0, 1) := by decide +kernel
theorem dX0_dropLowest_50 : decode cX0_dropLowest 50 = .ok (.getfield 15, 3) := by decide +kernel
theorem dX0_dropLowest_53 : decode cX0_dropLowest 53 = .ok (.aload_n 0, 1) := by decide +kernel
theorem dX0_dropLowest_54 : decode cX0_dropLowest 54 = .ok (.getfield 22, 3) := by decide +kernel
theorem dX0_dropLowest_57 : decode cX0_dropLowest 57 = .ok (.aload_n 1, 1) := by decide +kernel
theorem dX0_dropLowest_58 : decode cX0_dropLowest 58 = .ok (.aastore, 1) := by decide +kernel
theorem dX0_dropLowest_59 : decode cX0_dropLowest 59 = .ok (.return_, 1) := by decide +kernel
theorem dX0_takeLast_0 : decode cX0_takeLast 0 = .ok (.aload_n 0, 1) := by decide +kernel
theorem dX0_takeLast_1 : decode cX0_takeLast 1 = .ok (.getfield 22, 3) := by decide +kernel
theorem dX0_takeLast_4 : decode cX0_takeLast 4 = .ok (.iconst 1, 1) := by decide +kernel
theorem dX0_takeLast_5 : decode cX0_takeLast 5 = .ok (.aload_n 0, 1) := by decide +kernel
theorem dX0_takeLast_6 : decode cX0_takeLast 6 = .ok (.getfield 15, 3) := by decide +kernel
theorem dX0_takeLast_9 : decode cX0_takeLast 9 = .ok (.arraylength, 1) := by decide +kernel
theorem dX0_takeLast_10 : decode cX0_takeLast 10 = .ok (.invokestatic 33, 3) := by decide +kernel
theorem dX0_takeLast_13 : decode cX0_takeLast 13 = .ok (.ifCond .eq 5, 3) := by decide +kernel
theorem dX0_takeLast_16 : decode cX0_takeLast 16 = .ok (.iconst 0, 1) := by decide +kernel
theorem dX0_takeLast_17 : decode cX0_takeLast 17 = .ok (.ireturn, 1) := by decide +kernel
theorem dX0_takeLast_18 : decode cX0_takeLast 18 = .ok (.aload_n 0, 1) := by decide +kernel
theorem dX0_takeLast_19 : decode cX0_takeLast 19 = .ok (.dup, 1) := by decide +kernel
theorem dX0_takeLast_20 : decode cX0_takeLast 20 = .ok (.getfield 22, 3) := by decide +kernel
theorem dX0_takeLast_23 : decode cX0_takeLast 23 = .ok (.iconst 1, 1) := by decide +kernel
theorem dX0_takeLast_24 : decode cX0_takeLast 24 = .ok (.isub, 1) := by decide +kernel
theorem dX0_takeLast_25 : decode cX0_takeLast 25 = .ok (.putfield 22, 3) := by decide +kernel
theorem dX0_takeLast_28 : decode cX0_takeLast 28 = .ok (.aload_n 1, 1) := by decide +kernel
theorem dX0_takeLast_29 : decode cX0_takeLast 29 = .ok (.aload_n 0, 1) := by decide +kernel
theorem dX0_takeLast_30 : decode cX0_takeLast 30 = .ok (.getfield 15, 3) := by decide +kernel
theorem dX0_takeLast_33 : decode cX0_takeLast 33 = .ok (.aload_n 0, 1) := by decide +kernel
theorem dX0_takeLast_34 : decode cX0_takeLast 34 = .ok (.getfield 22, 3) := by decide +kernel
theorem dX0_takeLast_37 : decode cX0_takeLast 37 = .ok (.aaload, 1) := by decide +kernel
theorem dX0_takeLast_38 : decode cX0_takeLast 38 = .ok (.invokevirtual 29, 3) := by decide +kernel
theorem dX0_takeLast_41 : decode cX0_takeLast 41 = .ok (.iconst 1, 1) := by decide +kernel
theorem dX0_takeLast_42 : decode cX0_takeLast 42 = .ok (.ireturn, 1) := by decide +kernel
theorem dX1_init_0 : decode cX1_init 0 = .ok (.aload_n 0, 1) := by decide +kernel
theorem dX1_init_1 : decode cX1_init 1 = .ok (.invokespecial 3, 3) := by decide +kernel
theorem dX1_init_4 : decode cX1_init 4 = .ok (.aload_n 0, 1) := by decide +kernel
theorem dX1_init_5 : decode cX1_init 5 = .ok (.bipush 7, 2) := by decide +kernel
theorem dX1_init_7 : decode cX1_init 7 = .ok (.newarray .int, 2) := by decide +kernel
theorem dX1_init_9 : decode cX1_init 9 = .ok (.putfield 9, 3) := by decide +kernel
theorem dX1_init_12 : decode cX1_init 12 = .ok (.return_, 1) := by decide +kernel
theorem dX1_measure_0 : decode cX1_measure 0 = .ok (.aload_n 0, 1) := by decide +kernel
theorem dX1_measure_1 : decode cX1_measure 1 = .ok (.aload_n 1, 1) := by decide +kernel
theorem dX1_measure_2 : decode cX1_measure 2 = .ok (.getfield 15, 3) := by decide +kernel
theorem dX1_measure_5 : decode cX1_measure 5 = .ok (.putfield 21, 3) := by decide +kernel
theorem dX1_measure_8 : decode cX1_measure 8 = .ok (.aload_n 0, 1) := by decide +kernel
theorem dX1_measure_9 : decode cX1_measure 9 = .ok (.aload_n 1, 1) := by decide +kernel
theorem dX1_measure_10 : decode cX1_measure 10 = .ok (.getfield 22, 3) := by decide +kernel
theorem dX1_measure_13 : decode cX1_measure 13 = .ok (.putfield 25, 3) := by decide +kernel
theorem dX1_measure_16 : decode cX1_measure 16 = .ok (.iconst 0, 1) := by decide +kernel
theorem dX1_measure_17 : decode cX1_measure 17 = .ok (.istore_n 2, 1) := by decide +kernel
theorem dX1_measure_18 : decode cX1_measure 18 = .ok (.iload_n 2, 1) := by decide +kernel
theorem dX1_measure_19 : decode cX1_measure 19 = .ok (.aload_n 0, 1) := by decide +kernel
theorem dX1_measure_20 : decode cX1_measure 20 = .ok (.getfield 21, 3) := by decide +kernel
theorem dX1_measure_23 : decode cX1_measure 23 = .ok (.if_icmp .ge 20, 3) := by decide +kernel
theorem dX1_measure_26 : decode cX1_measure 26 = .ok (.aload_n 0, 1) := by decide +kernel
theorem dX1_measure_27 : decode cX1_measure 27 = .ok (.getfield 9, 3) := by decide +kernel
theorem dX1_measure_30 : decode cX1_measure 30 = .ok (.iload_n 2, 1) := by decide +kernel
theorem dX1_measure_31 : decode cX1_measure 31 = .ok (.aload_n 1, 1) := by decide +kernel
theorem dX1_measure_32 : decode cX1_measure 32 = .ok (.iload_n 2, 1) := by decide +kernel
theorem dX1_measure_33 : decode cX1_measure 33 = .ok (.invokevirtual 26, 3) := by decide +kernel
theorem dX1_measure_36 : decode cX1_measure 36 = .ok (.iastore, 1) := by decide +kernel
theorem dX1_measure_37 : decode cX1_measure 37 = .ok (.iinc 2 1, 3) := by decide +kernel
theorem dX1_measure_40 : decode cX1_measure 40 = .ok (.goto (-22), 3) := by decide +kernel
theorem dX1_measure_43 : decode cX1_measure 43 = .ok (.return_, 1) := by decide +kernel
theorem dX1_howMany_0 : decode cX1_howMany 0 = .ok (.iconst 1, 1) := by decide +kernel
theorem dX1_howMany_1 : decode cX1_howMany 1 = .ok (.aload_n 0, 1) := by decide +kernel
theorem dX1_howMany_2 : decode cX1_howMany 2 = .ok (.getfield 21, 3) := by decide +kernel
theorem dX1_howMany_5 : decode cX1_howMany 5 = .ok (.ishl, 1) := by decide +kernel
theorem dX1_howMany_6 : decode cX1_howMany 6 = .ok (.ireturn, 1) := by decide +kernel
theorem dX1_letsPass_0 : decode cX1_letsPass 0 = .ok (.iconst 0, 1) := by decide +kernel
theorem dX1_letsPass_1 : decode cX1_letsPass 1 = .ok (.istore_n 2, 1) := by decide +kernel
theorem dX1_letsPass_2 : decode cX1_letsPass 2 = .ok (.iconst 0, 1) := by decide +kernel
theorem dX1_letsPass_3 : decode cX1_letsPass 3 = .ok (.istore_n 3, 1) := by decide +kernel
theorem dX1_letsPass_4 : decode cX1_letsPass 4 = .ok (.iload_n 3, 1) := by decide +kernel
theorem dX1_letsPass_5 : decode cX1_letsPass 5 = .ok (.aload_n 0, 1) := by decide +kernel
theorem dX1_letsPass_6 : decode cX1_letsPass 6 = .ok (.getfield 21, 3) := by decide +kernel
theorem dX1_letsPass_9 : decode cX1_letsPass 9 = .ok (.if_icmp .ge 26, 3) := by decide +kernel
theorem dX1_letsPass_12 : decode cX1_letsPass 12 = .ok (.iload_n 1, 1) := by decide +kernel
theorem dX1_letsPass_13 : decode cX1_letsPass 13 = .ok (.iload_n 3, 1) := by decide +kernel
theorem dX1_letsPass_14 : decode cX1_letsPass 14 = .ok (.invokestatic 29, 3) := by decide +kernel
theorem dX1_letsPass_17 : decode cX1_letsPass 17 = .ok (.ifCond .eq 12, 3) := by decide +kernel
theorem dX1_letsPass_20 : decode cX1_letsPass 20 = .ok (.iload_n 2, 1) := by decide +kernel
theorem dX1_letsPass_21 : decode cX1_letsPass 21 = .ok (.aload_n 0, 1) := by decide +kernel
theorem dX1_letsPass_22 : decode cX1_letsPass 22 = .ok (.getfield 9, 3) := by decide +kernel
theorem dX1_letsPass_25 : decode cX1_letsPass 25 = .ok (.iload_n 3, 1) := by decide +kernel
theorem dX1_letsPass_26 : decode cX1_letsPass 26 = .ok (.iaload, 1) := by decide +kernel
theorem dX1_letsPass_27 : decode cX1_letsPass 27 = .ok (.iadd, 1) := by decide +kernel
theorem dX1_letsPass_28 : decode cX1_letsPass 28 = .ok (.istore_n 2, 1) := by decide +kernel
theorem dX1_letsPass_29 : decode cX1_letsPass 29 = .ok (.iinc 3 1, 3) := by decide +kernel
theorem dX1_letsPass_32 : decode cX1_letsPass 32 = .ok (.goto (-28), 3) := by decide +kernel
theorem dX1_letsPass_35 : decode cX1_letsPass 35 = .ok (.iload_n 2, 1) := by decide +kernel
theorem dX1_letsPass_36 : decode cX1_letsPass 36 = .ok (.aload_n 0, 1) := by decide +kernel
theorem dX1_letsPass_37 : decode cX1_letsPass 37 = .ok (.getfield 25, 3) := by decide +kernel
theorem dX1_letsPass_40 : decode cX1_letsPass 40 = .ok (.if_icmp .lt 7, 3) := by decide +kernel
theorem dX1_letsPass_43 : decode cX1_letsPass 43 = .ok (.iconst 1, 1) := by decide +kernel
theorem dX1_letsPass_44 : decode cX1_letsPass 44 = .ok (.goto 4, 3) := by decide +kernel
theorem dX1_letsPass_47 : decode cX1_letsPass 47 = .ok (.iconst 0, 1) := by decide +kernel
theorem dX1_letsPass_48 : decode cX1_letsPass 48 = .ok (.ireturn, 1) := by decide +kernel
theorem dX1_isIn_0 : decode cX1_isIn 0 = .ok (.iload_n 0, 1) := by decide +kernel
theorem dX1_isIn_1 : decode cX1_isIn 1 = .ok (.iload_n 1, 1) := by decide +kernel
theorem dX1_isIn_2 : decode cX1_isIn 2 = .ok (.ishr, 1) := by decide +kernel
theorem dX1_isIn_3 : decode cX1_isIn 3 = .ok (.iconst 1, 1) := by decide +kernel
theorem dX1_isIn_4 : decode cX1_isIn 4 = .ok (.iand, 1) := by decide +kernel
theorem dX1_isIn_5 : decode cX1_isIn 5 = .ok (.iconst 1, 1) := by decide +kernel
theorem dX1_isIn_6 : decode cX1_isIn 6 = .ok (.if_icmp .ne 7, 3) := by decide +kernel
theorem dX1_isIn_9 : decode cX1_isIn 9 = .ok (.iconst 1, 1) := by decide +kernel
theorem dX1_isIn_10 : decode cX1_isIn 10 = .ok (.goto 4, 3) := by decide +kernel
theorem dX1_isIn_13 : decode cX1_isIn 13 = .ok (.iconst 0, 1) := by decide +kernel
theorem dX1_isIn_14 : decode cX1_isIn 14 = .ok (.ireturn, 1) := by decide +kernel
theorem dX1_fewest_0 : decode cX1_fewest 0 = .ok (.bipush (-4), 2) := by decide +kernel
theorem dX1_fewest_2 : decode cX1_fewest 2 = .ok (.istore_n 1, 1) := by decide +kernel
theorem dX1_fewest_3 : decode cX1_fewest 3 = .ok (.iconst 0, 1) := by decide +kernel
theorem dX1_fewest_4 : decode cX1_fewest 4 = .ok (.istore_n 2, 1) := by decide +kernel
theorem dX1_fewest_5 : decode cX1_fewest 5 = .ok (.iload_n 2, 1) := by decide +kernel
theorem dX1_fewest_6 : decode cX1_fewest 6 = .ok (.aload_n 0, 1) := by decide +kernel
theorem dX1_fewest_7 : decode cX1_fewest 7 = .ok (.invokevirtual 33, 3) := by decide +kernel
theorem dX1_fewest_10 : decode cX1_fewest 10 = .ok (.if_icmp .ge 36, 3) := by decide +kernel
theorem dX1_fewest_13 : decode cX1_fewest 13 = .ok (.aload_n 0, 1) := by decide +kernel
theorem dX1_fewest_14 : decode cX1_fewest 14 = .ok (.iload_n 2, 1) := by decide +kernel
theorem dX1_fewest_15 : decode cX1_fewest 15 = .ok (.invokevirtual 37, 3) := by decide +kernel
theorem dX1_fewest_18 : decode cX1_fewest 18 = .ok (.ifCond .eq 22, 3) := by decide +kernel
theorem dX1_fewest_21 : decode cX1_fewest 21 = .ok (.iload_n 1, 1) := by decide +kernel
theorem dX1_fewest_22 : decode cX1_fewest 22 = .ok (.bipush (-4), 2) := by decide +kernel
theorem dX1_fewest_24 : decode cX1_fewest 24 = .ok (.if_icmp .eq 14, 3) := by decide +kernel
theorem dX1_fewest_27 : decode cX1_fewest 27 = .ok (.iload_n 2, 1) := by decide +kernel
theorem dX1_fewest_28 : decode cX1_fewest 28 = .ok (.invokestatic 41, 3) := by decide +kernel
theorem dX1_fewest_31 : decode cX1_fewest 31 = .ok (.iload_n 1, 1) := by decide +kernel
theorem dX1_fewest_32 : decode cX1_fewest 32 = .ok (.invokestatic 41, 3) := by decide +kernel
theorem dX1_fewest_35 : decode cX1_fewest 35 = .ok (.if_icmp .ge 5, 3) := by decide +kernel
theorem dX1_fewest_38 : decode cX1_fewest 38 = .ok (.iload_n 2, 1) := by decide +kernel
theorem dX1_fewest_39 : decode cX1_fewest 39 = .ok (.istore_n 1, 1) := by decide +kernel
theorem dX1_fewest_40 : decode cX1_fewest 40 = .ok (.iinc 2 1, 3) := by decide +kernel
theorem dX1_fewest_43 : decode cX1_fewest 43 = .ok (.goto (-38), 3) := by decide +kernel
theorem dX1_fewest_46 : decode cX1_fewest 46 = .ok (.iload_n 1, 1) := by decide +kernel
theorem dX1_fewest_47 : decode cX1_fewest 47 = .ok (.ireturn, 1) := by decide +kernel
theorem dX1_orders_0 : decode cX1_orders 0 = .ok (.aload_n 0, 1) := by decide +kernel
theorem dX1_orders_1 : decode cX1_orders 1 = .ok (.getfield 21, 3) := by decide +kernel
theorem dX1_orders_4 : decode cX1_orders 4 = .ok (.invokestatic 46, 3) := by decide +kernel
theorem dX1_orders_7 : decode cX1_orders 7 = .ok (.ireturn, 1) := by decide +kernel
theorem dX1_ordersDecidedBy_0 : decode cX1_ordersDecidedBy 0 = .ok (.iconst 0, 1) := by decide +kernel
theorem dX1_ordersDecidedBy_1 : decode cX1_ordersDecidedBy 1 = .ok (.istore_n 2, 1) := by decide +kernel
theorem dX1_ordersDecidedBy_2 : decode cX1_ordersDecidedBy 2 = .ok (.iconst 0, 1) := by decide +kernel
theorem dX1_ordersDecidedBy_3 : decode cX1_ordersDecidedBy 3 = .ok (.istore_n 3, 1) := by decide +kernel
theorem dX1_ordersDecidedBy_4 : decode cX1_ordersDecidedBy 4 = .ok (.iload_n 3, 1) := by decide +kernel
theorem dX1_ordersDecidedBy_5 : decode cX1_ordersDecidedBy 5 = .ok (.aload_n 0, 1) := by decide +kernel
theorem dX1_ordersDecidedBy_6 : decode cX1_ordersDecidedBy 6 = .ok (.invokevirtual 33, 3) := by decide +kernel
theorem dX1_ordersDecidedBy_9 : decode cX1_ordersDecidedBy 9 = .ok (.if_icmp .ge 64, 3) := by decide +kernel
theorem dX1_ordersDecidedBy_12 : decode cX1_ordersDecidedBy 12 = .ok (.iload_n 3, 1) := by decide +kernel
theorem dX1_ordersDecidedBy_13 : decode cX1_ordersDecidedBy 13 = .ok (.iload_n 1, 1) := by decide +kernel
theorem dX1_ordersDecidedBy_14 : decode cX1_ordersDecidedBy 14 = .ok (.invokestatic 29, 3) := by decide +kernel
theorem dX1_ordersDecidedBy_17 : decode cX1_ordersDecidedBy 17 = .ok (.ifCond .ne 50, 3) := by decide +kernel
theorem dX1_ordersDecidedBy_20 : decode cX1_ordersDecidedBy 20 = .ok (.aload_n 0, 1) := by decide +kernel
theorem dX1_ordersDecidedBy_21 : decode cX1_ordersDecidedBy 21 = .ok (.iload_n 3, 1) := by decide +kernel
theorem dX1_ordersDecidedBy_22 : decode cX1_ordersDecidedBy 22 = .ok (.invokevirtual 37, 3) := by decide +kernel
theorem dX1_ordersDecidedBy_25 : decode cX1_ordersDecidedBy 25 = .ok (.ifCond .ne 42, 3) := by decide +kernel
theorem dX1_ordersDecidedBy_28 : decode cX1_ordersDecidedBy 28 = .ok (.aload_n 0, 1) := by decide +kernel
theorem dX1_ordersDecidedBy_29 : decode cX1_ordersDecidedBy 29 = .ok (.iload_n 3, 1) := by decide +kernel
theorem dX1_ordersDecidedBy_30 : decode cX1_ordersDecidedBy 30 = .ok (.iconst 1, 1) := by decide +kernel
theorem dX1_ordersDecidedBy_31 : decode cX1_ordersDecidedBy 31 = .ok (.iload_n 1, 1) := by decide +kernel
theorem dX1_ordersDecidedBy_32 : decode cX1_ordersDecidedBy 32 = .ok (.ishl, 1) := by decide +kernel
theorem dX1_ordersDecidedBy_33 : decode cX1_ordersDecidedBy 33 = .ok (.ior, 1) := by decide +kernel
theorem dX1_ordersDecidedBy_34 : decode cX1_ordersDecidedBy 34 = .ok (.invokevirtual 37, 3) := by decide +kernel
theorem dX1_ordersDecidedBy_37 : decode cX1_ordersDecidedBy 37 = .ok (.ifCond .eq 30, 3) := by decide +kernel
theorem dX1_ordersDecidedBy_40 : decode cX1_ordersDecidedBy 40 = .ok (.iload_n 3, 1) := by decide +kernel
theorem dX1_ordersDecidedBy_41 : decode cX1_ordersDecidedBy 41 = .ok (.invokestatic 41, 3) := by decide +kernel
theorem dX1_ordersDecidedBy_44 : decode cX1_ordersDecidedBy 44 = .ok (.istore 4, 2) := by decide +kernel
theorem dX1_ordersDecidedBy_46 : decode cX1_ordersDecidedBy 46 = .ok (.iload_n 2, 1) := by decide +kernel
theorem dX1_ordersDecidedBy_47 : decode cX1_ordersDecidedBy 47 = .ok (.iload 4, 2) := by decide +kernel
theorem dX1_ordersDecidedBy_49 : decode cX1_ordersDecidedBy 49 = .ok (.invokestatic 46, 3) := by decide +kernel
theorem dX1_ordersDecidedBy_52 : decode cX1_ordersDecidedBy 52 = .ok (.aload_n 0, 1) := by decide +kernel
theorem dX1_ordersDecidedBy_53 : decode cX1_ordersDecidedBy 53 = .ok (.getfield 21, 3) := by decide +kernel
theorem dX1_ordersDecidedBy_56 : decode cX1_ordersDecidedBy 56 = .ok (.iconst 1, 1) := by decide +kernel
theorem dX1_ordersDecidedBy_57 : decode cX1_ordersDecidedBy 57 = .ok (.isub, 1) := by decide +kernel
theorem dX1_ordersDecidedBy_58 : decode cX1_ordersDecidedBy 58 = .ok (.iload 4, 2) := by decide +kernel
theorem dX1_ordersDecidedBy_60 : decode cX1_ordersDecidedBy 60 = .ok (.isub, 1) := by decide +kernel
theorem dX1_ordersDecidedBy_61 : decode cX1_ordersDecidedBy 61 = .ok (.invokestatic 46, 3) := by decide +kernel
theorem dX1_ordersDecidedBy_64 : decode cX1_ordersDecidedBy 64 = .ok (.imul, 1) := by decide +kernel
theorem dX1_ordersDecidedBy_65 : decode cX1_ordersDecidedBy 65 = .ok (.iadd, 1) := by decide +kernel
theorem dX1_ordersDecidedBy_66 : decode cX1_ordersDecidedBy 66 = .ok (.istore_n 2, 1) := by decide +kernel
theorem dX1_ordersDecidedBy_67 : decode cX1_ordersDecidedBy 67 = .ok (.iinc 3 1, 3) := by decide +kernel
theorem dX1_ordersDecidedBy_70 : decode cX1_ordersDecidedBy 70 = .ok (.goto (-66), 3) := by decide +kernel
theorem dX1_ordersDecidedBy_73 : decode cX1_ordersDecidedBy 73 = .ok (.iload_n 2, 1) := by decide +kernel
theorem dX1_ordersDecidedBy_74 : decode cX1_ordersDecidedBy 74 = .ok (.ireturn, 1) := by decide +kernel
theorem dX1_factorial_0 : decode cX1_factorial 0 = .ok (.iconst 1, 1) := by decide +kernel
theorem dX1_factorial_1 : decode cX1_factorial 1 = .ok (.istore_n 1, 1) := by decide +kernel
theorem dX1_factorial_2 : decode cX1_factorial 2 = .ok (.iconst 2, 1) := by decide +kernel
theorem dX1_factorial_3 : decode cX1_factorial 3 = .ok (.istore_n 2, 1) := by decide +kernel
theorem dX1_factorial_4 : decode cX1_factorial 4 = .ok (.iload_n 2, 1) := by decide +kernel
theorem dX1_factorial_5 : decode cX1_factorial 5 = .ok (.iload_n 0, 1) := by decide +kernel
theorem dX1_factorial_6 : decode cX1_factorial 6 = .ok (.if_icmp .gt 13, 3) := by decide +kernel
theorem dX1_factorial_9 : decode cX1_factorial 9 = .ok (.iload_n 1, 1) := by decide +kernel
theorem dX1_factorial_10 : decode cX1_factorial 10 = .ok (.iload_n 2, 1) := by decide +kernel
theorem dX1_factorial_11 : decode cX1_factorial 11 = .ok (.imul, 1) := by decide +kernel
theorem dX1_factorial_12 : decode cX1_factorial 12 = .ok (.istore_n 1, 1) := by decide +kernel
theorem dX1_factorial_13 : decode cX1_factorial 13 = .ok (.iinc 2 1, 3) := by decide +kernel
theorem dX1_factorial_16 : decode cX1_factorial 16 = .ok (.goto (-12), 3) := by decide +kernel
theorem dX1_factorial_19 : decode cX1_factorial 19 = .ok (.iload_n 1, 1) := by decide +kernel
theorem dX1_factorial_20 : decode cX1_factorial 20 = .ok (.ireturn, 1) := by decide +kernel
theorem dX1_cases_0 : decode cX1_cases 0 = .ok (.iconst 1, 1) := by decide +kernel
theorem dX1_cases_1 : decode cX1_cases 1 = .ok (.istore_n 1, 1) := by decide +kernel
theorem dX1_cases_2 : decode cX1_cases 2 = .ok (.iconst 0, 1) := by decide +kernel
theorem dX1_cases_3 : decode cX1_cases 3 = .ok (.istore_n 2, 1) := by decide +kernel
theorem dX1_cases_4 : decode cX1_cases 4 = .ok (.iload_n 2, 1) := by decide +kernel
theorem dX1_cases_5 : decode cX1_cases 5 = .ok (.aload_n 0, 1) := by decide +kernel
theorem dX1_cases_6 : decode cX1_cases 6 = .ok (.getfield 21, 3) := by decide +kernel
theorem dX1_cases_9 : decode cX1_cases 9 = .ok (.if_icmp .ge 14, 3) := by decide +kernel
theorem dX1_cases_12 : decode cX1_cases 12 = .ok (.iload_n 1, 1) := by decide +kernel
theorem dX1_cases_13 : decode cX1_cases 13 = .ok (.bipush 10, 2) := by decide +kernel
theorem dX1_cases_15 : decode cX1_cases 15 = .ok (.imul, 1) := by decide +kernel
theorem dX1_cases_16 : decode cX1_cases 16 = .ok (.istore_n 1, 1) := by decide +kernel
theorem dX1_cases_17 : decode cX1_cases 17 = .ok (.iinc 2 1, 3) := by decide +kernel
theorem dX1_cases_20 : decode cX1_cases 20 = .ok (.goto (-16), 3) := by decide +kernel
theorem dX1_cases_23 : decode cX1_cases 23 = .ok (.iload_n 1, 1) := by decide +kernel
theorem dX1_cases_24 : decode cX1_cases 24 = .ok (.ireturn, 1) := by decide +kernel
theorem dX1_passingCasesBy_0 : decode cX1_passingCasesBy 0 = .ok (.iconst 0, 1) := by decide +kernel
theorem dX1_passingCasesBy_1 : decode cX1_passingCasesBy 1 = .ok (.istore_n 2, 1) := by decide +kernel
theorem dX1_passingCasesBy_2 : decode cX1_passingCasesBy 2 = .ok (.iconst 0, 1) := by decide +kernel
theorem dX1_passingCasesBy_3 : decode cX1_passingCasesBy 3 = .ok (.istore_n 3, 1) := by decide +kernel
theorem dX1_passingCasesBy_4 : decode cX1_passingCasesBy 4 = .ok (.iload_n 3, 1) := by decide +kernel
theorem dX1_passingCasesBy_5 : decode cX1_passingCasesBy 5 = .ok (.aload_n 0, 1) := by decide +kernel
theorem dX1_passingCasesBy_6 : decode cX1_passingCasesBy 6 = .ok (.invokevirtual 33, 3) := by decide +kernel
theorem dX1_passingCasesBy_9 : decode cX1_passingCasesBy 9 = .ok (.if_icmp .ge 26, 3) := by decide +kernel
theorem dX1_passingCasesBy_12 : decode cX1_passingCasesBy 12 = .ok (.aload_n 0, 1) := by decide +kernel
theorem dX1_passingCasesBy_13 : decode cX1_passingCasesBy 13 = .ok (.iload_n 3, 1) := by decide +kernel
theorem dX1_passingCasesBy_14 : decode cX1_passingCasesBy 14 = .ok (.invokevirtual 37, 3) := by decide +kernel
theorem dX1_passingCasesBy_17 : decode cX1_passingCasesBy 17 = .ok (.ifCond .eq 12, 3) := by decide +kernel
theorem dX1_passingCasesBy_20 : decode cX1_passingCasesBy 20 = .ok (.iload_n 2, 1) := by decide +kernel
theorem dX1_passingCasesBy_21 : decode cX1_passingCasesBy 21 = .ok (.aload_n 0, 1) := by decide +kernel
theorem dX1_passingCasesBy_22 : decode cX1_passingCasesBy 22 = .ok (.iload_n 3, 1) := by decide +kernel
theorem dX1_passingCasesBy_23 : decode cX1_passingCasesBy 23 = .ok (.iload_n 1, 1) := by decide +kernel
theorem dX1_passingCasesBy_24 : decode cX1_passingCasesBy 24 = .ok (.invokevirtual 49, 3) := by decide +kernel
theorem dX1_passingCasesBy_27 : decode cX1_passingCasesBy 27 = .ok (.iadd, 1) := by decide +kernel
theorem dX1_passingCasesBy_28 : decode cX1_passingCasesBy 28 = .ok (.istore_n 2, 1) := by decide +kernel
theorem dX1_passingCasesBy_29 : decode cX1_passingCasesBy 29 = .ok (.iinc 3 1, 3) := by decide +kernel
theorem dX1_passingCasesBy_32 : decode cX1_passingCasesBy 32 = .ok (.goto (-28), 3) := by decide +kernel
theorem dX1_passingCasesBy_35 : decode cX1_passingCasesBy 35 = .ok (.iload_n 2, 1) := by decide +kernel
theorem dX1_passingCasesBy_36 : decode cX1_passingCasesBy 36 = .ok (.ireturn, 1) := by decide +kernel
theorem dX1_casesOf_0 : decode cX1_casesOf 0 = .ok (.iconst 1, 1) := by decide +kernel
theorem dX1_casesOf_1 : decode cX1_casesOf 1 = .ok (.istore_n 3, 1) := by decide +kernel
theorem dX1_casesOf_2 : decode cX1_casesOf 2 = .ok (.iconst 0, 1) := by decide +kernel
theorem dX1_casesOf_3 : decode cX1_casesOf 3 = .ok (.istore 4, 2) := by decide +kernel
theorem dX1_casesOf_5 : decode cX1_casesOf 5 = .ok (.iload 4, 2) := by decide +kernel
theorem dX1_casesOf_7 : decode cX1_casesOf 7 = .ok (.aload_n 0, 1) := by decide +kernel
theorem dX1_casesOf_8 : decode cX1_casesOf 8 = .ok (.getfield 21, 3) := by decide +kernel
theorem dX1_casesOf_11 : decode cX1_casesOf 11 = .ok (.if_icmp .ge 29, 3) := by decide +kernel
theorem dX1_casesOf_14 : decode cX1_casesOf 14 = .ok (.iload_n 3, 1) := by decide +kernel
theorem dX1_casesOf_15 : decode cX1_casesOf 15 = .ok (.iload_n 1, 1) := by decide +kernel
theorem dX1_casesOf_16 : decode cX1_casesOf 16 = .ok (.iload 4, 2) := by decide +kernel
theorem dX1_casesOf_18 : decode cX1_casesOf 18 = .ok (.invokestatic 29, 3) := by decide +kernel
theorem dX1_casesOf_21 : decode cX1_casesOf 21 = .ok (.ifCond .eq 7, 3) := by decide +kernel
theorem dX1_casesOf_24 : decode cX1_casesOf 24 = .ok (.iload_n 2, 1) := by decide +kernel
theorem dX1_casesOf_25 : decode cX1_casesOf 25 = .ok (.goto 7, 3) := by decide +kernel
theorem dX1_casesOf_28 : decode cX1_casesOf 28 = .ok (.bipush 10, 2) := by decide +kernel
theorem dX1_casesOf_30 : decode cX1_casesOf 30 = .ok (.iload_n 2, 1) := by decide +kernel
theorem dX1_casesOf_31 : decode cX1_casesOf 31 = .ok (.isub, 1) := by decide +kernel
theorem dX1_casesOf_32 : decode cX1_casesOf 32 = .ok (.imul, 1) := by decide +kernel
theorem dX1_casesOf_33 : decode cX1_casesOf 33 = .ok (.istore_n 3, 1) := by decide +kernel
theorem dX1_casesOf_34 : decode cX1_casesOf 34 = .ok (.iinc 4 1, 3) := by decide +kernel
theorem dX1_casesOf_37 : decode cX1_casesOf 37 = .ok (.goto (-32), 3) := by decide +kernel
theorem dX1_casesOf_40 : decode cX1_casesOf 40 = .ok (.iload_n 3, 1) := by decide +kernel
theorem dX1_casesOf_41 : decode cX1_casesOf 41 = .ok (.ireturn, 1) := by decide +kernel
theorem dX2_init_0 : decode cX2_init 0 = .ok (.aload_n 0, 1) := by decide +kernel
theorem dX2_init_1 : decode cX2_init 1 = .ok (.invokespecial 3, 3) := by decide +kernel
theorem dX2_init_4 : decode cX2_init 4 = .ok (.aload_n 0, 1) := by decide +kernel
theorem dX2_init_5 : decode cX2_init 5 = .ok (.bipush 6, 2) := by decide +kernel
theorem dX2_init_7 : decode cX2_init 7 = .ok (.newarray .int, 2) := by decide +kernel
theorem dX2_init_9 : decode cX2_init 9 = .ok (.putfield 9, 3) := by decide +kernel
theorem dX2_init_12 : decode cX2_init 12 = .ok (.aload_n 0, 1) := by decide +kernel
theorem dX2_init_13 : decode cX2_init 13 = .ok (.bipush 6, 2) := by decide +kernel
theorem dX2_init_15 : decode cX2_init 15 = .ok (.newarray .int, 2) := by decide +kernel
theorem dX2_init_17 : decode cX2_init 17 = .ok (.putfield 15, 3) := by decide +kernel
theorem dX2_init_20 : decode cX2_init 20 = .ok (.return_, 1) := by decide +kernel
theorem dX2_clear_0 : decode cX2_clear 0 = .ok (.aload_n 0, 1) := by decide +kernel
theorem dX2_clear_1 : decode cX2_clear 1 = .ok (.iconst 0, 1) := by decide +kernel
theorem dX2_clear_2 : decode cX2_clear 2 = .ok (.putfield 18, 3) := by decide +kernel
theorem dX2_clear_5 : decode cX2_clear 5 = .ok (.return_, 1) := by decide +kernel
theorem dX2_add_0 : decode cX2_add 0 = .ok (.aload_n 0, 1) := by decide +kernel
theorem dX2_add_1 : decode cX2_add 1 = .ok (.getfield 18, 3) := by decide +kernel
theorem dX2_add_4 : decode cX2_add 4 = .ok (.iconst 0, 1) := by decide +kernel
theorem dX2_add_5 : decode cX2_add 5 = .ok (.iconst 5, 1) := by decide +kernel
theorem dX2_add_6 : decode cX2_add 6 = .ok (.invokestatic 22, 3) := by decide +kernel
theorem dX2_add_9 : decode cX2_add 9 = .ok (.ifCond .eq 5, 3) := by decide +kernel
theorem dX2_add_12 : decode cX2_add 12 = .ok (.iconst 0, 1) := by decide +kernel
theorem dX2_add_13 : decode cX2_add 13 = .ok (.ireturn, 1) := by decide +kernel
theorem dX2_add_14 : decode cX2_add 14 = .ok (.aload_n 0, 1) := by decide +kernel
theorem dX2_add_15 : decode cX2_add 15 = .ok (.getfield 9, 3) := by decide +kernel
theorem dX2_add_18 : decode cX2_add 18 = .ok (.aload_n 0, 1) := by decide +kernel
theorem dX2_add_19 : decode cX2_add 19 = .ok (.getfield 18, 3) := by decide +kernel
theorem dX2_add_22 : decode cX2_add 22 = .ok (.iload_n 1, 1) := by decide +kernel
theorem dX2_add_23 : decode cX2_add 23 = .ok (.iastore, 1) := by decide +kernel
theorem dX2_add_24 : decode cX2_add 24 = .ok (.aload_n 0, 1) := by decide +kernel
theorem dX2_add_25 : decode cX2_add 25 = .ok (.getfield 15, 3) := by decide +kernel
theorem dX2_add_28 : decode cX2_add 28 = .ok (.aload_n 0, 1) := by decide +kernel
theorem dX2_add_29 : decode cX2_add 29 = .ok (.getfield 18, 3) := by decide +kernel
theorem dX2_add_32 : decode cX2_add 32 = .ok (.iload_n 2, 1) := by decide +kernel
theorem dX2_add_33 : decode cX2_add 33 = .ok (.iastore, 1) := by decide +kernel
theorem dX2_add_34 : decode cX2_add 34 = .ok (.aload_n 0, 1) := by decide +kernel
theorem dX2_add_35 : decode cX2_add 35 = .ok (.dup, 1) := by decide +kernel
theorem dX2_add_36 : decode cX2_add 36 = .ok (.getfield 18, 3) := by decide +kernel
theorem dX2_add_39 : decode cX2_add 39 = .ok (.iconst 1, 1) := by decide +kernel
theorem dX2_add_40 : decode cX2_add 40 = .ok (.iadd, 1) := by decide +kernel
theorem dX2_add_41 : decode cX2_add 41 = .ok (.putfield 18, 3) := by decide +kernel
theorem dX2_add_44 : decode cX2_add 44 = .ok (.iconst 1, 1) := by decide +kernel
theorem dX2_add_45 : decode cX2_add 45 = .ok (.ireturn, 1) := by decide +kernel
theorem dX2_allSoBetween_0 : decode cX2_allSoBetween 0 = .ok (.iconst 0, 1) := by decide +kernel
theorem dX2_allSoBetween_1 : decode cX2_allSoBetween 1 = .ok (.istore_n 3, 1) := by decide +kernel
theorem dX2_allSoBetween_2 : decode cX2_allSoBetween 2 = .ok (.iload_n 3, 1) := by decide +kernel
theorem dX2_allSoBetween_3 : decode cX2_allSoBetween 3 = .ok (.aload_n 0, 1) := by decide +kernel
theorem dX2_allSoBetween_4 : decode cX2_allSoBetween 4 = .ok (.getfield 18, 3) := by decide +kernel
theorem dX2_allSoBetween_7 : decode cX2_allSoBetween 7 = .ok (.if_icmp .ge 43, 3) := by decide +kernel
theorem dX2_allSoBetween_10 : decode cX2_allSoBetween 10 = .ok (.aload_n 0, 1) := by decide +kernel
theorem dX2_allSoBetween_11 : decode cX2_allSoBetween 11 = .ok (.getfield 9, 3) := by decide +kernel
theorem dX2_allSoBetween_14 : decode cX2_allSoBetween 14 = .ok (.iload_n 3, 1) := by decide +kernel
theorem dX2_allSoBetween_15 : decode cX2_allSoBetween 15 = .ok (.iaload, 1) := by decide +kernel
theorem dX2_allSoBetween_16 : decode cX2_allSoBetween 16 = .ok (.istore 4, 2) := by decide +kernel
theorem dX2_allSoBetween_18 : decode cX2_allSoBetween 18 = .ok (.aload_n 2, 1) := by decide +kernel
theorem dX2_allSoBetween_19 : decode cX2_allSoBetween 19 = .ok (.getfield 26, 3) := by decide +kernel
theorem dX2_allSoBetween_22 : decode cX2_allSoBetween 22 = .ok (.iload 4, 2) := by decide +kernel
theorem dX2_allSoBetween_24 : decode cX2_allSoBetween 24 = .ok (.iaload, 1) := by decide +kernel
theorem dX2_allSoBetween_25 : decode cX2_allSoBetween 25 = .ok (.aload_n 1, 1) := by decide +kernel
theorem dX2_allSoBetween_26 : decode cX2_allSoBetween 26 = .ok (.getfield 26, 3) := by decide +kernel
theorem dX2_allSoBetween_29 : decode cX2_allSoBetween 29 = .ok (.iload 4, 2) := by decide +kernel
theorem dX2_allSoBetween_31 : decode cX2_allSoBetween 31 = .ok (.iaload, 1) := by decide +kernel
theorem dX2_allSoBetween_32 : decode cX2_allSoBetween 32 = .ok (.isub, 1) := by decide +kernel
theorem dX2_allSoBetween_33 : decode cX2_allSoBetween 33 = .ok (.aload_n 0, 1) := by decide +kernel
theorem dX2_allSoBetween_34 : decode cX2_allSoBetween 34 = .ok (.getfield 15, 3) := by decide +kernel
theorem dX2_allSoBetween_37 : decode cX2_allSoBetween 37 = .ok (.iload_n 3, 1) := by decide +kernel
theorem dX2_allSoBetween_38 : decode cX2_allSoBetween 38 = .ok (.iaload, 1) := by decide +kernel
theorem dX2_allSoBetween_39 : decode cX2_allSoBetween 39 = .ok (.if_icmp .eq 5, 3) := by decide +kernel
theorem dX2_allSoBetween_42 : decode cX2_allSoBetween 42 = .ok (.iconst 0, 1) := by decide +kernel
theorem dX2_allSoBetween_43 : decode cX2_allSoBetween 43 = .ok (.ireturn, 1) := by decide +kernel
theorem dX2_allSoBetween_44 : decode cX2_allSoBetween 44 = .ok (.iinc 3 1, 3) := by decide +kernel
theorem dX2_allSoBetween_47 : decode cX2_allSoBetween 47 = .ok (.goto (-45), 3) := by decide +kernel
theorem dX2_allSoBetween_50 : decode cX2_allSoBetween 50 = .ok (.iconst 1, 1) := by decide +kernel
theorem dX2_allSoBetween_51 : decode cX2_allSoBetween 51 = .ok (.ireturn, 1) := by decide +kernel
