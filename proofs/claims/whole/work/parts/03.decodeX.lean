theorem dX0_init_0 : decode cX0_init 0 = .ok (.aload_n 0, 1) := by decide +kernel
theorem dX0_init_1 : decode cX0_init 1 = .ok (.invokespecial 3, 3) := by decide +kernel
theorem dX0_init_4 : decode cX0_init 4 = .ok (.aload_n 0, 1) := by decide +kernel
theorem dX0_init_5 : decode cX0_init 5 = .ok (.bipush 100, 2) := by decide +kernel
theorem dX0_init_7 : decode cX0_init 7 = .ok (.putfield 9, 3) := by decide +kernel
theorem dX0_init_10 : decode cX0_init 10 = .ok (.return_, 1) := by decide +kernel
theorem dX0_kindNumber_0 : decode cX0_kindNumber 0 = .ok (.iconst 1, 1) := by decide +kernel
theorem dX0_kindNumber_1 : decode cX0_kindNumber 1 = .ok (.ireturn, 1) := by decide +kernel
theorem dX0_weight_0 : decode cX0_weight 0 = .ok (.bipush 10, 2) := by decide +kernel
theorem dX0_weight_2 : decode cX0_weight 2 = .ok (.ireturn, 1) := by decide +kernel
theorem dX0_work_0 : decode cX0_work 0 = .ok (.aload_n 0, 1) := by decide +kernel
theorem dX0_work_1 : decode cX0_work 1 = .ok (.dup, 1) := by decide +kernel
theorem dX0_work_2 : decode cX0_work 2 = .ok (.getfield 9, 3) := by decide +kernel
theorem dX0_work_5 : decode cX0_work 5 = .ok (.iload_n 1, 1) := by decide +kernel
theorem dX0_work_6 : decode cX0_work 6 = .ok (.isub, 1) := by decide +kernel
theorem dX0_work_7 : decode cX0_work 7 = .ok (.putfield 9, 3) := by decide +kernel
theorem dX0_work_10 : decode cX0_work 10 = .ok (.iload_n 1, 1) := by decide +kernel
theorem dX0_work_11 : decode cX0_work 11 = .ok (.aload_n 0, 1) := by decide +kernel
theorem dX0_work_12 : decode cX0_work 12 = .ok (.getfield 15, 3) := by decide +kernel
theorem dX0_work_15 : decode cX0_work 15 = .ok (.iadd, 1) := by decide +kernel
theorem dX0_work_16 : decode cX0_work 16 = .ok (.ireturn, 1) := by decide +kernel
theorem dX1_init_0 : decode cX1_init 0 = .ok (.aload_n 0, 1) := by decide +kernel
theorem dX1_init_1 : decode cX1_init 1 = .ok (.invokespecial 3, 3) := by decide +kernel
theorem dX1_init_4 : decode cX1_init 4 = .ok (.return_, 1) := by decide +kernel
theorem dX1_kindNumber_0 : decode cX1_kindNumber 0 = .ok (.iconst 2, 1) := by decide +kernel
theorem dX1_kindNumber_1 : decode cX1_kindNumber 1 = .ok (.ireturn, 1) := by decide +kernel
theorem dX1_weight_0 : decode cX1_weight 0 = .ok (.bipush 12, 2) := by decide +kernel
theorem dX1_weight_2 : decode cX1_weight 2 = .ok (.ireturn, 1) := by decide +kernel
theorem dX1_work_0 : decode cX1_work 0 = .ok (.aload_n 0, 1) := by decide +kernel
theorem dX1_work_1 : decode cX1_work 1 = .ok (.iload_n 1, 1) := by decide +kernel
theorem dX1_work_2 : decode cX1_work 2 = .ok (.invokespecial 9, 3) := by decide +kernel
theorem dX1_work_5 : decode cX1_work 5 = .ok (.iconst 1, 1) := by decide +kernel
theorem dX1_work_6 : decode cX1_work 6 = .ok (.iadd, 1) := by decide +kernel
theorem dX1_work_7 : decode cX1_work 7 = .ok (.istore_n 2, 1) := by decide +kernel
theorem dX1_work_8 : decode cX1_work 8 = .ok (.aload_n 0, 1) := by decide +kernel
theorem dX1_work_9 : decode cX1_work 9 = .ok (.dup, 1) := by decide +kernel
theorem dX1_work_10 : decode cX1_work 10 = .ok (.getfield 13, 3) := by decide +kernel
theorem dX1_work_13 : decode cX1_work 13 = .ok (.iconst 1, 1) := by decide +kernel
theorem dX1_work_14 : decode cX1_work 14 = .ok (.iadd, 1) := by decide +kernel
theorem dX1_work_15 : decode cX1_work 15 = .ok (.putfield 13, 3) := by decide +kernel
theorem dX1_work_18 : decode cX1_work 18 = .ok (.iload_n 2, 1) := by decide +kernel
theorem dX1_work_19 : decode cX1_work 19 = .ok (.ireturn, 1) := by decide +kernel
theorem dX2_init_0 : decode cX2_init 0 = .ok (.aload_n 0, 1) := by decide +kernel
theorem dX2_init_1 : decode cX2_init 1 = .ok (.invokespecial 3, 3) := by decide +kernel
theorem dX2_init_4 : decode cX2_init 4 = .ok (.return_, 1) := by decide +kernel
theorem dX2_kindNumber_0 : decode cX2_kindNumber 0 = .ok (.iconst 3, 1) := by decide +kernel
theorem dX2_kindNumber_1 : decode cX2_kindNumber 1 = .ok (.ireturn, 1) := by decide +kernel
theorem dX2_weight_0 : decode cX2_weight 0 = .ok (.iconst 5, 1) := by decide +kernel
theorem dX2_weight_1 : decode cX2_weight 1 = .ok (.ireturn, 1) := by decide +kernel
theorem dX2_work_0 : decode cX2_work 0 = .ok (.aload_n 0, 1) := by decide +kernel
theorem dX2_work_1 : decode cX2_work 1 = .ok (.getfield 9, 3) := by decide +kernel
theorem dX2_work_4 : decode cX2_work 4 = .ok (.istore_n 2, 1) := by decide +kernel
theorem dX2_work_5 : decode cX2_work 5 = .ok (.aload_n 0, 1) := by decide +kernel
theorem dX2_work_6 : decode cX2_work 6 = .ok (.dup, 1) := by decide +kernel
theorem dX2_work_7 : decode cX2_work 7 = .ok (.getfield 9, 3) := by decide +kernel
theorem dX2_work_10 : decode cX2_work 10 = .ok (.iconst 1, 1) := by decide +kernel
theorem dX2_work_11 : decode cX2_work 11 = .ok (.iadd, 1) := by decide +kernel
theorem dX2_work_12 : decode cX2_work 12 = .ok (.putfield 9, 3) := by decide +kernel
theorem dX2_work_15 : decode cX2_work 15 = .ok (.iload_n 2, 1) := by decide +kernel
theorem dX2_work_16 : decode cX2_work 16 = .ok (.ireturn, 1) := by decide +kernel
theorem dX3_init_0 : decode cX3_init 0 = .ok (.aload_n 0, 1) := by decide +kernel
theorem dX3_init_1 : decode cX3_init 1 = .ok (.invokespecial 3, 3) := by decide +kernel
theorem dX3_init_4 : decode cX3_init 4 = .ok (.aload_n 0, 1) := by decide +kernel
theorem dX3_init_5 : decode cX3_init 5 = .ok (.bipush 8, 2) := by decide +kernel
theorem dX3_init_7 : decode cX3_init 7 = .ok (.anewarray 9, 3) := by decide +kernel
theorem dX3_init_10 : decode cX3_init 10 = .ok (.putfield 11, 3) := by decide +kernel
theorem dX3_init_13 : decode cX3_init 13 = .ok (.iconst 0, 1) := by decide +kernel
theorem dX3_init_14 : decode cX3_init 14 = .ok (.istore_n 1, 1) := by decide +kernel
theorem dX3_init_15 : decode cX3_init 15 = .ok (.iload_n 1, 1) := by decide +kernel
theorem dX3_init_16 : decode cX3_init 16 = .ok (.bipush 8, 2) := by decide +kernel
theorem dX3_init_18 : decode cX3_init 18 = .ok (.if_icmp .ge 24, 3) := by decide +kernel
theorem dX3_init_21 : decode cX3_init 21 = .ok (.aload_n 0, 1) := by decide +kernel
theorem dX3_init_22 : decode cX3_init 22 = .ok (.getfield 11, 3) := by decide +kernel
theorem dX3_init_25 : decode cX3_init 25 = .ok (.iload_n 1, 1) := by decide +kernel
theorem dX3_init_26 : decode cX3_init 26 = .ok (.new 9, 3) := by decide +kernel
theorem dX3_init_29 : decode cX3_init 29 = .ok (.dup, 1) := by decide +kernel
theorem dX3_init_30 : decode cX3_init 30 = .ok (.bipush 8, 2) := by decide +kernel
theorem dX3_init_32 : decode cX3_init 32 = .ok (.invokespecial 17, 3) := by decide +kernel
theorem dX3_init_35 : decode cX3_init 35 = .ok (.aastore, 1) := by decide +kernel
theorem dX3_init_36 : decode cX3_init 36 = .ok (.iinc 1 1, 3) := by decide +kernel
theorem dX3_init_39 : decode cX3_init 39 = .ok (.goto (-24), 3) := by decide +kernel
theorem dX3_init_42 : decode cX3_init 42 = .ok (.return_, 1) := by decide +kernel
theorem dX3_renew_0 : decode cX3_renew 0 = .ok (.iconst 0, 1) := by decide +kernel
theorem dX3_renew_1 : decode cX3_renew 1 = .ok (.istore_n 3, 1) := by decide +kernel
theorem dX3_renew_2 : decode cX3_renew 2 = .ok (.iload_n 3, 1) := by decide +kernel
theorem dX3_renew_3 : decode cX3_renew 3 = .ok (.iload_n 1, 1) := by decide +kernel
theorem dX3_renew_4 : decode cX3_renew 4 = .ok (.if_icmp .ge 19, 3) := by decide +kernel
theorem dX3_renew_7 : decode cX3_renew 7 = .ok (.aload_n 0, 1) := by decide +kernel
theorem dX3_renew_8 : decode cX3_renew 8 = .ok (.getfield 11, 3) := by decide +kernel
theorem dX3_renew_11 : decode cX3_renew 11 = .ok (.iload_n 3, 1) := by decide +kernel
theorem dX3_renew_12 : decode cX3_renew 12 = .ok (.aaload, 1) := by decide +kernel
theorem dX3_renew_13 : decode cX3_renew 13 = .ok (.iload_n 2, 1) := by decide +kernel
theorem dX3_renew_14 : decode cX3_renew 14 = .ok (.invokevirtual 20, 3) := by decide +kernel
theorem dX3_renew_17 : decode cX3_renew 17 = .ok (.iinc 3 1, 3) := by decide +kernel
theorem dX3_renew_20 : decode cX3_renew 20 = .ok (.goto (-18), 3) := by decide +kernel
theorem dX3_renew_23 : decode cX3_renew 23 = .ok (.aload_n 0, 1) := by decide +kernel
theorem dX3_renew_24 : decode cX3_renew 24 = .ok (.iload_n 1, 1) := by decide +kernel
theorem dX3_renew_25 : decode cX3_renew 25 = .ok (.putfield 23, 3) := by decide +kernel
theorem dX3_renew_28 : decode cX3_renew 28 = .ok (.return_, 1) := by decide +kernel
theorem dX4_init_0 : decode cX4_init 0 = .ok (.aload_n 0, 1) := by decide +kernel
theorem dX4_init_1 : decode cX4_init 1 = .ok (.invokespecial 3, 3) := by decide +kernel
theorem dX4_init_4 : decode cX4_init 4 = .ok (.return_, 1) := by decide +kernel
theorem dX4_kindNumber_0 : decode cX4_kindNumber 0 = .ok (.iconst 0, 1) := by decide +kernel
theorem dX4_kindNumber_1 : decode cX4_kindNumber 1 = .ok (.ireturn, 1) := by decide +kernel
theorem dX4_weight_0 : decode cX4_weight 0 = .ok (.bipush 50, 2) := by decide +kernel
theorem dX4_weight_2 : decode cX4_weight 2 = .ok (.aload_n 0, 1) := by decide +kernel
theorem dX4_weight_3 : decode cX4_weight 3 = .ok (.getfield 9, 3) := by decide +kernel
theorem dX4_weight_6 : decode cX4_weight 6 = .ok (.iadd, 1) := by decide +kernel
theorem dX4_weight_7 : decode cX4_weight 7 = .ok (.ireturn, 1) := by decide +kernel
theorem dX4_work_0 : decode cX4_work 0 = .ok (.aload_n 0, 1) := by decide +kernel
theorem dX4_work_1 : decode cX4_work 1 = .ok (.dup, 1) := by decide +kernel
theorem dX4_work_2 : decode cX4_work 2 = .ok (.getfield 9, 3) := by decide +kernel
theorem dX4_work_5 : decode cX4_work 5 = .ok (.iload_n 1, 1) := by decide +kernel
theorem dX4_work_6 : decode cX4_work 6 = .ok (.iadd, 1) := by decide +kernel
theorem dX4_work_7 : decode cX4_work 7 = .ok (.putfield 9, 3) := by decide +kernel
theorem dX4_work_10 : decode cX4_work 10 = .ok (.iconst 2, 1) := by decide +kernel
theorem dX4_work_11 : decode cX4_work 11 = .ok (.iload_n 1, 1) := by decide +kernel
theorem dX4_work_12 : decode cX4_work 12 = .ok (.imul, 1) := by decide +kernel
theorem dX4_work_13 : decode cX4_work 13 = .ok (.ireturn, 1) := by decide +kernel
theorem dX5_init_0 : decode cX5_init 0 = .ok (.aload_n 0, 1) := by decide +kernel
theorem dX5_init_1 : decode cX5_init 1 = .ok (.invokespecial 1, 3) := by decide +kernel
theorem dX5_init_4 : decode cX5_init 4 = .ok (.aload_n 0, 1) := by decide +kernel
theorem dX5_init_5 : decode cX5_init 5 = .ok (.iconst (-1), 1) := by decide +kernel
theorem dX5_init_6 : decode cX5_init 6 = .ok (.putfield 9, 3) := by decide +kernel
theorem dX5_init_9 : decode cX5_init 9 = .ok (.return_, 1) := by decide +kernel
theorem dX5_isMissing_0 : decode cX5_isMissing 0 = .ok (.aload_n 0, 1) := by decide +kernel
theorem dX5_isMissing_1 : decode cX5_isMissing 1 = .ok (.getfield 9, 3) := by decide +kernel
theorem dX5_isMissing_4 : decode cX5_isMissing 4 = .ok (.iconst (-1), 1) := by decide +kernel
theorem dX5_isMissing_5 : decode cX5_isMissing 5 = .ok (.if_icmp .ne 7, 3) := by decide +kernel
theorem dX5_isMissing_8 : decode cX5_isMissing 8 = .ok (.iconst 1, 1) := by decide +kernel
theorem dX5_isMissing_9 : decode cX5_isMissing 9 = .ok (.goto 4, 3) := by decide +kernel
theorem dX5_isMissing_12 : decode cX5_isMissing 12 = .ok (.iconst 0, 1) := by decide +kernel
theorem dX5_isMissing_13 : decode cX5_isMissing 13 = .ok (.ireturn, 1) := by decide +kernel
theorem dX5_vanish_0 : decode cX5_vanish 0 = .ok (.aload_n 0, 1) := by decide +kernel
theorem dX5_vanish_1 : decode cX5_vanish 1 = .ok (.invokevirtual 13, 3) := by decide +kernel
theorem dX5_vanish_4 : decode cX5_vanish 4 = .ok (.ifCond .ne 7, 3) := by decide +kernel
theorem dX5_vanish_7 : decode cX5_vanish 7 = .ok (.iconst 1, 1) := by decide +kernel
theorem dX5_vanish_8 : decode cX5_vanish 8 = .ok (.goto 4, 3) := by decide +kernel
theorem dX5_vanish_11 : decode cX5_vanish 11 = .ok (.iconst 0, 1) := by decide +kernel
theorem dX5_vanish_12 : decode cX5_vanish 12 = .ok (.istore_n 1, 1) := by decide +kernel
theorem dX5_vanish_13 : decode cX5_vanish 13 = .ok (.aload_n 0, 1) := by decide +kernel
theorem dX5_vanish_14 : decode cX5_vanish 14 = .ok (.iconst (-1), 1) := by decide +kernel
theorem dX5_vanish_15 : decode cX5_vanish 15 = .ok (.putfield 9, 3) := by decide +kernel
theorem dX5_vanish_18 : decode cX5_vanish 18 = .ok (.iload_n 1, 1) := by decide +kernel
theorem dX5_vanish_19 : decode cX5_vanish 19 = .ok (.ireturn, 1) := by decide +kernel
theorem dX6_init_0 : decode cX6_init 0 = .ok (.aload_n 0, 1) := by decide +kernel
theorem dX6_init_1 : decode cX6_init 1 = .ok (.invokespecial 3, 3) := by decide +kernel
theorem dX6_init_4 : decode cX6_init 4 = .ok (.aload_n 0, 1) := by decide +kernel
theorem dX6_init_5 : decode cX6_init 5 = .ok (.bipush 10, 2) := by decide +kernel
theorem dX6_init_7 : decode cX6_init 7 = .ok (.anewarray 9, 3) := by decide +kernel
theorem dX6_init_10 : decode cX6_init 10 = .ok (.putfield 11, 3) := by decide +kernel
theorem dX6_init_13 : decode cX6_init 13 = .ok (.aload_n 0, 1) := by decide +kernel
theorem dX6_init_14 : decode cX6_init 14 = .ok (.iconst 0, 1) := by decide +kernel
theorem dX6_init_15 : decode cX6_init 15 = .ok (.putfield 17, 3) := by decide +kernel
theorem dX6_init_18 : decode cX6_init 18 = .ok (.return_, 1) := by decide +kernel
theorem dX6_renew_0 : decode cX6_renew 0 = .ok (.iconst 0, 1) := by decide +kernel
theorem dX6_renew_1 : decode cX6_renew 1 = .ok (.istore_n 3, 1) := by decide +kernel
theorem dX6_renew_2 : decode cX6_renew 2 = .ok (.iload_n 3, 1) := by decide +kernel
theorem dX6_renew_3 : decode cX6_renew 3 = .ok (.bipush 10, 2) := by decide +kernel
theorem dX6_renew_5 : decode cX6_renew 5 = .ok (.if_icmp .ge 16, 3) := by decide +kernel
theorem dX6_renew_8 : decode cX6_renew 8 = .ok (.aload_n 0, 1) := by decide +kernel
theorem dX6_renew_9 : decode cX6_renew 9 = .ok (.getfield 11, 3) := by decide +kernel
theorem dX6_renew_12 : decode cX6_renew 12 = .ok (.iload_n 3, 1) := by decide +kernel
theorem dX6_renew_13 : decode cX6_renew 13 = .ok (.aconst_null, 1) := by decide +kernel
theorem dX6_renew_14 : decode cX6_renew 14 = .ok (.aastore, 1) := by decide +kernel
theorem dX6_renew_15 : decode cX6_renew 15 = .ok (.iinc 3 1, 3) := by decide +kernel
theorem dX6_renew_18 : decode cX6_renew 18 = .ok (.goto (-16), 3) := by decide +kernel
theorem dX6_renew_21 : decode cX6_renew 21 = .ok (.aload_n 0, 1) := by decide +kernel
theorem dX6_renew_22 : decode cX6_renew 22 = .ok (.iload_n 1, 1) := by decide +kernel
theorem dX6_renew_23 : decode cX6_renew 23 = .ok (.putfield 17, 3) := by decide +kernel
theorem dX6_renew_26 : decode cX6_renew 26 = .ok (.aload_n 0, 1) := by decide +kernel
theorem dX6_renew_27 : decode cX6_renew 27 = .ok (.iload_n 2, 1) := by decide +kernel
theorem dX6_renew_28 : decode cX6_renew 28 = .ok (.putfield 21, 3) := by decide +kernel
theorem dX6_renew_31 : decode cX6_renew 31 = .ok (.return_, 1) := by decide +kernel
theorem dX7_init_0 : decode cX7_init 0 = .ok (.aload_n 0, 1) := by decide +kernel
theorem dX7_init_1 : decode cX7_init 1 = .ok (.invokespecial 1, 3) := by decide +kernel
theorem dX7_init_4 : decode cX7_init 4 = .ok (.aload_n 0, 1) := by decide +kernel
theorem dX7_init_5 : decode cX7_init 5 = .ok (.iload_n 1, 1) := by decide +kernel
theorem dX7_init_6 : decode cX7_init 6 = .ok (.newarray .int, 2) := by decide +kernel
theorem dX7_init_8 : decode cX7_init 8 = .ok (.putfield 7, 3) := by decide +kernel
theorem dX7_init_11 : decode cX7_init 11 = .ok (.return_, 1) := by decide +kernel
theorem dX7_renew_0 : decode cX7_renew 0 = .ok (.iconst 0, 1) := by decide +kernel
theorem dX7_renew_1 : decode cX7_renew 1 = .ok (.istore_n 2, 1) := by decide +kernel
theorem dX7_renew_2 : decode cX7_renew 2 = .ok (.iload_n 2, 1) := by decide +kernel
theorem dX7_renew_3 : decode cX7_renew 3 = .ok (.aload_n 0, 1) := by decide +kernel
theorem dX7_renew_4 : decode cX7_renew 4 = .ok (.getfield 7, 3) := by decide +kernel
theorem dX7_renew_7 : decode cX7_renew 7 = .ok (.arraylength, 1) := by decide +kernel
theorem dX7_renew_8 : decode cX7_renew 8 = .ok (.if_icmp .ge 16, 3) := by decide +kernel
theorem dX7_renew_11 : decode cX7_renew 11 = .ok (.aload_n 0, 1) := by decide +kernel
theorem dX7_renew_12 : decode cX7_renew 12 = .ok (.getfield 7, 3) := by decide +kernel
theorem dX7_renew_15 : decode cX7_renew 15 = .ok (.iload_n 2, 1) := by decide +kernel
theorem dX7_renew_16 : decode cX7_renew 16 = .ok (.iconst 0, 1) := by decide +kernel
theorem dX7_renew_17 : decode cX7_renew 17 = .ok (.iastore, 1) := by decide +kernel
theorem dX7_renew_18 : decode cX7_renew 18 = .ok (.iinc 2 1, 3) := by decide +kernel
theorem dX7_renew_21 : decode cX7_renew 21 = .ok (.goto (-19), 3) := by decide +kernel
theorem dX7_renew_24 : decode cX7_renew 24 = .ok (.aload_n 0, 1) := by decide +kernel
theorem dX7_renew_25 : decode cX7_renew 25 = .ok (.iload_n 1, 1) := by decide +kernel
theorem dX7_renew_26 : decode cX7_renew 26 = .ok (.putfield 13, 3) := by decide +kernel
theorem dX7_renew_29 : decode cX7_renew 29 = .ok (.return_, 1) := by decide +kernel
theorem dX8_init_0 : decode cX8_init 0 = .ok (.aload_n 0, 1) := by decide +kernel
theorem dX8_init_1 : decode cX8_init 1 = .ok (.invokespecial 1, 3) := by decide +kernel
theorem dX8_init_4 : decode cX8_init 4 = .ok (.aload_n 0, 1) := by decide +kernel
theorem dX8_init_5 : decode cX8_init 5 = .ok (.iconst 0, 1) := by decide +kernel
theorem dX8_init_6 : decode cX8_init 6 = .ok (.putfield 7, 3) := by decide +kernel
theorem dX8_init_9 : decode cX8_init 9 = .ok (.aload_n 0, 1) := by decide +kernel
theorem dX8_init_10 : decode cX8_init 10 = .ok (.iconst 0, 1) := by decide +kernel
theorem dX8_init_11 : decode cX8_init 11 = .ok (.putfield 13, 3) := by decide +kernel
theorem dX8_init_14 : decode cX8_init 14 = .ok (.aload_n 0, 1) := by decide +kernel
theorem dX8_init_15 : decode cX8_init 15 = .ok (.iconst 0, 1) := by decide +kernel
theorem dX8_init_16 : decode cX8_init 16 = .ok (.putfield 17, 3) := by decide +kernel
theorem dX8_init_19 : decode cX8_init 19 = .ok (.return_, 1) := by decide +kernel
theorem dX9_init_0 : decode cX9_init 0 = .ok (.aload_n 0, 1) := by decide +kernel
theorem dX9_init_1 : decode cX9_init 1 = .ok (.invokespecial 1, 3) := by decide +kernel
theorem dX9_init_4 : decode cX9_init 4 = .ok (.aload_n 0, 1) := by decide +kernel
theorem dX9_init_5 : decode cX9_init 5 = .ok (.bipush 10, 2) := by decide +kernel
theorem dX9_init_7 : decode cX9_init 7 = .ok (.anewarray 9, 3) := by decide +kernel
theorem dX9_init_10 : decode cX9_init 10 = .ok (.putfield 11, 3) := by decide +kernel
theorem dX9_init_13 : decode cX9_init 13 = .ok (.aload_n 0, 1) := by decide +kernel
theorem dX9_init_14 : decode cX9_init 14 = .ok (.iconst 4, 1) := by decide +kernel
theorem dX9_init_15 : decode cX9_init 15 = .ok (.anewarray 15, 3) := by decide +kernel
theorem dX9_init_18 : decode cX9_init 18 = .ok (.putfield 17, 3) := by decide +kernel
theorem dX9_init_21 : decode cX9_init 21 = .ok (.aload_n 0, 1) := by decide +kernel
theorem dX9_init_22 : decode cX9_init 22 = .ok (.iconst 4, 1) := by decide +kernel
theorem dX9_init_23 : decode cX9_init 23 = .ok (.anewarray 21, 3) := by decide +kernel
theorem dX9_init_26 : decode cX9_init 26 = .ok (.putfield 23, 3) := by decide +kernel
theorem dX9_init_29 : decode cX9_init 29 = .ok (.aload_n 0, 1) := by decide +kernel
theorem dX9_init_30 : decode cX9_init 30 = .ok (.iconst 2, 1) := by decide +kernel
theorem dX9_init_31 : decode cX9_init 31 = .ok (.anewarray 27, 3) := by decide +kernel
theorem dX9_init_34 : decode cX9_init 34 = .ok (.putfield 29, 3) := by decide +kernel
theorem dX9_init_37 : decode cX9_init 37 = .ok (.aload_n 0, 1) := by decide +kernel
theorem dX9_init_38 : decode cX9_init 38 = .ok (.iconst 4, 1) := by decide +kernel
theorem dX9_init_39 : decode cX9_init 39 = .ok (.newarray .boolean, 2) := by decide +kernel
theorem dX9_init_41 : decode cX9_init 41 = .ok (.putfield 33, 3) := by decide +kernel
theorem dX9_init_44 : decode cX9_init 44 = .ok (.aload_n 0, 1) := by decide +kernel
theorem dX9_init_45 : decode cX9_init 45 = .ok (.iconst 4, 1) := by decide +kernel
theorem dX9_init_46 : decode cX9_init 46 = .ok (.newarray .int, 2) := by decide +kernel
theorem dX9_init_48 : decode cX9_init 48 = .ok (.putfield 37, 3) := by decide +kernel
theorem dX9_init_51 : decode cX9_init 51 = .ok (.aload_n 0, 1) := by decide +kernel
theorem dX9_init_52 : decode cX9_init 52 = .ok (.bipush 7, 2) := by decide +kernel
theorem dX9_init_54 : decode cX9_init 54 = .ok (.newarray .int, 2) := by decide +kernel
theorem dX9_init_56 : decode cX9_init 56 = .ok (.putfield 41, 3) := by decide +kernel
theorem dX9_init_59 : decode cX9_init 59 = .ok (.aload_n 0, 1) := by decide +kernel
theorem dX9_init_60 : decode cX9_init 60 = .ok (.iconst 0, 1) := by decide +kernel
theorem dX9_init_61 : decode cX9_init 61 = .ok (.putfield 44, 3) := by decide +kernel
theorem dX9_init_64 : decode cX9_init 64 = .ok (.aload_n 0, 1) := by decide +kernel
theorem dX9_init_65 : decode cX9_init 65 = .ok (.iconst 0, 1) := by decide +kernel
theorem dX9_init_66 : decode cX9_init 66 = .ok (.putfield 48, 3) := by decide +kernel
theorem dX9_init_69 : decode cX9_init 69 = .ok (.aload_n 0, 1) := by decide +kernel
theorem dX9_init_70 : decode cX9_init 70 = .ok (.iconst 0, 1) := by decide +kernel
theorem dX9_init_71 : decode cX9_init 71 = .ok (.putfield 51, 3) := by decide +kernel
theorem dX9_init_74 : decode cX9_init 74 = .ok (.iconst 0, 1) := by decide +kernel
theorem dX9_init_75 : decode cX9_init 75 = .ok (.istore_n 1, 1) := by decide +kernel
theorem dX9_init_76 : decode cX9_init 76 = .ok (.iload_n 1, 1) := by decide +kernel
theorem dX9_init_77 : decode cX9_init 77 = .ok (.iconst 4, 1) := by decide +kernel
theorem dX9_init_78 : decode cX9_init 78 = .ok (.if_icmp .ge 24, 3) := by decide +kernel
theorem dX9_init_81 : decode cX9_init 81 = .ok (.aload_n 0, 1) := by decide +kernel
theorem dX9_init_82 : decode cX9_init 82 = .ok (.getfield 17, 3) := by decide +kernel
theorem dX9_init_85 : decode cX9_init 85 = .ok (.iload_n 1, 1) := by decide +kernel
theorem dX9_init_86 : decode cX9_init 86 = .ok (.new 15, 3) := by decide +kernel
theorem dX9_init_89 : decode cX9_init 89 = .ok (.dup, 1) := by decide +kernel
theorem dX9_init_90 : decode cX9_init 90 = .ok (.bipush 20, 2) := by decide +kernel
theorem dX9_init_92 : decode cX9_init 92 = .ok (.invokespecial 54, 3) := by decide +kernel
theorem dX9_init_95 : decode cX9_init 95 = .ok (.aastore, 1) := by decide +kernel
theorem dX9_init_96 : decode cX9_init 96 = .ok (.iinc 1 1, 3) := by decide +kernel
theorem dX9_init_99 : decode cX9_init 99 = .ok (.goto (-23), 3) := by decide +kernel
theorem dX9_init_102 : decode cX9_init 102 = .ok (.iconst 0, 1) := by decide +kernel
theorem dX9_init_103 : decode cX9_init 103 = .ok (.istore_n 1, 1) := by decide +kernel
theorem dX9_init_104 : decode cX9_init 104 = .ok (.iload_n 1, 1) := by decide +kernel
theorem dX9_init_105 : decode cX9_init 105 = .ok (.iconst 4, 1) := by decide +kernel
theorem dX9_init_106 : decode cX9_init 106 = .ok (.if_icmp .ge 22, 3) := by decide +kernel
theorem dX9_init_109 : decode cX9_init 109 = .ok (.aload_n 0, 1) := by decide +kernel
theorem dX9_init_110 : decode cX9_init 110 = .ok (.getfield 23, 3) := by decide +kernel
theorem dX9_init_113 : decode cX9_init 113 = .ok (.iload_n 1, 1) := by decide +kernel
theorem dX9_init_114 : decode cX9_init 114 = .ok (.new 21, 3) := by decide +kernel
theorem dX9_init_117 : decode cX9_init 117 = .ok (.dup, 1) := by decide +kernel
theorem dX9_init_118 : decode cX9_init 118 = .ok (.invokespecial 57, 3) := by decide +kernel
theorem dX9_init_121 : decode cX9_init 121 = .ok (.aastore, 1) := by decide +kernel
theorem dX9_init_122 : decode cX9_init 122 = .ok (.iinc 1 1, 3) := by decide +kernel
theorem dX9_init_125 : decode cX9_init 125 = .ok (.goto (-21), 3) := by decide +kernel
theorem dX9_init_128 : decode cX9_init 128 = .ok (.iconst 0, 1) := by decide +kernel
theorem dX9_init_129 : decode cX9_init 129 = .ok (.istore_n 1, 1) := by decide +kernel
theorem dX9_init_130 : decode cX9_init 130 = .ok (.iload_n 1, 1) := by decide +kernel
theorem dX9_init_131 : decode cX9_init 131 = .ok (.iconst 2, 1) := by decide +kernel
theorem dX9_init_132 : decode cX9_init 132 = .ok (.if_icmp .ge 22, 3) := by decide +kernel
theorem dX9_init_135 : decode cX9_init 135 = .ok (.aload_n 0, 1) := by decide +kernel
theorem dX9_init_136 : decode cX9_init 136 = .ok (.getfield 29, 3) := by decide +kernel
theorem dX9_init_139 : decode cX9_init 139 = .ok (.iload_n 1, 1) := by decide +kernel
theorem dX9_init_140 : decode cX9_init 140 = .ok (.new 27, 3) := by decide +kernel
theorem dX9_init_143 : decode cX9_init 143 = .ok (.dup, 1) := by decide +kernel
theorem dX9_init_144 : decode cX9_init 144 = .ok (.invokespecial 58, 3) := by decide +kernel
theorem dX9_init_147 : decode cX9_init 147 = .ok (.aastore, 1) := by decide +kernel
theorem dX9_init_148 : decode cX9_init 148 = .ok (.iinc 1 1, 3) := by decide +kernel
theorem dX9_init_151 : decode cX9_init 151 = .ok (.goto (-21), 3) := by decide +kernel
theorem dX9_init_154 : decode cX9_init 154 = .ok (.return_, 1) := by decide +kernel
theorem dX9_tool_0 : decode cX9_tool 0 = .ok (.iload_n 1, 1) := by decide +kernel
theorem dX9_tool_1 : decode cX9_tool 1 = .ok (.bipush 10, 2) := by decide +kernel
theorem dX9_tool_3 : decode cX9_tool 3 = .ok (.invokestatic 59, 3) := by decide +kernel
theorem dX9_tool_6 : decode cX9_tool 6 = .ok (.ifCond .ne 10, 3) := by decide +kernel
theorem dX9_tool_9 : decode cX9_tool 9 = .ok (.aload_n 0, 1) := by decide +kernel
theorem dX9_tool_10 : decode cX9_tool 10 = .ok (.bipush (-2), 2) := by decide +kernel
theorem dX9_tool_12 : decode cX9_tool 12 = .ok (.invokevirtual 63, 3) := by decide +kernel
theorem dX9_tool_15 : decode cX9_tool 15 = .ok (.ireturn, 1) := by decide +kernel
theorem dX9_tool_16 : decode cX9_tool 16 = .ok (.iload_n 2, 1) := by decide +kernel
theorem dX9_tool_17 : decode cX9_tool 17 = .ok (.iconst 4, 1) := by decide +kernel
theorem dX9_tool_18 : decode cX9_tool 18 = .ok (.invokestatic 59, 3) := by decide +kernel
theorem dX9_tool_21 : decode cX9_tool 21 = .ok (.ifCond .ne 10, 3) := by decide +kernel
theorem dX9_tool_24 : decode cX9_tool 24 = .ok (.aload_n 0, 1) := by decide +kernel
theorem dX9_tool_25 : decode cX9_tool 25 = .ok (.bipush (-3), 2) := by decide +kernel
theorem dX9_tool_27 : decode cX9_tool 27 = .ok (.invokevirtual 63, 3) := by decide +kernel
theorem dX9_tool_30 : decode cX9_tool 30 = .ok (.ireturn, 1) := by decide +kernel
theorem dX9_tool_31 : decode cX9_tool 31 = .ok (.aload_n 0, 1) := by decide +kernel
theorem dX9_tool_32 : decode cX9_tool 32 = .ok (.getfield 11, 3) := by decide +kernel
theorem dX9_tool_35 : decode cX9_tool 35 = .ok (.iload_n 1, 1) := by decide +kernel
theorem dX9_tool_36 : decode cX9_tool 36 = .ok (.aaload, 1) := by decide +kernel
theorem dX9_tool_37 : decode cX9_tool 37 = .ok (.ifnull 7, 3) := by decide +kernel
theorem dX9_tool_40 : decode cX9_tool 40 = .ok (.iconst 1, 1) := by decide +kernel
theorem dX9_tool_41 : decode cX9_tool 41 = .ok (.goto 4, 3) := by decide +kernel
theorem dX9_tool_44 : decode cX9_tool 44 = .ok (.iconst 0, 1) := by decide +kernel
theorem dX9_tool_45 : decode cX9_tool 45 = .ok (.istore_n 3, 1) := by decide +kernel
theorem dX9_tool_46 : decode cX9_tool 46 = .ok (.aload_n 0, 1) := by decide +kernel
theorem dX9_tool_47 : decode cX9_tool 47 = .ok (.getfield 11, 3) := by decide +kernel
theorem dX9_tool_50 : decode cX9_tool 50 = .ok (.iload_n 1, 1) := by decide +kernel
theorem dX9_tool_51 : decode cX9_tool 51 = .ok (.iload_n 2, 1) := by decide +kernel
theorem dX9_tool_52 : decode cX9_tool 52 = .ok (.invokestatic 67, 3) := by decide +kernel
theorem dX9_tool_55 : decode cX9_tool 55 = .ok (.aastore, 1) := by decide +kernel
theorem dX9_tool_56 : decode cX9_tool 56 = .ok (.aload_n 0, 1) := by decide +kernel
theorem dX9_tool_57 : decode cX9_tool 57 = .ok (.iload_n 3, 1) := by decide +kernel
theorem dX9_tool_58 : decode cX9_tool 58 = .ok (.ifCond .eq 7, 3) := by decide +kernel
theorem dX9_tool_61 : decode cX9_tool 61 = .ok (.iconst 1, 1) := by decide +kernel
theorem dX9_tool_62 : decode cX9_tool 62 = .ok (.goto 4, 3) := by decide +kernel
theorem dX9_tool_65 : decode cX9_tool 65 = .ok (.iconst 0, 1) := by decide +kernel
theorem dX9_tool_66 : decode cX9_tool 66 = .ok (.invokevirtual 71, 3) := by decide +kernel
theorem dX9_tool_69 : decode cX9_tool 69 = .ok (.ireturn, 1) := by decide +kernel
theorem dX9_hang_0 : decode cX9_hang 0 = .ok (.iload_n 1, 1) := by decide +kernel
theorem dX9_hang_1 : decode cX9_hang 1 = .ok (.bipush 10, 2) := by decide +kernel
theorem dX9_hang_3 : decode cX9_hang 3 = .ok (.invokestatic 59, 3) := by decide +kernel
theorem dX9_hang_6 : decode cX9_hang 6 = .ok (.ifCond .eq 12, 3) := by decide +kernel
theorem dX9_hang_9 : decode cX9_hang 9 = .ok (.iload_n 2, 1) := by decide +kernel
theorem dX9_hang_10 : decode cX9_hang 10 = .ok (.bipush 10, 2) := by decide +kernel
theorem dX9_hang_12 : decode cX9_hang 12 = .ok (.invokestatic 59, 3) := by decide +kernel
theorem dX9_hang_15 : decode cX9_hang 15 = .ok (.ifCond .ne 10, 3) := by decide +kernel
theorem dX9_hang_18 : decode cX9_hang 18 = .ok (.aload_n 0, 1) := by decide +kernel
theorem dX9_hang_19 : decode cX9_hang 19 = .ok (.bipush (-2), 2) := by decide +kernel
theorem dX9_hang_21 : decode cX9_hang 21 = .ok (.invokevirtual 63, 3) := by decide +kernel
theorem dX9_hang_24 : decode cX9_hang 24 = .ok (.ireturn, 1) := by decide +kernel
theorem dX9_hang_25 : decode cX9_hang 25 = .ok (.aload_n 0, 1) := by decide +kernel
theorem dX9_hang_26 : decode cX9_hang 26 = .ok (.getfield 11, 3) := by decide +kernel
theorem dX9_hang_29 : decode cX9_hang 29 = .ok (.iload_n 1, 1) := by decide +kernel
theorem dX9_hang_30 : decode cX9_hang 30 = .ok (.aload_n 0, 1) := by decide +kernel
theorem dX9_hang_31 : decode cX9_hang 31 = .ok (.getfield 11, 3) := by decide +kernel
theorem dX9_hang_34 : decode cX9_hang 34 = .ok (.iload_n 2, 1) := by decide +kernel
theorem dX9_hang_35 : decode cX9_hang 35 = .ok (.aaload, 1) := by decide +kernel
theorem dX9_hang_36 : decode cX9_hang 36 = .ok (.aastore, 1) := by decide +kernel
theorem dX9_hang_37 : decode cX9_hang 37 = .ok (.aload_n 0, 1) := by decide +kernel
theorem dX9_hang_38 : decode cX9_hang 38 = .ok (.aload_n 0, 1) := by decide +kernel
theorem dX9_hang_39 : decode cX9_hang 39 = .ok (.getfield 11, 3) := by decide +kernel
theorem dX9_hang_42 : decode cX9_hang 42 = .ok (.iload_n 1, 1) := by decide +kernel
theorem dX9_hang_43 : decode cX9_hang 43 = .ok (.aaload, 1) := by decide +kernel
theorem dX9_hang_44 : decode cX9_hang 44 = .ok (.ifnull 7, 3) := by decide +kernel
theorem dX9_hang_47 : decode cX9_hang 47 = .ok (.iconst 1, 1) := by decide +kernel
theorem dX9_hang_48 : decode cX9_hang 48 = .ok (.goto 4, 3) := by decide +kernel
theorem dX9_hang_51 : decode cX9_hang 51 = .ok (.iconst 0, 1) := by decide +kernel
theorem dX9_hang_52 : decode cX9_hang 52 = .ok (.invokevirtual 71, 3) := by decide +kernel
theorem dX9_hang_55 : decode cX9_hang 55 = .ok (.ireturn, 1) := by decide +kernel
theorem dX9_unhang_0 : decode cX9_unhang 0 = .ok (.iload_n 1, 1) := by decide +kernel
theorem dX9_unhang_1 : decode cX9_unhang 1 = .ok (.bipush 10, 2) := by decide +kernel
theorem dX9_unhang_3 : decode cX9_unhang 3 = .ok (.invokestatic 59, 3) := by decide +kernel
theorem dX9_unhang_6 : decode cX9_unhang 6 = .ok (.ifCond .ne 10, 3) := by decide +kernel
theorem dX9_unhang_9 : decode cX9_unhang 9 = .ok (.aload_n 0, 1) := by decide +kernel
theorem dX9_unhang_10 : decode cX9_unhang 10 = .ok (.bipush (-2), 2) := by decide +kernel
theorem dX9_unhang_12 : decode cX9_unhang 12 = .ok (.invokevirtual 63, 3) := by decide +kernel
theorem dX9_unhang_15 : decode cX9_unhang 15 = .ok (.ireturn, 1) := by decide +kernel
theorem dX9_unhang_16 : decode cX9_unhang 16 = .ok (.aload_n 0, 1) := by decide +kernel
theorem dX9_unhang_17 : decode cX9_unhang 17 = .ok (.getfield 11, 3) := by decide +kernel
theorem dX9_unhang_20 : decode cX9_unhang 20 = .ok (.iload_n 1, 1) := by decide +kernel
theorem dX9_unhang_21 : decode cX9_unhang 21 = .ok (.aaload, 1) := by decide +kernel
theorem dX9_unhang_22 : decode cX9_unhang 22 = .ok (.ifnull 7, 3) := by decide +kernel
theorem dX9_unhang_25 : decode cX9_unhang 25 = .ok (.iconst 1, 1) := by decide +kernel
theorem dX9_unhang_26 : decode cX9_unhang 26 = .ok (.goto 4, 3) := by decide +kernel
theorem dX9_unhang_29 : decode cX9_unhang 29 = .ok (.iconst 0, 1) := by decide +kernel
theorem dX9_unhang_30 : decode cX9_unhang 30 = .ok (.istore_n 2, 1) := by decide +kernel
theorem dX9_unhang_31 : decode cX9_unhang 31 = .ok (.aload_n 0, 1) := by decide +kernel
theorem dX9_unhang_32 : decode cX9_unhang 32 = .ok (.getfield 11, 3) := by decide +kernel
theorem dX9_unhang_35 : decode cX9_unhang 35 = .ok (.iload_n 1, 1) := by decide +kernel
theorem dX9_unhang_36 : decode cX9_unhang 36 = .ok (.aconst_null, 1) := by decide +kernel
theorem dX9_unhang_37 : decode cX9_unhang 37 = .ok (.aastore, 1) := by decide +kernel
theorem dX9_unhang_38 : decode cX9_unhang 38 = .ok (.aload_n 0, 1) := by decide +kernel
theorem dX9_unhang_39 : decode cX9_unhang 39 = .ok (.iload_n 2, 1) := by decide +kernel
theorem dX9_unhang_40 : decode cX9_unhang 40 = .ok (.ifCond .eq 7, 3) := by decide +kernel
theorem dX9_unhang_43 : decode cX9_unhang 43 = .ok (.iconst 1, 1) := by decide +kernel
theorem dX9_unhang_44 : decode cX9_unhang 44 = .ok (.goto 4, 3) := by decide +kernel
theorem dX9_unhang_47 : decode cX9_unhang 47 = .ok (.iconst 0, 1) := by decide +kernel
theorem dX9_unhang_48 : decode cX9_unhang 48 = .ok (.invokevirtual 71, 3) := by decide +kernel
theorem dX9_unhang_51 : decode cX9_unhang 51 = .ok (.ireturn, 1) := by decide +kernel
theorem dX9_kind_0 : decode cX9_kind 0 = .ok (.iload_n 1, 1) := by decide +kernel
theorem dX9_kind_1 : decode cX9_kind 1 = .ok (.bipush 10, 2) := by decide +kernel
theorem dX9_kind_3 : decode cX9_kind 3 = .ok (.invokestatic 59, 3) := by decide +kernel
theorem dX9_kind_6 : decode cX9_kind 6 = .ok (.ifCond .ne 10, 3) := by decide +kernel
theorem dX9_kind_9 : decode cX9_kind 9 = .ok (.aload_n 0, 1) := by decide +kernel
theorem dX9_kind_10 : decode cX9_kind 10 = .ok (.bipush (-2), 2) := by decide +kernel
theorem dX9_kind_12 : decode cX9_kind 12 = .ok (.invokevirtual 63, 3) := by decide +kernel
theorem dX9_kind_15 : decode cX9_kind 15 = .ok (.ireturn, 1) := by decide +kernel
theorem dX9_kind_16 : decode cX9_kind 16 = .ok (.aload_n 0, 1) := by decide +kernel
theorem dX9_kind_17 : decode cX9_kind 17 = .ok (.getfield 11, 3) := by decide +kernel
theorem dX9_kind_20 : decode cX9_kind 20 = .ok (.iload_n 1, 1) := by decide +kernel
theorem dX9_kind_21 : decode cX9_kind 21 = .ok (.aaload, 1) := by decide +kernel
theorem dX9_kind_22 : decode cX9_kind 22 = .ok (.astore_n 2, 1) := by decide +kernel
theorem dX9_kind_23 : decode cX9_kind 23 = .ok (.aload_n 0, 1) := by decide +kernel
theorem dX9_kind_24 : decode cX9_kind 24 = .ok (.aload_n 2, 1) := by decide +kernel
theorem dX9_kind_25 : decode cX9_kind 25 = .ok (.ifnonnull 7, 3) := by decide +kernel
theorem dX9_kind_28 : decode cX9_kind 28 = .ok (.iconst (-1), 1) := by decide +kernel
theorem dX9_kind_29 : decode cX9_kind 29 = .ok (.goto 7, 3) := by decide +kernel
theorem dX9_kind_32 : decode cX9_kind 32 = .ok (.aload_n 2, 1) := by decide +kernel
theorem dX9_kind_33 : decode cX9_kind 33 = .ok (.invokevirtual 74, 3) := by decide +kernel
theorem dX9_kind_36 : decode cX9_kind 36 = .ok (.invokevirtual 71, 3) := by decide +kernel
theorem dX9_kind_39 : decode cX9_kind 39 = .ok (.ireturn, 1) := by decide +kernel
theorem dX9_card_0 : decode cX9_card 0 = .ok (.iload_n 1, 1) := by decide +kernel
theorem dX9_card_1 : decode cX9_card 1 = .ok (.bipush 10, 2) := by decide +kernel
theorem dX9_card_3 : decode cX9_card 3 = .ok (.invokestatic 59, 3) := by decide +kernel
theorem dX9_card_6 : decode cX9_card 6 = .ok (.ifCond .ne 10, 3) := by decide +kernel
theorem dX9_card_9 : decode cX9_card 9 = .ok (.aload_n 0, 1) := by decide +kernel
theorem dX9_card_10 : decode cX9_card 10 = .ok (.bipush (-2), 2) := by decide +kernel
theorem dX9_card_12 : decode cX9_card 12 = .ok (.invokevirtual 63, 3) := by decide +kernel
theorem dX9_card_15 : decode cX9_card 15 = .ok (.ireturn, 1) := by decide +kernel
theorem dX9_card_16 : decode cX9_card 16 = .ok (.aload_n 0, 1) := by decide +kernel
theorem dX9_card_17 : decode cX9_card 17 = .ok (.getfield 11, 3) := by decide +kernel
theorem dX9_card_20 : decode cX9_card 20 = .ok (.iload_n 1, 1) := by decide +kernel
theorem dX9_card_21 : decode cX9_card 21 = .ok (.aaload, 1) := by decide +kernel
theorem dX9_card_22 : decode cX9_card 22 = .ok (.astore_n 3, 1) := by decide +kernel
theorem dX9_card_23 : decode cX9_card 23 = .ok (.aload_n 3, 1) := by decide +kernel
theorem dX9_card_24 : decode cX9_card 24 = .ok (.ifnonnull 9, 3) := by decide +kernel
theorem dX9_card_27 : decode cX9_card 27 = .ok (.aload_n 0, 1) := by decide +kernel
theorem dX9_card_28 : decode cX9_card 28 = .ok (.iconst 1, 1) := by decide +kernel
theorem dX9_card_29 : decode cX9_card 29 = .ok (.invokevirtual 78, 3) := by decide +kernel
theorem dX9_card_32 : decode cX9_card 32 = .ok (.ireturn, 1) := by decide +kernel
theorem dX9_card_33 : decode cX9_card 33 = .ok (.aload_n 3, 1) := by decide +kernel
theorem dX9_card_34 : decode cX9_card 34 = .ok (.iconst 1, 1) := by decide +kernel
theorem dX9_card_35 : decode cX9_card 35 = .ok (.putfield 81, 3) := by decide +kernel
theorem dX9_card_38 : decode cX9_card 38 = .ok (.aload_n 3, 1) := by decide +kernel
theorem dX9_card_39 : decode cX9_card 39 = .ok (.iload_n 2, 1) := by decide +kernel
theorem dX9_card_40 : decode cX9_card 40 = .ok (.putfield 85, 3) := by decide +kernel
theorem dX9_card_43 : decode cX9_card 43 = .ok (.aload_n 0, 1) := by decide +kernel
theorem dX9_card_44 : decode cX9_card 44 = .ok (.iconst 1, 1) := by decide +kernel
theorem dX9_card_45 : decode cX9_card 45 = .ok (.invokevirtual 71, 3) := by decide +kernel
theorem dX9_card_48 : decode cX9_card 48 = .ok (.ireturn, 1) := by decide +kernel
theorem dX9_uncard_0 : decode cX9_uncard 0 = .ok (.iload_n 1, 1) := by decide +kernel
theorem dX9_uncard_1 : decode cX9_uncard 1 = .ok (.bipush 10, 2) := by decide +kernel
theorem dX9_uncard_3 : decode cX9_uncard 3 = .ok (.invokestatic 59, 3) := by decide +kernel
theorem dX9_uncard_6 : decode cX9_uncard 6 = .ok (.ifCond .ne 10, 3) := by decide +kernel
theorem dX9_uncard_9 : decode cX9_uncard 9 = .ok (.aload_n 0, 1) := by decide +kernel
theorem dX9_uncard_10 : decode cX9_uncard 10 = .ok (.bipush (-2), 2) := by decide +kernel
theorem dX9_uncard_12 : decode cX9_uncard 12 = .ok (.invokevirtual 63, 3) := by decide +kernel
theorem dX9_uncard_15 : decode cX9_uncard 15 = .ok (.ireturn, 1) := by decide +kernel
theorem dX9_uncard_16 : decode cX9_uncard 16 = .ok (.aload_n 0, 1) := by decide +kernel
theorem dX9_uncard_17 : decode cX9_uncard 17 = .ok (.getfield 11, 3) := by decide +kernel
theorem dX9_uncard_20 : decode cX9_uncard 20 = .ok (.iload_n 1, 1) := by decide +kernel
theorem dX9_uncard_21 : decode cX9_uncard 21 = .ok (.aaload, 1) := by decide +kernel
theorem dX9_uncard_22 : decode cX9_uncard 22 = .ok (.astore_n 2, 1) := by decide +kernel
theorem dX9_uncard_23 : decode cX9_uncard 23 = .ok (.aload_n 2, 1) := by decide +kernel
theorem dX9_uncard_24 : decode cX9_uncard 24 = .ok (.ifnonnull 9, 3) := by decide +kernel
theorem dX9_uncard_27 : decode cX9_uncard 27 = .ok (.aload_n 0, 1) := by decide +kernel
theorem dX9_uncard_28 : decode cX9_uncard 28 = .ok (.iconst 1, 1) := by decide +kernel
theorem dX9_uncard_29 : decode cX9_uncard 29 = .ok (.invokevirtual 78, 3) := by decide +kernel
theorem dX9_uncard_32 : decode cX9_uncard 32 = .ok (.ireturn, 1) := by decide +kernel
theorem dX9_uncard_33 : decode cX9_uncard 33 = .ok (.aload_n 2, 1) := by decide +kernel
theorem dX9_uncard_34 : decode cX9_uncard 34 = .ok (.iconst 0, 1) := by decide +kernel
theorem dX9_uncard_35 : decode cX9_uncard 35 = .ok (.putfield 81, 3) := by decide +kernel
theorem dX9_uncard_38 : decode cX9_uncard 38 = .ok (.aload_n 0, 1) := by decide +kernel
theorem dX9_uncard_39 : decode cX9_uncard 39 = .ok (.iconst 1, 1) := by decide +kernel
theorem dX9_uncard_40 : decode cX9_uncard 40 = .ok (.invokevirtual 71, 3) := by decide +kernel
theorem dX9_uncard_43 : decode cX9_uncard 43 = .ok (.ireturn, 1) := by decide +kernel
theorem dX9_rename_0 : decode cX9_rename 0 = .ok (.iload_n 1, 1) := by decide +kernel
theorem dX9_rename_1 : decode cX9_rename 1 = .ok (.bipush 10, 2) := by decide +kernel
theorem dX9_rename_3 : decode cX9_rename 3 = .ok (.invokestatic 59, 3) := by decide +kernel
theorem dX9_rename_6 : decode cX9_rename 6 = .ok (.ifCond .ne 10, 3) := by decide +kernel
theorem dX9_rename_9 : decode cX9_rename 9 = .ok (.aload_n 0, 1) := by decide +kernel
theorem dX9_rename_10 : decode cX9_rename 10 = .ok (.bipush (-2), 2) := by decide +kernel
theorem dX9_rename_12 : decode cX9_rename 12 = .ok (.invokevirtual 63, 3) := by decide +kernel
theorem dX9_rename_15 : decode cX9_rename 15 = .ok (.ireturn, 1) := by decide +kernel
theorem dX9_rename_16 : decode cX9_rename 16 = .ok (.aload_n 0, 1) := by decide +kernel
theorem dX9_rename_17 : decode cX9_rename 17 = .ok (.getfield 11, 3) := by decide +kernel
theorem dX9_rename_20 : decode cX9_rename 20 = .ok (.iload_n 1, 1) := by decide +kernel
theorem dX9_rename_21 : decode cX9_rename 21 = .ok (.aaload, 1) := by decide +kernel
theorem dX9_rename_22 : decode cX9_rename 22 = .ok (.astore_n 3, 1) := by decide +kernel
theorem dX9_rename_23 : decode cX9_rename 23 = .ok (.aload_n 3, 1) := by decide +kernel
theorem dX9_rename_24 : decode cX9_rename 24 = .ok (.ifnull 10, 3) := by decide +kernel
theorem dX9_rename_27 : decode cX9_rename 27 = .ok (.aload_n 3, 1) := by decide +kernel
theorem dX9_rename_28 : decode cX9_rename 28 = .ok (.getfield 81, 3) := by decide +kernel
theorem dX9_rename_31 : decode cX9_rename 31 = .ok (.ifCond .ne 9, 3) := by decide +kernel
theorem dX9_rename_34 : decode cX9_rename 34 = .ok (.aload_n 0, 1) := by decide +kernel
theorem dX9_rename_35 : decode cX9_rename 35 = .ok (.iconst 1, 1) := by decide +kernel
theorem dX9_rename_36 : decode cX9_rename 36 = .ok (.invokevirtual 78, 3) := by decide +kernel
theorem dX9_rename_39 : decode cX9_rename 39 = .ok (.ireturn, 1) := by decide +kernel
theorem dX9_rename_40 : decode cX9_rename 40 = .ok (.aload_n 3, 1) := by decide +kernel
theorem dX9_rename_41 : decode cX9_rename 41 = .ok (.iload_n 2, 1) := by decide +kernel
theorem dX9_rename_42 : decode cX9_rename 42 = .ok (.putfield 85, 3) := by decide +kernel
theorem dX9_rename_45 : decode cX9_rename 45 = .ok (.aload_n 0, 1) := by decide +kernel
theorem dX9_rename_46 : decode cX9_rename 46 = .ok (.iconst 1, 1) := by decide +kernel
theorem dX9_rename_47 : decode cX9_rename 47 = .ok (.invokevirtual 71, 3) := by decide +kernel
theorem dX9_rename_50 : decode cX9_rename 50 = .ok (.ireturn, 1) := by decide +kernel
theorem dX9_of_0 : decode cX9_of 0 = .ok (.iload_n 1, 1) := by decide +kernel
theorem dX9_of_1 : decode cX9_of 1 = .ok (.bipush 10, 2) := by decide +kernel
theorem dX9_of_3 : decode cX9_of 3 = .ok (.invokestatic 59, 3) := by decide +kernel
theorem dX9_of_6 : decode cX9_of 6 = .ok (.ifCond .ne 10, 3) := by decide +kernel
theorem dX9_of_9 : decode cX9_of 9 = .ok (.aload_n 0, 1) := by decide +kernel
theorem dX9_of_10 : decode cX9_of 10 = .ok (.bipush (-2), 2) := by decide +kernel
theorem dX9_of_12 : decode cX9_of 12 = .ok (.invokevirtual 88, 3) := by decide +kernel
theorem dX9_of_15 : decode cX9_of 15 = .ok (.ireturn, 1) := by decide +kernel
theorem dX9_of_16 : decode cX9_of 16 = .ok (.iload_n 2, 1) := by decide +kernel
theorem dX9_of_17 : decode cX9_of 17 = .ok (.iconst 4, 1) := by decide +kernel
theorem dX9_of_18 : decode cX9_of 18 = .ok (.invokestatic 59, 3) := by decide +kernel
theorem dX9_of_21 : decode cX9_of 21 = .ok (.ifCond .ne 10, 3) := by decide +kernel
theorem dX9_of_24 : decode cX9_of 24 = .ok (.aload_n 0, 1) := by decide +kernel
theorem dX9_of_25 : decode cX9_of 25 = .ok (.bipush (-3), 2) := by decide +kernel
theorem dX9_of_27 : decode cX9_of 27 = .ok (.invokevirtual 88, 3) := by decide +kernel
theorem dX9_of_30 : decode cX9_of 30 = .ok (.ireturn, 1) := by decide +kernel
theorem dX9_of_31 : decode cX9_of 31 = .ok (.aload_n 0, 1) := by decide +kernel
theorem dX9_of_32 : decode cX9_of 32 = .ok (.getfield 11, 3) := by decide +kernel
theorem dX9_of_35 : decode cX9_of 35 = .ok (.iload_n 1, 1) := by decide +kernel
theorem dX9_of_36 : decode cX9_of 36 = .ok (.aaload, 1) := by decide +kernel
theorem dX9_of_37 : decode cX9_of 37 = .ok (.astore_n 3, 1) := by decide +kernel
theorem dX9_of_38 : decode cX9_of 38 = .ok (.aload_n 3, 1) := by decide +kernel
theorem dX9_of_39 : decode cX9_of 39 = .ok (.ifnonnull 9, 3) := by decide +kernel
theorem dX9_of_42 : decode cX9_of 42 = .ok (.aload_n 0, 1) := by decide +kernel
theorem dX9_of_43 : decode cX9_of 43 = .ok (.iconst 1, 1) := by decide +kernel
theorem dX9_of_44 : decode cX9_of 44 = .ok (.invokevirtual 91, 3) := by decide +kernel
theorem dX9_of_47 : decode cX9_of 47 = .ok (.ireturn, 1) := by decide +kernel
theorem dX9_of_48 : decode cX9_of 48 = .ok (.iload_n 2, 1) := by decide +kernel
theorem dX9_of_49 : decode cX9_of 49 = .ok (.tableswitch 69 0 2 #[27, 51, 60], 27) := by decide +kernel
theorem dX9_of_76 : decode cX9_of 76 = .ok (.aload_n 3, 1) := by decide +kernel
theorem dX9_of_77 : decode cX9_of 77 = .ok (.getfield 81, 3) := by decide +kernel
theorem dX9_of_80 : decode cX9_of 80 = .ok (.ifCond .eq 14, 3) := by decide +kernel
theorem dX9_of_83 : decode cX9_of 83 = .ok (.aload_n 0, 1) := by decide +kernel
theorem dX9_of_84 : decode cX9_of 84 = .ok (.aload_n 3, 1) := by decide +kernel
theorem dX9_of_85 : decode cX9_of 85 = .ok (.getfield 85, 3) := by decide +kernel
theorem dX9_of_88 : decode cX9_of 88 = .ok (.invokevirtual 71, 3) := by decide +kernel
theorem dX9_of_91 : decode cX9_of 91 = .ok (.goto 8, 3) := by decide +kernel
theorem dX9_of_94 : decode cX9_of 94 = .ok (.aload_n 0, 1) := by decide +kernel
theorem dX9_of_95 : decode cX9_of 95 = .ok (.iconst 1, 1) := by decide +kernel
theorem dX9_of_96 : decode cX9_of 96 = .ok (.invokevirtual 91, 3) := by decide +kernel
theorem dX9_of_99 : decode cX9_of 99 = .ok (.ireturn, 1) := by decide +kernel
theorem dX9_of_100 : decode cX9_of 100 = .ok (.aload_n 0, 1) := by decide +kernel
theorem dX9_of_101 : decode cX9_of 101 = .ok (.aload_n 3, 1) := by decide +kernel
theorem dX9_of_102 : decode cX9_of 102 = .ok (.getfield 94, 3) := by decide +kernel
theorem dX9_of_105 : decode cX9_of 105 = .ok (.invokevirtual 71, 3) := by decide +kernel
theorem dX9_of_108 : decode cX9_of 108 = .ok (.ireturn, 1) := by decide +kernel
theorem dX9_of_109 : decode cX9_of 109 = .ok (.aload_n 0, 1) := by decide +kernel
theorem dX9_of_110 : decode cX9_of 110 = .ok (.aload_n 3, 1) := by decide +kernel
theorem dX9_of_111 : decode cX9_of 111 = .ok (.invokevirtual 97, 3) := by decide +kernel
theorem dX9_of_114 : decode cX9_of 114 = .ok (.invokevirtual 71, 3) := by decide +kernel
theorem dX9_of_117 : decode cX9_of 117 = .ok (.ireturn, 1) := by decide +kernel
theorem dX9_of_118 : decode cX9_of 118 = .ok (.aload_n 0, 1) := by decide +kernel
theorem dX9_of_119 : decode cX9_of 119 = .ok (.aload_n 3, 1) := by decide +kernel
theorem dX9_of_120 : decode cX9_of 120 = .ok (.invokevirtual 100, 3) := by decide +kernel
theorem dX9_of_123 : decode cX9_of 123 = .ok (.ireturn, 1) := by decide +kernel
theorem dX9_edgeOf_0 : decode cX9_edgeOf 0 = .ok (.aload_n 1, 1) := by decide +kernel
theorem dX9_edgeOf_1 : decode cX9_edgeOf 1 = .ok (.instanceof 104, 3) := by decide +kernel
theorem dX9_edgeOf_4 : decode cX9_edgeOf 4 = .ok (.ifCond .eq 17, 3) := by decide +kernel
theorem dX9_edgeOf_7 : decode cX9_edgeOf 7 = .ok (.aload_n 1, 1) := by decide +kernel
theorem dX9_edgeOf_8 : decode cX9_edgeOf 8 = .ok (.checkcast 104, 3) := by decide +kernel
theorem dX9_edgeOf_11 : decode cX9_edgeOf 11 = .ok (.astore_n 2, 1) := by decide +kernel
theorem dX9_edgeOf_12 : decode cX9_edgeOf 12 = .ok (.aload_n 0, 1) := by decide +kernel
theorem dX9_edgeOf_13 : decode cX9_edgeOf 13 = .ok (.aload_n 2, 1) := by decide +kernel
theorem dX9_edgeOf_14 : decode cX9_edgeOf 14 = .ok (.getfield 106, 3) := by decide +kernel
theorem dX9_edgeOf_17 : decode cX9_edgeOf 17 = .ok (.invokevirtual 71, 3) := by decide +kernel
theorem dX9_edgeOf_20 : decode cX9_edgeOf 20 = .ok (.ireturn, 1) := by decide +kernel
theorem dX9_edgeOf_21 : decode cX9_edgeOf 21 = .ok (.aload_n 0, 1) := by decide +kernel
theorem dX9_edgeOf_22 : decode cX9_edgeOf 22 = .ok (.iconst 4, 1) := by decide +kernel
theorem dX9_edgeOf_23 : decode cX9_edgeOf 23 = .ok (.invokevirtual 91, 3) := by decide +kernel
theorem dX9_edgeOf_26 : decode cX9_edgeOf 26 = .ok (.ireturn, 1) := by decide +kernel
theorem dX9_hone_0 : decode cX9_hone 0 = .ok (.iload_n 1, 1) := by decide +kernel
theorem dX9_hone_1 : decode cX9_hone 1 = .ok (.bipush 10, 2) := by decide +kernel
theorem dX9_hone_3 : decode cX9_hone 3 = .ok (.invokestatic 59, 3) := by decide +kernel
theorem dX9_hone_6 : decode cX9_hone 6 = .ok (.ifCond .ne 10, 3) := by decide +kernel
theorem dX9_hone_9 : decode cX9_hone 9 = .ok (.aload_n 0, 1) := by decide +kernel
theorem dX9_hone_10 : decode cX9_hone 10 = .ok (.bipush (-2), 2) := by decide +kernel
theorem dX9_hone_12 : decode cX9_hone 12 = .ok (.invokevirtual 63, 3) := by decide +kernel
theorem dX9_hone_15 : decode cX9_hone 15 = .ok (.ireturn, 1) := by decide +kernel
theorem dX9_hone_16 : decode cX9_hone 16 = .ok (.aload_n 0, 1) := by decide +kernel
theorem dX9_hone_17 : decode cX9_hone 17 = .ok (.getfield 11, 3) := by decide +kernel
theorem dX9_hone_20 : decode cX9_hone 20 = .ok (.iload_n 1, 1) := by decide +kernel
theorem dX9_hone_21 : decode cX9_hone 21 = .ok (.aaload, 1) := by decide +kernel
theorem dX9_hone_22 : decode cX9_hone 22 = .ok (.astore_n 3, 1) := by decide +kernel
theorem dX9_hone_23 : decode cX9_hone 23 = .ok (.aload_n 3, 1) := by decide +kernel
theorem dX9_hone_24 : decode cX9_hone 24 = .ok (.ifnonnull 9, 3) := by decide +kernel
theorem dX9_hone_27 : decode cX9_hone 27 = .ok (.aload_n 0, 1) := by decide +kernel
theorem dX9_hone_28 : decode cX9_hone 28 = .ok (.iconst 1, 1) := by decide +kernel
theorem dX9_hone_29 : decode cX9_hone 29 = .ok (.invokevirtual 78, 3) := by decide +kernel
theorem dX9_hone_32 : decode cX9_hone 32 = .ok (.ireturn, 1) := by decide +kernel
theorem dX9_hone_33 : decode cX9_hone 33 = .ok (.aload_n 3, 1) := by decide +kernel
theorem dX9_hone_34 : decode cX9_hone 34 = .ok (.instanceof 104, 3) := by decide +kernel
theorem dX9_hone_37 : decode cX9_hone 37 = .ok (.ifCond .eq 21, 3) := by decide +kernel
theorem dX9_hone_40 : decode cX9_hone 40 = .ok (.aload_n 3, 1) := by decide +kernel
theorem dX9_hone_41 : decode cX9_hone 41 = .ok (.checkcast 104, 3) := by decide +kernel
theorem dX9_hone_44 : decode cX9_hone 44 = .ok (.astore 4, 2) := by decide +kernel
theorem dX9_hone_46 : decode cX9_hone 46 = .ok (.aload 4, 2) := by decide +kernel
theorem dX9_hone_48 : decode cX9_hone 48 = .ok (.iload_n 2, 1) := by decide +kernel
theorem dX9_hone_49 : decode cX9_hone 49 = .ok (.putfield 106, 3) := by decide +kernel
theorem dX9_hone_52 : decode cX9_hone 52 = .ok (.aload_n 0, 1) := by decide +kernel
theorem dX9_hone_53 : decode cX9_hone 53 = .ok (.iconst 1, 1) := by decide +kernel
theorem dX9_hone_54 : decode cX9_hone 54 = .ok (.invokevirtual 71, 3) := by decide +kernel
theorem dX9_hone_57 : decode cX9_hone 57 = .ok (.ireturn, 1) := by decide +kernel
theorem dX9_hone_58 : decode cX9_hone 58 = .ok (.aload_n 0, 1) := by decide +kernel
theorem dX9_hone_59 : decode cX9_hone 59 = .ok (.iconst 4, 1) := by decide +kernel
theorem dX9_hone_60 : decode cX9_hone 60 = .ok (.invokevirtual 78, 3) := by decide +kernel
theorem dX9_hone_63 : decode cX9_hone 63 = .ok (.ireturn, 1) := by decide +kernel
theorem dX9_use_0 : decode cX9_use 0 = .ok (.iload_n 1, 1) := by decide +kernel
theorem dX9_use_1 : decode cX9_use 1 = .ok (.bipush 10, 2) := by decide +kernel
theorem dX9_use_3 : decode cX9_use 3 = .ok (.invokestatic 59, 3) := by decide +kernel
theorem dX9_use_6 : decode cX9_use 6 = .ok (.ifCond .ne 10, 3) := by decide +kernel
theorem dX9_use_9 : decode cX9_use 9 = .ok (.aload_n 0, 1) := by decide +kernel
theorem dX9_use_10 : decode cX9_use 10 = .ok (.bipush (-2), 2) := by decide +kernel
theorem dX9_use_12 : decode cX9_use 12 = .ok (.invokevirtual 88, 3) := by decide +kernel
theorem dX9_use_15 : decode cX9_use 15 = .ok (.ireturn, 1) := by decide +kernel
theorem dX9_use_16 : decode cX9_use 16 = .ok (.aload_n 0, 1) := by decide +kernel
theorem dX9_use_17 : decode cX9_use 17 = .ok (.getfield 11, 3) := by decide +kernel
theorem dX9_use_20 : decode cX9_use 20 = .ok (.iload_n 1, 1) := by decide +kernel
theorem dX9_use_21 : decode cX9_use 21 = .ok (.aaload, 1) := by decide +kernel
theorem dX9_use_22 : decode cX9_use 22 = .ok (.astore_n 3, 1) := by decide +kernel
theorem dX9_use_23 : decode cX9_use 23 = .ok (.aload_n 3, 1) := by decide +kernel
theorem dX9_use_24 : decode cX9_use 24 = .ok (.ifnonnull 9, 3) := by decide +kernel
theorem dX9_use_27 : decode cX9_use 27 = .ok (.aload_n 0, 1) := by decide +kernel
theorem dX9_use_28 : decode cX9_use 28 = .ok (.iconst 1, 1) := by decide +kernel
theorem dX9_use_29 : decode cX9_use 29 = .ok (.invokevirtual 91, 3) := by decide +kernel
theorem dX9_use_32 : decode cX9_use 32 = .ok (.ireturn, 1) := by decide +kernel
theorem dX9_use_33 : decode cX9_use 33 = .ok (.aload_n 0, 1) := by decide +kernel
theorem dX9_use_34 : decode cX9_use 34 = .ok (.dup, 1) := by decide +kernel
theorem dX9_use_35 : decode cX9_use 35 = .ok (.getfield 48, 3) := by decide +kernel
theorem dX9_use_38 : decode cX9_use 38 = .ok (.iconst 1, 1) := by decide +kernel
theorem dX9_use_39 : decode cX9_use 39 = .ok (.iadd, 1) := by decide +kernel
theorem dX9_use_40 : decode cX9_use 40 = .ok (.putfield 48, 3) := by decide +kernel
theorem dX9_use_43 : decode cX9_use 43 = .ok (.aload_n 0, 1) := by decide +kernel
theorem dX9_use_44 : decode cX9_use 44 = .ok (.aload_n 3, 1) := by decide +kernel
theorem dX9_use_45 : decode cX9_use 45 = .ok (.iload_n 2, 1) := by decide +kernel
theorem dX9_use_46 : decode cX9_use 46 = .ok (.invokevirtual 109, 3) := by decide +kernel
theorem dX9_use_49 : decode cX9_use 49 = .ok (.invokevirtual 71, 3) := by decide +kernel
theorem dX9_use_52 : decode cX9_use 52 = .ok (.ireturn, 1) := by decide +kernel
theorem dX9_shift_0 : decode cX9_shift 0 = .ok (.iload_n 1, 1) := by decide +kernel
theorem dX9_shift_1 : decode cX9_shift 1 = .ok (.bipush 10, 2) := by decide +kernel
theorem dX9_shift_3 : decode cX9_shift 3 = .ok (.invokestatic 59, 3) := by decide +kernel
theorem dX9_shift_6 : decode cX9_shift 6 = .ok (.ifCond .eq 12, 3) := by decide +kernel
theorem dX9_shift_9 : decode cX9_shift 9 = .ok (.iload 4, 2) := by decide +kernel
theorem dX9_shift_11 : decode cX9_shift 11 = .ok (.iconst 4, 1) := by decide +kernel
theorem dX9_shift_12 : decode cX9_shift 12 = .ok (.invokestatic 59, 3) := by decide +kernel
theorem dX9_shift_15 : decode cX9_shift 15 = .ok (.ifCond .ne 10, 3) := by decide +kernel
theorem dX9_shift_18 : decode cX9_shift 18 = .ok (.aload_n 0, 1) := by decide +kernel
theorem dX9_shift_19 : decode cX9_shift 19 = .ok (.bipush (-2), 2) := by decide +kernel
theorem dX9_shift_21 : decode cX9_shift 21 = .ok (.invokevirtual 63, 3) := by decide +kernel
theorem dX9_shift_24 : decode cX9_shift 24 = .ok (.ireturn, 1) := by decide +kernel
theorem dX9_shift_25 : decode cX9_shift 25 = .ok (.iload_n 2, 1) := by decide +kernel
theorem dX9_shift_26 : decode cX9_shift 26 = .ok (.ifCond .lt 9, 3) := by decide +kernel
theorem dX9_shift_29 : decode cX9_shift 29 = .ok (.iload_n 2, 1) := by decide +kernel
theorem dX9_shift_30 : decode cX9_shift 30 = .ok (.bipush 9, 2) := by decide +kernel
theorem dX9_shift_32 : decode cX9_shift 32 = .ok (.if_icmp .le 10, 3) := by decide +kernel
theorem dX9_shift_35 : decode cX9_shift 35 = .ok (.aload_n 0, 1) := by decide +kernel
theorem dX9_shift_36 : decode cX9_shift 36 = .ok (.bipush (-3), 2) := by decide +kernel
theorem dX9_shift_38 : decode cX9_shift 38 = .ok (.invokevirtual 63, 3) := by decide +kernel
theorem dX9_shift_41 : decode cX9_shift 41 = .ok (.ireturn, 1) := by decide +kernel
theorem dX9_shift_42 : decode cX9_shift 42 = .ok (.aload_n 0, 1) := by decide +kernel
theorem dX9_shift_43 : decode cX9_shift 43 = .ok (.getfield 17, 3) := by decide +kernel
theorem dX9_shift_46 : decode cX9_shift 46 = .ok (.iload 4, 2) := by decide +kernel
theorem dX9_shift_48 : decode cX9_shift 48 = .ok (.aaload, 1) := by decide +kernel
theorem dX9_shift_49 : decode cX9_shift 49 = .ok (.astore 5, 2) := by decide +kernel
theorem dX9_shift_51 : decode cX9_shift 51 = .ok (.iconst 0, 1) := by decide +kernel
theorem dX9_shift_52 : decode cX9_shift 52 = .ok (.istore 6, 2) := by decide +kernel
theorem dX9_shift_54 : decode cX9_shift 54 = .ok (.iload 6, 2) := by decide +kernel
theorem dX9_shift_56 : decode cX9_shift 56 = .ok (.iload_n 2, 1) := by decide +kernel
theorem dX9_shift_57 : decode cX9_shift 57 = .ok (.if_icmp .ge 36, 3) := by decide +kernel
theorem dX9_shift_60 : decode cX9_shift 60 = .ok (.aload_n 0, 1) := by decide +kernel
theorem dX9_shift_61 : decode cX9_shift 61 = .ok (.iload_n 1, 1) := by decide +kernel
theorem dX9_shift_62 : decode cX9_shift 62 = .ok (.iload 6, 2) := by decide +kernel
theorem dX9_shift_64 : decode cX9_shift 64 = .ok (.iadd, 1) := by decide +kernel
theorem dX9_shift_65 : decode cX9_shift 65 = .ok (.iload_n 3, 1) := by decide +kernel
theorem dX9_shift_66 : decode cX9_shift 66 = .ok (.aload 5, 2) := by decide +kernel
theorem dX9_shift_68 : decode cX9_shift 68 = .ok (.iload 6, 2) := by decide +kernel
theorem dX9_shift_70 : decode cX9_shift 70 = .ok (.invokevirtual 112, 3) := by decide +kernel
theorem dX9_shift_73 : decode cX9_shift 73 = .ok (.istore 7, 2) := by decide +kernel
theorem dX9_shift_75 : decode cX9_shift 75 = .ok (.iload 7, 2) := by decide +kernel
theorem dX9_shift_77 : decode cX9_shift 77 = .ok (.ifCond .eq 10, 3) := by decide +kernel
theorem dX9_shift_80 : decode cX9_shift 80 = .ok (.aload_n 0, 1) := by decide +kernel
theorem dX9_shift_81 : decode cX9_shift 81 = .ok (.iload 7, 2) := by decide +kernel
theorem dX9_shift_83 : decode cX9_shift 83 = .ok (.invokevirtual 78, 3) := by decide +kernel
theorem dX9_shift_86 : decode cX9_shift 86 = .ok (.ireturn, 1) := by decide +kernel
theorem dX9_shift_87 : decode cX9_shift 87 = .ok (.iinc 6 1, 3) := by decide +kernel
theorem dX9_shift_90 : decode cX9_shift 90 = .ok (.goto (-36), 3) := by decide +kernel
theorem dX9_shift_93 : decode cX9_shift 93 = .ok (.aload_n 0, 1) := by decide +kernel
theorem dX9_shift_94 : decode cX9_shift 94 = .ok (.iload_n 2, 1) := by decide +kernel
theorem dX9_shift_95 : decode cX9_shift 95 = .ok (.invokevirtual 71, 3) := by decide +kernel
theorem dX9_shift_98 : decode cX9_shift 98 = .ok (.ireturn, 1) := by decide +kernel
theorem dX9_shiftOnce_0 : decode cX9_shiftOnce 0 = .ok (.iload_n 1, 1) := by decide +kernel
theorem dX9_shiftOnce_1 : decode cX9_shiftOnce 1 = .ok (.bipush 10, 2) := by decide +kernel
theorem dX9_shiftOnce_3 : decode cX9_shiftOnce 3 = .ok (.invokestatic 59, 3) := by decide +kernel
theorem dX9_shiftOnce_6 : decode cX9_shiftOnce 6 = .ok (.ifCond .ne 5, 3) := by decide +kernel
theorem dX9_shiftOnce_9 : decode cX9_shiftOnce 9 = .ok (.iconst 2, 1) := by decide +kernel
theorem dX9_shiftOnce_10 : decode cX9_shiftOnce 10 = .ok (.ireturn, 1) := by decide +kernel
theorem dX9_shiftOnce_11 : decode cX9_shiftOnce 11 = .ok (.aload_n 0, 1) := by decide +kernel
theorem dX9_shiftOnce_12 : decode cX9_shiftOnce 12 = .ok (.getfield 11, 3) := by decide +kernel
theorem dX9_shiftOnce_15 : decode cX9_shiftOnce 15 = .ok (.iload_n 1, 1) := by decide +kernel
theorem dX9_shiftOnce_16 : decode cX9_shiftOnce 16 = .ok (.aaload, 1) := by decide +kernel
theorem dX9_shiftOnce_17 : decode cX9_shiftOnce 17 = .ok (.astore 5, 2) := by decide +kernel
theorem dX9_shiftOnce_19 : decode cX9_shiftOnce 19 = .ok (.aload 5, 2) := by decide +kernel
theorem dX9_shiftOnce_21 : decode cX9_shiftOnce 21 = .ok (.ifnonnull 5, 3) := by decide +kernel
theorem dX9_shiftOnce_24 : decode cX9_shiftOnce 24 = .ok (.iconst 1, 1) := by decide +kernel
theorem dX9_shiftOnce_25 : decode cX9_shiftOnce 25 = .ok (.ireturn, 1) := by decide +kernel
theorem dX9_shiftOnce_26 : decode cX9_shiftOnce 26 = .ok (.aload_n 0, 1) := by decide +kernel
theorem dX9_shiftOnce_27 : decode cX9_shiftOnce 27 = .ok (.dup, 1) := by decide +kernel
theorem dX9_shiftOnce_28 : decode cX9_shiftOnce 28 = .ok (.getfield 48, 3) := by decide +kernel
theorem dX9_shiftOnce_31 : decode cX9_shiftOnce 31 = .ok (.iconst 1, 1) := by decide +kernel
theorem dX9_shiftOnce_32 : decode cX9_shiftOnce 32 = .ok (.iadd, 1) := by decide +kernel
theorem dX9_shiftOnce_33 : decode cX9_shiftOnce 33 = .ok (.putfield 48, 3) := by decide +kernel
theorem dX9_shiftOnce_36 : decode cX9_shiftOnce 36 = .ok (.aload 5, 2) := by decide +kernel
theorem dX9_shiftOnce_38 : decode cX9_shiftOnce 38 = .ok (.iload_n 2, 1) := by decide +kernel
theorem dX9_shiftOnce_39 : decode cX9_shiftOnce 39 = .ok (.invokevirtual 109, 3) := by decide +kernel
theorem dX9_shiftOnce_42 : decode cX9_shiftOnce 42 = .ok (.istore 6, 2) := by decide +kernel
theorem dX9_shiftOnce_44 : decode cX9_shiftOnce 44 = .ok (.aload_n 3, 1) := by decide +kernel
theorem dX9_shiftOnce_45 : decode cX9_shiftOnce 45 = .ok (.iload 4, 2) := by decide +kernel
theorem dX9_shiftOnce_47 : decode cX9_shiftOnce 47 = .ok (.invokestatic 116, 3) := by decide +kernel
theorem dX9_shiftOnce_50 : decode cX9_shiftOnce 50 = .ok (.istore 7, 2) := by decide +kernel
theorem dX9_shiftOnce_52 : decode cX9_shiftOnce 52 = .ok (.iload 7, 2) := by decide +kernel
theorem dX9_shiftOnce_54 : decode cX9_shiftOnce 54 = .ok (.ifCond .ne 12, 3) := by decide +kernel
theorem dX9_shiftOnce_57 : decode cX9_shiftOnce 57 = .ok (.aload_n 3, 1) := by decide +kernel
theorem dX9_shiftOnce_58 : decode cX9_shiftOnce 58 = .ok (.getfield 120, 3) := by decide +kernel
theorem dX9_shiftOnce_61 : decode cX9_shiftOnce 61 = .ok (.iload 4, 2) := by decide +kernel
theorem dX9_shiftOnce_63 : decode cX9_shiftOnce 63 = .ok (.iload 6, 2) := by decide +kernel
theorem dX9_shiftOnce_65 : decode cX9_shiftOnce 65 = .ok (.iastore, 1) := by decide +kernel
theorem dX9_shiftOnce_66 : decode cX9_shiftOnce 66 = .ok (.iload 7, 2) := by decide +kernel
theorem dX9_shiftOnce_68 : decode cX9_shiftOnce 68 = .ok (.ireturn, 1) := by decide +kernel
theorem dX9_newTool_0 : decode cX9_newTool 0 = .ok (.iload_n 0, 1) := by decide +kernel
theorem dX9_newTool_1 : decode cX9_newTool 1 = .ok (.tableswitch 51 0 2 #[27, 35, 43], 27) := by decide +kernel
theorem dX9_newTool_28 : decode cX9_newTool 28 = .ok (.new 123, 3) := by decide +kernel
theorem dX9_newTool_31 : decode cX9_newTool 31 = .ok (.dup, 1) := by decide +kernel
theorem dX9_newTool_32 : decode cX9_newTool 32 = .ok (.invokespecial 125, 3) := by decide +kernel
theorem dX9_newTool_35 : decode cX9_newTool 35 = .ok (.areturn, 1) := by decide +kernel
theorem dX9_newTool_36 : decode cX9_newTool 36 = .ok (.new 104, 3) := by decide +kernel
theorem dX9_newTool_39 : decode cX9_newTool 39 = .ok (.dup, 1) := by decide +kernel
theorem dX9_newTool_40 : decode cX9_newTool 40 = .ok (.invokespecial 126, 3) := by decide +kernel
theorem dX9_newTool_43 : decode cX9_newTool 43 = .ok (.areturn, 1) := by decide +kernel
theorem dX9_newTool_44 : decode cX9_newTool 44 = .ok (.new 127, 3) := by decide +kernel
theorem dX9_newTool_47 : decode cX9_newTool 47 = .ok (.dup, 1) := by decide +kernel
theorem dX9_newTool_48 : decode cX9_newTool 48 = .ok (.invokespecial 129, 3) := by decide +kernel
theorem dX9_newTool_51 : decode cX9_newTool 51 = .ok (.areturn, 1) := by decide +kernel
theorem dX9_newTool_52 : decode cX9_newTool 52 = .ok (.new 130, 3) := by decide +kernel
theorem dX9_newTool_55 : decode cX9_newTool 55 = .ok (.dup, 1) := by decide +kernel
theorem dX9_newTool_56 : decode cX9_newTool 56 = .ok (.invokespecial 132, 3) := by decide +kernel
theorem dX9_newTool_59 : decode cX9_newTool 59 = .ok (.areturn, 1) := by decide +kernel
theorem dX9_tray_0 : decode cX9_tray 0 = .ok (.iload_n 1, 1) := by decide +kernel
theorem dX9_tray_1 : decode cX9_tray 1 = .ok (.iconst 4, 1) := by decide +kernel
theorem dX9_tray_2 : decode cX9_tray 2 = .ok (.invokestatic 59, 3) := by decide +kernel
theorem dX9_tray_5 : decode cX9_tray 5 = .ok (.ifCond .ne 10, 3) := by decide +kernel
theorem dX9_tray_8 : decode cX9_tray 8 = .ok (.aload_n 0, 1) := by decide +kernel
theorem dX9_tray_9 : decode cX9_tray 9 = .ok (.bipush (-2), 2) := by decide +kernel
theorem dX9_tray_11 : decode cX9_tray 11 = .ok (.invokevirtual 63, 3) := by decide +kernel
theorem dX9_tray_14 : decode cX9_tray 14 = .ok (.ireturn, 1) := by decide +kernel
theorem dX9_tray_15 : decode cX9_tray 15 = .ok (.iload_n 2, 1) := by decide +kernel
theorem dX9_tray_16 : decode cX9_tray 16 = .ok (.bipush 20, 2) := by decide +kernel
theorem dX9_tray_18 : decode cX9_tray 18 = .ok (.if_icmp .le 10, 3) := by decide +kernel
theorem dX9_tray_21 : decode cX9_tray 21 = .ok (.aload_n 0, 1) := by decide +kernel
theorem dX9_tray_22 : decode cX9_tray 22 = .ok (.bipush (-3), 2) := by decide +kernel
theorem dX9_tray_24 : decode cX9_tray 24 = .ok (.invokevirtual 63, 3) := by decide +kernel
theorem dX9_tray_27 : decode cX9_tray 27 = .ok (.ireturn, 1) := by decide +kernel
theorem dX9_tray_28 : decode cX9_tray 28 = .ok (.iload_n 2, 1) := by decide +kernel
theorem dX9_tray_29 : decode cX9_tray 29 = .ok (.ifCond .ge 9, 3) := by decide +kernel
theorem dX9_tray_32 : decode cX9_tray 32 = .ok (.aload_n 0, 1) := by decide +kernel
theorem dX9_tray_33 : decode cX9_tray 33 = .ok (.iconst 3, 1) := by decide +kernel
theorem dX9_tray_34 : decode cX9_tray 34 = .ok (.invokevirtual 78, 3) := by decide +kernel
theorem dX9_tray_37 : decode cX9_tray 37 = .ok (.ireturn, 1) := by decide +kernel
theorem dX9_tray_38 : decode cX9_tray 38 = .ok (.aload_n 0, 1) := by decide +kernel
theorem dX9_tray_39 : decode cX9_tray 39 = .ok (.getfield 17, 3) := by decide +kernel
theorem dX9_tray_42 : decode cX9_tray 42 = .ok (.iload_n 1, 1) := by decide +kernel
theorem dX9_tray_43 : decode cX9_tray 43 = .ok (.aaload, 1) := by decide +kernel
theorem dX9_tray_44 : decode cX9_tray 44 = .ok (.iload_n 2, 1) := by decide +kernel
theorem dX9_tray_45 : decode cX9_tray 45 = .ok (.invokevirtual 133, 3) := by decide +kernel
theorem dX9_tray_48 : decode cX9_tray 48 = .ok (.aload_n 0, 1) := by decide +kernel
theorem dX9_tray_49 : decode cX9_tray 49 = .ok (.iload_n 2, 1) := by decide +kernel
theorem dX9_tray_50 : decode cX9_tray 50 = .ok (.invokevirtual 71, 3) := by decide +kernel
theorem dX9_tray_53 : decode cX9_tray 53 = .ok (.ireturn, 1) := by decide +kernel
theorem dX9_lose_0 : decode cX9_lose 0 = .ok (.iload_n 1, 1) := by decide +kernel
theorem dX9_lose_1 : decode cX9_lose 1 = .ok (.iconst 3, 1) := by decide +kernel
theorem dX9_lose_2 : decode cX9_lose 2 = .ok (.invokestatic 59, 3) := by decide +kernel
theorem dX9_lose_5 : decode cX9_lose 5 = .ok (.ifCond .ne 10, 3) := by decide +kernel
theorem dX9_lose_8 : decode cX9_lose 8 = .ok (.aload_n 0, 1) := by decide +kernel
theorem dX9_lose_9 : decode cX9_lose 9 = .ok (.bipush (-3), 2) := by decide +kernel
theorem dX9_lose_11 : decode cX9_lose 11 = .ok (.invokevirtual 63, 3) := by decide +kernel
theorem dX9_lose_14 : decode cX9_lose 14 = .ok (.ireturn, 1) := by decide +kernel
theorem dX9_lose_15 : decode cX9_lose 15 = .ok (.aload_n 0, 1) := by decide +kernel
theorem dX9_lose_16 : decode cX9_lose 16 = .ok (.iload_n 1, 1) := by decide +kernel
theorem dX9_lose_17 : decode cX9_lose 17 = .ok (.iload_n 2, 1) := by decide +kernel
theorem dX9_lose_18 : decode cX9_lose 18 = .ok (.invokevirtual 136, 3) := by decide +kernel
theorem dX9_lose_21 : decode cX9_lose 21 = .ok (.astore_n 3, 1) := by decide +kernel
theorem dX9_lose_22 : decode cX9_lose 22 = .ok (.aload_n 3, 1) := by decide +kernel
theorem dX9_lose_23 : decode cX9_lose 23 = .ok (.ifnonnull 10, 3) := by decide +kernel
theorem dX9_lose_26 : decode cX9_lose 26 = .ok (.aload_n 0, 1) := by decide +kernel
theorem dX9_lose_27 : decode cX9_lose 27 = .ok (.bipush (-2), 2) := by decide +kernel
theorem dX9_lose_29 : decode cX9_lose 29 = .ok (.invokevirtual 63, 3) := by decide +kernel
theorem dX9_lose_32 : decode cX9_lose 32 = .ok (.ireturn, 1) := by decide +kernel
theorem dX9_lose_33 : decode cX9_lose 33 = .ok (.aload_n 0, 1) := by decide +kernel
theorem dX9_lose_34 : decode cX9_lose 34 = .ok (.aload_n 3, 1) := by decide +kernel
theorem dX9_lose_35 : decode cX9_lose 35 = .ok (.invokevirtual 140, 3) := by decide +kernel
theorem dX9_lose_38 : decode cX9_lose 38 = .ok (.ifCond .eq 7, 3) := by decide +kernel
theorem dX9_lose_41 : decode cX9_lose 41 = .ok (.iconst 1, 1) := by decide +kernel
theorem dX9_lose_42 : decode cX9_lose 42 = .ok (.goto 4, 3) := by decide +kernel
theorem dX9_lose_45 : decode cX9_lose 45 = .ok (.iconst 0, 1) := by decide +kernel
theorem dX9_lose_46 : decode cX9_lose 46 = .ok (.invokevirtual 71, 3) := by decide +kernel
theorem dX9_lose_49 : decode cX9_lose 49 = .ok (.ireturn, 1) := by decide +kernel
theorem dX9_put_0 : decode cX9_put 0 = .ok (.iload_n 1, 1) := by decide +kernel
theorem dX9_put_1 : decode cX9_put 1 = .ok (.iconst 4, 1) := by decide +kernel
theorem dX9_put_2 : decode cX9_put 2 = .ok (.invokestatic 59, 3) := by decide +kernel
theorem dX9_put_5 : decode cX9_put 5 = .ok (.ifCond .ne 10, 3) := by decide +kernel
theorem dX9_put_8 : decode cX9_put 8 = .ok (.aload_n 0, 1) := by decide +kernel
theorem dX9_put_9 : decode cX9_put 9 = .ok (.bipush (-2), 2) := by decide +kernel
theorem dX9_put_11 : decode cX9_put 11 = .ok (.invokevirtual 63, 3) := by decide +kernel
theorem dX9_put_14 : decode cX9_put 14 = .ok (.ireturn, 1) := by decide +kernel
theorem dX9_put_15 : decode cX9_put 15 = .ok (.aload_n 0, 1) := by decide +kernel
theorem dX9_put_16 : decode cX9_put 16 = .ok (.getfield 17, 3) := by decide +kernel
theorem dX9_put_19 : decode cX9_put 19 = .ok (.iload_n 1, 1) := by decide +kernel
theorem dX9_put_20 : decode cX9_put 20 = .ok (.aaload, 1) := by decide +kernel
theorem dX9_put_21 : decode cX9_put 21 = .ok (.astore 4, 2) := by decide +kernel
theorem dX9_put_23 : decode cX9_put 23 = .ok (.aload 4, 2) := by decide +kernel
theorem dX9_put_25 : decode cX9_put 25 = .ok (.iload_n 2, 1) := by decide +kernel
theorem dX9_put_26 : decode cX9_put 26 = .ok (.invokestatic 116, 3) := by decide +kernel
theorem dX9_put_29 : decode cX9_put 29 = .ok (.istore 5, 2) := by decide +kernel
theorem dX9_put_31 : decode cX9_put 31 = .ok (.iload 5, 2) := by decide +kernel
theorem dX9_put_33 : decode cX9_put 33 = .ok (.ifCond .eq 10, 3) := by decide +kernel
theorem dX9_put_36 : decode cX9_put 36 = .ok (.aload_n 0, 1) := by decide +kernel
theorem dX9_put_37 : decode cX9_put 37 = .ok (.iload 5, 2) := by decide +kernel
theorem dX9_put_39 : decode cX9_put 39 = .ok (.invokevirtual 78, 3) := by decide +kernel
theorem dX9_put_42 : decode cX9_put 42 = .ok (.ireturn, 1) := by decide +kernel
theorem dX9_put_43 : decode cX9_put 43 = .ok (.aload 4, 2) := by decide +kernel
theorem dX9_put_45 : decode cX9_put 45 = .ok (.getfield 120, 3) := by decide +kernel
theorem dX9_put_48 : decode cX9_put 48 = .ok (.iload_n 2, 1) := by decide +kernel
theorem dX9_put_49 : decode cX9_put 49 = .ok (.iload_n 3, 1) := by decide +kernel
theorem dX9_put_50 : decode cX9_put 50 = .ok (.iastore, 1) := by decide +kernel
theorem dX9_put_51 : decode cX9_put 51 = .ok (.aload_n 0, 1) := by decide +kernel
theorem dX9_put_52 : decode cX9_put 52 = .ok (.iconst 1, 1) := by decide +kernel
theorem dX9_put_53 : decode cX9_put 53 = .ok (.invokevirtual 71, 3) := by decide +kernel
theorem dX9_put_56 : decode cX9_put 56 = .ok (.ireturn, 1) := by decide +kernel
theorem dX9_get_0 : decode cX9_get 0 = .ok (.iload_n 1, 1) := by decide +kernel
theorem dX9_get_1 : decode cX9_get 1 = .ok (.iconst 4, 1) := by decide +kernel
theorem dX9_get_2 : decode cX9_get 2 = .ok (.invokestatic 59, 3) := by decide +kernel
theorem dX9_get_5 : decode cX9_get 5 = .ok (.ifCond .ne 10, 3) := by decide +kernel
theorem dX9_get_8 : decode cX9_get 8 = .ok (.aload_n 0, 1) := by decide +kernel
theorem dX9_get_9 : decode cX9_get 9 = .ok (.bipush (-2), 2) := by decide +kernel
theorem dX9_get_11 : decode cX9_get 11 = .ok (.invokevirtual 88, 3) := by decide +kernel
theorem dX9_get_14 : decode cX9_get 14 = .ok (.ireturn, 1) := by decide +kernel
theorem dX9_get_15 : decode cX9_get 15 = .ok (.aload_n 0, 1) := by decide +kernel
theorem dX9_get_16 : decode cX9_get 16 = .ok (.getfield 17, 3) := by decide +kernel
theorem dX9_get_19 : decode cX9_get 19 = .ok (.iload_n 1, 1) := by decide +kernel
theorem dX9_get_20 : decode cX9_get 20 = .ok (.aaload, 1) := by decide +kernel
theorem dX9_get_21 : decode cX9_get 21 = .ok (.astore_n 3, 1) := by decide +kernel
theorem dX9_get_22 : decode cX9_get 22 = .ok (.aload_n 3, 1) := by decide +kernel
theorem dX9_get_23 : decode cX9_get 23 = .ok (.iload_n 2, 1) := by decide +kernel
theorem dX9_get_24 : decode cX9_get 24 = .ok (.invokestatic 116, 3) := by decide +kernel
theorem dX9_get_27 : decode cX9_get 27 = .ok (.istore 4, 2) := by decide +kernel
theorem dX9_get_29 : decode cX9_get 29 = .ok (.iload 4, 2) := by decide +kernel
theorem dX9_get_31 : decode cX9_get 31 = .ok (.ifCond .eq 10, 3) := by decide +kernel
theorem dX9_get_34 : decode cX9_get 34 = .ok (.aload_n 0, 1) := by decide +kernel
theorem dX9_get_35 : decode cX9_get 35 = .ok (.iload 4, 2) := by decide +kernel
theorem dX9_get_37 : decode cX9_get 37 = .ok (.invokevirtual 91, 3) := by decide +kernel
theorem dX9_get_40 : decode cX9_get 40 = .ok (.ireturn, 1) := by decide +kernel
theorem dX9_get_41 : decode cX9_get 41 = .ok (.aload_n 0, 1) := by decide +kernel
theorem dX9_get_42 : decode cX9_get 42 = .ok (.aload_n 3, 1) := by decide +kernel
theorem dX9_get_43 : decode cX9_get 43 = .ok (.getfield 120, 3) := by decide +kernel
theorem dX9_get_46 : decode cX9_get 46 = .ok (.iload_n 2, 1) := by decide +kernel
theorem dX9_get_47 : decode cX9_get 47 = .ok (.iaload, 1) := by decide +kernel
theorem dX9_get_48 : decode cX9_get 48 = .ok (.invokevirtual 71, 3) := by decide +kernel
theorem dX9_get_51 : decode cX9_get 51 = .ok (.ireturn, 1) := by decide +kernel
theorem dX9_length_0 : decode cX9_length 0 = .ok (.iload_n 1, 1) := by decide +kernel
theorem dX9_length_1 : decode cX9_length 1 = .ok (.iconst 3, 1) := by decide +kernel
theorem dX9_length_2 : decode cX9_length 2 = .ok (.invokestatic 59, 3) := by decide +kernel
theorem dX9_length_5 : decode cX9_length 5 = .ok (.ifCond .ne 10, 3) := by decide +kernel
theorem dX9_length_8 : decode cX9_length 8 = .ok (.aload_n 0, 1) := by decide +kernel
theorem dX9_length_9 : decode cX9_length 9 = .ok (.bipush (-3), 2) := by decide +kernel
theorem dX9_length_11 : decode cX9_length 11 = .ok (.invokevirtual 63, 3) := by decide +kernel
theorem dX9_length_14 : decode cX9_length 14 = .ok (.ireturn, 1) := by decide +kernel
theorem dX9_length_15 : decode cX9_length 15 = .ok (.aload_n 0, 1) := by decide +kernel
theorem dX9_length_16 : decode cX9_length 16 = .ok (.iload_n 1, 1) := by decide +kernel
theorem dX9_length_17 : decode cX9_length 17 = .ok (.iload_n 2, 1) := by decide +kernel
theorem dX9_length_18 : decode cX9_length 18 = .ok (.invokevirtual 136, 3) := by decide +kernel
theorem dX9_length_21 : decode cX9_length 21 = .ok (.astore_n 3, 1) := by decide +kernel
theorem dX9_length_22 : decode cX9_length 22 = .ok (.aload_n 3, 1) := by decide +kernel
theorem dX9_length_23 : decode cX9_length 23 = .ok (.ifnonnull 10, 3) := by decide +kernel
theorem dX9_length_26 : decode cX9_length 26 = .ok (.aload_n 0, 1) := by decide +kernel
theorem dX9_length_27 : decode cX9_length 27 = .ok (.bipush (-2), 2) := by decide +kernel
theorem dX9_length_29 : decode cX9_length 29 = .ok (.invokevirtual 63, 3) := by decide +kernel
theorem dX9_length_32 : decode cX9_length 32 = .ok (.ireturn, 1) := by decide +kernel
theorem dX9_length_33 : decode cX9_length 33 = .ok (.aload_n 3, 1) := by decide +kernel
theorem dX9_length_34 : decode cX9_length 34 = .ok (.invokevirtual 146, 3) := by decide +kernel
theorem dX9_length_37 : decode cX9_length 37 = .ok (.ifCond .eq 11, 3) := by decide +kernel
theorem dX9_length_40 : decode cX9_length 40 = .ok (.aload_n 0, 1) := by decide +kernel
theorem dX9_length_41 : decode cX9_length 41 = .ok (.iconst 1, 1) := by decide +kernel
theorem dX9_length_42 : decode cX9_length 42 = .ok (.invokevirtual 78, 3) := by decide +kernel
theorem dX9_length_45 : decode cX9_length 45 = .ok (.goto 11, 3) := by decide +kernel
theorem dX9_length_48 : decode cX9_length 48 = .ok (.aload_n 0, 1) := by decide +kernel
theorem dX9_length_49 : decode cX9_length 49 = .ok (.aload_n 3, 1) := by decide +kernel
theorem dX9_length_50 : decode cX9_length 50 = .ok (.getfield 149, 3) := by decide +kernel
theorem dX9_length_53 : decode cX9_length 53 = .ok (.invokevirtual 71, 3) := by decide +kernel
theorem dX9_length_56 : decode cX9_length 56 = .ok (.ireturn, 1) := by decide +kernel
theorem dX9_rack_0 : decode cX9_rack 0 = .ok (.iload_n 1, 1) := by decide +kernel
theorem dX9_rack_1 : decode cX9_rack 1 = .ok (.iconst 4, 1) := by decide +kernel
theorem dX9_rack_2 : decode cX9_rack 2 = .ok (.invokestatic 59, 3) := by decide +kernel
theorem dX9_rack_5 : decode cX9_rack 5 = .ok (.ifCond .ne 10, 3) := by decide +kernel
theorem dX9_rack_8 : decode cX9_rack 8 = .ok (.aload_n 0, 1) := by decide +kernel
theorem dX9_rack_9 : decode cX9_rack 9 = .ok (.bipush (-2), 2) := by decide +kernel
theorem dX9_rack_11 : decode cX9_rack 11 = .ok (.invokevirtual 63, 3) := by decide +kernel
theorem dX9_rack_14 : decode cX9_rack 14 = .ok (.ireturn, 1) := by decide +kernel
theorem dX9_rack_15 : decode cX9_rack 15 = .ok (.iload_n 2, 1) := by decide +kernel
theorem dX9_rack_16 : decode cX9_rack 16 = .ok (.iconst 3, 1) := by decide +kernel
theorem dX9_rack_17 : decode cX9_rack 17 = .ok (.invokestatic 59, 3) := by decide +kernel
theorem dX9_rack_20 : decode cX9_rack 20 = .ok (.ifCond .eq 9, 3) := by decide +kernel
theorem dX9_rack_23 : decode cX9_rack 23 = .ok (.iload_n 3, 1) := by decide +kernel
theorem dX9_rack_24 : decode cX9_rack 24 = .ok (.bipush 10, 2) := by decide +kernel
theorem dX9_rack_26 : decode cX9_rack 26 = .ok (.if_icmp .le 10, 3) := by decide +kernel
theorem dX9_rack_29 : decode cX9_rack 29 = .ok (.aload_n 0, 1) := by decide +kernel
theorem dX9_rack_30 : decode cX9_rack 30 = .ok (.bipush (-3), 2) := by decide +kernel
theorem dX9_rack_32 : decode cX9_rack 32 = .ok (.invokevirtual 63, 3) := by decide +kernel
theorem dX9_rack_35 : decode cX9_rack 35 = .ok (.ireturn, 1) := by decide +kernel
theorem dX9_rack_36 : decode cX9_rack 36 = .ok (.iload_n 3, 1) := by decide +kernel
theorem dX9_rack_37 : decode cX9_rack 37 = .ok (.ifCond .ge 9, 3) := by decide +kernel
theorem dX9_rack_40 : decode cX9_rack 40 = .ok (.aload_n 0, 1) := by decide +kernel
theorem dX9_rack_41 : decode cX9_rack 41 = .ok (.iconst 3, 1) := by decide +kernel
theorem dX9_rack_42 : decode cX9_rack 42 = .ok (.invokevirtual 78, 3) := by decide +kernel
theorem dX9_rack_45 : decode cX9_rack 45 = .ok (.ireturn, 1) := by decide +kernel
theorem dX9_rack_46 : decode cX9_rack 46 = .ok (.aload_n 0, 1) := by decide +kernel
theorem dX9_rack_47 : decode cX9_rack 47 = .ok (.getfield 23, 3) := by decide +kernel
theorem dX9_rack_50 : decode cX9_rack 50 = .ok (.iload_n 1, 1) := by decide +kernel
theorem dX9_rack_51 : decode cX9_rack 51 = .ok (.aaload, 1) := by decide +kernel
theorem dX9_rack_52 : decode cX9_rack 52 = .ok (.iload_n 2, 1) := by decide +kernel
theorem dX9_rack_53 : decode cX9_rack 53 = .ok (.iload_n 3, 1) := by decide +kernel
theorem dX9_rack_54 : decode cX9_rack 54 = .ok (.invokevirtual 152, 3) := by decide +kernel
theorem dX9_rack_57 : decode cX9_rack 57 = .ok (.aload_n 0, 1) := by decide +kernel
theorem dX9_rack_58 : decode cX9_rack 58 = .ok (.iload_n 3, 1) := by decide +kernel
theorem dX9_rack_59 : decode cX9_rack 59 = .ok (.invokevirtual 71, 3) := by decide +kernel
theorem dX9_rack_62 : decode cX9_rack 62 = .ok (.ireturn, 1) := by decide +kernel
theorem dX9_lay_0 : decode cX9_lay 0 = .ok (.iload_n 1, 1) := by decide +kernel
theorem dX9_lay_1 : decode cX9_lay 1 = .ok (.iconst 4, 1) := by decide +kernel
theorem dX9_lay_2 : decode cX9_lay 2 = .ok (.invokestatic 59, 3) := by decide +kernel
theorem dX9_lay_5 : decode cX9_lay 5 = .ok (.ifCond .eq 12, 3) := by decide +kernel
theorem dX9_lay_8 : decode cX9_lay 8 = .ok (.iload_n 3, 1) := by decide +kernel
theorem dX9_lay_9 : decode cX9_lay 9 = .ok (.bipush 10, 2) := by decide +kernel
theorem dX9_lay_11 : decode cX9_lay 11 = .ok (.invokestatic 59, 3) := by decide +kernel
theorem dX9_lay_14 : decode cX9_lay 14 = .ok (.ifCond .ne 10, 3) := by decide +kernel
theorem dX9_lay_17 : decode cX9_lay 17 = .ok (.aload_n 0, 1) := by decide +kernel
theorem dX9_lay_18 : decode cX9_lay 18 = .ok (.bipush (-2), 2) := by decide +kernel
theorem dX9_lay_20 : decode cX9_lay 20 = .ok (.invokevirtual 63, 3) := by decide +kernel
theorem dX9_lay_23 : decode cX9_lay 23 = .ok (.ireturn, 1) := by decide +kernel
theorem dX9_lay_24 : decode cX9_lay 24 = .ok (.aload_n 0, 1) := by decide +kernel
theorem dX9_lay_25 : decode cX9_lay 25 = .ok (.getfield 23, 3) := by decide +kernel
theorem dX9_lay_28 : decode cX9_lay 28 = .ok (.iload_n 1, 1) := by decide +kernel
theorem dX9_lay_29 : decode cX9_lay 29 = .ok (.aaload, 1) := by decide +kernel
theorem dX9_lay_30 : decode cX9_lay 30 = .ok (.astore 4, 2) := by decide +kernel
theorem dX9_lay_32 : decode cX9_lay 32 = .ok (.aload 4, 2) := by decide +kernel
theorem dX9_lay_34 : decode cX9_lay 34 = .ok (.iload_n 2, 1) := by decide +kernel
theorem dX9_lay_35 : decode cX9_lay 35 = .ok (.invokestatic 116, 3) := by decide +kernel
theorem dX9_lay_38 : decode cX9_lay 38 = .ok (.istore 5, 2) := by decide +kernel
theorem dX9_lay_40 : decode cX9_lay 40 = .ok (.iload 5, 2) := by decide +kernel
theorem dX9_lay_42 : decode cX9_lay 42 = .ok (.ifCond .eq 10, 3) := by decide +kernel
theorem dX9_lay_45 : decode cX9_lay 45 = .ok (.aload_n 0, 1) := by decide +kernel
theorem dX9_lay_46 : decode cX9_lay 46 = .ok (.iload 5, 2) := by decide +kernel
theorem dX9_lay_48 : decode cX9_lay 48 = .ok (.invokevirtual 78, 3) := by decide +kernel
theorem dX9_lay_51 : decode cX9_lay 51 = .ok (.ireturn, 1) := by decide +kernel
theorem dX9_lay_52 : decode cX9_lay 52 = .ok (.aload_n 0, 1) := by decide +kernel
theorem dX9_lay_53 : decode cX9_lay 53 = .ok (.getfield 11, 3) := by decide +kernel
theorem dX9_lay_56 : decode cX9_lay 56 = .ok (.iload_n 3, 1) := by decide +kernel
theorem dX9_lay_57 : decode cX9_lay 57 = .ok (.aaload, 1) := by decide +kernel
theorem dX9_lay_58 : decode cX9_lay 58 = .ok (.astore 6, 2) := by decide +kernel
theorem dX9_lay_60 : decode cX9_lay 60 = .ok (.aload 6, 2) := by decide +kernel
theorem dX9_lay_62 : decode cX9_lay 62 = .ok (.aload 4, 2) := by decide +kernel
theorem dX9_lay_64 : decode cX9_lay 64 = .ok (.getfield 155, 3) := by decide +kernel
theorem dX9_lay_67 : decode cX9_lay 67 = .ok (.invokestatic 158, 3) := by decide +kernel
theorem dX9_lay_70 : decode cX9_lay 70 = .ok (.ifCond .ne 9, 3) := by decide +kernel
theorem dX9_lay_73 : decode cX9_lay 73 = .ok (.aload_n 0, 1) := by decide +kernel
theorem dX9_lay_74 : decode cX9_lay 74 = .ok (.iconst 5, 1) := by decide +kernel
theorem dX9_lay_75 : decode cX9_lay 75 = .ok (.invokevirtual 78, 3) := by decide +kernel
theorem dX9_lay_78 : decode cX9_lay 78 = .ok (.ireturn, 1) := by decide +kernel
theorem dX9_lay_79 : decode cX9_lay 79 = .ok (.aload 4, 2) := by decide +kernel
theorem dX9_lay_81 : decode cX9_lay 81 = .ok (.getfield 162, 3) := by decide +kernel
theorem dX9_lay_84 : decode cX9_lay 84 = .ok (.iload_n 2, 1) := by decide +kernel
theorem dX9_lay_85 : decode cX9_lay 85 = .ok (.aload 6, 2) := by decide +kernel
theorem dX9_lay_87 : decode cX9_lay 87 = .ok (.aastore, 1) := by decide +kernel
theorem dX9_lay_88 : decode cX9_lay 88 = .ok (.aload_n 0, 1) := by decide +kernel
theorem dX9_lay_89 : decode cX9_lay 89 = .ok (.iconst 1, 1) := by decide +kernel
theorem dX9_lay_90 : decode cX9_lay 90 = .ok (.invokevirtual 71, 3) := by decide +kernel
theorem dX9_lay_93 : decode cX9_lay 93 = .ok (.ireturn, 1) := by decide +kernel
theorem dX9_fetch_0 : decode cX9_fetch 0 = .ok (.iload_n 1, 1) := by decide +kernel
theorem dX9_fetch_1 : decode cX9_fetch 1 = .ok (.iconst 4, 1) := by decide +kernel
theorem dX9_fetch_2 : decode cX9_fetch 2 = .ok (.invokestatic 59, 3) := by decide +kernel
theorem dX9_fetch_5 : decode cX9_fetch 5 = .ok (.ifCond .eq 13, 3) := by decide +kernel
theorem dX9_fetch_8 : decode cX9_fetch 8 = .ok (.iload 4, 2) := by decide +kernel
theorem dX9_fetch_10 : decode cX9_fetch 10 = .ok (.bipush 10, 2) := by decide +kernel
theorem dX9_fetch_12 : decode cX9_fetch 12 = .ok (.invokestatic 59, 3) := by decide +kernel
theorem dX9_fetch_15 : decode cX9_fetch 15 = .ok (.ifCond .ne 10, 3) := by decide +kernel
theorem dX9_fetch_18 : decode cX9_fetch 18 = .ok (.aload_n 0, 1) := by decide +kernel
theorem dX9_fetch_19 : decode cX9_fetch 19 = .ok (.bipush (-2), 2) := by decide +kernel
theorem dX9_fetch_21 : decode cX9_fetch 21 = .ok (.invokevirtual 63, 3) := by decide +kernel
theorem dX9_fetch_24 : decode cX9_fetch 24 = .ok (.ireturn, 1) := by decide +kernel
theorem dX9_fetch_25 : decode cX9_fetch 25 = .ok (.iload_n 3, 1) := by decide +kernel
theorem dX9_fetch_26 : decode cX9_fetch 26 = .ok (.iconst 3, 1) := by decide +kernel
theorem dX9_fetch_27 : decode cX9_fetch 27 = .ok (.invokestatic 59, 3) := by decide +kernel
theorem dX9_fetch_30 : decode cX9_fetch 30 = .ok (.ifCond .ne 10, 3) := by decide +kernel
theorem dX9_fetch_33 : decode cX9_fetch 33 = .ok (.aload_n 0, 1) := by decide +kernel
theorem dX9_fetch_34 : decode cX9_fetch 34 = .ok (.bipush (-3), 2) := by decide +kernel
theorem dX9_fetch_36 : decode cX9_fetch 36 = .ok (.invokevirtual 63, 3) := by decide +kernel
theorem dX9_fetch_39 : decode cX9_fetch 39 = .ok (.ireturn, 1) := by decide +kernel
theorem dX9_fetch_40 : decode cX9_fetch 40 = .ok (.aload_n 0, 1) := by decide +kernel
theorem dX9_fetch_41 : decode cX9_fetch 41 = .ok (.getfield 23, 3) := by decide +kernel
theorem dX9_fetch_44 : decode cX9_fetch 44 = .ok (.iload_n 1, 1) := by decide +kernel
theorem dX9_fetch_45 : decode cX9_fetch 45 = .ok (.aaload, 1) := by decide +kernel
theorem dX9_fetch_46 : decode cX9_fetch 46 = .ok (.astore 5, 2) := by decide +kernel
theorem dX9_fetch_48 : decode cX9_fetch 48 = .ok (.aload 5, 2) := by decide +kernel
theorem dX9_fetch_50 : decode cX9_fetch 50 = .ok (.iload_n 2, 1) := by decide +kernel
theorem dX9_fetch_51 : decode cX9_fetch 51 = .ok (.invokestatic 116, 3) := by decide +kernel
theorem dX9_fetch_54 : decode cX9_fetch 54 = .ok (.istore 6, 2) := by decide +kernel
theorem dX9_fetch_56 : decode cX9_fetch 56 = .ok (.iload 6, 2) := by decide +kernel
theorem dX9_fetch_58 : decode cX9_fetch 58 = .ok (.ifCond .eq 10, 3) := by decide +kernel
theorem dX9_fetch_61 : decode cX9_fetch 61 = .ok (.aload_n 0, 1) := by decide +kernel
theorem dX9_fetch_62 : decode cX9_fetch 62 = .ok (.iload 6, 2) := by decide +kernel
theorem dX9_fetch_64 : decode cX9_fetch 64 = .ok (.invokevirtual 78, 3) := by decide +kernel
theorem dX9_fetch_67 : decode cX9_fetch 67 = .ok (.ireturn, 1) := by decide +kernel
theorem dX9_fetch_68 : decode cX9_fetch 68 = .ok (.aload 5, 2) := by decide +kernel
theorem dX9_fetch_70 : decode cX9_fetch 70 = .ok (.getfield 162, 3) := by decide +kernel
theorem dX9_fetch_73 : decode cX9_fetch 73 = .ok (.iload_n 2, 1) := by decide +kernel
theorem dX9_fetch_74 : decode cX9_fetch 74 = .ok (.aaload, 1) := by decide +kernel
theorem dX9_fetch_75 : decode cX9_fetch 75 = .ok (.astore 7, 2) := by decide +kernel
theorem dX9_fetch_77 : decode cX9_fetch 77 = .ok (.aload 7, 2) := by decide +kernel
theorem dX9_fetch_79 : decode cX9_fetch 79 = .ok (.iload_n 3, 1) := by decide +kernel
theorem dX9_fetch_80 : decode cX9_fetch 80 = .ok (.invokestatic 158, 3) := by decide +kernel
theorem dX9_fetch_83 : decode cX9_fetch 83 = .ok (.ifCond .ne 9, 3) := by decide +kernel
theorem dX9_fetch_86 : decode cX9_fetch 86 = .ok (.aload_n 0, 1) := by decide +kernel
theorem dX9_fetch_87 : decode cX9_fetch 87 = .ok (.iconst 4, 1) := by decide +kernel
theorem dX9_fetch_88 : decode cX9_fetch 88 = .ok (.invokevirtual 78, 3) := by decide +kernel
theorem dX9_fetch_91 : decode cX9_fetch 91 = .ok (.ireturn, 1) := by decide +kernel
theorem dX9_fetch_92 : decode cX9_fetch 92 = .ok (.aload_n 0, 1) := by decide +kernel
theorem dX9_fetch_93 : decode cX9_fetch 93 = .ok (.getfield 11, 3) := by decide +kernel
theorem dX9_fetch_96 : decode cX9_fetch 96 = .ok (.iload 4, 2) := by decide +kernel
theorem dX9_fetch_98 : decode cX9_fetch 98 = .ok (.aload 7, 2) := by decide +kernel
theorem dX9_fetch_100 : decode cX9_fetch 100 = .ok (.aastore, 1) := by decide +kernel
theorem dX9_fetch_101 : decode cX9_fetch 101 = .ok (.aload_n 0, 1) := by decide +kernel
theorem dX9_fetch_102 : decode cX9_fetch 102 = .ok (.iconst 1, 1) := by decide +kernel
theorem dX9_fetch_103 : decode cX9_fetch 103 = .ok (.invokevirtual 71, 3) := by decide +kernel
theorem dX9_fetch_106 : decode cX9_fetch 106 = .ok (.ireturn, 1) := by decide +kernel
theorem dX9_grid_0 : decode cX9_grid 0 = .ok (.iload_n 1, 1) := by decide +kernel
theorem dX9_grid_1 : decode cX9_grid 1 = .ok (.iconst 2, 1) := by decide +kernel
theorem dX9_grid_2 : decode cX9_grid 2 = .ok (.invokestatic 59, 3) := by decide +kernel
theorem dX9_grid_5 : decode cX9_grid 5 = .ok (.ifCond .ne 10, 3) := by decide +kernel
theorem dX9_grid_8 : decode cX9_grid 8 = .ok (.aload_n 0, 1) := by decide +kernel
theorem dX9_grid_9 : decode cX9_grid 9 = .ok (.bipush (-2), 2) := by decide +kernel
theorem dX9_grid_11 : decode cX9_grid 11 = .ok (.invokevirtual 63, 3) := by decide +kernel
theorem dX9_grid_14 : decode cX9_grid 14 = .ok (.ireturn, 1) := by decide +kernel
theorem dX9_grid_15 : decode cX9_grid 15 = .ok (.iload_n 2, 1) := by decide +kernel
theorem dX9_grid_16 : decode cX9_grid 16 = .ok (.bipush 8, 2) := by decide +kernel
theorem dX9_grid_18 : decode cX9_grid 18 = .ok (.if_icmp .gt 9, 3) := by decide +kernel
theorem dX9_grid_21 : decode cX9_grid 21 = .ok (.iload_n 3, 1) := by decide +kernel
theorem dX9_grid_22 : decode cX9_grid 22 = .ok (.bipush 8, 2) := by decide +kernel
theorem dX9_grid_24 : decode cX9_grid 24 = .ok (.if_icmp .le 10, 3) := by decide +kernel
theorem dX9_grid_27 : decode cX9_grid 27 = .ok (.aload_n 0, 1) := by decide +kernel
theorem dX9_grid_28 : decode cX9_grid 28 = .ok (.bipush (-3), 2) := by decide +kernel
theorem dX9_grid_30 : decode cX9_grid 30 = .ok (.invokevirtual 63, 3) := by decide +kernel
theorem dX9_grid_33 : decode cX9_grid 33 = .ok (.ireturn, 1) := by decide +kernel
theorem dX9_grid_34 : decode cX9_grid 34 = .ok (.iload_n 2, 1) := by decide +kernel
theorem dX9_grid_35 : decode cX9_grid 35 = .ok (.ifCond .lt 7, 3) := by decide +kernel
theorem dX9_grid_38 : decode cX9_grid 38 = .ok (.iload_n 3, 1) := by decide +kernel
theorem dX9_grid_39 : decode cX9_grid 39 = .ok (.ifCond .ge 9, 3) := by decide +kernel
theorem dX9_grid_42 : decode cX9_grid 42 = .ok (.aload_n 0, 1) := by decide +kernel
theorem dX9_grid_43 : decode cX9_grid 43 = .ok (.iconst 3, 1) := by decide +kernel
theorem dX9_grid_44 : decode cX9_grid 44 = .ok (.invokevirtual 78, 3) := by decide +kernel
theorem dX9_grid_47 : decode cX9_grid 47 = .ok (.ireturn, 1) := by decide +kernel
theorem dX9_grid_48 : decode cX9_grid 48 = .ok (.aload_n 0, 1) := by decide +kernel
theorem dX9_grid_49 : decode cX9_grid 49 = .ok (.getfield 29, 3) := by decide +kernel
theorem dX9_grid_52 : decode cX9_grid 52 = .ok (.iload_n 1, 1) := by decide +kernel
theorem dX9_grid_53 : decode cX9_grid 53 = .ok (.aaload, 1) := by decide +kernel
theorem dX9_grid_54 : decode cX9_grid 54 = .ok (.iload_n 2, 1) := by decide +kernel
theorem dX9_grid_55 : decode cX9_grid 55 = .ok (.iload_n 3, 1) := by decide +kernel
theorem dX9_grid_56 : decode cX9_grid 56 = .ok (.invokevirtual 165, 3) := by decide +kernel
theorem dX9_grid_59 : decode cX9_grid 59 = .ok (.aload_n 0, 1) := by decide +kernel
theorem dX9_grid_60 : decode cX9_grid 60 = .ok (.iload_n 2, 1) := by decide +kernel
theorem dX9_grid_61 : decode cX9_grid 61 = .ok (.invokevirtual 71, 3) := by decide +kernel
theorem dX9_grid_64 : decode cX9_grid 64 = .ok (.ireturn, 1) := by decide +kernel
theorem dX9_strike_0 : decode cX9_strike 0 = .ok (.iload_n 1, 1) := by decide +kernel
theorem dX9_strike_1 : decode cX9_strike 1 = .ok (.iconst 2, 1) := by decide +kernel
theorem dX9_strike_2 : decode cX9_strike 2 = .ok (.invokestatic 59, 3) := by decide +kernel
theorem dX9_strike_5 : decode cX9_strike 5 = .ok (.ifCond .ne 10, 3) := by decide +kernel
theorem dX9_strike_8 : decode cX9_strike 8 = .ok (.aload_n 0, 1) := by decide +kernel
theorem dX9_strike_9 : decode cX9_strike 9 = .ok (.bipush (-2), 2) := by decide +kernel
theorem dX9_strike_11 : decode cX9_strike 11 = .ok (.invokevirtual 63, 3) := by decide +kernel
theorem dX9_strike_14 : decode cX9_strike 14 = .ok (.ireturn, 1) := by decide +kernel
theorem dX9_strike_15 : decode cX9_strike 15 = .ok (.aload_n 0, 1) := by decide +kernel
theorem dX9_strike_16 : decode cX9_strike 16 = .ok (.getfield 29, 3) := by decide +kernel
theorem dX9_strike_19 : decode cX9_strike 19 = .ok (.iload_n 1, 1) := by decide +kernel
theorem dX9_strike_20 : decode cX9_strike 20 = .ok (.aaload, 1) := by decide +kernel
theorem dX9_strike_21 : decode cX9_strike 21 = .ok (.astore_n 3, 1) := by decide +kernel
theorem dX9_strike_22 : decode cX9_strike 22 = .ok (.aload_n 3, 1) := by decide +kernel
theorem dX9_strike_23 : decode cX9_strike 23 = .ok (.iload_n 2, 1) := by decide +kernel
theorem dX9_strike_24 : decode cX9_strike 24 = .ok (.invokestatic 116, 3) := by decide +kernel
theorem dX9_strike_27 : decode cX9_strike 27 = .ok (.istore 4, 2) := by decide +kernel
theorem dX9_strike_29 : decode cX9_strike 29 = .ok (.iload 4, 2) := by decide +kernel
theorem dX9_strike_31 : decode cX9_strike 31 = .ok (.ifCond .eq 10, 3) := by decide +kernel
theorem dX9_strike_34 : decode cX9_strike 34 = .ok (.aload_n 0, 1) := by decide +kernel
theorem dX9_strike_35 : decode cX9_strike 35 = .ok (.iload 4, 2) := by decide +kernel
theorem dX9_strike_37 : decode cX9_strike 37 = .ok (.invokevirtual 78, 3) := by decide +kernel
theorem dX9_strike_40 : decode cX9_strike 40 = .ok (.ireturn, 1) := by decide +kernel
theorem dX9_strike_41 : decode cX9_strike 41 = .ok (.aload_n 0, 1) := by decide +kernel
theorem dX9_strike_42 : decode cX9_strike 42 = .ok (.aload_n 3, 1) := by decide +kernel
theorem dX9_strike_43 : decode cX9_strike 43 = .ok (.getfield 166, 3) := by decide +kernel
theorem dX9_strike_46 : decode cX9_strike 46 = .ok (.iload_n 2, 1) := by decide +kernel
theorem dX9_strike_47 : decode cX9_strike 47 = .ok (.aaload, 1) := by decide +kernel
theorem dX9_strike_48 : decode cX9_strike 48 = .ok (.invokevirtual 169, 3) := by decide +kernel
theorem dX9_strike_51 : decode cX9_strike 51 = .ok (.ifCond .eq 7, 3) := by decide +kernel
theorem dX9_strike_54 : decode cX9_strike 54 = .ok (.iconst 1, 1) := by decide +kernel
theorem dX9_strike_55 : decode cX9_strike 55 = .ok (.goto 4, 3) := by decide +kernel
theorem dX9_strike_58 : decode cX9_strike 58 = .ok (.iconst 0, 1) := by decide +kernel
theorem dX9_strike_59 : decode cX9_strike 59 = .ok (.invokevirtual 71, 3) := by decide +kernel
theorem dX9_strike_62 : decode cX9_strike 62 = .ok (.ireturn, 1) := by decide +kernel
theorem dX9_mark_0 : decode cX9_mark 0 = .ok (.iload_n 1, 1) := by decide +kernel
theorem dX9_mark_1 : decode cX9_mark 1 = .ok (.iconst 2, 1) := by decide +kernel
theorem dX9_mark_2 : decode cX9_mark 2 = .ok (.invokestatic 59, 3) := by decide +kernel
theorem dX9_mark_5 : decode cX9_mark 5 = .ok (.ifCond .ne 10, 3) := by decide +kernel
theorem dX9_mark_8 : decode cX9_mark 8 = .ok (.aload_n 0, 1) := by decide +kernel
theorem dX9_mark_9 : decode cX9_mark 9 = .ok (.bipush (-2), 2) := by decide +kernel
theorem dX9_mark_11 : decode cX9_mark 11 = .ok (.invokevirtual 63, 3) := by decide +kernel
theorem dX9_mark_14 : decode cX9_mark 14 = .ok (.ireturn, 1) := by decide +kernel
theorem dX9_mark_15 : decode cX9_mark 15 = .ok (.aload_n 0, 1) := by decide +kernel
theorem dX9_mark_16 : decode cX9_mark 16 = .ok (.getfield 29, 3) := by decide +kernel
theorem dX9_mark_19 : decode cX9_mark 19 = .ok (.iload_n 1, 1) := by decide +kernel
theorem dX9_mark_20 : decode cX9_mark 20 = .ok (.aaload, 1) := by decide +kernel
theorem dX9_mark_21 : decode cX9_mark 21 = .ok (.astore 5, 2) := by decide +kernel
theorem dX9_mark_23 : decode cX9_mark 23 = .ok (.aload 5, 2) := by decide +kernel
theorem dX9_mark_25 : decode cX9_mark 25 = .ok (.iload_n 2, 1) := by decide +kernel
theorem dX9_mark_26 : decode cX9_mark 26 = .ok (.iload_n 3, 1) := by decide +kernel
theorem dX9_mark_27 : decode cX9_mark 27 = .ok (.invokestatic 170, 3) := by decide +kernel
theorem dX9_mark_30 : decode cX9_mark 30 = .ok (.istore 6, 2) := by decide +kernel
theorem dX9_mark_32 : decode cX9_mark 32 = .ok (.iload 6, 2) := by decide +kernel
theorem dX9_mark_34 : decode cX9_mark 34 = .ok (.ifCond .eq 10, 3) := by decide +kernel
theorem dX9_mark_37 : decode cX9_mark 37 = .ok (.aload_n 0, 1) := by decide +kernel
theorem dX9_mark_38 : decode cX9_mark 38 = .ok (.iload 6, 2) := by decide +kernel
theorem dX9_mark_40 : decode cX9_mark 40 = .ok (.invokevirtual 78, 3) := by decide +kernel
theorem dX9_mark_43 : decode cX9_mark 43 = .ok (.ireturn, 1) := by decide +kernel
theorem dX9_mark_44 : decode cX9_mark 44 = .ok (.aload 5, 2) := by decide +kernel
theorem dX9_mark_46 : decode cX9_mark 46 = .ok (.getfield 166, 3) := by decide +kernel
theorem dX9_mark_49 : decode cX9_mark 49 = .ok (.iload_n 2, 1) := by decide +kernel
theorem dX9_mark_50 : decode cX9_mark 50 = .ok (.aaload, 1) := by decide +kernel
theorem dX9_mark_51 : decode cX9_mark 51 = .ok (.getfield 120, 3) := by decide +kernel
theorem dX9_mark_54 : decode cX9_mark 54 = .ok (.iload_n 3, 1) := by decide +kernel
theorem dX9_mark_55 : decode cX9_mark 55 = .ok (.iload 4, 2) := by decide +kernel
theorem dX9_mark_57 : decode cX9_mark 57 = .ok (.iastore, 1) := by decide +kernel
theorem dX9_mark_58 : decode cX9_mark 58 = .ok (.aload_n 0, 1) := by decide +kernel
theorem dX9_mark_59 : decode cX9_mark 59 = .ok (.iconst 1, 1) := by decide +kernel
theorem dX9_mark_60 : decode cX9_mark 60 = .ok (.invokevirtual 71, 3) := by decide +kernel
theorem dX9_mark_63 : decode cX9_mark 63 = .ok (.ireturn, 1) := by decide +kernel
theorem dX9_cell_0 : decode cX9_cell 0 = .ok (.iload_n 1, 1) := by decide +kernel
theorem dX9_cell_1 : decode cX9_cell 1 = .ok (.iconst 2, 1) := by decide +kernel
theorem dX9_cell_2 : decode cX9_cell 2 = .ok (.invokestatic 59, 3) := by decide +kernel
theorem dX9_cell_5 : decode cX9_cell 5 = .ok (.ifCond .ne 10, 3) := by decide +kernel
theorem dX9_cell_8 : decode cX9_cell 8 = .ok (.aload_n 0, 1) := by decide +kernel
theorem dX9_cell_9 : decode cX9_cell 9 = .ok (.bipush (-2), 2) := by decide +kernel
theorem dX9_cell_11 : decode cX9_cell 11 = .ok (.invokevirtual 88, 3) := by decide +kernel
theorem dX9_cell_14 : decode cX9_cell 14 = .ok (.ireturn, 1) := by decide +kernel
theorem dX9_cell_15 : decode cX9_cell 15 = .ok (.aload_n 0, 1) := by decide +kernel
theorem dX9_cell_16 : decode cX9_cell 16 = .ok (.getfield 29, 3) := by decide +kernel
theorem dX9_cell_19 : decode cX9_cell 19 = .ok (.iload_n 1, 1) := by decide +kernel
theorem dX9_cell_20 : decode cX9_cell 20 = .ok (.aaload, 1) := by decide +kernel
theorem dX9_cell_21 : decode cX9_cell 21 = .ok (.astore 4, 2) := by decide +kernel
theorem dX9_cell_23 : decode cX9_cell 23 = .ok (.aload 4, 2) := by decide +kernel
theorem dX9_cell_25 : decode cX9_cell 25 = .ok (.iload_n 2, 1) := by decide +kernel
theorem dX9_cell_26 : decode cX9_cell 26 = .ok (.iload_n 3, 1) := by decide +kernel
theorem dX9_cell_27 : decode cX9_cell 27 = .ok (.invokestatic 170, 3) := by decide +kernel
theorem dX9_cell_30 : decode cX9_cell 30 = .ok (.istore 5, 2) := by decide +kernel
theorem dX9_cell_32 : decode cX9_cell 32 = .ok (.iload 5, 2) := by decide +kernel
theorem dX9_cell_34 : decode cX9_cell 34 = .ok (.ifCond .eq 10, 3) := by decide +kernel
theorem dX9_cell_37 : decode cX9_cell 37 = .ok (.aload_n 0, 1) := by decide +kernel
theorem dX9_cell_38 : decode cX9_cell 38 = .ok (.iload 5, 2) := by decide +kernel
theorem dX9_cell_40 : decode cX9_cell 40 = .ok (.invokevirtual 91, 3) := by decide +kernel
theorem dX9_cell_43 : decode cX9_cell 43 = .ok (.ireturn, 1) := by decide +kernel
theorem dX9_cell_44 : decode cX9_cell 44 = .ok (.aload_n 0, 1) := by decide +kernel
theorem dX9_cell_45 : decode cX9_cell 45 = .ok (.aload 4, 2) := by decide +kernel
theorem dX9_cell_47 : decode cX9_cell 47 = .ok (.getfield 166, 3) := by decide +kernel
theorem dX9_cell_50 : decode cX9_cell 50 = .ok (.iload_n 2, 1) := by decide +kernel
theorem dX9_cell_51 : decode cX9_cell 51 = .ok (.aaload, 1) := by decide +kernel
theorem dX9_cell_52 : decode cX9_cell 52 = .ok (.getfield 120, 3) := by decide +kernel
theorem dX9_cell_55 : decode cX9_cell 55 = .ok (.iload_n 3, 1) := by decide +kernel
theorem dX9_cell_56 : decode cX9_cell 56 = .ok (.iaload, 1) := by decide +kernel
theorem dX9_cell_57 : decode cX9_cell 57 = .ok (.invokevirtual 71, 3) := by decide +kernel
theorem dX9_cell_60 : decode cX9_cell 60 = .ok (.ireturn, 1) := by decide +kernel
theorem dX9_holderOrNull_0 : decode cX9_holderOrNull 0 = .ok (.iload_n 1, 1) := by decide +kernel
theorem dX9_holderOrNull_1 : decode cX9_holderOrNull 1 = .ok (.lookupswitch 65 #[(0, 27), (1, 46)], 27) := by decide +kernel
theorem dX9_holderOrNull_28 : decode cX9_holderOrNull 28 = .ok (.iload_n 2, 1) := by decide +kernel
theorem dX9_holderOrNull_29 : decode cX9_holderOrNull 29 = .ok (.iconst 4, 1) := by decide +kernel
theorem dX9_holderOrNull_30 : decode cX9_holderOrNull 30 = .ok (.invokestatic 59, 3) := by decide +kernel
theorem dX9_holderOrNull_33 : decode cX9_holderOrNull 33 = .ok (.ifCond .eq 12, 3) := by decide +kernel
theorem dX9_holderOrNull_36 : decode cX9_holderOrNull 36 = .ok (.aload_n 0, 1) := by decide +kernel
theorem dX9_holderOrNull_37 : decode cX9_holderOrNull 37 = .ok (.getfield 17, 3) := by decide +kernel
theorem dX9_holderOrNull_40 : decode cX9_holderOrNull 40 = .ok (.iload_n 2, 1) := by decide +kernel
theorem dX9_holderOrNull_41 : decode cX9_holderOrNull 41 = .ok (.aaload, 1) := by decide +kernel
theorem dX9_holderOrNull_42 : decode cX9_holderOrNull 42 = .ok (.goto 4, 3) := by decide +kernel
theorem dX9_holderOrNull_45 : decode cX9_holderOrNull 45 = .ok (.aconst_null, 1) := by decide +kernel
theorem dX9_holderOrNull_46 : decode cX9_holderOrNull 46 = .ok (.areturn, 1) := by decide +kernel
theorem dX9_holderOrNull_47 : decode cX9_holderOrNull 47 = .ok (.iload_n 2, 1) := by decide +kernel
theorem dX9_holderOrNull_48 : decode cX9_holderOrNull 48 = .ok (.iconst 4, 1) := by decide +kernel
theorem dX9_holderOrNull_49 : decode cX9_holderOrNull 49 = .ok (.invokestatic 59, 3) := by decide +kernel
theorem dX9_holderOrNull_52 : decode cX9_holderOrNull 52 = .ok (.ifCond .eq 12, 3) := by decide +kernel
theorem dX9_holderOrNull_55 : decode cX9_holderOrNull 55 = .ok (.aload_n 0, 1) := by decide +kernel
theorem dX9_holderOrNull_56 : decode cX9_holderOrNull 56 = .ok (.getfield 23, 3) := by decide +kernel
theorem dX9_holderOrNull_59 : decode cX9_holderOrNull 59 = .ok (.iload_n 2, 1) := by decide +kernel
theorem dX9_holderOrNull_60 : decode cX9_holderOrNull 60 = .ok (.aaload, 1) := by decide +kernel
theorem dX9_holderOrNull_61 : decode cX9_holderOrNull 61 = .ok (.goto 4, 3) := by decide +kernel
theorem dX9_holderOrNull_64 : decode cX9_holderOrNull 64 = .ok (.aconst_null, 1) := by decide +kernel
theorem dX9_holderOrNull_65 : decode cX9_holderOrNull 65 = .ok (.areturn, 1) := by decide +kernel
theorem dX9_holderOrNull_66 : decode cX9_holderOrNull 66 = .ok (.iload_n 2, 1) := by decide +kernel
theorem dX9_holderOrNull_67 : decode cX9_holderOrNull 67 = .ok (.iconst 2, 1) := by decide +kernel
theorem dX9_holderOrNull_68 : decode cX9_holderOrNull 68 = .ok (.invokestatic 59, 3) := by decide +kernel
theorem dX9_holderOrNull_71 : decode cX9_holderOrNull 71 = .ok (.ifCond .eq 12, 3) := by decide +kernel
theorem dX9_holderOrNull_74 : decode cX9_holderOrNull 74 = .ok (.aload_n 0, 1) := by decide +kernel
theorem dX9_holderOrNull_75 : decode cX9_holderOrNull 75 = .ok (.getfield 29, 3) := by decide +kernel
theorem dX9_holderOrNull_78 : decode cX9_holderOrNull 78 = .ok (.iload_n 2, 1) := by decide +kernel
theorem dX9_holderOrNull_79 : decode cX9_holderOrNull 79 = .ok (.aaload, 1) := by decide +kernel
theorem dX9_holderOrNull_80 : decode cX9_holderOrNull 80 = .ok (.goto 4, 3) := by decide +kernel
theorem dX9_holderOrNull_83 : decode cX9_holderOrNull 83 = .ok (.aconst_null, 1) := by decide +kernel
theorem dX9_holderOrNull_84 : decode cX9_holderOrNull 84 = .ok (.areturn, 1) := by decide +kernel
theorem dX9_failureAt_0 : decode cX9_failureAt 0 = .ok (.aload_n 0, 1) := by decide +kernel
theorem dX9_failureAt_1 : decode cX9_failureAt 1 = .ok (.invokevirtual 146, 3) := by decide +kernel
theorem dX9_failureAt_4 : decode cX9_failureAt 4 = .ok (.ifCond .eq 5, 3) := by decide +kernel
theorem dX9_failureAt_7 : decode cX9_failureAt 7 = .ok (.iconst 1, 1) := by decide +kernel
theorem dX9_failureAt_8 : decode cX9_failureAt 8 = .ok (.ireturn, 1) := by decide +kernel
theorem dX9_failureAt_9 : decode cX9_failureAt 9 = .ok (.iload_n 1, 1) := by decide +kernel
theorem dX9_failureAt_10 : decode cX9_failureAt 10 = .ok (.aload_n 0, 1) := by decide +kernel
theorem dX9_failureAt_11 : decode cX9_failureAt 11 = .ok (.getfield 149, 3) := by decide +kernel
theorem dX9_failureAt_14 : decode cX9_failureAt 14 = .ok (.invokestatic 59, 3) := by decide +kernel
theorem dX9_failureAt_17 : decode cX9_failureAt 17 = .ok (.ifCond .eq 7, 3) := by decide +kernel
theorem dX9_failureAt_20 : decode cX9_failureAt 20 = .ok (.iconst 0, 1) := by decide +kernel
theorem dX9_failureAt_21 : decode cX9_failureAt 21 = .ok (.goto 4, 3) := by decide +kernel
theorem dX9_failureAt_24 : decode cX9_failureAt 24 = .ok (.iconst 2, 1) := by decide +kernel
theorem dX9_failureAt_25 : decode cX9_failureAt 25 = .ok (.ireturn, 1) := by decide +kernel
theorem dX9_failureAtCell_0 : decode cX9_failureAtCell 0 = .ok (.aload_n 0, 1) := by decide +kernel
theorem dX9_failureAtCell_1 : decode cX9_failureAtCell 1 = .ok (.iload_n 1, 1) := by decide +kernel
theorem dX9_failureAtCell_2 : decode cX9_failureAtCell 2 = .ok (.invokestatic 116, 3) := by decide +kernel
theorem dX9_failureAtCell_5 : decode cX9_failureAtCell 5 = .ok (.istore_n 3, 1) := by decide +kernel
theorem dX9_failureAtCell_6 : decode cX9_failureAtCell 6 = .ok (.iload_n 3, 1) := by decide +kernel
theorem dX9_failureAtCell_7 : decode cX9_failureAtCell 7 = .ok (.ifCond .eq 7, 3) := by decide +kernel
theorem dX9_failureAtCell_10 : decode cX9_failureAtCell 10 = .ok (.iload_n 3, 1) := by decide +kernel
theorem dX9_failureAtCell_11 : decode cX9_failureAtCell 11 = .ok (.goto 13, 3) := by decide +kernel
theorem dX9_failureAtCell_14 : decode cX9_failureAtCell 14 = .ok (.aload_n 0, 1) := by decide +kernel
theorem dX9_failureAtCell_15 : decode cX9_failureAtCell 15 = .ok (.getfield 166, 3) := by decide +kernel
theorem dX9_failureAtCell_18 : decode cX9_failureAtCell 18 = .ok (.iload_n 1, 1) := by decide +kernel
theorem dX9_failureAtCell_19 : decode cX9_failureAtCell 19 = .ok (.aaload, 1) := by decide +kernel
theorem dX9_failureAtCell_20 : decode cX9_failureAtCell 20 = .ok (.iload_n 2, 1) := by decide +kernel
theorem dX9_failureAtCell_21 : decode cX9_failureAtCell 21 = .ok (.invokestatic 116, 3) := by decide +kernel
theorem dX9_failureAtCell_24 : decode cX9_failureAtCell 24 = .ok (.ireturn, 1) := by decide +kernel
theorem dX9_isOfSort_0 : decode cX9_isOfSort 0 = .ok (.aload_n 0, 1) := by decide +kernel
theorem dX9_isOfSort_1 : decode cX9_isOfSort 1 = .ok (.ifnull 7, 3) := by decide +kernel
theorem dX9_isOfSort_4 : decode cX9_isOfSort 4 = .ok (.iload_n 1, 1) := by decide +kernel
theorem dX9_isOfSort_5 : decode cX9_isOfSort 5 = .ok (.ifCond .ne 5, 3) := by decide +kernel
theorem dX9_isOfSort_8 : decode cX9_isOfSort 8 = .ok (.iconst 1, 1) := by decide +kernel
theorem dX9_isOfSort_9 : decode cX9_isOfSort 9 = .ok (.ireturn, 1) := by decide +kernel
theorem dX9_isOfSort_10 : decode cX9_isOfSort 10 = .ok (.iload_n 1, 1) := by decide +kernel
theorem dX9_isOfSort_11 : decode cX9_isOfSort 11 = .ok (.iconst 1, 1) := by decide +kernel
theorem dX9_isOfSort_12 : decode cX9_isOfSort 12 = .ok (.if_icmp .ne 10, 3) := by decide +kernel
theorem dX9_isOfSort_15 : decode cX9_isOfSort 15 = .ok (.aload_n 0, 1) := by decide +kernel
theorem dX9_isOfSort_16 : decode cX9_isOfSort 16 = .ok (.instanceof 104, 3) := by decide +kernel
theorem dX9_isOfSort_19 : decode cX9_isOfSort 19 = .ok (.goto 7, 3) := by decide +kernel
theorem dX9_isOfSort_22 : decode cX9_isOfSort 22 = .ok (.aload_n 0, 1) := by decide +kernel
theorem dX9_isOfSort_23 : decode cX9_isOfSort 23 = .ok (.instanceof 130, 3) := by decide +kernel
theorem dX9_isOfSort_26 : decode cX9_isOfSort 26 = .ok (.ireturn, 1) := by decide +kernel
theorem dX9_alarm_0 : decode cX9_alarm 0 = .ok (.iload_n 1, 1) := by decide +kernel
theorem dX9_alarm_1 : decode cX9_alarm 1 = .ok (.iconst 4, 1) := by decide +kernel
theorem dX9_alarm_2 : decode cX9_alarm 2 = .ok (.invokestatic 59, 3) := by decide +kernel
theorem dX9_alarm_5 : decode cX9_alarm 5 = .ok (.ifCond .ne 10, 3) := by decide +kernel
theorem dX9_alarm_8 : decode cX9_alarm 8 = .ok (.aload_n 0, 1) := by decide +kernel
theorem dX9_alarm_9 : decode cX9_alarm 9 = .ok (.bipush (-2), 2) := by decide +kernel
theorem dX9_alarm_11 : decode cX9_alarm 11 = .ok (.invokevirtual 63, 3) := by decide +kernel
theorem dX9_alarm_14 : decode cX9_alarm 14 = .ok (.ireturn, 1) := by decide +kernel
theorem dX9_alarm_15 : decode cX9_alarm 15 = .ok (.aload_n 0, 1) := by decide +kernel
theorem dX9_alarm_16 : decode cX9_alarm 16 = .ok (.getfield 33, 3) := by decide +kernel
theorem dX9_alarm_19 : decode cX9_alarm 19 = .ok (.iload_n 1, 1) := by decide +kernel
theorem dX9_alarm_20 : decode cX9_alarm 20 = .ok (.baload, 1) := by decide +kernel
theorem dX9_alarm_21 : decode cX9_alarm 21 = .ok (.istore_n 3, 1) := by decide +kernel
theorem dX9_alarm_22 : decode cX9_alarm 22 = .ok (.aload_n 0, 1) := by decide +kernel
theorem dX9_alarm_23 : decode cX9_alarm 23 = .ok (.getfield 33, 3) := by decide +kernel
theorem dX9_alarm_26 : decode cX9_alarm 26 = .ok (.iload_n 1, 1) := by decide +kernel
theorem dX9_alarm_27 : decode cX9_alarm 27 = .ok (.iconst 1, 1) := by decide +kernel
theorem dX9_alarm_28 : decode cX9_alarm 28 = .ok (.bastore, 1) := by decide +kernel
theorem dX9_alarm_29 : decode cX9_alarm 29 = .ok (.aload_n 0, 1) := by decide +kernel
theorem dX9_alarm_30 : decode cX9_alarm 30 = .ok (.getfield 37, 3) := by decide +kernel
theorem dX9_alarm_33 : decode cX9_alarm 33 = .ok (.iload_n 1, 1) := by decide +kernel
theorem dX9_alarm_34 : decode cX9_alarm 34 = .ok (.iload_n 2, 1) := by decide +kernel
theorem dX9_alarm_35 : decode cX9_alarm 35 = .ok (.iastore, 1) := by decide +kernel
theorem dX9_alarm_36 : decode cX9_alarm 36 = .ok (.aload_n 0, 1) := by decide +kernel
theorem dX9_alarm_37 : decode cX9_alarm 37 = .ok (.iload_n 3, 1) := by decide +kernel
theorem dX9_alarm_38 : decode cX9_alarm 38 = .ok (.ifCond .eq 7, 3) := by decide +kernel
theorem dX9_alarm_41 : decode cX9_alarm 41 = .ok (.iconst 0, 1) := by decide +kernel
theorem dX9_alarm_42 : decode cX9_alarm 42 = .ok (.goto 4, 3) := by decide +kernel
theorem dX9_alarm_45 : decode cX9_alarm 45 = .ok (.iconst 1, 1) := by decide +kernel
theorem dX9_alarm_46 : decode cX9_alarm 46 = .ok (.invokevirtual 71, 3) := by decide +kernel
theorem dX9_alarm_49 : decode cX9_alarm 49 = .ok (.ireturn, 1) := by decide +kernel
theorem dX9_calm_0 : decode cX9_calm 0 = .ok (.iload_n 1, 1) := by decide +kernel
theorem dX9_calm_1 : decode cX9_calm 1 = .ok (.iconst 4, 1) := by decide +kernel
theorem dX9_calm_2 : decode cX9_calm 2 = .ok (.invokestatic 59, 3) := by decide +kernel
theorem dX9_calm_5 : decode cX9_calm 5 = .ok (.ifCond .ne 10, 3) := by decide +kernel
theorem dX9_calm_8 : decode cX9_calm 8 = .ok (.aload_n 0, 1) := by decide +kernel
theorem dX9_calm_9 : decode cX9_calm 9 = .ok (.bipush (-2), 2) := by decide +kernel
theorem dX9_calm_11 : decode cX9_calm 11 = .ok (.invokevirtual 63, 3) := by decide +kernel
theorem dX9_calm_14 : decode cX9_calm 14 = .ok (.ireturn, 1) := by decide +kernel
theorem dX9_calm_15 : decode cX9_calm 15 = .ok (.aload_n 0, 1) := by decide +kernel
theorem dX9_calm_16 : decode cX9_calm 16 = .ok (.getfield 33, 3) := by decide +kernel
theorem dX9_calm_19 : decode cX9_calm 19 = .ok (.iload_n 1, 1) := by decide +kernel
theorem dX9_calm_20 : decode cX9_calm 20 = .ok (.baload, 1) := by decide +kernel
theorem dX9_calm_21 : decode cX9_calm 21 = .ok (.istore_n 2, 1) := by decide +kernel
theorem dX9_calm_22 : decode cX9_calm 22 = .ok (.aload_n 0, 1) := by decide +kernel
theorem dX9_calm_23 : decode cX9_calm 23 = .ok (.getfield 33, 3) := by decide +kernel
theorem dX9_calm_26 : decode cX9_calm 26 = .ok (.iload_n 1, 1) := by decide +kernel
theorem dX9_calm_27 : decode cX9_calm 27 = .ok (.iconst 0, 1) := by decide +kernel
theorem dX9_calm_28 : decode cX9_calm 28 = .ok (.bastore, 1) := by decide +kernel
theorem dX9_calm_29 : decode cX9_calm 29 = .ok (.aload_n 0, 1) := by decide +kernel
theorem dX9_calm_30 : decode cX9_calm 30 = .ok (.iload_n 2, 1) := by decide +kernel
theorem dX9_calm_31 : decode cX9_calm 31 = .ok (.ifCond .eq 7, 3) := by decide +kernel
theorem dX9_calm_34 : decode cX9_calm 34 = .ok (.iconst 1, 1) := by decide +kernel
theorem dX9_calm_35 : decode cX9_calm 35 = .ok (.goto 4, 3) := by decide +kernel
theorem dX9_calm_38 : decode cX9_calm 38 = .ok (.iconst 0, 1) := by decide +kernel
theorem dX9_calm_39 : decode cX9_calm 39 = .ok (.invokevirtual 71, 3) := by decide +kernel
theorem dX9_calm_42 : decode cX9_calm 42 = .ok (.ireturn, 1) := by decide +kernel
theorem dX9_let_0 : decode cX9_let 0 = .ok (.iload_n 1, 1) := by decide +kernel
theorem dX9_let_1 : decode cX9_let 1 = .ok (.iconst 4, 1) := by decide +kernel
theorem dX9_let_2 : decode cX9_let 2 = .ok (.invokestatic 59, 3) := by decide +kernel
theorem dX9_let_5 : decode cX9_let 5 = .ok (.ifCond .ne 10, 3) := by decide +kernel
theorem dX9_let_8 : decode cX9_let 8 = .ok (.aload_n 0, 1) := by decide +kernel
theorem dX9_let_9 : decode cX9_let 9 = .ok (.bipush (-2), 2) := by decide +kernel
theorem dX9_let_11 : decode cX9_let 11 = .ok (.invokevirtual 63, 3) := by decide +kernel
theorem dX9_let_14 : decode cX9_let 14 = .ok (.ireturn, 1) := by decide +kernel
theorem dX9_let_15 : decode cX9_let 15 = .ok (.aload_n 0, 1) := by decide +kernel
theorem dX9_let_16 : decode cX9_let 16 = .ok (.getfield 33, 3) := by decide +kernel
theorem dX9_let_19 : decode cX9_let 19 = .ok (.iload_n 1, 1) := by decide +kernel
theorem dX9_let_20 : decode cX9_let 20 = .ok (.baload, 1) := by decide +kernel
theorem dX9_let_21 : decode cX9_let 21 = .ok (.ifCond .ne 9, 3) := by decide +kernel
theorem dX9_let_24 : decode cX9_let 24 = .ok (.aload_n 0, 1) := by decide +kernel
theorem dX9_let_25 : decode cX9_let 25 = .ok (.iconst 1, 1) := by decide +kernel
theorem dX9_let_26 : decode cX9_let 26 = .ok (.invokevirtual 78, 3) := by decide +kernel
theorem dX9_let_29 : decode cX9_let 29 = .ok (.ireturn, 1) := by decide +kernel
theorem dX9_let_30 : decode cX9_let 30 = .ok (.aload_n 0, 1) := by decide +kernel
theorem dX9_let_31 : decode cX9_let 31 = .ok (.bipush 6, 2) := by decide +kernel
theorem dX9_let_33 : decode cX9_let 33 = .ok (.invokevirtual 78, 3) := by decide +kernel
theorem dX9_let_36 : decode cX9_let 36 = .ok (.istore_n 2, 1) := by decide +kernel
theorem dX9_let_37 : decode cX9_let 37 = .ok (.aload_n 0, 1) := by decide +kernel
theorem dX9_let_38 : decode cX9_let 38 = .ok (.aload_n 0, 1) := by decide +kernel
theorem dX9_let_39 : decode cX9_let 39 = .ok (.getfield 37, 3) := by decide +kernel
theorem dX9_let_42 : decode cX9_let 42 = .ok (.iload_n 1, 1) := by decide +kernel
theorem dX9_let_43 : decode cX9_let 43 = .ok (.iaload, 1) := by decide +kernel
theorem dX9_let_44 : decode cX9_let 44 = .ok (.putfield 51, 3) := by decide +kernel
theorem dX9_let_47 : decode cX9_let 47 = .ok (.iload_n 2, 1) := by decide +kernel
theorem dX9_let_48 : decode cX9_let 48 = .ok (.ireturn, 1) := by decide +kernel
theorem dX9_why_0 : decode cX9_why 0 = .ok (.aload_n 0, 1) := by decide +kernel
theorem dX9_why_1 : decode cX9_why 1 = .ok (.getfield 51, 3) := by decide +kernel
theorem dX9_why_4 : decode cX9_why 4 = .ok (.ireturn, 1) := by decide +kernel
theorem dX9_count_0 : decode cX9_count 0 = .ok (.iload_n 1, 1) := by decide +kernel
theorem dX9_count_1 : decode cX9_count 1 = .ok (.ifCond .ne 8, 3) := by decide +kernel
theorem dX9_count_4 : decode cX9_count 4 = .ok (.aload_n 0, 1) := by decide +kernel
theorem dX9_count_5 : decode cX9_count 5 = .ok (.getfield 44, 3) := by decide +kernel
theorem dX9_count_8 : decode cX9_count 8 = .ok (.ireturn, 1) := by decide +kernel
theorem dX9_count_9 : decode cX9_count 9 = .ok (.iload_n 1, 1) := by decide +kernel
theorem dX9_count_10 : decode cX9_count 10 = .ok (.bipush 7, 2) := by decide +kernel
theorem dX9_count_12 : decode cX9_count 12 = .ok (.if_icmp .ne 8, 3) := by decide +kernel
theorem dX9_count_15 : decode cX9_count 15 = .ok (.aload_n 0, 1) := by decide +kernel
theorem dX9_count_16 : decode cX9_count 16 = .ok (.getfield 48, 3) := by decide +kernel
theorem dX9_count_19 : decode cX9_count 19 = .ok (.ireturn, 1) := by decide +kernel
theorem dX9_count_20 : decode cX9_count 20 = .ok (.iload_n 1, 1) := by decide +kernel
theorem dX9_count_21 : decode cX9_count 21 = .ok (.iconst 1, 1) := by decide +kernel
theorem dX9_count_22 : decode cX9_count 22 = .ok (.if_icmp .lt 18, 3) := by decide +kernel
theorem dX9_count_25 : decode cX9_count 25 = .ok (.iload_n 1, 1) := by decide +kernel
theorem dX9_count_26 : decode cX9_count 26 = .ok (.bipush 6, 2) := by decide +kernel
theorem dX9_count_28 : decode cX9_count 28 = .ok (.if_icmp .gt 12, 3) := by decide +kernel
theorem dX9_count_31 : decode cX9_count 31 = .ok (.aload_n 0, 1) := by decide +kernel
theorem dX9_count_32 : decode cX9_count 32 = .ok (.getfield 41, 3) := by decide +kernel
theorem dX9_count_35 : decode cX9_count 35 = .ok (.iload_n 1, 1) := by decide +kernel
theorem dX9_count_36 : decode cX9_count 36 = .ok (.iaload, 1) := by decide +kernel
theorem dX9_count_37 : decode cX9_count 37 = .ok (.goto 5, 3) := by decide +kernel
theorem dX9_count_40 : decode cX9_count 40 = .ok (.bipush (-3), 2) := by decide +kernel
theorem dX9_count_42 : decode cX9_count 42 = .ok (.ireturn, 1) := by decide +kernel
theorem dX9_done_0 : decode cX9_done 0 = .ok (.aload_n 0, 1) := by decide +kernel
theorem dX9_done_1 : decode cX9_done 1 = .ok (.iconst 0, 1) := by decide +kernel
theorem dX9_done_2 : decode cX9_done 2 = .ok (.putfield 51, 3) := by decide +kernel
theorem dX9_done_5 : decode cX9_done 5 = .ok (.iload_n 1, 1) := by decide +kernel
theorem dX9_done_6 : decode cX9_done 6 = .ok (.ireturn, 1) := by decide +kernel
theorem dX9_refuse_0 : decode cX9_refuse 0 = .ok (.aload_n 0, 1) := by decide +kernel
theorem dX9_refuse_1 : decode cX9_refuse 1 = .ok (.iload_n 1, 1) := by decide +kernel
theorem dX9_refuse_2 : decode cX9_refuse 2 = .ok (.putfield 51, 3) := by decide +kernel
theorem dX9_refuse_5 : decode cX9_refuse 5 = .ok (.iload_n 1, 1) := by decide +kernel
theorem dX9_refuse_6 : decode cX9_refuse 6 = .ok (.ireturn, 1) := by decide +kernel
theorem dX9_fail_0 : decode cX9_fail 0 = .ok (.aload_n 0, 1) := by decide +kernel
theorem dX9_fail_1 : decode cX9_fail 1 = .ok (.getfield 41, 3) := by decide +kernel
theorem dX9_fail_4 : decode cX9_fail 4 = .ok (.iload_n 1, 1) := by decide +kernel
theorem dX9_fail_5 : decode cX9_fail 5 = .ok (.dup2, 1) := by decide +kernel
theorem dX9_fail_6 : decode cX9_fail 6 = .ok (.iaload, 1) := by decide +kernel
theorem dX9_fail_7 : decode cX9_fail 7 = .ok (.iconst 1, 1) := by decide +kernel
theorem dX9_fail_8 : decode cX9_fail 8 = .ok (.iadd, 1) := by decide +kernel
theorem dX9_fail_9 : decode cX9_fail 9 = .ok (.iastore, 1) := by decide +kernel
theorem dX9_fail_10 : decode cX9_fail 10 = .ok (.aload_n 0, 1) := by decide +kernel
theorem dX9_fail_11 : decode cX9_fail 11 = .ok (.iload_n 1, 1) := by decide +kernel
theorem dX9_fail_12 : decode cX9_fail 12 = .ok (.putfield 44, 3) := by decide +kernel
theorem dX9_fail_15 : decode cX9_fail 15 = .ok (.aload_n 0, 1) := by decide +kernel
theorem dX9_fail_16 : decode cX9_fail 16 = .ok (.bipush (-10), 2) := by decide +kernel
theorem dX9_fail_18 : decode cX9_fail 18 = .ok (.iload_n 1, 1) := by decide +kernel
theorem dX9_fail_19 : decode cX9_fail 19 = .ok (.isub, 1) := by decide +kernel
theorem dX9_fail_20 : decode cX9_fail 20 = .ok (.invokevirtual 63, 3) := by decide +kernel
theorem dX9_fail_23 : decode cX9_fail 23 = .ok (.ireturn, 1) := by decide +kernel
theorem dX9_refuseWithZero_0 : decode cX9_refuseWithZero 0 = .ok (.aload_n 0, 1) := by decide +kernel
theorem dX9_refuseWithZero_1 : decode cX9_refuseWithZero 1 = .ok (.iload_n 1, 1) := by decide +kernel
theorem dX9_refuseWithZero_2 : decode cX9_refuseWithZero 2 = .ok (.invokevirtual 63, 3) := by decide +kernel
theorem dX9_refuseWithZero_5 : decode cX9_refuseWithZero 5 = .ok (.pop, 1) := by decide +kernel
theorem dX9_refuseWithZero_6 : decode cX9_refuseWithZero 6 = .ok (.iconst 0, 1) := by decide +kernel
theorem dX9_refuseWithZero_7 : decode cX9_refuseWithZero 7 = .ok (.ireturn, 1) := by decide +kernel
theorem dX9_failWithZero_0 : decode cX9_failWithZero 0 = .ok (.aload_n 0, 1) := by decide +kernel
theorem dX9_failWithZero_1 : decode cX9_failWithZero 1 = .ok (.iload_n 1, 1) := by decide +kernel
theorem dX9_failWithZero_2 : decode cX9_failWithZero 2 = .ok (.invokevirtual 78, 3) := by decide +kernel
theorem dX9_failWithZero_5 : decode cX9_failWithZero 5 = .ok (.pop, 1) := by decide +kernel
theorem dX9_failWithZero_6 : decode cX9_failWithZero 6 = .ok (.iconst 0, 1) := by decide +kernel
theorem dX9_failWithZero_7 : decode cX9_failWithZero 7 = .ok (.ireturn, 1) := by decide +kernel
theorem dX9_isWithin_0 : decode cX9_isWithin 0 = .ok (.iload_n 0, 1) := by decide +kernel
theorem dX9_isWithin_1 : decode cX9_isWithin 1 = .ok (.ifCond .lt 12, 3) := by decide +kernel
theorem dX9_isWithin_4 : decode cX9_isWithin 4 = .ok (.iload_n 0, 1) := by decide +kernel
theorem dX9_isWithin_5 : decode cX9_isWithin 5 = .ok (.iload_n 1, 1) := by decide +kernel
theorem dX9_isWithin_6 : decode cX9_isWithin 6 = .ok (.if_icmp .ge 7, 3) := by decide +kernel
theorem dX9_isWithin_9 : decode cX9_isWithin 9 = .ok (.iconst 1, 1) := by decide +kernel
theorem dX9_isWithin_10 : decode cX9_isWithin 10 = .ok (.goto 4, 3) := by decide +kernel
theorem dX9_isWithin_13 : decode cX9_isWithin 13 = .ok (.iconst 0, 1) := by decide +kernel
theorem dX9_isWithin_14 : decode cX9_isWithin 14 = .ok (.ireturn, 1) := by decide +kernel
