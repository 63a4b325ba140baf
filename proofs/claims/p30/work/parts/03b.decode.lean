theorem dX4_current_35 : decode cX4_current 35 = .ok (.caload, 1) := by decide +kernel
theorem dX4_current_36 : decode cX4_current 36 = .ok (.goto 4, 3) := by decide +kernel
theorem dX4_current_39 : decode cX4_current 39 = .ok (.iconst (-1), 1) := by decide +kernel
theorem dX4_current_40 : decode cX4_current 40 = .ok (.ireturn, 1) := by decide +kernel
theorem dX4_blameCurrent_0 : decode cX4_blameCurrent 0 = .ok (.aload_n 0, 1) := by decide +kernel
theorem dX4_blameCurrent_1 : decode cX4_blameCurrent 1 = .ok (.aload_n 0, 1) := by decide +kernel
theorem dX4_blameCurrent_2 : decode cX4_blameCurrent 2 = .ok (.getfield 24, 3) := by decide +kernel
theorem dX4_blameCurrent_5 : decode cX4_blameCurrent 5 = .ok (.aload_n 0, 1) := by decide +kernel
theorem dX4_blameCurrent_6 : decode cX4_blameCurrent 6 = .ok (.getfield 24, 3) := by decide +kernel
theorem dX4_blameCurrent_9 : decode cX4_blameCurrent 9 = .ok (.aload_n 0, 1) := by decide +kernel
theorem dX4_blameCurrent_10 : decode cX4_blameCurrent 10 = .ok (.getfield 20, 3) := by decide +kernel
theorem dX4_blameCurrent_13 : decode cX4_blameCurrent 13 = .ok (.if_icmp .ge 7, 3) := by decide +kernel
theorem dX4_blameCurrent_16 : decode cX4_blameCurrent 16 = .ok (.iconst 1, 1) := by decide +kernel
theorem dX4_blameCurrent_17 : decode cX4_blameCurrent 17 = .ok (.goto 4, 3) := by decide +kernel
theorem dX4_blameCurrent_20 : decode cX4_blameCurrent 20 = .ok (.iconst 3, 1) := by decide +kernel
theorem dX4_blameCurrent_21 : decode cX4_blameCurrent 21 = .ok (.invokevirtual 50, 3) := by decide +kernel
theorem dX4_blameCurrent_24 : decode cX4_blameCurrent 24 = .ok (.return_, 1) := by decide +kernel
theorem dX4_blame_0 : decode cX4_blame 0 = .ok (.aload_n 0, 1) := by decide +kernel
theorem dX4_blame_1 : decode cX4_blame 1 = .ok (.iload_n 1, 1) := by decide +kernel
theorem dX4_blame_2 : decode cX4_blame 2 = .ok (.putfield 27, 3) := by decide +kernel
theorem dX4_blame_5 : decode cX4_blame 5 = .ok (.aload_n 0, 1) := by decide +kernel
theorem dX4_blame_6 : decode cX4_blame 6 = .ok (.iload_n 2, 1) := by decide +kernel
theorem dX4_blame_7 : decode cX4_blame 7 = .ok (.putfield 30, 3) := by decide +kernel
theorem dX4_blame_10 : decode cX4_blame 10 = .ok (.return_, 1) := by decide +kernel
theorem dX4_isDigit_0 : decode cX4_isDigit 0 = .ok (.iload_n 0, 1) := by decide +kernel
theorem dX4_isDigit_1 : decode cX4_isDigit 1 = .ok (.bipush 48, 2) := by decide +kernel
theorem dX4_isDigit_3 : decode cX4_isDigit 3 = .ok (.if_icmp .lt 13, 3) := by decide +kernel
theorem dX4_isDigit_6 : decode cX4_isDigit 6 = .ok (.iload_n 0, 1) := by decide +kernel
theorem dX4_isDigit_7 : decode cX4_isDigit 7 = .ok (.bipush 57, 2) := by decide +kernel
theorem dX4_isDigit_9 : decode cX4_isDigit 9 = .ok (.if_icmp .gt 7, 3) := by decide +kernel
theorem dX4_isDigit_12 : decode cX4_isDigit 12 = .ok (.iconst 1, 1) := by decide +kernel
theorem dX4_isDigit_13 : decode cX4_isDigit 13 = .ok (.goto 4, 3) := by decide +kernel
theorem dX4_isDigit_16 : decode cX4_isDigit 16 = .ok (.iconst 0, 1) := by decide +kernel
theorem dX4_isDigit_17 : decode cX4_isDigit 17 = .ok (.ireturn, 1) := by decide +kernel
theorem dX4_kindOf_0 : decode cX4_kindOf 0 = .ok (.iload_n 0, 1) := by decide +kernel
theorem dX4_kindOf_1 : decode cX4_kindOf 1 = .ok (.lookupswitch 51 #[(102, 47), (109, 43), (112, 49), (114, 45)], 43) := by decide +kernel
theorem dX4_kindOf_44 : decode cX4_kindOf 44 = .ok (.iconst 0, 1) := by decide +kernel
theorem dX4_kindOf_45 : decode cX4_kindOf 45 = .ok (.ireturn, 1) := by decide +kernel
theorem dX4_kindOf_46 : decode cX4_kindOf 46 = .ok (.iconst 1, 1) := by decide +kernel
theorem dX4_kindOf_47 : decode cX4_kindOf 47 = .ok (.ireturn, 1) := by decide +kernel
theorem dX4_kindOf_48 : decode cX4_kindOf 48 = .ok (.iconst 2, 1) := by decide +kernel
theorem dX4_kindOf_49 : decode cX4_kindOf 49 = .ok (.ireturn, 1) := by decide +kernel
theorem dX4_kindOf_50 : decode cX4_kindOf 50 = .ok (.iconst 3, 1) := by decide +kernel
theorem dX4_kindOf_51 : decode cX4_kindOf 51 = .ok (.ireturn, 1) := by decide +kernel
theorem dX4_kindOf_52 : decode cX4_kindOf 52 = .ok (.iconst (-1), 1) := by decide +kernel
theorem dX4_kindOf_53 : decode cX4_kindOf 53 = .ok (.ireturn, 1) := by decide +kernel
theorem dX5_init_0 : decode cX5_init 0 = .ok (.aload_n 0, 1) := by decide +kernel
theorem dX5_init_1 : decode cX5_init 1 = .ok (.invokespecial 3, 3) := by decide +kernel
theorem dX5_init_4 : decode cX5_init 4 = .ok (.return_, 1) := by decide +kernel
theorem dX5_reset_0 : decode cX5_reset 0 = .ok (.aload_n 0, 1) := by decide +kernel
theorem dX5_reset_1 : decode cX5_reset 1 = .ok (.iload_n 1, 1) := by decide +kernel
theorem dX5_reset_2 : decode cX5_reset 2 = .ok (.putfield 9, 3) := by decide +kernel
theorem dX5_reset_5 : decode cX5_reset 5 = .ok (.aload_n 0, 1) := by decide +kernel
theorem dX5_reset_6 : decode cX5_reset 6 = .ok (.iload_n 2, 1) := by decide +kernel
theorem dX5_reset_7 : decode cX5_reset 7 = .ok (.putfield 15, 3) := by decide +kernel
theorem dX5_reset_10 : decode cX5_reset 10 = .ok (.aload_n 0, 1) := by decide +kernel
theorem dX5_reset_11 : decode cX5_reset 11 = .ok (.iconst (-1), 1) := by decide +kernel
theorem dX5_reset_12 : decode cX5_reset 12 = .ok (.putfield 18, 3) := by decide +kernel
theorem dX5_reset_15 : decode cX5_reset 15 = .ok (.aload_n 0, 1) := by decide +kernel
theorem dX5_reset_16 : decode cX5_reset 16 = .ok (.iconst 0, 1) := by decide +kernel
theorem dX5_reset_17 : decode cX5_reset 17 = .ok (.putfield 21, 3) := by decide +kernel
theorem dX5_reset_20 : decode cX5_reset 20 = .ok (.aload_n 0, 1) := by decide +kernel
theorem dX5_reset_21 : decode cX5_reset 21 = .ok (.iconst 0, 1) := by decide +kernel
theorem dX5_reset_22 : decode cX5_reset 22 = .ok (.putfield 24, 3) := by decide +kernel
theorem dX5_reset_25 : decode cX5_reset 25 = .ok (.aload_n 0, 1) := by decide +kernel
theorem dX5_reset_26 : decode cX5_reset 26 = .ok (.iconst 0, 1) := by decide +kernel
theorem dX5_reset_27 : decode cX5_reset 27 = .ok (.putfield 27, 3) := by decide +kernel
theorem dX5_reset_30 : decode cX5_reset 30 = .ok (.return_, 1) := by decide +kernel
theorem dX5_copyFrom_0 : decode cX5_copyFrom 0 = .ok (.aload_n 0, 1) := by decide +kernel
theorem dX5_copyFrom_1 : decode cX5_copyFrom 1 = .ok (.aload_n 1, 1) := by decide +kernel
theorem dX5_copyFrom_2 : decode cX5_copyFrom 2 = .ok (.getfield 9, 3) := by decide +kernel
theorem dX5_copyFrom_5 : decode cX5_copyFrom 5 = .ok (.putfield 9, 3) := by decide +kernel
theorem dX5_copyFrom_8 : decode cX5_copyFrom 8 = .ok (.aload_n 0, 1) := by decide +kernel
theorem dX5_copyFrom_9 : decode cX5_copyFrom 9 = .ok (.aload_n 1, 1) := by decide +kernel
theorem dX5_copyFrom_10 : decode cX5_copyFrom 10 = .ok (.getfield 15, 3) := by decide +kernel
theorem dX5_copyFrom_13 : decode cX5_copyFrom 13 = .ok (.putfield 15, 3) := by decide +kernel
theorem dX5_copyFrom_16 : decode cX5_copyFrom 16 = .ok (.aload_n 0, 1) := by decide +kernel
theorem dX5_copyFrom_17 : decode cX5_copyFrom 17 = .ok (.aload_n 1, 1) := by decide +kernel
theorem dX5_copyFrom_18 : decode cX5_copyFrom 18 = .ok (.getfield 18, 3) := by decide +kernel
theorem dX5_copyFrom_21 : decode cX5_copyFrom 21 = .ok (.putfield 18, 3) := by decide +kernel
theorem dX5_copyFrom_24 : decode cX5_copyFrom 24 = .ok (.aload_n 0, 1) := by decide +kernel
theorem dX5_copyFrom_25 : decode cX5_copyFrom 25 = .ok (.aload_n 1, 1) := by decide +kernel
theorem dX5_copyFrom_26 : decode cX5_copyFrom 26 = .ok (.getfield 21, 3) := by decide +kernel
theorem dX5_copyFrom_29 : decode cX5_copyFrom 29 = .ok (.putfield 21, 3) := by decide +kernel
theorem dX5_copyFrom_32 : decode cX5_copyFrom 32 = .ok (.aload_n 0, 1) := by decide +kernel
theorem dX5_copyFrom_33 : decode cX5_copyFrom 33 = .ok (.aload_n 1, 1) := by decide +kernel
theorem dX5_copyFrom_34 : decode cX5_copyFrom 34 = .ok (.getfield 24, 3) := by decide +kernel
theorem dX5_copyFrom_37 : decode cX5_copyFrom 37 = .ok (.putfield 24, 3) := by decide +kernel
theorem dX5_copyFrom_40 : decode cX5_copyFrom 40 = .ok (.aload_n 0, 1) := by decide +kernel
theorem dX5_copyFrom_41 : decode cX5_copyFrom 41 = .ok (.aload_n 1, 1) := by decide +kernel
theorem dX5_copyFrom_42 : decode cX5_copyFrom 42 = .ok (.getfield 27, 3) := by decide +kernel
theorem dX5_copyFrom_45 : decode cX5_copyFrom 45 = .ok (.putfield 27, 3) := by decide +kernel
theorem dX5_copyFrom_48 : decode cX5_copyFrom 48 = .ok (.return_, 1) := by decide +kernel
theorem dX5_isFreeAfter_0 : decode cX5_isFreeAfter 0 = .ok (.aload_n 0, 1) := by decide +kernel
theorem dX5_isFreeAfter_1 : decode cX5_isFreeAfter 1 = .ok (.getfield 18, 3) := by decide +kernel
theorem dX5_isFreeAfter_4 : decode cX5_isFreeAfter 4 = .ok (.iconst (-1), 1) := by decide +kernel
theorem dX5_isFreeAfter_5 : decode cX5_isFreeAfter 5 = .ok (.if_icmp .ne 22, 3) := by decide +kernel
theorem dX5_isFreeAfter_8 : decode cX5_isFreeAfter 8 = .ok (.aload_n 0, 1) := by decide +kernel
theorem dX5_isFreeAfter_9 : decode cX5_isFreeAfter 9 = .ok (.getfield 27, 3) := by decide +kernel
theorem dX5_isFreeAfter_12 : decode cX5_isFreeAfter 12 = .ok (.ifCond .ne 15, 3) := by decide +kernel
theorem dX5_isFreeAfter_15 : decode cX5_isFreeAfter 15 = .ok (.aload_n 0, 1) := by decide +kernel
theorem dX5_isFreeAfter_16 : decode cX5_isFreeAfter 16 = .ok (.getfield 21, 3) := by decide +kernel
theorem dX5_isFreeAfter_19 : decode cX5_isFreeAfter 19 = .ok (.iload_n 1, 1) := by decide +kernel
theorem dX5_isFreeAfter_20 : decode cX5_isFreeAfter 20 = .ok (.if_icmp .gt 7, 3) := by decide +kernel
theorem dX5_isFreeAfter_23 : decode cX5_isFreeAfter 23 = .ok (.iconst 1, 1) := by decide +kernel
theorem dX5_isFreeAfter_24 : decode cX5_isFreeAfter 24 = .ok (.goto 4, 3) := by decide +kernel
theorem dX5_isFreeAfter_27 : decode cX5_isFreeAfter 27 = .ok (.iconst 0, 1) := by decide +kernel
theorem dX5_isFreeAfter_28 : decode cX5_isFreeAfter 28 = .ok (.ireturn, 1) := by decide +kernel
theorem dX6_init_0 : decode cX6_init 0 = .ok (.aload_n 0, 1) := by decide +kernel
theorem dX6_init_1 : decode cX6_init 1 = .ok (.invokespecial 1, 3) := by decide +kernel
theorem dX6_init_4 : decode cX6_init 4 = .ok (.aload_n 0, 1) := by decide +kernel
theorem dX6_init_5 : decode cX6_init 5 = .ok (.new 7, 3) := by decide +kernel
theorem dX6_init_8 : decode cX6_init 8 = .ok (.dup, 1) := by decide +kernel
theorem dX6_init_9 : decode cX6_init 9 = .ok (.invokespecial 9, 3) := by decide +kernel
theorem dX6_init_12 : decode cX6_init 12 = .ok (.putfield 10, 3) := by decide +kernel
theorem dX6_init_15 : decode cX6_init 15 = .ok (.aload_n 0, 1) := by decide +kernel
theorem dX6_init_16 : decode cX6_init 16 = .ok (.new 16, 3) := by decide +kernel
theorem dX6_init_19 : decode cX6_init 19 = .ok (.dup, 1) := by decide +kernel
theorem dX6_init_20 : decode cX6_init 20 = .ok (.invokespecial 18, 3) := by decide +kernel
theorem dX6_init_23 : decode cX6_init 23 = .ok (.putfield 19, 3) := by decide +kernel
theorem dX6_init_26 : decode cX6_init 26 = .ok (.aload_n 0, 1) := by decide +kernel
theorem dX6_init_27 : decode cX6_init 27 = .ok (.new 23, 3) := by decide +kernel
theorem dX6_init_30 : decode cX6_init 30 = .ok (.dup, 1) := by decide +kernel
theorem dX6_init_31 : decode cX6_init 31 = .ok (.aload_n 0, 1) := by decide +kernel
theorem dX6_init_32 : decode cX6_init 32 = .ok (.getfield 10, 3) := by decide +kernel
theorem dX6_init_35 : decode cX6_init 35 = .ok (.invokespecial 25, 3) := by decide +kernel
theorem dX6_init_38 : decode cX6_init 38 = .ok (.putfield 28, 3) := by decide +kernel
theorem dX6_init_41 : decode cX6_init 41 = .ok (.aload_n 0, 1) := by decide +kernel
theorem dX6_init_42 : decode cX6_init 42 = .ok (.new 23, 3) := by decide +kernel
theorem dX6_init_45 : decode cX6_init 45 = .ok (.dup, 1) := by decide +kernel
theorem dX6_init_46 : decode cX6_init 46 = .ok (.aload_n 0, 1) := by decide +kernel
theorem dX6_init_47 : decode cX6_init 47 = .ok (.getfield 10, 3) := by decide +kernel
theorem dX6_init_50 : decode cX6_init 50 = .ok (.invokespecial 25, 3) := by decide +kernel
theorem dX6_init_53 : decode cX6_init 53 = .ok (.putfield 32, 3) := by decide +kernel
theorem dX6_init_56 : decode cX6_init 56 = .ok (.aload_n 0, 1) := by decide +kernel
theorem dX6_init_57 : decode cX6_init 57 = .ok (.iconst 4, 1) := by decide +kernel
theorem dX6_init_58 : decode cX6_init 58 = .ok (.anewarray 23, 3) := by decide +kernel
theorem dX6_init_61 : decode cX6_init 61 = .ok (.putfield 35, 3) := by decide +kernel
theorem dX6_init_64 : decode cX6_init 64 = .ok (.iconst 0, 1) := by decide +kernel
theorem dX6_init_65 : decode cX6_init 65 = .ok (.istore_n 1, 1) := by decide +kernel
theorem dX6_init_66 : decode cX6_init 66 = .ok (.iload_n 1, 1) := by decide +kernel
theorem dX6_init_67 : decode cX6_init 67 = .ok (.iconst 4, 1) := by decide +kernel
theorem dX6_init_68 : decode cX6_init 68 = .ok (.if_icmp .ge 26, 3) := by decide +kernel
theorem dX6_init_71 : decode cX6_init 71 = .ok (.aload_n 0, 1) := by decide +kernel
theorem dX6_init_72 : decode cX6_init 72 = .ok (.getfield 35, 3) := by decide +kernel
theorem dX6_init_75 : decode cX6_init 75 = .ok (.iload_n 1, 1) := by decide +kernel
theorem dX6_init_76 : decode cX6_init 76 = .ok (.new 23, 3) := by decide +kernel
theorem dX6_init_79 : decode cX6_init 79 = .ok (.dup, 1) := by decide +kernel
theorem dX6_init_80 : decode cX6_init 80 = .ok (.aload_n 0, 1) := by decide +kernel
theorem dX6_init_81 : decode cX6_init 81 = .ok (.getfield 10, 3) := by decide +kernel
theorem dX6_init_84 : decode cX6_init 84 = .ok (.invokespecial 25, 3) := by decide +kernel
theorem dX6_init_87 : decode cX6_init 87 = .ok (.aastore, 1) := by decide +kernel
theorem dX6_init_88 : decode cX6_init 88 = .ok (.iinc 1 1, 3) := by decide +kernel
theorem dX6_init_91 : decode cX6_init 91 = .ok (.goto (-25), 3) := by decide +kernel
theorem dX6_init_94 : decode cX6_init 94 = .ok (.return_, 1) := by decide +kernel
theorem dX6_unit_0 : decode cX6_unit 0 = .ok (.iload_n 1, 1) := by decide +kernel
theorem dX6_unit_1 : decode cX6_unit 1 = .ok (.iconst 0, 1) := by decide +kernel
theorem dX6_unit_2 : decode cX6_unit 2 = .ok (.iconst 3, 1) := by decide +kernel
theorem dX6_unit_3 : decode cX6_unit 3 = .ok (.invokestatic 39, 3) := by decide +kernel
theorem dX6_unit_6 : decode cX6_unit 6 = .ok (.ifCond .eq 14, 3) := by decide +kernel
theorem dX6_unit_9 : decode cX6_unit 9 = .ok (.iload_n 2, 1) := by decide +kernel
theorem dX6_unit_10 : decode cX6_unit 10 = .ok (.iconst 1, 1) := by decide +kernel
theorem dX6_unit_11 : decode cX6_unit 11 = .ok (.sipush 10000, 3) := by decide +kernel
theorem dX6_unit_14 : decode cX6_unit 14 = .ok (.invokestatic 39, 3) := by decide +kernel
theorem dX6_unit_17 : decode cX6_unit 17 = .ok (.ifCond .ne 5, 3) := by decide +kernel
theorem dX6_unit_20 : decode cX6_unit 20 = .ok (.iconst (-1), 1) := by decide +kernel
theorem dX6_unit_21 : decode cX6_unit 21 = .ok (.ireturn, 1) := by decide +kernel
theorem dX6_unit_22 : decode cX6_unit 22 = .ok (.aload_n 0, 1) := by decide +kernel
theorem dX6_unit_23 : decode cX6_unit 23 = .ok (.getfield 28, 3) := by decide +kernel
theorem dX6_unit_26 : decode cX6_unit 26 = .ok (.getfield 43, 3) := by decide +kernel
theorem dX6_unit_29 : decode cX6_unit 29 = .ok (.bipush 8, 2) := by decide +kernel
theorem dX6_unit_31 : decode cX6_unit 31 = .ok (.if_icmp .lt 6, 3) := by decide +kernel
theorem dX6_unit_34 : decode cX6_unit 34 = .ok (.bipush (-3), 2) := by decide +kernel
theorem dX6_unit_36 : decode cX6_unit 36 = .ok (.ireturn, 1) := by decide +kernel
theorem dX6_unit_37 : decode cX6_unit 37 = .ok (.aload_n 0, 1) := by decide +kernel
theorem dX6_unit_38 : decode cX6_unit 38 = .ok (.invokevirtual 47, 3) := by decide +kernel
theorem dX6_unit_41 : decode cX6_unit 41 = .ok (.aload_n 0, 1) := by decide +kernel
theorem dX6_unit_42 : decode cX6_unit 42 = .ok (.getfield 28, 3) := by decide +kernel
theorem dX6_unit_45 : decode cX6_unit 45 = .ok (.iload_n 1, 1) := by decide +kernel
theorem dX6_unit_46 : decode cX6_unit 46 = .ok (.iload_n 2, 1) := by decide +kernel
theorem dX6_unit_47 : decode cX6_unit 47 = .ok (.invokevirtual 50, 3) := by decide +kernel
theorem dX6_unit_50 : decode cX6_unit 50 = .ok (.ireturn, 1) := by decide +kernel
theorem dX6_fail_0 : decode cX6_fail 0 = .ok (.aload_n 0, 1) := by decide +kernel
theorem dX6_fail_1 : decode cX6_fail 1 = .ok (.iload_n 1, 1) := by decide +kernel
theorem dX6_fail_2 : decode cX6_fail 2 = .ok (.invokevirtual 54, 3) := by decide +kernel
theorem dX6_fail_5 : decode cX6_fail 5 = .ok (.ifCond .ne 5, 3) := by decide +kernel
theorem dX6_fail_8 : decode cX6_fail 8 = .ok (.iconst (-1), 1) := by decide +kernel
theorem dX6_fail_9 : decode cX6_fail 9 = .ok (.ireturn, 1) := by decide +kernel
theorem dX6_fail_10 : decode cX6_fail 10 = .ok (.aload_n 0, 1) := by decide +kernel
theorem dX6_fail_11 : decode cX6_fail 11 = .ok (.getfield 28, 3) := by decide +kernel
theorem dX6_fail_14 : decode cX6_fail 14 = .ok (.getfield 58, 3) := by decide +kernel
theorem dX6_fail_17 : decode cX6_fail 17 = .ok (.iload_n 1, 1) := by decide +kernel
theorem dX6_fail_18 : decode cX6_fail 18 = .ok (.aaload, 1) := by decide +kernel
theorem dX6_fail_19 : decode cX6_fail 19 = .ok (.getfield 62, 3) := by decide +kernel
theorem dX6_fail_22 : decode cX6_fail 22 = .ok (.ifCond .eq 6, 3) := by decide +kernel
theorem dX6_fail_25 : decode cX6_fail 25 = .ok (.bipush (-2), 2) := by decide +kernel
theorem dX6_fail_27 : decode cX6_fail 27 = .ok (.ireturn, 1) := by decide +kernel
theorem dX6_fail_28 : decode cX6_fail 28 = .ok (.aload_n 0, 1) := by decide +kernel
theorem dX6_fail_29 : decode cX6_fail 29 = .ok (.invokevirtual 47, 3) := by decide +kernel
theorem dX6_fail_32 : decode cX6_fail 32 = .ok (.aload_n 0, 1) := by decide +kernel
theorem dX6_fail_33 : decode cX6_fail 33 = .ok (.getfield 28, 3) := by decide +kernel
theorem dX6_fail_36 : decode cX6_fail 36 = .ok (.iload_n 1, 1) := by decide +kernel
theorem dX6_fail_37 : decode cX6_fail 37 = .ok (.invokevirtual 68, 3) := by decide +kernel
theorem dX6_fail_40 : decode cX6_fail 40 = .ok (.invokestatic 72, 3) := by decide +kernel
theorem dX6_fail_43 : decode cX6_fail 43 = .ok (.ireturn, 1) := by decide +kernel
theorem dX6_repair_0 : decode cX6_repair 0 = .ok (.aload_n 0, 1) := by decide +kernel
theorem dX6_repair_1 : decode cX6_repair 1 = .ok (.iload_n 1, 1) := by decide +kernel
theorem dX6_repair_2 : decode cX6_repair 2 = .ok (.invokevirtual 54, 3) := by decide +kernel
theorem dX6_repair_5 : decode cX6_repair 5 = .ok (.ifCond .ne 5, 3) := by decide +kernel
theorem dX6_repair_8 : decode cX6_repair 8 = .ok (.iconst (-1), 1) := by decide +kernel
theorem dX6_repair_9 : decode cX6_repair 9 = .ok (.ireturn, 1) := by decide +kernel
theorem dX6_repair_10 : decode cX6_repair 10 = .ok (.aload_n 0, 1) := by decide +kernel
theorem dX6_repair_11 : decode cX6_repair 11 = .ok (.getfield 28, 3) := by decide +kernel
theorem dX6_repair_14 : decode cX6_repair 14 = .ok (.getfield 58, 3) := by decide +kernel
theorem dX6_repair_17 : decode cX6_repair 17 = .ok (.iload_n 1, 1) := by decide +kernel
theorem dX6_repair_18 : decode cX6_repair 18 = .ok (.aaload, 1) := by decide +kernel
theorem dX6_repair_19 : decode cX6_repair 19 = .ok (.getfield 62, 3) := by decide +kernel
theorem dX6_repair_22 : decode cX6_repair 22 = .ok (.ifCond .ne 6, 3) := by decide +kernel
theorem dX6_repair_25 : decode cX6_repair 25 = .ok (.bipush (-2), 2) := by decide +kernel
theorem dX6_repair_27 : decode cX6_repair 27 = .ok (.ireturn, 1) := by decide +kernel
theorem dX6_repair_28 : decode cX6_repair 28 = .ok (.aload_n 0, 1) := by decide +kernel
theorem dX6_repair_29 : decode cX6_repair 29 = .ok (.invokevirtual 47, 3) := by decide +kernel
theorem dX6_repair_32 : decode cX6_repair 32 = .ok (.aload_n 0, 1) := by decide +kernel
theorem dX6_repair_33 : decode cX6_repair 33 = .ok (.getfield 28, 3) := by decide +kernel
theorem dX6_repair_36 : decode cX6_repair 36 = .ok (.getfield 58, 3) := by decide +kernel
theorem dX6_repair_39 : decode cX6_repair 39 = .ok (.iload_n 1, 1) := by decide +kernel
theorem dX6_repair_40 : decode cX6_repair 40 = .ok (.aaload, 1) := by decide +kernel
theorem dX6_repair_41 : decode cX6_repair 41 = .ok (.iconst 0, 1) := by decide +kernel
theorem dX6_repair_42 : decode cX6_repair 42 = .ok (.putfield 62, 3) := by decide +kernel
theorem dX6_repair_45 : decode cX6_repair 45 = .ok (.aload_n 0, 1) := by decide +kernel
theorem dX6_repair_46 : decode cX6_repair 46 = .ok (.getfield 28, 3) := by decide +kernel
theorem dX6_repair_49 : decode cX6_repair 49 = .ok (.invokevirtual 75, 3) := by decide +kernel
theorem dX6_repair_52 : decode cX6_repair 52 = .ok (.ireturn, 1) := by decide +kernel
theorem dX6_unitInfo_0 : decode cX6_unitInfo 0 = .ok (.aload_n 0, 1) := by decide +kernel
theorem dX6_unitInfo_1 : decode cX6_unitInfo 1 = .ok (.iload_n 1, 1) := by decide +kernel
theorem dX6_unitInfo_2 : decode cX6_unitInfo 2 = .ok (.invokevirtual 54, 3) := by decide +kernel
theorem dX6_unitInfo_5 : decode cX6_unitInfo 5 = .ok (.ifCond .ne 5, 3) := by decide +kernel
theorem dX6_unitInfo_8 : decode cX6_unitInfo 8 = .ok (.iconst (-1), 1) := by decide +kernel
theorem dX6_unitInfo_9 : decode cX6_unitInfo 9 = .ok (.ireturn, 1) := by decide +kernel
theorem dX6_unitInfo_10 : decode cX6_unitInfo 10 = .ok (.aload_n 0, 1) := by decide +kernel
theorem dX6_unitInfo_11 : decode cX6_unitInfo 11 = .ok (.getfield 28, 3) := by decide +kernel
theorem dX6_unitInfo_14 : decode cX6_unitInfo 14 = .ok (.getfield 58, 3) := by decide +kernel
theorem dX6_unitInfo_17 : decode cX6_unitInfo 17 = .ok (.iload_n 1, 1) := by decide +kernel
theorem dX6_unitInfo_18 : decode cX6_unitInfo 18 = .ok (.aaload, 1) := by decide +kernel
theorem dX6_unitInfo_19 : decode cX6_unitInfo 19 = .ok (.astore_n 3, 1) := by decide +kernel
theorem dX6_unitInfo_20 : decode cX6_unitInfo 20 = .ok (.iload_n 2, 1) := by decide +kernel
theorem dX6_unitInfo_21 : decode cX6_unitInfo 21 = .ok (.tableswitch 88 0 6 #[43, 48, 53, 61, 69, 74, 79], 43) := by decide +kernel
theorem dX6_unitInfo_64 : decode cX6_unitInfo 64 = .ok (.aload_n 3, 1) := by decide +kernel
theorem dX6_unitInfo_65 : decode cX6_unitInfo 65 = .ok (.getfield 79, 3) := by decide +kernel
theorem dX6_unitInfo_68 : decode cX6_unitInfo 68 = .ok (.ireturn, 1) := by decide +kernel
theorem dX6_unitInfo_69 : decode cX6_unitInfo 69 = .ok (.aload_n 3, 1) := by decide +kernel
theorem dX6_unitInfo_70 : decode cX6_unitInfo 70 = .ok (.getfield 82, 3) := by decide +kernel
theorem dX6_unitInfo_73 : decode cX6_unitInfo 73 = .ok (.ireturn, 1) := by decide +kernel
theorem dX6_unitInfo_74 : decode cX6_unitInfo 74 = .ok (.aload_n 3, 1) := by decide +kernel
theorem dX6_unitInfo_75 : decode cX6_unitInfo 75 = .ok (.getfield 85, 3) := by decide +kernel
theorem dX6_unitInfo_78 : decode cX6_unitInfo 78 = .ok (.invokestatic 72, 3) := by decide +kernel
theorem dX6_unitInfo_81 : decode cX6_unitInfo 81 = .ok (.ireturn, 1) := by decide +kernel
theorem dX6_unitInfo_82 : decode cX6_unitInfo 82 = .ok (.aload_n 3, 1) := by decide +kernel
theorem dX6_unitInfo_83 : decode cX6_unitInfo 83 = .ok (.getfield 62, 3) := by decide +kernel
theorem dX6_unitInfo_86 : decode cX6_unitInfo 86 = .ok (.invokestatic 88, 3) := by decide +kernel
theorem dX6_unitInfo_89 : decode cX6_unitInfo 89 = .ok (.ireturn, 1) := by decide +kernel
theorem dX6_unitInfo_90 : decode cX6_unitInfo 90 = .ok (.aload_n 3, 1) := by decide +kernel
theorem dX6_unitInfo_91 : decode cX6_unitInfo 91 = .ok (.getfield 92, 3) := by decide +kernel
theorem dX6_unitInfo_94 : decode cX6_unitInfo 94 = .ok (.ireturn, 1) := by decide +kernel
theorem dX6_unitInfo_95 : decode cX6_unitInfo 95 = .ok (.aload_n 3, 1) := by decide +kernel
theorem dX6_unitInfo_96 : decode cX6_unitInfo 96 = .ok (.getfield 95, 3) := by decide +kernel
theorem dX6_unitInfo_99 : decode cX6_unitInfo 99 = .ok (.ireturn, 1) := by decide +kernel
theorem dX6_unitInfo_100 : decode cX6_unitInfo 100 = .ok (.aload_n 3, 1) := by decide +kernel
theorem dX6_unitInfo_101 : decode cX6_unitInfo 101 = .ok (.iconst 0, 1) := by decide +kernel
theorem dX6_unitInfo_102 : decode cX6_unitInfo 102 = .ok (.invokevirtual 98, 3) := by decide +kernel
theorem dX6_unitInfo_105 : decode cX6_unitInfo 105 = .ok (.invokestatic 88, 3) := by decide +kernel
theorem dX6_unitInfo_108 : decode cX6_unitInfo 108 = .ok (.ireturn, 1) := by decide +kernel
theorem dX6_unitInfo_109 : decode cX6_unitInfo 109 = .ok (.iconst (-1), 1) := by decide +kernel
theorem dX6_unitInfo_110 : decode cX6_unitInfo 110 = .ok (.ireturn, 1) := by decide +kernel
theorem dX6_shared_0 : decode cX6_shared 0 = .ok (.iload_n 1, 1) := by decide +kernel
theorem dX6_shared_1 : decode cX6_shared 1 = .ok (.invokestatic 101, 3) := by decide +kernel
theorem dX6_shared_4 : decode cX6_shared 4 = .ok (.ifCond .ne 5, 3) := by decide +kernel
theorem dX6_shared_7 : decode cX6_shared 7 = .ok (.iconst (-1), 1) := by decide +kernel
theorem dX6_shared_8 : decode cX6_shared 8 = .ok (.ireturn, 1) := by decide +kernel
theorem dX6_shared_9 : decode cX6_shared 9 = .ok (.aload_n 0, 1) := by decide +kernel
theorem dX6_shared_10 : decode cX6_shared 10 = .ok (.getfield 28, 3) := by decide +kernel
theorem dX6_shared_13 : decode cX6_shared 13 = .ok (.getfield 104, 3) := by decide +kernel
theorem dX6_shared_16 : decode cX6_shared 16 = .ok (.iload_n 1, 1) := by decide +kernel
theorem dX6_shared_17 : decode cX6_shared 17 = .ok (.iaload, 1) := by decide +kernel
theorem dX6_shared_18 : decode cX6_shared 18 = .ok (.invokestatic 72, 3) := by decide +kernel
theorem dX6_shared_21 : decode cX6_shared 21 = .ok (.ireturn, 1) := by decide +kernel
theorem dX6_setCleaning_0 : decode cX6_setCleaning 0 = .ok (.iload_n 1, 1) := by decide +kernel
theorem dX6_setCleaning_1 : decode cX6_setCleaning 1 = .ok (.iconst 0, 1) := by decide +kernel
theorem dX6_setCleaning_2 : decode cX6_setCleaning 2 = .ok (.bipush 30, 2) := by decide +kernel
theorem dX6_setCleaning_4 : decode cX6_setCleaning 4 = .ok (.invokestatic 39, 3) := by decide +kernel
theorem dX6_setCleaning_7 : decode cX6_setCleaning 7 = .ok (.ifCond .ne 5, 3) := by decide +kernel
theorem dX6_setCleaning_10 : decode cX6_setCleaning 10 = .ok (.iconst (-1), 1) := by decide +kernel
theorem dX6_setCleaning_11 : decode cX6_setCleaning 11 = .ok (.ireturn, 1) := by decide +kernel
theorem dX6_setCleaning_12 : decode cX6_setCleaning 12 = .ok (.aload_n 0, 1) := by decide +kernel
theorem dX6_setCleaning_13 : decode cX6_setCleaning 13 = .ok (.invokevirtual 47, 3) := by decide +kernel
theorem dX6_setCleaning_16 : decode cX6_setCleaning 16 = .ok (.aload_n 0, 1) := by decide +kernel
theorem dX6_setCleaning_17 : decode cX6_setCleaning 17 = .ok (.getfield 28, 3) := by decide +kernel
theorem dX6_setCleaning_20 : decode cX6_setCleaning 20 = .ok (.getfield 108, 3) := by decide +kernel
theorem dX6_setCleaning_23 : decode cX6_setCleaning 23 = .ok (.istore_n 2, 1) := by decide +kernel
theorem dX6_setCleaning_24 : decode cX6_setCleaning 24 = .ok (.aload_n 0, 1) := by decide +kernel
theorem dX6_setCleaning_25 : decode cX6_setCleaning 25 = .ok (.getfield 28, 3) := by decide +kernel
theorem dX6_setCleaning_28 : decode cX6_setCleaning 28 = .ok (.iload_n 1, 1) := by decide +kernel
theorem dX6_setCleaning_29 : decode cX6_setCleaning 29 = .ok (.putfield 108, 3) := by decide +kernel
theorem dX6_setCleaning_32 : decode cX6_setCleaning 32 = .ok (.iload_n 2, 1) := by decide +kernel
theorem dX6_setCleaning_33 : decode cX6_setCleaning 33 = .ok (.ireturn, 1) := by decide +kernel
theorem dX6_recipe_0 : decode cX6_recipe 0 = .ok (.iload_n 1, 1) := by decide +kernel
theorem dX6_recipe_1 : decode cX6_recipe 1 = .ok (.invokestatic 109, 3) := by decide +kernel
theorem dX6_recipe_4 : decode cX6_recipe 4 = .ok (.ifCond .ne 5, 3) := by decide +kernel
theorem dX6_recipe_7 : decode cX6_recipe 7 = .ok (.iconst (-1), 1) := by decide +kernel
theorem dX6_recipe_8 : decode cX6_recipe 8 = .ok (.ireturn, 1) := by decide +kernel
theorem dX6_recipe_9 : decode cX6_recipe 9 = .ok (.aload_n 0, 1) := by decide +kernel
theorem dX6_recipe_10 : decode cX6_recipe 10 = .ok (.getfield 19, 3) := by decide +kernel
theorem dX6_recipe_13 : decode cX6_recipe 13 = .ok (.invokevirtual 112, 3) := by decide +kernel
theorem dX6_recipe_16 : decode cX6_recipe 16 = .ok (.aload_n 0, 1) := by decide +kernel
theorem dX6_recipe_17 : decode cX6_recipe 17 = .ok (.getfield 19, 3) := by decide +kernel
theorem dX6_recipe_20 : decode cX6_recipe 20 = .ok (.getfield 115, 3) := by decide +kernel
theorem dX6_recipe_23 : decode cX6_recipe 23 = .ok (.ifCond .eq 6, 3) := by decide +kernel
theorem dX6_recipe_26 : decode cX6_recipe 26 = .ok (.bipush (-2), 2) := by decide +kernel
theorem dX6_recipe_28 : decode cX6_recipe 28 = .ok (.ireturn, 1) := by decide +kernel
theorem dX6_recipe_29 : decode cX6_recipe 29 = .ok (.aload_n 0, 1) := by decide +kernel
theorem dX6_recipe_30 : decode cX6_recipe 30 = .ok (.getfield 28, 3) := by decide +kernel
theorem dX6_recipe_33 : decode cX6_recipe 33 = .ok (.getfield 118, 3) := by decide +kernel
theorem dX6_recipe_36 : decode cX6_recipe 36 = .ok (.iload_n 1, 1) := by decide +kernel
theorem dX6_recipe_37 : decode cX6_recipe 37 = .ok (.iaload, 1) := by decide +kernel
theorem dX6_recipe_38 : decode cX6_recipe 38 = .ok (.bipush 9, 2) := by decide +kernel
theorem dX6_recipe_40 : decode cX6_recipe 40 = .ok (.if_icmp .lt 6, 3) := by decide +kernel
theorem dX6_recipe_43 : decode cX6_recipe 43 = .ok (.bipush (-3), 2) := by decide +kernel
theorem dX6_recipe_45 : decode cX6_recipe 45 = .ok (.ireturn, 1) := by decide +kernel
theorem dX6_recipe_46 : decode cX6_recipe 46 = .ok (.aload_n 0, 1) := by decide +kernel
theorem dX6_recipe_47 : decode cX6_recipe 47 = .ok (.invokevirtual 47, 3) := by decide +kernel
theorem dX6_recipe_50 : decode cX6_recipe 50 = .ok (.aload_n 0, 1) := by decide +kernel
theorem dX6_recipe_51 : decode cX6_recipe 51 = .ok (.getfield 28, 3) := by decide +kernel
theorem dX6_recipe_54 : decode cX6_recipe 54 = .ok (.getfield 118, 3) := by decide +kernel
theorem dX6_recipe_57 : decode cX6_recipe 57 = .ok (.iload_n 1, 1) := by decide +kernel
theorem dX6_recipe_58 : decode cX6_recipe 58 = .ok (.dup2, 1) := by decide +kernel
theorem dX6_recipe_59 : decode cX6_recipe 59 = .ok (.iaload, 1) := by decide +kernel
theorem dX6_recipe_60 : decode cX6_recipe 60 = .ok (.iconst 1, 1) := by decide +kernel
theorem dX6_recipe_61 : decode cX6_recipe 61 = .ok (.iadd, 1) := by decide +kernel
theorem dX6_recipe_62 : decode cX6_recipe 62 = .ok (.iastore, 1) := by decide +kernel
theorem dX6_recipe_63 : decode cX6_recipe 63 = .ok (.aload_n 0, 1) := by decide +kernel
theorem dX6_recipe_64 : decode cX6_recipe 64 = .ok (.getfield 28, 3) := by decide +kernel
theorem dX6_recipe_67 : decode cX6_recipe 67 = .ok (.getfield 118, 3) := by decide +kernel
theorem dX6_recipe_70 : decode cX6_recipe 70 = .ok (.iload_n 1, 1) := by decide +kernel
theorem dX6_recipe_71 : decode cX6_recipe 71 = .ok (.iaload, 1) := by decide +kernel
theorem dX6_recipe_72 : decode cX6_recipe 72 = .ok (.istore_n 2, 1) := by decide +kernel
theorem dX6_recipe_73 : decode cX6_recipe 73 = .ok (.aload_n 0, 1) := by decide +kernel
theorem dX6_recipe_74 : decode cX6_recipe 74 = .ok (.getfield 10, 3) := by decide +kernel
theorem dX6_recipe_77 : decode cX6_recipe 77 = .ok (.iload_n 1, 1) := by decide +kernel
theorem dX6_recipe_78 : decode cX6_recipe 78 = .ok (.iload_n 2, 1) := by decide +kernel
theorem dX6_recipe_79 : decode cX6_recipe 79 = .ok (.invokestatic 121, 3) := by decide +kernel
theorem dX6_recipe_82 : decode cX6_recipe 82 = .ok (.aload_n 0, 1) := by decide +kernel
theorem dX6_recipe_83 : decode cX6_recipe 83 = .ok (.getfield 19, 3) := by decide +kernel
theorem dX6_recipe_86 : decode cX6_recipe 86 = .ok (.invokevirtual 124, 3) := by decide +kernel
theorem dX6_recipe_89 : decode cX6_recipe 89 = .ok (.iload_n 2, 1) := by decide +kernel
theorem dX6_recipe_90 : decode cX6_recipe 90 = .ok (.ireturn, 1) := by decide +kernel
theorem dX6_versions_0 : decode cX6_versions 0 = .ok (.iload_n 1, 1) := by decide +kernel
theorem dX6_versions_1 : decode cX6_versions 1 = .ok (.invokestatic 109, 3) := by decide +kernel
theorem dX6_versions_4 : decode cX6_versions 4 = .ok (.ifCond .eq 15, 3) := by decide +kernel
theorem dX6_versions_7 : decode cX6_versions 7 = .ok (.aload_n 0, 1) := by decide +kernel
theorem dX6_versions_8 : decode cX6_versions 8 = .ok (.getfield 28, 3) := by decide +kernel
theorem dX6_versions_11 : decode cX6_versions 11 = .ok (.getfield 118, 3) := by decide +kernel
theorem dX6_versions_14 : decode cX6_versions 14 = .ok (.iload_n 1, 1) := by decide +kernel
theorem dX6_versions_15 : decode cX6_versions 15 = .ok (.iaload, 1) := by decide +kernel
theorem dX6_versions_16 : decode cX6_versions 16 = .ok (.goto 4, 3) := by decide +kernel
theorem dX6_versions_19 : decode cX6_versions 19 = .ok (.iconst (-1), 1) := by decide +kernel
theorem dX6_versions_20 : decode cX6_versions 20 = .ok (.ireturn, 1) := by decide +kernel
theorem dX6_phase_0 : decode cX6_phase 0 = .ok (.iload_n 1, 1) := by decide +kernel
theorem dX6_phase_1 : decode cX6_phase 1 = .ok (.invokestatic 109, 3) := by decide +kernel
theorem dX6_phase_4 : decode cX6_phase 4 = .ok (.ifCond .eq 20, 3) := by decide +kernel
theorem dX6_phase_7 : decode cX6_phase 7 = .ok (.iload_n 2, 1) := by decide +kernel
theorem dX6_phase_8 : decode cX6_phase 8 = .ok (.iconst 1, 1) := by decide +kernel
theorem dX6_phase_9 : decode cX6_phase 9 = .ok (.aload_n 0, 1) := by decide +kernel
theorem dX6_phase_10 : decode cX6_phase 10 = .ok (.getfield 28, 3) := by decide +kernel
theorem dX6_phase_13 : decode cX6_phase 13 = .ok (.getfield 118, 3) := by decide +kernel
theorem dX6_phase_16 : decode cX6_phase 16 = .ok (.iload_n 1, 1) := by decide +kernel
theorem dX6_phase_17 : decode cX6_phase 17 = .ok (.iaload, 1) := by decide +kernel
theorem dX6_phase_18 : decode cX6_phase 18 = .ok (.invokestatic 39, 3) := by decide +kernel
theorem dX6_phase_21 : decode cX6_phase 21 = .ok (.ifCond .ne 5, 3) := by decide +kernel
theorem dX6_phase_24 : decode cX6_phase 24 = .ok (.iconst (-1), 1) := by decide +kernel
theorem dX6_phase_25 : decode cX6_phase 25 = .ok (.ireturn, 1) := by decide +kernel
theorem dX6_phase_26 : decode cX6_phase 26 = .ok (.iload_n 3, 1) := by decide +kernel
theorem dX6_phase_27 : decode cX6_phase 27 = .ok (.ifCond .lt 13, 3) := by decide +kernel
theorem dX6_phase_30 : decode cX6_phase 30 = .ok (.iload 4, 2) := by decide +kernel
theorem dX6_phase_32 : decode cX6_phase 32 = .ok (.iconst 0, 1) := by decide +kernel
theorem dX6_phase_33 : decode cX6_phase 33 = .ok (.iconst 4, 1) := by decide +kernel
theorem dX6_phase_34 : decode cX6_phase 34 = .ok (.invokestatic 39, 3) := by decide +kernel
theorem dX6_phase_37 : decode cX6_phase 37 = .ok (.ifCond .ne 5, 3) := by decide +kernel
theorem dX6_phase_40 : decode cX6_phase 40 = .ok (.iconst (-1), 1) := by decide +kernel
theorem dX6_phase_41 : decode cX6_phase 41 = .ok (.ireturn, 1) := by decide +kernel
theorem dX6_phase_42 : decode cX6_phase 42 = .ok (.aload_n 0, 1) := by decide +kernel
theorem dX6_phase_43 : decode cX6_phase 43 = .ok (.getfield 10, 3) := by decide +kernel
theorem dX6_phase_46 : decode cX6_phase 46 = .ok (.iload_n 1, 1) := by decide +kernel
theorem dX6_phase_47 : decode cX6_phase 47 = .ok (.iload_n 2, 1) := by decide +kernel
theorem dX6_phase_48 : decode cX6_phase 48 = .ok (.invokestatic 121, 3) := by decide +kernel
theorem dX6_phase_51 : decode cX6_phase 51 = .ok (.iload_n 3, 1) := by decide +kernel
theorem dX6_phase_52 : decode cX6_phase 52 = .ok (.iload 4, 2) := by decide +kernel
theorem dX6_phase_54 : decode cX6_phase 54 = .ok (.invokevirtual 128, 3) := by decide +kernel
theorem dX6_phase_57 : decode cX6_phase 57 = .ok (.invokestatic 72, 3) := by decide +kernel
theorem dX6_phase_60 : decode cX6_phase 60 = .ok (.ireturn, 1) := by decide +kernel
theorem dX6_batch_0 : decode cX6_batch 0 = .ok (.iload_n 1, 1) := by decide +kernel
theorem dX6_batch_1 : decode cX6_batch 1 = .ok (.invokestatic 109, 3) := by decide +kernel
theorem dX6_batch_4 : decode cX6_batch 4 = .ok (.ifCond .eq 21, 3) := by decide +kernel
theorem dX6_batch_7 : decode cX6_batch 7 = .ok (.iload_n 2, 1) := by decide +kernel
theorem dX6_batch_8 : decode cX6_batch 8 = .ok (.iconst 1, 1) := by decide +kernel
theorem dX6_batch_9 : decode cX6_batch 9 = .ok (.sipush 10000, 3) := by decide +kernel
theorem dX6_batch_12 : decode cX6_batch 12 = .ok (.invokestatic 39, 3) := by decide +kernel
theorem dX6_batch_15 : decode cX6_batch 15 = .ok (.ifCond .eq 10, 3) := by decide +kernel
theorem dX6_batch_18 : decode cX6_batch 18 = .ok (.iload_n 3, 1) := by decide +kernel
theorem dX6_batch_19 : decode cX6_batch 19 = .ok (.invokestatic 132, 3) := by decide +kernel
theorem dX6_batch_22 : decode cX6_batch 22 = .ok (.ifCond .ne 5, 3) := by decide +kernel
theorem dX6_batch_25 : decode cX6_batch 25 = .ok (.iconst (-1), 1) := by decide +kernel
theorem dX6_batch_26 : decode cX6_batch 26 = .ok (.ireturn, 1) := by decide +kernel
theorem dX6_batch_27 : decode cX6_batch 27 = .ok (.iload 4, 2) := by decide +kernel
theorem dX6_batch_29 : decode cX6_batch 29 = .ok (.iconst (-1), 1) := by decide +kernel
theorem dX6_batch_30 : decode cX6_batch 30 = .ok (.if_icmp .eq 14, 3) := by decide +kernel
theorem dX6_batch_33 : decode cX6_batch 33 = .ok (.aload_n 0, 1) := by decide +kernel
theorem dX6_batch_34 : decode cX6_batch 34 = .ok (.iload 4, 2) := by decide +kernel
theorem dX6_batch_36 : decode cX6_batch 36 = .ok (.invokevirtual 135, 3) := by decide +kernel
theorem dX6_batch_39 : decode cX6_batch 39 = .ok (.ifCond .ne 5, 3) := by decide +kernel
theorem dX6_batch_42 : decode cX6_batch 42 = .ok (.iconst (-1), 1) := by decide +kernel
theorem dX6_batch_43 : decode cX6_batch 43 = .ok (.ireturn, 1) := by decide +kernel
theorem dX6_batch_44 : decode cX6_batch 44 = .ok (.aload_n 0, 1) := by decide +kernel
theorem dX6_batch_45 : decode cX6_batch 45 = .ok (.getfield 28, 3) := by decide +kernel
theorem dX6_batch_48 : decode cX6_batch 48 = .ok (.getfield 118, 3) := by decide +kernel
theorem dX6_batch_51 : decode cX6_batch 51 = .ok (.iload_n 1, 1) := by decide +kernel
theorem dX6_batch_52 : decode cX6_batch 52 = .ok (.iaload, 1) := by decide +kernel
theorem dX6_batch_53 : decode cX6_batch 53 = .ok (.ifCond .eq 15, 3) := by decide +kernel
theorem dX6_batch_56 : decode cX6_batch 56 = .ok (.aload_n 0, 1) := by decide +kernel
theorem dX6_batch_57 : decode cX6_batch 57 = .ok (.getfield 28, 3) := by decide +kernel
theorem dX6_batch_60 : decode cX6_batch 60 = .ok (.iload 4, 2) := by decide +kernel
theorem dX6_batch_62 : decode cX6_batch 62 = .ok (.invokevirtual 138, 3) := by decide +kernel
theorem dX6_batch_65 : decode cX6_batch 65 = .ok (.ifCond .eq 6, 3) := by decide +kernel
theorem dX6_batch_68 : decode cX6_batch 68 = .ok (.bipush (-2), 2) := by decide +kernel
theorem dX6_batch_70 : decode cX6_batch 70 = .ok (.ireturn, 1) := by decide +kernel
theorem dX6_batch_71 : decode cX6_batch 71 = .ok (.aload_n 0, 1) := by decide +kernel
theorem dX6_batch_72 : decode cX6_batch 72 = .ok (.getfield 28, 3) := by decide +kernel
theorem dX6_batch_75 : decode cX6_batch 75 = .ok (.getfield 141, 3) := by decide +kernel
theorem dX6_batch_78 : decode cX6_batch 78 = .ok (.bipush 12, 2) := by decide +kernel
theorem dX6_batch_80 : decode cX6_batch 80 = .ok (.if_icmp .lt 6, 3) := by decide +kernel
theorem dX6_batch_83 : decode cX6_batch 83 = .ok (.bipush (-3), 2) := by decide +kernel
theorem dX6_batch_85 : decode cX6_batch 85 = .ok (.ireturn, 1) := by decide +kernel
theorem dX6_batch_86 : decode cX6_batch 86 = .ok (.aload_n 0, 1) := by decide +kernel
theorem dX6_batch_87 : decode cX6_batch 87 = .ok (.invokevirtual 47, 3) := by decide +kernel
theorem dX6_batch_90 : decode cX6_batch 90 = .ok (.aload_n 0, 1) := by decide +kernel
theorem dX6_batch_91 : decode cX6_batch 91 = .ok (.getfield 28, 3) := by decide +kernel
theorem dX6_batch_94 : decode cX6_batch 94 = .ok (.iload_n 1, 1) := by decide +kernel
theorem dX6_batch_95 : decode cX6_batch 95 = .ok (.iload_n 2, 1) := by decide +kernel
theorem dX6_batch_96 : decode cX6_batch 96 = .ok (.iload_n 3, 1) := by decide +kernel
theorem dX6_batch_97 : decode cX6_batch 97 = .ok (.iload 4, 2) := by decide +kernel
theorem dX6_batch_99 : decode cX6_batch 99 = .ok (.invokevirtual 144, 3) := by decide +kernel
theorem dX6_batch_102 : decode cX6_batch 102 = .ok (.ireturn, 1) := by decide +kernel
theorem dX6_start_0 : decode cX6_start 0 = .ok (.aload_n 0, 1) := by decide +kernel
theorem dX6_start_1 : decode cX6_start 1 = .ok (.iload_n 1, 1) := by decide +kernel
theorem dX6_start_2 : decode cX6_start 2 = .ok (.invokevirtual 135, 3) := by decide +kernel
theorem dX6_start_5 : decode cX6_start 5 = .ok (.ifCond .ne 5, 3) := by decide +kernel
theorem dX6_start_8 : decode cX6_start 8 = .ok (.iconst (-1), 1) := by decide +kernel
theorem dX6_start_9 : decode cX6_start 9 = .ok (.ireturn, 1) := by decide +kernel
theorem dX6_start_10 : decode cX6_start 10 = .ok (.aload_n 0, 1) := by decide +kernel
theorem dX6_start_11 : decode cX6_start 11 = .ok (.getfield 28, 3) := by decide +kernel
theorem dX6_start_14 : decode cX6_start 14 = .ok (.getfield 148, 3) := by decide +kernel
theorem dX6_start_17 : decode cX6_start 17 = .ok (.iload_n 1, 1) := by decide +kernel
theorem dX6_start_18 : decode cX6_start 18 = .ok (.aaload, 1) := by decide +kernel
theorem dX6_start_19 : decode cX6_start 19 = .ok (.getfield 152, 3) := by decide +kernel
theorem dX6_start_22 : decode cX6_start 22 = .ok (.ifCond .eq 6, 3) := by decide +kernel
theorem dX6_start_25 : decode cX6_start 25 = .ok (.bipush (-2), 2) := by decide +kernel
theorem dX6_start_27 : decode cX6_start 27 = .ok (.ireturn, 1) := by decide +kernel
theorem dX6_start_28 : decode cX6_start 28 = .ok (.aload_n 0, 1) := by decide +kernel
theorem dX6_start_29 : decode cX6_start 29 = .ok (.invokevirtual 47, 3) := by decide +kernel
theorem dX6_start_32 : decode cX6_start 32 = .ok (.aload_n 0, 1) := by decide +kernel
theorem dX6_start_33 : decode cX6_start 33 = .ok (.getfield 28, 3) := by decide +kernel
theorem dX6_start_36 : decode cX6_start 36 = .ok (.getfield 148, 3) := by decide +kernel
theorem dX6_start_39 : decode cX6_start 39 = .ok (.iload_n 1, 1) := by decide +kernel
theorem dX6_start_40 : decode cX6_start 40 = .ok (.aaload, 1) := by decide +kernel
theorem dX6_start_41 : decode cX6_start 41 = .ok (.iconst 1, 1) := by decide +kernel
theorem dX6_start_42 : decode cX6_start 42 = .ok (.putfield 152, 3) := by decide +kernel
theorem dX6_start_45 : decode cX6_start 45 = .ok (.aload_n 0, 1) := by decide +kernel
theorem dX6_start_46 : decode cX6_start 46 = .ok (.getfield 28, 3) := by decide +kernel
theorem dX6_start_49 : decode cX6_start 49 = .ok (.iconst 1, 1) := by decide +kernel
theorem dX6_start_50 : decode cX6_start 50 = .ok (.invokevirtual 157, 3) := by decide +kernel
theorem dX6_start_53 : decode cX6_start 53 = .ok (.ireturn, 1) := by decide +kernel
theorem dX6_hold_0 : decode cX6_hold 0 = .ok (.aload_n 0, 1) := by decide +kernel
theorem dX6_hold_1 : decode cX6_hold 1 = .ok (.iload_n 1, 1) := by decide +kernel
theorem dX6_hold_2 : decode cX6_hold 2 = .ok (.invokevirtual 135, 3) := by decide +kernel
theorem dX6_hold_5 : decode cX6_hold 5 = .ok (.ifCond .ne 5, 3) := by decide +kernel
theorem dX6_hold_8 : decode cX6_hold 8 = .ok (.iconst (-1), 1) := by decide +kernel
theorem dX6_hold_9 : decode cX6_hold 9 = .ok (.ireturn, 1) := by decide +kernel
theorem dX6_hold_10 : decode cX6_hold 10 = .ok (.aload_n 0, 1) := by decide +kernel
theorem dX6_hold_11 : decode cX6_hold 11 = .ok (.getfield 28, 3) := by decide +kernel
theorem dX6_hold_14 : decode cX6_hold 14 = .ok (.getfield 148, 3) := by decide +kernel
theorem dX6_hold_17 : decode cX6_hold 17 = .ok (.iload_n 1, 1) := by decide +kernel
theorem dX6_hold_18 : decode cX6_hold 18 = .ok (.aaload, 1) := by decide +kernel
theorem dX6_hold_19 : decode cX6_hold 19 = .ok (.invokevirtual 160, 3) := by decide +kernel
theorem dX6_hold_22 : decode cX6_hold 22 = .ok (.ifCond .ne 6, 3) := by decide +kernel
theorem dX6_hold_25 : decode cX6_hold 25 = .ok (.bipush (-2), 2) := by decide +kernel
theorem dX6_hold_27 : decode cX6_hold 27 = .ok (.ireturn, 1) := by decide +kernel
theorem dX6_hold_28 : decode cX6_hold 28 = .ok (.aload_n 0, 1) := by decide +kernel
theorem dX6_hold_29 : decode cX6_hold 29 = .ok (.invokevirtual 47, 3) := by decide +kernel
theorem dX6_hold_32 : decode cX6_hold 32 = .ok (.aload_n 0, 1) := by decide +kernel
theorem dX6_hold_33 : decode cX6_hold 33 = .ok (.getfield 28, 3) := by decide +kernel
theorem dX6_hold_36 : decode cX6_hold 36 = .ok (.iload_n 1, 1) := by decide +kernel
theorem dX6_hold_37 : decode cX6_hold 37 = .ok (.invokevirtual 164, 3) := by decide +kernel
theorem dX6_hold_40 : decode cX6_hold 40 = .ok (.aload_n 0, 1) := by decide +kernel
theorem dX6_hold_41 : decode cX6_hold 41 = .ok (.getfield 28, 3) := by decide +kernel
theorem dX6_hold_44 : decode cX6_hold 44 = .ok (.iconst 2, 1) := by decide +kernel
theorem dX6_hold_45 : decode cX6_hold 45 = .ok (.invokevirtual 157, 3) := by decide +kernel
theorem dX6_hold_48 : decode cX6_hold 48 = .ok (.ireturn, 1) := by decide +kernel
theorem dX6_restart_0 : decode cX6_restart 0 = .ok (.aload_n 0, 1) := by decide +kernel
theorem dX6_restart_1 : decode cX6_restart 1 = .ok (.iload_n 1, 1) := by decide +kernel
theorem dX6_restart_2 : decode cX6_restart 2 = .ok (.invokevirtual 135, 3) := by decide +kernel
theorem dX6_restart_5 : decode cX6_restart 5 = .ok (.ifCond .ne 5, 3) := by decide +kernel
theorem dX6_restart_8 : decode cX6_restart 8 = .ok (.iconst (-1), 1) := by decide +kernel
theorem dX6_restart_9 : decode cX6_restart 9 = .ok (.ireturn, 1) := by decide +kernel
theorem dX6_restart_10 : decode cX6_restart 10 = .ok (.aload_n 0, 1) := by decide +kernel
theorem dX6_restart_11 : decode cX6_restart 11 = .ok (.getfield 28, 3) := by decide +kernel
theorem dX6_restart_14 : decode cX6_restart 14 = .ok (.getfield 148, 3) := by decide +kernel
theorem dX6_restart_17 : decode cX6_restart 17 = .ok (.iload_n 1, 1) := by decide +kernel
theorem dX6_restart_18 : decode cX6_restart 18 = .ok (.aaload, 1) := by decide +kernel
theorem dX6_restart_19 : decode cX6_restart 19 = .ok (.getfield 152, 3) := by decide +kernel
theorem dX6_restart_22 : decode cX6_restart 22 = .ok (.iconst 2, 1) := by decide +kernel
theorem dX6_restart_23 : decode cX6_restart 23 = .ok (.if_icmp .ne 14, 3) := by decide +kernel
theorem dX6_restart_26 : decode cX6_restart 26 = .ok (.aload_n 0, 1) := by decide +kernel
theorem dX6_restart_27 : decode cX6_restart 27 = .ok (.getfield 28, 3) := by decide +kernel
theorem dX6_restart_30 : decode cX6_restart 30 = .ok (.iload_n 1, 1) := by decide +kernel
theorem dX6_restart_31 : decode cX6_restart 31 = .ok (.invokevirtual 168, 3) := by decide +kernel
theorem dX6_restart_34 : decode cX6_restart 34 = .ok (.ifCond .eq 6, 3) := by decide +kernel
theorem dX6_restart_37 : decode cX6_restart 37 = .ok (.bipush (-2), 2) := by decide +kernel
theorem dX6_restart_39 : decode cX6_restart 39 = .ok (.ireturn, 1) := by decide +kernel
theorem dX6_restart_40 : decode cX6_restart 40 = .ok (.aload_n 0, 1) := by decide +kernel
theorem dX6_restart_41 : decode cX6_restart 41 = .ok (.invokevirtual 47, 3) := by decide +kernel
theorem dX6_restart_44 : decode cX6_restart 44 = .ok (.aload_n 0, 1) := by decide +kernel
theorem dX6_restart_45 : decode cX6_restart 45 = .ok (.getfield 28, 3) := by decide +kernel
theorem dX6_restart_48 : decode cX6_restart 48 = .ok (.iload_n 1, 1) := by decide +kernel
theorem dX6_restart_49 : decode cX6_restart 49 = .ok (.invokevirtual 171, 3) := by decide +kernel
theorem dX6_restart_52 : decode cX6_restart 52 = .ok (.aload_n 0, 1) := by decide +kernel
theorem dX6_restart_53 : decode cX6_restart 53 = .ok (.getfield 28, 3) := by decide +kernel
theorem dX6_restart_56 : decode cX6_restart 56 = .ok (.iload_n 1, 1) := by decide +kernel
theorem dX6_restart_57 : decode cX6_restart 57 = .ok (.invokevirtual 174, 3) := by decide +kernel
theorem dX6_restart_60 : decode cX6_restart 60 = .ok (.ireturn, 1) := by decide +kernel
theorem dX6_stop_0 : decode cX6_stop 0 = .ok (.aload_n 0, 1) := by decide +kernel
theorem dX6_stop_1 : decode cX6_stop 1 = .ok (.iload_n 1, 1) := by decide +kernel
theorem dX6_stop_2 : decode cX6_stop 2 = .ok (.invokevirtual 135, 3) := by decide +kernel
theorem dX6_stop_5 : decode cX6_stop 5 = .ok (.ifCond .ne 5, 3) := by decide +kernel
theorem dX6_stop_8 : decode cX6_stop 8 = .ok (.iconst (-1), 1) := by decide +kernel
theorem dX6_stop_9 : decode cX6_stop 9 = .ok (.ireturn, 1) := by decide +kernel
theorem dX6_stop_10 : decode cX6_stop 10 = .ok (.aload_n 0, 1) := by decide +kernel
theorem dX6_stop_11 : decode cX6_stop 11 = .ok (.getfield 28, 3) := by decide +kernel
theorem dX6_stop_14 : decode cX6_stop 14 = .ok (.getfield 148, 3) := by decide +kernel
theorem dX6_stop_17 : decode cX6_stop 17 = .ok (.iload_n 1, 1) := by decide +kernel
theorem dX6_stop_18 : decode cX6_stop 18 = .ok (.aaload, 1) := by decide +kernel
theorem dX6_stop_19 : decode cX6_stop 19 = .ok (.getfield 152, 3) := by decide +kernel
theorem dX6_stop_22 : decode cX6_stop 22 = .ok (.istore_n 2, 1) := by decide +kernel
theorem dX6_stop_23 : decode cX6_stop 23 = .ok (.iload_n 2, 1) := by decide +kernel
theorem dX6_stop_24 : decode cX6_stop 24 = .ok (.iconst 1, 1) := by decide +kernel
theorem dX6_stop_25 : decode cX6_stop 25 = .ok (.if_icmp .eq 11, 3) := by decide +kernel
theorem dX6_stop_28 : decode cX6_stop 28 = .ok (.iload_n 2, 1) := by decide +kernel
theorem dX6_stop_29 : decode cX6_stop 29 = .ok (.iconst 2, 1) := by decide +kernel
theorem dX6_stop_30 : decode cX6_stop 30 = .ok (.if_icmp .eq 6, 3) := by decide +kernel
theorem dX6_stop_33 : decode cX6_stop 33 = .ok (.bipush (-2), 2) := by decide +kernel
theorem dX6_stop_35 : decode cX6_stop 35 = .ok (.ireturn, 1) := by decide +kernel
theorem dX6_stop_36 : decode cX6_stop 36 = .ok (.aload_n 0, 1) := by decide +kernel
theorem dX6_stop_37 : decode cX6_stop 37 = .ok (.invokevirtual 47, 3) := by decide +kernel
theorem dX6_stop_40 : decode cX6_stop 40 = .ok (.aload_n 0, 1) := by decide +kernel
theorem dX6_stop_41 : decode cX6_stop 41 = .ok (.getfield 28, 3) := by decide +kernel
theorem dX6_stop_44 : decode cX6_stop 44 = .ok (.iload_n 1, 1) := by decide +kernel
theorem dX6_stop_45 : decode cX6_stop 45 = .ok (.invokevirtual 177, 3) := by decide +kernel
theorem dX6_stop_48 : decode cX6_stop 48 = .ok (.aload_n 0, 1) := by decide +kernel
theorem dX6_stop_49 : decode cX6_stop 49 = .ok (.getfield 28, 3) := by decide +kernel
theorem dX6_stop_52 : decode cX6_stop 52 = .ok (.getfield 148, 3) := by decide +kernel
theorem dX6_stop_55 : decode cX6_stop 55 = .ok (.iload_n 1, 1) := by decide +kernel
theorem dX6_stop_56 : decode cX6_stop 56 = .ok (.aaload, 1) := by decide +kernel
theorem dX6_stop_57 : decode cX6_stop 57 = .ok (.getfield 152, 3) := by decide +kernel
theorem dX6_stop_60 : decode cX6_stop 60 = .ok (.ireturn, 1) := by decide +kernel
theorem dX6_abort_0 : decode cX6_abort 0 = .ok (.aload_n 0, 1) := by decide +kernel
theorem dX6_abort_1 : decode cX6_abort 1 = .ok (.iload_n 1, 1) := by decide +kernel
theorem dX6_abort_2 : decode cX6_abort 2 = .ok (.invokevirtual 135, 3) := by decide +kernel
theorem dX6_abort_5 : decode cX6_abort 5 = .ok (.ifCond .ne 5, 3) := by decide +kernel
theorem dX6_abort_8 : decode cX6_abort 8 = .ok (.iconst (-1), 1) := by decide +kernel
theorem dX6_abort_9 : decode cX6_abort 9 = .ok (.ireturn, 1) := by decide +kernel
theorem dX6_abort_10 : decode cX6_abort 10 = .ok (.aload_n 0, 1) := by decide +kernel
theorem dX6_abort_11 : decode cX6_abort 11 = .ok (.getfield 28, 3) := by decide +kernel
theorem dX6_abort_14 : decode cX6_abort 14 = .ok (.getfield 148, 3) := by decide +kernel
theorem dX6_abort_17 : decode cX6_abort 17 = .ok (.iload_n 1, 1) := by decide +kernel
theorem dX6_abort_18 : decode cX6_abort 18 = .ok (.aaload, 1) := by decide +kernel
theorem dX6_abort_19 : decode cX6_abort 19 = .ok (.invokevirtual 180, 3) := by decide +kernel
theorem dX6_abort_22 : decode cX6_abort 22 = .ok (.ifCond .eq 6, 3) := by decide +kernel
theorem dX6_abort_25 : decode cX6_abort 25 = .ok (.bipush (-2), 2) := by decide +kernel
theorem dX6_abort_27 : decode cX6_abort 27 = .ok (.ireturn, 1) := by decide +kernel
theorem dX6_abort_28 : decode cX6_abort 28 = .ok (.aload_n 0, 1) := by decide +kernel
theorem dX6_abort_29 : decode cX6_abort 29 = .ok (.invokevirtual 47, 3) := by decide +kernel
theorem dX6_abort_32 : decode cX6_abort 32 = .ok (.aload_n 0, 1) := by decide +kernel
theorem dX6_abort_33 : decode cX6_abort 33 = .ok (.getfield 28, 3) := by decide +kernel
theorem dX6_abort_36 : decode cX6_abort 36 = .ok (.iload_n 1, 1) := by decide +kernel
theorem dX6_abort_37 : decode cX6_abort 37 = .ok (.invokevirtual 183, 3) := by decide +kernel
theorem dX6_abort_40 : decode cX6_abort 40 = .ok (.ireturn, 1) := by decide +kernel
theorem dX6_priority_0 : decode cX6_priority 0 = .ok (.aload_n 0, 1) := by decide +kernel
theorem dX6_priority_1 : decode cX6_priority 1 = .ok (.iload_n 1, 1) := by decide +kernel
theorem dX6_priority_2 : decode cX6_priority 2 = .ok (.invokevirtual 135, 3) := by decide +kernel
theorem dX6_priority_5 : decode cX6_priority 5 = .ok (.ifCond .eq 10, 3) := by decide +kernel
theorem dX6_priority_8 : decode cX6_priority 8 = .ok (.iload_n 2, 1) := by decide +kernel
theorem dX6_priority_9 : decode cX6_priority 9 = .ok (.invokestatic 132, 3) := by decide +kernel
theorem dX6_priority_12 : decode cX6_priority 12 = .ok (.ifCond .ne 5, 3) := by decide +kernel
theorem dX6_priority_15 : decode cX6_priority 15 = .ok (.iconst (-1), 1) := by decide +kernel
theorem dX6_priority_16 : decode cX6_priority 16 = .ok (.ireturn, 1) := by decide +kernel
theorem dX6_priority_17 : decode cX6_priority 17 = .ok (.aload_n 0, 1) := by decide +kernel
theorem dX6_priority_18 : decode cX6_priority 18 = .ok (.invokevirtual 47, 3) := by decide +kernel
theorem dX6_priority_21 : decode cX6_priority 21 = .ok (.aload_n 0, 1) := by decide +kernel
theorem dX6_priority_22 : decode cX6_priority 22 = .ok (.getfield 28, 3) := by decide +kernel
theorem dX6_priority_25 : decode cX6_priority 25 = .ok (.getfield 148, 3) := by decide +kernel
theorem dX6_priority_28 : decode cX6_priority 28 = .ok (.iload_n 1, 1) := by decide +kernel
theorem dX6_priority_29 : decode cX6_priority 29 = .ok (.aaload, 1) := by decide +kernel
theorem dX6_priority_30 : decode cX6_priority 30 = .ok (.getfield 186, 3) := by decide +kernel
theorem dX6_priority_33 : decode cX6_priority 33 = .ok (.istore_n 3, 1) := by decide +kernel
theorem dX6_priority_34 : decode cX6_priority 34 = .ok (.aload_n 0, 1) := by decide +kernel
theorem dX6_priority_35 : decode cX6_priority 35 = .ok (.getfield 28, 3) := by decide +kernel
theorem dX6_priority_38 : decode cX6_priority 38 = .ok (.getfield 148, 3) := by decide +kernel
theorem dX6_priority_41 : decode cX6_priority 41 = .ok (.iload_n 1, 1) := by decide +kernel
theorem dX6_priority_42 : decode cX6_priority 42 = .ok (.aaload, 1) := by decide +kernel
theorem dX6_priority_43 : decode cX6_priority 43 = .ok (.iload_n 2, 1) := by decide +kernel
theorem dX6_priority_44 : decode cX6_priority 44 = .ok (.putfield 186, 3) := by decide +kernel
theorem dX6_priority_47 : decode cX6_priority 47 = .ok (.iload_n 3, 1) := by decide +kernel
theorem dX6_priority_48 : decode cX6_priority 48 = .ok (.ireturn, 1) := by decide +kernel
theorem dX6_batchInfo_0 : decode cX6_batchInfo 0 = .ok (.aload_n 0, 1) := by decide +kernel
theorem dX6_batchInfo_1 : decode cX6_batchInfo 1 = .ok (.iload_n 1, 1) := by decide +kernel
theorem dX6_batchInfo_2 : decode cX6_batchInfo 2 = .ok (.invokevirtual 135, 3) := by decide +kernel
theorem dX6_batchInfo_5 : decode cX6_batchInfo 5 = .ok (.ifCond .ne 5, 3) := by decide +kernel
theorem dX6_batchInfo_8 : decode cX6_batchInfo 8 = .ok (.iconst (-1), 1) := by decide +kernel
theorem dX6_batchInfo_9 : decode cX6_batchInfo 9 = .ok (.ireturn, 1) := by decide +kernel
theorem dX6_batchInfo_10 : decode cX6_batchInfo 10 = .ok (.aload_n 0, 1) := by decide +kernel
theorem dX6_batchInfo_11 : decode cX6_batchInfo 11 = .ok (.getfield 28, 3) := by decide +kernel
theorem dX6_batchInfo_14 : decode cX6_batchInfo 14 = .ok (.getfield 148, 3) := by decide +kernel
theorem dX6_batchInfo_17 : decode cX6_batchInfo 17 = .ok (.iload_n 1, 1) := by decide +kernel
theorem dX6_batchInfo_18 : decode cX6_batchInfo 18 = .ok (.aaload, 1) := by decide +kernel
theorem dX6_batchInfo_19 : decode cX6_batchInfo 19 = .ok (.astore_n 3, 1) := by decide +kernel
theorem dX6_batchInfo_20 : decode cX6_batchInfo 20 = .ok (.iload_n 2, 1) := by decide +kernel
theorem dX6_batchInfo_21 : decode cX6_batchInfo 21 = .ok (.tableswitch 168 0 11 #[63, 68, 73, 78, 83, 91, 96, 115, 138, 146, 154, 162], 63) := by decide +kernel
theorem dX6_batchInfo_84 : decode cX6_batchInfo 84 = .ok (.aload_n 3, 1) := by decide +kernel
theorem dX6_batchInfo_85 : decode cX6_batchInfo 85 = .ok (.getfield 189, 3) := by decide +kernel
theorem dX6_batchInfo_88 : decode cX6_batchInfo 88 = .ok (.ireturn, 1) := by decide +kernel
theorem dX6_batchInfo_89 : decode cX6_batchInfo 89 = .ok (.aload_n 3, 1) := by decide +kernel
theorem dX6_batchInfo_90 : decode cX6_batchInfo 90 = .ok (.getfield 192, 3) := by decide +kernel
theorem dX6_batchInfo_93 : decode cX6_batchInfo 93 = .ok (.ireturn, 1) := by decide +kernel
theorem dX6_batchInfo_94 : decode cX6_batchInfo 94 = .ok (.aload_n 3, 1) := by decide +kernel
theorem dX6_batchInfo_95 : decode cX6_batchInfo 95 = .ok (.getfield 195, 3) := by decide +kernel
theorem dX6_batchInfo_98 : decode cX6_batchInfo 98 = .ok (.ireturn, 1) := by decide +kernel
theorem dX6_batchInfo_99 : decode cX6_batchInfo 99 = .ok (.aload_n 3, 1) := by decide +kernel
theorem dX6_batchInfo_100 : decode cX6_batchInfo 100 = .ok (.getfield 186, 3) := by decide +kernel
theorem dX6_batchInfo_103 : decode cX6_batchInfo 103 = .ok (.ireturn, 1) := by decide +kernel
theorem dX6_batchInfo_104 : decode cX6_batchInfo 104 = .ok (.aload_n 3, 1) := by decide +kernel
theorem dX6_batchInfo_105 : decode cX6_batchInfo 105 = .ok (.getfield 198, 3) := by decide +kernel
theorem dX6_batchInfo_108 : decode cX6_batchInfo 108 = .ok (.invokestatic 72, 3) := by decide +kernel
theorem dX6_batchInfo_111 : decode cX6_batchInfo 111 = .ok (.ireturn, 1) := by decide +kernel
theorem dX6_batchInfo_112 : decode cX6_batchInfo 112 = .ok (.aload_n 3, 1) := by decide +kernel
theorem dX6_batchInfo_113 : decode cX6_batchInfo 113 = .ok (.getfield 152, 3) := by decide +kernel
theorem dX6_batchInfo_116 : decode cX6_batchInfo 116 = .ok (.ireturn, 1) := by decide +kernel
theorem dX6_batchInfo_117 : decode cX6_batchInfo 117 = .ok (.aload_n 3, 1) := by decide +kernel
theorem dX6_batchInfo_118 : decode cX6_batchInfo 118 = .ok (.getfield 152, 3) := by decide +kernel
theorem dX6_batchInfo_121 : decode cX6_batchInfo 121 = .ok (.bipush 6, 2) := by decide +kernel
theorem dX6_batchInfo_123 : decode cX6_batchInfo 123 = .ok (.if_icmp .ne 8, 3) := by decide +kernel
theorem dX6_batchInfo_126 : decode cX6_batchInfo 126 = .ok (.bipush (-4), 2) := by decide +kernel
theorem dX6_batchInfo_128 : decode cX6_batchInfo 128 = .ok (.goto 7, 3) := by decide +kernel
theorem dX6_batchInfo_131 : decode cX6_batchInfo 131 = .ok (.aload_n 3, 1) := by decide +kernel
theorem dX6_batchInfo_132 : decode cX6_batchInfo 132 = .ok (.getfield 201, 3) := by decide +kernel
theorem dX6_batchInfo_135 : decode cX6_batchInfo 135 = .ok (.ireturn, 1) := by decide +kernel
theorem dX6_batchInfo_136 : decode cX6_batchInfo 136 = .ok (.aload_n 3, 1) := by decide +kernel
theorem dX6_batchInfo_137 : decode cX6_batchInfo 137 = .ok (.getfield 152, 3) := by decide +kernel
theorem dX6_batchInfo_140 : decode cX6_batchInfo 140 = .ok (.bipush 6, 2) := by decide +kernel
theorem dX6_batchInfo_142 : decode cX6_batchInfo 142 = .ok (.if_icmp .ne 8, 3) := by decide +kernel
theorem dX6_batchInfo_145 : decode cX6_batchInfo 145 = .ok (.bipush (-4), 2) := by decide +kernel
theorem dX6_batchInfo_147 : decode cX6_batchInfo 147 = .ok (.goto 11, 3) := by decide +kernel
theorem dX6_batchInfo_150 : decode cX6_batchInfo 150 = .ok (.aload_n 0, 1) := by decide +kernel
theorem dX6_batchInfo_151 : decode cX6_batchInfo 151 = .ok (.getfield 28, 3) := by decide +kernel
theorem dX6_batchInfo_154 : decode cX6_batchInfo 154 = .ok (.iload_n 1, 1) := by decide +kernel
theorem dX6_batchInfo_155 : decode cX6_batchInfo 155 = .ok (.invokevirtual 174, 3) := by decide +kernel
theorem dX6_batchInfo_158 : decode cX6_batchInfo 158 = .ok (.ireturn, 1) := by decide +kernel
theorem dX6_batchInfo_159 : decode cX6_batchInfo 159 = .ok (.aload_n 3, 1) := by decide +kernel
theorem dX6_batchInfo_160 : decode cX6_batchInfo 160 = .ok (.getfield 204, 3) := by decide +kernel
theorem dX6_batchInfo_163 : decode cX6_batchInfo 163 = .ok (.invokestatic 72, 3) := by decide +kernel
theorem dX6_batchInfo_166 : decode cX6_batchInfo 166 = .ok (.ireturn, 1) := by decide +kernel
theorem dX6_batchInfo_167 : decode cX6_batchInfo 167 = .ok (.aload_n 3, 1) := by decide +kernel
theorem dX6_batchInfo_168 : decode cX6_batchInfo 168 = .ok (.invokevirtual 207, 3) := by decide +kernel
theorem dX6_batchInfo_171 : decode cX6_batchInfo 171 = .ok (.invokestatic 88, 3) := by decide +kernel
theorem dX6_batchInfo_174 : decode cX6_batchInfo 174 = .ok (.ireturn, 1) := by decide +kernel
theorem dX6_batchInfo_175 : decode cX6_batchInfo 175 = .ok (.aload_n 3, 1) := by decide +kernel
theorem dX6_batchInfo_176 : decode cX6_batchInfo 176 = .ok (.getfield 210, 3) := by decide +kernel
theorem dX6_batchInfo_179 : decode cX6_batchInfo 179 = .ok (.invokestatic 214, 3) := by decide +kernel
theorem dX6_batchInfo_182 : decode cX6_batchInfo 182 = .ok (.ireturn, 1) := by decide +kernel
theorem dX6_batchInfo_183 : decode cX6_batchInfo 183 = .ok (.aload_n 3, 1) := by decide +kernel
theorem dX6_batchInfo_184 : decode cX6_batchInfo 184 = .ok (.getfield 210, 3) := by decide +kernel
theorem dX6_batchInfo_187 : decode cX6_batchInfo 187 = .ok (.f2i, 1) := by decide +kernel
theorem dX6_batchInfo_188 : decode cX6_batchInfo 188 = .ok (.ireturn, 1) := by decide +kernel
theorem dX6_batchInfo_189 : decode cX6_batchInfo 189 = .ok (.iconst (-1), 1) := by decide +kernel
theorem dX6_batchInfo_190 : decode cX6_batchInfo 190 = .ok (.ireturn, 1) := by decide +kernel
theorem dX6_waits_0 : decode cX6_waits 0 = .ok (.aload_n 0, 1) := by decide +kernel
theorem dX6_waits_1 : decode cX6_waits 1 = .ok (.iload_n 1, 1) := by decide +kernel
theorem dX6_waits_2 : decode cX6_waits 2 = .ok (.invokevirtual 135, 3) := by decide +kernel
theorem dX6_waits_5 : decode cX6_waits 5 = .ok (.ifCond .ne 5, 3) := by decide +kernel
theorem dX6_waits_8 : decode cX6_waits 8 = .ok (.iconst (-1), 1) := by decide +kernel
theorem dX6_waits_9 : decode cX6_waits 9 = .ok (.ireturn, 1) := by decide +kernel
theorem dX6_waits_10 : decode cX6_waits 10 = .ok (.aload_n 0, 1) := by decide +kernel
theorem dX6_waits_11 : decode cX6_waits 11 = .ok (.getfield 28, 3) := by decide +kernel
theorem dX6_waits_14 : decode cX6_waits 14 = .ok (.getfield 148, 3) := by decide +kernel
theorem dX6_waits_17 : decode cX6_waits 17 = .ok (.iload_n 1, 1) := by decide +kernel
theorem dX6_waits_18 : decode cX6_waits 18 = .ok (.aaload, 1) := by decide +kernel
theorem dX6_waits_19 : decode cX6_waits 19 = .ok (.invokevirtual 160, 3) := by decide +kernel
theorem dX6_waits_22 : decode cX6_waits 22 = .ok (.ifCond .ne 6, 3) := by decide +kernel
theorem dX6_waits_25 : decode cX6_waits 25 = .ok (.bipush (-4), 2) := by decide +kernel
theorem dX6_waits_27 : decode cX6_waits 27 = .ok (.ireturn, 1) := by decide +kernel
theorem dX6_waits_28 : decode cX6_waits 28 = .ok (.aload_n 0, 1) := by decide +kernel
theorem dX6_waits_29 : decode cX6_waits 29 = .ok (.getfield 28, 3) := by decide +kernel
theorem dX6_waits_32 : decode cX6_waits 32 = .ok (.iload_n 1, 1) := by decide +kernel
theorem dX6_waits_33 : decode cX6_waits 33 = .ok (.iconst 1, 1) := by decide +kernel
theorem dX6_waits_34 : decode cX6_waits 34 = .ok (.invokevirtual 218, 3) := by decide +kernel
theorem dX6_waits_37 : decode cX6_waits 37 = .ok (.ireturn, 1) := by decide +kernel
theorem dX6_inOrder_0 : decode cX6_inOrder 0 = .ok (.iload_n 1, 1) := by decide +kernel
theorem dX6_inOrder_1 : decode cX6_inOrder 1 = .ok (.ifCond .ge 5, 3) := by decide +kernel
theorem dX6_inOrder_4 : decode cX6_inOrder 4 = .ok (.iconst (-1), 1) := by decide +kernel
theorem dX6_inOrder_5 : decode cX6_inOrder 5 = .ok (.ireturn, 1) := by decide +kernel
theorem dX6_inOrder_6 : decode cX6_inOrder 6 = .ok (.aload_n 0, 1) := by decide +kernel
theorem dX6_inOrder_7 : decode cX6_inOrder 7 = .ok (.getfield 28, 3) := by decide +kernel
theorem dX6_inOrder_10 : decode cX6_inOrder 10 = .ok (.invokevirtual 221, 3) := by decide +kernel
theorem dX6_inOrder_13 : decode cX6_inOrder 13 = .ok (.iload_n 1, 1) := by decide +kernel
theorem dX6_inOrder_14 : decode cX6_inOrder 14 = .ok (.aload_n 0, 1) := by decide +kernel
theorem dX6_inOrder_15 : decode cX6_inOrder 15 = .ok (.getfield 28, 3) := by decide +kernel
theorem dX6_inOrder_18 : decode cX6_inOrder 18 = .ok (.getfield 224, 3) := by decide +kernel
theorem dX6_inOrder_21 : decode cX6_inOrder 21 = .ok (.if_icmp .ge 15, 3) := by decide +kernel
theorem dX6_inOrder_24 : decode cX6_inOrder 24 = .ok (.aload_n 0, 1) := by decide +kernel
theorem dX6_inOrder_25 : decode cX6_inOrder 25 = .ok (.getfield 28, 3) := by decide +kernel
theorem dX6_inOrder_28 : decode cX6_inOrder 28 = .ok (.getfield 227, 3) := by decide +kernel
theorem dX6_inOrder_31 : decode cX6_inOrder 31 = .ok (.iload_n 1, 1) := by decide +kernel
theorem dX6_inOrder_32 : decode cX6_inOrder 32 = .ok (.iaload, 1) := by decide +kernel
theorem dX6_inOrder_33 : decode cX6_inOrder 33 = .ok (.goto 5, 3) := by decide +kernel
theorem dX6_inOrder_36 : decode cX6_inOrder 36 = .ok (.bipush (-4), 2) := by decide +kernel
theorem dX6_inOrder_38 : decode cX6_inOrder 38 = .ok (.ireturn, 1) := by decide +kernel
theorem dX6_run_0 : decode cX6_run 0 = .ok (.iload_n 1, 1) := by decide +kernel
theorem dX6_run_1 : decode cX6_run 1 = .ok (.iconst 1, 1) := by decide +kernel
theorem dX6_run_2 : decode cX6_run 2 = .ok (.sipush 500, 3) := by decide +kernel
theorem dX6_run_5 : decode cX6_run 5 = .ok (.invokestatic 39, 3) := by decide +kernel
theorem dX6_run_8 : decode cX6_run 8 = .ok (.ifCond .ne 5, 3) := by decide +kernel
theorem dX6_run_11 : decode cX6_run 11 = .ok (.iconst (-1), 1) := by decide +kernel
theorem dX6_run_12 : decode cX6_run 12 = .ok (.ireturn, 1) := by decide +kernel
theorem dX6_run_13 : decode cX6_run 13 = .ok (.aload_n 0, 1) := by decide +kernel
theorem dX6_run_14 : decode cX6_run 14 = .ok (.getfield 28, 3) := by decide +kernel
theorem dX6_run_17 : decode cX6_run 17 = .ok (.getfield 230, 3) := by decide +kernel
theorem dX6_run_20 : decode cX6_run 20 = .ok (.iload_n 1, 1) := by decide +kernel
theorem dX6_run_21 : decode cX6_run 21 = .ok (.iadd, 1) := by decide +kernel
theorem dX6_run_22 : decode cX6_run 22 = .ok (.ldc 233, 2) := by decide +kernel
theorem dX6_run_24 : decode cX6_run 24 = .ok (.if_icmp .le 6, 3) := by decide +kernel
theorem dX6_run_27 : decode cX6_run 27 = .ok (.bipush (-3), 2) := by decide +kernel
theorem dX6_run_29 : decode cX6_run 29 = .ok (.ireturn, 1) := by decide +kernel
theorem dX6_run_30 : decode cX6_run 30 = .ok (.aload_n 0, 1) := by decide +kernel
theorem dX6_run_31 : decode cX6_run 31 = .ok (.invokevirtual 47, 3) := by decide +kernel
theorem dX6_run_34 : decode cX6_run 34 = .ok (.aload_n 0, 1) := by decide +kernel
theorem dX6_run_35 : decode cX6_run 35 = .ok (.getfield 28, 3) := by decide +kernel
theorem dX6_run_38 : decode cX6_run 38 = .ok (.bipush 6, 2) := by decide +kernel
theorem dX6_run_40 : decode cX6_run 40 = .ok (.invokevirtual 157, 3) := by decide +kernel
theorem dX6_run_43 : decode cX6_run 43 = .ok (.istore_n 2, 1) := by decide +kernel
theorem dX6_run_44 : decode cX6_run 44 = .ok (.aload_n 0, 1) := by decide +kernel
theorem dX6_run_45 : decode cX6_run 45 = .ok (.getfield 28, 3) := by decide +kernel
theorem dX6_run_48 : decode cX6_run 48 = .ok (.invokevirtual 221, 3) := by decide +kernel
theorem dX6_run_51 : decode cX6_run 51 = .ok (.iconst 0, 1) := by decide +kernel
theorem dX6_run_52 : decode cX6_run 52 = .ok (.istore_n 3, 1) := by decide +kernel
theorem dX6_run_53 : decode cX6_run 53 = .ok (.iload_n 3, 1) := by decide +kernel
theorem dX6_run_54 : decode cX6_run 54 = .ok (.iload_n 1, 1) := by decide +kernel
theorem dX6_run_55 : decode cX6_run 55 = .ok (.if_icmp .ge 17, 3) := by decide +kernel
theorem dX6_run_58 : decode cX6_run 58 = .ok (.aload_n 0, 1) := by decide +kernel
theorem dX6_run_59 : decode cX6_run 59 = .ok (.getfield 28, 3) := by decide +kernel
theorem dX6_run_62 : decode cX6_run 62 = .ok (.invokevirtual 234, 3) := by decide +kernel
theorem dX6_run_65 : decode cX6_run 65 = .ok (.pop, 1) := by decide +kernel
theorem dX6_run_66 : decode cX6_run 66 = .ok (.iinc 3 1, 3) := by decide +kernel
theorem dX6_run_69 : decode cX6_run 69 = .ok (.goto (-16), 3) := by decide +kernel
theorem dX6_run_72 : decode cX6_run 72 = .ok (.aload_n 0, 1) := by decide +kernel
theorem dX6_run_73 : decode cX6_run 73 = .ok (.getfield 28, 3) := by decide +kernel
theorem dX6_run_76 : decode cX6_run 76 = .ok (.bipush 6, 2) := by decide +kernel
theorem dX6_run_78 : decode cX6_run 78 = .ok (.invokevirtual 157, 3) := by decide +kernel
theorem dX6_run_81 : decode cX6_run 81 = .ok (.iload_n 2, 1) := by decide +kernel
theorem dX6_run_82 : decode cX6_run 82 = .ok (.isub, 1) := by decide +kernel
theorem dX6_run_83 : decode cX6_run 83 = .ok (.ireturn, 1) := by decide +kernel
theorem dX6_ticksTo_0 : decode cX6_ticksTo 0 = .ok (.aload_n 0, 1) := by decide +kernel
theorem dX6_ticksTo_1 : decode cX6_ticksTo 1 = .ok (.iload_n 1, 1) := by decide +kernel
theorem dX6_ticksTo_2 : decode cX6_ticksTo 2 = .ok (.invokevirtual 135, 3) := by decide +kernel
theorem dX6_ticksTo_5 : decode cX6_ticksTo 5 = .ok (.ifCond .ne 5, 3) := by decide +kernel
theorem dX6_ticksTo_8 : decode cX6_ticksTo 8 = .ok (.iconst (-1), 1) := by decide +kernel
theorem dX6_ticksTo_9 : decode cX6_ticksTo 9 = .ok (.ireturn, 1) := by decide +kernel
theorem dX6_ticksTo_10 : decode cX6_ticksTo 10 = .ok (.aload_n 0, 1) := by decide +kernel
theorem dX6_ticksTo_11 : decode cX6_ticksTo 11 = .ok (.getfield 28, 3) := by decide +kernel
theorem dX6_ticksTo_14 : decode cX6_ticksTo 14 = .ok (.getfield 148, 3) := by decide +kernel
theorem dX6_ticksTo_17 : decode cX6_ticksTo 17 = .ok (.iload_n 1, 1) := by decide +kernel
theorem dX6_ticksTo_18 : decode cX6_ticksTo 18 = .ok (.aaload, 1) := by decide +kernel
theorem dX6_ticksTo_19 : decode cX6_ticksTo 19 = .ok (.getfield 152, 3) := by decide +kernel
theorem dX6_ticksTo_22 : decode cX6_ticksTo 22 = .ok (.bipush 6, 2) := by decide +kernel
theorem dX6_ticksTo_24 : decode cX6_ticksTo 24 = .ok (.if_icmp .ne 5, 3) := by decide +kernel
theorem dX6_ticksTo_27 : decode cX6_ticksTo 27 = .ok (.iconst 0, 1) := by decide +kernel
theorem dX6_ticksTo_28 : decode cX6_ticksTo 28 = .ok (.ireturn, 1) := by decide +kernel
theorem dX6_ticksTo_29 : decode cX6_ticksTo 29 = .ok (.aload_n 0, 1) := by decide +kernel
theorem dX6_ticksTo_30 : decode cX6_ticksTo 30 = .ok (.getfield 32, 3) := by decide +kernel
theorem dX6_ticksTo_33 : decode cX6_ticksTo 33 = .ok (.aload_n 0, 1) := by decide +kernel
theorem dX6_ticksTo_34 : decode cX6_ticksTo 34 = .ok (.getfield 28, 3) := by decide +kernel
theorem dX6_ticksTo_37 : decode cX6_ticksTo 37 = .ok (.invokevirtual 237, 3) := by decide +kernel
theorem dX6_ticksTo_40 : decode cX6_ticksTo 40 = .ok (.aload_n 0, 1) := by decide +kernel
theorem dX6_ticksTo_41 : decode cX6_ticksTo 41 = .ok (.getfield 32, 3) := by decide +kernel
theorem dX6_ticksTo_44 : decode cX6_ticksTo 44 = .ok (.invokevirtual 221, 3) := by decide +kernel
theorem dX6_ticksTo_47 : decode cX6_ticksTo 47 = .ok (.aload_n 0, 1) := by decide +kernel
theorem dX6_ticksTo_48 : decode cX6_ticksTo 48 = .ok (.getfield 32, 3) := by decide +kernel
theorem dX6_ticksTo_51 : decode cX6_ticksTo 51 = .ok (.getfield 148, 3) := by decide +kernel
theorem dX6_ticksTo_54 : decode cX6_ticksTo 54 = .ok (.iload_n 1, 1) := by decide +kernel
theorem dX6_ticksTo_55 : decode cX6_ticksTo 55 = .ok (.aaload, 1) := by decide +kernel
theorem dX6_ticksTo_56 : decode cX6_ticksTo 56 = .ok (.astore_n 2, 1) := by decide +kernel
theorem dX6_ticksTo_57 : decode cX6_ticksTo 57 = .ok (.iconst 1, 1) := by decide +kernel
theorem dX6_ticksTo_58 : decode cX6_ticksTo 58 = .ok (.istore_n 3, 1) := by decide +kernel
theorem dX6_ticksTo_59 : decode cX6_ticksTo 59 = .ok (.iload_n 3, 1) := by decide +kernel
theorem dX6_ticksTo_60 : decode cX6_ticksTo 60 = .ok (.sipush 2000, 3) := by decide +kernel
theorem dX6_ticksTo_63 : decode cX6_ticksTo 63 = .ok (.if_icmp .gt 44, 3) := by decide +kernel
theorem dX6_ticksTo_66 : decode cX6_ticksTo 66 = .ok (.aload_n 2, 1) := by decide +kernel
theorem dX6_ticksTo_67 : decode cX6_ticksTo 67 = .ok (.invokevirtual 160, 3) := by decide +kernel
theorem dX6_ticksTo_70 : decode cX6_ticksTo 70 = .ok (.ifCond .eq 37, 3) := by decide +kernel
theorem dX6_ticksTo_73 : decode cX6_ticksTo 73 = .ok (.aload_n 0, 1) := by decide +kernel
theorem dX6_ticksTo_74 : decode cX6_ticksTo 74 = .ok (.getfield 32, 3) := by decide +kernel
theorem dX6_ticksTo_77 : decode cX6_ticksTo 77 = .ok (.invokevirtual 234, 3) := by decide +kernel
theorem dX6_ticksTo_80 : decode cX6_ticksTo 80 = .ok (.istore 4, 2) := by decide +kernel
theorem dX6_ticksTo_82 : decode cX6_ticksTo 82 = .ok (.aload_n 2, 1) := by decide +kernel
theorem dX6_ticksTo_83 : decode cX6_ticksTo 83 = .ok (.getfield 152, 3) := by decide +kernel
theorem dX6_ticksTo_86 : decode cX6_ticksTo 86 = .ok (.bipush 6, 2) := by decide +kernel
theorem dX6_ticksTo_88 : decode cX6_ticksTo 88 = .ok (.if_icmp .ne 5, 3) := by decide +kernel
theorem dX6_ticksTo_91 : decode cX6_ticksTo 91 = .ok (.iload_n 3, 1) := by decide +kernel
theorem dX6_ticksTo_92 : decode cX6_ticksTo 92 = .ok (.ireturn, 1) := by decide +kernel
theorem dX6_ticksTo_93 : decode cX6_ticksTo 93 = .ok (.iload 4, 2) := by decide +kernel
theorem dX6_ticksTo_95 : decode cX6_ticksTo 95 = .ok (.ifCond .ne 6, 3) := by decide +kernel
theorem dX6_ticksTo_98 : decode cX6_ticksTo 98 = .ok (.bipush (-4), 2) := by decide +kernel
theorem dX6_ticksTo_100 : decode cX6_ticksTo 100 = .ok (.ireturn, 1) := by decide +kernel
theorem dX6_ticksTo_101 : decode cX6_ticksTo 101 = .ok (.iinc 3 1, 3) := by decide +kernel
theorem dX6_ticksTo_104 : decode cX6_ticksTo 104 = .ok (.goto (-45), 3) := by decide +kernel
theorem dX6_ticksTo_107 : decode cX6_ticksTo 107 = .ok (.bipush (-4), 2) := by decide +kernel
theorem dX6_ticksTo_109 : decode cX6_ticksTo 109 = .ok (.ireturn, 1) := by decide +kernel
theorem dX6_count_0 : decode cX6_count 0 = .ok (.iload_n 1, 1) := by decide +kernel
theorem dX6_count_1 : decode cX6_count 1 = .ok (.tableswitch 186 0 17 #[87, 95, 103, 111, 119, 119, 119, 119, 119, 119, 119, 130, 138, 146, 157, 162, 170, 178], 87) := by decide +kernel
theorem dX6_count_88 : decode cX6_count 88 = .ok (.aload_n 0, 1) := by decide +kernel
theorem dX6_count_89 : decode cX6_count 89 = .ok (.getfield 28, 3) := by decide +kernel
theorem dX6_count_92 : decode cX6_count 92 = .ok (.getfield 43, 3) := by decide +kernel
theorem dX6_count_95 : decode cX6_count 95 = .ok (.ireturn, 1) := by decide +kernel
theorem dX6_count_96 : decode cX6_count 96 = .ok (.aload_n 0, 1) := by decide +kernel
theorem dX6_count_97 : decode cX6_count 97 = .ok (.getfield 28, 3) := by decide +kernel
theorem dX6_count_100 : decode cX6_count 100 = .ok (.invokevirtual 75, 3) := by decide +kernel
theorem dX6_count_103 : decode cX6_count 103 = .ok (.ireturn, 1) := by decide +kernel
theorem dX6_count_104 : decode cX6_count 104 = .ok (.aload_n 0, 1) := by decide +kernel
theorem dX6_count_105 : decode cX6_count 105 = .ok (.getfield 28, 3) := by decide +kernel
theorem dX6_count_108 : decode cX6_count 108 = .ok (.invokevirtual 241, 3) := by decide +kernel
theorem dX6_count_111 : decode cX6_count 111 = .ok (.ireturn, 1) := by decide +kernel
theorem dX6_count_112 : decode cX6_count 112 = .ok (.aload_n 0, 1) := by decide +kernel
theorem dX6_count_113 : decode cX6_count 113 = .ok (.getfield 28, 3) := by decide +kernel
theorem dX6_count_116 : decode cX6_count 116 = .ok (.getfield 141, 3) := by decide +kernel
theorem dX6_count_119 : decode cX6_count 119 = .ok (.ireturn, 1) := by decide +kernel
theorem dX6_count_120 : decode cX6_count 120 = .ok (.aload_n 0, 1) := by decide +kernel
theorem dX6_count_121 : decode cX6_count 121 = .ok (.getfield 28, 3) := by decide +kernel
theorem dX6_count_124 : decode cX6_count 124 = .ok (.iload_n 1, 1) := by decide +kernel
theorem dX6_count_125 : decode cX6_count 125 = .ok (.iconst 4, 1) := by decide +kernel
theorem dX6_count_126 : decode cX6_count 126 = .ok (.isub, 1) := by decide +kernel
theorem dX6_count_127 : decode cX6_count 127 = .ok (.invokevirtual 157, 3) := by decide +kernel
theorem dX6_count_130 : decode cX6_count 130 = .ok (.ireturn, 1) := by decide +kernel
theorem dX6_count_131 : decode cX6_count 131 = .ok (.aload_n 0, 1) := by decide +kernel
theorem dX6_count_132 : decode cX6_count 132 = .ok (.getfield 28, 3) := by decide +kernel
theorem dX6_count_135 : decode cX6_count 135 = .ok (.getfield 230, 3) := by decide +kernel
theorem dX6_count_138 : decode cX6_count 138 = .ok (.ireturn, 1) := by decide +kernel
theorem dX6_count_139 : decode cX6_count 139 = .ok (.aload_n 0, 1) := by decide +kernel
theorem dX6_count_140 : decode cX6_count 140 = .ok (.getfield 28, 3) := by decide +kernel
theorem dX6_count_143 : decode cX6_count 143 = .ok (.getfield 108, 3) := by decide +kernel
theorem dX6_count_146 : decode cX6_count 146 = .ok (.ireturn, 1) := by decide +kernel
theorem dX6_count_147 : decode cX6_count 147 = .ok (.aload_n 0, 1) := by decide +kernel
theorem dX6_count_148 : decode cX6_count 148 = .ok (.getfield 28, 3) := by decide +kernel
theorem dX6_count_151 : decode cX6_count 151 = .ok (.getfield 244, 3) := by decide +kernel
theorem dX6_count_154 : decode cX6_count 154 = .ok (.getfield 248, 3) := by decide +kernel
theorem dX6_count_157 : decode cX6_count 157 = .ok (.ireturn, 1) := by decide +kernel
theorem dX6_count_158 : decode cX6_count 158 = .ok (.aload_n 0, 1) := by decide +kernel
theorem dX6_count_159 : decode cX6_count 159 = .ok (.getfield 253, 3) := by decide +kernel
theorem dX6_count_162 : decode cX6_count 162 = .ok (.ireturn, 1) := by decide +kernel
theorem dX6_count_163 : decode cX6_count 163 = .ok (.aload_n 0, 1) := by decide +kernel
theorem dX6_count_164 : decode cX6_count 164 = .ok (.getfield 19, 3) := by decide +kernel
theorem dX6_count_167 : decode cX6_count 167 = .ok (.getfield 256, 3) := by decide +kernel
theorem dX6_count_170 : decode cX6_count 170 = .ok (.ireturn, 1) := by decide +kernel
theorem dX6_count_171 : decode cX6_count 171 = .ok (.aload_n 0, 1) := by decide +kernel
theorem dX6_count_172 : decode cX6_count 172 = .ok (.getfield 28, 3) := by decide +kernel
theorem dX6_count_175 : decode cX6_count 175 = .ok (.invokevirtual 257, 3) := by decide +kernel
theorem dX6_count_178 : decode cX6_count 178 = .ok (.ireturn, 1) := by decide +kernel
theorem dX6_count_179 : decode cX6_count 179 = .ok (.aload_n 0, 1) := by decide +kernel
theorem dX6_count_180 : decode cX6_count 180 = .ok (.getfield 28, 3) := by decide +kernel
theorem dX6_count_183 : decode cX6_count 183 = .ok (.invokevirtual 260, 3) := by decide +kernel
theorem dX6_count_186 : decode cX6_count 186 = .ok (.ireturn, 1) := by decide +kernel
theorem dX6_count_187 : decode cX6_count 187 = .ok (.iconst (-1), 1) := by decide +kernel
theorem dX6_count_188 : decode cX6_count 188 = .ok (.ireturn, 1) := by decide +kernel
theorem dX6_event_0 : decode cX6_event 0 = .ok (.iload_n 1, 1) := by decide +kernel
theorem dX6_event_1 : decode cX6_event 1 = .ok (.ifCond .lt 12, 3) := by decide +kernel
theorem dX6_event_4 : decode cX6_event 4 = .ok (.iload_n 2, 1) := by decide +kernel
theorem dX6_event_5 : decode cX6_event 5 = .ok (.iconst 0, 1) := by decide +kernel
theorem dX6_event_6 : decode cX6_event 6 = .ok (.iconst 2, 1) := by decide +kernel
theorem dX6_event_7 : decode cX6_event 7 = .ok (.invokestatic 39, 3) := by decide +kernel
theorem dX6_event_10 : decode cX6_event 10 = .ok (.ifCond .ne 5, 3) := by decide +kernel
theorem dX6_event_13 : decode cX6_event 13 = .ok (.iconst (-1), 1) := by decide +kernel
theorem dX6_event_14 : decode cX6_event 14 = .ok (.ireturn, 1) := by decide +kernel
theorem dX6_event_15 : decode cX6_event 15 = .ok (.iload_n 1, 1) := by decide +kernel
theorem dX6_event_16 : decode cX6_event 16 = .ok (.aload_n 0, 1) := by decide +kernel
theorem dX6_event_17 : decode cX6_event 17 = .ok (.getfield 28, 3) := by decide +kernel
theorem dX6_event_20 : decode cX6_event 20 = .ok (.getfield 244, 3) := by decide +kernel
theorem dX6_event_23 : decode cX6_event 23 = .ok (.getfield 248, 3) := by decide +kernel
theorem dX6_event_26 : decode cX6_event 26 = .ok (.if_icmp .ge 18, 3) := by decide +kernel
theorem dX6_event_29 : decode cX6_event 29 = .ok (.aload_n 0, 1) := by decide +kernel
theorem dX6_event_30 : decode cX6_event 30 = .ok (.getfield 28, 3) := by decide +kernel
theorem dX6_event_33 : decode cX6_event 33 = .ok (.getfield 244, 3) := by decide +kernel
theorem dX6_event_36 : decode cX6_event 36 = .ok (.iload_n 1, 1) := by decide +kernel
theorem dX6_event_37 : decode cX6_event 37 = .ok (.iload_n 2, 1) := by decide +kernel
theorem dX6_event_38 : decode cX6_event 38 = .ok (.invokevirtual 263, 3) := by decide +kernel
theorem dX6_event_41 : decode cX6_event 41 = .ok (.goto 5, 3) := by decide +kernel
theorem dX6_event_44 : decode cX6_event 44 = .ok (.bipush (-4), 2) := by decide +kernel
theorem dX6_event_46 : decode cX6_event 46 = .ok (.ireturn, 1) := by decide +kernel
theorem dX6_undo_0 : decode cX6_undo 0 = .ok (.aload_n 0, 1) := by decide +kernel
theorem dX6_undo_1 : decode cX6_undo 1 = .ok (.getfield 253, 3) := by decide +kernel
theorem dX6_undo_4 : decode cX6_undo 4 = .ok (.ifCond .gt 6, 3) := by decide +kernel
theorem dX6_undo_7 : decode cX6_undo 7 = .ok (.bipush (-2), 2) := by decide +kernel
theorem dX6_undo_9 : decode cX6_undo 9 = .ok (.ireturn, 1) := by decide +kernel
theorem dX6_undo_10 : decode cX6_undo 10 = .ok (.aload_n 0, 1) := by decide +kernel
theorem dX6_undo_11 : decode cX6_undo 11 = .ok (.dup, 1) := by decide +kernel
theorem dX6_undo_12 : decode cX6_undo 12 = .ok (.getfield 253, 3) := by decide +kernel
theorem dX6_undo_15 : decode cX6_undo 15 = .ok (.iconst 1, 1) := by decide +kernel
theorem dX6_undo_16 : decode cX6_undo 16 = .ok (.isub, 1) := by decide +kernel
theorem dX6_undo_17 : decode cX6_undo 17 = .ok (.putfield 253, 3) := by decide +kernel
theorem dX6_undo_20 : decode cX6_undo 20 = .ok (.aload_n 0, 1) := by decide +kernel
theorem dX6_undo_21 : decode cX6_undo 21 = .ok (.getfield 28, 3) := by decide +kernel
theorem dX6_undo_24 : decode cX6_undo 24 = .ok (.aload_n 0, 1) := by decide +kernel
theorem dX6_undo_25 : decode cX6_undo 25 = .ok (.getfield 35, 3) := by decide +kernel
theorem dX6_undo_28 : decode cX6_undo 28 = .ok (.aload_n 0, 1) := by decide +kernel
theorem dX6_undo_29 : decode cX6_undo 29 = .ok (.getfield 253, 3) := by decide +kernel
theorem dX6_undo_32 : decode cX6_undo 32 = .ok (.aaload, 1) := by decide +kernel
theorem dX6_undo_33 : decode cX6_undo 33 = .ok (.invokevirtual 237, 3) := by decide +kernel
theorem dX6_undo_36 : decode cX6_undo 36 = .ok (.aload_n 0, 1) := by decide +kernel
theorem dX6_undo_37 : decode cX6_undo 37 = .ok (.getfield 253, 3) := by decide +kernel
theorem dX6_undo_40 : decode cX6_undo 40 = .ok (.ireturn, 1) := by decide +kernel
theorem dX6_type_0 : decode cX6_type 0 = .ok (.iload_n 1, 1) := by decide +kernel
theorem dX6_type_1 : decode cX6_type 1 = .ok (.bipush 32, 2) := by decide +kernel
theorem dX6_type_3 : decode cX6_type 3 = .ok (.bipush 126, 2) := by decide +kernel
theorem dX6_type_5 : decode cX6_type 5 = .ok (.invokestatic 39, 3) := by decide +kernel
theorem dX6_type_8 : decode cX6_type 8 = .ok (.ifCond .ne 5, 3) := by decide +kernel
theorem dX6_type_11 : decode cX6_type 11 = .ok (.iconst (-1), 1) := by decide +kernel
theorem dX6_type_12 : decode cX6_type 12 = .ok (.ireturn, 1) := by decide +kernel
theorem dX6_type_13 : decode cX6_type 13 = .ok (.aload_n 0, 1) := by decide +kernel
theorem dX6_type_14 : decode cX6_type 14 = .ok (.getfield 19, 3) := by decide +kernel
theorem dX6_type_17 : decode cX6_type 17 = .ok (.getfield 256, 3) := by decide +kernel
theorem dX6_type_20 : decode cX6_type 20 = .ok (.bipush 100, 2) := by decide +kernel
theorem dX6_type_22 : decode cX6_type 22 = .ok (.if_icmp .lt 6, 3) := by decide +kernel
theorem dX6_type_25 : decode cX6_type 25 = .ok (.bipush (-3), 2) := by decide +kernel
theorem dX6_type_27 : decode cX6_type 27 = .ok (.ireturn, 1) := by decide +kernel
theorem dX6_type_28 : decode cX6_type 28 = .ok (.aload_n 0, 1) := by decide +kernel
theorem dX6_type_29 : decode cX6_type 29 = .ok (.getfield 19, 3) := by decide +kernel
theorem dX6_type_32 : decode cX6_type 32 = .ok (.iload_n 1, 1) := by decide +kernel
theorem dX6_type_33 : decode cX6_type 33 = .ok (.i2c, 1) := by decide +kernel
theorem dX6_type_34 : decode cX6_type 34 = .ok (.invokevirtual 265, 3) := by decide +kernel
theorem dX6_type_37 : decode cX6_type 37 = .ok (.aload_n 0, 1) := by decide +kernel
theorem dX6_type_38 : decode cX6_type 38 = .ok (.getfield 19, 3) := by decide +kernel
theorem dX6_type_41 : decode cX6_type 41 = .ok (.getfield 256, 3) := by decide +kernel
theorem dX6_type_44 : decode cX6_type 44 = .ok (.ireturn, 1) := by decide +kernel
theorem dX6_clearText_0 : decode cX6_clearText 0 = .ok (.aload_n 0, 1) := by decide +kernel
theorem dX6_clearText_1 : decode cX6_clearText 1 = .ok (.getfield 19, 3) := by decide +kernel
theorem dX6_clearText_4 : decode cX6_clearText 4 = .ok (.getfield 256, 3) := by decide +kernel
theorem dX6_clearText_7 : decode cX6_clearText 7 = .ok (.istore_n 1, 1) := by decide +kernel
theorem dX6_clearText_8 : decode cX6_clearText 8 = .ok (.aload_n 0, 1) := by decide +kernel
theorem dX6_clearText_9 : decode cX6_clearText 9 = .ok (.getfield 19, 3) := by decide +kernel
theorem dX6_clearText_12 : decode cX6_clearText 12 = .ok (.iconst 0, 1) := by decide +kernel
theorem dX6_clearText_13 : decode cX6_clearText 13 = .ok (.putfield 256, 3) := by decide +kernel
theorem dX6_clearText_16 : decode cX6_clearText 16 = .ok (.iload_n 1, 1) := by decide +kernel
theorem dX6_clearText_17 : decode cX6_clearText 17 = .ok (.ireturn, 1) := by decide +kernel
theorem dX6_fault_0 : decode cX6_fault 0 = .ok (.iload_n 1, 1) := by decide +kernel
theorem dX6_fault_1 : decode cX6_fault 1 = .ok (.iconst 0, 1) := by decide +kernel
theorem dX6_fault_2 : decode cX6_fault 2 = .ok (.iconst 1, 1) := by decide +kernel
theorem dX6_fault_3 : decode cX6_fault 3 = .ok (.invokestatic 39, 3) := by decide +kernel
theorem dX6_fault_6 : decode cX6_fault 6 = .ok (.ifCond .ne 5, 3) := by decide +kernel
theorem dX6_fault_9 : decode cX6_fault 9 = .ok (.iconst (-1), 1) := by decide +kernel
theorem dX6_fault_10 : decode cX6_fault 10 = .ok (.ireturn, 1) := by decide +kernel
theorem dX6_fault_11 : decode cX6_fault 11 = .ok (.aload_n 0, 1) := by decide +kernel
theorem dX6_fault_12 : decode cX6_fault 12 = .ok (.getfield 19, 3) := by decide +kernel
theorem dX6_fault_15 : decode cX6_fault 15 = .ok (.invokevirtual 112, 3) := by decide +kernel
theorem dX6_fault_18 : decode cX6_fault 18 = .ok (.aload_n 0, 1) := by decide +kernel
theorem dX6_fault_19 : decode cX6_fault 19 = .ok (.getfield 19, 3) := by decide +kernel
theorem dX6_fault_22 : decode cX6_fault 22 = .ok (.getfield 115, 3) := by decide +kernel
theorem dX6_fault_25 : decode cX6_fault 25 = .ok (.ifCond .ne 6, 3) := by decide +kernel
theorem dX6_fault_28 : decode cX6_fault 28 = .ok (.bipush (-4), 2) := by decide +kernel
theorem dX6_fault_30 : decode cX6_fault 30 = .ok (.ireturn, 1) := by decide +kernel
theorem dX6_fault_31 : decode cX6_fault 31 = .ok (.iload_n 1, 1) := by decide +kernel
theorem dX6_fault_32 : decode cX6_fault 32 = .ok (.ifCond .ne 13, 3) := by decide +kernel
theorem dX6_fault_35 : decode cX6_fault 35 = .ok (.aload_n 0, 1) := by decide +kernel
theorem dX6_fault_36 : decode cX6_fault 36 = .ok (.getfield 19, 3) := by decide +kernel
theorem dX6_fault_39 : decode cX6_fault 39 = .ok (.getfield 269, 3) := by decide +kernel
theorem dX6_fault_42 : decode cX6_fault 42 = .ok (.goto 10, 3) := by decide +kernel
theorem dX6_fault_45 : decode cX6_fault 45 = .ok (.aload_n 0, 1) := by decide +kernel
theorem dX6_fault_46 : decode cX6_fault 46 = .ok (.getfield 19, 3) := by decide +kernel
theorem dX6_fault_49 : decode cX6_fault 49 = .ok (.getfield 115, 3) := by decide +kernel
theorem dX6_fault_52 : decode cX6_fault 52 = .ok (.ireturn, 1) := by decide +kernel
theorem dX6_record_0 : decode cX6_record 0 = .ok (.aload_n 0, 1) := by decide +kernel
theorem dX6_record_1 : decode cX6_record 1 = .ok (.getfield 253, 3) := by decide +kernel
theorem dX6_record_4 : decode cX6_record 4 = .ok (.iconst 4, 1) := by decide +kernel
theorem dX6_record_5 : decode cX6_record 5 = .ok (.if_icmp .lt 49, 3) := by decide +kernel
theorem dX6_record_8 : decode cX6_record 8 = .ok (.aload_n 0, 1) := by decide +kernel
theorem dX6_record_9 : decode cX6_record 9 = .ok (.getfield 35, 3) := by decide +kernel
theorem dX6_record_12 : decode cX6_record 12 = .ok (.iconst 0, 1) := by decide +kernel
theorem dX6_record_13 : decode cX6_record 13 = .ok (.aaload, 1) := by decide +kernel
theorem dX6_record_14 : decode cX6_record 14 = .ok (.astore_n 1, 1) := by decide +kernel
theorem dX6_record_15 : decode cX6_record 15 = .ok (.iconst 1, 1) := by decide +kernel
theorem dX6_record_16 : decode cX6_record 16 = .ok (.istore_n 2, 1) := by decide +kernel
theorem dX6_record_17 : decode cX6_record 17 = .ok (.iload_n 2, 1) := by decide +kernel
theorem dX6_record_18 : decode cX6_record 18 = .ok (.iconst 4, 1) := by decide +kernel
theorem dX6_record_19 : decode cX6_record 19 = .ok (.if_icmp .ge 23, 3) := by decide +kernel
theorem dX6_record_22 : decode cX6_record 22 = .ok (.aload_n 0, 1) := by decide +kernel
theorem dX6_record_23 : decode cX6_record 23 = .ok (.getfield 35, 3) := by decide +kernel
theorem dX6_record_26 : decode cX6_record 26 = .ok (.iload_n 2, 1) := by decide +kernel
theorem dX6_record_27 : decode cX6_record 27 = .ok (.iconst 1, 1) := by decide +kernel
theorem dX6_record_28 : decode cX6_record 28 = .ok (.isub, 1) := by decide +kernel
theorem dX6_record_29 : decode cX6_record 29 = .ok (.aload_n 0, 1) := by decide +kernel
theorem dX6_record_30 : decode cX6_record 30 = .ok (.getfield 35, 3) := by decide +kernel
theorem dX6_record_33 : decode cX6_record 33 = .ok (.iload_n 2, 1) := by decide +kernel
theorem dX6_record_34 : decode cX6_record 34 = .ok (.aaload, 1) := by decide +kernel
theorem dX6_record_35 : decode cX6_record 35 = .ok (.aastore, 1) := by decide +kernel
theorem dX6_record_36 : decode cX6_record 36 = .ok (.iinc 2 1, 3) := by decide +kernel
theorem dX6_record_39 : decode cX6_record 39 = .ok (.goto (-22), 3) := by decide +kernel
theorem dX6_record_42 : decode cX6_record 42 = .ok (.aload_n 0, 1) := by decide +kernel
theorem dX6_record_43 : decode cX6_record 43 = .ok (.getfield 35, 3) := by decide +kernel
theorem dX6_record_46 : decode cX6_record 46 = .ok (.iconst 3, 1) := by decide +kernel
theorem dX6_record_47 : decode cX6_record 47 = .ok (.aload_n 1, 1) := by decide +kernel
theorem dX6_record_48 : decode cX6_record 48 = .ok (.aastore, 1) := by decide +kernel
theorem dX6_record_49 : decode cX6_record 49 = .ok (.aload_n 0, 1) := by decide +kernel
theorem dX6_record_50 : decode cX6_record 50 = .ok (.iconst 3, 1) := by decide +kernel
theorem dX6_record_51 : decode cX6_record 51 = .ok (.putfield 253, 3) := by decide +kernel
theorem dX6_record_54 : decode cX6_record 54 = .ok (.aload_n 0, 1) := by decide +kernel
theorem dX6_record_55 : decode cX6_record 55 = .ok (.getfield 35, 3) := by decide +kernel
theorem dX6_record_58 : decode cX6_record 58 = .ok (.aload_n 0, 1) := by decide +kernel
theorem dX6_record_59 : decode cX6_record 59 = .ok (.getfield 253, 3) := by decide +kernel
theorem dX6_record_62 : decode cX6_record 62 = .ok (.aaload, 1) := by decide +kernel
theorem dX6_record_63 : decode cX6_record 63 = .ok (.aload_n 0, 1) := by decide +kernel
theorem dX6_record_64 : decode cX6_record 64 = .ok (.getfield 28, 3) := by decide +kernel
theorem dX6_record_67 : decode cX6_record 67 = .ok (.invokevirtual 237, 3) := by decide +kernel
theorem dX6_record_70 : decode cX6_record 70 = .ok (.aload_n 0, 1) := by decide +kernel
theorem dX6_record_71 : decode cX6_record 71 = .ok (.dup, 1) := by decide +kernel
theorem dX6_record_72 : decode cX6_record 72 = .ok (.getfield 253, 3) := by decide +kernel
theorem dX6_record_75 : decode cX6_record 75 = .ok (.iconst 1, 1) := by decide +kernel
theorem dX6_record_76 : decode cX6_record 76 = .ok (.iadd, 1) := by decide +kernel
theorem dX6_record_77 : decode cX6_record 77 = .ok (.putfield 253, 3) := by decide +kernel
theorem dX6_record_80 : decode cX6_record 80 = .ok (.return_, 1) := by decide +kernel
theorem dX6_isUnit_0 : decode cX6_isUnit 0 = .ok (.aload_n 0, 1) := by decide +kernel
theorem dX6_isUnit_1 : decode cX6_isUnit 1 = .ok (.getfield 28, 3) := by decide +kernel
theorem dX6_isUnit_4 : decode cX6_isUnit 4 = .ok (.iload_n 1, 1) := by decide +kernel
theorem dX6_isUnit_5 : decode cX6_isUnit 5 = .ok (.invokevirtual 272, 3) := by decide +kernel
theorem dX6_isUnit_8 : decode cX6_isUnit 8 = .ok (.ireturn, 1) := by decide +kernel
theorem dX6_isBatch_0 : decode cX6_isBatch 0 = .ok (.aload_n 0, 1) := by decide +kernel
theorem dX6_isBatch_1 : decode cX6_isBatch 1 = .ok (.getfield 28, 3) := by decide +kernel
theorem dX6_isBatch_4 : decode cX6_isBatch 4 = .ok (.iload_n 1, 1) := by decide +kernel
theorem dX6_isBatch_5 : decode cX6_isBatch 5 = .ok (.invokevirtual 275, 3) := by decide +kernel
theorem dX6_isBatch_8 : decode cX6_isBatch 8 = .ok (.ireturn, 1) := by decide +kernel
theorem dX6_isPiece_0 : decode cX6_isPiece 0 = .ok (.iload_n 0, 1) := by decide +kernel
theorem dX6_isPiece_1 : decode cX6_isPiece 1 = .ok (.iconst 0, 1) := by decide +kernel
theorem dX6_isPiece_2 : decode cX6_isPiece 2 = .ok (.iconst 2, 1) := by decide +kernel
theorem dX6_isPiece_3 : decode cX6_isPiece 3 = .ok (.invokestatic 39, 3) := by decide +kernel
theorem dX6_isPiece_6 : decode cX6_isPiece 6 = .ok (.ireturn, 1) := by decide +kernel
theorem dX6_isRecipe_0 : decode cX6_isRecipe 0 = .ok (.iload_n 0, 1) := by decide +kernel
theorem dX6_isRecipe_1 : decode cX6_isRecipe 1 = .ok (.iconst 0, 1) := by decide +kernel
theorem dX6_isRecipe_2 : decode cX6_isRecipe 2 = .ok (.iconst 5, 1) := by decide +kernel
theorem dX6_isRecipe_3 : decode cX6_isRecipe 3 = .ok (.invokestatic 39, 3) := by decide +kernel
theorem dX6_isRecipe_6 : decode cX6_isRecipe 6 = .ok (.ireturn, 1) := by decide +kernel
theorem dX6_isPriority_0 : decode cX6_isPriority 0 = .ok (.iload_n 0, 1) := by decide +kernel
theorem dX6_isPriority_1 : decode cX6_isPriority 1 = .ok (.iconst 0, 1) := by decide +kernel
theorem dX6_isPriority_2 : decode cX6_isPriority 2 = .ok (.bipush 9, 2) := by decide +kernel
theorem dX6_isPriority_4 : decode cX6_isPriority 4 = .ok (.invokestatic 39, 3) := by decide +kernel
theorem dX6_isPriority_7 : decode cX6_isPriority 7 = .ok (.ireturn, 1) := by decide +kernel
theorem dX6_isWithin_0 : decode cX6_isWithin 0 = .ok (.iload_n 0, 1) := by decide +kernel
theorem dX6_isWithin_1 : decode cX6_isWithin 1 = .ok (.iload_n 1, 1) := by decide +kernel
theorem dX6_isWithin_2 : decode cX6_isWithin 2 = .ok (.if_icmp .lt 12, 3) := by decide +kernel
theorem dX6_isWithin_5 : decode cX6_isWithin 5 = .ok (.iload_n 0, 1) := by decide +kernel
theorem dX6_isWithin_6 : decode cX6_isWithin 6 = .ok (.iload_n 2, 1) := by decide +kernel
theorem dX6_isWithin_7 : decode cX6_isWithin 7 = .ok (.if_icmp .gt 7, 3) := by decide +kernel
theorem dX6_isWithin_10 : decode cX6_isWithin 10 = .ok (.iconst 1, 1) := by decide +kernel
theorem dX6_isWithin_11 : decode cX6_isWithin 11 = .ok (.goto 4, 3) := by decide +kernel
theorem dX6_isWithin_14 : decode cX6_isWithin 14 = .ok (.iconst 0, 1) := by decide +kernel
theorem dX6_isWithin_15 : decode cX6_isWithin 15 = .ok (.ireturn, 1) := by decide +kernel
theorem dX6_orNotFound_0 : decode cX6_orNotFound 0 = .ok (.iload_n 0, 1) := by decide +kernel
theorem dX6_orNotFound_1 : decode cX6_orNotFound 1 = .ok (.iconst (-1), 1) := by decide +kernel
theorem dX6_orNotFound_2 : decode cX6_orNotFound 2 = .ok (.if_icmp .ne 8, 3) := by decide +kernel
theorem dX6_orNotFound_5 : decode cX6_orNotFound 5 = .ok (.bipush (-4), 2) := by decide +kernel
theorem dX6_orNotFound_7 : decode cX6_orNotFound 7 = .ok (.goto 4, 3) := by decide +kernel
theorem dX6_orNotFound_10 : decode cX6_orNotFound 10 = .ok (.iload_n 0, 1) := by decide +kernel
theorem dX6_orNotFound_11 : decode cX6_orNotFound 11 = .ok (.ireturn, 1) := by decide +kernel
theorem dX6_oneIf_0 : decode cX6_oneIf 0 = .ok (.iload_n 0, 1) := by decide +kernel
theorem dX6_oneIf_1 : decode cX6_oneIf 1 = .ok (.ifCond .eq 7, 3) := by decide +kernel
theorem dX6_oneIf_4 : decode cX6_oneIf 4 = .ok (.iconst 1, 1) := by decide +kernel
theorem dX6_oneIf_5 : decode cX6_oneIf 5 = .ok (.goto 4, 3) := by decide +kernel
theorem dX6_oneIf_8 : decode cX6_oneIf 8 = .ok (.iconst 0, 1) := by decide +kernel
theorem dX6_oneIf_9 : decode cX6_oneIf 9 = .ok (.ireturn, 1) := by decide +kernel
theorem dX6_bitsOf_0 : decode cX6_bitsOf 0 = .ok (.fload_n 0, 1) := by decide +kernel
theorem dX6_bitsOf_1 : decode cX6_bitsOf 1 = .ok (.fstore_n 1, 1) := by decide +kernel
theorem dX6_bitsOf_2 : decode cX6_bitsOf 2 = .ok (.bipush 127, 2) := by decide +kernel
theorem dX6_bitsOf_4 : decode cX6_bitsOf 4 = .ok (.istore_n 2, 1) := by decide +kernel
theorem dX6_bitsOf_5 : decode cX6_bitsOf 5 = .ok (.iconst 0, 1) := by decide +kernel
theorem dX6_bitsOf_6 : decode cX6_bitsOf 6 = .ok (.istore_n 3, 1) := by decide +kernel
theorem dX6_bitsOf_7 : decode cX6_bitsOf 7 = .ok (.iload_n 3, 1) := by decide +kernel
theorem dX6_bitsOf_8 : decode cX6_bitsOf 8 = .ok (.bipush 127, 2) := by decide +kernel
theorem dX6_bitsOf_10 : decode cX6_bitsOf 10 = .ok (.if_icmp .ge 22, 3) := by decide +kernel
theorem dX6_bitsOf_13 : decode cX6_bitsOf 13 = .ok (.fload_n 1, 1) := by decide +kernel
theorem dX6_bitsOf_14 : decode cX6_bitsOf 14 = .ok (.fconst 2, 1) := by decide +kernel
theorem dX6_bitsOf_15 : decode cX6_bitsOf 15 = .ok (.fcmp .l, 1) := by decide +kernel
theorem dX6_bitsOf_16 : decode cX6_bitsOf 16 = .ok (.ifCond .lt 16, 3) := by decide +kernel
theorem dX6_bitsOf_19 : decode cX6_bitsOf 19 = .ok (.fload_n 1, 1) := by decide +kernel
theorem dX6_bitsOf_20 : decode cX6_bitsOf 20 = .ok (.fconst 2, 1) := by decide +kernel
theorem dX6_bitsOf_21 : decode cX6_bitsOf 21 = .ok (.fdiv, 1) := by decide +kernel
theorem dX6_bitsOf_22 : decode cX6_bitsOf 22 = .ok (.fstore_n 1, 1) := by decide +kernel
theorem dX6_bitsOf_23 : decode cX6_bitsOf 23 = .ok (.iinc 2 1, 3) := by decide +kernel
theorem dX6_bitsOf_26 : decode cX6_bitsOf 26 = .ok (.iinc 3 1, 3) := by decide +kernel
theorem dX6_bitsOf_29 : decode cX6_bitsOf 29 = .ok (.goto (-22), 3) := by decide +kernel
theorem dX6_bitsOf_32 : decode cX6_bitsOf 32 = .ok (.iconst 0, 1) := by decide +kernel
theorem dX6_bitsOf_33 : decode cX6_bitsOf 33 = .ok (.istore_n 3, 1) := by decide +kernel
theorem dX6_bitsOf_34 : decode cX6_bitsOf 34 = .ok (.iload_n 3, 1) := by decide +kernel
theorem dX6_bitsOf_35 : decode cX6_bitsOf 35 = .ok (.bipush 127, 2) := by decide +kernel
theorem dX6_bitsOf_37 : decode cX6_bitsOf 37 = .ok (.if_icmp .ge 22, 3) := by decide +kernel
theorem dX6_bitsOf_40 : decode cX6_bitsOf 40 = .ok (.fload_n 1, 1) := by decide +kernel
theorem dX6_bitsOf_41 : decode cX6_bitsOf 41 = .ok (.fconst 1, 1) := by decide +kernel
theorem dX6_bitsOf_42 : decode cX6_bitsOf 42 = .ok (.fcmp .g, 1) := by decide +kernel
theorem dX6_bitsOf_43 : decode cX6_bitsOf 43 = .ok (.ifCond .ge 16, 3) := by decide +kernel
theorem dX6_bitsOf_46 : decode cX6_bitsOf 46 = .ok (.fload_n 1, 1) := by decide +kernel
theorem dX6_bitsOf_47 : decode cX6_bitsOf 47 = .ok (.fconst 2, 1) := by decide +kernel
theorem dX6_bitsOf_48 : decode cX6_bitsOf 48 = .ok (.fmul, 1) := by decide +kernel
theorem dX6_bitsOf_49 : decode cX6_bitsOf 49 = .ok (.fstore_n 1, 1) := by decide +kernel
theorem dX6_bitsOf_50 : decode cX6_bitsOf 50 = .ok (.iinc 2 (-1), 3) := by decide +kernel
theorem dX6_bitsOf_53 : decode cX6_bitsOf 53 = .ok (.iinc 3 1, 3) := by decide +kernel
theorem dX6_bitsOf_56 : decode cX6_bitsOf 56 = .ok (.goto (-22), 3) := by decide +kernel
theorem dX6_bitsOf_59 : decode cX6_bitsOf 59 = .ok (.fload_n 1, 1) := by decide +kernel
theorem dX6_bitsOf_60 : decode cX6_bitsOf 60 = .ok (.fconst 1, 1) := by decide +kernel
theorem dX6_bitsOf_61 : decode cX6_bitsOf 61 = .ok (.fsub, 1) := by decide +kernel
theorem dX6_bitsOf_62 : decode cX6_bitsOf 62 = .ok (.ldc_w 278, 3) := by decide +kernel
theorem dX6_bitsOf_65 : decode cX6_bitsOf 65 = .ok (.fmul, 1) := by decide +kernel
theorem dX6_bitsOf_66 : decode cX6_bitsOf 66 = .ok (.f2i, 1) := by decide +kernel
theorem dX6_bitsOf_67 : decode cX6_bitsOf 67 = .ok (.istore_n 3, 1) := by decide +kernel
theorem dX6_bitsOf_68 : decode cX6_bitsOf 68 = .ok (.iload_n 2, 1) := by decide +kernel
theorem dX6_bitsOf_69 : decode cX6_bitsOf 69 = .ok (.bipush 23, 2) := by decide +kernel
theorem dX6_bitsOf_71 : decode cX6_bitsOf 71 = .ok (.ishl, 1) := by decide +kernel
theorem dX6_bitsOf_72 : decode cX6_bitsOf 72 = .ok (.iload_n 3, 1) := by decide +kernel
theorem dX6_bitsOf_73 : decode cX6_bitsOf 73 = .ok (.ior, 1) := by decide +kernel
theorem dX6_bitsOf_74 : decode cX6_bitsOf 74 = .ok (.ireturn, 1) := by decide +kernel
theorem dL_lot_0 : decode cL_lot 0 = .ok (.iload_n 1, 1) := by decide +kernel
theorem dL_lot_1 : decode cL_lot 1 = .ok (.aload_n 0, 1) := by decide +kernel
theorem dL_lot_2 : decode cL_lot 2 = .ok (.arraylength, 1) := by decide +kernel
theorem dL_lot_3 : decode cL_lot 3 = .ok (.if_icmp .ge 9, 3) := by decide +kernel
theorem dL_lot_6 : decode cL_lot 6 = .ok (.aload_n 0, 1) := by decide +kernel
theorem dL_lot_7 : decode cL_lot 7 = .ok (.iload_n 1, 1) := by decide +kernel
theorem dL_lot_8 : decode cL_lot 8 = .ok (.iaload, 1) := by decide +kernel
theorem dL_lot_9 : decode cL_lot 9 = .ok (.goto 15, 3) := by decide +kernel
theorem dL_lot_12 : decode cL_lot 12 = .ok (.ldc 7, 2) := by decide +kernel
theorem dL_lot_14 : decode cL_lot 14 = .ok (.iload_n 1, 1) := by decide +kernel
theorem dL_lot_15 : decode cL_lot 15 = .ok (.sipush 2063, 3) := by decide +kernel
theorem dL_lot_18 : decode cL_lot 18 = .ok (.iadd, 1) := by decide +kernel
theorem dL_lot_19 : decode cL_lot 19 = .ok (.imul, 1) := by decide +kernel
theorem dL_lot_20 : decode cL_lot 20 = .ok (.sipush 1871, 3) := by decide +kernel
theorem dL_lot_23 : decode cL_lot 23 = .ok (.iadd, 1) := by decide +kernel
theorem dL_lot_24 : decode cL_lot 24 = .ok (.ireturn, 1) := by decide +kernel
theorem dL_low_0 : decode cL_low 0 = .ok (.iload_n 0, 1) := by decide +kernel
theorem dL_low_1 : decode cL_low 1 = .ok (.ldc 8, 2) := by decide +kernel
theorem dL_low_3 : decode cL_low 3 = .ok (.iand, 1) := by decide +kernel
theorem dL_low_4 : decode cL_low 4 = .ok (.iload_n 1, 1) := by decide +kernel
theorem dL_low_5 : decode cL_low 5 = .ok (.irem, 1) := by decide +kernel
theorem dL_low_6 : decode cL_low 6 = .ok (.ireturn, 1) := by decide +kernel
theorem dL_sound_0 : decode cL_sound 0 = .ok (.aload_n 0, 1) := by decide +kernel
theorem dL_sound_1 : decode cL_sound 1 = .ok (.iconst 0, 1) := by decide +kernel
theorem dL_sound_2 : decode cL_sound 2 = .ok (.invokevirtual 9, 3) := by decide +kernel
theorem dL_sound_5 : decode cL_sound 5 = .ok (.istore_n 1, 1) := by decide +kernel
theorem dL_sound_6 : decode cL_sound 6 = .ok (.aload_n 0, 1) := by decide +kernel
theorem dL_sound_7 : decode cL_sound 7 = .ok (.iconst 3, 1) := by decide +kernel
theorem dL_sound_8 : decode cL_sound 8 = .ok (.invokevirtual 9, 3) := by decide +kernel
theorem dL_sound_11 : decode cL_sound 11 = .ok (.istore_n 2, 1) := by decide +kernel
theorem dL_sound_12 : decode cL_sound 12 = .ok (.iconst 0, 1) := by decide +kernel
theorem dL_sound_13 : decode cL_sound 13 = .ok (.istore_n 3, 1) := by decide +kernel
theorem dL_sound_14 : decode cL_sound 14 = .ok (.iconst 0, 1) := by decide +kernel
theorem dL_sound_15 : decode cL_sound 15 = .ok (.istore 4, 2) := by decide +kernel
theorem dL_sound_17 : decode cL_sound 17 = .ok (.iconst 0, 1) := by decide +kernel
theorem dL_sound_18 : decode cL_sound 18 = .ok (.istore 5, 2) := by decide +kernel
theorem dL_sound_20 : decode cL_sound 20 = .ok (.iconst 0, 1) := by decide +kernel
theorem dL_sound_21 : decode cL_sound 21 = .ok (.istore 6, 2) := by decide +kernel
theorem dL_sound_23 : decode cL_sound 23 = .ok (.iconst 0, 1) := by decide +kernel
theorem dL_sound_24 : decode cL_sound 24 = .ok (.istore 7, 2) := by decide +kernel
theorem dL_sound_26 : decode cL_sound 26 = .ok (.iload 7, 2) := by decide +kernel
theorem dL_sound_28 : decode cL_sound 28 = .ok (.iload_n 1, 1) := by decide +kernel
theorem dL_sound_29 : decode cL_sound 29 = .ok (.if_icmp .ge 187, 3) := by decide +kernel
theorem dL_sound_32 : decode cL_sound 32 = .ok (.aload_n 0, 1) := by decide +kernel
theorem dL_sound_33 : decode cL_sound 33 = .ok (.iload 7, 2) := by decide +kernel
theorem dL_sound_35 : decode cL_sound 35 = .ok (.iconst 2, 1) := by decide +kernel
theorem dL_sound_36 : decode cL_sound 36 = .ok (.invokevirtual 15, 3) := by decide +kernel
theorem dL_sound_39 : decode cL_sound 39 = .ok (.istore 8, 2) := by decide +kernel
theorem dL_sound_41 : decode cL_sound 41 = .ok (.aload_n 0, 1) := by decide +kernel
theorem dL_sound_42 : decode cL_sound 42 = .ok (.iload 7, 2) := by decide +kernel
theorem dL_sound_44 : decode cL_sound 44 = .ok (.iconst 4, 1) := by decide +kernel
theorem dL_sound_45 : decode cL_sound 45 = .ok (.invokevirtual 15, 3) := by decide +kernel
theorem dL_sound_48 : decode cL_sound 48 = .ok (.istore 9, 2) := by decide +kernel
theorem dL_sound_50 : decode cL_sound 50 = .ok (.iload_n 3, 1) := by decide +kernel
theorem dL_sound_51 : decode cL_sound 51 = .ok (.aload_n 0, 1) := by decide +kernel
theorem dL_sound_52 : decode cL_sound 52 = .ok (.iload 7, 2) := by decide +kernel
theorem dL_sound_54 : decode cL_sound 54 = .ok (.iconst 3, 1) := by decide +kernel
theorem dL_sound_55 : decode cL_sound 55 = .ok (.invokevirtual 15, 3) := by decide +kernel
theorem dL_sound_58 : decode cL_sound 58 = .ok (.iadd, 1) := by decide +kernel
theorem dL_sound_59 : decode cL_sound 59 = .ok (.istore_n 3, 1) := by decide +kernel
theorem dL_sound_60 : decode cL_sound 60 = .ok (.iload 5, 2) := by decide +kernel
theorem dL_sound_62 : decode cL_sound 62 = .ok (.aload_n 0, 1) := by decide +kernel
theorem dL_sound_63 : decode cL_sound 63 = .ok (.iload 7, 2) := by decide +kernel
theorem dL_sound_65 : decode cL_sound 65 = .ok (.iconst 5, 1) := by decide +kernel
theorem dL_sound_66 : decode cL_sound 66 = .ok (.invokevirtual 15, 3) := by decide +kernel
theorem dL_sound_69 : decode cL_sound 69 = .ok (.iadd, 1) := by decide +kernel
theorem dL_sound_70 : decode cL_sound 70 = .ok (.istore 5, 2) := by decide +kernel
theorem dL_sound_72 : decode cL_sound 72 = .ok (.iload 4, 2) := by decide +kernel
theorem dL_sound_74 : decode cL_sound 74 = .ok (.aload_n 0, 1) := by decide +kernel
theorem dL_sound_75 : decode cL_sound 75 = .ok (.iload 7, 2) := by decide +kernel
theorem dL_sound_77 : decode cL_sound 77 = .ok (.bipush 6, 2) := by decide +kernel
theorem dL_sound_79 : decode cL_sound 79 = .ok (.invokevirtual 15, 3) := by decide +kernel
theorem dL_sound_82 : decode cL_sound 82 = .ok (.iadd, 1) := by decide +kernel
theorem dL_sound_83 : decode cL_sound 83 = .ok (.istore 4, 2) := by decide +kernel
theorem dL_sound_85 : decode cL_sound 85 = .ok (.iload 8, 2) := by decide +kernel
theorem dL_sound_87 : decode cL_sound 87 = .ok (.bipush (-4), 2) := by decide +kernel
theorem dL_sound_89 : decode cL_sound 89 = .ok (.if_icmp .eq 60, 3) := by decide +kernel
theorem dL_sound_92 : decode cL_sound 92 = .ok (.aload_n 0, 1) := by decide +kernel
theorem dL_sound_93 : decode cL_sound 93 = .ok (.iload 8, 2) := by decide +kernel
theorem dL_sound_95 : decode cL_sound 95 = .ok (.bipush 8, 2) := by decide +kernel
theorem dL_sound_97 : decode cL_sound 97 = .ok (.invokevirtual 21, 3) := by decide +kernel
theorem dL_sound_100 : decode cL_sound 100 = .ok (.iload 7, 2) := by decide +kernel
theorem dL_sound_102 : decode cL_sound 102 = .ok (.if_icmp .ne 106, 3) := by decide +kernel
theorem dL_sound_105 : decode cL_sound 105 = .ok (.iload 9, 2) := by decide +kernel
theorem dL_sound_107 : decode cL_sound 107 = .ok (.ifCond .ne 101, 3) := by decide +kernel
theorem dL_sound_110 : decode cL_sound 110 = .ok (.aload_n 0, 1) := by decide +kernel
theorem dL_sound_111 : decode cL_sound 111 = .ok (.iload 7, 2) := by decide +kernel
theorem dL_sound_113 : decode cL_sound 113 = .ok (.iconst 1, 1) := by decide +kernel
theorem dL_sound_114 : decode cL_sound 114 = .ok (.invokevirtual 15, 3) := by decide +kernel
theorem dL_sound_117 : decode cL_sound 117 = .ok (.aload_n 0, 1) := by decide +kernel
theorem dL_sound_118 : decode cL_sound 118 = .ok (.iload 8, 2) := by decide +kernel
theorem dL_sound_120 : decode cL_sound 120 = .ok (.iconst 2, 1) := by decide +kernel
theorem dL_sound_121 : decode cL_sound 121 = .ok (.invokevirtual 21, 3) := by decide +kernel
theorem dL_sound_124 : decode cL_sound 124 = .ok (.if_icmp .lt 84, 3) := by decide +kernel
theorem dL_sound_127 : decode cL_sound 127 = .ok (.aload_n 0, 1) := by decide +kernel
theorem dL_sound_128 : decode cL_sound 128 = .ok (.iload 8, 2) := by decide +kernel
theorem dL_sound_130 : decode cL_sound 130 = .ok (.iconst 5, 1) := by decide +kernel
theorem dL_sound_131 : decode cL_sound 131 = .ok (.invokevirtual 21, 3) := by decide +kernel
theorem dL_sound_134 : decode cL_sound 134 = .ok (.iconst 1, 1) := by decide +kernel
theorem dL_sound_135 : decode cL_sound 135 = .ok (.if_icmp .lt 73, 3) := by decide +kernel
theorem dL_sound_138 : decode cL_sound 138 = .ok (.aload_n 0, 1) := by decide +kernel
theorem dL_sound_139 : decode cL_sound 139 = .ok (.iload 8, 2) := by decide +kernel
theorem dL_sound_141 : decode cL_sound 141 = .ok (.iconst 5, 1) := by decide +kernel
theorem dL_sound_142 : decode cL_sound 142 = .ok (.invokevirtual 21, 3) := by decide +kernel
theorem dL_sound_145 : decode cL_sound 145 = .ok (.iconst 3, 1) := by decide +kernel
theorem dL_sound_146 : decode cL_sound 146 = .ok (.if_icmp .gt 62, 3) := by decide +kernel
theorem dL_sound_149 : decode cL_sound 149 = .ok (.iload 9, 2) := by decide +kernel
theorem dL_sound_151 : decode cL_sound 151 = .ok (.ifCond .lt 57, 3) := by decide +kernel
theorem dL_sound_154 : decode cL_sound 154 = .ok (.iload 9, 2) := by decide +kernel
theorem dL_sound_156 : decode cL_sound 156 = .ok (.bipush 30, 2) := by decide +kernel
theorem dL_sound_158 : decode cL_sound 158 = .ok (.if_icmp .gt 50, 3) := by decide +kernel
theorem dL_sound_161 : decode cL_sound 161 = .ok (.aload_n 0, 1) := by decide +kernel
theorem dL_sound_162 : decode cL_sound 162 = .ok (.iload 7, 2) := by decide +kernel
theorem dL_sound_164 : decode cL_sound 164 = .ok (.bipush 6, 2) := by decide +kernel
theorem dL_sound_166 : decode cL_sound 166 = .ok (.invokevirtual 15, 3) := by decide +kernel
theorem dL_sound_169 : decode cL_sound 169 = .ok (.iconst 1, 1) := by decide +kernel
theorem dL_sound_170 : decode cL_sound 170 = .ok (.if_icmp .ne 7, 3) := by decide +kernel
theorem dL_sound_173 : decode cL_sound 173 = .ok (.iconst 1, 1) := by decide +kernel
theorem dL_sound_174 : decode cL_sound 174 = .ok (.goto 4, 3) := by decide +kernel
theorem dL_sound_177 : decode cL_sound 177 = .ok (.iconst 0, 1) := by decide +kernel
theorem dL_sound_178 : decode cL_sound 178 = .ok (.iload 8, 2) := by decide +kernel
theorem dL_sound_180 : decode cL_sound 180 = .ok (.bipush (-4), 2) := by decide +kernel
theorem dL_sound_182 : decode cL_sound 182 = .ok (.if_icmp .ne 22, 3) := by decide +kernel
theorem dL_sound_185 : decode cL_sound 185 = .ok (.iload 9, 2) := by decide +kernel
theorem dL_sound_187 : decode cL_sound 187 = .ok (.ifCond .ne 17, 3) := by decide +kernel
theorem dL_sound_190 : decode cL_sound 190 = .ok (.aload_n 0, 1) := by decide +kernel
theorem dL_sound_191 : decode cL_sound 191 = .ok (.iload 7, 2) := by decide +kernel
theorem dL_sound_193 : decode cL_sound 193 = .ok (.iconst 3, 1) := by decide +kernel
theorem dL_sound_194 : decode cL_sound 194 = .ok (.invokevirtual 15, 3) := by decide +kernel
theorem dL_sound_197 : decode cL_sound 197 = .ok (.ifCond .ne 7, 3) := by decide +kernel
theorem dL_sound_200 : decode cL_sound 200 = .ok (.iconst 1, 1) := by decide +kernel
theorem dL_sound_201 : decode cL_sound 201 = .ok (.goto 4, 3) := by decide +kernel
theorem dL_sound_204 : decode cL_sound 204 = .ok (.iconst 0, 1) := by decide +kernel
theorem dL_sound_205 : decode cL_sound 205 = .ok (.if_icmp .eq 5, 3) := by decide +kernel
theorem dL_sound_208 : decode cL_sound 208 = .ok (.iconst 0, 1) := by decide +kernel
theorem dL_sound_209 : decode cL_sound 209 = .ok (.ireturn, 1) := by decide +kernel
theorem dL_sound_210 : decode cL_sound 210 = .ok (.iinc 7 1, 3) := by decide +kernel
theorem dL_sound_213 : decode cL_sound 213 = .ok (.goto (-187), 3) := by decide +kernel
theorem dL_sound_216 : decode cL_sound 216 = .ok (.iconst 0, 1) := by decide +kernel
theorem dL_sound_217 : decode cL_sound 217 = .ok (.istore 7, 2) := by decide +kernel
theorem dL_sound_219 : decode cL_sound 219 = .ok (.iload 7, 2) := by decide +kernel
theorem dL_sound_221 : decode cL_sound 221 = .ok (.bipush 7, 2) := by decide +kernel
theorem dL_sound_223 : decode cL_sound 223 = .ok (.if_icmp .ge 71, 3) := by decide +kernel
theorem dL_sound_226 : decode cL_sound 226 = .ok (.iconst 0, 1) := by decide +kernel
theorem dL_sound_227 : decode cL_sound 227 = .ok (.istore 8, 2) := by decide +kernel
theorem dL_sound_229 : decode cL_sound 229 = .ok (.iconst 0, 1) := by decide +kernel
theorem dL_sound_230 : decode cL_sound 230 = .ok (.istore 9, 2) := by decide +kernel
theorem dL_sound_232 : decode cL_sound 232 = .ok (.iload 9, 2) := by decide +kernel
theorem dL_sound_234 : decode cL_sound 234 = .ok (.iload_n 2, 1) := by decide +kernel
theorem dL_sound_235 : decode cL_sound 235 = .ok (.if_icmp .ge 31, 3) := by decide +kernel
theorem dL_sound_238 : decode cL_sound 238 = .ok (.iload 8, 2) := by decide +kernel
theorem dL_sound_240 : decode cL_sound 240 = .ok (.aload_n 0, 1) := by decide +kernel
theorem dL_sound_241 : decode cL_sound 241 = .ok (.iload 9, 2) := by decide +kernel
theorem dL_sound_243 : decode cL_sound 243 = .ok (.iconst 5, 1) := by decide +kernel
theorem dL_sound_244 : decode cL_sound 244 = .ok (.invokevirtual 21, 3) := by decide +kernel
theorem dL_sound_247 : decode cL_sound 247 = .ok (.iload 7, 2) := by decide +kernel
theorem dL_sound_249 : decode cL_sound 249 = .ok (.if_icmp .ne 7, 3) := by decide +kernel
theorem dL_sound_252 : decode cL_sound 252 = .ok (.iconst 1, 1) := by decide +kernel
theorem dL_sound_253 : decode cL_sound 253 = .ok (.goto 4, 3) := by decide +kernel
theorem dL_sound_256 : decode cL_sound 256 = .ok (.iconst 0, 1) := by decide +kernel
theorem dL_sound_257 : decode cL_sound 257 = .ok (.iadd, 1) := by decide +kernel
theorem dL_sound_258 : decode cL_sound 258 = .ok (.istore 8, 2) := by decide +kernel
theorem dL_sound_260 : decode cL_sound 260 = .ok (.iinc 9 1, 3) := by decide +kernel
theorem dL_sound_263 : decode cL_sound 263 = .ok (.goto (-31), 3) := by decide +kernel
theorem dL_sound_266 : decode cL_sound 266 = .ok (.iload 6, 2) := by decide +kernel
theorem dL_sound_268 : decode cL_sound 268 = .ok (.iload 8, 2) := by decide +kernel
theorem dL_sound_270 : decode cL_sound 270 = .ok (.iadd, 1) := by decide +kernel
theorem dL_sound_271 : decode cL_sound 271 = .ok (.istore 6, 2) := by decide +kernel
theorem dL_sound_273 : decode cL_sound 273 = .ok (.aload_n 0, 1) := by decide +kernel
theorem dL_sound_274 : decode cL_sound 274 = .ok (.iconst 4, 1) := by decide +kernel
theorem dL_sound_275 : decode cL_sound 275 = .ok (.iload 7, 2) := by decide +kernel
theorem dL_sound_277 : decode cL_sound 277 = .ok (.iadd, 1) := by decide +kernel
theorem dL_sound_278 : decode cL_sound 278 = .ok (.invokevirtual 9, 3) := by decide +kernel
theorem dL_sound_281 : decode cL_sound 281 = .ok (.iload 8, 2) := by decide +kernel
theorem dL_sound_283 : decode cL_sound 283 = .ok (.if_icmp .eq 5, 3) := by decide +kernel
theorem dL_sound_286 : decode cL_sound 286 = .ok (.iconst 0, 1) := by decide +kernel
theorem dL_sound_287 : decode cL_sound 287 = .ok (.ireturn, 1) := by decide +kernel
theorem dL_sound_288 : decode cL_sound 288 = .ok (.iinc 7 1, 3) := by decide +kernel
theorem dL_sound_291 : decode cL_sound 291 = .ok (.goto (-72), 3) := by decide +kernel
theorem dL_sound_294 : decode cL_sound 294 = .ok (.iconst 0, 1) := by decide +kernel
theorem dL_sound_295 : decode cL_sound 295 = .ok (.istore 7, 2) := by decide +kernel
theorem dL_sound_297 : decode cL_sound 297 = .ok (.iconst 0, 1) := by decide +kernel
theorem dL_sound_298 : decode cL_sound 298 = .ok (.istore 8, 2) := by decide +kernel
theorem dL_sound_300 : decode cL_sound 300 = .ok (.iload 8, 2) := by decide +kernel
theorem dL_sound_302 : decode cL_sound 302 = .ok (.iload_n 2, 1) := by decide +kernel
theorem dL_sound_303 : decode cL_sound 303 = .ok (.if_icmp .ge 442, 3) := by decide +kernel
theorem dL_sound_306 : decode cL_sound 306 = .ok (.aload_n 0, 1) := by decide +kernel
theorem dL_sound_307 : decode cL_sound 307 = .ok (.iload 8, 2) := by decide +kernel
theorem dL_sound_309 : decode cL_sound 309 = .ok (.iconst 5, 1) := by decide +kernel
theorem dL_sound_310 : decode cL_sound 310 = .ok (.invokevirtual 21, 3) := by decide +kernel
theorem dL_sound_313 : decode cL_sound 313 = .ok (.istore 9, 2) := by decide +kernel
theorem dL_sound_315 : decode cL_sound 315 = .ok (.aload_n 0, 1) := by decide +kernel
theorem dL_sound_316 : decode cL_sound 316 = .ok (.iload 8, 2) := by decide +kernel
theorem dL_sound_318 : decode cL_sound 318 = .ok (.bipush 8, 2) := by decide +kernel
theorem dL_sound_320 : decode cL_sound 320 = .ok (.invokevirtual 21, 3) := by decide +kernel
theorem dL_sound_323 : decode cL_sound 323 = .ok (.istore 10, 2) := by decide +kernel
theorem dL_sound_325 : decode cL_sound 325 = .ok (.aload_n 0, 1) := by decide +kernel
theorem dL_sound_326 : decode cL_sound 326 = .ok (.iload 8, 2) := by decide +kernel
theorem dL_sound_328 : decode cL_sound 328 = .ok (.iconst 0, 1) := by decide +kernel
theorem dL_sound_329 : decode cL_sound 329 = .ok (.invokevirtual 21, 3) := by decide +kernel
theorem dL_sound_332 : decode cL_sound 332 = .ok (.istore 11, 2) := by decide +kernel
theorem dL_sound_334 : decode cL_sound 334 = .ok (.aload_n 0, 1) := by decide +kernel
theorem dL_sound_335 : decode cL_sound 335 = .ok (.iload 8, 2) := by decide +kernel
theorem dL_sound_337 : decode cL_sound 337 = .ok (.iconst 1, 1) := by decide +kernel
theorem dL_sound_338 : decode cL_sound 338 = .ok (.invokevirtual 21, 3) := by decide +kernel
theorem dL_sound_341 : decode cL_sound 341 = .ok (.istore 12, 2) := by decide +kernel
theorem dL_sound_343 : decode cL_sound 343 = .ok (.aload_n 0, 1) := by decide +kernel
theorem dL_sound_344 : decode cL_sound 344 = .ok (.iload 8, 2) := by decide +kernel
theorem dL_sound_346 : decode cL_sound 346 = .ok (.bipush 6, 2) := by decide +kernel
theorem dL_sound_348 : decode cL_sound 348 = .ok (.invokevirtual 21, 3) := by decide +kernel
theorem dL_sound_351 : decode cL_sound 351 = .ok (.istore 13, 2) := by decide +kernel
theorem dL_sound_353 : decode cL_sound 353 = .ok (.aload_n 0, 1) := by decide +kernel
theorem dL_sound_354 : decode cL_sound 354 = .ok (.iload 8, 2) := by decide +kernel
theorem dL_sound_356 : decode cL_sound 356 = .ok (.bipush 7, 2) := by decide +kernel
theorem dL_sound_358 : decode cL_sound 358 = .ok (.invokevirtual 21, 3) := by decide +kernel
theorem dL_sound_361 : decode cL_sound 361 = .ok (.istore 14, 2) := by decide +kernel
theorem dL_sound_363 : decode cL_sound 363 = .ok (.aload_n 0, 1) := by decide +kernel
theorem dL_sound_364 : decode cL_sound 364 = .ok (.iload 8, 2) := by decide +kernel
theorem dL_sound_366 : decode cL_sound 366 = .ok (.iconst 4, 1) := by decide +kernel
theorem dL_sound_367 : decode cL_sound 367 = .ok (.invokevirtual 21, 3) := by decide +kernel
theorem dL_sound_370 : decode cL_sound 370 = .ok (.istore 15, 2) := by decide +kernel
theorem dL_sound_372 : decode cL_sound 372 = .ok (.iload 9, 2) := by decide +kernel
theorem dL_sound_374 : decode cL_sound 374 = .ok (.iconst 1, 1) := by decide +kernel
theorem dL_sound_375 : decode cL_sound 375 = .ok (.if_icmp .eq 9, 3) := by decide +kernel
theorem dL_sound_378 : decode cL_sound 378 = .ok (.iload 9, 2) := by decide +kernel
theorem dL_sound_380 : decode cL_sound 380 = .ok (.iconst 3, 1) := by decide +kernel
theorem dL_sound_381 : decode cL_sound 381 = .ok (.if_icmp .ne 7, 3) := by decide +kernel
theorem dL_sound_384 : decode cL_sound 384 = .ok (.iconst 1, 1) := by decide +kernel
theorem dL_sound_385 : decode cL_sound 385 = .ok (.goto 4, 3) := by decide +kernel
theorem dL_sound_388 : decode cL_sound 388 = .ok (.iconst 0, 1) := by decide +kernel
theorem dL_sound_389 : decode cL_sound 389 = .ok (.istore 16, 2) := by decide +kernel
theorem dL_sound_391 : decode cL_sound 391 = .ok (.iload 7, 2) := by decide +kernel
theorem dL_sound_393 : decode cL_sound 393 = .ok (.iload 16, 2) := by decide +kernel
theorem dL_sound_395 : decode cL_sound 395 = .ok (.ifCond .eq 7, 3) := by decide +kernel
theorem dL_sound_398 : decode cL_sound 398 = .ok (.iconst 1, 1) := by decide +kernel
theorem dL_sound_399 : decode cL_sound 399 = .ok (.goto 4, 3) := by decide +kernel
theorem dL_sound_402 : decode cL_sound 402 = .ok (.iconst 0, 1) := by decide +kernel
theorem dL_sound_403 : decode cL_sound 403 = .ok (.iadd, 1) := by decide +kernel
theorem dL_sound_404 : decode cL_sound 404 = .ok (.istore 7, 2) := by decide +kernel
theorem dL_sound_406 : decode cL_sound 406 = .ok (.iload 12, 2) := by decide +kernel
theorem dL_sound_408 : decode cL_sound 408 = .ok (.iconst 1, 1) := by decide +kernel
theorem dL_sound_409 : decode cL_sound 409 = .ok (.if_icmp .lt 133, 3) := by decide +kernel
theorem dL_sound_412 : decode cL_sound 412 = .ok (.iload 12, 2) := by decide +kernel
theorem dL_sound_414 : decode cL_sound 414 = .ok (.aload_n 0, 1) := by decide +kernel
theorem dL_sound_415 : decode cL_sound 415 = .ok (.iload 11, 2) := by decide +kernel
theorem dL_sound_417 : decode cL_sound 417 = .ok (.invokevirtual 24, 3) := by decide +kernel
theorem dL_sound_420 : decode cL_sound 420 = .ok (.if_icmp .gt 122, 3) := by decide +kernel
theorem dL_sound_423 : decode cL_sound 423 = .ok (.iload 9, 2) := by decide +kernel
theorem dL_sound_425 : decode cL_sound 425 = .ok (.bipush 6, 2) := by decide +kernel
theorem dL_sound_427 : decode cL_sound 427 = .ok (.if_icmp .ne 7, 3) := by decide +kernel
theorem dL_sound_430 : decode cL_sound 430 = .ok (.iconst 1, 1) := by decide +kernel
theorem dL_sound_431 : decode cL_sound 431 = .ok (.goto 4, 3) := by decide +kernel
theorem dL_sound_434 : decode cL_sound 434 = .ok (.iconst 0, 1) := by decide +kernel
theorem dL_sound_435 : decode cL_sound 435 = .ok (.iload 13, 2) := by decide +kernel
theorem dL_sound_437 : decode cL_sound 437 = .ok (.bipush (-4), 2) := by decide +kernel
theorem dL_sound_439 : decode cL_sound 439 = .ok (.if_icmp .ne 7, 3) := by decide +kernel
theorem dL_sound_442 : decode cL_sound 442 = .ok (.iconst 1, 1) := by decide +kernel
theorem dL_sound_443 : decode cL_sound 443 = .ok (.goto 4, 3) := by decide +kernel
theorem dL_sound_446 : decode cL_sound 446 = .ok (.iconst 0, 1) := by decide +kernel
theorem dL_sound_447 : decode cL_sound 447 = .ok (.if_icmp .ne 95, 3) := by decide +kernel
theorem dL_sound_450 : decode cL_sound 450 = .ok (.iload 9, 2) := by decide +kernel
theorem dL_sound_452 : decode cL_sound 452 = .ok (.bipush 6, 2) := by decide +kernel
theorem dL_sound_454 : decode cL_sound 454 = .ok (.if_icmp .ne 7, 3) := by decide +kernel
theorem dL_sound_457 : decode cL_sound 457 = .ok (.iconst 1, 1) := by decide +kernel
theorem dL_sound_458 : decode cL_sound 458 = .ok (.goto 4, 3) := by decide +kernel
theorem dL_sound_461 : decode cL_sound 461 = .ok (.iconst 0, 1) := by decide +kernel
theorem dL_sound_462 : decode cL_sound 462 = .ok (.iload 14, 2) := by decide +kernel
theorem dL_sound_464 : decode cL_sound 464 = .ok (.bipush (-4), 2) := by decide +kernel
theorem dL_sound_466 : decode cL_sound 466 = .ok (.if_icmp .ne 7, 3) := by decide +kernel
theorem dL_sound_469 : decode cL_sound 469 = .ok (.iconst 1, 1) := by decide +kernel
theorem dL_sound_470 : decode cL_sound 470 = .ok (.goto 4, 3) := by decide +kernel
theorem dL_sound_473 : decode cL_sound 473 = .ok (.iconst 0, 1) := by decide +kernel
theorem dL_sound_474 : decode cL_sound 474 = .ok (.if_icmp .ne 68, 3) := by decide +kernel
theorem dL_sound_477 : decode cL_sound 477 = .ok (.iload 9, 2) := by decide +kernel
theorem dL_sound_479 : decode cL_sound 479 = .ok (.iconst 3, 1) := by decide +kernel
theorem dL_sound_480 : decode cL_sound 480 = .ok (.if_icmp .le 10, 3) := by decide +kernel
theorem dL_sound_483 : decode cL_sound 483 = .ok (.iload 10, 2) := by decide +kernel
theorem dL_sound_485 : decode cL_sound 485 = .ok (.bipush (-4), 2) := by decide +kernel
theorem dL_sound_487 : decode cL_sound 487 = .ok (.if_icmp .ne 55, 3) := by decide +kernel
theorem dL_sound_490 : decode cL_sound 490 = .ok (.iload 9, 2) := by decide +kernel
theorem dL_sound_492 : decode cL_sound 492 = .ok (.ifCond .ne 15, 3) := by decide +kernel
theorem dL_sound_495 : decode cL_sound 495 = .ok (.iload 10, 2) := by decide +kernel
theorem dL_sound_497 : decode cL_sound 497 = .ok (.bipush (-4), 2) := by decide +kernel
theorem dL_sound_499 : decode cL_sound 499 = .ok (.if_icmp .ne 43, 3) := by decide +kernel
theorem dL_sound_502 : decode cL_sound 502 = .ok (.iload 13, 2) := by decide +kernel
theorem dL_sound_504 : decode cL_sound 504 = .ok (.ifCond .ne 38, 3) := by decide +kernel
theorem dL_sound_507 : decode cL_sound 507 = .ok (.aload_n 0, 1) := by decide +kernel
theorem dL_sound_508 : decode cL_sound 508 = .ok (.iload 8, 2) := by decide +kernel
theorem dL_sound_510 : decode cL_sound 510 = .ok (.invokevirtual 27, 3) := by decide +kernel
theorem dL_sound_513 : decode cL_sound 513 = .ok (.bipush (-4), 2) := by decide +kernel
theorem dL_sound_515 : decode cL_sound 515 = .ok (.if_icmp .ne 7, 3) := by decide +kernel
theorem dL_sound_518 : decode cL_sound 518 = .ok (.iconst 1, 1) := by decide +kernel
theorem dL_sound_519 : decode cL_sound 519 = .ok (.goto 4, 3) := by decide +kernel
theorem dL_sound_522 : decode cL_sound 522 = .ok (.iconst 0, 1) := by decide +kernel
theorem dL_sound_523 : decode cL_sound 523 = .ok (.iload 16, 2) := by decide +kernel
theorem dL_sound_525 : decode cL_sound 525 = .ok (.if_icmp .eq 17, 3) := by decide +kernel
theorem dL_sound_528 : decode cL_sound 528 = .ok (.iload 15, 2) := by decide +kernel
theorem dL_sound_530 : decode cL_sound 530 = .ok (.bipush (-4), 2) := by decide +kernel
theorem dL_sound_532 : decode cL_sound 532 = .ok (.if_icmp .eq 12, 3) := by decide +kernel
theorem dL_sound_535 : decode cL_sound 535 = .ok (.iload 15, 2) := by decide +kernel
theorem dL_sound_537 : decode cL_sound 537 = .ok (.iload 8, 2) := by decide +kernel
theorem dL_sound_539 : decode cL_sound 539 = .ok (.if_icmp .lt 5, 3) := by decide +kernel
theorem dL_sound_542 : decode cL_sound 542 = .ok (.iconst 0, 1) := by decide +kernel
theorem dL_sound_543 : decode cL_sound 543 = .ok (.ireturn, 1) := by decide +kernel
theorem dL_sound_544 : decode cL_sound 544 = .ok (.iload 13, 2) := by decide +kernel
theorem dL_sound_546 : decode cL_sound 546 = .ok (.bipush (-4), 2) := by decide +kernel
theorem dL_sound_548 : decode cL_sound 548 = .ok (.if_icmp .eq 105, 3) := by decide +kernel
theorem dL_sound_551 : decode cL_sound 551 = .ok (.aload_n 0, 1) := by decide +kernel
theorem dL_sound_552 : decode cL_sound 552 = .ok (.iload 11, 2) := by decide +kernel
theorem dL_sound_554 : decode cL_sound 554 = .ok (.iload 12, 2) := by decide +kernel
theorem dL_sound_556 : decode cL_sound 556 = .ok (.iload 13, 2) := by decide +kernel
theorem dL_sound_558 : decode cL_sound 558 = .ok (.iconst 1, 1) := by decide +kernel
theorem dL_sound_559 : decode cL_sound 559 = .ok (.invokevirtual 30, 3) := by decide +kernel
theorem dL_sound_562 : decode cL_sound 562 = .ok (.istore 17, 2) := by decide +kernel
theorem dL_sound_564 : decode cL_sound 564 = .ok (.iload 14, 2) := by decide +kernel
theorem dL_sound_566 : decode cL_sound 566 = .ok (.iconst 1, 1) := by decide +kernel
theorem dL_sound_567 : decode cL_sound 567 = .ok (.if_icmp .lt 84, 3) := by decide +kernel
theorem dL_sound_570 : decode cL_sound 570 = .ok (.iload 14, 2) := by decide +kernel
theorem dL_sound_572 : decode cL_sound 572 = .ok (.iload 17, 2) := by decide +kernel
theorem dL_sound_574 : decode cL_sound 574 = .ok (.if_icmp .gt 77, 3) := by decide +kernel
theorem dL_sound_577 : decode cL_sound 577 = .ok (.aload_n 0, 1) := by decide +kernel
theorem dL_sound_578 : decode cL_sound 578 = .ok (.iload 8, 2) := by decide +kernel
theorem dL_sound_580 : decode cL_sound 580 = .ok (.bipush 9, 2) := by decide +kernel
theorem dL_sound_582 : decode cL_sound 582 = .ok (.invokevirtual 21, 3) := by decide +kernel
theorem dL_sound_585 : decode cL_sound 585 = .ok (.iload 14, 2) := by decide +kernel
theorem dL_sound_587 : decode cL_sound 587 = .ok (.iload 17, 2) := by decide +kernel
theorem dL_sound_589 : decode cL_sound 589 = .ok (.if_icmp .ge 7, 3) := by decide +kernel
theorem dL_sound_592 : decode cL_sound 592 = .ok (.iconst 1, 1) := by decide +kernel
theorem dL_sound_593 : decode cL_sound 593 = .ok (.goto 4, 3) := by decide +kernel
theorem dL_sound_596 : decode cL_sound 596 = .ok (.iconst 0, 1) := by decide +kernel
theorem dL_sound_597 : decode cL_sound 597 = .ok (.if_icmp .ne 54, 3) := by decide +kernel
theorem dL_sound_600 : decode cL_sound 600 = .ok (.iload 10, 2) := by decide +kernel
theorem dL_sound_602 : decode cL_sound 602 = .ok (.bipush (-4), 2) := by decide +kernel
theorem dL_sound_604 : decode cL_sound 604 = .ok (.if_icmp .eq 24, 3) := by decide +kernel
theorem dL_sound_607 : decode cL_sound 607 = .ok (.aload_n 0, 1) := by decide +kernel
theorem dL_sound_608 : decode cL_sound 608 = .ok (.iload 10, 2) := by decide +kernel
theorem dL_sound_610 : decode cL_sound 610 = .ok (.iconst 0, 1) := by decide +kernel
theorem dL_sound_611 : decode cL_sound 611 = .ok (.invokevirtual 15, 3) := by decide +kernel
theorem dL_sound_614 : decode cL_sound 614 = .ok (.aload_n 0, 1) := by decide +kernel
theorem dL_sound_615 : decode cL_sound 615 = .ok (.iload 11, 2) := by decide +kernel
theorem dL_sound_617 : decode cL_sound 617 = .ok (.iload 12, 2) := by decide +kernel
theorem dL_sound_619 : decode cL_sound 619 = .ok (.iload 13, 2) := by decide +kernel
theorem dL_sound_621 : decode cL_sound 621 = .ok (.iconst 0, 1) := by decide +kernel
theorem dL_sound_622 : decode cL_sound 622 = .ok (.invokevirtual 30, 3) := by decide +kernel
theorem dL_sound_625 : decode cL_sound 625 = .ok (.if_icmp .ne 26, 3) := by decide +kernel
theorem dL_sound_628 : decode cL_sound 628 = .ok (.iload 10, 2) := by decide +kernel
theorem dL_sound_630 : decode cL_sound 630 = .ok (.bipush (-4), 2) := by decide +kernel
theorem dL_sound_632 : decode cL_sound 632 = .ok (.if_icmp .eq 21, 3) := by decide +kernel
theorem dL_sound_635 : decode cL_sound 635 = .ok (.iload 16, 2) := by decide +kernel
theorem dL_sound_637 : decode cL_sound 637 = .ok (.ifCond .eq 16, 3) := by decide +kernel
theorem dL_sound_640 : decode cL_sound 640 = .ok (.aload_n 0, 1) := by decide +kernel
theorem dL_sound_641 : decode cL_sound 641 = .ok (.iload 10, 2) := by decide +kernel
theorem dL_sound_643 : decode cL_sound 643 = .ok (.iconst 3, 1) := by decide +kernel
theorem dL_sound_644 : decode cL_sound 644 = .ok (.invokevirtual 15, 3) := by decide +kernel
theorem dL_sound_647 : decode cL_sound 647 = .ok (.iconst 1, 1) := by decide +kernel
theorem dL_sound_648 : decode cL_sound 648 = .ok (.if_icmp .ne 5, 3) := by decide +kernel
theorem dL_sound_651 : decode cL_sound 651 = .ok (.iconst 0, 1) := by decide +kernel
theorem dL_sound_652 : decode cL_sound 652 = .ok (.ireturn, 1) := by decide +kernel
theorem dL_sound_653 : decode cL_sound 653 = .ok (.iload 13, 2) := by decide +kernel
theorem dL_sound_655 : decode cL_sound 655 = .ok (.bipush (-4), 2) := by decide +kernel
theorem dL_sound_657 : decode cL_sound 657 = .ok (.if_icmp .eq 20, 3) := by decide +kernel
theorem dL_sound_660 : decode cL_sound 660 = .ok (.iload 13, 2) := by decide +kernel
theorem dL_sound_662 : decode cL_sound 662 = .ok (.ifCond .gt 15, 3) := by decide +kernel
theorem dL_sound_665 : decode cL_sound 665 = .ok (.aload_n 0, 1) := by decide +kernel
theorem dL_sound_666 : decode cL_sound 666 = .ok (.iload 8, 2) := by decide +kernel
theorem dL_sound_668 : decode cL_sound 668 = .ok (.bipush 9, 2) := by decide +kernel
theorem dL_sound_670 : decode cL_sound 670 = .ok (.invokevirtual 21, 3) := by decide +kernel
theorem dL_sound_673 : decode cL_sound 673 = .ok (.iconst 1, 1) := by decide +kernel
theorem dL_sound_674 : decode cL_sound 674 = .ok (.if_icmp .ne 7, 3) := by decide +kernel
theorem dL_sound_677 : decode cL_sound 677 = .ok (.iconst 1, 1) := by decide +kernel
theorem dL_sound_678 : decode cL_sound 678 = .ok (.goto 4, 3) := by decide +kernel
theorem dL_sound_681 : decode cL_sound 681 = .ok (.iconst 0, 1) := by decide +kernel
theorem dL_sound_682 : decode cL_sound 682 = .ok (.istore 17, 2) := by decide +kernel
theorem dL_sound_684 : decode cL_sound 684 = .ok (.iload 17, 2) := by decide +kernel
theorem dL_sound_686 : decode cL_sound 686 = .ok (.ifCond .eq 22, 3) := by decide +kernel
theorem dL_sound_689 : decode cL_sound 689 = .ok (.iload 15, 2) := by decide +kernel
theorem dL_sound_691 : decode cL_sound 691 = .ok (.bipush (-4), 2) := by decide +kernel
theorem dL_sound_693 : decode cL_sound 693 = .ok (.if_icmp .eq 15, 3) := by decide +kernel
theorem dL_sound_696 : decode cL_sound 696 = .ok (.aload_n 0, 1) := by decide +kernel
theorem dL_sound_697 : decode cL_sound 697 = .ok (.iload 15, 2) := by decide +kernel
theorem dL_sound_699 : decode cL_sound 699 = .ok (.iconst 5, 1) := by decide +kernel
theorem dL_sound_700 : decode cL_sound 700 = .ok (.invokevirtual 21, 3) := by decide +kernel
theorem dL_sound_703 : decode cL_sound 703 = .ok (.bipush 6, 2) := by decide +kernel
theorem dL_sound_705 : decode cL_sound 705 = .ok (.if_icmp .ne 32, 3) := by decide +kernel
theorem dL_sound_708 : decode cL_sound 708 = .ok (.aload_n 0, 1) := by decide +kernel
theorem dL_sound_709 : decode cL_sound 709 = .ok (.iload 8, 2) := by decide +kernel
theorem dL_sound_711 : decode cL_sound 711 = .ok (.bipush 11, 2) := by decide +kernel
theorem dL_sound_713 : decode cL_sound 713 = .ok (.invokevirtual 21, 3) := by decide +kernel
theorem dL_sound_716 : decode cL_sound 716 = .ok (.aload_n 0, 1) := by decide +kernel
theorem dL_sound_717 : decode cL_sound 717 = .ok (.iload 8, 2) := by decide +kernel
theorem dL_sound_719 : decode cL_sound 719 = .ok (.iconst 2, 1) := by decide +kernel
theorem dL_sound_720 : decode cL_sound 720 = .ok (.invokevirtual 21, 3) := by decide +kernel
theorem dL_sound_723 : decode cL_sound 723 = .ok (.if_icmp .gt 14, 3) := by decide +kernel
theorem dL_sound_726 : decode cL_sound 726 = .ok (.aload_n 0, 1) := by decide +kernel
theorem dL_sound_727 : decode cL_sound 727 = .ok (.iload 8, 2) := by decide +kernel
theorem dL_sound_729 : decode cL_sound 729 = .ok (.bipush 11, 2) := by decide +kernel
theorem dL_sound_731 : decode cL_sound 731 = .ok (.invokevirtual 21, 3) := by decide +kernel
theorem dL_sound_734 : decode cL_sound 734 = .ok (.ifCond .ge 5, 3) := by decide +kernel
theorem dL_sound_737 : decode cL_sound 737 = .ok (.iconst 0, 1) := by decide +kernel
theorem dL_sound_738 : decode cL_sound 738 = .ok (.ireturn, 1) := by decide +kernel
theorem dL_sound_739 : decode cL_sound 739 = .ok (.iinc 8 1, 3) := by decide +kernel
theorem dL_sound_742 : decode cL_sound 742 = .ok (.goto (-442), 3) := by decide +kernel
theorem dL_sound_745 : decode cL_sound 745 = .ok (.iconst 0, 1) := by decide +kernel
theorem dL_sound_746 : decode cL_sound 746 = .ok (.istore 8, 2) := by decide +kernel
theorem dL_sound_748 : decode cL_sound 748 = .ok (.iload 8, 2) := by decide +kernel
theorem dL_sound_750 : decode cL_sound 750 = .ok (.iconst 3, 1) := by decide +kernel
theorem dL_sound_751 : decode cL_sound 751 = .ok (.if_icmp .ge 93, 3) := by decide +kernel
theorem dL_sound_754 : decode cL_sound 754 = .ok (.aload_n 0, 1) := by decide +kernel
theorem dL_sound_755 : decode cL_sound 755 = .ok (.iload 8, 2) := by decide +kernel
theorem dL_sound_757 : decode cL_sound 757 = .ok (.invokevirtual 34, 3) := by decide +kernel
theorem dL_sound_760 : decode cL_sound 760 = .ok (.istore 9, 2) := by decide +kernel
theorem dL_sound_762 : decode cL_sound 762 = .ok (.iload 9, 2) := by decide +kernel
theorem dL_sound_764 : decode cL_sound 764 = .ok (.bipush (-4), 2) := by decide +kernel
theorem dL_sound_766 : decode cL_sound 766 = .ok (.if_icmp .eq 72, 3) := by decide +kernel
theorem dL_sound_769 : decode cL_sound 769 = .ok (.aload_n 0, 1) := by decide +kernel
theorem dL_sound_770 : decode cL_sound 770 = .ok (.iload 9, 2) := by decide +kernel
theorem dL_sound_772 : decode cL_sound 772 = .ok (.iconst 5, 1) := by decide +kernel
theorem dL_sound_773 : decode cL_sound 773 = .ok (.invokevirtual 21, 3) := by decide +kernel
theorem dL_sound_776 : decode cL_sound 776 = .ok (.iconst 1, 1) := by decide +kernel
theorem dL_sound_777 : decode cL_sound 777 = .ok (.if_icmp .eq 14, 3) := by decide +kernel
theorem dL_sound_780 : decode cL_sound 780 = .ok (.aload_n 0, 1) := by decide +kernel
theorem dL_sound_781 : decode cL_sound 781 = .ok (.iload 9, 2) := by decide +kernel
theorem dL_sound_783 : decode cL_sound 783 = .ok (.iconst 5, 1) := by decide +kernel
theorem dL_sound_784 : decode cL_sound 784 = .ok (.invokevirtual 21, 3) := by decide +kernel
theorem dL_sound_787 : decode cL_sound 787 = .ok (.iconst 3, 1) := by decide +kernel
theorem dL_sound_788 : decode cL_sound 788 = .ok (.if_icmp .ne 48, 3) := by decide +kernel
theorem dL_sound_791 : decode cL_sound 791 = .ok (.aload_n 0, 1) := by decide +kernel
theorem dL_sound_792 : decode cL_sound 792 = .ok (.aload_n 0, 1) := by decide +kernel
theorem dL_sound_793 : decode cL_sound 793 = .ok (.iload 9, 2) := by decide +kernel
theorem dL_sound_795 : decode cL_sound 795 = .ok (.iconst 0, 1) := by decide +kernel
theorem dL_sound_796 : decode cL_sound 796 = .ok (.invokevirtual 21, 3) := by decide +kernel
theorem dL_sound_799 : decode cL_sound 799 = .ok (.aload_n 0, 1) := by decide +kernel
theorem dL_sound_800 : decode cL_sound 800 = .ok (.iload 9, 2) := by decide +kernel
theorem dL_sound_802 : decode cL_sound 802 = .ok (.iconst 1, 1) := by decide +kernel
theorem dL_sound_803 : decode cL_sound 803 = .ok (.invokevirtual 21, 3) := by decide +kernel
theorem dL_sound_806 : decode cL_sound 806 = .ok (.aload_n 0, 1) := by decide +kernel
theorem dL_sound_807 : decode cL_sound 807 = .ok (.iload 9, 2) := by decide +kernel
theorem dL_sound_809 : decode cL_sound 809 = .ok (.bipush 6, 2) := by decide +kernel
theorem dL_sound_811 : decode cL_sound 811 = .ok (.invokevirtual 21, 3) := by decide +kernel
theorem dL_sound_814 : decode cL_sound 814 = .ok (.iconst 2, 1) := by decide +kernel
theorem dL_sound_815 : decode cL_sound 815 = .ok (.invokevirtual 30, 3) := by decide +kernel
theorem dL_sound_818 : decode cL_sound 818 = .ok (.iload 8, 2) := by decide +kernel
theorem dL_sound_820 : decode cL_sound 820 = .ok (.if_icmp .ne 16, 3) := by decide +kernel
theorem dL_sound_823 : decode cL_sound 823 = .ok (.aload_n 0, 1) := by decide +kernel
theorem dL_sound_824 : decode cL_sound 824 = .ok (.iload 9, 2) := by decide +kernel
theorem dL_sound_826 : decode cL_sound 826 = .ok (.bipush 8, 2) := by decide +kernel
theorem dL_sound_828 : decode cL_sound 828 = .ok (.invokevirtual 21, 3) := by decide +kernel
theorem dL_sound_831 : decode cL_sound 831 = .ok (.bipush (-4), 2) := by decide +kernel
theorem dL_sound_833 : decode cL_sound 833 = .ok (.if_icmp .ne 5, 3) := by decide +kernel
theorem dL_sound_836 : decode cL_sound 836 = .ok (.iconst 0, 1) := by decide +kernel
theorem dL_sound_837 : decode cL_sound 837 = .ok (.ireturn, 1) := by decide +kernel
theorem dL_sound_838 : decode cL_sound 838 = .ok (.iinc 8 1, 3) := by decide +kernel
theorem dL_sound_841 : decode cL_sound 841 = .ok (.goto (-93), 3) := by decide +kernel
theorem dL_sound_844 : decode cL_sound 844 = .ok (.iload 6, 2) := by decide +kernel
theorem dL_sound_846 : decode cL_sound 846 = .ok (.iload_n 2, 1) := by decide +kernel
theorem dL_sound_847 : decode cL_sound 847 = .ok (.if_icmp .ne 64, 3) := by decide +kernel
theorem dL_sound_850 : decode cL_sound 850 = .ok (.aload_n 0, 1) := by decide +kernel
theorem dL_sound_851 : decode cL_sound 851 = .ok (.iconst 1, 1) := by decide +kernel
theorem dL_sound_852 : decode cL_sound 852 = .ok (.invokevirtual 9, 3) := by decide +kernel
theorem dL_sound_855 : decode cL_sound 855 = .ok (.iload_n 3, 1) := by decide +kernel
theorem dL_sound_856 : decode cL_sound 856 = .ok (.if_icmp .ne 55, 3) := by decide +kernel
theorem dL_sound_859 : decode cL_sound 859 = .ok (.aload_n 0, 1) := by decide +kernel
theorem dL_sound_860 : decode cL_sound 860 = .ok (.iconst 2, 1) := by decide +kernel
theorem dL_sound_861 : decode cL_sound 861 = .ok (.invokevirtual 9, 3) := by decide +kernel
theorem dL_sound_864 : decode cL_sound 864 = .ok (.iload 4, 2) := by decide +kernel
theorem dL_sound_866 : decode cL_sound 866 = .ok (.if_icmp .ne 45, 3) := by decide +kernel
theorem dL_sound_869 : decode cL_sound 869 = .ok (.aload_n 0, 1) := by decide +kernel
theorem dL_sound_870 : decode cL_sound 870 = .ok (.bipush 16, 2) := by decide +kernel
theorem dL_sound_872 : decode cL_sound 872 = .ok (.invokevirtual 9, 3) := by decide +kernel
