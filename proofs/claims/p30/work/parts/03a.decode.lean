theorem dX0_init_0 : decode cX0_init 0 = .ok (.aload_n 0, 1) := by decide +kernel
theorem dX0_init_1 : decode cX0_init 1 = .ok (.invokespecial 3, 3) := by decide +kernel
theorem dX0_init_4 : decode cX0_init 4 = .ok (.return_, 1) := by decide +kernel
theorem dX0_reset_0 : decode cX0_reset 0 = .ok (.aload_n 0, 1) := by decide +kernel
theorem dX0_reset_1 : decode cX0_reset 1 = .ok (.iload_n 1, 1) := by decide +kernel
theorem dX0_reset_2 : decode cX0_reset 2 = .ok (.putfield 9, 3) := by decide +kernel
theorem dX0_reset_5 : decode cX0_reset 5 = .ok (.aload_n 0, 1) := by decide +kernel
theorem dX0_reset_6 : decode cX0_reset 6 = .ok (.iload_n 2, 1) := by decide +kernel
theorem dX0_reset_7 : decode cX0_reset 7 = .ok (.putfield 15, 3) := by decide +kernel
theorem dX0_reset_10 : decode cX0_reset 10 = .ok (.aload_n 0, 1) := by decide +kernel
theorem dX0_reset_11 : decode cX0_reset 11 = .ok (.iload_n 3, 1) := by decide +kernel
theorem dX0_reset_12 : decode cX0_reset 12 = .ok (.putfield 18, 3) := by decide +kernel
theorem dX0_reset_15 : decode cX0_reset 15 = .ok (.aload_n 0, 1) := by decide +kernel
theorem dX0_reset_16 : decode cX0_reset 16 = .ok (.iload 4, 2) := by decide +kernel
theorem dX0_reset_18 : decode cX0_reset 18 = .ok (.putfield 21, 3) := by decide +kernel
theorem dX0_reset_21 : decode cX0_reset 21 = .ok (.aload_n 0, 1) := by decide +kernel
theorem dX0_reset_22 : decode cX0_reset 22 = .ok (.iload 5, 2) := by decide +kernel
theorem dX0_reset_24 : decode cX0_reset 24 = .ok (.putfield 24, 3) := by decide +kernel
theorem dX0_reset_27 : decode cX0_reset 27 = .ok (.aload_n 0, 1) := by decide +kernel
theorem dX0_reset_28 : decode cX0_reset 28 = .ok (.iconst 0, 1) := by decide +kernel
theorem dX0_reset_29 : decode cX0_reset 29 = .ok (.putfield 27, 3) := by decide +kernel
theorem dX0_reset_32 : decode cX0_reset 32 = .ok (.aload_n 0, 1) := by decide +kernel
theorem dX0_reset_33 : decode cX0_reset 33 = .ok (.iconst 0, 1) := by decide +kernel
theorem dX0_reset_34 : decode cX0_reset 34 = .ok (.putfield 30, 3) := by decide +kernel
theorem dX0_reset_37 : decode cX0_reset 37 = .ok (.aload_n 0, 1) := by decide +kernel
theorem dX0_reset_38 : decode cX0_reset 38 = .ok (.iconst 0, 1) := by decide +kernel
theorem dX0_reset_39 : decode cX0_reset 39 = .ok (.putfield 33, 3) := by decide +kernel
theorem dX0_reset_42 : decode cX0_reset 42 = .ok (.aload_n 0, 1) := by decide +kernel
theorem dX0_reset_43 : decode cX0_reset 43 = .ok (.iconst (-1), 1) := by decide +kernel
theorem dX0_reset_44 : decode cX0_reset 44 = .ok (.putfield 36, 3) := by decide +kernel
theorem dX0_reset_47 : decode cX0_reset 47 = .ok (.aload_n 0, 1) := by decide +kernel
theorem dX0_reset_48 : decode cX0_reset 48 = .ok (.iload_n 3, 1) := by decide +kernel
theorem dX0_reset_49 : decode cX0_reset 49 = .ok (.i2f, 1) := by decide +kernel
theorem dX0_reset_50 : decode cX0_reset 50 = .ok (.putfield 39, 3) := by decide +kernel
theorem dX0_reset_53 : decode cX0_reset 53 = .ok (.return_, 1) := by decide +kernel
theorem dX0_copyFrom_0 : decode cX0_copyFrom 0 = .ok (.aload_n 0, 1) := by decide +kernel
theorem dX0_copyFrom_1 : decode cX0_copyFrom 1 = .ok (.aload_n 1, 1) := by decide +kernel
theorem dX0_copyFrom_2 : decode cX0_copyFrom 2 = .ok (.getfield 9, 3) := by decide +kernel
theorem dX0_copyFrom_5 : decode cX0_copyFrom 5 = .ok (.putfield 9, 3) := by decide +kernel
theorem dX0_copyFrom_8 : decode cX0_copyFrom 8 = .ok (.aload_n 0, 1) := by decide +kernel
theorem dX0_copyFrom_9 : decode cX0_copyFrom 9 = .ok (.aload_n 1, 1) := by decide +kernel
theorem dX0_copyFrom_10 : decode cX0_copyFrom 10 = .ok (.getfield 15, 3) := by decide +kernel
theorem dX0_copyFrom_13 : decode cX0_copyFrom 13 = .ok (.putfield 15, 3) := by decide +kernel
theorem dX0_copyFrom_16 : decode cX0_copyFrom 16 = .ok (.aload_n 0, 1) := by decide +kernel
theorem dX0_copyFrom_17 : decode cX0_copyFrom 17 = .ok (.aload_n 1, 1) := by decide +kernel
theorem dX0_copyFrom_18 : decode cX0_copyFrom 18 = .ok (.getfield 18, 3) := by decide +kernel
theorem dX0_copyFrom_21 : decode cX0_copyFrom 21 = .ok (.putfield 18, 3) := by decide +kernel
theorem dX0_copyFrom_24 : decode cX0_copyFrom 24 = .ok (.aload_n 0, 1) := by decide +kernel
theorem dX0_copyFrom_25 : decode cX0_copyFrom 25 = .ok (.aload_n 1, 1) := by decide +kernel
theorem dX0_copyFrom_26 : decode cX0_copyFrom 26 = .ok (.getfield 21, 3) := by decide +kernel
theorem dX0_copyFrom_29 : decode cX0_copyFrom 29 = .ok (.putfield 21, 3) := by decide +kernel
theorem dX0_copyFrom_32 : decode cX0_copyFrom 32 = .ok (.aload_n 0, 1) := by decide +kernel
theorem dX0_copyFrom_33 : decode cX0_copyFrom 33 = .ok (.aload_n 1, 1) := by decide +kernel
theorem dX0_copyFrom_34 : decode cX0_copyFrom 34 = .ok (.getfield 24, 3) := by decide +kernel
theorem dX0_copyFrom_37 : decode cX0_copyFrom 37 = .ok (.putfield 24, 3) := by decide +kernel
theorem dX0_copyFrom_40 : decode cX0_copyFrom 40 = .ok (.aload_n 0, 1) := by decide +kernel
theorem dX0_copyFrom_41 : decode cX0_copyFrom 41 = .ok (.aload_n 1, 1) := by decide +kernel
theorem dX0_copyFrom_42 : decode cX0_copyFrom 42 = .ok (.getfield 27, 3) := by decide +kernel
theorem dX0_copyFrom_45 : decode cX0_copyFrom 45 = .ok (.putfield 27, 3) := by decide +kernel
theorem dX0_copyFrom_48 : decode cX0_copyFrom 48 = .ok (.aload_n 0, 1) := by decide +kernel
theorem dX0_copyFrom_49 : decode cX0_copyFrom 49 = .ok (.aload_n 1, 1) := by decide +kernel
theorem dX0_copyFrom_50 : decode cX0_copyFrom 50 = .ok (.getfield 30, 3) := by decide +kernel
theorem dX0_copyFrom_53 : decode cX0_copyFrom 53 = .ok (.putfield 30, 3) := by decide +kernel
theorem dX0_copyFrom_56 : decode cX0_copyFrom 56 = .ok (.aload_n 0, 1) := by decide +kernel
theorem dX0_copyFrom_57 : decode cX0_copyFrom 57 = .ok (.aload_n 1, 1) := by decide +kernel
theorem dX0_copyFrom_58 : decode cX0_copyFrom 58 = .ok (.getfield 33, 3) := by decide +kernel
theorem dX0_copyFrom_61 : decode cX0_copyFrom 61 = .ok (.putfield 33, 3) := by decide +kernel
theorem dX0_copyFrom_64 : decode cX0_copyFrom 64 = .ok (.aload_n 0, 1) := by decide +kernel
theorem dX0_copyFrom_65 : decode cX0_copyFrom 65 = .ok (.aload_n 1, 1) := by decide +kernel
theorem dX0_copyFrom_66 : decode cX0_copyFrom 66 = .ok (.getfield 36, 3) := by decide +kernel
theorem dX0_copyFrom_69 : decode cX0_copyFrom 69 = .ok (.putfield 36, 3) := by decide +kernel
theorem dX0_copyFrom_72 : decode cX0_copyFrom 72 = .ok (.aload_n 0, 1) := by decide +kernel
theorem dX0_copyFrom_73 : decode cX0_copyFrom 73 = .ok (.aload_n 1, 1) := by decide +kernel
theorem dX0_copyFrom_74 : decode cX0_copyFrom 74 = .ok (.getfield 39, 3) := by decide +kernel
theorem dX0_copyFrom_77 : decode cX0_copyFrom 77 = .ok (.putfield 39, 3) := by decide +kernel
theorem dX0_copyFrom_80 : decode cX0_copyFrom 80 = .ok (.return_, 1) := by decide +kernel
theorem dX0_isActive_0 : decode cX0_isActive 0 = .ok (.aload_n 0, 1) := by decide +kernel
theorem dX0_isActive_1 : decode cX0_isActive 1 = .ok (.getfield 27, 3) := by decide +kernel
theorem dX0_isActive_4 : decode cX0_isActive 4 = .ok (.iconst 1, 1) := by decide +kernel
theorem dX0_isActive_5 : decode cX0_isActive 5 = .ok (.if_icmp .eq 11, 3) := by decide +kernel
theorem dX0_isActive_8 : decode cX0_isActive 8 = .ok (.aload_n 0, 1) := by decide +kernel
theorem dX0_isActive_9 : decode cX0_isActive 9 = .ok (.getfield 27, 3) := by decide +kernel
theorem dX0_isActive_12 : decode cX0_isActive 12 = .ok (.iconst 3, 1) := by decide +kernel
theorem dX0_isActive_13 : decode cX0_isActive 13 = .ok (.if_icmp .ne 7, 3) := by decide +kernel
theorem dX0_isActive_16 : decode cX0_isActive 16 = .ok (.iconst 1, 1) := by decide +kernel
theorem dX0_isActive_17 : decode cX0_isActive 17 = .ok (.goto 4, 3) := by decide +kernel
theorem dX0_isActive_20 : decode cX0_isActive 20 = .ok (.iconst 0, 1) := by decide +kernel
theorem dX0_isActive_21 : decode cX0_isActive 21 = .ok (.ireturn, 1) := by decide +kernel
theorem dX0_isAtEnd_0 : decode cX0_isAtEnd 0 = .ok (.aload_n 0, 1) := by decide +kernel
theorem dX0_isAtEnd_1 : decode cX0_isAtEnd 1 = .ok (.getfield 27, 3) := by decide +kernel
theorem dX0_isAtEnd_4 : decode cX0_isAtEnd 4 = .ok (.iconst 4, 1) := by decide +kernel
theorem dX0_isAtEnd_5 : decode cX0_isAtEnd 5 = .ok (.if_icmp .eq 20, 3) := by decide +kernel
theorem dX0_isAtEnd_8 : decode cX0_isAtEnd 8 = .ok (.aload_n 0, 1) := by decide +kernel
theorem dX0_isAtEnd_9 : decode cX0_isAtEnd 9 = .ok (.getfield 27, 3) := by decide +kernel
theorem dX0_isAtEnd_12 : decode cX0_isAtEnd 12 = .ok (.iconst 5, 1) := by decide +kernel
theorem dX0_isAtEnd_13 : decode cX0_isAtEnd 13 = .ok (.if_icmp .eq 12, 3) := by decide +kernel
theorem dX0_isAtEnd_16 : decode cX0_isAtEnd 16 = .ok (.aload_n 0, 1) := by decide +kernel
theorem dX0_isAtEnd_17 : decode cX0_isAtEnd 17 = .ok (.getfield 27, 3) := by decide +kernel
theorem dX0_isAtEnd_20 : decode cX0_isAtEnd 20 = .ok (.bipush 6, 2) := by decide +kernel
theorem dX0_isAtEnd_22 : decode cX0_isAtEnd 22 = .ok (.if_icmp .ne 7, 3) := by decide +kernel
theorem dX0_isAtEnd_25 : decode cX0_isAtEnd 25 = .ok (.iconst 1, 1) := by decide +kernel
theorem dX0_isAtEnd_26 : decode cX0_isAtEnd 26 = .ok (.goto 4, 3) := by decide +kernel
theorem dX0_isAtEnd_29 : decode cX0_isAtEnd 29 = .ok (.iconst 0, 1) := by decide +kernel
theorem dX0_isAtEnd_30 : decode cX0_isAtEnd 30 = .ok (.ireturn, 1) := by decide +kernel
theorem dX0_isUnderWay_0 : decode cX0_isUnderWay 0 = .ok (.aload_n 0, 1) := by decide +kernel
theorem dX0_isUnderWay_1 : decode cX0_isUnderWay 1 = .ok (.getfield 33, 3) := by decide +kernel
theorem dX0_isUnderWay_4 : decode cX0_isUnderWay 4 = .ok (.ifCond .le 7, 3) := by decide +kernel
theorem dX0_isUnderWay_7 : decode cX0_isUnderWay 7 = .ok (.iconst 1, 1) := by decide +kernel
theorem dX0_isUnderWay_8 : decode cX0_isUnderWay 8 = .ok (.goto 4, 3) := by decide +kernel
theorem dX0_isUnderWay_11 : decode cX0_isUnderWay 11 = .ok (.iconst 0, 1) := by decide +kernel
theorem dX0_isUnderWay_12 : decode cX0_isUnderWay 12 = .ok (.ireturn, 1) := by decide +kernel
theorem dX0_hasBegun_0 : decode cX0_hasBegun 0 = .ok (.aload_n 0, 1) := by decide +kernel
theorem dX0_hasBegun_1 : decode cX0_hasBegun 1 = .ok (.getfield 30, 3) := by decide +kernel
theorem dX0_hasBegun_4 : decode cX0_hasBegun 4 = .ok (.ifCond .gt 10, 3) := by decide +kernel
theorem dX0_hasBegun_7 : decode cX0_hasBegun 7 = .ok (.aload_n 0, 1) := by decide +kernel
theorem dX0_hasBegun_8 : decode cX0_hasBegun 8 = .ok (.getfield 33, 3) := by decide +kernel
theorem dX0_hasBegun_11 : decode cX0_hasBegun 11 = .ok (.ifCond .le 7, 3) := by decide +kernel
theorem dX0_hasBegun_14 : decode cX0_hasBegun 14 = .ok (.iconst 1, 1) := by decide +kernel
theorem dX0_hasBegun_15 : decode cX0_hasBegun 15 = .ok (.goto 4, 3) := by decide +kernel
theorem dX0_hasBegun_18 : decode cX0_hasBegun 18 = .ok (.iconst 0, 1) := by decide +kernel
theorem dX0_hasBegun_19 : decode cX0_hasBegun 19 = .ok (.ireturn, 1) := by decide +kernel
theorem dX1_init_0 : decode cX1_init 0 = .ok (.aload_n 0, 1) := by decide +kernel
theorem dX1_init_1 : decode cX1_init 1 = .ok (.invokespecial 3, 3) := by decide +kernel
theorem dX1_init_4 : decode cX1_init 4 = .ok (.aload_n 0, 1) := by decide +kernel
theorem dX1_init_5 : decode cX1_init 5 = .ok (.bipush 54, 2) := by decide +kernel
theorem dX1_init_7 : decode cX1_init 7 = .ok (.newarray .int, 2) := by decide +kernel
theorem dX1_init_9 : decode cX1_init 9 = .ok (.putfield 9, 3) := by decide +kernel
theorem dX1_init_12 : decode cX1_init 12 = .ok (.aload_n 0, 1) := by decide +kernel
theorem dX1_init_13 : decode cX1_init 13 = .ok (.iconst 5, 1) := by decide +kernel
theorem dX1_init_14 : decode cX1_init 14 = .ok (.sipush 432, 3) := by decide +kernel
theorem dX1_init_17 : decode cX1_init 17 = .ok (.multianewarray 15 2, 4) := by decide +kernel
theorem dX1_init_21 : decode cX1_init 21 = .ok (.putfield 17, 3) := by decide +kernel
theorem dX1_init_24 : decode cX1_init 24 = .ok (.return_, 1) := by decide +kernel
theorem dX1_pageOf_0 : decode cX1_pageOf 0 = .ok (.iload_n 0, 1) := by decide +kernel
theorem dX1_pageOf_1 : decode cX1_pageOf 1 = .ok (.bipush 9, 2) := by decide +kernel
theorem dX1_pageOf_3 : decode cX1_pageOf 3 = .ok (.imul, 1) := by decide +kernel
theorem dX1_pageOf_4 : decode cX1_pageOf 4 = .ok (.iload_n 1, 1) := by decide +kernel
theorem dX1_pageOf_5 : decode cX1_pageOf 5 = .ok (.iadd, 1) := by decide +kernel
theorem dX1_pageOf_6 : decode cX1_pageOf 6 = .ok (.iconst 1, 1) := by decide +kernel
theorem dX1_pageOf_7 : decode cX1_pageOf 7 = .ok (.isub, 1) := by decide +kernel
theorem dX1_pageOf_8 : decode cX1_pageOf 8 = .ok (.ireturn, 1) := by decide +kernel
theorem dX1_write_0 : decode cX1_write 0 = .ok (.aload_n 0, 1) := by decide +kernel
theorem dX1_write_1 : decode cX1_write 1 = .ok (.getfield 9, 3) := by decide +kernel
theorem dX1_write_4 : decode cX1_write 4 = .ok (.iload_n 1, 1) := by decide +kernel
theorem dX1_write_5 : decode cX1_write 5 = .ok (.aload_n 2, 1) := by decide +kernel
theorem dX1_write_6 : decode cX1_write 6 = .ok (.getfield 20, 3) := by decide +kernel
theorem dX1_write_9 : decode cX1_write 9 = .ok (.iastore, 1) := by decide +kernel
theorem dX1_write_10 : decode cX1_write 10 = .ok (.iconst 0, 1) := by decide +kernel
theorem dX1_write_11 : decode cX1_write 11 = .ok (.istore_n 3, 1) := by decide +kernel
theorem dX1_write_12 : decode cX1_write 12 = .ok (.iload_n 3, 1) := by decide +kernel
theorem dX1_write_13 : decode cX1_write 13 = .ok (.iconst 5, 1) := by decide +kernel
theorem dX1_write_14 : decode cX1_write 14 = .ok (.if_icmp .ge 31, 3) := by decide +kernel
theorem dX1_write_17 : decode cX1_write 17 = .ok (.aload_n 2, 1) := by decide +kernel
theorem dX1_write_18 : decode cX1_write 18 = .ok (.getfield 26, 3) := by decide +kernel
theorem dX1_write_21 : decode cX1_write 21 = .ok (.iload_n 3, 1) := by decide +kernel
theorem dX1_write_22 : decode cX1_write 22 = .ok (.aaload, 1) := by decide +kernel
theorem dX1_write_23 : decode cX1_write 23 = .ok (.iconst 0, 1) := by decide +kernel
theorem dX1_write_24 : decode cX1_write 24 = .ok (.aload_n 0, 1) := by decide +kernel
theorem dX1_write_25 : decode cX1_write 25 = .ok (.getfield 17, 3) := by decide +kernel
theorem dX1_write_28 : decode cX1_write 28 = .ok (.iload_n 3, 1) := by decide +kernel
theorem dX1_write_29 : decode cX1_write 29 = .ok (.aaload, 1) := by decide +kernel
theorem dX1_write_30 : decode cX1_write 30 = .ok (.iload_n 1, 1) := by decide +kernel
theorem dX1_write_31 : decode cX1_write 31 = .ok (.bipush 8, 2) := by decide +kernel
theorem dX1_write_33 : decode cX1_write 33 = .ok (.imul, 1) := by decide +kernel
theorem dX1_write_34 : decode cX1_write 34 = .ok (.bipush 8, 2) := by decide +kernel
theorem dX1_write_36 : decode cX1_write 36 = .ok (.invokestatic 27, 3) := by decide +kernel
theorem dX1_write_39 : decode cX1_write 39 = .ok (.iinc 3 1, 3) := by decide +kernel
theorem dX1_write_42 : decode cX1_write 42 = .ok (.goto (-30), 3) := by decide +kernel
theorem dX1_write_45 : decode cX1_write 45 = .ok (.return_, 1) := by decide +kernel
theorem dX1_lengthOf_0 : decode cX1_lengthOf 0 = .ok (.iload_n 1, 1) := by decide +kernel
theorem dX1_lengthOf_1 : decode cX1_lengthOf 1 = .ok (.ifCond .lt 21, 3) := by decide +kernel
theorem dX1_lengthOf_4 : decode cX1_lengthOf 4 = .ok (.iload_n 1, 1) := by decide +kernel
theorem dX1_lengthOf_5 : decode cX1_lengthOf 5 = .ok (.aload_n 0, 1) := by decide +kernel
theorem dX1_lengthOf_6 : decode cX1_lengthOf 6 = .ok (.getfield 9, 3) := by decide +kernel
theorem dX1_lengthOf_9 : decode cX1_lengthOf 9 = .ok (.arraylength, 1) := by decide +kernel
theorem dX1_lengthOf_10 : decode cX1_lengthOf 10 = .ok (.if_icmp .ge 12, 3) := by decide +kernel
theorem dX1_lengthOf_13 : decode cX1_lengthOf 13 = .ok (.aload_n 0, 1) := by decide +kernel
theorem dX1_lengthOf_14 : decode cX1_lengthOf 14 = .ok (.getfield 9, 3) := by decide +kernel
theorem dX1_lengthOf_17 : decode cX1_lengthOf 17 = .ok (.iload_n 1, 1) := by decide +kernel
theorem dX1_lengthOf_18 : decode cX1_lengthOf 18 = .ok (.iaload, 1) := by decide +kernel
theorem dX1_lengthOf_19 : decode cX1_lengthOf 19 = .ok (.goto 4, 3) := by decide +kernel
theorem dX1_lengthOf_22 : decode cX1_lengthOf 22 = .ok (.iconst 0, 1) := by decide +kernel
theorem dX1_lengthOf_23 : decode cX1_lengthOf 23 = .ok (.ireturn, 1) := by decide +kernel
theorem dX1_find_0 : decode cX1_find 0 = .ok (.iload_n 1, 1) := by decide +kernel
theorem dX1_find_1 : decode cX1_find 1 = .ok (.ifCond .lt 26, 3) := by decide +kernel
theorem dX1_find_4 : decode cX1_find 4 = .ok (.iload_n 1, 1) := by decide +kernel
theorem dX1_find_5 : decode cX1_find 5 = .ok (.aload_n 0, 1) := by decide +kernel
theorem dX1_find_6 : decode cX1_find 6 = .ok (.getfield 9, 3) := by decide +kernel
theorem dX1_find_9 : decode cX1_find 9 = .ok (.arraylength, 1) := by decide +kernel
theorem dX1_find_10 : decode cX1_find 10 = .ok (.if_icmp .ge 17, 3) := by decide +kernel
theorem dX1_find_13 : decode cX1_find 13 = .ok (.iload_n 2, 1) := by decide +kernel
theorem dX1_find_14 : decode cX1_find 14 = .ok (.ifCond .lt 13, 3) := by decide +kernel
theorem dX1_find_17 : decode cX1_find 17 = .ok (.iload_n 2, 1) := by decide +kernel
theorem dX1_find_18 : decode cX1_find 18 = .ok (.aload_n 0, 1) := by decide +kernel
theorem dX1_find_19 : decode cX1_find 19 = .ok (.getfield 9, 3) := by decide +kernel
theorem dX1_find_22 : decode cX1_find 22 = .ok (.iload_n 1, 1) := by decide +kernel
theorem dX1_find_23 : decode cX1_find 23 = .ok (.iaload, 1) := by decide +kernel
theorem dX1_find_24 : decode cX1_find 24 = .ok (.if_icmp .lt 5, 3) := by decide +kernel
theorem dX1_find_27 : decode cX1_find 27 = .ok (.iconst (-1), 1) := by decide +kernel
theorem dX1_find_28 : decode cX1_find 28 = .ok (.ireturn, 1) := by decide +kernel
theorem dX1_find_29 : decode cX1_find 29 = .ok (.aload_n 0, 1) := by decide +kernel
theorem dX1_find_30 : decode cX1_find 30 = .ok (.getfield 17, 3) := by decide +kernel
theorem dX1_find_33 : decode cX1_find 33 = .ok (.iload_n 3, 1) := by decide +kernel
theorem dX1_find_34 : decode cX1_find 34 = .ok (.aaload, 1) := by decide +kernel
theorem dX1_find_35 : decode cX1_find 35 = .ok (.iload_n 1, 1) := by decide +kernel
theorem dX1_find_36 : decode cX1_find 36 = .ok (.bipush 8, 2) := by decide +kernel
theorem dX1_find_38 : decode cX1_find 38 = .ok (.imul, 1) := by decide +kernel
theorem dX1_find_39 : decode cX1_find 39 = .ok (.iload_n 2, 1) := by decide +kernel
theorem dX1_find_40 : decode cX1_find 40 = .ok (.iadd, 1) := by decide +kernel
theorem dX1_find_41 : decode cX1_find 41 = .ok (.iaload, 1) := by decide +kernel
theorem dX1_find_42 : decode cX1_find 42 = .ok (.ireturn, 1) := by decide +kernel
theorem dX2_init_0 : decode cX2_init 0 = .ok (.aload_n 0, 1) := by decide +kernel
theorem dX2_init_1 : decode cX2_init 1 = .ok (.invokespecial 3, 3) := by decide +kernel
theorem dX2_init_4 : decode cX2_init 4 = .ok (.aload_n 0, 1) := by decide +kernel
theorem dX2_init_5 : decode cX2_init 5 = .ok (.bipush 40, 2) := by decide +kernel
theorem dX2_init_7 : decode cX2_init 7 = .ok (.newarray .int, 2) := by decide +kernel
theorem dX2_init_9 : decode cX2_init 9 = .ok (.putfield 9, 3) := by decide +kernel
theorem dX2_init_12 : decode cX2_init 12 = .ok (.aload_n 0, 1) := by decide +kernel
theorem dX2_init_13 : decode cX2_init 13 = .ok (.bipush 40, 2) := by decide +kernel
theorem dX2_init_15 : decode cX2_init 15 = .ok (.newarray .int, 2) := by decide +kernel
theorem dX2_init_17 : decode cX2_init 17 = .ok (.putfield 15, 3) := by decide +kernel
theorem dX2_init_20 : decode cX2_init 20 = .ok (.aload_n 0, 1) := by decide +kernel
theorem dX2_init_21 : decode cX2_init 21 = .ok (.bipush 40, 2) := by decide +kernel
theorem dX2_init_23 : decode cX2_init 23 = .ok (.newarray .int, 2) := by decide +kernel
theorem dX2_init_25 : decode cX2_init 25 = .ok (.putfield 18, 3) := by decide +kernel
theorem dX2_init_28 : decode cX2_init 28 = .ok (.return_, 1) := by decide +kernel
theorem dX2_add_0 : decode cX2_add 0 = .ok (.aload_n 0, 1) := by decide +kernel
theorem dX2_add_1 : decode cX2_add 1 = .ok (.getfield 9, 3) := by decide +kernel
theorem dX2_add_4 : decode cX2_add 4 = .ok (.aload_n 0, 1) := by decide +kernel
theorem dX2_add_5 : decode cX2_add 5 = .ok (.getfield 21, 3) := by decide +kernel
theorem dX2_add_8 : decode cX2_add 8 = .ok (.iload_n 1, 1) := by decide +kernel
theorem dX2_add_9 : decode cX2_add 9 = .ok (.iastore, 1) := by decide +kernel
theorem dX2_add_10 : decode cX2_add 10 = .ok (.aload_n 0, 1) := by decide +kernel
theorem dX2_add_11 : decode cX2_add 11 = .ok (.getfield 15, 3) := by decide +kernel
theorem dX2_add_14 : decode cX2_add 14 = .ok (.aload_n 0, 1) := by decide +kernel
theorem dX2_add_15 : decode cX2_add 15 = .ok (.getfield 21, 3) := by decide +kernel
theorem dX2_add_18 : decode cX2_add 18 = .ok (.iload_n 2, 1) := by decide +kernel
theorem dX2_add_19 : decode cX2_add 19 = .ok (.iastore, 1) := by decide +kernel
theorem dX2_add_20 : decode cX2_add 20 = .ok (.aload_n 0, 1) := by decide +kernel
theorem dX2_add_21 : decode cX2_add 21 = .ok (.getfield 18, 3) := by decide +kernel
theorem dX2_add_24 : decode cX2_add 24 = .ok (.aload_n 0, 1) := by decide +kernel
theorem dX2_add_25 : decode cX2_add 25 = .ok (.getfield 21, 3) := by decide +kernel
theorem dX2_add_28 : decode cX2_add 28 = .ok (.iload_n 3, 1) := by decide +kernel
theorem dX2_add_29 : decode cX2_add 29 = .ok (.iastore, 1) := by decide +kernel
theorem dX2_add_30 : decode cX2_add 30 = .ok (.aload_n 0, 1) := by decide +kernel
theorem dX2_add_31 : decode cX2_add 31 = .ok (.aload_n 0, 1) := by decide +kernel
theorem dX2_add_32 : decode cX2_add 32 = .ok (.getfield 21, 3) := by decide +kernel
theorem dX2_add_35 : decode cX2_add 35 = .ok (.iconst 1, 1) := by decide +kernel
theorem dX2_add_36 : decode cX2_add 36 = .ok (.iadd, 1) := by decide +kernel
theorem dX2_add_37 : decode cX2_add 37 = .ok (.bipush 40, 2) := by decide +kernel
theorem dX2_add_39 : decode cX2_add 39 = .ok (.irem, 1) := by decide +kernel
theorem dX2_add_40 : decode cX2_add 40 = .ok (.putfield 21, 3) := by decide +kernel
theorem dX2_add_43 : decode cX2_add 43 = .ok (.aload_n 0, 1) := by decide +kernel
theorem dX2_add_44 : decode cX2_add 44 = .ok (.getfield 25, 3) := by decide +kernel
theorem dX2_add_47 : decode cX2_add 47 = .ok (.bipush 40, 2) := by decide +kernel
theorem dX2_add_49 : decode cX2_add 49 = .ok (.if_icmp .ge 13, 3) := by decide +kernel
theorem dX2_add_52 : decode cX2_add 52 = .ok (.aload_n 0, 1) := by decide +kernel
theorem dX2_add_53 : decode cX2_add 53 = .ok (.dup, 1) := by decide +kernel
theorem dX2_add_54 : decode cX2_add 54 = .ok (.getfield 25, 3) := by decide +kernel
theorem dX2_add_57 : decode cX2_add 57 = .ok (.iconst 1, 1) := by decide +kernel
theorem dX2_add_58 : decode cX2_add 58 = .ok (.iadd, 1) := by decide +kernel
theorem dX2_add_59 : decode cX2_add 59 = .ok (.putfield 25, 3) := by decide +kernel
theorem dX2_add_62 : decode cX2_add 62 = .ok (.return_, 1) := by decide +kernel
theorem dX2_find_0 : decode cX2_find 0 = .ok (.aload_n 0, 1) := by decide +kernel
theorem dX2_find_1 : decode cX2_find 1 = .ok (.getfield 21, 3) := by decide +kernel
theorem dX2_find_4 : decode cX2_find 4 = .ok (.bipush 40, 2) := by decide +kernel
theorem dX2_find_6 : decode cX2_find 6 = .ok (.iadd, 1) := by decide +kernel
theorem dX2_find_7 : decode cX2_find 7 = .ok (.iconst 1, 1) := by decide +kernel
theorem dX2_find_8 : decode cX2_find 8 = .ok (.isub, 1) := by decide +kernel
theorem dX2_find_9 : decode cX2_find 9 = .ok (.iload_n 1, 1) := by decide +kernel
theorem dX2_find_10 : decode cX2_find 10 = .ok (.isub, 1) := by decide +kernel
theorem dX2_find_11 : decode cX2_find 11 = .ok (.bipush 40, 2) := by decide +kernel
theorem dX2_find_13 : decode cX2_find 13 = .ok (.irem, 1) := by decide +kernel
theorem dX2_find_14 : decode cX2_find 14 = .ok (.istore_n 3, 1) := by decide +kernel
theorem dX2_find_15 : decode cX2_find 15 = .ok (.iload_n 2, 1) := by decide +kernel
theorem dX2_find_16 : decode cX2_find 16 = .ok (.lookupswitch 42 #[(0, 28), (1, 35)], 28) := by decide +kernel
theorem dX2_find_44 : decode cX2_find 44 = .ok (.aload_n 0, 1) := by decide +kernel
theorem dX2_find_45 : decode cX2_find 45 = .ok (.getfield 9, 3) := by decide +kernel
theorem dX2_find_48 : decode cX2_find 48 = .ok (.iload_n 3, 1) := by decide +kernel
theorem dX2_find_49 : decode cX2_find 49 = .ok (.iaload, 1) := by decide +kernel
theorem dX2_find_50 : decode cX2_find 50 = .ok (.ireturn, 1) := by decide +kernel
theorem dX2_find_51 : decode cX2_find 51 = .ok (.aload_n 0, 1) := by decide +kernel
theorem dX2_find_52 : decode cX2_find 52 = .ok (.getfield 15, 3) := by decide +kernel
theorem dX2_find_55 : decode cX2_find 55 = .ok (.iload_n 3, 1) := by decide +kernel
theorem dX2_find_56 : decode cX2_find 56 = .ok (.iaload, 1) := by decide +kernel
theorem dX2_find_57 : decode cX2_find 57 = .ok (.ireturn, 1) := by decide +kernel
theorem dX2_find_58 : decode cX2_find 58 = .ok (.aload_n 0, 1) := by decide +kernel
theorem dX2_find_59 : decode cX2_find 59 = .ok (.getfield 18, 3) := by decide +kernel
theorem dX2_find_62 : decode cX2_find 62 = .ok (.iload_n 3, 1) := by decide +kernel
theorem dX2_find_63 : decode cX2_find 63 = .ok (.iaload, 1) := by decide +kernel
theorem dX2_find_64 : decode cX2_find 64 = .ok (.ireturn, 1) := by decide +kernel
theorem dX2_copyFrom_0 : decode cX2_copyFrom 0 = .ok (.aload_n 1, 1) := by decide +kernel
theorem dX2_copyFrom_1 : decode cX2_copyFrom 1 = .ok (.getfield 9, 3) := by decide +kernel
theorem dX2_copyFrom_4 : decode cX2_copyFrom 4 = .ok (.iconst 0, 1) := by decide +kernel
theorem dX2_copyFrom_5 : decode cX2_copyFrom 5 = .ok (.aload_n 0, 1) := by decide +kernel
theorem dX2_copyFrom_6 : decode cX2_copyFrom 6 = .ok (.getfield 9, 3) := by decide +kernel
theorem dX2_copyFrom_9 : decode cX2_copyFrom 9 = .ok (.iconst 0, 1) := by decide +kernel
theorem dX2_copyFrom_10 : decode cX2_copyFrom 10 = .ok (.bipush 40, 2) := by decide +kernel
theorem dX2_copyFrom_12 : decode cX2_copyFrom 12 = .ok (.invokestatic 28, 3) := by decide +kernel
theorem dX2_copyFrom_15 : decode cX2_copyFrom 15 = .ok (.aload_n 1, 1) := by decide +kernel
theorem dX2_copyFrom_16 : decode cX2_copyFrom 16 = .ok (.getfield 15, 3) := by decide +kernel
theorem dX2_copyFrom_19 : decode cX2_copyFrom 19 = .ok (.iconst 0, 1) := by decide +kernel
theorem dX2_copyFrom_20 : decode cX2_copyFrom 20 = .ok (.aload_n 0, 1) := by decide +kernel
theorem dX2_copyFrom_21 : decode cX2_copyFrom 21 = .ok (.getfield 15, 3) := by decide +kernel
theorem dX2_copyFrom_24 : decode cX2_copyFrom 24 = .ok (.iconst 0, 1) := by decide +kernel
theorem dX2_copyFrom_25 : decode cX2_copyFrom 25 = .ok (.bipush 40, 2) := by decide +kernel
theorem dX2_copyFrom_27 : decode cX2_copyFrom 27 = .ok (.invokestatic 28, 3) := by decide +kernel
theorem dX2_copyFrom_30 : decode cX2_copyFrom 30 = .ok (.aload_n 1, 1) := by decide +kernel
theorem dX2_copyFrom_31 : decode cX2_copyFrom 31 = .ok (.getfield 18, 3) := by decide +kernel
theorem dX2_copyFrom_34 : decode cX2_copyFrom 34 = .ok (.iconst 0, 1) := by decide +kernel
theorem dX2_copyFrom_35 : decode cX2_copyFrom 35 = .ok (.aload_n 0, 1) := by decide +kernel
theorem dX2_copyFrom_36 : decode cX2_copyFrom 36 = .ok (.getfield 18, 3) := by decide +kernel
theorem dX2_copyFrom_39 : decode cX2_copyFrom 39 = .ok (.iconst 0, 1) := by decide +kernel
theorem dX2_copyFrom_40 : decode cX2_copyFrom 40 = .ok (.bipush 40, 2) := by decide +kernel
theorem dX2_copyFrom_42 : decode cX2_copyFrom 42 = .ok (.invokestatic 28, 3) := by decide +kernel
theorem dX2_copyFrom_45 : decode cX2_copyFrom 45 = .ok (.aload_n 0, 1) := by decide +kernel
theorem dX2_copyFrom_46 : decode cX2_copyFrom 46 = .ok (.aload_n 1, 1) := by decide +kernel
theorem dX2_copyFrom_47 : decode cX2_copyFrom 47 = .ok (.getfield 25, 3) := by decide +kernel
theorem dX2_copyFrom_50 : decode cX2_copyFrom 50 = .ok (.putfield 25, 3) := by decide +kernel
theorem dX2_copyFrom_53 : decode cX2_copyFrom 53 = .ok (.aload_n 0, 1) := by decide +kernel
theorem dX2_copyFrom_54 : decode cX2_copyFrom 54 = .ok (.aload_n 1, 1) := by decide +kernel
theorem dX2_copyFrom_55 : decode cX2_copyFrom 55 = .ok (.getfield 21, 3) := by decide +kernel
theorem dX2_copyFrom_58 : decode cX2_copyFrom 58 = .ok (.putfield 21, 3) := by decide +kernel
theorem dX2_copyFrom_61 : decode cX2_copyFrom 61 = .ok (.return_, 1) := by decide +kernel
theorem dX3_init_0 : decode cX3_init 0 = .ok (.aload_n 0, 1) := by decide +kernel
theorem dX3_init_1 : decode cX3_init 1 = .ok (.invokespecial 3, 3) := by decide +kernel
theorem dX3_init_4 : decode cX3_init 4 = .ok (.aload_n 0, 1) := by decide +kernel
theorem dX3_init_5 : decode cX3_init 5 = .ok (.bipush 8, 2) := by decide +kernel
theorem dX3_init_7 : decode cX3_init 7 = .ok (.anewarray 9, 3) := by decide +kernel
theorem dX3_init_10 : decode cX3_init 10 = .ok (.putfield 11, 3) := by decide +kernel
theorem dX3_init_13 : decode cX3_init 13 = .ok (.aload_n 0, 1) := by decide +kernel
theorem dX3_init_14 : decode cX3_init 14 = .ok (.bipush 12, 2) := by decide +kernel
theorem dX3_init_16 : decode cX3_init 16 = .ok (.anewarray 17, 3) := by decide +kernel
theorem dX3_init_19 : decode cX3_init 19 = .ok (.putfield 19, 3) := by decide +kernel
theorem dX3_init_22 : decode cX3_init 22 = .ok (.aload_n 0, 1) := by decide +kernel
theorem dX3_init_23 : decode cX3_init 23 = .ok (.iconst 3, 1) := by decide +kernel
theorem dX3_init_24 : decode cX3_init 24 = .ok (.newarray .int, 2) := by decide +kernel
theorem dX3_init_26 : decode cX3_init 26 = .ok (.putfield 23, 3) := by decide +kernel
theorem dX3_init_29 : decode cX3_init 29 = .ok (.aload_n 0, 1) := by decide +kernel
theorem dX3_init_30 : decode cX3_init 30 = .ok (.bipush 6, 2) := by decide +kernel
theorem dX3_init_32 : decode cX3_init 32 = .ok (.newarray .int, 2) := by decide +kernel
theorem dX3_init_34 : decode cX3_init 34 = .ok (.putfield 27, 3) := by decide +kernel
theorem dX3_init_37 : decode cX3_init 37 = .ok (.aload_n 0, 1) := by decide +kernel
theorem dX3_init_38 : decode cX3_init 38 = .ok (.new 30, 3) := by decide +kernel
theorem dX3_init_41 : decode cX3_init 41 = .ok (.dup, 1) := by decide +kernel
theorem dX3_init_42 : decode cX3_init 42 = .ok (.invokespecial 32, 3) := by decide +kernel
theorem dX3_init_45 : decode cX3_init 45 = .ok (.putfield 33, 3) := by decide +kernel
theorem dX3_init_48 : decode cX3_init 48 = .ok (.aload_n 0, 1) := by decide +kernel
theorem dX3_init_49 : decode cX3_init 49 = .ok (.bipush 12, 2) := by decide +kernel
theorem dX3_init_51 : decode cX3_init 51 = .ok (.newarray .int, 2) := by decide +kernel
theorem dX3_init_53 : decode cX3_init 53 = .ok (.putfield 37, 3) := by decide +kernel
theorem dX3_init_56 : decode cX3_init 56 = .ok (.aload_n 0, 1) := by decide +kernel
theorem dX3_init_57 : decode cX3_init 57 = .ok (.iconst 2, 1) := by decide +kernel
theorem dX3_init_58 : decode cX3_init 58 = .ok (.putfield 40, 3) := by decide +kernel
theorem dX3_init_61 : decode cX3_init 61 = .ok (.aload_n 0, 1) := by decide +kernel
theorem dX3_init_62 : decode cX3_init 62 = .ok (.aload_n 1, 1) := by decide +kernel
theorem dX3_init_63 : decode cX3_init 63 = .ok (.putfield 44, 3) := by decide +kernel
theorem dX3_init_66 : decode cX3_init 66 = .ok (.iconst 0, 1) := by decide +kernel
theorem dX3_init_67 : decode cX3_init 67 = .ok (.istore_n 2, 1) := by decide +kernel
theorem dX3_init_68 : decode cX3_init 68 = .ok (.iload_n 2, 1) := by decide +kernel
theorem dX3_init_69 : decode cX3_init 69 = .ok (.bipush 8, 2) := by decide +kernel
theorem dX3_init_71 : decode cX3_init 71 = .ok (.if_icmp .ge 22, 3) := by decide +kernel
theorem dX3_init_74 : decode cX3_init 74 = .ok (.aload_n 0, 1) := by decide +kernel
theorem dX3_init_75 : decode cX3_init 75 = .ok (.getfield 11, 3) := by decide +kernel
theorem dX3_init_78 : decode cX3_init 78 = .ok (.iload_n 2, 1) := by decide +kernel
theorem dX3_init_79 : decode cX3_init 79 = .ok (.new 9, 3) := by decide +kernel
theorem dX3_init_82 : decode cX3_init 82 = .ok (.dup, 1) := by decide +kernel
theorem dX3_init_83 : decode cX3_init 83 = .ok (.invokespecial 48, 3) := by decide +kernel
theorem dX3_init_86 : decode cX3_init 86 = .ok (.aastore, 1) := by decide +kernel
theorem dX3_init_87 : decode cX3_init 87 = .ok (.iinc 2 1, 3) := by decide +kernel
theorem dX3_init_90 : decode cX3_init 90 = .ok (.goto (-22), 3) := by decide +kernel
theorem dX3_init_93 : decode cX3_init 93 = .ok (.iconst 0, 1) := by decide +kernel
theorem dX3_init_94 : decode cX3_init 94 = .ok (.istore_n 2, 1) := by decide +kernel
theorem dX3_init_95 : decode cX3_init 95 = .ok (.iload_n 2, 1) := by decide +kernel
theorem dX3_init_96 : decode cX3_init 96 = .ok (.bipush 12, 2) := by decide +kernel
theorem dX3_init_98 : decode cX3_init 98 = .ok (.if_icmp .ge 22, 3) := by decide +kernel
theorem dX3_init_101 : decode cX3_init 101 = .ok (.aload_n 0, 1) := by decide +kernel
theorem dX3_init_102 : decode cX3_init 102 = .ok (.getfield 19, 3) := by decide +kernel
theorem dX3_init_105 : decode cX3_init 105 = .ok (.iload_n 2, 1) := by decide +kernel
theorem dX3_init_106 : decode cX3_init 106 = .ok (.new 17, 3) := by decide +kernel
theorem dX3_init_109 : decode cX3_init 109 = .ok (.dup, 1) := by decide +kernel
theorem dX3_init_110 : decode cX3_init 110 = .ok (.invokespecial 49, 3) := by decide +kernel
theorem dX3_init_113 : decode cX3_init 113 = .ok (.aastore, 1) := by decide +kernel
theorem dX3_init_114 : decode cX3_init 114 = .ok (.iinc 2 1, 3) := by decide +kernel
theorem dX3_init_117 : decode cX3_init 117 = .ok (.goto (-22), 3) := by decide +kernel
theorem dX3_init_120 : decode cX3_init 120 = .ok (.iconst 0, 1) := by decide +kernel
theorem dX3_init_121 : decode cX3_init 121 = .ok (.istore_n 2, 1) := by decide +kernel
theorem dX3_init_122 : decode cX3_init 122 = .ok (.iload_n 2, 1) := by decide +kernel
theorem dX3_init_123 : decode cX3_init 123 = .ok (.iconst 3, 1) := by decide +kernel
theorem dX3_init_124 : decode cX3_init 124 = .ok (.if_icmp .ge 16, 3) := by decide +kernel
theorem dX3_init_127 : decode cX3_init 127 = .ok (.aload_n 0, 1) := by decide +kernel
theorem dX3_init_128 : decode cX3_init 128 = .ok (.getfield 23, 3) := by decide +kernel
theorem dX3_init_131 : decode cX3_init 131 = .ok (.iload_n 2, 1) := by decide +kernel
theorem dX3_init_132 : decode cX3_init 132 = .ok (.iconst (-1), 1) := by decide +kernel
theorem dX3_init_133 : decode cX3_init 133 = .ok (.iastore, 1) := by decide +kernel
theorem dX3_init_134 : decode cX3_init 134 = .ok (.iinc 2 1, 3) := by decide +kernel
theorem dX3_init_137 : decode cX3_init 137 = .ok (.goto (-15), 3) := by decide +kernel
theorem dX3_init_140 : decode cX3_init 140 = .ok (.return_, 1) := by decide +kernel
theorem dX3_copyFrom_0 : decode cX3_copyFrom 0 = .ok (.aload_n 0, 1) := by decide +kernel
theorem dX3_copyFrom_1 : decode cX3_copyFrom 1 = .ok (.aload_n 1, 1) := by decide +kernel
theorem dX3_copyFrom_2 : decode cX3_copyFrom 2 = .ok (.getfield 50, 3) := by decide +kernel
theorem dX3_copyFrom_5 : decode cX3_copyFrom 5 = .ok (.putfield 50, 3) := by decide +kernel
theorem dX3_copyFrom_8 : decode cX3_copyFrom 8 = .ok (.iconst 0, 1) := by decide +kernel
theorem dX3_copyFrom_9 : decode cX3_copyFrom 9 = .ok (.istore_n 2, 1) := by decide +kernel
theorem dX3_copyFrom_10 : decode cX3_copyFrom 10 = .ok (.iload_n 2, 1) := by decide +kernel
theorem dX3_copyFrom_11 : decode cX3_copyFrom 11 = .ok (.aload_n 0, 1) := by decide +kernel
theorem dX3_copyFrom_12 : decode cX3_copyFrom 12 = .ok (.getfield 50, 3) := by decide +kernel
theorem dX3_copyFrom_15 : decode cX3_copyFrom 15 = .ok (.if_icmp .ge 24, 3) := by decide +kernel
theorem dX3_copyFrom_18 : decode cX3_copyFrom 18 = .ok (.aload_n 0, 1) := by decide +kernel
theorem dX3_copyFrom_19 : decode cX3_copyFrom 19 = .ok (.getfield 11, 3) := by decide +kernel
theorem dX3_copyFrom_22 : decode cX3_copyFrom 22 = .ok (.iload_n 2, 1) := by decide +kernel
theorem dX3_copyFrom_23 : decode cX3_copyFrom 23 = .ok (.aaload, 1) := by decide +kernel
theorem dX3_copyFrom_24 : decode cX3_copyFrom 24 = .ok (.aload_n 1, 1) := by decide +kernel
theorem dX3_copyFrom_25 : decode cX3_copyFrom 25 = .ok (.getfield 11, 3) := by decide +kernel
theorem dX3_copyFrom_28 : decode cX3_copyFrom 28 = .ok (.iload_n 2, 1) := by decide +kernel
theorem dX3_copyFrom_29 : decode cX3_copyFrom 29 = .ok (.aaload, 1) := by decide +kernel
theorem dX3_copyFrom_30 : decode cX3_copyFrom 30 = .ok (.invokevirtual 53, 3) := by decide +kernel
theorem dX3_copyFrom_33 : decode cX3_copyFrom 33 = .ok (.iinc 2 1, 3) := by decide +kernel
theorem dX3_copyFrom_36 : decode cX3_copyFrom 36 = .ok (.goto (-26), 3) := by decide +kernel
theorem dX3_copyFrom_39 : decode cX3_copyFrom 39 = .ok (.aload_n 0, 1) := by decide +kernel
theorem dX3_copyFrom_40 : decode cX3_copyFrom 40 = .ok (.aload_n 1, 1) := by decide +kernel
theorem dX3_copyFrom_41 : decode cX3_copyFrom 41 = .ok (.getfield 57, 3) := by decide +kernel
theorem dX3_copyFrom_44 : decode cX3_copyFrom 44 = .ok (.putfield 57, 3) := by decide +kernel
theorem dX3_copyFrom_47 : decode cX3_copyFrom 47 = .ok (.iconst 0, 1) := by decide +kernel
theorem dX3_copyFrom_48 : decode cX3_copyFrom 48 = .ok (.istore_n 2, 1) := by decide +kernel
theorem dX3_copyFrom_49 : decode cX3_copyFrom 49 = .ok (.iload_n 2, 1) := by decide +kernel
theorem dX3_copyFrom_50 : decode cX3_copyFrom 50 = .ok (.aload_n 0, 1) := by decide +kernel
theorem dX3_copyFrom_51 : decode cX3_copyFrom 51 = .ok (.getfield 57, 3) := by decide +kernel
theorem dX3_copyFrom_54 : decode cX3_copyFrom 54 = .ok (.if_icmp .ge 24, 3) := by decide +kernel
theorem dX3_copyFrom_57 : decode cX3_copyFrom 57 = .ok (.aload_n 0, 1) := by decide +kernel
theorem dX3_copyFrom_58 : decode cX3_copyFrom 58 = .ok (.getfield 19, 3) := by decide +kernel
theorem dX3_copyFrom_61 : decode cX3_copyFrom 61 = .ok (.iload_n 2, 1) := by decide +kernel
theorem dX3_copyFrom_62 : decode cX3_copyFrom 62 = .ok (.aaload, 1) := by decide +kernel
theorem dX3_copyFrom_63 : decode cX3_copyFrom 63 = .ok (.aload_n 1, 1) := by decide +kernel
theorem dX3_copyFrom_64 : decode cX3_copyFrom 64 = .ok (.getfield 19, 3) := by decide +kernel
theorem dX3_copyFrom_67 : decode cX3_copyFrom 67 = .ok (.iload_n 2, 1) := by decide +kernel
theorem dX3_copyFrom_68 : decode cX3_copyFrom 68 = .ok (.aaload, 1) := by decide +kernel
theorem dX3_copyFrom_69 : decode cX3_copyFrom 69 = .ok (.invokevirtual 60, 3) := by decide +kernel
theorem dX3_copyFrom_72 : decode cX3_copyFrom 72 = .ok (.iinc 2 1, 3) := by decide +kernel
theorem dX3_copyFrom_75 : decode cX3_copyFrom 75 = .ok (.goto (-26), 3) := by decide +kernel
theorem dX3_copyFrom_78 : decode cX3_copyFrom 78 = .ok (.aload_n 1, 1) := by decide +kernel
theorem dX3_copyFrom_79 : decode cX3_copyFrom 79 = .ok (.getfield 23, 3) := by decide +kernel
theorem dX3_copyFrom_82 : decode cX3_copyFrom 82 = .ok (.iconst 0, 1) := by decide +kernel
theorem dX3_copyFrom_83 : decode cX3_copyFrom 83 = .ok (.aload_n 0, 1) := by decide +kernel
theorem dX3_copyFrom_84 : decode cX3_copyFrom 84 = .ok (.getfield 23, 3) := by decide +kernel
theorem dX3_copyFrom_87 : decode cX3_copyFrom 87 = .ok (.iconst 0, 1) := by decide +kernel
theorem dX3_copyFrom_88 : decode cX3_copyFrom 88 = .ok (.iconst 3, 1) := by decide +kernel
theorem dX3_copyFrom_89 : decode cX3_copyFrom 89 = .ok (.invokestatic 63, 3) := by decide +kernel
theorem dX3_copyFrom_92 : decode cX3_copyFrom 92 = .ok (.aload_n 1, 1) := by decide +kernel
theorem dX3_copyFrom_93 : decode cX3_copyFrom 93 = .ok (.getfield 27, 3) := by decide +kernel
theorem dX3_copyFrom_96 : decode cX3_copyFrom 96 = .ok (.iconst 0, 1) := by decide +kernel
theorem dX3_copyFrom_97 : decode cX3_copyFrom 97 = .ok (.aload_n 0, 1) := by decide +kernel
theorem dX3_copyFrom_98 : decode cX3_copyFrom 98 = .ok (.getfield 27, 3) := by decide +kernel
theorem dX3_copyFrom_101 : decode cX3_copyFrom 101 = .ok (.iconst 0, 1) := by decide +kernel
theorem dX3_copyFrom_102 : decode cX3_copyFrom 102 = .ok (.bipush 6, 2) := by decide +kernel
theorem dX3_copyFrom_104 : decode cX3_copyFrom 104 = .ok (.invokestatic 63, 3) := by decide +kernel
theorem dX3_copyFrom_107 : decode cX3_copyFrom 107 = .ok (.aload_n 0, 1) := by decide +kernel
theorem dX3_copyFrom_108 : decode cX3_copyFrom 108 = .ok (.getfield 33, 3) := by decide +kernel
theorem dX3_copyFrom_111 : decode cX3_copyFrom 111 = .ok (.aload_n 1, 1) := by decide +kernel
theorem dX3_copyFrom_112 : decode cX3_copyFrom 112 = .ok (.getfield 33, 3) := by decide +kernel
theorem dX3_copyFrom_115 : decode cX3_copyFrom 115 = .ok (.invokevirtual 69, 3) := by decide +kernel
theorem dX3_copyFrom_118 : decode cX3_copyFrom 118 = .ok (.aload_n 0, 1) := by decide +kernel
theorem dX3_copyFrom_119 : decode cX3_copyFrom 119 = .ok (.aload_n 1, 1) := by decide +kernel
theorem dX3_copyFrom_120 : decode cX3_copyFrom 120 = .ok (.getfield 72, 3) := by decide +kernel
theorem dX3_copyFrom_123 : decode cX3_copyFrom 123 = .ok (.putfield 72, 3) := by decide +kernel
theorem dX3_copyFrom_126 : decode cX3_copyFrom 126 = .ok (.aload_n 0, 1) := by decide +kernel
theorem dX3_copyFrom_127 : decode cX3_copyFrom 127 = .ok (.aload_n 1, 1) := by decide +kernel
theorem dX3_copyFrom_128 : decode cX3_copyFrom 128 = .ok (.getfield 40, 3) := by decide +kernel
theorem dX3_copyFrom_131 : decode cX3_copyFrom 131 = .ok (.putfield 40, 3) := by decide +kernel
theorem dX3_copyFrom_134 : decode cX3_copyFrom 134 = .ok (.return_, 1) := by decide +kernel
theorem dX3_hasUnit_0 : decode cX3_hasUnit 0 = .ok (.iload_n 1, 1) := by decide +kernel
theorem dX3_hasUnit_1 : decode cX3_hasUnit 1 = .ok (.ifCond .lt 15, 3) := by decide +kernel
theorem dX3_hasUnit_4 : decode cX3_hasUnit 4 = .ok (.iload_n 1, 1) := by decide +kernel
theorem dX3_hasUnit_5 : decode cX3_hasUnit 5 = .ok (.aload_n 0, 1) := by decide +kernel
theorem dX3_hasUnit_6 : decode cX3_hasUnit 6 = .ok (.getfield 50, 3) := by decide +kernel
theorem dX3_hasUnit_9 : decode cX3_hasUnit 9 = .ok (.if_icmp .ge 7, 3) := by decide +kernel
theorem dX3_hasUnit_12 : decode cX3_hasUnit 12 = .ok (.iconst 1, 1) := by decide +kernel
theorem dX3_hasUnit_13 : decode cX3_hasUnit 13 = .ok (.goto 4, 3) := by decide +kernel
theorem dX3_hasUnit_16 : decode cX3_hasUnit 16 = .ok (.iconst 0, 1) := by decide +kernel
theorem dX3_hasUnit_17 : decode cX3_hasUnit 17 = .ok (.ireturn, 1) := by decide +kernel
theorem dX3_addUnit_0 : decode cX3_addUnit 0 = .ok (.aload_n 0, 1) := by decide +kernel
theorem dX3_addUnit_1 : decode cX3_addUnit 1 = .ok (.getfield 50, 3) := by decide +kernel
theorem dX3_addUnit_4 : decode cX3_addUnit 4 = .ok (.istore_n 3, 1) := by decide +kernel
theorem dX3_addUnit_5 : decode cX3_addUnit 5 = .ok (.aload_n 0, 1) := by decide +kernel
theorem dX3_addUnit_6 : decode cX3_addUnit 6 = .ok (.getfield 11, 3) := by decide +kernel
theorem dX3_addUnit_9 : decode cX3_addUnit 9 = .ok (.iload_n 3, 1) := by decide +kernel
theorem dX3_addUnit_10 : decode cX3_addUnit 10 = .ok (.aaload, 1) := by decide +kernel
theorem dX3_addUnit_11 : decode cX3_addUnit 11 = .ok (.iload_n 1, 1) := by decide +kernel
theorem dX3_addUnit_12 : decode cX3_addUnit 12 = .ok (.iload_n 2, 1) := by decide +kernel
theorem dX3_addUnit_13 : decode cX3_addUnit 13 = .ok (.invokevirtual 75, 3) := by decide +kernel
theorem dX3_addUnit_16 : decode cX3_addUnit 16 = .ok (.aload_n 0, 1) := by decide +kernel
theorem dX3_addUnit_17 : decode cX3_addUnit 17 = .ok (.dup, 1) := by decide +kernel
theorem dX3_addUnit_18 : decode cX3_addUnit 18 = .ok (.getfield 50, 3) := by decide +kernel
theorem dX3_addUnit_21 : decode cX3_addUnit 21 = .ok (.iconst 1, 1) := by decide +kernel
theorem dX3_addUnit_22 : decode cX3_addUnit 22 = .ok (.iadd, 1) := by decide +kernel
theorem dX3_addUnit_23 : decode cX3_addUnit 23 = .ok (.putfield 50, 3) := by decide +kernel
theorem dX3_addUnit_26 : decode cX3_addUnit 26 = .ok (.iload_n 3, 1) := by decide +kernel
theorem dX3_addUnit_27 : decode cX3_addUnit 27 = .ok (.ireturn, 1) := by decide +kernel
theorem dX3_breakUnit_0 : decode cX3_breakUnit 0 = .ok (.aload_n 0, 1) := by decide +kernel
theorem dX3_breakUnit_1 : decode cX3_breakUnit 1 = .ok (.getfield 11, 3) := by decide +kernel
theorem dX3_breakUnit_4 : decode cX3_breakUnit 4 = .ok (.iload_n 1, 1) := by decide +kernel
theorem dX3_breakUnit_5 : decode cX3_breakUnit 5 = .ok (.aaload, 1) := by decide +kernel
theorem dX3_breakUnit_6 : decode cX3_breakUnit 6 = .ok (.iconst 1, 1) := by decide +kernel
theorem dX3_breakUnit_7 : decode cX3_breakUnit 7 = .ok (.putfield 79, 3) := by decide +kernel
theorem dX3_breakUnit_10 : decode cX3_breakUnit 10 = .ok (.aload_n 0, 1) := by decide +kernel
theorem dX3_breakUnit_11 : decode cX3_breakUnit 11 = .ok (.getfield 11, 3) := by decide +kernel
theorem dX3_breakUnit_14 : decode cX3_breakUnit 14 = .ok (.iload_n 1, 1) := by decide +kernel
theorem dX3_breakUnit_15 : decode cX3_breakUnit 15 = .ok (.aaload, 1) := by decide +kernel
theorem dX3_breakUnit_16 : decode cX3_breakUnit 16 = .ok (.getfield 83, 3) := by decide +kernel
theorem dX3_breakUnit_19 : decode cX3_breakUnit 19 = .ok (.istore_n 2, 1) := by decide +kernel
theorem dX3_breakUnit_20 : decode cX3_breakUnit 20 = .ok (.aload_n 0, 1) := by decide +kernel
theorem dX3_breakUnit_21 : decode cX3_breakUnit 21 = .ok (.iload_n 2, 1) := by decide +kernel
theorem dX3_breakUnit_22 : decode cX3_breakUnit 22 = .ok (.invokevirtual 86, 3) := by decide +kernel
theorem dX3_breakUnit_25 : decode cX3_breakUnit 25 = .ok (.ifCond .eq 15, 3) := by decide +kernel
theorem dX3_breakUnit_28 : decode cX3_breakUnit 28 = .ok (.aload_n 0, 1) := by decide +kernel
theorem dX3_breakUnit_29 : decode cX3_breakUnit 29 = .ok (.getfield 19, 3) := by decide +kernel
theorem dX3_breakUnit_32 : decode cX3_breakUnit 32 = .ok (.iload_n 2, 1) := by decide +kernel
theorem dX3_breakUnit_33 : decode cX3_breakUnit 33 = .ok (.aaload, 1) := by decide +kernel
theorem dX3_breakUnit_34 : decode cX3_breakUnit 34 = .ok (.invokevirtual 90, 3) := by decide +kernel
theorem dX3_breakUnit_37 : decode cX3_breakUnit 37 = .ok (.ifCond .ne 5, 3) := by decide +kernel
theorem dX3_breakUnit_40 : decode cX3_breakUnit 40 = .ok (.iconst (-1), 1) := by decide +kernel
theorem dX3_breakUnit_41 : decode cX3_breakUnit 41 = .ok (.ireturn, 1) := by decide +kernel
theorem dX3_breakUnit_42 : decode cX3_breakUnit 42 = .ok (.aload_n 0, 1) := by decide +kernel
theorem dX3_breakUnit_43 : decode cX3_breakUnit 43 = .ok (.iload_n 2, 1) := by decide +kernel
theorem dX3_breakUnit_44 : decode cX3_breakUnit 44 = .ok (.invokevirtual 94, 3) := by decide +kernel
theorem dX3_breakUnit_47 : decode cX3_breakUnit 47 = .ok (.iload_n 2, 1) := by decide +kernel
theorem dX3_breakUnit_48 : decode cX3_breakUnit 48 = .ok (.ireturn, 1) := by decide +kernel
theorem dX3_brokenUnits_0 : decode cX3_brokenUnits 0 = .ok (.iconst 0, 1) := by decide +kernel
theorem dX3_brokenUnits_1 : decode cX3_brokenUnits 1 = .ok (.istore_n 1, 1) := by decide +kernel
theorem dX3_brokenUnits_2 : decode cX3_brokenUnits 2 = .ok (.iconst 0, 1) := by decide +kernel
theorem dX3_brokenUnits_3 : decode cX3_brokenUnits 3 = .ok (.istore_n 2, 1) := by decide +kernel
theorem dX3_brokenUnits_4 : decode cX3_brokenUnits 4 = .ok (.iload_n 2, 1) := by decide +kernel
theorem dX3_brokenUnits_5 : decode cX3_brokenUnits 5 = .ok (.aload_n 0, 1) := by decide +kernel
theorem dX3_brokenUnits_6 : decode cX3_brokenUnits 6 = .ok (.getfield 50, 3) := by decide +kernel
theorem dX3_brokenUnits_9 : decode cX3_brokenUnits 9 = .ok (.if_icmp .ge 24, 3) := by decide +kernel
theorem dX3_brokenUnits_12 : decode cX3_brokenUnits 12 = .ok (.aload_n 0, 1) := by decide +kernel
theorem dX3_brokenUnits_13 : decode cX3_brokenUnits 13 = .ok (.getfield 11, 3) := by decide +kernel
theorem dX3_brokenUnits_16 : decode cX3_brokenUnits 16 = .ok (.iload_n 2, 1) := by decide +kernel
theorem dX3_brokenUnits_17 : decode cX3_brokenUnits 17 = .ok (.aaload, 1) := by decide +kernel
theorem dX3_brokenUnits_18 : decode cX3_brokenUnits 18 = .ok (.getfield 79, 3) := by decide +kernel
theorem dX3_brokenUnits_21 : decode cX3_brokenUnits 21 = .ok (.ifCond .eq 6, 3) := by decide +kernel
theorem dX3_brokenUnits_24 : decode cX3_brokenUnits 24 = .ok (.iinc 1 1, 3) := by decide +kernel
theorem dX3_brokenUnits_27 : decode cX3_brokenUnits 27 = .ok (.iinc 2 1, 3) := by decide +kernel
theorem dX3_brokenUnits_30 : decode cX3_brokenUnits 30 = .ok (.goto (-26), 3) := by decide +kernel
theorem dX3_brokenUnits_33 : decode cX3_brokenUnits 33 = .ok (.iload_n 1, 1) := by decide +kernel
theorem dX3_brokenUnits_34 : decode cX3_brokenUnits 34 = .ok (.ireturn, 1) := by decide +kernel
theorem dX3_freeUnits_0 : decode cX3_freeUnits 0 = .ok (.iconst 0, 1) := by decide +kernel
theorem dX3_freeUnits_1 : decode cX3_freeUnits 1 = .ok (.istore_n 1, 1) := by decide +kernel
theorem dX3_freeUnits_2 : decode cX3_freeUnits 2 = .ok (.iconst 0, 1) := by decide +kernel
theorem dX3_freeUnits_3 : decode cX3_freeUnits 3 = .ok (.istore_n 2, 1) := by decide +kernel
theorem dX3_freeUnits_4 : decode cX3_freeUnits 4 = .ok (.iload_n 2, 1) := by decide +kernel
theorem dX3_freeUnits_5 : decode cX3_freeUnits 5 = .ok (.aload_n 0, 1) := by decide +kernel
theorem dX3_freeUnits_6 : decode cX3_freeUnits 6 = .ok (.getfield 50, 3) := by decide +kernel
theorem dX3_freeUnits_9 : decode cX3_freeUnits 9 = .ok (.if_icmp .ge 25, 3) := by decide +kernel
theorem dX3_freeUnits_12 : decode cX3_freeUnits 12 = .ok (.aload_n 0, 1) := by decide +kernel
theorem dX3_freeUnits_13 : decode cX3_freeUnits 13 = .ok (.getfield 11, 3) := by decide +kernel
theorem dX3_freeUnits_16 : decode cX3_freeUnits 16 = .ok (.iload_n 2, 1) := by decide +kernel
theorem dX3_freeUnits_17 : decode cX3_freeUnits 17 = .ok (.aaload, 1) := by decide +kernel
theorem dX3_freeUnits_18 : decode cX3_freeUnits 18 = .ok (.iconst 0, 1) := by decide +kernel
theorem dX3_freeUnits_19 : decode cX3_freeUnits 19 = .ok (.invokevirtual 98, 3) := by decide +kernel
theorem dX3_freeUnits_22 : decode cX3_freeUnits 22 = .ok (.ifCond .eq 6, 3) := by decide +kernel
theorem dX3_freeUnits_25 : decode cX3_freeUnits 25 = .ok (.iinc 1 1, 3) := by decide +kernel
theorem dX3_freeUnits_28 : decode cX3_freeUnits 28 = .ok (.iinc 2 1, 3) := by decide +kernel
theorem dX3_freeUnits_31 : decode cX3_freeUnits 31 = .ok (.goto (-27), 3) := by decide +kernel
theorem dX3_freeUnits_34 : decode cX3_freeUnits 34 = .ok (.iload_n 1, 1) := by decide +kernel
theorem dX3_freeUnits_35 : decode cX3_freeUnits 35 = .ok (.ireturn, 1) := by decide +kernel
theorem dX3_workedTicks_0 : decode cX3_workedTicks 0 = .ok (.iconst 0, 1) := by decide +kernel
theorem dX3_workedTicks_1 : decode cX3_workedTicks 1 = .ok (.istore_n 1, 1) := by decide +kernel
theorem dX3_workedTicks_2 : decode cX3_workedTicks 2 = .ok (.iconst 0, 1) := by decide +kernel
theorem dX3_workedTicks_3 : decode cX3_workedTicks 3 = .ok (.istore_n 2, 1) := by decide +kernel
theorem dX3_workedTicks_4 : decode cX3_workedTicks 4 = .ok (.iload_n 2, 1) := by decide +kernel
theorem dX3_workedTicks_5 : decode cX3_workedTicks 5 = .ok (.aload_n 0, 1) := by decide +kernel
theorem dX3_workedTicks_6 : decode cX3_workedTicks 6 = .ok (.getfield 50, 3) := by decide +kernel
theorem dX3_workedTicks_9 : decode cX3_workedTicks 9 = .ok (.if_icmp .ge 21, 3) := by decide +kernel
theorem dX3_workedTicks_12 : decode cX3_workedTicks 12 = .ok (.iload_n 1, 1) := by decide +kernel
theorem dX3_workedTicks_13 : decode cX3_workedTicks 13 = .ok (.aload_n 0, 1) := by decide +kernel
theorem dX3_workedTicks_14 : decode cX3_workedTicks 14 = .ok (.getfield 11, 3) := by decide +kernel
theorem dX3_workedTicks_17 : decode cX3_workedTicks 17 = .ok (.iload_n 2, 1) := by decide +kernel
theorem dX3_workedTicks_18 : decode cX3_workedTicks 18 = .ok (.aaload, 1) := by decide +kernel
theorem dX3_workedTicks_19 : decode cX3_workedTicks 19 = .ok (.getfield 101, 3) := by decide +kernel
theorem dX3_workedTicks_22 : decode cX3_workedTicks 22 = .ok (.iadd, 1) := by decide +kernel
theorem dX3_workedTicks_23 : decode cX3_workedTicks 23 = .ok (.istore_n 1, 1) := by decide +kernel
theorem dX3_workedTicks_24 : decode cX3_workedTicks 24 = .ok (.iinc 2 1, 3) := by decide +kernel
theorem dX3_workedTicks_27 : decode cX3_workedTicks 27 = .ok (.goto (-23), 3) := by decide +kernel
theorem dX3_workedTicks_30 : decode cX3_workedTicks 30 = .ok (.iload_n 1, 1) := by decide +kernel
theorem dX3_workedTicks_31 : decode cX3_workedTicks 31 = .ok (.ireturn, 1) := by decide +kernel
theorem dX3_freePieces_0 : decode cX3_freePieces 0 = .ok (.iconst 0, 1) := by decide +kernel
theorem dX3_freePieces_1 : decode cX3_freePieces 1 = .ok (.istore_n 1, 1) := by decide +kernel
theorem dX3_freePieces_2 : decode cX3_freePieces 2 = .ok (.iconst 0, 1) := by decide +kernel
theorem dX3_freePieces_3 : decode cX3_freePieces 3 = .ok (.istore_n 2, 1) := by decide +kernel
theorem dX3_freePieces_4 : decode cX3_freePieces 4 = .ok (.iload_n 2, 1) := by decide +kernel
theorem dX3_freePieces_5 : decode cX3_freePieces 5 = .ok (.iconst 3, 1) := by decide +kernel
theorem dX3_freePieces_6 : decode cX3_freePieces 6 = .ok (.if_icmp .ge 22, 3) := by decide +kernel
theorem dX3_freePieces_9 : decode cX3_freePieces 9 = .ok (.aload_n 0, 1) := by decide +kernel
theorem dX3_freePieces_10 : decode cX3_freePieces 10 = .ok (.getfield 23, 3) := by decide +kernel
theorem dX3_freePieces_13 : decode cX3_freePieces 13 = .ok (.iload_n 2, 1) := by decide +kernel
theorem dX3_freePieces_14 : decode cX3_freePieces 14 = .ok (.iaload, 1) := by decide +kernel
theorem dX3_freePieces_15 : decode cX3_freePieces 15 = .ok (.iconst (-1), 1) := by decide +kernel
theorem dX3_freePieces_16 : decode cX3_freePieces 16 = .ok (.if_icmp .ne 6, 3) := by decide +kernel
theorem dX3_freePieces_19 : decode cX3_freePieces 19 = .ok (.iinc 1 1, 3) := by decide +kernel
theorem dX3_freePieces_22 : decode cX3_freePieces 22 = .ok (.iinc 2 1, 3) := by decide +kernel
theorem dX3_freePieces_25 : decode cX3_freePieces 25 = .ok (.goto (-21), 3) := by decide +kernel
theorem dX3_freePieces_28 : decode cX3_freePieces 28 = .ok (.iload_n 1, 1) := by decide +kernel
theorem dX3_freePieces_29 : decode cX3_freePieces 29 = .ok (.ireturn, 1) := by decide +kernel
theorem dX3_unitFor_0 : decode cX3_unitFor 0 = .ok (.aload_n 0, 1) := by decide +kernel
theorem dX3_unitFor_1 : decode cX3_unitFor 1 = .ok (.aload_n 1, 1) := by decide +kernel
theorem dX3_unitFor_2 : decode cX3_unitFor 2 = .ok (.iconst 0, 1) := by decide +kernel
theorem dX3_unitFor_3 : decode cX3_unitFor 3 = .ok (.invokevirtual 104, 3) := by decide +kernel
theorem dX3_unitFor_6 : decode cX3_unitFor 6 = .ok (.istore_n 3, 1) := by decide +kernel
theorem dX3_unitFor_7 : decode cX3_unitFor 7 = .ok (.iconst 0, 1) := by decide +kernel
theorem dX3_unitFor_8 : decode cX3_unitFor 8 = .ok (.istore 4, 2) := by decide +kernel
theorem dX3_unitFor_10 : decode cX3_unitFor 10 = .ok (.iload 4, 2) := by decide +kernel
theorem dX3_unitFor_12 : decode cX3_unitFor 12 = .ok (.aload_n 0, 1) := by decide +kernel
theorem dX3_unitFor_13 : decode cX3_unitFor 13 = .ok (.getfield 50, 3) := by decide +kernel
theorem dX3_unitFor_16 : decode cX3_unitFor 16 = .ok (.if_icmp .ge 51, 3) := by decide +kernel
theorem dX3_unitFor_19 : decode cX3_unitFor 19 = .ok (.aload_n 0, 1) := by decide +kernel
theorem dX3_unitFor_20 : decode cX3_unitFor 20 = .ok (.getfield 11, 3) := by decide +kernel
theorem dX3_unitFor_23 : decode cX3_unitFor 23 = .ok (.iload 4, 2) := by decide +kernel
theorem dX3_unitFor_25 : decode cX3_unitFor 25 = .ok (.aaload, 1) := by decide +kernel
theorem dX3_unitFor_26 : decode cX3_unitFor 26 = .ok (.astore 5, 2) := by decide +kernel
theorem dX3_unitFor_28 : decode cX3_unitFor 28 = .ok (.aload 5, 2) := by decide +kernel
theorem dX3_unitFor_30 : decode cX3_unitFor 30 = .ok (.getfield 108, 3) := by decide +kernel
theorem dX3_unitFor_33 : decode cX3_unitFor 33 = .ok (.iload_n 3, 1) := by decide +kernel
theorem dX3_unitFor_34 : decode cX3_unitFor 34 = .ok (.if_icmp .ne 27, 3) := by decide +kernel
theorem dX3_unitFor_37 : decode cX3_unitFor 37 = .ok (.aload 5, 2) := by decide +kernel
theorem dX3_unitFor_39 : decode cX3_unitFor 39 = .ok (.getfield 111, 3) := by decide +kernel
theorem dX3_unitFor_42 : decode cX3_unitFor 42 = .ok (.aload_n 1, 1) := by decide +kernel
theorem dX3_unitFor_43 : decode cX3_unitFor 43 = .ok (.getfield 114, 3) := by decide +kernel
theorem dX3_unitFor_46 : decode cX3_unitFor 46 = .ok (.if_icmp .lt 15, 3) := by decide +kernel
theorem dX3_unitFor_49 : decode cX3_unitFor 49 = .ok (.aload 5, 2) := by decide +kernel
theorem dX3_unitFor_51 : decode cX3_unitFor 51 = .ok (.iload_n 2, 1) := by decide +kernel
theorem dX3_unitFor_52 : decode cX3_unitFor 52 = .ok (.invokevirtual 98, 3) := by decide +kernel
theorem dX3_unitFor_55 : decode cX3_unitFor 55 = .ok (.ifCond .eq 6, 3) := by decide +kernel
theorem dX3_unitFor_58 : decode cX3_unitFor 58 = .ok (.iload 4, 2) := by decide +kernel
theorem dX3_unitFor_60 : decode cX3_unitFor 60 = .ok (.ireturn, 1) := by decide +kernel
theorem dX3_unitFor_61 : decode cX3_unitFor 61 = .ok (.iinc 4 1, 3) := by decide +kernel
theorem dX3_unitFor_64 : decode cX3_unitFor 64 = .ok (.goto (-54), 3) := by decide +kernel
theorem dX3_unitFor_67 : decode cX3_unitFor 67 = .ok (.iconst (-1), 1) := by decide +kernel
theorem dX3_unitFor_68 : decode cX3_unitFor 68 = .ok (.ireturn, 1) := by decide +kernel
theorem dX3_releaseUnit_0 : decode cX3_releaseUnit 0 = .ok (.aload_n 0, 1) := by decide +kernel
theorem dX3_releaseUnit_1 : decode cX3_releaseUnit 1 = .ok (.aload_n 1, 1) := by decide +kernel
theorem dX3_releaseUnit_2 : decode cX3_releaseUnit 2 = .ok (.getfield 117, 3) := by decide +kernel
theorem dX3_releaseUnit_5 : decode cX3_releaseUnit 5 = .ok (.invokevirtual 120, 3) := by decide +kernel
theorem dX3_releaseUnit_8 : decode cX3_releaseUnit 8 = .ok (.ifCond .ne 4, 3) := by decide +kernel
theorem dX3_releaseUnit_11 : decode cX3_releaseUnit 11 = .ok (.return_, 1) := by decide +kernel
theorem dX3_releaseUnit_12 : decode cX3_releaseUnit 12 = .ok (.aload_n 0, 1) := by decide +kernel
theorem dX3_releaseUnit_13 : decode cX3_releaseUnit 13 = .ok (.getfield 11, 3) := by decide +kernel
theorem dX3_releaseUnit_16 : decode cX3_releaseUnit 16 = .ok (.aload_n 1, 1) := by decide +kernel
theorem dX3_releaseUnit_17 : decode cX3_releaseUnit 17 = .ok (.getfield 117, 3) := by decide +kernel
theorem dX3_releaseUnit_20 : decode cX3_releaseUnit 20 = .ok (.aaload, 1) := by decide +kernel
theorem dX3_releaseUnit_21 : decode cX3_releaseUnit 21 = .ok (.iconst (-1), 1) := by decide +kernel
theorem dX3_releaseUnit_22 : decode cX3_releaseUnit 22 = .ok (.putfield 83, 3) := by decide +kernel
theorem dX3_releaseUnit_25 : decode cX3_releaseUnit 25 = .ok (.aload_n 0, 1) := by decide +kernel
theorem dX3_releaseUnit_26 : decode cX3_releaseUnit 26 = .ok (.getfield 11, 3) := by decide +kernel
theorem dX3_releaseUnit_29 : decode cX3_releaseUnit 29 = .ok (.aload_n 1, 1) := by decide +kernel
theorem dX3_releaseUnit_30 : decode cX3_releaseUnit 30 = .ok (.getfield 117, 3) := by decide +kernel
theorem dX3_releaseUnit_33 : decode cX3_releaseUnit 33 = .ok (.aaload, 1) := by decide +kernel
theorem dX3_releaseUnit_34 : decode cX3_releaseUnit 34 = .ok (.aload_n 0, 1) := by decide +kernel
theorem dX3_releaseUnit_35 : decode cX3_releaseUnit 35 = .ok (.getfield 40, 3) := by decide +kernel
theorem dX3_releaseUnit_38 : decode cX3_releaseUnit 38 = .ok (.putfield 123, 3) := by decide +kernel
theorem dX3_releaseUnit_41 : decode cX3_releaseUnit 41 = .ok (.aload_n 1, 1) := by decide +kernel
theorem dX3_releaseUnit_42 : decode cX3_releaseUnit 42 = .ok (.iconst (-1), 1) := by decide +kernel
theorem dX3_releaseUnit_43 : decode cX3_releaseUnit 43 = .ok (.putfield 117, 3) := by decide +kernel
theorem dX3_releaseUnit_46 : decode cX3_releaseUnit 46 = .ok (.return_, 1) := by decide +kernel
theorem dX3_releasePieces_0 : decode cX3_releasePieces 0 = .ok (.iconst 0, 1) := by decide +kernel
theorem dX3_releasePieces_1 : decode cX3_releasePieces 1 = .ok (.istore_n 2, 1) := by decide +kernel
theorem dX3_releasePieces_2 : decode cX3_releasePieces 2 = .ok (.iload_n 2, 1) := by decide +kernel
theorem dX3_releasePieces_3 : decode cX3_releasePieces 3 = .ok (.iconst 3, 1) := by decide +kernel
theorem dX3_releasePieces_4 : decode cX3_releasePieces 4 = .ok (.if_icmp .ge 26, 3) := by decide +kernel
theorem dX3_releasePieces_7 : decode cX3_releasePieces 7 = .ok (.aload_n 0, 1) := by decide +kernel
theorem dX3_releasePieces_8 : decode cX3_releasePieces 8 = .ok (.getfield 23, 3) := by decide +kernel
theorem dX3_releasePieces_11 : decode cX3_releasePieces 11 = .ok (.iload_n 2, 1) := by decide +kernel
theorem dX3_releasePieces_12 : decode cX3_releasePieces 12 = .ok (.iaload, 1) := by decide +kernel
theorem dX3_releasePieces_13 : decode cX3_releasePieces 13 = .ok (.iload_n 1, 1) := by decide +kernel
theorem dX3_releasePieces_14 : decode cX3_releasePieces 14 = .ok (.if_icmp .ne 10, 3) := by decide +kernel
theorem dX3_releasePieces_17 : decode cX3_releasePieces 17 = .ok (.aload_n 0, 1) := by decide +kernel
theorem dX3_releasePieces_18 : decode cX3_releasePieces 18 = .ok (.getfield 23, 3) := by decide +kernel
theorem dX3_releasePieces_21 : decode cX3_releasePieces 21 = .ok (.iload_n 2, 1) := by decide +kernel
theorem dX3_releasePieces_22 : decode cX3_releasePieces 22 = .ok (.iconst (-1), 1) := by decide +kernel
theorem dX3_releasePieces_23 : decode cX3_releasePieces 23 = .ok (.iastore, 1) := by decide +kernel
theorem dX3_releasePieces_24 : decode cX3_releasePieces 24 = .ok (.iinc 2 1, 3) := by decide +kernel
theorem dX3_releasePieces_27 : decode cX3_releasePieces 27 = .ok (.goto (-25), 3) := by decide +kernel
theorem dX3_releasePieces_30 : decode cX3_releasePieces 30 = .ok (.return_, 1) := by decide +kernel
theorem dX3_hasBatch_0 : decode cX3_hasBatch 0 = .ok (.iload_n 1, 1) := by decide +kernel
theorem dX3_hasBatch_1 : decode cX3_hasBatch 1 = .ok (.ifCond .lt 15, 3) := by decide +kernel
theorem dX3_hasBatch_4 : decode cX3_hasBatch 4 = .ok (.iload_n 1, 1) := by decide +kernel
theorem dX3_hasBatch_5 : decode cX3_hasBatch 5 = .ok (.aload_n 0, 1) := by decide +kernel
theorem dX3_hasBatch_6 : decode cX3_hasBatch 6 = .ok (.getfield 57, 3) := by decide +kernel
theorem dX3_hasBatch_9 : decode cX3_hasBatch 9 = .ok (.if_icmp .ge 7, 3) := by decide +kernel
theorem dX3_hasBatch_12 : decode cX3_hasBatch 12 = .ok (.iconst 1, 1) := by decide +kernel
theorem dX3_hasBatch_13 : decode cX3_hasBatch 13 = .ok (.goto 4, 3) := by decide +kernel
theorem dX3_hasBatch_16 : decode cX3_hasBatch 16 = .ok (.iconst 0, 1) := by decide +kernel
theorem dX3_hasBatch_17 : decode cX3_hasBatch 17 = .ok (.ireturn, 1) := by decide +kernel
theorem dX3_addBatch_0 : decode cX3_addBatch 0 = .ok (.aload_n 0, 1) := by decide +kernel
theorem dX3_addBatch_1 : decode cX3_addBatch 1 = .ok (.getfield 57, 3) := by decide +kernel
theorem dX3_addBatch_4 : decode cX3_addBatch 4 = .ok (.istore 5, 2) := by decide +kernel
theorem dX3_addBatch_6 : decode cX3_addBatch 6 = .ok (.aload_n 0, 1) := by decide +kernel
theorem dX3_addBatch_7 : decode cX3_addBatch 7 = .ok (.getfield 19, 3) := by decide +kernel
theorem dX3_addBatch_10 : decode cX3_addBatch 10 = .ok (.iload 5, 2) := by decide +kernel
theorem dX3_addBatch_12 : decode cX3_addBatch 12 = .ok (.aaload, 1) := by decide +kernel
theorem dX3_addBatch_13 : decode cX3_addBatch 13 = .ok (.iload_n 1, 1) := by decide +kernel
theorem dX3_addBatch_14 : decode cX3_addBatch 14 = .ok (.aload_n 0, 1) := by decide +kernel
theorem dX3_addBatch_15 : decode cX3_addBatch 15 = .ok (.getfield 27, 3) := by decide +kernel
theorem dX3_addBatch_18 : decode cX3_addBatch 18 = .ok (.iload_n 1, 1) := by decide +kernel
theorem dX3_addBatch_19 : decode cX3_addBatch 19 = .ok (.iaload, 1) := by decide +kernel
theorem dX3_addBatch_20 : decode cX3_addBatch 20 = .ok (.iload_n 2, 1) := by decide +kernel
theorem dX3_addBatch_21 : decode cX3_addBatch 21 = .ok (.iload_n 3, 1) := by decide +kernel
theorem dX3_addBatch_22 : decode cX3_addBatch 22 = .ok (.iload 4, 2) := by decide +kernel
theorem dX3_addBatch_24 : decode cX3_addBatch 24 = .ok (.invokevirtual 124, 3) := by decide +kernel
theorem dX3_addBatch_27 : decode cX3_addBatch 27 = .ok (.aload_n 0, 1) := by decide +kernel
theorem dX3_addBatch_28 : decode cX3_addBatch 28 = .ok (.dup, 1) := by decide +kernel
theorem dX3_addBatch_29 : decode cX3_addBatch 29 = .ok (.getfield 57, 3) := by decide +kernel
theorem dX3_addBatch_32 : decode cX3_addBatch 32 = .ok (.iconst 1, 1) := by decide +kernel
theorem dX3_addBatch_33 : decode cX3_addBatch 33 = .ok (.iadd, 1) := by decide +kernel
theorem dX3_addBatch_34 : decode cX3_addBatch 34 = .ok (.putfield 57, 3) := by decide +kernel
theorem dX3_addBatch_37 : decode cX3_addBatch 37 = .ok (.iload 5, 2) := by decide +kernel
theorem dX3_addBatch_39 : decode cX3_addBatch 39 = .ok (.ireturn, 1) := by decide +kernel
theorem dX3_batchesIn_0 : decode cX3_batchesIn 0 = .ok (.iconst 0, 1) := by decide +kernel
theorem dX3_batchesIn_1 : decode cX3_batchesIn 1 = .ok (.istore_n 2, 1) := by decide +kernel
theorem dX3_batchesIn_2 : decode cX3_batchesIn 2 = .ok (.iconst 0, 1) := by decide +kernel
theorem dX3_batchesIn_3 : decode cX3_batchesIn 3 = .ok (.istore_n 3, 1) := by decide +kernel
theorem dX3_batchesIn_4 : decode cX3_batchesIn 4 = .ok (.iload_n 3, 1) := by decide +kernel
theorem dX3_batchesIn_5 : decode cX3_batchesIn 5 = .ok (.aload_n 0, 1) := by decide +kernel
theorem dX3_batchesIn_6 : decode cX3_batchesIn 6 = .ok (.getfield 57, 3) := by decide +kernel
theorem dX3_batchesIn_9 : decode cX3_batchesIn 9 = .ok (.if_icmp .ge 25, 3) := by decide +kernel
theorem dX3_batchesIn_12 : decode cX3_batchesIn 12 = .ok (.aload_n 0, 1) := by decide +kernel
theorem dX3_batchesIn_13 : decode cX3_batchesIn 13 = .ok (.getfield 19, 3) := by decide +kernel
theorem dX3_batchesIn_16 : decode cX3_batchesIn 16 = .ok (.iload_n 3, 1) := by decide +kernel
theorem dX3_batchesIn_17 : decode cX3_batchesIn 17 = .ok (.aaload, 1) := by decide +kernel
theorem dX3_batchesIn_18 : decode cX3_batchesIn 18 = .ok (.getfield 127, 3) := by decide +kernel
theorem dX3_batchesIn_21 : decode cX3_batchesIn 21 = .ok (.iload_n 1, 1) := by decide +kernel
theorem dX3_batchesIn_22 : decode cX3_batchesIn 22 = .ok (.if_icmp .ne 6, 3) := by decide +kernel
theorem dX3_batchesIn_25 : decode cX3_batchesIn 25 = .ok (.iinc 2 1, 3) := by decide +kernel
theorem dX3_batchesIn_28 : decode cX3_batchesIn 28 = .ok (.iinc 3 1, 3) := by decide +kernel
theorem dX3_batchesIn_31 : decode cX3_batchesIn 31 = .ok (.goto (-27), 3) := by decide +kernel
theorem dX3_batchesIn_34 : decode cX3_batchesIn 34 = .ok (.iload_n 2, 1) := by decide +kernel
theorem dX3_batchesIn_35 : decode cX3_batchesIn 35 = .ok (.ireturn, 1) := by decide +kernel
theorem dX3_isGivenUp_0 : decode cX3_isGivenUp 0 = .ok (.aload_n 0, 1) := by decide +kernel
theorem dX3_isGivenUp_1 : decode cX3_isGivenUp 1 = .ok (.iload_n 1, 1) := by decide +kernel
theorem dX3_isGivenUp_2 : decode cX3_isGivenUp 2 = .ok (.invokevirtual 86, 3) := by decide +kernel
theorem dX3_isGivenUp_5 : decode cX3_isGivenUp 5 = .ok (.ifCond .ne 5, 3) := by decide +kernel
theorem dX3_isGivenUp_8 : decode cX3_isGivenUp 8 = .ok (.iconst 0, 1) := by decide +kernel
theorem dX3_isGivenUp_9 : decode cX3_isGivenUp 9 = .ok (.ireturn, 1) := by decide +kernel
theorem dX3_isGivenUp_10 : decode cX3_isGivenUp 10 = .ok (.aload_n 0, 1) := by decide +kernel
theorem dX3_isGivenUp_11 : decode cX3_isGivenUp 11 = .ok (.getfield 19, 3) := by decide +kernel
theorem dX3_isGivenUp_14 : decode cX3_isGivenUp 14 = .ok (.iload_n 1, 1) := by decide +kernel
theorem dX3_isGivenUp_15 : decode cX3_isGivenUp 15 = .ok (.aaload, 1) := by decide +kernel
theorem dX3_isGivenUp_16 : decode cX3_isGivenUp 16 = .ok (.getfield 127, 3) := by decide +kernel
theorem dX3_isGivenUp_19 : decode cX3_isGivenUp 19 = .ok (.iconst 4, 1) := by decide +kernel
theorem dX3_isGivenUp_20 : decode cX3_isGivenUp 20 = .ok (.if_icmp .eq 16, 3) := by decide +kernel
theorem dX3_isGivenUp_23 : decode cX3_isGivenUp 23 = .ok (.aload_n 0, 1) := by decide +kernel
theorem dX3_isGivenUp_24 : decode cX3_isGivenUp 24 = .ok (.getfield 19, 3) := by decide +kernel
theorem dX3_isGivenUp_27 : decode cX3_isGivenUp 27 = .ok (.iload_n 1, 1) := by decide +kernel
theorem dX3_isGivenUp_28 : decode cX3_isGivenUp 28 = .ok (.aaload, 1) := by decide +kernel
theorem dX3_isGivenUp_29 : decode cX3_isGivenUp 29 = .ok (.getfield 127, 3) := by decide +kernel
theorem dX3_isGivenUp_32 : decode cX3_isGivenUp 32 = .ok (.iconst 5, 1) := by decide +kernel
theorem dX3_isGivenUp_33 : decode cX3_isGivenUp 33 = .ok (.if_icmp .ne 7, 3) := by decide +kernel
theorem dX3_isGivenUp_36 : decode cX3_isGivenUp 36 = .ok (.iconst 1, 1) := by decide +kernel
theorem dX3_isGivenUp_37 : decode cX3_isGivenUp 37 = .ok (.goto 4, 3) := by decide +kernel
theorem dX3_isGivenUp_40 : decode cX3_isGivenUp 40 = .ok (.iconst 0, 1) := by decide +kernel
theorem dX3_isGivenUp_41 : decode cX3_isGivenUp 41 = .ok (.ireturn, 1) := by decide +kernel
theorem dX3_hasBrokenUnit_0 : decode cX3_hasBrokenUnit 0 = .ok (.aload_n 0, 1) := by decide +kernel
theorem dX3_hasBrokenUnit_1 : decode cX3_hasBrokenUnit 1 = .ok (.getfield 19, 3) := by decide +kernel
theorem dX3_hasBrokenUnit_4 : decode cX3_hasBrokenUnit 4 = .ok (.iload_n 1, 1) := by decide +kernel
theorem dX3_hasBrokenUnit_5 : decode cX3_hasBrokenUnit 5 = .ok (.aaload, 1) := by decide +kernel
theorem dX3_hasBrokenUnit_6 : decode cX3_hasBrokenUnit 6 = .ok (.getfield 117, 3) := by decide +kernel
theorem dX3_hasBrokenUnit_9 : decode cX3_hasBrokenUnit 9 = .ok (.istore_n 2, 1) := by decide +kernel
theorem dX3_hasBrokenUnit_10 : decode cX3_hasBrokenUnit 10 = .ok (.aload_n 0, 1) := by decide +kernel
theorem dX3_hasBrokenUnit_11 : decode cX3_hasBrokenUnit 11 = .ok (.iload_n 2, 1) := by decide +kernel
theorem dX3_hasBrokenUnit_12 : decode cX3_hasBrokenUnit 12 = .ok (.invokevirtual 120, 3) := by decide +kernel
theorem dX3_hasBrokenUnit_15 : decode cX3_hasBrokenUnit 15 = .ok (.ifCond .eq 19, 3) := by decide +kernel
theorem dX3_hasBrokenUnit_18 : decode cX3_hasBrokenUnit 18 = .ok (.aload_n 0, 1) := by decide +kernel
theorem dX3_hasBrokenUnit_19 : decode cX3_hasBrokenUnit 19 = .ok (.getfield 11, 3) := by decide +kernel
theorem dX3_hasBrokenUnit_22 : decode cX3_hasBrokenUnit 22 = .ok (.iload_n 2, 1) := by decide +kernel
theorem dX3_hasBrokenUnit_23 : decode cX3_hasBrokenUnit 23 = .ok (.aaload, 1) := by decide +kernel
theorem dX3_hasBrokenUnit_24 : decode cX3_hasBrokenUnit 24 = .ok (.getfield 79, 3) := by decide +kernel
theorem dX3_hasBrokenUnit_27 : decode cX3_hasBrokenUnit 27 = .ok (.ifCond .eq 7, 3) := by decide +kernel
theorem dX3_hasBrokenUnit_30 : decode cX3_hasBrokenUnit 30 = .ok (.iconst 1, 1) := by decide +kernel
theorem dX3_hasBrokenUnit_31 : decode cX3_hasBrokenUnit 31 = .ok (.goto 4, 3) := by decide +kernel
theorem dX3_hasBrokenUnit_34 : decode cX3_hasBrokenUnit 34 = .ok (.iconst 0, 1) := by decide +kernel
theorem dX3_hasBrokenUnit_35 : decode cX3_hasBrokenUnit 35 = .ok (.ireturn, 1) := by decide +kernel
theorem dX3_ticksLeft_0 : decode cX3_ticksLeft 0 = .ok (.aload_n 0, 1) := by decide +kernel
theorem dX3_ticksLeft_1 : decode cX3_ticksLeft 1 = .ok (.aload_n 0, 1) := by decide +kernel
theorem dX3_ticksLeft_2 : decode cX3_ticksLeft 2 = .ok (.getfield 19, 3) := by decide +kernel
theorem dX3_ticksLeft_5 : decode cX3_ticksLeft 5 = .ok (.iload_n 1, 1) := by decide +kernel
theorem dX3_ticksLeft_6 : decode cX3_ticksLeft 6 = .ok (.aaload, 1) := by decide +kernel
theorem dX3_ticksLeft_7 : decode cX3_ticksLeft 7 = .ok (.iconst 1, 1) := by decide +kernel
theorem dX3_ticksLeft_8 : decode cX3_ticksLeft 8 = .ok (.invokevirtual 104, 3) := by decide +kernel
theorem dX3_ticksLeft_11 : decode cX3_ticksLeft 11 = .ok (.aload_n 0, 1) := by decide +kernel
theorem dX3_ticksLeft_12 : decode cX3_ticksLeft 12 = .ok (.getfield 19, 3) := by decide +kernel
theorem dX3_ticksLeft_15 : decode cX3_ticksLeft 15 = .ok (.iload_n 1, 1) := by decide +kernel
theorem dX3_ticksLeft_16 : decode cX3_ticksLeft 16 = .ok (.aaload, 1) := by decide +kernel
theorem dX3_ticksLeft_17 : decode cX3_ticksLeft 17 = .ok (.getfield 130, 3) := by decide +kernel
theorem dX3_ticksLeft_20 : decode cX3_ticksLeft 20 = .ok (.isub, 1) := by decide +kernel
theorem dX3_ticksLeft_21 : decode cX3_ticksLeft 21 = .ok (.ireturn, 1) := by decide +kernel
theorem dX3_valueOf_0 : decode cX3_valueOf 0 = .ok (.aload_n 0, 1) := by decide +kernel
theorem dX3_valueOf_1 : decode cX3_valueOf 1 = .ok (.getfield 44, 3) := by decide +kernel
theorem dX3_valueOf_4 : decode cX3_valueOf 4 = .ok (.aload_n 1, 1) := by decide +kernel
theorem dX3_valueOf_5 : decode cX3_valueOf 5 = .ok (.getfield 133, 3) := by decide +kernel
theorem dX3_valueOf_8 : decode cX3_valueOf 8 = .ok (.aload_n 1, 1) := by decide +kernel
theorem dX3_valueOf_9 : decode cX3_valueOf 9 = .ok (.getfield 136, 3) := by decide +kernel
theorem dX3_valueOf_12 : decode cX3_valueOf 12 = .ok (.invokestatic 139, 3) := by decide +kernel
theorem dX3_valueOf_15 : decode cX3_valueOf 15 = .ok (.aload_n 1, 1) := by decide +kernel
theorem dX3_valueOf_16 : decode cX3_valueOf 16 = .ok (.getfield 145, 3) := by decide +kernel
theorem dX3_valueOf_19 : decode cX3_valueOf 19 = .ok (.iload_n 2, 1) := by decide +kernel
theorem dX3_valueOf_20 : decode cX3_valueOf 20 = .ok (.invokevirtual 148, 3) := by decide +kernel
theorem dX3_valueOf_23 : decode cX3_valueOf 23 = .ok (.ireturn, 1) := by decide +kernel
theorem dX3_holdBatch_0 : decode cX3_holdBatch 0 = .ok (.aload_n 0, 1) := by decide +kernel
theorem dX3_holdBatch_1 : decode cX3_holdBatch 1 = .ok (.iload_n 1, 1) := by decide +kernel
theorem dX3_holdBatch_2 : decode cX3_holdBatch 2 = .ok (.invokevirtual 152, 3) := by decide +kernel
theorem dX3_holdBatch_5 : decode cX3_holdBatch 5 = .ok (.aload_n 0, 1) := by decide +kernel
theorem dX3_holdBatch_6 : decode cX3_holdBatch 6 = .ok (.getfield 19, 3) := by decide +kernel
theorem dX3_holdBatch_9 : decode cX3_holdBatch 9 = .ok (.iload_n 1, 1) := by decide +kernel
theorem dX3_holdBatch_10 : decode cX3_holdBatch 10 = .ok (.aaload, 1) := by decide +kernel
theorem dX3_holdBatch_11 : decode cX3_holdBatch 11 = .ok (.iconst 2, 1) := by decide +kernel
theorem dX3_holdBatch_12 : decode cX3_holdBatch 12 = .ok (.putfield 127, 3) := by decide +kernel
theorem dX3_holdBatch_15 : decode cX3_holdBatch 15 = .ok (.aload_n 0, 1) := by decide +kernel
theorem dX3_holdBatch_16 : decode cX3_holdBatch 16 = .ok (.getfield 33, 3) := by decide +kernel
theorem dX3_holdBatch_19 : decode cX3_holdBatch 19 = .ok (.aload_n 0, 1) := by decide +kernel
theorem dX3_holdBatch_20 : decode cX3_holdBatch 20 = .ok (.getfield 72, 3) := by decide +kernel
theorem dX3_holdBatch_23 : decode cX3_holdBatch 23 = .ok (.iload_n 1, 1) := by decide +kernel
theorem dX3_holdBatch_24 : decode cX3_holdBatch 24 = .ok (.iconst 2, 1) := by decide +kernel
theorem dX3_holdBatch_25 : decode cX3_holdBatch 25 = .ok (.invokevirtual 155, 3) := by decide +kernel
theorem dX3_holdBatch_28 : decode cX3_holdBatch 28 = .ok (.return_, 1) := by decide +kernel
theorem dX3_restartBatch_0 : decode cX3_restartBatch 0 = .ok (.aload_n 0, 1) := by decide +kernel
theorem dX3_restartBatch_1 : decode cX3_restartBatch 1 = .ok (.getfield 19, 3) := by decide +kernel
theorem dX3_restartBatch_4 : decode cX3_restartBatch 4 = .ok (.iload_n 1, 1) := by decide +kernel
theorem dX3_restartBatch_5 : decode cX3_restartBatch 5 = .ok (.aaload, 1) := by decide +kernel
theorem dX3_restartBatch_6 : decode cX3_restartBatch 6 = .ok (.astore_n 2, 1) := by decide +kernel
theorem dX3_restartBatch_7 : decode cX3_restartBatch 7 = .ok (.aload_n 0, 1) := by decide +kernel
theorem dX3_restartBatch_8 : decode cX3_restartBatch 8 = .ok (.aload_n 2, 1) := by decide +kernel
theorem dX3_restartBatch_9 : decode cX3_restartBatch 9 = .ok (.iconst 4, 1) := by decide +kernel
theorem dX3_restartBatch_10 : decode cX3_restartBatch 10 = .ok (.invokevirtual 104, 3) := by decide +kernel
theorem dX3_restartBatch_13 : decode cX3_restartBatch 13 = .ok (.iconst 1, 1) := by decide +kernel
theorem dX3_restartBatch_14 : decode cX3_restartBatch 14 = .ok (.if_icmp .ne 8, 3) := by decide +kernel
theorem dX3_restartBatch_17 : decode cX3_restartBatch 17 = .ok (.aload_n 2, 1) := by decide +kernel
theorem dX3_restartBatch_18 : decode cX3_restartBatch 18 = .ok (.iconst 0, 1) := by decide +kernel
theorem dX3_restartBatch_19 : decode cX3_restartBatch 19 = .ok (.putfield 130, 3) := by decide +kernel
theorem dX3_restartBatch_22 : decode cX3_restartBatch 22 = .ok (.aload_n 2, 1) := by decide +kernel
theorem dX3_restartBatch_23 : decode cX3_restartBatch 23 = .ok (.iconst 1, 1) := by decide +kernel
theorem dX3_restartBatch_24 : decode cX3_restartBatch 24 = .ok (.putfield 127, 3) := by decide +kernel
theorem dX3_restartBatch_27 : decode cX3_restartBatch 27 = .ok (.aload_n 0, 1) := by decide +kernel
theorem dX3_restartBatch_28 : decode cX3_restartBatch 28 = .ok (.getfield 33, 3) := by decide +kernel
theorem dX3_restartBatch_31 : decode cX3_restartBatch 31 = .ok (.aload_n 0, 1) := by decide +kernel
theorem dX3_restartBatch_32 : decode cX3_restartBatch 32 = .ok (.getfield 72, 3) := by decide +kernel
theorem dX3_restartBatch_35 : decode cX3_restartBatch 35 = .ok (.iload_n 1, 1) := by decide +kernel
theorem dX3_restartBatch_36 : decode cX3_restartBatch 36 = .ok (.iconst 3, 1) := by decide +kernel
theorem dX3_restartBatch_37 : decode cX3_restartBatch 37 = .ok (.invokevirtual 155, 3) := by decide +kernel
theorem dX3_restartBatch_40 : decode cX3_restartBatch 40 = .ok (.return_, 1) := by decide +kernel
theorem dX3_stopBatch_0 : decode cX3_stopBatch 0 = .ok (.aload_n 0, 1) := by decide +kernel
theorem dX3_stopBatch_1 : decode cX3_stopBatch 1 = .ok (.getfield 19, 3) := by decide +kernel
theorem dX3_stopBatch_4 : decode cX3_stopBatch 4 = .ok (.iload_n 1, 1) := by decide +kernel
theorem dX3_stopBatch_5 : decode cX3_stopBatch 5 = .ok (.aaload, 1) := by decide +kernel
theorem dX3_stopBatch_6 : decode cX3_stopBatch 6 = .ok (.astore_n 2, 1) := by decide +kernel
theorem dX3_stopBatch_7 : decode cX3_stopBatch 7 = .ok (.aload_n 2, 1) := by decide +kernel
theorem dX3_stopBatch_8 : decode cX3_stopBatch 8 = .ok (.getfield 127, 3) := by decide +kernel
theorem dX3_stopBatch_11 : decode cX3_stopBatch 11 = .ok (.iconst 1, 1) := by decide +kernel
theorem dX3_stopBatch_12 : decode cX3_stopBatch 12 = .ok (.if_icmp .ne 18, 3) := by decide +kernel
theorem dX3_stopBatch_15 : decode cX3_stopBatch 15 = .ok (.aload_n 2, 1) := by decide +kernel
theorem dX3_stopBatch_16 : decode cX3_stopBatch 16 = .ok (.invokevirtual 159, 3) := by decide +kernel
theorem dX3_stopBatch_19 : decode cX3_stopBatch 19 = .ok (.ifCond .eq 11, 3) := by decide +kernel
theorem dX3_stopBatch_22 : decode cX3_stopBatch 22 = .ok (.aload_n 2, 1) := by decide +kernel
theorem dX3_stopBatch_23 : decode cX3_stopBatch 23 = .ok (.iconst 3, 1) := by decide +kernel
theorem dX3_stopBatch_24 : decode cX3_stopBatch 24 = .ok (.putfield 127, 3) := by decide +kernel
theorem dX3_stopBatch_27 : decode cX3_stopBatch 27 = .ok (.goto 10, 3) := by decide +kernel
theorem dX3_stopBatch_30 : decode cX3_stopBatch 30 = .ok (.aload_n 0, 1) := by decide +kernel
theorem dX3_stopBatch_31 : decode cX3_stopBatch 31 = .ok (.iload_n 1, 1) := by decide +kernel
theorem dX3_stopBatch_32 : decode cX3_stopBatch 32 = .ok (.iconst 4, 1) := by decide +kernel
theorem dX3_stopBatch_33 : decode cX3_stopBatch 33 = .ok (.iconst 4, 1) := by decide +kernel
theorem dX3_stopBatch_34 : decode cX3_stopBatch 34 = .ok (.invokevirtual 162, 3) := by decide +kernel
theorem dX3_stopBatch_37 : decode cX3_stopBatch 37 = .ok (.return_, 1) := by decide +kernel
theorem dX3_abortWithFollowing_0 : decode cX3_abortWithFollowing 0 = .ok (.aload_n 0, 1) := by decide +kernel
theorem dX3_abortWithFollowing_1 : decode cX3_abortWithFollowing 1 = .ok (.iload_n 1, 1) := by decide +kernel
theorem dX3_abortWithFollowing_2 : decode cX3_abortWithFollowing 2 = .ok (.iconst 5, 1) := by decide +kernel
theorem dX3_abortWithFollowing_3 : decode cX3_abortWithFollowing 3 = .ok (.iconst 5, 1) := by decide +kernel
theorem dX3_abortWithFollowing_4 : decode cX3_abortWithFollowing 4 = .ok (.invokevirtual 162, 3) := by decide +kernel
theorem dX3_abortWithFollowing_7 : decode cX3_abortWithFollowing 7 = .ok (.iconst 1, 1) := by decide +kernel
theorem dX3_abortWithFollowing_8 : decode cX3_abortWithFollowing 8 = .ok (.istore_n 2, 1) := by decide +kernel
theorem dX3_abortWithFollowing_9 : decode cX3_abortWithFollowing 9 = .ok (.iload_n 1, 1) := by decide +kernel
theorem dX3_abortWithFollowing_10 : decode cX3_abortWithFollowing 10 = .ok (.iconst 1, 1) := by decide +kernel
theorem dX3_abortWithFollowing_11 : decode cX3_abortWithFollowing 11 = .ok (.iadd, 1) := by decide +kernel
theorem dX3_abortWithFollowing_12 : decode cX3_abortWithFollowing 12 = .ok (.istore_n 3, 1) := by decide +kernel
theorem dX3_abortWithFollowing_13 : decode cX3_abortWithFollowing 13 = .ok (.iload_n 3, 1) := by decide +kernel
theorem dX3_abortWithFollowing_14 : decode cX3_abortWithFollowing 14 = .ok (.aload_n 0, 1) := by decide +kernel
theorem dX3_abortWithFollowing_15 : decode cX3_abortWithFollowing 15 = .ok (.getfield 57, 3) := by decide +kernel
theorem dX3_abortWithFollowing_18 : decode cX3_abortWithFollowing 18 = .ok (.if_icmp .ge 65, 3) := by decide +kernel
theorem dX3_abortWithFollowing_21 : decode cX3_abortWithFollowing 21 = .ok (.aload_n 0, 1) := by decide +kernel
theorem dX3_abortWithFollowing_22 : decode cX3_abortWithFollowing 22 = .ok (.getfield 19, 3) := by decide +kernel
theorem dX3_abortWithFollowing_25 : decode cX3_abortWithFollowing 25 = .ok (.iload_n 3, 1) := by decide +kernel
theorem dX3_abortWithFollowing_26 : decode cX3_abortWithFollowing 26 = .ok (.aaload, 1) := by decide +kernel
theorem dX3_abortWithFollowing_27 : decode cX3_abortWithFollowing 27 = .ok (.getfield 165, 3) := by decide +kernel
theorem dX3_abortWithFollowing_30 : decode cX3_abortWithFollowing 30 = .ok (.istore 4, 2) := by decide +kernel
theorem dX3_abortWithFollowing_32 : decode cX3_abortWithFollowing 32 = .ok (.aload_n 0, 1) := by decide +kernel
theorem dX3_abortWithFollowing_33 : decode cX3_abortWithFollowing 33 = .ok (.iload 4, 2) := by decide +kernel
theorem dX3_abortWithFollowing_35 : decode cX3_abortWithFollowing 35 = .ok (.invokevirtual 86, 3) := by decide +kernel
theorem dX3_abortWithFollowing_38 : decode cX3_abortWithFollowing 38 = .ok (.ifCond .eq 39, 3) := by decide +kernel
theorem dX3_abortWithFollowing_41 : decode cX3_abortWithFollowing 41 = .ok (.aload_n 0, 1) := by decide +kernel
theorem dX3_abortWithFollowing_42 : decode cX3_abortWithFollowing 42 = .ok (.getfield 19, 3) := by decide +kernel
theorem dX3_abortWithFollowing_45 : decode cX3_abortWithFollowing 45 = .ok (.iload 4, 2) := by decide +kernel
theorem dX3_abortWithFollowing_47 : decode cX3_abortWithFollowing 47 = .ok (.aaload, 1) := by decide +kernel
theorem dX3_abortWithFollowing_48 : decode cX3_abortWithFollowing 48 = .ok (.getfield 127, 3) := by decide +kernel
theorem dX3_abortWithFollowing_51 : decode cX3_abortWithFollowing 51 = .ok (.iconst 5, 1) := by decide +kernel
theorem dX3_abortWithFollowing_52 : decode cX3_abortWithFollowing 52 = .ok (.if_icmp .ne 25, 3) := by decide +kernel
theorem dX3_abortWithFollowing_55 : decode cX3_abortWithFollowing 55 = .ok (.aload_n 0, 1) := by decide +kernel
theorem dX3_abortWithFollowing_56 : decode cX3_abortWithFollowing 56 = .ok (.getfield 19, 3) := by decide +kernel
theorem dX3_abortWithFollowing_59 : decode cX3_abortWithFollowing 59 = .ok (.iload_n 3, 1) := by decide +kernel
theorem dX3_abortWithFollowing_60 : decode cX3_abortWithFollowing 60 = .ok (.aaload, 1) := by decide +kernel
theorem dX3_abortWithFollowing_61 : decode cX3_abortWithFollowing 61 = .ok (.invokevirtual 168, 3) := by decide +kernel
theorem dX3_abortWithFollowing_64 : decode cX3_abortWithFollowing 64 = .ok (.ifCond .ne 13, 3) := by decide +kernel
theorem dX3_abortWithFollowing_67 : decode cX3_abortWithFollowing 67 = .ok (.aload_n 0, 1) := by decide +kernel
theorem dX3_abortWithFollowing_68 : decode cX3_abortWithFollowing 68 = .ok (.iload_n 3, 1) := by decide +kernel
theorem dX3_abortWithFollowing_69 : decode cX3_abortWithFollowing 69 = .ok (.iconst 5, 1) := by decide +kernel
theorem dX3_abortWithFollowing_70 : decode cX3_abortWithFollowing 70 = .ok (.iconst 5, 1) := by decide +kernel
theorem dX3_abortWithFollowing_71 : decode cX3_abortWithFollowing 71 = .ok (.invokevirtual 162, 3) := by decide +kernel
theorem dX3_abortWithFollowing_74 : decode cX3_abortWithFollowing 74 = .ok (.iinc 2 1, 3) := by decide +kernel
theorem dX3_abortWithFollowing_77 : decode cX3_abortWithFollowing 77 = .ok (.iinc 3 1, 3) := by decide +kernel
theorem dX3_abortWithFollowing_80 : decode cX3_abortWithFollowing 80 = .ok (.goto (-67), 3) := by decide +kernel
theorem dX3_abortWithFollowing_83 : decode cX3_abortWithFollowing 83 = .ok (.iload_n 2, 1) := by decide +kernel
theorem dX3_abortWithFollowing_84 : decode cX3_abortWithFollowing 84 = .ok (.ireturn, 1) := by decide +kernel
theorem dX3_bringToEnd_0 : decode cX3_bringToEnd 0 = .ok (.aload_n 0, 1) := by decide +kernel
theorem dX3_bringToEnd_1 : decode cX3_bringToEnd 1 = .ok (.iload_n 1, 1) := by decide +kernel
theorem dX3_bringToEnd_2 : decode cX3_bringToEnd 2 = .ok (.invokevirtual 152, 3) := by decide +kernel
theorem dX3_bringToEnd_5 : decode cX3_bringToEnd 5 = .ok (.aload_n 0, 1) := by decide +kernel
theorem dX3_bringToEnd_6 : decode cX3_bringToEnd 6 = .ok (.aload_n 0, 1) := by decide +kernel
theorem dX3_bringToEnd_7 : decode cX3_bringToEnd 7 = .ok (.getfield 19, 3) := by decide +kernel
theorem dX3_bringToEnd_10 : decode cX3_bringToEnd 10 = .ok (.iload_n 1, 1) := by decide +kernel
theorem dX3_bringToEnd_11 : decode cX3_bringToEnd 11 = .ok (.aaload, 1) := by decide +kernel
theorem dX3_bringToEnd_12 : decode cX3_bringToEnd 12 = .ok (.invokevirtual 171, 3) := by decide +kernel
theorem dX3_bringToEnd_15 : decode cX3_bringToEnd 15 = .ok (.aload_n 0, 1) := by decide +kernel
theorem dX3_bringToEnd_16 : decode cX3_bringToEnd 16 = .ok (.getfield 19, 3) := by decide +kernel
theorem dX3_bringToEnd_19 : decode cX3_bringToEnd 19 = .ok (.iload_n 1, 1) := by decide +kernel
theorem dX3_bringToEnd_20 : decode cX3_bringToEnd 20 = .ok (.aaload, 1) := by decide +kernel
theorem dX3_bringToEnd_21 : decode cX3_bringToEnd 21 = .ok (.iload_n 2, 1) := by decide +kernel
theorem dX3_bringToEnd_22 : decode cX3_bringToEnd 22 = .ok (.putfield 127, 3) := by decide +kernel
theorem dX3_bringToEnd_25 : decode cX3_bringToEnd 25 = .ok (.aload_n 0, 1) := by decide +kernel
theorem dX3_bringToEnd_26 : decode cX3_bringToEnd 26 = .ok (.getfield 33, 3) := by decide +kernel
theorem dX3_bringToEnd_29 : decode cX3_bringToEnd 29 = .ok (.aload_n 0, 1) := by decide +kernel
theorem dX3_bringToEnd_30 : decode cX3_bringToEnd 30 = .ok (.getfield 72, 3) := by decide +kernel
theorem dX3_bringToEnd_33 : decode cX3_bringToEnd 33 = .ok (.iload_n 1, 1) := by decide +kernel
theorem dX3_bringToEnd_34 : decode cX3_bringToEnd 34 = .ok (.iload_n 3, 1) := by decide +kernel
theorem dX3_bringToEnd_35 : decode cX3_bringToEnd 35 = .ok (.invokevirtual 155, 3) := by decide +kernel
theorem dX3_bringToEnd_38 : decode cX3_bringToEnd 38 = .ok (.return_, 1) := by decide +kernel
theorem dX3_arrange_0 : decode cX3_arrange 0 = .ok (.aload_n 0, 1) := by decide +kernel
theorem dX3_arrange_1 : decode cX3_arrange 1 = .ok (.iconst 0, 1) := by decide +kernel
theorem dX3_arrange_2 : decode cX3_arrange 2 = .ok (.putfield 174, 3) := by decide +kernel
theorem dX3_arrange_5 : decode cX3_arrange 5 = .ok (.iconst 0, 1) := by decide +kernel
theorem dX3_arrange_6 : decode cX3_arrange 6 = .ok (.istore_n 1, 1) := by decide +kernel
theorem dX3_arrange_7 : decode cX3_arrange 7 = .ok (.iload_n 1, 1) := by decide +kernel
theorem dX3_arrange_8 : decode cX3_arrange 8 = .ok (.aload_n 0, 1) := by decide +kernel
theorem dX3_arrange_9 : decode cX3_arrange 9 = .ok (.getfield 57, 3) := by decide +kernel
theorem dX3_arrange_12 : decode cX3_arrange 12 = .ok (.if_icmp .ge 26, 3) := by decide +kernel
theorem dX3_arrange_15 : decode cX3_arrange 15 = .ok (.aload_n 0, 1) := by decide +kernel
theorem dX3_arrange_16 : decode cX3_arrange 16 = .ok (.getfield 19, 3) := by decide +kernel
theorem dX3_arrange_19 : decode cX3_arrange 19 = .ok (.iload_n 1, 1) := by decide +kernel
theorem dX3_arrange_20 : decode cX3_arrange 20 = .ok (.aaload, 1) := by decide +kernel
theorem dX3_arrange_21 : decode cX3_arrange 21 = .ok (.invokevirtual 90, 3) := by decide +kernel
theorem dX3_arrange_24 : decode cX3_arrange 24 = .ok (.ifCond .eq 8, 3) := by decide +kernel
theorem dX3_arrange_27 : decode cX3_arrange 27 = .ok (.aload_n 0, 1) := by decide +kernel
theorem dX3_arrange_28 : decode cX3_arrange 28 = .ok (.iload_n 1, 1) := by decide +kernel
theorem dX3_arrange_29 : decode cX3_arrange 29 = .ok (.invokevirtual 177, 3) := by decide +kernel
theorem dX3_arrange_32 : decode cX3_arrange 32 = .ok (.iinc 1 1, 3) := by decide +kernel
theorem dX3_arrange_35 : decode cX3_arrange 35 = .ok (.goto (-28), 3) := by decide +kernel
theorem dX3_arrange_38 : decode cX3_arrange 38 = .ok (.return_, 1) := by decide +kernel
theorem dX3_insertInOrder_0 : decode cX3_insertInOrder 0 = .ok (.aload_n 0, 1) := by decide +kernel
theorem dX3_insertInOrder_1 : decode cX3_insertInOrder 1 = .ok (.getfield 174, 3) := by decide +kernel
theorem dX3_insertInOrder_4 : decode cX3_insertInOrder 4 = .ok (.istore_n 2, 1) := by decide +kernel
theorem dX3_insertInOrder_5 : decode cX3_insertInOrder 5 = .ok (.iload_n 2, 1) := by decide +kernel
theorem dX3_insertInOrder_6 : decode cX3_insertInOrder 6 = .ok (.ifCond .le 51, 3) := by decide +kernel
theorem dX3_insertInOrder_9 : decode cX3_insertInOrder 9 = .ok (.aload_n 0, 1) := by decide +kernel
theorem dX3_insertInOrder_10 : decode cX3_insertInOrder 10 = .ok (.getfield 19, 3) := by decide +kernel
theorem dX3_insertInOrder_13 : decode cX3_insertInOrder 13 = .ok (.aload_n 0, 1) := by decide +kernel
theorem dX3_insertInOrder_14 : decode cX3_insertInOrder 14 = .ok (.getfield 37, 3) := by decide +kernel
theorem dX3_insertInOrder_17 : decode cX3_insertInOrder 17 = .ok (.iload_n 2, 1) := by decide +kernel
theorem dX3_insertInOrder_18 : decode cX3_insertInOrder 18 = .ok (.iconst 1, 1) := by decide +kernel
theorem dX3_insertInOrder_19 : decode cX3_insertInOrder 19 = .ok (.isub, 1) := by decide +kernel
theorem dX3_insertInOrder_20 : decode cX3_insertInOrder 20 = .ok (.iaload, 1) := by decide +kernel
theorem dX3_insertInOrder_21 : decode cX3_insertInOrder 21 = .ok (.aaload, 1) := by decide +kernel
theorem dX3_insertInOrder_22 : decode cX3_insertInOrder 22 = .ok (.getfield 180, 3) := by decide +kernel
theorem dX3_insertInOrder_25 : decode cX3_insertInOrder 25 = .ok (.aload_n 0, 1) := by decide +kernel
theorem dX3_insertInOrder_26 : decode cX3_insertInOrder 26 = .ok (.getfield 19, 3) := by decide +kernel
theorem dX3_insertInOrder_29 : decode cX3_insertInOrder 29 = .ok (.iload_n 1, 1) := by decide +kernel
theorem dX3_insertInOrder_30 : decode cX3_insertInOrder 30 = .ok (.aaload, 1) := by decide +kernel
theorem dX3_insertInOrder_31 : decode cX3_insertInOrder 31 = .ok (.getfield 180, 3) := by decide +kernel
theorem dX3_insertInOrder_34 : decode cX3_insertInOrder 34 = .ok (.if_icmp .ge 23, 3) := by decide +kernel
theorem dX3_insertInOrder_37 : decode cX3_insertInOrder 37 = .ok (.aload_n 0, 1) := by decide +kernel
theorem dX3_insertInOrder_38 : decode cX3_insertInOrder 38 = .ok (.getfield 37, 3) := by decide +kernel
theorem dX3_insertInOrder_41 : decode cX3_insertInOrder 41 = .ok (.iload_n 2, 1) := by decide +kernel
theorem dX3_insertInOrder_42 : decode cX3_insertInOrder 42 = .ok (.aload_n 0, 1) := by decide +kernel
theorem dX3_insertInOrder_43 : decode cX3_insertInOrder 43 = .ok (.getfield 37, 3) := by decide +kernel
theorem dX3_insertInOrder_46 : decode cX3_insertInOrder 46 = .ok (.iload_n 2, 1) := by decide +kernel
theorem dX3_insertInOrder_47 : decode cX3_insertInOrder 47 = .ok (.iconst 1, 1) := by decide +kernel
theorem dX3_insertInOrder_48 : decode cX3_insertInOrder 48 = .ok (.isub, 1) := by decide +kernel
theorem dX3_insertInOrder_49 : decode cX3_insertInOrder 49 = .ok (.iaload, 1) := by decide +kernel
theorem dX3_insertInOrder_50 : decode cX3_insertInOrder 50 = .ok (.iastore, 1) := by decide +kernel
theorem dX3_insertInOrder_51 : decode cX3_insertInOrder 51 = .ok (.iinc 2 (-1), 3) := by decide +kernel
theorem dX3_insertInOrder_54 : decode cX3_insertInOrder 54 = .ok (.goto (-49), 3) := by decide +kernel
theorem dX3_insertInOrder_57 : decode cX3_insertInOrder 57 = .ok (.aload_n 0, 1) := by decide +kernel
theorem dX3_insertInOrder_58 : decode cX3_insertInOrder 58 = .ok (.getfield 37, 3) := by decide +kernel
theorem dX3_insertInOrder_61 : decode cX3_insertInOrder 61 = .ok (.iload_n 2, 1) := by decide +kernel
theorem dX3_insertInOrder_62 : decode cX3_insertInOrder 62 = .ok (.iload_n 1, 1) := by decide +kernel
theorem dX3_insertInOrder_63 : decode cX3_insertInOrder 63 = .ok (.iastore, 1) := by decide +kernel
theorem dX3_insertInOrder_64 : decode cX3_insertInOrder 64 = .ok (.aload_n 0, 1) := by decide +kernel
theorem dX3_insertInOrder_65 : decode cX3_insertInOrder 65 = .ok (.dup, 1) := by decide +kernel
theorem dX3_insertInOrder_66 : decode cX3_insertInOrder 66 = .ok (.getfield 174, 3) := by decide +kernel
theorem dX3_insertInOrder_69 : decode cX3_insertInOrder 69 = .ok (.iconst 1, 1) := by decide +kernel
theorem dX3_insertInOrder_70 : decode cX3_insertInOrder 70 = .ok (.iadd, 1) := by decide +kernel
theorem dX3_insertInOrder_71 : decode cX3_insertInOrder 71 = .ok (.putfield 174, 3) := by decide +kernel
theorem dX3_insertInOrder_74 : decode cX3_insertInOrder 74 = .ok (.return_, 1) := by decide +kernel
theorem dX3_passTick_0 : decode cX3_passTick 0 = .ok (.aload_n 0, 1) := by decide +kernel
theorem dX3_passTick_1 : decode cX3_passTick 1 = .ok (.invokevirtual 183, 3) := by decide +kernel
theorem dX3_passTick_4 : decode cX3_passTick 4 = .ok (.istore_n 1, 1) := by decide +kernel
theorem dX3_passTick_5 : decode cX3_passTick 5 = .ok (.iconst 0, 1) := by decide +kernel
theorem dX3_passTick_6 : decode cX3_passTick 6 = .ok (.istore_n 2, 1) := by decide +kernel
theorem dX3_passTick_7 : decode cX3_passTick 7 = .ok (.iload_n 2, 1) := by decide +kernel
theorem dX3_passTick_8 : decode cX3_passTick 8 = .ok (.aload_n 0, 1) := by decide +kernel
theorem dX3_passTick_9 : decode cX3_passTick 9 = .ok (.getfield 174, 3) := by decide +kernel
theorem dX3_passTick_12 : decode cX3_passTick 12 = .ok (.if_icmp .ge 46, 3) := by decide +kernel
theorem dX3_passTick_15 : decode cX3_passTick 15 = .ok (.aload_n 0, 1) := by decide +kernel
theorem dX3_passTick_16 : decode cX3_passTick 16 = .ok (.getfield 37, 3) := by decide +kernel
theorem dX3_passTick_19 : decode cX3_passTick 19 = .ok (.iload_n 2, 1) := by decide +kernel
theorem dX3_passTick_20 : decode cX3_passTick 20 = .ok (.iaload, 1) := by decide +kernel
theorem dX3_passTick_21 : decode cX3_passTick 21 = .ok (.istore_n 3, 1) := by decide +kernel
theorem dX3_passTick_22 : decode cX3_passTick 22 = .ok (.aload_n 0, 1) := by decide +kernel
theorem dX3_passTick_23 : decode cX3_passTick 23 = .ok (.iload_n 3, 1) := by decide +kernel
theorem dX3_passTick_24 : decode cX3_passTick 24 = .ok (.invokevirtual 86, 3) := by decide +kernel
theorem dX3_passTick_27 : decode cX3_passTick 27 = .ok (.ifCond .eq 25, 3) := by decide +kernel
theorem dX3_passTick_30 : decode cX3_passTick 30 = .ok (.aload_n 0, 1) := by decide +kernel
theorem dX3_passTick_31 : decode cX3_passTick 31 = .ok (.getfield 19, 3) := by decide +kernel
theorem dX3_passTick_34 : decode cX3_passTick 34 = .ok (.iload_n 3, 1) := by decide +kernel
theorem dX3_passTick_35 : decode cX3_passTick 35 = .ok (.aaload, 1) := by decide +kernel
theorem dX3_passTick_36 : decode cX3_passTick 36 = .ok (.invokevirtual 90, 3) := by decide +kernel
theorem dX3_passTick_39 : decode cX3_passTick 39 = .ok (.ifCond .eq 13, 3) := by decide +kernel
theorem dX3_passTick_42 : decode cX3_passTick 42 = .ok (.aload_n 0, 1) := by decide +kernel
theorem dX3_passTick_43 : decode cX3_passTick 43 = .ok (.iload_n 3, 1) := by decide +kernel
theorem dX3_passTick_44 : decode cX3_passTick 44 = .ok (.invokevirtual 186, 3) := by decide +kernel
theorem dX3_passTick_47 : decode cX3_passTick 47 = .ok (.ifCond .eq 5, 3) := by decide +kernel
theorem dX3_passTick_50 : decode cX3_passTick 50 = .ok (.iconst 1, 1) := by decide +kernel
theorem dX3_passTick_51 : decode cX3_passTick 51 = .ok (.istore_n 1, 1) := by decide +kernel
theorem dX3_passTick_52 : decode cX3_passTick 52 = .ok (.iinc 2 1, 3) := by decide +kernel
theorem dX3_passTick_55 : decode cX3_passTick 55 = .ok (.goto (-48), 3) := by decide +kernel
theorem dX3_passTick_58 : decode cX3_passTick 58 = .ok (.aload_n 0, 1) := by decide +kernel
theorem dX3_passTick_59 : decode cX3_passTick 59 = .ok (.dup, 1) := by decide +kernel
theorem dX3_passTick_60 : decode cX3_passTick 60 = .ok (.getfield 72, 3) := by decide +kernel
theorem dX3_passTick_63 : decode cX3_passTick 63 = .ok (.iconst 1, 1) := by decide +kernel
theorem dX3_passTick_64 : decode cX3_passTick 64 = .ok (.iadd, 1) := by decide +kernel
theorem dX3_passTick_65 : decode cX3_passTick 65 = .ok (.putfield 72, 3) := by decide +kernel
theorem dX3_passTick_68 : decode cX3_passTick 68 = .ok (.iload_n 1, 1) := by decide +kernel
theorem dX3_passTick_69 : decode cX3_passTick 69 = .ok (.ireturn, 1) := by decide +kernel
theorem dX3_cleanUnits_0 : decode cX3_cleanUnits 0 = .ok (.iconst 0, 1) := by decide +kernel
theorem dX3_cleanUnits_1 : decode cX3_cleanUnits 1 = .ok (.istore_n 1, 1) := by decide +kernel
theorem dX3_cleanUnits_2 : decode cX3_cleanUnits 2 = .ok (.iconst 0, 1) := by decide +kernel
theorem dX3_cleanUnits_3 : decode cX3_cleanUnits 3 = .ok (.istore_n 2, 1) := by decide +kernel
theorem dX3_cleanUnits_4 : decode cX3_cleanUnits 4 = .ok (.iload_n 2, 1) := by decide +kernel
theorem dX3_cleanUnits_5 : decode cX3_cleanUnits 5 = .ok (.aload_n 0, 1) := by decide +kernel
theorem dX3_cleanUnits_6 : decode cX3_cleanUnits 6 = .ok (.getfield 50, 3) := by decide +kernel
theorem dX3_cleanUnits_9 : decode cX3_cleanUnits 9 = .ok (.if_icmp .ge 38, 3) := by decide +kernel
theorem dX3_cleanUnits_12 : decode cX3_cleanUnits 12 = .ok (.aload_n 0, 1) := by decide +kernel
theorem dX3_cleanUnits_13 : decode cX3_cleanUnits 13 = .ok (.getfield 11, 3) := by decide +kernel
theorem dX3_cleanUnits_16 : decode cX3_cleanUnits 16 = .ok (.iload_n 2, 1) := by decide +kernel
theorem dX3_cleanUnits_17 : decode cX3_cleanUnits 17 = .ok (.aaload, 1) := by decide +kernel
theorem dX3_cleanUnits_18 : decode cX3_cleanUnits 18 = .ok (.getfield 123, 3) := by decide +kernel
theorem dX3_cleanUnits_21 : decode cX3_cleanUnits 21 = .ok (.ifCond .le 20, 3) := by decide +kernel
theorem dX3_cleanUnits_24 : decode cX3_cleanUnits 24 = .ok (.aload_n 0, 1) := by decide +kernel
theorem dX3_cleanUnits_25 : decode cX3_cleanUnits 25 = .ok (.getfield 11, 3) := by decide +kernel
theorem dX3_cleanUnits_28 : decode cX3_cleanUnits 28 = .ok (.iload_n 2, 1) := by decide +kernel
theorem dX3_cleanUnits_29 : decode cX3_cleanUnits 29 = .ok (.aaload, 1) := by decide +kernel
theorem dX3_cleanUnits_30 : decode cX3_cleanUnits 30 = .ok (.dup, 1) := by decide +kernel
theorem dX3_cleanUnits_31 : decode cX3_cleanUnits 31 = .ok (.getfield 123, 3) := by decide +kernel
theorem dX3_cleanUnits_34 : decode cX3_cleanUnits 34 = .ok (.iconst 1, 1) := by decide +kernel
theorem dX3_cleanUnits_35 : decode cX3_cleanUnits 35 = .ok (.isub, 1) := by decide +kernel
theorem dX3_cleanUnits_36 : decode cX3_cleanUnits 36 = .ok (.putfield 123, 3) := by decide +kernel
theorem dX3_cleanUnits_39 : decode cX3_cleanUnits 39 = .ok (.iconst 1, 1) := by decide +kernel
theorem dX3_cleanUnits_40 : decode cX3_cleanUnits 40 = .ok (.istore_n 1, 1) := by decide +kernel
theorem dX3_cleanUnits_41 : decode cX3_cleanUnits 41 = .ok (.iinc 2 1, 3) := by decide +kernel
theorem dX3_cleanUnits_44 : decode cX3_cleanUnits 44 = .ok (.goto (-40), 3) := by decide +kernel
theorem dX3_cleanUnits_47 : decode cX3_cleanUnits 47 = .ok (.iload_n 1, 1) := by decide +kernel
theorem dX3_cleanUnits_48 : decode cX3_cleanUnits 48 = .ok (.ireturn, 1) := by decide +kernel
theorem dX3_reasonToWait_0 : decode cX3_reasonToWait 0 = .ok (.aload_n 0, 1) := by decide +kernel
theorem dX3_reasonToWait_1 : decode cX3_reasonToWait 1 = .ok (.getfield 19, 3) := by decide +kernel
theorem dX3_reasonToWait_4 : decode cX3_reasonToWait 4 = .ok (.iload_n 1, 1) := by decide +kernel
theorem dX3_reasonToWait_5 : decode cX3_reasonToWait 5 = .ok (.aaload, 1) := by decide +kernel
theorem dX3_reasonToWait_6 : decode cX3_reasonToWait 6 = .ok (.astore_n 3, 1) := by decide +kernel
theorem dX3_reasonToWait_7 : decode cX3_reasonToWait 7 = .ok (.aload_n 3, 1) := by decide +kernel
theorem dX3_reasonToWait_8 : decode cX3_reasonToWait 8 = .ok (.invokevirtual 189, 3) := by decide +kernel
theorem dX3_reasonToWait_11 : decode cX3_reasonToWait 11 = .ok (.ifCond .ne 33, 3) := by decide +kernel
theorem dX3_reasonToWait_14 : decode cX3_reasonToWait 14 = .ok (.aload_n 0, 1) := by decide +kernel
theorem dX3_reasonToWait_15 : decode cX3_reasonToWait 15 = .ok (.aload_n 3, 1) := by decide +kernel
theorem dX3_reasonToWait_16 : decode cX3_reasonToWait 16 = .ok (.getfield 165, 3) := by decide +kernel
theorem dX3_reasonToWait_19 : decode cX3_reasonToWait 19 = .ok (.invokevirtual 86, 3) := by decide +kernel
theorem dX3_reasonToWait_22 : decode cX3_reasonToWait 22 = .ok (.ifCond .eq 22, 3) := by decide +kernel
theorem dX3_reasonToWait_25 : decode cX3_reasonToWait 25 = .ok (.aload_n 0, 1) := by decide +kernel
theorem dX3_reasonToWait_26 : decode cX3_reasonToWait 26 = .ok (.getfield 19, 3) := by decide +kernel
theorem dX3_reasonToWait_29 : decode cX3_reasonToWait 29 = .ok (.aload_n 3, 1) := by decide +kernel
theorem dX3_reasonToWait_30 : decode cX3_reasonToWait 30 = .ok (.getfield 165, 3) := by decide +kernel
theorem dX3_reasonToWait_33 : decode cX3_reasonToWait 33 = .ok (.aaload, 1) := by decide +kernel
theorem dX3_reasonToWait_34 : decode cX3_reasonToWait 34 = .ok (.getfield 127, 3) := by decide +kernel
theorem dX3_reasonToWait_37 : decode cX3_reasonToWait 37 = .ok (.bipush 6, 2) := by decide +kernel
theorem dX3_reasonToWait_39 : decode cX3_reasonToWait 39 = .ok (.if_icmp .eq 5, 3) := by decide +kernel
theorem dX3_reasonToWait_42 : decode cX3_reasonToWait 42 = .ok (.iconst 1, 1) := by decide +kernel
theorem dX3_reasonToWait_43 : decode cX3_reasonToWait 43 = .ok (.ireturn, 1) := by decide +kernel
theorem dX3_reasonToWait_44 : decode cX3_reasonToWait 44 = .ok (.aload_n 3, 1) := by decide +kernel
theorem dX3_reasonToWait_45 : decode cX3_reasonToWait 45 = .ok (.getfield 117, 3) := by decide +kernel
theorem dX3_reasonToWait_48 : decode cX3_reasonToWait 48 = .ok (.iconst (-1), 1) := by decide +kernel
theorem dX3_reasonToWait_49 : decode cX3_reasonToWait 49 = .ok (.if_icmp .ne 15, 3) := by decide +kernel
theorem dX3_reasonToWait_52 : decode cX3_reasonToWait 52 = .ok (.aload_n 0, 1) := by decide +kernel
theorem dX3_reasonToWait_53 : decode cX3_reasonToWait 53 = .ok (.aload_n 3, 1) := by decide +kernel
theorem dX3_reasonToWait_54 : decode cX3_reasonToWait 54 = .ok (.iload_n 2, 1) := by decide +kernel
theorem dX3_reasonToWait_55 : decode cX3_reasonToWait 55 = .ok (.invokevirtual 192, 3) := by decide +kernel
theorem dX3_reasonToWait_58 : decode cX3_reasonToWait 58 = .ok (.iconst (-1), 1) := by decide +kernel
theorem dX3_reasonToWait_59 : decode cX3_reasonToWait 59 = .ok (.if_icmp .ne 5, 3) := by decide +kernel
theorem dX3_reasonToWait_62 : decode cX3_reasonToWait 62 = .ok (.iconst 2, 1) := by decide +kernel
theorem dX3_reasonToWait_63 : decode cX3_reasonToWait 63 = .ok (.ireturn, 1) := by decide +kernel
theorem dX3_reasonToWait_64 : decode cX3_reasonToWait 64 = .ok (.aload_n 0, 1) := by decide +kernel
theorem dX3_reasonToWait_65 : decode cX3_reasonToWait 65 = .ok (.aload_n 3, 1) := by decide +kernel
theorem dX3_reasonToWait_66 : decode cX3_reasonToWait 66 = .ok (.iconst 2, 1) := by decide +kernel
theorem dX3_reasonToWait_67 : decode cX3_reasonToWait 67 = .ok (.invokevirtual 104, 3) := by decide +kernel
theorem dX3_reasonToWait_70 : decode cX3_reasonToWait 70 = .ok (.istore 4, 2) := by decide +kernel
theorem dX3_reasonToWait_72 : decode cX3_reasonToWait 72 = .ok (.iload 4, 2) := by decide +kernel
theorem dX3_reasonToWait_74 : decode cX3_reasonToWait 74 = .ok (.invokestatic 195, 3) := by decide +kernel
theorem dX3_reasonToWait_77 : decode cX3_reasonToWait 77 = .ok (.ifCond .eq 27, 3) := by decide +kernel
theorem dX3_reasonToWait_80 : decode cX3_reasonToWait 80 = .ok (.aload_n 0, 1) := by decide +kernel
theorem dX3_reasonToWait_81 : decode cX3_reasonToWait 81 = .ok (.getfield 23, 3) := by decide +kernel
theorem dX3_reasonToWait_84 : decode cX3_reasonToWait 84 = .ok (.iload 4, 2) := by decide +kernel
theorem dX3_reasonToWait_86 : decode cX3_reasonToWait 86 = .ok (.iaload, 1) := by decide +kernel
theorem dX3_reasonToWait_87 : decode cX3_reasonToWait 87 = .ok (.iconst (-1), 1) := by decide +kernel
theorem dX3_reasonToWait_88 : decode cX3_reasonToWait 88 = .ok (.if_icmp .eq 16, 3) := by decide +kernel
theorem dX3_reasonToWait_91 : decode cX3_reasonToWait 91 = .ok (.aload_n 0, 1) := by decide +kernel
theorem dX3_reasonToWait_92 : decode cX3_reasonToWait 92 = .ok (.getfield 23, 3) := by decide +kernel
theorem dX3_reasonToWait_95 : decode cX3_reasonToWait 95 = .ok (.iload 4, 2) := by decide +kernel
theorem dX3_reasonToWait_97 : decode cX3_reasonToWait 97 = .ok (.iaload, 1) := by decide +kernel
theorem dX3_reasonToWait_98 : decode cX3_reasonToWait 98 = .ok (.iload_n 1, 1) := by decide +kernel
theorem dX3_reasonToWait_99 : decode cX3_reasonToWait 99 = .ok (.if_icmp .eq 5, 3) := by decide +kernel
theorem dX3_reasonToWait_102 : decode cX3_reasonToWait 102 = .ok (.iconst 3, 1) := by decide +kernel
theorem dX3_reasonToWait_103 : decode cX3_reasonToWait 103 = .ok (.ireturn, 1) := by decide +kernel
theorem dX3_reasonToWait_104 : decode cX3_reasonToWait 104 = .ok (.iconst 0, 1) := by decide +kernel
theorem dX3_reasonToWait_105 : decode cX3_reasonToWait 105 = .ok (.ireturn, 1) := by decide +kernel
theorem dX3_moveOn_0 : decode cX3_moveOn 0 = .ok (.aload_n 0, 1) := by decide +kernel
theorem dX3_moveOn_1 : decode cX3_moveOn 1 = .ok (.iload_n 1, 1) := by decide +kernel
theorem dX3_moveOn_2 : decode cX3_moveOn 2 = .ok (.iconst 0, 1) := by decide +kernel
theorem dX3_moveOn_3 : decode cX3_moveOn 3 = .ok (.invokevirtual 198, 3) := by decide +kernel
theorem dX3_moveOn_6 : decode cX3_moveOn 6 = .ok (.istore_n 2, 1) := by decide +kernel
theorem dX3_moveOn_7 : decode cX3_moveOn 7 = .ok (.iload_n 2, 1) := by decide +kernel
theorem dX3_moveOn_8 : decode cX3_moveOn 8 = .ok (.iconst 1, 1) := by decide +kernel
theorem dX3_moveOn_9 : decode cX3_moveOn 9 = .ok (.if_icmp .eq 8, 3) := by decide +kernel
theorem dX3_moveOn_12 : decode cX3_moveOn 12 = .ok (.iload_n 2, 1) := by decide +kernel
theorem dX3_moveOn_13 : decode cX3_moveOn 13 = .ok (.iconst 2, 1) := by decide +kernel
theorem dX3_moveOn_14 : decode cX3_moveOn 14 = .ok (.if_icmp .ne 5, 3) := by decide +kernel
theorem dX3_moveOn_17 : decode cX3_moveOn 17 = .ok (.iconst 0, 1) := by decide +kernel
theorem dX3_moveOn_18 : decode cX3_moveOn 18 = .ok (.ireturn, 1) := by decide +kernel
theorem dX3_moveOn_19 : decode cX3_moveOn 19 = .ok (.aload_n 0, 1) := by decide +kernel
theorem dX3_moveOn_20 : decode cX3_moveOn 20 = .ok (.iload_n 1, 1) := by decide +kernel
theorem dX3_moveOn_21 : decode cX3_moveOn 21 = .ok (.invokevirtual 201, 3) := by decide +kernel
theorem dX3_moveOn_24 : decode cX3_moveOn 24 = .ok (.istore_n 3, 1) := by decide +kernel
theorem dX3_moveOn_25 : decode cX3_moveOn 25 = .ok (.iload_n 2, 1) := by decide +kernel
theorem dX3_moveOn_26 : decode cX3_moveOn 26 = .ok (.iconst 3, 1) := by decide +kernel
theorem dX3_moveOn_27 : decode cX3_moveOn 27 = .ok (.if_icmp .ne 5, 3) := by decide +kernel
theorem dX3_moveOn_30 : decode cX3_moveOn 30 = .ok (.iload_n 3, 1) := by decide +kernel
theorem dX3_moveOn_31 : decode cX3_moveOn 31 = .ok (.ireturn, 1) := by decide +kernel
theorem dX3_moveOn_32 : decode cX3_moveOn 32 = .ok (.aload_n 0, 1) := by decide +kernel
theorem dX3_moveOn_33 : decode cX3_moveOn 33 = .ok (.iload_n 1, 1) := by decide +kernel
theorem dX3_moveOn_34 : decode cX3_moveOn 34 = .ok (.invokevirtual 204, 3) := by decide +kernel
theorem dX3_moveOn_37 : decode cX3_moveOn 37 = .ok (.ifCond .eq 8, 3) := by decide +kernel
theorem dX3_moveOn_40 : decode cX3_moveOn 40 = .ok (.aload_n 0, 1) := by decide +kernel
theorem dX3_moveOn_41 : decode cX3_moveOn 41 = .ok (.iload_n 1, 1) := by decide +kernel
theorem dX3_moveOn_42 : decode cX3_moveOn 42 = .ok (.invokevirtual 207, 3) := by decide +kernel
theorem dX3_moveOn_45 : decode cX3_moveOn 45 = .ok (.iconst 1, 1) := by decide +kernel
theorem dX3_moveOn_46 : decode cX3_moveOn 46 = .ok (.ireturn, 1) := by decide +kernel
theorem dX3_takeUnit_0 : decode cX3_takeUnit 0 = .ok (.aload_n 0, 1) := by decide +kernel
theorem dX3_takeUnit_1 : decode cX3_takeUnit 1 = .ok (.getfield 19, 3) := by decide +kernel
theorem dX3_takeUnit_4 : decode cX3_takeUnit 4 = .ok (.iload_n 1, 1) := by decide +kernel
theorem dX3_takeUnit_5 : decode cX3_takeUnit 5 = .ok (.aaload, 1) := by decide +kernel
theorem dX3_takeUnit_6 : decode cX3_takeUnit 6 = .ok (.astore_n 2, 1) := by decide +kernel
theorem dX3_takeUnit_7 : decode cX3_takeUnit 7 = .ok (.aload_n 2, 1) := by decide +kernel
theorem dX3_takeUnit_8 : decode cX3_takeUnit 8 = .ok (.getfield 117, 3) := by decide +kernel
theorem dX3_takeUnit_11 : decode cX3_takeUnit 11 = .ok (.iconst (-1), 1) := by decide +kernel
theorem dX3_takeUnit_12 : decode cX3_takeUnit 12 = .ok (.if_icmp .eq 5, 3) := by decide +kernel
theorem dX3_takeUnit_15 : decode cX3_takeUnit 15 = .ok (.iconst 0, 1) := by decide +kernel
theorem dX3_takeUnit_16 : decode cX3_takeUnit 16 = .ok (.ireturn, 1) := by decide +kernel
theorem dX3_takeUnit_17 : decode cX3_takeUnit 17 = .ok (.aload_n 0, 1) := by decide +kernel
theorem dX3_takeUnit_18 : decode cX3_takeUnit 18 = .ok (.aload_n 2, 1) := by decide +kernel
theorem dX3_takeUnit_19 : decode cX3_takeUnit 19 = .ok (.iconst 0, 1) := by decide +kernel
theorem dX3_takeUnit_20 : decode cX3_takeUnit 20 = .ok (.invokevirtual 192, 3) := by decide +kernel
theorem dX3_takeUnit_23 : decode cX3_takeUnit 23 = .ok (.istore_n 3, 1) := by decide +kernel
theorem dX3_takeUnit_24 : decode cX3_takeUnit 24 = .ok (.iload_n 3, 1) := by decide +kernel
theorem dX3_takeUnit_25 : decode cX3_takeUnit 25 = .ok (.iconst (-1), 1) := by decide +kernel
theorem dX3_takeUnit_26 : decode cX3_takeUnit 26 = .ok (.if_icmp .ne 5, 3) := by decide +kernel
theorem dX3_takeUnit_29 : decode cX3_takeUnit 29 = .ok (.iconst 0, 1) := by decide +kernel
theorem dX3_takeUnit_30 : decode cX3_takeUnit 30 = .ok (.ireturn, 1) := by decide +kernel
theorem dX3_takeUnit_31 : decode cX3_takeUnit 31 = .ok (.aload_n 2, 1) := by decide +kernel
theorem dX3_takeUnit_32 : decode cX3_takeUnit 32 = .ok (.iload_n 3, 1) := by decide +kernel
theorem dX3_takeUnit_33 : decode cX3_takeUnit 33 = .ok (.putfield 117, 3) := by decide +kernel
theorem dX3_takeUnit_36 : decode cX3_takeUnit 36 = .ok (.aload_n 0, 1) := by decide +kernel
theorem dX3_takeUnit_37 : decode cX3_takeUnit 37 = .ok (.getfield 11, 3) := by decide +kernel
theorem dX3_takeUnit_40 : decode cX3_takeUnit 40 = .ok (.iload_n 3, 1) := by decide +kernel
theorem dX3_takeUnit_41 : decode cX3_takeUnit 41 = .ok (.aaload, 1) := by decide +kernel
theorem dX3_takeUnit_42 : decode cX3_takeUnit 42 = .ok (.iload_n 1, 1) := by decide +kernel
theorem dX3_takeUnit_43 : decode cX3_takeUnit 43 = .ok (.putfield 83, 3) := by decide +kernel
theorem dX3_takeUnit_46 : decode cX3_takeUnit 46 = .ok (.aload_n 0, 1) := by decide +kernel
theorem dX3_takeUnit_47 : decode cX3_takeUnit 47 = .ok (.getfield 33, 3) := by decide +kernel
theorem dX3_takeUnit_50 : decode cX3_takeUnit 50 = .ok (.aload_n 0, 1) := by decide +kernel
theorem dX3_takeUnit_51 : decode cX3_takeUnit 51 = .ok (.getfield 72, 3) := by decide +kernel
theorem dX3_takeUnit_54 : decode cX3_takeUnit 54 = .ok (.iload_n 1, 1) := by decide +kernel
theorem dX3_takeUnit_55 : decode cX3_takeUnit 55 = .ok (.iconst 0, 1) := by decide +kernel
theorem dX3_takeUnit_56 : decode cX3_takeUnit 56 = .ok (.invokevirtual 155, 3) := by decide +kernel
theorem dX3_takeUnit_59 : decode cX3_takeUnit 59 = .ok (.iconst 1, 1) := by decide +kernel
theorem dX3_takeUnit_60 : decode cX3_takeUnit 60 = .ok (.ireturn, 1) := by decide +kernel
theorem dX3_work_0 : decode cX3_work 0 = .ok (.aload_n 0, 1) := by decide +kernel
theorem dX3_work_1 : decode cX3_work 1 = .ok (.getfield 19, 3) := by decide +kernel
theorem dX3_work_4 : decode cX3_work 4 = .ok (.iload_n 1, 1) := by decide +kernel
theorem dX3_work_5 : decode cX3_work 5 = .ok (.aaload, 1) := by decide +kernel
theorem dX3_work_6 : decode cX3_work 6 = .ok (.astore_n 2, 1) := by decide +kernel
theorem dX3_work_7 : decode cX3_work 7 = .ok (.aload_n 0, 1) := by decide +kernel
theorem dX3_work_8 : decode cX3_work 8 = .ok (.aload_n 2, 1) := by decide +kernel
theorem dX3_work_9 : decode cX3_work 9 = .ok (.getfield 117, 3) := by decide +kernel
theorem dX3_work_12 : decode cX3_work 12 = .ok (.invokevirtual 120, 3) := by decide +kernel
theorem dX3_work_15 : decode cX3_work 15 = .ok (.ifCond .ne 5, 3) := by decide +kernel
theorem dX3_work_18 : decode cX3_work 18 = .ok (.iconst 0, 1) := by decide +kernel
theorem dX3_work_19 : decode cX3_work 19 = .ok (.ireturn, 1) := by decide +kernel
theorem dX3_work_20 : decode cX3_work 20 = .ok (.aload_n 0, 1) := by decide +kernel
theorem dX3_work_21 : decode cX3_work 21 = .ok (.aload_n 2, 1) := by decide +kernel
theorem dX3_work_22 : decode cX3_work 22 = .ok (.iconst 2, 1) := by decide +kernel
theorem dX3_work_23 : decode cX3_work 23 = .ok (.invokevirtual 104, 3) := by decide +kernel
theorem dX3_work_26 : decode cX3_work 26 = .ok (.istore_n 3, 1) := by decide +kernel
theorem dX3_work_27 : decode cX3_work 27 = .ok (.iload_n 3, 1) := by decide +kernel
theorem dX3_work_28 : decode cX3_work 28 = .ok (.invokestatic 195, 3) := by decide +kernel
theorem dX3_work_31 : decode cX3_work 31 = .ok (.ifCond .eq 10, 3) := by decide +kernel
theorem dX3_work_34 : decode cX3_work 34 = .ok (.aload_n 0, 1) := by decide +kernel
theorem dX3_work_35 : decode cX3_work 35 = .ok (.getfield 23, 3) := by decide +kernel
theorem dX3_work_38 : decode cX3_work 38 = .ok (.iload_n 3, 1) := by decide +kernel
theorem dX3_work_39 : decode cX3_work 39 = .ok (.iload_n 1, 1) := by decide +kernel
theorem dX3_work_40 : decode cX3_work 40 = .ok (.iastore, 1) := by decide +kernel
theorem dX3_work_41 : decode cX3_work 41 = .ok (.aload_n 2, 1) := by decide +kernel
theorem dX3_work_42 : decode cX3_work 42 = .ok (.dup, 1) := by decide +kernel
theorem dX3_work_43 : decode cX3_work 43 = .ok (.getfield 130, 3) := by decide +kernel
theorem dX3_work_46 : decode cX3_work 46 = .ok (.iconst 1, 1) := by decide +kernel
theorem dX3_work_47 : decode cX3_work 47 = .ok (.iadd, 1) := by decide +kernel
theorem dX3_work_48 : decode cX3_work 48 = .ok (.putfield 130, 3) := by decide +kernel
theorem dX3_work_51 : decode cX3_work 51 = .ok (.aload_n 0, 1) := by decide +kernel
theorem dX3_work_52 : decode cX3_work 52 = .ok (.getfield 11, 3) := by decide +kernel
theorem dX3_work_55 : decode cX3_work 55 = .ok (.aload_n 2, 1) := by decide +kernel
theorem dX3_work_56 : decode cX3_work 56 = .ok (.getfield 117, 3) := by decide +kernel
theorem dX3_work_59 : decode cX3_work 59 = .ok (.aaload, 1) := by decide +kernel
theorem dX3_work_60 : decode cX3_work 60 = .ok (.dup, 1) := by decide +kernel
theorem dX3_work_61 : decode cX3_work 61 = .ok (.getfield 101, 3) := by decide +kernel
theorem dX3_work_64 : decode cX3_work 64 = .ok (.iconst 1, 1) := by decide +kernel
theorem dX3_work_65 : decode cX3_work 65 = .ok (.iadd, 1) := by decide +kernel
theorem dX3_work_66 : decode cX3_work 66 = .ok (.putfield 101, 3) := by decide +kernel
theorem dX3_work_69 : decode cX3_work 69 = .ok (.aload_n 2, 1) := by decide +kernel
theorem dX3_work_70 : decode cX3_work 70 = .ok (.getfield 130, 3) := by decide +kernel
theorem dX3_work_73 : decode cX3_work 73 = .ok (.aload_n 0, 1) := by decide +kernel
theorem dX3_work_74 : decode cX3_work 74 = .ok (.aload_n 2, 1) := by decide +kernel
theorem dX3_work_75 : decode cX3_work 75 = .ok (.iconst 1, 1) := by decide +kernel
theorem dX3_work_76 : decode cX3_work 76 = .ok (.invokevirtual 104, 3) := by decide +kernel
theorem dX3_work_79 : decode cX3_work 79 = .ok (.if_icmp .lt 7, 3) := by decide +kernel
theorem dX3_work_82 : decode cX3_work 82 = .ok (.iconst 1, 1) := by decide +kernel
theorem dX3_work_83 : decode cX3_work 83 = .ok (.goto 4, 3) := by decide +kernel
theorem dX3_work_86 : decode cX3_work 86 = .ok (.iconst 0, 1) := by decide +kernel
theorem dX3_work_87 : decode cX3_work 87 = .ok (.ireturn, 1) := by decide +kernel
theorem dX3_endPhase_0 : decode cX3_endPhase 0 = .ok (.aload_n 0, 1) := by decide +kernel
theorem dX3_endPhase_1 : decode cX3_endPhase 1 = .ok (.getfield 19, 3) := by decide +kernel
theorem dX3_endPhase_4 : decode cX3_endPhase 4 = .ok (.iload_n 1, 1) := by decide +kernel
theorem dX3_endPhase_5 : decode cX3_endPhase 5 = .ok (.aaload, 1) := by decide +kernel
theorem dX3_endPhase_6 : decode cX3_endPhase 6 = .ok (.astore_n 2, 1) := by decide +kernel
theorem dX3_endPhase_7 : decode cX3_endPhase 7 = .ok (.aload_n 0, 1) := by decide +kernel
theorem dX3_endPhase_8 : decode cX3_endPhase 8 = .ok (.aload_n 2, 1) := by decide +kernel
theorem dX3_endPhase_9 : decode cX3_endPhase 9 = .ok (.iconst 0, 1) := by decide +kernel
theorem dX3_endPhase_10 : decode cX3_endPhase 10 = .ok (.invokevirtual 104, 3) := by decide +kernel
theorem dX3_endPhase_13 : decode cX3_endPhase 13 = .ok (.istore_n 3, 1) := by decide +kernel
theorem dX3_endPhase_14 : decode cX3_endPhase 14 = .ok (.aload_n 0, 1) := by decide +kernel
theorem dX3_endPhase_15 : decode cX3_endPhase 15 = .ok (.iload_n 1, 1) := by decide +kernel
theorem dX3_endPhase_16 : decode cX3_endPhase 16 = .ok (.invokevirtual 152, 3) := by decide +kernel
theorem dX3_endPhase_19 : decode cX3_endPhase 19 = .ok (.aload_n 2, 1) := by decide +kernel
theorem dX3_endPhase_20 : decode cX3_endPhase 20 = .ok (.aload_n 2, 1) := by decide +kernel
theorem dX3_endPhase_21 : decode cX3_endPhase 21 = .ok (.getfield 210, 3) := by decide +kernel
theorem dX3_endPhase_24 : decode cX3_endPhase 24 = .ok (.aload_n 0, 1) := by decide +kernel
theorem dX3_endPhase_25 : decode cX3_endPhase 25 = .ok (.aload_n 2, 1) := by decide +kernel
theorem dX3_endPhase_26 : decode cX3_endPhase 26 = .ok (.iconst 3, 1) := by decide +kernel
theorem dX3_endPhase_27 : decode cX3_endPhase 27 = .ok (.invokevirtual 104, 3) := by decide +kernel
theorem dX3_endPhase_30 : decode cX3_endPhase 30 = .ok (.i2f, 1) := by decide +kernel
theorem dX3_endPhase_31 : decode cX3_endPhase 31 = .ok (.fmul, 1) := by decide +kernel
theorem dX3_endPhase_32 : decode cX3_endPhase 32 = .ok (.ldc 214, 2) := by decide +kernel
theorem dX3_endPhase_34 : decode cX3_endPhase 34 = .ok (.fdiv, 1) := by decide +kernel
theorem dX3_endPhase_35 : decode cX3_endPhase 35 = .ok (.putfield 210, 3) := by decide +kernel
theorem dX3_endPhase_38 : decode cX3_endPhase 38 = .ok (.aload_n 2, 1) := by decide +kernel
theorem dX3_endPhase_39 : decode cX3_endPhase 39 = .ok (.dup, 1) := by decide +kernel
theorem dX3_endPhase_40 : decode cX3_endPhase 40 = .ok (.getfield 145, 3) := by decide +kernel
theorem dX3_endPhase_43 : decode cX3_endPhase 43 = .ok (.iconst 1, 1) := by decide +kernel
theorem dX3_endPhase_44 : decode cX3_endPhase 44 = .ok (.iadd, 1) := by decide +kernel
theorem dX3_endPhase_45 : decode cX3_endPhase 45 = .ok (.putfield 145, 3) := by decide +kernel
theorem dX3_endPhase_48 : decode cX3_endPhase 48 = .ok (.aload_n 2, 1) := by decide +kernel
theorem dX3_endPhase_49 : decode cX3_endPhase 49 = .ok (.iconst 0, 1) := by decide +kernel
theorem dX3_endPhase_50 : decode cX3_endPhase 50 = .ok (.putfield 130, 3) := by decide +kernel
theorem dX3_endPhase_53 : decode cX3_endPhase 53 = .ok (.aload_n 0, 1) := by decide +kernel
theorem dX3_endPhase_54 : decode cX3_endPhase 54 = .ok (.getfield 33, 3) := by decide +kernel
theorem dX3_endPhase_57 : decode cX3_endPhase 57 = .ok (.aload_n 0, 1) := by decide +kernel
theorem dX3_endPhase_58 : decode cX3_endPhase 58 = .ok (.getfield 72, 3) := by decide +kernel
theorem dX3_endPhase_61 : decode cX3_endPhase 61 = .ok (.iload_n 1, 1) := by decide +kernel
theorem dX3_endPhase_62 : decode cX3_endPhase 62 = .ok (.iconst 1, 1) := by decide +kernel
theorem dX3_endPhase_63 : decode cX3_endPhase 63 = .ok (.invokevirtual 155, 3) := by decide +kernel
theorem dX3_endPhase_66 : decode cX3_endPhase 66 = .ok (.aload_n 2, 1) := by decide +kernel
theorem dX3_endPhase_67 : decode cX3_endPhase 67 = .ok (.getfield 145, 3) := by decide +kernel
theorem dX3_endPhase_70 : decode cX3_endPhase 70 = .ok (.aload_n 0, 1) := by decide +kernel
theorem dX3_endPhase_71 : decode cX3_endPhase 71 = .ok (.getfield 44, 3) := by decide +kernel
theorem dX3_endPhase_74 : decode cX3_endPhase 74 = .ok (.aload_n 2, 1) := by decide +kernel
theorem dX3_endPhase_75 : decode cX3_endPhase 75 = .ok (.getfield 133, 3) := by decide +kernel
theorem dX3_endPhase_78 : decode cX3_endPhase 78 = .ok (.aload_n 2, 1) := by decide +kernel
theorem dX3_endPhase_79 : decode cX3_endPhase 79 = .ok (.getfield 136, 3) := by decide +kernel
theorem dX3_endPhase_82 : decode cX3_endPhase 82 = .ok (.invokestatic 139, 3) := by decide +kernel
theorem dX3_endPhase_85 : decode cX3_endPhase 85 = .ok (.invokevirtual 215, 3) := by decide +kernel
theorem dX3_endPhase_88 : decode cX3_endPhase 88 = .ok (.if_icmp .lt 15, 3) := by decide +kernel
theorem dX3_endPhase_91 : decode cX3_endPhase 91 = .ok (.aload_n 0, 1) := by decide +kernel
theorem dX3_endPhase_92 : decode cX3_endPhase 92 = .ok (.iload_n 1, 1) := by decide +kernel
theorem dX3_endPhase_93 : decode cX3_endPhase 93 = .ok (.bipush 6, 2) := by decide +kernel
theorem dX3_endPhase_95 : decode cX3_endPhase 95 = .ok (.bipush 6, 2) := by decide +kernel
theorem dX3_endPhase_97 : decode cX3_endPhase 97 = .ok (.invokevirtual 162, 3) := by decide +kernel
theorem dX3_endPhase_100 : decode cX3_endPhase 100 = .ok (.goto 36, 3) := by decide +kernel
theorem dX3_endPhase_103 : decode cX3_endPhase 103 = .ok (.aload_n 2, 1) := by decide +kernel
theorem dX3_endPhase_104 : decode cX3_endPhase 104 = .ok (.getfield 127, 3) := by decide +kernel
theorem dX3_endPhase_107 : decode cX3_endPhase 107 = .ok (.iconst 3, 1) := by decide +kernel
theorem dX3_endPhase_108 : decode cX3_endPhase 108 = .ok (.if_icmp .ne 13, 3) := by decide +kernel
theorem dX3_endPhase_111 : decode cX3_endPhase 111 = .ok (.aload_n 0, 1) := by decide +kernel
theorem dX3_endPhase_112 : decode cX3_endPhase 112 = .ok (.iload_n 1, 1) := by decide +kernel
theorem dX3_endPhase_113 : decode cX3_endPhase 113 = .ok (.iconst 4, 1) := by decide +kernel
theorem dX3_endPhase_114 : decode cX3_endPhase 114 = .ok (.iconst 4, 1) := by decide +kernel
theorem dX3_endPhase_115 : decode cX3_endPhase 115 = .ok (.invokevirtual 162, 3) := by decide +kernel
theorem dX3_endPhase_118 : decode cX3_endPhase 118 = .ok (.goto 18, 3) := by decide +kernel
theorem dX3_endPhase_121 : decode cX3_endPhase 121 = .ok (.aload_n 0, 1) := by decide +kernel
theorem dX3_endPhase_122 : decode cX3_endPhase 122 = .ok (.aload_n 2, 1) := by decide +kernel
theorem dX3_endPhase_123 : decode cX3_endPhase 123 = .ok (.iconst 0, 1) := by decide +kernel
theorem dX3_endPhase_124 : decode cX3_endPhase 124 = .ok (.invokevirtual 104, 3) := by decide +kernel
theorem dX3_endPhase_127 : decode cX3_endPhase 127 = .ok (.iload_n 3, 1) := by decide +kernel
theorem dX3_endPhase_128 : decode cX3_endPhase 128 = .ok (.if_icmp .eq 8, 3) := by decide +kernel
theorem dX3_endPhase_131 : decode cX3_endPhase 131 = .ok (.aload_n 0, 1) := by decide +kernel
theorem dX3_endPhase_132 : decode cX3_endPhase 132 = .ok (.aload_n 2, 1) := by decide +kernel
theorem dX3_endPhase_133 : decode cX3_endPhase 133 = .ok (.invokevirtual 171, 3) := by decide +kernel
theorem dX3_endPhase_136 : decode cX3_endPhase 136 = .ok (.return_, 1) := by decide +kernel
theorem dX4_init_0 : decode cX4_init 0 = .ok (.aload_n 0, 1) := by decide +kernel
theorem dX4_init_1 : decode cX4_init 1 = .ok (.invokespecial 3, 3) := by decide +kernel
theorem dX4_init_4 : decode cX4_init 4 = .ok (.aload_n 0, 1) := by decide +kernel
theorem dX4_init_5 : decode cX4_init 5 = .ok (.bipush 100, 2) := by decide +kernel
theorem dX4_init_7 : decode cX4_init 7 = .ok (.newarray .char, 2) := by decide +kernel
theorem dX4_init_9 : decode cX4_init 9 = .ok (.putfield 9, 3) := by decide +kernel
theorem dX4_init_12 : decode cX4_init 12 = .ok (.aload_n 0, 1) := by decide +kernel
theorem dX4_init_13 : decode cX4_init 13 = .ok (.iconst 5, 1) := by decide +kernel
theorem dX4_init_14 : decode cX4_init 14 = .ok (.bipush 8, 2) := by decide +kernel
theorem dX4_init_16 : decode cX4_init 16 = .ok (.multianewarray 15 2, 4) := by decide +kernel
theorem dX4_init_20 : decode cX4_init 20 = .ok (.putfield 17, 3) := by decide +kernel
theorem dX4_init_23 : decode cX4_init 23 = .ok (.return_, 1) := by decide +kernel
theorem dX4_append_0 : decode cX4_append 0 = .ok (.aload_n 0, 1) := by decide +kernel
theorem dX4_append_1 : decode cX4_append 1 = .ok (.getfield 20, 3) := by decide +kernel
theorem dX4_append_4 : decode cX4_append 4 = .ok (.bipush 100, 2) := by decide +kernel
theorem dX4_append_6 : decode cX4_append 6 = .ok (.if_icmp .ge 23, 3) := by decide +kernel
theorem dX4_append_9 : decode cX4_append 9 = .ok (.aload_n 0, 1) := by decide +kernel
theorem dX4_append_10 : decode cX4_append 10 = .ok (.getfield 9, 3) := by decide +kernel
theorem dX4_append_13 : decode cX4_append 13 = .ok (.aload_n 0, 1) := by decide +kernel
theorem dX4_append_14 : decode cX4_append 14 = .ok (.getfield 20, 3) := by decide +kernel
theorem dX4_append_17 : decode cX4_append 17 = .ok (.iload_n 1, 1) := by decide +kernel
theorem dX4_append_18 : decode cX4_append 18 = .ok (.castore, 1) := by decide +kernel
theorem dX4_append_19 : decode cX4_append 19 = .ok (.aload_n 0, 1) := by decide +kernel
theorem dX4_append_20 : decode cX4_append 20 = .ok (.dup, 1) := by decide +kernel
theorem dX4_append_21 : decode cX4_append 21 = .ok (.getfield 20, 3) := by decide +kernel
theorem dX4_append_24 : decode cX4_append 24 = .ok (.iconst 1, 1) := by decide +kernel
theorem dX4_append_25 : decode cX4_append 25 = .ok (.iadd, 1) := by decide +kernel
theorem dX4_append_26 : decode cX4_append 26 = .ok (.putfield 20, 3) := by decide +kernel
theorem dX4_append_29 : decode cX4_append 29 = .ok (.return_, 1) := by decide +kernel
theorem dX4_read_0 : decode cX4_read 0 = .ok (.aload_n 0, 1) := by decide +kernel
theorem dX4_read_1 : decode cX4_read 1 = .ok (.iconst 0, 1) := by decide +kernel
theorem dX4_read_2 : decode cX4_read 2 = .ok (.putfield 24, 3) := by decide +kernel
theorem dX4_read_5 : decode cX4_read 5 = .ok (.aload_n 0, 1) := by decide +kernel
theorem dX4_read_6 : decode cX4_read 6 = .ok (.iconst 0, 1) := by decide +kernel
theorem dX4_read_7 : decode cX4_read 7 = .ok (.putfield 27, 3) := by decide +kernel
theorem dX4_read_10 : decode cX4_read 10 = .ok (.aload_n 0, 1) := by decide +kernel
theorem dX4_read_11 : decode cX4_read 11 = .ok (.iconst 0, 1) := by decide +kernel
theorem dX4_read_12 : decode cX4_read 12 = .ok (.putfield 30, 3) := by decide +kernel
theorem dX4_read_15 : decode cX4_read 15 = .ok (.aload_n 0, 1) := by decide +kernel
theorem dX4_read_16 : decode cX4_read 16 = .ok (.iconst 0, 1) := by decide +kernel
theorem dX4_read_17 : decode cX4_read 17 = .ok (.putfield 33, 3) := by decide +kernel
theorem dX4_read_20 : decode cX4_read 20 = .ok (.aload_n 0, 1) := by decide +kernel
theorem dX4_read_21 : decode cX4_read 21 = .ok (.invokevirtual 36, 3) := by decide +kernel
theorem dX4_read_24 : decode cX4_read 24 = .ok (.iconst 0, 1) := by decide +kernel
theorem dX4_read_25 : decode cX4_read 25 = .ok (.istore_n 1, 1) := by decide +kernel
theorem dX4_read_26 : decode cX4_read 26 = .ok (.iload_n 1, 1) := by decide +kernel
theorem dX4_read_27 : decode cX4_read 27 = .ok (.bipush 100, 2) := by decide +kernel
theorem dX4_read_29 : decode cX4_read 29 = .ok (.if_icmp .ge 31, 3) := by decide +kernel
theorem dX4_read_32 : decode cX4_read 32 = .ok (.aload_n 0, 1) := by decide +kernel
theorem dX4_read_33 : decode cX4_read 33 = .ok (.getfield 30, 3) := by decide +kernel
theorem dX4_read_36 : decode cX4_read 36 = .ok (.ifCond .ne 24, 3) := by decide +kernel
theorem dX4_read_39 : decode cX4_read 39 = .ok (.aload_n 0, 1) := by decide +kernel
theorem dX4_read_40 : decode cX4_read 40 = .ok (.getfield 24, 3) := by decide +kernel
theorem dX4_read_43 : decode cX4_read 43 = .ok (.aload_n 0, 1) := by decide +kernel
theorem dX4_read_44 : decode cX4_read 44 = .ok (.getfield 20, 3) := by decide +kernel
theorem dX4_read_47 : decode cX4_read 47 = .ok (.if_icmp .ge 13, 3) := by decide +kernel
theorem dX4_read_50 : decode cX4_read 50 = .ok (.aload_n 0, 1) := by decide +kernel
theorem dX4_read_51 : decode cX4_read 51 = .ok (.invokevirtual 36, 3) := by decide +kernel
theorem dX4_read_54 : decode cX4_read 54 = .ok (.iinc 1 1, 3) := by decide +kernel
theorem dX4_read_57 : decode cX4_read 57 = .ok (.goto (-31), 3) := by decide +kernel
theorem dX4_read_60 : decode cX4_read 60 = .ok (.return_, 1) := by decide +kernel
theorem dX4_readPhase_0 : decode cX4_readPhase 0 = .ok (.aload_n 0, 1) := by decide +kernel
theorem dX4_readPhase_1 : decode cX4_readPhase 1 = .ok (.invokevirtual 39, 3) := by decide +kernel
theorem dX4_readPhase_4 : decode cX4_readPhase 4 = .ok (.invokestatic 43, 3) := by decide +kernel
theorem dX4_readPhase_7 : decode cX4_readPhase 7 = .ok (.istore_n 1, 1) := by decide +kernel
theorem dX4_readPhase_8 : decode cX4_readPhase 8 = .ok (.iload_n 1, 1) := by decide +kernel
theorem dX4_readPhase_9 : decode cX4_readPhase 9 = .ok (.iconst (-1), 1) := by decide +kernel
theorem dX4_readPhase_10 : decode cX4_readPhase 10 = .ok (.if_icmp .ne 10, 3) := by decide +kernel
theorem dX4_readPhase_13 : decode cX4_readPhase 13 = .ok (.aload_n 0, 1) := by decide +kernel
theorem dX4_readPhase_14 : decode cX4_readPhase 14 = .ok (.invokevirtual 47, 3) := by decide +kernel
theorem dX4_readPhase_17 : decode cX4_readPhase 17 = .ok (.goto 54, 3) := by decide +kernel
theorem dX4_readPhase_20 : decode cX4_readPhase 20 = .ok (.aload_n 0, 1) := by decide +kernel
theorem dX4_readPhase_21 : decode cX4_readPhase 21 = .ok (.getfield 33, 3) := by decide +kernel
theorem dX4_readPhase_24 : decode cX4_readPhase 24 = .ok (.bipush 8, 2) := by decide +kernel
theorem dX4_readPhase_26 : decode cX4_readPhase 26 = .ok (.if_icmp .lt 15, 3) := by decide +kernel
theorem dX4_readPhase_29 : decode cX4_readPhase 29 = .ok (.aload_n 0, 1) := by decide +kernel
theorem dX4_readPhase_30 : decode cX4_readPhase 30 = .ok (.aload_n 0, 1) := by decide +kernel
theorem dX4_readPhase_31 : decode cX4_readPhase 31 = .ok (.getfield 24, 3) := by decide +kernel
theorem dX4_readPhase_34 : decode cX4_readPhase 34 = .ok (.iconst 4, 1) := by decide +kernel
theorem dX4_readPhase_35 : decode cX4_readPhase 35 = .ok (.invokevirtual 50, 3) := by decide +kernel
theorem dX4_readPhase_38 : decode cX4_readPhase 38 = .ok (.goto 33, 3) := by decide +kernel
theorem dX4_readPhase_41 : decode cX4_readPhase 41 = .ok (.aload_n 0, 1) := by decide +kernel
theorem dX4_readPhase_42 : decode cX4_readPhase 42 = .ok (.dup, 1) := by decide +kernel
theorem dX4_readPhase_43 : decode cX4_readPhase 43 = .ok (.getfield 24, 3) := by decide +kernel
theorem dX4_readPhase_46 : decode cX4_readPhase 46 = .ok (.iconst 1, 1) := by decide +kernel
theorem dX4_readPhase_47 : decode cX4_readPhase 47 = .ok (.iadd, 1) := by decide +kernel
theorem dX4_readPhase_48 : decode cX4_readPhase 48 = .ok (.putfield 24, 3) := by decide +kernel
theorem dX4_readPhase_51 : decode cX4_readPhase 51 = .ok (.aload_n 0, 1) := by decide +kernel
theorem dX4_readPhase_52 : decode cX4_readPhase 52 = .ok (.getfield 17, 3) := by decide +kernel
theorem dX4_readPhase_55 : decode cX4_readPhase 55 = .ok (.iconst 0, 1) := by decide +kernel
theorem dX4_readPhase_56 : decode cX4_readPhase 56 = .ok (.aaload, 1) := by decide +kernel
theorem dX4_readPhase_57 : decode cX4_readPhase 57 = .ok (.aload_n 0, 1) := by decide +kernel
theorem dX4_readPhase_58 : decode cX4_readPhase 58 = .ok (.getfield 33, 3) := by decide +kernel
theorem dX4_readPhase_61 : decode cX4_readPhase 61 = .ok (.iload_n 1, 1) := by decide +kernel
theorem dX4_readPhase_62 : decode cX4_readPhase 62 = .ok (.iastore, 1) := by decide +kernel
theorem dX4_readPhase_63 : decode cX4_readPhase 63 = .ok (.aload_n 0, 1) := by decide +kernel
theorem dX4_readPhase_64 : decode cX4_readPhase 64 = .ok (.aload_n 0, 1) := by decide +kernel
theorem dX4_readPhase_65 : decode cX4_readPhase 65 = .ok (.getfield 33, 3) := by decide +kernel
theorem dX4_readPhase_68 : decode cX4_readPhase 68 = .ok (.invokevirtual 54, 3) := by decide +kernel
theorem dX4_readPhase_71 : decode cX4_readPhase 71 = .ok (.return_, 1) := by decide +kernel
theorem dX4_readRest_0 : decode cX4_readRest 0 = .ok (.aload_n 0, 1) := by decide +kernel
theorem dX4_readRest_1 : decode cX4_readRest 1 = .ok (.getfield 17, 3) := by decide +kernel
theorem dX4_readRest_4 : decode cX4_readRest 4 = .ok (.iconst 1, 1) := by decide +kernel
theorem dX4_readRest_5 : decode cX4_readRest 5 = .ok (.aaload, 1) := by decide +kernel
theorem dX4_readRest_6 : decode cX4_readRest 6 = .ok (.iload_n 1, 1) := by decide +kernel
theorem dX4_readRest_7 : decode cX4_readRest 7 = .ok (.aload_n 0, 1) := by decide +kernel
theorem dX4_readRest_8 : decode cX4_readRest 8 = .ok (.iconst 2, 1) := by decide +kernel
theorem dX4_readRest_9 : decode cX4_readRest 9 = .ok (.bipush 99, 2) := by decide +kernel
theorem dX4_readRest_11 : decode cX4_readRest 11 = .ok (.invokevirtual 58, 3) := by decide +kernel
theorem dX4_readRest_14 : decode cX4_readRest 14 = .ok (.iastore, 1) := by decide +kernel
theorem dX4_readRest_15 : decode cX4_readRest 15 = .ok (.aload_n 0, 1) := by decide +kernel
theorem dX4_readRest_16 : decode cX4_readRest 16 = .ok (.getfield 17, 3) := by decide +kernel
theorem dX4_readRest_19 : decode cX4_readRest 19 = .ok (.iconst 2, 1) := by decide +kernel
theorem dX4_readRest_20 : decode cX4_readRest 20 = .ok (.aaload, 1) := by decide +kernel
theorem dX4_readRest_21 : decode cX4_readRest 21 = .ok (.iload_n 1, 1) := by decide +kernel
theorem dX4_readRest_22 : decode cX4_readRest 22 = .ok (.aload_n 0, 1) := by decide +kernel
theorem dX4_readRest_23 : decode cX4_readRest 23 = .ok (.bipush 115, 2) := by decide +kernel
theorem dX4_readRest_25 : decode cX4_readRest 25 = .ok (.invokevirtual 62, 3) := by decide +kernel
theorem dX4_readRest_28 : decode cX4_readRest 28 = .ok (.ifCond .eq 10, 3) := by decide +kernel
theorem dX4_readRest_31 : decode cX4_readRest 31 = .ok (.aload_n 0, 1) := by decide +kernel
theorem dX4_readRest_32 : decode cX4_readRest 32 = .ok (.invokevirtual 66, 3) := by decide +kernel
theorem dX4_readRest_35 : decode cX4_readRest 35 = .ok (.goto 4, 3) := by decide +kernel
theorem dX4_readRest_38 : decode cX4_readRest 38 = .ok (.iconst (-1), 1) := by decide +kernel
theorem dX4_readRest_39 : decode cX4_readRest 39 = .ok (.iastore, 1) := by decide +kernel
theorem dX4_readRest_40 : decode cX4_readRest 40 = .ok (.aload_n 0, 1) := by decide +kernel
theorem dX4_readRest_41 : decode cX4_readRest 41 = .ok (.getfield 17, 3) := by decide +kernel
theorem dX4_readRest_44 : decode cX4_readRest 44 = .ok (.iconst 3, 1) := by decide +kernel
theorem dX4_readRest_45 : decode cX4_readRest 45 = .ok (.aaload, 1) := by decide +kernel
theorem dX4_readRest_46 : decode cX4_readRest 46 = .ok (.iload_n 1, 1) := by decide +kernel
theorem dX4_readRest_47 : decode cX4_readRest 47 = .ok (.aload_n 0, 1) := by decide +kernel
theorem dX4_readRest_48 : decode cX4_readRest 48 = .ok (.bipush 121, 2) := by decide +kernel
theorem dX4_readRest_50 : decode cX4_readRest 50 = .ok (.invokevirtual 62, 3) := by decide +kernel
theorem dX4_readRest_53 : decode cX4_readRest 53 = .ok (.ifCond .eq 13, 3) := by decide +kernel
theorem dX4_readRest_56 : decode cX4_readRest 56 = .ok (.aload_n 0, 1) := by decide +kernel
theorem dX4_readRest_57 : decode cX4_readRest 57 = .ok (.iconst 3, 1) := by decide +kernel
theorem dX4_readRest_58 : decode cX4_readRest 58 = .ok (.bipush 100, 2) := by decide +kernel
theorem dX4_readRest_60 : decode cX4_readRest 60 = .ok (.invokevirtual 58, 3) := by decide +kernel
theorem dX4_readRest_63 : decode cX4_readRest 63 = .ok (.goto 5, 3) := by decide +kernel
theorem dX4_readRest_66 : decode cX4_readRest 66 = .ok (.bipush 100, 2) := by decide +kernel
theorem dX4_readRest_68 : decode cX4_readRest 68 = .ok (.iastore, 1) := by decide +kernel
theorem dX4_readRest_69 : decode cX4_readRest 69 = .ok (.aload_n 0, 1) := by decide +kernel
theorem dX4_readRest_70 : decode cX4_readRest 70 = .ok (.getfield 17, 3) := by decide +kernel
theorem dX4_readRest_73 : decode cX4_readRest 73 = .ok (.iconst 4, 1) := by decide +kernel
theorem dX4_readRest_74 : decode cX4_readRest 74 = .ok (.aaload, 1) := by decide +kernel
theorem dX4_readRest_75 : decode cX4_readRest 75 = .ok (.iload_n 1, 1) := by decide +kernel
theorem dX4_readRest_76 : decode cX4_readRest 76 = .ok (.aload_n 0, 1) := by decide +kernel
theorem dX4_readRest_77 : decode cX4_readRest 77 = .ok (.bipush 97, 2) := by decide +kernel
theorem dX4_readRest_79 : decode cX4_readRest 79 = .ok (.invokevirtual 62, 3) := by decide +kernel
theorem dX4_readRest_82 : decode cX4_readRest 82 = .ok (.invokestatic 69, 3) := by decide +kernel
theorem dX4_readRest_85 : decode cX4_readRest 85 = .ok (.iastore, 1) := by decide +kernel
theorem dX4_readRest_86 : decode cX4_readRest 86 = .ok (.aload_n 0, 1) := by decide +kernel
theorem dX4_readRest_87 : decode cX4_readRest 87 = .ok (.bipush 59, 2) := by decide +kernel
theorem dX4_readRest_89 : decode cX4_readRest 89 = .ok (.invokevirtual 62, 3) := by decide +kernel
theorem dX4_readRest_92 : decode cX4_readRest 92 = .ok (.ifCond .eq 16, 3) := by decide +kernel
theorem dX4_readRest_95 : decode cX4_readRest 95 = .ok (.aload_n 0, 1) := by decide +kernel
theorem dX4_readRest_96 : decode cX4_readRest 96 = .ok (.dup, 1) := by decide +kernel
theorem dX4_readRest_97 : decode cX4_readRest 97 = .ok (.getfield 33, 3) := by decide +kernel
theorem dX4_readRest_100 : decode cX4_readRest 100 = .ok (.iconst 1, 1) := by decide +kernel
theorem dX4_readRest_101 : decode cX4_readRest 101 = .ok (.iadd, 1) := by decide +kernel
theorem dX4_readRest_102 : decode cX4_readRest 102 = .ok (.putfield 33, 3) := by decide +kernel
theorem dX4_readRest_105 : decode cX4_readRest 105 = .ok (.goto 14, 3) := by decide +kernel
theorem dX4_readRest_108 : decode cX4_readRest 108 = .ok (.aload_n 0, 1) := by decide +kernel
theorem dX4_readRest_109 : decode cX4_readRest 109 = .ok (.getfield 30, 3) := by decide +kernel
theorem dX4_readRest_112 : decode cX4_readRest 112 = .ok (.ifCond .ne 7, 3) := by decide +kernel
theorem dX4_readRest_115 : decode cX4_readRest 115 = .ok (.aload_n 0, 1) := by decide +kernel
theorem dX4_readRest_116 : decode cX4_readRest 116 = .ok (.invokevirtual 47, 3) := by decide +kernel
theorem dX4_readRest_119 : decode cX4_readRest 119 = .ok (.return_, 1) := by decide +kernel
theorem dX4_readNumber_0 : decode cX4_readNumber 0 = .ok (.aload_n 0, 1) := by decide +kernel
theorem dX4_readNumber_1 : decode cX4_readNumber 1 = .ok (.getfield 24, 3) := by decide +kernel
theorem dX4_readNumber_4 : decode cX4_readNumber 4 = .ok (.istore_n 3, 1) := by decide +kernel
theorem dX4_readNumber_5 : decode cX4_readNumber 5 = .ok (.iconst 0, 1) := by decide +kernel
theorem dX4_readNumber_6 : decode cX4_readNumber 6 = .ok (.istore 4, 2) := by decide +kernel
theorem dX4_readNumber_8 : decode cX4_readNumber 8 = .ok (.iconst 0, 1) := by decide +kernel
theorem dX4_readNumber_9 : decode cX4_readNumber 9 = .ok (.istore 5, 2) := by decide +kernel
theorem dX4_readNumber_11 : decode cX4_readNumber 11 = .ok (.iload 5, 2) := by decide +kernel
theorem dX4_readNumber_13 : decode cX4_readNumber 13 = .ok (.iload_n 1, 1) := by decide +kernel
theorem dX4_readNumber_14 : decode cX4_readNumber 14 = .ok (.if_icmp .ge 44, 3) := by decide +kernel
theorem dX4_readNumber_17 : decode cX4_readNumber 17 = .ok (.aload_n 0, 1) := by decide +kernel
theorem dX4_readNumber_18 : decode cX4_readNumber 18 = .ok (.invokevirtual 39, 3) := by decide +kernel
theorem dX4_readNumber_21 : decode cX4_readNumber 21 = .ok (.invokestatic 73, 3) := by decide +kernel
theorem dX4_readNumber_24 : decode cX4_readNumber 24 = .ok (.ifCond .eq 34, 3) := by decide +kernel
theorem dX4_readNumber_27 : decode cX4_readNumber 27 = .ok (.iload 4, 2) := by decide +kernel
theorem dX4_readNumber_29 : decode cX4_readNumber 29 = .ok (.bipush 10, 2) := by decide +kernel
theorem dX4_readNumber_31 : decode cX4_readNumber 31 = .ok (.imul, 1) := by decide +kernel
theorem dX4_readNumber_32 : decode cX4_readNumber 32 = .ok (.aload_n 0, 1) := by decide +kernel
theorem dX4_readNumber_33 : decode cX4_readNumber 33 = .ok (.invokevirtual 39, 3) := by decide +kernel
theorem dX4_readNumber_36 : decode cX4_readNumber 36 = .ok (.bipush 48, 2) := by decide +kernel
theorem dX4_readNumber_38 : decode cX4_readNumber 38 = .ok (.isub, 1) := by decide +kernel
theorem dX4_readNumber_39 : decode cX4_readNumber 39 = .ok (.iadd, 1) := by decide +kernel
theorem dX4_readNumber_40 : decode cX4_readNumber 40 = .ok (.istore 4, 2) := by decide +kernel
theorem dX4_readNumber_42 : decode cX4_readNumber 42 = .ok (.aload_n 0, 1) := by decide +kernel
theorem dX4_readNumber_43 : decode cX4_readNumber 43 = .ok (.dup, 1) := by decide +kernel
theorem dX4_readNumber_44 : decode cX4_readNumber 44 = .ok (.getfield 24, 3) := by decide +kernel
theorem dX4_readNumber_47 : decode cX4_readNumber 47 = .ok (.iconst 1, 1) := by decide +kernel
theorem dX4_readNumber_48 : decode cX4_readNumber 48 = .ok (.iadd, 1) := by decide +kernel
theorem dX4_readNumber_49 : decode cX4_readNumber 49 = .ok (.putfield 24, 3) := by decide +kernel
theorem dX4_readNumber_52 : decode cX4_readNumber 52 = .ok (.iinc 5 1, 3) := by decide +kernel
theorem dX4_readNumber_55 : decode cX4_readNumber 55 = .ok (.goto (-44), 3) := by decide +kernel
theorem dX4_readNumber_58 : decode cX4_readNumber 58 = .ok (.aload_n 0, 1) := by decide +kernel
theorem dX4_readNumber_59 : decode cX4_readNumber 59 = .ok (.getfield 24, 3) := by decide +kernel
theorem dX4_readNumber_62 : decode cX4_readNumber 62 = .ok (.iload_n 3, 1) := by decide +kernel
theorem dX4_readNumber_63 : decode cX4_readNumber 63 = .ok (.if_icmp .ne 10, 3) := by decide +kernel
theorem dX4_readNumber_66 : decode cX4_readNumber 66 = .ok (.aload_n 0, 1) := by decide +kernel
theorem dX4_readNumber_67 : decode cX4_readNumber 67 = .ok (.invokevirtual 47, 3) := by decide +kernel
theorem dX4_readNumber_70 : decode cX4_readNumber 70 = .ok (.goto 21, 3) := by decide +kernel
theorem dX4_readNumber_73 : decode cX4_readNumber 73 = .ok (.iload 4, 2) := by decide +kernel
theorem dX4_readNumber_75 : decode cX4_readNumber 75 = .ok (.iconst 1, 1) := by decide +kernel
theorem dX4_readNumber_76 : decode cX4_readNumber 76 = .ok (.if_icmp .lt 9, 3) := by decide +kernel
theorem dX4_readNumber_79 : decode cX4_readNumber 79 = .ok (.iload 4, 2) := by decide +kernel
theorem dX4_readNumber_81 : decode cX4_readNumber 81 = .ok (.iload_n 2, 1) := by decide +kernel
theorem dX4_readNumber_82 : decode cX4_readNumber 82 = .ok (.if_icmp .le 9, 3) := by decide +kernel
theorem dX4_readNumber_85 : decode cX4_readNumber 85 = .ok (.aload_n 0, 1) := by decide +kernel
theorem dX4_readNumber_86 : decode cX4_readNumber 86 = .ok (.iload_n 3, 1) := by decide +kernel
theorem dX4_readNumber_87 : decode cX4_readNumber 87 = .ok (.iconst 2, 1) := by decide +kernel
theorem dX4_readNumber_88 : decode cX4_readNumber 88 = .ok (.invokevirtual 50, 3) := by decide +kernel
theorem dX4_readNumber_91 : decode cX4_readNumber 91 = .ok (.iload 4, 2) := by decide +kernel
theorem dX4_readNumber_93 : decode cX4_readNumber 93 = .ok (.ireturn, 1) := by decide +kernel
theorem dX4_readPiece_0 : decode cX4_readPiece 0 = .ok (.aload_n 0, 1) := by decide +kernel
theorem dX4_readPiece_1 : decode cX4_readPiece 1 = .ok (.invokevirtual 39, 3) := by decide +kernel
theorem dX4_readPiece_4 : decode cX4_readPiece 4 = .ok (.bipush 48, 2) := by decide +kernel
theorem dX4_readPiece_6 : decode cX4_readPiece 6 = .ok (.isub, 1) := by decide +kernel
theorem dX4_readPiece_7 : decode cX4_readPiece 7 = .ok (.istore_n 1, 1) := by decide +kernel
theorem dX4_readPiece_8 : decode cX4_readPiece 8 = .ok (.iload_n 1, 1) := by decide +kernel
theorem dX4_readPiece_9 : decode cX4_readPiece 9 = .ok (.ifCond .lt 8, 3) := by decide +kernel
theorem dX4_readPiece_12 : decode cX4_readPiece 12 = .ok (.iload_n 1, 1) := by decide +kernel
theorem dX4_readPiece_13 : decode cX4_readPiece 13 = .ok (.iconst 3, 1) := by decide +kernel
theorem dX4_readPiece_14 : decode cX4_readPiece 14 = .ok (.if_icmp .lt 9, 3) := by decide +kernel
theorem dX4_readPiece_17 : decode cX4_readPiece 17 = .ok (.aload_n 0, 1) := by decide +kernel
theorem dX4_readPiece_18 : decode cX4_readPiece 18 = .ok (.invokevirtual 47, 3) := by decide +kernel
theorem dX4_readPiece_21 : decode cX4_readPiece 21 = .ok (.iconst (-1), 1) := by decide +kernel
theorem dX4_readPiece_22 : decode cX4_readPiece 22 = .ok (.ireturn, 1) := by decide +kernel
theorem dX4_readPiece_23 : decode cX4_readPiece 23 = .ok (.aload_n 0, 1) := by decide +kernel
theorem dX4_readPiece_24 : decode cX4_readPiece 24 = .ok (.dup, 1) := by decide +kernel
theorem dX4_readPiece_25 : decode cX4_readPiece 25 = .ok (.getfield 24, 3) := by decide +kernel
theorem dX4_readPiece_28 : decode cX4_readPiece 28 = .ok (.iconst 1, 1) := by decide +kernel
theorem dX4_readPiece_29 : decode cX4_readPiece 29 = .ok (.iadd, 1) := by decide +kernel
theorem dX4_readPiece_30 : decode cX4_readPiece 30 = .ok (.putfield 24, 3) := by decide +kernel
theorem dX4_readPiece_33 : decode cX4_readPiece 33 = .ok (.iload_n 1, 1) := by decide +kernel
theorem dX4_readPiece_34 : decode cX4_readPiece 34 = .ok (.ireturn, 1) := by decide +kernel
theorem dX4_passes_0 : decode cX4_passes 0 = .ok (.aload_n 0, 1) := by decide +kernel
theorem dX4_passes_1 : decode cX4_passes 1 = .ok (.getfield 30, 3) := by decide +kernel
theorem dX4_passes_4 : decode cX4_passes 4 = .ok (.ifCond .ne 11, 3) := by decide +kernel
theorem dX4_passes_7 : decode cX4_passes 7 = .ok (.aload_n 0, 1) := by decide +kernel
theorem dX4_passes_8 : decode cX4_passes 8 = .ok (.invokevirtual 39, 3) := by decide +kernel
theorem dX4_passes_11 : decode cX4_passes 11 = .ok (.iload_n 1, 1) := by decide +kernel
theorem dX4_passes_12 : decode cX4_passes 12 = .ok (.if_icmp .eq 5, 3) := by decide +kernel
theorem dX4_passes_15 : decode cX4_passes 15 = .ok (.iconst 0, 1) := by decide +kernel
theorem dX4_passes_16 : decode cX4_passes 16 = .ok (.ireturn, 1) := by decide +kernel
theorem dX4_passes_17 : decode cX4_passes 17 = .ok (.aload_n 0, 1) := by decide +kernel
theorem dX4_passes_18 : decode cX4_passes 18 = .ok (.dup, 1) := by decide +kernel
theorem dX4_passes_19 : decode cX4_passes 19 = .ok (.getfield 24, 3) := by decide +kernel
theorem dX4_passes_22 : decode cX4_passes 22 = .ok (.iconst 1, 1) := by decide +kernel
theorem dX4_passes_23 : decode cX4_passes 23 = .ok (.iadd, 1) := by decide +kernel
theorem dX4_passes_24 : decode cX4_passes 24 = .ok (.putfield 24, 3) := by decide +kernel
theorem dX4_passes_27 : decode cX4_passes 27 = .ok (.iconst 1, 1) := by decide +kernel
theorem dX4_passes_28 : decode cX4_passes 28 = .ok (.ireturn, 1) := by decide +kernel
theorem dX4_current_0 : decode cX4_current 0 = .ok (.aload_n 0, 1) := by decide +kernel
theorem dX4_current_1 : decode cX4_current 1 = .ok (.getfield 24, 3) := by decide +kernel
theorem dX4_current_4 : decode cX4_current 4 = .ok (.ifCond .lt 35, 3) := by decide +kernel
theorem dX4_current_7 : decode cX4_current 7 = .ok (.aload_n 0, 1) := by decide +kernel
theorem dX4_current_8 : decode cX4_current 8 = .ok (.getfield 24, 3) := by decide +kernel
theorem dX4_current_11 : decode cX4_current 11 = .ok (.aload_n 0, 1) := by decide +kernel
theorem dX4_current_12 : decode cX4_current 12 = .ok (.getfield 20, 3) := by decide +kernel
theorem dX4_current_15 : decode cX4_current 15 = .ok (.if_icmp .ge 24, 3) := by decide +kernel
theorem dX4_current_18 : decode cX4_current 18 = .ok (.aload_n 0, 1) := by decide +kernel
theorem dX4_current_19 : decode cX4_current 19 = .ok (.getfield 24, 3) := by decide +kernel
theorem dX4_current_22 : decode cX4_current 22 = .ok (.bipush 100, 2) := by decide +kernel
theorem dX4_current_24 : decode cX4_current 24 = .ok (.if_icmp .ge 15, 3) := by decide +kernel
theorem dX4_current_27 : decode cX4_current 27 = .ok (.aload_n 0, 1) := by decide +kernel
theorem dX4_current_28 : decode cX4_current 28 = .ok (.getfield 9, 3) := by decide +kernel
theorem dX4_current_31 : decode cX4_current 31 = .ok (.aload_n 0, 1) := by decide +kernel
theorem dX4_current_32 : decode cX4_current 32 = .ok (.getfield 24, 3) := by decide +kernel
